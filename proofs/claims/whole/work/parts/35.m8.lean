def f_X9_mostTold_97 (x1 : Int32) (x2 : Int32) (σ : St) (rec6 : Int32 → Int32 → Option Int32) (v3 : Int32) (v4 : Int32) : Option Int32 := (rec6 v3 (v4 + (2 : Int32)))
theorem f_X9_mostTold_97_e {x1 : Int32} {x2 : Int32} {σ : St} {rec6 : Int32 → Int32 → Option Int32} {v3 : Int32} {v4 : Int32} : f_X9_mostTold_97 x1 x2 σ rec6 v3 v4 = (rec6 v3 (v4 + (2 : Int32))) := rfl
def f_X9_mostTold_94 (x1 : Int32) (x2 : Int32) (σ : St) (rec6 : Int32 → Int32 → Option Int32) (v4 : Int32) (v5 : Int32) : Option Int32 := (f_X9_mostTold_97 x1 x2 σ rec6 v5 v4)
theorem f_X9_mostTold_94_e {x1 : Int32} {x2 : Int32} {σ : St} {rec6 : Int32 → Int32 → Option Int32} {v4 : Int32} {v5 : Int32} : f_X9_mostTold_94 x1 x2 σ rec6 v4 v5 = (f_X9_mostTold_97 x1 x2 σ rec6 v5 v4) := rfl
def f_X9_mostTold_76 (x1 : Int32) (x2 : Int32) (σ : St) (rec6 : Int32 → Int32 → Option Int32) (v3 : Int32) (v4 : Int32) (v5 : Int32) (z0 : Int32) : Option Int32 := (if 0 < z0 then f_X9_mostTold_94 x1 x2 σ rec6 v4 v5 else (if z0 = 0 then (if v3 ≤ v5 then f_X9_mostTold_97 x1 x2 σ rec6 v3 v4 else f_X9_mostTold_94 x1 x2 σ rec6 v4 v5) else f_X9_mostTold_97 x1 x2 σ rec6 v3 v4))
theorem f_X9_mostTold_76_e {x1 : Int32} {x2 : Int32} {σ : St} {rec6 : Int32 → Int32 → Option Int32} {v3 : Int32} {v4 : Int32} {v5 : Int32} {z0 : Int32} : f_X9_mostTold_76 x1 x2 σ rec6 v3 v4 v5 z0 = (if 0 < z0 then f_X9_mostTold_94 x1 x2 σ rec6 v4 v5 else (if z0 = 0 then (if v3 ≤ v5 then f_X9_mostTold_97 x1 x2 σ rec6 v3 v4 else f_X9_mostTold_94 x1 x2 σ rec6 v4 v5) else f_X9_mostTold_97 x1 x2 σ rec6 v3 v4)) := rfl
def f_X9_mostTold_6 (x1 : Int32) (x2 : Int32) (σ : St) : Nat → (Int32 → Int32 → Option Int32)
  | 0 => fun _ _ => none
  | fl + 1 => fun v3 v4 => (if inb x1 8 then if (σ 73 x1.toNatClampNeg) ≤ v4 then (some v3) else (if inb ((((100 : Int32) * x1) + v4) + (1 : Int32)) 800 then if inb (((100 : Int32) * x1) + v4) 800 then if (σ 74 (((100 : Int32) * x1) + v4).toNatClampNeg) = x2 then (if 0 ≤ v3 then (ob (f_X9_toldOften x1 x2 (σ 74 ((((100 : Int32) * x1) + v4) + (1 : Int32)).toNatClampNeg) σ) (fun q10 => ob (f_X9_toldOften x1 x2 v3 σ) (fun q12 => f_X9_mostTold_76 x1 x2 σ (f_X9_mostTold_6 x1 x2 σ fl) v3 v4 (σ 74 ((((100 : Int32) * x1) + v4) + (1 : Int32)).toNatClampNeg) (q10 - q12)))) else (f_X9_mostTold_76 x1 x2 σ (f_X9_mostTold_6 x1 x2 σ fl) v3 v4 (σ 74 ((((100 : Int32) * x1) + v4) + (1 : Int32)).toNatClampNeg) (1 : Int32))) else (f_X9_mostTold_97 x1 x2 σ (f_X9_mostTold_6 x1 x2 σ fl) v3 v4) else none else none) else none)
theorem f_X9_mostTold_6_s {x1 : Int32} {x2 : Int32} {σ : St} (fl : Nat) {v3 : Int32} {v4 : Int32} : f_X9_mostTold_6 x1 x2 σ (fl + 1) v3 v4 = (if inb x1 8 then if (σ 73 x1.toNatClampNeg) ≤ v4 then (some v3) else (if inb ((((100 : Int32) * x1) + v4) + (1 : Int32)) 800 then if inb (((100 : Int32) * x1) + v4) 800 then if (σ 74 (((100 : Int32) * x1) + v4).toNatClampNeg) = x2 then (if 0 ≤ v3 then (ob (f_X9_toldOften x1 x2 (σ 74 ((((100 : Int32) * x1) + v4) + (1 : Int32)).toNatClampNeg) σ) (fun q10 => ob (f_X9_toldOften x1 x2 v3 σ) (fun q12 => f_X9_mostTold_76 x1 x2 σ (f_X9_mostTold_6 x1 x2 σ fl) v3 v4 (σ 74 ((((100 : Int32) * x1) + v4) + (1 : Int32)).toNatClampNeg) (q10 - q12)))) else (f_X9_mostTold_76 x1 x2 σ (f_X9_mostTold_6 x1 x2 σ fl) v3 v4 (σ 74 ((((100 : Int32) * x1) + v4) + (1 : Int32)).toNatClampNeg) (1 : Int32))) else (f_X9_mostTold_97 x1 x2 σ (f_X9_mostTold_6 x1 x2 σ fl) v3 v4) else none else none) else none) := rfl
def f_X9_mostTold (x1 : Int32) (x2 : Int32) (σ : St) : Option Int32 := (f_X9_mostTold_6 x1 x2 σ fu (-4 : Int32) (0 : Int32))
set_option maxRecDepth 100000 in
set_option maxHeartbeats 4000000 in
theorem t_X9_mostTold (l : Launch) (G : GT) (hG : Dw G) (x1 : Int32) (x2 : Int32) (σ : St) (o : Int32) (hF : f_X9_mostTold x1 x2 σ = some o) : Ct l G yX9_mostTold wsX9_mostTold 1 25 [.ref (gA G 61), .int x1, .int x2] σ (some (.int o)) σ := by
  refine Met.ofW (cc := cX9_mostTold) (maxL := 7) (ret := (some .int)) (by decide) rfl ?_
  intro p e s m args below meth c s₁ B hml hv
  obtain ⟨rfl, hP, hK⟩ := hv
  have hx := B.exec
  have hb := B.bytes
  have hr := B.returns
  have hts := atoms_spec (ws := wsX9_mostTold) B.pre
  have hown : s.vm.findClass RX9 = some m.cls := findClass_of_methodNamed B.named
  have hlocks := B.notSynchronized
  have Z : CallFix p m c cX9_mostTold 7 s _ wsX9_mostTold RX9 := ⟨hx, hb, hml, hown, hts⟩
  have hS : va_S (AG G) s.heap s.heap [] := va_S.rf
  have inX9 : ∀ w ∈ u_ws RX9 TX9 21, w ∈ wsX9_mostTold := by decide +kernel
  have w1 := hts (.fieldLink RX9 43 "AlmanacOfTheYearGoneModel" "size" "[I") (by decide +kernel)
  have w2 := hts (.fieldLink RX9 46 "AlmanacOfTheYearGoneModel" "element" "[I") (by decide +kernel)
  have hl := lv_entry ([.ref (gA G 61), .int x1, .int x2]) (n := 7) (Nat.le_of_ble_eq_true rfl)
  rw [lg_entry_eq]
  generalize (lg_sl ([.ref (gA G 61), .int x1, .int x2]) ++ List.replicate (7 - (lg_sl ([.ref (gA G 61), .int x1, .int x2])).length) Slot.unset).toArray = ls at hl ⊢
  have hl : lv_has ls 7 [(0, .ref (gA G 61)), (1, .int x1), (2, .int x2)] := hl
  unfold f_X9_mostTold at hF
  refine lv_bipush (v := -4) hx hb dX9_mostTold_0 (by decide) ?_
  refine lv_istore_n (lv' := [(3, .int (-4 : Int32)), (0, .ref (gA G 61)), (1, .int x1), (2, .int x2)]) hx hb dX9_mostTold_2 rfl hl (by decide) rfl (fun ls hl => ?_)
  refine lv_iconst (v := 0) hx hb dX9_mostTold_3 (by decide) ?_
  have J6 : ∀ (fl : Nat) (v3 : Int32) (v4 : Int32) (H : Heap) (locs : List Loc) (hP : Pw G σ H) (hS : va_S (AG G) s.heap H locs) (ls : Array Slot) (hl : lv_has ls 7 [(0, .ref (gA G 61)), (1, .int x1), (2, .int x2), (3, .int v3), (4, .int v4)]) (hF : f_X9_mostTold_6 x1 x2 σ fl v3 v4 = some o), W p l e (headSpec wsX9_mostTold ({ frames := 1, cells := 0, slots := 0, locals := 25 })).room s m ([.ref (gA G 61), .int x1, .int x2] : List Value).toArray below meth c H locs 0 0 (MQ below (qR G (some (.int o)) σ) ([.ref (gA G 61), .int x1, .int x2] : List Value).toArray s 0 0 (AG G)) (F0 m 6 ls []) := by
    intro fl6
    induction fl6 with
    | zero => intro v3 v4 H locs hP hS ls hl hF; cases hF
    | succ fl6 ih6 =>
      intro v3 v4 H locs hP hS ls hl hF
      rw [f_X9_mostTold_6_s] at hF
      refine lv_iload hx hb dX9_mostTold_6 (lv_at hl 4 rfl) ?_
      refine lv_aload_n hx hb dX9_mostTold_8 rfl (lv_at hl 0 rfl) ?_
      refine va_get (ci := 5) (C := RX9) (T := TX9) (N := 21) (v := .ref (gA G 73)) hx hb hts inX9 hown hK.1 hP 61 (at_5 rfl) rfl 18 (by decide) w1 (fun _ h9 => h9) rfl dX9_mostTold_9 ?_
      refine lv_iload_n hx hb dX9_mostTold_12 rfl (lv_at hl 1 rfl) ?_
      obtain ⟨b1, hF⟩ := ite_some hF
      refine va_iald hx hb hK.1 hP 73 0 (at_6 (rfl : kd 73 = 6) (rfl : ln 73 = 8)) rfl (inb_in b1) dX9_mostTold_13 ?_
      refine lv_icmp_ge (tgt := 103) hx hb dX9_mostTold_14 (by decide) (fun c2 => ?_) (fun c2 => ?_)
      · have hF := ite_t c2 hF
        refine lv_iload_n hx hb dX9_mostTold_103 rfl (lv_at hl 3 rfl) ?_
        exact e_iP hx hb hr hP hS hlocks dX9_mostTold_104 hF
      · have hF := ite_f c2 hF
        refine lv_aload_n hx hb dX9_mostTold_17 rfl (lv_at hl 0 rfl) ?_
        refine va_get (ci := 5) (C := RX9) (T := TX9) (N := 21) (v := .ref (gA G 74)) hx hb hts inX9 hown hK.1 hP 61 (at_5 rfl) rfl 19 (by decide) w2 (fun _ h9 => h9) rfl dX9_mostTold_18 ?_
        refine lv_bipush (v := 100) hx hb dX9_mostTold_21 (by decide) ?_
        refine lv_iload_n hx hb dX9_mostTold_23 rfl (lv_at hl 1 rfl) ?_
        refine lv_imul hx hb dX9_mostTold_24 ?_
        refine lv_iload hx hb dX9_mostTold_25 (lv_at hl 4 rfl) ?_
        refine lv_iadd hx hb dX9_mostTold_27 ?_
        refine lv_iconst (v := 1) hx hb dX9_mostTold_28 (by decide) ?_
        refine lv_iadd hx hb dX9_mostTold_29 ?_
        obtain ⟨b3, hF⟩ := ite_some hF
        refine va_iald hx hb hK.1 hP 74 0 (at_6 (rfl : kd 74 = 6) (rfl : ln 74 = 800)) rfl (inb_in b3) dX9_mostTold_30 ?_
        refine lv_istore (lv' := [(5, .int (σ 74 ((((100 : Int32) * x1) + v4) + (1 : Int32)).toNatClampNeg)), (0, .ref (gA G 61)), (1, .int x1), (2, .int x2), (3, .int v3), (4, .int v4)]) hx hb dX9_mostTold_31 hl (by decide) rfl (fun ls hl => ?_)
        refine lv_aload_n hx hb dX9_mostTold_33 rfl (lv_at hl 1 rfl) ?_
        refine va_get (ci := 5) (C := RX9) (T := TX9) (N := 21) (v := .ref (gA G 74)) hx hb hts inX9 hown hK.1 hP 61 (at_5 rfl) rfl 19 (by decide) w2 (fun _ h9 => h9) rfl dX9_mostTold_34 ?_
        refine lv_bipush (v := 100) hx hb dX9_mostTold_37 (by decide) ?_
        refine lv_iload_n hx hb dX9_mostTold_39 rfl (lv_at hl 2 rfl) ?_
        refine lv_imul hx hb dX9_mostTold_40 ?_
        refine lv_iload hx hb dX9_mostTold_41 (lv_at hl 5 rfl) ?_
        refine lv_iadd hx hb dX9_mostTold_43 ?_
        obtain ⟨b4, hF⟩ := ite_some hF
        refine va_iald hx hb hK.1 hP 74 0 (at_6 (rfl : kd 74 = 6) (rfl : ln 74 = 800)) rfl (inb_in b4) dX9_mostTold_44 ?_
        refine lv_iload_n hx hb dX9_mostTold_45 rfl (lv_at hl 3 rfl) ?_
        have J97 : ∀ (v3 : Int32) (v4 : Int32) (H : Heap) (locs : List Loc) (hP : Pw G σ H) (hS : va_S (AG G) s.heap H locs) (ls : Array Slot) (hl : lv_has ls 7 [(0, .ref (gA G 61)), (1, .int x1), (2, .int x2), (3, .int v3), (4, .int v4)]) (hF : f_X9_mostTold_97 x1 x2 σ (f_X9_mostTold_6 x1 x2 σ fl6) v3 v4 = some o), W p l e (headSpec wsX9_mostTold ({ frames := 1, cells := 0, slots := 0, locals := 25 })).room s m ([.ref (gA G 61), .int x1, .int x2] : List Value).toArray below meth c H locs 0 0 (MQ below (qR G (some (.int o)) σ) ([.ref (gA G 61), .int x1, .int x2] : List Value).toArray s 0 0 (AG G)) (F0 m 97 ls []) := by
          intro v3 v4 H locs hP hS ls hl hF
          rw [f_X9_mostTold_97_e] at hF
          refine lv_iinc (v := (v4 + (2 : Int32))) (lv' := [(4, .int (v4 + (2 : Int32))), (0, .ref (gA G 61)), (1, .int x1), (2, .int x2), (3, .int v3)]) hx hb dX9_mostTold_97 hl (k := 4) rfl rfl (by decide) rfl (fun ls hl => ?_)
          refine lv_goto (tgt := 6) hx hb dX9_mostTold_100 (by decide) ?_
          exact ih6 v3 (v4 + (2 : Int32)) _ _ hP hS ls (lv_sub hl [1, 2, 3, 4, 0] rfl) hF
        refine lv_icmp_eq (tgt := 52) hx hb dX9_mostTold_46 (by decide) (fun c5 => ?_) (fun c5 => ?_)
        · have hF := ite_t c5 hF
          refine lv_iload_n hx hb dX9_mostTold_52 rfl (lv_at hl 4 rfl) ?_
          have J76 : ∀ (v3 : Int32) (v4 : Int32) (v5 : Int32) (z0 : Int32) (H : Heap) (locs : List Loc) (hP : Pw G σ H) (hS : va_S (AG G) s.heap H locs) (ls : Array Slot) (hl : lv_has ls 7 [(0, .ref (gA G 61)), (1, .int x1), (2, .int x2), (3, .int v3), (4, .int v4), (5, .int v5)]) (hF : f_X9_mostTold_76 x1 x2 σ (f_X9_mostTold_6 x1 x2 σ fl6) v3 v4 v5 z0 = some o), W p l e (headSpec wsX9_mostTold ({ frames := 1, cells := 0, slots := 0, locals := 25 })).room s m ([.ref (gA G 61), .int x1, .int x2] : List Value).toArray below meth c H locs 0 0 (MQ below (qR G (some (.int o)) σ) ([.ref (gA G 61), .int x1, .int x2] : List Value).toArray s 0 0 (AG G)) (F0 m 76 ls [.int z0]) := by
            intro v3 v4 v5 z0 H locs hP hS ls hl hF
            rw [f_X9_mostTold_76_e] at hF
            refine lv_istore (lv' := [(6, .int z0), (0, .ref (gA G 61)), (1, .int x1), (2, .int x2), (3, .int v3), (4, .int v4), (5, .int v5)]) hx hb dX9_mostTold_76 hl (by decide) rfl (fun ls hl => ?_)
            refine lv_iload hx hb dX9_mostTold_78 (lv_at hl 0 rfl) ?_
            have J94 : ∀ (v4 : Int32) (v5 : Int32) (H : Heap) (locs : List Loc) (hP : Pw G σ H) (hS : va_S (AG G) s.heap H locs) (ls : Array Slot) (hl : lv_has ls 7 [(0, .ref (gA G 61)), (1, .int x1), (2, .int x2), (4, .int v4), (5, .int v5)]) (hF : f_X9_mostTold_94 x1 x2 σ (f_X9_mostTold_6 x1 x2 σ fl6) v4 v5 = some o), W p l e (headSpec wsX9_mostTold ({ frames := 1, cells := 0, slots := 0, locals := 25 })).room s m ([.ref (gA G 61), .int x1, .int x2] : List Value).toArray below meth c H locs 0 0 (MQ below (qR G (some (.int o)) σ) ([.ref (gA G 61), .int x1, .int x2] : List Value).toArray s 0 0 (AG G)) (F0 m 94 ls []) := by
              intro v4 v5 H locs hP hS ls hl hF
              rw [f_X9_mostTold_94_e] at hF
              refine lv_iload hx hb dX9_mostTold_94 (lv_at hl 4 rfl) ?_
              refine lv_istore_n (lv' := [(3, .int v5), (0, .ref (gA G 61)), (1, .int x1), (2, .int x2), (4, .int v4), (5, .int v5)]) hx hb dX9_mostTold_96 rfl hl (by decide) rfl (fun ls hl => ?_)
              exact J97 v5 v4 _ _ hP hS ls (lv_sub hl [1, 2, 3, 0, 4] rfl) hF
            refine lv_if_gt (tgt := 94) hx hb dX9_mostTold_80 (by decide) (fun c6 => ?_) (fun c6 => ?_)
            · have hF := ite_t c6 hF
              exact J94 v4 v5 _ _ hP hS ls (lv_sub hl [1, 2, 3, 5, 6] rfl) hF
            · have hF := ite_f c6 hF
              refine lv_iload hx hb dX9_mostTold_83 (lv_at hl 0 rfl) ?_
              refine lv_if_ne (tgt := 97) hx hb dX9_mostTold_85 (by decide) (fun c7 => ?_) (fun c7 => ?_)
              · have hF := ite_f c7 hF
                exact J97 v3 v4 _ _ hP hS ls (lv_sub hl [1, 2, 3, 4, 5] rfl) hF
              · have hF := ite_t c7 hF
                refine lv_iload hx hb dX9_mostTold_88 (lv_at hl 6 rfl) ?_
                refine lv_iload_n hx hb dX9_mostTold_90 rfl (lv_at hl 4 rfl) ?_
                refine lv_icmp_ge (tgt := 97) hx hb dX9_mostTold_91 (by decide) (fun c8 => ?_) (fun c8 => ?_)
                · have hF := ite_t c8 hF
                  exact J97 v3 v4 _ _ hP hS ls (lv_sub hl [1, 2, 3, 4, 5] rfl) hF
                · have hF := ite_f c8 hF
                  exact J94 v4 v5 _ _ hP hS ls (lv_sub hl [1, 2, 3, 5, 6] rfl) hF
          refine lv_if_ge (tgt := 60) hx hb dX9_mostTold_53 (by decide) (fun c9 => ?_) (fun c9 => ?_)
          · have hF := ite_t c9 hF
            refine lv_aload_n hx hb dX9_mostTold_60 rfl (lv_at hl 1 rfl) ?_
            refine lv_iload_n hx hb dX9_mostTold_61 rfl (lv_at hl 2 rfl) ?_
            refine lv_iload_n hx hb dX9_mostTold_62 rfl (lv_at hl 3 rfl) ?_
            refine lv_iload hx hb dX9_mostTold_63 (lv_at hl 0 rfl) ?_
            obtain ⟨q10, h11, hF⟩ := ob_some hF
            refine k_Vv (As := [.int x1, .int x2, .int (σ 74 ((((100 : Int32) * x1) + v4) + (1 : Int32)).toNatClampNeg)]) (rest := []) Z hK hP hS (t_X9_toldOften l G hG x1 x2 (σ 74 ((((100 : Int32) * x1) + v4) + (1 : Int32)).toNatClampNeg) σ _ h11) (cwV 3 hts gX9_mostTold_X9_toldOften rfl rfl rfl (by decide +kernel) ⟨Nat.le_of_ble_eq_true rfl, Nat.le_of_ble_eq_true rfl⟩) (at_5 rfl) rfl rfl hl.1 rfl (Nat.le_of_ble_eq_true rfl) ⟨Nat.zero_le _, Nat.zero_le _⟩ dX9_mostTold_65 (fun H locs hP hS => ?_)
            refine lv_aload_n hx hb dX9_mostTold_68 rfl (lv_at hl 1 rfl) ?_
            refine lv_iload_n hx hb dX9_mostTold_69 rfl (lv_at hl 2 rfl) ?_
            refine lv_iload_n hx hb dX9_mostTold_70 rfl (lv_at hl 3 rfl) ?_
            refine lv_iload_n hx hb dX9_mostTold_71 rfl (lv_at hl 4 rfl) ?_
            obtain ⟨q12, h13, hF⟩ := ob_some hF
            refine k_Vv (As := [.int x1, .int x2, .int v3]) (rest := [.int q10]) Z hK hP hS (t_X9_toldOften l G hG x1 x2 v3 σ _ h13) (cwV 3 hts gX9_mostTold_X9_toldOften rfl rfl rfl (by decide +kernel) ⟨Nat.le_of_ble_eq_true rfl, Nat.le_of_ble_eq_true rfl⟩) (at_5 rfl) rfl rfl hl.1 rfl (Nat.le_of_ble_eq_true rfl) ⟨Nat.zero_le _, Nat.zero_le _⟩ dX9_mostTold_72 (fun H locs hP hS => ?_)
            refine lv_isub hx hb dX9_mostTold_75 ?_
            exact J76 v3 v4 (σ 74 ((((100 : Int32) * x1) + v4) + (1 : Int32)).toNatClampNeg) (q10 - q12) _ _ hP hS ls (lv_sub hl [1, 2, 3, 4, 5, 0] rfl) hF
          · have hF := ite_f c9 hF
            refine lv_iconst (v := 1) hx hb dX9_mostTold_56 (by decide) ?_
            refine lv_goto (tgt := 76) hx hb dX9_mostTold_57 (by decide) ?_
            exact J76 v3 v4 (σ 74 ((((100 : Int32) * x1) + v4) + (1 : Int32)).toNatClampNeg) (1 : Int32) _ _ hP hS ls (lv_sub hl [1, 2, 3, 4, 5, 0] rfl) hF
        · have hF := ite_f c5 hF
          refine lv_goto (tgt := 97) hx hb dX9_mostTold_49 (by decide) ?_
          exact J97 v3 v4 _ _ hP hS ls (lv_sub hl [1, 2, 3, 4, 5] rfl) hF
  refine lv_istore (lv' := [(4, .int (0 : Int32)), (3, .int (-4 : Int32)), (0, .ref (gA G 61)), (1, .int x1), (2, .int x2)]) hx hb dX9_mostTold_4 hl (by decide) rfl (fun ls hl => ?_)
  exact J6 fu (-4 : Int32) (0 : Int32) _ _ hP hS ls (lv_sub hl [2, 3, 4, 1, 0] rfl) hF
def f_X9_slips_153 (x1 : Int32) (x2 : Int32) (σ : St) (rec92 : Int32 → Int32 → Option Int32) (v5 : Int32) (z0 : Int32) (z1 : Int32) : Option Int32 := (rec92 (z0 + z1) (v5 + (2 : Int32)))
theorem f_X9_slips_153_e {x1 : Int32} {x2 : Int32} {σ : St} {rec92 : Int32 → Int32 → Option Int32} {v5 : Int32} {z0 : Int32} {z1 : Int32} : f_X9_slips_153 x1 x2 σ rec92 v5 z0 z1 = (rec92 (z0 + z1) (v5 + (2 : Int32))) := rfl
def f_X9_slips_92 (x1 : Int32) (x2 : Int32) (σ : St) : Nat → (Int32 → Int32 → Option Int32)
  | 0 => fun _ _ => none
  | fl + 1 => fun v4 v5 => (if inb x1 8 then if (σ 73 x1.toNatClampNeg) ≤ v5 then (some v4) else (if x2 = (1 : Int32) then (if inb ((((100 : Int32) * x1) + v5) + (1 : Int32)) 800 then if inb (((100 : Int32) * x1) + v5) 800 then if inb (f_X9_of (σ 74 (((100 : Int32) * x1) + v5).toNatClampNeg) (2 : Int32)) 52 then if (σ 74 ((((100 : Int32) * x1) + v5) + (1 : Int32)).toNatClampNeg) = (σ 62 (f_X9_of (σ 74 (((100 : Int32) * x1) + v5).toNatClampNeg) (2 : Int32)).toNatClampNeg) then (f_X9_slips_153 x1 x2 σ (f_X9_slips_92 x1 x2 σ fl) v5 v4 (0 : Int32)) else (f_X9_slips_153 x1 x2 σ (f_X9_slips_92 x1 x2 σ fl) v5 v4 (1 : Int32)) else none else none else none) else (some v4)) else none)
theorem f_X9_slips_92_s {x1 : Int32} {x2 : Int32} {σ : St} (fl : Nat) {v4 : Int32} {v5 : Int32} : f_X9_slips_92 x1 x2 σ (fl + 1) v4 v5 = (if inb x1 8 then if (σ 73 x1.toNatClampNeg) ≤ v5 then (some v4) else (if x2 = (1 : Int32) then (if inb ((((100 : Int32) * x1) + v5) + (1 : Int32)) 800 then if inb (((100 : Int32) * x1) + v5) 800 then if inb (f_X9_of (σ 74 (((100 : Int32) * x1) + v5).toNatClampNeg) (2 : Int32)) 52 then if (σ 74 ((((100 : Int32) * x1) + v5) + (1 : Int32)).toNatClampNeg) = (σ 62 (f_X9_of (σ 74 (((100 : Int32) * x1) + v5).toNatClampNeg) (2 : Int32)).toNatClampNeg) then (f_X9_slips_153 x1 x2 σ (f_X9_slips_92 x1 x2 σ fl) v5 v4 (0 : Int32)) else (f_X9_slips_153 x1 x2 σ (f_X9_slips_92 x1 x2 σ fl) v5 v4 (1 : Int32)) else none else none else none) else (some v4)) else none) := rfl
def f_X9_slips_89 (x1 : Int32) (x2 : Int32) (σ : St) (v4 : Int32) : Option Int32 := (f_X9_slips_92 x1 x2 σ fu v4 (0 : Int32))
theorem f_X9_slips_89_e {x1 : Int32} {x2 : Int32} {σ : St} {v4 : Int32} : f_X9_slips_89 x1 x2 σ v4 = (f_X9_slips_92 x1 x2 σ fu v4 (0 : Int32)) := rfl
def f_X9_slips_83 (x1 : Int32) (x2 : Int32) (σ : St) (rec29 : Int32 → Int32 → Option Int32) (v4 : Int32) (v5 : Int32) : Option Int32 := (rec29 v4 (v5 + (1 : Int32)))
theorem f_X9_slips_83_e {x1 : Int32} {x2 : Int32} {σ : St} {rec29 : Int32 → Int32 → Option Int32} {v4 : Int32} {v5 : Int32} : f_X9_slips_83 x1 x2 σ rec29 v4 v5 = (rec29 v4 (v5 + (1 : Int32))) := rfl
def f_X9_slips_29 (x1 : Int32) (x2 : Int32) (σ : St) : Nat → (Int32 → Int32 → Option Int32)
  | 0 => fun _ _ => none
  | fl + 1 => fun v4 v5 => (if (σ 62 0) ≤ v5 then f_X9_slips_89 x1 x2 σ v4 else (if x2 = 0 then (ob (f_X9_toldOften x1 v5 (-1 : Int32) σ) (fun q14 => if q14 ≤ 0 then f_X9_slips_83 x1 x2 σ (f_X9_slips_29 x1 x2 σ fl) v4 v5 else (ob (f_X9_toldOften x1 v5 (-1 : Int32) σ) (fun q17 => ob (f_X9_mostTold x1 v5 σ) (fun q19 => ob (f_X9_toldOften x1 v5 q19 σ) (fun q21 => f_X9_slips_83 x1 x2 σ (f_X9_slips_29 x1 x2 σ fl) (v4 + (q17 - q21)) v5)))))) else f_X9_slips_89 x1 x2 σ v4))
theorem f_X9_slips_29_s {x1 : Int32} {x2 : Int32} {σ : St} (fl : Nat) {v4 : Int32} {v5 : Int32} : f_X9_slips_29 x1 x2 σ (fl + 1) v4 v5 = (if (σ 62 0) ≤ v5 then f_X9_slips_89 x1 x2 σ v4 else (if x2 = 0 then (ob (f_X9_toldOften x1 v5 (-1 : Int32) σ) (fun q14 => if q14 ≤ 0 then f_X9_slips_83 x1 x2 σ (f_X9_slips_29 x1 x2 σ fl) v4 v5 else (ob (f_X9_toldOften x1 v5 (-1 : Int32) σ) (fun q17 => ob (f_X9_mostTold x1 v5 σ) (fun q19 => ob (f_X9_toldOften x1 v5 q19 σ) (fun q21 => f_X9_slips_83 x1 x2 σ (f_X9_slips_29 x1 x2 σ fl) (v4 + (q17 - q21)) v5)))))) else f_X9_slips_89 x1 x2 σ v4)) := rfl
def f_X9_slips (x1 : Int32) (x2 : Int32) (σ : St) : Option Int32 := (if (f_X9_isIn x2 (0 : Int32) (1 : Int32)) = true then (ob (f_X9_wrongDiary x1 σ) (fun q2 => if q2 = 0 then (f_X9_slips_29 x1 x2 σ fu (0 : Int32) (0 : Int32)) else (some q2))) else (some (-1 : Int32)))
set_option maxRecDepth 100000 in
set_option maxHeartbeats 4000000 in
theorem t_X9_slips (l : Launch) (G : GT) (hG : Dw G) (x1 : Int32) (x2 : Int32) (σ : St) (o : Int32) (hF : f_X9_slips x1 x2 σ = some o) : Ct l G yX9_slips wsX9_slips 4 87 [.ref (gA G 61), .int x1, .int x2] σ (some (.int o)) σ := by
  refine Met.ofW (cc := cX9_slips) (maxL := 6) (ret := (some .int)) (by decide) rfl ?_
  intro p e s m args below meth c s₁ B hml hv
  obtain ⟨rfl, hP, hK⟩ := hv
  have hx := B.exec
  have hb := B.bytes
  have hr := B.returns
  have hts := atoms_spec (ws := wsX9_slips) B.pre
  have hown : s.vm.findClass RX9 = some m.cls := findClass_of_methodNamed B.named
  have hlocks := B.notSynchronized
  have Z : CallFix p m c cX9_slips 6 s _ wsX9_slips RX9 := ⟨hx, hb, hml, hown, hts⟩
  have hS : va_S (AG G) s.heap s.heap [] := va_S.rf
  have inX9 : ∀ w ∈ u_ws RX9 TX9 21, w ∈ wsX9_slips := by decide +kernel
  have w1 := hts (.fieldLink RX9 9 "AlmanacOfTheYearGoneModel" "s" "[I") (by decide +kernel)
  have w2 := hts (.fieldLink RX9 43 "AlmanacOfTheYearGoneModel" "size" "[I") (by decide +kernel)
  have w3 := hts (.fieldLink RX9 46 "AlmanacOfTheYearGoneModel" "element" "[I") (by decide +kernel)
  have hl := lv_entry ([.ref (gA G 61), .int x1, .int x2]) (n := 6) (Nat.le_of_ble_eq_true rfl)
  rw [lg_entry_eq]
  generalize (lg_sl ([.ref (gA G 61), .int x1, .int x2]) ++ List.replicate (6 - (lg_sl ([.ref (gA G 61), .int x1, .int x2])).length) Slot.unset).toArray = ls at hl ⊢
  have hl : lv_has ls 6 [(0, .ref (gA G 61)), (1, .int x1), (2, .int x2)] := hl
  unfold f_X9_slips at hF
  refine lv_iload_n hx hb dX9_slips_0 rfl (lv_at hl 2 rfl) ?_
  refine lv_iconst (v := 0) hx hb dX9_slips_1 (by decide) ?_
  refine lv_iconst (v := 1) hx hb dX9_slips_2 (by decide) ?_
  refine k_Sv (As := [.int x2, .int (0 : Int32), .int (1 : Int32)]) (rest := []) Z hK hP hS (t_X9_isIn l G hG x2 (0 : Int32) (1 : Int32) σ) (va_cwS 3 hts gX9_slips_X9_isIn rfl rfl rfl (by decide +kernel) ⟨Nat.le_of_ble_eq_true rfl, Nat.le_of_ble_eq_true rfl⟩) rfl hl.1 rfl (Nat.le_of_ble_eq_true rfl) ⟨Nat.zero_le _, Nat.zero_le _⟩ dX9_slips_3 (fun H locs hP hS => ?_)
  refine lv_if_ne (tgt := 11) hx hb dX9_slips_6 (by decide) (fun c1 => ?_) (fun c1 => ?_)
  · have hF := ite_t (b2i_n0 c1) hF
    refine lv_aload_n hx hb dX9_slips_11 rfl (lv_at hl 0 rfl) ?_
    refine lv_iload_n hx hb dX9_slips_12 rfl (lv_at hl 1 rfl) ?_
    obtain ⟨q2, h3, hF⟩ := ob_some hF
    refine k_Vv (As := [.int x1]) (rest := []) Z hK hP hS (t_X9_wrongDiary l G hG x1 σ _ h3) (cwV 1 hts gX9_slips_X9_wrongDiary rfl rfl rfl (by decide +kernel) ⟨Nat.le_of_ble_eq_true rfl, Nat.le_of_ble_eq_true rfl⟩) (at_5 rfl) rfl rfl hl.1 rfl (Nat.le_of_ble_eq_true rfl) ⟨Nat.zero_le _, Nat.zero_le _⟩ dX9_slips_13 (fun H locs hP hS => ?_)
    refine lv_istore_n (lv' := [(3, .int q2), (0, .ref (gA G 61)), (1, .int x1), (2, .int x2)]) hx hb dX9_slips_16 rfl hl (by decide) rfl (fun ls hl => ?_)
    refine lv_iload_n hx hb dX9_slips_17 rfl (lv_at hl 0 rfl) ?_
    refine lv_if_eq (tgt := 23) hx hb dX9_slips_18 (by decide) (fun c4 => ?_) (fun c4 => ?_)
    · have hF := ite_t c4 hF
      refine lv_iconst (v := 0) hx hb dX9_slips_23 (by decide) ?_
      refine lv_istore (lv' := [(4, .int (0 : Int32)), (3, .int q2), (0, .ref (gA G 61)), (1, .int x1), (2, .int x2)]) hx hb dX9_slips_24 hl (by decide) rfl (fun ls hl => ?_)
      refine lv_iconst (v := 0) hx hb dX9_slips_26 (by decide) ?_
      have J29 : ∀ (fl : Nat) (v4 : Int32) (v5 : Int32) (H : Heap) (locs : List Loc) (hP : Pw G σ H) (hS : va_S (AG G) s.heap H locs) (ls : Array Slot) (hl : lv_has ls 6 [(0, .ref (gA G 61)), (1, .int x1), (2, .int x2), (4, .int v4), (5, .int v5)]) (hF : f_X9_slips_29 x1 x2 σ fl v4 v5 = some o), W p l e (headSpec wsX9_slips ({ frames := 4, cells := 0, slots := 0, locals := 87 })).room s m ([.ref (gA G 61), .int x1, .int x2] : List Value).toArray below meth c H locs 0 0 (MQ below (qR G (some (.int o)) σ) ([.ref (gA G 61), .int x1, .int x2] : List Value).toArray s 0 0 (AG G)) (F0 m 29 ls []) := by
        intro fl29
        induction fl29 with
        | zero => intro v4 v5 H locs hP hS ls hl hF; cases hF
        | succ fl29 ih29 =>
          intro v4 v5 H locs hP hS ls hl hF
          rw [f_X9_slips_29_s] at hF
          refine lv_iload hx hb dX9_slips_29 (lv_at hl 4 rfl) ?_
          refine lv_aload_n hx hb dX9_slips_31 rfl (lv_at hl 0 rfl) ?_
          refine va_get (ci := 5) (C := RX9) (T := TX9) (N := 21) (v := .ref (gA G 62)) hx hb hts inX9 hown hK.1 hP 61 (at_5 rfl) rfl 0 (by decide) w1 (fun _ h9 => h9) rfl dX9_slips_32 ?_
          refine lv_iconst (v := 0) hx hb dX9_slips_35 (by decide) ?_
          refine va_iald hx hb hK.1 hP 62 0 (at_6 (rfl : kd 62 = 6) (rfl : ln 62 = 52)) rfl (inb_in (by decide)) dX9_slips_36 ?_
          refine W.eq (g2 := F0 m 37 ls ([.int (σ 62 0), .int v5])) rfl ?_
          have J89 : ∀ (v4 : Int32) (H : Heap) (locs : List Loc) (hP : Pw G σ H) (hS : va_S (AG G) s.heap H locs) (ls : Array Slot) (hl : lv_has ls 6 [(0, .ref (gA G 61)), (1, .int x1), (2, .int x2), (4, .int v4)]) (hF : f_X9_slips_89 x1 x2 σ v4 = some o), W p l e (headSpec wsX9_slips ({ frames := 4, cells := 0, slots := 0, locals := 87 })).room s m ([.ref (gA G 61), .int x1, .int x2] : List Value).toArray below meth c H locs 0 0 (MQ below (qR G (some (.int o)) σ) ([.ref (gA G 61), .int x1, .int x2] : List Value).toArray s 0 0 (AG G)) (F0 m 89 ls []) := by
            intro v4 H locs hP hS ls hl hF
            rw [f_X9_slips_89_e] at hF
            refine lv_iconst (v := 0) hx hb dX9_slips_89 (by decide) ?_
            have J92 : ∀ (fl : Nat) (v4 : Int32) (v5 : Int32) (H : Heap) (locs : List Loc) (hP : Pw G σ H) (hS : va_S (AG G) s.heap H locs) (ls : Array Slot) (hl : lv_has ls 6 [(0, .ref (gA G 61)), (1, .int x1), (2, .int x2), (4, .int v4), (5, .int v5)]) (hF : f_X9_slips_92 x1 x2 σ fl v4 v5 = some o), W p l e (headSpec wsX9_slips ({ frames := 4, cells := 0, slots := 0, locals := 87 })).room s m ([.ref (gA G 61), .int x1, .int x2] : List Value).toArray below meth c H locs 0 0 (MQ below (qR G (some (.int o)) σ) ([.ref (gA G 61), .int x1, .int x2] : List Value).toArray s 0 0 (AG G)) (F0 m 92 ls []) := by
              intro fl92
              induction fl92 with
              | zero => intro v4 v5 H locs hP hS ls hl hF; cases hF
              | succ fl92 ih92 =>
                intro v4 v5 H locs hP hS ls hl hF
                rw [f_X9_slips_92_s] at hF
                refine lv_iload hx hb dX9_slips_92 (lv_at hl 4 rfl) ?_
                refine lv_aload_n hx hb dX9_slips_94 rfl (lv_at hl 0 rfl) ?_
                refine va_get (ci := 5) (C := RX9) (T := TX9) (N := 21) (v := .ref (gA G 73)) hx hb hts inX9 hown hK.1 hP 61 (at_5 rfl) rfl 18 (by decide) w2 (fun _ h9 => h9) rfl dX9_slips_95 ?_
                refine lv_iload_n hx hb dX9_slips_98 rfl (lv_at hl 1 rfl) ?_
                obtain ⟨b5, hF⟩ := ite_some hF
                refine va_iald hx hb hK.1 hP 73 0 (at_6 (rfl : kd 73 = 6) (rfl : ln 73 = 8)) rfl (inb_in b5) dX9_slips_99 ?_
                refine lv_icmp_ge (tgt := 162) hx hb dX9_slips_100 (by decide) (fun c6 => ?_) (fun c6 => ?_)
                · have hF := ite_t c6 hF
                  refine lv_iload hx hb dX9_slips_162 (lv_at hl 3 rfl) ?_
                  exact e_iP hx hb hr hP hS hlocks dX9_slips_164 hF
                · have hF := ite_f c6 hF
                  refine lv_iload_n hx hb dX9_slips_103 rfl (lv_at hl 2 rfl) ?_
                  refine lv_iconst (v := 1) hx hb dX9_slips_104 (by decide) ?_
                  refine lv_icmp_ne (tgt := 162) hx hb dX9_slips_105 (by decide) (fun c7 => ?_) (fun c7 => ?_)
                  · have hF := ite_f c7 hF
                    refine lv_iload hx hb dX9_slips_162 (lv_at hl 3 rfl) ?_
                    exact e_iP hx hb hr hP hS hlocks dX9_slips_164 hF
                  · have hF := ite_t c7 hF
                    refine lv_iload hx hb dX9_slips_108 (lv_at hl 3 rfl) ?_
                    refine lv_aload_n hx hb dX9_slips_110 rfl (lv_at hl 0 rfl) ?_
                    refine va_get (ci := 5) (C := RX9) (T := TX9) (N := 21) (v := .ref (gA G 74)) hx hb hts inX9 hown hK.1 hP 61 (at_5 rfl) rfl 19 (by decide) w3 (fun _ h9 => h9) rfl dX9_slips_111 ?_
                    refine lv_bipush (v := 100) hx hb dX9_slips_114 (by decide) ?_
                    refine lv_iload_n hx hb dX9_slips_116 rfl (lv_at hl 1 rfl) ?_
                    refine lv_imul hx hb dX9_slips_117 ?_
                    refine lv_iload hx hb dX9_slips_118 (lv_at hl 4 rfl) ?_
                    refine lv_iadd hx hb dX9_slips_120 ?_
                    refine lv_iconst (v := 1) hx hb dX9_slips_121 (by decide) ?_
                    refine lv_iadd hx hb dX9_slips_122 ?_
                    obtain ⟨b8, hF⟩ := ite_some hF
                    refine va_iald hx hb hK.1 hP 74 0 (at_6 (rfl : kd 74 = 6) (rfl : ln 74 = 800)) rfl (inb_in b8) dX9_slips_123 ?_
                    refine lv_aload_n hx hb dX9_slips_124 rfl (lv_at hl 0 rfl) ?_
                    refine va_get (ci := 5) (C := RX9) (T := TX9) (N := 21) (v := .ref (gA G 62)) hx hb hts inX9 hown hK.1 hP 61 (at_5 rfl) rfl 0 (by decide) w1 (fun _ h9 => h9) rfl dX9_slips_125 ?_
                    refine lv_aload_n hx hb dX9_slips_128 rfl (lv_at hl 0 rfl) ?_
                    refine va_get (ci := 5) (C := RX9) (T := TX9) (N := 21) (v := .ref (gA G 74)) hx hb hts inX9 hown hK.1 hP 61 (at_5 rfl) rfl 19 (by decide) w3 (fun _ h9 => h9) rfl dX9_slips_129 ?_
                    refine lv_bipush (v := 100) hx hb dX9_slips_132 (by decide) ?_
                    refine lv_iload_n hx hb dX9_slips_134 rfl (lv_at hl 1 rfl) ?_
                    refine lv_imul hx hb dX9_slips_135 ?_
                    refine lv_iload hx hb dX9_slips_136 (lv_at hl 4 rfl) ?_
                    refine lv_iadd hx hb dX9_slips_138 ?_
                    obtain ⟨b9, hF⟩ := ite_some hF
                    refine va_iald hx hb hK.1 hP 74 0 (at_6 (rfl : kd 74 = 6) (rfl : ln 74 = 800)) rfl (inb_in b9) dX9_slips_139 ?_
                    refine lv_iconst (v := 2) hx hb dX9_slips_140 (by decide) ?_
                    refine k_Sv (As := [.int (σ 74 (((100 : Int32) * x1) + v5).toNatClampNeg), .int (2 : Int32)]) (rest := [.ref (gA G 62), .int (σ 74 ((((100 : Int32) * x1) + v5) + (1 : Int32)).toNatClampNeg), .int v4]) Z hK hP hS (t_X9_of l G hG (σ 74 (((100 : Int32) * x1) + v5).toNatClampNeg) (2 : Int32) σ) (va_cwS 2 hts gX9_slips_X9_of rfl rfl rfl (by decide +kernel) ⟨Nat.le_of_ble_eq_true rfl, Nat.le_of_ble_eq_true rfl⟩) rfl hl.1 rfl (Nat.le_of_ble_eq_true rfl) ⟨Nat.zero_le _, Nat.zero_le _⟩ dX9_slips_141 (fun H locs hP hS => ?_)
                    obtain ⟨b10, hF⟩ := ite_some hF
                    refine va_iald hx hb hK.1 hP 62 0 (at_6 (rfl : kd 62 = 6) (rfl : ln 62 = 52)) rfl (inb_in b10) dX9_slips_144 ?_
                    have J153 : ∀ (v5 : Int32) (z0 : Int32) (z1 : Int32) (H : Heap) (locs : List Loc) (hP : Pw G σ H) (hS : va_S (AG G) s.heap H locs) (ls : Array Slot) (hl : lv_has ls 6 [(0, .ref (gA G 61)), (1, .int x1), (2, .int x2), (5, .int v5)]) (hF : f_X9_slips_153 x1 x2 σ (f_X9_slips_92 x1 x2 σ fl92) v5 z0 z1 = some o), W p l e (headSpec wsX9_slips ({ frames := 4, cells := 0, slots := 0, locals := 87 })).room s m ([.ref (gA G 61), .int x1, .int x2] : List Value).toArray below meth c H locs 0 0 (MQ below (qR G (some (.int o)) σ) ([.ref (gA G 61), .int x1, .int x2] : List Value).toArray s 0 0 (AG G)) (F0 m 153 ls [.int z1, .int z0]) := by
                      intro v5 z0 z1 H locs hP hS ls hl hF
                      rw [f_X9_slips_153_e] at hF
                      refine lv_iadd hx hb dX9_slips_153 ?_
                      refine lv_istore (lv' := [(4, .int (z0 + z1)), (0, .ref (gA G 61)), (1, .int x1), (2, .int x2), (5, .int v5)]) hx hb dX9_slips_154 hl (by decide) rfl (fun ls hl => ?_)
                      refine lv_iinc (v := (v5 + (2 : Int32))) (lv' := [(5, .int (v5 + (2 : Int32))), (4, .int (z0 + z1)), (0, .ref (gA G 61)), (1, .int x1), (2, .int x2)]) hx hb dX9_slips_156 hl (k := 4) rfl rfl (by decide) rfl (fun ls hl => ?_)
                      refine lv_goto (tgt := 92) hx hb dX9_slips_159 (by decide) ?_
                      exact ih92 (z0 + z1) (v5 + (2 : Int32)) _ _ hP hS ls (lv_sub hl [2, 3, 4, 1, 0] rfl) hF
                    refine lv_icmp_eq (tgt := 152) hx hb dX9_slips_145 (by decide) (fun c11 => ?_) (fun c11 => ?_)
                    · have hF := ite_t c11 hF
                      refine lv_iconst (v := 0) hx hb dX9_slips_152 (by decide) ?_
                      exact J153 v5 v4 (0 : Int32) _ _ hP hS ls (lv_sub hl [0, 1, 2, 4] rfl) hF
                    · have hF := ite_f c11 hF
                      refine lv_iconst (v := 1) hx hb dX9_slips_148 (by decide) ?_
                      refine lv_goto (tgt := 153) hx hb dX9_slips_149 (by decide) ?_
                      exact J153 v5 v4 (1 : Int32) _ _ hP hS ls (lv_sub hl [0, 1, 2, 4] rfl) hF
            refine lv_istore (lv' := [(5, .int (0 : Int32)), (0, .ref (gA G 61)), (1, .int x1), (2, .int x2), (4, .int v4)]) hx hb dX9_slips_90 hl (by decide) rfl (fun ls hl => ?_)
            exact J92 fu v4 (0 : Int32) _ _ hP hS ls (lv_sub hl [1, 2, 3, 4, 0] rfl) hF
          refine lv_icmp_ge (tgt := 89) hx hb dX9_slips_37 (by decide) (fun c12 => ?_) (fun c12 => ?_)
          · have hF := ite_t c12 hF
            exact J89 v4 _ _ hP hS ls (lv_sub hl [0, 1, 2, 3] rfl) hF
          · have hF := ite_f c12 hF
            refine lv_iload_n hx hb dX9_slips_40 rfl (lv_at hl 2 rfl) ?_
            refine lv_if_ne (tgt := 89) hx hb dX9_slips_41 (by decide) (fun c13 => ?_) (fun c13 => ?_)
            · have hF := ite_f c13 hF
              exact J89 v4 _ _ hP hS ls (lv_sub hl [0, 1, 2, 3] rfl) hF
            · have hF := ite_t c13 hF
              refine lv_aload_n hx hb dX9_slips_44 rfl (lv_at hl 0 rfl) ?_
              refine lv_iload_n hx hb dX9_slips_45 rfl (lv_at hl 1 rfl) ?_
              refine lv_iload hx hb dX9_slips_46 (lv_at hl 4 rfl) ?_
              refine lv_iconst (v := -1) hx hb dX9_slips_48 (by decide) ?_
              obtain ⟨q14, h15, hF⟩ := ob_some hF
              refine k_Vv (As := [.int x1, .int v5, .int (-1 : Int32)]) (rest := []) Z hK hP hS (t_X9_toldOften l G hG x1 v5 (-1 : Int32) σ _ h15) (cwV 3 hts gX9_slips_X9_toldOften rfl rfl rfl (by decide +kernel) ⟨Nat.le_of_ble_eq_true rfl, Nat.le_of_ble_eq_true rfl⟩) (at_5 rfl) rfl rfl hl.1 rfl (Nat.le_of_ble_eq_true rfl) ⟨Nat.zero_le _, Nat.zero_le _⟩ dX9_slips_49 (fun H locs hP hS => ?_)
              have J83 : ∀ (v4 : Int32) (v5 : Int32) (H : Heap) (locs : List Loc) (hP : Pw G σ H) (hS : va_S (AG G) s.heap H locs) (ls : Array Slot) (hl : lv_has ls 6 [(0, .ref (gA G 61)), (1, .int x1), (2, .int x2), (4, .int v4), (5, .int v5)]) (hF : f_X9_slips_83 x1 x2 σ (f_X9_slips_29 x1 x2 σ fl29) v4 v5 = some o), W p l e (headSpec wsX9_slips ({ frames := 4, cells := 0, slots := 0, locals := 87 })).room s m ([.ref (gA G 61), .int x1, .int x2] : List Value).toArray below meth c H locs 0 0 (MQ below (qR G (some (.int o)) σ) ([.ref (gA G 61), .int x1, .int x2] : List Value).toArray s 0 0 (AG G)) (F0 m 83 ls []) := by
                intro v4 v5 H locs hP hS ls hl hF
                rw [f_X9_slips_83_e] at hF
                refine lv_iinc (v := (v5 + (1 : Int32))) (lv' := [(5, .int (v5 + (1 : Int32))), (0, .ref (gA G 61)), (1, .int x1), (2, .int x2), (4, .int v4)]) hx hb dX9_slips_83 hl (k := 4) rfl rfl (by decide) rfl (fun ls hl => ?_)
                refine lv_goto (tgt := 29) hx hb dX9_slips_86 (by decide) ?_
                exact ih29 v4 (v5 + (1 : Int32)) _ _ hP hS ls (lv_sub hl [1, 2, 3, 4, 0] rfl) hF
              refine lv_if_le (tgt := 83) hx hb dX9_slips_52 (by decide) (fun c16 => ?_) (fun c16 => ?_)
              · have hF := ite_t c16 hF
                exact J83 v4 v5 _ _ hP hS ls (lv_sub hl [0, 1, 2, 3, 4] rfl) hF
              · have hF := ite_f c16 hF
                refine lv_iload hx hb dX9_slips_55 (lv_at hl 3 rfl) ?_
                refine lv_aload_n hx hb dX9_slips_57 rfl (lv_at hl 0 rfl) ?_
                refine lv_iload_n hx hb dX9_slips_58 rfl (lv_at hl 1 rfl) ?_
                refine lv_iload hx hb dX9_slips_59 (lv_at hl 4 rfl) ?_
                refine lv_iconst (v := -1) hx hb dX9_slips_61 (by decide) ?_
                obtain ⟨q17, h18, hF⟩ := ob_some hF
                refine k_Vv (As := [.int x1, .int v5, .int (-1 : Int32)]) (rest := [.int v4]) Z hK hP hS (t_X9_toldOften l G hG x1 v5 (-1 : Int32) σ _ h18) (cwV 3 hts gX9_slips_X9_toldOften rfl rfl rfl (by decide +kernel) ⟨Nat.le_of_ble_eq_true rfl, Nat.le_of_ble_eq_true rfl⟩) (at_5 rfl) rfl rfl hl.1 rfl (Nat.le_of_ble_eq_true rfl) ⟨Nat.zero_le _, Nat.zero_le _⟩ dX9_slips_62 (fun H locs hP hS => ?_)
                refine lv_aload_n hx hb dX9_slips_65 rfl (lv_at hl 0 rfl) ?_
                refine lv_iload_n hx hb dX9_slips_66 rfl (lv_at hl 1 rfl) ?_
                refine lv_iload hx hb dX9_slips_67 (lv_at hl 4 rfl) ?_
                refine lv_aload_n hx hb dX9_slips_69 rfl (lv_at hl 0 rfl) ?_
                refine lv_iload_n hx hb dX9_slips_70 rfl (lv_at hl 1 rfl) ?_
                refine lv_iload hx hb dX9_slips_71 (lv_at hl 4 rfl) ?_
                obtain ⟨q19, h20, hF⟩ := ob_some hF
                refine k_Vv (As := [.int x1, .int v5]) (rest := [.int v5, .int x1, .ref (gA G 61), .int q17, .int v4]) Z hK hP hS (t_X9_mostTold l G hG x1 v5 σ _ h20) (cwV 2 hts gX9_slips_X9_mostTold rfl rfl rfl (by decide +kernel) ⟨Nat.le_of_ble_eq_true rfl, Nat.le_of_ble_eq_true rfl⟩) (at_5 rfl) rfl rfl hl.1 rfl (Nat.le_of_ble_eq_true rfl) ⟨Nat.zero_le _, Nat.zero_le _⟩ dX9_slips_73 (fun H locs hP hS => ?_)
                obtain ⟨q21, h22, hF⟩ := ob_some hF
                refine k_Vv (As := [.int x1, .int v5, .int q19]) (rest := [.int q17, .int v4]) Z hK hP hS (t_X9_toldOften l G hG x1 v5 q19 σ _ h22) (cwV 3 hts gX9_slips_X9_toldOften rfl rfl rfl (by decide +kernel) ⟨Nat.le_of_ble_eq_true rfl, Nat.le_of_ble_eq_true rfl⟩) (at_5 rfl) rfl rfl hl.1 rfl (Nat.le_of_ble_eq_true rfl) ⟨Nat.zero_le _, Nat.zero_le _⟩ dX9_slips_76 (fun H locs hP hS => ?_)
                refine lv_isub hx hb dX9_slips_79 ?_
                refine lv_iadd hx hb dX9_slips_80 ?_
                refine lv_istore (lv' := [(4, .int (v4 + (q17 - q21))), (0, .ref (gA G 61)), (1, .int x1), (2, .int x2), (5, .int v5)]) hx hb dX9_slips_81 hl (by decide) rfl (fun ls hl => ?_)
                exact J83 (v4 + (q17 - q21)) v5 _ _ hP hS ls (lv_sub hl [1, 2, 3, 0, 4] rfl) hF
      refine lv_istore (lv' := [(5, .int (0 : Int32)), (4, .int (0 : Int32)), (3, .int q2), (0, .ref (gA G 61)), (1, .int x1), (2, .int x2)]) hx hb dX9_slips_27 hl (by decide) rfl (fun ls hl => ?_)
      exact J29 fu (0 : Int32) (0 : Int32) _ _ hP hS ls (lv_sub hl [3, 4, 5, 1, 0] rfl) hF
    · have hF := ite_f c4 hF
      refine lv_iload_n hx hb dX9_slips_21 rfl (lv_at hl 0 rfl) ?_
      exact e_iP hx hb hr hP hS hlocks dX9_slips_22 hF
  · have hF := ite_f (b2i_e0 c1) hF
    refine lv_iconst (v := -1) hx hb dX9_slips_9 (by decide) ?_
    exact e_iP hx hb hr hP hS hlocks dX9_slips_10 hF
def f_X9_trueDay (x1 : Int32) (x2 : Int32) (σ : St) : Option Int32 := (ob (f_X9_isDeed x2 σ) (fun q1 => if q1 = true then (ob (f_X9_wrongDiary x1 σ) (fun q4 => if q4 = 0 then (ob (f_X9_mostTold x1 x2 σ) (fun q7 => some q7)) else (some q4))) else (some (-1 : Int32))))
set_option maxRecDepth 100000 in
set_option maxHeartbeats 4000000 in
theorem t_X9_trueDay (l : Launch) (G : GT) (hG : Dw G) (x1 : Int32) (x2 : Int32) (σ : St) (o : Int32) (hF : f_X9_trueDay x1 x2 σ = some o) : Ct l G yX9_trueDay wsX9_trueDay 4 87 [.ref (gA G 61), .int x1, .int x2] σ (some (.int o)) σ := by
  refine Met.ofW (cc := cX9_trueDay) (maxL := 4) (ret := (some .int)) (by decide) rfl ?_
  intro p e s m args below meth c s₁ B hml hv
  obtain ⟨rfl, hP, hK⟩ := hv
  have hx := B.exec
  have hb := B.bytes
  have hr := B.returns
  have hts := atoms_spec (ws := wsX9_trueDay) B.pre
  have hown : s.vm.findClass RX9 = some m.cls := findClass_of_methodNamed B.named
  have hlocks := B.notSynchronized
  have Z : CallFix p m c cX9_trueDay 4 s _ wsX9_trueDay RX9 := ⟨hx, hb, hml, hown, hts⟩
  have hS : va_S (AG G) s.heap s.heap [] := va_S.rf
  have hl := lv_entry ([.ref (gA G 61), .int x1, .int x2]) (n := 4) (Nat.le_of_ble_eq_true rfl)
  rw [lg_entry_eq]
  generalize (lg_sl ([.ref (gA G 61), .int x1, .int x2]) ++ List.replicate (4 - (lg_sl ([.ref (gA G 61), .int x1, .int x2])).length) Slot.unset).toArray = ls at hl ⊢
  have hl : lv_has ls 4 [(0, .ref (gA G 61)), (1, .int x1), (2, .int x2)] := hl
  unfold f_X9_trueDay at hF
  refine lv_aload_n hx hb dX9_trueDay_0 rfl (lv_at hl 0 rfl) ?_
  refine lv_iload_n hx hb dX9_trueDay_1 rfl (lv_at hl 2 rfl) ?_
  obtain ⟨q1, h2, hF⟩ := ob_some hF
  refine k_Vv (As := [.int x2]) (rest := []) Z hK hP hS (t_X9_isDeed l G hG x2 σ _ h2) (cwV 1 hts gX9_trueDay_X9_isDeed rfl rfl rfl (by decide +kernel) ⟨Nat.le_of_ble_eq_true rfl, Nat.le_of_ble_eq_true rfl⟩) (at_5 rfl) rfl rfl hl.1 rfl (Nat.le_of_ble_eq_true rfl) ⟨Nat.zero_le _, Nat.zero_le _⟩ dX9_trueDay_2 (fun H locs hP hS => ?_)
  refine lv_if_ne (tgt := 10) hx hb dX9_trueDay_5 (by decide) (fun c3 => ?_) (fun c3 => ?_)
  · have hF := ite_t (b2i_n0 c3) hF
    refine lv_aload_n hx hb dX9_trueDay_10 rfl (lv_at hl 0 rfl) ?_
    refine lv_iload_n hx hb dX9_trueDay_11 rfl (lv_at hl 1 rfl) ?_
    obtain ⟨q4, h5, hF⟩ := ob_some hF
    refine k_Vv (As := [.int x1]) (rest := []) Z hK hP hS (t_X9_wrongDiary l G hG x1 σ _ h5) (cwV 1 hts gX9_trueDay_X9_wrongDiary rfl rfl rfl (by decide +kernel) ⟨Nat.le_of_ble_eq_true rfl, Nat.le_of_ble_eq_true rfl⟩) (at_5 rfl) rfl rfl hl.1 rfl (Nat.le_of_ble_eq_true rfl) ⟨Nat.zero_le _, Nat.zero_le _⟩ dX9_trueDay_12 (fun H locs hP hS => ?_)
    refine lv_istore_n (lv' := [(3, .int q4), (0, .ref (gA G 61)), (1, .int x1), (2, .int x2)]) hx hb dX9_trueDay_15 rfl hl (by decide) rfl (fun ls hl => ?_)
    refine lv_iload_n hx hb dX9_trueDay_16 rfl (lv_at hl 0 rfl) ?_
    refine lv_if_eq (tgt := 24) hx hb dX9_trueDay_17 (by decide) (fun c6 => ?_) (fun c6 => ?_)
    · have hF := ite_t c6 hF
      refine lv_aload_n hx hb dX9_trueDay_24 rfl (lv_at hl 1 rfl) ?_
      refine lv_iload_n hx hb dX9_trueDay_25 rfl (lv_at hl 2 rfl) ?_
      refine lv_iload_n hx hb dX9_trueDay_26 rfl (lv_at hl 3 rfl) ?_
      obtain ⟨q7, h8, hF⟩ := ob_some hF
      refine k_Vv (As := [.int x1, .int x2]) (rest := []) Z hK hP hS (t_X9_mostTold l G hG x1 x2 σ _ h8) (cwV 2 hts gX9_trueDay_X9_mostTold rfl rfl rfl (by decide +kernel) ⟨Nat.le_of_ble_eq_true rfl, Nat.le_of_ble_eq_true rfl⟩) (at_5 rfl) rfl rfl hl.1 rfl (Nat.le_of_ble_eq_true rfl) ⟨Nat.zero_le _, Nat.zero_le _⟩ dX9_trueDay_27 (fun H locs hP hS => ?_)
      exact e_iP hx hb hr hP hS hlocks dX9_trueDay_30 hF
    · have hF := ite_f c6 hF
      refine lv_iload_n hx hb dX9_trueDay_20 rfl (lv_at hl 0 rfl) ?_
      refine lv_goto (tgt := 30) hx hb dX9_trueDay_21 (by decide) ?_
      exact e_iP hx hb hr hP hS hlocks dX9_trueDay_30 hF
  · have hF := ite_f (b2i_e0 c3) hF
    refine lv_iconst (v := -1) hx hb dX9_trueDay_8 (by decide) ?_
    exact e_iP hx hb hr hP hS hlocks dX9_trueDay_9 hF
def f_X9_mayBe_110 (x1 : Int32) (x2 : Int32) (rec49 : Int32 → Int32 → Int32 → Int32 → St → Option (Int32 × St)) (v3 : Int32) (v4 : Int32) (v5 : Int32) (v6 : Int32) (τ : St) : Option (Int32 × St) := (rec49 v3 v4 v5 (v6 + (1 : Int32)) τ)
theorem f_X9_mayBe_110_e {x1 : Int32} {x2 : Int32} {rec49 : Int32 → Int32 → Int32 → Int32 → St → Option (Int32 × St)} {v3 : Int32} {v4 : Int32} {v5 : Int32} {v6 : Int32} {τ : St} : f_X9_mayBe_110 x1 x2 rec49 v3 v4 v5 v6 τ = (rec49 v3 v4 v5 (v6 + (1 : Int32)) τ) := rfl
def f_X9_mayBe_105 (x1 : Int32) (x2 : Int32) (rec49 : Int32 → Int32 → Int32 → Int32 → St → Option (Int32 × St)) (v3 : Int32) (v4 : Int32) (v6 : Int32) (z0 : Int32) (τ : St) : Option (Int32 × St) := (f_X9_mayBe_110 x1 x2 rec49 v3 (v4 + (1 : Int32)) z0 v6 τ)
theorem f_X9_mayBe_105_e {x1 : Int32} {x2 : Int32} {rec49 : Int32 → Int32 → Int32 → Int32 → St → Option (Int32 × St)} {v3 : Int32} {v4 : Int32} {v6 : Int32} {z0 : Int32} {τ : St} : f_X9_mayBe_105 x1 x2 rec49 v3 v4 v6 z0 τ = (f_X9_mayBe_110 x1 x2 rec49 v3 (v4 + (1 : Int32)) z0 v6 τ) := rfl
def f_X9_mayBe_49 (x1 : Int32) (x2 : Int32) : Nat → (Int32 → Int32 → Int32 → Int32 → St → Option (Int32 × St))
  | 0 => fun _ _ _ _ _ => none
  | fl + 1 => fun v3 v4 v5 v6 τ => (if (f_X9_least (τ 62 1) (364 : Int32)) < v6 then (if x2 = 0 then (some (v4, τ)) else (some (v5, τ))) else (if inb (f_X9_of x1 (2 : Int32)) 52 then ob (f_X9_whoHas 63 x1 (up τ 63 ((f_X9_of x1 (2 : Int32)).toNatClampNeg) v6)) (fun q12 => if q12 = v3 then (if v4 = 0 then (f_X9_mayBe_105 x1 x2 (f_X9_mayBe_49 x1 x2 fl) v3 v4 v6 v6 (up τ 63 ((f_X9_of x1 (2 : Int32)).toNatClampNeg) v6)) else (f_X9_mayBe_105 x1 x2 (f_X9_mayBe_49 x1 x2 fl) v3 v4 v6 v5 (up τ 63 ((f_X9_of x1 (2 : Int32)).toNatClampNeg) v6))) else (f_X9_mayBe_110 x1 x2 (f_X9_mayBe_49 x1 x2 fl) v3 v4 v5 v6 (up τ 63 ((f_X9_of x1 (2 : Int32)).toNatClampNeg) v6))) else none))
theorem f_X9_mayBe_49_s {x1 : Int32} {x2 : Int32} (fl : Nat) {v3 : Int32} {v4 : Int32} {v5 : Int32} {v6 : Int32} {τ : St} : f_X9_mayBe_49 x1 x2 (fl + 1) v3 v4 v5 v6 τ = (if (f_X9_least (τ 62 1) (364 : Int32)) < v6 then (if x2 = 0 then (some (v4, τ)) else (some (v5, τ))) else (if inb (f_X9_of x1 (2 : Int32)) 52 then ob (f_X9_whoHas 63 x1 (up τ 63 ((f_X9_of x1 (2 : Int32)).toNatClampNeg) v6)) (fun q12 => if q12 = v3 then (if v4 = 0 then (f_X9_mayBe_105 x1 x2 (f_X9_mayBe_49 x1 x2 fl) v3 v4 v6 v6 (up τ 63 ((f_X9_of x1 (2 : Int32)).toNatClampNeg) v6)) else (f_X9_mayBe_105 x1 x2 (f_X9_mayBe_49 x1 x2 fl) v3 v4 v6 v5 (up τ 63 ((f_X9_of x1 (2 : Int32)).toNatClampNeg) v6))) else (f_X9_mayBe_110 x1 x2 (f_X9_mayBe_49 x1 x2 fl) v3 v4 v5 v6 (up τ 63 ((f_X9_of x1 (2 : Int32)).toNatClampNeg) v6))) else none)) := rfl
def f_X9_mayBe (x1 : Int32) (x2 : Int32) (σ : St) : Option (Int32 × St) := (ob (f_X9_isDeed x1 σ) (fun q1 => if q1 = true then (if (f_X9_isIn x2 (0 : Int32) (1 : Int32)) = true then (ob (f_X9_whoHas 62 x1 σ) (fun q5 => ob (f_X9_copies 62 63 σ) (fun q7 => f_X9_mayBe_49 x1 x2 fu q5 (0 : Int32) (-4 : Int32) (0 : Int32) q7))) else (some ((-1 : Int32), σ))) else (some ((-1 : Int32), σ))))
set_option maxRecDepth 100000 in
set_option maxHeartbeats 4000000 in
theorem t_X9_mayBe (l : Launch) (G : GT) (hG : Dw G) (x1 : Int32) (x2 : Int32) (σ : St) (o : Int32 × St) (hF : f_X9_mayBe x1 x2 σ = some o) : Ct l G yX9_mayBe wsX9_mayBe 4 90 [.ref (gA G 61), .int x1, .int x2] σ (some (.int o.1)) o.2 := by
  refine Met.ofW (cc := cX9_mayBe) (maxL := 7) (ret := (some .int)) (by decide) rfl ?_
  intro p e s m args below meth c s₁ B hml hv
  obtain ⟨rfl, hP, hK⟩ := hv
  have hx := B.exec
  have hb := B.bytes
  have hr := B.returns
  have hts := atoms_spec (ws := wsX9_mayBe) B.pre
  have hown : s.vm.findClass RX9 = some m.cls := findClass_of_methodNamed B.named
  have hlocks := B.notSynchronized
  have Z : CallFix p m c cX9_mayBe 7 s _ wsX9_mayBe RX9 := ⟨hx, hb, hml, hown, hts⟩
  have hS : va_S (AG G) s.heap s.heap [] := va_S.rf
  have inX9 : ∀ w ∈ u_ws RX9 TX9 21, w ∈ wsX9_mayBe := by decide +kernel
  have w1 := hts (.fieldLink RX9 9 "AlmanacOfTheYearGoneModel" "s" "[I") (by decide +kernel)
  have w2 := hts (.fieldLink RX9 13 "AlmanacOfTheYearGoneModel" "m" "[I") (by decide +kernel)
  have hl := lv_entry ([.ref (gA G 61), .int x1, .int x2]) (n := 7) (Nat.le_of_ble_eq_true rfl)
  rw [lg_entry_eq]
  generalize (lg_sl ([.ref (gA G 61), .int x1, .int x2]) ++ List.replicate (7 - (lg_sl ([.ref (gA G 61), .int x1, .int x2])).length) Slot.unset).toArray = ls at hl ⊢
  have hl : lv_has ls 7 [(0, .ref (gA G 61)), (1, .int x1), (2, .int x2)] := hl
  unfold f_X9_mayBe at hF
  refine lv_aload_n hx hb dX9_mayBe_0 rfl (lv_at hl 0 rfl) ?_
  refine lv_iload_n hx hb dX9_mayBe_1 rfl (lv_at hl 1 rfl) ?_
  obtain ⟨q1, h2, hF⟩ := ob_some hF
  refine k_Vv (As := [.int x1]) (rest := []) Z hK hP hS (t_X9_isDeed l G hG x1 σ _ h2) (cwV 1 hts gX9_mayBe_X9_isDeed rfl rfl rfl (by decide +kernel) ⟨Nat.le_of_ble_eq_true rfl, Nat.le_of_ble_eq_true rfl⟩) (at_5 rfl) rfl rfl hl.1 rfl (Nat.le_of_ble_eq_true rfl) ⟨Nat.zero_le _, Nat.zero_le _⟩ dX9_mayBe_2 (fun H locs hP hS => ?_)
  refine lv_if_eq (tgt := 17) hx hb dX9_mayBe_5 (by decide) (fun c3 => ?_) (fun c3 => ?_)
  · have hF := ite_f (b2i_e0 c3) hF
    refine lv_iconst (v := -1) hx hb dX9_mayBe_17 (by decide) ?_
    exact e_iS hx hb hr hP hS hlocks dX9_mayBe_18 hF
  · have hF := ite_t (b2i_n0 c3) hF
    refine lv_iload_n hx hb dX9_mayBe_8 rfl (lv_at hl 2 rfl) ?_
    refine lv_iconst (v := 0) hx hb dX9_mayBe_9 (by decide) ?_
    refine lv_iconst (v := 1) hx hb dX9_mayBe_10 (by decide) ?_
    refine k_Sv (As := [.int x2, .int (0 : Int32), .int (1 : Int32)]) (rest := []) Z hK hP hS (t_X9_isIn l G hG x2 (0 : Int32) (1 : Int32) σ) (va_cwS 3 hts gX9_mayBe_X9_isIn rfl rfl rfl (by decide +kernel) ⟨Nat.le_of_ble_eq_true rfl, Nat.le_of_ble_eq_true rfl⟩) rfl hl.1 rfl (Nat.le_of_ble_eq_true rfl) ⟨Nat.zero_le _, Nat.zero_le _⟩ dX9_mayBe_11 (fun H locs hP hS => ?_)
    refine lv_if_ne (tgt := 19) hx hb dX9_mayBe_14 (by decide) (fun c4 => ?_) (fun c4 => ?_)
    · have hF := ite_t (b2i_n0 c4) hF
      refine lv_aload_n hx hb dX9_mayBe_19 rfl (lv_at hl 0 rfl) ?_
      refine va_get (ci := 5) (C := RX9) (T := TX9) (N := 21) (v := .ref (gA G 62)) hx hb hts inX9 hown hK.1 hP 61 (at_5 rfl) rfl 0 (by decide) w1 (fun _ h9 => h9) rfl dX9_mayBe_20 ?_
      refine lv_iload_n hx hb dX9_mayBe_23 rfl (lv_at hl 1 rfl) ?_
      obtain ⟨q5, h6, hF⟩ := ob_some hF
      refine k_Sv (As := [.ref (gA G 62), .int x1]) (rest := []) Z hK hP hS (t_X9_whoHas l G hG 62 x1 ⟨(rfl : kd 62 = 6), (rfl : ln 62 = 52)⟩ σ _ h6) (va_cwS 2 hts gX9_mayBe_X9_whoHas rfl rfl rfl (by decide +kernel) ⟨Nat.le_of_ble_eq_true rfl, Nat.le_of_ble_eq_true rfl⟩) rfl hl.1 rfl (Nat.le_of_ble_eq_true rfl) ⟨Nat.zero_le _, Nat.zero_le _⟩ dX9_mayBe_24 (fun H locs hP hS => ?_)
      refine lv_istore_n (lv' := [(3, .int q5), (0, .ref (gA G 61)), (1, .int x1), (2, .int x2)]) hx hb dX9_mayBe_27 rfl hl (by decide) rfl (fun ls hl => ?_)
      refine lv_iconst (v := 0) hx hb dX9_mayBe_28 (by decide) ?_
      refine lv_istore (lv' := [(4, .int (0 : Int32)), (3, .int q5), (0, .ref (gA G 61)), (1, .int x1), (2, .int x2)]) hx hb dX9_mayBe_29 hl (by decide) rfl (fun ls hl => ?_)
      refine lv_bipush (v := -4) hx hb dX9_mayBe_31 (by decide) ?_
      refine lv_istore (lv' := [(5, .int (-4 : Int32)), (4, .int (0 : Int32)), (3, .int q5), (0, .ref (gA G 61)), (1, .int x1), (2, .int x2)]) hx hb dX9_mayBe_33 hl (by decide) rfl (fun ls hl => ?_)
      refine lv_aload_n hx hb dX9_mayBe_35 rfl (lv_at hl 3 rfl) ?_
      refine va_get (ci := 5) (C := RX9) (T := TX9) (N := 21) (v := .ref (gA G 62)) hx hb hts inX9 hown hK.1 hP 61 (at_5 rfl) rfl 0 (by decide) w1 (fun _ h9 => h9) rfl dX9_mayBe_36 ?_
      refine lv_aload_n hx hb dX9_mayBe_39 rfl (lv_at hl 3 rfl) ?_
      refine va_get (ci := 5) (C := RX9) (T := TX9) (N := 21) (v := .ref (gA G 63)) hx hb hts inX9 hown hK.1 hP 61 (at_5 rfl) rfl 1 (by decide) w2 (fun _ h9 => h9) rfl dX9_mayBe_40 ?_
      obtain ⟨q7, h8, hF⟩ := ob_some hF
      refine k_S0 (As := [.ref (gA G 62), .ref (gA G 63)]) (rest := []) Z hK hP hS (t_X9_copies l G hG 62 63 ⟨(rfl : kd 62 = 6), (rfl : ln 62 = 52)⟩ ⟨(rfl : kd 63 = 6), (rfl : ln 63 = 52)⟩ σ _ h8) (va_cwS 2 hts gX9_mayBe_X9_copies rfl rfl rfl (by decide +kernel) ⟨Nat.le_of_ble_eq_true rfl, Nat.le_of_ble_eq_true rfl⟩) rfl hl.1 rfl (Nat.le_of_ble_eq_true rfl) ⟨Nat.zero_le _, Nat.zero_le _⟩ dX9_mayBe_43 (fun H locs hP hS => ?_)
      refine lv_iconst (v := 0) hx hb dX9_mayBe_46 (by decide) ?_
      have J49 : ∀ (fl : Nat) (v3 : Int32) (v4 : Int32) (v5 : Int32) (v6 : Int32) (τ : St) (H : Heap) (locs : List Loc) (hP : Pw G τ H) (hS : va_S (AG G) s.heap H locs) (ls : Array Slot) (hl : lv_has ls 7 [(0, .ref (gA G 61)), (1, .int x1), (2, .int x2), (3, .int v3), (4, .int v4), (5, .int v5), (6, .int v6)]) (hF : f_X9_mayBe_49 x1 x2 fl v3 v4 v5 v6 τ = some o), W p l e (headSpec wsX9_mayBe ({ frames := 4, cells := 0, slots := 0, locals := 90 })).room s m ([.ref (gA G 61), .int x1, .int x2] : List Value).toArray below meth c H locs 0 0 (MQ below (qR G (some (.int o.1)) o.2) ([.ref (gA G 61), .int x1, .int x2] : List Value).toArray s 0 0 (AG G)) (F0 m 49 ls []) := by
        intro fl49
        induction fl49 with
        | zero => intro v3 v4 v5 v6 τ H locs hP hS ls hl hF; cases hF
        | succ fl49 ih49 =>
          intro v3 v4 v5 v6 τ H locs hP hS ls hl hF
          rw [f_X9_mayBe_49_s] at hF
          refine lv_iload hx hb dX9_mayBe_49 (lv_at hl 6 rfl) ?_
          refine lv_aload_n hx hb dX9_mayBe_51 rfl (lv_at hl 0 rfl) ?_
          refine va_get (ci := 5) (C := RX9) (T := TX9) (N := 21) (v := .ref (gA G 62)) hx hb hts inX9 hown hK.1 hP 61 (at_5 rfl) rfl 0 (by decide) w1 (fun _ h9 => h9) rfl dX9_mayBe_52 ?_
          refine lv_iconst (v := 1) hx hb dX9_mayBe_55 (by decide) ?_
          refine va_iald hx hb hK.1 hP 62 0 (at_6 (rfl : kd 62 = 6) (rfl : ln 62 = 52)) rfl (inb_in (by decide)) dX9_mayBe_56 ?_
          refine W.eq (g2 := F0 m 57 ls ([.int (τ 62 1), .int v6])) rfl ?_
          refine lv_sipush (v := 364) hx hb dX9_mayBe_57 (by decide) ?_
          refine k_Sv (As := [.int (τ 62 1), .int (364 : Int32)]) (rest := [.int v6]) Z hK hP hS (t_X9_least l G hG (τ 62 1) (364 : Int32) τ) (va_cwS 2 hts gX9_mayBe_X9_least rfl rfl rfl (by decide +kernel) ⟨Nat.le_of_ble_eq_true rfl, Nat.le_of_ble_eq_true rfl⟩) rfl hl.1 rfl (Nat.le_of_ble_eq_true rfl) ⟨Nat.zero_le _, Nat.zero_le _⟩ dX9_mayBe_60 (fun H locs hP hS => ?_)
          refine lv_icmp_gt (tgt := 116) hx hb dX9_mayBe_63 (by decide) (fun c9 => ?_) (fun c9 => ?_)
          · have hF := ite_t c9 hF
            refine lv_iload_n hx hb dX9_mayBe_116 rfl (lv_at hl 2 rfl) ?_
            refine lv_if_ne (tgt := 125) hx hb dX9_mayBe_117 (by decide) (fun c10 => ?_) (fun c10 => ?_)
            · have hF := ite_f c10 hF
              refine lv_iload hx hb dX9_mayBe_125 (lv_at hl 5 rfl) ?_
              exact e_iS hx hb hr hP hS hlocks dX9_mayBe_127 hF
            · have hF := ite_t c10 hF
              refine lv_iload hx hb dX9_mayBe_120 (lv_at hl 4 rfl) ?_
              refine lv_goto (tgt := 127) hx hb dX9_mayBe_122 (by decide) ?_
              exact e_iS hx hb hr hP hS hlocks dX9_mayBe_127 hF
          · have hF := ite_f c9 hF
            refine lv_aload_n hx hb dX9_mayBe_66 rfl (lv_at hl 0 rfl) ?_
            refine va_get (ci := 5) (C := RX9) (T := TX9) (N := 21) (v := .ref (gA G 63)) hx hb hts inX9 hown hK.1 hP 61 (at_5 rfl) rfl 1 (by decide) w2 (fun _ h9 => h9) rfl dX9_mayBe_67 ?_
            refine lv_iload_n hx hb dX9_mayBe_70 rfl (lv_at hl 1 rfl) ?_
            refine lv_iconst (v := 2) hx hb dX9_mayBe_71 (by decide) ?_
            refine k_Sv (As := [.int x1, .int (2 : Int32)]) (rest := [.ref (gA G 63)]) Z hK hP hS (t_X9_of l G hG x1 (2 : Int32) τ) (va_cwS 2 hts gX9_mayBe_X9_of rfl rfl rfl (by decide +kernel) ⟨Nat.le_of_ble_eq_true rfl, Nat.le_of_ble_eq_true rfl⟩) rfl hl.1 rfl (Nat.le_of_ble_eq_true rfl) ⟨Nat.zero_le _, Nat.zero_le _⟩ dX9_mayBe_72 (fun H locs hP hS => ?_)
            refine lv_iload hx hb dX9_mayBe_75 (lv_at hl 6 rfl) ?_
            obtain ⟨b11, hF⟩ := ite_some hF
            refine va_iast hx hb hK.1 hP (Dw.D hG) hS 63 0 (at_6 (rfl : kd 63 = 6) (rfl : ln 63 = 52)) rfl (inb_in b11) dX9_mayBe_77 (fun H locs hP _ hS => ?_)
            have hP : Pw G (up τ 63 ((f_X9_of x1 (2 : Int32)).toNatClampNeg) v6) H := Pw.of hP (set_6 (rfl : kd 63 = 6) (rfl : ln 63 = 52))
            refine lv_aload_n hx hb dX9_mayBe_78 rfl (lv_at hl 0 rfl) ?_
            refine va_get (ci := 5) (C := RX9) (T := TX9) (N := 21) (v := .ref (gA G 63)) hx hb hts inX9 hown hK.1 hP 61 (at_5 rfl) rfl 1 (by decide) w2 (fun _ h9 => h9) rfl dX9_mayBe_79 ?_
            refine lv_iload_n hx hb dX9_mayBe_82 rfl (lv_at hl 1 rfl) ?_
            obtain ⟨q12, h13, hF⟩ := ob_some hF
            refine k_Sv (As := [.ref (gA G 63), .int x1]) (rest := []) Z hK hP hS (t_X9_whoHas l G hG 63 x1 ⟨(rfl : kd 63 = 6), (rfl : ln 63 = 52)⟩ (up τ 63 ((f_X9_of x1 (2 : Int32)).toNatClampNeg) v6) _ h13) (va_cwS 2 hts gX9_mayBe_X9_whoHas rfl rfl rfl (by decide +kernel) ⟨Nat.le_of_ble_eq_true rfl, Nat.le_of_ble_eq_true rfl⟩) rfl hl.1 rfl (Nat.le_of_ble_eq_true rfl) ⟨Nat.zero_le _, Nat.zero_le _⟩ dX9_mayBe_83 (fun H locs hP hS => ?_)
            refine lv_iload_n hx hb dX9_mayBe_86 rfl (lv_at hl 3 rfl) ?_
            have J110 : ∀ (v3 : Int32) (v4 : Int32) (v5 : Int32) (v6 : Int32) (τ : St) (H : Heap) (locs : List Loc) (hP : Pw G τ H) (hS : va_S (AG G) s.heap H locs) (ls : Array Slot) (hl : lv_has ls 7 [(0, .ref (gA G 61)), (1, .int x1), (2, .int x2), (3, .int v3), (4, .int v4), (5, .int v5), (6, .int v6)]) (hF : f_X9_mayBe_110 x1 x2 (f_X9_mayBe_49 x1 x2 fl49) v3 v4 v5 v6 τ = some o), W p l e (headSpec wsX9_mayBe ({ frames := 4, cells := 0, slots := 0, locals := 90 })).room s m ([.ref (gA G 61), .int x1, .int x2] : List Value).toArray below meth c H locs 0 0 (MQ below (qR G (some (.int o.1)) o.2) ([.ref (gA G 61), .int x1, .int x2] : List Value).toArray s 0 0 (AG G)) (F0 m 110 ls []) := by
              intro v3 v4 v5 v6 τ H locs hP hS ls hl hF
              rw [f_X9_mayBe_110_e] at hF
              refine lv_iinc (v := (v6 + (1 : Int32))) (lv' := [(6, .int (v6 + (1 : Int32))), (0, .ref (gA G 61)), (1, .int x1), (2, .int x2), (3, .int v3), (4, .int v4), (5, .int v5)]) hx hb dX9_mayBe_110 hl (k := 6) rfl rfl (by decide) rfl (fun ls hl => ?_)
              refine lv_goto (tgt := 49) hx hb dX9_mayBe_113 (by decide) ?_
              exact ih49 v3 v4 v5 (v6 + (1 : Int32)) τ _ _ hP hS ls (lv_sub hl [1, 2, 3, 4, 5, 6, 0] rfl) hF
            refine lv_icmp_eq (tgt := 93) hx hb dX9_mayBe_87 (by decide) (fun c14 => ?_) (fun c14 => ?_)
            · have hF := ite_t c14 hF
              refine lv_iload hx hb dX9_mayBe_93 (lv_at hl 4 rfl) ?_
              have J105 : ∀ (v3 : Int32) (v4 : Int32) (v6 : Int32) (z0 : Int32) (τ : St) (H : Heap) (locs : List Loc) (hP : Pw G τ H) (hS : va_S (AG G) s.heap H locs) (ls : Array Slot) (hl : lv_has ls 7 [(0, .ref (gA G 61)), (1, .int x1), (2, .int x2), (3, .int v3), (4, .int v4), (6, .int v6)]) (hF : f_X9_mayBe_105 x1 x2 (f_X9_mayBe_49 x1 x2 fl49) v3 v4 v6 z0 τ = some o), W p l e (headSpec wsX9_mayBe ({ frames := 4, cells := 0, slots := 0, locals := 90 })).room s m ([.ref (gA G 61), .int x1, .int x2] : List Value).toArray below meth c H locs 0 0 (MQ below (qR G (some (.int o.1)) o.2) ([.ref (gA G 61), .int x1, .int x2] : List Value).toArray s 0 0 (AG G)) (F0 m 105 ls [.int z0]) := by
                intro v3 v4 v6 z0 τ H locs hP hS ls hl hF
                rw [f_X9_mayBe_105_e] at hF
                refine lv_istore (lv' := [(5, .int z0), (0, .ref (gA G 61)), (1, .int x1), (2, .int x2), (3, .int v3), (4, .int v4), (6, .int v6)]) hx hb dX9_mayBe_105 hl (by decide) rfl (fun ls hl => ?_)
                refine lv_iinc (v := (v4 + (1 : Int32))) (lv' := [(4, .int (v4 + (1 : Int32))), (5, .int z0), (0, .ref (gA G 61)), (1, .int x1), (2, .int x2), (3, .int v3), (6, .int v6)]) hx hb dX9_mayBe_107 hl (k := 5) rfl rfl (by decide) rfl (fun ls hl => ?_)
                exact J110 v3 (v4 + (1 : Int32)) z0 v6 τ _ _ hP hS ls (lv_sub hl [2, 3, 4, 5, 0, 1, 6] rfl) hF
              refine lv_if_ne (tgt := 103) hx hb dX9_mayBe_95 (by decide) (fun c15 => ?_) (fun c15 => ?_)
              · have hF := ite_f c15 hF
                refine lv_iload hx hb dX9_mayBe_103 (lv_at hl 5 rfl) ?_
                exact J105 v3 v4 v6 v5 (up τ 63 ((f_X9_of x1 (2 : Int32)).toNatClampNeg) v6) _ _ hP hS ls (lv_sub hl [0, 1, 2, 3, 4, 6] rfl) hF
              · have hF := ite_t c15 hF
                refine lv_iload hx hb dX9_mayBe_98 (lv_at hl 6 rfl) ?_
                refine lv_goto (tgt := 105) hx hb dX9_mayBe_100 (by decide) ?_
                exact J105 v3 v4 v6 v6 (up τ 63 ((f_X9_of x1 (2 : Int32)).toNatClampNeg) v6) _ _ hP hS ls (lv_sub hl [0, 1, 2, 3, 4, 6] rfl) hF
            · have hF := ite_f c14 hF
              refine lv_goto (tgt := 110) hx hb dX9_mayBe_90 (by decide) ?_
              exact J110 v3 v4 v5 v6 (up τ 63 ((f_X9_of x1 (2 : Int32)).toNatClampNeg) v6) _ _ hP hS ls (lv_sub hl [0, 1, 2, 3, 4, 5, 6] rfl) hF
      refine lv_istore (lv' := [(6, .int (0 : Int32)), (5, .int (-4 : Int32)), (4, .int (0 : Int32)), (3, .int q5), (0, .ref (gA G 61)), (1, .int x1), (2, .int x2)]) hx hb dX9_mayBe_47 hl (by decide) rfl (fun ls hl => ?_)
      exact J49 fu q5 (0 : Int32) (-4 : Int32) (0 : Int32) q7 _ _ hP hS ls (lv_sub hl [4, 5, 6, 3, 2, 1, 0] rfl) hF
    · have hF := ite_f (b2i_e0 c4) hF
      refine lv_iconst (v := -1) hx hb dX9_mayBe_17 (by decide) ?_
      exact e_iS hx hb hr hP hS hlocks dX9_mayBe_18 hF
def f_X9_leastOf (x0 : Int32) : Int32 := (if x0 = 0 then ((-128 : Int32)) else (if x0 = (1 : Int32) then ((-32768 : Int32)) else ((-2147483648 : Int32))))
set_option maxRecDepth 100000 in
set_option maxHeartbeats 4000000 in
theorem t_X9_leastOf (l : Launch) (G : GT) (hG : Dw G) (x0 : Int32) (σ : St) : Ct l G yX9_leastOf wsX9_leastOf 0 0 [.int x0] σ (some (.int (f_X9_leastOf x0))) σ := by
  obtain ⟨o, hF⟩ : ∃ o, f_X9_leastOf x0 = o := ⟨_, rfl⟩
  rw [hF]
  refine Met.ofW (cc := cX9_leastOf) (maxL := 1) (ret := (some .int)) (by decide) rfl ?_
  intro p e s m args below meth c s₁ B hml hv
  obtain ⟨rfl, hP, hK⟩ := hv
  have hx := B.exec
  have hb := B.bytes
  have hr := B.returns
  have hts := atoms_spec (ws := wsX9_leastOf) B.pre
  have hown : s.vm.findClass RX9 = some m.cls := findClass_of_methodNamed B.named
  have hlocks := B.notSynchronized
  have Z : CallFix p m c cX9_leastOf 1 s _ wsX9_leastOf RX9 := ⟨hx, hb, hml, hown, hts⟩
  have hS : va_S (AG G) s.heap s.heap [] := va_S.rf
  have w1 := hts (.constant RX9 184 (-2147483648)) (by decide +kernel)
  have hl := lv_entry ([.int x0]) (n := 1) (Nat.le_of_ble_eq_true rfl)
  rw [lg_entry_eq]
  generalize (lg_sl ([.int x0]) ++ List.replicate (1 - (lg_sl ([.int x0])).length) Slot.unset).toArray = ls at hl ⊢
  have hl : lv_has ls 1 [(0, .int x0)] := hl
  unfold f_X9_leastOf at hF
  refine lv_iload_n hx hb dX9_leastOf_0 rfl (lv_at hl 0 rfl) ?_
  refine lv_if_ne (tgt := 9) hx hb dX9_leastOf_1 (by decide) (fun c1 => ?_) (fun c1 => ?_)
  · have hF := ite_f c1 hF
    refine lv_iload_n hx hb dX9_leastOf_9 rfl (lv_at hl 0 rfl) ?_
    refine lv_iconst (v := 1) hx hb dX9_leastOf_10 (by decide) ?_
    refine lv_icmp_ne (tgt := 20) hx hb dX9_leastOf_11 (by decide) (fun c2 => ?_) (fun c2 => ?_)
    · have hF := ite_f c2 hF
      refine lv_ldc hx hb hown w1 dX9_leastOf_20 ?_
      exact e_iT hx hb hr hP hS hlocks dX9_leastOf_22 hF
    · have hF := ite_t c2 hF
      refine lv_sipush (v := -32768) hx hb dX9_leastOf_14 (by decide) ?_
      refine lv_goto (tgt := 22) hx hb dX9_leastOf_17 (by decide) ?_
      exact e_iT hx hb hr hP hS hlocks dX9_leastOf_22 hF
  · have hF := ite_t c1 hF
    refine lv_bipush (v := -128) hx hb dX9_leastOf_4 (by decide) ?_
    refine lv_goto (tgt := 22) hx hb dX9_leastOf_6 (by decide) ?_
    exact e_iT hx hb hr hP hS hlocks dX9_leastOf_22 hF
def f_X9_law_168 (x1 : Int32) (x2 : Int32) (x3 : Int32) (σ : St) (rec52 : Int32 → Int32 → Option Int32) (v6 : Int32) (z0 : Int32) (z1 : Int32) : Option Int32 := (rec52 (z0 ||| z1) (v6 + (1 : Int32)))
theorem f_X9_law_168_e {x1 : Int32} {x2 : Int32} {x3 : Int32} {σ : St} {rec52 : Int32 → Int32 → Option Int32} {v6 : Int32} {z0 : Int32} {z1 : Int32} : f_X9_law_168 x1 x2 x3 σ rec52 v6 z0 z1 = (rec52 (z0 ||| z1) (v6 + (1 : Int32))) := rfl
def f_X9_law_144 (x1 : Int32) (x2 : Int32) (x3 : Int32) (σ : St) (rec52 : Int32 → Int32 → Option Int32) (rec74 : Int32 → Int32 → Int32 → Int32 → Option Int32) (v5 : Int32) (v6 : Int32) (v8 : Int32) (z0 : Int32) (z1 : Int32) : Option Int32 := (rec74 v5 v6 (z0 &&& z1) (v8 + (1 : Int32)))
theorem f_X9_law_144_e {x1 : Int32} {x2 : Int32} {x3 : Int32} {σ : St} {rec52 : Int32 → Int32 → Option Int32} {rec74 : Int32 → Int32 → Int32 → Int32 → Option Int32} {v5 : Int32} {v6 : Int32} {v8 : Int32} {z0 : Int32} {z1 : Int32} : f_X9_law_144 x1 x2 x3 σ rec52 rec74 v5 v6 v8 z0 z1 = (rec74 v5 v6 (z0 &&& z1) (v8 + (1 : Int32))) := rfl
def f_X9_law_139 (x1 : Int32) (x2 : Int32) (x3 : Int32) (σ : St) (rec52 : Int32 → Int32 → Option Int32) (rec74 : Int32 → Int32 → Int32 → Int32 → Option Int32) (v5 : Int32) (v6 : Int32) (v8 : Int32) (z0 : Int32) : Option Int32 := (f_X9_law_144 x1 x2 x3 σ rec52 rec74 v5 v6 v8 z0 (1 : Int32))
theorem f_X9_law_139_e {x1 : Int32} {x2 : Int32} {x3 : Int32} {σ : St} {rec52 : Int32 → Int32 → Option Int32} {rec74 : Int32 → Int32 → Int32 → Int32 → Option Int32} {v5 : Int32} {v6 : Int32} {v8 : Int32} {z0 : Int32} : f_X9_law_139 x1 x2 x3 σ rec52 rec74 v5 v6 v8 z0 = (f_X9_law_144 x1 x2 x3 σ rec52 rec74 v5 v6 v8 z0 (1 : Int32)) := rfl
def f_X9_law_136 (x1 : Int32) (x2 : Int32) (x3 : Int32) (σ : St) (rec52 : Int32 → Int32 → Option Int32) (rec74 : Int32 → Int32 → Int32 → Int32 → Option Int32) (v5 : Int32) (v6 : Int32) (v8 : Int32) (z0 : Int32) (z1 : Int32) (z2 : Int32) : Option Int32 := (if z1 = z2 then f_X9_law_139 x1 x2 x3 σ rec52 rec74 v5 v6 v8 z0 else (f_X9_law_144 x1 x2 x3 σ rec52 rec74 v5 v6 v8 z0 (0 : Int32)))
theorem f_X9_law_136_e {x1 : Int32} {x2 : Int32} {x3 : Int32} {σ : St} {rec52 : Int32 → Int32 → Option Int32} {rec74 : Int32 → Int32 → Int32 → Int32 → Option Int32} {v5 : Int32} {v6 : Int32} {v8 : Int32} {z0 : Int32} {z1 : Int32} {z2 : Int32} : f_X9_law_136 x1 x2 x3 σ rec52 rec74 v5 v6 v8 z0 z1 z2 = (if z1 = z2 then f_X9_law_139 x1 x2 x3 σ rec52 rec74 v5 v6 v8 z0 else (f_X9_law_144 x1 x2 x3 σ rec52 rec74 v5 v6 v8 z0 (0 : Int32))) := rfl
def f_X9_law_74 (x1 : Int32) (x2 : Int32) (x3 : Int32) (σ : St) (rec52 : Int32 → Int32 → Option Int32) : Nat → (Int32 → Int32 → Int32 → Int32 → Option Int32)
  | 0 => fun _ _ _ _ => none
  | fl + 1 => fun v5 v6 v7 v8 => (if inb x1 8 then if (σ 73 x1.toNatClampNeg) ≤ v8 then (if v7 = 0 then (f_X9_law_168 x1 x2 x3 σ rec52 v6 v5 (0 : Int32)) else (f_X9_law_168 x1 x2 x3 σ rec52 v6 v5 ((1 : Int32) <<< (v6 &&& 31)))) else (if inb (((100 : Int32) * x1) + v8) 800 then if inb x1 8 then if (σ 74 (((100 : Int32) * x1) + v8).toNatClampNeg) = (f_X9_leastOf (σ 72 x1.toNatClampNeg)) then f_X9_law_139 x1 x2 x3 σ rec52 (f_X9_law_74 x1 x2 x3 σ rec52 fl) v5 v6 v8 v7 else (if x3 = 0 then (f_X9_law_136 x1 x2 x3 σ rec52 (f_X9_law_74 x1 x2 x3 σ rec52 fl) v5 v6 v8 v7 (σ 74 (((100 : Int32) * x1) + v8).toNatClampNeg) (f_X9_lasts v6 x2)) else (f_X9_law_136 x1 x2 x3 σ rec52 (f_X9_law_74 x1 x2 x3 σ rec52 fl) v5 v6 v8 v7 (σ 74 (((100 : Int32) * x1) + v8).toNatClampNeg) (f_X9_lasts x2 v6))) else none else none) else none)
theorem f_X9_law_74_s {x1 : Int32} {x2 : Int32} {x3 : Int32} {σ : St} {rec52 : Int32 → Int32 → Option Int32} (fl : Nat) {v5 : Int32} {v6 : Int32} {v7 : Int32} {v8 : Int32} : f_X9_law_74 x1 x2 x3 σ rec52 (fl + 1) v5 v6 v7 v8 = (if inb x1 8 then if (σ 73 x1.toNatClampNeg) ≤ v8 then (if v7 = 0 then (f_X9_law_168 x1 x2 x3 σ rec52 v6 v5 (0 : Int32)) else (f_X9_law_168 x1 x2 x3 σ rec52 v6 v5 ((1 : Int32) <<< (v6 &&& 31)))) else (if inb (((100 : Int32) * x1) + v8) 800 then if inb x1 8 then if (σ 74 (((100 : Int32) * x1) + v8).toNatClampNeg) = (f_X9_leastOf (σ 72 x1.toNatClampNeg)) then f_X9_law_139 x1 x2 x3 σ rec52 (f_X9_law_74 x1 x2 x3 σ rec52 fl) v5 v6 v8 v7 else (if x3 = 0 then (f_X9_law_136 x1 x2 x3 σ rec52 (f_X9_law_74 x1 x2 x3 σ rec52 fl) v5 v6 v8 v7 (σ 74 (((100 : Int32) * x1) + v8).toNatClampNeg) (f_X9_lasts v6 x2)) else (f_X9_law_136 x1 x2 x3 σ rec52 (f_X9_law_74 x1 x2 x3 σ rec52 fl) v5 v6 v8 v7 (σ 74 (((100 : Int32) * x1) + v8).toNatClampNeg) (f_X9_lasts x2 v6))) else none else none) else none) := rfl
def f_X9_law_65 (x1 : Int32) (x2 : Int32) (x3 : Int32) (σ : St) (rec52 : Int32 → Int32 → Option Int32) (v5 : Int32) (v6 : Int32) (z0 : Int32) (z1 : Int32) : Option Int32 := (if z1 ≤ z0 then (some v5) else (f_X9_law_74 x1 x2 x3 σ rec52 fu v5 v6 (1 : Int32) (0 : Int32)))
theorem f_X9_law_65_e {x1 : Int32} {x2 : Int32} {x3 : Int32} {σ : St} {rec52 : Int32 → Int32 → Option Int32} {v5 : Int32} {v6 : Int32} {z0 : Int32} {z1 : Int32} : f_X9_law_65 x1 x2 x3 σ rec52 v5 v6 z0 z1 = (if z1 ≤ z0 then (some v5) else (f_X9_law_74 x1 x2 x3 σ rec52 fu v5 v6 (1 : Int32) (0 : Int32))) := rfl
def f_X9_law_52 (x1 : Int32) (x2 : Int32) (x3 : Int32) (σ : St) : Nat → (Int32 → Int32 → Option Int32)
  | 0 => fun _ _ => none
  | fl + 1 => fun v5 v6 => (if x3 = 0 then (f_X9_law_65 x1 x2 x3 σ (f_X9_law_52 x1 x2 x3 σ fl) v5 v6 v6 (8 : Int32)) else (f_X9_law_65 x1 x2 x3 σ (f_X9_law_52 x1 x2 x3 σ fl) v5 v6 v6 (10 : Int32)))
theorem f_X9_law_52_s {x1 : Int32} {x2 : Int32} {x3 : Int32} {σ : St} (fl : Nat) {v5 : Int32} {v6 : Int32} : f_X9_law_52 x1 x2 x3 σ (fl + 1) v5 v6 = (if x3 = 0 then (f_X9_law_65 x1 x2 x3 σ (f_X9_law_52 x1 x2 x3 σ fl) v5 v6 v6 (8 : Int32)) else (f_X9_law_65 x1 x2 x3 σ (f_X9_law_52 x1 x2 x3 σ fl) v5 v6 v6 (10 : Int32))) := rfl
def f_X9_law_22 (x1 : Int32) (x2 : Int32) (x3 : Int32) (σ : St) (z0 : Int32) (z1 : Int32) (z2 : Int32) : Option Int32 := (if (f_X9_isIn z0 z1 z2) = true then (ob (f_X9_wrongRow x1 (-1 : Int32) σ) (fun q3 => if q3 = 0 then (f_X9_law_52 x1 x2 x3 σ fu (0 : Int32) (0 : Int32)) else (some q3))) else (some (-1 : Int32)))
theorem f_X9_law_22_e {x1 : Int32} {x2 : Int32} {x3 : Int32} {σ : St} {z0 : Int32} {z1 : Int32} {z2 : Int32} : f_X9_law_22 x1 x2 x3 σ z0 z1 z2 = (if (f_X9_isIn z0 z1 z2) = true then (ob (f_X9_wrongRow x1 (-1 : Int32) σ) (fun q3 => if q3 = 0 then (f_X9_law_52 x1 x2 x3 σ fu (0 : Int32) (0 : Int32)) else (some q3))) else (some (-1 : Int32))) := rfl
def f_X9_law (x1 : Int32) (x2 : Int32) (x3 : Int32) (σ : St) : Option Int32 := (if (f_X9_isIn x3 (0 : Int32) (1 : Int32)) = true then (if x3 = 0 then (f_X9_law_22 x1 x2 x3 σ x2 (0 : Int32) (9 : Int32)) else (f_X9_law_22 x1 x2 x3 σ x2 (0 : Int32) (7 : Int32))) else (some (-1 : Int32)))
set_option maxRecDepth 100000 in
set_option maxHeartbeats 4000000 in
theorem t_X9_law (l : Launch) (G : GT) (hG : Dw G) (x1 : Int32) (x2 : Int32) (x3 : Int32) (σ : St) (o : Int32) (hF : f_X9_law x1 x2 x3 σ = some o) : Ct l G yX9_law wsX9_law 3 64 [.ref (gA G 61), .int x1, .int x2, .int x3] σ (some (.int o)) σ := by
  refine Met.ofW (cc := cX9_law) (maxL := 10) (ret := (some .int)) (by decide) rfl ?_
  intro p e s m args below meth c s₁ B hml hv
  obtain ⟨rfl, hP, hK⟩ := hv
  have hx := B.exec
  have hb := B.bytes
  have hr := B.returns
  have hts := atoms_spec (ws := wsX9_law) B.pre
  have hown : s.vm.findClass RX9 = some m.cls := findClass_of_methodNamed B.named
  have hlocks := B.notSynchronized
  have Z : CallFix p m c cX9_law 10 s _ wsX9_law RX9 := ⟨hx, hb, hml, hown, hts⟩
  have hS : va_S (AG G) s.heap s.heap [] := va_S.rf
  have inX9 : ∀ w ∈ u_ws RX9 TX9 21, w ∈ wsX9_law := by decide +kernel
  have w1 := hts (.fieldLink RX9 43 "AlmanacOfTheYearGoneModel" "size" "[I") (by decide +kernel)
  have w2 := hts (.fieldLink RX9 46 "AlmanacOfTheYearGoneModel" "element" "[I") (by decide +kernel)
  have w3 := hts (.fieldLink RX9 40 "AlmanacOfTheYearGoneModel" "sort" "[I") (by decide +kernel)
  have hl := lv_entry ([.ref (gA G 61), .int x1, .int x2, .int x3]) (n := 10) (Nat.le_of_ble_eq_true rfl)
  rw [lg_entry_eq]
  generalize (lg_sl ([.ref (gA G 61), .int x1, .int x2, .int x3]) ++ List.replicate (10 - (lg_sl ([.ref (gA G 61), .int x1, .int x2, .int x3])).length) Slot.unset).toArray = ls at hl ⊢
  have hl : lv_has ls 10 [(0, .ref (gA G 61)), (1, .int x1), (2, .int x2), (3, .int x3)] := hl
  unfold f_X9_law at hF
  refine lv_iload_n hx hb dX9_law_0 rfl (lv_at hl 3 rfl) ?_
  refine lv_iconst (v := 0) hx hb dX9_law_1 (by decide) ?_
  refine lv_iconst (v := 1) hx hb dX9_law_2 (by decide) ?_
  refine k_Sv (As := [.int x3, .int (0 : Int32), .int (1 : Int32)]) (rest := []) Z hK hP hS (t_X9_isIn l G hG x3 (0 : Int32) (1 : Int32) σ) (va_cwS 3 hts gX9_law_X9_isIn rfl rfl rfl (by decide +kernel) ⟨Nat.le_of_ble_eq_true rfl, Nat.le_of_ble_eq_true rfl⟩) rfl hl.1 rfl (Nat.le_of_ble_eq_true rfl) ⟨Nat.zero_le _, Nat.zero_le _⟩ dX9_law_3 (fun H locs hP hS => ?_)
  refine lv_if_eq (tgt := 28) hx hb dX9_law_6 (by decide) (fun c1 => ?_) (fun c1 => ?_)
  · have hF := ite_f (b2i_e0 c1) hF
    refine lv_iconst (v := -1) hx hb dX9_law_28 (by decide) ?_
    exact e_iP hx hb hr hP hS hlocks dX9_law_29 hF
  · have hF := ite_t (b2i_n0 c1) hF
    refine lv_iload_n hx hb dX9_law_9 rfl (lv_at hl 2 rfl) ?_
    refine lv_iconst (v := 0) hx hb dX9_law_10 (by decide) ?_
    refine lv_iload_n hx hb dX9_law_11 rfl (lv_at hl 3 rfl) ?_
    have J22 : ∀ (z0 : Int32) (z1 : Int32) (z2 : Int32) (H : Heap) (locs : List Loc) (hP : Pw G σ H) (hS : va_S (AG G) s.heap H locs) (ls : Array Slot) (hl : lv_has ls 10 [(0, .ref (gA G 61)), (1, .int x1), (2, .int x2), (3, .int x3)]) (hF : f_X9_law_22 x1 x2 x3 σ z0 z1 z2 = some o), W p l e (headSpec wsX9_law ({ frames := 3, cells := 0, slots := 0, locals := 64 })).room s m ([.ref (gA G 61), .int x1, .int x2, .int x3] : List Value).toArray below meth c H locs 0 0 (MQ below (qR G (some (.int o)) σ) ([.ref (gA G 61), .int x1, .int x2, .int x3] : List Value).toArray s 0 0 (AG G)) (F0 m 22 ls [.int z2, .int z1, .int z0]) := by
      intro z0 z1 z2 H locs hP hS ls hl hF
      rw [f_X9_law_22_e] at hF
      refine k_Sv (As := [.int z0, .int z1, .int z2]) (rest := []) Z hK hP hS (t_X9_isIn l G hG z0 z1 z2 σ) (va_cwS 3 hts gX9_law_X9_isIn rfl rfl rfl (by decide +kernel) ⟨Nat.le_of_ble_eq_true rfl, Nat.le_of_ble_eq_true rfl⟩) rfl hl.1 rfl (Nat.le_of_ble_eq_true rfl) ⟨Nat.zero_le _, Nat.zero_le _⟩ dX9_law_22 (fun H locs hP hS => ?_)
      refine lv_if_ne (tgt := 30) hx hb dX9_law_25 (by decide) (fun c2 => ?_) (fun c2 => ?_)
      · have hF := ite_t (b2i_n0 c2) hF
        refine lv_aload_n hx hb dX9_law_30 rfl (lv_at hl 0 rfl) ?_
        refine lv_iload_n hx hb dX9_law_31 rfl (lv_at hl 1 rfl) ?_
        refine lv_iconst (v := -1) hx hb dX9_law_32 (by decide) ?_
        obtain ⟨q3, h4, hF⟩ := ob_some hF
        refine k_Vv (As := [.int x1, .int (-1 : Int32)]) (rest := []) Z hK hP hS (t_X9_wrongRow l G hG x1 (-1 : Int32) σ _ h4) (cwV 2 hts gX9_law_X9_wrongRow rfl rfl rfl (by decide +kernel) ⟨Nat.le_of_ble_eq_true rfl, Nat.le_of_ble_eq_true rfl⟩) (at_5 rfl) rfl rfl hl.1 rfl (Nat.le_of_ble_eq_true rfl) ⟨Nat.zero_le _, Nat.zero_le _⟩ dX9_law_33 (fun H locs hP hS => ?_)
        refine lv_istore (lv' := [(4, .int q3), (0, .ref (gA G 61)), (1, .int x1), (2, .int x2), (3, .int x3)]) hx hb dX9_law_36 hl (by decide) rfl (fun ls hl => ?_)
        refine lv_iload hx hb dX9_law_38 (lv_at hl 0 rfl) ?_
        refine lv_if_eq (tgt := 46) hx hb dX9_law_40 (by decide) (fun c5 => ?_) (fun c5 => ?_)
        · have hF := ite_t c5 hF
          refine lv_iconst (v := 0) hx hb dX9_law_46 (by decide) ?_
          refine lv_istore (lv' := [(5, .int (0 : Int32)), (4, .int q3), (0, .ref (gA G 61)), (1, .int x1), (2, .int x2), (3, .int x3)]) hx hb dX9_law_47 hl (by decide) rfl (fun ls hl => ?_)
          refine lv_iconst (v := 0) hx hb dX9_law_49 (by decide) ?_
          have J52 : ∀ (fl : Nat) (v5 : Int32) (v6 : Int32) (H : Heap) (locs : List Loc) (hP : Pw G σ H) (hS : va_S (AG G) s.heap H locs) (ls : Array Slot) (hl : lv_has ls 10 [(0, .ref (gA G 61)), (1, .int x1), (2, .int x2), (3, .int x3), (5, .int v5), (6, .int v6)]) (hF : f_X9_law_52 x1 x2 x3 σ fl v5 v6 = some o), W p l e (headSpec wsX9_law ({ frames := 3, cells := 0, slots := 0, locals := 64 })).room s m ([.ref (gA G 61), .int x1, .int x2, .int x3] : List Value).toArray below meth c H locs 0 0 (MQ below (qR G (some (.int o)) σ) ([.ref (gA G 61), .int x1, .int x2, .int x3] : List Value).toArray s 0 0 (AG G)) (F0 m 52 ls []) := by
            intro fl52
            induction fl52 with
            | zero => intro v5 v6 H locs hP hS ls hl hF; cases hF
            | succ fl52 ih52 =>
              intro v5 v6 H locs hP hS ls hl hF
              rw [f_X9_law_52_s] at hF
              refine lv_iload hx hb dX9_law_52 (lv_at hl 5 rfl) ?_
              refine lv_iload_n hx hb dX9_law_54 rfl (lv_at hl 3 rfl) ?_
              have J65 : ∀ (v5 : Int32) (v6 : Int32) (z0 : Int32) (z1 : Int32) (H : Heap) (locs : List Loc) (hP : Pw G σ H) (hS : va_S (AG G) s.heap H locs) (ls : Array Slot) (hl : lv_has ls 10 [(0, .ref (gA G 61)), (1, .int x1), (2, .int x2), (3, .int x3), (5, .int v5), (6, .int v6)]) (hF : f_X9_law_65 x1 x2 x3 σ (f_X9_law_52 x1 x2 x3 σ fl52) v5 v6 z0 z1 = some o), W p l e (headSpec wsX9_law ({ frames := 3, cells := 0, slots := 0, locals := 64 })).room s m ([.ref (gA G 61), .int x1, .int x2, .int x3] : List Value).toArray below meth c H locs 0 0 (MQ below (qR G (some (.int o)) σ) ([.ref (gA G 61), .int x1, .int x2, .int x3] : List Value).toArray s 0 0 (AG G)) (F0 m 65 ls [.int z1, .int z0]) := by
                intro v5 v6 z0 z1 H locs hP hS ls hl hF
                rw [f_X9_law_65_e] at hF
                refine lv_icmp_ge (tgt := 177) hx hb dX9_law_65 (by decide) (fun c6 => ?_) (fun c6 => ?_)
                · have hF := ite_t c6 hF
                  refine lv_iload hx hb dX9_law_177 (lv_at hl 4 rfl) ?_
                  exact e_iP hx hb hr hP hS hlocks dX9_law_179 hF
                · have hF := ite_f c6 hF
                  refine lv_iconst (v := 1) hx hb dX9_law_68 (by decide) ?_
                  refine lv_istore (lv' := [(7, .int (1 : Int32)), (0, .ref (gA G 61)), (1, .int x1), (2, .int x2), (3, .int x3), (5, .int v5), (6, .int v6)]) hx hb dX9_law_69 hl (by decide) rfl (fun ls hl => ?_)
                  refine lv_iconst (v := 0) hx hb dX9_law_71 (by decide) ?_
                  have J74 : ∀ (fl : Nat) (v5 : Int32) (v6 : Int32) (v7 : Int32) (v8 : Int32) (H : Heap) (locs : List Loc) (hP : Pw G σ H) (hS : va_S (AG G) s.heap H locs) (ls : Array Slot) (hl : lv_has ls 10 [(0, .ref (gA G 61)), (1, .int x1), (2, .int x2), (3, .int x3), (5, .int v5), (6, .int v6), (7, .int v7), (8, .int v8)]) (hF : f_X9_law_74 x1 x2 x3 σ (f_X9_law_52 x1 x2 x3 σ fl52) fl v5 v6 v7 v8 = some o), W p l e (headSpec wsX9_law ({ frames := 3, cells := 0, slots := 0, locals := 64 })).room s m ([.ref (gA G 61), .int x1, .int x2, .int x3] : List Value).toArray below meth c H locs 0 0 (MQ below (qR G (some (.int o)) σ) ([.ref (gA G 61), .int x1, .int x2, .int x3] : List Value).toArray s 0 0 (AG G)) (F0 m 74 ls []) := by
                    intro fl74
                    induction fl74 with
                    | zero => intro v5 v6 v7 v8 H locs hP hS ls hl hF; cases hF
                    | succ fl74 ih74 =>
                      intro v5 v6 v7 v8 H locs hP hS ls hl hF
                      rw [f_X9_law_74_s] at hF
                      refine lv_iload hx hb dX9_law_74 (lv_at hl 7 rfl) ?_
                      refine lv_aload_n hx hb dX9_law_76 rfl (lv_at hl 0 rfl) ?_
                      refine va_get (ci := 5) (C := RX9) (T := TX9) (N := 21) (v := .ref (gA G 73)) hx hb hts inX9 hown hK.1 hP 61 (at_5 rfl) rfl 18 (by decide) w1 (fun _ h9 => h9) rfl dX9_law_77 ?_
                      refine lv_iload_n hx hb dX9_law_80 rfl (lv_at hl 1 rfl) ?_
                      obtain ⟨b7, hF⟩ := ite_some hF
                      refine va_iald hx hb hK.1 hP 73 0 (at_6 (rfl : kd 73 = 6) (rfl : ln 73 = 8)) rfl (inb_in b7) dX9_law_81 ?_
                      refine lv_icmp_ge (tgt := 153) hx hb dX9_law_82 (by decide) (fun c8 => ?_) (fun c8 => ?_)
                      · have hF := ite_t c8 hF
                        refine lv_iload hx hb dX9_law_153 (lv_at hl 4 rfl) ?_
                        refine lv_iload hx hb dX9_law_155 (lv_at hl 6 rfl) ?_
                        have J168 : ∀ (v6 : Int32) (z0 : Int32) (z1 : Int32) (H : Heap) (locs : List Loc) (hP : Pw G σ H) (hS : va_S (AG G) s.heap H locs) (ls : Array Slot) (hl : lv_has ls 10 [(0, .ref (gA G 61)), (1, .int x1), (2, .int x2), (3, .int x3), (6, .int v6)]) (hF : f_X9_law_168 x1 x2 x3 σ (f_X9_law_52 x1 x2 x3 σ fl52) v6 z0 z1 = some o), W p l e (headSpec wsX9_law ({ frames := 3, cells := 0, slots := 0, locals := 64 })).room s m ([.ref (gA G 61), .int x1, .int x2, .int x3] : List Value).toArray below meth c H locs 0 0 (MQ below (qR G (some (.int o)) σ) ([.ref (gA G 61), .int x1, .int x2, .int x3] : List Value).toArray s 0 0 (AG G)) (F0 m 168 ls [.int z1, .int z0]) := by
                          intro v6 z0 z1 H locs hP hS ls hl hF
                          rw [f_X9_law_168_e] at hF
                          refine lv_ior hx hb dX9_law_168 ?_
                          refine lv_istore (lv' := [(5, .int (z0 ||| z1)), (0, .ref (gA G 61)), (1, .int x1), (2, .int x2), (3, .int x3), (6, .int v6)]) hx hb dX9_law_169 hl (by decide) rfl (fun ls hl => ?_)
                          refine lv_iinc (v := (v6 + (1 : Int32))) (lv' := [(6, .int (v6 + (1 : Int32))), (5, .int (z0 ||| z1)), (0, .ref (gA G 61)), (1, .int x1), (2, .int x2), (3, .int x3)]) hx hb dX9_law_171 hl (k := 5) rfl rfl (by decide) rfl (fun ls hl => ?_)
                          refine lv_goto (tgt := 52) hx hb dX9_law_174 (by decide) ?_
                          exact ih52 (z0 ||| z1) (v6 + (1 : Int32)) _ _ hP hS ls (lv_sub hl [2, 3, 4, 5, 1, 0] rfl) hF
                        refine lv_if_eq (tgt := 167) hx hb dX9_law_157 (by decide) (fun c9 => ?_) (fun c9 => ?_)
                        · have hF := ite_t c9 hF
                          refine lv_iconst (v := 0) hx hb dX9_law_167 (by decide) ?_
                          exact J168 v6 v5 (0 : Int32) _ _ hP hS ls (lv_sub hl [0, 1, 2, 3, 5] rfl) hF
                        · have hF := ite_f c9 hF
                          refine lv_iconst (v := 1) hx hb dX9_law_160 (by decide) ?_
                          refine lv_iload hx hb dX9_law_161 (lv_at hl 5 rfl) ?_
                          refine lv_ishl hx hb dX9_law_163 ?_
                          refine lv_goto (tgt := 168) hx hb dX9_law_164 (by decide) ?_
                          exact J168 v6 v5 ((1 : Int32) <<< (v6 &&& 31)) _ _ hP hS ls (lv_sub hl [0, 1, 2, 3, 5] rfl) hF
                      · have hF := ite_f c8 hF
                        refine lv_aload_n hx hb dX9_law_85 rfl (lv_at hl 0 rfl) ?_
                        refine va_get (ci := 5) (C := RX9) (T := TX9) (N := 21) (v := .ref (gA G 74)) hx hb hts inX9 hown hK.1 hP 61 (at_5 rfl) rfl 19 (by decide) w2 (fun _ h9 => h9) rfl dX9_law_86 ?_
                        refine lv_bipush (v := 100) hx hb dX9_law_89 (by decide) ?_
                        refine lv_iload_n hx hb dX9_law_91 rfl (lv_at hl 1 rfl) ?_
                        refine lv_imul hx hb dX9_law_92 ?_
                        refine lv_iload hx hb dX9_law_93 (lv_at hl 7 rfl) ?_
                        refine lv_iadd hx hb dX9_law_95 ?_
                        obtain ⟨b10, hF⟩ := ite_some hF
                        refine va_iald hx hb hK.1 hP 74 0 (at_6 (rfl : kd 74 = 6) (rfl : ln 74 = 800)) rfl (inb_in b10) dX9_law_96 ?_
                        refine lv_istore (lv' := [(9, .int (σ 74 (((100 : Int32) * x1) + v8).toNatClampNeg)), (0, .ref (gA G 61)), (1, .int x1), (2, .int x2), (3, .int x3), (5, .int v5), (6, .int v6), (7, .int v7), (8, .int v8)]) hx hb dX9_law_97 hl (by decide) rfl (fun ls hl => ?_)
                        refine lv_iload hx hb dX9_law_99 (lv_at hl 7 rfl) ?_
                        refine lv_iload hx hb dX9_law_101 (lv_at hl 0 rfl) ?_
                        refine lv_aload_n hx hb dX9_law_103 rfl (lv_at hl 1 rfl) ?_
                        refine va_get (ci := 5) (C := RX9) (T := TX9) (N := 21) (v := .ref (gA G 72)) hx hb hts inX9 hown hK.1 hP 61 (at_5 rfl) rfl 17 (by decide) w3 (fun _ h9 => h9) rfl dX9_law_104 ?_
                        refine lv_iload_n hx hb dX9_law_107 rfl (lv_at hl 2 rfl) ?_
                        obtain ⟨b11, hF⟩ := ite_some hF
                        refine va_iald hx hb hK.1 hP 72 0 (at_6 (rfl : kd 72 = 6) (rfl : ln 72 = 8)) rfl (inb_in b11) dX9_law_108 ?_
                        refine k_Sv (As := [.int (σ 72 x1.toNatClampNeg)]) (rest := [.int (σ 74 (((100 : Int32) * x1) + v8).toNatClampNeg), .int v7]) Z hK hP hS (t_X9_leastOf l G hG (σ 72 x1.toNatClampNeg) σ) (va_cwS 1 hts gX9_law_X9_leastOf rfl rfl rfl (by decide +kernel) ⟨Nat.le_of_ble_eq_true rfl, Nat.le_of_ble_eq_true rfl⟩) rfl hl.1 rfl (Nat.le_of_ble_eq_true rfl) ⟨Nat.zero_le _, Nat.zero_le _⟩ dX9_law_109 (fun H locs hP hS => ?_)
                        have J144 : ∀ (v5 : Int32) (v6 : Int32) (v8 : Int32) (z0 : Int32) (z1 : Int32) (H : Heap) (locs : List Loc) (hP : Pw G σ H) (hS : va_S (AG G) s.heap H locs) (ls : Array Slot) (hl : lv_has ls 10 [(0, .ref (gA G 61)), (1, .int x1), (2, .int x2), (3, .int x3), (5, .int v5), (6, .int v6), (8, .int v8)]) (hF : f_X9_law_144 x1 x2 x3 σ (f_X9_law_52 x1 x2 x3 σ fl52) (f_X9_law_74 x1 x2 x3 σ (f_X9_law_52 x1 x2 x3 σ fl52) fl74) v5 v6 v8 z0 z1 = some o), W p l e (headSpec wsX9_law ({ frames := 3, cells := 0, slots := 0, locals := 64 })).room s m ([.ref (gA G 61), .int x1, .int x2, .int x3] : List Value).toArray below meth c H locs 0 0 (MQ below (qR G (some (.int o)) σ) ([.ref (gA G 61), .int x1, .int x2, .int x3] : List Value).toArray s 0 0 (AG G)) (F0 m 144 ls [.int z1, .int z0]) := by
                          intro v5 v6 v8 z0 z1 H locs hP hS ls hl hF
                          rw [f_X9_law_144_e] at hF
                          refine lv_iand hx hb dX9_law_144 ?_
                          refine lv_istore (lv' := [(7, .int (z0 &&& z1)), (0, .ref (gA G 61)), (1, .int x1), (2, .int x2), (3, .int x3), (5, .int v5), (6, .int v6), (8, .int v8)]) hx hb dX9_law_145 hl (by decide) rfl (fun ls hl => ?_)
                          refine lv_iinc (v := (v8 + (1 : Int32))) (lv' := [(8, .int (v8 + (1 : Int32))), (7, .int (z0 &&& z1)), (0, .ref (gA G 61)), (1, .int x1), (2, .int x2), (3, .int x3), (5, .int v5), (6, .int v6)]) hx hb dX9_law_147 hl (k := 7) rfl rfl (by decide) rfl (fun ls hl => ?_)
                          refine lv_goto (tgt := 74) hx hb dX9_law_150 (by decide) ?_
                          exact ih74 v5 v6 (z0 &&& z1) (v8 + (1 : Int32)) _ _ hP hS ls (lv_sub hl [2, 3, 4, 5, 6, 7, 1, 0] rfl) hF
                        have J139 : ∀ (v5 : Int32) (v6 : Int32) (v8 : Int32) (z0 : Int32) (H : Heap) (locs : List Loc) (hP : Pw G σ H) (hS : va_S (AG G) s.heap H locs) (ls : Array Slot) (hl : lv_has ls 10 [(0, .ref (gA G 61)), (1, .int x1), (2, .int x2), (3, .int x3), (5, .int v5), (6, .int v6), (8, .int v8)]) (hF : f_X9_law_139 x1 x2 x3 σ (f_X9_law_52 x1 x2 x3 σ fl52) (f_X9_law_74 x1 x2 x3 σ (f_X9_law_52 x1 x2 x3 σ fl52) fl74) v5 v6 v8 z0 = some o), W p l e (headSpec wsX9_law ({ frames := 3, cells := 0, slots := 0, locals := 64 })).room s m ([.ref (gA G 61), .int x1, .int x2, .int x3] : List Value).toArray below meth c H locs 0 0 (MQ below (qR G (some (.int o)) σ) ([.ref (gA G 61), .int x1, .int x2, .int x3] : List Value).toArray s 0 0 (AG G)) (F0 m 139 ls [.int z0]) := by
                          intro v5 v6 v8 z0 H locs hP hS ls hl hF
                          rw [f_X9_law_139_e] at hF
                          refine lv_iconst (v := 1) hx hb dX9_law_139 (by decide) ?_
                          refine lv_goto (tgt := 144) hx hb dX9_law_140 (by decide) ?_
                          exact J144 v5 v6 v8 z0 (1 : Int32) _ _ hP hS ls (lv_sub hl [0, 1, 2, 3, 4, 5, 6] rfl) hF
                        refine lv_icmp_eq (tgt := 139) hx hb dX9_law_112 (by decide) (fun c12 => ?_) (fun c12 => ?_)
                        · have hF := ite_t c12 hF
                          exact J139 v5 v6 v8 v7 _ _ hP hS ls (lv_sub hl [1, 2, 3, 4, 5, 6, 8] rfl) hF
                        · have hF := ite_f c12 hF
                          refine lv_iload hx hb dX9_law_115 (lv_at hl 0 rfl) ?_
                          refine lv_iload_n hx hb dX9_law_117 rfl (lv_at hl 4 rfl) ?_
                          have J136 : ∀ (v5 : Int32) (v6 : Int32) (v8 : Int32) (z0 : Int32) (z1 : Int32) (z2 : Int32) (H : Heap) (locs : List Loc) (hP : Pw G σ H) (hS : va_S (AG G) s.heap H locs) (ls : Array Slot) (hl : lv_has ls 10 [(0, .ref (gA G 61)), (1, .int x1), (2, .int x2), (3, .int x3), (5, .int v5), (6, .int v6), (8, .int v8)]) (hF : f_X9_law_136 x1 x2 x3 σ (f_X9_law_52 x1 x2 x3 σ fl52) (f_X9_law_74 x1 x2 x3 σ (f_X9_law_52 x1 x2 x3 σ fl52) fl74) v5 v6 v8 z0 z1 z2 = some o), W p l e (headSpec wsX9_law ({ frames := 3, cells := 0, slots := 0, locals := 64 })).room s m ([.ref (gA G 61), .int x1, .int x2, .int x3] : List Value).toArray below meth c H locs 0 0 (MQ below (qR G (some (.int o)) σ) ([.ref (gA G 61), .int x1, .int x2, .int x3] : List Value).toArray s 0 0 (AG G)) (F0 m 136 ls [.int z2, .int z1, .int z0]) := by
                            intro v5 v6 v8 z0 z1 z2 H locs hP hS ls hl hF
                            rw [f_X9_law_136_e] at hF
                            refine lv_icmp_ne (tgt := 143) hx hb dX9_law_136 (by decide) (fun c13 => ?_) (fun c13 => ?_)
                            · have hF := ite_f c13 hF
                              refine lv_iconst (v := 0) hx hb dX9_law_143 (by decide) ?_
                              exact J144 v5 v6 v8 z0 (0 : Int32) _ _ hP hS ls (lv_sub hl [0, 1, 2, 3, 4, 5, 6] rfl) hF
                            · have hF := ite_t c13 hF
                              exact J139 v5 v6 v8 z0 _ _ hP hS ls (lv_sub hl [0, 1, 2, 3, 4, 5, 6] rfl) hF
                          refine lv_if_ne (tgt := 130) hx hb dX9_law_118 (by decide) (fun c14 => ?_) (fun c14 => ?_)
                          · have hF := ite_f c14 hF
                            refine lv_iload_n hx hb dX9_law_130 rfl (lv_at hl 3 rfl) ?_
                            refine lv_iload hx hb dX9_law_131 (lv_at hl 6 rfl) ?_
                            refine k_Sv (As := [.int x2, .int v6]) (rest := [.int (σ 74 (((100 : Int32) * x1) + v8).toNatClampNeg), .int v7]) Z hK hP hS (t_X9_lasts l G hG x2 v6 σ) (va_cwS 2 hts gX9_law_X9_lasts rfl rfl rfl (by decide +kernel) ⟨Nat.le_of_ble_eq_true rfl, Nat.le_of_ble_eq_true rfl⟩) rfl hl.1 rfl (Nat.le_of_ble_eq_true rfl) ⟨Nat.zero_le _, Nat.zero_le _⟩ dX9_law_133 (fun H locs hP hS => ?_)
                            exact J136 v5 v6 v8 v7 (σ 74 (((100 : Int32) * x1) + v8).toNatClampNeg) (f_X9_lasts x2 v6) _ _ hP hS ls (lv_sub hl [1, 2, 3, 4, 5, 6, 8] rfl) hF
                          · have hF := ite_t c14 hF
                            refine lv_iload hx hb dX9_law_121 (lv_at hl 6 rfl) ?_
                            refine lv_iload_n hx hb dX9_law_123 rfl (lv_at hl 3 rfl) ?_
                            refine k_Sv (As := [.int v6, .int x2]) (rest := [.int (σ 74 (((100 : Int32) * x1) + v8).toNatClampNeg), .int v7]) Z hK hP hS (t_X9_lasts l G hG v6 x2 σ) (va_cwS 2 hts gX9_law_X9_lasts rfl rfl rfl (by decide +kernel) ⟨Nat.le_of_ble_eq_true rfl, Nat.le_of_ble_eq_true rfl⟩) rfl hl.1 rfl (Nat.le_of_ble_eq_true rfl) ⟨Nat.zero_le _, Nat.zero_le _⟩ dX9_law_124 (fun H locs hP hS => ?_)
                            refine lv_goto (tgt := 136) hx hb dX9_law_127 (by decide) ?_
                            exact J136 v5 v6 v8 v7 (σ 74 (((100 : Int32) * x1) + v8).toNatClampNeg) (f_X9_lasts v6 x2) _ _ hP hS ls (lv_sub hl [1, 2, 3, 4, 5, 6, 8] rfl) hF
                  refine lv_istore (lv' := [(8, .int (0 : Int32)), (7, .int (1 : Int32)), (0, .ref (gA G 61)), (1, .int x1), (2, .int x2), (3, .int x3), (5, .int v5), (6, .int v6)]) hx hb dX9_law_72 hl (by decide) rfl (fun ls hl => ?_)
                  exact J74 fu v5 v6 (1 : Int32) (0 : Int32) _ _ hP hS ls (lv_sub hl [2, 3, 4, 5, 6, 7, 1, 0] rfl) hF
              refine lv_if_ne (tgt := 63) hx hb dX9_law_55 (by decide) (fun c15 => ?_) (fun c15 => ?_)
              · have hF := ite_f c15 hF
                refine lv_bipush (v := 10) hx hb dX9_law_63 (by decide) ?_
                exact J65 v5 v6 v6 (10 : Int32) _ _ hP hS ls (lv_sub hl [0, 1, 2, 3, 4, 5] rfl) hF
              · have hF := ite_t c15 hF
                refine lv_bipush (v := 8) hx hb dX9_law_58 (by decide) ?_
                refine lv_goto (tgt := 65) hx hb dX9_law_60 (by decide) ?_
                exact J65 v5 v6 v6 (8 : Int32) _ _ hP hS ls (lv_sub hl [0, 1, 2, 3, 4, 5] rfl) hF
          refine lv_istore (lv' := [(6, .int (0 : Int32)), (5, .int (0 : Int32)), (4, .int q3), (0, .ref (gA G 61)), (1, .int x1), (2, .int x2), (3, .int x3)]) hx hb dX9_law_50 hl (by decide) rfl (fun ls hl => ?_)
          exact J52 fu (0 : Int32) (0 : Int32) _ _ hP hS ls (lv_sub hl [3, 4, 5, 6, 1, 0] rfl) hF
        · have hF := ite_f c5 hF
          refine lv_iload hx hb dX9_law_43 (lv_at hl 0 rfl) ?_
          exact e_iP hx hb hr hP hS hlocks dX9_law_45 hF
      · have hF := ite_f (b2i_e0 c2) hF
        refine lv_iconst (v := -1) hx hb dX9_law_28 (by decide) ?_
        exact e_iP hx hb hr hP hS hlocks dX9_law_29 hF
    refine lv_if_ne (tgt := 20) hx hb dX9_law_12 (by decide) (fun c16 => ?_) (fun c16 => ?_)
    · have hF := ite_f c16 hF
      refine lv_bipush (v := 7) hx hb dX9_law_20 (by decide) ?_
      exact J22 x2 (0 : Int32) (7 : Int32) _ _ hP hS ls (lv_sub hl [0, 1, 2, 3] rfl) hF
    · have hF := ite_t c16 hF
      refine lv_bipush (v := 9) hx hb dX9_law_15 (by decide) ?_
      refine lv_goto (tgt := 22) hx hb dX9_law_17 (by decide) ?_
      exact J22 x2 (0 : Int32) (9 : Int32) _ _ hP hS ls (lv_sub hl [0, 1, 2, 3] rfl) hF
def f_X9_toldWithout_46 (x1 : Int32) (σ : St) (rec4 : Int32 → Int32 → Option Int32) (v3 : Int32) (z0 : Int32) (z1 : Int32) : Option Int32 := (rec4 (z0 + z1) (v3 + (1 : Int32)))
theorem f_X9_toldWithout_46_e {x1 : Int32} {σ : St} {rec4 : Int32 → Int32 → Option Int32} {v3 : Int32} {z0 : Int32} {z1 : Int32} : f_X9_toldWithout_46 x1 σ rec4 v3 z0 z1 = (rec4 (z0 + z1) (v3 + (1 : Int32))) := rfl
def f_X9_toldWithout_45 (x1 : Int32) (σ : St) (rec4 : Int32 → Int32 → Option Int32) (v3 : Int32) (z0 : Int32) : Option Int32 := (f_X9_toldWithout_46 x1 σ rec4 v3 z0 (0 : Int32))
theorem f_X9_toldWithout_45_e {x1 : Int32} {σ : St} {rec4 : Int32 → Int32 → Option Int32} {v3 : Int32} {z0 : Int32} : f_X9_toldWithout_45 x1 σ rec4 v3 z0 = (f_X9_toldWithout_46 x1 σ rec4 v3 z0 (0 : Int32)) := rfl
def f_X9_toldWithout_4 (x1 : Int32) (σ : St) : Nat → (Int32 → Int32 → Option Int32)
  | 0 => fun _ _ => none
  | fl + 1 => fun v2 v3 => (if (σ 62 0) ≤ v3 then (some v2) else (ob (f_X9_isTold 62 v3 σ) (fun q2 => if q2 = true then (if (f_X9_has x1 v3) = true then f_X9_toldWithout_45 x1 σ (f_X9_toldWithout_4 x1 σ fl) v3 v2 else (ob (f_X9_sizeOf 62 v3 σ) (fun q6 => f_X9_toldWithout_46 x1 σ (f_X9_toldWithout_4 x1 σ fl) v3 v2 q6))) else f_X9_toldWithout_45 x1 σ (f_X9_toldWithout_4 x1 σ fl) v3 v2)))
theorem f_X9_toldWithout_4_s {x1 : Int32} {σ : St} (fl : Nat) {v2 : Int32} {v3 : Int32} : f_X9_toldWithout_4 x1 σ (fl + 1) v2 v3 = (if (σ 62 0) ≤ v3 then (some v2) else (ob (f_X9_isTold 62 v3 σ) (fun q2 => if q2 = true then (if (f_X9_has x1 v3) = true then f_X9_toldWithout_45 x1 σ (f_X9_toldWithout_4 x1 σ fl) v3 v2 else (ob (f_X9_sizeOf 62 v3 σ) (fun q6 => f_X9_toldWithout_46 x1 σ (f_X9_toldWithout_4 x1 σ fl) v3 v2 q6))) else f_X9_toldWithout_45 x1 σ (f_X9_toldWithout_4 x1 σ fl) v3 v2))) := rfl
def f_X9_toldWithout (x1 : Int32) (σ : St) : Option Int32 := (f_X9_toldWithout_4 x1 σ fu (0 : Int32) (0 : Int32))
set_option maxRecDepth 100000 in
set_option maxHeartbeats 4000000 in
theorem t_X9_toldWithout (l : Launch) (G : GT) (hG : Dw G) (x1 : Int32) (σ : St) (o : Int32) (hF : f_X9_toldWithout x1 σ = some o) : Ct l G yX9_toldWithout wsX9_toldWithout 2 42 [.ref (gA G 61), .int x1] σ (some (.int o)) σ := by
  refine Met.ofW (cc := cX9_toldWithout) (maxL := 4) (ret := (some .int)) (by decide) rfl ?_
  intro p e s m args below meth c s₁ B hml hv
  obtain ⟨rfl, hP, hK⟩ := hv
  have hx := B.exec
  have hb := B.bytes
  have hr := B.returns
  have hts := atoms_spec (ws := wsX9_toldWithout) B.pre
  have hown : s.vm.findClass RX9 = some m.cls := findClass_of_methodNamed B.named
  have hlocks := B.notSynchronized
  have Z : CallFix p m c cX9_toldWithout 4 s _ wsX9_toldWithout RX9 := ⟨hx, hb, hml, hown, hts⟩
  have hS : va_S (AG G) s.heap s.heap [] := va_S.rf
  have inX9 : ∀ w ∈ u_ws RX9 TX9 21, w ∈ wsX9_toldWithout := by decide +kernel
  have w1 := hts (.fieldLink RX9 9 "AlmanacOfTheYearGoneModel" "s" "[I") (by decide +kernel)
  have hl := lv_entry ([.ref (gA G 61), .int x1]) (n := 4) (Nat.le_of_ble_eq_true rfl)
  rw [lg_entry_eq]
  generalize (lg_sl ([.ref (gA G 61), .int x1]) ++ List.replicate (4 - (lg_sl ([.ref (gA G 61), .int x1])).length) Slot.unset).toArray = ls at hl ⊢
  have hl : lv_has ls 4 [(0, .ref (gA G 61)), (1, .int x1)] := hl
  unfold f_X9_toldWithout at hF
  refine lv_iconst (v := 0) hx hb dX9_toldWithout_0 (by decide) ?_
  refine lv_istore_n (lv' := [(2, .int (0 : Int32)), (0, .ref (gA G 61)), (1, .int x1)]) hx hb dX9_toldWithout_1 rfl hl (by decide) rfl (fun ls hl => ?_)
  refine lv_iconst (v := 0) hx hb dX9_toldWithout_2 (by decide) ?_
  have J4 : ∀ (fl : Nat) (v2 : Int32) (v3 : Int32) (H : Heap) (locs : List Loc) (hP : Pw G σ H) (hS : va_S (AG G) s.heap H locs) (ls : Array Slot) (hl : lv_has ls 4 [(0, .ref (gA G 61)), (1, .int x1), (2, .int v2), (3, .int v3)]) (hF : f_X9_toldWithout_4 x1 σ fl v2 v3 = some o), W p l e (headSpec wsX9_toldWithout ({ frames := 2, cells := 0, slots := 0, locals := 42 })).room s m ([.ref (gA G 61), .int x1] : List Value).toArray below meth c H locs 0 0 (MQ below (qR G (some (.int o)) σ) ([.ref (gA G 61), .int x1] : List Value).toArray s 0 0 (AG G)) (F0 m 4 ls []) := by
    intro fl4
    induction fl4 with
    | zero => intro v2 v3 H locs hP hS ls hl hF; cases hF
    | succ fl4 ih4 =>
      intro v2 v3 H locs hP hS ls hl hF
      rw [f_X9_toldWithout_4_s] at hF
      refine lv_iload_n hx hb dX9_toldWithout_4 rfl (lv_at hl 3 rfl) ?_
      refine lv_aload_n hx hb dX9_toldWithout_5 rfl (lv_at hl 0 rfl) ?_
      refine va_get (ci := 5) (C := RX9) (T := TX9) (N := 21) (v := .ref (gA G 62)) hx hb hts inX9 hown hK.1 hP 61 (at_5 rfl) rfl 0 (by decide) w1 (fun _ h9 => h9) rfl dX9_toldWithout_6 ?_
      refine lv_iconst (v := 0) hx hb dX9_toldWithout_9 (by decide) ?_
      refine va_iald hx hb hK.1 hP 62 0 (at_6 (rfl : kd 62 = 6) (rfl : ln 62 = 52)) rfl (inb_in (by decide)) dX9_toldWithout_10 ?_
      refine W.eq (g2 := F0 m 11 ls ([.int (σ 62 0), .int v3])) rfl ?_
      refine lv_icmp_ge (tgt := 54) hx hb dX9_toldWithout_11 (by decide) (fun c1 => ?_) (fun c1 => ?_)
      · have hF := ite_t c1 hF
        refine lv_iload_n hx hb dX9_toldWithout_54 rfl (lv_at hl 2 rfl) ?_
        exact e_iP hx hb hr hP hS hlocks dX9_toldWithout_55 hF
      · have hF := ite_f c1 hF
        refine lv_iload_n hx hb dX9_toldWithout_14 rfl (lv_at hl 2 rfl) ?_
        refine lv_aload_n hx hb dX9_toldWithout_15 rfl (lv_at hl 0 rfl) ?_
        refine va_get (ci := 5) (C := RX9) (T := TX9) (N := 21) (v := .ref (gA G 62)) hx hb hts inX9 hown hK.1 hP 61 (at_5 rfl) rfl 0 (by decide) w1 (fun _ h9 => h9) rfl dX9_toldWithout_16 ?_
        refine lv_iload_n hx hb dX9_toldWithout_19 rfl (lv_at hl 3 rfl) ?_
        obtain ⟨q2, h3, hF⟩ := ob_some hF
        refine k_Sv (As := [.ref (gA G 62), .int v3]) (rest := [.int v2]) Z hK hP hS (t_X9_isTold l G hG 62 v3 ⟨(rfl : kd 62 = 6), (rfl : ln 62 = 52)⟩ σ _ h3) (va_cwS 2 hts gX9_toldWithout_X9_isTold rfl rfl rfl (by decide +kernel) ⟨Nat.le_of_ble_eq_true rfl, Nat.le_of_ble_eq_true rfl⟩) rfl hl.1 rfl (Nat.le_of_ble_eq_true rfl) ⟨Nat.zero_le _, Nat.zero_le _⟩ dX9_toldWithout_20 (fun H locs hP hS => ?_)
        have J46 : ∀ (v3 : Int32) (z0 : Int32) (z1 : Int32) (H : Heap) (locs : List Loc) (hP : Pw G σ H) (hS : va_S (AG G) s.heap H locs) (ls : Array Slot) (hl : lv_has ls 4 [(0, .ref (gA G 61)), (1, .int x1), (3, .int v3)]) (hF : f_X9_toldWithout_46 x1 σ (f_X9_toldWithout_4 x1 σ fl4) v3 z0 z1 = some o), W p l e (headSpec wsX9_toldWithout ({ frames := 2, cells := 0, slots := 0, locals := 42 })).room s m ([.ref (gA G 61), .int x1] : List Value).toArray below meth c H locs 0 0 (MQ below (qR G (some (.int o)) σ) ([.ref (gA G 61), .int x1] : List Value).toArray s 0 0 (AG G)) (F0 m 46 ls [.int z1, .int z0]) := by
          intro v3 z0 z1 H locs hP hS ls hl hF
          rw [f_X9_toldWithout_46_e] at hF
          refine lv_iadd hx hb dX9_toldWithout_46 ?_
          refine lv_istore_n (lv' := [(2, .int (z0 + z1)), (0, .ref (gA G 61)), (1, .int x1), (3, .int v3)]) hx hb dX9_toldWithout_47 rfl hl (by decide) rfl (fun ls hl => ?_)
          refine lv_iinc (v := (v3 + (1 : Int32))) (lv' := [(3, .int (v3 + (1 : Int32))), (2, .int (z0 + z1)), (0, .ref (gA G 61)), (1, .int x1)]) hx hb dX9_toldWithout_48 hl (k := 3) rfl rfl (by decide) rfl (fun ls hl => ?_)
          refine lv_goto (tgt := 4) hx hb dX9_toldWithout_51 (by decide) ?_
          exact ih4 (z0 + z1) (v3 + (1 : Int32)) _ _ hP hS ls (lv_sub hl [2, 3, 1, 0] rfl) hF
        have J45 : ∀ (v3 : Int32) (z0 : Int32) (H : Heap) (locs : List Loc) (hP : Pw G σ H) (hS : va_S (AG G) s.heap H locs) (ls : Array Slot) (hl : lv_has ls 4 [(0, .ref (gA G 61)), (1, .int x1), (3, .int v3)]) (hF : f_X9_toldWithout_45 x1 σ (f_X9_toldWithout_4 x1 σ fl4) v3 z0 = some o), W p l e (headSpec wsX9_toldWithout ({ frames := 2, cells := 0, slots := 0, locals := 42 })).room s m ([.ref (gA G 61), .int x1] : List Value).toArray below meth c H locs 0 0 (MQ below (qR G (some (.int o)) σ) ([.ref (gA G 61), .int x1] : List Value).toArray s 0 0 (AG G)) (F0 m 45 ls [.int z0]) := by
          intro v3 z0 H locs hP hS ls hl hF
          rw [f_X9_toldWithout_45_e] at hF
          refine lv_iconst (v := 0) hx hb dX9_toldWithout_45 (by decide) ?_
          exact J46 v3 z0 (0 : Int32) _ _ hP hS ls (lv_sub hl [0, 1, 2] rfl) hF
        refine lv_if_eq (tgt := 45) hx hb dX9_toldWithout_23 (by decide) (fun c4 => ?_) (fun c4 => ?_)
        · have hF := ite_f (b2i_e0 c4) hF
          exact J45 v3 v2 _ _ hP hS ls (lv_sub hl [0, 1, 3] rfl) hF
        · have hF := ite_t (b2i_n0 c4) hF
          refine lv_iload_n hx hb dX9_toldWithout_26 rfl (lv_at hl 1 rfl) ?_
          refine lv_iload_n hx hb dX9_toldWithout_27 rfl (lv_at hl 3 rfl) ?_
          refine k_Sv (As := [.int x1, .int v3]) (rest := [.int v2]) Z hK hP hS (t_X9_has l G hG x1 v3 σ) (va_cwS 2 hts gX9_toldWithout_X9_has rfl rfl rfl (by decide +kernel) ⟨Nat.le_of_ble_eq_true rfl, Nat.le_of_ble_eq_true rfl⟩) rfl hl.1 rfl (Nat.le_of_ble_eq_true rfl) ⟨Nat.zero_le _, Nat.zero_le _⟩ dX9_toldWithout_28 (fun H locs hP hS => ?_)
          refine lv_if_ne (tgt := 45) hx hb dX9_toldWithout_31 (by decide) (fun c5 => ?_) (fun c5 => ?_)
          · have hF := ite_t (b2i_n0 c5) hF
            exact J45 v3 v2 _ _ hP hS ls (lv_sub hl [0, 1, 3] rfl) hF
          · have hF := ite_f (b2i_e0 c5) hF
            refine lv_aload_n hx hb dX9_toldWithout_34 rfl (lv_at hl 0 rfl) ?_
            refine va_get (ci := 5) (C := RX9) (T := TX9) (N := 21) (v := .ref (gA G 62)) hx hb hts inX9 hown hK.1 hP 61 (at_5 rfl) rfl 0 (by decide) w1 (fun _ h9 => h9) rfl dX9_toldWithout_35 ?_
            refine lv_iload_n hx hb dX9_toldWithout_38 rfl (lv_at hl 3 rfl) ?_
            obtain ⟨q6, h7, hF⟩ := ob_some hF
            refine k_Sv (As := [.ref (gA G 62), .int v3]) (rest := [.int v2]) Z hK hP hS (t_X9_sizeOf l G hG 62 v3 ⟨(rfl : kd 62 = 6), (rfl : ln 62 = 52)⟩ σ _ h7) (va_cwS 2 hts gX9_toldWithout_X9_sizeOf rfl rfl rfl (by decide +kernel) ⟨Nat.le_of_ble_eq_true rfl, Nat.le_of_ble_eq_true rfl⟩) rfl hl.1 rfl (Nat.le_of_ble_eq_true rfl) ⟨Nat.zero_le _, Nat.zero_le _⟩ dX9_toldWithout_39 (fun H locs hP hS => ?_)
            refine lv_goto (tgt := 46) hx hb dX9_toldWithout_42 (by decide) ?_
            exact J46 v3 v2 q6 _ _ hP hS ls (lv_sub hl [0, 1, 3] rfl) hF
  refine lv_istore_n (lv' := [(3, .int (0 : Int32)), (2, .int (0 : Int32)), (0, .ref (gA G 61)), (1, .int x1)]) hx hb dX9_toldWithout_3 rfl hl (by decide) rfl (fun ls hl => ?_)
  exact J4 fu (0 : Int32) (0 : Int32) _ _ hP hS ls (lv_sub hl [2, 3, 1, 0] rfl) hF
def f_X9_leastInIt_65 (x1 : Int32) (x2 : Int32) (σ : St) (rec26 : Int32 → Int32 → Option Int32) (v3 : Int32) (v4 : Int32) : Option Int32 := (rec26 v3 (v4 + (1 : Int32)))
theorem f_X9_leastInIt_65_e {x1 : Int32} {x2 : Int32} {σ : St} {rec26 : Int32 → Int32 → Option Int32} {v3 : Int32} {v4 : Int32} : f_X9_leastInIt_65 x1 x2 σ rec26 v3 v4 = (rec26 v3 (v4 + (1 : Int32))) := rfl
def f_X9_leastInIt_26 (x1 : Int32) (x2 : Int32) (σ : St) : Nat → (Int32 → Int32 → Option Int32)
  | 0 => fun _ _ => none
  | fl + 1 => fun v3 v4 => (if ((1 : Int32) <<< ((σ 62 0) &&& 31)) ≤ v4 then (if x2 = 0 then (some v3) else (ob (f_X9_toldWithout v3 σ) (fun q5 => some q5))) else (ob (f_X9_bits v4 σ) (fun q7 => if x1 < q7 then f_X9_leastInIt_65 x1 x2 σ (f_X9_leastInIt_26 x1 x2 σ fl) v3 v4 else (ob (f_X9_toldWithout v4 σ) (fun q10 => ob (f_X9_toldWithout v3 σ) (fun q12 => if q12 ≤ q10 then f_X9_leastInIt_65 x1 x2 σ (f_X9_leastInIt_26 x1 x2 σ fl) v3 v4 else (f_X9_leastInIt_65 x1 x2 σ (f_X9_leastInIt_26 x1 x2 σ fl) v4 v4)))))))
theorem f_X9_leastInIt_26_s {x1 : Int32} {x2 : Int32} {σ : St} (fl : Nat) {v3 : Int32} {v4 : Int32} : f_X9_leastInIt_26 x1 x2 σ (fl + 1) v3 v4 = (if ((1 : Int32) <<< ((σ 62 0) &&& 31)) ≤ v4 then (if x2 = 0 then (some v3) else (ob (f_X9_toldWithout v3 σ) (fun q5 => some q5))) else (ob (f_X9_bits v4 σ) (fun q7 => if x1 < q7 then f_X9_leastInIt_65 x1 x2 σ (f_X9_leastInIt_26 x1 x2 σ fl) v3 v4 else (ob (f_X9_toldWithout v4 σ) (fun q10 => ob (f_X9_toldWithout v3 σ) (fun q12 => if q12 ≤ q10 then f_X9_leastInIt_65 x1 x2 σ (f_X9_leastInIt_26 x1 x2 σ fl) v3 v4 else (f_X9_leastInIt_65 x1 x2 σ (f_X9_leastInIt_26 x1 x2 σ fl) v4 v4))))))) := rfl
def f_X9_leastInIt (x1 : Int32) (x2 : Int32) (σ : St) : Option Int32 := (if (f_X9_isIn x1 (0 : Int32) (10 : Int32)) = true then (if (f_X9_isIn x2 (0 : Int32) (1 : Int32)) = true then (f_X9_leastInIt_26 x1 x2 σ fu (0 : Int32) (1 : Int32)) else (some (-1 : Int32))) else (some (-1 : Int32)))
set_option maxRecDepth 100000 in
set_option maxHeartbeats 4000000 in
theorem t_X9_leastInIt (l : Launch) (G : GT) (hG : Dw G) (x1 : Int32) (x2 : Int32) (σ : St) (o : Int32) (hF : f_X9_leastInIt x1 x2 σ = some o) : Ct l G yX9_leastInIt wsX9_leastInIt 3 65 [.ref (gA G 61), .int x1, .int x2] σ (some (.int o)) σ := by
  refine Met.ofW (cc := cX9_leastInIt) (maxL := 5) (ret := (some .int)) (by decide) rfl ?_
  intro p e s m args below meth c s₁ B hml hv
  obtain ⟨rfl, hP, hK⟩ := hv
  have hx := B.exec
  have hb := B.bytes
  have hr := B.returns
  have hts := atoms_spec (ws := wsX9_leastInIt) B.pre
  have hown : s.vm.findClass RX9 = some m.cls := findClass_of_methodNamed B.named
  have hlocks := B.notSynchronized
  have Z : CallFix p m c cX9_leastInIt 5 s _ wsX9_leastInIt RX9 := ⟨hx, hb, hml, hown, hts⟩
  have hS : va_S (AG G) s.heap s.heap [] := va_S.rf
  have inX9 : ∀ w ∈ u_ws RX9 TX9 21, w ∈ wsX9_leastInIt := by decide +kernel
  have w1 := hts (.fieldLink RX9 9 "AlmanacOfTheYearGoneModel" "s" "[I") (by decide +kernel)
  have hl := lv_entry ([.ref (gA G 61), .int x1, .int x2]) (n := 5) (Nat.le_of_ble_eq_true rfl)
  rw [lg_entry_eq]
  generalize (lg_sl ([.ref (gA G 61), .int x1, .int x2]) ++ List.replicate (5 - (lg_sl ([.ref (gA G 61), .int x1, .int x2])).length) Slot.unset).toArray = ls at hl ⊢
  have hl : lv_has ls 5 [(0, .ref (gA G 61)), (1, .int x1), (2, .int x2)] := hl
  unfold f_X9_leastInIt at hF
  refine lv_iload_n hx hb dX9_leastInIt_0 rfl (lv_at hl 1 rfl) ?_
  refine lv_iconst (v := 0) hx hb dX9_leastInIt_1 (by decide) ?_
  refine lv_bipush (v := 10) hx hb dX9_leastInIt_2 (by decide) ?_
  refine k_Sv (As := [.int x1, .int (0 : Int32), .int (10 : Int32)]) (rest := []) Z hK hP hS (t_X9_isIn l G hG x1 (0 : Int32) (10 : Int32) σ) (va_cwS 3 hts gX9_leastInIt_X9_isIn rfl rfl rfl (by decide +kernel) ⟨Nat.le_of_ble_eq_true rfl, Nat.le_of_ble_eq_true rfl⟩) rfl hl.1 rfl (Nat.le_of_ble_eq_true rfl) ⟨Nat.zero_le _, Nat.zero_le _⟩ dX9_leastInIt_4 (fun H locs hP hS => ?_)
  refine lv_if_eq (tgt := 19) hx hb dX9_leastInIt_7 (by decide) (fun c1 => ?_) (fun c1 => ?_)
  · have hF := ite_f (b2i_e0 c1) hF
    refine lv_iconst (v := -1) hx hb dX9_leastInIt_19 (by decide) ?_
    exact e_iP hx hb hr hP hS hlocks dX9_leastInIt_20 hF
  · have hF := ite_t (b2i_n0 c1) hF
    refine lv_iload_n hx hb dX9_leastInIt_10 rfl (lv_at hl 2 rfl) ?_
    refine lv_iconst (v := 0) hx hb dX9_leastInIt_11 (by decide) ?_
    refine lv_iconst (v := 1) hx hb dX9_leastInIt_12 (by decide) ?_
    refine k_Sv (As := [.int x2, .int (0 : Int32), .int (1 : Int32)]) (rest := []) Z hK hP hS (t_X9_isIn l G hG x2 (0 : Int32) (1 : Int32) σ) (va_cwS 3 hts gX9_leastInIt_X9_isIn rfl rfl rfl (by decide +kernel) ⟨Nat.le_of_ble_eq_true rfl, Nat.le_of_ble_eq_true rfl⟩) rfl hl.1 rfl (Nat.le_of_ble_eq_true rfl) ⟨Nat.zero_le _, Nat.zero_le _⟩ dX9_leastInIt_13 (fun H locs hP hS => ?_)
    refine lv_if_ne (tgt := 21) hx hb dX9_leastInIt_16 (by decide) (fun c2 => ?_) (fun c2 => ?_)
    · have hF := ite_t (b2i_n0 c2) hF
      refine lv_iconst (v := 0) hx hb dX9_leastInIt_21 (by decide) ?_
      refine lv_istore_n (lv' := [(3, .int (0 : Int32)), (0, .ref (gA G 61)), (1, .int x1), (2, .int x2)]) hx hb dX9_leastInIt_22 rfl hl (by decide) rfl (fun ls hl => ?_)
      refine lv_iconst (v := 1) hx hb dX9_leastInIt_23 (by decide) ?_
      have J26 : ∀ (fl : Nat) (v3 : Int32) (v4 : Int32) (H : Heap) (locs : List Loc) (hP : Pw G σ H) (hS : va_S (AG G) s.heap H locs) (ls : Array Slot) (hl : lv_has ls 5 [(0, .ref (gA G 61)), (1, .int x1), (2, .int x2), (3, .int v3), (4, .int v4)]) (hF : f_X9_leastInIt_26 x1 x2 σ fl v3 v4 = some o), W p l e (headSpec wsX9_leastInIt ({ frames := 3, cells := 0, slots := 0, locals := 65 })).room s m ([.ref (gA G 61), .int x1, .int x2] : List Value).toArray below meth c H locs 0 0 (MQ below (qR G (some (.int o)) σ) ([.ref (gA G 61), .int x1, .int x2] : List Value).toArray s 0 0 (AG G)) (F0 m 26 ls []) := by
        intro fl26
        induction fl26 with
        | zero => intro v3 v4 H locs hP hS ls hl hF; cases hF
        | succ fl26 ih26 =>
          intro v3 v4 H locs hP hS ls hl hF
          rw [f_X9_leastInIt_26_s] at hF
          refine lv_iload hx hb dX9_leastInIt_26 (lv_at hl 4 rfl) ?_
          refine lv_iconst (v := 1) hx hb dX9_leastInIt_28 (by decide) ?_
          refine lv_aload_n hx hb dX9_leastInIt_29 rfl (lv_at hl 0 rfl) ?_
          refine va_get (ci := 5) (C := RX9) (T := TX9) (N := 21) (v := .ref (gA G 62)) hx hb hts inX9 hown hK.1 hP 61 (at_5 rfl) rfl 0 (by decide) w1 (fun _ h9 => h9) rfl dX9_leastInIt_30 ?_
          refine lv_iconst (v := 0) hx hb dX9_leastInIt_33 (by decide) ?_
          refine va_iald hx hb hK.1 hP 62 0 (at_6 (rfl : kd 62 = 6) (rfl : ln 62 = 52)) rfl (inb_in (by decide)) dX9_leastInIt_34 ?_
          refine W.eq (g2 := F0 m 35 ls ([.int (σ 62 0), .int (1 : Int32), .int v4])) rfl ?_
          refine lv_ishl hx hb dX9_leastInIt_35 ?_
          refine lv_icmp_ge (tgt := 71) hx hb dX9_leastInIt_36 (by decide) (fun c3 => ?_) (fun c3 => ?_)
          · have hF := ite_t c3 hF
            refine lv_iload_n hx hb dX9_leastInIt_71 rfl (lv_at hl 2 rfl) ?_
            refine lv_if_ne (tgt := 79) hx hb dX9_leastInIt_72 (by decide) (fun c4 => ?_) (fun c4 => ?_)
            · have hF := ite_f c4 hF
              refine lv_aload_n hx hb dX9_leastInIt_79 rfl (lv_at hl 0 rfl) ?_
              refine lv_iload_n hx hb dX9_leastInIt_80 rfl (lv_at hl 3 rfl) ?_
              obtain ⟨q5, h6, hF⟩ := ob_some hF
              refine k_Vv (As := [.int v3]) (rest := []) Z hK hP hS (t_X9_toldWithout l G hG v3 σ _ h6) (cwV 1 hts gX9_leastInIt_X9_toldWithout rfl rfl rfl (by decide +kernel) ⟨Nat.le_of_ble_eq_true rfl, Nat.le_of_ble_eq_true rfl⟩) (at_5 rfl) rfl rfl hl.1 rfl (Nat.le_of_ble_eq_true rfl) ⟨Nat.zero_le _, Nat.zero_le _⟩ dX9_leastInIt_81 (fun H locs hP hS => ?_)
              exact e_iP hx hb hr hP hS hlocks dX9_leastInIt_84 hF
            · have hF := ite_t c4 hF
              refine lv_iload_n hx hb dX9_leastInIt_75 rfl (lv_at hl 3 rfl) ?_
              refine lv_goto (tgt := 84) hx hb dX9_leastInIt_76 (by decide) ?_
              exact e_iP hx hb hr hP hS hlocks dX9_leastInIt_84 hF
          · have hF := ite_f c3 hF
            refine lv_iload hx hb dX9_leastInIt_39 (lv_at hl 4 rfl) ?_
            obtain ⟨q7, h8, hF⟩ := ob_some hF
            refine k_Sv (As := [.int v4]) (rest := []) Z hK hP hS (t_X9_bits l G hG v4 σ _ h8) (va_cwS 1 hts gX9_leastInIt_X9_bits rfl rfl rfl (by decide +kernel) ⟨Nat.le_of_ble_eq_true rfl, Nat.le_of_ble_eq_true rfl⟩) rfl hl.1 rfl (Nat.le_of_ble_eq_true rfl) ⟨Nat.zero_le _, Nat.zero_le _⟩ dX9_leastInIt_41 (fun H locs hP hS => ?_)
            refine lv_iload_n hx hb dX9_leastInIt_44 rfl (lv_at hl 1 rfl) ?_
            have J65 : ∀ (v3 : Int32) (v4 : Int32) (H : Heap) (locs : List Loc) (hP : Pw G σ H) (hS : va_S (AG G) s.heap H locs) (ls : Array Slot) (hl : lv_has ls 5 [(0, .ref (gA G 61)), (1, .int x1), (2, .int x2), (3, .int v3), (4, .int v4)]) (hF : f_X9_leastInIt_65 x1 x2 σ (f_X9_leastInIt_26 x1 x2 σ fl26) v3 v4 = some o), W p l e (headSpec wsX9_leastInIt ({ frames := 3, cells := 0, slots := 0, locals := 65 })).room s m ([.ref (gA G 61), .int x1, .int x2] : List Value).toArray below meth c H locs 0 0 (MQ below (qR G (some (.int o)) σ) ([.ref (gA G 61), .int x1, .int x2] : List Value).toArray s 0 0 (AG G)) (F0 m 65 ls []) := by
              intro v3 v4 H locs hP hS ls hl hF
              rw [f_X9_leastInIt_65_e] at hF
              refine lv_iinc (v := (v4 + (1 : Int32))) (lv' := [(4, .int (v4 + (1 : Int32))), (0, .ref (gA G 61)), (1, .int x1), (2, .int x2), (3, .int v3)]) hx hb dX9_leastInIt_65 hl (k := 4) rfl rfl (by decide) rfl (fun ls hl => ?_)
              refine lv_goto (tgt := 26) hx hb dX9_leastInIt_68 (by decide) ?_
              exact ih26 v3 (v4 + (1 : Int32)) _ _ hP hS ls (lv_sub hl [1, 2, 3, 4, 0] rfl) hF
            refine lv_icmp_gt (tgt := 65) hx hb dX9_leastInIt_45 (by decide) (fun c9 => ?_) (fun c9 => ?_)
            · have hF := ite_t c9 hF
              exact J65 v3 v4 _ _ hP hS ls (lv_sub hl [0, 1, 2, 3, 4] rfl) hF
            · have hF := ite_f c9 hF
              refine lv_aload_n hx hb dX9_leastInIt_48 rfl (lv_at hl 0 rfl) ?_
              refine lv_iload hx hb dX9_leastInIt_49 (lv_at hl 4 rfl) ?_
              obtain ⟨q10, h11, hF⟩ := ob_some hF
              refine k_Vv (As := [.int v4]) (rest := []) Z hK hP hS (t_X9_toldWithout l G hG v4 σ _ h11) (cwV 1 hts gX9_leastInIt_X9_toldWithout rfl rfl rfl (by decide +kernel) ⟨Nat.le_of_ble_eq_true rfl, Nat.le_of_ble_eq_true rfl⟩) (at_5 rfl) rfl rfl hl.1 rfl (Nat.le_of_ble_eq_true rfl) ⟨Nat.zero_le _, Nat.zero_le _⟩ dX9_leastInIt_51 (fun H locs hP hS => ?_)
              refine lv_aload_n hx hb dX9_leastInIt_54 rfl (lv_at hl 0 rfl) ?_
              refine lv_iload_n hx hb dX9_leastInIt_55 rfl (lv_at hl 3 rfl) ?_
              obtain ⟨q12, h13, hF⟩ := ob_some hF
              refine k_Vv (As := [.int v3]) (rest := [.int q10]) Z hK hP hS (t_X9_toldWithout l G hG v3 σ _ h13) (cwV 1 hts gX9_leastInIt_X9_toldWithout rfl rfl rfl (by decide +kernel) ⟨Nat.le_of_ble_eq_true rfl, Nat.le_of_ble_eq_true rfl⟩) (at_5 rfl) rfl rfl hl.1 rfl (Nat.le_of_ble_eq_true rfl) ⟨Nat.zero_le _, Nat.zero_le _⟩ dX9_leastInIt_56 (fun H locs hP hS => ?_)
              refine lv_icmp_ge (tgt := 65) hx hb dX9_leastInIt_59 (by decide) (fun c14 => ?_) (fun c14 => ?_)
              · have hF := ite_t c14 hF
                exact J65 v3 v4 _ _ hP hS ls (lv_sub hl [0, 1, 2, 3, 4] rfl) hF
              · have hF := ite_f c14 hF
                refine lv_iload hx hb dX9_leastInIt_62 (lv_at hl 4 rfl) ?_
                refine lv_istore_n (lv' := [(3, .int v4), (0, .ref (gA G 61)), (1, .int x1), (2, .int x2), (4, .int v4)]) hx hb dX9_leastInIt_64 rfl hl (by decide) rfl (fun ls hl => ?_)
                exact J65 v4 v4 _ _ hP hS ls (lv_sub hl [1, 2, 3, 0, 4] rfl) hF
      refine lv_istore (lv' := [(4, .int (1 : Int32)), (3, .int (0 : Int32)), (0, .ref (gA G 61)), (1, .int x1), (2, .int x2)]) hx hb dX9_leastInIt_24 hl (by decide) rfl (fun ls hl => ?_)
      exact J26 fu (0 : Int32) (1 : Int32) _ _ hP hS ls (lv_sub hl [2, 3, 4, 1, 0] rfl) hF
    · have hF := ite_f (b2i_e0 c2) hF
      refine lv_iconst (v := -1) hx hb dX9_leastInIt_19 (by decide) ?_
      exact e_iP hx hb hr hP hS hlocks dX9_leastInIt_20 hF
def f_X9_robin_98 (x1 : Int32) (σ : St) (rec17 : Int32 → Int32 → Int32 → Option Int32) (v2 : Int32) (v3 : Int32) (v4 : Int32) : Option Int32 := (rec17 v2 v3 (v4 + (1 : Int32)))
theorem f_X9_robin_98_e {x1 : Int32} {σ : St} {rec17 : Int32 → Int32 → Int32 → Option Int32} {v2 : Int32} {v3 : Int32} {v4 : Int32} : f_X9_robin_98 x1 σ rec17 v2 v3 v4 = (rec17 v2 v3 (v4 + (1 : Int32))) := rfl
def f_X9_robin_17 (x1 : Int32) (σ : St) : Nat → (Int32 → Int32 → Int32 → Option Int32)
  | 0 => fun _ _ _ => none
  | fl + 1 => fun v2 v3 v4 => (if (σ 62 0) ≤ v4 then (some v2) else (if inb (f_X9_of v4 (4 : Int32)) 52 then ob (f_X9_whoHas 62 v4 σ) (fun q4 => ob (f_X9_bits ((σ 62 (f_X9_of v4 (4 : Int32)).toNatClampNeg) &&& (q4 ^^^ (-1 : Int32))) σ) (fun q6 => ob (f_X9_isTold 62 v4 σ) (fun q8 => if q8 = true then (if inb (f_X9_of v4 (3 : Int32)) 52 then if (σ 62 (f_X9_of v4 (3 : Int32)).toNatClampNeg) = x1 then (if v3 < q6 then (f_X9_robin_98 x1 σ (f_X9_robin_17 x1 σ fl) v4 q6 v4) else (f_X9_robin_98 x1 σ (f_X9_robin_17 x1 σ fl) v2 v3 v4)) else f_X9_robin_98 x1 σ (f_X9_robin_17 x1 σ fl) v2 v3 v4 else none) else f_X9_robin_98 x1 σ (f_X9_robin_17 x1 σ fl) v2 v3 v4))) else none))
theorem f_X9_robin_17_s {x1 : Int32} {σ : St} (fl : Nat) {v2 : Int32} {v3 : Int32} {v4 : Int32} : f_X9_robin_17 x1 σ (fl + 1) v2 v3 v4 = (if (σ 62 0) ≤ v4 then (some v2) else (if inb (f_X9_of v4 (4 : Int32)) 52 then ob (f_X9_whoHas 62 v4 σ) (fun q4 => ob (f_X9_bits ((σ 62 (f_X9_of v4 (4 : Int32)).toNatClampNeg) &&& (q4 ^^^ (-1 : Int32))) σ) (fun q6 => ob (f_X9_isTold 62 v4 σ) (fun q8 => if q8 = true then (if inb (f_X9_of v4 (3 : Int32)) 52 then if (σ 62 (f_X9_of v4 (3 : Int32)).toNatClampNeg) = x1 then (if v3 < q6 then (f_X9_robin_98 x1 σ (f_X9_robin_17 x1 σ fl) v4 q6 v4) else (f_X9_robin_98 x1 σ (f_X9_robin_17 x1 σ fl) v2 v3 v4)) else f_X9_robin_98 x1 σ (f_X9_robin_17 x1 σ fl) v2 v3 v4 else none) else f_X9_robin_98 x1 σ (f_X9_robin_17 x1 σ fl) v2 v3 v4))) else none)) := rfl
def f_X9_robin (x1 : Int32) (σ : St) : Option Int32 := (if (f_X9_isPerson x1) = true then (f_X9_robin_17 x1 σ fu (-4 : Int32) (0 : Int32) (0 : Int32)) else (some (-1 : Int32)))
set_option maxRecDepth 100000 in
set_option maxHeartbeats 4000000 in
theorem t_X9_robin (l : Launch) (G : GT) (hG : Dw G) (x1 : Int32) (σ : St) (o : Int32) (hF : f_X9_robin x1 σ = some o) : Ct l G yX9_robin wsX9_robin 4 90 [.ref (gA G 61), .int x1] σ (some (.int o)) σ := by
  refine Met.ofW (cc := cX9_robin) (maxL := 6) (ret := (some .int)) (by decide) rfl ?_
  intro p e s m args below meth c s₁ B hml hv
  obtain ⟨rfl, hP, hK⟩ := hv
  have hx := B.exec
  have hb := B.bytes
  have hr := B.returns
  have hts := atoms_spec (ws := wsX9_robin) B.pre
  have hown : s.vm.findClass RX9 = some m.cls := findClass_of_methodNamed B.named
  have hlocks := B.notSynchronized
  have Z : CallFix p m c cX9_robin 6 s _ wsX9_robin RX9 := ⟨hx, hb, hml, hown, hts⟩
  have hS : va_S (AG G) s.heap s.heap [] := va_S.rf
  have inX9 : ∀ w ∈ u_ws RX9 TX9 21, w ∈ wsX9_robin := by decide +kernel
  have w1 := hts (.fieldLink RX9 9 "AlmanacOfTheYearGoneModel" "s" "[I") (by decide +kernel)
  have hl := lv_entry ([.ref (gA G 61), .int x1]) (n := 6) (Nat.le_of_ble_eq_true rfl)
  rw [lg_entry_eq]
  generalize (lg_sl ([.ref (gA G 61), .int x1]) ++ List.replicate (6 - (lg_sl ([.ref (gA G 61), .int x1])).length) Slot.unset).toArray = ls at hl ⊢
  have hl : lv_has ls 6 [(0, .ref (gA G 61)), (1, .int x1)] := hl
  unfold f_X9_robin at hF
  refine lv_iload_n hx hb dX9_robin_0 rfl (lv_at hl 1 rfl) ?_
  refine k_Sv (As := [.int x1]) (rest := []) Z hK hP hS (t_X9_isPerson l G hG x1 σ) (va_cwS 1 hts gX9_robin_X9_isPerson rfl rfl rfl (by decide +kernel) ⟨Nat.le_of_ble_eq_true rfl, Nat.le_of_ble_eq_true rfl⟩) rfl hl.1 rfl (Nat.le_of_ble_eq_true rfl) ⟨Nat.zero_le _, Nat.zero_le _⟩ dX9_robin_1 (fun H locs hP hS => ?_)
  refine lv_if_ne (tgt := 9) hx hb dX9_robin_4 (by decide) (fun c1 => ?_) (fun c1 => ?_)
  · have hF := ite_t (b2i_n0 c1) hF
    refine lv_bipush (v := -4) hx hb dX9_robin_9 (by decide) ?_
    refine lv_istore_n (lv' := [(2, .int (-4 : Int32)), (0, .ref (gA G 61)), (1, .int x1)]) hx hb dX9_robin_11 rfl hl (by decide) rfl (fun ls hl => ?_)
    refine lv_iconst (v := 0) hx hb dX9_robin_12 (by decide) ?_
    refine lv_istore_n (lv' := [(3, .int (0 : Int32)), (2, .int (-4 : Int32)), (0, .ref (gA G 61)), (1, .int x1)]) hx hb dX9_robin_13 rfl hl (by decide) rfl (fun ls hl => ?_)
    refine lv_iconst (v := 0) hx hb dX9_robin_14 (by decide) ?_
    have J17 : ∀ (fl : Nat) (v2 : Int32) (v3 : Int32) (v4 : Int32) (H : Heap) (locs : List Loc) (hP : Pw G σ H) (hS : va_S (AG G) s.heap H locs) (ls : Array Slot) (hl : lv_has ls 6 [(0, .ref (gA G 61)), (1, .int x1), (2, .int v2), (3, .int v3), (4, .int v4)]) (hF : f_X9_robin_17 x1 σ fl v2 v3 v4 = some o), W p l e (headSpec wsX9_robin ({ frames := 4, cells := 0, slots := 0, locals := 90 })).room s m ([.ref (gA G 61), .int x1] : List Value).toArray below meth c H locs 0 0 (MQ below (qR G (some (.int o)) σ) ([.ref (gA G 61), .int x1] : List Value).toArray s 0 0 (AG G)) (F0 m 17 ls []) := by
      intro fl17
      induction fl17 with
      | zero => intro v2 v3 v4 H locs hP hS ls hl hF; cases hF
      | succ fl17 ih17 =>
        intro v2 v3 v4 H locs hP hS ls hl hF
        rw [f_X9_robin_17_s] at hF
        refine lv_iload hx hb dX9_robin_17 (lv_at hl 4 rfl) ?_
        refine lv_aload_n hx hb dX9_robin_19 rfl (lv_at hl 0 rfl) ?_
        refine va_get (ci := 5) (C := RX9) (T := TX9) (N := 21) (v := .ref (gA G 62)) hx hb hts inX9 hown hK.1 hP 61 (at_5 rfl) rfl 0 (by decide) w1 (fun _ h9 => h9) rfl dX9_robin_20 ?_
        refine lv_iconst (v := 0) hx hb dX9_robin_23 (by decide) ?_
        refine va_iald hx hb hK.1 hP 62 0 (at_6 (rfl : kd 62 = 6) (rfl : ln 62 = 52)) rfl (inb_in (by decide)) dX9_robin_24 ?_
        refine W.eq (g2 := F0 m 25 ls ([.int (σ 62 0), .int v4])) rfl ?_
        refine lv_icmp_ge (tgt := 104) hx hb dX9_robin_25 (by decide) (fun c2 => ?_) (fun c2 => ?_)
        · have hF := ite_t c2 hF
          refine lv_iload_n hx hb dX9_robin_104 rfl (lv_at hl 2 rfl) ?_
          exact e_iP hx hb hr hP hS hlocks dX9_robin_105 hF
        · have hF := ite_f c2 hF
          refine lv_aload_n hx hb dX9_robin_28 rfl (lv_at hl 0 rfl) ?_
          refine va_get (ci := 5) (C := RX9) (T := TX9) (N := 21) (v := .ref (gA G 62)) hx hb hts inX9 hown hK.1 hP 61 (at_5 rfl) rfl 0 (by decide) w1 (fun _ h9 => h9) rfl dX9_robin_29 ?_
          refine lv_iload hx hb dX9_robin_32 (lv_at hl 4 rfl) ?_
          refine lv_iconst (v := 4) hx hb dX9_robin_34 (by decide) ?_
          refine k_Sv (As := [.int v4, .int (4 : Int32)]) (rest := [.ref (gA G 62)]) Z hK hP hS (t_X9_of l G hG v4 (4 : Int32) σ) (va_cwS 2 hts gX9_robin_X9_of rfl rfl rfl (by decide +kernel) ⟨Nat.le_of_ble_eq_true rfl, Nat.le_of_ble_eq_true rfl⟩) rfl hl.1 rfl (Nat.le_of_ble_eq_true rfl) ⟨Nat.zero_le _, Nat.zero_le _⟩ dX9_robin_35 (fun H locs hP hS => ?_)
          obtain ⟨b3, hF⟩ := ite_some hF
          refine va_iald hx hb hK.1 hP 62 0 (at_6 (rfl : kd 62 = 6) (rfl : ln 62 = 52)) rfl (inb_in b3) dX9_robin_38 ?_
          refine lv_aload_n hx hb dX9_robin_39 rfl (lv_at hl 0 rfl) ?_
          refine va_get (ci := 5) (C := RX9) (T := TX9) (N := 21) (v := .ref (gA G 62)) hx hb hts inX9 hown hK.1 hP 61 (at_5 rfl) rfl 0 (by decide) w1 (fun _ h9 => h9) rfl dX9_robin_40 ?_
          refine lv_iload hx hb dX9_robin_43 (lv_at hl 4 rfl) ?_
          obtain ⟨q4, h5, hF⟩ := ob_some hF
          refine k_Sv (As := [.ref (gA G 62), .int v4]) (rest := [.int (σ 62 (f_X9_of v4 (4 : Int32)).toNatClampNeg)]) Z hK hP hS (t_X9_whoHas l G hG 62 v4 ⟨(rfl : kd 62 = 6), (rfl : ln 62 = 52)⟩ σ _ h5) (va_cwS 2 hts gX9_robin_X9_whoHas rfl rfl rfl (by decide +kernel) ⟨Nat.le_of_ble_eq_true rfl, Nat.le_of_ble_eq_true rfl⟩) rfl hl.1 rfl (Nat.le_of_ble_eq_true rfl) ⟨Nat.zero_le _, Nat.zero_le _⟩ dX9_robin_45 (fun H locs hP hS => ?_)
          refine lv_iconst (v := -1) hx hb dX9_robin_48 (by decide) ?_
          refine lv_ixor hx hb dX9_robin_49 ?_
          refine lv_iand hx hb dX9_robin_50 ?_
          obtain ⟨q6, h7, hF⟩ := ob_some hF
          refine k_Sv (As := [.int ((σ 62 (f_X9_of v4 (4 : Int32)).toNatClampNeg) &&& (q4 ^^^ (-1 : Int32)))]) (rest := []) Z hK hP hS (t_X9_bits l G hG ((σ 62 (f_X9_of v4 (4 : Int32)).toNatClampNeg) &&& (q4 ^^^ (-1 : Int32))) σ _ h7) (va_cwS 1 hts gX9_robin_X9_bits rfl rfl rfl (by decide +kernel) ⟨Nat.le_of_ble_eq_true rfl, Nat.le_of_ble_eq_true rfl⟩) rfl hl.1 rfl (Nat.le_of_ble_eq_true rfl) ⟨Nat.zero_le _, Nat.zero_le _⟩ dX9_robin_51 (fun H locs hP hS => ?_)
          refine lv_istore (lv' := [(5, .int q6), (0, .ref (gA G 61)), (1, .int x1), (2, .int v2), (3, .int v3), (4, .int v4)]) hx hb dX9_robin_54 hl (by decide) rfl (fun ls hl => ?_)
          refine lv_aload_n hx hb dX9_robin_56 rfl (lv_at hl 1 rfl) ?_
          refine va_get (ci := 5) (C := RX9) (T := TX9) (N := 21) (v := .ref (gA G 62)) hx hb hts inX9 hown hK.1 hP 61 (at_5 rfl) rfl 0 (by decide) w1 (fun _ h9 => h9) rfl dX9_robin_57 ?_
          refine lv_iload hx hb dX9_robin_60 (lv_at hl 5 rfl) ?_
          obtain ⟨q8, h9, hF⟩ := ob_some hF
          refine k_Sv (As := [.ref (gA G 62), .int v4]) (rest := []) Z hK hP hS (t_X9_isTold l G hG 62 v4 ⟨(rfl : kd 62 = 6), (rfl : ln 62 = 52)⟩ σ _ h9) (va_cwS 2 hts gX9_robin_X9_isTold rfl rfl rfl (by decide +kernel) ⟨Nat.le_of_ble_eq_true rfl, Nat.le_of_ble_eq_true rfl⟩) rfl hl.1 rfl (Nat.le_of_ble_eq_true rfl) ⟨Nat.zero_le _, Nat.zero_le _⟩ dX9_robin_62 (fun H locs hP hS => ?_)
          have J98 : ∀ (v2 : Int32) (v3 : Int32) (v4 : Int32) (H : Heap) (locs : List Loc) (hP : Pw G σ H) (hS : va_S (AG G) s.heap H locs) (ls : Array Slot) (hl : lv_has ls 6 [(0, .ref (gA G 61)), (1, .int x1), (2, .int v2), (3, .int v3), (4, .int v4)]) (hF : f_X9_robin_98 x1 σ (f_X9_robin_17 x1 σ fl17) v2 v3 v4 = some o), W p l e (headSpec wsX9_robin ({ frames := 4, cells := 0, slots := 0, locals := 90 })).room s m ([.ref (gA G 61), .int x1] : List Value).toArray below meth c H locs 0 0 (MQ below (qR G (some (.int o)) σ) ([.ref (gA G 61), .int x1] : List Value).toArray s 0 0 (AG G)) (F0 m 98 ls []) := by
            intro v2 v3 v4 H locs hP hS ls hl hF
            rw [f_X9_robin_98_e] at hF
            refine lv_iinc (v := (v4 + (1 : Int32))) (lv' := [(4, .int (v4 + (1 : Int32))), (0, .ref (gA G 61)), (1, .int x1), (2, .int v2), (3, .int v3)]) hx hb dX9_robin_98 hl (k := 4) rfl rfl (by decide) rfl (fun ls hl => ?_)
            refine lv_goto (tgt := 17) hx hb dX9_robin_101 (by decide) ?_
            exact ih17 v2 v3 (v4 + (1 : Int32)) _ _ hP hS ls (lv_sub hl [1, 2, 3, 4, 0] rfl) hF
          refine lv_if_eq (tgt := 98) hx hb dX9_robin_65 (by decide) (fun c10 => ?_) (fun c10 => ?_)
          · have hF := ite_f (b2i_e0 c10) hF
            exact J98 v2 v3 v4 _ _ hP hS ls (lv_sub hl [1, 2, 3, 4, 5] rfl) hF
          · have hF := ite_t (b2i_n0 c10) hF
            refine lv_aload_n hx hb dX9_robin_68 rfl (lv_at hl 1 rfl) ?_
            refine va_get (ci := 5) (C := RX9) (T := TX9) (N := 21) (v := .ref (gA G 62)) hx hb hts inX9 hown hK.1 hP 61 (at_5 rfl) rfl 0 (by decide) w1 (fun _ h9 => h9) rfl dX9_robin_69 ?_
            refine lv_iload hx hb dX9_robin_72 (lv_at hl 5 rfl) ?_
            refine lv_iconst (v := 3) hx hb dX9_robin_74 (by decide) ?_
            refine k_Sv (As := [.int v4, .int (3 : Int32)]) (rest := [.ref (gA G 62)]) Z hK hP hS (t_X9_of l G hG v4 (3 : Int32) σ) (va_cwS 2 hts gX9_robin_X9_of rfl rfl rfl (by decide +kernel) ⟨Nat.le_of_ble_eq_true rfl, Nat.le_of_ble_eq_true rfl⟩) rfl hl.1 rfl (Nat.le_of_ble_eq_true rfl) ⟨Nat.zero_le _, Nat.zero_le _⟩ dX9_robin_75 (fun H locs hP hS => ?_)
            obtain ⟨b11, hF⟩ := ite_some hF
            refine va_iald hx hb hK.1 hP 62 0 (at_6 (rfl : kd 62 = 6) (rfl : ln 62 = 52)) rfl (inb_in b11) dX9_robin_78 ?_
            refine lv_iload_n hx hb dX9_robin_79 rfl (lv_at hl 2 rfl) ?_
            refine lv_icmp_ne (tgt := 98) hx hb dX9_robin_80 (by decide) (fun c12 => ?_) (fun c12 => ?_)
            · have hF := ite_f c12 hF
              exact J98 v2 v3 v4 _ _ hP hS ls (lv_sub hl [1, 2, 3, 4, 5] rfl) hF
            · have hF := ite_t c12 hF
              refine lv_iload hx hb dX9_robin_83 (lv_at hl 0 rfl) ?_
              refine lv_iload_n hx hb dX9_robin_85 rfl (lv_at hl 4 rfl) ?_
              refine lv_icmp_gt (tgt := 92) hx hb dX9_robin_86 (by decide) (fun c13 => ?_) (fun c13 => ?_)
              · have hF := ite_t c13 hF
                refine lv_iload hx hb dX9_robin_92 (lv_at hl 5 rfl) ?_
                refine lv_istore_n (lv' := [(2, .int v4), (5, .int q6), (0, .ref (gA G 61)), (1, .int x1), (3, .int v3), (4, .int v4)]) hx hb dX9_robin_94 rfl hl (by decide) rfl (fun ls hl => ?_)
                refine lv_iload hx hb dX9_robin_95 (lv_at hl 1 rfl) ?_
                refine lv_istore_n (lv' := [(3, .int q6), (2, .int v4), (5, .int q6), (0, .ref (gA G 61)), (1, .int x1), (4, .int v4)]) hx hb dX9_robin_97 rfl hl (by decide) rfl (fun ls hl => ?_)
                exact J98 v4 q6 v4 _ _ hP hS ls (lv_sub hl [3, 4, 1, 0, 5] rfl) hF
              · have hF := ite_f c13 hF
                refine lv_goto (tgt := 98) hx hb dX9_robin_89 (by decide) ?_
                exact J98 v2 v3 v4 _ _ hP hS ls (lv_sub hl [1, 2, 3, 4, 5] rfl) hF
    refine lv_istore (lv' := [(4, .int (0 : Int32)), (3, .int (0 : Int32)), (2, .int (-4 : Int32)), (0, .ref (gA G 61)), (1, .int x1)]) hx hb dX9_robin_15 hl (by decide) rfl (fun ls hl => ?_)
    exact J17 fu (-4 : Int32) (0 : Int32) (0 : Int32) _ _ hP hS ls (lv_sub hl [3, 4, 2, 1, 0] rfl) hF
  · have hF := ite_f (b2i_e0 c1) hF
    refine lv_iconst (v := -1) hx hb dX9_robin_7 (by decide) ?_
    exact e_iP hx hb hr hP hS hlocks dX9_robin_8 hF
def f_X9_hasDone_18 (x0 : Int32) (x1 : Int32) (x2 : Int32) (z0 : Int32) : Int32 := (z0 - (f_X9_guiltBy (x0 / (10 : Int32)) (x0 - x0 / (10 : Int32) * (10 : Int32))))
theorem f_X9_hasDone_18_e {x0 : Int32} {x1 : Int32} {x2 : Int32} {z0 : Int32} : f_X9_hasDone_18 x0 x1 x2 z0 = (z0 - (f_X9_guiltBy (x0 / (10 : Int32)) (x0 - x0 / (10 : Int32) * (10 : Int32)))) := rfl
def f_X9_hasDone (x0 : Int32) (x1 : Int32) (x2 : Int32) : Int32 := (if x1 = 0 then ((0 : Int32)) else (if x2 = (1 : Int32) then (f_X9_hasDone_18 x0 x1 x2 (1 : Int32)) else (f_X9_hasDone_18 x0 x1 x2 (3 : Int32))))
set_option maxRecDepth 100000 in
set_option maxHeartbeats 4000000 in
theorem t_X9_hasDone (l : Launch) (G : GT) (hG : Dw G) (x0 : Int32) (x1 : Int32) (x2 : Int32) (σ : St) : Ct l G yX9_hasDone wsX9_hasDone 1 21 [.int x0, .int x1, .int x2] σ (some (.int (f_X9_hasDone x0 x1 x2))) σ := by
  obtain ⟨o, hF⟩ : ∃ o, f_X9_hasDone x0 x1 x2 = o := ⟨_, rfl⟩
  rw [hF]
  refine Met.ofW (cc := cX9_hasDone) (maxL := 3) (ret := (some .int)) (by decide) rfl ?_
  intro p e s m args below meth c s₁ B hml hv
  obtain ⟨rfl, hP, hK⟩ := hv
  have hx := B.exec
  have hb := B.bytes
  have hr := B.returns
  have hts := atoms_spec (ws := wsX9_hasDone) B.pre
  have hown : s.vm.findClass RX9 = some m.cls := findClass_of_methodNamed B.named
  have hlocks := B.notSynchronized
  have Z : CallFix p m c cX9_hasDone 3 s _ wsX9_hasDone RX9 := ⟨hx, hb, hml, hown, hts⟩
  have hS : va_S (AG G) s.heap s.heap [] := va_S.rf
  have hl := lv_entry ([.int x0, .int x1, .int x2]) (n := 3) (Nat.le_of_ble_eq_true rfl)
  rw [lg_entry_eq]
  generalize (lg_sl ([.int x0, .int x1, .int x2]) ++ List.replicate (3 - (lg_sl ([.int x0, .int x1, .int x2])).length) Slot.unset).toArray = ls at hl ⊢
  have hl : lv_has ls 3 [(0, .int x0), (1, .int x1), (2, .int x2)] := hl
  unfold f_X9_hasDone at hF
  refine lv_iload_n hx hb dX9_hasDone_0 rfl (lv_at hl 1 rfl) ?_
  refine lv_if_ne (tgt := 8) hx hb dX9_hasDone_1 (by decide) (fun c1 => ?_) (fun c1 => ?_)
  · have hF := ite_f c1 hF
    refine lv_iload_n hx hb dX9_hasDone_8 rfl (lv_at hl 2 rfl) ?_
    refine lv_iconst (v := 1) hx hb dX9_hasDone_9 (by decide) ?_
    have J18 : ∀ (z0 : Int32) (H : Heap) (locs : List Loc) (hP : Pw G σ H) (hS : va_S (AG G) s.heap H locs) (ls : Array Slot) (hl : lv_has ls 3 [(0, .int x0), (1, .int x1), (2, .int x2)]) (hF : f_X9_hasDone_18 x0 x1 x2 z0 = o), W p l e (headSpec wsX9_hasDone ({ frames := 1, cells := 0, slots := 0, locals := 21 })).room s m ([.int x0, .int x1, .int x2] : List Value).toArray below meth c H locs 0 0 (MQ below (qR G (some (.int o)) σ) ([.int x0, .int x1, .int x2] : List Value).toArray s 0 0 (AG G)) (F0 m 18 ls [.int z0]) := by
      intro z0 H locs hP hS ls hl hF
      rw [f_X9_hasDone_18_e] at hF
      refine lv_iload_n hx hb dX9_hasDone_18 rfl (lv_at hl 0 rfl) ?_
      refine lv_bipush (v := 10) hx hb dX9_hasDone_19 (by decide) ?_
      refine lv_idiv hx hb dX9_hasDone_21 (by decide) ?_
      refine lv_iload_n hx hb dX9_hasDone_22 rfl (lv_at hl 0 rfl) ?_
      refine lv_bipush (v := 10) hx hb dX9_hasDone_23 (by decide) ?_
      refine lv_irem hx hb dX9_hasDone_25 (by decide) ?_
      refine k_Sv (As := [.int (x0 / (10 : Int32)), .int (x0 - x0 / (10 : Int32) * (10 : Int32))]) (rest := [.int z0]) Z hK hP hS (t_X9_guiltBy l G hG (x0 / (10 : Int32)) (x0 - x0 / (10 : Int32) * (10 : Int32)) σ) (va_cwS 2 hts gX9_hasDone_X9_guiltBy rfl rfl rfl (by decide +kernel) ⟨Nat.le_of_ble_eq_true rfl, Nat.le_of_ble_eq_true rfl⟩) rfl hl.1 rfl (Nat.le_of_ble_eq_true rfl) ⟨Nat.zero_le _, Nat.zero_le _⟩ dX9_hasDone_26 (fun H locs hP hS => ?_)
      refine lv_isub hx hb dX9_hasDone_29 ?_
      exact e_iT hx hb hr hP hS hlocks dX9_hasDone_30 hF
    refine lv_icmp_ne (tgt := 17) hx hb dX9_hasDone_10 (by decide) (fun c2 => ?_) (fun c2 => ?_)
    · have hF := ite_f c2 hF
      refine lv_iconst (v := 3) hx hb dX9_hasDone_17 (by decide) ?_
      exact J18 (3 : Int32) _ _ hP hS ls (lv_sub hl [0, 1, 2] rfl) hF
    · have hF := ite_t c2 hF
      refine lv_iconst (v := 1) hx hb dX9_hasDone_13 (by decide) ?_
      refine lv_goto (tgt := 18) hx hb dX9_hasDone_14 (by decide) ?_
      exact J18 (1 : Int32) _ _ hP hS ls (lv_sub hl [0, 1, 2] rfl) hF
  · have hF := ite_t c1 hF
    refine lv_iconst (v := 0) hx hb dX9_hasDone_4 (by decide) ?_
    refine lv_goto (tgt := 30) hx hb dX9_hasDone_5 (by decide) ?_
    exact e_iT hx hb hr hP hS hlocks dX9_hasDone_30 hF
def f_X9_two_90 (x1 : Int32) (x2 : Int32) (σ : St) (rec24 : Int32 → Option Int32) (v3 : Int32) : Option Int32 := (rec24 (v3 + (1 : Int32)))
theorem f_X9_two_90_e {x1 : Int32} {x2 : Int32} {σ : St} {rec24 : Int32 → Option Int32} {v3 : Int32} : f_X9_two_90 x1 x2 σ rec24 v3 = (rec24 (v3 + (1 : Int32))) := rfl
def f_X9_two_24 (x1 : Int32) (x2 : Int32) (σ : St) : Nat → (Int32 → Option Int32)
  | 0 => fun _ => none
  | fl + 1 => fun v3 => (if (4 : Int32) ≤ v3 then (some (-4 : Int32)) else (if (f_X9_hasDone x1 (v3 / (2 : Int32)) (v3 - v3 / (2 : Int32) * (2 : Int32))) < (f_X9_hasDone x1 ((1 : Int32) - (v3 / (2 : Int32))) (v3 - v3 / (2 : Int32) * (2 : Int32))) then f_X9_two_90 x1 x2 σ (f_X9_two_24 x1 x2 σ fl) v3 else (if (f_X9_hasDone x2 (v3 - v3 / (2 : Int32) * (2 : Int32)) (v3 / (2 : Int32))) < (f_X9_hasDone x2 ((1 : Int32) - (v3 - v3 / (2 : Int32) * (2 : Int32))) (v3 / (2 : Int32))) then f_X9_two_90 x1 x2 σ (f_X9_two_24 x1 x2 σ fl) v3 else (some (((10 : Int32) * (v3 / (2 : Int32))) + (v3 - v3 / (2 : Int32) * (2 : Int32)))))))
theorem f_X9_two_24_s {x1 : Int32} {x2 : Int32} {σ : St} (fl : Nat) {v3 : Int32} : f_X9_two_24 x1 x2 σ (fl + 1) v3 = (if (4 : Int32) ≤ v3 then (some (-4 : Int32)) else (if (f_X9_hasDone x1 (v3 / (2 : Int32)) (v3 - v3 / (2 : Int32) * (2 : Int32))) < (f_X9_hasDone x1 ((1 : Int32) - (v3 / (2 : Int32))) (v3 - v3 / (2 : Int32) * (2 : Int32))) then f_X9_two_90 x1 x2 σ (f_X9_two_24 x1 x2 σ fl) v3 else (if (f_X9_hasDone x2 (v3 - v3 / (2 : Int32) * (2 : Int32)) (v3 / (2 : Int32))) < (f_X9_hasDone x2 ((1 : Int32) - (v3 - v3 / (2 : Int32) * (2 : Int32))) (v3 / (2 : Int32))) then f_X9_two_90 x1 x2 σ (f_X9_two_24 x1 x2 σ fl) v3 else (some (((10 : Int32) * (v3 / (2 : Int32))) + (v3 - v3 / (2 : Int32) * (2 : Int32))))))) := rfl
def f_X9_two (x1 : Int32) (x2 : Int32) (σ : St) : Option Int32 := (if (f_X9_isIn x1 (0 : Int32) (79 : Int32)) = true then (if (f_X9_isIn x2 (0 : Int32) (79 : Int32)) = true then (f_X9_two_24 x1 x2 σ fu (0 : Int32)) else (some (-1 : Int32))) else (some (-1 : Int32)))
set_option maxRecDepth 100000 in
set_option maxHeartbeats 4000000 in
theorem t_X9_two (l : Launch) (G : GT) (hG : Dw G) (x1 : Int32) (x2 : Int32) (σ : St) (o : Int32) (hF : f_X9_two x1 x2 σ = some o) : Ct l G yX9_two wsX9_two 2 43 [.ref (gA G 61), .int x1, .int x2] σ (some (.int o)) σ := by
  refine Met.ofW (cc := cX9_two) (maxL := 6) (ret := (some .int)) (by decide) rfl ?_
  intro p e s m args below meth c s₁ B hml hv
  obtain ⟨rfl, hP, hK⟩ := hv
  have hx := B.exec
  have hb := B.bytes
  have hr := B.returns
  have hts := atoms_spec (ws := wsX9_two) B.pre
  have hown : s.vm.findClass RX9 = some m.cls := findClass_of_methodNamed B.named
  have hlocks := B.notSynchronized
  have Z : CallFix p m c cX9_two 6 s _ wsX9_two RX9 := ⟨hx, hb, hml, hown, hts⟩
  have hS : va_S (AG G) s.heap s.heap [] := va_S.rf
  have hl := lv_entry ([.ref (gA G 61), .int x1, .int x2]) (n := 6) (Nat.le_of_ble_eq_true rfl)
  rw [lg_entry_eq]
  generalize (lg_sl ([.ref (gA G 61), .int x1, .int x2]) ++ List.replicate (6 - (lg_sl ([.ref (gA G 61), .int x1, .int x2])).length) Slot.unset).toArray = ls at hl ⊢
  have hl : lv_has ls 6 [(0, .ref (gA G 61)), (1, .int x1), (2, .int x2)] := hl
  unfold f_X9_two at hF
  refine lv_iload_n hx hb dX9_two_0 rfl (lv_at hl 1 rfl) ?_
  refine lv_iconst (v := 0) hx hb dX9_two_1 (by decide) ?_
  refine lv_bipush (v := 79) hx hb dX9_two_2 (by decide) ?_
  refine k_Sv (As := [.int x1, .int (0 : Int32), .int (79 : Int32)]) (rest := []) Z hK hP hS (t_X9_isIn l G hG x1 (0 : Int32) (79 : Int32) σ) (va_cwS 3 hts gX9_two_X9_isIn rfl rfl rfl (by decide +kernel) ⟨Nat.le_of_ble_eq_true rfl, Nat.le_of_ble_eq_true rfl⟩) rfl hl.1 rfl (Nat.le_of_ble_eq_true rfl) ⟨Nat.zero_le _, Nat.zero_le _⟩ dX9_two_4 (fun H locs hP hS => ?_)
  refine lv_if_eq (tgt := 20) hx hb dX9_two_7 (by decide) (fun c1 => ?_) (fun c1 => ?_)
  · have hF := ite_f (b2i_e0 c1) hF
    refine lv_iconst (v := -1) hx hb dX9_two_20 (by decide) ?_
    exact e_iP hx hb hr hP hS hlocks dX9_two_21 hF
  · have hF := ite_t (b2i_n0 c1) hF
    refine lv_iload_n hx hb dX9_two_10 rfl (lv_at hl 2 rfl) ?_
    refine lv_iconst (v := 0) hx hb dX9_two_11 (by decide) ?_
    refine lv_bipush (v := 79) hx hb dX9_two_12 (by decide) ?_
    refine k_Sv (As := [.int x2, .int (0 : Int32), .int (79 : Int32)]) (rest := []) Z hK hP hS (t_X9_isIn l G hG x2 (0 : Int32) (79 : Int32) σ) (va_cwS 3 hts gX9_two_X9_isIn rfl rfl rfl (by decide +kernel) ⟨Nat.le_of_ble_eq_true rfl, Nat.le_of_ble_eq_true rfl⟩) rfl hl.1 rfl (Nat.le_of_ble_eq_true rfl) ⟨Nat.zero_le _, Nat.zero_le _⟩ dX9_two_14 (fun H locs hP hS => ?_)
    refine lv_if_ne (tgt := 22) hx hb dX9_two_17 (by decide) (fun c2 => ?_) (fun c2 => ?_)
    · have hF := ite_t (b2i_n0 c2) hF
      refine lv_iconst (v := 0) hx hb dX9_two_22 (by decide) ?_
      have J24 : ∀ (fl : Nat) (v3 : Int32) (H : Heap) (locs : List Loc) (hP : Pw G σ H) (hS : va_S (AG G) s.heap H locs) (ls : Array Slot) (hl : lv_has ls 6 [(0, .ref (gA G 61)), (1, .int x1), (2, .int x2), (3, .int v3)]) (hF : f_X9_two_24 x1 x2 σ fl v3 = some o), W p l e (headSpec wsX9_two ({ frames := 2, cells := 0, slots := 0, locals := 43 })).room s m ([.ref (gA G 61), .int x1, .int x2] : List Value).toArray below meth c H locs 0 0 (MQ below (qR G (some (.int o)) σ) ([.ref (gA G 61), .int x1, .int x2] : List Value).toArray s 0 0 (AG G)) (F0 m 24 ls []) := by
        intro fl24
        induction fl24 with
        | zero => intro v3 H locs hP hS ls hl hF; cases hF
        | succ fl24 ih24 =>
          intro v3 H locs hP hS ls hl hF
          rw [f_X9_two_24_s] at hF
          refine lv_iload_n hx hb dX9_two_24 rfl (lv_at hl 3 rfl) ?_
          refine lv_iconst (v := 4) hx hb dX9_two_25 (by decide) ?_
          refine lv_icmp_ge (tgt := 96) hx hb dX9_two_26 (by decide) (fun c3 => ?_) (fun c3 => ?_)
          · have hF := ite_t c3 hF
            refine lv_bipush (v := -4) hx hb dX9_two_96 (by decide) ?_
            exact e_iP hx hb hr hP hS hlocks dX9_two_98 hF
          · have hF := ite_f c3 hF
            refine lv_iload_n hx hb dX9_two_29 rfl (lv_at hl 3 rfl) ?_
            refine lv_iconst (v := 2) hx hb dX9_two_30 (by decide) ?_
            refine lv_idiv hx hb dX9_two_31 (by decide) ?_
            refine lv_istore (lv' := [(4, .int (v3 / (2 : Int32))), (0, .ref (gA G 61)), (1, .int x1), (2, .int x2), (3, .int v3)]) hx hb dX9_two_32 hl (by decide) rfl (fun ls hl => ?_)
            refine lv_iload_n hx hb dX9_two_34 rfl (lv_at hl 4 rfl) ?_
            refine lv_iconst (v := 2) hx hb dX9_two_35 (by decide) ?_
            refine lv_irem hx hb dX9_two_36 (by decide) ?_
            refine lv_istore (lv' := [(5, .int (v3 - v3 / (2 : Int32) * (2 : Int32))), (4, .int (v3 / (2 : Int32))), (0, .ref (gA G 61)), (1, .int x1), (2, .int x2), (3, .int v3)]) hx hb dX9_two_37 hl (by decide) rfl (fun ls hl => ?_)
            refine lv_iload_n hx hb dX9_two_39 rfl (lv_at hl 3 rfl) ?_
            refine lv_iconst (v := 1) hx hb dX9_two_40 (by decide) ?_
            refine lv_iload hx hb dX9_two_41 (lv_at hl 1 rfl) ?_
            refine lv_isub hx hb dX9_two_43 ?_
            refine lv_iload hx hb dX9_two_44 (lv_at hl 0 rfl) ?_
            refine k_Sv (As := [.int x1, .int ((1 : Int32) - (v3 / (2 : Int32))), .int (v3 - v3 / (2 : Int32) * (2 : Int32))]) (rest := []) Z hK hP hS (t_X9_hasDone l G hG x1 ((1 : Int32) - (v3 / (2 : Int32))) (v3 - v3 / (2 : Int32) * (2 : Int32)) σ) (va_cwS 3 hts gX9_two_X9_hasDone rfl rfl rfl (by decide +kernel) ⟨Nat.le_of_ble_eq_true rfl, Nat.le_of_ble_eq_true rfl⟩) rfl hl.1 rfl (Nat.le_of_ble_eq_true rfl) ⟨Nat.zero_le _, Nat.zero_le _⟩ dX9_two_46 (fun H locs hP hS => ?_)
            refine lv_iload_n hx hb dX9_two_49 rfl (lv_at hl 3 rfl) ?_
            refine lv_iload hx hb dX9_two_50 (lv_at hl 1 rfl) ?_
            refine lv_iload hx hb dX9_two_52 (lv_at hl 0 rfl) ?_
            refine k_Sv (As := [.int x1, .int (v3 / (2 : Int32)), .int (v3 - v3 / (2 : Int32) * (2 : Int32))]) (rest := [.int (f_X9_hasDone x1 ((1 : Int32) - (v3 / (2 : Int32))) (v3 - v3 / (2 : Int32) * (2 : Int32)))]) Z hK hP hS (t_X9_hasDone l G hG x1 (v3 / (2 : Int32)) (v3 - v3 / (2 : Int32) * (2 : Int32)) σ) (va_cwS 3 hts gX9_two_X9_hasDone rfl rfl rfl (by decide +kernel) ⟨Nat.le_of_ble_eq_true rfl, Nat.le_of_ble_eq_true rfl⟩) rfl hl.1 rfl (Nat.le_of_ble_eq_true rfl) ⟨Nat.zero_le _, Nat.zero_le _⟩ dX9_two_54 (fun H locs hP hS => ?_)
            have J90 : ∀ (v3 : Int32) (H : Heap) (locs : List Loc) (hP : Pw G σ H) (hS : va_S (AG G) s.heap H locs) (ls : Array Slot) (hl : lv_has ls 6 [(0, .ref (gA G 61)), (1, .int x1), (2, .int x2), (3, .int v3)]) (hF : f_X9_two_90 x1 x2 σ (f_X9_two_24 x1 x2 σ fl24) v3 = some o), W p l e (headSpec wsX9_two ({ frames := 2, cells := 0, slots := 0, locals := 43 })).room s m ([.ref (gA G 61), .int x1, .int x2] : List Value).toArray below meth c H locs 0 0 (MQ below (qR G (some (.int o)) σ) ([.ref (gA G 61), .int x1, .int x2] : List Value).toArray s 0 0 (AG G)) (F0 m 90 ls []) := by
              intro v3 H locs hP hS ls hl hF
              rw [f_X9_two_90_e] at hF
              refine lv_iinc (v := (v3 + (1 : Int32))) (lv' := [(3, .int (v3 + (1 : Int32))), (0, .ref (gA G 61)), (1, .int x1), (2, .int x2)]) hx hb dX9_two_90 hl (k := 3) rfl rfl (by decide) rfl (fun ls hl => ?_)
              refine lv_goto (tgt := 24) hx hb dX9_two_93 (by decide) ?_
              exact ih24 (v3 + (1 : Int32)) _ _ hP hS ls (lv_sub hl [1, 2, 3, 0] rfl) hF
            refine lv_icmp_gt (tgt := 90) hx hb dX9_two_57 (by decide) (fun c4 => ?_) (fun c4 => ?_)
            · have hF := ite_t c4 hF
              exact J90 v3 _ _ hP hS ls (lv_sub hl [2, 3, 4, 5] rfl) hF
            · have hF := ite_f c4 hF
              refine lv_iload_n hx hb dX9_two_60 rfl (lv_at hl 4 rfl) ?_
              refine lv_iconst (v := 1) hx hb dX9_two_61 (by decide) ?_
              refine lv_iload hx hb dX9_two_62 (lv_at hl 0 rfl) ?_
              refine lv_isub hx hb dX9_two_64 ?_
              refine lv_iload hx hb dX9_two_65 (lv_at hl 1 rfl) ?_
              refine k_Sv (As := [.int x2, .int ((1 : Int32) - (v3 - v3 / (2 : Int32) * (2 : Int32))), .int (v3 / (2 : Int32))]) (rest := []) Z hK hP hS (t_X9_hasDone l G hG x2 ((1 : Int32) - (v3 - v3 / (2 : Int32) * (2 : Int32))) (v3 / (2 : Int32)) σ) (va_cwS 3 hts gX9_two_X9_hasDone rfl rfl rfl (by decide +kernel) ⟨Nat.le_of_ble_eq_true rfl, Nat.le_of_ble_eq_true rfl⟩) rfl hl.1 rfl (Nat.le_of_ble_eq_true rfl) ⟨Nat.zero_le _, Nat.zero_le _⟩ dX9_two_67 (fun H locs hP hS => ?_)
              refine lv_iload_n hx hb dX9_two_70 rfl (lv_at hl 4 rfl) ?_
              refine lv_iload hx hb dX9_two_71 (lv_at hl 0 rfl) ?_
              refine lv_iload hx hb dX9_two_73 (lv_at hl 1 rfl) ?_
              refine k_Sv (As := [.int x2, .int (v3 - v3 / (2 : Int32) * (2 : Int32)), .int (v3 / (2 : Int32))]) (rest := [.int (f_X9_hasDone x2 ((1 : Int32) - (v3 - v3 / (2 : Int32) * (2 : Int32))) (v3 / (2 : Int32)))]) Z hK hP hS (t_X9_hasDone l G hG x2 (v3 - v3 / (2 : Int32) * (2 : Int32)) (v3 / (2 : Int32)) σ) (va_cwS 3 hts gX9_two_X9_hasDone rfl rfl rfl (by decide +kernel) ⟨Nat.le_of_ble_eq_true rfl, Nat.le_of_ble_eq_true rfl⟩) rfl hl.1 rfl (Nat.le_of_ble_eq_true rfl) ⟨Nat.zero_le _, Nat.zero_le _⟩ dX9_two_75 (fun H locs hP hS => ?_)
              refine lv_icmp_gt (tgt := 90) hx hb dX9_two_78 (by decide) (fun c5 => ?_) (fun c5 => ?_)
              · have hF := ite_t c5 hF
                exact J90 v3 _ _ hP hS ls (lv_sub hl [2, 3, 4, 5] rfl) hF
              · have hF := ite_f c5 hF
                refine lv_bipush (v := 10) hx hb dX9_two_81 (by decide) ?_
                refine lv_iload hx hb dX9_two_83 (lv_at hl 1 rfl) ?_
                refine lv_imul hx hb dX9_two_85 ?_
                refine lv_iload hx hb dX9_two_86 (lv_at hl 0 rfl) ?_
                refine lv_iadd hx hb dX9_two_88 ?_
                exact e_iP hx hb hr hP hS hlocks dX9_two_89 hF
      refine lv_istore_n (lv' := [(3, .int (0 : Int32)), (0, .ref (gA G 61)), (1, .int x1), (2, .int x2)]) hx hb dX9_two_23 rfl hl (by decide) rfl (fun ls hl => ?_)
      exact J24 fu (0 : Int32) _ _ hP hS ls (lv_sub hl [1, 2, 3, 0] rfl) hF
    · have hF := ite_f (b2i_e0 c2) hF
      refine lv_iconst (v := -1) hx hb dX9_two_20 (by decide) ?_
      exact e_iP hx hb hr hP hS hlocks dX9_two_21 hF
def f_X9_gcd_6 (x0 : Int64) (x2 : Int64) (σ : St) : Nat → (Int64 → Int64 → Option Int64)
  | 0 => fun _ _ => none
  | fl + 1 => fun v4 v6 => (if (lg_cmp v6 (0 : Int64)) = 0 then (some v4) else (if ¬ v6 = 0 then (f_X9_gcd_6 x0 x2 σ fl) v6 (v4 - v4 / v6 * v6) else none))
theorem f_X9_gcd_6_s {x0 : Int64} {x2 : Int64} {σ : St} (fl : Nat) {v4 : Int64} {v6 : Int64} : f_X9_gcd_6 x0 x2 σ (fl + 1) v4 v6 = (if (lg_cmp v6 (0 : Int64)) = 0 then (some v4) else (if ¬ v6 = 0 then (f_X9_gcd_6 x0 x2 σ fl) v6 (v4 - v4 / v6 * v6) else none)) := rfl
def f_X9_gcd (x0 : Int64) (x2 : Int64) (σ : St) : Option Int64 := (f_X9_gcd_6 x0 x2 σ fu x0 x2)
set_option maxRecDepth 100000 in
set_option maxHeartbeats 4000000 in
theorem t_X9_gcd (l : Launch) (G : GT) (hG : Dw G) (x0 : Int64) (x2 : Int64) (σ : St) (o : Int64) (hF : f_X9_gcd x0 x2 σ = some o) : Ct l G yX9_gcd wsX9_gcd 0 0 [.long x0, .long x2] σ (some (.long o)) σ := by
  refine Met.ofW (cc := cX9_gcd) (maxL := 10) (ret := (some .long)) (by decide) rfl ?_
  intro p e s m args below meth c s₁ B hml hv
  obtain ⟨rfl, hP, hK⟩ := hv
  have hx := B.exec
  have hb := B.bytes
  have hr := B.returns
  have hts := atoms_spec (ws := wsX9_gcd) B.pre
  have hown : s.vm.findClass RX9 = some m.cls := findClass_of_methodNamed B.named
  have hlocks := B.notSynchronized
  have Z : CallFix p m c cX9_gcd 10 s _ wsX9_gcd RX9 := ⟨hx, hb, hml, hown, hts⟩
  have hS : va_S (AG G) s.heap s.heap [] := va_S.rf
  have hl := lv_entry ([.long x0, .long x2]) (n := 10) (Nat.le_of_ble_eq_true rfl)
  rw [lg_entry_eq]
  generalize (lg_sl ([.long x0, .long x2]) ++ List.replicate (10 - (lg_sl ([.long x0, .long x2])).length) Slot.unset).toArray = ls at hl ⊢
  have hl : lv_has ls 10 [(0, .long x0), (2, .long x2)] := hl
  unfold f_X9_gcd at hF
  refine lv_lload_n hx hb dX9_gcd_0 rfl (lv_at hl 0 rfl) ?_
  refine lv_lstore (lv' := [(4, .long x0), (0, .long x0), (2, .long x2)]) hx hb dX9_gcd_1 hl (by decide) rfl (fun ls hl => ?_)
  refine lv_lload_n hx hb dX9_gcd_3 rfl (lv_at hl 2 rfl) ?_
  have J6 : ∀ (fl : Nat) (v4 : Int64) (v6 : Int64) (H : Heap) (locs : List Loc) (hP : Pw G σ H) (hS : va_S (AG G) s.heap H locs) (ls : Array Slot) (hl : lv_has ls 10 [(0, .long x0), (2, .long x2), (4, .long v4), (6, .long v6)]) (hF : f_X9_gcd_6 x0 x2 σ fl v4 v6 = some o), W p l e (headSpec wsX9_gcd ({ frames := 0, cells := 0, slots := 0, locals := 0 })).room s m ([.long x0, .long x2] : List Value).toArray below meth c H locs 0 0 (MQ below (qR G (some (.long o)) σ) ([.long x0, .long x2] : List Value).toArray s 0 0 (AG G)) (F0 m 6 ls []) := by
    intro fl6
    induction fl6 with
    | zero => intro v4 v6 H locs hP hS ls hl hF; cases hF
    | succ fl6 ih6 =>
      intro v4 v6 H locs hP hS ls hl hF
      rw [f_X9_gcd_6_s] at hF
      refine lv_lload hx hb dX9_gcd_6 (lv_at hl 3 rfl) ?_
      refine lv_lconst (v := 0) hx hb dX9_gcd_8 (by decide) ?_
      refine W.lcmp hx hb dX9_gcd_9 ?_
      refine lv_if_eq (tgt := 31) hx hb dX9_gcd_10 (by decide) (fun c1 => ?_) (fun c1 => ?_)
      · have hF := ite_t c1 hF
        refine lv_lload hx hb dX9_gcd_31 (lv_at hl 2 rfl) ?_
        exact e_lP hx hb hr hP hS hlocks dX9_gcd_33 hF
      · have hF := ite_f c1 hF
        refine lv_lload hx hb dX9_gcd_13 (lv_at hl 2 rfl) ?_
        refine lv_lload hx hb dX9_gcd_15 (lv_at hl 3 rfl) ?_
        obtain ⟨b2, hF⟩ := ite_some hF
        refine lv_lrem hx hb dX9_gcd_17 b2 ?_
        refine lv_lstore (lv' := [(8, .long (v4 - v4 / v6 * v6)), (0, .long x0), (2, .long x2), (4, .long v4), (6, .long v6)]) hx hb dX9_gcd_18 hl (by decide) rfl (fun ls hl => ?_)
        refine lv_lload hx hb dX9_gcd_20 (lv_at hl 4 rfl) ?_
        refine lv_lstore (lv' := [(4, .long v6), (8, .long (v4 - v4 / v6 * v6)), (0, .long x0), (2, .long x2), (6, .long v6)]) hx hb dX9_gcd_22 hl (by decide) rfl (fun ls hl => ?_)
        refine lv_lload hx hb dX9_gcd_24 (lv_at hl 1 rfl) ?_
        refine lv_lstore (lv' := [(6, .long (v4 - v4 / v6 * v6)), (4, .long v6), (8, .long (v4 - v4 / v6 * v6)), (0, .long x0), (2, .long x2)]) hx hb dX9_gcd_26 hl (by decide) rfl (fun ls hl => ?_)
        refine lv_goto (tgt := 6) hx hb dX9_gcd_28 (by decide) ?_
        exact ih6 v6 (v4 - v4 / v6 * v6) _ _ hP hS ls (lv_sub hl [3, 4, 1, 0] rfl) hF
  refine lv_lstore (lv' := [(6, .long x2), (4, .long x0), (0, .long x0), (2, .long x2)]) hx hb dX9_gcd_4 hl (by decide) rfl (fun ls hl => ?_)
  exact J6 fu x0 x2 _ _ hP hS ls (lv_sub hl [2, 3, 1, 0] rfl) hF
def f_X9_partOf_20 (x0 : Int64) (x2 : Int64) (x4 : Int32) (σ : St) (z0 : Int64) : Option Int64 := (ob (f_X9_gcd x0 x2 σ) (fun q2 => if ¬ q2 = 0 then some (z0 / q2) else none))
theorem f_X9_partOf_20_e {x0 : Int64} {x2 : Int64} {x4 : Int32} {σ : St} {z0 : Int64} : f_X9_partOf_20 x0 x2 x4 σ z0 = (ob (f_X9_gcd x0 x2 σ) (fun q2 => if ¬ q2 = 0 then some (z0 / q2) else none)) := rfl
def f_X9_partOf (x0 : Int64) (x2 : Int64) (x4 : Int32) (σ : St) : Option Int64 := (if (lg_cmp x0 (0 : Int64)) = 0 then (some x4.toInt64) else (if x4 = 0 then (f_X9_partOf_20 x0 x2 x4 σ x0) else (f_X9_partOf_20 x0 x2 x4 σ x2)))
set_option maxRecDepth 100000 in
set_option maxHeartbeats 4000000 in
theorem t_X9_partOf (l : Launch) (G : GT) (hG : Dw G) (x0 : Int64) (x2 : Int64) (x4 : Int32) (σ : St) (o : Int64) (hF : f_X9_partOf x0 x2 x4 σ = some o) : Ct l G yX9_partOf wsX9_partOf 1 29 [.long x0, .long x2, .int x4] σ (some (.long o)) σ := by
  refine Met.ofW (cc := cX9_partOf) (maxL := 5) (ret := (some .long)) (by decide) rfl ?_
  intro p e s m args below meth c s₁ B hml hv
  obtain ⟨rfl, hP, hK⟩ := hv
  have hx := B.exec
  have hb := B.bytes
  have hr := B.returns
  have hts := atoms_spec (ws := wsX9_partOf) B.pre
  have hown : s.vm.findClass RX9 = some m.cls := findClass_of_methodNamed B.named
  have hlocks := B.notSynchronized
  have Z : CallFix p m c cX9_partOf 5 s _ wsX9_partOf RX9 := ⟨hx, hb, hml, hown, hts⟩
  have hS : va_S (AG G) s.heap s.heap [] := va_S.rf
  have hl := lv_entry ([.long x0, .long x2, .int x4]) (n := 5) (Nat.le_of_ble_eq_true rfl)
  rw [lg_entry_eq]
  generalize (lg_sl ([.long x0, .long x2, .int x4]) ++ List.replicate (5 - (lg_sl ([.long x0, .long x2, .int x4])).length) Slot.unset).toArray = ls at hl ⊢
  have hl : lv_has ls 5 [(0, .long x0), (2, .long x2), (4, .int x4)] := hl
  unfold f_X9_partOf at hF
  refine lv_lload_n hx hb dX9_partOf_0 rfl (lv_at hl 0 rfl) ?_
  refine lv_lconst (v := 0) hx hb dX9_partOf_1 (by decide) ?_
  refine W.lcmp hx hb dX9_partOf_2 ?_
  refine lv_if_ne (tgt := 10) hx hb dX9_partOf_3 (by decide) (fun c1 => ?_) (fun c1 => ?_)
  · have hF := ite_f c1 hF
    refine lv_iload hx hb dX9_partOf_10 (lv_at hl 2 rfl) ?_
    have J20 : ∀ (z0 : Int64) (H : Heap) (locs : List Loc) (hP : Pw G σ H) (hS : va_S (AG G) s.heap H locs) (ls : Array Slot) (hl : lv_has ls 5 [(0, .long x0), (2, .long x2), (4, .int x4)]) (hF : f_X9_partOf_20 x0 x2 x4 σ z0 = some o), W p l e (headSpec wsX9_partOf ({ frames := 1, cells := 0, slots := 0, locals := 29 })).room s m ([.long x0, .long x2, .int x4] : List Value).toArray below meth c H locs 0 0 (MQ below (qR G (some (.long o)) σ) ([.long x0, .long x2, .int x4] : List Value).toArray s 0 0 (AG G)) (F0 m 20 ls [.long z0]) := by
      intro z0 H locs hP hS ls hl hF
      rw [f_X9_partOf_20_e] at hF
      refine lv_lload_n hx hb dX9_partOf_20 rfl (lv_at hl 0 rfl) ?_
      refine lv_lload_n hx hb dX9_partOf_21 rfl (lv_at hl 1 rfl) ?_
      obtain ⟨q2, h3, hF⟩ := ob_some hF
      refine k_Sv (As := [.long x0, .long x2]) (rest := [.long z0]) Z hK hP hS (t_X9_gcd l G hG x0 x2 σ _ h3) (va_cwS 2 hts gX9_partOf_X9_gcd rfl rfl rfl (by decide +kernel) ⟨Nat.le_of_ble_eq_true rfl, Nat.le_of_ble_eq_true rfl⟩) rfl hl.1 rfl (Nat.le_of_ble_eq_true rfl) ⟨Nat.zero_le _, Nat.zero_le _⟩ dX9_partOf_22 (fun H locs hP hS => ?_)
      obtain ⟨b4, hF⟩ := ite_some hF
      refine lv_ldiv hx hb dX9_partOf_25 b4 ?_
      exact e_lP hx hb hr hP hS hlocks dX9_partOf_26 hF
    refine lv_if_ne (tgt := 19) hx hb dX9_partOf_12 (by decide) (fun c5 => ?_) (fun c5 => ?_)
    · have hF := ite_f c5 hF
      refine lv_lload_n hx hb dX9_partOf_19 rfl (lv_at hl 1 rfl) ?_
      exact J20 x2 _ _ hP hS ls (lv_sub hl [0, 1, 2] rfl) hF
    · have hF := ite_t c5 hF
      refine lv_lload_n hx hb dX9_partOf_15 rfl (lv_at hl 0 rfl) ?_
      refine lv_goto (tgt := 20) hx hb dX9_partOf_16 (by decide) ?_
      exact J20 x0 _ _ hP hS ls (lv_sub hl [0, 1, 2] rfl) hF
  · have hF := ite_t c1 hF
    refine lv_iload hx hb dX9_partOf_6 (lv_at hl 2 rfl) ?_
    refine lv_i2l hx hb dX9_partOf_8 rfl ?_
    exact e_lP hx hb hr hP hS hlocks dX9_partOf_9 hF
