def f_X9_chance_40 (x1 : Int32) (x2 : Int32) (x3 : Int32) (x4 : Int32) (σ : St) : Option Int64 := (some (1000000001 : Int64))
theorem f_X9_chance_40_e {x1 : Int32} {x2 : Int32} {x3 : Int32} {x4 : Int32} {σ : St} : f_X9_chance_40 x1 x2 x3 x4 σ  = (some (1000000001 : Int64)) := rfl
def f_X9_chance_131 (x1 : Int32) (x2 : Int32) (x3 : Int32) (x4 : Int32) (σ : St) (rec75 : Int64 → Int64 → Int32 → Option Int64) (v7 : Int64) (v9 : Int32) (z0 : Int64) (z1 : Int64) : Option Int64 := (rec75 (z0 + z1) v7 (v9 + (1 : Int32)))
theorem f_X9_chance_131_e {x1 : Int32} {x2 : Int32} {x3 : Int32} {x4 : Int32} {σ : St} {rec75 : Int64 → Int64 → Int32 → Option Int64} {v7 : Int64} {v9 : Int32} {z0 : Int64} {z1 : Int64} : f_X9_chance_131 x1 x2 x3 x4 σ rec75 v7 v9 z0 z1 = (rec75 (z0 + z1) v7 (v9 + (1 : Int32))) := rfl
def f_X9_chance_93 (x1 : Int32) (x2 : Int32) (x3 : Int32) (x4 : Int32) (σ : St) (rec75 : Int64 → Int64 → Int32 → Option Int64) : Nat → (Int64 → Int64 → Int32 → Int64 → Int32 → Option Int64)
  | 0 => fun _ _ _ _ _ => none
  | fl + 1 => fun v5 v7 v9 v10 v12 => (if x1 ≤ v12 then (ob (f_X9_bits v9 σ) (fun q12 => if q12 < x3 then (f_X9_chance_131 x1 x2 x3 x4 σ rec75 v7 v9 v5 (0 : Int64)) else (f_X9_chance_131 x1 x2 x3 x4 σ rec75 v7 v9 v5 v10))) else ((f_X9_chance_93 x1 x2 x3 x4 σ rec75 fl) v5 v7 v9 (v10 * ((x2 - (1 : Int32)).toInt64)) (v12 + (1 : Int32))))
theorem f_X9_chance_93_s {x1 : Int32} {x2 : Int32} {x3 : Int32} {x4 : Int32} {σ : St} {rec75 : Int64 → Int64 → Int32 → Option Int64} (fl : Nat) {v5 : Int64} {v7 : Int64} {v9 : Int32} {v10 : Int64} {v12 : Int32} : f_X9_chance_93 x1 x2 x3 x4 σ rec75 (fl + 1) v5 v7 v9 v10 v12 = (if x1 ≤ v12 then (ob (f_X9_bits v9 σ) (fun q12 => if q12 < x3 then (f_X9_chance_131 x1 x2 x3 x4 σ rec75 v7 v9 v5 (0 : Int64)) else (f_X9_chance_131 x1 x2 x3 x4 σ rec75 v7 v9 v5 v10))) else ((f_X9_chance_93 x1 x2 x3 x4 σ rec75 fl) v5 v7 v9 (v10 * ((x2 - (1 : Int32)).toInt64)) (v12 + (1 : Int32)))) := rfl
def f_X9_chance_75 (x1 : Int32) (x2 : Int32) (x3 : Int32) (x4 : Int32) (σ : St) : Nat → (Int64 → Int64 → Int32 → Option Int64)
  | 0 => fun _ _ _ => none
  | fl + 1 => fun v5 v7 v9 => (if ((1 : Int32) <<< (x1 &&& 31)) ≤ v9 then (ob (f_X9_partOf v5 v7 x4 σ) (fun q7 => some q7)) else (ob (f_X9_bits v9 σ) (fun q9 => f_X9_chance_93 x1 x2 x3 x4 σ (f_X9_chance_75 x1 x2 x3 x4 σ fl) fu v5 v7 v9 (1 : Int64) q9)))
theorem f_X9_chance_75_s {x1 : Int32} {x2 : Int32} {x3 : Int32} {x4 : Int32} {σ : St} (fl : Nat) {v5 : Int64} {v7 : Int64} {v9 : Int32} : f_X9_chance_75 x1 x2 x3 x4 σ (fl + 1) v5 v7 v9 = (if ((1 : Int32) <<< (x1 &&& 31)) ≤ v9 then (ob (f_X9_partOf v5 v7 x4 σ) (fun q7 => some q7)) else (ob (f_X9_bits v9 σ) (fun q9 => f_X9_chance_93 x1 x2 x3 x4 σ (f_X9_chance_75 x1 x2 x3 x4 σ fl) fu v5 v7 v9 (1 : Int64) q9))) := rfl
def f_X9_chance_53 (x1 : Int32) (x2 : Int32) (x3 : Int32) (x4 : Int32) (σ : St) : Nat → (Int64 → Int64 → Int32 → Option Int64)
  | 0 => fun _ _ _ => none
  | fl + 1 => fun v5 v7 v9 => (if x1 ≤ v9 then (f_X9_chance_75 x1 x2 x3 x4 σ fu v5 v7 (0 : Int32)) else ((f_X9_chance_53 x1 x2 x3 x4 σ fl) v5 (v7 * x2.toInt64) (v9 + (1 : Int32))))
theorem f_X9_chance_53_s {x1 : Int32} {x2 : Int32} {x3 : Int32} {x4 : Int32} {σ : St} (fl : Nat) {v5 : Int64} {v7 : Int64} {v9 : Int32} : f_X9_chance_53 x1 x2 x3 x4 σ (fl + 1) v5 v7 v9 = (if x1 ≤ v9 then (f_X9_chance_75 x1 x2 x3 x4 σ fu v5 v7 (0 : Int32)) else ((f_X9_chance_53 x1 x2 x3 x4 σ fl) v5 (v7 * x2.toInt64) (v9 + (1 : Int32)))) := rfl
def f_X9_chance (x1 : Int32) (x2 : Int32) (x3 : Int32) (x4 : Int32) (σ : St) : Option Int64 := (if (f_X9_isIn x1 (0 : Int32) (8 : Int32)) = true then (if (f_X9_isIn x2 (2 : Int32) (20 : Int32)) = true then (if (f_X9_isIn x3 (0 : Int32) (8 : Int32)) = true then (if (f_X9_isIn x4 (0 : Int32) (1 : Int32)) = true then (f_X9_chance_53 x1 x2 x3 x4 σ fu (0 : Int64) (1 : Int64) (0 : Int32)) else f_X9_chance_40 x1 x2 x3 x4 σ) else f_X9_chance_40 x1 x2 x3 x4 σ) else f_X9_chance_40 x1 x2 x3 x4 σ) else f_X9_chance_40 x1 x2 x3 x4 σ)
set_option maxRecDepth 100000 in
set_option maxHeartbeats 4000000 in
theorem t_X9_chance (l : Launch) (G : GT) (hG : Dw G) (x1 : Int32) (x2 : Int32) (x3 : Int32) (x4 : Int32) (σ : St) (o : Int64) (hF : f_X9_chance x1 x2 x3 x4 σ = some o) : Ct l G yX9_chance wsX9_chance 2 53 [.ref (gA G 61), .int x1, .int x2, .int x3, .int x4] σ (some (.long o)) σ := by
  refine Met.ofW (cc := cX9_chance) (maxL := 13) (ret := (some .long)) (by decide) rfl ?_
  intro p e s m args below meth c s₁ B hml hv
  obtain ⟨rfl, hP, hK⟩ := hv
  have hx := B.exec
  have hb := B.bytes
  have hr := B.returns
  have hts := atoms_spec (ws := wsX9_chance) B.pre
  have hown : s.vm.findClass RX9 = some m.cls := findClass_of_methodNamed B.named
  have hlocks := B.notSynchronized
  have Z : CallFix p m c cX9_chance 13 s _ wsX9_chance RX9 := ⟨hx, hb, hml, hown, hts⟩
  have hS : va_S (AG G) s.heap s.heap [] := va_S.rf
  have w1 := hts (.constantLong RX9 198 (1000000001)) (by decide +kernel)
  have hl := lv_entry ([.ref (gA G 61), .int x1, .int x2, .int x3, .int x4]) (n := 13) (Nat.le_of_ble_eq_true rfl)
  rw [lg_entry_eq]
  generalize (lg_sl ([.ref (gA G 61), .int x1, .int x2, .int x3, .int x4]) ++ List.replicate (13 - (lg_sl ([.ref (gA G 61), .int x1, .int x2, .int x3, .int x4])).length) Slot.unset).toArray = ls at hl ⊢
  have hl : lv_has ls 13 [(0, .ref (gA G 61)), (1, .int x1), (2, .int x2), (3, .int x3), (4, .int x4)] := hl
  unfold f_X9_chance at hF
  refine lv_iload_n hx hb dX9_chance_0 rfl (lv_at hl 1 rfl) ?_
  refine lv_iconst (v := 0) hx hb dX9_chance_1 (by decide) ?_
  refine lv_bipush (v := 8) hx hb dX9_chance_2 (by decide) ?_
  refine k_Sv (As := [.int x1, .int (0 : Int32), .int (8 : Int32)]) (rest := []) Z hK hP hS (t_X9_isIn l G hG x1 (0 : Int32) (8 : Int32) σ) (va_cwS 3 hts gX9_chance_X9_isIn rfl rfl rfl (by decide +kernel) ⟨Nat.le_of_ble_eq_true rfl, Nat.le_of_ble_eq_true rfl⟩) rfl hl.1 rfl (Nat.le_of_ble_eq_true rfl) ⟨Nat.zero_le _, Nat.zero_le _⟩ dX9_chance_4 (fun H locs hP hS => ?_)
  have J40 : ∀ (H : Heap) (locs : List Loc) (hP : Pw G σ H) (hS : va_S (AG G) s.heap H locs) (ls : Array Slot) (hl : lv_has ls 13 [(0, .ref (gA G 61)), (1, .int x1), (2, .int x2), (3, .int x3), (4, .int x4)]) (hF : f_X9_chance_40 x1 x2 x3 x4 σ  = some o), W p l e (headSpec wsX9_chance ({ frames := 2, cells := 0, slots := 0, locals := 53 })).room s m ([.ref (gA G 61), .int x1, .int x2, .int x3, .int x4] : List Value).toArray below meth c H locs 0 0 (MQ below (qR G (some (.long o)) σ) ([.ref (gA G 61), .int x1, .int x2, .int x3, .int x4] : List Value).toArray s 0 0 (AG G)) (F0 m 40 ls []) := by
    intro  H locs hP hS ls hl hF
    rw [f_X9_chance_40_e] at hF
    refine lv_ldc2 hx hb hown w1 dX9_chance_40 ?_
    exact e_lP hx hb hr hP hS hlocks dX9_chance_43 hF
  refine lv_if_eq (tgt := 40) hx hb dX9_chance_7 (by decide) (fun c1 => ?_) (fun c1 => ?_)
  · have hF := ite_f (b2i_e0 c1) hF
    exact J40  _ _ hP hS ls (lv_sub hl [0, 1, 2, 3, 4] rfl) hF
  · have hF := ite_t (b2i_n0 c1) hF
    refine lv_iload_n hx hb dX9_chance_10 rfl (lv_at hl 2 rfl) ?_
    refine lv_iconst (v := 2) hx hb dX9_chance_11 (by decide) ?_
    refine lv_bipush (v := 20) hx hb dX9_chance_12 (by decide) ?_
    refine k_Sv (As := [.int x2, .int (2 : Int32), .int (20 : Int32)]) (rest := []) Z hK hP hS (t_X9_isIn l G hG x2 (2 : Int32) (20 : Int32) σ) (va_cwS 3 hts gX9_chance_X9_isIn rfl rfl rfl (by decide +kernel) ⟨Nat.le_of_ble_eq_true rfl, Nat.le_of_ble_eq_true rfl⟩) rfl hl.1 rfl (Nat.le_of_ble_eq_true rfl) ⟨Nat.zero_le _, Nat.zero_le _⟩ dX9_chance_14 (fun H locs hP hS => ?_)
    refine lv_if_eq (tgt := 40) hx hb dX9_chance_17 (by decide) (fun c2 => ?_) (fun c2 => ?_)
    · have hF := ite_f (b2i_e0 c2) hF
      exact J40  _ _ hP hS ls (lv_sub hl [0, 1, 2, 3, 4] rfl) hF
    · have hF := ite_t (b2i_n0 c2) hF
      refine lv_iload_n hx hb dX9_chance_20 rfl (lv_at hl 3 rfl) ?_
      refine lv_iconst (v := 0) hx hb dX9_chance_21 (by decide) ?_
      refine lv_bipush (v := 8) hx hb dX9_chance_22 (by decide) ?_
      refine k_Sv (As := [.int x3, .int (0 : Int32), .int (8 : Int32)]) (rest := []) Z hK hP hS (t_X9_isIn l G hG x3 (0 : Int32) (8 : Int32) σ) (va_cwS 3 hts gX9_chance_X9_isIn rfl rfl rfl (by decide +kernel) ⟨Nat.le_of_ble_eq_true rfl, Nat.le_of_ble_eq_true rfl⟩) rfl hl.1 rfl (Nat.le_of_ble_eq_true rfl) ⟨Nat.zero_le _, Nat.zero_le _⟩ dX9_chance_24 (fun H locs hP hS => ?_)
      refine lv_if_eq (tgt := 40) hx hb dX9_chance_27 (by decide) (fun c3 => ?_) (fun c3 => ?_)
      · have hF := ite_f (b2i_e0 c3) hF
        exact J40  _ _ hP hS ls (lv_sub hl [0, 1, 2, 3, 4] rfl) hF
      · have hF := ite_t (b2i_n0 c3) hF
        refine lv_iload hx hb dX9_chance_30 (lv_at hl 4 rfl) ?_
        refine lv_iconst (v := 0) hx hb dX9_chance_32 (by decide) ?_
        refine lv_iconst (v := 1) hx hb dX9_chance_33 (by decide) ?_
        refine k_Sv (As := [.int x4, .int (0 : Int32), .int (1 : Int32)]) (rest := []) Z hK hP hS (t_X9_isIn l G hG x4 (0 : Int32) (1 : Int32) σ) (va_cwS 3 hts gX9_chance_X9_isIn rfl rfl rfl (by decide +kernel) ⟨Nat.le_of_ble_eq_true rfl, Nat.le_of_ble_eq_true rfl⟩) rfl hl.1 rfl (Nat.le_of_ble_eq_true rfl) ⟨Nat.zero_le _, Nat.zero_le _⟩ dX9_chance_34 (fun H locs hP hS => ?_)
        refine lv_if_ne (tgt := 44) hx hb dX9_chance_37 (by decide) (fun c4 => ?_) (fun c4 => ?_)
        · have hF := ite_t (b2i_n0 c4) hF
          refine lv_lconst (v := 0) hx hb dX9_chance_44 (by decide) ?_
          refine lv_lstore (lv' := [(5, .long (0 : Int64)), (0, .ref (gA G 61)), (1, .int x1), (2, .int x2), (3, .int x3), (4, .int x4)]) hx hb dX9_chance_45 hl (by decide) rfl (fun ls hl => ?_)
          refine lv_lconst (v := 1) hx hb dX9_chance_47 (by decide) ?_
          refine lv_lstore (lv' := [(7, .long (1 : Int64)), (5, .long (0 : Int64)), (0, .ref (gA G 61)), (1, .int x1), (2, .int x2), (3, .int x3), (4, .int x4)]) hx hb dX9_chance_48 hl (by decide) rfl (fun ls hl => ?_)
          refine lv_iconst (v := 0) hx hb dX9_chance_50 (by decide) ?_
          have J53 : ∀ (fl : Nat) (v5 : Int64) (v7 : Int64) (v9 : Int32) (H : Heap) (locs : List Loc) (hP : Pw G σ H) (hS : va_S (AG G) s.heap H locs) (ls : Array Slot) (hl : lv_has ls 13 [(0, .ref (gA G 61)), (1, .int x1), (2, .int x2), (3, .int x3), (4, .int x4), (5, .long v5), (7, .long v7), (9, .int v9)]) (hF : f_X9_chance_53 x1 x2 x3 x4 σ fl v5 v7 v9 = some o), W p l e (headSpec wsX9_chance ({ frames := 2, cells := 0, slots := 0, locals := 53 })).room s m ([.ref (gA G 61), .int x1, .int x2, .int x3, .int x4] : List Value).toArray below meth c H locs 0 0 (MQ below (qR G (some (.long o)) σ) ([.ref (gA G 61), .int x1, .int x2, .int x3, .int x4] : List Value).toArray s 0 0 (AG G)) (F0 m 53 ls []) := by
            intro fl53
            induction fl53 with
            | zero => intro v5 v7 v9 H locs hP hS ls hl hF; cases hF
            | succ fl53 ih53 =>
              intro v5 v7 v9 H locs hP hS ls hl hF
              rw [f_X9_chance_53_s] at hF
              refine lv_iload hx hb dX9_chance_53 (lv_at hl 7 rfl) ?_
              refine lv_iload_n hx hb dX9_chance_55 rfl (lv_at hl 1 rfl) ?_
              refine lv_icmp_ge (tgt := 72) hx hb dX9_chance_56 (by decide) (fun c5 => ?_) (fun c5 => ?_)
              · have hF := ite_t c5 hF
                refine lv_iconst (v := 0) hx hb dX9_chance_72 (by decide) ?_
                have J75 : ∀ (fl : Nat) (v5 : Int64) (v7 : Int64) (v9 : Int32) (H : Heap) (locs : List Loc) (hP : Pw G σ H) (hS : va_S (AG G) s.heap H locs) (ls : Array Slot) (hl : lv_has ls 13 [(0, .ref (gA G 61)), (1, .int x1), (2, .int x2), (3, .int x3), (4, .int x4), (5, .long v5), (7, .long v7), (9, .int v9)]) (hF : f_X9_chance_75 x1 x2 x3 x4 σ fl v5 v7 v9 = some o), W p l e (headSpec wsX9_chance ({ frames := 2, cells := 0, slots := 0, locals := 53 })).room s m ([.ref (gA G 61), .int x1, .int x2, .int x3, .int x4] : List Value).toArray below meth c H locs 0 0 (MQ below (qR G (some (.long o)) σ) ([.ref (gA G 61), .int x1, .int x2, .int x3, .int x4] : List Value).toArray s 0 0 (AG G)) (F0 m 75 ls []) := by
                  intro fl75
                  induction fl75 with
                  | zero => intro v5 v7 v9 H locs hP hS ls hl hF; cases hF
                  | succ fl75 ih75 =>
                    intro v5 v7 v9 H locs hP hS ls hl hF
                    rw [f_X9_chance_75_s] at hF
                    refine lv_iload hx hb dX9_chance_75 (lv_at hl 7 rfl) ?_
                    refine lv_iconst (v := 1) hx hb dX9_chance_77 (by decide) ?_
                    refine lv_iload_n hx hb dX9_chance_78 rfl (lv_at hl 1 rfl) ?_
                    refine lv_ishl hx hb dX9_chance_79 ?_
                    refine lv_icmp_ge (tgt := 140) hx hb dX9_chance_80 (by decide) (fun c6 => ?_) (fun c6 => ?_)
                    · have hF := ite_t c6 hF
                      refine lv_lload hx hb dX9_chance_140 (lv_at hl 5 rfl) ?_
                      refine lv_lload hx hb dX9_chance_142 (lv_at hl 6 rfl) ?_
                      refine lv_iload hx hb dX9_chance_144 (lv_at hl 4 rfl) ?_
                      obtain ⟨q7, h8, hF⟩ := ob_some hF
                      refine k_Sv (As := [.long v5, .long v7, .int x4]) (rest := []) Z hK hP hS (t_X9_partOf l G hG v5 v7 x4 σ _ h8) (va_cwS 3 hts gX9_chance_X9_partOf rfl rfl rfl (by decide +kernel) ⟨Nat.le_of_ble_eq_true rfl, Nat.le_of_ble_eq_true rfl⟩) rfl hl.1 rfl (Nat.le_of_ble_eq_true rfl) ⟨Nat.zero_le _, Nat.zero_le _⟩ dX9_chance_146 (fun H locs hP hS => ?_)
                      exact e_lP hx hb hr hP hS hlocks dX9_chance_149 hF
                    · have hF := ite_f c6 hF
                      refine lv_lconst (v := 1) hx hb dX9_chance_83 (by decide) ?_
                      refine lv_lstore (lv' := [(10, .long (1 : Int64)), (0, .ref (gA G 61)), (1, .int x1), (2, .int x2), (3, .int x3), (4, .int x4), (5, .long v5), (7, .long v7), (9, .int v9)]) hx hb dX9_chance_84 hl (by decide) rfl (fun ls hl => ?_)
                      refine lv_iload hx hb dX9_chance_86 (lv_at hl 8 rfl) ?_
                      obtain ⟨q9, h10, hF⟩ := ob_some hF
                      refine k_Sv (As := [.int v9]) (rest := []) Z hK hP hS (t_X9_bits l G hG v9 σ _ h10) (va_cwS 1 hts gX9_chance_X9_bits rfl rfl rfl (by decide +kernel) ⟨Nat.le_of_ble_eq_true rfl, Nat.le_of_ble_eq_true rfl⟩) rfl hl.1 rfl (Nat.le_of_ble_eq_true rfl) ⟨Nat.zero_le _, Nat.zero_le _⟩ dX9_chance_88 (fun H locs hP hS => ?_)
                      have J93 : ∀ (fl : Nat) (v5 : Int64) (v7 : Int64) (v9 : Int32) (v10 : Int64) (v12 : Int32) (H : Heap) (locs : List Loc) (hP : Pw G σ H) (hS : va_S (AG G) s.heap H locs) (ls : Array Slot) (hl : lv_has ls 13 [(0, .ref (gA G 61)), (1, .int x1), (2, .int x2), (3, .int x3), (4, .int x4), (5, .long v5), (7, .long v7), (9, .int v9), (10, .long v10), (12, .int v12)]) (hF : f_X9_chance_93 x1 x2 x3 x4 σ (f_X9_chance_75 x1 x2 x3 x4 σ fl75) fl v5 v7 v9 v10 v12 = some o), W p l e (headSpec wsX9_chance ({ frames := 2, cells := 0, slots := 0, locals := 53 })).room s m ([.ref (gA G 61), .int x1, .int x2, .int x3, .int x4] : List Value).toArray below meth c H locs 0 0 (MQ below (qR G (some (.long o)) σ) ([.ref (gA G 61), .int x1, .int x2, .int x3, .int x4] : List Value).toArray s 0 0 (AG G)) (F0 m 93 ls []) := by
                        intro fl93
                        induction fl93 with
                        | zero => intro v5 v7 v9 v10 v12 H locs hP hS ls hl hF; cases hF
                        | succ fl93 ih93 =>
                          intro v5 v7 v9 v10 v12 H locs hP hS ls hl hF
                          rw [f_X9_chance_93_s] at hF
                          refine lv_iload hx hb dX9_chance_93 (lv_at hl 9 rfl) ?_
                          refine lv_iload_n hx hb dX9_chance_95 rfl (lv_at hl 1 rfl) ?_
                          refine lv_icmp_ge (tgt := 114) hx hb dX9_chance_96 (by decide) (fun c11 => ?_) (fun c11 => ?_)
                          · have hF := ite_t c11 hF
                            refine lv_lload hx hb dX9_chance_114 (lv_at hl 5 rfl) ?_
                            refine lv_iload hx hb dX9_chance_116 (lv_at hl 7 rfl) ?_
                            obtain ⟨q12, h13, hF⟩ := ob_some hF
                            refine k_Sv (As := [.int v9]) (rest := [.long v5]) Z hK hP hS (t_X9_bits l G hG v9 σ _ h13) (va_cwS 1 hts gX9_chance_X9_bits rfl rfl rfl (by decide +kernel) ⟨Nat.le_of_ble_eq_true rfl, Nat.le_of_ble_eq_true rfl⟩) rfl hl.1 rfl (Nat.le_of_ble_eq_true rfl) ⟨Nat.zero_le _, Nat.zero_le _⟩ dX9_chance_118 (fun H locs hP hS => ?_)
                            refine lv_iload_n hx hb dX9_chance_121 rfl (lv_at hl 3 rfl) ?_
                            have J131 : ∀ (v7 : Int64) (v9 : Int32) (z0 : Int64) (z1 : Int64) (H : Heap) (locs : List Loc) (hP : Pw G σ H) (hS : va_S (AG G) s.heap H locs) (ls : Array Slot) (hl : lv_has ls 13 [(0, .ref (gA G 61)), (1, .int x1), (2, .int x2), (3, .int x3), (4, .int x4), (7, .long v7), (9, .int v9)]) (hF : f_X9_chance_131 x1 x2 x3 x4 σ (f_X9_chance_75 x1 x2 x3 x4 σ fl75) v7 v9 z0 z1 = some o), W p l e (headSpec wsX9_chance ({ frames := 2, cells := 0, slots := 0, locals := 53 })).room s m ([.ref (gA G 61), .int x1, .int x2, .int x3, .int x4] : List Value).toArray below meth c H locs 0 0 (MQ below (qR G (some (.long o)) σ) ([.ref (gA G 61), .int x1, .int x2, .int x3, .int x4] : List Value).toArray s 0 0 (AG G)) (F0 m 131 ls [.long z1, .long z0]) := by
                              intro v7 v9 z0 z1 H locs hP hS ls hl hF
                              rw [f_X9_chance_131_e] at hF
                              refine lv_ladd hx hb dX9_chance_131 ?_
                              refine lv_lstore (lv' := [(5, .long (z0 + z1)), (0, .ref (gA G 61)), (1, .int x1), (2, .int x2), (3, .int x3), (4, .int x4), (7, .long v7), (9, .int v9)]) hx hb dX9_chance_132 hl (by decide) rfl (fun ls hl => ?_)
                              refine lv_iinc (v := (v9 + (1 : Int32))) (lv' := [(9, .int (v9 + (1 : Int32))), (5, .long (z0 + z1)), (0, .ref (gA G 61)), (1, .int x1), (2, .int x2), (3, .int x3), (4, .int x4), (7, .long v7)]) hx hb dX9_chance_134 hl (k := 7) rfl rfl (by decide) rfl (fun ls hl => ?_)
                              refine lv_goto (tgt := 75) hx hb dX9_chance_137 (by decide) ?_
                              exact ih75 (z0 + z1) v7 (v9 + (1 : Int32)) _ _ hP hS ls (lv_sub hl [2, 3, 4, 5, 6, 1, 7, 0] rfl) hF
                            refine lv_icmp_lt (tgt := 130) hx hb dX9_chance_122 (by decide) (fun c14 => ?_) (fun c14 => ?_)
                            · have hF := ite_t c14 hF
                              refine lv_lconst (v := 0) hx hb dX9_chance_130 (by decide) ?_
                              exact J131 v7 v9 v5 (0 : Int64) _ _ hP hS ls (lv_sub hl [0, 1, 2, 3, 4, 6, 7] rfl) hF
                            · have hF := ite_f c14 hF
                              refine lv_lload hx hb dX9_chance_125 (lv_at hl 8 rfl) ?_
                              refine lv_goto (tgt := 131) hx hb dX9_chance_127 (by decide) ?_
                              exact J131 v7 v9 v5 v10 _ _ hP hS ls (lv_sub hl [0, 1, 2, 3, 4, 6, 7] rfl) hF
                          · have hF := ite_f c11 hF
                            refine lv_lload hx hb dX9_chance_99 (lv_at hl 8 rfl) ?_
                            refine lv_iload_n hx hb dX9_chance_101 rfl (lv_at hl 2 rfl) ?_
                            refine lv_iconst (v := 1) hx hb dX9_chance_102 (by decide) ?_
                            refine lv_isub hx hb dX9_chance_103 ?_
                            refine lv_i2l hx hb dX9_chance_104 rfl ?_
                            refine lv_lmul hx hb dX9_chance_105 ?_
                            refine lv_lstore (lv' := [(10, .long (v10 * ((x2 - (1 : Int32)).toInt64))), (0, .ref (gA G 61)), (1, .int x1), (2, .int x2), (3, .int x3), (4, .int x4), (5, .long v5), (7, .long v7), (9, .int v9), (12, .int v12)]) hx hb dX9_chance_106 hl (by decide) rfl (fun ls hl => ?_)
                            refine lv_iinc (v := (v12 + (1 : Int32))) (lv' := [(12, .int (v12 + (1 : Int32))), (10, .long (v10 * ((x2 - (1 : Int32)).toInt64))), (0, .ref (gA G 61)), (1, .int x1), (2, .int x2), (3, .int x3), (4, .int x4), (5, .long v5), (7, .long v7), (9, .int v9)]) hx hb dX9_chance_108 hl (k := 9) rfl rfl (by decide) rfl (fun ls hl => ?_)
                            refine lv_goto (tgt := 93) hx hb dX9_chance_111 (by decide) ?_
                            exact ih93 v5 v7 v9 (v10 * ((x2 - (1 : Int32)).toInt64)) (v12 + (1 : Int32)) _ _ hP hS ls (lv_sub hl [2, 3, 4, 5, 6, 7, 8, 9, 1, 0] rfl) hF
                      refine lv_istore (lv' := [(12, .int q9), (10, .long (1 : Int64)), (0, .ref (gA G 61)), (1, .int x1), (2, .int x2), (3, .int x3), (4, .int x4), (5, .long v5), (7, .long v7), (9, .int v9)]) hx hb dX9_chance_91 hl (by decide) rfl (fun ls hl => ?_)
                      exact J93 fu v5 v7 v9 (1 : Int64) q9 _ _ hP hS ls (lv_sub hl [2, 3, 4, 5, 6, 7, 8, 9, 1, 0] rfl) hF
                refine lv_istore (lv' := [(9, .int (0 : Int32)), (0, .ref (gA G 61)), (1, .int x1), (2, .int x2), (3, .int x3), (4, .int x4), (5, .long v5), (7, .long v7)]) hx hb dX9_chance_73 hl (by decide) rfl (fun ls hl => ?_)
                exact J75 fu v5 v7 (0 : Int32) _ _ hP hS ls (lv_sub hl [1, 2, 3, 4, 5, 6, 7, 0] rfl) hF
              · have hF := ite_f c5 hF
                refine lv_lload hx hb dX9_chance_59 (lv_at hl 6 rfl) ?_
                refine lv_iload_n hx hb dX9_chance_61 rfl (lv_at hl 2 rfl) ?_
                refine lv_i2l hx hb dX9_chance_62 rfl ?_
                refine lv_lmul hx hb dX9_chance_63 ?_
                refine lv_lstore (lv' := [(7, .long (v7 * x2.toInt64)), (0, .ref (gA G 61)), (1, .int x1), (2, .int x2), (3, .int x3), (4, .int x4), (5, .long v5), (9, .int v9)]) hx hb dX9_chance_64 hl (by decide) rfl (fun ls hl => ?_)
                refine lv_iinc (v := (v9 + (1 : Int32))) (lv' := [(9, .int (v9 + (1 : Int32))), (7, .long (v7 * x2.toInt64)), (0, .ref (gA G 61)), (1, .int x1), (2, .int x2), (3, .int x3), (4, .int x4), (5, .long v5)]) hx hb dX9_chance_66 hl (k := 7) rfl rfl (by decide) rfl (fun ls hl => ?_)
                refine lv_goto (tgt := 53) hx hb dX9_chance_69 (by decide) ?_
                exact ih53 v5 (v7 * x2.toInt64) (v9 + (1 : Int32)) _ _ hP hS ls (lv_sub hl [2, 3, 4, 5, 6, 7, 1, 0] rfl) hF
          refine lv_istore (lv' := [(9, .int (0 : Int32)), (7, .long (1 : Int64)), (5, .long (0 : Int64)), (0, .ref (gA G 61)), (1, .int x1), (2, .int x2), (3, .int x3), (4, .int x4)]) hx hb dX9_chance_51 hl (by decide) rfl (fun ls hl => ?_)
          exact J53 fu (0 : Int64) (1 : Int64) (0 : Int32) _ _ hP hS ls (lv_sub hl [3, 4, 5, 6, 7, 2, 1, 0] rfl) hF
        · have hF := ite_f (b2i_e0 c4) hF
          exact J40  _ _ hP hS ls (lv_sub hl [0, 1, 2, 3, 4] rfl) hF
def f_X9_manyTold_31 (σ : St) (rec4 : Int32 → Int32 → Option Int32) (v2 : Int32) (z0 : Int32) (z1 : Int32) : Option Int32 := (rec4 (z0 + z1) (v2 + (1 : Int32)))
theorem f_X9_manyTold_31_e {σ : St} {rec4 : Int32 → Int32 → Option Int32} {v2 : Int32} {z0 : Int32} {z1 : Int32} : f_X9_manyTold_31 σ rec4 v2 z0 z1 = (rec4 (z0 + z1) (v2 + (1 : Int32))) := rfl
def f_X9_manyTold_4 (σ : St) : Nat → (Int32 → Int32 → Option Int32)
  | 0 => fun _ _ => none
  | fl + 1 => fun v1 v2 => (if (σ 62 0) ≤ v2 then (some v1) else (ob (f_X9_isTold 62 v2 σ) (fun q2 => if q2 = true then (f_X9_manyTold_31 σ (f_X9_manyTold_4 σ fl) v2 v1 (1 : Int32)) else (f_X9_manyTold_31 σ (f_X9_manyTold_4 σ fl) v2 v1 (0 : Int32)))))
theorem f_X9_manyTold_4_s {σ : St} (fl : Nat) {v1 : Int32} {v2 : Int32} : f_X9_manyTold_4 σ (fl + 1) v1 v2 = (if (σ 62 0) ≤ v2 then (some v1) else (ob (f_X9_isTold 62 v2 σ) (fun q2 => if q2 = true then (f_X9_manyTold_31 σ (f_X9_manyTold_4 σ fl) v2 v1 (1 : Int32)) else (f_X9_manyTold_31 σ (f_X9_manyTold_4 σ fl) v2 v1 (0 : Int32))))) := rfl
def f_X9_manyTold (σ : St) : Option Int32 := (f_X9_manyTold_4 σ fu (0 : Int32) (0 : Int32))
set_option maxRecDepth 100000 in
set_option maxHeartbeats 4000000 in
theorem t_X9_manyTold (l : Launch) (G : GT) (hG : Dw G) (σ : St) (o : Int32) (hF : f_X9_manyTold σ = some o) : Ct l G yX9_manyTold wsX9_manyTold 2 42 [.ref (gA G 61)] σ (some (.int o)) σ := by
  refine Met.ofW (cc := cX9_manyTold) (maxL := 3) (ret := (some .int)) (by decide) rfl ?_
  intro p e s m args below meth c s₁ B hml hv
  obtain ⟨rfl, hP, hK⟩ := hv
  have hx := B.exec
  have hb := B.bytes
  have hr := B.returns
  have hts := atoms_spec (ws := wsX9_manyTold) B.pre
  have hown : s.vm.findClass RX9 = some m.cls := findClass_of_methodNamed B.named
  have hlocks := B.notSynchronized
  have Z : CallFix p m c cX9_manyTold 3 s _ wsX9_manyTold RX9 := ⟨hx, hb, hml, hown, hts⟩
  have hS : va_S (AG G) s.heap s.heap [] := va_S.rf
  have inX9 : ∀ w ∈ u_ws RX9 TX9 21, w ∈ wsX9_manyTold := by decide +kernel
  have w1 := hts (.fieldLink RX9 9 "AlmanacOfTheYearGoneModel" "s" "[I") (by decide +kernel)
  have hl := lv_entry ([.ref (gA G 61)]) (n := 3) (Nat.le_of_ble_eq_true rfl)
  rw [lg_entry_eq]
  generalize (lg_sl ([.ref (gA G 61)]) ++ List.replicate (3 - (lg_sl ([.ref (gA G 61)])).length) Slot.unset).toArray = ls at hl ⊢
  have hl : lv_has ls 3 [(0, .ref (gA G 61))] := hl
  unfold f_X9_manyTold at hF
  refine lv_iconst (v := 0) hx hb dX9_manyTold_0 (by decide) ?_
  refine lv_istore_n (lv' := [(1, .int (0 : Int32)), (0, .ref (gA G 61))]) hx hb dX9_manyTold_1 rfl hl (by decide) rfl (fun ls hl => ?_)
  refine lv_iconst (v := 0) hx hb dX9_manyTold_2 (by decide) ?_
  have J4 : ∀ (fl : Nat) (v1 : Int32) (v2 : Int32) (H : Heap) (locs : List Loc) (hP : Pw G σ H) (hS : va_S (AG G) s.heap H locs) (ls : Array Slot) (hl : lv_has ls 3 [(0, .ref (gA G 61)), (1, .int v1), (2, .int v2)]) (hF : f_X9_manyTold_4 σ fl v1 v2 = some o), W p l e (headSpec wsX9_manyTold ({ frames := 2, cells := 0, slots := 0, locals := 42 })).room s m ([.ref (gA G 61)] : List Value).toArray below meth c H locs 0 0 (MQ below (qR G (some (.int o)) σ) ([.ref (gA G 61)] : List Value).toArray s 0 0 (AG G)) (F0 m 4 ls []) := by
    intro fl4
    induction fl4 with
    | zero => intro v1 v2 H locs hP hS ls hl hF; cases hF
    | succ fl4 ih4 =>
      intro v1 v2 H locs hP hS ls hl hF
      rw [f_X9_manyTold_4_s] at hF
      refine lv_iload_n hx hb dX9_manyTold_4 rfl (lv_at hl 2 rfl) ?_
      refine lv_aload_n hx hb dX9_manyTold_5 rfl (lv_at hl 0 rfl) ?_
      refine va_get (ci := 5) (C := RX9) (T := TX9) (N := 21) (v := .ref (gA G 62)) hx hb hts inX9 hown hK.1 hP 61 (at_5 rfl) rfl 0 (by decide) w1 (fun _ h9 => h9) rfl dX9_manyTold_6 ?_
      refine lv_iconst (v := 0) hx hb dX9_manyTold_9 (by decide) ?_
      refine va_iald hx hb hK.1 hP 62 0 (at_6 (rfl : kd 62 = 6) (rfl : ln 62 = 52)) rfl (inb_in (by decide)) dX9_manyTold_10 ?_
      refine W.eq (g2 := F0 m 11 ls ([.int (σ 62 0), .int v2])) rfl ?_
      refine lv_icmp_ge (tgt := 39) hx hb dX9_manyTold_11 (by decide) (fun c1 => ?_) (fun c1 => ?_)
      · have hF := ite_t c1 hF
        refine lv_iload_n hx hb dX9_manyTold_39 rfl (lv_at hl 1 rfl) ?_
        exact e_iP hx hb hr hP hS hlocks dX9_manyTold_40 hF
      · have hF := ite_f c1 hF
        refine lv_iload_n hx hb dX9_manyTold_14 rfl (lv_at hl 1 rfl) ?_
        refine lv_aload_n hx hb dX9_manyTold_15 rfl (lv_at hl 0 rfl) ?_
        refine va_get (ci := 5) (C := RX9) (T := TX9) (N := 21) (v := .ref (gA G 62)) hx hb hts inX9 hown hK.1 hP 61 (at_5 rfl) rfl 0 (by decide) w1 (fun _ h9 => h9) rfl dX9_manyTold_16 ?_
        refine lv_iload_n hx hb dX9_manyTold_19 rfl (lv_at hl 2 rfl) ?_
        obtain ⟨q2, h3, hF⟩ := ob_some hF
        refine k_Sv (As := [.ref (gA G 62), .int v2]) (rest := [.int v1]) Z hK hP hS (t_X9_isTold l G hG 62 v2 ⟨(rfl : kd 62 = 6), (rfl : ln 62 = 52)⟩ σ _ h3) (va_cwS 2 hts gX9_manyTold_X9_isTold rfl rfl rfl (by decide +kernel) ⟨Nat.le_of_ble_eq_true rfl, Nat.le_of_ble_eq_true rfl⟩) rfl hl.1 rfl (Nat.le_of_ble_eq_true rfl) ⟨Nat.zero_le _, Nat.zero_le _⟩ dX9_manyTold_20 (fun H locs hP hS => ?_)
        have J31 : ∀ (v2 : Int32) (z0 : Int32) (z1 : Int32) (H : Heap) (locs : List Loc) (hP : Pw G σ H) (hS : va_S (AG G) s.heap H locs) (ls : Array Slot) (hl : lv_has ls 3 [(0, .ref (gA G 61)), (2, .int v2)]) (hF : f_X9_manyTold_31 σ (f_X9_manyTold_4 σ fl4) v2 z0 z1 = some o), W p l e (headSpec wsX9_manyTold ({ frames := 2, cells := 0, slots := 0, locals := 42 })).room s m ([.ref (gA G 61)] : List Value).toArray below meth c H locs 0 0 (MQ below (qR G (some (.int o)) σ) ([.ref (gA G 61)] : List Value).toArray s 0 0 (AG G)) (F0 m 31 ls [.int z1, .int z0]) := by
          intro v2 z0 z1 H locs hP hS ls hl hF
          rw [f_X9_manyTold_31_e] at hF
          refine lv_iadd hx hb dX9_manyTold_31 ?_
          refine lv_istore_n (lv' := [(1, .int (z0 + z1)), (0, .ref (gA G 61)), (2, .int v2)]) hx hb dX9_manyTold_32 rfl hl (by decide) rfl (fun ls hl => ?_)
          refine lv_iinc (v := (v2 + (1 : Int32))) (lv' := [(2, .int (v2 + (1 : Int32))), (1, .int (z0 + z1)), (0, .ref (gA G 61))]) hx hb dX9_manyTold_33 hl (k := 2) rfl rfl (by decide) rfl (fun ls hl => ?_)
          refine lv_goto (tgt := 4) hx hb dX9_manyTold_36 (by decide) ?_
          exact ih4 (z0 + z1) (v2 + (1 : Int32)) _ _ hP hS ls (lv_sub hl [2, 1, 0] rfl) hF
        refine lv_if_eq (tgt := 30) hx hb dX9_manyTold_23 (by decide) (fun c4 => ?_) (fun c4 => ?_)
        · have hF := ite_f (b2i_e0 c4) hF
          refine lv_iconst (v := 0) hx hb dX9_manyTold_30 (by decide) ?_
          exact J31 v2 v1 (0 : Int32) _ _ hP hS ls (lv_sub hl [0, 2] rfl) hF
        · have hF := ite_t (b2i_n0 c4) hF
          refine lv_iconst (v := 1) hx hb dX9_manyTold_26 (by decide) ?_
          refine lv_goto (tgt := 31) hx hb dX9_manyTold_27 (by decide) ?_
          exact J31 v2 v1 (1 : Int32) _ _ hP hS ls (lv_sub hl [0, 2] rfl) hF
  refine lv_istore_n (lv' := [(2, .int (0 : Int32)), (1, .int (0 : Int32)), (0, .ref (gA G 61))]) hx hb dX9_manyTold_3 rfl hl (by decide) rfl (fun ls hl => ?_)
  exact J4 fu (0 : Int32) (0 : Int32) _ _ hP hS ls (lv_sub hl [2, 1, 0] rfl) hF
def f_X9_mean (x1 : Int32) (σ : St) : Option Int64 := (if (f_X9_isIn x1 (0 : Int32) (1 : Int32)) = true then (ob (f_X9_toldWithout (0 : Int32) σ) (fun q2 => ob (f_X9_manyTold σ) (fun q4 => ob (f_X9_partOf q2.toInt64 q4.toInt64 x1 σ) (fun q6 => some q6)))) else (some (1000000001 : Int64)))
set_option maxRecDepth 100000 in
set_option maxHeartbeats 4000000 in
theorem t_X9_mean (l : Launch) (G : GT) (hG : Dw G) (x1 : Int32) (σ : St) (o : Int64) (hF : f_X9_mean x1 σ = some o) : Ct l G yX9_mean wsX9_mean 3 65 [.ref (gA G 61), .int x1] σ (some (.long o)) σ := by
  refine Met.ofW (cc := cX9_mean) (maxL := 2) (ret := (some .long)) (by decide) rfl ?_
  intro p e s m args below meth c s₁ B hml hv
  obtain ⟨rfl, hP, hK⟩ := hv
  have hx := B.exec
  have hb := B.bytes
  have hr := B.returns
  have hts := atoms_spec (ws := wsX9_mean) B.pre
  have hown : s.vm.findClass RX9 = some m.cls := findClass_of_methodNamed B.named
  have hlocks := B.notSynchronized
  have Z : CallFix p m c cX9_mean 2 s _ wsX9_mean RX9 := ⟨hx, hb, hml, hown, hts⟩
  have hS : va_S (AG G) s.heap s.heap [] := va_S.rf
  have w1 := hts (.constantLong RX9 198 (1000000001)) (by decide +kernel)
  have hl := lv_entry ([.ref (gA G 61), .int x1]) (n := 2) (Nat.le_of_ble_eq_true rfl)
  rw [lg_entry_eq]
  generalize (lg_sl ([.ref (gA G 61), .int x1]) ++ List.replicate (2 - (lg_sl ([.ref (gA G 61), .int x1])).length) Slot.unset).toArray = ls at hl ⊢
  have hl : lv_has ls 2 [(0, .ref (gA G 61)), (1, .int x1)] := hl
  unfold f_X9_mean at hF
  refine lv_iload_n hx hb dX9_mean_0 rfl (lv_at hl 1 rfl) ?_
  refine lv_iconst (v := 0) hx hb dX9_mean_1 (by decide) ?_
  refine lv_iconst (v := 1) hx hb dX9_mean_2 (by decide) ?_
  refine k_Sv (As := [.int x1, .int (0 : Int32), .int (1 : Int32)]) (rest := []) Z hK hP hS (t_X9_isIn l G hG x1 (0 : Int32) (1 : Int32) σ) (va_cwS 3 hts gX9_mean_X9_isIn rfl rfl rfl (by decide +kernel) ⟨Nat.le_of_ble_eq_true rfl, Nat.le_of_ble_eq_true rfl⟩) rfl hl.1 rfl (Nat.le_of_ble_eq_true rfl) ⟨Nat.zero_le _, Nat.zero_le _⟩ dX9_mean_3 (fun H locs hP hS => ?_)
  refine lv_if_eq (tgt := 27) hx hb dX9_mean_6 (by decide) (fun c1 => ?_) (fun c1 => ?_)
  · have hF := ite_f (b2i_e0 c1) hF
    refine lv_ldc2 hx hb hown w1 dX9_mean_27 ?_
    exact e_lP hx hb hr hP hS hlocks dX9_mean_30 hF
  · have hF := ite_t (b2i_n0 c1) hF
    refine lv_aload_n hx hb dX9_mean_9 rfl (lv_at hl 0 rfl) ?_
    refine lv_iconst (v := 0) hx hb dX9_mean_10 (by decide) ?_
    obtain ⟨q2, h3, hF⟩ := ob_some hF
    refine k_Vv (As := [.int (0 : Int32)]) (rest := []) Z hK hP hS (t_X9_toldWithout l G hG (0 : Int32) σ _ h3) (cwV 1 hts gX9_mean_X9_toldWithout rfl rfl rfl (by decide +kernel) ⟨Nat.le_of_ble_eq_true rfl, Nat.le_of_ble_eq_true rfl⟩) (at_5 rfl) rfl rfl hl.1 rfl (Nat.le_of_ble_eq_true rfl) ⟨Nat.zero_le _, Nat.zero_le _⟩ dX9_mean_11 (fun H locs hP hS => ?_)
    refine lv_i2l hx hb dX9_mean_14 rfl ?_
    refine lv_aload_n hx hb dX9_mean_15 rfl (lv_at hl 0 rfl) ?_
    obtain ⟨q4, h5, hF⟩ := ob_some hF
    refine k_Vv (As := []) (rest := [.long q2.toInt64]) Z hK hP hS (t_X9_manyTold l G hG σ _ h5) (cwV 0 hts gX9_mean_X9_manyTold rfl rfl rfl (by decide +kernel) ⟨Nat.le_of_ble_eq_true rfl, Nat.le_of_ble_eq_true rfl⟩) (at_5 rfl) rfl rfl hl.1 rfl (Nat.le_of_ble_eq_true rfl) ⟨Nat.zero_le _, Nat.zero_le _⟩ dX9_mean_16 (fun H locs hP hS => ?_)
    refine lv_i2l hx hb dX9_mean_19 rfl ?_
    refine lv_iload_n hx hb dX9_mean_20 rfl (lv_at hl 1 rfl) ?_
    obtain ⟨q6, h7, hF⟩ := ob_some hF
    refine k_Sv (As := [.long q2.toInt64, .long q4.toInt64, .int x1]) (rest := []) Z hK hP hS (t_X9_partOf l G hG q2.toInt64 q4.toInt64 x1 σ _ h7) (va_cwS 3 hts gX9_mean_X9_partOf rfl rfl rfl (by decide +kernel) ⟨Nat.le_of_ble_eq_true rfl, Nat.le_of_ble_eq_true rfl⟩) rfl hl.1 rfl (Nat.le_of_ble_eq_true rfl) ⟨Nat.zero_le _, Nat.zero_le _⟩ dX9_mean_21 (fun H locs hP hS => ?_)
    refine lv_goto (tgt := 30) hx hb dX9_mean_24 (by decide) ?_
    exact e_lP hx hb hr hP hS hlocks dX9_mean_30 hF
def f_X9_gap_123 (x1 : Int32) (σ : St) (rec22 : Int32 → Int32 → Int32 → Int32 → Option Int32) (v2 : Int32) (v3 : Int32) (v4 : Int32) (v5 : Int32) : Option Int32 := (rec22 v2 v3 v4 (v5 + (1 : Int32)))
theorem f_X9_gap_123_e {x1 : Int32} {σ : St} {rec22 : Int32 → Int32 → Int32 → Int32 → Option Int32} {v2 : Int32} {v3 : Int32} {v4 : Int32} {v5 : Int32} : f_X9_gap_123 x1 σ rec22 v2 v3 v4 v5 = (rec22 v2 v3 v4 (v5 + (1 : Int32))) := rfl
def f_X9_gap_101 (x1 : Int32) (σ : St) (rec22 : Int32 → Int32 → Int32 → Int32 → Option Int32) (v2 : Int32) (v3 : Int32) (v5 : Int32) (z0 : Int32) : Option Int32 := (if v2 < z0 then (f_X9_gap_123 x1 σ rec22 z0 ((v5 - z0) + (1 : Int32)) z0 v5) else (f_X9_gap_123 x1 σ rec22 v2 v3 z0 v5))
theorem f_X9_gap_101_e {x1 : Int32} {σ : St} {rec22 : Int32 → Int32 → Int32 → Int32 → Option Int32} {v2 : Int32} {v3 : Int32} {v5 : Int32} {z0 : Int32} : f_X9_gap_101 x1 σ rec22 v2 v3 v5 z0 = (if v2 < z0 then (f_X9_gap_123 x1 σ rec22 z0 ((v5 - z0) + (1 : Int32)) z0 v5) else (f_X9_gap_123 x1 σ rec22 v2 v3 z0 v5)) := rfl
def f_X9_gap_79 (x1 : Int32) (σ : St) (rec22 : Int32 → Int32 → Int32 → Int32 → Option Int32) (rec45 : Int32 → Int32 → Int32 → Int32 → Int32 → Int32 → Option Int32) (v2 : Int32) (v3 : Int32) (v4 : Int32) (v5 : Int32) (v7 : Int32) (z0 : Int32) (z1 : Int32) : Option Int32 := (rec45 v2 v3 v4 v5 (z0 &&& z1) (v7 + (1 : Int32)))
theorem f_X9_gap_79_e {x1 : Int32} {σ : St} {rec22 : Int32 → Int32 → Int32 → Int32 → Option Int32} {rec45 : Int32 → Int32 → Int32 → Int32 → Int32 → Int32 → Option Int32} {v2 : Int32} {v3 : Int32} {v4 : Int32} {v5 : Int32} {v7 : Int32} {z0 : Int32} {z1 : Int32} : f_X9_gap_79 x1 σ rec22 rec45 v2 v3 v4 v5 v7 z0 z1 = (rec45 v2 v3 v4 v5 (z0 &&& z1) (v7 + (1 : Int32))) := rfl
def f_X9_gap_45 (x1 : Int32) (σ : St) (rec22 : Int32 → Int32 → Int32 → Int32 → Option Int32) : Nat → (Int32 → Int32 → Int32 → Int32 → Int32 → Int32 → Option Int32)
  | 0 => fun _ _ _ _ _ _ => none
  | fl + 1 => fun v2 v3 v4 v5 v6 v7 => (if (σ 62 0) ≤ v7 then (if v6 = 0 then (f_X9_gap_101 x1 σ rec22 v2 v3 v5 (0 : Int32)) else (f_X9_gap_101 x1 σ rec22 v2 v3 v5 (v4 + (1 : Int32)))) else (if inb (f_X9_of v7 (2 : Int32)) 52 then if (σ 62 (f_X9_of v7 (2 : Int32)).toNatClampNeg) = v5 then (f_X9_gap_79 x1 σ rec22 (f_X9_gap_45 x1 σ rec22 fl) v2 v3 v4 v5 v7 v6 (0 : Int32)) else (f_X9_gap_79 x1 σ rec22 (f_X9_gap_45 x1 σ rec22 fl) v2 v3 v4 v5 v7 v6 (1 : Int32)) else none))
theorem f_X9_gap_45_s {x1 : Int32} {σ : St} {rec22 : Int32 → Int32 → Int32 → Int32 → Option Int32} (fl : Nat) {v2 : Int32} {v3 : Int32} {v4 : Int32} {v5 : Int32} {v6 : Int32} {v7 : Int32} : f_X9_gap_45 x1 σ rec22 (fl + 1) v2 v3 v4 v5 v6 v7 = (if (σ 62 0) ≤ v7 then (if v6 = 0 then (f_X9_gap_101 x1 σ rec22 v2 v3 v5 (0 : Int32)) else (f_X9_gap_101 x1 σ rec22 v2 v3 v5 (v4 + (1 : Int32)))) else (if inb (f_X9_of v7 (2 : Int32)) 52 then if (σ 62 (f_X9_of v7 (2 : Int32)).toNatClampNeg) = v5 then (f_X9_gap_79 x1 σ rec22 (f_X9_gap_45 x1 σ rec22 fl) v2 v3 v4 v5 v7 v6 (0 : Int32)) else (f_X9_gap_79 x1 σ rec22 (f_X9_gap_45 x1 σ rec22 fl) v2 v3 v4 v5 v7 v6 (1 : Int32)) else none)) := rfl
def f_X9_gap_22 (x1 : Int32) (σ : St) : Nat → (Int32 → Int32 → Int32 → Int32 → Option Int32)
  | 0 => fun _ _ _ _ => none
  | fl + 1 => fun v2 v3 v4 v5 => (if (f_X9_least (σ 62 1) (364 : Int32)) < v5 then (if x1 = 0 then (some v2) else (some v3)) else (f_X9_gap_45 x1 σ (f_X9_gap_22 x1 σ fl) fu v2 v3 v4 v5 (1 : Int32) (0 : Int32)))
theorem f_X9_gap_22_s {x1 : Int32} {σ : St} (fl : Nat) {v2 : Int32} {v3 : Int32} {v4 : Int32} {v5 : Int32} : f_X9_gap_22 x1 σ (fl + 1) v2 v3 v4 v5 = (if (f_X9_least (σ 62 1) (364 : Int32)) < v5 then (if x1 = 0 then (some v2) else (some v3)) else (f_X9_gap_45 x1 σ (f_X9_gap_22 x1 σ fl) fu v2 v3 v4 v5 (1 : Int32) (0 : Int32))) := rfl
def f_X9_gap (x1 : Int32) (σ : St) : Option Int32 := (if (f_X9_isIn x1 (0 : Int32) (1 : Int32)) = true then (f_X9_gap_22 x1 σ fu (0 : Int32) (-4 : Int32) (0 : Int32) (0 : Int32)) else (some (-1 : Int32)))
set_option maxRecDepth 100000 in
set_option maxHeartbeats 4000000 in
theorem t_X9_gap (l : Launch) (G : GT) (hG : Dw G) (x1 : Int32) (σ : St) (o : Int32) (hF : f_X9_gap x1 σ = some o) : Ct l G yX9_gap wsX9_gap 1 22 [.ref (gA G 61), .int x1] σ (some (.int o)) σ := by
  refine Met.ofW (cc := cX9_gap) (maxL := 8) (ret := (some .int)) (by decide) rfl ?_
  intro p e s m args below meth c s₁ B hml hv
  obtain ⟨rfl, hP, hK⟩ := hv
  have hx := B.exec
  have hb := B.bytes
  have hr := B.returns
  have hts := atoms_spec (ws := wsX9_gap) B.pre
  have hown : s.vm.findClass RX9 = some m.cls := findClass_of_methodNamed B.named
  have hlocks := B.notSynchronized
  have Z : CallFix p m c cX9_gap 8 s _ wsX9_gap RX9 := ⟨hx, hb, hml, hown, hts⟩
  have hS : va_S (AG G) s.heap s.heap [] := va_S.rf
  have inX9 : ∀ w ∈ u_ws RX9 TX9 21, w ∈ wsX9_gap := by decide +kernel
  have w1 := hts (.fieldLink RX9 9 "AlmanacOfTheYearGoneModel" "s" "[I") (by decide +kernel)
  have hl := lv_entry ([.ref (gA G 61), .int x1]) (n := 8) (Nat.le_of_ble_eq_true rfl)
  rw [lg_entry_eq]
  generalize (lg_sl ([.ref (gA G 61), .int x1]) ++ List.replicate (8 - (lg_sl ([.ref (gA G 61), .int x1])).length) Slot.unset).toArray = ls at hl ⊢
  have hl : lv_has ls 8 [(0, .ref (gA G 61)), (1, .int x1)] := hl
  unfold f_X9_gap at hF
  refine lv_iload_n hx hb dX9_gap_0 rfl (lv_at hl 1 rfl) ?_
  refine lv_iconst (v := 0) hx hb dX9_gap_1 (by decide) ?_
  refine lv_iconst (v := 1) hx hb dX9_gap_2 (by decide) ?_
  refine k_Sv (As := [.int x1, .int (0 : Int32), .int (1 : Int32)]) (rest := []) Z hK hP hS (t_X9_isIn l G hG x1 (0 : Int32) (1 : Int32) σ) (va_cwS 3 hts gX9_gap_X9_isIn rfl rfl rfl (by decide +kernel) ⟨Nat.le_of_ble_eq_true rfl, Nat.le_of_ble_eq_true rfl⟩) rfl hl.1 rfl (Nat.le_of_ble_eq_true rfl) ⟨Nat.zero_le _, Nat.zero_le _⟩ dX9_gap_3 (fun H locs hP hS => ?_)
  refine lv_if_ne (tgt := 11) hx hb dX9_gap_6 (by decide) (fun c1 => ?_) (fun c1 => ?_)
  · have hF := ite_t (b2i_n0 c1) hF
    refine lv_iconst (v := 0) hx hb dX9_gap_11 (by decide) ?_
    refine lv_istore_n (lv' := [(2, .int (0 : Int32)), (0, .ref (gA G 61)), (1, .int x1)]) hx hb dX9_gap_12 rfl hl (by decide) rfl (fun ls hl => ?_)
    refine lv_bipush (v := -4) hx hb dX9_gap_13 (by decide) ?_
    refine lv_istore_n (lv' := [(3, .int (-4 : Int32)), (2, .int (0 : Int32)), (0, .ref (gA G 61)), (1, .int x1)]) hx hb dX9_gap_15 rfl hl (by decide) rfl (fun ls hl => ?_)
    refine lv_iconst (v := 0) hx hb dX9_gap_16 (by decide) ?_
    refine lv_istore (lv' := [(4, .int (0 : Int32)), (3, .int (-4 : Int32)), (2, .int (0 : Int32)), (0, .ref (gA G 61)), (1, .int x1)]) hx hb dX9_gap_17 hl (by decide) rfl (fun ls hl => ?_)
    refine lv_iconst (v := 0) hx hb dX9_gap_19 (by decide) ?_
    have J22 : ∀ (fl : Nat) (v2 : Int32) (v3 : Int32) (v4 : Int32) (v5 : Int32) (H : Heap) (locs : List Loc) (hP : Pw G σ H) (hS : va_S (AG G) s.heap H locs) (ls : Array Slot) (hl : lv_has ls 8 [(0, .ref (gA G 61)), (1, .int x1), (2, .int v2), (3, .int v3), (4, .int v4), (5, .int v5)]) (hF : f_X9_gap_22 x1 σ fl v2 v3 v4 v5 = some o), W p l e (headSpec wsX9_gap ({ frames := 1, cells := 0, slots := 0, locals := 22 })).room s m ([.ref (gA G 61), .int x1] : List Value).toArray below meth c H locs 0 0 (MQ below (qR G (some (.int o)) σ) ([.ref (gA G 61), .int x1] : List Value).toArray s 0 0 (AG G)) (F0 m 22 ls []) := by
      intro fl22
      induction fl22 with
      | zero => intro v2 v3 v4 v5 H locs hP hS ls hl hF; cases hF
      | succ fl22 ih22 =>
        intro v2 v3 v4 v5 H locs hP hS ls hl hF
        rw [f_X9_gap_22_s] at hF
        refine lv_iload hx hb dX9_gap_22 (lv_at hl 5 rfl) ?_
        refine lv_aload_n hx hb dX9_gap_24 rfl (lv_at hl 0 rfl) ?_
        refine va_get (ci := 5) (C := RX9) (T := TX9) (N := 21) (v := .ref (gA G 62)) hx hb hts inX9 hown hK.1 hP 61 (at_5 rfl) rfl 0 (by decide) w1 (fun _ h9 => h9) rfl dX9_gap_25 ?_
        refine lv_iconst (v := 1) hx hb dX9_gap_28 (by decide) ?_
        refine va_iald hx hb hK.1 hP 62 0 (at_6 (rfl : kd 62 = 6) (rfl : ln 62 = 52)) rfl (inb_in (by decide)) dX9_gap_29 ?_
        refine W.eq (g2 := F0 m 30 ls ([.int (σ 62 1), .int v5])) rfl ?_
        refine lv_sipush (v := 364) hx hb dX9_gap_30 (by decide) ?_
        refine k_Sv (As := [.int (σ 62 1), .int (364 : Int32)]) (rest := [.int v5]) Z hK hP hS (t_X9_least l G hG (σ 62 1) (364 : Int32) σ) (va_cwS 2 hts gX9_gap_X9_least rfl rfl rfl (by decide +kernel) ⟨Nat.le_of_ble_eq_true rfl, Nat.le_of_ble_eq_true rfl⟩) rfl hl.1 rfl (Nat.le_of_ble_eq_true rfl) ⟨Nat.zero_le _, Nat.zero_le _⟩ dX9_gap_33 (fun H locs hP hS => ?_)
        refine lv_icmp_gt (tgt := 129) hx hb dX9_gap_36 (by decide) (fun c2 => ?_) (fun c2 => ?_)
        · have hF := ite_t c2 hF
          refine lv_iload_n hx hb dX9_gap_129 rfl (lv_at hl 1 rfl) ?_
          refine lv_if_ne (tgt := 137) hx hb dX9_gap_130 (by decide) (fun c3 => ?_) (fun c3 => ?_)
          · have hF := ite_f c3 hF
            refine lv_iload_n hx hb dX9_gap_137 rfl (lv_at hl 3 rfl) ?_
            exact e_iP hx hb hr hP hS hlocks dX9_gap_138 hF
          · have hF := ite_t c3 hF
            refine lv_iload_n hx hb dX9_gap_133 rfl (lv_at hl 2 rfl) ?_
            refine lv_goto (tgt := 138) hx hb dX9_gap_134 (by decide) ?_
            exact e_iP hx hb hr hP hS hlocks dX9_gap_138 hF
        · have hF := ite_f c2 hF
          refine lv_iconst (v := 1) hx hb dX9_gap_39 (by decide) ?_
          refine lv_istore (lv' := [(6, .int (1 : Int32)), (0, .ref (gA G 61)), (1, .int x1), (2, .int v2), (3, .int v3), (4, .int v4), (5, .int v5)]) hx hb dX9_gap_40 hl (by decide) rfl (fun ls hl => ?_)
          refine lv_iconst (v := 0) hx hb dX9_gap_42 (by decide) ?_
          have J45 : ∀ (fl : Nat) (v2 : Int32) (v3 : Int32) (v4 : Int32) (v5 : Int32) (v6 : Int32) (v7 : Int32) (H : Heap) (locs : List Loc) (hP : Pw G σ H) (hS : va_S (AG G) s.heap H locs) (ls : Array Slot) (hl : lv_has ls 8 [(0, .ref (gA G 61)), (1, .int x1), (2, .int v2), (3, .int v3), (4, .int v4), (5, .int v5), (6, .int v6), (7, .int v7)]) (hF : f_X9_gap_45 x1 σ (f_X9_gap_22 x1 σ fl22) fl v2 v3 v4 v5 v6 v7 = some o), W p l e (headSpec wsX9_gap ({ frames := 1, cells := 0, slots := 0, locals := 22 })).room s m ([.ref (gA G 61), .int x1] : List Value).toArray below meth c H locs 0 0 (MQ below (qR G (some (.int o)) σ) ([.ref (gA G 61), .int x1] : List Value).toArray s 0 0 (AG G)) (F0 m 45 ls []) := by
            intro fl45
            induction fl45 with
            | zero => intro v2 v3 v4 v5 v6 v7 H locs hP hS ls hl hF; cases hF
            | succ fl45 ih45 =>
              intro v2 v3 v4 v5 v6 v7 H locs hP hS ls hl hF
              rw [f_X9_gap_45_s] at hF
              refine lv_iload hx hb dX9_gap_45 (lv_at hl 7 rfl) ?_
              refine lv_aload_n hx hb dX9_gap_47 rfl (lv_at hl 0 rfl) ?_
              refine va_get (ci := 5) (C := RX9) (T := TX9) (N := 21) (v := .ref (gA G 62)) hx hb hts inX9 hown hK.1 hP 61 (at_5 rfl) rfl 0 (by decide) w1 (fun _ h9 => h9) rfl dX9_gap_48 ?_
              refine lv_iconst (v := 0) hx hb dX9_gap_51 (by decide) ?_
              refine va_iald hx hb hK.1 hP 62 0 (at_6 (rfl : kd 62 = 6) (rfl : ln 62 = 52)) rfl (inb_in (by decide)) dX9_gap_52 ?_
              refine W.eq (g2 := F0 m 53 ls ([.int (σ 62 0), .int v7])) rfl ?_
              refine lv_icmp_ge (tgt := 88) hx hb dX9_gap_53 (by decide) (fun c4 => ?_) (fun c4 => ?_)
              · have hF := ite_t c4 hF
                refine lv_iload hx hb dX9_gap_88 (lv_at hl 6 rfl) ?_
                have J101 : ∀ (v2 : Int32) (v3 : Int32) (v5 : Int32) (z0 : Int32) (H : Heap) (locs : List Loc) (hP : Pw G σ H) (hS : va_S (AG G) s.heap H locs) (ls : Array Slot) (hl : lv_has ls 8 [(0, .ref (gA G 61)), (1, .int x1), (2, .int v2), (3, .int v3), (5, .int v5)]) (hF : f_X9_gap_101 x1 σ (f_X9_gap_22 x1 σ fl22) v2 v3 v5 z0 = some o), W p l e (headSpec wsX9_gap ({ frames := 1, cells := 0, slots := 0, locals := 22 })).room s m ([.ref (gA G 61), .int x1] : List Value).toArray below meth c H locs 0 0 (MQ below (qR G (some (.int o)) σ) ([.ref (gA G 61), .int x1] : List Value).toArray s 0 0 (AG G)) (F0 m 101 ls [.int z0]) := by
                  intro v2 v3 v5 z0 H locs hP hS ls hl hF
                  rw [f_X9_gap_101_e] at hF
                  refine lv_istore (lv' := [(4, .int z0), (0, .ref (gA G 61)), (1, .int x1), (2, .int v2), (3, .int v3), (5, .int v5)]) hx hb dX9_gap_101 hl (by decide) rfl (fun ls hl => ?_)
                  refine lv_iload hx hb dX9_gap_103 (lv_at hl 0 rfl) ?_
                  refine lv_iload_n hx hb dX9_gap_105 rfl (lv_at hl 3 rfl) ?_
                  have J123 : ∀ (v2 : Int32) (v3 : Int32) (v4 : Int32) (v5 : Int32) (H : Heap) (locs : List Loc) (hP : Pw G σ H) (hS : va_S (AG G) s.heap H locs) (ls : Array Slot) (hl : lv_has ls 8 [(0, .ref (gA G 61)), (1, .int x1), (2, .int v2), (3, .int v3), (4, .int v4), (5, .int v5)]) (hF : f_X9_gap_123 x1 σ (f_X9_gap_22 x1 σ fl22) v2 v3 v4 v5 = some o), W p l e (headSpec wsX9_gap ({ frames := 1, cells := 0, slots := 0, locals := 22 })).room s m ([.ref (gA G 61), .int x1] : List Value).toArray below meth c H locs 0 0 (MQ below (qR G (some (.int o)) σ) ([.ref (gA G 61), .int x1] : List Value).toArray s 0 0 (AG G)) (F0 m 123 ls []) := by
                    intro v2 v3 v4 v5 H locs hP hS ls hl hF
                    rw [f_X9_gap_123_e] at hF
                    refine lv_iinc (v := (v5 + (1 : Int32))) (lv' := [(5, .int (v5 + (1 : Int32))), (0, .ref (gA G 61)), (1, .int x1), (2, .int v2), (3, .int v3), (4, .int v4)]) hx hb dX9_gap_123 hl (k := 5) rfl rfl (by decide) rfl (fun ls hl => ?_)
                    refine lv_goto (tgt := 22) hx hb dX9_gap_126 (by decide) ?_
                    exact ih22 v2 v3 v4 (v5 + (1 : Int32)) _ _ hP hS ls (lv_sub hl [1, 2, 3, 4, 5, 0] rfl) hF
                  refine lv_icmp_gt (tgt := 112) hx hb dX9_gap_106 (by decide) (fun c5 => ?_) (fun c5 => ?_)
                  · have hF := ite_t c5 hF
                    refine lv_iload hx hb dX9_gap_112 (lv_at hl 0 rfl) ?_
                    refine lv_istore_n (lv' := [(2, .int z0), (4, .int z0), (0, .ref (gA G 61)), (1, .int x1), (3, .int v3), (5, .int v5)]) hx hb dX9_gap_114 rfl hl (by decide) rfl (fun ls hl => ?_)
                    refine lv_iload hx hb dX9_gap_115 (lv_at hl 5 rfl) ?_
                    refine lv_iload hx hb dX9_gap_117 (lv_at hl 1 rfl) ?_
                    refine lv_isub hx hb dX9_gap_119 ?_
                    refine lv_iconst (v := 1) hx hb dX9_gap_120 (by decide) ?_
                    refine lv_iadd hx hb dX9_gap_121 ?_
                    refine lv_istore_n (lv' := [(3, .int ((v5 - z0) + (1 : Int32))), (2, .int z0), (4, .int z0), (0, .ref (gA G 61)), (1, .int x1), (5, .int v5)]) hx hb dX9_gap_122 rfl hl (by decide) rfl (fun ls hl => ?_)
                    exact J123 z0 ((v5 - z0) + (1 : Int32)) z0 v5 _ _ hP hS ls (lv_sub hl [3, 4, 1, 0, 2, 5] rfl) hF
                  · have hF := ite_f c5 hF
                    refine lv_goto (tgt := 123) hx hb dX9_gap_109 (by decide) ?_
                    exact J123 v2 v3 z0 v5 _ _ hP hS ls (lv_sub hl [1, 2, 3, 4, 0, 5] rfl) hF
                refine lv_if_eq (tgt := 100) hx hb dX9_gap_90 (by decide) (fun c6 => ?_) (fun c6 => ?_)
                · have hF := ite_t c6 hF
                  refine lv_iconst (v := 0) hx hb dX9_gap_100 (by decide) ?_
                  exact J101 v2 v3 v5 (0 : Int32) _ _ hP hS ls (lv_sub hl [0, 1, 2, 3, 5] rfl) hF
                · have hF := ite_f c6 hF
                  refine lv_iload hx hb dX9_gap_93 (lv_at hl 4 rfl) ?_
                  refine lv_iconst (v := 1) hx hb dX9_gap_95 (by decide) ?_
                  refine lv_iadd hx hb dX9_gap_96 ?_
                  refine lv_goto (tgt := 101) hx hb dX9_gap_97 (by decide) ?_
                  exact J101 v2 v3 v5 (v4 + (1 : Int32)) _ _ hP hS ls (lv_sub hl [0, 1, 2, 3, 5] rfl) hF
              · have hF := ite_f c4 hF
                refine lv_iload hx hb dX9_gap_56 (lv_at hl 6 rfl) ?_
                refine lv_aload_n hx hb dX9_gap_58 rfl (lv_at hl 0 rfl) ?_
                refine va_get (ci := 5) (C := RX9) (T := TX9) (N := 21) (v := .ref (gA G 62)) hx hb hts inX9 hown hK.1 hP 61 (at_5 rfl) rfl 0 (by decide) w1 (fun _ h9 => h9) rfl dX9_gap_59 ?_
                refine lv_iload hx hb dX9_gap_62 (lv_at hl 7 rfl) ?_
                refine lv_iconst (v := 2) hx hb dX9_gap_64 (by decide) ?_
                refine k_Sv (As := [.int v7, .int (2 : Int32)]) (rest := [.ref (gA G 62), .int v6]) Z hK hP hS (t_X9_of l G hG v7 (2 : Int32) σ) (va_cwS 2 hts gX9_gap_X9_of rfl rfl rfl (by decide +kernel) ⟨Nat.le_of_ble_eq_true rfl, Nat.le_of_ble_eq_true rfl⟩) rfl hl.1 rfl (Nat.le_of_ble_eq_true rfl) ⟨Nat.zero_le _, Nat.zero_le _⟩ dX9_gap_65 (fun H locs hP hS => ?_)
                obtain ⟨b7, hF⟩ := ite_some hF
                refine va_iald hx hb hK.1 hP 62 0 (at_6 (rfl : kd 62 = 6) (rfl : ln 62 = 52)) rfl (inb_in b7) dX9_gap_68 ?_
                refine lv_iload hx hb dX9_gap_69 (lv_at hl 5 rfl) ?_
                have J79 : ∀ (v2 : Int32) (v3 : Int32) (v4 : Int32) (v5 : Int32) (v7 : Int32) (z0 : Int32) (z1 : Int32) (H : Heap) (locs : List Loc) (hP : Pw G σ H) (hS : va_S (AG G) s.heap H locs) (ls : Array Slot) (hl : lv_has ls 8 [(0, .ref (gA G 61)), (1, .int x1), (2, .int v2), (3, .int v3), (4, .int v4), (5, .int v5), (7, .int v7)]) (hF : f_X9_gap_79 x1 σ (f_X9_gap_22 x1 σ fl22) (f_X9_gap_45 x1 σ (f_X9_gap_22 x1 σ fl22) fl45) v2 v3 v4 v5 v7 z0 z1 = some o), W p l e (headSpec wsX9_gap ({ frames := 1, cells := 0, slots := 0, locals := 22 })).room s m ([.ref (gA G 61), .int x1] : List Value).toArray below meth c H locs 0 0 (MQ below (qR G (some (.int o)) σ) ([.ref (gA G 61), .int x1] : List Value).toArray s 0 0 (AG G)) (F0 m 79 ls [.int z1, .int z0]) := by
                  intro v2 v3 v4 v5 v7 z0 z1 H locs hP hS ls hl hF
                  rw [f_X9_gap_79_e] at hF
                  refine lv_iand hx hb dX9_gap_79 ?_
                  refine lv_istore (lv' := [(6, .int (z0 &&& z1)), (0, .ref (gA G 61)), (1, .int x1), (2, .int v2), (3, .int v3), (4, .int v4), (5, .int v5), (7, .int v7)]) hx hb dX9_gap_80 hl (by decide) rfl (fun ls hl => ?_)
                  refine lv_iinc (v := (v7 + (1 : Int32))) (lv' := [(7, .int (v7 + (1 : Int32))), (6, .int (z0 &&& z1)), (0, .ref (gA G 61)), (1, .int x1), (2, .int v2), (3, .int v3), (4, .int v4), (5, .int v5)]) hx hb dX9_gap_82 hl (k := 7) rfl rfl (by decide) rfl (fun ls hl => ?_)
                  refine lv_goto (tgt := 45) hx hb dX9_gap_85 (by decide) ?_
                  exact ih45 v2 v3 v4 v5 (z0 &&& z1) (v7 + (1 : Int32)) _ _ hP hS ls (lv_sub hl [2, 3, 4, 5, 6, 7, 1, 0] rfl) hF
                refine lv_icmp_eq (tgt := 78) hx hb dX9_gap_71 (by decide) (fun c8 => ?_) (fun c8 => ?_)
                · have hF := ite_t c8 hF
                  refine lv_iconst (v := 0) hx hb dX9_gap_78 (by decide) ?_
                  exact J79 v2 v3 v4 v5 v7 v6 (0 : Int32) _ _ hP hS ls (lv_sub hl [0, 1, 2, 3, 4, 5, 7] rfl) hF
                · have hF := ite_f c8 hF
                  refine lv_iconst (v := 1) hx hb dX9_gap_74 (by decide) ?_
                  refine lv_goto (tgt := 79) hx hb dX9_gap_75 (by decide) ?_
                  exact J79 v2 v3 v4 v5 v7 v6 (1 : Int32) _ _ hP hS ls (lv_sub hl [0, 1, 2, 3, 4, 5, 7] rfl) hF
          refine lv_istore (lv' := [(7, .int (0 : Int32)), (6, .int (1 : Int32)), (0, .ref (gA G 61)), (1, .int x1), (2, .int v2), (3, .int v3), (4, .int v4), (5, .int v5)]) hx hb dX9_gap_43 hl (by decide) rfl (fun ls hl => ?_)
          exact J45 fu v2 v3 v4 v5 (1 : Int32) (0 : Int32) _ _ hP hS ls (lv_sub hl [2, 3, 4, 5, 6, 7, 1, 0] rfl) hF
    refine lv_istore (lv' := [(5, .int (0 : Int32)), (4, .int (0 : Int32)), (3, .int (-4 : Int32)), (2, .int (0 : Int32)), (0, .ref (gA G 61)), (1, .int x1)]) hx hb dX9_gap_20 hl (by decide) rfl (fun ls hl => ?_)
    exact J22 fu (0 : Int32) (-4 : Int32) (0 : Int32) (0 : Int32) _ _ hP hS ls (lv_sub hl [4, 5, 3, 2, 1, 0] rfl) hF
  · have hF := ite_f (b2i_e0 c1) hF
    refine lv_iconst (v := -1) hx hb dX9_gap_9 (by decide) ?_
    exact e_iP hx hb hr hP hS hlocks dX9_gap_10 hF
def f_X9_quarrel_127 (σ : St) (rec7 : Int32 → Int32 → Int32 → Option Int32) (rec17 : Int32 → Int32 → Int32 → Int32 → Option Int32) (v1 : Int32) (v2 : Int32) (v3 : Int32) (v4 : Int32) : Option Int32 := (rec17 v1 v2 v3 (v4 + (1 : Int32)))
theorem f_X9_quarrel_127_e {σ : St} {rec7 : Int32 → Int32 → Int32 → Option Int32} {rec17 : Int32 → Int32 → Int32 → Int32 → Option Int32} {v1 : Int32} {v2 : Int32} {v3 : Int32} {v4 : Int32} : f_X9_quarrel_127 σ rec7 rec17 v1 v2 v3 v4 = (rec17 v1 v2 v3 (v4 + (1 : Int32))) := rfl
def f_X9_quarrel_98 (σ : St) (rec7 : Int32 → Int32 → Int32 → Option Int32) (rec17 : Int32 → Int32 → Int32 → Int32 → Option Int32) (rec29 : Int32 → Int32 → Int32 → Int32 → Int32 → Int32 → Option Int32) (v1 : Int32) (v2 : Int32) (v3 : Int32) (v4 : Int32) (v6 : Int32) (z0 : Int32) (z1 : Int32) : Option Int32 := (rec29 v1 v2 v3 v4 (z0 + z1) (v6 + (1 : Int32)))
theorem f_X9_quarrel_98_e {σ : St} {rec7 : Int32 → Int32 → Int32 → Option Int32} {rec17 : Int32 → Int32 → Int32 → Int32 → Option Int32} {rec29 : Int32 → Int32 → Int32 → Int32 → Int32 → Int32 → Option Int32} {v1 : Int32} {v2 : Int32} {v3 : Int32} {v4 : Int32} {v6 : Int32} {z0 : Int32} {z1 : Int32} : f_X9_quarrel_98 σ rec7 rec17 rec29 v1 v2 v3 v4 v6 z0 z1 = (rec29 v1 v2 v3 v4 (z0 + z1) (v6 + (1 : Int32))) := rfl
def f_X9_quarrel_97 (σ : St) (rec7 : Int32 → Int32 → Int32 → Option Int32) (rec17 : Int32 → Int32 → Int32 → Int32 → Option Int32) (rec29 : Int32 → Int32 → Int32 → Int32 → Int32 → Int32 → Option Int32) (v1 : Int32) (v2 : Int32) (v3 : Int32) (v4 : Int32) (v6 : Int32) (z0 : Int32) : Option Int32 := (f_X9_quarrel_98 σ rec7 rec17 rec29 v1 v2 v3 v4 v6 z0 (0 : Int32))
theorem f_X9_quarrel_97_e {σ : St} {rec7 : Int32 → Int32 → Int32 → Option Int32} {rec17 : Int32 → Int32 → Int32 → Int32 → Option Int32} {rec29 : Int32 → Int32 → Int32 → Int32 → Int32 → Int32 → Option Int32} {v1 : Int32} {v2 : Int32} {v3 : Int32} {v4 : Int32} {v6 : Int32} {z0 : Int32} : f_X9_quarrel_97 σ rec7 rec17 rec29 v1 v2 v3 v4 v6 z0 = (f_X9_quarrel_98 σ rec7 rec17 rec29 v1 v2 v3 v4 v6 z0 (0 : Int32)) := rfl
def f_X9_quarrel_29 (σ : St) (rec7 : Int32 → Int32 → Int32 → Option Int32) (rec17 : Int32 → Int32 → Int32 → Int32 → Option Int32) : Nat → (Int32 → Int32 → Int32 → Int32 → Int32 → Int32 → Option Int32)
  | 0 => fun _ _ _ _ _ _ => none
  | fl + 1 => fun v1 v2 v3 v4 v5 v6 => (if (σ 62 0) ≤ v6 then (if v2 < v5 then (f_X9_quarrel_127 σ rec7 rec17 (((10 : Int32) * v3) + v4) v5 v3 v4) else (f_X9_quarrel_127 σ rec7 rec17 v1 v2 v3 v4)) else (ob (f_X9_wasThere 62 v3 v6 σ) (fun q5 => if q5 = true then (ob (f_X9_wasThere 62 v4 v6 σ) (fun q8 => if q8 = true then (ob (f_X9_hasIt 62 v3 v6 σ) (fun q11 => ob (f_X9_hasIt 62 v4 v6 σ) (fun q13 => if (b2i q11) = (b2i q13) then f_X9_quarrel_97 σ rec7 rec17 (f_X9_quarrel_29 σ rec7 rec17 fl) v1 v2 v3 v4 v6 v5 else (f_X9_quarrel_98 σ rec7 rec17 (f_X9_quarrel_29 σ rec7 rec17 fl) v1 v2 v3 v4 v6 v5 (1 : Int32))))) else f_X9_quarrel_97 σ rec7 rec17 (f_X9_quarrel_29 σ rec7 rec17 fl) v1 v2 v3 v4 v6 v5)) else f_X9_quarrel_97 σ rec7 rec17 (f_X9_quarrel_29 σ rec7 rec17 fl) v1 v2 v3 v4 v6 v5)))
theorem f_X9_quarrel_29_s {σ : St} {rec7 : Int32 → Int32 → Int32 → Option Int32} {rec17 : Int32 → Int32 → Int32 → Int32 → Option Int32} (fl : Nat) {v1 : Int32} {v2 : Int32} {v3 : Int32} {v4 : Int32} {v5 : Int32} {v6 : Int32} : f_X9_quarrel_29 σ rec7 rec17 (fl + 1) v1 v2 v3 v4 v5 v6 = (if (σ 62 0) ≤ v6 then (if v2 < v5 then (f_X9_quarrel_127 σ rec7 rec17 (((10 : Int32) * v3) + v4) v5 v3 v4) else (f_X9_quarrel_127 σ rec7 rec17 v1 v2 v3 v4)) else (ob (f_X9_wasThere 62 v3 v6 σ) (fun q5 => if q5 = true then (ob (f_X9_wasThere 62 v4 v6 σ) (fun q8 => if q8 = true then (ob (f_X9_hasIt 62 v3 v6 σ) (fun q11 => ob (f_X9_hasIt 62 v4 v6 σ) (fun q13 => if (b2i q11) = (b2i q13) then f_X9_quarrel_97 σ rec7 rec17 (f_X9_quarrel_29 σ rec7 rec17 fl) v1 v2 v3 v4 v6 v5 else (f_X9_quarrel_98 σ rec7 rec17 (f_X9_quarrel_29 σ rec7 rec17 fl) v1 v2 v3 v4 v6 v5 (1 : Int32))))) else f_X9_quarrel_97 σ rec7 rec17 (f_X9_quarrel_29 σ rec7 rec17 fl) v1 v2 v3 v4 v6 v5)) else f_X9_quarrel_97 σ rec7 rec17 (f_X9_quarrel_29 σ rec7 rec17 fl) v1 v2 v3 v4 v6 v5))) := rfl
def f_X9_quarrel_17 (σ : St) (rec7 : Int32 → Int32 → Int32 → Option Int32) : Nat → (Int32 → Int32 → Int32 → Int32 → Option Int32)
  | 0 => fun _ _ _ _ => none
  | fl + 1 => fun v1 v2 v3 v4 => (if (5 : Int32) ≤ v4 then (rec7 v1 v2 (v3 + (1 : Int32))) else (f_X9_quarrel_29 σ rec7 (f_X9_quarrel_17 σ rec7 fl) fu v1 v2 v3 v4 (0 : Int32) (0 : Int32)))
theorem f_X9_quarrel_17_s {σ : St} {rec7 : Int32 → Int32 → Int32 → Option Int32} (fl : Nat) {v1 : Int32} {v2 : Int32} {v3 : Int32} {v4 : Int32} : f_X9_quarrel_17 σ rec7 (fl + 1) v1 v2 v3 v4 = (if (5 : Int32) ≤ v4 then (rec7 v1 v2 (v3 + (1 : Int32))) else (f_X9_quarrel_29 σ rec7 (f_X9_quarrel_17 σ rec7 fl) fu v1 v2 v3 v4 (0 : Int32) (0 : Int32))) := rfl
def f_X9_quarrel_7 (σ : St) : Nat → (Int32 → Int32 → Int32 → Option Int32)
  | 0 => fun _ _ _ => none
  | fl + 1 => fun v1 v2 v3 => (if (5 : Int32) ≤ v3 then (some v1) else (f_X9_quarrel_17 σ (f_X9_quarrel_7 σ fl) fu v1 v2 v3 (v3 + (1 : Int32))))
theorem f_X9_quarrel_7_s {σ : St} (fl : Nat) {v1 : Int32} {v2 : Int32} {v3 : Int32} : f_X9_quarrel_7 σ (fl + 1) v1 v2 v3 = (if (5 : Int32) ≤ v3 then (some v1) else (f_X9_quarrel_17 σ (f_X9_quarrel_7 σ fl) fu v1 v2 v3 (v3 + (1 : Int32)))) := rfl
def f_X9_quarrel (σ : St) : Option Int32 := (f_X9_quarrel_7 σ fu (-4 : Int32) (0 : Int32) (0 : Int32))
set_option maxRecDepth 100000 in
set_option maxHeartbeats 4000000 in
theorem t_X9_quarrel (l : Launch) (G : GT) (hG : Dw G) (σ : St) (o : Int32) (hF : f_X9_quarrel σ = some o) : Ct l G yX9_quarrel wsX9_quarrel 3 67 [.ref (gA G 61)] σ (some (.int o)) σ := by
  refine Met.ofW (cc := cX9_quarrel) (maxL := 7) (ret := (some .int)) (by decide) rfl ?_
  intro p e s m args below meth c s₁ B hml hv
  obtain ⟨rfl, hP, hK⟩ := hv
  have hx := B.exec
  have hb := B.bytes
  have hr := B.returns
  have hts := atoms_spec (ws := wsX9_quarrel) B.pre
  have hown : s.vm.findClass RX9 = some m.cls := findClass_of_methodNamed B.named
  have hlocks := B.notSynchronized
  have Z : CallFix p m c cX9_quarrel 7 s _ wsX9_quarrel RX9 := ⟨hx, hb, hml, hown, hts⟩
  have hS : va_S (AG G) s.heap s.heap [] := va_S.rf
  have inX9 : ∀ w ∈ u_ws RX9 TX9 21, w ∈ wsX9_quarrel := by decide +kernel
  have w1 := hts (.fieldLink RX9 9 "AlmanacOfTheYearGoneModel" "s" "[I") (by decide +kernel)
  have hl := lv_entry ([.ref (gA G 61)]) (n := 7) (Nat.le_of_ble_eq_true rfl)
  rw [lg_entry_eq]
  generalize (lg_sl ([.ref (gA G 61)]) ++ List.replicate (7 - (lg_sl ([.ref (gA G 61)])).length) Slot.unset).toArray = ls at hl ⊢
  have hl : lv_has ls 7 [(0, .ref (gA G 61))] := hl
  unfold f_X9_quarrel at hF
  refine lv_bipush (v := -4) hx hb dX9_quarrel_0 (by decide) ?_
  refine lv_istore_n (lv' := [(1, .int (-4 : Int32)), (0, .ref (gA G 61))]) hx hb dX9_quarrel_2 rfl hl (by decide) rfl (fun ls hl => ?_)
  refine lv_iconst (v := 0) hx hb dX9_quarrel_3 (by decide) ?_
  refine lv_istore_n (lv' := [(2, .int (0 : Int32)), (1, .int (-4 : Int32)), (0, .ref (gA G 61))]) hx hb dX9_quarrel_4 rfl hl (by decide) rfl (fun ls hl => ?_)
  refine lv_iconst (v := 0) hx hb dX9_quarrel_5 (by decide) ?_
  have J7 : ∀ (fl : Nat) (v1 : Int32) (v2 : Int32) (v3 : Int32) (H : Heap) (locs : List Loc) (hP : Pw G σ H) (hS : va_S (AG G) s.heap H locs) (ls : Array Slot) (hl : lv_has ls 7 [(0, .ref (gA G 61)), (1, .int v1), (2, .int v2), (3, .int v3)]) (hF : f_X9_quarrel_7 σ fl v1 v2 v3 = some o), W p l e (headSpec wsX9_quarrel ({ frames := 3, cells := 0, slots := 0, locals := 67 })).room s m ([.ref (gA G 61)] : List Value).toArray below meth c H locs 0 0 (MQ below (qR G (some (.int o)) σ) ([.ref (gA G 61)] : List Value).toArray s 0 0 (AG G)) (F0 m 7 ls []) := by
    intro fl7
    induction fl7 with
    | zero => intro v1 v2 v3 H locs hP hS ls hl hF; cases hF
    | succ fl7 ih7 =>
      intro v1 v2 v3 H locs hP hS ls hl hF
      rw [f_X9_quarrel_7_s] at hF
      refine lv_iload_n hx hb dX9_quarrel_7 rfl (lv_at hl 3 rfl) ?_
      refine lv_iconst (v := 5) hx hb dX9_quarrel_8 (by decide) ?_
      refine lv_icmp_ge (tgt := 139) hx hb dX9_quarrel_9 (by decide) (fun c1 => ?_) (fun c1 => ?_)
      · have hF := ite_t c1 hF
        refine lv_iload_n hx hb dX9_quarrel_139 rfl (lv_at hl 1 rfl) ?_
        exact e_iP hx hb hr hP hS hlocks dX9_quarrel_140 hF
      · have hF := ite_f c1 hF
        refine lv_iload_n hx hb dX9_quarrel_12 rfl (lv_at hl 3 rfl) ?_
        refine lv_iconst (v := 1) hx hb dX9_quarrel_13 (by decide) ?_
        refine lv_iadd hx hb dX9_quarrel_14 ?_
        have J17 : ∀ (fl : Nat) (v1 : Int32) (v2 : Int32) (v3 : Int32) (v4 : Int32) (H : Heap) (locs : List Loc) (hP : Pw G σ H) (hS : va_S (AG G) s.heap H locs) (ls : Array Slot) (hl : lv_has ls 7 [(0, .ref (gA G 61)), (1, .int v1), (2, .int v2), (3, .int v3), (4, .int v4)]) (hF : f_X9_quarrel_17 σ (f_X9_quarrel_7 σ fl7) fl v1 v2 v3 v4 = some o), W p l e (headSpec wsX9_quarrel ({ frames := 3, cells := 0, slots := 0, locals := 67 })).room s m ([.ref (gA G 61)] : List Value).toArray below meth c H locs 0 0 (MQ below (qR G (some (.int o)) σ) ([.ref (gA G 61)] : List Value).toArray s 0 0 (AG G)) (F0 m 17 ls []) := by
          intro fl17
          induction fl17 with
          | zero => intro v1 v2 v3 v4 H locs hP hS ls hl hF; cases hF
          | succ fl17 ih17 =>
            intro v1 v2 v3 v4 H locs hP hS ls hl hF
            rw [f_X9_quarrel_17_s] at hF
            refine lv_iload hx hb dX9_quarrel_17 (lv_at hl 4 rfl) ?_
            refine lv_iconst (v := 5) hx hb dX9_quarrel_19 (by decide) ?_
            refine lv_icmp_ge (tgt := 133) hx hb dX9_quarrel_20 (by decide) (fun c2 => ?_) (fun c2 => ?_)
            · have hF := ite_t c2 hF
              refine lv_iinc (v := (v3 + (1 : Int32))) (lv' := [(3, .int (v3 + (1 : Int32))), (0, .ref (gA G 61)), (1, .int v1), (2, .int v2), (4, .int v4)]) hx hb dX9_quarrel_133 hl (k := 3) rfl rfl (by decide) rfl (fun ls hl => ?_)
              refine lv_goto (tgt := 7) hx hb dX9_quarrel_136 (by decide) ?_
              exact ih7 v1 v2 (v3 + (1 : Int32)) _ _ hP hS ls (lv_sub hl [1, 2, 3, 0] rfl) hF
            · have hF := ite_f c2 hF
              refine lv_iconst (v := 0) hx hb dX9_quarrel_23 (by decide) ?_
              refine lv_istore (lv' := [(5, .int (0 : Int32)), (0, .ref (gA G 61)), (1, .int v1), (2, .int v2), (3, .int v3), (4, .int v4)]) hx hb dX9_quarrel_24 hl (by decide) rfl (fun ls hl => ?_)
              refine lv_iconst (v := 0) hx hb dX9_quarrel_26 (by decide) ?_
              have J29 : ∀ (fl : Nat) (v1 : Int32) (v2 : Int32) (v3 : Int32) (v4 : Int32) (v5 : Int32) (v6 : Int32) (H : Heap) (locs : List Loc) (hP : Pw G σ H) (hS : va_S (AG G) s.heap H locs) (ls : Array Slot) (hl : lv_has ls 7 [(0, .ref (gA G 61)), (1, .int v1), (2, .int v2), (3, .int v3), (4, .int v4), (5, .int v5), (6, .int v6)]) (hF : f_X9_quarrel_29 σ (f_X9_quarrel_7 σ fl7) (f_X9_quarrel_17 σ (f_X9_quarrel_7 σ fl7) fl17) fl v1 v2 v3 v4 v5 v6 = some o), W p l e (headSpec wsX9_quarrel ({ frames := 3, cells := 0, slots := 0, locals := 67 })).room s m ([.ref (gA G 61)] : List Value).toArray below meth c H locs 0 0 (MQ below (qR G (some (.int o)) σ) ([.ref (gA G 61)] : List Value).toArray s 0 0 (AG G)) (F0 m 29 ls []) := by
                intro fl29
                induction fl29 with
                | zero => intro v1 v2 v3 v4 v5 v6 H locs hP hS ls hl hF; cases hF
                | succ fl29 ih29 =>
                  intro v1 v2 v3 v4 v5 v6 H locs hP hS ls hl hF
                  rw [f_X9_quarrel_29_s] at hF
                  refine lv_iload hx hb dX9_quarrel_29 (lv_at hl 6 rfl) ?_
                  refine lv_aload_n hx hb dX9_quarrel_31 rfl (lv_at hl 0 rfl) ?_
                  refine va_get (ci := 5) (C := RX9) (T := TX9) (N := 21) (v := .ref (gA G 62)) hx hb hts inX9 hown hK.1 hP 61 (at_5 rfl) rfl 0 (by decide) w1 (fun _ h9 => h9) rfl dX9_quarrel_32 ?_
                  refine lv_iconst (v := 0) hx hb dX9_quarrel_35 (by decide) ?_
                  refine va_iald hx hb hK.1 hP 62 0 (at_6 (rfl : kd 62 = 6) (rfl : ln 62 = 52)) rfl (inb_in (by decide)) dX9_quarrel_36 ?_
                  refine W.eq (g2 := F0 m 37 ls ([.int (σ 62 0), .int v6])) rfl ?_
                  refine lv_icmp_ge (tgt := 107) hx hb dX9_quarrel_37 (by decide) (fun c3 => ?_) (fun c3 => ?_)
                  · have hF := ite_t c3 hF
                    refine lv_iload hx hb dX9_quarrel_107 (lv_at hl 5 rfl) ?_
                    refine lv_iload_n hx hb dX9_quarrel_109 rfl (lv_at hl 2 rfl) ?_
                    have J127 : ∀ (v1 : Int32) (v2 : Int32) (v3 : Int32) (v4 : Int32) (H : Heap) (locs : List Loc) (hP : Pw G σ H) (hS : va_S (AG G) s.heap H locs) (ls : Array Slot) (hl : lv_has ls 7 [(0, .ref (gA G 61)), (1, .int v1), (2, .int v2), (3, .int v3), (4, .int v4)]) (hF : f_X9_quarrel_127 σ (f_X9_quarrel_7 σ fl7) (f_X9_quarrel_17 σ (f_X9_quarrel_7 σ fl7) fl17) v1 v2 v3 v4 = some o), W p l e (headSpec wsX9_quarrel ({ frames := 3, cells := 0, slots := 0, locals := 67 })).room s m ([.ref (gA G 61)] : List Value).toArray below meth c H locs 0 0 (MQ below (qR G (some (.int o)) σ) ([.ref (gA G 61)] : List Value).toArray s 0 0 (AG G)) (F0 m 127 ls []) := by
                      intro v1 v2 v3 v4 H locs hP hS ls hl hF
                      rw [f_X9_quarrel_127_e] at hF
                      refine lv_iinc (v := (v4 + (1 : Int32))) (lv' := [(4, .int (v4 + (1 : Int32))), (0, .ref (gA G 61)), (1, .int v1), (2, .int v2), (3, .int v3)]) hx hb dX9_quarrel_127 hl (k := 4) rfl rfl (by decide) rfl (fun ls hl => ?_)
                      refine lv_goto (tgt := 17) hx hb dX9_quarrel_130 (by decide) ?_
                      exact ih17 v1 v2 v3 (v4 + (1 : Int32)) _ _ hP hS ls (lv_sub hl [1, 2, 3, 4, 0] rfl) hF
                    refine lv_icmp_gt (tgt := 116) hx hb dX9_quarrel_110 (by decide) (fun c4 => ?_) (fun c4 => ?_)
                    · have hF := ite_t c4 hF
                      refine lv_bipush (v := 10) hx hb dX9_quarrel_116 (by decide) ?_
                      refine lv_iload_n hx hb dX9_quarrel_118 rfl (lv_at hl 3 rfl) ?_
                      refine lv_imul hx hb dX9_quarrel_119 ?_
                      refine lv_iload hx hb dX9_quarrel_120 (lv_at hl 4 rfl) ?_
                      refine lv_iadd hx hb dX9_quarrel_122 ?_
                      refine lv_istore_n (lv' := [(1, .int (((10 : Int32) * v3) + v4)), (0, .ref (gA G 61)), (2, .int v2), (3, .int v3), (4, .int v4), (5, .int v5), (6, .int v6)]) hx hb dX9_quarrel_123 rfl hl (by decide) rfl (fun ls hl => ?_)
                      refine lv_iload hx hb dX9_quarrel_124 (lv_at hl 5 rfl) ?_
                      refine lv_istore_n (lv' := [(2, .int v5), (1, .int (((10 : Int32) * v3) + v4)), (0, .ref (gA G 61)), (3, .int v3), (4, .int v4), (5, .int v5), (6, .int v6)]) hx hb dX9_quarrel_126 rfl hl (by decide) rfl (fun ls hl => ?_)
                      exact J127 (((10 : Int32) * v3) + v4) v5 v3 v4 _ _ hP hS ls (lv_sub hl [2, 1, 0, 3, 4] rfl) hF
                    · have hF := ite_f c4 hF
                      refine lv_goto (tgt := 127) hx hb dX9_quarrel_113 (by decide) ?_
                      exact J127 v1 v2 v3 v4 _ _ hP hS ls (lv_sub hl [0, 1, 2, 3, 4] rfl) hF
                  · have hF := ite_f c3 hF
                    refine lv_iload hx hb dX9_quarrel_40 (lv_at hl 5 rfl) ?_
                    refine lv_aload_n hx hb dX9_quarrel_42 rfl (lv_at hl 0 rfl) ?_
                    refine va_get (ci := 5) (C := RX9) (T := TX9) (N := 21) (v := .ref (gA G 62)) hx hb hts inX9 hown hK.1 hP 61 (at_5 rfl) rfl 0 (by decide) w1 (fun _ h9 => h9) rfl dX9_quarrel_43 ?_
                    refine lv_iload_n hx hb dX9_quarrel_46 rfl (lv_at hl 3 rfl) ?_
                    refine lv_iload hx hb dX9_quarrel_47 (lv_at hl 6 rfl) ?_
                    obtain ⟨q5, h6, hF⟩ := ob_some hF
                    refine k_Sv (As := [.ref (gA G 62), .int v3, .int v6]) (rest := [.int v5]) Z hK hP hS (t_X9_wasThere l G hG 62 v3 v6 ⟨(rfl : kd 62 = 6), (rfl : ln 62 = 52)⟩ σ _ h6) (va_cwS 3 hts gX9_quarrel_X9_wasThere rfl rfl rfl (by decide +kernel) ⟨Nat.le_of_ble_eq_true rfl, Nat.le_of_ble_eq_true rfl⟩) rfl hl.1 rfl (Nat.le_of_ble_eq_true rfl) ⟨Nat.zero_le _, Nat.zero_le _⟩ dX9_quarrel_49 (fun H locs hP hS => ?_)
                    have J98 : ∀ (v1 : Int32) (v2 : Int32) (v3 : Int32) (v4 : Int32) (v6 : Int32) (z0 : Int32) (z1 : Int32) (H : Heap) (locs : List Loc) (hP : Pw G σ H) (hS : va_S (AG G) s.heap H locs) (ls : Array Slot) (hl : lv_has ls 7 [(0, .ref (gA G 61)), (1, .int v1), (2, .int v2), (3, .int v3), (4, .int v4), (6, .int v6)]) (hF : f_X9_quarrel_98 σ (f_X9_quarrel_7 σ fl7) (f_X9_quarrel_17 σ (f_X9_quarrel_7 σ fl7) fl17) (f_X9_quarrel_29 σ (f_X9_quarrel_7 σ fl7) (f_X9_quarrel_17 σ (f_X9_quarrel_7 σ fl7) fl17) fl29) v1 v2 v3 v4 v6 z0 z1 = some o), W p l e (headSpec wsX9_quarrel ({ frames := 3, cells := 0, slots := 0, locals := 67 })).room s m ([.ref (gA G 61)] : List Value).toArray below meth c H locs 0 0 (MQ below (qR G (some (.int o)) σ) ([.ref (gA G 61)] : List Value).toArray s 0 0 (AG G)) (F0 m 98 ls [.int z1, .int z0]) := by
                      intro v1 v2 v3 v4 v6 z0 z1 H locs hP hS ls hl hF
                      rw [f_X9_quarrel_98_e] at hF
                      refine lv_iadd hx hb dX9_quarrel_98 ?_
                      refine lv_istore (lv' := [(5, .int (z0 + z1)), (0, .ref (gA G 61)), (1, .int v1), (2, .int v2), (3, .int v3), (4, .int v4), (6, .int v6)]) hx hb dX9_quarrel_99 hl (by decide) rfl (fun ls hl => ?_)
                      refine lv_iinc (v := (v6 + (1 : Int32))) (lv' := [(6, .int (v6 + (1 : Int32))), (5, .int (z0 + z1)), (0, .ref (gA G 61)), (1, .int v1), (2, .int v2), (3, .int v3), (4, .int v4)]) hx hb dX9_quarrel_101 hl (k := 6) rfl rfl (by decide) rfl (fun ls hl => ?_)
                      refine lv_goto (tgt := 29) hx hb dX9_quarrel_104 (by decide) ?_
                      exact ih29 v1 v2 v3 v4 (z0 + z1) (v6 + (1 : Int32)) _ _ hP hS ls (lv_sub hl [2, 3, 4, 5, 6, 1, 0] rfl) hF
                    have J97 : ∀ (v1 : Int32) (v2 : Int32) (v3 : Int32) (v4 : Int32) (v6 : Int32) (z0 : Int32) (H : Heap) (locs : List Loc) (hP : Pw G σ H) (hS : va_S (AG G) s.heap H locs) (ls : Array Slot) (hl : lv_has ls 7 [(0, .ref (gA G 61)), (1, .int v1), (2, .int v2), (3, .int v3), (4, .int v4), (6, .int v6)]) (hF : f_X9_quarrel_97 σ (f_X9_quarrel_7 σ fl7) (f_X9_quarrel_17 σ (f_X9_quarrel_7 σ fl7) fl17) (f_X9_quarrel_29 σ (f_X9_quarrel_7 σ fl7) (f_X9_quarrel_17 σ (f_X9_quarrel_7 σ fl7) fl17) fl29) v1 v2 v3 v4 v6 z0 = some o), W p l e (headSpec wsX9_quarrel ({ frames := 3, cells := 0, slots := 0, locals := 67 })).room s m ([.ref (gA G 61)] : List Value).toArray below meth c H locs 0 0 (MQ below (qR G (some (.int o)) σ) ([.ref (gA G 61)] : List Value).toArray s 0 0 (AG G)) (F0 m 97 ls [.int z0]) := by
                      intro v1 v2 v3 v4 v6 z0 H locs hP hS ls hl hF
                      rw [f_X9_quarrel_97_e] at hF
                      refine lv_iconst (v := 0) hx hb dX9_quarrel_97 (by decide) ?_
                      exact J98 v1 v2 v3 v4 v6 z0 (0 : Int32) _ _ hP hS ls (lv_sub hl [0, 1, 2, 3, 4, 5] rfl) hF
                    refine lv_if_eq (tgt := 97) hx hb dX9_quarrel_52 (by decide) (fun c7 => ?_) (fun c7 => ?_)
                    · have hF := ite_f (b2i_e0 c7) hF
                      exact J97 v1 v2 v3 v4 v6 v5 _ _ hP hS ls (lv_sub hl [0, 1, 2, 3, 4, 6] rfl) hF
                    · have hF := ite_t (b2i_n0 c7) hF
                      refine lv_aload_n hx hb dX9_quarrel_55 rfl (lv_at hl 0 rfl) ?_
                      refine va_get (ci := 5) (C := RX9) (T := TX9) (N := 21) (v := .ref (gA G 62)) hx hb hts inX9 hown hK.1 hP 61 (at_5 rfl) rfl 0 (by decide) w1 (fun _ h9 => h9) rfl dX9_quarrel_56 ?_
                      refine lv_iload hx hb dX9_quarrel_59 (lv_at hl 4 rfl) ?_
                      refine lv_iload hx hb dX9_quarrel_61 (lv_at hl 6 rfl) ?_
                      obtain ⟨q8, h9, hF⟩ := ob_some hF
                      refine k_Sv (As := [.ref (gA G 62), .int v4, .int v6]) (rest := [.int v5]) Z hK hP hS (t_X9_wasThere l G hG 62 v4 v6 ⟨(rfl : kd 62 = 6), (rfl : ln 62 = 52)⟩ σ _ h9) (va_cwS 3 hts gX9_quarrel_X9_wasThere rfl rfl rfl (by decide +kernel) ⟨Nat.le_of_ble_eq_true rfl, Nat.le_of_ble_eq_true rfl⟩) rfl hl.1 rfl (Nat.le_of_ble_eq_true rfl) ⟨Nat.zero_le _, Nat.zero_le _⟩ dX9_quarrel_63 (fun H locs hP hS => ?_)
                      refine lv_if_eq (tgt := 97) hx hb dX9_quarrel_66 (by decide) (fun c10 => ?_) (fun c10 => ?_)
                      · have hF := ite_f (b2i_e0 c10) hF
                        exact J97 v1 v2 v3 v4 v6 v5 _ _ hP hS ls (lv_sub hl [0, 1, 2, 3, 4, 6] rfl) hF
                      · have hF := ite_t (b2i_n0 c10) hF
                        refine lv_aload_n hx hb dX9_quarrel_69 rfl (lv_at hl 0 rfl) ?_
                        refine va_get (ci := 5) (C := RX9) (T := TX9) (N := 21) (v := .ref (gA G 62)) hx hb hts inX9 hown hK.1 hP 61 (at_5 rfl) rfl 0 (by decide) w1 (fun _ h9 => h9) rfl dX9_quarrel_70 ?_
                        refine lv_iload_n hx hb dX9_quarrel_73 rfl (lv_at hl 3 rfl) ?_
                        refine lv_iload hx hb dX9_quarrel_74 (lv_at hl 6 rfl) ?_
                        obtain ⟨q11, h12, hF⟩ := ob_some hF
                        refine k_Sv (As := [.ref (gA G 62), .int v3, .int v6]) (rest := [.int v5]) Z hK hP hS (t_X9_hasIt l G hG 62 v3 v6 ⟨(rfl : kd 62 = 6), (rfl : ln 62 = 52)⟩ σ _ h12) (va_cwS 3 hts gX9_quarrel_X9_hasIt rfl rfl rfl (by decide +kernel) ⟨Nat.le_of_ble_eq_true rfl, Nat.le_of_ble_eq_true rfl⟩) rfl hl.1 rfl (Nat.le_of_ble_eq_true rfl) ⟨Nat.zero_le _, Nat.zero_le _⟩ dX9_quarrel_76 (fun H locs hP hS => ?_)
                        refine lv_aload_n hx hb dX9_quarrel_79 rfl (lv_at hl 0 rfl) ?_
                        refine va_get (ci := 5) (C := RX9) (T := TX9) (N := 21) (v := .ref (gA G 62)) hx hb hts inX9 hown hK.1 hP 61 (at_5 rfl) rfl 0 (by decide) w1 (fun _ h9 => h9) rfl dX9_quarrel_80 ?_
                        refine lv_iload hx hb dX9_quarrel_83 (lv_at hl 4 rfl) ?_
                        refine lv_iload hx hb dX9_quarrel_85 (lv_at hl 6 rfl) ?_
                        obtain ⟨q13, h14, hF⟩ := ob_some hF
                        refine k_Sv (As := [.ref (gA G 62), .int v4, .int v6]) (rest := [.int (b2i q11), .int v5]) Z hK hP hS (t_X9_hasIt l G hG 62 v4 v6 ⟨(rfl : kd 62 = 6), (rfl : ln 62 = 52)⟩ σ _ h14) (va_cwS 3 hts gX9_quarrel_X9_hasIt rfl rfl rfl (by decide +kernel) ⟨Nat.le_of_ble_eq_true rfl, Nat.le_of_ble_eq_true rfl⟩) rfl hl.1 rfl (Nat.le_of_ble_eq_true rfl) ⟨Nat.zero_le _, Nat.zero_le _⟩ dX9_quarrel_87 (fun H locs hP hS => ?_)
                        refine lv_icmp_eq (tgt := 97) hx hb dX9_quarrel_90 (by decide) (fun c15 => ?_) (fun c15 => ?_)
                        · have hF := ite_t c15 hF
                          exact J97 v1 v2 v3 v4 v6 v5 _ _ hP hS ls (lv_sub hl [0, 1, 2, 3, 4, 6] rfl) hF
                        · have hF := ite_f c15 hF
                          refine lv_iconst (v := 1) hx hb dX9_quarrel_93 (by decide) ?_
                          refine lv_goto (tgt := 98) hx hb dX9_quarrel_94 (by decide) ?_
                          exact J98 v1 v2 v3 v4 v6 v5 (1 : Int32) _ _ hP hS ls (lv_sub hl [0, 1, 2, 3, 4, 6] rfl) hF
              refine lv_istore (lv' := [(6, .int (0 : Int32)), (5, .int (0 : Int32)), (0, .ref (gA G 61)), (1, .int v1), (2, .int v2), (3, .int v3), (4, .int v4)]) hx hb dX9_quarrel_27 hl (by decide) rfl (fun ls hl => ?_)
              exact J29 fu v1 v2 v3 v4 (0 : Int32) (0 : Int32) _ _ hP hS ls (lv_sub hl [2, 3, 4, 5, 6, 1, 0] rfl) hF
        refine lv_istore (lv' := [(4, .int (v3 + (1 : Int32))), (0, .ref (gA G 61)), (1, .int v1), (2, .int v2), (3, .int v3)]) hx hb dX9_quarrel_15 hl (by decide) rfl (fun ls hl => ?_)
        exact J17 fu v1 v2 v3 (v3 + (1 : Int32)) _ _ hP hS ls (lv_sub hl [1, 2, 3, 4, 0] rfl) hF
  refine lv_istore_n (lv' := [(3, .int (0 : Int32)), (2, .int (0 : Int32)), (1, .int (-4 : Int32)), (0, .ref (gA G 61))]) hx hb dX9_quarrel_6 rfl hl (by decide) rfl (fun ls hl => ?_)
  exact J7 fu (-4 : Int32) (0 : Int32) (0 : Int32) _ _ hP hS ls (lv_sub hl [3, 2, 1, 0] rfl) hF
def f_X9_forged_19 (x1 : Int32) : Nat → (Int32 → St → Option (Int32 × St))
  | 0 => fun _ _ => none
  | fl + 1 => fun v3 τ => (if inb x1 8 then if (τ 73 x1.toNatClampNeg) ≤ v3 then (some ((-4 : Int32), τ)) else (if (τ 61 7) ≤ v3 then (some (v3, τ)) else (if inb (((100 : Int32) * x1) + v3) 800 then if inb v3 10 then if (τ 74 (((100 : Int32) * x1) + v3).toNatClampNeg) = (τ 66 v3.toNatClampNeg) then ((f_X9_forged_19 x1 fl) (v3 + (1 : Int32)) τ) else (some (v3, τ)) else none else none)) else none)
theorem f_X9_forged_19_s {x1 : Int32} (fl : Nat) {v3 : Int32} {τ : St} : f_X9_forged_19 x1 (fl + 1) v3 τ = (if inb x1 8 then if (τ 73 x1.toNatClampNeg) ≤ v3 then (some ((-4 : Int32), τ)) else (if (τ 61 7) ≤ v3 then (some (v3, τ)) else (if inb (((100 : Int32) * x1) + v3) 800 then if inb v3 10 then if (τ 74 (((100 : Int32) * x1) + v3).toNatClampNeg) = (τ 66 v3.toNatClampNeg) then ((f_X9_forged_19 x1 fl) (v3 + (1 : Int32)) τ) else (some (v3, τ)) else none else none)) else none) := rfl
def f_X9_forged (x1 : Int32) (σ : St) : Option (Int32 × St) := (ob (f_X9_wrongRow x1 (-1 : Int32) σ) (fun q1 => if q1 = 0 then (ob (f_X9_prints σ) (fun q4 => f_X9_forged_19 x1 fu (0 : Int32) q4)) else (some (q1, σ))))
set_option maxRecDepth 100000 in
set_option maxHeartbeats 4000000 in
theorem t_X9_forged (l : Launch) (G : GT) (hG : Dw G) (x1 : Int32) (σ : St) (o : Int32 × St) (hF : f_X9_forged x1 σ = some o) : Ct l G yX9_forged wsX9_forged 4 87 [.ref (gA G 61), .int x1] σ (some (.int o.1)) o.2 := by
  refine Met.ofW (cc := cX9_forged) (maxL := 4) (ret := (some .int)) (by decide) rfl ?_
  intro p e s m args below meth c s₁ B hml hv
  obtain ⟨rfl, hP, hK⟩ := hv
  have hx := B.exec
  have hb := B.bytes
  have hr := B.returns
  have hts := atoms_spec (ws := wsX9_forged) B.pre
  have hown : s.vm.findClass RX9 = some m.cls := findClass_of_methodNamed B.named
  have hlocks := B.notSynchronized
  have Z : CallFix p m c cX9_forged 4 s _ wsX9_forged RX9 := ⟨hx, hb, hml, hown, hts⟩
  have hS : va_S (AG G) s.heap s.heap [] := va_S.rf
  have inX9 : ∀ w ∈ u_ws RX9 TX9 21, w ∈ wsX9_forged := by decide +kernel
  have w1 := hts (.fieldLink RX9 43 "AlmanacOfTheYearGoneModel" "size" "[I") (by decide +kernel)
  have w2 := hts (.fieldLink RX9 85 "AlmanacOfTheYearGoneModel" "toldMany" "I") (by decide +kernel)
  have w3 := hts (.fieldLink RX9 46 "AlmanacOfTheYearGoneModel" "element" "[I") (by decide +kernel)
  have w4 := hts (.fieldLink RX9 22 "AlmanacOfTheYearGoneModel" "told" "[I") (by decide +kernel)
  have hl := lv_entry ([.ref (gA G 61), .int x1]) (n := 4) (Nat.le_of_ble_eq_true rfl)
  rw [lg_entry_eq]
  generalize (lg_sl ([.ref (gA G 61), .int x1]) ++ List.replicate (4 - (lg_sl ([.ref (gA G 61), .int x1])).length) Slot.unset).toArray = ls at hl ⊢
  have hl : lv_has ls 4 [(0, .ref (gA G 61)), (1, .int x1)] := hl
  unfold f_X9_forged at hF
  refine lv_aload_n hx hb dX9_forged_0 rfl (lv_at hl 0 rfl) ?_
  refine lv_iload_n hx hb dX9_forged_1 rfl (lv_at hl 1 rfl) ?_
  refine lv_iconst (v := -1) hx hb dX9_forged_2 (by decide) ?_
  obtain ⟨q1, h2, hF⟩ := ob_some hF
  refine k_Vv (As := [.int x1, .int (-1 : Int32)]) (rest := []) Z hK hP hS (t_X9_wrongRow l G hG x1 (-1 : Int32) σ _ h2) (cwV 2 hts gX9_forged_X9_wrongRow rfl rfl rfl (by decide +kernel) ⟨Nat.le_of_ble_eq_true rfl, Nat.le_of_ble_eq_true rfl⟩) (at_5 rfl) rfl rfl hl.1 rfl (Nat.le_of_ble_eq_true rfl) ⟨Nat.zero_le _, Nat.zero_le _⟩ dX9_forged_3 (fun H locs hP hS => ?_)
  refine lv_istore_n (lv' := [(2, .int q1), (0, .ref (gA G 61)), (1, .int x1)]) hx hb dX9_forged_6 rfl hl (by decide) rfl (fun ls hl => ?_)
  refine lv_iload_n hx hb dX9_forged_7 rfl (lv_at hl 0 rfl) ?_
  refine lv_if_eq (tgt := 13) hx hb dX9_forged_8 (by decide) (fun c3 => ?_) (fun c3 => ?_)
  · have hF := ite_t c3 hF
    refine lv_aload_n hx hb dX9_forged_13 rfl (lv_at hl 1 rfl) ?_
    obtain ⟨q4, h5, hF⟩ := ob_some hF
    refine k_V0 (As := []) (rest := []) Z hK hP hS (t_X9_prints l G hG σ _ h5) (cwV 0 hts gX9_forged_X9_prints rfl rfl rfl (by decide +kernel) ⟨Nat.le_of_ble_eq_true rfl, Nat.le_of_ble_eq_true rfl⟩) (at_5 rfl) rfl rfl hl.1 rfl (Nat.le_of_ble_eq_true rfl) ⟨Nat.zero_le _, Nat.zero_le _⟩ dX9_forged_14 (fun H locs hP hS => ?_)
    refine lv_iconst (v := 0) hx hb dX9_forged_17 (by decide) ?_
    have J19 : ∀ (fl : Nat) (v3 : Int32) (τ : St) (H : Heap) (locs : List Loc) (hP : Pw G τ H) (hS : va_S (AG G) s.heap H locs) (ls : Array Slot) (hl : lv_has ls 4 [(0, .ref (gA G 61)), (1, .int x1), (3, .int v3)]) (hF : f_X9_forged_19 x1 fl v3 τ = some o), W p l e (headSpec wsX9_forged ({ frames := 4, cells := 0, slots := 0, locals := 87 })).room s m ([.ref (gA G 61), .int x1] : List Value).toArray below meth c H locs 0 0 (MQ below (qR G (some (.int o.1)) o.2) ([.ref (gA G 61), .int x1] : List Value).toArray s 0 0 (AG G)) (F0 m 19 ls []) := by
      intro fl19
      induction fl19 with
      | zero => intro v3 τ H locs hP hS ls hl hF; cases hF
      | succ fl19 ih19 =>
        intro v3 τ H locs hP hS ls hl hF
        rw [f_X9_forged_19_s] at hF
        refine lv_iload_n hx hb dX9_forged_19 rfl (lv_at hl 2 rfl) ?_
        refine lv_aload_n hx hb dX9_forged_20 rfl (lv_at hl 0 rfl) ?_
        refine va_get (ci := 5) (C := RX9) (T := TX9) (N := 21) (v := .ref (gA G 73)) hx hb hts inX9 hown hK.1 hP 61 (at_5 rfl) rfl 18 (by decide) w1 (fun _ h9 => h9) rfl dX9_forged_21 ?_
        refine lv_iload_n hx hb dX9_forged_24 rfl (lv_at hl 1 rfl) ?_
        obtain ⟨b6, hF⟩ := ite_some hF
        refine va_iald hx hb hK.1 hP 73 0 (at_6 (rfl : kd 73 = 6) (rfl : ln 73 = 8)) rfl (inb_in b6) dX9_forged_25 ?_
        refine lv_icmp_ge (tgt := 65) hx hb dX9_forged_26 (by decide) (fun c7 => ?_) (fun c7 => ?_)
        · have hF := ite_t c7 hF
          refine lv_bipush (v := -4) hx hb dX9_forged_65 (by decide) ?_
          exact e_iS hx hb hr hP hS hlocks dX9_forged_67 hF
        · have hF := ite_f c7 hF
          refine lv_iload_n hx hb dX9_forged_29 rfl (lv_at hl 2 rfl) ?_
          refine lv_aload_n hx hb dX9_forged_30 rfl (lv_at hl 0 rfl) ?_
          refine va_get (ci := 5) (C := RX9) (T := TX9) (N := 21) (v := .int (τ 61 7)) hx hb hts inX9 hown hK.1 hP 61 (at_5 rfl) rfl 7 (by decide) w2 (fun _ h9 => h9) rfl dX9_forged_31 ?_
          refine lv_icmp_ge (tgt := 57) hx hb dX9_forged_34 (by decide) (fun c8 => ?_) (fun c8 => ?_)
          · have hF := ite_t c8 hF
            refine lv_iload_n hx hb dX9_forged_57 rfl (lv_at hl 2 rfl) ?_
            exact e_iS hx hb hr hP hS hlocks dX9_forged_58 hF
          · have hF := ite_f c8 hF
            refine lv_aload_n hx hb dX9_forged_37 rfl (lv_at hl 0 rfl) ?_
            refine va_get (ci := 5) (C := RX9) (T := TX9) (N := 21) (v := .ref (gA G 74)) hx hb hts inX9 hown hK.1 hP 61 (at_5 rfl) rfl 19 (by decide) w3 (fun _ h9 => h9) rfl dX9_forged_38 ?_
            refine lv_bipush (v := 100) hx hb dX9_forged_41 (by decide) ?_
            refine lv_iload_n hx hb dX9_forged_43 rfl (lv_at hl 1 rfl) ?_
            refine lv_imul hx hb dX9_forged_44 ?_
            refine lv_iload_n hx hb dX9_forged_45 rfl (lv_at hl 2 rfl) ?_
            refine lv_iadd hx hb dX9_forged_46 ?_
            obtain ⟨b9, hF⟩ := ite_some hF
            refine va_iald hx hb hK.1 hP 74 0 (at_6 (rfl : kd 74 = 6) (rfl : ln 74 = 800)) rfl (inb_in b9) dX9_forged_47 ?_
            refine lv_aload_n hx hb dX9_forged_48 rfl (lv_at hl 0 rfl) ?_
            refine va_get (ci := 5) (C := RX9) (T := TX9) (N := 21) (v := .ref (gA G 66)) hx hb hts inX9 hown hK.1 hP 61 (at_5 rfl) rfl 5 (by decide) w4 (fun _ h9 => h9) rfl dX9_forged_49 ?_
            refine lv_iload_n hx hb dX9_forged_52 rfl (lv_at hl 2 rfl) ?_
            obtain ⟨b10, hF⟩ := ite_some hF
            refine va_iald hx hb hK.1 hP 66 0 (at_6 (rfl : kd 66 = 6) (rfl : ln 66 = 10)) rfl (inb_in b10) dX9_forged_53 ?_
            refine lv_icmp_eq (tgt := 59) hx hb dX9_forged_54 (by decide) (fun c11 => ?_) (fun c11 => ?_)
            · have hF := ite_t c11 hF
              refine lv_iinc (v := (v3 + (1 : Int32))) (lv' := [(3, .int (v3 + (1 : Int32))), (0, .ref (gA G 61)), (1, .int x1)]) hx hb dX9_forged_59 hl (k := 2) rfl rfl (by decide) rfl (fun ls hl => ?_)
              refine lv_goto (tgt := 19) hx hb dX9_forged_62 (by decide) ?_
              exact ih19 (v3 + (1 : Int32)) τ _ _ hP hS ls (lv_sub hl [1, 2, 0] rfl) hF
            · have hF := ite_f c11 hF
              refine lv_iload_n hx hb dX9_forged_57 rfl (lv_at hl 2 rfl) ?_
              exact e_iS hx hb hr hP hS hlocks dX9_forged_58 hF
    refine lv_istore_n (lv' := [(3, .int (0 : Int32)), (2, .int q1), (0, .ref (gA G 61)), (1, .int x1)]) hx hb dX9_forged_18 rfl hl (by decide) rfl (fun ls hl => ?_)
    exact J19 fu (0 : Int32) q4 _ _ hP hS ls (lv_sub hl [2, 3, 0] rfl) hF
  · have hF := ite_f c3 hF
    refine lv_iload_n hx hb dX9_forged_11 rfl (lv_at hl 0 rfl) ?_
    exact e_iS hx hb hr hP hS hlocks dX9_forged_12 hF
def f_X9_judge_115 (x1 : Int32) (x2 : Int32) (rec36 : Int32 → St → Option (Int32 × St)) (v4 : Int32) (τ : St) : Option (Int32 × St) := (rec36 (v4 + (1 : Int32)) τ)
theorem f_X9_judge_115_e {x1 : Int32} {x2 : Int32} {rec36 : Int32 → St → Option (Int32 × St)} {v4 : Int32} {τ : St} : f_X9_judge_115 x1 x2 rec36 v4 τ = (rec36 (v4 + (1 : Int32)) τ) := rfl
def f_X9_judge_36 (x1 : Int32) (x2 : Int32) : Nat → (Int32 → St → Option (Int32 × St))
  | 0 => fun _ _ => none
  | fl + 1 => fun v4 τ => (if inb x1 8 then if (τ 73 x1.toNatClampNeg) ≤ v4 then (some ((-4 : Int32), τ)) else (if inb (((100 : Int32) * x1) + v4) 800 then if inb x1 8 then if (τ 74 (((100 : Int32) * x1) + v4).toNatClampNeg) = (f_X9_leastOf ((up τ 63 1 (f_X9_least (365 : Int32) ((τ 62 1) + v4))) 72 x1.toNatClampNeg)) then f_X9_judge_115 x1 x2 (f_X9_judge_36 x1 x2 fl) v4 (up τ 63 1 (f_X9_least (365 : Int32) ((τ 62 1) + v4))) else (ob (f_X9_knowsIn 63 x2 (up τ 63 1 (f_X9_least (365 : Int32) ((τ 62 1) + v4)))) (fun q12 => ob (f_X9_bits q12 (up τ 63 1 (f_X9_least (365 : Int32) ((τ 62 1) + v4)))) (fun q14 => if (τ 74 (((100 : Int32) * x1) + v4).toNatClampNeg) = q14 then f_X9_judge_115 x1 x2 (f_X9_judge_36 x1 x2 fl) v4 (up τ 63 1 (f_X9_least (365 : Int32) ((τ 62 1) + v4))) else (some (v4, up τ 63 1 (f_X9_least (365 : Int32) ((τ 62 1) + v4))))))) else none else none) else none)
theorem f_X9_judge_36_s {x1 : Int32} {x2 : Int32} (fl : Nat) {v4 : Int32} {τ : St} : f_X9_judge_36 x1 x2 (fl + 1) v4 τ = (if inb x1 8 then if (τ 73 x1.toNatClampNeg) ≤ v4 then (some ((-4 : Int32), τ)) else (if inb (((100 : Int32) * x1) + v4) 800 then if inb x1 8 then if (τ 74 (((100 : Int32) * x1) + v4).toNatClampNeg) = (f_X9_leastOf ((up τ 63 1 (f_X9_least (365 : Int32) ((τ 62 1) + v4))) 72 x1.toNatClampNeg)) then f_X9_judge_115 x1 x2 (f_X9_judge_36 x1 x2 fl) v4 (up τ 63 1 (f_X9_least (365 : Int32) ((τ 62 1) + v4))) else (ob (f_X9_knowsIn 63 x2 (up τ 63 1 (f_X9_least (365 : Int32) ((τ 62 1) + v4)))) (fun q12 => ob (f_X9_bits q12 (up τ 63 1 (f_X9_least (365 : Int32) ((τ 62 1) + v4)))) (fun q14 => if (τ 74 (((100 : Int32) * x1) + v4).toNatClampNeg) = q14 then f_X9_judge_115 x1 x2 (f_X9_judge_36 x1 x2 fl) v4 (up τ 63 1 (f_X9_least (365 : Int32) ((τ 62 1) + v4))) else (some (v4, up τ 63 1 (f_X9_least (365 : Int32) ((τ 62 1) + v4))))))) else none else none) else none) := rfl
def f_X9_judge (x1 : Int32) (x2 : Int32) (σ : St) : Option (Int32 × St) := (if (f_X9_isPerson x2) = true then (ob (f_X9_wrongRow x1 (-1 : Int32) σ) (fun q2 => if q2 = 0 then (ob (f_X9_copies 62 63 σ) (fun q5 => f_X9_judge_36 x1 x2 fu (0 : Int32) q5)) else (some (q2, σ)))) else (some ((-1 : Int32), σ)))
set_option maxRecDepth 100000 in
set_option maxHeartbeats 4000000 in
theorem t_X9_judge (l : Launch) (G : GT) (hG : Dw G) (x1 : Int32) (x2 : Int32) (σ : St) (o : Int32 × St) (hF : f_X9_judge x1 x2 σ = some o) : Ct l G yX9_judge wsX9_judge 4 90 [.ref (gA G 61), .int x1, .int x2] σ (some (.int o.1)) o.2 := by
  refine Met.ofW (cc := cX9_judge) (maxL := 6) (ret := (some .int)) (by decide) rfl ?_
  intro p e s m args below meth c s₁ B hml hv
  obtain ⟨rfl, hP, hK⟩ := hv
  have hx := B.exec
  have hb := B.bytes
  have hr := B.returns
  have hts := atoms_spec (ws := wsX9_judge) B.pre
  have hown : s.vm.findClass RX9 = some m.cls := findClass_of_methodNamed B.named
  have hlocks := B.notSynchronized
  have Z : CallFix p m c cX9_judge 6 s _ wsX9_judge RX9 := ⟨hx, hb, hml, hown, hts⟩
  have hS : va_S (AG G) s.heap s.heap [] := va_S.rf
  have inX9 : ∀ w ∈ u_ws RX9 TX9 21, w ∈ wsX9_judge := by decide +kernel
  have w1 := hts (.fieldLink RX9 9 "AlmanacOfTheYearGoneModel" "s" "[I") (by decide +kernel)
  have w2 := hts (.fieldLink RX9 13 "AlmanacOfTheYearGoneModel" "m" "[I") (by decide +kernel)
  have w3 := hts (.fieldLink RX9 43 "AlmanacOfTheYearGoneModel" "size" "[I") (by decide +kernel)
  have w4 := hts (.fieldLink RX9 46 "AlmanacOfTheYearGoneModel" "element" "[I") (by decide +kernel)
  have w5 := hts (.fieldLink RX9 40 "AlmanacOfTheYearGoneModel" "sort" "[I") (by decide +kernel)
  have hl := lv_entry ([.ref (gA G 61), .int x1, .int x2]) (n := 6) (Nat.le_of_ble_eq_true rfl)
  rw [lg_entry_eq]
  generalize (lg_sl ([.ref (gA G 61), .int x1, .int x2]) ++ List.replicate (6 - (lg_sl ([.ref (gA G 61), .int x1, .int x2])).length) Slot.unset).toArray = ls at hl ⊢
  have hl : lv_has ls 6 [(0, .ref (gA G 61)), (1, .int x1), (2, .int x2)] := hl
  unfold f_X9_judge at hF
  refine lv_iload_n hx hb dX9_judge_0 rfl (lv_at hl 2 rfl) ?_
  refine k_Sv (As := [.int x2]) (rest := []) Z hK hP hS (t_X9_isPerson l G hG x2 σ) (va_cwS 1 hts gX9_judge_X9_isPerson rfl rfl rfl (by decide +kernel) ⟨Nat.le_of_ble_eq_true rfl, Nat.le_of_ble_eq_true rfl⟩) rfl hl.1 rfl (Nat.le_of_ble_eq_true rfl) ⟨Nat.zero_le _, Nat.zero_le _⟩ dX9_judge_1 (fun H locs hP hS => ?_)
  refine lv_if_ne (tgt := 9) hx hb dX9_judge_4 (by decide) (fun c1 => ?_) (fun c1 => ?_)
  · have hF := ite_t (b2i_n0 c1) hF
    refine lv_aload_n hx hb dX9_judge_9 rfl (lv_at hl 0 rfl) ?_
    refine lv_iload_n hx hb dX9_judge_10 rfl (lv_at hl 1 rfl) ?_
    refine lv_iconst (v := -1) hx hb dX9_judge_11 (by decide) ?_
    obtain ⟨q2, h3, hF⟩ := ob_some hF
    refine k_Vv (As := [.int x1, .int (-1 : Int32)]) (rest := []) Z hK hP hS (t_X9_wrongRow l G hG x1 (-1 : Int32) σ _ h3) (cwV 2 hts gX9_judge_X9_wrongRow rfl rfl rfl (by decide +kernel) ⟨Nat.le_of_ble_eq_true rfl, Nat.le_of_ble_eq_true rfl⟩) (at_5 rfl) rfl rfl hl.1 rfl (Nat.le_of_ble_eq_true rfl) ⟨Nat.zero_le _, Nat.zero_le _⟩ dX9_judge_12 (fun H locs hP hS => ?_)
    refine lv_istore_n (lv' := [(3, .int q2), (0, .ref (gA G 61)), (1, .int x1), (2, .int x2)]) hx hb dX9_judge_15 rfl hl (by decide) rfl (fun ls hl => ?_)
    refine lv_iload_n hx hb dX9_judge_16 rfl (lv_at hl 0 rfl) ?_
    refine lv_if_eq (tgt := 22) hx hb dX9_judge_17 (by decide) (fun c4 => ?_) (fun c4 => ?_)
    · have hF := ite_t c4 hF
      refine lv_aload_n hx hb dX9_judge_22 rfl (lv_at hl 1 rfl) ?_
      refine va_get (ci := 5) (C := RX9) (T := TX9) (N := 21) (v := .ref (gA G 62)) hx hb hts inX9 hown hK.1 hP 61 (at_5 rfl) rfl 0 (by decide) w1 (fun _ h9 => h9) rfl dX9_judge_23 ?_
      refine lv_aload_n hx hb dX9_judge_26 rfl (lv_at hl 1 rfl) ?_
      refine va_get (ci := 5) (C := RX9) (T := TX9) (N := 21) (v := .ref (gA G 63)) hx hb hts inX9 hown hK.1 hP 61 (at_5 rfl) rfl 1 (by decide) w2 (fun _ h9 => h9) rfl dX9_judge_27 ?_
      obtain ⟨q5, h6, hF⟩ := ob_some hF
      refine k_S0 (As := [.ref (gA G 62), .ref (gA G 63)]) (rest := []) Z hK hP hS (t_X9_copies l G hG 62 63 ⟨(rfl : kd 62 = 6), (rfl : ln 62 = 52)⟩ ⟨(rfl : kd 63 = 6), (rfl : ln 63 = 52)⟩ σ _ h6) (va_cwS 2 hts gX9_judge_X9_copies rfl rfl rfl (by decide +kernel) ⟨Nat.le_of_ble_eq_true rfl, Nat.le_of_ble_eq_true rfl⟩) rfl hl.1 rfl (Nat.le_of_ble_eq_true rfl) ⟨Nat.zero_le _, Nat.zero_le _⟩ dX9_judge_30 (fun H locs hP hS => ?_)
      refine lv_iconst (v := 0) hx hb dX9_judge_33 (by decide) ?_
      have J36 : ∀ (fl : Nat) (v4 : Int32) (τ : St) (H : Heap) (locs : List Loc) (hP : Pw G τ H) (hS : va_S (AG G) s.heap H locs) (ls : Array Slot) (hl : lv_has ls 6 [(0, .ref (gA G 61)), (1, .int x1), (2, .int x2), (4, .int v4)]) (hF : f_X9_judge_36 x1 x2 fl v4 τ = some o), W p l e (headSpec wsX9_judge ({ frames := 4, cells := 0, slots := 0, locals := 90 })).room s m ([.ref (gA G 61), .int x1, .int x2] : List Value).toArray below meth c H locs 0 0 (MQ below (qR G (some (.int o.1)) o.2) ([.ref (gA G 61), .int x1, .int x2] : List Value).toArray s 0 0 (AG G)) (F0 m 36 ls []) := by
        intro fl36
        induction fl36 with
        | zero => intro v4 τ H locs hP hS ls hl hF; cases hF
        | succ fl36 ih36 =>
          intro v4 τ H locs hP hS ls hl hF
          rw [f_X9_judge_36_s] at hF
          refine lv_iload hx hb dX9_judge_36 (lv_at hl 3 rfl) ?_
          refine lv_aload_n hx hb dX9_judge_38 rfl (lv_at hl 0 rfl) ?_
          refine va_get (ci := 5) (C := RX9) (T := TX9) (N := 21) (v := .ref (gA G 73)) hx hb hts inX9 hown hK.1 hP 61 (at_5 rfl) rfl 18 (by decide) w3 (fun _ h9 => h9) rfl dX9_judge_39 ?_
          refine lv_iload_n hx hb dX9_judge_42 rfl (lv_at hl 1 rfl) ?_
          obtain ⟨b7, hF⟩ := ite_some hF
          refine va_iald hx hb hK.1 hP 73 0 (at_6 (rfl : kd 73 = 6) (rfl : ln 73 = 8)) rfl (inb_in b7) dX9_judge_43 ?_
          refine lv_icmp_ge (tgt := 121) hx hb dX9_judge_44 (by decide) (fun c8 => ?_) (fun c8 => ?_)
          · have hF := ite_t c8 hF
            refine lv_bipush (v := -4) hx hb dX9_judge_121 (by decide) ?_
            exact e_iS hx hb hr hP hS hlocks dX9_judge_123 hF
          · have hF := ite_f c8 hF
            refine lv_aload_n hx hb dX9_judge_47 rfl (lv_at hl 0 rfl) ?_
            refine va_get (ci := 5) (C := RX9) (T := TX9) (N := 21) (v := .ref (gA G 74)) hx hb hts inX9 hown hK.1 hP 61 (at_5 rfl) rfl 19 (by decide) w4 (fun _ h9 => h9) rfl dX9_judge_48 ?_
            refine lv_bipush (v := 100) hx hb dX9_judge_51 (by decide) ?_
            refine lv_iload_n hx hb dX9_judge_53 rfl (lv_at hl 1 rfl) ?_
            refine lv_imul hx hb dX9_judge_54 ?_
            refine lv_iload hx hb dX9_judge_55 (lv_at hl 3 rfl) ?_
            refine lv_iadd hx hb dX9_judge_57 ?_
            obtain ⟨b9, hF⟩ := ite_some hF
            refine va_iald hx hb hK.1 hP 74 0 (at_6 (rfl : kd 74 = 6) (rfl : ln 74 = 800)) rfl (inb_in b9) dX9_judge_58 ?_
            refine lv_istore (lv' := [(5, .int (τ 74 (((100 : Int32) * x1) + v4).toNatClampNeg)), (0, .ref (gA G 61)), (1, .int x1), (2, .int x2), (4, .int v4)]) hx hb dX9_judge_59 hl (by decide) rfl (fun ls hl => ?_)
            refine lv_aload_n hx hb dX9_judge_61 rfl (lv_at hl 1 rfl) ?_
            refine va_get (ci := 5) (C := RX9) (T := TX9) (N := 21) (v := .ref (gA G 63)) hx hb hts inX9 hown hK.1 hP 61 (at_5 rfl) rfl 1 (by decide) w2 (fun _ h9 => h9) rfl dX9_judge_62 ?_
            refine lv_iconst (v := 1) hx hb dX9_judge_65 (by decide) ?_
            refine lv_sipush (v := 365) hx hb dX9_judge_66 (by decide) ?_
            refine lv_aload_n hx hb dX9_judge_69 rfl (lv_at hl 1 rfl) ?_
            refine va_get (ci := 5) (C := RX9) (T := TX9) (N := 21) (v := .ref (gA G 62)) hx hb hts inX9 hown hK.1 hP 61 (at_5 rfl) rfl 0 (by decide) w1 (fun _ h9 => h9) rfl dX9_judge_70 ?_
            refine lv_iconst (v := 1) hx hb dX9_judge_73 (by decide) ?_
            refine va_iald hx hb hK.1 hP 62 0 (at_6 (rfl : kd 62 = 6) (rfl : ln 62 = 52)) rfl (inb_in (by decide)) dX9_judge_74 ?_
            refine W.eq (g2 := F0 m 75 ls ([.int (τ 62 1), .int (365 : Int32), .int (1 : Int32), .ref (gA G 63)])) rfl ?_
            refine lv_iload hx hb dX9_judge_75 (lv_at hl 4 rfl) ?_
            refine lv_iadd hx hb dX9_judge_77 ?_
            refine k_Sv (As := [.int (365 : Int32), .int ((τ 62 1) + v4)]) (rest := [.int (1 : Int32), .ref (gA G 63)]) Z hK hP hS (t_X9_least l G hG (365 : Int32) ((τ 62 1) + v4) τ) (va_cwS 2 hts gX9_judge_X9_least rfl rfl rfl (by decide +kernel) ⟨Nat.le_of_ble_eq_true rfl, Nat.le_of_ble_eq_true rfl⟩) rfl hl.1 rfl (Nat.le_of_ble_eq_true rfl) ⟨Nat.zero_le _, Nat.zero_le _⟩ dX9_judge_78 (fun H locs hP hS => ?_)
            refine va_iast hx hb hK.1 hP (Dw.D hG) hS 63 0 (at_6 (rfl : kd 63 = 6) (rfl : ln 63 = 52)) rfl (inb_in (by decide)) dX9_judge_81 (fun H locs hP _ hS => ?_)
            have hP : Pw G (up τ 63 1 (f_X9_least (365 : Int32) ((τ 62 1) + v4))) H := Pw.of hP (set_6 (rfl : kd 63 = 6) (rfl : ln 63 = 52))
            refine lv_iload hx hb dX9_judge_82 (lv_at hl 0 rfl) ?_
            refine lv_aload_n hx hb dX9_judge_84 rfl (lv_at hl 1 rfl) ?_
            refine va_get (ci := 5) (C := RX9) (T := TX9) (N := 21) (v := .ref (gA G 72)) hx hb hts inX9 hown hK.1 hP 61 (at_5 rfl) rfl 17 (by decide) w5 (fun _ h9 => h9) rfl dX9_judge_85 ?_
            refine lv_iload_n hx hb dX9_judge_88 rfl (lv_at hl 2 rfl) ?_
            obtain ⟨b10, hF⟩ := ite_some hF
            refine va_iald hx hb hK.1 hP 72 0 (at_6 (rfl : kd 72 = 6) (rfl : ln 72 = 8)) rfl (inb_in b10) dX9_judge_89 ?_
            refine k_Sv (As := [.int ((up τ 63 1 (f_X9_least (365 : Int32) ((τ 62 1) + v4))) 72 x1.toNatClampNeg)]) (rest := [.int (τ 74 (((100 : Int32) * x1) + v4).toNatClampNeg)]) Z hK hP hS (t_X9_leastOf l G hG ((up τ 63 1 (f_X9_least (365 : Int32) ((τ 62 1) + v4))) 72 x1.toNatClampNeg) (up τ 63 1 (f_X9_least (365 : Int32) ((τ 62 1) + v4)))) (va_cwS 1 hts gX9_judge_X9_leastOf rfl rfl rfl (by decide +kernel) ⟨Nat.le_of_ble_eq_true rfl, Nat.le_of_ble_eq_true rfl⟩) rfl hl.1 rfl (Nat.le_of_ble_eq_true rfl) ⟨Nat.zero_le _, Nat.zero_le _⟩ dX9_judge_90 (fun H locs hP hS => ?_)
            have J115 : ∀ (v4 : Int32) (τ : St) (H : Heap) (locs : List Loc) (hP : Pw G τ H) (hS : va_S (AG G) s.heap H locs) (ls : Array Slot) (hl : lv_has ls 6 [(0, .ref (gA G 61)), (1, .int x1), (2, .int x2), (4, .int v4)]) (hF : f_X9_judge_115 x1 x2 (f_X9_judge_36 x1 x2 fl36) v4 τ = some o), W p l e (headSpec wsX9_judge ({ frames := 4, cells := 0, slots := 0, locals := 90 })).room s m ([.ref (gA G 61), .int x1, .int x2] : List Value).toArray below meth c H locs 0 0 (MQ below (qR G (some (.int o.1)) o.2) ([.ref (gA G 61), .int x1, .int x2] : List Value).toArray s 0 0 (AG G)) (F0 m 115 ls []) := by
              intro v4 τ H locs hP hS ls hl hF
              rw [f_X9_judge_115_e] at hF
              refine lv_iinc (v := (v4 + (1 : Int32))) (lv' := [(4, .int (v4 + (1 : Int32))), (0, .ref (gA G 61)), (1, .int x1), (2, .int x2)]) hx hb dX9_judge_115 hl (k := 3) rfl rfl (by decide) rfl (fun ls hl => ?_)
              refine lv_goto (tgt := 36) hx hb dX9_judge_118 (by decide) ?_
              exact ih36 (v4 + (1 : Int32)) τ _ _ hP hS ls (lv_sub hl [1, 2, 3, 0] rfl) hF
            refine lv_icmp_eq (tgt := 115) hx hb dX9_judge_93 (by decide) (fun c11 => ?_) (fun c11 => ?_)
            · have hF := ite_t c11 hF
              exact J115 v4 (up τ 63 1 (f_X9_least (365 : Int32) ((τ 62 1) + v4))) _ _ hP hS ls (lv_sub hl [1, 2, 3, 4] rfl) hF
            · have hF := ite_f c11 hF
              refine lv_iload hx hb dX9_judge_96 (lv_at hl 0 rfl) ?_
              refine lv_aload_n hx hb dX9_judge_98 rfl (lv_at hl 1 rfl) ?_
              refine va_get (ci := 5) (C := RX9) (T := TX9) (N := 21) (v := .ref (gA G 63)) hx hb hts inX9 hown hK.1 hP 61 (at_5 rfl) rfl 1 (by decide) w2 (fun _ h9 => h9) rfl dX9_judge_99 ?_
              refine lv_iload_n hx hb dX9_judge_102 rfl (lv_at hl 3 rfl) ?_
              obtain ⟨q12, h13, hF⟩ := ob_some hF
              refine k_Sv (As := [.ref (gA G 63), .int x2]) (rest := [.int (τ 74 (((100 : Int32) * x1) + v4).toNatClampNeg)]) Z hK hP hS (t_X9_knowsIn l G hG 63 x2 ⟨(rfl : kd 63 = 6), (rfl : ln 63 = 52)⟩ (up τ 63 1 (f_X9_least (365 : Int32) ((τ 62 1) + v4))) _ h13) (va_cwS 2 hts gX9_judge_X9_knowsIn rfl rfl rfl (by decide +kernel) ⟨Nat.le_of_ble_eq_true rfl, Nat.le_of_ble_eq_true rfl⟩) rfl hl.1 rfl (Nat.le_of_ble_eq_true rfl) ⟨Nat.zero_le _, Nat.zero_le _⟩ dX9_judge_103 (fun H locs hP hS => ?_)
              obtain ⟨q14, h15, hF⟩ := ob_some hF
              refine k_Sv (As := [.int q12]) (rest := [.int (τ 74 (((100 : Int32) * x1) + v4).toNatClampNeg)]) Z hK hP hS (t_X9_bits l G hG q12 (up τ 63 1 (f_X9_least (365 : Int32) ((τ 62 1) + v4))) _ h15) (va_cwS 1 hts gX9_judge_X9_bits rfl rfl rfl (by decide +kernel) ⟨Nat.le_of_ble_eq_true rfl, Nat.le_of_ble_eq_true rfl⟩) rfl hl.1 rfl (Nat.le_of_ble_eq_true rfl) ⟨Nat.zero_le _, Nat.zero_le _⟩ dX9_judge_106 (fun H locs hP hS => ?_)
              refine lv_icmp_eq (tgt := 115) hx hb dX9_judge_109 (by decide) (fun c16 => ?_) (fun c16 => ?_)
              · have hF := ite_t c16 hF
                exact J115 v4 (up τ 63 1 (f_X9_least (365 : Int32) ((τ 62 1) + v4))) _ _ hP hS ls (lv_sub hl [1, 2, 3, 4] rfl) hF
              · have hF := ite_f c16 hF
                refine lv_iload hx hb dX9_judge_112 (lv_at hl 4 rfl) ?_
                exact e_iS hx hb hr hP hS hlocks dX9_judge_114 hF
      refine lv_istore (lv' := [(4, .int (0 : Int32)), (3, .int q2), (0, .ref (gA G 61)), (1, .int x1), (2, .int x2)]) hx hb dX9_judge_34 hl (by decide) rfl (fun ls hl => ?_)
      exact J36 fu (0 : Int32) q5 _ _ hP hS ls (lv_sub hl [2, 3, 4, 0] rfl) hF
    · have hF := ite_f c4 hF
      refine lv_iload_n hx hb dX9_judge_20 rfl (lv_at hl 0 rfl) ?_
      exact e_iS hx hb hr hP hS hlocks dX9_judge_21 hF
  · have hF := ite_f (b2i_e0 c1) hF
    refine lv_iconst (v := -1) hx hb dX9_judge_7 (by decide) ?_
    exact e_iS hx hb hr hP hS hlocks dX9_judge_8 hF
def f_X9_drawn (x1 : Int32) (σ : St) : Option (Int32 × St) := (if ¬ x1 = 0 then some (((((up σ 61 13 (((σ 61 13) * (1103515245 : Int32)) + (12345 : Int32))) 61 13) &&& (2147483647 : Int32)) / (65536 : Int32)) - ((((up σ 61 13 (((σ 61 13) * (1103515245 : Int32)) + (12345 : Int32))) 61 13) &&& (2147483647 : Int32)) / (65536 : Int32)) / x1 * x1, up σ 61 13 (((σ 61 13) * (1103515245 : Int32)) + (12345 : Int32))) else none)
set_option maxRecDepth 100000 in
set_option maxHeartbeats 4000000 in
theorem t_X9_drawn (l : Launch) (G : GT) (hG : Dw G) (x1 : Int32) (σ : St) (o : Int32 × St) (hF : f_X9_drawn x1 σ = some o) : Ct l G yX9_drawn wsX9_drawn 0 0 [.ref (gA G 61), .int x1] σ (some (.int o.1)) o.2 := by
  refine Met.ofW (cc := cX9_drawn) (maxL := 2) (ret := (some .int)) (by decide) rfl ?_
  intro p e s m args below meth c s₁ B hml hv
  obtain ⟨rfl, hP, hK⟩ := hv
  have hx := B.exec
  have hb := B.bytes
  have hr := B.returns
  have hts := atoms_spec (ws := wsX9_drawn) B.pre
  have hown : s.vm.findClass RX9 = some m.cls := findClass_of_methodNamed B.named
  have hlocks := B.notSynchronized
  have Z : CallFix p m c cX9_drawn 2 s _ wsX9_drawn RX9 := ⟨hx, hb, hml, hown, hts⟩
  have hS : va_S (AG G) s.heap s.heap [] := va_S.rf
  have inX9 : ∀ w ∈ u_ws RX9 TX9 21, w ∈ wsX9_drawn := by decide +kernel
  have w1 := hts (.fieldLink RX9 207 "AlmanacOfTheYearGoneModel" "seed" "I") (by decide +kernel)
  have w2 := hts (.constant RX9 210 (1103515245)) (by decide +kernel)
  have w3 := hts (.constant RX9 211 (2147483647)) (by decide +kernel)
  have w4 := hts (.constant RX9 212 (65536)) (by decide +kernel)
  have hl := lv_entry ([.ref (gA G 61), .int x1]) (n := 2) (Nat.le_of_ble_eq_true rfl)
  rw [lg_entry_eq]
  generalize (lg_sl ([.ref (gA G 61), .int x1]) ++ List.replicate (2 - (lg_sl ([.ref (gA G 61), .int x1])).length) Slot.unset).toArray = ls at hl ⊢
  have hl : lv_has ls 2 [(0, .ref (gA G 61)), (1, .int x1)] := hl
  unfold f_X9_drawn at hF
  refine lv_aload_n hx hb dX9_drawn_0 rfl (lv_at hl 0 rfl) ?_
  refine lv_aload_n hx hb dX9_drawn_1 rfl (lv_at hl 0 rfl) ?_
  refine va_get (ci := 5) (C := RX9) (T := TX9) (N := 21) (v := .int (σ 61 13)) hx hb hts inX9 hown hK.1 hP 61 (at_5 rfl) rfl 13 (by decide) w1 (fun _ h9 => h9) rfl dX9_drawn_2 ?_
  refine lv_ldc hx hb hown w2 dX9_drawn_5 ?_
  refine lv_imul hx hb dX9_drawn_7 ?_
  refine lv_sipush (v := 12345) hx hb dX9_drawn_8 (by decide) ?_
  refine lv_iadd hx hb dX9_drawn_11 ?_
  refine va_put (ci := 5) (C := RX9) (T := TX9) (N := 21) (v := .int (((σ 61 13) * (1103515245 : Int32)) + (12345 : Int32))) (ty := .int) hx hb hts inX9 tyX9 tyX9_ok nmX9 hown hK.1 hP (Dw.D hG) hS 61 (at_5 rfl) rfl 13 (by decide) w1 (fun _ h9 => h9) rfl (by decide +kernel) rfl rfl (Nat.le_of_ble_eq_true rfl) dX9_drawn_12 (fun H locs hP _ hS => ?_)
  have hP := Pw.of hP (set_5_13 rfl)
  refine lv_aload_n hx hb dX9_drawn_15 rfl (lv_at hl 0 rfl) ?_
  refine va_get (ci := 5) (C := RX9) (T := TX9) (N := 21) (v := .int ((up σ 61 13 (((σ 61 13) * (1103515245 : Int32)) + (12345 : Int32))) 61 13)) hx hb hts inX9 hown hK.1 hP 61 (at_5 rfl) rfl 13 (by decide) w1 (fun _ h9 => h9) rfl dX9_drawn_16 ?_
  refine lv_ldc hx hb hown w3 dX9_drawn_19 ?_
  refine lv_iand hx hb dX9_drawn_21 ?_
  refine lv_ldc hx hb hown w4 dX9_drawn_22 ?_
  refine lv_idiv hx hb dX9_drawn_24 (by decide) ?_
  refine lv_iload_n hx hb dX9_drawn_25 rfl (lv_at hl 1 rfl) ?_
  obtain ⟨b1, hF⟩ := ite_some hF
  refine lv_irem hx hb dX9_drawn_26 b1 ?_
  exact e_iS hx hb hr hP hS hlocks dX9_drawn_27 hF
def f_X9_years_139 (x1 : Int32) (x2 : Int32) (x3 : Int32) (rec35 : Int32 → Int32 → Int32 → St → Option (Int32 × St)) (rec60 : Int32 → Int32 → Int32 → Int32 → St → Option (Int32 × St)) (v5 : Int32) (v6 : Int32) (v7 : Int32) (z0 : Int32) (z1 : Int32) (τ : St) : Option (Int32 × St) := (ob (f_X9_sizeOf 63 v7 τ) (fun q20 => rec60 (z0 + z1) (v5 + q20) v6 (v7 + (1 : Int32)) τ))
theorem f_X9_years_139_e {x1 : Int32} {x2 : Int32} {x3 : Int32} {rec35 : Int32 → Int32 → Int32 → St → Option (Int32 × St)} {rec60 : Int32 → Int32 → Int32 → Int32 → St → Option (Int32 × St)} {v5 : Int32} {v6 : Int32} {v7 : Int32} {z0 : Int32} {z1 : Int32} {τ : St} : f_X9_years_139 x1 x2 x3 rec35 rec60 v5 v6 v7 z0 z1 τ = (ob (f_X9_sizeOf 63 v7 τ) (fun q20 => rec60 (z0 + z1) (v5 + q20) v6 (v7 + (1 : Int32)) τ)) := rfl
def f_X9_years_60 (x1 : Int32) (x2 : Int32) (x3 : Int32) (rec35 : Int32 → Int32 → Int32 → St → Option (Int32 × St)) : Nat → (Int32 → Int32 → Int32 → Int32 → St → Option (Int32 × St))
  | 0 => fun _ _ _ _ _ => none
  | fl + 1 => fun v4 v5 v6 v7 τ => (if (10 : Int32) ≤ v7 then (rec35 v4 v5 (v6 + (1 : Int32)) τ) else (ob (f_X9_drawn (8 : Int32) τ) (fun q6 => ob (f_X9_drawn (10 : Int32) q6.2) (fun q8 => ob (f_X9_drawn (365 : Int32) q8.2) (fun q10 => ob (f_X9_drawn (5 : Int32) q10.2) (fun q12 => ob (f_X9_drawn (32 : Int32) q12.2) (fun q14 => ob (f_X9_adds 63 q6.1 q8.1 q10.1 q12.1 q14.1 q14.2) (fun q16 => ob (f_X9_whoHas 63 v7 q16) (fun q18 => if q18 = 0 then (f_X9_years_139 x1 x2 x3 rec35 (f_X9_years_60 x1 x2 x3 rec35 fl) v5 v6 v7 v4 (1 : Int32) q16) else (f_X9_years_139 x1 x2 x3 rec35 (f_X9_years_60 x1 x2 x3 rec35 fl) v5 v6 v7 v4 (0 : Int32) q16))))))))))
theorem f_X9_years_60_s {x1 : Int32} {x2 : Int32} {x3 : Int32} {rec35 : Int32 → Int32 → Int32 → St → Option (Int32 × St)} (fl : Nat) {v4 : Int32} {v5 : Int32} {v6 : Int32} {v7 : Int32} {τ : St} : f_X9_years_60 x1 x2 x3 rec35 (fl + 1) v4 v5 v6 v7 τ = (if (10 : Int32) ≤ v7 then (rec35 v4 v5 (v6 + (1 : Int32)) τ) else (ob (f_X9_drawn (8 : Int32) τ) (fun q6 => ob (f_X9_drawn (10 : Int32) q6.2) (fun q8 => ob (f_X9_drawn (365 : Int32) q8.2) (fun q10 => ob (f_X9_drawn (5 : Int32) q10.2) (fun q12 => ob (f_X9_drawn (32 : Int32) q12.2) (fun q14 => ob (f_X9_adds 63 q6.1 q8.1 q10.1 q12.1 q14.1 q14.2) (fun q16 => ob (f_X9_whoHas 63 v7 q16) (fun q18 => if q18 = 0 then (f_X9_years_139 x1 x2 x3 rec35 (f_X9_years_60 x1 x2 x3 rec35 fl) v5 v6 v7 v4 (1 : Int32) q16) else (f_X9_years_139 x1 x2 x3 rec35 (f_X9_years_60 x1 x2 x3 rec35 fl) v5 v6 v7 v4 (0 : Int32) q16)))))))))) := rfl
def f_X9_years_35 (x1 : Int32) (x2 : Int32) (x3 : Int32) : Nat → (Int32 → Int32 → Int32 → St → Option (Int32 × St))
  | 0 => fun _ _ _ _ => none
  | fl + 1 => fun v4 v5 v6 τ => (if x1 ≤ v6 then (if x3 = 0 then (some (v4, τ)) else (some (v5, τ))) else (f_X9_years_60 x1 x2 x3 (f_X9_years_35 x1 x2 x3 fl) fu v4 v5 v6 (0 : Int32) (up (up τ 63 0 (0 : Int32)) 63 1 (365 : Int32))))
theorem f_X9_years_35_s {x1 : Int32} {x2 : Int32} {x3 : Int32} (fl : Nat) {v4 : Int32} {v5 : Int32} {v6 : Int32} {τ : St} : f_X9_years_35 x1 x2 x3 (fl + 1) v4 v5 v6 τ = (if x1 ≤ v6 then (if x3 = 0 then (some (v4, τ)) else (some (v5, τ))) else (f_X9_years_60 x1 x2 x3 (f_X9_years_35 x1 x2 x3 fl) fu v4 v5 v6 (0 : Int32) (up (up τ 63 0 (0 : Int32)) 63 1 (365 : Int32)))) := rfl
def f_X9_years (x1 : Int32) (x2 : Int32) (x3 : Int32) (σ : St) : Option (Int32 × St) := (if (f_X9_isIn x1 (1 : Int32) (20 : Int32)) = true then (if (f_X9_isIn x3 (0 : Int32) (1 : Int32)) = true then (f_X9_years_35 x1 x2 x3 fu (0 : Int32) (0 : Int32) (0 : Int32) (up σ 61 13 x2)) else (some ((-1 : Int32), σ))) else (some ((-1 : Int32), σ)))
set_option maxRecDepth 100000 in
set_option maxHeartbeats 4000000 in
theorem t_X9_years (l : Launch) (G : GT) (hG : Dw G) (x1 : Int32) (x2 : Int32) (x3 : Int32) (σ : St) (o : Int32 × St) (hF : f_X9_years x1 x2 x3 σ = some o) : Ct l G yX9_years wsX9_years 4 90 [.ref (gA G 61), .int x1, .int x2, .int x3] σ (some (.int o.1)) o.2 := by
  refine Met.ofW (cc := cX9_years) (maxL := 12) (ret := (some .int)) (by decide) rfl ?_
  intro p e s m args below meth c s₁ B hml hv
  obtain ⟨rfl, hP, hK⟩ := hv
  have hx := B.exec
  have hb := B.bytes
  have hr := B.returns
  have hts := atoms_spec (ws := wsX9_years) B.pre
  have hown : s.vm.findClass RX9 = some m.cls := findClass_of_methodNamed B.named
  have hlocks := B.notSynchronized
  have Z : CallFix p m c cX9_years 12 s _ wsX9_years RX9 := ⟨hx, hb, hml, hown, hts⟩
  have hS : va_S (AG G) s.heap s.heap [] := va_S.rf
  have inX9 : ∀ w ∈ u_ws RX9 TX9 21, w ∈ wsX9_years := by decide +kernel
  have w1 := hts (.fieldLink RX9 207 "AlmanacOfTheYearGoneModel" "seed" "I") (by decide +kernel)
  have w2 := hts (.fieldLink RX9 13 "AlmanacOfTheYearGoneModel" "m" "[I") (by decide +kernel)
  have hl := lv_entry ([.ref (gA G 61), .int x1, .int x2, .int x3]) (n := 12) (Nat.le_of_ble_eq_true rfl)
  rw [lg_entry_eq]
  generalize (lg_sl ([.ref (gA G 61), .int x1, .int x2, .int x3]) ++ List.replicate (12 - (lg_sl ([.ref (gA G 61), .int x1, .int x2, .int x3])).length) Slot.unset).toArray = ls at hl ⊢
  have hl : lv_has ls 12 [(0, .ref (gA G 61)), (1, .int x1), (2, .int x2), (3, .int x3)] := hl
  unfold f_X9_years at hF
  refine lv_iload_n hx hb dX9_years_0 rfl (lv_at hl 1 rfl) ?_
  refine lv_iconst (v := 1) hx hb dX9_years_1 (by decide) ?_
  refine lv_bipush (v := 20) hx hb dX9_years_2 (by decide) ?_
  refine k_Sv (As := [.int x1, .int (1 : Int32), .int (20 : Int32)]) (rest := []) Z hK hP hS (t_X9_isIn l G hG x1 (1 : Int32) (20 : Int32) σ) (va_cwS 3 hts gX9_years_X9_isIn rfl rfl rfl (by decide +kernel) ⟨Nat.le_of_ble_eq_true rfl, Nat.le_of_ble_eq_true rfl⟩) rfl hl.1 rfl (Nat.le_of_ble_eq_true rfl) ⟨Nat.zero_le _, Nat.zero_le _⟩ dX9_years_4 (fun H locs hP hS => ?_)
  refine lv_if_eq (tgt := 19) hx hb dX9_years_7 (by decide) (fun c1 => ?_) (fun c1 => ?_)
  · have hF := ite_f (b2i_e0 c1) hF
    refine lv_iconst (v := -1) hx hb dX9_years_19 (by decide) ?_
    exact e_iS hx hb hr hP hS hlocks dX9_years_20 hF
  · have hF := ite_t (b2i_n0 c1) hF
    refine lv_iload_n hx hb dX9_years_10 rfl (lv_at hl 3 rfl) ?_
    refine lv_iconst (v := 0) hx hb dX9_years_11 (by decide) ?_
    refine lv_iconst (v := 1) hx hb dX9_years_12 (by decide) ?_
    refine k_Sv (As := [.int x3, .int (0 : Int32), .int (1 : Int32)]) (rest := []) Z hK hP hS (t_X9_isIn l G hG x3 (0 : Int32) (1 : Int32) σ) (va_cwS 3 hts gX9_years_X9_isIn rfl rfl rfl (by decide +kernel) ⟨Nat.le_of_ble_eq_true rfl, Nat.le_of_ble_eq_true rfl⟩) rfl hl.1 rfl (Nat.le_of_ble_eq_true rfl) ⟨Nat.zero_le _, Nat.zero_le _⟩ dX9_years_13 (fun H locs hP hS => ?_)
    refine lv_if_ne (tgt := 21) hx hb dX9_years_16 (by decide) (fun c2 => ?_) (fun c2 => ?_)
    · have hF := ite_t (b2i_n0 c2) hF
      refine lv_aload_n hx hb dX9_years_21 rfl (lv_at hl 0 rfl) ?_
      refine lv_iload_n hx hb dX9_years_22 rfl (lv_at hl 2 rfl) ?_
      refine va_put (ci := 5) (C := RX9) (T := TX9) (N := 21) (v := .int x2) (ty := .int) hx hb hts inX9 tyX9 tyX9_ok nmX9 hown hK.1 hP (Dw.D hG) hS 61 (at_5 rfl) rfl 13 (by decide) w1 (fun _ h9 => h9) rfl (by decide +kernel) rfl rfl (Nat.le_of_ble_eq_true rfl) dX9_years_23 (fun H locs hP _ hS => ?_)
      have hP := Pw.of hP (set_5_13 rfl)
      refine lv_iconst (v := 0) hx hb dX9_years_26 (by decide) ?_
      refine lv_istore (lv' := [(4, .int (0 : Int32)), (0, .ref (gA G 61)), (1, .int x1), (2, .int x2), (3, .int x3)]) hx hb dX9_years_27 hl (by decide) rfl (fun ls hl => ?_)
      refine lv_iconst (v := 0) hx hb dX9_years_29 (by decide) ?_
      refine lv_istore (lv' := [(5, .int (0 : Int32)), (4, .int (0 : Int32)), (0, .ref (gA G 61)), (1, .int x1), (2, .int x2), (3, .int x3)]) hx hb dX9_years_30 hl (by decide) rfl (fun ls hl => ?_)
      refine lv_iconst (v := 0) hx hb dX9_years_32 (by decide) ?_
      have J35 : ∀ (fl : Nat) (v4 : Int32) (v5 : Int32) (v6 : Int32) (τ : St) (H : Heap) (locs : List Loc) (hP : Pw G τ H) (hS : va_S (AG G) s.heap H locs) (ls : Array Slot) (hl : lv_has ls 12 [(0, .ref (gA G 61)), (1, .int x1), (2, .int x2), (3, .int x3), (4, .int v4), (5, .int v5), (6, .int v6)]) (hF : f_X9_years_35 x1 x2 x3 fl v4 v5 v6 τ = some o), W p l e (headSpec wsX9_years ({ frames := 4, cells := 0, slots := 0, locals := 90 })).room s m ([.ref (gA G 61), .int x1, .int x2, .int x3] : List Value).toArray below meth c H locs 0 0 (MQ below (qR G (some (.int o.1)) o.2) ([.ref (gA G 61), .int x1, .int x2, .int x3] : List Value).toArray s 0 0 (AG G)) (F0 m 35 ls []) := by
        intro fl35
        induction fl35 with
        | zero => intro v4 v5 v6 τ H locs hP hS ls hl hF; cases hF
        | succ fl35 ih35 =>
          intro v4 v5 v6 τ H locs hP hS ls hl hF
          rw [f_X9_years_35_s] at hF
          refine lv_iload hx hb dX9_years_35 (lv_at hl 6 rfl) ?_
          refine lv_iload_n hx hb dX9_years_37 rfl (lv_at hl 1 rfl) ?_
          refine lv_icmp_ge (tgt := 168) hx hb dX9_years_38 (by decide) (fun c3 => ?_) (fun c3 => ?_)
          · have hF := ite_t c3 hF
            refine lv_iload_n hx hb dX9_years_168 rfl (lv_at hl 3 rfl) ?_
            refine lv_if_ne (tgt := 177) hx hb dX9_years_169 (by decide) (fun c4 => ?_) (fun c4 => ?_)
            · have hF := ite_f c4 hF
              refine lv_iload hx hb dX9_years_177 (lv_at hl 5 rfl) ?_
              exact e_iS hx hb hr hP hS hlocks dX9_years_179 hF
            · have hF := ite_t c4 hF
              refine lv_iload hx hb dX9_years_172 (lv_at hl 4 rfl) ?_
              refine lv_goto (tgt := 179) hx hb dX9_years_174 (by decide) ?_
              exact e_iS hx hb hr hP hS hlocks dX9_years_179 hF
          · have hF := ite_f c3 hF
            refine lv_aload_n hx hb dX9_years_41 rfl (lv_at hl 0 rfl) ?_
            refine va_get (ci := 5) (C := RX9) (T := TX9) (N := 21) (v := .ref (gA G 63)) hx hb hts inX9 hown hK.1 hP 61 (at_5 rfl) rfl 1 (by decide) w2 (fun _ h9 => h9) rfl dX9_years_42 ?_
            refine lv_iconst (v := 0) hx hb dX9_years_45 (by decide) ?_
            refine lv_iconst (v := 0) hx hb dX9_years_46 (by decide) ?_
            refine va_iast hx hb hK.1 hP (Dw.D hG) hS 63 0 (at_6 (rfl : kd 63 = 6) (rfl : ln 63 = 52)) rfl (inb_in (by decide)) dX9_years_47 (fun H locs hP _ hS => ?_)
            have hP : Pw G (up τ 63 0 (0 : Int32)) H := Pw.of hP (set_6 (rfl : kd 63 = 6) (rfl : ln 63 = 52))
            refine lv_aload_n hx hb dX9_years_48 rfl (lv_at hl 0 rfl) ?_
            refine va_get (ci := 5) (C := RX9) (T := TX9) (N := 21) (v := .ref (gA G 63)) hx hb hts inX9 hown hK.1 hP 61 (at_5 rfl) rfl 1 (by decide) w2 (fun _ h9 => h9) rfl dX9_years_49 ?_
            refine lv_iconst (v := 1) hx hb dX9_years_52 (by decide) ?_
            refine lv_sipush (v := 365) hx hb dX9_years_53 (by decide) ?_
            refine va_iast hx hb hK.1 hP (Dw.D hG) hS 63 0 (at_6 (rfl : kd 63 = 6) (rfl : ln 63 = 52)) rfl (inb_in (by decide)) dX9_years_56 (fun H locs hP _ hS => ?_)
            have hP : Pw G (up (up τ 63 0 (0 : Int32)) 63 1 (365 : Int32)) H := Pw.of hP (set_6 (rfl : kd 63 = 6) (rfl : ln 63 = 52))
            refine lv_iconst (v := 0) hx hb dX9_years_57 (by decide) ?_
            have J60 : ∀ (fl : Nat) (v4 : Int32) (v5 : Int32) (v6 : Int32) (v7 : Int32) (τ : St) (H : Heap) (locs : List Loc) (hP : Pw G τ H) (hS : va_S (AG G) s.heap H locs) (ls : Array Slot) (hl : lv_has ls 12 [(0, .ref (gA G 61)), (1, .int x1), (2, .int x2), (3, .int x3), (4, .int v4), (5, .int v5), (6, .int v6), (7, .int v7)]) (hF : f_X9_years_60 x1 x2 x3 (f_X9_years_35 x1 x2 x3 fl35) fl v4 v5 v6 v7 τ = some o), W p l e (headSpec wsX9_years ({ frames := 4, cells := 0, slots := 0, locals := 90 })).room s m ([.ref (gA G 61), .int x1, .int x2, .int x3] : List Value).toArray below meth c H locs 0 0 (MQ below (qR G (some (.int o.1)) o.2) ([.ref (gA G 61), .int x1, .int x2, .int x3] : List Value).toArray s 0 0 (AG G)) (F0 m 60 ls []) := by
              intro fl60
              induction fl60 with
              | zero => intro v4 v5 v6 v7 τ H locs hP hS ls hl hF; cases hF
              | succ fl60 ih60 =>
                intro v4 v5 v6 v7 τ H locs hP hS ls hl hF
                rw [f_X9_years_60_s] at hF
                refine lv_iload hx hb dX9_years_60 (lv_at hl 7 rfl) ?_
                refine lv_bipush (v := 10) hx hb dX9_years_62 (by decide) ?_
                refine lv_icmp_ge (tgt := 162) hx hb dX9_years_64 (by decide) (fun c5 => ?_) (fun c5 => ?_)
                · have hF := ite_t c5 hF
                  refine lv_iinc (v := (v6 + (1 : Int32))) (lv' := [(6, .int (v6 + (1 : Int32))), (0, .ref (gA G 61)), (1, .int x1), (2, .int x2), (3, .int x3), (4, .int v4), (5, .int v5), (7, .int v7)]) hx hb dX9_years_162 hl (k := 6) rfl rfl (by decide) rfl (fun ls hl => ?_)
                  refine lv_goto (tgt := 35) hx hb dX9_years_165 (by decide) ?_
                  exact ih35 v4 v5 (v6 + (1 : Int32)) τ _ _ hP hS ls (lv_sub hl [1, 2, 3, 4, 5, 6, 0] rfl) hF
                · have hF := ite_f c5 hF
                  refine lv_aload_n hx hb dX9_years_67 rfl (lv_at hl 0 rfl) ?_
                  refine lv_bipush (v := 8) hx hb dX9_years_68 (by decide) ?_
                  obtain ⟨q6, h7, hF⟩ := ob_some hF
                  refine k_Vv (As := [.int (8 : Int32)]) (rest := []) Z hK hP hS (t_X9_drawn l G hG (8 : Int32) τ _ h7) (cwV 1 hts gX9_years_X9_drawn rfl rfl rfl (by decide +kernel) ⟨Nat.le_of_ble_eq_true rfl, Nat.le_of_ble_eq_true rfl⟩) (at_5 rfl) rfl rfl hl.1 rfl (Nat.le_of_ble_eq_true rfl) ⟨Nat.zero_le _, Nat.zero_le _⟩ dX9_years_70 (fun H locs hP hS => ?_)
                  refine lv_istore (lv' := [(8, .int q6.1), (0, .ref (gA G 61)), (1, .int x1), (2, .int x2), (3, .int x3), (4, .int v4), (5, .int v5), (6, .int v6), (7, .int v7)]) hx hb dX9_years_73 hl (by decide) rfl (fun ls hl => ?_)
                  refine lv_aload_n hx hb dX9_years_75 rfl (lv_at hl 1 rfl) ?_
                  refine lv_bipush (v := 10) hx hb dX9_years_76 (by decide) ?_
                  obtain ⟨q8, h9, hF⟩ := ob_some hF
                  refine k_Vv (As := [.int (10 : Int32)]) (rest := []) Z hK hP hS (t_X9_drawn l G hG (10 : Int32) q6.2 _ h9) (cwV 1 hts gX9_years_X9_drawn rfl rfl rfl (by decide +kernel) ⟨Nat.le_of_ble_eq_true rfl, Nat.le_of_ble_eq_true rfl⟩) (at_5 rfl) rfl rfl hl.1 rfl (Nat.le_of_ble_eq_true rfl) ⟨Nat.zero_le _, Nat.zero_le _⟩ dX9_years_78 (fun H locs hP hS => ?_)
                  refine lv_istore (lv' := [(9, .int q8.1), (8, .int q6.1), (0, .ref (gA G 61)), (1, .int x1), (2, .int x2), (3, .int x3), (4, .int v4), (5, .int v5), (6, .int v6), (7, .int v7)]) hx hb dX9_years_81 hl (by decide) rfl (fun ls hl => ?_)
                  refine lv_aload_n hx hb dX9_years_83 rfl (lv_at hl 2 rfl) ?_
                  refine lv_sipush (v := 365) hx hb dX9_years_84 (by decide) ?_
                  obtain ⟨q10, h11, hF⟩ := ob_some hF
                  refine k_Vv (As := [.int (365 : Int32)]) (rest := []) Z hK hP hS (t_X9_drawn l G hG (365 : Int32) q8.2 _ h11) (cwV 1 hts gX9_years_X9_drawn rfl rfl rfl (by decide +kernel) ⟨Nat.le_of_ble_eq_true rfl, Nat.le_of_ble_eq_true rfl⟩) (at_5 rfl) rfl rfl hl.1 rfl (Nat.le_of_ble_eq_true rfl) ⟨Nat.zero_le _, Nat.zero_le _⟩ dX9_years_87 (fun H locs hP hS => ?_)
                  refine lv_istore (lv' := [(10, .int q10.1), (9, .int q8.1), (8, .int q6.1), (0, .ref (gA G 61)), (1, .int x1), (2, .int x2), (3, .int x3), (4, .int v4), (5, .int v5), (6, .int v6), (7, .int v7)]) hx hb dX9_years_90 hl (by decide) rfl (fun ls hl => ?_)
                  refine lv_aload_n hx hb dX9_years_92 rfl (lv_at hl 3 rfl) ?_
                  refine lv_iconst (v := 5) hx hb dX9_years_93 (by decide) ?_
                  obtain ⟨q12, h13, hF⟩ := ob_some hF
                  refine k_Vv (As := [.int (5 : Int32)]) (rest := []) Z hK hP hS (t_X9_drawn l G hG (5 : Int32) q10.2 _ h13) (cwV 1 hts gX9_years_X9_drawn rfl rfl rfl (by decide +kernel) ⟨Nat.le_of_ble_eq_true rfl, Nat.le_of_ble_eq_true rfl⟩) (at_5 rfl) rfl rfl hl.1 rfl (Nat.le_of_ble_eq_true rfl) ⟨Nat.zero_le _, Nat.zero_le _⟩ dX9_years_94 (fun H locs hP hS => ?_)
                  refine lv_istore (lv' := [(11, .int q12.1), (10, .int q10.1), (9, .int q8.1), (8, .int q6.1), (0, .ref (gA G 61)), (1, .int x1), (2, .int x2), (3, .int x3), (4, .int v4), (5, .int v5), (6, .int v6), (7, .int v7)]) hx hb dX9_years_97 hl (by decide) rfl (fun ls hl => ?_)
                  refine lv_aload_n hx hb dX9_years_99 rfl (lv_at hl 4 rfl) ?_
                  refine va_get (ci := 5) (C := RX9) (T := TX9) (N := 21) (v := .ref (gA G 63)) hx hb hts inX9 hown hK.1 hP 61 (at_5 rfl) rfl 1 (by decide) w2 (fun _ h9 => h9) rfl dX9_years_100 ?_
                  refine lv_iload hx hb dX9_years_103 (lv_at hl 3 rfl) ?_
                  refine lv_iload hx hb dX9_years_105 (lv_at hl 2 rfl) ?_
                  refine lv_iload hx hb dX9_years_107 (lv_at hl 1 rfl) ?_
                  refine lv_iload hx hb dX9_years_109 (lv_at hl 0 rfl) ?_
                  refine lv_aload_n hx hb dX9_years_111 rfl (lv_at hl 4 rfl) ?_
                  refine lv_bipush (v := 32) hx hb dX9_years_112 (by decide) ?_
                  obtain ⟨q14, h15, hF⟩ := ob_some hF
                  refine k_Vv (As := [.int (32 : Int32)]) (rest := [.int q12.1, .int q10.1, .int q8.1, .int q6.1, .ref (gA G 63)]) Z hK hP hS (t_X9_drawn l G hG (32 : Int32) q12.2 _ h15) (cwV 1 hts gX9_years_X9_drawn rfl rfl rfl (by decide +kernel) ⟨Nat.le_of_ble_eq_true rfl, Nat.le_of_ble_eq_true rfl⟩) (at_5 rfl) rfl rfl hl.1 rfl (Nat.le_of_ble_eq_true rfl) ⟨Nat.zero_le _, Nat.zero_le _⟩ dX9_years_114 (fun H locs hP hS => ?_)
                  obtain ⟨q16, h17, hF⟩ := ob_some hF
                  refine k_S0 (As := [.ref (gA G 63), .int q6.1, .int q8.1, .int q10.1, .int q12.1, .int q14.1]) (rest := []) Z hK hP hS (t_X9_adds l G hG 63 q6.1 q8.1 q10.1 q12.1 q14.1 ⟨(rfl : kd 63 = 6), (rfl : ln 63 = 52)⟩ q14.2 _ h17) (va_cwS 6 hts gX9_years_X9_adds rfl rfl rfl (by decide +kernel) ⟨Nat.le_of_ble_eq_true rfl, Nat.le_of_ble_eq_true rfl⟩) rfl hl.1 rfl (Nat.le_of_ble_eq_true rfl) ⟨Nat.zero_le _, Nat.zero_le _⟩ dX9_years_117 (fun H locs hP hS => ?_)
                  refine lv_iload hx hb dX9_years_120 (lv_at hl 8 rfl) ?_
                  refine lv_aload_n hx hb dX9_years_122 rfl (lv_at hl 4 rfl) ?_
                  refine va_get (ci := 5) (C := RX9) (T := TX9) (N := 21) (v := .ref (gA G 63)) hx hb hts inX9 hown hK.1 hP 61 (at_5 rfl) rfl 1 (by decide) w2 (fun _ h9 => h9) rfl dX9_years_123 ?_
                  refine lv_iload hx hb dX9_years_126 (lv_at hl 11 rfl) ?_
                  obtain ⟨q18, h19, hF⟩ := ob_some hF
                  refine k_Sv (As := [.ref (gA G 63), .int v7]) (rest := [.int v4]) Z hK hP hS (t_X9_whoHas l G hG 63 v7 ⟨(rfl : kd 63 = 6), (rfl : ln 63 = 52)⟩ q16 _ h19) (va_cwS 2 hts gX9_years_X9_whoHas rfl rfl rfl (by decide +kernel) ⟨Nat.le_of_ble_eq_true rfl, Nat.le_of_ble_eq_true rfl⟩) rfl hl.1 rfl (Nat.le_of_ble_eq_true rfl) ⟨Nat.zero_le _, Nat.zero_le _⟩ dX9_years_128 (fun H locs hP hS => ?_)
                  have J139 : ∀ (v5 : Int32) (v6 : Int32) (v7 : Int32) (z0 : Int32) (z1 : Int32) (τ : St) (H : Heap) (locs : List Loc) (hP : Pw G τ H) (hS : va_S (AG G) s.heap H locs) (ls : Array Slot) (hl : lv_has ls 12 [(0, .ref (gA G 61)), (1, .int x1), (2, .int x2), (3, .int x3), (5, .int v5), (6, .int v6), (7, .int v7)]) (hF : f_X9_years_139 x1 x2 x3 (f_X9_years_35 x1 x2 x3 fl35) (f_X9_years_60 x1 x2 x3 (f_X9_years_35 x1 x2 x3 fl35) fl60) v5 v6 v7 z0 z1 τ = some o), W p l e (headSpec wsX9_years ({ frames := 4, cells := 0, slots := 0, locals := 90 })).room s m ([.ref (gA G 61), .int x1, .int x2, .int x3] : List Value).toArray below meth c H locs 0 0 (MQ below (qR G (some (.int o.1)) o.2) ([.ref (gA G 61), .int x1, .int x2, .int x3] : List Value).toArray s 0 0 (AG G)) (F0 m 139 ls [.int z1, .int z0]) := by
                    intro v5 v6 v7 z0 z1 τ H locs hP hS ls hl hF
                    rw [f_X9_years_139_e] at hF
                    refine lv_iadd hx hb dX9_years_139 ?_
                    refine lv_istore (lv' := [(4, .int (z0 + z1)), (0, .ref (gA G 61)), (1, .int x1), (2, .int x2), (3, .int x3), (5, .int v5), (6, .int v6), (7, .int v7)]) hx hb dX9_years_140 hl (by decide) rfl (fun ls hl => ?_)
                    refine lv_iload hx hb dX9_years_142 (lv_at hl 5 rfl) ?_
                    refine lv_aload_n hx hb dX9_years_144 rfl (lv_at hl 1 rfl) ?_
                    refine va_get (ci := 5) (C := RX9) (T := TX9) (N := 21) (v := .ref (gA G 63)) hx hb hts inX9 hown hK.1 hP 61 (at_5 rfl) rfl 1 (by decide) w2 (fun _ h9 => h9) rfl dX9_years_145 ?_
                    refine lv_iload hx hb dX9_years_148 (lv_at hl 7 rfl) ?_
                    obtain ⟨q20, h21, hF⟩ := ob_some hF
                    refine k_Sv (As := [.ref (gA G 63), .int v7]) (rest := [.int v5]) Z hK hP hS (t_X9_sizeOf l G hG 63 v7 ⟨(rfl : kd 63 = 6), (rfl : ln 63 = 52)⟩ τ _ h21) (va_cwS 2 hts gX9_years_X9_sizeOf rfl rfl rfl (by decide +kernel) ⟨Nat.le_of_ble_eq_true rfl, Nat.le_of_ble_eq_true rfl⟩) rfl hl.1 rfl (Nat.le_of_ble_eq_true rfl) ⟨Nat.zero_le _, Nat.zero_le _⟩ dX9_years_150 (fun H locs hP hS => ?_)
                    refine lv_iadd hx hb dX9_years_153 ?_
                    refine lv_istore (lv' := [(5, .int (v5 + q20)), (4, .int (z0 + z1)), (0, .ref (gA G 61)), (1, .int x1), (2, .int x2), (3, .int x3), (6, .int v6), (7, .int v7)]) hx hb dX9_years_154 hl (by decide) rfl (fun ls hl => ?_)
                    refine lv_iinc (v := (v7 + (1 : Int32))) (lv' := [(7, .int (v7 + (1 : Int32))), (5, .int (v5 + q20)), (4, .int (z0 + z1)), (0, .ref (gA G 61)), (1, .int x1), (2, .int x2), (3, .int x3), (6, .int v6)]) hx hb dX9_years_156 hl (k := 7) rfl rfl (by decide) rfl (fun ls hl => ?_)
                    refine lv_goto (tgt := 60) hx hb dX9_years_159 (by decide) ?_
                    exact ih60 (z0 + z1) (v5 + q20) v6 (v7 + (1 : Int32)) τ _ _ hP hS ls (lv_sub hl [3, 4, 5, 6, 2, 1, 7, 0] rfl) hF
                  refine lv_if_ne (tgt := 138) hx hb dX9_years_131 (by decide) (fun c22 => ?_) (fun c22 => ?_)
                  · have hF := ite_f c22 hF
                    refine lv_iconst (v := 0) hx hb dX9_years_138 (by decide) ?_
                    exact J139 v5 v6 v7 v4 (0 : Int32) q16 _ _ hP hS ls (lv_sub hl [4, 5, 6, 7, 9, 10, 11] rfl) hF
                  · have hF := ite_t c22 hF
                    refine lv_iconst (v := 1) hx hb dX9_years_134 (by decide) ?_
                    refine lv_goto (tgt := 139) hx hb dX9_years_135 (by decide) ?_
                    exact J139 v5 v6 v7 v4 (1 : Int32) q16 _ _ hP hS ls (lv_sub hl [4, 5, 6, 7, 9, 10, 11] rfl) hF
            refine lv_istore (lv' := [(7, .int (0 : Int32)), (0, .ref (gA G 61)), (1, .int x1), (2, .int x2), (3, .int x3), (4, .int v4), (5, .int v5), (6, .int v6)]) hx hb dX9_years_58 hl (by decide) rfl (fun ls hl => ?_)
            exact J60 fu v4 v5 v6 (0 : Int32) (up (up τ 63 0 (0 : Int32)) 63 1 (365 : Int32)) _ _ hP hS ls (lv_sub hl [1, 2, 3, 4, 5, 6, 7, 0] rfl) hF
      refine lv_istore (lv' := [(6, .int (0 : Int32)), (5, .int (0 : Int32)), (4, .int (0 : Int32)), (0, .ref (gA G 61)), (1, .int x1), (2, .int x2), (3, .int x3)]) hx hb dX9_years_33 hl (by decide) rfl (fun ls hl => ?_)
      exact J35 fu (0 : Int32) (0 : Int32) (0 : Int32) (up σ 61 13 x2) _ _ hP hS ls (lv_sub hl [3, 4, 5, 6, 2, 1, 0] rfl) hF
    · have hF := ite_f (b2i_e0 c2) hF
      refine lv_iconst (v := -1) hx hb dX9_years_19 (by decide) ?_
      exact e_iS hx hb hr hP hS hlocks dX9_years_20 hF
def f_X9_image (σ : St) : Option (Int32 × St) := (ob (f_X9_copies 62 64 σ) (fun q1 => some ((up q1 61 4 (1 : Int32)) 62 0, up q1 61 4 (1 : Int32))))
set_option maxRecDepth 100000 in
set_option maxHeartbeats 4000000 in
theorem t_X9_image (l : Launch) (G : GT) (hG : Dw G) (σ : St) (o : Int32 × St) (hF : f_X9_image σ = some o) : Ct l G yX9_image wsX9_image 1 22 [.ref (gA G 61)] σ (some (.int o.1)) o.2 := by
  refine Met.ofW (cc := cX9_image) (maxL := 1) (ret := (some .int)) (by decide) rfl ?_
  intro p e s m args below meth c s₁ B hml hv
  obtain ⟨rfl, hP, hK⟩ := hv
  have hx := B.exec
  have hb := B.bytes
  have hr := B.returns
  have hts := atoms_spec (ws := wsX9_image) B.pre
  have hown : s.vm.findClass RX9 = some m.cls := findClass_of_methodNamed B.named
  have hlocks := B.notSynchronized
  have Z : CallFix p m c cX9_image 1 s _ wsX9_image RX9 := ⟨hx, hb, hml, hown, hts⟩
  have hS : va_S (AG G) s.heap s.heap [] := va_S.rf
  have inX9 : ∀ w ∈ u_ws RX9 TX9 21, w ∈ wsX9_image := by decide +kernel
  have w1 := hts (.fieldLink RX9 9 "AlmanacOfTheYearGoneModel" "s" "[I") (by decide +kernel)
  have w2 := hts (.fieldLink RX9 16 "AlmanacOfTheYearGoneModel" "image" "[I") (by decide +kernel)
  have w3 := hts (.fieldLink RX9 216 "AlmanacOfTheYearGoneModel" "hasImage" "Z") (by decide +kernel)
  have hl := lv_entry ([.ref (gA G 61)]) (n := 1) (Nat.le_of_ble_eq_true rfl)
  rw [lg_entry_eq]
  generalize (lg_sl ([.ref (gA G 61)]) ++ List.replicate (1 - (lg_sl ([.ref (gA G 61)])).length) Slot.unset).toArray = ls at hl ⊢
  have hl : lv_has ls 1 [(0, .ref (gA G 61))] := hl
  unfold f_X9_image at hF
  refine lv_aload_n hx hb dX9_image_0 rfl (lv_at hl 0 rfl) ?_
  refine va_get (ci := 5) (C := RX9) (T := TX9) (N := 21) (v := .ref (gA G 62)) hx hb hts inX9 hown hK.1 hP 61 (at_5 rfl) rfl 0 (by decide) w1 (fun _ h9 => h9) rfl dX9_image_1 ?_
  refine lv_aload_n hx hb dX9_image_4 rfl (lv_at hl 0 rfl) ?_
  refine va_get (ci := 5) (C := RX9) (T := TX9) (N := 21) (v := .ref (gA G 64)) hx hb hts inX9 hown hK.1 hP 61 (at_5 rfl) rfl 2 (by decide) w2 (fun _ h9 => h9) rfl dX9_image_5 ?_
  obtain ⟨q1, h2, hF⟩ := ob_some hF
  refine k_S0 (As := [.ref (gA G 62), .ref (gA G 64)]) (rest := []) Z hK hP hS (t_X9_copies l G hG 62 64 ⟨(rfl : kd 62 = 6), (rfl : ln 62 = 52)⟩ ⟨(rfl : kd 64 = 6), (rfl : ln 64 = 52)⟩ σ _ h2) (va_cwS 2 hts gX9_image_X9_copies rfl rfl rfl (by decide +kernel) ⟨Nat.le_of_ble_eq_true rfl, Nat.le_of_ble_eq_true rfl⟩) rfl hl.1 rfl (Nat.le_of_ble_eq_true rfl) ⟨Nat.zero_le _, Nat.zero_le _⟩ dX9_image_8 (fun H locs hP hS => ?_)
  refine lv_aload_n hx hb dX9_image_11 rfl (lv_at hl 0 rfl) ?_
  refine lv_iconst (v := 1) hx hb dX9_image_12 (by decide) ?_
  refine va_put (ci := 5) (C := RX9) (T := TX9) (N := 21) (v := .int (1 : Int32)) (ty := .boolean) hx hb hts inX9 tyX9 tyX9_ok nmX9 hown hK.1 hP (Dw.D hG) hS 61 (at_5 rfl) rfl 4 (by decide) w3 (fun _ h9 => h9) rfl (by decide +kernel) rfl rfl (Nat.le_of_ble_eq_true rfl) dX9_image_13 (fun H locs hP _ hS => ?_)
  have hP := Pw.of hP (set_5_4 rfl)
  refine lv_aload_n hx hb dX9_image_16 rfl (lv_at hl 0 rfl) ?_
  refine va_get (ci := 5) (C := RX9) (T := TX9) (N := 21) (v := .ref (gA G 62)) hx hb hts inX9 hown hK.1 hP 61 (at_5 rfl) rfl 0 (by decide) w1 (fun _ h9 => h9) rfl dX9_image_17 ?_
  refine lv_iconst (v := 0) hx hb dX9_image_20 (by decide) ?_
  refine va_iald hx hb hK.1 hP 62 0 (at_6 (rfl : kd 62 = 6) (rfl : ln 62 = 52)) rfl (inb_in (by decide)) dX9_image_21 ?_
  refine W.eq (g2 := F0 m 22 ls ([.int ((up q1 61 4 (1 : Int32)) 62 0)])) rfl ?_
  exact e_iS hx hb hr hP hS hlocks dX9_image_22 hF
def f_X9_restore (σ : St) : Option (Int32 × St) := (if (σ 61 4) = 0 then (some ((-3 : Int32), σ)) else (ob (f_X9_copies 64 62 σ) (fun q2 => some (q2 62 0, q2))))
set_option maxRecDepth 100000 in
set_option maxHeartbeats 4000000 in
theorem t_X9_restore (l : Launch) (G : GT) (hG : Dw G) (σ : St) (o : Int32 × St) (hF : f_X9_restore σ = some o) : Ct l G yX9_restore wsX9_restore 1 22 [.ref (gA G 61)] σ (some (.int o.1)) o.2 := by
  refine Met.ofW (cc := cX9_restore) (maxL := 1) (ret := (some .int)) (by decide) rfl ?_
  intro p e s m args below meth c s₁ B hml hv
  obtain ⟨rfl, hP, hK⟩ := hv
  have hx := B.exec
  have hb := B.bytes
  have hr := B.returns
  have hts := atoms_spec (ws := wsX9_restore) B.pre
  have hown : s.vm.findClass RX9 = some m.cls := findClass_of_methodNamed B.named
  have hlocks := B.notSynchronized
  have Z : CallFix p m c cX9_restore 1 s _ wsX9_restore RX9 := ⟨hx, hb, hml, hown, hts⟩
  have hS : va_S (AG G) s.heap s.heap [] := va_S.rf
  have inX9 : ∀ w ∈ u_ws RX9 TX9 21, w ∈ wsX9_restore := by decide +kernel
  have w1 := hts (.fieldLink RX9 216 "AlmanacOfTheYearGoneModel" "hasImage" "Z") (by decide +kernel)
  have w2 := hts (.fieldLink RX9 16 "AlmanacOfTheYearGoneModel" "image" "[I") (by decide +kernel)
  have w3 := hts (.fieldLink RX9 9 "AlmanacOfTheYearGoneModel" "s" "[I") (by decide +kernel)
  have hl := lv_entry ([.ref (gA G 61)]) (n := 1) (Nat.le_of_ble_eq_true rfl)
  rw [lg_entry_eq]
  generalize (lg_sl ([.ref (gA G 61)]) ++ List.replicate (1 - (lg_sl ([.ref (gA G 61)])).length) Slot.unset).toArray = ls at hl ⊢
  have hl : lv_has ls 1 [(0, .ref (gA G 61))] := hl
  unfold f_X9_restore at hF
  refine lv_aload_n hx hb dX9_restore_0 rfl (lv_at hl 0 rfl) ?_
  refine va_get (ci := 5) (C := RX9) (T := TX9) (N := 21) (v := .int (σ 61 4)) hx hb hts inX9 hown hK.1 hP 61 (at_5 rfl) rfl 4 (by decide) w1 (fun _ h9 => h9) rfl dX9_restore_1 ?_
  refine lv_if_ne (tgt := 10) hx hb dX9_restore_4 (by decide) (fun c1 => ?_) (fun c1 => ?_)
  · have hF := ite_f c1 hF
    refine lv_aload_n hx hb dX9_restore_10 rfl (lv_at hl 0 rfl) ?_
    refine va_get (ci := 5) (C := RX9) (T := TX9) (N := 21) (v := .ref (gA G 64)) hx hb hts inX9 hown hK.1 hP 61 (at_5 rfl) rfl 2 (by decide) w2 (fun _ h9 => h9) rfl dX9_restore_11 ?_
    refine lv_aload_n hx hb dX9_restore_14 rfl (lv_at hl 0 rfl) ?_
    refine va_get (ci := 5) (C := RX9) (T := TX9) (N := 21) (v := .ref (gA G 62)) hx hb hts inX9 hown hK.1 hP 61 (at_5 rfl) rfl 0 (by decide) w3 (fun _ h9 => h9) rfl dX9_restore_15 ?_
    obtain ⟨q2, h3, hF⟩ := ob_some hF
    refine k_S0 (As := [.ref (gA G 64), .ref (gA G 62)]) (rest := []) Z hK hP hS (t_X9_copies l G hG 64 62 ⟨(rfl : kd 64 = 6), (rfl : ln 64 = 52)⟩ ⟨(rfl : kd 62 = 6), (rfl : ln 62 = 52)⟩ σ _ h3) (va_cwS 2 hts gX9_restore_X9_copies rfl rfl rfl (by decide +kernel) ⟨Nat.le_of_ble_eq_true rfl, Nat.le_of_ble_eq_true rfl⟩) rfl hl.1 rfl (Nat.le_of_ble_eq_true rfl) ⟨Nat.zero_le _, Nat.zero_le _⟩ dX9_restore_18 (fun H locs hP hS => ?_)
    refine lv_aload_n hx hb dX9_restore_21 rfl (lv_at hl 0 rfl) ?_
    refine va_get (ci := 5) (C := RX9) (T := TX9) (N := 21) (v := .ref (gA G 62)) hx hb hts inX9 hown hK.1 hP 61 (at_5 rfl) rfl 0 (by decide) w3 (fun _ h9 => h9) rfl dX9_restore_22 ?_
    refine lv_iconst (v := 0) hx hb dX9_restore_25 (by decide) ?_
    refine va_iald hx hb hK.1 hP 62 0 (at_6 (rfl : kd 62 = 6) (rfl : ln 62 = 52)) rfl (inb_in (by decide)) dX9_restore_26 ?_
    refine W.eq (g2 := F0 m 27 ls ([.int (q2 62 0)])) rfl ?_
    exact e_iS hx hb hr hP hS hlocks dX9_restore_27 hF
  · have hF := ite_t c1 hF
    refine lv_bipush (v := -3) hx hb dX9_restore_7 (by decide) ?_
    exact e_iS hx hb hr hP hS hlocks dX9_restore_9 hF
def f_X9_count_61 (x1 : Int32) (σ : St) : Nat → (Int32 → Int32 → Option Int32)
  | 0 => fun _ _ => none
  | fl + 1 => fun v2 v3 => (if (σ 62 0) ≤ v3 then (some v2) else (if inb (f_X9_of v3 (0 : Int32)) 52 then if inb (f_X9_of v3 (1 : Int32)) 52 then (f_X9_count_61 x1 σ fl) (v2 + (f_X9_lasts (σ 62 (f_X9_of v3 (0 : Int32)).toNatClampNeg) (σ 62 (f_X9_of v3 (1 : Int32)).toNatClampNeg))) (v3 + (1 : Int32)) else none else none))
theorem f_X9_count_61_s {x1 : Int32} {σ : St} (fl : Nat) {v2 : Int32} {v3 : Int32} : f_X9_count_61 x1 σ (fl + 1) v2 v3 = (if (σ 62 0) ≤ v3 then (some v2) else (if inb (f_X9_of v3 (0 : Int32)) 52 then if inb (f_X9_of v3 (1 : Int32)) 52 then (f_X9_count_61 x1 σ fl) (v2 + (f_X9_lasts (σ 62 (f_X9_of v3 (0 : Int32)).toNatClampNeg) (σ 62 (f_X9_of v3 (1 : Int32)).toNatClampNeg))) (v3 + (1 : Int32)) else none else none)) := rfl
def f_X9_count_107 (x1 : Int32) (σ : St) : Nat → (Int32 → Int32 → Option Int32)
  | 0 => fun _ _ => none
  | fl + 1 => fun v2 v3 => (if (σ 62 0) ≤ v3 then (some v2) else (if inb (f_X9_of v3 (4 : Int32)) 52 then ob (f_X9_bits (σ 62 (f_X9_of v3 (4 : Int32)).toNatClampNeg) σ) (fun q15 => (f_X9_count_107 x1 σ fl) (v2 + q15) (v3 + (1 : Int32))) else none))
theorem f_X9_count_107_s {x1 : Int32} {σ : St} (fl : Nat) {v2 : Int32} {v3 : Int32} : f_X9_count_107 x1 σ (fl + 1) v2 v3 = (if (σ 62 0) ≤ v3 then (some v2) else (if inb (f_X9_of v3 (4 : Int32)) 52 then ob (f_X9_bits (σ 62 (f_X9_of v3 (4 : Int32)).toNatClampNeg) σ) (fun q15 => (f_X9_count_107 x1 σ fl) (v2 + q15) (v3 + (1 : Int32))) else none)) := rfl
def f_X9_count (x1 : Int32) (σ : St) : Option Int32 := (if (f_X9_isIn x1 (0 : Int32) (1 : Int32)) = true then (if inb x1 52 then some (σ 62 x1.toNatClampNeg) else none) else (if x1 = (2 : Int32) then (ob (f_X9_toldWithout (0 : Int32) σ) (fun q3 => some q3)) else if x1 = (3 : Int32) then (ob (f_X9_manyTold σ) (fun q6 => some q6)) else if x1 = (4 : Int32) then (f_X9_count_61 x1 σ fu (0 : Int32) (0 : Int32)) else if x1 = (5 : Int32) then (f_X9_count_107 x1 σ fu (0 : Int32) (0 : Int32)) else (some (-1 : Int32))))
set_option maxRecDepth 100000 in
set_option maxHeartbeats 4000000 in
theorem t_X9_count (l : Launch) (G : GT) (hG : Dw G) (x1 : Int32) (σ : St) (o : Int32) (hF : f_X9_count x1 σ = some o) : Ct l G yX9_count wsX9_count 3 65 [.ref (gA G 61), .int x1] σ (some (.int o)) σ := by
  refine Met.ofW (cc := cX9_count) (maxL := 4) (ret := (some .int)) (by decide) rfl ?_
  intro p e s m args below meth c s₁ B hml hv
  obtain ⟨rfl, hP, hK⟩ := hv
  have hx := B.exec
  have hb := B.bytes
  have hr := B.returns
  have hts := atoms_spec (ws := wsX9_count) B.pre
  have hown : s.vm.findClass RX9 = some m.cls := findClass_of_methodNamed B.named
  have hlocks := B.notSynchronized
  have Z : CallFix p m c cX9_count 4 s _ wsX9_count RX9 := ⟨hx, hb, hml, hown, hts⟩
  have hS : va_S (AG G) s.heap s.heap [] := va_S.rf
  have inX9 : ∀ w ∈ u_ws RX9 TX9 21, w ∈ wsX9_count := by decide +kernel
  have w1 := hts (.fieldLink RX9 9 "AlmanacOfTheYearGoneModel" "s" "[I") (by decide +kernel)
  have hl := lv_entry ([.ref (gA G 61), .int x1]) (n := 4) (Nat.le_of_ble_eq_true rfl)
  rw [lg_entry_eq]
  generalize (lg_sl ([.ref (gA G 61), .int x1]) ++ List.replicate (4 - (lg_sl ([.ref (gA G 61), .int x1])).length) Slot.unset).toArray = ls at hl ⊢
  have hl : lv_has ls 4 [(0, .ref (gA G 61)), (1, .int x1)] := hl
  unfold f_X9_count at hF
  refine lv_iload_n hx hb dX9_count_0 rfl (lv_at hl 1 rfl) ?_
  refine lv_iconst (v := 0) hx hb dX9_count_1 (by decide) ?_
  refine lv_iconst (v := 1) hx hb dX9_count_2 (by decide) ?_
  refine k_Sv (As := [.int x1, .int (0 : Int32), .int (1 : Int32)]) (rest := []) Z hK hP hS (t_X9_isIn l G hG x1 (0 : Int32) (1 : Int32) σ) (va_cwS 3 hts gX9_count_X9_isIn rfl rfl rfl (by decide +kernel) ⟨Nat.le_of_ble_eq_true rfl, Nat.le_of_ble_eq_true rfl⟩) rfl hl.1 rfl (Nat.le_of_ble_eq_true rfl) ⟨Nat.zero_le _, Nat.zero_le _⟩ dX9_count_3 (fun H locs hP hS => ?_)
  refine lv_if_eq (tgt := 16) hx hb dX9_count_6 (by decide) (fun c1 => ?_) (fun c1 => ?_)
  · have hF := ite_f (b2i_e0 c1) hF
    refine lv_iconst (v := 0) hx hb dX9_count_16 (by decide) ?_
    refine lv_istore_n (lv' := [(2, .int (0 : Int32)), (0, .ref (gA G 61)), (1, .int x1)]) hx hb dX9_count_17 rfl hl (by decide) rfl (fun ls hl => ?_)
    refine lv_iload_n hx hb dX9_count_18 rfl (lv_at hl 2 rfl) ?_
    by_cases c2 : x1 = (2 : Int32)
    · have hF := ite_t c2 hF
      refine lv_tableIn (off := 29) (tgt := 48) hx hb dX9_count_19 (by rw [c2]; decide) (by rw [c2]; decide) (by rw [c2]; rfl) (by decide) ?_
      refine lv_aload_n hx hb dX9_count_48 rfl (lv_at hl 1 rfl) ?_
      refine lv_iconst (v := 0) hx hb dX9_count_49 (by decide) ?_
      obtain ⟨q3, h4, hF⟩ := ob_some hF
      refine k_Vv (As := [.int (0 : Int32)]) (rest := []) Z hK hP hS (t_X9_toldWithout l G hG (0 : Int32) σ _ h4) (cwV 1 hts gX9_count_X9_toldWithout rfl rfl rfl (by decide +kernel) ⟨Nat.le_of_ble_eq_true rfl, Nat.le_of_ble_eq_true rfl⟩) (at_5 rfl) rfl rfl hl.1 rfl (Nat.le_of_ble_eq_true rfl) ⟨Nat.zero_le _, Nat.zero_le _⟩ dX9_count_50 (fun H locs hP hS => ?_)
      exact e_iP hx hb hr hP hS hlocks dX9_count_53 hF
    · have hF := ite_f c2 hF
      by_cases c5 : x1 = (3 : Int32)
      · have hF := ite_t c5 hF
        refine lv_tableIn (off := 35) (tgt := 54) hx hb dX9_count_19 (by rw [c5]; decide) (by rw [c5]; decide) (by rw [c5]; rfl) (by decide) ?_
        refine lv_aload_n hx hb dX9_count_54 rfl (lv_at hl 1 rfl) ?_
        obtain ⟨q6, h7, hF⟩ := ob_some hF
        refine k_Vv (As := []) (rest := []) Z hK hP hS (t_X9_manyTold l G hG σ _ h7) (cwV 0 hts gX9_count_X9_manyTold rfl rfl rfl (by decide +kernel) ⟨Nat.le_of_ble_eq_true rfl, Nat.le_of_ble_eq_true rfl⟩) (at_5 rfl) rfl rfl hl.1 rfl (Nat.le_of_ble_eq_true rfl) ⟨Nat.zero_le _, Nat.zero_le _⟩ dX9_count_55 (fun H locs hP hS => ?_)
        exact e_iP hx hb hr hP hS hlocks dX9_count_58 hF
      · have hF := ite_f c5 hF
        by_cases c8 : x1 = (4 : Int32)
        · have hF := ite_t c8 hF
          refine lv_tableIn (off := 40) (tgt := 59) hx hb dX9_count_19 (by rw [c8]; decide) (by rw [c8]; decide) (by rw [c8]; rfl) (by decide) ?_
          refine lv_iconst (v := 0) hx hb dX9_count_59 (by decide) ?_
          have J61 : ∀ (fl : Nat) (v2 : Int32) (v3 : Int32) (H : Heap) (locs : List Loc) (hP : Pw G σ H) (hS : va_S (AG G) s.heap H locs) (ls : Array Slot) (hl : lv_has ls 4 [(0, .ref (gA G 61)), (1, .int x1), (2, .int v2), (3, .int v3)]) (hF : f_X9_count_61 x1 σ fl v2 v3 = some o), W p l e (headSpec wsX9_count ({ frames := 3, cells := 0, slots := 0, locals := 65 })).room s m ([.ref (gA G 61), .int x1] : List Value).toArray below meth c H locs 0 0 (MQ below (qR G (some (.int o)) σ) ([.ref (gA G 61), .int x1] : List Value).toArray s 0 0 (AG G)) (F0 m 61 ls []) := by
            intro fl61
            induction fl61 with
            | zero => intro v2 v3 H locs hP hS ls hl hF; cases hF
            | succ fl61 ih61 =>
              intro v2 v3 H locs hP hS ls hl hF
              rw [f_X9_count_61_s] at hF
              refine lv_iload_n hx hb dX9_count_61 rfl (lv_at hl 3 rfl) ?_
              refine lv_aload_n hx hb dX9_count_62 rfl (lv_at hl 0 rfl) ?_
              refine va_get (ci := 5) (C := RX9) (T := TX9) (N := 21) (v := .ref (gA G 62)) hx hb hts inX9 hown hK.1 hP 61 (at_5 rfl) rfl 0 (by decide) w1 (fun _ h9 => h9) rfl dX9_count_63 ?_
              refine lv_iconst (v := 0) hx hb dX9_count_66 (by decide) ?_
              refine va_iald hx hb hK.1 hP 62 0 (at_6 (rfl : kd 62 = 6) (rfl : ln 62 = 52)) rfl (inb_in (by decide)) dX9_count_67 ?_
              refine W.eq (g2 := F0 m 68 ls ([.int (σ 62 0), .int v3])) rfl ?_
              refine lv_icmp_ge (tgt := 103) hx hb dX9_count_68 (by decide) (fun c9 => ?_) (fun c9 => ?_)
              · have hF := ite_t c9 hF
                refine lv_iload_n hx hb dX9_count_103 rfl (lv_at hl 2 rfl) ?_
                exact e_iP hx hb hr hP hS hlocks dX9_count_104 hF
              · have hF := ite_f c9 hF
                refine lv_iload_n hx hb dX9_count_71 rfl (lv_at hl 2 rfl) ?_
                refine lv_aload_n hx hb dX9_count_72 rfl (lv_at hl 0 rfl) ?_
                refine va_get (ci := 5) (C := RX9) (T := TX9) (N := 21) (v := .ref (gA G 62)) hx hb hts inX9 hown hK.1 hP 61 (at_5 rfl) rfl 0 (by decide) w1 (fun _ h9 => h9) rfl dX9_count_73 ?_
                refine lv_iload_n hx hb dX9_count_76 rfl (lv_at hl 3 rfl) ?_
                refine lv_iconst (v := 0) hx hb dX9_count_77 (by decide) ?_
                refine k_Sv (As := [.int v3, .int (0 : Int32)]) (rest := [.ref (gA G 62), .int v2]) Z hK hP hS (t_X9_of l G hG v3 (0 : Int32) σ) (va_cwS 2 hts gX9_count_X9_of rfl rfl rfl (by decide +kernel) ⟨Nat.le_of_ble_eq_true rfl, Nat.le_of_ble_eq_true rfl⟩) rfl hl.1 rfl (Nat.le_of_ble_eq_true rfl) ⟨Nat.zero_le _, Nat.zero_le _⟩ dX9_count_78 (fun H locs hP hS => ?_)
                obtain ⟨b10, hF⟩ := ite_some hF
                refine va_iald hx hb hK.1 hP 62 0 (at_6 (rfl : kd 62 = 6) (rfl : ln 62 = 52)) rfl (inb_in b10) dX9_count_81 ?_
                refine lv_aload_n hx hb dX9_count_82 rfl (lv_at hl 0 rfl) ?_
                refine va_get (ci := 5) (C := RX9) (T := TX9) (N := 21) (v := .ref (gA G 62)) hx hb hts inX9 hown hK.1 hP 61 (at_5 rfl) rfl 0 (by decide) w1 (fun _ h9 => h9) rfl dX9_count_83 ?_
                refine lv_iload_n hx hb dX9_count_86 rfl (lv_at hl 3 rfl) ?_
                refine lv_iconst (v := 1) hx hb dX9_count_87 (by decide) ?_
                refine k_Sv (As := [.int v3, .int (1 : Int32)]) (rest := [.ref (gA G 62), .int (σ 62 (f_X9_of v3 (0 : Int32)).toNatClampNeg), .int v2]) Z hK hP hS (t_X9_of l G hG v3 (1 : Int32) σ) (va_cwS 2 hts gX9_count_X9_of rfl rfl rfl (by decide +kernel) ⟨Nat.le_of_ble_eq_true rfl, Nat.le_of_ble_eq_true rfl⟩) rfl hl.1 rfl (Nat.le_of_ble_eq_true rfl) ⟨Nat.zero_le _, Nat.zero_le _⟩ dX9_count_88 (fun H locs hP hS => ?_)
                obtain ⟨b11, hF⟩ := ite_some hF
                refine va_iald hx hb hK.1 hP 62 0 (at_6 (rfl : kd 62 = 6) (rfl : ln 62 = 52)) rfl (inb_in b11) dX9_count_91 ?_
                refine k_Sv (As := [.int (σ 62 (f_X9_of v3 (0 : Int32)).toNatClampNeg), .int (σ 62 (f_X9_of v3 (1 : Int32)).toNatClampNeg)]) (rest := [.int v2]) Z hK hP hS (t_X9_lasts l G hG (σ 62 (f_X9_of v3 (0 : Int32)).toNatClampNeg) (σ 62 (f_X9_of v3 (1 : Int32)).toNatClampNeg) σ) (va_cwS 2 hts gX9_count_X9_lasts rfl rfl rfl (by decide +kernel) ⟨Nat.le_of_ble_eq_true rfl, Nat.le_of_ble_eq_true rfl⟩) rfl hl.1 rfl (Nat.le_of_ble_eq_true rfl) ⟨Nat.zero_le _, Nat.zero_le _⟩ dX9_count_92 (fun H locs hP hS => ?_)
                refine lv_iadd hx hb dX9_count_95 ?_
                refine lv_istore_n (lv' := [(2, .int (v2 + (f_X9_lasts (σ 62 (f_X9_of v3 (0 : Int32)).toNatClampNeg) (σ 62 (f_X9_of v3 (1 : Int32)).toNatClampNeg)))), (0, .ref (gA G 61)), (1, .int x1), (3, .int v3)]) hx hb dX9_count_96 rfl hl (by decide) rfl (fun ls hl => ?_)
                refine lv_iinc (v := (v3 + (1 : Int32))) (lv' := [(3, .int (v3 + (1 : Int32))), (2, .int (v2 + (f_X9_lasts (σ 62 (f_X9_of v3 (0 : Int32)).toNatClampNeg) (σ 62 (f_X9_of v3 (1 : Int32)).toNatClampNeg)))), (0, .ref (gA G 61)), (1, .int x1)]) hx hb dX9_count_97 hl (k := 3) rfl rfl (by decide) rfl (fun ls hl => ?_)
                refine lv_goto (tgt := 61) hx hb dX9_count_100 (by decide) ?_
                exact ih61 (v2 + (f_X9_lasts (σ 62 (f_X9_of v3 (0 : Int32)).toNatClampNeg) (σ 62 (f_X9_of v3 (1 : Int32)).toNatClampNeg))) (v3 + (1 : Int32)) _ _ hP hS ls (lv_sub hl [2, 3, 1, 0] rfl) hF
          refine lv_istore_n (lv' := [(3, .int (0 : Int32)), (2, .int (0 : Int32)), (0, .ref (gA G 61)), (1, .int x1)]) hx hb dX9_count_60 rfl hl (by decide) rfl (fun ls hl => ?_)
          exact J61 fu (0 : Int32) (0 : Int32) _ _ hP hS ls (lv_sub hl [2, 3, 1, 0] rfl) hF
        · have hF := ite_f c8 hF
          by_cases c12 : x1 = (5 : Int32)
          · have hF := ite_t c12 hF
            refine lv_tableIn (off := 86) (tgt := 105) hx hb dX9_count_19 (by rw [c12]; decide) (by rw [c12]; decide) (by rw [c12]; rfl) (by decide) ?_
            refine lv_iconst (v := 0) hx hb dX9_count_105 (by decide) ?_
            have J107 : ∀ (fl : Nat) (v2 : Int32) (v3 : Int32) (H : Heap) (locs : List Loc) (hP : Pw G σ H) (hS : va_S (AG G) s.heap H locs) (ls : Array Slot) (hl : lv_has ls 4 [(0, .ref (gA G 61)), (1, .int x1), (2, .int v2), (3, .int v3)]) (hF : f_X9_count_107 x1 σ fl v2 v3 = some o), W p l e (headSpec wsX9_count ({ frames := 3, cells := 0, slots := 0, locals := 65 })).room s m ([.ref (gA G 61), .int x1] : List Value).toArray below meth c H locs 0 0 (MQ below (qR G (some (.int o)) σ) ([.ref (gA G 61), .int x1] : List Value).toArray s 0 0 (AG G)) (F0 m 107 ls []) := by
              intro fl107
              induction fl107 with
              | zero => intro v2 v3 H locs hP hS ls hl hF; cases hF
              | succ fl107 ih107 =>
                intro v2 v3 H locs hP hS ls hl hF
                rw [f_X9_count_107_s] at hF
                refine lv_iload_n hx hb dX9_count_107 rfl (lv_at hl 3 rfl) ?_
                refine lv_aload_n hx hb dX9_count_108 rfl (lv_at hl 0 rfl) ?_
                refine va_get (ci := 5) (C := RX9) (T := TX9) (N := 21) (v := .ref (gA G 62)) hx hb hts inX9 hown hK.1 hP 61 (at_5 rfl) rfl 0 (by decide) w1 (fun _ h9 => h9) rfl dX9_count_109 ?_
                refine lv_iconst (v := 0) hx hb dX9_count_112 (by decide) ?_
                refine va_iald hx hb hK.1 hP 62 0 (at_6 (rfl : kd 62 = 6) (rfl : ln 62 = 52)) rfl (inb_in (by decide)) dX9_count_113 ?_
                refine W.eq (g2 := F0 m 114 ls ([.int (σ 62 0), .int v3])) rfl ?_
                refine lv_icmp_ge (tgt := 139) hx hb dX9_count_114 (by decide) (fun c13 => ?_) (fun c13 => ?_)
                · have hF := ite_t c13 hF
                  refine lv_iload_n hx hb dX9_count_139 rfl (lv_at hl 2 rfl) ?_
                  exact e_iP hx hb hr hP hS hlocks dX9_count_140 hF
                · have hF := ite_f c13 hF
                  refine lv_iload_n hx hb dX9_count_117 rfl (lv_at hl 2 rfl) ?_
                  refine lv_aload_n hx hb dX9_count_118 rfl (lv_at hl 0 rfl) ?_
                  refine va_get (ci := 5) (C := RX9) (T := TX9) (N := 21) (v := .ref (gA G 62)) hx hb hts inX9 hown hK.1 hP 61 (at_5 rfl) rfl 0 (by decide) w1 (fun _ h9 => h9) rfl dX9_count_119 ?_
                  refine lv_iload_n hx hb dX9_count_122 rfl (lv_at hl 3 rfl) ?_
                  refine lv_iconst (v := 4) hx hb dX9_count_123 (by decide) ?_
                  refine k_Sv (As := [.int v3, .int (4 : Int32)]) (rest := [.ref (gA G 62), .int v2]) Z hK hP hS (t_X9_of l G hG v3 (4 : Int32) σ) (va_cwS 2 hts gX9_count_X9_of rfl rfl rfl (by decide +kernel) ⟨Nat.le_of_ble_eq_true rfl, Nat.le_of_ble_eq_true rfl⟩) rfl hl.1 rfl (Nat.le_of_ble_eq_true rfl) ⟨Nat.zero_le _, Nat.zero_le _⟩ dX9_count_124 (fun H locs hP hS => ?_)
                  obtain ⟨b14, hF⟩ := ite_some hF
                  refine va_iald hx hb hK.1 hP 62 0 (at_6 (rfl : kd 62 = 6) (rfl : ln 62 = 52)) rfl (inb_in b14) dX9_count_127 ?_
                  obtain ⟨q15, h16, hF⟩ := ob_some hF
                  refine k_Sv (As := [.int (σ 62 (f_X9_of v3 (4 : Int32)).toNatClampNeg)]) (rest := [.int v2]) Z hK hP hS (t_X9_bits l G hG (σ 62 (f_X9_of v3 (4 : Int32)).toNatClampNeg) σ _ h16) (va_cwS 1 hts gX9_count_X9_bits rfl rfl rfl (by decide +kernel) ⟨Nat.le_of_ble_eq_true rfl, Nat.le_of_ble_eq_true rfl⟩) rfl hl.1 rfl (Nat.le_of_ble_eq_true rfl) ⟨Nat.zero_le _, Nat.zero_le _⟩ dX9_count_128 (fun H locs hP hS => ?_)
                  refine lv_iadd hx hb dX9_count_131 ?_
                  refine lv_istore_n (lv' := [(2, .int (v2 + q15)), (0, .ref (gA G 61)), (1, .int x1), (3, .int v3)]) hx hb dX9_count_132 rfl hl (by decide) rfl (fun ls hl => ?_)
                  refine lv_iinc (v := (v3 + (1 : Int32))) (lv' := [(3, .int (v3 + (1 : Int32))), (2, .int (v2 + q15)), (0, .ref (gA G 61)), (1, .int x1)]) hx hb dX9_count_133 hl (k := 3) rfl rfl (by decide) rfl (fun ls hl => ?_)
                  refine lv_goto (tgt := 107) hx hb dX9_count_136 (by decide) ?_
                  exact ih107 (v2 + q15) (v3 + (1 : Int32)) _ _ hP hS ls (lv_sub hl [2, 3, 1, 0] rfl) hF
            refine lv_istore_n (lv' := [(3, .int (0 : Int32)), (2, .int (0 : Int32)), (0, .ref (gA G 61)), (1, .int x1)]) hx hb dX9_count_106 rfl hl (by decide) rfl (fun ls hl => ?_)
            exact J107 fu (0 : Int32) (0 : Int32) _ _ hP hS ls (lv_sub hl [2, 3, 1, 0] rfl) hF
          · have hF := ite_f c12 hF
            have n0 := lv_neT c2 (by decide : ((2 : Int32)).toInt = 2)
            have n1 := lv_neT c5 (by decide : ((3 : Int32)).toInt = 3)
            have n2 := lv_neT c8 (by decide : ((4 : Int32)).toInt = 4)
            have n3 := lv_neT c12 (by decide : ((5 : Int32)).toInt = 5)
            refine lv_tableOut (tgt := 141) hx hb dX9_count_19 (by omega) (by decide) ?_
            refine lv_iconst (v := -1) hx hb dX9_count_141 (by decide) ?_
            exact e_iP hx hb hr hP hS hlocks dX9_count_142 hF
  · have hF := ite_t (b2i_n0 c1) hF
    refine lv_aload_n hx hb dX9_count_9 rfl (lv_at hl 0 rfl) ?_
    refine va_get (ci := 5) (C := RX9) (T := TX9) (N := 21) (v := .ref (gA G 62)) hx hb hts inX9 hown hK.1 hP 61 (at_5 rfl) rfl 0 (by decide) w1 (fun _ h9 => h9) rfl dX9_count_10 ?_
    refine lv_iload_n hx hb dX9_count_13 rfl (lv_at hl 1 rfl) ?_
    obtain ⟨b17, hF⟩ := ite_some hF
    refine va_iald hx hb hK.1 hP 62 0 (at_6 (rfl : kd 62 = 6) (rfl : ln 62 = 52)) rfl (inb_in b17) dX9_count_14 ?_
    exact e_iP hx hb hr hP hS hlocks dX9_count_15 hF
def f_X9_thrown (σ : St) : Int32 := (σ 61 20)
set_option maxRecDepth 100000 in
set_option maxHeartbeats 4000000 in
theorem t_X9_thrown (l : Launch) (G : GT) (hG : Dw G) (σ : St) : Ct l G yX9_thrown wsX9_thrown 0 0 [.ref (gA G 61)] σ (some (.int (f_X9_thrown σ))) σ := by
  obtain ⟨o, hF⟩ : ∃ o, f_X9_thrown σ = o := ⟨_, rfl⟩
  rw [hF]
  refine Met.ofW (cc := cX9_thrown) (maxL := 1) (ret := (some .int)) (by decide) rfl ?_
  intro p e s m args below meth c s₁ B hml hv
  obtain ⟨rfl, hP, hK⟩ := hv
  have hx := B.exec
  have hb := B.bytes
  have hr := B.returns
  have hts := atoms_spec (ws := wsX9_thrown) B.pre
  have hown : s.vm.findClass RX9 = some m.cls := findClass_of_methodNamed B.named
  have hlocks := B.notSynchronized
  have Z : CallFix p m c cX9_thrown 1 s _ wsX9_thrown RX9 := ⟨hx, hb, hml, hown, hts⟩
  have hS : va_S (AG G) s.heap s.heap [] := va_S.rf
  have inX9 : ∀ w ∈ u_ws RX9 TX9 21, w ∈ wsX9_thrown := by decide +kernel
  have w1 := hts (.fieldLink RX9 220 "AlmanacOfTheYearGoneModel" "thrown" "I") (by decide +kernel)
  have hl := lv_entry ([.ref (gA G 61)]) (n := 1) (Nat.le_of_ble_eq_true rfl)
  rw [lg_entry_eq]
  generalize (lg_sl ([.ref (gA G 61)]) ++ List.replicate (1 - (lg_sl ([.ref (gA G 61)])).length) Slot.unset).toArray = ls at hl ⊢
  have hl : lv_has ls 1 [(0, .ref (gA G 61))] := hl
  unfold f_X9_thrown at hF
  refine lv_aload_n hx hb dX9_thrown_0 rfl (lv_at hl 0 rfl) ?_
  refine va_get (ci := 5) (C := RX9) (T := TX9) (N := 21) (v := .int (σ 61 20)) hx hb hts inX9 hown hK.1 hP 61 (at_5 rfl) rfl 20 (by decide) w1 (fun _ h9 => h9) rfl dX9_thrown_1 ?_
  exact e_iT hx hb hr hP hS hlocks dX9_thrown_4 hF
def f_X9_keep_44 (x1 : Int32) (x2 : Int32) (x3 : Int32) (x4 : Int32) (τ : St) : Option (Int32 × St) := (if inb x1 8 then if inb x1 8 then if inb x1 8 then some ((0 : Int32), up (up (up τ 69 x1.toNatClampNeg x2) 70 x1.toNatClampNeg x3) 71 x1.toNatClampNeg x4) else none else none else none)
theorem f_X9_keep_44_e {x1 : Int32} {x2 : Int32} {x3 : Int32} {x4 : Int32} {τ : St} : f_X9_keep_44 x1 x2 x3 x4 τ = (if inb x1 8 then if inb x1 8 then if inb x1 8 then some ((0 : Int32), up (up (up τ 69 x1.toNatClampNeg x2) 70 x1.toNatClampNeg x3) 71 x1.toNatClampNeg x4) else none else none else none) := rfl
def f_X9_keep (x1 : Int32) (x2 : Int32) (x3 : Int32) (x4 : Int32) (σ : St) : Option (Int32 × St) := (if (f_X9_isShelf x1) = true then (if (f_X9_isIn x2 (0 : Int32) (1 : Int32)) = true then (if x2 = (1 : Int32) then (if (f_X9_isIn x3 (0 : Int32) (7 : Int32)) = true then (if (f_X9_isIn x4 (0 : Int32) (9 : Int32)) = true then f_X9_keep_44 x1 x2 x3 x4 σ else (some ((-1 : Int32), σ))) else (some ((-1 : Int32), σ))) else f_X9_keep_44 x1 x2 x3 x4 σ) else (some ((-1 : Int32), σ))) else (some ((-1 : Int32), σ)))
set_option maxRecDepth 100000 in
set_option maxHeartbeats 4000000 in
theorem t_X9_keep (l : Launch) (G : GT) (hG : Dw G) (x1 : Int32) (x2 : Int32) (x3 : Int32) (x4 : Int32) (σ : St) (o : Int32 × St) (hF : f_X9_keep x1 x2 x3 x4 σ = some o) : Ct l G yX9_keep wsX9_keep 2 42 [.ref (gA G 61), .int x1, .int x2, .int x3, .int x4] σ (some (.int o.1)) o.2 := by
  refine Met.ofW (cc := cX9_keep) (maxL := 5) (ret := (some .int)) (by decide) rfl ?_
  intro p e s m args below meth c s₁ B hml hv
  obtain ⟨rfl, hP, hK⟩ := hv
  have hx := B.exec
  have hb := B.bytes
  have hr := B.returns
  have hts := atoms_spec (ws := wsX9_keep) B.pre
  have hown : s.vm.findClass RX9 = some m.cls := findClass_of_methodNamed B.named
  have hlocks := B.notSynchronized
  have Z : CallFix p m c cX9_keep 5 s _ wsX9_keep RX9 := ⟨hx, hb, hml, hown, hts⟩
  have hS : va_S (AG G) s.heap s.heap [] := va_S.rf
  have inX9 : ∀ w ∈ u_ws RX9 TX9 21, w ∈ wsX9_keep := by decide +kernel
  have w1 := hts (.fieldLink RX9 31 "AlmanacOfTheYearGoneModel" "kept" "[I") (by decide +kernel)
  have w2 := hts (.fieldLink RX9 34 "AlmanacOfTheYearGoneModel" "keptKind" "[I") (by decide +kernel)
  have w3 := hts (.fieldLink RX9 37 "AlmanacOfTheYearGoneModel" "keptFigure" "[I") (by decide +kernel)
  have hl := lv_entry ([.ref (gA G 61), .int x1, .int x2, .int x3, .int x4]) (n := 5) (Nat.le_of_ble_eq_true rfl)
  rw [lg_entry_eq]
  generalize (lg_sl ([.ref (gA G 61), .int x1, .int x2, .int x3, .int x4]) ++ List.replicate (5 - (lg_sl ([.ref (gA G 61), .int x1, .int x2, .int x3, .int x4])).length) Slot.unset).toArray = ls at hl ⊢
  have hl : lv_has ls 5 [(0, .ref (gA G 61)), (1, .int x1), (2, .int x2), (3, .int x3), (4, .int x4)] := hl
  unfold f_X9_keep at hF
  refine lv_iload_n hx hb dX9_keep_0 rfl (lv_at hl 1 rfl) ?_
  refine k_Sv (As := [.int x1]) (rest := []) Z hK hP hS (t_X9_isShelf l G hG x1 σ) (va_cwS 1 hts gX9_keep_X9_isShelf rfl rfl rfl (by decide +kernel) ⟨Nat.le_of_ble_eq_true rfl, Nat.le_of_ble_eq_true rfl⟩) rfl hl.1 rfl (Nat.le_of_ble_eq_true rfl) ⟨Nat.zero_le _, Nat.zero_le _⟩ dX9_keep_1 (fun H locs hP hS => ?_)
  refine lv_if_eq (tgt := 42) hx hb dX9_keep_4 (by decide) (fun c1 => ?_) (fun c1 => ?_)
  · have hF := ite_f (b2i_e0 c1) hF
    refine lv_iconst (v := -1) hx hb dX9_keep_42 (by decide) ?_
    exact e_iS hx hb hr hP hS hlocks dX9_keep_43 hF
  · have hF := ite_t (b2i_n0 c1) hF
    refine lv_iload_n hx hb dX9_keep_7 rfl (lv_at hl 2 rfl) ?_
    refine lv_iconst (v := 0) hx hb dX9_keep_8 (by decide) ?_
    refine lv_iconst (v := 1) hx hb dX9_keep_9 (by decide) ?_
    refine k_Sv (As := [.int x2, .int (0 : Int32), .int (1 : Int32)]) (rest := []) Z hK hP hS (t_X9_isIn l G hG x2 (0 : Int32) (1 : Int32) σ) (va_cwS 3 hts gX9_keep_X9_isIn rfl rfl rfl (by decide +kernel) ⟨Nat.le_of_ble_eq_true rfl, Nat.le_of_ble_eq_true rfl⟩) rfl hl.1 rfl (Nat.le_of_ble_eq_true rfl) ⟨Nat.zero_le _, Nat.zero_le _⟩ dX9_keep_10 (fun H locs hP hS => ?_)
    refine lv_if_eq (tgt := 42) hx hb dX9_keep_13 (by decide) (fun c2 => ?_) (fun c2 => ?_)
    · have hF := ite_f (b2i_e0 c2) hF
      refine lv_iconst (v := -1) hx hb dX9_keep_42 (by decide) ?_
      exact e_iS hx hb hr hP hS hlocks dX9_keep_43 hF
    · have hF := ite_t (b2i_n0 c2) hF
      refine lv_iload_n hx hb dX9_keep_16 rfl (lv_at hl 2 rfl) ?_
      refine lv_iconst (v := 1) hx hb dX9_keep_17 (by decide) ?_
      have J44 : ∀ (τ : St) (H : Heap) (locs : List Loc) (hP : Pw G τ H) (hS : va_S (AG G) s.heap H locs) (ls : Array Slot) (hl : lv_has ls 5 [(0, .ref (gA G 61)), (1, .int x1), (2, .int x2), (3, .int x3), (4, .int x4)]) (hF : f_X9_keep_44 x1 x2 x3 x4 τ = some o), W p l e (headSpec wsX9_keep ({ frames := 2, cells := 0, slots := 0, locals := 42 })).room s m ([.ref (gA G 61), .int x1, .int x2, .int x3, .int x4] : List Value).toArray below meth c H locs 0 0 (MQ below (qR G (some (.int o.1)) o.2) ([.ref (gA G 61), .int x1, .int x2, .int x3, .int x4] : List Value).toArray s 0 0 (AG G)) (F0 m 44 ls []) := by
        intro τ H locs hP hS ls hl hF
        rw [f_X9_keep_44_e] at hF
        refine lv_aload_n hx hb dX9_keep_44 rfl (lv_at hl 0 rfl) ?_
        refine va_get (ci := 5) (C := RX9) (T := TX9) (N := 21) (v := .ref (gA G 69)) hx hb hts inX9 hown hK.1 hP 61 (at_5 rfl) rfl 14 (by decide) w1 (fun _ h9 => h9) rfl dX9_keep_45 ?_
        refine lv_iload_n hx hb dX9_keep_48 rfl (lv_at hl 1 rfl) ?_
        refine lv_iload_n hx hb dX9_keep_49 rfl (lv_at hl 2 rfl) ?_
        obtain ⟨b3, hF⟩ := ite_some hF
        refine va_iast hx hb hK.1 hP (Dw.D hG) hS 69 0 (at_6 (rfl : kd 69 = 6) (rfl : ln 69 = 8)) rfl (inb_in b3) dX9_keep_50 (fun H locs hP _ hS => ?_)
        have hP : Pw G (up τ 69 x1.toNatClampNeg x2) H := Pw.of hP (set_6 (rfl : kd 69 = 6) (rfl : ln 69 = 8))
        refine lv_aload_n hx hb dX9_keep_51 rfl (lv_at hl 0 rfl) ?_
        refine va_get (ci := 5) (C := RX9) (T := TX9) (N := 21) (v := .ref (gA G 70)) hx hb hts inX9 hown hK.1 hP 61 (at_5 rfl) rfl 15 (by decide) w2 (fun _ h9 => h9) rfl dX9_keep_52 ?_
        refine lv_iload_n hx hb dX9_keep_55 rfl (lv_at hl 1 rfl) ?_
        refine lv_iload_n hx hb dX9_keep_56 rfl (lv_at hl 3 rfl) ?_
        obtain ⟨b4, hF⟩ := ite_some hF
        refine va_iast hx hb hK.1 hP (Dw.D hG) hS 70 0 (at_6 (rfl : kd 70 = 6) (rfl : ln 70 = 8)) rfl (inb_in b4) dX9_keep_57 (fun H locs hP _ hS => ?_)
        have hP : Pw G (up (up τ 69 x1.toNatClampNeg x2) 70 x1.toNatClampNeg x3) H := Pw.of hP (set_6 (rfl : kd 70 = 6) (rfl : ln 70 = 8))
        refine lv_aload_n hx hb dX9_keep_58 rfl (lv_at hl 0 rfl) ?_
        refine va_get (ci := 5) (C := RX9) (T := TX9) (N := 21) (v := .ref (gA G 71)) hx hb hts inX9 hown hK.1 hP 61 (at_5 rfl) rfl 16 (by decide) w3 (fun _ h9 => h9) rfl dX9_keep_59 ?_
        refine lv_iload_n hx hb dX9_keep_62 rfl (lv_at hl 1 rfl) ?_
        refine lv_iload hx hb dX9_keep_63 (lv_at hl 4 rfl) ?_
        obtain ⟨b5, hF⟩ := ite_some hF
        refine va_iast hx hb hK.1 hP (Dw.D hG) hS 71 0 (at_6 (rfl : kd 71 = 6) (rfl : ln 71 = 8)) rfl (inb_in b5) dX9_keep_65 (fun H locs hP _ hS => ?_)
        have hP : Pw G (up (up (up τ 69 x1.toNatClampNeg x2) 70 x1.toNatClampNeg x3) 71 x1.toNatClampNeg x4) H := Pw.of hP (set_6 (rfl : kd 71 = 6) (rfl : ln 71 = 8))
        refine lv_iconst (v := 0) hx hb dX9_keep_66 (by decide) ?_
        exact e_iS hx hb hr hP hS hlocks dX9_keep_67 hF
      refine lv_icmp_ne (tgt := 44) hx hb dX9_keep_18 (by decide) (fun c6 => ?_) (fun c6 => ?_)
      · have hF := ite_f c6 hF
        exact J44 σ _ _ hP hS ls (lv_sub hl [0, 1, 2, 3, 4] rfl) hF
      · have hF := ite_t c6 hF
        refine lv_iload_n hx hb dX9_keep_21 rfl (lv_at hl 3 rfl) ?_
        refine lv_iconst (v := 0) hx hb dX9_keep_22 (by decide) ?_
        refine lv_bipush (v := 7) hx hb dX9_keep_23 (by decide) ?_
        refine k_Sv (As := [.int x3, .int (0 : Int32), .int (7 : Int32)]) (rest := []) Z hK hP hS (t_X9_isIn l G hG x3 (0 : Int32) (7 : Int32) σ) (va_cwS 3 hts gX9_keep_X9_isIn rfl rfl rfl (by decide +kernel) ⟨Nat.le_of_ble_eq_true rfl, Nat.le_of_ble_eq_true rfl⟩) rfl hl.1 rfl (Nat.le_of_ble_eq_true rfl) ⟨Nat.zero_le _, Nat.zero_le _⟩ dX9_keep_25 (fun H locs hP hS => ?_)
        refine lv_if_eq (tgt := 42) hx hb dX9_keep_28 (by decide) (fun c7 => ?_) (fun c7 => ?_)
        · have hF := ite_f (b2i_e0 c7) hF
          refine lv_iconst (v := -1) hx hb dX9_keep_42 (by decide) ?_
          exact e_iS hx hb hr hP hS hlocks dX9_keep_43 hF
        · have hF := ite_t (b2i_n0 c7) hF
          refine lv_iload hx hb dX9_keep_31 (lv_at hl 4 rfl) ?_
          refine lv_iconst (v := 0) hx hb dX9_keep_33 (by decide) ?_
          refine lv_bipush (v := 9) hx hb dX9_keep_34 (by decide) ?_
          refine k_Sv (As := [.int x4, .int (0 : Int32), .int (9 : Int32)]) (rest := []) Z hK hP hS (t_X9_isIn l G hG x4 (0 : Int32) (9 : Int32) σ) (va_cwS 3 hts gX9_keep_X9_isIn rfl rfl rfl (by decide +kernel) ⟨Nat.le_of_ble_eq_true rfl, Nat.le_of_ble_eq_true rfl⟩) rfl hl.1 rfl (Nat.le_of_ble_eq_true rfl) ⟨Nat.zero_le _, Nat.zero_le _⟩ dX9_keep_36 (fun H locs hP hS => ?_)
          refine lv_if_ne (tgt := 44) hx hb dX9_keep_39 (by decide) (fun c8 => ?_) (fun c8 => ?_)
          · have hF := ite_t (b2i_n0 c8) hF
            exact J44 σ _ _ hP hS ls (lv_sub hl [0, 1, 2, 3, 4] rfl) hF
          · have hF := ite_f (b2i_e0 c8) hF
            refine lv_iconst (v := -1) hx hb dX9_keep_42 (by decide) ?_
            exact e_iS hx hb hr hP hS hlocks dX9_keep_43 hF
