/-! CONSTRUCTORS: rows over a world that grows -/
theorem zl_at {α : Type} {wa r : List α} {x : α} : (wa ++ x :: r)[wa.length]? = some x := by simp
theorem zl_set {α : Type} {wa r : List α} {x y : α} : (wa ++ x :: r).set wa.length y = wa ++ y :: r := by simp
theorem zl_r {α : Type} {wa r : List α} {x : α} (j : Nat) : (wa ++ x :: r)[wa.length + (j + 1)]? = r[j]? := by
  rw [List.getElem?_append_right (by omega), show wa.length + (j + 1) - wa.length = j + 1 by omega, List.getElem?_cons_succ]
theorem zl_rs {α : Type} {wa r : List α} {x y : α} (j : Nat) : (wa ++ x :: r).set (wa.length + (j + 1)) y = wa ++ x :: r.set j y := by simp
theorem zl_app {α : Type} {wa r s : List α} {x : α} : (wa ++ x :: r) ++ s = wa ++ x :: (r ++ s) := by simp
def Kz (G : GT) (U : State) : Prop := Kw G U ∧ va_AO RX1 U ∧ va_AO RX5 U
theorem Kz.warm {G : GT} {s U : State} (h : Kz G s) (hW : s.WarmedH U.vm) : Kz G U := ⟨h.1.warm hW, h.2.1.moved hW.alike, h.2.2.moved hW.alike⟩
def Qz (G : GT) (P : va_W → Prop) : Array Value → State → Outcome → State → Prop := fun _ st oc t => oc = .returned none ∧ (∃ w', P w' ∧ va_P (gD G) vwCl w' t.heap ∧ va_D (AG G) w') ∧ va_F (AG G) st t
def Cz (l : Launch) (G : GT) (y : MethodName) (ws : List Cond) (fr lo mc ms : Nat) (h0 : Nat) (w : va_W) (P : va_W → Prop) : Prop := Met l y ws ({ frames := fr, cells := mc, slots := ms, locals := lo }) (va_Pc [.ref h0] (fun U => va_P (gD G) vwCl w U.heap ∧ va_D (AG G) w ∧ gL G ≤ U.heap.size ∧ Kz G U)) (Qz G P) mc ms (AG G)
theorem arrV_cg {cI : ClassId} {N : Nat} {f g : Nat → Value} (h : ∀ j : Nat, j < N → f j = g j) : arrV cI N f = arrV cI N g := by
  unfold arrV
  have e : (fun j : Fin N => f j.val) = fun j : Fin N => g j.val := funext fun j => h j.val j.isLt
  rw [e]
section CTOR
variable {p : Program} {l : Launch} {e : Env} {R : Room} {s : State} {m : MethodId} {args : Array Value} {below : List Frame} {meth : Method} {c : Code} {H : Heap} {locs : List Loc} {cells slots mc ms : Nat} {Q : State → Prop}
variable {G : GT} {pc : Nat} {ls : Array Slot} {st0 rest : List Value} {a : Array Value} {cc : ByteArray} {ws : va_W}
theorem z_blind {av : List Value} {w : va_W} : FrameBlind (va_Pc av (fun U => va_P (gD G) vwCl w U.heap ∧ va_D (AG G) w ∧ gL G ≤ U.heap.size ∧ Kz G U)) := fun a U g mk q => ⟨q.1, q.2.1, q.2.2.1, q.2.2.2.1, Kz.warm (s := U) q.2.2.2.2 (State.WarmedH.refl U)⟩
theorem z_go {P : va_W → Prop} {H0 : Heap} (hr : va_Run p l e R s m args below meth c H locs cells slots mc ms (F0 m pc ls st0) rest (Qz G P a) (AG G)) (hS : va_S (AG G) H0 H locs) (kk : ∀ (w' : va_W) (H1 : Heap) (locs1 : List Loc), P w' → va_P (gD G) vwCl w' H1 → va_D (AG G) w' → va_S (AG G) H0 H1 locs1 → W p l e R s m args below meth c H1 locs1 (cells + mc) (slots + ms) Q (F0 m (pc + 3) ls rest)) : W p l e R s m args below meth c H locs cells slots Q (F0 m pc ls st0) := by
  intro T hT X
  obtain ⟨v, st₀, t, T', L, h0, X', hL, e1, e2, ⟨hv, ⟨w', hw, hp, hd⟩, hz, hk⟩, st⟩ := hr T hT X
  cases hv
  rw [h0] at hz hk
  obtain ⟨t2, a1, b1⟩ := kk w' T'.heap (locs ++ L) hw (by rw [e1]; exact hp) hd
    ⟨Nat.le_trans hS.1 (by rw [e1]; exact hz), fun q h1 h2 => by rw [e1, hk q (Nat.lt_of_lt_of_le h1 hS.1) h2]; exact hS.2.1 q h1 h2, fun q hq => by
      rcases List.mem_append.mp hq with h | h
      · exact hS.2.2 q h
      · exact hL q h⟩ T' rfl X'
  exact ⟨t2, st t2 a1, b1⟩
theorem e_z {P : va_W → Prop} (hx : p.tables.exec = Jvm.exec) (hb : c.code = cc) (hr : meth.sig.returnType = none) (hP : va_P (gD G) vwCl ws H) (hD : va_D (AG G) ws) (hS : va_S (AG G) s.heap H locs) (hlocks : meth.locks = false) (hdg : decode cc pc = .ok (.return_, 1)) (h : P ws) : W p l e R s m args below meth c H locs cells slots (MQ below (Qz G P) args s cells slots (AG G)) (F0 m pc ls []) :=
  W.vret hx hb hr (fun t ht hW => ⟨rfl, ⟨ws, h, by rw [ht]; exact hP, hD⟩, hS.F ht⟩) hS.2.2 hdg hlocks
theorem z_newi (hx : p.tables.exec = Jvm.exec) (hb : c.code = cc) (harr : (Cond.arrayClass .int).before args s = true) (hK : Kz G s) (hP : va_P (gD G) vwCl ws H) (hD : va_D (AG G) ws) (hS : va_S (AG G) s.heap H locs) (hgl : gL G ≤ s.heap.size) {n : Int32} {N : Nat} (hn : ¬ n < 0) (hN : n.toNatClampNeg = N) (hbytes : N * 4 ≤ 536870912) (hcells : cells + 1 ≤ R.cells) (hslots : slots + N ≤ R.slots) (hdg : decode cc pc = .ok (.newarray .int, 2))
    (kk : ∀ (q : Nat) (H1 : Heap), va_P (gD G) vwCl (ws ++ [(q, .inl (gC G 0, N, .inl (fun _ => 0)))]) H1 → va_D (AG G) (ws ++ [(q, .inl (gC G 0, N, .inl (fun _ => 0)))]) → va_S (AG G) s.heap H1 locs → W p l e R s m args below meth c H1 locs (cells + 1) (slots + N) Q (F0 m (pc + 2) ls (.ref q :: rest))) : W p l e R s m args below meth c H locs cells slots Q (F0 m pc ls (.int n :: rest)) := by
  refine va_newa (atype := .int) (ty := .int) (a0 := (N, .inl (fun _ => 0))) hx hb harr rfl hK.1.1 hP hD hS (fun q h => Nat.le_trans hgl h) (fun cA => rfl) hn hN hbytes hcells hslots hdg (fun q cA H1 hK1 hP1 hD1 hS1 => ?_)
  have e1 : s.vm.findClass ("[" ++ FieldType.int.toString) = some cA := (hK1.2 4 (cA, .int) rfl).2
  have e2 : s.vm.findClass ("[" ++ FieldType.int.toString) = some (gC G 0) := (hK.1.1.2 0 (gC G 0, .int) rfl).2
  have e3 : cA = gC G 0 := Option.some.inj (e1.symm.trans e2)
  subst e3
  exact kk q H1 hP1 hD1 hS1
theorem z_newl (hx : p.tables.exec = Jvm.exec) (hb : c.code = cc) (harr : (Cond.arrayClass .long).before args s = true) (hK : Kz G s) (hP : va_P (gD G) vwCl ws H) (hD : va_D (AG G) ws) (hS : va_S (AG G) s.heap H locs) (hgl : gL G ≤ s.heap.size) {n : Int32} {N : Nat} (hn : ¬ n < 0) (hN : n.toNatClampNeg = N) (hbytes : N * 8 ≤ 536870912) (hcells : cells + 1 ≤ R.cells) (hslots : slots + N ≤ R.slots) (hdg : decode cc pc = .ok (.newarray .long, 2))
    (kk : ∀ (q : Nat) (H1 : Heap), va_P (gD G) vwCl (ws ++ [(q, .inl (gC G 3, N, .inr (.inl (fun _ => 0))))]) H1 → va_D (AG G) (ws ++ [(q, .inl (gC G 3, N, .inr (.inl (fun _ => 0))))]) → va_S (AG G) s.heap H1 locs → W p l e R s m args below meth c H1 locs (cells + 1) (slots + N) Q (F0 m (pc + 2) ls (.ref q :: rest))) : W p l e R s m args below meth c H locs cells slots Q (F0 m pc ls (.int n :: rest)) := by
  refine va_newa (atype := .long) (ty := .long) (a0 := (N, .inr (.inl (fun _ => 0)))) hx hb harr rfl hK.1.1 hP hD hS (fun q h => Nat.le_trans hgl h) (fun cA => rfl) hn hN hbytes hcells hslots hdg (fun q cA H1 hK1 hP1 hD1 hS1 => ?_)
  have e1 : s.vm.findClass ("[" ++ FieldType.long.toString) = some cA := (hK1.2 4 (cA, .long) rfl).2
  have e2 : s.vm.findClass ("[" ++ FieldType.long.toString) = some (gC G 3) := (hK.1.1.2 3 (gC G 3, .long) rfl).2
  have e3 : cA = gC G 3 := Option.some.inj (e1.symm.trans e2)
  subst e3
  exact kk q H1 hP1 hD1 hS1
theorem z_newq (hx : p.tables.exec = Jvm.exec) (hb : c.code = cc) {own C : String} {index : Nat} (hown : s.vm.findClass own = some m.cls) (hclink : (Cond.classLink own index C).before args s = true) (hover : va_AO C s) (hK : Kz G s) {t0 : Nat} {cA0 : ClassId} (ht : (tysG G)[t0]? = some (cA0, .object C)) (hP : va_P (gD G) vwCl ws H) (hD : va_D (AG G) ws) (hS : va_S (AG G) s.heap H locs) (hgl : gL G ≤ s.heap.size) {n : Int32} {N : Nat} (hn : ¬ n < 0) (hN : n.toNatClampNeg = N) (hbytes : N * 4 ≤ 536870912) (hcells : cells + 1 ≤ R.cells) (hslots : slots + N ≤ R.slots) (hdg : decode cc pc = .ok (.anewarray index, 3))
    (kk : ∀ (q : Nat) (H1 : Heap), va_P (gD G) vwCl (ws ++ [(q, .inl (cA0, N, .inr (.inr (.inr (.inr (fun _ => none))))))]) H1 → va_D (AG G) (ws ++ [(q, .inl (cA0, N, .inr (.inr (.inr (.inr (fun _ => none))))))]) → va_S (AG G) s.heap H1 locs → W p l e R s m args below meth c H1 locs (cells + 1) (slots + N) Q (F0 m (pc + 3) ls (.ref q :: rest))) : W p l e R s m args below meth c H locs cells slots Q (F0 m pc ls (.int n :: rest)) := by
  refine va_newq hx hb hown hclink hover hK.1.1 hP hD hS (fun q h => Nat.le_trans hgl h) hn hN hbytes hcells hslots hdg (fun q cA H1 hK1 hP1 hD1 hS1 => ?_)
  obtain ⟨-, -, -, -, -, -, e1⟩ := hK1.2 4 (cA, .object C) rfl
  obtain ⟨-, -, -, -, -, -, e2⟩ := hK.1.1.2 t0 (cA0, .object C) ht
  have e3 : cA = cA0 := Option.some.inj (e1.symm.trans e2)
  subst e3
  exact kk q H1 hP1 hD1 hS1
/-- an array's cell is told by its places alone -/
theorem z_fun {w1 w2 : va_W} {q n : Nat} {cA : ClassId} {f g : Nat → Option Nat} (hfg : ∀ k : Nat, k < n → f k = g k) (h : va_P (gD G) vwCl (w1 ++ (q, .inl (cA, n, .inr (.inr (.inr (.inr f))))) :: w2) H) : va_P (gD G) vwCl (w1 ++ (q, .inl (cA, n, .inr (.inr (.inr (.inr g))))) :: w2) H := by
  intro k x hx
  by_cases hk : k = w1.length
  · subst hk
    rw [zl_at] at hx
    cases hx
    have h1 := h w1.length (q, .inl (cA, n, .inr (.inr (.inr (.inr f))))) zl_at
    have e1 : vp_cell cA (n, .inr (.inr (.inr (.inr f)))) = vp_cell cA (n, .inr (.inr (.inr (.inr g)))) := by
      rw [vp_cell_q, vp_cell_q]
      exact arrV_cg (fun j hj => by rw [hfg j hj])
    show H[q]? = some (vp_cell cA (n, .inr (.inr (.inr (.inr g)))))
    rw [← e1]
    exact h1
  · refine h k x ?_
    rw [← hx]
    by_cases hl : k < w1.length
    · rw [List.getElem?_append_left hl, List.getElem?_append_left hl]
    · rw [List.getElem?_append_right (by omega), List.getElem?_append_right (by omega)]
      obtain ⟨j, hj⟩ : ∃ j, k - w1.length = j + 1 := ⟨k - w1.length - 1, by omega⟩
      rw [hj, List.getElem?_cons_succ, List.getElem?_cons_succ]
theorem z_funD {w1 w2 : va_W} {q n : Nat} {cA : ClassId} {f g : Nat → Option Nat} (h : va_D (AG G) (w1 ++ (q, .inl (cA, n, .inr (.inr (.inr (.inr f))))) :: w2)) : va_D (AG G) (w1 ++ (q, .inl (cA, n, .inr (.inr (.inr (.inr g))))) :: w2) := by
  have key : ∀ (k : Nat) (x : Nat × va_E), (w1 ++ (q, (.inl (cA, n, .inr (.inr (.inr (.inr g)))) : va_E)) :: w2)[k]? = some x → ∃ y : Nat × va_E, (w1 ++ (q, (.inl (cA, n, .inr (.inr (.inr (.inr f)))) : va_E)) :: w2)[k]? = some y ∧ y.1 = x.1 := by
    intro k x hx
    by_cases hk : k = w1.length
    · subst hk
      rw [zl_at] at hx
      cases hx
      exact ⟨_, zl_at, rfl⟩
    · refine ⟨x, ?_, rfl⟩
      rw [← hx]
      by_cases hl : k < w1.length
      · rw [List.getElem?_append_left hl, List.getElem?_append_left hl]
      · rw [List.getElem?_append_right (by omega), List.getElem?_append_right (by omega)]
        obtain ⟨j, hj⟩ : ∃ j, k - w1.length = j + 1 := ⟨k - w1.length - 1, by omega⟩
        rw [hj, List.getElem?_cons_succ, List.getElem?_cons_succ]
  refine ⟨fun i j x y hx hy hxy => ?_, fun k x hx => ?_⟩
  · obtain ⟨x', hx', ex⟩ := key i x hx
    obtain ⟨y', hy', ey⟩ := key j y hy
    exact h.1 i j x' y' hx' hy' (by rw [ex, ey]; exact hxy)
  · obtain ⟨x', hx', ex⟩ := key k x hx
    rw [← ex]
    exact h.2 k x' hx'
end CTOR
