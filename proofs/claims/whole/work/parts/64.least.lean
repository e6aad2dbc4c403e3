/-! PURE: leastInIt: the greatest one by one is the best of all, and the least such -/
def smM (f : Nat → Nat) (M : Nat → Bool) : Nat → Nat
  | 0 => 0
  | n + 1 => smM f M n + (if M n = true then f n else 0)
def rmM (M : Nat → Bool) (y : Nat) : Nat → Bool := fun i => if i = y then false else M i
theorem sm_congr {f : Nat → Nat} {M K : Nat → Bool} : ∀ n : Nat, (∀ i : Nat, i < n → M i = K i) → smM f M n = smM f K n
  | 0, _ => rfl
  | n + 1, h => by
    show smM f M n + _ = smM f K n + _
    rw [sm_congr n (fun i hi => h i (by omega)), h n (by omega)]
theorem sm_rm {f : Nat → Nat} {M : Nat → Bool} {y : Nat} (hy : M y = true) : ∀ n : Nat, y < n → smM f M n = smM f (rmM M y) n + f y
  | 0, h => absurd h (Nat.not_lt_zero y)
  | n + 1, h => by
    show smM f M n + _ = smM f (rmM M y) n + (if rmM M y n = true then f n else 0) + f y
    by_cases hn : y = n
    · subst hn
      rw [sm_congr y (K := rmM M y) (fun i hi => (if_neg (by omega) : rmM M y i = M i).symm), hy, if_pos rfl, show rmM M y y = false from if_pos rfl, if_neg (by decide)]
      omega
    · rw [sm_rm hy n (by omega), show rmM M y n = M n from if_neg (fun z => hn z.symm)]
      omega
theorem sm_sub {f : Nat → Nat} {M G : Nat → Bool} : ∀ n : Nat, (∀ i : Nat, i < n → M i = true → G i = true) → smM f M n ≤ smM f G n
  | 0, _ => Nat.le_refl 0
  | n + 1, h => by
    have ih := sm_sub (f := f) n (fun i hi => h i (by omega))
    show smM f M n + _ ≤ smM f G n + _
    by_cases hm : M n = true
    · rw [if_pos hm, if_pos (h n (by omega) hm)]; omega
    · rw [if_neg hm]; omega
/-- a step of the greedy way -/
def grM (w : Nat → Nat) (n : Nat) (G H : Nat → Bool) : Prop := (∃ x : Nat, x < n ∧ G x = false ∧ 0 < w x ∧ (∀ y : Nat, y < n → G y = false → w y ≤ w x) ∧ (∀ y : Nat, y < x → G y = false → w y < w x) ∧ H x = true ∧ ∀ i : Nat, i ≠ x → H i = G i) ∨ ((∀ y : Nat, y < n → G y = false → w y = 0) ∧ ∀ i : Nat, H i = G i)
theorem sm_false {f : Nat → Nat} {M : Nat → Bool} : ∀ n : Nat, (∀ i : Nat, M i = false) → smM f M n = 0
  | 0, _ => rfl
  | n + 1, h => by
    show smM f M n + (if M n = true then f n else 0) = 0
    rw [sm_false n h, h n, if_neg (by decide)]
theorem sm_step {w f : Nat → Nat} {n x : Nat} {G H : Nat → Bool} (hx : x < n) (gx : G x = false) (hHx : H x = true) (hH : ∀ i : Nat, i ≠ x → H i = G i) : smM f H n = smM f G n + f x := by
  rw [sm_rm hHx n hx]
  refine congrArg (· + f x) (sm_congr n (fun i hi => ?_))
  by_cases hix : i = x
  · rw [hix, gx]; exact if_pos rfl
  · rw [← hH i hix]; exact if_neg hix
theorem greedy_cd {w : Nat → Nat} {n : Nat} {G : Nat → Nat → Bool} (h0 : ∀ i : Nat, G 0 i = false) (hs : ∀ k : Nat, grM w n (G k) (G (k + 1))) : ∀ N : Nat, smM (fun _ => 1) (G N) n ≤ N
  | 0 => by rw [sm_false n h0]; exact Nat.le_refl 0
  | N + 1 => by
    have ih := greedy_cd h0 hs N
    rcases hs N with ⟨x, hx, gx, wx, hmax, hfirst, hHx, hH⟩ | ⟨hz, hH⟩
    · rw [sm_step (w := w) (f := fun _ => 1) hx gx hHx hH]
      exact Nat.add_le_add_right ih 1
    · rw [sm_congr n (K := G N) (fun i _ => hH i)]
      omega
theorem greedy {w : Nat → Nat} {n : Nat} {G : Nat → Nat → Bool} (h0 : ∀ i : Nat, G 0 i = false) (hs : ∀ k : Nat, grM w n (G k) (G (k + 1))) : ∀ (N : Nat) (M : Nat → Bool), smM (fun _ => 1) M n ≤ N → smM w M n ≤ smM w (G N) n ∧ (smM w M n = smM w (G N) n → smM (fun i => 2 ^ i) (G N) n ≤ smM (fun i => 2 ^ i) M n) := by
  intro N
  induction N with
  | zero =>
    intro M hM
    have hall : ∀ i : Nat, i < n → M i = false := by
      intro i hi
      cases hm : M i
      · rfl
      · have := sm_rm (f := fun _ => 1) hm n hi
        omega
    have e : ∀ f : Nat → Nat, smM f M n = smM f (G 0) n := fun f => sm_congr n (fun i hi => by rw [hall i hi, h0])
    rw [e, e]
    exact ⟨Nat.le_refl _, fun _ => Nat.le_refl _⟩
  | succ N ih =>
    intro M hM
    have inside : (∀ i : Nat, i < n → M i = true → G N i = true) → smM w M n ≤ smM w (G N) n := fun h => sm_sub n h
    rcases hs N with ⟨x, hx, gx, wx, hmax, hfirst, hHx, hH⟩ | ⟨hz, hH⟩
    · have eH : ∀ f : Nat → Nat, smM f (G (N + 1)) n = smM f (G N) n + f x := by
        intro f
        rw [sm_rm hHx n hx]
        refine congrArg (· + f x) (sm_congr n (fun i hi => ?_))
        by_cases hix : i = x
        · rw [hix, gx]; exact if_pos rfl
        · rw [← hH i hix]; exact if_neg hix
      rw [eH, eH]
      by_cases hin : ∀ i : Nat, i < n → M i = true → G N i = true
      · have := inside hin
        exact ⟨by omega, fun q => by omega⟩
      · have ⟨y, hy⟩ := Classical.not_forall.mp hin
        have hy1 : y < n := Classical.byContradiction fun c => hy (fun a => absurd a c)
        have hy2 : M y = true := Classical.byContradiction fun c => hy (fun _ a => absurd a c)
        have hy3 : G N y = false := by
          cases hg : G N y
          · rfl
          · exact absurd (fun _ _ => hg) hy
        have c1 := sm_rm (f := fun _ => 1) hy2 n hy1
        have c2 := sm_rm (f := w) hy2 n hy1
        have c3 := sm_rm (f := fun i => 2 ^ i) hy2 n hy1
        obtain ⟨i1, i2⟩ := ih (rmM M y) (by omega)
        have hw := hmax y hy1 hy3
        refine ⟨by omega, fun q => ?_⟩
        have hwe : w y = w x := by omega
        have hxy : x ≤ y := Classical.byContradiction fun c => absurd (hfirst y (by omega) hy3) (by omega)
        have i3 := i2 (by omega)
        have hp : 2 ^ x ≤ 2 ^ y := Nat.pow_le_pow_right (by decide) hxy
        show smM (fun i => 2 ^ i) (G N) n + 2 ^ x ≤ _
        omega
    · have eH : ∀ f : Nat → Nat, smM f (G (N + 1)) n = smM f (G N) n := fun f => sm_congr n (fun i _ => hH i)
      rw [eH, eH]
      by_cases hc : smM (fun _ => 1) M n ≤ N
      · exact ih M hc
      · by_cases hin : ∀ i : Nat, i < n → M i = true → G N i = true
        · exact absurd (Nat.le_trans (sm_sub (f := fun _ => 1) n hin) (greedy_cd h0 hs N)) hc
        · have ⟨y, hy⟩ := Classical.not_forall.mp hin
          have hy1 : y < n := Classical.byContradiction fun c => hy (fun a => absurd a c)
          have hy2 : M y = true := Classical.byContradiction fun c => hy (fun _ a => absurd a c)
          have hy3 : G N y = false := by
            cases hg : G N y
            · rfl
            · exact absurd (fun _ _ => hg) hy
          have c1 := sm_rm (f := fun _ => 1) hy2 n hy1
          have c2 := sm_rm (f := w) hy2 n hy1
          have c3 := sm_rm (f := fun i => 2 ^ i) hy2 n hy1
          obtain ⟨i1, i2⟩ := ih (rmM M y) (by omega)
          have hw := hz y hy1 hy3
          exact ⟨by omega, fun q => Nat.le_trans (i2 (by omega)) (Nat.le_trans (Nat.le_add_right _ _) (Nat.le_of_eq c3.symm))⟩
