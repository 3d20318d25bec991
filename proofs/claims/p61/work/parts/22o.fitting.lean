/-! THE REFERENCE'S COUNT OF THE SETS THAT FIT -/
/-! the class's number of the sets -/
theorem x1_of_4 {F : Nat → Nat} {ua : Nat} {G UA : Int32} {aD aL aS' SL SR uP uS : Nat → Int32} (hF : FK F (2 ^ ua)) (hua : ua ≤ 4) (hU : UA = nI ua) (h : ∀ s, s < 2 ^ ua → f_X1_areAllSo (nI s) G UA aD aL aS' SL SR uP uS = some (nI (F s))) : ∀ (f s : Nat), s ≤ 2 ^ ua → 2 ^ ua - s < f → f_X1_of_4 f (nI (mk F s)) (nI s) G UA aD aL aS' SL SR uP uS = some (nI (mk F (2 ^ ua)))
  | 0, _, _, h => absurd h (Nat.not_lt_zero _)
  | f + 1, s, hs, hf => by
    subst hU
    have p16 : 2 ^ ua ≤ 16 := hF.2.2
    rw [f_X1_of_4, rf_pow (by omega)]
    by_cases q : 2 ^ ua ≤ s
    · rw [if_pos ((nI_leI (by omega) (by omega)).mpr q), show s = 2 ^ ua by omega]
    · have IH := x1_of_4 hF hua rfl h f (s + 1) (by omega) (by omega)
      have lt := mk_lt hF.1 s
      rw [if_neg (fun z => q ((nI_leI (by omega) (by omega)).mp z)), h s (by omega), bd_s]
      rcases F_01 hF s with e | e
      · rw [mk, e, Nat.zero_mul, Nat.add_zero] at IH
        rw [e, if_pos nI_0, f_X1_of_30, lt_q, nI_1, show (0 : Int32) = nI 0 from rfl, nI_or, show Nat.lor (mk F s) 0 = mk F s from Nat.or_zero _]
        exact IH
      · rw [mk, e, Nat.one_mul] at IH
        have r : (1 : Int32) <<< (nI s &&& 31) = nI (2 ^ s) := of_decide_eq_true (allB_at (N := 16) (p := fun s => decide ((1 : Int32) <<< (nI s &&& 31) = nI (2 ^ s))) (by decide +kernel) s (by omega))
        rw [e, if_neg (by decide), f_X1_of_30, lt_q, nI_1, r, nI_or, ln_add lt]
        exact IH
def sel (p : Nat → Option Int32) (N s : Nat) : Nat := if p s = some (nI 1) ∧ s < N then 1 else 0
theorem sel_FK (p : Nat → Option Int32) {N : Nat} (h : N ≤ 16) : FK (sel p N) N := ⟨fun s => by unfold sel; split <;> omega, fun s hs => by unfold sel; rw [if_neg (fun z => by omega)], h⟩
theorem sel_at {p : Nat → Option Int32} {N s b : Nat} (hb : b = 0 ∨ b = 1) (e : p s = some (nI b)) (hs : s < N) : sel p N s = b := by
  unfold sel
  rcases hb with rfl | rfl
  · rw [if_neg (fun z => by have := Option.some.inj (e.symm.trans z.1); exact absurd this (by decide))]
  · rw [if_pos ⟨e, hs⟩]
