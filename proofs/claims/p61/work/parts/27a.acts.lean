/-! AN ACT BY A CELL -/
section W4
variable {c g ua ga A : Nat} {a1 a2 a3 : Int32} {N R N0 R0 : Nat → Nat} {w_bb w_v : Nat → Int32} {σ : k_SB}
/-- what the law remembers of the stacks -/
def VV (w : Nat → Int32) (c : Nat) (N R : Nat → Nat) : Prop := ∀ s, s < c → w s = nI (N s) ∧ w (2 + s) = nI (R s)
theorem VV_r {w : Nat → Int32} {s r' k : Nat} (hk : k = 2 + s) (hc : c ≤ 2) (h : VV w c N R) (hs : s < c) : VV (upd w k (nI r')) c (upN N s (N s)) (upN R s r') := fun t ht => by
  subst hk
  by_cases e : t = s
  · subst e
    rw [upN_s, upN_s, pk_us, pk_un (by omega)]
    exact ⟨(h t ht).1, rfl⟩
  · rw [upN_n _ e, upN_n _ e, pk_un (by omega), pk_un (by omega)]
    exact h t ht
theorem VV_n {w : Nat → Int32} {s n' r' j k : Nat} (hj : j = s) (hk : k = 2 + s) (hc : c ≤ 2) (h : VV w c N R) (hs : s < c) : VV (upd (upd w j (nI n')) k (nI r')) c (upN N s n') (upN R s r') := fun t ht => by
  subst hk hj
  by_cases e : t = j
  · subst e
    rw [upN_s, upN_s, pk_us, pk_un (by omega), pk_us]
    exact ⟨rfl, rfl⟩
  · rw [upN_n _ e, upN_n _ e, pk_un (by omega), pk_un (by omega), pk_un (by omega), pk_un (by omega)]
    exact h t ht
def AOK (c g ua ga A : Nat) (a1 a2 a3 : Int32) (N0 R0 : Nat → Nat) (r : Option (Int32 × (Nat → Int32) × k_SB)) : Prop := ∃ x w' σ' N' R' A', r = some (x, w', σ') ∧ 0 ≤ x ∧ A' ≤ A + 1 ∧ JJ c g ua ga A' a1 a2 a3 N' R' N0 R0 σ' ∧ VV w' c N' R'
theorem d_act (hC : JC c g a1 a2 a3) (hB : w_bb 4 = nI c) (hA : A ≤ 15) (hJ : JJ c g ua ga A a1 a2 a3 N R N0 R0 σ) (hV : VV w_v c N R) (t : Int32) : AOK c g ua ga A a1 a2 a3 N0 R0 (f_L_act t w_bb w_v σ) := by
  have hc2 := hC.2.1
  have hc1 := hC.1
  obtain ⟨b, hb, eb⟩ := pk_andE (t >>> ((3 : Int32) &&& 31)) (m := (1 : Int32)) 1 rfl
  obtain ⟨m, hm, em⟩ := pk_andE t (m := (7 : Int32)) 3 rfl
  rw [f_L_act, gd_t _ (by decide), b4r, hB, gd_t _ (nI_ne0 (by omega) (by omega)), eb, pk_rem (by omega) (by omega) (by omega), lt_q]
  have hs : b % c < c := Nat.mod_lt _ (by omega)
  generalize b % c = s at hs ⊢
  obtain ⟨n2, n12, nr⟩ := JJ_s hJ hs
  have rl : R s < 4096 := Nat.lt_of_lt_of_le nr (Nat.pow_le_pow_right (by decide) n12)
  have i1 : inR (nI s) 4 := nI_in (by omega) (by decide)
  have i2 : inR (nI (2 + s)) 4 := nI_in (by omega) (by decide)
  have c1 : (nI s).toNatClampNeg = s := nI_clamp (by omega)
  have c2 : (nI (2 + s)).toNatClampNeg = 2 + s := nI_clamp (by omega)
  have v1 : w_v (nI s).toNatClampNeg = nI (N s) := by rw [c1]; exact (hV s hs).1
  have v2 : w_v (nI (2 + s)).toNatClampNeg = nI (R s) := by rw [c2]; exact (hV s hs).2
  rw [show (2 : Int32) + nI s = nI (2 + s) from nI_add 2 s, gd_t _ i1, v1, lt_q, em, lt_q]
  by_cases q3 : m < 3
  · obtain ⟨k0, hk0, ek⟩ := pk_andE (t >>> ((4 : Int32) &&& 31)) (m := (15 : Int32)) 4 rfl
    rw [if_neg (show ¬ (3 : Int32) ≤ nI m from nI_ge (b := 3) q3 (by decide)), gd_t _ (nI_ne0 (by omega) (by omega)), ek, pk_rem (by omega) (by omega) (by omega), lt_q]
    have hk : k0 % N s < N s := Nat.mod_lt _ (by omega)
    generalize k0 % N s = k at hk ⊢
    rw [gd_t _ i2, v2, l_slipped n12 hk, bd_s, gd_t _ i2, lt_q]
    obtain ⟨o, e, v, hj⟩ := z_slip hC hJ hA hs hk
    rw [e, bd_s, lt_q, gd_t _ i2, v, pk_us, if_pos rfl]
    exact ⟨1, _, _, _, _, _, rfl, by decide, Nat.le_refl _, hj, VV_r c2 hc2 hV hs⟩
  · rw [if_pos (show (3 : Int32) ≤ nI m from nI_le (a := 3) (by omega) (by omega))]
    by_cases m3 : m = 3
    · rw [if_pos (show nI m = (3 : Int32) from congrArg nI m3), gd_t _ i2, v2, l_turn (by omega) n12 nr, bd_s, gd_t _ i2, lt_q]
      obtain ⟨o, e, v, hj⟩ := z_turn hC hJ hA hs
      rw [e, bd_s, lt_q, gd_t _ i2, v, pk_us, if_pos rfl]
      exact ⟨1, _, _, _, _, _, rfl, by decide, Nat.le_refl _, hj, VV_r c2 hc2 hV hs⟩
    · rw [if_neg (show ¬ nI m = (3 : Int32) from fun z => m3 ((nI_eq (b := 3) (by omega) (by decide)).mp z))]
      by_cases m4 : m = 4
      · rw [if_pos (show nI m = (4 : Int32) from congrArg nI m4), gd_t _ i2, v2, l_twin (by omega) n12 nr, bd_s, gd_t _ i2, lt_q]
        obtain ⟨o, e, v, hj⟩ := z_twin hC hJ hA hs
        rw [e, bd_s, lt_q, gd_t _ i2, v, pk_us, if_pos rfl]
        exact ⟨1, _, _, _, _, _, rfl, by decide, Nat.le_refl _, hj, VV_r c2 hc2 hV hs⟩
      · rw [if_neg (show ¬ nI m = (4 : Int32) from fun z => m4 ((nI_eq (b := 4) (by omega) (by decide)).mp z))]
        by_cases m5 : m = 5
        · rw [if_pos (show nI m = (5 : Int32) from congrArg nI m5)]
          by_cases f : N s = 12
          · rw [if_pos (show nI (N s) = (12 : Int32) from congrArg nI f)]
            obtain ⟨o, e, v, tr, hj⟩ := z_grow12 hJ hs f (1 : Int32)
            rw [e, bd_s, lt_q, v, if_pos rfl, show fx_trouble (ux_grow σ o) = some ((ux_grow σ o).1 0) from rfl, bd_s, lt_q, tr, if_pos rfl]
            exact ⟨0, _, _, _, _, _, rfl, by decide, Nat.le_succ _, hj, hV⟩
          · rw [if_neg (show ¬ nI (N s) = (12 : Int32) from fun z => f ((nI_eq (b := 12) (by omega) (by decide)).mp z))]
            have go : ∀ b : Nat, b ≤ 1 → ∀ x : Int32, x = nI b → AOK c g ua ga A a1 a2 a3 N0 R0 (f_L_act_228 (nI s) (nI (N s)) x w_bb w_v σ) := fun b hb x hx => by
              have un : upd w_v (nI s).toNatClampNeg (nI (N s + 1)) (nI (2 + s)).toNatClampNeg = nI (R s) := by rw [pk_un (by rw [c1, c2]; omega)]; exact v2
              rw [f_L_act_228, gd_t _ i1, v1, nI_1, lt_q, gd_t _ i1, lt_q, show (2 : Int32) + nI s = nI (2 + s) from nI_add 2 s, gd_t _ i2, un, show (2 : Int32) * nI (R s) = nI (2 * R s) from pk_mul 2 _]
              obtain ⟨o, e, v, hj⟩ := z_grow hC hJ hA hs (by omega) hb
              have fi : AOK c g ua ga A a1 a2 a3 N0 R0 (f_L_act_261 (nI s) (nI (N s)) (nI b) (nI (2 + s)) (nI (2 * R s)) (nI b) w_bb (upd w_v (nI s).toNatClampNeg (nI (N s + 1))) σ) := by
                rw [f_L_act_261, nI_add, lt_q, gd_t _ i2, lt_q, e, bd_s, lt_q, v, nI_1, if_pos rfl]
                exact ⟨1, _, _, _, _, _, rfl, by decide, Nat.le_refl _, hj, VV_n c1 c2 hc2 hV hs⟩
              rcases (by omega : b = 0 ∨ b = 1) with rfl | rfl
              · rw [hx, if_pos (show nI 0 = 0 from nI_0)]; exact fi
              · rw [hx, if_neg (show ¬ nI 1 = (0 : Int32) by decide)]; exact fi
            by_cases z : ((t >>> ((4 : Int32) &&& 31)) &&& (1 : Int32)) = (1 : Int32)
            · rw [if_pos z]; exact go 1 (by decide) _ rfl
            · rw [if_neg z]; exact go 0 (by decide) _ rfl
        · rw [if_neg (show ¬ nI m = (5 : Int32) from fun z => m5 ((nI_eq (b := 5) (by omega) (by decide)).mp z))]
          by_cases f : N s = 2
          · rw [if_pos (show nI (N s) = (2 : Int32) from congrArg nI f)]
            obtain ⟨o, e, v, tr, hj⟩ := z_cut2 hJ hs f
            rw [e, bd_s, lt_q, v, if_pos rfl, show fx_trouble (ux_cut σ o) = some ((ux_cut σ o).1 0) from rfl, bd_s, lt_q, tr, if_pos rfl]
            exact ⟨0, _, _, _, _, _, rfl, by decide, Nat.le_succ _, hj, hV⟩
          · have un : upd w_v (nI s).toNatClampNeg (nI (N s - 1)) (nI (2 + s)).toNatClampNeg = nI (R s) := by rw [pk_un (by rw [c1, c2]; omega)]; exact v2
            rw [if_neg (show ¬ nI (N s) = (2 : Int32) from fun z => f ((nI_eq (b := 2) (by omega) (by decide)).mp z)), gd_t _ i1, nI_m1 (by omega), lt_q, gd_t _ i1, lt_q, gd_t _ i2, un, show nI (R s) / (2 : Int32) = nI (R s / 2) from pk_div (by omega) (by decide) (by decide), lt_q, gd_t _ i2, lt_q]
            obtain ⟨o, e, v, hj⟩ := z_cut hC hJ hA hs (by omega)
            rw [e, bd_s, lt_q, v, if_pos rfl]
            exact ⟨1, _, _, _, _, _, rfl, by decide, Nat.le_refl _, hj, VV_n c1 c2 hc2 hV hs⟩
end W4
