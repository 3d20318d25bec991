/-! A ROUND BEHIND THE STACKS: acts, odds, rows grown, fits -/
section W5
variable {c g ua ga A : Nat} {a1 a2 a3 : Int32} {N R N0 R0 : Nat → Nat} {cL : Nat} {cX : Nat → Int32} {w_bb w_m w_v : Nat → Int32} {σ : k_SB}
theorem l_cell (hL : cL ≤ 260) {k : Nat} (hk : k < 100) : ∃ x, f_L_cell cL cX (nI k) = some x := by
  unfold f_L_cell
  by_cases q : cL ≤ k
  · rw [if_pos (show Int32.ofNat cL ≤ nI k from nI_le q (by omega))]; exact ⟨_, rfl⟩
  · rw [if_neg (show ¬ Int32.ofNat cL ≤ nI k from nI_ge (by omega) (by omega)), gd_t _ (nI_in (by omega) (by omega))]
    exact ⟨_, rfl⟩
theorem d_1847 {k286 : Int32 → (Nat → Int32) → (Nat → Int32) → (Nat → Int32) → k_SB → Option (Int32)} (hC : JC c g a1 a2 a3) (hB : BB w_bb c ua a1 a2 a3 N0 R0) (hL : cL ≤ 260) {ro : Nat} (hro : ro ≤ 3) (K : ∀ (N R : Nat → Nat) (A : Nat) (w_v : Nat → Int32) (σ : k_SB), A ≤ 3 * (ro + 1) → JJ c g ua ga A a1 a2 a3 N R N0 R0 σ → VV w_v c N R → k286 (nI ro + 1) w_bb w_m w_v σ = some 1) : ∀ (f k : Nat) (N R : Nat → Nat) (A : Nat) (w_v : Nat → Int32) (σ : k_SB), k ≤ 3 → 3 - k < f → A ≤ 3 * ro + k → JJ c g ua ga A a1 a2 a3 N R N0 R0 σ → VV w_v c N R → f_L_law_1847 cL cX k286 f (nI ro) (nI k) w_bb w_m w_v σ = some 1
  | 0, _, _, _, _, _, _, _, hf, _, _, _ => absurd hf (Nat.not_lt_zero _)
  | f + 1, k, N, R, A, w_v, σ, hk, hf, hA, hJ, hV => by
    rw [f_L_law_1847]
    by_cases q : k = 3
    · rw [q, if_pos (show (3 : Int32) ≤ nI 3 by decide)]
      exact K N R A w_v σ (by omega) hJ hV
    · rw [if_neg (show ¬ (3 : Int32) ≤ nI k from nI_ge (b := 3) (by omega) (by decide))]
      obtain ⟨x, ex⟩ := l_cell (cX := cX) hL (k := 7 + 3 * ro + k) (by omega)
      have e : ((7 : Int32) + ((3 : Int32) * nI ro)) + nI k = nI (7 + 3 * ro + k) := by
        rw [show (3 : Int32) * nI ro = nI (3 * ro) from pk_mul 3 _, show (7 : Int32) + nI (3 * ro) = nI (7 + 3 * ro) from nI_add 7 _, nI_add]
      obtain ⟨y, w', σ', N', R', A', ea, h0, h1, h2, h3⟩ := d_act hC hB.1 (by omega) hJ hV x
      rw [e, ex, bd_s, ea, bd_s, if_pos h0, nI_1]
      exact d_1847 hC hB hL hro K f (k + 1) N' R' A' w' σ' (by omega) (by omega) (by omega) h2 h3
theorem d_1629 {k286 : Int32 → (Nat → Int32) → (Nat → Int32) → (Nat → Int32) → k_SB → Option (Int32)} (hC : JC c g a1 a2 a3) (hB : BB w_bb c ua a1 a2 a3 N0 R0) (hL : cL ≤ 260) {ro : Nat} (hro : ro ≤ 3) (K : ∀ (N R : Nat → Nat) (A : Nat) (w_v : Nat → Int32) (σ : k_SB), A ≤ 3 * (ro + 1) → JJ c g ua ga A a1 a2 a3 N R N0 R0 σ → VV w_v c N R → k286 (nI ro + 1) w_bb w_m w_v σ = some 1) (hA : A ≤ 3 * ro) (hV : VV w_v c N R) {x6 : Int32} {n : Nat} (h1 : 1 ≤ n) (h8 : n ≤ 8) : ∀ (f k : Nat) (σ : k_SB), k ≤ 7 → 7 - k < f → JJ c g ua ga A a1 a2 a3 N R N0 R0 σ → f_L_law_1629 cL cX k286 f (nI ro) x6 (nI n) (nI k) w_bb w_m w_v σ = some 1
  | 0, _, _, _, hf, _ => absurd hf (Nat.not_lt_zero _)
  | f + 1, k, σ, hk, hf, hJ => by
    rw [f_L_law_1629]
    by_cases q : k = 7
    · rw [q, if_pos (show (7 : Int32) ≤ nI 7 by decide)]
      obtain ⟨x, d, m1, m2, m3, m4, z⟩ := z_mean (c := c) (g := g) (ua := ua) (ga := ga) (A := A) (a1 := a1) (a2 := a2) (a3 := a3) (N := N) (R := R) (N0 := N0) (R0 := R0) hC h1 h8
      have p7 : (100 : Nat) ^ 7 = 100000000000000 := by decide
      have nd : n * d ≤ 8 * 100 ^ 7 := Nat.mul_le_mul h8 m4
      have dT : (lN d).toInt = (d : Int) := pk_lT (by omega)
      have ndT : ((nI n).toInt64 * lN d).toInt = ((n * d : Nat) : Int) := by
        rw [nI_l (by omega), lN_mul, pk_lT (by omega)]
      have nm : ((-nI n).toInt64 * lN d).toInt = -((n * d : Nat) : Int) := by
        have e1 : ((-nI n).toInt64).toInt = -(n : Int) := by
          rw [Int32.toInt_toInt64, (ib_neg (x := nI n) (A := 12) (nI_ib (by omega)) (by decide)).1, nI_toInt (by omega)]
        rw [Int64.toInt_mul, e1, dT, show -(n : Int) * (d : Int) = -((n * d : Nat) : Int) by rw [Int.neg_mul, Int.natCast_mul]]
        exact ibL_bmod (A := n * d) (by rw [Int.natAbs_neg, Int.natAbs_natCast]; exact Nat.le_refl _) (by omega)
      refine bz ((z hJ).1) fun o σ v hJ => ?_
      rw [v]
      refine bz ((z hJ).2) fun o σ v hJ => ?_
      rw [v]
      refine ifn (fun y => ?_) ?_
      · have y := (lg_cmp_gt _ _).mp y
        rw [Int64.lt_iff_toInt_lt, ndT] at y
        omega
      refine bz ((z hJ).1) fun o σ v hJ => ?_
      rw [v]
      refine bz ((z hJ).2) fun o σ v hJ => ?_
      rw [v]
      refine ifn (fun y => ?_) ?_
      · have y := (lg_cmp_lt _ _).mp y
        rw [Int64.lt_iff_toInt_lt, nm] at y
        omega
      refine bz ((z hJ).2) fun o σ v hJ => ?_
      rw [v]
      rw [if_pos ((lg_cmp_ge _ _).mpr (show (1 : Int64) ≤ lN d from (pk_lLE (a := 1) (by decide) (by omega)).mpr m3))]
      obtain ⟨e, he, ee⟩ := pk_andE (x6 >>> ((3 : Int32) &&& 31)) (m := (65535 : Int32)) 16 rfl
      rw [ee, lt_q]
      have g1 := sgw_b g e (n - 1)
      have g2 := sbe_b g e (n - 1)
      have g3 := sbe_up g e (n - 1)
      have g4 := sgw_half g e (n - 1)
      have n1 : n - 1 + 1 = n := by omega
      rw [n1] at g1 g2 g3 g4
      have p8 : (2 : Nat) ^ n ≤ 2 ^ 8 := Nat.pow_le_pow_right (by decide) h8
      have g5 := sgw_b g e n
      have p9 : (2 : Nat) ^ (n + 1) ≤ 2 ^ 9 := Nat.pow_le_pow_right (by decide) (by omega)
      have g6 := sbe_b g e n
      refine bz (z_grown hC hJ (show e ≤ 65536 by omega) h1 (show n ≤ 12 by omega)) fun o σ v hJ => ?_
      rw [v]
      refine bz (z_longest hC hJ (show e ≤ 65536 by omega) h1 (show n ≤ 200 by omega)) fun o σ v hJ => ?_
      rw [v]
      rw [nI_m1 h1, rf_pow (by omega), if_neg (nI_nlt g1.1 (by omega)), rf_pow (by omega), if_neg (nI_ge g1.2 (by omega)), if_neg (show ¬ nI (sbe g e (n - 1)) < (1 : Int32) from nI_nlt (b := 1) g2.1 (by omega)), if_neg (nI_nlt g2.2 (by omega)), nI_1]
      refine bz (z_longest hC hJ (show e ≤ 65536 by omega) (show 1 ≤ n + 1 by omega) (show n + 1 ≤ 200 by omega)) fun o σ v hJ => ?_
      rw [v]
      rw [show n + 1 - 1 = n from rfl, if_neg (nI_nlt g3 (by omega))]
      refine bz (z_grown hC hJ (show e ≤ 65536 by omega) (show 1 ≤ n + 1 by omega) (show n + 1 ≤ 12 by omega)) fun o σ v hJ => ?_
      rw [v]
      rw [show n + 1 - 1 = n from rfl, show nI (sgw g e n) / (2 : Int32) = nI (sgw g e n / 2) from pk_div (by omega) (by decide) (by decide), g4, if_pos rfl]
      exact d_1847 hC hB hL hro K kFU 0 N R A w_v σ (by decide) (by decide) (by omega) hJ hV
    · rw [if_neg (show ¬ (7 : Int32) ≤ nI k from nI_ge (b := 7) (by omega) (by decide))]
      obtain ⟨u, d, o1, o2, o3, z⟩ := z_odds (c := c) (g := g) (ua := ua) (ga := ga) (A := A) (a1 := a1) (a2 := a2) (a3 := a3) (N := N) (R := R) (N0 := N0) (R0 := R0) hC h1 h8 (show k ≤ 6 by omega)
      have ih : ∀ σ, JJ c g ua ga A a1 a2 a3 N R N0 R0 σ → f_L_law_1683 cL cX k286 (fun x5 x6 x9 x10 w_bb w_m w_v σ => f_L_law_1629 cL cX k286 f x5 x6 x9 x10 w_bb w_m w_v σ) (nI ro) x6 (nI n) (nI k) w_bb w_m w_v σ = some 1 := fun σ hJ => by
        rw [f_L_law_1683, nI_1]
        exact d_1629 hC hB hL hro K hA hV h1 h8 f (k + 1) σ (by omega) (by omega) hJ
      refine bz ((z hJ).1) fun o σ v hJ => ?_
      rw [v]
      refine bz ((z hJ).2) fun o σ v hJ => ?_
      rw [v]
      refine ifn (fun y => ?_) ?_
      · have y := (lg_cmp_gt _ _).mp y
        have := (pk_lLT (by omega) (by omega)).mp y
        omega
      rw [nI_m1 h1]
      by_cases w : k < n - 1
      · rw [if_pos (nI_lt w (by omega))]
        exact ih σ hJ
      · rw [if_neg (nI_nlt (by omega) (by omega))]
        refine bz ((z hJ).1) fun o σ v hJ => ?_
        rw [v]
        rw [o3 (by omega), if_pos (show lg_cmp (lN 1) 1 = 0 from (lg_cmp_eq _ _).mpr rfl)]
        exact ih σ hJ
/-- the fits are the set of sets B -/
def ZQ (ua ga B : Nat) (σ : k_SB) : Prop := ZF ua ga B σ ∧ ((∀ j, j < ga → f_X1_isSo (nI j) (nI 0) (nI ua) (σ.2.2.1 20) (σ.2.2.1 21) (σ.2.2.1 22) (σ.2.2.1 23) (σ.2.2.1 24) (σ.2.2.1 25) (σ.2.2.1 26) = some 1) → FB B 0 = 1)
def JF (c g ua ga A : Nat) (a1 a2 a3 : Int32) (N R N0 R0 : Nat → Nat) (B : Nat) (σ : k_SB) : Prop := JJ c g ua ga A a1 a2 a3 N R N0 R0 σ ∧ ZQ ua ga B σ
theorem zf {α β : Type} {x : Option (α × β)} {u : α × β → k_SB} {v : α} {B : Nat} (h : ∃ o, x = some o ∧ o.1 = v ∧ JJ c g ua ga A a1 a2 a3 N R N0 R0 (u o)) (hq : ∀ o, ZQ ua ga B (u o)) : ∃ o, x = some o ∧ o.1 = v ∧ JF c g ua ga A a1 a2 a3 N R N0 R0 B (u o) := by
  obtain ⟨o, a, b, p⟩ := h
  exact ⟨o, a, b, p, hq o⟩
abbrev lst (B K i : Nat) : Int32 := if i = 0 then -1 else fd (FB B) (i - 1) K
theorem d_1559 {k286 : Int32 → (Nat → Int32) → (Nat → Int32) → (Nat → Int32) → k_SB → Option (Int32)} (hC : JC c g a1 a2 a3) (hB : BB w_bb c ua a1 a2 a3 N0 R0) (hL : cL ≤ 260) {ro : Nat} (hro : ro ≤ 3) (K : ∀ (N R : Nat → Nat) (A : Nat) (w_v : Nat → Int32) (σ : k_SB), A ≤ 3 * (ro + 1) → JJ c g ua ga A a1 a2 a3 N R N0 R0 σ → VV w_v c N R → k286 (nI ro + 1) w_bb w_m w_v σ = some 1) (hA : A ≤ 3 * ro) (hV : VV w_v c N R) {x6 : Int32} {B : Nat} (hu : ua ≤ 2) (hb : B < 2 ^ 2 ^ ua) (fk : FK (FB B) (2 ^ ua)) : ∀ (f i : Nat) (σ : k_SB), i ≤ sm (FB B) (2 ^ ua) → sm (FB B) (2 ^ ua) - i < f → JF c g ua ga A a1 a2 a3 N R N0 R0 B σ → f_L_law_1559 cL cX k286 f (nI ro) x6 (nI (sm (FB B) (2 ^ ua))) (lst B (2 ^ ua) i) (nI i) w_bb w_m w_v σ = some 1
  | 0, _, _, _, hf, _ => absurd hf (Nat.not_lt_zero _)
  | f + 1, i, σ, hi, hf, hF => by
    obtain ⟨f1, f2, f3, f4, f5⟩ := fOK_at hu hb
    have p4 : (2 : Nat) ^ ua ≤ 2 ^ 2 := Nat.pow_le_pow_right (by decide) hu
    rw [f_L_law_1559]
    by_cases q : i = sm (FB B) (2 ^ ua)
    · rw [q, if_pos (Int32.le_refl _)]
      obtain ⟨m, hm, em⟩ := pk_andE x6 (m := (7 : Int32)) 3 rfl
      rw [em, show (1 : Int32) + nI m = nI (1 + m) from nI_add 1 m, lt_q]
      exact d_1629 hC hB hL hro K hA hV (by omega) (by omega) kFU 0 σ (by decide) (by decide) hF.1
    · have hi' : i < sm (FB B) (2 ^ ua) := by omega
      obtain ⟨k1, k2, k3, k4, k5⟩ := f5 i hi'
      rw [if_neg (nI_ge hi' (by omega))]
      refine bz (zf (z_fitAt hC hF.1 fk hF.2.1 (show i < 2 ^ 31 by omega) k1) (fun o => (hF.2 : ZQ ua ga B (ux_fitAt σ o)))) fun o σ v hF => ?_
      rw [v]
      refine ifn (fun y => ?_) ?_
      · by_cases i0 : i = 0
        · rw [show lst B (2 ^ ua) i = -1 from if_pos i0] at y
          exact absurd (Int32.lt_of_lt_of_le (k2 i0) y) Int32.lt_irrefl
        · rw [show lst B (2 ^ ua) i = fd (FB B) (i - 1) (2 ^ ua) from if_neg i0] at y
          exact absurd (Int32.lt_of_lt_of_le (k3 i0) y) Int32.lt_irrefl
      refine bz (zf (z_could hC hF.1 fk hF.2.1) (fun o => (hF.2 : ZQ ua ga B (ux_could σ o)))) fun o σ v hF => ?_
      rw [v]
      rw [k4, if_pos rfl]
      refine bz (zf (z_surely hC hF.1 fk hF.2.1) (fun o => (hF.2 : ZQ ua ga B (ux_surely σ o)))) fun o σ v hF => ?_
      rw [v]
      rw [k5, if_pos rfl, nI_1]
      have ih := d_1559 hC hB hL hro K hA hV (x6 := x6) hu hb fk f (i + 1) σ (by omega) (by omega) hF
      rw [show lst B (2 ^ ua) (i + 1) = fd (FB B) i (2 ^ ua) from if_neg (Nat.succ_ne_zero i)] at ih
      exact ih
theorem d_1496 {k286 : Int32 → (Nat → Int32) → (Nat → Int32) → (Nat → Int32) → k_SB → Option (Int32)} (hC : JC c g a1 a2 a3) (hB : BB w_bb c ua a1 a2 a3 N0 R0) (hL : cL ≤ 260) {ro : Nat} (hro : ro ≤ 3) (K : ∀ (N R : Nat → Nat) (A : Nat) (w_v : Nat → Int32) (σ : k_SB), A ≤ 3 * (ro + 1) → JJ c g ua ga A a1 a2 a3 N R N0 R0 σ → VV w_v c N R → k286 (nI ro + 1) w_bb w_m w_v σ = some 1) (hA : A ≤ 3 * ro) (hV : VV w_v c N R) {x6 : Int32} {B : Nat} (hu : ua ≤ 2) (hb : B < 2 ^ 2 ^ ua) (fk : FK (FB B) (2 ^ ua)) (σ : k_SB) (hF : JF c g ua ga A a1 a2 a3 N R N0 R0 B σ) : f_L_law_1496 cL cX k286 (nI ro) x6 (nI (sm (FB B) (2 ^ ua))) w_bb w_m w_v σ = some 1 := by
  obtain ⟨f1, f2, f3, f4, f5⟩ := fOK_at hu hb
  have p4 : (2 : Nat) ^ ua ≤ 2 ^ 2 := Nat.pow_le_pow_right (by decide) hu
  have go : ∀ (x : Int32) σ, JF c g ua ga A a1 a2 a3 N R N0 R0 B σ → f_L_law_1534 cL cX k286 (nI ro) x6 (nI (sm (FB B) (2 ^ ua))) x x w_bb w_m w_v σ = some 1 := fun x σ hF => by
    rw [f_L_law_1534, if_pos rfl]
    refine bz (zf (z_surely hC hF.1 fk hF.2.1) (fun o => (hF.2 : ZQ ua ga B (ux_surely σ o)))) fun o σ v hF => ?_
    rw [v]
    refine bz (zf (z_could hC hF.1 fk hF.2.1) (fun o => (hF.2 : ZQ ua ga B (ux_could σ o)))) fun o σ v hF => ?_
    rw [v]
    rw [f3, if_pos rfl]
    exact d_1559 hC hB hL hro K hA hV hu hb fk kFU 0 σ (Nat.zero_le _) (by unfold kFU; omega) hF
  have b9 : (9 : Int32).toNatClampNeg = 9 := by decide
  rw [f_L_law_1496]
  refine bz (zf (z_askLeaves hC hF.1 fk hF.2.1) (fun o => (hF.2 : ZQ ua ga B (ux_askLeaves σ o)))) fun o σ v hF => ?_
  rw [v]
  by_cases q : sm (FB B) (2 ^ ua) = 0 ∨ ua = 0
  · rw [if_pos q, if_neg (fun y => absurd (Int32.lt_of_lt_of_le y (show (-2 : Int32) ≤ 0 by decide)) (nI_pos (by omega)))]
    refine bz (zf (z_ask hC hF.1 fk hF.2.1) (fun o => (hF.2 : ZQ ua ga B (ux_ask σ o)))) fun o σ v hF => ?_
    rw [v]
    rw [if_pos q, if_neg (show ¬ (0 : Int32) ≤ -2 by decide), f_L_law_1517]
    by_cases z : sm (FB B) (2 ^ ua) = 0
    · rw [if_pos (show nI (sm (FB B) (2 ^ ua)) = 0 by rw [z]; exact nI_0), f_L_law_1529]
      exact go _ σ hF
    · have u0 : ua = 0 := by rcases q with q | q
                             · exact absurd q z
                             · exact q
      rw [if_neg (nI_ne0 (by omega) (by omega)), gd_t _ (by decide), b9, hB.2.1, if_pos (show nI ua = 0 by rw [u0]; exact nI_0), f_L_law_1529]
      exact go _ σ hF
  · have l := f2 q
    have z : sm (FB B) (2 ^ ua) ≠ 0 := fun y => q (Or.inl y)
    have u0 : ua ≠ 0 := fun y => q (Or.inr y)
    have bl := bQ_le (FB B) (2 ^ ua) (ua - 1)
    rw [if_neg q, if_neg (nI_nlt l (by omega))]
    refine bz (zf (z_ask hC hF.1 fk hF.2.1) (fun o => (hF.2 : ZQ ua ga B (ux_ask σ o)))) fun o σ v hF => ?_
    rw [v]
    rw [if_neg q, if_pos (nI_pos' (by omega)), f_L_law_1517, if_neg (nI_ne0 (by omega) (by omega)), gd_t _ (by decide), b9, hB.2.1, if_neg (nI_ne0 (by omega) (by omega))]
    exact go _ σ hF
end W5
