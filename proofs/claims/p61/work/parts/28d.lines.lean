/-! READING THE LINES -/
/-- a number as said, with its sign -/
def SG (x : Int32) (ls : List Nat) : Prop := ∃ v, v ≤ 16 ∧ ((x = nI v ∧ ls = dgs v) ∨ (x = -nI v ∧ 1 ≤ v ∧ ls = 45 :: dgs v))
theorem WW {lo hi v : Nat} {P Q : Int32} (hP : P = nI lo) (hQ : Q = nI hi) (h1 : lo ≤ v) (h2 : v ≤ hi) (h3 : hi < 1000) (fault : Int32) : f_X7_isWholeWithin P Q fault 2 (nI v) = some (1, fault) := by
  rw [hP, hQ, f_X7_isWholeWithin, if_pos rfl, if_neg (nI_nlt h1 (by omega)), if_pos (nI_le h2 (by omega))]
section RTL
variable {tb : Nat → Int32} {e : Nat}
theorem TW {j : Nat} (hj : j < 8) (fault ln nx pl vl : Int32) : f_X7_takesWord j (nI e) fault 1 ln nx pl vl (wdL 0 (WL j)) tb = bd (f_X7_advance (nI e) 1 ln nx pl vl (wdL 0 (WL j)) tb) fun t3 => some ((1 : Int32), fault, t3.1, t3.2.1, t3.2.2.1, t3.2.2.2.1, t3.2.2.2.2.1, t3.2.2.2.2.2) := by
  rw [f_X7_takesWord, WL_w hj hj, if_pos rfl, bd_s, if_neg (by decide)]
theorem TN (he : e ≤ 500) {p : Nat} {ls r : List Nat} {x : Int32} (hx : SG x ls) {j : Nat} (hj : j < 8) (hr : isL (r.headD 0) = false) (h : RT tb e p (32 :: (ls ++ 32 :: (WL j ++ r)))) : ∃ (C : Int32 × Int32 × Int32 × Int32 × Int32 × Int64) (l : Int32) (p' : Nat) (pl' : Int32), (∀ kd ln pl vl wd, f_X7_advance (nI e) kd ln (nI p) pl vl wd tb = some C) ∧ (∀ fault number, f_X7_takesNumber (nI e) fault C.1 C.2.1 C.2.2.1 number C.2.2.2.1 C.2.2.2.2.1 C.2.2.2.2.2 tb = some (1, fault, 1, l, nI p', x, pl', 0, wdL 0 (WL j))) ∧ RT tb e p' r := by
  obtain ⟨v, hv, hx⟩ := hx
  obtain ⟨d1, d2, d3, d4⟩ := dgs_D (show v < 1000 by omega)
  obtain ⟨w1, w2, w3⟩ := WL_l hj
  rcases hx with ⟨rfl, rfl⟩ | ⟨rfl, v1, rfl⟩
  · have a := fun kd ln pl vl wd => A_d he (kd := kd) (ln := ln) (pl := pl) (vl := vl) (wd := wd) (k := 1) (p := p) (r := 32 :: (WL j ++ r)) (by decide) d1 d2 d3 rfl h
    have R := (a 0 0 0 0 0).2
    have b := fun kd ln pl vl wd => A_w he (kd := kd) (ln := ln) (pl := pl) (vl := vl) (wd := wd) (k := 1) (by decide) w1 w2 w3 hr R
    refine ⟨(2, nI (dgs v).length, nI (p + 1 + (dgs v).length), nI (p + 1), nI (vaL 0 (dgs v)), 0), nI (WL j).length, p + 1 + (dgs v).length + 1 + (WL j).length, nI (p + 1 + (dgs v).length + 1), fun kd ln pl vl wd => (a kd ln pl vl wd).1, fun fault number => ?_, (b 0 0 0 0 0).2⟩
    rw [d4, f_X7_takesNumber]
    dsimp only
    rw [if_neg (by decide), f_X7_takesNumber_21, f_X7_takesNumber_22, if_pos rfl, f_X7_takesNumber_31, WW (P := 0) (Q := 99) (lo := 0) (hi := 99) (v := v) rfl rfl (Nat.zero_le _) (by omega) (by decide), bd_s, if_neg (show ¬ (1 : Int32) = 0 by decide), if_pos rfl, f_X7_takesNumber_60, (b _ _ _ _ _).1, bd_s]
  · have a := fun kd ln pl vl wd => A_s he (kd := kd) (ln := ln) (pl := pl) (vl := vl) (wd := wd) (k := 1) (p := p) (b := 45) (r := dgs v ++ 32 :: (WL j ++ r)) (by decide) (Or.inr rfl) h
    have R := (a 0 0 0 0 0).2
    have b := fun kd ln pl vl wd => A_d he (kd := kd) (ln := ln) (pl := pl) (vl := vl) (wd := wd) (k := 0) (r := 32 :: (WL j ++ r)) (by decide) d1 d2 d3 rfl R
    have R2 := (b 0 0 0 0 0).2
    have c := fun kd ln pl vl wd => A_w he (kd := kd) (ln := ln) (pl := pl) (vl := vl) (wd := wd) (k := 1) (by decide) w1 w2 w3 hr R2
    refine ⟨(3, 1, nI (p + 1 + 1), nI (p + 1), nI 45, 0), nI (WL j).length, p + 1 + 1 + 0 + (dgs v).length + 1 + (WL j).length, nI (p + 1 + 1 + 0 + (dgs v).length + 1), fun kd ln pl vl wd => (a kd ln pl vl wd).1, fun fault number => ?_, (c 0 0 0 0 0).2⟩
    rw [f_X7_takesNumber]
    dsimp only
    rw [if_pos rfl, if_pos (show nI 45 = (45 : Int32) from rfl), f_X7_takesNumber_22, if_neg (by decide), (b _ _ _ _ _).1, bd_s, d4]
    dsimp only
    rw [f_X7_takesNumber_31, WW (P := 0) (Q := 99) (lo := 0) (hi := 99) (v := v) rfl rfl (Nat.zero_le _) (by omega) (by decide), bd_s, if_neg (show ¬ (1 : Int32) = 0 by decide), if_neg (show ¬ (1 : Int32) = 0 by decide), f_X7_takesNumber_60, (c _ _ _ _ _).1, bd_s]
/-- the first line -/
theorem HD (he : e ≤ 500) {p g : Nat} {l1 l2 l3 T : List Nat} {x1 x2 x3 : Int32} (h1 : SG x1 l1) (h2 : SG x2 l2) (h3 : SG x3 l3) (hg : g ≤ 100) (h : RT tb e p (32 :: (WL 4 ++ 32 :: (l1 ++ 32 :: (WL 5 ++ 32 :: (l2 ++ 32 :: (WL 6 ++ 32 :: (l3 ++ 32 :: (WL 7 ++ 32 :: (dgs g ++ 59 :: T)))))))))) (cm gr nr sc th fault kd ln num pl vl : Int32) (wd : Int64) : ∃ n' q, f_X7_readsHead cm gr nr sc th (nI e) fault kd ln (nI p) num pl vl wd tb = some (1, 1, nI g, x1, x2, x3, fault, 3, 1, nI (q + 1), n', nI q, nI 59, 0) ∧ RT tb e (q + 1) T := by
  obtain ⟨w1, w2, w3⟩ := WL_l (show 4 < 8 by decide)
  obtain ⟨d1, d2, d3, d4⟩ := dgs_D (show g < 1000 by omega)
  have a := fun kd ln pl vl wd => A_w he (kd := kd) (ln := ln) (pl := pl) (vl := vl) (wd := wd) (k := 1) (p := p) (by decide) w1 w2 w3 rfl h
  have R := (a 0 0 0 0 0).2
  obtain ⟨C1, e1, q1, r1, a1, n1, R1⟩ := TN he h1 (show 5 < 8 by decide) rfl R
  obtain ⟨C2, e2, q2, r2, a2, n2, R2⟩ := TN he h2 (show 6 < 8 by decide) rfl R1
  obtain ⟨C3, e3, q3, r3, a3, n3, R3⟩ := TN he h3 (show 7 < 8 by decide) rfl R2
  have b := fun kd ln pl vl wd => A_d he (kd := kd) (ln := ln) (pl := pl) (vl := vl) (wd := wd) (k := 1) (r := 59 :: T) (by decide) d1 d2 d3 rfl R3
  have R4 := (b 0 0 0 0 0).2
  have c := fun kd ln pl vl wd => A_s he (kd := kd) (ln := ln) (pl := pl) (vl := vl) (wd := wd) (k := 0) (b := 59) (r := T) (by decide) (Or.inl rfl) R4
  refine ⟨x3, q3 + 1 + (dgs g).length + 0, ?_, (c 0 0 0 0 0).2⟩
  rw [f_X7_readsHead, (a _ _ _ _ _).1, bd_s]
  dsimp only
  rw [TW (by decide), a1, bd_s, bd_s]
  dsimp only
  rw [if_neg (show ¬ (1 : Int32) = 0 by decide), n1, bd_s]
  dsimp only
  rw [if_neg (show ¬ (1 : Int32) = 0 by decide), TW (by decide), a2, bd_s, bd_s]
  dsimp only
  rw [if_neg (show ¬ (1 : Int32) = 0 by decide), n2, bd_s]
  dsimp only
  rw [if_neg (show ¬ (1 : Int32) = 0 by decide), TW (by decide), a3, bd_s, bd_s]
  dsimp only
  rw [if_neg (show ¬ (1 : Int32) = 0 by decide), n3, bd_s]
  dsimp only
  rw [if_neg (show ¬ (1 : Int32) = 0 by decide), TW (by decide), (b _ _ _ _ _).1, bd_s, bd_s]
  dsimp only
  rw [if_neg (show ¬ (1 : Int32) = 0 by decide), d4, WW (P := 0) (Q := 100) (lo := 0) (hi := 100) rfl rfl (Nat.zero_le _) hg (by decide), bd_s]
  dsimp only
  rw [if_neg (show ¬ (1 : Int32) = 0 by decide), (c _ _ _ _ _).1, bd_s]
/-- a stack by its name -/
theorem SN_l {c k : Nat} (hc : c ≤ 2) (hk : k < 2) {nm : Nat → Int64} (hn : ∀ j, j < c → nm j = wdL 0 (NL j)) : ∀ (f i : Nat), i ≤ c → c - i < f → i ≤ k → f_X4_stackNamed_2 f (wdL 0 (NL k)) (nI i) (nI c) nm = some (if k < c then nI k else -1)
  | 0, _, _, h, _ => absurd h (Nat.not_lt_zero _)
  | f + 1, i, hi, hf, hik => by
    rw [f_X4_stackNamed_2]
    by_cases q : i = c
    · rw [if_pos (nI_le (by omega) (by omega)), if_neg (by omega)]
    · rw [if_neg (nI_ge (by omega) (by omega)), if_neg (show ¬ (5 : Int32) ≤ nI i from nI_ge (b := 5) (by omega) (by decide)), gd_t _ (nI_in (by omega) (by decide)), nI_clamp (by omega), hn i (by omega)]
      by_cases z : i = k
      · rw [if_pos ((lg_cmp_eq _ _).mpr (by rw [z])), z, if_pos (by omega)]
      · rw [if_neg (fun y => z ((NL_ne (by omega) hk).mp ((lg_cmp_eq _ _).mp y))), nI_1]
        exact SN_l hc hk hn f (i + 1) (by omega) (by omega) (by omega)
theorem SN {c k : Nat} (hc : c ≤ 2) (hk : k < 2) {nm : Nat → Int64} (hn : ∀ j, j < c → nm j = wdL 0 (NL j)) : f_X4_stackNamed (wdL 0 (NL k)) (nI c) nm = some (if k < c then nI k else -1) := by
  rw [f_X4_stackNamed, ← nI_0]
  exact SN_l hc hk hn kFU 0 (Nat.zero_le _) (by unfold kFU; omega) (Nat.zero_le _)
theorem LnS (he : e ≤ 500) {p k n r : Nat} {T : List Nat} (hk : k < 2) (h2 : 2 ≤ n) (h12 : n ≤ 12) (hr : r < 2 ^ n) (hT : isL (T.headD 0) = false) (h : RT tb e p (32 :: (NL k ++ 32 :: (RwL r n ++ T)))) {C : Int32 × Int32 × Int32 × Int32 × Int32 × Int64} (hC : ∀ p', RT tb e p' T → ∀ kd ln pl vl wd, f_X7_advance (nI e) kd ln (nI p') pl vl wd tb = some C) {nm : Nat → Int64} (hn : ∀ j, j < k → nm j = wdL 0 (NL j)) (lens rows : Nat → Int32) (fault kd ln pl vl : Int32) (wd : Int64) : f_X7_readsStack (nI k) (nI e) fault kd ln (nI p) pl vl wd nm lens rows tb = some (1, nI (k + 1), fault, C.1, C.2.1, C.2.2.1, C.2.2.2.1, C.2.2.2.2.1, C.2.2.2.2.2, vp_updL nm k (wdL 0 (NL k)), upd lens k (nI n), upd rows k (nI r)) := by
  have a := fun kd ln pl vl wd => A_w he (kd := kd) (ln := ln) (pl := pl) (vl := vl) (wd := wd) (k := 1) (p := p) (ls := NL k) (r := 32 :: (RwL r n ++ T)) (by decide) (NL_l hk) (show 1 ≤ 2 by decide) (show 2 ≤ 12 by decide) rfl h
  have R : RT tb e (p + 1 + 2) (32 :: (RwL r n ++ T)) := (a 0 0 0 0 0).2
  have ln2 := RwL_len r n
  have b := fun kd ln pl vl wd => A_w he (kd := kd) (ln := ln) (pl := pl) (vl := vl) (wd := wd) (k := 1) (ls := RwL r n) (r := T) (by decide) (RwL_L r n) (by omega) (by omega) hT R
  have R2 := (b 0 0 0 0 0).2
  have R3 := (RT_ap (RwL r n) _ R.2).2
  have le := RT_len _ _ R2
  rw [ln2] at R2 b R3 le
  have rd := RwL_read h2 h12 hr (by omega) R3
  rw [f_X7_readsStack, (a _ _ _ _ _).1, bd_s]
  dsimp only
  rw [show (NL k).length = 2 from rfl, NL_n hk, bd_s, if_neg (by decide), SN (by omega) hk hn, if_neg (Nat.lt_irrefl k), bd_s, if_pos rfl, (b _ _ _ _ _).1, bd_s]
  dsimp only
  rw [if_pos rfl, rd, bd_s, if_neg (nI_neg1 (Nat.lt_of_lt_of_le hr (Nat.le_trans (Nat.pow_le_pow_right (by decide) h12) (by decide)))), f_X4_addStack, if_neg (nI_pos (by omega)), if_neg (show ¬ (5 : Int32) ≤ nI k from nI_ge (b := 5) (by omega) (by decide)), gd_t _ (nI_in (by omega) (by decide)), lt_q, x9_put (by omega), bd_s, lt_q, bd_s, hC _ R2, bd_s, nI_clamp (by omega), nI_1]
theorem ON {c s : Nat} (hc : c ≤ 2) (hs : s < c) {nm : Nat → Int64} (hn : ∀ j, j < c → nm j = wdL 0 (NL j)) (fault : Int32) : f_X7_stackOfName (nI c) fault 1 (nI 2) (wdL 0 (NL s)) nm = some (nI s, fault) := by
  rw [f_X7_stackOfName, NL_n (by omega), bd_s, if_neg (by decide), SN hc (by omega) hn, if_pos hs, bd_s, if_neg (nI_neg1 (by omega))]
theorem LnU (he : e ≤ 500) {p c k s v n : Nat} {T : List Nat} (hc : c ≤ 2) (hs : s < c) (hk : k < 2) (hv : v < n) (h12 : n ≤ 12) (hT : isD (T.headD 0) = false) (h : RT tb e p (32 :: (NL s ++ 32 :: (dgs v ++ T)))) {C : Int32 × Int32 × Int32 × Int32 × Int32 × Int64} (hC : ∀ p', RT tb e p' T → ∀ kd ln pl vl wd, f_X7_advance (nI e) kd ln (nI p') pl vl wd tb = some C) {nm : Nat → Int64} (hn : ∀ j, j < c → nm j = wdL 0 (NL j)) {lens uP uS : Nat → Int32} (hl : lens s = nI n) (hu : f_X4_isUnsure (nI s) (nI v) (nI k) uP uS = some 0) (fault kd ln pl vl : Int32) (wd : Int64) : f_X7_readsUnsure (nI k) (nI c) (nI e) fault kd ln (nI p) pl vl wd nm lens uP uS tb = some (1, nI (k + 1), fault, C.1, C.2.1, C.2.2.1, C.2.2.2.1, C.2.2.2.2.1, C.2.2.2.2.2, upd uP k (nI v), upd uS k (nI s)) := by
  obtain ⟨d1, d2, d3, d4⟩ := dgs_D (show v < 1000 by omega)
  have a := fun kd ln pl vl wd => A_w he (kd := kd) (ln := ln) (pl := pl) (vl := vl) (wd := wd) (k := 1) (p := p) (ls := NL s) (r := 32 :: (dgs v ++ T)) (by decide) (NL_l (by omega)) (show 1 ≤ 2 by decide) (show 2 ≤ 12 by decide) rfl h
  have R : RT tb e (p + 1 + 2) (32 :: (dgs v ++ T)) := (a 0 0 0 0 0).2
  have b := fun kd ln pl vl wd => A_d he (kd := kd) (ln := ln) (pl := pl) (vl := vl) (wd := wd) (k := 1) (ls := dgs v) (r := T) (by decide) d1 d2 d3 hT R
  have R2 := (b 0 0 0 0 0).2
  rw [f_X7_readsUnsure, (a _ _ _ _ _).1, bd_s]
  dsimp only
  rw [show (NL s).length = 2 from rfl, ON hc hs hn, bd_s]
  dsimp only
  rw [if_neg (nI_neg1 (by omega)), (b _ _ _ _ _).1, bd_s]
  dsimp only
  rw [if_pos rfl, d4, hu, bd_s, if_pos rfl, f_X7_readsUnsure_47, x9_steps (by omega), bd_s, hl, nI_m1 (by omega), WW (P := 0) (Q := nI (n - 1)) (lo := 0) rfl rfl (Nat.zero_le _) (show v ≤ n - 1 by omega) (by omega), bd_s]
  dsimp only
  rw [if_neg (by decide), f_X4_addUnsure, x11_set (by decide) (by omega), bd_s, x11_set (by decide) (by omega), bd_s, lt_q, bd_s, hC _ R2, bd_s, nI_1]
theorem LnA (he : e ≤ 500) {p c k s m l : Nat} {T : List Nat} (hc : c ≤ 2) (hs : s < c) (hk : k < 2) (hm : 1 ≤ m) (hm2 : m ≤ 36) (hl : l ≤ 36) (hT : isD (T.headD 0) = false) (h : RT tb e p (32 :: (NL s ++ 32 :: (dgs m ++ 32 :: (dgs l ++ T))))) {C : Int32 × Int32 × Int32 × Int32 × Int32 × Int64} (hC : ∀ p', RT tb e p' T → ∀ kd ln pl vl wd, f_X7_advance (nI e) kd ln (nI p') pl vl wd tb = some C) {nm : Nat → Int64} (hn : ∀ j, j < c → nm j = wdL 0 (NL j)) {aD aL aS : Nat → Int32} (hu : f_X4_isAgreed (nI s) (nI m) (nI k) aD aS = some 0) (fault kd ln pl vl : Int32) (wd : Int64) : f_X7_readsAgreed (nI k) (nI c) (nI e) fault kd ln (nI p) pl vl wd aD aL aS nm tb = some (1, nI (k + 1), fault, C.1, C.2.1, C.2.2.1, C.2.2.2.1, C.2.2.2.2.1, C.2.2.2.2.2, upd aD k (nI m), upd aL k (nI l), upd aS k (nI s)) := by
  obtain ⟨d1, d2, d3, d4⟩ := dgs_D (show m < 1000 by omega)
  obtain ⟨f1, f2, f3, f4⟩ := dgs_D (show l < 1000 by omega)
  have a := fun kd ln pl vl wd => A_w he (kd := kd) (ln := ln) (pl := pl) (vl := vl) (wd := wd) (k := 1) (p := p) (ls := NL s) (r := 32 :: (dgs m ++ 32 :: (dgs l ++ T))) (by decide) (NL_l (by omega)) (show 1 ≤ 2 by decide) (show 2 ≤ 12 by decide) rfl h
  have R : RT tb e (p + 1 + 2) (32 :: (dgs m ++ 32 :: (dgs l ++ T))) := (a 0 0 0 0 0).2
  have b := fun kd ln pl vl wd => A_d he (kd := kd) (ln := ln) (pl := pl) (vl := vl) (wd := wd) (k := 1) (ls := dgs m) (r := 32 :: (dgs l ++ T)) (by decide) d1 d2 d3 rfl R
  have R2 := (b 0 0 0 0 0).2
  have b2 := fun kd ln pl vl wd => A_d he (kd := kd) (ln := ln) (pl := pl) (vl := vl) (wd := wd) (k := 1) (ls := dgs l) (r := T) (by decide) f1 f2 f3 hT R2
  have R3 := (b2 0 0 0 0 0).2
  rw [f_X7_readsAgreed, (a _ _ _ _ _).1, bd_s]
  dsimp only
  rw [show (NL s).length = 2 from rfl, ON hc hs hn, bd_s]
  dsimp only
  rw [if_neg (nI_neg1 (by omega)), (b _ _ _ _ _).1, bd_s]
  dsimp only
  rw [if_pos rfl, d4, hu, bd_s, if_pos rfl, f_X7_readsAgreed_47, WW (P := 1) (Q := 36) (lo := 1) (hi := 36) rfl rfl hm hm2 (by decide), bd_s]
  dsimp only
  rw [if_neg (by decide), (b2 _ _ _ _ _).1, bd_s]
  dsimp only
  rw [f4, WW (P := 0) (Q := 36) (lo := 0) (hi := 36) rfl rfl (Nat.zero_le _) hl (by decide), bd_s]
  dsimp only
  rw [if_neg (by decide), f_X4_addAgreed, x11_set (by decide) (by omega), bd_s, x11_set (by decide) (by omega), bd_s, x11_set (by decide) (by omega), bd_s, lt_q, bd_s, hC _ R3, bd_s, nI_1]
end RTL
