/-! THE WHOLE TEXT READ -/
def many (f : Nat → List Nat) : Nat → Nat → List Nat
  | _, 0 => []
  | i, m + 1 => f i ++ many f (i + 1) m
def liS (N0 R0 : Nat → Nat) (k : Nat) : List Nat := 59 :: (WL 1 ++ 32 :: (NL k ++ 32 :: RwL (R0 k) (N0 k)))
def liU (us up : Nat → Nat) (k : Nat) : List Nat := 59 :: (WL 2 ++ 32 :: (NL (us k) ++ 32 :: dgs (up k)))
def liA (as_ am al : Nat → Nat) (k : Nat) : List Nat := 59 :: (WL 3 ++ 32 :: (NL (as_ k) ++ 32 :: (dgs (am k) ++ 32 :: dgs (al k))))
theorem isU0 {k s v : Nat} (hk : k ≤ 2) {us up : Nat → Nat} {uP uS : Nat → Int32} (h : ∀ i, i < k → uS i = nI (us i) ∧ uP i = nI (up i) ∧ us i < 100 ∧ up i < 100) (hs : s < 100) (hv : v < 100) (ne : ∀ i, i < k → ¬ (us i = s ∧ up i = v)) : ∀ (f i : Nat), i ≤ k → k - i < f → f_X4_isUnsure_2 f (nI s) (nI v) (nI i) (nI k) uP uS = some 0
  | 0, _, _, h => absurd h (Nat.not_lt_zero _)
  | f + 1, i, hi, hf => by
    rw [f_X4_isUnsure_2]
    by_cases q : i = k
    · rw [q, if_pos (Int32.le_refl _)]
    · obtain ⟨a, b, l1, l2⟩ := h i (by omega)
      have ih := isU0 hk h hs hv ne f (i + 1) (by omega) (by omega)
      rw [if_neg (nI_ge (by omega) (by omega)), x11_at (by decide) (by omega), bd_s, a]
      by_cases z : us i = s
      · have y : ¬ up i = v := fun y => ne i (by omega) ⟨z, y⟩
        rw [if_pos (by rw [z]), x11_at (by decide) (by omega), bd_s, b, if_neg (fun x => y ((nI_eq (by omega) (by omega)).mp x)), f_X4_isUnsure_36, nI_1]
        exact ih
      · rw [if_neg (fun x => z ((nI_eq (by omega) (by omega)).mp x)), f_X4_isUnsure_36, nI_1]
        exact ih
theorem isA0 {k s v : Nat} (hk : k ≤ 2) {us up : Nat → Nat} {uP uS : Nat → Int32} (h : ∀ i, i < k → uS i = nI (us i) ∧ uP i = nI (up i) ∧ us i < 100 ∧ up i < 100) (hs : s < 100) (hv : v < 100) (ne : ∀ i, i < k → ¬ (us i = s ∧ up i = v)) : ∀ (f i : Nat), i ≤ k → k - i < f → f_X4_isAgreed_2 f (nI s) (nI v) (nI i) (nI k) uP uS = some 0
  | 0, _, _, h => absurd h (Nat.not_lt_zero _)
  | f + 1, i, hi, hf => by
    rw [f_X4_isAgreed_2]
    by_cases q : i = k
    · rw [q, if_pos (Int32.le_refl _)]
    · obtain ⟨a, b, l1, l2⟩ := h i (by omega)
      have ih := isA0 hk h hs hv ne f (i + 1) (by omega) (by omega)
      rw [if_neg (nI_ge (by omega) (by omega)), x11_at (by decide) (by omega), bd_s, a]
      by_cases z : us i = s
      · have y : ¬ up i = v := fun y => ne i (by omega) ⟨z, y⟩
        rw [if_pos (by rw [z]), x11_at (by decide) (by omega), bd_s, b, if_neg (fun x => y ((nI_eq (by omega) (by omega)).mp x)), f_X4_isAgreed_36, nI_1]
        exact ih
      · rw [if_neg (fun x => z ((nI_eq (by omega) (by omega)).mp x)), f_X4_isAgreed_36, nI_1]
        exact ih
theorem mb0 (ga ua c fault : Int32) : f_X7_mayBegin ga 0 ua c fault 1 (wdL 0 (WL 0)) = some (1, fault) := by
  rw [f_X7_mayBegin, show f_X7_isWord 0 1 (wdL 0 (WL 0)) = some 1 from WL_w (by decide) (by decide), bd_s, if_neg (by decide), if_pos rfl]
theorem mb1 {ga ua c : Int32} (hc : ¬ (5 : Int32) ≤ c) (fault : Int32) : f_X7_mayBegin ga 1 ua c fault 1 (wdL 0 (WL 1)) = some (1, fault) := by
  rw [f_X7_mayBegin, show f_X7_isWord 0 1 (wdL 0 (WL 1)) = some 0 from WL_w (by decide) (by decide), bd_s, if_pos rfl, show f_X7_isWord 1 1 (wdL 0 (WL 1)) = some 1 from WL_w (by decide) (by decide), bd_s, show f_X7_isWord 2 1 (wdL 0 (WL 1)) = some 0 from WL_w (by decide) (by decide), bd_s, show f_X7_isWord 3 1 (wdL 0 (WL 1)) = some 0 from WL_w (by decide) (by decide), bd_s]
  rw [if_neg (by decide), f_X7_mayBegin_71, if_neg (by decide), if_neg (by decide), if_neg hc, f_X7_mayBegin_100, if_pos rfl, f_X7_mayBegin_112, if_pos rfl, f_X7_mayBegin_130, f_X7_mayBegin_131, if_pos rfl]
theorem mb2 {ga ua c : Int32} (hc : ¬ (4 : Int32) ≤ ua) (fault : Int32) : f_X7_mayBegin ga 1 ua c fault 1 (wdL 0 (WL 2)) = some (1, fault) := by
  rw [f_X7_mayBegin, show f_X7_isWord 0 1 (wdL 0 (WL 2)) = some 0 from WL_w (by decide) (by decide), bd_s, if_pos rfl, show f_X7_isWord 1 1 (wdL 0 (WL 2)) = some 0 from WL_w (by decide) (by decide), bd_s, show f_X7_isWord 2 1 (wdL 0 (WL 2)) = some 1 from WL_w (by decide) (by decide), bd_s, show f_X7_isWord 3 1 (wdL 0 (WL 2)) = some 0 from WL_w (by decide) (by decide), bd_s]
  rw [if_pos rfl, if_neg (by decide), f_X7_mayBegin_71, if_neg (by decide), if_pos rfl, f_X7_mayBegin_100, if_neg (by decide), if_neg hc, f_X7_mayBegin_112, if_pos rfl, f_X7_mayBegin_130, f_X7_mayBegin_131, if_pos rfl]
theorem mb3 {ga ua c : Int32} (hc : ga < (6 : Int32)) (fault : Int32) : f_X7_mayBegin ga 1 ua c fault 1 (wdL 0 (WL 3)) = some (1, fault) := by
  rw [f_X7_mayBegin, show f_X7_isWord 0 1 (wdL 0 (WL 3)) = some 0 from WL_w (by decide) (by decide), bd_s, if_pos rfl, show f_X7_isWord 1 1 (wdL 0 (WL 3)) = some 0 from WL_w (by decide) (by decide), bd_s, show f_X7_isWord 2 1 (wdL 0 (WL 3)) = some 0 from WL_w (by decide) (by decide), bd_s, show f_X7_isWord 3 1 (wdL 0 (WL 3)) = some 1 from WL_w (by decide) (by decide), bd_s]
  rw [if_pos rfl, if_pos rfl, if_neg (by decide), f_X7_mayBegin_71, if_neg (by decide), if_pos rfl, f_X7_mayBegin_100, if_pos rfl, f_X7_mayBegin_112, if_neg (by decide), if_pos hc, f_X7_mayBegin_130, f_X7_mayBegin_131, if_pos rfl]
section RTX
variable {tb : Nat → Int32} {e : Nat}
theorem rd_end {x : Nat} (hx : x ≤ 500) (f : Nat) {ga cm gr nr sc th ua c fault kd ln nx num pl vl ga' cm' gr' nr' sc' th' ua' c' num' : Int32} {wd : Int64} {C : Int32 × Int32 × Int32 × Int32 × Int32 × Int64} {aD aL aS sl sr uP uS aD' aL' aS' sl' sr' uP' uS' : Nat → Int32} {nm nm' : Nat → Int64} (mb : f_X7_mayBegin ga cm ua c fault kd wd = some (1, fault)) (rl : f_X7_readsLine ga cm gr nr sc th ua c (nI e) fault kd ln nx num pl vl wd aD aL aS nm sl sr uP uS tb = some (1, ga', cm', gr', nr', sc', th', ua', c', fault, C.1, C.2.1, C.2.2.1, num', C.2.2.2.1, C.2.2.2.2.1, C.2.2.2.2.2, aD', aL', aS', nm', sl', sr', uP', uS')) (hC : C.1 = 0) (hc : 0 < c') : f_X7_reads_25 (f + 1) (nI x) ga cm gr nr sc th ua c (nI e) fault kd ln nx num pl vl wd aD aL aS nm sl sr uP uS tb = some (1, ga', cm', gr', nr', sc', th', ua', c', nI e, fault, C.1, C.2.1, C.2.2.1, num', C.2.2.2.1, C.2.2.2.2.1, C.2.2.2.2.2, aD', aL', aS', nm', sl', sr', uP', uS') := by
  rw [f_X7_reads_25, if_neg (show ¬ (500 : Int32) < nI x from nI_nlt (a := 500) hx (by decide)), mb, bd_s]
  dsimp only
  rw [if_neg (show ¬ (1 : Int32) = 0 by decide), rl, bd_s]
  dsimp only
  rw [if_neg (show ¬ (1 : Int32) = 0 by decide), if_pos hC, if_pos hc]
theorem rd_go (he : e ≤ 500) {x : Nat} (hx : x ≤ 500) (f : Nat) {ga cm gr nr sc th ua c fault kd ln nx num pl vl ga' cm' gr' nr' sc' th' ua' c' num' : Int32} {wd : Int64} {C : Int32 × Int32 × Int32 × Int32 × Int32 × Int64} {aD aL aS sl sr uP uS aD' aL' aS' sl' sr' uP' uS' : Nat → Int32} {nm nm' : Nat → Int64} (mb : f_X7_mayBegin ga cm ua c fault kd wd = some (1, fault)) (rl : f_X7_readsLine ga cm gr nr sc th ua c (nI e) fault kd ln nx num pl vl wd aD aL aS nm sl sr uP uS tb = some (1, ga', cm', gr', nr', sc', th', ua', c', fault, C.1, C.2.1, C.2.2.1, num', C.2.2.2.1, C.2.2.2.2.1, C.2.2.2.2.2, aD', aL', aS', nm', sl', sr', uP', uS')) {p j : Nat} {r : List Nat} (hj : j < 8) (hr : isL (r.headD 0) = false) (hC : C = (3, 1, nI (p + 1), nI p, nI 59, 0)) (h : RT tb e (p + 1) (WL j ++ r)) : ∃ ln' p' pl', f_X7_reads_25 (f + 1) (nI x) ga cm gr nr sc th ua c (nI e) fault kd ln nx num pl vl wd aD aL aS nm sl sr uP uS tb = f_X7_reads_25 f (nI (x + 1)) ga' cm' gr' nr' sc' th' ua' c' (nI e) fault 1 ln' (nI p') num' pl' 0 (wdL 0 (WL j)) aD' aL' aS' nm' sl' sr' uP' uS' tb ∧ RT tb e p' r := by
  obtain ⟨w1, w2, w3⟩ := WL_l hj
  have a := fun kd ln pl vl wd => A_w he (kd := kd) (ln := ln) (pl := pl) (vl := vl) (wd := wd) (k := 0) (by decide) w1 w2 w3 hr h
  refine ⟨nI (WL j).length, p + 1 + 0 + (WL j).length, nI (p + 1 + 0), ?_, (a 0 0 0 0 0).2⟩
  subst hC
  rw [f_X7_reads_25, if_neg (show ¬ (500 : Int32) < nI x from nI_nlt (a := 500) hx (by decide)), mb, bd_s]
  dsimp only
  rw [if_neg (show ¬ (1 : Int32) = 0 by decide), rl, bd_s]
  dsimp only
  rw [if_neg (show ¬ (1 : Int32) = 0 by decide), if_neg (show ¬ (3 : Int32) = 0 by decide), if_pos rfl, if_pos (show nI 59 = (59 : Int32) from rfl), (a _ _ _ _ _).1, bd_s, nI_1]
end RTX
