/-! LINE BY LINE TO THE END -/
/-- what is told -/
def TD (c ua ga : Nat) (N0 R0 us up as_ am al : Nat → Nat) : Prop := (1 ≤ c ∧ c ≤ 2) ∧ ua ≤ 2 ∧ ga ≤ 2 ∧ (∀ k, k < c → 2 ≤ N0 k ∧ N0 k ≤ 12 ∧ R0 k < 2 ^ N0 k) ∧ (∀ k, k < ua → us k < c ∧ up k < N0 (us k) ∧ ∀ i, i < k → ¬ (us i = us k ∧ up i = up k)) ∧ (∀ k, k < ga → as_ k < c ∧ 1 ≤ am k ∧ am k ≤ 36 ∧ al k ≤ 36 ∧ ∀ i, i < k → ¬ (as_ i = as_ k ∧ am i = am k))
def DS (k : Nat) (N0 R0 : Nat → Nat) (sl sr : Nat → Int32) : Prop := ∀ i, i < k → sl i = nI (N0 i) ∧ sr i = nI (R0 i)
def DN (k : Nat) (nm : Nat → Int64) : Prop := ∀ j, j < k → nm j = wdL 0 (NL j)
def DU (k : Nat) (us up : Nat → Nat) (uS uP : Nat → Int32) : Prop := ∀ i, i < k → uS i = nI (us i) ∧ uP i = nI (up i) ∧ us i < 100 ∧ up i < 100
def DA (k : Nat) (as_ am al : Nat → Nat) (aS aD aL : Nat → Int32) : Prop := ∀ i, i < k → aS i = nI (as_ i) ∧ aD i = nI (am i) ∧ as_ i < 100 ∧ am i < 100 ∧ aL i = nI (al i)
def FIN (c ua ga g : Nat) (x1 x2 x3 : Int32) (N0 R0 us up as_ am al : Nat → Nat) (X : Option (Int32 × Int32 × Int32 × Int32 × Int32 × Int32 × Int32 × Int32 × Int32 × Int32 × Int32 × Int32 × Int32 × Int32 × Int32 × Int32 × Int32 × Int64 × (Nat → Int32) × (Nat → Int32) × (Nat → Int32) × (Nat → Int64) × (Nat → Int32) × (Nat → Int32) × (Nat → Int32) × (Nat → Int32))) : Prop := ∃ (fe kd ln nx num pl vl : Int32) (wd : Int64) (aD aL aS sl sr uP uS : Nat → Int32) (nm : Nat → Int64), X = some (1, nI ga, 1, nI g, x1, x2, x3, nI ua, nI c, fe, 0, kd, ln, nx, num, pl, vl, wd, aD, aL, aS, nm, sl, sr, uP, uS) ∧ DS c N0 R0 sl sr ∧ DU ua us up uS uP ∧ DA ga as_ am al aS aD aL
theorem liS_ap (N0 R0 : Nat → Nat) (k : Nat) (r : List Nat) : liS N0 R0 k ++ r = 59 :: (WL 1 ++ 32 :: (NL k ++ 32 :: (RwL (R0 k) (N0 k) ++ r))) := by
  simp only [liS, List.cons_append, List.append_assoc]
theorem liU_ap (us up : Nat → Nat) (k : Nat) (r : List Nat) : liU us up k ++ r = 59 :: (WL 2 ++ 32 :: (NL (us k) ++ 32 :: (dgs (up k) ++ r))) := by
  simp only [liU, List.cons_append, List.append_assoc]
theorem liA_ap (as_ am al : Nat → Nat) (k : Nat) (r : List Nat) : liA as_ am al k ++ r = 59 :: (WL 3 ++ 32 :: (NL (as_ k) ++ 32 :: (dgs (am k) ++ 32 :: (dgs (al k) ++ r)))) := by
  simp only [liA, List.cons_append, List.append_assoc]
section RTP
variable {tb : Nat → Int32} {e : Nat}
theorem RT_t {p : Nat} {a r : List Nat} (h : RT tb e p (a ++ r)) : RT tb e (p + a.length) r := (RT_ap a p h).1
theorem CT (he : e ≤ 500) {pT : Nat} {T : List Nat} (h : RT tb e pT (59 :: T)) : (∀ p', RT tb e p' (59 :: T) → ∀ (kd ln pl vl : Int32) (wd : Int64), f_X7_advance (nI e) kd ln (nI p') pl vl wd tb = some (3, 1, nI (pT + 1), nI pT, nI 59, 0)) ∧ RT tb e (pT + 1) T := by
  refine ⟨fun p' h' kd ln pl vl wd => ?_, h.2⟩
  have a := RT_len _ _ h
  have b := RT_len _ _ h'
  obtain rfl : p' = pT := by omega
  exact (A_s he (k := 0) (by decide) (Or.inl rfl) h').1
theorem CE (he : e ≤ 500) : ∀ p', RT tb e p' [] → ∀ (kd ln pl vl : Int32) (wd : Int64), f_X7_advance (nI e) kd ln (nI p') pl vl wd tb = some (0, 0, nI e, nI e, 0, 0) := fun p' h kd ln pl vl wd => by
  have q : p' = e := h
  subst q
  exact A_e he h
theorem DU_0 {k : Nat} {us up : Nat → Nat} {uS uP : Nat → Int32} (h : DU k us up uS uP) (l1 : us k < 100) (l2 : up k < 100) : DU (k + 1) us up (upd uS k (nI (us k))) (upd uP k (nI (up k))) := fun i hi => by
  by_cases q : i = k
  · rw [q, pk_us, pk_us]; exact ⟨rfl, rfl, l1, l2⟩
  · rw [pk_un q, pk_un q]; exact h i (by omega)
theorem DA_0 {k : Nat} {as_ am al : Nat → Nat} {aS aD aL : Nat → Int32} (h : DA k as_ am al aS aD aL) (l1 : as_ k < 100) (l2 : am k < 100) : DA (k + 1) as_ am al (upd aS k (nI (as_ k))) (upd aD k (nI (am k))) (upd aL k (nI (al k))) := fun i hi => by
  by_cases q : i = k
  · rw [q, pk_us, pk_us, pk_us]; exact ⟨rfl, rfl, l1, l2, rfl⟩
  · rw [pk_un q, pk_un q, pk_un q]; exact h i (by omega)
theorem DS_0 {k : Nat} {N0 R0 : Nat → Nat} {sl sr : Nat → Int32} (h : DS k N0 R0 sl sr) : DS (k + 1) N0 R0 (upd sl k (nI (N0 k))) (upd sr k (nI (R0 k))) := fun i hi => by
  by_cases q : i = k
  · rw [q, pk_us, pk_us]; exact ⟨rfl, rfl⟩
  · rw [pk_un q, pk_un q]; exact h i (by omega)
theorem DN_0 {k : Nat} {nm : Nat → Int64} (h : DN k nm) : DN (k + 1) (vp_updL nm k (wdL 0 (NL k))) := fun i hi => by
  by_cases q : i = k
  · rw [q, pk_uLs]
  · rw [pk_uLn q]; exact h i (by omega)
theorem rl3 {ga cm gr nr sc th ua c fault ln nx num pl vl ga' : Int32} {C : Int32 × Int32 × Int32 × Int32 × Int32 × Int64} {aD aL aS sl sr uP uS aD' aL' aS' : Nat → Int32} {nm : Nat → Int64} (h : f_X7_readsAgreed ga c (nI e) fault 1 ln nx pl vl (wdL 0 (WL 3)) aD aL aS nm tb = some (1, ga', fault, C.1, C.2.1, C.2.2.1, C.2.2.2.1, C.2.2.2.2.1, C.2.2.2.2.2, aD', aL', aS')) : f_X7_readsLine ga cm gr nr sc th ua c (nI e) fault 1 ln nx num pl vl (wdL 0 (WL 3)) aD aL aS nm sl sr uP uS tb = some (1, ga', cm, gr, nr, sc, th, ua, c, fault, C.1, C.2.1, C.2.2.1, num, C.2.2.2.1, C.2.2.2.2.1, C.2.2.2.2.2, aD', aL', aS', nm, sl, sr, uP, uS) := by
  rw [f_X7_readsLine, show f_X7_isWord 0 1 (wdL 0 (WL 3)) = some 0 from WL_w (by decide) (by decide), bd_s, if_pos rfl, show f_X7_isWord 1 1 (wdL 0 (WL 3)) = some 0 from WL_w (by decide) (by decide), bd_s, if_pos rfl, show f_X7_isWord 2 1 (wdL 0 (WL 3)) = some 0 from WL_w (by decide) (by decide), bd_s, if_pos rfl, h, bd_s]
  dsimp only
  rw [gd_t _ (Or.inr rfl)]
theorem rl2 {ga cm gr nr sc th ua c fault ln nx num pl vl ua' : Int32} {C : Int32 × Int32 × Int32 × Int32 × Int32 × Int64} {aD aL aS sl sr uP uS uP' uS' : Nat → Int32} {nm : Nat → Int64} (h : f_X7_readsUnsure ua c (nI e) fault 1 ln nx pl vl (wdL 0 (WL 2)) nm sl uP uS tb = some (1, ua', fault, C.1, C.2.1, C.2.2.1, C.2.2.2.1, C.2.2.2.2.1, C.2.2.2.2.2, uP', uS')) : f_X7_readsLine ga cm gr nr sc th ua c (nI e) fault 1 ln nx num pl vl (wdL 0 (WL 2)) aD aL aS nm sl sr uP uS tb = some (1, ga, cm, gr, nr, sc, th, ua', c, fault, C.1, C.2.1, C.2.2.1, num, C.2.2.2.1, C.2.2.2.2.1, C.2.2.2.2.2, aD, aL, aS, nm, sl, sr, uP', uS') := by
  rw [f_X7_readsLine, show f_X7_isWord 0 1 (wdL 0 (WL 2)) = some 0 from WL_w (by decide) (by decide), bd_s, if_pos rfl, show f_X7_isWord 1 1 (wdL 0 (WL 2)) = some 0 from WL_w (by decide) (by decide), bd_s, if_pos rfl, show f_X7_isWord 2 1 (wdL 0 (WL 2)) = some 1 from WL_w (by decide) (by decide), bd_s, if_neg (by decide), h, bd_s]
  dsimp only
  rw [gd_t _ (Or.inr rfl)]
theorem rl1 {ga cm gr nr sc th ua c fault ln nx num pl vl c' : Int32} {C : Int32 × Int32 × Int32 × Int32 × Int32 × Int64} {aD aL aS sl sr uP uS sl' sr' : Nat → Int32} {nm nm' : Nat → Int64} (h : f_X7_readsStack c (nI e) fault 1 ln nx pl vl (wdL 0 (WL 1)) nm sl sr tb = some (1, c', fault, C.1, C.2.1, C.2.2.1, C.2.2.2.1, C.2.2.2.2.1, C.2.2.2.2.2, nm', sl', sr')) : f_X7_readsLine ga cm gr nr sc th ua c (nI e) fault 1 ln nx num pl vl (wdL 0 (WL 1)) aD aL aS nm sl sr uP uS tb = some (1, ga, cm, gr, nr, sc, th, ua, c', fault, C.1, C.2.1, C.2.2.1, num, C.2.2.2.1, C.2.2.2.2.1, C.2.2.2.2.2, aD, aL, aS, nm', sl', sr', uP, uS) := by
  rw [f_X7_readsLine, show f_X7_isWord 0 1 (wdL 0 (WL 1)) = some 0 from WL_w (by decide) (by decide), bd_s, if_pos rfl, show f_X7_isWord 1 1 (wdL 0 (WL 1)) = some 1 from WL_w (by decide) (by decide), bd_s, if_neg (by decide), h, bd_s]
  dsimp only
  rw [gd_t _ (Or.inr rfl)]
end RTP
