/-! SETS OF SETS -/
def mk (F : Nat → Nat) : Nat → Nat
  | 0 => 0
  | k + 1 => mk F k + F k * 2 ^ k
def oS (F : Nat → Nat) : Nat → Nat
  | 0 => 0
  | k + 1 => if F k = 0 then oS F k else Nat.lor (oS F k) k
def aS (F : Nat → Nat) (z : Nat) : Nat → Nat
  | 0 => z
  | k + 1 => if F k = 0 then aS F z k else Nat.land (aS F z k) k
abbrev oI (F : Nat → Nat) (u : Nat) : Nat → Nat := sm (fun s => F s * (s / 2 ^ u % 2))
def fd (F : Nat → Nat) (i : Nat) : Nat → Int32
  | 0 => -1
  | k + 1 => if F k = 0 then fd F i k else if sm F k = i then nI k else fd F i k
theorem mk_lt {F : Nat → Nat} (hF : ∀ s, F s ≤ 1) : ∀ k, mk F k < 2 ^ k
  | 0 => Nat.one_pos
  | k + 1 => by
    have h := mk_lt hF k
    have g := hF k
    show mk F k + F k * 2 ^ k < 2 ^ (k + 1)
    rw [Nat.pow_succ]
    rcases (by omega : F k = 0 ∨ F k = 1) with e | e <;> rw [e] <;> omega
theorem mk_bit {F : Nat → Nat} (hF : ∀ s, F s ≤ 1) (s : Nat) : ∀ k, mk F k / 2 ^ s % 2 = if s < k then F s else 0
  | 0 => by
    show 0 / 2 ^ s % 2 = _
    rw [Nat.zero_div, if_neg (Nat.not_lt_zero s)]
  | k + 1 => by
    have IH := mk_bit hF s k
    have lt := mk_lt hF k
    have p := Nat.two_pow_pos s
    show (mk F k + F k * 2 ^ k) / 2 ^ s % 2 = _
    rcases Nat.lt_trichotomy s k with q | q | q
    · obtain ⟨d, hd⟩ : ∃ d, k = s + (d + 1) := ⟨k - s - 1, by omega⟩
      rw [if_pos (by omega)]
      rw [if_pos q] at IH
      rw [hd, Nat.pow_add, Nat.pow_succ, ← hd, show F k * (2 ^ s * (2 ^ d * 2)) = 2 ^ s * (F k * 2 ^ d * 2) by rw [Nat.mul_left_comm, Nat.mul_assoc], Nat.add_mul_div_left _ _ p, Nat.add_mul_mod_self_right]
      exact IH
    · subst q
      rw [if_pos (by omega), Nat.add_mul_div_right _ _ p, Nat.div_eq_of_lt lt, Nat.zero_add, Nat.mod_eq_of_lt (by have := hF s; omega)]
    · rw [if_neg (by omega)]
      have g := hF k
      have lt2 : mk F k + F k * 2 ^ k < 2 ^ s := by
        have e := mk_lt hF (k + 1)
        have m : 2 ^ (k + 1) ≤ 2 ^ s := Nat.pow_le_pow_right (by decide) (by omega)
        exact Nat.lt_of_lt_of_le e m
      rw [Nat.div_eq_of_lt lt2]
theorem rPc_sm : ∀ (k r : Nat), rPc k r = sm (fun s => r / 2 ^ s % 2) k
  | 0, _ => rfl
  | k + 1, r => by
    rw [rPc, rPc_sm k (r / 2)]
    have sh : ∀ K, sm (fun s => r / 2 ^ s % 2) (K + 1) = r % 2 + sm (fun s => r / 2 / 2 ^ s % 2) K := by
      intro K
      induction K with
      | zero =>
        show 0 + r / 2 ^ 0 % 2 = r % 2 + 0
        rw [Nat.pow_zero, Nat.div_one, Nat.zero_add, Nat.add_zero]
      | succ K ih =>
        show sm (fun s => r / 2 ^ s % 2) (K + 1) + r / 2 ^ (K + 1) % 2 = r % 2 + (sm (fun s => r / 2 / 2 ^ s % 2) K + r / 2 / 2 ^ K % 2)
        rw [ih, Nat.pow_succ, Nat.div_div_eq_div_mul, Nat.mul_comm 2 (2 ^ K), Nat.add_assoc]
    rw [sh k]
def FK (F : Nat → Nat) (K : Nat) : Prop := (∀ s, F s ≤ 1) ∧ (∀ s, K ≤ s → F s = 0) ∧ K ≤ 16
theorem FK_16 {F : Nat → Nat} {K : Nat} (h : FK F K) {α : Type} {g : Nat → α} (hg : ∀ k, F k = 0 → g (k + 1) = g k) : ∀ d, g (K + d) = g K
  | 0 => rfl
  | d + 1 => by
    rw [← Nat.add_assoc, hg _ (h.2.1 _ (by omega)), FK_16 h hg d]
theorem FK_end {F : Nat → Nat} {K : Nat} (h : FK F K) {α : Type} {g : Nat → α} (hg : ∀ k, F k = 0 → g (k + 1) = g k) : g 16 = g K := by
  have e := FK_16 h hg (16 - K)
  rw [show K + (16 - K) = 16 by have := h.2.2; omega] at e
  exact e
theorem mk_K {F : Nat → Nat} {K : Nat} (h : FK F K) : mk F 16 = mk F K := FK_end h (fun k e => by show mk F k + F k * 2 ^ k = mk F k; rw [e, Nat.zero_mul, Nat.add_zero])
theorem sm_K {F : Nat → Nat} {K : Nat} (h : FK F K) (g : Nat → Nat) : sm (fun s => F s * g s) 16 = sm (fun s => F s * g s) K := FK_end h (g := sm (fun s => F s * g s)) (fun k e => by show sm (fun s => F s * g s) k + F k * g k = _; rw [e, Nat.zero_mul, Nat.add_zero])
theorem smF_K {F : Nat → Nat} {K : Nat} (h : FK F K) : sm F 16 = sm F K := FK_end h (g := sm F) (fun k e => by show sm F k + F k = _; rw [e, Nat.add_zero])
theorem oS_K {F : Nat → Nat} {K : Nat} (h : FK F K) : oS F 16 = oS F K := FK_end h (fun k e => by rw [oS, if_pos e])
theorem aS_K {F : Nat → Nat} {K z : Nat} (h : FK F K) : aS F z 16 = aS F z K := FK_end h (g := aS F z) (fun k e => by rw [aS, if_pos e])
theorem fd_K {F : Nat → Nat} {K i : Nat} (h : FK F K) : fd F i 16 = fd F i K := FK_end h (g := fd F i) (fun k e => by rw [fd, if_pos e])
theorem mk_has {F : Nat → Nat} {K s : Nat} (h : FK F K) (hs : s < 16) : f_X1_has (nI (mk F K)) (nI s) = some (nI (F s)) := by
  have l := mk_lt h.1 16
  rw [mk_K h] at l
  have e := mk_bit h.1 s 16
  rw [mk_K h, if_pos hs] at e
  rw [x1_has (by omega) (by omega), e]
theorem mk_cnt {F : Nat → Nat} {K : Nat} (h : FK F K) : f_J6_bitCount_0f7a4 (nI (mk F K)) = some (nI (sm F K)) := by
  have l := mk_lt h.1 16
  rw [← mk_K h, j6_bits16 (by omega), rPc_sm, ← smF_K h]
  congr 2
  exact sm_congr _ (fun s hs => by
    show mk F 16 / 2 ^ s % 2 = F s
    rw [mk_bit h.1, if_pos hs])
theorem nI_or (a b : Nat) : nI a ||| nI b = nI (Nat.lor a b) := Int32.toBitVec_inj.mp (by
  show BitVec.ofNat 32 a ||| BitVec.ofNat 32 b = BitVec.ofNat 32 (a ||| b)
  exact BitVec.ofNat_or.symm)
theorem nI_and (a b : Nat) : nI a &&& nI b = nI (Nat.land a b) := Int32.toBitVec_inj.mp (by
  show BitVec.ofNat 32 a &&& BitVec.ofNat 32 b = BitVec.ofNat 32 (a &&& b)
  exact BitVec.ofNat_and.symm)
theorem F_01 {F : Nat → Nat} {K : Nat} (h : FK F K) (s : Nat) : F s = 0 ∨ F s = 1 := by have := h.1 s; omega
theorem n16 {k : Nat} (hk : k ≤ 16) : ((16 : Int32) ≤ nI k) ↔ 16 ≤ k := nI_leI (a := 16) (by omega) (by omega)
theorem x1_inSome_4 {F : Nat → Nat} {K : Nat} (h : FK F K) : ∀ (f k : Nat), k ≤ 16 → 16 - k < f → f_X1_inSome_4 f (nI (mk F K)) (nI (oS F k)) (nI k) = some (nI (oS F K))
  | 0, _, _, h => absurd h (Nat.not_lt_zero _)
  | f + 1, k, hk, hf => by
    rw [f_X1_inSome_4]
    by_cases q : 16 ≤ k
    · rw [if_pos ((n16 hk).mpr q), ← oS_K h, show k = 16 by omega]
    · have IH := x1_inSome_4 h f (k + 1) (by omega) (by omega)
      rw [if_neg (fun z => q ((n16 hk).mp z)), mk_has h (by omega), bd_s]
      rcases F_01 h k with e | e
      · rw [oS, if_pos e] at IH
        rw [e, if_pos nI_0, f_X1_inSome_24, lt_q, nI_1, show (0 : Int32) = nI 0 from rfl, nI_or, show Nat.lor (oS F k) 0 = oS F k from Nat.or_zero _]
        exact IH
      · rw [oS, if_neg (by omega)] at IH
        rw [e, if_neg (by decide), f_X1_inSome_24, lt_q, nI_1, nI_or]
        exact IH
theorem x1_inAll_13 {F : Nat → Nat} {K z : Nat} (h : FK F K) : ∀ (f k : Nat), k ≤ 16 → 16 - k < f → f_X1_inAll_13 f (nI (mk F K)) (nI (aS F z k)) (nI k) = some (nI (aS F z K))
  | 0, _, _, h => absurd h (Nat.not_lt_zero _)
  | f + 1, k, hk, hf => by
    rw [f_X1_inAll_13]
    by_cases q : 16 ≤ k
    · rw [if_pos ((n16 hk).mpr q), ← aS_K h, show k = 16 by omega]
    · have IH := x1_inAll_13 (z := z) h f (k + 1) (by omega) (by omega)
      rw [if_neg (fun z => q ((n16 hk).mp z)), mk_has h (by omega), bd_s]
      rcases F_01 h k with e | e
      · rw [aS, if_pos e] at IH
        rw [e, if_pos nI_0, f_X1_inAll_33, lt_q, nI_1, nI_and, show Nat.land (aS F z k) (aS F z k) = aS F z k from Nat.and_self _]
        exact IH
      · rw [aS, if_neg (by omega)] at IH
        rw [e, if_neg (by decide), f_X1_inAll_33, lt_q, nI_1, nI_and]
        exact IH
theorem aS_land (F : Nat → Nat) (z m : Nat) : ∀ k, aS F (Nat.land z m) k = Nat.land (aS F z k) m
  | 0 => rfl
  | k + 1 => by
    rw [aS, aS, aS_land F z m k]
    by_cases e : F k = 0
    · rw [if_pos e, if_pos e]
    · rw [if_neg e, if_neg e]
      show aS F z k &&& m &&& k = aS F z k &&& k &&& m
      rw [Nat.and_assoc, Nat.and_comm m k, ← Nat.and_assoc]
theorem aS_0 {F : Nat → Nat} : ∀ k, aS F 0 k = 0
  | 0 => rfl
  | k + 1 => by
    rw [aS, aS_0 k]
    split
    · rfl
    · exact Nat.zero_and k
theorem aS_le (F : Nat → Nat) (z : Nat) {s : Nat} (hs : F s ≠ 0) : ∀ k, s < k → aS F z k ≤ s
  | 0, h => absurd h (Nat.not_lt_zero _)
  | k + 1, h => by
    rw [aS]
    by_cases e : s = k
    · subst e
      rw [if_neg hs]
      exact Nat.and_le_right
    · have := aS_le F z hs k (by omega)
      split
      · exact this
      · exact Nat.le_trans Nat.and_le_left this
theorem aS_15 {F : Nat → Nat} {ua : Nat} (h : FK F (2 ^ ua)) (hu : ua ≤ 4) {s : Nat} (hs : F s ≠ 0) : aS F 15 (2 ^ ua) = aS F (2 ^ ua - 1) (2 ^ ua) := by
  have hsK : s < 2 ^ ua := by
    rcases Nat.lt_or_ge s (2 ^ ua) with q | q
    · exact q
    · exact absurd (h.2.1 s q) hs
  have m : Nat.land 15 (2 ^ ua - 1) = 2 ^ ua - 1 := of_decide_eq_true (allB_at (N := 5) (p := fun ua => decide (Nat.land 15 (2 ^ ua - 1) = 2 ^ ua - 1)) (by decide +kernel) ua (by omega))
  have l := aS_le F 15 hs (2 ^ ua) hsK
  have e := aS_land F 15 (2 ^ ua - 1) (2 ^ ua)
  rw [m] at e
  rw [e]
  show aS F 15 (2 ^ ua) = aS F 15 (2 ^ ua) &&& (2 ^ ua - 1)
  rw [Nat.and_two_pow_sub_one_eq_mod, Nat.mod_eq_of_lt (by omega)]
theorem mk_0 {F : Nat → Nat} {K : Nat} (h : FK F K) : (mk F K = 0 ↔ ∀ s, F s = 0) ∧ (sm F K = 0 ↔ ∀ s, F s = 0) := by
  have l := mk_lt h.1 16
  have all0 : (∀ s, F s = 0) → mk F K = 0 ∧ sm F K = 0 := fun z => by
    have a : ∀ k, mk F k = 0 ∧ sm F k = 0 := by
      intro k
      induction k with
      | zero => exact ⟨rfl, rfl⟩
      | succ k ih =>
        refine ⟨?_, ?_⟩
        · show mk F k + F k * 2 ^ k = 0
          rw [ih.1, z k, Nat.zero_mul]
        · show sm F k + F k = 0
          rw [ih.2, z k]
    exact a K
  refine ⟨⟨fun e s => ?_, fun z => (all0 z).1⟩, ⟨fun e s => ?_, fun z => (all0 z).2⟩⟩
  · by_cases q : s < 16
    · have b := mk_bit h.1 s 16
      rw [mk_K h, e, if_pos q, Nat.zero_div] at b
      exact b.symm
    · exact h.2.1 s (by have := h.2.2; omega)
  · by_cases q : s < K
    · have mono : ∀ k, s < k → F s ≤ sm F k := by
        intro k
        induction k with
        | zero => intro z; omega
        | succ k ih =>
          intro z
          show F s ≤ sm F k + F k
          by_cases y : s = k
          · rw [y]; omega
          · have := ih (by omega); omega
      have := mono K q
      omega
    · exact h.2.1 s (by omega)
theorem x1_inAll {F : Nat → Nat} {ua : Nat} (h : FK F (2 ^ ua)) (hu : ua ≤ 4) : f_X1_inAll (nI (mk F (2 ^ ua))) = some (nI (if sm F (2 ^ ua) = 0 then 0 else aS F (2 ^ ua - 1) (2 ^ ua))) := by
  have l := mk_lt h.1 16
  rw [mk_K h] at l
  obtain ⟨m1, m2⟩ := mk_0 h
  rw [f_X1_inAll]
  by_cases q : mk F (2 ^ ua) = 0
  · rw [if_pos (by rw [q]; rfl), f_X1_inAll_10, if_pos (m2.mpr (m1.mp q))]
    have e := x1_inAll_13 (z := 0) h kFU 0 (by omega) (by unfold kFU; omega)
    rw [aS_0, aS_0] at e
    exact e
  · have ne : ¬ sm F (2 ^ ua) = 0 := fun z => q (m1.mpr (m2.mp z))
    have ⟨s, hs⟩ : ∃ s, F s ≠ 0 := by
      by_cases z : ∃ s, F s ≠ 0
      · exact z
      · exact absurd (m1.mpr (fun s => by
          by_cases y : F s = 0
          · exact y
          · exact absurd ⟨s, y⟩ z)) q
    rw [if_neg (nI_ne0 (by omega) (by omega)), f_X1_inAll_10, if_neg ne, ← aS_15 h hu hs]
    exact x1_inAll_13 (z := 15) h kFU 0 (by omega) (by unfold kFU; omega)
theorem sm_mono (F : Nat → Nat) (k : Nat) : ∀ d, sm F k ≤ sm F (k + d)
  | 0 => Nat.le_refl _
  | d + 1 => Nat.le_trans (sm_mono F k d) (Nat.le_add_right _ _)
theorem fd_past {F : Nat → Nat} {i k : Nat} (hk : i < sm F k) : ∀ d, fd F i (k + d) = fd F i k
  | 0 => rfl
  | d + 1 => by
    have m := sm_mono F k d
    rw [← Nat.add_assoc, fd]
    split
    · exact fd_past hk d
    · rw [if_neg (by omega)]; exact fd_past hk d
theorem x1_setAt_4 {F : Nat → Nat} {K i : Nat} (h : FK F K) (hi : i < 2 ^ 31) : ∀ (f k : Nat), k ≤ 16 → 16 - k < f → sm F k ≤ i → fd F i k = -1 → f_X1_setAt_4 f (nI (mk F K)) (nI i) (nI (sm F k)) (nI k) = some (fd F i K)
  | 0, _, _, h, _, _ => absurd h (Nat.not_lt_zero _)
  | f + 1, k, hk, hf, hs, h0 => by
    have l := sm_le h.1 k
    rw [f_X1_setAt_4]
    by_cases q : 16 ≤ k
    · rw [if_pos ((n16 hk).mpr q), ← fd_K h, show (16 : Nat) = k by omega, h0]
    · rw [if_neg (fun z => q ((n16 hk).mp z)), mk_has h (by omega), bd_s]
      rcases F_01 h k with e | e
      · have IH := x1_setAt_4 h hi f (k + 1) (by omega) (by omega) (by show sm F k + F k ≤ i; omega) (by rw [fd, if_pos e]; exact h0)
        rw [e, if_pos nI_0, f_X1_setAt_28, nI_1]
        rw [show sm F (k + 1) = sm F k by show sm F k + F k = _; omega] at IH
        exact IH
      · rw [e, if_neg (by decide)]
        by_cases y : sm F k = i
        · have z : fd F i (k + 1) = nI k := by rw [fd, if_neg (by omega), if_pos y]
          have past := fd_past (F := F) (i := i) (k := k + 1) (by show i < sm F k + F k; omega) (16 - (k + 1))
          rw [show k + 1 + (16 - (k + 1)) = 16 by omega, fd_K h, z] at past
          rw [if_pos (by rw [y]), past]
        · rw [if_neg (fun z => y ((nI_eq (by omega) hi).mp z)), f_X1_setAt_28, nI_1, nI_1]
          have IH := x1_setAt_4 h hi f (k + 1) (by omega) (by omega) (by show sm F k + F k ≤ i; omega) (by rw [fd, if_neg (by omega), if_neg y]; exact h0)
          rw [show sm F (k + 1) = sm F k + 1 by show sm F k + F k = _; omega] at IH
          exact IH
theorem x1_setAt_neg {F : Nat → Nat} {K : Nat} {i : Int32} (h : FK F K) (hi : i < 0) : ∀ (f k : Nat), k ≤ 16 → 16 - k < f → f_X1_setAt_4 f (nI (mk F K)) i (nI (sm F k)) (nI k) = some (-1)
  | 0, _, _, h => absurd h (Nat.not_lt_zero _)
  | f + 1, k, hk, hf => by
    have l := sm_le h.1 k
    rw [f_X1_setAt_4]
    by_cases q : 16 ≤ k
    · rw [if_pos ((n16 hk).mpr q)]
    · have IH := x1_setAt_neg h hi f (k + 1) (by omega) (by omega)
      rw [if_neg (fun z => q ((n16 hk).mp z)), mk_has h (by omega), bd_s]
      rcases F_01 h k with e | e
      · rw [e, if_pos nI_0, f_X1_setAt_28, nI_1]
        rw [show sm F (k + 1) = sm F k by show sm F k + F k = _; omega] at IH
        exact IH
      · rw [e, if_neg (by decide), if_neg (fun z => by rw [← z] at hi; exact nI_pos (by omega) hi), f_X1_setAt_28, nI_1, nI_1]
        rw [show sm F (k + 1) = sm F k + 1 by show sm F k + F k = _; omega] at IH
        exact IH
theorem oI_le {F : Nat → Nat} (hF : ∀ s, F s ≤ 1) (u : Nat) : ∀ k, oI F u k ≤ sm F k
  | 0 => Nat.le_refl _
  | k + 1 => by
    have a := oI_le hF u k
    have b := hF k
    have c : k / 2 ^ u % 2 < 2 := Nat.mod_lt _ (by decide)
    show oI F u k + F k * (k / 2 ^ u % 2) ≤ sm F k + F k
    rcases (by omega : F k = 0 ∨ F k = 1) with e | e <;> rw [e] <;> omega
def mL (F : Nat → Nat) (K u : Nat) : Nat := if oI F u K < sm F K - oI F u K then sm F K - oI F u K else oI F u K
theorem x1_most_4 {F : Nat → Nat} {K u : Nat} (h : FK F K) (hu : u < 4) : ∀ (f k : Nat), k ≤ 16 → 16 - k < f → f_X1_mostLeft_4 f (nI (mk F K)) (nI u) (nI (oI F u k)) (nI k) = some (nI (mL F K u))
  | 0, _, _, h => absurd h (Nat.not_lt_zero _)
  | f + 1, k, hk, hf => by
    rw [f_X1_mostLeft_4]
    by_cases q : 16 ≤ k
    · have a := oI_le h.1 u K
      have b := sm_le h.1 K
      have c := h.2.2
      rw [if_pos ((n16 hk).mpr q), mk_cnt h, bd_s, show k = 16 by omega, show oI F u 16 = oI F u K from sm_K h _, pk_sub a]
      unfold mL
      by_cases y : oI F u K < sm F K - oI F u K
      · rw [if_pos ((nI_ltI (by omega) (by omega)).mpr y), if_pos y]
      · rw [if_neg (fun z => y ((nI_ltI (by omega) (by omega)).mp z)), if_neg y]
    · have IH := x1_most_4 h hu f (k + 1) (by omega) (by omega)
      have e2 : oI F u (k + 1) = oI F u k + F k * (k / 2 ^ u % 2) := rfl
      have lb : k / 2 ^ u % 2 < 2 := Nat.mod_lt _ (by decide)
      have zero : nI (oI F u k) + (0 : Int32) = nI (oI F u k + 0) := nI_add _ 0
      rw [if_neg (fun z => q ((n16 hk).mp z)), mk_has h (by omega), bd_s]
      rcases F_01 h k with e | e
      · rw [e, if_pos nI_0, f_X1_mostLeft_31, f_X1_mostLeft_32, lt_q, nI_1, zero]
        rw [e2, e, Nat.zero_mul] at IH
        exact IH
      · rw [e, if_neg (by decide), x1_has (by omega) (by omega), bd_s]
        rw [e2, e, Nat.one_mul] at IH
        rcases (by omega : k / 2 ^ u % 2 = 0 ∨ k / 2 ^ u % 2 = 1) with y | y
        · rw [y] at IH ⊢
          rw [if_pos nI_0, f_X1_mostLeft_31, f_X1_mostLeft_32, lt_q, nI_1, zero]
          exact IH
        · rw [y] at IH ⊢
          rw [if_neg (by decide), f_X1_mostLeft_32, lt_q, nI_1, nI_1]
          exact IH
theorem x1_most {F : Nat → Nat} {K u : Nat} (h : FK F K) (hu : u < 4) : f_X1_mostLeft (nI (mk F K)) (nI u) = some (nI (mL F K u)) :=
  x1_most_4 h hu kFU 0 (by omega) (by unfold kFU; omega)
def bQ (F : Nat → Nat) (K : Nat) : Nat → Nat
  | 0 => 0
  | k + 1 => if mL F K (bQ F K k) ≤ mL F K (k + 1) then bQ F K k else k + 1
theorem bQ_le (F : Nat → Nat) (K : Nat) : ∀ k, bQ F K k ≤ k
  | 0 => Nat.le_refl _
  | k + 1 => by
    have h := bQ_le F K k
    unfold bQ
    split <;> omega
theorem mL_le {F : Nat → Nat} {K : Nat} (h : FK F K) (u : Nat) : mL F K u ≤ 16 := by
  have a := oI_le h.1 u K
  have b := sm_le h.1 K
  have c := h.2.2
  unfold mL
  split <;> omega
theorem x1_best_15 {F : Nat → Nat} {K ua : Nat} (h : FK F K) (hu : ua ≤ 4) : ∀ (f k : Nat), k < ua → ua - k ≤ f → f_X1_bestQuestion_15 f (nI (mk F K)) (nI ua) (nI (bQ F K k)) (nI (k + 1)) = some (nI (bQ F K (ua - 1)))
  | 0, _, h, h' => by omega
  | f + 1, k, hk, hf => by
    have l := bQ_le F K k
    have m1 := mL_le h (k + 1)
    have m2 := mL_le h (bQ F K k)
    rw [f_X1_bestQuestion_15]
    by_cases q : ua ≤ k + 1
    · rw [if_pos ((nI_leI (by omega) (by omega)).mpr q), show k = ua - 1 by omega]
    · have IH := x1_best_15 h hu f (k + 1) (by omega) (by omega)
      rw [if_neg (fun z => q ((nI_leI (by omega) (by omega)).mp z)), x1_most h (by omega), bd_s, x1_most h (by omega), bd_s]
      by_cases e : mL F K (bQ F K k) ≤ mL F K (k + 1)
      · rw [bQ, if_pos e] at IH
        rw [if_pos ((nI_leI (by omega) (by omega)).mpr e), f_X1_bestQuestion_35, nI_1]
        exact IH
      · rw [bQ, if_neg e] at IH
        rw [if_neg (fun z => e ((nI_leI (by omega) (by omega)).mp z)), f_X1_bestQuestion_35, nI_1]
        exact IH
theorem x1_best {F : Nat → Nat} {K ua : Nat} (h : FK F K) (hu : ua ≤ 4) : f_X1_bestQuestion (nI (mk F K)) (nI ua) = some (if sm F K = 0 ∨ ua = 0 then -2 else nI (bQ F K (ua - 1))) := by
  have l := mk_lt h.1 16
  rw [mk_K h] at l
  obtain ⟨m1, m2⟩ := mk_0 h
  rw [f_X1_bestQuestion]
  by_cases q : mk F K = 0
  · rw [if_pos (by rw [q]; rfl), if_pos (Or.inl (m2.mpr (m1.mp q)))]
  · have ne : ¬ sm F K = 0 := fun z => q (m1.mpr (m2.mp z))
    rw [if_neg (nI_ne0 (by omega) (by omega))]
    by_cases u0 : ua = 0
    · rw [if_pos (by rw [u0]; rfl), if_pos (Or.inr u0)]
    · rw [if_neg (nI_ne0 (by omega) (by omega)), if_neg (fun z => z.elim ne u0)]
      exact x1_best_15 h hu kFU 0 (by omega) (by unfold kFU; omega)
