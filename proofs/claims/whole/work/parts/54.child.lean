/-! the number of a child -/
def scF (D : Nat → Nat) (c0 : Nat) : Nat → Nat → Nat → Nat
  | 0, j, _ => j
  | k + 1, j, c => if D j = c0 then (if c = 0 then j else scF D c0 k (j + 1) (c - 1)) else scF D c0 k (j + 1) c
def kidN (n : Nat) (D : Nat → Nat) (i c : Nat) : Nat := scF D (D i + 1) (endN n D i - (i + 1)) (i + 1) c
theorem scF_is {D : Nat → Nat} {c0 : Nat} : ∀ k j c, j ≤ scF D c0 k j c ∧ scF D c0 k j c ≤ j + k ∧ (scF D c0 k j c < j + k → D (scF D c0 k j c) = c0) := by
  intro k
  induction k with
  | zero => intro j c; rw [scF]; exact ⟨Nat.le_refl _, Nat.le_refl _, fun h => absurd h (Nat.lt_irrefl _)⟩
  | succ k ih =>
    intro j c
    rw [scF]
    by_cases e : D j = c0
    · rw [if_pos e]
      by_cases e2 : c = 0
      · rw [if_pos e2]; exact ⟨Nat.le_refl _, by omega, fun _ => e⟩
      · rw [if_neg e2]
        obtain ⟨a1, a2, a3⟩ := ih (j + 1) (c - 1)
        exact ⟨by omega, by omega, fun h => a3 (by omega)⟩
    · rw [if_neg e]
      obtain ⟨a1, a2, a3⟩ := ih (j + 1) c
      exact ⟨by omega, by omega, fun h => a3 (by omega)⟩
theorem scF_skip {D : Nat → Nat} {c0 : Nat} (c : Nat) : ∀ s k j, (∀ q, j ≤ q → q < j + s → D q ≠ c0) → scF D c0 (s + k) j c = scF D c0 k (j + s) c := by
  intro s
  induction s with
  | zero => intro k j _; rw [Nat.zero_add, Nat.add_zero]
  | succ s ih =>
    intro k j h
    rw [show s + 1 + k = (s + k) + 1 by omega, scF, if_neg (h j (Nat.le_refl j) (by omega)), ih k (j + 1) (fun q a b => h q (by omega) (by omega)), show j + 1 + s = j + (s + 1) by omega]
theorem cntN_skip {D : Nat → Nat} {c0 : Nat} : ∀ s k j, (∀ q, j ≤ q → q < j + s → D q ≠ c0) → cntN D c0 (s + k) j = cntN D c0 k (j + s) := by
  intro s
  induction s with
  | zero => intro k j _; rw [Nat.zero_add, Nat.add_zero]
  | succ s ih =>
    intro k j h
    rw [show s + 1 + k = (s + k) + 1 by omega, cntN, if_neg (h j (Nat.le_refl j) (by omega)), Nat.zero_add, ih k (j + 1) (fun q a b => h q (by omega) (by omega)), show j + 1 + s = j + (s + 1) by omega]
theorem T_startOfChild_loop {t : TR} {n : Nat} {L D : Nat → Nat} (h : TRep t n L D) (hn : n ≤ 40) (hD : ∀ i, i < n → D i ≤ 7) {i e : Nat} (hi : i < n) (he : e ≤ n) : ∀ fu j c, j ≤ e → e - j < fu → c < 2147483648 → T_startOfChild_L14 fu t (nI i) (nI c) (nI e) (nI j) = some (nI (scF D (D i + 1) (e - j) j c)) := by
  intro fu
  induction fu with
  | zero => intro j c _ h; omega
  | succ fu ih =>
    intro j c hj hf hc
    rw [T_startOfChild_L14]
    by_cases e1 : j = e
    · subst e1
      simp (disch := omega) only [p_0, p_1, p_2, p_3, p_4, p_5, p_6, p_7, p_8, p_9, p_18, p_25, p_26, p_32, p_40, p_41, p_44, p_97, p_100, p_120, p_122, p_126, p_138, p_218, p_654, p_872, p_ofNat, p_ofInt, p_add, p_mul, p_le, p_lt, p_eq, p_neg, p_nn, p_m1, p_m1r, p_dec, p_ix, p_sub, if_true, if_false, reduceIte, Nat.not_lt_zero, or_false, false_or, or_true, true_or, and_true, true_and, p_bs]
      rw [if_pos (Nat.le_refl j), Nat.sub_self, scF]
    · have hdi := hD i hi
      have hdj := hD j (by omega)
      rw [T_depthOf_in h hn (show j < n by omega), T_depthOf_in h hn hi, show e - j = (e - (j + 1)) + 1 by omega, scF]
      by_cases e3 : c = 0
      · subst e3
        have e4 := ih (j + 1) 0 (by omega) (by omega) (by omega)
        simp (disch := omega) only [p_0, p_1, p_2, p_3, p_4, p_5, p_6, p_7, p_8, p_9, p_18, p_25, p_26, p_32, p_40, p_41, p_44, p_97, p_100, p_120, p_122, p_126, p_138, p_218, p_654, p_872, p_ofNat, p_ofInt, p_add, p_mul, p_le, p_lt, p_eq, p_neg, p_nn, p_m1, p_m1r, p_dec, p_ix, p_sub, if_true, if_false, reduceIte, Nat.not_lt_zero, or_false, false_or, or_true, true_or, and_true, true_and, p_bs]
        rw [if_neg (by omega), e4]
        split <;> rfl
      · have e4 := ih (j + 1) c (by omega) (by omega) (by omega)
        have e5 := ih (j + 1) (c - 1) (by omega) (by omega) (by omega)
        simp (disch := omega) only [p_0, p_1, p_2, p_3, p_4, p_5, p_6, p_7, p_8, p_9, p_18, p_25, p_26, p_32, p_40, p_41, p_44, p_97, p_100, p_120, p_122, p_126, p_138, p_218, p_654, p_872, p_ofNat, p_ofInt, p_add, p_mul, p_le, p_lt, p_eq, p_neg, p_nn, p_m1, p_m1r, p_dec, p_ix, p_sub, if_true, if_false, reduceIte, Nat.not_lt_zero, or_false, false_or, or_true, true_or, and_true, true_and, p_bs]
        rw [if_neg (by omega), e4, e5, if_neg e3, if_neg e3]
        by_cases e2 : D j = D i + 1
        · rw [if_pos e2, if_pos e2]
        · rw [if_neg e2, if_neg e2]
theorem T_startOfChild_ok {t : TR} {n : Nat} {L D : Nat → Nat} (h : TRep t n L D) (hn : n ≤ 40) (hD : ∀ i, i < n → D i ≤ 7) {i : Nat} (hi : i < n) {c : Nat} (hc : c < 2147483648) : T_startOfChild t (nI i) (nI c) = some (nI (kidN n D i c)) := by
  have h1 := endN_gt (D := D) hi
  have h2 := endN_le (D := D) hi
  rw [T_startOfChild, T_endOf_ok h hn hD hi]
  simp (disch := omega) only [p_0, p_1, p_2, p_3, p_4, p_5, p_6, p_7, p_8, p_9, p_18, p_25, p_26, p_32, p_40, p_41, p_44, p_97, p_100, p_120, p_122, p_126, p_138, p_218, p_654, p_872, p_ofNat, p_ofInt, p_add, p_mul, p_le, p_lt, p_eq, p_neg, p_nn, p_m1, p_m1r, p_dec, p_ix, p_sub, if_true, if_false, reduceIte, Nat.not_lt_zero, or_false, false_or, or_true, true_or, and_true, true_and, p_bs]
  rw [T_startOfChild_loop h hn hD hi h2 1000 (i + 1) c (by omega) (by omega) hc, kidN]
/-- behind a child: the next one, or the end -/
theorem child_next {n : Nat} {D : Nat → Nat} (hS : Sh n D) {i q : Nat} (hi : i < n) (hiq : i < q) (hq : q < endN n D i) (hd : D q = D i + 1) : q < endN n D q ∧ endN n D q ≤ endN n D i ∧ (endN n D q = endN n D i ∨ D (endN n D q) = D i + 1) ∧ ∀ j, q < j → j < endN n D q → D j ≠ D i + 1 := by
  have h2 := endN_le (D := D) hi
  obtain ⟨a1, a2, a3, a4⟩ := endN_is (D := D) hi
  obtain ⟨b1, b2, b3, b4⟩ := endN_is (D := D) (show q < n by omega)
  have hle : endN n D q ≤ endN n D i := by
    rcases Nat.lt_or_ge (endN n D i) (endN n D q) with z | z
    · have := b3 (endN n D i) (by omega) z
      have := a4 (by omega)
      omega
    · exact z
  refine ⟨by omega, hle, ?_, fun j c1 c2 => by have := b3 j c1 c2; omega⟩
  rcases Nat.lt_or_ge (endN n D q) (endN n D i) with z | z
  · right
    have := b4 (by omega)
    have := a3 (endN n D q) (by omega) z
    omega
  · left; omega
theorem child_first {n : Nat} {D : Nat → Nat} (hS : Sh n D) {i : Nat} (hi : i < n) : i + 1 = endN n D i ∨ D (i + 1) = D i + 1 := by
  obtain ⟨a1, a2, a3, a4⟩ := endN_is (D := D) hi
  rcases Nat.lt_or_ge (i + 1) (endN n D i) with z | z
  · right
    have := a3 (i + 1) (Nat.le_refl _) z
    have := (hS.2.2.2.1 (i + 1) (by omega) (by omega)).2
    rw [Nat.add_sub_cancel] at this
    omega
  · left; omega
theorem M_childOf_loop {m : MD} {n : Nat} {L D K : Nat → Nat} (h : MRep m.1 n L D K) (hS : Sh n D) {i c : Nat} (hi : i < n) (hc : c < 1000) : ∀ fu k q, k ≤ c → c - k < fu → q ≤ endN n D i → i < q → (q = endN n D i ∨ D q = D i + 1) → c - k ≤ cntN D (D i + 1) (endN n D i - q) q → M_childOf_L7 fu m (nI c) (nI q) (nI k) = some (nI (scF D (D i + 1) (endN n D i - q) q (c - k))) := by
  intro fu
  have hn := hS.2.1
  have h2 := endN_le (D := D) hi
  induction fu with
  | zero => intro k q _ h; omega
  | succ fu ih =>
    intro k q hk hf hq hiq hor hcnt
    rw [M_childOf_L7]
    by_cases e1 : k = c
    · subst e1
      simp (disch := omega) only [p_0, p_1, p_2, p_3, p_4, p_5, p_6, p_7, p_8, p_9, p_18, p_25, p_26, p_32, p_40, p_41, p_44, p_97, p_100, p_120, p_122, p_126, p_138, p_218, p_654, p_872, p_ofNat, p_ofInt, p_add, p_mul, p_le, p_lt, p_eq, p_neg, p_nn, p_m1, p_m1r, p_dec, p_ix, p_sub, if_true, if_false, reduceIte, Nat.not_lt_zero, or_false, false_or, or_true, true_or, and_true, true_and, p_bs]
      rw [if_pos (Nat.le_refl _), Nat.sub_self]
      rcases hor with z | z
      · rw [z, Nat.sub_self, scF]
      · by_cases z2 : q = endN n D i
        · rw [z2, Nat.sub_self, scF]
        · rw [show endN n D i - q = (endN n D i - (q + 1)) + 1 by omega, scF, if_pos z, if_pos rfl]
    · have hqe : q < endN n D i := by
        rcases Nat.lt_or_ge q (endN n D i) with z | z
        · exact z
        · rw [show endN n D i - q = 0 by omega, cntN] at hcnt; omega
      have hd : D q = D i + 1 := by
        rcases hor with z | z
        · omega
        · exact z
      obtain ⟨a1, a2, a3, a4⟩ := child_next hS hi hiq hqe hd
      have hlen : endN n D i - q = (endN n D i - (q + 1)) + 1 := by omega
      have hlen2 : endN n D i - (q + 1) = (endN n D q - (q + 1)) + (endN n D i - endN n D q) := by omega
      have hsk := scF_skip (D := D) (c0 := D i + 1) (c - k - 1) (endN n D q - (q + 1)) (endN n D i - endN n D q) (q + 1) (fun j b1 b2 => a4 j (by omega) (by omega))
      have hck := cntN_skip (D := D) (c0 := D i + 1) (endN n D q - (q + 1)) (endN n D i - endN n D q) (q + 1) (fun j b1 b2 => a4 j (by omega) (by omega))
      rw [show q + 1 + (endN n D q - (q + 1)) = endN n D q by omega] at hsk hck
      rw [hlen, cntN, if_pos hd, hlen2, hck] at hcnt
      have e4 := ih (k + 1) (endN n D q) (by omega) (by omega) a2 (by omega) a3 (by omega)
      rw [M_end_ok h hn hS.2.2.2.2 (show q < n by omega)]
      simp (disch := omega) only [p_0, p_1, p_2, p_3, p_4, p_5, p_6, p_7, p_8, p_9, p_18, p_25, p_26, p_32, p_40, p_41, p_44, p_97, p_100, p_120, p_122, p_126, p_138, p_218, p_654, p_872, p_ofNat, p_ofInt, p_add, p_mul, p_le, p_lt, p_eq, p_neg, p_nn, p_m1, p_m1r, p_dec, p_ix, p_sub, if_true, if_false, reduceIte, Nat.not_lt_zero, or_false, false_or, or_true, true_or, and_true, true_and, p_bs]
      rw [if_neg (by omega), e4, hlen, scF, if_pos hd, if_neg (by omega), hlen2, hsk, show c - (k + 1) = c - k - 1 by omega]
theorem M_childOf_ok {m : MD} {n : Nat} {L D K : Nat → Nat} (h : MRep m.1 n L D K) (hS : Sh n D) {i : Nat} (hi : i < n) {c : Nat} (hc : c ≤ chN n D i) : M_childOf m (nI i) (nI c) = some (nI (kidN n D i c)) := by
  have hn := hS.2.1
  have h1 := endN_gt (D := D) hi
  have h2 := endN_le (D := D) hi
  have h3 := cntN_le D (D i + 1) (endN n D i - (i + 1)) (i + 1)
  have e := M_childOf_loop h hS hi (c := c) (by unfold chN at hc; omega) 1000 0 (i + 1) (Nat.zero_le _) (by unfold chN at hc; omega) (by omega) (by omega) (child_first hS hi) (by rw [Nat.sub_zero]; exact hc)
  rw [M_childOf]
  simp (disch := omega) only [p_0, p_1, p_2, p_3, p_4, p_5, p_6, p_7, p_8, p_9, p_18, p_25, p_26, p_32, p_40, p_41, p_44, p_97, p_100, p_120, p_122, p_126, p_138, p_218, p_654, p_872, p_ofNat, p_ofInt, p_add, p_mul, p_le, p_lt, p_eq, p_neg, p_nn, p_m1, p_m1r, p_dec, p_ix, p_sub, if_true, if_false, reduceIte, Nat.not_lt_zero, or_false, false_or, or_true, true_or, and_true, true_and, p_bs]
  rw [e, kidN, Nat.sub_zero]
/-- what a child's number is -/
theorem kidN_is {n : Nat} {D : Nat → Nat} {i : Nat} (hi : i < n) (c : Nat) : i < kidN n D i c ∧ kidN n D i c ≤ endN n D i ∧ (kidN n D i c < endN n D i → D (kidN n D i c) = D i + 1) := by
  have h1 := endN_gt (D := D) hi
  obtain ⟨a1, a2, a3⟩ := scF_is (D := D) (c0 := D i + 1) (endN n D i - (i + 1)) (i + 1) c
  unfold kidN
  exact ⟨by omega, by omega, fun h => a3 (by omega)⟩
theorem scF_lt {D : Nat → Nat} {c0 : Nat} : ∀ k j c, c < cntN D c0 k j → scF D c0 k j c < j + k := by
  intro k
  induction k with
  | zero => intro j c h; rw [cntN] at h; omega
  | succ k ih =>
    intro j c h
    rw [cntN] at h
    rw [scF]
    by_cases e : D j = c0
    · rw [if_pos e] at h ⊢
      by_cases e2 : c = 0
      · rw [if_pos e2]; omega
      · rw [if_neg e2]; have := ih (j + 1) (c - 1) (by omega); omega
    · rw [if_neg e] at h ⊢
      have := ih (j + 1) c (by omega); omega
theorem kidN_lt {n : Nat} {D : Nat → Nat} {i : Nat} (hi : i < n) {c : Nat} (hc : c < chN n D i) : kidN n D i c < endN n D i := by
  have h1 := endN_gt (D := D) hi
  have := scF_lt (D := D) (c0 := D i + 1) (endN n D i - (i + 1)) (i + 1) c hc
  unfold kidN
  omega
theorem T_childAt_in {t : TR} {n : Nat} {L D : Nat → Nat} (h : TRep t n L D) (hn : n ≤ 40) (hD : ∀ i, i < n → D i ≤ 7) {i : Nat} (hi : i < n) {c : Nat} (hc : c < chN n D i) : T_childAt t (nI i) (nI c) = some (nI (kidN n D i c)) := by
  have h2 := endN_le (D := D) hi
  have h3 := cntN_le D (D i + 1) (endN n D i - (i + 1)) (i + 1)
  have h4 : chN n D i ≤ 40 := by unfold chN; omega
  rw [T_childAt, T_childrenOf_ok h hn hD hi, T_startOfChild_ok h hn hD hi (by omega)]
  simp (disch := omega) only [p_0, p_1, p_2, p_3, p_4, p_5, p_6, p_7, p_8, p_9, p_18, p_25, p_26, p_32, p_40, p_41, p_44, p_97, p_100, p_120, p_122, p_126, p_138, p_218, p_654, p_872, p_ofNat, p_ofInt, p_add, p_mul, p_le, p_lt, p_eq, p_neg, p_nn, p_m1, p_m1r, p_dec, p_ix, p_sub, if_true, if_false, reduceIte, Nat.not_lt_zero, or_false, false_or, or_true, true_or, and_true, true_and, p_bs]
  rw [if_neg (by omega)]
theorem T_childAt_out {t : TR} {n : Nat} {L D : Nat → Nat} (h : TRep t n L D) (hn : n ≤ 40) (hD : ∀ i, i < n → D i ≤ 7) {i : Nat} (hi : i < n) {c : Nat} (hc : chN n D i ≤ c) (h9 : c < 2147483648) : T_childAt t (nI i) (nI c) = some (-nI 1) := by
  have h2 := endN_le (D := D) hi
  have h3 := cntN_le D (D i + 1) (endN n D i - (i + 1)) (i + 1)
  have h4 : chN n D i ≤ 40 := by unfold chN; omega
  rw [T_childAt, T_childrenOf_ok h hn hD hi, T_startOfChild_ok h hn hD hi h9]
  simp (disch := omega) only [p_0, p_1, p_2, p_3, p_4, p_5, p_6, p_7, p_8, p_9, p_18, p_25, p_26, p_32, p_40, p_41, p_44, p_97, p_100, p_120, p_122, p_126, p_138, p_218, p_654, p_872, p_ofNat, p_ofInt, p_add, p_mul, p_le, p_lt, p_eq, p_neg, p_nn, p_m1, p_m1r, p_dec, p_ix, p_sub, if_true, if_false, reduceIte, Nat.not_lt_zero, or_false, false_or, or_true, true_or, and_true, true_and, p_bs]
  rw [if_pos hc]
