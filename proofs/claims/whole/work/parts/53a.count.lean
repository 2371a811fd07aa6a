/-! counts: children, which child, beside, height -/
def cntN (D : Nat → Nat) (c : Nat) : Nat → Nat → Nat
  | 0, _ => 0
  | k + 1, j => (if D j = c then 1 else 0) + cntN D c k (j + 1)
theorem cntN_le (D : Nat → Nat) (c : Nat) : ∀ k j, cntN D c k j ≤ k := by
  intro k
  induction k with
  | zero => intro j; exact Nat.le_refl 0
  | succ k ih =>
    intro j
    rw [cntN]
    have := ih (j + 1)
    split <;> omega
def chN (n : Nat) (D : Nat → Nat) (i : Nat) : Nat := cntN D (D i + 1) (endN n D i - (i + 1)) (i + 1)
def tuN (D : Nat → Nat) (i : Nat) : Nat := cntN D (D i) (i - (abN D i + 1)) (abN D i + 1)
set_option maxHeartbeats 400000 in
theorem T_childrenOf_loop {t : TR} {n : Nat} {L D : Nat → Nat} (h : TRep t n L D) (hn : n ≤ 40) (hD : ∀ i, i < n → D i ≤ 7) {i e : Nat} (hi : i < n) (he : e ≤ n) : ∀ fu j acc, j ≤ e → e - j < fu → acc + (e - j) ≤ 100 → T_childrenOf_L13 fu t (nI i) (nI acc) (nI e) (nI j) = some (nI (acc + cntN D (D i + 1) (e - j) j)) := by
  intro fu
  induction fu with
  | zero => intro j acc _ h; omega
  | succ fu ih =>
    intro j acc hj hf hacc
    rw [T_childrenOf_L13]
    by_cases e1 : j = e
    · subst e1
      simp (disch := omega) only [p_0, p_1, p_2, p_3, p_4, p_5, p_6, p_7, p_8, p_9, p_18, p_25, p_26, p_32, p_40, p_41, p_44, p_97, p_100, p_120, p_122, p_126, p_138, p_218, p_654, p_872, p_ofNat, p_ofInt, p_add, p_mul, p_le, p_lt, p_eq, p_neg, p_nn, p_m1, p_m1r, p_dec, p_ix, p_sub, if_true, if_false, reduceIte, Nat.not_lt_zero, or_false, false_or, or_true, true_or, and_true, true_and, p_bs]
      rw [if_pos (Nat.le_refl j), Nat.sub_self, cntN, Nat.add_zero]
    · have hdi := hD i hi
      have hdj := hD j (by omega)
      rw [T_depthOf_in h hn (show j < n by omega), T_depthOf_in h hn hi]
      simp (disch := omega) only [p_0, p_1, p_2, p_3, p_4, p_5, p_6, p_7, p_8, p_9, p_18, p_25, p_26, p_32, p_40, p_41, p_44, p_97, p_100, p_120, p_122, p_126, p_138, p_218, p_654, p_872, p_ofNat, p_ofInt, p_add, p_mul, p_le, p_lt, p_eq, p_neg, p_nn, p_m1, p_m1r, p_dec, p_ix, p_sub, if_true, if_false, reduceIte, Nat.not_lt_zero, or_false, false_or, or_true, true_or, and_true, true_and, p_bs]
      rw [if_neg (by omega), ih (j + 1) (acc + 1) (by omega) (by omega) (by omega), ih (j + 1) acc (by omega) (by omega) (by omega), show e - j = (e - (j + 1)) + 1 by omega, cntN]
      by_cases e2 : D j = D i + 1
      · rw [if_pos e2, if_pos e2, Nat.add_assoc]
      · rw [if_neg e2, if_neg e2, Nat.zero_add]
set_option maxHeartbeats 400000 in
theorem T_childrenOf_ok {t : TR} {n : Nat} {L D : Nat → Nat} (h : TRep t n L D) (hn : n ≤ 40) (hD : ∀ i, i < n → D i ≤ 7) {i : Nat} (hi : i < n) : T_childrenOf t (nI i) = some (nI (chN n D i)) := by
  have h1 := endN_gt (D := D) hi
  have h2 := endN_le (D := D) hi
  rw [T_childrenOf, T_endOf_ok h hn hD hi]
  simp (disch := omega) only [p_0, p_1, p_2, p_3, p_4, p_5, p_6, p_7, p_8, p_9, p_18, p_25, p_26, p_32, p_40, p_41, p_44, p_97, p_100, p_120, p_122, p_126, p_138, p_218, p_654, p_872, p_ofNat, p_ofInt, p_add, p_mul, p_le, p_lt, p_eq, p_neg, p_nn, p_m1, p_m1r, p_dec, p_ix, p_sub, if_true, if_false, reduceIte, Nat.not_lt_zero, or_false, false_or, or_true, true_or, and_true, true_and, p_bs]
  rw [T_childrenOf_loop h hn hD hi h2 1000 (i + 1) 0 (by omega) (by omega) (by omega), Nat.zero_add, chN]
set_option maxHeartbeats 400000 in
theorem M_children_loop {m : MD} {n : Nat} {L D K : Nat → Nat} (h : MRep m.1 n L D K) (hn : n ≤ 40) (hD : ∀ i, i < n → D i ≤ 7) {i : Nat} (hi : i < n) : ∀ fu j acc, j ≤ endN n D i → endN n D i - j < fu → acc + (endN n D i - j) ≤ 100 → M_children_L6 fu m (nI i) (nI acc) (nI j) = some (nI (acc + cntN D (D i + 1) (endN n D i - j) j)) := by
  intro fu
  have h2 := endN_le (D := D) hi
  induction fu with
  | zero => intro j acc _ h; omega
  | succ fu ih =>
    intro j acc hj hf hacc
    rw [M_children_L6, M_end_ok h hn hD hi]
    by_cases e1 : j = endN n D i
    · subst e1
      simp (disch := omega) only [p_0, p_1, p_2, p_3, p_4, p_5, p_6, p_7, p_8, p_9, p_18, p_25, p_26, p_32, p_40, p_41, p_44, p_97, p_100, p_120, p_122, p_126, p_138, p_218, p_654, p_872, p_ofNat, p_ofInt, p_add, p_mul, p_le, p_lt, p_eq, p_neg, p_nn, p_m1, p_m1r, p_dec, p_ix, p_sub, if_true, if_false, reduceIte, Nat.not_lt_zero, or_false, false_or, or_true, true_or, and_true, true_and, p_bs]
      rw [if_pos (Nat.le_refl _), Nat.sub_self, cntN, Nat.add_zero]
    · have hdi := hD i hi
      have hdj := hD j (by omega)
      rw [M_deep_in h hn (show j < n by omega), M_deep_in h hn hi]
      simp (disch := omega) only [p_0, p_1, p_2, p_3, p_4, p_5, p_6, p_7, p_8, p_9, p_18, p_25, p_26, p_32, p_40, p_41, p_44, p_97, p_100, p_120, p_122, p_126, p_138, p_218, p_654, p_872, p_ofNat, p_ofInt, p_add, p_mul, p_le, p_lt, p_eq, p_neg, p_nn, p_m1, p_m1r, p_dec, p_ix, p_sub, if_true, if_false, reduceIte, Nat.not_lt_zero, or_false, false_or, or_true, true_or, and_true, true_and, p_bs]
      rw [if_neg (by omega), ih (j + 1) (acc + 1) (by omega) (by omega) (by omega), show acc + 0 = acc from rfl, ih (j + 1) acc (by omega) (by omega) (by omega), show endN n D i - j = (endN n D i - (j + 1)) + 1 by omega, cntN]
      by_cases e2 : D j = D i + 1
      · rw [if_pos e2, if_pos e2, Nat.add_assoc]
      · rw [if_neg e2, if_neg e2, Nat.zero_add]
set_option maxHeartbeats 400000 in
theorem M_children_ok {m : MD} {n : Nat} {L D K : Nat → Nat} (h : MRep m.1 n L D K) (hn : n ≤ 40) (hD : ∀ i, i < n → D i ≤ 7) {i : Nat} (hi : i < n) : M_children m (nI i) = some (nI (chN n D i)) := by
  have h1 := endN_gt (D := D) hi
  have h2 := endN_le (D := D) hi
  rw [M_children]
  simp (disch := omega) only [p_0, p_1, p_2, p_3, p_4, p_5, p_6, p_7, p_8, p_9, p_18, p_25, p_26, p_32, p_40, p_41, p_44, p_97, p_100, p_120, p_122, p_126, p_138, p_218, p_654, p_872, p_ofNat, p_ofInt, p_add, p_mul, p_le, p_lt, p_eq, p_neg, p_nn, p_m1, p_m1r, p_dec, p_ix, p_sub, if_true, if_false, reduceIte, Nat.not_lt_zero, or_false, false_or, or_true, true_or, and_true, true_and, p_bs]
  rw [M_children_loop h hn hD hi 1000 (i + 1) 0 (by omega) (by omega) (by omega), Nat.zero_add, chN]
