/-! heights -/
def hiN (D : Nat → Nat) (d : Nat) : Nat → Nat → Nat → Nat
  | 0, _, a => a
  | k + 1, j, a => hiN D d k (j + 1) (if D j - d ≤ a then a else D j - d)
def heN (n : Nat) (D : Nat → Nat) (i : Nat) : Nat := hiN D (D i) (endN n D i - i) i 0
set_option maxHeartbeats 400000 in
theorem M_height_loop {m : MD} {n : Nat} {L D K : Nat → Nat} (h : MRep m.1 n L D K) (hn : n ≤ 40) (hD : ∀ i, i < n → D i ≤ 7) {i : Nat} (hi : i < n) : ∀ fu j a, i ≤ j → j ≤ endN n D i → endN n D i - j < fu → a ≤ 7 → M_height_L4 fu m (nI i) (nI a) (nI j) = some (nI (hiN D (D i) (endN n D i - j) j a)) := by
  intro fu
  have h2 := endN_le (D := D) hi
  have hI := endN_is (D := D) hi
  induction fu with
  | zero => intro j a _ _ h; omega
  | succ fu ih =>
    intro j a hij hj hf ha
    rw [M_height_L4, M_end_ok h hn hD hi]
    by_cases e1 : j = endN n D i
    · subst e1
      simp (disch := omega) only [p_0, p_1, p_2, p_3, p_4, p_5, p_6, p_7, p_8, p_9, p_18, p_25, p_26, p_32, p_40, p_41, p_44, p_97, p_100, p_120, p_122, p_126, p_138, p_218, p_654, p_872, p_ofNat, p_ofInt, p_add, p_mul, p_le, p_lt, p_eq, p_neg, p_nn, p_m1, p_m1r, p_dec, p_ix, p_sub, if_true, if_false, reduceIte, Nat.not_lt_zero, or_false, false_or, or_true, true_or, and_true, true_and, p_bs]
      rw [if_pos (Nat.le_refl _), Nat.sub_self, hiN]
    · have hdi := hD i hi
      have hdj := hD j (by omega)
      have hge : D i ≤ D j := by
        by_cases z : j = i
        · rw [z]; exact Nat.le_refl _
        · have := hI.2.2.1 j (by omega) (by omega); omega
      rw [M_deep_in h hn (show j < n by omega), M_deep_in h hn hi]
      simp (disch := omega) only [p_0, p_1, p_2, p_3, p_4, p_5, p_6, p_7, p_8, p_9, p_18, p_25, p_26, p_32, p_40, p_41, p_44, p_97, p_100, p_120, p_122, p_126, p_138, p_218, p_654, p_872, p_ofNat, p_ofInt, p_add, p_mul, p_le, p_lt, p_eq, p_neg, p_nn, p_m1, p_m1r, p_dec, p_ix, p_sub, if_true, if_false, reduceIte, Nat.not_lt_zero, or_false, false_or, or_true, true_or, and_true, true_and, p_bs]
      rw [if_neg (by omega), show endN n D i - j = (endN n D i - (j + 1)) + 1 by omega, hiN]
      by_cases e2 : D j - D i ≤ a
      · rw [if_pos e2, if_pos e2]
        rw [ih (j + 1) a (by omega) (by omega) (by omega) ha]
      · rw [if_neg e2, if_neg e2]
        rw [ih (j + 1) (D j - D i) (by omega) (by omega) (by omega) (by omega)]
set_option maxHeartbeats 400000 in
theorem M_height_ok {m : MD} {n : Nat} {L D K : Nat → Nat} (h : MRep m.1 n L D K) (hn : n ≤ 40) (hD : ∀ i, i < n → D i ≤ 7) {i : Nat} (hi : i < n) : M_height m (nI i) = some (nI (heN n D i)) := by
  have h1 := endN_gt (D := D) hi
  have h2 := endN_le (D := D) hi
  rw [M_height]
  exact M_height_loop h hn hD hi 1000 i 0 (Nat.le_refl i) (by omega) (by omega) (by omega)
set_option maxHeartbeats 400000 in
theorem T_heightOf_loop {t : TR} {n : Nat} {L D : Nat → Nat} (h : TRep t n L D) (hn : n ≤ 40) (hD : ∀ i, i < n → D i ≤ 7) {i : Nat} (hi : i < n) : ∀ fu j a, i ≤ j → j ≤ endN n D i → endN n D i - j < fu → a ≤ 7 → T_heightOf_L15 fu t (nI i) (nI (D i + a)) (nI (endN n D i)) (nI j) = some (nI (hiN D (D i) (endN n D i - j) j a)) := by
  intro fu
  have h2 := endN_le (D := D) hi
  have hI := endN_is (D := D) hi
  have hdi := hD i hi
  induction fu with
  | zero => intro j a _ _ h; omega
  | succ fu ih =>
    intro j a hij hj hf ha
    rw [T_heightOf_L15]
    by_cases e1 : j = endN n D i
    · subst e1
      rw [T_depthOf_in h hn hi]
      simp (disch := omega) only [p_0, p_1, p_2, p_3, p_4, p_5, p_6, p_7, p_8, p_9, p_18, p_25, p_26, p_32, p_40, p_41, p_44, p_97, p_100, p_120, p_122, p_126, p_138, p_218, p_654, p_872, p_ofNat, p_ofInt, p_add, p_mul, p_le, p_lt, p_eq, p_neg, p_nn, p_m1, p_m1r, p_dec, p_ix, p_sub, if_true, if_false, reduceIte, Nat.not_lt_zero, or_false, false_or, or_true, true_or, and_true, true_and, p_bs]
      rw [if_pos (Nat.le_refl _), Nat.sub_self, hiN, Nat.add_sub_cancel_left]
    · have hdj := hD j (by omega)
      have hge : D i ≤ D j := by
        by_cases z : j = i
        · rw [z]; exact Nat.le_refl _
        · have := hI.2.2.1 j (by omega) (by omega); omega
      rw [T_depthOf_in h hn (show j < n by omega)]
      have em : imax (nI (D i + a)) (nI (D j)) = nI (D i + (if D j - D i ≤ a then a else D j - D i)) := by
        show (if nI (D i + a) < nI (D j) then nI (D j) else nI (D i + a)) = _
        by_cases e2 : D j - D i ≤ a
        · rw [if_neg (by rw [p_lt (by omega) (by omega)]; omega), if_pos e2]
        · rw [if_pos (by rw [p_lt (by omega) (by omega)]; omega), if_neg e2]; congr 1; omega
      rw [p_bs, em, show endN n D i - j = (endN n D i - (j + 1)) + 1 by omega, hiN]
      simp (disch := omega) only [p_0, p_1, p_2, p_3, p_4, p_5, p_6, p_7, p_8, p_9, p_18, p_25, p_26, p_32, p_40, p_41, p_44, p_97, p_100, p_120, p_122, p_126, p_138, p_218, p_654, p_872, p_ofNat, p_ofInt, p_add, p_mul, p_le, p_lt, p_eq, p_neg, p_nn, p_m1, p_m1r, p_dec, p_ix, p_sub, if_true, if_false, reduceIte, Nat.not_lt_zero, or_false, false_or, or_true, true_or, and_true, true_and, p_bs]
      rw [if_neg (by omega)]
      rw [ih (j + 1) _ (by omega) (by omega) (by omega) (by split <;> omega)]
set_option maxHeartbeats 400000 in
theorem T_heightOf_ok {t : TR} {n : Nat} {L D : Nat → Nat} (h : TRep t n L D) (hn : n ≤ 40) (hD : ∀ i, i < n → D i ≤ 7) {i : Nat} (hi : i < n) : T_heightOf t (nI i) = some (nI (heN n D i)) := by
  have h1 := endN_gt (D := D) hi
  have h2 := endN_le (D := D) hi
  rw [T_heightOf, T_depthOf_in h hn hi, p_bs, T_endOf_ok h hn hD hi, p_bs]
  exact T_heightOf_loop h hn hD hi 1000 i 0 (Nat.le_refl i) (by omega) (by omega) (by omega)
