/-! the node beside: behind it -/
set_option maxHeartbeats 400000 in
theorem T_next_ok {t : TR} {n : Nat} {L D : Nat → Nat} (h : TRep t n L D) (hn : n ≤ 40) (hD : ∀ i, i < n → D i ≤ 7) {i : Nat} (hi : i < n) : T_next t (nI i) = some (if endN n D i < n ∧ D (endN n D i) = D i then nI (endN n D i) else -nI 1) := by
  have h1 := endN_gt (D := D) hi
  have h2 := endN_le (D := D) hi
  have hdi := hD i hi
  rw [T_next, T_endOf_ok h hn hD hi, T_depthOf_in h hn hi]
  by_cases e : endN n D i < n
  · have hde := hD _ e
    rw [p_bs, T_depthOf_in h hn e]
    simp (disch := omega) only [p_0, p_1, p_2, p_3, p_4, p_5, p_6, p_7, p_8, p_9, p_18, p_25, p_26, p_32, p_40, p_41, p_44, p_97, p_100, p_120, p_122, p_126, p_138, p_218, p_654, p_872, p_ofNat, p_ofInt, p_add, p_mul, p_le, p_lt, p_eq, p_neg, p_nn, p_m1, p_m1r, p_dec, p_ix, p_sub, if_true, if_false, reduceIte, Nat.not_lt_zero, or_false, false_or, or_true, true_or, and_true, true_and, p_bs]
    by_cases e2 : D (endN n D i) = D i
    · rw [if_pos e2, if_pos ⟨e, e2⟩]
    · rw [if_neg e2, if_neg (fun z => e2 z.2)]
  · rw [p_bs, T_depthOf_out h hn (show n ≤ endN n D i by omega) (by omega), if_neg (fun z => e z.1)]
    simp (disch := omega) only [p_0, p_1, p_2, p_3, p_4, p_5, p_6, p_7, p_8, p_9, p_18, p_25, p_26, p_32, p_40, p_41, p_44, p_97, p_100, p_120, p_122, p_126, p_138, p_218, p_654, p_872, p_ofNat, p_ofInt, p_add, p_mul, p_le, p_lt, p_eq, p_neg, p_nn, p_m1, p_m1r, p_dec, p_ix, p_sub, if_true, if_false, reduceIte, Nat.not_lt_zero, or_false, false_or, or_true, true_or, and_true, true_and, p_bs]
set_option maxHeartbeats 400000 in
theorem M_besides_1 {m : MD} {n : Nat} {L D K : Nat → Nat} (h : MRep m.1 n L D K) (hn : n ≤ 40) (hD : ∀ i, i < n → D i ≤ 7) {i : Nat} (hi : i < n) : M_besides m (nI i) (nI 1) = some (if endN n D i < n ∧ D (endN n D i) = D i then nI (endN n D i) else -nI 1) := by
  have h1 := endN_gt (D := D) hi
  have h2 := endN_le (D := D) hi
  have hdi := hD i hi
  rw [M_besides, M_end_ok h hn hD hi, M_many h]
  by_cases e : endN n D i < n
  · have hde := hD _ e
    rw [p_bs, M_deep_in h hn e, M_deep_in h hn hi]
    simp (disch := omega) only [p_0, p_1, p_2, p_3, p_4, p_5, p_6, p_7, p_8, p_9, p_18, p_25, p_26, p_32, p_40, p_41, p_44, p_97, p_100, p_120, p_122, p_126, p_138, p_218, p_654, p_872, p_ofNat, p_ofInt, p_add, p_mul, p_le, p_lt, p_eq, p_neg, p_nn, p_m1, p_m1r, p_dec, p_ix, p_sub, if_true, if_false, reduceIte, Nat.not_lt_zero, or_false, false_or, or_true, true_or, and_true, true_and, p_bs]
    rw [if_neg (by omega), if_neg (by omega)]
    by_cases e2 : D (endN n D i) = D i
    · rw [if_pos e2, if_pos ⟨e, e2⟩]
    · rw [if_neg e2, if_neg (fun z => e2 z.2)]
  · rw [if_neg (show ¬ (endN n D i < n ∧ D (endN n D i) = D i) from fun z => e z.1)]
    simp (disch := omega) only [p_0, p_1, p_2, p_3, p_4, p_5, p_6, p_7, p_8, p_9, p_18, p_25, p_26, p_32, p_40, p_41, p_44, p_97, p_100, p_120, p_122, p_126, p_138, p_218, p_654, p_872, p_ofNat, p_ofInt, p_add, p_mul, p_le, p_lt, p_eq, p_neg, p_nn, p_m1, p_m1r, p_dec, p_ix, p_sub, if_true, if_false, reduceIte, Nat.not_lt_zero, or_false, false_or, or_true, true_or, and_true, true_and, p_bs]
    rw [if_neg (by omega), if_pos (by omega)]
