set_option maxHeartbeats 400000 in
theorem M_which_loop {m : MD} {n : Nat} {L D K : Nat → Nat} (h : MRep m.1 n L D K) (hn : n ≤ 40) (hD : ∀ i, i < n → D i ≤ 7) {i : Nat} (hi : i < n) : ∀ fu j acc, j ≤ i → i - j < fu → acc + (i - j) ≤ 100 → M_which_L10 fu m (nI i) (nI acc) (nI j) = some (nI (acc + cntN D (D i) (i - j) j)) := by
  intro fu
  induction fu with
  | zero => intro j acc _ h; omega
  | succ fu ih =>
    intro j acc hj hf hacc
    rw [M_which_L10]
    by_cases e1 : j = i
    · subst e1
      simp (disch := omega) only [p_0, p_1, p_2, p_3, p_4, p_5, p_6, p_7, p_8, p_9, p_18, p_25, p_26, p_32, p_40, p_41, p_44, p_97, p_100, p_120, p_122, p_126, p_138, p_218, p_654, p_872, p_ofNat, p_ofInt, p_add, p_mul, p_le, p_lt, p_eq, p_neg, p_nn, p_m1, p_m1r, p_dec, p_ix, p_sub, if_true, if_false, reduceIte, Nat.not_lt_zero, or_false, false_or, or_true, true_or, and_true, true_and, p_bs]
      rw [if_pos (Nat.le_refl j), Nat.sub_self, cntN, Nat.add_zero]
    · have hdi := hD i hi
      have hdj := hD j (by omega)
      rw [M_deep_in h hn (show j < n by omega), M_deep_in h hn hi]
      simp (disch := omega) only [p_0, p_1, p_2, p_3, p_4, p_5, p_6, p_7, p_8, p_9, p_18, p_25, p_26, p_32, p_40, p_41, p_44, p_97, p_100, p_120, p_122, p_126, p_138, p_218, p_654, p_872, p_ofNat, p_ofInt, p_add, p_mul, p_le, p_lt, p_eq, p_neg, p_nn, p_m1, p_m1r, p_dec, p_ix, p_sub, if_true, if_false, reduceIte, Nat.not_lt_zero, or_false, false_or, or_true, true_or, and_true, true_and, p_bs]
      rw [if_neg (by omega), ih (j + 1) (acc + 1) (by omega) (by omega) (by omega), show acc + 0 = acc from rfl, ih (j + 1) acc (by omega) (by omega) (by omega), show i - j = (i - (j + 1)) + 1 by omega, cntN]
      by_cases e2 : D j = D i
      · rw [if_pos e2, if_pos e2, Nat.add_assoc]
      · rw [if_neg e2, if_neg e2, Nat.zero_add]
set_option maxHeartbeats 400000 in
theorem M_which_ok {m : MD} {n : Nat} {L D K : Nat → Nat} (h : MRep m.1 n L D K) (hS : Sh n D) {i : Nat} (h0 : 0 < i) (hi : i < n) : M_which m (nI i) = some (nI (tuN D i)) := by
  have hn := hS.2.1
  obtain ⟨a1, a2, a3⟩ := abN_is hS h0 hi
  rw [M_which, M_above_ok h hS h0 hi]
  simp (disch := omega) only [p_0, p_1, p_2, p_3, p_4, p_5, p_6, p_7, p_8, p_9, p_18, p_25, p_26, p_32, p_40, p_41, p_44, p_97, p_100, p_120, p_122, p_126, p_138, p_218, p_654, p_872, p_ofNat, p_ofInt, p_add, p_mul, p_le, p_lt, p_eq, p_neg, p_nn, p_m1, p_m1r, p_dec, p_ix, p_sub, if_true, if_false, reduceIte, Nat.not_lt_zero, or_false, false_or, or_true, true_or, and_true, true_and, p_bs]
  rw [M_which_loop h hn hS.2.2.2.2 hi 1000 (abN D i + 1) 0 (by omega) (by omega) (by omega), Nat.zero_add, tuN]
