/-! ahead of it: the last of its depth behind the node above -/
def ahN (D : Nat → Nat) (i : Nat) : Nat → Nat → Option Nat
  | 0, _ => none
  | k + 1, j => match ahN D i k (j + 1) with
    | some r => some r
    | none => if D j = D i then some j else none
def oI (o : Option Nat) : Int32 := match o with
  | some r => nI r
  | none => -nI 1
def ahdN (D : Nat → Nat) (i : Nat) : Option Nat := ahN D i (i - (abN D i + 1)) (abN D i + 1)
theorem ahN_some {D : Nat → Nat} {i : Nat} : ∀ k j r, ahN D i k j = some r → j ≤ r ∧ r < j + k ∧ D r = D i ∧ ∀ q, r < q → q < j + k → D q ≠ D i := by
  intro k
  induction k with
  | zero => intro j r h; rw [ahN] at h; cases h
  | succ k ih =>
    intro j r h
    rw [ahN] at h
    cases e : ahN D i k (j + 1) with
    | some r' =>
      rw [e] at h
      cases h
      obtain ⟨a1, a2, a3, a4⟩ := ih (j + 1) r e
      exact ⟨by omega, by omega, a3, fun q b1 b2 => a4 q b1 (by omega)⟩
    | none =>
      rw [e] at h
      dsimp only at h
      by_cases hc : D j = D i
      · rw [if_pos hc] at h
        cases h
        refine ⟨Nat.le_refl j, by omega, hc, fun q b1 b2 hq => ?_⟩
        have key : ∀ k j, ahN D i k j = none → ∀ q, j ≤ q → q < j + k → D q ≠ D i := by
          intro k
          induction k with
          | zero => intro j _ q c1 c2; omega
          | succ k ih2 =>
            intro j hn q c1 c2
            rw [ahN] at hn
            cases e2 : ahN D i k (j + 1) with
            | some r' => rw [e2] at hn; cases hn
            | none =>
              rw [e2] at hn
              dsimp only at hn
              by_cases hq : q = j
              · subst hq
                intro hz
                rw [if_pos hz] at hn
                cases hn
              · exact ih2 (j + 1) e2 q (by omega) (by omega)
        exact key k (j + 1) e q (by omega) (by omega) hq
      · rw [if_neg hc] at h; cases h
theorem ahN_none {D : Nat → Nat} {i : Nat} : ∀ k j, ahN D i k j = none → ∀ q, j ≤ q → q < j + k → D q ≠ D i := by
  intro k
  induction k with
  | zero => intro j _ q c1 c2; omega
  | succ k ih2 =>
    intro j hn q c1 c2
    rw [ahN] at hn
    cases e2 : ahN D i k (j + 1) with
    | some r' => rw [e2] at hn; cases hn
    | none =>
      rw [e2] at hn
      dsimp only at hn
      by_cases hq : q = j
      · subst hq
        intro hz
        rw [if_pos hz] at hn
        cases hn
      · exact ih2 (j + 1) e2 q (by omega) (by omega)
set_option maxHeartbeats 400000 in
theorem M_besides_loop {m : MD} {n : Nat} {L D K : Nat → Nat} (h : MRep m.1 n L D K) (hn : n ≤ 40) (hD : ∀ i, i < n → D i ≤ 7) {i : Nat} (hi : i < n) : ∀ fu j (o : Option Nat), j ≤ i → i - j < fu → M_besides_L50 fu m (nI i) (oI o) (nI j) = some (oI ((ahN D i (i - j) j).or o)) := by
  intro fu
  induction fu with
  | zero => intro j o _ h; omega
  | succ fu ih =>
    intro j o hj hf
    rw [M_besides_L50]
    by_cases e1 : j = i
    · subst e1
      simp (disch := omega) only [p_0, p_1, p_2, p_3, p_4, p_5, p_6, p_7, p_8, p_9, p_18, p_25, p_26, p_32, p_40, p_41, p_44, p_97, p_100, p_120, p_122, p_126, p_138, p_218, p_654, p_872, p_ofNat, p_ofInt, p_add, p_mul, p_le, p_lt, p_eq, p_neg, p_nn, p_m1, p_m1r, p_dec, p_ix, p_sub, if_true, if_false, reduceIte, Nat.not_lt_zero, or_false, false_or, or_true, true_or, and_true, true_and, p_bs]
      rw [if_pos (Nat.le_refl j), Nat.sub_self, ahN]; rfl
    · have hdi := hD i hi
      have hdj := hD j (by omega)
      have e3 : (nI j : Int32) = oI (some j) := rfl
      rw [M_deep_in h hn (show j < n by omega), M_deep_in h hn hi]
      simp (disch := omega) only [p_0, p_1, p_2, p_3, p_4, p_5, p_6, p_7, p_8, p_9, p_18, p_25, p_26, p_32, p_40, p_41, p_44, p_97, p_100, p_120, p_122, p_126, p_138, p_218, p_654, p_872, p_ofNat, p_ofInt, p_add, p_mul, p_le, p_lt, p_eq, p_neg, p_nn, p_m1, p_m1r, p_dec, p_ix, p_sub, if_true, if_false, reduceIte, Nat.not_lt_zero, or_false, false_or, or_true, true_or, and_true, true_and, p_bs]
      rw [if_neg (by omega), ih (j + 1) o (by omega) (by omega)]
      have e4 := ih (j + 1) (some j) (by omega) (by omega)
      rw [show oI (some j) = nI j from rfl] at e4
      rw [e4, show i - j = (i - (j + 1)) + 1 by omega, ahN]
      cases e5 : ahN D i (i - (j + 1)) (j + 1) with
      | some r => simp only [Option.or, ite_self]
      | none =>
        by_cases e2 : D j = D i
        · rw [if_pos e2]; dsimp only; rw [if_pos e2]; rfl
        · rw [if_neg e2]; dsimp only; rw [if_neg e2]; try rfl
set_option maxHeartbeats 400000 in
theorem M_besides_0 {m : MD} {n : Nat} {L D K : Nat → Nat} (h : MRep m.1 n L D K) (hS : Sh n D) {i : Nat} (h0 : 0 < i) (hi : i < n) : M_besides m (nI i) (nI 0) = some (oI (ahdN D i)) := by
  have hn := hS.2.1
  obtain ⟨a1, a2, a3⟩ := abN_is hS h0 hi
  have e := M_besides_loop h hn hS.2.2.2.2 hi 1000 (abN D i + 1) none (by omega) (by omega)
  rw [show oI none = -nI 1 from rfl, Option.or_none] at e
  rw [M_besides, M_above_ok h hS h0 hi]
  simp (disch := omega) only [p_0, p_1, p_2, p_3, p_4, p_5, p_6, p_7, p_8, p_9, p_18, p_25, p_26, p_32, p_40, p_41, p_44, p_97, p_100, p_120, p_122, p_126, p_138, p_218, p_654, p_872, p_ofNat, p_ofInt, p_add, p_mul, p_le, p_lt, p_eq, p_neg, p_nn, p_m1, p_m1r, p_dec, p_ix, p_sub, if_true, if_false, reduceIte, Nat.not_lt_zero, or_false, false_or, or_true, true_or, and_true, true_and, p_bs]
  exact e
set_option maxHeartbeats 400000 in
theorem M_besides_top {m : MD} {n : Nat} {L D K : Nat → Nat} (h : MRep m.1 n L D K) : M_besides m (nI 0) (nI 0) = some (-nI 1) := by
  rw [M_besides, M_above_top, if_pos (show nI 0 = 0 from rfl), p_bs, show (-nI 1 + 1 : Int32) = nI 0 from by decide, M_besides_L50, if_pos (show nI 0 ≤ nI 0 from by decide)]
  rfl
set_option maxHeartbeats 400000 in
theorem T_ahead_loop {t : TR} {n : Nat} {L D : Nat → Nat} (h : TRep t n L D) (hS : Sh n D) {i : Nat} (h0 : 0 < i) (hi : i < n) : ∀ fu j, j < i → j < fu → (∀ q, j < q → q < i → D i < D q) → T_ahead_L4 fu t (nI i) (nI j) = some (oI (ahdN D i)) := by
  have hn := hS.2.1
  obtain ⟨a1, a2, a3⟩ := abN_is hS h0 hi
  intro fu
  induction fu with
  | zero => intro j _ h; omega
  | succ fu ih =>
    intro j hj hf hlo
    have hdi := hS.2.2.2.2 i hi
    have hdj := hS.2.2.2.2 j (by omega)
    rw [T_ahead_L4, T_depthOf_in h hn (show j < n by omega), T_depthOf_in h hn hi]
    by_cases e1 : D j < D i
    · simp (disch := omega) only [p_0, p_1, p_2, p_3, p_4, p_5, p_6, p_7, p_8, p_9, p_18, p_25, p_26, p_32, p_40, p_41, p_44, p_97, p_100, p_120, p_122, p_126, p_138, p_218, p_654, p_872, p_ofNat, p_ofInt, p_add, p_mul, p_le, p_lt, p_eq, p_neg, p_nn, p_m1, p_m1r, p_dec, p_ix, p_sub, if_true, if_false, reduceIte, Nat.not_lt_zero, or_false, false_or, or_true, true_or, and_true, true_and, p_bs]
      rw [if_pos e1]
      cases e : ahdN D i with
      | none => rfl
      | some r =>
        obtain ⟨b1, b2, b3, b4⟩ := ahN_some _ _ _ e
        exfalso
        have hjr : j ≤ abN D i := by
          rcases Nat.lt_or_ge (abN D i) j with z | z
          · have := a3 j z (by omega); omega
          · exact z
        have := hlo r (by omega) (by omega)
        omega
    · by_cases e2 : D j = D i
      · simp (disch := omega) only [p_0, p_1, p_2, p_3, p_4, p_5, p_6, p_7, p_8, p_9, p_18, p_25, p_26, p_32, p_40, p_41, p_44, p_97, p_100, p_120, p_122, p_126, p_138, p_218, p_654, p_872, p_ofNat, p_ofInt, p_add, p_mul, p_le, p_lt, p_eq, p_neg, p_nn, p_m1, p_m1r, p_dec, p_ix, p_sub, if_true, if_false, reduceIte, Nat.not_lt_zero, or_false, false_or, or_true, true_or, and_true, true_and, p_bs]
        rw [if_neg e1, if_pos e2]
        have hja : abN D i < j := by
          rcases Nat.lt_trichotomy (abN D i) j with z | z | z
          · exact z
          · rw [← z] at e2; omega
          · have := hlo (abN D i) z a1; omega
        cases e : ahdN D i with
        | none => exact absurd e2 (ahN_none _ _ e j (by omega) (by omega))
        | some r =>
          obtain ⟨b1, b2, b3, b4⟩ := ahN_some _ _ _ e
          have hr : r = j := by
            rcases Nat.lt_trichotomy r j with z | z | z
            · exact absurd e2 (b4 j z (by omega))
            · exact z
            · have := hlo r z (by omega); omega
          rw [hr]; rfl
      · have hj0 : 0 < j := by
          rcases Nat.eq_zero_or_pos j with z | z
          · rw [z, hS.2.2.1] at e1 e2; omega
          · exact z
        have e3 := ih (j - 1) (by omega) (by omega) (fun q c1 c2 => by
          by_cases hq : q = j
          · rw [hq]; omega
          · exact hlo q (by omega) c2)
        simp (disch := omega) only [p_0, p_1, p_2, p_3, p_4, p_5, p_6, p_7, p_8, p_9, p_18, p_25, p_26, p_32, p_40, p_41, p_44, p_97, p_100, p_120, p_122, p_126, p_138, p_218, p_654, p_872, p_ofNat, p_ofInt, p_add, p_mul, p_le, p_lt, p_eq, p_neg, p_nn, p_m1, p_m1r, p_dec, p_ix, p_sub, if_true, if_false, reduceIte, Nat.not_lt_zero, or_false, false_or, or_true, true_or, and_true, true_and, p_bs]
        rw [if_neg e1, if_neg e2, e3]
set_option maxHeartbeats 400000 in
theorem T_ahead_ok {t : TR} {n : Nat} {L D : Nat → Nat} (h : TRep t n L D) (hS : Sh n D) {i : Nat} (h0 : 0 < i) (hi : i < n) : T_ahead t (nI i) = some (oI (ahdN D i)) := by
  have hn := hS.2.1
  rw [T_ahead]
  simp (disch := omega) only [p_0, p_1, p_2, p_3, p_4, p_5, p_6, p_7, p_8, p_9, p_18, p_25, p_26, p_32, p_40, p_41, p_44, p_97, p_100, p_120, p_122, p_126, p_138, p_218, p_654, p_872, p_ofNat, p_ofInt, p_add, p_mul, p_le, p_lt, p_eq, p_neg, p_nn, p_m1, p_m1r, p_dec, p_ix, p_sub, if_true, if_false, reduceIte, Nat.not_lt_zero, or_false, false_or, or_true, true_or, and_true, true_and, p_bs]
  exact T_ahead_loop h hS h0 hi 1000 (i - 1) (by omega) (by omega) (fun q a b => by omega)
set_option maxHeartbeats 400000 in
theorem T_ahead_top {t : TR} : T_ahead t (nI 0) = some (-nI 1) := by
  rw [T_ahead, T_ahead_L4]; rfl
