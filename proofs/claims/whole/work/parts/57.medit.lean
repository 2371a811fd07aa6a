/-! changes of the reference's array -/
theorem p_pred_lt {k j : Nat} (hk : k < 2147483648) (hj : j < 2147483648) : (nI k - nI 1 < nI j) = (k ≤ j) := by
  rw [Int32.lt_iff_toInt_lt, Int32.toInt_sub, nI_toInt hk, nI_toInt hj, nI_toInt (show (1 : Nat) < 2147483648 by omega), Int.bmod_eq_of_le (by omega) (by omega)]
  exact propext (by omega)
theorem p_pred {k : Nat} : nI k + -nI 1 = nI k - nI 1 := (Int32.sub_eq_add_neg _ _).symm
theorem M_opens_loop {a c n : Nat} (hc : n + c ≤ 40) (ha : a ≤ n) (w : Arr × Arr × Int32 × Arr × Arr × Int32 × Int32 × Int32 × Int32 × Arr × Arr) : ∀ fu k (s : Arr), 3 * a ≤ k → k ≤ 3 * n → k - 3 * a < fu → s 0 = nI n →
    ∃ s' : Arr, M_opens_L11 fu (s, w) (nI a) (nI c) (nI k - nI 1) = some (s', w) ∧ s' 0 = nI (n + c) ∧ ∀ j, 1 ≤ j → s' j = if 18 + 3 * (a + c) ≤ j ∧ j < 18 + k + 3 * c then s (j - 3 * c) else s j := by
  intro fu
  induction fu with
  | zero => intro k s _ _ h; omega
  | succ fu ih =>
    intro k s h1 h2 h3 h4
    rw [M_opens_L11]
    by_cases e : k = 3 * a
    · subst e
      refine ⟨upd s 0 (nI (n + c)), ?_, p_upd_same _ _ _, fun j hj => ?_⟩
      · rw [if_pos (by rw [p_3, p_mul, p_pred_lt (by omega) (by omega)]; exact Nat.le_refl _)]
        show (some (upd s 0 (s 0 + nI c))).bind _ = _
        rw [h4, p_add]
        rfl
      · rw [p_upd_ne (by omega), if_neg (by omega)]
    · obtain ⟨s', g1, g2, g3⟩ := ih (k - 1) (upd s (18 + (k - 1) + 3 * c) (s (18 + (k - 1)))) (by omega) (by omega) (by omega) (by rw [p_upd_ne (by omega)]; exact h4)
      refine ⟨s', ?_, g2, fun j hj => ?_⟩
      · rw [if_neg (by rw [p_3, p_mul, p_pred_lt (by omega) (by omega)]; omega), p_sub (show 1 ≤ k by omega)]
        simp (disch := omega) only [p_18, p_0, p_1, p_3, p_add, p_mul, p_ix, p_neg, p_bs, false_or, p_pred]
        rw [if_neg (by omega), if_neg (by omega)]
        exact g1
      · rw [g3 j hj]
        by_cases c1 : 18 + 3 * (a + c) ≤ j ∧ j < 18 + (k - 1) + 3 * c
        · rw [if_pos c1, if_pos (by omega), p_upd_ne (by omega)]
        · rw [if_neg c1]
          by_cases c2 : j = 18 + (k - 1) + 3 * c
          · subst c2; rw [p_upd_same, if_pos (by omega)]; congr 1; omega
          · rw [p_upd_ne c2, if_neg (by omega)]
theorem M_opens_ok {a c n : Nat} (hn : 1 ≤ n) (hc : n + c ≤ 40) (ha : a ≤ n) (m : MD) (h : m.1 0 = nI n) :
    ∃ s' : Arr, M_opens m (nI a) (nI c) = some (s', m.2) ∧ s' 0 = nI (n + c) ∧ ∀ j, 1 ≤ j → s' j = if 18 + 3 * (a + c) ≤ j ∧ j < 18 + 3 * (n + c) then m.1 (j - 3 * c) else m.1 j := by
  obtain ⟨s', g1, g2, g3⟩ := M_opens_loop hc ha m.2 1000 (3 * n) m.1 (by omega) (Nat.le_refl _) (by omega) h
  refine ⟨s', ?_, g2, fun j hj => ?_⟩
  · rw [M_opens]
    show M_opens_L11 1000 (m.1, m.2) (nI a) (nI c) (3 * m.1 0 - 1) = _
    rw [h, p_3, p_mul, p_1]
    exact g1
  · rw [g3 j hj]
    by_cases c1 : 18 + 3 * (a + c) ≤ j ∧ j < 18 + 3 * (n + c)
    · rw [if_pos (by omega), if_pos c1]
    · rw [if_neg (by omega), if_neg c1]
theorem M_lays_ok {i : Nat} (hi : i < 40) (m : MD) (l d : Int32) : M_lays m (nI i) l d = some (upd (upd (upd (upd m.1 (18 + 3 * i) l) (18 + 3 * i + 1) d) (18 + 3 * i + 2) (m.1 1)) 1 (m.1 1 + nI 1), m.2) := by
  rw [M_lays]
  simp (disch := omega) only [p_18, p_0, p_1, p_2, p_3, p_add, p_mul, p_ix, p_neg, p_bs, false_or]
  rw [if_neg (by omega), if_neg (by omega), if_neg (by omega), p_upd_ne (show 1 ≠ 18 + 3 * i + 2 by omega), p_upd_ne (show 1 ≠ 18 + 3 * i + 1 by omega), p_upd_ne (show 1 ≠ 18 + 3 * i by omega)]
theorem M_closes_loop {c n : Nat} (hn : n + c ≤ 40) (w : Arr × Arr × Int32 × Arr × Arr × Int32 × Int32 × Int32 × Int32 × Arr × Arr) : ∀ fu k (s : Arr), k ≤ 3 * n → 3 * n - k < fu → s 0 = nI n →
    ∃ s' : Arr, M_closes_L14 fu (s, w) (nI c) (nI k) = some (s', w) ∧ ∀ j, s' j = if 18 + k ≤ j ∧ j < 18 + 3 * n then s (j + 3 * c) else s j := by
  intro fu
  induction fu with
  | zero => intro k s _ h; omega
  | succ fu ih =>
    intro k s h1 h2 h4
    rw [M_closes_L14]
    have e0 : (s, w).1 (ix 0) = nI n := h4
    by_cases e : k = 3 * n
    · subst e
      refine ⟨s, ?_, fun j => by rw [if_neg (by omega)]⟩
      rw [e0, p_3, p_mul, if_pos (Int32.le_refl _)]
    · by_cases hc0 : c = 0
      · subst hc0
        obtain ⟨s', g1, g3⟩ := ih (k + 1) (upd s (18 + k) (s (18 + k + 3 * 0))) (by omega) (by omega) (by rw [p_upd_ne (by omega)]; exact h4)
        refine ⟨s', ?_, fun j => ?_⟩
        · rw [e0]
          simp (disch := omega) only [p_18, p_0, p_1, p_3, p_add, p_mul, p_ix, p_neg, p_bs, p_le, false_or]
          rw [if_neg (by omega), if_neg (by omega), if_neg (by omega)]
          exact g1
        · rw [g3 j]
          by_cases c2 : j = 18 + k
          · subst c2; rw [if_neg (by omega), p_upd_same, if_pos (by omega)]
          · rw [p_upd_ne c2, p_upd_ne (show j + 3 * 0 ≠ 18 + k by omega)]
            by_cases c1 : 18 + (k + 1) ≤ j ∧ j < 18 + 3 * n
            · rw [if_pos c1, if_pos (by omega)]
            · rw [if_neg c1, if_neg (by omega)]
      · obtain ⟨s', g1, g3⟩ := ih (k + 1) (upd s (18 + k) (s (18 + k + 3 * c))) (by omega) (by omega) (by rw [p_upd_ne (by omega)]; exact h4)
        refine ⟨s', ?_, fun j => ?_⟩
        · rw [e0]
          simp (disch := omega) only [p_18, p_0, p_1, p_3, p_add, p_mul, p_ix, p_neg, p_bs, p_le, false_or]
          rw [if_neg (by omega), if_neg (by omega), if_neg (by omega)]
          exact g1
        · rw [g3 j]
          by_cases c1 : 18 + (k + 1) ≤ j ∧ j < 18 + 3 * n
          · rw [if_pos c1, if_pos (by omega), p_upd_ne (by omega)]
          · rw [if_neg c1]
            by_cases c2 : j = 18 + k
            · subst c2; rw [p_upd_same, if_pos (by omega)]
            · rw [p_upd_ne c2, if_neg (by omega)]
/-- c nodes from a on are taken out of n -/
theorem M_closes_ok {a c n : Nat} (hn : n ≤ 40) (hac : a + c ≤ n) (m : MD) (h : m.1 0 = nI n) :
    ∃ s' : Arr, M_closes m (nI a) (nI c) = some (s', m.2) ∧ s' 0 = nI (n - c) ∧ ∀ j, 1 ≤ j → s' j = if 18 + 3 * a ≤ j ∧ j < 18 + 3 * (n - c) then m.1 (j + 3 * c) else m.1 j := by
  obtain ⟨s', g1, g3⟩ := M_closes_loop (c := c) (n := n - c) (by omega) m.2 1000 (3 * a) (upd m.1 0 (nI (n - c))) (by omega) (by omega) (p_upd_same _ _ _)
  refine ⟨s', ?_, ?_, fun j hj => ?_⟩
  · rw [M_closes]
    show (some (upd m.1 0 (m.1 0 - nI c))).bind _ = _
    rw [h, p_sub (by omega), p_bs, p_3, p_mul]
    exact g1
  · rw [g3 0, if_neg (by omega), p_upd_same]
  · rw [g3 j]
    by_cases c1 : 18 + 3 * a ≤ j ∧ j < 18 + 3 * (n - c)
    · rw [if_pos c1, if_pos c1]; exact p_upd_ne (by omega)
    · rw [if_neg c1, if_neg c1]; exact p_upd_ne (by omega)
theorem M_sinks_loop {b : Nat} (v : Int32) (hb : b ≤ 40) (w : Arr × Arr × Int32 × Arr × Arr × Int32 × Int32 × Int32 × Int32 × Arr × Arr) : ∀ fu k (s : Arr), k ≤ b → b - k < fu →
    ∃ s' : Arr, M_sinks_L3 fu (s, w) (nI b) v (nI k) = some (s', w) ∧ (∀ i, k ≤ i → i < b → s' (18 + 3 * i + 1) = s (18 + 3 * i + 1) + v) ∧ ∀ j, (∀ i, k ≤ i → i < b → j ≠ 18 + 3 * i + 1) → s' j = s j := by
  intro fu
  induction fu with
  | zero => intro k s _ h; omega
  | succ fu ih =>
    intro k s h1 h2
    rw [M_sinks_L3]
    by_cases e : k = b
    · subst e
      exact ⟨s, if_pos (Int32.le_refl _), fun i a1 a2 => by omega, fun j _ => rfl⟩
    · obtain ⟨s', g1, g2, g3⟩ := ih (k + 1) (upd s (18 + 3 * k + 1) (s (18 + 3 * k + 1) + v)) (by omega) (by omega)
      refine ⟨s', ?_, fun i a1 a2 => ?_, fun j hj => ?_⟩
      · rw [if_neg (by rw [p_le (by omega) (by omega)]; omega)]
        simp (disch := omega) only [p_18, p_0, p_1, p_3, p_add, p_mul, p_ix, p_neg, p_bs, false_or]
        rw [if_neg (by omega), if_neg (by omega)]
        exact g1
      · by_cases z : i = k
        · subst z
          rw [g3 _ (fun i' b1 b2 => by omega), p_upd_same]
        · rw [g2 i (by omega) a2, p_upd_ne (by omega)]
      · rw [g3 j (fun i a1 a2 => hj i (by omega) a2), p_upd_ne (hj k (Nat.le_refl k) (by omega))]
theorem M_sinks_ok {a b : Nat} (v : Int32) (hab : a ≤ b) (hb : b ≤ 40) (m : MD) :
    ∃ s' : Arr, M_sinks m (nI a) (nI b) v = some (s', m.2) ∧ (∀ i, a ≤ i → i < b → s' (18 + 3 * i + 1) = m.1 (18 + 3 * i + 1) + v) ∧ ∀ j, (∀ i, a ≤ i → i < b → j ≠ 18 + 3 * i + 1) → m.1 j = s' j := by
  obtain ⟨s', g1, g2, g3⟩ := M_sinks_loop v hb m.2 1000 a m.1 hab (by omega)
  exact ⟨s', g1, g2, fun j hj => (g3 j hj).symm⟩
