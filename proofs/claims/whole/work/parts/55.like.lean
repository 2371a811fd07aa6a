/-! like parts, leaves, meeting nodes, letters found, spines -/
theorem p_shift {x a y b : Nat} (h1 : x + a < 2147483648) (h2 : y + b < 2147483648) : (nI x + (nI a - nI b) = nI y) = (x + a = y + b) := by
  rw [Int32.sub_eq_add_neg, ← Int32.add_assoc, p_add, ← Int32.sub_eq_add_neg, Int32.sub_eq_iff_eq_add, p_add, p_eq h1 h2]
theorem M_areLike_0 {m : MD} {b a len k : Nat} (fu : Nat) : M_areLike_L29 (fu + 1) m (nI b) (nI a) (nI len) (nI 0) (nI k) = some (nI 0) := by
  rw [M_areLike_L29]
  by_cases e : nI len ≤ nI k
  · rw [if_pos e]; rfl
  · rw [if_neg e]; rfl
theorem alike_loop {t : TR} {m : MD} {n : Nat} {L D K : Nat → Nat} (h : TRep t n L D) (hm : MRep m.1 n L D K) (hn : n ≤ 40) (hD : ∀ i, i < n → D i ≤ 7) (hL : ∀ i, i < n → L i ≤ 25) {a b len : Nat} (ha : a < n) (hb : b < n) (ha2 : a + len ≤ n) (hb2 : b + len ≤ n) (hga : ∀ k, k < len → D a ≤ D (a + k)) (hgb : ∀ k, k < len → D b ≤ D (b + k)) : ∀ fu fu' k, k ≤ len → len - k < fu → len - k + 1 < fu' → ∃ v, T_alike_L37 fu t (nI a) (nI b) (nI len) (nI (D b) - nI (D a)) (nI k) = some v ∧ M_areLike_L29 fu' m (nI b) (nI a) (nI len) (nI 1) (nI k) = some v ∧ (v = nI 0 ∨ v = nI 1) := by
  intro fu
  induction fu with
  | zero => intro fu' k _ h; omega
  | succ fu ih =>
    intro fu' k hk hf hf'
    obtain ⟨fu'', rfl⟩ : ∃ z, fu' = z + 1 := ⟨fu' - 1, by omega⟩
    rw [T_alike_L37, M_areLike_L29]
    by_cases e1 : k = len
    · subst e1
      exact ⟨nI 1, by rw [if_pos (show nI k ≤ nI k from Int32.le_refl _)]; rfl, by rw [if_pos (show nI k ≤ nI k from Int32.le_refl _)]; rfl, Or.inr rfl⟩
    · have q1 : a + k < n := by omega
      have q2 : b + k < n := by omega
      have d1 := hD _ q1
      have d2 := hD _ q2
      have d3 := hD a ha
      have d4 := hD b hb
      have l1 := hL _ q1
      have l2 := hL _ q2
      have g1 := hga k (by omega)
      have g2 := hgb k (by omega)
      have hlt : ¬ nI len ≤ nI k := by rw [p_le (by omega) (by omega)]; omega
      rw [if_neg hlt, if_neg hlt, if_neg (show ¬ nI 1 = 0 from by decide), p_add, p_add, T_letterOf_in h hn q1, T_letterOf_in h hn q2, M_sign_in hm hn q2, M_sign_in hm hn q1, T_depthOf_in h hn q1, T_depthOf_in h hn q2, M_deep_in hm hn q2, M_deep_in hm hn q1, M_deep_in hm hn hb, M_deep_in hm hn ha]
      simp only [p_bs]
      obtain ⟨v, v1, v2, v3⟩ := ih fu'' (k + 1) (by omega) (by omega) (by omega)
      by_cases e2 : L (a + k) = L (b + k)
      · rw [e2, if_pos rfl, if_pos rfl, p_sub g2, p_sub g1]
        by_cases e3 : D (a + k) + D b = D (b + k) + D a
        · refine ⟨v, ?_, ?_, v3⟩
          · rw [if_pos (by rw [p_shift (by omega) (by omega)]; exact e3)]
            simp (disch := omega) only [p_0, p_1, p_2, p_3, p_4, p_5, p_6, p_7, p_8, p_9, p_18, p_25, p_26, p_32, p_40, p_41, p_44, p_97, p_100, p_120, p_122, p_126, p_138, p_218, p_654, p_872, p_ofNat, p_ofInt, p_add, p_mul, p_le, p_lt, p_eq, p_neg, p_nn, p_m1, p_m1r, p_dec, p_ix, p_sub, if_true, if_false, reduceIte, Nat.not_lt_zero, or_false, false_or, or_true, true_or, and_true, true_and, p_bs]
            exact v1
          · rw [if_pos (by rw [p_eq (by omega) (by omega)]; omega)]
            simp (disch := omega) only [p_0, p_1, p_2, p_3, p_4, p_5, p_6, p_7, p_8, p_9, p_18, p_25, p_26, p_32, p_40, p_41, p_44, p_97, p_100, p_120, p_122, p_126, p_138, p_218, p_654, p_872, p_ofNat, p_ofInt, p_add, p_mul, p_le, p_lt, p_eq, p_neg, p_nn, p_m1, p_m1r, p_dec, p_ix, p_sub, if_true, if_false, reduceIte, Nat.not_lt_zero, or_false, false_or, or_true, true_or, and_true, true_and, p_bs]
            exact v2
        · refine ⟨nI 0, ?_, ?_, Or.inl rfl⟩
          · rw [if_neg (by rw [p_shift (by omega) (by omega)]; exact e3)]; rfl
          · rw [if_neg (by rw [p_eq (by omega) (by omega)]; omega)]
            obtain ⟨fz, rfl⟩ : ∃ z, fu'' = z + 1 := ⟨fu'' - 1, by omega⟩
            simp (disch := omega) only [p_0, p_1, p_2, p_3, p_4, p_5, p_6, p_7, p_8, p_9, p_18, p_25, p_26, p_32, p_40, p_41, p_44, p_97, p_100, p_120, p_122, p_126, p_138, p_218, p_654, p_872, p_ofNat, p_ofInt, p_add, p_mul, p_le, p_lt, p_eq, p_neg, p_nn, p_m1, p_m1r, p_dec, p_ix, p_sub, if_true, if_false, reduceIte, Nat.not_lt_zero, or_false, false_or, or_true, true_or, and_true, true_and, p_bs]
            exact M_areLike_0 fz
      · refine ⟨nI 0, ?_, ?_, Or.inl rfl⟩
        · rw [if_neg (by rw [p_eq (by omega) (by omega)]; exact e2)]; rfl
        · rw [if_neg (by rw [p_eq (by omega) (by omega)]; exact fun z => e2 z.symm)]
          obtain ⟨fz, rfl⟩ : ∃ z, fu'' = z + 1 := ⟨fu'' - 1, by omega⟩
          simp (disch := omega) only [p_0, p_1, p_2, p_3, p_4, p_5, p_6, p_7, p_8, p_9, p_18, p_25, p_26, p_32, p_40, p_41, p_44, p_97, p_100, p_120, p_122, p_126, p_138, p_218, p_654, p_872, p_ofNat, p_ofInt, p_add, p_mul, p_le, p_lt, p_eq, p_neg, p_nn, p_m1, p_m1r, p_dec, p_ix, p_sub, if_true, if_false, reduceIte, Nat.not_lt_zero, or_false, false_or, or_true, true_or, and_true, true_and, p_bs]
          exact M_areLike_0 fz
theorem alike_ok {t : TR} {m : MD} {n : Nat} {L D K : Nat → Nat} (h : TRep t n L D) (hm : MRep m.1 n L D K) (hn : n ≤ 40) (hD : ∀ i, i < n → D i ≤ 7) (hL : ∀ i, i < n → L i ≤ 25) {a b : Nat} (ha : a < n) (hb : b < n) : ∃ v, T_alike t (nI a) (nI b) = some v ∧ M_areLike m (nI b) (nI a) = some v ∧ (v = nI 0 ∨ v = nI 1) := by
  have a1 := endN_gt (D := D) ha
  have a2 := endN_le (D := D) ha
  have b1 := endN_gt (D := D) hb
  have b2 := endN_le (D := D) hb
  have ia := (endN_is (D := D) ha).2.2.1
  have ib := (endN_is (D := D) hb).2.2.1
  rw [T_alike, M_areLike, T_endOf_ok h hn hD ha, T_endOf_ok h hn hD hb, M_end_ok hm hn hD hb, M_end_ok hm hn hD ha, T_depthOf_in h hn hb, T_depthOf_in h hn ha]
  simp only [p_bs]
  rw [p_sub (Nat.le_of_lt a1), p_sub (Nat.le_of_lt b1)]
  by_cases e : endN n D a - a = endN n D b - b
  · rw [e, if_pos rfl, if_pos rfl]
    exact alike_loop h hm hn hD hL ha hb (by omega) (by omega) (fun k hk => by
      by_cases z : k = 0
      · rw [z]; exact Nat.le_refl _
      · have := ia (a + k) (by omega) (by omega); omega) (fun k hk => by
      by_cases z : k = 0
      · rw [z]; exact Nat.le_refl _
      · have := ib (b + k) (by omega) (by omega); omega) 1000 1000 0 (Nat.zero_le _) (by omega) (by omega)
  · rw [if_neg (by rw [p_eq (by omega) (by omega)]; exact e), if_neg (by rw [p_eq (by omega) (by omega)]; exact e)]
    exact ⟨nI 0, rfl, M_areLike_0 999, Or.inl rfl⟩
theorem like_loop {x : TP} {m : MD} {n p : Nat} {L D K : Nat → Nat} (h : TRep x.1.1 n L D) (hp : x.1.2.2.2.2.2.1 = nI p) (hm : MRep m.1 n L D K) (hn : n ≤ 40) (hD : ∀ i, i < n → D i ≤ 7) (hL : ∀ i, i < n → L i ≤ 25) (hpn : p < n) : ∀ fu fu' k acc, k ≤ n → n - k < fu → n - k < fu' → acc + (n - k) ≤ 100 → ∃ v, P_like_L4 fu x (nI acc) (nI k) = some v ∧ M_like_L9 fu' m (nI p) (nI acc) (nI k) = some v := by
  intro fu
  induction fu with
  | zero => intro fu' k acc _ h; omega
  | succ fu ih =>
    intro fu' k acc hk hf hf' hacc
    obtain ⟨fu'', rfl⟩ : ∃ z, fu' = z + 1 := ⟨fu' - 1, by omega⟩
    rw [P_like_L4, M_like_L9, T_size_ok h, M_many hm, hp]
    simp only [p_bs]
    by_cases e1 : k = n
    · subst e1
      rw [if_pos (Int32.le_refl _), if_pos (Int32.le_refl _)]
      exact ⟨_, rfl, rfl⟩
    · have hlt : ¬ nI n ≤ nI k := by rw [p_le (by omega) (by omega)]; omega
      obtain ⟨v, v1, v2, v3⟩ := alike_ok h hm hn hD hL (show k < n by omega) hpn
      rw [if_neg hlt, if_neg hlt, v1, v2]
      simp only [p_bs]
      rcases v3 with rfl | rfl
      · rw [if_pos (show nI 0 = 0 from rfl), if_pos (show nI 0 = 0 from rfl)]
        simp (disch := omega) only [p_0, p_1, p_2, p_3, p_4, p_5, p_6, p_7, p_8, p_9, p_18, p_25, p_26, p_32, p_40, p_41, p_44, p_97, p_100, p_120, p_122, p_126, p_138, p_218, p_654, p_872, p_ofNat, p_ofInt, p_add, p_mul, p_le, p_lt, p_eq, p_neg, p_nn, p_m1, p_m1r, p_dec, p_ix, p_sub, if_true, if_false, reduceIte, Nat.not_lt_zero, or_false, false_or, or_true, true_or, and_true, true_and, p_bs]
        exact ih fu'' (k + 1) acc (by omega) (by omega) (by omega) (by omega)
      · rw [if_neg (show ¬ nI 1 = 0 from by decide), if_neg (show ¬ nI 1 = 0 from by decide)]
        simp (disch := omega) only [p_0, p_1, p_2, p_3, p_4, p_5, p_6, p_7, p_8, p_9, p_18, p_25, p_26, p_32, p_40, p_41, p_44, p_97, p_100, p_120, p_122, p_126, p_138, p_218, p_654, p_872, p_ofNat, p_ofInt, p_add, p_mul, p_le, p_lt, p_eq, p_neg, p_nn, p_m1, p_m1r, p_dec, p_ix, p_sub, if_true, if_false, reduceIte, Nat.not_lt_zero, or_false, false_or, or_true, true_or, and_true, true_and, p_bs]
        exact ih fu'' (k + 1) (acc + 1) (by omega) (by omega) (by omega) (by omega)
theorem leaves_loop {t : TR} {m : MD} {n : Nat} {L D K : Nat → Nat} (h : TRep t n L D) (hm : MRep m.1 n L D K) (hn : n ≤ 40) (hD : ∀ i, i < n → D i ≤ 7) : ∀ fu fu' k acc, k ≤ n → n - k < fu → n - k < fu' → acc + (n - k) ≤ 100 → ∃ v, T_leaves_L4 fu t (nI acc) (nI k) = some v ∧ M_leaves_L4 fu' m (nI acc) (nI k) = some v := by
  intro fu
  induction fu with
  | zero => intro fu' k acc _ h; omega
  | succ fu ih =>
    intro fu' k acc hk hf hf' hacc
    obtain ⟨fu'', rfl⟩ : ∃ z, fu' = z + 1 := ⟨fu' - 1, by omega⟩
    rw [T_leaves_L4, M_leaves_L4, T_size_ok h, M_many hm]
    simp only [p_bs]
    by_cases e1 : k = n
    · subst e1
      rw [if_pos (Int32.le_refl _), if_pos (Int32.le_refl _)]
      exact ⟨_, rfl, rfl⟩
    · have hlt : ¬ nI n ≤ nI k := by rw [p_le (by omega) (by omega)]; omega
      rw [if_neg hlt, if_neg hlt, T_childrenOf_ok h hn hD (show k < n by omega), M_children_ok hm hn hD (show k < n by omega)]
      simp only [p_bs]
      by_cases e2 : nI (chN n D k) = 0
      · rw [if_pos e2, if_pos e2]
        simp (disch := omega) only [p_0, p_1, p_2, p_3, p_4, p_5, p_6, p_7, p_8, p_9, p_18, p_25, p_26, p_32, p_40, p_41, p_44, p_97, p_100, p_120, p_122, p_126, p_138, p_218, p_654, p_872, p_ofNat, p_ofInt, p_add, p_mul, p_le, p_lt, p_eq, p_neg, p_nn, p_m1, p_m1r, p_dec, p_ix, p_sub, if_true, if_false, reduceIte, Nat.not_lt_zero, or_false, false_or, or_true, true_or, and_true, true_and, p_bs]
        exact ih fu'' (k + 1) (acc + 1) (by omega) (by omega) (by omega) (by omega)
      · rw [if_neg e2, if_neg e2]
        simp (disch := omega) only [p_0, p_1, p_2, p_3, p_4, p_5, p_6, p_7, p_8, p_9, p_18, p_25, p_26, p_32, p_40, p_41, p_44, p_97, p_100, p_120, p_122, p_126, p_138, p_218, p_654, p_872, p_ofNat, p_ofInt, p_add, p_mul, p_le, p_lt, p_eq, p_neg, p_nn, p_m1, p_m1r, p_dec, p_ix, p_sub, if_true, if_false, reduceIte, Nat.not_lt_zero, or_false, false_or, or_true, true_or, and_true, true_and, p_bs]
        exact ih fu'' (k + 1) acc (by omega) (by omega) (by omega) (by omega)
theorem leaves_ok {t : TR} {m : MD} {n : Nat} {L D K : Nat → Nat} (h : TRep t n L D) (hm : MRep m.1 n L D K) (hn : n ≤ 40) (hD : ∀ i, i < n → D i ≤ 7) : ∃ v, T_leaves t = some v ∧ M_leaves m = some v := by
  rw [T_leaves, M_leaves]
  exact leaves_loop h hm hn hD 1000 1000 0 0 (Nat.zero_le _) (by omega) (by omega) (by omega)
/-! where two spines part -/
def An (n : Nat) (D : Nat → Nat) (q a : Nat) : Prop := q ≤ a ∧ a < endN n D q
def IsMe (n : Nat) (D : Nat → Nat) (a b r : Nat) : Prop := An n D r a ∧ An n D r b ∧ ∀ q, An n D q a → An n D q b → q ≤ r
theorem IsMe.uniq {n : Nat} {D : Nat → Nat} {a b r r' : Nat} (h : IsMe n D a b r) (h' : IsMe n D a b r') : r = r' := by
  have := h.2.2 r' h'.1 h'.2.1
  have := h'.2.2 r h.1 h.2.1
  omega
theorem An.deep {n : Nat} {D : Nat → Nat} {q a : Nat} (h : An n D q a) (ha : a < n) (hne : q ≠ a) : D q < D a := by
  have h1 := h.1
  exact (endN_is (D := D) (show q < n by omega)).2.2.1 a (by omega) h.2
theorem An.up {n : Nat} {D : Nat → Nat} (hS : Sh n D) {q a : Nat} (h : An n D q a) (ha : a < n) (hne : q ≠ a) : An n D q (abN D a) := by
  have h1 := h.1
  have h2 := h.2
  have hd := h.deep ha hne
  obtain ⟨a1, a2, a3⟩ := abN_is hS (by omega) ha
  refine ⟨?_, by omega⟩
  rcases Nat.lt_or_ge (abN D a) q with z | z
  · have := a3 q z h.1; omega
  · exact z
theorem An.down {n : Nat} {D : Nat → Nat} (hS : Sh n D) {q a : Nat} (h0 : 0 < a) (ha : a < n) (h : An n D q (abN D a)) : An n D q a := by
  obtain ⟨a1, a2, a3⟩ := abN_is hS h0 ha
  have h1 := h.1
  have h2 := h.2
  refine ⟨by omega, ?_⟩
  have hq := endN_is (D := D) (show q < n by omega)
  rcases Nat.lt_or_ge a (endN n D q) with z | z
  · exact z
  · have b1 := hq.2.2.2 (by omega)
    have b2 := a3 (endN n D q) h2 z
    by_cases e : q = abN D a
    · rw [e] at b1 b2; omega
    · have := hq.2.2.1 (abN D a) (by omega) h2
      omega
theorem An.rf {n : Nat} {D : Nat → Nat} {a : Nat} (ha : a < n) : An n D a a := ⟨Nat.le_refl a, endN_gt ha⟩
theorem M_meet_loop {m : MD} {n : Nat} {L D K : Nat → Nat} (hm : MRep m.1 n L D K) (hS : Sh n D) : ∀ fu a b, a < n → b < n → a + b < fu → ∃ r, M_meet_L23 fu m (nI a) (nI b) = some (nI r) ∧ IsMe n D a b r := by
  have hn := hS.2.1
  intro fu
  induction fu with
  | zero => intro a b _ _ h; omega
  | succ fu ih =>
    intro a b ha hb hf
    have da := hS.2.2.2.2 a ha
    have db := hS.2.2.2.2 b hb
    rw [M_meet_L23]
    by_cases e1 : a = b
    · subst e1
      exact ⟨a, if_pos rfl, An.rf ha, An.rf ha, fun q h _ => h.1⟩
    · rw [if_neg (by rw [p_eq (by omega) (by omega)]; exact e1), M_deep_in hm hn ha, M_deep_in hm hn hb]
      simp only [p_bs]
      by_cases e2 : D a < D b
      · have hb0 : 0 < b := by
          rcases Nat.eq_zero_or_pos b with z | z
          · rw [z, hS.2.2.1] at e2; omega
          · exact z
        obtain ⟨b1, b2, b3⟩ := abN_is hS hb0 hb
        obtain ⟨r, r1, r2, r3, r4⟩ := ih a (abN D b) ha (by omega) (by omega)
        refine ⟨r, ?_, r2, r3.down hS hb0 hb, fun q h1 h2 => r4 q h1 (h2.up hS hb (fun z => ?_))⟩
        · rw [if_pos (by rw [p_lt (by omega) (by omega)]; exact e2), M_meet_J52, M_deep_in hm hn ha, M_deep_in hm hn hb]
          simp only [p_bs]
          rw [if_pos (by rw [p_lt (by omega) (by omega)]; exact e2), M_above_ok hm hS hb0 hb]
          exact r1
        · rw [z] at h1
          have := h1.deep ha (fun z => e1 z.symm)
          omega
      · have ha0 : 0 < a := by
          rcases Nat.eq_zero_or_pos a with z | z
          · rcases Nat.eq_zero_or_pos b with z2 | z2
            · omega
            · have := (hS.2.2.2.1 b z2 hb).1
              rw [z, hS.2.2.1] at e2; omega
          · exact z
        obtain ⟨b1, b2, b3⟩ := abN_is hS ha0 ha
        obtain ⟨r, r1, r2, r3, r4⟩ := ih (abN D a) b (by omega) hb (by omega)
        refine ⟨r, ?_, r2.down hS ha0 ha, r3, fun q h1 h2 => r4 q (h1.up hS ha (fun z => ?_)) h2⟩
        · rw [if_neg (by rw [p_lt (by omega) (by omega)]; exact e2), M_above_ok hm hS ha0 ha, p_bs, M_meet_J52, M_deep_in hm hn ha, M_deep_in hm hn hb]
          simp only [p_bs]
          rw [if_neg (by rw [p_lt (by omega) (by omega)]; exact e2)]
          exact r1
        · rw [z] at h2
          have := h2.deep hb e1
          omega
theorem P_meet_loop {x : TP} {n : Nat} {L D : Nat → Nat} (h : TRep x.1.1 n L D) (hS : Sh n D) {g : Nat} (hg : g < n) : ∀ fu c, c ≤ g → c < fu → ∃ r, P_meet_L43 fu x (nI g) (nI c) = some (nI r) ∧ r ≤ c ∧ g < endN n D r ∧ ∀ q, q ≤ c → g < endN n D q → q ≤ r := by
  have hn := hS.2.1
  intro fu
  induction fu with
  | zero => intro c _ h; omega
  | succ fu ih =>
    intro c hc hf
    have h2 := endN_le (D := D) (show c < n by omega)
    rw [P_meet_L43]
    by_cases e1 : c = 0
    · subst e1
      refine ⟨0, if_pos (show nI 0 ≤ 0 from by decide), Nat.le_refl 0, ?_, fun q a _ => a⟩
      have hi := endN_is (D := D) hS.1
      rcases Nat.lt_or_ge (endN n D 0) n with z | z
      · have b1 := hi.2.2.2 z
        have b2 := (hS.2.2.2.1 _ (endN_gt hS.1) z).1
        rw [hS.2.2.1] at b1
        omega
      · omega
    · rw [if_neg (show ¬ nI c ≤ 0 from by rw [p_0, p_le (by omega) (by omega)]; omega), T_endOf_ok h hn hS.2.2.2.2 (show c < n by omega)]
      simp only [p_bs]
      by_cases e2 : endN n D c ≤ g
      · obtain ⟨r, r1, r2, r3, r4⟩ := ih (c - 1) (by omega) (by omega)
        refine ⟨r, ?_, by omega, r3, fun q a b => ?_⟩
        · rw [if_pos (by rw [p_le (by omega) (by omega)]; exact e2)]
          simp (disch := omega) only [p_0, p_1, p_2, p_3, p_4, p_5, p_6, p_7, p_8, p_9, p_18, p_25, p_26, p_32, p_40, p_41, p_44, p_97, p_100, p_120, p_122, p_126, p_138, p_218, p_654, p_872, p_ofNat, p_ofInt, p_add, p_mul, p_le, p_lt, p_eq, p_neg, p_nn, p_m1, p_m1r, p_dec, p_ix, p_sub, if_true, if_false, reduceIte, Nat.not_lt_zero, or_false, false_or, or_true, true_or, and_true, true_and, p_bs]
          exact r1
        · by_cases z : q = c
          · rw [z] at b; omega
          · exact r4 q (by omega) b
      · exact ⟨c, by rw [if_neg (by rw [p_le (by omega) (by omega)]; exact e2)], Nat.le_refl c, by omega, fun q a _ => a⟩
theorem meet_ok {x : TP} {m : MD} {n : Nat} {L D K : Nat → Nat} (h : TRep x.1.1 n L D) (hm : MRep m.1 n L D K) (hS : Sh n D) {a b : Nat} (ha : a < n) (hb : b < n) : ∃ v, P_meet_L43 1000 x (imax (nI a) (nI b)) (imin (nI a) (nI b)) = some v ∧ M_meet_L23 1000 m (nI a) (nI b) = some v := by
  have hn := hS.2.1
  obtain ⟨r, r1, r2⟩ := M_meet_loop hm hS 1000 a b ha hb (by omega)
  refine ⟨nI r, ?_, r1⟩
  have key : ∀ c g, c ≤ g → g < n → (∀ q, (An n D q a ∧ An n D q b) ↔ (q ≤ c ∧ g < endN n D q)) → P_meet_L43 1000 x (nI g) (nI c) = some (nI r) := by
    intro c g hcg hg hiff
    obtain ⟨r', q1, q2, q3, q4⟩ := P_meet_loop h hS hg 1000 c hcg (by omega)
    have : IsMe n D a b r' := by
      obtain ⟨u1, u2⟩ := (hiff r').mpr ⟨q2, q3⟩
      exact ⟨u1, u2, fun q v1 v2 => by obtain ⟨w1, w2⟩ := (hiff q).mp ⟨v1, v2⟩; exact q4 q w1 w2⟩
    rw [q1, this.uniq r2]
  show P_meet_L43 1000 x (if nI a < nI b then nI b else nI a) (if nI b < nI a then nI b else nI a) = _
  rcases Nat.lt_trichotomy a b with z | z | z
  · rw [if_pos (by rw [p_lt (by omega) (by omega)]; exact z), if_neg (by rw [p_lt (by omega) (by omega)]; omega)]
    exact key a b (by omega) hb (fun q => ⟨fun w => ⟨w.1.1, w.2.2⟩, fun w => ⟨⟨w.1, by omega⟩, by omega, w.2⟩⟩)
  · subst z
    rw [ite_self]
    exact key a a (Nat.le_refl _) ha (fun q => ⟨fun w => ⟨w.1.1, w.2.2⟩, fun w => ⟨⟨w.1, by omega⟩, by omega, w.2⟩⟩)
  · rw [if_neg (by rw [p_lt (by omega) (by omega)]; omega), if_pos (by rw [p_lt (by omega) (by omega)]; exact z)]
    exact key b a (by omega) ha (fun q => ⟨fun w => ⟨w.2.1, w.1.2⟩, fun w => ⟨⟨by omega, w.2⟩, w.1, by omega⟩⟩)
/-! remainders, letters found -/
theorem p_irem {a b : Nat} (hb : 0 < b) (ha : a < 2147483648) (hb2 : b < 2147483648) : irem (nI a) (nI b) = nI (a % b) := by
  have e : nI a / nI b = nI (a / b) := by
    apply Int32.toInt_inj.mp
    have hq : a / b ≤ a := Nat.div_le_self a b
    rw [Int32.toInt_div, nI_toInt ha, nI_toInt hb2, nI_toInt (by omega)]
    rw [show ((a : Int).tdiv (b : Int)) = ((a / b : Nat) : Int) from rfl]
    generalize a / b = k at hq ⊢
    rw [Int.bmod_eq_of_le (by omega) (by omega)]
  show nI a - nI a / nI b * nI b = _
  have h1 : a / b * b ≤ a := Nat.div_mul_le_self a b
  rw [e, p_mul, p_sub h1]
  congr 1
  have := Nat.div_add_mod a b
  rw [Nat.mul_comm] at this
  omega
theorem find_B {x : TP} {m : MD} {n p l : Nat} {L D K : Nat → Nat} (h : TRep x.1.1 n L D) (hp : x.1.2.2.2.2.2.1 = nI p) (hm : MRep m.1 n L D K) (hn : n ≤ 40) (hL : ∀ i, i < n → L i ≤ 25) (hpn : p < n) (hl : l ≤ 25) : ∀ fu fu' j, j ≤ p + 1 → p + 1 - j < fu → p + 1 - j < fu' → ∃ v, P_find_L58 fu x (nI l) (nI j) = some v ∧ M_find_L19 fu' m (nI l) (nI p) (nI (n - p + j)) = some v := by
  intro fu
  induction fu with
  | zero => intro fu' j _ h; omega
  | succ fu ih =>
    intro fu' j hj hf hf'
    obtain ⟨fu'', rfl⟩ : ∃ z, fu' = z + 1 := ⟨fu' - 1, by omega⟩
    rw [P_find_L58, M_find_L19, M_many hm, hp]
    by_cases e1 : j = p + 1
    · subst e1
      rw [if_pos (by rw [p_lt (by omega) (by omega)]; omega), if_pos (by rw [p_lt (by omega) (by omega)]; omega)]
      exact ⟨_, rfl, rfl⟩
    · have l1 := hL j (by omega)
      have em : (p + (n - p + j)) % n = j := by
        rw [show p + (n - p + j) = j + n by omega, Nat.add_mod_right, Nat.mod_eq_of_lt (by omega)]
      rw [if_neg (by rw [p_lt (by omega) (by omega)]; omega), if_neg (by rw [p_lt (by omega) (by omega)]; omega), if_neg (show ¬ nI n = 0 from by rw [p_0, p_eq (by omega) (by omega)]; omega), p_add, p_irem (by omega) (by omega) (by omega), em, T_letterOf_in h hn (show j < n by omega), M_sign_in hm hn (show j < n by omega)]
      simp only [p_bs]
      by_cases e2 : L j = l
      · rw [e2, if_pos rfl, if_pos rfl]; exact ⟨_, rfl, rfl⟩
      · rw [if_neg (by rw [p_eq (by omega) (by omega)]; exact e2), if_neg (by rw [p_eq (by omega) (by omega)]; exact e2)]
        simp (disch := omega) only [p_0, p_1, p_2, p_3, p_4, p_5, p_6, p_7, p_8, p_9, p_18, p_25, p_26, p_32, p_40, p_41, p_44, p_97, p_100, p_120, p_122, p_126, p_138, p_218, p_654, p_872, p_ofNat, p_ofInt, p_add, p_mul, p_le, p_lt, p_eq, p_neg, p_nn, p_m1, p_m1r, p_dec, p_ix, p_sub, if_true, if_false, reduceIte, Nat.not_lt_zero, or_false, false_or, or_true, true_or, and_true, true_and, p_bs]
        exact ih fu'' (j + 1) (by omega) (by omega) (by omega)
theorem find_A {x : TP} {m : MD} {n p l : Nat} {L D K : Nat → Nat} (h : TRep x.1.1 n L D) (hp : x.1.2.2.2.2.2.1 = nI p) (hm : MRep m.1 n L D K) (hn : n ≤ 40) (hL : ∀ i, i < n → L i ≤ 25) (hpn : p < n) (hl : l ≤ 25) : ∀ fu fu' j, p < j → j ≤ n → n - j < fu → n - j + n + 1 < fu' → ∃ v, P_find_L19 fu x (nI l) (nI j) = some v ∧ M_find_L19 fu' m (nI l) (nI p) (nI (j - p)) = some v := by
  intro fu
  induction fu with
  | zero => intro fu' j _ _ h; omega
  | succ fu ih =>
    intro fu' j hpj hj hf hf'
    rw [P_find_L19, T_size_ok h]
    simp only [p_bs]
    by_cases e1 : j = n
    · subst e1
      rw [if_pos (Int32.le_refl _)]
      obtain ⟨v, v1, v2⟩ := find_B h hp hm hn hL hpn hl 1000 fu' 0 (Nat.zero_le _) (by omega) (by omega)
      exact ⟨v, v1, v2⟩
    · obtain ⟨fu'', rfl⟩ : ∃ z, fu' = z + 1 := ⟨fu' - 1, by omega⟩
      have l1 := hL j (by omega)
      have em : (p + (j - p)) % n = j := by
        rw [show p + (j - p) = j by omega, Nat.mod_eq_of_lt (by omega)]
      rw [M_find_L19, M_many hm, if_neg (by rw [p_le (by omega) (by omega)]; omega), if_neg (by rw [p_lt (by omega) (by omega)]; omega), if_neg (show ¬ nI n = 0 from by rw [p_0, p_eq (by omega) (by omega)]; omega), p_add, p_irem (by omega) (by omega) (by omega), em, T_letterOf_in h hn (show j < n by omega), M_sign_in hm hn (show j < n by omega)]
      simp only [p_bs]
      by_cases e2 : L j = l
      · rw [e2, if_pos rfl, if_pos rfl]; exact ⟨_, rfl, rfl⟩
      · rw [if_neg (by rw [p_eq (by omega) (by omega)]; exact e2), if_neg (by rw [p_eq (by omega) (by omega)]; exact e2)]
        have e3 := ih fu'' (j + 1) (by omega) (by omega) (by omega) (by omega)
        rw [show j + 1 - p = j - p + 1 by omega] at e3
        simp (disch := omega) only [p_0, p_1, p_2, p_3, p_4, p_5, p_6, p_7, p_8, p_9, p_18, p_25, p_26, p_32, p_40, p_41, p_44, p_97, p_100, p_120, p_122, p_126, p_138, p_218, p_654, p_872, p_ofNat, p_ofInt, p_add, p_mul, p_le, p_lt, p_eq, p_neg, p_nn, p_m1, p_m1r, p_dec, p_ix, p_sub, if_true, if_false, reduceIte, Nat.not_lt_zero, or_false, false_or, or_true, true_or, and_true, true_and, p_bs]
        exact e3
/-! the spine -/
theorem M_spine_loop {m : MD} {n d : Nat} {L D K : Nat → Nat} (hm : MRep m.1 n L D K) (hS : Sh n D) (hd : d ≤ 7) (x2 : Int32) : ∀ fu i, i < n → d ≤ D i → i < fu → M_spine_L32 fu m (nI d) x2 (nI i) = if x2 = 0 then some (nI (loN D d i)) else if x2 = 1 then (M_sign m (nI (loN D d i))).bind fun v65 => some v65 else if nI (loN D d i) = 0 then some 0 else (M_which m (nI (loN D d i))).bind fun v81 => some v81 := by
  have hn := hS.2.1
  intro fu
  induction fu with
  | zero => intro i _ _ h; omega
  | succ fu ih =>
    intro i hi hdi hf
    have d7 := hS.2.2.2.2 i hi
    rw [M_spine_L32, M_deep_in hm hn hi]
    simp only [p_bs]
    by_cases e1 : D i ≤ d
    · have : loN D d i = i := (loN_is hS.2.2.1 i).uniq ⟨Nat.le_refl i, e1, fun j a b => by omega⟩
      rw [if_pos (by rw [p_le (by omega) (by omega)]; exact e1), this]
    · have hi0 : 0 < i := by
        rcases Nat.eq_zero_or_pos i with z | z
        · rw [z, hS.2.2.1] at e1; omega
        · exact z
      obtain ⟨a1, a2, a3⟩ := abN_is hS hi0 hi
      have el : loN D d (abN D i) = loN D d i := by
        obtain ⟨b1, b2, b3⟩ := loN_is (d := d) hS.2.2.1 (abN D i)
        exact IsLo.uniq (i := i) ⟨by omega, b2, fun j c1 c2 => by
          rcases Nat.lt_or_ge (abN D i) j with z | z
          · have := a3 j z c2; omega
          · exact b3 j c1 z⟩ (loN_is hS.2.2.1 i)
      rw [if_neg (by rw [p_le (by omega) (by omega)]; exact e1), M_above_ok hm hS hi0 hi, p_bs, ih (abN D i) (by omega) (by omega) (by omega), el]
