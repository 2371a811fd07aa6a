/-! unlike letters, count, type, clearText -/
theorem one_shl : ∀ l, l < 32 → (1 : Int32) <<< (nI l &&& 31) = nI (2 ^ l) := by decide +kernel
theorem bit_test {s l : Nat} (hl : l < 32) : ((nI s >>> (nI l &&& 31)) &&& 1) = 0 ↔ s.testBit l = false := by
  rw [b_lo, b_sshr l hl (nI s) (show 0 < 32 by omega), if_pos (show l + 0 < 32 by omega), Nat.add_zero, b_nI hl]
theorem unlike_loop {t : TR} {m : MD} {n : Nat} {L D K : Nat → Nat} (h : TRep t n L D) (hm : MRep m.1 n L D K) (hn : n ≤ 40) (hL : ∀ i, i < n → L i ≤ 25) : ∀ fu fu' k s, k ≤ n → n - k < fu → n - k < fu' → s < 67108864 →
    ∃ v, T_unlikeLetters_L4 fu t (nI s) (nI k) = some v ∧ M_unlike_L6 fu' m (nI (pcN 32 s)) (nI s) (nI k) = some v := by
  intro fu
  induction fu with
  | zero => intro fu' k s _ h; omega
  | succ fu ih =>
    intro fu' k s h1 h2 h3 h4
    obtain ⟨fu', rfl⟩ : ∃ q, fu' = q + 1 := ⟨fu' - 1, by omega⟩
    rw [T_unlikeLetters_L4, M_unlike_L6, T_size_ok h, p_bs, M_many hm]
    by_cases e : k = n
    · subst e
      exact ⟨nI (pcN 32 s), by rw [if_pos (Int32.le_refl _), J_bitCount_ok (by omega), p_bs], by rw [if_pos (Int32.le_refl _)]⟩
    · have hk : k < n := by omega
      have hl := hL k hk
      have nk : ¬ nI n ≤ nI k := by rw [p_le (by omega) (by omega)]; omega
      have hs : s ||| 2 ^ L k < 67108864 := Nat.or_lt_two_pow (n := 26) h4 (Nat.pow_lt_pow_right (by omega) (by omega))
      obtain ⟨v, g1, g2⟩ := ih fu' (k + 1) (s ||| 2 ^ L k) (by omega) (by omega) (by omega) hs
      have kk : nI k + 1 = nI (k + 1) := by rw [p_1, p_add]
      refine ⟨v, ?_, ?_⟩
      · rw [if_neg nk, T_letterOf_in h hn hk, p_bs, one_shl _ (by omega), nx_or, kk]
        exact g1
      · rw [pc_or 32 (L k) s (by omega)] at g2
        rw [if_neg nk, M_sign_in hm hn hk, p_bs]
        by_cases c : s.testBit (L k) = true
        · have c2 : ¬ ((nI s >>> (nI (L k) &&& 31)) &&& 1) = 0 := fun z => by
            rw [(bit_test (by omega)).mp z] at c; cases c
          rw [if_pos c, Nat.add_zero] at g2
          rw [if_neg c2, M_unlike_J34, M_sign_in hm hn hk, p_bs, one_shl _ (by omega), nx_or, kk, p_0, p_add, Nat.add_zero]
          exact g2
        · have c1 : s.testBit (L k) = false := by
            cases y : s.testBit (L k)
            · rfl
            · exact absurd y c
          rw [if_neg c] at g2
          rw [if_pos ((bit_test (by omega)).mpr c1), M_unlike_J34, M_sign_in hm hn hk, p_bs, one_shl _ (by omega), nx_or, kk, p_1, p_add]
          exact g2
theorem unlike_ok {t : TR} {m : MD} {n : Nat} {L D K : Nat → Nat} (h : TRep t n L D) (hm : MRep m.1 n L D K) (hn : n ≤ 40) (hL : ∀ i, i < n → L i ≤ 25) : ∃ v, T_unlikeLetters t = some v ∧ M_unlike m = some v := by
  obtain ⟨v, g1, g2⟩ := unlike_loop h hm hn hL 1000 1000 0 0 (by omega) (by omega) (by omega) (by omega)
  have e : pcN 32 0 = 0 := by decide +kernel
  rw [e] at g2
  exact ⟨v, by rw [T_unlikeLetters, p_0]; exact g1, by rw [M_unlike, p_0]; exact g2⟩
theorem sm_count_ok : sm_count SimR := by
  intro t x m x1 ht h
  obtain ⟨z, hz, o, ho, hz4, ho1, ho2, _⟩ := h.2.2.1
  obtain ⟨l, hl, c, hc1, hc2, _⟩ := h.2.2.2
  obtain ⟨n, L, D, K, p, wn, W, cn, CL, CD, nx, a, b, hC, hF, hG⟩ := h.2.1
  have hn := hG.1.1.2.1
  have hn1 := hG.1.1.1
  have hS := hG.1.1
  have hp := hG.2.2.2.1
  have hpl : M_place m = some (nI p) := M_place_now ht hF hG
  have hplc := hC.2.2.2.2.2.1
  by_cases c0 : x1 = 0
  · subst c0
    exact ⟨nI n, by rw [P_count, if_pos rfl, T_size_ok hC.1, p_bs], by rw [M_count, if_pos rfl]; exact congrArg some hF.1.1, sim_next ht h⟩
  · by_cases c1 : x1 = 1
    · subst c1
      exact ⟨nI p, by rw [P_count, if_neg c0, if_pos rfl, hplc], by rw [M_count, if_neg c0, if_pos rfl, hpl, p_bs], sim_next ht h⟩
    · by_cases c2 : x1 = 2
      · subst c2
        exact ⟨nI (D p), by rw [P_count, if_neg c0, if_neg c1, if_pos rfl, hplc, T_depthOf_in hC.1 hn hp, p_bs], by rw [M_count, if_neg c0, if_neg c1, if_pos rfl, hpl, p_bs, M_deep_in hF.1 hn hp, p_bs], sim_next ht h⟩
      · by_cases c3 : x1 = 3
        · subst c3
          obtain ⟨v, v1, v2⟩ := leaves_ok hC.1 hF.1 hn hS.2.2.2.2
          exact ⟨v, by rw [P_count, if_neg c0, if_neg c1, if_neg c2, if_pos rfl, v1, p_bs], by rw [M_count, if_neg c0, if_neg c1, if_neg c2, if_pos rfl, v2, p_bs], sim_next ht h⟩
        · by_cases c4 : x1 = 4
          · subst c4
            exact ⟨nI (heN n D 0), by rw [P_count, if_neg c0, if_neg c1, if_neg c2, if_neg c3, if_pos rfl, p_0, T_heightOf_ok hC.1 hn hS.2.2.2.2 (by omega), p_bs], by rw [M_count, if_neg c0, if_neg c1, if_neg c2, if_neg c3, if_pos rfl, p_0, M_height_ok hF.1 hn hS.2.2.2.2 (by omega), p_bs], sim_next ht h⟩
          · by_cases c5 : x1 = 5
            · subst c5
              exact ⟨nI wn, by rw [P_count, if_neg c0, if_neg c1, if_neg c2, if_neg c3, if_neg c4, if_pos rfl, R_size_ok 8 hC.2.2.2.1, p_bs], by rw [M_count, if_neg c0, if_neg c1, if_neg c2, if_neg c3, if_neg c4, if_pos rfl]; exact congrArg some hF.2.2.2.1.1, sim_next ht h⟩
            · by_cases c6 : x1 = 6
              · subst c6
                exact ⟨nI cn, by rw [P_count, if_neg c0, if_neg c1, if_neg c2, if_neg c3, if_neg c4, if_neg c5, if_pos rfl, T_size_ok hC.2.1, p_bs], by rw [M_count, if_neg c0, if_neg c1, if_neg c2, if_neg c3, if_neg c4, if_neg c5, if_pos rfl]; exact congrArg some hF.2.2.2.2.1, sim_next ht h⟩
              · by_cases c7 : x1 = 7
                · subst c7
                  exact ⟨nI z, by rw [P_count, if_neg c0, if_neg c1, if_neg c2, if_neg c3, if_neg c4, if_neg c5, if_neg c6, if_pos rfl, H_size, p_bs, ho2], by rw [M_count, if_neg c0, if_neg c1, if_neg c2, if_neg c3, if_neg c4, if_neg c5, if_neg c6, if_pos rfl, hz], sim_next ht h⟩
                · by_cases c8 : x1 = 8
                  · subst c8
                    exact ⟨nI l, by rw [P_count, if_neg c0, if_neg c1, if_neg c2, if_neg c3, if_neg c4, if_neg c5, if_neg c6, if_neg c7, if_pos rfl, R_size_ok 120 hc2, p_bs], by rw [M_count, if_neg c0, if_neg c1, if_neg c2, if_neg c3, if_neg c4, if_neg c5, if_neg c6, if_neg c7, if_pos rfl, hl], sim_next ht h⟩
                  · by_cases c9 : x1 = 9
                    · subst c9
                      obtain ⟨v, v1, v2⟩ := unlike_ok hC.1 hF.1 hn hG.2.1
                      exact ⟨v, by rw [P_count, if_neg c0, if_neg c1, if_neg c2, if_neg c3, if_neg c4, if_neg c5, if_neg c6, if_neg c7, if_neg c8, if_pos rfl, v1, p_bs], by rw [M_count, if_neg c0, if_neg c1, if_neg c2, if_neg c3, if_neg c4, if_neg c5, if_neg c6, if_neg c7, if_neg c8, if_pos rfl, v2, p_bs], sim_next ht h⟩
                    · exact ⟨-1, by rw [P_count, if_neg c0, if_neg c1, if_neg c2, if_neg c3, if_neg c4, if_neg c5, if_neg c6, if_neg c7, if_neg c8, if_neg c9], by rw [M_count, if_neg c0, if_neg c1, if_neg c2, if_neg c3, if_neg c4, if_neg c5, if_neg c6, if_neg c7, if_neg c8, if_neg c9], sim_next ht h⟩
/-- another text, all else as it was -/
theorem sim_text {t : Nat} {x : TP} {m : MD} (ht : t < 512) (h : SimR t x m) (r : RW) (a4 : Arr) (mt : Arr) (l : Nat) (w : Int32 × Int32 × Int32 × Arr × Arr) (sc : SC) (hT : TxtR r mt l) : SimR (t + 1) (x.1, x.2.1, r, sc) (m.1, m.2.1, m.2.2.1, m.2.2.2.1, a4, mt, nI l, w) := by
  have q := sim_next ht h
  exact ⟨q.1, q.2.1, q.2.2.1, l, rfl, hT⟩
theorem sm_clearText_ok : sm_clearText SimR := by
  intro t x m ht h
  obtain ⟨l, hl, c, hc1, hc2, hc3, hc4⟩ := h.2.2.2
  obtain ⟨r', g1, g2⟩ := R_clear_ok 120 x.2.2.1 (nR c)
  refine ⟨nI l, _, _, ?_, ?_, sim_text ht h r' m.2.2.2.2.1 m.2.2.2.2.2.1 0 m.2.2.2.2.2.2.2 x.2.2.2 ⟨c, by omega, g2, fun i hi => by omega, fun i hi => by omega⟩⟩
  · rw [P_clearText, R_size_ok 120 hc2, p_bs, g1, p_bs]
  · rw [M_clearText, hl, p_0]
theorem sm_type_ok : sm_type SimR := by
  intro t x m x1 ht h
  obtain ⟨l, hl, c, hc1, hc2, hc3, hc4⟩ := h.2.2.2
  rcases p_cases x1 with hx | ⟨v, hv, rfl⟩
  · refine ⟨-1, x, m, ?_, ?_, sim_next ht h⟩
    · rw [P_type, if_pos (Int32.lt_trans hx (by decide))]
    · rw [M_type, M_in_lo (Int32.lt_trans hx (by decide)), p_bs, if_pos rfl]
  · by_cases c1 : v < 32
    · have q : nI v < 32 := by rw [p_32, p_lt (by omega) (by omega)]; exact c1
      refine ⟨-1, x, m, ?_, ?_, sim_next ht h⟩
      · rw [P_type, if_pos q]
      · rw [M_type, M_in_lo q, p_bs, if_pos rfl]
    · have q : ¬ nI v < 32 := by rw [p_32, p_lt (by omega) (by omega)]; exact c1
      by_cases c2 : v ≤ 126
      · have q2 : nI v ≤ 126 := by rw [p_126, p_le (by omega) (by omega)]; exact c2
        have q3 : ¬ (126 : Int32) < nI v := Int32.not_lt.mpr q2
        by_cases c3 : l = 120
        · refine ⟨-3, x, m, ?_, ?_, sim_next ht h⟩
          · rw [P_type, if_neg q, if_pos q2, R_size_ok 120 hc2, p_bs, c3, p_120, if_neg (by rw [p_lt (by omega) (by omega)]; omega)]
          · rw [M_type, M_in_ok q q3, p_bs, if_neg p_ne01, hl, c3, p_120, if_pos rfl]
        · obtain ⟨r', g1, g2⟩ := R_add_ok (cap := 120) hc2 (nI v) (by omega) (by omega)
          refine ⟨nI (l + 1), _, _, ?_, ?_, sim_text ht h r' m.2.2.2.2.1 (upd m.2.2.2.2.2.1 l (nI v)) (l + 1) m.2.2.2.2.2.2.2 x.2.2.2 ⟨insN l v c, by omega, g2.congr fun i _ => ins_nR l v c i, fun i hi => ?_, fun i hi => ?_⟩⟩
          · rw [P_type, if_neg q, if_pos q2, R_size_ok 120 hc2, p_bs, p_120, if_pos (by rw [p_lt (by omega) (by omega)]; omega), g1, p_bs, R_size_ok 120 g2, p_bs]
          · rw [M_type, M_in_ok q q3, p_bs, if_neg p_ne01, hl, p_120, if_neg (by rw [p_eq (by omega) (by omega)]; omega), p_0, p_ix (by omega), if_neg (by rw [p_lt (by omega) (by omega)]; omega), p_bs, p_1, p_add]
          · rw [insN]
            by_cases y : i < l
            · rw [p_upd_ne (by omega), if_pos y]; exact hc3 i y
            · have : i = l := by omega
              subst this
              rw [p_upd_same, if_neg y, if_pos rfl]
          · rw [insN]
            by_cases y : i < l
            · rw [if_pos y]; exact hc4 i y
            · rw [if_neg y, if_pos (by omega)]; omega
      · have q2 : ¬ nI v ≤ 126 := by rw [p_126, p_le (by omega) (by omega)]; exact c2
        refine ⟨-1, x, m, ?_, ?_, sim_next ht h⟩
        · rw [P_type, if_neg q, if_neg q2]
        · rw [M_type, M_in_hi q (Int32.not_le.mp q2), p_bs, if_pos rfl]
