/-! what there is at a node -/
theorem mark_key {t : Nat} {x : TP} {m : MD} (ht : t < 512) {n p wn cn nx : Nat} {L D K W CL CD : Nat → Nat} {a b : Nat → Int32} (hC : CRep x.1 n L D K p wn W cn CL CD nx a) (hF : FRep m.1 n L D K p wn W cn CL CD nx b) (hG : Good (1 + 40 * t) n L D K p wn W cn CL CD nx a b) {k i : Nat} (hk : k < 4) (hi : i < n) :
    ∃ v, S_numberOfMark x.1 (nI k) = some v ∧ (v = nI i ↔ b k = nI (K i)) := by
  have hn := hG.1.1.2.1
  have hx := hG.2.2.2.2.2.2.2.2
  have hK := hG.hK (by omega)
  obtain ⟨v, v1, v2⟩ := S_numberOfKey_ok hC.2.2.1 hn (a k)
  refine ⟨v, by rw [S_numberOfMark, R_at_in hC.2.2.2.2.1 (Nat.le_refl 4) (by omega) hk, p_bs, v1, p_bs], fun e => ?_, fun e => ?_⟩
  · rcases v2 with ⟨q1, _⟩ | ⟨j, q1, q2, q3⟩
    · rw [q1] at e
      exact absurd e.symm (p_nm1 (by omega))
    · rw [q3, p_eq (by omega) (by omega)] at e
      subst e
      exact ((hG.2.2.2.2.2.2.1 k hk).2.2 j hi).mp q2.symm
  · have e' := ((hG.2.2.2.2.2.2.1 k hk).2.2 i hi).mpr e
    rw [e'] at v2
    exact noN_in hi hG.2.2.1.2 hK v2
theorem marks_loop {t : Nat} {x : TP} {m : MD} (ht : t < 512) {n p wn cn nx : Nat} {L D K W CL CD : Nat → Nat} {a b : Nat → Int32} (hC : CRep x.1 n L D K p wn W cn CL CD nx a) (hF : FRep m.1 n L D K p wn W cn CL CD nx b) (hG : Good (1 + 40 * t) n L D K p wn W cn CL CD nx a b) {i : Nat} (hi : i < n) :
    ∀ fu k (v : Int32), k ≤ 4 → 4 - k < fu → ∃ r, S_marksAt_L4 fu x.1 (nI i) v (nI k) = some r ∧ M_marksAt_L4 fu m (nI i) v (nI k) = some r := by
  intro fu
  induction fu with
  | zero => intro k v _ h; omega
  | succ fu ih =>
    intro k v h1 h2
    have hn := hG.1.1.2.1
    rw [S_marksAt_L4, M_marksAt_L4]
    by_cases e : k = 4
    · subst e
      exact ⟨v, by rw [p_4, if_pos (Int32.le_refl _)], by rw [p_4, if_pos (Int32.le_refl _)]⟩
    · have hk : k < 4 := by omega
      have nk : ¬ (4 : Int32) ≤ nI k := by rw [p_4, p_le (by omega) (by omega)]; omega
      obtain ⟨w, w1, w2⟩ := mark_key ht hC hF hG hk hi
      rw [if_neg nk, if_neg nk, w1, p_bs, if_neg (mark_ix hk), M_own_in hF.1 hn hi, p_bs, mark_at hF hk]
      have kk : (nI k + 1 : Int32) = nI (k + 1) := by rw [p_1, p_add]
      by_cases c : w = nI i
      · obtain ⟨r, r1, r2⟩ := ih (k + 1) (v ||| (1 <<< (nI k &&& 31))) (by omega) (by omega)
        refine ⟨r, ?_, ?_⟩
        · rw [if_pos c, kk]; exact r1
        · rw [if_pos (w2.mp c), kk]; exact r2
      · obtain ⟨r, r1, r2⟩ := ih (k + 1) v (by omega) (by omega)
        refine ⟨r, ?_, ?_⟩
        · rw [if_neg c, kk]; exact r1
        · rw [if_neg (fun q => c (w2.mpr q)), kk, Int32.or_zero]; exact r2
theorem sm_nodeOf_ok : sm_nodeOf SimR := by
  intro t x m x1 x2 ht h
  obtain ⟨n, L, D, K, p, wn, W, cn, CL, CD, nx, a, b, hC, hF, hG⟩ := h.2.1
  have hn := hG.1.1.2.1
  have hn1 := hG.1.1.1
  have hS := hG.1.1
  have bad : (T_has x.1.1 x1 = some (nI 0) ∧ M_isNode m x1 = some 0) ∨ ∃ i, i < n ∧ x1 = nI i := by
    rcases p_cases x1 with hv | ⟨i, hi, rfl⟩
    · exact Or.inl ⟨T_has_neg hv, M_isNode_neg hv⟩
    · by_cases c : i < n
      · exact Or.inr ⟨i, c, rfl⟩
      · exact Or.inl ⟨T_has_out hC.1 hn (by omega) hi, M_isNode_out hF.1 hn1 hn (by omega) hi⟩
  rcases bad with ⟨k1, k2⟩ | ⟨i, hi, rfl⟩
  · refine ⟨-1, ?_, ?_, sim_next ht h⟩
    · rw [P_nodeOf, k1, p_bs, p_0, if_pos rfl]
    · rw [M_nodeOf, k2, p_bs, if_pos rfl]
  · have f1 : T_has x.1.1 (nI i) = some 1 := by rw [p_1]; exact T_has_in hC.1 hn hi
    have f2 : M_isNode m (nI i) = some 1 := M_isNode_in hF.1 hn hi
    have c2 : (M_in x2 0 7 = some 0 ∧ ¬ x2 = 0 ∧ ¬ x2 = 1 ∧ ¬ x2 = 2 ∧ ¬ x2 = 3 ∧ ¬ x2 = 4 ∧ ¬ x2 = 5 ∧ ¬ x2 = 6 ∧ ¬ x2 = 7) ∨ (M_in x2 0 7 = some 1 ∧ (x2 = 0 ∨ x2 = 1 ∨ x2 = 2 ∨ x2 = 3 ∨ x2 = 4 ∨ x2 = 5 ∨ x2 = 6 ∨ x2 = 7)) := by
      rcases p_cases x2 with hx | ⟨k, hk, rfl⟩
      · refine Or.inl ⟨by rw [M_in, if_pos (show x2 < 0 from hx)], ?_, ?_, ?_, ?_, ?_, ?_, ?_, ?_⟩ <;> (intro q; rw [q] at hx; revert hx; decide)
      · by_cases c : k ≤ 7
        · refine Or.inr ⟨by rw [M_in, p_0, p_7, if_neg (by rw [p_lt (by omega) (by omega)]; omega), if_neg (by rw [p_lt (by omega) (by omega)]; omega)], ?_⟩
          rw [p_0, p_1, p_2, p_3, p_4, p_5, p_6, p_7, p_eq hk (by omega), p_eq hk (by omega), p_eq hk (by omega), p_eq hk (by omega), p_eq hk (by omega), p_eq hk (by omega), p_eq hk (by omega), p_eq hk (by omega)]
          omega
        · refine Or.inl ⟨by rw [M_in, p_0, p_7, if_neg (by rw [p_lt (by omega) (by omega)]; omega), if_pos (by rw [p_lt (by omega) (by omega)]; omega)], ?_⟩
          rw [p_0, p_1, p_2, p_3, p_4, p_5, p_6, p_7, p_eq hk (by omega), p_eq hk (by omega), p_eq hk (by omega), p_eq hk (by omega), p_eq hk (by omega), p_eq hk (by omega), p_eq hk (by omega), p_eq hk (by omega)]
          omega
    rw [P_nodeOf, M_nodeOf, f1, f2, p_bs, p_bs, if_neg p_ne01, if_neg p_ne01]
    rcases c2 with ⟨k0, n0, n1, n2, n3, n4, n5, n6, n7⟩ | ⟨k0, hx⟩
    · refine ⟨-1, ?_, ?_, sim_next ht h⟩
      · rw [if_neg n0, if_neg n1, if_neg n2, if_neg n3, if_neg n4, if_neg n5, if_neg n6, if_neg n7]
      · rw [k0, p_bs, if_pos rfl]
    · rw [k0, p_bs, if_neg p_ne01]
      rcases hx with rfl | rfl | rfl | rfl | rfl | rfl | rfl | rfl
      · exact ⟨nI (L i), by rw [if_pos rfl, T_letterOf_in hC.1 hn hi, p_bs], by rw [if_pos rfl, M_sign_in hF.1 hn hi, p_bs], sim_next ht h⟩
      · exact ⟨nI (chN n D i), by rw [if_neg (by decide), if_pos rfl, T_childrenOf_ok hC.1 hn hS.2.2.2.2 hi, p_bs], by rw [if_neg (by decide), if_pos rfl, M_children_ok hF.1 hn hS.2.2.2.2 hi, p_bs], sim_next ht h⟩
      · have key : ∃ v, T_above x.1.1 (nI i) = some v ∧ M_above m (nI i) = some v ∧ (v = -nI 1 ∨ ∃ q, q < n ∧ v = nI q) := by
          by_cases z : i = 0
          · subst z; exact ⟨_, T_above_top hC.1 hS, M_above_top, Or.inl rfl⟩
          · exact ⟨_, T_above_ok hC.1 hS (by omega) hi, M_above_ok hF.1 hS (by omega) hi, Or.inr ⟨_, by have := (abN_is hS (show 0 < i by omega) hi).1; omega, rfl⟩⟩
        obtain ⟨v, v1, v2, v3⟩ := key
        obtain ⟨r, r1, r2⟩ := orN v3 (by omega)
        exact ⟨r, by rw [if_neg (by decide), if_neg (by decide), if_pos rfl, v1, p_bs, r1, p_bs], by rw [if_neg (by decide), if_neg (by decide), if_pos rfl, v2, p_bs, r2, p_bs], sim_next ht h⟩
      · exact ⟨nI (D i), by rw [if_neg (by decide), if_neg (by decide), if_neg (by decide), if_pos rfl, T_depthOf_in hC.1 hn hi, p_bs], by rw [if_neg (by decide), if_neg (by decide), if_neg (by decide), if_pos rfl, M_deep_in hF.1 hn hi, p_bs], sim_next ht h⟩
      · exact ⟨nI (endN n D i) - nI i, by rw [if_neg (by decide), if_neg (by decide), if_neg (by decide), if_neg (by decide), if_pos rfl, T_endOf_ok hC.1 hn hS.2.2.2.2 hi, p_bs], by rw [if_neg (by decide), if_neg (by decide), if_neg (by decide), if_neg (by decide), if_pos rfl, M_end_ok hF.1 hn hS.2.2.2.2 hi, p_bs], sim_next ht h⟩
      · by_cases z : i = 0
        · subst z
          exact ⟨-4, by rw [if_neg (by decide), if_neg (by decide), if_neg (by decide), if_neg (by decide), if_neg (by decide), if_pos rfl, T_turnOf_top hC.1 hS, p_bs, P_orNotFound, p_1, if_pos rfl, p_bs], by rw [if_neg (by decide), if_neg (by decide), if_neg (by decide), if_neg (by decide), if_neg (by decide), if_pos rfl, if_pos p_0.symm], sim_next ht h⟩
        · have lt : tuN D i < 1000 := by
            have := cntN_le D (D i) (i - (abN D i + 1)) (abN D i + 1)
            rw [tuN]; omega
          exact ⟨nI (tuN D i), by rw [if_neg (by decide), if_neg (by decide), if_neg (by decide), if_neg (by decide), if_neg (by decide), if_pos rfl, T_turnOf_ok hC.1 hS (by omega) hi, p_bs, P_orNotFound, p_1, if_neg (p_nm1 (by omega)), p_bs], by rw [if_neg (by decide), if_neg (by decide), if_neg (by decide), if_neg (by decide), if_neg (by decide), if_pos rfl, if_neg (by rw [p_0, p_eq (by omega) (by omega)]; exact z), M_which_ok hF.1 hS (by omega) hi, p_bs], sim_next ht h⟩
      · exact ⟨nI (heN n D i), by rw [if_neg (by decide), if_neg (by decide), if_neg (by decide), if_neg (by decide), if_neg (by decide), if_neg (by decide), if_pos rfl, T_heightOf_ok hC.1 hn hS.2.2.2.2 hi, p_bs], by rw [if_neg (by decide), if_neg (by decide), if_neg (by decide), if_neg (by decide), if_neg (by decide), if_neg (by decide), if_pos rfl, M_height_ok hF.1 hn hS.2.2.2.2 hi, p_bs], sim_next ht h⟩
      · obtain ⟨r, r1, r2⟩ := marks_loop ht hC hF hG hi 1000 0 (nI 0) (by omega) (by omega)
        exact ⟨r, by rw [if_neg (by decide), if_neg (by decide), if_neg (by decide), if_neg (by decide), if_neg (by decide), if_neg (by decide), if_neg (by decide), if_pos rfl, S_marksAt, p_0, r1, p_bs], by rw [if_neg (by decide), if_neg (by decide), if_neg (by decide), if_neg (by decide), if_neg (by decide), if_neg (by decide), if_neg (by decide), M_marksAt, p_0, r2, p_bs], sim_next ht h⟩
