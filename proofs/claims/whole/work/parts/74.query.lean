/-! calls that tell, undo -/
theorem sm_meet_ok : sm_meet SimR := by
  intro t x m x1 x2 ht h
  obtain ⟨n, L, D, K, p, wn, W, cn, CL, CD, nx, a, b, hC, hF, hG⟩ := h.2.1
  have hn := hG.1.1.2.1
  have hn1 := hG.1.1.1
  have bad : ∀ v : Int32, (T_has x.1.1 v = some (nI 0) ∧ M_isNode m v = some 0) ∨ ∃ i, i < n ∧ v = nI i := fun v => by
    rcases p_cases v with hv | ⟨i, hi, rfl⟩
    · exact Or.inl ⟨T_has_neg hv, M_isNode_neg hv⟩
    · by_cases c : i < n
      · exact Or.inr ⟨i, c, rfl⟩
      · exact Or.inl ⟨T_has_out hC.1 hn (by omega) hi, M_isNode_out hF.1 hn1 hn (by omega) hi⟩
  rcases bad x1 with ⟨k1, k2⟩ | ⟨i, hi, rfl⟩
  · refine ⟨-1, ?_, ?_, sim_next ht h⟩
    · rw [P_meet, k1, p_bs, p_0, if_pos rfl]
    · rw [M_meet, k2, p_bs, if_pos rfl]
  · have f1 : T_has x.1.1 (nI i) = some (nI 1) := T_has_in hC.1 hn hi
    have f2 : M_isNode m (nI i) = some 1 := M_isNode_in hF.1 hn hi
    rcases bad x2 with ⟨k1, k2⟩ | ⟨j, hj, rfl⟩
    · refine ⟨-1, ?_, ?_, sim_next ht h⟩
      · rw [P_meet, f1, p_bs, p_0, if_neg (by rw [p_eq (by omega) (by omega)]; omega), k1, p_bs, if_pos rfl]
      · rw [M_meet, f2, p_bs, if_neg p_ne01, k2, p_bs, if_pos rfl]
    · obtain ⟨v, v1, v2⟩ := meet_ok hC.1 hF.1 hG.1.1 hi hj
      refine ⟨v, ?_, ?_, sim_next ht h⟩
      · rw [P_meet, f1, p_bs, p_0, if_neg (by rw [p_eq (by omega) (by omega)]; omega), T_has_in hC.1 hn hj, p_bs, if_neg (by rw [p_eq (by omega) (by omega)]; omega)]
        exact v1
      · rw [M_meet, f2, p_bs, if_neg p_ne01, M_isNode_in hF.1 hn hj, p_bs, if_neg p_ne01]
        exact v2
theorem sm_like_ok : sm_like SimR := by
  intro t x m ht h
  obtain ⟨n, L, D, K, p, wn, W, cn, CL, CD, nx, a, b, hC, hF, hG⟩ := h.2.1
  have hn := hG.1.1.2.1
  obtain ⟨v, v1, v2⟩ := like_loop hC.1 hC.2.2.2.2.2.1 hF.1 hn hG.1.1.2.2.2.2 hG.2.1 hG.2.2.2.1 1000 1000 0 0 (by omega) (by omega) (by omega) (by omega)
  refine ⟨v, ?_, ?_, sim_next ht h⟩
  · rw [P_like, p_0]; exact v1
  · rw [M_like, M_place_now ht hF hG, p_bs, p_0]; exact v2
theorem sm_find_ok : sm_find SimR := by
  intro t x m x1 ht h
  obtain ⟨n, L, D, K, p, wn, W, cn, CL, CD, nx, a, b, hC, hF, hG⟩ := h.2.1
  have hn := hG.1.1.2.1
  have hp := hG.2.2.2.1
  rcases P_isLetter_ok x1 with ⟨i1, i2⟩ | ⟨l, hl, rfl, i1, i2⟩
  · refine ⟨-1, ?_, ?_, sim_next ht h⟩
    · rw [P_find, i1, p_bs, if_pos rfl]
    · rw [M_find, i2, p_bs, if_pos rfl]
  · obtain ⟨v, v1, v2⟩ := find_A hC.1 hC.2.2.2.2.2.1 hF.1 hn hG.2.1 hp hl 1000 1000 (p + 1) (by omega) (by omega) (by omega) (by omega)
    refine ⟨v, ?_, ?_, sim_next ht h⟩
    · rw [P_find, i1, p_bs, if_neg p_ne01, hC.2.2.2.2.2.1, p_1, p_add]; exact v1
    · rw [M_find, i2, p_bs, if_neg p_ne01, M_place_now ht hF hG, p_bs, p_1]
      rw [Nat.add_sub_cancel_left] at v2
      exact v2
theorem orN {v : Int32} {n : Nat} (h : v = -nI 1 ∨ ∃ q, q < n ∧ v = nI q) (hn : n ≤ 100000) : ∃ r, P_orNotFound v = some r ∧ M_orNone v = some r := by
  rcases h with rfl | ⟨q, hq, rfl⟩
  · exact ⟨-4, by rw [P_orNotFound, p_1, if_pos rfl], by rw [M_orNone, p_0, if_neg p_n0le]⟩
  · exact ⟨nI q, by rw [P_orNotFound, p_1, if_neg (p_nm1 (by omega))], by rw [M_orNone, p_0, if_pos (p_0le (by omega))]⟩
theorem sm_marked_ok : sm_marked SimR := by
  intro t x m x1 ht h
  obtain ⟨n, L, D, K, p, wn, W, cn, CL, CD, nx, a, b, hC, hF, hG⟩ := h.2.1
  have hn := hG.1.1.2.1
  rcases P_isMark_ok x1 with ⟨i1, i2⟩ | ⟨k, hk, rfl, i1, i2⟩
  · refine ⟨-1, ?_, ?_, sim_next ht h⟩
    · rw [P_marked, i1, p_bs, if_pos rfl]
    · rw [M_marked, i2, p_bs, if_pos rfl]
  · obtain ⟨o, o1, o2, o3⟩ := mark_num ht hC hF hG hk
    obtain ⟨r, r1, r2⟩ := orN (v := oI o) (n := n) (by
      rcases nb_lt o3 with ⟨_, q⟩ | ⟨r, _, q1, q2⟩
      · exact Or.inl q
      · exact Or.inr ⟨r, q1, q2⟩) (by omega)
    refine ⟨r, ?_, ?_, sim_next ht h⟩
    · rw [P_marked, i1, p_bs, if_neg p_ne01, o1, p_bs, r1, p_bs]
    · rw [M_marked, i2, p_bs, if_neg p_ne01, if_neg (mark_ix hk), mark_at hF hk, o2, p_bs, r2, p_bs]
theorem lo_lt {n i d : Nat} {D : Nat → Nat} (h0 : D 0 = 0) (hi : i < n) : loN D d i < n := by
  have := (loN_is (d := d) h0 i).1; omega
theorem sm_spine_ok : sm_spine SimR := by
  intro t x m x1 x2 ht h
  obtain ⟨n, L, D, K, p, wn, W, cn, CL, CD, nx, a, b, hC, hF, hG⟩ := h.2.1
  have hn := hG.1.1.2.1
  have hp := hG.2.2.2.1
  have hD := hG.1.1.2.2.2.2 p hp
  rcases p_cases x1 with hx | ⟨d, hd, rfl⟩
  · refine ⟨-1, ?_, ?_, sim_next ht h⟩
    · rw [P_spine, if_pos (show x1 < 0 from hx)]
    · rw [M_spine, if_pos (show x1 < 0 from hx)]
  · have nd : ¬ nI d < 0 := by rw [p_0, p_neg hd]; exact id
    have c2 : (x2 < 0 ∨ (¬ x2 < 0 ∧ ¬ x2 ≤ 2)) ∨ (¬ x2 < 0 ∧ x2 ≤ 2 ∧ (x2 = 0 ∨ x2 = 1 ∨ x2 = 2)) := by
      by_cases y : x2 < 0
      · exact Or.inl (Or.inl y)
      · by_cases y2 : x2 ≤ 2
        · refine Or.inr ⟨y, y2, ?_⟩
          rcases p_cases x2 with hx | ⟨k, hk, rfl⟩
          · exact absurd hx y
          · rw [p_2, p_le hk (by omega)] at y2
            rw [p_0, p_1, p_2, p_eq hk (by omega), p_eq hk (by omega), p_eq hk (by omega)]
            omega
        · exact Or.inl (Or.inr ⟨y, y2⟩)
    rcases c2 with c2 | ⟨y1, y2, y3⟩
    · refine ⟨-1, ?_, ?_, sim_next ht h⟩
      · rcases c2 with y | ⟨y1, y2⟩
        · rw [P_spine, if_neg nd, if_pos y]
        · rw [P_spine, if_neg nd, if_neg y1, if_neg y2]
      · rcases c2 with y | ⟨y1, y2⟩
        · rw [M_spine, if_neg nd, M_in, if_pos y, p_bs, if_pos rfl]
        · rw [M_spine, if_neg nd, M_in, if_neg y1, if_pos (Int32.not_le.mp y2), p_bs, if_pos rfl]
    · have mi : M_in x2 0 2 = some 1 := by rw [M_in, if_neg y1, if_neg (Int32.not_lt.mpr y2)]
      by_cases hdp : d ≤ D p
      · have hr : loN D d p < n := lo_lt hG.1.1.2.2.1 hp
        have fin : ∃ r, (if x2 = 0 then some (nI (loN D d p)) else if x2 = 1 then (T_letterOf x.1.1 (nI (loN D d p))).bind fun v61 => some v61 else if nI (loN D d p) = 0 then some 0 else (T_turnOf x.1.1 (nI (loN D d p))).bind fun v81 => some v81) = some r ∧ (if x2 = 0 then some (nI (loN D d p)) else if x2 = 1 then (M_sign m (nI (loN D d p))).bind fun v65 => some v65 else if nI (loN D d p) = 0 then some 0 else (M_which m (nI (loN D d p))).bind fun v81 => some v81) = some r := by
          rcases y3 with rfl | rfl | rfl
          · exact ⟨nI (loN D d p), by rw [if_pos rfl], by rw [if_pos rfl]⟩
          · exact ⟨nI (L (loN D d p)), by rw [if_neg p_ne01, if_pos rfl, T_letterOf_in hC.1 hn hr, p_bs], by rw [if_neg p_ne01, if_pos rfl, M_sign_in hF.1 hn hr, p_bs]⟩
          · by_cases z : loN D d p = 0
            · exact ⟨0, by rw [if_neg (by decide), if_neg (by decide), z, if_pos p_0.symm], by rw [if_neg (by decide), if_neg (by decide), z, if_pos p_0.symm]⟩
            · have nz : ¬ nI (loN D d p) = 0 := by rw [p_0, p_eq (by omega) (by omega)]; exact z
              exact ⟨nI (tuN D (loN D d p)), by rw [if_neg (by decide), if_neg (by decide), if_neg nz, T_turnOf_ok hC.1 hG.1.1 (by omega) hr, p_bs], by rw [if_neg (by decide), if_neg (by decide), if_neg nz, M_which_ok hF.1 hG.1.1 (by omega) hr, p_bs]⟩
        obtain ⟨r, r1, r2⟩ := fin
        refine ⟨r, ?_, ?_, sim_next ht h⟩
        · rw [P_spine, if_neg nd, if_neg y1, if_pos y2, hC.2.2.2.2.2.1, T_onSpine_ok hC.1 hG.1.1 hp hdp, p_bs, p_1, if_neg (p_nm1 (by omega)), ← p_1]
          exact r1
        · rw [M_spine, if_neg nd, mi, p_bs, if_neg p_ne01, M_place_now ht hF hG, p_bs, M_deep_in hF.1 hn hp, p_bs, if_pos (by rw [p_le hd (by omega)]; exact hdp), M_spine_loop hF.1 hG.1.1 (by omega) x2 1000 p hp hdp (by omega)]
          exact r2
      · refine ⟨-4, ?_, ?_, sim_next ht h⟩
        · rw [P_spine, if_neg nd, if_neg y1, if_pos y2, hC.2.2.2.2.2.1, T_onSpine_deep hC.1 hG.1.1 hp (by omega) hd, p_bs, p_1, if_pos rfl]
        · rw [M_spine, if_neg nd, mi, p_bs, if_neg p_ne01, M_place_now ht hF hG, p_bs, M_deep_in hF.1 hn hp, p_bs, if_neg (by rw [p_le hd (by omega)]; exact hdp)]
theorem sm_undo_ok : sm_undo SimR := by
  intro t x m ht h
  obtain ⟨h1, h2, ⟨z, h3, o, ho, hz, h4, h5, h6⟩, h7⟩ := h
  cases z with
  | zero =>
    refine ⟨-2, x, m, ?_, ?_, sim_next ht ⟨h1, h2, ⟨0, h3, o, ho, hz, h4, h5, h6⟩, h7⟩⟩
    · rw [P_undo, H_size, p_bs, h5, p_0, if_pos rfl]
    · rw [M_undo, h3, p_0, if_pos rfl]
  | succ z =>
    obtain ⟨n, L, D, K, p, wn, W, cn, CL, CD, nx, a, b, hC, hF, hG⟩ := h6 z (by omega)
    obtain ⟨s1, g1, g2⟩ := H_restore_ok x.2.1 x.1 ho (show z < 4 by omega) h4 h5 (fun s => CRep s n L D K p wn W cn CL CD nx a) (S_takeFrom_ok hC hG.1.1.2.1 hG.2.2.2.2.1 hG.2.2.2.2.2.2.2.1.le)
    obtain ⟨a', e1, e2⟩ := M_undo_ok m.1 m.2.1 m.2.2.1 z (by omega) (0, m.2.2.2.2)
    refine ⟨nI z, (s1, (x.2.1.1, nI o, nI z), x.2.2.1, x.2.2.2), (a', m.2.1, m.2.2.1, nI z, m.2.2.2.2), ?_, ?_, by omega, ?_, ⟨z, rfl, o, ho, by omega, rfl, rfl, fun i hi => (h6 i (by omega)).mono (by omega) (fun j _ => rfl)⟩, h7⟩
    · rw [P_undo, H_size, p_bs, h5, p_0, if_neg (by rw [p_eq (by omega) (by omega)]; omega), g1, p_bs, H_size, p_bs]
    · have hm : m = (m.1, m.2.1, m.2.2.1, nI (z + 1), m.2.2.2.2) := by rw [← h3]
      rw [hm]; exact e1
    · exact ⟨n, L, D, K, p, wn, W, cn, CL, CD, nx, a, b, g2, FRep.congr hG hF e2, hG.mono (by omega)⟩
