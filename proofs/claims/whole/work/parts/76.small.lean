/-! calls that change one thing: letter, mark, copy, back -/
theorem p_max {a b : Nat} (ha : a < 2147483648) (hb : b < 2147483648) : imax (nI a) (nI b) = nI (max a b) := by
  show (if nI a < nI b then nI b else nI a) = _
  by_cases e : a < b
  · rw [if_pos (by rw [p_lt ha hb]; exact e), Nat.max_eq_right (Nat.le_of_lt e)]
  · rw [if_neg (by rw [p_lt ha hb]; exact e), Nat.max_eq_left (Nat.le_of_not_lt e)]
def setN (p l : Nat) (f : Nat → Nat) : Nat → Nat := fun i => if i = p then l else f i
theorem set_nR (p l : Nat) (f : Nat → Nat) (i : Nat) : upd (nR f) p (nI l) i = nR (setN p l f) i := by
  show upd _ _ _ i = nI (setN p l f i)
  rw [setN]
  by_cases c : i = p
  · subst c; rw [p_upd_same, if_pos rfl]
  · rw [p_upd_ne c, if_neg c]; rfl
theorem sm_letter_ok : sm_letter SimR := by
  intro t x m x1 ht h
  obtain ⟨n, L, D, K, p, wn, W, cn, CL, CD, nx, a, b, hC, hF, hG⟩ := h.2.1
  obtain ⟨b', e1, e2⟩ := M_begins_ok m
  have hn := hG.1.1.2.1
  have hp := hG.2.2.2.1
  have hL := hG.2.1 p hp
  have hpl : M_place (m.1, b', m.2.2) = some (nI p) := M_place_now (m := (m.1, b', m.2.2)) ht hF hG
  rcases P_isLetter_ok x1 with ⟨i1, i2⟩ | ⟨l, hl, rfl, i1, i2⟩
  · refine ⟨-1, x, _, ?_, ?_, sim_err ht h b'⟩
    · rw [P_letter, i1, p_bs, if_pos rfl]
    · rw [M_letter, e1, p_bs, i2, p_bs, if_pos rfl]
  · obtain ⟨h', k1, k2⟩ := sim_rec ht h
    have hN : NowR (1 + 40 * (t + 1)) (((x.1.1.1.1, upd x.1.1.1.2 p (nI l)), x.1.1.2), x.1.2) (upd m.1 (18 + 3 * p) (nI l)) := by
      refine ⟨n, setN p l L, D, K, p, wn, W, cn, CL, CD, nx, a, b, ⟨⟨(R_put_rep hC.1.1 hp (nI l)).congr fun i _ => set_nR p l L i, hC.1.2⟩, hC.2⟩, ⟨⟨?_, fun i hi => ?_⟩, ?_, ?_, ⟨?_, fun k hk => ?_⟩, ?_, fun k hk => ?_, fun i hi => ?_⟩, hG.1, fun i hi => ?_, hG.2.2.1, hG.2.2.2.1, hG.2.2.2.2.1, hG.2.2.2.2.2.1, hG.2.2.2.2.2.2.1, hG.2.2.2.2.2.2.2.1, by have := hG.2.2.2.2.2.2.2.2; omega⟩
      · rw [p_upd_ne (by omega)]; exact hF.1.1
      · have q := hF.1.2 i hi
        refine ⟨?_, by rw [p_upd_ne (by omega)]; exact q.2.1, by rw [p_upd_ne (by omega)]; exact q.2.2⟩
        rw [setN]
        by_cases c : i = p
        · subst c; rw [p_upd_same, if_pos rfl]
        · rw [p_upd_ne (by omega), if_neg c]; exact q.1
      · rw [p_upd_ne (by omega)]; exact hF.2.1
      · rw [p_upd_ne (by omega)]; exact hF.2.2.1
      · rw [p_upd_ne (by omega)]; exact hF.2.2.2.1.1
      · have := hG.2.2.2.2.1
        rw [p_upd_ne (by omega)]; exact hF.2.2.2.1.2 k hk
      · rw [p_upd_ne (by omega)]; exact hF.2.2.2.2.1
      · rw [p_upd_ne (by omega)]; exact hF.2.2.2.2.2.1 k hk
      · rw [p_upd_ne (by omega), p_upd_ne (by omega)]; exact hF.2.2.2.2.2.2 i hi
      · rw [setN]
        by_cases c : i = p
        · rw [if_pos c]; exact hl
        · rw [if_neg c]; exact hG.2.1 i hi
    obtain ⟨m', g1, g2⟩ := k2 b' (upd m.1 (18 + 3 * p) (nI l)) m.2.2.2.2 (((x.1.1.1.1, upd x.1.1.1.2 p (nI l)), x.1.1.2), x.1.2) x.2.2.2 (L p) e2 rfl rfl hN (by omega)
    refine ⟨nI (L p), _, m', ?_, ?_, g2⟩
    · rw [P_letter, i1, p_bs, if_neg p_ne01, k1, p_bs, hC.2.2.2.2.2.1, T_letterOf_in hC.1 hn hp, p_bs, T_setLetter, R_put_in hC.1.1 hn (by omega) hp, p_bs, p_bs, ← hC.2.2.2.2.2.1]
    · rw [M_letter, e1, p_bs, i2, p_bs, if_neg p_ne01, hpl, p_bs, M_sign_in (m := (m.1, b', m.2.2)) hF.1 hn hp, p_bs, p_18, p_3, p_mul, p_add, p_ix (by omega), if_neg (by rw [p_0, p_lt (by omega) (by omega)]; omega), p_bs]
      show (M_acted (upd m.1 (18 + 3 * p) (nI l), b', m.2.2) (nI (L p))).bind _ = _
      rw [g1, p_bs]
theorem sm_mark_ok : sm_mark SimR := by
  intro t x m x1 ht h
  obtain ⟨n, L, D, K, p, wn, W, cn, CL, CD, nx, a, b, hC, hF, hG⟩ := h.2.1
  obtain ⟨b', e1, e2⟩ := M_begins_ok m
  have hn := hG.1.1.2.1
  have hp := hG.2.2.2.1
  rcases P_isMark_ok x1 with ⟨i1, i2⟩ | ⟨k, hk, rfl, i1, i2⟩
  · refine ⟨-1, x, _, ?_, ?_, sim_err ht h b'⟩
    · rw [P_mark, i1, p_bs, if_pos rfl]
    · rw [M_mark, e1, p_bs, i2, p_bs, if_pos rfl]
  · obtain ⟨h', k1, k2⟩ := sim_rec ht h
    obtain ⟨o, o1, o2, o3⟩ := mark_num (m := (m.1, b', m.2.2)) ht hC hF hG hk
    have hN : NowR (1 + 40 * (t + 1)) (x.1.1, x.1.2.1, x.1.2.2.1, x.1.2.2.2.1, (x.1.2.2.2.2.1.1, upd x.1.2.2.2.2.1.2 k (nI (K p))), x.1.2.2.2.2.2.1, x.1.2.2.2.2.2.2) (upd m.1 (5 + k) (nI (K p))) := by
      refine ⟨n, L, D, K, p, wn, W, cn, CL, CD, nx, upd a k (nI (K p)), upd b k (nI (K p)), ⟨hC.1, hC.2.1, hC.2.2.1, hC.2.2.2.1, R_put_rep hC.2.2.2.2.1 hk _, hC.2.2.2.2.2.1, hC.2.2.2.2.2.2⟩, ⟨hF.1.upd_lo (by omega) (by omega) _, ?_, ?_, ⟨?_, fun q hq => ?_⟩, ?_, fun q hq => ?_, fun i hi => ?_⟩, hG.1, hG.2.1, hG.2.2.1, hG.2.2.2.1, hG.2.2.2.2.1, hG.2.2.2.2.2.1, fun q hq => ?_, hG.2.2.2.2.2.2.2.1, by have := hG.2.2.2.2.2.2.2.2; omega⟩
      · rw [p_upd_ne (by omega)]; exact hF.2.1
      · rw [p_upd_ne (by omega)]; exact hF.2.2.1
      · rw [p_upd_ne (by omega)]; exact hF.2.2.2.1.1
      · rw [p_upd_ne (by omega)]; exact hF.2.2.2.1.2 q hq
      · rw [p_upd_ne (by omega)]; exact hF.2.2.2.2.1
      · by_cases c : q = k
        · subst c; rw [p_upd_same, p_upd_same]
        · rw [p_upd_ne (by omega), p_upd_ne c]; exact hF.2.2.2.2.2.1 q hq
      · rw [p_upd_ne (by omega), p_upd_ne (by omega)]; exact hF.2.2.2.2.2.2 i hi
      · by_cases c : q = k
        · subst c
          rw [p_upd_same, p_upd_same]
          exact ⟨Or.inr ⟨K p, hG.2.2.1.1 p hp, rfl⟩, Or.inr ⟨K p, hG.2.2.1.1 p hp, rfl⟩, fun i hi => Iff.rfl⟩
        · rw [p_upd_ne c, p_upd_ne c]; exact hG.2.2.2.2.2.2.1 q hq
    have pm : S_putMarkAtPlace x.1 (nI k) = some (x.1.1, x.1.2.1, x.1.2.2.1, x.1.2.2.2.1, (x.1.2.2.2.2.1.1, upd x.1.2.2.2.2.1.2 k (nI (K p))), x.1.2.2.2.2.2.1, x.1.2.2.2.2.2.2) := by
      rw [S_putMarkAtPlace, hC.2.2.2.2.2.1, R_at_in hC.2.2.1 hn (by omega) hp, p_bs]
      show (R_put 4 _ _ (nI (K p))).bind _ = _
      rw [R_put_in hC.2.2.2.2.1 (Nat.le_refl 4) (by omega) hk, p_bs, ← hC.2.2.2.2.2.1]
    have ixk : ix (5 + nI k) = 5 + k := by rw [p_5, p_add, p_ix (by omega)]
    have ix2 : m.1 (ix 2) = nI (K p) := hF.2.2.1
    have fin : ∀ r : Nat, r < 2147483648 → ∃ m', M_acted (upd m.1 (5 + k) (nI (K p)), b', m.2.2) (nI r) = some (nI r, m') ∧ SimR (t + 1) ((x.1.1, x.1.2.1, x.1.2.2.1, x.1.2.2.2.1, (x.1.2.2.2.2.1.1, upd x.1.2.2.2.2.1.2 k (nI (K p))), x.1.2.2.2.2.2.1, x.1.2.2.2.2.2.2), h', x.2.2.1, x.2.2.2) m' := fun r hr => k2 b' _ m.2.2.2.2 _ x.2.2.2 r e2 rfl rfl hN hr
    rcases nb_lt o3 with ⟨_, q2⟩ | ⟨r, _, q1, q2⟩
    · obtain ⟨m', g1, g2⟩ := fin 100 (by omega)
      refine ⟨100, _, m', ?_, ?_, g2⟩
      · rw [P_mark, i1, p_bs, if_neg p_ne01, k1, p_bs, o1, p_bs, pm, p_bs, q2, p_1, if_pos rfl]
      · rw [M_mark, e1, p_bs, i2, p_bs, if_neg p_ne01, if_neg (mark_ix hk), mark_at (m := (m.1, b', m.2.2)) hF hk, o2, p_bs, if_neg (mark_ix hk), p_bs, q2, p_0, if_neg p_n0le, ixk, ix2, p_100]
        show (M_acted (upd m.1 (5 + k) (nI (K p)), b', m.2.2) (nI 100)).bind _ = _
        rw [g1, p_bs]
    · obtain ⟨m', g1, g2⟩ := fin r (by omega)
      refine ⟨nI r, _, m', ?_, ?_, g2⟩
      · rw [P_mark, i1, p_bs, if_neg p_ne01, k1, p_bs, o1, p_bs, pm, p_bs, q2, p_1, if_neg (p_nm1 (by omega))]
      · rw [M_mark, e1, p_bs, i2, p_bs, if_neg p_ne01, if_neg (mark_ix hk), mark_at (m := (m.1, b', m.2.2)) hF hk, o2, p_bs, if_neg (mark_ix hk), p_bs, q2, p_0, if_pos (p_0le (by omega)), ixk, ix2]
        show (M_acted (upd m.1 (5 + k) (nI (K p)), b', m.2.2) (nI r)).bind _ = _
        rw [g1, p_bs]
/-- the clip taken, in both -/
theorem clip_now {t : Nat} {x : TP} {m : MD} (ht : t < 512) {n p wn cn nx : Nat} {L D K W CL CD : Nat → Nat} {a b : Nat → Int32} (hC : CRep x.1 n L D K p wn W cn CL CD nx a) (hF : FRep m.1 n L D K p wn W cn CL CD nx b) (hG : Good (1 + 40 * t) n L D K p wn W cn CL CD nx a b) :
    ∃ (c' : TR) (f' : Arr), T_takePart x.1.2.1 x.1.1 (nI p) = some c' ∧ M_clips m = some (f', m.2) ∧ CRep (x.1.1, c', x.1.2.2) n L D K p wn W (endN n D p - p) (subN p 0 L) (subN p (D p) D) nx a ∧ FRep f' n L D K p wn W (endN n D p - p) (subN p 0 L) (subN p (D p) D) nx b ∧ Good (1 + 40 * t) n L D K p wn W (endN n D p - p) (subN p 0 L) (subN p (D p) D) nx a b := by
  have hn := hG.1.1.2.1
  have hp := hG.2.2.2.1
  have hw := hG.2.2.2.2.1
  have he := endN_le (D := D) hp
  obtain ⟨c', c1, c2⟩ := T_takePart_ok (t := x.1.2.1) hC.1 hn hG.1.1.2.2.2.2 hp
  obtain ⟨f', f1, f2, f3, f4⟩ := M_clips_ok hF.1 hG.1.1 hG.2.2.1.2 (hG.hK (by omega)) hp hF.2.2.1
  refine ⟨c', f', c1, f1, ⟨hC.1, c2, hC.2.2⟩, ⟨hF.1.congr (f4 0 (by omega) (by omega)) (fun j j1 j2 => f4 j (by omega) (by omega)), (f4 1 (by omega) (by omega)).trans hF.2.1, (f4 2 (by omega) (by omega)).trans hF.2.2.1, ⟨(f4 3 (by omega) (by omega)).trans hF.2.2.2.1.1, fun k hk => (f4 _ (by omega) (by omega)).trans (hF.2.2.2.1.2 k hk)⟩, f2, fun k hk => (f4 _ (by omega) (by omega)).trans (hF.2.2.2.2.2.1 k hk), f3⟩, hG.1, hG.2.1, hG.2.2.1, hG.2.2.2.1, hG.2.2.2.2.1, hG.2.2.2.2.2.1, hG.2.2.2.2.2.2.1, Or.inr ⟨WF_sub hG.1 hp, fun i hi => ?_⟩, hG.2.2.2.2.2.2.2.2⟩
  rw [subN]
  have := hG.2.1 (p + i) (by omega)
  omega
theorem sm_copy_ok : sm_copy SimR := by
  intro t x m ht h
  obtain ⟨n, L, D, K, p, wn, W, cn, CL, CD, nx, a, b, hC, hF, hG⟩ := h.2.1
  obtain ⟨b', e1, e2⟩ := M_begins_ok m
  have hp := hG.2.2.2.1
  have hn := hG.1.1.2.1
  have he := endN_le (D := D) hp
  obtain ⟨h', k1, k2⟩ := sim_rec ht h
  obtain ⟨c', f', g1, g2, g3, g4, g5⟩ := clip_now (m := (m.1, b', m.2.2)) ht hC hF hG
  obtain ⟨m', q1, q2⟩ := k2 b' f' m.2.2.2.2 (x.1.1, c', x.1.2.2) x.2.2.2 (endN n D p - p) e2 rfl rfl ⟨_, _, _, _, _, _, _, _, _, _, _, _, _, g3, g4, g5.mono (by omega)⟩ (by omega)
  refine ⟨nI (endN n D p - p), _, m', ?_, ?_, q2⟩
  · rw [P_copy, k1, p_bs, hC.2.2.2.2.2.1, g1, p_bs, T_size_ok g3.2.1, p_bs, ← hC.2.2.2.2.2.1]
  · rw [M_copy, e1, p_bs, g2, p_bs]
    show (M_acted (f', b', m.2.2) (f' 4)).bind _ = _
    rw [g4.2.2.2.2.1, q1, p_bs]
/-- walks back -/
theorem back_loop {t : Nat} {x : TP} {m : MD} (ht : t < 512) {n p wn cn nx : Nat} {L D K W CL CD : Nat → Nat} {a b : Nat → Int32} (hC : CRep x.1 n L D K p wn W cn CL CD nx a) (hF : FRep m.1 n L D K p wn W cn CL CD nx b) (hG : Good (1 + 40 * t) n L D K p wn W cn CL CD nx a b) :
    ∀ left, left ≤ wn → ∀ fu fu', left < fu → left < fu' → (S_lastWalk_L10 fu x.1 (nI left - nI 1) = some (-nI 1) ∧ M_back_L11 fu' m (nI left) = some (-2, m)) ∨
      ∃ k q, k < wn ∧ q < n ∧ W k = K q ∧ S_lastWalk_L10 fu x.1 (nI left - nI 1) = some (nI k) ∧ M_back_L11 fu' m (nI left) = ((M_acted (upd (upd m.1 2 (nI (W k))) 3 (nI k), m.2) (nI q)).bind fun v78 => some (v78.1, v78.2)) := by
  have hn := hG.1.1.2.1
  have hp := hG.2.2.2.1
  have hw := hG.2.2.2.2.1
  have hK := hG.hK (by omega)
  intro left
  induction left with
  | zero =>
    intro _ fu fu' h1 h2
    obtain ⟨fu, rfl⟩ : ∃ k, fu = k + 1 := ⟨fu - 1, by omega⟩
    obtain ⟨fu', rfl⟩ : ∃ k, fu' = k + 1 := ⟨fu' - 1, by omega⟩
    refine Or.inl ⟨?_, ?_⟩
    · rw [S_lastWalk_L10, if_pos (by decide), p_1]
    · rw [M_back_L11, if_pos (by decide)]
  | succ left ih =>
    intro h0 fu fu' h1 h2
    obtain ⟨fu, rfl⟩ : ∃ k, fu = k + 1 := ⟨fu - 1, by omega⟩
    obtain ⟨fu', rfl⟩ : ∃ k, fu' = k + 1 := ⟨fu' - 1, by omega⟩
    have hs : nI (left + 1) - nI 1 = nI left := by rw [p_sub (by omega)]; rfl
    have hs2 : nI (left + 1) + -nI 1 = nI left := by rw [p_dec (by omega)]; rfl
    have ig : ¬ ((nI 9 + nI left) < nI 0 ∨ 218 ≤ ix (nI 9 + nI left)) := by rw [p_add, p_ix (by omega), p_lt (by omega) (by omega)]; omega
    have at9 : m.1 (ix (nI 9 + nI left)) = nI (W left) := by rw [p_add, p_ix (by omega)]; exact hF.2.2.2.1.2 left (by omega)
    obtain ⟨v, v1, v2⟩ := S_numberOfKey_ok hC.2.2.1 hn (nI (W left))
    obtain ⟨w, w1, w2⟩ := M_numberOf_ok hF.1 hn (nI (W left)) hG.2.2.1.2 hK
    have e := noN_uniq hG.2.2.1.2 hK v2 w2
    subst e
    have r0 : R_at 8 x.1.2.2.2.1 (nI left) = some (nI (W left)) := R_at_in hC.2.2.2.1 (by omega) (by omega) (by omega)
    have W31 : W left < 2147483648 := by
      have := hG.2.2.2.2.2.1 left (by omega)
      have := hG.2.2.2.2.2.2.2.2
      omega
    rw [S_lastWalk_L10, M_back_L11, hs, p_0, p_1, p_9, hs2, if_neg (by rw [p_lt (by omega) (by omega)]; omega), if_neg (by rw [p_le (by omega) (by omega)]; omega), r0, p_bs, v1, p_bs, if_neg ig, at9, w1, p_bs]
    have hs3 : nI left + -nI 1 = nI left - nI 1 := (Int32.sub_eq_add_neg _ _).symm
    rcases v2 with ⟨q1, _⟩ | ⟨q, q1, q2, q3⟩
    · rw [q1, if_pos rfl, if_pos (by decide), hs3]
      exact ih (by omega) fu fu' (by omega) (by omega)
    · rw [p_eq (hK q q1) W31] at q2
      have n1 : ¬ nI q = -nI 1 := p_nm1 (by omega)
      have n2 : ¬ nI q < nI 0 := by rw [p_lt (by omega) (by omega)]; omega
      rw [q3, if_neg n1, if_neg n2, if_neg ig]
      by_cases c : q = p
      · have c1 : nI q = x.1.2.2.2.2.2.1 := by rw [hC.2.2.2.2.2.1, c]
        have c2 : nI (W left) = m.1 (ix (nI 2)) := by rw [p_ix (by omega), ← q2, c]; exact hF.2.2.1.symm
        rw [p_2, if_pos c1, if_pos c2, hs3]
        exact ih (by omega) fu fu' (by omega) (by omega)
      · have c1 : ¬ nI q = x.1.2.2.2.2.2.1 := by rw [hC.2.2.2.2.2.1, p_eq (by omega) (by omega)]; exact c
        have c2 : ¬ nI (W left) = m.1 (ix (nI 2)) := by
          rw [p_ix (by omega), hF.2.2.1, p_eq W31 (hK p hp), ← q2]
          exact fun z => c (hG.2.2.1.2 q p q1 hp z)
        refine Or.inr ⟨left, q, by omega, q1, q2.symm, ?_, ?_⟩
        · rw [if_neg c1]
        · rw [p_2, if_neg c2, if_neg ig, p_bs, p_bs, p_3, p_ix (by omega), p_ix (by omega)]
theorem sm_back_ok : sm_back SimR := by
  intro t x m ht h
  obtain ⟨n, L, D, K, p, wn, W, cn, CL, CD, nx, a, b, hC, hF, hG⟩ := h.2.1
  obtain ⟨b', e1, e2⟩ := M_begins_ok m
  have hn := hG.1.1.2.1
  have hp := hG.2.2.2.1
  have hw := hG.2.2.2.2.1
  have hK := hG.hK (by omega)
  have i3 : m.1 (ix 3) = nI wn := hF.2.2.2.1.1
  have lw : S_lastWalk x.1 = S_lastWalk_L10 1000 x.1 (nI wn - nI 1) := by rw [S_lastWalk, R_size_ok 8 hC.2.2.2.1, p_bs, p_1]
  rcases back_loop (m := (m.1, b', m.2.2)) ht hC hF hG wn (Nat.le_refl _) 1000 1000 (by omega) (by omega) with ⟨g1, g2⟩ | ⟨k, q, hk, hq, hWK, g1, g2⟩
  · refine ⟨-2, x, _, ?_, ?_, sim_err ht h b'⟩
    · rw [P_back, lw, g1, p_bs, p_1, if_pos rfl]
    · rw [M_back, e1, p_bs]
      show M_back_L11 1000 (m.1, b', m.2.2) (m.1 (ix 3)) = _
      rw [i3]; exact g2
  · obtain ⟨h', k1, k2⟩ := sim_rec ht h
    obtain ⟨r', r1, r2⟩ := R_takeOut_ok (cap := 8) (a := k) (b := wn) hC.2.2.2.1 hw (by omega) (by omega) (Nat.le_refl _)
    have rk : wn - (wn - k) = k := by omega
    rw [rk] at r2
    obtain ⟨v, v1, v2⟩ := S_numberOfKey_ok hC.2.2.1 hn (nI (W k))
    have hv : v = nI q := by rw [hWK] at v2; exact noN_in hq hG.2.2.1.2 hK v2
    subst hv
    have hN : NowR (1 + 40 * (t + 1)) (x.1.1, x.1.2.1, x.1.2.2.1, r', x.1.2.2.2.2.1, nI q, x.1.2.2.2.2.2.2) (upd (upd m.1 2 (nI (W k))) 3 (nI k)) := by
      refine ⟨n, L, D, K, q, k, W, cn, CL, CD, nx, a, b, ⟨hC.1, hC.2.1, hC.2.2.1, r2.congr fun i hi => ?_, hC.2.2.2.2.1, rfl, hC.2.2.2.2.2.2⟩, ⟨(hF.1.upd_lo (by omega) (by omega) _).upd_lo (by omega) (by omega) _, ?_, ?_, ⟨?_, fun j hj => ?_⟩, ?_, fun j hj => ?_, fun i hi => ?_⟩, hG.1, hG.2.1, hG.2.2.1, hq, by omega, fun j hj => hG.2.2.2.2.2.1 j (by omega), hG.2.2.2.2.2.2.1, hG.2.2.2.2.2.2.2.1, by have := hG.2.2.2.2.2.2.2.2; omega⟩
      · rw [delI, if_pos hi]
      · rw [p_upd_ne (by omega), p_upd_ne (by omega)]; exact hF.2.1
      · rw [p_upd_ne (by omega), p_upd_same, hWK]
      · rw [p_upd_same]
      · rw [p_upd_ne (by omega), p_upd_ne (by omega)]; exact hF.2.2.2.1.2 j (by omega)
      · rw [p_upd_ne (by omega), p_upd_ne (by omega)]; exact hF.2.2.2.2.1
      · rw [p_upd_ne (by omega), p_upd_ne (by omega)]; exact hF.2.2.2.2.2.1 j hj
      · rw [p_upd_ne (by omega), p_upd_ne (by omega), p_upd_ne (by omega), p_upd_ne (by omega)]; exact hF.2.2.2.2.2.2 i hi
    obtain ⟨m', q1, q2⟩ := k2 b' (upd (upd m.1 2 (nI (W k))) 3 (nI k)) m.2.2.2.2 (x.1.1, x.1.2.1, x.1.2.2.1, r', x.1.2.2.2.2.1, nI q, x.1.2.2.2.2.2.2) x.2.2.2 q e2 rfl rfl hN (by omega)
    refine ⟨nI q, _, m', ?_, ?_, q2⟩
    · rw [P_back, lw, g1, p_bs, p_1, if_neg (p_nm1 (by omega)), k1, p_bs, S_takeWalksBack, R_at_in hC.2.2.2.1 hw (by omega) hk, p_bs]
      show (((S_numberOfKey x.1 (nI (W k))).bind _).bind _) = _
      rw [v1, p_bs, R_size_ok 8 hC.2.2.2.1, p_bs, r1, p_bs, p_bs, p_0, p_max (by omega) (by omega), Nat.max_eq_left (Nat.zero_le q)]
    · rw [M_back, e1, p_bs]
      show M_back_L11 1000 (m.1, b', m.2.2) (m.1 (ix 3)) = _
      rw [i3, g2]
      show (M_acted (upd (upd m.1 2 (nI (W k))) 3 (nI k), b', m.2.2) (nI q)).bind _ = _
      rw [q1, p_bs]
