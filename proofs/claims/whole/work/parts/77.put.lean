/-! nodes put in: child, beside, wrap -/
theorem Mk_sub {n n' nx : Nat} {K K' : Nat → Nat} {a b : Nat → Int32} (h : MkR n K nx a b) (hs : ∀ i, i < n' → ∃ j, j < n ∧ K' i = K j) : MkR n' K' nx a b := fun k hk => by
  obtain ⟨h1, h2, h3⟩ := h k hk
  refine ⟨h1, h2, fun i hi => ?_⟩
  obtain ⟨j, j1, j2⟩ := hs i hi
  rw [j2]; exact h3 j j1
theorem Ky_sub {n n' nx : Nat} {K K' : Nat → Nat} (h : KyR n K nx) (s : Nat → Nat) (h1 : ∀ i, i < n' → s i < n ∧ K' i = K (s i)) (h2 : ∀ i j, i < n' → j < n' → s i = s j → i = j) : KyR n' K' nx :=
  ⟨fun i hi => by rw [(h1 i hi).2]; exact h.1 _ (h1 i hi).1, fun i j hi hj e => by
    rw [(h1 i hi).2, (h1 j hj).2] at e
    exact h2 i j hi hj (h.2 _ _ (h1 i hi).1 (h1 j hj).1 e)⟩
theorem Ky_blk {n nx a g : Nat} {K G : Nat → Nat} (h : KyR n K nx) (ha : a ≤ n) (hG : ∀ i, i < g → G i = nx + i) : KyR (n + g) (blkN a g K G) (nx + g) := by
  have val : ∀ i, i < n + g → (∃ j, j < n ∧ blkN a g K G i = K j ∧ i = (if j < a then j else j + g)) ∨ (∃ q, q < g ∧ blkN a g K G i = nx + q ∧ i = a + q) := fun i hi => by
    show (∃ j, j < n ∧ (if i < a then K i else if i < a + g then G (i - a) else K (i - g)) = K j ∧ i = (if j < a then j else j + g)) ∨ (∃ q, q < g ∧ (if i < a then K i else if i < a + g then G (i - a) else K (i - g)) = nx + q ∧ i = a + q)
    by_cases c : i < a
    · exact Or.inl ⟨i, by omega, by rw [if_pos c], by rw [if_pos c]⟩
    · by_cases c2 : i < a + g
      · exact Or.inr ⟨i - a, by omega, by rw [if_neg c, if_pos c2, hG _ (by omega)], by omega⟩
      · exact Or.inl ⟨i - g, by omega, by rw [if_neg c, if_neg c2], by rw [if_neg (by omega)]; omega⟩
  refine ⟨fun i hi => ?_, fun i j hi hj e => ?_⟩
  · rcases val i hi with ⟨j, j1, j2, _⟩ | ⟨q, q1, q2, _⟩
    · rw [j2]; have := h.1 j j1; omega
    · rw [q2]; omega
  · rcases val i hi with ⟨u, u1, u2, u3⟩ | ⟨u, u1, u2, u3⟩
    · rcases val j hj with ⟨v, v1, v2, v3⟩ | ⟨v, v1, v2, v3⟩
      · rw [u2, v2] at e
        have := h.2 u v u1 v1 e
        subst this
        rw [u3, v3]
      · rw [u2, v2] at e; have := h.1 u u1; omega
    · rcases val j hj with ⟨v, v1, v2, v3⟩ | ⟨v, v1, v2, v3⟩
      · rw [u2, v2] at e; have := h.1 v v1; omega
      · rw [u2, v2] at e; omega
theorem Mk_blk {n nx a g : Nat} {K G : Nat → Nat} {x y : Nat → Int32} (h : MkR n K nx x y) (hx : nx + g ≤ 200000) (hG : ∀ i, i < g → G i = nx + i) (ha : a ≤ n) : MkR (n + g) (blkN a g K G) (nx + g) x y := fun k hk => by
  obtain ⟨h1, h2, h3⟩ := h k hk
  have up : ∀ z : Int32, (z = -nI 1 ∨ ∃ q, q < nx ∧ z = nI q) → z = -nI 1 ∨ ∃ q, q < nx + g ∧ z = nI q := fun z hz => by
    rcases hz with hz | ⟨q, q1, q2⟩
    · exact Or.inl hz
    · exact Or.inr ⟨q, by omega, q2⟩
  have no : ∀ z : Int32, (z = -nI 1 ∨ ∃ q, q < nx ∧ z = nI q) → ∀ i, i < g → ¬ z = nI (nx + i) := fun z hz i hi e => by
    rcases hz with hz | ⟨q, q1, q2⟩
    · rw [hz] at e; exact p_nm1 (by omega) e.symm
    · rw [q2, p_eq (by omega) (by omega)] at e; omega
  refine ⟨up _ h1, up _ h2, fun i hi => ?_⟩
  show x k = nI (if i < a then K i else if i < a + g then G (i - a) else K (i - g)) ↔ y k = nI (if i < a then K i else if i < a + g then G (i - a) else K (i - g))
  by_cases c : i < a
  · rw [if_pos c]; exact h3 i (by omega)
  · by_cases c2 : i < a + g
    · rw [if_neg c, if_pos c2, hG _ (by omega)]
      exact ⟨fun e => absurd e (no _ h1 _ (by omega)), fun e => absurd e (no _ h2 _ (by omega))⟩
    · rw [if_neg c, if_neg c2]; exact h3 _ (by omega)
/-- a new child is one more -/
theorem ch_ins {n p a : Nat} {D : Nat → Nat} (hp : p < n) (h1 : p < a) (h2 : a ≤ endN n D p) : chN (n + 1) (insN a (D p + 1) D) p = chN n D p + 1 := by
  have hE := endN_is (D := D) hp
  have hle := endN_le (D := D) hp
  have e0 : insN a (D p + 1) D p = D p := by rw [insN, if_pos h1]
  have q1 : n + 1 - (p + 1) = (a - (p + 1)) + ((n - a) + 1) := by omega
  have q2 : n - (p + 1) = (a - (p + 1)) + (n - a) := by omega
  have q3 : p + 1 + (a - (p + 1)) = a := by omega
  have d1 : dr (insN a (D p + 1) D) (p + 1) (a - (p + 1)) = dr D (p + 1) (a - (p + 1)) := dr_congr _ _ _ (fun i hi => by rw [insN, if_pos (by omega)])
  have d2 : dr (insN a (D p + 1) D) (a + 1) (n - a) = dr D a (n - a) := dr_congr _ _ _ (fun i hi => by rw [insN, if_neg (by omega), if_neg (by omega)]; congr 1; omega)
  have d3 : dr (insN a (D p + 1) D) a ((n - a) + 1) = (D p + 1) :: dr D a (n - a) := by
    rw [dr, d2, insN, if_neg (by omega), if_pos rfl]
  have gt : ∀ x ∈ dr D (p + 1) (a - (p + 1)), D p < x := fun x hx => by
    obtain ⟨i, i1, i2⟩ := dr_mem _ _ _ hx
    rw [i2]; exact hE.2.2.1 _ (by omega) (by omega)
  rw [chN_dr (show p < n + 1 by omega), chN_dr hp, e0, q1, q2, dr_app _ (a - (p + 1)) (p + 1) ((n - a) + 1), dr_app _ (a - (p + 1)) (p + 1) (n - a), q3, d1, d3, chL_gt _ _ gt, chL_gt _ _ gt, chL, if_neg (by omega), if_pos rfl]
  omega
theorem par_uniq {a q u d : Nat} {D : Nat → Nat} (hq : q < a) (hu : u < a) (eq : D q + 1 = d) (eu : D u + 1 = d) (gq : ∀ j, q < j → j < a → D q < D j) (gu : ∀ j, u < j → j < a → D u < D j) : q = u := by
  by_cases c : q < u
  · have := gq u c hu; omega
  · by_cases c2 : u < q
    · have := gu q c2 hq; omega
    · omega
theorem M_in_lo {x y z : Int32} (h : x < y) : M_in x y z = some 0 := by rw [M_in, if_pos h]
theorem M_in_hi {x y z : Int32} (h : ¬ x < y) (h2 : z < x) : M_in x y z = some 0 := by rw [M_in, if_neg h, if_pos h2]
theorem M_in_ok {x y z : Int32} (h : ¬ x < y) (h2 : ¬ z < x) : M_in x y z = some 1 := by rw [M_in, if_neg h, if_neg h2]
/-- one node put in, in both: the states behind it -/
theorem put_now {B : Nat} {s : ST} {f : Arr} {n p wn cn nx i l d p' : Nat} {L D K W CL CD : Nat → Nat} {a b : Nat → Int32} (hx : B + 40 ≤ 100000) (hG : Good B n L D K p wn W cn CL CD nx a b) (hi : i ≤ n) (hl : l ≤ 25)
    (hC : CRep s (n + 1) (insN i l L) (insN i d D) (insN i nx K) p' wn W cn CL CD (nx + 1) a) (hF : FRep f (n + 1) (insN i l L) (insN i d D) (insN i nx K) p' wn W cn CL CD (nx + 1) b) (hW : WF (n + 1) (insN i d D)) (hp' : p' < n + 1) : NowR (B + 40) s f := by
  have hB := hG.2.2.2.2.2.2.2.2
  refine ⟨n + 1, insN i l L, insN i d D, insN i nx K, p', wn, W, cn, CL, CD, nx + 1, a, b, hC, hF, hW, fun j hj => ?_, ?_, hp', hG.2.2.2.2.1, fun k hk => ?_, ?_, hG.2.2.2.2.2.2.2.1, by omega⟩
  · rw [insN]
    by_cases c : j < i
    · rw [if_pos c]; exact hG.2.1 j (by omega)
    · rw [if_neg c]
      by_cases c2 : j = i
      · rw [if_pos c2]; exact hl
      · rw [if_neg c2]; exact hG.2.1 _ (by omega)
  · rw [ins_blk]; exact Ky_blk hG.2.2.1 hi (fun j hj => by omega)
  · have := hG.2.2.2.2.2.1 k hk; omega
  · rw [ins_blk]; exact Mk_blk hG.2.2.2.2.2.2.1 (by omega) (fun j hj => by omega) hi
theorem sm_child_ok : sm_child SimR := by
  intro t x m x1 x2 ht h
  obtain ⟨n, L, D, K, p, wn, W, cn, CL, CD, nx, a, b, hC, hF, hG⟩ := h.2.1
  obtain ⟨b', e1, e2⟩ := M_begins_ok m
  have hn := hG.1.1.2.1
  have hn1 := hG.1.1.1
  have hp := hG.2.2.2.1
  have hDD := hG.1.1.2.2.2.2
  have hD := hDD p hp
  have hch := lim_at hG.1.2 hp
  have hpl : M_place (m.1, b', m.2.2) = some (nI p) := M_place_now (m := (m.1, b', m.2.2)) ht hF hG
  have mch : M_children (m.1, b', m.2.2) (nI p) = some (nI (chN n D p)) := M_children_ok (m := (m.1, b', m.2.2)) hF.1 hn hDD hp
  have mdp : M_deep (m.1, b', m.2.2) (nI p) = some (nI (D p)) := M_deep_in (m := (m.1, b', m.2.2)) hF.1 hn hp
  have m0 : m.1 (ix 0) = nI n := hF.1.1
  have pch : T_childrenOf x.1.1 x.1.2.2.2.2.2.1 = some (nI (chN n D p)) := by rw [hC.2.2.2.2.2.1]; exact T_childrenOf_ok hC.1 hn hDD hp
  have tdp : T_depthOf x.1.1 x.1.2.2.2.2.2.1 = some (nI (D p)) := by rw [hC.2.2.2.2.2.1]; exact T_depthOf_in hC.1 hn hp
  have arg : (P_child x x1 x2 = some (-1, x) ∧ M_child m x1 x2 = some (-1, (m.1, b', m.2.2))) ∨ ∃ c, c ≤ chN n D p ∧ x1 = nI c := by
    rcases p_cases x1 with hx | ⟨c, hc, rfl⟩
    · refine Or.inl ⟨?_, ?_⟩
      · rw [P_child, pch, p_bs, if_pos (show x1 < 0 from hx)]
      · rw [M_child, e1, p_bs, hpl, p_bs, mch, p_bs, M_in_lo (show x1 < 0 from hx), p_bs, if_pos rfl]
    · by_cases y : c ≤ chN n D p
      · exact Or.inr ⟨c, y, rfl⟩
      · have n0 : ¬ nI c < 0 := by rw [p_0, p_lt hc (by omega)]; omega
        have n1 : nI (chN n D p) < nI c := by rw [p_lt (by omega) hc]; omega
        refine Or.inl ⟨?_, ?_⟩
        · rw [P_child, pch, p_bs, if_neg n0, if_pos n1]
        · rw [M_child, e1, p_bs, hpl, p_bs, mch, p_bs, M_in_hi n0 n1, p_bs, if_pos rfl]
  rcases arg with ⟨k1, k2⟩ | ⟨c, hc, rfl⟩
  · exact ⟨-1, x, _, k1, k2, sim_err ht h b'⟩
  · have n0 : ¬ nI c < 0 := by rw [p_0, p_lt (by omega) (by omega)]; omega
    have n1 : ¬ nI (chN n D p) < nI c := by rw [p_lt (by omega) (by omega)]; omega
    rcases P_isLetter_ok x2 with ⟨i1, i2⟩ | ⟨l, hl, rfl, i1, i2⟩
    · refine ⟨-1, x, _, ?_, ?_, sim_err ht h b'⟩
      · rw [P_child, pch, p_bs, if_neg n0, if_neg n1, i1, p_bs, if_pos rfl]
      · rw [M_child, e1, p_bs, hpl, p_bs, mch, p_bs, M_in_ok n0 n1, p_bs, if_neg p_ne01, i2, p_bs, if_pos rfl]
    · have P0 : P_child x (nI c) (nI l) = if 40 ≤ nI n then some (-3, x) else if 6 ≤ nI (chN n D p) then some (-3, x) else if (nI (D p) + 1) ≤ 7 then (H_keep x.2.1 x.1).bind fun v96 => (T_startOfChild x.1.1 x.1.2.2.2.2.2.1 (nI c)).bind fun v118 => (S_putNodeIn x.1 v118 (nI l) (nI (D p) + 1)).bind fun v124 => some ((nI (chN n D p) + 1), (v124, v96, x.2.2.1, x.2.2.2)) else some (-3, x) := by
        rw [P_child, pch, p_bs, if_neg n0, if_neg n1, i1, p_bs, if_neg p_ne01, tdp, p_bs, T_size_ok hC.1, p_bs]
      have M0 : M_child m (nI c) (nI l) = if nI n = 40 then some (-3, (m.1, b', m.2.2)) else if nI (chN n D p) = 6 then some (-3, (m.1, b', m.2.2)) else if nI (D p) = 7 then some (-3, (m.1, b', m.2.2)) else (M_childOf (m.1, b', m.2.2) (nI p) (nI c)).bind fun v71 => (M_opens (m.1, b', m.2.2) v71 1).bind fun v80 => (M_deep v80 (nI p)).bind fun v89 => (M_lays v80 v71 (nI l) (v89 + 1)).bind fun v94 => (M_children v94 (nI p)).bind fun v100 => (M_acted v94 v100).bind fun v103 => some (v103.1, v103.2) := by
        rw [M_child, e1, p_bs, hpl, p_bs, mch, p_bs, M_in_ok n0 n1, p_bs, if_neg p_ne01, i2, p_bs, if_neg p_ne01, p_bs, mdp, p_bs]
        show (if m.1 (ix 0) = 40 then _ else _) = _
        rw [m0]
      by_cases y1 : n = 40
      · exact ⟨-3, x, _, by rw [P0, p_40, if_pos (by rw [p_le (by omega) (by omega)]; omega)], by rw [M0, y1, p_40, if_pos rfl], sim_err ht h b'⟩
      · have hP1 : ¬ (40 : Int32) ≤ nI n := by rw [p_40, p_le (by omega) (by omega)]; omega
        have hM1 : ¬ nI n = 40 := by rw [p_40, p_eq (by omega) (by omega)]; omega
        by_cases y2 : chN n D p = 6
        · exact ⟨-3, x, _, by rw [P0, if_neg hP1, y2, p_6, if_pos (Int32.le_refl _)], by rw [M0, if_neg hM1, y2, p_6, if_pos rfl], sim_err ht h b'⟩
        · have hP2 : ¬ (6 : Int32) ≤ nI (chN n D p) := by rw [p_6, p_le (by omega) (by omega)]; omega
          have hM2 : ¬ nI (chN n D p) = 6 := by rw [p_6, p_eq (by omega) (by omega)]; omega
          by_cases y3 : D p = 7
          · exact ⟨-3, x, _, by rw [P0, if_neg hP1, if_neg hP2, p_7, p_1, p_add, if_neg (by rw [p_le (by omega) (by omega)]; omega)], by rw [M0, if_neg hM1, if_neg hM2, y3, p_7, if_pos rfl], sim_err ht h b'⟩
          · have hP3 : (nI (D p) + 1) ≤ 7 := by rw [p_7, p_1, p_add, p_le (by omega) (by omega)]; omega
            have hM3 : ¬ nI (D p) = 7 := by rw [p_7, p_eq (by omega) (by omega)]; omega
            have hk := kidN_is (D := D) hp c
            have he := endN_le (D := D) hp
            have hE := endN_is (D := D) hp
            obtain ⟨h', k1, k2⟩ := sim_rec ht h
            obtain ⟨s', g1, g2⟩ := S_putNodeIn_ok hC (show n < 40 by omega) (show kidN n D p c ≤ n by omega) l (D p + 1)
            obtain ⟨o, o1, o2, o3⟩ := M_ins_ok (m := (m.1, b', m.2.2)) hF.1 hn1 (show n < 40 by omega) (show kidN n D p c ≤ n by omega) hF.2.1
            obtain ⟨f', f1, f2, f3, f4⟩ := o3 l (D p + 1)
            have f4' : ∀ j, 2 ≤ j → (j < 18 ∨ 138 ≤ j) → f' j = m.1 j := f4
            have hW : WF (n + 1) (insN (kidN n D p c) (D p + 1) D) := by
              refine WF_ins hG.1 (by omega) (by omega) (by omega) (by omega) (by omega) ?_ (fun hlt => ?_) (fun q q1 q2 q3 => ?_)
              · by_cases z : kidN n D p c - 1 = p
                · rw [z]; omega
                · have := hE.2.2.1 (kidN n D p c - 1) (by omega) (by omega); omega
              · by_cases z : kidN n D p c < endN n D p
                · have := hk.2.2 z; omega
                · have z2 : kidN n D p c = endN n D p := by omega
                  rw [z2]; have := hE.2.2.2 (by omega); omega
              · have := par_uniq q1 hk.1 q2 rfl q3 (fun j j1 j2 => hE.2.2.1 j (by omega) (by omega))
                rw [this]; omega
            have Kp : insN (kidN n D p c) nx K p = K p := by rw [insN, if_pos hk.1]
            have hF' : FRep f' (n + 1) (insN (kidN n D p c) l L) (insN (kidN n D p c) (D p + 1) D) (insN (kidN n D p c) nx K) p wn W cn CL CD (nx + 1) b := by
              have hw := hG.2.2.2.2.1
              refine ⟨f2, f3, by rw [Kp, f4' 2 (by omega) (by omega)]; exact hF.2.2.1, ⟨by rw [f4' 3 (by omega) (by omega)]; exact hF.2.2.2.1.1, fun k hk => by rw [f4' (9 + k) (by omega) (by omega)]; exact hF.2.2.2.1.2 k hk⟩, by rw [f4' 4 (by omega) (by omega)]; exact hF.2.2.2.2.1, fun k hk => by rw [f4' (5 + k) (by omega) (by omega)]; exact hF.2.2.2.2.2.1 k hk, fun i hi => by rw [f4' (138 + 2 * i) (by omega) (by omega), f4' (138 + 2 * i + 1) (by omega) (by omega)]; exact hF.2.2.2.2.2.2 i hi⟩
            have hN := put_now (by omega) hG (show kidN n D p c ≤ n by omega) hl g2 hF' hW (show p < n + 1 by omega)
            obtain ⟨m', q1, q2⟩ := k2 b' f' m.2.2.2.2 s' x.2.2.2 (chN n D p + 1) e2 rfl rfl (hN.mono (by omega) (fun j _ => rfl)) (by omega)
            refine ⟨nI (chN n D p + 1), _, m', ?_, ?_, q2⟩
            · rw [P0, if_neg hP1, if_neg hP2, if_pos hP3, k1, p_bs, hC.2.2.2.2.2.1, p_1, p_add, T_startOfChild_ok hC.1 hn hDD hp (show c < 2147483648 by omega), p_bs, g1, p_bs, p_add]
            · have o2' : M_deep (o, b', m.2.2) (nI p) = some (nI (D p)) := o2 p hk.1
              have f1' : M_lays (o, b', m.2.2) (nI (kidN n D p c)) (nI l) (nI (D p) + nI 1) = some (f', b', m.2.2) := by rw [p_add]; exact f1
              have f5 : M_children (f', b', m.2.2) (nI p) = some (nI (chN n D p + 1)) := by
                rw [M_children_ok (m := (f', b', m.2.2)) f2 (by omega) hW.1.2.2.2.2 (show p < n + 1 by omega), ch_ins hp hk.1 hk.2.1]
              rw [M0, if_neg hM1, if_neg hM2, if_neg hM3, p_1, M_childOf_ok (m := (m.1, b', m.2.2)) hF.1 hG.1.1 hp hc, p_bs, o1, p_bs, o2', p_bs, f1', p_bs, f5, p_bs]
              show (M_acted (f', b', m.2.2) (nI _)).bind _ = _
              rw [q1, p_bs]
