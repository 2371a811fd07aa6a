/-! beside, wrap, exchange -/
theorem fr_put {f f' : Arr} {n n' p p' wn cn nx nx' : Nat} {L D K W CL CD L' D' K' : Nat → Nat} {b : Nat → Int32} (hF : FRep f n L D K p wn W cn CL CD nx b) (hw : wn ≤ 8) (f2 : MRep f' n' L' D' K') (f3 : f' 1 = nI nx') (hp : K' p' = K p) (f4 : ∀ j, 2 ≤ j → (j < 18 ∨ 138 ≤ j) → f' j = f j) : FRep f' n' L' D' K' p' wn W cn CL CD nx' b :=
  ⟨f2, f3, by rw [hp, f4 2 (by omega) (by omega)]; exact hF.2.2.1, ⟨by rw [f4 3 (by omega) (by omega)]; exact hF.2.2.2.1.1, fun k hk => by rw [f4 (9 + k) (by omega) (by omega)]; exact hF.2.2.2.1.2 k hk⟩, by rw [f4 4 (by omega) (by omega)]; exact hF.2.2.2.2.1, fun k hk => by rw [f4 (5 + k) (by omega) (by omega)]; exact hF.2.2.2.2.2.1 k hk, fun i hi => by rw [f4 (138 + 2 * i) (by omega) (by omega), f4 (138 + 2 * i + 1) (by omega) (by omega)]; exact hF.2.2.2.2.2.2 i hi⟩
/-- the part of the node above reaches behind the part -/
theorem end_up {n p : Nat} {D : Nat → Nat} (hS : Sh n D) (h0 : 0 < p) (hp : p < n) : endN n D p ≤ endN n D (abN D p) := by
  have hb := abN_is hS h0 hp
  have hE := endN_is (D := D) hp
  have hA := endN_is (D := D) (show abN D p < n by omega)
  apply Nat.le_of_not_lt
  intro c
  have c2 : endN n D (abN D p) < n := by have := hE.2.1; omega
  have q := hA.2.2.2 c2
  by_cases y : endN n D (abN D p) ≤ p
  · have := hb.2.2 _ hA.1 y; omega
  · have := hE.2.2.1 _ (by omega) c; omega
theorem beside_at {n p a : Nat} {D : Nat → Nat} (hG : WF n D) (h0 : 0 < p) (hp : p < n) (hn : n < 40) (hch : chN n D (abN D p) < 6) (ha : a = p ∨ a = endN n D p) : abN D p < a ∧ a ≤ endN n D (abN D p) ∧ a ≤ n ∧ D (abN D p) + 1 = D p ∧ WF (n + 1) (insN a (D p) D) := by
  have hS := hG.1
  have hb := abN_is hS h0 hp
  have hE := endN_is (D := D) hp
  have hu := end_up hS h0 hp
  have hle := endN_le (D := D) hp
  have hD := hS.2.2.2.2 p hp
  have gu : ∀ j, abN D p < j → j < a → D (abN D p) < D j := fun j j1 j2 => by
    by_cases y : j ≤ p
    · have := hb.2.2 j j1 y; omega
    · rcases ha with rfl | rfl
      · omega
      · have := hE.2.2.1 j (by omega) j2; omega
  have ap : p ≤ a ∧ a ≤ endN n D p := by
    rcases ha with rfl | rfl
    · have := hE.1; omega
    · have := hE.1; omega
  refine ⟨by omega, by omega, by omega, hb.2.1, WF_ins hG (by omega) (by omega) hn (by omega) hD ?_ (fun hlt => ?_) (fun q q1 q2 q3 => ?_)⟩
  · rcases ha with rfl | rfl
    · exact (hS.2.2.2.1 a h0 hp).2
    · by_cases z : endN n D p - 1 = p
      · rw [z]; omega
      · have h1 := hE.1
        have := hE.2.2.1 (endN n D p - 1) (by omega) (by omega)
        omega
  · rcases ha with rfl | rfl
    · omega
    · exact hE.2.2.2 hlt
  · have := par_uniq q1 (show abN D p < a by omega) q2 hb.2.1 q3 gu
    rw [this]; exact hch
/-- a node put in beside, in both -/
theorem beside_now {t : Nat} {x : TP} {m : MD} (ht : t < 512) (h : SimR t x m) {n p wn cn nx : Nat} {L D K W CL CD : Nat → Nat} {a b : Nat → Int32} (hC : CRep x.1 n L D K p wn W cn CL CD nx a) (hF : FRep m.1 n L D K p wn W cn CL CD nx b) (hG : Good (1 + 40 * t) n L D K p wn W cn CL CD nx a b) (b' : Arr) (e2 : ∀ j, j < 218 → b' j = m.1 j) (h0 : 0 < p) (hn : n < 40) (hch : chN n D (abN D p) < 6) {l : Nat} (hl : l ≤ 25) {i p' : Nat} (hi : (i = p ∧ p' = p + 1) ∨ (i = endN n D p ∧ p' = p)) :
    ∃ (s' : ST) (h' : HI) (m' : MD), H_keep x.2.1 x.1 = some h' ∧ S_putNodeIn x.1 (nI i) (nI l) (nI (D p)) = some s' ∧ M_beside_J91 (m.1, b', m.2.2) (nI l) (nI (abN D p)) (nI (D p)) (nI i) = some (nI (chN n D (abN D p) + 1), m') ∧ SimR (t + 1) ((s'.1, s'.2.1, s'.2.2.1, s'.2.2.2.1, s'.2.2.2.2.1, nI p', s'.2.2.2.2.2.2), h', x.2.2.1, x.2.2.2) m' := by
  have hn1 := hG.1.1.1
  have hp := hG.2.2.2.1
  have hw := hG.2.2.2.2.1
  have hD := hG.1.1.2.2.2.2 p hp
  have hle := endN_le (D := D) hp
  have hgt := endN_gt (D := D) hp
  have hb := abN_is hG.1.1 h0 hp
  obtain ⟨a1, a2, a3, a4, a5⟩ := beside_at (a := i) hG.1 h0 hp hn hch (by rcases hi with hi | hi; exact Or.inl hi.1; exact Or.inr hi.1)
  obtain ⟨h', k1, k2⟩ := sim_rec ht h
  obtain ⟨s', g1, g2⟩ := S_putNodeIn_ok hC hn a3 l (D p)
  obtain ⟨o, o1, o2, o3⟩ := M_ins_ok (m := (m.1, b', m.2.2)) hF.1 hn1 hn a3 hF.2.1
  obtain ⟨f', f1, f2, f3, f4⟩ := o3 l (D p)
  have f4' : ∀ j, 2 ≤ j → (j < 18 ∨ 138 ≤ j) → f' j = m.1 j := f4
  have Kp : insN i nx K p' = K p := by
    rw [insN]
    rcases hi with ⟨rfl, rfl⟩ | ⟨rfl, rfl⟩
    · rw [if_neg (by omega), if_neg (by omega), Nat.add_sub_cancel]
    · rw [if_pos hgt]
  have hp' : p' < n + 1 := by omega
  have hN := put_now (by omega) hG a3 hl (show CRep (s'.1, s'.2.1, s'.2.2.1, s'.2.2.2.1, s'.2.2.2.2.1, nI p', s'.2.2.2.2.2.2) (n + 1) (insN i l L) (insN i (D p) D) (insN i nx K) p' wn W cn CL CD (nx + 1) a from ⟨g2.1, g2.2.1, g2.2.2.1, g2.2.2.2.1, g2.2.2.2.2.1, rfl, g2.2.2.2.2.2.2⟩) (fr_put hF hw f2 f3 Kp f4') a5 hp'
  obtain ⟨m', q1, q2⟩ := k2 b' f' m.2.2.2.2 _ x.2.2.2 (chN n D (abN D p) + 1) e2 rfl rfl (hN.mono (by omega) (fun j _ => rfl)) (by omega)
  refine ⟨s', h', m', k1, g1, ?_, q2⟩
  have f1' : M_lays (o, b', m.2.2) (nI i) (nI l) (nI (D p)) = some (f', b', m.2.2) := f1
  have ci := ch_ins (n := n) (p := abN D p) (D := D) (by omega) a1 a2
  rw [a4] at ci
  have f5 : M_children (f', b', m.2.2) (nI (abN D p)) = some (nI (chN n D (abN D p) + 1)) := by
    rw [M_children_ok (m := (f', b', m.2.2)) f2 (by omega) a5.1.2.2.2.2 (show abN D p < n + 1 by omega), ci]
  rw [M_beside_J91, p_1, o1, p_bs, f1', p_bs, f5, p_bs]
  show (M_acted (f', b', m.2.2) (nI _)).bind _ = _
  rw [q1, p_bs]
theorem sm_beside_ok : sm_beside SimR := by
  intro t x m x1 x2 ht h
  obtain ⟨n, L, D, K, p, wn, W, cn, CL, CD, nx, a, b, hC, hF, hG⟩ := h.2.1
  obtain ⟨b', e1, e2⟩ := M_begins_ok m
  have hn := hG.1.1.2.1
  have hp := hG.2.2.2.1
  have hS := hG.1.1
  have hpl : M_place (m.1, b', m.2.2) = some (nI p) := M_place_now (m := (m.1, b', m.2.2)) ht hF hG
  have m0 : m.1 (ix 0) = nI n := hF.1.1
  have hplc := hC.2.2.2.2.2.1
  rcases P_isChoice_ok x1 with ⟨i1, i2⟩ | ⟨hx, i1, i2⟩
  · refine ⟨-1, x, _, ?_, ?_, sim_err ht h b'⟩
    · rw [P_beside, i1, p_bs, if_pos rfl]
    · rw [M_beside, e1, p_bs, i2, p_bs, if_pos rfl]
  · rcases P_isLetter_ok x2 with ⟨l1, l2⟩ | ⟨l, hl, rfl, l1, l2⟩
    · refine ⟨-1, x, _, ?_, ?_, sim_err ht h b'⟩
      · rw [P_beside, i1, p_bs, if_neg p_ne01, l1, p_bs, if_pos rfl]
      · rw [M_beside, e1, p_bs, i2, p_bs, if_neg p_ne01, l2, p_bs, if_pos rfl]
    · by_cases h0 : p = 0
      · subst h0
        refine ⟨-2, x, _, ?_, ?_, sim_err ht h b'⟩
        · rw [P_beside, i1, p_bs, if_neg p_ne01, l1, p_bs, if_neg p_ne01, hplc, T_above_top hC.1 hS, p_bs, p_1, if_pos rfl]
        · rw [M_beside, e1, p_bs, i2, p_bs, if_neg p_ne01, l2, p_bs, if_neg p_ne01, hpl, p_bs, M_above_top, p_bs, p_0, if_neg p_n0le]
      · have h0' : 0 < p := by omega
        have hb := abN_is hS h0' hp
        have hab : abN D p < n := by omega
        have hch := lim_at hG.1.2 hab
        have mab : M_above (m.1, b', m.2.2) (nI p) = some (nI (abN D p)) := M_above_ok (m := (m.1, b', m.2.2)) hF.1 hS h0' hp
        have mch : M_children (m.1, b', m.2.2) (nI (abN D p)) = some (nI (chN n D (abN D p))) := M_children_ok (m := (m.1, b', m.2.2)) hF.1 hn hS.2.2.2.2 hab
        have mdp : M_deep (m.1, b', m.2.2) (nI p) = some (nI (D p)) := M_deep_in (m := (m.1, b', m.2.2)) hF.1 hn hp
        have men : M_end (m.1, b', m.2.2) (nI p) = some (nI (endN n D p)) := M_end_ok (m := (m.1, b', m.2.2)) hF.1 hn hS.2.2.2.2 hp
        have P0 : P_beside x x1 (nI l) = if 40 ≤ nI n then some (-3, x) else if nI (chN n D (abN D p)) < 6 then (H_keep x.2.1 x.1).bind fun v88 => if x1 = 1 then (S_putNodeIn x.1 (nI (endN n D p)) (nI l) (nI (D p))).bind fun v139 => some (nI (chN n D (abN D p)) + 1, (v139, v88, x.2.2.1, x.2.2.2)) else (S_putNodeIn x.1 (nI p) (nI l) (nI (D p))).bind fun v159 => some (nI (chN n D (abN D p)) + 1, ((v159.1, v159.2.1, v159.2.2.1, v159.2.2.2.1, v159.2.2.2.2.1, (v159.2.2.2.2.2.1 + 1), v159.2.2.2.2.2.2), v88, x.2.2.1, x.2.2.2)) else some (-3, x) := by
          rw [P_beside, i1, p_bs, if_neg p_ne01, l1, p_bs, if_neg p_ne01, hplc, T_above_ok hC.1 hS h0' hp, p_bs]
          rw [if_neg (show ¬ nI (abN D p) = -1 by rw [p_1]; exact p_nm1 (by omega)), T_childrenOf_ok hC.1 hn hS.2.2.2.2 hab, p_bs, T_size_ok hC.1, p_bs]
          simp only [T_depthOf_in hC.1 hn hp, T_endOf_ok hC.1 hn hS.2.2.2.2 hp, p_bs]
        have M0 : M_beside m x1 (nI l) = if nI n = 40 then some (-3, (m.1, b', m.2.2)) else if nI (chN n D (abN D p)) = 6 then some (-3, (m.1, b', m.2.2)) else if x1 = 1 then M_beside_J91 (m.1, b', m.2.2) (nI l) (nI (abN D p)) (nI (D p)) (nI (endN n D p)) else M_beside_J91 (m.1, b', m.2.2) (nI l) (nI (abN D p)) (nI (D p)) (nI p) := by
          rw [M_beside, e1, p_bs, i2, p_bs, if_neg p_ne01, l2, p_bs, if_neg p_ne01, hpl, p_bs, mab, p_bs, if_pos (show (0 : Int32) ≤ nI (abN D p) by rw [p_0]; exact p_0le (by omega)), mch, p_bs, mdp, p_bs, men, p_bs]
          show (if m.1 (ix 0) = 40 then _ else _) = _
          rw [m0]
        by_cases y1 : n = 40
        · exact ⟨-3, x, _, by rw [P0, p_40, if_pos (by rw [p_le (by omega) (by omega)]; omega)], by rw [M0, y1, p_40, if_pos rfl], sim_err ht h b'⟩
        · have hP1 : ¬ (40 : Int32) ≤ nI n := by rw [p_40, p_le (by omega) (by omega)]; omega
          have hM1 : ¬ nI n = 40 := by rw [p_40, p_eq (by omega) (by omega)]; omega
          by_cases y2 : chN n D (abN D p) = 6
          · exact ⟨-3, x, _, by rw [P0, if_neg hP1, y2, p_6, if_neg (by rw [p_lt (by omega) (by omega)]; omega)], by rw [M0, if_neg hM1, y2, p_6, if_pos rfl], sim_err ht h b'⟩
          · have hP2 : nI (chN n D (abN D p)) < 6 := by rw [p_6, p_lt (by omega) (by omega)]; omega
            have hM2 : ¬ nI (chN n D (abN D p)) = 6 := by rw [p_6, p_eq (by omega) (by omega)]; omega
            rcases hx with rfl | rfl
            · obtain ⟨s', h', m', q1, q2, q3, q4⟩ := beside_now ht h hC hF hG b' e2 h0' (by omega) (by omega) hl (Or.inl ⟨rfl, rfl⟩)
              refine ⟨nI (chN n D (abN D p) + 1), _, m', ?_, ?_, q4⟩
              · have hs : s'.2.2.2.2.2.1 = nI p := by
                  have q := S_putNodeIn_ok hC (show n < 40 by omega) (Nat.le_of_lt hp) l (D p)
                  obtain ⟨s2, z1, z2⟩ := q
                  rw [q2] at z1
                  cases z1
                  exact z2.2.2.2.2.2.1
                rw [P0, if_neg hP1, if_pos hP2, q1, p_bs, if_neg (by decide), q2, p_bs, hs, p_1, p_add, p_add]
              · rw [M0, if_neg hM1, if_neg hM2, if_neg (by decide)]; exact q3
            · obtain ⟨s', h', m', q1, q2, q3, q4⟩ := beside_now ht h hC hF hG b' e2 h0' (by omega) (by omega) hl (Or.inr ⟨rfl, rfl⟩)
              have hs : s'.2.2.2.2.2.1 = nI p := by
                have q := S_putNodeIn_ok hC (show n < 40 by omega) (endN_le (D := D) hp) l (D p)
                obtain ⟨s2, z1, z2⟩ := q
                rw [q2] at z1
                cases z1
                exact z2.2.2.2.2.2.1
              rw [← hs] at q4
              refine ⟨nI (chN n D (abN D p) + 1), _, m', ?_, ?_, q4⟩
              · rw [P0, if_neg hP1, if_pos hP2, q1, p_bs, if_pos rfl, q2, p_bs, p_1, p_add]
              · rw [M0, if_neg hM1, if_neg hM2, if_pos rfl]; exact q3
