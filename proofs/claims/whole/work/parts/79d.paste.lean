/-! paste -/
theorem CRep.congr {s : ST} {n p wn cn nx : Nat} {L D K L' D' K' W CL CD : Nat → Nat} {a : Nat → Int32} (h : CRep s n L D K p wn W cn CL CD nx a) (e1 : ∀ i, i < n → L i = L' i) (e2 : ∀ i, i < n → D i = D' i) (e3 : ∀ i, i < n → K i = K' i) : CRep s n L' D' K' p wn W cn CL CD nx a :=
  ⟨⟨h.1.1.congr fun i hi => by rw [e1 i hi], h.1.2.congr fun i hi => by rw [e2 i hi]⟩, h.2.1, h.2.2.1.congr fun i hi => by show nI _ = nI _; rw [e3 i hi], h.2.2.2⟩
theorem blk_step {a j v : Nat} {f G : Nat → Nat} (hv : v = G j) (i : Nat) : insN (a + j) v (blkN a j f G) i = blkN a (j + 1) f G i := by
  rw [insN, blkN, blkN, blkN]
  by_cases c1 : i < a + j
  · rw [if_pos c1]
    by_cases c2 : i < a
    · rw [if_pos c2, if_pos c2]
    · rw [if_neg c2, if_pos c1, if_neg c2, if_pos (by omega)]
  · rw [if_neg c1]
    by_cases c2 : i = a + j
    · subst c2
      rw [if_pos rfl, if_neg (by omega), if_pos (by omega), hv, show a + j - a = j by omega]
    · rw [if_neg c2, if_neg (by omega), if_neg (by omega), if_neg (by omega), if_neg (by omega), show i - 1 - j = i - (j + 1) by omega]
theorem blk_none {a : Nat} {f G : Nat → Nat} (i : Nat) : f i = blkN a 0 f G i := by
  rw [blkN]
  by_cases c : i < a
  · rw [if_pos c]
  · rw [if_neg c, if_neg (by omega)]; rfl
theorem S_putTreeInA_loop {n p wn g nx i d : Nat} {L D K W CL CD : Nat → Nat} {a : Nat → Int32} (hg : n + g ≤ 40) (hi : i ≤ n) : ∀ fu j (s : ST), j ≤ g → g - j < fu → CRep s (n + j) (blkN i j L CL) (blkN i j D (fun q => d + CD q)) (blkN i j K (fun q => nx + q)) p wn W g CL CD (nx + j) a →
    ∃ s', S_putTreeInA_L9 fu s (nI i) (nI d) (nI g) (nI j) = some s' ∧ CRep s' (n + g) (blkN i g L CL) (blkN i g D (fun q => d + CD q)) (blkN i g K (fun q => nx + q)) p wn W g CL CD (nx + g) a := by
  intro fu
  induction fu with
  | zero => intro j s _ h; omega
  | succ fu ih =>
    intro j s h1 h2 h
    rw [S_putTreeInA_L9]
    by_cases e : j = g
    · subst e
      exact ⟨s, by rw [if_pos (Int32.le_refl _)], h⟩
    · have hj : j < g := by omega
      obtain ⟨s', g1, g2⟩ := S_putNodeIn_ok h (show n + j < 40 by omega) (show i + j ≤ n + j by omega) (CL j) (d + CD j)
      obtain ⟨s2, f1, f2⟩ := ih (j + 1) s' (by omega) (by omega) (g2.congr (fun q _ => blk_step rfl q) (fun q _ => blk_step rfl q) (fun q _ => blk_step rfl q))
      refine ⟨s2, ?_, f2⟩
      rw [if_neg (by rw [p_le (by omega) (by omega)]; omega), T_letterOf_in h.2.1 (by omega) hj, p_bs, T_depthOf_in h.2.1 (by omega) hj, p_bs, p_add, p_add, g1, p_bs, p_1, p_add]
      exact f1
theorem sm_paste_ok : sm_paste SimR := by
  intro t x m x1 ht h
  obtain ⟨n, L, D, K, p, wn, W, cn, CL, CD, nx, a, b, hC, hF, hG⟩ := h.2.1
  obtain ⟨b', e1, e2⟩ := M_begins_ok m
  have hn := hG.1.1.2.1
  have hn1 := hG.1.1.1
  have hp := hG.2.2.2.1
  have hS := hG.1.1
  have hDD := hS.2.2.2.2
  have hD := hDD p hp
  have hw := hG.2.2.2.2.1
  have hB := hG.2.2.2.2.2.2.2.2
  have hplc := hC.2.2.2.2.2.1
  have hch := lim_at hG.1.2 hp
  have hcn : cn ≤ 40 := hG.2.2.2.2.2.2.2.1.le
  have hpl : M_place (m.1, b', m.2.2) = some (nI p) := M_place_now (m := (m.1, b', m.2.2)) ht hF hG
  have mch : M_children (m.1, b', m.2.2) (nI p) = some (nI (chN n D p)) := M_children_ok (m := (m.1, b', m.2.2)) hF.1 hn hDD hp
  have mdp : M_deep (m.1, b', m.2.2) (nI p) = some (nI (D p)) := M_deep_in (m := (m.1, b', m.2.2)) hF.1 hn hp
  have m0 : m.1 (ix 0) = nI n := hF.1.1
  have m4 : m.1 (ix 4) = nI cn := hF.2.2.2.2.1
  have pch : T_childrenOf x.1.1 (nI p) = some (nI (chN n D p)) := T_childrenOf_ok hC.1 hn hDD hp
  have tdp : T_depthOf x.1.1 (nI p) = some (nI (D p)) := T_depthOf_in hC.1 hn hp
  have arg : (P_paste x x1 = some (-1, x) ∧ M_paste m x1 = some (-1, (m.1, b', m.2.2))) ∨ ∃ c, c ≤ chN n D p ∧ x1 = nI c := by
    rcases p_cases x1 with hx | ⟨c, hc, rfl⟩
    · refine Or.inl ⟨?_, ?_⟩
      · rw [P_paste, hplc, pch, p_bs, if_pos (show x1 < 0 from hx)]
      · rw [M_paste, e1, p_bs, hpl, p_bs, mch, p_bs, M_in_lo (show x1 < 0 from hx), p_bs, if_pos rfl]
    · by_cases y : c ≤ chN n D p
      · exact Or.inr ⟨c, y, rfl⟩
      · have n0 : ¬ nI c < 0 := by rw [p_0, p_lt hc (by omega)]; omega
        have n1 : nI (chN n D p) < nI c := by rw [p_lt (by omega) hc]; omega
        refine Or.inl ⟨?_, ?_⟩
        · rw [P_paste, hplc, pch, p_bs, if_neg n0, if_neg (Int32.not_le.mpr n1)]
        · rw [M_paste, e1, p_bs, hpl, p_bs, mch, p_bs, M_in_hi n0 n1, p_bs, if_pos rfl]
  rcases arg with ⟨k1, k2⟩ | ⟨c, hc, rfl⟩
  · exact ⟨-1, x, _, k1, k2, sim_err ht h b'⟩
  · have n0 : ¬ nI c < 0 := by rw [p_0, p_lt (by omega) (by omega)]; omega
    have n1 : nI c ≤ nI (chN n D p) := by rw [p_le (by omega) (by omega)]; exact hc
    have n1' : ¬ nI (chN n D p) < nI c := Int32.not_lt.mpr n1
    by_cases y0 : cn = 0
    · refine ⟨-2, x, _, ?_, ?_, sim_err ht h b'⟩
      · rw [P_paste, hplc, pch, p_bs, if_neg n0, if_pos n1, T_size_ok hC.2.1, p_bs, y0, if_pos p_0.symm]
      · rw [M_paste, e1, p_bs, hpl, p_bs, mch, p_bs, M_in_ok n0 n1', p_bs, if_neg p_ne01]
        show (if m.1 (ix 4) = 0 then _ else _) = _
        rw [m4, y0, if_pos p_0.symm]
    · have hCl : WF cn CD ∧ ∀ i, i < cn → CL i ≤ 25 := by
        rcases hG.2.2.2.2.2.2.2.1 with z | z
        · exact absurd z y0
        · exact z
      have hcS := hCl.1.1
      have hh := heN_le hcS.2.2.2.2 (show 0 < cn by omega)
      have h00 := hcS.2.2.1
      have z0 : ¬ nI cn = 0 := by rw [p_0, p_eq (by omega) (by omega)]; exact y0
      have the : T_heightOf x.1.2.1 0 = some (nI (heN cn CD 0)) := by rw [p_0]; exact T_heightOf_ok hC.2.1 hcn hcS.2.2.2.2 (by omega)
      have mhe : M_clipHeight (m.1, b', m.2.2) = some (nI (heN cn CD 0)) := M_clipHeight_ok (m := (m.1, b', m.2.2)) hcS hF.2.2.2.2.1 (fun i hi => (hF.2.2.2.2.2.2 i hi).2)
      have P0 : P_paste x (nI c) = if 40 < nI n + nI cn then some (-3, x) else if 6 ≤ nI (chN n D p) then some (-3, x) else if (nI (D p) + 1 + nI (heN cn CD 0)) ≤ 7 then (H_keep x.2.1 x.1).bind fun v126 => (T_startOfChild x.1.1 (nI p) (nI c)).bind fun v155 => (S_putTreeInA x.1 v155 (nI (D p) + 1)).bind fun v159 => (T_size v159.1).bind fun v169 => some (v169, (v159, v126, x.2.2.1, x.2.2.2)) else some (-3, x) := by
        rw [P_paste, hplc, pch, p_bs, if_neg n0, if_pos n1, T_size_ok hC.2.1, p_bs, if_neg z0, tdp, p_bs, T_size_ok hC.1, p_bs, p_bs, the, p_bs]
      have M0 : M_paste m (nI c) = if 40 < nI n + nI cn then some (-3, (m.1, b', m.2.2)) else if nI (chN n D p) = 6 then some (-3, (m.1, b', m.2.2)) else if (nI (D p) + 1 + nI (heN cn CD 0)) ≤ 7 then (M_childOf (m.1, b', m.2.2) (nI p) (nI c)).bind fun v87 => (M_opens (m.1, b', m.2.2) v87 (nI cn)).bind fun v108 => M_paste_L114 1000 v108 v87 (nI (D p) + 1) 0 else some (-3, (m.1, b', m.2.2)) := by
        rw [M_paste, e1, p_bs, hpl, p_bs, mch, p_bs, M_in_ok n0 n1', p_bs, if_neg p_ne01]
        show (if m.1 (ix 4) = 0 then _ else if 40 < m.1 (ix 0) + m.1 (ix 4) then _ else _) = _
        rw [m4, m0, if_neg z0, p_bs, mdp, p_bs, mhe, p_bs]
        simp only [p_bs]
      by_cases y1 : 40 < n + cn
      · have hz : (40 : Int32) < nI n + nI cn := by rw [p_40, p_add, p_lt (by omega) (by omega)]; exact y1
        exact ⟨-3, x, _, by rw [P0, if_pos hz], by rw [M0, if_pos hz], sim_err ht h b'⟩
      · have hz1 : ¬ (40 : Int32) < nI n + nI cn := by rw [p_40, p_add, p_lt (by omega) (by omega)]; exact y1
        by_cases y2 : chN n D p = 6
        · exact ⟨-3, x, _, by rw [P0, if_neg hz1, y2, p_6, if_pos (Int32.le_refl _)], by rw [M0, if_neg hz1, y2, p_6, if_pos rfl], sim_err ht h b'⟩
        · have hP2 : ¬ (6 : Int32) ≤ nI (chN n D p) := by rw [p_6, p_le (by omega) (by omega)]; omega
          have hM2 : ¬ nI (chN n D p) = 6 := by rw [p_6, p_eq (by omega) (by omega)]; omega
          by_cases y3 : D p + 1 + heN cn CD 0 ≤ 7
          · have hz3 : (nI (D p) + 1 + nI (heN cn CD 0)) ≤ 7 := by rw [p_7, p_1, p_add, p_add, p_le (by omega) (by omega)]; exact y3
            have hk := kidN_is (D := D) hp c
            have he := endN_le (D := D) hp
            have hE := endN_is (D := D) hp
            obtain ⟨h', k1, k2⟩ := sim_rec ht h
            have hkn : kidN n D p c ≤ n := by omega
            obtain ⟨s', g1, g2⟩ := S_putTreeInA_loop (i := kidN n D p c) (d := D p + 1) (n := n) (nx := nx) (L := L) (D := D) (K := K) (p := p) (wn := wn) (W := W) (a := a) (CL := CL) (CD := CD) (g := cn) (by omega) hkn 1000 0 x.1 (by omega) (by omega) (hC.congr (fun q _ => blk_none q) (fun q _ => blk_none q) (fun q _ => blk_none q))
            obtain ⟨o, f', f1, f2, f3, f4, f5⟩ := M_paste_ok (m := (m.1, b', m.2.2)) (d := D p + 1) hF.1 hn1 hkn (show n + cn ≤ 40 by omega) hF.2.1 hF.2.2.2.2.1 hF.2.2.2.2.2.2
            have f5' : ∀ j, 2 ≤ j → (j < 18 ∨ 138 ≤ j) → f' j = m.1 j := f5
            have hei : ∀ i, i < cn → D p + 1 + CD i ≤ 7 := fun i hi => by
              have := heN_ge (D := CD) (n := cn) (p := 0) (by omega) (Nat.zero_le i) (by rw [endN_top hcS]; exact hi)
              omega
            have hW : WF (n + cn) (blkN (kidN n D p c) cn D (fun q => D p + 1 + CD q)) := by
              refine WF_clip hG.1 hCl.1 (by omega) hkn (by omega) (by omega) hei ?_ (fun hlt => ?_) (fun q q1 q2 q3 => ?_)
              · by_cases z : kidN n D p c - 1 = p
                · rw [z]; omega
                · have := hE.2.2.1 (kidN n D p c - 1) (by omega) (by omega); omega
              · by_cases z : kidN n D p c < endN n D p
                · have := hk.2.2 z; omega
                · have z2 : kidN n D p c = endN n D p := by omega
                  rw [z2]; have := hE.2.2.2 (by omega); omega
              · have := par_uniq q1 hk.1 q2 rfl q3 (fun j j1 j2 => hE.2.2.1 j (by omega) (by omega))
                rw [this]; omega
            have Kp : blkN (kidN n D p c) cn K (fun q => nx + q) p = K p := by rw [blkN, if_pos hk.1]
            have hN : NowR (1 + 40 * (t + 1)) s' f' := by
              refine ⟨n + cn, _, _, _, p, wn, W, cn, CL, CD, nx + cn, a, b, g2, fr_put hF hw f3 f4 Kp f5', hW, fun i hi => ?_, Ky_blk hG.2.2.1 hkn (fun q _ => rfl), by omega, hw, fun k hk => by have := hG.2.2.2.2.2.1 k hk; omega, Mk_blk hG.2.2.2.2.2.2.1 (by omega) (fun q _ => rfl) hkn, hG.2.2.2.2.2.2.2.1, by omega⟩
              rw [blkN]
              by_cases z1 : i < kidN n D p c
              · rw [if_pos z1]; exact hG.2.1 i (by omega)
              · rw [if_neg z1]
                by_cases z2 : i < kidN n D p c + cn
                · rw [if_pos z2]; exact hCl.2 _ (by omega)
                · rw [if_neg z2]; exact hG.2.1 _ (by omega)
            obtain ⟨m', q1, q2⟩ := k2 b' f' m.2.2.2.2 s' x.2.2.2 (n + cn) e2 rfl rfl hN (by omega)
            refine ⟨nI (n + cn), _, m', ?_, ?_, q2⟩
            · have g1' : S_putTreeInA x.1 (nI (kidN n D p c)) (nI (D p + 1)) = some s' := by
                rw [S_putTreeInA, T_size_ok hC.2.1, p_bs, p_0]; exact g1
              rw [P0, if_neg hz1, if_neg hP2, if_pos hz3, k1, p_bs, T_startOfChild_ok hC.1 hn hDD hp (show c < 2147483648 by omega), p_bs, p_1, p_add, g1', p_bs, T_size_ok g2.1, p_bs]
            · have f1' : M_opens (m.1, b', m.2.2) (nI (kidN n D p c)) (nI cn) = some (o, b', m.2.2) := f1
              have f2' : M_paste_L114 1000 (o, b', m.2.2) (nI (kidN n D p c)) (nI (D p + 1)) (nI 0) = ((M_acted (f', b', m.2.2) (nI (n + cn))).bind fun v => some (v.1, v.2)) := f2
              rw [M0, if_neg hz1, if_neg hM2, if_pos hz3, M_childOf_ok (m := (m.1, b', m.2.2)) hF.1 hS hp hc, p_bs, f1', p_bs, p_1, p_add, p_0, f2', q1, p_bs]
          · have hz3 : ¬ (nI (D p) + 1 + nI (heN cn CD 0)) ≤ 7 := by rw [p_7, p_1, p_add, p_add, p_le (by omega) (by omega)]; exact y3
            exact ⟨-3, x, _, by rw [P0, if_neg hz1, if_neg hP2, if_neg hz3], by rw [M0, if_neg hz1, if_neg hM2, if_neg hz3], sim_err ht h b'⟩
