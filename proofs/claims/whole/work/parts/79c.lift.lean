/-! lift -/
def prN (d : Nat) : Nat := if d = 0 then 4294967295 else d - 1
theorem pr_nI (d : Nat) : nI d + -nI 1 = nI (prN d) := by
  rw [prN]
  by_cases c : d = 0
  · subst c; rw [if_pos rfl]; decide
  · rw [if_neg c, p_dec (by omega)]
def dxN (a b : Nat) (f : Nat → Nat) : Nat → Nat := fun i => if a ≤ i ∧ i < b then prN (f i) else f i
theorem T_shiftDx_loop {n : Nat} {L : Nat → Nat} {b : Nat} (hn : n ≤ 40) (hb : b ≤ n) : ∀ fu j (t : TR) (D : Nat → Nat), TRep t n L D → j ≤ b → b - j < fu → ∃ t', T_shiftDepths_L3 fu t (nI b) (-nI 1) (nI j) = some t' ∧ TRep t' n L (dxN j b D) := by
  intro fu
  induction fu with
  | zero => intro j t D _ _ h; omega
  | succ fu ih =>
    intro j t D h h1 h2
    rw [T_shiftDepths_L3]
    by_cases e : j = b
    · subst e
      refine ⟨t, by rw [if_pos (Int32.le_refl _)], h.1, h.2.congr fun i hi => ?_⟩
      rw [dxN, if_neg (by omega)]
    · have hj : j < b := by omega
      rw [if_neg (by rw [p_le (by omega) (by omega)]; omega), R_at_in h.2 hn (by omega) (show j < n by omega), p_bs]
      show ∃ t', ((R_put 40 t.2 (nI j) (nI (D j) + -nI 1)).bind _) = some t' ∧ _
      rw [R_put_in h.2 hn (by omega) (show j < n by omega), p_bs, p_1, p_add, pr_nI]
      obtain ⟨t', g1, g2⟩ := ih (j + 1) (t.1, (t.2.1, upd t.2.2 j (nI (prN (D j))))) (setN j (prN (D j)) D) ⟨h.1, (R_put_rep h.2 (show j < n by omega) _).congr fun i _ => set_nR j (prN (D j)) D i⟩ (by omega) (by omega)
      refine ⟨t', g1, g2.1, g2.2.congr fun i hi => ?_⟩
      congr 1
      rw [dxN, dxN, setN]
      by_cases c : i = j
      · subst c
        rw [if_neg (by omega), if_pos rfl, if_pos (by omega)]
      · rw [if_neg c]
        by_cases c2 : j ≤ i ∧ i < b
        · rw [if_pos c2, if_pos (by omega)]
        · rw [if_neg c2, if_neg (by omega)]
theorem cnt_pos {D : Nat → Nat} {c : Nat} : ∀ k j i, i < k → D (j + i) = c → 1 ≤ cntN D c k j := by
  intro k
  induction k with
  | zero => intro j i h; omega
  | succ k ih =>
    intro j i h e
    rw [cntN]
    by_cases z : i = 0
    · subst z
      rw [Nat.add_zero] at e
      rw [if_pos e]; omega
    · have := ih (j + 1) (i - 1) (by omega) (by rw [← e]; congr 1; omega)
      omega
/-- the node at the place taken away, its children in its place -/
theorem lift_now {t : Nat} {s : ST} {f : Arr} {w : Arr × Arr × Int32 × Arr × Arr × Int32 × Int32 × Int32 × Int32 × Arr × Arr} (ht : t < 512) {n p wn cn nx : Nat} {L D K W CL CD : Nat → Nat} {a b : Nat → Int32} (hC : CRep s n L D K p wn W cn CL CD nx a) (hF : FRep f n L D K p wn W cn CL CD nx b) (hG : Good (1 + 40 * t) n L D K p wn W cn CL CD nx a b) (hc : p + 1 < endN n D p) (hW : WF (n - 1) (liftN p (endN n D p) D)) :
    ∃ (t1 : TR) (s' : ST) (f1 f2 f3 : Arr), T_shiftDepths s.1 (nI p) (nI (endN n D p)) (-nI 1) = some t1 ∧ S_takeNodesOut (t1, s.2) (nI p) (nI (p + 1)) = some s' ∧ M_own (f, w) (nI (p + 1)) = some (nI (K (p + 1))) ∧ M_end (upd f 2 (nI (K (p + 1))), w) (nI p) = some (nI (endN n D p)) ∧ M_sinks (upd f 2 (nI (K (p + 1))), w) (nI (p + 1)) (nI (endN n D p)) (-nI 1) = some (f1, w) ∧ M_closes (f1, w) (nI p) (nI 1) = some (f2, w) ∧ M_forgets (f2, w) = some (f3, w) ∧ NowR (1 + 40 * t) s' f3 := by
  have hn := hG.1.1.2.1
  have hp := hG.2.2.2.1
  have hS := hG.1.1
  have hDD := hS.2.2.2.2
  have hw := hG.2.2.2.2.1
  have hB := hG.2.2.2.2.2.2.2.2
  have hle := endN_le (D := D) hp
  have hE := endN_is (D := D) hp
  obtain ⟨t1, g1, g2⟩ := T_shiftDx_loop (L := L) hn hle 1000 p s.1 D hC.1 (by omega) (by omega)
  obtain ⟨s', q1, q2⟩ := S_takeNodesOut_ok (s := (t1, s.2)) (D := dxN p (endN n D p) D) ⟨g2, hC.2⟩ hn (show p ≤ p + 1 by omega) (show p + 1 ≤ n by omega)
  have hu : MRep (upd f 2 (nI (K (p + 1)))) n L D K := hF.1.upd_lo (by omega) (by omega) _
  obtain ⟨f1, d1, d2, d3⟩ := M_dn_ok (m := (upd f 2 (nI (K (p + 1))), w)) hu hn (show p + 1 ≤ endN n D p by omega) hle (fun i j1 j2 => by have := hE.2.2.1 i j1 j2; omega)
  obtain ⟨f2, c1, c2, c3⟩ := M_del_ok (m := (f1, w)) d2 hn (show p + 1 ≤ n by omega)
  have c3' : ∀ j, 1 ≤ j → (j < 18 ∨ 138 ≤ j) → j ≠ 2 → f2 j = f j := fun j j1 j2 j3 => ((c3 j j1 j2).trans (d3 j j2)).trans (p_upd_ne j3)
  have f22 : f2 2 = nI (K (p + 1)) := ((c3 2 (by omega) (by omega)).trans (d3 2 (by omega))).trans (p_upd_same f 2 (nI (K (p + 1))))
  have hK' := Ky_del hG.2.2.1 (a := p) (c := 1) (by omega)
  have hM' := Mk_del hG.2.2.2.2.2.2.1 (a := p) (c := 1) (by omega)
  have hF' : FRep f2 (n - 1) (delN p 1 L) (liftN p (endN n D p) D) (delN p 1 K) p wn W cn CL CD nx b :=
    ⟨c2, (c3' 1 (by omega) (by omega) (by omega)).trans hF.2.1, by rw [delN, if_neg (by omega)]; exact f22, ⟨(c3' 3 (by omega) (by omega) (by omega)).trans hF.2.2.2.1.1, fun k hk => (c3' (9 + k) (by omega) (by omega) (by omega)).trans (hF.2.2.2.1.2 k hk)⟩, (c3' 4 (by omega) (by omega) (by omega)).trans hF.2.2.2.2.1, fun k hk => (c3' (5 + k) (by omega) (by omega) (by omega)).trans (hF.2.2.2.2.2.1 k hk), fun i hi => ⟨(c3' (138 + 2 * i) (by omega) (by omega) (by omega)).trans (hF.2.2.2.2.2.2 i hi).1, (c3' (138 + 2 * i + 1) (by omega) (by omega) (by omega)).trans (hF.2.2.2.2.2.2 i hi).2⟩⟩
  obtain ⟨f3, b3, r1, r2, r3⟩ := forget_now (w := w) hF' (by omega) hw hK' (by omega) hM'
  have n1 : n - (p + 1 - p) = n - 1 := by omega
  have n2 : p + 1 - p = 1 := by omega
  rw [n1, n2] at q2
  refine ⟨t1, s', f1, f2, f3, g1, q1, M_own_in (m := (f, w)) hF.1 hn (by omega), M_end_ok (m := (upd f 2 (nI (K (p + 1))), w)) hu hn hDD hp, d1, c1, r1, n - 1, delN p 1 L, liftN p (endN n D p) D, delN p 1 K, p, wn, W, cn, CL, CD, nx, a, b3, ⟨⟨q2.1.1, q2.1.2.congr fun i hi => ?_⟩, q2.2⟩, r2, hW, fun i hi => ?_, hK', by omega, hw, hG.2.2.2.2.2.1, r3, hG.2.2.2.2.2.2.2.1, hB⟩
  · congr 1
    rw [liftN, delN, delN]
    by_cases y : i < p
    · rw [if_pos y, if_pos y, dxN, if_neg (by omega), dnN, if_neg (by omega)]
    · rw [if_neg y, if_neg y, dxN, dnN]
      by_cases y2 : i + 1 < endN n D p
      · have := hE.2.2.1 (i + 1) (by omega) y2
        rw [if_pos (by omega), if_pos (by omega), prN, if_neg (by omega)]
      · rw [if_neg (by omega), if_neg (by omega)]
  · rw [del_id]; exact hG.2.1 _ (by have := del_val (a := p) (c := 1) i; omega)
theorem sm_lift_ok : sm_lift SimR := by
  intro t x m ht h
  obtain ⟨n, L, D, K, p, wn, W, cn, CL, CD, nx, a, b, hC, hF, hG⟩ := h.2.1
  obtain ⟨b', e1, e2⟩ := M_begins_ok m
  have hn := hG.1.1.2.1
  have hp := hG.2.2.2.1
  have hS := hG.1.1
  have hDD := hS.2.2.2.2
  have hD := hDD p hp
  have hplc := hC.2.2.2.2.2.1
  have hle := endN_le (D := D) hp
  have hgt := endN_gt (D := D) hp
  have hch := lim_at hG.1.2 hp
  have hpl : M_place (m.1, b', m.2.2) = some (nI p) := M_place_now (m := (m.1, b', m.2.2)) ht hF hG
  have mch : M_children (m.1, b', m.2.2) (nI p) = some (nI (chN n D p)) := M_children_ok (m := (m.1, b', m.2.2)) hF.1 hn hDD hp
  have pch : T_childrenOf x.1.1 (nI p) = some (nI (chN n D p)) := T_childrenOf_ok hC.1 hn hDD hp
  obtain ⟨h', k1, k2⟩ := sim_rec ht h
  /- the part that does it -/
  have doit : (chN n D p = 0 → 0 < p) → (chN n D p ≠ 0 → WF (n - 1) (liftN p (endN n D p) D)) → ∃ (r : Int32) (x' : TP) (m' : MD), P_lift_J77 x (nI (chN n D p)) = some (r, x') ∧ M_lift_J54 (m.1, b', m.2.2) (nI p) (nI (chN n D p)) = some (r, m') ∧ SimR (t + 1) x' m' := by
    intro c0 c1
    by_cases z : chN n D p = 0
    · obtain ⟨s', f', f'', g1, g2, g3, g4⟩ := out_now (w := (b', m.2.2)) ht hC hF hG (c0 z)
      obtain ⟨m', q1, q2⟩ := k2 b' f'' m.2.2.2.2 s' x.2.2.2 0 e2 rfl rfl (g4.mono (by omega) (fun j _ => rfl)) (by omega)
      refine ⟨nI 0, _, m', ?_, ?_, q2⟩
      · rw [P_lift_J77, k1, p_bs, z, if_pos p_0.symm, g1, p_bs]
      · rw [M_lift_J54, z, if_pos p_0.symm, g2, p_bs, M_lift_J99]
        show (M_forgets (f', b', m.2.2)).bind _ = _
        rw [g3, p_bs]
        show (M_acted (f'', b', m.2.2) (nI 0)).bind _ = _
        rw [q1, p_bs]
    · have hz : ¬ nI (chN n D p) = 0 := by rw [p_0, p_eq (by omega) (by omega)]; exact z
      have hc : p + 1 < endN n D p := by
        apply Nat.lt_of_not_le
        intro y
        apply z
        rw [chN, show endN n D p - (p + 1) = 0 by omega, cntN]
      obtain ⟨t1, s', f1, f2, f3, g1, g2, g3, g4, g5, g6, g7, g8⟩ := lift_now (w := (b', m.2.2)) ht hC hF hG hc (c1 z)
      obtain ⟨m', q1, q2⟩ := k2 b' f3 m.2.2.2.2 s' x.2.2.2 (chN n D p) e2 rfl rfl (g8.mono (by omega) (fun j _ => rfl)) (by omega)
      refine ⟨nI (chN n D p), _, m', ?_, ?_, q2⟩
      · rw [P_lift_J77, k1, p_bs, if_neg hz]
        show ((T_endOf x.1.1 x.1.2.2.2.2.2.1).bind fun v131 => (T_shiftDepths x.1.1 x.1.2.2.2.2.2.1 v131 (-1)).bind fun v135 => (S_takeNodesOut (v135, x.1.2) x.1.2.2.2.2.2.1 (x.1.2.2.2.2.2.1 + 1)).bind fun v158 => some (nI (chN n D p), (v158, h', x.2.2.1, x.2.2.2))) = _
        rw [hplc, T_endOf_ok hC.1 hn hDD hp, p_bs, p_1, g1, p_bs, p_add, g2, p_bs]
      · rw [M_lift_J54, if_neg hz, p_1, p_add, g3, p_bs, p_bs, p_2, p_ix (by omega)]
        show ((M_end (upd m.1 2 (nI (K (p + 1))), b', m.2.2) (nI p)).bind fun v86 => (M_sinks (upd m.1 2 (nI (K (p + 1))), b', m.2.2) (nI (p + 1)) v86 (-nI 1)).bind fun v90 => (M_closes v90 (nI p) (nI 1)).bind fun v96 => M_lift_J99 v96 (nI (chN n D p))) = _
        rw [g4, p_bs, g5, p_bs, g6, p_bs, M_lift_J99, g7, p_bs]
        show (M_acted (f3, b', m.2.2) (nI (chN n D p))).bind _ = _
        rw [q1, p_bs]
  by_cases h0 : p = 0
  · have pa : T_above x.1.1 (nI p) = some (-nI 1) := by rw [h0]; exact T_above_top hC.1 hS
    have ma : M_above (m.1, b', m.2.2) (nI p) = some (-nI 1) := by rw [h0]; exact M_above_top
    by_cases z : chN n D p = 1
    · obtain ⟨r, x', m', g1, g2, g3⟩ := doit (fun y => by omega) (fun _ => by
        rw [h0] at z ⊢
        rw [endN_top hS]
        exact WF_lift0 hG.1 z)
      refine ⟨r, x', m', ?_, ?_, g3⟩
      · rw [P_lift, hplc, pa, p_bs, pch, p_bs, p_1, if_pos rfl, if_pos (by rw [z]), P_lift_J49, p_1, if_pos rfl]; exact g1
      · rw [M_lift, e1, p_bs, hpl, p_bs, mch, p_bs, ma, p_bs, p_0, p_1, if_neg p_n0le, if_pos (by rw [z]), M_lift_J33, p_0, if_pos (by decide)]; exact g2
    · have nz : ¬ nI (chN n D p) = nI 1 := by rw [p_eq (by omega) (by omega)]; exact z
      refine ⟨-2, x, _, ?_, ?_, sim_err ht h b'⟩
      · rw [P_lift, hplc, pa, p_bs, pch, p_bs, p_1, if_pos rfl, if_neg nz]
      · rw [M_lift, e1, p_bs, hpl, p_bs, mch, p_bs, ma, p_bs, p_0, p_1, if_neg p_n0le, if_neg nz]
  · have h0' : 0 < p := by omega
    have hb := abN_is hS h0' hp
    have hab : abN D p < n := by omega
    have hca := lim_at hG.1.2 hab
    have pa : T_above x.1.1 (nI p) = some (nI (abN D p)) := T_above_ok hC.1 hS h0' hp
    have ma : M_above (m.1, b', m.2.2) (nI p) = some (nI (abN D p)) := M_above_ok (m := (m.1, b', m.2.2)) hF.1 hS h0' hp
    have mca : M_children (m.1, b', m.2.2) (nI (abN D p)) = some (nI (chN n D (abN D p))) := M_children_ok (m := (m.1, b', m.2.2)) hF.1 hn hDD hab
    have pca : T_childrenOf x.1.1 (nI (abN D p)) = some (nI (chN n D (abN D p))) := T_childrenOf_ok hC.1 hn hDD hab
    have hpos : 1 ≤ chN n D (abN D p) := by
      have hu := end_up hS h0' hp
      rw [chN]
      exact cnt_pos _ _ (p - (abN D p + 1)) (by omega) (by rw [show abN D p + 1 + (p - (abN D p + 1)) = p by omega]; omega)
    have n1 : ¬ nI (abN D p) = -nI 1 := p_nm1 (by omega)
    have n2 : ¬ nI (abN D p) < nI 0 := by rw [p_lt (by omega) (by omega)]; omega
    by_cases z : chN n D (abN D p) - 1 + chN n D p ≤ 6
    · have hz : nI (chN n D (abN D p)) - nI 1 + nI (chN n D p) ≤ nI 6 := by rw [p_sub hpos, p_add, p_le (by omega) (by omega)]; exact z
      obtain ⟨r, x', m', g1, g2, g3⟩ := doit (fun _ => h0') (fun y => by
        refine WF_lift hG.1 h0' hp ?_ (fun q q1 q2 q3 => ?_)
        · apply Nat.lt_of_not_le
          intro y2
          apply y
          rw [chN, show endN n D p - (p + 1) = 0 by omega, cntN]
        · have := par_uniq q1 hb.1 (show D q + 1 = D p by omega) hb.2.1 (fun j j1 j2 => by have := q3 j j1 j2; omega) (fun j j1 j2 => by have := hb.2.2 j j1 (by omega); omega)
          rw [this]; omega)
      refine ⟨r, x', m', ?_, ?_, g3⟩
      · rw [P_lift, hplc, pa, p_bs, pch, p_bs, p_1, if_neg n1, P_lift_J49, p_1, if_neg n1, pca, p_bs, p_6, if_pos hz]; exact g1
      · rw [M_lift, e1, p_bs, hpl, p_bs, mch, p_bs, ma, p_bs, p_0, if_pos (p_0le (by omega)), M_lift_J33, p_0, if_neg n2, mca, p_bs, p_6, p_1, if_pos hz]; exact g2
    · have hz : ¬ nI (chN n D (abN D p)) - nI 1 + nI (chN n D p) ≤ nI 6 := by rw [p_sub hpos, p_add, p_le (by omega) (by omega)]; exact z
      refine ⟨-3, x, _, ?_, ?_, sim_err ht h b'⟩
      · rw [P_lift, hplc, pa, p_bs, pch, p_bs, p_1, if_neg n1, P_lift_J49, p_1, if_neg n1, pca, p_bs, p_6, if_neg hz]
      · rw [M_lift, e1, p_bs, hpl, p_bs, mch, p_bs, ma, p_bs, p_0, if_pos (p_0le (by omega)), M_lift_J33, p_0, if_neg n2, mca, p_bs, p_6, p_1, if_neg hz]
