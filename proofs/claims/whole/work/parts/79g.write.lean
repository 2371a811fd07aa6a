/-! write -/
abbrev MW5 : Type := Int32 × Int32 × Int32 × Arr × Arr
theorem txt_add {r : RW} {mt : Arr} {l v : Nat} (h : TxtR r mt l) (hl : l < 120) (h1 : 32 ≤ v) (h2 : v ≤ 126) : ∃ r', R_add 120 r (nI v) = some r' ∧ TxtR r' (upd mt l (nI v)) (l + 1) := by
  obtain ⟨c, hc1, hc2, hc3, hc4⟩ := h
  obtain ⟨r', g1, g2⟩ := R_add_ok (cap := 120) hc2 (nI v) hl (by omega)
  refine ⟨r', g1, insN l v c, by omega, g2.congr fun i _ => ins_nR l v c i, fun i hi => ?_, fun i hi => ?_⟩
  · rw [insN]
    by_cases y : i < l
    · rw [p_upd_ne (by omega), if_pos y]; exact hc3 i y
    · have : i = l := by omega
      subst this
      rw [p_upd_same, if_neg y, if_pos rfl]
  · rw [insN]
    by_cases y : i < l
    · rw [if_pos y]; exact hc4 i y
    · rw [if_neg y, if_pos (by omega)]; omega
theorem M_puts_ok {l : Nat} (hl : l < 120) (a b c : Arr) (z : Int32) (s4 mt : Arr) (w : MW5) (v : Int32) : M_puts (a, b, c, z, s4, mt, nI l, w) v = some (a, b, c, z, s4, upd mt l v, nI (l + 1), w) := by
  rw [M_puts]
  show (if nI l < 0 ∨ 120 ≤ ix (nI l) then none else (some (upd mt (ix (nI l)) v)).bind fun u9 => some (a, b, c, z, s4, u9, (nI l + 1), w)) = _
  rw [p_0, p_ix (by omega), if_neg (by rw [p_lt (by omega) (by omega)]; omega), p_bs, p_1, p_add]
theorem close_loop (a b c : Arr) (z : Int32) (s4 : Arr) (w : MW5) (x1 : Int32) {kk nx : Nat} (hkk : kk ≤ 10) (hnx : nx ≤ 10) : ∀ q fu fu' l (r : RW) (mt : Arr), q ≤ kk → q < fu → q < fu' → l + q ≤ 120 → TxtR r mt l →
    ∃ r' mt', T_appendClosings_L2 fu 120 r (nI kk) (nI (kk - q)) = some r' ∧ M_write_L59 fu' (a, b, c, z, s4, mt, nI l, w) x1 (nI nx) (nI (nx + q)) = some ((a, b, c, z, s4, mt', nI (l + q), w), x1, nI nx) ∧ TxtR r' mt' (l + q) := by
  intro q
  induction q with
  | zero =>
    intro fu fu' l r mt h1 h2 h3 h4 h
    obtain ⟨fu, rfl⟩ : ∃ k, fu = k + 1 := ⟨fu - 1, by omega⟩
    obtain ⟨fu', rfl⟩ : ∃ k, fu' = k + 1 := ⟨fu' - 1, by omega⟩
    exact ⟨r, mt, by rw [T_appendClosings_L2, Nat.sub_zero, if_pos (Int32.le_refl _)], by rw [M_write_L59, Nat.add_zero, Nat.add_zero, if_pos (Int32.le_refl _)], h⟩
  | succ q ih =>
    intro fu fu' l r mt h1 h2 h3 h4 h
    obtain ⟨fu, rfl⟩ : ∃ k, fu = k + 1 := ⟨fu - 1, by omega⟩
    obtain ⟨fu', rfl⟩ : ∃ k, fu' = k + 1 := ⟨fu' - 1, by omega⟩
    obtain ⟨r1, g1, g2⟩ := txt_add (v := 41) h (by omega) (by omega) (by omega)
    obtain ⟨r', mt', f1, f2, f3⟩ := ih fu fu' (l + 1) r1 _ (by omega) (by omega) (by omega) (by omega) g2
    rw [show l + 1 + q = l + (q + 1) by omega] at f2 f3
    refine ⟨r', mt', ?_, ?_, f3⟩
    · rw [T_appendClosings_L2, if_neg (by rw [p_le (by omega) (by omega)]; omega), p_41, g1, p_bs, p_1, p_add, show kk - (q + 1) + 1 = kk - q by omega]
      exact f1
    · rw [M_write_L59, if_neg (by rw [p_le (by omega) (by omega)]; omega), p_41, M_puts_ok (by omega), p_bs, p_1, p_dec (by omega), show nx + (q + 1) - 1 = nx + q by omega]
      exact f2
/-- the rest of a round of the reference's loop, behind the letter -/
def wmid (fu : Nat) (v26 : MD) (x1 : Int32) : Option (Int32 × MD) := if (v26.1 (ix 0)) ≤ (x1 + 1) then (M_deep v26 x1).bind fun v55 => (M_write_L59 1000 v26 x1 0 v55).bind fun e59 => (M_deep e59.1 e59.2.1).bind fun v79 => if e59.2.2 ≤ v79 then if (e59.1.1 (ix 0)) ≤ (e59.2.1 + 1) then M_write_L7 fu e59.1 (e59.2.1 + 1)
    else (M_puts e59.1 44).bind fun v109 => M_write_L7 fu v109 (e59.2.1 + 1)
    else (M_puts e59.1 40).bind fun v88 => M_write_L7 fu v88 (e59.2.1 + 1)
    else (M_deep v26 (x1 + 1)).bind fun v45 => (M_deep v26 x1).bind fun v55 => (M_write_L59 1000 v26 x1 v45 v55).bind fun e59 => (M_deep e59.1 e59.2.1).bind fun v79 => if e59.2.2 ≤ v79 then if (e59.1.1 (ix 0)) ≤ (e59.2.1 + 1) then M_write_L7 fu e59.1 (e59.2.1 + 1)
    else (M_puts e59.1 44).bind fun v109 => M_write_L7 fu v109 (e59.2.1 + 1)
    else (M_puts e59.1 40).bind fun v88 => M_write_L7 fu v88 (e59.2.1 + 1)
theorem L7_step (fu : Nat) (m : MD) (x1 : Int32) : M_write_L7 (fu + 1) m x1 = if (m.1 (ix 0)) ≤ x1 then some (m.2.2.2.2.2.2.1, m) else (M_sign m x1).bind fun v22 => (M_puts m (97 + v22)).bind fun v26 => wmid fu v26 x1 := by
  rw [M_write_L7]
  rfl
theorem write_loop {t : TR} {n : Nat} {L D K : Nat → Nat} (hT : TRep t n L D) (hS : Sh n D) (hL : ∀ i, i < n → L i ≤ 25) (a b c : Arr) (hM : MRep a n L D K) (z : Int32) (s4 : Arr) (w : MW5) : ∀ q i fu fu' l (r : RW) (mt : Arr), i + 1 + q = n → q < fu → q < fu' → l + D i ≤ 3 * i + 1 → TxtR r mt l →
    ∃ (r' : RW) (mt' : Arr) (l' : Nat), T_appendTo_L4 fu t 120 r (nI (D i)) (nI (i + 1)) = some r' ∧ wmid fu' (a, b, c, z, s4, mt, nI l, w) (nI i) = some (nI l', (a, b, c, z, s4, mt', nI l', w)) ∧ TxtR r' mt' l' := by
  have hn := hS.2.1
  have a0 : a (ix 0) = nI n := hM.1
  have dp : ∀ (mt : Arr) (l : Int32) (i : Nat), i < n → M_deep (a, b, c, z, s4, mt, l, w) (nI i) = some (nI (D i)) := fun mt l i hi => M_deep_in (m := (a, b, c, z, s4, mt, l, w)) hM hn hi
  have sg : ∀ (mt : Arr) (l : Int32) (i : Nat), i < n → M_sign (a, b, c, z, s4, mt, l, w) (nI i) = some (nI (L i)) := fun mt l i hi => M_sign_in (m := (a, b, c, z, s4, mt, l, w)) hM hn hi
  intro q
  induction q with
  | zero =>
    intro i fu fu' l r mt hi h1 h2 h3 h
    obtain ⟨fu, rfl⟩ : ∃ k, fu = k + 1 := ⟨fu - 1, by omega⟩
    obtain ⟨fu', rfl⟩ : ∃ k, fu' = k + 1 := ⟨fu' - 1, by omega⟩
    have hD := hS.2.2.2.2 i (by omega)
    obtain ⟨r', mt', g1, g2, g3⟩ := close_loop a b c z s4 w (nI i) (kk := D i) (nx := 0) (by omega) (by omega) (D i) 1000 1000 l r mt (Nat.le_refl _) (by omega) (by omega) (by omega) h
    rw [Nat.sub_self] at g1
    rw [Nat.zero_add] at g2
    have ni : nI n ≤ nI (i + 1) := by rw [p_le (by omega) (by omega)]; omega
    refine ⟨r', mt', l + D i, ?_, ?_, g3⟩
    · rw [T_appendTo_L4, T_size_ok hT, p_bs, if_pos ni, T_appendClosings, p_0, g1, p_bs]
    · rw [wmid]
      show (if a (ix 0) ≤ nI i + 1 then _ else _) = _
      rw [a0, p_1, p_add, if_pos ni, dp mt _ i (by omega), p_bs, p_0, g2, p_bs]
      show ((M_deep (a, b, c, z, s4, mt', nI (l + D i), w) (nI i)).bind fun v79 => if nI 0 ≤ v79 then if a (ix 0) ≤ nI i + nI 1 then M_write_L7 (fu' + 1) (a, b, c, z, s4, mt', nI (l + D i), w) (nI i + nI 1) else _ else _) = _
      rw [dp mt' _ i (by omega), p_bs, if_pos (p_0le (by omega)), a0, p_add, if_pos ni, L7_step]
      show (if a (ix 0) ≤ nI (i + 1) then _ else _) = _
      rw [a0, if_pos ni]
  | succ q ih =>
    intro i fu fu' l r mt hi h1 h2 h3 h
    obtain ⟨fu, rfl⟩ : ∃ k, fu = k + 1 := ⟨fu - 1, by omega⟩
    obtain ⟨fu', rfl⟩ : ∃ k, fu' = k + 1 := ⟨fu' - 1, by omega⟩
    have hD := hS.2.2.2.2 i (by omega)
    have hD1 := hS.2.2.2.2 (i + 1) (by omega)
    have hst := (hS.2.2.2.1 (i + 1) (by omega) (by omega)).2
    rw [Nat.add_sub_cancel] at hst
    have hl1 := hL (i + 1) (by omega)
    have ni : ¬ nI n ≤ nI (i + 1) := by rw [p_le (by omega) (by omega)]; omega
    -- the letter, in both, behind the same sign
    have letter : ∀ (l1 : Nat) (r1 : RW) (mt1 : Arr), TxtR r1 mt1 l1 → l1 < 119 → l1 + 1 + D (i + 1) ≤ 3 * (i + 1) + 1 → ∃ (r' : RW) (mt' : Arr) (l' : Nat), T_appendTo_J51 (fun q0 q1 q2 q3 q4 => T_appendTo_L4 fu q0 q1 q2 q3 q4) t 120 r1 (nI (i + 1)) = some r' ∧ M_write_L7 (fu' + 1) (a, b, c, z, s4, mt1, nI l1, w) (nI (i + 1)) = some (nI l', (a, b, c, z, s4, mt', nI l', w)) ∧ TxtR r' mt' l' := by
      intro l1 r1 mt1 q1 q2 q3
      obtain ⟨r2, u1, u2⟩ := txt_add (v := 97 + L (i + 1)) q1 (by omega) (by omega) (by omega)
      obtain ⟨r', mt', l', v1, v2, v3⟩ := ih (i + 1) fu fu' (l1 + 1) r2 _ (by omega) (by omega) (by omega) q3 u2
      refine ⟨r', mt', l', ?_, ?_, v3⟩
      · rw [T_appendTo_J51, T_depthOf_in hT hn (by omega), p_bs, T_letterOf_in hT hn (by omega), p_bs, p_97, p_add, u1, p_bs, p_1, p_add]
        exact v1
      · rw [L7_step]
        show (if a (ix 0) ≤ nI (i + 1) then _ else _) = _
        rw [a0, if_neg ni, sg mt1 _ (i + 1) (by omega), p_bs, p_97, p_add, M_puts_ok (by omega), p_bs]
        exact v2
    by_cases c1 : D (i + 1) ≤ D i
    · obtain ⟨r1, mt1, g1, g2, g3⟩ := close_loop a b c z s4 w (nI i) (kk := D i - D (i + 1)) (nx := D (i + 1)) (by omega) (by omega) (D i - D (i + 1)) 1000 1000 l r mt (Nat.le_refl _) (by omega) (by omega) (by omega) h
      rw [Nat.sub_self] at g1
      rw [show D (i + 1) + (D i - D (i + 1)) = D i by omega] at g2
      obtain ⟨r2, u1, u2⟩ := txt_add (v := 44) g3 (by omega) (by omega) (by omega)
      obtain ⟨r', mt', l', v1, v2, v3⟩ := letter _ r2 _ u2 (by omega) (by omega)
      refine ⟨r', mt', l', ?_, ?_, v3⟩
      · rw [T_appendTo_L4, T_size_ok hT, p_bs, if_neg ni, T_depthOf_in hT hn (by omega), p_bs, if_pos (by rw [p_le (by omega) (by omega)]; exact c1), p_0, if_neg (by rw [p_le (by omega) (by omega)]; omega), p_bs, p_sub c1, T_appendClosings, p_0, g1, p_bs, p_44, u1, p_bs]
        exact v1
      · rw [wmid]
        show (if a (ix 0) ≤ nI i + 1 then _ else _) = _
        rw [a0, p_1, p_add, if_neg ni, dp mt _ (i + 1) (by omega), p_bs, dp mt _ i (by omega), p_bs, g2, p_bs]
        show ((M_deep (a, b, c, z, s4, mt1, nI (l + (D i - D (i + 1))), w) (nI i)).bind fun v79 => if nI (D (i + 1)) ≤ v79 then if a (ix 0) ≤ nI i + nI 1 then _ else (M_puts (a, b, c, z, s4, mt1, nI (l + (D i - D (i + 1))), w) 44).bind fun v109 => M_write_L7 (fu' + 1) v109 (nI i + nI 1) else _) = _
        rw [dp mt1 _ i (by omega), p_bs, if_pos (by rw [p_le (by omega) (by omega)]; exact c1), a0, p_add, if_neg ni, p_44, M_puts_ok (by omega), p_bs]
        exact v2
    · have hd1 : D (i + 1) = D i + 1 := by omega
      obtain ⟨r2, u1, u2⟩ := txt_add (v := 40) h (by omega) (by omega) (by omega)
      obtain ⟨r', mt', l', v1, v2, v3⟩ := letter _ r2 _ u2 (by omega) (by omega)
      refine ⟨r', mt', l', ?_, ?_, v3⟩
      · rw [T_appendTo_L4, T_size_ok hT, p_bs, if_neg ni, T_depthOf_in hT hn (by omega), p_bs, if_neg (by rw [p_le (by omega) (by omega)]; exact c1), p_40, u1, p_bs]
        exact v1
      · have st : M_write_L59 1000 (a, b, c, z, s4, mt, nI l, w) (nI i) (nI (D (i + 1))) (nI (D i)) = some ((a, b, c, z, s4, mt, nI l, w), nI i, nI (D (i + 1))) := by
          rw [show (1000 : Nat) = 999 + 1 from rfl, M_write_L59, if_pos (by rw [p_le (by omega) (by omega)]; omega)]
        rw [wmid]
        show (if a (ix 0) ≤ nI i + 1 then _ else _) = _
        rw [a0, p_1, p_add, if_neg ni, dp mt _ (i + 1) (by omega), p_bs, dp mt _ i (by omega), p_bs, st, p_bs]
        show ((M_deep (a, b, c, z, s4, mt, nI l, w) (nI i)).bind fun v79 => if nI (D (i + 1)) ≤ v79 then _ else (M_puts (a, b, c, z, s4, mt, nI l, w) 40).bind fun v88 => M_write_L7 (fu' + 1) v88 (nI i + nI 1)) = _
        rw [dp mt _ i (by omega), p_bs, if_neg (by rw [p_le (by omega) (by omega)]; exact c1), p_40, p_add, M_puts_ok (by omega), p_bs]
        exact v2
theorem sm_write_ok : sm_write SimR := by
  intro t x m ht h
  obtain ⟨l, hl, c, hc1, hc2, hc3, hc4⟩ := h.2.2.2
  obtain ⟨n, L, D, K, p, wn, W, cn, CL, CD, nx, a, b, hC, hF, hG⟩ := h.2.1
  have hn := hG.1.1.2.1
  have hn1 := hG.1.1.1
  have hS := hG.1.1
  have hL0 := hG.2.1 0 (by omega)
  obtain ⟨r0, g1, g2⟩ := R_clear_ok 120 x.2.2.1 (nR c)
  have T0 : TxtR r0 m.2.2.2.2.2.1 0 := ⟨c, by omega, g2, fun i hi => by omega, fun i hi => by omega⟩
  obtain ⟨r1, u1, u2⟩ := txt_add (v := 97 + L 0) T0 (by omega) (by omega) (by omega)
  obtain ⟨r', mt', l', v1, v2, v3⟩ := write_loop hC.1 hS hG.2.1 m.1 m.2.1 m.2.2.1 hF.1 m.2.2.2.1 m.2.2.2.2.1 m.2.2.2.2.2.2.2 (n - 1) 0 999 999 (0 + 1) r1 _ (by omega) (by omega) (by omega) (by rw [hS.2.2.1]; omega) u2
  have n0 : ¬ nI n ≤ nI 0 := by rw [p_le (by omega) (by omega)]; omega
  have hr : R_size 120 r' = some (nI l') := by obtain ⟨c', _, q, _⟩ := v3; exact R_size_ok 120 q
  refine ⟨nI l', _, _, ?_, ?_, sim_text ht h r' m.2.2.2.2.1 mt' l' m.2.2.2.2.2.2.2 x.2.2.2 v3⟩
  · have e : T_appendTo x.1.1 120 r0 = some r' := by
      rw [T_appendTo, show (1000 : Nat) = 999 + 1 from rfl, T_appendTo_L4, T_size_ok hC.1, p_bs, p_0, if_neg n0, T_depthOf_in hC.1 hn (by omega), p_bs, hS.2.2.1, if_pos (Int32.le_refl _), if_pos (Int32.le_refl _), T_appendTo_J51, T_depthOf_in hC.1 hn (by omega), p_bs, T_letterOf_in hC.1 hn (by omega), p_bs, p_97, p_add, u1, p_bs, p_1, p_add]
      exact v1
    rw [P_write, g1, p_bs, e, p_bs, hr, p_bs]
  · rw [M_write, show (1000 : Nat) = 999 + 1 from rfl, L7_step]
    show (if m.1 (ix 0) ≤ 0 then _ else (M_sign (m.1, m.2.1, m.2.2.1, m.2.2.2.1, m.2.2.2.2.1, m.2.2.2.2.2.1, 0, m.2.2.2.2.2.2.2) 0).bind fun v22 => (M_puts (m.1, m.2.1, m.2.2.1, m.2.2.2.1, m.2.2.2.2.1, m.2.2.2.2.2.1, 0, m.2.2.2.2.2.2.2) (97 + v22)).bind fun v26 => wmid 999 v26 0) = _
    rw [show m.1 (ix 0) = nI n from hF.1.1, p_0, if_neg n0, M_sign_in (m := (m.1, m.2.1, m.2.2.1, m.2.2.2.1, m.2.2.2.2.1, m.2.2.2.2.2.1, nI 0, m.2.2.2.2.2.2.2)) hF.1 hn (show 0 < n by omega), p_bs, p_97, p_add, M_puts_ok (by omega), p_bs]
    exact v2
