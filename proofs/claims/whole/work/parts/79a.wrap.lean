/-! wrap, exchange -/
theorem p_min {a b : Nat} (ha : a < 2147483648) (hb : b < 2147483648) : imin (nI a) (nI b) = nI (min a b) := by
  show (if nI b < nI a then nI b else nI a) = _
  by_cases e : b < a
  · rw [if_pos (by rw [p_lt hb ha]; exact e), Nat.min_eq_right (Nat.le_of_lt e)]
  · rw [if_neg (by rw [p_lt hb ha]; exact e), Nat.min_eq_left (Nat.le_of_not_lt e)]
/-- as fr_put, the place set anew -/
theorem fr_put2 {f f' : Arr} {n n' p p' wn cn nx nx' : Nat} {L D K W CL CD L' D' K' : Nat → Nat} {b : Nat → Int32} (hF : FRep f n L D K p wn W cn CL CD nx b) (hw : wn ≤ 8) (f2 : MRep f' n' L' D' K') (f3 : f' 1 = nI nx') (f4 : ∀ j, 2 ≤ j → (j < 18 ∨ 138 ≤ j) → f' j = f j) : FRep (upd f' 2 (nI (K' p'))) n' L' D' K' p' wn W cn CL CD nx' b :=
  ⟨f2.upd_lo (by omega) (by omega) _, by rw [p_upd_ne (by omega)]; exact f3, by rw [p_upd_same], ⟨by rw [p_upd_ne (by omega), f4 3 (by omega) (by omega)]; exact hF.2.2.2.1.1, fun k hk => by rw [p_upd_ne (by omega), f4 (9 + k) (by omega) (by omega)]; exact hF.2.2.2.1.2 k hk⟩, by rw [p_upd_ne (by omega), f4 4 (by omega) (by omega)]; exact hF.2.2.2.2.1, fun k hk => by rw [p_upd_ne (by omega), f4 (5 + k) (by omega) (by omega)]; exact hF.2.2.2.2.2.1 k hk, fun i hi => by rw [p_upd_ne (by omega), p_upd_ne (by omega), f4 (138 + 2 * i) (by omega) (by omega), f4 (138 + 2 * i + 1) (by omega) (by omega)]; exact hF.2.2.2.2.2.2 i hi⟩
theorem put_now2 {B : Nat} {s : ST} {f : Arr} {n p wn cn nx i l p' : Nat} {L D K W CL CD D' : Nat → Nat} {a b : Nat → Int32} (hx : B + 40 ≤ 100000) (hG : Good B n L D K p wn W cn CL CD nx a b) (hi : i ≤ n) (hl : l ≤ 25)
    (hC : CRep s (n + 1) (insN i l L) D' (insN i nx K) p' wn W cn CL CD (nx + 1) a) (hF : FRep f (n + 1) (insN i l L) D' (insN i nx K) p' wn W cn CL CD (nx + 1) b) (hW : WF (n + 1) D') (hp' : p' < n + 1) : NowR (B + 40) s f := by
  have hB := hG.2.2.2.2.2.2.2.2
  refine ⟨n + 1, insN i l L, D', insN i nx K, p', wn, W, cn, CL, CD, nx + 1, a, b, hC, hF, hW, fun j hj => ?_, ?_, hp', hG.2.2.2.2.1, fun k hk => ?_, ?_, hG.2.2.2.2.2.2.2.1, by omega⟩
  · rw [insN]
    by_cases c : j < i
    · rw [if_pos c]; exact hG.2.1 j (by omega)
    · rw [if_neg c]
      by_cases c2 : j = i
      · rw [if_pos c2]; exact hl
      · rw [if_neg c2]; exact hG.2.1 _ (by omega)
  · rw [ins_blk]; exact Ky_blk hG.2.2.1 hi (fun j hj => by omega)
  · have := hG.2.2.2.2.2.1 k hk; omega
  · rw [ins_blk]; exact Mk_blk hG.2.2.2.2.2.2.1 (by omega) (fun j hj => by omega) hi
theorem sm_wrap_ok : sm_wrap SimR := by
  intro t x m x1 ht h
  obtain ⟨n, L, D, K, p, wn, W, cn, CL, CD, nx, a, b, hC, hF, hG⟩ := h.2.1
  obtain ⟨b', e1, e2⟩ := M_begins_ok m
  have hn := hG.1.1.2.1
  have hn1 := hG.1.1.1
  have hp := hG.2.2.2.1
  have hS := hG.1.1
  have hDD := hS.2.2.2.2
  have hD := hDD p hp
  have hh := heN_le hDD hp
  have hle := endN_le (D := D) hp
  have hgt := endN_gt (D := D) hp
  have hpl : M_place (m.1, b', m.2.2) = some (nI p) := M_place_now (m := (m.1, b', m.2.2)) ht hF hG
  have m0 : m.1 (ix 0) = nI n := hF.1.1
  have hplc := hC.2.2.2.2.2.1
  have mdp : M_deep (m.1, b', m.2.2) (nI p) = some (nI (D p)) := M_deep_in (m := (m.1, b', m.2.2)) hF.1 hn hp
  have mhe : M_height (m.1, b', m.2.2) (nI p) = some (nI (heN n D p)) := M_height_ok (m := (m.1, b', m.2.2)) hF.1 hn hDD hp
  have men : M_end (m.1, b', m.2.2) (nI p) = some (nI (endN n D p)) := M_end_ok (m := (m.1, b', m.2.2)) hF.1 hn hDD hp
  rcases P_isLetter_ok x1 with ⟨i1, i2⟩ | ⟨l, hl, rfl, i1, i2⟩
  · refine ⟨-1, x, _, ?_, ?_, sim_err ht h b'⟩
    · rw [P_wrap, i1, p_bs, if_pos rfl]
    · rw [M_wrap, e1, p_bs, i2, p_bs, if_pos rfl]
  · have P1 : ∀ R, (40 : Int32) ≤ nI n → R = some ((-3 : Int32), x) → P_wrap x (nI l) = R := fun R c e => by
      rw [P_wrap, i1, p_bs, if_neg p_ne01, hplc, T_depthOf_in hC.1 hn hp, p_bs, T_size_ok hC.1, p_bs, if_pos c, e]
    have M1 : nI n = 40 → M_wrap m (nI l) = some (-3, (m.1, b', m.2.2)) := fun c => by
      rw [M_wrap, e1, p_bs, i2, p_bs, if_neg p_ne01, hpl, p_bs, mdp, p_bs, if_pos (m0.trans c)]
    by_cases y1 : n = 40
    · exact ⟨-3, x, _, P1 _ (by rw [p_40, p_le (by omega) (by omega)]; omega) rfl, M1 (by rw [p_40, y1]), sim_err ht h b'⟩
    · have hP1 : ¬ (40 : Int32) ≤ nI n := by rw [p_40, p_le (by omega) (by omega)]; omega
      have hM1 : ¬ m.1 (ix 0) = 40 := by rw [m0, p_40, p_eq (by omega) (by omega)]; omega
      by_cases y2 : D p + heN n D p = 7
      · refine ⟨-3, x, _, ?_, ?_, sim_err ht h b'⟩
        · rw [P_wrap, i1, p_bs, if_neg p_ne01, hplc, T_depthOf_in hC.1 hn hp, p_bs, T_size_ok hC.1, p_bs, if_neg hP1, T_heightOf_ok hC.1 hn hDD hp, p_bs, p_7, p_add, if_neg (by rw [p_lt (by omega) (by omega)]; omega)]
        · rw [M_wrap, e1, p_bs, i2, p_bs, if_neg p_ne01, hpl, p_bs, mdp, p_bs, if_neg hM1, mhe, p_bs, p_7, p_add, if_pos (by rw [y2])]
      · obtain ⟨h', k1, k2⟩ := sim_rec ht h
        obtain ⟨t1, t2, t3⟩ := T_shiftUp_ok hC.1 hn (Nat.le_of_lt hgt) hle
        obtain ⟨s', g1, g2⟩ := S_putNodeIn_ok (s := (t1, x.1.2.1, x.1.2.2.1, x.1.2.2.2.1, x.1.2.2.2.2.1, x.1.2.2.2.2.2.1, x.1.2.2.2.2.2.2)) (D := upN p (endN n D p) D) ⟨t3, hC.2⟩ (show n < 40 by omega) (Nat.le_of_lt hp) l (D p)
        obtain ⟨u1, u2, u3, u4⟩ := M_up_ok (m := (m.1, b', m.2.2)) hF.1 hn (Nat.le_of_lt hgt) hle
        have u4' : ∀ j, (j < 18 ∨ 138 ≤ j) → u1 j = m.1 j := u4
        obtain ⟨o, o1, o2, o3⟩ := M_ins_ok (m := (u1, b', m.2.2)) u3 hn1 (show n < 40 by omega) (Nat.le_of_lt hp) ((u4' 1 (by omega)).trans hF.2.1)
        obtain ⟨f', f1, f2, f3, f4⟩ := o3 l (D p)
        have f4' : ∀ j, 2 ≤ j → (j < 18 ∨ 138 ≤ j) → f' j = m.1 j := fun j j1 j2 => (f4 j j1 j2).trans (u4' j j2)
        have Kp : insN p nx K p = nx := by rw [insN, if_neg (by omega), if_pos rfl]
        have hW : WF (n + 1) (insN p (D p) (upN p (endN n D p) D)) := WF_wrap hG.1 hp (by omega) (fun i j1 j2 => by
          have := heN_ge hp j1 j2
          have := part_ge (D := D) hp (i - p) (by omega)
          rw [show p + (i - p) = i by omega] at this
          omega)
        have hN := put_now2 (by omega) hG (Nat.le_of_lt hp) hl g2 (fr_put2 (p' := p) hF hG.2.2.2.2.1 f2 f3 f4') hW (show p < n + 1 by omega)
        obtain ⟨m', q1, q2⟩ := k2 b' (upd f' 2 (nI (insN p nx K p))) m.2.2.2.2 s' x.2.2.2 (n + 1) e2 rfl rfl (hN.mono (by omega) (fun j _ => rfl)) (by omega)
        refine ⟨nI (n + 1), _, m', ?_, ?_, q2⟩
        · rw [P_wrap, i1, p_bs, if_neg p_ne01, hplc, T_depthOf_in hC.1 hn hp, p_bs, T_size_ok hC.1, p_bs, if_neg hP1, T_heightOf_ok hC.1 hn hDD hp, p_bs, p_7, p_add, if_pos (by rw [p_lt (by omega) (by omega)]; omega), k1, p_bs, T_endOf_ok hC.1 hn hDD hp, p_bs, p_1, t2, p_bs]
          rw [hplc] at g1
          rw [g1, p_bs, T_size_ok g2.1, p_bs]
        · have o1' : M_opens (u1, b', m.2.2) (nI p) (nI 1) = some (o, b', m.2.2) := o1
          have u2' : M_sinks (m.1, b', m.2.2) (nI p) (nI (endN n D p)) (nI 1) = some (u1, b', m.2.2) := u2
          have f1' : M_lays (o, b', m.2.2) (nI p) (nI l) (nI (D p)) = some (f', b', m.2.2) := f1
          have f5 : M_own (f', b', m.2.2) (nI p) = some (nI (insN p nx K p)) := M_own_in (m := (f', b', m.2.2)) f2 (by omega) (show p < n + 1 by omega)
          rw [M_wrap, e1, p_bs, i2, p_bs, if_neg p_ne01, hpl, p_bs, mdp, p_bs, if_neg hM1, mhe, p_bs, p_7, p_add, if_neg (by rw [p_eq (by omega) (by omega)]; exact y2), men, p_bs, p_1, u2', p_bs, o1', p_bs, f1', p_bs, f5, p_bs, p_bs]
          show (M_acted (upd f' 2 (nI (insN p nx K p)), b', m.2.2) (upd f' 2 (nI (insN p nx K p)) 0)).bind _ = _
          rw [p_upd_ne (by omega), f2.1, q1, p_bs]
theorem rot_id (a m b : Nat) (f : Nat → Nat) (i : Nat) : rotN a m b f i = f (rotN a m b (fun z => z) i) := by
  rw [rotN, rotN]
  by_cases c1 : i < a
  · rw [if_pos c1, if_pos c1]
  · rw [if_neg c1, if_neg c1]
    by_cases c2 : i < a + (b - m)
    · rw [if_pos c2, if_pos c2]
    · rw [if_neg c2, if_neg c2]
      by_cases c3 : i < b
      · rw [if_pos c3, if_pos c3]
      · rw [if_neg c3, if_neg c3]
theorem rot_val {a m b : Nat} (i : Nat) : (i < a ∧ rotN a m b (fun z => z) i = i) ∨ (a ≤ i ∧ i < a + (b - m) ∧ rotN a m b (fun z => z) i = i + (m - a)) ∨ (a ≤ i ∧ a + (b - m) ≤ i ∧ i < b ∧ rotN a m b (fun z => z) i = i - (b - m)) ∨ (a ≤ i ∧ a + (b - m) ≤ i ∧ b ≤ i ∧ rotN a m b (fun z => z) i = i) := by
  rw [rotN]
  by_cases c1 : i < a
  · rw [if_pos c1]; omega
  · rw [if_neg c1]
    by_cases c2 : i < a + (b - m)
    · rw [if_pos c2]; omega
    · rw [if_neg c2]
      by_cases c3 : i < b
      · rw [if_pos c3]; omega
      · rw [if_neg c3]; omega
/-- two neighbouring parts exchanged, in both -/
theorem exch_now {t : Nat} {x : TP} {m : MD} (ht : t < 512) (h : SimR t x m) {n p wn cn nx : Nat} {L D K W CL CD : Nat → Nat} {a b : Nat → Int32} (hC : CRep x.1 n L D K p wn W cn CL CD nx a) (hF : FRep m.1 n L D K p wn W cn CL CD nx b) (hG : Good (1 + 40 * t) n L D K p wn W cn CL CD nx a b) (b' : Arr) (e2 : ∀ j, j < 218 → b' j = m.1 j) {u v q : Nat} (hu : 0 < u) (huv : u < v) (hv : v < n) (hev : v = endN n D u) (hd : D v = D u) (hq : 0 < q ∧ q < n) (hqk : rotN u v (endN n D v) K q = K p) :
    ∃ (h' : HI) (x' : TP) (r : Int32) (m' : MD), H_keep x.2.1 x.1 = some h' ∧ (∀ v24, imin (nI p) v24 = nI u → P_exchange_J93 (x.1, h', x.2.2.1, x.2.2.2) v24 (nI v) (nI (endN n D v)) (nI q) = some (r, x')) ∧ M_exchange_J64 (m.1, b', m.2.2) (nI u) (nI v) = some (r, m') ∧ SimR (t + 1) x' m' := by
  have hn := hG.1.1.2.1
  have hS := hG.1.1
  have hB := hG.2.2.2.2.2.2.2.2
  have hw := hG.2.2.2.2.1
  have hle := endN_le (D := D) hv
  have hgt := endN_gt (D := D) hv
  have hW := WF_rot hG.1 hu (show u < n by omega) hev hv hd
  obtain ⟨h', k1, k2⟩ := sim_rec ht h
  obtain ⟨s', g1, g2⟩ := S_exchangeRuns_ok hC hn huv hgt hle
  obtain ⟨f', s5, f1, f2, f3⟩ := M_swaps_ok (md := (m.1, b', m.2.2)) hF.1 hS huv hv
  have f3' : ∀ j, (j < 18 ∨ 138 ≤ j) → f' j = m.1 j := f3
  have hK : KyR n (rotN u v (endN n D v) K) nx := Ky_sub hG.2.2.1 (rotN u v (endN n D v) (fun z => z)) (fun i hi => ⟨by have := rot_val (a := u) (m := v) (b := endN n D v) i; omega, rot_id _ _ _ _ _⟩) (fun i j hi hj e => by
    have q1 := rot_val (a := u) (m := v) (b := endN n D v) i
    have q2 := rot_val (a := u) (m := v) (b := endN n D v) j
    omega)
  have hM : MkR n (rotN u v (endN n D v) K) nx a b := Mk_sub hG.2.2.2.2.2.2.1 (fun i hi => ⟨rotN u v (endN n D v) (fun z => z) i, by have := rot_val (a := u) (m := v) (b := endN n D v) i; omega, rot_id _ _ _ _ _⟩)
  have hFr : FRep f' n (rotN u v (endN n D v) L) (rotN u v (endN n D v) D) (rotN u v (endN n D v) K) q wn W cn CL CD nx b := fr_put hF hw f2 ((f3' 1 (by omega)).trans hF.2.1) hqk (fun j _ j2 => f3' j j2)
  have hCr : CRep (s'.1, s'.2.1, s'.2.2.1, s'.2.2.2.1, s'.2.2.2.2.1, nI q, s'.2.2.2.2.2.2) n (rotN u v (endN n D v) L) (rotN u v (endN n D v) D) (rotN u v (endN n D v) K) q wn W cn CL CD nx a := ⟨g2.1, g2.2.1, g2.2.2.1, g2.2.2.2.1, g2.2.2.2.2.1, rfl, g2.2.2.2.2.2.2⟩
  have hGr : Good (1 + 40 * t) n (rotN u v (endN n D v) L) (rotN u v (endN n D v) D) (rotN u v (endN n D v) K) q wn W cn CL CD nx a b := ⟨hW, fun i hi => by rw [rot_id]; exact hG.2.1 _ (by have := rot_val (a := u) (m := v) (b := endN n D v) i; omega), hK, hq.2, hw, hG.2.2.2.2.2.1, hM, hG.2.2.2.2.2.2.2.1, hB⟩
  have tl : tuN (rotN u v (endN n D v) D) q < 1000 := by
    have := cntN_le (rotN u v (endN n D v) D) (rotN u v (endN n D v) D q) (q - (abN (rotN u v (endN n D v) D) q + 1)) (abN (rotN u v (endN n D v) D) q + 1)
    rw [tuN]; omega
  obtain ⟨m', q1, q2⟩ := k2 b' f' (s5, m.2.2.2.2.2) (s'.1, s'.2.1, s'.2.2.1, s'.2.2.2.1, s'.2.2.2.2.1, nI q, s'.2.2.2.2.2.2) x.2.2.2 (tuN (rotN u v (endN n D v) D) q) e2 rfl rfl ⟨_, _, _, _, _, _, _, _, _, _, _, _, _, hCr, hFr, hGr.mono (by omega)⟩ (by omega)
  refine ⟨h', _, nI (tuN (rotN u v (endN n D v) D) q), m', k1, fun v24 hv24 => ?_, ?_, q2⟩
  · rw [P_exchange_J93]
    show (S_exchangeRuns x.1 (imin x.1.2.2.2.2.2.1 v24) (nI v) (nI (endN n D v))).bind _ = _
    rw [hC.2.2.2.2.2.1, hv24, g1, p_bs, T_turnOf_ok g2.1 hW.1 hq.1 hq.2, p_bs]
  · have f1' : M_swaps (m.1, b', m.2.2) (nI u) (nI v) = some (f', b', m.2.2.1, m.2.2.2.1, s5, m.2.2.2.2.2) := f1
    have pl : M_place (f', b', m.2.2.1, m.2.2.2.1, s5, m.2.2.2.2.2) = some (nI q) := M_place_now (m := (f', b', m.2.2.1, m.2.2.2.1, s5, m.2.2.2.2.2)) ht hFr hGr
    have wh : M_which (f', b', m.2.2.1, m.2.2.2.1, s5, m.2.2.2.2.2) (nI q) = some (nI (tuN (rotN u v (endN n D v) D) q)) := M_which_ok (m := (f', b', m.2.2.1, m.2.2.2.1, s5, m.2.2.2.2.2)) f2 hW.1 hq.1 hq.2
    rw [M_exchange_J64, f1', p_bs, pl, p_bs, wh, p_bs, q1, p_bs]
theorem sm_exchange_ok : sm_exchange SimR := by
  intro t x m x1 ht h
  obtain ⟨n, L, D, K, p, wn, W, cn, CL, CD, nx, a, b, hC, hF, hG⟩ := h.2.1
  obtain ⟨b', e1, e2⟩ := M_begins_ok m
  have hn := hG.1.1.2.1
  have hp := hG.2.2.2.1
  have hS := hG.1.1
  have hDD := hS.2.2.2.2
  have hplc := hC.2.2.2.2.2.1
  have hpl : M_place (m.1, b', m.2.2) = some (nI p) := M_place_now (m := (m.1, b', m.2.2)) ht hF hG
  rcases P_isChoice_ok x1 with ⟨i1, i2⟩ | ⟨hx, i1, i2⟩
  · refine ⟨-1, x, _, ?_, ?_, sim_err ht h b'⟩
    · rw [P_exchange, i1, p_bs, if_pos rfl]
    · rw [M_exchange, e1, p_bs, i2, p_bs, if_pos rfl]
  · rcases hx with rfl | rfl
    · obtain ⟨o, o1, o2, o3⟩ := nb0 (m := (m.1, b', m.2.2)) hC.1 hF.1 hS hp
      cases o with
      | none =>
        refine ⟨-2, x, _, ?_, ?_, sim_err ht h b'⟩
        · rw [P_exchange, i1, p_bs, if_neg p_ne01, hplc, o1, p_bs]
          show (if -nI 1 = -1 then _ else _) = _
          rw [p_1, if_pos rfl]
        · rw [M_exchange, e1, p_bs, i2, p_bs, if_neg p_ne01, hpl, p_bs, if_neg (by decide), M_exchange_J32, o2, p_bs]
          show (if 0 ≤ -nI 1 then _ else _) = _
          rw [p_0, if_neg p_n0le]
      | some r =>
        obtain ⟨r1, r2, r3, r4, r5, r6⟩ := o3 r rfl
        have o1' : T_neighbour x.1.1 (nI p) 0 = some (nI r) := o1
        have hle := endN_le (D := D) hp
        have hgt := endN_gt (D := D) hp
        obtain ⟨h', x', v, m', q1, q2, q3, q4⟩ := exch_now ht h hC hF hG b' e2 r2 r3 hp r4.symm r5.symm ⟨r2, by omega⟩ (q := r) (by rw [rotN, if_neg (by omega), if_pos (by omega), show r + (p - r) = p by omega])
        refine ⟨v, x', m', ?_, ?_, q4⟩
        · rw [P_exchange, i1, p_bs, if_neg p_ne01, hplc, o1', p_bs]
          rw [p_1, if_neg (p_nm1 (by omega)), q1, p_bs]
          rw [p_max (by omega) (by omega), Nat.max_eq_left (Nat.le_of_lt r3), T_endOf_ok hC.1 hn hDD hp, p_bs, if_neg (by decide)]
          exact q2 (nI r) (by rw [p_min (by omega) (by omega), Nat.min_eq_right (Nat.le_of_lt r3)])
        · rw [M_exchange, e1, p_bs, i2, p_bs, if_neg p_ne01, hpl, p_bs, if_neg (by decide), M_exchange_J32, o2, p_bs]
          show (if 0 ≤ nI r then (if nI r ≤ nI p then M_exchange_J54 (m.1, b', m.2.2) (nI p) (nI r) (nI r) else M_exchange_J54 (m.1, b', m.2.2) (nI p) (nI r) (nI p)) else _) = _
          rw [p_0, if_pos (p_0le (by omega)), if_pos (by rw [p_le (by omega) (by omega)]; omega), M_exchange_J54, if_pos (by rw [p_le (by omega) (by omega)]; omega)]
          exact q3
    · obtain ⟨o, o1, o2, o3, _⟩ := nb1 (m := (m.1, b', m.2.2)) hC.1 hF.1 hS hp
      cases o with
      | none =>
        refine ⟨-2, x, _, ?_, ?_, sim_err ht h b'⟩
        · rw [P_exchange, i1, p_bs, if_neg p_ne01, hplc, o1, p_bs]
          show (if -nI 1 = -1 then _ else _) = _
          rw [p_1, if_pos rfl]
        · rw [M_exchange, e1, p_bs, i2, p_bs, if_neg p_ne01, hpl, p_bs, if_pos rfl, M_exchange_J32, o2, p_bs]
          show (if 0 ≤ -nI 1 then _ else _) = _
          rw [p_0, if_neg p_n0le]
      | some r =>
        obtain ⟨r1, r2, r3, r4, r5⟩ := o3 r rfl
        have o1' : T_neighbour x.1.1 (nI p) 1 = some (nI r) := o1
        have hle := endN_le (D := D) r3
        have hgt := endN_gt (D := D) r3
        obtain ⟨h', x', v, m', q1, q2, q3, q4⟩ := exch_now ht h hC hF hG b' e2 r1 r2 r3 r4 r5 ⟨by omega, by omega⟩ (q := p + (endN n D r - r)) (by rw [rotN, if_neg (by omega), if_neg (by omega), if_pos (by omega), show p + (endN n D r - r) - (endN n D r - r) = p by omega])
        refine ⟨v, x', m', ?_, ?_, q4⟩
        · rw [P_exchange, i1, p_bs, if_neg p_ne01, hplc, o1', p_bs]
          rw [if_neg (show ¬ nI r = -1 by rw [p_1]; exact p_nm1 (by omega)), q1, p_bs]
          rw [p_max (by omega) (by omega), Nat.max_eq_right (Nat.le_of_lt r2), T_endOf_ok hC.1 hn hDD r3, p_bs, if_pos rfl, p_add, p_sub (by omega), show p + endN n D r - r = p + (endN n D r - r) by omega]
          exact q2 (nI r) (by rw [p_min (by omega) (by omega), Nat.min_eq_left (Nat.le_of_lt r2)])
        · rw [M_exchange, e1, p_bs, i2, p_bs, if_neg p_ne01, hpl, p_bs, if_pos rfl, M_exchange_J32, o2, p_bs]
          show (if 0 ≤ nI r then (if nI r ≤ nI p then M_exchange_J54 (m.1, b', m.2.2) (nI p) (nI r) (nI r) else M_exchange_J54 (m.1, b', m.2.2) (nI p) (nI r) (nI p)) else _) = _
          rw [p_0, if_pos (p_0le (by omega)), if_neg (by rw [p_le (by omega) (by omega)]; omega), M_exchange_J54, if_neg (by rw [p_le (by omega) (by omega)]; omega)]
          exact q3
