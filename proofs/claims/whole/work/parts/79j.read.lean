/-! fault, read, and the whole relation -/
theorem scan_ok {t : Nat} {x : TP} {m : MD} (h : SimR t x m) (b' : Arr) : ∃ (l : Nat) (sc' : SC) (v p1 rs tn : Int32) (told rows : Arr), m.2.2.2.2.2.2.1 = nI l ∧ TxtR x.2.2.1 m.2.2.2.2.2.1 l ∧ C_passOver x.2.2.2 120 x.2.2.1 = some sc' ∧ M_isTree (m.1, b', m.2.2) = some (v, (m.1, b', m.2.2.1, m.2.2.2.1, m.2.2.2.2.1, m.2.2.2.2.2.1, nI l, p1, rs, tn, told, rows)) ∧ ScanEnd sc' v p1 rs tn told := by
  obtain ⟨l, hl, c, hc1, hc2, hc3, hc4⟩ := h.2.2.2
  obtain ⟨T, u1, u2⟩ := T_clear_ok x.2.2.2.1 (fun _ => 0) (fun _ => 0)
  obtain ⟨Op, o1, o2⟩ := R_clear_ok 7 x.2.2.2.2.1 (nR (fun _ => 0))
  obtain ⟨sc', v, p1, rs, tn, told, rows, g1, g2, g3⟩ := scan_loop hc4 hc1 hc2 hc3 m.1 b' m.2.2.1 m.2.2.2.1 m.2.2.2.2.1 l 0 1000 1000 0 0 1 0 (fun _ => 0) (fun _ => 0) (fun _ => 0) T Op x.2.2.2.2.2.2.1 x.2.2.2.2.2.2.2.1 m.2.2.2.2.2.2.2.1 m.2.2.2.2.2.2.2.2.1 m.2.2.2.2.2.2.2.2.2.2.1 (upd m.2.2.2.2.2.2.2.2.2.2.2 (ix 0) 1) (by omega) (by omega) (by omega) (ScP.start c 0 _ _ _) u2 o2 (fun z => by omega) (fun j hj => by omega) (fun j hj => by omega)
  rw [← p_0, ← p_1] at g1
  rw [← p_0, ← p_1] at g2
  refine ⟨l, sc', v, p1, rs, tn, told, rows, hl, ⟨c, hc1, hc2, hc3, hc4⟩, ?_, ?_, g3⟩
  · rw [C_passOver, u1, p_bs, o1, p_bs]
    exact g1
  · rw [M_isTree, p_bs]
    show M_isTree_L18 1000 (m.1, b', m.2.2.1, m.2.2.2.1, m.2.2.2.2.1, m.2.2.2.2.2.1, m.2.2.2.2.2.2.1, m.2.2.2.2.2.2.2.1, m.2.2.2.2.2.2.2.2.1, 0, m.2.2.2.2.2.2.2.2.2.2.1, upd m.2.2.2.2.2.2.2.2.2.2.2 (ix 0) 1) 0 1 0 = _
    rw [hl]
    exact g2
theorem sm_fault_ok : sm_fault SimR := by
  intro t x m x1 ht h
  rcases P_isChoice_ok x1 with ⟨k1, k2⟩ | ⟨hx, k1, k2⟩
  · exact ⟨-1, x, m, by rw [P_fault, k1, p_bs, if_pos rfl], by rw [M_fault, k2, p_bs, if_pos rfl], sim_next ht h⟩
  · obtain ⟨l, sc', v, p1, rs, tn, told, rows, hl, hT, g1, g2, g3⟩ := scan_ok h m.2.1
    have g2' : M_isTree m = some (v, (m.1, m.2.1, m.2.2.1, m.2.2.2.1, m.2.2.2.2.1, m.2.2.2.2.2.1, nI l, p1, rs, tn, told, rows)) := g2
    have hs := sim_text ht h x.2.2.1 m.2.2.2.2.1 m.2.2.2.2.2.1 l (p1, rs, tn, told, rows) sc' hT
    rcases g3 with ⟨v0, e1, e2, e3⟩ | ⟨v1, e1, _⟩
    · subst v0
      subst e1
      subst e2
      rcases hx with hx | hx
      · subst hx
        exact ⟨_, _, _, by rw [P_fault, k1, p_bs, if_neg p_ne01, g1, p_bs, if_neg e3, if_pos rfl], by rw [M_fault, k2, p_bs, if_neg p_ne01, g2', p_bs, if_pos rfl, if_pos rfl], hs⟩
      · subst hx
        exact ⟨_, _, _, by rw [P_fault, k1, p_bs, if_neg p_ne01, g1, p_bs, if_neg e3, if_neg p_ne01], by rw [M_fault, k2, p_bs, if_neg p_ne01, g2', p_bs, if_pos rfl, if_neg p_ne01], hs⟩
    · subst v1
      exact ⟨-4, _, _, by rw [P_fault, k1, p_bs, if_neg p_ne01, g1, p_bs, if_pos e1], by rw [M_fault, k2, p_bs, if_neg p_ne01, g2', p_bs, if_neg p_ne01], hs⟩
theorem S_clearMarks_loop : ∀ fu k (s : ST), k ≤ 4 → 4 - k < fu → RRep s.2.2.2.2.1 k (fun _ => -nI 1) → ∃ r', S_clearMarks_L9 fu s (nI k) = some (s.1, s.2.1, s.2.2.1, s.2.2.2.1, r', s.2.2.2.2.2.1, s.2.2.2.2.2.2) ∧ RRep r' 4 (fun _ => -nI 1) := by
  intro fu
  induction fu with
  | zero => intro k s _ h; omega
  | succ fu ih =>
    intro k s h1 h2 h
    rw [S_clearMarks_L9]
    by_cases e : k = 4
    · subst e
      exact ⟨s.2.2.2.2.1, by rw [p_4, if_pos (Int32.le_refl _)], h⟩
    · obtain ⟨r1, g1, g2⟩ := R_add_ok (cap := 4) h (-nI 1) (by omega) (by omega)
      obtain ⟨r', f1, f2⟩ := ih (k + 1) (s.1, s.2.1, s.2.2.1, s.2.2.2.1, r1, s.2.2.2.2.2.1, s.2.2.2.2.2.2) (by omega) (by omega) (g2.congr fun i hi => by
        rw [insI]
        by_cases c1 : i < k
        · rw [if_pos c1]
        · rw [if_neg c1, if_pos (by omega)])
      refine ⟨r', ?_, f2⟩
      rw [p_4, if_neg (by rw [p_le (by omega) (by omega)]; omega), p_1, g1, p_bs, p_add]
      exact f1
theorem S_clearMarks_ok (s : ST) : ∃ r', S_clearMarks s = some (s.1, s.2.1, s.2.2.1, s.2.2.2.1, r', s.2.2.2.2.2.1, s.2.2.2.2.2.2) ∧ RRep r' 4 (fun _ => -nI 1) := by
  obtain ⟨r0, u1, u2⟩ := R_clear_ok 4 s.2.2.2.2.1 (fun _ => -nI 1)
  obtain ⟨r', f1, f2⟩ := S_clearMarks_loop 1000 0 (s.1, s.2.1, s.2.2.1, s.2.2.2.1, r0, s.2.2.2.2.2.1, s.2.2.2.2.2.2) (by omega) (by omega) u2
  rw [← p_0] at f1
  refine ⟨r', ?_, f2⟩
  rw [S_clearMarks, u1, p_bs]
  exact f1
theorem S_putTreeIn_loop {p wn g nx cn : Nat} {TL TD W CL CD : Nat → Nat} {a : Nat → Int32} {t' : TR} (hT : TRep t' g TL TD) (hg : g ≤ 40) : ∀ fu j (s : ST), j ≤ g → g - j < fu → CRep s j TL TD (fun q => nx + q) p wn W cn CL CD (nx + j) a →
    ∃ s', S_putTreeIn_L9 fu s t' (nI 0) (nI 0) (nI g) (nI j) = some s' ∧ CRep s' g TL TD (fun q => nx + q) p wn W cn CL CD (nx + g) a := by
  intro fu
  induction fu with
  | zero => intro j s _ h; omega
  | succ fu ih =>
    intro j s h1 h2 h
    rw [S_putTreeIn_L9]
    by_cases e : j = g
    · subst e
      exact ⟨s, by rw [if_pos (Int32.le_refl _)], h⟩
    · have hj : j < g := by omega
      obtain ⟨s', g1, g2⟩ := S_putNodeIn_ok h (show j < 40 by omega) (Nat.le_refl j) (TL j) (TD j)
      have same : ∀ (f : Nat → Nat) (q : Nat), q < j + 1 → insN j (f j) f q = f q := fun f q hq => by
        rw [insN]
        by_cases c1 : q < j
        · rw [if_pos c1]
        · have : q = j := by omega
          subst this
          rw [if_neg c1, if_pos rfl]
      obtain ⟨s2, f1, f2⟩ := ih (j + 1) s' (by omega) (by omega) (g2.congr (same TL) (same TD) (same (fun q => nx + q)))
      refine ⟨s2, ?_, f2⟩
      rw [if_neg (by rw [p_le (by omega) (by omega)]; omega), T_letterOf_in hT hg hj, p_bs, T_depthOf_in hT hg hj, p_bs, p_add, p_add, Nat.zero_add, Nat.zero_add, g1, p_bs, p_1, p_add]
      exact f1
theorem S_beginWith_ok {s : ST} {n p wn cn nx g : Nat} {L D K W CL CD TL TD : Nat → Nat} {a : Nat → Int32} {t' : TR} (h : CRep s n L D K p wn W cn CL CD nx a) (hT : TRep t' g TL TD) (hg : g ≤ 40) :
    ∃ s', S_beginWith s t' = some s' ∧ CRep s' g TL TD (fun q => nx + q) 0 0 W cn CL CD (nx + g) (fun _ => -nI 1) := by
  obtain ⟨h1, h2, h3, h4, h5, h6, h7⟩ := h
  obtain ⟨T, u1, u2⟩ := T_clear_ok s.1 TL TD
  obtain ⟨r1, v1, v2⟩ := R_clear_ok 40 s.2.2.1 (nR (fun q => nx + q))
  obtain ⟨r2, w1, w2⟩ := R_clear_ok 8 s.2.2.2.1 (nR W)
  obtain ⟨r', f1, f2⟩ := S_clearMarks_ok (T, s.2.1, r1, r2, s.2.2.2.2.1, s.2.2.2.2.2.1, s.2.2.2.2.2.2)
  obtain ⟨s', q1, q2⟩ := S_putTreeIn_loop (p := 0) (wn := 0) (nx := nx) (cn := cn) (W := W) (CL := CL) (CD := CD) (a := fun _ => -nI 1) hT hg 1000 0 (T, s.2.1, r1, r2, r', 0, s.2.2.2.2.2.2) (by omega) (by omega) ⟨u2, h2, v2, w2, f2, p_0, h7⟩
  rw [← p_0] at q1
  refine ⟨s', ?_, q2⟩
  rw [S_beginWith, u1, p_bs, v1, p_bs, w1, p_bs, f1, p_bs, S_putTreeIn, T_size_ok hT, p_bs]
  dsimp only
  rw [q1, p_bs]
theorem read_marks (w : Arr × Arr × Int32 × Arr × Arr × Int32 × Int32 × Int32 × Int32 × Arr × Arr) : ∀ fu k (s : Arr), k ≤ 4 → 4 - k < fu → ∃ s' : Arr, M_read_L83 fu (s, w) (nI k) = ((M_acted (s', w) w.2.2.2.2.2.2.2.2.1).bind fun v => some (v.1, v.2)) ∧ ∀ j, s' j = if 5 + k ≤ j ∧ j < 9 then -nI 1 else s j := by
  intro fu
  induction fu with
  | zero => intro k s _ h; omega
  | succ fu ih =>
    intro k s h1 h2
    rw [M_read_L83]
    by_cases e : k = 4
    · subst e
      refine ⟨s, ?_, fun j => by rw [if_neg (by omega)]⟩
      rw [p_4]
      exact if_pos (Int32.le_refl _)
    · obtain ⟨s', g1, g2⟩ := ih (k + 1) (upd s (5 + k) (-nI 1)) (by omega) (by omega)
      refine ⟨s', ?_, fun j => ?_⟩
      · have c0 : ¬ (4 : Int32) ≤ nI k := by rw [p_4, p_le (by omega) (by omega)]; omega
        have c1 : ¬ ((5 + nI k) < 0 ∨ 218 ≤ ix (5 + nI k)) := by rw [p_0, p_5, p_add, p_ix (by omega), p_lt (by omega) (by omega)]; omega
        have c2 : ix (5 + nI k) = 5 + k := by rw [p_5, p_add, p_ix (by omega)]
        rw [if_neg c0, if_neg c1, p_bs, c2, p_1, p_add]
        exact g1
      · rw [g2 j]
        by_cases y : j = 5 + k
        · subst y
          rw [if_neg (by omega), p_upd_same, if_pos (by omega)]
        · rw [p_upd_ne y]
          by_cases z : 5 + (k + 1) ≤ j ∧ j < 9
          · rw [if_pos z, if_pos (by omega)]
          · rw [if_neg z, if_neg (by omega)]
theorem read_lay {g nx : Nat} {TL TD : Nat → Nat} (hg : g ≤ 40) (hg1 : 1 ≤ g) (b c : Arr) (z : Int32) (s4 mt : Arr) (len p1 rs : Int32) (told rows : Arr) (htold : ∀ j, j < g → told (2 * j) = nI (TL j) ∧ told (2 * j + 1) = nI (TD j)) : ∀ fu k (s : Arr), k ≤ g → g - k < fu → s 0 = nI g → s 1 = nI (nx + k) → (∀ i, i < k → s (18 + 3 * i) = nI (TL i) ∧ s (18 + 3 * i + 1) = nI (TD i) ∧ s (18 + 3 * i + 2) = nI (nx + i)) →
    ∃ s' : Arr, M_read_L26 fu (s, b, c, z, s4, mt, len, p1, rs, nI g, told, rows) (nI k) = M_read_L83 1000 (upd (upd s' 2 (nI nx)) 3 0, b, c, z, s4, mt, len, p1, rs, nI g, told, rows) 0 ∧ MRep s' g TL TD (fun q => nx + q) ∧ s' 1 = nI (nx + g) ∧ ∀ j, 2 ≤ j → (j < 18 ∨ 138 ≤ j) → s' j = s j := by
  intro fu
  induction fu with
  | zero => intro k s _ h; omega
  | succ fu ih =>
    intro k s h1 h2 h0 hx hs
    rw [M_read_L26]
    dsimp only
    by_cases e : k = g
    · subst e
      have hM : MRep s k TL TD (fun q => nx + q) := ⟨h0, hs⟩
      refine ⟨s, ?_, hM, hx, fun j _ _ => rfl⟩
      have ho : M_own (s, b, c, z, s4, mt, len, p1, rs, nI k, told, rows) 0 = some (nI nx) := by
        rw [p_0]
        exact M_own_in (m := (s, b, c, z, s4, mt, len, p1, rs, nI k, told, rows)) hM hg (show 0 < k by omega)
      have i2 : ix 2 = 2 := by rw [p_2, p_ix (by omega)]
      have i3 : ix 3 = 3 := by rw [p_3, p_ix (by omega)]
      rw [if_pos (Int32.le_refl _), ho, p_bs, p_bs, p_bs, i2, i3]
    · have hk := htold k (by omega)
      have hla := M_lays_ok (show k < 40 by omega) (s, b, c, z, s4, mt, len, p1, rs, nI g, told, rows) (nI (TL k)) (nI (TD k))
      dsimp only at hla
      generalize hu : upd (upd (upd (upd s (18 + 3 * k) (nI (TL k))) (18 + 3 * k + 1) (nI (TD k))) (18 + 3 * k + 2) (s 1)) 1 (s 1 + nI 1) = u at hla
      have f : ∀ j, j ≠ 1 → j ≠ 18 + 3 * k → j ≠ 18 + 3 * k + 1 → j ≠ 18 + 3 * k + 2 → u j = s j := by
        intro j b0 b1 b2 b3
        rw [← hu, p_upd_ne b0, p_upd_ne b3, p_upd_ne b2, p_upd_ne b1]
      obtain ⟨s', g1, g2, g3, g4⟩ := ih (k + 1) u (by omega) (by omega) (by rw [f 0 (by omega) (by omega) (by omega) (by omega)]; exact h0) (by rw [← hu, p_upd_same, hx, p_add, Nat.add_assoc]) (fun i hi => by
        by_cases y : i = k
        · subst y
          rw [← hu, p_upd_ne (by omega), p_upd_ne (by omega), p_upd_ne (by omega), p_upd_same, p_upd_ne (by omega), p_upd_ne (by omega), p_upd_same, p_upd_ne (by omega), p_upd_same]
          exact ⟨rfl, rfl, hx⟩
        · have := hs i (by omega)
          rw [f _ (by omega) (by omega) (by omega) (by omega), f _ (by omega) (by omega) (by omega) (by omega), f _ (by omega) (by omega) (by omega) (by omega)]
          exact this)
      refine ⟨s', ?_, g2, g3, fun j j1 j2 => ?_⟩
      · have b0 : ¬ nI g ≤ nI k := by rw [p_le (by omega) (by omega)]; omega
        have b1 : ¬ ((2 * nI k) < 0 ∨ 80 ≤ ix (2 * nI k)) := by rw [p_0, p_2, p_mul, p_ix (by omega), p_lt (by omega) (by omega)]; omega
        have b2 : ¬ ((2 * nI k + 1) < 0 ∨ 80 ≤ ix (2 * nI k + 1)) := by rw [p_0, p_1, p_2, p_mul, p_add, p_ix (by omega), p_lt (by omega) (by omega)]; omega
        have x1 : ix (2 * nI k) = 2 * k := by rw [p_2, p_mul, p_ix (by omega)]
        have x2 : ix (2 * nI k + 1) = 2 * k + 1 := by rw [p_1, p_2, p_mul, p_add, p_ix (by omega)]
        rw [if_neg b0, if_neg b1, if_neg b2, x1, x2, hk.1, hk.2, hla, p_bs, p_1, p_add]
        exact g1
      · rw [g4 j j1 j2, f j (by omega) (by omega) (by omega) (by omega)]
theorem sm_read_ok : sm_read SimR := by
  intro t x m ht h
  obtain ⟨b', e1, e2⟩ := M_begins_ok m
  obtain ⟨l, sc', v, p1, rs, tn, told, rows, hl, hT, g1, g2, g3⟩ := scan_ok h b'
  rcases g3 with ⟨v0, _, _, e3⟩ | ⟨v1, r0, g, TL, TD, hTT, hW, hTL, htn, htold⟩
  · subst v0
    have hs := sim_text ht h x.2.2.1 m.2.2.2.2.1 m.2.2.2.2.2.1 l (p1, rs, tn, told, rows) sc' hT
    refine ⟨-2, (x.1, x.2.1, x.2.2.1, sc'), (m.1, b', m.2.2.1, m.2.2.2.1, m.2.2.2.2.1, m.2.2.2.2.2.1, nI l, p1, rs, tn, told, rows), ?_, ?_, hs.1, hs.2.1, hs.2.2.1, hs.2.2.2⟩
    · rw [P_read, g1, p_bs, if_neg e3]
    · rw [M_read, e1, p_bs, g2, p_bs, if_pos rfl]
  · subst v1
    subst htn
    obtain ⟨n, L, D, K, p, wn, W, cn, CL, CD, nx, a, b, hC, hF, hG⟩ := h.2.1
    obtain ⟨h', k1, k2⟩ := sim_rec ht h
    have hg := hW.1.2.1
    have hg1 := hW.1.1
    have hB := hG.2.2.2.2.2.2.2.2
    obtain ⟨s', f1, f2⟩ := S_beginWith_ok hC hTT hg
    have i0 : ix 0 = 0 := by rw [p_0, p_ix (by omega)]
    obtain ⟨s1, u1, u2, u3, u4⟩ := read_lay (nx := nx) hg hg1 b' m.2.2.1 m.2.2.2.1 m.2.2.2.2.1 m.2.2.2.2.2.1 (nI l) p1 rs told rows htold 1000 0 (upd m.1 0 (nI g)) (by omega) (by omega) (p_upd_same _ _ _) (by rw [p_upd_ne (by omega)]; exact hF.2.1) (fun i hi => by omega)
    obtain ⟨f', v1, v2⟩ := read_marks (b', m.2.2.1, m.2.2.2.1, m.2.2.2.2.1, m.2.2.2.2.2.1, nI l, p1, rs, nI g, told, rows) 1000 0 (upd (upd s1 2 (nI nx)) 3 0) (by omega) (by omega)
    rw [← p_0] at u1
    rw [← p_0] at v1
    have far : ∀ j, (j < 5 ∨ 9 ≤ j) → j ≠ 2 → j ≠ 3 → f' j = s1 j := fun j j1 j2 j3 => by
      rw [v2 j, if_neg (by omega), p_upd_ne j3, p_upd_ne j2]
    have hN : NowR (1 + 40 * (t + 1)) s' f' := by
      refine ⟨g, TL, TD, fun q => nx + q, 0, 0, W, cn, CL, CD, nx + g, fun _ => -nI 1, fun _ => -nI 1, f2, ⟨⟨?_, fun i hi => ?_⟩, ?_, ?_, ⟨?_, fun k hk => by omega⟩, ?_, fun k hk => ?_, fun i hi => ?_⟩, hW, hTL, ⟨fun i hi => by show nx + i < nx + g; omega, fun i j _ _ hij => by have : nx + i = nx + j := hij; omega⟩, by omega, by omega, fun k hk => by omega, fun k _ => ⟨Or.inl rfl, Or.inl rfl, fun i _ => Iff.rfl⟩, hG.2.2.2.2.2.2.2.1, by omega⟩
      · rw [far 0 (by omega) (by omega) (by omega)]; exact u2.1
      · rw [far _ (by omega) (by omega) (by omega), far _ (by omega) (by omega) (by omega), far _ (by omega) (by omega) (by omega)]; exact u2.2 i hi
      · rw [far 1 (by omega) (by omega) (by omega)]; exact u3
      · rw [v2 2, if_neg (by omega), p_upd_ne (by omega), p_upd_same]; rfl
      · rw [v2 3, if_neg (by omega), p_upd_same]; exact p_0
      · rw [far 4 (by omega) (by omega) (by omega), u4 4 (by omega) (by omega), p_upd_ne (by omega)]; exact hF.2.2.2.2.1
      · rw [v2, if_pos (by omega)]
      · have hc := hG.2.2.2.2.2.2.2.1.le
        rw [far _ (by omega) (by omega) (by omega), far _ (by omega) (by omega) (by omega), u4 _ (by omega) (by omega), u4 _ (by omega) (by omega), p_upd_ne (by omega), p_upd_ne (by omega)]
        exact hF.2.2.2.2.2.2 i hi
    obtain ⟨m', q1, q2⟩ := k2 b' f' (m.2.2.2.2.1, m.2.2.2.2.2.1, nI l, p1, rs, nI g, told, rows) s' sc' g e2 rfl hl.symm hN (by omega)
    refine ⟨nI g, _, m', ?_, ?_, q2⟩
    · rw [P_read, g1, p_bs, if_pos r0, k1, p_bs, f1, p_bs, T_size_ok f2.1, p_bs]
    · rw [M_read, e1, p_bs, g2, p_bs, if_neg p_ne01, p_bs, i0]
      show M_read_L26 1000 (upd m.1 0 (nI g), b', m.2.2.1, m.2.2.2.1, m.2.2.2.2.1, m.2.2.2.2.2.1, nI l, p1, rs, nI g, told, rows) 0 = _
      rw [u1, v1]
      show (M_acted (f', b', m.2.2.1, m.2.2.2.1, m.2.2.2.2.1, m.2.2.2.2.2.1, nI l, p1, rs, nI g, told, rows) (nI g)).bind _ = _
      rw [q1, p_bs]
