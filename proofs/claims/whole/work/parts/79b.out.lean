/-! parts taken out: delete, cut, lift -/
theorem del_val {a c : Nat} (i : Nat) : (i < a ∧ delN a c (fun z => z) i = i) ∨ (a ≤ i ∧ delN a c (fun z => z) i = i + c) := by
  rw [delN]
  by_cases y : i < a
  · rw [if_pos y]; omega
  · rw [if_neg y]; omega
theorem del_id (a c : Nat) (f : Nat → Nat) (i : Nat) : delN a c f i = f (delN a c (fun z => z) i) := by
  rw [delN, delN]
  by_cases y : i < a
  · rw [if_pos y, if_pos y]
  · rw [if_neg y, if_neg y]
theorem Ky_del {n a c nx : Nat} {K : Nat → Nat} (h : KyR n K nx) (hc : a + c ≤ n) : KyR (n - c) (delN a c K) nx :=
  Ky_sub h (delN a c (fun z => z)) (fun i hi => ⟨by have := del_val (a := a) (c := c) i; omega, del_id _ _ _ _⟩) (fun i j hi hj e => by
    have q1 := del_val (a := a) (c := c) i
    have q2 := del_val (a := a) (c := c) j
    omega)
theorem Mk_del {n a c nx : Nat} {K : Nat → Nat} {x y : Nat → Int32} (h : MkR n K nx x y) (hc : a + c ≤ n) : MkR (n - c) (delN a c K) nx x y :=
  Mk_sub h (fun i hi => ⟨delN a c (fun z => z) i, by have := del_val (a := a) (c := c) i; omega, del_id _ _ _ _⟩)
/-- marks of nodes that are gone -/
theorem forget_now {f : Arr} {w : Arr × Arr × Int32 × Arr × Arr × Int32 × Int32 × Int32 × Int32 × Arr × Arr} {n p wn cn nx : Nat} {L D K W CL CD : Nat → Nat} {a b : Nat → Int32} (hF : FRep f n L D K p wn W cn CL CD nx b) (hn : n ≤ 40) (hw : wn ≤ 8) (hK : KyR n K nx) (hx : nx ≤ 100000) (hM : MkR n K nx a b) :
    ∃ (f' : Arr) (b' : Nat → Int32), M_forgets (f, w) = some (f', w) ∧ FRep f' n L D K p wn W cn CL CD nx b' ∧ MkR n K nx a b' := by
  have h31 : ∀ i, i < n → K i < 2147483648 := fun i hi => by have := hK.1 i hi; omega
  obtain ⟨f', g1, g2, g3⟩ := M_forgets_ok (m := (f, w)) hF.1 hn hK.2 h31
  have g2' : ∀ j, j < 5 ∨ 9 ≤ j → f' j = f j := g2
  have g3' : ∀ q, q < 4 → ((∃ i, i < n ∧ nI (K i) = f (5 + q)) → f' (5 + q) = f (5 + q)) ∧ ((∀ i, i < n → nI (K i) ≠ f (5 + q)) → f' (5 + q) = -nI 1) := g3
  refine ⟨f', fun k => f' (5 + k), g1, ⟨hF.1.congr (g2' 0 (by omega)) (fun j j1 _ => g2' j (by omega)), (g2' 1 (by omega)).trans hF.2.1, (g2' 2 (by omega)).trans hF.2.2.1, ⟨(g2' 3 (by omega)).trans hF.2.2.2.1.1, fun k hk => (g2' (9 + k) (by omega)).trans (hF.2.2.2.1.2 k hk)⟩, (g2' 4 (by omega)).trans hF.2.2.2.2.1, fun k hk => rfl, fun i hi => ⟨(g2' (138 + 2 * i) (by omega)).trans (hF.2.2.2.2.2.2 i hi).1, (g2' (138 + 2 * i + 1) (by omega)).trans (hF.2.2.2.2.2.2 i hi).2⟩⟩, fun k hk => ?_⟩
  obtain ⟨m1, m2, m3⟩ := hM k hk
  have e5 := hF.2.2.2.2.2.1 k hk
  by_cases c : ∃ i, i < n ∧ nI (K i) = f (5 + k)
  · have q := (g3' k hk).1 c
    show _ ∧ (f' (5 + k) = -nI 1 ∨ ∃ q, q < nx ∧ f' (5 + k) = nI q) ∧ ∀ i, i < n → (a k = nI (K i) ↔ f' (5 + k) = nI (K i))
    rw [q, e5]
    exact ⟨m1, m2, m3⟩
  · have c' : ∀ i, i < n → nI (K i) ≠ f (5 + k) := fun i hi z => c ⟨i, hi, z⟩
    have q := (g3' k hk).2 c'
    show _ ∧ (f' (5 + k) = -nI 1 ∨ ∃ q, q < nx ∧ f' (5 + k) = nI q) ∧ ∀ i, i < n → (a k = nI (K i) ↔ f' (5 + k) = nI (K i))
    rw [q]
    refine ⟨m1, Or.inl rfl, fun i hi => ⟨fun z => ?_, fun z => absurd z.symm (p_nm1 (h31 i hi))⟩⟩
    exact absurd (e5.trans ((m3 i hi).mp z)).symm (c' i hi)
/-- the part at the place goes, in both -/
theorem out_now {t : Nat} {s : ST} {f : Arr} {w : Arr × Arr × Int32 × Arr × Arr × Int32 × Int32 × Int32 × Int32 × Arr × Arr} (ht : t < 512) {n p wn cn nx : Nat} {L D K W CL CD : Nat → Nat} {a b : Nat → Int32} (hC : CRep s n L D K p wn W cn CL CD nx a) (hF : FRep f n L D K p wn W cn CL CD nx b) (hG : Good (1 + 40 * t) n L D K p wn W cn CL CD nx a b) (h0 : 0 < p) :
    ∃ (s' : ST) (f' f'' : Arr), S_takePlaceOut s = some (nI (endN n D p - p), s') ∧ M_goes (f, w) = some (nI (endN n D p - p), (f', w)) ∧ M_forgets (f', w) = some (f'', w) ∧ NowR (1 + 40 * t) s' f'' := by
  have hn := hG.1.1.2.1
  have hp := hG.2.2.2.1
  have hS := hG.1.1
  have hDD := hS.2.2.2.2
  have hw := hG.2.2.2.2.1
  have hB := hG.2.2.2.2.2.2.2.2
  have hle := endN_le (D := D) hp
  have hgt := endN_gt (D := D) hp
  have hplc := hC.2.2.2.2.2.1
  have hpl : M_place (f, w) = some (nI p) := M_place_now (m := (f, w)) ht hF hG
  have men : M_end (f, w) (nI p) = some (nI (endN n D p)) := M_end_ok (m := (f, w)) hF.1 hn hDD hp
  have key : ∃ q to : Nat, S_placeWithoutPart s = some (nI q) ∧ M_goes (f, w) = M_goes_J48 (f, w) (nI p) (nI (endN n D p - p)) (nI to) ∧ to < n ∧ q < n - (endN n D p - p) ∧ delN p (endN n D p - p) K q = K to := by
    obtain ⟨o, o1, o2, o3, _⟩ := nb1 (m := (f, w)) hC.1 hF.1 hS hp
    obtain ⟨o', u1, u2, u3⟩ := nb0 (m := (f, w)) hC.1 hF.1 hS hp
    have G0 : M_goes (f, w) = if 0 ≤ oI o then M_goes_J34 (f, w) (nI p) (nI (endN n D p - p)) (oI o) else M_goes_J34 (f, w) (nI p) (nI (endN n D p - p)) (oI o') := by
      rw [M_goes, hpl, p_bs, men, p_bs, p_sub (Nat.le_of_lt hgt), o2, p_bs, u2, p_bs]
    cases o with
    | some r =>
      obtain ⟨r1, r2, r3, r4, r5⟩ := o3 r rfl
      have z0 : (0 : Int32) ≤ oI (some r) := by show (0 : Int32) ≤ nI r; rw [p_0]; exact p_0le (by omega)
      refine ⟨p, r, ?_, ?_, r3, by omega, ?_⟩
      · rw [S_placeWithoutPart, hplc, o1, p_bs, if_neg (show ¬ oI (some r) = -1 by show ¬ nI r = -1; rw [p_1]; exact p_nm1 (by omega))]
      · rw [G0, if_pos z0, M_goes_J34, if_pos z0]; rfl
      · rw [delN, if_neg (by omega), show p + (endN n D p - p) = r by omega]
    | none =>
      have z0 : ¬ (0 : Int32) ≤ oI none := by show ¬ (0 : Int32) ≤ -nI 1; rw [p_0]; exact p_n0le
      have z1 : oI none = -1 := by show -nI 1 = -1; rw [p_1]
      cases o' with
      | some r =>
        obtain ⟨r1, r2, r3, r4, r5, r6⟩ := u3 r rfl
        have y0 : (0 : Int32) ≤ oI (some r) := by show (0 : Int32) ≤ nI r; rw [p_0]; exact p_0le (by omega)
        refine ⟨r, r, ?_, ?_, by omega, by omega, ?_⟩
        · rw [S_placeWithoutPart, hplc, o1, p_bs, if_pos z1, u1, p_bs, if_neg (show ¬ oI (some r) = -1 by show ¬ nI r = -1; rw [p_1]; exact p_nm1 (by omega))]; rfl
        · rw [G0, if_neg z0, M_goes_J34, if_pos y0]; rfl
        · rw [delN, if_pos r3]
      | none =>
        have hb := abN_is hS h0 hp
        refine ⟨abN D p, abN D p, ?_, ?_, by omega, by omega, ?_⟩
        · rw [S_placeWithoutPart, hplc, o1, p_bs, if_pos z1, u1, p_bs, if_pos z1, T_above_ok hC.1 hS h0 hp, p_bs, p_0, p_max (by omega) (by omega), Nat.max_eq_left (Nat.zero_le _)]
        · rw [G0, if_neg z0, M_goes_J34, if_neg z0, M_above_ok (m := (f, w)) hF.1 hS h0 hp, p_bs]
        · rw [delN, if_pos hb.1]
  obtain ⟨q, to, k1, k2, k3, k4, k5⟩ := key
  obtain ⟨s', g1, g2⟩ := S_takeNodesOut_ok (s := (s.1, s.2.1, s.2.2.1, s.2.2.2.1, s.2.2.2.2.1, nI q, s.2.2.2.2.2.2)) (p := q) ⟨hC.1, hC.2.1, hC.2.2.1, hC.2.2.2.1, hC.2.2.2.2.1, rfl, hC.2.2.2.2.2.2⟩ hn (Nat.le_of_lt hgt) hle
  obtain ⟨f', f1, f2, f3⟩ := M_del_ok (m := (upd f 2 (nI (K to)), w)) (a := p) (c := endN n D p - p) (hF.1.upd_lo (by omega) (by omega) _) hn (by omega)
  have f3' : ∀ j, 1 ≤ j → (j < 18 ∨ 138 ≤ j) → j ≠ 2 → f' j = f j := fun j j1 j2 j3 => (f3 j j1 j2).trans (p_upd_ne j3)
  have f32 : f' 2 = nI (K to) := (f3 2 (by omega) (by omega)).trans (p_upd_same f 2 (nI (K to)))
  have hK' := Ky_del hG.2.2.1 (a := p) (c := endN n D p - p) (by omega)
  have hM' := Mk_del hG.2.2.2.2.2.2.1 (a := p) (c := endN n D p - p) (by omega)
  have hF' : FRep f' (n - (endN n D p - p)) (delN p (endN n D p - p) L) (delN p (endN n D p - p) D) (delN p (endN n D p - p) K) q wn W cn CL CD nx b :=
    ⟨f2, (f3' 1 (by omega) (by omega) (by omega)).trans hF.2.1, by rw [k5]; exact f32, ⟨(f3' 3 (by omega) (by omega) (by omega)).trans hF.2.2.2.1.1, fun k hk => (f3' (9 + k) (by omega) (by omega) (by omega)).trans (hF.2.2.2.1.2 k hk)⟩, (f3' 4 (by omega) (by omega) (by omega)).trans hF.2.2.2.2.1, fun k hk => (f3' (5 + k) (by omega) (by omega) (by omega)).trans (hF.2.2.2.2.2.1 k hk), fun i hi => ⟨(f3' (138 + 2 * i) (by omega) (by omega) (by omega)).trans (hF.2.2.2.2.2.2 i hi).1, (f3' (138 + 2 * i + 1) (by omega) (by omega) (by omega)).trans (hF.2.2.2.2.2.2 i hi).2⟩⟩
  obtain ⟨f'', b'', q1, q2, q3⟩ := forget_now (w := w) hF' (by omega) hw hK' (by omega) hM'
  refine ⟨s', f', f'', ?_, ?_, q1, _, _, _, _, _, _, _, _, _, _, _, _, _, g2, q2, WF_del hG.1 h0 hp, fun i hi => ?_, hK', k4, hw, hG.2.2.2.2.2.1, q3, hG.2.2.2.2.2.2.2.1, hB⟩
  · rw [S_takePlaceOut, hplc, T_endOf_ok hC.1 hn hDD hp, p_bs, k1, p_bs, g1, p_bs, p_sub (Nat.le_of_lt hgt)]
  · have f1' : M_closes (upd f 2 (nI (K to)), w) (nI p) (nI (endN n D p - p)) = some (f', w) := f1
    rw [k2, M_goes_J48, M_own_in (m := (f, w)) hF.1 hn k3, p_bs, p_bs, p_2, p_ix (by omega)]
    show (M_closes (upd f 2 (nI (K to)), w) (nI p) (nI (endN n D p - p))).bind _ = _
    rw [f1', p_bs]
  · rw [del_id]; exact hG.2.1 _ (by have := del_val (a := p) (c := endN n D p - p) i; omega)
theorem dep0 {n p : Nat} {D : Nat → Nat} (hS : Sh n D) (hp : p < n) : D p = 0 ↔ p = 0 := by
  constructor
  · intro h
    apply Decidable.byContradiction
    intro c
    have := (hS.2.2.2.1 p (by omega) hp).1
    omega
  · rintro rfl; exact hS.2.2.1
theorem sm_delete_ok : sm_delete SimR := by
  intro t x m ht h
  obtain ⟨n, L, D, K, p, wn, W, cn, CL, CD, nx, a, b, hC, hF, hG⟩ := h.2.1
  obtain ⟨b', e1, e2⟩ := M_begins_ok m
  have hn := hG.1.1.2.1
  have hp := hG.2.2.2.1
  have hS := hG.1.1
  have hD := hS.2.2.2.2 p hp
  have hplc := hC.2.2.2.2.2.1
  have hle := endN_le (D := D) hp
  have hpl : M_place (m.1, b', m.2.2) = some (nI p) := M_place_now (m := (m.1, b', m.2.2)) ht hF hG
  have mdp : M_deep (m.1, b', m.2.2) (nI p) = some (nI (D p)) := M_deep_in (m := (m.1, b', m.2.2)) hF.1 hn hp
  by_cases h0 : p = 0
  · refine ⟨-2, x, _, ?_, ?_, sim_err ht h b'⟩
    · rw [P_delete, hplc, h0, if_pos p_0.symm]
    · rw [M_delete, e1, p_bs, hpl, p_bs, mdp, p_bs, (dep0 hS hp).mpr h0, if_pos p_0.symm]
  · have hd0 : ¬ D p = 0 := fun z => h0 ((dep0 hS hp).mp z)
    obtain ⟨h', k1, k2⟩ := sim_rec ht h
    obtain ⟨s', f', f'', g1, g2, g3, g4⟩ := out_now (w := (b', m.2.2)) ht hC hF hG (by omega)
    obtain ⟨m', q1, q2⟩ := k2 b' f'' m.2.2.2.2 s' x.2.2.2 (endN n D p - p) e2 rfl rfl (g4.mono (by omega) (fun j _ => rfl)) (by omega)
    refine ⟨nI (endN n D p - p), _, m', ?_, ?_, q2⟩
    · rw [P_delete, if_neg (show ¬ x.1.2.2.2.2.2.1 = 0 by rw [hplc, p_0, p_eq (by omega) (by omega)]; exact h0), k1, p_bs, g1, p_bs]
    · rw [M_delete, e1, p_bs, hpl, p_bs, mdp, p_bs, if_neg (show ¬ nI (D p) = 0 by rw [p_0, p_eq (by omega) (by omega)]; exact hd0), g2, p_bs]
      show (M_forgets (f', b', m.2.2)).bind _ = _
      rw [g3, p_bs]
      show (M_acted (f'', b', m.2.2) (nI (endN n D p - p))).bind _ = _
      rw [q1, p_bs]
theorem sm_cut_ok : sm_cut SimR := by
  intro t x m ht h
  obtain ⟨n, L, D, K, p, wn, W, cn, CL, CD, nx, a, b, hC, hF, hG⟩ := h.2.1
  obtain ⟨b', e1, e2⟩ := M_begins_ok m
  have hn := hG.1.1.2.1
  have hp := hG.2.2.2.1
  have hS := hG.1.1
  have hD := hS.2.2.2.2 p hp
  have hplc := hC.2.2.2.2.2.1
  have hle := endN_le (D := D) hp
  have hpl : M_place (m.1, b', m.2.2) = some (nI p) := M_place_now (m := (m.1, b', m.2.2)) ht hF hG
  have mdp : M_deep (m.1, b', m.2.2) (nI p) = some (nI (D p)) := M_deep_in (m := (m.1, b', m.2.2)) hF.1 hn hp
  by_cases h0 : p = 0
  · refine ⟨-2, x, _, ?_, ?_, sim_err ht h b'⟩
    · rw [P_cut, hplc, h0, if_pos p_0.symm]
    · rw [M_cut, e1, p_bs, hpl, p_bs, mdp, p_bs, (dep0 hS hp).mpr h0, if_pos p_0.symm]
  · have hd0 : ¬ D p = 0 := fun z => h0 ((dep0 hS hp).mp z)
    obtain ⟨h', k1, k2⟩ := sim_rec ht h
    obtain ⟨c', fc, c1, c2, c3, c4, c5⟩ := clip_now (m := (m.1, b', m.2.2)) ht hC hF hG
    obtain ⟨s', f', f'', g1, g2, g3, g4⟩ := out_now (w := (b', m.2.2)) ht c3 c4 c5 (by omega)
    obtain ⟨m', q1, q2⟩ := k2 b' f'' m.2.2.2.2 s' x.2.2.2 (endN n D p - p) e2 rfl rfl (g4.mono (by omega) (fun j _ => rfl)) (by omega)
    refine ⟨nI (endN n D p - p), _, m', ?_, ?_, q2⟩
    · rw [P_cut, if_neg (show ¬ x.1.2.2.2.2.2.1 = 0 by rw [hplc, p_0, p_eq (by omega) (by omega)]; exact h0), k1, p_bs]
      rw [hplc, c1, p_bs, ← hplc]
      show (S_takePlaceOut (x.1.1, c', x.1.2.2)).bind _ = _
      rw [g1, p_bs]
    · rw [M_cut, e1, p_bs, hpl, p_bs, mdp, p_bs, if_neg (show ¬ nI (D p) = 0 by rw [p_0, p_eq (by omega) (by omega)]; exact hd0), c2, p_bs]
      show (M_goes (fc, b', m.2.2)).bind _ = _
      rw [g2, p_bs]
      show (M_forgets (f', b', m.2.2)).bind _ = _
      rw [g3, p_bs]
      show (M_acted (f'', b', m.2.2) (nI (endN n D p - p))).bind _ = _
      rw [q1, p_bs]
