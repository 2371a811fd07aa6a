/-! the walks -/
theorem p_nm1 {q : Nat} (h : q < 2147483648) : ¬ nI q = -nI 1 := by rw [p_m1 h]; exact id
theorem p_0le {q : Nat} (h : q < 2147483648) : nI 0 ≤ nI q := by rw [p_le (by omega) h]; omega
theorem p_n0le : ¬ nI 0 ≤ -nI 1 := by decide
theorem Good.hK {B n p wn cn nx : Nat} {L D K W CL CD : Nat → Nat} {a b : Nat → Int32} (h : Good B n L D K p wn W cn CL CD nx a b) (hB : B ≤ 100000) : ∀ i, i < n → K i < 2147483648 := fun i hi => by
  have h1 := h.2.2.1.1 i hi
  have h2 := h.2.2.2.2.2.2.2.2
  omega
theorem M_place_now {m : MD} {t n p wn cn nx : Nat} {L D K W CL CD : Nat → Nat} {a b : Nat → Int32} (ht : t < 512) (hF : FRep m.1 n L D K p wn W cn CL CD nx b) (hG : Good (1 + 40 * t) n L D K p wn W cn CL CD nx a b) : M_place m = some (nI p) :=
  M_place_ok hF.1 hG.1.1.2.1 hG.2.2.1.2 (hG.hK (by omega)) hG.2.2.2.1 hF.2.2.1
theorem walk_sim {t : Nat} {x : TP} {m : MD} (ht : t < 512) (h : SimR t x m) {n p wn cn nx : Nat} {L D K W CL CD : Nat → Nat} {a b : Nat → Int32} (hC : CRep x.1 n L D K p wn W cn CL CD nx a) (hF : FRep m.1 n L D K p wn W cn CL CD nx b) (hG : Good (1 + 40 * t) n L D K p wn W cn CL CD nx a b) {q : Nat} (hq : q < n) (b' : Arr) (hb : ∀ j, j < 218 → b' j = m.1 j) :
    ∃ (x' : TP) (f' : Arr), P_walk x (nI q) = some (nI q, x') ∧ M_walks (m.1, b', m.2.2) (nI q) = some (nI q, (f', b', m.2.2)) ∧ ∀ r : Nat, r < 2147483648 → ∃ m', M_acted (f', b', m.2.2) (nI r) = some (nI r, m') ∧ SimR (t + 1) x' m' := by
  obtain ⟨h', k1, k2⟩ := sim_rec ht h
  have hn := hG.1.1.2.1
  have hp := hG.2.2.2.1
  have hw := hG.2.2.2.2.1
  have hq31 : q < 2147483648 := by omega
  by_cases e : q = p
  · subst e
    refine ⟨(x.1, h', x.2.2.1, x.2.2.2), m.1, ?_, ?_, fun r hr => ?_⟩
    · rw [P_walk, p_1, if_neg (p_nm1 hq31), k1, p_bs, S_walkTo_same hC.2.2.2.2.2.1, p_bs]
    · exact M_walks_same (m := (m.1, b', m.2.2)) hF.1 hn hq hF.2.2.1
    · exact k2 b' m.1 m.2.2.2.2 x.1 x.2.2.2 r hb rfl rfl (h.2.1.mono (by omega) (fun j _ => rfl)) hr
  · obtain ⟨s', g1, g2⟩ := S_walkTo_ok hC hn hp hw hq e
    obtain ⟨f', e1, e2, e3, e4, e5⟩ := M_walks_ok (m := (m.1, b', m.2.2)) hF.1 hn hq hp e hG.2.2.1.2 (hG.hK (by omega)) hF.2.2.1 hw hF.2.2.2.1
    have e5' : ∀ j, j ≠ 2 → j ≠ 3 → (j < 9 ∨ 17 ≤ j) → f' j = m.1 j := e5
    refine ⟨(s', h', x.2.2.1, x.2.2.2), f', ?_, e1, fun r hr => ?_⟩
    · rw [P_walk, p_1, if_neg (p_nm1 hq31), k1, p_bs, g1, p_bs]
    · refine k2 b' f' m.2.2.2.2 s' x.2.2.2 r hb rfl rfl ⟨n, L, D, K, q, wkN wn, wkW wn (K p) W, cn, CL, CD, nx, a, b, g2, ⟨e2, ?_, e3, e4, ?_, fun k hk => ?_, fun i hi => ?_⟩, hG.1, hG.2.1, hG.2.2.1, hq, ?_, fun k hk => ?_, hG.2.2.2.2.2.2.1, hG.2.2.2.2.2.2.2.1, ?_⟩ hr
      · rw [e5' 1 (by omega) (by omega) (by omega)]; exact hF.2.1
      · rw [e5' 4 (by omega) (by omega) (by omega)]; exact hF.2.2.2.2.1
      · rw [e5' (5 + k) (by omega) (by omega) (by omega)]; exact hF.2.2.2.2.2.1 k hk
      · rw [e5' (138 + 2 * i) (by omega) (by omega) (by omega), e5' (138 + 2 * i + 1) (by omega) (by omega) (by omega)]; exact hF.2.2.2.2.2.2 i hi
      · rw [wkN]
        by_cases y : wn = 8
        · rw [if_pos y]; omega
        · rw [if_neg y]; omega
      · rw [wkN] at hk
        rw [wkW]
        have hkp := hG.2.2.1.1 p hp
        by_cases y : wn = 8
        · rw [if_pos y] at hk ⊢
          by_cases y2 : k < 7
          · rw [if_pos y2]; exact hG.2.2.2.2.2.1 (k + 1) (by omega)
          · rw [if_neg y2]; exact hkp
        · rw [if_neg y] at hk ⊢
          by_cases y2 : k < wn
          · rw [if_pos y2]; exact hG.2.2.2.2.2.1 k y2
          · rw [if_neg y2]; exact hkp
      · have := hG.2.2.2.2.2.2.2.2; omega
theorem sm_down_ok : sm_down SimR := by
  intro t x m x1 ht h
  obtain ⟨n, L, D, K, p, wn, W, cn, CL, CD, nx, a, b, hC, hF, hG⟩ := h.2.1
  obtain ⟨b', e1, e2⟩ := M_begins_ok m
  have hn := hG.1.1.2.1
  have hp := hG.2.2.2.1
  have hD := hG.1.1.2.2.2.2
  have hpl : M_place (m.1, b', m.2.2) = some (nI p) := M_place_now (m := (m.1, b', m.2.2)) ht hF hG
  rcases p_cases x1 with hx | ⟨c, hc, rfl⟩
  · refine ⟨-1, x, _, ?_, ?_, sim_err ht h b'⟩
    · rw [P_down, p_0, if_neg (Int32.not_le.mpr hx)]
    · rw [M_down, e1, p_bs, p_0, if_neg (Int32.not_le.mpr hx)]
  · by_cases hcc : c < chN n D p
    · have hk := kidN_lt hp hcc
      have he := endN_le (D := D) hp
      obtain ⟨x', f', g1, g2, g3⟩ := walk_sim ht h hC hF hG (show kidN n D p c < n by omega) b' e2
      obtain ⟨m', g4, g5⟩ := g3 (kidN n D p c) (by omega)
      refine ⟨nI (kidN n D p c), x', m', ?_, ?_, g5⟩
      · rw [P_down, p_0, if_pos (p_0le hc), hC.2.2.2.2.2.1, T_childAt_in hC.1 hn hD hp hcc, p_bs, g1, p_bs]
      · have hch : chN n D p < 2147483648 := by have := lim_at hG.1.2 hp; omega
        rw [M_down, e1, p_bs, p_0, if_pos (p_0le hc), hpl, p_bs, M_children_ok (m := (m.1, b', m.2.2)) hF.1 hn hD hp, p_bs, if_pos (by rw [p_lt hc hch]; exact hcc), M_childOf_ok (m := (m.1, b', m.2.2)) hF.1 hG.1.1 hp (Nat.le_of_lt hcc), p_bs, g2, p_bs]
        show (M_acted (f', b', m.2.2) (nI _)).bind _ = _
        rw [g4, p_bs]
    · have hch : chN n D p < 2147483648 := by have := lim_at hG.1.2 hp; omega
      refine ⟨-2, x, _, ?_, ?_, sim_err ht h b'⟩
      · rw [P_down, p_0, if_pos (p_0le hc), hC.2.2.2.2.2.1, T_childAt_out hC.1 hn hD hp (by omega) hc, p_bs, P_walk, p_1, if_pos rfl, p_bs]
      · rw [M_down, e1, p_bs, p_0, if_pos (p_0le hc), hpl, p_bs, M_children_ok (m := (m.1, b', m.2.2)) hF.1 hn hD hp, p_bs, if_neg (by rw [p_lt hc hch]; exact hcc)]
theorem sm_up_ok : sm_up SimR := by
  intro t x m ht h
  obtain ⟨n, L, D, K, p, wn, W, cn, CL, CD, nx, a, b, hC, hF, hG⟩ := h.2.1
  obtain ⟨b', e1, e2⟩ := M_begins_ok m
  have hn := hG.1.1.2.1
  have hp := hG.2.2.2.1
  have hpl : M_place (m.1, b', m.2.2) = some (nI p) := M_place_now (m := (m.1, b', m.2.2)) ht hF hG
  by_cases h0 : p = 0
  · subst h0
    refine ⟨-2, x, _, ?_, ?_, sim_err ht h b'⟩
    · rw [P_up, hC.2.2.2.2.2.1, T_above_top hC.1 hG.1.1, p_bs, P_walk, p_1, if_pos rfl, p_bs]
    · rw [M_up, e1, p_bs, hpl, p_bs, M_above_top, p_bs, p_0, if_neg p_n0le]
  · have h0' : 0 < p := by omega
    obtain ⟨x', f', g1, g2, g3⟩ := walk_sim ht h hC hF hG (show abN D p < n by have := (abN_is hG.1.1 h0' hp).1; omega) b' e2
    have hab : abN D p < n := by have := (abN_is hG.1.1 h0' hp).1; omega
    obtain ⟨m', g4, g5⟩ := g3 (abN D p) (by omega)
    refine ⟨nI (abN D p), x', m', ?_, ?_, g5⟩
    · rw [P_up, hC.2.2.2.2.2.1, T_above_ok hC.1 hG.1.1 h0' hp, p_bs, g1, p_bs]
    · rw [M_up, e1, p_bs, hpl, p_bs, M_above_ok (m := (m.1, b', m.2.2)) hF.1 hG.1.1 h0' hp, p_bs, p_0, if_pos (p_0le (by omega)), g2, p_bs]
      show (M_acted (f', b', m.2.2) (nI _)).bind _ = _
      rw [g4, p_bs]
/-- the nodes beside -/
theorem nb1 {t : TR} {m : MD} {n p : Nat} {L D K : Nat → Nat} (hT : TRep t n L D) (hM : MRep m.1 n L D K) (hS : Sh n D) (hp : p < n) :
    ∃ o : Option Nat, T_neighbour t (nI p) 1 = some (oI o) ∧ M_besides m (nI p) 1 = some (oI o) ∧ (∀ r, o = some r → 0 < p ∧ p < r ∧ r < n ∧ r = endN n D p ∧ D r = D p) ∧ (o = none → ¬ (endN n D p < n ∧ D (endN n D p) = D p)) := by
  have h1 := T_next_ok hT hS.2.1 hS.2.2.2.2 hp
  have h2 := M_besides_1 hM hS.2.1 hS.2.2.2.2 hp
  by_cases c : endN n D p < n ∧ D (endN n D p) = D p
  · rw [if_pos c] at h1 h2
    refine ⟨some (endN n D p), ?_, ?_, fun r hr => ?_, fun hr => by cases hr⟩
    · rw [T_neighbour, if_pos rfl, h1, p_bs]; rfl
    · rw [p_1]; exact h2
    · cases hr
      have g := endN_gt (D := D) hp
      have d := (hS.2.2.2.1 (endN n D p) (by omega) c.1).1
      have d0 := hS.2.2.1
      refine ⟨?_, g, c.1, rfl, c.2⟩
      apply Nat.pos_of_ne_zero
      intro hz
      rw [hz] at c d
      omega
  · rw [if_neg c] at h1 h2
    refine ⟨none, ?_, ?_, fun r hr => (by cases hr), fun _ => c⟩
    · rw [T_neighbour, if_pos rfl, h1, p_bs]; rfl
    · rw [p_1]; exact h2
theorem nb0 {t : TR} {m : MD} {n p : Nat} {L D K : Nat → Nat} (hT : TRep t n L D) (hM : MRep m.1 n L D K) (hS : Sh n D) (hp : p < n) :
    ∃ o : Option Nat, T_neighbour t (nI p) 0 = some (oI o) ∧ M_besides m (nI p) 0 = some (oI o) ∧ ∀ r, o = some r → 0 < p ∧ 0 < r ∧ r < p ∧ endN n D r = p ∧ D r = D p ∧ abN D p < r := by
  by_cases h0 : p = 0
  · subst h0
    refine ⟨none, ?_, ?_, fun r hr => by cases hr⟩
    · rw [T_neighbour, if_neg (by decide), T_ahead_top, p_bs]; rfl
    · rw [p_0]; exact M_besides_top hM
  · have h0' : 0 < p := by omega
    have h1 := T_ahead_ok hT hS h0' hp
    have h2 := M_besides_0 hM hS h0' hp
    refine ⟨ahdN D p, ?_, ?_, fun r hr => ?_⟩
    · rw [T_neighbour, if_neg (by decide), h1, p_bs]
    · rw [p_0]; exact h2
    · have hs := ahN_some _ _ _ hr
      have hb := abN_is hS h0' hp
      have hrp : r < p := by omega
      refine ⟨h0', by omega, hrp, ?_, hs.2.2.1, by omega⟩
      refine IsEnd.uniq (endN_is (show r < n by omega)) ⟨by omega, by omega, fun j j1 j2 => ?_, fun _ => by omega⟩
      have q1 := hb.2.2 j (by omega) (by omega)
      have q2 := hs.2.2.2 j (by omega) (by omega)
      omega
theorem nb_lt {o : Option Nat} {n : Nat} (h : ∀ r, o = some r → r < n) : (o = none ∧ oI o = -nI 1) ∨ ∃ r, o = some r ∧ r < n ∧ oI o = nI r := by
  cases o with
  | none => exact Or.inl ⟨rfl, rfl⟩
  | some r => exact Or.inr ⟨r, rfl, h r rfl, rfl⟩
theorem sm_side_ok : sm_side SimR := by
  intro t x m x1 ht h
  obtain ⟨n, L, D, K, p, wn, W, cn, CL, CD, nx, a, b, hC, hF, hG⟩ := h.2.1
  obtain ⟨b', e1, e2⟩ := M_begins_ok m
  have hn := hG.1.1.2.1
  have hp := hG.2.2.2.1
  have hpl : M_place (m.1, b', m.2.2) = some (nI p) := M_place_now (m := (m.1, b', m.2.2)) ht hF hG
  rcases P_isChoice_ok x1 with ⟨i1, i2⟩ | ⟨hx, i1, i2⟩
  · refine ⟨-1, x, _, ?_, ?_, sim_err ht h b'⟩
    · rw [P_side, i1, p_bs, if_pos rfl]
    · rw [M_side, e1, p_bs, i2, p_bs, if_pos rfl]
  · have key : ∃ o : Option Nat, T_neighbour x.1.1 (nI p) x1 = some (oI o) ∧ (if x1 = 1 then M_side_J30 (m.1, b', m.2.2) (nI p) 1 else M_side_J30 (m.1, b', m.2.2) (nI p) 0) = M_side_J30 (m.1, b', m.2.2) (nI p) x1 ∧ M_besides (m.1, b', m.2.2) (nI p) x1 = some (oI o) ∧ ∀ r, o = some r → r < n := by
      rcases hx with rfl | rfl
      · obtain ⟨o, o1, o2, o3⟩ := nb0 (m := (m.1, b', m.2.2)) hC.1 hF.1 hG.1.1 hp
        exact ⟨o, o1, by rw [if_neg (by decide)], o2, fun r hr => by have := (o3 r hr).2.2.1; omega⟩
      · obtain ⟨o, o1, o2, o3, _⟩ := nb1 (m := (m.1, b', m.2.2)) hC.1 hF.1 hG.1.1 hp
        exact ⟨o, o1, by rw [if_pos rfl], o2, fun r hr => (o3 r hr).2.2.1⟩
    obtain ⟨o, o1, o2, o3, o4⟩ := key
    rcases nb_lt o4 with ⟨_, q2⟩ | ⟨r, _, q1, q2⟩
    · refine ⟨-2, x, _, ?_, ?_, sim_err ht h b'⟩
      · rw [P_side, i1, p_bs, if_neg p_ne01, hC.2.2.2.2.2.1, o1, p_bs, q2, P_walk, p_1, if_pos rfl, p_bs]
      · rw [M_side, e1, p_bs, i2, p_bs, if_neg p_ne01, hpl, p_bs, o2, M_side_J30, o3, p_bs, q2, p_0, if_neg p_n0le]
    · obtain ⟨x', f', g1, g2, g3⟩ := walk_sim ht h hC hF hG q1 b' e2
      obtain ⟨m', g4, g5⟩ := g3 r (by omega)
      refine ⟨nI r, x', m', ?_, ?_, g5⟩
      · rw [P_side, i1, p_bs, if_neg p_ne01, hC.2.2.2.2.2.1, o1, p_bs, q2, g1, p_bs]
      · rw [M_side, e1, p_bs, i2, p_bs, if_neg p_ne01, hpl, p_bs, o2, M_side_J30, o3, p_bs, q2, p_0, if_pos (p_0le (by omega)), g2, p_bs]
        show (M_acted (f', b', m.2.2) (nI _)).bind _ = _
        rw [g4, p_bs]
/-! is it a node -/
theorem M_isNode_neg {m : MD} {x : Int32} (hx : x < nI 0) : M_isNode m x = some 0 := by
  rw [M_isNode, M_in, if_pos (show x < 0 from hx), p_bs, if_pos (Or.inl rfl)]
theorem M_isNode_in {m : MD} {n i : Nat} {L D K : Nat → Nat} (h : MRep m.1 n L D K) (hn : n ≤ 40) (hi : i < n) : M_isNode m (nI i) = some 1 := by
  rw [M_isNode, M_many h, M_in, p_0, p_1, p_sub (by omega), if_neg (by rw [p_lt (by omega) (by omega)]; omega), if_neg (by rw [p_lt (by omega) (by omega)]; omega), p_bs, if_pos (Or.inr rfl)]
theorem M_isNode_out {m : MD} {n i : Nat} {L D K : Nat → Nat} (h : MRep m.1 n L D K) (hn1 : 1 ≤ n) (hn : n ≤ 40) (hi : n ≤ i) (h2 : i < 2147483648) : M_isNode m (nI i) = some 0 := by
  rw [M_isNode, M_many h, M_in, p_0, p_1, p_sub (by omega), if_neg (by rw [p_lt (by omega) (by omega)]; omega), if_pos (by rw [p_lt (by omega) (by omega)]; omega), p_bs, if_pos (Or.inl rfl)]
theorem step_to {t : Nat} {x : TP} {m : MD} (ht : t < 512) (h : SimR t x m) {n p wn cn nx : Nat} {L D K W CL CD : Nat → Nat} {a b : Nat → Int32} (hC : CRep x.1 n L D K p wn W cn CL CD nx a) (hF : FRep m.1 n L D K p wn W cn CL CD nx b) (hG : Good (1 + 40 * t) n L D K p wn W cn CL CD nx a b) (b' : Arr) (hb : ∀ j, j < 218 → b' j = m.1 j) (v s0 s1 : Int32) (hv : s0 + s1 = v) (hc : v < nI 0 ∨ ∃ q, q < 100 ∧ v = nI q) :
    ∃ (r : Int32) (x' : TP) (m' : MD), P_step_J35 x v = some (r, x') ∧ M_step_J29 (m.1, b', m.2.2) s0 s1 = some (r, m') ∧ SimR (t + 1) x' m' := by
  have hn := hG.1.1.2.1
  have out : T_has x.1.1 v = some (nI 0) → M_isNode (m.1, b', m.2.2) v = some 0 → ∃ (r : Int32) (x' : TP) (m' : MD), P_step_J35 x v = some (r, x') ∧ M_step_J29 (m.1, b', m.2.2) s0 s1 = some (r, m') ∧ SimR (t + 1) x' m' := fun k1 k2 => by
    refine ⟨-2, x, _, ?_, ?_, sim_err ht h b'⟩
    · rw [P_step_J35, k1, p_bs, p_0, if_pos rfl, P_walk, p_1, if_pos rfl, p_bs]
    · rw [M_step_J29, hv, k2, p_bs, if_pos rfl]
  rcases hc with hx | ⟨q, q1, rfl⟩
  · exact out (T_has_neg hx) (M_isNode_neg hx)
  · by_cases hq : q < n
    · obtain ⟨x', f', g1, g2, g3⟩ := walk_sim ht h hC hF hG hq b' hb
      obtain ⟨m', g4, g5⟩ := g3 q (by omega)
      refine ⟨nI q, x', m', ?_, ?_, g5⟩
      · rw [P_step_J35, T_has_in hC.1 hn hq, p_bs, p_0, if_neg (by rw [p_eq (by omega) (by omega)]; omega), g1, p_bs]
      · rw [M_step_J29, hv, M_isNode_in (m := (m.1, b', m.2.2)) hF.1 hn hq, p_bs, if_neg p_ne01, g2, p_bs]
        show (M_acted (f', b', m.2.2) (nI _)).bind _ = _
        rw [g4, p_bs]
    · exact out (T_has_out hC.1 hn (by omega) (by omega)) (M_isNode_out (m := (m.1, b', m.2.2)) hF.1 hG.1.1.1 hn (by omega) (by omega))
theorem sm_step_ok : sm_step SimR := by
  intro t x m x1 ht h
  obtain ⟨n, L, D, K, p, wn, W, cn, CL, CD, nx, a, b, hC, hF, hG⟩ := h.2.1
  obtain ⟨b', e1, e2⟩ := M_begins_ok m
  have hn := hG.1.1.2.1
  have hp := hG.2.2.2.1
  have hpl : M_place (m.1, b', m.2.2) = some (nI p) := M_place_now (m := (m.1, b', m.2.2)) ht hF hG
  rcases P_isChoice_ok x1 with ⟨i1, i2⟩ | ⟨hx, i1, i2⟩
  · refine ⟨-1, x, _, ?_, ?_, sim_err ht h b'⟩
    · rw [P_step, i1, p_bs, if_pos rfl]
    · rw [M_step, e1, p_bs, i2, p_bs, if_pos rfl]
  · rcases hx with rfl | rfl
    · obtain ⟨r, x', m', g1, g2, g3⟩ := step_to ht h hC hF hG b' e2 (nI p - 1) (nI p) (-1) (Int32.sub_eq_add_neg _ _).symm (by
        by_cases h0 : p = 0
        · subst h0; exact Or.inl (by decide)
        · exact Or.inr ⟨p - 1, by omega, by rw [p_1, p_sub (by omega)]⟩)
      refine ⟨r, x', m', ?_, ?_, g3⟩
      · rw [P_step, i1, p_bs, if_neg p_ne01, if_neg (by decide), hC.2.2.2.2.2.1]; exact g1
      · rw [M_step, e1, p_bs, i2, p_bs, if_neg p_ne01, hpl, p_bs, if_neg (by decide)]; exact g2
    · obtain ⟨r, x', m', g1, g2, g3⟩ := step_to ht h hC hF hG b' e2 (nI p + 1) (nI p) 1 rfl (Or.inr ⟨p + 1, by omega, by rw [p_1, p_add]⟩)
      refine ⟨r, x', m', ?_, ?_, g3⟩
      · rw [P_step, i1, p_bs, if_neg p_ne01, if_pos rfl, hC.2.2.2.2.2.1]; exact g1
      · rw [M_step, e1, p_bs, i2, p_bs, if_neg p_ne01, hpl, p_bs, if_pos rfl]; exact g2
theorem sm_top_ok : sm_top SimR := by
  intro t x m ht h
  obtain ⟨n, L, D, K, p, wn, W, cn, CL, CD, nx, a, b, hC, hF, hG⟩ := h.2.1
  obtain ⟨b', e1, e2⟩ := M_begins_ok m
  have hn := hG.1.1.2.1
  have hp := hG.2.2.2.1
  have hD := hG.1.1.2.2.2.2 p hp
  have hpl : M_place (m.1, b', m.2.2) = some (nI p) := M_place_now (m := (m.1, b', m.2.2)) ht hF hG
  have hdm : M_deep (m.1, b', m.2.2) (nI p) = some (nI (D p)) := M_deep_in (m := (m.1, b', m.2.2)) hF.1 hn hp
  by_cases h0 : D p = 0
  · refine ⟨-2, x, _, ?_, ?_, sim_err ht h b'⟩
    · rw [P_top, hC.2.2.2.2.2.1, T_depthOf_in hC.1 hn hp, p_bs, h0, p_0, if_pos rfl]
    · rw [M_top, e1, p_bs, hpl, p_bs, hdm, p_bs, h0, p_0, if_pos rfl]
  · obtain ⟨x', f', g1, g2, g3⟩ := walk_sim ht h hC hF hG (show 0 < n by omega) b' e2
    obtain ⟨m', g4, g5⟩ := g3 (D p) (by omega)
    refine ⟨nI (D p), x', m', ?_, ?_, g5⟩
    · rw [P_top, hC.2.2.2.2.2.1, T_depthOf_in hC.1 hn hp, p_bs, p_0, if_neg (by rw [p_eq (by omega) (by omega)]; exact h0), g1, p_bs]
    · rw [M_top, e1, p_bs, hpl, p_bs, hdm, p_bs, p_0, if_neg (by rw [p_eq (by omega) (by omega)]; exact h0), g2, p_bs]
      show (M_acted (f', b', m.2.2) (nI _)).bind _ = _
      rw [g4, p_bs]
/-- the number of a mark is the same in both -/
theorem noN_mark {n nx k : Nat} {K : Nat → Nat} {a b : Nat → Int32} (hM : MkR n K nx a b) (hK : KyR n K nx) (hx : nx ≤ 100000) (hk : k < 4) {x y : Int32} (h : noN n K (a k) x) (h' : noN n K (b k) y) : x = y := by
  have e := (hM k hk).2.2
  rcases h with ⟨a1, a2⟩ | ⟨i, a1, a2, a3⟩
  · rcases h' with ⟨b1, b2⟩ | ⟨j, b1, b2, b3⟩
    · rw [a1, b1]
    · exact absurd ((e j b1).mpr b2.symm).symm (a2 j b1)
  · have h1 := (e i a1).mp a2.symm
    rcases h' with ⟨b1, b2⟩ | ⟨j, b1, b2, b3⟩
    · exact absurd h1.symm (b2 i a1)
    · have q := b2.trans h1
      have k1 := hK.1 i a1
      have k2 := hK.1 j b1
      rw [p_eq (by omega) (by omega)] at q
      rw [a3, b3, hK.2 j i b1 a1 q]
theorem mark_num {t : Nat} {x : TP} {m : MD} (ht : t < 512) {n p wn cn nx : Nat} {L D K W CL CD : Nat → Nat} {a b : Nat → Int32} (hC : CRep x.1 n L D K p wn W cn CL CD nx a) (hF : FRep m.1 n L D K p wn W cn CL CD nx b) (hG : Good (1 + 40 * t) n L D K p wn W cn CL CD nx a b) {k : Nat} (hk : k < 4) :
    ∃ o : Option Nat, S_numberOfMark x.1 (nI k) = some (oI o) ∧ M_numberOf m (b k) = some (oI o) ∧ (∀ r, o = some r → r < n) := by
  have hn := hG.1.1.2.1
  have hx := hG.2.2.2.2.2.2.2.2
  obtain ⟨v, v1, v2⟩ := S_numberOfKey_ok hC.2.2.1 hn (a k)
  obtain ⟨w, w1, w2⟩ := M_numberOf_ok hF.1 hn (b k) hG.2.2.1.2 (hG.hK (by omega))
  have e := noN_mark hG.2.2.2.2.2.2.1 hG.2.2.1 (by omega) hk v2 w2
  subst e
  have s1 : S_numberOfMark x.1 (nI k) = some v := by
    rw [S_numberOfMark, R_at_in hC.2.2.2.2.1 (Nat.le_refl 4) (by omega) hk, p_bs, v1, p_bs]
  rcases v2 with ⟨q1, _⟩ | ⟨i, q1, _, q3⟩
  · exact ⟨none, s1.trans (by rw [q1]; rfl), w1.trans (by rw [q1]; rfl), fun r hr => by cases hr⟩
  · exact ⟨some i, s1.trans (by rw [q3]; rfl), w1.trans (by rw [q3]; rfl), fun r hr => by cases hr; exact q1⟩
theorem mark_ix {k : Nat} (hk : k < 4) : ¬ ((5 + nI k) < 0 ∨ 218 ≤ ix (5 + nI k)) := by
  rw [p_5, p_0, p_add, p_ix (by omega), p_lt (by omega) (by omega)]; omega
theorem mark_at {m : MD} {n p wn cn nx : Nat} {L D K W CL CD : Nat → Nat} {b : Nat → Int32} (hF : FRep m.1 n L D K p wn W cn CL CD nx b) {k : Nat} (hk : k < 4) : m.1 (ix (5 + nI k)) = b k := by
  rw [p_5, p_add, p_ix (by omega)]; exact hF.2.2.2.2.2.1 k hk
theorem sm_goTo_ok : sm_goTo SimR := by
  intro t x m x1 ht h
  obtain ⟨n, L, D, K, p, wn, W, cn, CL, CD, nx, a, b, hC, hF, hG⟩ := h.2.1
  obtain ⟨b', e1, e2⟩ := M_begins_ok m
  have hn := hG.1.1.2.1
  rcases P_isMark_ok x1 with ⟨i1, i2⟩ | ⟨k, hk, rfl, i1, i2⟩
  · refine ⟨-1, x, _, ?_, ?_, sim_err ht h b'⟩
    · rw [P_goTo, i1, p_bs, if_pos rfl]
    · rw [M_goTo, e1, p_bs, i2, p_bs, if_pos rfl]
  · obtain ⟨o, o1, o2, o3⟩ := mark_num (m := (m.1, b', m.2.2)) ht hC hF hG hk
    rcases nb_lt o3 with ⟨_, q2⟩ | ⟨r, _, q1, q2⟩
    · refine ⟨-2, x, _, ?_, ?_, sim_err ht h b'⟩
      · rw [P_goTo, i1, p_bs, if_neg p_ne01, o1, p_bs, q2, P_walk, p_1, if_pos rfl, p_bs]
      · rw [M_goTo, e1, p_bs, i2, p_bs, if_neg p_ne01, if_neg (mark_ix hk), mark_at (m := (m.1, b', m.2.2)) hF hk, o2, p_bs, q2, p_0, if_neg p_n0le]
    · obtain ⟨x', f', g1, g2, g3⟩ := walk_sim ht h hC hF hG q1 b' e2
      obtain ⟨m', g4, g5⟩ := g3 r (by omega)
      refine ⟨nI r, x', m', ?_, ?_, g5⟩
      · rw [P_goTo, i1, p_bs, if_neg p_ne01, o1, p_bs, q2, g1, p_bs]
      · rw [M_goTo, e1, p_bs, i2, p_bs, if_neg p_ne01, if_neg (mark_ix hk), mark_at (m := (m.1, b', m.2.2)) hF hk, o2, p_bs, q2, p_0, if_pos (p_0le (by omega)), g2, p_bs]
        show (M_acted (f', b', m.2.2) (nI _)).bind _ = _
        rw [g4, p_bs]
