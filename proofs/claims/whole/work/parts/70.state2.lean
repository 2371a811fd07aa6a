/-! the component's state: links in, out, exchanged -/
theorem S_putNodeIn_ok {s : ST} {n p wn cn nx : Nat} {L D K W CL CD : Nat → Nat} {a : Nat → Int32} (h : CRep s n L D K p wn W cn CL CD nx a) (hn : n < 40) {i : Nat} (hi : i ≤ n) (l d : Nat) :
    ∃ s', S_putNodeIn s (nI i) (nI l) (nI d) = some s' ∧ CRep s' (n + 1) (insN i l L) (insN i d D) (insN i nx K) p wn W cn CL CD (nx + 1) a := by
  obtain ⟨h1, h2, h3, h4, h5, h6, h7⟩ := h
  obtain ⟨t', g1, g2⟩ := T_putIn_ok h1 hn hi l d
  obtain ⟨r', f1, f2⟩ := R_putIn_ok (cap := 40) h3 (nI nx) hn (by omega) hi
  refine ⟨(t', s.2.1, r', s.2.2.2.1, s.2.2.2.2.1, s.2.2.2.2.2.1, nI (nx + 1)), ?_, g2, h2, f2.congr fun j _ => ins_nR _ _ _ j, h4, h5, h6, rfl⟩
  rw [S_putNodeIn, g1, p_bs, h7, f1, p_bs, p_1, p_add]
theorem S_takeNodesOut_ok {s : ST} {n p wn cn nx : Nat} {L D K W CL CD : Nat → Nat} {a : Nat → Int32} (h : CRep s n L D K p wn W cn CL CD nx a) (hn : n ≤ 40) {i e : Nat} (hi : i ≤ e) (he : e ≤ n) :
    ∃ s', S_takeNodesOut s (nI i) (nI e) = some s' ∧ CRep s' (n - (e - i)) (delN i (e - i) L) (delN i (e - i) D) (delN i (e - i) K) p wn W cn CL CD nx a := by
  obtain ⟨h1, h2, h3, h4, h5, h6, h7⟩ := h
  obtain ⟨t', g1, g2⟩ := T_takeOut_ok h1 hn hi he
  obtain ⟨r', f1, f2⟩ := R_takeOut_ok (cap := 40) h3 hn (by omega) hi he
  refine ⟨(t', s.2.1, r', s.2.2.2.1, s.2.2.2.2.1, s.2.2.2.2.2.1, s.2.2.2.2.2.2), ?_, g2, h2, f2.congr fun j _ => del_nR _ _ _ j, h4, h5, h6, h7⟩
  rw [S_takeNodesOut, g1, p_bs, f1, p_bs]
theorem S_exchangeRuns_ok {s : ST} {n p wn cn nx : Nat} {L D K W CL CD : Nat → Nat} {a : Nat → Int32} (h : CRep s n L D K p wn W cn CL CD nx a) (hn : n ≤ 40) {i m e : Nat} (him : i < m) (hme : m < e) (he : e ≤ n) :
    ∃ s', S_exchangeRuns s (nI i) (nI m) (nI e) = some s' ∧ CRep s' n (rotN i m e L) (rotN i m e D) (rotN i m e K) p wn W cn CL CD nx a := by
  obtain ⟨h1, h2, h3, h4, h5, h6, h7⟩ := h
  obtain ⟨t', g1, g2⟩ := T_exchangeRuns_ok h1 hn him hme he
  obtain ⟨r', f1, f2⟩ := R_exchangeRuns_ok (cap := 40) h3 hn (by omega) him hme he
  refine ⟨(t', s.2.1, r', s.2.2.2.1, s.2.2.2.2.1, s.2.2.2.2.2.1, s.2.2.2.2.2.2), ?_, g2, h2, f2.congr fun j _ => rot_nR _ _ _ _ j, h4, h5, h6, h7⟩
  rw [S_exchangeRuns, g1, p_bs, f1, p_bs]
