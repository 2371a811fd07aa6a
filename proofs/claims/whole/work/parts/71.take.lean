/-! a state taken over -/
theorem T_takeFrom_ok {t t' : TR} {n : Nat} {L D : Nat → Nat} (h : TRep t' n L D) (hn : n ≤ 40) : ∃ t1, T_takeFrom t t' = some t1 ∧ TRep t1 n L D := by
  obtain ⟨r1, g1, g2⟩ := R_takeFrom_ok (n := 40) (r := t.1) h.1 hn (by omega)
  obtain ⟨r2, f1, f2⟩ := R_takeFrom_ok (n := 40) (r := t.2) h.2 hn (by omega)
  refine ⟨(r1, r2), ?_, g2, f2⟩
  rw [T_takeFrom, g1, p_bs, f1, p_bs]
theorem S_takeFrom_ok {s s' : ST} {n p wn cn nx : Nat} {L D K W CL CD : Nat → Nat} {a : Nat → Int32} (h : CRep s' n L D K p wn W cn CL CD nx a) (hn : n ≤ 40) (hw : wn ≤ 8) (hc : cn ≤ 40) :
    ∃ s1, S_takeFrom s s' = some s1 ∧ CRep s1 n L D K p wn W cn CL CD nx a := by
  obtain ⟨h1, h2, h3, h4, h5, h6, h7⟩ := h
  obtain ⟨t1, a1, a2⟩ := T_takeFrom_ok (t := s.1) h1 hn
  obtain ⟨t2, b1, b2⟩ := T_takeFrom_ok (t := s.2.1) h2 hc
  obtain ⟨r3, c1, c2⟩ := R_takeFrom_ok (n := 40) (r := s.2.2.1) h3 hn (by omega)
  obtain ⟨r4, d1, d2⟩ := R_takeFrom_ok (n := 8) (r := s.2.2.2.1) h4 hw (by omega)
  obtain ⟨r5, e1, e2⟩ := R_takeFrom_ok (n := 4) (r := s.2.2.2.2.1) h5 (by omega) (by omega)
  refine ⟨(t1, t2, r3, r4, r5, s'.2.2.2.2.2.1, s'.2.2.2.2.2.2), ?_, a2, b2, c2, d2, e2, h6, h7⟩
  rw [S_takeFrom, a1, p_bs, b1, p_bs, c1, p_bs, d1, p_bs, e1, p_bs]
/-- the four places of the history -/
def slot (q : ST × ST × ST × ST) : Nat → ST
  | 0 => q.1
  | 1 => q.2.1
  | 2 => q.2.2.1
  | _ => q.2.2.2
theorem H_keep1_ok (h : HI) (s : ST) {o z : Nat} (ho : o < 4) (hz : z < 4) (P : ST → Prop) (hP : ∀ s0, ∃ s1, S_takeFrom s0 s = some s1 ∧ P s1) :
    ∃ q, H_keep1 h s (nI o) (nI z) = some (q, nI o, nI (z + 1)) ∧ P (slot q ((o + z) % 4)) ∧ ∀ j, j < 4 → j ≠ (o + z) % 4 → slot q j = slot h.1 j := by
  have hm : (o + z) % 4 < 4 := Nat.mod_lt _ (by omega)
  rw [H_keep1, p_add, p_4, p_irem (by omega) (by omega) (by omega), p_0, p_1, p_2, p_3, p_add]
  have hc : (o + z) % 4 = 0 ∨ (o + z) % 4 = 1 ∨ (o + z) % 4 = 2 ∨ (o + z) % 4 = 3 := by omega
  rcases hc with e | e | e | e
  · obtain ⟨s1, g1, g2⟩ := hP h.1.1
    refine ⟨(s1, h.1.2), ?_, by rw [e]; exact g2, fun j hj hne => ?_⟩
    · rw [e, if_pos rfl, g1, p_bs]
    · rw [e] at hne
      rcases j with _ | _ | _ | j
      · exact absurd rfl hne
      · rfl
      · rfl
      · rfl
  · obtain ⟨s1, g1, g2⟩ := hP h.1.2.1
    refine ⟨(h.1.1, s1, h.1.2.2), ?_, by rw [e]; exact g2, fun j hj hne => ?_⟩
    · rw [e, if_neg (by rw [p_eq (by omega) (by omega)]; omega), if_pos rfl, g1, p_bs]
    · rw [e] at hne
      rcases j with _ | _ | _ | j
      · rfl
      · exact absurd rfl hne
      · rfl
      · rfl
  · obtain ⟨s1, g1, g2⟩ := hP h.1.2.2.1
    refine ⟨(h.1.1, h.1.2.1, s1, h.1.2.2.2), ?_, by rw [e]; exact g2, fun j hj hne => ?_⟩
    · rw [e, if_neg (by rw [p_eq (by omega) (by omega)]; omega), if_neg (by rw [p_eq (by omega) (by omega)]; omega), if_pos rfl, g1, p_bs]
    · rw [e] at hne
      rcases j with _ | _ | _ | j
      · rfl
      · rfl
      · exact absurd rfl hne
      · rfl
  · obtain ⟨s1, g1, g2⟩ := hP h.1.2.2.2
    refine ⟨(h.1.1, h.1.2.1, h.1.2.2.1, s1), ?_, by rw [e]; exact g2, fun j hj hne => ?_⟩
    · rw [e, if_neg (by rw [p_eq (by omega) (by omega)]; omega), if_neg (by rw [p_eq (by omega) (by omega)]; omega), if_neg (by rw [p_eq (by omega) (by omega)]; omega), if_pos rfl, g1, p_bs]
    · rw [e] at hne
      rcases j with _ | _ | _ | j
      · rfl
      · rfl
      · rfl
      · exact absurd (by omega) hne
theorem H_keep_ok (h : HI) (s : ST) {o z : Nat} (ho : o < 4) (hz : z ≤ 4) (h1 : h.2.1 = nI o) (h2 : h.2.2 = nI z) (P : ST → Prop) (hP : ∀ s0, ∃ s1, S_takeFrom s0 s = some s1 ∧ P s1) :
    ∃ q o', o' < 4 ∧ H_keep h s = some (q, nI o', nI (if z = 4 then 4 else z + 1)) ∧ P (slot q ((o' + (if z = 4 then 3 else z)) % 4)) ∧
      ∀ i, i < (if z = 4 then 3 else z) → slot q ((o' + i) % 4) = slot h.1 ((o + (if z = 4 then i + 1 else i)) % 4) := by
  rw [H_keep, h1, h2, p_4, p_1]
  by_cases e : z = 4
  · subst e
    obtain ⟨q, g1, g2, g3⟩ := H_keep1_ok h s (o := (o + 1) % 4) (z := 3) (Nat.mod_lt _ (by omega)) (by omega) P hP
    refine ⟨q, (o + 1) % 4, Nat.mod_lt _ (by omega), ?_, ?_, fun i hi => ?_⟩
    · rw [if_pos (Int32.le_refl _), p_add, p_irem (by omega) (by omega) (by omega), p_sub (by omega), if_pos rfl]
      exact g1
    · rw [if_pos rfl]; exact g2
    · rw [if_pos rfl] at hi ⊢
      rw [g3 _ (Nat.mod_lt _ (by omega)) (by omega), show ((o + 1) % 4 + i) % 4 = (o + (i + 1)) % 4 by omega]
  · obtain ⟨q, g1, g2, g3⟩ := H_keep1_ok h s ho (show z < 4 by omega) P hP
    refine ⟨q, o, ho, ?_, ?_, fun i hi => ?_⟩
    · rw [if_neg (by rw [p_le (by omega) (by omega)]; omega), if_neg e]
      exact g1
    · rw [if_neg e]; exact g2
    · rw [if_neg e] at hi ⊢
      rw [g3 _ (Nat.mod_lt _ (by omega)) (by omega)]
theorem H_restore_ok (h : HI) (s : ST) {o z : Nat} (ho : o < 4) (hz : z < 4) (h1 : h.2.1 = nI o) (h2 : h.2.2 = nI (z + 1)) (P : ST → Prop) (hP : ∃ s1, S_takeFrom s (slot h.1 ((o + z) % 4)) = some s1 ∧ P s1) :
    ∃ s1, H_restore h s = some ((h.1, nI o, nI z), s1) ∧ P s1 := by
  have hm : (o + z) % 4 < 4 := Nat.mod_lt _ (by omega)
  obtain ⟨s1, g1, g2⟩ := hP
  refine ⟨s1, ?_, g2⟩
  rw [H_restore, h1, h2, p_1, p_4, p_0, p_2, p_3, p_sub (by omega), p_add, Nat.add_sub_cancel, p_irem (by omega) (by omega) (by omega), if_pos (by rw [p_lt (by omega) (by omega)]; omega)]
  have hc : (o + z) % 4 = 0 ∨ (o + z) % 4 = 1 ∨ (o + z) % 4 = 2 ∨ (o + z) % 4 = 3 := by omega
  rcases hc with e | e | e | e
  · rw [e] at g1 ⊢
    rw [if_pos rfl]
    show (S_takeFrom s (slot h.1 0)).bind _ = _
    rw [g1, p_bs]
  · rw [e] at g1 ⊢
    rw [if_neg (by rw [p_eq (by omega) (by omega)]; omega), if_pos rfl]
    show (S_takeFrom s (slot h.1 1)).bind _ = _
    rw [g1, p_bs]
  · rw [e] at g1 ⊢
    rw [if_neg (by rw [p_eq (by omega) (by omega)]; omega), if_neg (by rw [p_eq (by omega) (by omega)]; omega), if_pos rfl]
    show (S_takeFrom s (slot h.1 2)).bind _ = _
    rw [g1, p_bs]
  · rw [e] at g1 ⊢
    rw [if_neg (by rw [p_eq (by omega) (by omega)]; omega), if_neg (by rw [p_eq (by omega) (by omega)]; omega), if_neg (by rw [p_eq (by omega) (by omega)]; omega), if_pos rfl]
    show (S_takeFrom s (slot h.1 3)).bind _ = _
    rw [g1, p_bs]
