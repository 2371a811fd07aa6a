/-! the reference: clips, walks, undo -/
theorem endN_top {n : Nat} {D : Nat → Nat} (h : Sh n D) : endN n D 0 = n := by
  have hI := endN_is (D := D) (i := 0) (n := n) (by have := h.1; omega)
  by_cases c : endN n D 0 < n
  · have a1 := hI.2.2.2 c
    have a2 := (h.2.2.2.1 (endN n D 0) (by have := hI.1; omega) c).1
    rw [h.2.2.1] at a1
    omega
  · have := hI.2.1; omega
theorem heN_top {n : Nat} {D : Nat → Nat} (h : Sh n D) : heN n D 0 = hiN D 0 n 0 0 := by
  rw [heN, endN_top h, h.2.2.1, Nat.sub_zero]
theorem M_clips_loop {n p g : Nat} {L D K : Nat → Nat} (hn : n ≤ 40) (hg : p + g ≤ n) (hg1 : 0 < g) (hge : ∀ k, k < g → D p ≤ D (p + k)) (w : Arr × Arr × Int32 × Arr × Arr × Int32 × Int32 × Int32 × Int32 × Arr × Arr) : ∀ fu k (s : Arr), k ≤ g → g - k < fu → MRep s n L D K → s 4 = nI g →
    ∃ s' : Arr, M_clips_L20 fu (s, w) (nI p) (nI k) = some (s', w) ∧ (∀ i, k ≤ i → i < g → s' (138 + 2 * i) = nI (L (p + i)) ∧ s' (138 + 2 * i + 1) = nI (D (p + i) - D p)) ∧ ∀ j, (j < 138 + 2 * k ∨ 138 + 2 * g ≤ j) → s' j = s j := by
  intro fu
  induction fu with
  | zero => intro k s _ h; omega
  | succ fu ih =>
    intro k s h1 h2 h3 h4
    rw [M_clips_L20]
    have e0 : (s, w).1 (ix 4) = nI g := h4
    rw [e0]
    by_cases e : k = g
    · subst e
      exact ⟨s, if_pos (Int32.le_refl _), fun i _ _ => by omega, fun j _ => rfl⟩
    · have h3' : MRep (s, w).1 n L D K := h3
      have h5 : MRep (upd s (138 + 2 * k) (nI (L (p + k)))) n L D K := h3.upd_hi hn (by omega) _
      have h6 : MRep (upd (upd s (138 + 2 * k) (nI (L (p + k)))) (138 + 2 * k + 1) (nI (D (p + k) - D p))) n L D K := h5.upd_hi hn (by omega) _
      have h5' : MRep (upd s (138 + 2 * k) (nI (L (p + k))), w).1 n L D K := h5
      obtain ⟨s', g1, g2, g3⟩ := ih (k + 1) _ (by omega) (by omega) h6 (by rw [p_upd_ne (by omega), p_upd_ne (by omega)]; exact h4)
      refine ⟨s', ?_, fun i a1 a2 => ?_, fun j hj => ?_⟩
      · rw [if_neg (by rw [p_le (by omega) (by omega)]; omega)]
        simp (disch := omega) only [p_138, p_2, p_218, p_0, p_1, p_add, p_mul, p_ix, p_neg, false_or]
        rw [M_sign_in h3' hn (show p + k < n by omega), p_bs, if_neg (by omega)]
        simp only [p_bs]
        show (M_deep (upd s (138 + 2 * k) (nI (L (p + k))), w) (nI (p + k))).bind _ = _
        rw [M_deep_in h5' hn (show p + k < n by omega), p_bs]
        show (M_deep (upd s (138 + 2 * k) (nI (L (p + k))), w) (nI p)).bind _ = _
        rw [M_deep_in h5' hn (show p < n by omega), p_bs, p_sub (hge k (by omega)), if_neg (by omega)]
        exact g1
      · by_cases z : i = k
        · subst z
          rw [g3 _ (by omega), g3 _ (by omega), p_upd_ne (by omega), p_upd_same, p_upd_same]
          exact ⟨rfl, rfl⟩
        · exact g2 i (by omega) a2
      · rw [g3 j (by omega), p_upd_ne (by omega), p_upd_ne (by omega)]
theorem part_ge {n p : Nat} {D : Nat → Nat} (hp : p < n) : ∀ k, k < endN n D p - p → D p ≤ D (p + k) := by
  intro k hk
  by_cases z : k = 0
  · rw [z]; exact Nat.le_refl _
  · have := (endN_is (D := D) hp).2.2.1 (p + k) (by omega) (by omega); omega
theorem M_clips_ok {m : MD} {n : Nat} {L D K : Nat → Nat} (h : MRep m.1 n L D K) (hS : Sh n D) (inj : ∀ i j, i < n → j < n → K i = K j → i = j) (hK : ∀ i, i < n → K i < 2147483648) {p : Nat} (hp : p < n) (h2 : m.1 2 = nI (K p)) :
    ∃ s' : Arr, M_clips m = some (s', m.2) ∧ s' 4 = nI (endN n D p - p) ∧ (∀ i, i < endN n D p - p → s' (138 + 2 * i) = nI (subN p 0 L i) ∧ s' (138 + 2 * i + 1) = nI (subN p (D p) D i)) ∧ ∀ j, j ≠ 4 → j < 138 → s' j = m.1 j := by
  have hn := hS.2.1
  have he := endN_le (n := n) (D := D) hp
  have he2 := endN_gt (n := n) (D := D) hp
  obtain ⟨s', g1, g2, g3⟩ := M_clips_loop (p := p) (g := endN n D p - p) hn (by omega) (by omega) (part_ge hp) m.2 1000 0 (upd m.1 4 (nI (endN n D p - p))) (by omega) (by omega) (h.upd_lo (by omega) (by omega) _) (p_upd_same _ _ _)
  refine ⟨s', ?_, ?_, fun i hi => g2 i (Nat.zero_le i) hi, fun j h1 h3 => by rw [g3 j (by omega), p_upd_ne h1]⟩
  · rw [M_clips, M_place_ok h hn inj hK hp h2, p_bs, M_end_ok h hn hS.2.2.2.2 hp, p_bs, p_sub (by omega), p_bs, p_0]
    exact g1
  · rw [g3 4 (by omega), p_upd_same]
theorem M_clipHeight_loop {m : MD} {g : Nat} {CD : Nat → Nat} (hg : g ≤ 40) (h4 : m.1 4 = nI g) (hc : ∀ i, i < g → m.1 (138 + 2 * i + 1) = nI (CD i)) (hD : ∀ i, i < g → CD i ≤ 7) : ∀ fu k x, k ≤ g → g - k < fu → x ≤ 7 → M_clipHeight_L4 fu m (nI x) (nI k) = some (nI (hiN CD 0 (g - k) k x)) := by
  intro fu
  induction fu with
  | zero => intro k x _ h; omega
  | succ fu ih =>
    intro k x h1 h2 hx
    rw [M_clipHeight_L4]
    have e0 : m.1 (ix 4) = nI g := h4
    rw [e0]
    by_cases e : k = g
    · subst e
      rw [if_pos (Int32.le_refl _), Nat.sub_self, hiN]
    · have hdk := hD k (by omega)
      rw [if_neg (by rw [p_le (by omega) (by omega)]; omega), show g - k = (g - (k + 1)) + 1 by omega, hiN]
      simp (disch := omega) only [p_138, p_2, p_218, p_0, p_1, p_add, p_mul, p_ix, p_neg, false_or]
      rw [hc k (by omega), Nat.sub_zero]
      have c1 : ¬ 218 ≤ 138 + 2 * k + 1 := by omega
      by_cases e2 : CD k ≤ x
      · have c2 : nI (CD k) ≤ nI x := by rw [p_le (by omega) (by omega)]; exact e2
        rw [if_neg c1, if_pos c2, if_pos e2, ih (k + 1) x (by omega) (by omega) hx]
      · have c2 : ¬ nI (CD k) ≤ nI x := by rw [p_le (by omega) (by omega)]; exact e2
        rw [if_neg c1, if_neg c2, if_neg c1, if_neg e2, ih (k + 1) (CD k) (by omega) (by omega) hdk]
theorem M_clipHeight_ok {m : MD} {g : Nat} {CD : Nat → Nat} (hS : Sh g CD) (h4 : m.1 4 = nI g) (hc : ∀ i, i < g → m.1 (138 + 2 * i + 1) = nI (CD i)) : M_clipHeight m = some (nI (heN g CD 0)) := by
  rw [M_clipHeight, p_0, M_clipHeight_loop hS.2.1 h4 hc hS.2.2.2.2 1000 0 0 (by omega) (by have := hS.2.1; omega) (by omega), heN_top hS, Nat.sub_zero]
theorem M_undo_loop (b c : Arr) (z : Nat) (hz : z < 4) (w : MW) : ∀ fu k (a : Arr), k ≤ 218 → 218 - k < fu →
    ∃ a' : Arr, M_undo_L22 fu (a, b, c, nI z, w.2) (nI k) = some (nI z, (a', b, c, nI z, w.2)) ∧ ∀ j, j < 218 → a' j = if k ≤ j then c (218 * z + j) else a j := by
  intro fu
  induction fu with
  | zero => intro k b _ h; omega
  | succ fu ih =>
    intro k a h1 h2
    rw [M_undo_L22]
    by_cases e : k = 218
    · subst e
      refine ⟨a, ?_, fun j hj => by rw [if_neg (by omega)]⟩
      rw [p_218, if_pos (Int32.le_refl _)]
    · obtain ⟨a', g1, g2⟩ := ih (k + 1) (upd a k (c (218 * z + k))) (by omega) (by omega)
      refine ⟨a', ?_, fun j hj => ?_⟩
      · simp (disch := omega) only [p_218, p_872, p_0, p_1, p_add, p_mul, p_ix, p_neg, p_bs, p_le, false_or]
        rw [if_neg (by omega), if_neg (by omega), if_neg (by omega)]
        exact g1
      · rw [g2 j hj]
        by_cases y : j = k
        · subst y; rw [if_neg (by omega), p_upd_same, if_pos (Nat.le_refl j)]
        · rw [p_upd_ne y]
          by_cases v : k ≤ j
          · rw [if_pos (by omega), if_pos v]
          · rw [if_neg (by omega), if_neg v]
theorem M_undo_ok (a b c : Arr) (z : Nat) (hz : z < 4) (w : MW) :
    ∃ a' : Arr, M_undo (a, b, c, nI (z + 1), w.2) = some (nI z, (a', b, c, nI z, w.2)) ∧ ∀ j, j < 218 → a' j = c (218 * z + j) := by
  obtain ⟨a', g1, g2⟩ := M_undo_loop b c z hz w 1000 0 a (by omega) (by omega)
  refine ⟨a', ?_, fun j hj => by rw [g2 j hj, if_pos (Nat.zero_le j)]⟩
  rw [M_undo, p_0, p_1]
  show (if nI (z + 1) = nI 0 then _ else M_undo_L22 1000 (a, b, c, nI (z + 1) - nI 1, w.2) (nI 0)) = _
  rw [if_neg (by rw [p_eq (by omega) (by omega)]; omega), p_sub (by omega)]
  exact g1
theorem M_undo_none (a b c : Arr) (w : MW) : M_undo (a, b, c, nI 0, w.2) = some (-nI 2, (a, b, c, nI 0, w.2)) := by
  rw [M_undo, p_0, p_2]
  exact if_pos rfl
