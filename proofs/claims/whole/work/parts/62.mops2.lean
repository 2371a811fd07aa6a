/-! the reference: forgets, swaps, clips, walks -/
theorem MRep.congr {s s' : Arr} {n : Nat} {L D K : Nat → Nat} (h : MRep s n L D K) (e0 : s' 0 = s 0) (e : ∀ j, 18 ≤ j → j < 18 + 3 * n → s' j = s j) : MRep s' n L D K := by
  refine ⟨e0.trans h.1, fun i hi => ?_⟩
  rw [e _ (by omega) (by omega), e _ (by omega) (by omega), e _ (by omega) (by omega)]
  exact h.2 i hi
theorem MRep.upd_lo {s : Arr} {n : Nat} {L D K : Nat → Nat} (h : MRep s n L D K) {j : Nat} (h1 : 1 ≤ j) (h2 : j < 18) (x : Int32) : MRep (upd s j x) n L D K :=
  h.congr (p_upd_ne (by omega)) fun i _ _ => p_upd_ne (by omega)
theorem MRep.upd_hi {s : Arr} {n : Nat} {L D K : Nat → Nat} (h : MRep s n L D K) (hn : n ≤ 40) {j : Nat} (h1 : 138 ≤ j) (x : Int32) : MRep (upd s j x) n L D K :=
  h.congr (p_upd_ne (by omega)) fun i _ _ => p_upd_ne (by omega)
theorem M_forgets_loop {n : Nat} {L D K : Nat → Nat} (hn : n ≤ 40) (inj : ∀ i j, i < n → j < n → K i = K j → i = j) (hK : ∀ i, i < n → K i < 2147483648) (w : Arr × Arr × Int32 × Arr × Arr × Int32 × Int32 × Int32 × Int32 × Arr × Arr) : ∀ fu k (s : Arr), k ≤ 4 → 4 - k < fu → MRep s n L D K →
    ∃ s' : Arr, M_forgets_L2 fu (s, w) (nI k) = some (s', w) ∧ (∀ j, j < 5 + k ∨ 9 ≤ j → s' j = s j) ∧ ∀ q, k ≤ q → q < 4 → ((∃ i, i < n ∧ nI (K i) = s (5 + q)) → s' (5 + q) = s (5 + q)) ∧ ((∀ i, i < n → nI (K i) ≠ s (5 + q)) → s' (5 + q) = -nI 1) := by
  intro fu
  induction fu with
  | zero => intro k b _ h; omega
  | succ fu ih =>
    intro k s h1 h2 h3
    rw [M_forgets_L2]
    by_cases e : k = 4
    · subst e
      refine ⟨s, ?_, fun j _ => rfl, fun q a1 a2 => by omega⟩
      rw [p_4, if_pos (Int32.le_refl _)]
    · have h3' : MRep (s, w).1 n L D K := h3
      obtain ⟨x', g1, g2⟩ := M_numberOf_ok h3' hn (s (5 + k)) inj hK
      simp (disch := omega) only [p_5, p_4, p_218, p_0, p_1, p_add, p_ix, p_neg, p_le, false_or]
      rw [if_neg (by omega), if_neg (by omega)]
      show ∃ s', (M_numberOf (s, w) (s (5 + k))).bind _ = _ ∧ _
      rw [g1]
      simp only [p_bs]
      rcases g2 with ⟨a1, a2⟩ | ⟨i, a1, a2, a3⟩
      · rw [a1]
        obtain ⟨s', f1, f2, f3⟩ := ih (k + 1) (upd s (5 + k) (-nI 1)) (by omega) (by omega) (h3.upd_lo (by omega) (by omega) _)
        refine ⟨s', ?_, fun j hj => ?_, fun q b1 b2 => ?_⟩
        · rw [if_neg (by decide), if_neg (by omega)]
          exact f1
        · rw [f2 j (by omega), p_upd_ne (by omega)]
        · by_cases z : q = k
          · subst z
            rw [f2 (5 + q) (by omega), p_upd_same]
            exact ⟨fun ⟨i, c1, c2⟩ => absurd c2 (a2 i c1), fun _ => rfl⟩
          · have := f3 q (by omega) b2
            rw [p_upd_ne (show 5 + q ≠ 5 + k by omega)] at this
            exact this
      · rw [a3]
        obtain ⟨s', f1, f2, f3⟩ := ih (k + 1) (upd s (5 + k) (s (5 + k))) (by omega) (by omega) (h3.upd_lo (by omega) (by omega) _)
        refine ⟨s', ?_, fun j hj => ?_, fun q b1 b2 => ?_⟩
        · rw [if_pos (by rw [p_nn (by omega)]; trivial), if_neg (by omega), if_neg (by omega)]
          exact f1
        · rw [f2 j (by omega), p_upd_ne (by omega)]
        · by_cases z : q = k
          · subst z
            rw [f2 (5 + q) (by omega), p_upd_same]
            exact ⟨fun _ => rfl, fun c => absurd a2 (c i a1)⟩
          · have := f3 q (by omega) b2
            rw [p_upd_ne (show 5 + q ≠ 5 + k by omega)] at this
            exact this
theorem M_forgets_ok {m : MD} {n : Nat} {L D K : Nat → Nat} (h : MRep m.1 n L D K) (hn : n ≤ 40) (inj : ∀ i j, i < n → j < n → K i = K j → i = j) (hK : ∀ i, i < n → K i < 2147483648) :
    ∃ s' : Arr, M_forgets m = some (s', m.2) ∧ (∀ j, j < 5 ∨ 9 ≤ j → s' j = m.1 j) ∧ ∀ q, q < 4 → ((∃ i, i < n ∧ nI (K i) = m.1 (5 + q)) → s' (5 + q) = m.1 (5 + q)) ∧ ((∀ i, i < n → nI (K i) ≠ m.1 (5 + q)) → s' (5 + q) = -nI 1) := by
  obtain ⟨s', f1, f2, f3⟩ := M_forgets_loop hn inj hK m.2 1000 0 m.1 (by omega) (by omega) h
  refine ⟨s', ?_, fun j hj => f2 j (by omega), fun q hq => f3 q (Nat.zero_le q) hq⟩
  rw [M_forgets, p_0]
  exact f1
abbrev MV : Type := Arr × Int32 × Int32 × Int32 × Int32 × Arr × Arr
theorem M_swaps_back {a m e : Nat} (ham : a ≤ m) (hme : m ≤ e) (hae : a < e) (he : e ≤ 40) (w1 w2 : Arr) (z : Int32) (s4 : Arr) (w : Arr × Int32 × Int32 × Int32 × Int32 × Arr × Arr) : ∀ fu k (s : Arr), k ≤ 3 * (e - a) → 3 * (e - a) - k < fu →
    ∃ s' : Arr, M_swaps_L55 fu (s, w1, w2, z, s4, w) (nI a) (nI (m - a)) (nI (e - a)) (nI k) = some (s', w1, w2, z, s4, w) ∧ ∀ j, s' j = if 18 + 3 * a + k ≤ j ∧ j < 18 + 3 * e then s4 ((j - (18 + 3 * a) + 3 * (m - a)) % (3 * (e - a))) else s j := by
  intro fu
  induction fu with
  | zero => intro k b _ h; omega
  | succ fu ih =>
    intro k s h1 h2
    rw [M_swaps_L55]
    by_cases e1 : k = 3 * (e - a)
    · subst e1
      refine ⟨s, ?_, fun j => by rw [if_neg (by omega)]⟩
      rw [p_3, p_mul, if_pos (Int32.le_refl _)]
    · have hm : (k + 3 * (m - a)) % (3 * (e - a)) < 3 * (e - a) := Nat.mod_lt _ (by omega)
      obtain ⟨s', g1, g2⟩ := ih (k + 1) (upd s (18 + 3 * a + k) (s4 ((k + 3 * (m - a)) % (3 * (e - a))))) (by omega) (by omega)
      refine ⟨s', ?_, fun j => ?_⟩
      · simp (disch := omega) only [p_3, p_18, p_218, p_120, p_0, p_1, p_add, p_mul, p_irem, p_ix, p_neg, p_le, p_eq, false_or]
        rw [if_neg (by omega), if_neg (by omega), if_neg (by omega), if_neg (by omega)]
        simp only [p_bs]
        exact g1
      · rw [g2 j]
        by_cases y : j = 18 + 3 * a + k
        · subst y; rw [if_neg (by omega), p_upd_same, if_pos (by omega), show 18 + 3 * a + k - (18 + 3 * a) = k by omega]
        · rw [p_upd_ne y]
          by_cases x : 18 + 3 * a + k ≤ j ∧ j < 18 + 3 * e
          · rw [if_pos (by omega), if_pos x]
          · rw [if_neg (by omega), if_neg x]
theorem M_swaps_out {a m e : Nat} (ham : a ≤ m) (hme : m ≤ e) (hae : a < e) (he : e ≤ 40) (s w1 w2 : Arr) (z : Int32) (w : Arr × Int32 × Int32 × Int32 × Int32 × Arr × Arr) : ∀ fu k (s4 : Arr), k ≤ 3 * (e - a) → 3 * (e - a) - k < fu → (∀ j, j < k → s4 j = s (18 + 3 * a + j)) →
    ∃ s' s5 : Arr, M_swaps_L16 fu (s, w1, w2, z, s4, w) (nI a) (nI (m - a)) (nI (e - a)) (nI k) = some (s', w1, w2, z, s5, w) ∧ ∀ j, s' j = if 18 + 3 * a ≤ j ∧ j < 18 + 3 * e then s (18 + 3 * a + (j - (18 + 3 * a) + 3 * (m - a)) % (3 * (e - a))) else s j := by
  intro fu
  induction fu with
  | zero => intro k b _ h; omega
  | succ fu ih =>
    intro k s4 h1 h2 h3
    rw [M_swaps_L16]
    by_cases e1 : k = 3 * (e - a)
    · subst e1
      obtain ⟨s', g1, g2⟩ := M_swaps_back ham hme hae he w1 w2 z s4 w 1000 0 s (by omega) (by omega)
      refine ⟨s', s4, ?_, fun j => ?_⟩
      · rw [p_3, p_mul, if_pos (Int32.le_refl _), p_0]
        exact g1
      · rw [g2 j]
        by_cases x : 18 + 3 * a ≤ j ∧ j < 18 + 3 * e
        · rw [if_pos (by omega), if_pos x, h3 _ (Nat.mod_lt _ (by omega))]
        · rw [if_neg (by omega), if_neg x]
    · obtain ⟨s', s5, g1, g2⟩ := ih (k + 1) (upd s4 k (s (18 + 3 * a + k))) (by omega) (by omega) (fun j hj => by
        by_cases z : j = k
        · subst z; rw [p_upd_same]
        · rw [p_upd_ne z, h3 j (by omega)])
      refine ⟨s', s5, ?_, g2⟩
      simp (disch := omega) only [p_3, p_18, p_218, p_120, p_0, p_1, p_add, p_mul, p_ix, p_neg, p_le, false_or]
      rw [if_neg (by omega), if_neg (by omega), if_neg (by omega)]
      simp only [p_bs]
      exact g1
theorem p_wrap {x k c : Nat} (h : x < c) : (x + k) % c = if x + k < c then x + k else (x + k) % c := by
  split
  · exact Nat.mod_eq_of_lt ‹_›
  · rfl
theorem p_wrap1 {y c : Nat} (h : y < c) : y % c = y := Nat.mod_eq_of_lt h
theorem p_wrap2 {y c : Nat} (h1 : c ≤ y) (h2 : y < c + c) : y % c = y - c := by
  rw [Nat.mod_eq_sub_mod h1, Nat.mod_eq_of_lt (by omega)]
/-- runs exchanged in the reference -/
theorem M_swaps_ok {md : MD} {n : Nat} {L D K : Nat → Nat} (h : MRep md.1 n L D K) (hS : Sh n D) {a m : Nat} (ham : a < m) (hm : m < n) :
    ∃ (s' s5 : Arr), M_swaps md (nI a) (nI m) = some (s', md.2.1, md.2.2.1, md.2.2.2.1, s5, md.2.2.2.2.2) ∧ MRep s' n (rotN a m (endN n D m) L) (rotN a m (endN n D m) D) (rotN a m (endN n D m) K) ∧ ∀ j, (j < 18 ∨ 138 ≤ j) → s' j = md.1 j := by
  have hn := hS.2.1
  have he := endN_le (n := n) (D := D) hm
  have he2 := endN_gt (n := n) (D := D) hm
  generalize hE : endN n D m = e at he he2 ⊢
  obtain ⟨s', s5, g1, g2⟩ := M_swaps_out (a := a) (m := m) (e := e) (by omega) (by omega) (by omega) (by omega) md.1 md.2.1 md.2.2.1 md.2.2.2.1 md.2.2.2.2.2 1000 0 md.2.2.2.2.1 (by omega) (by omega) (fun j hj => by omega)
  have key : ∀ i c, i < n → c < 3 → s' (18 + 3 * i + c) = md.1 (18 + 3 * (if i < a then i else if i < a + (e - m) then i + (m - a) else if i < e then i - (e - m) else i) + c) := by
    intro i c hi hc
    rw [g2]
    by_cases c1 : i < a
    · rw [if_neg (by omega), if_pos c1]
    · rw [if_neg c1]
      by_cases c2 : i < a + (e - m)
      · rw [if_pos (by omega), if_pos c2, p_wrap1 (by omega)]
        rw [show 18 + 3 * a + (18 + 3 * i + c - (18 + 3 * a) + 3 * (m - a)) = 18 + 3 * (i + (m - a)) + c by omega]
      · rw [if_neg c2]
        by_cases c3 : i < e
        · rw [if_pos (by omega), if_pos c3, p_wrap2 (by omega) (by omega)]
          rw [show 18 + 3 * a + (18 + 3 * i + c - (18 + 3 * a) + 3 * (m - a) - 3 * (e - a)) = 18 + 3 * (i - (e - m)) + c by omega]
        · rw [if_neg (by omega), if_neg c3]
  have bd : ∀ i, i < n → (if i < a then i else if i < a + (e - m) then i + (m - a) else if i < e then i - (e - m) else i) < n := by
    intro i hi
    split
    · exact hi
    · split
      · omega
      · split
        · omega
        · exact hi
  have rt : ∀ (f : Nat → Nat) i, rotN a m e f i = f (if i < a then i else if i < a + (e - m) then i + (m - a) else if i < e then i - (e - m) else i) := by
    intro f i
    rw [rotN]
    split
    · rfl
    · split
      · rfl
      · split <;> rfl
  refine ⟨s', s5, ?_, ⟨?_, fun i hi => ?_⟩, fun j hj => ?_⟩
  · rw [M_swaps, M_end_ok h hn hS.2.2.2.2 hm, hE, p_bs, p_sub (by omega), p_sub (by omega), p_0]
    exact g1
  · rw [g2, if_neg (by omega)]; exact h.1
  · rw [rt, rt, rt]
    have := h.2 _ (bd i hi)
    exact ⟨(key i 0 hi (by omega)).trans this.1, (key i 1 hi (by omega)).trans this.2.1, (key i 2 hi (by omega)).trans this.2.2⟩
  · rw [g2, if_neg (by omega)]
