/-! the reference: links put in and taken out, as trees -/
theorem M_ins_ok {m : MD} {n : Nat} {L D K : Nat → Nat} (h : MRep m.1 n L D K) (hn1 : 1 ≤ n) (hn : n < 40) {a nx : Nat} (ha : a ≤ n) (hx : m.1 1 = nI nx) :
    ∃ o : Arr, M_opens m (nI a) (nI 1) = some (o, m.2) ∧ (∀ i, i < a → M_deep (o, m.2) (nI i) = some (nI (D i))) ∧
      ∀ l d, ∃ s' : Arr, M_lays (o, m.2) (nI a) (nI l) (nI d) = some (s', m.2) ∧ MRep s' (n + 1) (insN a l L) (insN a d D) (insN a nx K) ∧ s' 1 = nI (nx + 1) ∧ ∀ j, 2 ≤ j → (j < 18 ∨ 138 ≤ j) → s' j = m.1 j := by
  obtain ⟨o, g1, g2, g3⟩ := M_opens_ok hn1 (show n + 1 ≤ 40 by omega) ha m h.1
  refine ⟨o, g1, fun i hi => ?_, fun l d => ⟨_, M_lays_ok (by omega) _ _ _, ⟨?_, fun i hi => ?_⟩, ?_, fun j h1 h2 => ?_⟩⟩
  · rw [M_deep]
    simp (disch := omega) only [p_0, p_1, p_2, p_3, p_4, p_5, p_6, p_7, p_8, p_9, p_18, p_25, p_26, p_32, p_40, p_41, p_44, p_97, p_100, p_120, p_122, p_126, p_138, p_218, p_654, p_872, p_ofNat, p_ofInt, p_add, p_mul, p_le, p_lt, p_eq, p_neg, p_nn, p_m1, p_m1r, p_dec, p_ix, p_sub, if_true, if_false, reduceIte, Nat.not_lt_zero, or_false, false_or, or_true, true_or, and_true, true_and, p_bs]
    rw [if_neg (by omega)]
    show some (o _) = _
    rw [g3 _ (by omega), if_neg (by omega), (h.2 i (by omega)).2.1]
  · rw [p_upd_ne (by omega), p_upd_ne (by omega), p_upd_ne (by omega), p_upd_ne (by omega)]; exact g2
  · rw [p_upd_ne (show 18 + 3 * i ≠ 1 by omega), p_upd_ne (show 18 + 3 * i + 1 ≠ 1 by omega), p_upd_ne (show 18 + 3 * i + 2 ≠ 1 by omega)]
    by_cases c1 : i = a
    · subst c1
      have iN : ∀ (v : Nat) (f : Nat → Nat), insN i v f i = v := fun v f => by rw [insN, if_neg (by omega), if_pos rfl]
      rw [iN, iN, iN]
      refine ⟨?_, ?_, ?_⟩
      · rw [p_upd_ne (by omega), p_upd_ne (by omega), p_upd_same]
      · rw [p_upd_ne (by omega), p_upd_same]
      · rw [p_upd_same]
        show o 1 = _
        rw [g3 1 (by omega), if_neg (by omega), hx]
    · have u : ∀ j, 18 + 3 * i ≤ j → j < 18 + 3 * i + 3 → upd (upd (upd (o, m.2).1 (18 + 3 * a) (nI l)) (18 + 3 * a + 1) (nI d)) (18 + 3 * a + 2) ((o, m.2).1 1) j = o j := fun j _ _ => by
        rw [p_upd_ne (by omega), p_upd_ne (by omega), p_upd_ne (by omega)]
      rw [u _ (by omega) (by omega), u _ (by omega) (by omega), u _ (by omega) (by omega)]
      by_cases c2 : i < a
      · have iN : ∀ (v : Nat) (f : Nat → Nat), insN a v f i = f i := fun v f => by rw [insN, if_pos c2]
        have q : ∀ j, 18 + 3 * i ≤ j → j < 18 + 3 * i + 3 → o j = m.1 j := fun j _ _ => by rw [g3 j (by omega), if_neg (by omega)]
        rw [q _ (by omega) (by omega), q _ (by omega) (by omega), q _ (by omega) (by omega), iN, iN, iN]
        exact h.2 i (by omega)
      · have iN : ∀ (v : Nat) (f : Nat → Nat), insN a v f i = f (i - 1) := fun v f => by rw [insN, if_neg c2, if_neg c1]
        have q : ∀ j, 18 + 3 * i ≤ j → j < 18 + 3 * i + 3 → o j = m.1 (j - 3 * 1) := fun j _ _ => by rw [g3 j (by omega), if_pos (by omega)]
        rw [q _ (by omega) (by omega), q _ (by omega) (by omega), q _ (by omega) (by omega), iN, iN, iN]
        have := h.2 (i - 1) (by omega)
        rw [show 18 + 3 * i - 3 * 1 = 18 + 3 * (i - 1) by omega, show 18 + 3 * i + 1 - 3 * 1 = 18 + 3 * (i - 1) + 1 by omega, show 18 + 3 * i + 2 - 3 * 1 = 18 + 3 * (i - 1) + 2 by omega]
        exact this
  · rw [p_upd_same]
    show o 1 + nI 1 = _
    rw [g3 1 (by omega), if_neg (by omega), hx, p_add]
  · rw [p_upd_ne (by omega), p_upd_ne (by omega), p_upd_ne (by omega), p_upd_ne (by omega)]
    show o j = _
    rw [g3 j (by omega), if_neg (by omega)]
theorem M_del_ok {m : MD} {n : Nat} {L D K : Nat → Nat} (h : MRep m.1 n L D K) (hn : n ≤ 40) {a c : Nat} (ha : a + c ≤ n) :
    ∃ s' : Arr, M_closes m (nI a) (nI c) = some (s', m.2) ∧ MRep s' (n - c) (delN a c L) (delN a c D) (delN a c K) ∧ ∀ j, 1 ≤ j → (j < 18 ∨ 138 ≤ j) → s' j = m.1 j := by
  obtain ⟨s', g1, g2, g3⟩ := M_closes_ok hn ha m h.1
  refine ⟨s', g1, ⟨g2, fun i hi => ?_⟩, fun j h1 h2 => ?_⟩
  · by_cases c2 : i < a
    · have iN : ∀ f : Nat → Nat, delN a c f i = f i := fun f => by rw [delN, if_pos c2]
      have q : ∀ j, 18 + 3 * i ≤ j → j < 18 + 3 * i + 3 → s' j = m.1 j := fun j _ _ => by rw [g3 j (by omega), if_neg (by omega)]
      rw [q _ (by omega) (by omega), q _ (by omega) (by omega), q _ (by omega) (by omega), iN, iN, iN]
      exact h.2 i (by omega)
    · have iN : ∀ f : Nat → Nat, delN a c f i = f (i + c) := fun f => by rw [delN, if_neg c2]
      have q : ∀ j, 18 + 3 * i ≤ j → j < 18 + 3 * i + 3 → s' j = m.1 (j + 3 * c) := fun j _ _ => by rw [g3 j (by omega), if_pos (by omega)]
      rw [q _ (by omega) (by omega), q _ (by omega) (by omega), q _ (by omega) (by omega), iN, iN, iN]
      have := h.2 (i + c) (by omega)
      rw [show 18 + 3 * i + 3 * c = 18 + 3 * (i + c) by omega, show 18 + 3 * i + 1 + 3 * c = 18 + 3 * (i + c) + 1 by omega, show 18 + 3 * i + 2 + 3 * c = 18 + 3 * (i + c) + 2 by omega]
      exact this
  · rw [g3 j h1, if_neg (by omega)]
theorem M_up_ok {m : MD} {n : Nat} {L D K : Nat → Nat} (h : MRep m.1 n L D K) (hn : n ≤ 40) {a b : Nat} (hab : a ≤ b) (hb : b ≤ n) :
    ∃ s' : Arr, M_sinks m (nI a) (nI b) (nI 1) = some (s', m.2) ∧ MRep s' n L (upN a b D) K ∧ ∀ j, (j < 18 ∨ 138 ≤ j) → s' j = m.1 j := by
  obtain ⟨s', g1, g2, g3⟩ := M_sinks_ok (nI 1) hab (show b ≤ 40 by omega) m
  refine ⟨s', g1, ⟨by rw [← g3 0 (fun i _ _ => by omega)]; exact h.1, fun i hi => ⟨?_, ?_, ?_⟩⟩, fun j hj => (g3 j (fun i _ _ => by omega)).symm⟩
  · rw [← g3 _ (fun i _ _ => by omega)]; exact (h.2 i hi).1
  · rw [upN]
    by_cases c : a ≤ i ∧ i < b
    · rw [g2 i c.1 c.2, if_pos c, (h.2 i hi).2.1, p_add]
    · rw [← g3 _ (fun i' _ _ => by omega), if_neg c]; exact (h.2 i hi).2.1
  · rw [← g3 _ (fun i _ _ => by omega)]; exact (h.2 i hi).2.2
theorem M_dn_ok {m : MD} {n : Nat} {L D K : Nat → Nat} (h : MRep m.1 n L D K) (hn : n ≤ 40) {a b : Nat} (hab : a ≤ b) (hb : b ≤ n) (hd : ∀ i, a ≤ i → i < b → 1 ≤ D i) :
    ∃ s' : Arr, M_sinks m (nI a) (nI b) (-nI 1) = some (s', m.2) ∧ MRep s' n L (dnN a b D) K ∧ ∀ j, (j < 18 ∨ 138 ≤ j) → s' j = m.1 j := by
  obtain ⟨s', g1, g2, g3⟩ := M_sinks_ok (-nI 1) hab (show b ≤ 40 by omega) m
  refine ⟨s', g1, ⟨by rw [← g3 0 (fun i _ _ => by omega)]; exact h.1, fun i hi => ⟨?_, ?_, ?_⟩⟩, fun j hj => (g3 j (fun i _ _ => by omega)).symm⟩
  · rw [← g3 _ (fun i _ _ => by omega)]; exact (h.2 i hi).1
  · rw [dnN]
    by_cases c : a ≤ i ∧ i < b
    · rw [g2 i c.1 c.2, if_pos c, (h.2 i hi).2.1, p_dec (hd i c.1 c.2)]
    · rw [← g3 _ (fun i' _ _ => by omega), if_neg c]; exact (h.2 i hi).2.1
  · rw [← g3 _ (fun i _ _ => by omega)]; exact (h.2 i hi).2.2
/-- the part that is laid down -/
theorem M_paste_loop {a g d nx : Nat} {CL CD : Nat → Nat} (hag : a + g ≤ 40) (w : Arr × Arr × Int32 × Arr × Arr × Int32 × Int32 × Int32 × Int32 × Arr × Arr) : ∀ fu k (s : Arr), k ≤ g → g - k < fu → s 4 = nI g → s 1 = nI (nx + k) → (∀ i, i < g → s (138 + 2 * i) = nI (CL i) ∧ s (138 + 2 * i + 1) = nI (CD i)) →
    ∃ s' : Arr, M_paste_L114 fu (s, w) (nI a) (nI d) (nI k) = ((M_acted (s', w) (s' 0)).bind fun v => some (v.1, v.2)) ∧ s' 1 = nI (nx + g) ∧ (∀ i, k ≤ i → i < g → s' (18 + 3 * (a + i)) = nI (CL i) ∧ s' (18 + 3 * (a + i) + 1) = nI (d + CD i) ∧ s' (18 + 3 * (a + i) + 2) = nI (nx + i)) ∧ ∀ j, j ≠ 1 → (j < 18 + 3 * (a + k) ∨ 18 + 3 * (a + g) ≤ j) → s' j = s j := by
  intro fu
  induction fu with
  | zero => intro k s _ h; omega
  | succ fu ih =>
    intro k s h1 h2 h4 hx hc
    rw [M_paste_L114]
    have e0 : (s, w).1 (ix 4) = nI g := h4
    rw [e0]
    by_cases e : k = g
    · subst e
      exact ⟨s, if_pos (Int32.le_refl _), hx, fun i _ _ => by omega, fun j _ _ => rfl⟩
    · have hk := hc k (by omega)
      have hla := M_lays_ok (show a + k < 40 by omega) (s, w) (nI (CL k)) (nI (d + CD k))
      generalize hs : upd (upd (upd (upd s (18 + 3 * (a + k)) (nI (CL k))) (18 + 3 * (a + k) + 1) (nI (d + CD k))) (18 + 3 * (a + k) + 2) (s 1)) 1 (s 1 + nI 1) = t at hla
      have f : ∀ j, j ≠ 1 → j ≠ 18 + 3 * (a + k) → j ≠ 18 + 3 * (a + k) + 1 → j ≠ 18 + 3 * (a + k) + 2 → t j = s j := by
        intro j b0 b1 b2 b3
        rw [← hs, p_upd_ne b0, p_upd_ne b3, p_upd_ne b2, p_upd_ne b1]
      obtain ⟨s', g1, g2, g3, g4⟩ := ih (k + 1) t (by omega) (by omega) (by rw [f 4 (by omega) (by omega) (by omega) (by omega)]; exact h4) (by rw [← hs, p_upd_same, hx, p_add, Nat.add_assoc]) (fun i hi => by
        rw [f _ (by omega) (by omega) (by omega) (by omega), f _ (by omega) (by omega) (by omega) (by omega)]; exact hc i hi)
      refine ⟨s', ?_, g2, fun i a1 a2 => ?_, fun j b0 hj => ?_⟩
      · rw [if_neg (by rw [p_le (by omega) (by omega)]; omega)]
        simp (disch := omega) only [p_138, p_2, p_218, p_0, p_1, p_add, p_mul, p_ix, p_neg, false_or]
        rw [if_neg (by omega), if_neg (by omega)]
        show (M_lays (s, w) (nI (a + k)) (s (138 + 2 * k)) (nI d + s (138 + 2 * k + 1))).bind _ = _
        rw [hk.1, hk.2, p_add, hla]
        simp only [p_bs]
        exact g1
      · by_cases z : i = k
        · subst z
          rw [g4 _ (by omega) (by omega), g4 _ (by omega) (by omega), g4 _ (by omega) (by omega), ← hs, p_upd_ne (by omega), p_upd_ne (by omega), p_upd_ne (by omega), p_upd_same, p_upd_ne (by omega), p_upd_ne (by omega), p_upd_same, p_upd_ne (by omega), p_upd_same]
          exact ⟨rfl, rfl, hx⟩
        · exact g3 i (by omega) a2
      · rw [g4 j b0 (by omega), f j b0 (by omega) (by omega) (by omega)]
theorem M_paste_ok {m : MD} {n : Nat} {L D K : Nat → Nat} (h : MRep m.1 n L D K) (hn1 : 1 ≤ n) {a g d nx : Nat} {CL CD : Nat → Nat} (ha : a ≤ n) (hg : n + g ≤ 40) (hx : m.1 1 = nI nx) (h4 : m.1 4 = nI g) (hc : ∀ i, i < g → m.1 (138 + 2 * i) = nI (CL i) ∧ m.1 (138 + 2 * i + 1) = nI (CD i)) :
    ∃ o s' : Arr, M_opens m (nI a) (nI g) = some (o, m.2) ∧ M_paste_L114 1000 (o, m.2) (nI a) (nI d) (nI 0) = ((M_acted (s', m.2) (nI (n + g))).bind fun v => some (v.1, v.2)) ∧ MRep s' (n + g) (blkN a g L CL) (blkN a g D (fun i => d + CD i)) (blkN a g K (fun i => nx + i)) ∧ s' 1 = nI (nx + g) ∧ ∀ j, 2 ≤ j → (j < 18 ∨ 138 ≤ j) → s' j = m.1 j := by
  obtain ⟨o, g1, g2, g3⟩ := M_opens_ok hn1 hg ha m h.1
  obtain ⟨s', f1, f2, f3, f4⟩ := M_paste_loop (a := a) (g := g) (d := d) (nx := nx) (CL := CL) (CD := CD) (by omega) m.2 1000 0 o (by omega) (by omega) (by rw [g3 4 (by omega), if_neg (by omega)]; exact h4) (by rw [g3 1 (by omega), if_neg (by omega)]; exact hx) (fun i hi => by
    rw [g3 _ (by omega), g3 _ (by omega), if_neg (by omega), if_neg (by omega)]; exact hc i hi)
  have s0 : s' 0 = nI (n + g) := by rw [f4 0 (by omega) (by omega)]; exact g2
  refine ⟨o, s', g1, ?_, ⟨s0, fun i hi => ?_⟩, f2, fun j h1 h2 => ?_⟩
  · rw [s0] at f1
    exact f1
  · by_cases c1 : i < a
    · have iN : ∀ f G : Nat → Nat, blkN a g f G i = f i := fun f G => by rw [blkN, if_pos c1]
      have q : ∀ j, 18 + 3 * i ≤ j → j < 18 + 3 * i + 3 → s' j = m.1 j := fun j _ _ => by rw [f4 j (by omega) (by omega), g3 j (by omega), if_neg (by omega)]
      rw [q _ (by omega) (by omega), q _ (by omega) (by omega), q _ (by omega) (by omega), iN, iN, iN]
      exact h.2 i (by omega)
    · by_cases c2 : i < a + g
      · have iN : ∀ f G : Nat → Nat, blkN a g f G i = G (i - a) := fun f G => by rw [blkN, if_neg c1, if_pos c2]
        rw [iN, iN, iN]
        have := f3 (i - a) (by omega) (by omega)
        rw [show a + (i - a) = i by omega] at this
        exact this
      · have iN : ∀ f G : Nat → Nat, blkN a g f G i = f (i - g) := fun f G => by rw [blkN, if_neg c1, if_neg c2]
        have q : ∀ j, 18 + 3 * i ≤ j → j < 18 + 3 * i + 3 → s' j = m.1 (j - 3 * g) := fun j _ _ => by rw [f4 j (by omega) (by omega), g3 j (by omega), if_pos (by omega)]
        rw [q _ (by omega) (by omega), q _ (by omega) (by omega), q _ (by omega) (by omega), iN, iN, iN]
        have := h.2 (i - g) (by omega)
        rw [show 18 + 3 * i - 3 * g = 18 + 3 * (i - g) by omega, show 18 + 3 * i + 1 - 3 * g = 18 + 3 * (i - g) + 1 by omega, show 18 + 3 * i + 2 - 3 * g = 18 + 3 * (i - g) + 2 by omega]
        exact this
  · rw [f4 j (by omega) (by omega), g3 j (by omega), if_neg (by omega)]
