/-! the reference: a copy before a call, the past, numbers by key -/
abbrev MW : Type := Int32 × Arr × Arr × Int32 × Int32 × Int32 × Int32 × Arr × Arr
theorem M_begins_loop (a : Arr) (w : Arr × Int32 × Arr × Arr × Int32 × Int32 × Int32 × Int32 × Arr × Arr) : ∀ fu k (b : Arr), k ≤ 218 → 218 - k < fu →
    ∃ b' : Arr, M_begins_L2 fu (a, b, w) (nI k) = some (a, b', w) ∧ ∀ j, j < 218 → b' j = if k ≤ j then a j else b j := by
  intro fu
  induction fu with
  | zero => intro k b _ h; omega
  | succ fu ih =>
    intro k b h1 h2
    rw [M_begins_L2]
    by_cases e : k = 218
    · subst e
      refine ⟨b, ?_, fun j hj => by rw [if_neg (by omega)]⟩
      rw [p_218, if_pos (Int32.le_refl _)]
    · obtain ⟨b', g1, g2⟩ := ih (k + 1) (upd b k (a k)) (by omega) (by omega)
      refine ⟨b', ?_, fun j hj => ?_⟩
      · simp (disch := omega) only [p_218, p_0, p_1, p_add, p_ix, p_neg, p_bs, p_le, false_or]
        rw [if_neg (by omega), if_neg (by omega), if_neg (by omega)]
        exact g1
      · rw [g2 j hj]
        by_cases z : j = k
        · subst z; rw [if_neg (by omega), p_upd_same, if_pos (Nat.le_refl j)]
        · rw [p_upd_ne z]
          by_cases y : k ≤ j
          · rw [if_pos (by omega), if_pos y]
          · rw [if_neg (by omega), if_neg y]
theorem M_begins_ok (m : MD) : ∃ b' : Arr, M_begins m = some (m.1, b', m.2.2) ∧ ∀ j, j < 218 → b' j = m.1 j := by
  obtain ⟨b', g1, g2⟩ := M_begins_loop m.1 m.2.2 1000 0 m.2.1 (by omega) (by omega)
  refine ⟨b', ?_, fun j hj => by rw [g2 j hj, if_pos (Nat.zero_le j)]⟩
  rw [M_begins, p_0]
  exact g1
theorem M_acted_put (a b : Arr) (z : Nat) (hz : z < 4) (r : Int32) (w : MW) : ∀ fu k (c : Arr), k ≤ 218 → 218 - k < fu →
    ∃ c' : Arr, M_acted_L84 fu (a, b, c, nI z, w.2) r (nI k) = some (r, (a, b, c', nI (z + 1), w.2)) ∧ ∀ j, c' j = if 218 * z + k ≤ j ∧ j < 218 * z + 218 then b (j - 218 * z) else c j := by
  intro fu
  induction fu with
  | zero => intro k b _ h; omega
  | succ fu ih =>
    intro k c h1 h2
    rw [M_acted_L84]
    by_cases e : k = 218
    · subst e
      refine ⟨c, ?_, fun j => by rw [if_neg (by omega)]⟩
      rw [p_218, if_pos (Int32.le_refl _), p_1]
      show some (r, (a, b, c, nI z + nI 1, w.2)) = _
      rw [p_add]
    · obtain ⟨c', g1, g2⟩ := ih (k + 1) (upd c (218 * z + k) (b k)) (by omega) (by omega)
      refine ⟨c', ?_, fun j => ?_⟩
      · simp (disch := omega) only [p_218, p_872, p_0, p_1, p_add, p_mul, p_ix, p_neg, p_bs, p_le, false_or]
        rw [if_neg (by omega), if_neg (by omega), if_neg (by omega)]
        exact g1
      · rw [g2 j]
        by_cases y : j = 218 * z + k
        · subst y; rw [if_neg (by omega), p_upd_same, if_pos (by omega)]; congr 1; omega
        · rw [p_upd_ne y]
          by_cases x : 218 * z + k ≤ j ∧ j < 218 * z + 218
          · rw [if_pos (by omega), if_pos x]
          · rw [if_neg (by omega), if_neg x]
theorem M_acted_drop (a b : Arr) (r : Int32) (w : MW) : ∀ fu k (c : Arr), k ≤ 654 → 654 - k < fu →
    ∃ c' : Arr, M_acted_L43 fu (a, b, c, nI 4, w.2) r (nI k) = some (r, (a, b, c', nI 4, w.2)) ∧ ∀ j, j < 872 → c' j = if 654 ≤ j then b (j - 654) else if k ≤ j then c (j + 218) else c j := by
  intro fu
  induction fu with
  | zero => intro k b _ h; omega
  | succ fu ih =>
    intro k c h1 h2
    rw [M_acted_L43]
    by_cases e : k = 654
    · subst e
      obtain ⟨c', g1, g2⟩ := M_acted_put a b 3 (by omega) r w 1000 0 c (by omega) (by omega)
      refine ⟨c', ?_, fun j hj => ?_⟩
      · rw [p_654, if_pos (Int32.le_refl _), p_1, p_0]
        show M_acted_L84 1000 (a, b, c, nI 4 - nI 1, w.2) r (nI 0) = _
        rw [p_sub (by omega)]
        exact g1
      · rw [g2 j]
        by_cases x : 654 ≤ j
        · rw [if_pos (by omega), if_pos x]
        · rw [if_neg (by omega), if_neg x, if_neg x]
    · obtain ⟨c', g1, g2⟩ := ih (k + 1) (upd c k (c (k + 218))) (by omega) (by omega)
      refine ⟨c', ?_, fun j hj => ?_⟩
      · simp (disch := omega) only [p_654, p_872, p_218, p_0, p_1, p_add, p_mul, p_ix, p_neg, p_bs, p_le, false_or]
        rw [if_neg (by omega), if_neg (by omega), if_neg (by omega)]
        exact g1
      · rw [g2 j hj]
        by_cases x : 654 ≤ j
        · rw [if_pos x, if_pos x]
        · rw [if_neg x, if_neg x]
          by_cases y : j = k
          · subst y; rw [if_neg (by omega), p_upd_same, if_pos (Nat.le_refl j)]
          · by_cases v : k ≤ j
            · rw [if_pos (by omega), if_pos v, p_upd_ne (by omega)]
            · rw [if_neg (by omega), if_neg v, p_upd_ne y]
/-- the past after a call that acted -/
theorem M_acted_ok (a b c : Arr) (z : Nat) (hz : z ≤ 4) (r : Nat) (hr : r < 2147483648) (w : MW) :
    ∃ c' : Arr, M_acted (a, b, c, nI z, w.2) (nI r) = some (nI r, (a, b, c', nI (if z = 4 then 4 else z + 1), w.2)) ∧
      (∀ j, j < 218 → c' (218 * (if z = 4 then 3 else z) + j) = b j) ∧
      ∀ i j, j < 218 → i < (if z = 4 then 3 else z) → c' (218 * i + j) = c (218 * (if z = 4 then i + 1 else i) + j) := by
  rw [M_acted]
  by_cases e : z = 4
  · subst e
    obtain ⟨c', g1, g2⟩ := M_acted_drop a b (nI r) w 1000 0 c (by omega) (by omega)
    refine ⟨c', ?_, fun j hj => ?_, fun i j hj hi => ?_⟩
    · rw [if_pos (by rw [p_0, p_nn hr]; trivial), if_pos p_4.symm, if_pos rfl]
      exact g1
    · rw [if_pos rfl, g2 _ (by omega), if_pos (by omega), show 218 * 3 + j - 654 = j by omega]
    · rw [if_pos rfl] at hi ⊢
      rw [g2 _ (by omega), if_neg (by omega), if_pos (Nat.zero_le _), show 218 * i + j + 218 = 218 * (i + 1) + j by omega]
  · obtain ⟨c', g1, g2⟩ := M_acted_put a b z (by omega) (nI r) w 1000 0 c (by omega) (by omega)
    refine ⟨c', ?_, fun j hj => ?_, fun i j hj hi => ?_⟩
    · rw [if_pos (by rw [p_0, p_nn hr]; trivial), if_neg (show ¬ (nI z = 4) by rw [p_4, p_eq (by omega) (by omega)]; exact e), if_neg e]
      exact g1
    · rw [if_neg e, g2 _, if_pos (by omega), show 218 * z + j - 218 * z = j by omega]
    · rw [if_neg e] at hi ⊢
      rw [g2 _, if_neg (by omega)]
/-- the number of a key: the last node that has it -/
def noN (n : Nat) (K : Nat → Nat) (k : Int32) (x : Int32) : Prop := (x = -nI 1 ∧ ∀ i, i < n → nI (K i) ≠ k) ∨ ∃ i, i < n ∧ nI (K i) = k ∧ x = nI i
theorem M_numberOf_loop {m : MD} {n : Nat} {L D K : Nat → Nat} (h : MRep m.1 n L D K) (hn : n ≤ 40) (k : Int32) (inj : ∀ i j, i < n → j < n → K i = K j → i = j) (hK : ∀ i, i < n → K i < 2147483648) : ∀ fu i (x : Int32), i ≤ n → n - i < fu →
    ((x = -nI 1 ∧ ∀ j, j < i → nI (K j) ≠ k) ∨ ∃ j, j < i ∧ nI (K j) = k ∧ x = nI j) → ∃ x', M_numberOf_L4 fu m k x (nI i) = some x' ∧ noN n K k x' := by
  intro fu
  induction fu with
  | zero => intro i x _ h; omega
  | succ fu ih =>
    intro i x h1 h2 h3
    rw [M_numberOf_L4]
    have e0 : m.1 (ix 0) = nI n := h.1
    rw [e0]
    by_cases e : i = n
    · subst e
      exact ⟨x, if_pos (Int32.le_refl _), h3⟩
    · rw [if_neg (by rw [p_le (by omega) (by omega)]; omega), M_own_in h hn (by omega), p_bs]
      by_cases y : nI (K i) = k
      · obtain ⟨x', g1, g2⟩ := ih (i + 1) (nI i) (by omega) (by omega) (Or.inr ⟨i, by omega, y, rfl⟩)
        refine ⟨x', ?_, g2⟩
        rw [if_pos y, p_1, p_add]
        exact g1
      · obtain ⟨x', g1, g2⟩ := ih (i + 1) x (by omega) (by omega) (by
          rcases h3 with ⟨a1, a2⟩ | ⟨j, a1, a2, a3⟩
          · refine Or.inl ⟨a1, fun j hj => ?_⟩
            by_cases z : j = i
            · subst z; exact y
            · exact a2 j (by omega)
          · exact Or.inr ⟨j, by omega, a2, a3⟩)
        refine ⟨x', ?_, g2⟩
        rw [if_neg y, p_1, p_add]
        exact g1
theorem M_numberOf_ok {m : MD} {n : Nat} {L D K : Nat → Nat} (h : MRep m.1 n L D K) (hn : n ≤ 40) (k : Int32) (inj : ∀ i j, i < n → j < n → K i = K j → i = j) (hK : ∀ i, i < n → K i < 2147483648) : ∃ x', M_numberOf m k = some x' ∧ noN n K k x' := by
  rw [M_numberOf, p_0, p_1]
  exact M_numberOf_loop h hn k inj hK 1000 0 (-nI 1) (by omega) (by omega) (Or.inl ⟨rfl, fun j hj => by omega⟩)
theorem noN_in {n : Nat} {K : Nat → Nat} {i : Nat} (hi : i < n) (inj : ∀ i j, i < n → j < n → K i = K j → i = j) (hK : ∀ i, i < n → K i < 2147483648) {x : Int32} (h : noN n K (nI (K i)) x) : x = nI i := by
  rcases h with ⟨_, a2⟩ | ⟨j, a1, a2, a3⟩
  · exact absurd rfl (a2 i hi)
  · rw [p_eq (hK j a1) (hK i hi)] at a2
    rw [a3, inj j i a1 hi a2]
theorem M_place_ok {m : MD} {n : Nat} {L D K : Nat → Nat} (h : MRep m.1 n L D K) (hn : n ≤ 40) (inj : ∀ i j, i < n → j < n → K i = K j → i = j) (hK : ∀ i, i < n → K i < 2147483648) {p : Nat} (hp : p < n) (h2 : m.1 2 = nI (K p)) : M_place m = some (nI p) := by
  rw [M_place]
  show (M_numberOf m (m.1 2)).bind _ = _
  rw [h2]
  obtain ⟨x', g1, g2⟩ := M_numberOf_ok h hn (nI (K p)) inj hK
  rw [g1, p_bs, noN_in hp inj hK g2]
