/-! walks of the reference -/
def WRep (s : Arr) (wn : Nat) (W : Nat → Nat) : Prop := s 3 = nI wn ∧ ∀ k, k < wn → s (9 + k) = nI (W k)
def wkN (wn : Nat) : Nat := if wn = 8 then 8 else wn + 1
def wkW (wn v : Nat) (W : Nat → Nat) : Nat → Nat := fun k => if wn = 8 then (if k < 7 then W (k + 1) else v) else if k < wn then W k else v
theorem M_walks_last {n x p z : Nat} {L D K : Nat → Nat} (hn : n ≤ 40) (hx : x < n) (hz : z ≤ 7) (s : Arr) (w : Arr × Arr × Int32 × Arr × Arr × Int32 × Int32 × Int32 × Int32 × Arr × Arr) (h : MRep s n L D K) (h2 : s 2 = nI (K p)) (h3 : s 3 = nI z) :
    M_walks_J69 (s, w) (nI x) = some (nI x, (upd (upd (upd s (9 + z) (nI (K p))) 3 (nI (z + 1))) 2 (nI (K x)), w)) := by
  have h5 : MRep (upd (upd s (9 + z) (nI (K p))) 3 (nI (z + 1))) n L D K := (h.upd_lo (by omega) (by omega) _).upd_lo (by omega) (by omega) _
  have h5' : MRep (upd (upd s (9 + z) (nI (K p))) 3 (nI (z + 1)), w).1 n L D K := h5
  have e : (upd s (9 + z) (nI (K p))) 3 = nI z := by rw [p_upd_ne (by omega)]; exact h3
  rw [M_walks_J69]
  show (if nI 9 + s 3 < nI 0 ∨ 218 ≤ ix (nI 9 + s 3) then none else (some (upd s (ix (nI 9 + s 3)) (s 2))).bind _) = _
  rw [h3, h2, p_add, p_ix (by omega), if_neg (by rw [p_neg (by omega), false_or]; omega), p_bs]
  show (some (upd (upd s (9 + z) (nI (K p))) 3 ((upd s (9 + z) (nI (K p))) 3 + nI 1))).bind _ = _
  rw [e, p_add, p_bs]
  show (M_own (upd (upd s (9 + z) (nI (K p))) 3 (nI (z + 1)), w) (nI x)).bind _ = _
  rw [M_own_in h5' hn hx]
  rfl
theorem M_walks_drop {n x p : Nat} {L D K : Nat → Nat} (hn : n ≤ 40) (hx : x < n) (W : Nat → Nat) (w : Arr × Arr × Int32 × Arr × Arr × Int32 × Int32 × Int32 × Int32 × Arr × Arr) : ∀ fu k (s : Arr), k ≤ 7 → 7 - k < fu → MRep s n L D K → s 2 = nI (K p) → s 3 = nI 8 → (∀ q, q < k → s (9 + q) = nI (W (q + 1))) → (∀ q, k ≤ q → q < 8 → s (9 + q) = nI (W q)) →
    ∃ s' : Arr, M_walks_L27 fu (s, w) (nI x) (nI k) = some (nI x, (s', w)) ∧ MRep s' n L D K ∧ s' 2 = nI (K x) ∧ WRep s' 8 (wkW 8 (K p) W) ∧ ∀ j, j ≠ 2 → j ≠ 3 → (j < 9 ∨ 17 ≤ j) → s' j = s j := by
  intro fu
  induction fu with
  | zero => intro k s _ h; omega
  | succ fu ih =>
    intro k s h1 h2 h3 h4 h5 h6 h7
    rw [M_walks_L27]
    by_cases e : k = 7
    · subst e
      have hl := M_walks_last (p := p) hn hx (show 7 ≤ 7 by omega) (upd s 3 (nI 7)) w (h3.upd_lo (by omega) (by omega) _) (by rw [p_upd_ne (by omega)]; exact h4) (p_upd_same _ _ _)
      refine ⟨_, ?_, (((h3.upd_lo (j := 3) (by omega) (by omega) (nI 7)).upd_lo (j := 9 + 7) (by omega) (by omega) (nI (K p))).upd_lo (j := 3) (by omega) (by omega) (nI (7 + 1))).upd_lo (j := 2) (by omega) (by omega) (nI (K x)), p_upd_same _ _ _, ⟨?_, fun q hq => ?_⟩, fun j b1 b2 b3 => ?_⟩
      · rw [p_7, if_pos (Int32.le_refl _)]
        show (some (upd s 3 (s 3 - nI 1))).bind _ = _
        rw [h5, p_sub (by omega), p_bs]
        exact hl
      · rw [p_upd_ne (by omega), p_upd_same]
      · rw [p_upd_ne (by omega), p_upd_ne (by omega), wkW, if_pos rfl]
        by_cases z : q = 7
        · subst z; rw [p_upd_same, if_neg (by omega)]
        · rw [p_upd_ne (by omega), p_upd_ne (by omega), if_pos (by omega), h6 q (by omega)]
      · rw [p_upd_ne b1, p_upd_ne b2, p_upd_ne (by omega), p_upd_ne b2]
    · obtain ⟨s', g1, g2, g3, g4, g5⟩ := ih (k + 1) (upd s (9 + k) (s (9 + k + 1))) (by omega) (by omega) (h3.upd_lo (by omega) (by omega) _) (by rw [p_upd_ne (by omega)]; exact h4) (by rw [p_upd_ne (by omega)]; exact h5) (fun q hq => by
        by_cases z : q = k
        · subst z
          rw [p_upd_same, show 9 + q + 1 = 9 + (q + 1) by omega, h7 (q + 1) (by omega) (by omega)]
        · rw [p_upd_ne (by omega), h6 q (by omega)]) (fun q a1 a2 => by rw [p_upd_ne (by omega), h7 q (by omega) a2])
      refine ⟨s', ?_, g2, g3, g4, fun j b1 b2 b3 => by rw [g5 j b1 b2 b3, p_upd_ne (by omega)]⟩
      simp (disch := omega) only [p_9, p_7, p_218, p_0, p_1, p_add, p_ix, p_neg, p_le, false_or]
      rw [if_neg (by omega), if_neg (by omega), if_neg (by omega)]
      simp only [p_bs]
      exact g1
theorem M_walks_same {m : MD} {n p : Nat} {L D K : Nat → Nat} (h : MRep m.1 n L D K) (hn : n ≤ 40) (hp : p < n) (h2 : m.1 2 = nI (K p)) : M_walks m (nI p) = some (nI p, m) := by
  rw [M_walks, M_own_in h hn hp, p_bs]
  show (if nI (K p) = m.1 2 then _ else _) = _
  rw [h2, if_pos rfl]
theorem M_walks_ok {m : MD} {n x p wn : Nat} {L D K W : Nat → Nat} (h : MRep m.1 n L D K) (hn : n ≤ 40) (hx : x < n) (hp : p < n) (hxp : x ≠ p) (inj : ∀ i j, i < n → j < n → K i = K j → i = j) (hK : ∀ i, i < n → K i < 2147483648) (h2 : m.1 2 = nI (K p)) (hw : wn ≤ 8) (hW : WRep m.1 wn W) :
    ∃ s' : Arr, M_walks m (nI x) = some (nI x, (s', m.2)) ∧ MRep s' n L D K ∧ s' 2 = nI (K x) ∧ WRep s' (wkN wn) (wkW wn (K p) W) ∧ ∀ j, j ≠ 2 → j ≠ 3 → (j < 9 ∨ 17 ≤ j) → s' j = m.1 j := by
  have hne : ¬ (nI (K x) = nI (K p)) := by
    rw [p_eq (hK x hx) (hK p hp)]
    exact fun e => hxp (inj x p hx hp e)
  have e3 : m.1 (ix 3) = nI wn := hW.1
  rw [M_walks, M_own_in h hn hx, p_bs, e3]
  show ∃ s', (if nI (K x) = m.1 2 then _ else _) = _ ∧ _
  rw [h2, if_neg hne]
  by_cases e : wn = 8
  · subst e
    obtain ⟨s', g1, g2⟩ := M_walks_drop (p := p) hn hx W m.2 1000 0 m.1 (by omega) (by omega) h h2 hW.1 (fun q hq => by omega) (fun q _ hq => hW.2 q hq)
    refine ⟨s', ?_, g2⟩
    rw [p_8, if_pos rfl, p_0]
    exact g1
  · have hl := M_walks_last (p := p) hn hx (show wn ≤ 7 by omega) m.1 m.2 h h2 hW.1
    refine ⟨_, ?_, ((h.upd_lo (j := 9 + wn) (by omega) (by omega) (nI (K p))).upd_lo (j := 3) (by omega) (by omega) (nI (wn + 1))).upd_lo (j := 2) (by omega) (by omega) (nI (K x)), p_upd_same _ _ _, ⟨?_, fun q hq => ?_⟩, fun j b1 b2 b3 => ?_⟩
    · rw [p_8, if_neg (by rw [p_eq (by omega) (by omega)]; exact e)]
      exact hl
    · rw [p_upd_ne (by omega), p_upd_same, wkN, if_neg e]
    · rw [wkN, if_neg e] at hq
      rw [p_upd_ne (by omega), p_upd_ne (by omega), wkW, if_neg e]
      by_cases z : q = wn
      · subst z; rw [p_upd_same, if_neg (by omega)]
      · rw [p_upd_ne (by omega), if_pos (by omega), hW.2 q (by omega)]
    · rw [p_upd_ne b1, p_upd_ne b2, p_upd_ne (by omega)]
