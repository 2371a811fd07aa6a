/-! one link put in, and the clip put in -/
theorem ins_blk (a v : Nat) (f : Nat → Nat) : insN a v f = blkN a 1 f (fun _ => v) := by
  funext i
  rw [insN, blkN]
  by_cases c1 : i < a
  · rw [if_pos c1, if_pos c1]
  · rw [if_neg c1, if_neg c1]
    by_cases c2 : i = a
    · rw [if_pos c2, if_pos (by omega)]
    · rw [if_neg c2, if_neg (by omega)]
theorem WF_ins {n a d : Nat} {D : Nat → Nat} (h : WF n D) (ha0 : 0 < a) (ha : a ≤ n) (hn : n < 40) (hd : 1 ≤ d) (hd7 : d ≤ 7) (hd1 : d ≤ D (a - 1) + 1) (hd2 : a < n → D a ≤ d) (hpar : ∀ q, q < a → D q + 1 = d → (∀ j, q < j → j < a → D q < D j) → chN n D q < 6) : WF (n + 1) (insN a d D) := by
  rw [ins_blk]
  exact WF_blk h ⟨by omega, rfl, fun i a1 a2 => by omega, fun i _ => hd7⟩ ⟨Nat.zero_le _, trivial⟩ ha0 ha (by omega) hd hd1 hd2 hpar
theorem okL_add (d k a : Nat) (D : Nat → Nat) : okL (dr D a k) → okL (dr (fun i => d + D i) a k) := by
  intro h
  induction d with
  | zero =>
    rw [dr_congr k a a (D := fun i => 0 + D i) (D' := D) (fun i _ => Nat.zero_add _)]
    exact h
  | succ d ih => exact (okL_shift k a (fun i => d + D i) (fun i => d + 1 + D i) (fun i _ => by omega)).mpr ih
/-- the clip as a block -/
theorem Bl_clip {g d : Nat} {C : Nat → Nat} (h : Sh g C) (hd : ∀ i, i < g → d + C i ≤ 7) : Bl g d (fun i => d + C i) := by
  obtain ⟨s1, s2, s3, s4, s5⟩ := h
  refine ⟨s1, by show d + C 0 = d; rw [s3]; rfl, fun i a1 a2 => ?_, hd⟩
  have := s4 i a1 a2
  show d < d + C i ∧ d + C i ≤ d + C (i - 1) + 1
  omega
theorem WF_clip {n a g d : Nat} {D C : Nat → Nat} (h : WF n D) (hC : WF g C) (ha0 : 0 < a) (ha : a ≤ n) (hng : n + g ≤ 40) (hd : 1 ≤ d) (hd7 : ∀ i, i < g → d + C i ≤ 7) (hd1 : d ≤ D (a - 1) + 1) (hd2 : a < n → D a ≤ d) (hpar : ∀ q, q < a → D q + 1 = d → (∀ j, q < j → j < a → D q < D j) → chN n D q < 6) : WF (n + g) (blkN a g D (fun i => d + C i)) :=
  WF_blk h (Bl_clip hC.1 hd7) (okL_add d g 0 C hC.2) ha0 ha hng hd hd1 hd2 hpar
/-- the height bounds the depths of a part -/
theorem hiN_ge {D : Nat → Nat} {d : Nat} : ∀ k j a, a ≤ hiN D d k j a ∧ ∀ i, i < k → D (j + i) - d ≤ hiN D d k j a := by
  intro k
  induction k with
  | zero => intro j a; exact ⟨Nat.le_refl _, fun i hi => by omega⟩
  | succ k ih =>
    intro j a
    rw [hiN]
    have b := ih (j + 1) (if D j - d ≤ a then a else D j - d)
    have m1 : a ≤ (if D j - d ≤ a then a else D j - d) := by split <;> omega
    have m2 : D j - d ≤ (if D j - d ≤ a then a else D j - d) := by split <;> omega
    refine ⟨Nat.le_trans m1 b.1, fun i hi => ?_⟩
    by_cases z : i = 0
    · rw [z, Nat.add_zero]; exact Nat.le_trans m2 b.1
    · have := b.2 (i - 1) (by omega)
      rw [show j + 1 + (i - 1) = j + i by omega] at this
      exact this
theorem heN_ge {n p : Nat} {D : Nat → Nat} (hp : p < n) {i : Nat} (h1 : p ≤ i) (h2 : i < endN n D p) : D i - D p ≤ heN n D p := by
  have := (hiN_ge (D := D) (d := D p) (endN n D p - p) p 0).2 (i - p) (by omega)
  rw [show p + (i - p) = i by omega] at this
  exact this
theorem hiN_le {D : Nat → Nat} {d B : Nat} : ∀ k j a, a ≤ B → (∀ i, i < k → D (j + i) - d ≤ B) → hiN D d k j a ≤ B := by
  intro k
  induction k with
  | zero => intro j a h _; exact h
  | succ k ih =>
    intro j a h1 h2
    rw [hiN]
    refine ih _ _ ?_ fun i hi => ?_
    · split
      · exact h1
      · exact h2 0 (by omega)
    · have := h2 (i + 1) (by omega)
      rw [show j + (i + 1) = j + 1 + i by omega] at this
      exact this
theorem heN_le {n p : Nat} {D : Nat → Nat} (hD : ∀ i, i < n → D i ≤ 7) (hp : p < n) : D p + heN n D p ≤ 7 := by
  have : heN n D p ≤ 7 - D p := hiN_le _ _ _ (Nat.zero_le _) fun i hi => by
    have := hD (p + i) (by have := endN_le (D := D) hp; omega)
    omega
  have := hD p hp
  omega
