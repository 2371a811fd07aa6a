/-! the top taken away, its only child in its place -/
theorem chL_none {d : Nat} : ∀ l : List Nat, (∀ x ∈ l, d < x) → chL d l = 0 → ∀ x ∈ l, d + 1 < x := by
  intro l
  induction l with
  | nil => intro _ _ x hx; cases hx
  | cons y l ih =>
    intro h1 h2 x hx
    have hy := h1 y (List.mem_cons_self ..)
    rw [chL, if_neg (by omega)] at h2
    have e1 : ¬ y = d + 1 := fun e => by rw [if_pos e] at h2; omega
    rw [if_neg e1, Nat.zero_add] at h2
    cases hx with
    | head => omega
    | tail _ hx => exact ih (fun z hz => h1 z (List.mem_cons_of_mem _ hz)) h2 x hx
theorem dr_mem' {D : Nat → Nat} : ∀ k a i, i < k → D (a + i) ∈ dr D a k := by
  intro k
  induction k with
  | zero => intro a i h; omega
  | succ k ih =>
    intro a i h
    rw [dr]
    by_cases z : i = 0
    · rw [z, Nat.add_zero]; exact List.mem_cons_self ..
    · have := ih (a + 1) (i - 1) (by omega)
      rw [show a + 1 + (i - 1) = a + i by omega] at this
      exact List.mem_cons_of_mem _ this
theorem WF_lift0 {n : Nat} {D : Nat → Nat} (h : WF n D) (hc : chN n D 0 = 1) : WF (n - 1) (liftN 0 n D) := by
  obtain ⟨hS, hl⟩ := h
  have hS' := hS
  obtain ⟨s1, s2, s3, s4, s5⟩ := hS
  have hch := chN_dr (D := D) (i := 0) (n := n) (by omega)
  rw [hc, s3, Nat.zero_add] at hch
  have hn : 2 ≤ n := by
    by_cases z : n = 1
    · rw [z, Nat.sub_self, dr, chL] at hch; omega
    · omega
  rw [show n - 1 = (n - 2) + 1 by omega, dr, chL] at hch
  have d1 : D 1 = 1 := by
    have := s4 1 (by omega) (by omega)
    rw [Nat.sub_self, s3] at this
    omega
  rw [d1, if_neg (by omega), if_pos rfl] at hch
  have hz : ∀ i, 2 ≤ i → i < n → 2 ≤ D i := by
    intro i i1 i2
    have := chL_none (d := 0) (dr D 2 (n - 2)) (dr_ge fun j a1 a2 => (s4 j (by omega) (by omega)).1) (by have q : 1 = 1 + chL 0 (dr D 2 (n - 2)) := hch; omega) _ (dr_mem' (n - 2) 2 (i - 2) (by omega))
    rw [show 2 + (i - 2) = i by omega] at this
    exact this
  have v : ∀ i, i < n - 1 → liftN 0 n D i = D (i + 1) - 1 := fun i hi => lift_mid (Nat.zero_le i) (by omega)
  have ge1 : ∀ i, i < n - 1 → 1 ≤ D (i + 1) := fun i hi => (s4 (i + 1) (by omega) (by omega)).1
  refine ⟨⟨by omega, by omega, ?_, fun i i0 hi => ?_, fun i hi => ?_⟩, ?_⟩
  · rw [v 0 (by omega), Nat.zero_add, d1]
  · rw [v i hi, v (i - 1) (by omega), show i - 1 + 1 = i by omega]
    have a1 := hz (i + 1) (by omega) (by omega)
    have a2 := (s4 (i + 1) (by omega) (by omega)).2
    rw [Nat.add_sub_cancel] at a2
    have a3 := (s4 i i0 (by omega)).1
    omega
  · rw [v i hi]
    have := s5 (i + 1) (by omega)
    omega
  · have k1 : okL (dr D 1 (n - 1)) := okL_dr hl s1
    have hsh : ∀ i, i < n - 1 → D (1 + i) = (fun j => liftN 0 n D (j - 1)) (1 + i) + 1 := fun i hi => by
      show D (1 + i) = liftN 0 n D (1 + i - 1) + 1
      rw [show 1 + i - 1 = i by omega, v i hi, show 1 + i = i + 1 by omega]
      have := ge1 i hi
      omega
    have k2 := (okL_shift (n - 1) 1 (fun j => liftN 0 n D (j - 1)) D hsh).mp k1
    rw [dr_congr (n - 1) 1 0 (D := fun j => liftN 0 n D (j - 1)) (D' := liftN 0 n D) (fun i hi => by
      show liftN 0 n D (1 + i - 1) = _
      rw [show 1 + i - 1 = 0 + i by omega])] at k2
    exact k2
