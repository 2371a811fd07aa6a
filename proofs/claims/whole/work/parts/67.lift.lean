/-! a node taken away, its children in its place -/
def liftN (p e : Nat) (D : Nat → Nat) : Nat → Nat := delN p 1 (dnN (p + 1) e D)
theorem lift_lo {p e : Nat} {D : Nat → Nat} {i : Nat} (h : i < p) : liftN p e D i = D i := by
  rw [liftN, delN, if_pos h, dnN, if_neg (by omega)]
theorem lift_mid {p e : Nat} {D : Nat → Nat} {i : Nat} (h : p ≤ i) (h2 : i + 1 < e) : liftN p e D i = D (i + 1) - 1 := by
  rw [liftN, delN, if_neg (by omega), dnN, if_pos (by omega)]
theorem lift_hi {p e : Nat} {D : Nat → Nat} {i : Nat} (h : p ≤ i) (h2 : e ≤ i + 1) : liftN p e D i = D (i + 1) := by
  rw [liftN, delN, if_neg (by omega), dnN, if_neg (by omega)]
theorem WF_lift {n p : Nat} {D : Nat → Nat} (h : WF n D) (hp0 : 0 < p) (hp : p < n) (hc : p + 1 < endN n D p) (hpar : ∀ q, q < p → D q = D p - 1 → (∀ j, q < j → j < p → D p - 1 < D j) → chN n D q + (chN n D p - 1) ≤ 6) : WF (n - 1) (liftN p (endN n D p) D) := by
  obtain ⟨hS, hl⟩ := h
  obtain ⟨s1, s2, s3, s4, s5⟩ := hS
  have e2 := endN_le (D := D) hp
  obtain ⟨f1, f2, f3, f4⟩ := endN_is (D := D) hp
  have hchn := chN_dr (D := D) hp
  generalize endN n D p = e at hc e2 f1 f2 f3 f4 ⊢
  have p1 := s4 p hp0 hp
  refine ⟨⟨by omega, by omega, ?_, fun i i0 hi => ?_, fun i hi => ?_⟩, ?_⟩
  · rw [lift_lo hp0]; exact s3
  · by_cases c1 : i < p
    · rw [lift_lo c1, lift_lo (by omega)]; exact s4 i i0 (by omega)
    · have u1 := s4 (i + 1) (by omega) (by omega)
      rw [Nat.add_sub_cancel] at u1
      by_cases c2 : i + 1 < e
      · rw [lift_mid (by omega) c2]
        have u2 := f3 (i + 1) (by omega) c2
        by_cases c3 : i = p
        · subst c3
          rw [lift_lo (by omega)]
          omega
        · rw [lift_mid (by omega) (by omega), show i - 1 + 1 = i by omega]
          have u3 := f3 i (by omega) (by omega)
          omega
      · rw [lift_hi (by omega) (by omega)]
        by_cases c3 : i + 1 = e
        · have u2 := f4 (by omega)
          have u3 := f3 i (by omega) (by omega)
          rw [lift_mid (by omega) (by omega), show i - 1 + 1 = i by omega, c3]
          rw [c3] at u1
          omega
        · rw [lift_hi (by omega) (by omega), show i - 1 + 1 = i by omega]
          exact u1
  · by_cases c1 : i < p
    · rw [lift_lo c1]; exact s5 i (by omega)
    · have u1 := s5 (i + 1) (by omega)
      by_cases c2 : i + 1 < e
      · rw [lift_mid (by omega) c2]; omega
      · rw [lift_hi (by omega) (by omega)]; exact u1
  · -- the lists
    have E1 : dr D p (n - p) = D p :: (dr D (p + 1) (e - (p + 1)) ++ dr D e (n - e)) := by
      rw [show n - p = ((e - (p + 1)) + (n - e)) + 1 by omega, dr, dr_app, show p + 1 + (e - (p + 1)) = e by omega]
    have E2 : dr D (p + 1) (n - (p + 1)) = dr D (p + 1) (e - (p + 1)) ++ dr D e (n - e) := by
      rw [show n - (p + 1) = (e - (p + 1)) + (n - e) by omega, dr_app, show p + 1 + (e - (p + 1)) = e by omega]
    have E3 : dr (liftN p e D) 0 (n - 1) = dr D 0 p ++ (dr (liftN p e D) p (e - (p + 1)) ++ dr D e (n - e)) := by
      rw [show n - 1 = p + ((e - (p + 1)) + (n - e)) by omega, dr_app, dr_app, Nat.zero_add, dr_congr p 0 0 (D := liftN p e D) (D' := D) (fun i hi => lift_lo (by omega)), dr_congr (n - e) (p + (e - (p + 1))) e (D := liftN p e D) (D' := D) (fun i hi => by rw [lift_hi (by omega) (by omega), show p + (e - (p + 1)) + i + 1 = e + i by omega])]
    have bigP : ∀ x ∈ dr D (p + 1) (e - (p + 1)), D p + 1 ≤ x := dr_ge fun i a1 a2 => f3 i a1 (by omega)
    have bigN : ∀ x ∈ dr (liftN p e D) p (e - (p + 1)), D p ≤ x := dr_ge fun i a1 a2 => by
      rw [lift_mid a1 (by omega)]
      have := f3 (i + 1) (by omega) (by omega)
      omega
    have hR : ∀ y, (dr D e (n - e)).head? = some y → y ≤ D p := dr_head f4
    have hsh : ∀ i, i < e - (p + 1) → D (p + 1 + i) = (fun j => liftN p e D (j - 1)) (p + 1 + i) + 1 := fun i hi => by
      show D (p + 1 + i) = liftN p e D (p + 1 + i - 1) + 1
      rw [show p + 1 + i - 1 = p + i by omega, lift_mid (by omega) (by omega), show p + i + 1 = p + 1 + i by omega]
      have := f3 (p + 1 + i) (by omega) (by omega)
      omega
    have E4 : dr (fun j => liftN p e D (j - 1)) (p + 1) (e - (p + 1)) = dr (liftN p e D) p (e - (p + 1)) := dr_congr _ _ _ fun i hi => by
      show liftN p e D (p + 1 + i - 1) = _
      rw [show p + 1 + i - 1 = p + i by omega]
    have F1 : chN n D p = chL (D p) (dr D (p + 1) (e - (p + 1))) := by
      rw [hchn, E2, chL_gt _ _ (fun x hx => bigP x hx), chL_head hR, Nat.add_zero]
    have F2 : ∀ x, chL x (dr (liftN p e D) p (e - (p + 1))) = chL (x + 1) (dr D (p + 1) (e - (p + 1))) := fun x => by
      rw [← E4]; exact (chL_shift _ _ _ _ hsh).symm
    have hne : dr D (p + 1) (e - (p + 1)) = D (p + 1) :: dr D (p + 2) (e - (p + 2)) := by
      rw [show e - (p + 1) = (e - (p + 2)) + 1 by omega, dr]
    have hnx : D (p + 1) = D p + 1 := by
      have a1 := s4 (p + 1) (by omega) (by omega)
      have a2 := f3 (p + 1) (by omega) (by omega)
      rw [Nat.add_sub_cancel] at a1
      omega
    have hc1 : 1 ≤ chN n D p := by
      rw [F1, hne, chL, if_neg (by omega), if_pos hnx]; omega
    show okL _
    rw [E3]
    refine lim_repl (by omega) hl (D p - 1) (chN n D p - 1) ?_ ?_ hpar ?_
    · intro x hx
      rw [E1, chL]
      by_cases c : D p ≤ x
      · rw [if_pos c, chL_head]
        · exact Nat.le_refl _
        · intro y hy
          have : (dr (liftN p e D) p (e - (p + 1)) ++ dr D e (n - e)).head? = some (liftN p e D p) := by
            rw [show e - (p + 1) = (e - (p + 2)) + 1 by omega, dr]; rfl
          rw [this] at hy
          cases hy
          rw [lift_mid (Nat.le_refl p) (by omega), hnx]
          omega
      · rw [if_neg c, chL_gt (dr (liftN p e D) p (e - (p + 1))) _ (fun y hy => by have := bigN y hy; omega), chL_gt (dr D (p + 1) (e - (p + 1))) _ (fun y hy => by have := bigP y hy; omega), chL_big (dr (liftN p e D) p (e - (p + 1))) (fun y hy => by have := bigN y hy; omega), chL_big (dr D (p + 1) (e - (p + 1))) (fun y hy => by have := bigP y hy; omega)]
        omega
    · rw [E1, chL, if_neg (by omega), if_pos (by omega), chL_gt (dr (liftN p e D) p (e - (p + 1))) _ (fun y hy => by have := bigN y hy; omega), chL_gt (dr D (p + 1) (e - (p + 1))) _ (fun y hy => by have := bigP y hy; omega), chL_big (dr D (p + 1) (e - (p + 1))) (fun y hy => by have := bigP y hy; omega), F2, show D p - 1 + 1 = D p by omega, ← F1]
      omega
    · refine okL_app (d := D p) _ _ bigN hR ?_ (okL_dr hl e2)
      have k1 : okL (dr D (p + 1) (e - (p + 1)) ++ dr D e (n - e)) := by rw [← E2]; exact okL_dr hl (by omega)
      have k2 := okL_cut (d := D p + 1) _ _ bigP (fun y hy => by have := hR y hy; omega) k1
      rw [← E4]
      exact (okL_shift _ _ _ _ hsh).mp k2
