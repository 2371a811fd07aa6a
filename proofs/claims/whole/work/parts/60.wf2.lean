/-! the shape and the limit: wrap, lift, exchange, parts -/
theorem chL_shift {d : Nat} : ∀ (k a : Nat) (D D' : Nat → Nat), (∀ i, i < k → D' (a + i) = D (a + i) + 1) → chL (d + 1) (dr D' a k) = chL d (dr D a k) := by
  intro k
  induction k with
  | zero => intro a D D' _; rfl
  | succ k ih =>
    intro a D D' h
    have h0 := h 0 (by omega)
    rw [Nat.add_zero] at h0
    rw [dr, dr, chL, chL, h0, ih (a + 1) D D' (fun i hi => by rw [show a + 1 + i = a + (i + 1) by omega]; exact h (i + 1) (by omega))]
    by_cases c : D a ≤ d
    · rw [if_pos c, if_pos (by omega)]
    · rw [if_neg c, if_neg (by omega)]
      by_cases c2 : D a = d + 1
      · rw [if_pos c2, if_pos (by omega)]
      · rw [if_neg c2, if_neg (by omega)]
theorem okL_shift : ∀ (k a : Nat) (D D' : Nat → Nat), (∀ i, i < k → D' (a + i) = D (a + i) + 1) → (okL (dr D' a k) ↔ okL (dr D a k)) := by
  intro k
  induction k with
  | zero => intro a D D' _; exact Iff.rfl
  | succ k ih =>
    intro a D D' h
    have h0 := h 0 (by omega)
    rw [Nat.add_zero] at h0
    have hr : ∀ i, i < k → D' (a + 1 + i) = D (a + 1 + i) + 1 := fun i hi => by rw [show a + 1 + i = a + (i + 1) by omega]; exact h (i + 1) (by omega)
    rw [dr, dr, okL, okL, h0, chL_shift k (a + 1) D D' hr, ih (a + 1) D D' hr]
/-- a node put in above a part: depth of the node as that of the part's root was -/
theorem WF_wrap {n p : Nat} {D : Nat → Nat} (h : WF n D) (hp : p < n) (hn : n < 40) (hd7 : ∀ i, p ≤ i → i < endN n D p → D i < 7) : WF (n + 1) (insN p (D p) (upN p (endN n D p) D)) := by
  obtain ⟨hS, hl⟩ := h
  obtain ⟨s1, s2, s3, s4, s5⟩ := hS
  have e1 := endN_gt (D := D) hp
  have e2 := endN_le (D := D) hp
  obtain ⟨f1, f2, f3, f4⟩ := endN_is (D := D) hp
  generalize hg : endN n D p = e at e1 e2 f1 f2 f3 f4 hd7 ⊢
  have val : ∀ i, insN p (D p) (upN p e D) i = if i < p then D i else if i = p then D p else if i ≤ e then D (i - 1) + 1 else D (i - 1) := by
    intro i
    simp only [insN, upN]
    by_cases c1 : i < p
    · rw [if_pos c1, if_pos c1, if_neg (by omega)]
    · rw [if_neg c1, if_neg c1]
      by_cases c2 : i = p
      · rw [if_pos c2, if_pos c2]
      · rw [if_neg c2, if_neg c2]
        by_cases c3 : i ≤ e
        · rw [if_pos c3, if_pos (by omega)]
        · rw [if_neg c3, if_neg (by omega)]
  refine ⟨⟨by omega, by omega, ?_, fun i i0 hi => ?_, fun i hi => ?_⟩, ?_⟩
  · rw [val]
    by_cases c : 0 < p
    · rw [if_pos c]; exact s3
    · rw [if_neg c, if_pos (by omega), show p = 0 by omega]; exact s3
  · rw [val, val]
    by_cases c1 : i < p
    · rw [if_pos c1, if_pos (by omega)]; exact s4 i i0 (by omega)
    · rw [if_neg c1]
      by_cases c2 : i = p
      · subst c2
        rw [if_pos rfl, if_pos (by omega)]; exact s4 i i0 (by omega)
      · rw [if_neg c2, if_neg (show ¬ i - 1 < p by omega)]
        by_cases c3 : i ≤ e
        · rw [if_pos c3]
          by_cases c4 : i - 1 = p
          · rw [if_pos c4, c4]; omega
          · rw [if_neg c4, if_pos (by omega)]
            have u1 := s4 (i - 1) (by omega) (by omega)
            omega
        · rw [if_neg c3]
          have u1 := s4 (i - 1) (by omega) (by omega)
          by_cases c4 : i - 1 = p
          · omega
          · rw [if_neg c4]
            by_cases c5 : i - 1 ≤ e
            · rw [if_pos c5]; omega
            · rw [if_neg c5]; exact u1
  · rw [val]
    by_cases c1 : i < p
    · rw [if_pos c1]; exact s5 i (by omega)
    · rw [if_neg c1]
      by_cases c2 : i = p
      · rw [if_pos c2]; exact s5 p hp
      · rw [if_neg c2]
        by_cases c3 : i ≤ e
        · rw [if_pos c3]; have := hd7 (i - 1) (by omega) (by omega); omega
        · rw [if_neg c3]; exact s5 _ (by omega)
  · unfold lim
    have ed : dr (insN p (D p) (upN p e D)) 0 (n + 1) = dr D 0 p ++ (D p :: (dr (fun i => D i + 1) p (e - p) ++ dr D e (n - e))) := by
      rw [show n + 1 = p + (((e - p) + (n - e)) + 1) by omega, dr_app, Nat.zero_add, dr, dr_app]
      congr 1
      · exact dr_congr p 0 0 (fun i hi => by rw [val, if_pos (by omega)])
      · congr 1
        · rw [val, if_neg (by omega), if_pos rfl]
        · congr 1
          · exact dr_congr (e - p) (p + 1) p (fun i hi => by rw [val, if_neg (by omega), if_neg (by omega), if_pos (by omega)]; congr 2; omega)
          · exact dr_congr (n - e) (p + 1 + (e - p)) e (fun i hi => by rw [val, if_neg (by omega), if_neg (by omega), if_neg (by omega)]; congr 1; omega)
    rw [ed]
    have hh := dr_head (D := D) (n := n) (a := e) (d := D p) f4
    have hge : ∀ i, p ≤ i → i < e → D p ≤ D i := fun i a b => by
      by_cases z : i = p
      · rw [z]; exact Nat.le_refl _
      · have := f3 i (by omega) b; omega
    have hgt : ∀ x, x < D p → ∀ y ∈ dr D (p + 1) (e - (p + 1)), x + 1 < y := fun x hx y hy => by
      obtain ⟨i, i1, i2⟩ := dr_mem _ _ _ hy
      have := f3 (p + 1 + i) (by omega) (by omega); omega
    have hgt' : ∀ x, x < D p → ∀ y ∈ dr (fun i => D i + 1) p (e - p), x + 1 < y := fun x hx y hy => by
      obtain ⟨i, i1, i2⟩ := dr_mem _ _ _ hy
      have := hge (p + i) (by omega) (by omega)
      have i2' : y = D (p + i) + 1 := i2
      omega
    have hm : ∀ x, chL x (D p :: (dr (fun i => D i + 1) p (e - p) ++ dr D e (n - e))) ≤ chL x (dr D p (n - p)) := by
      intro x
      rw [show n - p = ((e - (p + 1)) + (n - e)) + 1 by omega, dr, dr_app, show p + 1 + (e - (p + 1)) = e by omega, chL, chL]
      by_cases c : D p ≤ x
      · rw [if_pos c, if_pos c]; exact Nat.le_refl _
      · rw [if_neg c, if_neg c, chL_gt _ _ (fun y hy => by have := hgt' x (by omega) y hy; omega), chL_gt _ _ (fun y hy => by have := hgt x (by omega) y hy; omega), chL_big _ (hgt x (by omega)), chL_big _ (hgt' x (by omega))]
        exact Nat.le_refl _
    refine lim_repl (by omega) hl 0 0 (fun x _ => hm x) (hm 0) (fun q q1 q2 q3 => lim_at hl (by omega)) ?_
    have hok := okL_dr hl (show p ≤ n by omega)
    rw [show n - p = (e - p) + (n - e) by omega, dr_app, show p + (e - p) = e by omega] at hok
    have hk1 := okL_cut (d := D p) _ _ (dr_ge (fun i a b => hge i a (by omega))) hh hok
    have hk2 := okL_tail _ _ hok
    have hk3 : okL (dr (fun i => D i + 1) p (e - p)) := (okL_shift (e - p) p D (fun i => D i + 1) (fun i _ => rfl)).mpr hk1
    refine ⟨?_, okL_app (d := D p) _ _ (dr_ge (fun i a b => by have := hge i a (by omega); show D p ≤ D i + 1; omega)) hh hk3 hk2⟩
    rw [chL_gt _ _ (dr_ge (d := D p + 1) (fun i a b => by have := hge i a (by omega); show D p + 1 ≤ D i + 1; omega)), chL_head hh, show e - p = (e - (p + 1)) + 1 by omega, dr, chL, if_neg (by show ¬ D p + 1 ≤ D p; omega), if_pos rfl, chL_big _ (fun y hy => by
      obtain ⟨i, i1, i2⟩ := dr_mem _ _ _ hy
      have := f3 (p + 1 + i) (by omega) (by omega)
      have i2' : y = D (p + 1 + i) + 1 := i2
      omega)]
    omega
/-- a part as a tree of its own -/
theorem WF_sub {n p : Nat} {D : Nat → Nat} (h : WF n D) (hp : p < n) : WF (endN n D p - p) (subN p (D p) D) := by
  obtain ⟨hS, hl⟩ := h
  obtain ⟨s1, s2, s3, s4, s5⟩ := hS
  have e1 := endN_gt (D := D) hp
  have e2 := endN_le (D := D) hp
  obtain ⟨f1, f2, f3, f4⟩ := endN_is (D := D) hp
  generalize hg : endN n D p = e at e1 e2 f1 f2 f3 f4 ⊢
  have hge : ∀ i, p ≤ i → i < e → D p ≤ D i := fun i a b => by
    by_cases z : i = p
    · rw [z]; exact Nat.le_refl _
    · have := f3 i (by omega) b; omega
  refine ⟨⟨by omega, by omega, ?_, fun i i0 hi => ?_, fun i hi => ?_⟩, ?_⟩
  · simp only [subN]; rw [Nat.add_zero, Nat.sub_self]
  · simp only [subN]
    have u1 := s4 (p + i) (by omega) (by omega)
    have u2 := f3 (p + i) (by omega) (by omega)
    have u3 := hge (p + (i - 1)) (by omega) (by omega)
    rw [show p + i - 1 = p + (i - 1) by omega] at u1
    omega
  · simp only [subN]; have := s5 (p + i) (by omega); omega
  · unfold lim
    have hok := okL_dr hl (show p ≤ n by omega)
    rw [show n - p = (e - p) + (n - e) by omega, dr_app, show p + (e - p) = e by omega] at hok
    have hk1 := okL_cut (d := D p) _ _ (dr_ge (fun i a b => hge i a (by omega))) (dr_head (D := D) (n := n) (a := e) (d := D p) f4) hok
    have key : ∀ c (F : Nat → Nat), (∀ i, i < e - p → c ≤ F i) → okL (dr F 0 (e - p)) → okL (dr (fun i => F i - c) 0 (e - p)) := by
      intro c
      induction c with
      | zero => intro F _ h; exact h
      | succ c ih =>
        intro F hF h
        have h2 : okL (dr (fun i => F i - 1) 0 (e - p)) := (okL_shift (e - p) 0 (fun i => F i - 1) F (fun i hi => by rw [Nat.zero_add]; have := hF i hi; show F i = F i - 1 + 1; omega)).mp h
        have h3 := ih (fun i => F i - 1) (fun i hi => by have := hF i hi; show c ≤ F i - 1; omega) h2
        rw [dr_congr (D' := fun i => F i - 1 - c) (e - p) 0 0 (fun i _ => by show F (0 + i) - (c + 1) = F (0 + i) - 1 - c; omega)]
        exact h3
    have hk2 : okL (dr (fun i => D (p + i)) 0 (e - p)) := by
      rw [dr_congr (D' := D) (e - p) 0 p (fun i _ => by show D (p + (0 + i)) = D (p + i); rw [Nat.zero_add])]
      exact hk1
    exact key (D p) (fun i => D (p + i)) (fun i hi => hge _ (by omega) (by omega)) hk2
/-- neighbours exchanged -/
theorem WF_rot {n a m : Nat} {D : Nat → Nat} (h : WF n D) (ha0 : 0 < a) (ha : a < n) (hm : m = endN n D a) (hmn : m < n) (hd : D m = D a) : WF n (rotN a m (endN n D m) D) := by
  obtain ⟨hS, hl⟩ := h
  obtain ⟨s1, s2, s3, s4, s5⟩ := hS
  have e1 := endN_gt (D := D) ha
  obtain ⟨f1, f2, f3, f4⟩ := endN_is (D := D) ha
  rw [← hm] at e1 f1 f2 f3 f4
  have g1 := endN_gt (D := D) hmn
  have g2 := endN_le (D := D) hmn
  obtain ⟨k1, k2, k3, k4⟩ := endN_is (D := D) hmn
  generalize hb : endN n D m = b at g1 g2 k1 k2 k3 k4 ⊢
  clear hm hb
  have ge1 : ∀ i, a ≤ i → i < b → D a ≤ D i := fun i x y => by
    by_cases z : i = a
    · rw [z]; exact Nat.le_refl _
    · by_cases z2 : i < m
      · have := f3 i (by omega) z2; omega
      · by_cases z3 : i = m
        · rw [z3]; omega
        · have := k3 i (by omega) y; omega
  refine ⟨⟨by omega, s2, ?_, fun i i0 hi => ?_, fun i hi => ?_⟩, ?_⟩
  · simp only [rotN]; rw [if_pos ha0]; exact s3
  · have u0 := s4 a ha0 ha
    simp only [rotN]
    by_cases c1 : i < a
    · rw [if_pos c1, if_pos (by omega)]; exact s4 i i0 (by omega)
    · rw [if_neg c1]
      by_cases c2 : i < a + (b - m)
      · rw [if_pos c2]
        by_cases c3 : i = a
        · subst c3
          rw [if_pos (by omega), show i + (m - i) = m by omega, hd]; exact u0
        · rw [if_neg (by omega), if_pos (by omega)]
          have := s4 (i + (m - a)) (by omega) (by omega)
          rw [show i + (m - a) - 1 = i - 1 + (m - a) by omega] at this
          exact this
      · rw [if_neg c2]
        by_cases c3 : i < b
        · rw [if_pos c3]
          by_cases c4 : i = a + (b - m)
          · subst c4
            rw [if_neg (by omega), if_pos (by omega), show a + (b - m) - (b - m) = a by omega]
            have := ge1 (a + (b - m) - 1 + (m - a)) (by omega) (by omega)
            omega
          · rw [if_neg (by omega), if_neg (by omega), if_pos (by omega)]
            have := s4 (i - (b - m)) (by omega) (by omega)
            rw [show i - (b - m) - 1 = i - 1 - (b - m) by omega] at this
            exact this
        · rw [if_neg c3]
          have v := s4 i i0 hi
          by_cases c4 : i = b
          · subst c4
            rw [if_neg (by omega), if_neg (by omega), if_pos (by omega)]
            have w1 := k4 hi
            have w2 := ge1 (i - 1 - (i - m)) (by omega) (by omega)
            omega
          · rw [if_neg (by omega), if_neg (by omega), if_neg (by omega)]; exact v
  · simp only [rotN]
    by_cases c1 : i < a
    · rw [if_pos c1]; exact s5 i hi
    · rw [if_neg c1]
      by_cases c2 : i < a + (b - m)
      · rw [if_pos c2]; exact s5 _ (by omega)
      · rw [if_neg c2]
        by_cases c3 : i < b
        · rw [if_pos c3]; exact s5 _ (by omega)
        · rw [if_neg c3]; exact s5 i hi
  · unfold lim
    have ed : dr (rotN a m b D) 0 n = dr D 0 a ++ (dr D m (b - m) ++ (dr D a (m - a) ++ dr D b (n - b))) := by
      rw [show n = a + ((b - m) + ((m - a) + (n - b))) by omega, dr_app, dr_app, dr_app, Nat.zero_add]
      congr 1
      · exact dr_congr a 0 0 (fun i hi => by simp only [rotN]; rw [if_pos (by omega)])
      · congr 1
        · exact dr_congr (b - m) a m (fun i hi => by simp only [rotN]; rw [if_neg (by omega), if_pos (by omega)]; congr 1; omega)
        · congr 1
          · exact dr_congr (m - a) _ a (fun i hi => by simp only [rotN]; rw [if_neg (by omega), if_neg (by omega), if_pos (by omega)]; congr 1; omega)
          · rw [show a + (b - m + (m - a + (n - b))) - b = n - b by omega]
            exact dr_congr (n - b) _ b (fun i hi => by simp only [rotN]; rw [if_neg (by omega), if_neg (by omega), if_neg (by omega)]; congr 1; omega)
    rw [ed]
    have hh := dr_head (D := D) (n := n) (a := b) (d := D a) (fun z => by have := k4 z; omega)
    have hs1 : dr D a (n - a) = dr D a (m - a) ++ (dr D m (b - m) ++ dr D b (n - b)) := by
      rw [show n - a = (m - a) + ((b - m) + (n - b)) by omega, dr_app, dr_app, show a + (m - a) = m by omega, show m + (b - m) = b by omega]
    have hm : ∀ x, chL x (dr D m (b - m) ++ (dr D a (m - a) ++ dr D b (n - b))) ≤ chL x (dr D a (n - a)) := by
      intro x
      rw [hs1]
      by_cases c : x < D a
      · have v1 : ∀ y ∈ dr D a (m - a), x < y := fun y hy => by have := dr_ge (d := D a) (fun i p q => ge1 i p (by omega)) y hy; omega
        have v2 : ∀ y ∈ dr D m (b - m), x < y := fun y hy => by have := dr_ge (d := D a) (fun i p q => ge1 i (by omega) (by omega)) y hy; omega
        rw [chL_gt _ _ v1, chL_gt _ _ v2, chL_gt _ _ v2, chL_gt _ _ v1]; omega
      · rw [show b - m = (b - (m + 1)) + 1 by omega, dr, List.cons_append, chL, if_pos (by omega)]; exact Nat.zero_le _
    refine lim_repl (by omega) hl 0 0 (fun x _ => hm x) (hm 0) (fun q q1 q2 q3 => lim_at hl (by omega)) ?_
    have hok := okL_dr hl (show a ≤ n by omega)
    rw [hs1] at hok
    have hA := okL_cut (d := D a) _ _ (dr_ge (fun i p q => ge1 i p (by omega))) (fun y hy => by
      rw [show b - m = (b - (m + 1)) + 1 by omega, dr] at hy
      injection hy with hy; omega) hok
    have hB := okL_tail _ _ hok
    have hB1 := okL_cut (d := D a) _ _ (dr_ge (fun i p q => ge1 i (by omega) (by omega))) hh hB
    have hC := okL_tail _ _ hB
    refine okL_app (d := D a) _ _ (dr_ge (fun i p q => ge1 i (by omega) (by omega))) (fun y hy => ?_) hB1 (okL_app (d := D a) _ _ (dr_ge (fun i p q => ge1 i p (by omega))) hh hA hC)
    rw [show m - a = (m - (a + 1)) + 1 by omega, dr] at hy
    injection hy with hy; omega
