/-! the shape and the limit are kept -/
def WF (n : Nat) (D : Nat → Nat) : Prop := Sh n D ∧ lim n D
theorem dr_ge {D : Nat → Nat} {a k d : Nat} (h : ∀ i, a ≤ i → i < a + k → d ≤ D i) : ∀ x ∈ dr D a k, d ≤ x := by
  intro x hx
  obtain ⟨i, h1, h2⟩ := dr_mem k a x hx
  rw [h2]; exact h (a + i) (by omega) (by omega)
theorem dr_head {D : Nat → Nat} {n a d : Nat} (h : a < n → D a ≤ d) : ∀ x, (dr D a (n - a)).head? = some x → x ≤ d := by
  intro x hx
  by_cases c : a < n
  · rw [show n - a = (n - a - 1) + 1 by omega, dr] at hx
    injection hx with hx
    rw [← hx]; exact h c
  · rw [show n - a = 0 by omega, dr] at hx; cases hx
theorem okL_dr {n : Nat} {D : Nat → Nat} (h : lim n D) {a : Nat} (ha : a ≤ n) : okL (dr D a (n - a)) := by
  unfold lim at h
  rw [show n = a + (n - a) by omega, dr_app, Nat.zero_add] at h
  exact okL_tail _ _ h
/-- a block put in -/
def blkN (a g : Nat) (f G : Nat → Nat) : Nat → Nat := fun i => if i < a then f i else if i < a + g then G (i - a) else f (i - g)
theorem dr_blk {a g n : Nat} {D G : Nat → Nat} (ha : a ≤ n) : dr (blkN a g D G) 0 (n + g) = dr D 0 a ++ (dr G 0 g ++ dr D a (n - a)) := by
  rw [show n + g = a + (g + (n - a)) by omega, dr_app, dr_app, Nat.zero_add]
  congr 1
  · exact dr_congr a 0 0 (fun i hi => by simp only [blkN]; rw [if_pos (by omega)])
  · congr 1
    · exact dr_congr g a 0 (fun i hi => by simp only [blkN]; rw [if_neg (by omega), if_pos (by omega)]; congr 1; omega)
    · exact dr_congr (n - a) (a + g) a (fun i hi => by simp only [blkN]; rw [if_neg (by omega), if_neg (by omega)]; congr 1; omega)
/-- what stands in a block: a root of depth d, deeper nodes behind it -/
def Bl (g d : Nat) (G : Nat → Nat) : Prop := 0 < g ∧ G 0 = d ∧ (∀ i, 0 < i → i < g → d < G i ∧ G i ≤ G (i - 1) + 1) ∧ ∀ i, i < g → G i ≤ 7
theorem Bl.chB {g d x : Nat} {G : Nat → Nat} (h : Bl g d G) (R : List Nat) (hR : ∀ y, R.head? = some y → y ≤ d) : chL x (dr G 0 g ++ R) = if x < d then (if x + 1 = d then 1 else 0) + chL x R else 0 := by
  obtain ⟨h0, h1, h2, h3⟩ := h
  by_cases c : x < d
  · rw [if_pos c, show g = (g - 1) + 1 by omega, dr, List.cons_append, chL, h1, if_neg (by omega)]
    rw [chL_gt _ R (fun y hy => by obtain ⟨i, i1, i2⟩ := dr_mem _ _ _ hy; have := h2 (0 + 1 + i) (by omega) (by omega); omega), chL_big (dr G (0 + 1) (g - 1)) (fun y hy => by obtain ⟨i, i1, i2⟩ := dr_mem _ _ _ hy; have := h2 (0 + 1 + i) (by omega) (by omega); omega)]
    by_cases e : x + 1 = d
    · rw [if_pos (by omega), if_pos e, Nat.zero_add]
    · rw [if_neg (by omega), if_neg e, Nat.zero_add]
  · rw [if_neg c, show g = (g - 1) + 1 by omega, dr, List.cons_append, chL, h1, if_pos (by omega)]
/-- the limit inside a block doesn't look behind it -/
theorem okL_app {d : Nat} : ∀ (l R : List Nat), (∀ x ∈ l, d ≤ x) → (∀ y, R.head? = some y → y ≤ d) → okL l → okL R → okL (l ++ R) := by
  intro l R
  induction l with
  | nil => intro _ _ _ h; exact h
  | cons x l ih =>
    intro h1 h2 h3 h4
    rw [List.cons_append, okL]
    rw [okL] at h3
    refine ⟨?_, ih (fun y hy => h1 y (List.mem_cons_of_mem _ hy)) h2 h3.2 h4⟩
    have hx := h1 x List.mem_cons_self
    by_cases c : ∀ y ∈ l, x < y
    · rw [chL_gt l R c, chL_head (l := R) (fun y hy => by have := h2 y hy; omega)]; exact h3.1
    · obtain ⟨y, hy⟩ := Classical.not_forall.mp c
      have := Classical.not_imp.mp hy
      rw [chL_le l R ⟨y, this.1, by omega⟩]; exact h3.1
theorem okL_cut {d : Nat} : ∀ (l R : List Nat), (∀ x ∈ l, d ≤ x) → (∀ y, R.head? = some y → y ≤ d) → okL (l ++ R) → okL l := by
  intro l R
  induction l with
  | nil => intro _ _ _; exact trivial
  | cons x l ih =>
    intro h1 h2 h3
    rw [List.cons_append, okL] at h3
    rw [okL]
    refine ⟨?_, ih (fun y hy => h1 y (List.mem_cons_of_mem _ hy)) h2 h3.2⟩
    have hx := h1 x List.mem_cons_self
    have h4 := h3.1
    by_cases c : ∀ y ∈ l, x < y
    · rw [chL_gt l R c, chL_head (l := R) (fun y hy => by have := h2 y hy; omega)] at h4; exact h4
    · obtain ⟨y, hy⟩ := Classical.not_forall.mp c
      have := Classical.not_imp.mp hy
      rw [chL_le l R ⟨y, this.1, by omega⟩] at h4; exact h4
/-- a block put in where the parent has room -/
theorem WF_blk {n a g d : Nat} {D G : Nat → Nat} (h : WF n D) (hB : Bl g d G) (hG : okL (dr G 0 g)) (ha0 : 0 < a) (ha : a ≤ n) (hng : n + g ≤ 40) (hd : 1 ≤ d) (hd1 : d ≤ D (a - 1) + 1) (hd2 : a < n → D a ≤ d) (hpar : ∀ q, q < a → D q + 1 = d → (∀ j, q < j → j < a → D q < D j) → chN n D q < 6) : WF (n + g) (blkN a g D G) := by
  obtain ⟨hS, hl⟩ := h
  obtain ⟨s1, s2, s3, s4, s5⟩ := hS
  have hB' := hB
  obtain ⟨b0, b1, b2, b3⟩ := hB'
  refine ⟨⟨by omega, hng, ?_, fun i i0 hi => ?_, fun i hi => ?_⟩, ?_⟩
  · simp only [blkN]; rw [if_pos ha0]; exact s3
  · simp only [blkN]
    by_cases c1 : i < a
    · rw [if_pos c1, if_pos (by omega)]; exact s4 i i0 (by omega)
    · rw [if_neg c1]
      by_cases c2 : i < a + g
      · rw [if_pos c2]
        by_cases c3 : i = a
        · subst c3
          rw [Nat.sub_self, b1, if_pos (by omega)]; exact ⟨hd, hd1⟩
        · rw [if_neg (by omega), if_pos (by omega)]
          have := b2 (i - a) (by omega) (by omega)
          rw [show i - a - 1 = i - 1 - a by omega] at this
          omega
      · rw [if_neg c2]
        by_cases c3 : i = a + g
        · subst c3
          rw [show a + g - g = a by omega, if_neg (by omega), if_pos (by omega)]
          have u1 := s4 a ha0 (by omega)
          have u2 := hd2 (by omega)
          have u3 : d ≤ G (a + g - 1 - a) := by
            by_cases z : a + g - 1 - a = 0
            · rw [z, b1]; exact Nat.le_refl _
            · have := (b2 _ (by omega) (show a + g - 1 - a < g by omega)).1; omega
          omega
        · rw [if_neg (by omega), if_neg (by omega)]
          have := s4 (i - g) (by omega) (by omega)
          rw [show i - g - 1 = i - 1 - g by omega] at this
          exact this
  · simp only [blkN]
    by_cases c1 : i < a
    · rw [if_pos c1]; exact s5 i (by omega)
    · rw [if_neg c1]
      by_cases c2 : i < a + g
      · rw [if_pos c2]; exact b3 _ (by omega)
      · rw [if_neg c2]; exact s5 _ (by omega)
  · unfold lim
    rw [dr_blk ha]
    have hh := dr_head (D := D) (n := n) (a := a) (d := d) hd2
    refine lim_repl ha hl (d - 1) 1 (fun x hx => ?_) ?_ (fun q q1 q2 q3 => ?_) ?_
    · rw [hB.chB _ hh]
      by_cases c : x < d
      · rw [if_pos c, if_neg (by omega), Nat.zero_add]; exact Nat.le_refl _
      · rw [if_neg c]; exact Nat.zero_le _
    · rw [hB.chB _ hh, if_pos (by omega), if_pos (by omega)]; omega
    · have := hpar q q1 (by omega) (fun j j1 j2 => by have := q3 j j1 j2; omega); omega
    · exact okL_app (d := d) _ _ (dr_ge (fun i _ hi => by
        by_cases z : i = 0
        · rw [z, b1]; exact Nat.le_refl _
        · have := (b2 i (by omega) (by omega)).1; omega)) hh hG (okL_dr hl ha)
/-- a part taken out -/
theorem WF_del {n a : Nat} {D : Nat → Nat} (h : WF n D) (ha0 : 0 < a) (ha : a < n) : WF (n - (endN n D a - a)) (delN a (endN n D a - a) D) := by
  obtain ⟨hS, hl⟩ := h
  obtain ⟨s1, s2, s3, s4, s5⟩ := hS
  have e1 := endN_gt (D := D) ha
  have e2 := endN_le (D := D) ha
  obtain ⟨f1, f2, f3, f4⟩ := endN_is (D := D) ha
  generalize hg : endN n D a = e at e1 e2 f1 f2 f3 f4 ⊢
  refine ⟨⟨by omega, by omega, ?_, fun i i0 hi => ?_, fun i hi => ?_⟩, ?_⟩
  · simp only [delN]; rw [if_pos ha0]; exact s3
  · simp only [delN]
    by_cases c1 : i < a
    · rw [if_pos c1, if_pos (by omega)]; exact s4 i i0 (by omega)
    · rw [if_neg c1]
      have u1 := s4 (i + (e - a)) (by omega) (by omega)
      by_cases c2 : i = a
      · subst c2
        rw [if_pos (by omega)]
        have u2 := f4 (by omega)
        have u3 := s4 i ha0 ha
        rw [show i + (e - i) = e by omega] at u1 ⊢
        omega
      · rw [if_neg (by omega)]
        rw [show i + (e - a) - 1 = i - 1 + (e - a) by omega] at u1
        exact u1
  · simp only [delN]
    by_cases c1 : i < a
    · rw [if_pos c1]; exact s5 i (by omega)
    · rw [if_neg c1]; exact s5 _ (by omega)
  · unfold lim
    have ed : dr (delN a (e - a) D) 0 (n - (e - a)) = dr D 0 a ++ dr D e (n - e) := by
      rw [show n - (e - a) = a + (n - e) by omega, dr_app, Nat.zero_add]
      congr 1
      · exact dr_congr a 0 0 (fun i hi => by simp only [delN]; rw [if_pos (by omega)])
      · exact dr_congr (n - e) a e (fun i hi => by simp only [delN]; rw [if_neg (by omega)]; congr 1; omega)
    rw [ed]
    have hm : ∀ x, chL x (dr D e (n - e)) ≤ chL x (dr D a (n - a)) := by
      intro x
      by_cases c : x < D a
      · rw [show n - a = (e - a) + (n - e) by omega, dr_app, show a + (e - a) = e by omega, chL_gt]
        · omega
        · intro y hy
          obtain ⟨i, i1, i2⟩ := dr_mem _ _ _ hy
          by_cases z : i = 0
          · rw [z, Nat.add_zero] at i2; omega
          · have := f3 (a + i) (by omega) (by omega); omega
      · rw [chL_head (dr_head (fun q => by have := f4 q; omega))]; exact Nat.zero_le _
    exact lim_repl (by omega) hl 0 0 (fun x _ => hm x) (hm 0) (fun q q1 q2 q3 => lim_at hl (by omega)) (okL_dr hl e2)
