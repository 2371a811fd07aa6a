/-! the tree that a text tells, as it grows -/
theorem ch_app {n q d : Nat} {D : Nat → Nat} (hq : q < n) (hgt : ∀ j, q < j → j < n → D q < D j) (hd : D q < d) : chN (n + 1) (insN n d D) q = chN n D q + (if d = D q + 1 then 1 else 0) := by
  have e0 : insN n d D q = D q := by rw [insN, if_pos hq]
  have q1 : n + 1 - (q + 1) = (n - (q + 1)) + 1 := by omega
  have d1 : dr (insN n d D) (q + 1) (n - (q + 1)) = dr D (q + 1) (n - (q + 1)) := dr_congr _ _ _ (fun i hi => by rw [insN, if_pos (by omega)])
  have d2 : dr (insN n d D) (q + 1 + (n - (q + 1))) 1 = [d] := by
    rw [show q + 1 + (n - (q + 1)) = n by omega, dr, dr, insN, if_neg (by omega), if_pos rfl]
  have gt : ∀ x ∈ dr D (q + 1) (n - (q + 1)), D q < x := fun x hx => by
    obtain ⟨i, i1, i2⟩ := dr_mem _ _ _ hx
    rw [i2]; exact hgt _ (by omega) (by omega)
  rw [chN_dr (show q < n + 1 by omega), chN_dr hq, e0, q1, dr_app _ (n - (q + 1)) (q + 1) 1, d1, d2, chL_gt _ _ gt, chL, if_neg (by omega), chL]
  omega
theorem WF_one {D : Nat → Nat} (h : D 0 = 0) : WF 1 D := by
  refine ⟨⟨by omega, by omega, h, fun i h1 h2 => by omega, fun i hi => ?_⟩, ?_⟩
  · have : i = 0 := by omega
    rw [this, h]; omega
  · show okL (dr D 0 1)
    rw [dr, dr, okL, okL, chL]
    exact ⟨by omega, trivial⟩
theorem ch_last {n : Nat} {D : Nat → Nat} (hn : 0 < n) : chN n D (n - 1) = 0 := by
  have := endN_le (n := n) (D := D) (i := n - 1) (by omega)
  rw [chN, show endN n D (n - 1) - (n - 1 + 1) = 0 by omega, cntN]
def ScP (c : Nat → Nat) (i d tn w mo : Nat) (TL TD O : Nat → Nat) : Prop :=
  d ≤ 7 ∧ tn ≤ 40 ∧ (∀ j, j < tn → TL j ≤ 25) ∧ (∀ j, j < d → O j + (if w = 1 ∧ j + 1 = d then 1 else 0) ≤ 6) ∧ (w = 0 ∨ w = 1) ∧ (tn = 0 → d = 0 ∧ w = 1) ∧ (0 < tn → WF tn TD ∧ d ≤ TD (tn - 1) + w ∧ (w = 1 → 1 ≤ d)) ∧ (w = 0 → 0 < i ∧ ((mo = 1 ∧ (97 ≤ c (i - 1) ∧ c (i - 1) ≤ 122) ∧ d = TD (tn - 1)) ∨ (mo = 0 ∧ ¬ (97 ≤ c (i - 1) ∧ c (i - 1) ≤ 122)))) ∧ ∀ q, q < tn → (∀ j, q < j → j < tn → TD q < TD j) → TD q < d → chN tn TD q = O (TD q)
def upO (d : Nat) (O : Nat → Nat) : Nat → Nat := fun j => if j + 1 = d then O j + 1 else O j
theorem ScP.letter {c : Nat → Nat} {i d tn mo : Nat} {TL TD O : Nat → Nat} (h : ScP c i d tn 1 mo TL TD O) (htn : tn < 40) (hc : 97 ≤ c i ∧ c i ≤ 122) : ScP c (i + 1) d (tn + 1) 0 1 (insN tn (c i - 97) TL) (insN tn d TD) (upO d O) := by
  obtain ⟨h1, h2, h3, h4, h5, h6, h7, h8, h9⟩ := h
  have hW : WF (tn + 1) (insN tn d TD) := by
    by_cases z : tn = 0
    · subst z
      have := (h6 rfl).1
      subst this
      exact WF_one (by rw [insN, if_neg (by omega), if_pos rfl])
    · obtain ⟨a1, a2, a3⟩ := h7 (by omega)
      refine WF_ins a1 (by omega) (Nat.le_refl _) htn (a3 rfl) h1 a2 (fun y => by omega) (fun q q1 q2 q3 => ?_)
      rw [h9 q q1 q3 (by omega)]
      have := h4 (TD q) (by omega)
      rw [if_pos ⟨rfl, q2⟩] at this
      omega
  refine ⟨h1, by omega, fun j hj => ?_, fun j hj => ?_, Or.inl rfl, fun z => by omega, fun _ => ⟨hW, ?_, fun z => by omega⟩, fun _ => ⟨by omega, Or.inl ⟨rfl, ?_, ?_⟩⟩, fun q q1 q2 q3 => ?_⟩
  · rw [insN]
    by_cases y : j < tn
    · rw [if_pos y]; exact h3 j y
    · rw [if_neg y, if_pos (by omega)]; omega
  · have := h4 j hj
    rw [if_neg (by omega), upO]
    by_cases y : j + 1 = d
    · rw [if_pos ⟨rfl, y⟩] at this
      rw [if_pos y]; omega
    · rw [if_neg (fun z => y z.2)] at this
      rw [if_neg y]; omega
  · rw [Nat.add_sub_cancel, insN, if_neg (by omega), if_pos rfl]; omega
  · rw [Nat.add_sub_cancel]; exact hc
  · rw [Nat.add_sub_cancel, insN, if_neg (by omega), if_pos rfl]
  · by_cases y : q < tn
    · have e : insN tn d TD q = TD q := by rw [insN, if_pos y]
      rw [e] at q3 ⊢
      have dp : ∀ j, q < j → j < tn → TD q < TD j := fun j j1 j2 => by
        have := q2 j j1 (by omega)
        rw [e, insN, if_pos j2] at this
        exact this
      rw [ch_app y dp q3, h9 q y dp q3, upO]
      by_cases z : TD q + 1 = d
      · rw [if_pos z.symm, if_pos z]
      · rw [if_neg (fun y => z y.symm), if_neg z]; rfl
    · have : q = tn := by omega
      subst this
      rw [insN, if_neg (by omega), if_pos rfl] at q3
      omega
theorem ScP.opening {c : Nat → Nat} {i d tn mo mo' : Nat} {TL TD O : Nat → Nat} (h : ScP c i d tn 0 mo TL TD O) (hm : mo = 1) (hd : d < 7) : ScP c (i + 1) (d + 1) tn 1 mo' TL TD (insN d 0 O) := by
  obtain ⟨h1, h2, h3, h4, h5, h6, h7, h8, h9⟩ := h
  have htn : 0 < tn := by
    apply Nat.pos_of_ne_zero
    intro z
    have := (h6 z).2
    omega
  obtain ⟨a1, a2, a3⟩ := h7 htn
  have hdd : d = TD (tn - 1) := by
    rcases (h8 rfl).2 with ⟨_, _, y⟩ | ⟨y, _⟩
    · exact y
    · omega
  refine ⟨by omega, h2, h3, fun j hj => ?_, Or.inr rfl, fun z => by omega, fun _ => ⟨a1, by omega, fun _ => by omega⟩, fun z => by omega, fun q q1 q2 q3 => ?_⟩
  · rw [insN]
    by_cases y : j < d
    · have := h4 j y
      rw [if_neg (by omega)] at this
      rw [if_pos y, if_neg (by omega)]; exact this
    · rw [if_neg y, if_pos (by omega), if_pos ⟨rfl, by omega⟩]; omega
  · by_cases y : TD q < d
    · rw [insN, if_pos y]; exact h9 q q1 q2 y
    · have e : q = tn - 1 := by
        apply Decidable.byContradiction
        intro z
        have := q2 (tn - 1) (by omega) (by omega)
        omega
      rw [e, ch_last htn, insN, if_neg (by omega), if_pos (by omega)]
theorem ScP.comma {c : Nat → Nat} {i d tn mo : Nat} {TL TD O : Nat → Nat} (h : ScP c i d tn 0 mo TL TD O) (hd : 0 < d) (hO : O (d - 1) < 6) : ScP c (i + 1) d tn 1 mo TL TD O := by
  obtain ⟨h1, h2, h3, h4, h5, h6, h7, h8, h9⟩ := h
  have htn : 0 < tn := by
    apply Nat.pos_of_ne_zero
    intro z
    have := (h6 z).2
    omega
  obtain ⟨a1, a2, a3⟩ := h7 htn
  refine ⟨h1, h2, h3, fun j hj => ?_, Or.inr rfl, fun z => by omega, fun _ => ⟨a1, by omega, fun _ => by omega⟩, fun z => by omega, h9⟩
  have := h4 j hj
  rw [if_neg (by omega)] at this
  by_cases y : j + 1 = d
  · rw [if_pos ⟨rfl, y⟩, show j = d - 1 by omega]; omega
  · rw [if_neg (fun z => y z.2)]; exact this
theorem ScP.closing {c : Nat → Nat} {i d tn mo : Nat} {TL TD O : Nat → Nat} (h : ScP c i d tn 0 mo TL TD O) (hd : 0 < d) (hc : c i = 41) : ScP c (i + 1) (d - 1) tn 0 0 TL TD O := by
  obtain ⟨h1, h2, h3, h4, h5, h6, h7, h8, h9⟩ := h
  have htn : 0 < tn := by
    apply Nat.pos_of_ne_zero
    intro z
    have := (h6 z).2
    omega
  obtain ⟨a1, a2, a3⟩ := h7 htn
  refine ⟨by omega, h2, h3, fun j hj => ?_, Or.inl rfl, fun z => by omega, fun _ => ⟨a1, by omega, fun z => by omega⟩, fun _ => ⟨by omega, Or.inr ⟨rfl, ?_⟩⟩, fun q q1 q2 q3 => h9 q q1 q2 (by omega)⟩
  · have := h4 j (by omega)
    rw [if_neg (by omega)] at this
    rw [if_neg (by omega)]; exact this
  · rw [Nat.add_sub_cancel, hc]; omega
theorem ScP.start (c : Nat → Nat) (mo : Nat) (TL TD O : Nat → Nat) : ScP c 0 0 0 1 mo TL TD O :=
  ⟨by omega, by omega, fun j hj => by omega, fun j hj => by omega, Or.inr rfl, fun _ => ⟨rfl, rfl⟩, fun z => by omega, fun z => by omega, fun q hq => by omega⟩
