/-! the child limit, over lists of depths -/
def chL (d : Nat) : List Nat → Nat
  | [] => 0
  | x :: l => if x ≤ d then 0 else (if x = d + 1 then 1 else 0) + chL d l
def okL : List Nat → Prop
  | [] => True
  | x :: l => chL x l ≤ 6 ∧ okL l
/-- the depths of k nodes from a on -/
def dr (D : Nat → Nat) : Nat → Nat → List Nat
  | _, 0 => []
  | a, k + 1 => D a :: dr D (a + 1) k
def lim (n : Nat) (D : Nat → Nat) : Prop := okL (dr D 0 n)
theorem dr_app (D : Nat → Nat) : ∀ k a j, dr D a (k + j) = dr D a k ++ dr D (a + k) j := by
  intro k
  induction k with
  | zero => intro a j; rw [Nat.zero_add, Nat.add_zero]; rfl
  | succ k ih =>
    intro a j
    rw [show k + 1 + j = (k + j) + 1 by omega, dr, dr, ih, show a + 1 + k = a + (k + 1) by omega]; rfl
theorem dr_congr {D D' : Nat → Nat} : ∀ k a b, (∀ i, i < k → D (a + i) = D' (b + i)) → dr D a k = dr D' b k := by
  intro k
  induction k with
  | zero => intro a b _; rfl
  | succ k ih =>
    intro a b h
    rw [dr, dr, ih (a + 1) (b + 1) (fun i hi => by rw [show a + 1 + i = a + (i + 1) by omega, show b + 1 + i = b + (i + 1) by omega]; exact h (i + 1) (by omega))]
    have := h 0 (by omega)
    rw [Nat.add_zero, Nat.add_zero] at this
    rw [this]
theorem dr_mem {D : Nat → Nat} : ∀ k a x, x ∈ dr D a k → ∃ i, i < k ∧ x = D (a + i) := by
  intro k
  induction k with
  | zero => intro a x h; cases h
  | succ k ih =>
    intro a x h
    rw [dr] at h
    rcases List.mem_cons.mp h with h | h
    · exact ⟨0, by omega, h⟩
    · obtain ⟨i, h1, h2⟩ := ih (a + 1) x h
      exact ⟨i + 1, by omega, by rw [h2, show a + 1 + i = a + (i + 1) by omega]⟩
theorem chL_gt {d : Nat} : ∀ (l1 l2 : List Nat), (∀ x ∈ l1, d < x) → chL d (l1 ++ l2) = chL d l1 + chL d l2 := by
  intro l1
  induction l1 with
  | nil => intro l2 _; simp [chL]
  | cons y l ih =>
    intro l2 h
    have hy := h y List.mem_cons_self
    rw [List.cons_append, chL, chL, if_neg (show ¬ y ≤ d by omega), if_neg (show ¬ y ≤ d by omega), ih l2 (fun x hx => h x (List.mem_cons_of_mem _ hx)), Nat.add_assoc]
theorem chL_le {d : Nat} : ∀ (l1 l2 : List Nat), (∃ x ∈ l1, x ≤ d) → chL d (l1 ++ l2) = chL d l1 := by
  intro l1
  induction l1 with
  | nil => intro l2 h; obtain ⟨x, h, _⟩ := h; cases h
  | cons y l ih =>
    intro l2 h
    rw [List.cons_append, chL, chL]
    by_cases hy : y ≤ d
    · rw [if_pos hy, if_pos hy]
    · rw [if_neg hy, if_neg hy]
      obtain ⟨x, h1, h2⟩ := h
      rcases List.mem_cons.mp h1 with h1 | h1
      · rw [h1] at h2; exact absurd h2 hy
      · rw [ih l2 ⟨x, h1, h2⟩]
theorem chL_head {d : Nat} {l : List Nat} (h : ∀ x, l.head? = some x → x ≤ d) : chL d l = 0 := by
  cases l with
  | nil => rfl
  | cons y l => rw [chL, if_pos (h y rfl)]
theorem chL_big {d : Nat} : ∀ (l : List Nat), (∀ x ∈ l, d + 1 < x) → chL d l = 0 := by
  intro l
  induction l with
  | nil => intro _; rfl
  | cons y l ih =>
    intro h
    have hy := h y List.mem_cons_self
    rw [chL, if_neg (by omega), if_neg (by omega), ih (fun x hx => h x (List.mem_cons_of_mem _ hx))]
theorem chL_app_le {d : Nat} (l1 : List Nat) {l2 l2' : List Nat} (h : chL d l2' ≤ chL d l2) : chL d (l1 ++ l2') ≤ chL d (l1 ++ l2) := by
  by_cases c : ∀ x ∈ l1, d < x
  · rw [chL_gt l1 l2' c, chL_gt l1 l2 c]; omega
  · have c : ∃ x ∈ l1, x ≤ d := by
      have := Classical.not_forall.mp c
      obtain ⟨x, hx⟩ := this
      have := Classical.not_imp.mp hx
      exact ⟨x, this.1, by omega⟩
    rw [chL_le l1 l2' c, chL_le l1 l2 c]; exact Nat.le_refl _
/-- a tail put in place of another, where only one depth's count grows -/
theorem okL_repl {x0 δ : Nat} {R R' : List Nat} (h1 : ∀ x, x ≠ x0 → chL x R' ≤ chL x R) (h2 : chL x0 R' ≤ chL x0 R + δ) (hok : okL R') : ∀ l1 : List Nat, okL (l1 ++ R) → (∀ u v, l1 = u ++ x0 :: v → (∀ y ∈ v, x0 < y) → chL x0 (v ++ R) + δ ≤ 6) → okL (l1 ++ R') := by
  intro l1
  induction l1 with
  | nil => intro _ _; exact hok
  | cons y l ih =>
    intro hR hp
    rw [List.cons_append, okL] at hR ⊢
    refine ⟨?_, ih hR.2 (fun u v e hv => hp (y :: u) v (by rw [e]; rfl) hv)⟩
    by_cases e : y = x0
    · subst e
      by_cases c : ∀ x ∈ l, y < x
      · have h3 := hp [] l rfl c
        rw [chL_gt l R c] at h3
        rw [chL_gt l R' c]
        omega
      · have c : ∃ x ∈ l, x ≤ y := by
          obtain ⟨x, hx⟩ := Classical.not_forall.mp c
          have := Classical.not_imp.mp hx
          exact ⟨x, this.1, by omega⟩
        rw [chL_le l R' c, ← chL_le l R c]
        exact hR.1
    · exact Nat.le_trans (chL_app_le l (h1 y e)) hR.1
theorem okL_tail : ∀ l1 l2 : List Nat, okL (l1 ++ l2) → okL l2 := by
  intro l1
  induction l1 with
  | nil => intro l2 h; exact h
  | cons y l ih => intro l2 h; rw [List.cons_append, okL] at h; exact ih l2 h.2
/-- the count of children, by its list -/
theorem chL_dr {n : Nat} {D : Nat → Nat} {d : Nat} : ∀ k j e, j + k = n → IsEnd n D d j e → chL d (dr D j k) = cntN D (d + 1) (e - j) j := by
  intro k
  induction k with
  | zero =>
    intro j e hk he
    rw [dr, show e - j = 0 by have := he.1; have := he.2.1; omega]; rfl
  | succ k ih =>
    intro j e hk he
    obtain ⟨a1, a2, a3, a4⟩ := he
    rw [dr, chL]
    by_cases c : D j ≤ d
    · have : e = j := by
        rcases Nat.lt_or_ge j e with z | z
        · have := a3 j (Nat.le_refl j) z; omega
        · omega
      rw [if_pos c, this, Nat.sub_self]; rfl
    · have hje : j < e := by
        rcases Nat.lt_or_ge j e with z | z
        · exact z
        · have : e = j := by omega
          rw [this] at a4
          have := a4 (by omega); omega
      rw [if_neg c, ih (j + 1) e (by omega) ⟨hje, a2, fun i b1 b2 => a3 i (by omega) b2, a4⟩, show e - j = (e - (j + 1)) + 1 by omega, cntN]
theorem chN_dr {n : Nat} {D : Nat → Nat} {i : Nat} (hi : i < n) : chN n D i = chL (D i) (dr D (i + 1) (n - (i + 1))) := (chL_dr (n - (i + 1)) (i + 1) (endN n D i) (by omega) (endN_is hi)).symm
theorem lim_at {n : Nat} {D : Nat → Nat} (h : lim n D) {i : Nat} (hi : i < n) : chN n D i ≤ 6 := by
  rw [chN_dr hi]
  unfold lim at h
  rw [show n = i + (n - i) by omega, dr_app, Nat.zero_add] at h
  have h2 := okL_tail _ _ h
  rw [show n - i = (n - (i + 1)) + 1 by omega, dr, okL] at h2
  rw [show n - (i + 1) = n - (i + 1) from rfl]
  exact h2.1
theorem dr_split {D : Nat → Nat} : ∀ k a (u v : List Nat) (x : Nat), dr D a k = u ++ x :: v → ∃ q, q < k ∧ x = D (a + q) ∧ v = dr D (a + q + 1) (k - (q + 1)) := by
  intro k
  induction k with
  | zero => intro a u v x h; cases u <;> cases h
  | succ k ih =>
    intro a u v x h
    rw [dr] at h
    cases u with
    | nil =>
      rw [List.nil_append] at h
      injection h with h1 h2
      exact ⟨0, by omega, h1.symm, by rw [← h2]; rfl⟩
    | cons y u =>
      rw [List.cons_append] at h
      injection h with h1 h2
      obtain ⟨q, q1, q2, q3⟩ := ih (a + 1) u v x h2
      exact ⟨q + 1, by omega, by rw [q2]; congr 1; omega, by rw [q3, show a + 1 + q + 1 = a + (q + 1) + 1 by omega, show k - (q + 1) = k + 1 - (q + 1 + 1) by omega]⟩
/-- the first a nodes stay, behind them R' -/
theorem lim_repl {n a : Nat} {D : Nat → Nat} {R' : List Nat} (ha : a ≤ n) (hl : lim n D) (x0 δ : Nat) (h1 : ∀ x, x ≠ x0 → chL x R' ≤ chL x (dr D a (n - a))) (h2 : chL x0 R' ≤ chL x0 (dr D a (n - a)) + δ) (hpar : ∀ q, q < a → D q = x0 → (∀ j, q < j → j < a → x0 < D j) → chN n D q + δ ≤ 6) (hok : okL R') : okL (dr D 0 a ++ R') := by
  unfold lim at hl
  rw [show n = a + (n - a) by omega, dr_app, Nat.zero_add] at hl
  refine okL_repl h1 h2 hok (dr D 0 a) hl (fun u v e hv => ?_)
  obtain ⟨q, q1, q2, q3⟩ := dr_split a 0 u v x0 e
  rw [Nat.zero_add] at q2 q3
  have h3 := hpar q q1 q2.symm (fun j a1 a2 => hv _ (by
    rw [q3]
    have e1 : dr D (q + 1) (a - (q + 1)) = dr D (q + 1) (j - (q + 1)) ++ dr D j (a - j) := by
      rw [show a - (q + 1) = (j - (q + 1)) + (a - j) by omega, dr_app, show q + 1 + (j - (q + 1)) = j by omega]
    rw [e1, show a - j = (a - j - 1) + 1 by omega, dr]
    exact List.mem_append_right _ List.mem_cons_self))
  rw [chN_dr (show q < n by omega), q2.symm, show n - (q + 1) = (a - (q + 1)) + (n - a) by omega, dr_app, show q + 1 + (a - (q + 1)) = a by omega] at h3
  rw [q3]
  exact h3
