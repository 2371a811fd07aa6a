/-! trees by numbers: what the two systems hold, and the walks along them -/
def TRep (t : TR) (n : Nat) (L D : Nat → Nat) : Prop := RRep t.1 n (fun i => nI (L i)) ∧ RRep t.2 n (fun i => nI (D i))
def MRep (s : Arr) (n : Nat) (L D K : Nat → Nat) : Prop := s 0 = nI n ∧ ∀ i, i < n → s (18 + 3 * i) = nI (L i) ∧ s (18 + 3 * i + 1) = nI (D i) ∧ s (18 + 3 * i + 2) = nI (K i)
/-- the shape of a tree -/
def Sh (n : Nat) (D : Nat → Nat) : Prop := 1 ≤ n ∧ n ≤ 40 ∧ D 0 = 0 ∧ (∀ i, 0 < i → i < n → 1 ≤ D i ∧ D i ≤ D (i - 1) + 1) ∧ ∀ i, i < n → D i ≤ 7
theorem T_depthOf_in {t : TR} {n : Nat} {L D : Nat → Nat} (h : TRep t n L D) (hn : n ≤ 40) {i : Nat} (hi : i < n) : T_depthOf t (nI i) = some (nI (D i)) := by
  rw [T_depthOf, R_at_in h.2 hn (by omega) hi, p_bs]
theorem T_depthOf_out {t : TR} {n : Nat} {L D : Nat → Nat} (h : TRep t n L D) (hn : n ≤ 40) {i : Nat} (hi : n ≤ i) (h2 : i < 2147483648) : T_depthOf t (nI i) = some (-nI 1) := by
  rw [T_depthOf, R_at_out h.2 hn (by omega) hi h2, p_bs]
theorem T_letterOf_in {t : TR} {n : Nat} {L D : Nat → Nat} (h : TRep t n L D) (hn : n ≤ 40) {i : Nat} (hi : i < n) : T_letterOf t (nI i) = some (nI (L i)) := by
  rw [T_letterOf, R_at_in h.1 hn (by omega) hi, p_bs]
theorem T_size_ok {t : TR} {n : Nat} {L D : Nat → Nat} (h : TRep t n L D) : T_size t = some (nI n) := by
  rw [T_size, R_size_ok 40 h.1, p_bs]
theorem T_has_in {t : TR} {n : Nat} {L D : Nat → Nat} (h : TRep t n L D) (hn : n ≤ 40) {i : Nat} (hi : i < n) : T_has t (nI i) = some (nI 1) := by
  rw [T_has, T_size_ok h, p_bs]
  simp (disch := omega) only [p_0, p_1, p_2, p_3, p_4, p_5, p_6, p_7, p_8, p_9, p_18, p_25, p_26, p_32, p_40, p_41, p_44, p_97, p_100, p_120, p_122, p_126, p_138, p_218, p_654, p_872, p_ofNat, p_ofInt, p_add, p_mul, p_le, p_lt, p_eq, p_neg, p_nn, p_m1, p_m1r, p_dec, p_ix, p_sub, if_true, if_false, reduceIte, Nat.not_lt_zero, or_false, false_or, or_true, true_or, and_true, true_and, p_bs]
  rw [if_neg (by omega)]
theorem T_has_out {t : TR} {n : Nat} {L D : Nat → Nat} (h : TRep t n L D) (hn : n ≤ 40) {i : Nat} (hi : n ≤ i) (h2 : i < 2147483648) : T_has t (nI i) = some (nI 0) := by
  rw [T_has, T_size_ok h, p_bs]
  simp (disch := omega) only [p_0, p_1, p_2, p_3, p_4, p_5, p_6, p_7, p_8, p_9, p_18, p_25, p_26, p_32, p_40, p_41, p_44, p_97, p_100, p_120, p_122, p_126, p_138, p_218, p_654, p_872, p_ofNat, p_ofInt, p_add, p_mul, p_le, p_lt, p_eq, p_neg, p_nn, p_m1, p_m1r, p_dec, p_ix, p_sub, if_true, if_false, reduceIte, Nat.not_lt_zero, or_false, false_or, or_true, true_or, and_true, true_and, p_bs]
  rw [if_pos (by omega)]
theorem T_has_neg {t : TR} {x : Int32} (hx : x < nI 0) : T_has t x = some (nI 0) := by
  rw [T_has, if_pos (show x < 0 from hx)]; rfl
theorem M_sign_in {m : MD} {n : Nat} {L D K : Nat → Nat} (h : MRep m.1 n L D K) (hn : n ≤ 40) {i : Nat} (hi : i < n) : M_sign m (nI i) = some (nI (L i)) := by
  rw [M_sign]; simp (disch := omega) only [p_0, p_1, p_2, p_3, p_4, p_5, p_6, p_7, p_8, p_9, p_18, p_25, p_26, p_32, p_40, p_41, p_44, p_97, p_100, p_120, p_122, p_126, p_138, p_218, p_654, p_872, p_ofNat, p_ofInt, p_add, p_mul, p_le, p_lt, p_eq, p_neg, p_nn, p_m1, p_m1r, p_dec, p_ix, p_sub, if_true, if_false, reduceIte, Nat.not_lt_zero, or_false, false_or, or_true, true_or, and_true, true_and, p_bs]; rw [if_neg (by omega), (h.2 i hi).1]
theorem M_deep_in {m : MD} {n : Nat} {L D K : Nat → Nat} (h : MRep m.1 n L D K) (hn : n ≤ 40) {i : Nat} (hi : i < n) : M_deep m (nI i) = some (nI (D i)) := by
  rw [M_deep]; simp (disch := omega) only [p_0, p_1, p_2, p_3, p_4, p_5, p_6, p_7, p_8, p_9, p_18, p_25, p_26, p_32, p_40, p_41, p_44, p_97, p_100, p_120, p_122, p_126, p_138, p_218, p_654, p_872, p_ofNat, p_ofInt, p_add, p_mul, p_le, p_lt, p_eq, p_neg, p_nn, p_m1, p_m1r, p_dec, p_ix, p_sub, if_true, if_false, reduceIte, Nat.not_lt_zero, or_false, false_or, or_true, true_or, and_true, true_and, p_bs]; rw [if_neg (by omega), (h.2 i hi).2.1]
theorem M_own_in {m : MD} {n : Nat} {L D K : Nat → Nat} (h : MRep m.1 n L D K) (hn : n ≤ 40) {i : Nat} (hi : i < n) : M_own m (nI i) = some (nI (K i)) := by
  rw [M_own]; simp (disch := omega) only [p_0, p_1, p_2, p_3, p_4, p_5, p_6, p_7, p_8, p_9, p_18, p_25, p_26, p_32, p_40, p_41, p_44, p_97, p_100, p_120, p_122, p_126, p_138, p_218, p_654, p_872, p_ofNat, p_ofInt, p_add, p_mul, p_le, p_lt, p_eq, p_neg, p_nn, p_m1, p_m1r, p_dec, p_ix, p_sub, if_true, if_false, reduceIte, Nat.not_lt_zero, or_false, false_or, or_true, true_or, and_true, true_and, p_bs]; rw [if_neg (by omega), (h.2 i hi).2.2]
theorem M_many {m : MD} {n : Nat} {L D K : Nat → Nat} (h : MRep m.1 n L D K) : m.1 (ix 0) = nI n := h.1
/-! the end of a part -/
def eN (n : Nat) (D : Nat → Nat) (d : Nat) : Nat → Nat → Nat
  | 0, e => e
  | k + 1, e => if e < n ∧ d < D e then eN n D d k (e + 1) else e
def endN (n : Nat) (D : Nat → Nat) (i : Nat) : Nat := eN n D (D i) n (i + 1)
/-- r is the end, looked for from e on -/
def IsEnd (n : Nat) (D : Nat → Nat) (d e r : Nat) : Prop := e ≤ r ∧ r ≤ n ∧ (∀ j, e ≤ j → j < r → d < D j) ∧ (r < n → D r ≤ d)
theorem IsEnd.uniq {n : Nat} {D : Nat → Nat} {d e r r' : Nat} (h : IsEnd n D d e r) (h' : IsEnd n D d e r') : r = r' := by
  obtain ⟨a1, a2, a3, a4⟩ := h
  obtain ⟨b1, b2, b3, b4⟩ := h'
  rcases Nat.lt_trichotomy r r' with z | z | z
  · have := a4 (by omega); have := b3 r a1 z; omega
  · exact z
  · have := b4 (by omega); have := a3 r' b1 z; omega
theorem eN_is {n : Nat} {D : Nat → Nat} {d : Nat} : ∀ k e, e ≤ n → n - e ≤ k → IsEnd n D d e (eN n D d k e) := by
  intro k
  induction k with
  | zero => intro e h1 h2; rw [eN]; exact ⟨Nat.le_refl e, h1, fun j a b => by omega, fun h => by omega⟩
  | succ k ih =>
    intro e h1 h2
    rw [eN]
    by_cases hc : e < n ∧ d < D e
    · rw [if_pos hc]
      obtain ⟨a1, a2, a3, a4⟩ := ih (e + 1) (by omega) (by omega)
      refine ⟨by omega, a2, fun j b1 b2 => ?_, a4⟩
      by_cases hj : j = e
      · rw [hj]; exact hc.2
      · exact a3 j (by omega) b2
    · rw [if_neg hc]
      exact ⟨Nat.le_refl e, h1, fun j a b => by omega, fun h => by
        have : ¬ d < D e := fun z => hc ⟨h, z⟩
        omega⟩
theorem endN_is {n : Nat} {D : Nat → Nat} {i : Nat} (hi : i < n) : IsEnd n D (D i) (i + 1) (endN n D i) := eN_is n (i + 1) hi (by omega)
theorem endN_gt {n : Nat} {D : Nat → Nat} {i : Nat} (hi : i < n) : i < endN n D i := (endN_is hi).1
theorem endN_le {n : Nat} {D : Nat → Nat} {i : Nat} (hi : i < n) : endN n D i ≤ n := (endN_is hi).2.1
theorem T_endOf_loop {t : TR} {n : Nat} {L D : Nat → Nat} (h : TRep t n L D) (hn : n ≤ 40) (hD : ∀ i, i < n → D i ≤ 7) {i : Nat} (hi : i < n) : ∀ fu e, e ≤ n → n - e < fu → ∃ r, T_endOf_L4 fu t (nI i) (nI e) = some (nI r) ∧ IsEnd n D (D i) e r := by
  intro fu
  induction fu with
  | zero => intro e _ h; omega
  | succ fu ih =>
    intro e he hf
    have hdi := hD i hi
    rw [T_endOf_L4, R_size_ok 40 h.2, p_bs]
    by_cases e1 : e = n
    · subst e1
      refine ⟨e, ?_, Nat.le_refl e, Nat.le_refl e, fun j a b => by omega, fun h => by omega⟩
      simp (disch := omega) only [p_0, p_1, p_2, p_3, p_4, p_5, p_6, p_7, p_8, p_9, p_18, p_25, p_26, p_32, p_40, p_41, p_44, p_97, p_100, p_120, p_122, p_126, p_138, p_218, p_654, p_872, p_ofNat, p_ofInt, p_add, p_mul, p_le, p_lt, p_eq, p_neg, p_nn, p_m1, p_m1r, p_dec, p_ix, p_sub, if_true, if_false, reduceIte, Nat.not_lt_zero, or_false, false_or, or_true, true_or, and_true, true_and, p_bs]
      rw [if_pos (Nat.le_refl e)]
    · have hde := hD e (by omega)
      rw [R_at_in h.2 hn (by omega) (show e < n by omega), p_bs, R_at_in h.2 hn (by omega) hi, p_bs]
      by_cases e2 : D i < D e
      · obtain ⟨r, g1, a1, a2, a3, a4⟩ := ih (e + 1) (by omega) (by omega)
        refine ⟨r, ?_, by omega, a2, fun j b1 b2 => ?_, a4⟩
        · simp (disch := omega) only [p_0, p_1, p_2, p_3, p_4, p_5, p_6, p_7, p_8, p_9, p_18, p_25, p_26, p_32, p_40, p_41, p_44, p_97, p_100, p_120, p_122, p_126, p_138, p_218, p_654, p_872, p_ofNat, p_ofInt, p_add, p_mul, p_le, p_lt, p_eq, p_neg, p_nn, p_m1, p_m1r, p_dec, p_ix, p_sub, if_true, if_false, reduceIte, Nat.not_lt_zero, or_false, false_or, or_true, true_or, and_true, true_and, p_bs]
          rw [if_neg (by omega), if_pos e2]
          exact g1
        · by_cases hj : j = e
          · rw [hj]; exact e2
          · exact a3 j (by omega) b2
      · refine ⟨e, ?_, Nat.le_refl e, he, fun j a b => by omega, fun _ => by omega⟩
        simp (disch := omega) only [p_0, p_1, p_2, p_3, p_4, p_5, p_6, p_7, p_8, p_9, p_18, p_25, p_26, p_32, p_40, p_41, p_44, p_97, p_100, p_120, p_122, p_126, p_138, p_218, p_654, p_872, p_ofNat, p_ofInt, p_add, p_mul, p_le, p_lt, p_eq, p_neg, p_nn, p_m1, p_m1r, p_dec, p_ix, p_sub, if_true, if_false, reduceIte, Nat.not_lt_zero, or_false, false_or, or_true, true_or, and_true, true_and, p_bs]
        rw [if_neg (by omega), if_neg e2]
theorem T_endOf_ok {t : TR} {n : Nat} {L D : Nat → Nat} (h : TRep t n L D) (hn : n ≤ 40) (hD : ∀ i, i < n → D i ≤ 7) {i : Nat} (hi : i < n) : T_endOf t (nI i) = some (nI (endN n D i)) := by
  obtain ⟨r, g1, g2⟩ := T_endOf_loop h hn hD hi 1000 (i + 1) (by omega) (by omega)
  rw [T_endOf, ← g2.uniq (endN_is hi)]
  simp (disch := omega) only [p_0, p_1, p_2, p_3, p_4, p_5, p_6, p_7, p_8, p_9, p_18, p_25, p_26, p_32, p_40, p_41, p_44, p_97, p_100, p_120, p_122, p_126, p_138, p_218, p_654, p_872, p_ofNat, p_ofInt, p_add, p_mul, p_le, p_lt, p_eq, p_neg, p_nn, p_m1, p_m1r, p_dec, p_ix, p_sub, if_true, if_false, reduceIte, Nat.not_lt_zero, or_false, false_or, or_true, true_or, and_true, true_and, p_bs]
  exact g1
theorem M_end_loop {m : MD} {n : Nat} {L D K : Nat → Nat} (h : MRep m.1 n L D K) (hn : n ≤ 40) (hD : ∀ i, i < n → D i ≤ 7) {i : Nat} (hi : i < n) : ∀ fu e, e ≤ n → n - e < fu → ∃ r, M_end_L4 fu m (nI i) (nI e) = some (nI r) ∧ IsEnd n D (D i) e r := by
  intro fu
  induction fu with
  | zero => intro e _ h; omega
  | succ fu ih =>
    intro e he hf
    have hdi := hD i hi
    rw [M_end_L4, M_many h]
    by_cases e1 : e = n
    · subst e1
      refine ⟨e, ?_, Nat.le_refl e, Nat.le_refl e, fun j a b => by omega, fun h => by omega⟩
      simp (disch := omega) only [p_0, p_1, p_2, p_3, p_4, p_5, p_6, p_7, p_8, p_9, p_18, p_25, p_26, p_32, p_40, p_41, p_44, p_97, p_100, p_120, p_122, p_126, p_138, p_218, p_654, p_872, p_ofNat, p_ofInt, p_add, p_mul, p_le, p_lt, p_eq, p_neg, p_nn, p_m1, p_m1r, p_dec, p_ix, p_sub, if_true, if_false, reduceIte, Nat.not_lt_zero, or_false, false_or, or_true, true_or, and_true, true_and, p_bs]
      rw [if_pos (Nat.le_refl e)]
    · have hde := hD e (by omega)
      rw [M_deep_in h hn (show e < n by omega), p_bs, M_deep_in h hn hi, p_bs]
      by_cases e2 : D i < D e
      · obtain ⟨r, g1, a1, a2, a3, a4⟩ := ih (e + 1) (by omega) (by omega)
        refine ⟨r, ?_, by omega, a2, fun j b1 b2 => ?_, a4⟩
        · simp (disch := omega) only [p_0, p_1, p_2, p_3, p_4, p_5, p_6, p_7, p_8, p_9, p_18, p_25, p_26, p_32, p_40, p_41, p_44, p_97, p_100, p_120, p_122, p_126, p_138, p_218, p_654, p_872, p_ofNat, p_ofInt, p_add, p_mul, p_le, p_lt, p_eq, p_neg, p_nn, p_m1, p_m1r, p_dec, p_ix, p_sub, if_true, if_false, reduceIte, Nat.not_lt_zero, or_false, false_or, or_true, true_or, and_true, true_and, p_bs]
          rw [if_neg (by omega), if_neg (by omega)]
          exact g1
        · by_cases hj : j = e
          · rw [hj]; exact e2
          · exact a3 j (by omega) b2
      · refine ⟨e, ?_, Nat.le_refl e, he, fun j a b => by omega, fun _ => by omega⟩
        simp (disch := omega) only [p_0, p_1, p_2, p_3, p_4, p_5, p_6, p_7, p_8, p_9, p_18, p_25, p_26, p_32, p_40, p_41, p_44, p_97, p_100, p_120, p_122, p_126, p_138, p_218, p_654, p_872, p_ofNat, p_ofInt, p_add, p_mul, p_le, p_lt, p_eq, p_neg, p_nn, p_m1, p_m1r, p_dec, p_ix, p_sub, if_true, if_false, reduceIte, Nat.not_lt_zero, or_false, false_or, or_true, true_or, and_true, true_and, p_bs]
        rw [if_neg (by omega), if_pos (by omega)]
theorem M_end_ok {m : MD} {n : Nat} {L D K : Nat → Nat} (h : MRep m.1 n L D K) (hn : n ≤ 40) (hD : ∀ i, i < n → D i ≤ 7) {i : Nat} (hi : i < n) : M_end m (nI i) = some (nI (endN n D i)) := by
  obtain ⟨r, g1, g2⟩ := M_end_loop h hn hD hi 1000 (i + 1) (by omega) (by omega)
  rw [M_end, ← g2.uniq (endN_is hi)]
  simp (disch := omega) only [p_0, p_1, p_2, p_3, p_4, p_5, p_6, p_7, p_8, p_9, p_18, p_25, p_26, p_32, p_40, p_41, p_44, p_97, p_100, p_120, p_122, p_126, p_138, p_218, p_654, p_872, p_ofNat, p_ofInt, p_add, p_mul, p_le, p_lt, p_eq, p_neg, p_nn, p_m1, p_m1r, p_dec, p_ix, p_sub, if_true, if_false, reduceIte, Nat.not_lt_zero, or_false, false_or, or_true, true_or, and_true, true_and, p_bs]
  exact g1
/-! up the tree -/
def loN (D : Nat → Nat) (d : Nat) : Nat → Nat
  | 0 => 0
  | k + 1 => if D (k + 1) ≤ d then k + 1 else loN D d k
def abN (D : Nat → Nat) (i : Nat) : Nat := loN D (D i - 1) i
/-- r is the last up to i that is not deeper than d -/
def IsLo (D : Nat → Nat) (d i r : Nat) : Prop := r ≤ i ∧ D r ≤ d ∧ ∀ j, r < j → j ≤ i → d < D j
theorem IsLo.uniq {D : Nat → Nat} {d i r r' : Nat} (h : IsLo D d i r) (h' : IsLo D d i r') : r = r' := by
  obtain ⟨a1, a2, a3⟩ := h
  obtain ⟨b1, b2, b3⟩ := h'
  rcases Nat.lt_trichotomy r r' with z | z | z
  · have := a3 r' z b1; omega
  · exact z
  · have := b3 r z a1; omega
theorem loN_is {D : Nat → Nat} {d : Nat} (h0 : D 0 = 0) : ∀ i, IsLo D d i (loN D d i) := by
  intro i
  induction i with
  | zero => rw [loN]; exact ⟨Nat.le_refl 0, by omega, fun j a b => by omega⟩
  | succ k ih =>
    rw [loN]
    by_cases hc : D (k + 1) ≤ d
    · rw [if_pos hc]; exact ⟨Nat.le_refl _, hc, fun j a b => by omega⟩
    · rw [if_neg hc]
      obtain ⟨a1, a2, a3⟩ := ih
      refine ⟨by omega, a2, fun j b1 b2 => ?_⟩
      by_cases hj : j = k + 1
      · rw [hj]; omega
      · exact a3 j b1 (by omega)
/-- in a tree it has just this depth -/
theorem IsLo.eq {n : Nat} {D : Nat → Nat} (hS : Sh n D) {d i r : Nat} (hi : i < n) (hd : d ≤ D i) (h : IsLo D d i r) : D r = d := by
  obtain ⟨a1, a2, a3⟩ := h
  by_cases e : r = i
  · rw [e] at a2 ⊢; omega
  · have h1 := a3 (r + 1) (by omega) (by omega)
    have h2 := (hS.2.2.2.1 (r + 1) (by omega) (by omega)).2
    rw [Nat.add_sub_cancel] at h2
    omega
theorem abN_is {n : Nat} {D : Nat → Nat} (hS : Sh n D) {i : Nat} (h0 : 0 < i) (hi : i < n) : abN D i < i ∧ D (abN D i) + 1 = D i ∧ ∀ j, abN D i < j → j ≤ i → D i ≤ D j := by
  have hl := loN_is (d := D i - 1) hS.2.2.1 i
  have h1 := (hS.2.2.2.1 i h0 hi).1
  have he := hl.eq hS hi (by omega)
  obtain ⟨a1, a2, a3⟩ := hl
  refine ⟨?_, by unfold abN; omega, fun j b1 b2 => by have := a3 j b1 b2; omega⟩
  unfold abN
  rcases Nat.lt_or_ge (loN D (D i - 1) i) i with z | z
  · exact z
  · have : loN D (D i - 1) i = i := by omega
    rw [this] at a2
    omega
theorem T_onSpine_loop {t : TR} {n : Nat} {L D : Nat → Nat} (h : TRep t n L D) (hS : Sh n D) {d : Nat} (hd : d ≤ 7) : ∀ fu i, i < n → d ≤ D i → i < fu → ∃ r, T_onSpine_L17 fu t (nI d) (nI i) = some (nI r) ∧ IsLo D d i r := by
  intro fu
  induction fu with
  | zero => intro i _ _ h; omega
  | succ fu ih =>
    intro i hi hdi hf
    have h7 := hS.2.2.2.2 i hi
    have hn := hS.2.1
    rw [T_onSpine_L17, T_depthOf_in h hS.2.1 hi, p_bs]
    by_cases e1 : D i = d
    · refine ⟨i, ?_, Nat.le_refl i, by omega, fun j a b => by omega⟩
      simp (disch := omega) only [p_0, p_1, p_2, p_3, p_4, p_5, p_6, p_7, p_8, p_9, p_18, p_25, p_26, p_32, p_40, p_41, p_44, p_97, p_100, p_120, p_122, p_126, p_138, p_218, p_654, p_872, p_ofNat, p_ofInt, p_add, p_mul, p_le, p_lt, p_eq, p_neg, p_nn, p_m1, p_m1r, p_dec, p_ix, p_sub, if_true, if_false, reduceIte, Nat.not_lt_zero, or_false, false_or, or_true, true_or, and_true, true_and, p_bs]
      rw [if_pos e1]
    · have hi0 : 0 < i := by
        rcases Nat.eq_zero_or_pos i with z | z
        · rw [z, hS.2.2.1] at hdi e1; omega
        · exact z
      have hst := (hS.2.2.2.1 i hi0 hi).2
      obtain ⟨r, g1, a1, a2, a3⟩ := ih (i - 1) (by omega) (by omega) (by omega)
      refine ⟨r, ?_, by omega, a2, fun j b1 b2 => ?_⟩
      · simp (disch := omega) only [p_0, p_1, p_2, p_3, p_4, p_5, p_6, p_7, p_8, p_9, p_18, p_25, p_26, p_32, p_40, p_41, p_44, p_97, p_100, p_120, p_122, p_126, p_138, p_218, p_654, p_872, p_ofNat, p_ofInt, p_add, p_mul, p_le, p_lt, p_eq, p_neg, p_nn, p_m1, p_m1r, p_dec, p_ix, p_sub, if_true, if_false, reduceIte, Nat.not_lt_zero, or_false, false_or, or_true, true_or, and_true, true_and, p_bs]
        rw [if_neg e1]
        exact g1
      · by_cases hj : j = i
        · rw [hj]; omega
        · exact a3 j b1 (by omega)
theorem T_onSpine_ok {t : TR} {n : Nat} {L D : Nat → Nat} (h : TRep t n L D) (hS : Sh n D) {d i : Nat} (hi : i < n) (hd : d ≤ D i) : T_onSpine t (nI i) (nI d) = some (nI (loN D d i)) := by
  have h7 := hS.2.2.2.2 i hi
  have hn := hS.2.1
  obtain ⟨r, g1, g2⟩ := T_onSpine_loop h hS (d := d) (by omega) 1000 i hi hd (by omega)
  rw [T_onSpine, ← g2.uniq (loN_is hS.2.2.1 i), T_depthOf_in h hS.2.1 hi, p_bs]
  simp (disch := omega) only [p_0, p_1, p_2, p_3, p_4, p_5, p_6, p_7, p_8, p_9, p_18, p_25, p_26, p_32, p_40, p_41, p_44, p_97, p_100, p_120, p_122, p_126, p_138, p_218, p_654, p_872, p_ofNat, p_ofInt, p_add, p_mul, p_le, p_lt, p_eq, p_neg, p_nn, p_m1, p_m1r, p_dec, p_ix, p_sub, if_true, if_false, reduceIte, Nat.not_lt_zero, or_false, false_or, or_true, true_or, and_true, true_and, p_bs]
  rw [if_pos hd]
  exact g1
theorem T_onSpine_deep {t : TR} {n : Nat} {L D : Nat → Nat} (h : TRep t n L D) (hS : Sh n D) {d i : Nat} (hi : i < n) (hd : D i < d) (h2 : d < 2147483648) : T_onSpine t (nI i) (nI d) = some (-nI 1) := by
  have h7 := hS.2.2.2.2 i hi
  rw [T_onSpine, T_depthOf_in h hS.2.1 hi, p_bs]
  simp (disch := omega) only [p_0, p_1, p_2, p_3, p_4, p_5, p_6, p_7, p_8, p_9, p_18, p_25, p_26, p_32, p_40, p_41, p_44, p_97, p_100, p_120, p_122, p_126, p_138, p_218, p_654, p_872, p_ofNat, p_ofInt, p_add, p_mul, p_le, p_lt, p_eq, p_neg, p_nn, p_m1, p_m1r, p_dec, p_ix, p_sub, if_true, if_false, reduceIte, Nat.not_lt_zero, or_false, false_or, or_true, true_or, and_true, true_and, p_bs]
  rw [if_neg (by omega)]
theorem T_above_ok {t : TR} {n : Nat} {L D : Nat → Nat} (h : TRep t n L D) (hS : Sh n D) {i : Nat} (h0 : 0 < i) (hi : i < n) : T_above t (nI i) = some (nI (abN D i)) := by
  have h1 := (hS.2.2.2.1 i h0 hi).1
  rw [T_above, T_depthOf_in h hS.2.1 hi, p_bs]
  simp (disch := omega) only [p_0, p_1, p_2, p_3, p_4, p_5, p_6, p_7, p_8, p_9, p_18, p_25, p_26, p_32, p_40, p_41, p_44, p_97, p_100, p_120, p_122, p_126, p_138, p_218, p_654, p_872, p_ofNat, p_ofInt, p_add, p_mul, p_le, p_lt, p_eq, p_neg, p_nn, p_m1, p_m1r, p_dec, p_ix, p_sub, if_true, if_false, reduceIte, Nat.not_lt_zero, or_false, false_or, or_true, true_or, and_true, true_and, p_bs]
  rw [T_onSpine_ok h hS hi (by omega), p_bs]
  rfl
theorem T_above_top {t : TR} {n : Nat} {L D : Nat → Nat} (h : TRep t n L D) (hS : Sh n D) : T_above t (nI 0) = some (-nI 1) := by
  rw [T_above, T_depthOf_in h hS.2.1 hS.1, p_bs, hS.2.2.1, T_onSpine]
  rfl
theorem M_above_loop {m : MD} {n : Nat} {L D K : Nat → Nat} (h : MRep m.1 n L D K) (hS : Sh n D) {i : Nat} (h0 : 0 < i) (hi : i < n) : ∀ fu a, a < i → a < fu → (∀ j, a < j → j ≤ i → D i ≤ D j) → ∃ r, M_above_L4 fu m (nI i) (nI a) = some (nI r) ∧ IsLo D (D i - 1) i r := by
  intro fu
  have h1 := (hS.2.2.2.1 i h0 hi).1
  have h7 := hS.2.2.2.2 i hi
  induction fu with
  | zero => intro a _ h; omega
  | succ fu ih =>
    intro a ha hf hlo
    have h7a := hS.2.2.2.2 a (by omega)
    rw [M_above_L4, M_deep_in h hS.2.1 (show a < n by omega), p_bs, M_deep_in h hS.2.1 hi, p_bs]
    have hn := hS.2.1
    by_cases e : D a < D i
    · refine ⟨a, ?_, by omega, by omega, fun j b1 b2 => by have := hlo j b1 b2; omega⟩
      simp (disch := omega) only [p_0, p_1, p_2, p_3, p_4, p_5, p_6, p_7, p_8, p_9, p_18, p_25, p_26, p_32, p_40, p_41, p_44, p_97, p_100, p_120, p_122, p_126, p_138, p_218, p_654, p_872, p_ofNat, p_ofInt, p_add, p_mul, p_le, p_lt, p_eq, p_neg, p_nn, p_m1, p_m1r, p_dec, p_ix, p_sub, if_true, if_false, reduceIte, Nat.not_lt_zero, or_false, false_or, or_true, true_or, and_true, true_and, p_bs]
      rw [if_pos e]
    · have ha0 : 0 < a := by
        rcases Nat.eq_zero_or_pos a with z | z
        · rw [z, hS.2.2.1] at e; omega
        · exact z
      obtain ⟨r, g1, g2⟩ := ih (a - 1) (by omega) (by omega) (fun j b1 b2 => by
        by_cases hj : j = a
        · rw [hj]; omega
        · exact hlo j (by omega) b2)
      refine ⟨r, ?_, g2⟩
      simp (disch := omega) only [p_0, p_1, p_2, p_3, p_4, p_5, p_6, p_7, p_8, p_9, p_18, p_25, p_26, p_32, p_40, p_41, p_44, p_97, p_100, p_120, p_122, p_126, p_138, p_218, p_654, p_872, p_ofNat, p_ofInt, p_add, p_mul, p_le, p_lt, p_eq, p_neg, p_nn, p_m1, p_m1r, p_dec, p_ix, p_sub, if_true, if_false, reduceIte, Nat.not_lt_zero, or_false, false_or, or_true, true_or, and_true, true_and, p_bs]
      rw [if_neg e]
      exact g1
theorem M_above_ok {m : MD} {n : Nat} {L D K : Nat → Nat} (h : MRep m.1 n L D K) (hS : Sh n D) {i : Nat} (h0 : 0 < i) (hi : i < n) : M_above m (nI i) = some (nI (abN D i)) := by
  have hn := hS.2.1
  obtain ⟨r, g1, g2⟩ := M_above_loop h hS h0 hi 1000 (i - 1) (by omega) (by omega) (fun j b1 b2 => by rw [show j = i by omega]; omega)
  rw [M_above]
  simp (disch := omega) only [p_0, p_1, p_2, p_3, p_4, p_5, p_6, p_7, p_8, p_9, p_18, p_25, p_26, p_32, p_40, p_41, p_44, p_97, p_100, p_120, p_122, p_126, p_138, p_218, p_654, p_872, p_ofNat, p_ofInt, p_add, p_mul, p_le, p_lt, p_eq, p_neg, p_nn, p_m1, p_m1r, p_dec, p_ix, p_sub, if_true, if_false, reduceIte, Nat.not_lt_zero, or_false, false_or, or_true, true_or, and_true, true_and, p_bs]
  rw [g1, g2.uniq (loN_is hS.2.2.1 i)]
  rfl
theorem M_above_top {m : MD} : M_above m (nI 0) = some (-nI 1) := by
  rw [M_above, M_above_L4]; rfl
