/-! changes of a tree, in both systems -/
def insN (a v : Nat) (f : Nat → Nat) : Nat → Nat := fun i => if i < a then f i else if i = a then v else f (i - 1)
def delN (a d : Nat) (f : Nat → Nat) : Nat → Nat := fun i => if i < a then f i else f (i + d)
def rotN (a m b : Nat) (f : Nat → Nat) : Nat → Nat := fun i => if i < a then f i else if i < a + (b - m) then f (i + (m - a)) else if i < b then f (i - (b - m)) else f i
def upN (a b : Nat) (f : Nat → Nat) : Nat → Nat := fun i => if a ≤ i ∧ i < b then f i + 1 else f i
def dnN (a b : Nat) (f : Nat → Nat) : Nat → Nat := fun i => if a ≤ i ∧ i < b then f i - 1 else f i
def nR (f : Nat → Nat) : Nat → Int32 := fun i => nI (f i)
theorem ins_nR (a v : Nat) (f : Nat → Nat) (i : Nat) : insI a (nI v) (nR f) i = nR (insN a v f) i := by
  simp only [insI, insN, nR]
  by_cases h1 : i < a
  · rw [if_pos h1, if_pos h1]
  · rw [if_neg h1, if_neg h1]
    by_cases h2 : i = a
    · rw [if_pos h2, if_pos h2]
    · rw [if_neg h2, if_neg h2]
theorem del_nR (a d : Nat) (f : Nat → Nat) (i : Nat) : delI a d (nR f) i = nR (delN a d f) i := by
  simp only [delI, delN, nR]
  by_cases h1 : i < a
  · rw [if_pos h1, if_pos h1]
  · rw [if_neg h1, if_neg h1]
theorem rot_nR (a m b : Nat) (f : Nat → Nat) (i : Nat) : rotI a m b (nR f) i = nR (rotN a m b f) i := by
  simp only [rotI, rotN, nR]
  by_cases h1 : i < a
  · rw [if_pos h1, if_pos h1]
  · rw [if_neg h1, if_neg h1]
    by_cases h2 : i < a + (b - m)
    · rw [if_pos h2, if_pos h2]
    · rw [if_neg h2, if_neg h2]
      by_cases h3 : i < b
      · rw [if_pos h3, if_pos h3]
      · rw [if_neg h3, if_neg h3]
theorem T_putIn_ok {t : TR} {n : Nat} {L D : Nat → Nat} (h : TRep t n L D) (hn : n < 40) {a : Nat} (ha : a ≤ n) (l d : Nat) : ∃ t', T_putIn t (nI a) (nI l) (nI d) = some t' ∧ TRep t' (n + 1) (insN a l L) (insN a d D) := by
  obtain ⟨r1, e1, h1⟩ := R_putIn_ok h.1 (nI l) hn (by omega) ha
  obtain ⟨r2, e2, h2⟩ := R_putIn_ok h.2 (nI d) hn (by omega) ha
  refine ⟨(r1, r2), by rw [T_putIn, e1, p_bs, e2, p_bs], h1.congr fun i _ => ins_nR a l L i, h2.congr fun i _ => ins_nR a d D i⟩
theorem T_takeOut_ok {t : TR} {n : Nat} {L D : Nat → Nat} (h : TRep t n L D) (hn : n ≤ 40) {a b : Nat} (hab : a ≤ b) (hb : b ≤ n) : ∃ t', T_takeOut t (nI a) (nI b) = some t' ∧ TRep t' (n - (b - a)) (delN a (b - a) L) (delN a (b - a) D) := by
  obtain ⟨r1, e1, h1⟩ := R_takeOut_ok h.1 hn (by omega) hab hb
  obtain ⟨r2, e2, h2⟩ := R_takeOut_ok h.2 hn (by omega) hab hb
  refine ⟨(r1, r2), by rw [T_takeOut, e1, p_bs, e2, p_bs], h1.congr fun i _ => del_nR a _ L i, h2.congr fun i _ => del_nR a _ D i⟩
theorem T_exchangeRuns_ok {t : TR} {n : Nat} {L D : Nat → Nat} (h : TRep t n L D) (hn : n ≤ 40) {a m b : Nat} (ham : a < m) (hmb : m < b) (hb : b ≤ n) : ∃ t', T_exchangeRuns t (nI a) (nI m) (nI b) = some t' ∧ TRep t' n (rotN a m b L) (rotN a m b D) := by
  obtain ⟨r1, e1, h1⟩ := R_exchangeRuns_ok h.1 hn (by omega) ham hmb hb
  obtain ⟨r2, e2, h2⟩ := R_exchangeRuns_ok h.2 hn (by omega) ham hmb hb
  refine ⟨(r1, r2), by rw [T_exchangeRuns, e1, p_bs, e2, p_bs], h1.congr fun i _ => rot_nR a m b L i, h2.congr fun i _ => rot_nR a m b D i⟩
theorem T_shiftUp_loop {t : TR} {n : Nat} {L : Nat → Nat} {b : Nat} (hn : n ≤ 40) (hb : b ≤ n) : ∀ fu j (t : TR) (D : Nat → Nat), TRep t n L D → j ≤ b → b - j < fu → ∃ t', T_shiftDepths_L3 fu t (nI b) (nI 1) (nI j) = some t' ∧ TRep t' n L (upN j b D) := by
  intro fu
  induction fu with
  | zero => intro j t D _ _ h; omega
  | succ fu ih =>
    intro j t D h hj hf
    rw [T_shiftDepths_L3]
    by_cases e1 : j = b
    · subst e1
      exact ⟨t, if_pos (Int32.le_refl _), h.1, h.2.congr fun i _ => by simp only [upN]; rw [if_neg (by omega)]⟩
    · rw [if_neg (by rw [p_le (by omega) (by omega)]; omega), R_at_in h.2 hn (by omega) (show j < n by omega), p_bs, p_add, R_put_in h.2 hn (by omega) (show j < n by omega), p_bs]
      have h2 := R_put_rep h.2 (show j < n by omega) (nI (D j + 1))
      obtain ⟨t', q1, q2⟩ := ih (j + 1) (t.1, (t.2.1, upd t.2.2 j (nI (D j + 1)))) (fun i => if i = j then D j + 1 else D i) ⟨h.1, h2.congr fun i _ => by simp only [upd]; split <;> rfl⟩ (by omega) (by omega)
      refine ⟨t', ?_, q2.1, q2.2.congr fun i _ => ?_⟩
      · simp (disch := omega) only [p_0, p_1, p_2, p_3, p_4, p_5, p_6, p_7, p_8, p_9, p_18, p_25, p_26, p_32, p_40, p_41, p_44, p_97, p_100, p_120, p_122, p_126, p_138, p_218, p_654, p_872, p_ofNat, p_ofInt, p_add, p_mul, p_le, p_lt, p_eq, p_neg, p_nn, p_m1, p_m1r, p_dec, p_ix, p_sub, if_true, if_false, reduceIte, Nat.not_lt_zero, or_false, false_or, or_true, true_or, and_true, true_and, p_bs]
        exact q1
      · simp only [upN]
        by_cases c1 : i = j
        · subst c1; rw [if_neg (by omega), if_pos rfl, if_pos (by omega)]
        · rw [if_neg c1]
          by_cases c2 : j + 1 ≤ i ∧ i < b
          · rw [if_pos c2, if_pos (by omega)]
          · rw [if_neg c2, if_neg (by omega)]
theorem T_shiftUp_ok {t : TR} {n : Nat} {L D : Nat → Nat} (h : TRep t n L D) (hn : n ≤ 40) {a b : Nat} (hab : a ≤ b) (hb : b ≤ n) : ∃ t', T_shiftDepths t (nI a) (nI b) (nI 1) = some t' ∧ TRep t' n L (upN a b D) := by
  rw [T_shiftDepths]
  exact T_shiftUp_loop (t := t) hn hb 1000 a t D h hab (by omega)
theorem T_shiftDn_loop {n : Nat} {L : Nat → Nat} {b : Nat} (hn : n ≤ 40) (hb : b ≤ n) : ∀ fu j (t : TR) (D : Nat → Nat), TRep t n L D → (∀ i, j ≤ i → i < b → 1 ≤ D i) → j ≤ b → b - j < fu → ∃ t', T_shiftDepths_L3 fu t (nI b) (-nI 1) (nI j) = some t' ∧ TRep t' n L (dnN j b D) := by
  intro fu
  induction fu with
  | zero => intro j t D _ _ _ h; omega
  | succ fu ih =>
    intro j t D h hd hj hf
    rw [T_shiftDepths_L3]
    by_cases e1 : j = b
    · subst e1
      exact ⟨t, if_pos (Int32.le_refl _), h.1, h.2.congr fun i _ => by simp only [dnN]; rw [if_neg (by omega)]⟩
    · rw [if_neg (by rw [p_le (by omega) (by omega)]; omega), R_at_in h.2 hn (by omega) (show j < n by omega), p_bs, p_dec (hd j (Nat.le_refl j) (by omega)), R_put_in h.2 hn (by omega) (show j < n by omega), p_bs]
      have h2 := R_put_rep h.2 (show j < n by omega) (nI (D j - 1))
      obtain ⟨t', q1, q2⟩ := ih (j + 1) (t.1, (t.2.1, upd t.2.2 j (nI (D j - 1)))) (fun i => if i = j then D j - 1 else D i) ⟨h.1, h2.congr fun i _ => by simp only [upd]; split <;> rfl⟩ (fun i a1 a2 => by rw [if_neg (by omega)]; exact hd i (by omega) a2) (by omega) (by omega)
      refine ⟨t', ?_, q2.1, q2.2.congr fun i _ => ?_⟩
      · simp (disch := omega) only [p_0, p_1, p_2, p_3, p_4, p_5, p_6, p_7, p_8, p_9, p_18, p_25, p_26, p_32, p_40, p_41, p_44, p_97, p_100, p_120, p_122, p_126, p_138, p_218, p_654, p_872, p_ofNat, p_ofInt, p_add, p_mul, p_le, p_lt, p_eq, p_neg, p_nn, p_m1, p_m1r, p_dec, p_ix, p_sub, if_true, if_false, reduceIte, Nat.not_lt_zero, or_false, false_or, or_true, true_or, and_true, true_and, p_bs]
        exact q1
      · simp only [dnN]
        by_cases c1 : i = j
        · subst c1; rw [if_neg (by omega), if_pos rfl, if_pos (by omega)]
        · rw [if_neg c1]
          by_cases c2 : j + 1 ≤ i ∧ i < b
          · rw [if_pos c2, if_pos (by omega)]
          · rw [if_neg c2, if_neg (by omega)]
theorem T_shiftDn_ok {t : TR} {n : Nat} {L D : Nat → Nat} (h : TRep t n L D) (hn : n ≤ 40) {a b : Nat} (hab : a ≤ b) (hb : b ≤ n) (hd : ∀ i, a ≤ i → i < b → 1 ≤ D i) : ∃ t', T_shiftDepths t (nI a) (nI b) (-nI 1) = some t' ∧ TRep t' n L (dnN a b D) := by
  rw [T_shiftDepths]
  exact T_shiftDn_loop hn hb 1000 a t D h hd hab (by omega)
/-- a part taken as a tree of its own -/
def subN (i d : Nat) (f : Nat → Nat) : Nat → Nat := fun k => f (i + k) - d
theorem T_takePart_loop {t' : TR} {n : Nat} {L D : Nat → Nat} (h : TRep t' n L D) (hn : n ≤ 40) {i e : Nat} (hi : i < n) (he : e ≤ n) (hge : ∀ j, i ≤ j → j < e → D i ≤ D j) : ∀ fu j (t : TR), i ≤ j → j ≤ e → e - j < fu → TRep t (j - i) (subN i 0 L) (subN i (D i) D) → ∃ t1, T_takePart_L13 fu t t' (nI i) (nI e) (nI j) = some t1 ∧ TRep t1 (e - i) (subN i 0 L) (subN i (D i) D) := by
  intro fu
  induction fu with
  | zero => intro j t _ _ h; omega
  | succ fu ih =>
    intro j t hij hj hf ht
    rw [T_takePart_L13]
    by_cases e1 : j = e
    · subst e1
      exact ⟨t, if_pos (Int32.le_refl _), ht⟩
    · have g1 := hge j hij (by omega)
      rw [if_neg (by rw [p_le (by omega) (by omega)]; omega), T_size_ok ht, T_letterOf_in h hn (show j < n by omega), T_depthOf_in h hn (show j < n by omega), T_depthOf_in h hn hi]
      simp only [p_bs]
      rw [p_sub g1]
      obtain ⟨t2, q1, q2⟩ := T_putIn_ok ht (by omega) (Nat.le_refl _) (L j) (D j - D i)
      have q3 : TRep t2 (j + 1 - i) (subN i 0 L) (subN i (D i) D) := by
        rw [show j + 1 - i = j - i + 1 by omega]
        refine ⟨q2.1.congr fun k hk => ?_, q2.2.congr fun k hk => ?_⟩
        · simp only [insN, subN]
          by_cases c : k < j - i
          · rw [if_pos c]
          · rw [if_neg c, if_pos (by omega), show i + k = j by omega, Nat.sub_zero]
        · simp only [insN, subN]
          by_cases c : k < j - i
          · rw [if_pos c]
          · rw [if_neg c, if_pos (by omega), show i + k = j by omega]
      obtain ⟨t3, q4, q5⟩ := ih (j + 1) t2 (by omega) (by omega) (by omega) q3
      refine ⟨t3, ?_, q5⟩
      rw [q1]
      simp (disch := omega) only [p_0, p_1, p_2, p_3, p_4, p_5, p_6, p_7, p_8, p_9, p_18, p_25, p_26, p_32, p_40, p_41, p_44, p_97, p_100, p_120, p_122, p_126, p_138, p_218, p_654, p_872, p_ofNat, p_ofInt, p_add, p_mul, p_le, p_lt, p_eq, p_neg, p_nn, p_m1, p_m1r, p_dec, p_ix, p_sub, if_true, if_false, reduceIte, Nat.not_lt_zero, or_false, false_or, or_true, true_or, and_true, true_and, p_bs]
      exact q4
theorem T_clear_ok (t : TR) (L D : Nat → Nat) : ∃ t', T_clear t = some t' ∧ TRep t' 0 L D :=
  ⟨((0, t.1.2), (0, t.2.2)), rfl, ⟨rfl, fun i hi => absurd hi (Nat.not_lt_zero i)⟩, ⟨rfl, fun i hi => absurd hi (Nat.not_lt_zero i)⟩⟩
theorem T_takePart_ok {t t' : TR} {n : Nat} {L D : Nat → Nat} (h : TRep t' n L D) (hn : n ≤ 40) (hD : ∀ i, i < n → D i ≤ 7) {i : Nat} (hi : i < n) : ∃ t1, T_takePart t t' (nI i) = some t1 ∧ TRep t1 (endN n D i - i) (subN i 0 L) (subN i (D i) D) := by
  have h2 := endN_le (D := D) hi
  have h1 := endN_gt (D := D) hi
  have hI := (endN_is (D := D) hi).2.2.1
  obtain ⟨t0, q1, q2⟩ := T_clear_ok t (subN i 0 L) (subN i (D i) D)
  rw [T_takePart, q1, T_endOf_ok h hn hD hi]
  simp only [p_bs]
  exact T_takePart_loop h hn hi h2 (fun j a b => by
    by_cases z : j = i
    · rw [z]; exact Nat.le_refl _
    · have := hI j (by omega) b; omega) 1000 i t0 (Nat.le_refl i) (by omega) (by omega) (by rw [Nat.sub_self]; exact q2)
