/-! rows -/
/-- a row of z numbers c -/
def RRep (r : RW) (z : Nat) (c : Nat → Int32) : Prop := r.1 = nI z ∧ ∀ i, i < z → r.2 i = c i
theorem RRep.congr {r : RW} {z : Nat} {c c' : Nat → Int32} (h : RRep r z c) (e : ∀ i, i < z → c i = c' i) : RRep r z c' := ⟨h.1, fun i hi => (h.2 i hi).trans (e i hi)⟩
theorem R_size_ok {r : RW} {z : Nat} {c : Nat → Int32} (n : Nat) (h : RRep r z c) : R_size n r = some (nI z) := by rw [R_size, h.1]
theorem R_at_in {cap : Nat} {r : RW} {z : Nat} {c : Nat → Int32} (h : RRep r z c) (hz : z ≤ cap) (hc : cap ≤ 1000) {i : Nat} (hi : i < z) : R_at cap r (nI i) = some (c i) := by
  rw [R_at, h.1]
  simp (disch := omega) only [p_0, p_1, p_2, p_3, p_4, p_5, p_6, p_7, p_8, p_9, p_18, p_25, p_26, p_32, p_40, p_41, p_44, p_97, p_100, p_120, p_122, p_126, p_138, p_218, p_654, p_872, p_ofNat, p_ofInt, p_add, p_mul, p_le, p_lt, p_eq, p_neg, p_nn, p_m1, p_m1r, p_dec, p_ix, p_sub, if_true, if_false, reduceIte, Nat.not_lt_zero, or_false, false_or, or_true, true_or, and_true, true_and, p_bs]
  rw [if_neg (by omega), if_neg (by omega), if_neg (by omega), h.2 i hi]
theorem R_at_out {cap : Nat} {r : RW} {z : Nat} {c : Nat → Int32} (h : RRep r z c) (hz : z ≤ cap) (hc : cap ≤ 1000) {i : Nat} (hi : z ≤ i) (hi2 : i < 2147483648) : R_at cap r (nI i) = some (-nI 1) := by
  rw [R_at, h.1]
  simp (disch := omega) only [p_0, p_1, p_2, p_3, p_4, p_5, p_6, p_7, p_8, p_9, p_18, p_25, p_26, p_32, p_40, p_41, p_44, p_97, p_100, p_120, p_122, p_126, p_138, p_218, p_654, p_872, p_ofNat, p_ofInt, p_add, p_mul, p_le, p_lt, p_eq, p_neg, p_nn, p_m1, p_m1r, p_dec, p_ix, p_sub, if_true, if_false, reduceIte, Nat.not_lt_zero, or_false, false_or, or_true, true_or, and_true, true_and, p_bs]
  rw [if_pos (by omega)]
theorem R_at_neg {cap : Nat} {r : RW} {x : Int32} (hx : x < nI 0) : R_at cap r x = some (-nI 1) := by
  rw [R_at, if_pos (show x < 0 from hx)]; rfl
theorem R_put_in {cap : Nat} {r : RW} {z : Nat} {c : Nat → Int32} (h : RRep r z c) (hz : z ≤ cap) (hc : cap ≤ 1000) {i : Nat} (hi : i < z) (v : Int32) : R_put cap r (nI i) v = some (r.1, upd r.2 i v) := by
  rw [R_put, h.1]
  simp (disch := omega) only [p_0, p_1, p_2, p_3, p_4, p_5, p_6, p_7, p_8, p_9, p_18, p_25, p_26, p_32, p_40, p_41, p_44, p_97, p_100, p_120, p_122, p_126, p_138, p_218, p_654, p_872, p_ofNat, p_ofInt, p_add, p_mul, p_le, p_lt, p_eq, p_neg, p_nn, p_m1, p_m1r, p_dec, p_ix, p_sub, if_true, if_false, reduceIte, Nat.not_lt_zero, or_false, false_or, or_true, true_or, and_true, true_and, p_bs]
  rw [if_neg (by omega), if_neg (by omega), if_neg (by omega)]
theorem R_put_neg {cap : Nat} {r : RW} {x v : Int32} (hx : x < nI 0) : R_put cap r x v = some r := by
  rw [R_put, if_pos (show x < 0 from hx)]
theorem R_put_rep {r : RW} {z : Nat} {c : Nat → Int32} (h : RRep r z c) {i : Nat} (hi : i < z) (v : Int32) : RRep (r.1, upd r.2 i v) z (upd c i v) := by
  refine ⟨h.1, fun j hj => ?_⟩
  show upd r.2 i v j = upd c i v j
  by_cases e : j = i
  · subst e; rw [p_upd_same, p_upd_same]
  · rw [p_upd_ne e, p_upd_ne e]; exact h.2 j hj
theorem R_clear_ok (n : Nat) (r : RW) (c : Nat → Int32) : ∃ r', R_clear n r = some r' ∧ RRep r' 0 c := ⟨_, rfl, rfl, fun i hi => absurd hi (Nat.not_lt_zero i)⟩
def insI (a : Nat) (v : Int32) (c : Nat → Int32) : Nat → Int32 := fun i => if i < a then c i else if i = a then v else c (i - 1)
def delI (a d : Nat) (c : Nat → Int32) : Nat → Int32 := fun i => if i < a then c i else c (i + d)
theorem R_putIn_loop {cap z a : Nat} {v : Int32} (hz : z < cap) (hc : cap ≤ 900) : ∀ (fu j : Nat) (f : Nat → Int32), a ≤ j → j ≤ z → j - a < fu →
    ∃ f', R_putIn_L30 fu cap (nI z, f) (nI a) v (nI j) = some (nI (z + 1), f') ∧ ∀ i, f' i = if i < a then f i else if i = a then v else if i ≤ j then f (i - 1) else f i := by
  intro fu
  induction fu with
  | zero => intro j f _ _ h; omega
  | succ fu ih =>
    intro j f haj hj hf
    rw [R_putIn_L30]
    by_cases e : j = a
    · subst e
      refine ⟨upd f j v, ?_, fun i => ?_⟩
      · simp (disch := omega) only [p_0, p_1, p_2, p_3, p_4, p_5, p_6, p_7, p_8, p_9, p_18, p_25, p_26, p_32, p_40, p_41, p_44, p_97, p_100, p_120, p_122, p_126, p_138, p_218, p_654, p_872, p_ofNat, p_ofInt, p_add, p_mul, p_le, p_lt, p_eq, p_neg, p_nn, p_m1, p_m1r, p_dec, p_ix, p_sub, if_true, if_false, reduceIte, Nat.not_lt_zero, or_false, false_or, or_true, true_or, and_true, true_and, p_bs]
        rw [if_pos (by omega), if_neg (by omega)]
      · by_cases h1 : i = j
        · subst h1; rw [p_upd_same, if_neg (by omega), if_pos rfl]
        · rw [p_upd_ne h1]
          by_cases h2 : i < j
          · rw [if_pos h2]
          · rw [if_neg h2, if_neg h1, if_neg (by omega)]
    · obtain ⟨f', h1, h2⟩ := ih (j - 1) (upd f j (f (j - 1))) (by omega) (by omega) (by omega)
      refine ⟨f', ?_, fun i => ?_⟩
      · simp (disch := omega) only [p_0, p_1, p_2, p_3, p_4, p_5, p_6, p_7, p_8, p_9, p_18, p_25, p_26, p_32, p_40, p_41, p_44, p_97, p_100, p_120, p_122, p_126, p_138, p_218, p_654, p_872, p_ofNat, p_ofInt, p_add, p_mul, p_le, p_lt, p_eq, p_neg, p_nn, p_m1, p_m1r, p_dec, p_ix, p_sub, if_true, if_false, reduceIte, Nat.not_lt_zero, or_false, false_or, or_true, true_or, and_true, true_and, p_bs]
        rw [if_neg (by omega), if_neg (by omega), if_neg (by omega)]
        exact h1
      · rw [h2 i]
        by_cases i1 : i < a
        · rw [if_pos i1, if_pos i1, p_upd_ne (by omega)]
        · rw [if_neg i1, if_neg i1]
          by_cases i2 : i = a
          · rw [if_pos i2, if_pos i2]
          · rw [if_neg i2, if_neg i2]
            by_cases i3 : i ≤ j - 1
            · rw [if_pos i3, if_pos (by omega), p_upd_ne (by omega)]
            · rw [if_neg i3]
              by_cases i4 : i = j
              · subst i4; rw [p_upd_same, if_pos (Nat.le_refl _)]
              · rw [p_upd_ne i4, if_neg (by omega)]
theorem R_putIn_ok {cap z a : Nat} {r : RW} {c : Nat → Int32} (h : RRep r z c) (v : Int32) (hz : z < cap) (hc : cap ≤ 900) (ha : a ≤ z) : ∃ r', R_putIn cap r (nI a) v = some r' ∧ RRep r' (z + 1) (insI a v c) := by
  obtain ⟨r1, f⟩ := r
  obtain ⟨h1, h2⟩ := h
  dsimp only at h1 h2
  subst h1
  obtain ⟨f', e1, e2⟩ := R_putIn_loop (v := v) hz hc 1000 z f ha (Nat.le_refl z) (by omega)
  refine ⟨(nI (z + 1), f'), ?_, rfl, fun i hi => ?_⟩
  · rw [R_putIn]
    simp (disch := omega) only [p_0, p_1, p_2, p_3, p_4, p_5, p_6, p_7, p_8, p_9, p_18, p_25, p_26, p_32, p_40, p_41, p_44, p_97, p_100, p_120, p_122, p_126, p_138, p_218, p_654, p_872, p_ofNat, p_ofInt, p_add, p_mul, p_le, p_lt, p_eq, p_neg, p_nn, p_m1, p_m1r, p_dec, p_ix, p_sub, if_true, if_false, reduceIte, Nat.not_lt_zero, or_false, false_or, or_true, true_or, and_true, true_and, p_bs]
    rw [if_neg (by omega), if_pos hz]
    exact e1
  · show f' i = insI a v c i
    rw [e2 i, insI]
    by_cases i1 : i < a
    · rw [if_pos i1, if_pos i1, h2 i (by omega)]
    · rw [if_neg i1, if_neg i1]
      by_cases i2 : i = a
      · rw [if_pos i2, if_pos i2]
      · rw [if_neg i2, if_neg i2, if_pos (by omega), h2 (i - 1) (by omega)]
theorem R_add_ok {cap z : Nat} {r : RW} {c : Nat → Int32} (h : RRep r z c) (v : Int32) (hz : z < cap) (hc : cap ≤ 900) : ∃ r', R_add cap r v = some r' ∧ RRep r' (z + 1) (insI z v c) := by
  obtain ⟨r', h1, h2⟩ := R_putIn_ok h v hz hc (Nat.le_refl z)
  exact ⟨r', by rw [R_add, h.1, h1, p_bs], h2⟩
theorem R_takeOut_loop {cap z a b : Nat} (hz : z ≤ cap) (hc : cap ≤ 900) (hab : a ≤ b) (hb : b ≤ z) : ∀ (fu k : Nat) (f : Nat → Int32), b ≤ k → k ≤ z → z - k < fu →
    ∃ f', R_takeOut_L20 fu cap (nI z, f) (nI a) (nI b) (nI k) = some (nI (z - (b - a)), f') ∧ ∀ i, f' i = if k - (b - a) ≤ i ∧ i < z - (b - a) then f (i + (b - a)) else f i := by
  intro fu
  induction fu with
  | zero => intro k f _ _ h; omega
  | succ fu ih =>
    intro k f hbk hk hf
    rw [R_takeOut_L20]
    by_cases e : k = z
    · subst e
      refine ⟨f, ?_, fun i => ?_⟩
      · simp (disch := omega) only [p_0, p_1, p_2, p_3, p_4, p_5, p_6, p_7, p_8, p_9, p_18, p_25, p_26, p_32, p_40, p_41, p_44, p_97, p_100, p_120, p_122, p_126, p_138, p_218, p_654, p_872, p_ofNat, p_ofInt, p_add, p_mul, p_le, p_lt, p_eq, p_neg, p_nn, p_m1, p_m1r, p_dec, p_ix, p_sub, if_true, if_false, reduceIte, Nat.not_lt_zero, or_false, false_or, or_true, true_or, and_true, true_and, p_bs]
        rw [if_pos (by omega)]
      · rw [if_neg (by omega)]
    · obtain ⟨f', h1, h2⟩ := ih (k + 1) (upd f (k - (b - a)) (f k)) (by omega) (by omega) (by omega)
      refine ⟨f', ?_, fun i => ?_⟩
      · have hr : RRep (nI z, f) z f := ⟨rfl, fun _ _ => rfl⟩
        simp (disch := omega) only [p_0, p_1, p_2, p_3, p_4, p_5, p_6, p_7, p_8, p_9, p_18, p_25, p_26, p_32, p_40, p_41, p_44, p_97, p_100, p_120, p_122, p_126, p_138, p_218, p_654, p_872, p_ofNat, p_ofInt, p_add, p_mul, p_le, p_lt, p_eq, p_neg, p_nn, p_m1, p_m1r, p_dec, p_ix, p_sub, if_true, if_false, reduceIte, Nat.not_lt_zero, or_false, false_or, or_true, true_or, and_true, true_and, p_bs]
        rw [if_neg (by omega), R_at_in hr hz (by omega) (by omega), p_bs, show a + k - b = k - (b - a) by omega, R_put_in hr hz (by omega) (by omega), p_bs]
        exact h1
      · rw [h2 i]
        by_cases i1 : k + 1 - (b - a) ≤ i ∧ i < z - (b - a)
        · rw [if_pos i1, if_pos (by omega), p_upd_ne (by omega)]
        · rw [if_neg i1]
          by_cases i2 : i = k - (b - a)
          · subst i2; rw [p_upd_same, if_pos (by omega)]; congr 1; omega
          · rw [p_upd_ne i2, if_neg (by omega)]
theorem R_takeOut_ok {cap z a b : Nat} {r : RW} {c : Nat → Int32} (h : RRep r z c) (hz : z ≤ cap) (hc : cap ≤ 900) (hab : a ≤ b) (hb : b ≤ z) : ∃ r', R_takeOut cap r (nI a) (nI b) = some r' ∧ RRep r' (z - (b - a)) (delI a (b - a) c) := by
  obtain ⟨r1, f⟩ := r
  obtain ⟨h1, h2⟩ := h
  dsimp only at h1 h2
  subst h1
  obtain ⟨f', e1, e2⟩ := R_takeOut_loop hz hc hab hb 1000 b f (Nat.le_refl b) hb (by omega)
  refine ⟨(nI (z - (b - a)), f'), ?_, rfl, fun i hi => ?_⟩
  · rw [R_takeOut]
    simp (disch := omega) only [p_0, p_1, p_2, p_3, p_4, p_5, p_6, p_7, p_8, p_9, p_18, p_25, p_26, p_32, p_40, p_41, p_44, p_97, p_100, p_120, p_122, p_126, p_138, p_218, p_654, p_872, p_ofNat, p_ofInt, p_add, p_mul, p_le, p_lt, p_eq, p_neg, p_nn, p_m1, p_m1r, p_dec, p_ix, p_sub, if_true, if_false, reduceIte, Nat.not_lt_zero, or_false, false_or, or_true, true_or, and_true, true_and, p_bs]
    rw [if_neg (by omega), if_pos hb]
    exact e1
  · show f' i = delI a (b - a) c i
    rw [e2 i, delI]
    by_cases i1 : i < a
    · rw [if_pos i1, if_neg (by omega), h2 i (by omega)]
    · rw [if_neg i1, if_pos (by omega), h2 _ (by omega)]
def revI (a b : Nat) (c : Nat → Int32) : Nat → Int32 := fun i => if a ≤ i ∧ i < b then c (a + b - 1 - i) else c i
theorem R_turnAbout_loop {cap z : Nat} (hz : z ≤ cap) (hc : cap ≤ 900) {a b : Nat} (hab : a < b) (hb : b ≤ z) : ∀ (fu lo hi : Nat) (f : Nat → Int32), a ≤ lo → hi < b → lo + hi + 1 = a + b → hi - lo < fu →
    ∃ f', R_turnAbout_L7 fu cap (nI z, f) (nI lo) (nI hi) = some (nI z, f') ∧ ∀ i, f' i = if lo ≤ i ∧ i ≤ hi then f (a + b - 1 - i) else f i := by
  intro fu
  induction fu with
  | zero => intro lo hi f _ _ _ h; omega
  | succ fu ih =>
    intro lo hi f h1 h2 h3 hf
    rw [R_turnAbout_L7]
    by_cases e : hi ≤ lo
    · refine ⟨f, ?_, fun i => ?_⟩
      · simp (disch := omega) only [p_0, p_1, p_2, p_3, p_4, p_5, p_6, p_7, p_8, p_9, p_18, p_25, p_26, p_32, p_40, p_41, p_44, p_97, p_100, p_120, p_122, p_126, p_138, p_218, p_654, p_872, p_ofNat, p_ofInt, p_add, p_mul, p_le, p_lt, p_eq, p_neg, p_nn, p_m1, p_m1r, p_dec, p_ix, p_sub, if_true, if_false, reduceIte, Nat.not_lt_zero, or_false, false_or, or_true, true_or, and_true, true_and, p_bs]
        rw [if_pos e]
      · by_cases i1 : lo ≤ i ∧ i ≤ hi
        · rw [if_pos i1]; congr 1; omega
        · rw [if_neg i1]
    · obtain ⟨f', g1, g2⟩ := ih (lo + 1) (hi - 1) (upd (upd f lo (f hi)) hi (f lo)) (by omega) (by omega) (by omega) (by omega)
      refine ⟨f', ?_, fun i => ?_⟩
      · have hr : RRep (nI z, f) z f := ⟨rfl, fun _ _ => rfl⟩
        have hr2 : RRep (nI z, upd f lo (f hi)) z (upd f lo (f hi)) := ⟨rfl, fun _ _ => rfl⟩
        simp (disch := omega) only [p_0, p_1, p_2, p_3, p_4, p_5, p_6, p_7, p_8, p_9, p_18, p_25, p_26, p_32, p_40, p_41, p_44, p_97, p_100, p_120, p_122, p_126, p_138, p_218, p_654, p_872, p_ofNat, p_ofInt, p_add, p_mul, p_le, p_lt, p_eq, p_neg, p_nn, p_m1, p_m1r, p_dec, p_ix, p_sub, if_true, if_false, reduceIte, Nat.not_lt_zero, or_false, false_or, or_true, true_or, and_true, true_and, p_bs]
        rw [if_neg e, R_at_in hr hz (by omega) (by omega), p_bs, R_at_in hr hz (by omega) (by omega), p_bs, R_put_in hr hz (by omega) (by omega), p_bs]
        rw [R_put_in hr2 hz (by omega) (by omega), p_bs]
        exact g1
      · rw [g2 i]
        by_cases i1 : lo + 1 ≤ i ∧ i ≤ hi - 1
        · rw [if_pos i1, if_pos (by omega), p_upd_ne (by omega), p_upd_ne (by omega)]
        · rw [if_neg i1]
          by_cases i2 : i = hi
          · subst i2; rw [p_upd_same, if_pos (by omega)]; congr 1; omega
          · rw [p_upd_ne i2]
            by_cases i3 : i = lo
            · subst i3; rw [p_upd_same, if_pos (by omega)]; congr 1; omega
            · rw [p_upd_ne i3, if_neg (by omega)]
theorem R_turnAbout_ok {cap z a b : Nat} {r : RW} {c : Nat → Int32} (h : RRep r z c) (hz : z ≤ cap) (hc : cap ≤ 900) (hab : a < b) (hb : b ≤ z) : ∃ r', R_turnAbout cap r (nI a) (nI b) = some r' ∧ RRep r' z (revI a b c) := by
  obtain ⟨r1, f⟩ := r
  obtain ⟨h1, h2⟩ := h
  dsimp only at h1 h2
  subst h1
  obtain ⟨f', e1, e2⟩ := R_turnAbout_loop hz hc hab hb 1000 a (b - 1) f (Nat.le_refl a) (by omega) (by omega) (by omega)
  refine ⟨(nI z, f'), ?_, rfl, fun i hi => ?_⟩
  · rw [R_turnAbout]
    simp (disch := omega) only [p_0, p_1, p_2, p_3, p_4, p_5, p_6, p_7, p_8, p_9, p_18, p_25, p_26, p_32, p_40, p_41, p_44, p_97, p_100, p_120, p_122, p_126, p_138, p_218, p_654, p_872, p_ofNat, p_ofInt, p_add, p_mul, p_le, p_lt, p_eq, p_neg, p_nn, p_m1, p_m1r, p_dec, p_ix, p_sub, if_true, if_false, reduceIte, Nat.not_lt_zero, or_false, false_or, or_true, true_or, and_true, true_and, p_bs]
    exact e1
  · show f' i = revI a b c i
    rw [e2 i, revI]
    by_cases i1 : a ≤ i ∧ i < b
    · rw [if_pos (by omega), if_pos i1, h2 _ (by omega)]
    · rw [if_neg (by omega), if_neg i1, h2 i hi]
/-- two neighbouring runs change places -/
def rotI (a m b : Nat) (c : Nat → Int32) : Nat → Int32 := fun i => if i < a then c i else if i < a + (b - m) then c (i + (m - a)) else if i < b then c (i - (b - m)) else c i
theorem R_exchangeRuns_ok {cap z a m b : Nat} {r : RW} {c : Nat → Int32} (h : RRep r z c) (hz : z ≤ cap) (hc : cap ≤ 900) (ham : a < m) (hmb : m < b) (hb : b ≤ z) : ∃ r', R_exchangeRuns cap r (nI a) (nI m) (nI b) = some r' ∧ RRep r' z (rotI a m b c) := by
  obtain ⟨r1, g1, h1⟩ := R_turnAbout_ok (a := a) (b := b) h hz hc (by omega) hb
  obtain ⟨r2, g2, h2⟩ := R_turnAbout_ok (a := a) (b := a + b - m) h1 hz hc (by omega) (by omega)
  obtain ⟨r3, g3, h3⟩ := R_turnAbout_ok (a := a + b - m) (b := b) h2 hz hc (by omega) hb
  refine ⟨r3, ?_, h3.congr fun i hi => ?_⟩
  · rw [R_exchangeRuns, g1, p_bs]
    simp (disch := omega) only [p_0, p_1, p_2, p_3, p_4, p_5, p_6, p_7, p_8, p_9, p_18, p_25, p_26, p_32, p_40, p_41, p_44, p_97, p_100, p_120, p_122, p_126, p_138, p_218, p_654, p_872, p_ofNat, p_ofInt, p_add, p_mul, p_le, p_lt, p_eq, p_neg, p_nn, p_m1, p_m1r, p_dec, p_ix, p_sub, if_true, if_false, reduceIte, Nat.not_lt_zero, or_false, false_or, or_true, true_or, and_true, true_and, p_bs]
    rw [g2, p_bs, g3, p_bs]
  · simp only [revI, rotI]
    by_cases i1 : i < a
    · rw [if_pos i1, if_neg (by omega), if_neg (by omega), if_neg (by omega)]
    · rw [if_neg i1]
      by_cases i2 : i < a + (b - m)
      · rw [if_pos i2, if_neg (by omega), if_pos (by omega), if_pos (by omega)]; congr 1; omega
      · rw [if_neg i2]
        by_cases i3 : i < b
        · rw [if_pos i3, if_pos (by omega), if_neg (by omega), if_pos (by omega)]; congr 1; omega
        · rw [if_neg i3, if_neg (by omega), if_neg (by omega), if_neg (by omega)]
theorem R_takeFrom_loop {n n' z : Nat} (h1 : z ≤ n) (h2 : z ≤ n') (h3 : n ≤ 900) (g : Nat → Int32) (w : Int32) : ∀ (fu k : Nat) (f : Nat → Int32), k ≤ z → z - k < fu →
    ∃ f', R_takeFrom_L26 fu n (nI z, f) n' (w, g) (nI k) = some (nI z, f') ∧ ∀ i, f' i = if k ≤ i ∧ i < z then g i else f i := by
  intro fu
  induction fu with
  | zero => intro k f _ h; omega
  | succ fu ih =>
    intro k f hk hf
    rw [R_takeFrom_L26]
    by_cases e : k = z
    · subst e
      refine ⟨f, ?_, fun i => ?_⟩
      · simp (disch := omega) only [p_0, p_1, p_2, p_3, p_4, p_5, p_6, p_7, p_8, p_9, p_18, p_25, p_26, p_32, p_40, p_41, p_44, p_97, p_100, p_120, p_122, p_126, p_138, p_218, p_654, p_872, p_ofNat, p_ofInt, p_add, p_mul, p_le, p_lt, p_eq, p_neg, p_nn, p_m1, p_m1r, p_dec, p_ix, p_sub, if_true, if_false, reduceIte, Nat.not_lt_zero, or_false, false_or, or_true, true_or, and_true, true_and, p_bs]
        rw [if_pos (Nat.le_refl _)]
      · rw [if_neg (by omega)]
    · obtain ⟨f', g1, g2⟩ := ih (k + 1) (upd f k (g k)) (by omega) (by omega)
      refine ⟨f', ?_, fun i => ?_⟩
      · simp (disch := omega) only [p_0, p_1, p_2, p_3, p_4, p_5, p_6, p_7, p_8, p_9, p_18, p_25, p_26, p_32, p_40, p_41, p_44, p_97, p_100, p_120, p_122, p_126, p_138, p_218, p_654, p_872, p_ofNat, p_ofInt, p_add, p_mul, p_le, p_lt, p_eq, p_neg, p_nn, p_m1, p_m1r, p_dec, p_ix, p_sub, if_true, if_false, reduceIte, Nat.not_lt_zero, or_false, false_or, or_true, true_or, and_true, true_and, p_bs]
        rw [if_neg (by omega), if_neg (by omega), if_neg (by omega)]
        exact g1
      · rw [g2 i]
        by_cases i1 : k + 1 ≤ i ∧ i < z
        · rw [if_pos i1, if_pos (by omega)]
        · rw [if_neg i1]
          by_cases i2 : i = k
          · subst i2; rw [p_upd_same, if_pos (by omega)]
          · rw [p_upd_ne i2, if_neg (by omega)]
theorem R_takeFrom_ok {n z : Nat} {r r' : RW} {c : Nat → Int32} (h : RRep r' z c) (hz : z ≤ n) (hn : n ≤ 900) : ∃ r1, R_takeFrom n r n r' = some r1 ∧ RRep r1 z c := by
  obtain ⟨w, g⟩ := r'
  obtain ⟨h1, h2⟩ := h
  dsimp only at h1 h2
  subst h1
  obtain ⟨f', e1, e2⟩ := R_takeFrom_loop (n := n) (n' := n) hz hz hn g (nI z) 1000 0 r.2 (Nat.zero_le z) (by omega)
  refine ⟨(nI z, f'), ?_, rfl, fun i hi => ?_⟩
  · rw [R_takeFrom]
    have hm : imin (nI z) (imin (Int32.ofNat n) (Int32.ofNat n)) = nI z := by
      have e : imin (Int32.ofNat n) (Int32.ofNat n) = nI n := ite_self _
      rw [e]
      show (if nI n < nI z then nI n else nI z) = nI z
      exact if_neg (by rw [p_lt (by omega) (by omega)]; omega)
    rw [hm]
    exact e1
  · show f' i = c i
    rw [e2 i, if_pos (by omega), h2 i hi]
