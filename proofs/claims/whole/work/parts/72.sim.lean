/-! the relation of the two systems -/
def FRep (f : Arr) (n : Nat) (L D K : Nat → Nat) (p wn : Nat) (W : Nat → Nat) (cn : Nat) (CL CD : Nat → Nat) (nx : Nat) (b : Nat → Int32) : Prop :=
  MRep f n L D K ∧ f 1 = nI nx ∧ f 2 = nI (K p) ∧ WRep f wn W ∧ f 4 = nI cn ∧ (∀ k, k < 4 → f (5 + k) = b k) ∧ ∀ i, i < cn → f (138 + 2 * i) = nI (CL i) ∧ f (138 + 2 * i + 1) = nI (CD i)
/-- marks of both: none or a key given, at the same nodes -/
def MkR (n : Nat) (K : Nat → Nat) (nx : Nat) (a b : Nat → Int32) : Prop := ∀ k, k < 4 → (a k = -nI 1 ∨ ∃ q, q < nx ∧ a k = nI q) ∧ (b k = -nI 1 ∨ ∃ q, q < nx ∧ b k = nI q) ∧ ∀ i, i < n → (a k = nI (K i) ↔ b k = nI (K i))
def ClR (cn : Nat) (CL CD : Nat → Nat) : Prop := cn = 0 ∨ (WF cn CD ∧ ∀ i, i < cn → CL i ≤ 25)
def KyR (n : Nat) (K : Nat → Nat) (nx : Nat) : Prop := (∀ i, i < n → K i < nx) ∧ ∀ i j, i < n → j < n → K i = K j → i = j
def Good (B n : Nat) (L D K : Nat → Nat) (p wn : Nat) (W : Nat → Nat) (cn : Nat) (CL CD : Nat → Nat) (nx : Nat) (a b : Nat → Int32) : Prop :=
  WF n D ∧ (∀ i, i < n → L i ≤ 25) ∧ KyR n K nx ∧ p < n ∧ wn ≤ 8 ∧ (∀ k, k < wn → W k < nx) ∧ MkR n K nx a b ∧ ClR cn CL CD ∧ nx ≤ B
theorem ClR.le {cn : Nat} {CL CD : Nat → Nat} (h : ClR cn CL CD) : cn ≤ 40 := by
  rcases h with h | h
  · omega
  · exact h.1.1.2.1
theorem Good.mono {B B' n p wn cn nx : Nat} {L D K W CL CD : Nat → Nat} {a b : Nat → Int32} (h : Good B n L D K p wn W cn CL CD nx a b) (hB : B ≤ B') : Good B' n L D K p wn W cn CL CD nx a b :=
  ⟨h.1, h.2.1, h.2.2.1, h.2.2.2.1, h.2.2.2.2.1, h.2.2.2.2.2.1, h.2.2.2.2.2.2.1, h.2.2.2.2.2.2.2.1, Nat.le_trans h.2.2.2.2.2.2.2.2 hB⟩
theorem FRep.congr {f f' : Arr} {B n p wn cn nx : Nat} {L D K W CL CD : Nat → Nat} {a b : Nat → Int32} (hG : Good B n L D K p wn W cn CL CD nx a b) (h : FRep f n L D K p wn W cn CL CD nx b) (e : ∀ j, j < 218 → f' j = f j) : FRep f' n L D K p wn W cn CL CD nx b := by
  obtain ⟨h1, h2, h3, h4, h5, h6, h7⟩ := h
  have hn : n ≤ 40 := hG.1.1.2.1
  have hw : wn ≤ 8 := hG.2.2.2.2.1
  have hc : cn ≤ 40 := hG.2.2.2.2.2.2.2.1.le
  refine ⟨h1.congr (e 0 (by omega)) (fun j _ hj => e j (by omega)), (e 1 (by omega)).trans h2, (e 2 (by omega)).trans h3, ⟨(e 3 (by omega)).trans h4.1, fun k hk => (e _ (by omega)).trans (h4.2 k hk)⟩, (e 4 (by omega)).trans h5, fun k hk => (e _ (by omega)).trans (h6 k hk), fun i hi => ⟨(e _ (by omega)).trans (h7 i hi).1, (e _ (by omega)).trans (h7 i hi).2⟩⟩
def NowR (B : Nat) (s : ST) (f : Arr) : Prop := ∃ (n : Nat) (L D K : Nat → Nat) (p wn : Nat) (W : Nat → Nat) (cn : Nat) (CL CD : Nat → Nat) (nx : Nat) (a b : Nat → Int32), CRep s n L D K p wn W cn CL CD nx a ∧ FRep f n L D K p wn W cn CL CD nx b ∧ Good B n L D K p wn W cn CL CD nx a b
theorem NowR.mono {B B' : Nat} {s : ST} {f f' : Arr} (h : NowR B s f) (hB : B ≤ B') (e : ∀ j, j < 218 → f' j = f j) : NowR B' s f' := by
  obtain ⟨n, L, D, K, p, wn, W, cn, CL, CD, nx, a, b, hC, hF, hG⟩ := h
  exact ⟨n, L, D, K, p, wn, W, cn, CL, CD, nx, a, b, hC, FRep.congr hG hF e, hG.mono hB⟩
def HisR (B : Nat) (h : HI) (past : Arr) (z : Nat) : Prop := ∃ o, o < 4 ∧ z ≤ 4 ∧ h.2.1 = nI o ∧ h.2.2 = nI z ∧ ∀ i, i < z → NowR B (slot h.1 ((o + i) % 4)) (fun j => past (218 * i + j))
def TxtR (r : RW) (mt : Arr) (l : Nat) : Prop := ∃ c : Nat → Nat, l ≤ 120 ∧ RRep r l (nR c) ∧ (∀ i, i < l → mt i = nI (c i)) ∧ ∀ i, i < l → 32 ≤ c i ∧ c i ≤ 126
def SimR (t : Nat) (x : TP) (m : MD) : Prop := t ≤ 512 ∧ NowR (1 + 40 * t) x.1 m.1 ∧ (∃ z, m.2.2.2.1 = nI z ∧ HisR (1 + 40 * t) x.2.1 m.2.2.1 z) ∧ ∃ l, m.2.2.2.2.2.2.1 = nI l ∧ TxtR x.2.2.1 m.2.2.2.2.2.1 l
theorem HisR.mono {B B' z : Nat} {h : HI} {c : Arr} (H : HisR B h c z) (hB : B ≤ B') : HisR B' h c z := by
  obtain ⟨o, h1, h2, h3, h4, h5⟩ := H
  exact ⟨o, h1, h2, h3, h4, fun i hi => (h5 i hi).mono hB (fun j _ => rfl)⟩
theorem sim_next {t : Nat} {x : TP} {m : MD} (ht : t < 512) (h : SimR t x m) : SimR (t + 1) x m := by
  obtain ⟨h1, h2, ⟨z, h3, h4⟩, h5⟩ := h
  exact ⟨by omega, h2.mono (by omega) (fun j _ => rfl), ⟨z, h3, h4.mono (by omega)⟩, h5⟩
theorem sim_err {t : Nat} {x : TP} {m : MD} (ht : t < 512) (h : SimR t x m) (b : Arr) : SimR (t + 1) x (m.1, b, m.2.2) := by
  obtain ⟨h1, h2, ⟨z, h3, h4⟩, h5⟩ := h
  exact ⟨by omega, h2.mono (by omega) (fun j _ => rfl), ⟨z, h3, h4.mono (by omega)⟩, h5⟩
/-- a call that is recorded -/
theorem sim_rec {t : Nat} {x : TP} {m : MD} (ht : t < 512) (h : SimR t x m) : ∃ h', H_keep x.2.1 x.1 = some h' ∧ ∀ (b f' : Arr) (w : Arr × MV) (s' : ST) (sc : SC) (r : Nat), (∀ j, j < 218 → b j = m.1 j) → w.2.1 = m.2.2.2.2.2.1 → w.2.2.1 = m.2.2.2.2.2.2.1 → NowR (1 + 40 * (t + 1)) s' f' → r < 2147483648 → ∃ m', M_acted (f', b, m.2.2.1, m.2.2.2.1, w) (nI r) = some (nI r, m') ∧ SimR (t + 1) (s', h', x.2.2.1, sc) m' := by
  obtain ⟨h1, h2, ⟨z, h3, o, ho, hz, h4, h5, h6⟩, l, h7, h8⟩ := h
  obtain ⟨n, L, D, K, p, wn, W, cn, CL, CD, nx, a, b0, hC, hF, hG⟩ := h2
  obtain ⟨q, o', g1, g2, g3, g4⟩ := H_keep_ok x.2.1 x.1 ho hz h4 h5 (fun s => CRep s n L D K p wn W cn CL CD nx a) (fun s0 => S_takeFrom_ok hC hG.1.1.2.1 hG.2.2.2.2.1 hG.2.2.2.2.2.2.2.1.le)
  refine ⟨_, g2, fun b f' w s' sc r hb hw1 hw2 hN hr => ?_⟩
  obtain ⟨c', e1, e2, e3⟩ := M_acted_ok f' b m.2.2.1 z hz r hr (0, w)
  refine ⟨_, by rw [h3]; exact e1, by omega, hN, ⟨if z = 4 then 4 else z + 1, rfl, o', g1, ?_, rfl, rfl, fun i hi => ?_⟩, l, hw2.trans h7, ?_⟩
  · by_cases y : z = 4
    · rw [if_pos y]; omega
    · rw [if_neg y]; omega
  · by_cases y : i = (if z = 4 then 3 else z)
    · subst y
      refine ⟨n, L, D, K, p, wn, W, cn, CL, CD, nx, a, b0, g3, ?_, hG.mono (by omega)⟩
      exact FRep.congr hG hF (fun j hj => (e2 j hj).trans (hb j hj))
    · have hi2 : i < (if z = 4 then 3 else z) := by
        by_cases yz : z = 4
        · rw [if_pos yz] at hi y ⊢; omega
        · rw [if_neg yz] at hi y ⊢; omega
      show NowR _ (slot q ((o' + i) % 4)) _
      rw [g4 i hi2]
      refine (h6 (if z = 4 then i + 1 else i) ?_).mono (by omega) (fun j hj => e3 i j hj hi2)
      by_cases yz : z = 4
      · rw [if_pos yz] at hi2 ⊢; omega
      · rw [if_neg yz] at hi2 ⊢; exact hi2
  · show TxtR x.2.2.1 w.2.1 l
    rw [hw1]; exact h8
/-- arguments -/
theorem P_isLetter_ok (v : Int32) : (P_isLetter v = some 0 ∧ M_in v 0 25 = some 0) ∨ ∃ l, l ≤ 25 ∧ v = nI l ∧ P_isLetter v = some 1 ∧ M_in v 0 25 = some 1 := by
  rcases p_cases v with h | ⟨k, hk, rfl⟩
  · refine Or.inl ⟨?_, ?_⟩
    · rw [P_isLetter, if_pos (show v < 0 from h)]
    · rw [M_in, if_pos (show v < 0 from h)]
  · by_cases e : k ≤ 25
    · refine Or.inr ⟨k, e, rfl, ?_, ?_⟩
      · rw [P_isLetter, p_0, p_26, if_neg (by rw [p_lt (by omega) (by omega)]; omega), if_neg (by rw [p_le (by omega) (by omega)]; omega)]
      · rw [M_in, p_0, p_25, if_neg (by rw [p_lt (by omega) (by omega)]; omega), if_neg (by rw [p_lt (by omega) (by omega)]; omega)]
    · refine Or.inl ⟨?_, ?_⟩
      · rw [P_isLetter, p_0, p_26, if_neg (by rw [p_lt (by omega) (by omega)]; omega), if_pos (by rw [p_le (by omega) (by omega)]; omega)]
      · rw [M_in, p_0, p_25, if_neg (by rw [p_lt (by omega) (by omega)]; omega), if_pos (by rw [p_lt (by omega) (by omega)]; omega)]
theorem P_isMark_ok (v : Int32) : (P_isMark v = some 0 ∧ M_in v 0 3 = some 0) ∨ ∃ l, l < 4 ∧ v = nI l ∧ P_isMark v = some 1 ∧ M_in v 0 3 = some 1 := by
  rcases p_cases v with h | ⟨k, hk, rfl⟩
  · refine Or.inl ⟨?_, ?_⟩
    · rw [P_isMark, if_pos (show v < 0 from h)]
    · rw [M_in, if_pos (show v < 0 from h)]
  · by_cases e : k < 4
    · refine Or.inr ⟨k, e, rfl, ?_, ?_⟩
      · rw [P_isMark, p_0, p_4, if_neg (by rw [p_lt (by omega) (by omega)]; omega), if_neg (by rw [p_le (by omega) (by omega)]; omega)]
      · rw [M_in, p_0, p_3, if_neg (by rw [p_lt (by omega) (by omega)]; omega), if_neg (by rw [p_lt (by omega) (by omega)]; omega)]
    · refine Or.inl ⟨?_, ?_⟩
      · rw [P_isMark, p_0, p_4, if_neg (by rw [p_lt (by omega) (by omega)]; omega), if_pos (by rw [p_le (by omega) (by omega)]; omega)]
      · rw [M_in, p_0, p_3, if_neg (by rw [p_lt (by omega) (by omega)]; omega), if_pos (by rw [p_lt (by omega) (by omega)]; omega)]
theorem P_isChoice_ok (v : Int32) : (P_isChoice v = some 0 ∧ M_in v 0 1 = some 0) ∨ ((v = 0 ∨ v = 1) ∧ P_isChoice v = some 1 ∧ M_in v 0 1 = some 1) := by
  by_cases h0 : v = 0
  · subst h0; exact Or.inr ⟨Or.inl rfl, by rw [P_isChoice, if_pos rfl], by rw [M_in, if_neg (by decide), if_neg (by decide)]⟩
  · by_cases h1 : v = 1
    · subst h1; exact Or.inr ⟨Or.inr rfl, by rw [P_isChoice, if_neg (by decide), if_pos rfl], by rw [M_in, if_neg (by decide), if_neg (by decide)]⟩
    · refine Or.inl ⟨by rw [P_isChoice, if_neg h0, if_neg h1], ?_⟩
      rcases p_cases v with h | ⟨k, hk, rfl⟩
      · rw [M_in, if_pos (show v < 0 from h)]
      · rw [p_0, p_eq (by omega) (by omega)] at h0
        rw [p_1, p_eq (by omega) (by omega)] at h1
        rw [M_in, p_0, p_1, if_neg (by rw [p_lt (by omega) (by omega)]; omega), if_pos (by rw [p_lt (by omega) (by omega)]; omega)]
theorem p_ne01 : ¬ (1 : Int32) = 0 := by decide
