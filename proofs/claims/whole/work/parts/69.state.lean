/-! the component's state -/
def CRep (s : ST) (n : Nat) (L D K : Nat → Nat) (p wn : Nat) (W : Nat → Nat) (cn : Nat) (CL CD : Nat → Nat) (nx : Nat) (a : Nat → Int32) : Prop :=
  TRep s.1 n L D ∧ TRep s.2.1 cn CL CD ∧ RRep s.2.2.1 n (nR K) ∧ RRep s.2.2.2.1 wn (nR W) ∧ RRep s.2.2.2.2.1 4 a ∧ s.2.2.2.2.2.1 = nI p ∧ s.2.2.2.2.2.2 = nI nx
theorem S_numberOfKey_loop {s : ST} {n : Nat} {K : Nat → Nat} (h : RRep s.2.2.1 n (nR K)) (hn : n ≤ 40) (k : Int32) : ∀ fu i, i ≤ n → n - i < fu → (∀ j, j < i → nI (K j) ≠ k) → ∃ x', S_numberOfKey_L2 fu s k (nI i) = some x' ∧ noN n K k x' := by
  intro fu
  induction fu with
  | zero => intro i _ h; omega
  | succ fu ih =>
    intro i h1 h2 h3
    rw [S_numberOfKey_L2, R_size_ok 40 h, p_bs]
    by_cases e : i = n
    · subst e
      refine ⟨-nI 1, ?_, Or.inl ⟨rfl, h3⟩⟩
      rw [if_pos (Int32.le_refl _), p_1]
    · rw [if_neg (by rw [p_le (by omega) (by omega)]; omega), R_at_in h hn (by omega) (show i < n by omega), p_bs]
      show ∃ x', (if nI (K i) = k then some (nI i) else _) = _ ∧ _
      by_cases y : nI (K i) = k
      · exact ⟨nI i, if_pos y, Or.inr ⟨i, by omega, y, rfl⟩⟩
      · obtain ⟨x', g1, g2⟩ := ih (i + 1) (by omega) (by omega) (fun j hj => by
          by_cases z : j = i
          · subst z; exact y
          · exact h3 j (by omega))
        refine ⟨x', ?_, g2⟩
        rw [if_neg y, p_1, p_add]
        exact g1
theorem S_numberOfKey_ok {s : ST} {n : Nat} {K : Nat → Nat} (h : RRep s.2.2.1 n (nR K)) (hn : n ≤ 40) (k : Int32) : ∃ x', S_numberOfKey s k = some x' ∧ noN n K k x' := by
  rw [S_numberOfKey, p_0]
  exact S_numberOfKey_loop h hn k 1000 0 (Nat.zero_le n) (by omega) (fun j hj => by omega)
theorem noN_uniq {n : Nat} {K : Nat → Nat} {k x y : Int32} (inj : ∀ i j, i < n → j < n → K i = K j → i = j) (hK : ∀ i, i < n → K i < 2147483648) (h : noN n K k x) (h' : noN n K k y) : x = y := by
  rcases h with ⟨a1, a2⟩ | ⟨i, a1, a2, a3⟩
  · rcases h' with ⟨b1, b2⟩ | ⟨j, b1, b2, b3⟩
    · rw [a1, b1]
    · exact absurd b2 (a2 j b1)
  · rcases h' with ⟨b1, b2⟩ | ⟨j, b1, b2, b3⟩
    · exact absurd a2 (b2 i a1)
    · have e : nI (K i) = nI (K j) := a2.trans b2.symm
      rw [p_eq (hK i a1) (hK j b1)] at e
      rw [a3, b3, inj i j a1 b1 e]
theorem S_walkTo_same {s : ST} {p : Nat} (h : s.2.2.2.2.2.1 = nI p) : S_walkTo s (nI p) = some s := by
  rw [S_walkTo, if_pos h.symm]
theorem S_walkTo_last {n x p z : Nat} {K W : Nat → Nat} (s : ST) (hn : n ≤ 40) (hp : p < n) (hz : z ≤ 7) (hK : RRep s.2.2.1 n (nR K)) (hW : RRep s.2.2.2.1 z (nR W)) (h2 : s.2.2.2.2.2.1 = nI p) :
    ∃ r : RW, S_walkTo_J30 s (nI x) = some (s.1, s.2.1, s.2.2.1, r, s.2.2.2.2.1, nI x, s.2.2.2.2.2.2) ∧ RRep r (z + 1) (nR (insN z (K p) W)) := by
  obtain ⟨r, g1, g2⟩ := R_add_ok (cap := 8) hW (nI (K p)) (by omega) (by omega)
  refine ⟨r, ?_, g2.congr fun i _ => ins_nR _ _ _ i⟩
  rw [S_walkTo_J30, h2, R_at_in hK hn (by omega) hp, p_bs]
  show (R_add 8 s.2.2.2.1 (nI (K p))).bind _ = _
  rw [g1, p_bs]
theorem S_walkTo_ok {s : ST} {n p wn cn nx x : Nat} {L D K W CL CD : Nat → Nat} {a : Nat → Int32} (h : CRep s n L D K p wn W cn CL CD nx a) (hn : n ≤ 40) (hp : p < n) (hw : wn ≤ 8) (hx : x < n) (hxp : x ≠ p) :
    ∃ s', S_walkTo s (nI x) = some s' ∧ CRep s' n L D K x (wkN wn) (wkW wn (K p) W) cn CL CD nx a := by
  obtain ⟨h1, h2, h3, h4, h5, h6, h7⟩ := h
  rw [S_walkTo, h6, if_neg (by rw [p_eq (by omega) (by omega)]; exact hxp), R_size_ok 8 h4, p_bs]
  by_cases e : wn = 8
  · subst e
    obtain ⟨r, g1, g2⟩ := R_takeOut_ok (cap := 8) (a := 0) (b := 1) h4 (by omega) (by omega) (by omega) (by omega)
    have g2' : RRep r 7 (nR (delN 0 1 W)) := g2.congr fun i _ => del_nR _ _ _ i
    obtain ⟨r2, f1, f2⟩ := S_walkTo_last (x := x) (s.1, s.2.1, s.2.2.1, r, s.2.2.2.2.1, s.2.2.2.2.2.1, s.2.2.2.2.2.2) hn hp (Nat.le_refl 7) h3 g2' h6
    refine ⟨(s.1, s.2.1, s.2.2.1, r2, s.2.2.2.2.1, nI x, s.2.2.2.2.2.2), ?_, h1, h2, h3, f2.congr fun i hi => ?_, h5, rfl, h7⟩
    · rw [p_8, if_neg (by rw [p_lt (by omega) (by omega)]; omega), p_0, p_1, g1, p_bs, ← h6]
      exact f1
    · show nI _ = nI _
      rw [insN, wkW, if_pos rfl]
      by_cases c : i < 7
      · rw [if_pos c, if_pos c, delN, if_neg (by omega)]
      · rw [if_neg c, if_neg c, if_pos (by omega)]
  · obtain ⟨r2, f1, f2⟩ := S_walkTo_last (x := x) s hn hp (show wn ≤ 7 by omega) h3 h4 h6
    refine ⟨(s.1, s.2.1, s.2.2.1, r2, s.2.2.2.2.1, nI x, s.2.2.2.2.2.2), ?_, h1, h2, h3, ?_, h5, rfl, h7⟩
    · rw [p_8, if_pos (by rw [p_lt (by omega) (by omega)]; omega)]
      exact f1
    · rw [wkN, if_neg e]
      refine f2.congr fun i hi => ?_
      show nI _ = nI _
      rw [insN, wkW, if_neg e]
      by_cases c : i < wn
      · rw [if_pos c, if_pos c]
      · rw [if_neg c, if_neg c, if_pos (by omega)]
