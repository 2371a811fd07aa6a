/-! PURE PART: numbers -/
theorem p_0 : (0 : Int32) = nI 0 := by decide
theorem p_1 : (1 : Int32) = nI 1 := by decide
theorem p_2 : (2 : Int32) = nI 2 := by decide
theorem p_3 : (3 : Int32) = nI 3 := by decide
theorem p_4 : (4 : Int32) = nI 4 := by decide
theorem p_5 : (5 : Int32) = nI 5 := by decide
theorem p_6 : (6 : Int32) = nI 6 := by decide
theorem p_7 : (7 : Int32) = nI 7 := by decide
theorem p_8 : (8 : Int32) = nI 8 := by decide
theorem p_9 : (9 : Int32) = nI 9 := by decide
theorem p_18 : (18 : Int32) = nI 18 := by decide
theorem p_25 : (25 : Int32) = nI 25 := by decide
theorem p_26 : (26 : Int32) = nI 26 := by decide
theorem p_32 : (32 : Int32) = nI 32 := by decide
theorem p_40 : (40 : Int32) = nI 40 := by decide
theorem p_41 : (41 : Int32) = nI 41 := by decide
theorem p_44 : (44 : Int32) = nI 44 := by decide
theorem p_97 : (97 : Int32) = nI 97 := by decide
theorem p_100 : (100 : Int32) = nI 100 := by decide
theorem p_120 : (120 : Int32) = nI 120 := by decide
theorem p_122 : (122 : Int32) = nI 122 := by decide
theorem p_126 : (126 : Int32) = nI 126 := by decide
theorem p_138 : (138 : Int32) = nI 138 := by decide
theorem p_218 : (218 : Int32) = nI 218 := by decide
theorem p_654 : (654 : Int32) = nI 654 := by decide
theorem p_872 : (872 : Int32) = nI 872 := by decide
theorem p_ofNat (n : Nat) : Int32.ofNat n = nI n := @congrArg Int32 Int32 (nI n) (nI n) (fun z => z) rfl
theorem p_ofInt (n : Nat) : Int32.ofInt (n : Int) = nI n := @congrArg Int32 Int32 (nI n) (nI n) (fun z => z) rfl
theorem p_le {a b : Nat} (ha : a < 2147483648) (hb : b < 2147483648) : (nI a ≤ nI b) = (a ≤ b) := by
  rw [Int32.le_iff_toInt_le, nI_toInt ha, nI_toInt hb]; exact propext (by omega)
theorem p_lt {a b : Nat} (ha : a < 2147483648) (hb : b < 2147483648) : (nI a < nI b) = (a < b) := by
  rw [Int32.lt_iff_toInt_lt, nI_toInt ha, nI_toInt hb]; exact propext (by omega)
theorem p_eq {a b : Nat} (ha : a < 2147483648) (hb : b < 2147483648) : (nI a = nI b) = (a = b) := by
  refine propext ⟨fun h => ?_, fun h => by rw [h]⟩
  have e := congrArg Int32.toInt h
  rw [nI_toInt ha, nI_toInt hb] at e
  omega
theorem p_neg {a : Nat} (ha : a < 2147483648) : (nI a < nI 0) = False := by rw [p_lt ha (by omega)]; exact eq_false (by omega)
theorem p_nn {a : Nat} (ha : a < 2147483648) : (nI 0 ≤ nI a) = True := by rw [p_le (by omega) ha]; exact eq_true (by omega)
theorem p_m1i {a : Nat} (k : Int32) (hk : k.toInt < 0) (ha : a < 2147483648) : (nI a = k) = False := by
  refine eq_false fun h => ?_
  have e := congrArg Int32.toInt h
  rw [nI_toInt ha] at e
  omega
theorem p_m1 {a : Nat} (ha : a < 2147483648) : (nI a = -nI 1) = False := p_m1i _ (by decide) ha
theorem p_m1r {a : Nat} (ha : a < 2147483648) : (-nI 1 = nI a) = False := by
  refine eq_false fun h => ?_
  have e := p_m1 ha
  rw [← h] at e
  exact e.mp rfl
theorem p_add (a b : Nat) : nI a + nI b = nI (a + b) := (Int32.ofNat_add a b).symm
theorem p_mul (a b : Nat) : nI a * nI b = nI (a * b) := (Int32.ofNat_mul a b).symm
theorem p_sub {a b : Nat} (h : b ≤ a) : nI a - nI b = nI (a - b) := by
  have e : nI a = nI (a - b) + nI b := by rw [p_add]; congr 1; omega
  rw [e, Int32.add_sub_cancel]
theorem p_dec {a : Nat} (h : 1 ≤ a) : nI a + -nI 1 = nI (a - 1) := by rw [← Int32.sub_eq_add_neg, p_sub h]
theorem p_ix {a : Nat} (h : a < 2147483648) : ix (nI a) = a := nI_clamp h
/-- any number: below 0, or one of Nat -/
theorem p_cases (x : Int32) : x < nI 0 ∨ ∃ k : Nat, k < 2147483648 ∧ x = nI k := by
  by_cases h : x < nI 0
  · exact Or.inl h
  · refine Or.inr ⟨x.toInt.toNat, ?_, ?_⟩
    · have := Int32.toInt_lt x; omega
    · rw [Int32.lt_iff_toInt_lt] at h
      have h0 : (nI 0).toInt = 0 := by decide
      rw [h0] at h
      apply Int32.toInt_inj.mp
      rw [nI_toInt (by have := Int32.toInt_lt x; omega)]
      omega
theorem p_bs {α β : Type} (a : α) (f : α → Option β) : (some a).bind f = f a := @congrArg (Option β) (Option β) (f a) (f a) (fun z => z) rfl
theorem p_upd_same (f : Nat → Int32) (k : Nat) (x : Int32) : upd f k x k = x := if_pos rfl
theorem p_upd_ne {f : Nat → Int32} {k j : Nat} {x : Int32} (h : j ≠ k) : upd f k x j = f j := if_neg h
theorem p_or_false {c : Prop} [Decidable c] {α : Type} {a b : α} (h : ¬ c) : (if c then a else b) = b := if_neg h
