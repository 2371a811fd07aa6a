/-! the count of bits (began with rows of the kit's BITS.to-paste) -/
def bt (x : Int32) (i : Nat) : Bool := x.toBitVec.getLsbD i
theorem b_ext {x y : Int32} (h : ∀ i, i < 32 → bt x i = bt y i) : x = y := Int32.toBitVec_inj.mp (BitVec.eq_of_getLsbD_eq (fun i hi => h i hi))
theorem b_and (x y : Int32) (i : Nat) : bt (x &&& y) i = (bt x i && bt y i) := by unfold bt; rw [Int32.toBitVec_and, BitVec.getLsbD_and]
theorem s_l : ∀ n, n < 32 → ((nI n &&& 31).toBitVec.smod 32).toNat = n := by decide +kernel
theorem b_sshr (n : Nat) (hn : n < 32) (x : Int32) {i : Nat} (hi : i < 32) : bt (x >>> (nI n &&& 31)) i = if n + i < 32 then bt x (n + i) else bt x 31 := by
  unfold bt
  rw [Int32.toBitVec_shiftRight]
  show (x.toBitVec.sshiftRight ((nI n &&& 31).toBitVec.smod 32).toNat).getLsbD i = _
  rw [s_l n hn, BitVec.getLsbD_sshiftRight, BitVec.msb_eq_getLsbD_last]
  simp [hi]
theorem b_one : ∀ i, i < 32 → bt 1 i = decide (i = 0) := by decide +kernel
theorem b_lo (x : Int32) : (x &&& 1) = 0 ↔ bt x 0 = false := by
  constructor
  · intro h
    have e := b_and x 1 0
    rw [h, b_one 0 (by omega)] at e
    have z : bt 0 0 = false := by decide +kernel
    rw [z] at e
    rw [show decide ((0 : Nat) = 0) = true from rfl, Bool.and_true] at e
    exact e.symm
  · intro h
    apply b_ext
    intro i hi
    rw [b_and, b_one i hi]
    have z : ∀ j, j < 32 → bt 0 j = false := by decide +kernel
    rw [z i hi]
    by_cases c : i = 0
    · subst c; rw [h]; rfl
    · rw [decide_eq_false c, Bool.and_false]
theorem b_nI {s i : Nat} (hi : i < 32) : bt (nI s) i = s.testBit i := by
  show (BitVec.ofNat 32 s).getLsbD i = _
  rw [BitVec.getLsbD_ofNat, decide_eq_true hi, Bool.true_and]
theorem nx_and (a b : Nat) : nI a &&& nI b = nI (a &&& b) := by
  apply Int32.toBitVec_inj.1
  show BitVec.ofNat 32 a &&& BitVec.ofNat 32 b = BitVec.ofNat 32 (a &&& b)
  apply BitVec.eq_of_getLsbD_eq
  intro i hi
  simp [hi]
theorem nx_or (a b : Nat) : nI a ||| nI b = nI (a ||| b) := by
  apply Int32.toBitVec_inj.1
  show BitVec.ofNat 32 a ||| BitVec.ofNat 32 b = BitVec.ofNat 32 (a ||| b)
  apply BitVec.eq_of_getLsbD_eq
  intro i hi
  simp [hi]
theorem nx_cnt : ∀ j : Fin 32, (UInt32.ofNat j.val &&& Int32.toUInt32 31).toNat % 32 = j.val := by decide +kernel
theorem nx_ush {k j : Nat} (hk : k < 4294967296) (hj : j < 32) : iushr (nI k) (nI j) = nI (k / 2 ^ j) := by
  have hs : k / 2 ^ j ≤ k := Nat.div_le_self _ _
  have e2 : UInt32.ofNat k >>> (UInt32.ofNat j &&& Int32.toUInt32 31) = UInt32.ofNat (k / 2 ^ j) := by
    apply UInt32.toNat_inj.1
    have h1 : (UInt32.ofNat k).toNat = k := Nat.mod_eq_of_lt hk
    have h2 : (UInt32.ofNat (k / 2 ^ j)).toNat = k / 2 ^ j := Nat.mod_eq_of_lt (by omega)
    rw [UInt32.toNat_shiftRight, nx_cnt ⟨j, hj⟩, h1, h2, Nat.shiftRight_eq_div_pow]
  show (UInt32.ofNat k >>> (UInt32.ofNat j &&& Int32.toUInt32 31)).toInt32 = _
  rw [e2]
  rfl
/-- the count of the bits of k places -/
def pcN : Nat → Nat → Nat
  | 0, _ => 0
  | k + 1, s => s % 2 + pcN k (s / 2)
theorem pc_or : ∀ k l s, l < k → pcN k (s ||| 2 ^ l) = pcN k s + (if s.testBit l = true then 0 else 1) := by
  intro k
  induction k with
  | zero => intro l s h; omega
  | succ k ih =>
    intro l s h
    rw [pcN, pcN, Nat.or_div_two]
    cases l with
    | zero =>
      have h1 : (s ||| 2 ^ 0) % 2 = 1 := Nat.or_mod_two_eq_one.mpr (Or.inr rfl)
      have h2 : 2 ^ 0 / 2 = 0 := rfl
      rw [h1, h2, Nat.or_zero, Nat.testBit_zero]
      by_cases c : s % 2 = 1
      · rw [c, if_pos (by decide)]; omega
      · rw [if_neg (by simp [c])]; omega
    | succ l =>
      have h2 : 2 ^ (l + 1) / 2 = 2 ^ l := by rw [Nat.pow_succ]; omega
      have h3 : 2 ^ (l + 1) % 2 = 0 := by rw [Nat.pow_succ]; omega
      have h1 : (s ||| 2 ^ (l + 1)) % 2 = s % 2 := by
        have q : (s ||| 2 ^ (l + 1)) % 2 = 1 ↔ s % 2 = 1 := by
          rw [Nat.or_mod_two_eq_one, h3]
          constructor
          · rintro (y | y)
            · exact y
            · exact absurd y (by omega)
          · exact Or.inl
        omega
      rw [h1, h2, ih l (s / 2) (by omega), Nat.testBit_succ]
      omega
theorem pc_up (k s : Nat) : pcN (k + 8) s = pcN 8 s + pcN k (s / 256) := by
  have e : s / 2 / 2 / 2 / 2 / 2 / 2 / 2 / 2 = s / 256 := by omega
  simp only [pcN, e]
  omega
theorem pc_lo (s : Nat) : pcN 8 s = pcN 8 (s % 256) := by
  simp only [pcN]
  omega
theorem and_split {u v p q : Nat} (hp : p < 256) (hq : q < 256) : (256 * u + p) &&& (256 * v + q) = 256 * (u &&& v) + (p &&& q) := by
  have h1 : ((256 * u + p) &&& (256 * v + q)) / 256 = (256 * u + p) / 256 &&& (256 * v + q) / 256 := Nat.and_div_two_pow (n := 8)
  have h2 : ((256 * u + p) &&& (256 * v + q)) % 256 = (256 * u + p) % 256 &&& (256 * v + q) % 256 := Nat.and_mod_two_pow (n := 8)
  rw [show (256 * u + p) / 256 = u by omega, show (256 * v + q) / 256 = v by omega] at h1
  rw [show (256 * u + p) % 256 = p by omega, show (256 * v + q) % 256 = q by omega] at h2
  omega
theorem and_four {a b c d m : Nat} (ha : a < 256) (hb : b < 256) (hc : c < 256) (hm : m < 256) : (a + 256 * b + 65536 * c + 16777216 * d) &&& (m + 256 * m + 65536 * m + 16777216 * m) = (a &&& m) + 256 * (b &&& m) + 65536 * (c &&& m) + 16777216 * (d &&& m) := by
  rw [show a + 256 * b + 65536 * c + 16777216 * d = 256 * (256 * (256 * d + c) + b) + a by omega, show m + 256 * m + 65536 * m + 16777216 * m = 256 * (256 * (256 * m + m) + m) + m by omega, and_split ha hm, and_split hb hm, and_split hc hm]
  omega
def byE (b : Nat) : Nat := b - (b / 2 &&& 85)
def byF (b : Nat) : Nat := (byE b &&& 51) + (byE b / 4 &&& 51)
theorem by_E : ∀ b, b < 256 → (b / 2 &&& 85) ≤ b := by decide +kernel
theorem by_E2 : ∀ t, t < 2 → ∀ q, q < 128 → (q + 128 * t &&& 85) = (q &&& 85) := by decide +kernel
theorem by_F2 : ∀ t, t < 4 → ∀ q, q < 64 → (q + 64 * t &&& 51) = (q &&& 51) := by decide +kernel
theorem by_F : ∀ b, b < 256 → byF b ≤ 68 ∧ byF b % 16 ≤ 4 ∧ byE b < 256 := by decide +kernel
theorem by_G : ∀ t, t < 5 → ∀ b, b < 256 → (byF b + byF b / 16 + 16 * t &&& 15) = pcN 8 b := by decide +kernel
theorem pc_le8 : ∀ b, b < 256 → pcN 8 b ≤ 8 := by decide +kernel
theorem pm_555 : (1431655765 : Int32) = nI 1431655765 := by decide +kernel
theorem pm_333 : (858993459 : Int32) = nI 858993459 := by decide +kernel
theorem pm_f0f : (252645135 : Int32) = nI 252645135 := by decide +kernel
theorem pm_63 : (63 : Int32) = nI 63 := by decide +kernel
theorem pm_16 : (16 : Int32) = nI 16 := by decide +kernel
theorem bc_fin {a b c d y : Nat} (ha : a ≤ 8) (hb : b ≤ 8) (hc : c ≤ 8) (hd : d ≤ 8) (hy : y = a + 256 * b + 65536 * c + 16777216 * d) : ((y + y / 256) + (y + y / 256) / 65536) % 64 = a + b + c + d := by
  have e1 : y / 256 = b + 256 * c + 65536 * d := by omega
  have e2 : y + y / 256 = (a + b) + 256 * (b + c) + 65536 * (c + d) + 16777216 * d := by omega
  have e3 : (y + y / 256) / 65536 = (c + d) + 256 * d := by
    rw [e2]; clear e1 e2 hy; omega
  rw [e3, e2]
  clear e1 e2 e3 hy
  omega
theorem J_bitCount_ok {s : Nat} (hs : s < 4294967296) : J_bitCount (nI s) = some (nI (pcN 32 s)) := by
  obtain ⟨b0, hb0⟩ : ∃ b, b = s % 256 := ⟨_, rfl⟩
  obtain ⟨b1, hb1⟩ : ∃ b, b = s / 256 % 256 := ⟨_, rfl⟩
  obtain ⟨b2, hb2⟩ : ∃ b, b = s / 65536 % 256 := ⟨_, rfl⟩
  obtain ⟨b3, hb3⟩ : ∃ b, b = s / 16777216 := ⟨_, rfl⟩
  have l0 : b0 < 256 := by omega
  have l1 : b1 < 256 := by omega
  have l2 : b2 < 256 := by omega
  have l3 : b3 < 256 := by omega
  have hS : s = b0 + 256 * b1 + 65536 * b2 + 16777216 * b3 := by omega
  have hpc : pcN 32 s = pcN 8 b0 + pcN 8 b1 + pcN 8 b2 + pcN 8 b3 := by
    have u1 : pcN 32 s = pcN 8 s + pcN 24 (s / 256) := pc_up 24 s
    have u2 : pcN 24 (s / 256) = pcN 8 (s / 256) + pcN 16 (s / 256 / 256) := pc_up 16 _
    have u3 : pcN 16 (s / 256 / 256) = pcN 8 (s / 256 / 256) + pcN 8 (s / 256 / 256 / 256) := pc_up 8 _
    have v0 := pc_lo s
    have v1 := pc_lo (s / 256)
    have v2 := pc_lo (s / 256 / 256)
    have v3 := pc_lo (s / 256 / 256 / 256)
    rw [← hb0] at v0
    rw [← hb1] at v1
    rw [show s / 256 / 256 % 256 = b2 by omega] at v2
    rw [show s / 256 / 256 / 256 % 256 = b3 by omega] at v3
    omega
  -- the first step
  have A1 : (s / 2 &&& 1431655765) = (b0 / 2 &&& 85) + 256 * (b1 / 2 &&& 85) + 65536 * (b2 / 2 &&& 85) + 16777216 * (b3 / 2 &&& 85) := by
    have e : s / 2 = (b0 / 2 + 128 * (b1 % 2)) + 256 * (b1 / 2 + 128 * (b2 % 2)) + 65536 * (b2 / 2 + 128 * (b3 % 2)) + 16777216 * (b3 / 2) := by omega
    have e2 := and_four (a := b0 / 2 + 128 * (b1 % 2)) (b := b1 / 2 + 128 * (b2 % 2)) (c := b2 / 2 + 128 * (b3 % 2)) (d := b3 / 2) (m := 85) (by omega) (by omega) (by omega) (by omega)
    rw [e, show (1431655765 : Nat) = 85 + 256 * 85 + 65536 * 85 + 16777216 * 85 from rfl, e2, by_E2 _ (by omega) _ (by omega), by_E2 _ (by omega) _ (by omega), by_E2 _ (by omega) _ (by omega)]
  have q0 := by_E b0 l0
  have q1 := by_E b1 l1
  have q2 := by_E b2 l2
  have q3 := by_E b3 l3
  have f0 := by_F b0 l0
  have f1 := by_F b1 l1
  have f2 := by_F b2 l2
  have f3 := by_F b3 l3
  obtain ⟨y1, hy1⟩ : ∃ y, y = s - (s / 2 &&& 1431655765) := ⟨_, rfl⟩
  have Y1 : y1 = byE b0 + 256 * byE b1 + 65536 * byE b2 + 16777216 * byE b3 := by
    rw [hy1, A1, byE, byE, byE, byE]; omega
  have A2 : (y1 &&& 858993459) = (byE b0 &&& 51) + 256 * (byE b1 &&& 51) + 65536 * (byE b2 &&& 51) + 16777216 * (byE b3 &&& 51) := by
    have e2 := and_four (a := byE b0) (b := byE b1) (c := byE b2) (d := byE b3) (m := 51) (by omega) (by omega) (by omega) (by omega)
    rw [Y1, show (858993459 : Nat) = 51 + 256 * 51 + 65536 * 51 + 16777216 * 51 from rfl, e2]
  have A3 : (y1 / 4 &&& 858993459) = (byE b0 / 4 &&& 51) + 256 * (byE b1 / 4 &&& 51) + 65536 * (byE b2 / 4 &&& 51) + 16777216 * (byE b3 / 4 &&& 51) := by
    have e : y1 / 4 = (byE b0 / 4 + 64 * (byE b1 % 4)) + 256 * (byE b1 / 4 + 64 * (byE b2 % 4)) + 65536 * (byE b2 / 4 + 64 * (byE b3 % 4)) + 16777216 * (byE b3 / 4) := by omega
    have e2 := and_four (a := byE b0 / 4 + 64 * (byE b1 % 4)) (b := byE b1 / 4 + 64 * (byE b2 % 4)) (c := byE b2 / 4 + 64 * (byE b3 % 4)) (d := byE b3 / 4) (m := 51) (by omega) (by omega) (by omega) (by omega)
    rw [e, show (858993459 : Nat) = 51 + 256 * 51 + 65536 * 51 + 16777216 * 51 from rfl, e2, by_F2 _ (by omega) _ (by omega), by_F2 _ (by omega) _ (by omega), by_F2 _ (by omega) _ (by omega)]
  obtain ⟨y2, hy2⟩ : ∃ y, y = (y1 &&& 858993459) + (y1 / 4 &&& 858993459) := ⟨_, rfl⟩
  have Y2 : y2 = byF b0 + 256 * byF b1 + 65536 * byF b2 + 16777216 * byF b3 := by
    rw [hy2, A2, A3, byF, byF, byF, byF]; omega
  obtain ⟨y3, hy3⟩ : ∃ y, y = (y2 + y2 / 16 &&& 252645135) := ⟨_, rfl⟩
  have Y3 : y3 = pcN 8 b0 + 256 * pcN 8 b1 + 65536 * pcN 8 b2 + 16777216 * pcN 8 b3 := by
    have e : y2 + y2 / 16 = (byF b0 + byF b0 / 16 + 16 * (byF b1 % 16)) + 256 * (byF b1 + byF b1 / 16 + 16 * (byF b2 % 16)) + 65536 * (byF b2 + byF b2 / 16 + 16 * (byF b3 % 16)) + 16777216 * (byF b3 + byF b3 / 16 + 16 * 0) := by omega
    have e2 := and_four (a := byF b0 + byF b0 / 16 + 16 * (byF b1 % 16)) (b := byF b1 + byF b1 / 16 + 16 * (byF b2 % 16)) (c := byF b2 + byF b2 / 16 + 16 * (byF b3 % 16)) (d := byF b3 + byF b3 / 16 + 16 * 0) (m := 15) (by omega) (by omega) (by omega) (by omega)
    rw [hy3, e, show (252645135 : Nat) = 15 + 256 * 15 + 65536 * 15 + 16777216 * 15 from rfl, e2, by_G _ (by omega) _ l0, by_G _ (by omega) _ l1, by_G _ (by omega) _ l2, by_G _ (by omega) _ l3]
  have p0 := pc_le8 b0 l0
  have p1 := pc_le8 b1 l1
  have p2 := pc_le8 b2 l2
  have p3 := pc_le8 b3 l3
  have fin : ((y3 + y3 / 256) + (y3 + y3 / 256) / 65536 &&& 63) = pcN 32 s := by
    have e : ((y3 + y3 / 256) + (y3 + y3 / 256) / 65536 &&& 63) = ((y3 + y3 / 256) + (y3 + y3 / 256) / 65536) % 64 := Nat.and_two_pow_sub_one_eq_mod _ 6
    rw [e, hpc]
    exact bc_fin p0 p1 p2 p3 Y3
  have i1 : iushr (nI s) 1 = nI (s / 2) := by rw [p_1]; exact nx_ush hs (by omega)
  have i2 : iushr (nI y1) 2 = nI (y1 / 4) := by rw [p_2]; exact nx_ush (by omega) (by omega)
  have i3 : iushr (nI y2) 4 = nI (y2 / 16) := by rw [p_4]; exact nx_ush (by omega) (by omega)
  have i4 : iushr (nI y3) 8 = nI (y3 / 256) := by rw [p_8]; exact nx_ush (by omega) (by omega)
  have i5 : iushr (nI (y3 + y3 / 256)) 16 = nI ((y3 + y3 / 256) / 65536) := by rw [pm_16]; exact nx_ush (by omega) (by omega)
  have j1 : nI s - (nI (s / 2) &&& 1431655765) = nI y1 := by
    rw [pm_555, nx_and, p_sub (by omega), hy1]
  have j2 : (nI y1 &&& 858993459) + (nI (y1 / 4) &&& 858993459) = nI y2 := by
    rw [pm_333, nx_and, nx_and, p_add, hy2]
  have j3 : nI y2 + nI (y2 / 16) &&& 252645135 = nI y3 := by
    rw [pm_f0f, p_add, nx_and, hy3]
  rw [J_bitCount, i1, j1, i2, j2, i3, j3, i4, p_add, i5, p_add, pm_63, nx_and, fin]
