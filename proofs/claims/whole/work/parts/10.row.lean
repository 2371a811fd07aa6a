set_option maxHeartbeats 4000000 in
set_option maxRecDepth 100000 in
theorem c_X1_size (l : Launch) (D : va_G) (cI cS : ClassId) (a : aR) (n : Nat) (r : RW) (out : Int32) (hf : R_size n r = some out) : kM l D (kTy cI cS) yX1_size ct_X1_size rm_X1_size [.ref a.1] [wR cI a n r] (kEq (some (.int out)) [wR cI a n r]) := by
  refine k_methodE cX1_size 1 (some .int) RX1 rfl [(0, .ref a.1)] rfl (by decide +kernel) (Nat.le_of_ble_eq_true rfl) (fun κ A hla C => ?_)
  refine g_chunks (flR cI cS a n r).symm ?_
  rw [R_size] at hf
  refine g_aload_n (pc := 0) C 0 dX1_size_0 rfl ?_
  refine gf_RX1_21 (pc := 1) C 0 rfl dX1_size_1 ?_
  have e := Option.some.inj hf; subst e
  exact g_ri (pc := 4) C rfl (flR cI cS a n r) dX1_size_4
set_option maxHeartbeats 4000000 in
set_option maxRecDepth 100000 in
theorem c_X1_at (l : Launch) (D : va_G) (cI cS : ClassId) (a : aR) (n : Nat) (r : RW) (x1 : Int32) (out : Int32) (hf : R_at n r x1 = some out) : kM l D (kTy cI cS) yX1_at ct_X1_at rm_X1_at [.ref a.1, .int x1] [wR cI a n r] (kEq (some (.int out)) [wR cI a n r]) := by
  refine k_methodE cX1_at 2 (some .int) RX1 rfl [(0, .ref a.1), (1, .int x1)] rfl (by decide +kernel) (Nat.le_of_ble_eq_true rfl) (fun κ A hla C => ?_)
  refine g_chunks (flR cI cS a n r).symm ?_
  rw [R_at] at hf
  refine g_iload_n (pc := 0) C 1 dX1_at_0 rfl ?_
  refine g_if_lt (pc := 1) C 30 dX1_at_1 (by decide) (fun (c1 : x1 < 0) => ?_) (fun (c1 : ¬ x1 < 0) => ?_)
  · have hf := k_pos c1 hf
    refine g_iconst (pc := 30) C (-1) dX1_at_30 (by decide) ?_
    have e := Option.some.inj hf; subst e
    exact g_ri (pc := 31) C rfl (flR cI cS a n r) dX1_at_31
  · have hf := k_neg c1 hf
    refine g_iload_n (pc := 4) C 1 dX1_at_4 rfl ?_
    refine g_aload_n (pc := 5) C 0 dX1_at_5 rfl ?_
    refine gf_RX1_21 (pc := 6) C 0 rfl dX1_at_6 ?_
    refine g_icmp_ge (pc := 9) C 30 dX1_at_9 (by decide) (fun (c9 : r.1 ≤ x1) => ?_) (fun (c9 : ¬ r.1 ≤ x1) => ?_)
    · have hf := k_pos c9 hf
      refine g_iconst (pc := 30) C (-1) dX1_at_30 (by decide) ?_
      have e := Option.some.inj hf; subst e
      exact g_ri (pc := 31) C rfl (flR cI cS a n r) dX1_at_31
    · have hf := k_neg c9 hf
      refine g_iload_n (pc := 12) C 1 dX1_at_12 rfl ?_
      refine g_aload_n (pc := 13) C 0 dX1_at_13 rfl ?_
      refine gf_RX1_15 (pc := 14) C 0 rfl dX1_at_14 ?_
      refine g_alen (pc := 17) C 1 0 (Int32.ofNat n) rfl rfl rfl dX1_at_17 ?_
      refine g_icmp_ge (pc := 18) C 30 dX1_at_18 (by decide) (fun (c18 : (Int32.ofNat n) ≤ x1) => ?_) (fun (c18 : ¬ (Int32.ofNat n) ≤ x1) => ?_)
      · have hf := k_pos c18 hf
        refine g_iconst (pc := 30) C (-1) dX1_at_30 (by decide) ?_
        have e := Option.some.inj hf; subst e
        exact g_ri (pc := 31) C rfl (flR cI cS a n r) dX1_at_31
      · have hf := k_neg c18 hf
        refine g_aload_n (pc := 21) C 0 dX1_at_21 rfl ?_
        refine gf_RX1_15 (pc := 22) C 0 rfl dX1_at_22 ?_
        refine g_iload_n (pc := 25) C 1 dX1_at_25 rfl ?_
        obtain ⟨g26, hf⟩ := k_guard hf
        refine g_iald (pc := 26) C 1 0 rfl rfl g26 dX1_at_26 ?_
        refine g_goto (pc := 27) C 31 dX1_at_27 (by decide) ?_
        have e := Option.some.inj hf; subst e
        exact g_ri (pc := 31) C rfl (flR cI cS a n r) dX1_at_31
set_option maxHeartbeats 4000000 in
set_option maxRecDepth 100000 in
theorem c_X1_takeFrom (l : Launch) (D : va_G) (cI cS : ClassId) (a : aR) (n : Nat) (r : RW) (b : aR) (n' : Nat) (r' : RW) (out : RW) (hf : R_takeFrom n r n' r' = some out) : kM l D (kTy cI cS) yX1_takeFrom ct_X1_takeFrom rm_X1_takeFrom [.ref a.1, .ref b.1] [wR cI a n r, wR cI b n' r'] (kEq (none) [wR cI a n out, wR cI b n' r']) := by
  refine k_methodE cX1_takeFrom 3 none RX1 rfl [(0, .ref a.1), (1, .ref b.1)] rfl (by decide +kernel) (Nat.le_of_ble_eq_true rfl) (fun κ A hla C => ?_)
  refine g_chunks (flRR cI cS a n r b n' r').symm ?_
  have L26 : ∀ (fu : Nat) (n : Nat) (r : RW) (n' : Nat) (r' : RW) (x2 : Int32), R_takeFrom_L26 fu n r n' r' x2 = some out → kG κ D A 3 0 0 (kF κ D A (none) [wR cI a n out, wR cI b n' r']) (csRR cI cS a n r b n' r') [(0, .ref a.1), (1, .ref b.1), (2, .int x2)] 26 [] := by
    intro fu; induction fu with
    | zero => intro n r n' r' x2 hf; rw [R_takeFrom_L26] at hf; cases hf
    | succ fu ih =>
      intro n r n' r' x2 hf; rw [R_takeFrom_L26] at hf
      refine g_iload_n (pc := 26) C 2 dX1_takeFrom_26 rfl ?_
      refine g_aload_n (pc := 27) C 0 dX1_takeFrom_27 rfl ?_
      refine gf_RX1_21 (pc := 28) C 0 rfl dX1_takeFrom_28 ?_
      refine g_icmp_ge (pc := 31) C 52 dX1_takeFrom_31 (by decide) (fun (c31 : r.1 ≤ x2) => ?_) (fun (c31 : ¬ r.1 ≤ x2) => ?_)
      · have hf := k_pos c31 hf
        have e := Option.some.inj hf; subst e
        exact g_rv (pc := 52) C rfl (flRR cI cS a n r b n' r') dX1_takeFrom_52
      · have hf := k_neg c31 hf
        refine g_aload_n (pc := 34) C 0 dX1_takeFrom_34 rfl ?_
        refine gf_RX1_15 (pc := 35) C 0 rfl dX1_takeFrom_35 ?_
        refine g_iload_n (pc := 38) C 2 dX1_takeFrom_38 rfl ?_
        refine g_aload_n (pc := 39) C 1 dX1_takeFrom_39 rfl ?_
        refine gf_RX1_15 (pc := 40) C 2 rfl dX1_takeFrom_40 ?_
        refine g_iload_n (pc := 43) C 2 dX1_takeFrom_43 rfl ?_
        obtain ⟨g44, hf⟩ := k_guard hf
        refine g_iald (pc := 44) C 3 0 rfl rfl g44 dX1_takeFrom_44 ?_
        obtain ⟨g45, hf⟩ := k_guard hf
        obtain ⟨u45, e45, hf⟩ := Option.bind_eq_some_iff.mp hf
        refine g_iastU (pc := 45) C 1 0 u45 (Option.some.inj e45) (csRR cI cS a n (r.1, u45) b n' r') rfl rfl g45 rfl dX1_takeFrom_45 ?_
        refine g_iinc (pc := 46) C 2 (x2 + 1) [(2, .int (x2 + 1)), (0, .ref a.1), (1, .ref b.1)] dX1_takeFrom_46 rfl (congrArg (HAdd.hAdd _) (by decide)) (by decide) rfl ?_
        refine g_goto (pc := 49) C 26 dX1_takeFrom_49 (by decide) ?_
        refine g_sub [1, 2, 0] (lv' := [(0, .ref a.1), (1, .ref b.1), (2, .int (x2 + 1))]) rfl ?_
        exact ih n (r.1, u45) n' r' (x2 + 1) hf
  rw [R_takeFrom] at hf
  refine g_aload_n (pc := 0) C 0 dX1_takeFrom_0 rfl ?_
  refine g_aload_n (pc := 1) C 1 dX1_takeFrom_1 rfl ?_
  refine gf_RX1_21 (pc := 2) C 2 rfl dX1_takeFrom_2 ?_
  refine g_aload_n (pc := 5) C 1 dX1_takeFrom_5 rfl ?_
  refine gf_RX1_15 (pc := 6) C 2 rfl dX1_takeFrom_6 ?_
  refine g_alen (pc := 9) C 3 0 (Int32.ofNat n') rfl rfl rfl dX1_takeFrom_9 ?_
  refine g_aload_n (pc := 10) C 0 dX1_takeFrom_10 rfl ?_
  refine gf_RX1_15 (pc := 11) C 0 rfl dX1_takeFrom_11 ?_
  refine g_alen (pc := 14) C 1 0 (Int32.ofNat n) rfl rfl rfl dX1_takeFrom_14 ?_
  refine g_mmin (pc := 15) C m_274 m_275 m_math m_code_min (by decide) (Nat.le_of_ble_eq_true rfl) (Nat.le_refl 0) (Nat.le_refl 0) dX1_takeFrom_15 ?_
  refine g_mmin (pc := 18) C m_274 m_275 m_math m_code_min (by decide) (Nat.le_of_ble_eq_true rfl) (Nat.le_refl 0) (Nat.le_refl 0) dX1_takeFrom_18 ?_
  refine gp_RX1_21 (pc := 21) C 0 (cs' := csRR cI cS a n ((imin r'.1 (imin (Int32.ofNat n') (Int32.ofNat n))), r.2) b n' r') rfl rfl dX1_takeFrom_21 ?_
  refine g_iconst (pc := 24) C 0 dX1_takeFrom_24 (by decide) ?_
  refine g_istore_n (pc := 25) C [(2, .int 0), (0, .ref a.1), (1, .ref b.1)] dX1_takeFrom_25 (by decide) rfl ?_
  refine g_sub [1, 2, 0] (lv' := [(0, .ref a.1), (1, .ref b.1), (2, .int 0)]) rfl ?_
  exact L26 1000 n ((imin r'.1 (imin (Int32.ofNat n') (Int32.ofNat n))), r.2) n' r' 0 hf
set_option maxHeartbeats 4000000 in
set_option maxRecDepth 100000 in
theorem c_X1_put (l : Launch) (D : va_G) (cI cS : ClassId) (a : aR) (n : Nat) (r : RW) (x1 : Int32) (x2 : Int32) (out : RW) (hf : R_put n r x1 x2 = some out) : kM l D (kTy cI cS) yX1_put ct_X1_put rm_X1_put [.ref a.1, .int x1, .int x2] [wR cI a n r] (kEq (none) [wR cI a n out]) := by
  refine k_methodE cX1_put 3 none RX1 rfl [(0, .ref a.1), (1, .int x1), (2, .int x2)] rfl (by decide +kernel) (Nat.le_of_ble_eq_true rfl) (fun κ A hla C => ?_)
  refine g_chunks (flR cI cS a n r).symm ?_
  rw [R_put] at hf
  refine g_iload_n (pc := 0) C 1 dX1_put_0 rfl ?_
  refine g_if_lt (pc := 1) C 28 dX1_put_1 (by decide) (fun (c1 : x1 < 0) => ?_) (fun (c1 : ¬ x1 < 0) => ?_)
  · have hf := k_pos c1 hf
    have e := Option.some.inj hf; subst e
    exact g_rv (pc := 28) C rfl (flR cI cS a n r) dX1_put_28
  · have hf := k_neg c1 hf
    refine g_iload_n (pc := 4) C 1 dX1_put_4 rfl ?_
    refine g_aload_n (pc := 5) C 0 dX1_put_5 rfl ?_
    refine gf_RX1_21 (pc := 6) C 0 rfl dX1_put_6 ?_
    refine g_icmp_ge (pc := 9) C 28 dX1_put_9 (by decide) (fun (c9 : r.1 ≤ x1) => ?_) (fun (c9 : ¬ r.1 ≤ x1) => ?_)
    · have hf := k_pos c9 hf
      have e := Option.some.inj hf; subst e
      exact g_rv (pc := 28) C rfl (flR cI cS a n r) dX1_put_28
    · have hf := k_neg c9 hf
      refine g_iload_n (pc := 12) C 1 dX1_put_12 rfl ?_
      refine g_aload_n (pc := 13) C 0 dX1_put_13 rfl ?_
      refine gf_RX1_15 (pc := 14) C 0 rfl dX1_put_14 ?_
      refine g_alen (pc := 17) C 1 0 (Int32.ofNat n) rfl rfl rfl dX1_put_17 ?_
      refine g_icmp_ge (pc := 18) C 28 dX1_put_18 (by decide) (fun (c18 : (Int32.ofNat n) ≤ x1) => ?_) (fun (c18 : ¬ (Int32.ofNat n) ≤ x1) => ?_)
      · have hf := k_pos c18 hf
        have e := Option.some.inj hf; subst e
        exact g_rv (pc := 28) C rfl (flR cI cS a n r) dX1_put_28
      · have hf := k_neg c18 hf
        refine g_aload_n (pc := 21) C 0 dX1_put_21 rfl ?_
        refine gf_RX1_15 (pc := 22) C 0 rfl dX1_put_22 ?_
        refine g_iload_n (pc := 25) C 1 dX1_put_25 rfl ?_
        refine g_iload_n (pc := 26) C 2 dX1_put_26 rfl ?_
        obtain ⟨g27, hf⟩ := k_guard hf
        obtain ⟨u27, e27, hf⟩ := Option.bind_eq_some_iff.mp hf
        refine g_iastU (pc := 27) C 1 0 u27 (Option.some.inj e27) (csR cI cS a n (r.1, u27)) rfl rfl g27 rfl dX1_put_27 ?_
        have e := Option.some.inj hf; subst e
        exact g_rv (pc := 28) C rfl (flR cI cS a n (r.1, u27)) dX1_put_28
set_option maxHeartbeats 4000000 in
set_option maxRecDepth 100000 in
theorem c_X1_takeOut (l : Launch) (D : va_G) (cI cS : ClassId) (a : aR) (n : Nat) (r : RW) (x1 : Int32) (x2 : Int32) (out : RW) (hf : R_takeOut n r x1 x2 = some out) : kM l D (kTy cI cS) yX1_takeOut ct_X1_takeOut rm_X1_takeOut [.ref a.1, .int x1, .int x2] [wR cI a n r] (kEq (none) [wR cI a n out]) := by
  refine k_methodE cX1_takeOut 4 none RX1 rfl [(0, .ref a.1), (1, .int x1), (2, .int x2)] rfl (by decide +kernel) (Nat.le_of_ble_eq_true rfl) (fun κ A hla C => ?_)
  refine g_chunks (flR cI cS a n r).symm ?_
  have L20 : ∀ (fu : Nat) (n : Nat) (r : RW) (x1 : Int32) (x2 : Int32) (x3 : Int32), R_takeOut_L20 fu n r x1 x2 x3 = some out → kG κ D A 4 0 0 (kF κ D A (none) [wR cI a n out]) (csR cI cS a n r) [(0, .ref a.1), (1, .int x1), (2, .int x2), (3, .int x3)] 20 [] := by
    intro fu; induction fu with
    | zero => intro n r x1 x2 x3 hf; rw [R_takeOut_L20] at hf; cases hf
    | succ fu ih =>
      intro n r x1 x2 x3 hf; rw [R_takeOut_L20] at hf
      refine g_iload_n (pc := 20) C 3 dX1_takeOut_20 rfl ?_
      refine g_aload_n (pc := 21) C 0 dX1_takeOut_21 rfl ?_
      refine gf_RX1_21 (pc := 22) C 0 rfl dX1_takeOut_22 ?_
      refine g_icmp_ge (pc := 25) C 48 dX1_takeOut_25 (by decide) (fun (c25 : r.1 ≤ x3) => ?_) (fun (c25 : ¬ r.1 ≤ x3) => ?_)
      · have hf := k_pos c25 hf
        refine g_aload_n (pc := 48) C 0 dX1_takeOut_48 rfl ?_
        refine g_dup (pc := 49) C dX1_takeOut_49 rfl ?_
        refine gf_RX1_21 (pc := 50) C 0 rfl dX1_takeOut_50 ?_
        refine g_iload_n (pc := 53) C 2 dX1_takeOut_53 rfl ?_
        refine g_iload_n (pc := 54) C 1 dX1_takeOut_54 rfl ?_
        refine g_isub (pc := 55) C dX1_takeOut_55 ?_
        refine g_isub (pc := 56) C dX1_takeOut_56 ?_
        refine gp_RX1_21 (pc := 57) C 0 (cs' := csR cI cS a n ((r.1 - (x2 - x1)), r.2)) rfl rfl dX1_takeOut_57 ?_
        have e := Option.some.inj hf; subst e
        exact g_rv (pc := 60) C rfl (flR cI cS a n ((r.1 - (x2 - x1)), r.2)) dX1_takeOut_60
      · have hf := k_neg c25 hf
        refine g_aload_n (pc := 28) C 0 dX1_takeOut_28 rfl ?_
        refine g_iload_n (pc := 29) C 1 dX1_takeOut_29 rfl ?_
        refine g_iload_n (pc := 30) C 3 dX1_takeOut_30 rfl ?_
        refine g_iadd (pc := 31) C dX1_takeOut_31 ?_
        refine g_iload_n (pc := 32) C 2 dX1_takeOut_32 rfl ?_
        refine g_isub (pc := 33) C dX1_takeOut_33 ?_
        refine g_aload_n (pc := 34) C 0 dX1_takeOut_34 rfl ?_
        refine g_iload_n (pc := 35) C 3 dX1_takeOut_35 rfl ?_
        obtain ⟨v36, h36, hf⟩ := Option.bind_eq_some_iff.mp hf
        refine g_callV' (pc := 36) hla C (c_X1_at l D cI cS a n r x3 v36 h36) gg_RX1_29 hd_X1_at (by decide) rfl rfl rfl rfl (Nat.le_of_ble_eq_true rfl) dX1_takeOut_36 (seR_0 cI cS a n r) (seR_0 cI cS a n r).symm [.int v36, .int ((x1 + x3) - x2), .ref a.1] rfl ?_
        obtain ⟨v39, h39, hf⟩ := Option.bind_eq_some_iff.mp hf
        refine g_callV' (pc := 39) hla C (c_X1_put l D cI cS a n r ((x1 + x3) - x2) v36 v39 h39) gg_RX1_33 hd_X1_put (by decide) rfl rfl rfl rfl (Nat.le_of_ble_eq_true rfl) dX1_takeOut_39 (seR_0 cI cS a n r) (seR_0 cI cS a n v39).symm [] rfl ?_
        refine g_iinc (pc := 42) C 3 (x3 + 1) [(3, .int (x3 + 1)), (0, .ref a.1), (1, .int x1), (2, .int x2)] dX1_takeOut_42 rfl (congrArg (HAdd.hAdd _) (by decide)) (by decide) rfl ?_
        refine g_goto (pc := 45) C 20 dX1_takeOut_45 (by decide) ?_
        refine g_sub [1, 2, 3, 0] (lv' := [(0, .ref a.1), (1, .int x1), (2, .int x2), (3, .int (x3 + 1))]) rfl ?_
        exact ih n v39 x1 x2 (x3 + 1) hf
  rw [R_takeOut] at hf
  refine g_iload_n (pc := 0) C 1 dX1_takeOut_0 rfl ?_
  refine g_if_lt (pc := 1) C 17 dX1_takeOut_1 (by decide) (fun (c1 : x1 < 0) => ?_) (fun (c1 : ¬ x1 < 0) => ?_)
  · have hf := k_pos c1 hf
    have e := Option.some.inj hf; subst e
    exact g_rv (pc := 17) C rfl (flR cI cS a n r) dX1_takeOut_17
  · have hf := k_neg c1 hf
    refine g_iload_n (pc := 4) C 2 dX1_takeOut_4 rfl ?_
    refine g_iload_n (pc := 5) C 1 dX1_takeOut_5 rfl ?_
    refine g_icmp_lt (pc := 6) C 17 dX1_takeOut_6 (by decide) (fun (c6 : x2 < x1) => ?_) (fun (c6 : ¬ x2 < x1) => ?_)
    · have hf := k_pos c6 hf
      have e := Option.some.inj hf; subst e
      exact g_rv (pc := 17) C rfl (flR cI cS a n r) dX1_takeOut_17
    · have hf := k_neg c6 hf
      refine g_iload_n (pc := 9) C 2 dX1_takeOut_9 rfl ?_
      refine g_aload_n (pc := 10) C 0 dX1_takeOut_10 rfl ?_
      refine gf_RX1_21 (pc := 11) C 0 rfl dX1_takeOut_11 ?_
      refine g_icmp_le (pc := 14) C 18 dX1_takeOut_14 (by decide) (fun (c14 : x2 ≤ r.1) => ?_) (fun (c14 : ¬ x2 ≤ r.1) => ?_)
      · have hf := k_pos c14 hf
        refine g_iload_n (pc := 18) C 2 dX1_takeOut_18 rfl ?_
        refine g_istore_n (pc := 19) C [(3, .int x2), (0, .ref a.1), (1, .int x1), (2, .int x2)] dX1_takeOut_19 (by decide) rfl ?_
        refine g_sub [1, 2, 3, 0] (lv' := [(0, .ref a.1), (1, .int x1), (2, .int x2), (3, .int x2)]) rfl ?_
        exact L20 1000 n r x1 x2 x2 hf
      · have hf := k_neg c14 hf
        have e := Option.some.inj hf; subst e
        exact g_rv (pc := 17) C rfl (flR cI cS a n r) dX1_takeOut_17
set_option maxHeartbeats 4000000 in
set_option maxRecDepth 100000 in
theorem c_X1_putIn (l : Launch) (D : va_G) (cI cS : ClassId) (a : aR) (n : Nat) (r : RW) (x1 : Int32) (x2 : Int32) (out : RW) (hf : R_putIn n r x1 x2 = some out) : kM l D (kTy cI cS) yX1_putIn ct_X1_putIn rm_X1_putIn [.ref a.1, .int x1, .int x2] [wR cI a n r] (kEq (none) [wR cI a n out]) := by
  refine k_methodE cX1_putIn 4 none RX1 rfl [(0, .ref a.1), (1, .int x1), (2, .int x2)] rfl (by decide +kernel) (Nat.le_of_ble_eq_true rfl) (fun κ A hla C => ?_)
  refine g_chunks (flR cI cS a n r).symm ?_
  have L30 : ∀ (fu : Nat) (n : Nat) (r : RW) (x1 : Int32) (x2 : Int32) (x3 : Int32), R_putIn_L30 fu n r x1 x2 x3 = some out → kG κ D A 4 0 0 (kF κ D A (none) [wR cI a n out]) (csR cI cS a n r) [(0, .ref a.1), (1, .int x1), (2, .int x2), (3, .int x3)] 30 [] := by
    intro fu; induction fu with
    | zero => intro n r x1 x2 x3 hf; rw [R_putIn_L30] at hf; cases hf
    | succ fu ih =>
      intro n r x1 x2 x3 hf; rw [R_putIn_L30] at hf
      refine g_iload_n (pc := 30) C 3 dX1_putIn_30 rfl ?_
      refine g_iload_n (pc := 31) C 1 dX1_putIn_31 rfl ?_
      refine g_icmp_le (pc := 32) C 55 dX1_putIn_32 (by decide) (fun (c32 : x3 ≤ x1) => ?_) (fun (c32 : ¬ x3 ≤ x1) => ?_)
      · have hf := k_pos c32 hf
        refine g_aload_n (pc := 55) C 0 dX1_putIn_55 rfl ?_
        refine gf_RX1_15 (pc := 56) C 0 rfl dX1_putIn_56 ?_
        refine g_iload_n (pc := 59) C 1 dX1_putIn_59 rfl ?_
        refine g_iload_n (pc := 60) C 2 dX1_putIn_60 rfl ?_
        obtain ⟨g61, hf⟩ := k_guard hf
        obtain ⟨u61, e61, hf⟩ := Option.bind_eq_some_iff.mp hf
        refine g_iastU (pc := 61) C 1 0 u61 (Option.some.inj e61) (csR cI cS a n (r.1, u61)) rfl rfl g61 rfl dX1_putIn_61 ?_
        refine g_aload_n (pc := 62) C 0 dX1_putIn_62 rfl ?_
        refine g_dup (pc := 63) C dX1_putIn_63 rfl ?_
        refine gf_RX1_21 (pc := 64) C 0 rfl dX1_putIn_64 ?_
        refine g_iconst (pc := 67) C 1 dX1_putIn_67 (by decide) ?_
        refine g_iadd (pc := 68) C dX1_putIn_68 ?_
        refine gp_RX1_21 (pc := 69) C 0 (cs' := csR cI cS a n ((r.1 + 1), u61)) rfl rfl dX1_putIn_69 ?_
        have e := Option.some.inj hf; subst e
        exact g_rv (pc := 72) C rfl (flR cI cS a n ((r.1 + 1), u61)) dX1_putIn_72
      · have hf := k_neg c32 hf
        refine g_aload_n (pc := 35) C 0 dX1_putIn_35 rfl ?_
        refine gf_RX1_15 (pc := 36) C 0 rfl dX1_putIn_36 ?_
        refine g_iload_n (pc := 39) C 3 dX1_putIn_39 rfl ?_
        refine g_aload_n (pc := 40) C 0 dX1_putIn_40 rfl ?_
        refine gf_RX1_15 (pc := 41) C 0 rfl dX1_putIn_41 ?_
        refine g_iload_n (pc := 44) C 3 dX1_putIn_44 rfl ?_
        refine g_iconst (pc := 45) C 1 dX1_putIn_45 (by decide) ?_
        refine g_isub (pc := 46) C dX1_putIn_46 ?_
        obtain ⟨g47, hf⟩ := k_guard hf
        refine g_iald (pc := 47) C 1 0 rfl rfl g47 dX1_putIn_47 ?_
        obtain ⟨g48, hf⟩ := k_guard hf
        obtain ⟨u48, e48, hf⟩ := Option.bind_eq_some_iff.mp hf
        refine g_iastU (pc := 48) C 1 0 u48 (Option.some.inj e48) (csR cI cS a n (r.1, u48)) rfl rfl g48 rfl dX1_putIn_48 ?_
        refine g_iinc (pc := 49) C 3 (x3 + (-1)) [(3, .int (x3 + (-1))), (0, .ref a.1), (1, .int x1), (2, .int x2)] dX1_putIn_49 rfl (congrArg (HAdd.hAdd _) (by decide)) (by decide) rfl ?_
        refine g_goto (pc := 52) C 30 dX1_putIn_52 (by decide) ?_
        refine g_sub [1, 2, 3, 0] (lv' := [(0, .ref a.1), (1, .int x1), (2, .int x2), (3, .int (x3 + (-1)))]) rfl ?_
        exact ih n (r.1, u48) x1 x2 (x3 + (-1)) hf
  rw [R_putIn] at hf
  refine g_iload_n (pc := 0) C 1 dX1_putIn_0 rfl ?_
  refine g_if_lt (pc := 1) C 24 dX1_putIn_1 (by decide) (fun (c1 : x1 < 0) => ?_) (fun (c1 : ¬ x1 < 0) => ?_)
  · have hf := k_pos c1 hf
    have e := Option.some.inj hf; subst e
    exact g_rv (pc := 24) C rfl (flR cI cS a n r) dX1_putIn_24
  · have hf := k_neg c1 hf
    refine g_iload_n (pc := 4) C 1 dX1_putIn_4 rfl ?_
    refine g_aload_n (pc := 5) C 0 dX1_putIn_5 rfl ?_
    refine gf_RX1_21 (pc := 6) C 0 rfl dX1_putIn_6 ?_
    refine g_icmp_gt (pc := 9) C 24 dX1_putIn_9 (by decide) (fun (c9 : r.1 < x1) => ?_) (fun (c9 : ¬ r.1 < x1) => ?_)
    · have hf := k_pos c9 hf
      have e := Option.some.inj hf; subst e
      exact g_rv (pc := 24) C rfl (flR cI cS a n r) dX1_putIn_24
    · have hf := k_neg c9 hf
      refine g_aload_n (pc := 12) C 0 dX1_putIn_12 rfl ?_
      refine gf_RX1_21 (pc := 13) C 0 rfl dX1_putIn_13 ?_
      refine g_aload_n (pc := 16) C 0 dX1_putIn_16 rfl ?_
      refine gf_RX1_15 (pc := 17) C 0 rfl dX1_putIn_17 ?_
      refine g_alen (pc := 20) C 1 0 (Int32.ofNat n) rfl rfl rfl dX1_putIn_20 ?_
      refine g_icmp_lt (pc := 21) C 25 dX1_putIn_21 (by decide) (fun (c21 : r.1 < (Int32.ofNat n)) => ?_) (fun (c21 : ¬ r.1 < (Int32.ofNat n)) => ?_)
      · have hf := k_pos c21 hf
        refine g_aload_n (pc := 25) C 0 dX1_putIn_25 rfl ?_
        refine gf_RX1_21 (pc := 26) C 0 rfl dX1_putIn_26 ?_
        refine g_istore_n (pc := 29) C [(3, .int r.1), (0, .ref a.1), (1, .int x1), (2, .int x2)] dX1_putIn_29 (by decide) rfl ?_
        refine g_sub [1, 2, 3, 0] (lv' := [(0, .ref a.1), (1, .int x1), (2, .int x2), (3, .int r.1)]) rfl ?_
        exact L30 1000 n r x1 x2 r.1 hf
      · have hf := k_neg c21 hf
        have e := Option.some.inj hf; subst e
        exact g_rv (pc := 24) C rfl (flR cI cS a n r) dX1_putIn_24
set_option maxHeartbeats 4000000 in
set_option maxRecDepth 100000 in
theorem c_X1_add (l : Launch) (D : va_G) (cI cS : ClassId) (a : aR) (n : Nat) (r : RW) (x1 : Int32) (out : RW) (hf : R_add n r x1 = some out) : kM l D (kTy cI cS) yX1_add ct_X1_add rm_X1_add [.ref a.1, .int x1] [wR cI a n r] (kEq (none) [wR cI a n out]) := by
  refine k_methodE cX1_add 2 none RX1 rfl [(0, .ref a.1), (1, .int x1)] rfl (by decide +kernel) (Nat.le_of_ble_eq_true rfl) (fun κ A hla C => ?_)
  refine g_chunks (flR cI cS a n r).symm ?_
  rw [R_add] at hf
  refine g_aload_n (pc := 0) C 0 dX1_add_0 rfl ?_
  refine g_aload_n (pc := 1) C 0 dX1_add_1 rfl ?_
  refine gf_RX1_21 (pc := 2) C 0 rfl dX1_add_2 ?_
  refine g_iload_n (pc := 5) C 1 dX1_add_5 rfl ?_
  obtain ⟨v6, h6, hf⟩ := Option.bind_eq_some_iff.mp hf
  refine g_callV' (pc := 6) hla C (c_X1_putIn l D cI cS a n r r.1 x1 v6 h6) gg_RX1_25 hd_X1_putIn (by decide) rfl rfl rfl rfl (Nat.le_of_ble_eq_true rfl) dX1_add_6 (seR_0 cI cS a n r) (seR_0 cI cS a n v6).symm [] rfl ?_
  have e := Option.some.inj hf; subst e
  exact g_rv (pc := 9) C rfl (flR cI cS a n v6) dX1_add_9
set_option maxHeartbeats 4000000 in
set_option maxRecDepth 100000 in
theorem c_X1_turnAbout (l : Launch) (D : va_G) (cI cS : ClassId) (a : aR) (n : Nat) (r : RW) (x1 : Int32) (x2 : Int32) (out : RW) (hf : R_turnAbout n r x1 x2 = some out) : kM l D (kTy cI cS) yX1_turnAbout ct_X1_turnAbout rm_X1_turnAbout [.ref a.1, .int x1, .int x2] [wR cI a n r] (kEq (none) [wR cI a n out]) := by
  refine k_methodE cX1_turnAbout 6 none RX1 rfl [(0, .ref a.1), (1, .int x1), (2, .int x2)] rfl (by decide +kernel) (Nat.le_of_ble_eq_true rfl) (fun κ A hla C => ?_)
  refine g_chunks (flR cI cS a n r).symm ?_
  have L7 : ∀ (fu : Nat) (n : Nat) (r : RW) (x3 : Int32) (x4 : Int32), R_turnAbout_L7 fu n r x3 x4 = some out → kG κ D A 6 0 0 (kF κ D A (none) [wR cI a n out]) (csR cI cS a n r) [(0, .ref a.1), (3, .int x3), (4, .int x4)] 7 [] := by
    intro fu; induction fu with
    | zero => intro n r x3 x4 hf; rw [R_turnAbout_L7] at hf; cases hf
    | succ fu ih =>
      intro n r x3 x4 hf; rw [R_turnAbout_L7] at hf
      refine g_iload_n (pc := 7) C 1 dX1_turnAbout_7 rfl ?_
      refine g_iload (pc := 8) C 2 dX1_turnAbout_8 rfl ?_
      refine g_icmp_ge (pc := 10) C 48 dX1_turnAbout_10 (by decide) (fun (c10 : x4 ≤ x3) => ?_) (fun (c10 : ¬ x4 ≤ x3) => ?_)
      · have hf := k_pos c10 hf
        have e := Option.some.inj hf; subst e
        exact g_rv (pc := 48) C rfl (flR cI cS a n r) dX1_turnAbout_48
      · have hf := k_neg c10 hf
        refine g_aload_n (pc := 13) C 0 dX1_turnAbout_13 rfl ?_
        refine g_iload_n (pc := 14) C 1 dX1_turnAbout_14 rfl ?_
        obtain ⟨v15, h15, hf⟩ := Option.bind_eq_some_iff.mp hf
        refine g_callV' (pc := 15) hla C (c_X1_at l D cI cS a n r x3 v15 h15) gg_RX1_29 hd_X1_at (by decide) rfl rfl rfl rfl (Nat.le_of_ble_eq_true rfl) dX1_turnAbout_15 (seR_0 cI cS a n r) (seR_0 cI cS a n r).symm [.int v15] rfl ?_
        refine g_istore (pc := 18) C [(5, .int v15), (0, .ref a.1), (3, .int x3), (4, .int x4)] dX1_turnAbout_18 (by decide) rfl ?_
        refine g_aload_n (pc := 20) C 1 dX1_turnAbout_20 rfl ?_
        refine g_iload_n (pc := 21) C 2 dX1_turnAbout_21 rfl ?_
        refine g_aload_n (pc := 22) C 1 dX1_turnAbout_22 rfl ?_
        refine g_iload (pc := 23) C 3 dX1_turnAbout_23 rfl ?_
        obtain ⟨v25, h25, hf⟩ := Option.bind_eq_some_iff.mp hf
        refine g_callV' (pc := 25) hla C (c_X1_at l D cI cS a n r x4 v25 h25) gg_RX1_29 hd_X1_at (by decide) rfl rfl rfl rfl (Nat.le_of_ble_eq_true rfl) dX1_turnAbout_25 (seR_0 cI cS a n r) (seR_0 cI cS a n r).symm [.int v25, .int x3, .ref a.1] rfl ?_
        obtain ⟨v28, h28, hf⟩ := Option.bind_eq_some_iff.mp hf
        refine g_callV' (pc := 28) hla C (c_X1_put l D cI cS a n r x3 v25 v28 h28) gg_RX1_33 hd_X1_put (by decide) rfl rfl rfl rfl (Nat.le_of_ble_eq_true rfl) dX1_turnAbout_28 (seR_0 cI cS a n r) (seR_0 cI cS a n v28).symm [] rfl ?_
        refine g_aload_n (pc := 31) C 1 dX1_turnAbout_31 rfl ?_
        refine g_iload (pc := 32) C 3 dX1_turnAbout_32 rfl ?_
        refine g_iload (pc := 34) C 0 dX1_turnAbout_34 rfl ?_
        obtain ⟨v36, h36, hf⟩ := Option.bind_eq_some_iff.mp hf
        refine g_callV' (pc := 36) hla C (c_X1_put l D cI cS a n v28 x4 v15 v36 h36) gg_RX1_33 hd_X1_put (by decide) rfl rfl rfl rfl (Nat.le_of_ble_eq_true rfl) dX1_turnAbout_36 (seR_0 cI cS a n v28) (seR_0 cI cS a n v36).symm [] rfl ?_
        refine g_iinc (pc := 39) C 2 (x3 + 1) [(3, .int (x3 + 1)), (5, .int v15), (0, .ref a.1), (4, .int x4)] dX1_turnAbout_39 rfl (congrArg (HAdd.hAdd _) (by decide)) (by decide) rfl ?_
        refine g_iinc (pc := 42) C 3 (x4 + (-1)) [(4, .int (x4 + (-1))), (3, .int (x3 + 1)), (5, .int v15), (0, .ref a.1)] dX1_turnAbout_42 rfl (congrArg (HAdd.hAdd _) (by decide)) (by decide) rfl ?_
        refine g_goto (pc := 45) C 7 dX1_turnAbout_45 (by decide) ?_
        refine g_sub [3, 1, 0] (lv' := [(0, .ref a.1), (3, .int (x3 + 1)), (4, .int (x4 + (-1)))]) rfl ?_
        exact ih n v36 (x3 + 1) (x4 + (-1)) hf
  rw [R_turnAbout] at hf
  refine g_iload_n (pc := 0) C 1 dX1_turnAbout_0 rfl ?_
  refine g_istore_n (pc := 1) C [(3, .int x1), (0, .ref a.1), (1, .int x1), (2, .int x2)] dX1_turnAbout_1 (by decide) rfl ?_
  refine g_iload_n (pc := 2) C 3 dX1_turnAbout_2 rfl ?_
  refine g_iconst (pc := 3) C 1 dX1_turnAbout_3 (by decide) ?_
  refine g_isub (pc := 4) C dX1_turnAbout_4 ?_
  refine g_istore (pc := 5) C [(4, .int (x2 - 1)), (3, .int x1), (0, .ref a.1), (1, .int x1), (2, .int x2)] dX1_turnAbout_5 (by decide) rfl ?_
  refine g_sub [2, 1, 0] (lv' := [(0, .ref a.1), (3, .int x1), (4, .int (x2 - 1))]) rfl ?_
  exact L7 1000 n r x1 (x2 - 1) hf
set_option maxHeartbeats 4000000 in
set_option maxRecDepth 100000 in
theorem c_X1_exchangeRuns (l : Launch) (D : va_G) (cI cS : ClassId) (a : aR) (n : Nat) (r : RW) (x1 : Int32) (x2 : Int32) (x3 : Int32) (out : RW) (hf : R_exchangeRuns n r x1 x2 x3 = some out) : kM l D (kTy cI cS) yX1_exchangeRuns ct_X1_exchangeRuns rm_X1_exchangeRuns [.ref a.1, .int x1, .int x2, .int x3] [wR cI a n r] (kEq (none) [wR cI a n out]) := by
  refine k_methodE cX1_exchangeRuns 4 none RX1 rfl [(0, .ref a.1), (1, .int x1), (2, .int x2), (3, .int x3)] rfl (by decide +kernel) (Nat.le_of_ble_eq_true rfl) (fun κ A hla C => ?_)
  refine g_chunks (flR cI cS a n r).symm ?_
  rw [R_exchangeRuns] at hf
  refine g_aload_n (pc := 0) C 0 dX1_exchangeRuns_0 rfl ?_
  refine g_iload_n (pc := 1) C 1 dX1_exchangeRuns_1 rfl ?_
  refine g_iload_n (pc := 2) C 3 dX1_exchangeRuns_2 rfl ?_
  obtain ⟨v3, h3, hf⟩ := Option.bind_eq_some_iff.mp hf
  refine g_callV' (pc := 3) hla C (c_X1_turnAbout l D cI cS a n r x1 x3 v3 h3) gg_RX1_36 hd_X1_turnAbout (by decide) rfl rfl rfl rfl (Nat.le_of_ble_eq_true rfl) dX1_exchangeRuns_3 (seR_0 cI cS a n r) (seR_0 cI cS a n v3).symm [] rfl ?_
  refine g_aload_n (pc := 6) C 0 dX1_exchangeRuns_6 rfl ?_
  refine g_iload_n (pc := 7) C 1 dX1_exchangeRuns_7 rfl ?_
  refine g_iload_n (pc := 8) C 1 dX1_exchangeRuns_8 rfl ?_
  refine g_iload_n (pc := 9) C 3 dX1_exchangeRuns_9 rfl ?_
  refine g_iadd (pc := 10) C dX1_exchangeRuns_10 ?_
  refine g_iload_n (pc := 11) C 2 dX1_exchangeRuns_11 rfl ?_
  refine g_isub (pc := 12) C dX1_exchangeRuns_12 ?_
  obtain ⟨v13, h13, hf⟩ := Option.bind_eq_some_iff.mp hf
  refine g_callV' (pc := 13) hla C (c_X1_turnAbout l D cI cS a n v3 x1 ((x1 + x3) - x2) v13 h13) gg_RX1_36 hd_X1_turnAbout (by decide) rfl rfl rfl rfl (Nat.le_of_ble_eq_true rfl) dX1_exchangeRuns_13 (seR_0 cI cS a n v3) (seR_0 cI cS a n v13).symm [] rfl ?_
  refine g_aload_n (pc := 16) C 0 dX1_exchangeRuns_16 rfl ?_
  refine g_iload_n (pc := 17) C 1 dX1_exchangeRuns_17 rfl ?_
  refine g_iload_n (pc := 18) C 3 dX1_exchangeRuns_18 rfl ?_
  refine g_iadd (pc := 19) C dX1_exchangeRuns_19 ?_
  refine g_iload_n (pc := 20) C 2 dX1_exchangeRuns_20 rfl ?_
  refine g_isub (pc := 21) C dX1_exchangeRuns_21 ?_
  refine g_iload_n (pc := 22) C 3 dX1_exchangeRuns_22 rfl ?_
  obtain ⟨v23, h23, hf⟩ := Option.bind_eq_some_iff.mp hf
  refine g_callV' (pc := 23) hla C (c_X1_turnAbout l D cI cS a n v13 ((x1 + x3) - x2) x3 v23 h23) gg_RX1_36 hd_X1_turnAbout (by decide) rfl rfl rfl rfl (Nat.le_of_ble_eq_true rfl) dX1_exchangeRuns_23 (seR_0 cI cS a n v13) (seR_0 cI cS a n v23).symm [] rfl ?_
  have e := Option.some.inj hf; subst e
  exact g_rv (pc := 26) C rfl (flR cI cS a n v23) dX1_exchangeRuns_26
set_option maxHeartbeats 4000000 in
set_option maxRecDepth 100000 in
theorem c_X1_clear (l : Launch) (D : va_G) (cI cS : ClassId) (a : aR) (n : Nat) (r : RW) (out : RW) (hf : R_clear n r = some out) : kM l D (kTy cI cS) yX1_clear ct_X1_clear rm_X1_clear [.ref a.1] [wR cI a n r] (kEq (none) [wR cI a n out]) := by
  refine k_methodE cX1_clear 1 none RX1 rfl [(0, .ref a.1)] rfl (by decide +kernel) (Nat.le_of_ble_eq_true rfl) (fun κ A hla C => ?_)
  refine g_chunks (flR cI cS a n r).symm ?_
  rw [R_clear] at hf
  refine g_aload_n (pc := 0) C 0 dX1_clear_0 rfl ?_
  refine g_iconst (pc := 1) C 0 dX1_clear_1 (by decide) ?_
  refine gp_RX1_21 (pc := 2) C 0 (cs' := csR cI cS a n (0, r.2)) rfl rfl dX1_clear_2 ?_
  have e := Option.some.inj hf; subst e
  exact g_rv (pc := 5) C rfl (flR cI cS a n (0, r.2)) dX1_clear_5
