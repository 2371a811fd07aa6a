set_option maxHeartbeats 4000000 in
set_option maxRecDepth 100000 in
theorem c_X2_passLetter (l : Launch) (D : va_G) (cI cS : ClassId) (a : aC) (c : SC) (x1 : Int32) (out : Int32 × SC) (hf : C_passLetter c x1 = some out) : kM l D (kTy cI cS) yX2_passLetter ct_X2_passLetter rm_X2_passLetter [.ref a.1, .int x1] [wC cI cS a c] (kEq (some (.int out.1)) [wC cI cS a out.2]) := by
  refine k_methodE cX2_passLetter 3 (some .int) RX2 rfl [(0, .ref a.1), (1, .int x1)] rfl (by decide +kernel) (Nat.le_of_ble_eq_true rfl) (fun κ A hla C => ?_)
  refine g_chunks (flC cI cS a c).symm ?_
  rw [C_passLetter] at hf
  refine g_iload_n (pc := 0) C 1 dX2_passLetter_0 rfl ?_
  obtain ⟨v1, h1, hf⟩ := Option.bind_eq_some_iff.mp hf
  refine g_callSN' (pc := 1) 10 hla C (c_X5_isLetter l D cI cS x1 v1 h1) tb_X5_isLetter (show kNL[10]? = some (Cond.methodLinkNest RX2 65 yX5_isLetter RX5) from rfl) m_X5_isLetter_static m_ini5 hd_X5_isLetter (by decide) rfl rfl (Nat.le_of_ble_eq_true rfl) dX2_passLetter_1 (seC_nil cI cS a c) (seC_nil cI cS a c).symm [.int v1] rfl ?_
  refine g_if_ne (pc := 4) C 9 dX2_passLetter_4 (by decide) (fun (c4 : ¬ v1 = 0) => ?_) (fun (c4 : v1 = 0) => ?_)
  · have hf := k_neg c4 hf
    refine g_aload_n (pc := 9) C 0 dX2_passLetter_9 rfl ?_
    refine gf_RX2_12 (pc := 10) C 0 rfl dX2_passLetter_10 ?_
    obtain ⟨v13, h13, hf⟩ := Option.bind_eq_some_iff.mp hf
    refine g_callV' (pc := 13) hla C (c_X4_size l D cI cS a.2.1 c.1 v13 h13) gg_RX2_69 hd_X4_size (by decide) rfl rfl rfl rfl (Nat.le_of_ble_eq_true rfl) dX2_passLetter_13 (seC_0tree cI cS a c) (seC_0tree cI cS a c).symm [.int v13] rfl ?_
    refine g_bipush (pc := 16) C 40 dX2_passLetter_16 (by decide) ?_
    refine g_icmp_lt (pc := 18) C 23 dX2_passLetter_18 (by decide) (fun (c18 : v13 < 40) => ?_) (fun (c18 : ¬ v13 < 40) => ?_)
    · have hf := k_pos c18 hf
      refine g_aload_n (pc := 23) C 0 dX2_passLetter_23 rfl ?_
      refine gf_RX2_12 (pc := 24) C 0 rfl dX2_passLetter_24 ?_
      refine g_aload_n (pc := 27) C 0 dX2_passLetter_27 rfl ?_
      refine gf_RX2_12 (pc := 28) C 0 rfl dX2_passLetter_28 ?_
      obtain ⟨v31, h31, hf⟩ := Option.bind_eq_some_iff.mp hf
      refine g_callV' (pc := 31) hla C (c_X4_size l D cI cS a.2.1 c.1 v31 h31) gg_RX2_69 hd_X4_size (by decide) rfl rfl rfl rfl (Nat.le_of_ble_eq_true rfl) dX2_passLetter_31 (seC_0tree cI cS a c) (seC_0tree cI cS a c).symm [.int v31, .ref a.2.1.1] rfl ?_
      refine g_iload_n (pc := 34) C 1 dX2_passLetter_34 rfl ?_
      refine g_aload_n (pc := 35) C 0 dX2_passLetter_35 rfl ?_
      refine gf_RX2_23 (pc := 36) C 0 rfl dX2_passLetter_36 ?_
      obtain ⟨v39, h39, hf⟩ := Option.bind_eq_some_iff.mp hf
      refine g_callV' (pc := 39) hla C (c_X1_size l D cI cS a.2.2 7 c.2.1 v39 h39) gg_RX2_39 hd_X1_size (by decide) rfl rfl rfl rfl (Nat.le_of_ble_eq_true rfl) dX2_passLetter_39 (seC_0open cI cS a c) (seC_0open cI cS a c).symm [.int v39, .int x1, .int v31, .ref a.2.1.1] rfl ?_
      obtain ⟨v42, h42, hf⟩ := Option.bind_eq_some_iff.mp hf
      refine g_callV' (pc := 42) hla C (c_X4_putIn l D cI cS a.2.1 c.1 v31 x1 v39 v42 h42) gg_RX2_70 hd_X4_putIn (by decide) rfl rfl rfl rfl (Nat.le_of_ble_eq_true rfl) dX2_passLetter_42 (seC_0tree cI cS a c) (seC_0tree cI cS a (v42, c.2.1, c.2.2.1, c.2.2.2.1, c.2.2.2.2.1, c.2.2.2.2.2)).symm [] rfl ?_
      refine g_aload_n (pc := 45) C 0 dX2_passLetter_45 rfl ?_
      refine gf_RX2_23 (pc := 46) C 0 rfl dX2_passLetter_46 ?_
      obtain ⟨v49, h49, hf⟩ := Option.bind_eq_some_iff.mp hf
      refine g_callV' (pc := 49) hla C (c_X1_size l D cI cS a.2.2 7 c.2.1 v49 h49) gg_RX2_39 hd_X1_size (by decide) rfl rfl rfl rfl (Nat.le_of_ble_eq_true rfl) dX2_passLetter_49 (seC_0open cI cS a (v42, c.2.1, c.2.2.1, c.2.2.2.1, c.2.2.2.2.1, c.2.2.2.2.2)) (seC_0open cI cS a (v42, c.2.1, c.2.2.1, c.2.2.2.1, c.2.2.2.2.1, c.2.2.2.2.2)).symm [.int v49] rfl ?_
      refine g_iconst (pc := 52) C 1 dX2_passLetter_52 (by decide) ?_
      refine g_isub (pc := 53) C dX2_passLetter_53 ?_
      refine g_istore_n (pc := 54) C [(2, .int (v49 - 1)), (0, .ref a.1), (1, .int x1)] dX2_passLetter_54 (by decide) rfl ?_
      refine g_aload_n (pc := 55) C 1 dX2_passLetter_55 rfl ?_
      refine gf_RX2_23 (pc := 56) C 0 rfl dX2_passLetter_56 ?_
      refine g_iload_n (pc := 59) C 0 dX2_passLetter_59 rfl ?_
      refine g_aload_n (pc := 60) C 1 dX2_passLetter_60 rfl ?_
      refine gf_RX2_23 (pc := 61) C 0 rfl dX2_passLetter_61 ?_
      refine g_iload_n (pc := 64) C 0 dX2_passLetter_64 rfl ?_
      obtain ⟨v65, h65, hf⟩ := Option.bind_eq_some_iff.mp hf
      refine g_callV' (pc := 65) hla C (c_X1_at l D cI cS a.2.2 7 c.2.1 (v49 - 1) v65 h65) gg_RX2_46 hd_X1_at (by decide) rfl rfl rfl rfl (Nat.le_of_ble_eq_true rfl) dX2_passLetter_65 (seC_0open cI cS a (v42, c.2.1, c.2.2.1, c.2.2.2.1, c.2.2.2.2.1, c.2.2.2.2.2)) (seC_0open cI cS a (v42, c.2.1, c.2.2.1, c.2.2.2.1, c.2.2.2.2.1, c.2.2.2.2.2)).symm [.int v65, .int (v49 - 1), .ref a.2.2.1] rfl ?_
      refine g_iconst (pc := 68) C 1 dX2_passLetter_68 (by decide) ?_
      refine g_iadd (pc := 69) C dX2_passLetter_69 ?_
      obtain ⟨v70, h70, hf⟩ := Option.bind_eq_some_iff.mp hf
      refine g_callV' (pc := 70) hla C (c_X1_put l D cI cS a.2.2 7 c.2.1 (v49 - 1) (v65 + 1) v70 h70) gg_RX2_74 hd_X1_put (by decide) rfl rfl rfl rfl (Nat.le_of_ble_eq_true rfl) dX2_passLetter_70 (seC_0open cI cS a (v42, c.2.1, c.2.2.1, c.2.2.2.1, c.2.2.2.2.1, c.2.2.2.2.2)) (seC_0open cI cS a (v42, v70, c.2.2.1, c.2.2.2.1, c.2.2.2.2.1, c.2.2.2.2.2)).symm [] rfl ?_
      refine g_aload_n (pc := 73) C 1 dX2_passLetter_73 rfl ?_
      refine g_iconst (pc := 74) C 0 dX2_passLetter_74 (by decide) ?_
      refine gp_RX2_31 (pc := 75) C 0 (cs' := csC cI cS a (v42, v70, 0, c.2.2.2.1, c.2.2.2.2.1, c.2.2.2.2.2)) rfl rfl rfl rfl dX2_passLetter_75 ?_
      refine g_aload_n (pc := 78) C 1 dX2_passLetter_78 rfl ?_
      refine g_iconst (pc := 79) C 1 dX2_passLetter_79 (by decide) ?_
      refine gp_RX2_78 (pc := 80) C 0 (cs' := csC cI cS a (v42, v70, 0, 1, c.2.2.2.2.1, c.2.2.2.2.2)) rfl rfl rfl rfl dX2_passLetter_80 ?_
      refine g_iconst (pc := 83) C 0 dX2_passLetter_83 (by decide) ?_
      have e := Option.some.inj hf; subst e
      exact g_ri (pc := 84) C rfl (flC cI cS a (v42, v70, 0, 1, c.2.2.2.2.1, c.2.2.2.2.2)) dX2_passLetter_84
    · have hf := k_neg c18 hf
      refine g_iconst (pc := 21) C 2 dX2_passLetter_21 (by decide) ?_
      have e := Option.some.inj hf; subst e
      exact g_ri (pc := 22) C rfl (flC cI cS a c) dX2_passLetter_22
  · have hf := k_pos c4 hf
    refine g_iconst (pc := 7) C 1 dX2_passLetter_7 (by decide) ?_
    have e := Option.some.inj hf; subst e
    exact g_ri (pc := 8) C rfl (flC cI cS a c) dX2_passLetter_8
set_option maxHeartbeats 4000000 in
set_option maxRecDepth 100000 in
theorem c_X2_passOpening (l : Launch) (D : va_G) (cI cS : ClassId) (a : aC) (c : SC) (out : Int32 × SC) (hf : C_passOpening c = some out) : kM l D (kTy cI cS) yX2_passOpening ct_X2_passOpening rm_X2_passOpening [.ref a.1] [wC cI cS a c] (kEq (some (.int out.1)) [wC cI cS a out.2]) := by
  refine k_methodE cX2_passOpening 1 (some .int) RX2 rfl [(0, .ref a.1)] rfl (by decide +kernel) (Nat.le_of_ble_eq_true rfl) (fun κ A hla C => ?_)
  refine g_chunks (flC cI cS a c).symm ?_
  rw [C_passOpening] at hf
  refine g_aload_n (pc := 0) C 0 dX2_passOpening_0 rfl ?_
  refine gf_RX2_78 (pc := 1) C 0 rfl dX2_passOpening_1 ?_
  refine g_if_ne (pc := 4) C 9 dX2_passOpening_4 (by decide) (fun (c4 : ¬ c.2.2.2.1 = 0) => ?_) (fun (c4 : c.2.2.2.1 = 0) => ?_)
  · have hf := k_neg c4 hf
    refine g_aload_n (pc := 9) C 0 dX2_passOpening_9 rfl ?_
    refine gf_RX2_23 (pc := 10) C 0 rfl dX2_passOpening_10 ?_
    obtain ⟨v13, h13, hf⟩ := Option.bind_eq_some_iff.mp hf
    refine g_callV' (pc := 13) hla C (c_X1_size l D cI cS a.2.2 7 c.2.1 v13 h13) gg_RX2_39 hd_X1_size (by decide) rfl rfl rfl rfl (Nat.le_of_ble_eq_true rfl) dX2_passOpening_13 (seC_0open cI cS a c) (seC_0open cI cS a c).symm [.int v13] rfl ?_
    refine g_bipush (pc := 16) C 7 dX2_passOpening_16 (by decide) ?_
    refine g_icmp_lt (pc := 18) C 23 dX2_passOpening_18 (by decide) (fun (c18 : v13 < 7) => ?_) (fun (c18 : ¬ v13 < 7) => ?_)
    · have hf := k_pos c18 hf
      refine g_aload_n (pc := 23) C 0 dX2_passOpening_23 rfl ?_
      refine gf_RX2_23 (pc := 24) C 0 rfl dX2_passOpening_24 ?_
      refine g_iconst (pc := 27) C 0 dX2_passOpening_27 (by decide) ?_
      obtain ⟨v28, h28, hf⟩ := Option.bind_eq_some_iff.mp hf
      refine g_callV' (pc := 28) hla C (c_X1_add l D cI cS a.2.2 7 c.2.1 0 v28 h28) gg_RX2_81 hd_X1_add (by decide) rfl rfl rfl rfl (Nat.le_of_ble_eq_true rfl) dX2_passOpening_28 (seC_0open cI cS a c) (seC_0open cI cS a (c.1, v28, c.2.2.1, c.2.2.2.1, c.2.2.2.2.1, c.2.2.2.2.2)).symm [] rfl ?_
      refine g_aload_n (pc := 31) C 0 dX2_passOpening_31 rfl ?_
      refine g_iconst (pc := 32) C 1 dX2_passOpening_32 (by decide) ?_
      refine gp_RX2_31 (pc := 33) C 0 (cs' := csC cI cS a (c.1, v28, 1, c.2.2.2.1, c.2.2.2.2.1, c.2.2.2.2.2)) rfl rfl rfl rfl dX2_passOpening_33 ?_
      refine g_iconst (pc := 36) C 0 dX2_passOpening_36 (by decide) ?_
      have e := Option.some.inj hf; subst e
      exact g_ri (pc := 37) C rfl (flC cI cS a (c.1, v28, 1, c.2.2.2.1, c.2.2.2.2.1, c.2.2.2.2.2)) dX2_passOpening_37
    · have hf := k_neg c18 hf
      refine g_iconst (pc := 21) C 3 dX2_passOpening_21 (by decide) ?_
      have e := Option.some.inj hf; subst e
      exact g_ri (pc := 22) C rfl (flC cI cS a c) dX2_passOpening_22
  · have hf := k_pos c4 hf
    refine g_iconst (pc := 7) C 1 dX2_passOpening_7 (by decide) ?_
    have e := Option.some.inj hf; subst e
    exact g_ri (pc := 8) C rfl (flC cI cS a c) dX2_passOpening_8
set_option maxHeartbeats 4000000 in
set_option maxRecDepth 100000 in
theorem c_X2_passComma (l : Launch) (D : va_G) (cI cS : ClassId) (a : aC) (c : SC) (out : Int32 × SC) (hf : C_passComma c = some out) : kM l D (kTy cI cS) yX2_passComma ct_X2_passComma rm_X2_passComma [.ref a.1] [wC cI cS a c] (kEq (some (.int out.1)) [wC cI cS a out.2]) := by
  refine k_methodE cX2_passComma 1 (some .int) RX2 rfl [(0, .ref a.1)] rfl (by decide +kernel) (Nat.le_of_ble_eq_true rfl) (fun κ A hla C => ?_)
  refine g_chunks (flC cI cS a c).symm ?_
  rw [C_passComma] at hf
  refine g_aload_n (pc := 0) C 0 dX2_passComma_0 rfl ?_
  refine gf_RX2_23 (pc := 1) C 0 rfl dX2_passComma_1 ?_
  refine g_aload_n (pc := 4) C 0 dX2_passComma_4 rfl ?_
  refine gf_RX2_23 (pc := 5) C 0 rfl dX2_passComma_5 ?_
  obtain ⟨v8, h8, hf⟩ := Option.bind_eq_some_iff.mp hf
  refine g_callV' (pc := 8) hla C (c_X1_size l D cI cS a.2.2 7 c.2.1 v8 h8) gg_RX2_39 hd_X1_size (by decide) rfl rfl rfl rfl (Nat.le_of_ble_eq_true rfl) dX2_passComma_8 (seC_0open cI cS a c) (seC_0open cI cS a c).symm [.int v8, .ref a.2.2.1] rfl ?_
  refine g_iconst (pc := 11) C 1 dX2_passComma_11 (by decide) ?_
  refine g_isub (pc := 12) C dX2_passComma_12 ?_
  obtain ⟨v13, h13, hf⟩ := Option.bind_eq_some_iff.mp hf
  refine g_callV' (pc := 13) hla C (c_X1_at l D cI cS a.2.2 7 c.2.1 (v8 - 1) v13 h13) gg_RX2_46 hd_X1_at (by decide) rfl rfl rfl rfl (Nat.le_of_ble_eq_true rfl) dX2_passComma_13 (seC_0open cI cS a c) (seC_0open cI cS a c).symm [.int v13] rfl ?_
  refine g_bipush (pc := 16) C 6 dX2_passComma_16 (by decide) ?_
  refine g_icmp_lt (pc := 18) C 23 dX2_passComma_18 (by decide) (fun (c18 : v13 < 6) => ?_) (fun (c18 : ¬ v13 < 6) => ?_)
  · have hf := k_pos c18 hf
    refine g_aload_n (pc := 23) C 0 dX2_passComma_23 rfl ?_
    refine g_iconst (pc := 24) C 1 dX2_passComma_24 (by decide) ?_
    refine gp_RX2_31 (pc := 25) C 0 (cs' := csC cI cS a (c.1, c.2.1, 1, c.2.2.2.1, c.2.2.2.2.1, c.2.2.2.2.2)) rfl rfl rfl rfl dX2_passComma_25 ?_
    refine g_iconst (pc := 28) C 0 dX2_passComma_28 (by decide) ?_
    have e := Option.some.inj hf; subst e
    exact g_ri (pc := 29) C rfl (flC cI cS a (c.1, c.2.1, 1, c.2.2.2.1, c.2.2.2.2.1, c.2.2.2.2.2)) dX2_passComma_29
  · have hf := k_neg c18 hf
    refine g_iconst (pc := 21) C 4 dX2_passComma_21 (by decide) ?_
    have e := Option.some.inj hf; subst e
    exact g_ri (pc := 22) C rfl (flC cI cS a c) dX2_passComma_22
set_option maxHeartbeats 4000000 in
set_option maxRecDepth 100000 in
theorem c_X2_passClosing (l : Launch) (D : va_G) (cI cS : ClassId) (a : aC) (c : SC) (out : Int32 × SC) (hf : C_passClosing c = some out) : kM l D (kTy cI cS) yX2_passClosing ct_X2_passClosing rm_X2_passClosing [.ref a.1] [wC cI cS a c] (kEq (some (.int out.1)) [wC cI cS a out.2]) := by
  refine k_methodE cX2_passClosing 1 (some .int) RX2 rfl [(0, .ref a.1)] rfl (by decide +kernel) (Nat.le_of_ble_eq_true rfl) (fun κ A hla C => ?_)
  refine g_chunks (flC cI cS a c).symm ?_
  rw [C_passClosing] at hf
  refine g_aload_n (pc := 0) C 0 dX2_passClosing_0 rfl ?_
  refine gf_RX2_23 (pc := 1) C 0 rfl dX2_passClosing_1 ?_
  refine g_aload_n (pc := 4) C 0 dX2_passClosing_4 rfl ?_
  refine gf_RX2_23 (pc := 5) C 0 rfl dX2_passClosing_5 ?_
  obtain ⟨v8, h8, hf⟩ := Option.bind_eq_some_iff.mp hf
  refine g_callV' (pc := 8) hla C (c_X1_size l D cI cS a.2.2 7 c.2.1 v8 h8) gg_RX2_39 hd_X1_size (by decide) rfl rfl rfl rfl (Nat.le_of_ble_eq_true rfl) dX2_passClosing_8 (seC_0open cI cS a c) (seC_0open cI cS a c).symm [.int v8, .ref a.2.2.1] rfl ?_
  refine g_iconst (pc := 11) C 1 dX2_passClosing_11 (by decide) ?_
  refine g_isub (pc := 12) C dX2_passClosing_12 ?_
  refine g_aload_n (pc := 13) C 0 dX2_passClosing_13 rfl ?_
  refine gf_RX2_23 (pc := 14) C 0 rfl dX2_passClosing_14 ?_
  obtain ⟨v17, h17, hf⟩ := Option.bind_eq_some_iff.mp hf
  refine g_callV' (pc := 17) hla C (c_X1_size l D cI cS a.2.2 7 c.2.1 v17 h17) gg_RX2_39 hd_X1_size (by decide) rfl rfl rfl rfl (Nat.le_of_ble_eq_true rfl) dX2_passClosing_17 (seC_0open cI cS a c) (seC_0open cI cS a c).symm [.int v17, .int (v8 - 1), .ref a.2.2.1] rfl ?_
  obtain ⟨v20, h20, hf⟩ := Option.bind_eq_some_iff.mp hf
  refine g_callV' (pc := 20) hla C (c_X1_takeOut l D cI cS a.2.2 7 c.2.1 (v8 - 1) v17 v20 h20) gg_RX2_84 hd_X1_takeOut (by decide) rfl rfl rfl rfl (Nat.le_of_ble_eq_true rfl) dX2_passClosing_20 (seC_0open cI cS a c) (seC_0open cI cS a (c.1, v20, c.2.2.1, c.2.2.2.1, c.2.2.2.2.1, c.2.2.2.2.2)).symm [] rfl ?_
  refine g_aload_n (pc := 23) C 0 dX2_passClosing_23 rfl ?_
  refine g_iconst (pc := 24) C 0 dX2_passClosing_24 (by decide) ?_
  refine gp_RX2_78 (pc := 25) C 0 (cs' := csC cI cS a (c.1, v20, c.2.2.1, 0, c.2.2.2.2.1, c.2.2.2.2.2)) rfl rfl rfl rfl dX2_passClosing_25 ?_
  refine g_iconst (pc := 28) C 0 dX2_passClosing_28 (by decide) ?_
  have e := Option.some.inj hf; subst e
  exact g_ri (pc := 29) C rfl (flC cI cS a (c.1, v20, c.2.2.1, 0, c.2.2.2.2.1, c.2.2.2.2.2)) dX2_passClosing_29
set_option maxHeartbeats 4000000 in
set_option maxRecDepth 100000 in
theorem c_X2_reasonAgainst (l : Launch) (D : va_G) (cI cS : ClassId) (a : aC) (c : SC) (x1 : Int32) (out : Int32 × SC) (hf : C_reasonAgainst c x1 = some out) : kM l D (kTy cI cS) yX2_reasonAgainst ct_X2_reasonAgainst rm_X2_reasonAgainst [.ref a.1, .int x1] [wC cI cS a c] (kEq (some (.int out.1)) [wC cI cS a out.2]) := by
  refine k_methodE cX2_reasonAgainst 2 (some .int) RX2 rfl [(0, .ref a.1), (1, .int x1)] rfl (by decide +kernel) (Nat.le_of_ble_eq_true rfl) (fun κ A hla C => ?_)
  refine g_chunks (flC cI cS a c).symm ?_
  rw [C_reasonAgainst] at hf
  refine g_aload_n (pc := 0) C 0 dX2_reasonAgainst_0 rfl ?_
  refine gf_RX2_31 (pc := 1) C 0 rfl dX2_reasonAgainst_1 ?_
  refine g_if_eq (pc := 4) C 16 dX2_reasonAgainst_4 (by decide) (fun (c4 : c.2.2.1 = 0) => ?_) (fun (c4 : ¬ c.2.2.1 = 0) => ?_)
  · have hf := k_pos c4 hf
    refine g_iload_n (pc := 16) C 1 dX2_reasonAgainst_16 rfl ?_
    refine g_bipush (pc := 17) C 40 dX2_reasonAgainst_17 (by decide) ?_
    refine g_icmp_ne (pc := 19) C 27 dX2_reasonAgainst_19 (by decide) (fun (c19 : ¬ x1 = 40) => ?_) (fun (c19 : x1 = 40) => ?_)
    · have hf := k_neg c19 hf
      refine g_aload_n (pc := 27) C 0 dX2_reasonAgainst_27 rfl ?_
      refine gf_RX2_23 (pc := 28) C 0 rfl dX2_reasonAgainst_28 ?_
      obtain ⟨v31, h31, hf⟩ := Option.bind_eq_some_iff.mp hf
      refine g_callV' (pc := 31) hla C (c_X1_size l D cI cS a.2.2 7 c.2.1 v31 h31) gg_RX2_39 hd_X1_size (by decide) rfl rfl rfl rfl (Nat.le_of_ble_eq_true rfl) dX2_reasonAgainst_31 (seC_0open cI cS a c) (seC_0open cI cS a c).symm [.int v31] rfl ?_
      refine g_if_ne (pc := 34) C 39 dX2_reasonAgainst_34 (by decide) (fun (c34 : ¬ v31 = 0) => ?_) (fun (c34 : v31 = 0) => ?_)
      · have hf := k_neg c34 hf
        refine g_iload_n (pc := 39) C 1 dX2_reasonAgainst_39 rfl ?_
        refine g_bipush (pc := 40) C 44 dX2_reasonAgainst_40 (by decide) ?_
        refine g_icmp_ne (pc := 42) C 50 dX2_reasonAgainst_42 (by decide) (fun (c42 : ¬ x1 = 44) => ?_) (fun (c42 : x1 = 44) => ?_)
        · have hf := k_neg c42 hf
          refine g_iload_n (pc := 50) C 1 dX2_reasonAgainst_50 rfl ?_
          refine g_bipush (pc := 51) C 41 dX2_reasonAgainst_51 (by decide) ?_
          refine g_icmp_ne (pc := 53) C 61 dX2_reasonAgainst_53 (by decide) (fun (c53 : ¬ x1 = 41) => ?_) (fun (c53 : x1 = 41) => ?_)
          · have hf := k_neg c53 hf
            refine g_iconst (pc := 61) C 1 dX2_reasonAgainst_61 (by decide) ?_
            have e := Option.some.inj hf; subst e
            exact g_ri (pc := 62) C rfl (flC cI cS a c) dX2_reasonAgainst_62
          · have hf := k_pos c53 hf
            refine g_aload_n (pc := 56) C 0 dX2_reasonAgainst_56 rfl ?_
            obtain ⟨v57, h57, hf⟩ := Option.bind_eq_some_iff.mp hf
            refine g_callV' (pc := 57) hla C (c_X2_passClosing l D cI cS a c v57 h57) gg_RX2_62 hd_X2_passClosing (by decide) rfl rfl rfl rfl (Nat.le_of_ble_eq_true rfl) dX2_reasonAgainst_57 (seC_0 cI cS a c) (seC_0 cI cS a v57.2).symm [.int v57.1] rfl ?_
            have e := Option.some.inj hf; subst e
            exact g_ri (pc := 60) C rfl (flC cI cS a v57.2) dX2_reasonAgainst_60
        · have hf := k_pos c42 hf
          refine g_aload_n (pc := 45) C 0 dX2_reasonAgainst_45 rfl ?_
          obtain ⟨v46, h46, hf⟩ := Option.bind_eq_some_iff.mp hf
          refine g_callV' (pc := 46) hla C (c_X2_passComma l D cI cS a c v46 h46) gg_RX2_59 hd_X2_passComma (by decide) rfl rfl rfl rfl (Nat.le_of_ble_eq_true rfl) dX2_reasonAgainst_46 (seC_0 cI cS a c) (seC_0 cI cS a v46.2).symm [.int v46.1] rfl ?_
          have e := Option.some.inj hf; subst e
          exact g_ri (pc := 49) C rfl (flC cI cS a v46.2) dX2_reasonAgainst_49
      · have hf := k_pos c34 hf
        refine g_iconst (pc := 37) C 1 dX2_reasonAgainst_37 (by decide) ?_
        have e := Option.some.inj hf; subst e
        exact g_ri (pc := 38) C rfl (flC cI cS a c) dX2_reasonAgainst_38
    · have hf := k_pos c19 hf
      refine g_aload_n (pc := 22) C 0 dX2_reasonAgainst_22 rfl ?_
      obtain ⟨v23, h23, hf⟩ := Option.bind_eq_some_iff.mp hf
      refine g_callV' (pc := 23) hla C (c_X2_passOpening l D cI cS a c v23 h23) gg_RX2_56 hd_X2_passOpening (by decide) rfl rfl rfl rfl (Nat.le_of_ble_eq_true rfl) dX2_reasonAgainst_23 (seC_0 cI cS a c) (seC_0 cI cS a v23.2).symm [.int v23.1] rfl ?_
      have e := Option.some.inj hf; subst e
      exact g_ri (pc := 26) C rfl (flC cI cS a v23.2) dX2_reasonAgainst_26
  · have hf := k_neg c4 hf
    refine g_aload_n (pc := 7) C 0 dX2_reasonAgainst_7 rfl ?_
    refine g_iload_n (pc := 8) C 1 dX2_reasonAgainst_8 rfl ?_
    refine g_bipush (pc := 9) C 97 dX2_reasonAgainst_9 (by decide) ?_
    refine g_isub (pc := 11) C dX2_reasonAgainst_11 ?_
    obtain ⟨v12, h12, hf⟩ := Option.bind_eq_some_iff.mp hf
    refine g_callV' (pc := 12) hla C (c_X2_passLetter l D cI cS a c (x1 - 97) v12 h12) gg_RX2_53 hd_X2_passLetter (by decide) rfl rfl rfl rfl (Nat.le_of_ble_eq_true rfl) dX2_reasonAgainst_12 (seC_0 cI cS a c) (seC_0 cI cS a v12.2).symm [.int v12.1] rfl ?_
    have e := Option.some.inj hf; subst e
    exact g_ri (pc := 15) C rfl (flC cI cS a v12.2) dX2_reasonAgainst_15
set_option maxHeartbeats 4000000 in
set_option maxRecDepth 100000 in
theorem c_X2_passOver (l : Launch) (D : va_G) (cI cS : ClassId) (a : aC) (c : SC) (b : aR) (n' : Nat) (r' : RW) (out : SC) (hf : C_passOver c n' r' = some out) : kM l D (kTy cI cS) yX2_passOver ct_X2_passOver rm_X2_passOver [.ref a.1, .ref b.1] [wC cI cS a c, wR cI b n' r'] (kEq (none) [wC cI cS a out, wR cI b n' r']) := by
  refine k_methodE cX2_passOver 3 none RX2 rfl [(0, .ref a.1), (1, .ref b.1)] rfl (by decide +kernel) (Nat.le_of_ble_eq_true rfl) (fun κ A hla C => ?_)
  refine g_chunks (flCR cI cS a c b n' r').symm ?_
  have J89 : ∀ (c : SC) (n' : Nat) (r' : RW), C_passOver_J89 c n' r' = some out → kG κ D A 3 0 0 (kF κ D A (none) [wC cI cS a out, wR cI b n' r']) (csCR cI cS a c b n' r') [(0, .ref a.1), (1, .ref b.1)] 89 [] := by
    intro c n' r' hf; rw [C_passOver_J89] at hf
    refine g_aload_n (pc := 89) C 0 dX2_passOver_89 rfl ?_
    refine g_aload_n (pc := 90) C 1 dX2_passOver_90 rfl ?_
    obtain ⟨v91, h91, hf⟩ := Option.bind_eq_some_iff.mp hf
    refine g_callV' (pc := 91) hla C (c_X1_size l D cI cS b n' r' v91 h91) gg_RX2_39 hd_X1_size (by decide) rfl rfl rfl rfl (Nat.le_of_ble_eq_true rfl) dX2_passOver_91 (seCR_1 cI cS a c b n' r') (seCR_1 cI cS a c b n' r').symm [.int v91, .ref a.1] rfl ?_
    refine gp_RX2_43 (pc := 94) C 0 (cs' := csCR cI cS a (c.1, c.2.1, c.2.2.1, c.2.2.2.1, v91, c.2.2.2.2.2) b n' r') rfl rfl dX2_passOver_94 ?_
    refine g_aload_n (pc := 97) C 0 dX2_passOver_97 rfl ?_
    refine g_iconst (pc := 98) C 1 dX2_passOver_98 (by decide) ?_
    refine gp_RX2_35 (pc := 99) C 0 (cs' := csCR cI cS a (c.1, c.2.1, c.2.2.1, c.2.2.2.1, v91, 1) b n' r') rfl rfl dX2_passOver_99 ?_
    have e := Option.some.inj hf; subst e
    exact g_rv (pc := 102) C rfl (flCR cI cS a (c.1, c.2.1, c.2.2.1, c.2.2.2.1, v91, 1) b n' r') dX2_passOver_102
  have J65 : ∀ (c : SC) (n' : Nat) (r' : RW), C_passOver_J65 c n' r' = some out → kG κ D A 3 0 0 (kF κ D A (none) [wC cI cS a out, wR cI b n' r']) (csCR cI cS a c b n' r') [(0, .ref a.1), (1, .ref b.1)] 65 [] := by
    intro c n' r' hf; rw [C_passOver_J65] at hf
    refine g_aload_n (pc := 65) C 0 dX2_passOver_65 rfl ?_
    refine gf_RX2_35 (pc := 66) C 0 rfl dX2_passOver_66 ?_
    refine g_if_ne (pc := 69) C 102 dX2_passOver_69 (by decide) (fun (c69 : ¬ c.2.2.2.2.2 = 0) => ?_) (fun (c69 : c.2.2.2.2.2 = 0) => ?_)
    · have hf := k_neg c69 hf
      have e := Option.some.inj hf; subst e
      exact g_rv (pc := 102) C rfl (flCR cI cS a c b n' r') dX2_passOver_102
    · have hf := k_pos c69 hf
      refine g_aload_n (pc := 72) C 0 dX2_passOver_72 rfl ?_
      refine gf_RX2_31 (pc := 73) C 0 rfl dX2_passOver_73 ?_
      refine g_if_ne (pc := 76) C 89 dX2_passOver_76 (by decide) (fun (c76 : ¬ c.2.2.1 = 0) => ?_) (fun (c76 : c.2.2.1 = 0) => ?_)
      · have hf := k_neg c76 hf
        exact J89 c n' r' hf
      · have hf := k_pos c76 hf
        refine g_aload_n (pc := 79) C 0 dX2_passOver_79 rfl ?_
        refine gf_RX2_23 (pc := 80) C 0 rfl dX2_passOver_80 ?_
        obtain ⟨v83, h83, hf⟩ := Option.bind_eq_some_iff.mp hf
        refine g_callV' (pc := 83) hla C (c_X1_size l D cI cS a.2.2 7 c.2.1 v83 h83) gg_RX2_39 hd_X1_size (by decide) rfl rfl rfl rfl (Nat.le_of_ble_eq_true rfl) dX2_passOver_83 (seCR_0open cI cS a c b n' r') (seCR_0open cI cS a c b n' r').symm [.int v83] rfl ?_
        refine g_if_le (pc := 86) C 102 dX2_passOver_86 (by decide) (fun (c86 : v83 ≤ 0) => ?_) (fun (c86 : ¬ v83 ≤ 0) => ?_)
        · have hf := k_pos c86 hf
          have e := Option.some.inj hf; subst e
          exact g_rv (pc := 102) C rfl (flCR cI cS a c b n' r') dX2_passOver_102
        · have hf := k_neg c86 hf
          exact J89 c n' r' hf
  have L26 : ∀ (fu : Nat) (c : SC) (n' : Nat) (r' : RW) (x2 : Int32), C_passOver_L26 fu c n' r' x2 = some out → kG κ D A 3 0 0 (kF κ D A (none) [wC cI cS a out, wR cI b n' r']) (csCR cI cS a c b n' r') [(0, .ref a.1), (1, .ref b.1), (2, .int x2)] 26 [] := by
    intro fu; induction fu with
    | zero => intro c n' r' x2 hf; rw [C_passOver_L26] at hf; cases hf
    | succ fu ih =>
      intro c n' r' x2 hf; rw [C_passOver_L26] at hf
      refine g_iload_n (pc := 26) C 2 dX2_passOver_26 rfl ?_
      refine g_aload_n (pc := 27) C 1 dX2_passOver_27 rfl ?_
      obtain ⟨v28, h28, hf⟩ := Option.bind_eq_some_iff.mp hf
      refine g_callV' (pc := 28) hla C (c_X1_size l D cI cS b n' r' v28 h28) gg_RX2_39 hd_X1_size (by decide) rfl rfl rfl rfl (Nat.le_of_ble_eq_true rfl) dX2_passOver_28 (seCR_1 cI cS a c b n' r') (seCR_1 cI cS a c b n' r').symm [.int v28, .int x2] rfl ?_
      refine g_icmp_ge (pc := 31) C 65 dX2_passOver_31 (by decide) (fun (c31 : v28 ≤ x2) => ?_) (fun (c31 : ¬ v28 ≤ x2) => ?_)
      · have hf := k_pos c31 hf
        refine g_sub [0, 1] (lv' := [(0, .ref a.1), (1, .ref b.1)]) rfl ?_
        exact J65 c n' r' hf
      · have hf := k_neg c31 hf
        refine g_aload_n (pc := 34) C 0 dX2_passOver_34 rfl ?_
        refine gf_RX2_35 (pc := 35) C 0 rfl dX2_passOver_35 ?_
        refine g_if_ne (pc := 38) C 65 dX2_passOver_38 (by decide) (fun (c38 : ¬ c.2.2.2.2.2 = 0) => ?_) (fun (c38 : c.2.2.2.2.2 = 0) => ?_)
        · have hf := k_neg c38 hf
          refine g_sub [0, 1] (lv' := [(0, .ref a.1), (1, .ref b.1)]) rfl ?_
          exact J65 c n' r' hf
        · have hf := k_pos c38 hf
          refine g_aload_n (pc := 41) C 0 dX2_passOver_41 rfl ?_
          refine g_iload_n (pc := 42) C 2 dX2_passOver_42 rfl ?_
          refine gp_RX2_43 (pc := 43) C 0 (cs' := csCR cI cS a (c.1, c.2.1, c.2.2.1, c.2.2.2.1, x2, c.2.2.2.2.2) b n' r') rfl rfl dX2_passOver_43 ?_
          refine g_aload_n (pc := 46) C 0 dX2_passOver_46 rfl ?_
          refine g_aload_n (pc := 47) C 0 dX2_passOver_47 rfl ?_
          refine g_aload_n (pc := 48) C 1 dX2_passOver_48 rfl ?_
          refine g_iload_n (pc := 49) C 2 dX2_passOver_49 rfl ?_
          obtain ⟨v50, h50, hf⟩ := Option.bind_eq_some_iff.mp hf
          refine g_callV' (pc := 50) hla C (c_X1_at l D cI cS b n' r' x2 v50 h50) gg_RX2_46 hd_X1_at (by decide) rfl rfl rfl rfl (Nat.le_of_ble_eq_true rfl) dX2_passOver_50 (seCR_1 cI cS a (c.1, c.2.1, c.2.2.1, c.2.2.2.1, x2, c.2.2.2.2.2) b n' r') (seCR_1 cI cS a (c.1, c.2.1, c.2.2.1, c.2.2.2.1, x2, c.2.2.2.2.2) b n' r').symm [.int v50, .ref a.1, .ref a.1] rfl ?_
          obtain ⟨v53, h53, hf⟩ := Option.bind_eq_some_iff.mp hf
          refine g_callV' (pc := 53) hla C (c_X2_reasonAgainst l D cI cS a (c.1, c.2.1, c.2.2.1, c.2.2.2.1, x2, c.2.2.2.2.2) v50 v53 h53) gg_RX2_50 hd_X2_reasonAgainst (by decide) rfl rfl rfl rfl (Nat.le_of_ble_eq_true rfl) dX2_passOver_53 (seCR_0 cI cS a (c.1, c.2.1, c.2.2.1, c.2.2.2.1, x2, c.2.2.2.2.2) b n' r') (seCR_0 cI cS a v53.2 b n' r').symm [.int v53.1, .ref a.1] rfl ?_
          refine gp_RX2_35 (pc := 56) C 0 (cs' := csCR cI cS a (v53.2.1, v53.2.2.1, v53.2.2.2.1, v53.2.2.2.2.1, v53.2.2.2.2.2.1, v53.1) b n' r') rfl rfl dX2_passOver_56 ?_
          refine g_iinc (pc := 59) C 2 (x2 + 1) [(2, .int (x2 + 1)), (0, .ref a.1), (1, .ref b.1)] dX2_passOver_59 rfl (congrArg (HAdd.hAdd _) (by decide)) (by decide) rfl ?_
          refine g_goto (pc := 62) C 26 dX2_passOver_62 (by decide) ?_
          refine g_sub [1, 2, 0] (lv' := [(0, .ref a.1), (1, .ref b.1), (2, .int (x2 + 1))]) rfl ?_
          exact ih (v53.2.1, v53.2.2.1, v53.2.2.2.1, v53.2.2.2.2.1, v53.2.2.2.2.2.1, v53.1) n' r' (x2 + 1) hf
  rw [C_passOver] at hf
  refine g_aload_n (pc := 0) C 0 dX2_passOver_0 rfl ?_
  refine gf_RX2_12 (pc := 1) C 0 rfl dX2_passOver_1 ?_
  obtain ⟨v4, h4, hf⟩ := Option.bind_eq_some_iff.mp hf
  refine g_callV' (pc := 4) hla C (c_X4_clear l D cI cS a.2.1 c.1 v4 h4) gg_RX2_27 hd_X4_clear (by decide) rfl rfl rfl rfl (Nat.le_of_ble_eq_true rfl) dX2_passOver_4 (seCR_0tree cI cS a c b n' r') (seCR_0tree cI cS a (v4, c.2.1, c.2.2.1, c.2.2.2.1, c.2.2.2.2.1, c.2.2.2.2.2) b n' r').symm [] rfl ?_
  refine g_aload_n (pc := 7) C 0 dX2_passOver_7 rfl ?_
  refine gf_RX2_23 (pc := 8) C 0 rfl dX2_passOver_8 ?_
  obtain ⟨v11, h11, hf⟩ := Option.bind_eq_some_iff.mp hf
  refine g_callV' (pc := 11) hla C (c_X1_clear l D cI cS a.2.2 7 c.2.1 v11 h11) gg_RX2_30 hd_X1_clear (by decide) rfl rfl rfl rfl (Nat.le_of_ble_eq_true rfl) dX2_passOver_11 (seCR_0open cI cS a (v4, c.2.1, c.2.2.1, c.2.2.2.1, c.2.2.2.2.1, c.2.2.2.2.2) b n' r') (seCR_0open cI cS a (v4, v11, c.2.2.1, c.2.2.2.1, c.2.2.2.2.1, c.2.2.2.2.2) b n' r').symm [] rfl ?_
  refine g_aload_n (pc := 14) C 0 dX2_passOver_14 rfl ?_
  refine g_iconst (pc := 15) C 1 dX2_passOver_15 (by decide) ?_
  refine gp_RX2_31 (pc := 16) C 0 (cs' := csCR cI cS a (v4, v11, 1, c.2.2.2.1, c.2.2.2.2.1, c.2.2.2.2.2) b n' r') rfl rfl rfl rfl dX2_passOver_16 ?_
  refine g_aload_n (pc := 19) C 0 dX2_passOver_19 rfl ?_
  refine g_iconst (pc := 20) C 0 dX2_passOver_20 (by decide) ?_
  refine gp_RX2_35 (pc := 21) C 0 (cs' := csCR cI cS a (v4, v11, 1, c.2.2.2.1, c.2.2.2.2.1, 0) b n' r') rfl rfl dX2_passOver_21 ?_
  refine g_iconst (pc := 24) C 0 dX2_passOver_24 (by decide) ?_
  refine g_istore_n (pc := 25) C [(2, .int 0), (0, .ref a.1), (1, .ref b.1)] dX2_passOver_25 (by decide) rfl ?_
  refine g_sub [1, 2, 0] (lv' := [(0, .ref a.1), (1, .ref b.1), (2, .int 0)]) rfl ?_
  exact L26 1000 (v4, v11, 1, c.2.2.2.1, c.2.2.2.2.1, 0) n' r' 0 hf
