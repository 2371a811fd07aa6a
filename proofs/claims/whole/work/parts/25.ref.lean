set_option maxHeartbeats 4000000 in
set_option maxRecDepth 100000 in
theorem c_X6_wrap (l : Launch) (D : va_G) (cI cS : ClassId) (a : aM) (m : MD) (x1 : Int32) (out : Int32 × MD) (hf : M_wrap m x1 = some out) : kM l D (kTy cI cS) yX6_wrap ct_X6_wrap rm_X6_wrap [.ref a.1, .int x1] [wM cI cS a m] (kEq (some (.int out.1)) [wM cI cS a out.2]) := by
  refine k_methodE cX6_wrap 4 (some .int) RX6 rfl [(0, .ref a.1), (1, .int x1)] rfl (by decide +kernel) (Nat.le_of_ble_eq_true rfl) (fun κ A hla C => ?_)
  refine g_chunks (flM cI cS a m).symm ?_
  rw [M_wrap] at hf
  refine g_aload_n (pc := 0) C 0 dX6_wrap_0 rfl ?_
  obtain ⟨v1, h1, hf⟩ := Option.bind_eq_some_iff.mp hf
  refine g_callV' (pc := 1) hla C (c_X6_begins l D cI cS a m v1 h1) gg_RX6_55 hd_X6_begins (by decide) rfl rfl rfl rfl (Nat.le_of_ble_eq_true rfl) dX6_wrap_1 (seM_0 cI cS a m) (seM_0 cI cS a v1).symm [] rfl ?_
  refine g_iload_n (pc := 4) C 1 dX6_wrap_4 rfl ?_
  refine g_iconst (pc := 5) C 0 dX6_wrap_5 (by decide) ?_
  refine g_bipush (pc := 6) C 25 dX6_wrap_6 (by decide) ?_
  obtain ⟨v8, h8, hf⟩ := Option.bind_eq_some_iff.mp hf
  refine g_callS' (pc := 8) hla C (c_X6_in l D cI cS x1 0 25 v8 h8) tb_X6_in m_744 m_X6_in_static m_ini_RX6 hd_X6_in (by decide) rfl rfl (Nat.le_of_ble_eq_true rfl) dX6_wrap_8 (seM_nil cI cS a v1) (seM_nil cI cS a v1).symm [.int v8] rfl ?_
  refine g_if_ne (pc := 11) C 16 dX6_wrap_11 (by decide) (fun (c11 : ¬ v8 = 0) => ?_) (fun (c11 : v8 = 0) => ?_)
  · have hf := k_neg c11 hf
    refine g_aload_n (pc := 16) C 0 dX6_wrap_16 rfl ?_
    obtain ⟨v17, h17, hf⟩ := Option.bind_eq_some_iff.mp hf
    refine g_callV' (pc := 17) hla C (c_X6_place l D cI cS a v1 v17 h17) gg_RX6_58 hd_X6_place (by decide) rfl rfl rfl rfl (Nat.le_of_ble_eq_true rfl) dX6_wrap_17 (seM_0 cI cS a v1) (seM_0 cI cS a v1).symm [.int v17] rfl ?_
    refine g_istore_n (pc := 20) C [(2, .int v17), (0, .ref a.1), (1, .int x1)] dX6_wrap_20 (by decide) rfl ?_
    refine g_aload_n (pc := 21) C 1 dX6_wrap_21 rfl ?_
    refine g_iload_n (pc := 22) C 0 dX6_wrap_22 rfl ?_
    obtain ⟨v23, h23, hf⟩ := Option.bind_eq_some_iff.mp hf
    refine g_callV' (pc := 23) hla C (c_X6_deep l D cI cS a v1 v17 v23 h23) gg_RX6_46 hd_X6_deep (by decide) rfl rfl rfl rfl (Nat.le_of_ble_eq_true rfl) dX6_wrap_23 (seM_0 cI cS a v1) (seM_0 cI cS a v1).symm [.int v23] rfl ?_
    refine g_istore_n (pc := 26) C [(3, .int v23), (2, .int v17), (0, .ref a.1), (1, .int x1)] dX6_wrap_26 (by decide) rfl ?_
    refine g_aload_n (pc := 27) C 2 dX6_wrap_27 rfl ?_
    refine gf_RX6_7 (pc := 28) C 0 rfl dX6_wrap_28 ?_
    refine g_iconst (pc := 31) C 0 dX6_wrap_31 (by decide) ?_
    refine g_iald (pc := 32) C 1 0 rfl rfl (by decide) dX6_wrap_32 ?_
    refine g_bipush (pc := 33) C 40 dX6_wrap_33 (by decide) ?_
    refine g_icmp_eq (pc := 35) C 50 dX6_wrap_35 (by decide) (fun (c35 : (v1.1 (ix 0)) = 40) => ?_) (fun (c35 : ¬ (v1.1 (ix 0)) = 40) => ?_)
    · have hf := k_pos c35 hf
      refine g_bipush (pc := 50) C (-3) dX6_wrap_50 (by decide) ?_
      have e := Option.some.inj hf; subst e
      exact g_ri (pc := 52) C rfl (flM cI cS a v1) dX6_wrap_52
    · have hf := k_neg c35 hf
      refine g_iload_n (pc := 38) C 0 dX6_wrap_38 rfl ?_
      refine g_aload_n (pc := 39) C 2 dX6_wrap_39 rfl ?_
      refine g_iload_n (pc := 40) C 1 dX6_wrap_40 rfl ?_
      obtain ⟨v41, h41, hf⟩ := Option.bind_eq_some_iff.mp hf
      refine g_callV' (pc := 41) hla C (c_X6_height l D cI cS a v1 v17 v41 h41) gg_RX6_106 hd_X6_height (by decide) rfl rfl rfl rfl (Nat.le_of_ble_eq_true rfl) dX6_wrap_41 (seM_0 cI cS a v1) (seM_0 cI cS a v1).symm [.int v41, .int v23] rfl ?_
      refine g_iadd (pc := 44) C dX6_wrap_44 ?_
      refine g_bipush (pc := 45) C 7 dX6_wrap_45 (by decide) ?_
      refine g_icmp_ne (pc := 47) C 53 dX6_wrap_47 (by decide) (fun (c47 : ¬ (v23 + v41) = 7) => ?_) (fun (c47 : (v23 + v41) = 7) => ?_)
      · have hf := k_neg c47 hf
        refine g_aload_n (pc := 53) C 2 dX6_wrap_53 rfl ?_
        refine g_iload_n (pc := 54) C 1 dX6_wrap_54 rfl ?_
        refine g_aload_n (pc := 55) C 2 dX6_wrap_55 rfl ?_
        refine g_iload_n (pc := 56) C 1 dX6_wrap_56 rfl ?_
        obtain ⟨v57, h57, hf⟩ := Option.bind_eq_some_iff.mp hf
        refine g_callV' (pc := 57) hla C (c_X6_end l D cI cS a v1 v17 v57 h57) gg_RX6_49 hd_X6_end (by decide) rfl rfl rfl rfl (Nat.le_of_ble_eq_true rfl) dX6_wrap_57 (seM_0 cI cS a v1) (seM_0 cI cS a v1).symm [.int v57, .int v17, .ref a.1] rfl ?_
        refine g_iconst (pc := 60) C 1 dX6_wrap_60 (by decide) ?_
        obtain ⟨v61, h61, hf⟩ := Option.bind_eq_some_iff.mp hf
        refine g_callV' (pc := 61) hla C (c_X6_sinks l D cI cS a v1 v17 v57 1 v61 h61) gg_RX6_109 hd_X6_sinks (by decide) rfl rfl rfl rfl (Nat.le_of_ble_eq_true rfl) dX6_wrap_61 (seM_0 cI cS a v1) (seM_0 cI cS a v61).symm [] rfl ?_
        refine g_aload_n (pc := 64) C 2 dX6_wrap_64 rfl ?_
        refine g_iload_n (pc := 65) C 1 dX6_wrap_65 rfl ?_
        refine g_iconst (pc := 66) C 1 dX6_wrap_66 (by decide) ?_
        obtain ⟨v67, h67, hf⟩ := Option.bind_eq_some_iff.mp hf
        refine g_callV' (pc := 67) hla C (c_X6_opens l D cI cS a v61 v17 1 v67 h67) gg_RX6_86 hd_X6_opens (by decide) rfl rfl rfl rfl (Nat.le_of_ble_eq_true rfl) dX6_wrap_67 (seM_0 cI cS a v61) (seM_0 cI cS a v67).symm [] rfl ?_
        refine g_aload_n (pc := 70) C 2 dX6_wrap_70 rfl ?_
        refine g_iload_n (pc := 71) C 1 dX6_wrap_71 rfl ?_
        refine g_iload_n (pc := 72) C 3 dX6_wrap_72 rfl ?_
        refine g_iload_n (pc := 73) C 0 dX6_wrap_73 rfl ?_
        obtain ⟨v74, h74, hf⟩ := Option.bind_eq_some_iff.mp hf
        refine g_callV' (pc := 74) hla C (c_X6_lays l D cI cS a v67 v17 x1 v23 v74 h74) gg_RX6_90 hd_X6_lays (by decide) rfl rfl rfl rfl (Nat.le_of_ble_eq_true rfl) dX6_wrap_74 (seM_0 cI cS a v67) (seM_0 cI cS a v74).symm [] rfl ?_
        refine g_aload_n (pc := 77) C 2 dX6_wrap_77 rfl ?_
        refine gf_RX6_7 (pc := 78) C 0 rfl dX6_wrap_78 ?_
        refine g_iconst (pc := 81) C 2 dX6_wrap_81 (by decide) ?_
        refine g_aload_n (pc := 82) C 2 dX6_wrap_82 rfl ?_
        refine g_iload_n (pc := 83) C 1 dX6_wrap_83 rfl ?_
        obtain ⟨v84, h84, hf⟩ := Option.bind_eq_some_iff.mp hf
        refine g_callV' (pc := 84) hla C (c_X6_own l D cI cS a v74 v17 v84 h84) gg_RX6_39 hd_X6_own (by decide) rfl rfl rfl rfl (Nat.le_of_ble_eq_true rfl) dX6_wrap_84 (seM_0 cI cS a v74) (seM_0 cI cS a v74).symm [.int v84, .int 2, .ref a.2.1] rfl ?_
        obtain ⟨u87, e87, hf⟩ := Option.bind_eq_some_iff.mp hf
        refine g_iastU (pc := 87) C 1 0 u87 (Option.some.inj e87) (csM cI cS a (u87, v74.2.1, v74.2.2.1, v74.2.2.2.1, v74.2.2.2.2.1, v74.2.2.2.2.2.1, v74.2.2.2.2.2.2.1, v74.2.2.2.2.2.2.2.1, v74.2.2.2.2.2.2.2.2.1, v74.2.2.2.2.2.2.2.2.2.1, v74.2.2.2.2.2.2.2.2.2.2.1, v74.2.2.2.2.2.2.2.2.2.2.2)) rfl rfl (by decide) rfl dX6_wrap_87 ?_
        refine g_aload_n (pc := 88) C 2 dX6_wrap_88 rfl ?_
        refine g_aload_n (pc := 89) C 2 dX6_wrap_89 rfl ?_
        refine gf_RX6_7 (pc := 90) C 0 rfl dX6_wrap_90 ?_
        refine g_iconst (pc := 93) C 0 dX6_wrap_93 (by decide) ?_
        refine g_iald (pc := 94) C 1 0 rfl rfl (by decide) dX6_wrap_94 ?_
        obtain ⟨v95, h95, hf⟩ := Option.bind_eq_some_iff.mp hf
        refine g_callV' (pc := 95) hla C (c_X6_acted l D cI cS a (u87, v74.2.1, v74.2.2.1, v74.2.2.2.1, v74.2.2.2.2.1, v74.2.2.2.2.2.1, v74.2.2.2.2.2.2.1, v74.2.2.2.2.2.2.2.1, v74.2.2.2.2.2.2.2.2.1, v74.2.2.2.2.2.2.2.2.2.1, v74.2.2.2.2.2.2.2.2.2.2.1, v74.2.2.2.2.2.2.2.2.2.2.2) (u87 (ix 0)) v95 h95) gg_RX6_72 hd_X6_acted (by decide) rfl rfl rfl rfl (Nat.le_of_ble_eq_true rfl) dX6_wrap_95 (seM_0 cI cS a (u87, v74.2.1, v74.2.2.1, v74.2.2.2.1, v74.2.2.2.2.1, v74.2.2.2.2.2.1, v74.2.2.2.2.2.2.1, v74.2.2.2.2.2.2.2.1, v74.2.2.2.2.2.2.2.2.1, v74.2.2.2.2.2.2.2.2.2.1, v74.2.2.2.2.2.2.2.2.2.2.1, v74.2.2.2.2.2.2.2.2.2.2.2)) (seM_0 cI cS a v95.2).symm [.int v95.1] rfl ?_
        have e := Option.some.inj hf; subst e
        exact g_ri (pc := 98) C rfl (flM cI cS a v95.2) dX6_wrap_98
      · have hf := k_pos c47 hf
        refine g_bipush (pc := 50) C (-3) dX6_wrap_50 (by decide) ?_
        have e := Option.some.inj hf; subst e
        exact g_ri (pc := 52) C rfl (flM cI cS a v1) dX6_wrap_52
  · have hf := k_pos c11 hf
    refine g_iconst (pc := 14) C (-1) dX6_wrap_14 (by decide) ?_
    have e := Option.some.inj hf; subst e
    exact g_ri (pc := 15) C rfl (flM cI cS a v1) dX6_wrap_15
set_option maxHeartbeats 4000000 in
set_option maxRecDepth 100000 in
theorem c_X6_lift (l : Launch) (D : va_G) (cI cS : ClassId) (a : aM) (m : MD) (out : Int32 × MD) (hf : M_lift m = some out) : kM l D (kTy cI cS) yX6_lift ct_X6_lift rm_X6_lift [.ref a.1] [wM cI cS a m] (kEq (some (.int out.1)) [wM cI cS a out.2]) := by
  refine k_methodE cX6_lift 5 (some .int) RX6 rfl [(0, .ref a.1)] rfl (by decide +kernel) (Nat.le_of_ble_eq_true rfl) (fun κ A hla C => ?_)
  refine g_chunks (flM cI cS a m).symm ?_
  have J99 : ∀ (m : MD) (x2 : Int32), M_lift_J99 m x2 = some out → kG κ D A 5 0 0 (kF κ D A (some (.int out.1)) [wM cI cS a out.2]) (csM cI cS a m) [(0, .ref a.1), (2, .int x2)] 99 [] := by
    intro m x2 hf; rw [M_lift_J99] at hf
    refine g_aload_n (pc := 99) C 0 dX6_lift_99 rfl ?_
    obtain ⟨v100, h100, hf⟩ := Option.bind_eq_some_iff.mp hf
    refine g_callV' (pc := 100) hla C (c_X6_forgets l D cI cS a m v100 h100) gg_RX6_100 hd_X6_forgets (by decide) rfl rfl rfl rfl (Nat.le_of_ble_eq_true rfl) dX6_lift_100 (seM_0 cI cS a m) (seM_0 cI cS a v100).symm [] rfl ?_
    refine g_aload_n (pc := 103) C 0 dX6_lift_103 rfl ?_
    refine g_iload_n (pc := 104) C 1 dX6_lift_104 rfl ?_
    obtain ⟨v105, h105, hf⟩ := Option.bind_eq_some_iff.mp hf
    refine g_callV' (pc := 105) hla C (c_X6_acted l D cI cS a v100 x2 v105 h105) gg_RX6_72 hd_X6_acted (by decide) rfl rfl rfl rfl (Nat.le_of_ble_eq_true rfl) dX6_lift_105 (seM_0 cI cS a v100) (seM_0 cI cS a v105.2).symm [.int v105.1] rfl ?_
    have e := Option.some.inj hf; subst e
    exact g_ri (pc := 108) C rfl (flM cI cS a v105.2) dX6_lift_108
  have J54 : ∀ (m : MD) (x1 : Int32) (x2 : Int32), M_lift_J54 m x1 x2 = some out → kG κ D A 5 0 0 (kF κ D A (some (.int out.1)) [wM cI cS a out.2]) (csM cI cS a m) [(0, .ref a.1), (1, .int x1), (2, .int x2)] 54 [] := by
    intro m x1 x2 hf; rw [M_lift_J54] at hf
    refine g_iload_n (pc := 54) C 2 dX6_lift_54 rfl ?_
    refine g_if_ne (pc := 55) C 67 dX6_lift_55 (by decide) (fun (c55 : ¬ x2 = 0) => ?_) (fun (c55 : x2 = 0) => ?_)
    · have hf := k_neg c55 hf
      refine g_aload_n (pc := 67) C 0 dX6_lift_67 rfl ?_
      refine gf_RX6_7 (pc := 68) C 0 rfl dX6_lift_68 ?_
      refine g_iconst (pc := 71) C 2 dX6_lift_71 (by decide) ?_
      refine g_aload_n (pc := 72) C 0 dX6_lift_72 rfl ?_
      refine g_iload_n (pc := 73) C 1 dX6_lift_73 rfl ?_
      refine g_iconst (pc := 74) C 1 dX6_lift_74 (by decide) ?_
      refine g_iadd (pc := 75) C dX6_lift_75 ?_
      obtain ⟨v76, h76, hf⟩ := Option.bind_eq_some_iff.mp hf
      refine g_callV' (pc := 76) hla C (c_X6_own l D cI cS a m (x1 + 1) v76 h76) gg_RX6_39 hd_X6_own (by decide) rfl rfl rfl rfl (Nat.le_of_ble_eq_true rfl) dX6_lift_76 (seM_0 cI cS a m) (seM_0 cI cS a m).symm [.int v76, .int 2, .ref a.2.1] rfl ?_
      obtain ⟨u79, e79, hf⟩ := Option.bind_eq_some_iff.mp hf
      refine g_iastU (pc := 79) C 1 0 u79 (Option.some.inj e79) (csM cI cS a (u79, m.2.1, m.2.2.1, m.2.2.2.1, m.2.2.2.2.1, m.2.2.2.2.2.1, m.2.2.2.2.2.2.1, m.2.2.2.2.2.2.2.1, m.2.2.2.2.2.2.2.2.1, m.2.2.2.2.2.2.2.2.2.1, m.2.2.2.2.2.2.2.2.2.2.1, m.2.2.2.2.2.2.2.2.2.2.2)) rfl rfl (by decide) rfl dX6_lift_79 ?_
      refine g_aload_n (pc := 80) C 0 dX6_lift_80 rfl ?_
      refine g_iload_n (pc := 81) C 1 dX6_lift_81 rfl ?_
      refine g_iconst (pc := 82) C 1 dX6_lift_82 (by decide) ?_
      refine g_iadd (pc := 83) C dX6_lift_83 ?_
      refine g_aload_n (pc := 84) C 0 dX6_lift_84 rfl ?_
      refine g_iload_n (pc := 85) C 1 dX6_lift_85 rfl ?_
      obtain ⟨v86, h86, hf⟩ := Option.bind_eq_some_iff.mp hf
      refine g_callV' (pc := 86) hla C (c_X6_end l D cI cS a (u79, m.2.1, m.2.2.1, m.2.2.2.1, m.2.2.2.2.1, m.2.2.2.2.2.1, m.2.2.2.2.2.2.1, m.2.2.2.2.2.2.2.1, m.2.2.2.2.2.2.2.2.1, m.2.2.2.2.2.2.2.2.2.1, m.2.2.2.2.2.2.2.2.2.2.1, m.2.2.2.2.2.2.2.2.2.2.2) x1 v86 h86) gg_RX6_49 hd_X6_end (by decide) rfl rfl rfl rfl (Nat.le_of_ble_eq_true rfl) dX6_lift_86 (seM_0 cI cS a (u79, m.2.1, m.2.2.1, m.2.2.2.1, m.2.2.2.2.1, m.2.2.2.2.2.1, m.2.2.2.2.2.2.1, m.2.2.2.2.2.2.2.1, m.2.2.2.2.2.2.2.2.1, m.2.2.2.2.2.2.2.2.2.1, m.2.2.2.2.2.2.2.2.2.2.1, m.2.2.2.2.2.2.2.2.2.2.2)) (seM_0 cI cS a (u79, m.2.1, m.2.2.1, m.2.2.2.1, m.2.2.2.2.1, m.2.2.2.2.2.1, m.2.2.2.2.2.2.1, m.2.2.2.2.2.2.2.1, m.2.2.2.2.2.2.2.2.1, m.2.2.2.2.2.2.2.2.2.1, m.2.2.2.2.2.2.2.2.2.2.1, m.2.2.2.2.2.2.2.2.2.2.2)).symm [.int v86, .int (x1 + 1), .ref a.1] rfl ?_
      refine g_iconst (pc := 89) C (-1) dX6_lift_89 (by decide) ?_
      obtain ⟨v90, h90, hf⟩ := Option.bind_eq_some_iff.mp hf
      refine g_callV' (pc := 90) hla C (c_X6_sinks l D cI cS a (u79, m.2.1, m.2.2.1, m.2.2.2.1, m.2.2.2.2.1, m.2.2.2.2.2.1, m.2.2.2.2.2.2.1, m.2.2.2.2.2.2.2.1, m.2.2.2.2.2.2.2.2.1, m.2.2.2.2.2.2.2.2.2.1, m.2.2.2.2.2.2.2.2.2.2.1, m.2.2.2.2.2.2.2.2.2.2.2) (x1 + 1) v86 (-1) v90 h90) gg_RX6_109 hd_X6_sinks (by decide) rfl rfl rfl rfl (Nat.le_of_ble_eq_true rfl) dX6_lift_90 (seM_0 cI cS a (u79, m.2.1, m.2.2.1, m.2.2.2.1, m.2.2.2.2.1, m.2.2.2.2.2.1, m.2.2.2.2.2.2.1, m.2.2.2.2.2.2.2.1, m.2.2.2.2.2.2.2.2.1, m.2.2.2.2.2.2.2.2.2.1, m.2.2.2.2.2.2.2.2.2.2.1, m.2.2.2.2.2.2.2.2.2.2.2)) (seM_0 cI cS a v90).symm [] rfl ?_
      refine g_aload_n (pc := 93) C 0 dX6_lift_93 rfl ?_
      refine g_iload_n (pc := 94) C 1 dX6_lift_94 rfl ?_
      refine g_iconst (pc := 95) C 1 dX6_lift_95 (by decide) ?_
      obtain ⟨v96, h96, hf⟩ := Option.bind_eq_some_iff.mp hf
      refine g_callV' (pc := 96) hla C (c_X6_closes l D cI cS a v90 x1 1 v96 h96) gg_RX6_94 hd_X6_closes (by decide) rfl rfl rfl rfl (Nat.le_of_ble_eq_true rfl) dX6_lift_96 (seM_0 cI cS a v90) (seM_0 cI cS a v96).symm [] rfl ?_
      refine g_sub [0, 2] (lv' := [(0, .ref a.1), (2, .int x2)]) rfl ?_
      exact J99 v96 x2 hf
    · have hf := k_pos c55 hf
      refine g_aload_n (pc := 58) C 0 dX6_lift_58 rfl ?_
      obtain ⟨v59, h59, hf⟩ := Option.bind_eq_some_iff.mp hf
      refine g_callV' (pc := 59) hla C (c_X6_goes l D cI cS a m v59 h59) gg_RX6_97 hd_X6_goes (by decide) rfl rfl rfl rfl (Nat.le_of_ble_eq_true rfl) dX6_lift_59 (seM_0 cI cS a m) (seM_0 cI cS a v59.2).symm [.int v59.1] rfl ?_
      refine g_istore (pc := 62) C [(4, .int v59.1), (0, .ref a.1), (1, .int x1), (2, .int x2)] dX6_lift_62 (by decide) rfl ?_
      refine g_goto (pc := 64) C 99 dX6_lift_64 (by decide) ?_
      refine g_sub [1, 3] (lv' := [(0, .ref a.1), (2, .int x2)]) rfl ?_
      exact J99 v59.2 x2 hf
  have J33 : ∀ (m : MD) (x1 : Int32) (x2 : Int32) (x3 : Int32), M_lift_J33 m x1 x2 x3 = some out → kG κ D A 5 0 0 (kF κ D A (some (.int out.1)) [wM cI cS a out.2]) (csM cI cS a m) [(0, .ref a.1), (1, .int x1), (2, .int x2), (3, .int x3)] 33 [] := by
    intro m x1 x2 x3 hf; rw [M_lift_J33] at hf
    refine g_iload_n (pc := 33) C 3 dX6_lift_33 rfl ?_
    refine g_if_lt (pc := 34) C 54 dX6_lift_34 (by decide) (fun (c34 : x3 < 0) => ?_) (fun (c34 : ¬ x3 < 0) => ?_)
    · have hf := k_pos c34 hf
      refine g_sub [0, 1, 2] (lv' := [(0, .ref a.1), (1, .int x1), (2, .int x2)]) rfl ?_
      exact J54 m x1 x2 hf
    · have hf := k_neg c34 hf
      refine g_aload_n (pc := 37) C 0 dX6_lift_37 rfl ?_
      refine g_iload_n (pc := 38) C 3 dX6_lift_38 rfl ?_
      obtain ⟨v39, h39, hf⟩ := Option.bind_eq_some_iff.mp hf
      refine g_callV' (pc := 39) hla C (c_X6_children l D cI cS a m x3 v39 h39) gg_RX6_62 hd_X6_children (by decide) rfl rfl rfl rfl (Nat.le_of_ble_eq_true rfl) dX6_lift_39 (seM_0 cI cS a m) (seM_0 cI cS a m).symm [.int v39] rfl ?_
      refine g_iconst (pc := 42) C 1 dX6_lift_42 (by decide) ?_
      refine g_isub (pc := 43) C dX6_lift_43 ?_
      refine g_iload_n (pc := 44) C 2 dX6_lift_44 rfl ?_
      refine g_iadd (pc := 45) C dX6_lift_45 ?_
      refine g_bipush (pc := 46) C 6 dX6_lift_46 (by decide) ?_
      refine g_icmp_le (pc := 48) C 54 dX6_lift_48 (by decide) (fun (c48 : ((v39 - 1) + x2) ≤ 6) => ?_) (fun (c48 : ¬ ((v39 - 1) + x2) ≤ 6) => ?_)
      · have hf := k_pos c48 hf
        refine g_sub [0, 1, 2] (lv' := [(0, .ref a.1), (1, .int x1), (2, .int x2)]) rfl ?_
        exact J54 m x1 x2 hf
      · have hf := k_neg c48 hf
        refine g_bipush (pc := 51) C (-3) dX6_lift_51 (by decide) ?_
        have e := Option.some.inj hf; subst e
        exact g_ri (pc := 53) C rfl (flM cI cS a m) dX6_lift_53
  rw [M_lift] at hf
  refine g_aload_n (pc := 0) C 0 dX6_lift_0 rfl ?_
  obtain ⟨v1, h1, hf⟩ := Option.bind_eq_some_iff.mp hf
  refine g_callV' (pc := 1) hla C (c_X6_begins l D cI cS a m v1 h1) gg_RX6_55 hd_X6_begins (by decide) rfl rfl rfl rfl (Nat.le_of_ble_eq_true rfl) dX6_lift_1 (seM_0 cI cS a m) (seM_0 cI cS a v1).symm [] rfl ?_
  refine g_aload_n (pc := 4) C 0 dX6_lift_4 rfl ?_
  obtain ⟨v5, h5, hf⟩ := Option.bind_eq_some_iff.mp hf
  refine g_callV' (pc := 5) hla C (c_X6_place l D cI cS a v1 v5 h5) gg_RX6_58 hd_X6_place (by decide) rfl rfl rfl rfl (Nat.le_of_ble_eq_true rfl) dX6_lift_5 (seM_0 cI cS a v1) (seM_0 cI cS a v1).symm [.int v5] rfl ?_
  refine g_istore_n (pc := 8) C [(1, .int v5), (0, .ref a.1)] dX6_lift_8 (by decide) rfl ?_
  refine g_aload_n (pc := 9) C 1 dX6_lift_9 rfl ?_
  refine g_iload_n (pc := 10) C 0 dX6_lift_10 rfl ?_
  obtain ⟨v11, h11, hf⟩ := Option.bind_eq_some_iff.mp hf
  refine g_callV' (pc := 11) hla C (c_X6_children l D cI cS a v1 v5 v11 h11) gg_RX6_62 hd_X6_children (by decide) rfl rfl rfl rfl (Nat.le_of_ble_eq_true rfl) dX6_lift_11 (seM_0 cI cS a v1) (seM_0 cI cS a v1).symm [.int v11] rfl ?_
  refine g_istore_n (pc := 14) C [(2, .int v11), (1, .int v5), (0, .ref a.1)] dX6_lift_14 (by decide) rfl ?_
  refine g_aload_n (pc := 15) C 2 dX6_lift_15 rfl ?_
  refine g_iload_n (pc := 16) C 1 dX6_lift_16 rfl ?_
  obtain ⟨v17, h17, hf⟩ := Option.bind_eq_some_iff.mp hf
  refine g_callV' (pc := 17) hla C (c_X6_above l D cI cS a v1 v5 v17 h17) gg_RX6_52 hd_X6_above (by decide) rfl rfl rfl rfl (Nat.le_of_ble_eq_true rfl) dX6_lift_17 (seM_0 cI cS a v1) (seM_0 cI cS a v1).symm [.int v17] rfl ?_
  refine g_istore_n (pc := 20) C [(3, .int v17), (2, .int v11), (1, .int v5), (0, .ref a.1)] dX6_lift_20 (by decide) rfl ?_
  refine g_iload_n (pc := 21) C 0 dX6_lift_21 rfl ?_
  refine g_if_ge (pc := 22) C 33 dX6_lift_22 (by decide) (fun (c22 : 0 ≤ v17) => ?_) (fun (c22 : ¬ 0 ≤ v17) => ?_)
  · have hf := k_pos c22 hf
    refine g_sub [3, 2, 1, 0] (lv' := [(0, .ref a.1), (1, .int v5), (2, .int v11), (3, .int v17)]) rfl ?_
    exact J33 v1 v5 v11 v17 hf
  · have hf := k_neg c22 hf
    refine g_iload_n (pc := 25) C 1 dX6_lift_25 rfl ?_
    refine g_iconst (pc := 26) C 1 dX6_lift_26 (by decide) ?_
    refine g_icmp_eq (pc := 27) C 33 dX6_lift_27 (by decide) (fun (c27 : v11 = 1) => ?_) (fun (c27 : ¬ v11 = 1) => ?_)
    · have hf := k_pos c27 hf
      refine g_sub [3, 2, 1, 0] (lv' := [(0, .ref a.1), (1, .int v5), (2, .int v11), (3, .int v17)]) rfl ?_
      exact J33 v1 v5 v11 v17 hf
    · have hf := k_neg c27 hf
      refine g_bipush (pc := 30) C (-2) dX6_lift_30 (by decide) ?_
      have e := Option.some.inj hf; subst e
      exact g_ri (pc := 32) C rfl (flM cI cS a v1) dX6_lift_32
set_option maxHeartbeats 4000000 in
set_option maxRecDepth 100000 in
theorem c_X6_swaps (l : Launch) (D : va_G) (cI cS : ClassId) (a : aM) (m : MD) (x1 : Int32) (x2 : Int32) (out : MD) (hf : M_swaps m x1 x2 = some out) : kM l D (kTy cI cS) yX6_swaps ct_X6_swaps rm_X6_swaps [.ref a.1, .int x1, .int x2] [wM cI cS a m] (kEq (none) [wM cI cS a out]) := by
  refine k_methodE cX6_swaps 6 none RX6 rfl [(0, .ref a.1), (1, .int x1), (2, .int x2)] rfl (by decide +kernel) (Nat.le_of_ble_eq_true rfl) (fun κ A hla C => ?_)
  refine g_chunks (flM cI cS a m).symm ?_
  have L55 : ∀ (fu : Nat) (m : MD) (x1 : Int32) (x3 : Int32) (x4 : Int32) (x5 : Int32), M_swaps_L55 fu m x1 x3 x4 x5 = some out → kG κ D A 6 0 0 (kF κ D A (none) [wM cI cS a out]) (csM cI cS a m) [(0, .ref a.1), (1, .int x1), (3, .int x3), (4, .int x4), (5, .int x5)] 55 [] := by
    intro fu; induction fu with
    | zero => intro m x1 x3 x4 x5 hf; rw [M_swaps_L55] at hf; cases hf
    | succ fu ih =>
      intro m x1 x3 x4 x5 hf; rw [M_swaps_L55] at hf
      refine g_iload (pc := 55) C 4 dX6_swaps_55 rfl ?_
      refine g_iconst (pc := 57) C 3 dX6_swaps_57 (by decide) ?_
      refine g_iload (pc := 58) C 3 dX6_swaps_58 rfl ?_
      refine g_imul (pc := 60) C dX6_swaps_60 ?_
      refine g_icmp_ge (pc := 61) C 100 dX6_swaps_61 (by decide) (fun (c61 : (3 * x4) ≤ x5) => ?_) (fun (c61 : ¬ (3 * x4) ≤ x5) => ?_)
      · have hf := k_pos c61 hf
        have e := Option.some.inj hf; subst e
        exact g_rv (pc := 100) C rfl (flM cI cS a m) dX6_swaps_100
      · have hf := k_neg c61 hf
        refine g_aload_n (pc := 64) C 0 dX6_swaps_64 rfl ?_
        refine gf_RX6_7 (pc := 65) C 0 rfl dX6_swaps_65 ?_
        refine g_bipush (pc := 68) C 18 dX6_swaps_68 (by decide) ?_
        refine g_iconst (pc := 70) C 3 dX6_swaps_70 (by decide) ?_
        refine g_iload_n (pc := 71) C 1 dX6_swaps_71 rfl ?_
        refine g_imul (pc := 72) C dX6_swaps_72 ?_
        refine g_iadd (pc := 73) C dX6_swaps_73 ?_
        refine g_iload (pc := 74) C 4 dX6_swaps_74 rfl ?_
        refine g_iadd (pc := 76) C dX6_swaps_76 ?_
        refine g_aload_n (pc := 77) C 0 dX6_swaps_77 rfl ?_
        refine gf_RX6_19 (pc := 78) C 0 rfl dX6_swaps_78 ?_
        refine g_iload (pc := 81) C 4 dX6_swaps_81 rfl ?_
        refine g_iconst (pc := 83) C 3 dX6_swaps_83 (by decide) ?_
        refine g_iload_n (pc := 84) C 2 dX6_swaps_84 rfl ?_
        refine g_imul (pc := 85) C dX6_swaps_85 ?_
        refine g_iadd (pc := 86) C dX6_swaps_86 ?_
        refine g_iconst (pc := 87) C 3 dX6_swaps_87 (by decide) ?_
        refine g_iload (pc := 88) C 3 dX6_swaps_88 rfl ?_
        refine g_imul (pc := 90) C dX6_swaps_90 ?_
        obtain ⟨g91, hf⟩ := k_guard hf
        refine g_irem (pc := 91) C dX6_swaps_91 g91 ?_
        obtain ⟨g92, hf⟩ := k_guard hf
        refine g_iald (pc := 92) C 4 0 rfl rfl g92 dX6_swaps_92 ?_
        obtain ⟨g93, hf⟩ := k_guard hf
        obtain ⟨u93, e93, hf⟩ := Option.bind_eq_some_iff.mp hf
        refine g_iastU (pc := 93) C 1 0 u93 (Option.some.inj e93) (csM cI cS a (u93, m.2.1, m.2.2.1, m.2.2.2.1, m.2.2.2.2.1, m.2.2.2.2.2.1, m.2.2.2.2.2.2.1, m.2.2.2.2.2.2.2.1, m.2.2.2.2.2.2.2.2.1, m.2.2.2.2.2.2.2.2.2.1, m.2.2.2.2.2.2.2.2.2.2.1, m.2.2.2.2.2.2.2.2.2.2.2)) rfl rfl g93 rfl dX6_swaps_93 ?_
        refine g_iinc (pc := 94) C 4 (x5 + 1) [(5, .int (x5 + 1)), (0, .ref a.1), (1, .int x1), (3, .int x3), (4, .int x4)] dX6_swaps_94 rfl (congrArg (HAdd.hAdd _) (by decide)) (by decide) rfl ?_
        refine g_goto (pc := 97) C 55 dX6_swaps_97 (by decide) ?_
        refine g_sub [1, 2, 3, 4, 0] (lv' := [(0, .ref a.1), (1, .int x1), (3, .int x3), (4, .int x4), (5, .int (x5 + 1))]) rfl ?_
        exact ih (u93, m.2.1, m.2.2.1, m.2.2.2.1, m.2.2.2.2.1, m.2.2.2.2.2.1, m.2.2.2.2.2.2.1, m.2.2.2.2.2.2.2.1, m.2.2.2.2.2.2.2.2.1, m.2.2.2.2.2.2.2.2.2.1, m.2.2.2.2.2.2.2.2.2.2.1, m.2.2.2.2.2.2.2.2.2.2.2) x1 x3 x4 (x5 + 1) hf
  have L16 : ∀ (fu : Nat) (m : MD) (x1 : Int32) (x3 : Int32) (x4 : Int32) (x5 : Int32), M_swaps_L16 fu m x1 x3 x4 x5 = some out → kG κ D A 6 0 0 (kF κ D A (none) [wM cI cS a out]) (csM cI cS a m) [(0, .ref a.1), (1, .int x1), (3, .int x3), (4, .int x4), (5, .int x5)] 16 [] := by
    intro fu; induction fu with
    | zero => intro m x1 x3 x4 x5 hf; rw [M_swaps_L16] at hf; cases hf
    | succ fu ih =>
      intro m x1 x3 x4 x5 hf; rw [M_swaps_L16] at hf
      refine g_iload (pc := 16) C 4 dX6_swaps_16 rfl ?_
      refine g_iconst (pc := 18) C 3 dX6_swaps_18 (by decide) ?_
      refine g_iload (pc := 19) C 3 dX6_swaps_19 rfl ?_
      refine g_imul (pc := 21) C dX6_swaps_21 ?_
      refine g_icmp_ge (pc := 22) C 52 dX6_swaps_22 (by decide) (fun (c22 : (3 * x4) ≤ x5) => ?_) (fun (c22 : ¬ (3 * x4) ≤ x5) => ?_)
      · have hf := k_pos c22 hf
        refine g_iconst (pc := 52) C 0 dX6_swaps_52 (by decide) ?_
        refine g_istore (pc := 53) C [(5, .int 0), (0, .ref a.1), (1, .int x1), (3, .int x3), (4, .int x4)] dX6_swaps_53 (by decide) rfl ?_
        refine g_sub [1, 2, 3, 4, 0] (lv' := [(0, .ref a.1), (1, .int x1), (3, .int x3), (4, .int x4), (5, .int 0)]) rfl ?_
        exact L55 1000 m x1 x3 x4 0 hf
      · have hf := k_neg c22 hf
        refine g_aload_n (pc := 25) C 0 dX6_swaps_25 rfl ?_
        refine gf_RX6_19 (pc := 26) C 0 rfl dX6_swaps_26 ?_
        refine g_iload (pc := 29) C 4 dX6_swaps_29 rfl ?_
        refine g_aload_n (pc := 31) C 0 dX6_swaps_31 rfl ?_
        refine gf_RX6_7 (pc := 32) C 0 rfl dX6_swaps_32 ?_
        refine g_bipush (pc := 35) C 18 dX6_swaps_35 (by decide) ?_
        refine g_iconst (pc := 37) C 3 dX6_swaps_37 (by decide) ?_
        refine g_iload_n (pc := 38) C 1 dX6_swaps_38 rfl ?_
        refine g_imul (pc := 39) C dX6_swaps_39 ?_
        refine g_iadd (pc := 40) C dX6_swaps_40 ?_
        refine g_iload (pc := 41) C 4 dX6_swaps_41 rfl ?_
        refine g_iadd (pc := 43) C dX6_swaps_43 ?_
        obtain ⟨g44, hf⟩ := k_guard hf
        refine g_iald (pc := 44) C 1 0 rfl rfl g44 dX6_swaps_44 ?_
        obtain ⟨g45, hf⟩ := k_guard hf
        obtain ⟨u45, e45, hf⟩ := Option.bind_eq_some_iff.mp hf
        refine g_iastU (pc := 45) C 4 0 u45 (Option.some.inj e45) (csM cI cS a (m.1, m.2.1, m.2.2.1, m.2.2.2.1, u45, m.2.2.2.2.2.1, m.2.2.2.2.2.2.1, m.2.2.2.2.2.2.2.1, m.2.2.2.2.2.2.2.2.1, m.2.2.2.2.2.2.2.2.2.1, m.2.2.2.2.2.2.2.2.2.2.1, m.2.2.2.2.2.2.2.2.2.2.2)) rfl rfl g45 rfl dX6_swaps_45 ?_
        refine g_iinc (pc := 46) C 4 (x5 + 1) [(5, .int (x5 + 1)), (0, .ref a.1), (1, .int x1), (3, .int x3), (4, .int x4)] dX6_swaps_46 rfl (congrArg (HAdd.hAdd _) (by decide)) (by decide) rfl ?_
        refine g_goto (pc := 49) C 16 dX6_swaps_49 (by decide) ?_
        refine g_sub [1, 2, 3, 4, 0] (lv' := [(0, .ref a.1), (1, .int x1), (3, .int x3), (4, .int x4), (5, .int (x5 + 1))]) rfl ?_
        exact ih (m.1, m.2.1, m.2.2.1, m.2.2.2.1, u45, m.2.2.2.2.2.1, m.2.2.2.2.2.2.1, m.2.2.2.2.2.2.2.1, m.2.2.2.2.2.2.2.2.1, m.2.2.2.2.2.2.2.2.2.1, m.2.2.2.2.2.2.2.2.2.2.1, m.2.2.2.2.2.2.2.2.2.2.2) x1 x3 x4 (x5 + 1) hf
  rw [M_swaps] at hf
  refine g_iload_n (pc := 0) C 2 dX6_swaps_0 rfl ?_
  refine g_iload_n (pc := 1) C 1 dX6_swaps_1 rfl ?_
  refine g_isub (pc := 2) C dX6_swaps_2 ?_
  refine g_istore_n (pc := 3) C [(3, .int (x2 - x1)), (0, .ref a.1), (1, .int x1), (2, .int x2)] dX6_swaps_3 (by decide) rfl ?_
  refine g_aload_n (pc := 4) C 1 dX6_swaps_4 rfl ?_
  refine g_iload_n (pc := 5) C 3 dX6_swaps_5 rfl ?_
  obtain ⟨v6, h6, hf⟩ := Option.bind_eq_some_iff.mp hf
  refine g_callV' (pc := 6) hla C (c_X6_end l D cI cS a m x2 v6 h6) gg_RX6_49 hd_X6_end (by decide) rfl rfl rfl rfl (Nat.le_of_ble_eq_true rfl) dX6_swaps_6 (seM_0 cI cS a m) (seM_0 cI cS a m).symm [.int v6] rfl ?_
  refine g_iload_n (pc := 9) C 2 dX6_swaps_9 rfl ?_
  refine g_isub (pc := 10) C dX6_swaps_10 ?_
  refine g_istore (pc := 11) C [(4, .int (v6 - x1)), (3, .int (x2 - x1)), (0, .ref a.1), (1, .int x1), (2, .int x2)] dX6_swaps_11 (by decide) rfl ?_
  refine g_iconst (pc := 13) C 0 dX6_swaps_13 (by decide) ?_
  refine g_istore (pc := 14) C [(5, .int 0), (4, .int (v6 - x1)), (3, .int (x2 - x1)), (0, .ref a.1), (1, .int x1), (2, .int x2)] dX6_swaps_14 (by decide) rfl ?_
  refine g_sub [3, 4, 2, 1, 0] (lv' := [(0, .ref a.1), (1, .int x1), (3, .int (x2 - x1)), (4, .int (v6 - x1)), (5, .int 0)]) rfl ?_
  exact L16 1000 m x1 (x2 - x1) (v6 - x1) 0 hf
set_option maxHeartbeats 4000000 in
set_option maxRecDepth 100000 in
theorem c_X6_exchange (l : Launch) (D : va_G) (cI cS : ClassId) (a : aM) (m : MD) (x1 : Int32) (out : Int32 × MD) (hf : M_exchange m x1 = some out) : kM l D (kTy cI cS) yX6_exchange ct_X6_exchange rm_X6_exchange [.ref a.1, .int x1] [wM cI cS a m] (kEq (some (.int out.1)) [wM cI cS a out.2]) := by
  refine k_methodE cX6_exchange 4 (some .int) RX6 rfl [(0, .ref a.1), (1, .int x1)] rfl (by decide +kernel) (Nat.le_of_ble_eq_true rfl) (fun κ A hla C => ?_)
  refine g_chunks (flM cI cS a m).symm ?_
  have J64 : ∀ (m : MD) (s1 : Int32) (s2 : Int32), M_exchange_J64 m s1 s2 = some out → kG κ D A 4 0 0 (kF κ D A (some (.int out.1)) [wM cI cS a out.2]) (csM cI cS a m) [(0, .ref a.1)] 64 [.int s2, .int s1, .ref a.1] := by
    intro m s1 s2 hf; rw [M_exchange_J64] at hf
    obtain ⟨v64, h64, hf⟩ := Option.bind_eq_some_iff.mp hf
    refine g_callV' (pc := 64) hla C (c_X6_swaps l D cI cS a m s1 s2 v64 h64) gg_RX6_112 hd_X6_swaps (by decide) rfl rfl rfl rfl (Nat.le_of_ble_eq_true rfl) dX6_exchange_64 (seM_0 cI cS a m) (seM_0 cI cS a v64).symm [] rfl ?_
    refine g_aload_n (pc := 67) C 0 dX6_exchange_67 rfl ?_
    refine g_aload_n (pc := 68) C 0 dX6_exchange_68 rfl ?_
    refine g_aload_n (pc := 69) C 0 dX6_exchange_69 rfl ?_
    obtain ⟨v70, h70, hf⟩ := Option.bind_eq_some_iff.mp hf
    refine g_callV' (pc := 70) hla C (c_X6_place l D cI cS a v64 v70 h70) gg_RX6_58 hd_X6_place (by decide) rfl rfl rfl rfl (Nat.le_of_ble_eq_true rfl) dX6_exchange_70 (seM_0 cI cS a v64) (seM_0 cI cS a v64).symm [.int v70, .ref a.1, .ref a.1] rfl ?_
    obtain ⟨v73, h73, hf⟩ := Option.bind_eq_some_iff.mp hf
    refine g_callV' (pc := 73) hla C (c_X6_which l D cI cS a v64 v70 v73 h73) gg_RX6_115 hd_X6_which (by decide) rfl rfl rfl rfl (Nat.le_of_ble_eq_true rfl) dX6_exchange_73 (seM_0 cI cS a v64) (seM_0 cI cS a v64).symm [.int v73, .ref a.1] rfl ?_
    obtain ⟨v76, h76, hf⟩ := Option.bind_eq_some_iff.mp hf
    refine g_callV' (pc := 76) hla C (c_X6_acted l D cI cS a v64 v73 v76 h76) gg_RX6_72 hd_X6_acted (by decide) rfl rfl rfl rfl (Nat.le_of_ble_eq_true rfl) dX6_exchange_76 (seM_0 cI cS a v64) (seM_0 cI cS a v76.2).symm [.int v76.1] rfl ?_
    have e := Option.some.inj hf; subst e
    exact g_ri (pc := 79) C rfl (flM cI cS a v76.2) dX6_exchange_79
  have J54 : ∀ (m : MD) (x2 : Int32) (x3 : Int32) (s1 : Int32), M_exchange_J54 m x2 x3 s1 = some out → kG κ D A 4 0 0 (kF κ D A (some (.int out.1)) [wM cI cS a out.2]) (csM cI cS a m) [(0, .ref a.1), (2, .int x2), (3, .int x3)] 54 [.int s1, .ref a.1] := by
    intro m x2 x3 s1 hf; rw [M_exchange_J54] at hf
    refine g_iload_n (pc := 54) C 1 dX6_exchange_54 rfl ?_
    refine g_iload_n (pc := 55) C 2 dX6_exchange_55 rfl ?_
    refine g_icmp_ge (pc := 56) C 63 dX6_exchange_56 (by decide) (fun (c56 : x3 ≤ x2) => ?_) (fun (c56 : ¬ x3 ≤ x2) => ?_)
    · have hf := k_pos c56 hf
      refine g_iload_n (pc := 63) C 1 dX6_exchange_63 rfl ?_
      refine g_sub [0] (lv' := [(0, .ref a.1)]) rfl ?_
      exact J64 m s1 x2 hf
    · have hf := k_neg c56 hf
      refine g_iload_n (pc := 59) C 2 dX6_exchange_59 rfl ?_
      refine g_goto (pc := 60) C 64 dX6_exchange_60 (by decide) ?_
      refine g_sub [0] (lv' := [(0, .ref a.1)]) rfl ?_
      exact J64 m s1 x3 hf
  have J32 : ∀ (m : MD) (x2 : Int32) (s1 : Int32) (s2 : Int32), M_exchange_J32 m x2 s1 s2 = some out → kG κ D A 4 0 0 (kF κ D A (some (.int out.1)) [wM cI cS a out.2]) (csM cI cS a m) [(0, .ref a.1), (2, .int x2)] 32 [.int s2, .int s1, .ref a.1] := by
    intro m x2 s1 s2 hf; rw [M_exchange_J32] at hf
    obtain ⟨v32, h32, hf⟩ := Option.bind_eq_some_iff.mp hf
    refine g_callV' (pc := 32) hla C (c_X6_besides l D cI cS a m s1 s2 v32 h32) gg_RX6_75 hd_X6_besides (by decide) rfl rfl rfl rfl (Nat.le_of_ble_eq_true rfl) dX6_exchange_32 (seM_0 cI cS a m) (seM_0 cI cS a m).symm [.int v32] rfl ?_
    refine g_istore_n (pc := 35) C [(3, .int v32), (0, .ref a.1), (2, .int x2)] dX6_exchange_35 (by decide) rfl ?_
    refine g_iload_n (pc := 36) C 0 dX6_exchange_36 rfl ?_
    refine g_if_ge (pc := 37) C 43 dX6_exchange_37 (by decide) (fun (c37 : 0 ≤ v32) => ?_) (fun (c37 : ¬ 0 ≤ v32) => ?_)
    · have hf := k_pos c37 hf
      refine g_aload_n (pc := 43) C 1 dX6_exchange_43 rfl ?_
      refine g_iload_n (pc := 44) C 2 dX6_exchange_44 rfl ?_
      refine g_iload_n (pc := 45) C 0 dX6_exchange_45 rfl ?_
      refine g_icmp_ge (pc := 46) C 53 dX6_exchange_46 (by decide) (fun (c46 : v32 ≤ x2) => ?_) (fun (c46 : ¬ v32 ≤ x2) => ?_)
      · have hf := k_pos c46 hf
        refine g_iload_n (pc := 53) C 0 dX6_exchange_53 rfl ?_
        refine g_sub [1, 2, 0] (lv' := [(0, .ref a.1), (2, .int x2), (3, .int v32)]) rfl ?_
        exact J54 m x2 v32 v32 hf
      · have hf := k_neg c46 hf
        refine g_iload_n (pc := 49) C 2 dX6_exchange_49 rfl ?_
        refine g_goto (pc := 50) C 54 dX6_exchange_50 (by decide) ?_
        refine g_sub [1, 2, 0] (lv' := [(0, .ref a.1), (2, .int x2), (3, .int v32)]) rfl ?_
        exact J54 m x2 v32 x2 hf
    · have hf := k_neg c37 hf
      refine g_bipush (pc := 40) C (-2) dX6_exchange_40 (by decide) ?_
      have e := Option.some.inj hf; subst e
      exact g_ri (pc := 42) C rfl (flM cI cS a m) dX6_exchange_42
  rw [M_exchange] at hf
  refine g_aload_n (pc := 0) C 0 dX6_exchange_0 rfl ?_
  obtain ⟨v1, h1, hf⟩ := Option.bind_eq_some_iff.mp hf
  refine g_callV' (pc := 1) hla C (c_X6_begins l D cI cS a m v1 h1) gg_RX6_55 hd_X6_begins (by decide) rfl rfl rfl rfl (Nat.le_of_ble_eq_true rfl) dX6_exchange_1 (seM_0 cI cS a m) (seM_0 cI cS a v1).symm [] rfl ?_
  refine g_iload_n (pc := 4) C 1 dX6_exchange_4 rfl ?_
  refine g_iconst (pc := 5) C 0 dX6_exchange_5 (by decide) ?_
  refine g_iconst (pc := 6) C 1 dX6_exchange_6 (by decide) ?_
  obtain ⟨v7, h7, hf⟩ := Option.bind_eq_some_iff.mp hf
  refine g_callS' (pc := 7) hla C (c_X6_in l D cI cS x1 0 1 v7 h7) tb_X6_in m_744 m_X6_in_static m_ini_RX6 hd_X6_in (by decide) rfl rfl (Nat.le_of_ble_eq_true rfl) dX6_exchange_7 (seM_nil cI cS a v1) (seM_nil cI cS a v1).symm [.int v7] rfl ?_
  refine g_if_ne (pc := 10) C 15 dX6_exchange_10 (by decide) (fun (c10 : ¬ v7 = 0) => ?_) (fun (c10 : v7 = 0) => ?_)
  · have hf := k_neg c10 hf
    refine g_aload_n (pc := 15) C 0 dX6_exchange_15 rfl ?_
    obtain ⟨v16, h16, hf⟩ := Option.bind_eq_some_iff.mp hf
    refine g_callV' (pc := 16) hla C (c_X6_place l D cI cS a v1 v16 h16) gg_RX6_58 hd_X6_place (by decide) rfl rfl rfl rfl (Nat.le_of_ble_eq_true rfl) dX6_exchange_16 (seM_0 cI cS a v1) (seM_0 cI cS a v1).symm [.int v16] rfl ?_
    refine g_istore_n (pc := 19) C [(2, .int v16), (0, .ref a.1), (1, .int x1)] dX6_exchange_19 (by decide) rfl ?_
    refine g_aload_n (pc := 20) C 1 dX6_exchange_20 rfl ?_
    refine g_iload_n (pc := 21) C 0 dX6_exchange_21 rfl ?_
    refine g_iload_n (pc := 22) C 2 dX6_exchange_22 rfl ?_
    refine g_iconst (pc := 23) C 1 dX6_exchange_23 (by decide) ?_
    refine g_icmp_ne (pc := 24) C 31 dX6_exchange_24 (by decide) (fun (c24 : ¬ x1 = 1) => ?_) (fun (c24 : x1 = 1) => ?_)
    · have hf := k_neg c24 hf
      refine g_iconst (pc := 31) C 0 dX6_exchange_31 (by decide) ?_
      refine g_sub [1, 0] (lv' := [(0, .ref a.1), (2, .int v16)]) rfl ?_
      exact J32 v1 v16 v16 0 hf
    · have hf := k_pos c24 hf
      refine g_iconst (pc := 27) C 1 dX6_exchange_27 (by decide) ?_
      refine g_goto (pc := 28) C 32 dX6_exchange_28 (by decide) ?_
      refine g_sub [1, 0] (lv' := [(0, .ref a.1), (2, .int v16)]) rfl ?_
      exact J32 v1 v16 v16 1 hf
  · have hf := k_pos c10 hf
    refine g_iconst (pc := 13) C (-1) dX6_exchange_13 (by decide) ?_
    have e := Option.some.inj hf; subst e
    exact g_ri (pc := 14) C rfl (flM cI cS a v1) dX6_exchange_14
