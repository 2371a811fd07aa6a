set_option maxHeartbeats 4000000 in
set_option maxRecDepth 100000 in
theorem c_X6_beside (l : Launch) (D : va_G) (cI cS : ClassId) (a : aM) (m : MD) (x1 : Int32) (x2 : Int32) (out : Int32 × MD) (hf : M_beside m x1 x2 = some out) : kM l D (kTy cI cS) yX6_beside ct_X6_beside rm_X6_beside [.ref a.1, .int x1, .int x2] [wM cI cS a m] (kEq (some (.int out.1)) [wM cI cS a out.2]) := by
  refine k_methodE cX6_beside 7 (some .int) RX6 rfl [(0, .ref a.1), (1, .int x1), (2, .int x2)] rfl (by decide +kernel) (Nat.le_of_ble_eq_true rfl) (fun κ A hla C => ?_)
  refine g_chunks (flM cI cS a m).symm ?_
  have J91 : ∀ (m : MD) (x2 : Int32) (x4 : Int32) (x5 : Int32) (s0 : Int32), M_beside_J91 m x2 x4 x5 s0 = some out → kG κ D A 7 0 0 (kF κ D A (some (.int out.1)) [wM cI cS a out.2]) (csM cI cS a m) [(0, .ref a.1), (2, .int x2), (4, .int x4), (5, .int x5)] 91 [.int s0] := by
    intro m x2 x4 x5 s0 hf; rw [M_beside_J91] at hf
    refine g_istore (pc := 91) C [(6, .int s0), (0, .ref a.1), (2, .int x2), (4, .int x4), (5, .int x5)] dX6_beside_91 (by decide) rfl ?_
    refine g_aload_n (pc := 93) C 1 dX6_beside_93 rfl ?_
    refine g_iload (pc := 94) C 0 dX6_beside_94 rfl ?_
    refine g_iconst (pc := 96) C 1 dX6_beside_96 (by decide) ?_
    obtain ⟨v97, h97, hf⟩ := Option.bind_eq_some_iff.mp hf
    refine g_callV' (pc := 97) hla C (c_X6_opens l D cI cS a m s0 1 v97 h97) gg_RX6_86 hd_X6_opens (by decide) rfl rfl rfl rfl (Nat.le_of_ble_eq_true rfl) dX6_beside_97 (seM_0 cI cS a m) (seM_0 cI cS a v97).symm [] rfl ?_
    refine g_aload_n (pc := 100) C 1 dX6_beside_100 rfl ?_
    refine g_iload (pc := 101) C 0 dX6_beside_101 rfl ?_
    refine g_iload_n (pc := 103) C 2 dX6_beside_103 rfl ?_
    refine g_iload (pc := 104) C 4 dX6_beside_104 rfl ?_
    obtain ⟨v106, h106, hf⟩ := Option.bind_eq_some_iff.mp hf
    refine g_callV' (pc := 106) hla C (c_X6_lays l D cI cS a v97 s0 x2 x5 v106 h106) gg_RX6_90 hd_X6_lays (by decide) rfl rfl rfl rfl (Nat.le_of_ble_eq_true rfl) dX6_beside_106 (seM_0 cI cS a v97) (seM_0 cI cS a v106).symm [] rfl ?_
    refine g_aload_n (pc := 109) C 1 dX6_beside_109 rfl ?_
    refine g_aload_n (pc := 110) C 1 dX6_beside_110 rfl ?_
    refine g_iload (pc := 111) C 3 dX6_beside_111 rfl ?_
    obtain ⟨v113, h113, hf⟩ := Option.bind_eq_some_iff.mp hf
    refine g_callV' (pc := 113) hla C (c_X6_children l D cI cS a v106 x4 v113 h113) gg_RX6_62 hd_X6_children (by decide) rfl rfl rfl rfl (Nat.le_of_ble_eq_true rfl) dX6_beside_113 (seM_0 cI cS a v106) (seM_0 cI cS a v106).symm [.int v113, .ref a.1] rfl ?_
    obtain ⟨v116, h116, hf⟩ := Option.bind_eq_some_iff.mp hf
    refine g_callV' (pc := 116) hla C (c_X6_acted l D cI cS a v106 v113 v116 h116) gg_RX6_72 hd_X6_acted (by decide) rfl rfl rfl rfl (Nat.le_of_ble_eq_true rfl) dX6_beside_116 (seM_0 cI cS a v106) (seM_0 cI cS a v116.2).symm [.int v116.1] rfl ?_
    have e := Option.some.inj hf; subst e
    exact g_ri (pc := 119) C rfl (flM cI cS a v116.2) dX6_beside_119
  rw [M_beside] at hf
  refine g_aload_n (pc := 0) C 0 dX6_beside_0 rfl ?_
  obtain ⟨v1, h1, hf⟩ := Option.bind_eq_some_iff.mp hf
  refine g_callV' (pc := 1) hla C (c_X6_begins l D cI cS a m v1 h1) gg_RX6_55 hd_X6_begins (by decide) rfl rfl rfl rfl (Nat.le_of_ble_eq_true rfl) dX6_beside_1 (seM_0 cI cS a m) (seM_0 cI cS a v1).symm [] rfl ?_
  refine g_iload_n (pc := 4) C 1 dX6_beside_4 rfl ?_
  refine g_iconst (pc := 5) C 0 dX6_beside_5 (by decide) ?_
  refine g_iconst (pc := 6) C 1 dX6_beside_6 (by decide) ?_
  obtain ⟨v7, h7, hf⟩ := Option.bind_eq_some_iff.mp hf
  refine g_callS' (pc := 7) hla C (c_X6_in l D cI cS x1 0 1 v7 h7) tb_X6_in m_744 m_X6_in_static m_ini_RX6 hd_X6_in (by decide) rfl rfl (Nat.le_of_ble_eq_true rfl) dX6_beside_7 (seM_nil cI cS a v1) (seM_nil cI cS a v1).symm [.int v7] rfl ?_
  refine g_if_eq (pc := 10) C 23 dX6_beside_10 (by decide) (fun (c10 : v7 = 0) => ?_) (fun (c10 : ¬ v7 = 0) => ?_)
  · have hf := k_pos c10 hf
    refine g_iconst (pc := 23) C (-1) dX6_beside_23 (by decide) ?_
    have e := Option.some.inj hf; subst e
    exact g_ri (pc := 24) C rfl (flM cI cS a v1) dX6_beside_24
  · have hf := k_neg c10 hf
    refine g_iload_n (pc := 13) C 2 dX6_beside_13 rfl ?_
    refine g_iconst (pc := 14) C 0 dX6_beside_14 (by decide) ?_
    refine g_bipush (pc := 15) C 25 dX6_beside_15 (by decide) ?_
    obtain ⟨v17, h17, hf⟩ := Option.bind_eq_some_iff.mp hf
    refine g_callS' (pc := 17) hla C (c_X6_in l D cI cS x2 0 25 v17 h17) tb_X6_in m_744 m_X6_in_static m_ini_RX6 hd_X6_in (by decide) rfl rfl (Nat.le_of_ble_eq_true rfl) dX6_beside_17 (seM_nil cI cS a v1) (seM_nil cI cS a v1).symm [.int v17] rfl ?_
    refine g_if_ne (pc := 20) C 25 dX6_beside_20 (by decide) (fun (c20 : ¬ v17 = 0) => ?_) (fun (c20 : v17 = 0) => ?_)
    · have hf := k_neg c20 hf
      refine g_aload_n (pc := 25) C 0 dX6_beside_25 rfl ?_
      obtain ⟨v26, h26, hf⟩ := Option.bind_eq_some_iff.mp hf
      refine g_callV' (pc := 26) hla C (c_X6_place l D cI cS a v1 v26 h26) gg_RX6_58 hd_X6_place (by decide) rfl rfl rfl rfl (Nat.le_of_ble_eq_true rfl) dX6_beside_26 (seM_0 cI cS a v1) (seM_0 cI cS a v1).symm [.int v26] rfl ?_
      refine g_istore_n (pc := 29) C [(3, .int v26), (0, .ref a.1), (1, .int x1), (2, .int x2)] dX6_beside_29 (by decide) rfl ?_
      refine g_aload_n (pc := 30) C 1 dX6_beside_30 rfl ?_
      refine g_iload_n (pc := 31) C 0 dX6_beside_31 rfl ?_
      obtain ⟨v32, h32, hf⟩ := Option.bind_eq_some_iff.mp hf
      refine g_callV' (pc := 32) hla C (c_X6_above l D cI cS a v1 v26 v32 h32) gg_RX6_52 hd_X6_above (by decide) rfl rfl rfl rfl (Nat.le_of_ble_eq_true rfl) dX6_beside_32 (seM_0 cI cS a v1) (seM_0 cI cS a v1).symm [.int v32] rfl ?_
      refine g_istore (pc := 35) C [(4, .int v32), (3, .int v26), (0, .ref a.1), (1, .int x1), (2, .int x2)] dX6_beside_35 (by decide) rfl ?_
      refine g_iload (pc := 37) C 0 dX6_beside_37 rfl ?_
      refine g_if_ge (pc := 39) C 45 dX6_beside_39 (by decide) (fun (c39 : 0 ≤ v32) => ?_) (fun (c39 : ¬ 0 ≤ v32) => ?_)
      · have hf := k_pos c39 hf
        refine g_aload_n (pc := 45) C 2 dX6_beside_45 rfl ?_
        refine gf_RX6_7 (pc := 46) C 0 rfl dX6_beside_46 ?_
        refine g_iconst (pc := 49) C 0 dX6_beside_49 (by decide) ?_
        refine g_iald (pc := 50) C 1 0 rfl rfl (by decide) dX6_beside_50 ?_
        refine g_bipush (pc := 51) C 40 dX6_beside_51 (by decide) ?_
        refine g_icmp_eq (pc := 53) C 67 dX6_beside_53 (by decide) (fun (c53 : (v1.1 (ix 0)) = 40) => ?_) (fun (c53 : ¬ (v1.1 (ix 0)) = 40) => ?_)
        · have hf := k_pos c53 hf
          refine g_bipush (pc := 67) C (-3) dX6_beside_67 (by decide) ?_
          have e := Option.some.inj hf; subst e
          exact g_ri (pc := 69) C rfl (flM cI cS a v1) dX6_beside_69
        · have hf := k_neg c53 hf
          refine g_aload_n (pc := 56) C 2 dX6_beside_56 rfl ?_
          refine g_iload (pc := 57) C 0 dX6_beside_57 rfl ?_
          obtain ⟨v59, h59, hf⟩ := Option.bind_eq_some_iff.mp hf
          refine g_callV' (pc := 59) hla C (c_X6_children l D cI cS a v1 v32 v59 h59) gg_RX6_62 hd_X6_children (by decide) rfl rfl rfl rfl (Nat.le_of_ble_eq_true rfl) dX6_beside_59 (seM_0 cI cS a v1) (seM_0 cI cS a v1).symm [.int v59] rfl ?_
          refine g_bipush (pc := 62) C 6 dX6_beside_62 (by decide) ?_
          refine g_icmp_ne (pc := 64) C 70 dX6_beside_64 (by decide) (fun (c64 : ¬ v59 = 6) => ?_) (fun (c64 : v59 = 6) => ?_)
          · have hf := k_neg c64 hf
            refine g_aload_n (pc := 70) C 2 dX6_beside_70 rfl ?_
            refine g_iload_n (pc := 71) C 1 dX6_beside_71 rfl ?_
            obtain ⟨v72, h72, hf⟩ := Option.bind_eq_some_iff.mp hf
            refine g_callV' (pc := 72) hla C (c_X6_deep l D cI cS a v1 v26 v72 h72) gg_RX6_46 hd_X6_deep (by decide) rfl rfl rfl rfl (Nat.le_of_ble_eq_true rfl) dX6_beside_72 (seM_0 cI cS a v1) (seM_0 cI cS a v1).symm [.int v72] rfl ?_
            refine g_istore (pc := 75) C [(5, .int v72), (4, .int v32), (3, .int v26), (0, .ref a.1), (1, .int x1), (2, .int x2)] dX6_beside_75 (by decide) rfl ?_
            refine g_iload_n (pc := 77) C 4 dX6_beside_77 rfl ?_
            refine g_iconst (pc := 78) C 1 dX6_beside_78 (by decide) ?_
            refine g_icmp_ne (pc := 79) C 90 dX6_beside_79 (by decide) (fun (c79 : ¬ x1 = 1) => ?_) (fun (c79 : x1 = 1) => ?_)
            · have hf := k_neg c79 hf
              refine g_iload_n (pc := 90) C 2 dX6_beside_90 rfl ?_
              refine g_sub [3, 5, 1, 0] (lv' := [(0, .ref a.1), (2, .int x2), (4, .int v32), (5, .int v72)]) rfl ?_
              exact J91 v1 x2 v32 v72 v26 hf
            · have hf := k_pos c79 hf
              refine g_aload_n (pc := 82) C 3 dX6_beside_82 rfl ?_
              refine g_iload_n (pc := 83) C 2 dX6_beside_83 rfl ?_
              obtain ⟨v84, h84, hf⟩ := Option.bind_eq_some_iff.mp hf
              refine g_callV' (pc := 84) hla C (c_X6_end l D cI cS a v1 v26 v84 h84) gg_RX6_49 hd_X6_end (by decide) rfl rfl rfl rfl (Nat.le_of_ble_eq_true rfl) dX6_beside_84 (seM_0 cI cS a v1) (seM_0 cI cS a v1).symm [.int v84] rfl ?_
              refine g_goto (pc := 87) C 91 dX6_beside_87 (by decide) ?_
              refine g_sub [3, 5, 1, 0] (lv' := [(0, .ref a.1), (2, .int x2), (4, .int v32), (5, .int v72)]) rfl ?_
              exact J91 v1 x2 v32 v72 v84 hf
          · have hf := k_pos c64 hf
            refine g_bipush (pc := 67) C (-3) dX6_beside_67 (by decide) ?_
            have e := Option.some.inj hf; subst e
            exact g_ri (pc := 69) C rfl (flM cI cS a v1) dX6_beside_69
      · have hf := k_neg c39 hf
        refine g_bipush (pc := 42) C (-2) dX6_beside_42 (by decide) ?_
        have e := Option.some.inj hf; subst e
        exact g_ri (pc := 44) C rfl (flM cI cS a v1) dX6_beside_44
    · have hf := k_pos c20 hf
      refine g_iconst (pc := 23) C (-1) dX6_beside_23 (by decide) ?_
      have e := Option.some.inj hf; subst e
      exact g_ri (pc := 24) C rfl (flM cI cS a v1) dX6_beside_24
set_option maxHeartbeats 4000000 in
set_option maxRecDepth 100000 in
theorem c_X6_goes (l : Launch) (D : va_G) (cI cS : ClassId) (a : aM) (m : MD) (out : Int32 × MD) (hf : M_goes m = some out) : kM l D (kTy cI cS) yX6_goes ct_X6_goes rm_X6_goes [.ref a.1] [wM cI cS a m] (kEq (some (.int out.1)) [wM cI cS a out.2]) := by
  refine k_methodE cX6_goes 4 (some .int) RX6 rfl [(0, .ref a.1)] rfl (by decide +kernel) (Nat.le_of_ble_eq_true rfl) (fun κ A hla C => ?_)
  refine g_chunks (flM cI cS a m).symm ?_
  have J48 : ∀ (m : MD) (x1 : Int32) (x2 : Int32) (s0 : Int32), M_goes_J48 m x1 x2 s0 = some out → kG κ D A 4 0 0 (kF κ D A (some (.int out.1)) [wM cI cS a out.2]) (csM cI cS a m) [(0, .ref a.1), (1, .int x1), (2, .int x2)] 48 [.int s0] := by
    intro m x1 x2 s0 hf; rw [M_goes_J48] at hf
    refine g_istore_n (pc := 48) C [(3, .int s0), (0, .ref a.1), (1, .int x1), (2, .int x2)] dX6_goes_48 (by decide) rfl ?_
    refine g_aload_n (pc := 49) C 1 dX6_goes_49 rfl ?_
    refine gf_RX6_7 (pc := 50) C 0 rfl dX6_goes_50 ?_
    refine g_iconst (pc := 53) C 2 dX6_goes_53 (by decide) ?_
    refine g_aload_n (pc := 54) C 1 dX6_goes_54 rfl ?_
    refine g_iload_n (pc := 55) C 0 dX6_goes_55 rfl ?_
    obtain ⟨v56, h56, hf⟩ := Option.bind_eq_some_iff.mp hf
    refine g_callV' (pc := 56) hla C (c_X6_own l D cI cS a m s0 v56 h56) gg_RX6_39 hd_X6_own (by decide) rfl rfl rfl rfl (Nat.le_of_ble_eq_true rfl) dX6_goes_56 (seM_0 cI cS a m) (seM_0 cI cS a m).symm [.int v56, .int 2, .ref a.2.1] rfl ?_
    obtain ⟨u59, e59, hf⟩ := Option.bind_eq_some_iff.mp hf
    refine g_iastU (pc := 59) C 1 0 u59 (Option.some.inj e59) (csM cI cS a (u59, m.2.1, m.2.2.1, m.2.2.2.1, m.2.2.2.2.1, m.2.2.2.2.2.1, m.2.2.2.2.2.2.1, m.2.2.2.2.2.2.2.1, m.2.2.2.2.2.2.2.2.1, m.2.2.2.2.2.2.2.2.2.1, m.2.2.2.2.2.2.2.2.2.2.1, m.2.2.2.2.2.2.2.2.2.2.2)) rfl rfl (by decide) rfl dX6_goes_59 ?_
    refine g_aload_n (pc := 60) C 1 dX6_goes_60 rfl ?_
    refine g_iload_n (pc := 61) C 2 dX6_goes_61 rfl ?_
    refine g_iload_n (pc := 62) C 3 dX6_goes_62 rfl ?_
    obtain ⟨v63, h63, hf⟩ := Option.bind_eq_some_iff.mp hf
    refine g_callV' (pc := 63) hla C (c_X6_closes l D cI cS a (u59, m.2.1, m.2.2.1, m.2.2.2.1, m.2.2.2.2.1, m.2.2.2.2.2.1, m.2.2.2.2.2.2.1, m.2.2.2.2.2.2.2.1, m.2.2.2.2.2.2.2.2.1, m.2.2.2.2.2.2.2.2.2.1, m.2.2.2.2.2.2.2.2.2.2.1, m.2.2.2.2.2.2.2.2.2.2.2) x1 x2 v63 h63) gg_RX6_94 hd_X6_closes (by decide) rfl rfl rfl rfl (Nat.le_of_ble_eq_true rfl) dX6_goes_63 (seM_0 cI cS a (u59, m.2.1, m.2.2.1, m.2.2.2.1, m.2.2.2.2.1, m.2.2.2.2.2.1, m.2.2.2.2.2.2.1, m.2.2.2.2.2.2.2.1, m.2.2.2.2.2.2.2.2.1, m.2.2.2.2.2.2.2.2.2.1, m.2.2.2.2.2.2.2.2.2.2.1, m.2.2.2.2.2.2.2.2.2.2.2)) (seM_0 cI cS a v63).symm [] rfl ?_
    refine g_iload_n (pc := 66) C 3 dX6_goes_66 rfl ?_
    have e := Option.some.inj hf; subst e
    exact g_ri (pc := 67) C rfl (flM cI cS a v63) dX6_goes_67
  have J34 : ∀ (m : MD) (x1 : Int32) (x2 : Int32) (s0 : Int32), M_goes_J34 m x1 x2 s0 = some out → kG κ D A 4 0 0 (kF κ D A (some (.int out.1)) [wM cI cS a out.2]) (csM cI cS a m) [(0, .ref a.1), (1, .int x1), (2, .int x2)] 34 [.int s0] := by
    intro m x1 x2 s0 hf; rw [M_goes_J34] at hf
    refine g_istore_n (pc := 34) C [(3, .int s0), (0, .ref a.1), (1, .int x1), (2, .int x2)] dX6_goes_34 (by decide) rfl ?_
    refine g_iload_n (pc := 35) C 0 dX6_goes_35 rfl ?_
    refine g_if_ge (pc := 36) C 47 dX6_goes_36 (by decide) (fun (c36 : 0 ≤ s0) => ?_) (fun (c36 : ¬ 0 ≤ s0) => ?_)
    · have hf := k_pos c36 hf
      refine g_iload_n (pc := 47) C 0 dX6_goes_47 rfl ?_
      refine g_sub [1, 2, 3] (lv' := [(0, .ref a.1), (1, .int x1), (2, .int x2)]) rfl ?_
      exact J48 m x1 x2 s0 hf
    · have hf := k_neg c36 hf
      refine g_aload_n (pc := 39) C 1 dX6_goes_39 rfl ?_
      refine g_iload_n (pc := 40) C 2 dX6_goes_40 rfl ?_
      obtain ⟨v41, h41, hf⟩ := Option.bind_eq_some_iff.mp hf
      refine g_callV' (pc := 41) hla C (c_X6_above l D cI cS a m x1 v41 h41) gg_RX6_52 hd_X6_above (by decide) rfl rfl rfl rfl (Nat.le_of_ble_eq_true rfl) dX6_goes_41 (seM_0 cI cS a m) (seM_0 cI cS a m).symm [.int v41] rfl ?_
      refine g_goto (pc := 44) C 48 dX6_goes_44 (by decide) ?_
      refine g_sub [1, 2, 3] (lv' := [(0, .ref a.1), (1, .int x1), (2, .int x2)]) rfl ?_
      exact J48 m x1 x2 v41 hf
  rw [M_goes] at hf
  refine g_aload_n (pc := 0) C 0 dX6_goes_0 rfl ?_
  obtain ⟨v1, h1, hf⟩ := Option.bind_eq_some_iff.mp hf
  refine g_callV' (pc := 1) hla C (c_X6_place l D cI cS a m v1 h1) gg_RX6_58 hd_X6_place (by decide) rfl rfl rfl rfl (Nat.le_of_ble_eq_true rfl) dX6_goes_1 (seM_0 cI cS a m) (seM_0 cI cS a m).symm [.int v1] rfl ?_
  refine g_istore_n (pc := 4) C [(1, .int v1), (0, .ref a.1)] dX6_goes_4 (by decide) rfl ?_
  refine g_aload_n (pc := 5) C 1 dX6_goes_5 rfl ?_
  refine g_iload_n (pc := 6) C 0 dX6_goes_6 rfl ?_
  obtain ⟨v7, h7, hf⟩ := Option.bind_eq_some_iff.mp hf
  refine g_callV' (pc := 7) hla C (c_X6_end l D cI cS a m v1 v7 h7) gg_RX6_49 hd_X6_end (by decide) rfl rfl rfl rfl (Nat.le_of_ble_eq_true rfl) dX6_goes_7 (seM_0 cI cS a m) (seM_0 cI cS a m).symm [.int v7] rfl ?_
  refine g_iload_n (pc := 10) C 0 dX6_goes_10 rfl ?_
  refine g_isub (pc := 11) C dX6_goes_11 ?_
  refine g_istore_n (pc := 12) C [(2, .int (v7 - v1)), (1, .int v1), (0, .ref a.1)] dX6_goes_12 (by decide) rfl ?_
  refine g_aload_n (pc := 13) C 2 dX6_goes_13 rfl ?_
  refine g_iload_n (pc := 14) C 1 dX6_goes_14 rfl ?_
  refine g_iconst (pc := 15) C 1 dX6_goes_15 (by decide) ?_
  obtain ⟨v16, h16, hf⟩ := Option.bind_eq_some_iff.mp hf
  refine g_callV' (pc := 16) hla C (c_X6_besides l D cI cS a m v1 1 v16 h16) gg_RX6_75 hd_X6_besides (by decide) rfl rfl rfl rfl (Nat.le_of_ble_eq_true rfl) dX6_goes_16 (seM_0 cI cS a m) (seM_0 cI cS a m).symm [.int v16] rfl ?_
  refine g_istore_n (pc := 19) C [(3, .int v16), (2, .int (v7 - v1)), (1, .int v1), (0, .ref a.1)] dX6_goes_19 (by decide) rfl ?_
  refine g_iload_n (pc := 20) C 0 dX6_goes_20 rfl ?_
  refine g_if_ge (pc := 21) C 33 dX6_goes_21 (by decide) (fun (c21 : 0 ≤ v16) => ?_) (fun (c21 : ¬ 0 ≤ v16) => ?_)
  · have hf := k_pos c21 hf
    refine g_iload_n (pc := 33) C 0 dX6_goes_33 rfl ?_
    refine g_sub [3, 2, 1] (lv' := [(0, .ref a.1), (1, .int v1), (2, .int (v7 - v1))]) rfl ?_
    exact J34 m v1 (v7 - v1) v16 hf
  · have hf := k_neg c21 hf
    refine g_aload_n (pc := 24) C 3 dX6_goes_24 rfl ?_
    refine g_iload_n (pc := 25) C 2 dX6_goes_25 rfl ?_
    refine g_iconst (pc := 26) C 0 dX6_goes_26 (by decide) ?_
    obtain ⟨v27, h27, hf⟩ := Option.bind_eq_some_iff.mp hf
    refine g_callV' (pc := 27) hla C (c_X6_besides l D cI cS a m v1 0 v27 h27) gg_RX6_75 hd_X6_besides (by decide) rfl rfl rfl rfl (Nat.le_of_ble_eq_true rfl) dX6_goes_27 (seM_0 cI cS a m) (seM_0 cI cS a m).symm [.int v27] rfl ?_
    refine g_goto (pc := 30) C 34 dX6_goes_30 (by decide) ?_
    refine g_sub [3, 2, 1] (lv' := [(0, .ref a.1), (1, .int v1), (2, .int (v7 - v1))]) rfl ?_
    exact J34 m v1 (v7 - v1) v27 hf
set_option maxHeartbeats 4000000 in
set_option maxRecDepth 100000 in
theorem c_X6_clips (l : Launch) (D : va_G) (cI cS : ClassId) (a : aM) (m : MD) (out : MD) (hf : M_clips m = some out) : kM l D (kTy cI cS) yX6_clips ct_X6_clips rm_X6_clips [.ref a.1] [wM cI cS a m] (kEq (none) [wM cI cS a out]) := by
  refine k_methodE cX6_clips 3 none RX6 rfl [(0, .ref a.1)] rfl (by decide +kernel) (Nat.le_of_ble_eq_true rfl) (fun κ A hla C => ?_)
  refine g_chunks (flM cI cS a m).symm ?_
  have L20 : ∀ (fu : Nat) (m : MD) (x1 : Int32) (x2 : Int32), M_clips_L20 fu m x1 x2 = some out → kG κ D A 3 0 0 (kF κ D A (none) [wM cI cS a out]) (csM cI cS a m) [(0, .ref a.1), (1, .int x1), (2, .int x2)] 20 [] := by
    intro fu; induction fu with
    | zero => intro m x1 x2 hf; rw [M_clips_L20] at hf; cases hf
    | succ fu ih =>
      intro m x1 x2 hf; rw [M_clips_L20] at hf
      refine g_iload_n (pc := 20) C 2 dX6_clips_20 rfl ?_
      refine g_aload_n (pc := 21) C 0 dX6_clips_21 rfl ?_
      refine gf_RX6_7 (pc := 22) C 0 rfl dX6_clips_22 ?_
      refine g_iconst (pc := 25) C 4 dX6_clips_25 (by decide) ?_
      refine g_iald (pc := 26) C 1 0 rfl rfl (by decide) dX6_clips_26 ?_
      refine g_icmp_ge (pc := 27) C 82 dX6_clips_27 (by decide) (fun (c27 : (m.1 (ix 4)) ≤ x2) => ?_) (fun (c27 : ¬ (m.1 (ix 4)) ≤ x2) => ?_)
      · have hf := k_pos c27 hf
        have e := Option.some.inj hf; subst e
        exact g_rv (pc := 82) C rfl (flM cI cS a m) dX6_clips_82
      · have hf := k_neg c27 hf
        refine g_aload_n (pc := 30) C 0 dX6_clips_30 rfl ?_
        refine gf_RX6_7 (pc := 31) C 0 rfl dX6_clips_31 ?_
        refine g_sipush (pc := 34) C 138 dX6_clips_34 (by decide) ?_
        refine g_iconst (pc := 37) C 2 dX6_clips_37 (by decide) ?_
        refine g_iload_n (pc := 38) C 2 dX6_clips_38 rfl ?_
        refine g_imul (pc := 39) C dX6_clips_39 ?_
        refine g_iadd (pc := 40) C dX6_clips_40 ?_
        refine g_aload_n (pc := 41) C 0 dX6_clips_41 rfl ?_
        refine g_iload_n (pc := 42) C 1 dX6_clips_42 rfl ?_
        refine g_iload_n (pc := 43) C 2 dX6_clips_43 rfl ?_
        refine g_iadd (pc := 44) C dX6_clips_44 ?_
        obtain ⟨v45, h45, hf⟩ := Option.bind_eq_some_iff.mp hf
        refine g_callV' (pc := 45) hla C (c_X6_sign l D cI cS a m (x1 + x2) v45 h45) gg_RX6_83 hd_X6_sign (by decide) rfl rfl rfl rfl (Nat.le_of_ble_eq_true rfl) dX6_clips_45 (seM_0 cI cS a m) (seM_0 cI cS a m).symm [.int v45, .int (138 + (2 * x2)), .ref a.2.1] rfl ?_
        obtain ⟨g48, hf⟩ := k_guard hf
        obtain ⟨u48, e48, hf⟩ := Option.bind_eq_some_iff.mp hf
        refine g_iastU (pc := 48) C 1 0 u48 (Option.some.inj e48) (csM cI cS a (u48, m.2.1, m.2.2.1, m.2.2.2.1, m.2.2.2.2.1, m.2.2.2.2.2.1, m.2.2.2.2.2.2.1, m.2.2.2.2.2.2.2.1, m.2.2.2.2.2.2.2.2.1, m.2.2.2.2.2.2.2.2.2.1, m.2.2.2.2.2.2.2.2.2.2.1, m.2.2.2.2.2.2.2.2.2.2.2)) rfl rfl g48 rfl dX6_clips_48 ?_
        refine g_aload_n (pc := 49) C 0 dX6_clips_49 rfl ?_
        refine gf_RX6_7 (pc := 50) C 0 rfl dX6_clips_50 ?_
        refine g_sipush (pc := 53) C 138 dX6_clips_53 (by decide) ?_
        refine g_iconst (pc := 56) C 2 dX6_clips_56 (by decide) ?_
        refine g_iload_n (pc := 57) C 2 dX6_clips_57 rfl ?_
        refine g_imul (pc := 58) C dX6_clips_58 ?_
        refine g_iadd (pc := 59) C dX6_clips_59 ?_
        refine g_iconst (pc := 60) C 1 dX6_clips_60 (by decide) ?_
        refine g_iadd (pc := 61) C dX6_clips_61 ?_
        refine g_aload_n (pc := 62) C 0 dX6_clips_62 rfl ?_
        refine g_iload_n (pc := 63) C 1 dX6_clips_63 rfl ?_
        refine g_iload_n (pc := 64) C 2 dX6_clips_64 rfl ?_
        refine g_iadd (pc := 65) C dX6_clips_65 ?_
        obtain ⟨v66, h66, hf⟩ := Option.bind_eq_some_iff.mp hf
        refine g_callV' (pc := 66) hla C (c_X6_deep l D cI cS a (u48, m.2.1, m.2.2.1, m.2.2.2.1, m.2.2.2.2.1, m.2.2.2.2.2.1, m.2.2.2.2.2.2.1, m.2.2.2.2.2.2.2.1, m.2.2.2.2.2.2.2.2.1, m.2.2.2.2.2.2.2.2.2.1, m.2.2.2.2.2.2.2.2.2.2.1, m.2.2.2.2.2.2.2.2.2.2.2) (x1 + x2) v66 h66) gg_RX6_46 hd_X6_deep (by decide) rfl rfl rfl rfl (Nat.le_of_ble_eq_true rfl) dX6_clips_66 (seM_0 cI cS a (u48, m.2.1, m.2.2.1, m.2.2.2.1, m.2.2.2.2.1, m.2.2.2.2.2.1, m.2.2.2.2.2.2.1, m.2.2.2.2.2.2.2.1, m.2.2.2.2.2.2.2.2.1, m.2.2.2.2.2.2.2.2.2.1, m.2.2.2.2.2.2.2.2.2.2.1, m.2.2.2.2.2.2.2.2.2.2.2)) (seM_0 cI cS a (u48, m.2.1, m.2.2.1, m.2.2.2.1, m.2.2.2.2.1, m.2.2.2.2.2.1, m.2.2.2.2.2.2.1, m.2.2.2.2.2.2.2.1, m.2.2.2.2.2.2.2.2.1, m.2.2.2.2.2.2.2.2.2.1, m.2.2.2.2.2.2.2.2.2.2.1, m.2.2.2.2.2.2.2.2.2.2.2)).symm [.int v66, .int ((138 + (2 * x2)) + 1), .ref a.2.1] rfl ?_
        refine g_aload_n (pc := 69) C 0 dX6_clips_69 rfl ?_
        refine g_iload_n (pc := 70) C 1 dX6_clips_70 rfl ?_
        obtain ⟨v71, h71, hf⟩ := Option.bind_eq_some_iff.mp hf
        refine g_callV' (pc := 71) hla C (c_X6_deep l D cI cS a (u48, m.2.1, m.2.2.1, m.2.2.2.1, m.2.2.2.2.1, m.2.2.2.2.2.1, m.2.2.2.2.2.2.1, m.2.2.2.2.2.2.2.1, m.2.2.2.2.2.2.2.2.1, m.2.2.2.2.2.2.2.2.2.1, m.2.2.2.2.2.2.2.2.2.2.1, m.2.2.2.2.2.2.2.2.2.2.2) x1 v71 h71) gg_RX6_46 hd_X6_deep (by decide) rfl rfl rfl rfl (Nat.le_of_ble_eq_true rfl) dX6_clips_71 (seM_0 cI cS a (u48, m.2.1, m.2.2.1, m.2.2.2.1, m.2.2.2.2.1, m.2.2.2.2.2.1, m.2.2.2.2.2.2.1, m.2.2.2.2.2.2.2.1, m.2.2.2.2.2.2.2.2.1, m.2.2.2.2.2.2.2.2.2.1, m.2.2.2.2.2.2.2.2.2.2.1, m.2.2.2.2.2.2.2.2.2.2.2)) (seM_0 cI cS a (u48, m.2.1, m.2.2.1, m.2.2.2.1, m.2.2.2.2.1, m.2.2.2.2.2.1, m.2.2.2.2.2.2.1, m.2.2.2.2.2.2.2.1, m.2.2.2.2.2.2.2.2.1, m.2.2.2.2.2.2.2.2.2.1, m.2.2.2.2.2.2.2.2.2.2.1, m.2.2.2.2.2.2.2.2.2.2.2)).symm [.int v71, .int v66, .int ((138 + (2 * x2)) + 1), .ref a.2.1] rfl ?_
        refine g_isub (pc := 74) C dX6_clips_74 ?_
        obtain ⟨g75, hf⟩ := k_guard hf
        obtain ⟨u75, e75, hf⟩ := Option.bind_eq_some_iff.mp hf
        refine g_iastU (pc := 75) C 1 0 u75 (Option.some.inj e75) (csM cI cS a (u75, m.2.1, m.2.2.1, m.2.2.2.1, m.2.2.2.2.1, m.2.2.2.2.2.1, m.2.2.2.2.2.2.1, m.2.2.2.2.2.2.2.1, m.2.2.2.2.2.2.2.2.1, m.2.2.2.2.2.2.2.2.2.1, m.2.2.2.2.2.2.2.2.2.2.1, m.2.2.2.2.2.2.2.2.2.2.2)) rfl rfl g75 rfl dX6_clips_75 ?_
        refine g_iinc (pc := 76) C 2 (x2 + 1) [(2, .int (x2 + 1)), (0, .ref a.1), (1, .int x1)] dX6_clips_76 rfl (congrArg (HAdd.hAdd _) (by decide)) (by decide) rfl ?_
        refine g_goto (pc := 79) C 20 dX6_clips_79 (by decide) ?_
        refine g_sub [1, 2, 0] (lv' := [(0, .ref a.1), (1, .int x1), (2, .int (x2 + 1))]) rfl ?_
        exact ih (u75, m.2.1, m.2.2.1, m.2.2.2.1, m.2.2.2.2.1, m.2.2.2.2.2.1, m.2.2.2.2.2.2.1, m.2.2.2.2.2.2.2.1, m.2.2.2.2.2.2.2.2.1, m.2.2.2.2.2.2.2.2.2.1, m.2.2.2.2.2.2.2.2.2.2.1, m.2.2.2.2.2.2.2.2.2.2.2) x1 (x2 + 1) hf
  rw [M_clips] at hf
  refine g_aload_n (pc := 0) C 0 dX6_clips_0 rfl ?_
  obtain ⟨v1, h1, hf⟩ := Option.bind_eq_some_iff.mp hf
  refine g_callV' (pc := 1) hla C (c_X6_place l D cI cS a m v1 h1) gg_RX6_58 hd_X6_place (by decide) rfl rfl rfl rfl (Nat.le_of_ble_eq_true rfl) dX6_clips_1 (seM_0 cI cS a m) (seM_0 cI cS a m).symm [.int v1] rfl ?_
  refine g_istore_n (pc := 4) C [(1, .int v1), (0, .ref a.1)] dX6_clips_4 (by decide) rfl ?_
  refine g_aload_n (pc := 5) C 1 dX6_clips_5 rfl ?_
  refine gf_RX6_7 (pc := 6) C 0 rfl dX6_clips_6 ?_
  refine g_iconst (pc := 9) C 4 dX6_clips_9 (by decide) ?_
  refine g_aload_n (pc := 10) C 1 dX6_clips_10 rfl ?_
  refine g_iload_n (pc := 11) C 0 dX6_clips_11 rfl ?_
  obtain ⟨v12, h12, hf⟩ := Option.bind_eq_some_iff.mp hf
  refine g_callV' (pc := 12) hla C (c_X6_end l D cI cS a m v1 v12 h12) gg_RX6_49 hd_X6_end (by decide) rfl rfl rfl rfl (Nat.le_of_ble_eq_true rfl) dX6_clips_12 (seM_0 cI cS a m) (seM_0 cI cS a m).symm [.int v12, .int 4, .ref a.2.1] rfl ?_
  refine g_iload_n (pc := 15) C 0 dX6_clips_15 rfl ?_
  refine g_isub (pc := 16) C dX6_clips_16 ?_
  obtain ⟨u17, e17, hf⟩ := Option.bind_eq_some_iff.mp hf
  refine g_iastU (pc := 17) C 1 0 u17 (Option.some.inj e17) (csM cI cS a (u17, m.2.1, m.2.2.1, m.2.2.2.1, m.2.2.2.2.1, m.2.2.2.2.2.1, m.2.2.2.2.2.2.1, m.2.2.2.2.2.2.2.1, m.2.2.2.2.2.2.2.2.1, m.2.2.2.2.2.2.2.2.2.1, m.2.2.2.2.2.2.2.2.2.2.1, m.2.2.2.2.2.2.2.2.2.2.2)) rfl rfl (by decide) rfl dX6_clips_17 ?_
  refine g_iconst (pc := 18) C 0 dX6_clips_18 (by decide) ?_
  refine g_istore_n (pc := 19) C [(2, .int 0), (1, .int v1), (0, .ref a.1)] dX6_clips_19 (by decide) rfl ?_
  refine g_sub [2, 1, 0] (lv' := [(0, .ref a.1), (1, .int v1), (2, .int 0)]) rfl ?_
  exact L20 1000 (u17, m.2.1, m.2.2.1, m.2.2.2.1, m.2.2.2.2.1, m.2.2.2.2.2.1, m.2.2.2.2.2.2.1, m.2.2.2.2.2.2.2.1, m.2.2.2.2.2.2.2.2.1, m.2.2.2.2.2.2.2.2.2.1, m.2.2.2.2.2.2.2.2.2.2.1, m.2.2.2.2.2.2.2.2.2.2.2) v1 0 hf
set_option maxHeartbeats 4000000 in
set_option maxRecDepth 100000 in
theorem c_X6_forgets (l : Launch) (D : va_G) (cI cS : ClassId) (a : aM) (m : MD) (out : MD) (hf : M_forgets m = some out) : kM l D (kTy cI cS) yX6_forgets ct_X6_forgets rm_X6_forgets [.ref a.1] [wM cI cS a m] (kEq (none) [wM cI cS a out]) := by
  refine k_methodE cX6_forgets 2 none RX6 rfl [(0, .ref a.1)] rfl (by decide +kernel) (Nat.le_of_ble_eq_true rfl) (fun κ A hla C => ?_)
  refine g_chunks (flM cI cS a m).symm ?_
  have L2 : ∀ (fu : Nat) (m : MD) (x1 : Int32), M_forgets_L2 fu m x1 = some out → kG κ D A 2 0 0 (kF κ D A (none) [wM cI cS a out]) (csM cI cS a m) [(0, .ref a.1), (1, .int x1)] 2 [] := by
    intro fu; induction fu with
    | zero => intro m x1 hf; rw [M_forgets_L2] at hf; cases hf
    | succ fu ih =>
      intro m x1 hf; rw [M_forgets_L2] at hf
      refine g_iload_n (pc := 2) C 1 dX6_forgets_2 rfl ?_
      refine g_iconst (pc := 3) C 4 dX6_forgets_3 (by decide) ?_
      refine g_icmp_ge (pc := 4) C 48 dX6_forgets_4 (by decide) (fun (c4 : 4 ≤ x1) => ?_) (fun (c4 : ¬ 4 ≤ x1) => ?_)
      · have hf := k_pos c4 hf
        have e := Option.some.inj hf; subst e
        exact g_rv (pc := 48) C rfl (flM cI cS a m) dX6_forgets_48
      · have hf := k_neg c4 hf
        refine g_aload_n (pc := 7) C 0 dX6_forgets_7 rfl ?_
        refine gf_RX6_7 (pc := 8) C 0 rfl dX6_forgets_8 ?_
        refine g_iconst (pc := 11) C 5 dX6_forgets_11 (by decide) ?_
        refine g_iload_n (pc := 12) C 1 dX6_forgets_12 rfl ?_
        refine g_iadd (pc := 13) C dX6_forgets_13 ?_
        refine g_aload_n (pc := 14) C 0 dX6_forgets_14 rfl ?_
        refine g_aload_n (pc := 15) C 0 dX6_forgets_15 rfl ?_
        refine gf_RX6_7 (pc := 16) C 0 rfl dX6_forgets_16 ?_
        refine g_iconst (pc := 19) C 5 dX6_forgets_19 (by decide) ?_
        refine g_iload_n (pc := 20) C 1 dX6_forgets_20 rfl ?_
        refine g_iadd (pc := 21) C dX6_forgets_21 ?_
        obtain ⟨g22, hf⟩ := k_guard hf
        refine g_iald (pc := 22) C 1 0 rfl rfl g22 dX6_forgets_22 ?_
        obtain ⟨v23, h23, hf⟩ := Option.bind_eq_some_iff.mp hf
        refine g_callV' (pc := 23) hla C (c_X6_numberOf l D cI cS a m (m.1 (ix (5 + x1))) v23 h23) gg_RX6_43 hd_X6_numberOf (by decide) rfl rfl rfl rfl (Nat.le_of_ble_eq_true rfl) dX6_forgets_23 (seM_0 cI cS a m) (seM_0 cI cS a m).symm [.int v23, .int (5 + x1), .ref a.2.1] rfl ?_
        refine g_if_ge (pc := 26) C 33 dX6_forgets_26 (by decide) (fun (c26 : 0 ≤ v23) => ?_) (fun (c26 : ¬ 0 ≤ v23) => ?_)
        · have hf := k_pos c26 hf
          refine g_aload_n (pc := 33) C 0 dX6_forgets_33 rfl ?_
          refine gf_RX6_7 (pc := 34) C 0 rfl dX6_forgets_34 ?_
          refine g_iconst (pc := 37) C 5 dX6_forgets_37 (by decide) ?_
          refine g_iload_n (pc := 38) C 1 dX6_forgets_38 rfl ?_
          refine g_iadd (pc := 39) C dX6_forgets_39 ?_
          obtain ⟨g40, hf⟩ := k_guard hf
          refine g_iald (pc := 40) C 1 0 rfl rfl g40 dX6_forgets_40 ?_
          obtain ⟨g41, hf⟩ := k_guard hf
          obtain ⟨u41, e41, hf⟩ := Option.bind_eq_some_iff.mp hf
          refine g_iastU (pc := 41) C 1 0 u41 (Option.some.inj e41) (csM cI cS a (u41, m.2.1, m.2.2.1, m.2.2.2.1, m.2.2.2.2.1, m.2.2.2.2.2.1, m.2.2.2.2.2.2.1, m.2.2.2.2.2.2.2.1, m.2.2.2.2.2.2.2.2.1, m.2.2.2.2.2.2.2.2.2.1, m.2.2.2.2.2.2.2.2.2.2.1, m.2.2.2.2.2.2.2.2.2.2.2)) rfl rfl g41 rfl dX6_forgets_41 ?_
          refine g_iinc (pc := 42) C 1 (x1 + 1) [(1, .int (x1 + 1)), (0, .ref a.1)] dX6_forgets_42 rfl (congrArg (HAdd.hAdd _) (by decide)) (by decide) rfl ?_
          refine g_goto (pc := 45) C 2 dX6_forgets_45 (by decide) ?_
          refine g_sub [1, 0] (lv' := [(0, .ref a.1), (1, .int (x1 + 1))]) rfl ?_
          exact ih (u41, m.2.1, m.2.2.1, m.2.2.2.1, m.2.2.2.2.1, m.2.2.2.2.2.1, m.2.2.2.2.2.2.1, m.2.2.2.2.2.2.2.1, m.2.2.2.2.2.2.2.2.1, m.2.2.2.2.2.2.2.2.2.1, m.2.2.2.2.2.2.2.2.2.2.1, m.2.2.2.2.2.2.2.2.2.2.2) (x1 + 1) hf
        · have hf := k_neg c26 hf
          refine g_iconst (pc := 29) C (-1) dX6_forgets_29 (by decide) ?_
          refine g_goto (pc := 30) C 41 dX6_forgets_30 (by decide) ?_
          obtain ⟨g41, hf⟩ := k_guard hf
          obtain ⟨u41, e41, hf⟩ := Option.bind_eq_some_iff.mp hf
          refine g_iastU (pc := 41) C 1 0 u41 (Option.some.inj e41) (csM cI cS a (u41, m.2.1, m.2.2.1, m.2.2.2.1, m.2.2.2.2.1, m.2.2.2.2.2.1, m.2.2.2.2.2.2.1, m.2.2.2.2.2.2.2.1, m.2.2.2.2.2.2.2.2.1, m.2.2.2.2.2.2.2.2.2.1, m.2.2.2.2.2.2.2.2.2.2.1, m.2.2.2.2.2.2.2.2.2.2.2)) rfl rfl g41 rfl dX6_forgets_41 ?_
          refine g_iinc (pc := 42) C 1 (x1 + 1) [(1, .int (x1 + 1)), (0, .ref a.1)] dX6_forgets_42 rfl (congrArg (HAdd.hAdd _) (by decide)) (by decide) rfl ?_
          refine g_goto (pc := 45) C 2 dX6_forgets_45 (by decide) ?_
          refine g_sub [1, 0] (lv' := [(0, .ref a.1), (1, .int (x1 + 1))]) rfl ?_
          exact ih (u41, m.2.1, m.2.2.1, m.2.2.2.1, m.2.2.2.2.1, m.2.2.2.2.2.1, m.2.2.2.2.2.2.1, m.2.2.2.2.2.2.2.1, m.2.2.2.2.2.2.2.2.1, m.2.2.2.2.2.2.2.2.2.1, m.2.2.2.2.2.2.2.2.2.2.1, m.2.2.2.2.2.2.2.2.2.2.2) (x1 + 1) hf
  rw [M_forgets] at hf
  refine g_iconst (pc := 0) C 0 dX6_forgets_0 (by decide) ?_
  refine g_istore_n (pc := 1) C [(1, .int 0), (0, .ref a.1)] dX6_forgets_1 (by decide) rfl ?_
  refine g_sub [1, 0] (lv' := [(0, .ref a.1), (1, .int 0)]) rfl ?_
  exact L2 1000 m 0 hf
set_option maxHeartbeats 4000000 in
set_option maxRecDepth 100000 in
theorem c_X6_delete (l : Launch) (D : va_G) (cI cS : ClassId) (a : aM) (m : MD) (out : Int32 × MD) (hf : M_delete m = some out) : kM l D (kTy cI cS) yX6_delete ct_X6_delete rm_X6_delete [.ref a.1] [wM cI cS a m] (kEq (some (.int out.1)) [wM cI cS a out.2]) := by
  refine k_methodE cX6_delete 2 (some .int) RX6 rfl [(0, .ref a.1)] rfl (by decide +kernel) (Nat.le_of_ble_eq_true rfl) (fun κ A hla C => ?_)
  refine g_chunks (flM cI cS a m).symm ?_
  rw [M_delete] at hf
  refine g_aload_n (pc := 0) C 0 dX6_delete_0 rfl ?_
  obtain ⟨v1, h1, hf⟩ := Option.bind_eq_some_iff.mp hf
  refine g_callV' (pc := 1) hla C (c_X6_begins l D cI cS a m v1 h1) gg_RX6_55 hd_X6_begins (by decide) rfl rfl rfl rfl (Nat.le_of_ble_eq_true rfl) dX6_delete_1 (seM_0 cI cS a m) (seM_0 cI cS a v1).symm [] rfl ?_
  refine g_aload_n (pc := 4) C 0 dX6_delete_4 rfl ?_
  refine g_aload_n (pc := 5) C 0 dX6_delete_5 rfl ?_
  obtain ⟨v6, h6, hf⟩ := Option.bind_eq_some_iff.mp hf
  refine g_callV' (pc := 6) hla C (c_X6_place l D cI cS a v1 v6 h6) gg_RX6_58 hd_X6_place (by decide) rfl rfl rfl rfl (Nat.le_of_ble_eq_true rfl) dX6_delete_6 (seM_0 cI cS a v1) (seM_0 cI cS a v1).symm [.int v6, .ref a.1] rfl ?_
  obtain ⟨v9, h9, hf⟩ := Option.bind_eq_some_iff.mp hf
  refine g_callV' (pc := 9) hla C (c_X6_deep l D cI cS a v1 v6 v9 h9) gg_RX6_46 hd_X6_deep (by decide) rfl rfl rfl rfl (Nat.le_of_ble_eq_true rfl) dX6_delete_9 (seM_0 cI cS a v1) (seM_0 cI cS a v1).symm [.int v9] rfl ?_
  refine g_if_ne (pc := 12) C 18 dX6_delete_12 (by decide) (fun (c12 : ¬ v9 = 0) => ?_) (fun (c12 : v9 = 0) => ?_)
  · have hf := k_neg c12 hf
    refine g_aload_n (pc := 18) C 0 dX6_delete_18 rfl ?_
    obtain ⟨v19, h19, hf⟩ := Option.bind_eq_some_iff.mp hf
    refine g_callV' (pc := 19) hla C (c_X6_goes l D cI cS a v1 v19 h19) gg_RX6_97 hd_X6_goes (by decide) rfl rfl rfl rfl (Nat.le_of_ble_eq_true rfl) dX6_delete_19 (seM_0 cI cS a v1) (seM_0 cI cS a v19.2).symm [.int v19.1] rfl ?_
    refine g_istore_n (pc := 22) C [(1, .int v19.1), (0, .ref a.1)] dX6_delete_22 (by decide) rfl ?_
    refine g_aload_n (pc := 23) C 1 dX6_delete_23 rfl ?_
    obtain ⟨v24, h24, hf⟩ := Option.bind_eq_some_iff.mp hf
    refine g_callV' (pc := 24) hla C (c_X6_forgets l D cI cS a v19.2 v24 h24) gg_RX6_100 hd_X6_forgets (by decide) rfl rfl rfl rfl (Nat.le_of_ble_eq_true rfl) dX6_delete_24 (seM_0 cI cS a v19.2) (seM_0 cI cS a v24).symm [] rfl ?_
    refine g_aload_n (pc := 27) C 1 dX6_delete_27 rfl ?_
    refine g_iload_n (pc := 28) C 0 dX6_delete_28 rfl ?_
    obtain ⟨v29, h29, hf⟩ := Option.bind_eq_some_iff.mp hf
    refine g_callV' (pc := 29) hla C (c_X6_acted l D cI cS a v24 v19.1 v29 h29) gg_RX6_72 hd_X6_acted (by decide) rfl rfl rfl rfl (Nat.le_of_ble_eq_true rfl) dX6_delete_29 (seM_0 cI cS a v24) (seM_0 cI cS a v29.2).symm [.int v29.1] rfl ?_
    have e := Option.some.inj hf; subst e
    exact g_ri (pc := 32) C rfl (flM cI cS a v29.2) dX6_delete_32
  · have hf := k_pos c12 hf
    refine g_bipush (pc := 15) C (-2) dX6_delete_15 (by decide) ?_
    have e := Option.some.inj hf; subst e
    exact g_ri (pc := 17) C rfl (flM cI cS a v1) dX6_delete_17
set_option maxHeartbeats 4000000 in
set_option maxRecDepth 100000 in
theorem c_X6_cut (l : Launch) (D : va_G) (cI cS : ClassId) (a : aM) (m : MD) (out : Int32 × MD) (hf : M_cut m = some out) : kM l D (kTy cI cS) yX6_cut ct_X6_cut rm_X6_cut [.ref a.1] [wM cI cS a m] (kEq (some (.int out.1)) [wM cI cS a out.2]) := by
  refine k_methodE cX6_cut 2 (some .int) RX6 rfl [(0, .ref a.1)] rfl (by decide +kernel) (Nat.le_of_ble_eq_true rfl) (fun κ A hla C => ?_)
  refine g_chunks (flM cI cS a m).symm ?_
  rw [M_cut] at hf
  refine g_aload_n (pc := 0) C 0 dX6_cut_0 rfl ?_
  obtain ⟨v1, h1, hf⟩ := Option.bind_eq_some_iff.mp hf
  refine g_callV' (pc := 1) hla C (c_X6_begins l D cI cS a m v1 h1) gg_RX6_55 hd_X6_begins (by decide) rfl rfl rfl rfl (Nat.le_of_ble_eq_true rfl) dX6_cut_1 (seM_0 cI cS a m) (seM_0 cI cS a v1).symm [] rfl ?_
  refine g_aload_n (pc := 4) C 0 dX6_cut_4 rfl ?_
  refine g_aload_n (pc := 5) C 0 dX6_cut_5 rfl ?_
  obtain ⟨v6, h6, hf⟩ := Option.bind_eq_some_iff.mp hf
  refine g_callV' (pc := 6) hla C (c_X6_place l D cI cS a v1 v6 h6) gg_RX6_58 hd_X6_place (by decide) rfl rfl rfl rfl (Nat.le_of_ble_eq_true rfl) dX6_cut_6 (seM_0 cI cS a v1) (seM_0 cI cS a v1).symm [.int v6, .ref a.1] rfl ?_
  obtain ⟨v9, h9, hf⟩ := Option.bind_eq_some_iff.mp hf
  refine g_callV' (pc := 9) hla C (c_X6_deep l D cI cS a v1 v6 v9 h9) gg_RX6_46 hd_X6_deep (by decide) rfl rfl rfl rfl (Nat.le_of_ble_eq_true rfl) dX6_cut_9 (seM_0 cI cS a v1) (seM_0 cI cS a v1).symm [.int v9] rfl ?_
  refine g_if_ne (pc := 12) C 18 dX6_cut_12 (by decide) (fun (c12 : ¬ v9 = 0) => ?_) (fun (c12 : v9 = 0) => ?_)
  · have hf := k_neg c12 hf
    refine g_aload_n (pc := 18) C 0 dX6_cut_18 rfl ?_
    obtain ⟨v19, h19, hf⟩ := Option.bind_eq_some_iff.mp hf
    refine g_callV' (pc := 19) hla C (c_X6_clips l D cI cS a v1 v19 h19) gg_RX6_103 hd_X6_clips (by decide) rfl rfl rfl rfl (Nat.le_of_ble_eq_true rfl) dX6_cut_19 (seM_0 cI cS a v1) (seM_0 cI cS a v19).symm [] rfl ?_
    refine g_aload_n (pc := 22) C 0 dX6_cut_22 rfl ?_
    obtain ⟨v23, h23, hf⟩ := Option.bind_eq_some_iff.mp hf
    refine g_callV' (pc := 23) hla C (c_X6_goes l D cI cS a v19 v23 h23) gg_RX6_97 hd_X6_goes (by decide) rfl rfl rfl rfl (Nat.le_of_ble_eq_true rfl) dX6_cut_23 (seM_0 cI cS a v19) (seM_0 cI cS a v23.2).symm [.int v23.1] rfl ?_
    refine g_istore_n (pc := 26) C [(1, .int v23.1), (0, .ref a.1)] dX6_cut_26 (by decide) rfl ?_
    refine g_aload_n (pc := 27) C 1 dX6_cut_27 rfl ?_
    obtain ⟨v28, h28, hf⟩ := Option.bind_eq_some_iff.mp hf
    refine g_callV' (pc := 28) hla C (c_X6_forgets l D cI cS a v23.2 v28 h28) gg_RX6_100 hd_X6_forgets (by decide) rfl rfl rfl rfl (Nat.le_of_ble_eq_true rfl) dX6_cut_28 (seM_0 cI cS a v23.2) (seM_0 cI cS a v28).symm [] rfl ?_
    refine g_aload_n (pc := 31) C 1 dX6_cut_31 rfl ?_
    refine g_iload_n (pc := 32) C 0 dX6_cut_32 rfl ?_
    obtain ⟨v33, h33, hf⟩ := Option.bind_eq_some_iff.mp hf
    refine g_callV' (pc := 33) hla C (c_X6_acted l D cI cS a v28 v23.1 v33 h33) gg_RX6_72 hd_X6_acted (by decide) rfl rfl rfl rfl (Nat.le_of_ble_eq_true rfl) dX6_cut_33 (seM_0 cI cS a v28) (seM_0 cI cS a v33.2).symm [.int v33.1] rfl ?_
    have e := Option.some.inj hf; subst e
    exact g_ri (pc := 36) C rfl (flM cI cS a v33.2) dX6_cut_36
  · have hf := k_pos c12 hf
    refine g_bipush (pc := 15) C (-2) dX6_cut_15 (by decide) ?_
    have e := Option.some.inj hf; subst e
    exact g_ri (pc := 17) C rfl (flM cI cS a v1) dX6_cut_17
set_option maxHeartbeats 4000000 in
set_option maxRecDepth 100000 in
theorem c_X6_copy (l : Launch) (D : va_G) (cI cS : ClassId) (a : aM) (m : MD) (out : Int32 × MD) (hf : M_copy m = some out) : kM l D (kTy cI cS) yX6_copy ct_X6_copy rm_X6_copy [.ref a.1] [wM cI cS a m] (kEq (some (.int out.1)) [wM cI cS a out.2]) := by
  refine k_methodE cX6_copy 1 (some .int) RX6 rfl [(0, .ref a.1)] rfl (by decide +kernel) (Nat.le_of_ble_eq_true rfl) (fun κ A hla C => ?_)
  refine g_chunks (flM cI cS a m).symm ?_
  rw [M_copy] at hf
  refine g_aload_n (pc := 0) C 0 dX6_copy_0 rfl ?_
  obtain ⟨v1, h1, hf⟩ := Option.bind_eq_some_iff.mp hf
  refine g_callV' (pc := 1) hla C (c_X6_begins l D cI cS a m v1 h1) gg_RX6_55 hd_X6_begins (by decide) rfl rfl rfl rfl (Nat.le_of_ble_eq_true rfl) dX6_copy_1 (seM_0 cI cS a m) (seM_0 cI cS a v1).symm [] rfl ?_
  refine g_aload_n (pc := 4) C 0 dX6_copy_4 rfl ?_
  obtain ⟨v5, h5, hf⟩ := Option.bind_eq_some_iff.mp hf
  refine g_callV' (pc := 5) hla C (c_X6_clips l D cI cS a v1 v5 h5) gg_RX6_103 hd_X6_clips (by decide) rfl rfl rfl rfl (Nat.le_of_ble_eq_true rfl) dX6_copy_5 (seM_0 cI cS a v1) (seM_0 cI cS a v5).symm [] rfl ?_
  refine g_aload_n (pc := 8) C 0 dX6_copy_8 rfl ?_
  refine g_aload_n (pc := 9) C 0 dX6_copy_9 rfl ?_
  refine gf_RX6_7 (pc := 10) C 0 rfl dX6_copy_10 ?_
  refine g_iconst (pc := 13) C 4 dX6_copy_13 (by decide) ?_
  refine g_iald (pc := 14) C 1 0 rfl rfl (by decide) dX6_copy_14 ?_
  obtain ⟨v15, h15, hf⟩ := Option.bind_eq_some_iff.mp hf
  refine g_callV' (pc := 15) hla C (c_X6_acted l D cI cS a v5 (v5.1 (ix 4)) v15 h15) gg_RX6_72 hd_X6_acted (by decide) rfl rfl rfl rfl (Nat.le_of_ble_eq_true rfl) dX6_copy_15 (seM_0 cI cS a v5) (seM_0 cI cS a v15.2).symm [.int v15.1] rfl ?_
  have e := Option.some.inj hf; subst e
  exact g_ri (pc := 18) C rfl (flM cI cS a v15.2) dX6_copy_18
