set_option maxHeartbeats 4000000 in
set_option maxRecDepth 100000 in
theorem c_X6_count (l : Launch) (D : va_G) (cI cS : ClassId) (a : aM) (m : MD) (x1 : Int32) (out : Int32) (hf : M_count m x1 = some out) : kM l D (kTy cI cS) yX6_count ct_X6_count rm_X6_count [.ref a.1, .int x1] [wM cI cS a m] (kEq (some (.int out)) [wM cI cS a m]) := by
  refine k_methodE cX6_count 2 (some .int) RX6 rfl [(0, .ref a.1), (1, .int x1)] rfl (by decide +kernel) (Nat.le_of_ble_eq_true rfl) (fun κ A hla C => ?_)
  refine g_chunks (flM cI cS a m).symm ?_
  rw [M_count] at hf
  refine g_iload_n (pc := 0) C 1 dX6_count_0 rfl ?_
  by_cases w0 : x1 = 0
  · have hf := k_pos w0 hf
    refine g_tableIn (pc := 1) C 52 (off := 51) dX6_count_1 (by rw [k_eq (z := 0) (by decide) w0]; decide) (by rw [k_eq (z := 0) (by decide) w0]; decide) (by rw [k_eq (z := 0) (by decide) w0]; rfl) (by decide) ?_
    refine g_aload_n (pc := 52) C 0 dX6_count_52 rfl ?_
    refine gf_RX6_7 (pc := 53) C 0 rfl dX6_count_53 ?_
    refine g_iconst (pc := 56) C 0 dX6_count_56 (by decide) ?_
    refine g_iald (pc := 57) C 1 0 rfl rfl (by decide) dX6_count_57 ?_
    have e := Option.some.inj hf; subst e
    exact g_ri (pc := 58) C rfl (flM cI cS a m) dX6_count_58
  have hf := k_neg w0 hf
  by_cases w1 : x1 = 1
  · have hf := k_pos w1 hf
    refine g_tableIn (pc := 1) C 59 (off := 58) dX6_count_1 (by rw [k_eq (z := 1) (by decide) w1]; decide) (by rw [k_eq (z := 1) (by decide) w1]; decide) (by rw [k_eq (z := 1) (by decide) w1]; rfl) (by decide) ?_
    refine g_aload_n (pc := 59) C 0 dX6_count_59 rfl ?_
    obtain ⟨v60, h60, hf⟩ := Option.bind_eq_some_iff.mp hf
    refine g_callV' (pc := 60) hla C (c_X6_place l D cI cS a m v60 h60) gg_RX6_58 hd_X6_place (by decide) rfl rfl rfl rfl (Nat.le_of_ble_eq_true rfl) dX6_count_60 (seM_0 cI cS a m) (seM_0 cI cS a m).symm [.int v60] rfl ?_
    have e := Option.some.inj hf; subst e
    exact g_ri (pc := 63) C rfl (flM cI cS a m) dX6_count_63
  have hf := k_neg w1 hf
  by_cases w2 : x1 = 2
  · have hf := k_pos w2 hf
    refine g_tableIn (pc := 1) C 64 (off := 63) dX6_count_1 (by rw [k_eq (z := 2) (by decide) w2]; decide) (by rw [k_eq (z := 2) (by decide) w2]; decide) (by rw [k_eq (z := 2) (by decide) w2]; rfl) (by decide) ?_
    refine g_aload_n (pc := 64) C 0 dX6_count_64 rfl ?_
    refine g_aload_n (pc := 65) C 0 dX6_count_65 rfl ?_
    obtain ⟨v66, h66, hf⟩ := Option.bind_eq_some_iff.mp hf
    refine g_callV' (pc := 66) hla C (c_X6_place l D cI cS a m v66 h66) gg_RX6_58 hd_X6_place (by decide) rfl rfl rfl rfl (Nat.le_of_ble_eq_true rfl) dX6_count_66 (seM_0 cI cS a m) (seM_0 cI cS a m).symm [.int v66, .ref a.1] rfl ?_
    obtain ⟨v69, h69, hf⟩ := Option.bind_eq_some_iff.mp hf
    refine g_callV' (pc := 69) hla C (c_X6_deep l D cI cS a m v66 v69 h69) gg_RX6_46 hd_X6_deep (by decide) rfl rfl rfl rfl (Nat.le_of_ble_eq_true rfl) dX6_count_69 (seM_0 cI cS a m) (seM_0 cI cS a m).symm [.int v69] rfl ?_
    have e := Option.some.inj hf; subst e
    exact g_ri (pc := 72) C rfl (flM cI cS a m) dX6_count_72
  have hf := k_neg w2 hf
  by_cases w3 : x1 = 3
  · have hf := k_pos w3 hf
    refine g_tableIn (pc := 1) C 73 (off := 72) dX6_count_1 (by rw [k_eq (z := 3) (by decide) w3]; decide) (by rw [k_eq (z := 3) (by decide) w3]; decide) (by rw [k_eq (z := 3) (by decide) w3]; rfl) (by decide) ?_
    refine g_aload_n (pc := 73) C 0 dX6_count_73 rfl ?_
    obtain ⟨v74, h74, hf⟩ := Option.bind_eq_some_iff.mp hf
    refine g_callV' (pc := 74) hla C (c_X6_leaves l D cI cS a m v74 h74) gg_RX6_127 hd_X6_leaves (by decide) rfl rfl rfl rfl (Nat.le_of_ble_eq_true rfl) dX6_count_74 (seM_0 cI cS a m) (seM_0 cI cS a m).symm [.int v74] rfl ?_
    have e := Option.some.inj hf; subst e
    exact g_ri (pc := 77) C rfl (flM cI cS a m) dX6_count_77
  have hf := k_neg w3 hf
  by_cases w4 : x1 = 4
  · have hf := k_pos w4 hf
    refine g_tableIn (pc := 1) C 78 (off := 77) dX6_count_1 (by rw [k_eq (z := 4) (by decide) w4]; decide) (by rw [k_eq (z := 4) (by decide) w4]; decide) (by rw [k_eq (z := 4) (by decide) w4]; rfl) (by decide) ?_
    refine g_aload_n (pc := 78) C 0 dX6_count_78 rfl ?_
    refine g_iconst (pc := 79) C 0 dX6_count_79 (by decide) ?_
    obtain ⟨v80, h80, hf⟩ := Option.bind_eq_some_iff.mp hf
    refine g_callV' (pc := 80) hla C (c_X6_height l D cI cS a m 0 v80 h80) gg_RX6_106 hd_X6_height (by decide) rfl rfl rfl rfl (Nat.le_of_ble_eq_true rfl) dX6_count_80 (seM_0 cI cS a m) (seM_0 cI cS a m).symm [.int v80] rfl ?_
    have e := Option.some.inj hf; subst e
    exact g_ri (pc := 83) C rfl (flM cI cS a m) dX6_count_83
  have hf := k_neg w4 hf
  by_cases w5 : x1 = 5
  · have hf := k_pos w5 hf
    refine g_tableIn (pc := 1) C 84 (off := 83) dX6_count_1 (by rw [k_eq (z := 5) (by decide) w5]; decide) (by rw [k_eq (z := 5) (by decide) w5]; decide) (by rw [k_eq (z := 5) (by decide) w5]; rfl) (by decide) ?_
    refine g_aload_n (pc := 84) C 0 dX6_count_84 rfl ?_
    refine gf_RX6_7 (pc := 85) C 0 rfl dX6_count_85 ?_
    refine g_iconst (pc := 88) C 3 dX6_count_88 (by decide) ?_
    refine g_iald (pc := 89) C 1 0 rfl rfl (by decide) dX6_count_89 ?_
    have e := Option.some.inj hf; subst e
    exact g_ri (pc := 90) C rfl (flM cI cS a m) dX6_count_90
  have hf := k_neg w5 hf
  by_cases w6 : x1 = 6
  · have hf := k_pos w6 hf
    refine g_tableIn (pc := 1) C 91 (off := 90) dX6_count_1 (by rw [k_eq (z := 6) (by decide) w6]; decide) (by rw [k_eq (z := 6) (by decide) w6]; decide) (by rw [k_eq (z := 6) (by decide) w6]; rfl) (by decide) ?_
    refine g_aload_n (pc := 91) C 0 dX6_count_91 rfl ?_
    refine gf_RX6_7 (pc := 92) C 0 rfl dX6_count_92 ?_
    refine g_iconst (pc := 95) C 4 dX6_count_95 (by decide) ?_
    refine g_iald (pc := 96) C 1 0 rfl rfl (by decide) dX6_count_96 ?_
    have e := Option.some.inj hf; subst e
    exact g_ri (pc := 97) C rfl (flM cI cS a m) dX6_count_97
  have hf := k_neg w6 hf
  by_cases w7 : x1 = 7
  · have hf := k_pos w7 hf
    refine g_tableIn (pc := 1) C 98 (off := 97) dX6_count_1 (by rw [k_eq (z := 7) (by decide) w7]; decide) (by rw [k_eq (z := 7) (by decide) w7]; decide) (by rw [k_eq (z := 7) (by decide) w7]; rfl) (by decide) ?_
    refine g_aload_n (pc := 98) C 0 dX6_count_98 rfl ?_
    refine gf_RX6_31 (pc := 99) C 0 rfl dX6_count_99 ?_
    have e := Option.some.inj hf; subst e
    exact g_ri (pc := 102) C rfl (flM cI cS a m) dX6_count_102
  have hf := k_neg w7 hf
  by_cases w8 : x1 = 8
  · have hf := k_pos w8 hf
    refine g_tableIn (pc := 1) C 103 (off := 102) dX6_count_1 (by rw [k_eq (z := 8) (by decide) w8]; decide) (by rw [k_eq (z := 8) (by decide) w8]; decide) (by rw [k_eq (z := 8) (by decide) w8]; rfl) (by decide) ?_
    refine g_aload_n (pc := 103) C 0 dX6_count_103 rfl ?_
    refine gf_RX6_130 (pc := 104) C 0 rfl dX6_count_104 ?_
    have e := Option.some.inj hf; subst e
    exact g_ri (pc := 107) C rfl (flM cI cS a m) dX6_count_107
  have hf := k_neg w8 hf
  refine g_tableOut (pc := 1) C 108 dX6_count_1 (by have z0 := k_ne (z := 0) 0 (by decide) w0; have z1 := k_ne (z := 1) 1 (by decide) w1; have z2 := k_ne (z := 2) 2 (by decide) w2; have z3 := k_ne (z := 3) 3 (by decide) w3; have z4 := k_ne (z := 4) 4 (by decide) w4; have z5 := k_ne (z := 5) 5 (by decide) w5; have z6 := k_ne (z := 6) 6 (by decide) w6; have z7 := k_ne (z := 7) 7 (by decide) w7; have z8 := k_ne (z := 8) 8 (by decide) w8; omega) (by decide) ?_
  refine g_iload_n (pc := 108) C 1 dX6_count_108 rfl ?_
  refine g_bipush (pc := 109) C 9 dX6_count_109 (by decide) ?_
  refine g_icmp_ne (pc := 111) C 121 dX6_count_111 (by decide) (fun (c111 : ¬ x1 = 9) => ?_) (fun (c111 : x1 = 9) => ?_)
  · have hf := k_neg c111 hf
    refine g_iconst (pc := 121) C (-1) dX6_count_121 (by decide) ?_
    have e := Option.some.inj hf; subst e
    exact g_ri (pc := 122) C rfl (flM cI cS a m) dX6_count_122
  · have hf := k_pos c111 hf
    refine g_aload_n (pc := 114) C 0 dX6_count_114 rfl ?_
    obtain ⟨v115, h115, hf⟩ := Option.bind_eq_some_iff.mp hf
    refine g_callV' (pc := 115) hla C (c_X6_unlike l D cI cS a m v115 h115) gg_RX6_133 hd_X6_unlike (by decide) rfl rfl rfl rfl (Nat.le_of_ble_eq_true rfl) dX6_count_115 (seM_0 cI cS a m) (seM_0 cI cS a m).symm [.int v115] rfl ?_
    refine g_goto (pc := 118) C 122 dX6_count_118 (by decide) ?_
    have e := Option.some.inj hf; subst e
    exact g_ri (pc := 122) C rfl (flM cI cS a m) dX6_count_122
set_option maxHeartbeats 4000000 in
set_option maxRecDepth 100000 in
theorem c_X6_areLike (l : Launch) (D : va_G) (cI cS : ClassId) (a : aM) (m : MD) (x1 : Int32) (x2 : Int32) (out : Int32) (hf : M_areLike m x1 x2 = some out) : kM l D (kTy cI cS) yX6_areLike ct_X6_areLike rm_X6_areLike [.ref a.1, .int x1, .int x2] [wM cI cS a m] (kEq (some (.int out)) [wM cI cS a m]) := by
  refine k_methodE cX6_areLike 6 (some .boolean) RX6 rfl [(0, .ref a.1), (1, .int x1), (2, .int x2)] rfl (by decide +kernel) (Nat.le_of_ble_eq_true rfl) (fun κ A hla C => ?_)
  refine g_chunks (flM cI cS a m).symm ?_
  have L29 : ∀ (fu : Nat) (m : MD) (x1 : Int32) (x2 : Int32) (x3 : Int32) (x4 : Int32) (x5 : Int32), M_areLike_L29 fu m x1 x2 x3 x4 x5 = some out → kG κ D A 6 0 0 (kF κ D A (some (.int out)) [wM cI cS a m]) (csM cI cS a m) [(0, .ref a.1), (1, .int x1), (2, .int x2), (3, .int x3), (4, .int x4), (5, .int x5)] 29 [] := by
    intro fu; induction fu with
    | zero => intro m x1 x2 x3 x4 x5 hf; rw [M_areLike_L29] at hf; cases hf
    | succ fu ih =>
      intro m x1 x2 x3 x4 x5 hf; rw [M_areLike_L29] at hf
      refine g_iload (pc := 29) C 5 dX6_areLike_29 rfl ?_
      refine g_iload_n (pc := 31) C 3 dX6_areLike_31 rfl ?_
      refine g_icmp_ge (pc := 32) C 103 dX6_areLike_32 (by decide) (fun (c32 : x3 ≤ x5) => ?_) (fun (c32 : ¬ x3 ≤ x5) => ?_)
      · have hf := k_pos c32 hf
        refine g_iload (pc := 103) C 4 dX6_areLike_103 rfl ?_
        obtain ⟨g105, hf⟩ := k_guard2 hf
        have e := Option.some.inj hf; subst e
        exact g_rz (pc := 105) C rfl g105 (flM cI cS a m) dX6_areLike_105
      · have hf := k_neg c32 hf
        refine g_iload (pc := 35) C 4 dX6_areLike_35 rfl ?_
        refine g_if_eq (pc := 37) C 103 dX6_areLike_37 (by decide) (fun (c37 : x4 = 0) => ?_) (fun (c37 : ¬ x4 = 0) => ?_)
        · have hf := k_pos c37 hf
          refine g_iload (pc := 103) C 4 dX6_areLike_103 rfl ?_
          obtain ⟨g105, hf⟩ := k_guard2 hf
          have e := Option.some.inj hf; subst e
          exact g_rz (pc := 105) C rfl g105 (flM cI cS a m) dX6_areLike_105
        · have hf := k_neg c37 hf
          refine g_aload_n (pc := 40) C 0 dX6_areLike_40 rfl ?_
          refine g_iload_n (pc := 41) C 1 dX6_areLike_41 rfl ?_
          refine g_iload (pc := 42) C 5 dX6_areLike_42 rfl ?_
          refine g_iadd (pc := 44) C dX6_areLike_44 ?_
          obtain ⟨v45, h45, hf⟩ := Option.bind_eq_some_iff.mp hf
          refine g_callV' (pc := 45) hla C (c_X6_sign l D cI cS a m (x1 + x5) v45 h45) gg_RX6_83 hd_X6_sign (by decide) rfl rfl rfl rfl (Nat.le_of_ble_eq_true rfl) dX6_areLike_45 (seM_0 cI cS a m) (seM_0 cI cS a m).symm [.int v45] rfl ?_
          refine g_aload_n (pc := 48) C 0 dX6_areLike_48 rfl ?_
          refine g_iload_n (pc := 49) C 2 dX6_areLike_49 rfl ?_
          refine g_iload (pc := 50) C 5 dX6_areLike_50 rfl ?_
          refine g_iadd (pc := 52) C dX6_areLike_52 ?_
          obtain ⟨v53, h53, hf⟩ := Option.bind_eq_some_iff.mp hf
          refine g_callV' (pc := 53) hla C (c_X6_sign l D cI cS a m (x2 + x5) v53 h53) gg_RX6_83 hd_X6_sign (by decide) rfl rfl rfl rfl (Nat.le_of_ble_eq_true rfl) dX6_areLike_53 (seM_0 cI cS a m) (seM_0 cI cS a m).symm [.int v53, .int v45] rfl ?_
          refine g_icmp_ne (pc := 56) C 94 dX6_areLike_56 (by decide) (fun (c56 : ¬ v45 = v53) => ?_) (fun (c56 : v45 = v53) => ?_)
          · have hf := k_neg c56 hf
            refine g_iconst (pc := 94) C 0 dX6_areLike_94 (by decide) ?_
            refine g_istore (pc := 95) C [(4, .int 0), (0, .ref a.1), (1, .int x1), (2, .int x2), (3, .int x3), (5, .int x5)] dX6_areLike_95 (by decide) rfl ?_
            refine g_iinc (pc := 97) C 5 (x5 + 1) [(5, .int (x5 + 1)), (4, .int 0), (0, .ref a.1), (1, .int x1), (2, .int x2), (3, .int x3)] dX6_areLike_97 rfl (congrArg (HAdd.hAdd _) (by decide)) (by decide) rfl ?_
            refine g_goto (pc := 100) C 29 dX6_areLike_100 (by decide) ?_
            refine g_sub [2, 3, 4, 5, 1, 0] (lv' := [(0, .ref a.1), (1, .int x1), (2, .int x2), (3, .int x3), (4, .int 0), (5, .int (x5 + 1))]) rfl ?_
            exact ih m x1 x2 x3 0 (x5 + 1) hf
          · have hf := k_pos c56 hf
            refine g_aload_n (pc := 59) C 0 dX6_areLike_59 rfl ?_
            refine g_iload_n (pc := 60) C 1 dX6_areLike_60 rfl ?_
            refine g_iload (pc := 61) C 5 dX6_areLike_61 rfl ?_
            refine g_iadd (pc := 63) C dX6_areLike_63 ?_
            obtain ⟨v64, h64, hf⟩ := Option.bind_eq_some_iff.mp hf
            refine g_callV' (pc := 64) hla C (c_X6_deep l D cI cS a m (x1 + x5) v64 h64) gg_RX6_46 hd_X6_deep (by decide) rfl rfl rfl rfl (Nat.le_of_ble_eq_true rfl) dX6_areLike_64 (seM_0 cI cS a m) (seM_0 cI cS a m).symm [.int v64] rfl ?_
            refine g_aload_n (pc := 67) C 0 dX6_areLike_67 rfl ?_
            refine g_iload_n (pc := 68) C 1 dX6_areLike_68 rfl ?_
            obtain ⟨v69, h69, hf⟩ := Option.bind_eq_some_iff.mp hf
            refine g_callV' (pc := 69) hla C (c_X6_deep l D cI cS a m x1 v69 h69) gg_RX6_46 hd_X6_deep (by decide) rfl rfl rfl rfl (Nat.le_of_ble_eq_true rfl) dX6_areLike_69 (seM_0 cI cS a m) (seM_0 cI cS a m).symm [.int v69, .int v64] rfl ?_
            refine g_isub (pc := 72) C dX6_areLike_72 ?_
            refine g_aload_n (pc := 73) C 0 dX6_areLike_73 rfl ?_
            refine g_iload_n (pc := 74) C 2 dX6_areLike_74 rfl ?_
            refine g_iload (pc := 75) C 5 dX6_areLike_75 rfl ?_
            refine g_iadd (pc := 77) C dX6_areLike_77 ?_
            obtain ⟨v78, h78, hf⟩ := Option.bind_eq_some_iff.mp hf
            refine g_callV' (pc := 78) hla C (c_X6_deep l D cI cS a m (x2 + x5) v78 h78) gg_RX6_46 hd_X6_deep (by decide) rfl rfl rfl rfl (Nat.le_of_ble_eq_true rfl) dX6_areLike_78 (seM_0 cI cS a m) (seM_0 cI cS a m).symm [.int v78, .int (v64 - v69)] rfl ?_
            refine g_aload_n (pc := 81) C 0 dX6_areLike_81 rfl ?_
            refine g_iload_n (pc := 82) C 2 dX6_areLike_82 rfl ?_
            obtain ⟨v83, h83, hf⟩ := Option.bind_eq_some_iff.mp hf
            refine g_callV' (pc := 83) hla C (c_X6_deep l D cI cS a m x2 v83 h83) gg_RX6_46 hd_X6_deep (by decide) rfl rfl rfl rfl (Nat.le_of_ble_eq_true rfl) dX6_areLike_83 (seM_0 cI cS a m) (seM_0 cI cS a m).symm [.int v83, .int v78, .int (v64 - v69)] rfl ?_
            refine g_isub (pc := 86) C dX6_areLike_86 ?_
            refine g_icmp_ne (pc := 87) C 94 dX6_areLike_87 (by decide) (fun (c87 : ¬ (v64 - v69) = (v78 - v83)) => ?_) (fun (c87 : (v64 - v69) = (v78 - v83)) => ?_)
            · have hf := k_neg c87 hf
              refine g_iconst (pc := 94) C 0 dX6_areLike_94 (by decide) ?_
              refine g_istore (pc := 95) C [(4, .int 0), (0, .ref a.1), (1, .int x1), (2, .int x2), (3, .int x3), (5, .int x5)] dX6_areLike_95 (by decide) rfl ?_
              refine g_iinc (pc := 97) C 5 (x5 + 1) [(5, .int (x5 + 1)), (4, .int 0), (0, .ref a.1), (1, .int x1), (2, .int x2), (3, .int x3)] dX6_areLike_97 rfl (congrArg (HAdd.hAdd _) (by decide)) (by decide) rfl ?_
              refine g_goto (pc := 100) C 29 dX6_areLike_100 (by decide) ?_
              refine g_sub [2, 3, 4, 5, 1, 0] (lv' := [(0, .ref a.1), (1, .int x1), (2, .int x2), (3, .int x3), (4, .int 0), (5, .int (x5 + 1))]) rfl ?_
              exact ih m x1 x2 x3 0 (x5 + 1) hf
            · have hf := k_pos c87 hf
              refine g_iconst (pc := 90) C 1 dX6_areLike_90 (by decide) ?_
              refine g_goto (pc := 91) C 95 dX6_areLike_91 (by decide) ?_
              refine g_istore (pc := 95) C [(4, .int 1), (0, .ref a.1), (1, .int x1), (2, .int x2), (3, .int x3), (5, .int x5)] dX6_areLike_95 (by decide) rfl ?_
              refine g_iinc (pc := 97) C 5 (x5 + 1) [(5, .int (x5 + 1)), (4, .int 1), (0, .ref a.1), (1, .int x1), (2, .int x2), (3, .int x3)] dX6_areLike_97 rfl (congrArg (HAdd.hAdd _) (by decide)) (by decide) rfl ?_
              refine g_goto (pc := 100) C 29 dX6_areLike_100 (by decide) ?_
              refine g_sub [2, 3, 4, 5, 1, 0] (lv' := [(0, .ref a.1), (1, .int x1), (2, .int x2), (3, .int x3), (4, .int 1), (5, .int (x5 + 1))]) rfl ?_
              exact ih m x1 x2 x3 1 (x5 + 1) hf
  rw [M_areLike] at hf
  refine g_aload_n (pc := 0) C 0 dX6_areLike_0 rfl ?_
  refine g_iload_n (pc := 1) C 1 dX6_areLike_1 rfl ?_
  obtain ⟨v2, h2, hf⟩ := Option.bind_eq_some_iff.mp hf
  refine g_callV' (pc := 2) hla C (c_X6_end l D cI cS a m x1 v2 h2) gg_RX6_49 hd_X6_end (by decide) rfl rfl rfl rfl (Nat.le_of_ble_eq_true rfl) dX6_areLike_2 (seM_0 cI cS a m) (seM_0 cI cS a m).symm [.int v2] rfl ?_
  refine g_iload_n (pc := 5) C 1 dX6_areLike_5 rfl ?_
  refine g_isub (pc := 6) C dX6_areLike_6 ?_
  refine g_istore_n (pc := 7) C [(3, .int (v2 - x1)), (0, .ref a.1), (1, .int x1), (2, .int x2)] dX6_areLike_7 (by decide) rfl ?_
  refine g_aload_n (pc := 8) C 1 dX6_areLike_8 rfl ?_
  refine g_iload_n (pc := 9) C 3 dX6_areLike_9 rfl ?_
  obtain ⟨v10, h10, hf⟩ := Option.bind_eq_some_iff.mp hf
  refine g_callV' (pc := 10) hla C (c_X6_end l D cI cS a m x2 v10 h10) gg_RX6_49 hd_X6_end (by decide) rfl rfl rfl rfl (Nat.le_of_ble_eq_true rfl) dX6_areLike_10 (seM_0 cI cS a m) (seM_0 cI cS a m).symm [.int v10] rfl ?_
  refine g_iload_n (pc := 13) C 3 dX6_areLike_13 rfl ?_
  refine g_isub (pc := 14) C dX6_areLike_14 ?_
  refine g_iload_n (pc := 15) C 0 dX6_areLike_15 rfl ?_
  refine g_icmp_ne (pc := 16) C 23 dX6_areLike_16 (by decide) (fun (c16 : ¬ (v10 - x2) = (v2 - x1)) => ?_) (fun (c16 : (v10 - x2) = (v2 - x1)) => ?_)
  · have hf := k_neg c16 hf
    refine g_iconst (pc := 23) C 0 dX6_areLike_23 (by decide) ?_
    refine g_istore (pc := 24) C [(4, .int 0), (3, .int (v2 - x1)), (0, .ref a.1), (1, .int x1), (2, .int x2)] dX6_areLike_24 (by decide) rfl ?_
    refine g_iconst (pc := 26) C 0 dX6_areLike_26 (by decide) ?_
    refine g_istore (pc := 27) C [(5, .int 0), (4, .int 0), (3, .int (v2 - x1)), (0, .ref a.1), (1, .int x1), (2, .int x2)] dX6_areLike_27 (by decide) rfl ?_
    refine g_sub [3, 4, 5, 2, 1, 0] (lv' := [(0, .ref a.1), (1, .int x1), (2, .int x2), (3, .int (v2 - x1)), (4, .int 0), (5, .int 0)]) rfl ?_
    exact L29 1000 m x1 x2 (v2 - x1) 0 0 hf
  · have hf := k_pos c16 hf
    refine g_iconst (pc := 19) C 1 dX6_areLike_19 (by decide) ?_
    refine g_goto (pc := 20) C 24 dX6_areLike_20 (by decide) ?_
    refine g_istore (pc := 24) C [(4, .int 1), (3, .int (v2 - x1)), (0, .ref a.1), (1, .int x1), (2, .int x2)] dX6_areLike_24 (by decide) rfl ?_
    refine g_iconst (pc := 26) C 0 dX6_areLike_26 (by decide) ?_
    refine g_istore (pc := 27) C [(5, .int 0), (4, .int 1), (3, .int (v2 - x1)), (0, .ref a.1), (1, .int x1), (2, .int x2)] dX6_areLike_27 (by decide) rfl ?_
    refine g_sub [3, 4, 5, 2, 1, 0] (lv' := [(0, .ref a.1), (1, .int x1), (2, .int x2), (3, .int (v2 - x1)), (4, .int 1), (5, .int 0)]) rfl ?_
    exact L29 1000 m x1 x2 (v2 - x1) 1 0 hf
set_option maxHeartbeats 4000000 in
set_option maxRecDepth 100000 in
theorem c_X6_like (l : Launch) (D : va_G) (cI cS : ClassId) (a : aM) (m : MD) (out : Int32) (hf : M_like m = some out) : kM l D (kTy cI cS) yX6_like ct_X6_like rm_X6_like [.ref a.1] [wM cI cS a m] (kEq (some (.int out)) [wM cI cS a m]) := by
  refine k_methodE cX6_like 4 (some .int) RX6 rfl [(0, .ref a.1)] rfl (by decide +kernel) (Nat.le_of_ble_eq_true rfl) (fun κ A hla C => ?_)
  refine g_chunks (flM cI cS a m).symm ?_
  have L9 : ∀ (fu : Nat) (m : MD) (x1 : Int32) (x2 : Int32) (x3 : Int32), M_like_L9 fu m x1 x2 x3 = some out → kG κ D A 4 0 0 (kF κ D A (some (.int out)) [wM cI cS a m]) (csM cI cS a m) [(0, .ref a.1), (1, .int x1), (2, .int x2), (3, .int x3)] 9 [] := by
    intro fu; induction fu with
    | zero => intro m x1 x2 x3 hf; rw [M_like_L9] at hf; cases hf
    | succ fu ih =>
      intro m x1 x2 x3 hf; rw [M_like_L9] at hf
      refine g_iload_n (pc := 9) C 3 dX6_like_9 rfl ?_
      refine g_aload_n (pc := 10) C 0 dX6_like_10 rfl ?_
      refine gf_RX6_7 (pc := 11) C 0 rfl dX6_like_11 ?_
      refine g_iconst (pc := 14) C 0 dX6_like_14 (by decide) ?_
      refine g_iald (pc := 15) C 1 0 rfl rfl (by decide) dX6_like_15 ?_
      refine g_icmp_ge (pc := 16) C 42 dX6_like_16 (by decide) (fun (c16 : (m.1 (ix 0)) ≤ x3) => ?_) (fun (c16 : ¬ (m.1 (ix 0)) ≤ x3) => ?_)
      · have hf := k_pos c16 hf
        refine g_iload_n (pc := 42) C 2 dX6_like_42 rfl ?_
        have e := Option.some.inj hf; subst e
        exact g_ri (pc := 43) C rfl (flM cI cS a m) dX6_like_43
      · have hf := k_neg c16 hf
        refine g_iload_n (pc := 19) C 2 dX6_like_19 rfl ?_
        refine g_aload_n (pc := 20) C 0 dX6_like_20 rfl ?_
        refine g_iload_n (pc := 21) C 1 dX6_like_21 rfl ?_
        refine g_iload_n (pc := 22) C 3 dX6_like_22 rfl ?_
        obtain ⟨v23, h23, hf⟩ := Option.bind_eq_some_iff.mp hf
        refine g_callV' (pc := 23) hla C (c_X6_areLike l D cI cS a m x1 x3 v23 h23) gg_RX6_136 hd_X6_areLike (by decide) rfl rfl rfl rfl (Nat.le_of_ble_eq_true rfl) dX6_like_23 (seM_0 cI cS a m) (seM_0 cI cS a m).symm [.int v23, .int x2] rfl ?_
        refine g_if_eq (pc := 26) C 33 dX6_like_26 (by decide) (fun (c26 : v23 = 0) => ?_) (fun (c26 : ¬ v23 = 0) => ?_)
        · have hf := k_pos c26 hf
          refine g_iconst (pc := 33) C 0 dX6_like_33 (by decide) ?_
          refine g_iadd (pc := 34) C dX6_like_34 ?_
          refine g_istore_n (pc := 35) C [(2, .int (x2 + 0)), (0, .ref a.1), (1, .int x1), (3, .int x3)] dX6_like_35 (by decide) rfl ?_
          refine g_iinc (pc := 36) C 3 (x3 + 1) [(3, .int (x3 + 1)), (2, .int (x2 + 0)), (0, .ref a.1), (1, .int x1)] dX6_like_36 rfl (congrArg (HAdd.hAdd _) (by decide)) (by decide) rfl ?_
          refine g_goto (pc := 39) C 9 dX6_like_39 (by decide) ?_
          refine g_sub [2, 3, 1, 0] (lv' := [(0, .ref a.1), (1, .int x1), (2, .int (x2 + 0)), (3, .int (x3 + 1))]) rfl ?_
          exact ih m x1 (x2 + 0) (x3 + 1) hf
        · have hf := k_neg c26 hf
          refine g_iconst (pc := 29) C 1 dX6_like_29 (by decide) ?_
          refine g_goto (pc := 30) C 34 dX6_like_30 (by decide) ?_
          refine g_iadd (pc := 34) C dX6_like_34 ?_
          refine g_istore_n (pc := 35) C [(2, .int (x2 + 1)), (0, .ref a.1), (1, .int x1), (3, .int x3)] dX6_like_35 (by decide) rfl ?_
          refine g_iinc (pc := 36) C 3 (x3 + 1) [(3, .int (x3 + 1)), (2, .int (x2 + 1)), (0, .ref a.1), (1, .int x1)] dX6_like_36 rfl (congrArg (HAdd.hAdd _) (by decide)) (by decide) rfl ?_
          refine g_goto (pc := 39) C 9 dX6_like_39 (by decide) ?_
          refine g_sub [2, 3, 1, 0] (lv' := [(0, .ref a.1), (1, .int x1), (2, .int (x2 + 1)), (3, .int (x3 + 1))]) rfl ?_
          exact ih m x1 (x2 + 1) (x3 + 1) hf
  rw [M_like] at hf
  refine g_aload_n (pc := 0) C 0 dX6_like_0 rfl ?_
  obtain ⟨v1, h1, hf⟩ := Option.bind_eq_some_iff.mp hf
  refine g_callV' (pc := 1) hla C (c_X6_place l D cI cS a m v1 h1) gg_RX6_58 hd_X6_place (by decide) rfl rfl rfl rfl (Nat.le_of_ble_eq_true rfl) dX6_like_1 (seM_0 cI cS a m) (seM_0 cI cS a m).symm [.int v1] rfl ?_
  refine g_istore_n (pc := 4) C [(1, .int v1), (0, .ref a.1)] dX6_like_4 (by decide) rfl ?_
  refine g_iconst (pc := 5) C 0 dX6_like_5 (by decide) ?_
  refine g_istore_n (pc := 6) C [(2, .int 0), (1, .int v1), (0, .ref a.1)] dX6_like_6 (by decide) rfl ?_
  refine g_iconst (pc := 7) C 0 dX6_like_7 (by decide) ?_
  refine g_istore_n (pc := 8) C [(3, .int 0), (2, .int 0), (1, .int v1), (0, .ref a.1)] dX6_like_8 (by decide) rfl ?_
  refine g_sub [3, 2, 1, 0] (lv' := [(0, .ref a.1), (1, .int v1), (2, .int 0), (3, .int 0)]) rfl ?_
  exact L9 1000 m v1 0 0 hf
set_option maxHeartbeats 4000000 in
set_option maxRecDepth 100000 in
theorem c_X6_meet (l : Launch) (D : va_G) (cI cS : ClassId) (a : aM) (m : MD) (x1 : Int32) (x2 : Int32) (out : Int32) (hf : M_meet m x1 x2 = some out) : kM l D (kTy cI cS) yX6_meet ct_X6_meet rm_X6_meet [.ref a.1, .int x1, .int x2] [wM cI cS a m] (kEq (some (.int out)) [wM cI cS a m]) := by
  refine k_methodE cX6_meet 6 (some .int) RX6 rfl [(0, .ref a.1), (1, .int x1), (2, .int x2)] rfl (by decide +kernel) (Nat.le_of_ble_eq_true rfl) (fun κ A hla C => ?_)
  refine g_chunks (flM cI cS a m).symm ?_
  have J52 : ∀ (K : MD → Int32 → Int32 → Option (Int32)) (_ : ∀ (m : MD) (x3 : Int32) (x4 : Int32), K m x3 x4 = some out → kG κ D A 6 0 0 (kF κ D A (some (.int out)) [wM cI cS a m]) (csM cI cS a m) [(0, .ref a.1), (3, .int x3), (4, .int x4)] 23 []) (m : MD) (x3 : Int32) (x4 : Int32) (s0 : Int32), M_meet_J52 K m x3 x4 s0 = some out → kG κ D A 6 0 0 (kF κ D A (some (.int out)) [wM cI cS a m]) (csM cI cS a m) [(0, .ref a.1), (3, .int x3), (4, .int x4)] 52 [.int s0] := by
    intro K hK m x3 x4 s0 hf; rw [M_meet_J52] at hf
    refine g_istore (pc := 52) C [(5, .int s0), (0, .ref a.1), (3, .int x3), (4, .int x4)] dX6_meet_52 (by decide) rfl ?_
    refine g_aload_n (pc := 54) C 1 dX6_meet_54 rfl ?_
    refine g_iload_n (pc := 55) C 2 dX6_meet_55 rfl ?_
    obtain ⟨v56, h56, hf⟩ := Option.bind_eq_some_iff.mp hf
    refine g_callV' (pc := 56) hla C (c_X6_deep l D cI cS a m x3 v56 h56) gg_RX6_46 hd_X6_deep (by decide) rfl rfl rfl rfl (Nat.le_of_ble_eq_true rfl) dX6_meet_56 (seM_0 cI cS a m) (seM_0 cI cS a m).symm [.int v56] rfl ?_
    refine g_aload_n (pc := 59) C 1 dX6_meet_59 rfl ?_
    refine g_iload (pc := 60) C 3 dX6_meet_60 rfl ?_
    obtain ⟨v62, h62, hf⟩ := Option.bind_eq_some_iff.mp hf
    refine g_callV' (pc := 62) hla C (c_X6_deep l D cI cS a m x4 v62 h62) gg_RX6_46 hd_X6_deep (by decide) rfl rfl rfl rfl (Nat.le_of_ble_eq_true rfl) dX6_meet_62 (seM_0 cI cS a m) (seM_0 cI cS a m).symm [.int v62, .int v56] rfl ?_
    refine g_icmp_lt (pc := 65) C 73 dX6_meet_65 (by decide) (fun (c65 : v56 < v62) => ?_) (fun (c65 : ¬ v56 < v62) => ?_)
    · have hf := k_pos c65 hf
      refine g_aload_n (pc := 73) C 1 dX6_meet_73 rfl ?_
      refine g_iload (pc := 74) C 3 dX6_meet_74 rfl ?_
      obtain ⟨v76, h76, hf⟩ := Option.bind_eq_some_iff.mp hf
      refine g_callV' (pc := 76) hla C (c_X6_above l D cI cS a m x4 v76 h76) gg_RX6_52 hd_X6_above (by decide) rfl rfl rfl rfl (Nat.le_of_ble_eq_true rfl) dX6_meet_76 (seM_0 cI cS a m) (seM_0 cI cS a m).symm [.int v76] rfl ?_
      refine g_istore (pc := 79) C [(4, .int v76), (5, .int s0), (0, .ref a.1), (3, .int x3)] dX6_meet_79 (by decide) rfl ?_
      refine g_iload (pc := 81) C 1 dX6_meet_81 rfl ?_
      refine g_istore_n (pc := 83) C [(3, .int s0), (4, .int v76), (5, .int s0), (0, .ref a.1)] dX6_meet_83 (by decide) rfl ?_
      refine g_goto (pc := 84) C 23 dX6_meet_84 (by decide) ?_
      refine g_sub [3, 0, 1] (lv' := [(0, .ref a.1), (3, .int s0), (4, .int v76)]) rfl ?_
      exact hK m s0 v76 hf
    · have hf := k_neg c65 hf
      refine g_iload (pc := 68) C 3 dX6_meet_68 rfl ?_
      refine g_goto (pc := 70) C 79 dX6_meet_70 (by decide) ?_
      refine g_istore (pc := 79) C [(4, .int x4), (5, .int s0), (0, .ref a.1), (3, .int x3)] dX6_meet_79 (by decide) rfl ?_
      refine g_iload (pc := 81) C 1 dX6_meet_81 rfl ?_
      refine g_istore_n (pc := 83) C [(3, .int s0), (4, .int x4), (5, .int s0), (0, .ref a.1)] dX6_meet_83 (by decide) rfl ?_
      refine g_goto (pc := 84) C 23 dX6_meet_84 (by decide) ?_
      refine g_sub [3, 0, 1] (lv' := [(0, .ref a.1), (3, .int s0), (4, .int x4)]) rfl ?_
      exact hK m s0 x4 hf
  have L23 : ∀ (fu : Nat) (m : MD) (x3 : Int32) (x4 : Int32), M_meet_L23 fu m x3 x4 = some out → kG κ D A 6 0 0 (kF κ D A (some (.int out)) [wM cI cS a m]) (csM cI cS a m) [(0, .ref a.1), (3, .int x3), (4, .int x4)] 23 [] := by
    intro fu; induction fu with
    | zero => intro m x3 x4 hf; rw [M_meet_L23] at hf; cases hf
    | succ fu ih =>
      intro m x3 x4 hf; rw [M_meet_L23] at hf
      refine g_iload_n (pc := 23) C 1 dX6_meet_23 rfl ?_
      refine g_iload (pc := 24) C 2 dX6_meet_24 rfl ?_
      refine g_icmp_eq (pc := 26) C 87 dX6_meet_26 (by decide) (fun (c26 : x3 = x4) => ?_) (fun (c26 : ¬ x3 = x4) => ?_)
      · have hf := k_pos c26 hf
        refine g_iload_n (pc := 87) C 1 dX6_meet_87 rfl ?_
        have e := Option.some.inj hf; subst e
        exact g_ri (pc := 88) C rfl (flM cI cS a m) dX6_meet_88
      · have hf := k_neg c26 hf
        refine g_aload_n (pc := 29) C 0 dX6_meet_29 rfl ?_
        refine g_iload_n (pc := 30) C 1 dX6_meet_30 rfl ?_
        obtain ⟨v31, h31, hf⟩ := Option.bind_eq_some_iff.mp hf
        refine g_callV' (pc := 31) hla C (c_X6_deep l D cI cS a m x3 v31 h31) gg_RX6_46 hd_X6_deep (by decide) rfl rfl rfl rfl (Nat.le_of_ble_eq_true rfl) dX6_meet_31 (seM_0 cI cS a m) (seM_0 cI cS a m).symm [.int v31] rfl ?_
        refine g_aload_n (pc := 34) C 0 dX6_meet_34 rfl ?_
        refine g_iload (pc := 35) C 2 dX6_meet_35 rfl ?_
        obtain ⟨v37, h37, hf⟩ := Option.bind_eq_some_iff.mp hf
        refine g_callV' (pc := 37) hla C (c_X6_deep l D cI cS a m x4 v37 h37) gg_RX6_46 hd_X6_deep (by decide) rfl rfl rfl rfl (Nat.le_of_ble_eq_true rfl) dX6_meet_37 (seM_0 cI cS a m) (seM_0 cI cS a m).symm [.int v37, .int v31] rfl ?_
        refine g_icmp_lt (pc := 40) C 51 dX6_meet_40 (by decide) (fun (c40 : v31 < v37) => ?_) (fun (c40 : ¬ v31 < v37) => ?_)
        · have hf := k_pos c40 hf
          refine g_iload_n (pc := 51) C 1 dX6_meet_51 rfl ?_
          exact J52 (fun q0 q1 q2 => M_meet_L23 fu q0 q1 q2) ih m x3 x4 x3 hf
        · have hf := k_neg c40 hf
          refine g_aload_n (pc := 43) C 0 dX6_meet_43 rfl ?_
          refine g_iload_n (pc := 44) C 1 dX6_meet_44 rfl ?_
          obtain ⟨v45, h45, hf⟩ := Option.bind_eq_some_iff.mp hf
          refine g_callV' (pc := 45) hla C (c_X6_above l D cI cS a m x3 v45 h45) gg_RX6_52 hd_X6_above (by decide) rfl rfl rfl rfl (Nat.le_of_ble_eq_true rfl) dX6_meet_45 (seM_0 cI cS a m) (seM_0 cI cS a m).symm [.int v45] rfl ?_
          refine g_goto (pc := 48) C 52 dX6_meet_48 (by decide) ?_
          exact J52 (fun q0 q1 q2 => M_meet_L23 fu q0 q1 q2) ih m x3 x4 v45 hf
  rw [M_meet] at hf
  refine g_aload_n (pc := 0) C 0 dX6_meet_0 rfl ?_
  refine g_iload_n (pc := 1) C 1 dX6_meet_1 rfl ?_
  obtain ⟨v2, h2, hf⟩ := Option.bind_eq_some_iff.mp hf
  refine g_callV' (pc := 2) hla C (c_X6_isNode l D cI cS a m x1 v2 h2) gg_RX6_79 hd_X6_isNode (by decide) rfl rfl rfl rfl (Nat.le_of_ble_eq_true rfl) dX6_meet_2 (seM_0 cI cS a m) (seM_0 cI cS a m).symm [.int v2] rfl ?_
  refine g_if_eq (pc := 5) C 16 dX6_meet_5 (by decide) (fun (c5 : v2 = 0) => ?_) (fun (c5 : ¬ v2 = 0) => ?_)
  · have hf := k_pos c5 hf
    refine g_iconst (pc := 16) C (-1) dX6_meet_16 (by decide) ?_
    have e := Option.some.inj hf; subst e
    exact g_ri (pc := 17) C rfl (flM cI cS a m) dX6_meet_17
  · have hf := k_neg c5 hf
    refine g_aload_n (pc := 8) C 0 dX6_meet_8 rfl ?_
    refine g_iload_n (pc := 9) C 2 dX6_meet_9 rfl ?_
    obtain ⟨v10, h10, hf⟩ := Option.bind_eq_some_iff.mp hf
    refine g_callV' (pc := 10) hla C (c_X6_isNode l D cI cS a m x2 v10 h10) gg_RX6_79 hd_X6_isNode (by decide) rfl rfl rfl rfl (Nat.le_of_ble_eq_true rfl) dX6_meet_10 (seM_0 cI cS a m) (seM_0 cI cS a m).symm [.int v10] rfl ?_
    refine g_if_ne (pc := 13) C 18 dX6_meet_13 (by decide) (fun (c13 : ¬ v10 = 0) => ?_) (fun (c13 : v10 = 0) => ?_)
    · have hf := k_neg c13 hf
      refine g_iload_n (pc := 18) C 1 dX6_meet_18 rfl ?_
      refine g_istore_n (pc := 19) C [(3, .int x1), (0, .ref a.1), (1, .int x1), (2, .int x2)] dX6_meet_19 (by decide) rfl ?_
      refine g_iload_n (pc := 20) C 3 dX6_meet_20 rfl ?_
      refine g_istore (pc := 21) C [(4, .int x2), (3, .int x1), (0, .ref a.1), (1, .int x1), (2, .int x2)] dX6_meet_21 (by decide) rfl ?_
      refine g_sub [2, 1, 0] (lv' := [(0, .ref a.1), (3, .int x1), (4, .int x2)]) rfl ?_
      exact L23 1000 m x1 x2 hf
    · have hf := k_pos c13 hf
      refine g_iconst (pc := 16) C (-1) dX6_meet_16 (by decide) ?_
      have e := Option.some.inj hf; subst e
      exact g_ri (pc := 17) C rfl (flM cI cS a m) dX6_meet_17
