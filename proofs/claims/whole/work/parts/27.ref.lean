set_option maxHeartbeats 4000000 in
set_option maxRecDepth 100000 in
theorem c_X6_nodeOf (l : Launch) (D : va_G) (cI cS : ClassId) (a : aM) (m : MD) (x1 : Int32) (x2 : Int32) (out : Int32) (hf : M_nodeOf m x1 x2 = some out) : kM l D (kTy cI cS) yX6_nodeOf ct_X6_nodeOf rm_X6_nodeOf [.ref a.1, .int x1, .int x2] [wM cI cS a m] (kEq (some (.int out)) [wM cI cS a m]) := by
  refine k_methodE cX6_nodeOf 3 (some .int) RX6 rfl [(0, .ref a.1), (1, .int x1), (2, .int x2)] rfl (by decide +kernel) (Nat.le_of_ble_eq_true rfl) (fun κ A hla C => ?_)
  refine g_chunks (flM cI cS a m).symm ?_
  rw [M_nodeOf] at hf
  refine g_aload_n (pc := 0) C 0 dX6_nodeOf_0 rfl ?_
  refine g_iload_n (pc := 1) C 1 dX6_nodeOf_1 rfl ?_
  obtain ⟨v2, h2, hf⟩ := Option.bind_eq_some_iff.mp hf
  refine g_callV' (pc := 2) hla C (c_X6_isNode l D cI cS a m x1 v2 h2) gg_RX6_79 hd_X6_isNode (by decide) rfl rfl rfl rfl (Nat.le_of_ble_eq_true rfl) dX6_nodeOf_2 (seM_0 cI cS a m) (seM_0 cI cS a m).symm [.int v2] rfl ?_
  refine g_if_eq (pc := 5) C 18 dX6_nodeOf_5 (by decide) (fun (c5 : v2 = 0) => ?_) (fun (c5 : ¬ v2 = 0) => ?_)
  · have hf := k_pos c5 hf
    refine g_iconst (pc := 18) C (-1) dX6_nodeOf_18 (by decide) ?_
    have e := Option.some.inj hf; subst e
    exact g_ri (pc := 19) C rfl (flM cI cS a m) dX6_nodeOf_19
  · have hf := k_neg c5 hf
    refine g_iload_n (pc := 8) C 2 dX6_nodeOf_8 rfl ?_
    refine g_iconst (pc := 9) C 0 dX6_nodeOf_9 (by decide) ?_
    refine g_bipush (pc := 10) C 7 dX6_nodeOf_10 (by decide) ?_
    obtain ⟨v12, h12, hf⟩ := Option.bind_eq_some_iff.mp hf
    refine g_callS' (pc := 12) hla C (c_X6_in l D cI cS x2 0 7 v12 h12) tb_X6_in m_744 m_X6_in_static m_ini_RX6 hd_X6_in (by decide) rfl rfl (Nat.le_of_ble_eq_true rfl) dX6_nodeOf_12 (seM_nil cI cS a m) (seM_nil cI cS a m).symm [.int v12] rfl ?_
    refine g_if_ne (pc := 15) C 20 dX6_nodeOf_15 (by decide) (fun (c15 : ¬ v12 = 0) => ?_) (fun (c15 : v12 = 0) => ?_)
    · have hf := k_neg c15 hf
      refine g_iload_n (pc := 20) C 2 dX6_nodeOf_20 rfl ?_
      by_cases w0 : x2 = 0
      · have hf := k_pos w0 hf
        refine g_tableIn (pc := 21) C 64 (off := 43) dX6_nodeOf_21 (by rw [k_eq (z := 0) (by decide) w0]; decide) (by rw [k_eq (z := 0) (by decide) w0]; decide) (by rw [k_eq (z := 0) (by decide) w0]; rfl) (by decide) ?_
        refine g_aload_n (pc := 64) C 0 dX6_nodeOf_64 rfl ?_
        refine g_iload_n (pc := 65) C 1 dX6_nodeOf_65 rfl ?_
        obtain ⟨v66, h66, hf⟩ := Option.bind_eq_some_iff.mp hf
        refine g_callV' (pc := 66) hla C (c_X6_sign l D cI cS a m x1 v66 h66) gg_RX6_83 hd_X6_sign (by decide) rfl rfl rfl rfl (Nat.le_of_ble_eq_true rfl) dX6_nodeOf_66 (seM_0 cI cS a m) (seM_0 cI cS a m).symm [.int v66] rfl ?_
        have e := Option.some.inj hf; subst e
        exact g_ri (pc := 69) C rfl (flM cI cS a m) dX6_nodeOf_69
      have hf := k_neg w0 hf
      by_cases w1 : x2 = 1
      · have hf := k_pos w1 hf
        refine g_tableIn (pc := 21) C 70 (off := 49) dX6_nodeOf_21 (by rw [k_eq (z := 1) (by decide) w1]; decide) (by rw [k_eq (z := 1) (by decide) w1]; decide) (by rw [k_eq (z := 1) (by decide) w1]; rfl) (by decide) ?_
        refine g_aload_n (pc := 70) C 0 dX6_nodeOf_70 rfl ?_
        refine g_iload_n (pc := 71) C 1 dX6_nodeOf_71 rfl ?_
        obtain ⟨v72, h72, hf⟩ := Option.bind_eq_some_iff.mp hf
        refine g_callV' (pc := 72) hla C (c_X6_children l D cI cS a m x1 v72 h72) gg_RX6_62 hd_X6_children (by decide) rfl rfl rfl rfl (Nat.le_of_ble_eq_true rfl) dX6_nodeOf_72 (seM_0 cI cS a m) (seM_0 cI cS a m).symm [.int v72] rfl ?_
        have e := Option.some.inj hf; subst e
        exact g_ri (pc := 75) C rfl (flM cI cS a m) dX6_nodeOf_75
      have hf := k_neg w1 hf
      by_cases w2 : x2 = 2
      · have hf := k_pos w2 hf
        refine g_tableIn (pc := 21) C 76 (off := 55) dX6_nodeOf_21 (by rw [k_eq (z := 2) (by decide) w2]; decide) (by rw [k_eq (z := 2) (by decide) w2]; decide) (by rw [k_eq (z := 2) (by decide) w2]; rfl) (by decide) ?_
        refine g_aload_n (pc := 76) C 0 dX6_nodeOf_76 rfl ?_
        refine g_iload_n (pc := 77) C 1 dX6_nodeOf_77 rfl ?_
        obtain ⟨v78, h78, hf⟩ := Option.bind_eq_some_iff.mp hf
        refine g_callV' (pc := 78) hla C (c_X6_above l D cI cS a m x1 v78 h78) gg_RX6_52 hd_X6_above (by decide) rfl rfl rfl rfl (Nat.le_of_ble_eq_true rfl) dX6_nodeOf_78 (seM_0 cI cS a m) (seM_0 cI cS a m).symm [.int v78] rfl ?_
        obtain ⟨v81, h81, hf⟩ := Option.bind_eq_some_iff.mp hf
        refine g_callS' (pc := 81) hla C (c_X6_orNone l D cI cS v78 v81 h81) tb_X6_orNone m_867 m_X6_orNone_static m_ini_RX6 hd_X6_orNone (by decide) rfl rfl (Nat.le_of_ble_eq_true rfl) dX6_nodeOf_81 (seM_nil cI cS a m) (seM_nil cI cS a m).symm [.int v81] rfl ?_
        have e := Option.some.inj hf; subst e
        exact g_ri (pc := 84) C rfl (flM cI cS a m) dX6_nodeOf_84
      have hf := k_neg w2 hf
      by_cases w3 : x2 = 3
      · have hf := k_pos w3 hf
        refine g_tableIn (pc := 21) C 85 (off := 64) dX6_nodeOf_21 (by rw [k_eq (z := 3) (by decide) w3]; decide) (by rw [k_eq (z := 3) (by decide) w3]; decide) (by rw [k_eq (z := 3) (by decide) w3]; rfl) (by decide) ?_
        refine g_aload_n (pc := 85) C 0 dX6_nodeOf_85 rfl ?_
        refine g_iload_n (pc := 86) C 1 dX6_nodeOf_86 rfl ?_
        obtain ⟨v87, h87, hf⟩ := Option.bind_eq_some_iff.mp hf
        refine g_callV' (pc := 87) hla C (c_X6_deep l D cI cS a m x1 v87 h87) gg_RX6_46 hd_X6_deep (by decide) rfl rfl rfl rfl (Nat.le_of_ble_eq_true rfl) dX6_nodeOf_87 (seM_0 cI cS a m) (seM_0 cI cS a m).symm [.int v87] rfl ?_
        have e := Option.some.inj hf; subst e
        exact g_ri (pc := 90) C rfl (flM cI cS a m) dX6_nodeOf_90
      have hf := k_neg w3 hf
      by_cases w4 : x2 = 4
      · have hf := k_pos w4 hf
        refine g_tableIn (pc := 21) C 91 (off := 70) dX6_nodeOf_21 (by rw [k_eq (z := 4) (by decide) w4]; decide) (by rw [k_eq (z := 4) (by decide) w4]; decide) (by rw [k_eq (z := 4) (by decide) w4]; rfl) (by decide) ?_
        refine g_aload_n (pc := 91) C 0 dX6_nodeOf_91 rfl ?_
        refine g_iload_n (pc := 92) C 1 dX6_nodeOf_92 rfl ?_
        obtain ⟨v93, h93, hf⟩ := Option.bind_eq_some_iff.mp hf
        refine g_callV' (pc := 93) hla C (c_X6_end l D cI cS a m x1 v93 h93) gg_RX6_49 hd_X6_end (by decide) rfl rfl rfl rfl (Nat.le_of_ble_eq_true rfl) dX6_nodeOf_93 (seM_0 cI cS a m) (seM_0 cI cS a m).symm [.int v93] rfl ?_
        refine g_iload_n (pc := 96) C 1 dX6_nodeOf_96 rfl ?_
        refine g_isub (pc := 97) C dX6_nodeOf_97 ?_
        have e := Option.some.inj hf; subst e
        exact g_ri (pc := 98) C rfl (flM cI cS a m) dX6_nodeOf_98
      have hf := k_neg w4 hf
      by_cases w5 : x2 = 5
      · have hf := k_pos w5 hf
        refine g_tableIn (pc := 21) C 99 (off := 78) dX6_nodeOf_21 (by rw [k_eq (z := 5) (by decide) w5]; decide) (by rw [k_eq (z := 5) (by decide) w5]; decide) (by rw [k_eq (z := 5) (by decide) w5]; rfl) (by decide) ?_
        refine g_iload_n (pc := 99) C 1 dX6_nodeOf_99 rfl ?_
        refine g_if_ne (pc := 100) C 108 dX6_nodeOf_100 (by decide) (fun (c100 : ¬ x1 = 0) => ?_) (fun (c100 : x1 = 0) => ?_)
        · have hf := k_neg c100 hf
          refine g_aload_n (pc := 108) C 0 dX6_nodeOf_108 rfl ?_
          refine g_iload_n (pc := 109) C 1 dX6_nodeOf_109 rfl ?_
          obtain ⟨v110, h110, hf⟩ := Option.bind_eq_some_iff.mp hf
          refine g_callV' (pc := 110) hla C (c_X6_which l D cI cS a m x1 v110 h110) gg_RX6_115 hd_X6_which (by decide) rfl rfl rfl rfl (Nat.le_of_ble_eq_true rfl) dX6_nodeOf_110 (seM_0 cI cS a m) (seM_0 cI cS a m).symm [.int v110] rfl ?_
          have e := Option.some.inj hf; subst e
          exact g_ri (pc := 113) C rfl (flM cI cS a m) dX6_nodeOf_113
        · have hf := k_pos c100 hf
          refine g_bipush (pc := 103) C (-4) dX6_nodeOf_103 (by decide) ?_
          refine g_goto (pc := 105) C 113 dX6_nodeOf_105 (by decide) ?_
          have e := Option.some.inj hf; subst e
          exact g_ri (pc := 113) C rfl (flM cI cS a m) dX6_nodeOf_113
      have hf := k_neg w5 hf
      by_cases w6 : x2 = 6
      · have hf := k_pos w6 hf
        refine g_tableIn (pc := 21) C 114 (off := 93) dX6_nodeOf_21 (by rw [k_eq (z := 6) (by decide) w6]; decide) (by rw [k_eq (z := 6) (by decide) w6]; decide) (by rw [k_eq (z := 6) (by decide) w6]; rfl) (by decide) ?_
        refine g_aload_n (pc := 114) C 0 dX6_nodeOf_114 rfl ?_
        refine g_iload_n (pc := 115) C 1 dX6_nodeOf_115 rfl ?_
        obtain ⟨v116, h116, hf⟩ := Option.bind_eq_some_iff.mp hf
        refine g_callV' (pc := 116) hla C (c_X6_height l D cI cS a m x1 v116 h116) gg_RX6_106 hd_X6_height (by decide) rfl rfl rfl rfl (Nat.le_of_ble_eq_true rfl) dX6_nodeOf_116 (seM_0 cI cS a m) (seM_0 cI cS a m).symm [.int v116] rfl ?_
        have e := Option.some.inj hf; subst e
        exact g_ri (pc := 119) C rfl (flM cI cS a m) dX6_nodeOf_119
      have hf := k_neg w6 hf
      refine g_tableOut (pc := 21) C 120 dX6_nodeOf_21 (by have z0 := k_ne (z := 0) 0 (by decide) w0; have z1 := k_ne (z := 1) 1 (by decide) w1; have z2 := k_ne (z := 2) 2 (by decide) w2; have z3 := k_ne (z := 3) 3 (by decide) w3; have z4 := k_ne (z := 4) 4 (by decide) w4; have z5 := k_ne (z := 5) 5 (by decide) w5; have z6 := k_ne (z := 6) 6 (by decide) w6; omega) (by decide) ?_
      refine g_aload_n (pc := 120) C 0 dX6_nodeOf_120 rfl ?_
      refine g_iload_n (pc := 121) C 1 dX6_nodeOf_121 rfl ?_
      obtain ⟨v122, h122, hf⟩ := Option.bind_eq_some_iff.mp hf
      refine g_callV' (pc := 122) hla C (c_X6_marksAt l D cI cS a m x1 v122 h122) gg_RX6_124 hd_X6_marksAt (by decide) rfl rfl rfl rfl (Nat.le_of_ble_eq_true rfl) dX6_nodeOf_122 (seM_0 cI cS a m) (seM_0 cI cS a m).symm [.int v122] rfl ?_
      have e := Option.some.inj hf; subst e
      exact g_ri (pc := 125) C rfl (flM cI cS a m) dX6_nodeOf_125
    · have hf := k_pos c15 hf
      refine g_iconst (pc := 18) C (-1) dX6_nodeOf_18 (by decide) ?_
      have e := Option.some.inj hf; subst e
      exact g_ri (pc := 19) C rfl (flM cI cS a m) dX6_nodeOf_19
set_option maxHeartbeats 4000000 in
set_option maxRecDepth 100000 in
theorem c_X6_spine (l : Launch) (D : va_G) (cI cS : ClassId) (a : aM) (m : MD) (x1 : Int32) (x2 : Int32) (out : Int32) (hf : M_spine m x1 x2 = some out) : kM l D (kTy cI cS) yX6_spine ct_X6_spine rm_X6_spine [.ref a.1, .int x1, .int x2] [wM cI cS a m] (kEq (some (.int out)) [wM cI cS a m]) := by
  refine k_methodE cX6_spine 4 (some .int) RX6 rfl [(0, .ref a.1), (1, .int x1), (2, .int x2)] rfl (by decide +kernel) (Nat.le_of_ble_eq_true rfl) (fun κ A hla C => ?_)
  refine g_chunks (flM cI cS a m).symm ?_
  have L32 : ∀ (fu : Nat) (m : MD) (x1 : Int32) (x2 : Int32) (x3 : Int32), M_spine_L32 fu m x1 x2 x3 = some out → kG κ D A 4 0 0 (kF κ D A (some (.int out)) [wM cI cS a m]) (csM cI cS a m) [(0, .ref a.1), (1, .int x1), (2, .int x2), (3, .int x3)] 32 [] := by
    intro fu; induction fu with
    | zero => intro m x1 x2 x3 hf; rw [M_spine_L32] at hf; cases hf
    | succ fu ih =>
      intro m x1 x2 x3 hf; rw [M_spine_L32] at hf
      refine g_aload_n (pc := 32) C 0 dX6_spine_32 rfl ?_
      refine g_iload_n (pc := 33) C 3 dX6_spine_33 rfl ?_
      obtain ⟨v34, h34, hf⟩ := Option.bind_eq_some_iff.mp hf
      refine g_callV' (pc := 34) hla C (c_X6_deep l D cI cS a m x3 v34 h34) gg_RX6_46 hd_X6_deep (by decide) rfl rfl rfl rfl (Nat.le_of_ble_eq_true rfl) dX6_spine_34 (seM_0 cI cS a m) (seM_0 cI cS a m).symm [.int v34] rfl ?_
      refine g_iload_n (pc := 37) C 1 dX6_spine_37 rfl ?_
      refine g_icmp_le (pc := 38) C 50 dX6_spine_38 (by decide) (fun (c38 : v34 ≤ x1) => ?_) (fun (c38 : ¬ v34 ≤ x1) => ?_)
      · have hf := k_pos c38 hf
        refine g_iload_n (pc := 50) C 2 dX6_spine_50 rfl ?_
        refine g_if_ne (pc := 51) C 58 dX6_spine_51 (by decide) (fun (c51 : ¬ x2 = 0) => ?_) (fun (c51 : x2 = 0) => ?_)
        · have hf := k_neg c51 hf
          refine g_iload_n (pc := 58) C 2 dX6_spine_58 rfl ?_
          refine g_iconst (pc := 59) C 1 dX6_spine_59 (by decide) ?_
          refine g_icmp_ne (pc := 60) C 71 dX6_spine_60 (by decide) (fun (c60 : ¬ x2 = 1) => ?_) (fun (c60 : x2 = 1) => ?_)
          · have hf := k_neg c60 hf
            refine g_iload_n (pc := 71) C 3 dX6_spine_71 rfl ?_
            refine g_if_ne (pc := 72) C 79 dX6_spine_72 (by decide) (fun (c72 : ¬ x3 = 0) => ?_) (fun (c72 : x3 = 0) => ?_)
            · have hf := k_neg c72 hf
              refine g_aload_n (pc := 79) C 0 dX6_spine_79 rfl ?_
              refine g_iload_n (pc := 80) C 3 dX6_spine_80 rfl ?_
              obtain ⟨v81, h81, hf⟩ := Option.bind_eq_some_iff.mp hf
              refine g_callV' (pc := 81) hla C (c_X6_which l D cI cS a m x3 v81 h81) gg_RX6_115 hd_X6_which (by decide) rfl rfl rfl rfl (Nat.le_of_ble_eq_true rfl) dX6_spine_81 (seM_0 cI cS a m) (seM_0 cI cS a m).symm [.int v81] rfl ?_
              have e := Option.some.inj hf; subst e
              exact g_ri (pc := 84) C rfl (flM cI cS a m) dX6_spine_84
            · have hf := k_pos c72 hf
              refine g_iconst (pc := 75) C 0 dX6_spine_75 (by decide) ?_
              refine g_goto (pc := 76) C 84 dX6_spine_76 (by decide) ?_
              have e := Option.some.inj hf; subst e
              exact g_ri (pc := 84) C rfl (flM cI cS a m) dX6_spine_84
          · have hf := k_pos c60 hf
            refine g_aload_n (pc := 63) C 0 dX6_spine_63 rfl ?_
            refine g_iload_n (pc := 64) C 3 dX6_spine_64 rfl ?_
            obtain ⟨v65, h65, hf⟩ := Option.bind_eq_some_iff.mp hf
            refine g_callV' (pc := 65) hla C (c_X6_sign l D cI cS a m x3 v65 h65) gg_RX6_83 hd_X6_sign (by decide) rfl rfl rfl rfl (Nat.le_of_ble_eq_true rfl) dX6_spine_65 (seM_0 cI cS a m) (seM_0 cI cS a m).symm [.int v65] rfl ?_
            refine g_goto (pc := 68) C 84 dX6_spine_68 (by decide) ?_
            have e := Option.some.inj hf; subst e
            exact g_ri (pc := 84) C rfl (flM cI cS a m) dX6_spine_84
        · have hf := k_pos c51 hf
          refine g_iload_n (pc := 54) C 3 dX6_spine_54 rfl ?_
          refine g_goto (pc := 55) C 84 dX6_spine_55 (by decide) ?_
          have e := Option.some.inj hf; subst e
          exact g_ri (pc := 84) C rfl (flM cI cS a m) dX6_spine_84
      · have hf := k_neg c38 hf
        refine g_aload_n (pc := 41) C 0 dX6_spine_41 rfl ?_
        refine g_iload_n (pc := 42) C 3 dX6_spine_42 rfl ?_
        obtain ⟨v43, h43, hf⟩ := Option.bind_eq_some_iff.mp hf
        refine g_callV' (pc := 43) hla C (c_X6_above l D cI cS a m x3 v43 h43) gg_RX6_52 hd_X6_above (by decide) rfl rfl rfl rfl (Nat.le_of_ble_eq_true rfl) dX6_spine_43 (seM_0 cI cS a m) (seM_0 cI cS a m).symm [.int v43] rfl ?_
        refine g_istore_n (pc := 46) C [(3, .int v43), (0, .ref a.1), (1, .int x1), (2, .int x2)] dX6_spine_46 (by decide) rfl ?_
        refine g_goto (pc := 47) C 32 dX6_spine_47 (by decide) ?_
        refine g_sub [1, 2, 3, 0] (lv' := [(0, .ref a.1), (1, .int x1), (2, .int x2), (3, .int v43)]) rfl ?_
        exact ih m x1 x2 v43 hf
  rw [M_spine] at hf
  refine g_iload_n (pc := 0) C 1 dX6_spine_0 rfl ?_
  refine g_if_lt (pc := 1) C 13 dX6_spine_1 (by decide) (fun (c1 : x1 < 0) => ?_) (fun (c1 : ¬ x1 < 0) => ?_)
  · have hf := k_pos c1 hf
    refine g_iconst (pc := 13) C (-1) dX6_spine_13 (by decide) ?_
    have e := Option.some.inj hf; subst e
    exact g_ri (pc := 14) C rfl (flM cI cS a m) dX6_spine_14
  · have hf := k_neg c1 hf
    refine g_iload_n (pc := 4) C 2 dX6_spine_4 rfl ?_
    refine g_iconst (pc := 5) C 0 dX6_spine_5 (by decide) ?_
    refine g_iconst (pc := 6) C 2 dX6_spine_6 (by decide) ?_
    obtain ⟨v7, h7, hf⟩ := Option.bind_eq_some_iff.mp hf
    refine g_callS' (pc := 7) hla C (c_X6_in l D cI cS x2 0 2 v7 h7) tb_X6_in m_744 m_X6_in_static m_ini_RX6 hd_X6_in (by decide) rfl rfl (Nat.le_of_ble_eq_true rfl) dX6_spine_7 (seM_nil cI cS a m) (seM_nil cI cS a m).symm [.int v7] rfl ?_
    refine g_if_ne (pc := 10) C 15 dX6_spine_10 (by decide) (fun (c10 : ¬ v7 = 0) => ?_) (fun (c10 : v7 = 0) => ?_)
    · have hf := k_neg c10 hf
      refine g_aload_n (pc := 15) C 0 dX6_spine_15 rfl ?_
      obtain ⟨v16, h16, hf⟩ := Option.bind_eq_some_iff.mp hf
      refine g_callV' (pc := 16) hla C (c_X6_place l D cI cS a m v16 h16) gg_RX6_58 hd_X6_place (by decide) rfl rfl rfl rfl (Nat.le_of_ble_eq_true rfl) dX6_spine_16 (seM_0 cI cS a m) (seM_0 cI cS a m).symm [.int v16] rfl ?_
      refine g_istore_n (pc := 19) C [(3, .int v16), (0, .ref a.1), (1, .int x1), (2, .int x2)] dX6_spine_19 (by decide) rfl ?_
      refine g_iload_n (pc := 20) C 2 dX6_spine_20 rfl ?_
      refine g_aload_n (pc := 21) C 1 dX6_spine_21 rfl ?_
      refine g_iload_n (pc := 22) C 0 dX6_spine_22 rfl ?_
      obtain ⟨v23, h23, hf⟩ := Option.bind_eq_some_iff.mp hf
      refine g_callV' (pc := 23) hla C (c_X6_deep l D cI cS a m v16 v23 h23) gg_RX6_46 hd_X6_deep (by decide) rfl rfl rfl rfl (Nat.le_of_ble_eq_true rfl) dX6_spine_23 (seM_0 cI cS a m) (seM_0 cI cS a m).symm [.int v23, .int x1] rfl ?_
      refine g_icmp_le (pc := 26) C 32 dX6_spine_26 (by decide) (fun (c26 : x1 ≤ v23) => ?_) (fun (c26 : ¬ x1 ≤ v23) => ?_)
      · have hf := k_pos c26 hf
        refine g_sub [1, 2, 3, 0] (lv' := [(0, .ref a.1), (1, .int x1), (2, .int x2), (3, .int v16)]) rfl ?_
        exact L32 1000 m x1 x2 v16 hf
      · have hf := k_neg c26 hf
        refine g_bipush (pc := 29) C (-4) dX6_spine_29 (by decide) ?_
        have e := Option.some.inj hf; subst e
        exact g_ri (pc := 31) C rfl (flM cI cS a m) dX6_spine_31
    · have hf := k_pos c10 hf
      refine g_iconst (pc := 13) C (-1) dX6_spine_13 (by decide) ?_
      have e := Option.some.inj hf; subst e
      exact g_ri (pc := 14) C rfl (flM cI cS a m) dX6_spine_14
set_option maxHeartbeats 4000000 in
set_option maxRecDepth 100000 in
theorem c_X6_marked (l : Launch) (D : va_G) (cI cS : ClassId) (a : aM) (m : MD) (x1 : Int32) (out : Int32) (hf : M_marked m x1 = some out) : kM l D (kTy cI cS) yX6_marked ct_X6_marked rm_X6_marked [.ref a.1, .int x1] [wM cI cS a m] (kEq (some (.int out)) [wM cI cS a m]) := by
  refine k_methodE cX6_marked 2 (some .int) RX6 rfl [(0, .ref a.1), (1, .int x1)] rfl (by decide +kernel) (Nat.le_of_ble_eq_true rfl) (fun κ A hla C => ?_)
  refine g_chunks (flM cI cS a m).symm ?_
  rw [M_marked] at hf
  refine g_iload_n (pc := 0) C 1 dX6_marked_0 rfl ?_
  refine g_iconst (pc := 1) C 0 dX6_marked_1 (by decide) ?_
  refine g_iconst (pc := 2) C 3 dX6_marked_2 (by decide) ?_
  obtain ⟨v3, h3, hf⟩ := Option.bind_eq_some_iff.mp hf
  refine g_callS' (pc := 3) hla C (c_X6_in l D cI cS x1 0 3 v3 h3) tb_X6_in m_744 m_X6_in_static m_ini_RX6 hd_X6_in (by decide) rfl rfl (Nat.le_of_ble_eq_true rfl) dX6_marked_3 (seM_nil cI cS a m) (seM_nil cI cS a m).symm [.int v3] rfl ?_
  refine g_if_eq (pc := 6) C 27 dX6_marked_6 (by decide) (fun (c6 : v3 = 0) => ?_) (fun (c6 : ¬ v3 = 0) => ?_)
  · have hf := k_pos c6 hf
    refine g_iconst (pc := 27) C (-1) dX6_marked_27 (by decide) ?_
    have e := Option.some.inj hf; subst e
    exact g_ri (pc := 28) C rfl (flM cI cS a m) dX6_marked_28
  · have hf := k_neg c6 hf
    refine g_aload_n (pc := 9) C 0 dX6_marked_9 rfl ?_
    refine g_aload_n (pc := 10) C 0 dX6_marked_10 rfl ?_
    refine gf_RX6_7 (pc := 11) C 0 rfl dX6_marked_11 ?_
    refine g_iconst (pc := 14) C 5 dX6_marked_14 (by decide) ?_
    refine g_iload_n (pc := 15) C 1 dX6_marked_15 rfl ?_
    refine g_iadd (pc := 16) C dX6_marked_16 ?_
    obtain ⟨g17, hf⟩ := k_guard hf
    refine g_iald (pc := 17) C 1 0 rfl rfl g17 dX6_marked_17 ?_
    obtain ⟨v18, h18, hf⟩ := Option.bind_eq_some_iff.mp hf
    refine g_callV' (pc := 18) hla C (c_X6_numberOf l D cI cS a m (m.1 (ix (5 + x1))) v18 h18) gg_RX6_43 hd_X6_numberOf (by decide) rfl rfl rfl rfl (Nat.le_of_ble_eq_true rfl) dX6_marked_18 (seM_0 cI cS a m) (seM_0 cI cS a m).symm [.int v18] rfl ?_
    obtain ⟨v21, h21, hf⟩ := Option.bind_eq_some_iff.mp hf
    refine g_callS' (pc := 21) hla C (c_X6_orNone l D cI cS v18 v21 h21) tb_X6_orNone m_867 m_X6_orNone_static m_ini_RX6 hd_X6_orNone (by decide) rfl rfl (Nat.le_of_ble_eq_true rfl) dX6_marked_21 (seM_nil cI cS a m) (seM_nil cI cS a m).symm [.int v21] rfl ?_
    refine g_goto (pc := 24) C 28 dX6_marked_24 (by decide) ?_
    have e := Option.some.inj hf; subst e
    exact g_ri (pc := 28) C rfl (flM cI cS a m) dX6_marked_28
set_option maxHeartbeats 4000000 in
set_option maxRecDepth 100000 in
theorem c_X6_leaves (l : Launch) (D : va_G) (cI cS : ClassId) (a : aM) (m : MD) (out : Int32) (hf : M_leaves m = some out) : kM l D (kTy cI cS) yX6_leaves ct_X6_leaves rm_X6_leaves [.ref a.1] [wM cI cS a m] (kEq (some (.int out)) [wM cI cS a m]) := by
  refine k_methodE cX6_leaves 3 (some .int) RX6 rfl [(0, .ref a.1)] rfl (by decide +kernel) (Nat.le_of_ble_eq_true rfl) (fun κ A hla C => ?_)
  refine g_chunks (flM cI cS a m).symm ?_
  have L4 : ∀ (fu : Nat) (m : MD) (x1 : Int32) (x2 : Int32), M_leaves_L4 fu m x1 x2 = some out → kG κ D A 3 0 0 (kF κ D A (some (.int out)) [wM cI cS a m]) (csM cI cS a m) [(0, .ref a.1), (1, .int x1), (2, .int x2)] 4 [] := by
    intro fu; induction fu with
    | zero => intro m x1 x2 hf; rw [M_leaves_L4] at hf; cases hf
    | succ fu ih =>
      intro m x1 x2 hf; rw [M_leaves_L4] at hf
      refine g_iload_n (pc := 4) C 2 dX6_leaves_4 rfl ?_
      refine g_aload_n (pc := 5) C 0 dX6_leaves_5 rfl ?_
      refine gf_RX6_7 (pc := 6) C 0 rfl dX6_leaves_6 ?_
      refine g_iconst (pc := 9) C 0 dX6_leaves_9 (by decide) ?_
      refine g_iald (pc := 10) C 1 0 rfl rfl (by decide) dX6_leaves_10 ?_
      refine g_icmp_ge (pc := 11) C 36 dX6_leaves_11 (by decide) (fun (c11 : (m.1 (ix 0)) ≤ x2) => ?_) (fun (c11 : ¬ (m.1 (ix 0)) ≤ x2) => ?_)
      · have hf := k_pos c11 hf
        refine g_iload_n (pc := 36) C 1 dX6_leaves_36 rfl ?_
        have e := Option.some.inj hf; subst e
        exact g_ri (pc := 37) C rfl (flM cI cS a m) dX6_leaves_37
      · have hf := k_neg c11 hf
        refine g_iload_n (pc := 14) C 1 dX6_leaves_14 rfl ?_
        refine g_aload_n (pc := 15) C 0 dX6_leaves_15 rfl ?_
        refine g_iload_n (pc := 16) C 2 dX6_leaves_16 rfl ?_
        obtain ⟨v17, h17, hf⟩ := Option.bind_eq_some_iff.mp hf
        refine g_callV' (pc := 17) hla C (c_X6_children l D cI cS a m x2 v17 h17) gg_RX6_62 hd_X6_children (by decide) rfl rfl rfl rfl (Nat.le_of_ble_eq_true rfl) dX6_leaves_17 (seM_0 cI cS a m) (seM_0 cI cS a m).symm [.int v17, .int x1] rfl ?_
        refine g_if_ne (pc := 20) C 27 dX6_leaves_20 (by decide) (fun (c20 : ¬ v17 = 0) => ?_) (fun (c20 : v17 = 0) => ?_)
        · have hf := k_neg c20 hf
          refine g_iconst (pc := 27) C 0 dX6_leaves_27 (by decide) ?_
          refine g_iadd (pc := 28) C dX6_leaves_28 ?_
          refine g_istore_n (pc := 29) C [(1, .int (x1 + 0)), (0, .ref a.1), (2, .int x2)] dX6_leaves_29 (by decide) rfl ?_
          refine g_iinc (pc := 30) C 2 (x2 + 1) [(2, .int (x2 + 1)), (1, .int (x1 + 0)), (0, .ref a.1)] dX6_leaves_30 rfl (congrArg (HAdd.hAdd _) (by decide)) (by decide) rfl ?_
          refine g_goto (pc := 33) C 4 dX6_leaves_33 (by decide) ?_
          refine g_sub [2, 1, 0] (lv' := [(0, .ref a.1), (1, .int (x1 + 0)), (2, .int (x2 + 1))]) rfl ?_
          exact ih m (x1 + 0) (x2 + 1) hf
        · have hf := k_pos c20 hf
          refine g_iconst (pc := 23) C 1 dX6_leaves_23 (by decide) ?_
          refine g_goto (pc := 24) C 28 dX6_leaves_24 (by decide) ?_
          refine g_iadd (pc := 28) C dX6_leaves_28 ?_
          refine g_istore_n (pc := 29) C [(1, .int (x1 + 1)), (0, .ref a.1), (2, .int x2)] dX6_leaves_29 (by decide) rfl ?_
          refine g_iinc (pc := 30) C 2 (x2 + 1) [(2, .int (x2 + 1)), (1, .int (x1 + 1)), (0, .ref a.1)] dX6_leaves_30 rfl (congrArg (HAdd.hAdd _) (by decide)) (by decide) rfl ?_
          refine g_goto (pc := 33) C 4 dX6_leaves_33 (by decide) ?_
          refine g_sub [2, 1, 0] (lv' := [(0, .ref a.1), (1, .int (x1 + 1)), (2, .int (x2 + 1))]) rfl ?_
          exact ih m (x1 + 1) (x2 + 1) hf
  rw [M_leaves] at hf
  refine g_iconst (pc := 0) C 0 dX6_leaves_0 (by decide) ?_
  refine g_istore_n (pc := 1) C [(1, .int 0), (0, .ref a.1)] dX6_leaves_1 (by decide) rfl ?_
  refine g_iconst (pc := 2) C 0 dX6_leaves_2 (by decide) ?_
  refine g_istore_n (pc := 3) C [(2, .int 0), (1, .int 0), (0, .ref a.1)] dX6_leaves_3 (by decide) rfl ?_
  refine g_sub [2, 1, 0] (lv' := [(0, .ref a.1), (1, .int 0), (2, .int 0)]) rfl ?_
  exact L4 1000 m 0 0 hf
set_option maxHeartbeats 4000000 in
set_option maxRecDepth 100000 in
theorem c_X6_unlike (l : Launch) (D : va_G) (cI cS : ClassId) (a : aM) (m : MD) (out : Int32) (hf : M_unlike m = some out) : kM l D (kTy cI cS) yX6_unlike ct_X6_unlike rm_X6_unlike [.ref a.1] [wM cI cS a m] (kEq (some (.int out)) [wM cI cS a m]) := by
  refine k_methodE cX6_unlike 4 (some .int) RX6 rfl [(0, .ref a.1)] rfl (by decide +kernel) (Nat.le_of_ble_eq_true rfl) (fun κ A hla C => ?_)
  refine g_chunks (flM cI cS a m).symm ?_
  have J34 : ∀ (K : MD → Int32 → Int32 → Int32 → Option (Int32)) (_ : ∀ (m : MD) (x1 : Int32) (x2 : Int32) (x3 : Int32), K m x1 x2 x3 = some out → kG κ D A 4 0 0 (kF κ D A (some (.int out)) [wM cI cS a m]) (csM cI cS a m) [(0, .ref a.1), (1, .int x1), (2, .int x2), (3, .int x3)] 6 []) (m : MD) (x2 : Int32) (x3 : Int32) (s0 : Int32) (s1 : Int32), M_unlike_J34 K m x2 x3 s0 s1 = some out → kG κ D A 4 0 0 (kF κ D A (some (.int out)) [wM cI cS a m]) (csM cI cS a m) [(0, .ref a.1), (2, .int x2), (3, .int x3)] 34 [.int s1, .int s0] := by
    intro K hK m x2 x3 s0 s1 hf; rw [M_unlike_J34] at hf
    refine g_iadd (pc := 34) C dX6_unlike_34 ?_
    refine g_istore_n (pc := 35) C [(1, .int (s0 + s1)), (0, .ref a.1), (2, .int x2), (3, .int x3)] dX6_unlike_35 (by decide) rfl ?_
    refine g_iload_n (pc := 36) C 2 dX6_unlike_36 rfl ?_
    refine g_iconst (pc := 37) C 1 dX6_unlike_37 (by decide) ?_
    refine g_aload_n (pc := 38) C 1 dX6_unlike_38 rfl ?_
    refine g_iload_n (pc := 39) C 3 dX6_unlike_39 rfl ?_
    obtain ⟨v40, h40, hf⟩ := Option.bind_eq_some_iff.mp hf
    refine g_callV' (pc := 40) hla C (c_X6_sign l D cI cS a m x3 v40 h40) gg_RX6_83 hd_X6_sign (by decide) rfl rfl rfl rfl (Nat.le_of_ble_eq_true rfl) dX6_unlike_40 (seM_0 cI cS a m) (seM_0 cI cS a m).symm [.int v40, .int 1, .int x2] rfl ?_
    refine g_ishl (pc := 43) C dX6_unlike_43 ?_
    refine g_ior (pc := 44) C dX6_unlike_44 ?_
    refine g_istore_n (pc := 45) C [(2, .int (x2 ||| (1 <<< (v40 &&& 31)))), (1, .int (s0 + s1)), (0, .ref a.1), (3, .int x3)] dX6_unlike_45 (by decide) rfl ?_
    refine g_iinc (pc := 46) C 3 (x3 + 1) [(3, .int (x3 + 1)), (2, .int (x2 ||| (1 <<< (v40 &&& 31)))), (1, .int (s0 + s1)), (0, .ref a.1)] dX6_unlike_46 rfl (congrArg (HAdd.hAdd _) (by decide)) (by decide) rfl ?_
    refine g_goto (pc := 49) C 6 dX6_unlike_49 (by decide) ?_
    refine g_sub [3, 2, 1, 0] (lv' := [(0, .ref a.1), (1, .int (s0 + s1)), (2, .int (x2 ||| (1 <<< (v40 &&& 31)))), (3, .int (x3 + 1))]) rfl ?_
    exact hK m (s0 + s1) (x2 ||| (1 <<< (v40 &&& 31))) (x3 + 1) hf
  have L6 : ∀ (fu : Nat) (m : MD) (x1 : Int32) (x2 : Int32) (x3 : Int32), M_unlike_L6 fu m x1 x2 x3 = some out → kG κ D A 4 0 0 (kF κ D A (some (.int out)) [wM cI cS a m]) (csM cI cS a m) [(0, .ref a.1), (1, .int x1), (2, .int x2), (3, .int x3)] 6 [] := by
    intro fu; induction fu with
    | zero => intro m x1 x2 x3 hf; rw [M_unlike_L6] at hf; cases hf
    | succ fu ih =>
      intro m x1 x2 x3 hf; rw [M_unlike_L6] at hf
      refine g_iload_n (pc := 6) C 3 dX6_unlike_6 rfl ?_
      refine g_aload_n (pc := 7) C 0 dX6_unlike_7 rfl ?_
      refine gf_RX6_7 (pc := 8) C 0 rfl dX6_unlike_8 ?_
      refine g_iconst (pc := 11) C 0 dX6_unlike_11 (by decide) ?_
      refine g_iald (pc := 12) C 1 0 rfl rfl (by decide) dX6_unlike_12 ?_
      refine g_icmp_ge (pc := 13) C 52 dX6_unlike_13 (by decide) (fun (c13 : (m.1 (ix 0)) ≤ x3) => ?_) (fun (c13 : ¬ (m.1 (ix 0)) ≤ x3) => ?_)
      · have hf := k_pos c13 hf
        refine g_iload_n (pc := 52) C 1 dX6_unlike_52 rfl ?_
        have e := Option.some.inj hf; subst e
        exact g_ri (pc := 53) C rfl (flM cI cS a m) dX6_unlike_53
      · have hf := k_neg c13 hf
        refine g_iload_n (pc := 16) C 1 dX6_unlike_16 rfl ?_
        refine g_iload_n (pc := 17) C 2 dX6_unlike_17 rfl ?_
        refine g_aload_n (pc := 18) C 0 dX6_unlike_18 rfl ?_
        refine g_iload_n (pc := 19) C 3 dX6_unlike_19 rfl ?_
        obtain ⟨v20, h20, hf⟩ := Option.bind_eq_some_iff.mp hf
        refine g_callV' (pc := 20) hla C (c_X6_sign l D cI cS a m x3 v20 h20) gg_RX6_83 hd_X6_sign (by decide) rfl rfl rfl rfl (Nat.le_of_ble_eq_true rfl) dX6_unlike_20 (seM_0 cI cS a m) (seM_0 cI cS a m).symm [.int v20, .int x2, .int x1] rfl ?_
        refine g_ishr (pc := 23) C dX6_unlike_23 ?_
        refine g_iconst (pc := 24) C 1 dX6_unlike_24 (by decide) ?_
        refine g_iand (pc := 25) C dX6_unlike_25 ?_
        refine g_if_ne (pc := 26) C 33 dX6_unlike_26 (by decide) (fun (c26 : ¬ ((x2 >>> (v20 &&& 31)) &&& 1) = 0) => ?_) (fun (c26 : ((x2 >>> (v20 &&& 31)) &&& 1) = 0) => ?_)
        · have hf := k_neg c26 hf
          refine g_iconst (pc := 33) C 0 dX6_unlike_33 (by decide) ?_
          refine g_sub [0, 2, 3] (lv' := [(0, .ref a.1), (2, .int x2), (3, .int x3)]) rfl ?_
          exact J34 (fun q0 q1 q2 q3 => M_unlike_L6 fu q0 q1 q2 q3) ih m x2 x3 x1 0 hf
        · have hf := k_pos c26 hf
          refine g_iconst (pc := 29) C 1 dX6_unlike_29 (by decide) ?_
          refine g_goto (pc := 30) C 34 dX6_unlike_30 (by decide) ?_
          refine g_sub [0, 2, 3] (lv' := [(0, .ref a.1), (2, .int x2), (3, .int x3)]) rfl ?_
          exact J34 (fun q0 q1 q2 q3 => M_unlike_L6 fu q0 q1 q2 q3) ih m x2 x3 x1 1 hf
  rw [M_unlike] at hf
  refine g_iconst (pc := 0) C 0 dX6_unlike_0 (by decide) ?_
  refine g_istore_n (pc := 1) C [(1, .int 0), (0, .ref a.1)] dX6_unlike_1 (by decide) rfl ?_
  refine g_iconst (pc := 2) C 0 dX6_unlike_2 (by decide) ?_
  refine g_istore_n (pc := 3) C [(2, .int 0), (1, .int 0), (0, .ref a.1)] dX6_unlike_3 (by decide) rfl ?_
  refine g_iconst (pc := 4) C 0 dX6_unlike_4 (by decide) ?_
  refine g_istore_n (pc := 5) C [(3, .int 0), (2, .int 0), (1, .int 0), (0, .ref a.1)] dX6_unlike_5 (by decide) rfl ?_
  refine g_sub [3, 2, 1, 0] (lv' := [(0, .ref a.1), (1, .int 0), (2, .int 0), (3, .int 0)]) rfl ?_
  exact L6 1000 m 0 0 0 hf
