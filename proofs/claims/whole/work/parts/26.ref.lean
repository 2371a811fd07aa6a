set_option maxHeartbeats 4000000 in
set_option maxRecDepth 100000 in
theorem c_X6_clipHeight (l : Launch) (D : va_G) (cI cS : ClassId) (a : aM) (m : MD) (out : Int32) (hf : M_clipHeight m = some out) : kM l D (kTy cI cS) yX6_clipHeight ct_X6_clipHeight rm_X6_clipHeight [.ref a.1] [wM cI cS a m] (kEq (some (.int out)) [wM cI cS a m]) := by
  refine k_methodE cX6_clipHeight 3 (some .int) RX6 rfl [(0, .ref a.1)] rfl (by decide +kernel) (Nat.le_of_ble_eq_true rfl) (fun κ A hla C => ?_)
  refine g_chunks (flM cI cS a m).symm ?_
  have L4 : ∀ (fu : Nat) (m : MD) (x1 : Int32) (x2 : Int32), M_clipHeight_L4 fu m x1 x2 = some out → kG κ D A 3 0 0 (kF κ D A (some (.int out)) [wM cI cS a m]) (csM cI cS a m) [(0, .ref a.1), (1, .int x1), (2, .int x2)] 4 [] := by
    intro fu; induction fu with
    | zero => intro m x1 x2 hf; rw [M_clipHeight_L4] at hf; cases hf
    | succ fu ih =>
      intro m x1 x2 hf; rw [M_clipHeight_L4] at hf
      refine g_iload_n (pc := 4) C 2 dX6_clipHeight_4 rfl ?_
      refine g_aload_n (pc := 5) C 0 dX6_clipHeight_5 rfl ?_
      refine gf_RX6_7 (pc := 6) C 0 rfl dX6_clipHeight_6 ?_
      refine g_iconst (pc := 9) C 4 dX6_clipHeight_9 (by decide) ?_
      refine g_iald (pc := 10) C 1 0 rfl rfl (by decide) dX6_clipHeight_10 ?_
      refine g_icmp_ge (pc := 11) C 57 dX6_clipHeight_11 (by decide) (fun (c11 : (m.1 (ix 4)) ≤ x2) => ?_) (fun (c11 : ¬ (m.1 (ix 4)) ≤ x2) => ?_)
      · have hf := k_pos c11 hf
        refine g_iload_n (pc := 57) C 1 dX6_clipHeight_57 rfl ?_
        have e := Option.some.inj hf; subst e
        exact g_ri (pc := 58) C rfl (flM cI cS a m) dX6_clipHeight_58
      · have hf := k_neg c11 hf
        refine g_aload_n (pc := 14) C 0 dX6_clipHeight_14 rfl ?_
        refine gf_RX6_7 (pc := 15) C 0 rfl dX6_clipHeight_15 ?_
        refine g_sipush (pc := 18) C 138 dX6_clipHeight_18 (by decide) ?_
        refine g_iconst (pc := 21) C 2 dX6_clipHeight_21 (by decide) ?_
        refine g_iload_n (pc := 22) C 2 dX6_clipHeight_22 rfl ?_
        refine g_imul (pc := 23) C dX6_clipHeight_23 ?_
        refine g_iadd (pc := 24) C dX6_clipHeight_24 ?_
        refine g_iconst (pc := 25) C 1 dX6_clipHeight_25 (by decide) ?_
        refine g_iadd (pc := 26) C dX6_clipHeight_26 ?_
        obtain ⟨g27, hf⟩ := k_guard hf
        refine g_iald (pc := 27) C 1 0 rfl rfl g27 dX6_clipHeight_27 ?_
        refine g_iload_n (pc := 28) C 1 dX6_clipHeight_28 rfl ?_
        refine g_icmp_le (pc := 29) C 49 dX6_clipHeight_29 (by decide) (fun (c29 : (m.1 (ix ((138 + (2 * x2)) + 1))) ≤ x1) => ?_) (fun (c29 : ¬ (m.1 (ix ((138 + (2 * x2)) + 1))) ≤ x1) => ?_)
        · have hf := k_pos c29 hf
          refine g_iload_n (pc := 49) C 1 dX6_clipHeight_49 rfl ?_
          refine g_istore_n (pc := 50) C [(1, .int x1), (0, .ref a.1), (2, .int x2)] dX6_clipHeight_50 (by decide) rfl ?_
          refine g_iinc (pc := 51) C 2 (x2 + 1) [(2, .int (x2 + 1)), (1, .int x1), (0, .ref a.1)] dX6_clipHeight_51 rfl (congrArg (HAdd.hAdd _) (by decide)) (by decide) rfl ?_
          refine g_goto (pc := 54) C 4 dX6_clipHeight_54 (by decide) ?_
          refine g_sub [2, 1, 0] (lv' := [(0, .ref a.1), (1, .int x1), (2, .int (x2 + 1))]) rfl ?_
          exact ih m x1 (x2 + 1) hf
        · have hf := k_neg c29 hf
          refine g_aload_n (pc := 32) C 0 dX6_clipHeight_32 rfl ?_
          refine gf_RX6_7 (pc := 33) C 0 rfl dX6_clipHeight_33 ?_
          refine g_sipush (pc := 36) C 138 dX6_clipHeight_36 (by decide) ?_
          refine g_iconst (pc := 39) C 2 dX6_clipHeight_39 (by decide) ?_
          refine g_iload_n (pc := 40) C 2 dX6_clipHeight_40 rfl ?_
          refine g_imul (pc := 41) C dX6_clipHeight_41 ?_
          refine g_iadd (pc := 42) C dX6_clipHeight_42 ?_
          refine g_iconst (pc := 43) C 1 dX6_clipHeight_43 (by decide) ?_
          refine g_iadd (pc := 44) C dX6_clipHeight_44 ?_
          obtain ⟨g45, hf⟩ := k_guard hf
          refine g_iald (pc := 45) C 1 0 rfl rfl g45 dX6_clipHeight_45 ?_
          refine g_goto (pc := 46) C 50 dX6_clipHeight_46 (by decide) ?_
          refine g_istore_n (pc := 50) C [(1, .int (m.1 (ix ((138 + (2 * x2)) + 1)))), (0, .ref a.1), (2, .int x2)] dX6_clipHeight_50 (by decide) rfl ?_
          refine g_iinc (pc := 51) C 2 (x2 + 1) [(2, .int (x2 + 1)), (1, .int (m.1 (ix ((138 + (2 * x2)) + 1)))), (0, .ref a.1)] dX6_clipHeight_51 rfl (congrArg (HAdd.hAdd _) (by decide)) (by decide) rfl ?_
          refine g_goto (pc := 54) C 4 dX6_clipHeight_54 (by decide) ?_
          refine g_sub [2, 1, 0] (lv' := [(0, .ref a.1), (1, .int (m.1 (ix ((138 + (2 * x2)) + 1)))), (2, .int (x2 + 1))]) rfl ?_
          exact ih m (m.1 (ix ((138 + (2 * x2)) + 1))) (x2 + 1) hf
  rw [M_clipHeight] at hf
  refine g_iconst (pc := 0) C 0 dX6_clipHeight_0 (by decide) ?_
  refine g_istore_n (pc := 1) C [(1, .int 0), (0, .ref a.1)] dX6_clipHeight_1 (by decide) rfl ?_
  refine g_iconst (pc := 2) C 0 dX6_clipHeight_2 (by decide) ?_
  refine g_istore_n (pc := 3) C [(2, .int 0), (1, .int 0), (0, .ref a.1)] dX6_clipHeight_3 (by decide) rfl ?_
  refine g_sub [2, 1, 0] (lv' := [(0, .ref a.1), (1, .int 0), (2, .int 0)]) rfl ?_
  exact L4 1000 m 0 0 hf
set_option maxHeartbeats 4000000 in
set_option maxRecDepth 100000 in
theorem c_X6_paste (l : Launch) (D : va_G) (cI cS : ClassId) (a : aM) (m : MD) (x1 : Int32) (out : Int32 × MD) (hf : M_paste m x1 = some out) : kM l D (kTy cI cS) yX6_paste ct_X6_paste rm_X6_paste [.ref a.1, .int x1] [wM cI cS a m] (kEq (some (.int out.1)) [wM cI cS a out.2]) := by
  refine k_methodE cX6_paste 6 (some .int) RX6 rfl [(0, .ref a.1), (1, .int x1)] rfl (by decide +kernel) (Nat.le_of_ble_eq_true rfl) (fun κ A hla C => ?_)
  refine g_chunks (flM cI cS a m).symm ?_
  have L114 : ∀ (fu : Nat) (m : MD) (x3 : Int32) (x4 : Int32) (x5 : Int32), M_paste_L114 fu m x3 x4 x5 = some out → kG κ D A 6 0 0 (kF κ D A (some (.int out.1)) [wM cI cS a out.2]) (csM cI cS a m) [(0, .ref a.1), (3, .int x3), (4, .int x4), (5, .int x5)] 114 [] := by
    intro fu; induction fu with
    | zero => intro m x3 x4 x5 hf; rw [M_paste_L114] at hf; cases hf
    | succ fu ih =>
      intro m x3 x4 x5 hf; rw [M_paste_L114] at hf
      refine g_iload (pc := 114) C 3 dX6_paste_114 rfl ?_
      refine g_aload_n (pc := 116) C 0 dX6_paste_116 rfl ?_
      refine gf_RX6_7 (pc := 117) C 0 rfl dX6_paste_117 ?_
      refine g_iconst (pc := 120) C 4 dX6_paste_120 (by decide) ?_
      refine g_iald (pc := 121) C 1 0 rfl rfl (by decide) dX6_paste_121 ?_
      refine g_icmp_ge (pc := 122) C 170 dX6_paste_122 (by decide) (fun (c122 : (m.1 (ix 4)) ≤ x5) => ?_) (fun (c122 : ¬ (m.1 (ix 4)) ≤ x5) => ?_)
      · have hf := k_pos c122 hf
        refine g_aload_n (pc := 170) C 0 dX6_paste_170 rfl ?_
        refine g_aload_n (pc := 171) C 0 dX6_paste_171 rfl ?_
        refine gf_RX6_7 (pc := 172) C 0 rfl dX6_paste_172 ?_
        refine g_iconst (pc := 175) C 0 dX6_paste_175 (by decide) ?_
        refine g_iald (pc := 176) C 1 0 rfl rfl (by decide) dX6_paste_176 ?_
        obtain ⟨v177, h177, hf⟩ := Option.bind_eq_some_iff.mp hf
        refine g_callV' (pc := 177) hla C (c_X6_acted l D cI cS a m (m.1 (ix 0)) v177 h177) gg_RX6_72 hd_X6_acted (by decide) rfl rfl rfl rfl (Nat.le_of_ble_eq_true rfl) dX6_paste_177 (seM_0 cI cS a m) (seM_0 cI cS a v177.2).symm [.int v177.1] rfl ?_
        have e := Option.some.inj hf; subst e
        exact g_ri (pc := 180) C rfl (flM cI cS a v177.2) dX6_paste_180
      · have hf := k_neg c122 hf
        refine g_aload_n (pc := 125) C 0 dX6_paste_125 rfl ?_
        refine g_iload_n (pc := 126) C 1 dX6_paste_126 rfl ?_
        refine g_iload (pc := 127) C 3 dX6_paste_127 rfl ?_
        refine g_iadd (pc := 129) C dX6_paste_129 ?_
        refine g_aload_n (pc := 130) C 0 dX6_paste_130 rfl ?_
        refine gf_RX6_7 (pc := 131) C 0 rfl dX6_paste_131 ?_
        refine g_sipush (pc := 134) C 138 dX6_paste_134 (by decide) ?_
        refine g_iconst (pc := 137) C 2 dX6_paste_137 (by decide) ?_
        refine g_iload (pc := 138) C 3 dX6_paste_138 rfl ?_
        refine g_imul (pc := 140) C dX6_paste_140 ?_
        refine g_iadd (pc := 141) C dX6_paste_141 ?_
        obtain ⟨g142, hf⟩ := k_guard hf
        refine g_iald (pc := 142) C 1 0 rfl rfl g142 dX6_paste_142 ?_
        refine g_iload (pc := 143) C 2 dX6_paste_143 rfl ?_
        refine g_aload_n (pc := 145) C 0 dX6_paste_145 rfl ?_
        refine gf_RX6_7 (pc := 146) C 0 rfl dX6_paste_146 ?_
        refine g_sipush (pc := 149) C 138 dX6_paste_149 (by decide) ?_
        refine g_iconst (pc := 152) C 2 dX6_paste_152 (by decide) ?_
        refine g_iload (pc := 153) C 3 dX6_paste_153 rfl ?_
        refine g_imul (pc := 155) C dX6_paste_155 ?_
        refine g_iadd (pc := 156) C dX6_paste_156 ?_
        refine g_iconst (pc := 157) C 1 dX6_paste_157 (by decide) ?_
        refine g_iadd (pc := 158) C dX6_paste_158 ?_
        obtain ⟨g159, hf⟩ := k_guard hf
        refine g_iald (pc := 159) C 1 0 rfl rfl g159 dX6_paste_159 ?_
        refine g_iadd (pc := 160) C dX6_paste_160 ?_
        obtain ⟨v161, h161, hf⟩ := Option.bind_eq_some_iff.mp hf
        refine g_callV' (pc := 161) hla C (c_X6_lays l D cI cS a m (x3 + x5) (m.1 (ix (138 + (2 * x5)))) (x4 + (m.1 (ix ((138 + (2 * x5)) + 1)))) v161 h161) gg_RX6_90 hd_X6_lays (by decide) rfl rfl rfl rfl (Nat.le_of_ble_eq_true rfl) dX6_paste_161 (seM_0 cI cS a m) (seM_0 cI cS a v161).symm [] rfl ?_
        refine g_iinc (pc := 164) C 3 (x5 + 1) [(5, .int (x5 + 1)), (0, .ref a.1), (3, .int x3), (4, .int x4)] dX6_paste_164 rfl (congrArg (HAdd.hAdd _) (by decide)) (by decide) rfl ?_
        refine g_goto (pc := 167) C 114 dX6_paste_167 (by decide) ?_
        refine g_sub [1, 2, 3, 0] (lv' := [(0, .ref a.1), (3, .int x3), (4, .int x4), (5, .int (x5 + 1))]) rfl ?_
        exact ih v161 x3 x4 (x5 + 1) hf
  rw [M_paste] at hf
  refine g_aload_n (pc := 0) C 0 dX6_paste_0 rfl ?_
  obtain ⟨v1, h1, hf⟩ := Option.bind_eq_some_iff.mp hf
  refine g_callV' (pc := 1) hla C (c_X6_begins l D cI cS a m v1 h1) gg_RX6_55 hd_X6_begins (by decide) rfl rfl rfl rfl (Nat.le_of_ble_eq_true rfl) dX6_paste_1 (seM_0 cI cS a m) (seM_0 cI cS a v1).symm [] rfl ?_
  refine g_aload_n (pc := 4) C 0 dX6_paste_4 rfl ?_
  obtain ⟨v5, h5, hf⟩ := Option.bind_eq_some_iff.mp hf
  refine g_callV' (pc := 5) hla C (c_X6_place l D cI cS a v1 v5 h5) gg_RX6_58 hd_X6_place (by decide) rfl rfl rfl rfl (Nat.le_of_ble_eq_true rfl) dX6_paste_5 (seM_0 cI cS a v1) (seM_0 cI cS a v1).symm [.int v5] rfl ?_
  refine g_istore_n (pc := 8) C [(2, .int v5), (0, .ref a.1), (1, .int x1)] dX6_paste_8 (by decide) rfl ?_
  refine g_iload_n (pc := 9) C 2 dX6_paste_9 rfl ?_
  refine g_iconst (pc := 10) C 0 dX6_paste_10 (by decide) ?_
  refine g_aload_n (pc := 11) C 1 dX6_paste_11 rfl ?_
  refine g_iload_n (pc := 12) C 0 dX6_paste_12 rfl ?_
  obtain ⟨v13, h13, hf⟩ := Option.bind_eq_some_iff.mp hf
  refine g_callV' (pc := 13) hla C (c_X6_children l D cI cS a v1 v5 v13 h13) gg_RX6_62 hd_X6_children (by decide) rfl rfl rfl rfl (Nat.le_of_ble_eq_true rfl) dX6_paste_13 (seM_0 cI cS a v1) (seM_0 cI cS a v1).symm [.int v13, .int 0, .int x1] rfl ?_
  obtain ⟨v16, h16, hf⟩ := Option.bind_eq_some_iff.mp hf
  refine g_callS' (pc := 16) hla C (c_X6_in l D cI cS x1 0 v13 v16 h16) tb_X6_in m_744 m_X6_in_static m_ini_RX6 hd_X6_in (by decide) rfl rfl (Nat.le_of_ble_eq_true rfl) dX6_paste_16 (seM_nil cI cS a v1) (seM_nil cI cS a v1).symm [.int v16] rfl ?_
  refine g_if_ne (pc := 19) C 24 dX6_paste_19 (by decide) (fun (c19 : ¬ v16 = 0) => ?_) (fun (c19 : v16 = 0) => ?_)
  · have hf := k_neg c19 hf
    refine g_aload_n (pc := 24) C 1 dX6_paste_24 rfl ?_
    refine gf_RX6_7 (pc := 25) C 0 rfl dX6_paste_25 ?_
    refine g_iconst (pc := 28) C 4 dX6_paste_28 (by decide) ?_
    refine g_iald (pc := 29) C 1 0 rfl rfl (by decide) dX6_paste_29 ?_
    refine g_if_ne (pc := 30) C 36 dX6_paste_30 (by decide) (fun (c30 : ¬ (v1.1 (ix 4)) = 0) => ?_) (fun (c30 : (v1.1 (ix 4)) = 0) => ?_)
    · have hf := k_neg c30 hf
      refine g_aload_n (pc := 36) C 1 dX6_paste_36 rfl ?_
      refine gf_RX6_7 (pc := 37) C 0 rfl dX6_paste_37 ?_
      refine g_iconst (pc := 40) C 0 dX6_paste_40 (by decide) ?_
      refine g_iald (pc := 41) C 1 0 rfl rfl (by decide) dX6_paste_41 ?_
      refine g_aload_n (pc := 42) C 1 dX6_paste_42 rfl ?_
      refine gf_RX6_7 (pc := 43) C 0 rfl dX6_paste_43 ?_
      refine g_iconst (pc := 46) C 4 dX6_paste_46 (by decide) ?_
      refine g_iald (pc := 47) C 1 0 rfl rfl (by decide) dX6_paste_47 ?_
      refine g_iadd (pc := 48) C dX6_paste_48 ?_
      refine g_bipush (pc := 49) C 40 dX6_paste_49 (by decide) ?_
      refine g_icmp_gt (pc := 51) C 81 dX6_paste_51 (by decide) (fun (c51 : 40 < ((v1.1 (ix 0)) + (v1.1 (ix 4)))) => ?_) (fun (c51 : ¬ 40 < ((v1.1 (ix 0)) + (v1.1 (ix 4)))) => ?_)
      · have hf := k_pos c51 hf
        refine g_bipush (pc := 81) C (-3) dX6_paste_81 (by decide) ?_
        have e := Option.some.inj hf; subst e
        exact g_ri (pc := 83) C rfl (flM cI cS a v1) dX6_paste_83
      · have hf := k_neg c51 hf
        refine g_aload_n (pc := 54) C 1 dX6_paste_54 rfl ?_
        refine g_iload_n (pc := 55) C 0 dX6_paste_55 rfl ?_
        obtain ⟨v56, h56, hf⟩ := Option.bind_eq_some_iff.mp hf
        refine g_callV' (pc := 56) hla C (c_X6_children l D cI cS a v1 v5 v56 h56) gg_RX6_62 hd_X6_children (by decide) rfl rfl rfl rfl (Nat.le_of_ble_eq_true rfl) dX6_paste_56 (seM_0 cI cS a v1) (seM_0 cI cS a v1).symm [.int v56] rfl ?_
        refine g_bipush (pc := 59) C 6 dX6_paste_59 (by decide) ?_
        refine g_icmp_eq (pc := 61) C 81 dX6_paste_61 (by decide) (fun (c61 : v56 = 6) => ?_) (fun (c61 : ¬ v56 = 6) => ?_)
        · have hf := k_pos c61 hf
          refine g_bipush (pc := 81) C (-3) dX6_paste_81 (by decide) ?_
          have e := Option.some.inj hf; subst e
          exact g_ri (pc := 83) C rfl (flM cI cS a v1) dX6_paste_83
        · have hf := k_neg c61 hf
          refine g_aload_n (pc := 64) C 1 dX6_paste_64 rfl ?_
          refine g_iload_n (pc := 65) C 0 dX6_paste_65 rfl ?_
          obtain ⟨v66, h66, hf⟩ := Option.bind_eq_some_iff.mp hf
          refine g_callV' (pc := 66) hla C (c_X6_deep l D cI cS a v1 v5 v66 h66) gg_RX6_46 hd_X6_deep (by decide) rfl rfl rfl rfl (Nat.le_of_ble_eq_true rfl) dX6_paste_66 (seM_0 cI cS a v1) (seM_0 cI cS a v1).symm [.int v66] rfl ?_
          refine g_iconst (pc := 69) C 1 dX6_paste_69 (by decide) ?_
          refine g_iadd (pc := 70) C dX6_paste_70 ?_
          refine g_aload_n (pc := 71) C 1 dX6_paste_71 rfl ?_
          obtain ⟨v72, h72, hf⟩ := Option.bind_eq_some_iff.mp hf
          refine g_callV' (pc := 72) hla C (c_X6_clipHeight l D cI cS a v1 v72 h72) gg_RX6_118 hd_X6_clipHeight (by decide) rfl rfl rfl rfl (Nat.le_of_ble_eq_true rfl) dX6_paste_72 (seM_0 cI cS a v1) (seM_0 cI cS a v1).symm [.int v72, .int (v66 + 1)] rfl ?_
          refine g_iadd (pc := 75) C dX6_paste_75 ?_
          refine g_bipush (pc := 76) C 7 dX6_paste_76 (by decide) ?_
          refine g_icmp_le (pc := 78) C 84 dX6_paste_78 (by decide) (fun (c78 : ((v66 + 1) + v72) ≤ 7) => ?_) (fun (c78 : ¬ ((v66 + 1) + v72) ≤ 7) => ?_)
          · have hf := k_pos c78 hf
            refine g_aload_n (pc := 84) C 1 dX6_paste_84 rfl ?_
            refine g_iload_n (pc := 85) C 0 dX6_paste_85 rfl ?_
            refine g_iload_n (pc := 86) C 2 dX6_paste_86 rfl ?_
            obtain ⟨v87, h87, hf⟩ := Option.bind_eq_some_iff.mp hf
            refine g_callV' (pc := 87) hla C (c_X6_childOf l D cI cS a v1 v5 x1 v87 h87) gg_RX6_65 hd_X6_childOf (by decide) rfl rfl rfl rfl (Nat.le_of_ble_eq_true rfl) dX6_paste_87 (seM_0 cI cS a v1) (seM_0 cI cS a v1).symm [.int v87] rfl ?_
            refine g_istore_n (pc := 90) C [(3, .int v87), (2, .int v5), (0, .ref a.1), (1, .int x1)] dX6_paste_90 (by decide) rfl ?_
            refine g_aload_n (pc := 91) C 2 dX6_paste_91 rfl ?_
            refine g_iload_n (pc := 92) C 1 dX6_paste_92 rfl ?_
            obtain ⟨v93, h93, hf⟩ := Option.bind_eq_some_iff.mp hf
            refine g_callV' (pc := 93) hla C (c_X6_deep l D cI cS a v1 v5 v93 h93) gg_RX6_46 hd_X6_deep (by decide) rfl rfl rfl rfl (Nat.le_of_ble_eq_true rfl) dX6_paste_93 (seM_0 cI cS a v1) (seM_0 cI cS a v1).symm [.int v93] rfl ?_
            refine g_iconst (pc := 96) C 1 dX6_paste_96 (by decide) ?_
            refine g_iadd (pc := 97) C dX6_paste_97 ?_
            refine g_istore (pc := 98) C [(4, .int (v93 + 1)), (3, .int v87), (2, .int v5), (0, .ref a.1), (1, .int x1)] dX6_paste_98 (by decide) rfl ?_
            refine g_aload_n (pc := 100) C 3 dX6_paste_100 rfl ?_
            refine g_iload_n (pc := 101) C 1 dX6_paste_101 rfl ?_
            refine g_aload_n (pc := 102) C 3 dX6_paste_102 rfl ?_
            refine gf_RX6_7 (pc := 103) C 0 rfl dX6_paste_103 ?_
            refine g_iconst (pc := 106) C 4 dX6_paste_106 (by decide) ?_
            refine g_iald (pc := 107) C 1 0 rfl rfl (by decide) dX6_paste_107 ?_
            obtain ⟨v108, h108, hf⟩ := Option.bind_eq_some_iff.mp hf
            refine g_callV' (pc := 108) hla C (c_X6_opens l D cI cS a v1 v87 (v1.1 (ix 4)) v108 h108) gg_RX6_86 hd_X6_opens (by decide) rfl rfl rfl rfl (Nat.le_of_ble_eq_true rfl) dX6_paste_108 (seM_0 cI cS a v1) (seM_0 cI cS a v108).symm [] rfl ?_
            refine g_iconst (pc := 111) C 0 dX6_paste_111 (by decide) ?_
            refine g_istore (pc := 112) C [(5, .int 0), (4, .int (v93 + 1)), (3, .int v87), (2, .int v5), (0, .ref a.1), (1, .int x1)] dX6_paste_112 (by decide) rfl ?_
            refine g_sub [4, 2, 1, 0] (lv' := [(0, .ref a.1), (3, .int v87), (4, .int (v93 + 1)), (5, .int 0)]) rfl ?_
            exact L114 1000 v108 v87 (v93 + 1) 0 hf
          · have hf := k_neg c78 hf
            refine g_bipush (pc := 81) C (-3) dX6_paste_81 (by decide) ?_
            have e := Option.some.inj hf; subst e
            exact g_ri (pc := 83) C rfl (flM cI cS a v1) dX6_paste_83
    · have hf := k_pos c30 hf
      refine g_bipush (pc := 33) C (-2) dX6_paste_33 (by decide) ?_
      have e := Option.some.inj hf; subst e
      exact g_ri (pc := 35) C rfl (flM cI cS a v1) dX6_paste_35
  · have hf := k_pos c19 hf
    refine g_iconst (pc := 22) C (-1) dX6_paste_22 (by decide) ?_
    have e := Option.some.inj hf; subst e
    exact g_ri (pc := 23) C rfl (flM cI cS a v1) dX6_paste_23
set_option maxHeartbeats 4000000 in
set_option maxRecDepth 100000 in
theorem c_X6_mark (l : Launch) (D : va_G) (cI cS : ClassId) (a : aM) (m : MD) (x1 : Int32) (out : Int32 × MD) (hf : M_mark m x1 = some out) : kM l D (kTy cI cS) yX6_mark ct_X6_mark rm_X6_mark [.ref a.1, .int x1] [wM cI cS a m] (kEq (some (.int out.1)) [wM cI cS a out.2]) := by
  refine k_methodE cX6_mark 3 (some .int) RX6 rfl [(0, .ref a.1), (1, .int x1)] rfl (by decide +kernel) (Nat.le_of_ble_eq_true rfl) (fun κ A hla C => ?_)
  refine g_chunks (flM cI cS a m).symm ?_
  rw [M_mark] at hf
  refine g_aload_n (pc := 0) C 0 dX6_mark_0 rfl ?_
  obtain ⟨v1, h1, hf⟩ := Option.bind_eq_some_iff.mp hf
  refine g_callV' (pc := 1) hla C (c_X6_begins l D cI cS a m v1 h1) gg_RX6_55 hd_X6_begins (by decide) rfl rfl rfl rfl (Nat.le_of_ble_eq_true rfl) dX6_mark_1 (seM_0 cI cS a m) (seM_0 cI cS a v1).symm [] rfl ?_
  refine g_iload_n (pc := 4) C 1 dX6_mark_4 rfl ?_
  refine g_iconst (pc := 5) C 0 dX6_mark_5 (by decide) ?_
  refine g_iconst (pc := 6) C 3 dX6_mark_6 (by decide) ?_
  obtain ⟨v7, h7, hf⟩ := Option.bind_eq_some_iff.mp hf
  refine g_callS' (pc := 7) hla C (c_X6_in l D cI cS x1 0 3 v7 h7) tb_X6_in m_744 m_X6_in_static m_ini_RX6 hd_X6_in (by decide) rfl rfl (Nat.le_of_ble_eq_true rfl) dX6_mark_7 (seM_nil cI cS a v1) (seM_nil cI cS a v1).symm [.int v7] rfl ?_
  refine g_if_ne (pc := 10) C 15 dX6_mark_10 (by decide) (fun (c10 : ¬ v7 = 0) => ?_) (fun (c10 : v7 = 0) => ?_)
  · have hf := k_neg c10 hf
    refine g_aload_n (pc := 15) C 0 dX6_mark_15 rfl ?_
    refine g_aload_n (pc := 16) C 0 dX6_mark_16 rfl ?_
    refine gf_RX6_7 (pc := 17) C 0 rfl dX6_mark_17 ?_
    refine g_iconst (pc := 20) C 5 dX6_mark_20 (by decide) ?_
    refine g_iload_n (pc := 21) C 1 dX6_mark_21 rfl ?_
    refine g_iadd (pc := 22) C dX6_mark_22 ?_
    obtain ⟨g23, hf⟩ := k_guard hf
    refine g_iald (pc := 23) C 1 0 rfl rfl g23 dX6_mark_23 ?_
    obtain ⟨v24, h24, hf⟩ := Option.bind_eq_some_iff.mp hf
    refine g_callV' (pc := 24) hla C (c_X6_numberOf l D cI cS a v1 (v1.1 (ix (5 + x1))) v24 h24) gg_RX6_43 hd_X6_numberOf (by decide) rfl rfl rfl rfl (Nat.le_of_ble_eq_true rfl) dX6_mark_24 (seM_0 cI cS a v1) (seM_0 cI cS a v1).symm [.int v24] rfl ?_
    refine g_istore_n (pc := 27) C [(2, .int v24), (0, .ref a.1), (1, .int x1)] dX6_mark_27 (by decide) rfl ?_
    refine g_aload_n (pc := 28) C 1 dX6_mark_28 rfl ?_
    refine gf_RX6_7 (pc := 29) C 0 rfl dX6_mark_29 ?_
    refine g_iconst (pc := 32) C 5 dX6_mark_32 (by decide) ?_
    refine g_iload_n (pc := 33) C 2 dX6_mark_33 rfl ?_
    refine g_iadd (pc := 34) C dX6_mark_34 ?_
    refine g_aload_n (pc := 35) C 1 dX6_mark_35 rfl ?_
    refine gf_RX6_7 (pc := 36) C 0 rfl dX6_mark_36 ?_
    refine g_iconst (pc := 39) C 2 dX6_mark_39 (by decide) ?_
    refine g_iald (pc := 40) C 1 0 rfl rfl (by decide) dX6_mark_40 ?_
    obtain ⟨g41, hf⟩ := k_guard hf
    obtain ⟨u41, e41, hf⟩ := Option.bind_eq_some_iff.mp hf
    refine g_iastU (pc := 41) C 1 0 u41 (Option.some.inj e41) (csM cI cS a (u41, v1.2.1, v1.2.2.1, v1.2.2.2.1, v1.2.2.2.2.1, v1.2.2.2.2.2.1, v1.2.2.2.2.2.2.1, v1.2.2.2.2.2.2.2.1, v1.2.2.2.2.2.2.2.2.1, v1.2.2.2.2.2.2.2.2.2.1, v1.2.2.2.2.2.2.2.2.2.2.1, v1.2.2.2.2.2.2.2.2.2.2.2)) rfl rfl g41 rfl dX6_mark_41 ?_
    refine g_aload_n (pc := 42) C 1 dX6_mark_42 rfl ?_
    refine g_iload_n (pc := 43) C 0 dX6_mark_43 rfl ?_
    refine g_if_ge (pc := 44) C 52 dX6_mark_44 (by decide) (fun (c44 : 0 ≤ v24) => ?_) (fun (c44 : ¬ 0 ≤ v24) => ?_)
    · have hf := k_pos c44 hf
      refine g_iload_n (pc := 52) C 0 dX6_mark_52 rfl ?_
      obtain ⟨v53, h53, hf⟩ := Option.bind_eq_some_iff.mp hf
      refine g_callV' (pc := 53) hla C (c_X6_acted l D cI cS a (u41, v1.2.1, v1.2.2.1, v1.2.2.2.1, v1.2.2.2.2.1, v1.2.2.2.2.2.1, v1.2.2.2.2.2.2.1, v1.2.2.2.2.2.2.2.1, v1.2.2.2.2.2.2.2.2.1, v1.2.2.2.2.2.2.2.2.2.1, v1.2.2.2.2.2.2.2.2.2.2.1, v1.2.2.2.2.2.2.2.2.2.2.2) v24 v53 h53) gg_RX6_72 hd_X6_acted (by decide) rfl rfl rfl rfl (Nat.le_of_ble_eq_true rfl) dX6_mark_53 (seM_0 cI cS a (u41, v1.2.1, v1.2.2.1, v1.2.2.2.1, v1.2.2.2.2.1, v1.2.2.2.2.2.1, v1.2.2.2.2.2.2.1, v1.2.2.2.2.2.2.2.1, v1.2.2.2.2.2.2.2.2.1, v1.2.2.2.2.2.2.2.2.2.1, v1.2.2.2.2.2.2.2.2.2.2.1, v1.2.2.2.2.2.2.2.2.2.2.2)) (seM_0 cI cS a v53.2).symm [.int v53.1] rfl ?_
      have e := Option.some.inj hf; subst e
      exact g_ri (pc := 56) C rfl (flM cI cS a v53.2) dX6_mark_56
    · have hf := k_neg c44 hf
      refine g_bipush (pc := 47) C 100 dX6_mark_47 (by decide) ?_
      refine g_goto (pc := 49) C 53 dX6_mark_49 (by decide) ?_
      obtain ⟨v53, h53, hf⟩ := Option.bind_eq_some_iff.mp hf
      refine g_callV' (pc := 53) hla C (c_X6_acted l D cI cS a (u41, v1.2.1, v1.2.2.1, v1.2.2.2.1, v1.2.2.2.2.1, v1.2.2.2.2.2.1, v1.2.2.2.2.2.2.1, v1.2.2.2.2.2.2.2.1, v1.2.2.2.2.2.2.2.2.1, v1.2.2.2.2.2.2.2.2.2.1, v1.2.2.2.2.2.2.2.2.2.2.1, v1.2.2.2.2.2.2.2.2.2.2.2) 100 v53 h53) gg_RX6_72 hd_X6_acted (by decide) rfl rfl rfl rfl (Nat.le_of_ble_eq_true rfl) dX6_mark_53 (seM_0 cI cS a (u41, v1.2.1, v1.2.2.1, v1.2.2.2.1, v1.2.2.2.2.1, v1.2.2.2.2.2.1, v1.2.2.2.2.2.2.1, v1.2.2.2.2.2.2.2.1, v1.2.2.2.2.2.2.2.2.1, v1.2.2.2.2.2.2.2.2.2.1, v1.2.2.2.2.2.2.2.2.2.2.1, v1.2.2.2.2.2.2.2.2.2.2.2)) (seM_0 cI cS a v53.2).symm [.int v53.1] rfl ?_
      have e := Option.some.inj hf; subst e
      exact g_ri (pc := 56) C rfl (flM cI cS a v53.2) dX6_mark_56
  · have hf := k_pos c10 hf
    refine g_iconst (pc := 13) C (-1) dX6_mark_13 (by decide) ?_
    have e := Option.some.inj hf; subst e
    exact g_ri (pc := 14) C rfl (flM cI cS a v1) dX6_mark_14
set_option maxHeartbeats 4000000 in
set_option maxRecDepth 100000 in
theorem c_X6_goTo (l : Launch) (D : va_G) (cI cS : ClassId) (a : aM) (m : MD) (x1 : Int32) (out : Int32 × MD) (hf : M_goTo m x1 = some out) : kM l D (kTy cI cS) yX6_goTo ct_X6_goTo rm_X6_goTo [.ref a.1, .int x1] [wM cI cS a m] (kEq (some (.int out.1)) [wM cI cS a out.2]) := by
  refine k_methodE cX6_goTo 3 (some .int) RX6 rfl [(0, .ref a.1), (1, .int x1)] rfl (by decide +kernel) (Nat.le_of_ble_eq_true rfl) (fun κ A hla C => ?_)
  refine g_chunks (flM cI cS a m).symm ?_
  rw [M_goTo] at hf
  refine g_aload_n (pc := 0) C 0 dX6_goTo_0 rfl ?_
  obtain ⟨v1, h1, hf⟩ := Option.bind_eq_some_iff.mp hf
  refine g_callV' (pc := 1) hla C (c_X6_begins l D cI cS a m v1 h1) gg_RX6_55 hd_X6_begins (by decide) rfl rfl rfl rfl (Nat.le_of_ble_eq_true rfl) dX6_goTo_1 (seM_0 cI cS a m) (seM_0 cI cS a v1).symm [] rfl ?_
  refine g_iload_n (pc := 4) C 1 dX6_goTo_4 rfl ?_
  refine g_iconst (pc := 5) C 0 dX6_goTo_5 (by decide) ?_
  refine g_iconst (pc := 6) C 3 dX6_goTo_6 (by decide) ?_
  obtain ⟨v7, h7, hf⟩ := Option.bind_eq_some_iff.mp hf
  refine g_callS' (pc := 7) hla C (c_X6_in l D cI cS x1 0 3 v7 h7) tb_X6_in m_744 m_X6_in_static m_ini_RX6 hd_X6_in (by decide) rfl rfl (Nat.le_of_ble_eq_true rfl) dX6_goTo_7 (seM_nil cI cS a v1) (seM_nil cI cS a v1).symm [.int v7] rfl ?_
  refine g_if_ne (pc := 10) C 15 dX6_goTo_10 (by decide) (fun (c10 : ¬ v7 = 0) => ?_) (fun (c10 : v7 = 0) => ?_)
  · have hf := k_neg c10 hf
    refine g_aload_n (pc := 15) C 0 dX6_goTo_15 rfl ?_
    refine g_aload_n (pc := 16) C 0 dX6_goTo_16 rfl ?_
    refine gf_RX6_7 (pc := 17) C 0 rfl dX6_goTo_17 ?_
    refine g_iconst (pc := 20) C 5 dX6_goTo_20 (by decide) ?_
    refine g_iload_n (pc := 21) C 1 dX6_goTo_21 rfl ?_
    refine g_iadd (pc := 22) C dX6_goTo_22 ?_
    obtain ⟨g23, hf⟩ := k_guard hf
    refine g_iald (pc := 23) C 1 0 rfl rfl g23 dX6_goTo_23 ?_
    obtain ⟨v24, h24, hf⟩ := Option.bind_eq_some_iff.mp hf
    refine g_callV' (pc := 24) hla C (c_X6_numberOf l D cI cS a v1 (v1.1 (ix (5 + x1))) v24 h24) gg_RX6_43 hd_X6_numberOf (by decide) rfl rfl rfl rfl (Nat.le_of_ble_eq_true rfl) dX6_goTo_24 (seM_0 cI cS a v1) (seM_0 cI cS a v1).symm [.int v24] rfl ?_
    refine g_istore_n (pc := 27) C [(2, .int v24), (0, .ref a.1), (1, .int x1)] dX6_goTo_27 (by decide) rfl ?_
    refine g_iload_n (pc := 28) C 0 dX6_goTo_28 rfl ?_
    refine g_if_ge (pc := 29) C 37 dX6_goTo_29 (by decide) (fun (c29 : 0 ≤ v24) => ?_) (fun (c29 : ¬ 0 ≤ v24) => ?_)
    · have hf := k_pos c29 hf
      refine g_aload_n (pc := 37) C 1 dX6_goTo_37 rfl ?_
      refine g_aload_n (pc := 38) C 1 dX6_goTo_38 rfl ?_
      refine g_iload_n (pc := 39) C 0 dX6_goTo_39 rfl ?_
      obtain ⟨v40, h40, hf⟩ := Option.bind_eq_some_iff.mp hf
      refine g_callV' (pc := 40) hla C (c_X6_walks l D cI cS a v1 v24 v40 h40) gg_RX6_69 hd_X6_walks (by decide) rfl rfl rfl rfl (Nat.le_of_ble_eq_true rfl) dX6_goTo_40 (seM_0 cI cS a v1) (seM_0 cI cS a v40.2).symm [.int v40.1, .ref a.1] rfl ?_
      obtain ⟨v43, h43, hf⟩ := Option.bind_eq_some_iff.mp hf
      refine g_callV' (pc := 43) hla C (c_X6_acted l D cI cS a v40.2 v40.1 v43 h43) gg_RX6_72 hd_X6_acted (by decide) rfl rfl rfl rfl (Nat.le_of_ble_eq_true rfl) dX6_goTo_43 (seM_0 cI cS a v40.2) (seM_0 cI cS a v43.2).symm [.int v43.1] rfl ?_
      have e := Option.some.inj hf; subst e
      exact g_ri (pc := 46) C rfl (flM cI cS a v43.2) dX6_goTo_46
    · have hf := k_neg c29 hf
      refine g_bipush (pc := 32) C (-2) dX6_goTo_32 (by decide) ?_
      refine g_goto (pc := 34) C 46 dX6_goTo_34 (by decide) ?_
      have e := Option.some.inj hf; subst e
      exact g_ri (pc := 46) C rfl (flM cI cS a v1) dX6_goTo_46
  · have hf := k_pos c10 hf
    refine g_iconst (pc := 13) C (-1) dX6_goTo_13 (by decide) ?_
    have e := Option.some.inj hf; subst e
    exact g_ri (pc := 14) C rfl (flM cI cS a v1) dX6_goTo_14
set_option maxHeartbeats 4000000 in
set_option maxRecDepth 100000 in
theorem c_X6_orNone (l : Launch) (D : va_G) (cI cS : ClassId) (x0 : Int32) (out : Int32) (hf : M_orNone x0 = some out) : kM l D (kTy cI cS) yX6_orNone ct_X6_orNone rm_X6_orNone [.int x0] [] (kEq (some (.int out)) []) := by
  refine k_methodE cX6_orNone 1 (some .int) RX6 rfl [(0, .int x0)] rfl (by decide +kernel) (Nat.le_of_ble_eq_true rfl) (fun κ A hla C => ?_)
  refine g_chunks (flN cI cS ).symm ?_
  rw [M_orNone] at hf
  refine g_iload_n (pc := 0) C 0 dX6_orNone_0 rfl ?_
  refine g_if_ge (pc := 1) C 9 dX6_orNone_1 (by decide) (fun (c1 : 0 ≤ x0) => ?_) (fun (c1 : ¬ 0 ≤ x0) => ?_)
  · have hf := k_pos c1 hf
    refine g_iload_n (pc := 9) C 0 dX6_orNone_9 rfl ?_
    have e := Option.some.inj hf; subst e
    exact g_ri (pc := 10) C rfl (flN cI cS ) dX6_orNone_10
  · have hf := k_neg c1 hf
    refine g_bipush (pc := 4) C (-4) dX6_orNone_4 (by decide) ?_
    refine g_goto (pc := 6) C 10 dX6_orNone_6 (by decide) ?_
    have e := Option.some.inj hf; subst e
    exact g_ri (pc := 10) C rfl (flN cI cS ) dX6_orNone_10
set_option maxHeartbeats 4000000 in
set_option maxRecDepth 100000 in
theorem c_X6_marksAt (l : Launch) (D : va_G) (cI cS : ClassId) (a : aM) (m : MD) (x1 : Int32) (out : Int32) (hf : M_marksAt m x1 = some out) : kM l D (kTy cI cS) yX6_marksAt ct_X6_marksAt rm_X6_marksAt [.ref a.1, .int x1] [wM cI cS a m] (kEq (some (.int out)) [wM cI cS a m]) := by
  refine k_methodE cX6_marksAt 4 (some .int) RX6 rfl [(0, .ref a.1), (1, .int x1)] rfl (by decide +kernel) (Nat.le_of_ble_eq_true rfl) (fun κ A hla C => ?_)
  refine g_chunks (flM cI cS a m).symm ?_
  have L4 : ∀ (fu : Nat) (m : MD) (x1 : Int32) (x2 : Int32) (x3 : Int32), M_marksAt_L4 fu m x1 x2 x3 = some out → kG κ D A 4 0 0 (kF κ D A (some (.int out)) [wM cI cS a m]) (csM cI cS a m) [(0, .ref a.1), (1, .int x1), (2, .int x2), (3, .int x3)] 4 [] := by
    intro fu; induction fu with
    | zero => intro m x1 x2 x3 hf; rw [M_marksAt_L4] at hf; cases hf
    | succ fu ih =>
      intro m x1 x2 x3 hf; rw [M_marksAt_L4] at hf
      refine g_iload_n (pc := 4) C 3 dX6_marksAt_4 rfl ?_
      refine g_iconst (pc := 5) C 4 dX6_marksAt_5 (by decide) ?_
      refine g_icmp_ge (pc := 6) C 41 dX6_marksAt_6 (by decide) (fun (c6 : 4 ≤ x3) => ?_) (fun (c6 : ¬ 4 ≤ x3) => ?_)
      · have hf := k_pos c6 hf
        refine g_iload_n (pc := 41) C 2 dX6_marksAt_41 rfl ?_
        have e := Option.some.inj hf; subst e
        exact g_ri (pc := 42) C rfl (flM cI cS a m) dX6_marksAt_42
      · have hf := k_neg c6 hf
        refine g_iload_n (pc := 9) C 2 dX6_marksAt_9 rfl ?_
        refine g_aload_n (pc := 10) C 0 dX6_marksAt_10 rfl ?_
        refine gf_RX6_7 (pc := 11) C 0 rfl dX6_marksAt_11 ?_
        refine g_iconst (pc := 14) C 5 dX6_marksAt_14 (by decide) ?_
        refine g_iload_n (pc := 15) C 3 dX6_marksAt_15 rfl ?_
        refine g_iadd (pc := 16) C dX6_marksAt_16 ?_
        obtain ⟨g17, hf⟩ := k_guard hf
        refine g_iald (pc := 17) C 1 0 rfl rfl g17 dX6_marksAt_17 ?_
        refine g_aload_n (pc := 18) C 0 dX6_marksAt_18 rfl ?_
        refine g_iload_n (pc := 19) C 1 dX6_marksAt_19 rfl ?_
        obtain ⟨v20, h20, hf⟩ := Option.bind_eq_some_iff.mp hf
        refine g_callV' (pc := 20) hla C (c_X6_own l D cI cS a m x1 v20 h20) gg_RX6_39 hd_X6_own (by decide) rfl rfl rfl rfl (Nat.le_of_ble_eq_true rfl) dX6_marksAt_20 (seM_0 cI cS a m) (seM_0 cI cS a m).symm [.int v20, .int (m.1 (ix (5 + x3))), .int x2] rfl ?_
        refine g_icmp_ne (pc := 23) C 32 dX6_marksAt_23 (by decide) (fun (c23 : ¬ (m.1 (ix (5 + x3))) = v20) => ?_) (fun (c23 : (m.1 (ix (5 + x3))) = v20) => ?_)
        · have hf := k_neg c23 hf
          refine g_iconst (pc := 32) C 0 dX6_marksAt_32 (by decide) ?_
          refine g_ior (pc := 33) C dX6_marksAt_33 ?_
          refine g_istore_n (pc := 34) C [(2, .int (x2 ||| 0)), (0, .ref a.1), (1, .int x1), (3, .int x3)] dX6_marksAt_34 (by decide) rfl ?_
          refine g_iinc (pc := 35) C 3 (x3 + 1) [(3, .int (x3 + 1)), (2, .int (x2 ||| 0)), (0, .ref a.1), (1, .int x1)] dX6_marksAt_35 rfl (congrArg (HAdd.hAdd _) (by decide)) (by decide) rfl ?_
          refine g_goto (pc := 38) C 4 dX6_marksAt_38 (by decide) ?_
          refine g_sub [2, 3, 1, 0] (lv' := [(0, .ref a.1), (1, .int x1), (2, .int (x2 ||| 0)), (3, .int (x3 + 1))]) rfl ?_
          exact ih m x1 (x2 ||| 0) (x3 + 1) hf
        · have hf := k_pos c23 hf
          refine g_iconst (pc := 26) C 1 dX6_marksAt_26 (by decide) ?_
          refine g_iload_n (pc := 27) C 3 dX6_marksAt_27 rfl ?_
          refine g_ishl (pc := 28) C dX6_marksAt_28 ?_
          refine g_goto (pc := 29) C 33 dX6_marksAt_29 (by decide) ?_
          refine g_ior (pc := 33) C dX6_marksAt_33 ?_
          refine g_istore_n (pc := 34) C [(2, .int (x2 ||| (1 <<< (x3 &&& 31)))), (0, .ref a.1), (1, .int x1), (3, .int x3)] dX6_marksAt_34 (by decide) rfl ?_
          refine g_iinc (pc := 35) C 3 (x3 + 1) [(3, .int (x3 + 1)), (2, .int (x2 ||| (1 <<< (x3 &&& 31)))), (0, .ref a.1), (1, .int x1)] dX6_marksAt_35 rfl (congrArg (HAdd.hAdd _) (by decide)) (by decide) rfl ?_
          refine g_goto (pc := 38) C 4 dX6_marksAt_38 (by decide) ?_
          refine g_sub [2, 3, 1, 0] (lv' := [(0, .ref a.1), (1, .int x1), (2, .int (x2 ||| (1 <<< (x3 &&& 31)))), (3, .int (x3 + 1))]) rfl ?_
          exact ih m x1 (x2 ||| (1 <<< (x3 &&& 31))) (x3 + 1) hf
  rw [M_marksAt] at hf
  refine g_iconst (pc := 0) C 0 dX6_marksAt_0 (by decide) ?_
  refine g_istore_n (pc := 1) C [(2, .int 0), (0, .ref a.1), (1, .int x1)] dX6_marksAt_1 (by decide) rfl ?_
  refine g_iconst (pc := 2) C 0 dX6_marksAt_2 (by decide) ?_
  refine g_istore_n (pc := 3) C [(3, .int 0), (2, .int 0), (0, .ref a.1), (1, .int x1)] dX6_marksAt_3 (by decide) rfl ?_
  refine g_sub [2, 3, 1, 0] (lv' := [(0, .ref a.1), (1, .int x1), (2, .int 0), (3, .int 0)]) rfl ?_
  exact L4 1000 m x1 0 0 hf
