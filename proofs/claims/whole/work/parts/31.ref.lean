set_option maxHeartbeats 4000000 in
set_option maxRecDepth 100000 in
theorem c_X6_read (l : Launch) (D : va_G) (cI cS : ClassId) (a : aM) (m : MD) (out : Int32 × MD) (hf : M_read m = some out) : kM l D (kTy cI cS) yX6_read ct_X6_read rm_X6_read [.ref a.1] [wM cI cS a m] (kEq (some (.int out.1)) [wM cI cS a out.2]) := by
  refine k_methodE cX6_read 2 (some .int) RX6 rfl [(0, .ref a.1)] rfl (by decide +kernel) (Nat.le_of_ble_eq_true rfl) (fun κ A hla C => ?_)
  refine g_chunks (flM cI cS a m).symm ?_
  have L83 : ∀ (fu : Nat) (m : MD) (x1 : Int32), M_read_L83 fu m x1 = some out → kG κ D A 2 0 0 (kF κ D A (some (.int out.1)) [wM cI cS a out.2]) (csM cI cS a m) [(0, .ref a.1), (1, .int x1)] 83 [] := by
    intro fu; induction fu with
    | zero => intro m x1 hf; rw [M_read_L83] at hf; cases hf
    | succ fu ih =>
      intro m x1 hf; rw [M_read_L83] at hf
      refine g_iload_n (pc := 83) C 1 dX6_read_83 rfl ?_
      refine g_iconst (pc := 84) C 4 dX6_read_84 (by decide) ?_
      refine g_icmp_ge (pc := 85) C 103 dX6_read_85 (by decide) (fun (c85 : 4 ≤ x1) => ?_) (fun (c85 : ¬ 4 ≤ x1) => ?_)
      · have hf := k_pos c85 hf
        refine g_aload_n (pc := 103) C 0 dX6_read_103 rfl ?_
        refine g_aload_n (pc := 104) C 0 dX6_read_104 rfl ?_
        refine gf_RX6_150 (pc := 105) C 0 rfl dX6_read_105 ?_
        obtain ⟨v108, h108, hf⟩ := Option.bind_eq_some_iff.mp hf
        refine g_callV' (pc := 108) hla C (c_X6_acted l D cI cS a m m.2.2.2.2.2.2.2.2.2.1 v108 h108) gg_RX6_72 hd_X6_acted (by decide) rfl rfl rfl rfl (Nat.le_of_ble_eq_true rfl) dX6_read_108 (seM_0 cI cS a m) (seM_0 cI cS a v108.2).symm [.int v108.1] rfl ?_
        have e := Option.some.inj hf; subst e
        exact g_ri (pc := 111) C rfl (flM cI cS a v108.2) dX6_read_111
      · have hf := k_neg c85 hf
        refine g_aload_n (pc := 88) C 0 dX6_read_88 rfl ?_
        refine gf_RX6_7 (pc := 89) C 0 rfl dX6_read_89 ?_
        refine g_iconst (pc := 92) C 5 dX6_read_92 (by decide) ?_
        refine g_iload_n (pc := 93) C 1 dX6_read_93 rfl ?_
        refine g_iadd (pc := 94) C dX6_read_94 ?_
        refine g_iconst (pc := 95) C (-1) dX6_read_95 (by decide) ?_
        obtain ⟨g96, hf⟩ := k_guard hf
        obtain ⟨u96, e96, hf⟩ := Option.bind_eq_some_iff.mp hf
        refine g_iastU (pc := 96) C 1 0 u96 (Option.some.inj e96) (csM cI cS a (u96, m.2.1, m.2.2.1, m.2.2.2.1, m.2.2.2.2.1, m.2.2.2.2.2.1, m.2.2.2.2.2.2.1, m.2.2.2.2.2.2.2.1, m.2.2.2.2.2.2.2.2.1, m.2.2.2.2.2.2.2.2.2.1, m.2.2.2.2.2.2.2.2.2.2.1, m.2.2.2.2.2.2.2.2.2.2.2)) rfl rfl g96 rfl dX6_read_96 ?_
        refine g_iinc (pc := 97) C 1 (x1 + 1) [(1, .int (x1 + 1)), (0, .ref a.1)] dX6_read_97 rfl (congrArg (HAdd.hAdd _) (by decide)) (by decide) rfl ?_
        refine g_goto (pc := 100) C 83 dX6_read_100 (by decide) ?_
        refine g_sub [1, 0] (lv' := [(0, .ref a.1), (1, .int (x1 + 1))]) rfl ?_
        exact ih (u96, m.2.1, m.2.2.1, m.2.2.2.1, m.2.2.2.2.1, m.2.2.2.2.2.1, m.2.2.2.2.2.2.1, m.2.2.2.2.2.2.2.1, m.2.2.2.2.2.2.2.2.1, m.2.2.2.2.2.2.2.2.2.1, m.2.2.2.2.2.2.2.2.2.2.1, m.2.2.2.2.2.2.2.2.2.2.2) (x1 + 1) hf
  have L26 : ∀ (fu : Nat) (m : MD) (x1 : Int32), M_read_L26 fu m x1 = some out → kG κ D A 2 0 0 (kF κ D A (some (.int out.1)) [wM cI cS a out.2]) (csM cI cS a m) [(0, .ref a.1), (1, .int x1)] 26 [] := by
    intro fu; induction fu with
    | zero => intro m x1 hf; rw [M_read_L26] at hf; cases hf
    | succ fu ih =>
      intro m x1 hf; rw [M_read_L26] at hf
      refine g_iload_n (pc := 26) C 1 dX6_read_26 rfl ?_
      refine g_aload_n (pc := 27) C 0 dX6_read_27 rfl ?_
      refine gf_RX6_150 (pc := 28) C 0 rfl dX6_read_28 ?_
      refine g_icmp_ge (pc := 31) C 63 dX6_read_31 (by decide) (fun (c31 : m.2.2.2.2.2.2.2.2.2.1 ≤ x1) => ?_) (fun (c31 : ¬ m.2.2.2.2.2.2.2.2.2.1 ≤ x1) => ?_)
      · have hf := k_pos c31 hf
        refine g_aload_n (pc := 63) C 0 dX6_read_63 rfl ?_
        refine gf_RX6_7 (pc := 64) C 0 rfl dX6_read_64 ?_
        refine g_iconst (pc := 67) C 2 dX6_read_67 (by decide) ?_
        refine g_aload_n (pc := 68) C 0 dX6_read_68 rfl ?_
        refine g_iconst (pc := 69) C 0 dX6_read_69 (by decide) ?_
        obtain ⟨v70, h70, hf⟩ := Option.bind_eq_some_iff.mp hf
        refine g_callV' (pc := 70) hla C (c_X6_own l D cI cS a m 0 v70 h70) gg_RX6_39 hd_X6_own (by decide) rfl rfl rfl rfl (Nat.le_of_ble_eq_true rfl) dX6_read_70 (seM_0 cI cS a m) (seM_0 cI cS a m).symm [.int v70, .int 2, .ref a.2.1] rfl ?_
        obtain ⟨u73, e73, hf⟩ := Option.bind_eq_some_iff.mp hf
        refine g_iastU (pc := 73) C 1 0 u73 (Option.some.inj e73) (csM cI cS a (u73, m.2.1, m.2.2.1, m.2.2.2.1, m.2.2.2.2.1, m.2.2.2.2.2.1, m.2.2.2.2.2.2.1, m.2.2.2.2.2.2.2.1, m.2.2.2.2.2.2.2.2.1, m.2.2.2.2.2.2.2.2.2.1, m.2.2.2.2.2.2.2.2.2.2.1, m.2.2.2.2.2.2.2.2.2.2.2)) rfl rfl (by decide) rfl dX6_read_73 ?_
        refine g_aload_n (pc := 74) C 0 dX6_read_74 rfl ?_
        refine gf_RX6_7 (pc := 75) C 0 rfl dX6_read_75 ?_
        refine g_iconst (pc := 78) C 3 dX6_read_78 (by decide) ?_
        refine g_iconst (pc := 79) C 0 dX6_read_79 (by decide) ?_
        obtain ⟨u80, e80, hf⟩ := Option.bind_eq_some_iff.mp hf
        refine g_iastU (pc := 80) C 1 0 u80 (Option.some.inj e80) (csM cI cS a (u80, m.2.1, m.2.2.1, m.2.2.2.1, m.2.2.2.2.1, m.2.2.2.2.2.1, m.2.2.2.2.2.2.1, m.2.2.2.2.2.2.2.1, m.2.2.2.2.2.2.2.2.1, m.2.2.2.2.2.2.2.2.2.1, m.2.2.2.2.2.2.2.2.2.2.1, m.2.2.2.2.2.2.2.2.2.2.2)) rfl rfl (by decide) rfl dX6_read_80 ?_
        refine g_iconst (pc := 81) C 0 dX6_read_81 (by decide) ?_
        refine g_istore_n (pc := 82) C [(1, .int 0), (0, .ref a.1)] dX6_read_82 (by decide) rfl ?_
        refine g_sub [1, 0] (lv' := [(0, .ref a.1), (1, .int 0)]) rfl ?_
        exact L83 1000 (u80, m.2.1, m.2.2.1, m.2.2.2.1, m.2.2.2.2.1, m.2.2.2.2.2.1, m.2.2.2.2.2.2.1, m.2.2.2.2.2.2.2.1, m.2.2.2.2.2.2.2.2.1, m.2.2.2.2.2.2.2.2.2.1, m.2.2.2.2.2.2.2.2.2.2.1, m.2.2.2.2.2.2.2.2.2.2.2) 0 hf
      · have hf := k_neg c31 hf
        refine g_aload_n (pc := 34) C 0 dX6_read_34 rfl ?_
        refine g_iload_n (pc := 35) C 1 dX6_read_35 rfl ?_
        refine g_aload_n (pc := 36) C 0 dX6_read_36 rfl ?_
        refine gf_RX6_25 (pc := 37) C 0 rfl dX6_read_37 ?_
        refine g_iconst (pc := 40) C 2 dX6_read_40 (by decide) ?_
        refine g_iload_n (pc := 41) C 1 dX6_read_41 rfl ?_
        refine g_imul (pc := 42) C dX6_read_42 ?_
        obtain ⟨g43, hf⟩ := k_guard hf
        refine g_iald (pc := 43) C 6 0 rfl rfl g43 dX6_read_43 ?_
        refine g_aload_n (pc := 44) C 0 dX6_read_44 rfl ?_
        refine gf_RX6_25 (pc := 45) C 0 rfl dX6_read_45 ?_
        refine g_iconst (pc := 48) C 2 dX6_read_48 (by decide) ?_
        refine g_iload_n (pc := 49) C 1 dX6_read_49 rfl ?_
        refine g_imul (pc := 50) C dX6_read_50 ?_
        refine g_iconst (pc := 51) C 1 dX6_read_51 (by decide) ?_
        refine g_iadd (pc := 52) C dX6_read_52 ?_
        obtain ⟨g53, hf⟩ := k_guard hf
        refine g_iald (pc := 53) C 6 0 rfl rfl g53 dX6_read_53 ?_
        obtain ⟨v54, h54, hf⟩ := Option.bind_eq_some_iff.mp hf
        refine g_callV' (pc := 54) hla C (c_X6_lays l D cI cS a m x1 (m.2.2.2.2.2.2.2.2.2.2.1 (ix (2 * x1))) (m.2.2.2.2.2.2.2.2.2.2.1 (ix ((2 * x1) + 1))) v54 h54) gg_RX6_90 hd_X6_lays (by decide) rfl rfl rfl rfl (Nat.le_of_ble_eq_true rfl) dX6_read_54 (seM_0 cI cS a m) (seM_0 cI cS a v54).symm [] rfl ?_
        refine g_iinc (pc := 57) C 1 (x1 + 1) [(1, .int (x1 + 1)), (0, .ref a.1)] dX6_read_57 rfl (congrArg (HAdd.hAdd _) (by decide)) (by decide) rfl ?_
        refine g_goto (pc := 60) C 26 dX6_read_60 (by decide) ?_
        refine g_sub [1, 0] (lv' := [(0, .ref a.1), (1, .int (x1 + 1))]) rfl ?_
        exact ih v54 (x1 + 1) hf
  rw [M_read] at hf
  refine g_aload_n (pc := 0) C 0 dX6_read_0 rfl ?_
  obtain ⟨v1, h1, hf⟩ := Option.bind_eq_some_iff.mp hf
  refine g_callV' (pc := 1) hla C (c_X6_begins l D cI cS a m v1 h1) gg_RX6_55 hd_X6_begins (by decide) rfl rfl rfl rfl (Nat.le_of_ble_eq_true rfl) dX6_read_1 (seM_0 cI cS a m) (seM_0 cI cS a v1).symm [] rfl ?_
  refine g_aload_n (pc := 4) C 0 dX6_read_4 rfl ?_
  obtain ⟨v5, h5, hf⟩ := Option.bind_eq_some_iff.mp hf
  refine g_callV' (pc := 5) hla C (c_X6_isTree l D cI cS a v1 v5 h5) gg_RX6_156 hd_X6_isTree (by decide) rfl rfl rfl rfl (Nat.le_of_ble_eq_true rfl) dX6_read_5 (seM_0 cI cS a v1) (seM_0 cI cS a v5.2).symm [.int v5.1] rfl ?_
  refine g_if_ne (pc := 8) C 14 dX6_read_8 (by decide) (fun (c8 : ¬ v5.1 = 0) => ?_) (fun (c8 : v5.1 = 0) => ?_)
  · have hf := k_neg c8 hf
    refine g_aload_n (pc := 14) C 0 dX6_read_14 rfl ?_
    refine gf_RX6_7 (pc := 15) C 0 rfl dX6_read_15 ?_
    refine g_iconst (pc := 18) C 0 dX6_read_18 (by decide) ?_
    refine g_aload_n (pc := 19) C 0 dX6_read_19 rfl ?_
    refine gf_RX6_150 (pc := 20) C 0 rfl dX6_read_20 ?_
    obtain ⟨u23, e23, hf⟩ := Option.bind_eq_some_iff.mp hf
    refine g_iastU (pc := 23) C 1 0 u23 (Option.some.inj e23) (csM cI cS a (u23, v5.2.2.1, v5.2.2.2.1, v5.2.2.2.2.1, v5.2.2.2.2.2.1, v5.2.2.2.2.2.2.1, v5.2.2.2.2.2.2.2.1, v5.2.2.2.2.2.2.2.2.1, v5.2.2.2.2.2.2.2.2.2.1, v5.2.2.2.2.2.2.2.2.2.2.1, v5.2.2.2.2.2.2.2.2.2.2.2.1, v5.2.2.2.2.2.2.2.2.2.2.2.2)) rfl rfl (by decide) rfl dX6_read_23 ?_
    refine g_iconst (pc := 24) C 0 dX6_read_24 (by decide) ?_
    refine g_istore_n (pc := 25) C [(1, .int 0), (0, .ref a.1)] dX6_read_25 (by decide) rfl ?_
    refine g_sub [1, 0] (lv' := [(0, .ref a.1), (1, .int 0)]) rfl ?_
    exact L26 1000 (u23, v5.2.2.1, v5.2.2.2.1, v5.2.2.2.2.1, v5.2.2.2.2.2.1, v5.2.2.2.2.2.2.1, v5.2.2.2.2.2.2.2.1, v5.2.2.2.2.2.2.2.2.1, v5.2.2.2.2.2.2.2.2.2.1, v5.2.2.2.2.2.2.2.2.2.2.1, v5.2.2.2.2.2.2.2.2.2.2.2.1, v5.2.2.2.2.2.2.2.2.2.2.2.2) 0 hf
  · have hf := k_pos c8 hf
    refine g_bipush (pc := 11) C (-2) dX6_read_11 (by decide) ?_
    have e := Option.some.inj hf; subst e
    exact g_ri (pc := 13) C rfl (flM cI cS a v5.2) dX6_read_13
