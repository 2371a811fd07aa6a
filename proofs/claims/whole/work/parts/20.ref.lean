set_option maxHeartbeats 4000000 in
set_option maxRecDepth 100000 in
theorem c_X6_in (l : Launch) (D : va_G) (cI cS : ClassId) (x0 : Int32) (x1 : Int32) (x2 : Int32) (out : Int32) (hf : M_in x0 x1 x2 = some out) : kM l D (kTy cI cS) yX6_in ct_X6_in rm_X6_in [.int x0, .int x1, .int x2] [] (kEq (some (.int out)) []) := by
  refine k_methodE cX6_in 3 (some .boolean) RX6 rfl [(0, .int x0), (1, .int x1), (2, .int x2)] rfl (by decide +kernel) (Nat.le_of_ble_eq_true rfl) (fun κ A hla C => ?_)
  refine g_chunks (flN cI cS ).symm ?_
  rw [M_in] at hf
  refine g_iload_n (pc := 0) C 0 dX6_in_0 rfl ?_
  refine g_iload_n (pc := 1) C 1 dX6_in_1 rfl ?_
  refine g_icmp_lt (pc := 2) C 14 dX6_in_2 (by decide) (fun (c2 : x0 < x1) => ?_) (fun (c2 : ¬ x0 < x1) => ?_)
  · have hf := k_pos c2 hf
    refine g_iconst (pc := 14) C 0 dX6_in_14 (by decide) ?_
    have e := Option.some.inj hf; subst e
    exact g_rz (pc := 15) C rfl (Or.inl rfl) (flN cI cS ) dX6_in_15
  · have hf := k_neg c2 hf
    refine g_iload_n (pc := 5) C 0 dX6_in_5 rfl ?_
    refine g_iload_n (pc := 6) C 2 dX6_in_6 rfl ?_
    refine g_icmp_gt (pc := 7) C 14 dX6_in_7 (by decide) (fun (c7 : x2 < x0) => ?_) (fun (c7 : ¬ x2 < x0) => ?_)
    · have hf := k_pos c7 hf
      refine g_iconst (pc := 14) C 0 dX6_in_14 (by decide) ?_
      have e := Option.some.inj hf; subst e
      exact g_rz (pc := 15) C rfl (Or.inl rfl) (flN cI cS ) dX6_in_15
    · have hf := k_neg c7 hf
      refine g_iconst (pc := 10) C 1 dX6_in_10 (by decide) ?_
      refine g_goto (pc := 11) C 15 dX6_in_11 (by decide) ?_
      have e := Option.some.inj hf; subst e
      exact g_rz (pc := 15) C rfl (Or.inr rfl) (flN cI cS ) dX6_in_15
set_option maxHeartbeats 4000000 in
set_option maxRecDepth 100000 in
theorem c_X6_begins (l : Launch) (D : va_G) (cI cS : ClassId) (a : aM) (m : MD) (out : MD) (hf : M_begins m = some out) : kM l D (kTy cI cS) yX6_begins ct_X6_begins rm_X6_begins [.ref a.1] [wM cI cS a m] (kEq (none) [wM cI cS a out]) := by
  refine k_methodE cX6_begins 2 none RX6 rfl [(0, .ref a.1)] rfl (by decide +kernel) (Nat.le_of_ble_eq_true rfl) (fun κ A hla C => ?_)
  refine g_chunks (flM cI cS a m).symm ?_
  have L2 : ∀ (fu : Nat) (m : MD) (x1 : Int32), M_begins_L2 fu m x1 = some out → kG κ D A 2 0 0 (kF κ D A (none) [wM cI cS a out]) (csM cI cS a m) [(0, .ref a.1), (1, .int x1)] 2 [] := by
    intro fu; induction fu with
    | zero => intro m x1 hf; rw [M_begins_L2] at hf; cases hf
    | succ fu ih =>
      intro m x1 hf; rw [M_begins_L2] at hf
      refine g_iload_n (pc := 2) C 1 dX6_begins_2 rfl ?_
      refine g_sipush (pc := 3) C 218 dX6_begins_3 (by decide) ?_
      refine g_icmp_ge (pc := 6) C 27 dX6_begins_6 (by decide) (fun (c6 : 218 ≤ x1) => ?_) (fun (c6 : ¬ 218 ≤ x1) => ?_)
      · have hf := k_pos c6 hf
        have e := Option.some.inj hf; subst e
        exact g_rv (pc := 27) C rfl (flM cI cS a m) dX6_begins_27
      · have hf := k_neg c6 hf
        refine g_aload_n (pc := 9) C 0 dX6_begins_9 rfl ?_
        refine gf_RX6_13 (pc := 10) C 0 rfl dX6_begins_10 ?_
        refine g_iload_n (pc := 13) C 1 dX6_begins_13 rfl ?_
        refine g_aload_n (pc := 14) C 0 dX6_begins_14 rfl ?_
        refine gf_RX6_7 (pc := 15) C 0 rfl dX6_begins_15 ?_
        refine g_iload_n (pc := 18) C 1 dX6_begins_18 rfl ?_
        obtain ⟨g19, hf⟩ := k_guard hf
        refine g_iald (pc := 19) C 1 0 rfl rfl g19 dX6_begins_19 ?_
        obtain ⟨g20, hf⟩ := k_guard hf
        obtain ⟨u20, e20, hf⟩ := Option.bind_eq_some_iff.mp hf
        refine g_iastU (pc := 20) C 2 0 u20 (Option.some.inj e20) (csM cI cS a (m.1, u20, m.2.2.1, m.2.2.2.1, m.2.2.2.2.1, m.2.2.2.2.2.1, m.2.2.2.2.2.2.1, m.2.2.2.2.2.2.2.1, m.2.2.2.2.2.2.2.2.1, m.2.2.2.2.2.2.2.2.2.1, m.2.2.2.2.2.2.2.2.2.2.1, m.2.2.2.2.2.2.2.2.2.2.2)) rfl rfl g20 rfl dX6_begins_20 ?_
        refine g_iinc (pc := 21) C 1 (x1 + 1) [(1, .int (x1 + 1)), (0, .ref a.1)] dX6_begins_21 rfl (congrArg (HAdd.hAdd _) (by decide)) (by decide) rfl ?_
        refine g_goto (pc := 24) C 2 dX6_begins_24 (by decide) ?_
        refine g_sub [1, 0] (lv' := [(0, .ref a.1), (1, .int (x1 + 1))]) rfl ?_
        exact ih (m.1, u20, m.2.2.1, m.2.2.2.1, m.2.2.2.2.1, m.2.2.2.2.2.1, m.2.2.2.2.2.2.1, m.2.2.2.2.2.2.2.1, m.2.2.2.2.2.2.2.2.1, m.2.2.2.2.2.2.2.2.2.1, m.2.2.2.2.2.2.2.2.2.2.1, m.2.2.2.2.2.2.2.2.2.2.2) (x1 + 1) hf
  rw [M_begins] at hf
  refine g_iconst (pc := 0) C 0 dX6_begins_0 (by decide) ?_
  refine g_istore_n (pc := 1) C [(1, .int 0), (0, .ref a.1)] dX6_begins_1 (by decide) rfl ?_
  refine g_sub [1, 0] (lv' := [(0, .ref a.1), (1, .int 0)]) rfl ?_
  exact L2 1000 m 0 hf
set_option maxHeartbeats 4000000 in
set_option maxRecDepth 100000 in
theorem c_X6_acted (l : Launch) (D : va_G) (cI cS : ClassId) (a : aM) (m : MD) (x1 : Int32) (out : Int32 × MD) (hf : M_acted m x1 = some out) : kM l D (kTy cI cS) yX6_acted ct_X6_acted rm_X6_acted [.ref a.1, .int x1] [wM cI cS a m] (kEq (some (.int out.1)) [wM cI cS a out.2]) := by
  refine k_methodE cX6_acted 3 (some .int) RX6 rfl [(0, .ref a.1), (1, .int x1)] rfl (by decide +kernel) (Nat.le_of_ble_eq_true rfl) (fun κ A hla C => ?_)
  refine g_chunks (flM cI cS a m).symm ?_
  have L84 : ∀ (fu : Nat) (m : MD) (x1 : Int32) (x2 : Int32), M_acted_L84 fu m x1 x2 = some out → kG κ D A 3 0 0 (kF κ D A (some (.int out.1)) [wM cI cS a out.2]) (csM cI cS a m) [(0, .ref a.1), (1, .int x1), (2, .int x2)] 84 [] := by
    intro fu; induction fu with
    | zero => intro m x1 x2 hf; rw [M_acted_L84] at hf; cases hf
    | succ fu ih =>
      intro m x1 x2 hf; rw [M_acted_L84] at hf
      refine g_iload_n (pc := 84) C 2 dX6_acted_84 rfl ?_
      refine g_sipush (pc := 85) C 218 dX6_acted_85 (by decide) ?_
      refine g_icmp_ge (pc := 88) C 118 dX6_acted_88 (by decide) (fun (c88 : 218 ≤ x2) => ?_) (fun (c88 : ¬ 218 ≤ x2) => ?_)
      · have hf := k_pos c88 hf
        refine g_aload_n (pc := 118) C 0 dX6_acted_118 rfl ?_
        refine g_dup (pc := 119) C dX6_acted_119 rfl ?_
        refine gf_RX6_31 (pc := 120) C 0 rfl dX6_acted_120 ?_
        refine g_iconst (pc := 123) C 1 dX6_acted_123 (by decide) ?_
        refine g_iadd (pc := 124) C dX6_acted_124 ?_
        refine gp_RX6_31 (pc := 125) C 0 (cs' := csM cI cS a (m.1, m.2.1, m.2.2.1, (m.2.2.2.1 + 1), m.2.2.2.2.1, m.2.2.2.2.2.1, m.2.2.2.2.2.2.1, m.2.2.2.2.2.2.2.1, m.2.2.2.2.2.2.2.2.1, m.2.2.2.2.2.2.2.2.2.1, m.2.2.2.2.2.2.2.2.2.2.1, m.2.2.2.2.2.2.2.2.2.2.2)) rfl rfl dX6_acted_125 ?_
        refine g_iload_n (pc := 128) C 1 dX6_acted_128 rfl ?_
        have e := Option.some.inj hf; subst e
        exact g_ri (pc := 129) C rfl (flM cI cS a (m.1, m.2.1, m.2.2.1, (m.2.2.2.1 + 1), m.2.2.2.2.1, m.2.2.2.2.2.1, m.2.2.2.2.2.2.1, m.2.2.2.2.2.2.2.1, m.2.2.2.2.2.2.2.2.1, m.2.2.2.2.2.2.2.2.2.1, m.2.2.2.2.2.2.2.2.2.2.1, m.2.2.2.2.2.2.2.2.2.2.2)) dX6_acted_129
      · have hf := k_neg c88 hf
        refine g_aload_n (pc := 91) C 0 dX6_acted_91 rfl ?_
        refine gf_RX6_16 (pc := 92) C 0 rfl dX6_acted_92 ?_
        refine g_sipush (pc := 95) C 218 dX6_acted_95 (by decide) ?_
        refine g_aload_n (pc := 98) C 0 dX6_acted_98 rfl ?_
        refine gf_RX6_31 (pc := 99) C 0 rfl dX6_acted_99 ?_
        refine g_imul (pc := 102) C dX6_acted_102 ?_
        refine g_iload_n (pc := 103) C 2 dX6_acted_103 rfl ?_
        refine g_iadd (pc := 104) C dX6_acted_104 ?_
        refine g_aload_n (pc := 105) C 0 dX6_acted_105 rfl ?_
        refine gf_RX6_13 (pc := 106) C 0 rfl dX6_acted_106 ?_
        refine g_iload_n (pc := 109) C 2 dX6_acted_109 rfl ?_
        obtain ⟨g110, hf⟩ := k_guard hf
        refine g_iald (pc := 110) C 2 0 rfl rfl g110 dX6_acted_110 ?_
        obtain ⟨g111, hf⟩ := k_guard hf
        obtain ⟨u111, e111, hf⟩ := Option.bind_eq_some_iff.mp hf
        refine g_iastU (pc := 111) C 3 0 u111 (Option.some.inj e111) (csM cI cS a (m.1, m.2.1, u111, m.2.2.2.1, m.2.2.2.2.1, m.2.2.2.2.2.1, m.2.2.2.2.2.2.1, m.2.2.2.2.2.2.2.1, m.2.2.2.2.2.2.2.2.1, m.2.2.2.2.2.2.2.2.2.1, m.2.2.2.2.2.2.2.2.2.2.1, m.2.2.2.2.2.2.2.2.2.2.2)) rfl rfl g111 rfl dX6_acted_111 ?_
        refine g_iinc (pc := 112) C 2 (x2 + 1) [(2, .int (x2 + 1)), (0, .ref a.1), (1, .int x1)] dX6_acted_112 rfl (congrArg (HAdd.hAdd _) (by decide)) (by decide) rfl ?_
        refine g_goto (pc := 115) C 84 dX6_acted_115 (by decide) ?_
        refine g_sub [1, 2, 0] (lv' := [(0, .ref a.1), (1, .int x1), (2, .int (x2 + 1))]) rfl ?_
        exact ih (m.1, m.2.1, u111, m.2.2.2.1, m.2.2.2.2.1, m.2.2.2.2.2.1, m.2.2.2.2.2.2.1, m.2.2.2.2.2.2.2.1, m.2.2.2.2.2.2.2.2.1, m.2.2.2.2.2.2.2.2.2.1, m.2.2.2.2.2.2.2.2.2.2.1, m.2.2.2.2.2.2.2.2.2.2.2) x1 (x2 + 1) hf
  have L43 : ∀ (fu : Nat) (m : MD) (x1 : Int32) (x2 : Int32), M_acted_L43 fu m x1 x2 = some out → kG κ D A 3 0 0 (kF κ D A (some (.int out.1)) [wM cI cS a out.2]) (csM cI cS a m) [(0, .ref a.1), (1, .int x1), (2, .int x2)] 43 [] := by
    intro fu; induction fu with
    | zero => intro m x1 x2 hf; rw [M_acted_L43] at hf; cases hf
    | succ fu ih =>
      intro m x1 x2 hf; rw [M_acted_L43] at hf
      refine g_iload_n (pc := 43) C 2 dX6_acted_43 rfl ?_
      refine g_sipush (pc := 44) C 654 dX6_acted_44 (by decide) ?_
      refine g_icmp_ge (pc := 47) C 72 dX6_acted_47 (by decide) (fun (c47 : 654 ≤ x2) => ?_) (fun (c47 : ¬ 654 ≤ x2) => ?_)
      · have hf := k_pos c47 hf
        refine g_aload_n (pc := 72) C 0 dX6_acted_72 rfl ?_
        refine g_dup (pc := 73) C dX6_acted_73 rfl ?_
        refine gf_RX6_31 (pc := 74) C 0 rfl dX6_acted_74 ?_
        refine g_iconst (pc := 77) C 1 dX6_acted_77 (by decide) ?_
        refine g_isub (pc := 78) C dX6_acted_78 ?_
        refine gp_RX6_31 (pc := 79) C 0 (cs' := csM cI cS a (m.1, m.2.1, m.2.2.1, (m.2.2.2.1 - 1), m.2.2.2.2.1, m.2.2.2.2.2.1, m.2.2.2.2.2.2.1, m.2.2.2.2.2.2.2.1, m.2.2.2.2.2.2.2.2.1, m.2.2.2.2.2.2.2.2.2.1, m.2.2.2.2.2.2.2.2.2.2.1, m.2.2.2.2.2.2.2.2.2.2.2)) rfl rfl dX6_acted_79 ?_
        refine g_iconst (pc := 82) C 0 dX6_acted_82 (by decide) ?_
        refine g_istore_n (pc := 83) C [(2, .int 0), (0, .ref a.1), (1, .int x1)] dX6_acted_83 (by decide) rfl ?_
        refine g_sub [1, 2, 0] (lv' := [(0, .ref a.1), (1, .int x1), (2, .int 0)]) rfl ?_
        exact L84 1000 (m.1, m.2.1, m.2.2.1, (m.2.2.2.1 - 1), m.2.2.2.2.1, m.2.2.2.2.2.1, m.2.2.2.2.2.2.1, m.2.2.2.2.2.2.2.1, m.2.2.2.2.2.2.2.2.1, m.2.2.2.2.2.2.2.2.2.1, m.2.2.2.2.2.2.2.2.2.2.1, m.2.2.2.2.2.2.2.2.2.2.2) x1 0 hf
      · have hf := k_neg c47 hf
        refine g_aload_n (pc := 50) C 0 dX6_acted_50 rfl ?_
        refine gf_RX6_16 (pc := 51) C 0 rfl dX6_acted_51 ?_
        refine g_iload_n (pc := 54) C 2 dX6_acted_54 rfl ?_
        refine g_aload_n (pc := 55) C 0 dX6_acted_55 rfl ?_
        refine gf_RX6_16 (pc := 56) C 0 rfl dX6_acted_56 ?_
        refine g_iload_n (pc := 59) C 2 dX6_acted_59 rfl ?_
        refine g_sipush (pc := 60) C 218 dX6_acted_60 (by decide) ?_
        refine g_iadd (pc := 63) C dX6_acted_63 ?_
        obtain ⟨g64, hf⟩ := k_guard hf
        refine g_iald (pc := 64) C 3 0 rfl rfl g64 dX6_acted_64 ?_
        obtain ⟨g65, hf⟩ := k_guard hf
        obtain ⟨u65, e65, hf⟩ := Option.bind_eq_some_iff.mp hf
        refine g_iastU (pc := 65) C 3 0 u65 (Option.some.inj e65) (csM cI cS a (m.1, m.2.1, u65, m.2.2.2.1, m.2.2.2.2.1, m.2.2.2.2.2.1, m.2.2.2.2.2.2.1, m.2.2.2.2.2.2.2.1, m.2.2.2.2.2.2.2.2.1, m.2.2.2.2.2.2.2.2.2.1, m.2.2.2.2.2.2.2.2.2.2.1, m.2.2.2.2.2.2.2.2.2.2.2)) rfl rfl g65 rfl dX6_acted_65 ?_
        refine g_iinc (pc := 66) C 2 (x2 + 1) [(2, .int (x2 + 1)), (0, .ref a.1), (1, .int x1)] dX6_acted_66 rfl (congrArg (HAdd.hAdd _) (by decide)) (by decide) rfl ?_
        refine g_goto (pc := 69) C 43 dX6_acted_69 (by decide) ?_
        refine g_sub [1, 2, 0] (lv' := [(0, .ref a.1), (1, .int x1), (2, .int (x2 + 1))]) rfl ?_
        exact ih (m.1, m.2.1, u65, m.2.2.2.1, m.2.2.2.2.1, m.2.2.2.2.2.1, m.2.2.2.2.2.2.1, m.2.2.2.2.2.2.2.1, m.2.2.2.2.2.2.2.2.1, m.2.2.2.2.2.2.2.2.2.1, m.2.2.2.2.2.2.2.2.2.2.1, m.2.2.2.2.2.2.2.2.2.2.2) x1 (x2 + 1) hf
  have L6 : ∀ (fu : Nat) (m : MD) (x1 : Int32) (x2 : Int32), M_acted_L6 fu m x1 x2 = some out → kG κ D A 3 0 0 (kF κ D A (some (.int out.1)) [wM cI cS a out.2]) (csM cI cS a m) [(0, .ref a.1), (1, .int x1), (2, .int x2)] 6 [] := by
    intro fu; induction fu with
    | zero => intro m x1 x2 hf; rw [M_acted_L6] at hf; cases hf
    | succ fu ih =>
      intro m x1 x2 hf; rw [M_acted_L6] at hf
      refine g_iload_n (pc := 6) C 2 dX6_acted_6 rfl ?_
      refine g_sipush (pc := 7) C 218 dX6_acted_7 (by decide) ?_
      refine g_icmp_ge (pc := 10) C 31 dX6_acted_10 (by decide) (fun (c10 : 218 ≤ x2) => ?_) (fun (c10 : ¬ 218 ≤ x2) => ?_)
      · have hf := k_pos c10 hf
        refine g_iload_n (pc := 31) C 1 dX6_acted_31 rfl ?_
        have e := Option.some.inj hf; subst e
        exact g_ri (pc := 32) C rfl (flM cI cS a m) dX6_acted_32
      · have hf := k_neg c10 hf
        refine g_aload_n (pc := 13) C 0 dX6_acted_13 rfl ?_
        refine gf_RX6_7 (pc := 14) C 0 rfl dX6_acted_14 ?_
        refine g_iload_n (pc := 17) C 2 dX6_acted_17 rfl ?_
        refine g_aload_n (pc := 18) C 0 dX6_acted_18 rfl ?_
        refine gf_RX6_13 (pc := 19) C 0 rfl dX6_acted_19 ?_
        refine g_iload_n (pc := 22) C 2 dX6_acted_22 rfl ?_
        obtain ⟨g23, hf⟩ := k_guard hf
        refine g_iald (pc := 23) C 2 0 rfl rfl g23 dX6_acted_23 ?_
        obtain ⟨g24, hf⟩ := k_guard hf
        obtain ⟨u24, e24, hf⟩ := Option.bind_eq_some_iff.mp hf
        refine g_iastU (pc := 24) C 1 0 u24 (Option.some.inj e24) (csM cI cS a (u24, m.2.1, m.2.2.1, m.2.2.2.1, m.2.2.2.2.1, m.2.2.2.2.2.1, m.2.2.2.2.2.2.1, m.2.2.2.2.2.2.2.1, m.2.2.2.2.2.2.2.2.1, m.2.2.2.2.2.2.2.2.2.1, m.2.2.2.2.2.2.2.2.2.2.1, m.2.2.2.2.2.2.2.2.2.2.2)) rfl rfl g24 rfl dX6_acted_24 ?_
        refine g_iinc (pc := 25) C 2 (x2 + 1) [(2, .int (x2 + 1)), (0, .ref a.1), (1, .int x1)] dX6_acted_25 rfl (congrArg (HAdd.hAdd _) (by decide)) (by decide) rfl ?_
        refine g_goto (pc := 28) C 6 dX6_acted_28 (by decide) ?_
        refine g_sub [1, 2, 0] (lv' := [(0, .ref a.1), (1, .int x1), (2, .int (x2 + 1))]) rfl ?_
        exact ih (u24, m.2.1, m.2.2.1, m.2.2.2.1, m.2.2.2.2.1, m.2.2.2.2.2.1, m.2.2.2.2.2.2.1, m.2.2.2.2.2.2.2.1, m.2.2.2.2.2.2.2.2.1, m.2.2.2.2.2.2.2.2.2.1, m.2.2.2.2.2.2.2.2.2.2.1, m.2.2.2.2.2.2.2.2.2.2.2) x1 (x2 + 1) hf
  rw [M_acted] at hf
  refine g_iload_n (pc := 0) C 1 dX6_acted_0 rfl ?_
  refine g_if_ge (pc := 1) C 33 dX6_acted_1 (by decide) (fun (c1 : 0 ≤ x1) => ?_) (fun (c1 : ¬ 0 ≤ x1) => ?_)
  · have hf := k_pos c1 hf
    refine g_aload_n (pc := 33) C 0 dX6_acted_33 rfl ?_
    refine gf_RX6_31 (pc := 34) C 0 rfl dX6_acted_34 ?_
    refine g_iconst (pc := 37) C 4 dX6_acted_37 (by decide) ?_
    refine g_icmp_ne (pc := 38) C 82 dX6_acted_38 (by decide) (fun (c38 : ¬ m.2.2.2.1 = 4) => ?_) (fun (c38 : m.2.2.2.1 = 4) => ?_)
    · have hf := k_neg c38 hf
      refine g_iconst (pc := 82) C 0 dX6_acted_82 (by decide) ?_
      refine g_istore_n (pc := 83) C [(2, .int 0), (0, .ref a.1), (1, .int x1)] dX6_acted_83 (by decide) rfl ?_
      refine g_sub [1, 2, 0] (lv' := [(0, .ref a.1), (1, .int x1), (2, .int 0)]) rfl ?_
      exact L84 1000 m x1 0 hf
    · have hf := k_pos c38 hf
      refine g_iconst (pc := 41) C 0 dX6_acted_41 (by decide) ?_
      refine g_istore_n (pc := 42) C [(2, .int 0), (0, .ref a.1), (1, .int x1)] dX6_acted_42 (by decide) rfl ?_
      refine g_sub [1, 2, 0] (lv' := [(0, .ref a.1), (1, .int x1), (2, .int 0)]) rfl ?_
      exact L43 1000 m x1 0 hf
  · have hf := k_neg c1 hf
    refine g_iconst (pc := 4) C 0 dX6_acted_4 (by decide) ?_
    refine g_istore_n (pc := 5) C [(2, .int 0), (0, .ref a.1), (1, .int x1)] dX6_acted_5 (by decide) rfl ?_
    refine g_sub [1, 2, 0] (lv' := [(0, .ref a.1), (1, .int x1), (2, .int 0)]) rfl ?_
    exact L6 1000 m x1 0 hf
set_option maxHeartbeats 4000000 in
set_option maxRecDepth 100000 in
theorem c_X6_sign (l : Launch) (D : va_G) (cI cS : ClassId) (a : aM) (m : MD) (x1 : Int32) (out : Int32) (hf : M_sign m x1 = some out) : kM l D (kTy cI cS) yX6_sign ct_X6_sign rm_X6_sign [.ref a.1, .int x1] [wM cI cS a m] (kEq (some (.int out)) [wM cI cS a m]) := by
  refine k_methodE cX6_sign 2 (some .int) RX6 rfl [(0, .ref a.1), (1, .int x1)] rfl (by decide +kernel) (Nat.le_of_ble_eq_true rfl) (fun κ A hla C => ?_)
  refine g_chunks (flM cI cS a m).symm ?_
  rw [M_sign] at hf
  refine g_aload_n (pc := 0) C 0 dX6_sign_0 rfl ?_
  refine gf_RX6_7 (pc := 1) C 0 rfl dX6_sign_1 ?_
  refine g_bipush (pc := 4) C 18 dX6_sign_4 (by decide) ?_
  refine g_iconst (pc := 6) C 3 dX6_sign_6 (by decide) ?_
  refine g_iload_n (pc := 7) C 1 dX6_sign_7 rfl ?_
  refine g_imul (pc := 8) C dX6_sign_8 ?_
  refine g_iadd (pc := 9) C dX6_sign_9 ?_
  obtain ⟨g10, hf⟩ := k_guard hf
  refine g_iald (pc := 10) C 1 0 rfl rfl g10 dX6_sign_10 ?_
  have e := Option.some.inj hf; subst e
  exact g_ri (pc := 11) C rfl (flM cI cS a m) dX6_sign_11
set_option maxHeartbeats 4000000 in
set_option maxRecDepth 100000 in
theorem c_X6_deep (l : Launch) (D : va_G) (cI cS : ClassId) (a : aM) (m : MD) (x1 : Int32) (out : Int32) (hf : M_deep m x1 = some out) : kM l D (kTy cI cS) yX6_deep ct_X6_deep rm_X6_deep [.ref a.1, .int x1] [wM cI cS a m] (kEq (some (.int out)) [wM cI cS a m]) := by
  refine k_methodE cX6_deep 2 (some .int) RX6 rfl [(0, .ref a.1), (1, .int x1)] rfl (by decide +kernel) (Nat.le_of_ble_eq_true rfl) (fun κ A hla C => ?_)
  refine g_chunks (flM cI cS a m).symm ?_
  rw [M_deep] at hf
  refine g_aload_n (pc := 0) C 0 dX6_deep_0 rfl ?_
  refine gf_RX6_7 (pc := 1) C 0 rfl dX6_deep_1 ?_
  refine g_bipush (pc := 4) C 18 dX6_deep_4 (by decide) ?_
  refine g_iconst (pc := 6) C 3 dX6_deep_6 (by decide) ?_
  refine g_iload_n (pc := 7) C 1 dX6_deep_7 rfl ?_
  refine g_imul (pc := 8) C dX6_deep_8 ?_
  refine g_iadd (pc := 9) C dX6_deep_9 ?_
  refine g_iconst (pc := 10) C 1 dX6_deep_10 (by decide) ?_
  refine g_iadd (pc := 11) C dX6_deep_11 ?_
  obtain ⟨g12, hf⟩ := k_guard hf
  refine g_iald (pc := 12) C 1 0 rfl rfl g12 dX6_deep_12 ?_
  have e := Option.some.inj hf; subst e
  exact g_ri (pc := 13) C rfl (flM cI cS a m) dX6_deep_13
set_option maxHeartbeats 4000000 in
set_option maxRecDepth 100000 in
theorem c_X6_own (l : Launch) (D : va_G) (cI cS : ClassId) (a : aM) (m : MD) (x1 : Int32) (out : Int32) (hf : M_own m x1 = some out) : kM l D (kTy cI cS) yX6_own ct_X6_own rm_X6_own [.ref a.1, .int x1] [wM cI cS a m] (kEq (some (.int out)) [wM cI cS a m]) := by
  refine k_methodE cX6_own 2 (some .int) RX6 rfl [(0, .ref a.1), (1, .int x1)] rfl (by decide +kernel) (Nat.le_of_ble_eq_true rfl) (fun κ A hla C => ?_)
  refine g_chunks (flM cI cS a m).symm ?_
  rw [M_own] at hf
  refine g_aload_n (pc := 0) C 0 dX6_own_0 rfl ?_
  refine gf_RX6_7 (pc := 1) C 0 rfl dX6_own_1 ?_
  refine g_bipush (pc := 4) C 18 dX6_own_4 (by decide) ?_
  refine g_iconst (pc := 6) C 3 dX6_own_6 (by decide) ?_
  refine g_iload_n (pc := 7) C 1 dX6_own_7 rfl ?_
  refine g_imul (pc := 8) C dX6_own_8 ?_
  refine g_iadd (pc := 9) C dX6_own_9 ?_
  refine g_iconst (pc := 10) C 2 dX6_own_10 (by decide) ?_
  refine g_iadd (pc := 11) C dX6_own_11 ?_
  obtain ⟨g12, hf⟩ := k_guard hf
  refine g_iald (pc := 12) C 1 0 rfl rfl g12 dX6_own_12 ?_
  have e := Option.some.inj hf; subst e
  exact g_ri (pc := 13) C rfl (flM cI cS a m) dX6_own_13
set_option maxHeartbeats 4000000 in
set_option maxRecDepth 100000 in
theorem c_X6_isNode (l : Launch) (D : va_G) (cI cS : ClassId) (a : aM) (m : MD) (x1 : Int32) (out : Int32) (hf : M_isNode m x1 = some out) : kM l D (kTy cI cS) yX6_isNode ct_X6_isNode rm_X6_isNode [.ref a.1, .int x1] [wM cI cS a m] (kEq (some (.int out)) [wM cI cS a m]) := by
  refine k_methodE cX6_isNode 2 (some .boolean) RX6 rfl [(0, .ref a.1), (1, .int x1)] rfl (by decide +kernel) (Nat.le_of_ble_eq_true rfl) (fun κ A hla C => ?_)
  refine g_chunks (flM cI cS a m).symm ?_
  rw [M_isNode] at hf
  refine g_iload_n (pc := 0) C 1 dX6_isNode_0 rfl ?_
  refine g_iconst (pc := 1) C 0 dX6_isNode_1 (by decide) ?_
  refine g_aload_n (pc := 2) C 0 dX6_isNode_2 rfl ?_
  refine gf_RX6_7 (pc := 3) C 0 rfl dX6_isNode_3 ?_
  refine g_iconst (pc := 6) C 0 dX6_isNode_6 (by decide) ?_
  refine g_iald (pc := 7) C 1 0 rfl rfl (by decide) dX6_isNode_7 ?_
  refine g_iconst (pc := 8) C 1 dX6_isNode_8 (by decide) ?_
  refine g_isub (pc := 9) C dX6_isNode_9 ?_
  obtain ⟨v10, h10, hf⟩ := Option.bind_eq_some_iff.mp hf
  refine g_callS' (pc := 10) hla C (c_X6_in l D cI cS x1 0 ((m.1 (ix 0)) - 1) v10 h10) tb_X6_in m_744 m_X6_in_static m_ini_RX6 hd_X6_in (by decide) rfl rfl (Nat.le_of_ble_eq_true rfl) dX6_isNode_10 (seM_nil cI cS a m) (seM_nil cI cS a m).symm [.int v10] rfl ?_
  obtain ⟨g13, hf⟩ := k_guard2 hf
  have e := Option.some.inj hf; subst e
  exact g_rz (pc := 13) C rfl g13 (flM cI cS a m) dX6_isNode_13
set_option maxHeartbeats 4000000 in
set_option maxRecDepth 100000 in
theorem c_X6_numberOf (l : Launch) (D : va_G) (cI cS : ClassId) (a : aM) (m : MD) (x1 : Int32) (out : Int32) (hf : M_numberOf m x1 = some out) : kM l D (kTy cI cS) yX6_numberOf ct_X6_numberOf rm_X6_numberOf [.ref a.1, .int x1] [wM cI cS a m] (kEq (some (.int out)) [wM cI cS a m]) := by
  refine k_methodE cX6_numberOf 4 (some .int) RX6 rfl [(0, .ref a.1), (1, .int x1)] rfl (by decide +kernel) (Nat.le_of_ble_eq_true rfl) (fun κ A hla C => ?_)
  refine g_chunks (flM cI cS a m).symm ?_
  have L4 : ∀ (fu : Nat) (m : MD) (x1 : Int32) (x2 : Int32) (x3 : Int32), M_numberOf_L4 fu m x1 x2 x3 = some out → kG κ D A 4 0 0 (kF κ D A (some (.int out)) [wM cI cS a m]) (csM cI cS a m) [(0, .ref a.1), (1, .int x1), (2, .int x2), (3, .int x3)] 4 [] := by
    intro fu; induction fu with
    | zero => intro m x1 x2 x3 hf; rw [M_numberOf_L4] at hf; cases hf
    | succ fu ih =>
      intro m x1 x2 x3 hf; rw [M_numberOf_L4] at hf
      refine g_iload_n (pc := 4) C 3 dX6_numberOf_4 rfl ?_
      refine g_aload_n (pc := 5) C 0 dX6_numberOf_5 rfl ?_
      refine gf_RX6_7 (pc := 6) C 0 rfl dX6_numberOf_6 ?_
      refine g_iconst (pc := 9) C 0 dX6_numberOf_9 (by decide) ?_
      refine g_iald (pc := 10) C 1 0 rfl rfl (by decide) dX6_numberOf_10 ?_
      refine g_icmp_ge (pc := 11) C 35 dX6_numberOf_11 (by decide) (fun (c11 : (m.1 (ix 0)) ≤ x3) => ?_) (fun (c11 : ¬ (m.1 (ix 0)) ≤ x3) => ?_)
      · have hf := k_pos c11 hf
        refine g_iload_n (pc := 35) C 2 dX6_numberOf_35 rfl ?_
        have e := Option.some.inj hf; subst e
        exact g_ri (pc := 36) C rfl (flM cI cS a m) dX6_numberOf_36
      · have hf := k_neg c11 hf
        refine g_aload_n (pc := 14) C 0 dX6_numberOf_14 rfl ?_
        refine g_iload_n (pc := 15) C 3 dX6_numberOf_15 rfl ?_
        obtain ⟨v16, h16, hf⟩ := Option.bind_eq_some_iff.mp hf
        refine g_callV' (pc := 16) hla C (c_X6_own l D cI cS a m x3 v16 h16) gg_RX6_39 hd_X6_own (by decide) rfl rfl rfl rfl (Nat.le_of_ble_eq_true rfl) dX6_numberOf_16 (seM_0 cI cS a m) (seM_0 cI cS a m).symm [.int v16] rfl ?_
        refine g_iload_n (pc := 19) C 1 dX6_numberOf_19 rfl ?_
        refine g_icmp_ne (pc := 20) C 27 dX6_numberOf_20 (by decide) (fun (c20 : ¬ v16 = x1) => ?_) (fun (c20 : v16 = x1) => ?_)
        · have hf := k_neg c20 hf
          refine g_iload_n (pc := 27) C 2 dX6_numberOf_27 rfl ?_
          refine g_istore_n (pc := 28) C [(2, .int x2), (0, .ref a.1), (1, .int x1), (3, .int x3)] dX6_numberOf_28 (by decide) rfl ?_
          refine g_iinc (pc := 29) C 3 (x3 + 1) [(3, .int (x3 + 1)), (2, .int x2), (0, .ref a.1), (1, .int x1)] dX6_numberOf_29 rfl (congrArg (HAdd.hAdd _) (by decide)) (by decide) rfl ?_
          refine g_goto (pc := 32) C 4 dX6_numberOf_32 (by decide) ?_
          refine g_sub [2, 3, 1, 0] (lv' := [(0, .ref a.1), (1, .int x1), (2, .int x2), (3, .int (x3 + 1))]) rfl ?_
          exact ih m x1 x2 (x3 + 1) hf
        · have hf := k_pos c20 hf
          refine g_iload_n (pc := 23) C 3 dX6_numberOf_23 rfl ?_
          refine g_goto (pc := 24) C 28 dX6_numberOf_24 (by decide) ?_
          refine g_istore_n (pc := 28) C [(2, .int x3), (0, .ref a.1), (1, .int x1), (3, .int x3)] dX6_numberOf_28 (by decide) rfl ?_
          refine g_iinc (pc := 29) C 3 (x3 + 1) [(3, .int (x3 + 1)), (2, .int x3), (0, .ref a.1), (1, .int x1)] dX6_numberOf_29 rfl (congrArg (HAdd.hAdd _) (by decide)) (by decide) rfl ?_
          refine g_goto (pc := 32) C 4 dX6_numberOf_32 (by decide) ?_
          refine g_sub [2, 3, 1, 0] (lv' := [(0, .ref a.1), (1, .int x1), (2, .int x3), (3, .int (x3 + 1))]) rfl ?_
          exact ih m x1 x3 (x3 + 1) hf
  rw [M_numberOf] at hf
  refine g_iconst (pc := 0) C (-1) dX6_numberOf_0 (by decide) ?_
  refine g_istore_n (pc := 1) C [(2, .int (-1)), (0, .ref a.1), (1, .int x1)] dX6_numberOf_1 (by decide) rfl ?_
  refine g_iconst (pc := 2) C 0 dX6_numberOf_2 (by decide) ?_
  refine g_istore_n (pc := 3) C [(3, .int 0), (2, .int (-1)), (0, .ref a.1), (1, .int x1)] dX6_numberOf_3 (by decide) rfl ?_
  refine g_sub [2, 3, 1, 0] (lv' := [(0, .ref a.1), (1, .int x1), (2, .int (-1)), (3, .int 0)]) rfl ?_
  exact L4 1000 m x1 (-1) 0 hf
set_option maxHeartbeats 4000000 in
set_option maxRecDepth 100000 in
theorem c_X6_place (l : Launch) (D : va_G) (cI cS : ClassId) (a : aM) (m : MD) (out : Int32) (hf : M_place m = some out) : kM l D (kTy cI cS) yX6_place ct_X6_place rm_X6_place [.ref a.1] [wM cI cS a m] (kEq (some (.int out)) [wM cI cS a m]) := by
  refine k_methodE cX6_place 1 (some .int) RX6 rfl [(0, .ref a.1)] rfl (by decide +kernel) (Nat.le_of_ble_eq_true rfl) (fun κ A hla C => ?_)
  refine g_chunks (flM cI cS a m).symm ?_
  rw [M_place] at hf
  refine g_aload_n (pc := 0) C 0 dX6_place_0 rfl ?_
  refine g_aload_n (pc := 1) C 0 dX6_place_1 rfl ?_
  refine gf_RX6_7 (pc := 2) C 0 rfl dX6_place_2 ?_
  refine g_iconst (pc := 5) C 2 dX6_place_5 (by decide) ?_
  refine g_iald (pc := 6) C 1 0 rfl rfl (by decide) dX6_place_6 ?_
  obtain ⟨v7, h7, hf⟩ := Option.bind_eq_some_iff.mp hf
  refine g_callV' (pc := 7) hla C (c_X6_numberOf l D cI cS a m (m.1 (ix 2)) v7 h7) gg_RX6_43 hd_X6_numberOf (by decide) rfl rfl rfl rfl (Nat.le_of_ble_eq_true rfl) dX6_place_7 (seM_0 cI cS a m) (seM_0 cI cS a m).symm [.int v7] rfl ?_
  have e := Option.some.inj hf; subst e
  exact g_ri (pc := 10) C rfl (flM cI cS a m) dX6_place_10
set_option maxHeartbeats 4000000 in
set_option maxRecDepth 100000 in
theorem c_X6_end (l : Launch) (D : va_G) (cI cS : ClassId) (a : aM) (m : MD) (x1 : Int32) (out : Int32) (hf : M_end m x1 = some out) : kM l D (kTy cI cS) yX6_end ct_X6_end rm_X6_end [.ref a.1, .int x1] [wM cI cS a m] (kEq (some (.int out)) [wM cI cS a m]) := by
  refine k_methodE cX6_end 3 (some .int) RX6 rfl [(0, .ref a.1), (1, .int x1)] rfl (by decide +kernel) (Nat.le_of_ble_eq_true rfl) (fun κ A hla C => ?_)
  refine g_chunks (flM cI cS a m).symm ?_
  have L4 : ∀ (fu : Nat) (m : MD) (x1 : Int32) (x2 : Int32), M_end_L4 fu m x1 x2 = some out → kG κ D A 3 0 0 (kF κ D A (some (.int out)) [wM cI cS a m]) (csM cI cS a m) [(0, .ref a.1), (1, .int x1), (2, .int x2)] 4 [] := by
    intro fu; induction fu with
    | zero => intro m x1 x2 hf; rw [M_end_L4] at hf; cases hf
    | succ fu ih =>
      intro m x1 x2 hf; rw [M_end_L4] at hf
      refine g_iload_n (pc := 4) C 2 dX6_end_4 rfl ?_
      refine g_aload_n (pc := 5) C 0 dX6_end_5 rfl ?_
      refine gf_RX6_7 (pc := 6) C 0 rfl dX6_end_6 ?_
      refine g_iconst (pc := 9) C 0 dX6_end_9 (by decide) ?_
      refine g_iald (pc := 10) C 1 0 rfl rfl (by decide) dX6_end_10 ?_
      refine g_icmp_ge (pc := 11) C 33 dX6_end_11 (by decide) (fun (c11 : (m.1 (ix 0)) ≤ x2) => ?_) (fun (c11 : ¬ (m.1 (ix 0)) ≤ x2) => ?_)
      · have hf := k_pos c11 hf
        refine g_iload_n (pc := 33) C 2 dX6_end_33 rfl ?_
        have e := Option.some.inj hf; subst e
        exact g_ri (pc := 34) C rfl (flM cI cS a m) dX6_end_34
      · have hf := k_neg c11 hf
        refine g_aload_n (pc := 14) C 0 dX6_end_14 rfl ?_
        refine g_iload_n (pc := 15) C 2 dX6_end_15 rfl ?_
        obtain ⟨v16, h16, hf⟩ := Option.bind_eq_some_iff.mp hf
        refine g_callV' (pc := 16) hla C (c_X6_deep l D cI cS a m x2 v16 h16) gg_RX6_46 hd_X6_deep (by decide) rfl rfl rfl rfl (Nat.le_of_ble_eq_true rfl) dX6_end_16 (seM_0 cI cS a m) (seM_0 cI cS a m).symm [.int v16] rfl ?_
        refine g_aload_n (pc := 19) C 0 dX6_end_19 rfl ?_
        refine g_iload_n (pc := 20) C 1 dX6_end_20 rfl ?_
        obtain ⟨v21, h21, hf⟩ := Option.bind_eq_some_iff.mp hf
        refine g_callV' (pc := 21) hla C (c_X6_deep l D cI cS a m x1 v21 h21) gg_RX6_46 hd_X6_deep (by decide) rfl rfl rfl rfl (Nat.le_of_ble_eq_true rfl) dX6_end_21 (seM_0 cI cS a m) (seM_0 cI cS a m).symm [.int v21, .int v16] rfl ?_
        refine g_icmp_le (pc := 24) C 33 dX6_end_24 (by decide) (fun (c24 : v16 ≤ v21) => ?_) (fun (c24 : ¬ v16 ≤ v21) => ?_)
        · have hf := k_pos c24 hf
          refine g_iload_n (pc := 33) C 2 dX6_end_33 rfl ?_
          have e := Option.some.inj hf; subst e
          exact g_ri (pc := 34) C rfl (flM cI cS a m) dX6_end_34
        · have hf := k_neg c24 hf
          refine g_iinc (pc := 27) C 2 (x2 + 1) [(2, .int (x2 + 1)), (0, .ref a.1), (1, .int x1)] dX6_end_27 rfl (congrArg (HAdd.hAdd _) (by decide)) (by decide) rfl ?_
          refine g_goto (pc := 30) C 4 dX6_end_30 (by decide) ?_
          refine g_sub [1, 2, 0] (lv' := [(0, .ref a.1), (1, .int x1), (2, .int (x2 + 1))]) rfl ?_
          exact ih m x1 (x2 + 1) hf
  rw [M_end] at hf
  refine g_iload_n (pc := 0) C 1 dX6_end_0 rfl ?_
  refine g_iconst (pc := 1) C 1 dX6_end_1 (by decide) ?_
  refine g_iadd (pc := 2) C dX6_end_2 ?_
  refine g_istore_n (pc := 3) C [(2, .int (x1 + 1)), (0, .ref a.1), (1, .int x1)] dX6_end_3 (by decide) rfl ?_
  refine g_sub [1, 2, 0] (lv' := [(0, .ref a.1), (1, .int x1), (2, .int (x1 + 1))]) rfl ?_
  exact L4 1000 m x1 (x1 + 1) hf
set_option maxHeartbeats 4000000 in
set_option maxRecDepth 100000 in
theorem c_X6_above (l : Launch) (D : va_G) (cI cS : ClassId) (a : aM) (m : MD) (x1 : Int32) (out : Int32) (hf : M_above m x1 = some out) : kM l D (kTy cI cS) yX6_above ct_X6_above rm_X6_above [.ref a.1, .int x1] [wM cI cS a m] (kEq (some (.int out)) [wM cI cS a m]) := by
  refine k_methodE cX6_above 3 (some .int) RX6 rfl [(0, .ref a.1), (1, .int x1)] rfl (by decide +kernel) (Nat.le_of_ble_eq_true rfl) (fun κ A hla C => ?_)
  refine g_chunks (flM cI cS a m).symm ?_
  have L4 : ∀ (fu : Nat) (m : MD) (x1 : Int32) (x2 : Int32), M_above_L4 fu m x1 x2 = some out → kG κ D A 3 0 0 (kF κ D A (some (.int out)) [wM cI cS a m]) (csM cI cS a m) [(0, .ref a.1), (1, .int x1), (2, .int x2)] 4 [] := by
    intro fu; induction fu with
    | zero => intro m x1 x2 hf; rw [M_above_L4] at hf; cases hf
    | succ fu ih =>
      intro m x1 x2 hf; rw [M_above_L4] at hf
      refine g_iload_n (pc := 4) C 2 dX6_above_4 rfl ?_
      refine g_if_lt (pc := 5) C 27 dX6_above_5 (by decide) (fun (c5 : x2 < 0) => ?_) (fun (c5 : ¬ x2 < 0) => ?_)
      · have hf := k_pos c5 hf
        refine g_iload_n (pc := 27) C 2 dX6_above_27 rfl ?_
        have e := Option.some.inj hf; subst e
        exact g_ri (pc := 28) C rfl (flM cI cS a m) dX6_above_28
      · have hf := k_neg c5 hf
        refine g_aload_n (pc := 8) C 0 dX6_above_8 rfl ?_
        refine g_iload_n (pc := 9) C 2 dX6_above_9 rfl ?_
        obtain ⟨v10, h10, hf⟩ := Option.bind_eq_some_iff.mp hf
        refine g_callV' (pc := 10) hla C (c_X6_deep l D cI cS a m x2 v10 h10) gg_RX6_46 hd_X6_deep (by decide) rfl rfl rfl rfl (Nat.le_of_ble_eq_true rfl) dX6_above_10 (seM_0 cI cS a m) (seM_0 cI cS a m).symm [.int v10] rfl ?_
        refine g_aload_n (pc := 13) C 0 dX6_above_13 rfl ?_
        refine g_iload_n (pc := 14) C 1 dX6_above_14 rfl ?_
        obtain ⟨v15, h15, hf⟩ := Option.bind_eq_some_iff.mp hf
        refine g_callV' (pc := 15) hla C (c_X6_deep l D cI cS a m x1 v15 h15) gg_RX6_46 hd_X6_deep (by decide) rfl rfl rfl rfl (Nat.le_of_ble_eq_true rfl) dX6_above_15 (seM_0 cI cS a m) (seM_0 cI cS a m).symm [.int v15, .int v10] rfl ?_
        refine g_icmp_lt (pc := 18) C 27 dX6_above_18 (by decide) (fun (c18 : v10 < v15) => ?_) (fun (c18 : ¬ v10 < v15) => ?_)
        · have hf := k_pos c18 hf
          refine g_iload_n (pc := 27) C 2 dX6_above_27 rfl ?_
          have e := Option.some.inj hf; subst e
          exact g_ri (pc := 28) C rfl (flM cI cS a m) dX6_above_28
        · have hf := k_neg c18 hf
          refine g_iinc (pc := 21) C 2 (x2 + (-1)) [(2, .int (x2 + (-1))), (0, .ref a.1), (1, .int x1)] dX6_above_21 rfl (congrArg (HAdd.hAdd _) (by decide)) (by decide) rfl ?_
          refine g_goto (pc := 24) C 4 dX6_above_24 (by decide) ?_
          refine g_sub [1, 2, 0] (lv' := [(0, .ref a.1), (1, .int x1), (2, .int (x2 + (-1)))]) rfl ?_
          exact ih m x1 (x2 + (-1)) hf
  rw [M_above] at hf
  refine g_iload_n (pc := 0) C 1 dX6_above_0 rfl ?_
  refine g_iconst (pc := 1) C 1 dX6_above_1 (by decide) ?_
  refine g_isub (pc := 2) C dX6_above_2 ?_
  refine g_istore_n (pc := 3) C [(2, .int (x1 - 1)), (0, .ref a.1), (1, .int x1)] dX6_above_3 (by decide) rfl ?_
  refine g_sub [1, 2, 0] (lv' := [(0, .ref a.1), (1, .int x1), (2, .int (x1 - 1))]) rfl ?_
  exact L4 1000 m x1 (x1 - 1) hf
