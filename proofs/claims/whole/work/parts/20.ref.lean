set_option maxHeartbeats 4000000 in
set_option maxRecDepth 100000 in
theorem c_X6_in (l : Launch) (D : va_G) (cI cS : ClassId) (x0 : Int32) (x1 : Int32) (x2 : Int32) (out : Int32) (hf : M_in x0 x1 x2 = some out) : kM l D (kTy cI cS) yX6_in ct_X6_in rm_X6_in [.int x0, .int x1, .int x2] [] (kEq (some (.int out)) []) := by
  refine k_methodE cX6_in 3 (some .boolean) RX6 rfl [(0, .int x0), (1, .int x1), (2, .int x2)] rfl (by decide +kernel) (Nat.le_of_ble_eq_true rfl) (fun κ A hla C => ?_)
  refine g_chunks (flN cI cS ).symm ?_
  rw [M_in] at hf
  refine g_iload_n (pc := 0) C 0 dX6_in_0 rfl ?_
  refine g_iload_n (pc := 1) C 1 dX6_in_1 rfl ?_
  refine g_icmp_lt (pc := 2) C 14 dX6_in_2 (by decide) (fun (c2 : x0 < x1) => ?_) (fun (c2 : ¬ x0 < x1) => ?_)
  · have hf := k_pos c2 hf
    refine g_iconst (pc := 14) C 0 dX6_in_14 (by decide) ?_
    have e := Option.some.inj hf; subst e
    exact g_rz (pc := 15) C rfl (Or.inl rfl) (flN cI cS ) dX6_in_15
  · have hf := k_neg c2 hf
    refine g_iload_n (pc := 5) C 0 dX6_in_5 rfl ?_
    refine g_iload_n (pc := 6) C 2 dX6_in_6 rfl ?_
    refine g_icmp_gt (pc := 7) C 14 dX6_in_7 (by decide) (fun (c7 : x2 < x0) => ?_) (fun (c7 : ¬ x2 < x0) => ?_)
    · have hf := k_pos c7 hf
      refine g_iconst (pc := 14) C 0 dX6_in_14 (by decide) ?_
      have e := Option.some.inj hf; subst e
      exact g_rz (pc := 15) C rfl (Or.inl rfl) (flN cI cS ) dX6_in_15
    · have hf := k_neg c7 hf
      refine g_iconst (pc := 10) C 1 dX6_in_10 (by decide) ?_
      refine g_goto (pc := 11) C 15 dX6_in_11 (by decide) ?_
      have e := Option.some.inj hf; subst e
      exact g_rz (pc := 15) C rfl (Or.inr rfl) (flN cI cS ) dX6_in_15
set_option maxHeartbeats 4000000 in
set_option maxRecDepth 100000 in
theorem c_X6_begins (l : Launch) (D : va_G) (cI cS : ClassId) (a : aM) (m : MD) (out : MD) (hf : M_begins m = some out) : kM l D (kTy cI cS) yX6_begins ct_X6_begins rm_X6_begins [.ref a.1] [wM cI cS a m] (kEq (none) [wM cI cS a out]) := by
  refine k_methodE cX6_begins 2 none RX6 rfl [(0, .ref a.1)] rfl (by decide +kernel) (Nat.le_of_ble_eq_true rfl) (fun κ A hla C => ?_)
  refine g_chunks (flM cI cS a m).symm ?_
  have L2 : ∀ (fu : Nat) (m : MD) (x1 : Int32), M_begins_L2 fu m x1 = some out → kG κ D A 2 0 0 (kF κ D A (none) [wM cI cS a out]) (csM cI cS a m) [(0, .ref a.1), (1, .int x1)] 2 [] := by
    intro fu; induction fu with
    | zero => intro m x1 hf; rw [M_begins_L2] at hf; cases hf
    | succ fu ih =>
      intro m x1 hf; rw [M_begins_L2] at hf
      refine g_iload_n (pc := 2) C 1 dX6_begins_2 rfl ?_
      refine g_sipush (pc := 3) C 218 dX6_begins_3 (by decide) ?_
      refine g_icmp_ge (pc := 6) C 27 dX6_begins_6 (by decide) (fun (c6 : 218 ≤ x1) => ?_) (fun (c6 : ¬ 218 ≤ x1) => ?_)
      · have hf := k_pos c6 hf
        have e := Option.some.inj hf; subst e
        exact g_rv (pc := 27) C rfl (flM cI cS a m) dX6_begins_27
      · have hf := k_neg c6 hf
        refine g_aload_n (pc := 9) C 0 dX6_begins_9 rfl ?_
        refine gf_RX6_13 (pc := 10) C 0 rfl dX6_begins_10 ?_
        refine g_iload_n (pc := 13) C 1 dX6_begins_13 rfl ?_
        refine g_aload_n (pc := 14) C 0 dX6_begins_14 rfl ?_
        refine gf_RX6_7 (pc := 15) C 0 rfl dX6_begins_15 ?_
        refine g_iload_n (pc := 18) C 1 dX6_begins_18 rfl ?_
        obtain ⟨g19, hf⟩ := k_guard hf
        refine g_iald (pc := 19) C 1 0 rfl rfl g19 dX6_begins_19 ?_
        obtain ⟨g20, hf⟩ := k_guard hf
        refine g_iast (pc := 20) C 2 0 (csM cI cS a (m.1, (upd m.2.1 (ix x1) (m.1 (ix x1))), m.2.2.1, m.2.2.2.1, m.2.2.2.2.1, m.2.2.2.2.2.1, m.2.2.2.2.2.2.1, m.2.2.2.2.2.2.2.1, m.2.2.2.2.2.2.2.2.1, m.2.2.2.2.2.2.2.2.2.1, m.2.2.2.2.2.2.2.2.2.2.1, m.2.2.2.2.2.2.2.2.2.2.2)) rfl rfl g20 rfl dX6_begins_20 ?_
        refine g_iinc (pc := 21) C 1 (x1 + 1) [(1, .int (x1 + 1)), (0, .ref a.1)] dX6_begins_21 rfl (congrArg (HAdd.hAdd _) (by decide)) (by decide) rfl ?_
        refine g_goto (pc := 24) C 2 dX6_begins_24 (by decide) ?_
        refine g_sub [1, 0] (lv' := [(0, .ref a.1), (1, .int (x1 + 1))]) rfl ?_
        exact ih (m.1, (upd m.2.1 (ix x1) (m.1 (ix x1))), m.2.2.1, m.2.2.2.1, m.2.2.2.2.1, m.2.2.2.2.2.1, m.2.2.2.2.2.2.1, m.2.2.2.2.2.2.2.1, m.2.2.2.2.2.2.2.2.1, m.2.2.2.2.2.2.2.2.2.1, m.2.2.2.2.2.2.2.2.2.2.1, m.2.2.2.2.2.2.2.2.2.2.2) (x1 + 1) hf
  rw [M_begins] at hf
  refine g_iconst (pc := 0) C 0 dX6_begins_0 (by decide) ?_
  refine g_istore_n (pc := 1) C [(1, .int 0), (0, .ref a.1)] dX6_begins_1 (by decide) rfl ?_
  refine g_sub [1, 0] (lv' := [(0, .ref a.1), (1, .int 0)]) rfl ?_
  exact L2 1000 m 0 hf
set_option maxHeartbeats 4000000 in
set_option maxRecDepth 100000 in
theorem c_X6_acted (l : Launch) (D : va_G) (cI cS : ClassId) (a : aM) (m : MD) (x1 : Int32) (out : Int32 × MD) (hf : M_acted m x1 = some out) : kM l D (kTy cI cS) yX6_acted ct_X6_acted rm_X6_acted [.ref a.1, .int x1] [wM cI cS a m] (kEq (some (.int out.1)) [wM cI cS a out.2]) := by
  refine k_methodE cX6_acted 3 (some .int) RX6 rfl [(0, .ref a.1), (1, .int x1)] rfl (by decide +kernel) (Nat.le_of_ble_eq_true rfl) (fun κ A hla C => ?_)
  refine g_chunks (flM cI cS a m).symm ?_
  have L84 : ∀ (fu : Nat) (m : MD) (x1 : Int32) (x2 : Int32), M_acted_L84 fu m x1 x2 = some out → kG κ D A 3 0 0 (kF κ D A (some (.int out.1)) [wM cI cS a out.2]) (csM cI cS a m) [(0, .ref a.1), (1, .int x1), (2, .int x2)] 84 [] := by
    intro fu; induction fu with
    | zero => intro m x1 x2 hf; rw [M_acted_L84] at hf; cases hf
    | succ fu ih =>
      intro m x1 x2 hf; rw [M_acted_L84] at hf
      refine g_iload_n (pc := 84) C 2 dX6_acted_84 rfl ?_
      refine g_sipush (pc := 85) C 218 dX6_acted_85 (by decide) ?_
      refine g_icmp_ge (pc := 88) C 118 dX6_acted_88 (by decide) (fun (c88 : 218 ≤ x2) => ?_) (fun (c88 : ¬ 218 ≤ x2) => ?_)
      · have hf := k_pos c88 hf
        refine g_aload_n (pc := 118) C 0 dX6_acted_118 rfl ?_
        refine g_dup (pc := 119) C dX6_acted_119 rfl ?_
        refine gf_RX6_31 (pc := 120) C 0 rfl dX6_acted_120 ?_
        refine g_iconst (pc := 123) C 1 dX6_acted_123 (by decide) ?_
        refine g_iadd (pc := 124) C dX6_acted_124 ?_
        refine gp_RX6_31 (pc := 125) C 0 (cs' := csM cI cS a (m.1, m.2.1, m.2.2.1, (m.2.2.2.1 + 1), m.2.2.2.2.1, m.2.2.2.2.2.1, m.2.2.2.2.2.2.1, m.2.2.2.2.2.2.2.1, m.2.2.2.2.2.2.2.2.1, m.2.2.2.2.2.2.2.2.2.1, m.2.2.2.2.2.2.2.2.2.2.1, m.2.2.2.2.2.2.2.2.2.2.2)) rfl rfl dX6_acted_125 ?_
        refine g_iload_n (pc := 128) C 1 dX6_acted_128 rfl ?_
        have e := Option.some.inj hf; subst e
        exact g_ri (pc := 129) C rfl (flM cI cS a (m.1, m.2.1, m.2.2.1, (m.2.2.2.1 + 1), m.2.2.2.2.1, m.2.2.2.2.2.1, m.2.2.2.2.2.2.1, m.2.2.2.2.2.2.2.1, m.2.2.2.2.2.2.2.2.1, m.2.2.2.2.2.2.2.2.2.1, m.2.2.2.2.2.2.2.2.2.2.1, m.2.2.2.2.2.2.2.2.2.2.2)) dX6_acted_129
      · have hf := k_neg c88 hf
        refine g_aload_n (pc := 91) C 0 dX6_acted_91 rfl ?_
        refine gf_RX6_16 (pc := 92) C 0 rfl dX6_acted_92 ?_
        refine g_sipush (pc := 95) C 218 dX6_acted_95 (by decide) ?_
        refine g_aload_n (pc := 98) C 0 dX6_acted_98 rfl ?_
        refine gf_RX6_31 (pc := 99) C 0 rfl dX6_acted_99 ?_
        refine g_imul (pc := 102) C dX6_acted_102 ?_
        refine g_iload_n (pc := 103) C 2 dX6_acted_103 rfl ?_
        refine g_iadd (pc := 104) C dX6_acted_104 ?_
        refine g_aload_n (pc := 105) C 0 dX6_acted_105 rfl ?_
        refine gf_RX6_13 (pc := 106) C 0 rfl dX6_acted_106 ?_
        refine g_iload_n (pc := 109) C 2 dX6_acted_109 rfl ?_
        obtain ⟨g110, hf⟩ := k_guard hf
        refine g_iald (pc := 110) C 2 0 rfl rfl g110 dX6_acted_110 ?_
        obtain ⟨g111, hf⟩ := k_guard hf
        refine g_iast (pc := 111) C 3 0 (csM cI cS a (m.1, m.2.1, (upd m.2.2.1 (ix ((218 * m.2.2.2.1) + x2)) (m.2.1 (ix x2))), m.2.2.2.1, m.2.2.2.2.1, m.2.2.2.2.2.1, m.2.2.2.2.2.2.1, m.2.2.2.2.2.2.2.1, m.2.2.2.2.2.2.2.2.1, m.2.2.2.2.2.2.2.2.2.1, m.2.2.2.2.2.2.2.2.2.2.1, m.2.2.2.2.2.2.2.2.2.2.2)) rfl rfl g111 rfl dX6_acted_111 ?_
        refine g_iinc (pc := 112) C 2 (x2 + 1) [(2, .int (x2 + 1)), (0, .ref a.1), (1, .int x1)] dX6_acted_112 rfl (congrArg (HAdd.hAdd _) (by decide)) (by decide) rfl ?_
        refine g_goto (pc := 115) C 84 dX6_acted_115 (by decide) ?_
        refine g_sub [1, 2, 0] (lv' := [(0, .ref a.1), (1, .int x1), (2, .int (x2 + 1))]) rfl ?_
        exact ih (m.1, m.2.1, (upd m.2.2.1 (ix ((218 * m.2.2.2.1) + x2)) (m.2.1 (ix x2))), m.2.2.2.1, m.2.2.2.2.1, m.2.2.2.2.2.1, m.2.2.2.2.2.2.1, m.2.2.2.2.2.2.2.1, m.2.2.2.2.2.2.2.2.1, m.2.2.2.2.2.2.2.2.2.1, m.2.2.2.2.2.2.2.2.2.2.1, m.2.2.2.2.2.2.2.2.2.2.2) x1 (x2 + 1) hf
  have L43 : ∀ (fu : Nat) (m : MD) (x1 : Int32) (x2 : Int32), M_acted_L43 fu m x1 x2 = some out → kG κ D A 3 0 0 (kF κ D A (some (.int out.1)) [wM cI cS a out.2]) (csM cI cS a m) [(0, .ref a.1), (1, .int x1), (2, .int x2)] 43 [] := by
    intro fu; induction fu with
    | zero => intro m x1 x2 hf; rw [M_acted_L43] at hf; cases hf
    | succ fu ih =>
      intro m x1 x2 hf; rw [M_acted_L43] at hf
      refine g_iload_n (pc := 43) C 2 dX6_acted_43 rfl ?_
      refine g_sipush (pc := 44) C 654 dX6_acted_44 (by decide) ?_
      refine g_icmp_ge (pc := 47) C 72 dX6_acted_47 (by decide) (fun (c47 : 654 ≤ x2) => ?_) (fun (c47 : ¬ 654 ≤ x2) => ?_)
      · have hf := k_pos c47 hf
        refine g_aload_n (pc := 72) C 0 dX6_acted_72 rfl ?_
        refine g_dup (pc := 73) C dX6_acted_73 rfl ?_
        refine gf_RX6_31 (pc := 74) C 0 rfl dX6_acted_74 ?_
        refine g_iconst (pc := 77) C 1 dX6_acted_77 (by decide) ?_
        refine g_isub (pc := 78) C dX6_acted_78 ?_
        refine gp_RX6_31 (pc := 79) C 0 (cs' := csM cI cS a (m.1, m.2.1, m.2.2.1, (m.2.2.2.1 - 1), m.2.2.2.2.1, m.2.2.2.2.2.1, m.2.2.2.2.2.2.1, m.2.2.2.2.2.2.2.1, m.2.2.2.2.2.2.2.2.1, m.2.2.2.2.2.2.2.2.2.1, m.2.2.2.2.2.2.2.2.2.2.1, m.2.2.2.2.2.2.2.2.2.2.2)) rfl rfl dX6_acted_79 ?_
        refine g_iconst (pc := 82) C 0 dX6_acted_82 (by decide) ?_
        refine g_istore_n (pc := 83) C [(2, .int 0), (0, .ref a.1), (1, .int x1)] dX6_acted_83 (by decide) rfl ?_
        refine g_sub [1, 2, 0] (lv' := [(0, .ref a.1), (1, .int x1), (2, .int 0)]) rfl ?_
        exact L84 1000 (m.1, m.2.1, m.2.2.1, (m.2.2.2.1 - 1), m.2.2.2.2.1, m.2.2.2.2.2.1, m.2.2.2.2.2.2.1, m.2.2.2.2.2.2.2.1, m.2.2.2.2.2.2.2.2.1, m.2.2.2.2.2.2.2.2.2.1, m.2.2.2.2.2.2.2.2.2.2.1, m.2.2.2.2.2.2.2.2.2.2.2) x1 0 hf
      · have hf := k_neg c47 hf
        refine g_aload_n (pc := 50) C 0 dX6_acted_50 rfl ?_
        refine gf_RX6_16 (pc := 51) C 0 rfl dX6_acted_51 ?_
        refine g_iload_n (pc := 54) C 2 dX6_acted_54 rfl ?_
        refine g_aload_n (pc := 55) C 0 dX6_acted_55 rfl ?_
        refine gf_RX6_16 (pc := 56) C 0 rfl dX6_acted_56 ?_
        refine g_iload_n (pc := 59) C 2 dX6_acted_59 rfl ?_
        refine g_sipush (pc := 60) C 218 dX6_acted_60 (by decide) ?_
        refine g_iadd (pc := 63) C dX6_acted_63 ?_
        obtain ⟨g64, hf⟩ := k_guard hf
        refine g_iald (pc := 64) C 3 0 rfl rfl g64 dX6_acted_64 ?_
        obtain ⟨g65, hf⟩ := k_guard hf
        refine g_iast (pc := 65) C 3 0 (csM cI cS a (m.1, m.2.1, (upd m.2.2.1 (ix x2) (m.2.2.1 (ix (x2 + 218)))), m.2.2.2.1, m.2.2.2.2.1, m.2.2.2.2.2.1, m.2.2.2.2.2.2.1, m.2.2.2.2.2.2.2.1, m.2.2.2.2.2.2.2.2.1, m.2.2.2.2.2.2.2.2.2.1, m.2.2.2.2.2.2.2.2.2.2.1, m.2.2.2.2.2.2.2.2.2.2.2)) rfl rfl g65 rfl dX6_acted_65 ?_
        refine g_iinc (pc := 66) C 2 (x2 + 1) [(2, .int (x2 + 1)), (0, .ref a.1), (1, .int x1)] dX6_acted_66 rfl (congrArg (HAdd.hAdd _) (by decide)) (by decide) rfl ?_
        refine g_goto (pc := 69) C 43 dX6_acted_69 (by decide) ?_
        refine g_sub [1, 2, 0] (lv' := [(0, .ref a.1), (1, .int x1), (2, .int (x2 + 1))]) rfl ?_
        exact ih (m.1, m.2.1, (upd m.2.2.1 (ix x2) (m.2.2.1 (ix (x2 + 218)))), m.2.2.2.1, m.2.2.2.2.1, m.2.2.2.2.2.1, m.2.2.2.2.2.2.1, m.2.2.2.2.2.2.2.1, m.2.2.2.2.2.2.2.2.1, m.2.2.2.2.2.2.2.2.2.1, m.2.2.2.2.2.2.2.2.2.2.1, m.2.2.2.2.2.2.2.2.2.2.2) x1 (x2 + 1) hf
  have L6 : ∀ (fu : Nat) (m : MD) (x1 : Int32) (x2 : Int32), M_acted_L6 fu m x1 x2 = some out → kG κ D A 3 0 0 (kF κ D A (some (.int out.1)) [wM cI cS a out.2]) (csM cI cS a m) [(0, .ref a.1), (1, .int x1), (2, .int x2)] 6 [] := by
    intro fu; induction fu with
    | zero => intro m x1 x2 hf; rw [M_acted_L6] at hf; cases hf
    | succ fu ih =>
      intro m x1 x2 hf; rw [M_acted_L6] at hf
      refine g_iload_n (pc := 6) C 2 dX6_acted_6 rfl ?_
      refine g_sipush (pc := 7) C 218 dX6_acted_7 (by decide) ?_
      refine g_icmp_ge (pc := 10) C 31 dX6_acted_10 (by decide) (fun (c10 : 218 ≤ x2) => ?_) (fun (c10 : ¬ 218 ≤ x2) => ?_)
      · have hf := k_pos c10 hf
        refine g_iload_n (pc := 31) C 1 dX6_acted_31 rfl ?_
        have e := Option.some.inj hf; subst e
        exact g_ri (pc := 32) C rfl (flM cI cS a m) dX6_acted_32
      · have hf := k_neg c10 hf
        refine g_aload_n (pc := 13) C 0 dX6_acted_13 rfl ?_
        refine gf_RX6_7 (pc := 14) C 0 rfl dX6_acted_14 ?_
        refine g_iload_n (pc := 17) C 2 dX6_acted_17 rfl ?_
        refine g_aload_n (pc := 18) C 0 dX6_acted_18 rfl ?_
        refine gf_RX6_13 (pc := 19) C 0 rfl dX6_acted_19 ?_
        refine g_iload_n (pc := 22) C 2 dX6_acted_22 rfl ?_
        obtain ⟨g23, hf⟩ := k_guard hf
        refine g_iald (pc := 23) C 2 0 rfl rfl g23 dX6_acted_23 ?_
        obtain ⟨g24, hf⟩ := k_guard hf
        refine g_iast (pc := 24) C 1 0 (csM cI cS a ((upd m.1 (ix x2) (m.2.1 (ix x2))), m.2.1, m.2.2.1, m.2.2.2.1, m.2.2.2.2.1, m.2.2.2.2.2.1, m.2.2.2.2.2.2.1, m.2.2.2.2.2.2.2.1, m.2.2.2.2.2.2.2.2.1, m.2.2.2.2.2.2.2.2.2.1, m.2.2.2.2.2.2.2.2.2.2.1, m.2.2.2.2.2.2.2.2.2.2.2)) rfl rfl g24 rfl dX6_acted_24 ?_
        refine g_iinc (pc := 25) C 2 (x2 + 1) [(2, .int (x2 + 1)), (0, .ref a.1), (1, .int x1)] dX6_acted_25 rfl (congrArg (HAdd.hAdd _) (by decide)) (by decide) rfl ?_
        refine g_goto (pc := 28) C 6 dX6_acted_28 (by decide) ?_
        refine g_sub [1, 2, 0] (lv' := [(0, .ref a.1), (1, .int x1), (2, .int (x2 + 1))]) rfl ?_
        exact ih ((upd m.1 (ix x2) (m.2.1 (ix x2))), m.2.1, m.2.2.1, m.2.2.2.1, m.2.2.2.2.1, m.2.2.2.2.2.1, m.2.2.2.2.2.2.1, m.2.2.2.2.2.2.2.1, m.2.2.2.2.2.2.2.2.1, m.2.2.2.2.2.2.2.2.2.1, m.2.2.2.2.2.2.2.2.2.2.1, m.2.2.2.2.2.2.2.2.2.2.2) x1 (x2 + 1) hf
  rw [M_acted] at hf
  refine g_iload_n (pc := 0) C 1 dX6_acted_0 rfl ?_
  refine g_if_ge (pc := 1) C 33 dX6_acted_1 (by decide) (fun (c1 : 0 ≤ x1) => ?_) (fun (c1 : ¬ 0 ≤ x1) => ?_)
  · have hf := k_pos c1 hf
    refine g_aload_n (pc := 33) C 0 dX6_acted_33 rfl ?_
    refine gf_RX6_31 (pc := 34) C 0 rfl dX6_acted_34 ?_
    refine g_iconst (pc := 37) C 4 dX6_acted_37 (by decide) ?_
    refine g_icmp_ne (pc := 38) C 82 dX6_acted_38 (by decide) (fun (c38 : ¬ m.2.2.2.1 = 4) => ?_) (fun (c38 : m.2.2.2.1 = 4) => ?_)
    · have hf := k_neg c38 hf
      refine g_iconst (pc := 82) C 0 dX6_acted_82 (by decide) ?_
      refine g_istore_n (pc := 83) C [(2, .int 0), (0, .ref a.1), (1, .int x1)] dX6_acted_83 (by decide) rfl ?_
      refine g_sub [1, 2, 0] (lv' := [(0, .ref a.1), (1, .int x1), (2, .int 0)]) rfl ?_
      exact L84 1000 m x1 0 hf
    · have hf := k_pos c38 hf
      refine g_iconst (pc := 41) C 0 dX6_acted_41 (by decide) ?_
      refine g_istore_n (pc := 42) C [(2, .int 0), (0, .ref a.1), (1, .int x1)] dX6_acted_42 (by decide) rfl ?_
      refine g_sub [1, 2, 0] (lv' := [(0, .ref a.1), (1, .int x1), (2, .int 0)]) rfl ?_
      exact L43 1000 m x1 0 hf
  · have hf := k_neg c1 hf
    refine g_iconst (pc := 4) C 0 dX6_acted_4 (by decide) ?_
    refine g_istore_n (pc := 5) C [(2, .int 0), (0, .ref a.1), (1, .int x1)] dX6_acted_5 (by decide) rfl ?_
    refine g_sub [1, 2, 0] (lv' := [(0, .ref a.1), (1, .int x1), (2, .int 0)]) rfl ?_
    exact L6 1000 m x1 0 hf
set_option maxHeartbeats 4000000 in
set_option maxRecDepth 100000 in
theorem c_X6_sign (l : Launch) (D : va_G) (cI cS : ClassId) (a : aM) (m : MD) (x1 : Int32) (out : Int32) (hf : M_sign m x1 = some out) : kM l D (kTy cI cS) yX6_sign ct_X6_sign rm_X6_sign [.ref a.1, .int x1] [wM cI cS a m] (kEq (some (.int out)) [wM cI cS a m]) := by
  refine k_methodE cX6_sign 2 (some .int) RX6 rfl [(0, .ref a.1), (1, .int x1)] rfl (by decide +kernel) (Nat.le_of_ble_eq_true rfl) (fun κ A hla C => ?_)
  refine g_chunks (flM cI cS a m).symm ?_
  rw [M_sign] at hf
  refine g_aload_n (pc := 0) C 0 dX6_sign_0 rfl ?_
  refine gf_RX6_7 (pc := 1) C 0 rfl dX6_sign_1 ?_
  refine g_bipush (pc := 4) C 18 dX6_sign_4 (by decide) ?_
  refine g_iconst (pc := 6) C 3 dX6_sign_6 (by decide) ?_
  refine g_iload_n (pc := 7) C 1 dX6_sign_7 rfl ?_
  refine g_imul (pc := 8) C dX6_sign_8 ?_
  refine g_iadd (pc := 9) C dX6_sign_9 ?_
  obtain ⟨g10, hf⟩ := k_guard hf
  refine g_iald (pc := 10) C 1 0 rfl rfl g10 dX6_sign_10 ?_
  have e := Option.some.inj hf; subst e
  exact g_ri (pc := 11) C rfl (flM cI cS a m) dX6_sign_11
set_option maxHeartbeats 4000000 in
set_option maxRecDepth 100000 in
theorem c_X6_deep (l : Launch) (D : va_G) (cI cS : ClassId) (a : aM) (m : MD) (x1 : Int32) (out : Int32) (hf : M_deep m x1 = some out) : kM l D (kTy cI cS) yX6_deep ct_X6_deep rm_X6_deep [.ref a.1, .int x1] [wM cI cS a m] (kEq (some (.int out)) [wM cI cS a m]) := by
  refine k_methodE cX6_deep 2 (some .int) RX6 rfl [(0, .ref a.1), (1, .int x1)] rfl (by decide +kernel) (Nat.le_of_ble_eq_true rfl) (fun κ A hla C => ?_)
  refine g_chunks (flM cI cS a m).symm ?_
  rw [M_deep] at hf
  refine g_aload_n (pc := 0) C 0 dX6_deep_0 rfl ?_
  refine gf_RX6_7 (pc := 1) C 0 rfl dX6_deep_1 ?_
  refine g_bipush (pc := 4) C 18 dX6_deep_4 (by decide) ?_
  refine g_iconst (pc := 6) C 3 dX6_deep_6 (by decide) ?_
  refine g_iload_n (pc := 7) C 1 dX6_deep_7 rfl ?_
  refine g_imul (pc := 8) C dX6_deep_8 ?_
  refine g_iadd (pc := 9) C dX6_deep_9 ?_
  refine g_iconst (pc := 10) C 1 dX6_deep_10 (by decide) ?_
  refine g_iadd (pc := 11) C dX6_deep_11 ?_
  obtain ⟨g12, hf⟩ := k_guard hf
  refine g_iald (pc := 12) C 1 0 rfl rfl g12 dX6_deep_12 ?_
  have e := Option.some.inj hf; subst e
  exact g_ri (pc := 13) C rfl (flM cI cS a m) dX6_deep_13
set_option maxHeartbeats 4000000 in
set_option maxRecDepth 100000 in
theorem c_X6_own (l : Launch) (D : va_G) (cI cS : ClassId) (a : aM) (m : MD) (x1 : Int32) (out : Int32) (hf : M_own m x1 = some out) : kM l D (kTy cI cS) yX6_own ct_X6_own rm_X6_own [.ref a.1, .int x1] [wM cI cS a m] (kEq (some (.int out)) [wM cI cS a m]) := by
  refine k_methodE cX6_own 2 (some .int) RX6 rfl [(0, .ref a.1), (1, .int x1)] rfl (by decide +kernel) (Nat.le_of_ble_eq_true rfl) (fun κ A hla C => ?_)
  refine g_chunks (flM cI cS a m).symm ?_
  rw [M_own] at hf
  refine g_aload_n (pc := 0) C 0 dX6_own_0 rfl ?_
  refine gf_RX6_7 (pc := 1) C 0 rfl dX6_own_1 ?_
  refine g_bipush (pc := 4) C 18 dX6_own_4 (by decide) ?_
  refine g_iconst (pc := 6) C 3 dX6_own_6 (by decide) ?_
  refine g_iload_n (pc := 7) C 1 dX6_own_7 rfl ?_
  refine g_imul (pc := 8) C dX6_own_8 ?_
  refine g_iadd (pc := 9) C dX6_own_9 ?_
  refine g_iconst (pc := 10) C 2 dX6_own_10 (by decide) ?_
  refine g_iadd (pc := 11) C dX6_own_11 ?_
  obtain ⟨g12, hf⟩ := k_guard hf
  refine g_iald (pc := 12) C 1 0 rfl rfl g12 dX6_own_12 ?_
  have e := Option.some.inj hf; subst e
  exact g_ri (pc := 13) C rfl (flM cI cS a m) dX6_own_13
set_option maxHeartbeats 4000000 in
set_option maxRecDepth 100000 in
theorem c_X6_isNode (l : Launch) (D : va_G) (cI cS : ClassId) (a : aM) (m : MD) (x1 : Int32) (out : Int32) (hf : M_isNode m x1 = some out) : kM l D (kTy cI cS) yX6_isNode ct_X6_isNode rm_X6_isNode [.ref a.1, .int x1] [wM cI cS a m] (kEq (some (.int out)) [wM cI cS a m]) := by
  refine k_methodE cX6_isNode 2 (some .boolean) RX6 rfl [(0, .ref a.1), (1, .int x1)] rfl (by decide +kernel) (Nat.le_of_ble_eq_true rfl) (fun κ A hla C => ?_)
  refine g_chunks (flM cI cS a m).symm ?_
  rw [M_isNode] at hf
  refine g_iload_n (pc := 0) C 1 dX6_isNode_0 rfl ?_
  refine g_iconst (pc := 1) C 0 dX6_isNode_1 (by decide) ?_
  refine g_aload_n (pc := 2) C 0 dX6_isNode_2 rfl ?_
  refine gf_RX6_7 (pc := 3) C 0 rfl dX6_isNode_3 ?_
  refine g_iconst (pc := 6) C 0 dX6_isNode_6 (by decide) ?_
  refine g_iald (pc := 7) C 1 0 rfl rfl (by decide) dX6_isNode_7 ?_
  refine g_iconst (pc := 8) C 1 dX6_isNode_8 (by decide) ?_
  refine g_isub (pc := 9) C dX6_isNode_9 ?_
  obtain ⟨v10, h10, hf⟩ := Option.bind_eq_some_iff.mp hf
  refine g_callS' (pc := 10) hla C (c_X6_in l D cI cS x1 0 ((m.1 (ix 0)) - 1) v10 h10) tb_X6_in m_744 m_X6_in_static m_ini_RX6 hd_X6_in (by decide) rfl rfl (Nat.le_of_ble_eq_true rfl) dX6_isNode_10 (seM_nil cI cS a m) (seM_nil cI cS a m).symm [.int v10] rfl ?_
  obtain ⟨g13, hf⟩ := k_guard2 hf
  have e := Option.some.inj hf; subst e
  exact g_rz (pc := 13) C rfl g13 (flM cI cS a m) dX6_isNode_13
set_option maxHeartbeats 4000000 in
set_option maxRecDepth 100000 in
theorem c_X6_numberOf (l : Launch) (D : va_G) (cI cS : ClassId) (a : aM) (m : MD) (x1 : Int32) (out : Int32) (hf : M_numberOf m x1 = some out) : kM l D (kTy cI cS) yX6_numberOf ct_X6_numberOf rm_X6_numberOf [.ref a.1, .int x1] [wM cI cS a m] (kEq (some (.int out)) [wM cI cS a m]) := by
  refine k_methodE cX6_numberOf 4 (some .int) RX6 rfl [(0, .ref a.1), (1, .int x1)] rfl (by decide +kernel) (Nat.le_of_ble_eq_true rfl) (fun κ A hla C => ?_)
  refine g_chunks (flM cI cS a m).symm ?_
  have L4 : ∀ (fu : Nat) (m : MD) (x1 : Int32) (x2 : Int32) (x3 : Int32), M_numberOf_L4 fu m x1 x2 x3 = some out → kG κ D A 4 0 0 (kF κ D A (some (.int out)) [wM cI cS a m]) (csM cI cS a m) [(0, .ref a.1), (1, .int x1), (2, .int x2), (3, .int x3)] 4 [] := by
    intro fu; induction fu with
    | zero => intro m x1 x2 x3 hf; rw [M_numberOf_L4] at hf; cases hf
    | succ fu ih =>
      intro m x1 x2 x3 hf; rw [M_numberOf_L4] at hf
      refine g_iload_n (pc := 4) C 3 dX6_numberOf_4 rfl ?_
      refine g_aload_n (pc := 5) C 0 dX6_numberOf_5 rfl ?_
      refine gf_RX6_7 (pc := 6) C 0 rfl dX6_numberOf_6 ?_
      refine g_iconst (pc := 9) C 0 dX6_numberOf_9 (by decide) ?_
      refine g_iald (pc := 10) C 1 0 rfl rfl (by decide) dX6_numberOf_10 ?_
      refine g_icmp_ge (pc := 11) C 35 dX6_numberOf_11 (by decide) (fun (c11 : (m.1 (ix 0)) ≤ x3) => ?_) (fun (c11 : ¬ (m.1 (ix 0)) ≤ x3) => ?_)
      · have hf := k_pos c11 hf
        refine g_iload_n (pc := 35) C 2 dX6_numberOf_35 rfl ?_
        have e := Option.some.inj hf; subst e
        exact g_ri (pc := 36) C rfl (flM cI cS a m) dX6_numberOf_36
      · have hf := k_neg c11 hf
        refine g_aload_n (pc := 14) C 0 dX6_numberOf_14 rfl ?_
        refine g_iload_n (pc := 15) C 3 dX6_numberOf_15 rfl ?_
        obtain ⟨v16, h16, hf⟩ := Option.bind_eq_some_iff.mp hf
        refine g_callV' (pc := 16) hla C (c_X6_own l D cI cS a m x3 v16 h16) gg_RX6_39 hd_X6_own (by decide) rfl rfl rfl rfl (Nat.le_of_ble_eq_true rfl) dX6_numberOf_16 (seM_0 cI cS a m) (seM_0 cI cS a m).symm [.int v16] rfl ?_
        refine g_iload_n (pc := 19) C 1 dX6_numberOf_19 rfl ?_
        refine g_icmp_ne (pc := 20) C 27 dX6_numberOf_20 (by decide) (fun (c20 : ¬ v16 = x1) => ?_) (fun (c20 : v16 = x1) => ?_)
        · have hf := k_neg c20 hf
          refine g_iload_n (pc := 27) C 2 dX6_numberOf_27 rfl ?_
          refine g_istore_n (pc := 28) C [(2, .int x2), (0, .ref a.1), (1, .int x1), (3, .int x3)] dX6_numberOf_28 (by decide) rfl ?_
          refine g_iinc (pc := 29) C 3 (x3 + 1) [(3, .int (x3 + 1)), (2, .int x2), (0, .ref a.1), (1, .int x1)] dX6_numberOf_29 rfl (congrArg (HAdd.hAdd _) (by decide)) (by decide) rfl ?_
          refine g_goto (pc := 32) C 4 dX6_numberOf_32 (by decide) ?_
          refine g_sub [2, 3, 1, 0] (lv' := [(0, .ref a.1), (1, .int x1), (2, .int x2), (3, .int (x3 + 1))]) rfl ?_
          exact ih m x1 x2 (x3 + 1) hf
        · have hf := k_pos c20 hf
          refine g_iload_n (pc := 23) C 3 dX6_numberOf_23 rfl ?_
          refine g_goto (pc := 24) C 28 dX6_numberOf_24 (by decide) ?_
          refine g_istore_n (pc := 28) C [(2, .int x3), (0, .ref a.1), (1, .int x1), (3, .int x3)] dX6_numberOf_28 (by decide) rfl ?_
          refine g_iinc (pc := 29) C 3 (x3 + 1) [(3, .int (x3 + 1)), (2, .int x3), (0, .ref a.1), (1, .int x1)] dX6_numberOf_29 rfl (congrArg (HAdd.hAdd _) (by decide)) (by decide) rfl ?_
          refine g_goto (pc := 32) C 4 dX6_numberOf_32 (by decide) ?_
          refine g_sub [2, 3, 1, 0] (lv' := [(0, .ref a.1), (1, .int x1), (2, .int x3), (3, .int (x3 + 1))]) rfl ?_
          exact ih m x1 x3 (x3 + 1) hf
  rw [M_numberOf] at hf
  refine g_iconst (pc := 0) C (-1) dX6_numberOf_0 (by decide) ?_
  refine g_istore_n (pc := 1) C [(2, .int (-1)), (0, .ref a.1), (1, .int x1)] dX6_numberOf_1 (by decide) rfl ?_
  refine g_iconst (pc := 2) C 0 dX6_numberOf_2 (by decide) ?_
  refine g_istore_n (pc := 3) C [(3, .int 0), (2, .int (-1)), (0, .ref a.1), (1, .int x1)] dX6_numberOf_3 (by decide) rfl ?_
  refine g_sub [2, 3, 1, 0] (lv' := [(0, .ref a.1), (1, .int x1), (2, .int (-1)), (3, .int 0)]) rfl ?_
  exact L4 1000 m x1 (-1) 0 hf
set_option maxHeartbeats 4000000 in
set_option maxRecDepth 100000 in
theorem c_X6_place (l : Launch) (D : va_G) (cI cS : ClassId) (a : aM) (m : MD) (out : Int32) (hf : M_place m = some out) : kM l D (kTy cI cS) yX6_place ct_X6_place rm_X6_place [.ref a.1] [wM cI cS a m] (kEq (some (.int out)) [wM cI cS a m]) := by
  refine k_methodE cX6_place 1 (some .int) RX6 rfl [(0, .ref a.1)] rfl (by decide +kernel) (Nat.le_of_ble_eq_true rfl) (fun κ A hla C => ?_)
  refine g_chunks (flM cI cS a m).symm ?_
  rw [M_place] at hf
  refine g_aload_n (pc := 0) C 0 dX6_place_0 rfl ?_
  refine g_aload_n (pc := 1) C 0 dX6_place_1 rfl ?_
  refine gf_RX6_7 (pc := 2) C 0 rfl dX6_place_2 ?_
  refine g_iconst (pc := 5) C 2 dX6_place_5 (by decide) ?_
  refine g_iald (pc := 6) C 1 0 rfl rfl (by decide) dX6_place_6 ?_
  obtain ⟨v7, h7, hf⟩ := Option.bind_eq_some_iff.mp hf
  refine g_callV' (pc := 7) hla C (c_X6_numberOf l D cI cS a m (m.1 (ix 2)) v7 h7) gg_RX6_43 hd_X6_numberOf (by decide) rfl rfl rfl rfl (Nat.le_of_ble_eq_true rfl) dX6_place_7 (seM_0 cI cS a m) (seM_0 cI cS a m).symm [.int v7] rfl ?_
  have e := Option.some.inj hf; subst e
  exact g_ri (pc := 10) C rfl (flM cI cS a m) dX6_place_10
set_option maxHeartbeats 4000000 in
set_option maxRecDepth 100000 in
theorem c_X6_end (l : Launch) (D : va_G) (cI cS : ClassId) (a : aM) (m : MD) (x1 : Int32) (out : Int32) (hf : M_end m x1 = some out) : kM l D (kTy cI cS) yX6_end ct_X6_end rm_X6_end [.ref a.1, .int x1] [wM cI cS a m] (kEq (some (.int out)) [wM cI cS a m]) := by
  refine k_methodE cX6_end 3 (some .int) RX6 rfl [(0, .ref a.1), (1, .int x1)] rfl (by decide +kernel) (Nat.le_of_ble_eq_true rfl) (fun κ A hla C => ?_)
  refine g_chunks (flM cI cS a m).symm ?_
  have L4 : ∀ (fu : Nat) (m : MD) (x1 : Int32) (x2 : Int32), M_end_L4 fu m x1 x2 = some out → kG κ D A 3 0 0 (kF κ D A (some (.int out)) [wM cI cS a m]) (csM cI cS a m) [(0, .ref a.1), (1, .int x1), (2, .int x2)] 4 [] := by
    intro fu; induction fu with
    | zero => intro m x1 x2 hf; rw [M_end_L4] at hf; cases hf
    | succ fu ih =>
      intro m x1 x2 hf; rw [M_end_L4] at hf
      refine g_iload_n (pc := 4) C 2 dX6_end_4 rfl ?_
      refine g_aload_n (pc := 5) C 0 dX6_end_5 rfl ?_
      refine gf_RX6_7 (pc := 6) C 0 rfl dX6_end_6 ?_
      refine g_iconst (pc := 9) C 0 dX6_end_9 (by decide) ?_
      refine g_iald (pc := 10) C 1 0 rfl rfl (by decide) dX6_end_10 ?_
      refine g_icmp_ge (pc := 11) C 33 dX6_end_11 (by decide) (fun (c11 : (m.1 (ix 0)) ≤ x2) => ?_) (fun (c11 : ¬ (m.1 (ix 0)) ≤ x2) => ?_)
      · have hf := k_pos c11 hf
        refine g_iload_n (pc := 33) C 2 dX6_end_33 rfl ?_
        have e := Option.some.inj hf; subst e
        exact g_ri (pc := 34) C rfl (flM cI cS a m) dX6_end_34
      · have hf := k_neg c11 hf
        refine g_aload_n (pc := 14) C 0 dX6_end_14 rfl ?_
        refine g_iload_n (pc := 15) C 2 dX6_end_15 rfl ?_
        obtain ⟨v16, h16, hf⟩ := Option.bind_eq_some_iff.mp hf
        refine g_callV' (pc := 16) hla C (c_X6_deep l D cI cS a m x2 v16 h16) gg_RX6_46 hd_X6_deep (by decide) rfl rfl rfl rfl (Nat.le_of_ble_eq_true rfl) dX6_end_16 (seM_0 cI cS a m) (seM_0 cI cS a m).symm [.int v16] rfl ?_
        refine g_aload_n (pc := 19) C 0 dX6_end_19 rfl ?_
        refine g_iload_n (pc := 20) C 1 dX6_end_20 rfl ?_
        obtain ⟨v21, h21, hf⟩ := Option.bind_eq_some_iff.mp hf
        refine g_callV' (pc := 21) hla C (c_X6_deep l D cI cS a m x1 v21 h21) gg_RX6_46 hd_X6_deep (by decide) rfl rfl rfl rfl (Nat.le_of_ble_eq_true rfl) dX6_end_21 (seM_0 cI cS a m) (seM_0 cI cS a m).symm [.int v21, .int v16] rfl ?_
        refine g_icmp_le (pc := 24) C 33 dX6_end_24 (by decide) (fun (c24 : v16 ≤ v21) => ?_) (fun (c24 : ¬ v16 ≤ v21) => ?_)
        · have hf := k_pos c24 hf
          refine g_iload_n (pc := 33) C 2 dX6_end_33 rfl ?_
          have e := Option.some.inj hf; subst e
          exact g_ri (pc := 34) C rfl (flM cI cS a m) dX6_end_34
        · have hf := k_neg c24 hf
          refine g_iinc (pc := 27) C 2 (x2 + 1) [(2, .int (x2 + 1)), (0, .ref a.1), (1, .int x1)] dX6_end_27 rfl (congrArg (HAdd.hAdd _) (by decide)) (by decide) rfl ?_
          refine g_goto (pc := 30) C 4 dX6_end_30 (by decide) ?_
          refine g_sub [1, 2, 0] (lv' := [(0, .ref a.1), (1, .int x1), (2, .int (x2 + 1))]) rfl ?_
          exact ih m x1 (x2 + 1) hf
  rw [M_end] at hf
  refine g_iload_n (pc := 0) C 1 dX6_end_0 rfl ?_
  refine g_iconst (pc := 1) C 1 dX6_end_1 (by decide) ?_
  refine g_iadd (pc := 2) C dX6_end_2 ?_
  refine g_istore_n (pc := 3) C [(2, .int (x1 + 1)), (0, .ref a.1), (1, .int x1)] dX6_end_3 (by decide) rfl ?_
  refine g_sub [1, 2, 0] (lv' := [(0, .ref a.1), (1, .int x1), (2, .int (x1 + 1))]) rfl ?_
  exact L4 1000 m x1 (x1 + 1) hf
set_option maxHeartbeats 4000000 in
set_option maxRecDepth 100000 in
theorem c_X6_above (l : Launch) (D : va_G) (cI cS : ClassId) (a : aM) (m : MD) (x1 : Int32) (out : Int32) (hf : M_above m x1 = some out) : kM l D (kTy cI cS) yX6_above ct_X6_above rm_X6_above [.ref a.1, .int x1] [wM cI cS a m] (kEq (some (.int out)) [wM cI cS a m]) := by
  refine k_methodE cX6_above 3 (some .int) RX6 rfl [(0, .ref a.1), (1, .int x1)] rfl (by decide +kernel) (Nat.le_of_ble_eq_true rfl) (fun κ A hla C => ?_)
  refine g_chunks (flM cI cS a m).symm ?_
  have L4 : ∀ (fu : Nat) (m : MD) (x1 : Int32) (x2 : Int32), M_above_L4 fu m x1 x2 = some out → kG κ D A 3 0 0 (kF κ D A (some (.int out)) [wM cI cS a m]) (csM cI cS a m) [(0, .ref a.1), (1, .int x1), (2, .int x2)] 4 [] := by
    intro fu; induction fu with
    | zero => intro m x1 x2 hf; rw [M_above_L4] at hf; cases hf
    | succ fu ih =>
      intro m x1 x2 hf; rw [M_above_L4] at hf
      refine g_iload_n (pc := 4) C 2 dX6_above_4 rfl ?_
      refine g_if_lt (pc := 5) C 27 dX6_above_5 (by decide) (fun (c5 : x2 < 0) => ?_) (fun (c5 : ¬ x2 < 0) => ?_)
      · have hf := k_pos c5 hf
        refine g_iload_n (pc := 27) C 2 dX6_above_27 rfl ?_
        have e := Option.some.inj hf; subst e
        exact g_ri (pc := 28) C rfl (flM cI cS a m) dX6_above_28
      · have hf := k_neg c5 hf
        refine g_aload_n (pc := 8) C 0 dX6_above_8 rfl ?_
        refine g_iload_n (pc := 9) C 2 dX6_above_9 rfl ?_
        obtain ⟨v10, h10, hf⟩ := Option.bind_eq_some_iff.mp hf
        refine g_callV' (pc := 10) hla C (c_X6_deep l D cI cS a m x2 v10 h10) gg_RX6_46 hd_X6_deep (by decide) rfl rfl rfl rfl (Nat.le_of_ble_eq_true rfl) dX6_above_10 (seM_0 cI cS a m) (seM_0 cI cS a m).symm [.int v10] rfl ?_
        refine g_aload_n (pc := 13) C 0 dX6_above_13 rfl ?_
        refine g_iload_n (pc := 14) C 1 dX6_above_14 rfl ?_
        obtain ⟨v15, h15, hf⟩ := Option.bind_eq_some_iff.mp hf
        refine g_callV' (pc := 15) hla C (c_X6_deep l D cI cS a m x1 v15 h15) gg_RX6_46 hd_X6_deep (by decide) rfl rfl rfl rfl (Nat.le_of_ble_eq_true rfl) dX6_above_15 (seM_0 cI cS a m) (seM_0 cI cS a m).symm [.int v15, .int v10] rfl ?_
        refine g_icmp_lt (pc := 18) C 27 dX6_above_18 (by decide) (fun (c18 : v10 < v15) => ?_) (fun (c18 : ¬ v10 < v15) => ?_)
        · have hf := k_pos c18 hf
          refine g_iload_n (pc := 27) C 2 dX6_above_27 rfl ?_
          have e := Option.some.inj hf; subst e
          exact g_ri (pc := 28) C rfl (flM cI cS a m) dX6_above_28
        · have hf := k_neg c18 hf
          refine g_iinc (pc := 21) C 2 (x2 + (-1)) [(2, .int (x2 + (-1))), (0, .ref a.1), (1, .int x1)] dX6_above_21 rfl (congrArg (HAdd.hAdd _) (by decide)) (by decide) rfl ?_
          refine g_goto (pc := 24) C 4 dX6_above_24 (by decide) ?_
          refine g_sub [1, 2, 0] (lv' := [(0, .ref a.1), (1, .int x1), (2, .int (x2 + (-1)))]) rfl ?_
          exact ih m x1 (x2 + (-1)) hf
  rw [M_above] at hf
  refine g_iload_n (pc := 0) C 1 dX6_above_0 rfl ?_
  refine g_iconst (pc := 1) C 1 dX6_above_1 (by decide) ?_
  refine g_isub (pc := 2) C dX6_above_2 ?_
  refine g_istore_n (pc := 3) C [(2, .int (x1 - 1)), (0, .ref a.1), (1, .int x1)] dX6_above_3 (by decide) rfl ?_
  refine g_sub [1, 2, 0] (lv' := [(0, .ref a.1), (1, .int x1), (2, .int (x1 - 1))]) rfl ?_
  exact L4 1000 m x1 (x1 - 1) hf
set_option maxHeartbeats 4000000 in
set_option maxRecDepth 100000 in
theorem c_X6_children (l : Launch) (D : va_G) (cI cS : ClassId) (a : aM) (m : MD) (x1 : Int32) (out : Int32) (hf : M_children m x1 = some out) : kM l D (kTy cI cS) yX6_children ct_X6_children rm_X6_children [.ref a.1, .int x1] [wM cI cS a m] (kEq (some (.int out)) [wM cI cS a m]) := by
  refine k_methodE cX6_children 4 (some .int) RX6 rfl [(0, .ref a.1), (1, .int x1)] rfl (by decide +kernel) (Nat.le_of_ble_eq_true rfl) (fun κ A hla C => ?_)
  refine g_chunks (flM cI cS a m).symm ?_
  have L6 : ∀ (fu : Nat) (m : MD) (x1 : Int32) (x2 : Int32) (x3 : Int32), M_children_L6 fu m x1 x2 x3 = some out → kG κ D A 4 0 0 (kF κ D A (some (.int out)) [wM cI cS a m]) (csM cI cS a m) [(0, .ref a.1), (1, .int x1), (2, .int x2), (3, .int x3)] 6 [] := by
    intro fu; induction fu with
    | zero => intro m x1 x2 x3 hf; rw [M_children_L6] at hf; cases hf
    | succ fu ih =>
      intro m x1 x2 x3 hf; rw [M_children_L6] at hf
      refine g_iload_n (pc := 6) C 3 dX6_children_6 rfl ?_
      refine g_aload_n (pc := 7) C 0 dX6_children_7 rfl ?_
      refine g_iload_n (pc := 8) C 1 dX6_children_8 rfl ?_
      obtain ⟨v9, h9, hf⟩ := Option.bind_eq_some_iff.mp hf
      refine g_callV' (pc := 9) hla C (c_X6_end l D cI cS a m x1 v9 h9) gg_RX6_49 hd_X6_end (by decide) rfl rfl rfl rfl (Nat.le_of_ble_eq_true rfl) dX6_children_9 (seM_0 cI cS a m) (seM_0 cI cS a m).symm [.int v9, .int x3] rfl ?_
      refine g_icmp_ge (pc := 12) C 44 dX6_children_12 (by decide) (fun (c12 : v9 ≤ x3) => ?_) (fun (c12 : ¬ v9 ≤ x3) => ?_)
      · have hf := k_pos c12 hf
        refine g_iload_n (pc := 44) C 2 dX6_children_44 rfl ?_
        have e := Option.some.inj hf; subst e
        exact g_ri (pc := 45) C rfl (flM cI cS a m) dX6_children_45
      · have hf := k_neg c12 hf
        refine g_iload_n (pc := 15) C 2 dX6_children_15 rfl ?_
        refine g_aload_n (pc := 16) C 0 dX6_children_16 rfl ?_
        refine g_iload_n (pc := 17) C 3 dX6_children_17 rfl ?_
        obtain ⟨v18, h18, hf⟩ := Option.bind_eq_some_iff.mp hf
        refine g_callV' (pc := 18) hla C (c_X6_deep l D cI cS a m x3 v18 h18) gg_RX6_46 hd_X6_deep (by decide) rfl rfl rfl rfl (Nat.le_of_ble_eq_true rfl) dX6_children_18 (seM_0 cI cS a m) (seM_0 cI cS a m).symm [.int v18, .int x2] rfl ?_
        refine g_aload_n (pc := 21) C 0 dX6_children_21 rfl ?_
        refine g_iload_n (pc := 22) C 1 dX6_children_22 rfl ?_
        obtain ⟨v23, h23, hf⟩ := Option.bind_eq_some_iff.mp hf
        refine g_callV' (pc := 23) hla C (c_X6_deep l D cI cS a m x1 v23 h23) gg_RX6_46 hd_X6_deep (by decide) rfl rfl rfl rfl (Nat.le_of_ble_eq_true rfl) dX6_children_23 (seM_0 cI cS a m) (seM_0 cI cS a m).symm [.int v23, .int v18, .int x2] rfl ?_
        refine g_iconst (pc := 26) C 1 dX6_children_26 (by decide) ?_
        refine g_iadd (pc := 27) C dX6_children_27 ?_
        refine g_icmp_ne (pc := 28) C 35 dX6_children_28 (by decide) (fun (c28 : ¬ v18 = (v23 + 1)) => ?_) (fun (c28 : v18 = (v23 + 1)) => ?_)
        · have hf := k_neg c28 hf
          refine g_iconst (pc := 35) C 0 dX6_children_35 (by decide) ?_
          refine g_iadd (pc := 36) C dX6_children_36 ?_
          refine g_istore_n (pc := 37) C [(2, .int (x2 + 0)), (0, .ref a.1), (1, .int x1), (3, .int x3)] dX6_children_37 (by decide) rfl ?_
          refine g_iinc (pc := 38) C 3 (x3 + 1) [(3, .int (x3 + 1)), (2, .int (x2 + 0)), (0, .ref a.1), (1, .int x1)] dX6_children_38 rfl (congrArg (HAdd.hAdd _) (by decide)) (by decide) rfl ?_
          refine g_goto (pc := 41) C 6 dX6_children_41 (by decide) ?_
          refine g_sub [2, 3, 1, 0] (lv' := [(0, .ref a.1), (1, .int x1), (2, .int (x2 + 0)), (3, .int (x3 + 1))]) rfl ?_
          exact ih m x1 (x2 + 0) (x3 + 1) hf
        · have hf := k_pos c28 hf
          refine g_iconst (pc := 31) C 1 dX6_children_31 (by decide) ?_
          refine g_goto (pc := 32) C 36 dX6_children_32 (by decide) ?_
          refine g_iadd (pc := 36) C dX6_children_36 ?_
          refine g_istore_n (pc := 37) C [(2, .int (x2 + 1)), (0, .ref a.1), (1, .int x1), (3, .int x3)] dX6_children_37 (by decide) rfl ?_
          refine g_iinc (pc := 38) C 3 (x3 + 1) [(3, .int (x3 + 1)), (2, .int (x2 + 1)), (0, .ref a.1), (1, .int x1)] dX6_children_38 rfl (congrArg (HAdd.hAdd _) (by decide)) (by decide) rfl ?_
          refine g_goto (pc := 41) C 6 dX6_children_41 (by decide) ?_
          refine g_sub [2, 3, 1, 0] (lv' := [(0, .ref a.1), (1, .int x1), (2, .int (x2 + 1)), (3, .int (x3 + 1))]) rfl ?_
          exact ih m x1 (x2 + 1) (x3 + 1) hf
  rw [M_children] at hf
  refine g_iconst (pc := 0) C 0 dX6_children_0 (by decide) ?_
  refine g_istore_n (pc := 1) C [(2, .int 0), (0, .ref a.1), (1, .int x1)] dX6_children_1 (by decide) rfl ?_
  refine g_iload_n (pc := 2) C 2 dX6_children_2 rfl ?_
  refine g_iconst (pc := 3) C 1 dX6_children_3 (by decide) ?_
  refine g_iadd (pc := 4) C dX6_children_4 ?_
  refine g_istore_n (pc := 5) C [(3, .int (x1 + 1)), (2, .int 0), (0, .ref a.1), (1, .int x1)] dX6_children_5 (by decide) rfl ?_
  refine g_sub [2, 3, 1, 0] (lv' := [(0, .ref a.1), (1, .int x1), (2, .int 0), (3, .int (x1 + 1))]) rfl ?_
  exact L6 1000 m x1 0 (x1 + 1) hf
set_option maxHeartbeats 4000000 in
set_option maxRecDepth 100000 in
theorem c_X6_childOf (l : Launch) (D : va_G) (cI cS : ClassId) (a : aM) (m : MD) (x1 : Int32) (x2 : Int32) (out : Int32) (hf : M_childOf m x1 x2 = some out) : kM l D (kTy cI cS) yX6_childOf ct_X6_childOf rm_X6_childOf [.ref a.1, .int x1, .int x2] [wM cI cS a m] (kEq (some (.int out)) [wM cI cS a m]) := by
  refine k_methodE cX6_childOf 5 (some .int) RX6 rfl [(0, .ref a.1), (1, .int x1), (2, .int x2)] rfl (by decide +kernel) (Nat.le_of_ble_eq_true rfl) (fun κ A hla C => ?_)
  refine g_chunks (flM cI cS a m).symm ?_
  have L7 : ∀ (fu : Nat) (m : MD) (x2 : Int32) (x3 : Int32) (x4 : Int32), M_childOf_L7 fu m x2 x3 x4 = some out → kG κ D A 5 0 0 (kF κ D A (some (.int out)) [wM cI cS a m]) (csM cI cS a m) [(0, .ref a.1), (2, .int x2), (3, .int x3), (4, .int x4)] 7 [] := by
    intro fu; induction fu with
    | zero => intro m x2 x3 x4 hf; rw [M_childOf_L7] at hf; cases hf
    | succ fu ih =>
      intro m x2 x3 x4 hf; rw [M_childOf_L7] at hf
      refine g_iload (pc := 7) C 3 dX6_childOf_7 rfl ?_
      refine g_iload_n (pc := 9) C 1 dX6_childOf_9 rfl ?_
      refine g_icmp_ge (pc := 10) C 25 dX6_childOf_10 (by decide) (fun (c10 : x2 ≤ x4) => ?_) (fun (c10 : ¬ x2 ≤ x4) => ?_)
      · have hf := k_pos c10 hf
        refine g_iload_n (pc := 25) C 2 dX6_childOf_25 rfl ?_
        have e := Option.some.inj hf; subst e
        exact g_ri (pc := 26) C rfl (flM cI cS a m) dX6_childOf_26
      · have hf := k_neg c10 hf
        refine g_aload_n (pc := 13) C 0 dX6_childOf_13 rfl ?_
        refine g_iload_n (pc := 14) C 2 dX6_childOf_14 rfl ?_
        obtain ⟨v15, h15, hf⟩ := Option.bind_eq_some_iff.mp hf
        refine g_callV' (pc := 15) hla C (c_X6_end l D cI cS a m x3 v15 h15) gg_RX6_49 hd_X6_end (by decide) rfl rfl rfl rfl (Nat.le_of_ble_eq_true rfl) dX6_childOf_15 (seM_0 cI cS a m) (seM_0 cI cS a m).symm [.int v15] rfl ?_
        refine g_istore_n (pc := 18) C [(3, .int v15), (0, .ref a.1), (2, .int x2), (4, .int x4)] dX6_childOf_18 (by decide) rfl ?_
        refine g_iinc (pc := 19) C 3 (x4 + 1) [(4, .int (x4 + 1)), (3, .int v15), (0, .ref a.1), (2, .int x2)] dX6_childOf_19 rfl (congrArg (HAdd.hAdd _) (by decide)) (by decide) rfl ?_
        refine g_goto (pc := 22) C 7 dX6_childOf_22 (by decide) ?_
        refine g_sub [2, 3, 1, 0] (lv' := [(0, .ref a.1), (2, .int x2), (3, .int v15), (4, .int (x4 + 1))]) rfl ?_
        exact ih m x2 v15 (x4 + 1) hf
  rw [M_childOf] at hf
  refine g_iload_n (pc := 0) C 1 dX6_childOf_0 rfl ?_
  refine g_iconst (pc := 1) C 1 dX6_childOf_1 (by decide) ?_
  refine g_iadd (pc := 2) C dX6_childOf_2 ?_
  refine g_istore_n (pc := 3) C [(3, .int (x1 + 1)), (0, .ref a.1), (1, .int x1), (2, .int x2)] dX6_childOf_3 (by decide) rfl ?_
  refine g_iconst (pc := 4) C 0 dX6_childOf_4 (by decide) ?_
  refine g_istore (pc := 5) C [(4, .int 0), (3, .int (x1 + 1)), (0, .ref a.1), (1, .int x1), (2, .int x2)] dX6_childOf_5 (by decide) rfl ?_
  refine g_sub [2, 4, 1, 0] (lv' := [(0, .ref a.1), (2, .int x2), (3, .int (x1 + 1)), (4, .int 0)]) rfl ?_
  exact L7 1000 m x2 (x1 + 1) 0 hf
set_option maxHeartbeats 4000000 in
set_option maxRecDepth 100000 in
theorem c_X6_which (l : Launch) (D : va_G) (cI cS : ClassId) (a : aM) (m : MD) (x1 : Int32) (out : Int32) (hf : M_which m x1 = some out) : kM l D (kTy cI cS) yX6_which ct_X6_which rm_X6_which [.ref a.1, .int x1] [wM cI cS a m] (kEq (some (.int out)) [wM cI cS a m]) := by
  refine k_methodE cX6_which 4 (some .int) RX6 rfl [(0, .ref a.1), (1, .int x1)] rfl (by decide +kernel) (Nat.le_of_ble_eq_true rfl) (fun κ A hla C => ?_)
  refine g_chunks (flM cI cS a m).symm ?_
  have L10 : ∀ (fu : Nat) (m : MD) (x1 : Int32) (x2 : Int32) (x3 : Int32), M_which_L10 fu m x1 x2 x3 = some out → kG κ D A 4 0 0 (kF κ D A (some (.int out)) [wM cI cS a m]) (csM cI cS a m) [(0, .ref a.1), (1, .int x1), (2, .int x2), (3, .int x3)] 10 [] := by
    intro fu; induction fu with
    | zero => intro m x1 x2 x3 hf; rw [M_which_L10] at hf; cases hf
    | succ fu ih =>
      intro m x1 x2 x3 hf; rw [M_which_L10] at hf
      refine g_iload_n (pc := 10) C 3 dX6_which_10 rfl ?_
      refine g_iload_n (pc := 11) C 1 dX6_which_11 rfl ?_
      refine g_icmp_ge (pc := 12) C 42 dX6_which_12 (by decide) (fun (c12 : x1 ≤ x3) => ?_) (fun (c12 : ¬ x1 ≤ x3) => ?_)
      · have hf := k_pos c12 hf
        refine g_iload_n (pc := 42) C 2 dX6_which_42 rfl ?_
        have e := Option.some.inj hf; subst e
        exact g_ri (pc := 43) C rfl (flM cI cS a m) dX6_which_43
      · have hf := k_neg c12 hf
        refine g_iload_n (pc := 15) C 2 dX6_which_15 rfl ?_
        refine g_aload_n (pc := 16) C 0 dX6_which_16 rfl ?_
        refine g_iload_n (pc := 17) C 3 dX6_which_17 rfl ?_
        obtain ⟨v18, h18, hf⟩ := Option.bind_eq_some_iff.mp hf
        refine g_callV' (pc := 18) hla C (c_X6_deep l D cI cS a m x3 v18 h18) gg_RX6_46 hd_X6_deep (by decide) rfl rfl rfl rfl (Nat.le_of_ble_eq_true rfl) dX6_which_18 (seM_0 cI cS a m) (seM_0 cI cS a m).symm [.int v18, .int x2] rfl ?_
        refine g_aload_n (pc := 21) C 0 dX6_which_21 rfl ?_
        refine g_iload_n (pc := 22) C 1 dX6_which_22 rfl ?_
        obtain ⟨v23, h23, hf⟩ := Option.bind_eq_some_iff.mp hf
        refine g_callV' (pc := 23) hla C (c_X6_deep l D cI cS a m x1 v23 h23) gg_RX6_46 hd_X6_deep (by decide) rfl rfl rfl rfl (Nat.le_of_ble_eq_true rfl) dX6_which_23 (seM_0 cI cS a m) (seM_0 cI cS a m).symm [.int v23, .int v18, .int x2] rfl ?_
        refine g_icmp_ne (pc := 26) C 33 dX6_which_26 (by decide) (fun (c26 : ¬ v18 = v23) => ?_) (fun (c26 : v18 = v23) => ?_)
        · have hf := k_neg c26 hf
          refine g_iconst (pc := 33) C 0 dX6_which_33 (by decide) ?_
          refine g_iadd (pc := 34) C dX6_which_34 ?_
          refine g_istore_n (pc := 35) C [(2, .int (x2 + 0)), (0, .ref a.1), (1, .int x1), (3, .int x3)] dX6_which_35 (by decide) rfl ?_
          refine g_iinc (pc := 36) C 3 (x3 + 1) [(3, .int (x3 + 1)), (2, .int (x2 + 0)), (0, .ref a.1), (1, .int x1)] dX6_which_36 rfl (congrArg (HAdd.hAdd _) (by decide)) (by decide) rfl ?_
          refine g_goto (pc := 39) C 10 dX6_which_39 (by decide) ?_
          refine g_sub [2, 3, 1, 0] (lv' := [(0, .ref a.1), (1, .int x1), (2, .int (x2 + 0)), (3, .int (x3 + 1))]) rfl ?_
          exact ih m x1 (x2 + 0) (x3 + 1) hf
        · have hf := k_pos c26 hf
          refine g_iconst (pc := 29) C 1 dX6_which_29 (by decide) ?_
          refine g_goto (pc := 30) C 34 dX6_which_30 (by decide) ?_
          refine g_iadd (pc := 34) C dX6_which_34 ?_
          refine g_istore_n (pc := 35) C [(2, .int (x2 + 1)), (0, .ref a.1), (1, .int x1), (3, .int x3)] dX6_which_35 (by decide) rfl ?_
          refine g_iinc (pc := 36) C 3 (x3 + 1) [(3, .int (x3 + 1)), (2, .int (x2 + 1)), (0, .ref a.1), (1, .int x1)] dX6_which_36 rfl (congrArg (HAdd.hAdd _) (by decide)) (by decide) rfl ?_
          refine g_goto (pc := 39) C 10 dX6_which_39 (by decide) ?_
          refine g_sub [2, 3, 1, 0] (lv' := [(0, .ref a.1), (1, .int x1), (2, .int (x2 + 1)), (3, .int (x3 + 1))]) rfl ?_
          exact ih m x1 (x2 + 1) (x3 + 1) hf
  rw [M_which] at hf
  refine g_iconst (pc := 0) C 0 dX6_which_0 (by decide) ?_
  refine g_istore_n (pc := 1) C [(2, .int 0), (0, .ref a.1), (1, .int x1)] dX6_which_1 (by decide) rfl ?_
  refine g_aload_n (pc := 2) C 1 dX6_which_2 rfl ?_
  refine g_iload_n (pc := 3) C 2 dX6_which_3 rfl ?_
  obtain ⟨v4, h4, hf⟩ := Option.bind_eq_some_iff.mp hf
  refine g_callV' (pc := 4) hla C (c_X6_above l D cI cS a m x1 v4 h4) gg_RX6_52 hd_X6_above (by decide) rfl rfl rfl rfl (Nat.le_of_ble_eq_true rfl) dX6_which_4 (seM_0 cI cS a m) (seM_0 cI cS a m).symm [.int v4] rfl ?_
  refine g_iconst (pc := 7) C 1 dX6_which_7 (by decide) ?_
  refine g_iadd (pc := 8) C dX6_which_8 ?_
  refine g_istore_n (pc := 9) C [(3, .int (v4 + 1)), (2, .int 0), (0, .ref a.1), (1, .int x1)] dX6_which_9 (by decide) rfl ?_
  refine g_sub [2, 3, 1, 0] (lv' := [(0, .ref a.1), (1, .int x1), (2, .int 0), (3, .int (v4 + 1))]) rfl ?_
  exact L10 1000 m x1 0 (v4 + 1) hf
set_option maxHeartbeats 4000000 in
set_option maxRecDepth 100000 in
theorem c_X6_besides (l : Launch) (D : va_G) (cI cS : ClassId) (a : aM) (m : MD) (x1 : Int32) (x2 : Int32) (out : Int32) (hf : M_besides m x1 x2 = some out) : kM l D (kTy cI cS) yX6_besides ct_X6_besides rm_X6_besides [.ref a.1, .int x1, .int x2] [wM cI cS a m] (kEq (some (.int out)) [wM cI cS a m]) := by
  refine k_methodE cX6_besides 5 (some .int) RX6 rfl [(0, .ref a.1), (1, .int x1), (2, .int x2)] rfl (by decide +kernel) (Nat.le_of_ble_eq_true rfl) (fun κ A hla C => ?_)
  refine g_chunks (flM cI cS a m).symm ?_
  have L50 : ∀ (fu : Nat) (m : MD) (x1 : Int32) (x3 : Int32) (x4 : Int32), M_besides_L50 fu m x1 x3 x4 = some out → kG κ D A 5 0 0 (kF κ D A (some (.int out)) [wM cI cS a m]) (csM cI cS a m) [(0, .ref a.1), (1, .int x1), (3, .int x3), (4, .int x4)] 50 [] := by
    intro fu; induction fu with
    | zero => intro m x1 x3 x4 hf; rw [M_besides_L50] at hf; cases hf
    | succ fu ih =>
      intro m x1 x3 x4 hf; rw [M_besides_L50] at hf
      refine g_iload (pc := 50) C 3 dX6_besides_50 rfl ?_
      refine g_iload_n (pc := 52) C 1 dX6_besides_52 rfl ?_
      refine g_icmp_ge (pc := 53) C 83 dX6_besides_53 (by decide) (fun (c53 : x1 ≤ x4) => ?_) (fun (c53 : ¬ x1 ≤ x4) => ?_)
      · have hf := k_pos c53 hf
        refine g_iload_n (pc := 83) C 2 dX6_besides_83 rfl ?_
        have e := Option.some.inj hf; subst e
        exact g_ri (pc := 84) C rfl (flM cI cS a m) dX6_besides_84
      · have hf := k_neg c53 hf
        refine g_aload_n (pc := 56) C 0 dX6_besides_56 rfl ?_
        refine g_iload (pc := 57) C 3 dX6_besides_57 rfl ?_
        obtain ⟨v59, h59, hf⟩ := Option.bind_eq_some_iff.mp hf
        refine g_callV' (pc := 59) hla C (c_X6_deep l D cI cS a m x4 v59 h59) gg_RX6_46 hd_X6_deep (by decide) rfl rfl rfl rfl (Nat.le_of_ble_eq_true rfl) dX6_besides_59 (seM_0 cI cS a m) (seM_0 cI cS a m).symm [.int v59] rfl ?_
        refine g_aload_n (pc := 62) C 0 dX6_besides_62 rfl ?_
        refine g_iload_n (pc := 63) C 1 dX6_besides_63 rfl ?_
        obtain ⟨v64, h64, hf⟩ := Option.bind_eq_some_iff.mp hf
        refine g_callV' (pc := 64) hla C (c_X6_deep l D cI cS a m x1 v64 h64) gg_RX6_46 hd_X6_deep (by decide) rfl rfl rfl rfl (Nat.le_of_ble_eq_true rfl) dX6_besides_64 (seM_0 cI cS a m) (seM_0 cI cS a m).symm [.int v64, .int v59] rfl ?_
        refine g_icmp_ne (pc := 67) C 75 dX6_besides_67 (by decide) (fun (c67 : ¬ v59 = v64) => ?_) (fun (c67 : v59 = v64) => ?_)
        · have hf := k_neg c67 hf
          refine g_iload_n (pc := 75) C 2 dX6_besides_75 rfl ?_
          refine g_istore_n (pc := 76) C [(3, .int x3), (0, .ref a.1), (1, .int x1), (4, .int x4)] dX6_besides_76 (by decide) rfl ?_
          refine g_iinc (pc := 77) C 3 (x4 + 1) [(4, .int (x4 + 1)), (3, .int x3), (0, .ref a.1), (1, .int x1)] dX6_besides_77 rfl (congrArg (HAdd.hAdd _) (by decide)) (by decide) rfl ?_
          refine g_goto (pc := 80) C 50 dX6_besides_80 (by decide) ?_
          refine g_sub [2, 3, 1, 0] (lv' := [(0, .ref a.1), (1, .int x1), (3, .int x3), (4, .int (x4 + 1))]) rfl ?_
          exact ih m x1 x3 (x4 + 1) hf
        · have hf := k_pos c67 hf
          refine g_iload (pc := 70) C 3 dX6_besides_70 rfl ?_
          refine g_goto (pc := 72) C 76 dX6_besides_72 (by decide) ?_
          refine g_istore_n (pc := 76) C [(3, .int x4), (0, .ref a.1), (1, .int x1), (4, .int x4)] dX6_besides_76 (by decide) rfl ?_
          refine g_iinc (pc := 77) C 3 (x4 + 1) [(4, .int (x4 + 1)), (3, .int x4), (0, .ref a.1), (1, .int x1)] dX6_besides_77 rfl (congrArg (HAdd.hAdd _) (by decide)) (by decide) rfl ?_
          refine g_goto (pc := 80) C 50 dX6_besides_80 (by decide) ?_
          refine g_sub [2, 3, 1, 0] (lv' := [(0, .ref a.1), (1, .int x1), (3, .int x4), (4, .int (x4 + 1))]) rfl ?_
          exact ih m x1 x4 (x4 + 1) hf
  rw [M_besides] at hf
  refine g_iload_n (pc := 0) C 2 dX6_besides_0 rfl ?_
  refine g_if_eq (pc := 1) C 39 dX6_besides_1 (by decide) (fun (c1 : x2 = 0) => ?_) (fun (c1 : ¬ x2 = 0) => ?_)
  · have hf := k_pos c1 hf
    refine g_iconst (pc := 39) C (-1) dX6_besides_39 (by decide) ?_
    refine g_istore_n (pc := 40) C [(3, .int (-1)), (0, .ref a.1), (1, .int x1), (2, .int x2)] dX6_besides_40 (by decide) rfl ?_
    refine g_aload_n (pc := 41) C 1 dX6_besides_41 rfl ?_
    refine g_iload_n (pc := 42) C 2 dX6_besides_42 rfl ?_
    obtain ⟨v43, h43, hf⟩ := Option.bind_eq_some_iff.mp hf
    refine g_callV' (pc := 43) hla C (c_X6_above l D cI cS a m x1 v43 h43) gg_RX6_52 hd_X6_above (by decide) rfl rfl rfl rfl (Nat.le_of_ble_eq_true rfl) dX6_besides_43 (seM_0 cI cS a m) (seM_0 cI cS a m).symm [.int v43] rfl ?_
    refine g_iconst (pc := 46) C 1 dX6_besides_46 (by decide) ?_
    refine g_iadd (pc := 47) C dX6_besides_47 ?_
    refine g_istore (pc := 48) C [(4, .int (v43 + 1)), (3, .int (-1)), (0, .ref a.1), (1, .int x1), (2, .int x2)] dX6_besides_48 (by decide) rfl ?_
    refine g_sub [2, 3, 1, 0] (lv' := [(0, .ref a.1), (1, .int x1), (3, .int (-1)), (4, .int (v43 + 1))]) rfl ?_
    exact L50 1000 m x1 (-1) (v43 + 1) hf
  · have hf := k_neg c1 hf
    refine g_aload_n (pc := 4) C 0 dX6_besides_4 rfl ?_
    refine g_iload_n (pc := 5) C 1 dX6_besides_5 rfl ?_
    obtain ⟨v6, h6, hf⟩ := Option.bind_eq_some_iff.mp hf
    refine g_callV' (pc := 6) hla C (c_X6_end l D cI cS a m x1 v6 h6) gg_RX6_49 hd_X6_end (by decide) rfl rfl rfl rfl (Nat.le_of_ble_eq_true rfl) dX6_besides_6 (seM_0 cI cS a m) (seM_0 cI cS a m).symm [.int v6] rfl ?_
    refine g_istore_n (pc := 9) C [(3, .int v6), (0, .ref a.1), (1, .int x1), (2, .int x2)] dX6_besides_9 (by decide) rfl ?_
    refine g_iload_n (pc := 10) C 0 dX6_besides_10 rfl ?_
    refine g_aload_n (pc := 11) C 1 dX6_besides_11 rfl ?_
    refine gf_RX6_7 (pc := 12) C 0 rfl dX6_besides_12 ?_
    refine g_iconst (pc := 15) C 0 dX6_besides_15 (by decide) ?_
    refine g_iald (pc := 16) C 1 0 rfl rfl (by decide) dX6_besides_16 ?_
    refine g_icmp_ge (pc := 17) C 37 dX6_besides_17 (by decide) (fun (c17 : (m.1 (ix 0)) ≤ v6) => ?_) (fun (c17 : ¬ (m.1 (ix 0)) ≤ v6) => ?_)
    · have hf := k_pos c17 hf
      refine g_iconst (pc := 37) C (-1) dX6_besides_37 (by decide) ?_
      have e := Option.some.inj hf; subst e
      exact g_ri (pc := 38) C rfl (flM cI cS a m) dX6_besides_38
    · have hf := k_neg c17 hf
      refine g_aload_n (pc := 20) C 1 dX6_besides_20 rfl ?_
      refine g_iload_n (pc := 21) C 0 dX6_besides_21 rfl ?_
      obtain ⟨v22, h22, hf⟩ := Option.bind_eq_some_iff.mp hf
      refine g_callV' (pc := 22) hla C (c_X6_deep l D cI cS a m v6 v22 h22) gg_RX6_46 hd_X6_deep (by decide) rfl rfl rfl rfl (Nat.le_of_ble_eq_true rfl) dX6_besides_22 (seM_0 cI cS a m) (seM_0 cI cS a m).symm [.int v22] rfl ?_
      refine g_aload_n (pc := 25) C 1 dX6_besides_25 rfl ?_
      refine g_iload_n (pc := 26) C 2 dX6_besides_26 rfl ?_
      obtain ⟨v27, h27, hf⟩ := Option.bind_eq_some_iff.mp hf
      refine g_callV' (pc := 27) hla C (c_X6_deep l D cI cS a m x1 v27 h27) gg_RX6_46 hd_X6_deep (by decide) rfl rfl rfl rfl (Nat.le_of_ble_eq_true rfl) dX6_besides_27 (seM_0 cI cS a m) (seM_0 cI cS a m).symm [.int v27, .int v22] rfl ?_
      refine g_icmp_ne (pc := 30) C 37 dX6_besides_30 (by decide) (fun (c30 : ¬ v22 = v27) => ?_) (fun (c30 : v22 = v27) => ?_)
      · have hf := k_neg c30 hf
        refine g_iconst (pc := 37) C (-1) dX6_besides_37 (by decide) ?_
        have e := Option.some.inj hf; subst e
        exact g_ri (pc := 38) C rfl (flM cI cS a m) dX6_besides_38
      · have hf := k_pos c30 hf
        refine g_iload_n (pc := 33) C 0 dX6_besides_33 rfl ?_
        refine g_goto (pc := 34) C 38 dX6_besides_34 (by decide) ?_
        have e := Option.some.inj hf; subst e
        exact g_ri (pc := 38) C rfl (flM cI cS a m) dX6_besides_38
set_option maxHeartbeats 4000000 in
set_option maxRecDepth 100000 in
theorem c_X6_height (l : Launch) (D : va_G) (cI cS : ClassId) (a : aM) (m : MD) (x1 : Int32) (out : Int32) (hf : M_height m x1 = some out) : kM l D (kTy cI cS) yX6_height ct_X6_height rm_X6_height [.ref a.1, .int x1] [wM cI cS a m] (kEq (some (.int out)) [wM cI cS a m]) := by
  refine k_methodE cX6_height 4 (some .int) RX6 rfl [(0, .ref a.1), (1, .int x1)] rfl (by decide +kernel) (Nat.le_of_ble_eq_true rfl) (fun κ A hla C => ?_)
  refine g_chunks (flM cI cS a m).symm ?_
  have L4 : ∀ (fu : Nat) (m : MD) (x1 : Int32) (x2 : Int32) (x3 : Int32), M_height_L4 fu m x1 x2 x3 = some out → kG κ D A 4 0 0 (kF κ D A (some (.int out)) [wM cI cS a m]) (csM cI cS a m) [(0, .ref a.1), (1, .int x1), (2, .int x2), (3, .int x3)] 4 [] := by
    intro fu; induction fu with
    | zero => intro m x1 x2 x3 hf; rw [M_height_L4] at hf; cases hf
    | succ fu ih =>
      intro m x1 x2 x3 hf; rw [M_height_L4] at hf
      refine g_iload_n (pc := 4) C 3 dX6_height_4 rfl ?_
      refine g_aload_n (pc := 5) C 0 dX6_height_5 rfl ?_
      refine g_iload_n (pc := 6) C 1 dX6_height_6 rfl ?_
      obtain ⟨v7, h7, hf⟩ := Option.bind_eq_some_iff.mp hf
      refine g_callV' (pc := 7) hla C (c_X6_end l D cI cS a m x1 v7 h7) gg_RX6_49 hd_X6_end (by decide) rfl rfl rfl rfl (Nat.le_of_ble_eq_true rfl) dX6_height_7 (seM_0 cI cS a m) (seM_0 cI cS a m).symm [.int v7, .int x3] rfl ?_
      refine g_icmp_ge (pc := 10) C 50 dX6_height_10 (by decide) (fun (c10 : v7 ≤ x3) => ?_) (fun (c10 : ¬ v7 ≤ x3) => ?_)
      · have hf := k_pos c10 hf
        refine g_iload_n (pc := 50) C 2 dX6_height_50 rfl ?_
        have e := Option.some.inj hf; subst e
        exact g_ri (pc := 51) C rfl (flM cI cS a m) dX6_height_51
      · have hf := k_neg c10 hf
        refine g_aload_n (pc := 13) C 0 dX6_height_13 rfl ?_
        refine g_iload_n (pc := 14) C 3 dX6_height_14 rfl ?_
        obtain ⟨v15, h15, hf⟩ := Option.bind_eq_some_iff.mp hf
        refine g_callV' (pc := 15) hla C (c_X6_deep l D cI cS a m x3 v15 h15) gg_RX6_46 hd_X6_deep (by decide) rfl rfl rfl rfl (Nat.le_of_ble_eq_true rfl) dX6_height_15 (seM_0 cI cS a m) (seM_0 cI cS a m).symm [.int v15] rfl ?_
        refine g_aload_n (pc := 18) C 0 dX6_height_18 rfl ?_
        refine g_iload_n (pc := 19) C 1 dX6_height_19 rfl ?_
        obtain ⟨v20, h20, hf⟩ := Option.bind_eq_some_iff.mp hf
        refine g_callV' (pc := 20) hla C (c_X6_deep l D cI cS a m x1 v20 h20) gg_RX6_46 hd_X6_deep (by decide) rfl rfl rfl rfl (Nat.le_of_ble_eq_true rfl) dX6_height_20 (seM_0 cI cS a m) (seM_0 cI cS a m).symm [.int v20, .int v15] rfl ?_
        refine g_isub (pc := 23) C dX6_height_23 ?_
        refine g_iload_n (pc := 24) C 2 dX6_height_24 rfl ?_
        refine g_icmp_le (pc := 25) C 42 dX6_height_25 (by decide) (fun (c25 : (v15 - v20) ≤ x2) => ?_) (fun (c25 : ¬ (v15 - v20) ≤ x2) => ?_)
        · have hf := k_pos c25 hf
          refine g_iload_n (pc := 42) C 2 dX6_height_42 rfl ?_
          refine g_istore_n (pc := 43) C [(2, .int x2), (0, .ref a.1), (1, .int x1), (3, .int x3)] dX6_height_43 (by decide) rfl ?_
          refine g_iinc (pc := 44) C 3 (x3 + 1) [(3, .int (x3 + 1)), (2, .int x2), (0, .ref a.1), (1, .int x1)] dX6_height_44 rfl (congrArg (HAdd.hAdd _) (by decide)) (by decide) rfl ?_
          refine g_goto (pc := 47) C 4 dX6_height_47 (by decide) ?_
          refine g_sub [2, 3, 1, 0] (lv' := [(0, .ref a.1), (1, .int x1), (2, .int x2), (3, .int (x3 + 1))]) rfl ?_
          exact ih m x1 x2 (x3 + 1) hf
        · have hf := k_neg c25 hf
          refine g_aload_n (pc := 28) C 0 dX6_height_28 rfl ?_
          refine g_iload_n (pc := 29) C 3 dX6_height_29 rfl ?_
          obtain ⟨v30, h30, hf⟩ := Option.bind_eq_some_iff.mp hf
          refine g_callV' (pc := 30) hla C (c_X6_deep l D cI cS a m x3 v30 h30) gg_RX6_46 hd_X6_deep (by decide) rfl rfl rfl rfl (Nat.le_of_ble_eq_true rfl) dX6_height_30 (seM_0 cI cS a m) (seM_0 cI cS a m).symm [.int v30] rfl ?_
          refine g_aload_n (pc := 33) C 0 dX6_height_33 rfl ?_
          refine g_iload_n (pc := 34) C 1 dX6_height_34 rfl ?_
          obtain ⟨v35, h35, hf⟩ := Option.bind_eq_some_iff.mp hf
          refine g_callV' (pc := 35) hla C (c_X6_deep l D cI cS a m x1 v35 h35) gg_RX6_46 hd_X6_deep (by decide) rfl rfl rfl rfl (Nat.le_of_ble_eq_true rfl) dX6_height_35 (seM_0 cI cS a m) (seM_0 cI cS a m).symm [.int v35, .int v30] rfl ?_
          refine g_isub (pc := 38) C dX6_height_38 ?_
          refine g_goto (pc := 39) C 43 dX6_height_39 (by decide) ?_
          refine g_istore_n (pc := 43) C [(2, .int (v30 - v35)), (0, .ref a.1), (1, .int x1), (3, .int x3)] dX6_height_43 (by decide) rfl ?_
          refine g_iinc (pc := 44) C 3 (x3 + 1) [(3, .int (x3 + 1)), (2, .int (v30 - v35)), (0, .ref a.1), (1, .int x1)] dX6_height_44 rfl (congrArg (HAdd.hAdd _) (by decide)) (by decide) rfl ?_
          refine g_goto (pc := 47) C 4 dX6_height_47 (by decide) ?_
          refine g_sub [2, 3, 1, 0] (lv' := [(0, .ref a.1), (1, .int x1), (2, .int (v30 - v35)), (3, .int (x3 + 1))]) rfl ?_
          exact ih m x1 (v30 - v35) (x3 + 1) hf
  rw [M_height] at hf
  refine g_iconst (pc := 0) C 0 dX6_height_0 (by decide) ?_
  refine g_istore_n (pc := 1) C [(2, .int 0), (0, .ref a.1), (1, .int x1)] dX6_height_1 (by decide) rfl ?_
  refine g_iload_n (pc := 2) C 2 dX6_height_2 rfl ?_
  refine g_istore_n (pc := 3) C [(3, .int x1), (2, .int 0), (0, .ref a.1), (1, .int x1)] dX6_height_3 (by decide) rfl ?_
  refine g_sub [2, 3, 1, 0] (lv' := [(0, .ref a.1), (1, .int x1), (2, .int 0), (3, .int x1)]) rfl ?_
  exact L4 1000 m x1 0 x1 hf
set_option maxHeartbeats 4000000 in
set_option maxRecDepth 100000 in
theorem c_X6_opens (l : Launch) (D : va_G) (cI cS : ClassId) (a : aM) (m : MD) (x1 : Int32) (x2 : Int32) (out : MD) (hf : M_opens m x1 x2 = some out) : kM l D (kTy cI cS) yX6_opens ct_X6_opens rm_X6_opens [.ref a.1, .int x1, .int x2] [wM cI cS a m] (kEq (none) [wM cI cS a out]) := by
  refine k_methodE cX6_opens 4 none RX6 rfl [(0, .ref a.1), (1, .int x1), (2, .int x2)] rfl (by decide +kernel) (Nat.le_of_ble_eq_true rfl) (fun κ A hla C => ?_)
  refine g_chunks (flM cI cS a m).symm ?_
  have L11 : ∀ (fu : Nat) (m : MD) (x1 : Int32) (x2 : Int32) (x3 : Int32), M_opens_L11 fu m x1 x2 x3 = some out → kG κ D A 4 0 0 (kF κ D A (none) [wM cI cS a out]) (csM cI cS a m) [(0, .ref a.1), (1, .int x1), (2, .int x2), (3, .int x3)] 11 [] := by
    intro fu; induction fu with
    | zero => intro m x1 x2 x3 hf; rw [M_opens_L11] at hf; cases hf
    | succ fu ih =>
      intro m x1 x2 x3 hf; rw [M_opens_L11] at hf
      refine g_iload_n (pc := 11) C 3 dX6_opens_11 rfl ?_
      refine g_iconst (pc := 12) C 3 dX6_opens_12 (by decide) ?_
      refine g_iload_n (pc := 13) C 1 dX6_opens_13 rfl ?_
      refine g_imul (pc := 14) C dX6_opens_14 ?_
      refine g_icmp_lt (pc := 15) C 46 dX6_opens_15 (by decide) (fun (c15 : x3 < (3 * x1)) => ?_) (fun (c15 : ¬ x3 < (3 * x1)) => ?_)
      · have hf := k_pos c15 hf
        refine g_aload_n (pc := 46) C 0 dX6_opens_46 rfl ?_
        refine gf_RX6_7 (pc := 47) C 0 rfl dX6_opens_47 ?_
        refine g_iconst (pc := 50) C 0 dX6_opens_50 (by decide) ?_
        refine g_dup2 (pc := 51) C dX6_opens_51 rfl rfl ?_
        refine g_iald (pc := 52) C 1 0 rfl rfl (by decide) dX6_opens_52 ?_
        refine g_iload_n (pc := 53) C 2 dX6_opens_53 rfl ?_
        refine g_iadd (pc := 54) C dX6_opens_54 ?_
        refine g_iast (pc := 55) C 1 0 (csM cI cS a ((upd m.1 (ix 0) ((m.1 (ix 0)) + x2)), m.2.1, m.2.2.1, m.2.2.2.1, m.2.2.2.2.1, m.2.2.2.2.2.1, m.2.2.2.2.2.2.1, m.2.2.2.2.2.2.2.1, m.2.2.2.2.2.2.2.2.1, m.2.2.2.2.2.2.2.2.2.1, m.2.2.2.2.2.2.2.2.2.2.1, m.2.2.2.2.2.2.2.2.2.2.2)) rfl rfl (by decide) rfl dX6_opens_55 ?_
        have e := Option.some.inj hf; subst e
        exact g_rv (pc := 56) C rfl (flM cI cS a ((upd m.1 (ix 0) ((m.1 (ix 0)) + x2)), m.2.1, m.2.2.1, m.2.2.2.1, m.2.2.2.2.1, m.2.2.2.2.2.1, m.2.2.2.2.2.2.1, m.2.2.2.2.2.2.2.1, m.2.2.2.2.2.2.2.2.1, m.2.2.2.2.2.2.2.2.2.1, m.2.2.2.2.2.2.2.2.2.2.1, m.2.2.2.2.2.2.2.2.2.2.2)) dX6_opens_56
      · have hf := k_neg c15 hf
        refine g_aload_n (pc := 18) C 0 dX6_opens_18 rfl ?_
        refine gf_RX6_7 (pc := 19) C 0 rfl dX6_opens_19 ?_
        refine g_bipush (pc := 22) C 18 dX6_opens_22 (by decide) ?_
        refine g_iload_n (pc := 24) C 3 dX6_opens_24 rfl ?_
        refine g_iadd (pc := 25) C dX6_opens_25 ?_
        refine g_iconst (pc := 26) C 3 dX6_opens_26 (by decide) ?_
        refine g_iload_n (pc := 27) C 2 dX6_opens_27 rfl ?_
        refine g_imul (pc := 28) C dX6_opens_28 ?_
        refine g_iadd (pc := 29) C dX6_opens_29 ?_
        refine g_aload_n (pc := 30) C 0 dX6_opens_30 rfl ?_
        refine gf_RX6_7 (pc := 31) C 0 rfl dX6_opens_31 ?_
        refine g_bipush (pc := 34) C 18 dX6_opens_34 (by decide) ?_
        refine g_iload_n (pc := 36) C 3 dX6_opens_36 rfl ?_
        refine g_iadd (pc := 37) C dX6_opens_37 ?_
        obtain ⟨g38, hf⟩ := k_guard hf
        refine g_iald (pc := 38) C 1 0 rfl rfl g38 dX6_opens_38 ?_
        obtain ⟨g39, hf⟩ := k_guard hf
        refine g_iast (pc := 39) C 1 0 (csM cI cS a ((upd m.1 (ix ((18 + x3) + (3 * x2))) (m.1 (ix (18 + x3)))), m.2.1, m.2.2.1, m.2.2.2.1, m.2.2.2.2.1, m.2.2.2.2.2.1, m.2.2.2.2.2.2.1, m.2.2.2.2.2.2.2.1, m.2.2.2.2.2.2.2.2.1, m.2.2.2.2.2.2.2.2.2.1, m.2.2.2.2.2.2.2.2.2.2.1, m.2.2.2.2.2.2.2.2.2.2.2)) rfl rfl g39 rfl dX6_opens_39 ?_
        refine g_iinc (pc := 40) C 3 (x3 + (-1)) [(3, .int (x3 + (-1))), (0, .ref a.1), (1, .int x1), (2, .int x2)] dX6_opens_40 rfl (congrArg (HAdd.hAdd _) (by decide)) (by decide) rfl ?_
        refine g_goto (pc := 43) C 11 dX6_opens_43 (by decide) ?_
        refine g_sub [1, 2, 3, 0] (lv' := [(0, .ref a.1), (1, .int x1), (2, .int x2), (3, .int (x3 + (-1)))]) rfl ?_
        exact ih ((upd m.1 (ix ((18 + x3) + (3 * x2))) (m.1 (ix (18 + x3)))), m.2.1, m.2.2.1, m.2.2.2.1, m.2.2.2.2.1, m.2.2.2.2.2.1, m.2.2.2.2.2.2.1, m.2.2.2.2.2.2.2.1, m.2.2.2.2.2.2.2.2.1, m.2.2.2.2.2.2.2.2.2.1, m.2.2.2.2.2.2.2.2.2.2.1, m.2.2.2.2.2.2.2.2.2.2.2) x1 x2 (x3 + (-1)) hf
  rw [M_opens] at hf
  refine g_iconst (pc := 0) C 3 dX6_opens_0 (by decide) ?_
  refine g_aload_n (pc := 1) C 0 dX6_opens_1 rfl ?_
  refine gf_RX6_7 (pc := 2) C 0 rfl dX6_opens_2 ?_
  refine g_iconst (pc := 5) C 0 dX6_opens_5 (by decide) ?_
  refine g_iald (pc := 6) C 1 0 rfl rfl (by decide) dX6_opens_6 ?_
  refine g_imul (pc := 7) C dX6_opens_7 ?_
  refine g_iconst (pc := 8) C 1 dX6_opens_8 (by decide) ?_
  refine g_isub (pc := 9) C dX6_opens_9 ?_
  refine g_istore_n (pc := 10) C [(3, .int ((3 * (m.1 (ix 0))) - 1)), (0, .ref a.1), (1, .int x1), (2, .int x2)] dX6_opens_10 (by decide) rfl ?_
  refine g_sub [1, 2, 3, 0] (lv' := [(0, .ref a.1), (1, .int x1), (2, .int x2), (3, .int ((3 * (m.1 (ix 0))) - 1))]) rfl ?_
  exact L11 1000 m x1 x2 ((3 * (m.1 (ix 0))) - 1) hf
set_option maxHeartbeats 4000000 in
set_option maxRecDepth 100000 in
theorem c_X6_closes (l : Launch) (D : va_G) (cI cS : ClassId) (a : aM) (m : MD) (x1 : Int32) (x2 : Int32) (out : MD) (hf : M_closes m x1 x2 = some out) : kM l D (kTy cI cS) yX6_closes ct_X6_closes rm_X6_closes [.ref a.1, .int x1, .int x2] [wM cI cS a m] (kEq (none) [wM cI cS a out]) := by
  refine k_methodE cX6_closes 4 none RX6 rfl [(0, .ref a.1), (1, .int x1), (2, .int x2)] rfl (by decide +kernel) (Nat.le_of_ble_eq_true rfl) (fun κ A hla C => ?_)
  refine g_chunks (flM cI cS a m).symm ?_
  have L14 : ∀ (fu : Nat) (m : MD) (x2 : Int32) (x3 : Int32), M_closes_L14 fu m x2 x3 = some out → kG κ D A 4 0 0 (kF κ D A (none) [wM cI cS a out]) (csM cI cS a m) [(0, .ref a.1), (2, .int x2), (3, .int x3)] 14 [] := by
    intro fu; induction fu with
    | zero => intro m x2 x3 hf; rw [M_closes_L14] at hf; cases hf
    | succ fu ih =>
      intro m x2 x3 hf; rw [M_closes_L14] at hf
      refine g_iload_n (pc := 14) C 2 dX6_closes_14 rfl ?_
      refine g_iconst (pc := 15) C 3 dX6_closes_15 (by decide) ?_
      refine g_aload_n (pc := 16) C 0 dX6_closes_16 rfl ?_
      refine gf_RX6_7 (pc := 17) C 0 rfl dX6_closes_17 ?_
      refine g_iconst (pc := 20) C 0 dX6_closes_20 (by decide) ?_
      refine g_iald (pc := 21) C 1 0 rfl rfl (by decide) dX6_closes_21 ?_
      refine g_imul (pc := 22) C dX6_closes_22 ?_
      refine g_icmp_ge (pc := 23) C 54 dX6_closes_23 (by decide) (fun (c23 : (3 * (m.1 (ix 0))) ≤ x3) => ?_) (fun (c23 : ¬ (3 * (m.1 (ix 0))) ≤ x3) => ?_)
      · have hf := k_pos c23 hf
        have e := Option.some.inj hf; subst e
        exact g_rv (pc := 54) C rfl (flM cI cS a m) dX6_closes_54
      · have hf := k_neg c23 hf
        refine g_aload_n (pc := 26) C 0 dX6_closes_26 rfl ?_
        refine gf_RX6_7 (pc := 27) C 0 rfl dX6_closes_27 ?_
        refine g_bipush (pc := 30) C 18 dX6_closes_30 (by decide) ?_
        refine g_iload_n (pc := 32) C 2 dX6_closes_32 rfl ?_
        refine g_iadd (pc := 33) C dX6_closes_33 ?_
        refine g_aload_n (pc := 34) C 0 dX6_closes_34 rfl ?_
        refine gf_RX6_7 (pc := 35) C 0 rfl dX6_closes_35 ?_
        refine g_bipush (pc := 38) C 18 dX6_closes_38 (by decide) ?_
        refine g_iload_n (pc := 40) C 2 dX6_closes_40 rfl ?_
        refine g_iadd (pc := 41) C dX6_closes_41 ?_
        refine g_iconst (pc := 42) C 3 dX6_closes_42 (by decide) ?_
        refine g_iload_n (pc := 43) C 1 dX6_closes_43 rfl ?_
        refine g_imul (pc := 44) C dX6_closes_44 ?_
        refine g_iadd (pc := 45) C dX6_closes_45 ?_
        obtain ⟨g46, hf⟩ := k_guard hf
        refine g_iald (pc := 46) C 1 0 rfl rfl g46 dX6_closes_46 ?_
        obtain ⟨g47, hf⟩ := k_guard hf
        refine g_iast (pc := 47) C 1 0 (csM cI cS a ((upd m.1 (ix (18 + x3)) (m.1 (ix ((18 + x3) + (3 * x2))))), m.2.1, m.2.2.1, m.2.2.2.1, m.2.2.2.2.1, m.2.2.2.2.2.1, m.2.2.2.2.2.2.1, m.2.2.2.2.2.2.2.1, m.2.2.2.2.2.2.2.2.1, m.2.2.2.2.2.2.2.2.2.1, m.2.2.2.2.2.2.2.2.2.2.1, m.2.2.2.2.2.2.2.2.2.2.2)) rfl rfl g47 rfl dX6_closes_47 ?_
        refine g_iinc (pc := 48) C 2 (x3 + 1) [(3, .int (x3 + 1)), (0, .ref a.1), (2, .int x2)] dX6_closes_48 rfl (congrArg (HAdd.hAdd _) (by decide)) (by decide) rfl ?_
        refine g_goto (pc := 51) C 14 dX6_closes_51 (by decide) ?_
        refine g_sub [1, 2, 0] (lv' := [(0, .ref a.1), (2, .int x2), (3, .int (x3 + 1))]) rfl ?_
        exact ih ((upd m.1 (ix (18 + x3)) (m.1 (ix ((18 + x3) + (3 * x2))))), m.2.1, m.2.2.1, m.2.2.2.1, m.2.2.2.2.1, m.2.2.2.2.2.1, m.2.2.2.2.2.2.1, m.2.2.2.2.2.2.2.1, m.2.2.2.2.2.2.2.2.1, m.2.2.2.2.2.2.2.2.2.1, m.2.2.2.2.2.2.2.2.2.2.1, m.2.2.2.2.2.2.2.2.2.2.2) x2 (x3 + 1) hf
  rw [M_closes] at hf
  refine g_aload_n (pc := 0) C 0 dX6_closes_0 rfl ?_
  refine gf_RX6_7 (pc := 1) C 0 rfl dX6_closes_1 ?_
  refine g_iconst (pc := 4) C 0 dX6_closes_4 (by decide) ?_
  refine g_dup2 (pc := 5) C dX6_closes_5 rfl rfl ?_
  refine g_iald (pc := 6) C 1 0 rfl rfl (by decide) dX6_closes_6 ?_
  refine g_iload_n (pc := 7) C 2 dX6_closes_7 rfl ?_
  refine g_isub (pc := 8) C dX6_closes_8 ?_
  refine g_iast (pc := 9) C 1 0 (csM cI cS a ((upd m.1 (ix 0) ((m.1 (ix 0)) - x2)), m.2.1, m.2.2.1, m.2.2.2.1, m.2.2.2.2.1, m.2.2.2.2.2.1, m.2.2.2.2.2.2.1, m.2.2.2.2.2.2.2.1, m.2.2.2.2.2.2.2.2.1, m.2.2.2.2.2.2.2.2.2.1, m.2.2.2.2.2.2.2.2.2.2.1, m.2.2.2.2.2.2.2.2.2.2.2)) rfl rfl (by decide) rfl dX6_closes_9 ?_
  refine g_iconst (pc := 10) C 3 dX6_closes_10 (by decide) ?_
  refine g_iload_n (pc := 11) C 1 dX6_closes_11 rfl ?_
  refine g_imul (pc := 12) C dX6_closes_12 ?_
  refine g_istore_n (pc := 13) C [(3, .int (3 * x1)), (0, .ref a.1), (1, .int x1), (2, .int x2)] dX6_closes_13 (by decide) rfl ?_
  refine g_sub [1, 3, 0] (lv' := [(0, .ref a.1), (2, .int x2), (3, .int (3 * x1))]) rfl ?_
  exact L14 1000 ((upd m.1 (ix 0) ((m.1 (ix 0)) - x2)), m.2.1, m.2.2.1, m.2.2.2.1, m.2.2.2.2.1, m.2.2.2.2.2.1, m.2.2.2.2.2.2.1, m.2.2.2.2.2.2.2.1, m.2.2.2.2.2.2.2.2.1, m.2.2.2.2.2.2.2.2.2.1, m.2.2.2.2.2.2.2.2.2.2.1, m.2.2.2.2.2.2.2.2.2.2.2) x2 (3 * x1) hf
set_option maxHeartbeats 4000000 in
set_option maxRecDepth 100000 in
theorem c_X6_lays (l : Launch) (D : va_G) (cI cS : ClassId) (a : aM) (m : MD) (x1 : Int32) (x2 : Int32) (x3 : Int32) (out : MD) (hf : M_lays m x1 x2 x3 = some out) : kM l D (kTy cI cS) yX6_lays ct_X6_lays rm_X6_lays [.ref a.1, .int x1, .int x2, .int x3] [wM cI cS a m] (kEq (none) [wM cI cS a out]) := by
  refine k_methodE cX6_lays 4 none RX6 rfl [(0, .ref a.1), (1, .int x1), (2, .int x2), (3, .int x3)] rfl (by decide +kernel) (Nat.le_of_ble_eq_true rfl) (fun κ A hla C => ?_)
  refine g_chunks (flM cI cS a m).symm ?_
  rw [M_lays] at hf
  refine g_aload_n (pc := 0) C 0 dX6_lays_0 rfl ?_
  refine gf_RX6_7 (pc := 1) C 0 rfl dX6_lays_1 ?_
  refine g_bipush (pc := 4) C 18 dX6_lays_4 (by decide) ?_
  refine g_iconst (pc := 6) C 3 dX6_lays_6 (by decide) ?_
  refine g_iload_n (pc := 7) C 1 dX6_lays_7 rfl ?_
  refine g_imul (pc := 8) C dX6_lays_8 ?_
  refine g_iadd (pc := 9) C dX6_lays_9 ?_
  refine g_iload_n (pc := 10) C 2 dX6_lays_10 rfl ?_
  obtain ⟨g11, hf⟩ := k_guard hf
  refine g_iast (pc := 11) C 1 0 (csM cI cS a ((upd m.1 (ix (18 + (3 * x1))) x2), m.2.1, m.2.2.1, m.2.2.2.1, m.2.2.2.2.1, m.2.2.2.2.2.1, m.2.2.2.2.2.2.1, m.2.2.2.2.2.2.2.1, m.2.2.2.2.2.2.2.2.1, m.2.2.2.2.2.2.2.2.2.1, m.2.2.2.2.2.2.2.2.2.2.1, m.2.2.2.2.2.2.2.2.2.2.2)) rfl rfl g11 rfl dX6_lays_11 ?_
  refine g_aload_n (pc := 12) C 0 dX6_lays_12 rfl ?_
  refine gf_RX6_7 (pc := 13) C 0 rfl dX6_lays_13 ?_
  refine g_bipush (pc := 16) C 18 dX6_lays_16 (by decide) ?_
  refine g_iconst (pc := 18) C 3 dX6_lays_18 (by decide) ?_
  refine g_iload_n (pc := 19) C 1 dX6_lays_19 rfl ?_
  refine g_imul (pc := 20) C dX6_lays_20 ?_
  refine g_iadd (pc := 21) C dX6_lays_21 ?_
  refine g_iconst (pc := 22) C 1 dX6_lays_22 (by decide) ?_
  refine g_iadd (pc := 23) C dX6_lays_23 ?_
  refine g_iload_n (pc := 24) C 3 dX6_lays_24 rfl ?_
  obtain ⟨g25, hf⟩ := k_guard hf
  refine g_iast (pc := 25) C 1 0 (csM cI cS a ((upd (upd m.1 (ix (18 + (3 * x1))) x2) (ix ((18 + (3 * x1)) + 1)) x3), m.2.1, m.2.2.1, m.2.2.2.1, m.2.2.2.2.1, m.2.2.2.2.2.1, m.2.2.2.2.2.2.1, m.2.2.2.2.2.2.2.1, m.2.2.2.2.2.2.2.2.1, m.2.2.2.2.2.2.2.2.2.1, m.2.2.2.2.2.2.2.2.2.2.1, m.2.2.2.2.2.2.2.2.2.2.2)) rfl rfl g25 rfl dX6_lays_25 ?_
  refine g_aload_n (pc := 26) C 0 dX6_lays_26 rfl ?_
  refine gf_RX6_7 (pc := 27) C 0 rfl dX6_lays_27 ?_
  refine g_bipush (pc := 30) C 18 dX6_lays_30 (by decide) ?_
  refine g_iconst (pc := 32) C 3 dX6_lays_32 (by decide) ?_
  refine g_iload_n (pc := 33) C 1 dX6_lays_33 rfl ?_
  refine g_imul (pc := 34) C dX6_lays_34 ?_
  refine g_iadd (pc := 35) C dX6_lays_35 ?_
  refine g_iconst (pc := 36) C 2 dX6_lays_36 (by decide) ?_
  refine g_iadd (pc := 37) C dX6_lays_37 ?_
  refine g_aload_n (pc := 38) C 0 dX6_lays_38 rfl ?_
  refine gf_RX6_7 (pc := 39) C 0 rfl dX6_lays_39 ?_
  refine g_iconst (pc := 42) C 1 dX6_lays_42 (by decide) ?_
  refine g_iald (pc := 43) C 1 0 rfl rfl (by decide) dX6_lays_43 ?_
  obtain ⟨g44, hf⟩ := k_guard hf
  refine g_iast (pc := 44) C 1 0 (csM cI cS a ((upd (upd (upd m.1 (ix (18 + (3 * x1))) x2) (ix ((18 + (3 * x1)) + 1)) x3) (ix ((18 + (3 * x1)) + 2)) ((upd (upd m.1 (ix (18 + (3 * x1))) x2) (ix ((18 + (3 * x1)) + 1)) x3) (ix 1))), m.2.1, m.2.2.1, m.2.2.2.1, m.2.2.2.2.1, m.2.2.2.2.2.1, m.2.2.2.2.2.2.1, m.2.2.2.2.2.2.2.1, m.2.2.2.2.2.2.2.2.1, m.2.2.2.2.2.2.2.2.2.1, m.2.2.2.2.2.2.2.2.2.2.1, m.2.2.2.2.2.2.2.2.2.2.2)) rfl rfl g44 rfl dX6_lays_44 ?_
  refine g_aload_n (pc := 45) C 0 dX6_lays_45 rfl ?_
  refine gf_RX6_7 (pc := 46) C 0 rfl dX6_lays_46 ?_
  refine g_iconst (pc := 49) C 1 dX6_lays_49 (by decide) ?_
  refine g_dup2 (pc := 50) C dX6_lays_50 rfl rfl ?_
  refine g_iald (pc := 51) C 1 0 rfl rfl (by decide) dX6_lays_51 ?_
  refine g_iconst (pc := 52) C 1 dX6_lays_52 (by decide) ?_
  refine g_iadd (pc := 53) C dX6_lays_53 ?_
  refine g_iast (pc := 54) C 1 0 (csM cI cS a ((upd (upd (upd (upd m.1 (ix (18 + (3 * x1))) x2) (ix ((18 + (3 * x1)) + 1)) x3) (ix ((18 + (3 * x1)) + 2)) ((upd (upd m.1 (ix (18 + (3 * x1))) x2) (ix ((18 + (3 * x1)) + 1)) x3) (ix 1))) (ix 1) (((upd (upd (upd m.1 (ix (18 + (3 * x1))) x2) (ix ((18 + (3 * x1)) + 1)) x3) (ix ((18 + (3 * x1)) + 2)) ((upd (upd m.1 (ix (18 + (3 * x1))) x2) (ix ((18 + (3 * x1)) + 1)) x3) (ix 1))) (ix 1)) + 1)), m.2.1, m.2.2.1, m.2.2.2.1, m.2.2.2.2.1, m.2.2.2.2.2.1, m.2.2.2.2.2.2.1, m.2.2.2.2.2.2.2.1, m.2.2.2.2.2.2.2.2.1, m.2.2.2.2.2.2.2.2.2.1, m.2.2.2.2.2.2.2.2.2.2.1, m.2.2.2.2.2.2.2.2.2.2.2)) rfl rfl (by decide) rfl dX6_lays_54 ?_
  have e := Option.some.inj hf; subst e
  exact g_rv (pc := 55) C rfl (flM cI cS a ((upd (upd (upd (upd m.1 (ix (18 + (3 * x1))) x2) (ix ((18 + (3 * x1)) + 1)) x3) (ix ((18 + (3 * x1)) + 2)) ((upd (upd m.1 (ix (18 + (3 * x1))) x2) (ix ((18 + (3 * x1)) + 1)) x3) (ix 1))) (ix 1) (((upd (upd (upd m.1 (ix (18 + (3 * x1))) x2) (ix ((18 + (3 * x1)) + 1)) x3) (ix ((18 + (3 * x1)) + 2)) ((upd (upd m.1 (ix (18 + (3 * x1))) x2) (ix ((18 + (3 * x1)) + 1)) x3) (ix 1))) (ix 1)) + 1)), m.2.1, m.2.2.1, m.2.2.2.1, m.2.2.2.2.1, m.2.2.2.2.2.1, m.2.2.2.2.2.2.1, m.2.2.2.2.2.2.2.1, m.2.2.2.2.2.2.2.2.1, m.2.2.2.2.2.2.2.2.2.1, m.2.2.2.2.2.2.2.2.2.2.1, m.2.2.2.2.2.2.2.2.2.2.2)) dX6_lays_55
set_option maxHeartbeats 4000000 in
set_option maxRecDepth 100000 in
theorem c_X6_sinks (l : Launch) (D : va_G) (cI cS : ClassId) (a : aM) (m : MD) (x1 : Int32) (x2 : Int32) (x3 : Int32) (out : MD) (hf : M_sinks m x1 x2 x3 = some out) : kM l D (kTy cI cS) yX6_sinks ct_X6_sinks rm_X6_sinks [.ref a.1, .int x1, .int x2, .int x3] [wM cI cS a m] (kEq (none) [wM cI cS a out]) := by
  refine k_methodE cX6_sinks 5 none RX6 rfl [(0, .ref a.1), (1, .int x1), (2, .int x2), (3, .int x3)] rfl (by decide +kernel) (Nat.le_of_ble_eq_true rfl) (fun κ A hla C => ?_)
  refine g_chunks (flM cI cS a m).symm ?_
  have L3 : ∀ (fu : Nat) (m : MD) (x2 : Int32) (x3 : Int32) (x4 : Int32), M_sinks_L3 fu m x2 x3 x4 = some out → kG κ D A 5 0 0 (kF κ D A (none) [wM cI cS a out]) (csM cI cS a m) [(0, .ref a.1), (2, .int x2), (3, .int x3), (4, .int x4)] 3 [] := by
    intro fu; induction fu with
    | zero => intro m x2 x3 x4 hf; rw [M_sinks_L3] at hf; cases hf
    | succ fu ih =>
      intro m x2 x3 x4 hf; rw [M_sinks_L3] at hf
      refine g_iload (pc := 3) C 3 dX6_sinks_3 rfl ?_
      refine g_iload_n (pc := 5) C 1 dX6_sinks_5 rfl ?_
      refine g_icmp_ge (pc := 6) C 33 dX6_sinks_6 (by decide) (fun (c6 : x2 ≤ x4) => ?_) (fun (c6 : ¬ x2 ≤ x4) => ?_)
      · have hf := k_pos c6 hf
        have e := Option.some.inj hf; subst e
        exact g_rv (pc := 33) C rfl (flM cI cS a m) dX6_sinks_33
      · have hf := k_neg c6 hf
        refine g_aload_n (pc := 9) C 0 dX6_sinks_9 rfl ?_
        refine gf_RX6_7 (pc := 10) C 0 rfl dX6_sinks_10 ?_
        refine g_bipush (pc := 13) C 18 dX6_sinks_13 (by decide) ?_
        refine g_iconst (pc := 15) C 3 dX6_sinks_15 (by decide) ?_
        refine g_iload (pc := 16) C 3 dX6_sinks_16 rfl ?_
        refine g_imul (pc := 18) C dX6_sinks_18 ?_
        refine g_iadd (pc := 19) C dX6_sinks_19 ?_
        refine g_iconst (pc := 20) C 1 dX6_sinks_20 (by decide) ?_
        refine g_iadd (pc := 21) C dX6_sinks_21 ?_
        refine g_dup2 (pc := 22) C dX6_sinks_22 rfl rfl ?_
        obtain ⟨g23, hf⟩ := k_guard hf
        refine g_iald (pc := 23) C 1 0 rfl rfl g23 dX6_sinks_23 ?_
        refine g_iload_n (pc := 24) C 2 dX6_sinks_24 rfl ?_
        refine g_iadd (pc := 25) C dX6_sinks_25 ?_
        obtain ⟨g26, hf⟩ := k_guard hf
        refine g_iast (pc := 26) C 1 0 (csM cI cS a ((upd m.1 (ix ((18 + (3 * x4)) + 1)) ((m.1 (ix ((18 + (3 * x4)) + 1))) + x3)), m.2.1, m.2.2.1, m.2.2.2.1, m.2.2.2.2.1, m.2.2.2.2.2.1, m.2.2.2.2.2.2.1, m.2.2.2.2.2.2.2.1, m.2.2.2.2.2.2.2.2.1, m.2.2.2.2.2.2.2.2.2.1, m.2.2.2.2.2.2.2.2.2.2.1, m.2.2.2.2.2.2.2.2.2.2.2)) rfl rfl g26 rfl dX6_sinks_26 ?_
        refine g_iinc (pc := 27) C 3 (x4 + 1) [(4, .int (x4 + 1)), (0, .ref a.1), (2, .int x2), (3, .int x3)] dX6_sinks_27 rfl (congrArg (HAdd.hAdd _) (by decide)) (by decide) rfl ?_
        refine g_goto (pc := 30) C 3 dX6_sinks_30 (by decide) ?_
        refine g_sub [1, 2, 3, 0] (lv' := [(0, .ref a.1), (2, .int x2), (3, .int x3), (4, .int (x4 + 1))]) rfl ?_
        exact ih ((upd m.1 (ix ((18 + (3 * x4)) + 1)) ((m.1 (ix ((18 + (3 * x4)) + 1))) + x3)), m.2.1, m.2.2.1, m.2.2.2.1, m.2.2.2.2.1, m.2.2.2.2.2.1, m.2.2.2.2.2.2.1, m.2.2.2.2.2.2.2.1, m.2.2.2.2.2.2.2.2.1, m.2.2.2.2.2.2.2.2.2.1, m.2.2.2.2.2.2.2.2.2.2.1, m.2.2.2.2.2.2.2.2.2.2.2) x2 x3 (x4 + 1) hf
  rw [M_sinks] at hf
  refine g_iload_n (pc := 0) C 1 dX6_sinks_0 rfl ?_
  refine g_istore (pc := 1) C [(4, .int x1), (0, .ref a.1), (1, .int x1), (2, .int x2), (3, .int x3)] dX6_sinks_1 (by decide) rfl ?_
  refine g_sub [1, 3, 4, 0] (lv' := [(0, .ref a.1), (2, .int x2), (3, .int x3), (4, .int x1)]) rfl ?_
  exact L3 1000 m x2 x3 x1 hf
set_option maxHeartbeats 4000000 in
set_option maxRecDepth 100000 in
theorem c_X6_walks (l : Launch) (D : va_G) (cI cS : ClassId) (a : aM) (m : MD) (x1 : Int32) (out : Int32 × MD) (hf : M_walks m x1 = some out) : kM l D (kTy cI cS) yX6_walks ct_X6_walks rm_X6_walks [.ref a.1, .int x1] [wM cI cS a m] (kEq (some (.int out.1)) [wM cI cS a out.2]) := by
  refine k_methodE cX6_walks 3 (some .int) RX6 rfl [(0, .ref a.1), (1, .int x1)] rfl (by decide +kernel) (Nat.le_of_ble_eq_true rfl) (fun κ A hla C => ?_)
  refine g_chunks (flM cI cS a m).symm ?_
  have J69 : ∀ (m : MD) (x1 : Int32), M_walks_J69 m x1 = some out → kG κ D A 3 0 0 (kF κ D A (some (.int out.1)) [wM cI cS a out.2]) (csM cI cS a m) [(0, .ref a.1), (1, .int x1)] 69 [] := by
    intro m x1 hf; rw [M_walks_J69] at hf
    refine g_aload_n (pc := 69) C 0 dX6_walks_69 rfl ?_
    refine gf_RX6_7 (pc := 70) C 0 rfl dX6_walks_70 ?_
    refine g_bipush (pc := 73) C 9 dX6_walks_73 (by decide) ?_
    refine g_aload_n (pc := 75) C 0 dX6_walks_75 rfl ?_
    refine gf_RX6_7 (pc := 76) C 0 rfl dX6_walks_76 ?_
    refine g_iconst (pc := 79) C 3 dX6_walks_79 (by decide) ?_
    refine g_iald (pc := 80) C 1 0 rfl rfl (by decide) dX6_walks_80 ?_
    refine g_iadd (pc := 81) C dX6_walks_81 ?_
    refine g_aload_n (pc := 82) C 0 dX6_walks_82 rfl ?_
    refine gf_RX6_7 (pc := 83) C 0 rfl dX6_walks_83 ?_
    refine g_iconst (pc := 86) C 2 dX6_walks_86 (by decide) ?_
    refine g_iald (pc := 87) C 1 0 rfl rfl (by decide) dX6_walks_87 ?_
    obtain ⟨g88, hf⟩ := k_guard hf
    refine g_iast (pc := 88) C 1 0 (csM cI cS a ((upd m.1 (ix (9 + (m.1 (ix 3)))) (m.1 (ix 2))), m.2.1, m.2.2.1, m.2.2.2.1, m.2.2.2.2.1, m.2.2.2.2.2.1, m.2.2.2.2.2.2.1, m.2.2.2.2.2.2.2.1, m.2.2.2.2.2.2.2.2.1, m.2.2.2.2.2.2.2.2.2.1, m.2.2.2.2.2.2.2.2.2.2.1, m.2.2.2.2.2.2.2.2.2.2.2)) rfl rfl g88 rfl dX6_walks_88 ?_
    refine g_aload_n (pc := 89) C 0 dX6_walks_89 rfl ?_
    refine gf_RX6_7 (pc := 90) C 0 rfl dX6_walks_90 ?_
    refine g_iconst (pc := 93) C 3 dX6_walks_93 (by decide) ?_
    refine g_dup2 (pc := 94) C dX6_walks_94 rfl rfl ?_
    refine g_iald (pc := 95) C 1 0 rfl rfl (by decide) dX6_walks_95 ?_
    refine g_iconst (pc := 96) C 1 dX6_walks_96 (by decide) ?_
    refine g_iadd (pc := 97) C dX6_walks_97 ?_
    refine g_iast (pc := 98) C 1 0 (csM cI cS a ((upd (upd m.1 (ix (9 + (m.1 (ix 3)))) (m.1 (ix 2))) (ix 3) (((upd m.1 (ix (9 + (m.1 (ix 3)))) (m.1 (ix 2))) (ix 3)) + 1)), m.2.1, m.2.2.1, m.2.2.2.1, m.2.2.2.2.1, m.2.2.2.2.2.1, m.2.2.2.2.2.2.1, m.2.2.2.2.2.2.2.1, m.2.2.2.2.2.2.2.2.1, m.2.2.2.2.2.2.2.2.2.1, m.2.2.2.2.2.2.2.2.2.2.1, m.2.2.2.2.2.2.2.2.2.2.2)) rfl rfl (by decide) rfl dX6_walks_98 ?_
    refine g_aload_n (pc := 99) C 0 dX6_walks_99 rfl ?_
    refine gf_RX6_7 (pc := 100) C 0 rfl dX6_walks_100 ?_
    refine g_iconst (pc := 103) C 2 dX6_walks_103 (by decide) ?_
    refine g_aload_n (pc := 104) C 0 dX6_walks_104 rfl ?_
    refine g_iload_n (pc := 105) C 1 dX6_walks_105 rfl ?_
    obtain ⟨v106, h106, hf⟩ := Option.bind_eq_some_iff.mp hf
    refine g_callV' (pc := 106) hla C (c_X6_own l D cI cS a ((upd (upd m.1 (ix (9 + (m.1 (ix 3)))) (m.1 (ix 2))) (ix 3) (((upd m.1 (ix (9 + (m.1 (ix 3)))) (m.1 (ix 2))) (ix 3)) + 1)), m.2.1, m.2.2.1, m.2.2.2.1, m.2.2.2.2.1, m.2.2.2.2.2.1, m.2.2.2.2.2.2.1, m.2.2.2.2.2.2.2.1, m.2.2.2.2.2.2.2.2.1, m.2.2.2.2.2.2.2.2.2.1, m.2.2.2.2.2.2.2.2.2.2.1, m.2.2.2.2.2.2.2.2.2.2.2) x1 v106 h106) gg_RX6_39 hd_X6_own (by decide) rfl rfl rfl rfl (Nat.le_of_ble_eq_true rfl) dX6_walks_106 (seM_0 cI cS a ((upd (upd m.1 (ix (9 + (m.1 (ix 3)))) (m.1 (ix 2))) (ix 3) (((upd m.1 (ix (9 + (m.1 (ix 3)))) (m.1 (ix 2))) (ix 3)) + 1)), m.2.1, m.2.2.1, m.2.2.2.1, m.2.2.2.2.1, m.2.2.2.2.2.1, m.2.2.2.2.2.2.1, m.2.2.2.2.2.2.2.1, m.2.2.2.2.2.2.2.2.1, m.2.2.2.2.2.2.2.2.2.1, m.2.2.2.2.2.2.2.2.2.2.1, m.2.2.2.2.2.2.2.2.2.2.2)) (seM_0 cI cS a ((upd (upd m.1 (ix (9 + (m.1 (ix 3)))) (m.1 (ix 2))) (ix 3) (((upd m.1 (ix (9 + (m.1 (ix 3)))) (m.1 (ix 2))) (ix 3)) + 1)), m.2.1, m.2.2.1, m.2.2.2.1, m.2.2.2.2.1, m.2.2.2.2.2.1, m.2.2.2.2.2.2.1, m.2.2.2.2.2.2.2.1, m.2.2.2.2.2.2.2.2.1, m.2.2.2.2.2.2.2.2.2.1, m.2.2.2.2.2.2.2.2.2.2.1, m.2.2.2.2.2.2.2.2.2.2.2)).symm [.int v106, .int 2, .ref a.2.1] rfl ?_
    refine g_iast (pc := 109) C 1 0 (csM cI cS a ((upd (upd (upd m.1 (ix (9 + (m.1 (ix 3)))) (m.1 (ix 2))) (ix 3) (((upd m.1 (ix (9 + (m.1 (ix 3)))) (m.1 (ix 2))) (ix 3)) + 1)) (ix 2) v106), m.2.1, m.2.2.1, m.2.2.2.1, m.2.2.2.2.1, m.2.2.2.2.2.1, m.2.2.2.2.2.2.1, m.2.2.2.2.2.2.2.1, m.2.2.2.2.2.2.2.2.1, m.2.2.2.2.2.2.2.2.2.1, m.2.2.2.2.2.2.2.2.2.2.1, m.2.2.2.2.2.2.2.2.2.2.2)) rfl rfl (by decide) rfl dX6_walks_109 ?_
    refine g_iload_n (pc := 110) C 1 dX6_walks_110 rfl ?_
    have e := Option.some.inj hf; subst e
    exact g_ri (pc := 111) C rfl (flM cI cS a ((upd (upd (upd m.1 (ix (9 + (m.1 (ix 3)))) (m.1 (ix 2))) (ix 3) (((upd m.1 (ix (9 + (m.1 (ix 3)))) (m.1 (ix 2))) (ix 3)) + 1)) (ix 2) v106), m.2.1, m.2.2.1, m.2.2.2.1, m.2.2.2.2.1, m.2.2.2.2.2.1, m.2.2.2.2.2.2.1, m.2.2.2.2.2.2.2.1, m.2.2.2.2.2.2.2.2.1, m.2.2.2.2.2.2.2.2.2.1, m.2.2.2.2.2.2.2.2.2.2.1, m.2.2.2.2.2.2.2.2.2.2.2)) dX6_walks_111
  have L27 : ∀ (fu : Nat) (m : MD) (x1 : Int32) (x2 : Int32), M_walks_L27 fu m x1 x2 = some out → kG κ D A 3 0 0 (kF κ D A (some (.int out.1)) [wM cI cS a out.2]) (csM cI cS a m) [(0, .ref a.1), (1, .int x1), (2, .int x2)] 27 [] := by
    intro fu; induction fu with
    | zero => intro m x1 x2 hf; rw [M_walks_L27] at hf; cases hf
    | succ fu ih =>
      intro m x1 x2 hf; rw [M_walks_L27] at hf
      refine g_iload_n (pc := 27) C 2 dX6_walks_27 rfl ?_
      refine g_bipush (pc := 28) C 7 dX6_walks_28 (by decide) ?_
      refine g_icmp_ge (pc := 30) C 59 dX6_walks_30 (by decide) (fun (c30 : 7 ≤ x2) => ?_) (fun (c30 : ¬ 7 ≤ x2) => ?_)
      · have hf := k_pos c30 hf
        refine g_aload_n (pc := 59) C 0 dX6_walks_59 rfl ?_
        refine gf_RX6_7 (pc := 60) C 0 rfl dX6_walks_60 ?_
        refine g_iconst (pc := 63) C 3 dX6_walks_63 (by decide) ?_
        refine g_dup2 (pc := 64) C dX6_walks_64 rfl rfl ?_
        refine g_iald (pc := 65) C 1 0 rfl rfl (by decide) dX6_walks_65 ?_
        refine g_iconst (pc := 66) C 1 dX6_walks_66 (by decide) ?_
        refine g_isub (pc := 67) C dX6_walks_67 ?_
        refine g_iast (pc := 68) C 1 0 (csM cI cS a ((upd m.1 (ix 3) ((m.1 (ix 3)) - 1)), m.2.1, m.2.2.1, m.2.2.2.1, m.2.2.2.2.1, m.2.2.2.2.2.1, m.2.2.2.2.2.2.1, m.2.2.2.2.2.2.2.1, m.2.2.2.2.2.2.2.2.1, m.2.2.2.2.2.2.2.2.2.1, m.2.2.2.2.2.2.2.2.2.2.1, m.2.2.2.2.2.2.2.2.2.2.2)) rfl rfl (by decide) rfl dX6_walks_68 ?_
        refine g_sub [0, 1] (lv' := [(0, .ref a.1), (1, .int x1)]) rfl ?_
        exact J69 ((upd m.1 (ix 3) ((m.1 (ix 3)) - 1)), m.2.1, m.2.2.1, m.2.2.2.1, m.2.2.2.2.1, m.2.2.2.2.2.1, m.2.2.2.2.2.2.1, m.2.2.2.2.2.2.2.1, m.2.2.2.2.2.2.2.2.1, m.2.2.2.2.2.2.2.2.2.1, m.2.2.2.2.2.2.2.2.2.2.1, m.2.2.2.2.2.2.2.2.2.2.2) x1 hf
      · have hf := k_neg c30 hf
        refine g_aload_n (pc := 33) C 0 dX6_walks_33 rfl ?_
        refine gf_RX6_7 (pc := 34) C 0 rfl dX6_walks_34 ?_
        refine g_bipush (pc := 37) C 9 dX6_walks_37 (by decide) ?_
        refine g_iload_n (pc := 39) C 2 dX6_walks_39 rfl ?_
        refine g_iadd (pc := 40) C dX6_walks_40 ?_
        refine g_aload_n (pc := 41) C 0 dX6_walks_41 rfl ?_
        refine gf_RX6_7 (pc := 42) C 0 rfl dX6_walks_42 ?_
        refine g_bipush (pc := 45) C 9 dX6_walks_45 (by decide) ?_
        refine g_iload_n (pc := 47) C 2 dX6_walks_47 rfl ?_
        refine g_iadd (pc := 48) C dX6_walks_48 ?_
        refine g_iconst (pc := 49) C 1 dX6_walks_49 (by decide) ?_
        refine g_iadd (pc := 50) C dX6_walks_50 ?_
        obtain ⟨g51, hf⟩ := k_guard hf
        refine g_iald (pc := 51) C 1 0 rfl rfl g51 dX6_walks_51 ?_
        obtain ⟨g52, hf⟩ := k_guard hf
        refine g_iast (pc := 52) C 1 0 (csM cI cS a ((upd m.1 (ix (9 + x2)) (m.1 (ix ((9 + x2) + 1)))), m.2.1, m.2.2.1, m.2.2.2.1, m.2.2.2.2.1, m.2.2.2.2.2.1, m.2.2.2.2.2.2.1, m.2.2.2.2.2.2.2.1, m.2.2.2.2.2.2.2.2.1, m.2.2.2.2.2.2.2.2.2.1, m.2.2.2.2.2.2.2.2.2.2.1, m.2.2.2.2.2.2.2.2.2.2.2)) rfl rfl g52 rfl dX6_walks_52 ?_
        refine g_iinc (pc := 53) C 2 (x2 + 1) [(2, .int (x2 + 1)), (0, .ref a.1), (1, .int x1)] dX6_walks_53 rfl (congrArg (HAdd.hAdd _) (by decide)) (by decide) rfl ?_
        refine g_goto (pc := 56) C 27 dX6_walks_56 (by decide) ?_
        refine g_sub [1, 2, 0] (lv' := [(0, .ref a.1), (1, .int x1), (2, .int (x2 + 1))]) rfl ?_
        exact ih ((upd m.1 (ix (9 + x2)) (m.1 (ix ((9 + x2) + 1)))), m.2.1, m.2.2.1, m.2.2.2.1, m.2.2.2.2.1, m.2.2.2.2.2.1, m.2.2.2.2.2.2.1, m.2.2.2.2.2.2.2.1, m.2.2.2.2.2.2.2.2.1, m.2.2.2.2.2.2.2.2.2.1, m.2.2.2.2.2.2.2.2.2.2.1, m.2.2.2.2.2.2.2.2.2.2.2) x1 (x2 + 1) hf
  rw [M_walks] at hf
  refine g_aload_n (pc := 0) C 0 dX6_walks_0 rfl ?_
  refine g_iload_n (pc := 1) C 1 dX6_walks_1 rfl ?_
  obtain ⟨v2, h2, hf⟩ := Option.bind_eq_some_iff.mp hf
  refine g_callV' (pc := 2) hla C (c_X6_own l D cI cS a m x1 v2 h2) gg_RX6_39 hd_X6_own (by decide) rfl rfl rfl rfl (Nat.le_of_ble_eq_true rfl) dX6_walks_2 (seM_0 cI cS a m) (seM_0 cI cS a m).symm [.int v2] rfl ?_
  refine g_aload_n (pc := 5) C 0 dX6_walks_5 rfl ?_
  refine gf_RX6_7 (pc := 6) C 0 rfl dX6_walks_6 ?_
  refine g_iconst (pc := 9) C 2 dX6_walks_9 (by decide) ?_
  refine g_iald (pc := 10) C 1 0 rfl rfl (by decide) dX6_walks_10 ?_
  refine g_icmp_eq (pc := 11) C 110 dX6_walks_11 (by decide) (fun (c11 : v2 = (m.1 (ix 2))) => ?_) (fun (c11 : ¬ v2 = (m.1 (ix 2))) => ?_)
  · have hf := k_pos c11 hf
    refine g_iload_n (pc := 110) C 1 dX6_walks_110 rfl ?_
    have e := Option.some.inj hf; subst e
    exact g_ri (pc := 111) C rfl (flM cI cS a m) dX6_walks_111
  · have hf := k_neg c11 hf
    refine g_aload_n (pc := 14) C 0 dX6_walks_14 rfl ?_
    refine gf_RX6_7 (pc := 15) C 0 rfl dX6_walks_15 ?_
    refine g_iconst (pc := 18) C 3 dX6_walks_18 (by decide) ?_
    refine g_iald (pc := 19) C 1 0 rfl rfl (by decide) dX6_walks_19 ?_
    refine g_bipush (pc := 20) C 8 dX6_walks_20 (by decide) ?_
    refine g_icmp_ne (pc := 22) C 69 dX6_walks_22 (by decide) (fun (c22 : ¬ (m.1 (ix 3)) = 8) => ?_) (fun (c22 : (m.1 (ix 3)) = 8) => ?_)
    · have hf := k_neg c22 hf
      exact J69 m x1 hf
    · have hf := k_pos c22 hf
      refine g_iconst (pc := 25) C 0 dX6_walks_25 (by decide) ?_
      refine g_istore_n (pc := 26) C [(2, .int 0), (0, .ref a.1), (1, .int x1)] dX6_walks_26 (by decide) rfl ?_
      refine g_sub [1, 2, 0] (lv' := [(0, .ref a.1), (1, .int x1), (2, .int 0)]) rfl ?_
      exact L27 1000 m x1 0 hf
set_option maxHeartbeats 4000000 in
set_option maxRecDepth 100000 in
theorem c_X6_down (l : Launch) (D : va_G) (cI cS : ClassId) (a : aM) (m : MD) (x1 : Int32) (out : Int32 × MD) (hf : M_down m x1 = some out) : kM l D (kTy cI cS) yX6_down ct_X6_down rm_X6_down [.ref a.1, .int x1] [wM cI cS a m] (kEq (some (.int out.1)) [wM cI cS a out.2]) := by
  refine k_methodE cX6_down 3 (some .int) RX6 rfl [(0, .ref a.1), (1, .int x1)] rfl (by decide +kernel) (Nat.le_of_ble_eq_true rfl) (fun κ A hla C => ?_)
  refine g_chunks (flM cI cS a m).symm ?_
  rw [M_down] at hf
  refine g_aload_n (pc := 0) C 0 dX6_down_0 rfl ?_
  obtain ⟨v1, h1, hf⟩ := Option.bind_eq_some_iff.mp hf
  refine g_callV' (pc := 1) hla C (c_X6_begins l D cI cS a m v1 h1) gg_RX6_55 hd_X6_begins (by decide) rfl rfl rfl rfl (Nat.le_of_ble_eq_true rfl) dX6_down_1 (seM_0 cI cS a m) (seM_0 cI cS a v1).symm [] rfl ?_
  refine g_iload_n (pc := 4) C 1 dX6_down_4 rfl ?_
  refine g_if_ge (pc := 5) C 10 dX6_down_5 (by decide) (fun (c5 : 0 ≤ x1) => ?_) (fun (c5 : ¬ 0 ≤ x1) => ?_)
  · have hf := k_pos c5 hf
    refine g_aload_n (pc := 10) C 0 dX6_down_10 rfl ?_
    obtain ⟨v11, h11, hf⟩ := Option.bind_eq_some_iff.mp hf
    refine g_callV' (pc := 11) hla C (c_X6_place l D cI cS a v1 v11 h11) gg_RX6_58 hd_X6_place (by decide) rfl rfl rfl rfl (Nat.le_of_ble_eq_true rfl) dX6_down_11 (seM_0 cI cS a v1) (seM_0 cI cS a v1).symm [.int v11] rfl ?_
    refine g_istore_n (pc := 14) C [(2, .int v11), (0, .ref a.1), (1, .int x1)] dX6_down_14 (by decide) rfl ?_
    refine g_iload_n (pc := 15) C 2 dX6_down_15 rfl ?_
    refine g_aload_n (pc := 16) C 1 dX6_down_16 rfl ?_
    refine g_iload_n (pc := 17) C 0 dX6_down_17 rfl ?_
    obtain ⟨v18, h18, hf⟩ := Option.bind_eq_some_iff.mp hf
    refine g_callV' (pc := 18) hla C (c_X6_children l D cI cS a v1 v11 v18 h18) gg_RX6_62 hd_X6_children (by decide) rfl rfl rfl rfl (Nat.le_of_ble_eq_true rfl) dX6_down_18 (seM_0 cI cS a v1) (seM_0 cI cS a v1).symm [.int v18, .int x1] rfl ?_
    refine g_icmp_lt (pc := 21) C 29 dX6_down_21 (by decide) (fun (c21 : x1 < v18) => ?_) (fun (c21 : ¬ x1 < v18) => ?_)
    · have hf := k_pos c21 hf
      refine g_aload_n (pc := 29) C 1 dX6_down_29 rfl ?_
      refine g_aload_n (pc := 30) C 1 dX6_down_30 rfl ?_
      refine g_aload_n (pc := 31) C 1 dX6_down_31 rfl ?_
      refine g_iload_n (pc := 32) C 0 dX6_down_32 rfl ?_
      refine g_iload_n (pc := 33) C 2 dX6_down_33 rfl ?_
      obtain ⟨v34, h34, hf⟩ := Option.bind_eq_some_iff.mp hf
      refine g_callV' (pc := 34) hla C (c_X6_childOf l D cI cS a v1 v11 x1 v34 h34) gg_RX6_65 hd_X6_childOf (by decide) rfl rfl rfl rfl (Nat.le_of_ble_eq_true rfl) dX6_down_34 (seM_0 cI cS a v1) (seM_0 cI cS a v1).symm [.int v34, .ref a.1, .ref a.1] rfl ?_
      obtain ⟨v37, h37, hf⟩ := Option.bind_eq_some_iff.mp hf
      refine g_callV' (pc := 37) hla C (c_X6_walks l D cI cS a v1 v34 v37 h37) gg_RX6_69 hd_X6_walks (by decide) rfl rfl rfl rfl (Nat.le_of_ble_eq_true rfl) dX6_down_37 (seM_0 cI cS a v1) (seM_0 cI cS a v37.2).symm [.int v37.1, .ref a.1] rfl ?_
      obtain ⟨v40, h40, hf⟩ := Option.bind_eq_some_iff.mp hf
      refine g_callV' (pc := 40) hla C (c_X6_acted l D cI cS a v37.2 v37.1 v40 h40) gg_RX6_72 hd_X6_acted (by decide) rfl rfl rfl rfl (Nat.le_of_ble_eq_true rfl) dX6_down_40 (seM_0 cI cS a v37.2) (seM_0 cI cS a v40.2).symm [.int v40.1] rfl ?_
      have e := Option.some.inj hf; subst e
      exact g_ri (pc := 43) C rfl (flM cI cS a v40.2) dX6_down_43
    · have hf := k_neg c21 hf
      refine g_bipush (pc := 24) C (-2) dX6_down_24 (by decide) ?_
      refine g_goto (pc := 26) C 43 dX6_down_26 (by decide) ?_
      have e := Option.some.inj hf; subst e
      exact g_ri (pc := 43) C rfl (flM cI cS a v1) dX6_down_43
  · have hf := k_neg c5 hf
    refine g_iconst (pc := 8) C (-1) dX6_down_8 (by decide) ?_
    have e := Option.some.inj hf; subst e
    exact g_ri (pc := 9) C rfl (flM cI cS a v1) dX6_down_9
set_option maxHeartbeats 4000000 in
set_option maxRecDepth 100000 in
theorem c_X6_up (l : Launch) (D : va_G) (cI cS : ClassId) (a : aM) (m : MD) (out : Int32 × MD) (hf : M_up m = some out) : kM l D (kTy cI cS) yX6_up ct_X6_up rm_X6_up [.ref a.1] [wM cI cS a m] (kEq (some (.int out.1)) [wM cI cS a out.2]) := by
  refine k_methodE cX6_up 2 (some .int) RX6 rfl [(0, .ref a.1)] rfl (by decide +kernel) (Nat.le_of_ble_eq_true rfl) (fun κ A hla C => ?_)
  refine g_chunks (flM cI cS a m).symm ?_
  rw [M_up] at hf
  refine g_aload_n (pc := 0) C 0 dX6_up_0 rfl ?_
  obtain ⟨v1, h1, hf⟩ := Option.bind_eq_some_iff.mp hf
  refine g_callV' (pc := 1) hla C (c_X6_begins l D cI cS a m v1 h1) gg_RX6_55 hd_X6_begins (by decide) rfl rfl rfl rfl (Nat.le_of_ble_eq_true rfl) dX6_up_1 (seM_0 cI cS a m) (seM_0 cI cS a v1).symm [] rfl ?_
  refine g_aload_n (pc := 4) C 0 dX6_up_4 rfl ?_
  refine g_aload_n (pc := 5) C 0 dX6_up_5 rfl ?_
  obtain ⟨v6, h6, hf⟩ := Option.bind_eq_some_iff.mp hf
  refine g_callV' (pc := 6) hla C (c_X6_place l D cI cS a v1 v6 h6) gg_RX6_58 hd_X6_place (by decide) rfl rfl rfl rfl (Nat.le_of_ble_eq_true rfl) dX6_up_6 (seM_0 cI cS a v1) (seM_0 cI cS a v1).symm [.int v6, .ref a.1] rfl ?_
  obtain ⟨v9, h9, hf⟩ := Option.bind_eq_some_iff.mp hf
  refine g_callV' (pc := 9) hla C (c_X6_above l D cI cS a v1 v6 v9 h9) gg_RX6_52 hd_X6_above (by decide) rfl rfl rfl rfl (Nat.le_of_ble_eq_true rfl) dX6_up_9 (seM_0 cI cS a v1) (seM_0 cI cS a v1).symm [.int v9] rfl ?_
  refine g_istore_n (pc := 12) C [(1, .int v9), (0, .ref a.1)] dX6_up_12 (by decide) rfl ?_
  refine g_iload_n (pc := 13) C 0 dX6_up_13 rfl ?_
  refine g_if_ge (pc := 14) C 22 dX6_up_14 (by decide) (fun (c14 : 0 ≤ v9) => ?_) (fun (c14 : ¬ 0 ≤ v9) => ?_)
  · have hf := k_pos c14 hf
    refine g_aload_n (pc := 22) C 1 dX6_up_22 rfl ?_
    refine g_aload_n (pc := 23) C 1 dX6_up_23 rfl ?_
    refine g_iload_n (pc := 24) C 0 dX6_up_24 rfl ?_
    obtain ⟨v25, h25, hf⟩ := Option.bind_eq_some_iff.mp hf
    refine g_callV' (pc := 25) hla C (c_X6_walks l D cI cS a v1 v9 v25 h25) gg_RX6_69 hd_X6_walks (by decide) rfl rfl rfl rfl (Nat.le_of_ble_eq_true rfl) dX6_up_25 (seM_0 cI cS a v1) (seM_0 cI cS a v25.2).symm [.int v25.1, .ref a.1] rfl ?_
    obtain ⟨v28, h28, hf⟩ := Option.bind_eq_some_iff.mp hf
    refine g_callV' (pc := 28) hla C (c_X6_acted l D cI cS a v25.2 v25.1 v28 h28) gg_RX6_72 hd_X6_acted (by decide) rfl rfl rfl rfl (Nat.le_of_ble_eq_true rfl) dX6_up_28 (seM_0 cI cS a v25.2) (seM_0 cI cS a v28.2).symm [.int v28.1] rfl ?_
    have e := Option.some.inj hf; subst e
    exact g_ri (pc := 31) C rfl (flM cI cS a v28.2) dX6_up_31
  · have hf := k_neg c14 hf
    refine g_bipush (pc := 17) C (-2) dX6_up_17 (by decide) ?_
    refine g_goto (pc := 19) C 31 dX6_up_19 (by decide) ?_
    have e := Option.some.inj hf; subst e
    exact g_ri (pc := 31) C rfl (flM cI cS a v1) dX6_up_31
set_option maxHeartbeats 4000000 in
set_option maxRecDepth 100000 in
theorem c_X6_side (l : Launch) (D : va_G) (cI cS : ClassId) (a : aM) (m : MD) (x1 : Int32) (out : Int32 × MD) (hf : M_side m x1 = some out) : kM l D (kTy cI cS) yX6_side ct_X6_side rm_X6_side [.ref a.1, .int x1] [wM cI cS a m] (kEq (some (.int out.1)) [wM cI cS a out.2]) := by
  refine k_methodE cX6_side 3 (some .int) RX6 rfl [(0, .ref a.1), (1, .int x1)] rfl (by decide +kernel) (Nat.le_of_ble_eq_true rfl) (fun κ A hla C => ?_)
  refine g_chunks (flM cI cS a m).symm ?_
  have J30 : ∀ (m : MD) (s1 : Int32) (s2 : Int32), M_side_J30 m s1 s2 = some out → kG κ D A 3 0 0 (kF κ D A (some (.int out.1)) [wM cI cS a out.2]) (csM cI cS a m) [(0, .ref a.1)] 30 [.ref a.1, .int s1, .int s2] := by
    intro m s1 s2 hf; rw [M_side_J30] at hf
    obtain ⟨v30, h30, hf⟩ := Option.bind_eq_some_iff.mp hf
    refine g_callV' (pc := 30) hla C (c_X6_besides l D cI cS a m s1 s2 v30 h30) gg_RX6_75 hd_X6_besides (by decide) rfl rfl rfl rfl (Nat.le_of_ble_eq_true rfl) dX6_side_30 (seM_0 cI cS a m) (seM_0 cI cS a m).symm [.int v30] rfl ?_
    refine g_istore_n (pc := 33) C [(2, .int v30), (0, .ref a.1)] dX6_side_33 (by decide) rfl ?_
    refine g_iload_n (pc := 34) C 0 dX6_side_34 rfl ?_
    refine g_if_ge (pc := 35) C 43 dX6_side_35 (by decide) (fun (c35 : 0 ≤ v30) => ?_) (fun (c35 : ¬ 0 ≤ v30) => ?_)
    · have hf := k_pos c35 hf
      refine g_aload_n (pc := 43) C 1 dX6_side_43 rfl ?_
      refine g_aload_n (pc := 44) C 1 dX6_side_44 rfl ?_
      refine g_iload_n (pc := 45) C 0 dX6_side_45 rfl ?_
      obtain ⟨v46, h46, hf⟩ := Option.bind_eq_some_iff.mp hf
      refine g_callV' (pc := 46) hla C (c_X6_walks l D cI cS a m v30 v46 h46) gg_RX6_69 hd_X6_walks (by decide) rfl rfl rfl rfl (Nat.le_of_ble_eq_true rfl) dX6_side_46 (seM_0 cI cS a m) (seM_0 cI cS a v46.2).symm [.int v46.1, .ref a.1] rfl ?_
      obtain ⟨v49, h49, hf⟩ := Option.bind_eq_some_iff.mp hf
      refine g_callV' (pc := 49) hla C (c_X6_acted l D cI cS a v46.2 v46.1 v49 h49) gg_RX6_72 hd_X6_acted (by decide) rfl rfl rfl rfl (Nat.le_of_ble_eq_true rfl) dX6_side_49 (seM_0 cI cS a v46.2) (seM_0 cI cS a v49.2).symm [.int v49.1] rfl ?_
      have e := Option.some.inj hf; subst e
      exact g_ri (pc := 52) C rfl (flM cI cS a v49.2) dX6_side_52
    · have hf := k_neg c35 hf
      refine g_bipush (pc := 38) C (-2) dX6_side_38 (by decide) ?_
      refine g_goto (pc := 40) C 52 dX6_side_40 (by decide) ?_
      have e := Option.some.inj hf; subst e
      exact g_ri (pc := 52) C rfl (flM cI cS a m) dX6_side_52
  rw [M_side] at hf
  refine g_aload_n (pc := 0) C 0 dX6_side_0 rfl ?_
  obtain ⟨v1, h1, hf⟩ := Option.bind_eq_some_iff.mp hf
  refine g_callV' (pc := 1) hla C (c_X6_begins l D cI cS a m v1 h1) gg_RX6_55 hd_X6_begins (by decide) rfl rfl rfl rfl (Nat.le_of_ble_eq_true rfl) dX6_side_1 (seM_0 cI cS a m) (seM_0 cI cS a v1).symm [] rfl ?_
  refine g_iload_n (pc := 4) C 1 dX6_side_4 rfl ?_
  refine g_iconst (pc := 5) C 0 dX6_side_5 (by decide) ?_
  refine g_iconst (pc := 6) C 1 dX6_side_6 (by decide) ?_
  obtain ⟨v7, h7, hf⟩ := Option.bind_eq_some_iff.mp hf
  refine g_callS' (pc := 7) hla C (c_X6_in l D cI cS x1 0 1 v7 h7) tb_X6_in m_744 m_X6_in_static m_ini_RX6 hd_X6_in (by decide) rfl rfl (Nat.le_of_ble_eq_true rfl) dX6_side_7 (seM_nil cI cS a v1) (seM_nil cI cS a v1).symm [.int v7] rfl ?_
  refine g_if_ne (pc := 10) C 15 dX6_side_10 (by decide) (fun (c10 : ¬ v7 = 0) => ?_) (fun (c10 : v7 = 0) => ?_)
  · have hf := k_neg c10 hf
    refine g_aload_n (pc := 15) C 0 dX6_side_15 rfl ?_
    refine g_aload_n (pc := 16) C 0 dX6_side_16 rfl ?_
    obtain ⟨v17, h17, hf⟩ := Option.bind_eq_some_iff.mp hf
    refine g_callV' (pc := 17) hla C (c_X6_place l D cI cS a v1 v17 h17) gg_RX6_58 hd_X6_place (by decide) rfl rfl rfl rfl (Nat.le_of_ble_eq_true rfl) dX6_side_17 (seM_0 cI cS a v1) (seM_0 cI cS a v1).symm [.int v17, .ref a.1] rfl ?_
    refine g_iload_n (pc := 20) C 1 dX6_side_20 rfl ?_
    refine g_iconst (pc := 21) C 1 dX6_side_21 (by decide) ?_
    refine g_icmp_ne (pc := 22) C 29 dX6_side_22 (by decide) (fun (c22 : ¬ x1 = 1) => ?_) (fun (c22 : x1 = 1) => ?_)
    · have hf := k_neg c22 hf
      refine g_iconst (pc := 29) C 0 dX6_side_29 (by decide) ?_
      refine g_sub [0] (lv' := [(0, .ref a.1)]) rfl ?_
      exact J30 v1 v17 0 hf
    · have hf := k_pos c22 hf
      refine g_iconst (pc := 25) C 1 dX6_side_25 (by decide) ?_
      refine g_goto (pc := 26) C 30 dX6_side_26 (by decide) ?_
      refine g_sub [0] (lv' := [(0, .ref a.1)]) rfl ?_
      exact J30 v1 v17 1 hf
  · have hf := k_pos c10 hf
    refine g_iconst (pc := 13) C (-1) dX6_side_13 (by decide) ?_
    have e := Option.some.inj hf; subst e
    exact g_ri (pc := 14) C rfl (flM cI cS a v1) dX6_side_14
set_option maxHeartbeats 4000000 in
set_option maxRecDepth 100000 in
theorem c_X6_step (l : Launch) (D : va_G) (cI cS : ClassId) (a : aM) (m : MD) (x1 : Int32) (out : Int32 × MD) (hf : M_step m x1 = some out) : kM l D (kTy cI cS) yX6_step ct_X6_step rm_X6_step [.ref a.1, .int x1] [wM cI cS a m] (kEq (some (.int out.1)) [wM cI cS a out.2]) := by
  refine k_methodE cX6_step 3 (some .int) RX6 rfl [(0, .ref a.1), (1, .int x1)] rfl (by decide +kernel) (Nat.le_of_ble_eq_true rfl) (fun κ A hla C => ?_)
  refine g_chunks (flM cI cS a m).symm ?_
  have J29 : ∀ (m : MD) (s0 : Int32) (s1 : Int32), M_step_J29 m s0 s1 = some out → kG κ D A 3 0 0 (kF κ D A (some (.int out.1)) [wM cI cS a out.2]) (csM cI cS a m) [(0, .ref a.1)] 29 [.int s0, .int s1] := by
    intro m s0 s1 hf; rw [M_step_J29] at hf
    refine g_iadd (pc := 29) C dX6_step_29 ?_
    refine g_istore_n (pc := 30) C [(2, .int (s0 + s1)), (0, .ref a.1)] dX6_step_30 (by decide) rfl ?_
    refine g_aload_n (pc := 31) C 1 dX6_step_31 rfl ?_
    refine g_iload_n (pc := 32) C 0 dX6_step_32 rfl ?_
    obtain ⟨v33, h33, hf⟩ := Option.bind_eq_some_iff.mp hf
    refine g_callV' (pc := 33) hla C (c_X6_isNode l D cI cS a m (s0 + s1) v33 h33) gg_RX6_79 hd_X6_isNode (by decide) rfl rfl rfl rfl (Nat.le_of_ble_eq_true rfl) dX6_step_33 (seM_0 cI cS a m) (seM_0 cI cS a m).symm [.int v33] rfl ?_
    refine g_if_eq (pc := 36) C 51 dX6_step_36 (by decide) (fun (c36 : v33 = 0) => ?_) (fun (c36 : ¬ v33 = 0) => ?_)
    · have hf := k_pos c36 hf
      refine g_bipush (pc := 51) C (-2) dX6_step_51 (by decide) ?_
      have e := Option.some.inj hf; subst e
      exact g_ri (pc := 53) C rfl (flM cI cS a m) dX6_step_53
    · have hf := k_neg c36 hf
      refine g_aload_n (pc := 39) C 1 dX6_step_39 rfl ?_
      refine g_aload_n (pc := 40) C 1 dX6_step_40 rfl ?_
      refine g_iload_n (pc := 41) C 0 dX6_step_41 rfl ?_
      obtain ⟨v42, h42, hf⟩ := Option.bind_eq_some_iff.mp hf
      refine g_callV' (pc := 42) hla C (c_X6_walks l D cI cS a m (s0 + s1) v42 h42) gg_RX6_69 hd_X6_walks (by decide) rfl rfl rfl rfl (Nat.le_of_ble_eq_true rfl) dX6_step_42 (seM_0 cI cS a m) (seM_0 cI cS a v42.2).symm [.int v42.1, .ref a.1] rfl ?_
      obtain ⟨v45, h45, hf⟩ := Option.bind_eq_some_iff.mp hf
      refine g_callV' (pc := 45) hla C (c_X6_acted l D cI cS a v42.2 v42.1 v45 h45) gg_RX6_72 hd_X6_acted (by decide) rfl rfl rfl rfl (Nat.le_of_ble_eq_true rfl) dX6_step_45 (seM_0 cI cS a v42.2) (seM_0 cI cS a v45.2).symm [.int v45.1] rfl ?_
      refine g_goto (pc := 48) C 53 dX6_step_48 (by decide) ?_
      have e := Option.some.inj hf; subst e
      exact g_ri (pc := 53) C rfl (flM cI cS a v45.2) dX6_step_53
  rw [M_step] at hf
  refine g_aload_n (pc := 0) C 0 dX6_step_0 rfl ?_
  obtain ⟨v1, h1, hf⟩ := Option.bind_eq_some_iff.mp hf
  refine g_callV' (pc := 1) hla C (c_X6_begins l D cI cS a m v1 h1) gg_RX6_55 hd_X6_begins (by decide) rfl rfl rfl rfl (Nat.le_of_ble_eq_true rfl) dX6_step_1 (seM_0 cI cS a m) (seM_0 cI cS a v1).symm [] rfl ?_
  refine g_iload_n (pc := 4) C 1 dX6_step_4 rfl ?_
  refine g_iconst (pc := 5) C 0 dX6_step_5 (by decide) ?_
  refine g_iconst (pc := 6) C 1 dX6_step_6 (by decide) ?_
  obtain ⟨v7, h7, hf⟩ := Option.bind_eq_some_iff.mp hf
  refine g_callS' (pc := 7) hla C (c_X6_in l D cI cS x1 0 1 v7 h7) tb_X6_in m_744 m_X6_in_static m_ini_RX6 hd_X6_in (by decide) rfl rfl (Nat.le_of_ble_eq_true rfl) dX6_step_7 (seM_nil cI cS a v1) (seM_nil cI cS a v1).symm [.int v7] rfl ?_
  refine g_if_ne (pc := 10) C 15 dX6_step_10 (by decide) (fun (c10 : ¬ v7 = 0) => ?_) (fun (c10 : v7 = 0) => ?_)
  · have hf := k_neg c10 hf
    refine g_aload_n (pc := 15) C 0 dX6_step_15 rfl ?_
    obtain ⟨v16, h16, hf⟩ := Option.bind_eq_some_iff.mp hf
    refine g_callV' (pc := 16) hla C (c_X6_place l D cI cS a v1 v16 h16) gg_RX6_58 hd_X6_place (by decide) rfl rfl rfl rfl (Nat.le_of_ble_eq_true rfl) dX6_step_16 (seM_0 cI cS a v1) (seM_0 cI cS a v1).symm [.int v16] rfl ?_
    refine g_iload_n (pc := 19) C 1 dX6_step_19 rfl ?_
    refine g_iconst (pc := 20) C 1 dX6_step_20 (by decide) ?_
    refine g_icmp_ne (pc := 21) C 28 dX6_step_21 (by decide) (fun (c21 : ¬ x1 = 1) => ?_) (fun (c21 : x1 = 1) => ?_)
    · have hf := k_neg c21 hf
      refine g_iconst (pc := 28) C (-1) dX6_step_28 (by decide) ?_
      refine g_sub [0] (lv' := [(0, .ref a.1)]) rfl ?_
      exact J29 v1 v16 (-1) hf
    · have hf := k_pos c21 hf
      refine g_iconst (pc := 24) C 1 dX6_step_24 (by decide) ?_
      refine g_goto (pc := 25) C 29 dX6_step_25 (by decide) ?_
      refine g_sub [0] (lv' := [(0, .ref a.1)]) rfl ?_
      exact J29 v1 v16 1 hf
  · have hf := k_pos c10 hf
    refine g_iconst (pc := 13) C (-1) dX6_step_13 (by decide) ?_
    have e := Option.some.inj hf; subst e
    exact g_ri (pc := 14) C rfl (flM cI cS a v1) dX6_step_14
set_option maxHeartbeats 4000000 in
set_option maxRecDepth 100000 in
theorem c_X6_top (l : Launch) (D : va_G) (cI cS : ClassId) (a : aM) (m : MD) (out : Int32 × MD) (hf : M_top m = some out) : kM l D (kTy cI cS) yX6_top ct_X6_top rm_X6_top [.ref a.1] [wM cI cS a m] (kEq (some (.int out.1)) [wM cI cS a out.2]) := by
  refine k_methodE cX6_top 3 (some .int) RX6 rfl [(0, .ref a.1)] rfl (by decide +kernel) (Nat.le_of_ble_eq_true rfl) (fun κ A hla C => ?_)
  refine g_chunks (flM cI cS a m).symm ?_
  rw [M_top] at hf
  refine g_aload_n (pc := 0) C 0 dX6_top_0 rfl ?_
  obtain ⟨v1, h1, hf⟩ := Option.bind_eq_some_iff.mp hf
  refine g_callV' (pc := 1) hla C (c_X6_begins l D cI cS a m v1 h1) gg_RX6_55 hd_X6_begins (by decide) rfl rfl rfl rfl (Nat.le_of_ble_eq_true rfl) dX6_top_1 (seM_0 cI cS a m) (seM_0 cI cS a v1).symm [] rfl ?_
  refine g_aload_n (pc := 4) C 0 dX6_top_4 rfl ?_
  refine g_aload_n (pc := 5) C 0 dX6_top_5 rfl ?_
  obtain ⟨v6, h6, hf⟩ := Option.bind_eq_some_iff.mp hf
  refine g_callV' (pc := 6) hla C (c_X6_place l D cI cS a v1 v6 h6) gg_RX6_58 hd_X6_place (by decide) rfl rfl rfl rfl (Nat.le_of_ble_eq_true rfl) dX6_top_6 (seM_0 cI cS a v1) (seM_0 cI cS a v1).symm [.int v6, .ref a.1] rfl ?_
  obtain ⟨v9, h9, hf⟩ := Option.bind_eq_some_iff.mp hf
  refine g_callV' (pc := 9) hla C (c_X6_deep l D cI cS a v1 v6 v9 h9) gg_RX6_46 hd_X6_deep (by decide) rfl rfl rfl rfl (Nat.le_of_ble_eq_true rfl) dX6_top_9 (seM_0 cI cS a v1) (seM_0 cI cS a v1).symm [.int v9] rfl ?_
  refine g_istore_n (pc := 12) C [(1, .int v9), (0, .ref a.1)] dX6_top_12 (by decide) rfl ?_
  refine g_iload_n (pc := 13) C 0 dX6_top_13 rfl ?_
  refine g_if_ne (pc := 14) C 20 dX6_top_14 (by decide) (fun (c14 : ¬ v9 = 0) => ?_) (fun (c14 : v9 = 0) => ?_)
  · have hf := k_neg c14 hf
    refine g_aload_n (pc := 20) C 1 dX6_top_20 rfl ?_
    refine g_iconst (pc := 21) C 0 dX6_top_21 (by decide) ?_
    obtain ⟨v22, h22, hf⟩ := Option.bind_eq_some_iff.mp hf
    refine g_callV' (pc := 22) hla C (c_X6_walks l D cI cS a v1 0 v22 h22) gg_RX6_69 hd_X6_walks (by decide) rfl rfl rfl rfl (Nat.le_of_ble_eq_true rfl) dX6_top_22 (seM_0 cI cS a v1) (seM_0 cI cS a v22.2).symm [.int v22.1] rfl ?_
    refine g_istore_n (pc := 25) C [(2, .int v22.1), (1, .int v9), (0, .ref a.1)] dX6_top_25 (by decide) rfl ?_
    refine g_aload_n (pc := 26) C 2 dX6_top_26 rfl ?_
    refine g_iload_n (pc := 27) C 1 dX6_top_27 rfl ?_
    obtain ⟨v28, h28, hf⟩ := Option.bind_eq_some_iff.mp hf
    refine g_callV' (pc := 28) hla C (c_X6_acted l D cI cS a v22.2 v9 v28 h28) gg_RX6_72 hd_X6_acted (by decide) rfl rfl rfl rfl (Nat.le_of_ble_eq_true rfl) dX6_top_28 (seM_0 cI cS a v22.2) (seM_0 cI cS a v28.2).symm [.int v28.1] rfl ?_
    have e := Option.some.inj hf; subst e
    exact g_ri (pc := 31) C rfl (flM cI cS a v28.2) dX6_top_31
  · have hf := k_pos c14 hf
    refine g_bipush (pc := 17) C (-2) dX6_top_17 (by decide) ?_
    have e := Option.some.inj hf; subst e
    exact g_ri (pc := 19) C rfl (flM cI cS a v1) dX6_top_19
set_option maxHeartbeats 4000000 in
set_option maxRecDepth 100000 in
theorem c_X6_back (l : Launch) (D : va_G) (cI cS : ClassId) (a : aM) (m : MD) (out : Int32 × MD) (hf : M_back m = some out) : kM l D (kTy cI cS) yX6_back ct_X6_back rm_X6_back [.ref a.1] [wM cI cS a m] (kEq (some (.int out.1)) [wM cI cS a out.2]) := by
  refine k_methodE cX6_back 3 (some .int) RX6 rfl [(0, .ref a.1)] rfl (by decide +kernel) (Nat.le_of_ble_eq_true rfl) (fun κ A hla C => ?_)
  refine g_chunks (flM cI cS a m).symm ?_
  have L11 : ∀ (fu : Nat) (m : MD) (x1 : Int32), M_back_L11 fu m x1 = some out → kG κ D A 3 0 0 (kF κ D A (some (.int out.1)) [wM cI cS a out.2]) (csM cI cS a m) [(0, .ref a.1), (1, .int x1)] 11 [] := by
    intro fu; induction fu with
    | zero => intro m x1 hf; rw [M_back_L11] at hf; cases hf
    | succ fu ih =>
      intro m x1 hf; rw [M_back_L11] at hf
      refine g_iload_n (pc := 11) C 1 dX6_back_11 rfl ?_
      refine g_if_le (pc := 12) C 85 dX6_back_12 (by decide) (fun (c12 : x1 ≤ 0) => ?_) (fun (c12 : ¬ x1 ≤ 0) => ?_)
      · have hf := k_pos c12 hf
        refine g_bipush (pc := 85) C (-2) dX6_back_85 (by decide) ?_
        have e := Option.some.inj hf; subst e
        exact g_ri (pc := 87) C rfl (flM cI cS a m) dX6_back_87
      · have hf := k_neg c12 hf
        refine g_iinc (pc := 15) C 1 (x1 + (-1)) [(1, .int (x1 + (-1))), (0, .ref a.1)] dX6_back_15 rfl (congrArg (HAdd.hAdd _) (by decide)) (by decide) rfl ?_
        refine g_aload_n (pc := 18) C 1 dX6_back_18 rfl ?_
        refine g_aload_n (pc := 19) C 1 dX6_back_19 rfl ?_
        refine gf_RX6_7 (pc := 20) C 0 rfl dX6_back_20 ?_
        refine g_bipush (pc := 23) C 9 dX6_back_23 (by decide) ?_
        refine g_iload_n (pc := 25) C 0 dX6_back_25 rfl ?_
        refine g_iadd (pc := 26) C dX6_back_26 ?_
        obtain ⟨g27, hf⟩ := k_guard hf
        refine g_iald (pc := 27) C 1 0 rfl rfl g27 dX6_back_27 ?_
        obtain ⟨v28, h28, hf⟩ := Option.bind_eq_some_iff.mp hf
        refine g_callV' (pc := 28) hla C (c_X6_numberOf l D cI cS a m (m.1 (ix (9 + (x1 + (-1))))) v28 h28) gg_RX6_43 hd_X6_numberOf (by decide) rfl rfl rfl rfl (Nat.le_of_ble_eq_true rfl) dX6_back_28 (seM_0 cI cS a m) (seM_0 cI cS a m).symm [.int v28] rfl ?_
        refine g_istore_n (pc := 31) C [(2, .int v28), (1, .int (x1 + (-1))), (0, .ref a.1)] dX6_back_31 (by decide) rfl ?_
        refine g_iload_n (pc := 32) C 0 dX6_back_32 rfl ?_
        refine g_if_lt (pc := 33) C 82 dX6_back_33 (by decide) (fun (c33 : v28 < 0) => ?_) (fun (c33 : ¬ v28 < 0) => ?_)
        · have hf := k_pos c33 hf
          refine g_goto (pc := 82) C 11 dX6_back_82 (by decide) ?_
          refine g_sub [2, 1] (lv' := [(0, .ref a.1), (1, .int (x1 + (-1)))]) rfl ?_
          exact ih m (x1 + (-1)) hf
        · have hf := k_neg c33 hf
          refine g_aload_n (pc := 36) C 2 dX6_back_36 rfl ?_
          refine gf_RX6_7 (pc := 37) C 0 rfl dX6_back_37 ?_
          refine g_bipush (pc := 40) C 9 dX6_back_40 (by decide) ?_
          refine g_iload_n (pc := 42) C 1 dX6_back_42 rfl ?_
          refine g_iadd (pc := 43) C dX6_back_43 ?_
          obtain ⟨g44, hf⟩ := k_guard hf
          refine g_iald (pc := 44) C 1 0 rfl rfl g44 dX6_back_44 ?_
          refine g_aload_n (pc := 45) C 2 dX6_back_45 rfl ?_
          refine gf_RX6_7 (pc := 46) C 0 rfl dX6_back_46 ?_
          refine g_iconst (pc := 49) C 2 dX6_back_49 (by decide) ?_
          refine g_iald (pc := 50) C 1 0 rfl rfl (by decide) dX6_back_50 ?_
          refine g_icmp_eq (pc := 51) C 82 dX6_back_51 (by decide) (fun (c51 : (m.1 (ix (9 + (x1 + (-1))))) = (m.1 (ix 2))) => ?_) (fun (c51 : ¬ (m.1 (ix (9 + (x1 + (-1))))) = (m.1 (ix 2))) => ?_)
          · have hf := k_pos c51 hf
            refine g_goto (pc := 82) C 11 dX6_back_82 (by decide) ?_
            refine g_sub [2, 1] (lv' := [(0, .ref a.1), (1, .int (x1 + (-1)))]) rfl ?_
            exact ih m (x1 + (-1)) hf
          · have hf := k_neg c51 hf
            refine g_aload_n (pc := 54) C 2 dX6_back_54 rfl ?_
            refine gf_RX6_7 (pc := 55) C 0 rfl dX6_back_55 ?_
            refine g_iconst (pc := 58) C 2 dX6_back_58 (by decide) ?_
            refine g_aload_n (pc := 59) C 2 dX6_back_59 rfl ?_
            refine gf_RX6_7 (pc := 60) C 0 rfl dX6_back_60 ?_
            refine g_bipush (pc := 63) C 9 dX6_back_63 (by decide) ?_
            refine g_iload_n (pc := 65) C 1 dX6_back_65 rfl ?_
            refine g_iadd (pc := 66) C dX6_back_66 ?_
            obtain ⟨g67, hf⟩ := k_guard hf
            refine g_iald (pc := 67) C 1 0 rfl rfl g67 dX6_back_67 ?_
            refine g_iast (pc := 68) C 1 0 (csM cI cS a ((upd m.1 (ix 2) (m.1 (ix (9 + (x1 + (-1)))))), m.2.1, m.2.2.1, m.2.2.2.1, m.2.2.2.2.1, m.2.2.2.2.2.1, m.2.2.2.2.2.2.1, m.2.2.2.2.2.2.2.1, m.2.2.2.2.2.2.2.2.1, m.2.2.2.2.2.2.2.2.2.1, m.2.2.2.2.2.2.2.2.2.2.1, m.2.2.2.2.2.2.2.2.2.2.2)) rfl rfl (by decide) rfl dX6_back_68 ?_
            refine g_aload_n (pc := 69) C 2 dX6_back_69 rfl ?_
            refine gf_RX6_7 (pc := 70) C 0 rfl dX6_back_70 ?_
            refine g_iconst (pc := 73) C 3 dX6_back_73 (by decide) ?_
            refine g_iload_n (pc := 74) C 1 dX6_back_74 rfl ?_
            refine g_iast (pc := 75) C 1 0 (csM cI cS a ((upd (upd m.1 (ix 2) (m.1 (ix (9 + (x1 + (-1)))))) (ix 3) (x1 + (-1))), m.2.1, m.2.2.1, m.2.2.2.1, m.2.2.2.2.1, m.2.2.2.2.2.1, m.2.2.2.2.2.2.1, m.2.2.2.2.2.2.2.1, m.2.2.2.2.2.2.2.2.1, m.2.2.2.2.2.2.2.2.2.1, m.2.2.2.2.2.2.2.2.2.2.1, m.2.2.2.2.2.2.2.2.2.2.2)) rfl rfl (by decide) rfl dX6_back_75 ?_
            refine g_aload_n (pc := 76) C 2 dX6_back_76 rfl ?_
            refine g_iload_n (pc := 77) C 0 dX6_back_77 rfl ?_
            obtain ⟨v78, h78, hf⟩ := Option.bind_eq_some_iff.mp hf
            refine g_callV' (pc := 78) hla C (c_X6_acted l D cI cS a ((upd (upd m.1 (ix 2) (m.1 (ix (9 + (x1 + (-1)))))) (ix 3) (x1 + (-1))), m.2.1, m.2.2.1, m.2.2.2.1, m.2.2.2.2.1, m.2.2.2.2.2.1, m.2.2.2.2.2.2.1, m.2.2.2.2.2.2.2.1, m.2.2.2.2.2.2.2.2.1, m.2.2.2.2.2.2.2.2.2.1, m.2.2.2.2.2.2.2.2.2.2.1, m.2.2.2.2.2.2.2.2.2.2.2) v28 v78 h78) gg_RX6_72 hd_X6_acted (by decide) rfl rfl rfl rfl (Nat.le_of_ble_eq_true rfl) dX6_back_78 (seM_0 cI cS a ((upd (upd m.1 (ix 2) (m.1 (ix (9 + (x1 + (-1)))))) (ix 3) (x1 + (-1))), m.2.1, m.2.2.1, m.2.2.2.1, m.2.2.2.2.1, m.2.2.2.2.2.1, m.2.2.2.2.2.2.1, m.2.2.2.2.2.2.2.1, m.2.2.2.2.2.2.2.2.1, m.2.2.2.2.2.2.2.2.2.1, m.2.2.2.2.2.2.2.2.2.2.1, m.2.2.2.2.2.2.2.2.2.2.2)) (seM_0 cI cS a v78.2).symm [.int v78.1] rfl ?_
            have e := Option.some.inj hf; subst e
            exact g_ri (pc := 81) C rfl (flM cI cS a v78.2) dX6_back_81
  rw [M_back] at hf
  refine g_aload_n (pc := 0) C 0 dX6_back_0 rfl ?_
  obtain ⟨v1, h1, hf⟩ := Option.bind_eq_some_iff.mp hf
  refine g_callV' (pc := 1) hla C (c_X6_begins l D cI cS a m v1 h1) gg_RX6_55 hd_X6_begins (by decide) rfl rfl rfl rfl (Nat.le_of_ble_eq_true rfl) dX6_back_1 (seM_0 cI cS a m) (seM_0 cI cS a v1).symm [] rfl ?_
  refine g_aload_n (pc := 4) C 0 dX6_back_4 rfl ?_
  refine gf_RX6_7 (pc := 5) C 0 rfl dX6_back_5 ?_
  refine g_iconst (pc := 8) C 3 dX6_back_8 (by decide) ?_
  refine g_iald (pc := 9) C 1 0 rfl rfl (by decide) dX6_back_9 ?_
  refine g_istore_n (pc := 10) C [(1, .int (v1.1 (ix 3))), (0, .ref a.1)] dX6_back_10 (by decide) rfl ?_
  refine g_sub [1, 0] (lv' := [(0, .ref a.1), (1, .int (v1.1 (ix 3)))]) rfl ?_
  exact L11 1000 v1 (v1.1 (ix 3)) hf
set_option maxHeartbeats 4000000 in
set_option maxRecDepth 100000 in
theorem c_X6_letter (l : Launch) (D : va_G) (cI cS : ClassId) (a : aM) (m : MD) (x1 : Int32) (out : Int32 × MD) (hf : M_letter m x1 = some out) : kM l D (kTy cI cS) yX6_letter ct_X6_letter rm_X6_letter [.ref a.1, .int x1] [wM cI cS a m] (kEq (some (.int out.1)) [wM cI cS a out.2]) := by
  refine k_methodE cX6_letter 4 (some .int) RX6 rfl [(0, .ref a.1), (1, .int x1)] rfl (by decide +kernel) (Nat.le_of_ble_eq_true rfl) (fun κ A hla C => ?_)
  refine g_chunks (flM cI cS a m).symm ?_
  rw [M_letter] at hf
  refine g_aload_n (pc := 0) C 0 dX6_letter_0 rfl ?_
  obtain ⟨v1, h1, hf⟩ := Option.bind_eq_some_iff.mp hf
  refine g_callV' (pc := 1) hla C (c_X6_begins l D cI cS a m v1 h1) gg_RX6_55 hd_X6_begins (by decide) rfl rfl rfl rfl (Nat.le_of_ble_eq_true rfl) dX6_letter_1 (seM_0 cI cS a m) (seM_0 cI cS a v1).symm [] rfl ?_
  refine g_iload_n (pc := 4) C 1 dX6_letter_4 rfl ?_
  refine g_iconst (pc := 5) C 0 dX6_letter_5 (by decide) ?_
  refine g_bipush (pc := 6) C 25 dX6_letter_6 (by decide) ?_
  obtain ⟨v8, h8, hf⟩ := Option.bind_eq_some_iff.mp hf
  refine g_callS' (pc := 8) hla C (c_X6_in l D cI cS x1 0 25 v8 h8) tb_X6_in m_744 m_X6_in_static m_ini_RX6 hd_X6_in (by decide) rfl rfl (Nat.le_of_ble_eq_true rfl) dX6_letter_8 (seM_nil cI cS a v1) (seM_nil cI cS a v1).symm [.int v8] rfl ?_
  refine g_if_ne (pc := 11) C 16 dX6_letter_11 (by decide) (fun (c11 : ¬ v8 = 0) => ?_) (fun (c11 : v8 = 0) => ?_)
  · have hf := k_neg c11 hf
    refine g_aload_n (pc := 16) C 0 dX6_letter_16 rfl ?_
    obtain ⟨v17, h17, hf⟩ := Option.bind_eq_some_iff.mp hf
    refine g_callV' (pc := 17) hla C (c_X6_place l D cI cS a v1 v17 h17) gg_RX6_58 hd_X6_place (by decide) rfl rfl rfl rfl (Nat.le_of_ble_eq_true rfl) dX6_letter_17 (seM_0 cI cS a v1) (seM_0 cI cS a v1).symm [.int v17] rfl ?_
    refine g_istore_n (pc := 20) C [(2, .int v17), (0, .ref a.1), (1, .int x1)] dX6_letter_20 (by decide) rfl ?_
    refine g_aload_n (pc := 21) C 1 dX6_letter_21 rfl ?_
    refine g_iload_n (pc := 22) C 0 dX6_letter_22 rfl ?_
    obtain ⟨v23, h23, hf⟩ := Option.bind_eq_some_iff.mp hf
    refine g_callV' (pc := 23) hla C (c_X6_sign l D cI cS a v1 v17 v23 h23) gg_RX6_83 hd_X6_sign (by decide) rfl rfl rfl rfl (Nat.le_of_ble_eq_true rfl) dX6_letter_23 (seM_0 cI cS a v1) (seM_0 cI cS a v1).symm [.int v23] rfl ?_
    refine g_istore_n (pc := 26) C [(3, .int v23), (2, .int v17), (0, .ref a.1), (1, .int x1)] dX6_letter_26 (by decide) rfl ?_
    refine g_aload_n (pc := 27) C 2 dX6_letter_27 rfl ?_
    refine gf_RX6_7 (pc := 28) C 0 rfl dX6_letter_28 ?_
    refine g_bipush (pc := 31) C 18 dX6_letter_31 (by decide) ?_
    refine g_iconst (pc := 33) C 3 dX6_letter_33 (by decide) ?_
    refine g_iload_n (pc := 34) C 1 dX6_letter_34 rfl ?_
    refine g_imul (pc := 35) C dX6_letter_35 ?_
    refine g_iadd (pc := 36) C dX6_letter_36 ?_
    refine g_iload_n (pc := 37) C 3 dX6_letter_37 rfl ?_
    obtain ⟨g38, hf⟩ := k_guard hf
    refine g_iast (pc := 38) C 1 0 (csM cI cS a ((upd v1.1 (ix (18 + (3 * v17))) x1), v1.2.1, v1.2.2.1, v1.2.2.2.1, v1.2.2.2.2.1, v1.2.2.2.2.2.1, v1.2.2.2.2.2.2.1, v1.2.2.2.2.2.2.2.1, v1.2.2.2.2.2.2.2.2.1, v1.2.2.2.2.2.2.2.2.2.1, v1.2.2.2.2.2.2.2.2.2.2.1, v1.2.2.2.2.2.2.2.2.2.2.2)) rfl rfl g38 rfl dX6_letter_38 ?_
    refine g_aload_n (pc := 39) C 2 dX6_letter_39 rfl ?_
    refine g_iload_n (pc := 40) C 0 dX6_letter_40 rfl ?_
    obtain ⟨v41, h41, hf⟩ := Option.bind_eq_some_iff.mp hf
    refine g_callV' (pc := 41) hla C (c_X6_acted l D cI cS a ((upd v1.1 (ix (18 + (3 * v17))) x1), v1.2.1, v1.2.2.1, v1.2.2.2.1, v1.2.2.2.2.1, v1.2.2.2.2.2.1, v1.2.2.2.2.2.2.1, v1.2.2.2.2.2.2.2.1, v1.2.2.2.2.2.2.2.2.1, v1.2.2.2.2.2.2.2.2.2.1, v1.2.2.2.2.2.2.2.2.2.2.1, v1.2.2.2.2.2.2.2.2.2.2.2) v23 v41 h41) gg_RX6_72 hd_X6_acted (by decide) rfl rfl rfl rfl (Nat.le_of_ble_eq_true rfl) dX6_letter_41 (seM_0 cI cS a ((upd v1.1 (ix (18 + (3 * v17))) x1), v1.2.1, v1.2.2.1, v1.2.2.2.1, v1.2.2.2.2.1, v1.2.2.2.2.2.1, v1.2.2.2.2.2.2.1, v1.2.2.2.2.2.2.2.1, v1.2.2.2.2.2.2.2.2.1, v1.2.2.2.2.2.2.2.2.2.1, v1.2.2.2.2.2.2.2.2.2.2.1, v1.2.2.2.2.2.2.2.2.2.2.2)) (seM_0 cI cS a v41.2).symm [.int v41.1] rfl ?_
    have e := Option.some.inj hf; subst e
    exact g_ri (pc := 44) C rfl (flM cI cS a v41.2) dX6_letter_44
  · have hf := k_pos c11 hf
    refine g_iconst (pc := 14) C (-1) dX6_letter_14 (by decide) ?_
    have e := Option.some.inj hf; subst e
    exact g_ri (pc := 15) C rfl (flM cI cS a v1) dX6_letter_15
set_option maxHeartbeats 4000000 in
set_option maxRecDepth 100000 in
theorem c_X6_child (l : Launch) (D : va_G) (cI cS : ClassId) (a : aM) (m : MD) (x1 : Int32) (x2 : Int32) (out : Int32 × MD) (hf : M_child m x1 x2 = some out) : kM l D (kTy cI cS) yX6_child ct_X6_child rm_X6_child [.ref a.1, .int x1, .int x2] [wM cI cS a m] (kEq (some (.int out.1)) [wM cI cS a out.2]) := by
  refine k_methodE cX6_child 5 (some .int) RX6 rfl [(0, .ref a.1), (1, .int x1), (2, .int x2)] rfl (by decide +kernel) (Nat.le_of_ble_eq_true rfl) (fun κ A hla C => ?_)
  refine g_chunks (flM cI cS a m).symm ?_
  rw [M_child] at hf
  refine g_aload_n (pc := 0) C 0 dX6_child_0 rfl ?_
  obtain ⟨v1, h1, hf⟩ := Option.bind_eq_some_iff.mp hf
  refine g_callV' (pc := 1) hla C (c_X6_begins l D cI cS a m v1 h1) gg_RX6_55 hd_X6_begins (by decide) rfl rfl rfl rfl (Nat.le_of_ble_eq_true rfl) dX6_child_1 (seM_0 cI cS a m) (seM_0 cI cS a v1).symm [] rfl ?_
  refine g_aload_n (pc := 4) C 0 dX6_child_4 rfl ?_
  obtain ⟨v5, h5, hf⟩ := Option.bind_eq_some_iff.mp hf
  refine g_callV' (pc := 5) hla C (c_X6_place l D cI cS a v1 v5 h5) gg_RX6_58 hd_X6_place (by decide) rfl rfl rfl rfl (Nat.le_of_ble_eq_true rfl) dX6_child_5 (seM_0 cI cS a v1) (seM_0 cI cS a v1).symm [.int v5] rfl ?_
  refine g_istore_n (pc := 8) C [(3, .int v5), (0, .ref a.1), (1, .int x1), (2, .int x2)] dX6_child_8 (by decide) rfl ?_
  refine g_iload_n (pc := 9) C 2 dX6_child_9 rfl ?_
  refine g_iconst (pc := 10) C 0 dX6_child_10 (by decide) ?_
  refine g_aload_n (pc := 11) C 1 dX6_child_11 rfl ?_
  refine g_iload_n (pc := 12) C 0 dX6_child_12 rfl ?_
  obtain ⟨v13, h13, hf⟩ := Option.bind_eq_some_iff.mp hf
  refine g_callV' (pc := 13) hla C (c_X6_children l D cI cS a v1 v5 v13 h13) gg_RX6_62 hd_X6_children (by decide) rfl rfl rfl rfl (Nat.le_of_ble_eq_true rfl) dX6_child_13 (seM_0 cI cS a v1) (seM_0 cI cS a v1).symm [.int v13, .int 0, .int x1] rfl ?_
  obtain ⟨v16, h16, hf⟩ := Option.bind_eq_some_iff.mp hf
  refine g_callS' (pc := 16) hla C (c_X6_in l D cI cS x1 0 v13 v16 h16) tb_X6_in m_744 m_X6_in_static m_ini_RX6 hd_X6_in (by decide) rfl rfl (Nat.le_of_ble_eq_true rfl) dX6_child_16 (seM_nil cI cS a v1) (seM_nil cI cS a v1).symm [.int v16] rfl ?_
  refine g_if_eq (pc := 19) C 32 dX6_child_19 (by decide) (fun (c19 : v16 = 0) => ?_) (fun (c19 : ¬ v16 = 0) => ?_)
  · have hf := k_pos c19 hf
    refine g_iconst (pc := 32) C (-1) dX6_child_32 (by decide) ?_
    have e := Option.some.inj hf; subst e
    exact g_ri (pc := 33) C rfl (flM cI cS a v1) dX6_child_33
  · have hf := k_neg c19 hf
    refine g_iload_n (pc := 22) C 3 dX6_child_22 rfl ?_
    refine g_iconst (pc := 23) C 0 dX6_child_23 (by decide) ?_
    refine g_bipush (pc := 24) C 25 dX6_child_24 (by decide) ?_
    obtain ⟨v26, h26, hf⟩ := Option.bind_eq_some_iff.mp hf
    refine g_callS' (pc := 26) hla C (c_X6_in l D cI cS x2 0 25 v26 h26) tb_X6_in m_744 m_X6_in_static m_ini_RX6 hd_X6_in (by decide) rfl rfl (Nat.le_of_ble_eq_true rfl) dX6_child_26 (seM_nil cI cS a v1) (seM_nil cI cS a v1).symm [.int v26] rfl ?_
    refine g_if_ne (pc := 29) C 34 dX6_child_29 (by decide) (fun (c29 : ¬ v26 = 0) => ?_) (fun (c29 : v26 = 0) => ?_)
    · have hf := k_neg c29 hf
      refine g_aload_n (pc := 34) C 1 dX6_child_34 rfl ?_
      refine gf_RX6_7 (pc := 35) C 0 rfl dX6_child_35 ?_
      refine g_iconst (pc := 38) C 0 dX6_child_38 (by decide) ?_
      refine g_iald (pc := 39) C 1 0 rfl rfl (by decide) dX6_child_39 ?_
      refine g_bipush (pc := 40) C 40 dX6_child_40 (by decide) ?_
      refine g_icmp_eq (pc := 42) C 65 dX6_child_42 (by decide) (fun (c42 : (v1.1 (ix 0)) = 40) => ?_) (fun (c42 : ¬ (v1.1 (ix 0)) = 40) => ?_)
      · have hf := k_pos c42 hf
        refine g_bipush (pc := 65) C (-3) dX6_child_65 (by decide) ?_
        have e := Option.some.inj hf; subst e
        exact g_ri (pc := 67) C rfl (flM cI cS a v1) dX6_child_67
      · have hf := k_neg c42 hf
        refine g_aload_n (pc := 45) C 1 dX6_child_45 rfl ?_
        refine g_iload_n (pc := 46) C 0 dX6_child_46 rfl ?_
        obtain ⟨v47, h47, hf⟩ := Option.bind_eq_some_iff.mp hf
        refine g_callV' (pc := 47) hla C (c_X6_children l D cI cS a v1 v5 v47 h47) gg_RX6_62 hd_X6_children (by decide) rfl rfl rfl rfl (Nat.le_of_ble_eq_true rfl) dX6_child_47 (seM_0 cI cS a v1) (seM_0 cI cS a v1).symm [.int v47] rfl ?_
        refine g_bipush (pc := 50) C 6 dX6_child_50 (by decide) ?_
        refine g_icmp_eq (pc := 52) C 65 dX6_child_52 (by decide) (fun (c52 : v47 = 6) => ?_) (fun (c52 : ¬ v47 = 6) => ?_)
        · have hf := k_pos c52 hf
          refine g_bipush (pc := 65) C (-3) dX6_child_65 (by decide) ?_
          have e := Option.some.inj hf; subst e
          exact g_ri (pc := 67) C rfl (flM cI cS a v1) dX6_child_67
        · have hf := k_neg c52 hf
          refine g_aload_n (pc := 55) C 1 dX6_child_55 rfl ?_
          refine g_iload_n (pc := 56) C 0 dX6_child_56 rfl ?_
          obtain ⟨v57, h57, hf⟩ := Option.bind_eq_some_iff.mp hf
          refine g_callV' (pc := 57) hla C (c_X6_deep l D cI cS a v1 v5 v57 h57) gg_RX6_46 hd_X6_deep (by decide) rfl rfl rfl rfl (Nat.le_of_ble_eq_true rfl) dX6_child_57 (seM_0 cI cS a v1) (seM_0 cI cS a v1).symm [.int v57] rfl ?_
          refine g_bipush (pc := 60) C 7 dX6_child_60 (by decide) ?_
          refine g_icmp_ne (pc := 62) C 68 dX6_child_62 (by decide) (fun (c62 : ¬ v57 = 7) => ?_) (fun (c62 : v57 = 7) => ?_)
          · have hf := k_neg c62 hf
            refine g_aload_n (pc := 68) C 1 dX6_child_68 rfl ?_
            refine g_iload_n (pc := 69) C 0 dX6_child_69 rfl ?_
            refine g_iload_n (pc := 70) C 2 dX6_child_70 rfl ?_
            obtain ⟨v71, h71, hf⟩ := Option.bind_eq_some_iff.mp hf
            refine g_callV' (pc := 71) hla C (c_X6_childOf l D cI cS a v1 v5 x1 v71 h71) gg_RX6_65 hd_X6_childOf (by decide) rfl rfl rfl rfl (Nat.le_of_ble_eq_true rfl) dX6_child_71 (seM_0 cI cS a v1) (seM_0 cI cS a v1).symm [.int v71] rfl ?_
            refine g_istore (pc := 74) C [(4, .int v71), (3, .int v5), (0, .ref a.1), (1, .int x1), (2, .int x2)] dX6_child_74 (by decide) rfl ?_
            refine g_aload_n (pc := 76) C 2 dX6_child_76 rfl ?_
            refine g_iload (pc := 77) C 0 dX6_child_77 rfl ?_
            refine g_iconst (pc := 79) C 1 dX6_child_79 (by decide) ?_
            obtain ⟨v80, h80, hf⟩ := Option.bind_eq_some_iff.mp hf
            refine g_callV' (pc := 80) hla C (c_X6_opens l D cI cS a v1 v71 1 v80 h80) gg_RX6_86 hd_X6_opens (by decide) rfl rfl rfl rfl (Nat.le_of_ble_eq_true rfl) dX6_child_80 (seM_0 cI cS a v1) (seM_0 cI cS a v80).symm [] rfl ?_
            refine g_aload_n (pc := 83) C 2 dX6_child_83 rfl ?_
            refine g_iload (pc := 84) C 0 dX6_child_84 rfl ?_
            refine g_iload_n (pc := 86) C 4 dX6_child_86 rfl ?_
            refine g_aload_n (pc := 87) C 2 dX6_child_87 rfl ?_
            refine g_iload_n (pc := 88) C 1 dX6_child_88 rfl ?_
            obtain ⟨v89, h89, hf⟩ := Option.bind_eq_some_iff.mp hf
            refine g_callV' (pc := 89) hla C (c_X6_deep l D cI cS a v80 v5 v89 h89) gg_RX6_46 hd_X6_deep (by decide) rfl rfl rfl rfl (Nat.le_of_ble_eq_true rfl) dX6_child_89 (seM_0 cI cS a v80) (seM_0 cI cS a v80).symm [.int v89, .int x2, .int v71, .ref a.1] rfl ?_
            refine g_iconst (pc := 92) C 1 dX6_child_92 (by decide) ?_
            refine g_iadd (pc := 93) C dX6_child_93 ?_
            obtain ⟨v94, h94, hf⟩ := Option.bind_eq_some_iff.mp hf
            refine g_callV' (pc := 94) hla C (c_X6_lays l D cI cS a v80 v71 x2 (v89 + 1) v94 h94) gg_RX6_90 hd_X6_lays (by decide) rfl rfl rfl rfl (Nat.le_of_ble_eq_true rfl) dX6_child_94 (seM_0 cI cS a v80) (seM_0 cI cS a v94).symm [] rfl ?_
            refine g_aload_n (pc := 97) C 2 dX6_child_97 rfl ?_
            refine g_aload_n (pc := 98) C 2 dX6_child_98 rfl ?_
            refine g_iload_n (pc := 99) C 1 dX6_child_99 rfl ?_
            obtain ⟨v100, h100, hf⟩ := Option.bind_eq_some_iff.mp hf
            refine g_callV' (pc := 100) hla C (c_X6_children l D cI cS a v94 v5 v100 h100) gg_RX6_62 hd_X6_children (by decide) rfl rfl rfl rfl (Nat.le_of_ble_eq_true rfl) dX6_child_100 (seM_0 cI cS a v94) (seM_0 cI cS a v94).symm [.int v100, .ref a.1] rfl ?_
            obtain ⟨v103, h103, hf⟩ := Option.bind_eq_some_iff.mp hf
            refine g_callV' (pc := 103) hla C (c_X6_acted l D cI cS a v94 v100 v103 h103) gg_RX6_72 hd_X6_acted (by decide) rfl rfl rfl rfl (Nat.le_of_ble_eq_true rfl) dX6_child_103 (seM_0 cI cS a v94) (seM_0 cI cS a v103.2).symm [.int v103.1] rfl ?_
            have e := Option.some.inj hf; subst e
            exact g_ri (pc := 106) C rfl (flM cI cS a v103.2) dX6_child_106
          · have hf := k_pos c62 hf
            refine g_bipush (pc := 65) C (-3) dX6_child_65 (by decide) ?_
            have e := Option.some.inj hf; subst e
            exact g_ri (pc := 67) C rfl (flM cI cS a v1) dX6_child_67
    · have hf := k_pos c29 hf
      refine g_iconst (pc := 32) C (-1) dX6_child_32 (by decide) ?_
      have e := Option.some.inj hf; subst e
      exact g_ri (pc := 33) C rfl (flM cI cS a v1) dX6_child_33
set_option maxHeartbeats 4000000 in
set_option maxRecDepth 100000 in
theorem c_X6_beside (l : Launch) (D : va_G) (cI cS : ClassId) (a : aM) (m : MD) (x1 : Int32) (x2 : Int32) (out : Int32 × MD) (hf : M_beside m x1 x2 = some out) : kM l D (kTy cI cS) yX6_beside ct_X6_beside rm_X6_beside [.ref a.1, .int x1, .int x2] [wM cI cS a m] (kEq (some (.int out.1)) [wM cI cS a out.2]) := by
  refine k_methodE cX6_beside 7 (some .int) RX6 rfl [(0, .ref a.1), (1, .int x1), (2, .int x2)] rfl (by decide +kernel) (Nat.le_of_ble_eq_true rfl) (fun κ A hla C => ?_)
  refine g_chunks (flM cI cS a m).symm ?_
  have J91 : ∀ (m : MD) (x2 : Int32) (x4 : Int32) (x5 : Int32) (s0 : Int32), M_beside_J91 m x2 x4 x5 s0 = some out → kG κ D A 7 0 0 (kF κ D A (some (.int out.1)) [wM cI cS a out.2]) (csM cI cS a m) [(0, .ref a.1), (2, .int x2), (4, .int x4), (5, .int x5)] 91 [.int s0] := by
    intro m x2 x4 x5 s0 hf; rw [M_beside_J91] at hf
    refine g_istore (pc := 91) C [(6, .int s0), (0, .ref a.1), (2, .int x2), (4, .int x4), (5, .int x5)] dX6_beside_91 (by decide) rfl ?_
    refine g_aload_n (pc := 93) C 1 dX6_beside_93 rfl ?_
    refine g_iload (pc := 94) C 0 dX6_beside_94 rfl ?_
    refine g_iconst (pc := 96) C 1 dX6_beside_96 (by decide) ?_
    obtain ⟨v97, h97, hf⟩ := Option.bind_eq_some_iff.mp hf
    refine g_callV' (pc := 97) hla C (c_X6_opens l D cI cS a m s0 1 v97 h97) gg_RX6_86 hd_X6_opens (by decide) rfl rfl rfl rfl (Nat.le_of_ble_eq_true rfl) dX6_beside_97 (seM_0 cI cS a m) (seM_0 cI cS a v97).symm [] rfl ?_
    refine g_aload_n (pc := 100) C 1 dX6_beside_100 rfl ?_
    refine g_iload (pc := 101) C 0 dX6_beside_101 rfl ?_
    refine g_iload_n (pc := 103) C 2 dX6_beside_103 rfl ?_
    refine g_iload (pc := 104) C 4 dX6_beside_104 rfl ?_
    obtain ⟨v106, h106, hf⟩ := Option.bind_eq_some_iff.mp hf
    refine g_callV' (pc := 106) hla C (c_X6_lays l D cI cS a v97 s0 x2 x5 v106 h106) gg_RX6_90 hd_X6_lays (by decide) rfl rfl rfl rfl (Nat.le_of_ble_eq_true rfl) dX6_beside_106 (seM_0 cI cS a v97) (seM_0 cI cS a v106).symm [] rfl ?_
    refine g_aload_n (pc := 109) C 1 dX6_beside_109 rfl ?_
    refine g_aload_n (pc := 110) C 1 dX6_beside_110 rfl ?_
    refine g_iload (pc := 111) C 3 dX6_beside_111 rfl ?_
    obtain ⟨v113, h113, hf⟩ := Option.bind_eq_some_iff.mp hf
    refine g_callV' (pc := 113) hla C (c_X6_children l D cI cS a v106 x4 v113 h113) gg_RX6_62 hd_X6_children (by decide) rfl rfl rfl rfl (Nat.le_of_ble_eq_true rfl) dX6_beside_113 (seM_0 cI cS a v106) (seM_0 cI cS a v106).symm [.int v113, .ref a.1] rfl ?_
    obtain ⟨v116, h116, hf⟩ := Option.bind_eq_some_iff.mp hf
    refine g_callV' (pc := 116) hla C (c_X6_acted l D cI cS a v106 v113 v116 h116) gg_RX6_72 hd_X6_acted (by decide) rfl rfl rfl rfl (Nat.le_of_ble_eq_true rfl) dX6_beside_116 (seM_0 cI cS a v106) (seM_0 cI cS a v116.2).symm [.int v116.1] rfl ?_
    have e := Option.some.inj hf; subst e
    exact g_ri (pc := 119) C rfl (flM cI cS a v116.2) dX6_beside_119
  rw [M_beside] at hf
  refine g_aload_n (pc := 0) C 0 dX6_beside_0 rfl ?_
  obtain ⟨v1, h1, hf⟩ := Option.bind_eq_some_iff.mp hf
  refine g_callV' (pc := 1) hla C (c_X6_begins l D cI cS a m v1 h1) gg_RX6_55 hd_X6_begins (by decide) rfl rfl rfl rfl (Nat.le_of_ble_eq_true rfl) dX6_beside_1 (seM_0 cI cS a m) (seM_0 cI cS a v1).symm [] rfl ?_
  refine g_iload_n (pc := 4) C 1 dX6_beside_4 rfl ?_
  refine g_iconst (pc := 5) C 0 dX6_beside_5 (by decide) ?_
  refine g_iconst (pc := 6) C 1 dX6_beside_6 (by decide) ?_
  obtain ⟨v7, h7, hf⟩ := Option.bind_eq_some_iff.mp hf
  refine g_callS' (pc := 7) hla C (c_X6_in l D cI cS x1 0 1 v7 h7) tb_X6_in m_744 m_X6_in_static m_ini_RX6 hd_X6_in (by decide) rfl rfl (Nat.le_of_ble_eq_true rfl) dX6_beside_7 (seM_nil cI cS a v1) (seM_nil cI cS a v1).symm [.int v7] rfl ?_
  refine g_if_eq (pc := 10) C 23 dX6_beside_10 (by decide) (fun (c10 : v7 = 0) => ?_) (fun (c10 : ¬ v7 = 0) => ?_)
  · have hf := k_pos c10 hf
    refine g_iconst (pc := 23) C (-1) dX6_beside_23 (by decide) ?_
    have e := Option.some.inj hf; subst e
    exact g_ri (pc := 24) C rfl (flM cI cS a v1) dX6_beside_24
  · have hf := k_neg c10 hf
    refine g_iload_n (pc := 13) C 2 dX6_beside_13 rfl ?_
    refine g_iconst (pc := 14) C 0 dX6_beside_14 (by decide) ?_
    refine g_bipush (pc := 15) C 25 dX6_beside_15 (by decide) ?_
    obtain ⟨v17, h17, hf⟩ := Option.bind_eq_some_iff.mp hf
    refine g_callS' (pc := 17) hla C (c_X6_in l D cI cS x2 0 25 v17 h17) tb_X6_in m_744 m_X6_in_static m_ini_RX6 hd_X6_in (by decide) rfl rfl (Nat.le_of_ble_eq_true rfl) dX6_beside_17 (seM_nil cI cS a v1) (seM_nil cI cS a v1).symm [.int v17] rfl ?_
    refine g_if_ne (pc := 20) C 25 dX6_beside_20 (by decide) (fun (c20 : ¬ v17 = 0) => ?_) (fun (c20 : v17 = 0) => ?_)
    · have hf := k_neg c20 hf
      refine g_aload_n (pc := 25) C 0 dX6_beside_25 rfl ?_
      obtain ⟨v26, h26, hf⟩ := Option.bind_eq_some_iff.mp hf
      refine g_callV' (pc := 26) hla C (c_X6_place l D cI cS a v1 v26 h26) gg_RX6_58 hd_X6_place (by decide) rfl rfl rfl rfl (Nat.le_of_ble_eq_true rfl) dX6_beside_26 (seM_0 cI cS a v1) (seM_0 cI cS a v1).symm [.int v26] rfl ?_
      refine g_istore_n (pc := 29) C [(3, .int v26), (0, .ref a.1), (1, .int x1), (2, .int x2)] dX6_beside_29 (by decide) rfl ?_
      refine g_aload_n (pc := 30) C 1 dX6_beside_30 rfl ?_
      refine g_iload_n (pc := 31) C 0 dX6_beside_31 rfl ?_
      obtain ⟨v32, h32, hf⟩ := Option.bind_eq_some_iff.mp hf
      refine g_callV' (pc := 32) hla C (c_X6_above l D cI cS a v1 v26 v32 h32) gg_RX6_52 hd_X6_above (by decide) rfl rfl rfl rfl (Nat.le_of_ble_eq_true rfl) dX6_beside_32 (seM_0 cI cS a v1) (seM_0 cI cS a v1).symm [.int v32] rfl ?_
      refine g_istore (pc := 35) C [(4, .int v32), (3, .int v26), (0, .ref a.1), (1, .int x1), (2, .int x2)] dX6_beside_35 (by decide) rfl ?_
      refine g_iload (pc := 37) C 0 dX6_beside_37 rfl ?_
      refine g_if_ge (pc := 39) C 45 dX6_beside_39 (by decide) (fun (c39 : 0 ≤ v32) => ?_) (fun (c39 : ¬ 0 ≤ v32) => ?_)
      · have hf := k_pos c39 hf
        refine g_aload_n (pc := 45) C 2 dX6_beside_45 rfl ?_
        refine gf_RX6_7 (pc := 46) C 0 rfl dX6_beside_46 ?_
        refine g_iconst (pc := 49) C 0 dX6_beside_49 (by decide) ?_
        refine g_iald (pc := 50) C 1 0 rfl rfl (by decide) dX6_beside_50 ?_
        refine g_bipush (pc := 51) C 40 dX6_beside_51 (by decide) ?_
        refine g_icmp_eq (pc := 53) C 67 dX6_beside_53 (by decide) (fun (c53 : (v1.1 (ix 0)) = 40) => ?_) (fun (c53 : ¬ (v1.1 (ix 0)) = 40) => ?_)
        · have hf := k_pos c53 hf
          refine g_bipush (pc := 67) C (-3) dX6_beside_67 (by decide) ?_
          have e := Option.some.inj hf; subst e
          exact g_ri (pc := 69) C rfl (flM cI cS a v1) dX6_beside_69
        · have hf := k_neg c53 hf
          refine g_aload_n (pc := 56) C 2 dX6_beside_56 rfl ?_
          refine g_iload (pc := 57) C 0 dX6_beside_57 rfl ?_
          obtain ⟨v59, h59, hf⟩ := Option.bind_eq_some_iff.mp hf
          refine g_callV' (pc := 59) hla C (c_X6_children l D cI cS a v1 v32 v59 h59) gg_RX6_62 hd_X6_children (by decide) rfl rfl rfl rfl (Nat.le_of_ble_eq_true rfl) dX6_beside_59 (seM_0 cI cS a v1) (seM_0 cI cS a v1).symm [.int v59] rfl ?_
          refine g_bipush (pc := 62) C 6 dX6_beside_62 (by decide) ?_
          refine g_icmp_ne (pc := 64) C 70 dX6_beside_64 (by decide) (fun (c64 : ¬ v59 = 6) => ?_) (fun (c64 : v59 = 6) => ?_)
          · have hf := k_neg c64 hf
            refine g_aload_n (pc := 70) C 2 dX6_beside_70 rfl ?_
            refine g_iload_n (pc := 71) C 1 dX6_beside_71 rfl ?_
            obtain ⟨v72, h72, hf⟩ := Option.bind_eq_some_iff.mp hf
            refine g_callV' (pc := 72) hla C (c_X6_deep l D cI cS a v1 v26 v72 h72) gg_RX6_46 hd_X6_deep (by decide) rfl rfl rfl rfl (Nat.le_of_ble_eq_true rfl) dX6_beside_72 (seM_0 cI cS a v1) (seM_0 cI cS a v1).symm [.int v72] rfl ?_
            refine g_istore (pc := 75) C [(5, .int v72), (4, .int v32), (3, .int v26), (0, .ref a.1), (1, .int x1), (2, .int x2)] dX6_beside_75 (by decide) rfl ?_
            refine g_iload_n (pc := 77) C 4 dX6_beside_77 rfl ?_
            refine g_iconst (pc := 78) C 1 dX6_beside_78 (by decide) ?_
            refine g_icmp_ne (pc := 79) C 90 dX6_beside_79 (by decide) (fun (c79 : ¬ x1 = 1) => ?_) (fun (c79 : x1 = 1) => ?_)
            · have hf := k_neg c79 hf
              refine g_iload_n (pc := 90) C 2 dX6_beside_90 rfl ?_
              refine g_sub [3, 5, 1, 0] (lv' := [(0, .ref a.1), (2, .int x2), (4, .int v32), (5, .int v72)]) rfl ?_
              exact J91 v1 x2 v32 v72 v26 hf
            · have hf := k_pos c79 hf
              refine g_aload_n (pc := 82) C 3 dX6_beside_82 rfl ?_
              refine g_iload_n (pc := 83) C 2 dX6_beside_83 rfl ?_
              obtain ⟨v84, h84, hf⟩ := Option.bind_eq_some_iff.mp hf
              refine g_callV' (pc := 84) hla C (c_X6_end l D cI cS a v1 v26 v84 h84) gg_RX6_49 hd_X6_end (by decide) rfl rfl rfl rfl (Nat.le_of_ble_eq_true rfl) dX6_beside_84 (seM_0 cI cS a v1) (seM_0 cI cS a v1).symm [.int v84] rfl ?_
              refine g_goto (pc := 87) C 91 dX6_beside_87 (by decide) ?_
              refine g_sub [3, 5, 1, 0] (lv' := [(0, .ref a.1), (2, .int x2), (4, .int v32), (5, .int v72)]) rfl ?_
              exact J91 v1 x2 v32 v72 v84 hf
          · have hf := k_pos c64 hf
            refine g_bipush (pc := 67) C (-3) dX6_beside_67 (by decide) ?_
            have e := Option.some.inj hf; subst e
            exact g_ri (pc := 69) C rfl (flM cI cS a v1) dX6_beside_69
      · have hf := k_neg c39 hf
        refine g_bipush (pc := 42) C (-2) dX6_beside_42 (by decide) ?_
        have e := Option.some.inj hf; subst e
        exact g_ri (pc := 44) C rfl (flM cI cS a v1) dX6_beside_44
    · have hf := k_pos c20 hf
      refine g_iconst (pc := 23) C (-1) dX6_beside_23 (by decide) ?_
      have e := Option.some.inj hf; subst e
      exact g_ri (pc := 24) C rfl (flM cI cS a v1) dX6_beside_24
set_option maxHeartbeats 4000000 in
set_option maxRecDepth 100000 in
theorem c_X6_goes (l : Launch) (D : va_G) (cI cS : ClassId) (a : aM) (m : MD) (out : Int32 × MD) (hf : M_goes m = some out) : kM l D (kTy cI cS) yX6_goes ct_X6_goes rm_X6_goes [.ref a.1] [wM cI cS a m] (kEq (some (.int out.1)) [wM cI cS a out.2]) := by
  refine k_methodE cX6_goes 4 (some .int) RX6 rfl [(0, .ref a.1)] rfl (by decide +kernel) (Nat.le_of_ble_eq_true rfl) (fun κ A hla C => ?_)
  refine g_chunks (flM cI cS a m).symm ?_
  have J48 : ∀ (m : MD) (x1 : Int32) (x2 : Int32) (s0 : Int32), M_goes_J48 m x1 x2 s0 = some out → kG κ D A 4 0 0 (kF κ D A (some (.int out.1)) [wM cI cS a out.2]) (csM cI cS a m) [(0, .ref a.1), (1, .int x1), (2, .int x2)] 48 [.int s0] := by
    intro m x1 x2 s0 hf; rw [M_goes_J48] at hf
    refine g_istore_n (pc := 48) C [(3, .int s0), (0, .ref a.1), (1, .int x1), (2, .int x2)] dX6_goes_48 (by decide) rfl ?_
    refine g_aload_n (pc := 49) C 1 dX6_goes_49 rfl ?_
    refine gf_RX6_7 (pc := 50) C 0 rfl dX6_goes_50 ?_
    refine g_iconst (pc := 53) C 2 dX6_goes_53 (by decide) ?_
    refine g_aload_n (pc := 54) C 1 dX6_goes_54 rfl ?_
    refine g_iload_n (pc := 55) C 0 dX6_goes_55 rfl ?_
    obtain ⟨v56, h56, hf⟩ := Option.bind_eq_some_iff.mp hf
    refine g_callV' (pc := 56) hla C (c_X6_own l D cI cS a m s0 v56 h56) gg_RX6_39 hd_X6_own (by decide) rfl rfl rfl rfl (Nat.le_of_ble_eq_true rfl) dX6_goes_56 (seM_0 cI cS a m) (seM_0 cI cS a m).symm [.int v56, .int 2, .ref a.2.1] rfl ?_
    refine g_iast (pc := 59) C 1 0 (csM cI cS a ((upd m.1 (ix 2) v56), m.2.1, m.2.2.1, m.2.2.2.1, m.2.2.2.2.1, m.2.2.2.2.2.1, m.2.2.2.2.2.2.1, m.2.2.2.2.2.2.2.1, m.2.2.2.2.2.2.2.2.1, m.2.2.2.2.2.2.2.2.2.1, m.2.2.2.2.2.2.2.2.2.2.1, m.2.2.2.2.2.2.2.2.2.2.2)) rfl rfl (by decide) rfl dX6_goes_59 ?_
    refine g_aload_n (pc := 60) C 1 dX6_goes_60 rfl ?_
    refine g_iload_n (pc := 61) C 2 dX6_goes_61 rfl ?_
    refine g_iload_n (pc := 62) C 3 dX6_goes_62 rfl ?_
    obtain ⟨v63, h63, hf⟩ := Option.bind_eq_some_iff.mp hf
    refine g_callV' (pc := 63) hla C (c_X6_closes l D cI cS a ((upd m.1 (ix 2) v56), m.2.1, m.2.2.1, m.2.2.2.1, m.2.2.2.2.1, m.2.2.2.2.2.1, m.2.2.2.2.2.2.1, m.2.2.2.2.2.2.2.1, m.2.2.2.2.2.2.2.2.1, m.2.2.2.2.2.2.2.2.2.1, m.2.2.2.2.2.2.2.2.2.2.1, m.2.2.2.2.2.2.2.2.2.2.2) x1 x2 v63 h63) gg_RX6_94 hd_X6_closes (by decide) rfl rfl rfl rfl (Nat.le_of_ble_eq_true rfl) dX6_goes_63 (seM_0 cI cS a ((upd m.1 (ix 2) v56), m.2.1, m.2.2.1, m.2.2.2.1, m.2.2.2.2.1, m.2.2.2.2.2.1, m.2.2.2.2.2.2.1, m.2.2.2.2.2.2.2.1, m.2.2.2.2.2.2.2.2.1, m.2.2.2.2.2.2.2.2.2.1, m.2.2.2.2.2.2.2.2.2.2.1, m.2.2.2.2.2.2.2.2.2.2.2)) (seM_0 cI cS a v63).symm [] rfl ?_
    refine g_iload_n (pc := 66) C 3 dX6_goes_66 rfl ?_
    have e := Option.some.inj hf; subst e
    exact g_ri (pc := 67) C rfl (flM cI cS a v63) dX6_goes_67
  have J34 : ∀ (m : MD) (x1 : Int32) (x2 : Int32) (s0 : Int32), M_goes_J34 m x1 x2 s0 = some out → kG κ D A 4 0 0 (kF κ D A (some (.int out.1)) [wM cI cS a out.2]) (csM cI cS a m) [(0, .ref a.1), (1, .int x1), (2, .int x2)] 34 [.int s0] := by
    intro m x1 x2 s0 hf; rw [M_goes_J34] at hf
    refine g_istore_n (pc := 34) C [(3, .int s0), (0, .ref a.1), (1, .int x1), (2, .int x2)] dX6_goes_34 (by decide) rfl ?_
    refine g_iload_n (pc := 35) C 0 dX6_goes_35 rfl ?_
    refine g_if_ge (pc := 36) C 47 dX6_goes_36 (by decide) (fun (c36 : 0 ≤ s0) => ?_) (fun (c36 : ¬ 0 ≤ s0) => ?_)
    · have hf := k_pos c36 hf
      refine g_iload_n (pc := 47) C 0 dX6_goes_47 rfl ?_
      refine g_sub [1, 2, 3] (lv' := [(0, .ref a.1), (1, .int x1), (2, .int x2)]) rfl ?_
      exact J48 m x1 x2 s0 hf
    · have hf := k_neg c36 hf
      refine g_aload_n (pc := 39) C 1 dX6_goes_39 rfl ?_
      refine g_iload_n (pc := 40) C 2 dX6_goes_40 rfl ?_
      obtain ⟨v41, h41, hf⟩ := Option.bind_eq_some_iff.mp hf
      refine g_callV' (pc := 41) hla C (c_X6_above l D cI cS a m x1 v41 h41) gg_RX6_52 hd_X6_above (by decide) rfl rfl rfl rfl (Nat.le_of_ble_eq_true rfl) dX6_goes_41 (seM_0 cI cS a m) (seM_0 cI cS a m).symm [.int v41] rfl ?_
      refine g_goto (pc := 44) C 48 dX6_goes_44 (by decide) ?_
      refine g_sub [1, 2, 3] (lv' := [(0, .ref a.1), (1, .int x1), (2, .int x2)]) rfl ?_
      exact J48 m x1 x2 v41 hf
  rw [M_goes] at hf
  refine g_aload_n (pc := 0) C 0 dX6_goes_0 rfl ?_
  obtain ⟨v1, h1, hf⟩ := Option.bind_eq_some_iff.mp hf
  refine g_callV' (pc := 1) hla C (c_X6_place l D cI cS a m v1 h1) gg_RX6_58 hd_X6_place (by decide) rfl rfl rfl rfl (Nat.le_of_ble_eq_true rfl) dX6_goes_1 (seM_0 cI cS a m) (seM_0 cI cS a m).symm [.int v1] rfl ?_
  refine g_istore_n (pc := 4) C [(1, .int v1), (0, .ref a.1)] dX6_goes_4 (by decide) rfl ?_
  refine g_aload_n (pc := 5) C 1 dX6_goes_5 rfl ?_
  refine g_iload_n (pc := 6) C 0 dX6_goes_6 rfl ?_
  obtain ⟨v7, h7, hf⟩ := Option.bind_eq_some_iff.mp hf
  refine g_callV' (pc := 7) hla C (c_X6_end l D cI cS a m v1 v7 h7) gg_RX6_49 hd_X6_end (by decide) rfl rfl rfl rfl (Nat.le_of_ble_eq_true rfl) dX6_goes_7 (seM_0 cI cS a m) (seM_0 cI cS a m).symm [.int v7] rfl ?_
  refine g_iload_n (pc := 10) C 0 dX6_goes_10 rfl ?_
  refine g_isub (pc := 11) C dX6_goes_11 ?_
  refine g_istore_n (pc := 12) C [(2, .int (v7 - v1)), (1, .int v1), (0, .ref a.1)] dX6_goes_12 (by decide) rfl ?_
  refine g_aload_n (pc := 13) C 2 dX6_goes_13 rfl ?_
  refine g_iload_n (pc := 14) C 1 dX6_goes_14 rfl ?_
  refine g_iconst (pc := 15) C 1 dX6_goes_15 (by decide) ?_
  obtain ⟨v16, h16, hf⟩ := Option.bind_eq_some_iff.mp hf
  refine g_callV' (pc := 16) hla C (c_X6_besides l D cI cS a m v1 1 v16 h16) gg_RX6_75 hd_X6_besides (by decide) rfl rfl rfl rfl (Nat.le_of_ble_eq_true rfl) dX6_goes_16 (seM_0 cI cS a m) (seM_0 cI cS a m).symm [.int v16] rfl ?_
  refine g_istore_n (pc := 19) C [(3, .int v16), (2, .int (v7 - v1)), (1, .int v1), (0, .ref a.1)] dX6_goes_19 (by decide) rfl ?_
  refine g_iload_n (pc := 20) C 0 dX6_goes_20 rfl ?_
  refine g_if_ge (pc := 21) C 33 dX6_goes_21 (by decide) (fun (c21 : 0 ≤ v16) => ?_) (fun (c21 : ¬ 0 ≤ v16) => ?_)
  · have hf := k_pos c21 hf
    refine g_iload_n (pc := 33) C 0 dX6_goes_33 rfl ?_
    refine g_sub [3, 2, 1] (lv' := [(0, .ref a.1), (1, .int v1), (2, .int (v7 - v1))]) rfl ?_
    exact J34 m v1 (v7 - v1) v16 hf
  · have hf := k_neg c21 hf
    refine g_aload_n (pc := 24) C 3 dX6_goes_24 rfl ?_
    refine g_iload_n (pc := 25) C 2 dX6_goes_25 rfl ?_
    refine g_iconst (pc := 26) C 0 dX6_goes_26 (by decide) ?_
    obtain ⟨v27, h27, hf⟩ := Option.bind_eq_some_iff.mp hf
    refine g_callV' (pc := 27) hla C (c_X6_besides l D cI cS a m v1 0 v27 h27) gg_RX6_75 hd_X6_besides (by decide) rfl rfl rfl rfl (Nat.le_of_ble_eq_true rfl) dX6_goes_27 (seM_0 cI cS a m) (seM_0 cI cS a m).symm [.int v27] rfl ?_
    refine g_goto (pc := 30) C 34 dX6_goes_30 (by decide) ?_
    refine g_sub [3, 2, 1] (lv' := [(0, .ref a.1), (1, .int v1), (2, .int (v7 - v1))]) rfl ?_
    exact J34 m v1 (v7 - v1) v27 hf
set_option maxHeartbeats 4000000 in
set_option maxRecDepth 100000 in
theorem c_X6_clips (l : Launch) (D : va_G) (cI cS : ClassId) (a : aM) (m : MD) (out : MD) (hf : M_clips m = some out) : kM l D (kTy cI cS) yX6_clips ct_X6_clips rm_X6_clips [.ref a.1] [wM cI cS a m] (kEq (none) [wM cI cS a out]) := by
  refine k_methodE cX6_clips 3 none RX6 rfl [(0, .ref a.1)] rfl (by decide +kernel) (Nat.le_of_ble_eq_true rfl) (fun κ A hla C => ?_)
  refine g_chunks (flM cI cS a m).symm ?_
  have L20 : ∀ (fu : Nat) (m : MD) (x1 : Int32) (x2 : Int32), M_clips_L20 fu m x1 x2 = some out → kG κ D A 3 0 0 (kF κ D A (none) [wM cI cS a out]) (csM cI cS a m) [(0, .ref a.1), (1, .int x1), (2, .int x2)] 20 [] := by
    intro fu; induction fu with
    | zero => intro m x1 x2 hf; rw [M_clips_L20] at hf; cases hf
    | succ fu ih =>
      intro m x1 x2 hf; rw [M_clips_L20] at hf
      refine g_iload_n (pc := 20) C 2 dX6_clips_20 rfl ?_
      refine g_aload_n (pc := 21) C 0 dX6_clips_21 rfl ?_
      refine gf_RX6_7 (pc := 22) C 0 rfl dX6_clips_22 ?_
      refine g_iconst (pc := 25) C 4 dX6_clips_25 (by decide) ?_
      refine g_iald (pc := 26) C 1 0 rfl rfl (by decide) dX6_clips_26 ?_
      refine g_icmp_ge (pc := 27) C 82 dX6_clips_27 (by decide) (fun (c27 : (m.1 (ix 4)) ≤ x2) => ?_) (fun (c27 : ¬ (m.1 (ix 4)) ≤ x2) => ?_)
      · have hf := k_pos c27 hf
        have e := Option.some.inj hf; subst e
        exact g_rv (pc := 82) C rfl (flM cI cS a m) dX6_clips_82
      · have hf := k_neg c27 hf
        refine g_aload_n (pc := 30) C 0 dX6_clips_30 rfl ?_
        refine gf_RX6_7 (pc := 31) C 0 rfl dX6_clips_31 ?_
        refine g_sipush (pc := 34) C 138 dX6_clips_34 (by decide) ?_
        refine g_iconst (pc := 37) C 2 dX6_clips_37 (by decide) ?_
        refine g_iload_n (pc := 38) C 2 dX6_clips_38 rfl ?_
        refine g_imul (pc := 39) C dX6_clips_39 ?_
        refine g_iadd (pc := 40) C dX6_clips_40 ?_
        refine g_aload_n (pc := 41) C 0 dX6_clips_41 rfl ?_
        refine g_iload_n (pc := 42) C 1 dX6_clips_42 rfl ?_
        refine g_iload_n (pc := 43) C 2 dX6_clips_43 rfl ?_
        refine g_iadd (pc := 44) C dX6_clips_44 ?_
        obtain ⟨v45, h45, hf⟩ := Option.bind_eq_some_iff.mp hf
        refine g_callV' (pc := 45) hla C (c_X6_sign l D cI cS a m (x1 + x2) v45 h45) gg_RX6_83 hd_X6_sign (by decide) rfl rfl rfl rfl (Nat.le_of_ble_eq_true rfl) dX6_clips_45 (seM_0 cI cS a m) (seM_0 cI cS a m).symm [.int v45, .int (138 + (2 * x2)), .ref a.2.1] rfl ?_
        obtain ⟨g48, hf⟩ := k_guard hf
        refine g_iast (pc := 48) C 1 0 (csM cI cS a ((upd m.1 (ix (138 + (2 * x2))) v45), m.2.1, m.2.2.1, m.2.2.2.1, m.2.2.2.2.1, m.2.2.2.2.2.1, m.2.2.2.2.2.2.1, m.2.2.2.2.2.2.2.1, m.2.2.2.2.2.2.2.2.1, m.2.2.2.2.2.2.2.2.2.1, m.2.2.2.2.2.2.2.2.2.2.1, m.2.2.2.2.2.2.2.2.2.2.2)) rfl rfl g48 rfl dX6_clips_48 ?_
        refine g_aload_n (pc := 49) C 0 dX6_clips_49 rfl ?_
        refine gf_RX6_7 (pc := 50) C 0 rfl dX6_clips_50 ?_
        refine g_sipush (pc := 53) C 138 dX6_clips_53 (by decide) ?_
        refine g_iconst (pc := 56) C 2 dX6_clips_56 (by decide) ?_
        refine g_iload_n (pc := 57) C 2 dX6_clips_57 rfl ?_
        refine g_imul (pc := 58) C dX6_clips_58 ?_
        refine g_iadd (pc := 59) C dX6_clips_59 ?_
        refine g_iconst (pc := 60) C 1 dX6_clips_60 (by decide) ?_
        refine g_iadd (pc := 61) C dX6_clips_61 ?_
        refine g_aload_n (pc := 62) C 0 dX6_clips_62 rfl ?_
        refine g_iload_n (pc := 63) C 1 dX6_clips_63 rfl ?_
        refine g_iload_n (pc := 64) C 2 dX6_clips_64 rfl ?_
        refine g_iadd (pc := 65) C dX6_clips_65 ?_
        obtain ⟨v66, h66, hf⟩ := Option.bind_eq_some_iff.mp hf
        refine g_callV' (pc := 66) hla C (c_X6_deep l D cI cS a ((upd m.1 (ix (138 + (2 * x2))) v45), m.2.1, m.2.2.1, m.2.2.2.1, m.2.2.2.2.1, m.2.2.2.2.2.1, m.2.2.2.2.2.2.1, m.2.2.2.2.2.2.2.1, m.2.2.2.2.2.2.2.2.1, m.2.2.2.2.2.2.2.2.2.1, m.2.2.2.2.2.2.2.2.2.2.1, m.2.2.2.2.2.2.2.2.2.2.2) (x1 + x2) v66 h66) gg_RX6_46 hd_X6_deep (by decide) rfl rfl rfl rfl (Nat.le_of_ble_eq_true rfl) dX6_clips_66 (seM_0 cI cS a ((upd m.1 (ix (138 + (2 * x2))) v45), m.2.1, m.2.2.1, m.2.2.2.1, m.2.2.2.2.1, m.2.2.2.2.2.1, m.2.2.2.2.2.2.1, m.2.2.2.2.2.2.2.1, m.2.2.2.2.2.2.2.2.1, m.2.2.2.2.2.2.2.2.2.1, m.2.2.2.2.2.2.2.2.2.2.1, m.2.2.2.2.2.2.2.2.2.2.2)) (seM_0 cI cS a ((upd m.1 (ix (138 + (2 * x2))) v45), m.2.1, m.2.2.1, m.2.2.2.1, m.2.2.2.2.1, m.2.2.2.2.2.1, m.2.2.2.2.2.2.1, m.2.2.2.2.2.2.2.1, m.2.2.2.2.2.2.2.2.1, m.2.2.2.2.2.2.2.2.2.1, m.2.2.2.2.2.2.2.2.2.2.1, m.2.2.2.2.2.2.2.2.2.2.2)).symm [.int v66, .int ((138 + (2 * x2)) + 1), .ref a.2.1] rfl ?_
        refine g_aload_n (pc := 69) C 0 dX6_clips_69 rfl ?_
        refine g_iload_n (pc := 70) C 1 dX6_clips_70 rfl ?_
        obtain ⟨v71, h71, hf⟩ := Option.bind_eq_some_iff.mp hf
        refine g_callV' (pc := 71) hla C (c_X6_deep l D cI cS a ((upd m.1 (ix (138 + (2 * x2))) v45), m.2.1, m.2.2.1, m.2.2.2.1, m.2.2.2.2.1, m.2.2.2.2.2.1, m.2.2.2.2.2.2.1, m.2.2.2.2.2.2.2.1, m.2.2.2.2.2.2.2.2.1, m.2.2.2.2.2.2.2.2.2.1, m.2.2.2.2.2.2.2.2.2.2.1, m.2.2.2.2.2.2.2.2.2.2.2) x1 v71 h71) gg_RX6_46 hd_X6_deep (by decide) rfl rfl rfl rfl (Nat.le_of_ble_eq_true rfl) dX6_clips_71 (seM_0 cI cS a ((upd m.1 (ix (138 + (2 * x2))) v45), m.2.1, m.2.2.1, m.2.2.2.1, m.2.2.2.2.1, m.2.2.2.2.2.1, m.2.2.2.2.2.2.1, m.2.2.2.2.2.2.2.1, m.2.2.2.2.2.2.2.2.1, m.2.2.2.2.2.2.2.2.2.1, m.2.2.2.2.2.2.2.2.2.2.1, m.2.2.2.2.2.2.2.2.2.2.2)) (seM_0 cI cS a ((upd m.1 (ix (138 + (2 * x2))) v45), m.2.1, m.2.2.1, m.2.2.2.1, m.2.2.2.2.1, m.2.2.2.2.2.1, m.2.2.2.2.2.2.1, m.2.2.2.2.2.2.2.1, m.2.2.2.2.2.2.2.2.1, m.2.2.2.2.2.2.2.2.2.1, m.2.2.2.2.2.2.2.2.2.2.1, m.2.2.2.2.2.2.2.2.2.2.2)).symm [.int v71, .int v66, .int ((138 + (2 * x2)) + 1), .ref a.2.1] rfl ?_
        refine g_isub (pc := 74) C dX6_clips_74 ?_
        obtain ⟨g75, hf⟩ := k_guard hf
        refine g_iast (pc := 75) C 1 0 (csM cI cS a ((upd (upd m.1 (ix (138 + (2 * x2))) v45) (ix ((138 + (2 * x2)) + 1)) (v66 - v71)), m.2.1, m.2.2.1, m.2.2.2.1, m.2.2.2.2.1, m.2.2.2.2.2.1, m.2.2.2.2.2.2.1, m.2.2.2.2.2.2.2.1, m.2.2.2.2.2.2.2.2.1, m.2.2.2.2.2.2.2.2.2.1, m.2.2.2.2.2.2.2.2.2.2.1, m.2.2.2.2.2.2.2.2.2.2.2)) rfl rfl g75 rfl dX6_clips_75 ?_
        refine g_iinc (pc := 76) C 2 (x2 + 1) [(2, .int (x2 + 1)), (0, .ref a.1), (1, .int x1)] dX6_clips_76 rfl (congrArg (HAdd.hAdd _) (by decide)) (by decide) rfl ?_
        refine g_goto (pc := 79) C 20 dX6_clips_79 (by decide) ?_
        refine g_sub [1, 2, 0] (lv' := [(0, .ref a.1), (1, .int x1), (2, .int (x2 + 1))]) rfl ?_
        exact ih ((upd (upd m.1 (ix (138 + (2 * x2))) v45) (ix ((138 + (2 * x2)) + 1)) (v66 - v71)), m.2.1, m.2.2.1, m.2.2.2.1, m.2.2.2.2.1, m.2.2.2.2.2.1, m.2.2.2.2.2.2.1, m.2.2.2.2.2.2.2.1, m.2.2.2.2.2.2.2.2.1, m.2.2.2.2.2.2.2.2.2.1, m.2.2.2.2.2.2.2.2.2.2.1, m.2.2.2.2.2.2.2.2.2.2.2) x1 (x2 + 1) hf
  rw [M_clips] at hf
  refine g_aload_n (pc := 0) C 0 dX6_clips_0 rfl ?_
  obtain ⟨v1, h1, hf⟩ := Option.bind_eq_some_iff.mp hf
  refine g_callV' (pc := 1) hla C (c_X6_place l D cI cS a m v1 h1) gg_RX6_58 hd_X6_place (by decide) rfl rfl rfl rfl (Nat.le_of_ble_eq_true rfl) dX6_clips_1 (seM_0 cI cS a m) (seM_0 cI cS a m).symm [.int v1] rfl ?_
  refine g_istore_n (pc := 4) C [(1, .int v1), (0, .ref a.1)] dX6_clips_4 (by decide) rfl ?_
  refine g_aload_n (pc := 5) C 1 dX6_clips_5 rfl ?_
  refine gf_RX6_7 (pc := 6) C 0 rfl dX6_clips_6 ?_
  refine g_iconst (pc := 9) C 4 dX6_clips_9 (by decide) ?_
  refine g_aload_n (pc := 10) C 1 dX6_clips_10 rfl ?_
  refine g_iload_n (pc := 11) C 0 dX6_clips_11 rfl ?_
  obtain ⟨v12, h12, hf⟩ := Option.bind_eq_some_iff.mp hf
  refine g_callV' (pc := 12) hla C (c_X6_end l D cI cS a m v1 v12 h12) gg_RX6_49 hd_X6_end (by decide) rfl rfl rfl rfl (Nat.le_of_ble_eq_true rfl) dX6_clips_12 (seM_0 cI cS a m) (seM_0 cI cS a m).symm [.int v12, .int 4, .ref a.2.1] rfl ?_
  refine g_iload_n (pc := 15) C 0 dX6_clips_15 rfl ?_
  refine g_isub (pc := 16) C dX6_clips_16 ?_
  refine g_iast (pc := 17) C 1 0 (csM cI cS a ((upd m.1 (ix 4) (v12 - v1)), m.2.1, m.2.2.1, m.2.2.2.1, m.2.2.2.2.1, m.2.2.2.2.2.1, m.2.2.2.2.2.2.1, m.2.2.2.2.2.2.2.1, m.2.2.2.2.2.2.2.2.1, m.2.2.2.2.2.2.2.2.2.1, m.2.2.2.2.2.2.2.2.2.2.1, m.2.2.2.2.2.2.2.2.2.2.2)) rfl rfl (by decide) rfl dX6_clips_17 ?_
  refine g_iconst (pc := 18) C 0 dX6_clips_18 (by decide) ?_
  refine g_istore_n (pc := 19) C [(2, .int 0), (1, .int v1), (0, .ref a.1)] dX6_clips_19 (by decide) rfl ?_
  refine g_sub [2, 1, 0] (lv' := [(0, .ref a.1), (1, .int v1), (2, .int 0)]) rfl ?_
  exact L20 1000 ((upd m.1 (ix 4) (v12 - v1)), m.2.1, m.2.2.1, m.2.2.2.1, m.2.2.2.2.1, m.2.2.2.2.2.1, m.2.2.2.2.2.2.1, m.2.2.2.2.2.2.2.1, m.2.2.2.2.2.2.2.2.1, m.2.2.2.2.2.2.2.2.2.1, m.2.2.2.2.2.2.2.2.2.2.1, m.2.2.2.2.2.2.2.2.2.2.2) v1 0 hf
set_option maxHeartbeats 4000000 in
set_option maxRecDepth 100000 in
theorem c_X6_forgets (l : Launch) (D : va_G) (cI cS : ClassId) (a : aM) (m : MD) (out : MD) (hf : M_forgets m = some out) : kM l D (kTy cI cS) yX6_forgets ct_X6_forgets rm_X6_forgets [.ref a.1] [wM cI cS a m] (kEq (none) [wM cI cS a out]) := by
  refine k_methodE cX6_forgets 2 none RX6 rfl [(0, .ref a.1)] rfl (by decide +kernel) (Nat.le_of_ble_eq_true rfl) (fun κ A hla C => ?_)
  refine g_chunks (flM cI cS a m).symm ?_
  have L2 : ∀ (fu : Nat) (m : MD) (x1 : Int32), M_forgets_L2 fu m x1 = some out → kG κ D A 2 0 0 (kF κ D A (none) [wM cI cS a out]) (csM cI cS a m) [(0, .ref a.1), (1, .int x1)] 2 [] := by
    intro fu; induction fu with
    | zero => intro m x1 hf; rw [M_forgets_L2] at hf; cases hf
    | succ fu ih =>
      intro m x1 hf; rw [M_forgets_L2] at hf
      refine g_iload_n (pc := 2) C 1 dX6_forgets_2 rfl ?_
      refine g_iconst (pc := 3) C 4 dX6_forgets_3 (by decide) ?_
      refine g_icmp_ge (pc := 4) C 48 dX6_forgets_4 (by decide) (fun (c4 : 4 ≤ x1) => ?_) (fun (c4 : ¬ 4 ≤ x1) => ?_)
      · have hf := k_pos c4 hf
        have e := Option.some.inj hf; subst e
        exact g_rv (pc := 48) C rfl (flM cI cS a m) dX6_forgets_48
      · have hf := k_neg c4 hf
        refine g_aload_n (pc := 7) C 0 dX6_forgets_7 rfl ?_
        refine gf_RX6_7 (pc := 8) C 0 rfl dX6_forgets_8 ?_
        refine g_iconst (pc := 11) C 5 dX6_forgets_11 (by decide) ?_
        refine g_iload_n (pc := 12) C 1 dX6_forgets_12 rfl ?_
        refine g_iadd (pc := 13) C dX6_forgets_13 ?_
        refine g_aload_n (pc := 14) C 0 dX6_forgets_14 rfl ?_
        refine g_aload_n (pc := 15) C 0 dX6_forgets_15 rfl ?_
        refine gf_RX6_7 (pc := 16) C 0 rfl dX6_forgets_16 ?_
        refine g_iconst (pc := 19) C 5 dX6_forgets_19 (by decide) ?_
        refine g_iload_n (pc := 20) C 1 dX6_forgets_20 rfl ?_
        refine g_iadd (pc := 21) C dX6_forgets_21 ?_
        obtain ⟨g22, hf⟩ := k_guard hf
        refine g_iald (pc := 22) C 1 0 rfl rfl g22 dX6_forgets_22 ?_
        obtain ⟨v23, h23, hf⟩ := Option.bind_eq_some_iff.mp hf
        refine g_callV' (pc := 23) hla C (c_X6_numberOf l D cI cS a m (m.1 (ix (5 + x1))) v23 h23) gg_RX6_43 hd_X6_numberOf (by decide) rfl rfl rfl rfl (Nat.le_of_ble_eq_true rfl) dX6_forgets_23 (seM_0 cI cS a m) (seM_0 cI cS a m).symm [.int v23, .int (5 + x1), .ref a.2.1] rfl ?_
        refine g_if_ge (pc := 26) C 33 dX6_forgets_26 (by decide) (fun (c26 : 0 ≤ v23) => ?_) (fun (c26 : ¬ 0 ≤ v23) => ?_)
        · have hf := k_pos c26 hf
          refine g_aload_n (pc := 33) C 0 dX6_forgets_33 rfl ?_
          refine gf_RX6_7 (pc := 34) C 0 rfl dX6_forgets_34 ?_
          refine g_iconst (pc := 37) C 5 dX6_forgets_37 (by decide) ?_
          refine g_iload_n (pc := 38) C 1 dX6_forgets_38 rfl ?_
          refine g_iadd (pc := 39) C dX6_forgets_39 ?_
          obtain ⟨g40, hf⟩ := k_guard hf
          refine g_iald (pc := 40) C 1 0 rfl rfl g40 dX6_forgets_40 ?_
          obtain ⟨g41, hf⟩ := k_guard hf
          refine g_iast (pc := 41) C 1 0 (csM cI cS a ((upd m.1 (ix (5 + x1)) (m.1 (ix (5 + x1)))), m.2.1, m.2.2.1, m.2.2.2.1, m.2.2.2.2.1, m.2.2.2.2.2.1, m.2.2.2.2.2.2.1, m.2.2.2.2.2.2.2.1, m.2.2.2.2.2.2.2.2.1, m.2.2.2.2.2.2.2.2.2.1, m.2.2.2.2.2.2.2.2.2.2.1, m.2.2.2.2.2.2.2.2.2.2.2)) rfl rfl g41 rfl dX6_forgets_41 ?_
          refine g_iinc (pc := 42) C 1 (x1 + 1) [(1, .int (x1 + 1)), (0, .ref a.1)] dX6_forgets_42 rfl (congrArg (HAdd.hAdd _) (by decide)) (by decide) rfl ?_
          refine g_goto (pc := 45) C 2 dX6_forgets_45 (by decide) ?_
          refine g_sub [1, 0] (lv' := [(0, .ref a.1), (1, .int (x1 + 1))]) rfl ?_
          exact ih ((upd m.1 (ix (5 + x1)) (m.1 (ix (5 + x1)))), m.2.1, m.2.2.1, m.2.2.2.1, m.2.2.2.2.1, m.2.2.2.2.2.1, m.2.2.2.2.2.2.1, m.2.2.2.2.2.2.2.1, m.2.2.2.2.2.2.2.2.1, m.2.2.2.2.2.2.2.2.2.1, m.2.2.2.2.2.2.2.2.2.2.1, m.2.2.2.2.2.2.2.2.2.2.2) (x1 + 1) hf
        · have hf := k_neg c26 hf
          refine g_iconst (pc := 29) C (-1) dX6_forgets_29 (by decide) ?_
          refine g_goto (pc := 30) C 41 dX6_forgets_30 (by decide) ?_
          obtain ⟨g41, hf⟩ := k_guard hf
          refine g_iast (pc := 41) C 1 0 (csM cI cS a ((upd m.1 (ix (5 + x1)) (-1)), m.2.1, m.2.2.1, m.2.2.2.1, m.2.2.2.2.1, m.2.2.2.2.2.1, m.2.2.2.2.2.2.1, m.2.2.2.2.2.2.2.1, m.2.2.2.2.2.2.2.2.1, m.2.2.2.2.2.2.2.2.2.1, m.2.2.2.2.2.2.2.2.2.2.1, m.2.2.2.2.2.2.2.2.2.2.2)) rfl rfl g41 rfl dX6_forgets_41 ?_
          refine g_iinc (pc := 42) C 1 (x1 + 1) [(1, .int (x1 + 1)), (0, .ref a.1)] dX6_forgets_42 rfl (congrArg (HAdd.hAdd _) (by decide)) (by decide) rfl ?_
          refine g_goto (pc := 45) C 2 dX6_forgets_45 (by decide) ?_
          refine g_sub [1, 0] (lv' := [(0, .ref a.1), (1, .int (x1 + 1))]) rfl ?_
          exact ih ((upd m.1 (ix (5 + x1)) (-1)), m.2.1, m.2.2.1, m.2.2.2.1, m.2.2.2.2.1, m.2.2.2.2.2.1, m.2.2.2.2.2.2.1, m.2.2.2.2.2.2.2.1, m.2.2.2.2.2.2.2.2.1, m.2.2.2.2.2.2.2.2.2.1, m.2.2.2.2.2.2.2.2.2.2.1, m.2.2.2.2.2.2.2.2.2.2.2) (x1 + 1) hf
  rw [M_forgets] at hf
  refine g_iconst (pc := 0) C 0 dX6_forgets_0 (by decide) ?_
  refine g_istore_n (pc := 1) C [(1, .int 0), (0, .ref a.1)] dX6_forgets_1 (by decide) rfl ?_
  refine g_sub [1, 0] (lv' := [(0, .ref a.1), (1, .int 0)]) rfl ?_
  exact L2 1000 m 0 hf
set_option maxHeartbeats 4000000 in
set_option maxRecDepth 100000 in
theorem c_X6_delete (l : Launch) (D : va_G) (cI cS : ClassId) (a : aM) (m : MD) (out : Int32 × MD) (hf : M_delete m = some out) : kM l D (kTy cI cS) yX6_delete ct_X6_delete rm_X6_delete [.ref a.1] [wM cI cS a m] (kEq (some (.int out.1)) [wM cI cS a out.2]) := by
  refine k_methodE cX6_delete 2 (some .int) RX6 rfl [(0, .ref a.1)] rfl (by decide +kernel) (Nat.le_of_ble_eq_true rfl) (fun κ A hla C => ?_)
  refine g_chunks (flM cI cS a m).symm ?_
  rw [M_delete] at hf
  refine g_aload_n (pc := 0) C 0 dX6_delete_0 rfl ?_
  obtain ⟨v1, h1, hf⟩ := Option.bind_eq_some_iff.mp hf
  refine g_callV' (pc := 1) hla C (c_X6_begins l D cI cS a m v1 h1) gg_RX6_55 hd_X6_begins (by decide) rfl rfl rfl rfl (Nat.le_of_ble_eq_true rfl) dX6_delete_1 (seM_0 cI cS a m) (seM_0 cI cS a v1).symm [] rfl ?_
  refine g_aload_n (pc := 4) C 0 dX6_delete_4 rfl ?_
  refine g_aload_n (pc := 5) C 0 dX6_delete_5 rfl ?_
  obtain ⟨v6, h6, hf⟩ := Option.bind_eq_some_iff.mp hf
  refine g_callV' (pc := 6) hla C (c_X6_place l D cI cS a v1 v6 h6) gg_RX6_58 hd_X6_place (by decide) rfl rfl rfl rfl (Nat.le_of_ble_eq_true rfl) dX6_delete_6 (seM_0 cI cS a v1) (seM_0 cI cS a v1).symm [.int v6, .ref a.1] rfl ?_
  obtain ⟨v9, h9, hf⟩ := Option.bind_eq_some_iff.mp hf
  refine g_callV' (pc := 9) hla C (c_X6_deep l D cI cS a v1 v6 v9 h9) gg_RX6_46 hd_X6_deep (by decide) rfl rfl rfl rfl (Nat.le_of_ble_eq_true rfl) dX6_delete_9 (seM_0 cI cS a v1) (seM_0 cI cS a v1).symm [.int v9] rfl ?_
  refine g_if_ne (pc := 12) C 18 dX6_delete_12 (by decide) (fun (c12 : ¬ v9 = 0) => ?_) (fun (c12 : v9 = 0) => ?_)
  · have hf := k_neg c12 hf
    refine g_aload_n (pc := 18) C 0 dX6_delete_18 rfl ?_
    obtain ⟨v19, h19, hf⟩ := Option.bind_eq_some_iff.mp hf
    refine g_callV' (pc := 19) hla C (c_X6_goes l D cI cS a v1 v19 h19) gg_RX6_97 hd_X6_goes (by decide) rfl rfl rfl rfl (Nat.le_of_ble_eq_true rfl) dX6_delete_19 (seM_0 cI cS a v1) (seM_0 cI cS a v19.2).symm [.int v19.1] rfl ?_
    refine g_istore_n (pc := 22) C [(1, .int v19.1), (0, .ref a.1)] dX6_delete_22 (by decide) rfl ?_
    refine g_aload_n (pc := 23) C 1 dX6_delete_23 rfl ?_
    obtain ⟨v24, h24, hf⟩ := Option.bind_eq_some_iff.mp hf
    refine g_callV' (pc := 24) hla C (c_X6_forgets l D cI cS a v19.2 v24 h24) gg_RX6_100 hd_X6_forgets (by decide) rfl rfl rfl rfl (Nat.le_of_ble_eq_true rfl) dX6_delete_24 (seM_0 cI cS a v19.2) (seM_0 cI cS a v24).symm [] rfl ?_
    refine g_aload_n (pc := 27) C 1 dX6_delete_27 rfl ?_
    refine g_iload_n (pc := 28) C 0 dX6_delete_28 rfl ?_
    obtain ⟨v29, h29, hf⟩ := Option.bind_eq_some_iff.mp hf
    refine g_callV' (pc := 29) hla C (c_X6_acted l D cI cS a v24 v19.1 v29 h29) gg_RX6_72 hd_X6_acted (by decide) rfl rfl rfl rfl (Nat.le_of_ble_eq_true rfl) dX6_delete_29 (seM_0 cI cS a v24) (seM_0 cI cS a v29.2).symm [.int v29.1] rfl ?_
    have e := Option.some.inj hf; subst e
    exact g_ri (pc := 32) C rfl (flM cI cS a v29.2) dX6_delete_32
  · have hf := k_pos c12 hf
    refine g_bipush (pc := 15) C (-2) dX6_delete_15 (by decide) ?_
    have e := Option.some.inj hf; subst e
    exact g_ri (pc := 17) C rfl (flM cI cS a v1) dX6_delete_17
set_option maxHeartbeats 4000000 in
set_option maxRecDepth 100000 in
theorem c_X6_cut (l : Launch) (D : va_G) (cI cS : ClassId) (a : aM) (m : MD) (out : Int32 × MD) (hf : M_cut m = some out) : kM l D (kTy cI cS) yX6_cut ct_X6_cut rm_X6_cut [.ref a.1] [wM cI cS a m] (kEq (some (.int out.1)) [wM cI cS a out.2]) := by
  refine k_methodE cX6_cut 2 (some .int) RX6 rfl [(0, .ref a.1)] rfl (by decide +kernel) (Nat.le_of_ble_eq_true rfl) (fun κ A hla C => ?_)
  refine g_chunks (flM cI cS a m).symm ?_
  rw [M_cut] at hf
  refine g_aload_n (pc := 0) C 0 dX6_cut_0 rfl ?_
  obtain ⟨v1, h1, hf⟩ := Option.bind_eq_some_iff.mp hf
  refine g_callV' (pc := 1) hla C (c_X6_begins l D cI cS a m v1 h1) gg_RX6_55 hd_X6_begins (by decide) rfl rfl rfl rfl (Nat.le_of_ble_eq_true rfl) dX6_cut_1 (seM_0 cI cS a m) (seM_0 cI cS a v1).symm [] rfl ?_
  refine g_aload_n (pc := 4) C 0 dX6_cut_4 rfl ?_
  refine g_aload_n (pc := 5) C 0 dX6_cut_5 rfl ?_
  obtain ⟨v6, h6, hf⟩ := Option.bind_eq_some_iff.mp hf
  refine g_callV' (pc := 6) hla C (c_X6_place l D cI cS a v1 v6 h6) gg_RX6_58 hd_X6_place (by decide) rfl rfl rfl rfl (Nat.le_of_ble_eq_true rfl) dX6_cut_6 (seM_0 cI cS a v1) (seM_0 cI cS a v1).symm [.int v6, .ref a.1] rfl ?_
  obtain ⟨v9, h9, hf⟩ := Option.bind_eq_some_iff.mp hf
  refine g_callV' (pc := 9) hla C (c_X6_deep l D cI cS a v1 v6 v9 h9) gg_RX6_46 hd_X6_deep (by decide) rfl rfl rfl rfl (Nat.le_of_ble_eq_true rfl) dX6_cut_9 (seM_0 cI cS a v1) (seM_0 cI cS a v1).symm [.int v9] rfl ?_
  refine g_if_ne (pc := 12) C 18 dX6_cut_12 (by decide) (fun (c12 : ¬ v9 = 0) => ?_) (fun (c12 : v9 = 0) => ?_)
  · have hf := k_neg c12 hf
    refine g_aload_n (pc := 18) C 0 dX6_cut_18 rfl ?_
    obtain ⟨v19, h19, hf⟩ := Option.bind_eq_some_iff.mp hf
    refine g_callV' (pc := 19) hla C (c_X6_clips l D cI cS a v1 v19 h19) gg_RX6_103 hd_X6_clips (by decide) rfl rfl rfl rfl (Nat.le_of_ble_eq_true rfl) dX6_cut_19 (seM_0 cI cS a v1) (seM_0 cI cS a v19).symm [] rfl ?_
    refine g_aload_n (pc := 22) C 0 dX6_cut_22 rfl ?_
    obtain ⟨v23, h23, hf⟩ := Option.bind_eq_some_iff.mp hf
    refine g_callV' (pc := 23) hla C (c_X6_goes l D cI cS a v19 v23 h23) gg_RX6_97 hd_X6_goes (by decide) rfl rfl rfl rfl (Nat.le_of_ble_eq_true rfl) dX6_cut_23 (seM_0 cI cS a v19) (seM_0 cI cS a v23.2).symm [.int v23.1] rfl ?_
    refine g_istore_n (pc := 26) C [(1, .int v23.1), (0, .ref a.1)] dX6_cut_26 (by decide) rfl ?_
    refine g_aload_n (pc := 27) C 1 dX6_cut_27 rfl ?_
    obtain ⟨v28, h28, hf⟩ := Option.bind_eq_some_iff.mp hf
    refine g_callV' (pc := 28) hla C (c_X6_forgets l D cI cS a v23.2 v28 h28) gg_RX6_100 hd_X6_forgets (by decide) rfl rfl rfl rfl (Nat.le_of_ble_eq_true rfl) dX6_cut_28 (seM_0 cI cS a v23.2) (seM_0 cI cS a v28).symm [] rfl ?_
    refine g_aload_n (pc := 31) C 1 dX6_cut_31 rfl ?_
    refine g_iload_n (pc := 32) C 0 dX6_cut_32 rfl ?_
    obtain ⟨v33, h33, hf⟩ := Option.bind_eq_some_iff.mp hf
    refine g_callV' (pc := 33) hla C (c_X6_acted l D cI cS a v28 v23.1 v33 h33) gg_RX6_72 hd_X6_acted (by decide) rfl rfl rfl rfl (Nat.le_of_ble_eq_true rfl) dX6_cut_33 (seM_0 cI cS a v28) (seM_0 cI cS a v33.2).symm [.int v33.1] rfl ?_
    have e := Option.some.inj hf; subst e
    exact g_ri (pc := 36) C rfl (flM cI cS a v33.2) dX6_cut_36
  · have hf := k_pos c12 hf
    refine g_bipush (pc := 15) C (-2) dX6_cut_15 (by decide) ?_
    have e := Option.some.inj hf; subst e
    exact g_ri (pc := 17) C rfl (flM cI cS a v1) dX6_cut_17
set_option maxHeartbeats 4000000 in
set_option maxRecDepth 100000 in
theorem c_X6_copy (l : Launch) (D : va_G) (cI cS : ClassId) (a : aM) (m : MD) (out : Int32 × MD) (hf : M_copy m = some out) : kM l D (kTy cI cS) yX6_copy ct_X6_copy rm_X6_copy [.ref a.1] [wM cI cS a m] (kEq (some (.int out.1)) [wM cI cS a out.2]) := by
  refine k_methodE cX6_copy 1 (some .int) RX6 rfl [(0, .ref a.1)] rfl (by decide +kernel) (Nat.le_of_ble_eq_true rfl) (fun κ A hla C => ?_)
  refine g_chunks (flM cI cS a m).symm ?_
  rw [M_copy] at hf
  refine g_aload_n (pc := 0) C 0 dX6_copy_0 rfl ?_
  obtain ⟨v1, h1, hf⟩ := Option.bind_eq_some_iff.mp hf
  refine g_callV' (pc := 1) hla C (c_X6_begins l D cI cS a m v1 h1) gg_RX6_55 hd_X6_begins (by decide) rfl rfl rfl rfl (Nat.le_of_ble_eq_true rfl) dX6_copy_1 (seM_0 cI cS a m) (seM_0 cI cS a v1).symm [] rfl ?_
  refine g_aload_n (pc := 4) C 0 dX6_copy_4 rfl ?_
  obtain ⟨v5, h5, hf⟩ := Option.bind_eq_some_iff.mp hf
  refine g_callV' (pc := 5) hla C (c_X6_clips l D cI cS a v1 v5 h5) gg_RX6_103 hd_X6_clips (by decide) rfl rfl rfl rfl (Nat.le_of_ble_eq_true rfl) dX6_copy_5 (seM_0 cI cS a v1) (seM_0 cI cS a v5).symm [] rfl ?_
  refine g_aload_n (pc := 8) C 0 dX6_copy_8 rfl ?_
  refine g_aload_n (pc := 9) C 0 dX6_copy_9 rfl ?_
  refine gf_RX6_7 (pc := 10) C 0 rfl dX6_copy_10 ?_
  refine g_iconst (pc := 13) C 4 dX6_copy_13 (by decide) ?_
  refine g_iald (pc := 14) C 1 0 rfl rfl (by decide) dX6_copy_14 ?_
  obtain ⟨v15, h15, hf⟩ := Option.bind_eq_some_iff.mp hf
  refine g_callV' (pc := 15) hla C (c_X6_acted l D cI cS a v5 (v5.1 (ix 4)) v15 h15) gg_RX6_72 hd_X6_acted (by decide) rfl rfl rfl rfl (Nat.le_of_ble_eq_true rfl) dX6_copy_15 (seM_0 cI cS a v5) (seM_0 cI cS a v15.2).symm [.int v15.1] rfl ?_
  have e := Option.some.inj hf; subst e
  exact g_ri (pc := 18) C rfl (flM cI cS a v15.2) dX6_copy_18
set_option maxHeartbeats 4000000 in
set_option maxRecDepth 100000 in
theorem c_X6_wrap (l : Launch) (D : va_G) (cI cS : ClassId) (a : aM) (m : MD) (x1 : Int32) (out : Int32 × MD) (hf : M_wrap m x1 = some out) : kM l D (kTy cI cS) yX6_wrap ct_X6_wrap rm_X6_wrap [.ref a.1, .int x1] [wM cI cS a m] (kEq (some (.int out.1)) [wM cI cS a out.2]) := by
  refine k_methodE cX6_wrap 4 (some .int) RX6 rfl [(0, .ref a.1), (1, .int x1)] rfl (by decide +kernel) (Nat.le_of_ble_eq_true rfl) (fun κ A hla C => ?_)
  refine g_chunks (flM cI cS a m).symm ?_
  rw [M_wrap] at hf
  refine g_aload_n (pc := 0) C 0 dX6_wrap_0 rfl ?_
  obtain ⟨v1, h1, hf⟩ := Option.bind_eq_some_iff.mp hf
  refine g_callV' (pc := 1) hla C (c_X6_begins l D cI cS a m v1 h1) gg_RX6_55 hd_X6_begins (by decide) rfl rfl rfl rfl (Nat.le_of_ble_eq_true rfl) dX6_wrap_1 (seM_0 cI cS a m) (seM_0 cI cS a v1).symm [] rfl ?_
  refine g_iload_n (pc := 4) C 1 dX6_wrap_4 rfl ?_
  refine g_iconst (pc := 5) C 0 dX6_wrap_5 (by decide) ?_
  refine g_bipush (pc := 6) C 25 dX6_wrap_6 (by decide) ?_
  obtain ⟨v8, h8, hf⟩ := Option.bind_eq_some_iff.mp hf
  refine g_callS' (pc := 8) hla C (c_X6_in l D cI cS x1 0 25 v8 h8) tb_X6_in m_744 m_X6_in_static m_ini_RX6 hd_X6_in (by decide) rfl rfl (Nat.le_of_ble_eq_true rfl) dX6_wrap_8 (seM_nil cI cS a v1) (seM_nil cI cS a v1).symm [.int v8] rfl ?_
  refine g_if_ne (pc := 11) C 16 dX6_wrap_11 (by decide) (fun (c11 : ¬ v8 = 0) => ?_) (fun (c11 : v8 = 0) => ?_)
  · have hf := k_neg c11 hf
    refine g_aload_n (pc := 16) C 0 dX6_wrap_16 rfl ?_
    obtain ⟨v17, h17, hf⟩ := Option.bind_eq_some_iff.mp hf
    refine g_callV' (pc := 17) hla C (c_X6_place l D cI cS a v1 v17 h17) gg_RX6_58 hd_X6_place (by decide) rfl rfl rfl rfl (Nat.le_of_ble_eq_true rfl) dX6_wrap_17 (seM_0 cI cS a v1) (seM_0 cI cS a v1).symm [.int v17] rfl ?_
    refine g_istore_n (pc := 20) C [(2, .int v17), (0, .ref a.1), (1, .int x1)] dX6_wrap_20 (by decide) rfl ?_
    refine g_aload_n (pc := 21) C 1 dX6_wrap_21 rfl ?_
    refine g_iload_n (pc := 22) C 0 dX6_wrap_22 rfl ?_
    obtain ⟨v23, h23, hf⟩ := Option.bind_eq_some_iff.mp hf
    refine g_callV' (pc := 23) hla C (c_X6_deep l D cI cS a v1 v17 v23 h23) gg_RX6_46 hd_X6_deep (by decide) rfl rfl rfl rfl (Nat.le_of_ble_eq_true rfl) dX6_wrap_23 (seM_0 cI cS a v1) (seM_0 cI cS a v1).symm [.int v23] rfl ?_
    refine g_istore_n (pc := 26) C [(3, .int v23), (2, .int v17), (0, .ref a.1), (1, .int x1)] dX6_wrap_26 (by decide) rfl ?_
    refine g_aload_n (pc := 27) C 2 dX6_wrap_27 rfl ?_
    refine gf_RX6_7 (pc := 28) C 0 rfl dX6_wrap_28 ?_
    refine g_iconst (pc := 31) C 0 dX6_wrap_31 (by decide) ?_
    refine g_iald (pc := 32) C 1 0 rfl rfl (by decide) dX6_wrap_32 ?_
    refine g_bipush (pc := 33) C 40 dX6_wrap_33 (by decide) ?_
    refine g_icmp_eq (pc := 35) C 50 dX6_wrap_35 (by decide) (fun (c35 : (v1.1 (ix 0)) = 40) => ?_) (fun (c35 : ¬ (v1.1 (ix 0)) = 40) => ?_)
    · have hf := k_pos c35 hf
      refine g_bipush (pc := 50) C (-3) dX6_wrap_50 (by decide) ?_
      have e := Option.some.inj hf; subst e
      exact g_ri (pc := 52) C rfl (flM cI cS a v1) dX6_wrap_52
    · have hf := k_neg c35 hf
      refine g_iload_n (pc := 38) C 0 dX6_wrap_38 rfl ?_
      refine g_aload_n (pc := 39) C 2 dX6_wrap_39 rfl ?_
      refine g_iload_n (pc := 40) C 1 dX6_wrap_40 rfl ?_
      obtain ⟨v41, h41, hf⟩ := Option.bind_eq_some_iff.mp hf
      refine g_callV' (pc := 41) hla C (c_X6_height l D cI cS a v1 v17 v41 h41) gg_RX6_106 hd_X6_height (by decide) rfl rfl rfl rfl (Nat.le_of_ble_eq_true rfl) dX6_wrap_41 (seM_0 cI cS a v1) (seM_0 cI cS a v1).symm [.int v41, .int v23] rfl ?_
      refine g_iadd (pc := 44) C dX6_wrap_44 ?_
      refine g_bipush (pc := 45) C 7 dX6_wrap_45 (by decide) ?_
      refine g_icmp_ne (pc := 47) C 53 dX6_wrap_47 (by decide) (fun (c47 : ¬ (v23 + v41) = 7) => ?_) (fun (c47 : (v23 + v41) = 7) => ?_)
      · have hf := k_neg c47 hf
        refine g_aload_n (pc := 53) C 2 dX6_wrap_53 rfl ?_
        refine g_iload_n (pc := 54) C 1 dX6_wrap_54 rfl ?_
        refine g_aload_n (pc := 55) C 2 dX6_wrap_55 rfl ?_
        refine g_iload_n (pc := 56) C 1 dX6_wrap_56 rfl ?_
        obtain ⟨v57, h57, hf⟩ := Option.bind_eq_some_iff.mp hf
        refine g_callV' (pc := 57) hla C (c_X6_end l D cI cS a v1 v17 v57 h57) gg_RX6_49 hd_X6_end (by decide) rfl rfl rfl rfl (Nat.le_of_ble_eq_true rfl) dX6_wrap_57 (seM_0 cI cS a v1) (seM_0 cI cS a v1).symm [.int v57, .int v17, .ref a.1] rfl ?_
        refine g_iconst (pc := 60) C 1 dX6_wrap_60 (by decide) ?_
        obtain ⟨v61, h61, hf⟩ := Option.bind_eq_some_iff.mp hf
        refine g_callV' (pc := 61) hla C (c_X6_sinks l D cI cS a v1 v17 v57 1 v61 h61) gg_RX6_109 hd_X6_sinks (by decide) rfl rfl rfl rfl (Nat.le_of_ble_eq_true rfl) dX6_wrap_61 (seM_0 cI cS a v1) (seM_0 cI cS a v61).symm [] rfl ?_
        refine g_aload_n (pc := 64) C 2 dX6_wrap_64 rfl ?_
        refine g_iload_n (pc := 65) C 1 dX6_wrap_65 rfl ?_
        refine g_iconst (pc := 66) C 1 dX6_wrap_66 (by decide) ?_
        obtain ⟨v67, h67, hf⟩ := Option.bind_eq_some_iff.mp hf
        refine g_callV' (pc := 67) hla C (c_X6_opens l D cI cS a v61 v17 1 v67 h67) gg_RX6_86 hd_X6_opens (by decide) rfl rfl rfl rfl (Nat.le_of_ble_eq_true rfl) dX6_wrap_67 (seM_0 cI cS a v61) (seM_0 cI cS a v67).symm [] rfl ?_
        refine g_aload_n (pc := 70) C 2 dX6_wrap_70 rfl ?_
        refine g_iload_n (pc := 71) C 1 dX6_wrap_71 rfl ?_
        refine g_iload_n (pc := 72) C 3 dX6_wrap_72 rfl ?_
        refine g_iload_n (pc := 73) C 0 dX6_wrap_73 rfl ?_
        obtain ⟨v74, h74, hf⟩ := Option.bind_eq_some_iff.mp hf
        refine g_callV' (pc := 74) hla C (c_X6_lays l D cI cS a v67 v17 x1 v23 v74 h74) gg_RX6_90 hd_X6_lays (by decide) rfl rfl rfl rfl (Nat.le_of_ble_eq_true rfl) dX6_wrap_74 (seM_0 cI cS a v67) (seM_0 cI cS a v74).symm [] rfl ?_
        refine g_aload_n (pc := 77) C 2 dX6_wrap_77 rfl ?_
        refine gf_RX6_7 (pc := 78) C 0 rfl dX6_wrap_78 ?_
        refine g_iconst (pc := 81) C 2 dX6_wrap_81 (by decide) ?_
        refine g_aload_n (pc := 82) C 2 dX6_wrap_82 rfl ?_
        refine g_iload_n (pc := 83) C 1 dX6_wrap_83 rfl ?_
        obtain ⟨v84, h84, hf⟩ := Option.bind_eq_some_iff.mp hf
        refine g_callV' (pc := 84) hla C (c_X6_own l D cI cS a v74 v17 v84 h84) gg_RX6_39 hd_X6_own (by decide) rfl rfl rfl rfl (Nat.le_of_ble_eq_true rfl) dX6_wrap_84 (seM_0 cI cS a v74) (seM_0 cI cS a v74).symm [.int v84, .int 2, .ref a.2.1] rfl ?_
        refine g_iast (pc := 87) C 1 0 (csM cI cS a ((upd v74.1 (ix 2) v84), v74.2.1, v74.2.2.1, v74.2.2.2.1, v74.2.2.2.2.1, v74.2.2.2.2.2.1, v74.2.2.2.2.2.2.1, v74.2.2.2.2.2.2.2.1, v74.2.2.2.2.2.2.2.2.1, v74.2.2.2.2.2.2.2.2.2.1, v74.2.2.2.2.2.2.2.2.2.2.1, v74.2.2.2.2.2.2.2.2.2.2.2)) rfl rfl (by decide) rfl dX6_wrap_87 ?_
        refine g_aload_n (pc := 88) C 2 dX6_wrap_88 rfl ?_
        refine g_aload_n (pc := 89) C 2 dX6_wrap_89 rfl ?_
        refine gf_RX6_7 (pc := 90) C 0 rfl dX6_wrap_90 ?_
        refine g_iconst (pc := 93) C 0 dX6_wrap_93 (by decide) ?_
        refine g_iald (pc := 94) C 1 0 rfl rfl (by decide) dX6_wrap_94 ?_
        obtain ⟨v95, h95, hf⟩ := Option.bind_eq_some_iff.mp hf
        refine g_callV' (pc := 95) hla C (c_X6_acted l D cI cS a ((upd v74.1 (ix 2) v84), v74.2.1, v74.2.2.1, v74.2.2.2.1, v74.2.2.2.2.1, v74.2.2.2.2.2.1, v74.2.2.2.2.2.2.1, v74.2.2.2.2.2.2.2.1, v74.2.2.2.2.2.2.2.2.1, v74.2.2.2.2.2.2.2.2.2.1, v74.2.2.2.2.2.2.2.2.2.2.1, v74.2.2.2.2.2.2.2.2.2.2.2) ((upd v74.1 (ix 2) v84) (ix 0)) v95 h95) gg_RX6_72 hd_X6_acted (by decide) rfl rfl rfl rfl (Nat.le_of_ble_eq_true rfl) dX6_wrap_95 (seM_0 cI cS a ((upd v74.1 (ix 2) v84), v74.2.1, v74.2.2.1, v74.2.2.2.1, v74.2.2.2.2.1, v74.2.2.2.2.2.1, v74.2.2.2.2.2.2.1, v74.2.2.2.2.2.2.2.1, v74.2.2.2.2.2.2.2.2.1, v74.2.2.2.2.2.2.2.2.2.1, v74.2.2.2.2.2.2.2.2.2.2.1, v74.2.2.2.2.2.2.2.2.2.2.2)) (seM_0 cI cS a v95.2).symm [.int v95.1] rfl ?_
        have e := Option.some.inj hf; subst e
        exact g_ri (pc := 98) C rfl (flM cI cS a v95.2) dX6_wrap_98
      · have hf := k_pos c47 hf
        refine g_bipush (pc := 50) C (-3) dX6_wrap_50 (by decide) ?_
        have e := Option.some.inj hf; subst e
        exact g_ri (pc := 52) C rfl (flM cI cS a v1) dX6_wrap_52
  · have hf := k_pos c11 hf
    refine g_iconst (pc := 14) C (-1) dX6_wrap_14 (by decide) ?_
    have e := Option.some.inj hf; subst e
    exact g_ri (pc := 15) C rfl (flM cI cS a v1) dX6_wrap_15
set_option maxHeartbeats 4000000 in
set_option maxRecDepth 100000 in
theorem c_X6_lift (l : Launch) (D : va_G) (cI cS : ClassId) (a : aM) (m : MD) (out : Int32 × MD) (hf : M_lift m = some out) : kM l D (kTy cI cS) yX6_lift ct_X6_lift rm_X6_lift [.ref a.1] [wM cI cS a m] (kEq (some (.int out.1)) [wM cI cS a out.2]) := by
  refine k_methodE cX6_lift 5 (some .int) RX6 rfl [(0, .ref a.1)] rfl (by decide +kernel) (Nat.le_of_ble_eq_true rfl) (fun κ A hla C => ?_)
  refine g_chunks (flM cI cS a m).symm ?_
  have J99 : ∀ (m : MD) (x2 : Int32), M_lift_J99 m x2 = some out → kG κ D A 5 0 0 (kF κ D A (some (.int out.1)) [wM cI cS a out.2]) (csM cI cS a m) [(0, .ref a.1), (2, .int x2)] 99 [] := by
    intro m x2 hf; rw [M_lift_J99] at hf
    refine g_aload_n (pc := 99) C 0 dX6_lift_99 rfl ?_
    obtain ⟨v100, h100, hf⟩ := Option.bind_eq_some_iff.mp hf
    refine g_callV' (pc := 100) hla C (c_X6_forgets l D cI cS a m v100 h100) gg_RX6_100 hd_X6_forgets (by decide) rfl rfl rfl rfl (Nat.le_of_ble_eq_true rfl) dX6_lift_100 (seM_0 cI cS a m) (seM_0 cI cS a v100).symm [] rfl ?_
    refine g_aload_n (pc := 103) C 0 dX6_lift_103 rfl ?_
    refine g_iload_n (pc := 104) C 1 dX6_lift_104 rfl ?_
    obtain ⟨v105, h105, hf⟩ := Option.bind_eq_some_iff.mp hf
    refine g_callV' (pc := 105) hla C (c_X6_acted l D cI cS a v100 x2 v105 h105) gg_RX6_72 hd_X6_acted (by decide) rfl rfl rfl rfl (Nat.le_of_ble_eq_true rfl) dX6_lift_105 (seM_0 cI cS a v100) (seM_0 cI cS a v105.2).symm [.int v105.1] rfl ?_
    have e := Option.some.inj hf; subst e
    exact g_ri (pc := 108) C rfl (flM cI cS a v105.2) dX6_lift_108
  have J54 : ∀ (m : MD) (x1 : Int32) (x2 : Int32), M_lift_J54 m x1 x2 = some out → kG κ D A 5 0 0 (kF κ D A (some (.int out.1)) [wM cI cS a out.2]) (csM cI cS a m) [(0, .ref a.1), (1, .int x1), (2, .int x2)] 54 [] := by
    intro m x1 x2 hf; rw [M_lift_J54] at hf
    refine g_iload_n (pc := 54) C 2 dX6_lift_54 rfl ?_
    refine g_if_ne (pc := 55) C 67 dX6_lift_55 (by decide) (fun (c55 : ¬ x2 = 0) => ?_) (fun (c55 : x2 = 0) => ?_)
    · have hf := k_neg c55 hf
      refine g_aload_n (pc := 67) C 0 dX6_lift_67 rfl ?_
      refine gf_RX6_7 (pc := 68) C 0 rfl dX6_lift_68 ?_
      refine g_iconst (pc := 71) C 2 dX6_lift_71 (by decide) ?_
      refine g_aload_n (pc := 72) C 0 dX6_lift_72 rfl ?_
      refine g_iload_n (pc := 73) C 1 dX6_lift_73 rfl ?_
      refine g_iconst (pc := 74) C 1 dX6_lift_74 (by decide) ?_
      refine g_iadd (pc := 75) C dX6_lift_75 ?_
      obtain ⟨v76, h76, hf⟩ := Option.bind_eq_some_iff.mp hf
      refine g_callV' (pc := 76) hla C (c_X6_own l D cI cS a m (x1 + 1) v76 h76) gg_RX6_39 hd_X6_own (by decide) rfl rfl rfl rfl (Nat.le_of_ble_eq_true rfl) dX6_lift_76 (seM_0 cI cS a m) (seM_0 cI cS a m).symm [.int v76, .int 2, .ref a.2.1] rfl ?_
      refine g_iast (pc := 79) C 1 0 (csM cI cS a ((upd m.1 (ix 2) v76), m.2.1, m.2.2.1, m.2.2.2.1, m.2.2.2.2.1, m.2.2.2.2.2.1, m.2.2.2.2.2.2.1, m.2.2.2.2.2.2.2.1, m.2.2.2.2.2.2.2.2.1, m.2.2.2.2.2.2.2.2.2.1, m.2.2.2.2.2.2.2.2.2.2.1, m.2.2.2.2.2.2.2.2.2.2.2)) rfl rfl (by decide) rfl dX6_lift_79 ?_
      refine g_aload_n (pc := 80) C 0 dX6_lift_80 rfl ?_
      refine g_iload_n (pc := 81) C 1 dX6_lift_81 rfl ?_
      refine g_iconst (pc := 82) C 1 dX6_lift_82 (by decide) ?_
      refine g_iadd (pc := 83) C dX6_lift_83 ?_
      refine g_aload_n (pc := 84) C 0 dX6_lift_84 rfl ?_
      refine g_iload_n (pc := 85) C 1 dX6_lift_85 rfl ?_
      obtain ⟨v86, h86, hf⟩ := Option.bind_eq_some_iff.mp hf
      refine g_callV' (pc := 86) hla C (c_X6_end l D cI cS a ((upd m.1 (ix 2) v76), m.2.1, m.2.2.1, m.2.2.2.1, m.2.2.2.2.1, m.2.2.2.2.2.1, m.2.2.2.2.2.2.1, m.2.2.2.2.2.2.2.1, m.2.2.2.2.2.2.2.2.1, m.2.2.2.2.2.2.2.2.2.1, m.2.2.2.2.2.2.2.2.2.2.1, m.2.2.2.2.2.2.2.2.2.2.2) x1 v86 h86) gg_RX6_49 hd_X6_end (by decide) rfl rfl rfl rfl (Nat.le_of_ble_eq_true rfl) dX6_lift_86 (seM_0 cI cS a ((upd m.1 (ix 2) v76), m.2.1, m.2.2.1, m.2.2.2.1, m.2.2.2.2.1, m.2.2.2.2.2.1, m.2.2.2.2.2.2.1, m.2.2.2.2.2.2.2.1, m.2.2.2.2.2.2.2.2.1, m.2.2.2.2.2.2.2.2.2.1, m.2.2.2.2.2.2.2.2.2.2.1, m.2.2.2.2.2.2.2.2.2.2.2)) (seM_0 cI cS a ((upd m.1 (ix 2) v76), m.2.1, m.2.2.1, m.2.2.2.1, m.2.2.2.2.1, m.2.2.2.2.2.1, m.2.2.2.2.2.2.1, m.2.2.2.2.2.2.2.1, m.2.2.2.2.2.2.2.2.1, m.2.2.2.2.2.2.2.2.2.1, m.2.2.2.2.2.2.2.2.2.2.1, m.2.2.2.2.2.2.2.2.2.2.2)).symm [.int v86, .int (x1 + 1), .ref a.1] rfl ?_
      refine g_iconst (pc := 89) C (-1) dX6_lift_89 (by decide) ?_
      obtain ⟨v90, h90, hf⟩ := Option.bind_eq_some_iff.mp hf
      refine g_callV' (pc := 90) hla C (c_X6_sinks l D cI cS a ((upd m.1 (ix 2) v76), m.2.1, m.2.2.1, m.2.2.2.1, m.2.2.2.2.1, m.2.2.2.2.2.1, m.2.2.2.2.2.2.1, m.2.2.2.2.2.2.2.1, m.2.2.2.2.2.2.2.2.1, m.2.2.2.2.2.2.2.2.2.1, m.2.2.2.2.2.2.2.2.2.2.1, m.2.2.2.2.2.2.2.2.2.2.2) (x1 + 1) v86 (-1) v90 h90) gg_RX6_109 hd_X6_sinks (by decide) rfl rfl rfl rfl (Nat.le_of_ble_eq_true rfl) dX6_lift_90 (seM_0 cI cS a ((upd m.1 (ix 2) v76), m.2.1, m.2.2.1, m.2.2.2.1, m.2.2.2.2.1, m.2.2.2.2.2.1, m.2.2.2.2.2.2.1, m.2.2.2.2.2.2.2.1, m.2.2.2.2.2.2.2.2.1, m.2.2.2.2.2.2.2.2.2.1, m.2.2.2.2.2.2.2.2.2.2.1, m.2.2.2.2.2.2.2.2.2.2.2)) (seM_0 cI cS a v90).symm [] rfl ?_
      refine g_aload_n (pc := 93) C 0 dX6_lift_93 rfl ?_
      refine g_iload_n (pc := 94) C 1 dX6_lift_94 rfl ?_
      refine g_iconst (pc := 95) C 1 dX6_lift_95 (by decide) ?_
      obtain ⟨v96, h96, hf⟩ := Option.bind_eq_some_iff.mp hf
      refine g_callV' (pc := 96) hla C (c_X6_closes l D cI cS a v90 x1 1 v96 h96) gg_RX6_94 hd_X6_closes (by decide) rfl rfl rfl rfl (Nat.le_of_ble_eq_true rfl) dX6_lift_96 (seM_0 cI cS a v90) (seM_0 cI cS a v96).symm [] rfl ?_
      refine g_sub [0, 2] (lv' := [(0, .ref a.1), (2, .int x2)]) rfl ?_
      exact J99 v96 x2 hf
    · have hf := k_pos c55 hf
      refine g_aload_n (pc := 58) C 0 dX6_lift_58 rfl ?_
      obtain ⟨v59, h59, hf⟩ := Option.bind_eq_some_iff.mp hf
      refine g_callV' (pc := 59) hla C (c_X6_goes l D cI cS a m v59 h59) gg_RX6_97 hd_X6_goes (by decide) rfl rfl rfl rfl (Nat.le_of_ble_eq_true rfl) dX6_lift_59 (seM_0 cI cS a m) (seM_0 cI cS a v59.2).symm [.int v59.1] rfl ?_
      refine g_istore (pc := 62) C [(4, .int v59.1), (0, .ref a.1), (1, .int x1), (2, .int x2)] dX6_lift_62 (by decide) rfl ?_
      refine g_goto (pc := 64) C 99 dX6_lift_64 (by decide) ?_
      refine g_sub [1, 3] (lv' := [(0, .ref a.1), (2, .int x2)]) rfl ?_
      exact J99 v59.2 x2 hf
  have J33 : ∀ (m : MD) (x1 : Int32) (x2 : Int32) (x3 : Int32), M_lift_J33 m x1 x2 x3 = some out → kG κ D A 5 0 0 (kF κ D A (some (.int out.1)) [wM cI cS a out.2]) (csM cI cS a m) [(0, .ref a.1), (1, .int x1), (2, .int x2), (3, .int x3)] 33 [] := by
    intro m x1 x2 x3 hf; rw [M_lift_J33] at hf
    refine g_iload_n (pc := 33) C 3 dX6_lift_33 rfl ?_
    refine g_if_lt (pc := 34) C 54 dX6_lift_34 (by decide) (fun (c34 : x3 < 0) => ?_) (fun (c34 : ¬ x3 < 0) => ?_)
    · have hf := k_pos c34 hf
      refine g_sub [0, 1, 2] (lv' := [(0, .ref a.1), (1, .int x1), (2, .int x2)]) rfl ?_
      exact J54 m x1 x2 hf
    · have hf := k_neg c34 hf
      refine g_aload_n (pc := 37) C 0 dX6_lift_37 rfl ?_
      refine g_iload_n (pc := 38) C 3 dX6_lift_38 rfl ?_
      obtain ⟨v39, h39, hf⟩ := Option.bind_eq_some_iff.mp hf
      refine g_callV' (pc := 39) hla C (c_X6_children l D cI cS a m x3 v39 h39) gg_RX6_62 hd_X6_children (by decide) rfl rfl rfl rfl (Nat.le_of_ble_eq_true rfl) dX6_lift_39 (seM_0 cI cS a m) (seM_0 cI cS a m).symm [.int v39] rfl ?_
      refine g_iconst (pc := 42) C 1 dX6_lift_42 (by decide) ?_
      refine g_isub (pc := 43) C dX6_lift_43 ?_
      refine g_iload_n (pc := 44) C 2 dX6_lift_44 rfl ?_
      refine g_iadd (pc := 45) C dX6_lift_45 ?_
      refine g_bipush (pc := 46) C 6 dX6_lift_46 (by decide) ?_
      refine g_icmp_le (pc := 48) C 54 dX6_lift_48 (by decide) (fun (c48 : ((v39 - 1) + x2) ≤ 6) => ?_) (fun (c48 : ¬ ((v39 - 1) + x2) ≤ 6) => ?_)
      · have hf := k_pos c48 hf
        refine g_sub [0, 1, 2] (lv' := [(0, .ref a.1), (1, .int x1), (2, .int x2)]) rfl ?_
        exact J54 m x1 x2 hf
      · have hf := k_neg c48 hf
        refine g_bipush (pc := 51) C (-3) dX6_lift_51 (by decide) ?_
        have e := Option.some.inj hf; subst e
        exact g_ri (pc := 53) C rfl (flM cI cS a m) dX6_lift_53
  rw [M_lift] at hf
  refine g_aload_n (pc := 0) C 0 dX6_lift_0 rfl ?_
  obtain ⟨v1, h1, hf⟩ := Option.bind_eq_some_iff.mp hf
  refine g_callV' (pc := 1) hla C (c_X6_begins l D cI cS a m v1 h1) gg_RX6_55 hd_X6_begins (by decide) rfl rfl rfl rfl (Nat.le_of_ble_eq_true rfl) dX6_lift_1 (seM_0 cI cS a m) (seM_0 cI cS a v1).symm [] rfl ?_
  refine g_aload_n (pc := 4) C 0 dX6_lift_4 rfl ?_
  obtain ⟨v5, h5, hf⟩ := Option.bind_eq_some_iff.mp hf
  refine g_callV' (pc := 5) hla C (c_X6_place l D cI cS a v1 v5 h5) gg_RX6_58 hd_X6_place (by decide) rfl rfl rfl rfl (Nat.le_of_ble_eq_true rfl) dX6_lift_5 (seM_0 cI cS a v1) (seM_0 cI cS a v1).symm [.int v5] rfl ?_
  refine g_istore_n (pc := 8) C [(1, .int v5), (0, .ref a.1)] dX6_lift_8 (by decide) rfl ?_
  refine g_aload_n (pc := 9) C 1 dX6_lift_9 rfl ?_
  refine g_iload_n (pc := 10) C 0 dX6_lift_10 rfl ?_
  obtain ⟨v11, h11, hf⟩ := Option.bind_eq_some_iff.mp hf
  refine g_callV' (pc := 11) hla C (c_X6_children l D cI cS a v1 v5 v11 h11) gg_RX6_62 hd_X6_children (by decide) rfl rfl rfl rfl (Nat.le_of_ble_eq_true rfl) dX6_lift_11 (seM_0 cI cS a v1) (seM_0 cI cS a v1).symm [.int v11] rfl ?_
  refine g_istore_n (pc := 14) C [(2, .int v11), (1, .int v5), (0, .ref a.1)] dX6_lift_14 (by decide) rfl ?_
  refine g_aload_n (pc := 15) C 2 dX6_lift_15 rfl ?_
  refine g_iload_n (pc := 16) C 1 dX6_lift_16 rfl ?_
  obtain ⟨v17, h17, hf⟩ := Option.bind_eq_some_iff.mp hf
  refine g_callV' (pc := 17) hla C (c_X6_above l D cI cS a v1 v5 v17 h17) gg_RX6_52 hd_X6_above (by decide) rfl rfl rfl rfl (Nat.le_of_ble_eq_true rfl) dX6_lift_17 (seM_0 cI cS a v1) (seM_0 cI cS a v1).symm [.int v17] rfl ?_
  refine g_istore_n (pc := 20) C [(3, .int v17), (2, .int v11), (1, .int v5), (0, .ref a.1)] dX6_lift_20 (by decide) rfl ?_
  refine g_iload_n (pc := 21) C 0 dX6_lift_21 rfl ?_
  refine g_if_ge (pc := 22) C 33 dX6_lift_22 (by decide) (fun (c22 : 0 ≤ v17) => ?_) (fun (c22 : ¬ 0 ≤ v17) => ?_)
  · have hf := k_pos c22 hf
    refine g_sub [3, 2, 1, 0] (lv' := [(0, .ref a.1), (1, .int v5), (2, .int v11), (3, .int v17)]) rfl ?_
    exact J33 v1 v5 v11 v17 hf
  · have hf := k_neg c22 hf
    refine g_iload_n (pc := 25) C 1 dX6_lift_25 rfl ?_
    refine g_iconst (pc := 26) C 1 dX6_lift_26 (by decide) ?_
    refine g_icmp_eq (pc := 27) C 33 dX6_lift_27 (by decide) (fun (c27 : v11 = 1) => ?_) (fun (c27 : ¬ v11 = 1) => ?_)
    · have hf := k_pos c27 hf
      refine g_sub [3, 2, 1, 0] (lv' := [(0, .ref a.1), (1, .int v5), (2, .int v11), (3, .int v17)]) rfl ?_
      exact J33 v1 v5 v11 v17 hf
    · have hf := k_neg c27 hf
      refine g_bipush (pc := 30) C (-2) dX6_lift_30 (by decide) ?_
      have e := Option.some.inj hf; subst e
      exact g_ri (pc := 32) C rfl (flM cI cS a v1) dX6_lift_32
set_option maxHeartbeats 4000000 in
set_option maxRecDepth 100000 in
theorem c_X6_swaps (l : Launch) (D : va_G) (cI cS : ClassId) (a : aM) (m : MD) (x1 : Int32) (x2 : Int32) (out : MD) (hf : M_swaps m x1 x2 = some out) : kM l D (kTy cI cS) yX6_swaps ct_X6_swaps rm_X6_swaps [.ref a.1, .int x1, .int x2] [wM cI cS a m] (kEq (none) [wM cI cS a out]) := by
  refine k_methodE cX6_swaps 6 none RX6 rfl [(0, .ref a.1), (1, .int x1), (2, .int x2)] rfl (by decide +kernel) (Nat.le_of_ble_eq_true rfl) (fun κ A hla C => ?_)
  refine g_chunks (flM cI cS a m).symm ?_
  have L55 : ∀ (fu : Nat) (m : MD) (x1 : Int32) (x3 : Int32) (x4 : Int32) (x5 : Int32), M_swaps_L55 fu m x1 x3 x4 x5 = some out → kG κ D A 6 0 0 (kF κ D A (none) [wM cI cS a out]) (csM cI cS a m) [(0, .ref a.1), (1, .int x1), (3, .int x3), (4, .int x4), (5, .int x5)] 55 [] := by
    intro fu; induction fu with
    | zero => intro m x1 x3 x4 x5 hf; rw [M_swaps_L55] at hf; cases hf
    | succ fu ih =>
      intro m x1 x3 x4 x5 hf; rw [M_swaps_L55] at hf
      refine g_iload (pc := 55) C 4 dX6_swaps_55 rfl ?_
      refine g_iconst (pc := 57) C 3 dX6_swaps_57 (by decide) ?_
      refine g_iload (pc := 58) C 3 dX6_swaps_58 rfl ?_
      refine g_imul (pc := 60) C dX6_swaps_60 ?_
      refine g_icmp_ge (pc := 61) C 100 dX6_swaps_61 (by decide) (fun (c61 : (3 * x4) ≤ x5) => ?_) (fun (c61 : ¬ (3 * x4) ≤ x5) => ?_)
      · have hf := k_pos c61 hf
        have e := Option.some.inj hf; subst e
        exact g_rv (pc := 100) C rfl (flM cI cS a m) dX6_swaps_100
      · have hf := k_neg c61 hf
        refine g_aload_n (pc := 64) C 0 dX6_swaps_64 rfl ?_
        refine gf_RX6_7 (pc := 65) C 0 rfl dX6_swaps_65 ?_
        refine g_bipush (pc := 68) C 18 dX6_swaps_68 (by decide) ?_
        refine g_iconst (pc := 70) C 3 dX6_swaps_70 (by decide) ?_
        refine g_iload_n (pc := 71) C 1 dX6_swaps_71 rfl ?_
        refine g_imul (pc := 72) C dX6_swaps_72 ?_
        refine g_iadd (pc := 73) C dX6_swaps_73 ?_
        refine g_iload (pc := 74) C 4 dX6_swaps_74 rfl ?_
        refine g_iadd (pc := 76) C dX6_swaps_76 ?_
        refine g_aload_n (pc := 77) C 0 dX6_swaps_77 rfl ?_
        refine gf_RX6_19 (pc := 78) C 0 rfl dX6_swaps_78 ?_
        refine g_iload (pc := 81) C 4 dX6_swaps_81 rfl ?_
        refine g_iconst (pc := 83) C 3 dX6_swaps_83 (by decide) ?_
        refine g_iload_n (pc := 84) C 2 dX6_swaps_84 rfl ?_
        refine g_imul (pc := 85) C dX6_swaps_85 ?_
        refine g_iadd (pc := 86) C dX6_swaps_86 ?_
        refine g_iconst (pc := 87) C 3 dX6_swaps_87 (by decide) ?_
        refine g_iload (pc := 88) C 3 dX6_swaps_88 rfl ?_
        refine g_imul (pc := 90) C dX6_swaps_90 ?_
        obtain ⟨g91, hf⟩ := k_guard hf
        refine g_irem (pc := 91) C dX6_swaps_91 g91 ?_
        obtain ⟨g92, hf⟩ := k_guard hf
        refine g_iald (pc := 92) C 4 0 rfl rfl g92 dX6_swaps_92 ?_
        obtain ⟨g93, hf⟩ := k_guard hf
        refine g_iast (pc := 93) C 1 0 (csM cI cS a ((upd m.1 (ix ((18 + (3 * x1)) + x5)) (m.2.2.2.2.1 (ix (irem (x5 + (3 * x3)) (3 * x4))))), m.2.1, m.2.2.1, m.2.2.2.1, m.2.2.2.2.1, m.2.2.2.2.2.1, m.2.2.2.2.2.2.1, m.2.2.2.2.2.2.2.1, m.2.2.2.2.2.2.2.2.1, m.2.2.2.2.2.2.2.2.2.1, m.2.2.2.2.2.2.2.2.2.2.1, m.2.2.2.2.2.2.2.2.2.2.2)) rfl rfl g93 rfl dX6_swaps_93 ?_
        refine g_iinc (pc := 94) C 4 (x5 + 1) [(5, .int (x5 + 1)), (0, .ref a.1), (1, .int x1), (3, .int x3), (4, .int x4)] dX6_swaps_94 rfl (congrArg (HAdd.hAdd _) (by decide)) (by decide) rfl ?_
        refine g_goto (pc := 97) C 55 dX6_swaps_97 (by decide) ?_
        refine g_sub [1, 2, 3, 4, 0] (lv' := [(0, .ref a.1), (1, .int x1), (3, .int x3), (4, .int x4), (5, .int (x5 + 1))]) rfl ?_
        exact ih ((upd m.1 (ix ((18 + (3 * x1)) + x5)) (m.2.2.2.2.1 (ix (irem (x5 + (3 * x3)) (3 * x4))))), m.2.1, m.2.2.1, m.2.2.2.1, m.2.2.2.2.1, m.2.2.2.2.2.1, m.2.2.2.2.2.2.1, m.2.2.2.2.2.2.2.1, m.2.2.2.2.2.2.2.2.1, m.2.2.2.2.2.2.2.2.2.1, m.2.2.2.2.2.2.2.2.2.2.1, m.2.2.2.2.2.2.2.2.2.2.2) x1 x3 x4 (x5 + 1) hf
  have L16 : ∀ (fu : Nat) (m : MD) (x1 : Int32) (x3 : Int32) (x4 : Int32) (x5 : Int32), M_swaps_L16 fu m x1 x3 x4 x5 = some out → kG κ D A 6 0 0 (kF κ D A (none) [wM cI cS a out]) (csM cI cS a m) [(0, .ref a.1), (1, .int x1), (3, .int x3), (4, .int x4), (5, .int x5)] 16 [] := by
    intro fu; induction fu with
    | zero => intro m x1 x3 x4 x5 hf; rw [M_swaps_L16] at hf; cases hf
    | succ fu ih =>
      intro m x1 x3 x4 x5 hf; rw [M_swaps_L16] at hf
      refine g_iload (pc := 16) C 4 dX6_swaps_16 rfl ?_
      refine g_iconst (pc := 18) C 3 dX6_swaps_18 (by decide) ?_
      refine g_iload (pc := 19) C 3 dX6_swaps_19 rfl ?_
      refine g_imul (pc := 21) C dX6_swaps_21 ?_
      refine g_icmp_ge (pc := 22) C 52 dX6_swaps_22 (by decide) (fun (c22 : (3 * x4) ≤ x5) => ?_) (fun (c22 : ¬ (3 * x4) ≤ x5) => ?_)
      · have hf := k_pos c22 hf
        refine g_iconst (pc := 52) C 0 dX6_swaps_52 (by decide) ?_
        refine g_istore (pc := 53) C [(5, .int 0), (0, .ref a.1), (1, .int x1), (3, .int x3), (4, .int x4)] dX6_swaps_53 (by decide) rfl ?_
        refine g_sub [1, 2, 3, 4, 0] (lv' := [(0, .ref a.1), (1, .int x1), (3, .int x3), (4, .int x4), (5, .int 0)]) rfl ?_
        exact L55 1000 m x1 x3 x4 0 hf
      · have hf := k_neg c22 hf
        refine g_aload_n (pc := 25) C 0 dX6_swaps_25 rfl ?_
        refine gf_RX6_19 (pc := 26) C 0 rfl dX6_swaps_26 ?_
        refine g_iload (pc := 29) C 4 dX6_swaps_29 rfl ?_
        refine g_aload_n (pc := 31) C 0 dX6_swaps_31 rfl ?_
        refine gf_RX6_7 (pc := 32) C 0 rfl dX6_swaps_32 ?_
        refine g_bipush (pc := 35) C 18 dX6_swaps_35 (by decide) ?_
        refine g_iconst (pc := 37) C 3 dX6_swaps_37 (by decide) ?_
        refine g_iload_n (pc := 38) C 1 dX6_swaps_38 rfl ?_
        refine g_imul (pc := 39) C dX6_swaps_39 ?_
        refine g_iadd (pc := 40) C dX6_swaps_40 ?_
        refine g_iload (pc := 41) C 4 dX6_swaps_41 rfl ?_
        refine g_iadd (pc := 43) C dX6_swaps_43 ?_
        obtain ⟨g44, hf⟩ := k_guard hf
        refine g_iald (pc := 44) C 1 0 rfl rfl g44 dX6_swaps_44 ?_
        obtain ⟨g45, hf⟩ := k_guard hf
        refine g_iast (pc := 45) C 4 0 (csM cI cS a (m.1, m.2.1, m.2.2.1, m.2.2.2.1, (upd m.2.2.2.2.1 (ix x5) (m.1 (ix ((18 + (3 * x1)) + x5)))), m.2.2.2.2.2.1, m.2.2.2.2.2.2.1, m.2.2.2.2.2.2.2.1, m.2.2.2.2.2.2.2.2.1, m.2.2.2.2.2.2.2.2.2.1, m.2.2.2.2.2.2.2.2.2.2.1, m.2.2.2.2.2.2.2.2.2.2.2)) rfl rfl g45 rfl dX6_swaps_45 ?_
        refine g_iinc (pc := 46) C 4 (x5 + 1) [(5, .int (x5 + 1)), (0, .ref a.1), (1, .int x1), (3, .int x3), (4, .int x4)] dX6_swaps_46 rfl (congrArg (HAdd.hAdd _) (by decide)) (by decide) rfl ?_
        refine g_goto (pc := 49) C 16 dX6_swaps_49 (by decide) ?_
        refine g_sub [1, 2, 3, 4, 0] (lv' := [(0, .ref a.1), (1, .int x1), (3, .int x3), (4, .int x4), (5, .int (x5 + 1))]) rfl ?_
        exact ih (m.1, m.2.1, m.2.2.1, m.2.2.2.1, (upd m.2.2.2.2.1 (ix x5) (m.1 (ix ((18 + (3 * x1)) + x5)))), m.2.2.2.2.2.1, m.2.2.2.2.2.2.1, m.2.2.2.2.2.2.2.1, m.2.2.2.2.2.2.2.2.1, m.2.2.2.2.2.2.2.2.2.1, m.2.2.2.2.2.2.2.2.2.2.1, m.2.2.2.2.2.2.2.2.2.2.2) x1 x3 x4 (x5 + 1) hf
  rw [M_swaps] at hf
  refine g_iload_n (pc := 0) C 2 dX6_swaps_0 rfl ?_
  refine g_iload_n (pc := 1) C 1 dX6_swaps_1 rfl ?_
  refine g_isub (pc := 2) C dX6_swaps_2 ?_
  refine g_istore_n (pc := 3) C [(3, .int (x2 - x1)), (0, .ref a.1), (1, .int x1), (2, .int x2)] dX6_swaps_3 (by decide) rfl ?_
  refine g_aload_n (pc := 4) C 1 dX6_swaps_4 rfl ?_
  refine g_iload_n (pc := 5) C 3 dX6_swaps_5 rfl ?_
  obtain ⟨v6, h6, hf⟩ := Option.bind_eq_some_iff.mp hf
  refine g_callV' (pc := 6) hla C (c_X6_end l D cI cS a m x2 v6 h6) gg_RX6_49 hd_X6_end (by decide) rfl rfl rfl rfl (Nat.le_of_ble_eq_true rfl) dX6_swaps_6 (seM_0 cI cS a m) (seM_0 cI cS a m).symm [.int v6] rfl ?_
  refine g_iload_n (pc := 9) C 2 dX6_swaps_9 rfl ?_
  refine g_isub (pc := 10) C dX6_swaps_10 ?_
  refine g_istore (pc := 11) C [(4, .int (v6 - x1)), (3, .int (x2 - x1)), (0, .ref a.1), (1, .int x1), (2, .int x2)] dX6_swaps_11 (by decide) rfl ?_
  refine g_iconst (pc := 13) C 0 dX6_swaps_13 (by decide) ?_
  refine g_istore (pc := 14) C [(5, .int 0), (4, .int (v6 - x1)), (3, .int (x2 - x1)), (0, .ref a.1), (1, .int x1), (2, .int x2)] dX6_swaps_14 (by decide) rfl ?_
  refine g_sub [3, 4, 2, 1, 0] (lv' := [(0, .ref a.1), (1, .int x1), (3, .int (x2 - x1)), (4, .int (v6 - x1)), (5, .int 0)]) rfl ?_
  exact L16 1000 m x1 (x2 - x1) (v6 - x1) 0 hf
set_option maxHeartbeats 4000000 in
set_option maxRecDepth 100000 in
theorem c_X6_exchange (l : Launch) (D : va_G) (cI cS : ClassId) (a : aM) (m : MD) (x1 : Int32) (out : Int32 × MD) (hf : M_exchange m x1 = some out) : kM l D (kTy cI cS) yX6_exchange ct_X6_exchange rm_X6_exchange [.ref a.1, .int x1] [wM cI cS a m] (kEq (some (.int out.1)) [wM cI cS a out.2]) := by
  refine k_methodE cX6_exchange 4 (some .int) RX6 rfl [(0, .ref a.1), (1, .int x1)] rfl (by decide +kernel) (Nat.le_of_ble_eq_true rfl) (fun κ A hla C => ?_)
  refine g_chunks (flM cI cS a m).symm ?_
  have J64 : ∀ (m : MD) (s1 : Int32) (s2 : Int32), M_exchange_J64 m s1 s2 = some out → kG κ D A 4 0 0 (kF κ D A (some (.int out.1)) [wM cI cS a out.2]) (csM cI cS a m) [(0, .ref a.1)] 64 [.ref a.1, .int s1, .int s2] := by
    intro m s1 s2 hf; rw [M_exchange_J64] at hf
    obtain ⟨v64, h64, hf⟩ := Option.bind_eq_some_iff.mp hf
    refine g_callV' (pc := 64) hla C (c_X6_swaps l D cI cS a m s1 s2 v64 h64) gg_RX6_112 hd_X6_swaps (by decide) rfl rfl rfl rfl (Nat.le_of_ble_eq_true rfl) dX6_exchange_64 (seM_0 cI cS a m) (seM_0 cI cS a v64).symm [] rfl ?_
    refine g_aload_n (pc := 67) C 0 dX6_exchange_67 rfl ?_
    refine g_aload_n (pc := 68) C 0 dX6_exchange_68 rfl ?_
    refine g_aload_n (pc := 69) C 0 dX6_exchange_69 rfl ?_
    obtain ⟨v70, h70, hf⟩ := Option.bind_eq_some_iff.mp hf
    refine g_callV' (pc := 70) hla C (c_X6_place l D cI cS a v64 v70 h70) gg_RX6_58 hd_X6_place (by decide) rfl rfl rfl rfl (Nat.le_of_ble_eq_true rfl) dX6_exchange_70 (seM_0 cI cS a v64) (seM_0 cI cS a v64).symm [.int v70, .ref a.1, .ref a.1] rfl ?_
    obtain ⟨v73, h73, hf⟩ := Option.bind_eq_some_iff.mp hf
    refine g_callV' (pc := 73) hla C (c_X6_which l D cI cS a v64 v70 v73 h73) gg_RX6_115 hd_X6_which (by decide) rfl rfl rfl rfl (Nat.le_of_ble_eq_true rfl) dX6_exchange_73 (seM_0 cI cS a v64) (seM_0 cI cS a v64).symm [.int v73, .ref a.1] rfl ?_
    obtain ⟨v76, h76, hf⟩ := Option.bind_eq_some_iff.mp hf
    refine g_callV' (pc := 76) hla C (c_X6_acted l D cI cS a v64 v73 v76 h76) gg_RX6_72 hd_X6_acted (by decide) rfl rfl rfl rfl (Nat.le_of_ble_eq_true rfl) dX6_exchange_76 (seM_0 cI cS a v64) (seM_0 cI cS a v76.2).symm [.int v76.1] rfl ?_
    have e := Option.some.inj hf; subst e
    exact g_ri (pc := 79) C rfl (flM cI cS a v76.2) dX6_exchange_79
  have J54 : ∀ (m : MD) (x2 : Int32) (x3 : Int32) (s1 : Int32), M_exchange_J54 m x2 x3 s1 = some out → kG κ D A 4 0 0 (kF κ D A (some (.int out.1)) [wM cI cS a out.2]) (csM cI cS a m) [(0, .ref a.1), (2, .int x2), (3, .int x3)] 54 [.ref a.1, .int s1] := by
    intro m x2 x3 s1 hf; rw [M_exchange_J54] at hf
    refine g_iload_n (pc := 54) C 1 dX6_exchange_54 rfl ?_
    refine g_iload_n (pc := 55) C 2 dX6_exchange_55 rfl ?_
    refine g_icmp_ge (pc := 56) C 63 dX6_exchange_56 (by decide) (fun (c56 : x3 ≤ x2) => ?_) (fun (c56 : ¬ x3 ≤ x2) => ?_)
    · have hf := k_pos c56 hf
      refine g_iload_n (pc := 63) C 1 dX6_exchange_63 rfl ?_
      refine g_sub [0] (lv' := [(0, .ref a.1)]) rfl ?_
      exact J64 m s1 x2 hf
    · have hf := k_neg c56 hf
      refine g_iload_n (pc := 59) C 2 dX6_exchange_59 rfl ?_
      refine g_goto (pc := 60) C 64 dX6_exchange_60 (by decide) ?_
      refine g_sub [0] (lv' := [(0, .ref a.1)]) rfl ?_
      exact J64 m s1 x3 hf
  have J32 : ∀ (m : MD) (x2 : Int32) (s1 : Int32) (s2 : Int32), M_exchange_J32 m x2 s1 s2 = some out → kG κ D A 4 0 0 (kF κ D A (some (.int out.1)) [wM cI cS a out.2]) (csM cI cS a m) [(0, .ref a.1), (2, .int x2)] 32 [.ref a.1, .int s1, .int s2] := by
    intro m x2 s1 s2 hf; rw [M_exchange_J32] at hf
    obtain ⟨v32, h32, hf⟩ := Option.bind_eq_some_iff.mp hf
    refine g_callV' (pc := 32) hla C (c_X6_besides l D cI cS a m s1 s2 v32 h32) gg_RX6_75 hd_X6_besides (by decide) rfl rfl rfl rfl (Nat.le_of_ble_eq_true rfl) dX6_exchange_32 (seM_0 cI cS a m) (seM_0 cI cS a m).symm [.int v32] rfl ?_
    refine g_istore_n (pc := 35) C [(3, .int v32), (0, .ref a.1), (2, .int x2)] dX6_exchange_35 (by decide) rfl ?_
    refine g_iload_n (pc := 36) C 0 dX6_exchange_36 rfl ?_
    refine g_if_ge (pc := 37) C 43 dX6_exchange_37 (by decide) (fun (c37 : 0 ≤ v32) => ?_) (fun (c37 : ¬ 0 ≤ v32) => ?_)
    · have hf := k_pos c37 hf
      refine g_aload_n (pc := 43) C 1 dX6_exchange_43 rfl ?_
      refine g_iload_n (pc := 44) C 2 dX6_exchange_44 rfl ?_
      refine g_iload_n (pc := 45) C 0 dX6_exchange_45 rfl ?_
      refine g_icmp_ge (pc := 46) C 53 dX6_exchange_46 (by decide) (fun (c46 : v32 ≤ x2) => ?_) (fun (c46 : ¬ v32 ≤ x2) => ?_)
      · have hf := k_pos c46 hf
        refine g_iload_n (pc := 53) C 0 dX6_exchange_53 rfl ?_
        refine g_sub [1, 2, 0] (lv' := [(0, .ref a.1), (2, .int x2), (3, .int v32)]) rfl ?_
        exact J54 m x2 v32 v32 hf
      · have hf := k_neg c46 hf
        refine g_iload_n (pc := 49) C 2 dX6_exchange_49 rfl ?_
        refine g_goto (pc := 50) C 54 dX6_exchange_50 (by decide) ?_
        refine g_sub [1, 2, 0] (lv' := [(0, .ref a.1), (2, .int x2), (3, .int v32)]) rfl ?_
        exact J54 m x2 v32 x2 hf
    · have hf := k_neg c37 hf
      refine g_bipush (pc := 40) C (-2) dX6_exchange_40 (by decide) ?_
      have e := Option.some.inj hf; subst e
      exact g_ri (pc := 42) C rfl (flM cI cS a m) dX6_exchange_42
  rw [M_exchange] at hf
  refine g_aload_n (pc := 0) C 0 dX6_exchange_0 rfl ?_
  obtain ⟨v1, h1, hf⟩ := Option.bind_eq_some_iff.mp hf
  refine g_callV' (pc := 1) hla C (c_X6_begins l D cI cS a m v1 h1) gg_RX6_55 hd_X6_begins (by decide) rfl rfl rfl rfl (Nat.le_of_ble_eq_true rfl) dX6_exchange_1 (seM_0 cI cS a m) (seM_0 cI cS a v1).symm [] rfl ?_
  refine g_iload_n (pc := 4) C 1 dX6_exchange_4 rfl ?_
  refine g_iconst (pc := 5) C 0 dX6_exchange_5 (by decide) ?_
  refine g_iconst (pc := 6) C 1 dX6_exchange_6 (by decide) ?_
  obtain ⟨v7, h7, hf⟩ := Option.bind_eq_some_iff.mp hf
  refine g_callS' (pc := 7) hla C (c_X6_in l D cI cS x1 0 1 v7 h7) tb_X6_in m_744 m_X6_in_static m_ini_RX6 hd_X6_in (by decide) rfl rfl (Nat.le_of_ble_eq_true rfl) dX6_exchange_7 (seM_nil cI cS a v1) (seM_nil cI cS a v1).symm [.int v7] rfl ?_
  refine g_if_ne (pc := 10) C 15 dX6_exchange_10 (by decide) (fun (c10 : ¬ v7 = 0) => ?_) (fun (c10 : v7 = 0) => ?_)
  · have hf := k_neg c10 hf
    refine g_aload_n (pc := 15) C 0 dX6_exchange_15 rfl ?_
    obtain ⟨v16, h16, hf⟩ := Option.bind_eq_some_iff.mp hf
    refine g_callV' (pc := 16) hla C (c_X6_place l D cI cS a v1 v16 h16) gg_RX6_58 hd_X6_place (by decide) rfl rfl rfl rfl (Nat.le_of_ble_eq_true rfl) dX6_exchange_16 (seM_0 cI cS a v1) (seM_0 cI cS a v1).symm [.int v16] rfl ?_
    refine g_istore_n (pc := 19) C [(2, .int v16), (0, .ref a.1), (1, .int x1)] dX6_exchange_19 (by decide) rfl ?_
    refine g_aload_n (pc := 20) C 1 dX6_exchange_20 rfl ?_
    refine g_iload_n (pc := 21) C 0 dX6_exchange_21 rfl ?_
    refine g_iload_n (pc := 22) C 2 dX6_exchange_22 rfl ?_
    refine g_iconst (pc := 23) C 1 dX6_exchange_23 (by decide) ?_
    refine g_icmp_ne (pc := 24) C 31 dX6_exchange_24 (by decide) (fun (c24 : ¬ x1 = 1) => ?_) (fun (c24 : x1 = 1) => ?_)
    · have hf := k_neg c24 hf
      refine g_iconst (pc := 31) C 0 dX6_exchange_31 (by decide) ?_
      refine g_sub [1, 0] (lv' := [(0, .ref a.1), (2, .int v16)]) rfl ?_
      exact J32 v1 v16 v16 0 hf
    · have hf := k_pos c24 hf
      refine g_iconst (pc := 27) C 1 dX6_exchange_27 (by decide) ?_
      refine g_goto (pc := 28) C 32 dX6_exchange_28 (by decide) ?_
      refine g_sub [1, 0] (lv' := [(0, .ref a.1), (2, .int v16)]) rfl ?_
      exact J32 v1 v16 v16 1 hf
  · have hf := k_pos c10 hf
    refine g_iconst (pc := 13) C (-1) dX6_exchange_13 (by decide) ?_
    have e := Option.some.inj hf; subst e
    exact g_ri (pc := 14) C rfl (flM cI cS a v1) dX6_exchange_14
set_option maxHeartbeats 4000000 in
set_option maxRecDepth 100000 in
theorem c_X6_clipHeight (l : Launch) (D : va_G) (cI cS : ClassId) (a : aM) (m : MD) (out : Int32) (hf : M_clipHeight m = some out) : kM l D (kTy cI cS) yX6_clipHeight ct_X6_clipHeight rm_X6_clipHeight [.ref a.1] [wM cI cS a m] (kEq (some (.int out)) [wM cI cS a m]) := by
  refine k_methodE cX6_clipHeight 3 (some .int) RX6 rfl [(0, .ref a.1)] rfl (by decide +kernel) (Nat.le_of_ble_eq_true rfl) (fun κ A hla C => ?_)
  refine g_chunks (flM cI cS a m).symm ?_
  have L4 : ∀ (fu : Nat) (m : MD) (x1 : Int32) (x2 : Int32), M_clipHeight_L4 fu m x1 x2 = some out → kG κ D A 3 0 0 (kF κ D A (some (.int out)) [wM cI cS a m]) (csM cI cS a m) [(0, .ref a.1), (1, .int x1), (2, .int x2)] 4 [] := by
    intro fu; induction fu with
    | zero => intro m x1 x2 hf; rw [M_clipHeight_L4] at hf; cases hf
    | succ fu ih =>
      intro m x1 x2 hf; rw [M_clipHeight_L4] at hf
      refine g_iload_n (pc := 4) C 2 dX6_clipHeight_4 rfl ?_
      refine g_aload_n (pc := 5) C 0 dX6_clipHeight_5 rfl ?_
      refine gf_RX6_7 (pc := 6) C 0 rfl dX6_clipHeight_6 ?_
      refine g_iconst (pc := 9) C 4 dX6_clipHeight_9 (by decide) ?_
      refine g_iald (pc := 10) C 1 0 rfl rfl (by decide) dX6_clipHeight_10 ?_
      refine g_icmp_ge (pc := 11) C 57 dX6_clipHeight_11 (by decide) (fun (c11 : (m.1 (ix 4)) ≤ x2) => ?_) (fun (c11 : ¬ (m.1 (ix 4)) ≤ x2) => ?_)
      · have hf := k_pos c11 hf
        refine g_iload_n (pc := 57) C 1 dX6_clipHeight_57 rfl ?_
        have e := Option.some.inj hf; subst e
        exact g_ri (pc := 58) C rfl (flM cI cS a m) dX6_clipHeight_58
      · have hf := k_neg c11 hf
        refine g_aload_n (pc := 14) C 0 dX6_clipHeight_14 rfl ?_
        refine gf_RX6_7 (pc := 15) C 0 rfl dX6_clipHeight_15 ?_
        refine g_sipush (pc := 18) C 138 dX6_clipHeight_18 (by decide) ?_
        refine g_iconst (pc := 21) C 2 dX6_clipHeight_21 (by decide) ?_
        refine g_iload_n (pc := 22) C 2 dX6_clipHeight_22 rfl ?_
        refine g_imul (pc := 23) C dX6_clipHeight_23 ?_
        refine g_iadd (pc := 24) C dX6_clipHeight_24 ?_
        refine g_iconst (pc := 25) C 1 dX6_clipHeight_25 (by decide) ?_
        refine g_iadd (pc := 26) C dX6_clipHeight_26 ?_
        obtain ⟨g27, hf⟩ := k_guard hf
        refine g_iald (pc := 27) C 1 0 rfl rfl g27 dX6_clipHeight_27 ?_
        refine g_iload_n (pc := 28) C 1 dX6_clipHeight_28 rfl ?_
        refine g_icmp_le (pc := 29) C 49 dX6_clipHeight_29 (by decide) (fun (c29 : (m.1 (ix ((138 + (2 * x2)) + 1))) ≤ x1) => ?_) (fun (c29 : ¬ (m.1 (ix ((138 + (2 * x2)) + 1))) ≤ x1) => ?_)
        · have hf := k_pos c29 hf
          refine g_iload_n (pc := 49) C 1 dX6_clipHeight_49 rfl ?_
          refine g_istore_n (pc := 50) C [(1, .int x1), (0, .ref a.1), (2, .int x2)] dX6_clipHeight_50 (by decide) rfl ?_
          refine g_iinc (pc := 51) C 2 (x2 + 1) [(2, .int (x2 + 1)), (1, .int x1), (0, .ref a.1)] dX6_clipHeight_51 rfl (congrArg (HAdd.hAdd _) (by decide)) (by decide) rfl ?_
          refine g_goto (pc := 54) C 4 dX6_clipHeight_54 (by decide) ?_
          refine g_sub [2, 1, 0] (lv' := [(0, .ref a.1), (1, .int x1), (2, .int (x2 + 1))]) rfl ?_
          exact ih m x1 (x2 + 1) hf
        · have hf := k_neg c29 hf
          refine g_aload_n (pc := 32) C 0 dX6_clipHeight_32 rfl ?_
          refine gf_RX6_7 (pc := 33) C 0 rfl dX6_clipHeight_33 ?_
          refine g_sipush (pc := 36) C 138 dX6_clipHeight_36 (by decide) ?_
          refine g_iconst (pc := 39) C 2 dX6_clipHeight_39 (by decide) ?_
          refine g_iload_n (pc := 40) C 2 dX6_clipHeight_40 rfl ?_
          refine g_imul (pc := 41) C dX6_clipHeight_41 ?_
          refine g_iadd (pc := 42) C dX6_clipHeight_42 ?_
          refine g_iconst (pc := 43) C 1 dX6_clipHeight_43 (by decide) ?_
          refine g_iadd (pc := 44) C dX6_clipHeight_44 ?_
          obtain ⟨g45, hf⟩ := k_guard hf
          refine g_iald (pc := 45) C 1 0 rfl rfl g45 dX6_clipHeight_45 ?_
          refine g_goto (pc := 46) C 50 dX6_clipHeight_46 (by decide) ?_
          refine g_istore_n (pc := 50) C [(1, .int (m.1 (ix ((138 + (2 * x2)) + 1)))), (0, .ref a.1), (2, .int x2)] dX6_clipHeight_50 (by decide) rfl ?_
          refine g_iinc (pc := 51) C 2 (x2 + 1) [(2, .int (x2 + 1)), (1, .int (m.1 (ix ((138 + (2 * x2)) + 1)))), (0, .ref a.1)] dX6_clipHeight_51 rfl (congrArg (HAdd.hAdd _) (by decide)) (by decide) rfl ?_
          refine g_goto (pc := 54) C 4 dX6_clipHeight_54 (by decide) ?_
          refine g_sub [2, 1, 0] (lv' := [(0, .ref a.1), (1, .int (m.1 (ix ((138 + (2 * x2)) + 1)))), (2, .int (x2 + 1))]) rfl ?_
          exact ih m (m.1 (ix ((138 + (2 * x2)) + 1))) (x2 + 1) hf
  rw [M_clipHeight] at hf
  refine g_iconst (pc := 0) C 0 dX6_clipHeight_0 (by decide) ?_
  refine g_istore_n (pc := 1) C [(1, .int 0), (0, .ref a.1)] dX6_clipHeight_1 (by decide) rfl ?_
  refine g_iconst (pc := 2) C 0 dX6_clipHeight_2 (by decide) ?_
  refine g_istore_n (pc := 3) C [(2, .int 0), (1, .int 0), (0, .ref a.1)] dX6_clipHeight_3 (by decide) rfl ?_
  refine g_sub [2, 1, 0] (lv' := [(0, .ref a.1), (1, .int 0), (2, .int 0)]) rfl ?_
  exact L4 1000 m 0 0 hf
set_option maxHeartbeats 4000000 in
set_option maxRecDepth 100000 in
theorem c_X6_paste (l : Launch) (D : va_G) (cI cS : ClassId) (a : aM) (m : MD) (x1 : Int32) (out : Int32 × MD) (hf : M_paste m x1 = some out) : kM l D (kTy cI cS) yX6_paste ct_X6_paste rm_X6_paste [.ref a.1, .int x1] [wM cI cS a m] (kEq (some (.int out.1)) [wM cI cS a out.2]) := by
  refine k_methodE cX6_paste 6 (some .int) RX6 rfl [(0, .ref a.1), (1, .int x1)] rfl (by decide +kernel) (Nat.le_of_ble_eq_true rfl) (fun κ A hla C => ?_)
  refine g_chunks (flM cI cS a m).symm ?_
  have L114 : ∀ (fu : Nat) (m : MD) (x3 : Int32) (x4 : Int32) (x5 : Int32), M_paste_L114 fu m x3 x4 x5 = some out → kG κ D A 6 0 0 (kF κ D A (some (.int out.1)) [wM cI cS a out.2]) (csM cI cS a m) [(0, .ref a.1), (3, .int x3), (4, .int x4), (5, .int x5)] 114 [] := by
    intro fu; induction fu with
    | zero => intro m x3 x4 x5 hf; rw [M_paste_L114] at hf; cases hf
    | succ fu ih =>
      intro m x3 x4 x5 hf; rw [M_paste_L114] at hf
      refine g_iload (pc := 114) C 3 dX6_paste_114 rfl ?_
      refine g_aload_n (pc := 116) C 0 dX6_paste_116 rfl ?_
      refine gf_RX6_7 (pc := 117) C 0 rfl dX6_paste_117 ?_
      refine g_iconst (pc := 120) C 4 dX6_paste_120 (by decide) ?_
      refine g_iald (pc := 121) C 1 0 rfl rfl (by decide) dX6_paste_121 ?_
      refine g_icmp_ge (pc := 122) C 170 dX6_paste_122 (by decide) (fun (c122 : (m.1 (ix 4)) ≤ x5) => ?_) (fun (c122 : ¬ (m.1 (ix 4)) ≤ x5) => ?_)
      · have hf := k_pos c122 hf
        refine g_aload_n (pc := 170) C 0 dX6_paste_170 rfl ?_
        refine g_aload_n (pc := 171) C 0 dX6_paste_171 rfl ?_
        refine gf_RX6_7 (pc := 172) C 0 rfl dX6_paste_172 ?_
        refine g_iconst (pc := 175) C 0 dX6_paste_175 (by decide) ?_
        refine g_iald (pc := 176) C 1 0 rfl rfl (by decide) dX6_paste_176 ?_
        obtain ⟨v177, h177, hf⟩ := Option.bind_eq_some_iff.mp hf
        refine g_callV' (pc := 177) hla C (c_X6_acted l D cI cS a m (m.1 (ix 0)) v177 h177) gg_RX6_72 hd_X6_acted (by decide) rfl rfl rfl rfl (Nat.le_of_ble_eq_true rfl) dX6_paste_177 (seM_0 cI cS a m) (seM_0 cI cS a v177.2).symm [.int v177.1] rfl ?_
        have e := Option.some.inj hf; subst e
        exact g_ri (pc := 180) C rfl (flM cI cS a v177.2) dX6_paste_180
      · have hf := k_neg c122 hf
        refine g_aload_n (pc := 125) C 0 dX6_paste_125 rfl ?_
        refine g_iload_n (pc := 126) C 1 dX6_paste_126 rfl ?_
        refine g_iload (pc := 127) C 3 dX6_paste_127 rfl ?_
        refine g_iadd (pc := 129) C dX6_paste_129 ?_
        refine g_aload_n (pc := 130) C 0 dX6_paste_130 rfl ?_
        refine gf_RX6_7 (pc := 131) C 0 rfl dX6_paste_131 ?_
        refine g_sipush (pc := 134) C 138 dX6_paste_134 (by decide) ?_
        refine g_iconst (pc := 137) C 2 dX6_paste_137 (by decide) ?_
        refine g_iload (pc := 138) C 3 dX6_paste_138 rfl ?_
        refine g_imul (pc := 140) C dX6_paste_140 ?_
        refine g_iadd (pc := 141) C dX6_paste_141 ?_
        obtain ⟨g142, hf⟩ := k_guard hf
        refine g_iald (pc := 142) C 1 0 rfl rfl g142 dX6_paste_142 ?_
        refine g_iload (pc := 143) C 2 dX6_paste_143 rfl ?_
        refine g_aload_n (pc := 145) C 0 dX6_paste_145 rfl ?_
        refine gf_RX6_7 (pc := 146) C 0 rfl dX6_paste_146 ?_
        refine g_sipush (pc := 149) C 138 dX6_paste_149 (by decide) ?_
        refine g_iconst (pc := 152) C 2 dX6_paste_152 (by decide) ?_
        refine g_iload (pc := 153) C 3 dX6_paste_153 rfl ?_
        refine g_imul (pc := 155) C dX6_paste_155 ?_
        refine g_iadd (pc := 156) C dX6_paste_156 ?_
        refine g_iconst (pc := 157) C 1 dX6_paste_157 (by decide) ?_
        refine g_iadd (pc := 158) C dX6_paste_158 ?_
        obtain ⟨g159, hf⟩ := k_guard hf
        refine g_iald (pc := 159) C 1 0 rfl rfl g159 dX6_paste_159 ?_
        refine g_iadd (pc := 160) C dX6_paste_160 ?_
        obtain ⟨v161, h161, hf⟩ := Option.bind_eq_some_iff.mp hf
        refine g_callV' (pc := 161) hla C (c_X6_lays l D cI cS a m (x3 + x5) (m.1 (ix (138 + (2 * x5)))) (x4 + (m.1 (ix ((138 + (2 * x5)) + 1)))) v161 h161) gg_RX6_90 hd_X6_lays (by decide) rfl rfl rfl rfl (Nat.le_of_ble_eq_true rfl) dX6_paste_161 (seM_0 cI cS a m) (seM_0 cI cS a v161).symm [] rfl ?_
        refine g_iinc (pc := 164) C 3 (x5 + 1) [(5, .int (x5 + 1)), (0, .ref a.1), (3, .int x3), (4, .int x4)] dX6_paste_164 rfl (congrArg (HAdd.hAdd _) (by decide)) (by decide) rfl ?_
        refine g_goto (pc := 167) C 114 dX6_paste_167 (by decide) ?_
        refine g_sub [1, 2, 3, 0] (lv' := [(0, .ref a.1), (3, .int x3), (4, .int x4), (5, .int (x5 + 1))]) rfl ?_
        exact ih v161 x3 x4 (x5 + 1) hf
  rw [M_paste] at hf
  refine g_aload_n (pc := 0) C 0 dX6_paste_0 rfl ?_
  obtain ⟨v1, h1, hf⟩ := Option.bind_eq_some_iff.mp hf
  refine g_callV' (pc := 1) hla C (c_X6_begins l D cI cS a m v1 h1) gg_RX6_55 hd_X6_begins (by decide) rfl rfl rfl rfl (Nat.le_of_ble_eq_true rfl) dX6_paste_1 (seM_0 cI cS a m) (seM_0 cI cS a v1).symm [] rfl ?_
  refine g_aload_n (pc := 4) C 0 dX6_paste_4 rfl ?_
  obtain ⟨v5, h5, hf⟩ := Option.bind_eq_some_iff.mp hf
  refine g_callV' (pc := 5) hla C (c_X6_place l D cI cS a v1 v5 h5) gg_RX6_58 hd_X6_place (by decide) rfl rfl rfl rfl (Nat.le_of_ble_eq_true rfl) dX6_paste_5 (seM_0 cI cS a v1) (seM_0 cI cS a v1).symm [.int v5] rfl ?_
  refine g_istore_n (pc := 8) C [(2, .int v5), (0, .ref a.1), (1, .int x1)] dX6_paste_8 (by decide) rfl ?_
  refine g_iload_n (pc := 9) C 2 dX6_paste_9 rfl ?_
  refine g_iconst (pc := 10) C 0 dX6_paste_10 (by decide) ?_
  refine g_aload_n (pc := 11) C 1 dX6_paste_11 rfl ?_
  refine g_iload_n (pc := 12) C 0 dX6_paste_12 rfl ?_
  obtain ⟨v13, h13, hf⟩ := Option.bind_eq_some_iff.mp hf
  refine g_callV' (pc := 13) hla C (c_X6_children l D cI cS a v1 v5 v13 h13) gg_RX6_62 hd_X6_children (by decide) rfl rfl rfl rfl (Nat.le_of_ble_eq_true rfl) dX6_paste_13 (seM_0 cI cS a v1) (seM_0 cI cS a v1).symm [.int v13, .int 0, .int x1] rfl ?_
  obtain ⟨v16, h16, hf⟩ := Option.bind_eq_some_iff.mp hf
  refine g_callS' (pc := 16) hla C (c_X6_in l D cI cS x1 0 v13 v16 h16) tb_X6_in m_744 m_X6_in_static m_ini_RX6 hd_X6_in (by decide) rfl rfl (Nat.le_of_ble_eq_true rfl) dX6_paste_16 (seM_nil cI cS a v1) (seM_nil cI cS a v1).symm [.int v16] rfl ?_
  refine g_if_ne (pc := 19) C 24 dX6_paste_19 (by decide) (fun (c19 : ¬ v16 = 0) => ?_) (fun (c19 : v16 = 0) => ?_)
  · have hf := k_neg c19 hf
    refine g_aload_n (pc := 24) C 1 dX6_paste_24 rfl ?_
    refine gf_RX6_7 (pc := 25) C 0 rfl dX6_paste_25 ?_
    refine g_iconst (pc := 28) C 4 dX6_paste_28 (by decide) ?_
    refine g_iald (pc := 29) C 1 0 rfl rfl (by decide) dX6_paste_29 ?_
    refine g_if_ne (pc := 30) C 36 dX6_paste_30 (by decide) (fun (c30 : ¬ (v1.1 (ix 4)) = 0) => ?_) (fun (c30 : (v1.1 (ix 4)) = 0) => ?_)
    · have hf := k_neg c30 hf
      refine g_aload_n (pc := 36) C 1 dX6_paste_36 rfl ?_
      refine gf_RX6_7 (pc := 37) C 0 rfl dX6_paste_37 ?_
      refine g_iconst (pc := 40) C 0 dX6_paste_40 (by decide) ?_
      refine g_iald (pc := 41) C 1 0 rfl rfl (by decide) dX6_paste_41 ?_
      refine g_aload_n (pc := 42) C 1 dX6_paste_42 rfl ?_
      refine gf_RX6_7 (pc := 43) C 0 rfl dX6_paste_43 ?_
      refine g_iconst (pc := 46) C 4 dX6_paste_46 (by decide) ?_
      refine g_iald (pc := 47) C 1 0 rfl rfl (by decide) dX6_paste_47 ?_
      refine g_iadd (pc := 48) C dX6_paste_48 ?_
      refine g_bipush (pc := 49) C 40 dX6_paste_49 (by decide) ?_
      refine g_icmp_gt (pc := 51) C 81 dX6_paste_51 (by decide) (fun (c51 : 40 < ((v1.1 (ix 0)) + (v1.1 (ix 4)))) => ?_) (fun (c51 : ¬ 40 < ((v1.1 (ix 0)) + (v1.1 (ix 4)))) => ?_)
      · have hf := k_pos c51 hf
        refine g_bipush (pc := 81) C (-3) dX6_paste_81 (by decide) ?_
        have e := Option.some.inj hf; subst e
        exact g_ri (pc := 83) C rfl (flM cI cS a v1) dX6_paste_83
      · have hf := k_neg c51 hf
        refine g_aload_n (pc := 54) C 1 dX6_paste_54 rfl ?_
        refine g_iload_n (pc := 55) C 0 dX6_paste_55 rfl ?_
        obtain ⟨v56, h56, hf⟩ := Option.bind_eq_some_iff.mp hf
        refine g_callV' (pc := 56) hla C (c_X6_children l D cI cS a v1 v5 v56 h56) gg_RX6_62 hd_X6_children (by decide) rfl rfl rfl rfl (Nat.le_of_ble_eq_true rfl) dX6_paste_56 (seM_0 cI cS a v1) (seM_0 cI cS a v1).symm [.int v56] rfl ?_
        refine g_bipush (pc := 59) C 6 dX6_paste_59 (by decide) ?_
        refine g_icmp_eq (pc := 61) C 81 dX6_paste_61 (by decide) (fun (c61 : v56 = 6) => ?_) (fun (c61 : ¬ v56 = 6) => ?_)
        · have hf := k_pos c61 hf
          refine g_bipush (pc := 81) C (-3) dX6_paste_81 (by decide) ?_
          have e := Option.some.inj hf; subst e
          exact g_ri (pc := 83) C rfl (flM cI cS a v1) dX6_paste_83
        · have hf := k_neg c61 hf
          refine g_aload_n (pc := 64) C 1 dX6_paste_64 rfl ?_
          refine g_iload_n (pc := 65) C 0 dX6_paste_65 rfl ?_
          obtain ⟨v66, h66, hf⟩ := Option.bind_eq_some_iff.mp hf
          refine g_callV' (pc := 66) hla C (c_X6_deep l D cI cS a v1 v5 v66 h66) gg_RX6_46 hd_X6_deep (by decide) rfl rfl rfl rfl (Nat.le_of_ble_eq_true rfl) dX6_paste_66 (seM_0 cI cS a v1) (seM_0 cI cS a v1).symm [.int v66] rfl ?_
          refine g_iconst (pc := 69) C 1 dX6_paste_69 (by decide) ?_
          refine g_iadd (pc := 70) C dX6_paste_70 ?_
          refine g_aload_n (pc := 71) C 1 dX6_paste_71 rfl ?_
          obtain ⟨v72, h72, hf⟩ := Option.bind_eq_some_iff.mp hf
          refine g_callV' (pc := 72) hla C (c_X6_clipHeight l D cI cS a v1 v72 h72) gg_RX6_118 hd_X6_clipHeight (by decide) rfl rfl rfl rfl (Nat.le_of_ble_eq_true rfl) dX6_paste_72 (seM_0 cI cS a v1) (seM_0 cI cS a v1).symm [.int v72, .int (v66 + 1)] rfl ?_
          refine g_iadd (pc := 75) C dX6_paste_75 ?_
          refine g_bipush (pc := 76) C 7 dX6_paste_76 (by decide) ?_
          refine g_icmp_le (pc := 78) C 84 dX6_paste_78 (by decide) (fun (c78 : ((v66 + 1) + v72) ≤ 7) => ?_) (fun (c78 : ¬ ((v66 + 1) + v72) ≤ 7) => ?_)
          · have hf := k_pos c78 hf
            refine g_aload_n (pc := 84) C 1 dX6_paste_84 rfl ?_
            refine g_iload_n (pc := 85) C 0 dX6_paste_85 rfl ?_
            refine g_iload_n (pc := 86) C 2 dX6_paste_86 rfl ?_
            obtain ⟨v87, h87, hf⟩ := Option.bind_eq_some_iff.mp hf
            refine g_callV' (pc := 87) hla C (c_X6_childOf l D cI cS a v1 v5 x1 v87 h87) gg_RX6_65 hd_X6_childOf (by decide) rfl rfl rfl rfl (Nat.le_of_ble_eq_true rfl) dX6_paste_87 (seM_0 cI cS a v1) (seM_0 cI cS a v1).symm [.int v87] rfl ?_
            refine g_istore_n (pc := 90) C [(3, .int v87), (2, .int v5), (0, .ref a.1), (1, .int x1)] dX6_paste_90 (by decide) rfl ?_
            refine g_aload_n (pc := 91) C 2 dX6_paste_91 rfl ?_
            refine g_iload_n (pc := 92) C 1 dX6_paste_92 rfl ?_
            obtain ⟨v93, h93, hf⟩ := Option.bind_eq_some_iff.mp hf
            refine g_callV' (pc := 93) hla C (c_X6_deep l D cI cS a v1 v5 v93 h93) gg_RX6_46 hd_X6_deep (by decide) rfl rfl rfl rfl (Nat.le_of_ble_eq_true rfl) dX6_paste_93 (seM_0 cI cS a v1) (seM_0 cI cS a v1).symm [.int v93] rfl ?_
            refine g_iconst (pc := 96) C 1 dX6_paste_96 (by decide) ?_
            refine g_iadd (pc := 97) C dX6_paste_97 ?_
            refine g_istore (pc := 98) C [(4, .int (v93 + 1)), (3, .int v87), (2, .int v5), (0, .ref a.1), (1, .int x1)] dX6_paste_98 (by decide) rfl ?_
            refine g_aload_n (pc := 100) C 3 dX6_paste_100 rfl ?_
            refine g_iload_n (pc := 101) C 1 dX6_paste_101 rfl ?_
            refine g_aload_n (pc := 102) C 3 dX6_paste_102 rfl ?_
            refine gf_RX6_7 (pc := 103) C 0 rfl dX6_paste_103 ?_
            refine g_iconst (pc := 106) C 4 dX6_paste_106 (by decide) ?_
            refine g_iald (pc := 107) C 1 0 rfl rfl (by decide) dX6_paste_107 ?_
            obtain ⟨v108, h108, hf⟩ := Option.bind_eq_some_iff.mp hf
            refine g_callV' (pc := 108) hla C (c_X6_opens l D cI cS a v1 v87 (v1.1 (ix 4)) v108 h108) gg_RX6_86 hd_X6_opens (by decide) rfl rfl rfl rfl (Nat.le_of_ble_eq_true rfl) dX6_paste_108 (seM_0 cI cS a v1) (seM_0 cI cS a v108).symm [] rfl ?_
            refine g_iconst (pc := 111) C 0 dX6_paste_111 (by decide) ?_
            refine g_istore (pc := 112) C [(5, .int 0), (4, .int (v93 + 1)), (3, .int v87), (2, .int v5), (0, .ref a.1), (1, .int x1)] dX6_paste_112 (by decide) rfl ?_
            refine g_sub [4, 2, 1, 0] (lv' := [(0, .ref a.1), (3, .int v87), (4, .int (v93 + 1)), (5, .int 0)]) rfl ?_
            exact L114 1000 v108 v87 (v93 + 1) 0 hf
          · have hf := k_neg c78 hf
            refine g_bipush (pc := 81) C (-3) dX6_paste_81 (by decide) ?_
            have e := Option.some.inj hf; subst e
            exact g_ri (pc := 83) C rfl (flM cI cS a v1) dX6_paste_83
    · have hf := k_pos c30 hf
      refine g_bipush (pc := 33) C (-2) dX6_paste_33 (by decide) ?_
      have e := Option.some.inj hf; subst e
      exact g_ri (pc := 35) C rfl (flM cI cS a v1) dX6_paste_35
  · have hf := k_pos c19 hf
    refine g_iconst (pc := 22) C (-1) dX6_paste_22 (by decide) ?_
    have e := Option.some.inj hf; subst e
    exact g_ri (pc := 23) C rfl (flM cI cS a v1) dX6_paste_23
set_option maxHeartbeats 4000000 in
set_option maxRecDepth 100000 in
theorem c_X6_mark (l : Launch) (D : va_G) (cI cS : ClassId) (a : aM) (m : MD) (x1 : Int32) (out : Int32 × MD) (hf : M_mark m x1 = some out) : kM l D (kTy cI cS) yX6_mark ct_X6_mark rm_X6_mark [.ref a.1, .int x1] [wM cI cS a m] (kEq (some (.int out.1)) [wM cI cS a out.2]) := by
  refine k_methodE cX6_mark 3 (some .int) RX6 rfl [(0, .ref a.1), (1, .int x1)] rfl (by decide +kernel) (Nat.le_of_ble_eq_true rfl) (fun κ A hla C => ?_)
  refine g_chunks (flM cI cS a m).symm ?_
  rw [M_mark] at hf
  refine g_aload_n (pc := 0) C 0 dX6_mark_0 rfl ?_
  obtain ⟨v1, h1, hf⟩ := Option.bind_eq_some_iff.mp hf
  refine g_callV' (pc := 1) hla C (c_X6_begins l D cI cS a m v1 h1) gg_RX6_55 hd_X6_begins (by decide) rfl rfl rfl rfl (Nat.le_of_ble_eq_true rfl) dX6_mark_1 (seM_0 cI cS a m) (seM_0 cI cS a v1).symm [] rfl ?_
  refine g_iload_n (pc := 4) C 1 dX6_mark_4 rfl ?_
  refine g_iconst (pc := 5) C 0 dX6_mark_5 (by decide) ?_
  refine g_iconst (pc := 6) C 3 dX6_mark_6 (by decide) ?_
  obtain ⟨v7, h7, hf⟩ := Option.bind_eq_some_iff.mp hf
  refine g_callS' (pc := 7) hla C (c_X6_in l D cI cS x1 0 3 v7 h7) tb_X6_in m_744 m_X6_in_static m_ini_RX6 hd_X6_in (by decide) rfl rfl (Nat.le_of_ble_eq_true rfl) dX6_mark_7 (seM_nil cI cS a v1) (seM_nil cI cS a v1).symm [.int v7] rfl ?_
  refine g_if_ne (pc := 10) C 15 dX6_mark_10 (by decide) (fun (c10 : ¬ v7 = 0) => ?_) (fun (c10 : v7 = 0) => ?_)
  · have hf := k_neg c10 hf
    refine g_aload_n (pc := 15) C 0 dX6_mark_15 rfl ?_
    refine g_aload_n (pc := 16) C 0 dX6_mark_16 rfl ?_
    refine gf_RX6_7 (pc := 17) C 0 rfl dX6_mark_17 ?_
    refine g_iconst (pc := 20) C 5 dX6_mark_20 (by decide) ?_
    refine g_iload_n (pc := 21) C 1 dX6_mark_21 rfl ?_
    refine g_iadd (pc := 22) C dX6_mark_22 ?_
    obtain ⟨g23, hf⟩ := k_guard hf
    refine g_iald (pc := 23) C 1 0 rfl rfl g23 dX6_mark_23 ?_
    obtain ⟨v24, h24, hf⟩ := Option.bind_eq_some_iff.mp hf
    refine g_callV' (pc := 24) hla C (c_X6_numberOf l D cI cS a v1 (v1.1 (ix (5 + x1))) v24 h24) gg_RX6_43 hd_X6_numberOf (by decide) rfl rfl rfl rfl (Nat.le_of_ble_eq_true rfl) dX6_mark_24 (seM_0 cI cS a v1) (seM_0 cI cS a v1).symm [.int v24] rfl ?_
    refine g_istore_n (pc := 27) C [(2, .int v24), (0, .ref a.1), (1, .int x1)] dX6_mark_27 (by decide) rfl ?_
    refine g_aload_n (pc := 28) C 1 dX6_mark_28 rfl ?_
    refine gf_RX6_7 (pc := 29) C 0 rfl dX6_mark_29 ?_
    refine g_iconst (pc := 32) C 5 dX6_mark_32 (by decide) ?_
    refine g_iload_n (pc := 33) C 2 dX6_mark_33 rfl ?_
    refine g_iadd (pc := 34) C dX6_mark_34 ?_
    refine g_aload_n (pc := 35) C 1 dX6_mark_35 rfl ?_
    refine gf_RX6_7 (pc := 36) C 0 rfl dX6_mark_36 ?_
    refine g_iconst (pc := 39) C 2 dX6_mark_39 (by decide) ?_
    refine g_iald (pc := 40) C 1 0 rfl rfl (by decide) dX6_mark_40 ?_
    obtain ⟨g41, hf⟩ := k_guard hf
    refine g_iast (pc := 41) C 1 0 (csM cI cS a ((upd v1.1 (ix (5 + x1)) (v1.1 (ix 2))), v1.2.1, v1.2.2.1, v1.2.2.2.1, v1.2.2.2.2.1, v1.2.2.2.2.2.1, v1.2.2.2.2.2.2.1, v1.2.2.2.2.2.2.2.1, v1.2.2.2.2.2.2.2.2.1, v1.2.2.2.2.2.2.2.2.2.1, v1.2.2.2.2.2.2.2.2.2.2.1, v1.2.2.2.2.2.2.2.2.2.2.2)) rfl rfl g41 rfl dX6_mark_41 ?_
    refine g_aload_n (pc := 42) C 1 dX6_mark_42 rfl ?_
    refine g_iload_n (pc := 43) C 0 dX6_mark_43 rfl ?_
    refine g_if_ge (pc := 44) C 52 dX6_mark_44 (by decide) (fun (c44 : 0 ≤ v24) => ?_) (fun (c44 : ¬ 0 ≤ v24) => ?_)
    · have hf := k_pos c44 hf
      refine g_iload_n (pc := 52) C 0 dX6_mark_52 rfl ?_
      obtain ⟨v53, h53, hf⟩ := Option.bind_eq_some_iff.mp hf
      refine g_callV' (pc := 53) hla C (c_X6_acted l D cI cS a ((upd v1.1 (ix (5 + x1)) (v1.1 (ix 2))), v1.2.1, v1.2.2.1, v1.2.2.2.1, v1.2.2.2.2.1, v1.2.2.2.2.2.1, v1.2.2.2.2.2.2.1, v1.2.2.2.2.2.2.2.1, v1.2.2.2.2.2.2.2.2.1, v1.2.2.2.2.2.2.2.2.2.1, v1.2.2.2.2.2.2.2.2.2.2.1, v1.2.2.2.2.2.2.2.2.2.2.2) v24 v53 h53) gg_RX6_72 hd_X6_acted (by decide) rfl rfl rfl rfl (Nat.le_of_ble_eq_true rfl) dX6_mark_53 (seM_0 cI cS a ((upd v1.1 (ix (5 + x1)) (v1.1 (ix 2))), v1.2.1, v1.2.2.1, v1.2.2.2.1, v1.2.2.2.2.1, v1.2.2.2.2.2.1, v1.2.2.2.2.2.2.1, v1.2.2.2.2.2.2.2.1, v1.2.2.2.2.2.2.2.2.1, v1.2.2.2.2.2.2.2.2.2.1, v1.2.2.2.2.2.2.2.2.2.2.1, v1.2.2.2.2.2.2.2.2.2.2.2)) (seM_0 cI cS a v53.2).symm [.int v53.1] rfl ?_
      have e := Option.some.inj hf; subst e
      exact g_ri (pc := 56) C rfl (flM cI cS a v53.2) dX6_mark_56
    · have hf := k_neg c44 hf
      refine g_bipush (pc := 47) C 100 dX6_mark_47 (by decide) ?_
      refine g_goto (pc := 49) C 53 dX6_mark_49 (by decide) ?_
      obtain ⟨v53, h53, hf⟩ := Option.bind_eq_some_iff.mp hf
      refine g_callV' (pc := 53) hla C (c_X6_acted l D cI cS a ((upd v1.1 (ix (5 + x1)) (v1.1 (ix 2))), v1.2.1, v1.2.2.1, v1.2.2.2.1, v1.2.2.2.2.1, v1.2.2.2.2.2.1, v1.2.2.2.2.2.2.1, v1.2.2.2.2.2.2.2.1, v1.2.2.2.2.2.2.2.2.1, v1.2.2.2.2.2.2.2.2.2.1, v1.2.2.2.2.2.2.2.2.2.2.1, v1.2.2.2.2.2.2.2.2.2.2.2) 100 v53 h53) gg_RX6_72 hd_X6_acted (by decide) rfl rfl rfl rfl (Nat.le_of_ble_eq_true rfl) dX6_mark_53 (seM_0 cI cS a ((upd v1.1 (ix (5 + x1)) (v1.1 (ix 2))), v1.2.1, v1.2.2.1, v1.2.2.2.1, v1.2.2.2.2.1, v1.2.2.2.2.2.1, v1.2.2.2.2.2.2.1, v1.2.2.2.2.2.2.2.1, v1.2.2.2.2.2.2.2.2.1, v1.2.2.2.2.2.2.2.2.2.1, v1.2.2.2.2.2.2.2.2.2.2.1, v1.2.2.2.2.2.2.2.2.2.2.2)) (seM_0 cI cS a v53.2).symm [.int v53.1] rfl ?_
      have e := Option.some.inj hf; subst e
      exact g_ri (pc := 56) C rfl (flM cI cS a v53.2) dX6_mark_56
  · have hf := k_pos c10 hf
    refine g_iconst (pc := 13) C (-1) dX6_mark_13 (by decide) ?_
    have e := Option.some.inj hf; subst e
    exact g_ri (pc := 14) C rfl (flM cI cS a v1) dX6_mark_14
set_option maxHeartbeats 4000000 in
set_option maxRecDepth 100000 in
theorem c_X6_goTo (l : Launch) (D : va_G) (cI cS : ClassId) (a : aM) (m : MD) (x1 : Int32) (out : Int32 × MD) (hf : M_goTo m x1 = some out) : kM l D (kTy cI cS) yX6_goTo ct_X6_goTo rm_X6_goTo [.ref a.1, .int x1] [wM cI cS a m] (kEq (some (.int out.1)) [wM cI cS a out.2]) := by
  refine k_methodE cX6_goTo 3 (some .int) RX6 rfl [(0, .ref a.1), (1, .int x1)] rfl (by decide +kernel) (Nat.le_of_ble_eq_true rfl) (fun κ A hla C => ?_)
  refine g_chunks (flM cI cS a m).symm ?_
  rw [M_goTo] at hf
  refine g_aload_n (pc := 0) C 0 dX6_goTo_0 rfl ?_
  obtain ⟨v1, h1, hf⟩ := Option.bind_eq_some_iff.mp hf
  refine g_callV' (pc := 1) hla C (c_X6_begins l D cI cS a m v1 h1) gg_RX6_55 hd_X6_begins (by decide) rfl rfl rfl rfl (Nat.le_of_ble_eq_true rfl) dX6_goTo_1 (seM_0 cI cS a m) (seM_0 cI cS a v1).symm [] rfl ?_
  refine g_iload_n (pc := 4) C 1 dX6_goTo_4 rfl ?_
  refine g_iconst (pc := 5) C 0 dX6_goTo_5 (by decide) ?_
  refine g_iconst (pc := 6) C 3 dX6_goTo_6 (by decide) ?_
  obtain ⟨v7, h7, hf⟩ := Option.bind_eq_some_iff.mp hf
  refine g_callS' (pc := 7) hla C (c_X6_in l D cI cS x1 0 3 v7 h7) tb_X6_in m_744 m_X6_in_static m_ini_RX6 hd_X6_in (by decide) rfl rfl (Nat.le_of_ble_eq_true rfl) dX6_goTo_7 (seM_nil cI cS a v1) (seM_nil cI cS a v1).symm [.int v7] rfl ?_
  refine g_if_ne (pc := 10) C 15 dX6_goTo_10 (by decide) (fun (c10 : ¬ v7 = 0) => ?_) (fun (c10 : v7 = 0) => ?_)
  · have hf := k_neg c10 hf
    refine g_aload_n (pc := 15) C 0 dX6_goTo_15 rfl ?_
    refine g_aload_n (pc := 16) C 0 dX6_goTo_16 rfl ?_
    refine gf_RX6_7 (pc := 17) C 0 rfl dX6_goTo_17 ?_
    refine g_iconst (pc := 20) C 5 dX6_goTo_20 (by decide) ?_
    refine g_iload_n (pc := 21) C 1 dX6_goTo_21 rfl ?_
    refine g_iadd (pc := 22) C dX6_goTo_22 ?_
    obtain ⟨g23, hf⟩ := k_guard hf
    refine g_iald (pc := 23) C 1 0 rfl rfl g23 dX6_goTo_23 ?_
    obtain ⟨v24, h24, hf⟩ := Option.bind_eq_some_iff.mp hf
    refine g_callV' (pc := 24) hla C (c_X6_numberOf l D cI cS a v1 (v1.1 (ix (5 + x1))) v24 h24) gg_RX6_43 hd_X6_numberOf (by decide) rfl rfl rfl rfl (Nat.le_of_ble_eq_true rfl) dX6_goTo_24 (seM_0 cI cS a v1) (seM_0 cI cS a v1).symm [.int v24] rfl ?_
    refine g_istore_n (pc := 27) C [(2, .int v24), (0, .ref a.1), (1, .int x1)] dX6_goTo_27 (by decide) rfl ?_
    refine g_iload_n (pc := 28) C 0 dX6_goTo_28 rfl ?_
    refine g_if_ge (pc := 29) C 37 dX6_goTo_29 (by decide) (fun (c29 : 0 ≤ v24) => ?_) (fun (c29 : ¬ 0 ≤ v24) => ?_)
    · have hf := k_pos c29 hf
      refine g_aload_n (pc := 37) C 1 dX6_goTo_37 rfl ?_
      refine g_aload_n (pc := 38) C 1 dX6_goTo_38 rfl ?_
      refine g_iload_n (pc := 39) C 0 dX6_goTo_39 rfl ?_
      obtain ⟨v40, h40, hf⟩ := Option.bind_eq_some_iff.mp hf
      refine g_callV' (pc := 40) hla C (c_X6_walks l D cI cS a v1 v24 v40 h40) gg_RX6_69 hd_X6_walks (by decide) rfl rfl rfl rfl (Nat.le_of_ble_eq_true rfl) dX6_goTo_40 (seM_0 cI cS a v1) (seM_0 cI cS a v40.2).symm [.int v40.1, .ref a.1] rfl ?_
      obtain ⟨v43, h43, hf⟩ := Option.bind_eq_some_iff.mp hf
      refine g_callV' (pc := 43) hla C (c_X6_acted l D cI cS a v40.2 v40.1 v43 h43) gg_RX6_72 hd_X6_acted (by decide) rfl rfl rfl rfl (Nat.le_of_ble_eq_true rfl) dX6_goTo_43 (seM_0 cI cS a v40.2) (seM_0 cI cS a v43.2).symm [.int v43.1] rfl ?_
      have e := Option.some.inj hf; subst e
      exact g_ri (pc := 46) C rfl (flM cI cS a v43.2) dX6_goTo_46
    · have hf := k_neg c29 hf
      refine g_bipush (pc := 32) C (-2) dX6_goTo_32 (by decide) ?_
      refine g_goto (pc := 34) C 46 dX6_goTo_34 (by decide) ?_
      have e := Option.some.inj hf; subst e
      exact g_ri (pc := 46) C rfl (flM cI cS a v1) dX6_goTo_46
  · have hf := k_pos c10 hf
    refine g_iconst (pc := 13) C (-1) dX6_goTo_13 (by decide) ?_
    have e := Option.some.inj hf; subst e
    exact g_ri (pc := 14) C rfl (flM cI cS a v1) dX6_goTo_14
set_option maxHeartbeats 4000000 in
set_option maxRecDepth 100000 in
theorem c_X6_orNone (l : Launch) (D : va_G) (cI cS : ClassId) (x0 : Int32) (out : Int32) (hf : M_orNone x0 = some out) : kM l D (kTy cI cS) yX6_orNone ct_X6_orNone rm_X6_orNone [.int x0] [] (kEq (some (.int out)) []) := by
  refine k_methodE cX6_orNone 1 (some .int) RX6 rfl [(0, .int x0)] rfl (by decide +kernel) (Nat.le_of_ble_eq_true rfl) (fun κ A hla C => ?_)
  refine g_chunks (flN cI cS ).symm ?_
  rw [M_orNone] at hf
  refine g_iload_n (pc := 0) C 0 dX6_orNone_0 rfl ?_
  refine g_if_ge (pc := 1) C 9 dX6_orNone_1 (by decide) (fun (c1 : 0 ≤ x0) => ?_) (fun (c1 : ¬ 0 ≤ x0) => ?_)
  · have hf := k_pos c1 hf
    refine g_iload_n (pc := 9) C 0 dX6_orNone_9 rfl ?_
    have e := Option.some.inj hf; subst e
    exact g_ri (pc := 10) C rfl (flN cI cS ) dX6_orNone_10
  · have hf := k_neg c1 hf
    refine g_bipush (pc := 4) C (-4) dX6_orNone_4 (by decide) ?_
    refine g_goto (pc := 6) C 10 dX6_orNone_6 (by decide) ?_
    have e := Option.some.inj hf; subst e
    exact g_ri (pc := 10) C rfl (flN cI cS ) dX6_orNone_10
set_option maxHeartbeats 4000000 in
set_option maxRecDepth 100000 in
theorem c_X6_marksAt (l : Launch) (D : va_G) (cI cS : ClassId) (a : aM) (m : MD) (x1 : Int32) (out : Int32) (hf : M_marksAt m x1 = some out) : kM l D (kTy cI cS) yX6_marksAt ct_X6_marksAt rm_X6_marksAt [.ref a.1, .int x1] [wM cI cS a m] (kEq (some (.int out)) [wM cI cS a m]) := by
  refine k_methodE cX6_marksAt 4 (some .int) RX6 rfl [(0, .ref a.1), (1, .int x1)] rfl (by decide +kernel) (Nat.le_of_ble_eq_true rfl) (fun κ A hla C => ?_)
  refine g_chunks (flM cI cS a m).symm ?_
  have L4 : ∀ (fu : Nat) (m : MD) (x1 : Int32) (x2 : Int32) (x3 : Int32), M_marksAt_L4 fu m x1 x2 x3 = some out → kG κ D A 4 0 0 (kF κ D A (some (.int out)) [wM cI cS a m]) (csM cI cS a m) [(0, .ref a.1), (1, .int x1), (2, .int x2), (3, .int x3)] 4 [] := by
    intro fu; induction fu with
    | zero => intro m x1 x2 x3 hf; rw [M_marksAt_L4] at hf; cases hf
    | succ fu ih =>
      intro m x1 x2 x3 hf; rw [M_marksAt_L4] at hf
      refine g_iload_n (pc := 4) C 3 dX6_marksAt_4 rfl ?_
      refine g_iconst (pc := 5) C 4 dX6_marksAt_5 (by decide) ?_
      refine g_icmp_ge (pc := 6) C 41 dX6_marksAt_6 (by decide) (fun (c6 : 4 ≤ x3) => ?_) (fun (c6 : ¬ 4 ≤ x3) => ?_)
      · have hf := k_pos c6 hf
        refine g_iload_n (pc := 41) C 2 dX6_marksAt_41 rfl ?_
        have e := Option.some.inj hf; subst e
        exact g_ri (pc := 42) C rfl (flM cI cS a m) dX6_marksAt_42
      · have hf := k_neg c6 hf
        refine g_iload_n (pc := 9) C 2 dX6_marksAt_9 rfl ?_
        refine g_aload_n (pc := 10) C 0 dX6_marksAt_10 rfl ?_
        refine gf_RX6_7 (pc := 11) C 0 rfl dX6_marksAt_11 ?_
        refine g_iconst (pc := 14) C 5 dX6_marksAt_14 (by decide) ?_
        refine g_iload_n (pc := 15) C 3 dX6_marksAt_15 rfl ?_
        refine g_iadd (pc := 16) C dX6_marksAt_16 ?_
        obtain ⟨g17, hf⟩ := k_guard hf
        refine g_iald (pc := 17) C 1 0 rfl rfl g17 dX6_marksAt_17 ?_
        refine g_aload_n (pc := 18) C 0 dX6_marksAt_18 rfl ?_
        refine g_iload_n (pc := 19) C 1 dX6_marksAt_19 rfl ?_
        obtain ⟨v20, h20, hf⟩ := Option.bind_eq_some_iff.mp hf
        refine g_callV' (pc := 20) hla C (c_X6_own l D cI cS a m x1 v20 h20) gg_RX6_39 hd_X6_own (by decide) rfl rfl rfl rfl (Nat.le_of_ble_eq_true rfl) dX6_marksAt_20 (seM_0 cI cS a m) (seM_0 cI cS a m).symm [.int v20, .int (m.1 (ix (5 + x3))), .int x2] rfl ?_
        refine g_icmp_ne (pc := 23) C 32 dX6_marksAt_23 (by decide) (fun (c23 : ¬ (m.1 (ix (5 + x3))) = v20) => ?_) (fun (c23 : (m.1 (ix (5 + x3))) = v20) => ?_)
        · have hf := k_neg c23 hf
          refine g_iconst (pc := 32) C 0 dX6_marksAt_32 (by decide) ?_
          refine g_ior (pc := 33) C dX6_marksAt_33 ?_
          refine g_istore_n (pc := 34) C [(2, .int (x2 ||| 0)), (0, .ref a.1), (1, .int x1), (3, .int x3)] dX6_marksAt_34 (by decide) rfl ?_
          refine g_iinc (pc := 35) C 3 (x3 + 1) [(3, .int (x3 + 1)), (2, .int (x2 ||| 0)), (0, .ref a.1), (1, .int x1)] dX6_marksAt_35 rfl (congrArg (HAdd.hAdd _) (by decide)) (by decide) rfl ?_
          refine g_goto (pc := 38) C 4 dX6_marksAt_38 (by decide) ?_
          refine g_sub [2, 3, 1, 0] (lv' := [(0, .ref a.1), (1, .int x1), (2, .int (x2 ||| 0)), (3, .int (x3 + 1))]) rfl ?_
          exact ih m x1 (x2 ||| 0) (x3 + 1) hf
        · have hf := k_pos c23 hf
          refine g_iconst (pc := 26) C 1 dX6_marksAt_26 (by decide) ?_
          refine g_iload_n (pc := 27) C 3 dX6_marksAt_27 rfl ?_
          refine g_ishl (pc := 28) C dX6_marksAt_28 ?_
          refine g_goto (pc := 29) C 33 dX6_marksAt_29 (by decide) ?_
          refine g_ior (pc := 33) C dX6_marksAt_33 ?_
          refine g_istore_n (pc := 34) C [(2, .int (x2 ||| (1 <<< (x3 &&& 31)))), (0, .ref a.1), (1, .int x1), (3, .int x3)] dX6_marksAt_34 (by decide) rfl ?_
          refine g_iinc (pc := 35) C 3 (x3 + 1) [(3, .int (x3 + 1)), (2, .int (x2 ||| (1 <<< (x3 &&& 31)))), (0, .ref a.1), (1, .int x1)] dX6_marksAt_35 rfl (congrArg (HAdd.hAdd _) (by decide)) (by decide) rfl ?_
          refine g_goto (pc := 38) C 4 dX6_marksAt_38 (by decide) ?_
          refine g_sub [2, 3, 1, 0] (lv' := [(0, .ref a.1), (1, .int x1), (2, .int (x2 ||| (1 <<< (x3 &&& 31)))), (3, .int (x3 + 1))]) rfl ?_
          exact ih m x1 (x2 ||| (1 <<< (x3 &&& 31))) (x3 + 1) hf
  rw [M_marksAt] at hf
  refine g_iconst (pc := 0) C 0 dX6_marksAt_0 (by decide) ?_
  refine g_istore_n (pc := 1) C [(2, .int 0), (0, .ref a.1), (1, .int x1)] dX6_marksAt_1 (by decide) rfl ?_
  refine g_iconst (pc := 2) C 0 dX6_marksAt_2 (by decide) ?_
  refine g_istore_n (pc := 3) C [(3, .int 0), (2, .int 0), (0, .ref a.1), (1, .int x1)] dX6_marksAt_3 (by decide) rfl ?_
  refine g_sub [2, 3, 1, 0] (lv' := [(0, .ref a.1), (1, .int x1), (2, .int 0), (3, .int 0)]) rfl ?_
  exact L4 1000 m x1 0 0 hf
set_option maxHeartbeats 4000000 in
set_option maxRecDepth 100000 in
theorem c_X6_nodeOf (l : Launch) (D : va_G) (cI cS : ClassId) (a : aM) (m : MD) (x1 : Int32) (x2 : Int32) (out : Int32) (hf : M_nodeOf m x1 x2 = some out) : kM l D (kTy cI cS) yX6_nodeOf ct_X6_nodeOf rm_X6_nodeOf [.ref a.1, .int x1, .int x2] [wM cI cS a m] (kEq (some (.int out)) [wM cI cS a m]) := by
  refine k_methodE cX6_nodeOf 3 (some .int) RX6 rfl [(0, .ref a.1), (1, .int x1), (2, .int x2)] rfl (by decide +kernel) (Nat.le_of_ble_eq_true rfl) (fun κ A hla C => ?_)
  refine g_chunks (flM cI cS a m).symm ?_
  rw [M_nodeOf] at hf
  refine g_aload_n (pc := 0) C 0 dX6_nodeOf_0 rfl ?_
  refine g_iload_n (pc := 1) C 1 dX6_nodeOf_1 rfl ?_
  obtain ⟨v2, h2, hf⟩ := Option.bind_eq_some_iff.mp hf
  refine g_callV' (pc := 2) hla C (c_X6_isNode l D cI cS a m x1 v2 h2) gg_RX6_79 hd_X6_isNode (by decide) rfl rfl rfl rfl (Nat.le_of_ble_eq_true rfl) dX6_nodeOf_2 (seM_0 cI cS a m) (seM_0 cI cS a m).symm [.int v2] rfl ?_
  refine g_if_eq (pc := 5) C 18 dX6_nodeOf_5 (by decide) (fun (c5 : v2 = 0) => ?_) (fun (c5 : ¬ v2 = 0) => ?_)
  · have hf := k_pos c5 hf
    refine g_iconst (pc := 18) C (-1) dX6_nodeOf_18 (by decide) ?_
    have e := Option.some.inj hf; subst e
    exact g_ri (pc := 19) C rfl (flM cI cS a m) dX6_nodeOf_19
  · have hf := k_neg c5 hf
    refine g_iload_n (pc := 8) C 2 dX6_nodeOf_8 rfl ?_
    refine g_iconst (pc := 9) C 0 dX6_nodeOf_9 (by decide) ?_
    refine g_bipush (pc := 10) C 7 dX6_nodeOf_10 (by decide) ?_
    obtain ⟨v12, h12, hf⟩ := Option.bind_eq_some_iff.mp hf
    refine g_callS' (pc := 12) hla C (c_X6_in l D cI cS x2 0 7 v12 h12) tb_X6_in m_744 m_X6_in_static m_ini_RX6 hd_X6_in (by decide) rfl rfl (Nat.le_of_ble_eq_true rfl) dX6_nodeOf_12 (seM_nil cI cS a m) (seM_nil cI cS a m).symm [.int v12] rfl ?_
    refine g_if_ne (pc := 15) C 20 dX6_nodeOf_15 (by decide) (fun (c15 : ¬ v12 = 0) => ?_) (fun (c15 : v12 = 0) => ?_)
    · have hf := k_neg c15 hf
      refine g_iload_n (pc := 20) C 2 dX6_nodeOf_20 rfl ?_
      by_cases w0 : x2 = 0
      · have hf := k_pos w0 hf
        refine g_tableIn (pc := 21) C 64 (off := 43) dX6_nodeOf_21 (by rw [k_eq (z := 0) (by decide) w0]; decide) (by rw [k_eq (z := 0) (by decide) w0]; decide) (by rw [k_eq (z := 0) (by decide) w0]; rfl) (by decide) ?_
        refine g_aload_n (pc := 64) C 0 dX6_nodeOf_64 rfl ?_
        refine g_iload_n (pc := 65) C 1 dX6_nodeOf_65 rfl ?_
        obtain ⟨v66, h66, hf⟩ := Option.bind_eq_some_iff.mp hf
        refine g_callV' (pc := 66) hla C (c_X6_sign l D cI cS a m x1 v66 h66) gg_RX6_83 hd_X6_sign (by decide) rfl rfl rfl rfl (Nat.le_of_ble_eq_true rfl) dX6_nodeOf_66 (seM_0 cI cS a m) (seM_0 cI cS a m).symm [.int v66] rfl ?_
        have e := Option.some.inj hf; subst e
        exact g_ri (pc := 69) C rfl (flM cI cS a m) dX6_nodeOf_69
      have hf := k_neg w0 hf
      by_cases w1 : x2 = 1
      · have hf := k_pos w1 hf
        refine g_tableIn (pc := 21) C 70 (off := 49) dX6_nodeOf_21 (by rw [k_eq (z := 1) (by decide) w1]; decide) (by rw [k_eq (z := 1) (by decide) w1]; decide) (by rw [k_eq (z := 1) (by decide) w1]; rfl) (by decide) ?_
        refine g_aload_n (pc := 70) C 0 dX6_nodeOf_70 rfl ?_
        refine g_iload_n (pc := 71) C 1 dX6_nodeOf_71 rfl ?_
        obtain ⟨v72, h72, hf⟩ := Option.bind_eq_some_iff.mp hf
        refine g_callV' (pc := 72) hla C (c_X6_children l D cI cS a m x1 v72 h72) gg_RX6_62 hd_X6_children (by decide) rfl rfl rfl rfl (Nat.le_of_ble_eq_true rfl) dX6_nodeOf_72 (seM_0 cI cS a m) (seM_0 cI cS a m).symm [.int v72] rfl ?_
        have e := Option.some.inj hf; subst e
        exact g_ri (pc := 75) C rfl (flM cI cS a m) dX6_nodeOf_75
      have hf := k_neg w1 hf
      by_cases w2 : x2 = 2
      · have hf := k_pos w2 hf
        refine g_tableIn (pc := 21) C 76 (off := 55) dX6_nodeOf_21 (by rw [k_eq (z := 2) (by decide) w2]; decide) (by rw [k_eq (z := 2) (by decide) w2]; decide) (by rw [k_eq (z := 2) (by decide) w2]; rfl) (by decide) ?_
        refine g_aload_n (pc := 76) C 0 dX6_nodeOf_76 rfl ?_
        refine g_iload_n (pc := 77) C 1 dX6_nodeOf_77 rfl ?_
        obtain ⟨v78, h78, hf⟩ := Option.bind_eq_some_iff.mp hf
        refine g_callV' (pc := 78) hla C (c_X6_above l D cI cS a m x1 v78 h78) gg_RX6_52 hd_X6_above (by decide) rfl rfl rfl rfl (Nat.le_of_ble_eq_true rfl) dX6_nodeOf_78 (seM_0 cI cS a m) (seM_0 cI cS a m).symm [.int v78] rfl ?_
        obtain ⟨v81, h81, hf⟩ := Option.bind_eq_some_iff.mp hf
        refine g_callS' (pc := 81) hla C (c_X6_orNone l D cI cS v78 v81 h81) tb_X6_orNone m_867 m_X6_orNone_static m_ini_RX6 hd_X6_orNone (by decide) rfl rfl (Nat.le_of_ble_eq_true rfl) dX6_nodeOf_81 (seM_nil cI cS a m) (seM_nil cI cS a m).symm [.int v81] rfl ?_
        have e := Option.some.inj hf; subst e
        exact g_ri (pc := 84) C rfl (flM cI cS a m) dX6_nodeOf_84
      have hf := k_neg w2 hf
      by_cases w3 : x2 = 3
      · have hf := k_pos w3 hf
        refine g_tableIn (pc := 21) C 85 (off := 64) dX6_nodeOf_21 (by rw [k_eq (z := 3) (by decide) w3]; decide) (by rw [k_eq (z := 3) (by decide) w3]; decide) (by rw [k_eq (z := 3) (by decide) w3]; rfl) (by decide) ?_
        refine g_aload_n (pc := 85) C 0 dX6_nodeOf_85 rfl ?_
        refine g_iload_n (pc := 86) C 1 dX6_nodeOf_86 rfl ?_
        obtain ⟨v87, h87, hf⟩ := Option.bind_eq_some_iff.mp hf
        refine g_callV' (pc := 87) hla C (c_X6_deep l D cI cS a m x1 v87 h87) gg_RX6_46 hd_X6_deep (by decide) rfl rfl rfl rfl (Nat.le_of_ble_eq_true rfl) dX6_nodeOf_87 (seM_0 cI cS a m) (seM_0 cI cS a m).symm [.int v87] rfl ?_
        have e := Option.some.inj hf; subst e
        exact g_ri (pc := 90) C rfl (flM cI cS a m) dX6_nodeOf_90
      have hf := k_neg w3 hf
      by_cases w4 : x2 = 4
      · have hf := k_pos w4 hf
        refine g_tableIn (pc := 21) C 91 (off := 70) dX6_nodeOf_21 (by rw [k_eq (z := 4) (by decide) w4]; decide) (by rw [k_eq (z := 4) (by decide) w4]; decide) (by rw [k_eq (z := 4) (by decide) w4]; rfl) (by decide) ?_
        refine g_aload_n (pc := 91) C 0 dX6_nodeOf_91 rfl ?_
        refine g_iload_n (pc := 92) C 1 dX6_nodeOf_92 rfl ?_
        obtain ⟨v93, h93, hf⟩ := Option.bind_eq_some_iff.mp hf
        refine g_callV' (pc := 93) hla C (c_X6_end l D cI cS a m x1 v93 h93) gg_RX6_49 hd_X6_end (by decide) rfl rfl rfl rfl (Nat.le_of_ble_eq_true rfl) dX6_nodeOf_93 (seM_0 cI cS a m) (seM_0 cI cS a m).symm [.int v93] rfl ?_
        refine g_iload_n (pc := 96) C 1 dX6_nodeOf_96 rfl ?_
        refine g_isub (pc := 97) C dX6_nodeOf_97 ?_
        have e := Option.some.inj hf; subst e
        exact g_ri (pc := 98) C rfl (flM cI cS a m) dX6_nodeOf_98
      have hf := k_neg w4 hf
      by_cases w5 : x2 = 5
      · have hf := k_pos w5 hf
        refine g_tableIn (pc := 21) C 99 (off := 78) dX6_nodeOf_21 (by rw [k_eq (z := 5) (by decide) w5]; decide) (by rw [k_eq (z := 5) (by decide) w5]; decide) (by rw [k_eq (z := 5) (by decide) w5]; rfl) (by decide) ?_
        refine g_iload_n (pc := 99) C 1 dX6_nodeOf_99 rfl ?_
        refine g_if_ne (pc := 100) C 108 dX6_nodeOf_100 (by decide) (fun (c100 : ¬ x1 = 0) => ?_) (fun (c100 : x1 = 0) => ?_)
        · have hf := k_neg c100 hf
          refine g_aload_n (pc := 108) C 0 dX6_nodeOf_108 rfl ?_
          refine g_iload_n (pc := 109) C 1 dX6_nodeOf_109 rfl ?_
          obtain ⟨v110, h110, hf⟩ := Option.bind_eq_some_iff.mp hf
          refine g_callV' (pc := 110) hla C (c_X6_which l D cI cS a m x1 v110 h110) gg_RX6_115 hd_X6_which (by decide) rfl rfl rfl rfl (Nat.le_of_ble_eq_true rfl) dX6_nodeOf_110 (seM_0 cI cS a m) (seM_0 cI cS a m).symm [.int v110] rfl ?_
          have e := Option.some.inj hf; subst e
          exact g_ri (pc := 113) C rfl (flM cI cS a m) dX6_nodeOf_113
        · have hf := k_pos c100 hf
          refine g_bipush (pc := 103) C (-4) dX6_nodeOf_103 (by decide) ?_
          refine g_goto (pc := 105) C 113 dX6_nodeOf_105 (by decide) ?_
          have e := Option.some.inj hf; subst e
          exact g_ri (pc := 113) C rfl (flM cI cS a m) dX6_nodeOf_113
      have hf := k_neg w5 hf
      by_cases w6 : x2 = 6
      · have hf := k_pos w6 hf
        refine g_tableIn (pc := 21) C 114 (off := 93) dX6_nodeOf_21 (by rw [k_eq (z := 6) (by decide) w6]; decide) (by rw [k_eq (z := 6) (by decide) w6]; decide) (by rw [k_eq (z := 6) (by decide) w6]; rfl) (by decide) ?_
        refine g_aload_n (pc := 114) C 0 dX6_nodeOf_114 rfl ?_
        refine g_iload_n (pc := 115) C 1 dX6_nodeOf_115 rfl ?_
        obtain ⟨v116, h116, hf⟩ := Option.bind_eq_some_iff.mp hf
        refine g_callV' (pc := 116) hla C (c_X6_height l D cI cS a m x1 v116 h116) gg_RX6_106 hd_X6_height (by decide) rfl rfl rfl rfl (Nat.le_of_ble_eq_true rfl) dX6_nodeOf_116 (seM_0 cI cS a m) (seM_0 cI cS a m).symm [.int v116] rfl ?_
        have e := Option.some.inj hf; subst e
        exact g_ri (pc := 119) C rfl (flM cI cS a m) dX6_nodeOf_119
      have hf := k_neg w6 hf
      refine g_tableOut (pc := 21) C 120 dX6_nodeOf_21 (by have z0 := k_ne (z := 0) 0 (by decide) w0; have z1 := k_ne (z := 1) 1 (by decide) w1; have z2 := k_ne (z := 2) 2 (by decide) w2; have z3 := k_ne (z := 3) 3 (by decide) w3; have z4 := k_ne (z := 4) 4 (by decide) w4; have z5 := k_ne (z := 5) 5 (by decide) w5; have z6 := k_ne (z := 6) 6 (by decide) w6; omega) (by decide) ?_
      refine g_aload_n (pc := 120) C 0 dX6_nodeOf_120 rfl ?_
      refine g_iload_n (pc := 121) C 1 dX6_nodeOf_121 rfl ?_
      obtain ⟨v122, h122, hf⟩ := Option.bind_eq_some_iff.mp hf
      refine g_callV' (pc := 122) hla C (c_X6_marksAt l D cI cS a m x1 v122 h122) gg_RX6_124 hd_X6_marksAt (by decide) rfl rfl rfl rfl (Nat.le_of_ble_eq_true rfl) dX6_nodeOf_122 (seM_0 cI cS a m) (seM_0 cI cS a m).symm [.int v122] rfl ?_
      have e := Option.some.inj hf; subst e
      exact g_ri (pc := 125) C rfl (flM cI cS a m) dX6_nodeOf_125
    · have hf := k_pos c15 hf
      refine g_iconst (pc := 18) C (-1) dX6_nodeOf_18 (by decide) ?_
      have e := Option.some.inj hf; subst e
      exact g_ri (pc := 19) C rfl (flM cI cS a m) dX6_nodeOf_19
set_option maxHeartbeats 4000000 in
set_option maxRecDepth 100000 in
theorem c_X6_spine (l : Launch) (D : va_G) (cI cS : ClassId) (a : aM) (m : MD) (x1 : Int32) (x2 : Int32) (out : Int32) (hf : M_spine m x1 x2 = some out) : kM l D (kTy cI cS) yX6_spine ct_X6_spine rm_X6_spine [.ref a.1, .int x1, .int x2] [wM cI cS a m] (kEq (some (.int out)) [wM cI cS a m]) := by
  refine k_methodE cX6_spine 4 (some .int) RX6 rfl [(0, .ref a.1), (1, .int x1), (2, .int x2)] rfl (by decide +kernel) (Nat.le_of_ble_eq_true rfl) (fun κ A hla C => ?_)
  refine g_chunks (flM cI cS a m).symm ?_
  have L32 : ∀ (fu : Nat) (m : MD) (x1 : Int32) (x2 : Int32) (x3 : Int32), M_spine_L32 fu m x1 x2 x3 = some out → kG κ D A 4 0 0 (kF κ D A (some (.int out)) [wM cI cS a m]) (csM cI cS a m) [(0, .ref a.1), (1, .int x1), (2, .int x2), (3, .int x3)] 32 [] := by
    intro fu; induction fu with
    | zero => intro m x1 x2 x3 hf; rw [M_spine_L32] at hf; cases hf
    | succ fu ih =>
      intro m x1 x2 x3 hf; rw [M_spine_L32] at hf
      refine g_aload_n (pc := 32) C 0 dX6_spine_32 rfl ?_
      refine g_iload_n (pc := 33) C 3 dX6_spine_33 rfl ?_
      obtain ⟨v34, h34, hf⟩ := Option.bind_eq_some_iff.mp hf
      refine g_callV' (pc := 34) hla C (c_X6_deep l D cI cS a m x3 v34 h34) gg_RX6_46 hd_X6_deep (by decide) rfl rfl rfl rfl (Nat.le_of_ble_eq_true rfl) dX6_spine_34 (seM_0 cI cS a m) (seM_0 cI cS a m).symm [.int v34] rfl ?_
      refine g_iload_n (pc := 37) C 1 dX6_spine_37 rfl ?_
      refine g_icmp_le (pc := 38) C 50 dX6_spine_38 (by decide) (fun (c38 : v34 ≤ x1) => ?_) (fun (c38 : ¬ v34 ≤ x1) => ?_)
      · have hf := k_pos c38 hf
        refine g_iload_n (pc := 50) C 2 dX6_spine_50 rfl ?_
        refine g_if_ne (pc := 51) C 58 dX6_spine_51 (by decide) (fun (c51 : ¬ x2 = 0) => ?_) (fun (c51 : x2 = 0) => ?_)
        · have hf := k_neg c51 hf
          refine g_iload_n (pc := 58) C 2 dX6_spine_58 rfl ?_
          refine g_iconst (pc := 59) C 1 dX6_spine_59 (by decide) ?_
          refine g_icmp_ne (pc := 60) C 71 dX6_spine_60 (by decide) (fun (c60 : ¬ x2 = 1) => ?_) (fun (c60 : x2 = 1) => ?_)
          · have hf := k_neg c60 hf
            refine g_iload_n (pc := 71) C 3 dX6_spine_71 rfl ?_
            refine g_if_ne (pc := 72) C 79 dX6_spine_72 (by decide) (fun (c72 : ¬ x3 = 0) => ?_) (fun (c72 : x3 = 0) => ?_)
            · have hf := k_neg c72 hf
              refine g_aload_n (pc := 79) C 0 dX6_spine_79 rfl ?_
              refine g_iload_n (pc := 80) C 3 dX6_spine_80 rfl ?_
              obtain ⟨v81, h81, hf⟩ := Option.bind_eq_some_iff.mp hf
              refine g_callV' (pc := 81) hla C (c_X6_which l D cI cS a m x3 v81 h81) gg_RX6_115 hd_X6_which (by decide) rfl rfl rfl rfl (Nat.le_of_ble_eq_true rfl) dX6_spine_81 (seM_0 cI cS a m) (seM_0 cI cS a m).symm [.int v81] rfl ?_
              have e := Option.some.inj hf; subst e
              exact g_ri (pc := 84) C rfl (flM cI cS a m) dX6_spine_84
            · have hf := k_pos c72 hf
              refine g_iconst (pc := 75) C 0 dX6_spine_75 (by decide) ?_
              refine g_goto (pc := 76) C 84 dX6_spine_76 (by decide) ?_
              have e := Option.some.inj hf; subst e
              exact g_ri (pc := 84) C rfl (flM cI cS a m) dX6_spine_84
          · have hf := k_pos c60 hf
            refine g_aload_n (pc := 63) C 0 dX6_spine_63 rfl ?_
            refine g_iload_n (pc := 64) C 3 dX6_spine_64 rfl ?_
            obtain ⟨v65, h65, hf⟩ := Option.bind_eq_some_iff.mp hf
            refine g_callV' (pc := 65) hla C (c_X6_sign l D cI cS a m x3 v65 h65) gg_RX6_83 hd_X6_sign (by decide) rfl rfl rfl rfl (Nat.le_of_ble_eq_true rfl) dX6_spine_65 (seM_0 cI cS a m) (seM_0 cI cS a m).symm [.int v65] rfl ?_
            refine g_goto (pc := 68) C 84 dX6_spine_68 (by decide) ?_
            have e := Option.some.inj hf; subst e
            exact g_ri (pc := 84) C rfl (flM cI cS a m) dX6_spine_84
        · have hf := k_pos c51 hf
          refine g_iload_n (pc := 54) C 3 dX6_spine_54 rfl ?_
          refine g_goto (pc := 55) C 84 dX6_spine_55 (by decide) ?_
          have e := Option.some.inj hf; subst e
          exact g_ri (pc := 84) C rfl (flM cI cS a m) dX6_spine_84
      · have hf := k_neg c38 hf
        refine g_aload_n (pc := 41) C 0 dX6_spine_41 rfl ?_
        refine g_iload_n (pc := 42) C 3 dX6_spine_42 rfl ?_
        obtain ⟨v43, h43, hf⟩ := Option.bind_eq_some_iff.mp hf
        refine g_callV' (pc := 43) hla C (c_X6_above l D cI cS a m x3 v43 h43) gg_RX6_52 hd_X6_above (by decide) rfl rfl rfl rfl (Nat.le_of_ble_eq_true rfl) dX6_spine_43 (seM_0 cI cS a m) (seM_0 cI cS a m).symm [.int v43] rfl ?_
        refine g_istore_n (pc := 46) C [(3, .int v43), (0, .ref a.1), (1, .int x1), (2, .int x2)] dX6_spine_46 (by decide) rfl ?_
        refine g_goto (pc := 47) C 32 dX6_spine_47 (by decide) ?_
        refine g_sub [1, 2, 3, 0] (lv' := [(0, .ref a.1), (1, .int x1), (2, .int x2), (3, .int v43)]) rfl ?_
        exact ih m x1 x2 v43 hf
  rw [M_spine] at hf
  refine g_iload_n (pc := 0) C 1 dX6_spine_0 rfl ?_
  refine g_if_lt (pc := 1) C 13 dX6_spine_1 (by decide) (fun (c1 : x1 < 0) => ?_) (fun (c1 : ¬ x1 < 0) => ?_)
  · have hf := k_pos c1 hf
    refine g_iconst (pc := 13) C (-1) dX6_spine_13 (by decide) ?_
    have e := Option.some.inj hf; subst e
    exact g_ri (pc := 14) C rfl (flM cI cS a m) dX6_spine_14
  · have hf := k_neg c1 hf
    refine g_iload_n (pc := 4) C 2 dX6_spine_4 rfl ?_
    refine g_iconst (pc := 5) C 0 dX6_spine_5 (by decide) ?_
    refine g_iconst (pc := 6) C 2 dX6_spine_6 (by decide) ?_
    obtain ⟨v7, h7, hf⟩ := Option.bind_eq_some_iff.mp hf
    refine g_callS' (pc := 7) hla C (c_X6_in l D cI cS x2 0 2 v7 h7) tb_X6_in m_744 m_X6_in_static m_ini_RX6 hd_X6_in (by decide) rfl rfl (Nat.le_of_ble_eq_true rfl) dX6_spine_7 (seM_nil cI cS a m) (seM_nil cI cS a m).symm [.int v7] rfl ?_
    refine g_if_ne (pc := 10) C 15 dX6_spine_10 (by decide) (fun (c10 : ¬ v7 = 0) => ?_) (fun (c10 : v7 = 0) => ?_)
    · have hf := k_neg c10 hf
      refine g_aload_n (pc := 15) C 0 dX6_spine_15 rfl ?_
      obtain ⟨v16, h16, hf⟩ := Option.bind_eq_some_iff.mp hf
      refine g_callV' (pc := 16) hla C (c_X6_place l D cI cS a m v16 h16) gg_RX6_58 hd_X6_place (by decide) rfl rfl rfl rfl (Nat.le_of_ble_eq_true rfl) dX6_spine_16 (seM_0 cI cS a m) (seM_0 cI cS a m).symm [.int v16] rfl ?_
      refine g_istore_n (pc := 19) C [(3, .int v16), (0, .ref a.1), (1, .int x1), (2, .int x2)] dX6_spine_19 (by decide) rfl ?_
      refine g_iload_n (pc := 20) C 2 dX6_spine_20 rfl ?_
      refine g_aload_n (pc := 21) C 1 dX6_spine_21 rfl ?_
      refine g_iload_n (pc := 22) C 0 dX6_spine_22 rfl ?_
      obtain ⟨v23, h23, hf⟩ := Option.bind_eq_some_iff.mp hf
      refine g_callV' (pc := 23) hla C (c_X6_deep l D cI cS a m v16 v23 h23) gg_RX6_46 hd_X6_deep (by decide) rfl rfl rfl rfl (Nat.le_of_ble_eq_true rfl) dX6_spine_23 (seM_0 cI cS a m) (seM_0 cI cS a m).symm [.int v23, .int x1] rfl ?_
      refine g_icmp_le (pc := 26) C 32 dX6_spine_26 (by decide) (fun (c26 : x1 ≤ v23) => ?_) (fun (c26 : ¬ x1 ≤ v23) => ?_)
      · have hf := k_pos c26 hf
        refine g_sub [1, 2, 3, 0] (lv' := [(0, .ref a.1), (1, .int x1), (2, .int x2), (3, .int v16)]) rfl ?_
        exact L32 1000 m x1 x2 v16 hf
      · have hf := k_neg c26 hf
        refine g_bipush (pc := 29) C (-4) dX6_spine_29 (by decide) ?_
        have e := Option.some.inj hf; subst e
        exact g_ri (pc := 31) C rfl (flM cI cS a m) dX6_spine_31
    · have hf := k_pos c10 hf
      refine g_iconst (pc := 13) C (-1) dX6_spine_13 (by decide) ?_
      have e := Option.some.inj hf; subst e
      exact g_ri (pc := 14) C rfl (flM cI cS a m) dX6_spine_14
set_option maxHeartbeats 4000000 in
set_option maxRecDepth 100000 in
theorem c_X6_marked (l : Launch) (D : va_G) (cI cS : ClassId) (a : aM) (m : MD) (x1 : Int32) (out : Int32) (hf : M_marked m x1 = some out) : kM l D (kTy cI cS) yX6_marked ct_X6_marked rm_X6_marked [.ref a.1, .int x1] [wM cI cS a m] (kEq (some (.int out)) [wM cI cS a m]) := by
  refine k_methodE cX6_marked 2 (some .int) RX6 rfl [(0, .ref a.1), (1, .int x1)] rfl (by decide +kernel) (Nat.le_of_ble_eq_true rfl) (fun κ A hla C => ?_)
  refine g_chunks (flM cI cS a m).symm ?_
  rw [M_marked] at hf
  refine g_iload_n (pc := 0) C 1 dX6_marked_0 rfl ?_
  refine g_iconst (pc := 1) C 0 dX6_marked_1 (by decide) ?_
  refine g_iconst (pc := 2) C 3 dX6_marked_2 (by decide) ?_
  obtain ⟨v3, h3, hf⟩ := Option.bind_eq_some_iff.mp hf
  refine g_callS' (pc := 3) hla C (c_X6_in l D cI cS x1 0 3 v3 h3) tb_X6_in m_744 m_X6_in_static m_ini_RX6 hd_X6_in (by decide) rfl rfl (Nat.le_of_ble_eq_true rfl) dX6_marked_3 (seM_nil cI cS a m) (seM_nil cI cS a m).symm [.int v3] rfl ?_
  refine g_if_eq (pc := 6) C 27 dX6_marked_6 (by decide) (fun (c6 : v3 = 0) => ?_) (fun (c6 : ¬ v3 = 0) => ?_)
  · have hf := k_pos c6 hf
    refine g_iconst (pc := 27) C (-1) dX6_marked_27 (by decide) ?_
    have e := Option.some.inj hf; subst e
    exact g_ri (pc := 28) C rfl (flM cI cS a m) dX6_marked_28
  · have hf := k_neg c6 hf
    refine g_aload_n (pc := 9) C 0 dX6_marked_9 rfl ?_
    refine g_aload_n (pc := 10) C 0 dX6_marked_10 rfl ?_
    refine gf_RX6_7 (pc := 11) C 0 rfl dX6_marked_11 ?_
    refine g_iconst (pc := 14) C 5 dX6_marked_14 (by decide) ?_
    refine g_iload_n (pc := 15) C 1 dX6_marked_15 rfl ?_
    refine g_iadd (pc := 16) C dX6_marked_16 ?_
    obtain ⟨g17, hf⟩ := k_guard hf
    refine g_iald (pc := 17) C 1 0 rfl rfl g17 dX6_marked_17 ?_
    obtain ⟨v18, h18, hf⟩ := Option.bind_eq_some_iff.mp hf
    refine g_callV' (pc := 18) hla C (c_X6_numberOf l D cI cS a m (m.1 (ix (5 + x1))) v18 h18) gg_RX6_43 hd_X6_numberOf (by decide) rfl rfl rfl rfl (Nat.le_of_ble_eq_true rfl) dX6_marked_18 (seM_0 cI cS a m) (seM_0 cI cS a m).symm [.int v18] rfl ?_
    obtain ⟨v21, h21, hf⟩ := Option.bind_eq_some_iff.mp hf
    refine g_callS' (pc := 21) hla C (c_X6_orNone l D cI cS v18 v21 h21) tb_X6_orNone m_867 m_X6_orNone_static m_ini_RX6 hd_X6_orNone (by decide) rfl rfl (Nat.le_of_ble_eq_true rfl) dX6_marked_21 (seM_nil cI cS a m) (seM_nil cI cS a m).symm [.int v21] rfl ?_
    refine g_goto (pc := 24) C 28 dX6_marked_24 (by decide) ?_
    have e := Option.some.inj hf; subst e
    exact g_ri (pc := 28) C rfl (flM cI cS a m) dX6_marked_28
set_option maxHeartbeats 4000000 in
set_option maxRecDepth 100000 in
theorem c_X6_leaves (l : Launch) (D : va_G) (cI cS : ClassId) (a : aM) (m : MD) (out : Int32) (hf : M_leaves m = some out) : kM l D (kTy cI cS) yX6_leaves ct_X6_leaves rm_X6_leaves [.ref a.1] [wM cI cS a m] (kEq (some (.int out)) [wM cI cS a m]) := by
  refine k_methodE cX6_leaves 3 (some .int) RX6 rfl [(0, .ref a.1)] rfl (by decide +kernel) (Nat.le_of_ble_eq_true rfl) (fun κ A hla C => ?_)
  refine g_chunks (flM cI cS a m).symm ?_
  have L4 : ∀ (fu : Nat) (m : MD) (x1 : Int32) (x2 : Int32), M_leaves_L4 fu m x1 x2 = some out → kG κ D A 3 0 0 (kF κ D A (some (.int out)) [wM cI cS a m]) (csM cI cS a m) [(0, .ref a.1), (1, .int x1), (2, .int x2)] 4 [] := by
    intro fu; induction fu with
    | zero => intro m x1 x2 hf; rw [M_leaves_L4] at hf; cases hf
    | succ fu ih =>
      intro m x1 x2 hf; rw [M_leaves_L4] at hf
      refine g_iload_n (pc := 4) C 2 dX6_leaves_4 rfl ?_
      refine g_aload_n (pc := 5) C 0 dX6_leaves_5 rfl ?_
      refine gf_RX6_7 (pc := 6) C 0 rfl dX6_leaves_6 ?_
      refine g_iconst (pc := 9) C 0 dX6_leaves_9 (by decide) ?_
      refine g_iald (pc := 10) C 1 0 rfl rfl (by decide) dX6_leaves_10 ?_
      refine g_icmp_ge (pc := 11) C 36 dX6_leaves_11 (by decide) (fun (c11 : (m.1 (ix 0)) ≤ x2) => ?_) (fun (c11 : ¬ (m.1 (ix 0)) ≤ x2) => ?_)
      · have hf := k_pos c11 hf
        refine g_iload_n (pc := 36) C 1 dX6_leaves_36 rfl ?_
        have e := Option.some.inj hf; subst e
        exact g_ri (pc := 37) C rfl (flM cI cS a m) dX6_leaves_37
      · have hf := k_neg c11 hf
        refine g_iload_n (pc := 14) C 1 dX6_leaves_14 rfl ?_
        refine g_aload_n (pc := 15) C 0 dX6_leaves_15 rfl ?_
        refine g_iload_n (pc := 16) C 2 dX6_leaves_16 rfl ?_
        obtain ⟨v17, h17, hf⟩ := Option.bind_eq_some_iff.mp hf
        refine g_callV' (pc := 17) hla C (c_X6_children l D cI cS a m x2 v17 h17) gg_RX6_62 hd_X6_children (by decide) rfl rfl rfl rfl (Nat.le_of_ble_eq_true rfl) dX6_leaves_17 (seM_0 cI cS a m) (seM_0 cI cS a m).symm [.int v17, .int x1] rfl ?_
        refine g_if_ne (pc := 20) C 27 dX6_leaves_20 (by decide) (fun (c20 : ¬ v17 = 0) => ?_) (fun (c20 : v17 = 0) => ?_)
        · have hf := k_neg c20 hf
          refine g_iconst (pc := 27) C 0 dX6_leaves_27 (by decide) ?_
          refine g_iadd (pc := 28) C dX6_leaves_28 ?_
          refine g_istore_n (pc := 29) C [(1, .int (x1 + 0)), (0, .ref a.1), (2, .int x2)] dX6_leaves_29 (by decide) rfl ?_
          refine g_iinc (pc := 30) C 2 (x2 + 1) [(2, .int (x2 + 1)), (1, .int (x1 + 0)), (0, .ref a.1)] dX6_leaves_30 rfl (congrArg (HAdd.hAdd _) (by decide)) (by decide) rfl ?_
          refine g_goto (pc := 33) C 4 dX6_leaves_33 (by decide) ?_
          refine g_sub [2, 1, 0] (lv' := [(0, .ref a.1), (1, .int (x1 + 0)), (2, .int (x2 + 1))]) rfl ?_
          exact ih m (x1 + 0) (x2 + 1) hf
        · have hf := k_pos c20 hf
          refine g_iconst (pc := 23) C 1 dX6_leaves_23 (by decide) ?_
          refine g_goto (pc := 24) C 28 dX6_leaves_24 (by decide) ?_
          refine g_iadd (pc := 28) C dX6_leaves_28 ?_
          refine g_istore_n (pc := 29) C [(1, .int (x1 + 1)), (0, .ref a.1), (2, .int x2)] dX6_leaves_29 (by decide) rfl ?_
          refine g_iinc (pc := 30) C 2 (x2 + 1) [(2, .int (x2 + 1)), (1, .int (x1 + 1)), (0, .ref a.1)] dX6_leaves_30 rfl (congrArg (HAdd.hAdd _) (by decide)) (by decide) rfl ?_
          refine g_goto (pc := 33) C 4 dX6_leaves_33 (by decide) ?_
          refine g_sub [2, 1, 0] (lv' := [(0, .ref a.1), (1, .int (x1 + 1)), (2, .int (x2 + 1))]) rfl ?_
          exact ih m (x1 + 1) (x2 + 1) hf
  rw [M_leaves] at hf
  refine g_iconst (pc := 0) C 0 dX6_leaves_0 (by decide) ?_
  refine g_istore_n (pc := 1) C [(1, .int 0), (0, .ref a.1)] dX6_leaves_1 (by decide) rfl ?_
  refine g_iconst (pc := 2) C 0 dX6_leaves_2 (by decide) ?_
  refine g_istore_n (pc := 3) C [(2, .int 0), (1, .int 0), (0, .ref a.1)] dX6_leaves_3 (by decide) rfl ?_
  refine g_sub [2, 1, 0] (lv' := [(0, .ref a.1), (1, .int 0), (2, .int 0)]) rfl ?_
  exact L4 1000 m 0 0 hf
set_option maxHeartbeats 4000000 in
set_option maxRecDepth 100000 in
theorem c_X6_unlike (l : Launch) (D : va_G) (cI cS : ClassId) (a : aM) (m : MD) (out : Int32) (hf : M_unlike m = some out) : kM l D (kTy cI cS) yX6_unlike ct_X6_unlike rm_X6_unlike [.ref a.1] [wM cI cS a m] (kEq (some (.int out)) [wM cI cS a m]) := by
  refine k_methodE cX6_unlike 4 (some .int) RX6 rfl [(0, .ref a.1)] rfl (by decide +kernel) (Nat.le_of_ble_eq_true rfl) (fun κ A hla C => ?_)
  refine g_chunks (flM cI cS a m).symm ?_
  have J34 : ∀ (K : MD → Int32 → Int32 → Int32 → Option (Int32)) (_ : ∀ (m : MD) (x1 : Int32) (x2 : Int32) (x3 : Int32), K m x1 x2 x3 = some out → kG κ D A 4 0 0 (kF κ D A (some (.int out)) [wM cI cS a m]) (csM cI cS a m) [(0, .ref a.1), (1, .int x1), (2, .int x2), (3, .int x3)] 6 []) (m : MD) (x2 : Int32) (x3 : Int32) (s0 : Int32) (s1 : Int32), M_unlike_J34 K m x2 x3 s0 s1 = some out → kG κ D A 4 0 0 (kF κ D A (some (.int out)) [wM cI cS a m]) (csM cI cS a m) [(0, .ref a.1), (2, .int x2), (3, .int x3)] 34 [.int s0, .int s1] := by
    intro K hK m x2 x3 s0 s1 hf; rw [M_unlike_J34] at hf
    refine g_iadd (pc := 34) C dX6_unlike_34 ?_
    refine g_istore_n (pc := 35) C [(1, .int (s0 + s1)), (0, .ref a.1), (2, .int x2), (3, .int x3)] dX6_unlike_35 (by decide) rfl ?_
    refine g_iload_n (pc := 36) C 2 dX6_unlike_36 rfl ?_
    refine g_iconst (pc := 37) C 1 dX6_unlike_37 (by decide) ?_
    refine g_aload_n (pc := 38) C 1 dX6_unlike_38 rfl ?_
    refine g_iload_n (pc := 39) C 3 dX6_unlike_39 rfl ?_
    obtain ⟨v40, h40, hf⟩ := Option.bind_eq_some_iff.mp hf
    refine g_callV' (pc := 40) hla C (c_X6_sign l D cI cS a m x3 v40 h40) gg_RX6_83 hd_X6_sign (by decide) rfl rfl rfl rfl (Nat.le_of_ble_eq_true rfl) dX6_unlike_40 (seM_0 cI cS a m) (seM_0 cI cS a m).symm [.int v40, .int 1, .int x2] rfl ?_
    refine g_ishl (pc := 43) C dX6_unlike_43 ?_
    refine g_ior (pc := 44) C dX6_unlike_44 ?_
    refine g_istore_n (pc := 45) C [(2, .int (x2 ||| (1 <<< (v40 &&& 31)))), (1, .int (s0 + s1)), (0, .ref a.1), (3, .int x3)] dX6_unlike_45 (by decide) rfl ?_
    refine g_iinc (pc := 46) C 3 (x3 + 1) [(3, .int (x3 + 1)), (2, .int (x2 ||| (1 <<< (v40 &&& 31)))), (1, .int (s0 + s1)), (0, .ref a.1)] dX6_unlike_46 rfl (congrArg (HAdd.hAdd _) (by decide)) (by decide) rfl ?_
    refine g_goto (pc := 49) C 6 dX6_unlike_49 (by decide) ?_
    refine g_sub [3, 2, 1, 0] (lv' := [(0, .ref a.1), (1, .int (s0 + s1)), (2, .int (x2 ||| (1 <<< (v40 &&& 31)))), (3, .int (x3 + 1))]) rfl ?_
    exact hK m (s0 + s1) (x2 ||| (1 <<< (v40 &&& 31))) (x3 + 1) hf
  have L6 : ∀ (fu : Nat) (m : MD) (x1 : Int32) (x2 : Int32) (x3 : Int32), M_unlike_L6 fu m x1 x2 x3 = some out → kG κ D A 4 0 0 (kF κ D A (some (.int out)) [wM cI cS a m]) (csM cI cS a m) [(0, .ref a.1), (1, .int x1), (2, .int x2), (3, .int x3)] 6 [] := by
    intro fu; induction fu with
    | zero => intro m x1 x2 x3 hf; rw [M_unlike_L6] at hf; cases hf
    | succ fu ih =>
      intro m x1 x2 x3 hf; rw [M_unlike_L6] at hf
      refine g_iload_n (pc := 6) C 3 dX6_unlike_6 rfl ?_
      refine g_aload_n (pc := 7) C 0 dX6_unlike_7 rfl ?_
      refine gf_RX6_7 (pc := 8) C 0 rfl dX6_unlike_8 ?_
      refine g_iconst (pc := 11) C 0 dX6_unlike_11 (by decide) ?_
      refine g_iald (pc := 12) C 1 0 rfl rfl (by decide) dX6_unlike_12 ?_
      refine g_icmp_ge (pc := 13) C 52 dX6_unlike_13 (by decide) (fun (c13 : (m.1 (ix 0)) ≤ x3) => ?_) (fun (c13 : ¬ (m.1 (ix 0)) ≤ x3) => ?_)
      · have hf := k_pos c13 hf
        refine g_iload_n (pc := 52) C 1 dX6_unlike_52 rfl ?_
        have e := Option.some.inj hf; subst e
        exact g_ri (pc := 53) C rfl (flM cI cS a m) dX6_unlike_53
      · have hf := k_neg c13 hf
        refine g_iload_n (pc := 16) C 1 dX6_unlike_16 rfl ?_
        refine g_iload_n (pc := 17) C 2 dX6_unlike_17 rfl ?_
        refine g_aload_n (pc := 18) C 0 dX6_unlike_18 rfl ?_
        refine g_iload_n (pc := 19) C 3 dX6_unlike_19 rfl ?_
        obtain ⟨v20, h20, hf⟩ := Option.bind_eq_some_iff.mp hf
        refine g_callV' (pc := 20) hla C (c_X6_sign l D cI cS a m x3 v20 h20) gg_RX6_83 hd_X6_sign (by decide) rfl rfl rfl rfl (Nat.le_of_ble_eq_true rfl) dX6_unlike_20 (seM_0 cI cS a m) (seM_0 cI cS a m).symm [.int v20, .int x2, .int x1] rfl ?_
        refine g_ishr (pc := 23) C dX6_unlike_23 ?_
        refine g_iconst (pc := 24) C 1 dX6_unlike_24 (by decide) ?_
        refine g_iand (pc := 25) C dX6_unlike_25 ?_
        refine g_if_ne (pc := 26) C 33 dX6_unlike_26 (by decide) (fun (c26 : ¬ ((x2 >>> (v20 &&& 31)) &&& 1) = 0) => ?_) (fun (c26 : ((x2 >>> (v20 &&& 31)) &&& 1) = 0) => ?_)
        · have hf := k_neg c26 hf
          refine g_iconst (pc := 33) C 0 dX6_unlike_33 (by decide) ?_
          refine g_sub [0, 2, 3] (lv' := [(0, .ref a.1), (2, .int x2), (3, .int x3)]) rfl ?_
          exact J34 (fun q0 q1 q2 q3 => M_unlike_L6 fu q0 q1 q2 q3) ih m x2 x3 x1 0 hf
        · have hf := k_pos c26 hf
          refine g_iconst (pc := 29) C 1 dX6_unlike_29 (by decide) ?_
          refine g_goto (pc := 30) C 34 dX6_unlike_30 (by decide) ?_
          refine g_sub [0, 2, 3] (lv' := [(0, .ref a.1), (2, .int x2), (3, .int x3)]) rfl ?_
          exact J34 (fun q0 q1 q2 q3 => M_unlike_L6 fu q0 q1 q2 q3) ih m x2 x3 x1 1 hf
  rw [M_unlike] at hf
  refine g_iconst (pc := 0) C 0 dX6_unlike_0 (by decide) ?_
  refine g_istore_n (pc := 1) C [(1, .int 0), (0, .ref a.1)] dX6_unlike_1 (by decide) rfl ?_
  refine g_iconst (pc := 2) C 0 dX6_unlike_2 (by decide) ?_
  refine g_istore_n (pc := 3) C [(2, .int 0), (1, .int 0), (0, .ref a.1)] dX6_unlike_3 (by decide) rfl ?_
  refine g_iconst (pc := 4) C 0 dX6_unlike_4 (by decide) ?_
  refine g_istore_n (pc := 5) C [(3, .int 0), (2, .int 0), (1, .int 0), (0, .ref a.1)] dX6_unlike_5 (by decide) rfl ?_
  refine g_sub [3, 2, 1, 0] (lv' := [(0, .ref a.1), (1, .int 0), (2, .int 0), (3, .int 0)]) rfl ?_
  exact L6 1000 m 0 0 0 hf
set_option maxHeartbeats 4000000 in
set_option maxRecDepth 100000 in
theorem c_X6_count (l : Launch) (D : va_G) (cI cS : ClassId) (a : aM) (m : MD) (x1 : Int32) (out : Int32) (hf : M_count m x1 = some out) : kM l D (kTy cI cS) yX6_count ct_X6_count rm_X6_count [.ref a.1, .int x1] [wM cI cS a m] (kEq (some (.int out)) [wM cI cS a m]) := by
  refine k_methodE cX6_count 2 (some .int) RX6 rfl [(0, .ref a.1), (1, .int x1)] rfl (by decide +kernel) (Nat.le_of_ble_eq_true rfl) (fun κ A hla C => ?_)
  refine g_chunks (flM cI cS a m).symm ?_
  rw [M_count] at hf
  refine g_iload_n (pc := 0) C 1 dX6_count_0 rfl ?_
  by_cases w0 : x1 = 0
  · have hf := k_pos w0 hf
    refine g_tableIn (pc := 1) C 52 (off := 51) dX6_count_1 (by rw [k_eq (z := 0) (by decide) w0]; decide) (by rw [k_eq (z := 0) (by decide) w0]; decide) (by rw [k_eq (z := 0) (by decide) w0]; rfl) (by decide) ?_
    refine g_aload_n (pc := 52) C 0 dX6_count_52 rfl ?_
    refine gf_RX6_7 (pc := 53) C 0 rfl dX6_count_53 ?_
    refine g_iconst (pc := 56) C 0 dX6_count_56 (by decide) ?_
    refine g_iald (pc := 57) C 1 0 rfl rfl (by decide) dX6_count_57 ?_
    have e := Option.some.inj hf; subst e
    exact g_ri (pc := 58) C rfl (flM cI cS a m) dX6_count_58
  have hf := k_neg w0 hf
  by_cases w1 : x1 = 1
  · have hf := k_pos w1 hf
    refine g_tableIn (pc := 1) C 59 (off := 58) dX6_count_1 (by rw [k_eq (z := 1) (by decide) w1]; decide) (by rw [k_eq (z := 1) (by decide) w1]; decide) (by rw [k_eq (z := 1) (by decide) w1]; rfl) (by decide) ?_
    refine g_aload_n (pc := 59) C 0 dX6_count_59 rfl ?_
    obtain ⟨v60, h60, hf⟩ := Option.bind_eq_some_iff.mp hf
    refine g_callV' (pc := 60) hla C (c_X6_place l D cI cS a m v60 h60) gg_RX6_58 hd_X6_place (by decide) rfl rfl rfl rfl (Nat.le_of_ble_eq_true rfl) dX6_count_60 (seM_0 cI cS a m) (seM_0 cI cS a m).symm [.int v60] rfl ?_
    have e := Option.some.inj hf; subst e
    exact g_ri (pc := 63) C rfl (flM cI cS a m) dX6_count_63
  have hf := k_neg w1 hf
  by_cases w2 : x1 = 2
  · have hf := k_pos w2 hf
    refine g_tableIn (pc := 1) C 64 (off := 63) dX6_count_1 (by rw [k_eq (z := 2) (by decide) w2]; decide) (by rw [k_eq (z := 2) (by decide) w2]; decide) (by rw [k_eq (z := 2) (by decide) w2]; rfl) (by decide) ?_
    refine g_aload_n (pc := 64) C 0 dX6_count_64 rfl ?_
    refine g_aload_n (pc := 65) C 0 dX6_count_65 rfl ?_
    obtain ⟨v66, h66, hf⟩ := Option.bind_eq_some_iff.mp hf
    refine g_callV' (pc := 66) hla C (c_X6_place l D cI cS a m v66 h66) gg_RX6_58 hd_X6_place (by decide) rfl rfl rfl rfl (Nat.le_of_ble_eq_true rfl) dX6_count_66 (seM_0 cI cS a m) (seM_0 cI cS a m).symm [.int v66, .ref a.1] rfl ?_
    obtain ⟨v69, h69, hf⟩ := Option.bind_eq_some_iff.mp hf
    refine g_callV' (pc := 69) hla C (c_X6_deep l D cI cS a m v66 v69 h69) gg_RX6_46 hd_X6_deep (by decide) rfl rfl rfl rfl (Nat.le_of_ble_eq_true rfl) dX6_count_69 (seM_0 cI cS a m) (seM_0 cI cS a m).symm [.int v69] rfl ?_
    have e := Option.some.inj hf; subst e
    exact g_ri (pc := 72) C rfl (flM cI cS a m) dX6_count_72
  have hf := k_neg w2 hf
  by_cases w3 : x1 = 3
  · have hf := k_pos w3 hf
    refine g_tableIn (pc := 1) C 73 (off := 72) dX6_count_1 (by rw [k_eq (z := 3) (by decide) w3]; decide) (by rw [k_eq (z := 3) (by decide) w3]; decide) (by rw [k_eq (z := 3) (by decide) w3]; rfl) (by decide) ?_
    refine g_aload_n (pc := 73) C 0 dX6_count_73 rfl ?_
    obtain ⟨v74, h74, hf⟩ := Option.bind_eq_some_iff.mp hf
    refine g_callV' (pc := 74) hla C (c_X6_leaves l D cI cS a m v74 h74) gg_RX6_127 hd_X6_leaves (by decide) rfl rfl rfl rfl (Nat.le_of_ble_eq_true rfl) dX6_count_74 (seM_0 cI cS a m) (seM_0 cI cS a m).symm [.int v74] rfl ?_
    have e := Option.some.inj hf; subst e
    exact g_ri (pc := 77) C rfl (flM cI cS a m) dX6_count_77
  have hf := k_neg w3 hf
  by_cases w4 : x1 = 4
  · have hf := k_pos w4 hf
    refine g_tableIn (pc := 1) C 78 (off := 77) dX6_count_1 (by rw [k_eq (z := 4) (by decide) w4]; decide) (by rw [k_eq (z := 4) (by decide) w4]; decide) (by rw [k_eq (z := 4) (by decide) w4]; rfl) (by decide) ?_
    refine g_aload_n (pc := 78) C 0 dX6_count_78 rfl ?_
    refine g_iconst (pc := 79) C 0 dX6_count_79 (by decide) ?_
    obtain ⟨v80, h80, hf⟩ := Option.bind_eq_some_iff.mp hf
    refine g_callV' (pc := 80) hla C (c_X6_height l D cI cS a m 0 v80 h80) gg_RX6_106 hd_X6_height (by decide) rfl rfl rfl rfl (Nat.le_of_ble_eq_true rfl) dX6_count_80 (seM_0 cI cS a m) (seM_0 cI cS a m).symm [.int v80] rfl ?_
    have e := Option.some.inj hf; subst e
    exact g_ri (pc := 83) C rfl (flM cI cS a m) dX6_count_83
  have hf := k_neg w4 hf
  by_cases w5 : x1 = 5
  · have hf := k_pos w5 hf
    refine g_tableIn (pc := 1) C 84 (off := 83) dX6_count_1 (by rw [k_eq (z := 5) (by decide) w5]; decide) (by rw [k_eq (z := 5) (by decide) w5]; decide) (by rw [k_eq (z := 5) (by decide) w5]; rfl) (by decide) ?_
    refine g_aload_n (pc := 84) C 0 dX6_count_84 rfl ?_
    refine gf_RX6_7 (pc := 85) C 0 rfl dX6_count_85 ?_
    refine g_iconst (pc := 88) C 3 dX6_count_88 (by decide) ?_
    refine g_iald (pc := 89) C 1 0 rfl rfl (by decide) dX6_count_89 ?_
    have e := Option.some.inj hf; subst e
    exact g_ri (pc := 90) C rfl (flM cI cS a m) dX6_count_90
  have hf := k_neg w5 hf
  by_cases w6 : x1 = 6
  · have hf := k_pos w6 hf
    refine g_tableIn (pc := 1) C 91 (off := 90) dX6_count_1 (by rw [k_eq (z := 6) (by decide) w6]; decide) (by rw [k_eq (z := 6) (by decide) w6]; decide) (by rw [k_eq (z := 6) (by decide) w6]; rfl) (by decide) ?_
    refine g_aload_n (pc := 91) C 0 dX6_count_91 rfl ?_
    refine gf_RX6_7 (pc := 92) C 0 rfl dX6_count_92 ?_
    refine g_iconst (pc := 95) C 4 dX6_count_95 (by decide) ?_
    refine g_iald (pc := 96) C 1 0 rfl rfl (by decide) dX6_count_96 ?_
    have e := Option.some.inj hf; subst e
    exact g_ri (pc := 97) C rfl (flM cI cS a m) dX6_count_97
  have hf := k_neg w6 hf
  by_cases w7 : x1 = 7
  · have hf := k_pos w7 hf
    refine g_tableIn (pc := 1) C 98 (off := 97) dX6_count_1 (by rw [k_eq (z := 7) (by decide) w7]; decide) (by rw [k_eq (z := 7) (by decide) w7]; decide) (by rw [k_eq (z := 7) (by decide) w7]; rfl) (by decide) ?_
    refine g_aload_n (pc := 98) C 0 dX6_count_98 rfl ?_
    refine gf_RX6_31 (pc := 99) C 0 rfl dX6_count_99 ?_
    have e := Option.some.inj hf; subst e
    exact g_ri (pc := 102) C rfl (flM cI cS a m) dX6_count_102
  have hf := k_neg w7 hf
  by_cases w8 : x1 = 8
  · have hf := k_pos w8 hf
    refine g_tableIn (pc := 1) C 103 (off := 102) dX6_count_1 (by rw [k_eq (z := 8) (by decide) w8]; decide) (by rw [k_eq (z := 8) (by decide) w8]; decide) (by rw [k_eq (z := 8) (by decide) w8]; rfl) (by decide) ?_
    refine g_aload_n (pc := 103) C 0 dX6_count_103 rfl ?_
    refine gf_RX6_130 (pc := 104) C 0 rfl dX6_count_104 ?_
    have e := Option.some.inj hf; subst e
    exact g_ri (pc := 107) C rfl (flM cI cS a m) dX6_count_107
  have hf := k_neg w8 hf
  refine g_tableOut (pc := 1) C 108 dX6_count_1 (by have z0 := k_ne (z := 0) 0 (by decide) w0; have z1 := k_ne (z := 1) 1 (by decide) w1; have z2 := k_ne (z := 2) 2 (by decide) w2; have z3 := k_ne (z := 3) 3 (by decide) w3; have z4 := k_ne (z := 4) 4 (by decide) w4; have z5 := k_ne (z := 5) 5 (by decide) w5; have z6 := k_ne (z := 6) 6 (by decide) w6; have z7 := k_ne (z := 7) 7 (by decide) w7; have z8 := k_ne (z := 8) 8 (by decide) w8; omega) (by decide) ?_
  refine g_iload_n (pc := 108) C 1 dX6_count_108 rfl ?_
  refine g_bipush (pc := 109) C 9 dX6_count_109 (by decide) ?_
  refine g_icmp_ne (pc := 111) C 121 dX6_count_111 (by decide) (fun (c111 : ¬ x1 = 9) => ?_) (fun (c111 : x1 = 9) => ?_)
  · have hf := k_neg c111 hf
    refine g_iconst (pc := 121) C (-1) dX6_count_121 (by decide) ?_
    have e := Option.some.inj hf; subst e
    exact g_ri (pc := 122) C rfl (flM cI cS a m) dX6_count_122
  · have hf := k_pos c111 hf
    refine g_aload_n (pc := 114) C 0 dX6_count_114 rfl ?_
    obtain ⟨v115, h115, hf⟩ := Option.bind_eq_some_iff.mp hf
    refine g_callV' (pc := 115) hla C (c_X6_unlike l D cI cS a m v115 h115) gg_RX6_133 hd_X6_unlike (by decide) rfl rfl rfl rfl (Nat.le_of_ble_eq_true rfl) dX6_count_115 (seM_0 cI cS a m) (seM_0 cI cS a m).symm [.int v115] rfl ?_
    refine g_goto (pc := 118) C 122 dX6_count_118 (by decide) ?_
    have e := Option.some.inj hf; subst e
    exact g_ri (pc := 122) C rfl (flM cI cS a m) dX6_count_122
set_option maxHeartbeats 4000000 in
set_option maxRecDepth 100000 in
theorem c_X6_areLike (l : Launch) (D : va_G) (cI cS : ClassId) (a : aM) (m : MD) (x1 : Int32) (x2 : Int32) (out : Int32) (hf : M_areLike m x1 x2 = some out) : kM l D (kTy cI cS) yX6_areLike ct_X6_areLike rm_X6_areLike [.ref a.1, .int x1, .int x2] [wM cI cS a m] (kEq (some (.int out)) [wM cI cS a m]) := by
  refine k_methodE cX6_areLike 6 (some .boolean) RX6 rfl [(0, .ref a.1), (1, .int x1), (2, .int x2)] rfl (by decide +kernel) (Nat.le_of_ble_eq_true rfl) (fun κ A hla C => ?_)
  refine g_chunks (flM cI cS a m).symm ?_
  have L29 : ∀ (fu : Nat) (m : MD) (x1 : Int32) (x2 : Int32) (x3 : Int32) (x4 : Int32) (x5 : Int32), M_areLike_L29 fu m x1 x2 x3 x4 x5 = some out → kG κ D A 6 0 0 (kF κ D A (some (.int out)) [wM cI cS a m]) (csM cI cS a m) [(0, .ref a.1), (1, .int x1), (2, .int x2), (3, .int x3), (4, .int x4), (5, .int x5)] 29 [] := by
    intro fu; induction fu with
    | zero => intro m x1 x2 x3 x4 x5 hf; rw [M_areLike_L29] at hf; cases hf
    | succ fu ih =>
      intro m x1 x2 x3 x4 x5 hf; rw [M_areLike_L29] at hf
      refine g_iload (pc := 29) C 5 dX6_areLike_29 rfl ?_
      refine g_iload_n (pc := 31) C 3 dX6_areLike_31 rfl ?_
      refine g_icmp_ge (pc := 32) C 103 dX6_areLike_32 (by decide) (fun (c32 : x3 ≤ x5) => ?_) (fun (c32 : ¬ x3 ≤ x5) => ?_)
      · have hf := k_pos c32 hf
        refine g_iload (pc := 103) C 4 dX6_areLike_103 rfl ?_
        obtain ⟨g105, hf⟩ := k_guard2 hf
        have e := Option.some.inj hf; subst e
        exact g_rz (pc := 105) C rfl g105 (flM cI cS a m) dX6_areLike_105
      · have hf := k_neg c32 hf
        refine g_iload (pc := 35) C 4 dX6_areLike_35 rfl ?_
        refine g_if_eq (pc := 37) C 103 dX6_areLike_37 (by decide) (fun (c37 : x4 = 0) => ?_) (fun (c37 : ¬ x4 = 0) => ?_)
        · have hf := k_pos c37 hf
          refine g_iload (pc := 103) C 4 dX6_areLike_103 rfl ?_
          obtain ⟨g105, hf⟩ := k_guard2 hf
          have e := Option.some.inj hf; subst e
          exact g_rz (pc := 105) C rfl g105 (flM cI cS a m) dX6_areLike_105
        · have hf := k_neg c37 hf
          refine g_aload_n (pc := 40) C 0 dX6_areLike_40 rfl ?_
          refine g_iload_n (pc := 41) C 1 dX6_areLike_41 rfl ?_
          refine g_iload (pc := 42) C 5 dX6_areLike_42 rfl ?_
          refine g_iadd (pc := 44) C dX6_areLike_44 ?_
          obtain ⟨v45, h45, hf⟩ := Option.bind_eq_some_iff.mp hf
          refine g_callV' (pc := 45) hla C (c_X6_sign l D cI cS a m (x1 + x5) v45 h45) gg_RX6_83 hd_X6_sign (by decide) rfl rfl rfl rfl (Nat.le_of_ble_eq_true rfl) dX6_areLike_45 (seM_0 cI cS a m) (seM_0 cI cS a m).symm [.int v45] rfl ?_
          refine g_aload_n (pc := 48) C 0 dX6_areLike_48 rfl ?_
          refine g_iload_n (pc := 49) C 2 dX6_areLike_49 rfl ?_
          refine g_iload (pc := 50) C 5 dX6_areLike_50 rfl ?_
          refine g_iadd (pc := 52) C dX6_areLike_52 ?_
          obtain ⟨v53, h53, hf⟩ := Option.bind_eq_some_iff.mp hf
          refine g_callV' (pc := 53) hla C (c_X6_sign l D cI cS a m (x2 + x5) v53 h53) gg_RX6_83 hd_X6_sign (by decide) rfl rfl rfl rfl (Nat.le_of_ble_eq_true rfl) dX6_areLike_53 (seM_0 cI cS a m) (seM_0 cI cS a m).symm [.int v53, .int v45] rfl ?_
          refine g_icmp_ne (pc := 56) C 94 dX6_areLike_56 (by decide) (fun (c56 : ¬ v45 = v53) => ?_) (fun (c56 : v45 = v53) => ?_)
          · have hf := k_neg c56 hf
            refine g_iconst (pc := 94) C 0 dX6_areLike_94 (by decide) ?_
            refine g_istore (pc := 95) C [(4, .int 0), (0, .ref a.1), (1, .int x1), (2, .int x2), (3, .int x3), (5, .int x5)] dX6_areLike_95 (by decide) rfl ?_
            refine g_iinc (pc := 97) C 5 (x5 + 1) [(5, .int (x5 + 1)), (4, .int 0), (0, .ref a.1), (1, .int x1), (2, .int x2), (3, .int x3)] dX6_areLike_97 rfl (congrArg (HAdd.hAdd _) (by decide)) (by decide) rfl ?_
            refine g_goto (pc := 100) C 29 dX6_areLike_100 (by decide) ?_
            refine g_sub [2, 3, 4, 5, 1, 0] (lv' := [(0, .ref a.1), (1, .int x1), (2, .int x2), (3, .int x3), (4, .int 0), (5, .int (x5 + 1))]) rfl ?_
            exact ih m x1 x2 x3 0 (x5 + 1) hf
          · have hf := k_pos c56 hf
            refine g_aload_n (pc := 59) C 0 dX6_areLike_59 rfl ?_
            refine g_iload_n (pc := 60) C 1 dX6_areLike_60 rfl ?_
            refine g_iload (pc := 61) C 5 dX6_areLike_61 rfl ?_
            refine g_iadd (pc := 63) C dX6_areLike_63 ?_
            obtain ⟨v64, h64, hf⟩ := Option.bind_eq_some_iff.mp hf
            refine g_callV' (pc := 64) hla C (c_X6_deep l D cI cS a m (x1 + x5) v64 h64) gg_RX6_46 hd_X6_deep (by decide) rfl rfl rfl rfl (Nat.le_of_ble_eq_true rfl) dX6_areLike_64 (seM_0 cI cS a m) (seM_0 cI cS a m).symm [.int v64] rfl ?_
            refine g_aload_n (pc := 67) C 0 dX6_areLike_67 rfl ?_
            refine g_iload_n (pc := 68) C 1 dX6_areLike_68 rfl ?_
            obtain ⟨v69, h69, hf⟩ := Option.bind_eq_some_iff.mp hf
            refine g_callV' (pc := 69) hla C (c_X6_deep l D cI cS a m x1 v69 h69) gg_RX6_46 hd_X6_deep (by decide) rfl rfl rfl rfl (Nat.le_of_ble_eq_true rfl) dX6_areLike_69 (seM_0 cI cS a m) (seM_0 cI cS a m).symm [.int v69, .int v64] rfl ?_
            refine g_isub (pc := 72) C dX6_areLike_72 ?_
            refine g_aload_n (pc := 73) C 0 dX6_areLike_73 rfl ?_
            refine g_iload_n (pc := 74) C 2 dX6_areLike_74 rfl ?_
            refine g_iload (pc := 75) C 5 dX6_areLike_75 rfl ?_
            refine g_iadd (pc := 77) C dX6_areLike_77 ?_
            obtain ⟨v78, h78, hf⟩ := Option.bind_eq_some_iff.mp hf
            refine g_callV' (pc := 78) hla C (c_X6_deep l D cI cS a m (x2 + x5) v78 h78) gg_RX6_46 hd_X6_deep (by decide) rfl rfl rfl rfl (Nat.le_of_ble_eq_true rfl) dX6_areLike_78 (seM_0 cI cS a m) (seM_0 cI cS a m).symm [.int v78, .int (v64 - v69)] rfl ?_
            refine g_aload_n (pc := 81) C 0 dX6_areLike_81 rfl ?_
            refine g_iload_n (pc := 82) C 2 dX6_areLike_82 rfl ?_
            obtain ⟨v83, h83, hf⟩ := Option.bind_eq_some_iff.mp hf
            refine g_callV' (pc := 83) hla C (c_X6_deep l D cI cS a m x2 v83 h83) gg_RX6_46 hd_X6_deep (by decide) rfl rfl rfl rfl (Nat.le_of_ble_eq_true rfl) dX6_areLike_83 (seM_0 cI cS a m) (seM_0 cI cS a m).symm [.int v83, .int v78, .int (v64 - v69)] rfl ?_
            refine g_isub (pc := 86) C dX6_areLike_86 ?_
            refine g_icmp_ne (pc := 87) C 94 dX6_areLike_87 (by decide) (fun (c87 : ¬ (v64 - v69) = (v78 - v83)) => ?_) (fun (c87 : (v64 - v69) = (v78 - v83)) => ?_)
            · have hf := k_neg c87 hf
              refine g_iconst (pc := 94) C 0 dX6_areLike_94 (by decide) ?_
              refine g_istore (pc := 95) C [(4, .int 0), (0, .ref a.1), (1, .int x1), (2, .int x2), (3, .int x3), (5, .int x5)] dX6_areLike_95 (by decide) rfl ?_
              refine g_iinc (pc := 97) C 5 (x5 + 1) [(5, .int (x5 + 1)), (4, .int 0), (0, .ref a.1), (1, .int x1), (2, .int x2), (3, .int x3)] dX6_areLike_97 rfl (congrArg (HAdd.hAdd _) (by decide)) (by decide) rfl ?_
              refine g_goto (pc := 100) C 29 dX6_areLike_100 (by decide) ?_
              refine g_sub [2, 3, 4, 5, 1, 0] (lv' := [(0, .ref a.1), (1, .int x1), (2, .int x2), (3, .int x3), (4, .int 0), (5, .int (x5 + 1))]) rfl ?_
              exact ih m x1 x2 x3 0 (x5 + 1) hf
            · have hf := k_pos c87 hf
              refine g_iconst (pc := 90) C 1 dX6_areLike_90 (by decide) ?_
              refine g_goto (pc := 91) C 95 dX6_areLike_91 (by decide) ?_
              refine g_istore (pc := 95) C [(4, .int 1), (0, .ref a.1), (1, .int x1), (2, .int x2), (3, .int x3), (5, .int x5)] dX6_areLike_95 (by decide) rfl ?_
              refine g_iinc (pc := 97) C 5 (x5 + 1) [(5, .int (x5 + 1)), (4, .int 1), (0, .ref a.1), (1, .int x1), (2, .int x2), (3, .int x3)] dX6_areLike_97 rfl (congrArg (HAdd.hAdd _) (by decide)) (by decide) rfl ?_
              refine g_goto (pc := 100) C 29 dX6_areLike_100 (by decide) ?_
              refine g_sub [2, 3, 4, 5, 1, 0] (lv' := [(0, .ref a.1), (1, .int x1), (2, .int x2), (3, .int x3), (4, .int 1), (5, .int (x5 + 1))]) rfl ?_
              exact ih m x1 x2 x3 1 (x5 + 1) hf
  rw [M_areLike] at hf
  refine g_aload_n (pc := 0) C 0 dX6_areLike_0 rfl ?_
  refine g_iload_n (pc := 1) C 1 dX6_areLike_1 rfl ?_
  obtain ⟨v2, h2, hf⟩ := Option.bind_eq_some_iff.mp hf
  refine g_callV' (pc := 2) hla C (c_X6_end l D cI cS a m x1 v2 h2) gg_RX6_49 hd_X6_end (by decide) rfl rfl rfl rfl (Nat.le_of_ble_eq_true rfl) dX6_areLike_2 (seM_0 cI cS a m) (seM_0 cI cS a m).symm [.int v2] rfl ?_
  refine g_iload_n (pc := 5) C 1 dX6_areLike_5 rfl ?_
  refine g_isub (pc := 6) C dX6_areLike_6 ?_
  refine g_istore_n (pc := 7) C [(3, .int (v2 - x1)), (0, .ref a.1), (1, .int x1), (2, .int x2)] dX6_areLike_7 (by decide) rfl ?_
  refine g_aload_n (pc := 8) C 1 dX6_areLike_8 rfl ?_
  refine g_iload_n (pc := 9) C 3 dX6_areLike_9 rfl ?_
  obtain ⟨v10, h10, hf⟩ := Option.bind_eq_some_iff.mp hf
  refine g_callV' (pc := 10) hla C (c_X6_end l D cI cS a m x2 v10 h10) gg_RX6_49 hd_X6_end (by decide) rfl rfl rfl rfl (Nat.le_of_ble_eq_true rfl) dX6_areLike_10 (seM_0 cI cS a m) (seM_0 cI cS a m).symm [.int v10] rfl ?_
  refine g_iload_n (pc := 13) C 3 dX6_areLike_13 rfl ?_
  refine g_isub (pc := 14) C dX6_areLike_14 ?_
  refine g_iload_n (pc := 15) C 0 dX6_areLike_15 rfl ?_
  refine g_icmp_ne (pc := 16) C 23 dX6_areLike_16 (by decide) (fun (c16 : ¬ (v10 - x2) = (v2 - x1)) => ?_) (fun (c16 : (v10 - x2) = (v2 - x1)) => ?_)
  · have hf := k_neg c16 hf
    refine g_iconst (pc := 23) C 0 dX6_areLike_23 (by decide) ?_
    refine g_istore (pc := 24) C [(4, .int 0), (3, .int (v2 - x1)), (0, .ref a.1), (1, .int x1), (2, .int x2)] dX6_areLike_24 (by decide) rfl ?_
    refine g_iconst (pc := 26) C 0 dX6_areLike_26 (by decide) ?_
    refine g_istore (pc := 27) C [(5, .int 0), (4, .int 0), (3, .int (v2 - x1)), (0, .ref a.1), (1, .int x1), (2, .int x2)] dX6_areLike_27 (by decide) rfl ?_
    refine g_sub [3, 4, 5, 2, 1, 0] (lv' := [(0, .ref a.1), (1, .int x1), (2, .int x2), (3, .int (v2 - x1)), (4, .int 0), (5, .int 0)]) rfl ?_
    exact L29 1000 m x1 x2 (v2 - x1) 0 0 hf
  · have hf := k_pos c16 hf
    refine g_iconst (pc := 19) C 1 dX6_areLike_19 (by decide) ?_
    refine g_goto (pc := 20) C 24 dX6_areLike_20 (by decide) ?_
    refine g_istore (pc := 24) C [(4, .int 1), (3, .int (v2 - x1)), (0, .ref a.1), (1, .int x1), (2, .int x2)] dX6_areLike_24 (by decide) rfl ?_
    refine g_iconst (pc := 26) C 0 dX6_areLike_26 (by decide) ?_
    refine g_istore (pc := 27) C [(5, .int 0), (4, .int 1), (3, .int (v2 - x1)), (0, .ref a.1), (1, .int x1), (2, .int x2)] dX6_areLike_27 (by decide) rfl ?_
    refine g_sub [3, 4, 5, 2, 1, 0] (lv' := [(0, .ref a.1), (1, .int x1), (2, .int x2), (3, .int (v2 - x1)), (4, .int 1), (5, .int 0)]) rfl ?_
    exact L29 1000 m x1 x2 (v2 - x1) 1 0 hf
set_option maxHeartbeats 4000000 in
set_option maxRecDepth 100000 in
theorem c_X6_like (l : Launch) (D : va_G) (cI cS : ClassId) (a : aM) (m : MD) (out : Int32) (hf : M_like m = some out) : kM l D (kTy cI cS) yX6_like ct_X6_like rm_X6_like [.ref a.1] [wM cI cS a m] (kEq (some (.int out)) [wM cI cS a m]) := by
  refine k_methodE cX6_like 4 (some .int) RX6 rfl [(0, .ref a.1)] rfl (by decide +kernel) (Nat.le_of_ble_eq_true rfl) (fun κ A hla C => ?_)
  refine g_chunks (flM cI cS a m).symm ?_
  have L9 : ∀ (fu : Nat) (m : MD) (x1 : Int32) (x2 : Int32) (x3 : Int32), M_like_L9 fu m x1 x2 x3 = some out → kG κ D A 4 0 0 (kF κ D A (some (.int out)) [wM cI cS a m]) (csM cI cS a m) [(0, .ref a.1), (1, .int x1), (2, .int x2), (3, .int x3)] 9 [] := by
    intro fu; induction fu with
    | zero => intro m x1 x2 x3 hf; rw [M_like_L9] at hf; cases hf
    | succ fu ih =>
      intro m x1 x2 x3 hf; rw [M_like_L9] at hf
      refine g_iload_n (pc := 9) C 3 dX6_like_9 rfl ?_
      refine g_aload_n (pc := 10) C 0 dX6_like_10 rfl ?_
      refine gf_RX6_7 (pc := 11) C 0 rfl dX6_like_11 ?_
      refine g_iconst (pc := 14) C 0 dX6_like_14 (by decide) ?_
      refine g_iald (pc := 15) C 1 0 rfl rfl (by decide) dX6_like_15 ?_
      refine g_icmp_ge (pc := 16) C 42 dX6_like_16 (by decide) (fun (c16 : (m.1 (ix 0)) ≤ x3) => ?_) (fun (c16 : ¬ (m.1 (ix 0)) ≤ x3) => ?_)
      · have hf := k_pos c16 hf
        refine g_iload_n (pc := 42) C 2 dX6_like_42 rfl ?_
        have e := Option.some.inj hf; subst e
        exact g_ri (pc := 43) C rfl (flM cI cS a m) dX6_like_43
      · have hf := k_neg c16 hf
        refine g_iload_n (pc := 19) C 2 dX6_like_19 rfl ?_
        refine g_aload_n (pc := 20) C 0 dX6_like_20 rfl ?_
        refine g_iload_n (pc := 21) C 1 dX6_like_21 rfl ?_
        refine g_iload_n (pc := 22) C 3 dX6_like_22 rfl ?_
        obtain ⟨v23, h23, hf⟩ := Option.bind_eq_some_iff.mp hf
        refine g_callV' (pc := 23) hla C (c_X6_areLike l D cI cS a m x1 x3 v23 h23) gg_RX6_136 hd_X6_areLike (by decide) rfl rfl rfl rfl (Nat.le_of_ble_eq_true rfl) dX6_like_23 (seM_0 cI cS a m) (seM_0 cI cS a m).symm [.int v23, .int x2] rfl ?_
        refine g_if_eq (pc := 26) C 33 dX6_like_26 (by decide) (fun (c26 : v23 = 0) => ?_) (fun (c26 : ¬ v23 = 0) => ?_)
        · have hf := k_pos c26 hf
          refine g_iconst (pc := 33) C 0 dX6_like_33 (by decide) ?_
          refine g_iadd (pc := 34) C dX6_like_34 ?_
          refine g_istore_n (pc := 35) C [(2, .int (x2 + 0)), (0, .ref a.1), (1, .int x1), (3, .int x3)] dX6_like_35 (by decide) rfl ?_
          refine g_iinc (pc := 36) C 3 (x3 + 1) [(3, .int (x3 + 1)), (2, .int (x2 + 0)), (0, .ref a.1), (1, .int x1)] dX6_like_36 rfl (congrArg (HAdd.hAdd _) (by decide)) (by decide) rfl ?_
          refine g_goto (pc := 39) C 9 dX6_like_39 (by decide) ?_
          refine g_sub [2, 3, 1, 0] (lv' := [(0, .ref a.1), (1, .int x1), (2, .int (x2 + 0)), (3, .int (x3 + 1))]) rfl ?_
          exact ih m x1 (x2 + 0) (x3 + 1) hf
        · have hf := k_neg c26 hf
          refine g_iconst (pc := 29) C 1 dX6_like_29 (by decide) ?_
          refine g_goto (pc := 30) C 34 dX6_like_30 (by decide) ?_
          refine g_iadd (pc := 34) C dX6_like_34 ?_
          refine g_istore_n (pc := 35) C [(2, .int (x2 + 1)), (0, .ref a.1), (1, .int x1), (3, .int x3)] dX6_like_35 (by decide) rfl ?_
          refine g_iinc (pc := 36) C 3 (x3 + 1) [(3, .int (x3 + 1)), (2, .int (x2 + 1)), (0, .ref a.1), (1, .int x1)] dX6_like_36 rfl (congrArg (HAdd.hAdd _) (by decide)) (by decide) rfl ?_
          refine g_goto (pc := 39) C 9 dX6_like_39 (by decide) ?_
          refine g_sub [2, 3, 1, 0] (lv' := [(0, .ref a.1), (1, .int x1), (2, .int (x2 + 1)), (3, .int (x3 + 1))]) rfl ?_
          exact ih m x1 (x2 + 1) (x3 + 1) hf
  rw [M_like] at hf
  refine g_aload_n (pc := 0) C 0 dX6_like_0 rfl ?_
  obtain ⟨v1, h1, hf⟩ := Option.bind_eq_some_iff.mp hf
  refine g_callV' (pc := 1) hla C (c_X6_place l D cI cS a m v1 h1) gg_RX6_58 hd_X6_place (by decide) rfl rfl rfl rfl (Nat.le_of_ble_eq_true rfl) dX6_like_1 (seM_0 cI cS a m) (seM_0 cI cS a m).symm [.int v1] rfl ?_
  refine g_istore_n (pc := 4) C [(1, .int v1), (0, .ref a.1)] dX6_like_4 (by decide) rfl ?_
  refine g_iconst (pc := 5) C 0 dX6_like_5 (by decide) ?_
  refine g_istore_n (pc := 6) C [(2, .int 0), (1, .int v1), (0, .ref a.1)] dX6_like_6 (by decide) rfl ?_
  refine g_iconst (pc := 7) C 0 dX6_like_7 (by decide) ?_
  refine g_istore_n (pc := 8) C [(3, .int 0), (2, .int 0), (1, .int v1), (0, .ref a.1)] dX6_like_8 (by decide) rfl ?_
  refine g_sub [3, 2, 1, 0] (lv' := [(0, .ref a.1), (1, .int v1), (2, .int 0), (3, .int 0)]) rfl ?_
  exact L9 1000 m v1 0 0 hf
set_option maxHeartbeats 4000000 in
set_option maxRecDepth 100000 in
theorem c_X6_meet (l : Launch) (D : va_G) (cI cS : ClassId) (a : aM) (m : MD) (x1 : Int32) (x2 : Int32) (out : Int32) (hf : M_meet m x1 x2 = some out) : kM l D (kTy cI cS) yX6_meet ct_X6_meet rm_X6_meet [.ref a.1, .int x1, .int x2] [wM cI cS a m] (kEq (some (.int out)) [wM cI cS a m]) := by
  refine k_methodE cX6_meet 6 (some .int) RX6 rfl [(0, .ref a.1), (1, .int x1), (2, .int x2)] rfl (by decide +kernel) (Nat.le_of_ble_eq_true rfl) (fun κ A hla C => ?_)
  refine g_chunks (flM cI cS a m).symm ?_
  have J52 : ∀ (K : MD → Int32 → Int32 → Option (Int32)) (_ : ∀ (m : MD) (x3 : Int32) (x4 : Int32), K m x3 x4 = some out → kG κ D A 6 0 0 (kF κ D A (some (.int out)) [wM cI cS a m]) (csM cI cS a m) [(0, .ref a.1), (3, .int x3), (4, .int x4)] 23 []) (m : MD) (x3 : Int32) (x4 : Int32) (s0 : Int32), M_meet_J52 K m x3 x4 s0 = some out → kG κ D A 6 0 0 (kF κ D A (some (.int out)) [wM cI cS a m]) (csM cI cS a m) [(0, .ref a.1), (3, .int x3), (4, .int x4)] 52 [.int s0] := by
    intro K hK m x3 x4 s0 hf; rw [M_meet_J52] at hf
    refine g_istore (pc := 52) C [(5, .int s0), (0, .ref a.1), (3, .int x3), (4, .int x4)] dX6_meet_52 (by decide) rfl ?_
    refine g_aload_n (pc := 54) C 1 dX6_meet_54 rfl ?_
    refine g_iload_n (pc := 55) C 2 dX6_meet_55 rfl ?_
    obtain ⟨v56, h56, hf⟩ := Option.bind_eq_some_iff.mp hf
    refine g_callV' (pc := 56) hla C (c_X6_deep l D cI cS a m x3 v56 h56) gg_RX6_46 hd_X6_deep (by decide) rfl rfl rfl rfl (Nat.le_of_ble_eq_true rfl) dX6_meet_56 (seM_0 cI cS a m) (seM_0 cI cS a m).symm [.int v56] rfl ?_
    refine g_aload_n (pc := 59) C 1 dX6_meet_59 rfl ?_
    refine g_iload (pc := 60) C 3 dX6_meet_60 rfl ?_
    obtain ⟨v62, h62, hf⟩ := Option.bind_eq_some_iff.mp hf
    refine g_callV' (pc := 62) hla C (c_X6_deep l D cI cS a m x4 v62 h62) gg_RX6_46 hd_X6_deep (by decide) rfl rfl rfl rfl (Nat.le_of_ble_eq_true rfl) dX6_meet_62 (seM_0 cI cS a m) (seM_0 cI cS a m).symm [.int v62, .int v56] rfl ?_
    refine g_icmp_lt (pc := 65) C 73 dX6_meet_65 (by decide) (fun (c65 : v56 < v62) => ?_) (fun (c65 : ¬ v56 < v62) => ?_)
    · have hf := k_pos c65 hf
      refine g_aload_n (pc := 73) C 1 dX6_meet_73 rfl ?_
      refine g_iload (pc := 74) C 3 dX6_meet_74 rfl ?_
      obtain ⟨v76, h76, hf⟩ := Option.bind_eq_some_iff.mp hf
      refine g_callV' (pc := 76) hla C (c_X6_above l D cI cS a m x4 v76 h76) gg_RX6_52 hd_X6_above (by decide) rfl rfl rfl rfl (Nat.le_of_ble_eq_true rfl) dX6_meet_76 (seM_0 cI cS a m) (seM_0 cI cS a m).symm [.int v76] rfl ?_
      refine g_istore (pc := 79) C [(4, .int v76), (5, .int s0), (0, .ref a.1), (3, .int x3)] dX6_meet_79 (by decide) rfl ?_
      refine g_iload (pc := 81) C 1 dX6_meet_81 rfl ?_
      refine g_istore_n (pc := 83) C [(3, .int s0), (4, .int v76), (5, .int s0), (0, .ref a.1)] dX6_meet_83 (by decide) rfl ?_
      refine g_goto (pc := 84) C 23 dX6_meet_84 (by decide) ?_
      refine g_sub [3, 0, 1] (lv' := [(0, .ref a.1), (3, .int s0), (4, .int v76)]) rfl ?_
      exact hK m s0 v76 hf
    · have hf := k_neg c65 hf
      refine g_iload (pc := 68) C 3 dX6_meet_68 rfl ?_
      refine g_goto (pc := 70) C 79 dX6_meet_70 (by decide) ?_
      refine g_istore (pc := 79) C [(4, .int x4), (5, .int s0), (0, .ref a.1), (3, .int x3)] dX6_meet_79 (by decide) rfl ?_
      refine g_iload (pc := 81) C 1 dX6_meet_81 rfl ?_
      refine g_istore_n (pc := 83) C [(3, .int s0), (4, .int x4), (5, .int s0), (0, .ref a.1)] dX6_meet_83 (by decide) rfl ?_
      refine g_goto (pc := 84) C 23 dX6_meet_84 (by decide) ?_
      refine g_sub [3, 0, 1] (lv' := [(0, .ref a.1), (3, .int s0), (4, .int x4)]) rfl ?_
      exact hK m s0 x4 hf
  have L23 : ∀ (fu : Nat) (m : MD) (x3 : Int32) (x4 : Int32), M_meet_L23 fu m x3 x4 = some out → kG κ D A 6 0 0 (kF κ D A (some (.int out)) [wM cI cS a m]) (csM cI cS a m) [(0, .ref a.1), (3, .int x3), (4, .int x4)] 23 [] := by
    intro fu; induction fu with
    | zero => intro m x3 x4 hf; rw [M_meet_L23] at hf; cases hf
    | succ fu ih =>
      intro m x3 x4 hf; rw [M_meet_L23] at hf
      refine g_iload_n (pc := 23) C 1 dX6_meet_23 rfl ?_
      refine g_iload (pc := 24) C 2 dX6_meet_24 rfl ?_
      refine g_icmp_eq (pc := 26) C 87 dX6_meet_26 (by decide) (fun (c26 : x3 = x4) => ?_) (fun (c26 : ¬ x3 = x4) => ?_)
      · have hf := k_pos c26 hf
        refine g_iload_n (pc := 87) C 1 dX6_meet_87 rfl ?_
        have e := Option.some.inj hf; subst e
        exact g_ri (pc := 88) C rfl (flM cI cS a m) dX6_meet_88
      · have hf := k_neg c26 hf
        refine g_aload_n (pc := 29) C 0 dX6_meet_29 rfl ?_
        refine g_iload_n (pc := 30) C 1 dX6_meet_30 rfl ?_
        obtain ⟨v31, h31, hf⟩ := Option.bind_eq_some_iff.mp hf
        refine g_callV' (pc := 31) hla C (c_X6_deep l D cI cS a m x3 v31 h31) gg_RX6_46 hd_X6_deep (by decide) rfl rfl rfl rfl (Nat.le_of_ble_eq_true rfl) dX6_meet_31 (seM_0 cI cS a m) (seM_0 cI cS a m).symm [.int v31] rfl ?_
        refine g_aload_n (pc := 34) C 0 dX6_meet_34 rfl ?_
        refine g_iload (pc := 35) C 2 dX6_meet_35 rfl ?_
        obtain ⟨v37, h37, hf⟩ := Option.bind_eq_some_iff.mp hf
        refine g_callV' (pc := 37) hla C (c_X6_deep l D cI cS a m x4 v37 h37) gg_RX6_46 hd_X6_deep (by decide) rfl rfl rfl rfl (Nat.le_of_ble_eq_true rfl) dX6_meet_37 (seM_0 cI cS a m) (seM_0 cI cS a m).symm [.int v37, .int v31] rfl ?_
        refine g_icmp_lt (pc := 40) C 51 dX6_meet_40 (by decide) (fun (c40 : v31 < v37) => ?_) (fun (c40 : ¬ v31 < v37) => ?_)
        · have hf := k_pos c40 hf
          refine g_iload_n (pc := 51) C 1 dX6_meet_51 rfl ?_
          exact J52 (fun q0 q1 q2 => M_meet_L23 fu q0 q1 q2) ih m x3 x4 x3 hf
        · have hf := k_neg c40 hf
          refine g_aload_n (pc := 43) C 0 dX6_meet_43 rfl ?_
          refine g_iload_n (pc := 44) C 1 dX6_meet_44 rfl ?_
          obtain ⟨v45, h45, hf⟩ := Option.bind_eq_some_iff.mp hf
          refine g_callV' (pc := 45) hla C (c_X6_above l D cI cS a m x3 v45 h45) gg_RX6_52 hd_X6_above (by decide) rfl rfl rfl rfl (Nat.le_of_ble_eq_true rfl) dX6_meet_45 (seM_0 cI cS a m) (seM_0 cI cS a m).symm [.int v45] rfl ?_
          refine g_goto (pc := 48) C 52 dX6_meet_48 (by decide) ?_
          exact J52 (fun q0 q1 q2 => M_meet_L23 fu q0 q1 q2) ih m x3 x4 v45 hf
  rw [M_meet] at hf
  refine g_aload_n (pc := 0) C 0 dX6_meet_0 rfl ?_
  refine g_iload_n (pc := 1) C 1 dX6_meet_1 rfl ?_
  obtain ⟨v2, h2, hf⟩ := Option.bind_eq_some_iff.mp hf
  refine g_callV' (pc := 2) hla C (c_X6_isNode l D cI cS a m x1 v2 h2) gg_RX6_79 hd_X6_isNode (by decide) rfl rfl rfl rfl (Nat.le_of_ble_eq_true rfl) dX6_meet_2 (seM_0 cI cS a m) (seM_0 cI cS a m).symm [.int v2] rfl ?_
  refine g_if_eq (pc := 5) C 16 dX6_meet_5 (by decide) (fun (c5 : v2 = 0) => ?_) (fun (c5 : ¬ v2 = 0) => ?_)
  · have hf := k_pos c5 hf
    refine g_iconst (pc := 16) C (-1) dX6_meet_16 (by decide) ?_
    have e := Option.some.inj hf; subst e
    exact g_ri (pc := 17) C rfl (flM cI cS a m) dX6_meet_17
  · have hf := k_neg c5 hf
    refine g_aload_n (pc := 8) C 0 dX6_meet_8 rfl ?_
    refine g_iload_n (pc := 9) C 2 dX6_meet_9 rfl ?_
    obtain ⟨v10, h10, hf⟩ := Option.bind_eq_some_iff.mp hf
    refine g_callV' (pc := 10) hla C (c_X6_isNode l D cI cS a m x2 v10 h10) gg_RX6_79 hd_X6_isNode (by decide) rfl rfl rfl rfl (Nat.le_of_ble_eq_true rfl) dX6_meet_10 (seM_0 cI cS a m) (seM_0 cI cS a m).symm [.int v10] rfl ?_
    refine g_if_ne (pc := 13) C 18 dX6_meet_13 (by decide) (fun (c13 : ¬ v10 = 0) => ?_) (fun (c13 : v10 = 0) => ?_)
    · have hf := k_neg c13 hf
      refine g_iload_n (pc := 18) C 1 dX6_meet_18 rfl ?_
      refine g_istore_n (pc := 19) C [(3, .int x1), (0, .ref a.1), (1, .int x1), (2, .int x2)] dX6_meet_19 (by decide) rfl ?_
      refine g_iload_n (pc := 20) C 3 dX6_meet_20 rfl ?_
      refine g_istore (pc := 21) C [(4, .int x2), (3, .int x1), (0, .ref a.1), (1, .int x1), (2, .int x2)] dX6_meet_21 (by decide) rfl ?_
      refine g_sub [2, 1, 0] (lv' := [(0, .ref a.1), (3, .int x1), (4, .int x2)]) rfl ?_
      exact L23 1000 m x1 x2 hf
    · have hf := k_pos c13 hf
      refine g_iconst (pc := 16) C (-1) dX6_meet_16 (by decide) ?_
      have e := Option.some.inj hf; subst e
      exact g_ri (pc := 17) C rfl (flM cI cS a m) dX6_meet_17
set_option maxHeartbeats 4000000 in
set_option maxRecDepth 100000 in
theorem c_X6_find (l : Launch) (D : va_G) (cI cS : ClassId) (a : aM) (m : MD) (x1 : Int32) (out : Int32) (hf : M_find m x1 = some out) : kM l D (kTy cI cS) yX6_find ct_X6_find rm_X6_find [.ref a.1, .int x1] [wM cI cS a m] (kEq (some (.int out)) [wM cI cS a m]) := by
  refine k_methodE cX6_find 5 (some .int) RX6 rfl [(0, .ref a.1), (1, .int x1)] rfl (by decide +kernel) (Nat.le_of_ble_eq_true rfl) (fun κ A hla C => ?_)
  refine g_chunks (flM cI cS a m).symm ?_
  have L19 : ∀ (fu : Nat) (m : MD) (x1 : Int32) (x2 : Int32) (x3 : Int32), M_find_L19 fu m x1 x2 x3 = some out → kG κ D A 5 0 0 (kF κ D A (some (.int out)) [wM cI cS a m]) (csM cI cS a m) [(0, .ref a.1), (1, .int x1), (2, .int x2), (3, .int x3)] 19 [] := by
    intro fu; induction fu with
    | zero => intro m x1 x2 x3 hf; rw [M_find_L19] at hf; cases hf
    | succ fu ih =>
      intro m x1 x2 x3 hf; rw [M_find_L19] at hf
      refine g_iload_n (pc := 19) C 3 dX6_find_19 rfl ?_
      refine g_aload_n (pc := 20) C 0 dX6_find_20 rfl ?_
      refine gf_RX6_7 (pc := 21) C 0 rfl dX6_find_21 ?_
      refine g_iconst (pc := 24) C 0 dX6_find_24 (by decide) ?_
      refine g_iald (pc := 25) C 1 0 rfl rfl (by decide) dX6_find_25 ?_
      refine g_icmp_gt (pc := 26) C 60 dX6_find_26 (by decide) (fun (c26 : (m.1 (ix 0)) < x3) => ?_) (fun (c26 : ¬ (m.1 (ix 0)) < x3) => ?_)
      · have hf := k_pos c26 hf
        refine g_bipush (pc := 60) C (-4) dX6_find_60 (by decide) ?_
        have e := Option.some.inj hf; subst e
        exact g_ri (pc := 62) C rfl (flM cI cS a m) dX6_find_62
      · have hf := k_neg c26 hf
        refine g_iload_n (pc := 29) C 2 dX6_find_29 rfl ?_
        refine g_iload_n (pc := 30) C 3 dX6_find_30 rfl ?_
        refine g_iadd (pc := 31) C dX6_find_31 ?_
        refine g_aload_n (pc := 32) C 0 dX6_find_32 rfl ?_
        refine gf_RX6_7 (pc := 33) C 0 rfl dX6_find_33 ?_
        refine g_iconst (pc := 36) C 0 dX6_find_36 (by decide) ?_
        refine g_iald (pc := 37) C 1 0 rfl rfl (by decide) dX6_find_37 ?_
        obtain ⟨g38, hf⟩ := k_guard hf
        refine g_irem (pc := 38) C dX6_find_38 g38 ?_
        refine g_istore (pc := 39) C [(4, .int (irem (x2 + x3) (m.1 (ix 0)))), (0, .ref a.1), (1, .int x1), (2, .int x2), (3, .int x3)] dX6_find_39 (by decide) rfl ?_
        refine g_aload_n (pc := 41) C 1 dX6_find_41 rfl ?_
        refine g_iload (pc := 42) C 0 dX6_find_42 rfl ?_
        obtain ⟨v44, h44, hf⟩ := Option.bind_eq_some_iff.mp hf
        refine g_callV' (pc := 44) hla C (c_X6_sign l D cI cS a m (irem (x2 + x3) (m.1 (ix 0))) v44 h44) gg_RX6_83 hd_X6_sign (by decide) rfl rfl rfl rfl (Nat.le_of_ble_eq_true rfl) dX6_find_44 (seM_0 cI cS a m) (seM_0 cI cS a m).symm [.int v44] rfl ?_
        refine g_iload_n (pc := 47) C 2 dX6_find_47 rfl ?_
        refine g_icmp_ne (pc := 48) C 54 dX6_find_48 (by decide) (fun (c48 : ¬ v44 = x1) => ?_) (fun (c48 : v44 = x1) => ?_)
        · have hf := k_neg c48 hf
          refine g_iinc (pc := 54) C 4 (x3 + 1) [(3, .int (x3 + 1)), (4, .int (irem (x2 + x3) (m.1 (ix 0)))), (0, .ref a.1), (1, .int x1), (2, .int x2)] dX6_find_54 rfl (congrArg (HAdd.hAdd _) (by decide)) (by decide) rfl ?_
          refine g_goto (pc := 57) C 19 dX6_find_57 (by decide) ?_
          refine g_sub [2, 3, 4, 0] (lv' := [(0, .ref a.1), (1, .int x1), (2, .int x2), (3, .int (x3 + 1))]) rfl ?_
          exact ih m x1 x2 (x3 + 1) hf
        · have hf := k_pos c48 hf
          refine g_iload (pc := 51) C 0 dX6_find_51 rfl ?_
          have e := Option.some.inj hf; subst e
          exact g_ri (pc := 53) C rfl (flM cI cS a m) dX6_find_53
  rw [M_find] at hf
  refine g_iload_n (pc := 0) C 1 dX6_find_0 rfl ?_
  refine g_iconst (pc := 1) C 0 dX6_find_1 (by decide) ?_
  refine g_bipush (pc := 2) C 25 dX6_find_2 (by decide) ?_
  obtain ⟨v4, h4, hf⟩ := Option.bind_eq_some_iff.mp hf
  refine g_callS' (pc := 4) hla C (c_X6_in l D cI cS x1 0 25 v4 h4) tb_X6_in m_744 m_X6_in_static m_ini_RX6 hd_X6_in (by decide) rfl rfl (Nat.le_of_ble_eq_true rfl) dX6_find_4 (seM_nil cI cS a m) (seM_nil cI cS a m).symm [.int v4] rfl ?_
  refine g_if_ne (pc := 7) C 12 dX6_find_7 (by decide) (fun (c7 : ¬ v4 = 0) => ?_) (fun (c7 : v4 = 0) => ?_)
  · have hf := k_neg c7 hf
    refine g_aload_n (pc := 12) C 0 dX6_find_12 rfl ?_
    obtain ⟨v13, h13, hf⟩ := Option.bind_eq_some_iff.mp hf
    refine g_callV' (pc := 13) hla C (c_X6_place l D cI cS a m v13 h13) gg_RX6_58 hd_X6_place (by decide) rfl rfl rfl rfl (Nat.le_of_ble_eq_true rfl) dX6_find_13 (seM_0 cI cS a m) (seM_0 cI cS a m).symm [.int v13] rfl ?_
    refine g_istore_n (pc := 16) C [(2, .int v13), (0, .ref a.1), (1, .int x1)] dX6_find_16 (by decide) rfl ?_
    refine g_iconst (pc := 17) C 1 dX6_find_17 (by decide) ?_
    refine g_istore_n (pc := 18) C [(3, .int 1), (2, .int v13), (0, .ref a.1), (1, .int x1)] dX6_find_18 (by decide) rfl ?_
    refine g_sub [2, 3, 1, 0] (lv' := [(0, .ref a.1), (1, .int x1), (2, .int v13), (3, .int 1)]) rfl ?_
    exact L19 1000 m x1 v13 1 hf
  · have hf := k_pos c7 hf
    refine g_iconst (pc := 10) C (-1) dX6_find_10 (by decide) ?_
    have e := Option.some.inj hf; subst e
    exact g_ri (pc := 11) C rfl (flM cI cS a m) dX6_find_11
set_option maxHeartbeats 4000000 in
set_option maxRecDepth 100000 in
theorem c_X6_undo (l : Launch) (D : va_G) (cI cS : ClassId) (a : aM) (m : MD) (out : Int32 × MD) (hf : M_undo m = some out) : kM l D (kTy cI cS) yX6_undo ct_X6_undo rm_X6_undo [.ref a.1] [wM cI cS a m] (kEq (some (.int out.1)) [wM cI cS a out.2]) := by
  refine k_methodE cX6_undo 2 (some .int) RX6 rfl [(0, .ref a.1)] rfl (by decide +kernel) (Nat.le_of_ble_eq_true rfl) (fun κ A hla C => ?_)
  refine g_chunks (flM cI cS a m).symm ?_
  have L22 : ∀ (fu : Nat) (m : MD) (x1 : Int32), M_undo_L22 fu m x1 = some out → kG κ D A 2 0 0 (kF κ D A (some (.int out.1)) [wM cI cS a out.2]) (csM cI cS a m) [(0, .ref a.1), (1, .int x1)] 22 [] := by
    intro fu; induction fu with
    | zero => intro m x1 hf; rw [M_undo_L22] at hf; cases hf
    | succ fu ih =>
      intro m x1 hf; rw [M_undo_L22] at hf
      refine g_iload_n (pc := 22) C 1 dX6_undo_22 rfl ?_
      refine g_sipush (pc := 23) C 218 dX6_undo_23 (by decide) ?_
      refine g_icmp_ge (pc := 26) C 56 dX6_undo_26 (by decide) (fun (c26 : 218 ≤ x1) => ?_) (fun (c26 : ¬ 218 ≤ x1) => ?_)
      · have hf := k_pos c26 hf
        refine g_aload_n (pc := 56) C 0 dX6_undo_56 rfl ?_
        refine gf_RX6_31 (pc := 57) C 0 rfl dX6_undo_57 ?_
        have e := Option.some.inj hf; subst e
        exact g_ri (pc := 60) C rfl (flM cI cS a m) dX6_undo_60
      · have hf := k_neg c26 hf
        refine g_aload_n (pc := 29) C 0 dX6_undo_29 rfl ?_
        refine gf_RX6_7 (pc := 30) C 0 rfl dX6_undo_30 ?_
        refine g_iload_n (pc := 33) C 1 dX6_undo_33 rfl ?_
        refine g_aload_n (pc := 34) C 0 dX6_undo_34 rfl ?_
        refine gf_RX6_16 (pc := 35) C 0 rfl dX6_undo_35 ?_
        refine g_sipush (pc := 38) C 218 dX6_undo_38 (by decide) ?_
        refine g_aload_n (pc := 41) C 0 dX6_undo_41 rfl ?_
        refine gf_RX6_31 (pc := 42) C 0 rfl dX6_undo_42 ?_
        refine g_imul (pc := 45) C dX6_undo_45 ?_
        refine g_iload_n (pc := 46) C 1 dX6_undo_46 rfl ?_
        refine g_iadd (pc := 47) C dX6_undo_47 ?_
        obtain ⟨g48, hf⟩ := k_guard hf
        refine g_iald (pc := 48) C 3 0 rfl rfl g48 dX6_undo_48 ?_
        obtain ⟨g49, hf⟩ := k_guard hf
        refine g_iast (pc := 49) C 1 0 (csM cI cS a ((upd m.1 (ix x1) (m.2.2.1 (ix ((218 * m.2.2.2.1) + x1)))), m.2.1, m.2.2.1, m.2.2.2.1, m.2.2.2.2.1, m.2.2.2.2.2.1, m.2.2.2.2.2.2.1, m.2.2.2.2.2.2.2.1, m.2.2.2.2.2.2.2.2.1, m.2.2.2.2.2.2.2.2.2.1, m.2.2.2.2.2.2.2.2.2.2.1, m.2.2.2.2.2.2.2.2.2.2.2)) rfl rfl g49 rfl dX6_undo_49 ?_
        refine g_iinc (pc := 50) C 1 (x1 + 1) [(1, .int (x1 + 1)), (0, .ref a.1)] dX6_undo_50 rfl (congrArg (HAdd.hAdd _) (by decide)) (by decide) rfl ?_
        refine g_goto (pc := 53) C 22 dX6_undo_53 (by decide) ?_
        refine g_sub [1, 0] (lv' := [(0, .ref a.1), (1, .int (x1 + 1))]) rfl ?_
        exact ih ((upd m.1 (ix x1) (m.2.2.1 (ix ((218 * m.2.2.2.1) + x1)))), m.2.1, m.2.2.1, m.2.2.2.1, m.2.2.2.2.1, m.2.2.2.2.2.1, m.2.2.2.2.2.2.1, m.2.2.2.2.2.2.2.1, m.2.2.2.2.2.2.2.2.1, m.2.2.2.2.2.2.2.2.2.1, m.2.2.2.2.2.2.2.2.2.2.1, m.2.2.2.2.2.2.2.2.2.2.2) (x1 + 1) hf
  rw [M_undo] at hf
  refine g_aload_n (pc := 0) C 0 dX6_undo_0 rfl ?_
  refine gf_RX6_31 (pc := 1) C 0 rfl dX6_undo_1 ?_
  refine g_if_ne (pc := 4) C 10 dX6_undo_4 (by decide) (fun (c4 : ¬ m.2.2.2.1 = 0) => ?_) (fun (c4 : m.2.2.2.1 = 0) => ?_)
  · have hf := k_neg c4 hf
    refine g_aload_n (pc := 10) C 0 dX6_undo_10 rfl ?_
    refine g_dup (pc := 11) C dX6_undo_11 rfl ?_
    refine gf_RX6_31 (pc := 12) C 0 rfl dX6_undo_12 ?_
    refine g_iconst (pc := 15) C 1 dX6_undo_15 (by decide) ?_
    refine g_isub (pc := 16) C dX6_undo_16 ?_
    refine gp_RX6_31 (pc := 17) C 0 (cs' := csM cI cS a (m.1, m.2.1, m.2.2.1, (m.2.2.2.1 - 1), m.2.2.2.2.1, m.2.2.2.2.2.1, m.2.2.2.2.2.2.1, m.2.2.2.2.2.2.2.1, m.2.2.2.2.2.2.2.2.1, m.2.2.2.2.2.2.2.2.2.1, m.2.2.2.2.2.2.2.2.2.2.1, m.2.2.2.2.2.2.2.2.2.2.2)) rfl rfl dX6_undo_17 ?_
    refine g_iconst (pc := 20) C 0 dX6_undo_20 (by decide) ?_
    refine g_istore_n (pc := 21) C [(1, .int 0), (0, .ref a.1)] dX6_undo_21 (by decide) rfl ?_
    refine g_sub [1, 0] (lv' := [(0, .ref a.1), (1, .int 0)]) rfl ?_
    exact L22 1000 (m.1, m.2.1, m.2.2.1, (m.2.2.2.1 - 1), m.2.2.2.2.1, m.2.2.2.2.2.1, m.2.2.2.2.2.2.1, m.2.2.2.2.2.2.2.1, m.2.2.2.2.2.2.2.2.1, m.2.2.2.2.2.2.2.2.2.1, m.2.2.2.2.2.2.2.2.2.2.1, m.2.2.2.2.2.2.2.2.2.2.2) 0 hf
  · have hf := k_pos c4 hf
    refine g_bipush (pc := 7) C (-2) dX6_undo_7 (by decide) ?_
    have e := Option.some.inj hf; subst e
    exact g_ri (pc := 9) C rfl (flM cI cS a m) dX6_undo_9
set_option maxHeartbeats 4000000 in
set_option maxRecDepth 100000 in
theorem c_X6_type (l : Launch) (D : va_G) (cI cS : ClassId) (a : aM) (m : MD) (x1 : Int32) (out : Int32 × MD) (hf : M_type m x1 = some out) : kM l D (kTy cI cS) yX6_type ct_X6_type rm_X6_type [.ref a.1, .int x1] [wM cI cS a m] (kEq (some (.int out.1)) [wM cI cS a out.2]) := by
  refine k_methodE cX6_type 2 (some .int) RX6 rfl [(0, .ref a.1), (1, .int x1)] rfl (by decide +kernel) (Nat.le_of_ble_eq_true rfl) (fun κ A hla C => ?_)
  refine g_chunks (flM cI cS a m).symm ?_
  rw [M_type] at hf
  refine g_iload_n (pc := 0) C 1 dX6_type_0 rfl ?_
  refine g_bipush (pc := 1) C 32 dX6_type_1 (by decide) ?_
  refine g_bipush (pc := 3) C 126 dX6_type_3 (by decide) ?_
  obtain ⟨v5, h5, hf⟩ := Option.bind_eq_some_iff.mp hf
  refine g_callS' (pc := 5) hla C (c_X6_in l D cI cS x1 32 126 v5 h5) tb_X6_in m_744 m_X6_in_static m_ini_RX6 hd_X6_in (by decide) rfl rfl (Nat.le_of_ble_eq_true rfl) dX6_type_5 (seM_nil cI cS a m) (seM_nil cI cS a m).symm [.int v5] rfl ?_
  refine g_if_ne (pc := 8) C 13 dX6_type_8 (by decide) (fun (c8 : ¬ v5 = 0) => ?_) (fun (c8 : v5 = 0) => ?_)
  · have hf := k_neg c8 hf
    refine g_aload_n (pc := 13) C 0 dX6_type_13 rfl ?_
    refine gf_RX6_130 (pc := 14) C 0 rfl dX6_type_14 ?_
    refine g_bipush (pc := 17) C 120 dX6_type_17 (by decide) ?_
    refine g_icmp_ne (pc := 19) C 25 dX6_type_19 (by decide) (fun (c19 : ¬ m.2.2.2.2.2.2.1 = 120) => ?_) (fun (c19 : m.2.2.2.2.2.2.1 = 120) => ?_)
    · have hf := k_neg c19 hf
      refine g_aload_n (pc := 25) C 0 dX6_type_25 rfl ?_
      refine gf_RX6_22 (pc := 26) C 0 rfl dX6_type_26 ?_
      refine g_aload_n (pc := 29) C 0 dX6_type_29 rfl ?_
      refine gf_RX6_130 (pc := 30) C 0 rfl dX6_type_30 ?_
      refine g_iload_n (pc := 33) C 1 dX6_type_33 rfl ?_
      obtain ⟨g34, hf⟩ := k_guard hf
      refine g_iast (pc := 34) C 5 0 (csM cI cS a (m.1, m.2.1, m.2.2.1, m.2.2.2.1, m.2.2.2.2.1, (upd m.2.2.2.2.2.1 (ix m.2.2.2.2.2.2.1) x1), m.2.2.2.2.2.2.1, m.2.2.2.2.2.2.2.1, m.2.2.2.2.2.2.2.2.1, m.2.2.2.2.2.2.2.2.2.1, m.2.2.2.2.2.2.2.2.2.2.1, m.2.2.2.2.2.2.2.2.2.2.2)) rfl rfl g34 rfl dX6_type_34 ?_
      refine g_aload_n (pc := 35) C 0 dX6_type_35 rfl ?_
      refine g_dup (pc := 36) C dX6_type_36 rfl ?_
      refine gf_RX6_130 (pc := 37) C 0 rfl dX6_type_37 ?_
      refine g_iconst (pc := 40) C 1 dX6_type_40 (by decide) ?_
      refine g_iadd (pc := 41) C dX6_type_41 ?_
      refine gp_RX6_130 (pc := 42) C 0 (cs' := csM cI cS a (m.1, m.2.1, m.2.2.1, m.2.2.2.1, m.2.2.2.2.1, (upd m.2.2.2.2.2.1 (ix m.2.2.2.2.2.2.1) x1), (m.2.2.2.2.2.2.1 + 1), m.2.2.2.2.2.2.2.1, m.2.2.2.2.2.2.2.2.1, m.2.2.2.2.2.2.2.2.2.1, m.2.2.2.2.2.2.2.2.2.2.1, m.2.2.2.2.2.2.2.2.2.2.2)) rfl rfl dX6_type_42 ?_
      refine g_aload_n (pc := 45) C 0 dX6_type_45 rfl ?_
      refine gf_RX6_130 (pc := 46) C 0 rfl dX6_type_46 ?_
      have e := Option.some.inj hf; subst e
      exact g_ri (pc := 49) C rfl (flM cI cS a (m.1, m.2.1, m.2.2.1, m.2.2.2.1, m.2.2.2.2.1, (upd m.2.2.2.2.2.1 (ix m.2.2.2.2.2.2.1) x1), (m.2.2.2.2.2.2.1 + 1), m.2.2.2.2.2.2.2.1, m.2.2.2.2.2.2.2.2.1, m.2.2.2.2.2.2.2.2.2.1, m.2.2.2.2.2.2.2.2.2.2.1, m.2.2.2.2.2.2.2.2.2.2.2)) dX6_type_49
    · have hf := k_pos c19 hf
      refine g_bipush (pc := 22) C (-3) dX6_type_22 (by decide) ?_
      have e := Option.some.inj hf; subst e
      exact g_ri (pc := 24) C rfl (flM cI cS a m) dX6_type_24
  · have hf := k_pos c8 hf
    refine g_iconst (pc := 11) C (-1) dX6_type_11 (by decide) ?_
    have e := Option.some.inj hf; subst e
    exact g_ri (pc := 12) C rfl (flM cI cS a m) dX6_type_12
set_option maxHeartbeats 4000000 in
set_option maxRecDepth 100000 in
theorem c_X6_clearText (l : Launch) (D : va_G) (cI cS : ClassId) (a : aM) (m : MD) (out : Int32 × MD) (hf : M_clearText m = some out) : kM l D (kTy cI cS) yX6_clearText ct_X6_clearText rm_X6_clearText [.ref a.1] [wM cI cS a m] (kEq (some (.int out.1)) [wM cI cS a out.2]) := by
  refine k_methodE cX6_clearText 2 (some .int) RX6 rfl [(0, .ref a.1)] rfl (by decide +kernel) (Nat.le_of_ble_eq_true rfl) (fun κ A hla C => ?_)
  refine g_chunks (flM cI cS a m).symm ?_
  rw [M_clearText] at hf
  refine g_aload_n (pc := 0) C 0 dX6_clearText_0 rfl ?_
  refine gf_RX6_130 (pc := 1) C 0 rfl dX6_clearText_1 ?_
  refine g_istore_n (pc := 4) C [(1, .int m.2.2.2.2.2.2.1), (0, .ref a.1)] dX6_clearText_4 (by decide) rfl ?_
  refine g_aload_n (pc := 5) C 1 dX6_clearText_5 rfl ?_
  refine g_iconst (pc := 6) C 0 dX6_clearText_6 (by decide) ?_
  refine gp_RX6_130 (pc := 7) C 0 (cs' := csM cI cS a (m.1, m.2.1, m.2.2.1, m.2.2.2.1, m.2.2.2.2.1, m.2.2.2.2.2.1, 0, m.2.2.2.2.2.2.2.1, m.2.2.2.2.2.2.2.2.1, m.2.2.2.2.2.2.2.2.2.1, m.2.2.2.2.2.2.2.2.2.2.1, m.2.2.2.2.2.2.2.2.2.2.2)) rfl rfl dX6_clearText_7 ?_
  refine g_iload_n (pc := 10) C 0 dX6_clearText_10 rfl ?_
  have e := Option.some.inj hf; subst e
  exact g_ri (pc := 11) C rfl (flM cI cS a (m.1, m.2.1, m.2.2.1, m.2.2.2.1, m.2.2.2.2.1, m.2.2.2.2.2.1, 0, m.2.2.2.2.2.2.2.1, m.2.2.2.2.2.2.2.2.1, m.2.2.2.2.2.2.2.2.2.1, m.2.2.2.2.2.2.2.2.2.2.1, m.2.2.2.2.2.2.2.2.2.2.2)) dX6_clearText_11
set_option maxHeartbeats 4000000 in
set_option maxRecDepth 100000 in
theorem c_X6_puts (l : Launch) (D : va_G) (cI cS : ClassId) (a : aM) (m : MD) (x1 : Int32) (out : MD) (hf : M_puts m x1 = some out) : kM l D (kTy cI cS) yX6_puts ct_X6_puts rm_X6_puts [.ref a.1, .int x1] [wM cI cS a m] (kEq (none) [wM cI cS a out]) := by
  refine k_methodE cX6_puts 2 none RX6 rfl [(0, .ref a.1), (1, .int x1)] rfl (by decide +kernel) (Nat.le_of_ble_eq_true rfl) (fun κ A hla C => ?_)
  refine g_chunks (flM cI cS a m).symm ?_
  rw [M_puts] at hf
  refine g_aload_n (pc := 0) C 0 dX6_puts_0 rfl ?_
  refine gf_RX6_22 (pc := 1) C 0 rfl dX6_puts_1 ?_
  refine g_aload_n (pc := 4) C 0 dX6_puts_4 rfl ?_
  refine gf_RX6_130 (pc := 5) C 0 rfl dX6_puts_5 ?_
  refine g_iload_n (pc := 8) C 1 dX6_puts_8 rfl ?_
  obtain ⟨g9, hf⟩ := k_guard hf
  refine g_iast (pc := 9) C 5 0 (csM cI cS a (m.1, m.2.1, m.2.2.1, m.2.2.2.1, m.2.2.2.2.1, (upd m.2.2.2.2.2.1 (ix m.2.2.2.2.2.2.1) x1), m.2.2.2.2.2.2.1, m.2.2.2.2.2.2.2.1, m.2.2.2.2.2.2.2.2.1, m.2.2.2.2.2.2.2.2.2.1, m.2.2.2.2.2.2.2.2.2.2.1, m.2.2.2.2.2.2.2.2.2.2.2)) rfl rfl g9 rfl dX6_puts_9 ?_
  refine g_aload_n (pc := 10) C 0 dX6_puts_10 rfl ?_
  refine g_dup (pc := 11) C dX6_puts_11 rfl ?_
  refine gf_RX6_130 (pc := 12) C 0 rfl dX6_puts_12 ?_
  refine g_iconst (pc := 15) C 1 dX6_puts_15 (by decide) ?_
  refine g_iadd (pc := 16) C dX6_puts_16 ?_
  refine gp_RX6_130 (pc := 17) C 0 (cs' := csM cI cS a (m.1, m.2.1, m.2.2.1, m.2.2.2.1, m.2.2.2.2.1, (upd m.2.2.2.2.2.1 (ix m.2.2.2.2.2.2.1) x1), (m.2.2.2.2.2.2.1 + 1), m.2.2.2.2.2.2.2.1, m.2.2.2.2.2.2.2.2.1, m.2.2.2.2.2.2.2.2.2.1, m.2.2.2.2.2.2.2.2.2.2.1, m.2.2.2.2.2.2.2.2.2.2.2)) rfl rfl dX6_puts_17 ?_
  have e := Option.some.inj hf; subst e
  exact g_rv (pc := 20) C rfl (flM cI cS a (m.1, m.2.1, m.2.2.1, m.2.2.2.1, m.2.2.2.2.1, (upd m.2.2.2.2.2.1 (ix m.2.2.2.2.2.2.1) x1), (m.2.2.2.2.2.2.1 + 1), m.2.2.2.2.2.2.2.1, m.2.2.2.2.2.2.2.2.1, m.2.2.2.2.2.2.2.2.2.1, m.2.2.2.2.2.2.2.2.2.2.1, m.2.2.2.2.2.2.2.2.2.2.2)) dX6_puts_20
set_option maxHeartbeats 4000000 in
set_option maxRecDepth 100000 in
theorem c_X6_write (l : Launch) (D : va_G) (cI cS : ClassId) (a : aM) (m : MD) (out : Int32 × MD) (hf : M_write m = some out) : kM l D (kTy cI cS) yX6_write ct_X6_write rm_X6_write [.ref a.1] [wM cI cS a m] (kEq (some (.int out.1)) [wM cI cS a out.2]) := by
  refine k_methodE cX6_write 4 (some .int) RX6 rfl [(0, .ref a.1)] rfl (by decide +kernel) (Nat.le_of_ble_eq_true rfl) (fun κ A hla C => ?_)
  refine g_chunks (flM cI cS a m).symm ?_
  have L59 : ∀ (ou : MD × Int32 × Int32), kG κ D A 4 0 0 (kF κ D A (some (.int out.1)) [wM cI cS a out.2]) (csM cI cS a ou.1) [(0, .ref a.1), (1, .int ou.2.1), (2, .int ou.2.2)] 76 [] → ∀ (fu : Nat) (m : MD) (x1 : Int32) (x2 : Int32) (x3 : Int32), M_write_L59 fu m x1 x2 x3 = some ou → kG κ D A 4 0 0 (kF κ D A (some (.int out.1)) [wM cI cS a out.2]) (csM cI cS a m) [(0, .ref a.1), (1, .int x1), (2, .int x2), (3, .int x3)] 59 [] := by
    intro ou hk fu; induction fu with
    | zero => intro m x1 x2 x3 hf; rw [M_write_L59] at hf; cases hf
    | succ fu ih =>
      intro m x1 x2 x3 hf; rw [M_write_L59] at hf
      refine g_iload_n (pc := 59) C 3 dX6_write_59 rfl ?_
      refine g_iload_n (pc := 60) C 2 dX6_write_60 rfl ?_
      refine g_icmp_le (pc := 61) C 76 dX6_write_61 (by decide) (fun (c61 : x3 ≤ x2) => ?_) (fun (c61 : ¬ x3 ≤ x2) => ?_)
      · have hf := k_pos c61 hf
        have e := Option.some.inj hf; subst e
        refine g_sub [0, 1, 2] (lv' := [(0, .ref a.1), (1, .int x1), (2, .int x2)]) rfl ?_
        exact hk
      · have hf := k_neg c61 hf
        refine g_aload_n (pc := 64) C 0 dX6_write_64 rfl ?_
        refine g_bipush (pc := 65) C 41 dX6_write_65 (by decide) ?_
        obtain ⟨v67, h67, hf⟩ := Option.bind_eq_some_iff.mp hf
        refine g_callV' (pc := 67) hla C (c_X6_puts l D cI cS a m 41 v67 h67) gg_RX6_140 hd_X6_puts (by decide) rfl rfl rfl rfl (Nat.le_of_ble_eq_true rfl) dX6_write_67 (seM_0 cI cS a m) (seM_0 cI cS a v67).symm [] rfl ?_
        refine g_iinc (pc := 70) C 3 (x3 + (-1)) [(3, .int (x3 + (-1))), (0, .ref a.1), (1, .int x1), (2, .int x2)] dX6_write_70 rfl (congrArg (HAdd.hAdd _) (by decide)) (by decide) rfl ?_
        refine g_goto (pc := 73) C 59 dX6_write_73 (by decide) ?_
        refine g_sub [1, 2, 3, 0] (lv' := [(0, .ref a.1), (1, .int x1), (2, .int x2), (3, .int (x3 + (-1)))]) rfl ?_
        exact ih v67 x1 x2 (x3 + (-1)) hf
  have L7 : ∀ (fu : Nat) (m : MD) (x1 : Int32), M_write_L7 fu m x1 = some out → kG κ D A 4 0 0 (kF κ D A (some (.int out.1)) [wM cI cS a out.2]) (csM cI cS a m) [(0, .ref a.1), (1, .int x1)] 7 [] := by
    intro fu; induction fu with
    | zero => intro m x1 hf; rw [M_write_L7] at hf; cases hf
    | succ fu ih =>
      intro m x1 hf; rw [M_write_L7] at hf
      refine g_iload_n (pc := 7) C 1 dX6_write_7 rfl ?_
      refine g_aload_n (pc := 8) C 0 dX6_write_8 rfl ?_
      refine gf_RX6_7 (pc := 9) C 0 rfl dX6_write_9 ?_
      refine g_iconst (pc := 12) C 0 dX6_write_12 (by decide) ?_
      refine g_iald (pc := 13) C 1 0 rfl rfl (by decide) dX6_write_13 ?_
      refine g_icmp_ge (pc := 14) C 118 dX6_write_14 (by decide) (fun (c14 : (m.1 (ix 0)) ≤ x1) => ?_) (fun (c14 : ¬ (m.1 (ix 0)) ≤ x1) => ?_)
      · have hf := k_pos c14 hf
        refine g_aload_n (pc := 118) C 0 dX6_write_118 rfl ?_
        refine gf_RX6_130 (pc := 119) C 0 rfl dX6_write_119 ?_
        have e := Option.some.inj hf; subst e
        exact g_ri (pc := 122) C rfl (flM cI cS a m) dX6_write_122
      · have hf := k_neg c14 hf
        refine g_aload_n (pc := 17) C 0 dX6_write_17 rfl ?_
        refine g_bipush (pc := 18) C 97 dX6_write_18 (by decide) ?_
        refine g_aload_n (pc := 20) C 0 dX6_write_20 rfl ?_
        refine g_iload_n (pc := 21) C 1 dX6_write_21 rfl ?_
        obtain ⟨v22, h22, hf⟩ := Option.bind_eq_some_iff.mp hf
        refine g_callV' (pc := 22) hla C (c_X6_sign l D cI cS a m x1 v22 h22) gg_RX6_83 hd_X6_sign (by decide) rfl rfl rfl rfl (Nat.le_of_ble_eq_true rfl) dX6_write_22 (seM_0 cI cS a m) (seM_0 cI cS a m).symm [.int v22, .int 97, .ref a.1] rfl ?_
        refine g_iadd (pc := 25) C dX6_write_25 ?_
        obtain ⟨v26, h26, hf⟩ := Option.bind_eq_some_iff.mp hf
        refine g_callV' (pc := 26) hla C (c_X6_puts l D cI cS a m (97 + v22) v26 h26) gg_RX6_140 hd_X6_puts (by decide) rfl rfl rfl rfl (Nat.le_of_ble_eq_true rfl) dX6_write_26 (seM_0 cI cS a m) (seM_0 cI cS a v26).symm [] rfl ?_
        refine g_iload_n (pc := 29) C 1 dX6_write_29 rfl ?_
        refine g_iconst (pc := 30) C 1 dX6_write_30 (by decide) ?_
        refine g_iadd (pc := 31) C dX6_write_31 ?_
        refine g_aload_n (pc := 32) C 0 dX6_write_32 rfl ?_
        refine gf_RX6_7 (pc := 33) C 0 rfl dX6_write_33 ?_
        refine g_iconst (pc := 36) C 0 dX6_write_36 (by decide) ?_
        refine g_iald (pc := 37) C 1 0 rfl rfl (by decide) dX6_write_37 ?_
        refine g_icmp_ge (pc := 38) C 51 dX6_write_38 (by decide) (fun (c38 : (v26.1 (ix 0)) ≤ (x1 + 1)) => ?_) (fun (c38 : ¬ (v26.1 (ix 0)) ≤ (x1 + 1)) => ?_)
        · have hf := k_pos c38 hf
          refine g_iconst (pc := 51) C 0 dX6_write_51 (by decide) ?_
          refine g_istore_n (pc := 52) C [(2, .int 0), (0, .ref a.1), (1, .int x1)] dX6_write_52 (by decide) rfl ?_
          refine g_aload_n (pc := 53) C 1 dX6_write_53 rfl ?_
          refine g_iload_n (pc := 54) C 2 dX6_write_54 rfl ?_
          obtain ⟨v55, h55, hf⟩ := Option.bind_eq_some_iff.mp hf
          refine g_callV' (pc := 55) hla C (c_X6_deep l D cI cS a v26 x1 v55 h55) gg_RX6_46 hd_X6_deep (by decide) rfl rfl rfl rfl (Nat.le_of_ble_eq_true rfl) dX6_write_55 (seM_0 cI cS a v26) (seM_0 cI cS a v26).symm [.int v55] rfl ?_
          refine g_istore_n (pc := 58) C [(3, .int v55), (2, .int 0), (0, .ref a.1), (1, .int x1)] dX6_write_58 (by decide) rfl ?_
          refine g_sub [2, 3, 1, 0] (lv' := [(0, .ref a.1), (1, .int x1), (2, .int 0), (3, .int v55)]) rfl ?_
          obtain ⟨e59, he59, hf⟩ := Option.bind_eq_some_iff.mp hf
          refine L59 e59 ?_ 1000 v26 x1 0 v55 he59
          refine g_iload_n (pc := 76) C 2 dX6_write_76 rfl ?_
          refine g_aload_n (pc := 77) C 0 dX6_write_77 rfl ?_
          refine g_iload_n (pc := 78) C 1 dX6_write_78 rfl ?_
          obtain ⟨v79, h79, hf⟩ := Option.bind_eq_some_iff.mp hf
          refine g_callV' (pc := 79) hla C (c_X6_deep l D cI cS a e59.1 e59.2.1 v79 h79) gg_RX6_46 hd_X6_deep (by decide) rfl rfl rfl rfl (Nat.le_of_ble_eq_true rfl) dX6_write_79 (seM_0 cI cS a e59.1) (seM_0 cI cS a e59.1).symm [.int v79, .int e59.2.2] rfl ?_
          refine g_icmp_le (pc := 82) C 94 dX6_write_82 (by decide) (fun (c82 : e59.2.2 ≤ v79) => ?_) (fun (c82 : ¬ e59.2.2 ≤ v79) => ?_)
          · have hf := k_pos c82 hf
            refine g_iload_n (pc := 94) C 1 dX6_write_94 rfl ?_
            refine g_iconst (pc := 95) C 1 dX6_write_95 (by decide) ?_
            refine g_iadd (pc := 96) C dX6_write_96 ?_
            refine g_aload_n (pc := 97) C 0 dX6_write_97 rfl ?_
            refine gf_RX6_7 (pc := 98) C 0 rfl dX6_write_98 ?_
            refine g_iconst (pc := 101) C 0 dX6_write_101 (by decide) ?_
            refine g_iald (pc := 102) C 1 0 rfl rfl (by decide) dX6_write_102 ?_
            refine g_icmp_ge (pc := 103) C 112 dX6_write_103 (by decide) (fun (c103 : (e59.1.1 (ix 0)) ≤ (e59.2.1 + 1)) => ?_) (fun (c103 : ¬ (e59.1.1 (ix 0)) ≤ (e59.2.1 + 1)) => ?_)
            · have hf := k_pos c103 hf
              refine g_iinc (pc := 112) C 1 (e59.2.1 + 1) [(1, .int (e59.2.1 + 1)), (0, .ref a.1), (2, .int e59.2.2)] dX6_write_112 rfl (congrArg (HAdd.hAdd _) (by decide)) (by decide) rfl ?_
              refine g_goto (pc := 115) C 7 dX6_write_115 (by decide) ?_
              refine g_sub [1, 0] (lv' := [(0, .ref a.1), (1, .int (e59.2.1 + 1))]) rfl ?_
              exact ih e59.1 (e59.2.1 + 1) hf
            · have hf := k_neg c103 hf
              refine g_aload_n (pc := 106) C 0 dX6_write_106 rfl ?_
              refine g_bipush (pc := 107) C 44 dX6_write_107 (by decide) ?_
              obtain ⟨v109, h109, hf⟩ := Option.bind_eq_some_iff.mp hf
              refine g_callV' (pc := 109) hla C (c_X6_puts l D cI cS a e59.1 44 v109 h109) gg_RX6_140 hd_X6_puts (by decide) rfl rfl rfl rfl (Nat.le_of_ble_eq_true rfl) dX6_write_109 (seM_0 cI cS a e59.1) (seM_0 cI cS a v109).symm [] rfl ?_
              refine g_iinc (pc := 112) C 1 (e59.2.1 + 1) [(1, .int (e59.2.1 + 1)), (0, .ref a.1), (2, .int e59.2.2)] dX6_write_112 rfl (congrArg (HAdd.hAdd _) (by decide)) (by decide) rfl ?_
              refine g_goto (pc := 115) C 7 dX6_write_115 (by decide) ?_
              refine g_sub [1, 0] (lv' := [(0, .ref a.1), (1, .int (e59.2.1 + 1))]) rfl ?_
              exact ih v109 (e59.2.1 + 1) hf
          · have hf := k_neg c82 hf
            refine g_aload_n (pc := 85) C 0 dX6_write_85 rfl ?_
            refine g_bipush (pc := 86) C 40 dX6_write_86 (by decide) ?_
            obtain ⟨v88, h88, hf⟩ := Option.bind_eq_some_iff.mp hf
            refine g_callV' (pc := 88) hla C (c_X6_puts l D cI cS a e59.1 40 v88 h88) gg_RX6_140 hd_X6_puts (by decide) rfl rfl rfl rfl (Nat.le_of_ble_eq_true rfl) dX6_write_88 (seM_0 cI cS a e59.1) (seM_0 cI cS a v88).symm [] rfl ?_
            refine g_goto (pc := 91) C 112 dX6_write_91 (by decide) ?_
            refine g_iinc (pc := 112) C 1 (e59.2.1 + 1) [(1, .int (e59.2.1 + 1)), (0, .ref a.1), (2, .int e59.2.2)] dX6_write_112 rfl (congrArg (HAdd.hAdd _) (by decide)) (by decide) rfl ?_
            refine g_goto (pc := 115) C 7 dX6_write_115 (by decide) ?_
            refine g_sub [1, 0] (lv' := [(0, .ref a.1), (1, .int (e59.2.1 + 1))]) rfl ?_
            exact ih v88 (e59.2.1 + 1) hf
        · have hf := k_neg c38 hf
          refine g_aload_n (pc := 41) C 0 dX6_write_41 rfl ?_
          refine g_iload_n (pc := 42) C 1 dX6_write_42 rfl ?_
          refine g_iconst (pc := 43) C 1 dX6_write_43 (by decide) ?_
          refine g_iadd (pc := 44) C dX6_write_44 ?_
          obtain ⟨v45, h45, hf⟩ := Option.bind_eq_some_iff.mp hf
          refine g_callV' (pc := 45) hla C (c_X6_deep l D cI cS a v26 (x1 + 1) v45 h45) gg_RX6_46 hd_X6_deep (by decide) rfl rfl rfl rfl (Nat.le_of_ble_eq_true rfl) dX6_write_45 (seM_0 cI cS a v26) (seM_0 cI cS a v26).symm [.int v45] rfl ?_
          refine g_goto (pc := 48) C 52 dX6_write_48 (by decide) ?_
          refine g_istore_n (pc := 52) C [(2, .int v45), (0, .ref a.1), (1, .int x1)] dX6_write_52 (by decide) rfl ?_
          refine g_aload_n (pc := 53) C 1 dX6_write_53 rfl ?_
          refine g_iload_n (pc := 54) C 2 dX6_write_54 rfl ?_
          obtain ⟨v55, h55, hf⟩ := Option.bind_eq_some_iff.mp hf
          refine g_callV' (pc := 55) hla C (c_X6_deep l D cI cS a v26 x1 v55 h55) gg_RX6_46 hd_X6_deep (by decide) rfl rfl rfl rfl (Nat.le_of_ble_eq_true rfl) dX6_write_55 (seM_0 cI cS a v26) (seM_0 cI cS a v26).symm [.int v55] rfl ?_
          refine g_istore_n (pc := 58) C [(3, .int v55), (2, .int v45), (0, .ref a.1), (1, .int x1)] dX6_write_58 (by decide) rfl ?_
          refine g_sub [2, 3, 1, 0] (lv' := [(0, .ref a.1), (1, .int x1), (2, .int v45), (3, .int v55)]) rfl ?_
          obtain ⟨e59, he59, hf⟩ := Option.bind_eq_some_iff.mp hf
          refine L59 e59 ?_ 1000 v26 x1 v45 v55 he59
          refine g_iload_n (pc := 76) C 2 dX6_write_76 rfl ?_
          refine g_aload_n (pc := 77) C 0 dX6_write_77 rfl ?_
          refine g_iload_n (pc := 78) C 1 dX6_write_78 rfl ?_
          obtain ⟨v79, h79, hf⟩ := Option.bind_eq_some_iff.mp hf
          refine g_callV' (pc := 79) hla C (c_X6_deep l D cI cS a e59.1 e59.2.1 v79 h79) gg_RX6_46 hd_X6_deep (by decide) rfl rfl rfl rfl (Nat.le_of_ble_eq_true rfl) dX6_write_79 (seM_0 cI cS a e59.1) (seM_0 cI cS a e59.1).symm [.int v79, .int e59.2.2] rfl ?_
          refine g_icmp_le (pc := 82) C 94 dX6_write_82 (by decide) (fun (c82 : e59.2.2 ≤ v79) => ?_) (fun (c82 : ¬ e59.2.2 ≤ v79) => ?_)
          · have hf := k_pos c82 hf
            refine g_iload_n (pc := 94) C 1 dX6_write_94 rfl ?_
            refine g_iconst (pc := 95) C 1 dX6_write_95 (by decide) ?_
            refine g_iadd (pc := 96) C dX6_write_96 ?_
            refine g_aload_n (pc := 97) C 0 dX6_write_97 rfl ?_
            refine gf_RX6_7 (pc := 98) C 0 rfl dX6_write_98 ?_
            refine g_iconst (pc := 101) C 0 dX6_write_101 (by decide) ?_
            refine g_iald (pc := 102) C 1 0 rfl rfl (by decide) dX6_write_102 ?_
            refine g_icmp_ge (pc := 103) C 112 dX6_write_103 (by decide) (fun (c103 : (e59.1.1 (ix 0)) ≤ (e59.2.1 + 1)) => ?_) (fun (c103 : ¬ (e59.1.1 (ix 0)) ≤ (e59.2.1 + 1)) => ?_)
            · have hf := k_pos c103 hf
              refine g_iinc (pc := 112) C 1 (e59.2.1 + 1) [(1, .int (e59.2.1 + 1)), (0, .ref a.1), (2, .int e59.2.2)] dX6_write_112 rfl (congrArg (HAdd.hAdd _) (by decide)) (by decide) rfl ?_
              refine g_goto (pc := 115) C 7 dX6_write_115 (by decide) ?_
              refine g_sub [1, 0] (lv' := [(0, .ref a.1), (1, .int (e59.2.1 + 1))]) rfl ?_
              exact ih e59.1 (e59.2.1 + 1) hf
            · have hf := k_neg c103 hf
              refine g_aload_n (pc := 106) C 0 dX6_write_106 rfl ?_
              refine g_bipush (pc := 107) C 44 dX6_write_107 (by decide) ?_
              obtain ⟨v109, h109, hf⟩ := Option.bind_eq_some_iff.mp hf
              refine g_callV' (pc := 109) hla C (c_X6_puts l D cI cS a e59.1 44 v109 h109) gg_RX6_140 hd_X6_puts (by decide) rfl rfl rfl rfl (Nat.le_of_ble_eq_true rfl) dX6_write_109 (seM_0 cI cS a e59.1) (seM_0 cI cS a v109).symm [] rfl ?_
              refine g_iinc (pc := 112) C 1 (e59.2.1 + 1) [(1, .int (e59.2.1 + 1)), (0, .ref a.1), (2, .int e59.2.2)] dX6_write_112 rfl (congrArg (HAdd.hAdd _) (by decide)) (by decide) rfl ?_
              refine g_goto (pc := 115) C 7 dX6_write_115 (by decide) ?_
              refine g_sub [1, 0] (lv' := [(0, .ref a.1), (1, .int (e59.2.1 + 1))]) rfl ?_
              exact ih v109 (e59.2.1 + 1) hf
          · have hf := k_neg c82 hf
            refine g_aload_n (pc := 85) C 0 dX6_write_85 rfl ?_
            refine g_bipush (pc := 86) C 40 dX6_write_86 (by decide) ?_
            obtain ⟨v88, h88, hf⟩ := Option.bind_eq_some_iff.mp hf
            refine g_callV' (pc := 88) hla C (c_X6_puts l D cI cS a e59.1 40 v88 h88) gg_RX6_140 hd_X6_puts (by decide) rfl rfl rfl rfl (Nat.le_of_ble_eq_true rfl) dX6_write_88 (seM_0 cI cS a e59.1) (seM_0 cI cS a v88).symm [] rfl ?_
            refine g_goto (pc := 91) C 112 dX6_write_91 (by decide) ?_
            refine g_iinc (pc := 112) C 1 (e59.2.1 + 1) [(1, .int (e59.2.1 + 1)), (0, .ref a.1), (2, .int e59.2.2)] dX6_write_112 rfl (congrArg (HAdd.hAdd _) (by decide)) (by decide) rfl ?_
            refine g_goto (pc := 115) C 7 dX6_write_115 (by decide) ?_
            refine g_sub [1, 0] (lv' := [(0, .ref a.1), (1, .int (e59.2.1 + 1))]) rfl ?_
            exact ih v88 (e59.2.1 + 1) hf
  rw [M_write] at hf
  refine g_aload_n (pc := 0) C 0 dX6_write_0 rfl ?_
  refine g_iconst (pc := 1) C 0 dX6_write_1 (by decide) ?_
  refine gp_RX6_130 (pc := 2) C 0 (cs' := csM cI cS a (m.1, m.2.1, m.2.2.1, m.2.2.2.1, m.2.2.2.2.1, m.2.2.2.2.2.1, 0, m.2.2.2.2.2.2.2.1, m.2.2.2.2.2.2.2.2.1, m.2.2.2.2.2.2.2.2.2.1, m.2.2.2.2.2.2.2.2.2.2.1, m.2.2.2.2.2.2.2.2.2.2.2)) rfl rfl dX6_write_2 ?_
  refine g_iconst (pc := 5) C 0 dX6_write_5 (by decide) ?_
  refine g_istore_n (pc := 6) C [(1, .int 0), (0, .ref a.1)] dX6_write_6 (by decide) rfl ?_
  refine g_sub [1, 0] (lv' := [(0, .ref a.1), (1, .int 0)]) rfl ?_
  exact L7 1000 (m.1, m.2.1, m.2.2.1, m.2.2.2.1, m.2.2.2.2.1, m.2.2.2.2.2.1, 0, m.2.2.2.2.2.2.2.1, m.2.2.2.2.2.2.2.2.1, m.2.2.2.2.2.2.2.2.2.1, m.2.2.2.2.2.2.2.2.2.2.1, m.2.2.2.2.2.2.2.2.2.2.2) 0 hf
set_option maxHeartbeats 4000000 in
set_option maxRecDepth 100000 in
theorem c_X6_breaks (l : Launch) (D : va_G) (cI cS : ClassId) (a : aM) (m : MD) (x1 : Int32) (x2 : Int32) (out : Int32 × MD) (hf : M_breaks m x1 x2 = some out) : kM l D (kTy cI cS) yX6_breaks ct_X6_breaks rm_X6_breaks [.ref a.1, .int x1, .int x2] [wM cI cS a m] (kEq (some (.int out.1)) [wM cI cS a out.2]) := by
  refine k_methodE cX6_breaks 3 (some .boolean) RX6 rfl [(0, .ref a.1), (1, .int x1), (2, .int x2)] rfl (by decide +kernel) (Nat.le_of_ble_eq_true rfl) (fun κ A hla C => ?_)
  refine g_chunks (flM cI cS a m).symm ?_
  rw [M_breaks] at hf
  refine g_aload_n (pc := 0) C 0 dX6_breaks_0 rfl ?_
  refine g_iload_n (pc := 1) C 1 dX6_breaks_1 rfl ?_
  refine gp_RX6_144 (pc := 2) C 0 (cs' := csM cI cS a (m.1, m.2.1, m.2.2.1, m.2.2.2.1, m.2.2.2.2.1, m.2.2.2.2.2.1, m.2.2.2.2.2.2.1, x1, m.2.2.2.2.2.2.2.2.1, m.2.2.2.2.2.2.2.2.2.1, m.2.2.2.2.2.2.2.2.2.2.1, m.2.2.2.2.2.2.2.2.2.2.2)) rfl rfl dX6_breaks_2 ?_
  refine g_aload_n (pc := 5) C 0 dX6_breaks_5 rfl ?_
  refine g_iload_n (pc := 6) C 2 dX6_breaks_6 rfl ?_
  refine gp_RX6_147 (pc := 7) C 0 (cs' := csM cI cS a (m.1, m.2.1, m.2.2.1, m.2.2.2.1, m.2.2.2.2.1, m.2.2.2.2.2.1, m.2.2.2.2.2.2.1, x1, x2, m.2.2.2.2.2.2.2.2.2.1, m.2.2.2.2.2.2.2.2.2.2.1, m.2.2.2.2.2.2.2.2.2.2.2)) rfl rfl dX6_breaks_7 ?_
  refine g_iconst (pc := 10) C 0 dX6_breaks_10 (by decide) ?_
  have e := Option.some.inj hf; subst e
  exact g_rz (pc := 11) C rfl (Or.inl rfl) (flM cI cS a (m.1, m.2.1, m.2.2.1, m.2.2.2.1, m.2.2.2.2.1, m.2.2.2.2.2.1, m.2.2.2.2.2.2.1, x1, x2, m.2.2.2.2.2.2.2.2.2.1, m.2.2.2.2.2.2.2.2.2.2.1, m.2.2.2.2.2.2.2.2.2.2.2)) dX6_breaks_11
set_option maxHeartbeats 4000000 in
set_option maxRecDepth 100000 in
theorem c_X6_isTree (l : Launch) (D : va_G) (cI cS : ClassId) (a : aM) (m : MD) (out : Int32 × MD) (hf : M_isTree m = some out) : kM l D (kTy cI cS) yX6_isTree ct_X6_isTree rm_X6_isTree [.ref a.1] [wM cI cS a m] (kEq (some (.int out.1)) [wM cI cS a out.2]) := by
  refine k_methodE cX6_isTree 5 (some .boolean) RX6 rfl [(0, .ref a.1)] rfl (by decide +kernel) (Nat.le_of_ble_eq_true rfl) (fun κ A hla C => ?_)
  refine g_chunks (flM cI cS a m).symm ?_
  have J257 : ∀ (m : MD), M_isTree_J257 m = some out → kG κ D A 5 0 0 (kF κ D A (some (.int out.1)) [wM cI cS a out.2]) (csM cI cS a m) [(0, .ref a.1)] 257 [] := by
    intro m hf; rw [M_isTree_J257] at hf
    refine g_aload_n (pc := 257) C 0 dX6_isTree_257 rfl ?_
    refine g_aload_n (pc := 258) C 0 dX6_isTree_258 rfl ?_
    refine gf_RX6_130 (pc := 259) C 0 rfl dX6_isTree_259 ?_
    refine g_iconst (pc := 262) C 1 dX6_isTree_262 (by decide) ?_
    obtain ⟨v263, h263, hf⟩ := Option.bind_eq_some_iff.mp hf
    refine g_callV' (pc := 263) hla C (c_X6_breaks l D cI cS a m m.2.2.2.2.2.2.1 1 v263 h263) gg_RX6_153 hd_X6_breaks (by decide) rfl rfl rfl rfl (Nat.le_of_ble_eq_true rfl) dX6_isTree_263 (seM_0 cI cS a m) (seM_0 cI cS a v263.2).symm [.int v263.1] rfl ?_
    refine g_if_eq (pc := 266) C 273 dX6_isTree_266 (by decide) (fun (c266 : v263.1 = 0) => ?_) (fun (c266 : ¬ v263.1 = 0) => ?_)
    · have hf := k_pos c266 hf
      refine g_iconst (pc := 273) C 0 dX6_isTree_273 (by decide) ?_
      have e := Option.some.inj hf; subst e
      exact g_rz (pc := 274) C rfl (Or.inl rfl) (flM cI cS a v263.2) dX6_isTree_274
    · have hf := k_neg c266 hf
      refine g_iconst (pc := 269) C 1 dX6_isTree_269 (by decide) ?_
      refine g_goto (pc := 270) C 274 dX6_isTree_270 (by decide) ?_
      have e := Option.some.inj hf; subst e
      exact g_rz (pc := 274) C rfl (Or.inr rfl) (flM cI cS a v263.2) dX6_isTree_274
  have J219 : ∀ (K : MD → Int32 → Int32 → Int32 → Option (Int32 × MD)) (_ : ∀ (m : MD) (x1 : Int32) (x2 : Int32) (x3 : Int32), K m x1 x2 x3 = some out → kG κ D A 5 0 0 (kF κ D A (some (.int out.1)) [wM cI cS a out.2]) (csM cI cS a m) [(0, .ref a.1), (1, .int x1), (2, .int x2), (3, .int x3)] 18 []) (m : MD) (x1 : Int32) (x2 : Int32) (x3 : Int32) (x4 : Int32), M_isTree_J219 K m x1 x2 x3 x4 = some out → kG κ D A 5 0 0 (kF κ D A (some (.int out.1)) [wM cI cS a out.2]) (csM cI cS a m) [(0, .ref a.1), (1, .int x1), (2, .int x2), (3, .int x3), (4, .int x4)] 219 [] := by
    intro K hK m x1 x2 x3 x4 hf; rw [M_isTree_J219] at hf
    refine g_iload (pc := 219) C 4 dX6_isTree_219 rfl ?_
    refine g_bipush (pc := 221) C 41 dX6_isTree_221 (by decide) ?_
    refine g_icmp_ne (pc := 223) C 236 dX6_isTree_223 (by decide) (fun (c223 : ¬ x4 = 41) => ?_) (fun (c223 : x4 = 41) => ?_)
    · have hf := k_neg c223 hf
      refine g_aload_n (pc := 236) C 0 dX6_isTree_236 rfl ?_
      refine g_iload_n (pc := 237) C 3 dX6_isTree_237 rfl ?_
      refine g_iconst (pc := 238) C 1 dX6_isTree_238 (by decide) ?_
      obtain ⟨v239, h239, hf⟩ := Option.bind_eq_some_iff.mp hf
      refine g_callV' (pc := 239) hla C (c_X6_breaks l D cI cS a m x3 1 v239 h239) gg_RX6_153 hd_X6_breaks (by decide) rfl rfl rfl rfl (Nat.le_of_ble_eq_true rfl) dX6_isTree_239 (seM_0 cI cS a m) (seM_0 cI cS a v239.2).symm [.int v239.1] rfl ?_
      obtain ⟨g242, hf⟩ := k_guard2 hf
      have e := Option.some.inj hf; subst e
      exact g_rz (pc := 242) C rfl g242 (flM cI cS a v239.2) dX6_isTree_242
    · have hf := k_pos c223 hf
      refine g_iload_n (pc := 226) C 1 dX6_isTree_226 rfl ?_
      refine g_if_le (pc := 227) C 236 dX6_isTree_227 (by decide) (fun (c227 : x1 ≤ 0) => ?_) (fun (c227 : ¬ x1 ≤ 0) => ?_)
      · have hf := k_pos c227 hf
        refine g_aload_n (pc := 236) C 0 dX6_isTree_236 rfl ?_
        refine g_iload_n (pc := 237) C 3 dX6_isTree_237 rfl ?_
        refine g_iconst (pc := 238) C 1 dX6_isTree_238 (by decide) ?_
        obtain ⟨v239, h239, hf⟩ := Option.bind_eq_some_iff.mp hf
        refine g_callV' (pc := 239) hla C (c_X6_breaks l D cI cS a m x3 1 v239 h239) gg_RX6_153 hd_X6_breaks (by decide) rfl rfl rfl rfl (Nat.le_of_ble_eq_true rfl) dX6_isTree_239 (seM_0 cI cS a m) (seM_0 cI cS a v239.2).symm [.int v239.1] rfl ?_
        obtain ⟨g242, hf⟩ := k_guard2 hf
        have e := Option.some.inj hf; subst e
        exact g_rz (pc := 242) C rfl g242 (flM cI cS a v239.2) dX6_isTree_242
      · have hf := k_neg c227 hf
        refine g_iinc (pc := 230) C 1 (x1 + (-1)) [(1, .int (x1 + (-1))), (0, .ref a.1), (2, .int x2), (3, .int x3), (4, .int x4)] dX6_isTree_230 rfl (congrArg (HAdd.hAdd _) (by decide)) (by decide) rfl ?_
        refine g_goto (pc := 233) C 243 dX6_isTree_233 (by decide) ?_
        refine g_iinc (pc := 243) C 3 (x3 + 1) [(3, .int (x3 + 1)), (1, .int (x1 + (-1))), (0, .ref a.1), (2, .int x2), (4, .int x4)] dX6_isTree_243 rfl (congrArg (HAdd.hAdd _) (by decide)) (by decide) rfl ?_
        refine g_goto (pc := 246) C 18 dX6_isTree_246 (by decide) ?_
        refine g_sub [2, 1, 3, 0] (lv' := [(0, .ref a.1), (1, .int (x1 + (-1))), (2, .int x2), (3, .int (x3 + 1))]) rfl ?_
        exact hK m (x1 + (-1)) x2 (x3 + 1) hf
  have J175 : ∀ (K : MD → Int32 → Int32 → Int32 → Option (Int32 × MD)) (_ : ∀ (m : MD) (x1 : Int32) (x2 : Int32) (x3 : Int32), K m x1 x2 x3 = some out → kG κ D A 5 0 0 (kF κ D A (some (.int out.1)) [wM cI cS a out.2]) (csM cI cS a m) [(0, .ref a.1), (1, .int x1), (2, .int x2), (3, .int x3)] 18 []) (m : MD) (x1 : Int32) (x2 : Int32) (x3 : Int32) (x4 : Int32), M_isTree_J175 K m x1 x2 x3 x4 = some out → kG κ D A 5 0 0 (kF κ D A (some (.int out.1)) [wM cI cS a out.2]) (csM cI cS a m) [(0, .ref a.1), (1, .int x1), (2, .int x2), (3, .int x3), (4, .int x4)] 175 [] := by
    intro K hK m x1 x2 x3 x4 hf; rw [M_isTree_J175] at hf
    refine g_iload (pc := 175) C 4 dX6_isTree_175 rfl ?_
    refine g_bipush (pc := 177) C 44 dX6_isTree_177 (by decide) ?_
    refine g_icmp_ne (pc := 179) C 219 dX6_isTree_179 (by decide) (fun (c179 : ¬ x4 = 44) => ?_) (fun (c179 : x4 = 44) => ?_)
    · have hf := k_neg c179 hf
      exact J219 K hK m x1 x2 x3 x4 hf
    · have hf := k_pos c179 hf
      refine g_iload_n (pc := 182) C 1 dX6_isTree_182 rfl ?_
      refine g_if_le (pc := 183) C 219 dX6_isTree_183 (by decide) (fun (c183 : x1 ≤ 0) => ?_) (fun (c183 : ¬ x1 ≤ 0) => ?_)
      · have hf := k_pos c183 hf
        exact J219 K hK m x1 x2 x3 x4 hf
      · have hf := k_neg c183 hf
        refine g_aload_n (pc := 186) C 0 dX6_isTree_186 rfl ?_
        refine gf_RX6_28 (pc := 187) C 0 rfl dX6_isTree_187 ?_
        refine g_iload_n (pc := 190) C 1 dX6_isTree_190 rfl ?_
        obtain ⟨g191, hf⟩ := k_guard hf
        refine g_iald (pc := 191) C 7 0 rfl rfl g191 dX6_isTree_191 ?_
        refine g_bipush (pc := 192) C 6 dX6_isTree_192 (by decide) ?_
        refine g_icmp_ne (pc := 194) C 204 dX6_isTree_194 (by decide) (fun (c194 : ¬ (m.2.2.2.2.2.2.2.2.2.2.2 (ix x1)) = 6) => ?_) (fun (c194 : (m.2.2.2.2.2.2.2.2.2.2.2 (ix x1)) = 6) => ?_)
        · have hf := k_neg c194 hf
          refine g_aload_n (pc := 204) C 0 dX6_isTree_204 rfl ?_
          refine gf_RX6_28 (pc := 205) C 0 rfl dX6_isTree_205 ?_
          refine g_iload_n (pc := 208) C 1 dX6_isTree_208 rfl ?_
          refine g_dup2 (pc := 209) C dX6_isTree_209 rfl rfl ?_
          obtain ⟨g210, hf⟩ := k_guard hf
          refine g_iald (pc := 210) C 7 0 rfl rfl g210 dX6_isTree_210 ?_
          refine g_iconst (pc := 211) C 1 dX6_isTree_211 (by decide) ?_
          refine g_iadd (pc := 212) C dX6_isTree_212 ?_
          obtain ⟨g213, hf⟩ := k_guard hf
          refine g_iast (pc := 213) C 7 0 (csM cI cS a (m.1, m.2.1, m.2.2.1, m.2.2.2.1, m.2.2.2.2.1, m.2.2.2.2.2.1, m.2.2.2.2.2.2.1, m.2.2.2.2.2.2.2.1, m.2.2.2.2.2.2.2.2.1, m.2.2.2.2.2.2.2.2.2.1, m.2.2.2.2.2.2.2.2.2.2.1, (upd m.2.2.2.2.2.2.2.2.2.2.2 (ix x1) ((m.2.2.2.2.2.2.2.2.2.2.2 (ix x1)) + 1)))) rfl rfl g213 rfl dX6_isTree_213 ?_
          refine g_iconst (pc := 214) C 1 dX6_isTree_214 (by decide) ?_
          refine g_istore_n (pc := 215) C [(2, .int 1), (0, .ref a.1), (1, .int x1), (3, .int x3), (4, .int x4)] dX6_isTree_215 (by decide) rfl ?_
          refine g_goto (pc := 216) C 243 dX6_isTree_216 (by decide) ?_
          refine g_iinc (pc := 243) C 3 (x3 + 1) [(3, .int (x3 + 1)), (2, .int 1), (0, .ref a.1), (1, .int x1), (4, .int x4)] dX6_isTree_243 rfl (congrArg (HAdd.hAdd _) (by decide)) (by decide) rfl ?_
          refine g_goto (pc := 246) C 18 dX6_isTree_246 (by decide) ?_
          refine g_sub [2, 3, 1, 0] (lv' := [(0, .ref a.1), (1, .int x1), (2, .int 1), (3, .int (x3 + 1))]) rfl ?_
          exact hK (m.1, m.2.1, m.2.2.1, m.2.2.2.1, m.2.2.2.2.1, m.2.2.2.2.2.1, m.2.2.2.2.2.2.1, m.2.2.2.2.2.2.2.1, m.2.2.2.2.2.2.2.2.1, m.2.2.2.2.2.2.2.2.2.1, m.2.2.2.2.2.2.2.2.2.2.1, (upd m.2.2.2.2.2.2.2.2.2.2.2 (ix x1) ((m.2.2.2.2.2.2.2.2.2.2.2 (ix x1)) + 1))) x1 1 (x3 + 1) hf
        · have hf := k_pos c194 hf
          refine g_aload_n (pc := 197) C 0 dX6_isTree_197 rfl ?_
          refine g_iload_n (pc := 198) C 3 dX6_isTree_198 rfl ?_
          refine g_iconst (pc := 199) C 4 dX6_isTree_199 (by decide) ?_
          obtain ⟨v200, h200, hf⟩ := Option.bind_eq_some_iff.mp hf
          refine g_callV' (pc := 200) hla C (c_X6_breaks l D cI cS a m x3 4 v200 h200) gg_RX6_153 hd_X6_breaks (by decide) rfl rfl rfl rfl (Nat.le_of_ble_eq_true rfl) dX6_isTree_200 (seM_0 cI cS a m) (seM_0 cI cS a v200.2).symm [.int v200.1] rfl ?_
          obtain ⟨g203, hf⟩ := k_guard2 hf
          have e := Option.some.inj hf; subst e
          exact g_rz (pc := 203) C rfl g203 (flM cI cS a v200.2) dX6_isTree_203
  have L18 : ∀ (fu : Nat) (m : MD) (x1 : Int32) (x2 : Int32) (x3 : Int32), M_isTree_L18 fu m x1 x2 x3 = some out → kG κ D A 5 0 0 (kF κ D A (some (.int out.1)) [wM cI cS a out.2]) (csM cI cS a m) [(0, .ref a.1), (1, .int x1), (2, .int x2), (3, .int x3)] 18 [] := by
    intro fu; induction fu with
    | zero => intro m x1 x2 x3 hf; rw [M_isTree_L18] at hf; cases hf
    | succ fu ih =>
      intro m x1 x2 x3 hf; rw [M_isTree_L18] at hf
      refine g_iload_n (pc := 18) C 3 dX6_isTree_18 rfl ?_
      refine g_aload_n (pc := 19) C 0 dX6_isTree_19 rfl ?_
      refine gf_RX6_130 (pc := 20) C 0 rfl dX6_isTree_20 ?_
      refine g_icmp_ge (pc := 23) C 249 dX6_isTree_23 (by decide) (fun (c23 : m.2.2.2.2.2.2.1 ≤ x3) => ?_) (fun (c23 : ¬ m.2.2.2.2.2.2.1 ≤ x3) => ?_)
      · have hf := k_pos c23 hf
        refine g_iload_n (pc := 249) C 2 dX6_isTree_249 rfl ?_
        refine g_if_ne (pc := 250) C 257 dX6_isTree_250 (by decide) (fun (c250 : ¬ x2 = 0) => ?_) (fun (c250 : x2 = 0) => ?_)
        · have hf := k_neg c250 hf
          refine g_sub [0] (lv' := [(0, .ref a.1)]) rfl ?_
          exact J257 m hf
        · have hf := k_pos c250 hf
          refine g_iload_n (pc := 253) C 1 dX6_isTree_253 rfl ?_
          refine g_if_eq (pc := 254) C 269 dX6_isTree_254 (by decide) (fun (c254 : x1 = 0) => ?_) (fun (c254 : ¬ x1 = 0) => ?_)
          · have hf := k_pos c254 hf
            refine g_iconst (pc := 269) C 1 dX6_isTree_269 (by decide) ?_
            refine g_goto (pc := 270) C 274 dX6_isTree_270 (by decide) ?_
            have e := Option.some.inj hf; subst e
            exact g_rz (pc := 274) C rfl (Or.inr rfl) (flM cI cS a m) dX6_isTree_274
          · have hf := k_neg c254 hf
            refine g_sub [0] (lv' := [(0, .ref a.1)]) rfl ?_
            exact J257 m hf
      · have hf := k_neg c23 hf
        refine g_aload_n (pc := 26) C 0 dX6_isTree_26 rfl ?_
        refine gf_RX6_22 (pc := 27) C 0 rfl dX6_isTree_27 ?_
        refine g_iload_n (pc := 30) C 3 dX6_isTree_30 rfl ?_
        obtain ⟨g31, hf⟩ := k_guard hf
        refine g_iald (pc := 31) C 5 0 rfl rfl g31 dX6_isTree_31 ?_
        refine g_istore (pc := 32) C [(4, .int (m.2.2.2.2.2.1 (ix x3))), (0, .ref a.1), (1, .int x1), (2, .int x2), (3, .int x3)] dX6_isTree_32 (by decide) rfl ?_
        refine g_iload_n (pc := 34) C 3 dX6_isTree_34 rfl ?_
        refine g_if_eq (pc := 35) C 118 dX6_isTree_35 (by decide) (fun (c35 : x2 = 0) => ?_) (fun (c35 : ¬ x2 = 0) => ?_)
        · have hf := k_pos c35 hf
          refine g_iload (pc := 118) C 0 dX6_isTree_118 rfl ?_
          refine g_bipush (pc := 120) C 40 dX6_isTree_120 (by decide) ?_
          refine g_icmp_ne (pc := 122) C 175 dX6_isTree_122 (by decide) (fun (c122 : ¬ (m.2.2.2.2.2.1 (ix x3)) = 40) => ?_) (fun (c122 : (m.2.2.2.2.2.1 (ix x3)) = 40) => ?_)
          · have hf := k_neg c122 hf
            refine g_sub [1, 2, 3, 4, 0] (lv' := [(0, .ref a.1), (1, .int x1), (2, .int x2), (3, .int x3), (4, .int (m.2.2.2.2.2.1 (ix x3)))]) rfl ?_
            exact J175 (fun q0 q1 q2 q3 => M_isTree_L18 fu q0 q1 q2 q3) ih m x1 x2 x3 (m.2.2.2.2.2.1 (ix x3)) hf
          · have hf := k_pos c122 hf
            refine g_iload_n (pc := 125) C 4 dX6_isTree_125 rfl ?_
            refine g_if_le (pc := 126) C 175 dX6_isTree_126 (by decide) (fun (c126 : x3 ≤ 0) => ?_) (fun (c126 : ¬ x3 ≤ 0) => ?_)
            · have hf := k_pos c126 hf
              refine g_sub [1, 2, 3, 4, 0] (lv' := [(0, .ref a.1), (1, .int x1), (2, .int x2), (3, .int x3), (4, .int (m.2.2.2.2.2.1 (ix x3)))]) rfl ?_
              exact J175 (fun q0 q1 q2 q3 => M_isTree_L18 fu q0 q1 q2 q3) ih m x1 x2 x3 (m.2.2.2.2.2.1 (ix x3)) hf
            · have hf := k_neg c126 hf
              refine g_aload_n (pc := 129) C 1 dX6_isTree_129 rfl ?_
              refine gf_RX6_22 (pc := 130) C 0 rfl dX6_isTree_130 ?_
              refine g_iload_n (pc := 133) C 4 dX6_isTree_133 rfl ?_
              refine g_iconst (pc := 134) C 1 dX6_isTree_134 (by decide) ?_
              refine g_isub (pc := 135) C dX6_isTree_135 ?_
              obtain ⟨g136, hf⟩ := k_guard hf
              refine g_iald (pc := 136) C 5 0 rfl rfl g136 dX6_isTree_136 ?_
              refine g_bipush (pc := 137) C 97 dX6_isTree_137 (by decide) ?_
              refine g_bipush (pc := 139) C 122 dX6_isTree_139 (by decide) ?_
              obtain ⟨v141, h141, hf⟩ := Option.bind_eq_some_iff.mp hf
              refine g_callS' (pc := 141) hla C (c_X6_in l D cI cS (m.2.2.2.2.2.1 (ix (x3 - 1))) 97 122 v141 h141) tb_X6_in m_744 m_X6_in_static m_ini_RX6 hd_X6_in (by decide) rfl rfl (Nat.le_of_ble_eq_true rfl) dX6_isTree_141 (seM_nil cI cS a m) (seM_nil cI cS a m).symm [.int v141] rfl ?_
              refine g_if_eq (pc := 144) C 175 dX6_isTree_144 (by decide) (fun (c144 : v141 = 0) => ?_) (fun (c144 : ¬ v141 = 0) => ?_)
              · have hf := k_pos c144 hf
                refine g_sub [1, 2, 3, 4, 0] (lv' := [(0, .ref a.1), (1, .int x1), (2, .int x2), (3, .int x3), (4, .int (m.2.2.2.2.2.1 (ix x3)))]) rfl ?_
                exact J175 (fun q0 q1 q2 q3 => M_isTree_L18 fu q0 q1 q2 q3) ih m x1 x2 x3 (m.2.2.2.2.2.1 (ix x3)) hf
              · have hf := k_neg c144 hf
                refine g_iload_n (pc := 147) C 2 dX6_isTree_147 rfl ?_
                refine g_bipush (pc := 148) C 7 dX6_isTree_148 (by decide) ?_
                refine g_icmp_ne (pc := 150) C 160 dX6_isTree_150 (by decide) (fun (c150 : ¬ x1 = 7) => ?_) (fun (c150 : x1 = 7) => ?_)
                · have hf := k_neg c150 hf
                  refine g_iinc (pc := 160) C 2 (x1 + 1) [(1, .int (x1 + 1)), (4, .int (m.2.2.2.2.2.1 (ix x3))), (0, .ref a.1), (2, .int x2), (3, .int x3)] dX6_isTree_160 rfl (congrArg (HAdd.hAdd _) (by decide)) (by decide) rfl ?_
                  refine g_aload_n (pc := 163) C 2 dX6_isTree_163 rfl ?_
                  refine gf_RX6_28 (pc := 164) C 0 rfl dX6_isTree_164 ?_
                  refine g_iload_n (pc := 167) C 0 dX6_isTree_167 rfl ?_
                  refine g_iconst (pc := 168) C 1 dX6_isTree_168 (by decide) ?_
                  obtain ⟨g169, hf⟩ := k_guard hf
                  refine g_iast (pc := 169) C 7 0 (csM cI cS a (m.1, m.2.1, m.2.2.1, m.2.2.2.1, m.2.2.2.2.1, m.2.2.2.2.2.1, m.2.2.2.2.2.2.1, m.2.2.2.2.2.2.2.1, m.2.2.2.2.2.2.2.2.1, m.2.2.2.2.2.2.2.2.2.1, m.2.2.2.2.2.2.2.2.2.2.1, (upd m.2.2.2.2.2.2.2.2.2.2.2 (ix (x1 + 1)) 1))) rfl rfl g169 rfl dX6_isTree_169 ?_
                  refine g_iconst (pc := 170) C 1 dX6_isTree_170 (by decide) ?_
                  refine g_istore_n (pc := 171) C [(2, .int 1), (1, .int (x1 + 1)), (4, .int (m.2.2.2.2.2.1 (ix x3))), (0, .ref a.1), (3, .int x3)] dX6_isTree_171 (by decide) rfl ?_
                  refine g_goto (pc := 172) C 243 dX6_isTree_172 (by decide) ?_
                  refine g_iinc (pc := 243) C 4 (x3 + 1) [(3, .int (x3 + 1)), (2, .int 1), (1, .int (x1 + 1)), (4, .int (m.2.2.2.2.2.1 (ix x3))), (0, .ref a.1)] dX6_isTree_243 rfl (congrArg (HAdd.hAdd _) (by decide)) (by decide) rfl ?_
                  refine g_goto (pc := 246) C 18 dX6_isTree_246 (by decide) ?_
                  refine g_sub [4, 2, 1, 0] (lv' := [(0, .ref a.1), (1, .int (x1 + 1)), (2, .int 1), (3, .int (x3 + 1))]) rfl ?_
                  exact ih (m.1, m.2.1, m.2.2.1, m.2.2.2.1, m.2.2.2.2.1, m.2.2.2.2.2.1, m.2.2.2.2.2.2.1, m.2.2.2.2.2.2.2.1, m.2.2.2.2.2.2.2.2.1, m.2.2.2.2.2.2.2.2.2.1, m.2.2.2.2.2.2.2.2.2.2.1, (upd m.2.2.2.2.2.2.2.2.2.2.2 (ix (x1 + 1)) 1)) (x1 + 1) 1 (x3 + 1) hf
                · have hf := k_pos c150 hf
                  refine g_aload_n (pc := 153) C 1 dX6_isTree_153 rfl ?_
                  refine g_iload_n (pc := 154) C 4 dX6_isTree_154 rfl ?_
                  refine g_iconst (pc := 155) C 3 dX6_isTree_155 (by decide) ?_
                  obtain ⟨v156, h156, hf⟩ := Option.bind_eq_some_iff.mp hf
                  refine g_callV' (pc := 156) hla C (c_X6_breaks l D cI cS a m x3 3 v156 h156) gg_RX6_153 hd_X6_breaks (by decide) rfl rfl rfl rfl (Nat.le_of_ble_eq_true rfl) dX6_isTree_156 (seM_0 cI cS a m) (seM_0 cI cS a v156.2).symm [.int v156.1] rfl ?_
                  obtain ⟨g159, hf⟩ := k_guard2 hf
                  have e := Option.some.inj hf; subst e
                  exact g_rz (pc := 159) C rfl g159 (flM cI cS a v156.2) dX6_isTree_159
        · have hf := k_neg c35 hf
          refine g_iload (pc := 38) C 0 dX6_isTree_38 rfl ?_
          refine g_bipush (pc := 40) C 97 dX6_isTree_40 (by decide) ?_
          refine g_bipush (pc := 42) C 122 dX6_isTree_42 (by decide) ?_
          obtain ⟨v44, h44, hf⟩ := Option.bind_eq_some_iff.mp hf
          refine g_callS' (pc := 44) hla C (c_X6_in l D cI cS (m.2.2.2.2.2.1 (ix x3)) 97 122 v44 h44) tb_X6_in m_744 m_X6_in_static m_ini_RX6 hd_X6_in (by decide) rfl rfl (Nat.le_of_ble_eq_true rfl) dX6_isTree_44 (seM_nil cI cS a m) (seM_nil cI cS a m).symm [.int v44] rfl ?_
          refine g_if_ne (pc := 47) C 57 dX6_isTree_47 (by decide) (fun (c47 : ¬ v44 = 0) => ?_) (fun (c47 : v44 = 0) => ?_)
          · have hf := k_neg c47 hf
            refine g_aload_n (pc := 57) C 1 dX6_isTree_57 rfl ?_
            refine gf_RX6_150 (pc := 58) C 0 rfl dX6_isTree_58 ?_
            refine g_bipush (pc := 61) C 40 dX6_isTree_61 (by decide) ?_
            refine g_icmp_ne (pc := 63) C 73 dX6_isTree_63 (by decide) (fun (c63 : ¬ m.2.2.2.2.2.2.2.2.2.1 = 40) => ?_) (fun (c63 : m.2.2.2.2.2.2.2.2.2.1 = 40) => ?_)
            · have hf := k_neg c63 hf
              refine g_aload_n (pc := 73) C 1 dX6_isTree_73 rfl ?_
              refine gf_RX6_25 (pc := 74) C 0 rfl dX6_isTree_74 ?_
              refine g_iconst (pc := 77) C 2 dX6_isTree_77 (by decide) ?_
              refine g_aload_n (pc := 78) C 1 dX6_isTree_78 rfl ?_
              refine gf_RX6_150 (pc := 79) C 0 rfl dX6_isTree_79 ?_
              refine g_imul (pc := 82) C dX6_isTree_82 ?_
              refine g_iload (pc := 83) C 0 dX6_isTree_83 rfl ?_
              refine g_bipush (pc := 85) C 97 dX6_isTree_85 (by decide) ?_
              refine g_isub (pc := 87) C dX6_isTree_87 ?_
              obtain ⟨g88, hf⟩ := k_guard hf
              refine g_iast (pc := 88) C 6 0 (csM cI cS a (m.1, m.2.1, m.2.2.1, m.2.2.2.1, m.2.2.2.2.1, m.2.2.2.2.2.1, m.2.2.2.2.2.2.1, m.2.2.2.2.2.2.2.1, m.2.2.2.2.2.2.2.2.1, m.2.2.2.2.2.2.2.2.2.1, (upd m.2.2.2.2.2.2.2.2.2.2.1 (ix (2 * m.2.2.2.2.2.2.2.2.2.1)) ((m.2.2.2.2.2.1 (ix x3)) - 97)), m.2.2.2.2.2.2.2.2.2.2.2)) rfl rfl g88 rfl dX6_isTree_88 ?_
              refine g_aload_n (pc := 89) C 1 dX6_isTree_89 rfl ?_
              refine gf_RX6_25 (pc := 90) C 0 rfl dX6_isTree_90 ?_
              refine g_iconst (pc := 93) C 2 dX6_isTree_93 (by decide) ?_
              refine g_aload_n (pc := 94) C 1 dX6_isTree_94 rfl ?_
              refine gf_RX6_150 (pc := 95) C 0 rfl dX6_isTree_95 ?_
              refine g_imul (pc := 98) C dX6_isTree_98 ?_
              refine g_iconst (pc := 99) C 1 dX6_isTree_99 (by decide) ?_
              refine g_iadd (pc := 100) C dX6_isTree_100 ?_
              refine g_iload_n (pc := 101) C 2 dX6_isTree_101 rfl ?_
              obtain ⟨g102, hf⟩ := k_guard hf
              refine g_iast (pc := 102) C 6 0 (csM cI cS a (m.1, m.2.1, m.2.2.1, m.2.2.2.1, m.2.2.2.2.1, m.2.2.2.2.2.1, m.2.2.2.2.2.2.1, m.2.2.2.2.2.2.2.1, m.2.2.2.2.2.2.2.2.1, m.2.2.2.2.2.2.2.2.2.1, (upd (upd m.2.2.2.2.2.2.2.2.2.2.1 (ix (2 * m.2.2.2.2.2.2.2.2.2.1)) ((m.2.2.2.2.2.1 (ix x3)) - 97)) (ix ((2 * m.2.2.2.2.2.2.2.2.2.1) + 1)) x1), m.2.2.2.2.2.2.2.2.2.2.2)) rfl rfl g102 rfl dX6_isTree_102 ?_
              refine g_aload_n (pc := 103) C 1 dX6_isTree_103 rfl ?_
              refine g_dup (pc := 104) C dX6_isTree_104 rfl ?_
              refine gf_RX6_150 (pc := 105) C 0 rfl dX6_isTree_105 ?_
              refine g_iconst (pc := 108) C 1 dX6_isTree_108 (by decide) ?_
              refine g_iadd (pc := 109) C dX6_isTree_109 ?_
              refine gp_RX6_150 (pc := 110) C 0 (cs' := csM cI cS a (m.1, m.2.1, m.2.2.1, m.2.2.2.1, m.2.2.2.2.1, m.2.2.2.2.2.1, m.2.2.2.2.2.2.1, m.2.2.2.2.2.2.2.1, m.2.2.2.2.2.2.2.2.1, (m.2.2.2.2.2.2.2.2.2.1 + 1), (upd (upd m.2.2.2.2.2.2.2.2.2.2.1 (ix (2 * m.2.2.2.2.2.2.2.2.2.1)) ((m.2.2.2.2.2.1 (ix x3)) - 97)) (ix ((2 * m.2.2.2.2.2.2.2.2.2.1) + 1)) x1), m.2.2.2.2.2.2.2.2.2.2.2)) rfl rfl dX6_isTree_110 ?_
              refine g_iconst (pc := 113) C 0 dX6_isTree_113 (by decide) ?_
              refine g_istore_n (pc := 114) C [(2, .int 0), (4, .int (m.2.2.2.2.2.1 (ix x3))), (0, .ref a.1), (1, .int x1), (3, .int x3)] dX6_isTree_114 (by decide) rfl ?_
              refine g_goto (pc := 115) C 243 dX6_isTree_115 (by decide) ?_
              refine g_iinc (pc := 243) C 4 (x3 + 1) [(3, .int (x3 + 1)), (2, .int 0), (4, .int (m.2.2.2.2.2.1 (ix x3))), (0, .ref a.1), (1, .int x1)] dX6_isTree_243 rfl (congrArg (HAdd.hAdd _) (by decide)) (by decide) rfl ?_
              refine g_goto (pc := 246) C 18 dX6_isTree_246 (by decide) ?_
              refine g_sub [3, 4, 1, 0] (lv' := [(0, .ref a.1), (1, .int x1), (2, .int 0), (3, .int (x3 + 1))]) rfl ?_
              exact ih (m.1, m.2.1, m.2.2.1, m.2.2.2.1, m.2.2.2.2.1, m.2.2.2.2.2.1, m.2.2.2.2.2.2.1, m.2.2.2.2.2.2.2.1, m.2.2.2.2.2.2.2.2.1, (m.2.2.2.2.2.2.2.2.2.1 + 1), (upd (upd m.2.2.2.2.2.2.2.2.2.2.1 (ix (2 * m.2.2.2.2.2.2.2.2.2.1)) ((m.2.2.2.2.2.1 (ix x3)) - 97)) (ix ((2 * m.2.2.2.2.2.2.2.2.2.1) + 1)) x1), m.2.2.2.2.2.2.2.2.2.2.2) x1 0 (x3 + 1) hf
            · have hf := k_pos c63 hf
              refine g_aload_n (pc := 66) C 1 dX6_isTree_66 rfl ?_
              refine g_iload_n (pc := 67) C 4 dX6_isTree_67 rfl ?_
              refine g_iconst (pc := 68) C 2 dX6_isTree_68 (by decide) ?_
              obtain ⟨v69, h69, hf⟩ := Option.bind_eq_some_iff.mp hf
              refine g_callV' (pc := 69) hla C (c_X6_breaks l D cI cS a m x3 2 v69 h69) gg_RX6_153 hd_X6_breaks (by decide) rfl rfl rfl rfl (Nat.le_of_ble_eq_true rfl) dX6_isTree_69 (seM_0 cI cS a m) (seM_0 cI cS a v69.2).symm [.int v69.1] rfl ?_
              obtain ⟨g72, hf⟩ := k_guard2 hf
              have e := Option.some.inj hf; subst e
              exact g_rz (pc := 72) C rfl g72 (flM cI cS a v69.2) dX6_isTree_72
          · have hf := k_pos c47 hf
            refine g_aload_n (pc := 50) C 1 dX6_isTree_50 rfl ?_
            refine g_iload_n (pc := 51) C 4 dX6_isTree_51 rfl ?_
            refine g_iconst (pc := 52) C 1 dX6_isTree_52 (by decide) ?_
            obtain ⟨v53, h53, hf⟩ := Option.bind_eq_some_iff.mp hf
            refine g_callV' (pc := 53) hla C (c_X6_breaks l D cI cS a m x3 1 v53 h53) gg_RX6_153 hd_X6_breaks (by decide) rfl rfl rfl rfl (Nat.le_of_ble_eq_true rfl) dX6_isTree_53 (seM_0 cI cS a m) (seM_0 cI cS a v53.2).symm [.int v53.1] rfl ?_
            obtain ⟨g56, hf⟩ := k_guard2 hf
            have e := Option.some.inj hf; subst e
            exact g_rz (pc := 56) C rfl g56 (flM cI cS a v53.2) dX6_isTree_56
  rw [M_isTree] at hf
  refine g_aload_n (pc := 0) C 0 dX6_isTree_0 rfl ?_
  refine g_iconst (pc := 1) C 0 dX6_isTree_1 (by decide) ?_
  refine gp_RX6_150 (pc := 2) C 0 (cs' := csM cI cS a (m.1, m.2.1, m.2.2.1, m.2.2.2.1, m.2.2.2.2.1, m.2.2.2.2.2.1, m.2.2.2.2.2.2.1, m.2.2.2.2.2.2.2.1, m.2.2.2.2.2.2.2.2.1, 0, m.2.2.2.2.2.2.2.2.2.2.1, m.2.2.2.2.2.2.2.2.2.2.2)) rfl rfl dX6_isTree_2 ?_
  refine g_iconst (pc := 5) C 0 dX6_isTree_5 (by decide) ?_
  refine g_istore_n (pc := 6) C [(1, .int 0), (0, .ref a.1)] dX6_isTree_6 (by decide) rfl ?_
  refine g_iconst (pc := 7) C 1 dX6_isTree_7 (by decide) ?_
  refine g_istore_n (pc := 8) C [(2, .int 1), (1, .int 0), (0, .ref a.1)] dX6_isTree_8 (by decide) rfl ?_
  refine g_aload_n (pc := 9) C 2 dX6_isTree_9 rfl ?_
  refine gf_RX6_28 (pc := 10) C 0 rfl dX6_isTree_10 ?_
  refine g_iconst (pc := 13) C 0 dX6_isTree_13 (by decide) ?_
  refine g_iconst (pc := 14) C 1 dX6_isTree_14 (by decide) ?_
  refine g_iast (pc := 15) C 7 0 (csM cI cS a (m.1, m.2.1, m.2.2.1, m.2.2.2.1, m.2.2.2.2.1, m.2.2.2.2.2.1, m.2.2.2.2.2.2.1, m.2.2.2.2.2.2.2.1, m.2.2.2.2.2.2.2.2.1, 0, m.2.2.2.2.2.2.2.2.2.2.1, (upd m.2.2.2.2.2.2.2.2.2.2.2 (ix 0) 1))) rfl rfl (by decide) rfl dX6_isTree_15 ?_
  refine g_iconst (pc := 16) C 0 dX6_isTree_16 (by decide) ?_
  refine g_istore_n (pc := 17) C [(3, .int 0), (2, .int 1), (1, .int 0), (0, .ref a.1)] dX6_isTree_17 (by decide) rfl ?_
  refine g_sub [3, 2, 1, 0] (lv' := [(0, .ref a.1), (1, .int 0), (2, .int 1), (3, .int 0)]) rfl ?_
  exact L18 1000 (m.1, m.2.1, m.2.2.1, m.2.2.2.1, m.2.2.2.2.1, m.2.2.2.2.2.1, m.2.2.2.2.2.2.1, m.2.2.2.2.2.2.2.1, m.2.2.2.2.2.2.2.2.1, 0, m.2.2.2.2.2.2.2.2.2.2.1, (upd m.2.2.2.2.2.2.2.2.2.2.2 (ix 0) 1)) 0 1 0 hf
set_option maxHeartbeats 4000000 in
set_option maxRecDepth 100000 in
theorem c_X6_fault (l : Launch) (D : va_G) (cI cS : ClassId) (a : aM) (m : MD) (x1 : Int32) (out : Int32 × MD) (hf : M_fault m x1 = some out) : kM l D (kTy cI cS) yX6_fault ct_X6_fault rm_X6_fault [.ref a.1, .int x1] [wM cI cS a m] (kEq (some (.int out.1)) [wM cI cS a out.2]) := by
  refine k_methodE cX6_fault 2 (some .int) RX6 rfl [(0, .ref a.1), (1, .int x1)] rfl (by decide +kernel) (Nat.le_of_ble_eq_true rfl) (fun κ A hla C => ?_)
  refine g_chunks (flM cI cS a m).symm ?_
  rw [M_fault] at hf
  refine g_iload_n (pc := 0) C 1 dX6_fault_0 rfl ?_
  refine g_iconst (pc := 1) C 0 dX6_fault_1 (by decide) ?_
  refine g_iconst (pc := 2) C 1 dX6_fault_2 (by decide) ?_
  obtain ⟨v3, h3, hf⟩ := Option.bind_eq_some_iff.mp hf
  refine g_callS' (pc := 3) hla C (c_X6_in l D cI cS x1 0 1 v3 h3) tb_X6_in m_744 m_X6_in_static m_ini_RX6 hd_X6_in (by decide) rfl rfl (Nat.le_of_ble_eq_true rfl) dX6_fault_3 (seM_nil cI cS a m) (seM_nil cI cS a m).symm [.int v3] rfl ?_
  refine g_if_ne (pc := 6) C 11 dX6_fault_6 (by decide) (fun (c6 : ¬ v3 = 0) => ?_) (fun (c6 : v3 = 0) => ?_)
  · have hf := k_neg c6 hf
    refine g_aload_n (pc := 11) C 0 dX6_fault_11 rfl ?_
    obtain ⟨v12, h12, hf⟩ := Option.bind_eq_some_iff.mp hf
    refine g_callV' (pc := 12) hla C (c_X6_isTree l D cI cS a m v12 h12) gg_RX6_156 hd_X6_isTree (by decide) rfl rfl rfl rfl (Nat.le_of_ble_eq_true rfl) dX6_fault_12 (seM_0 cI cS a m) (seM_0 cI cS a v12.2).symm [.int v12.1] rfl ?_
    refine g_if_eq (pc := 15) C 21 dX6_fault_15 (by decide) (fun (c15 : v12.1 = 0) => ?_) (fun (c15 : ¬ v12.1 = 0) => ?_)
    · have hf := k_pos c15 hf
      refine g_iload_n (pc := 21) C 1 dX6_fault_21 rfl ?_
      refine g_if_ne (pc := 22) C 32 dX6_fault_22 (by decide) (fun (c22 : ¬ x1 = 0) => ?_) (fun (c22 : x1 = 0) => ?_)
      · have hf := k_neg c22 hf
        refine g_aload_n (pc := 32) C 0 dX6_fault_32 rfl ?_
        refine gf_RX6_147 (pc := 33) C 0 rfl dX6_fault_33 ?_
        have e := Option.some.inj hf; subst e
        exact g_ri (pc := 36) C rfl (flM cI cS a v12.2) dX6_fault_36
      · have hf := k_pos c22 hf
        refine g_aload_n (pc := 25) C 0 dX6_fault_25 rfl ?_
        refine gf_RX6_144 (pc := 26) C 0 rfl dX6_fault_26 ?_
        refine g_goto (pc := 29) C 36 dX6_fault_29 (by decide) ?_
        have e := Option.some.inj hf; subst e
        exact g_ri (pc := 36) C rfl (flM cI cS a v12.2) dX6_fault_36
    · have hf := k_neg c15 hf
      refine g_bipush (pc := 18) C (-4) dX6_fault_18 (by decide) ?_
      have e := Option.some.inj hf; subst e
      exact g_ri (pc := 20) C rfl (flM cI cS a v12.2) dX6_fault_20
  · have hf := k_pos c6 hf
    refine g_iconst (pc := 9) C (-1) dX6_fault_9 (by decide) ?_
    have e := Option.some.inj hf; subst e
    exact g_ri (pc := 10) C rfl (flM cI cS a m) dX6_fault_10
set_option maxHeartbeats 4000000 in
set_option maxRecDepth 100000 in
theorem c_X6_read (l : Launch) (D : va_G) (cI cS : ClassId) (a : aM) (m : MD) (out : Int32 × MD) (hf : M_read m = some out) : kM l D (kTy cI cS) yX6_read ct_X6_read rm_X6_read [.ref a.1] [wM cI cS a m] (kEq (some (.int out.1)) [wM cI cS a out.2]) := by
  refine k_methodE cX6_read 2 (some .int) RX6 rfl [(0, .ref a.1)] rfl (by decide +kernel) (Nat.le_of_ble_eq_true rfl) (fun κ A hla C => ?_)
  refine g_chunks (flM cI cS a m).symm ?_
  have L83 : ∀ (fu : Nat) (m : MD) (x1 : Int32), M_read_L83 fu m x1 = some out → kG κ D A 2 0 0 (kF κ D A (some (.int out.1)) [wM cI cS a out.2]) (csM cI cS a m) [(0, .ref a.1), (1, .int x1)] 83 [] := by
    intro fu; induction fu with
    | zero => intro m x1 hf; rw [M_read_L83] at hf; cases hf
    | succ fu ih =>
      intro m x1 hf; rw [M_read_L83] at hf
      refine g_iload_n (pc := 83) C 1 dX6_read_83 rfl ?_
      refine g_iconst (pc := 84) C 4 dX6_read_84 (by decide) ?_
      refine g_icmp_ge (pc := 85) C 103 dX6_read_85 (by decide) (fun (c85 : 4 ≤ x1) => ?_) (fun (c85 : ¬ 4 ≤ x1) => ?_)
      · have hf := k_pos c85 hf
        refine g_aload_n (pc := 103) C 0 dX6_read_103 rfl ?_
        refine g_aload_n (pc := 104) C 0 dX6_read_104 rfl ?_
        refine gf_RX6_150 (pc := 105) C 0 rfl dX6_read_105 ?_
        obtain ⟨v108, h108, hf⟩ := Option.bind_eq_some_iff.mp hf
        refine g_callV' (pc := 108) hla C (c_X6_acted l D cI cS a m m.2.2.2.2.2.2.2.2.2.1 v108 h108) gg_RX6_72 hd_X6_acted (by decide) rfl rfl rfl rfl (Nat.le_of_ble_eq_true rfl) dX6_read_108 (seM_0 cI cS a m) (seM_0 cI cS a v108.2).symm [.int v108.1] rfl ?_
        have e := Option.some.inj hf; subst e
        exact g_ri (pc := 111) C rfl (flM cI cS a v108.2) dX6_read_111
      · have hf := k_neg c85 hf
        refine g_aload_n (pc := 88) C 0 dX6_read_88 rfl ?_
        refine gf_RX6_7 (pc := 89) C 0 rfl dX6_read_89 ?_
        refine g_iconst (pc := 92) C 5 dX6_read_92 (by decide) ?_
        refine g_iload_n (pc := 93) C 1 dX6_read_93 rfl ?_
        refine g_iadd (pc := 94) C dX6_read_94 ?_
        refine g_iconst (pc := 95) C (-1) dX6_read_95 (by decide) ?_
        obtain ⟨g96, hf⟩ := k_guard hf
        refine g_iast (pc := 96) C 1 0 (csM cI cS a ((upd m.1 (ix (5 + x1)) (-1)), m.2.1, m.2.2.1, m.2.2.2.1, m.2.2.2.2.1, m.2.2.2.2.2.1, m.2.2.2.2.2.2.1, m.2.2.2.2.2.2.2.1, m.2.2.2.2.2.2.2.2.1, m.2.2.2.2.2.2.2.2.2.1, m.2.2.2.2.2.2.2.2.2.2.1, m.2.2.2.2.2.2.2.2.2.2.2)) rfl rfl g96 rfl dX6_read_96 ?_
        refine g_iinc (pc := 97) C 1 (x1 + 1) [(1, .int (x1 + 1)), (0, .ref a.1)] dX6_read_97 rfl (congrArg (HAdd.hAdd _) (by decide)) (by decide) rfl ?_
        refine g_goto (pc := 100) C 83 dX6_read_100 (by decide) ?_
        refine g_sub [1, 0] (lv' := [(0, .ref a.1), (1, .int (x1 + 1))]) rfl ?_
        exact ih ((upd m.1 (ix (5 + x1)) (-1)), m.2.1, m.2.2.1, m.2.2.2.1, m.2.2.2.2.1, m.2.2.2.2.2.1, m.2.2.2.2.2.2.1, m.2.2.2.2.2.2.2.1, m.2.2.2.2.2.2.2.2.1, m.2.2.2.2.2.2.2.2.2.1, m.2.2.2.2.2.2.2.2.2.2.1, m.2.2.2.2.2.2.2.2.2.2.2) (x1 + 1) hf
  have L26 : ∀ (fu : Nat) (m : MD) (x1 : Int32), M_read_L26 fu m x1 = some out → kG κ D A 2 0 0 (kF κ D A (some (.int out.1)) [wM cI cS a out.2]) (csM cI cS a m) [(0, .ref a.1), (1, .int x1)] 26 [] := by
    intro fu; induction fu with
    | zero => intro m x1 hf; rw [M_read_L26] at hf; cases hf
    | succ fu ih =>
      intro m x1 hf; rw [M_read_L26] at hf
      refine g_iload_n (pc := 26) C 1 dX6_read_26 rfl ?_
      refine g_aload_n (pc := 27) C 0 dX6_read_27 rfl ?_
      refine gf_RX6_150 (pc := 28) C 0 rfl dX6_read_28 ?_
      refine g_icmp_ge (pc := 31) C 63 dX6_read_31 (by decide) (fun (c31 : m.2.2.2.2.2.2.2.2.2.1 ≤ x1) => ?_) (fun (c31 : ¬ m.2.2.2.2.2.2.2.2.2.1 ≤ x1) => ?_)
      · have hf := k_pos c31 hf
        refine g_aload_n (pc := 63) C 0 dX6_read_63 rfl ?_
        refine gf_RX6_7 (pc := 64) C 0 rfl dX6_read_64 ?_
        refine g_iconst (pc := 67) C 2 dX6_read_67 (by decide) ?_
        refine g_aload_n (pc := 68) C 0 dX6_read_68 rfl ?_
        refine g_iconst (pc := 69) C 0 dX6_read_69 (by decide) ?_
        obtain ⟨v70, h70, hf⟩ := Option.bind_eq_some_iff.mp hf
        refine g_callV' (pc := 70) hla C (c_X6_own l D cI cS a m 0 v70 h70) gg_RX6_39 hd_X6_own (by decide) rfl rfl rfl rfl (Nat.le_of_ble_eq_true rfl) dX6_read_70 (seM_0 cI cS a m) (seM_0 cI cS a m).symm [.int v70, .int 2, .ref a.2.1] rfl ?_
        refine g_iast (pc := 73) C 1 0 (csM cI cS a ((upd m.1 (ix 2) v70), m.2.1, m.2.2.1, m.2.2.2.1, m.2.2.2.2.1, m.2.2.2.2.2.1, m.2.2.2.2.2.2.1, m.2.2.2.2.2.2.2.1, m.2.2.2.2.2.2.2.2.1, m.2.2.2.2.2.2.2.2.2.1, m.2.2.2.2.2.2.2.2.2.2.1, m.2.2.2.2.2.2.2.2.2.2.2)) rfl rfl (by decide) rfl dX6_read_73 ?_
        refine g_aload_n (pc := 74) C 0 dX6_read_74 rfl ?_
        refine gf_RX6_7 (pc := 75) C 0 rfl dX6_read_75 ?_
        refine g_iconst (pc := 78) C 3 dX6_read_78 (by decide) ?_
        refine g_iconst (pc := 79) C 0 dX6_read_79 (by decide) ?_
        refine g_iast (pc := 80) C 1 0 (csM cI cS a ((upd (upd m.1 (ix 2) v70) (ix 3) 0), m.2.1, m.2.2.1, m.2.2.2.1, m.2.2.2.2.1, m.2.2.2.2.2.1, m.2.2.2.2.2.2.1, m.2.2.2.2.2.2.2.1, m.2.2.2.2.2.2.2.2.1, m.2.2.2.2.2.2.2.2.2.1, m.2.2.2.2.2.2.2.2.2.2.1, m.2.2.2.2.2.2.2.2.2.2.2)) rfl rfl (by decide) rfl dX6_read_80 ?_
        refine g_iconst (pc := 81) C 0 dX6_read_81 (by decide) ?_
        refine g_istore_n (pc := 82) C [(1, .int 0), (0, .ref a.1)] dX6_read_82 (by decide) rfl ?_
        refine g_sub [1, 0] (lv' := [(0, .ref a.1), (1, .int 0)]) rfl ?_
        exact L83 1000 ((upd (upd m.1 (ix 2) v70) (ix 3) 0), m.2.1, m.2.2.1, m.2.2.2.1, m.2.2.2.2.1, m.2.2.2.2.2.1, m.2.2.2.2.2.2.1, m.2.2.2.2.2.2.2.1, m.2.2.2.2.2.2.2.2.1, m.2.2.2.2.2.2.2.2.2.1, m.2.2.2.2.2.2.2.2.2.2.1, m.2.2.2.2.2.2.2.2.2.2.2) 0 hf
      · have hf := k_neg c31 hf
        refine g_aload_n (pc := 34) C 0 dX6_read_34 rfl ?_
        refine g_iload_n (pc := 35) C 1 dX6_read_35 rfl ?_
        refine g_aload_n (pc := 36) C 0 dX6_read_36 rfl ?_
        refine gf_RX6_25 (pc := 37) C 0 rfl dX6_read_37 ?_
        refine g_iconst (pc := 40) C 2 dX6_read_40 (by decide) ?_
        refine g_iload_n (pc := 41) C 1 dX6_read_41 rfl ?_
        refine g_imul (pc := 42) C dX6_read_42 ?_
        obtain ⟨g43, hf⟩ := k_guard hf
        refine g_iald (pc := 43) C 6 0 rfl rfl g43 dX6_read_43 ?_
        refine g_aload_n (pc := 44) C 0 dX6_read_44 rfl ?_
        refine gf_RX6_25 (pc := 45) C 0 rfl dX6_read_45 ?_
        refine g_iconst (pc := 48) C 2 dX6_read_48 (by decide) ?_
        refine g_iload_n (pc := 49) C 1 dX6_read_49 rfl ?_
        refine g_imul (pc := 50) C dX6_read_50 ?_
        refine g_iconst (pc := 51) C 1 dX6_read_51 (by decide) ?_
        refine g_iadd (pc := 52) C dX6_read_52 ?_
        obtain ⟨g53, hf⟩ := k_guard hf
        refine g_iald (pc := 53) C 6 0 rfl rfl g53 dX6_read_53 ?_
        obtain ⟨v54, h54, hf⟩ := Option.bind_eq_some_iff.mp hf
        refine g_callV' (pc := 54) hla C (c_X6_lays l D cI cS a m x1 (m.2.2.2.2.2.2.2.2.2.2.1 (ix (2 * x1))) (m.2.2.2.2.2.2.2.2.2.2.1 (ix ((2 * x1) + 1))) v54 h54) gg_RX6_90 hd_X6_lays (by decide) rfl rfl rfl rfl (Nat.le_of_ble_eq_true rfl) dX6_read_54 (seM_0 cI cS a m) (seM_0 cI cS a v54).symm [] rfl ?_
        refine g_iinc (pc := 57) C 1 (x1 + 1) [(1, .int (x1 + 1)), (0, .ref a.1)] dX6_read_57 rfl (congrArg (HAdd.hAdd _) (by decide)) (by decide) rfl ?_
        refine g_goto (pc := 60) C 26 dX6_read_60 (by decide) ?_
        refine g_sub [1, 0] (lv' := [(0, .ref a.1), (1, .int (x1 + 1))]) rfl ?_
        exact ih v54 (x1 + 1) hf
  rw [M_read] at hf
  refine g_aload_n (pc := 0) C 0 dX6_read_0 rfl ?_
  obtain ⟨v1, h1, hf⟩ := Option.bind_eq_some_iff.mp hf
  refine g_callV' (pc := 1) hla C (c_X6_begins l D cI cS a m v1 h1) gg_RX6_55 hd_X6_begins (by decide) rfl rfl rfl rfl (Nat.le_of_ble_eq_true rfl) dX6_read_1 (seM_0 cI cS a m) (seM_0 cI cS a v1).symm [] rfl ?_
  refine g_aload_n (pc := 4) C 0 dX6_read_4 rfl ?_
  obtain ⟨v5, h5, hf⟩ := Option.bind_eq_some_iff.mp hf
  refine g_callV' (pc := 5) hla C (c_X6_isTree l D cI cS a v1 v5 h5) gg_RX6_156 hd_X6_isTree (by decide) rfl rfl rfl rfl (Nat.le_of_ble_eq_true rfl) dX6_read_5 (seM_0 cI cS a v1) (seM_0 cI cS a v5.2).symm [.int v5.1] rfl ?_
  refine g_if_ne (pc := 8) C 14 dX6_read_8 (by decide) (fun (c8 : ¬ v5.1 = 0) => ?_) (fun (c8 : v5.1 = 0) => ?_)
  · have hf := k_neg c8 hf
    refine g_aload_n (pc := 14) C 0 dX6_read_14 rfl ?_
    refine gf_RX6_7 (pc := 15) C 0 rfl dX6_read_15 ?_
    refine g_iconst (pc := 18) C 0 dX6_read_18 (by decide) ?_
    refine g_aload_n (pc := 19) C 0 dX6_read_19 rfl ?_
    refine gf_RX6_150 (pc := 20) C 0 rfl dX6_read_20 ?_
    refine g_iast (pc := 23) C 1 0 (csM cI cS a ((upd v5.2.1 (ix 0) v5.2.2.2.2.2.2.2.2.2.2.1), v5.2.2.1, v5.2.2.2.1, v5.2.2.2.2.1, v5.2.2.2.2.2.1, v5.2.2.2.2.2.2.1, v5.2.2.2.2.2.2.2.1, v5.2.2.2.2.2.2.2.2.1, v5.2.2.2.2.2.2.2.2.2.1, v5.2.2.2.2.2.2.2.2.2.2.1, v5.2.2.2.2.2.2.2.2.2.2.2.1, v5.2.2.2.2.2.2.2.2.2.2.2.2)) rfl rfl (by decide) rfl dX6_read_23 ?_
    refine g_iconst (pc := 24) C 0 dX6_read_24 (by decide) ?_
    refine g_istore_n (pc := 25) C [(1, .int 0), (0, .ref a.1)] dX6_read_25 (by decide) rfl ?_
    refine g_sub [1, 0] (lv' := [(0, .ref a.1), (1, .int 0)]) rfl ?_
    exact L26 1000 ((upd v5.2.1 (ix 0) v5.2.2.2.2.2.2.2.2.2.2.1), v5.2.2.1, v5.2.2.2.1, v5.2.2.2.2.1, v5.2.2.2.2.2.1, v5.2.2.2.2.2.2.1, v5.2.2.2.2.2.2.2.1, v5.2.2.2.2.2.2.2.2.1, v5.2.2.2.2.2.2.2.2.2.1, v5.2.2.2.2.2.2.2.2.2.2.1, v5.2.2.2.2.2.2.2.2.2.2.2.1, v5.2.2.2.2.2.2.2.2.2.2.2.2) 0 hf
  · have hf := k_pos c8 hf
    refine g_bipush (pc := 11) C (-2) dX6_read_11 (by decide) ?_
    have e := Option.some.inj hf; subst e
    exact g_ri (pc := 13) C rfl (flM cI cS a v5.2) dX6_read_13
