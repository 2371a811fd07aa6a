set_option maxHeartbeats 4000000 in
set_option maxRecDepth 100000 in
theorem c_X6_closes (l : Launch) (D : va_G) (cI cS : ClassId) (a : aM) (m : MD) (x1 : Int32) (x2 : Int32) (out : MD) (hf : M_closes m x1 x2 = some out) : kM l D (kTy cI cS) yX6_closes ct_X6_closes rm_X6_closes [.ref a.1, .int x1, .int x2] [wM cI cS a m] (kEq (none) [wM cI cS a out]) := by
  refine k_methodE cX6_closes 4 none RX6 rfl [(0, .ref a.1), (1, .int x1), (2, .int x2)] rfl (by decide +kernel) (Nat.le_of_ble_eq_true rfl) (fun κ A hla C => ?_)
  refine g_chunks (flM cI cS a m).symm ?_
  have L14 : ∀ (fu : Nat) (m : MD) (x2 : Int32) (x3 : Int32), M_closes_L14 fu m x2 x3 = some out → kG κ D A 4 0 0 (kF κ D A (none) [wM cI cS a out]) (csM cI cS a m) [(0, .ref a.1), (2, .int x2), (3, .int x3)] 14 [] := by
    intro fu; induction fu with
    | zero => intro m x2 x3 hf; rw [M_closes_L14] at hf; cases hf
    | succ fu ih =>
      intro m x2 x3 hf; rw [M_closes_L14] at hf
      refine g_iload_n (pc := 14) C 2 dX6_closes_14 rfl ?_
      refine g_iconst (pc := 15) C 3 dX6_closes_15 (by decide) ?_
      refine g_aload_n (pc := 16) C 0 dX6_closes_16 rfl ?_
      refine gf_RX6_7 (pc := 17) C 0 rfl dX6_closes_17 ?_
      refine g_iconst (pc := 20) C 0 dX6_closes_20 (by decide) ?_
      refine g_iald (pc := 21) C 1 0 rfl rfl (by decide) dX6_closes_21 ?_
      refine g_imul (pc := 22) C dX6_closes_22 ?_
      refine g_icmp_ge (pc := 23) C 54 dX6_closes_23 (by decide) (fun (c23 : (3 * (m.1 (ix 0))) ≤ x3) => ?_) (fun (c23 : ¬ (3 * (m.1 (ix 0))) ≤ x3) => ?_)
      · have hf := k_pos c23 hf
        have e := Option.some.inj hf; subst e
        exact g_rv (pc := 54) C rfl (flM cI cS a m) dX6_closes_54
      · have hf := k_neg c23 hf
        refine g_aload_n (pc := 26) C 0 dX6_closes_26 rfl ?_
        refine gf_RX6_7 (pc := 27) C 0 rfl dX6_closes_27 ?_
        refine g_bipush (pc := 30) C 18 dX6_closes_30 (by decide) ?_
        refine g_iload_n (pc := 32) C 2 dX6_closes_32 rfl ?_
        refine g_iadd (pc := 33) C dX6_closes_33 ?_
        refine g_aload_n (pc := 34) C 0 dX6_closes_34 rfl ?_
        refine gf_RX6_7 (pc := 35) C 0 rfl dX6_closes_35 ?_
        refine g_bipush (pc := 38) C 18 dX6_closes_38 (by decide) ?_
        refine g_iload_n (pc := 40) C 2 dX6_closes_40 rfl ?_
        refine g_iadd (pc := 41) C dX6_closes_41 ?_
        refine g_iconst (pc := 42) C 3 dX6_closes_42 (by decide) ?_
        refine g_iload_n (pc := 43) C 1 dX6_closes_43 rfl ?_
        refine g_imul (pc := 44) C dX6_closes_44 ?_
        refine g_iadd (pc := 45) C dX6_closes_45 ?_
        obtain ⟨g46, hf⟩ := k_guard hf
        refine g_iald (pc := 46) C 1 0 rfl rfl g46 dX6_closes_46 ?_
        obtain ⟨g47, hf⟩ := k_guard hf
        obtain ⟨u47, e47, hf⟩ := Option.bind_eq_some_iff.mp hf
        refine g_iastU (pc := 47) C 1 0 u47 (Option.some.inj e47) (csM cI cS a (u47, m.2.1, m.2.2.1, m.2.2.2.1, m.2.2.2.2.1, m.2.2.2.2.2.1, m.2.2.2.2.2.2.1, m.2.2.2.2.2.2.2.1, m.2.2.2.2.2.2.2.2.1, m.2.2.2.2.2.2.2.2.2.1, m.2.2.2.2.2.2.2.2.2.2.1, m.2.2.2.2.2.2.2.2.2.2.2)) rfl rfl g47 rfl dX6_closes_47 ?_
        refine g_iinc (pc := 48) C 2 (x3 + 1) [(3, .int (x3 + 1)), (0, .ref a.1), (2, .int x2)] dX6_closes_48 rfl (congrArg (HAdd.hAdd _) (by decide)) (by decide) rfl ?_
        refine g_goto (pc := 51) C 14 dX6_closes_51 (by decide) ?_
        refine g_sub [1, 2, 0] (lv' := [(0, .ref a.1), (2, .int x2), (3, .int (x3 + 1))]) rfl ?_
        exact ih (u47, m.2.1, m.2.2.1, m.2.2.2.1, m.2.2.2.2.1, m.2.2.2.2.2.1, m.2.2.2.2.2.2.1, m.2.2.2.2.2.2.2.1, m.2.2.2.2.2.2.2.2.1, m.2.2.2.2.2.2.2.2.2.1, m.2.2.2.2.2.2.2.2.2.2.1, m.2.2.2.2.2.2.2.2.2.2.2) x2 (x3 + 1) hf
  rw [M_closes] at hf
  refine g_aload_n (pc := 0) C 0 dX6_closes_0 rfl ?_
  refine gf_RX6_7 (pc := 1) C 0 rfl dX6_closes_1 ?_
  refine g_iconst (pc := 4) C 0 dX6_closes_4 (by decide) ?_
  refine g_dup2 (pc := 5) C dX6_closes_5 rfl rfl ?_
  refine g_iald (pc := 6) C 1 0 rfl rfl (by decide) dX6_closes_6 ?_
  refine g_iload_n (pc := 7) C 2 dX6_closes_7 rfl ?_
  refine g_isub (pc := 8) C dX6_closes_8 ?_
  obtain ⟨u9, e9, hf⟩ := Option.bind_eq_some_iff.mp hf
  refine g_iastU (pc := 9) C 1 0 u9 (Option.some.inj e9) (csM cI cS a (u9, m.2.1, m.2.2.1, m.2.2.2.1, m.2.2.2.2.1, m.2.2.2.2.2.1, m.2.2.2.2.2.2.1, m.2.2.2.2.2.2.2.1, m.2.2.2.2.2.2.2.2.1, m.2.2.2.2.2.2.2.2.2.1, m.2.2.2.2.2.2.2.2.2.2.1, m.2.2.2.2.2.2.2.2.2.2.2)) rfl rfl (by decide) rfl dX6_closes_9 ?_
  refine g_iconst (pc := 10) C 3 dX6_closes_10 (by decide) ?_
  refine g_iload_n (pc := 11) C 1 dX6_closes_11 rfl ?_
  refine g_imul (pc := 12) C dX6_closes_12 ?_
  refine g_istore_n (pc := 13) C [(3, .int (3 * x1)), (0, .ref a.1), (1, .int x1), (2, .int x2)] dX6_closes_13 (by decide) rfl ?_
  refine g_sub [1, 3, 0] (lv' := [(0, .ref a.1), (2, .int x2), (3, .int (3 * x1))]) rfl ?_
  exact L14 1000 (u9, m.2.1, m.2.2.1, m.2.2.2.1, m.2.2.2.2.1, m.2.2.2.2.2.1, m.2.2.2.2.2.2.1, m.2.2.2.2.2.2.2.1, m.2.2.2.2.2.2.2.2.1, m.2.2.2.2.2.2.2.2.2.1, m.2.2.2.2.2.2.2.2.2.2.1, m.2.2.2.2.2.2.2.2.2.2.2) x2 (3 * x1) hf
set_option maxHeartbeats 4000000 in
set_option maxRecDepth 100000 in
theorem c_X6_lays (l : Launch) (D : va_G) (cI cS : ClassId) (a : aM) (m : MD) (x1 : Int32) (x2 : Int32) (x3 : Int32) (out : MD) (hf : M_lays m x1 x2 x3 = some out) : kM l D (kTy cI cS) yX6_lays ct_X6_lays rm_X6_lays [.ref a.1, .int x1, .int x2, .int x3] [wM cI cS a m] (kEq (none) [wM cI cS a out]) := by
  refine k_methodE cX6_lays 4 none RX6 rfl [(0, .ref a.1), (1, .int x1), (2, .int x2), (3, .int x3)] rfl (by decide +kernel) (Nat.le_of_ble_eq_true rfl) (fun κ A hla C => ?_)
  refine g_chunks (flM cI cS a m).symm ?_
  rw [M_lays] at hf
  refine g_aload_n (pc := 0) C 0 dX6_lays_0 rfl ?_
  refine gf_RX6_7 (pc := 1) C 0 rfl dX6_lays_1 ?_
  refine g_bipush (pc := 4) C 18 dX6_lays_4 (by decide) ?_
  refine g_iconst (pc := 6) C 3 dX6_lays_6 (by decide) ?_
  refine g_iload_n (pc := 7) C 1 dX6_lays_7 rfl ?_
  refine g_imul (pc := 8) C dX6_lays_8 ?_
  refine g_iadd (pc := 9) C dX6_lays_9 ?_
  refine g_iload_n (pc := 10) C 2 dX6_lays_10 rfl ?_
  obtain ⟨g11, hf⟩ := k_guard hf
  obtain ⟨u11, e11, hf⟩ := Option.bind_eq_some_iff.mp hf
  refine g_iastU (pc := 11) C 1 0 u11 (Option.some.inj e11) (csM cI cS a (u11, m.2.1, m.2.2.1, m.2.2.2.1, m.2.2.2.2.1, m.2.2.2.2.2.1, m.2.2.2.2.2.2.1, m.2.2.2.2.2.2.2.1, m.2.2.2.2.2.2.2.2.1, m.2.2.2.2.2.2.2.2.2.1, m.2.2.2.2.2.2.2.2.2.2.1, m.2.2.2.2.2.2.2.2.2.2.2)) rfl rfl g11 rfl dX6_lays_11 ?_
  refine g_aload_n (pc := 12) C 0 dX6_lays_12 rfl ?_
  refine gf_RX6_7 (pc := 13) C 0 rfl dX6_lays_13 ?_
  refine g_bipush (pc := 16) C 18 dX6_lays_16 (by decide) ?_
  refine g_iconst (pc := 18) C 3 dX6_lays_18 (by decide) ?_
  refine g_iload_n (pc := 19) C 1 dX6_lays_19 rfl ?_
  refine g_imul (pc := 20) C dX6_lays_20 ?_
  refine g_iadd (pc := 21) C dX6_lays_21 ?_
  refine g_iconst (pc := 22) C 1 dX6_lays_22 (by decide) ?_
  refine g_iadd (pc := 23) C dX6_lays_23 ?_
  refine g_iload_n (pc := 24) C 3 dX6_lays_24 rfl ?_
  obtain ⟨g25, hf⟩ := k_guard hf
  obtain ⟨u25, e25, hf⟩ := Option.bind_eq_some_iff.mp hf
  refine g_iastU (pc := 25) C 1 0 u25 (Option.some.inj e25) (csM cI cS a (u25, m.2.1, m.2.2.1, m.2.2.2.1, m.2.2.2.2.1, m.2.2.2.2.2.1, m.2.2.2.2.2.2.1, m.2.2.2.2.2.2.2.1, m.2.2.2.2.2.2.2.2.1, m.2.2.2.2.2.2.2.2.2.1, m.2.2.2.2.2.2.2.2.2.2.1, m.2.2.2.2.2.2.2.2.2.2.2)) rfl rfl g25 rfl dX6_lays_25 ?_
  refine g_aload_n (pc := 26) C 0 dX6_lays_26 rfl ?_
  refine gf_RX6_7 (pc := 27) C 0 rfl dX6_lays_27 ?_
  refine g_bipush (pc := 30) C 18 dX6_lays_30 (by decide) ?_
  refine g_iconst (pc := 32) C 3 dX6_lays_32 (by decide) ?_
  refine g_iload_n (pc := 33) C 1 dX6_lays_33 rfl ?_
  refine g_imul (pc := 34) C dX6_lays_34 ?_
  refine g_iadd (pc := 35) C dX6_lays_35 ?_
  refine g_iconst (pc := 36) C 2 dX6_lays_36 (by decide) ?_
  refine g_iadd (pc := 37) C dX6_lays_37 ?_
  refine g_aload_n (pc := 38) C 0 dX6_lays_38 rfl ?_
  refine gf_RX6_7 (pc := 39) C 0 rfl dX6_lays_39 ?_
  refine g_iconst (pc := 42) C 1 dX6_lays_42 (by decide) ?_
  refine g_iald (pc := 43) C 1 0 rfl rfl (by decide) dX6_lays_43 ?_
  obtain ⟨g44, hf⟩ := k_guard hf
  obtain ⟨u44, e44, hf⟩ := Option.bind_eq_some_iff.mp hf
  refine g_iastU (pc := 44) C 1 0 u44 (Option.some.inj e44) (csM cI cS a (u44, m.2.1, m.2.2.1, m.2.2.2.1, m.2.2.2.2.1, m.2.2.2.2.2.1, m.2.2.2.2.2.2.1, m.2.2.2.2.2.2.2.1, m.2.2.2.2.2.2.2.2.1, m.2.2.2.2.2.2.2.2.2.1, m.2.2.2.2.2.2.2.2.2.2.1, m.2.2.2.2.2.2.2.2.2.2.2)) rfl rfl g44 rfl dX6_lays_44 ?_
  refine g_aload_n (pc := 45) C 0 dX6_lays_45 rfl ?_
  refine gf_RX6_7 (pc := 46) C 0 rfl dX6_lays_46 ?_
  refine g_iconst (pc := 49) C 1 dX6_lays_49 (by decide) ?_
  refine g_dup2 (pc := 50) C dX6_lays_50 rfl rfl ?_
  refine g_iald (pc := 51) C 1 0 rfl rfl (by decide) dX6_lays_51 ?_
  refine g_iconst (pc := 52) C 1 dX6_lays_52 (by decide) ?_
  refine g_iadd (pc := 53) C dX6_lays_53 ?_
  obtain ⟨u54, e54, hf⟩ := Option.bind_eq_some_iff.mp hf
  refine g_iastU (pc := 54) C 1 0 u54 (Option.some.inj e54) (csM cI cS a (u54, m.2.1, m.2.2.1, m.2.2.2.1, m.2.2.2.2.1, m.2.2.2.2.2.1, m.2.2.2.2.2.2.1, m.2.2.2.2.2.2.2.1, m.2.2.2.2.2.2.2.2.1, m.2.2.2.2.2.2.2.2.2.1, m.2.2.2.2.2.2.2.2.2.2.1, m.2.2.2.2.2.2.2.2.2.2.2)) rfl rfl (by decide) rfl dX6_lays_54 ?_
  have e := Option.some.inj hf; subst e
  exact g_rv (pc := 55) C rfl (flM cI cS a (u54, m.2.1, m.2.2.1, m.2.2.2.1, m.2.2.2.2.1, m.2.2.2.2.2.1, m.2.2.2.2.2.2.1, m.2.2.2.2.2.2.2.1, m.2.2.2.2.2.2.2.2.1, m.2.2.2.2.2.2.2.2.2.1, m.2.2.2.2.2.2.2.2.2.2.1, m.2.2.2.2.2.2.2.2.2.2.2)) dX6_lays_55
set_option maxHeartbeats 4000000 in
set_option maxRecDepth 100000 in
theorem c_X6_sinks (l : Launch) (D : va_G) (cI cS : ClassId) (a : aM) (m : MD) (x1 : Int32) (x2 : Int32) (x3 : Int32) (out : MD) (hf : M_sinks m x1 x2 x3 = some out) : kM l D (kTy cI cS) yX6_sinks ct_X6_sinks rm_X6_sinks [.ref a.1, .int x1, .int x2, .int x3] [wM cI cS a m] (kEq (none) [wM cI cS a out]) := by
  refine k_methodE cX6_sinks 5 none RX6 rfl [(0, .ref a.1), (1, .int x1), (2, .int x2), (3, .int x3)] rfl (by decide +kernel) (Nat.le_of_ble_eq_true rfl) (fun κ A hla C => ?_)
  refine g_chunks (flM cI cS a m).symm ?_
  have L3 : ∀ (fu : Nat) (m : MD) (x2 : Int32) (x3 : Int32) (x4 : Int32), M_sinks_L3 fu m x2 x3 x4 = some out → kG κ D A 5 0 0 (kF κ D A (none) [wM cI cS a out]) (csM cI cS a m) [(0, .ref a.1), (2, .int x2), (3, .int x3), (4, .int x4)] 3 [] := by
    intro fu; induction fu with
    | zero => intro m x2 x3 x4 hf; rw [M_sinks_L3] at hf; cases hf
    | succ fu ih =>
      intro m x2 x3 x4 hf; rw [M_sinks_L3] at hf
      refine g_iload (pc := 3) C 3 dX6_sinks_3 rfl ?_
      refine g_iload_n (pc := 5) C 1 dX6_sinks_5 rfl ?_
      refine g_icmp_ge (pc := 6) C 33 dX6_sinks_6 (by decide) (fun (c6 : x2 ≤ x4) => ?_) (fun (c6 : ¬ x2 ≤ x4) => ?_)
      · have hf := k_pos c6 hf
        have e := Option.some.inj hf; subst e
        exact g_rv (pc := 33) C rfl (flM cI cS a m) dX6_sinks_33
      · have hf := k_neg c6 hf
        refine g_aload_n (pc := 9) C 0 dX6_sinks_9 rfl ?_
        refine gf_RX6_7 (pc := 10) C 0 rfl dX6_sinks_10 ?_
        refine g_bipush (pc := 13) C 18 dX6_sinks_13 (by decide) ?_
        refine g_iconst (pc := 15) C 3 dX6_sinks_15 (by decide) ?_
        refine g_iload (pc := 16) C 3 dX6_sinks_16 rfl ?_
        refine g_imul (pc := 18) C dX6_sinks_18 ?_
        refine g_iadd (pc := 19) C dX6_sinks_19 ?_
        refine g_iconst (pc := 20) C 1 dX6_sinks_20 (by decide) ?_
        refine g_iadd (pc := 21) C dX6_sinks_21 ?_
        refine g_dup2 (pc := 22) C dX6_sinks_22 rfl rfl ?_
        obtain ⟨g23, hf⟩ := k_guard hf
        refine g_iald (pc := 23) C 1 0 rfl rfl g23 dX6_sinks_23 ?_
        refine g_iload_n (pc := 24) C 2 dX6_sinks_24 rfl ?_
        refine g_iadd (pc := 25) C dX6_sinks_25 ?_
        obtain ⟨g26, hf⟩ := k_guard hf
        obtain ⟨u26, e26, hf⟩ := Option.bind_eq_some_iff.mp hf
        refine g_iastU (pc := 26) C 1 0 u26 (Option.some.inj e26) (csM cI cS a (u26, m.2.1, m.2.2.1, m.2.2.2.1, m.2.2.2.2.1, m.2.2.2.2.2.1, m.2.2.2.2.2.2.1, m.2.2.2.2.2.2.2.1, m.2.2.2.2.2.2.2.2.1, m.2.2.2.2.2.2.2.2.2.1, m.2.2.2.2.2.2.2.2.2.2.1, m.2.2.2.2.2.2.2.2.2.2.2)) rfl rfl g26 rfl dX6_sinks_26 ?_
        refine g_iinc (pc := 27) C 3 (x4 + 1) [(4, .int (x4 + 1)), (0, .ref a.1), (2, .int x2), (3, .int x3)] dX6_sinks_27 rfl (congrArg (HAdd.hAdd _) (by decide)) (by decide) rfl ?_
        refine g_goto (pc := 30) C 3 dX6_sinks_30 (by decide) ?_
        refine g_sub [1, 2, 3, 0] (lv' := [(0, .ref a.1), (2, .int x2), (3, .int x3), (4, .int (x4 + 1))]) rfl ?_
        exact ih (u26, m.2.1, m.2.2.1, m.2.2.2.1, m.2.2.2.2.1, m.2.2.2.2.2.1, m.2.2.2.2.2.2.1, m.2.2.2.2.2.2.2.1, m.2.2.2.2.2.2.2.2.1, m.2.2.2.2.2.2.2.2.2.1, m.2.2.2.2.2.2.2.2.2.2.1, m.2.2.2.2.2.2.2.2.2.2.2) x2 x3 (x4 + 1) hf
  rw [M_sinks] at hf
  refine g_iload_n (pc := 0) C 1 dX6_sinks_0 rfl ?_
  refine g_istore (pc := 1) C [(4, .int x1), (0, .ref a.1), (1, .int x1), (2, .int x2), (3, .int x3)] dX6_sinks_1 (by decide) rfl ?_
  refine g_sub [1, 3, 4, 0] (lv' := [(0, .ref a.1), (2, .int x2), (3, .int x3), (4, .int x1)]) rfl ?_
  exact L3 1000 m x2 x3 x1 hf
set_option maxHeartbeats 4000000 in
set_option maxRecDepth 100000 in
theorem c_X6_walks (l : Launch) (D : va_G) (cI cS : ClassId) (a : aM) (m : MD) (x1 : Int32) (out : Int32 × MD) (hf : M_walks m x1 = some out) : kM l D (kTy cI cS) yX6_walks ct_X6_walks rm_X6_walks [.ref a.1, .int x1] [wM cI cS a m] (kEq (some (.int out.1)) [wM cI cS a out.2]) := by
  refine k_methodE cX6_walks 3 (some .int) RX6 rfl [(0, .ref a.1), (1, .int x1)] rfl (by decide +kernel) (Nat.le_of_ble_eq_true rfl) (fun κ A hla C => ?_)
  refine g_chunks (flM cI cS a m).symm ?_
  have J69 : ∀ (m : MD) (x1 : Int32), M_walks_J69 m x1 = some out → kG κ D A 3 0 0 (kF κ D A (some (.int out.1)) [wM cI cS a out.2]) (csM cI cS a m) [(0, .ref a.1), (1, .int x1)] 69 [] := by
    intro m x1 hf; rw [M_walks_J69] at hf
    refine g_aload_n (pc := 69) C 0 dX6_walks_69 rfl ?_
    refine gf_RX6_7 (pc := 70) C 0 rfl dX6_walks_70 ?_
    refine g_bipush (pc := 73) C 9 dX6_walks_73 (by decide) ?_
    refine g_aload_n (pc := 75) C 0 dX6_walks_75 rfl ?_
    refine gf_RX6_7 (pc := 76) C 0 rfl dX6_walks_76 ?_
    refine g_iconst (pc := 79) C 3 dX6_walks_79 (by decide) ?_
    refine g_iald (pc := 80) C 1 0 rfl rfl (by decide) dX6_walks_80 ?_
    refine g_iadd (pc := 81) C dX6_walks_81 ?_
    refine g_aload_n (pc := 82) C 0 dX6_walks_82 rfl ?_
    refine gf_RX6_7 (pc := 83) C 0 rfl dX6_walks_83 ?_
    refine g_iconst (pc := 86) C 2 dX6_walks_86 (by decide) ?_
    refine g_iald (pc := 87) C 1 0 rfl rfl (by decide) dX6_walks_87 ?_
    obtain ⟨g88, hf⟩ := k_guard hf
    obtain ⟨u88, e88, hf⟩ := Option.bind_eq_some_iff.mp hf
    refine g_iastU (pc := 88) C 1 0 u88 (Option.some.inj e88) (csM cI cS a (u88, m.2.1, m.2.2.1, m.2.2.2.1, m.2.2.2.2.1, m.2.2.2.2.2.1, m.2.2.2.2.2.2.1, m.2.2.2.2.2.2.2.1, m.2.2.2.2.2.2.2.2.1, m.2.2.2.2.2.2.2.2.2.1, m.2.2.2.2.2.2.2.2.2.2.1, m.2.2.2.2.2.2.2.2.2.2.2)) rfl rfl g88 rfl dX6_walks_88 ?_
    refine g_aload_n (pc := 89) C 0 dX6_walks_89 rfl ?_
    refine gf_RX6_7 (pc := 90) C 0 rfl dX6_walks_90 ?_
    refine g_iconst (pc := 93) C 3 dX6_walks_93 (by decide) ?_
    refine g_dup2 (pc := 94) C dX6_walks_94 rfl rfl ?_
    refine g_iald (pc := 95) C 1 0 rfl rfl (by decide) dX6_walks_95 ?_
    refine g_iconst (pc := 96) C 1 dX6_walks_96 (by decide) ?_
    refine g_iadd (pc := 97) C dX6_walks_97 ?_
    obtain ⟨u98, e98, hf⟩ := Option.bind_eq_some_iff.mp hf
    refine g_iastU (pc := 98) C 1 0 u98 (Option.some.inj e98) (csM cI cS a (u98, m.2.1, m.2.2.1, m.2.2.2.1, m.2.2.2.2.1, m.2.2.2.2.2.1, m.2.2.2.2.2.2.1, m.2.2.2.2.2.2.2.1, m.2.2.2.2.2.2.2.2.1, m.2.2.2.2.2.2.2.2.2.1, m.2.2.2.2.2.2.2.2.2.2.1, m.2.2.2.2.2.2.2.2.2.2.2)) rfl rfl (by decide) rfl dX6_walks_98 ?_
    refine g_aload_n (pc := 99) C 0 dX6_walks_99 rfl ?_
    refine gf_RX6_7 (pc := 100) C 0 rfl dX6_walks_100 ?_
    refine g_iconst (pc := 103) C 2 dX6_walks_103 (by decide) ?_
    refine g_aload_n (pc := 104) C 0 dX6_walks_104 rfl ?_
    refine g_iload_n (pc := 105) C 1 dX6_walks_105 rfl ?_
    obtain ⟨v106, h106, hf⟩ := Option.bind_eq_some_iff.mp hf
    refine g_callV' (pc := 106) hla C (c_X6_own l D cI cS a (u98, m.2.1, m.2.2.1, m.2.2.2.1, m.2.2.2.2.1, m.2.2.2.2.2.1, m.2.2.2.2.2.2.1, m.2.2.2.2.2.2.2.1, m.2.2.2.2.2.2.2.2.1, m.2.2.2.2.2.2.2.2.2.1, m.2.2.2.2.2.2.2.2.2.2.1, m.2.2.2.2.2.2.2.2.2.2.2) x1 v106 h106) gg_RX6_39 hd_X6_own (by decide) rfl rfl rfl rfl (Nat.le_of_ble_eq_true rfl) dX6_walks_106 (seM_0 cI cS a (u98, m.2.1, m.2.2.1, m.2.2.2.1, m.2.2.2.2.1, m.2.2.2.2.2.1, m.2.2.2.2.2.2.1, m.2.2.2.2.2.2.2.1, m.2.2.2.2.2.2.2.2.1, m.2.2.2.2.2.2.2.2.2.1, m.2.2.2.2.2.2.2.2.2.2.1, m.2.2.2.2.2.2.2.2.2.2.2)) (seM_0 cI cS a (u98, m.2.1, m.2.2.1, m.2.2.2.1, m.2.2.2.2.1, m.2.2.2.2.2.1, m.2.2.2.2.2.2.1, m.2.2.2.2.2.2.2.1, m.2.2.2.2.2.2.2.2.1, m.2.2.2.2.2.2.2.2.2.1, m.2.2.2.2.2.2.2.2.2.2.1, m.2.2.2.2.2.2.2.2.2.2.2)).symm [.int v106, .int 2, .ref a.2.1] rfl ?_
    obtain ⟨u109, e109, hf⟩ := Option.bind_eq_some_iff.mp hf
    refine g_iastU (pc := 109) C 1 0 u109 (Option.some.inj e109) (csM cI cS a (u109, m.2.1, m.2.2.1, m.2.2.2.1, m.2.2.2.2.1, m.2.2.2.2.2.1, m.2.2.2.2.2.2.1, m.2.2.2.2.2.2.2.1, m.2.2.2.2.2.2.2.2.1, m.2.2.2.2.2.2.2.2.2.1, m.2.2.2.2.2.2.2.2.2.2.1, m.2.2.2.2.2.2.2.2.2.2.2)) rfl rfl (by decide) rfl dX6_walks_109 ?_
    refine g_iload_n (pc := 110) C 1 dX6_walks_110 rfl ?_
    have e := Option.some.inj hf; subst e
    exact g_ri (pc := 111) C rfl (flM cI cS a (u109, m.2.1, m.2.2.1, m.2.2.2.1, m.2.2.2.2.1, m.2.2.2.2.2.1, m.2.2.2.2.2.2.1, m.2.2.2.2.2.2.2.1, m.2.2.2.2.2.2.2.2.1, m.2.2.2.2.2.2.2.2.2.1, m.2.2.2.2.2.2.2.2.2.2.1, m.2.2.2.2.2.2.2.2.2.2.2)) dX6_walks_111
  have L27 : ∀ (fu : Nat) (m : MD) (x1 : Int32) (x2 : Int32), M_walks_L27 fu m x1 x2 = some out → kG κ D A 3 0 0 (kF κ D A (some (.int out.1)) [wM cI cS a out.2]) (csM cI cS a m) [(0, .ref a.1), (1, .int x1), (2, .int x2)] 27 [] := by
    intro fu; induction fu with
    | zero => intro m x1 x2 hf; rw [M_walks_L27] at hf; cases hf
    | succ fu ih =>
      intro m x1 x2 hf; rw [M_walks_L27] at hf
      refine g_iload_n (pc := 27) C 2 dX6_walks_27 rfl ?_
      refine g_bipush (pc := 28) C 7 dX6_walks_28 (by decide) ?_
      refine g_icmp_ge (pc := 30) C 59 dX6_walks_30 (by decide) (fun (c30 : 7 ≤ x2) => ?_) (fun (c30 : ¬ 7 ≤ x2) => ?_)
      · have hf := k_pos c30 hf
        refine g_aload_n (pc := 59) C 0 dX6_walks_59 rfl ?_
        refine gf_RX6_7 (pc := 60) C 0 rfl dX6_walks_60 ?_
        refine g_iconst (pc := 63) C 3 dX6_walks_63 (by decide) ?_
        refine g_dup2 (pc := 64) C dX6_walks_64 rfl rfl ?_
        refine g_iald (pc := 65) C 1 0 rfl rfl (by decide) dX6_walks_65 ?_
        refine g_iconst (pc := 66) C 1 dX6_walks_66 (by decide) ?_
        refine g_isub (pc := 67) C dX6_walks_67 ?_
        obtain ⟨u68, e68, hf⟩ := Option.bind_eq_some_iff.mp hf
        refine g_iastU (pc := 68) C 1 0 u68 (Option.some.inj e68) (csM cI cS a (u68, m.2.1, m.2.2.1, m.2.2.2.1, m.2.2.2.2.1, m.2.2.2.2.2.1, m.2.2.2.2.2.2.1, m.2.2.2.2.2.2.2.1, m.2.2.2.2.2.2.2.2.1, m.2.2.2.2.2.2.2.2.2.1, m.2.2.2.2.2.2.2.2.2.2.1, m.2.2.2.2.2.2.2.2.2.2.2)) rfl rfl (by decide) rfl dX6_walks_68 ?_
        refine g_sub [0, 1] (lv' := [(0, .ref a.1), (1, .int x1)]) rfl ?_
        exact J69 (u68, m.2.1, m.2.2.1, m.2.2.2.1, m.2.2.2.2.1, m.2.2.2.2.2.1, m.2.2.2.2.2.2.1, m.2.2.2.2.2.2.2.1, m.2.2.2.2.2.2.2.2.1, m.2.2.2.2.2.2.2.2.2.1, m.2.2.2.2.2.2.2.2.2.2.1, m.2.2.2.2.2.2.2.2.2.2.2) x1 hf
      · have hf := k_neg c30 hf
        refine g_aload_n (pc := 33) C 0 dX6_walks_33 rfl ?_
        refine gf_RX6_7 (pc := 34) C 0 rfl dX6_walks_34 ?_
        refine g_bipush (pc := 37) C 9 dX6_walks_37 (by decide) ?_
        refine g_iload_n (pc := 39) C 2 dX6_walks_39 rfl ?_
        refine g_iadd (pc := 40) C dX6_walks_40 ?_
        refine g_aload_n (pc := 41) C 0 dX6_walks_41 rfl ?_
        refine gf_RX6_7 (pc := 42) C 0 rfl dX6_walks_42 ?_
        refine g_bipush (pc := 45) C 9 dX6_walks_45 (by decide) ?_
        refine g_iload_n (pc := 47) C 2 dX6_walks_47 rfl ?_
        refine g_iadd (pc := 48) C dX6_walks_48 ?_
        refine g_iconst (pc := 49) C 1 dX6_walks_49 (by decide) ?_
        refine g_iadd (pc := 50) C dX6_walks_50 ?_
        obtain ⟨g51, hf⟩ := k_guard hf
        refine g_iald (pc := 51) C 1 0 rfl rfl g51 dX6_walks_51 ?_
        obtain ⟨g52, hf⟩ := k_guard hf
        obtain ⟨u52, e52, hf⟩ := Option.bind_eq_some_iff.mp hf
        refine g_iastU (pc := 52) C 1 0 u52 (Option.some.inj e52) (csM cI cS a (u52, m.2.1, m.2.2.1, m.2.2.2.1, m.2.2.2.2.1, m.2.2.2.2.2.1, m.2.2.2.2.2.2.1, m.2.2.2.2.2.2.2.1, m.2.2.2.2.2.2.2.2.1, m.2.2.2.2.2.2.2.2.2.1, m.2.2.2.2.2.2.2.2.2.2.1, m.2.2.2.2.2.2.2.2.2.2.2)) rfl rfl g52 rfl dX6_walks_52 ?_
        refine g_iinc (pc := 53) C 2 (x2 + 1) [(2, .int (x2 + 1)), (0, .ref a.1), (1, .int x1)] dX6_walks_53 rfl (congrArg (HAdd.hAdd _) (by decide)) (by decide) rfl ?_
        refine g_goto (pc := 56) C 27 dX6_walks_56 (by decide) ?_
        refine g_sub [1, 2, 0] (lv' := [(0, .ref a.1), (1, .int x1), (2, .int (x2 + 1))]) rfl ?_
        exact ih (u52, m.2.1, m.2.2.1, m.2.2.2.1, m.2.2.2.2.1, m.2.2.2.2.2.1, m.2.2.2.2.2.2.1, m.2.2.2.2.2.2.2.1, m.2.2.2.2.2.2.2.2.1, m.2.2.2.2.2.2.2.2.2.1, m.2.2.2.2.2.2.2.2.2.2.1, m.2.2.2.2.2.2.2.2.2.2.2) x1 (x2 + 1) hf
  rw [M_walks] at hf
  refine g_aload_n (pc := 0) C 0 dX6_walks_0 rfl ?_
  refine g_iload_n (pc := 1) C 1 dX6_walks_1 rfl ?_
  obtain ⟨v2, h2, hf⟩ := Option.bind_eq_some_iff.mp hf
  refine g_callV' (pc := 2) hla C (c_X6_own l D cI cS a m x1 v2 h2) gg_RX6_39 hd_X6_own (by decide) rfl rfl rfl rfl (Nat.le_of_ble_eq_true rfl) dX6_walks_2 (seM_0 cI cS a m) (seM_0 cI cS a m).symm [.int v2] rfl ?_
  refine g_aload_n (pc := 5) C 0 dX6_walks_5 rfl ?_
  refine gf_RX6_7 (pc := 6) C 0 rfl dX6_walks_6 ?_
  refine g_iconst (pc := 9) C 2 dX6_walks_9 (by decide) ?_
  refine g_iald (pc := 10) C 1 0 rfl rfl (by decide) dX6_walks_10 ?_
  refine g_icmp_eq (pc := 11) C 110 dX6_walks_11 (by decide) (fun (c11 : v2 = (m.1 (ix 2))) => ?_) (fun (c11 : ¬ v2 = (m.1 (ix 2))) => ?_)
  · have hf := k_pos c11 hf
    refine g_iload_n (pc := 110) C 1 dX6_walks_110 rfl ?_
    have e := Option.some.inj hf; subst e
    exact g_ri (pc := 111) C rfl (flM cI cS a m) dX6_walks_111
  · have hf := k_neg c11 hf
    refine g_aload_n (pc := 14) C 0 dX6_walks_14 rfl ?_
    refine gf_RX6_7 (pc := 15) C 0 rfl dX6_walks_15 ?_
    refine g_iconst (pc := 18) C 3 dX6_walks_18 (by decide) ?_
    refine g_iald (pc := 19) C 1 0 rfl rfl (by decide) dX6_walks_19 ?_
    refine g_bipush (pc := 20) C 8 dX6_walks_20 (by decide) ?_
    refine g_icmp_ne (pc := 22) C 69 dX6_walks_22 (by decide) (fun (c22 : ¬ (m.1 (ix 3)) = 8) => ?_) (fun (c22 : (m.1 (ix 3)) = 8) => ?_)
    · have hf := k_neg c22 hf
      exact J69 m x1 hf
    · have hf := k_pos c22 hf
      refine g_iconst (pc := 25) C 0 dX6_walks_25 (by decide) ?_
      refine g_istore_n (pc := 26) C [(2, .int 0), (0, .ref a.1), (1, .int x1)] dX6_walks_26 (by decide) rfl ?_
      refine g_sub [1, 2, 0] (lv' := [(0, .ref a.1), (1, .int x1), (2, .int 0)]) rfl ?_
      exact L27 1000 m x1 0 hf
set_option maxHeartbeats 4000000 in
set_option maxRecDepth 100000 in
theorem c_X6_down (l : Launch) (D : va_G) (cI cS : ClassId) (a : aM) (m : MD) (x1 : Int32) (out : Int32 × MD) (hf : M_down m x1 = some out) : kM l D (kTy cI cS) yX6_down ct_X6_down rm_X6_down [.ref a.1, .int x1] [wM cI cS a m] (kEq (some (.int out.1)) [wM cI cS a out.2]) := by
  refine k_methodE cX6_down 3 (some .int) RX6 rfl [(0, .ref a.1), (1, .int x1)] rfl (by decide +kernel) (Nat.le_of_ble_eq_true rfl) (fun κ A hla C => ?_)
  refine g_chunks (flM cI cS a m).symm ?_
  rw [M_down] at hf
  refine g_aload_n (pc := 0) C 0 dX6_down_0 rfl ?_
  obtain ⟨v1, h1, hf⟩ := Option.bind_eq_some_iff.mp hf
  refine g_callV' (pc := 1) hla C (c_X6_begins l D cI cS a m v1 h1) gg_RX6_55 hd_X6_begins (by decide) rfl rfl rfl rfl (Nat.le_of_ble_eq_true rfl) dX6_down_1 (seM_0 cI cS a m) (seM_0 cI cS a v1).symm [] rfl ?_
  refine g_iload_n (pc := 4) C 1 dX6_down_4 rfl ?_
  refine g_if_ge (pc := 5) C 10 dX6_down_5 (by decide) (fun (c5 : 0 ≤ x1) => ?_) (fun (c5 : ¬ 0 ≤ x1) => ?_)
  · have hf := k_pos c5 hf
    refine g_aload_n (pc := 10) C 0 dX6_down_10 rfl ?_
    obtain ⟨v11, h11, hf⟩ := Option.bind_eq_some_iff.mp hf
    refine g_callV' (pc := 11) hla C (c_X6_place l D cI cS a v1 v11 h11) gg_RX6_58 hd_X6_place (by decide) rfl rfl rfl rfl (Nat.le_of_ble_eq_true rfl) dX6_down_11 (seM_0 cI cS a v1) (seM_0 cI cS a v1).symm [.int v11] rfl ?_
    refine g_istore_n (pc := 14) C [(2, .int v11), (0, .ref a.1), (1, .int x1)] dX6_down_14 (by decide) rfl ?_
    refine g_iload_n (pc := 15) C 2 dX6_down_15 rfl ?_
    refine g_aload_n (pc := 16) C 1 dX6_down_16 rfl ?_
    refine g_iload_n (pc := 17) C 0 dX6_down_17 rfl ?_
    obtain ⟨v18, h18, hf⟩ := Option.bind_eq_some_iff.mp hf
    refine g_callV' (pc := 18) hla C (c_X6_children l D cI cS a v1 v11 v18 h18) gg_RX6_62 hd_X6_children (by decide) rfl rfl rfl rfl (Nat.le_of_ble_eq_true rfl) dX6_down_18 (seM_0 cI cS a v1) (seM_0 cI cS a v1).symm [.int v18, .int x1] rfl ?_
    refine g_icmp_lt (pc := 21) C 29 dX6_down_21 (by decide) (fun (c21 : x1 < v18) => ?_) (fun (c21 : ¬ x1 < v18) => ?_)
    · have hf := k_pos c21 hf
      refine g_aload_n (pc := 29) C 1 dX6_down_29 rfl ?_
      refine g_aload_n (pc := 30) C 1 dX6_down_30 rfl ?_
      refine g_aload_n (pc := 31) C 1 dX6_down_31 rfl ?_
      refine g_iload_n (pc := 32) C 0 dX6_down_32 rfl ?_
      refine g_iload_n (pc := 33) C 2 dX6_down_33 rfl ?_
      obtain ⟨v34, h34, hf⟩ := Option.bind_eq_some_iff.mp hf
      refine g_callV' (pc := 34) hla C (c_X6_childOf l D cI cS a v1 v11 x1 v34 h34) gg_RX6_65 hd_X6_childOf (by decide) rfl rfl rfl rfl (Nat.le_of_ble_eq_true rfl) dX6_down_34 (seM_0 cI cS a v1) (seM_0 cI cS a v1).symm [.int v34, .ref a.1, .ref a.1] rfl ?_
      obtain ⟨v37, h37, hf⟩ := Option.bind_eq_some_iff.mp hf
      refine g_callV' (pc := 37) hla C (c_X6_walks l D cI cS a v1 v34 v37 h37) gg_RX6_69 hd_X6_walks (by decide) rfl rfl rfl rfl (Nat.le_of_ble_eq_true rfl) dX6_down_37 (seM_0 cI cS a v1) (seM_0 cI cS a v37.2).symm [.int v37.1, .ref a.1] rfl ?_
      obtain ⟨v40, h40, hf⟩ := Option.bind_eq_some_iff.mp hf
      refine g_callV' (pc := 40) hla C (c_X6_acted l D cI cS a v37.2 v37.1 v40 h40) gg_RX6_72 hd_X6_acted (by decide) rfl rfl rfl rfl (Nat.le_of_ble_eq_true rfl) dX6_down_40 (seM_0 cI cS a v37.2) (seM_0 cI cS a v40.2).symm [.int v40.1] rfl ?_
      have e := Option.some.inj hf; subst e
      exact g_ri (pc := 43) C rfl (flM cI cS a v40.2) dX6_down_43
    · have hf := k_neg c21 hf
      refine g_bipush (pc := 24) C (-2) dX6_down_24 (by decide) ?_
      refine g_goto (pc := 26) C 43 dX6_down_26 (by decide) ?_
      have e := Option.some.inj hf; subst e
      exact g_ri (pc := 43) C rfl (flM cI cS a v1) dX6_down_43
  · have hf := k_neg c5 hf
    refine g_iconst (pc := 8) C (-1) dX6_down_8 (by decide) ?_
    have e := Option.some.inj hf; subst e
    exact g_ri (pc := 9) C rfl (flM cI cS a v1) dX6_down_9
set_option maxHeartbeats 4000000 in
set_option maxRecDepth 100000 in
theorem c_X6_up (l : Launch) (D : va_G) (cI cS : ClassId) (a : aM) (m : MD) (out : Int32 × MD) (hf : M_up m = some out) : kM l D (kTy cI cS) yX6_up ct_X6_up rm_X6_up [.ref a.1] [wM cI cS a m] (kEq (some (.int out.1)) [wM cI cS a out.2]) := by
  refine k_methodE cX6_up 2 (some .int) RX6 rfl [(0, .ref a.1)] rfl (by decide +kernel) (Nat.le_of_ble_eq_true rfl) (fun κ A hla C => ?_)
  refine g_chunks (flM cI cS a m).symm ?_
  rw [M_up] at hf
  refine g_aload_n (pc := 0) C 0 dX6_up_0 rfl ?_
  obtain ⟨v1, h1, hf⟩ := Option.bind_eq_some_iff.mp hf
  refine g_callV' (pc := 1) hla C (c_X6_begins l D cI cS a m v1 h1) gg_RX6_55 hd_X6_begins (by decide) rfl rfl rfl rfl (Nat.le_of_ble_eq_true rfl) dX6_up_1 (seM_0 cI cS a m) (seM_0 cI cS a v1).symm [] rfl ?_
  refine g_aload_n (pc := 4) C 0 dX6_up_4 rfl ?_
  refine g_aload_n (pc := 5) C 0 dX6_up_5 rfl ?_
  obtain ⟨v6, h6, hf⟩ := Option.bind_eq_some_iff.mp hf
  refine g_callV' (pc := 6) hla C (c_X6_place l D cI cS a v1 v6 h6) gg_RX6_58 hd_X6_place (by decide) rfl rfl rfl rfl (Nat.le_of_ble_eq_true rfl) dX6_up_6 (seM_0 cI cS a v1) (seM_0 cI cS a v1).symm [.int v6, .ref a.1] rfl ?_
  obtain ⟨v9, h9, hf⟩ := Option.bind_eq_some_iff.mp hf
  refine g_callV' (pc := 9) hla C (c_X6_above l D cI cS a v1 v6 v9 h9) gg_RX6_52 hd_X6_above (by decide) rfl rfl rfl rfl (Nat.le_of_ble_eq_true rfl) dX6_up_9 (seM_0 cI cS a v1) (seM_0 cI cS a v1).symm [.int v9] rfl ?_
  refine g_istore_n (pc := 12) C [(1, .int v9), (0, .ref a.1)] dX6_up_12 (by decide) rfl ?_
  refine g_iload_n (pc := 13) C 0 dX6_up_13 rfl ?_
  refine g_if_ge (pc := 14) C 22 dX6_up_14 (by decide) (fun (c14 : 0 ≤ v9) => ?_) (fun (c14 : ¬ 0 ≤ v9) => ?_)
  · have hf := k_pos c14 hf
    refine g_aload_n (pc := 22) C 1 dX6_up_22 rfl ?_
    refine g_aload_n (pc := 23) C 1 dX6_up_23 rfl ?_
    refine g_iload_n (pc := 24) C 0 dX6_up_24 rfl ?_
    obtain ⟨v25, h25, hf⟩ := Option.bind_eq_some_iff.mp hf
    refine g_callV' (pc := 25) hla C (c_X6_walks l D cI cS a v1 v9 v25 h25) gg_RX6_69 hd_X6_walks (by decide) rfl rfl rfl rfl (Nat.le_of_ble_eq_true rfl) dX6_up_25 (seM_0 cI cS a v1) (seM_0 cI cS a v25.2).symm [.int v25.1, .ref a.1] rfl ?_
    obtain ⟨v28, h28, hf⟩ := Option.bind_eq_some_iff.mp hf
    refine g_callV' (pc := 28) hla C (c_X6_acted l D cI cS a v25.2 v25.1 v28 h28) gg_RX6_72 hd_X6_acted (by decide) rfl rfl rfl rfl (Nat.le_of_ble_eq_true rfl) dX6_up_28 (seM_0 cI cS a v25.2) (seM_0 cI cS a v28.2).symm [.int v28.1] rfl ?_
    have e := Option.some.inj hf; subst e
    exact g_ri (pc := 31) C rfl (flM cI cS a v28.2) dX6_up_31
  · have hf := k_neg c14 hf
    refine g_bipush (pc := 17) C (-2) dX6_up_17 (by decide) ?_
    refine g_goto (pc := 19) C 31 dX6_up_19 (by decide) ?_
    have e := Option.some.inj hf; subst e
    exact g_ri (pc := 31) C rfl (flM cI cS a v1) dX6_up_31
set_option maxHeartbeats 4000000 in
set_option maxRecDepth 100000 in
theorem c_X6_side (l : Launch) (D : va_G) (cI cS : ClassId) (a : aM) (m : MD) (x1 : Int32) (out : Int32 × MD) (hf : M_side m x1 = some out) : kM l D (kTy cI cS) yX6_side ct_X6_side rm_X6_side [.ref a.1, .int x1] [wM cI cS a m] (kEq (some (.int out.1)) [wM cI cS a out.2]) := by
  refine k_methodE cX6_side 3 (some .int) RX6 rfl [(0, .ref a.1), (1, .int x1)] rfl (by decide +kernel) (Nat.le_of_ble_eq_true rfl) (fun κ A hla C => ?_)
  refine g_chunks (flM cI cS a m).symm ?_
  have J30 : ∀ (m : MD) (s1 : Int32) (s2 : Int32), M_side_J30 m s1 s2 = some out → kG κ D A 3 0 0 (kF κ D A (some (.int out.1)) [wM cI cS a out.2]) (csM cI cS a m) [(0, .ref a.1)] 30 [.int s2, .int s1, .ref a.1] := by
    intro m s1 s2 hf; rw [M_side_J30] at hf
    obtain ⟨v30, h30, hf⟩ := Option.bind_eq_some_iff.mp hf
    refine g_callV' (pc := 30) hla C (c_X6_besides l D cI cS a m s1 s2 v30 h30) gg_RX6_75 hd_X6_besides (by decide) rfl rfl rfl rfl (Nat.le_of_ble_eq_true rfl) dX6_side_30 (seM_0 cI cS a m) (seM_0 cI cS a m).symm [.int v30] rfl ?_
    refine g_istore_n (pc := 33) C [(2, .int v30), (0, .ref a.1)] dX6_side_33 (by decide) rfl ?_
    refine g_iload_n (pc := 34) C 0 dX6_side_34 rfl ?_
    refine g_if_ge (pc := 35) C 43 dX6_side_35 (by decide) (fun (c35 : 0 ≤ v30) => ?_) (fun (c35 : ¬ 0 ≤ v30) => ?_)
    · have hf := k_pos c35 hf
      refine g_aload_n (pc := 43) C 1 dX6_side_43 rfl ?_
      refine g_aload_n (pc := 44) C 1 dX6_side_44 rfl ?_
      refine g_iload_n (pc := 45) C 0 dX6_side_45 rfl ?_
      obtain ⟨v46, h46, hf⟩ := Option.bind_eq_some_iff.mp hf
      refine g_callV' (pc := 46) hla C (c_X6_walks l D cI cS a m v30 v46 h46) gg_RX6_69 hd_X6_walks (by decide) rfl rfl rfl rfl (Nat.le_of_ble_eq_true rfl) dX6_side_46 (seM_0 cI cS a m) (seM_0 cI cS a v46.2).symm [.int v46.1, .ref a.1] rfl ?_
      obtain ⟨v49, h49, hf⟩ := Option.bind_eq_some_iff.mp hf
      refine g_callV' (pc := 49) hla C (c_X6_acted l D cI cS a v46.2 v46.1 v49 h49) gg_RX6_72 hd_X6_acted (by decide) rfl rfl rfl rfl (Nat.le_of_ble_eq_true rfl) dX6_side_49 (seM_0 cI cS a v46.2) (seM_0 cI cS a v49.2).symm [.int v49.1] rfl ?_
      have e := Option.some.inj hf; subst e
      exact g_ri (pc := 52) C rfl (flM cI cS a v49.2) dX6_side_52
    · have hf := k_neg c35 hf
      refine g_bipush (pc := 38) C (-2) dX6_side_38 (by decide) ?_
      refine g_goto (pc := 40) C 52 dX6_side_40 (by decide) ?_
      have e := Option.some.inj hf; subst e
      exact g_ri (pc := 52) C rfl (flM cI cS a m) dX6_side_52
  rw [M_side] at hf
  refine g_aload_n (pc := 0) C 0 dX6_side_0 rfl ?_
  obtain ⟨v1, h1, hf⟩ := Option.bind_eq_some_iff.mp hf
  refine g_callV' (pc := 1) hla C (c_X6_begins l D cI cS a m v1 h1) gg_RX6_55 hd_X6_begins (by decide) rfl rfl rfl rfl (Nat.le_of_ble_eq_true rfl) dX6_side_1 (seM_0 cI cS a m) (seM_0 cI cS a v1).symm [] rfl ?_
  refine g_iload_n (pc := 4) C 1 dX6_side_4 rfl ?_
  refine g_iconst (pc := 5) C 0 dX6_side_5 (by decide) ?_
  refine g_iconst (pc := 6) C 1 dX6_side_6 (by decide) ?_
  obtain ⟨v7, h7, hf⟩ := Option.bind_eq_some_iff.mp hf
  refine g_callS' (pc := 7) hla C (c_X6_in l D cI cS x1 0 1 v7 h7) tb_X6_in m_744 m_X6_in_static m_ini_RX6 hd_X6_in (by decide) rfl rfl (Nat.le_of_ble_eq_true rfl) dX6_side_7 (seM_nil cI cS a v1) (seM_nil cI cS a v1).symm [.int v7] rfl ?_
  refine g_if_ne (pc := 10) C 15 dX6_side_10 (by decide) (fun (c10 : ¬ v7 = 0) => ?_) (fun (c10 : v7 = 0) => ?_)
  · have hf := k_neg c10 hf
    refine g_aload_n (pc := 15) C 0 dX6_side_15 rfl ?_
    refine g_aload_n (pc := 16) C 0 dX6_side_16 rfl ?_
    obtain ⟨v17, h17, hf⟩ := Option.bind_eq_some_iff.mp hf
    refine g_callV' (pc := 17) hla C (c_X6_place l D cI cS a v1 v17 h17) gg_RX6_58 hd_X6_place (by decide) rfl rfl rfl rfl (Nat.le_of_ble_eq_true rfl) dX6_side_17 (seM_0 cI cS a v1) (seM_0 cI cS a v1).symm [.int v17, .ref a.1] rfl ?_
    refine g_iload_n (pc := 20) C 1 dX6_side_20 rfl ?_
    refine g_iconst (pc := 21) C 1 dX6_side_21 (by decide) ?_
    refine g_icmp_ne (pc := 22) C 29 dX6_side_22 (by decide) (fun (c22 : ¬ x1 = 1) => ?_) (fun (c22 : x1 = 1) => ?_)
    · have hf := k_neg c22 hf
      refine g_iconst (pc := 29) C 0 dX6_side_29 (by decide) ?_
      refine g_sub [0] (lv' := [(0, .ref a.1)]) rfl ?_
      exact J30 v1 v17 0 hf
    · have hf := k_pos c22 hf
      refine g_iconst (pc := 25) C 1 dX6_side_25 (by decide) ?_
      refine g_goto (pc := 26) C 30 dX6_side_26 (by decide) ?_
      refine g_sub [0] (lv' := [(0, .ref a.1)]) rfl ?_
      exact J30 v1 v17 1 hf
  · have hf := k_pos c10 hf
    refine g_iconst (pc := 13) C (-1) dX6_side_13 (by decide) ?_
    have e := Option.some.inj hf; subst e
    exact g_ri (pc := 14) C rfl (flM cI cS a v1) dX6_side_14
