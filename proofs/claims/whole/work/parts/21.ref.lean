set_option maxHeartbeats 4000000 in
set_option maxRecDepth 100000 in
theorem c_X6_children (l : Launch) (D : va_G) (cI cS : ClassId) (a : aM) (m : MD) (x1 : Int32) (out : Int32) (hf : M_children m x1 = some out) : kM l D (kTy cI cS) yX6_children ct_X6_children rm_X6_children [.ref a.1, .int x1] [wM cI cS a m] (kEq (some (.int out)) [wM cI cS a m]) := by
  refine k_methodE cX6_children 4 (some .int) RX6 rfl [(0, .ref a.1), (1, .int x1)] rfl (by decide +kernel) (Nat.le_of_ble_eq_true rfl) (fun κ A hla C => ?_)
  refine g_chunks (flM cI cS a m).symm ?_
  have L6 : ∀ (fu : Nat) (m : MD) (x1 : Int32) (x2 : Int32) (x3 : Int32), M_children_L6 fu m x1 x2 x3 = some out → kG κ D A 4 0 0 (kF κ D A (some (.int out)) [wM cI cS a m]) (csM cI cS a m) [(0, .ref a.1), (1, .int x1), (2, .int x2), (3, .int x3)] 6 [] := by
    intro fu; induction fu with
    | zero => intro m x1 x2 x3 hf; rw [M_children_L6] at hf; cases hf
    | succ fu ih =>
      intro m x1 x2 x3 hf; rw [M_children_L6] at hf
      refine g_iload_n (pc := 6) C 3 dX6_children_6 rfl ?_
      refine g_aload_n (pc := 7) C 0 dX6_children_7 rfl ?_
      refine g_iload_n (pc := 8) C 1 dX6_children_8 rfl ?_
      obtain ⟨v9, h9, hf⟩ := Option.bind_eq_some_iff.mp hf
      refine g_callV' (pc := 9) hla C (c_X6_end l D cI cS a m x1 v9 h9) gg_RX6_49 hd_X6_end (by decide) rfl rfl rfl rfl (Nat.le_of_ble_eq_true rfl) dX6_children_9 (seM_0 cI cS a m) (seM_0 cI cS a m).symm [.int v9, .int x3] rfl ?_
      refine g_icmp_ge (pc := 12) C 44 dX6_children_12 (by decide) (fun (c12 : v9 ≤ x3) => ?_) (fun (c12 : ¬ v9 ≤ x3) => ?_)
      · have hf := k_pos c12 hf
        refine g_iload_n (pc := 44) C 2 dX6_children_44 rfl ?_
        have e := Option.some.inj hf; subst e
        exact g_ri (pc := 45) C rfl (flM cI cS a m) dX6_children_45
      · have hf := k_neg c12 hf
        refine g_iload_n (pc := 15) C 2 dX6_children_15 rfl ?_
        refine g_aload_n (pc := 16) C 0 dX6_children_16 rfl ?_
        refine g_iload_n (pc := 17) C 3 dX6_children_17 rfl ?_
        obtain ⟨v18, h18, hf⟩ := Option.bind_eq_some_iff.mp hf
        refine g_callV' (pc := 18) hla C (c_X6_deep l D cI cS a m x3 v18 h18) gg_RX6_46 hd_X6_deep (by decide) rfl rfl rfl rfl (Nat.le_of_ble_eq_true rfl) dX6_children_18 (seM_0 cI cS a m) (seM_0 cI cS a m).symm [.int v18, .int x2] rfl ?_
        refine g_aload_n (pc := 21) C 0 dX6_children_21 rfl ?_
        refine g_iload_n (pc := 22) C 1 dX6_children_22 rfl ?_
        obtain ⟨v23, h23, hf⟩ := Option.bind_eq_some_iff.mp hf
        refine g_callV' (pc := 23) hla C (c_X6_deep l D cI cS a m x1 v23 h23) gg_RX6_46 hd_X6_deep (by decide) rfl rfl rfl rfl (Nat.le_of_ble_eq_true rfl) dX6_children_23 (seM_0 cI cS a m) (seM_0 cI cS a m).symm [.int v23, .int v18, .int x2] rfl ?_
        refine g_iconst (pc := 26) C 1 dX6_children_26 (by decide) ?_
        refine g_iadd (pc := 27) C dX6_children_27 ?_
        refine g_icmp_ne (pc := 28) C 35 dX6_children_28 (by decide) (fun (c28 : ¬ v18 = (v23 + 1)) => ?_) (fun (c28 : v18 = (v23 + 1)) => ?_)
        · have hf := k_neg c28 hf
          refine g_iconst (pc := 35) C 0 dX6_children_35 (by decide) ?_
          refine g_iadd (pc := 36) C dX6_children_36 ?_
          refine g_istore_n (pc := 37) C [(2, .int (x2 + 0)), (0, .ref a.1), (1, .int x1), (3, .int x3)] dX6_children_37 (by decide) rfl ?_
          refine g_iinc (pc := 38) C 3 (x3 + 1) [(3, .int (x3 + 1)), (2, .int (x2 + 0)), (0, .ref a.1), (1, .int x1)] dX6_children_38 rfl (congrArg (HAdd.hAdd _) (by decide)) (by decide) rfl ?_
          refine g_goto (pc := 41) C 6 dX6_children_41 (by decide) ?_
          refine g_sub [2, 3, 1, 0] (lv' := [(0, .ref a.1), (1, .int x1), (2, .int (x2 + 0)), (3, .int (x3 + 1))]) rfl ?_
          exact ih m x1 (x2 + 0) (x3 + 1) hf
        · have hf := k_pos c28 hf
          refine g_iconst (pc := 31) C 1 dX6_children_31 (by decide) ?_
          refine g_goto (pc := 32) C 36 dX6_children_32 (by decide) ?_
          refine g_iadd (pc := 36) C dX6_children_36 ?_
          refine g_istore_n (pc := 37) C [(2, .int (x2 + 1)), (0, .ref a.1), (1, .int x1), (3, .int x3)] dX6_children_37 (by decide) rfl ?_
          refine g_iinc (pc := 38) C 3 (x3 + 1) [(3, .int (x3 + 1)), (2, .int (x2 + 1)), (0, .ref a.1), (1, .int x1)] dX6_children_38 rfl (congrArg (HAdd.hAdd _) (by decide)) (by decide) rfl ?_
          refine g_goto (pc := 41) C 6 dX6_children_41 (by decide) ?_
          refine g_sub [2, 3, 1, 0] (lv' := [(0, .ref a.1), (1, .int x1), (2, .int (x2 + 1)), (3, .int (x3 + 1))]) rfl ?_
          exact ih m x1 (x2 + 1) (x3 + 1) hf
  rw [M_children] at hf
  refine g_iconst (pc := 0) C 0 dX6_children_0 (by decide) ?_
  refine g_istore_n (pc := 1) C [(2, .int 0), (0, .ref a.1), (1, .int x1)] dX6_children_1 (by decide) rfl ?_
  refine g_iload_n (pc := 2) C 2 dX6_children_2 rfl ?_
  refine g_iconst (pc := 3) C 1 dX6_children_3 (by decide) ?_
  refine g_iadd (pc := 4) C dX6_children_4 ?_
  refine g_istore_n (pc := 5) C [(3, .int (x1 + 1)), (2, .int 0), (0, .ref a.1), (1, .int x1)] dX6_children_5 (by decide) rfl ?_
  refine g_sub [2, 3, 1, 0] (lv' := [(0, .ref a.1), (1, .int x1), (2, .int 0), (3, .int (x1 + 1))]) rfl ?_
  exact L6 1000 m x1 0 (x1 + 1) hf
set_option maxHeartbeats 4000000 in
set_option maxRecDepth 100000 in
theorem c_X6_childOf (l : Launch) (D : va_G) (cI cS : ClassId) (a : aM) (m : MD) (x1 : Int32) (x2 : Int32) (out : Int32) (hf : M_childOf m x1 x2 = some out) : kM l D (kTy cI cS) yX6_childOf ct_X6_childOf rm_X6_childOf [.ref a.1, .int x1, .int x2] [wM cI cS a m] (kEq (some (.int out)) [wM cI cS a m]) := by
  refine k_methodE cX6_childOf 5 (some .int) RX6 rfl [(0, .ref a.1), (1, .int x1), (2, .int x2)] rfl (by decide +kernel) (Nat.le_of_ble_eq_true rfl) (fun κ A hla C => ?_)
  refine g_chunks (flM cI cS a m).symm ?_
  have L7 : ∀ (fu : Nat) (m : MD) (x2 : Int32) (x3 : Int32) (x4 : Int32), M_childOf_L7 fu m x2 x3 x4 = some out → kG κ D A 5 0 0 (kF κ D A (some (.int out)) [wM cI cS a m]) (csM cI cS a m) [(0, .ref a.1), (2, .int x2), (3, .int x3), (4, .int x4)] 7 [] := by
    intro fu; induction fu with
    | zero => intro m x2 x3 x4 hf; rw [M_childOf_L7] at hf; cases hf
    | succ fu ih =>
      intro m x2 x3 x4 hf; rw [M_childOf_L7] at hf
      refine g_iload (pc := 7) C 3 dX6_childOf_7 rfl ?_
      refine g_iload_n (pc := 9) C 1 dX6_childOf_9 rfl ?_
      refine g_icmp_ge (pc := 10) C 25 dX6_childOf_10 (by decide) (fun (c10 : x2 ≤ x4) => ?_) (fun (c10 : ¬ x2 ≤ x4) => ?_)
      · have hf := k_pos c10 hf
        refine g_iload_n (pc := 25) C 2 dX6_childOf_25 rfl ?_
        have e := Option.some.inj hf; subst e
        exact g_ri (pc := 26) C rfl (flM cI cS a m) dX6_childOf_26
      · have hf := k_neg c10 hf
        refine g_aload_n (pc := 13) C 0 dX6_childOf_13 rfl ?_
        refine g_iload_n (pc := 14) C 2 dX6_childOf_14 rfl ?_
        obtain ⟨v15, h15, hf⟩ := Option.bind_eq_some_iff.mp hf
        refine g_callV' (pc := 15) hla C (c_X6_end l D cI cS a m x3 v15 h15) gg_RX6_49 hd_X6_end (by decide) rfl rfl rfl rfl (Nat.le_of_ble_eq_true rfl) dX6_childOf_15 (seM_0 cI cS a m) (seM_0 cI cS a m).symm [.int v15] rfl ?_
        refine g_istore_n (pc := 18) C [(3, .int v15), (0, .ref a.1), (2, .int x2), (4, .int x4)] dX6_childOf_18 (by decide) rfl ?_
        refine g_iinc (pc := 19) C 3 (x4 + 1) [(4, .int (x4 + 1)), (3, .int v15), (0, .ref a.1), (2, .int x2)] dX6_childOf_19 rfl (congrArg (HAdd.hAdd _) (by decide)) (by decide) rfl ?_
        refine g_goto (pc := 22) C 7 dX6_childOf_22 (by decide) ?_
        refine g_sub [2, 3, 1, 0] (lv' := [(0, .ref a.1), (2, .int x2), (3, .int v15), (4, .int (x4 + 1))]) rfl ?_
        exact ih m x2 v15 (x4 + 1) hf
  rw [M_childOf] at hf
  refine g_iload_n (pc := 0) C 1 dX6_childOf_0 rfl ?_
  refine g_iconst (pc := 1) C 1 dX6_childOf_1 (by decide) ?_
  refine g_iadd (pc := 2) C dX6_childOf_2 ?_
  refine g_istore_n (pc := 3) C [(3, .int (x1 + 1)), (0, .ref a.1), (1, .int x1), (2, .int x2)] dX6_childOf_3 (by decide) rfl ?_
  refine g_iconst (pc := 4) C 0 dX6_childOf_4 (by decide) ?_
  refine g_istore (pc := 5) C [(4, .int 0), (3, .int (x1 + 1)), (0, .ref a.1), (1, .int x1), (2, .int x2)] dX6_childOf_5 (by decide) rfl ?_
  refine g_sub [2, 4, 1, 0] (lv' := [(0, .ref a.1), (2, .int x2), (3, .int (x1 + 1)), (4, .int 0)]) rfl ?_
  exact L7 1000 m x2 (x1 + 1) 0 hf
set_option maxHeartbeats 4000000 in
set_option maxRecDepth 100000 in
theorem c_X6_which (l : Launch) (D : va_G) (cI cS : ClassId) (a : aM) (m : MD) (x1 : Int32) (out : Int32) (hf : M_which m x1 = some out) : kM l D (kTy cI cS) yX6_which ct_X6_which rm_X6_which [.ref a.1, .int x1] [wM cI cS a m] (kEq (some (.int out)) [wM cI cS a m]) := by
  refine k_methodE cX6_which 4 (some .int) RX6 rfl [(0, .ref a.1), (1, .int x1)] rfl (by decide +kernel) (Nat.le_of_ble_eq_true rfl) (fun κ A hla C => ?_)
  refine g_chunks (flM cI cS a m).symm ?_
  have L10 : ∀ (fu : Nat) (m : MD) (x1 : Int32) (x2 : Int32) (x3 : Int32), M_which_L10 fu m x1 x2 x3 = some out → kG κ D A 4 0 0 (kF κ D A (some (.int out)) [wM cI cS a m]) (csM cI cS a m) [(0, .ref a.1), (1, .int x1), (2, .int x2), (3, .int x3)] 10 [] := by
    intro fu; induction fu with
    | zero => intro m x1 x2 x3 hf; rw [M_which_L10] at hf; cases hf
    | succ fu ih =>
      intro m x1 x2 x3 hf; rw [M_which_L10] at hf
      refine g_iload_n (pc := 10) C 3 dX6_which_10 rfl ?_
      refine g_iload_n (pc := 11) C 1 dX6_which_11 rfl ?_
      refine g_icmp_ge (pc := 12) C 42 dX6_which_12 (by decide) (fun (c12 : x1 ≤ x3) => ?_) (fun (c12 : ¬ x1 ≤ x3) => ?_)
      · have hf := k_pos c12 hf
        refine g_iload_n (pc := 42) C 2 dX6_which_42 rfl ?_
        have e := Option.some.inj hf; subst e
        exact g_ri (pc := 43) C rfl (flM cI cS a m) dX6_which_43
      · have hf := k_neg c12 hf
        refine g_iload_n (pc := 15) C 2 dX6_which_15 rfl ?_
        refine g_aload_n (pc := 16) C 0 dX6_which_16 rfl ?_
        refine g_iload_n (pc := 17) C 3 dX6_which_17 rfl ?_
        obtain ⟨v18, h18, hf⟩ := Option.bind_eq_some_iff.mp hf
        refine g_callV' (pc := 18) hla C (c_X6_deep l D cI cS a m x3 v18 h18) gg_RX6_46 hd_X6_deep (by decide) rfl rfl rfl rfl (Nat.le_of_ble_eq_true rfl) dX6_which_18 (seM_0 cI cS a m) (seM_0 cI cS a m).symm [.int v18, .int x2] rfl ?_
        refine g_aload_n (pc := 21) C 0 dX6_which_21 rfl ?_
        refine g_iload_n (pc := 22) C 1 dX6_which_22 rfl ?_
        obtain ⟨v23, h23, hf⟩ := Option.bind_eq_some_iff.mp hf
        refine g_callV' (pc := 23) hla C (c_X6_deep l D cI cS a m x1 v23 h23) gg_RX6_46 hd_X6_deep (by decide) rfl rfl rfl rfl (Nat.le_of_ble_eq_true rfl) dX6_which_23 (seM_0 cI cS a m) (seM_0 cI cS a m).symm [.int v23, .int v18, .int x2] rfl ?_
        refine g_icmp_ne (pc := 26) C 33 dX6_which_26 (by decide) (fun (c26 : ¬ v18 = v23) => ?_) (fun (c26 : v18 = v23) => ?_)
        · have hf := k_neg c26 hf
          refine g_iconst (pc := 33) C 0 dX6_which_33 (by decide) ?_
          refine g_iadd (pc := 34) C dX6_which_34 ?_
          refine g_istore_n (pc := 35) C [(2, .int (x2 + 0)), (0, .ref a.1), (1, .int x1), (3, .int x3)] dX6_which_35 (by decide) rfl ?_
          refine g_iinc (pc := 36) C 3 (x3 + 1) [(3, .int (x3 + 1)), (2, .int (x2 + 0)), (0, .ref a.1), (1, .int x1)] dX6_which_36 rfl (congrArg (HAdd.hAdd _) (by decide)) (by decide) rfl ?_
          refine g_goto (pc := 39) C 10 dX6_which_39 (by decide) ?_
          refine g_sub [2, 3, 1, 0] (lv' := [(0, .ref a.1), (1, .int x1), (2, .int (x2 + 0)), (3, .int (x3 + 1))]) rfl ?_
          exact ih m x1 (x2 + 0) (x3 + 1) hf
        · have hf := k_pos c26 hf
          refine g_iconst (pc := 29) C 1 dX6_which_29 (by decide) ?_
          refine g_goto (pc := 30) C 34 dX6_which_30 (by decide) ?_
          refine g_iadd (pc := 34) C dX6_which_34 ?_
          refine g_istore_n (pc := 35) C [(2, .int (x2 + 1)), (0, .ref a.1), (1, .int x1), (3, .int x3)] dX6_which_35 (by decide) rfl ?_
          refine g_iinc (pc := 36) C 3 (x3 + 1) [(3, .int (x3 + 1)), (2, .int (x2 + 1)), (0, .ref a.1), (1, .int x1)] dX6_which_36 rfl (congrArg (HAdd.hAdd _) (by decide)) (by decide) rfl ?_
          refine g_goto (pc := 39) C 10 dX6_which_39 (by decide) ?_
          refine g_sub [2, 3, 1, 0] (lv' := [(0, .ref a.1), (1, .int x1), (2, .int (x2 + 1)), (3, .int (x3 + 1))]) rfl ?_
          exact ih m x1 (x2 + 1) (x3 + 1) hf
  rw [M_which] at hf
  refine g_iconst (pc := 0) C 0 dX6_which_0 (by decide) ?_
  refine g_istore_n (pc := 1) C [(2, .int 0), (0, .ref a.1), (1, .int x1)] dX6_which_1 (by decide) rfl ?_
  refine g_aload_n (pc := 2) C 1 dX6_which_2 rfl ?_
  refine g_iload_n (pc := 3) C 2 dX6_which_3 rfl ?_
  obtain ⟨v4, h4, hf⟩ := Option.bind_eq_some_iff.mp hf
  refine g_callV' (pc := 4) hla C (c_X6_above l D cI cS a m x1 v4 h4) gg_RX6_52 hd_X6_above (by decide) rfl rfl rfl rfl (Nat.le_of_ble_eq_true rfl) dX6_which_4 (seM_0 cI cS a m) (seM_0 cI cS a m).symm [.int v4] rfl ?_
  refine g_iconst (pc := 7) C 1 dX6_which_7 (by decide) ?_
  refine g_iadd (pc := 8) C dX6_which_8 ?_
  refine g_istore_n (pc := 9) C [(3, .int (v4 + 1)), (2, .int 0), (0, .ref a.1), (1, .int x1)] dX6_which_9 (by decide) rfl ?_
  refine g_sub [2, 3, 1, 0] (lv' := [(0, .ref a.1), (1, .int x1), (2, .int 0), (3, .int (v4 + 1))]) rfl ?_
  exact L10 1000 m x1 0 (v4 + 1) hf
set_option maxHeartbeats 4000000 in
set_option maxRecDepth 100000 in
theorem c_X6_besides (l : Launch) (D : va_G) (cI cS : ClassId) (a : aM) (m : MD) (x1 : Int32) (x2 : Int32) (out : Int32) (hf : M_besides m x1 x2 = some out) : kM l D (kTy cI cS) yX6_besides ct_X6_besides rm_X6_besides [.ref a.1, .int x1, .int x2] [wM cI cS a m] (kEq (some (.int out)) [wM cI cS a m]) := by
  refine k_methodE cX6_besides 5 (some .int) RX6 rfl [(0, .ref a.1), (1, .int x1), (2, .int x2)] rfl (by decide +kernel) (Nat.le_of_ble_eq_true rfl) (fun κ A hla C => ?_)
  refine g_chunks (flM cI cS a m).symm ?_
  have L50 : ∀ (fu : Nat) (m : MD) (x1 : Int32) (x3 : Int32) (x4 : Int32), M_besides_L50 fu m x1 x3 x4 = some out → kG κ D A 5 0 0 (kF κ D A (some (.int out)) [wM cI cS a m]) (csM cI cS a m) [(0, .ref a.1), (1, .int x1), (3, .int x3), (4, .int x4)] 50 [] := by
    intro fu; induction fu with
    | zero => intro m x1 x3 x4 hf; rw [M_besides_L50] at hf; cases hf
    | succ fu ih =>
      intro m x1 x3 x4 hf; rw [M_besides_L50] at hf
      refine g_iload (pc := 50) C 3 dX6_besides_50 rfl ?_
      refine g_iload_n (pc := 52) C 1 dX6_besides_52 rfl ?_
      refine g_icmp_ge (pc := 53) C 83 dX6_besides_53 (by decide) (fun (c53 : x1 ≤ x4) => ?_) (fun (c53 : ¬ x1 ≤ x4) => ?_)
      · have hf := k_pos c53 hf
        refine g_iload_n (pc := 83) C 2 dX6_besides_83 rfl ?_
        have e := Option.some.inj hf; subst e
        exact g_ri (pc := 84) C rfl (flM cI cS a m) dX6_besides_84
      · have hf := k_neg c53 hf
        refine g_aload_n (pc := 56) C 0 dX6_besides_56 rfl ?_
        refine g_iload (pc := 57) C 3 dX6_besides_57 rfl ?_
        obtain ⟨v59, h59, hf⟩ := Option.bind_eq_some_iff.mp hf
        refine g_callV' (pc := 59) hla C (c_X6_deep l D cI cS a m x4 v59 h59) gg_RX6_46 hd_X6_deep (by decide) rfl rfl rfl rfl (Nat.le_of_ble_eq_true rfl) dX6_besides_59 (seM_0 cI cS a m) (seM_0 cI cS a m).symm [.int v59] rfl ?_
        refine g_aload_n (pc := 62) C 0 dX6_besides_62 rfl ?_
        refine g_iload_n (pc := 63) C 1 dX6_besides_63 rfl ?_
        obtain ⟨v64, h64, hf⟩ := Option.bind_eq_some_iff.mp hf
        refine g_callV' (pc := 64) hla C (c_X6_deep l D cI cS a m x1 v64 h64) gg_RX6_46 hd_X6_deep (by decide) rfl rfl rfl rfl (Nat.le_of_ble_eq_true rfl) dX6_besides_64 (seM_0 cI cS a m) (seM_0 cI cS a m).symm [.int v64, .int v59] rfl ?_
        refine g_icmp_ne (pc := 67) C 75 dX6_besides_67 (by decide) (fun (c67 : ¬ v59 = v64) => ?_) (fun (c67 : v59 = v64) => ?_)
        · have hf := k_neg c67 hf
          refine g_iload_n (pc := 75) C 2 dX6_besides_75 rfl ?_
          refine g_istore_n (pc := 76) C [(3, .int x3), (0, .ref a.1), (1, .int x1), (4, .int x4)] dX6_besides_76 (by decide) rfl ?_
          refine g_iinc (pc := 77) C 3 (x4 + 1) [(4, .int (x4 + 1)), (3, .int x3), (0, .ref a.1), (1, .int x1)] dX6_besides_77 rfl (congrArg (HAdd.hAdd _) (by decide)) (by decide) rfl ?_
          refine g_goto (pc := 80) C 50 dX6_besides_80 (by decide) ?_
          refine g_sub [2, 3, 1, 0] (lv' := [(0, .ref a.1), (1, .int x1), (3, .int x3), (4, .int (x4 + 1))]) rfl ?_
          exact ih m x1 x3 (x4 + 1) hf
        · have hf := k_pos c67 hf
          refine g_iload (pc := 70) C 3 dX6_besides_70 rfl ?_
          refine g_goto (pc := 72) C 76 dX6_besides_72 (by decide) ?_
          refine g_istore_n (pc := 76) C [(3, .int x4), (0, .ref a.1), (1, .int x1), (4, .int x4)] dX6_besides_76 (by decide) rfl ?_
          refine g_iinc (pc := 77) C 3 (x4 + 1) [(4, .int (x4 + 1)), (3, .int x4), (0, .ref a.1), (1, .int x1)] dX6_besides_77 rfl (congrArg (HAdd.hAdd _) (by decide)) (by decide) rfl ?_
          refine g_goto (pc := 80) C 50 dX6_besides_80 (by decide) ?_
          refine g_sub [2, 3, 1, 0] (lv' := [(0, .ref a.1), (1, .int x1), (3, .int x4), (4, .int (x4 + 1))]) rfl ?_
          exact ih m x1 x4 (x4 + 1) hf
  rw [M_besides] at hf
  refine g_iload_n (pc := 0) C 2 dX6_besides_0 rfl ?_
  refine g_if_eq (pc := 1) C 39 dX6_besides_1 (by decide) (fun (c1 : x2 = 0) => ?_) (fun (c1 : ¬ x2 = 0) => ?_)
  · have hf := k_pos c1 hf
    refine g_iconst (pc := 39) C (-1) dX6_besides_39 (by decide) ?_
    refine g_istore_n (pc := 40) C [(3, .int (-1)), (0, .ref a.1), (1, .int x1), (2, .int x2)] dX6_besides_40 (by decide) rfl ?_
    refine g_aload_n (pc := 41) C 1 dX6_besides_41 rfl ?_
    refine g_iload_n (pc := 42) C 2 dX6_besides_42 rfl ?_
    obtain ⟨v43, h43, hf⟩ := Option.bind_eq_some_iff.mp hf
    refine g_callV' (pc := 43) hla C (c_X6_above l D cI cS a m x1 v43 h43) gg_RX6_52 hd_X6_above (by decide) rfl rfl rfl rfl (Nat.le_of_ble_eq_true rfl) dX6_besides_43 (seM_0 cI cS a m) (seM_0 cI cS a m).symm [.int v43] rfl ?_
    refine g_iconst (pc := 46) C 1 dX6_besides_46 (by decide) ?_
    refine g_iadd (pc := 47) C dX6_besides_47 ?_
    refine g_istore (pc := 48) C [(4, .int (v43 + 1)), (3, .int (-1)), (0, .ref a.1), (1, .int x1), (2, .int x2)] dX6_besides_48 (by decide) rfl ?_
    refine g_sub [2, 3, 1, 0] (lv' := [(0, .ref a.1), (1, .int x1), (3, .int (-1)), (4, .int (v43 + 1))]) rfl ?_
    exact L50 1000 m x1 (-1) (v43 + 1) hf
  · have hf := k_neg c1 hf
    refine g_aload_n (pc := 4) C 0 dX6_besides_4 rfl ?_
    refine g_iload_n (pc := 5) C 1 dX6_besides_5 rfl ?_
    obtain ⟨v6, h6, hf⟩ := Option.bind_eq_some_iff.mp hf
    refine g_callV' (pc := 6) hla C (c_X6_end l D cI cS a m x1 v6 h6) gg_RX6_49 hd_X6_end (by decide) rfl rfl rfl rfl (Nat.le_of_ble_eq_true rfl) dX6_besides_6 (seM_0 cI cS a m) (seM_0 cI cS a m).symm [.int v6] rfl ?_
    refine g_istore_n (pc := 9) C [(3, .int v6), (0, .ref a.1), (1, .int x1), (2, .int x2)] dX6_besides_9 (by decide) rfl ?_
    refine g_iload_n (pc := 10) C 0 dX6_besides_10 rfl ?_
    refine g_aload_n (pc := 11) C 1 dX6_besides_11 rfl ?_
    refine gf_RX6_7 (pc := 12) C 0 rfl dX6_besides_12 ?_
    refine g_iconst (pc := 15) C 0 dX6_besides_15 (by decide) ?_
    refine g_iald (pc := 16) C 1 0 rfl rfl (by decide) dX6_besides_16 ?_
    refine g_icmp_ge (pc := 17) C 37 dX6_besides_17 (by decide) (fun (c17 : (m.1 (ix 0)) ≤ v6) => ?_) (fun (c17 : ¬ (m.1 (ix 0)) ≤ v6) => ?_)
    · have hf := k_pos c17 hf
      refine g_iconst (pc := 37) C (-1) dX6_besides_37 (by decide) ?_
      have e := Option.some.inj hf; subst e
      exact g_ri (pc := 38) C rfl (flM cI cS a m) dX6_besides_38
    · have hf := k_neg c17 hf
      refine g_aload_n (pc := 20) C 1 dX6_besides_20 rfl ?_
      refine g_iload_n (pc := 21) C 0 dX6_besides_21 rfl ?_
      obtain ⟨v22, h22, hf⟩ := Option.bind_eq_some_iff.mp hf
      refine g_callV' (pc := 22) hla C (c_X6_deep l D cI cS a m v6 v22 h22) gg_RX6_46 hd_X6_deep (by decide) rfl rfl rfl rfl (Nat.le_of_ble_eq_true rfl) dX6_besides_22 (seM_0 cI cS a m) (seM_0 cI cS a m).symm [.int v22] rfl ?_
      refine g_aload_n (pc := 25) C 1 dX6_besides_25 rfl ?_
      refine g_iload_n (pc := 26) C 2 dX6_besides_26 rfl ?_
      obtain ⟨v27, h27, hf⟩ := Option.bind_eq_some_iff.mp hf
      refine g_callV' (pc := 27) hla C (c_X6_deep l D cI cS a m x1 v27 h27) gg_RX6_46 hd_X6_deep (by decide) rfl rfl rfl rfl (Nat.le_of_ble_eq_true rfl) dX6_besides_27 (seM_0 cI cS a m) (seM_0 cI cS a m).symm [.int v27, .int v22] rfl ?_
      refine g_icmp_ne (pc := 30) C 37 dX6_besides_30 (by decide) (fun (c30 : ¬ v22 = v27) => ?_) (fun (c30 : v22 = v27) => ?_)
      · have hf := k_neg c30 hf
        refine g_iconst (pc := 37) C (-1) dX6_besides_37 (by decide) ?_
        have e := Option.some.inj hf; subst e
        exact g_ri (pc := 38) C rfl (flM cI cS a m) dX6_besides_38
      · have hf := k_pos c30 hf
        refine g_iload_n (pc := 33) C 0 dX6_besides_33 rfl ?_
        refine g_goto (pc := 34) C 38 dX6_besides_34 (by decide) ?_
        have e := Option.some.inj hf; subst e
        exact g_ri (pc := 38) C rfl (flM cI cS a m) dX6_besides_38
set_option maxHeartbeats 4000000 in
set_option maxRecDepth 100000 in
theorem c_X6_height (l : Launch) (D : va_G) (cI cS : ClassId) (a : aM) (m : MD) (x1 : Int32) (out : Int32) (hf : M_height m x1 = some out) : kM l D (kTy cI cS) yX6_height ct_X6_height rm_X6_height [.ref a.1, .int x1] [wM cI cS a m] (kEq (some (.int out)) [wM cI cS a m]) := by
  refine k_methodE cX6_height 4 (some .int) RX6 rfl [(0, .ref a.1), (1, .int x1)] rfl (by decide +kernel) (Nat.le_of_ble_eq_true rfl) (fun κ A hla C => ?_)
  refine g_chunks (flM cI cS a m).symm ?_
  have L4 : ∀ (fu : Nat) (m : MD) (x1 : Int32) (x2 : Int32) (x3 : Int32), M_height_L4 fu m x1 x2 x3 = some out → kG κ D A 4 0 0 (kF κ D A (some (.int out)) [wM cI cS a m]) (csM cI cS a m) [(0, .ref a.1), (1, .int x1), (2, .int x2), (3, .int x3)] 4 [] := by
    intro fu; induction fu with
    | zero => intro m x1 x2 x3 hf; rw [M_height_L4] at hf; cases hf
    | succ fu ih =>
      intro m x1 x2 x3 hf; rw [M_height_L4] at hf
      refine g_iload_n (pc := 4) C 3 dX6_height_4 rfl ?_
      refine g_aload_n (pc := 5) C 0 dX6_height_5 rfl ?_
      refine g_iload_n (pc := 6) C 1 dX6_height_6 rfl ?_
      obtain ⟨v7, h7, hf⟩ := Option.bind_eq_some_iff.mp hf
      refine g_callV' (pc := 7) hla C (c_X6_end l D cI cS a m x1 v7 h7) gg_RX6_49 hd_X6_end (by decide) rfl rfl rfl rfl (Nat.le_of_ble_eq_true rfl) dX6_height_7 (seM_0 cI cS a m) (seM_0 cI cS a m).symm [.int v7, .int x3] rfl ?_
      refine g_icmp_ge (pc := 10) C 50 dX6_height_10 (by decide) (fun (c10 : v7 ≤ x3) => ?_) (fun (c10 : ¬ v7 ≤ x3) => ?_)
      · have hf := k_pos c10 hf
        refine g_iload_n (pc := 50) C 2 dX6_height_50 rfl ?_
        have e := Option.some.inj hf; subst e
        exact g_ri (pc := 51) C rfl (flM cI cS a m) dX6_height_51
      · have hf := k_neg c10 hf
        refine g_aload_n (pc := 13) C 0 dX6_height_13 rfl ?_
        refine g_iload_n (pc := 14) C 3 dX6_height_14 rfl ?_
        obtain ⟨v15, h15, hf⟩ := Option.bind_eq_some_iff.mp hf
        refine g_callV' (pc := 15) hla C (c_X6_deep l D cI cS a m x3 v15 h15) gg_RX6_46 hd_X6_deep (by decide) rfl rfl rfl rfl (Nat.le_of_ble_eq_true rfl) dX6_height_15 (seM_0 cI cS a m) (seM_0 cI cS a m).symm [.int v15] rfl ?_
        refine g_aload_n (pc := 18) C 0 dX6_height_18 rfl ?_
        refine g_iload_n (pc := 19) C 1 dX6_height_19 rfl ?_
        obtain ⟨v20, h20, hf⟩ := Option.bind_eq_some_iff.mp hf
        refine g_callV' (pc := 20) hla C (c_X6_deep l D cI cS a m x1 v20 h20) gg_RX6_46 hd_X6_deep (by decide) rfl rfl rfl rfl (Nat.le_of_ble_eq_true rfl) dX6_height_20 (seM_0 cI cS a m) (seM_0 cI cS a m).symm [.int v20, .int v15] rfl ?_
        refine g_isub (pc := 23) C dX6_height_23 ?_
        refine g_iload_n (pc := 24) C 2 dX6_height_24 rfl ?_
        refine g_icmp_le (pc := 25) C 42 dX6_height_25 (by decide) (fun (c25 : (v15 - v20) ≤ x2) => ?_) (fun (c25 : ¬ (v15 - v20) ≤ x2) => ?_)
        · have hf := k_pos c25 hf
          refine g_iload_n (pc := 42) C 2 dX6_height_42 rfl ?_
          refine g_istore_n (pc := 43) C [(2, .int x2), (0, .ref a.1), (1, .int x1), (3, .int x3)] dX6_height_43 (by decide) rfl ?_
          refine g_iinc (pc := 44) C 3 (x3 + 1) [(3, .int (x3 + 1)), (2, .int x2), (0, .ref a.1), (1, .int x1)] dX6_height_44 rfl (congrArg (HAdd.hAdd _) (by decide)) (by decide) rfl ?_
          refine g_goto (pc := 47) C 4 dX6_height_47 (by decide) ?_
          refine g_sub [2, 3, 1, 0] (lv' := [(0, .ref a.1), (1, .int x1), (2, .int x2), (3, .int (x3 + 1))]) rfl ?_
          exact ih m x1 x2 (x3 + 1) hf
        · have hf := k_neg c25 hf
          refine g_aload_n (pc := 28) C 0 dX6_height_28 rfl ?_
          refine g_iload_n (pc := 29) C 3 dX6_height_29 rfl ?_
          obtain ⟨v30, h30, hf⟩ := Option.bind_eq_some_iff.mp hf
          refine g_callV' (pc := 30) hla C (c_X6_deep l D cI cS a m x3 v30 h30) gg_RX6_46 hd_X6_deep (by decide) rfl rfl rfl rfl (Nat.le_of_ble_eq_true rfl) dX6_height_30 (seM_0 cI cS a m) (seM_0 cI cS a m).symm [.int v30] rfl ?_
          refine g_aload_n (pc := 33) C 0 dX6_height_33 rfl ?_
          refine g_iload_n (pc := 34) C 1 dX6_height_34 rfl ?_
          obtain ⟨v35, h35, hf⟩ := Option.bind_eq_some_iff.mp hf
          refine g_callV' (pc := 35) hla C (c_X6_deep l D cI cS a m x1 v35 h35) gg_RX6_46 hd_X6_deep (by decide) rfl rfl rfl rfl (Nat.le_of_ble_eq_true rfl) dX6_height_35 (seM_0 cI cS a m) (seM_0 cI cS a m).symm [.int v35, .int v30] rfl ?_
          refine g_isub (pc := 38) C dX6_height_38 ?_
          refine g_goto (pc := 39) C 43 dX6_height_39 (by decide) ?_
          refine g_istore_n (pc := 43) C [(2, .int (v30 - v35)), (0, .ref a.1), (1, .int x1), (3, .int x3)] dX6_height_43 (by decide) rfl ?_
          refine g_iinc (pc := 44) C 3 (x3 + 1) [(3, .int (x3 + 1)), (2, .int (v30 - v35)), (0, .ref a.1), (1, .int x1)] dX6_height_44 rfl (congrArg (HAdd.hAdd _) (by decide)) (by decide) rfl ?_
          refine g_goto (pc := 47) C 4 dX6_height_47 (by decide) ?_
          refine g_sub [2, 3, 1, 0] (lv' := [(0, .ref a.1), (1, .int x1), (2, .int (v30 - v35)), (3, .int (x3 + 1))]) rfl ?_
          exact ih m x1 (v30 - v35) (x3 + 1) hf
  rw [M_height] at hf
  refine g_iconst (pc := 0) C 0 dX6_height_0 (by decide) ?_
  refine g_istore_n (pc := 1) C [(2, .int 0), (0, .ref a.1), (1, .int x1)] dX6_height_1 (by decide) rfl ?_
  refine g_iload_n (pc := 2) C 2 dX6_height_2 rfl ?_
  refine g_istore_n (pc := 3) C [(3, .int x1), (2, .int 0), (0, .ref a.1), (1, .int x1)] dX6_height_3 (by decide) rfl ?_
  refine g_sub [2, 3, 1, 0] (lv' := [(0, .ref a.1), (1, .int x1), (2, .int 0), (3, .int x1)]) rfl ?_
  exact L4 1000 m x1 0 x1 hf
set_option maxHeartbeats 4000000 in
set_option maxRecDepth 100000 in
theorem c_X6_opens (l : Launch) (D : va_G) (cI cS : ClassId) (a : aM) (m : MD) (x1 : Int32) (x2 : Int32) (out : MD) (hf : M_opens m x1 x2 = some out) : kM l D (kTy cI cS) yX6_opens ct_X6_opens rm_X6_opens [.ref a.1, .int x1, .int x2] [wM cI cS a m] (kEq (none) [wM cI cS a out]) := by
  refine k_methodE cX6_opens 4 none RX6 rfl [(0, .ref a.1), (1, .int x1), (2, .int x2)] rfl (by decide +kernel) (Nat.le_of_ble_eq_true rfl) (fun κ A hla C => ?_)
  refine g_chunks (flM cI cS a m).symm ?_
  have L11 : ∀ (fu : Nat) (m : MD) (x1 : Int32) (x2 : Int32) (x3 : Int32), M_opens_L11 fu m x1 x2 x3 = some out → kG κ D A 4 0 0 (kF κ D A (none) [wM cI cS a out]) (csM cI cS a m) [(0, .ref a.1), (1, .int x1), (2, .int x2), (3, .int x3)] 11 [] := by
    intro fu; induction fu with
    | zero => intro m x1 x2 x3 hf; rw [M_opens_L11] at hf; cases hf
    | succ fu ih =>
      intro m x1 x2 x3 hf; rw [M_opens_L11] at hf
      refine g_iload_n (pc := 11) C 3 dX6_opens_11 rfl ?_
      refine g_iconst (pc := 12) C 3 dX6_opens_12 (by decide) ?_
      refine g_iload_n (pc := 13) C 1 dX6_opens_13 rfl ?_
      refine g_imul (pc := 14) C dX6_opens_14 ?_
      refine g_icmp_lt (pc := 15) C 46 dX6_opens_15 (by decide) (fun (c15 : x3 < (3 * x1)) => ?_) (fun (c15 : ¬ x3 < (3 * x1)) => ?_)
      · have hf := k_pos c15 hf
        refine g_aload_n (pc := 46) C 0 dX6_opens_46 rfl ?_
        refine gf_RX6_7 (pc := 47) C 0 rfl dX6_opens_47 ?_
        refine g_iconst (pc := 50) C 0 dX6_opens_50 (by decide) ?_
        refine g_dup2 (pc := 51) C dX6_opens_51 rfl rfl ?_
        refine g_iald (pc := 52) C 1 0 rfl rfl (by decide) dX6_opens_52 ?_
        refine g_iload_n (pc := 53) C 2 dX6_opens_53 rfl ?_
        refine g_iadd (pc := 54) C dX6_opens_54 ?_
        obtain ⟨u55, e55, hf⟩ := Option.bind_eq_some_iff.mp hf
        refine g_iastU (pc := 55) C 1 0 u55 (Option.some.inj e55) (csM cI cS a (u55, m.2.1, m.2.2.1, m.2.2.2.1, m.2.2.2.2.1, m.2.2.2.2.2.1, m.2.2.2.2.2.2.1, m.2.2.2.2.2.2.2.1, m.2.2.2.2.2.2.2.2.1, m.2.2.2.2.2.2.2.2.2.1, m.2.2.2.2.2.2.2.2.2.2.1, m.2.2.2.2.2.2.2.2.2.2.2)) rfl rfl (by decide) rfl dX6_opens_55 ?_
        have e := Option.some.inj hf; subst e
        exact g_rv (pc := 56) C rfl (flM cI cS a (u55, m.2.1, m.2.2.1, m.2.2.2.1, m.2.2.2.2.1, m.2.2.2.2.2.1, m.2.2.2.2.2.2.1, m.2.2.2.2.2.2.2.1, m.2.2.2.2.2.2.2.2.1, m.2.2.2.2.2.2.2.2.2.1, m.2.2.2.2.2.2.2.2.2.2.1, m.2.2.2.2.2.2.2.2.2.2.2)) dX6_opens_56
      · have hf := k_neg c15 hf
        refine g_aload_n (pc := 18) C 0 dX6_opens_18 rfl ?_
        refine gf_RX6_7 (pc := 19) C 0 rfl dX6_opens_19 ?_
        refine g_bipush (pc := 22) C 18 dX6_opens_22 (by decide) ?_
        refine g_iload_n (pc := 24) C 3 dX6_opens_24 rfl ?_
        refine g_iadd (pc := 25) C dX6_opens_25 ?_
        refine g_iconst (pc := 26) C 3 dX6_opens_26 (by decide) ?_
        refine g_iload_n (pc := 27) C 2 dX6_opens_27 rfl ?_
        refine g_imul (pc := 28) C dX6_opens_28 ?_
        refine g_iadd (pc := 29) C dX6_opens_29 ?_
        refine g_aload_n (pc := 30) C 0 dX6_opens_30 rfl ?_
        refine gf_RX6_7 (pc := 31) C 0 rfl dX6_opens_31 ?_
        refine g_bipush (pc := 34) C 18 dX6_opens_34 (by decide) ?_
        refine g_iload_n (pc := 36) C 3 dX6_opens_36 rfl ?_
        refine g_iadd (pc := 37) C dX6_opens_37 ?_
        obtain ⟨g38, hf⟩ := k_guard hf
        refine g_iald (pc := 38) C 1 0 rfl rfl g38 dX6_opens_38 ?_
        obtain ⟨g39, hf⟩ := k_guard hf
        obtain ⟨u39, e39, hf⟩ := Option.bind_eq_some_iff.mp hf
        refine g_iastU (pc := 39) C 1 0 u39 (Option.some.inj e39) (csM cI cS a (u39, m.2.1, m.2.2.1, m.2.2.2.1, m.2.2.2.2.1, m.2.2.2.2.2.1, m.2.2.2.2.2.2.1, m.2.2.2.2.2.2.2.1, m.2.2.2.2.2.2.2.2.1, m.2.2.2.2.2.2.2.2.2.1, m.2.2.2.2.2.2.2.2.2.2.1, m.2.2.2.2.2.2.2.2.2.2.2)) rfl rfl g39 rfl dX6_opens_39 ?_
        refine g_iinc (pc := 40) C 3 (x3 + (-1)) [(3, .int (x3 + (-1))), (0, .ref a.1), (1, .int x1), (2, .int x2)] dX6_opens_40 rfl (congrArg (HAdd.hAdd _) (by decide)) (by decide) rfl ?_
        refine g_goto (pc := 43) C 11 dX6_opens_43 (by decide) ?_
        refine g_sub [1, 2, 3, 0] (lv' := [(0, .ref a.1), (1, .int x1), (2, .int x2), (3, .int (x3 + (-1)))]) rfl ?_
        exact ih (u39, m.2.1, m.2.2.1, m.2.2.2.1, m.2.2.2.2.1, m.2.2.2.2.2.1, m.2.2.2.2.2.2.1, m.2.2.2.2.2.2.2.1, m.2.2.2.2.2.2.2.2.1, m.2.2.2.2.2.2.2.2.2.1, m.2.2.2.2.2.2.2.2.2.2.1, m.2.2.2.2.2.2.2.2.2.2.2) x1 x2 (x3 + (-1)) hf
  rw [M_opens] at hf
  refine g_iconst (pc := 0) C 3 dX6_opens_0 (by decide) ?_
  refine g_aload_n (pc := 1) C 0 dX6_opens_1 rfl ?_
  refine gf_RX6_7 (pc := 2) C 0 rfl dX6_opens_2 ?_
  refine g_iconst (pc := 5) C 0 dX6_opens_5 (by decide) ?_
  refine g_iald (pc := 6) C 1 0 rfl rfl (by decide) dX6_opens_6 ?_
  refine g_imul (pc := 7) C dX6_opens_7 ?_
  refine g_iconst (pc := 8) C 1 dX6_opens_8 (by decide) ?_
  refine g_isub (pc := 9) C dX6_opens_9 ?_
  refine g_istore_n (pc := 10) C [(3, .int ((3 * (m.1 (ix 0))) - 1)), (0, .ref a.1), (1, .int x1), (2, .int x2)] dX6_opens_10 (by decide) rfl ?_
  refine g_sub [1, 2, 3, 0] (lv' := [(0, .ref a.1), (1, .int x1), (2, .int x2), (3, .int ((3 * (m.1 (ix 0))) - 1))]) rfl ?_
  exact L11 1000 m x1 x2 ((3 * (m.1 (ix 0))) - 1) hf
