set_option maxHeartbeats 4000000 in
set_option maxRecDepth 100000 in
theorem c_X4_endOf (l : Launch) (D : va_G) (cI cS : ClassId) (a : aT) (t : TR) (x1 : Int32) (out : Int32) (hf : T_endOf t x1 = some out) : kM l D (kTy cI cS) yX4_endOf ct_X4_endOf rm_X4_endOf [.ref a.1, .int x1] [wT cI a t] (kEq (some (.int out)) [wT cI a t]) := by
  refine k_methodE cX4_endOf 3 (some .int) RX4 rfl [(0, .ref a.1), (1, .int x1)] rfl (by decide +kernel) (Nat.le_of_ble_eq_true rfl) (fun κ A hla C => ?_)
  refine g_chunks (flT cI cS a t).symm ?_
  have L4 : ∀ (fu : Nat) (t : TR) (x1 : Int32) (x2 : Int32), T_endOf_L4 fu t x1 x2 = some out → kG κ D A 3 0 0 (kF κ D A (some (.int out)) [wT cI a t]) (csT cI cS a t) [(0, .ref a.1), (1, .int x1), (2, .int x2)] 4 [] := by
    intro fu; induction fu with
    | zero => intro t x1 x2 hf; rw [T_endOf_L4] at hf; cases hf
    | succ fu ih =>
      intro t x1 x2 hf; rw [T_endOf_L4] at hf
      refine g_iload_n (pc := 4) C 2 dX4_endOf_4 rfl ?_
      refine g_aload_n (pc := 5) C 0 dX4_endOf_5 rfl ?_
      refine gf_RX4_20 (pc := 6) C 0 rfl dX4_endOf_6 ?_
      obtain ⟨v9, h9, hf⟩ := Option.bind_eq_some_iff.mp hf
      refine g_callV' (pc := 9) hla C (c_X1_size l D cI cS a.2.2 40 t.2 v9 h9) gg_RX4_23 hd_X1_size (by decide) rfl rfl rfl rfl (Nat.le_of_ble_eq_true rfl) dX4_endOf_9 (seT_0depths cI cS a t) (seT_0depths cI cS a t).symm [.int v9, .int x2] rfl ?_
      refine g_icmp_ge (pc := 12) C 42 dX4_endOf_12 (by decide) (fun (c12 : v9 ≤ x2) => ?_) (fun (c12 : ¬ v9 ≤ x2) => ?_)
      · have hf := k_pos c12 hf
        refine g_aload_n (pc := 42) C 0 dX4_endOf_42 rfl ?_
        refine gf_RX4_20 (pc := 43) C 0 rfl dX4_endOf_43 ?_
        obtain ⟨v46, h46, hf⟩ := Option.bind_eq_some_iff.mp hf
        refine g_callV' (pc := 46) hla C (c_X1_size l D cI cS a.2.2 40 t.2 v46 h46) gg_RX4_23 hd_X1_size (by decide) rfl rfl rfl rfl (Nat.le_of_ble_eq_true rfl) dX4_endOf_46 (seT_0depths cI cS a t) (seT_0depths cI cS a t).symm [.int v46] rfl ?_
        have e := Option.some.inj hf; subst e
        exact g_ri (pc := 49) C rfl (flT cI cS a t) dX4_endOf_49
      · have hf := k_neg c12 hf
        refine g_aload_n (pc := 15) C 0 dX4_endOf_15 rfl ?_
        refine gf_RX4_20 (pc := 16) C 0 rfl dX4_endOf_16 ?_
        refine g_iload_n (pc := 19) C 2 dX4_endOf_19 rfl ?_
        obtain ⟨v20, h20, hf⟩ := Option.bind_eq_some_iff.mp hf
        refine g_callV' (pc := 20) hla C (c_X1_at l D cI cS a.2.2 40 t.2 x2 v20 h20) gg_RX4_28 hd_X1_at (by decide) rfl rfl rfl rfl (Nat.le_of_ble_eq_true rfl) dX4_endOf_20 (seT_0depths cI cS a t) (seT_0depths cI cS a t).symm [.int v20] rfl ?_
        refine g_aload_n (pc := 23) C 0 dX4_endOf_23 rfl ?_
        refine gf_RX4_20 (pc := 24) C 0 rfl dX4_endOf_24 ?_
        refine g_iload_n (pc := 27) C 1 dX4_endOf_27 rfl ?_
        obtain ⟨v28, h28, hf⟩ := Option.bind_eq_some_iff.mp hf
        refine g_callV' (pc := 28) hla C (c_X1_at l D cI cS a.2.2 40 t.2 x1 v28 h28) gg_RX4_28 hd_X1_at (by decide) rfl rfl rfl rfl (Nat.le_of_ble_eq_true rfl) dX4_endOf_28 (seT_0depths cI cS a t) (seT_0depths cI cS a t).symm [.int v28, .int v20] rfl ?_
        refine g_icmp_gt (pc := 31) C 36 dX4_endOf_31 (by decide) (fun (c31 : v28 < v20) => ?_) (fun (c31 : ¬ v28 < v20) => ?_)
        · have hf := k_pos c31 hf
          refine g_iinc (pc := 36) C 2 (x2 + 1) [(2, .int (x2 + 1)), (0, .ref a.1), (1, .int x1)] dX4_endOf_36 rfl (congrArg (HAdd.hAdd _) (by decide)) (by decide) rfl ?_
          refine g_goto (pc := 39) C 4 dX4_endOf_39 (by decide) ?_
          refine g_sub [1, 2, 0] (lv' := [(0, .ref a.1), (1, .int x1), (2, .int (x2 + 1))]) rfl ?_
          exact ih t x1 (x2 + 1) hf
        · have hf := k_neg c31 hf
          refine g_iload_n (pc := 34) C 2 dX4_endOf_34 rfl ?_
          have e := Option.some.inj hf; subst e
          exact g_ri (pc := 35) C rfl (flT cI cS a t) dX4_endOf_35
  rw [T_endOf] at hf
  refine g_iload_n (pc := 0) C 1 dX4_endOf_0 rfl ?_
  refine g_iconst (pc := 1) C 1 dX4_endOf_1 (by decide) ?_
  refine g_iadd (pc := 2) C dX4_endOf_2 ?_
  refine g_istore_n (pc := 3) C [(2, .int (x1 + 1)), (0, .ref a.1), (1, .int x1)] dX4_endOf_3 (by decide) rfl ?_
  refine g_sub [1, 2, 0] (lv' := [(0, .ref a.1), (1, .int x1), (2, .int (x1 + 1))]) rfl ?_
  exact L4 1000 t x1 (x1 + 1) hf
set_option maxHeartbeats 4000000 in
set_option maxRecDepth 100000 in
theorem c_X4_depthOf (l : Launch) (D : va_G) (cI cS : ClassId) (a : aT) (t : TR) (x1 : Int32) (out : Int32) (hf : T_depthOf t x1 = some out) : kM l D (kTy cI cS) yX4_depthOf ct_X4_depthOf rm_X4_depthOf [.ref a.1, .int x1] [wT cI a t] (kEq (some (.int out)) [wT cI a t]) := by
  refine k_methodE cX4_depthOf 2 (some .int) RX4 rfl [(0, .ref a.1), (1, .int x1)] rfl (by decide +kernel) (Nat.le_of_ble_eq_true rfl) (fun κ A hla C => ?_)
  refine g_chunks (flT cI cS a t).symm ?_
  rw [T_depthOf] at hf
  refine g_aload_n (pc := 0) C 0 dX4_depthOf_0 rfl ?_
  refine gf_RX4_20 (pc := 1) C 0 rfl dX4_depthOf_1 ?_
  refine g_iload_n (pc := 4) C 1 dX4_depthOf_4 rfl ?_
  obtain ⟨v5, h5, hf⟩ := Option.bind_eq_some_iff.mp hf
  refine g_callV' (pc := 5) hla C (c_X1_at l D cI cS a.2.2 40 t.2 x1 v5 h5) gg_RX4_28 hd_X1_at (by decide) rfl rfl rfl rfl (Nat.le_of_ble_eq_true rfl) dX4_depthOf_5 (seT_0depths cI cS a t) (seT_0depths cI cS a t).symm [.int v5] rfl ?_
  have e := Option.some.inj hf; subst e
  exact g_ri (pc := 8) C rfl (flT cI cS a t) dX4_depthOf_8
set_option maxHeartbeats 4000000 in
set_option maxRecDepth 100000 in
theorem c_X4_childrenOf (l : Launch) (D : va_G) (cI cS : ClassId) (a : aT) (t : TR) (x1 : Int32) (out : Int32) (hf : T_childrenOf t x1 = some out) : kM l D (kTy cI cS) yX4_childrenOf ct_X4_childrenOf rm_X4_childrenOf [.ref a.1, .int x1] [wT cI a t] (kEq (some (.int out)) [wT cI a t]) := by
  refine k_methodE cX4_childrenOf 5 (some .int) RX4 rfl [(0, .ref a.1), (1, .int x1)] rfl (by decide +kernel) (Nat.le_of_ble_eq_true rfl) (fun κ A hla C => ?_)
  refine g_chunks (flT cI cS a t).symm ?_
  have L13 : ∀ (fu : Nat) (t : TR) (x1 : Int32) (x2 : Int32) (x3 : Int32) (x4 : Int32), T_childrenOf_L13 fu t x1 x2 x3 x4 = some out → kG κ D A 5 0 0 (kF κ D A (some (.int out)) [wT cI a t]) (csT cI cS a t) [(0, .ref a.1), (1, .int x1), (2, .int x2), (3, .int x3), (4, .int x4)] 13 [] := by
    intro fu; induction fu with
    | zero => intro t x1 x2 x3 x4 hf; rw [T_childrenOf_L13] at hf; cases hf
    | succ fu ih =>
      intro t x1 x2 x3 x4 hf; rw [T_childrenOf_L13] at hf
      refine g_iload (pc := 13) C 4 dX4_childrenOf_13 rfl ?_
      refine g_iload_n (pc := 15) C 3 dX4_childrenOf_15 rfl ?_
      refine g_icmp_ge (pc := 16) C 44 dX4_childrenOf_16 (by decide) (fun (c16 : x3 ≤ x4) => ?_) (fun (c16 : ¬ x3 ≤ x4) => ?_)
      · have hf := k_pos c16 hf
        refine g_iload_n (pc := 44) C 2 dX4_childrenOf_44 rfl ?_
        have e := Option.some.inj hf; subst e
        exact g_ri (pc := 45) C rfl (flT cI cS a t) dX4_childrenOf_45
      · have hf := k_neg c16 hf
        refine g_aload_n (pc := 19) C 0 dX4_childrenOf_19 rfl ?_
        refine g_iload (pc := 20) C 4 dX4_childrenOf_20 rfl ?_
        obtain ⟨v22, h22, hf⟩ := Option.bind_eq_some_iff.mp hf
        refine g_callV' (pc := 22) hla C (c_X4_depthOf l D cI cS a t x4 v22 h22) gg_RX4_36 hd_X4_depthOf (by decide) rfl rfl rfl rfl (Nat.le_of_ble_eq_true rfl) dX4_childrenOf_22 (seT_0 cI cS a t) (seT_0 cI cS a t).symm [.int v22] rfl ?_
        refine g_aload_n (pc := 25) C 0 dX4_childrenOf_25 rfl ?_
        refine g_iload_n (pc := 26) C 1 dX4_childrenOf_26 rfl ?_
        obtain ⟨v27, h27, hf⟩ := Option.bind_eq_some_iff.mp hf
        refine g_callV' (pc := 27) hla C (c_X4_depthOf l D cI cS a t x1 v27 h27) gg_RX4_36 hd_X4_depthOf (by decide) rfl rfl rfl rfl (Nat.le_of_ble_eq_true rfl) dX4_childrenOf_27 (seT_0 cI cS a t) (seT_0 cI cS a t).symm [.int v27, .int v22] rfl ?_
        refine g_iconst (pc := 30) C 1 dX4_childrenOf_30 (by decide) ?_
        refine g_iadd (pc := 31) C dX4_childrenOf_31 ?_
        refine g_icmp_ne (pc := 32) C 38 dX4_childrenOf_32 (by decide) (fun (c32 : ¬ v22 = (v27 + 1)) => ?_) (fun (c32 : v22 = (v27 + 1)) => ?_)
        · have hf := k_neg c32 hf
          refine g_iinc (pc := 38) C 4 (x4 + 1) [(4, .int (x4 + 1)), (0, .ref a.1), (1, .int x1), (2, .int x2), (3, .int x3)] dX4_childrenOf_38 rfl (congrArg (HAdd.hAdd _) (by decide)) (by decide) rfl ?_
          refine g_goto (pc := 41) C 13 dX4_childrenOf_41 (by decide) ?_
          refine g_sub [1, 2, 3, 4, 0] (lv' := [(0, .ref a.1), (1, .int x1), (2, .int x2), (3, .int x3), (4, .int (x4 + 1))]) rfl ?_
          exact ih t x1 x2 x3 (x4 + 1) hf
        · have hf := k_pos c32 hf
          refine g_iinc (pc := 35) C 2 (x2 + 1) [(2, .int (x2 + 1)), (0, .ref a.1), (1, .int x1), (3, .int x3), (4, .int x4)] dX4_childrenOf_35 rfl (congrArg (HAdd.hAdd _) (by decide)) (by decide) rfl ?_
          refine g_iinc (pc := 38) C 4 (x4 + 1) [(4, .int (x4 + 1)), (2, .int (x2 + 1)), (0, .ref a.1), (1, .int x1), (3, .int x3)] dX4_childrenOf_38 rfl (congrArg (HAdd.hAdd _) (by decide)) (by decide) rfl ?_
          refine g_goto (pc := 41) C 13 dX4_childrenOf_41 (by decide) ?_
          refine g_sub [2, 3, 1, 4, 0] (lv' := [(0, .ref a.1), (1, .int x1), (2, .int (x2 + 1)), (3, .int x3), (4, .int (x4 + 1))]) rfl ?_
          exact ih t x1 (x2 + 1) x3 (x4 + 1) hf
  rw [T_childrenOf] at hf
  refine g_iconst (pc := 0) C 0 dX4_childrenOf_0 (by decide) ?_
  refine g_istore_n (pc := 1) C [(2, .int 0), (0, .ref a.1), (1, .int x1)] dX4_childrenOf_1 (by decide) rfl ?_
  refine g_aload_n (pc := 2) C 1 dX4_childrenOf_2 rfl ?_
  refine g_iload_n (pc := 3) C 2 dX4_childrenOf_3 rfl ?_
  obtain ⟨v4, h4, hf⟩ := Option.bind_eq_some_iff.mp hf
  refine g_callV' (pc := 4) hla C (c_X4_endOf l D cI cS a t x1 v4 h4) gg_RX4_43 hd_X4_endOf (by decide) rfl rfl rfl rfl (Nat.le_of_ble_eq_true rfl) dX4_childrenOf_4 (seT_0 cI cS a t) (seT_0 cI cS a t).symm [.int v4] rfl ?_
  refine g_istore_n (pc := 7) C [(3, .int v4), (2, .int 0), (0, .ref a.1), (1, .int x1)] dX4_childrenOf_7 (by decide) rfl ?_
  refine g_iload_n (pc := 8) C 3 dX4_childrenOf_8 rfl ?_
  refine g_iconst (pc := 9) C 1 dX4_childrenOf_9 (by decide) ?_
  refine g_iadd (pc := 10) C dX4_childrenOf_10 ?_
  refine g_istore (pc := 11) C [(4, .int (x1 + 1)), (3, .int v4), (2, .int 0), (0, .ref a.1), (1, .int x1)] dX4_childrenOf_11 (by decide) rfl ?_
  refine g_sub [3, 4, 2, 1, 0] (lv' := [(0, .ref a.1), (1, .int x1), (2, .int 0), (3, .int v4), (4, .int (x1 + 1))]) rfl ?_
  exact L13 1000 t x1 0 v4 (x1 + 1) hf
set_option maxHeartbeats 4000000 in
set_option maxRecDepth 100000 in
theorem c_X4_startOfChild (l : Launch) (D : va_G) (cI cS : ClassId) (a : aT) (t : TR) (x1 : Int32) (x2 : Int32) (out : Int32) (hf : T_startOfChild t x1 x2 = some out) : kM l D (kTy cI cS) yX4_startOfChild ct_X4_startOfChild rm_X4_startOfChild [.ref a.1, .int x1, .int x2] [wT cI a t] (kEq (some (.int out)) [wT cI a t]) := by
  refine k_methodE cX4_startOfChild 6 (some .int) RX4 rfl [(0, .ref a.1), (1, .int x1), (2, .int x2)] rfl (by decide +kernel) (Nat.le_of_ble_eq_true rfl) (fun κ A hla C => ?_)
  refine g_chunks (flT cI cS a t).symm ?_
  have L14 : ∀ (fu : Nat) (t : TR) (x1 : Int32) (x3 : Int32) (x4 : Int32) (x5 : Int32), T_startOfChild_L14 fu t x1 x3 x4 x5 = some out → kG κ D A 6 0 0 (kF κ D A (some (.int out)) [wT cI a t]) (csT cI cS a t) [(0, .ref a.1), (1, .int x1), (3, .int x3), (4, .int x4), (5, .int x5)] 14 [] := by
    intro fu; induction fu with
    | zero => intro t x1 x3 x4 x5 hf; rw [T_startOfChild_L14] at hf; cases hf
    | succ fu ih =>
      intro t x1 x3 x4 x5 hf; rw [T_startOfChild_L14] at hf
      refine g_iload (pc := 14) C 4 dX4_startOfChild_14 rfl ?_
      refine g_iload (pc := 16) C 3 dX4_startOfChild_16 rfl ?_
      refine g_icmp_ge (pc := 18) C 53 dX4_startOfChild_18 (by decide) (fun (c18 : x4 ≤ x5) => ?_) (fun (c18 : ¬ x4 ≤ x5) => ?_)
      · have hf := k_pos c18 hf
        refine g_iload (pc := 53) C 3 dX4_startOfChild_53 rfl ?_
        have e := Option.some.inj hf; subst e
        exact g_ri (pc := 55) C rfl (flT cI cS a t) dX4_startOfChild_55
      · have hf := k_neg c18 hf
        refine g_aload_n (pc := 21) C 0 dX4_startOfChild_21 rfl ?_
        refine g_iload (pc := 22) C 4 dX4_startOfChild_22 rfl ?_
        obtain ⟨v24, h24, hf⟩ := Option.bind_eq_some_iff.mp hf
        refine g_callV' (pc := 24) hla C (c_X4_depthOf l D cI cS a t x5 v24 h24) gg_RX4_36 hd_X4_depthOf (by decide) rfl rfl rfl rfl (Nat.le_of_ble_eq_true rfl) dX4_startOfChild_24 (seT_0 cI cS a t) (seT_0 cI cS a t).symm [.int v24] rfl ?_
        refine g_aload_n (pc := 27) C 0 dX4_startOfChild_27 rfl ?_
        refine g_iload_n (pc := 28) C 1 dX4_startOfChild_28 rfl ?_
        obtain ⟨v29, h29, hf⟩ := Option.bind_eq_some_iff.mp hf
        refine g_callV' (pc := 29) hla C (c_X4_depthOf l D cI cS a t x1 v29 h29) gg_RX4_36 hd_X4_depthOf (by decide) rfl rfl rfl rfl (Nat.le_of_ble_eq_true rfl) dX4_startOfChild_29 (seT_0 cI cS a t) (seT_0 cI cS a t).symm [.int v29, .int v24] rfl ?_
        refine g_iconst (pc := 32) C 1 dX4_startOfChild_32 (by decide) ?_
        refine g_iadd (pc := 33) C dX4_startOfChild_33 ?_
        refine g_icmp_ne (pc := 34) C 47 dX4_startOfChild_34 (by decide) (fun (c34 : ¬ v24 = (v29 + 1)) => ?_) (fun (c34 : v24 = (v29 + 1)) => ?_)
        · have hf := k_neg c34 hf
          refine g_iinc (pc := 47) C 4 (x5 + 1) [(5, .int (x5 + 1)), (0, .ref a.1), (1, .int x1), (3, .int x3), (4, .int x4)] dX4_startOfChild_47 rfl (congrArg (HAdd.hAdd _) (by decide)) (by decide) rfl ?_
          refine g_goto (pc := 50) C 14 dX4_startOfChild_50 (by decide) ?_
          refine g_sub [1, 2, 3, 4, 0] (lv' := [(0, .ref a.1), (1, .int x1), (3, .int x3), (4, .int x4), (5, .int (x5 + 1))]) rfl ?_
          exact ih t x1 x3 x4 (x5 + 1) hf
        · have hf := k_pos c34 hf
          refine g_iload_n (pc := 37) C 2 dX4_startOfChild_37 rfl ?_
          refine g_if_ne (pc := 38) C 44 dX4_startOfChild_38 (by decide) (fun (c38 : ¬ x3 = 0) => ?_) (fun (c38 : x3 = 0) => ?_)
          · have hf := k_neg c38 hf
            refine g_iinc (pc := 44) C 2 (x3 + (-1)) [(3, .int (x3 + (-1))), (0, .ref a.1), (1, .int x1), (4, .int x4), (5, .int x5)] dX4_startOfChild_44 rfl (congrArg (HAdd.hAdd _) (by decide)) (by decide) rfl ?_
            refine g_iinc (pc := 47) C 4 (x5 + 1) [(5, .int (x5 + 1)), (3, .int (x3 + (-1))), (0, .ref a.1), (1, .int x1), (4, .int x4)] dX4_startOfChild_47 rfl (congrArg (HAdd.hAdd _) (by decide)) (by decide) rfl ?_
            refine g_goto (pc := 50) C 14 dX4_startOfChild_50 (by decide) ?_
            refine g_sub [2, 3, 1, 4, 0] (lv' := [(0, .ref a.1), (1, .int x1), (3, .int (x3 + (-1))), (4, .int x4), (5, .int (x5 + 1))]) rfl ?_
            exact ih t x1 (x3 + (-1)) x4 (x5 + 1) hf
          · have hf := k_pos c38 hf
            refine g_iload (pc := 41) C 4 dX4_startOfChild_41 rfl ?_
            have e := Option.some.inj hf; subst e
            exact g_ri (pc := 43) C rfl (flT cI cS a t) dX4_startOfChild_43
  rw [T_startOfChild] at hf
  refine g_iload_n (pc := 0) C 2 dX4_startOfChild_0 rfl ?_
  refine g_istore_n (pc := 1) C [(3, .int x2), (0, .ref a.1), (1, .int x1), (2, .int x2)] dX4_startOfChild_1 (by decide) rfl ?_
  refine g_aload_n (pc := 2) C 1 dX4_startOfChild_2 rfl ?_
  refine g_iload_n (pc := 3) C 2 dX4_startOfChild_3 rfl ?_
  obtain ⟨v4, h4, hf⟩ := Option.bind_eq_some_iff.mp hf
  refine g_callV' (pc := 4) hla C (c_X4_endOf l D cI cS a t x1 v4 h4) gg_RX4_43 hd_X4_endOf (by decide) rfl rfl rfl rfl (Nat.le_of_ble_eq_true rfl) dX4_startOfChild_4 (seT_0 cI cS a t) (seT_0 cI cS a t).symm [.int v4] rfl ?_
  refine g_istore (pc := 7) C [(4, .int v4), (3, .int x2), (0, .ref a.1), (1, .int x1), (2, .int x2)] dX4_startOfChild_7 (by decide) rfl ?_
  refine g_iload_n (pc := 9) C 3 dX4_startOfChild_9 rfl ?_
  refine g_iconst (pc := 10) C 1 dX4_startOfChild_10 (by decide) ?_
  refine g_iadd (pc := 11) C dX4_startOfChild_11 ?_
  refine g_istore (pc := 12) C [(5, .int (x1 + 1)), (4, .int v4), (3, .int x2), (0, .ref a.1), (1, .int x1), (2, .int x2)] dX4_startOfChild_12 (by decide) rfl ?_
  refine g_sub [3, 4, 2, 1, 0] (lv' := [(0, .ref a.1), (1, .int x1), (3, .int x2), (4, .int v4), (5, .int (x1 + 1))]) rfl ?_
  exact L14 1000 t x1 x2 v4 (x1 + 1) hf
set_option maxHeartbeats 4000000 in
set_option maxRecDepth 100000 in
theorem c_X4_childAt (l : Launch) (D : va_G) (cI cS : ClassId) (a : aT) (t : TR) (x1 : Int32) (x2 : Int32) (out : Int32) (hf : T_childAt t x1 x2 = some out) : kM l D (kTy cI cS) yX4_childAt ct_X4_childAt rm_X4_childAt [.ref a.1, .int x1, .int x2] [wT cI a t] (kEq (some (.int out)) [wT cI a t]) := by
  refine k_methodE cX4_childAt 3 (some .int) RX4 rfl [(0, .ref a.1), (1, .int x1), (2, .int x2)] rfl (by decide +kernel) (Nat.le_of_ble_eq_true rfl) (fun κ A hla C => ?_)
  refine g_chunks (flT cI cS a t).symm ?_
  rw [T_childAt] at hf
  refine g_iload_n (pc := 0) C 2 dX4_childAt_0 rfl ?_
  refine g_if_lt (pc := 1) C 22 dX4_childAt_1 (by decide) (fun (c1 : x2 < 0) => ?_) (fun (c1 : ¬ x2 < 0) => ?_)
  · have hf := k_pos c1 hf
    refine g_iconst (pc := 22) C (-1) dX4_childAt_22 (by decide) ?_
    have e := Option.some.inj hf; subst e
    exact g_ri (pc := 23) C rfl (flT cI cS a t) dX4_childAt_23
  · have hf := k_neg c1 hf
    refine g_iload_n (pc := 4) C 2 dX4_childAt_4 rfl ?_
    refine g_aload_n (pc := 5) C 0 dX4_childAt_5 rfl ?_
    refine g_iload_n (pc := 6) C 1 dX4_childAt_6 rfl ?_
    obtain ⟨v7, h7, hf⟩ := Option.bind_eq_some_iff.mp hf
    refine g_callV' (pc := 7) hla C (c_X4_childrenOf l D cI cS a t x1 v7 h7) gg_RX4_46 hd_X4_childrenOf (by decide) rfl rfl rfl rfl (Nat.le_of_ble_eq_true rfl) dX4_childAt_7 (seT_0 cI cS a t) (seT_0 cI cS a t).symm [.int v7, .int x2] rfl ?_
    refine g_icmp_ge (pc := 10) C 22 dX4_childAt_10 (by decide) (fun (c10 : v7 ≤ x2) => ?_) (fun (c10 : ¬ v7 ≤ x2) => ?_)
    · have hf := k_pos c10 hf
      refine g_iconst (pc := 22) C (-1) dX4_childAt_22 (by decide) ?_
      have e := Option.some.inj hf; subst e
      exact g_ri (pc := 23) C rfl (flT cI cS a t) dX4_childAt_23
    · have hf := k_neg c10 hf
      refine g_aload_n (pc := 13) C 0 dX4_childAt_13 rfl ?_
      refine g_iload_n (pc := 14) C 1 dX4_childAt_14 rfl ?_
      refine g_iload_n (pc := 15) C 2 dX4_childAt_15 rfl ?_
      obtain ⟨v16, h16, hf⟩ := Option.bind_eq_some_iff.mp hf
      refine g_callV' (pc := 16) hla C (c_X4_startOfChild l D cI cS a t x1 x2 v16 h16) gg_RX4_49 hd_X4_startOfChild (by decide) rfl rfl rfl rfl (Nat.le_of_ble_eq_true rfl) dX4_childAt_16 (seT_0 cI cS a t) (seT_0 cI cS a t).symm [.int v16] rfl ?_
      refine g_goto (pc := 19) C 23 dX4_childAt_19 (by decide) ?_
      have e := Option.some.inj hf; subst e
      exact g_ri (pc := 23) C rfl (flT cI cS a t) dX4_childAt_23
set_option maxHeartbeats 4000000 in
set_option maxRecDepth 100000 in
theorem c_X4_takeFrom (l : Launch) (D : va_G) (cI cS : ClassId) (a : aT) (t : TR) (b : aT) (t' : TR) (out : TR) (hf : T_takeFrom t t' = some out) : kM l D (kTy cI cS) yX4_takeFrom ct_X4_takeFrom rm_X4_takeFrom [.ref a.1, .ref b.1] [wT cI a t, wT cI b t'] (kEq (none) [wT cI a out, wT cI b t']) := by
  refine k_methodE cX4_takeFrom 2 none RX4 rfl [(0, .ref a.1), (1, .ref b.1)] rfl (by decide +kernel) (Nat.le_of_ble_eq_true rfl) (fun κ A hla C => ?_)
  refine g_chunks (flTTx cI cS a t b t').symm ?_
  rw [T_takeFrom] at hf
  refine g_aload_n (pc := 0) C 0 dX4_takeFrom_0 rfl ?_
  refine gf_RX4_14 (pc := 1) C 0 rfl dX4_takeFrom_1 ?_
  refine g_aload_n (pc := 4) C 1 dX4_takeFrom_4 rfl ?_
  refine gf_RX4_14 (pc := 5) C 3 rfl dX4_takeFrom_5 ?_
  obtain ⟨v8, h8, hf⟩ := Option.bind_eq_some_iff.mp hf
  refine g_callV' (pc := 8) hla C (c_X1_takeFrom l D cI cS a.2.1 40 t.1 b.2.1 40 t'.1 v8 h8) gg_RX4_87 hd_X1_takeFrom (by decide) rfl rfl rfl rfl (Nat.le_of_ble_eq_true rfl) dX4_takeFrom_8 (seTTx_0letters_1letters cI cS a t b t') (seTTx_0letters_1letters cI cS a (v8, t.2) b t').symm [] rfl ?_
  refine g_aload_n (pc := 11) C 0 dX4_takeFrom_11 rfl ?_
  refine gf_RX4_20 (pc := 12) C 0 rfl dX4_takeFrom_12 ?_
  refine g_aload_n (pc := 15) C 1 dX4_takeFrom_15 rfl ?_
  refine gf_RX4_20 (pc := 16) C 3 rfl dX4_takeFrom_16 ?_
  obtain ⟨v19, h19, hf⟩ := Option.bind_eq_some_iff.mp hf
  refine g_callV' (pc := 19) hla C (c_X1_takeFrom l D cI cS a.2.2 40 t.2 b.2.2 40 t'.2 v19 h19) gg_RX4_87 hd_X1_takeFrom (by decide) rfl rfl rfl rfl (Nat.le_of_ble_eq_true rfl) dX4_takeFrom_19 (seTTx_0depths_1depths cI cS a (v8, t.2) b t') (seTTx_0depths_1depths cI cS a (v8, v19) b t').symm [] rfl ?_
  have e := Option.some.inj hf; subst e
  exact g_rv (pc := 22) C rfl (flTTx cI cS a (v8, v19) b t') dX4_takeFrom_22
set_option maxHeartbeats 4000000 in
set_option maxRecDepth 100000 in
theorem c_X4_onSpine (l : Launch) (D : va_G) (cI cS : ClassId) (a : aT) (t : TR) (x1 : Int32) (x2 : Int32) (out : Int32) (hf : T_onSpine t x1 x2 = some out) : kM l D (kTy cI cS) yX4_onSpine ct_X4_onSpine rm_X4_onSpine [.ref a.1, .int x1, .int x2] [wT cI a t] (kEq (some (.int out)) [wT cI a t]) := by
  refine k_methodE cX4_onSpine 4 (some .int) RX4 rfl [(0, .ref a.1), (1, .int x1), (2, .int x2)] rfl (by decide +kernel) (Nat.le_of_ble_eq_true rfl) (fun κ A hla C => ?_)
  refine g_chunks (flT cI cS a t).symm ?_
  have L17 : ∀ (fu : Nat) (t : TR) (x2 : Int32) (x3 : Int32), T_onSpine_L17 fu t x2 x3 = some out → kG κ D A 4 0 0 (kF κ D A (some (.int out)) [wT cI a t]) (csT cI cS a t) [(0, .ref a.1), (2, .int x2), (3, .int x3)] 17 [] := by
    intro fu; induction fu with
    | zero => intro t x2 x3 hf; rw [T_onSpine_L17] at hf; cases hf
    | succ fu ih =>
      intro t x2 x3 hf; rw [T_onSpine_L17] at hf
      refine g_iload_n (pc := 17) C 2 dX4_onSpine_17 rfl ?_
      refine g_if_lt (pc := 18) C 38 dX4_onSpine_18 (by decide) (fun (c18 : x3 < 0) => ?_) (fun (c18 : ¬ x3 < 0) => ?_)
      · have hf := k_pos c18 hf
        refine g_iconst (pc := 38) C (-1) dX4_onSpine_38 (by decide) ?_
        have e := Option.some.inj hf; subst e
        exact g_ri (pc := 39) C rfl (flT cI cS a t) dX4_onSpine_39
      · have hf := k_neg c18 hf
        refine g_aload_n (pc := 21) C 0 dX4_onSpine_21 rfl ?_
        refine g_iload_n (pc := 22) C 2 dX4_onSpine_22 rfl ?_
        obtain ⟨v23, h23, hf⟩ := Option.bind_eq_some_iff.mp hf
        refine g_callV' (pc := 23) hla C (c_X4_depthOf l D cI cS a t x3 v23 h23) gg_RX4_36 hd_X4_depthOf (by decide) rfl rfl rfl rfl (Nat.le_of_ble_eq_true rfl) dX4_onSpine_23 (seT_0 cI cS a t) (seT_0 cI cS a t).symm [.int v23] rfl ?_
        refine g_iload_n (pc := 26) C 1 dX4_onSpine_26 rfl ?_
        refine g_icmp_ne (pc := 27) C 32 dX4_onSpine_27 (by decide) (fun (c27 : ¬ v23 = x2) => ?_) (fun (c27 : v23 = x2) => ?_)
        · have hf := k_neg c27 hf
          refine g_iinc (pc := 32) C 2 (x3 + (-1)) [(3, .int (x3 + (-1))), (0, .ref a.1), (2, .int x2)] dX4_onSpine_32 rfl (congrArg (HAdd.hAdd _) (by decide)) (by decide) rfl ?_
          refine g_goto (pc := 35) C 17 dX4_onSpine_35 (by decide) ?_
          refine g_sub [1, 2, 0] (lv' := [(0, .ref a.1), (2, .int x2), (3, .int (x3 + (-1)))]) rfl ?_
          exact ih t x2 (x3 + (-1)) hf
        · have hf := k_pos c27 hf
          refine g_iload_n (pc := 30) C 2 dX4_onSpine_30 rfl ?_
          have e := Option.some.inj hf; subst e
          exact g_ri (pc := 31) C rfl (flT cI cS a t) dX4_onSpine_31
  rw [T_onSpine] at hf
  refine g_iload_n (pc := 0) C 2 dX4_onSpine_0 rfl ?_
  refine g_if_lt (pc := 1) C 13 dX4_onSpine_1 (by decide) (fun (c1 : x2 < 0) => ?_) (fun (c1 : ¬ x2 < 0) => ?_)
  · have hf := k_pos c1 hf
    refine g_iconst (pc := 13) C (-1) dX4_onSpine_13 (by decide) ?_
    have e := Option.some.inj hf; subst e
    exact g_ri (pc := 14) C rfl (flT cI cS a t) dX4_onSpine_14
  · have hf := k_neg c1 hf
    refine g_iload_n (pc := 4) C 2 dX4_onSpine_4 rfl ?_
    refine g_aload_n (pc := 5) C 0 dX4_onSpine_5 rfl ?_
    refine g_iload_n (pc := 6) C 1 dX4_onSpine_6 rfl ?_
    obtain ⟨v7, h7, hf⟩ := Option.bind_eq_some_iff.mp hf
    refine g_callV' (pc := 7) hla C (c_X4_depthOf l D cI cS a t x1 v7 h7) gg_RX4_36 hd_X4_depthOf (by decide) rfl rfl rfl rfl (Nat.le_of_ble_eq_true rfl) dX4_onSpine_7 (seT_0 cI cS a t) (seT_0 cI cS a t).symm [.int v7, .int x2] rfl ?_
    refine g_icmp_le (pc := 10) C 15 dX4_onSpine_10 (by decide) (fun (c10 : x2 ≤ v7) => ?_) (fun (c10 : ¬ x2 ≤ v7) => ?_)
    · have hf := k_pos c10 hf
      refine g_iload_n (pc := 15) C 1 dX4_onSpine_15 rfl ?_
      refine g_istore_n (pc := 16) C [(3, .int x1), (0, .ref a.1), (1, .int x1), (2, .int x2)] dX4_onSpine_16 (by decide) rfl ?_
      refine g_sub [1, 3, 0] (lv' := [(0, .ref a.1), (2, .int x2), (3, .int x1)]) rfl ?_
      exact L17 1000 t x2 x1 hf
    · have hf := k_neg c10 hf
      refine g_iconst (pc := 13) C (-1) dX4_onSpine_13 (by decide) ?_
      have e := Option.some.inj hf; subst e
      exact g_ri (pc := 14) C rfl (flT cI cS a t) dX4_onSpine_14
set_option maxHeartbeats 4000000 in
set_option maxRecDepth 100000 in
theorem c_X4_above (l : Launch) (D : va_G) (cI cS : ClassId) (a : aT) (t : TR) (x1 : Int32) (out : Int32) (hf : T_above t x1 = some out) : kM l D (kTy cI cS) yX4_above ct_X4_above rm_X4_above [.ref a.1, .int x1] [wT cI a t] (kEq (some (.int out)) [wT cI a t]) := by
  refine k_methodE cX4_above 2 (some .int) RX4 rfl [(0, .ref a.1), (1, .int x1)] rfl (by decide +kernel) (Nat.le_of_ble_eq_true rfl) (fun κ A hla C => ?_)
  refine g_chunks (flT cI cS a t).symm ?_
  rw [T_above] at hf
  refine g_aload_n (pc := 0) C 0 dX4_above_0 rfl ?_
  refine g_iload_n (pc := 1) C 1 dX4_above_1 rfl ?_
  refine g_aload_n (pc := 2) C 0 dX4_above_2 rfl ?_
  refine g_iload_n (pc := 3) C 1 dX4_above_3 rfl ?_
  obtain ⟨v4, h4, hf⟩ := Option.bind_eq_some_iff.mp hf
  refine g_callV' (pc := 4) hla C (c_X4_depthOf l D cI cS a t x1 v4 h4) gg_RX4_36 hd_X4_depthOf (by decide) rfl rfl rfl rfl (Nat.le_of_ble_eq_true rfl) dX4_above_4 (seT_0 cI cS a t) (seT_0 cI cS a t).symm [.int v4, .int x1, .ref a.1] rfl ?_
  refine g_iconst (pc := 7) C 1 dX4_above_7 (by decide) ?_
  refine g_isub (pc := 8) C dX4_above_8 ?_
  obtain ⟨v9, h9, hf⟩ := Option.bind_eq_some_iff.mp hf
  refine g_callV' (pc := 9) hla C (c_X4_onSpine l D cI cS a t x1 (v4 - 1) v9 h9) gg_RX4_39 hd_X4_onSpine (by decide) rfl rfl rfl rfl (Nat.le_of_ble_eq_true rfl) dX4_above_9 (seT_0 cI cS a t) (seT_0 cI cS a t).symm [.int v9] rfl ?_
  have e := Option.some.inj hf; subst e
  exact g_ri (pc := 12) C rfl (flT cI cS a t) dX4_above_12
set_option maxHeartbeats 4000000 in
set_option maxRecDepth 100000 in
theorem c_X5_isChoice (l : Launch) (D : va_G) (cI cS : ClassId) (x0 : Int32) (out : Int32) (hf : P_isChoice x0 = some out) : kM l D (kTy cI cS) yX5_isChoice ct_X5_isChoice rm_X5_isChoice [.int x0] [] (kEq (some (.int out)) []) := by
  refine k_methodE cX5_isChoice 1 (some .boolean) RX5 rfl [(0, .int x0)] rfl (by decide +kernel) (Nat.le_of_ble_eq_true rfl) (fun κ A hla C => ?_)
  refine g_chunks (flN cI cS ).symm ?_
  rw [P_isChoice] at hf
  refine g_iload_n (pc := 0) C 0 dX5_isChoice_0 rfl ?_
  refine g_if_eq (pc := 1) C 9 dX5_isChoice_1 (by decide) (fun (c1 : x0 = 0) => ?_) (fun (c1 : ¬ x0 = 0) => ?_)
  · have hf := k_pos c1 hf
    refine g_iconst (pc := 9) C 1 dX5_isChoice_9 (by decide) ?_
    refine g_goto (pc := 10) C 14 dX5_isChoice_10 (by decide) ?_
    have e := Option.some.inj hf; subst e
    exact g_rz (pc := 14) C rfl (Or.inr rfl) (flN cI cS ) dX5_isChoice_14
  · have hf := k_neg c1 hf
    refine g_iload_n (pc := 4) C 0 dX5_isChoice_4 rfl ?_
    refine g_iconst (pc := 5) C 1 dX5_isChoice_5 (by decide) ?_
    refine g_icmp_ne (pc := 6) C 13 dX5_isChoice_6 (by decide) (fun (c6 : ¬ x0 = 1) => ?_) (fun (c6 : x0 = 1) => ?_)
    · have hf := k_neg c6 hf
      refine g_iconst (pc := 13) C 0 dX5_isChoice_13 (by decide) ?_
      have e := Option.some.inj hf; subst e
      exact g_rz (pc := 14) C rfl (Or.inl rfl) (flN cI cS ) dX5_isChoice_14
    · have hf := k_pos c6 hf
      refine g_iconst (pc := 9) C 1 dX5_isChoice_9 (by decide) ?_
      refine g_goto (pc := 10) C 14 dX5_isChoice_10 (by decide) ?_
      have e := Option.some.inj hf; subst e
      exact g_rz (pc := 14) C rfl (Or.inr rfl) (flN cI cS ) dX5_isChoice_14
set_option maxHeartbeats 4000000 in
set_option maxRecDepth 100000 in
theorem c_X4_next (l : Launch) (D : va_G) (cI cS : ClassId) (a : aT) (t : TR) (x1 : Int32) (out : Int32) (hf : T_next t x1 = some out) : kM l D (kTy cI cS) yX4_next ct_X4_next rm_X4_next [.ref a.1, .int x1] [wT cI a t] (kEq (some (.int out)) [wT cI a t]) := by
  refine k_methodE cX4_next 3 (some .int) RX4 rfl [(0, .ref a.1), (1, .int x1)] rfl (by decide +kernel) (Nat.le_of_ble_eq_true rfl) (fun κ A hla C => ?_)
  refine g_chunks (flT cI cS a t).symm ?_
  rw [T_next] at hf
  refine g_aload_n (pc := 0) C 0 dX4_next_0 rfl ?_
  refine g_iload_n (pc := 1) C 1 dX4_next_1 rfl ?_
  obtain ⟨v2, h2, hf⟩ := Option.bind_eq_some_iff.mp hf
  refine g_callV' (pc := 2) hla C (c_X4_endOf l D cI cS a t x1 v2 h2) gg_RX4_43 hd_X4_endOf (by decide) rfl rfl rfl rfl (Nat.le_of_ble_eq_true rfl) dX4_next_2 (seT_0 cI cS a t) (seT_0 cI cS a t).symm [.int v2] rfl ?_
  refine g_istore_n (pc := 5) C [(2, .int v2), (0, .ref a.1), (1, .int x1)] dX4_next_5 (by decide) rfl ?_
  refine g_aload_n (pc := 6) C 1 dX4_next_6 rfl ?_
  refine g_iload_n (pc := 7) C 0 dX4_next_7 rfl ?_
  obtain ⟨v8, h8, hf⟩ := Option.bind_eq_some_iff.mp hf
  refine g_callV' (pc := 8) hla C (c_X4_depthOf l D cI cS a t v2 v8 h8) gg_RX4_36 hd_X4_depthOf (by decide) rfl rfl rfl rfl (Nat.le_of_ble_eq_true rfl) dX4_next_8 (seT_0 cI cS a t) (seT_0 cI cS a t).symm [.int v8] rfl ?_
  refine g_aload_n (pc := 11) C 1 dX4_next_11 rfl ?_
  refine g_iload_n (pc := 12) C 2 dX4_next_12 rfl ?_
  obtain ⟨v13, h13, hf⟩ := Option.bind_eq_some_iff.mp hf
  refine g_callV' (pc := 13) hla C (c_X4_depthOf l D cI cS a t x1 v13 h13) gg_RX4_36 hd_X4_depthOf (by decide) rfl rfl rfl rfl (Nat.le_of_ble_eq_true rfl) dX4_next_13 (seT_0 cI cS a t) (seT_0 cI cS a t).symm [.int v13, .int v8] rfl ?_
  refine g_icmp_ne (pc := 16) C 23 dX4_next_16 (by decide) (fun (c16 : ¬ v8 = v13) => ?_) (fun (c16 : v8 = v13) => ?_)
  · have hf := k_neg c16 hf
    refine g_iconst (pc := 23) C (-1) dX4_next_23 (by decide) ?_
    have e := Option.some.inj hf; subst e
    exact g_ri (pc := 24) C rfl (flT cI cS a t) dX4_next_24
  · have hf := k_pos c16 hf
    refine g_iload_n (pc := 19) C 0 dX4_next_19 rfl ?_
    refine g_goto (pc := 20) C 24 dX4_next_20 (by decide) ?_
    have e := Option.some.inj hf; subst e
    exact g_ri (pc := 24) C rfl (flT cI cS a t) dX4_next_24
set_option maxHeartbeats 4000000 in
set_option maxRecDepth 100000 in
theorem c_X4_ahead (l : Launch) (D : va_G) (cI cS : ClassId) (a : aT) (t : TR) (x1 : Int32) (out : Int32) (hf : T_ahead t x1 = some out) : kM l D (kTy cI cS) yX4_ahead ct_X4_ahead rm_X4_ahead [.ref a.1, .int x1] [wT cI a t] (kEq (some (.int out)) [wT cI a t]) := by
  refine k_methodE cX4_ahead 3 (some .int) RX4 rfl [(0, .ref a.1), (1, .int x1)] rfl (by decide +kernel) (Nat.le_of_ble_eq_true rfl) (fun κ A hla C => ?_)
  refine g_chunks (flT cI cS a t).symm ?_
  have L4 : ∀ (fu : Nat) (t : TR) (x1 : Int32) (x2 : Int32), T_ahead_L4 fu t x1 x2 = some out → kG κ D A 3 0 0 (kF κ D A (some (.int out)) [wT cI a t]) (csT cI cS a t) [(0, .ref a.1), (1, .int x1), (2, .int x2)] 4 [] := by
    intro fu; induction fu with
    | zero => intro t x1 x2 hf; rw [T_ahead_L4] at hf; cases hf
    | succ fu ih =>
      intro t x1 x2 hf; rw [T_ahead_L4] at hf
      refine g_iload_n (pc := 4) C 2 dX4_ahead_4 rfl ?_
      refine g_if_lt (pc := 5) C 42 dX4_ahead_5 (by decide) (fun (c5 : x2 < 0) => ?_) (fun (c5 : ¬ x2 < 0) => ?_)
      · have hf := k_pos c5 hf
        refine g_iconst (pc := 42) C (-1) dX4_ahead_42 (by decide) ?_
        have e := Option.some.inj hf; subst e
        exact g_ri (pc := 43) C rfl (flT cI cS a t) dX4_ahead_43
      · have hf := k_neg c5 hf
        refine g_aload_n (pc := 8) C 0 dX4_ahead_8 rfl ?_
        refine g_iload_n (pc := 9) C 2 dX4_ahead_9 rfl ?_
        obtain ⟨v10, h10, hf⟩ := Option.bind_eq_some_iff.mp hf
        refine g_callV' (pc := 10) hla C (c_X4_depthOf l D cI cS a t x2 v10 h10) gg_RX4_36 hd_X4_depthOf (by decide) rfl rfl rfl rfl (Nat.le_of_ble_eq_true rfl) dX4_ahead_10 (seT_0 cI cS a t) (seT_0 cI cS a t).symm [.int v10] rfl ?_
        refine g_aload_n (pc := 13) C 0 dX4_ahead_13 rfl ?_
        refine g_iload_n (pc := 14) C 1 dX4_ahead_14 rfl ?_
        obtain ⟨v15, h15, hf⟩ := Option.bind_eq_some_iff.mp hf
        refine g_callV' (pc := 15) hla C (c_X4_depthOf l D cI cS a t x1 v15 h15) gg_RX4_36 hd_X4_depthOf (by decide) rfl rfl rfl rfl (Nat.le_of_ble_eq_true rfl) dX4_ahead_15 (seT_0 cI cS a t) (seT_0 cI cS a t).symm [.int v15, .int v10] rfl ?_
        refine g_icmp_lt (pc := 18) C 42 dX4_ahead_18 (by decide) (fun (c18 : v10 < v15) => ?_) (fun (c18 : ¬ v10 < v15) => ?_)
        · have hf := k_pos c18 hf
          refine g_iconst (pc := 42) C (-1) dX4_ahead_42 (by decide) ?_
          have e := Option.some.inj hf; subst e
          exact g_ri (pc := 43) C rfl (flT cI cS a t) dX4_ahead_43
        · have hf := k_neg c18 hf
          refine g_aload_n (pc := 21) C 0 dX4_ahead_21 rfl ?_
          refine g_iload_n (pc := 22) C 2 dX4_ahead_22 rfl ?_
          obtain ⟨v23, h23, hf⟩ := Option.bind_eq_some_iff.mp hf
          refine g_callV' (pc := 23) hla C (c_X4_depthOf l D cI cS a t x2 v23 h23) gg_RX4_36 hd_X4_depthOf (by decide) rfl rfl rfl rfl (Nat.le_of_ble_eq_true rfl) dX4_ahead_23 (seT_0 cI cS a t) (seT_0 cI cS a t).symm [.int v23] rfl ?_
          refine g_aload_n (pc := 26) C 0 dX4_ahead_26 rfl ?_
          refine g_iload_n (pc := 27) C 1 dX4_ahead_27 rfl ?_
          obtain ⟨v28, h28, hf⟩ := Option.bind_eq_some_iff.mp hf
          refine g_callV' (pc := 28) hla C (c_X4_depthOf l D cI cS a t x1 v28 h28) gg_RX4_36 hd_X4_depthOf (by decide) rfl rfl rfl rfl (Nat.le_of_ble_eq_true rfl) dX4_ahead_28 (seT_0 cI cS a t) (seT_0 cI cS a t).symm [.int v28, .int v23] rfl ?_
          refine g_icmp_ne (pc := 31) C 36 dX4_ahead_31 (by decide) (fun (c31 : ¬ v23 = v28) => ?_) (fun (c31 : v23 = v28) => ?_)
          · have hf := k_neg c31 hf
            refine g_iinc (pc := 36) C 2 (x2 + (-1)) [(2, .int (x2 + (-1))), (0, .ref a.1), (1, .int x1)] dX4_ahead_36 rfl (congrArg (HAdd.hAdd _) (by decide)) (by decide) rfl ?_
            refine g_goto (pc := 39) C 4 dX4_ahead_39 (by decide) ?_
            refine g_sub [1, 2, 0] (lv' := [(0, .ref a.1), (1, .int x1), (2, .int (x2 + (-1)))]) rfl ?_
            exact ih t x1 (x2 + (-1)) hf
          · have hf := k_pos c31 hf
            refine g_iload_n (pc := 34) C 2 dX4_ahead_34 rfl ?_
            have e := Option.some.inj hf; subst e
            exact g_ri (pc := 35) C rfl (flT cI cS a t) dX4_ahead_35
  rw [T_ahead] at hf
  refine g_iload_n (pc := 0) C 1 dX4_ahead_0 rfl ?_
  refine g_iconst (pc := 1) C 1 dX4_ahead_1 (by decide) ?_
  refine g_isub (pc := 2) C dX4_ahead_2 ?_
  refine g_istore_n (pc := 3) C [(2, .int (x1 - 1)), (0, .ref a.1), (1, .int x1)] dX4_ahead_3 (by decide) rfl ?_
  refine g_sub [1, 2, 0] (lv' := [(0, .ref a.1), (1, .int x1), (2, .int (x1 - 1))]) rfl ?_
  exact L4 1000 t x1 (x1 - 1) hf
set_option maxHeartbeats 4000000 in
set_option maxRecDepth 100000 in
theorem c_X4_neighbour (l : Launch) (D : va_G) (cI cS : ClassId) (a : aT) (t : TR) (x1 : Int32) (x2 : Int32) (out : Int32) (hf : T_neighbour t x1 x2 = some out) : kM l D (kTy cI cS) yX4_neighbour ct_X4_neighbour rm_X4_neighbour [.ref a.1, .int x1, .int x2] [wT cI a t] (kEq (some (.int out)) [wT cI a t]) := by
  refine k_methodE cX4_neighbour 3 (some .int) RX4 rfl [(0, .ref a.1), (1, .int x1), (2, .int x2)] rfl (by decide +kernel) (Nat.le_of_ble_eq_true rfl) (fun κ A hla C => ?_)
  refine g_chunks (flT cI cS a t).symm ?_
  rw [T_neighbour] at hf
  refine g_iload_n (pc := 0) C 2 dX4_neighbour_0 rfl ?_
  refine g_iconst (pc := 1) C 1 dX4_neighbour_1 (by decide) ?_
  refine g_icmp_ne (pc := 2) C 13 dX4_neighbour_2 (by decide) (fun (c2 : ¬ x2 = 1) => ?_) (fun (c2 : x2 = 1) => ?_)
  · have hf := k_neg c2 hf
    refine g_aload_n (pc := 13) C 0 dX4_neighbour_13 rfl ?_
    refine g_iload_n (pc := 14) C 1 dX4_neighbour_14 rfl ?_
    obtain ⟨v15, h15, hf⟩ := Option.bind_eq_some_iff.mp hf
    refine g_callV' (pc := 15) hla C (c_X4_ahead l D cI cS a t x1 v15 h15) gg_RX4_58 hd_X4_ahead (by decide) rfl rfl rfl rfl (Nat.le_of_ble_eq_true rfl) dX4_neighbour_15 (seT_0 cI cS a t) (seT_0 cI cS a t).symm [.int v15] rfl ?_
    have e := Option.some.inj hf; subst e
    exact g_ri (pc := 18) C rfl (flT cI cS a t) dX4_neighbour_18
  · have hf := k_pos c2 hf
    refine g_aload_n (pc := 5) C 0 dX4_neighbour_5 rfl ?_
    refine g_iload_n (pc := 6) C 1 dX4_neighbour_6 rfl ?_
    obtain ⟨v7, h7, hf⟩ := Option.bind_eq_some_iff.mp hf
    refine g_callV' (pc := 7) hla C (c_X4_next l D cI cS a t x1 v7 h7) gg_RX4_55 hd_X4_next (by decide) rfl rfl rfl rfl (Nat.le_of_ble_eq_true rfl) dX4_neighbour_7 (seT_0 cI cS a t) (seT_0 cI cS a t).symm [.int v7] rfl ?_
    refine g_goto (pc := 10) C 18 dX4_neighbour_10 (by decide) ?_
    have e := Option.some.inj hf; subst e
    exact g_ri (pc := 18) C rfl (flT cI cS a t) dX4_neighbour_18
set_option maxHeartbeats 4000000 in
set_option maxRecDepth 100000 in
theorem c_X4_size (l : Launch) (D : va_G) (cI cS : ClassId) (a : aT) (t : TR) (out : Int32) (hf : T_size t = some out) : kM l D (kTy cI cS) yX4_size ct_X4_size rm_X4_size [.ref a.1] [wT cI a t] (kEq (some (.int out)) [wT cI a t]) := by
  refine k_methodE cX4_size 1 (some .int) RX4 rfl [(0, .ref a.1)] rfl (by decide +kernel) (Nat.le_of_ble_eq_true rfl) (fun κ A hla C => ?_)
  refine g_chunks (flT cI cS a t).symm ?_
  rw [T_size] at hf
  refine g_aload_n (pc := 0) C 0 dX4_size_0 rfl ?_
  refine gf_RX4_14 (pc := 1) C 0 rfl dX4_size_1 ?_
  obtain ⟨v4, h4, hf⟩ := Option.bind_eq_some_iff.mp hf
  refine g_callV' (pc := 4) hla C (c_X1_size l D cI cS a.2.1 40 t.1 v4 h4) gg_RX4_23 hd_X1_size (by decide) rfl rfl rfl rfl (Nat.le_of_ble_eq_true rfl) dX4_size_4 (seT_0letters cI cS a t) (seT_0letters cI cS a t).symm [.int v4] rfl ?_
  have e := Option.some.inj hf; subst e
  exact g_ri (pc := 7) C rfl (flT cI cS a t) dX4_size_7
set_option maxHeartbeats 4000000 in
set_option maxRecDepth 100000 in
theorem c_X4_has (l : Launch) (D : va_G) (cI cS : ClassId) (a : aT) (t : TR) (x1 : Int32) (out : Int32) (hf : T_has t x1 = some out) : kM l D (kTy cI cS) yX4_has ct_X4_has rm_X4_has [.ref a.1, .int x1] [wT cI a t] (kEq (some (.int out)) [wT cI a t]) := by
  refine k_methodE cX4_has 2 (some .boolean) RX4 rfl [(0, .ref a.1), (1, .int x1)] rfl (by decide +kernel) (Nat.le_of_ble_eq_true rfl) (fun κ A hla C => ?_)
  refine g_chunks (flT cI cS a t).symm ?_
  rw [T_has] at hf
  refine g_iload_n (pc := 0) C 1 dX4_has_0 rfl ?_
  refine g_if_lt (pc := 1) C 16 dX4_has_1 (by decide) (fun (c1 : x1 < 0) => ?_) (fun (c1 : ¬ x1 < 0) => ?_)
  · have hf := k_pos c1 hf
    refine g_iconst (pc := 16) C 0 dX4_has_16 (by decide) ?_
    have e := Option.some.inj hf; subst e
    exact g_rz (pc := 17) C rfl (Or.inl rfl) (flT cI cS a t) dX4_has_17
  · have hf := k_neg c1 hf
    refine g_iload_n (pc := 4) C 1 dX4_has_4 rfl ?_
    refine g_aload_n (pc := 5) C 0 dX4_has_5 rfl ?_
    obtain ⟨v6, h6, hf⟩ := Option.bind_eq_some_iff.mp hf
    refine g_callV' (pc := 6) hla C (c_X4_size l D cI cS a t v6 h6) gg_RX4_27 hd_X4_size (by decide) rfl rfl rfl rfl (Nat.le_of_ble_eq_true rfl) dX4_has_6 (seT_0 cI cS a t) (seT_0 cI cS a t).symm [.int v6, .int x1] rfl ?_
    refine g_icmp_ge (pc := 9) C 16 dX4_has_9 (by decide) (fun (c9 : v6 ≤ x1) => ?_) (fun (c9 : ¬ v6 ≤ x1) => ?_)
    · have hf := k_pos c9 hf
      refine g_iconst (pc := 16) C 0 dX4_has_16 (by decide) ?_
      have e := Option.some.inj hf; subst e
      exact g_rz (pc := 17) C rfl (Or.inl rfl) (flT cI cS a t) dX4_has_17
    · have hf := k_neg c9 hf
      refine g_iconst (pc := 12) C 1 dX4_has_12 (by decide) ?_
      refine g_goto (pc := 13) C 17 dX4_has_13 (by decide) ?_
      have e := Option.some.inj hf; subst e
      exact g_rz (pc := 17) C rfl (Or.inr rfl) (flT cI cS a t) dX4_has_17
set_option maxHeartbeats 4000000 in
set_option maxRecDepth 100000 in
theorem c_X5_isLetter (l : Launch) (D : va_G) (cI cS : ClassId) (x0 : Int32) (out : Int32) (hf : P_isLetter x0 = some out) : kM l D (kTy cI cS) yX5_isLetter ct_X5_isLetter rm_X5_isLetter [.int x0] [] (kEq (some (.int out)) []) := by
  refine k_methodE cX5_isLetter 1 (some .boolean) RX5 rfl [(0, .int x0)] rfl (by decide +kernel) (Nat.le_of_ble_eq_true rfl) (fun κ A hla C => ?_)
  refine g_chunks (flN cI cS ).symm ?_
  rw [P_isLetter] at hf
  refine g_iload_n (pc := 0) C 0 dX5_isLetter_0 rfl ?_
  refine g_if_lt (pc := 1) C 14 dX5_isLetter_1 (by decide) (fun (c1 : x0 < 0) => ?_) (fun (c1 : ¬ x0 < 0) => ?_)
  · have hf := k_pos c1 hf
    refine g_iconst (pc := 14) C 0 dX5_isLetter_14 (by decide) ?_
    have e := Option.some.inj hf; subst e
    exact g_rz (pc := 15) C rfl (Or.inl rfl) (flN cI cS ) dX5_isLetter_15
  · have hf := k_neg c1 hf
    refine g_iload_n (pc := 4) C 0 dX5_isLetter_4 rfl ?_
    refine g_bipush (pc := 5) C 26 dX5_isLetter_5 (by decide) ?_
    refine g_icmp_ge (pc := 7) C 14 dX5_isLetter_7 (by decide) (fun (c7 : 26 ≤ x0) => ?_) (fun (c7 : ¬ 26 ≤ x0) => ?_)
    · have hf := k_pos c7 hf
      refine g_iconst (pc := 14) C 0 dX5_isLetter_14 (by decide) ?_
      have e := Option.some.inj hf; subst e
      exact g_rz (pc := 15) C rfl (Or.inl rfl) (flN cI cS ) dX5_isLetter_15
    · have hf := k_neg c7 hf
      refine g_iconst (pc := 10) C 1 dX5_isLetter_10 (by decide) ?_
      refine g_goto (pc := 11) C 15 dX5_isLetter_11 (by decide) ?_
      have e := Option.some.inj hf; subst e
      exact g_rz (pc := 15) C rfl (Or.inr rfl) (flN cI cS ) dX5_isLetter_15
set_option maxHeartbeats 4000000 in
set_option maxRecDepth 100000 in
theorem c_X4_letterOf (l : Launch) (D : va_G) (cI cS : ClassId) (a : aT) (t : TR) (x1 : Int32) (out : Int32) (hf : T_letterOf t x1 = some out) : kM l D (kTy cI cS) yX4_letterOf ct_X4_letterOf rm_X4_letterOf [.ref a.1, .int x1] [wT cI a t] (kEq (some (.int out)) [wT cI a t]) := by
  refine k_methodE cX4_letterOf 2 (some .int) RX4 rfl [(0, .ref a.1), (1, .int x1)] rfl (by decide +kernel) (Nat.le_of_ble_eq_true rfl) (fun κ A hla C => ?_)
  refine g_chunks (flT cI cS a t).symm ?_
  rw [T_letterOf] at hf
  refine g_aload_n (pc := 0) C 0 dX4_letterOf_0 rfl ?_
  refine gf_RX4_14 (pc := 1) C 0 rfl dX4_letterOf_1 ?_
  refine g_iload_n (pc := 4) C 1 dX4_letterOf_4 rfl ?_
  obtain ⟨v5, h5, hf⟩ := Option.bind_eq_some_iff.mp hf
  refine g_callV' (pc := 5) hla C (c_X1_at l D cI cS a.2.1 40 t.1 x1 v5 h5) gg_RX4_28 hd_X1_at (by decide) rfl rfl rfl rfl (Nat.le_of_ble_eq_true rfl) dX4_letterOf_5 (seT_0letters cI cS a t) (seT_0letters cI cS a t).symm [.int v5] rfl ?_
  have e := Option.some.inj hf; subst e
  exact g_ri (pc := 8) C rfl (flT cI cS a t) dX4_letterOf_8
set_option maxHeartbeats 4000000 in
set_option maxRecDepth 100000 in
theorem c_X4_setLetter (l : Launch) (D : va_G) (cI cS : ClassId) (a : aT) (t : TR) (x1 : Int32) (x2 : Int32) (out : TR) (hf : T_setLetter t x1 x2 = some out) : kM l D (kTy cI cS) yX4_setLetter ct_X4_setLetter rm_X4_setLetter [.ref a.1, .int x1, .int x2] [wT cI a t] (kEq (none) [wT cI a out]) := by
  refine k_methodE cX4_setLetter 3 none RX4 rfl [(0, .ref a.1), (1, .int x1), (2, .int x2)] rfl (by decide +kernel) (Nat.le_of_ble_eq_true rfl) (fun κ A hla C => ?_)
  refine g_chunks (flT cI cS a t).symm ?_
  rw [T_setLetter] at hf
  refine g_aload_n (pc := 0) C 0 dX4_setLetter_0 rfl ?_
  refine gf_RX4_14 (pc := 1) C 0 rfl dX4_setLetter_1 ?_
  refine g_iload_n (pc := 4) C 1 dX4_setLetter_4 rfl ?_
  refine g_iload_n (pc := 5) C 2 dX4_setLetter_5 rfl ?_
  obtain ⟨v6, h6, hf⟩ := Option.bind_eq_some_iff.mp hf
  refine g_callV' (pc := 6) hla C (c_X1_put l D cI cS a.2.1 40 t.1 x1 x2 v6 h6) gg_RX4_32 hd_X1_put (by decide) rfl rfl rfl rfl (Nat.le_of_ble_eq_true rfl) dX4_setLetter_6 (seT_0letters cI cS a t) (seT_0letters cI cS a (v6, t.2)).symm [] rfl ?_
  have e := Option.some.inj hf; subst e
  exact g_rv (pc := 9) C rfl (flT cI cS a (v6, t.2)) dX4_setLetter_9
set_option maxHeartbeats 4000000 in
set_option maxRecDepth 100000 in
theorem c_X4_putIn (l : Launch) (D : va_G) (cI cS : ClassId) (a : aT) (t : TR) (x1 : Int32) (x2 : Int32) (x3 : Int32) (out : TR) (hf : T_putIn t x1 x2 x3 = some out) : kM l D (kTy cI cS) yX4_putIn ct_X4_putIn rm_X4_putIn [.ref a.1, .int x1, .int x2, .int x3] [wT cI a t] (kEq (none) [wT cI a out]) := by
  refine k_methodE cX4_putIn 4 none RX4 rfl [(0, .ref a.1), (1, .int x1), (2, .int x2), (3, .int x3)] rfl (by decide +kernel) (Nat.le_of_ble_eq_true rfl) (fun κ A hla C => ?_)
  refine g_chunks (flT cI cS a t).symm ?_
  rw [T_putIn] at hf
  refine g_aload_n (pc := 0) C 0 dX4_putIn_0 rfl ?_
  refine gf_RX4_14 (pc := 1) C 0 rfl dX4_putIn_1 ?_
  refine g_iload_n (pc := 4) C 1 dX4_putIn_4 rfl ?_
  refine g_iload_n (pc := 5) C 2 dX4_putIn_5 rfl ?_
  obtain ⟨v6, h6, hf⟩ := Option.bind_eq_some_iff.mp hf
  refine g_callV' (pc := 6) hla C (c_X1_putIn l D cI cS a.2.1 40 t.1 x1 x2 v6 h6) gg_RX4_77 hd_X1_putIn (by decide) rfl rfl rfl rfl (Nat.le_of_ble_eq_true rfl) dX4_putIn_6 (seT_0letters cI cS a t) (seT_0letters cI cS a (v6, t.2)).symm [] rfl ?_
  refine g_aload_n (pc := 9) C 0 dX4_putIn_9 rfl ?_
  refine gf_RX4_20 (pc := 10) C 0 rfl dX4_putIn_10 ?_
  refine g_iload_n (pc := 13) C 1 dX4_putIn_13 rfl ?_
  refine g_iload_n (pc := 14) C 3 dX4_putIn_14 rfl ?_
  obtain ⟨v15, h15, hf⟩ := Option.bind_eq_some_iff.mp hf
  refine g_callV' (pc := 15) hla C (c_X1_putIn l D cI cS a.2.2 40 t.2 x1 x3 v15 h15) gg_RX4_77 hd_X1_putIn (by decide) rfl rfl rfl rfl (Nat.le_of_ble_eq_true rfl) dX4_putIn_15 (seT_0depths cI cS a (v6, t.2)) (seT_0depths cI cS a (v6, v15)).symm [] rfl ?_
  have e := Option.some.inj hf; subst e
  exact g_rv (pc := 18) C rfl (flT cI cS a (v6, v15)) dX4_putIn_18
set_option maxHeartbeats 4000000 in
set_option maxRecDepth 100000 in
theorem c_X4_takeOut (l : Launch) (D : va_G) (cI cS : ClassId) (a : aT) (t : TR) (x1 : Int32) (x2 : Int32) (out : TR) (hf : T_takeOut t x1 x2 = some out) : kM l D (kTy cI cS) yX4_takeOut ct_X4_takeOut rm_X4_takeOut [.ref a.1, .int x1, .int x2] [wT cI a t] (kEq (none) [wT cI a out]) := by
  refine k_methodE cX4_takeOut 3 none RX4 rfl [(0, .ref a.1), (1, .int x1), (2, .int x2)] rfl (by decide +kernel) (Nat.le_of_ble_eq_true rfl) (fun κ A hla C => ?_)
  refine g_chunks (flT cI cS a t).symm ?_
  rw [T_takeOut] at hf
  refine g_aload_n (pc := 0) C 0 dX4_takeOut_0 rfl ?_
  refine gf_RX4_14 (pc := 1) C 0 rfl dX4_takeOut_1 ?_
  refine g_iload_n (pc := 4) C 1 dX4_takeOut_4 rfl ?_
  refine g_iload_n (pc := 5) C 2 dX4_takeOut_5 rfl ?_
  obtain ⟨v6, h6, hf⟩ := Option.bind_eq_some_iff.mp hf
  refine g_callV' (pc := 6) hla C (c_X1_takeOut l D cI cS a.2.1 40 t.1 x1 x2 v6 h6) gg_RX4_80 hd_X1_takeOut (by decide) rfl rfl rfl rfl (Nat.le_of_ble_eq_true rfl) dX4_takeOut_6 (seT_0letters cI cS a t) (seT_0letters cI cS a (v6, t.2)).symm [] rfl ?_
  refine g_aload_n (pc := 9) C 0 dX4_takeOut_9 rfl ?_
  refine gf_RX4_20 (pc := 10) C 0 rfl dX4_takeOut_10 ?_
  refine g_iload_n (pc := 13) C 1 dX4_takeOut_13 rfl ?_
  refine g_iload_n (pc := 14) C 2 dX4_takeOut_14 rfl ?_
  obtain ⟨v15, h15, hf⟩ := Option.bind_eq_some_iff.mp hf
  refine g_callV' (pc := 15) hla C (c_X1_takeOut l D cI cS a.2.2 40 t.2 x1 x2 v15 h15) gg_RX4_80 hd_X1_takeOut (by decide) rfl rfl rfl rfl (Nat.le_of_ble_eq_true rfl) dX4_takeOut_15 (seT_0depths cI cS a (v6, t.2)) (seT_0depths cI cS a (v6, v15)).symm [] rfl ?_
  have e := Option.some.inj hf; subst e
  exact g_rv (pc := 18) C rfl (flT cI cS a (v6, v15)) dX4_takeOut_18
set_option maxHeartbeats 4000000 in
set_option maxRecDepth 100000 in
theorem c_X4_heightOf (l : Launch) (D : va_G) (cI cS : ClassId) (a : aT) (t : TR) (x1 : Int32) (out : Int32) (hf : T_heightOf t x1 = some out) : kM l D (kTy cI cS) yX4_heightOf ct_X4_heightOf rm_X4_heightOf [.ref a.1, .int x1] [wT cI a t] (kEq (some (.int out)) [wT cI a t]) := by
  refine k_methodE cX4_heightOf 5 (some .int) RX4 rfl [(0, .ref a.1), (1, .int x1)] rfl (by decide +kernel) (Nat.le_of_ble_eq_true rfl) (fun κ A hla C => ?_)
  refine g_chunks (flT cI cS a t).symm ?_
  have L15 : ∀ (fu : Nat) (t : TR) (x1 : Int32) (x2 : Int32) (x3 : Int32) (x4 : Int32), T_heightOf_L15 fu t x1 x2 x3 x4 = some out → kG κ D A 5 0 0 (kF κ D A (some (.int out)) [wT cI a t]) (csT cI cS a t) [(0, .ref a.1), (1, .int x1), (2, .int x2), (3, .int x3), (4, .int x4)] 15 [] := by
    intro fu; induction fu with
    | zero => intro t x1 x2 x3 x4 hf; rw [T_heightOf_L15] at hf; cases hf
    | succ fu ih =>
      intro t x1 x2 x3 x4 hf; rw [T_heightOf_L15] at hf
      refine g_iload (pc := 15) C 4 dX4_heightOf_15 rfl ?_
      refine g_iload_n (pc := 17) C 3 dX4_heightOf_17 rfl ?_
      refine g_icmp_ge (pc := 18) C 38 dX4_heightOf_18 (by decide) (fun (c18 : x3 ≤ x4) => ?_) (fun (c18 : ¬ x3 ≤ x4) => ?_)
      · have hf := k_pos c18 hf
        refine g_iload_n (pc := 38) C 2 dX4_heightOf_38 rfl ?_
        refine g_aload_n (pc := 39) C 0 dX4_heightOf_39 rfl ?_
        refine g_iload_n (pc := 40) C 1 dX4_heightOf_40 rfl ?_
        obtain ⟨v41, h41, hf⟩ := Option.bind_eq_some_iff.mp hf
        refine g_callV' (pc := 41) hla C (c_X4_depthOf l D cI cS a t x1 v41 h41) gg_RX4_36 hd_X4_depthOf (by decide) rfl rfl rfl rfl (Nat.le_of_ble_eq_true rfl) dX4_heightOf_41 (seT_0 cI cS a t) (seT_0 cI cS a t).symm [.int v41, .int x2] rfl ?_
        refine g_isub (pc := 44) C dX4_heightOf_44 ?_
        have e := Option.some.inj hf; subst e
        exact g_ri (pc := 45) C rfl (flT cI cS a t) dX4_heightOf_45
      · have hf := k_neg c18 hf
        refine g_iload_n (pc := 21) C 2 dX4_heightOf_21 rfl ?_
        refine g_aload_n (pc := 22) C 0 dX4_heightOf_22 rfl ?_
        refine g_iload (pc := 23) C 4 dX4_heightOf_23 rfl ?_
        obtain ⟨v25, h25, hf⟩ := Option.bind_eq_some_iff.mp hf
        refine g_callV' (pc := 25) hla C (c_X4_depthOf l D cI cS a t x4 v25 h25) gg_RX4_36 hd_X4_depthOf (by decide) rfl rfl rfl rfl (Nat.le_of_ble_eq_true rfl) dX4_heightOf_25 (seT_0 cI cS a t) (seT_0 cI cS a t).symm [.int v25, .int x2] rfl ?_
        refine g_mmax (pc := 28) C m_418 m_81 m_math m_code_max (by decide) (Nat.le_of_ble_eq_true rfl) (Nat.le_refl 0) (Nat.le_refl 0) dX4_heightOf_28 ?_
        refine g_istore_n (pc := 31) C [(2, .int (imax x2 v25)), (0, .ref a.1), (1, .int x1), (3, .int x3), (4, .int x4)] dX4_heightOf_31 (by decide) rfl ?_
        refine g_iinc (pc := 32) C 4 (x4 + 1) [(4, .int (x4 + 1)), (2, .int (imax x2 v25)), (0, .ref a.1), (1, .int x1), (3, .int x3)] dX4_heightOf_32 rfl (congrArg (HAdd.hAdd _) (by decide)) (by decide) rfl ?_
        refine g_goto (pc := 35) C 15 dX4_heightOf_35 (by decide) ?_
        refine g_sub [2, 3, 1, 4, 0] (lv' := [(0, .ref a.1), (1, .int x1), (2, .int (imax x2 v25)), (3, .int x3), (4, .int (x4 + 1))]) rfl ?_
        exact ih t x1 (imax x2 v25) x3 (x4 + 1) hf
  rw [T_heightOf] at hf
  refine g_aload_n (pc := 0) C 0 dX4_heightOf_0 rfl ?_
  refine g_iload_n (pc := 1) C 1 dX4_heightOf_1 rfl ?_
  obtain ⟨v2, h2, hf⟩ := Option.bind_eq_some_iff.mp hf
  refine g_callV' (pc := 2) hla C (c_X4_depthOf l D cI cS a t x1 v2 h2) gg_RX4_36 hd_X4_depthOf (by decide) rfl rfl rfl rfl (Nat.le_of_ble_eq_true rfl) dX4_heightOf_2 (seT_0 cI cS a t) (seT_0 cI cS a t).symm [.int v2] rfl ?_
  refine g_istore_n (pc := 5) C [(2, .int v2), (0, .ref a.1), (1, .int x1)] dX4_heightOf_5 (by decide) rfl ?_
  refine g_aload_n (pc := 6) C 1 dX4_heightOf_6 rfl ?_
  refine g_iload_n (pc := 7) C 2 dX4_heightOf_7 rfl ?_
  obtain ⟨v8, h8, hf⟩ := Option.bind_eq_some_iff.mp hf
  refine g_callV' (pc := 8) hla C (c_X4_endOf l D cI cS a t x1 v8 h8) gg_RX4_43 hd_X4_endOf (by decide) rfl rfl rfl rfl (Nat.le_of_ble_eq_true rfl) dX4_heightOf_8 (seT_0 cI cS a t) (seT_0 cI cS a t).symm [.int v8] rfl ?_
  refine g_istore_n (pc := 11) C [(3, .int v8), (2, .int v2), (0, .ref a.1), (1, .int x1)] dX4_heightOf_11 (by decide) rfl ?_
  refine g_iload_n (pc := 12) C 3 dX4_heightOf_12 rfl ?_
  refine g_istore (pc := 13) C [(4, .int x1), (3, .int v8), (2, .int v2), (0, .ref a.1), (1, .int x1)] dX4_heightOf_13 (by decide) rfl ?_
  refine g_sub [3, 4, 2, 1, 0] (lv' := [(0, .ref a.1), (1, .int x1), (2, .int v2), (3, .int v8), (4, .int x1)]) rfl ?_
  exact L15 1000 t x1 v2 v8 x1 hf
set_option maxHeartbeats 4000000 in
set_option maxRecDepth 100000 in
theorem c_X4_shiftDepths (l : Launch) (D : va_G) (cI cS : ClassId) (a : aT) (t : TR) (x1 : Int32) (x2 : Int32) (x3 : Int32) (out : TR) (hf : T_shiftDepths t x1 x2 x3 = some out) : kM l D (kTy cI cS) yX4_shiftDepths ct_X4_shiftDepths rm_X4_shiftDepths [.ref a.1, .int x1, .int x2, .int x3] [wT cI a t] (kEq (none) [wT cI a out]) := by
  refine k_methodE cX4_shiftDepths 5 none RX4 rfl [(0, .ref a.1), (1, .int x1), (2, .int x2), (3, .int x3)] rfl (by decide +kernel) (Nat.le_of_ble_eq_true rfl) (fun κ A hla C => ?_)
  refine g_chunks (flT cI cS a t).symm ?_
  have L3 : ∀ (fu : Nat) (t : TR) (x2 : Int32) (x3 : Int32) (x4 : Int32), T_shiftDepths_L3 fu t x2 x3 x4 = some out → kG κ D A 5 0 0 (kF κ D A (none) [wT cI a out]) (csT cI cS a t) [(0, .ref a.1), (2, .int x2), (3, .int x3), (4, .int x4)] 3 [] := by
    intro fu; induction fu with
    | zero => intro t x2 x3 x4 hf; rw [T_shiftDepths_L3] at hf; cases hf
    | succ fu ih =>
      intro t x2 x3 x4 hf; rw [T_shiftDepths_L3] at hf
      refine g_iload (pc := 3) C 3 dX4_shiftDepths_3 rfl ?_
      refine g_iload_n (pc := 5) C 1 dX4_shiftDepths_5 rfl ?_
      refine g_icmp_ge (pc := 6) C 35 dX4_shiftDepths_6 (by decide) (fun (c6 : x2 ≤ x4) => ?_) (fun (c6 : ¬ x2 ≤ x4) => ?_)
      · have hf := k_pos c6 hf
        have e := Option.some.inj hf; subst e
        exact g_rv (pc := 35) C rfl (flT cI cS a t) dX4_shiftDepths_35
      · have hf := k_neg c6 hf
        refine g_aload_n (pc := 9) C 0 dX4_shiftDepths_9 rfl ?_
        refine gf_RX4_20 (pc := 10) C 0 rfl dX4_shiftDepths_10 ?_
        refine g_iload (pc := 13) C 3 dX4_shiftDepths_13 rfl ?_
        refine g_aload_n (pc := 15) C 0 dX4_shiftDepths_15 rfl ?_
        refine gf_RX4_20 (pc := 16) C 0 rfl dX4_shiftDepths_16 ?_
        refine g_iload (pc := 19) C 3 dX4_shiftDepths_19 rfl ?_
        obtain ⟨v21, h21, hf⟩ := Option.bind_eq_some_iff.mp hf
        refine g_callV' (pc := 21) hla C (c_X1_at l D cI cS a.2.2 40 t.2 x4 v21 h21) gg_RX4_28 hd_X1_at (by decide) rfl rfl rfl rfl (Nat.le_of_ble_eq_true rfl) dX4_shiftDepths_21 (seT_0depths cI cS a t) (seT_0depths cI cS a t).symm [.int v21, .int x4, .ref a.2.2.1] rfl ?_
        refine g_iload_n (pc := 24) C 2 dX4_shiftDepths_24 rfl ?_
        refine g_iadd (pc := 25) C dX4_shiftDepths_25 ?_
        obtain ⟨v26, h26, hf⟩ := Option.bind_eq_some_iff.mp hf
        refine g_callV' (pc := 26) hla C (c_X1_put l D cI cS a.2.2 40 t.2 x4 (v21 + x3) v26 h26) gg_RX4_32 hd_X1_put (by decide) rfl rfl rfl rfl (Nat.le_of_ble_eq_true rfl) dX4_shiftDepths_26 (seT_0depths cI cS a t) (seT_0depths cI cS a (t.1, v26)).symm [] rfl ?_
        refine g_iinc (pc := 29) C 3 (x4 + 1) [(4, .int (x4 + 1)), (0, .ref a.1), (2, .int x2), (3, .int x3)] dX4_shiftDepths_29 rfl (congrArg (HAdd.hAdd _) (by decide)) (by decide) rfl ?_
        refine g_goto (pc := 32) C 3 dX4_shiftDepths_32 (by decide) ?_
        refine g_sub [1, 2, 3, 0] (lv' := [(0, .ref a.1), (2, .int x2), (3, .int x3), (4, .int (x4 + 1))]) rfl ?_
        exact ih (t.1, v26) x2 x3 (x4 + 1) hf
  rw [T_shiftDepths] at hf
  refine g_iload_n (pc := 0) C 1 dX4_shiftDepths_0 rfl ?_
  refine g_istore (pc := 1) C [(4, .int x1), (0, .ref a.1), (1, .int x1), (2, .int x2), (3, .int x3)] dX4_shiftDepths_1 (by decide) rfl ?_
  refine g_sub [1, 3, 4, 0] (lv' := [(0, .ref a.1), (2, .int x2), (3, .int x3), (4, .int x1)]) rfl ?_
  exact L3 1000 t x2 x3 x1 hf
set_option maxHeartbeats 4000000 in
set_option maxRecDepth 100000 in
theorem c_X4_exchangeRuns (l : Launch) (D : va_G) (cI cS : ClassId) (a : aT) (t : TR) (x1 : Int32) (x2 : Int32) (x3 : Int32) (out : TR) (hf : T_exchangeRuns t x1 x2 x3 = some out) : kM l D (kTy cI cS) yX4_exchangeRuns ct_X4_exchangeRuns rm_X4_exchangeRuns [.ref a.1, .int x1, .int x2, .int x3] [wT cI a t] (kEq (none) [wT cI a out]) := by
  refine k_methodE cX4_exchangeRuns 4 none RX4 rfl [(0, .ref a.1), (1, .int x1), (2, .int x2), (3, .int x3)] rfl (by decide +kernel) (Nat.le_of_ble_eq_true rfl) (fun κ A hla C => ?_)
  refine g_chunks (flT cI cS a t).symm ?_
  rw [T_exchangeRuns] at hf
  refine g_aload_n (pc := 0) C 0 dX4_exchangeRuns_0 rfl ?_
  refine gf_RX4_14 (pc := 1) C 0 rfl dX4_exchangeRuns_1 ?_
  refine g_iload_n (pc := 4) C 1 dX4_exchangeRuns_4 rfl ?_
  refine g_iload_n (pc := 5) C 2 dX4_exchangeRuns_5 rfl ?_
  refine g_iload_n (pc := 6) C 3 dX4_exchangeRuns_6 rfl ?_
  obtain ⟨v7, h7, hf⟩ := Option.bind_eq_some_iff.mp hf
  refine g_callV' (pc := 7) hla C (c_X1_exchangeRuns l D cI cS a.2.1 40 t.1 x1 x2 x3 v7 h7) gg_RX4_83 hd_X1_exchangeRuns (by decide) rfl rfl rfl rfl (Nat.le_of_ble_eq_true rfl) dX4_exchangeRuns_7 (seT_0letters cI cS a t) (seT_0letters cI cS a (v7, t.2)).symm [] rfl ?_
  refine g_aload_n (pc := 10) C 0 dX4_exchangeRuns_10 rfl ?_
  refine gf_RX4_20 (pc := 11) C 0 rfl dX4_exchangeRuns_11 ?_
  refine g_iload_n (pc := 14) C 1 dX4_exchangeRuns_14 rfl ?_
  refine g_iload_n (pc := 15) C 2 dX4_exchangeRuns_15 rfl ?_
  refine g_iload_n (pc := 16) C 3 dX4_exchangeRuns_16 rfl ?_
  obtain ⟨v17, h17, hf⟩ := Option.bind_eq_some_iff.mp hf
  refine g_callV' (pc := 17) hla C (c_X1_exchangeRuns l D cI cS a.2.2 40 t.2 x1 x2 x3 v17 h17) gg_RX4_83 hd_X1_exchangeRuns (by decide) rfl rfl rfl rfl (Nat.le_of_ble_eq_true rfl) dX4_exchangeRuns_17 (seT_0depths cI cS a (v7, t.2)) (seT_0depths cI cS a (v7, v17)).symm [] rfl ?_
  have e := Option.some.inj hf; subst e
  exact g_rv (pc := 20) C rfl (flT cI cS a (v7, v17)) dX4_exchangeRuns_20
set_option maxHeartbeats 4000000 in
set_option maxRecDepth 100000 in
theorem c_X4_turnOf (l : Launch) (D : va_G) (cI cS : ClassId) (a : aT) (t : TR) (x1 : Int32) (out : Int32) (hf : T_turnOf t x1 = some out) : kM l D (kTy cI cS) yX4_turnOf ct_X4_turnOf rm_X4_turnOf [.ref a.1, .int x1] [wT cI a t] (kEq (some (.int out)) [wT cI a t]) := by
  refine k_methodE cX4_turnOf 5 (some .int) RX4 rfl [(0, .ref a.1), (1, .int x1)] rfl (by decide +kernel) (Nat.le_of_ble_eq_true rfl) (fun κ A hla C => ?_)
  refine g_chunks (flT cI cS a t).symm ?_
  have L20 : ∀ (fu : Nat) (t : TR) (x1 : Int32) (x3 : Int32) (x4 : Int32), T_turnOf_L20 fu t x1 x3 x4 = some out → kG κ D A 5 0 0 (kF κ D A (some (.int out)) [wT cI a t]) (csT cI cS a t) [(0, .ref a.1), (1, .int x1), (3, .int x3), (4, .int x4)] 20 [] := by
    intro fu; induction fu with
    | zero => intro t x1 x3 x4 hf; rw [T_turnOf_L20] at hf; cases hf
    | succ fu ih =>
      intro t x1 x3 x4 hf; rw [T_turnOf_L20] at hf
      refine g_iload (pc := 20) C 3 dX4_turnOf_20 rfl ?_
      refine g_iload_n (pc := 22) C 1 dX4_turnOf_22 rfl ?_
      refine g_icmp_ge (pc := 23) C 49 dX4_turnOf_23 (by decide) (fun (c23 : x1 ≤ x4) => ?_) (fun (c23 : ¬ x1 ≤ x4) => ?_)
      · have hf := k_pos c23 hf
        refine g_iload_n (pc := 49) C 2 dX4_turnOf_49 rfl ?_
        have e := Option.some.inj hf; subst e
        exact g_ri (pc := 50) C rfl (flT cI cS a t) dX4_turnOf_50
      · have hf := k_neg c23 hf
        refine g_aload_n (pc := 26) C 0 dX4_turnOf_26 rfl ?_
        refine g_iload (pc := 27) C 3 dX4_turnOf_27 rfl ?_
        obtain ⟨v29, h29, hf⟩ := Option.bind_eq_some_iff.mp hf
        refine g_callV' (pc := 29) hla C (c_X4_depthOf l D cI cS a t x4 v29 h29) gg_RX4_36 hd_X4_depthOf (by decide) rfl rfl rfl rfl (Nat.le_of_ble_eq_true rfl) dX4_turnOf_29 (seT_0 cI cS a t) (seT_0 cI cS a t).symm [.int v29] rfl ?_
        refine g_aload_n (pc := 32) C 0 dX4_turnOf_32 rfl ?_
        refine g_iload_n (pc := 33) C 1 dX4_turnOf_33 rfl ?_
        obtain ⟨v34, h34, hf⟩ := Option.bind_eq_some_iff.mp hf
        refine g_callV' (pc := 34) hla C (c_X4_depthOf l D cI cS a t x1 v34 h34) gg_RX4_36 hd_X4_depthOf (by decide) rfl rfl rfl rfl (Nat.le_of_ble_eq_true rfl) dX4_turnOf_34 (seT_0 cI cS a t) (seT_0 cI cS a t).symm [.int v34, .int v29] rfl ?_
        refine g_icmp_ne (pc := 37) C 43 dX4_turnOf_37 (by decide) (fun (c37 : ¬ v29 = v34) => ?_) (fun (c37 : v29 = v34) => ?_)
        · have hf := k_neg c37 hf
          refine g_iinc (pc := 43) C 3 (x4 + 1) [(4, .int (x4 + 1)), (0, .ref a.1), (1, .int x1), (3, .int x3)] dX4_turnOf_43 rfl (congrArg (HAdd.hAdd _) (by decide)) (by decide) rfl ?_
          refine g_goto (pc := 46) C 20 dX4_turnOf_46 (by decide) ?_
          refine g_sub [1, 2, 3, 0] (lv' := [(0, .ref a.1), (1, .int x1), (3, .int x3), (4, .int (x4 + 1))]) rfl ?_
          exact ih t x1 x3 (x4 + 1) hf
        · have hf := k_pos c37 hf
          refine g_iinc (pc := 40) C 2 (x3 + 1) [(3, .int (x3 + 1)), (0, .ref a.1), (1, .int x1), (4, .int x4)] dX4_turnOf_40 rfl (congrArg (HAdd.hAdd _) (by decide)) (by decide) rfl ?_
          refine g_iinc (pc := 43) C 3 (x4 + 1) [(4, .int (x4 + 1)), (3, .int (x3 + 1)), (0, .ref a.1), (1, .int x1)] dX4_turnOf_43 rfl (congrArg (HAdd.hAdd _) (by decide)) (by decide) rfl ?_
          refine g_goto (pc := 46) C 20 dX4_turnOf_46 (by decide) ?_
          refine g_sub [2, 3, 1, 0] (lv' := [(0, .ref a.1), (1, .int x1), (3, .int (x3 + 1)), (4, .int (x4 + 1))]) rfl ?_
          exact ih t x1 (x3 + 1) (x4 + 1) hf
  rw [T_turnOf] at hf
  refine g_aload_n (pc := 0) C 0 dX4_turnOf_0 rfl ?_
  refine g_iload_n (pc := 1) C 1 dX4_turnOf_1 rfl ?_
  obtain ⟨v2, h2, hf⟩ := Option.bind_eq_some_iff.mp hf
  refine g_callV' (pc := 2) hla C (c_X4_above l D cI cS a t x1 v2 h2) gg_RX4_52 hd_X4_above (by decide) rfl rfl rfl rfl (Nat.le_of_ble_eq_true rfl) dX4_turnOf_2 (seT_0 cI cS a t) (seT_0 cI cS a t).symm [.int v2] rfl ?_
  refine g_istore_n (pc := 5) C [(2, .int v2), (0, .ref a.1), (1, .int x1)] dX4_turnOf_5 (by decide) rfl ?_
  refine g_iload_n (pc := 6) C 0 dX4_turnOf_6 rfl ?_
  refine g_iconst (pc := 7) C (-1) dX4_turnOf_7 (by decide) ?_
  refine g_icmp_ne (pc := 8) C 13 dX4_turnOf_8 (by decide) (fun (c8 : ¬ v2 = (-1)) => ?_) (fun (c8 : v2 = (-1)) => ?_)
  · have hf := k_neg c8 hf
    refine g_iconst (pc := 13) C 0 dX4_turnOf_13 (by decide) ?_
    refine g_istore_n (pc := 14) C [(3, .int 0), (2, .int v2), (0, .ref a.1), (1, .int x1)] dX4_turnOf_14 (by decide) rfl ?_
    refine g_iload_n (pc := 15) C 1 dX4_turnOf_15 rfl ?_
    refine g_iconst (pc := 16) C 1 dX4_turnOf_16 (by decide) ?_
    refine g_iadd (pc := 17) C dX4_turnOf_17 ?_
    refine g_istore (pc := 18) C [(4, .int (v2 + 1)), (3, .int 0), (2, .int v2), (0, .ref a.1), (1, .int x1)] dX4_turnOf_18 (by decide) rfl ?_
    refine g_sub [3, 4, 1, 0] (lv' := [(0, .ref a.1), (1, .int x1), (3, .int 0), (4, .int (v2 + 1))]) rfl ?_
    exact L20 1000 t x1 0 (v2 + 1) hf
  · have hf := k_pos c8 hf
    refine g_iconst (pc := 11) C (-1) dX4_turnOf_11 (by decide) ?_
    have e := Option.some.inj hf; subst e
    exact g_ri (pc := 12) C rfl (flT cI cS a t) dX4_turnOf_12
set_option maxHeartbeats 4000000 in
set_option maxRecDepth 100000 in
theorem c_X4_clear (l : Launch) (D : va_G) (cI cS : ClassId) (a : aT) (t : TR) (out : TR) (hf : T_clear t = some out) : kM l D (kTy cI cS) yX4_clear ct_X4_clear rm_X4_clear [.ref a.1] [wT cI a t] (kEq (none) [wT cI a out]) := by
  refine k_methodE cX4_clear 1 none RX4 rfl [(0, .ref a.1)] rfl (by decide +kernel) (Nat.le_of_ble_eq_true rfl) (fun κ A hla C => ?_)
  refine g_chunks (flT cI cS a t).symm ?_
  rw [T_clear] at hf
  refine g_aload_n (pc := 0) C 0 dX4_clear_0 rfl ?_
  refine gf_RX4_14 (pc := 1) C 0 rfl dX4_clear_1 ?_
  obtain ⟨v4, h4, hf⟩ := Option.bind_eq_some_iff.mp hf
  refine g_callV' (pc := 4) hla C (c_X1_clear l D cI cS a.2.1 40 t.1 v4 h4) gg_RX4_74 hd_X1_clear (by decide) rfl rfl rfl rfl (Nat.le_of_ble_eq_true rfl) dX4_clear_4 (seT_0letters cI cS a t) (seT_0letters cI cS a (v4, t.2)).symm [] rfl ?_
  refine g_aload_n (pc := 7) C 0 dX4_clear_7 rfl ?_
  refine gf_RX4_20 (pc := 8) C 0 rfl dX4_clear_8 ?_
  obtain ⟨v11, h11, hf⟩ := Option.bind_eq_some_iff.mp hf
  refine g_callV' (pc := 11) hla C (c_X1_clear l D cI cS a.2.2 40 t.2 v11 h11) gg_RX4_74 hd_X1_clear (by decide) rfl rfl rfl rfl (Nat.le_of_ble_eq_true rfl) dX4_clear_11 (seT_0depths cI cS a (v4, t.2)) (seT_0depths cI cS a (v4, v11)).symm [] rfl ?_
  have e := Option.some.inj hf; subst e
  exact g_rv (pc := 14) C rfl (flT cI cS a (v4, v11)) dX4_clear_14
set_option maxHeartbeats 4000000 in
set_option maxRecDepth 100000 in
theorem c_X4_takePart (l : Launch) (D : va_G) (cI cS : ClassId) (a : aT) (t : TR) (b : aT) (t' : TR) (x2 : Int32) (out : TR) (hf : T_takePart t t' x2 = some out) : kM l D (kTy cI cS) yX4_takePart ct_X4_takePart rm_X4_takePart [.ref a.1, .ref b.1, .int x2] [wT cI a t, wT cI b t'] (kEq (none) [wT cI a out, wT cI b t']) := by
  refine k_methodE cX4_takePart 5 none RX4 rfl [(0, .ref a.1), (1, .ref b.1), (2, .int x2)] rfl (by decide +kernel) (Nat.le_of_ble_eq_true rfl) (fun κ A hla C => ?_)
  refine g_chunks (flTT cI cS a t b t').symm ?_
  have L13 : ∀ (fu : Nat) (t : TR) (t' : TR) (x2 : Int32) (x3 : Int32) (x4 : Int32), T_takePart_L13 fu t t' x2 x3 x4 = some out → kG κ D A 5 0 0 (kF κ D A (none) [wT cI a out, wT cI b t']) (csTT cI cS a t b t') [(0, .ref a.1), (1, .ref b.1), (2, .int x2), (3, .int x3), (4, .int x4)] 13 [] := by
    intro fu; induction fu with
    | zero => intro t t' x2 x3 x4 hf; rw [T_takePart_L13] at hf; cases hf
    | succ fu ih =>
      intro t t' x2 x3 x4 hf; rw [T_takePart_L13] at hf
      refine g_iload (pc := 13) C 4 dX4_takePart_13 rfl ?_
      refine g_iload_n (pc := 15) C 3 dX4_takePart_15 rfl ?_
      refine g_icmp_ge (pc := 16) C 51 dX4_takePart_16 (by decide) (fun (c16 : x3 ≤ x4) => ?_) (fun (c16 : ¬ x3 ≤ x4) => ?_)
      · have hf := k_pos c16 hf
        have e := Option.some.inj hf; subst e
        exact g_rv (pc := 51) C rfl (flTT cI cS a t b t') dX4_takePart_51
      · have hf := k_neg c16 hf
        refine g_aload_n (pc := 19) C 0 dX4_takePart_19 rfl ?_
        refine g_aload_n (pc := 20) C 0 dX4_takePart_20 rfl ?_
        obtain ⟨v21, h21, hf⟩ := Option.bind_eq_some_iff.mp hf
        refine g_callV' (pc := 21) hla C (c_X4_size l D cI cS a t v21 h21) gg_RX4_27 hd_X4_size (by decide) rfl rfl rfl rfl (Nat.le_of_ble_eq_true rfl) dX4_takePart_21 (seTT_0 cI cS a t b t') (seTT_0 cI cS a t b t').symm [.int v21, .ref a.1] rfl ?_
        refine g_aload_n (pc := 24) C 1 dX4_takePart_24 rfl ?_
        refine g_iload (pc := 25) C 4 dX4_takePart_25 rfl ?_
        obtain ⟨v27, h27, hf⟩ := Option.bind_eq_some_iff.mp hf
        refine g_callV' (pc := 27) hla C (c_X4_letterOf l D cI cS b t' x4 v27 h27) gg_RX4_66 hd_X4_letterOf (by decide) rfl rfl rfl rfl (Nat.le_of_ble_eq_true rfl) dX4_takePart_27 (seTT_1 cI cS a t b t') (seTT_1 cI cS a t b t').symm [.int v27, .int v21, .ref a.1] rfl ?_
        refine g_aload_n (pc := 30) C 1 dX4_takePart_30 rfl ?_
        refine g_iload (pc := 31) C 4 dX4_takePart_31 rfl ?_
        obtain ⟨v33, h33, hf⟩ := Option.bind_eq_some_iff.mp hf
        refine g_callV' (pc := 33) hla C (c_X4_depthOf l D cI cS b t' x4 v33 h33) gg_RX4_36 hd_X4_depthOf (by decide) rfl rfl rfl rfl (Nat.le_of_ble_eq_true rfl) dX4_takePart_33 (seTT_1 cI cS a t b t') (seTT_1 cI cS a t b t').symm [.int v33, .int v27, .int v21, .ref a.1] rfl ?_
        refine g_aload_n (pc := 36) C 1 dX4_takePart_36 rfl ?_
        refine g_iload_n (pc := 37) C 2 dX4_takePart_37 rfl ?_
        obtain ⟨v38, h38, hf⟩ := Option.bind_eq_some_iff.mp hf
        refine g_callV' (pc := 38) hla C (c_X4_depthOf l D cI cS b t' x2 v38 h38) gg_RX4_36 hd_X4_depthOf (by decide) rfl rfl rfl rfl (Nat.le_of_ble_eq_true rfl) dX4_takePart_38 (seTT_1 cI cS a t b t') (seTT_1 cI cS a t b t').symm [.int v38, .int v33, .int v27, .int v21, .ref a.1] rfl ?_
        refine g_isub (pc := 41) C dX4_takePart_41 ?_
        obtain ⟨v42, h42, hf⟩ := Option.bind_eq_some_iff.mp hf
        refine g_callV' (pc := 42) hla C (c_X4_putIn l D cI cS a t v21 v27 (v33 - v38) v42 h42) gg_RX4_92 hd_X4_putIn (by decide) rfl rfl rfl rfl (Nat.le_of_ble_eq_true rfl) dX4_takePart_42 (seTT_0 cI cS a t b t') (seTT_0 cI cS a v42 b t').symm [] rfl ?_
        refine g_iinc (pc := 45) C 4 (x4 + 1) [(4, .int (x4 + 1)), (0, .ref a.1), (1, .ref b.1), (2, .int x2), (3, .int x3)] dX4_takePart_45 rfl (congrArg (HAdd.hAdd _) (by decide)) (by decide) rfl ?_
        refine g_goto (pc := 48) C 13 dX4_takePart_48 (by decide) ?_
        refine g_sub [1, 2, 3, 4, 0] (lv' := [(0, .ref a.1), (1, .ref b.1), (2, .int x2), (3, .int x3), (4, .int (x4 + 1))]) rfl ?_
        exact ih v42 t' x2 x3 (x4 + 1) hf
  rw [T_takePart] at hf
  refine g_aload_n (pc := 0) C 0 dX4_takePart_0 rfl ?_
  obtain ⟨v1, h1, hf⟩ := Option.bind_eq_some_iff.mp hf
  refine g_callV' (pc := 1) hla C (c_X4_clear l D cI cS a t v1 h1) gg_RX4_91 hd_X4_clear (by decide) rfl rfl rfl rfl (Nat.le_of_ble_eq_true rfl) dX4_takePart_1 (seTT_0 cI cS a t b t') (seTT_0 cI cS a v1 b t').symm [] rfl ?_
  refine g_aload_n (pc := 4) C 1 dX4_takePart_4 rfl ?_
  refine g_iload_n (pc := 5) C 2 dX4_takePart_5 rfl ?_
  obtain ⟨v6, h6, hf⟩ := Option.bind_eq_some_iff.mp hf
  refine g_callV' (pc := 6) hla C (c_X4_endOf l D cI cS b t' x2 v6 h6) gg_RX4_43 hd_X4_endOf (by decide) rfl rfl rfl rfl (Nat.le_of_ble_eq_true rfl) dX4_takePart_6 (seTT_1 cI cS a v1 b t') (seTT_1 cI cS a v1 b t').symm [.int v6] rfl ?_
  refine g_istore_n (pc := 9) C [(3, .int v6), (0, .ref a.1), (1, .ref b.1), (2, .int x2)] dX4_takePart_9 (by decide) rfl ?_
  refine g_iload_n (pc := 10) C 3 dX4_takePart_10 rfl ?_
  refine g_istore (pc := 11) C [(4, .int x2), (3, .int v6), (0, .ref a.1), (1, .ref b.1), (2, .int x2)] dX4_takePart_11 (by decide) rfl ?_
  refine g_sub [2, 3, 4, 1, 0] (lv' := [(0, .ref a.1), (1, .ref b.1), (2, .int x2), (3, .int v6), (4, .int x2)]) rfl ?_
  exact L13 1000 v1 t' x2 v6 x2 hf
set_option maxHeartbeats 4000000 in
set_option maxRecDepth 100000 in
theorem c_X5_isMark (l : Launch) (D : va_G) (cI cS : ClassId) (x0 : Int32) (out : Int32) (hf : P_isMark x0 = some out) : kM l D (kTy cI cS) yX5_isMark ct_X5_isMark rm_X5_isMark [.int x0] [] (kEq (some (.int out)) []) := by
  refine k_methodE cX5_isMark 1 (some .boolean) RX5 rfl [(0, .int x0)] rfl (by decide +kernel) (Nat.le_of_ble_eq_true rfl) (fun κ A hla C => ?_)
  refine g_chunks (flN cI cS ).symm ?_
  rw [P_isMark] at hf
  refine g_iload_n (pc := 0) C 0 dX5_isMark_0 rfl ?_
  refine g_if_lt (pc := 1) C 13 dX5_isMark_1 (by decide) (fun (c1 : x0 < 0) => ?_) (fun (c1 : ¬ x0 < 0) => ?_)
  · have hf := k_pos c1 hf
    refine g_iconst (pc := 13) C 0 dX5_isMark_13 (by decide) ?_
    have e := Option.some.inj hf; subst e
    exact g_rz (pc := 14) C rfl (Or.inl rfl) (flN cI cS ) dX5_isMark_14
  · have hf := k_neg c1 hf
    refine g_iload_n (pc := 4) C 0 dX5_isMark_4 rfl ?_
    refine g_iconst (pc := 5) C 4 dX5_isMark_5 (by decide) ?_
    refine g_icmp_ge (pc := 6) C 13 dX5_isMark_6 (by decide) (fun (c6 : 4 ≤ x0) => ?_) (fun (c6 : ¬ 4 ≤ x0) => ?_)
    · have hf := k_pos c6 hf
      refine g_iconst (pc := 13) C 0 dX5_isMark_13 (by decide) ?_
      have e := Option.some.inj hf; subst e
      exact g_rz (pc := 14) C rfl (Or.inl rfl) (flN cI cS ) dX5_isMark_14
    · have hf := k_neg c6 hf
      refine g_iconst (pc := 9) C 1 dX5_isMark_9 (by decide) ?_
      refine g_goto (pc := 10) C 14 dX5_isMark_10 (by decide) ?_
      have e := Option.some.inj hf; subst e
      exact g_rz (pc := 14) C rfl (Or.inr rfl) (flN cI cS ) dX5_isMark_14
set_option maxHeartbeats 4000000 in
set_option maxRecDepth 100000 in
theorem c_X5_orNotFound (l : Launch) (D : va_G) (cI cS : ClassId) (x0 : Int32) (out : Int32) (hf : P_orNotFound x0 = some out) : kM l D (kTy cI cS) yX5_orNotFound ct_X5_orNotFound rm_X5_orNotFound [.int x0] [] (kEq (some (.int out)) []) := by
  refine k_methodE cX5_orNotFound 1 (some .int) RX5 rfl [(0, .int x0)] rfl (by decide +kernel) (Nat.le_of_ble_eq_true rfl) (fun κ A hla C => ?_)
  refine g_chunks (flN cI cS ).symm ?_
  rw [P_orNotFound] at hf
  refine g_iload_n (pc := 0) C 0 dX5_orNotFound_0 rfl ?_
  refine g_iconst (pc := 1) C (-1) dX5_orNotFound_1 (by decide) ?_
  refine g_icmp_ne (pc := 2) C 10 dX5_orNotFound_2 (by decide) (fun (c2 : ¬ x0 = (-1)) => ?_) (fun (c2 : x0 = (-1)) => ?_)
  · have hf := k_neg c2 hf
    refine g_iload_n (pc := 10) C 0 dX5_orNotFound_10 rfl ?_
    have e := Option.some.inj hf; subst e
    exact g_ri (pc := 11) C rfl (flN cI cS ) dX5_orNotFound_11
  · have hf := k_pos c2 hf
    refine g_bipush (pc := 5) C (-4) dX5_orNotFound_5 (by decide) ?_
    refine g_goto (pc := 7) C 11 dX5_orNotFound_7 (by decide) ?_
    have e := Option.some.inj hf; subst e
    exact g_ri (pc := 11) C rfl (flN cI cS ) dX5_orNotFound_11
set_option maxHeartbeats 4000000 in
set_option maxRecDepth 100000 in
theorem c_X4_leaves (l : Launch) (D : va_G) (cI cS : ClassId) (a : aT) (t : TR) (out : Int32) (hf : T_leaves t = some out) : kM l D (kTy cI cS) yX4_leaves ct_X4_leaves rm_X4_leaves [.ref a.1] [wT cI a t] (kEq (some (.int out)) [wT cI a t]) := by
  refine k_methodE cX4_leaves 3 (some .int) RX4 rfl [(0, .ref a.1)] rfl (by decide +kernel) (Nat.le_of_ble_eq_true rfl) (fun κ A hla C => ?_)
  refine g_chunks (flT cI cS a t).symm ?_
  have L4 : ∀ (fu : Nat) (t : TR) (x1 : Int32) (x2 : Int32), T_leaves_L4 fu t x1 x2 = some out → kG κ D A 3 0 0 (kF κ D A (some (.int out)) [wT cI a t]) (csT cI cS a t) [(0, .ref a.1), (1, .int x1), (2, .int x2)] 4 [] := by
    intro fu; induction fu with
    | zero => intro t x1 x2 hf; rw [T_leaves_L4] at hf; cases hf
    | succ fu ih =>
      intro t x1 x2 hf; rw [T_leaves_L4] at hf
      refine g_iload_n (pc := 4) C 2 dX4_leaves_4 rfl ?_
      refine g_aload_n (pc := 5) C 0 dX4_leaves_5 rfl ?_
      obtain ⟨v6, h6, hf⟩ := Option.bind_eq_some_iff.mp hf
      refine g_callV' (pc := 6) hla C (c_X4_size l D cI cS a t v6 h6) gg_RX4_27 hd_X4_size (by decide) rfl rfl rfl rfl (Nat.le_of_ble_eq_true rfl) dX4_leaves_6 (seT_0 cI cS a t) (seT_0 cI cS a t).symm [.int v6, .int x2] rfl ?_
      refine g_icmp_ge (pc := 9) C 29 dX4_leaves_9 (by decide) (fun (c9 : v6 ≤ x2) => ?_) (fun (c9 : ¬ v6 ≤ x2) => ?_)
      · have hf := k_pos c9 hf
        refine g_iload_n (pc := 29) C 1 dX4_leaves_29 rfl ?_
        have e := Option.some.inj hf; subst e
        exact g_ri (pc := 30) C rfl (flT cI cS a t) dX4_leaves_30
      · have hf := k_neg c9 hf
        refine g_aload_n (pc := 12) C 0 dX4_leaves_12 rfl ?_
        refine g_iload_n (pc := 13) C 2 dX4_leaves_13 rfl ?_
        obtain ⟨v14, h14, hf⟩ := Option.bind_eq_some_iff.mp hf
        refine g_callV' (pc := 14) hla C (c_X4_childrenOf l D cI cS a t x2 v14 h14) gg_RX4_46 hd_X4_childrenOf (by decide) rfl rfl rfl rfl (Nat.le_of_ble_eq_true rfl) dX4_leaves_14 (seT_0 cI cS a t) (seT_0 cI cS a t).symm [.int v14] rfl ?_
        refine g_if_ne (pc := 17) C 23 dX4_leaves_17 (by decide) (fun (c17 : ¬ v14 = 0) => ?_) (fun (c17 : v14 = 0) => ?_)
        · have hf := k_neg c17 hf
          refine g_iinc (pc := 23) C 2 (x2 + 1) [(2, .int (x2 + 1)), (0, .ref a.1), (1, .int x1)] dX4_leaves_23 rfl (congrArg (HAdd.hAdd _) (by decide)) (by decide) rfl ?_
          refine g_goto (pc := 26) C 4 dX4_leaves_26 (by decide) ?_
          refine g_sub [1, 2, 0] (lv' := [(0, .ref a.1), (1, .int x1), (2, .int (x2 + 1))]) rfl ?_
          exact ih t x1 (x2 + 1) hf
        · have hf := k_pos c17 hf
          refine g_iinc (pc := 20) C 1 (x1 + 1) [(1, .int (x1 + 1)), (0, .ref a.1), (2, .int x2)] dX4_leaves_20 rfl (congrArg (HAdd.hAdd _) (by decide)) (by decide) rfl ?_
          refine g_iinc (pc := 23) C 2 (x2 + 1) [(2, .int (x2 + 1)), (1, .int (x1 + 1)), (0, .ref a.1)] dX4_leaves_23 rfl (congrArg (HAdd.hAdd _) (by decide)) (by decide) rfl ?_
          refine g_goto (pc := 26) C 4 dX4_leaves_26 (by decide) ?_
          refine g_sub [2, 1, 0] (lv' := [(0, .ref a.1), (1, .int (x1 + 1)), (2, .int (x2 + 1))]) rfl ?_
          exact ih t (x1 + 1) (x2 + 1) hf
  rw [T_leaves] at hf
  refine g_iconst (pc := 0) C 0 dX4_leaves_0 (by decide) ?_
  refine g_istore_n (pc := 1) C [(1, .int 0), (0, .ref a.1)] dX4_leaves_1 (by decide) rfl ?_
  refine g_iconst (pc := 2) C 0 dX4_leaves_2 (by decide) ?_
  refine g_istore_n (pc := 3) C [(2, .int 0), (1, .int 0), (0, .ref a.1)] dX4_leaves_3 (by decide) rfl ?_
  refine g_sub [2, 1, 0] (lv' := [(0, .ref a.1), (1, .int 0), (2, .int 0)]) rfl ?_
  exact L4 1000 t 0 0 hf
set_option maxHeartbeats 4000000 in
set_option maxRecDepth 100000 in
theorem c_J6_bitCount_0f7a4 (l : Launch) (D : va_G) (cI cS : ClassId) (x0 : Int32) (out : Int32) (hf : J_bitCount x0 = some out) : kM l D (kTy cI cS) yJ6_bitCount_0f7a4 ct_J6_bitCount_0f7a4 rm_J6_bitCount_0f7a4 [.int x0] [] (kEq (some (.int out)) []) := by
  refine k_methodE cJ6_bitCount_0f7a4 1 (some .int) RJ6 rfl [(0, .int x0)] rfl (by decide +kernel) (Nat.le_of_ble_eq_true rfl) (fun κ A hla C => ?_)
  refine g_chunks (flN cI cS ).symm ?_
  rw [J_bitCount] at hf
  refine g_iload_n (pc := 0) C 0 dJ6_bitCount_0f7a4_0 rfl ?_
  refine g_iload_n (pc := 1) C 0 dJ6_bitCount_0f7a4_1 rfl ?_
  refine g_iconst (pc := 2) C 1 dJ6_bitCount_0f7a4_2 (by decide) ?_
  refine g_iushr (pc := 3) C dJ6_bitCount_0f7a4_3 ?_
  refine g_ldcw (pc := 4) C 1431655765 m_548 dJ6_bitCount_0f7a4_4 ?_
  refine g_iand (pc := 7) C dJ6_bitCount_0f7a4_7 ?_
  refine g_isub (pc := 8) C dJ6_bitCount_0f7a4_8 ?_
  refine g_istore_n (pc := 9) C [(0, .int (x0 - ((iushr x0 1) &&& 1431655765)))] dJ6_bitCount_0f7a4_9 (by decide) rfl ?_
  refine g_iload_n (pc := 10) C 0 dJ6_bitCount_0f7a4_10 rfl ?_
  refine g_ldcw (pc := 11) C 858993459 m_549 dJ6_bitCount_0f7a4_11 ?_
  refine g_iand (pc := 14) C dJ6_bitCount_0f7a4_14 ?_
  refine g_iload_n (pc := 15) C 0 dJ6_bitCount_0f7a4_15 rfl ?_
  refine g_iconst (pc := 16) C 2 dJ6_bitCount_0f7a4_16 (by decide) ?_
  refine g_iushr (pc := 17) C dJ6_bitCount_0f7a4_17 ?_
  refine g_ldcw (pc := 18) C 858993459 m_549 dJ6_bitCount_0f7a4_18 ?_
  refine g_iand (pc := 21) C dJ6_bitCount_0f7a4_21 ?_
  refine g_iadd (pc := 22) C dJ6_bitCount_0f7a4_22 ?_
  refine g_istore_n (pc := 23) C [(0, .int (((x0 - ((iushr x0 1) &&& 1431655765)) &&& 858993459) + ((iushr (x0 - ((iushr x0 1) &&& 1431655765)) 2) &&& 858993459)))] dJ6_bitCount_0f7a4_23 (by decide) rfl ?_
  refine g_iload_n (pc := 24) C 0 dJ6_bitCount_0f7a4_24 rfl ?_
  refine g_iload_n (pc := 25) C 0 dJ6_bitCount_0f7a4_25 rfl ?_
  refine g_iconst (pc := 26) C 4 dJ6_bitCount_0f7a4_26 (by decide) ?_
  refine g_iushr (pc := 27) C dJ6_bitCount_0f7a4_27 ?_
  refine g_iadd (pc := 28) C dJ6_bitCount_0f7a4_28 ?_
  refine g_ldcw (pc := 29) C 252645135 m_550 dJ6_bitCount_0f7a4_29 ?_
  refine g_iand (pc := 32) C dJ6_bitCount_0f7a4_32 ?_
  refine g_istore_n (pc := 33) C [(0, .int (((((x0 - ((iushr x0 1) &&& 1431655765)) &&& 858993459) + ((iushr (x0 - ((iushr x0 1) &&& 1431655765)) 2) &&& 858993459)) + (iushr (((x0 - ((iushr x0 1) &&& 1431655765)) &&& 858993459) + ((iushr (x0 - ((iushr x0 1) &&& 1431655765)) 2) &&& 858993459)) 4)) &&& 252645135))] dJ6_bitCount_0f7a4_33 (by decide) rfl ?_
  refine g_iload_n (pc := 34) C 0 dJ6_bitCount_0f7a4_34 rfl ?_
  refine g_iload_n (pc := 35) C 0 dJ6_bitCount_0f7a4_35 rfl ?_
  refine g_bipush (pc := 36) C 8 dJ6_bitCount_0f7a4_36 (by decide) ?_
  refine g_iushr (pc := 38) C dJ6_bitCount_0f7a4_38 ?_
  refine g_iadd (pc := 39) C dJ6_bitCount_0f7a4_39 ?_
  refine g_istore_n (pc := 40) C [(0, .int ((((((x0 - ((iushr x0 1) &&& 1431655765)) &&& 858993459) + ((iushr (x0 - ((iushr x0 1) &&& 1431655765)) 2) &&& 858993459)) + (iushr (((x0 - ((iushr x0 1) &&& 1431655765)) &&& 858993459) + ((iushr (x0 - ((iushr x0 1) &&& 1431655765)) 2) &&& 858993459)) 4)) &&& 252645135) + (iushr (((((x0 - ((iushr x0 1) &&& 1431655765)) &&& 858993459) + ((iushr (x0 - ((iushr x0 1) &&& 1431655765)) 2) &&& 858993459)) + (iushr (((x0 - ((iushr x0 1) &&& 1431655765)) &&& 858993459) + ((iushr (x0 - ((iushr x0 1) &&& 1431655765)) 2) &&& 858993459)) 4)) &&& 252645135) 8)))] dJ6_bitCount_0f7a4_40 (by decide) rfl ?_
  refine g_iload_n (pc := 41) C 0 dJ6_bitCount_0f7a4_41 rfl ?_
  refine g_iload_n (pc := 42) C 0 dJ6_bitCount_0f7a4_42 rfl ?_
  refine g_bipush (pc := 43) C 16 dJ6_bitCount_0f7a4_43 (by decide) ?_
  refine g_iushr (pc := 45) C dJ6_bitCount_0f7a4_45 ?_
  refine g_iadd (pc := 46) C dJ6_bitCount_0f7a4_46 ?_
  refine g_istore_n (pc := 47) C [(0, .int (((((((x0 - ((iushr x0 1) &&& 1431655765)) &&& 858993459) + ((iushr (x0 - ((iushr x0 1) &&& 1431655765)) 2) &&& 858993459)) + (iushr (((x0 - ((iushr x0 1) &&& 1431655765)) &&& 858993459) + ((iushr (x0 - ((iushr x0 1) &&& 1431655765)) 2) &&& 858993459)) 4)) &&& 252645135) + (iushr (((((x0 - ((iushr x0 1) &&& 1431655765)) &&& 858993459) + ((iushr (x0 - ((iushr x0 1) &&& 1431655765)) 2) &&& 858993459)) + (iushr (((x0 - ((iushr x0 1) &&& 1431655765)) &&& 858993459) + ((iushr (x0 - ((iushr x0 1) &&& 1431655765)) 2) &&& 858993459)) 4)) &&& 252645135) 8)) + (iushr ((((((x0 - ((iushr x0 1) &&& 1431655765)) &&& 858993459) + ((iushr (x0 - ((iushr x0 1) &&& 1431655765)) 2) &&& 858993459)) + (iushr (((x0 - ((iushr x0 1) &&& 1431655765)) &&& 858993459) + ((iushr (x0 - ((iushr x0 1) &&& 1431655765)) 2) &&& 858993459)) 4)) &&& 252645135) + (iushr (((((x0 - ((iushr x0 1) &&& 1431655765)) &&& 858993459) + ((iushr (x0 - ((iushr x0 1) &&& 1431655765)) 2) &&& 858993459)) + (iushr (((x0 - ((iushr x0 1) &&& 1431655765)) &&& 858993459) + ((iushr (x0 - ((iushr x0 1) &&& 1431655765)) 2) &&& 858993459)) 4)) &&& 252645135) 8)) 16)))] dJ6_bitCount_0f7a4_47 (by decide) rfl ?_
  refine g_iload_n (pc := 48) C 0 dJ6_bitCount_0f7a4_48 rfl ?_
  refine g_bipush (pc := 49) C 63 dJ6_bitCount_0f7a4_49 (by decide) ?_
  refine g_iand (pc := 51) C dJ6_bitCount_0f7a4_51 ?_
  have e := Option.some.inj hf; subst e
  exact g_ri (pc := 52) C rfl (flN cI cS ) dJ6_bitCount_0f7a4_52
set_option maxHeartbeats 4000000 in
set_option maxRecDepth 100000 in
theorem c_X4_unlikeLetters (l : Launch) (D : va_G) (cI cS : ClassId) (a : aT) (t : TR) (out : Int32) (hf : T_unlikeLetters t = some out) : kM l D (kTy cI cS) yX4_unlikeLetters ct_X4_unlikeLetters rm_X4_unlikeLetters [.ref a.1] [wT cI a t] (kEq (some (.int out)) [wT cI a t]) := by
  refine k_methodE cX4_unlikeLetters 3 (some .int) RX4 rfl [(0, .ref a.1)] rfl (by decide +kernel) (Nat.le_of_ble_eq_true rfl) (fun κ A hla C => ?_)
  refine g_chunks (flT cI cS a t).symm ?_
  have L4 : ∀ (fu : Nat) (t : TR) (x1 : Int32) (x2 : Int32), T_unlikeLetters_L4 fu t x1 x2 = some out → kG κ D A 3 0 0 (kF κ D A (some (.int out)) [wT cI a t]) (csT cI cS a t) [(0, .ref a.1), (1, .int x1), (2, .int x2)] 4 [] := by
    intro fu; induction fu with
    | zero => intro t x1 x2 hf; rw [T_unlikeLetters_L4] at hf; cases hf
    | succ fu ih =>
      intro t x1 x2 hf; rw [T_unlikeLetters_L4] at hf
      refine g_iload_n (pc := 4) C 2 dX4_unlikeLetters_4 rfl ?_
      refine g_aload_n (pc := 5) C 0 dX4_unlikeLetters_5 rfl ?_
      obtain ⟨v6, h6, hf⟩ := Option.bind_eq_some_iff.mp hf
      refine g_callV' (pc := 6) hla C (c_X4_size l D cI cS a t v6 h6) gg_RX4_27 hd_X4_size (by decide) rfl rfl rfl rfl (Nat.le_of_ble_eq_true rfl) dX4_unlikeLetters_6 (seT_0 cI cS a t) (seT_0 cI cS a t).symm [.int v6, .int x2] rfl ?_
      refine g_icmp_ge (pc := 9) C 28 dX4_unlikeLetters_9 (by decide) (fun (c9 : v6 ≤ x2) => ?_) (fun (c9 : ¬ v6 ≤ x2) => ?_)
      · have hf := k_pos c9 hf
        refine g_iload_n (pc := 28) C 1 dX4_unlikeLetters_28 rfl ?_
        obtain ⟨v29, h29, hf⟩ := Option.bind_eq_some_iff.mp hf
        refine g_callS' (pc := 29) hla C (c_J6_bitCount_0f7a4 l D cI cS x1 v29 h29) tb_J6_bitCount_0f7a4 m_545 m_J6_bitCount_0f7a4_static m_ini_RJ6 hd_J6_bitCount_0f7a4 (by decide) rfl rfl (Nat.le_of_ble_eq_true rfl) dX4_unlikeLetters_29 (seT_nil cI cS a t) (seT_nil cI cS a t).symm [.int v29] rfl ?_
        have e := Option.some.inj hf; subst e
        exact g_ri (pc := 32) C rfl (flT cI cS a t) dX4_unlikeLetters_32
      · have hf := k_neg c9 hf
        refine g_iload_n (pc := 12) C 1 dX4_unlikeLetters_12 rfl ?_
        refine g_iconst (pc := 13) C 1 dX4_unlikeLetters_13 (by decide) ?_
        refine g_aload_n (pc := 14) C 0 dX4_unlikeLetters_14 rfl ?_
        refine g_iload_n (pc := 15) C 2 dX4_unlikeLetters_15 rfl ?_
        obtain ⟨v16, h16, hf⟩ := Option.bind_eq_some_iff.mp hf
        refine g_callV' (pc := 16) hla C (c_X4_letterOf l D cI cS a t x2 v16 h16) gg_RX4_66 hd_X4_letterOf (by decide) rfl rfl rfl rfl (Nat.le_of_ble_eq_true rfl) dX4_unlikeLetters_16 (seT_0 cI cS a t) (seT_0 cI cS a t).symm [.int v16, .int 1, .int x1] rfl ?_
        refine g_ishl (pc := 19) C dX4_unlikeLetters_19 ?_
        refine g_ior (pc := 20) C dX4_unlikeLetters_20 ?_
        refine g_istore_n (pc := 21) C [(1, .int (x1 ||| (1 <<< (v16 &&& 31)))), (0, .ref a.1), (2, .int x2)] dX4_unlikeLetters_21 (by decide) rfl ?_
        refine g_iinc (pc := 22) C 2 (x2 + 1) [(2, .int (x2 + 1)), (1, .int (x1 ||| (1 <<< (v16 &&& 31)))), (0, .ref a.1)] dX4_unlikeLetters_22 rfl (congrArg (HAdd.hAdd _) (by decide)) (by decide) rfl ?_
        refine g_goto (pc := 25) C 4 dX4_unlikeLetters_25 (by decide) ?_
        refine g_sub [2, 1, 0] (lv' := [(0, .ref a.1), (1, .int (x1 ||| (1 <<< (v16 &&& 31)))), (2, .int (x2 + 1))]) rfl ?_
        exact ih t (x1 ||| (1 <<< (v16 &&& 31))) (x2 + 1) hf
  rw [T_unlikeLetters] at hf
  refine g_iconst (pc := 0) C 0 dX4_unlikeLetters_0 (by decide) ?_
  refine g_istore_n (pc := 1) C [(1, .int 0), (0, .ref a.1)] dX4_unlikeLetters_1 (by decide) rfl ?_
  refine g_iconst (pc := 2) C 0 dX4_unlikeLetters_2 (by decide) ?_
  refine g_istore_n (pc := 3) C [(2, .int 0), (1, .int 0), (0, .ref a.1)] dX4_unlikeLetters_3 (by decide) rfl ?_
  refine g_sub [2, 1, 0] (lv' := [(0, .ref a.1), (1, .int 0), (2, .int 0)]) rfl ?_
  exact L4 1000 t 0 0 hf
set_option maxHeartbeats 4000000 in
set_option maxRecDepth 100000 in
theorem c_X4_alike (l : Launch) (D : va_G) (cI cS : ClassId) (a : aT) (t : TR) (x1 : Int32) (x2 : Int32) (out : Int32) (hf : T_alike t x1 x2 = some out) : kM l D (kTy cI cS) yX4_alike ct_X4_alike rm_X4_alike [.ref a.1, .int x1, .int x2] [wT cI a t] (kEq (some (.int out)) [wT cI a t]) := by
  refine k_methodE cX4_alike 6 (some .boolean) RX4 rfl [(0, .ref a.1), (1, .int x1), (2, .int x2)] rfl (by decide +kernel) (Nat.le_of_ble_eq_true rfl) (fun κ A hla C => ?_)
  refine g_chunks (flT cI cS a t).symm ?_
  have L37 : ∀ (fu : Nat) (t : TR) (x1 : Int32) (x2 : Int32) (x3 : Int32) (x4 : Int32) (x5 : Int32), T_alike_L37 fu t x1 x2 x3 x4 x5 = some out → kG κ D A 6 0 0 (kF κ D A (some (.int out)) [wT cI a t]) (csT cI cS a t) [(0, .ref a.1), (1, .int x1), (2, .int x2), (3, .int x3), (4, .int x4), (5, .int x5)] 37 [] := by
    intro fu; induction fu with
    | zero => intro t x1 x2 x3 x4 x5 hf; rw [T_alike_L37] at hf; cases hf
    | succ fu ih =>
      intro t x1 x2 x3 x4 x5 hf; rw [T_alike_L37] at hf
      refine g_iload (pc := 37) C 5 dX4_alike_37 rfl ?_
      refine g_iload_n (pc := 39) C 3 dX4_alike_39 rfl ?_
      refine g_icmp_ge (pc := 40) C 92 dX4_alike_40 (by decide) (fun (c40 : x3 ≤ x5) => ?_) (fun (c40 : ¬ x3 ≤ x5) => ?_)
      · have hf := k_pos c40 hf
        refine g_iconst (pc := 92) C 1 dX4_alike_92 (by decide) ?_
        have e := Option.some.inj hf; subst e
        exact g_rz (pc := 93) C rfl (Or.inr rfl) (flT cI cS a t) dX4_alike_93
      · have hf := k_neg c40 hf
        refine g_aload_n (pc := 43) C 0 dX4_alike_43 rfl ?_
        refine g_iload_n (pc := 44) C 1 dX4_alike_44 rfl ?_
        refine g_iload (pc := 45) C 5 dX4_alike_45 rfl ?_
        refine g_iadd (pc := 47) C dX4_alike_47 ?_
        obtain ⟨v48, h48, hf⟩ := Option.bind_eq_some_iff.mp hf
        refine g_callV' (pc := 48) hla C (c_X4_letterOf l D cI cS a t (x1 + x5) v48 h48) gg_RX4_66 hd_X4_letterOf (by decide) rfl rfl rfl rfl (Nat.le_of_ble_eq_true rfl) dX4_alike_48 (seT_0 cI cS a t) (seT_0 cI cS a t).symm [.int v48] rfl ?_
        refine g_aload_n (pc := 51) C 0 dX4_alike_51 rfl ?_
        refine g_iload_n (pc := 52) C 2 dX4_alike_52 rfl ?_
        refine g_iload (pc := 53) C 5 dX4_alike_53 rfl ?_
        refine g_iadd (pc := 55) C dX4_alike_55 ?_
        obtain ⟨v56, h56, hf⟩ := Option.bind_eq_some_iff.mp hf
        refine g_callV' (pc := 56) hla C (c_X4_letterOf l D cI cS a t (x2 + x5) v56 h56) gg_RX4_66 hd_X4_letterOf (by decide) rfl rfl rfl rfl (Nat.le_of_ble_eq_true rfl) dX4_alike_56 (seT_0 cI cS a t) (seT_0 cI cS a t).symm [.int v56, .int v48] rfl ?_
        refine g_icmp_ne (pc := 59) C 84 dX4_alike_59 (by decide) (fun (c59 : ¬ v48 = v56) => ?_) (fun (c59 : v48 = v56) => ?_)
        · have hf := k_neg c59 hf
          refine g_iconst (pc := 84) C 0 dX4_alike_84 (by decide) ?_
          have e := Option.some.inj hf; subst e
          exact g_rz (pc := 85) C rfl (Or.inl rfl) (flT cI cS a t) dX4_alike_85
        · have hf := k_pos c59 hf
          refine g_aload_n (pc := 62) C 0 dX4_alike_62 rfl ?_
          refine g_iload_n (pc := 63) C 1 dX4_alike_63 rfl ?_
          refine g_iload (pc := 64) C 5 dX4_alike_64 rfl ?_
          refine g_iadd (pc := 66) C dX4_alike_66 ?_
          obtain ⟨v67, h67, hf⟩ := Option.bind_eq_some_iff.mp hf
          refine g_callV' (pc := 67) hla C (c_X4_depthOf l D cI cS a t (x1 + x5) v67 h67) gg_RX4_36 hd_X4_depthOf (by decide) rfl rfl rfl rfl (Nat.le_of_ble_eq_true rfl) dX4_alike_67 (seT_0 cI cS a t) (seT_0 cI cS a t).symm [.int v67] rfl ?_
          refine g_iload (pc := 70) C 4 dX4_alike_70 rfl ?_
          refine g_iadd (pc := 72) C dX4_alike_72 ?_
          refine g_aload_n (pc := 73) C 0 dX4_alike_73 rfl ?_
          refine g_iload_n (pc := 74) C 2 dX4_alike_74 rfl ?_
          refine g_iload (pc := 75) C 5 dX4_alike_75 rfl ?_
          refine g_iadd (pc := 77) C dX4_alike_77 ?_
          obtain ⟨v78, h78, hf⟩ := Option.bind_eq_some_iff.mp hf
          refine g_callV' (pc := 78) hla C (c_X4_depthOf l D cI cS a t (x2 + x5) v78 h78) gg_RX4_36 hd_X4_depthOf (by decide) rfl rfl rfl rfl (Nat.le_of_ble_eq_true rfl) dX4_alike_78 (seT_0 cI cS a t) (seT_0 cI cS a t).symm [.int v78, .int (v67 + x4)] rfl ?_
          refine g_icmp_eq (pc := 81) C 86 dX4_alike_81 (by decide) (fun (c81 : (v67 + x4) = v78) => ?_) (fun (c81 : ¬ (v67 + x4) = v78) => ?_)
          · have hf := k_pos c81 hf
            refine g_iinc (pc := 86) C 5 (x5 + 1) [(5, .int (x5 + 1)), (0, .ref a.1), (1, .int x1), (2, .int x2), (3, .int x3), (4, .int x4)] dX4_alike_86 rfl (congrArg (HAdd.hAdd _) (by decide)) (by decide) rfl ?_
            refine g_goto (pc := 89) C 37 dX4_alike_89 (by decide) ?_
            refine g_sub [1, 2, 3, 4, 5, 0] (lv' := [(0, .ref a.1), (1, .int x1), (2, .int x2), (3, .int x3), (4, .int x4), (5, .int (x5 + 1))]) rfl ?_
            exact ih t x1 x2 x3 x4 (x5 + 1) hf
          · have hf := k_neg c81 hf
            refine g_iconst (pc := 84) C 0 dX4_alike_84 (by decide) ?_
            have e := Option.some.inj hf; subst e
            exact g_rz (pc := 85) C rfl (Or.inl rfl) (flT cI cS a t) dX4_alike_85
  rw [T_alike] at hf
  refine g_aload_n (pc := 0) C 0 dX4_alike_0 rfl ?_
  refine g_iload_n (pc := 1) C 1 dX4_alike_1 rfl ?_
  obtain ⟨v2, h2, hf⟩ := Option.bind_eq_some_iff.mp hf
  refine g_callV' (pc := 2) hla C (c_X4_endOf l D cI cS a t x1 v2 h2) gg_RX4_43 hd_X4_endOf (by decide) rfl rfl rfl rfl (Nat.le_of_ble_eq_true rfl) dX4_alike_2 (seT_0 cI cS a t) (seT_0 cI cS a t).symm [.int v2] rfl ?_
  refine g_iload_n (pc := 5) C 1 dX4_alike_5 rfl ?_
  refine g_isub (pc := 6) C dX4_alike_6 ?_
  refine g_istore_n (pc := 7) C [(3, .int (v2 - x1)), (0, .ref a.1), (1, .int x1), (2, .int x2)] dX4_alike_7 (by decide) rfl ?_
  refine g_iload_n (pc := 8) C 0 dX4_alike_8 rfl ?_
  refine g_aload_n (pc := 9) C 1 dX4_alike_9 rfl ?_
  refine g_iload_n (pc := 10) C 3 dX4_alike_10 rfl ?_
  obtain ⟨v11, h11, hf⟩ := Option.bind_eq_some_iff.mp hf
  refine g_callV' (pc := 11) hla C (c_X4_endOf l D cI cS a t x2 v11 h11) gg_RX4_43 hd_X4_endOf (by decide) rfl rfl rfl rfl (Nat.le_of_ble_eq_true rfl) dX4_alike_11 (seT_0 cI cS a t) (seT_0 cI cS a t).symm [.int v11, .int (v2 - x1)] rfl ?_
  refine g_iload_n (pc := 14) C 3 dX4_alike_14 rfl ?_
  refine g_isub (pc := 15) C dX4_alike_15 ?_
  refine g_icmp_eq (pc := 16) C 21 dX4_alike_16 (by decide) (fun (c16 : (v2 - x1) = (v11 - x2)) => ?_) (fun (c16 : ¬ (v2 - x1) = (v11 - x2)) => ?_)
  · have hf := k_pos c16 hf
    refine g_aload_n (pc := 21) C 1 dX4_alike_21 rfl ?_
    refine g_iload_n (pc := 22) C 3 dX4_alike_22 rfl ?_
    obtain ⟨v23, h23, hf⟩ := Option.bind_eq_some_iff.mp hf
    refine g_callV' (pc := 23) hla C (c_X4_depthOf l D cI cS a t x2 v23 h23) gg_RX4_36 hd_X4_depthOf (by decide) rfl rfl rfl rfl (Nat.le_of_ble_eq_true rfl) dX4_alike_23 (seT_0 cI cS a t) (seT_0 cI cS a t).symm [.int v23] rfl ?_
    refine g_aload_n (pc := 26) C 1 dX4_alike_26 rfl ?_
    refine g_iload_n (pc := 27) C 2 dX4_alike_27 rfl ?_
    obtain ⟨v28, h28, hf⟩ := Option.bind_eq_some_iff.mp hf
    refine g_callV' (pc := 28) hla C (c_X4_depthOf l D cI cS a t x1 v28 h28) gg_RX4_36 hd_X4_depthOf (by decide) rfl rfl rfl rfl (Nat.le_of_ble_eq_true rfl) dX4_alike_28 (seT_0 cI cS a t) (seT_0 cI cS a t).symm [.int v28, .int v23] rfl ?_
    refine g_isub (pc := 31) C dX4_alike_31 ?_
    refine g_istore (pc := 32) C [(4, .int (v23 - v28)), (3, .int (v2 - x1)), (0, .ref a.1), (1, .int x1), (2, .int x2)] dX4_alike_32 (by decide) rfl ?_
    refine g_iconst (pc := 34) C 0 dX4_alike_34 (by decide) ?_
    refine g_istore (pc := 35) C [(5, .int 0), (4, .int (v23 - v28)), (3, .int (v2 - x1)), (0, .ref a.1), (1, .int x1), (2, .int x2)] dX4_alike_35 (by decide) rfl ?_
    refine g_sub [3, 4, 5, 2, 1, 0] (lv' := [(0, .ref a.1), (1, .int x1), (2, .int x2), (3, .int (v2 - x1)), (4, .int (v23 - v28)), (5, .int 0)]) rfl ?_
    exact L37 1000 t x1 x2 (v2 - x1) (v23 - v28) 0 hf
  · have hf := k_neg c16 hf
    refine g_iconst (pc := 19) C 0 dX4_alike_19 (by decide) ?_
    have e := Option.some.inj hf; subst e
    exact g_rz (pc := 20) C rfl (Or.inl rfl) (flT cI cS a t) dX4_alike_20
set_option maxHeartbeats 4000000 in
set_option maxRecDepth 100000 in
theorem c_X4_appendClosings (l : Launch) (D : va_G) (cI cS : ClassId) (a : aR) (n : Nat) (r : RW) (x1 : Int32) (out : RW) (hf : T_appendClosings n r x1 = some out) : kM l D (kTy cI cS) yX4_appendClosings ct_X4_appendClosings rm_X4_appendClosings [.ref a.1, .int x1] [wR cI a n r] (kEq (none) [wR cI a n out]) := by
  refine k_methodE cX4_appendClosings 3 none RX4 rfl [(0, .ref a.1), (1, .int x1)] rfl (by decide +kernel) (Nat.le_of_ble_eq_true rfl) (fun κ A hla C => ?_)
  refine g_chunks (flr cI cS a n r).symm ?_
  have L2 : ∀ (fu : Nat) (n : Nat) (r : RW) (x1 : Int32) (x2 : Int32), T_appendClosings_L2 fu n r x1 x2 = some out → kG κ D A 3 0 0 (kF κ D A (none) [wR cI a n out]) (csr cI cS a n r) [(0, .ref a.1), (1, .int x1), (2, .int x2)] 2 [] := by
    intro fu; induction fu with
    | zero => intro n r x1 x2 hf; rw [T_appendClosings_L2] at hf; cases hf
    | succ fu ih =>
      intro n r x1 x2 hf; rw [T_appendClosings_L2] at hf
      refine g_iload_n (pc := 2) C 2 dX4_appendClosings_2 rfl ?_
      refine g_iload_n (pc := 3) C 1 dX4_appendClosings_3 rfl ?_
      refine g_icmp_ge (pc := 4) C 19 dX4_appendClosings_4 (by decide) (fun (c4 : x1 ≤ x2) => ?_) (fun (c4 : ¬ x1 ≤ x2) => ?_)
      · have hf := k_pos c4 hf
        have e := Option.some.inj hf; subst e
        exact g_rv (pc := 19) C rfl (flr cI cS a n r) dX4_appendClosings_19
      · have hf := k_neg c4 hf
        refine g_aload_n (pc := 7) C 0 dX4_appendClosings_7 rfl ?_
        refine g_bipush (pc := 8) C 41 dX4_appendClosings_8 (by decide) ?_
        obtain ⟨v10, h10, hf⟩ := Option.bind_eq_some_iff.mp hf
        refine g_callV' (pc := 10) hla C (c_X1_add l D cI cS a n r 41 v10 h10) gg_RX4_94 hd_X1_add (by decide) rfl rfl rfl rfl (Nat.le_of_ble_eq_true rfl) dX4_appendClosings_10 (ser_0 cI cS a n r) (ser_0 cI cS a n v10).symm [] rfl ?_
        refine g_iinc (pc := 13) C 2 (x2 + 1) [(2, .int (x2 + 1)), (0, .ref a.1), (1, .int x1)] dX4_appendClosings_13 rfl (congrArg (HAdd.hAdd _) (by decide)) (by decide) rfl ?_
        refine g_goto (pc := 16) C 2 dX4_appendClosings_16 (by decide) ?_
        refine g_sub [1, 2, 0] (lv' := [(0, .ref a.1), (1, .int x1), (2, .int (x2 + 1))]) rfl ?_
        exact ih n v10 x1 (x2 + 1) hf
  rw [T_appendClosings] at hf
  refine g_iconst (pc := 0) C 0 dX4_appendClosings_0 (by decide) ?_
  refine g_istore_n (pc := 1) C [(2, .int 0), (0, .ref a.1), (1, .int x1)] dX4_appendClosings_1 (by decide) rfl ?_
  refine g_sub [1, 2, 0] (lv' := [(0, .ref a.1), (1, .int x1), (2, .int 0)]) rfl ?_
  exact L2 1000 n r x1 0 hf
set_option maxHeartbeats 4000000 in
set_option maxRecDepth 100000 in
theorem c_X4_appendTo (l : Launch) (D : va_G) (cI cS : ClassId) (a : aT) (t : TR) (b : aR) (n' : Nat) (r' : RW) (out : RW) (hf : T_appendTo t n' r' = some out) : kM l D (kTy cI cS) yX4_appendTo ct_X4_appendTo rm_X4_appendTo [.ref a.1, .ref b.1] [wT cI a t, wR cI b n' r'] (kEq (none) [wT cI a t, wR cI b n' out]) := by
  refine k_methodE cX4_appendTo 4 none RX4 rfl [(0, .ref a.1), (1, .ref b.1)] rfl (by decide +kernel) (Nat.le_of_ble_eq_true rfl) (fun κ A hla C => ?_)
  refine g_chunks (flTR cI cS a t b n' r').symm ?_
  have J51 : ∀ (K : TR → Nat → RW → Int32 → Int32 → Option (RW)) (_ : ∀ (t : TR) (n' : Nat) (r' : RW) (x2 : Int32) (x3 : Int32), K t n' r' x2 x3 = some out → kG κ D A 4 0 0 (kF κ D A (none) [wT cI a t, wR cI b n' out]) (csTR cI cS a t b n' r') [(0, .ref a.1), (1, .ref b.1), (2, .int x2), (3, .int x3)] 4 []) (t : TR) (n' : Nat) (r' : RW) (x3 : Int32), T_appendTo_J51 K t n' r' x3 = some out → kG κ D A 4 0 0 (kF κ D A (none) [wT cI a t, wR cI b n' out]) (csTR cI cS a t b n' r') [(0, .ref a.1), (1, .ref b.1), (3, .int x3)] 51 [] := by
    intro K hK t n' r' x3 hf; rw [T_appendTo_J51] at hf
    refine g_aload_n (pc := 51) C 0 dX4_appendTo_51 rfl ?_
    refine g_iload_n (pc := 52) C 2 dX4_appendTo_52 rfl ?_
    obtain ⟨v53, h53, hf⟩ := Option.bind_eq_some_iff.mp hf
    refine g_callV' (pc := 53) hla C (c_X4_depthOf l D cI cS a t x3 v53 h53) gg_RX4_36 hd_X4_depthOf (by decide) rfl rfl rfl rfl (Nat.le_of_ble_eq_true rfl) dX4_appendTo_53 (seTR_0 cI cS a t b n' r') (seTR_0 cI cS a t b n' r').symm [.int v53] rfl ?_
    refine g_istore_n (pc := 56) C [(2, .int v53), (0, .ref a.1), (1, .ref b.1), (3, .int x3)] dX4_appendTo_56 (by decide) rfl ?_
    refine g_aload_n (pc := 57) C 2 dX4_appendTo_57 rfl ?_
    refine g_bipush (pc := 58) C 97 dX4_appendTo_58 (by decide) ?_
    refine g_aload_n (pc := 60) C 1 dX4_appendTo_60 rfl ?_
    refine g_iload_n (pc := 61) C 3 dX4_appendTo_61 rfl ?_
    obtain ⟨v62, h62, hf⟩ := Option.bind_eq_some_iff.mp hf
    refine g_callV' (pc := 62) hla C (c_X4_letterOf l D cI cS a t x3 v62 h62) gg_RX4_66 hd_X4_letterOf (by decide) rfl rfl rfl rfl (Nat.le_of_ble_eq_true rfl) dX4_appendTo_62 (seTR_0 cI cS a t b n' r') (seTR_0 cI cS a t b n' r').symm [.int v62, .int 97, .ref b.1] rfl ?_
    refine g_iadd (pc := 65) C dX4_appendTo_65 ?_
    obtain ⟨v66, h66, hf⟩ := Option.bind_eq_some_iff.mp hf
    refine g_callV' (pc := 66) hla C (c_X1_add l D cI cS b n' r' (97 + v62) v66 h66) gg_RX4_94 hd_X1_add (by decide) rfl rfl rfl rfl (Nat.le_of_ble_eq_true rfl) dX4_appendTo_66 (seTR_1 cI cS a t b n' r') (seTR_1 cI cS a t b n' v66).symm [] rfl ?_
    refine g_iinc (pc := 69) C 3 (x3 + 1) [(3, .int (x3 + 1)), (2, .int v53), (0, .ref a.1), (1, .ref b.1)] dX4_appendTo_69 rfl (congrArg (HAdd.hAdd _) (by decide)) (by decide) rfl ?_
    refine g_goto (pc := 72) C 4 dX4_appendTo_72 (by decide) ?_
    refine g_sub [2, 3, 1, 0] (lv' := [(0, .ref a.1), (1, .ref b.1), (2, .int v53), (3, .int (x3 + 1))]) rfl ?_
    exact hK t n' v66 v53 (x3 + 1) hf
  have L4 : ∀ (fu : Nat) (t : TR) (n' : Nat) (r' : RW) (x2 : Int32) (x3 : Int32), T_appendTo_L4 fu t n' r' x2 x3 = some out → kG κ D A 4 0 0 (kF κ D A (none) [wT cI a t, wR cI b n' out]) (csTR cI cS a t b n' r') [(0, .ref a.1), (1, .ref b.1), (2, .int x2), (3, .int x3)] 4 [] := by
    intro fu; induction fu with
    | zero => intro t n' r' x2 x3 hf; rw [T_appendTo_L4] at hf; cases hf
    | succ fu ih =>
      intro t n' r' x2 x3 hf; rw [T_appendTo_L4] at hf
      refine g_iload_n (pc := 4) C 3 dX4_appendTo_4 rfl ?_
      refine g_aload_n (pc := 5) C 0 dX4_appendTo_5 rfl ?_
      obtain ⟨v6, h6, hf⟩ := Option.bind_eq_some_iff.mp hf
      refine g_callV' (pc := 6) hla C (c_X4_size l D cI cS a t v6 h6) gg_RX4_27 hd_X4_size (by decide) rfl rfl rfl rfl (Nat.le_of_ble_eq_true rfl) dX4_appendTo_6 (seTR_0 cI cS a t b n' r') (seTR_0 cI cS a t b n' r').symm [.int v6, .int x3] rfl ?_
      refine g_icmp_ge (pc := 9) C 75 dX4_appendTo_9 (by decide) (fun (c9 : v6 ≤ x3) => ?_) (fun (c9 : ¬ v6 ≤ x3) => ?_)
      · have hf := k_pos c9 hf
        refine g_aload_n (pc := 75) C 1 dX4_appendTo_75 rfl ?_
        refine g_iload_n (pc := 76) C 2 dX4_appendTo_76 rfl ?_
        obtain ⟨v77, h77, hf⟩ := Option.bind_eq_some_iff.mp hf
        refine g_callS' (pc := 77) hla C (c_X4_appendClosings l D cI cS b n' r' x2 v77 h77) tb_X4_appendClosings m_594 m_X4_appendClosings_static m_ini_RX4 hd_X4_appendClosings (by decide) rfl rfl (Nat.le_of_ble_eq_true rfl) dX4_appendTo_77 (seTR_1 cI cS a t b n' r') (seTR_1 cI cS a t b n' v77).symm [] rfl ?_
        have e := Option.some.inj hf; subst e
        exact g_rv (pc := 80) C rfl (flTR cI cS a t b n' v77) dX4_appendTo_80
      · have hf := k_neg c9 hf
        refine g_aload_n (pc := 12) C 0 dX4_appendTo_12 rfl ?_
        refine g_iload_n (pc := 13) C 3 dX4_appendTo_13 rfl ?_
        obtain ⟨v14, h14, hf⟩ := Option.bind_eq_some_iff.mp hf
        refine g_callV' (pc := 14) hla C (c_X4_depthOf l D cI cS a t x3 v14 h14) gg_RX4_36 hd_X4_depthOf (by decide) rfl rfl rfl rfl (Nat.le_of_ble_eq_true rfl) dX4_appendTo_14 (seTR_0 cI cS a t b n' r') (seTR_0 cI cS a t b n' r').symm [.int v14] rfl ?_
        refine g_iload_n (pc := 17) C 2 dX4_appendTo_17 rfl ?_
        refine g_icmp_le (pc := 18) C 30 dX4_appendTo_18 (by decide) (fun (c18 : v14 ≤ x2) => ?_) (fun (c18 : ¬ v14 ≤ x2) => ?_)
        · have hf := k_pos c18 hf
          refine g_iload_n (pc := 30) C 3 dX4_appendTo_30 rfl ?_
          refine g_if_le (pc := 31) C 51 dX4_appendTo_31 (by decide) (fun (c31 : x3 ≤ 0) => ?_) (fun (c31 : ¬ x3 ≤ 0) => ?_)
          · have hf := k_pos c31 hf
            refine g_sub [0, 1, 3] (lv' := [(0, .ref a.1), (1, .ref b.1), (3, .int x3)]) rfl ?_
            exact J51 (fun q0 q1 q2 q3 q4 => T_appendTo_L4 fu q0 q1 q2 q3 q4) ih t n' r' x3 hf
          · have hf := k_neg c31 hf
            refine g_aload_n (pc := 34) C 1 dX4_appendTo_34 rfl ?_
            refine g_iload_n (pc := 35) C 2 dX4_appendTo_35 rfl ?_
            refine g_aload_n (pc := 36) C 0 dX4_appendTo_36 rfl ?_
            refine g_iload_n (pc := 37) C 3 dX4_appendTo_37 rfl ?_
            obtain ⟨v38, h38, hf⟩ := Option.bind_eq_some_iff.mp hf
            refine g_callV' (pc := 38) hla C (c_X4_depthOf l D cI cS a t x3 v38 h38) gg_RX4_36 hd_X4_depthOf (by decide) rfl rfl rfl rfl (Nat.le_of_ble_eq_true rfl) dX4_appendTo_38 (seTR_0 cI cS a t b n' r') (seTR_0 cI cS a t b n' r').symm [.int v38, .int x2, .ref b.1] rfl ?_
            refine g_isub (pc := 41) C dX4_appendTo_41 ?_
            obtain ⟨v42, h42, hf⟩ := Option.bind_eq_some_iff.mp hf
            refine g_callS' (pc := 42) hla C (c_X4_appendClosings l D cI cS b n' r' (x2 - v38) v42 h42) tb_X4_appendClosings m_594 m_X4_appendClosings_static m_ini_RX4 hd_X4_appendClosings (by decide) rfl rfl (Nat.le_of_ble_eq_true rfl) dX4_appendTo_42 (seTR_1 cI cS a t b n' r') (seTR_1 cI cS a t b n' v42).symm [] rfl ?_
            refine g_aload_n (pc := 45) C 1 dX4_appendTo_45 rfl ?_
            refine g_bipush (pc := 46) C 44 dX4_appendTo_46 (by decide) ?_
            obtain ⟨v48, h48, hf⟩ := Option.bind_eq_some_iff.mp hf
            refine g_callV' (pc := 48) hla C (c_X1_add l D cI cS b n' v42 44 v48 h48) gg_RX4_94 hd_X1_add (by decide) rfl rfl rfl rfl (Nat.le_of_ble_eq_true rfl) dX4_appendTo_48 (seTR_1 cI cS a t b n' v42) (seTR_1 cI cS a t b n' v48).symm [] rfl ?_
            refine g_sub [0, 1, 3] (lv' := [(0, .ref a.1), (1, .ref b.1), (3, .int x3)]) rfl ?_
            exact J51 (fun q0 q1 q2 q3 q4 => T_appendTo_L4 fu q0 q1 q2 q3 q4) ih t n' v48 x3 hf
        · have hf := k_neg c18 hf
          refine g_aload_n (pc := 21) C 1 dX4_appendTo_21 rfl ?_
          refine g_bipush (pc := 22) C 40 dX4_appendTo_22 (by decide) ?_
          obtain ⟨v24, h24, hf⟩ := Option.bind_eq_some_iff.mp hf
          refine g_callV' (pc := 24) hla C (c_X1_add l D cI cS b n' r' 40 v24 h24) gg_RX4_94 hd_X1_add (by decide) rfl rfl rfl rfl (Nat.le_of_ble_eq_true rfl) dX4_appendTo_24 (seTR_1 cI cS a t b n' r') (seTR_1 cI cS a t b n' v24).symm [] rfl ?_
          refine g_goto (pc := 27) C 51 dX4_appendTo_27 (by decide) ?_
          refine g_sub [0, 1, 3] (lv' := [(0, .ref a.1), (1, .ref b.1), (3, .int x3)]) rfl ?_
          exact J51 (fun q0 q1 q2 q3 q4 => T_appendTo_L4 fu q0 q1 q2 q3 q4) ih t n' v24 x3 hf
  rw [T_appendTo] at hf
  refine g_iconst (pc := 0) C 0 dX4_appendTo_0 (by decide) ?_
  refine g_istore_n (pc := 1) C [(2, .int 0), (0, .ref a.1), (1, .ref b.1)] dX4_appendTo_1 (by decide) rfl ?_
  refine g_iconst (pc := 2) C 0 dX4_appendTo_2 (by decide) ?_
  refine g_istore_n (pc := 3) C [(3, .int 0), (2, .int 0), (0, .ref a.1), (1, .ref b.1)] dX4_appendTo_3 (by decide) rfl ?_
  refine g_sub [2, 3, 1, 0] (lv' := [(0, .ref a.1), (1, .ref b.1), (2, .int 0), (3, .int 0)]) rfl ?_
  exact L4 1000 t n' r' 0 0 hf
