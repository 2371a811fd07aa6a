set_option maxHeartbeats 4000000 in
set_option maxRecDepth 100000 in
theorem c_X5_walk (l : Launch) (D : va_G) (cI cS : ClassId) (a : aP) (x : TP) (x1 : Int32) (out : Int32 × TP) (hf : P_walk x x1 = some out) : kM l D (kTy cI cS) yX5_walk ct_X5_walk rm_X5_walk [.ref a.1, .int x1] [wP cI cS a x] (kEq (some (.int out.1)) [wP cI cS a out.2]) := by
  refine k_methodE cX5_walk 2 (some .int) RX5 rfl [(0, .ref a.1), (1, .int x1)] rfl (by decide +kernel) (Nat.le_of_ble_eq_true rfl) (fun κ A hla C => ?_)
  refine g_chunks (flP cI cS a x).symm ?_
  rw [P_walk] at hf
  refine g_iload_n (pc := 0) C 1 dX5_walk_0 rfl ?_
  refine g_iconst (pc := 1) C (-1) dX5_walk_1 (by decide) ?_
  refine g_icmp_ne (pc := 2) C 8 dX5_walk_2 (by decide) (fun (c2 : ¬ x1 = (-1)) => ?_) (fun (c2 : x1 = (-1)) => ?_)
  · have hf := k_neg c2 hf
    refine g_aload_n (pc := 8) C 0 dX5_walk_8 rfl ?_
    refine gf_RX5_19 (pc := 9) C 0 rfl dX5_walk_9 ?_
    refine g_aload_n (pc := 12) C 0 dX5_walk_12 rfl ?_
    refine gf_RX5_10 (pc := 13) C 0 rfl dX5_walk_13 ?_
    obtain ⟨v16, h16, hf⟩ := Option.bind_eq_some_iff.mp hf
    refine g_callV' (pc := 16) hla C (c_X0_keep l D cI cS a.2.2.1 x.2.1 a.2.1 x.1 v16 h16) gg_RX5_81 hd_X0_keep (by decide) rfl rfl rfl rfl (Nat.le_of_ble_eq_true rfl) dX5_walk_16 (seP_0history_0now cI cS a x) (seP_0history_0now cI cS a (x.1, v16, x.2.2.1, x.2.2.2)).symm [] rfl ?_
    refine g_aload_n (pc := 19) C 0 dX5_walk_19 rfl ?_
    refine gf_RX5_10 (pc := 20) C 0 rfl dX5_walk_20 ?_
    refine g_iload_n (pc := 23) C 1 dX5_walk_23 rfl ?_
    obtain ⟨v24, h24, hf⟩ := Option.bind_eq_some_iff.mp hf
    refine g_callV' (pc := 24) hla C (c_X3_walkTo l D cI cS a.2.1 x.1 x1 v24 h24) gg_RX5_207 hd_X3_walkTo (by decide) rfl rfl rfl rfl (Nat.le_of_ble_eq_true rfl) dX5_walk_24 (seP_0now cI cS a (x.1, v16, x.2.2.1, x.2.2.2)) (seP_0now cI cS a (v24, v16, x.2.2.1, x.2.2.2)).symm [] rfl ?_
    refine g_iload_n (pc := 27) C 1 dX5_walk_27 rfl ?_
    have e := Option.some.inj hf; subst e
    exact g_ri (pc := 28) C rfl (flP cI cS a (v24, v16, x.2.2.1, x.2.2.2)) dX5_walk_28
  · have hf := k_pos c2 hf
    refine g_bipush (pc := 5) C (-2) dX5_walk_5 (by decide) ?_
    have e := Option.some.inj hf; subst e
    exact g_ri (pc := 7) C rfl (flP cI cS a x) dX5_walk_7
set_option maxHeartbeats 4000000 in
set_option maxRecDepth 100000 in
theorem c_X5_down (l : Launch) (D : va_G) (cI cS : ClassId) (a : aP) (x : TP) (x1 : Int32) (out : Int32 × TP) (hf : P_down x x1 = some out) : kM l D (kTy cI cS) yX5_down ct_X5_down rm_X5_down [.ref a.1, .int x1] [wP cI cS a x] (kEq (some (.int out.1)) [wP cI cS a out.2]) := by
  refine k_methodE cX5_down 2 (some .int) RX5 rfl [(0, .ref a.1), (1, .int x1)] rfl (by decide +kernel) (Nat.le_of_ble_eq_true rfl) (fun κ A hla C => ?_)
  refine g_chunks (flP cI cS a x).symm ?_
  rw [P_down] at hf
  refine g_iload_n (pc := 0) C 1 dX5_down_0 rfl ?_
  refine g_if_ge (pc := 1) C 6 dX5_down_1 (by decide) (fun (c1 : 0 ≤ x1) => ?_) (fun (c1 : ¬ 0 ≤ x1) => ?_)
  · have hf := k_pos c1 hf
    refine g_aload_n (pc := 6) C 0 dX5_down_6 rfl ?_
    refine g_aload_n (pc := 7) C 0 dX5_down_7 rfl ?_
    refine gf_RX5_10 (pc := 8) C 0 rfl dX5_down_8 ?_
    refine gf_RX5_43 (pc := 11) C 1 rfl dX5_down_11 ?_
    refine g_aload_n (pc := 14) C 0 dX5_down_14 rfl ?_
    refine gf_RX5_10 (pc := 15) C 0 rfl dX5_down_15 ?_
    refine gf_RX5_47 (pc := 18) C 1 rfl dX5_down_18 ?_
    refine g_iload_n (pc := 21) C 1 dX5_down_21 rfl ?_
    obtain ⟨v22, h22, hf⟩ := Option.bind_eq_some_iff.mp hf
    refine g_callV' (pc := 22) hla C (c_X4_childAt l D cI cS a.2.1.2.1 x.1.1 x.1.2.2.2.2.2.1 x1 v22 h22) gg_RX5_51 hd_X4_childAt (by decide) rfl rfl rfl rfl (Nat.le_of_ble_eq_true rfl) dX5_down_22 (seP_0nowtree cI cS a x) (seP_0nowtree cI cS a x).symm [.int v22, .ref a.1] rfl ?_
    obtain ⟨v25, h25, hf⟩ := Option.bind_eq_some_iff.mp hf
    refine g_callV' (pc := 25) hla C (c_X5_walk l D cI cS a x v22 v25 h25) gg_RX5_57 hd_X5_walk (by decide) rfl rfl rfl rfl (Nat.le_of_ble_eq_true rfl) dX5_down_25 (seP_0 cI cS a x) (seP_0 cI cS a v25.2).symm [.int v25.1] rfl ?_
    have e := Option.some.inj hf; subst e
    exact g_ri (pc := 28) C rfl (flP cI cS a v25.2) dX5_down_28
  · have hf := k_neg c1 hf
    refine g_iconst (pc := 4) C (-1) dX5_down_4 (by decide) ?_
    have e := Option.some.inj hf; subst e
    exact g_ri (pc := 5) C rfl (flP cI cS a x) dX5_down_5
set_option maxHeartbeats 4000000 in
set_option maxRecDepth 100000 in
theorem c_X5_up (l : Launch) (D : va_G) (cI cS : ClassId) (a : aP) (x : TP) (out : Int32 × TP) (hf : P_up x = some out) : kM l D (kTy cI cS) yX5_up ct_X5_up rm_X5_up [.ref a.1] [wP cI cS a x] (kEq (some (.int out.1)) [wP cI cS a out.2]) := by
  refine k_methodE cX5_up 1 (some .int) RX5 rfl [(0, .ref a.1)] rfl (by decide +kernel) (Nat.le_of_ble_eq_true rfl) (fun κ A hla C => ?_)
  refine g_chunks (flP cI cS a x).symm ?_
  rw [P_up] at hf
  refine g_aload_n (pc := 0) C 0 dX5_up_0 rfl ?_
  refine g_aload_n (pc := 1) C 0 dX5_up_1 rfl ?_
  refine gf_RX5_10 (pc := 2) C 0 rfl dX5_up_2 ?_
  refine gf_RX5_43 (pc := 5) C 1 rfl dX5_up_5 ?_
  refine g_aload_n (pc := 8) C 0 dX5_up_8 rfl ?_
  refine gf_RX5_10 (pc := 9) C 0 rfl dX5_up_9 ?_
  refine gf_RX5_47 (pc := 12) C 1 rfl dX5_up_12 ?_
  obtain ⟨v15, h15, hf⟩ := Option.bind_eq_some_iff.mp hf
  refine g_callV' (pc := 15) hla C (c_X4_above l D cI cS a.2.1.2.1 x.1.1 x.1.2.2.2.2.2.1 v15 h15) gg_RX5_61 hd_X4_above (by decide) rfl rfl rfl rfl (Nat.le_of_ble_eq_true rfl) dX5_up_15 (seP_0nowtree cI cS a x) (seP_0nowtree cI cS a x).symm [.int v15, .ref a.1] rfl ?_
  obtain ⟨v18, h18, hf⟩ := Option.bind_eq_some_iff.mp hf
  refine g_callV' (pc := 18) hla C (c_X5_walk l D cI cS a x v15 v18 h18) gg_RX5_57 hd_X5_walk (by decide) rfl rfl rfl rfl (Nat.le_of_ble_eq_true rfl) dX5_up_18 (seP_0 cI cS a x) (seP_0 cI cS a v18.2).symm [.int v18.1] rfl ?_
  have e := Option.some.inj hf; subst e
  exact g_ri (pc := 21) C rfl (flP cI cS a v18.2) dX5_up_21
set_option maxHeartbeats 4000000 in
set_option maxRecDepth 100000 in
theorem c_X5_side (l : Launch) (D : va_G) (cI cS : ClassId) (a : aP) (x : TP) (x1 : Int32) (out : Int32 × TP) (hf : P_side x x1 = some out) : kM l D (kTy cI cS) yX5_side ct_X5_side rm_X5_side [.ref a.1, .int x1] [wP cI cS a x] (kEq (some (.int out.1)) [wP cI cS a out.2]) := by
  refine k_methodE cX5_side 2 (some .int) RX5 rfl [(0, .ref a.1), (1, .int x1)] rfl (by decide +kernel) (Nat.le_of_ble_eq_true rfl) (fun κ A hla C => ?_)
  refine g_chunks (flP cI cS a x).symm ?_
  rw [P_side] at hf
  refine g_iload_n (pc := 0) C 1 dX5_side_0 rfl ?_
  obtain ⟨v1, h1, hf⟩ := Option.bind_eq_some_iff.mp hf
  refine g_callS' (pc := 1) hla C (c_X5_isChoice l D cI cS x1 v1 h1) tb_X5_isChoice m_309 m_X5_isChoice_static m_ini_RX5 hd_X5_isChoice (by decide) rfl rfl (Nat.le_of_ble_eq_true rfl) dX5_side_1 (seP_nil cI cS a x) (seP_nil cI cS a x).symm [.int v1] rfl ?_
  refine g_if_ne (pc := 4) C 9 dX5_side_4 (by decide) (fun (c4 : ¬ v1 = 0) => ?_) (fun (c4 : v1 = 0) => ?_)
  · have hf := k_neg c4 hf
    refine g_aload_n (pc := 9) C 0 dX5_side_9 rfl ?_
    refine g_aload_n (pc := 10) C 0 dX5_side_10 rfl ?_
    refine gf_RX5_10 (pc := 11) C 0 rfl dX5_side_11 ?_
    refine gf_RX5_43 (pc := 14) C 1 rfl dX5_side_14 ?_
    refine g_aload_n (pc := 17) C 0 dX5_side_17 rfl ?_
    refine gf_RX5_10 (pc := 18) C 0 rfl dX5_side_18 ?_
    refine gf_RX5_47 (pc := 21) C 1 rfl dX5_side_21 ?_
    refine g_iload_n (pc := 24) C 1 dX5_side_24 rfl ?_
    obtain ⟨v25, h25, hf⟩ := Option.bind_eq_some_iff.mp hf
    refine g_callV' (pc := 25) hla C (c_X4_neighbour l D cI cS a.2.1.2.1 x.1.1 x.1.2.2.2.2.2.1 x1 v25 h25) gg_RX5_68 hd_X4_neighbour (by decide) rfl rfl rfl rfl (Nat.le_of_ble_eq_true rfl) dX5_side_25 (seP_0nowtree cI cS a x) (seP_0nowtree cI cS a x).symm [.int v25, .ref a.1] rfl ?_
    obtain ⟨v28, h28, hf⟩ := Option.bind_eq_some_iff.mp hf
    refine g_callV' (pc := 28) hla C (c_X5_walk l D cI cS a x v25 v28 h28) gg_RX5_57 hd_X5_walk (by decide) rfl rfl rfl rfl (Nat.le_of_ble_eq_true rfl) dX5_side_28 (seP_0 cI cS a x) (seP_0 cI cS a v28.2).symm [.int v28.1] rfl ?_
    have e := Option.some.inj hf; subst e
    exact g_ri (pc := 31) C rfl (flP cI cS a v28.2) dX5_side_31
  · have hf := k_pos c4 hf
    refine g_iconst (pc := 7) C (-1) dX5_side_7 (by decide) ?_
    have e := Option.some.inj hf; subst e
    exact g_ri (pc := 8) C rfl (flP cI cS a x) dX5_side_8
set_option maxHeartbeats 4000000 in
set_option maxRecDepth 100000 in
theorem c_X5_step (l : Launch) (D : va_G) (cI cS : ClassId) (a : aP) (x : TP) (x1 : Int32) (out : Int32 × TP) (hf : P_step x x1 = some out) : kM l D (kTy cI cS) yX5_step ct_X5_step rm_X5_step [.ref a.1, .int x1] [wP cI cS a x] (kEq (some (.int out.1)) [wP cI cS a out.2]) := by
  refine k_methodE cX5_step 3 (some .int) RX5 rfl [(0, .ref a.1), (1, .int x1)] rfl (by decide +kernel) (Nat.le_of_ble_eq_true rfl) (fun κ A hla C => ?_)
  refine g_chunks (flP cI cS a x).symm ?_
  have J35 : ∀ (x : TP) (s0 : Int32), P_step_J35 x s0 = some out → kG κ D A 3 0 0 (kF κ D A (some (.int out.1)) [wP cI cS a out.2]) (csP cI cS a x) [(0, .ref a.1)] 35 [.int s0] := by
    intro x s0 hf; rw [P_step_J35] at hf
    refine g_istore_n (pc := 35) C [(2, .int s0), (0, .ref a.1)] dX5_step_35 (by decide) rfl ?_
    refine g_aload_n (pc := 36) C 1 dX5_step_36 rfl ?_
    refine g_aload_n (pc := 37) C 1 dX5_step_37 rfl ?_
    refine gf_RX5_10 (pc := 38) C 0 rfl dX5_step_38 ?_
    refine gf_RX5_43 (pc := 41) C 1 rfl dX5_step_41 ?_
    refine g_iload_n (pc := 44) C 0 dX5_step_44 rfl ?_
    obtain ⟨v45, h45, hf⟩ := Option.bind_eq_some_iff.mp hf
    refine g_callV' (pc := 45) hla C (c_X4_has l D cI cS a.2.1.2.1 x.1.1 s0 v45 h45) gg_RX5_71 hd_X4_has (by decide) rfl rfl rfl rfl (Nat.le_of_ble_eq_true rfl) dX5_step_45 (seP_0nowtree cI cS a x) (seP_0nowtree cI cS a x).symm [.int v45, .ref a.1] rfl ?_
    refine g_if_eq (pc := 48) C 55 dX5_step_48 (by decide) (fun (c48 : v45 = 0) => ?_) (fun (c48 : ¬ v45 = 0) => ?_)
    · have hf := k_pos c48 hf
      refine g_iconst (pc := 55) C (-1) dX5_step_55 (by decide) ?_
      obtain ⟨v56, h56, hf⟩ := Option.bind_eq_some_iff.mp hf
      refine g_callV' (pc := 56) hla C (c_X5_walk l D cI cS a x (-1) v56 h56) gg_RX5_57 hd_X5_walk (by decide) rfl rfl rfl rfl (Nat.le_of_ble_eq_true rfl) dX5_step_56 (seP_0 cI cS a x) (seP_0 cI cS a v56.2).symm [.int v56.1] rfl ?_
      have e := Option.some.inj hf; subst e
      exact g_ri (pc := 59) C rfl (flP cI cS a v56.2) dX5_step_59
    · have hf := k_neg c48 hf
      refine g_iload_n (pc := 51) C 0 dX5_step_51 rfl ?_
      refine g_goto (pc := 52) C 56 dX5_step_52 (by decide) ?_
      obtain ⟨v56, h56, hf⟩ := Option.bind_eq_some_iff.mp hf
      refine g_callV' (pc := 56) hla C (c_X5_walk l D cI cS a x s0 v56 h56) gg_RX5_57 hd_X5_walk (by decide) rfl rfl rfl rfl (Nat.le_of_ble_eq_true rfl) dX5_step_56 (seP_0 cI cS a x) (seP_0 cI cS a v56.2).symm [.int v56.1] rfl ?_
      have e := Option.some.inj hf; subst e
      exact g_ri (pc := 59) C rfl (flP cI cS a v56.2) dX5_step_59
  rw [P_step] at hf
  refine g_iload_n (pc := 0) C 1 dX5_step_0 rfl ?_
  obtain ⟨v1, h1, hf⟩ := Option.bind_eq_some_iff.mp hf
  refine g_callS' (pc := 1) hla C (c_X5_isChoice l D cI cS x1 v1 h1) tb_X5_isChoice m_309 m_X5_isChoice_static m_ini_RX5 hd_X5_isChoice (by decide) rfl rfl (Nat.le_of_ble_eq_true rfl) dX5_step_1 (seP_nil cI cS a x) (seP_nil cI cS a x).symm [.int v1] rfl ?_
  refine g_if_ne (pc := 4) C 9 dX5_step_4 (by decide) (fun (c4 : ¬ v1 = 0) => ?_) (fun (c4 : v1 = 0) => ?_)
  · have hf := k_neg c4 hf
    refine g_iload_n (pc := 9) C 1 dX5_step_9 rfl ?_
    refine g_iconst (pc := 10) C 1 dX5_step_10 (by decide) ?_
    refine g_icmp_ne (pc := 11) C 26 dX5_step_11 (by decide) (fun (c11 : ¬ x1 = 1) => ?_) (fun (c11 : x1 = 1) => ?_)
    · have hf := k_neg c11 hf
      refine g_aload_n (pc := 26) C 0 dX5_step_26 rfl ?_
      refine gf_RX5_10 (pc := 27) C 0 rfl dX5_step_27 ?_
      refine gf_RX5_47 (pc := 30) C 1 rfl dX5_step_30 ?_
      refine g_iconst (pc := 33) C 1 dX5_step_33 (by decide) ?_
      refine g_isub (pc := 34) C dX5_step_34 ?_
      refine g_sub [0] (lv' := [(0, .ref a.1)]) rfl ?_
      exact J35 x (x.1.2.2.2.2.2.1 - 1) hf
    · have hf := k_pos c11 hf
      refine g_aload_n (pc := 14) C 0 dX5_step_14 rfl ?_
      refine gf_RX5_10 (pc := 15) C 0 rfl dX5_step_15 ?_
      refine gf_RX5_47 (pc := 18) C 1 rfl dX5_step_18 ?_
      refine g_iconst (pc := 21) C 1 dX5_step_21 (by decide) ?_
      refine g_iadd (pc := 22) C dX5_step_22 ?_
      refine g_goto (pc := 23) C 35 dX5_step_23 (by decide) ?_
      refine g_sub [0] (lv' := [(0, .ref a.1)]) rfl ?_
      exact J35 x (x.1.2.2.2.2.2.1 + 1) hf
  · have hf := k_pos c4 hf
    refine g_iconst (pc := 7) C (-1) dX5_step_7 (by decide) ?_
    have e := Option.some.inj hf; subst e
    exact g_ri (pc := 8) C rfl (flP cI cS a x) dX5_step_8
set_option maxHeartbeats 4000000 in
set_option maxRecDepth 100000 in
theorem c_X5_top (l : Launch) (D : va_G) (cI cS : ClassId) (a : aP) (x : TP) (out : Int32 × TP) (hf : P_top x = some out) : kM l D (kTy cI cS) yX5_top ct_X5_top rm_X5_top [.ref a.1] [wP cI cS a x] (kEq (some (.int out.1)) [wP cI cS a out.2]) := by
  refine k_methodE cX5_top 2 (some .int) RX5 rfl [(0, .ref a.1)] rfl (by decide +kernel) (Nat.le_of_ble_eq_true rfl) (fun κ A hla C => ?_)
  refine g_chunks (flP cI cS a x).symm ?_
  rw [P_top] at hf
  refine g_aload_n (pc := 0) C 0 dX5_top_0 rfl ?_
  refine gf_RX5_10 (pc := 1) C 0 rfl dX5_top_1 ?_
  refine gf_RX5_43 (pc := 4) C 1 rfl dX5_top_4 ?_
  refine g_aload_n (pc := 7) C 0 dX5_top_7 rfl ?_
  refine gf_RX5_10 (pc := 8) C 0 rfl dX5_top_8 ?_
  refine gf_RX5_47 (pc := 11) C 1 rfl dX5_top_11 ?_
  obtain ⟨v14, h14, hf⟩ := Option.bind_eq_some_iff.mp hf
  refine g_callV' (pc := 14) hla C (c_X4_depthOf l D cI cS a.2.1.2.1 x.1.1 x.1.2.2.2.2.2.1 v14 h14) gg_RX5_74 hd_X4_depthOf (by decide) rfl rfl rfl rfl (Nat.le_of_ble_eq_true rfl) dX5_top_14 (seP_0nowtree cI cS a x) (seP_0nowtree cI cS a x).symm [.int v14] rfl ?_
  refine g_istore_n (pc := 17) C [(1, .int v14), (0, .ref a.1)] dX5_top_17 (by decide) rfl ?_
  refine g_iload_n (pc := 18) C 0 dX5_top_18 rfl ?_
  refine g_if_ne (pc := 19) C 25 dX5_top_19 (by decide) (fun (c19 : ¬ v14 = 0) => ?_) (fun (c19 : v14 = 0) => ?_)
  · have hf := k_neg c19 hf
    refine g_aload_n (pc := 25) C 1 dX5_top_25 rfl ?_
    refine g_iconst (pc := 26) C 0 dX5_top_26 (by decide) ?_
    obtain ⟨v27, h27, hf⟩ := Option.bind_eq_some_iff.mp hf
    refine g_callV' (pc := 27) hla C (c_X5_walk l D cI cS a x 0 v27 h27) gg_RX5_57 hd_X5_walk (by decide) rfl rfl rfl rfl (Nat.le_of_ble_eq_true rfl) dX5_top_27 (seP_0 cI cS a x) (seP_0 cI cS a v27.2).symm [.int v27.1] rfl ?_
    refine g_pop (pc := 30) C dX5_top_30 rfl ?_
    refine g_iload_n (pc := 31) C 0 dX5_top_31 rfl ?_
    have e := Option.some.inj hf; subst e
    exact g_ri (pc := 32) C rfl (flP cI cS a v27.2) dX5_top_32
  · have hf := k_pos c19 hf
    refine g_bipush (pc := 22) C (-2) dX5_top_22 (by decide) ?_
    have e := Option.some.inj hf; subst e
    exact g_ri (pc := 24) C rfl (flP cI cS a x) dX5_top_24
set_option maxHeartbeats 4000000 in
set_option maxRecDepth 100000 in
theorem c_X5_back (l : Launch) (D : va_G) (cI cS : ClassId) (a : aP) (x : TP) (out : Int32 × TP) (hf : P_back x = some out) : kM l D (kTy cI cS) yX5_back ct_X5_back rm_X5_back [.ref a.1] [wP cI cS a x] (kEq (some (.int out.1)) [wP cI cS a out.2]) := by
  refine k_methodE cX5_back 2 (some .int) RX5 rfl [(0, .ref a.1)] rfl (by decide +kernel) (Nat.le_of_ble_eq_true rfl) (fun κ A hla C => ?_)
  refine g_chunks (flP cI cS a x).symm ?_
  rw [P_back] at hf
  refine g_aload_n (pc := 0) C 0 dX5_back_0 rfl ?_
  refine gf_RX5_10 (pc := 1) C 0 rfl dX5_back_1 ?_
  obtain ⟨v4, h4, hf⟩ := Option.bind_eq_some_iff.mp hf
  refine g_callV' (pc := 4) hla C (c_X3_lastWalk l D cI cS a.2.1 x.1 v4 h4) gg_RX5_77 hd_X3_lastWalk (by decide) rfl rfl rfl rfl (Nat.le_of_ble_eq_true rfl) dX5_back_4 (seP_0now cI cS a x) (seP_0now cI cS a x).symm [.int v4] rfl ?_
  refine g_istore_n (pc := 7) C [(1, .int v4), (0, .ref a.1)] dX5_back_7 (by decide) rfl ?_
  refine g_iload_n (pc := 8) C 0 dX5_back_8 rfl ?_
  refine g_iconst (pc := 9) C (-1) dX5_back_9 (by decide) ?_
  refine g_icmp_ne (pc := 10) C 16 dX5_back_10 (by decide) (fun (c10 : ¬ v4 = (-1)) => ?_) (fun (c10 : v4 = (-1)) => ?_)
  · have hf := k_neg c10 hf
    refine g_aload_n (pc := 16) C 1 dX5_back_16 rfl ?_
    refine gf_RX5_19 (pc := 17) C 0 rfl dX5_back_17 ?_
    refine g_aload_n (pc := 20) C 1 dX5_back_20 rfl ?_
    refine gf_RX5_10 (pc := 21) C 0 rfl dX5_back_21 ?_
    obtain ⟨v24, h24, hf⟩ := Option.bind_eq_some_iff.mp hf
    refine g_callV' (pc := 24) hla C (c_X0_keep l D cI cS a.2.2.1 x.2.1 a.2.1 x.1 v24 h24) gg_RX5_81 hd_X0_keep (by decide) rfl rfl rfl rfl (Nat.le_of_ble_eq_true rfl) dX5_back_24 (seP_0history_0now cI cS a x) (seP_0history_0now cI cS a (x.1, v24, x.2.2.1, x.2.2.2)).symm [] rfl ?_
    refine g_aload_n (pc := 27) C 1 dX5_back_27 rfl ?_
    refine gf_RX5_10 (pc := 28) C 0 rfl dX5_back_28 ?_
    refine g_iload_n (pc := 31) C 0 dX5_back_31 rfl ?_
    obtain ⟨v32, h32, hf⟩ := Option.bind_eq_some_iff.mp hf
    refine g_callV' (pc := 32) hla C (c_X3_takeWalksBack l D cI cS a.2.1 x.1 v4 v32 h32) gg_RX5_85 hd_X3_takeWalksBack (by decide) rfl rfl rfl rfl (Nat.le_of_ble_eq_true rfl) dX5_back_32 (seP_0now cI cS a (x.1, v24, x.2.2.1, x.2.2.2)) (seP_0now cI cS a (v32, v24, x.2.2.1, x.2.2.2)).symm [] rfl ?_
    refine g_aload_n (pc := 35) C 1 dX5_back_35 rfl ?_
    refine gf_RX5_10 (pc := 36) C 0 rfl dX5_back_36 ?_
    refine gf_RX5_47 (pc := 39) C 1 rfl dX5_back_39 ?_
    have e := Option.some.inj hf; subst e
    exact g_ri (pc := 42) C rfl (flP cI cS a (v32, v24, x.2.2.1, x.2.2.2)) dX5_back_42
  · have hf := k_pos c10 hf
    refine g_bipush (pc := 13) C (-2) dX5_back_13 (by decide) ?_
    have e := Option.some.inj hf; subst e
    exact g_ri (pc := 15) C rfl (flP cI cS a x) dX5_back_15
set_option maxHeartbeats 4000000 in
set_option maxRecDepth 100000 in
theorem c_X5_letter (l : Launch) (D : va_G) (cI cS : ClassId) (a : aP) (x : TP) (x1 : Int32) (out : Int32 × TP) (hf : P_letter x x1 = some out) : kM l D (kTy cI cS) yX5_letter ct_X5_letter rm_X5_letter [.ref a.1, .int x1] [wP cI cS a x] (kEq (some (.int out.1)) [wP cI cS a out.2]) := by
  refine k_methodE cX5_letter 3 (some .int) RX5 rfl [(0, .ref a.1), (1, .int x1)] rfl (by decide +kernel) (Nat.le_of_ble_eq_true rfl) (fun κ A hla C => ?_)
  refine g_chunks (flP cI cS a x).symm ?_
  rw [P_letter] at hf
  refine g_iload_n (pc := 0) C 1 dX5_letter_0 rfl ?_
  obtain ⟨v1, h1, hf⟩ := Option.bind_eq_some_iff.mp hf
  refine g_callS' (pc := 1) hla C (c_X5_isLetter l D cI cS x1 v1 h1) tb_X5_isLetter m_362 m_X5_isLetter_static m_ini_RX5 hd_X5_isLetter (by decide) rfl rfl (Nat.le_of_ble_eq_true rfl) dX5_letter_1 (seP_nil cI cS a x) (seP_nil cI cS a x).symm [.int v1] rfl ?_
  refine g_if_ne (pc := 4) C 9 dX5_letter_4 (by decide) (fun (c4 : ¬ v1 = 0) => ?_) (fun (c4 : v1 = 0) => ?_)
  · have hf := k_neg c4 hf
    refine g_aload_n (pc := 9) C 0 dX5_letter_9 rfl ?_
    refine gf_RX5_19 (pc := 10) C 0 rfl dX5_letter_10 ?_
    refine g_aload_n (pc := 13) C 0 dX5_letter_13 rfl ?_
    refine gf_RX5_10 (pc := 14) C 0 rfl dX5_letter_14 ?_
    obtain ⟨v17, h17, hf⟩ := Option.bind_eq_some_iff.mp hf
    refine g_callV' (pc := 17) hla C (c_X0_keep l D cI cS a.2.2.1 x.2.1 a.2.1 x.1 v17 h17) gg_RX5_81 hd_X0_keep (by decide) rfl rfl rfl rfl (Nat.le_of_ble_eq_true rfl) dX5_letter_17 (seP_0history_0now cI cS a x) (seP_0history_0now cI cS a (x.1, v17, x.2.2.1, x.2.2.2)).symm [] rfl ?_
    refine g_aload_n (pc := 20) C 0 dX5_letter_20 rfl ?_
    refine gf_RX5_10 (pc := 21) C 0 rfl dX5_letter_21 ?_
    refine gf_RX5_43 (pc := 24) C 1 rfl dX5_letter_24 ?_
    refine g_aload_n (pc := 27) C 0 dX5_letter_27 rfl ?_
    refine gf_RX5_10 (pc := 28) C 0 rfl dX5_letter_28 ?_
    refine gf_RX5_47 (pc := 31) C 1 rfl dX5_letter_31 ?_
    obtain ⟨v34, h34, hf⟩ := Option.bind_eq_some_iff.mp hf
    refine g_callV' (pc := 34) hla C (c_X4_letterOf l D cI cS a.2.1.2.1 x.1.1 x.1.2.2.2.2.2.1 v34 h34) gg_RX5_91 hd_X4_letterOf (by decide) rfl rfl rfl rfl (Nat.le_of_ble_eq_true rfl) dX5_letter_34 (seP_0nowtree cI cS a (x.1, v17, x.2.2.1, x.2.2.2)) (seP_0nowtree cI cS a (x.1, v17, x.2.2.1, x.2.2.2)).symm [.int v34] rfl ?_
    refine g_istore_n (pc := 37) C [(2, .int v34), (0, .ref a.1), (1, .int x1)] dX5_letter_37 (by decide) rfl ?_
    refine g_aload_n (pc := 38) C 1 dX5_letter_38 rfl ?_
    refine gf_RX5_10 (pc := 39) C 0 rfl dX5_letter_39 ?_
    refine gf_RX5_43 (pc := 42) C 1 rfl dX5_letter_42 ?_
    refine g_aload_n (pc := 45) C 1 dX5_letter_45 rfl ?_
    refine gf_RX5_10 (pc := 46) C 0 rfl dX5_letter_46 ?_
    refine gf_RX5_47 (pc := 49) C 1 rfl dX5_letter_49 ?_
    refine g_iload_n (pc := 52) C 2 dX5_letter_52 rfl ?_
    obtain ⟨v53, h53, hf⟩ := Option.bind_eq_some_iff.mp hf
    refine g_callV' (pc := 53) hla C (c_X4_setLetter l D cI cS a.2.1.2.1 x.1.1 x.1.2.2.2.2.2.1 x1 v53 h53) gg_RX5_94 hd_X4_setLetter (by decide) rfl rfl rfl rfl (Nat.le_of_ble_eq_true rfl) dX5_letter_53 (seP_0nowtree cI cS a (x.1, v17, x.2.2.1, x.2.2.2)) (seP_0nowtree cI cS a ((v53, x.1.2.1, x.1.2.2.1, x.1.2.2.2.1, x.1.2.2.2.2.1, x.1.2.2.2.2.2.1, x.1.2.2.2.2.2.2), v17, x.2.2.1, x.2.2.2)).symm [] rfl ?_
    refine g_iload_n (pc := 56) C 0 dX5_letter_56 rfl ?_
    have e := Option.some.inj hf; subst e
    exact g_ri (pc := 57) C rfl (flP cI cS a ((v53, x.1.2.1, x.1.2.2.1, x.1.2.2.2.1, x.1.2.2.2.2.1, x.1.2.2.2.2.2.1, x.1.2.2.2.2.2.2), v17, x.2.2.1, x.2.2.2)) dX5_letter_57
  · have hf := k_pos c4 hf
    refine g_iconst (pc := 7) C (-1) dX5_letter_7 (by decide) ?_
    have e := Option.some.inj hf; subst e
    exact g_ri (pc := 8) C rfl (flP cI cS a x) dX5_letter_8
set_option maxHeartbeats 4000000 in
set_option maxRecDepth 100000 in
theorem c_X5_child (l : Launch) (D : va_G) (cI cS : ClassId) (a : aP) (x : TP) (x1 : Int32) (x2 : Int32) (out : Int32 × TP) (hf : P_child x x1 x2 = some out) : kM l D (kTy cI cS) yX5_child ct_X5_child rm_X5_child [.ref a.1, .int x1, .int x2] [wP cI cS a x] (kEq (some (.int out.1)) [wP cI cS a out.2]) := by
  refine k_methodE cX5_child 5 (some .int) RX5 rfl [(0, .ref a.1), (1, .int x1), (2, .int x2)] rfl (by decide +kernel) (Nat.le_of_ble_eq_true rfl) (fun κ A hla C => ?_)
  refine g_chunks (flP cI cS a x).symm ?_
  rw [P_child] at hf
  refine g_aload_n (pc := 0) C 0 dX5_child_0 rfl ?_
  refine gf_RX5_10 (pc := 1) C 0 rfl dX5_child_1 ?_
  refine gf_RX5_43 (pc := 4) C 1 rfl dX5_child_4 ?_
  refine g_aload_n (pc := 7) C 0 dX5_child_7 rfl ?_
  refine gf_RX5_10 (pc := 8) C 0 rfl dX5_child_8 ?_
  refine gf_RX5_47 (pc := 11) C 1 rfl dX5_child_11 ?_
  obtain ⟨v14, h14, hf⟩ := Option.bind_eq_some_iff.mp hf
  refine g_callV' (pc := 14) hla C (c_X4_childrenOf l D cI cS a.2.1.2.1 x.1.1 x.1.2.2.2.2.2.1 v14 h14) gg_RX5_98 hd_X4_childrenOf (by decide) rfl rfl rfl rfl (Nat.le_of_ble_eq_true rfl) dX5_child_14 (seP_0nowtree cI cS a x) (seP_0nowtree cI cS a x).symm [.int v14] rfl ?_
  refine g_istore_n (pc := 17) C [(3, .int v14), (0, .ref a.1), (1, .int x1), (2, .int x2)] dX5_child_17 (by decide) rfl ?_
  refine g_iload_n (pc := 18) C 2 dX5_child_18 rfl ?_
  refine g_if_lt (pc := 19) C 34 dX5_child_19 (by decide) (fun (c19 : x1 < 0) => ?_) (fun (c19 : ¬ x1 < 0) => ?_)
  · have hf := k_pos c19 hf
    refine g_iconst (pc := 34) C (-1) dX5_child_34 (by decide) ?_
    have e := Option.some.inj hf; subst e
    exact g_ri (pc := 35) C rfl (flP cI cS a x) dX5_child_35
  · have hf := k_neg c19 hf
    refine g_iload_n (pc := 22) C 2 dX5_child_22 rfl ?_
    refine g_iload_n (pc := 23) C 0 dX5_child_23 rfl ?_
    refine g_icmp_gt (pc := 24) C 34 dX5_child_24 (by decide) (fun (c24 : v14 < x1) => ?_) (fun (c24 : ¬ v14 < x1) => ?_)
    · have hf := k_pos c24 hf
      refine g_iconst (pc := 34) C (-1) dX5_child_34 (by decide) ?_
      have e := Option.some.inj hf; subst e
      exact g_ri (pc := 35) C rfl (flP cI cS a x) dX5_child_35
    · have hf := k_neg c24 hf
      refine g_iload_n (pc := 27) C 3 dX5_child_27 rfl ?_
      obtain ⟨v28, h28, hf⟩ := Option.bind_eq_some_iff.mp hf
      refine g_callS' (pc := 28) hla C (c_X5_isLetter l D cI cS x2 v28 h28) tb_X5_isLetter m_362 m_X5_isLetter_static m_ini_RX5 hd_X5_isLetter (by decide) rfl rfl (Nat.le_of_ble_eq_true rfl) dX5_child_28 (seP_nil cI cS a x) (seP_nil cI cS a x).symm [.int v28] rfl ?_
      refine g_if_ne (pc := 31) C 36 dX5_child_31 (by decide) (fun (c31 : ¬ v28 = 0) => ?_) (fun (c31 : v28 = 0) => ?_)
      · have hf := k_neg c31 hf
        refine g_aload_n (pc := 36) C 1 dX5_child_36 rfl ?_
        refine gf_RX5_10 (pc := 37) C 0 rfl dX5_child_37 ?_
        refine gf_RX5_43 (pc := 40) C 1 rfl dX5_child_40 ?_
        refine g_aload_n (pc := 43) C 1 dX5_child_43 rfl ?_
        refine gf_RX5_10 (pc := 44) C 0 rfl dX5_child_44 ?_
        refine gf_RX5_47 (pc := 47) C 1 rfl dX5_child_47 ?_
        obtain ⟨v50, h50, hf⟩ := Option.bind_eq_some_iff.mp hf
        refine g_callV' (pc := 50) hla C (c_X4_depthOf l D cI cS a.2.1.2.1 x.1.1 x.1.2.2.2.2.2.1 v50 h50) gg_RX5_74 hd_X4_depthOf (by decide) rfl rfl rfl rfl (Nat.le_of_ble_eq_true rfl) dX5_child_50 (seP_0nowtree cI cS a x) (seP_0nowtree cI cS a x).symm [.int v50] rfl ?_
        refine g_iconst (pc := 53) C 1 dX5_child_53 (by decide) ?_
        refine g_iadd (pc := 54) C dX5_child_54 ?_
        refine g_istore (pc := 55) C [(4, .int (v50 + 1)), (3, .int v14), (0, .ref a.1), (1, .int x1), (2, .int x2)] dX5_child_55 (by decide) rfl ?_
        refine g_aload_n (pc := 57) C 2 dX5_child_57 rfl ?_
        refine gf_RX5_10 (pc := 58) C 0 rfl dX5_child_58 ?_
        refine gf_RX5_43 (pc := 61) C 1 rfl dX5_child_61 ?_
        obtain ⟨v64, h64, hf⟩ := Option.bind_eq_some_iff.mp hf
        refine g_callV' (pc := 64) hla C (c_X4_size l D cI cS a.2.1.2.1 x.1.1 v64 h64) gg_RX5_101 hd_X4_size (by decide) rfl rfl rfl rfl (Nat.le_of_ble_eq_true rfl) dX5_child_64 (seP_0nowtree cI cS a x) (seP_0nowtree cI cS a x).symm [.int v64] rfl ?_
        refine g_bipush (pc := 67) C 40 dX5_child_67 (by decide) ?_
        refine g_icmp_ge (pc := 69) C 85 dX5_child_69 (by decide) (fun (c69 : 40 ≤ v64) => ?_) (fun (c69 : ¬ 40 ≤ v64) => ?_)
        · have hf := k_pos c69 hf
          refine g_bipush (pc := 85) C (-3) dX5_child_85 (by decide) ?_
          have e := Option.some.inj hf; subst e
          exact g_ri (pc := 87) C rfl (flP cI cS a x) dX5_child_87
        · have hf := k_neg c69 hf
          refine g_iload_n (pc := 72) C 1 dX5_child_72 rfl ?_
          refine g_bipush (pc := 73) C 6 dX5_child_73 (by decide) ?_
          refine g_icmp_ge (pc := 75) C 85 dX5_child_75 (by decide) (fun (c75 : 6 ≤ v14) => ?_) (fun (c75 : ¬ 6 ≤ v14) => ?_)
          · have hf := k_pos c75 hf
            refine g_bipush (pc := 85) C (-3) dX5_child_85 (by decide) ?_
            have e := Option.some.inj hf; subst e
            exact g_ri (pc := 87) C rfl (flP cI cS a x) dX5_child_87
          · have hf := k_neg c75 hf
            refine g_iload (pc := 78) C 0 dX5_child_78 rfl ?_
            refine g_bipush (pc := 80) C 7 dX5_child_80 (by decide) ?_
            refine g_icmp_le (pc := 82) C 88 dX5_child_82 (by decide) (fun (c82 : (v50 + 1) ≤ 7) => ?_) (fun (c82 : ¬ (v50 + 1) ≤ 7) => ?_)
            · have hf := k_pos c82 hf
              refine g_aload_n (pc := 88) C 2 dX5_child_88 rfl ?_
              refine gf_RX5_19 (pc := 89) C 0 rfl dX5_child_89 ?_
              refine g_aload_n (pc := 92) C 2 dX5_child_92 rfl ?_
              refine gf_RX5_10 (pc := 93) C 0 rfl dX5_child_93 ?_
              obtain ⟨v96, h96, hf⟩ := Option.bind_eq_some_iff.mp hf
              refine g_callV' (pc := 96) hla C (c_X0_keep l D cI cS a.2.2.1 x.2.1 a.2.1 x.1 v96 h96) gg_RX5_81 hd_X0_keep (by decide) rfl rfl rfl rfl (Nat.le_of_ble_eq_true rfl) dX5_child_96 (seP_0history_0now cI cS a x) (seP_0history_0now cI cS a (x.1, v96, x.2.2.1, x.2.2.2)).symm [] rfl ?_
              refine g_aload_n (pc := 99) C 2 dX5_child_99 rfl ?_
              refine gf_RX5_10 (pc := 100) C 0 rfl dX5_child_100 ?_
              refine g_aload_n (pc := 103) C 2 dX5_child_103 rfl ?_
              refine gf_RX5_10 (pc := 104) C 0 rfl dX5_child_104 ?_
              refine gf_RX5_43 (pc := 107) C 1 rfl dX5_child_107 ?_
              refine g_aload_n (pc := 110) C 2 dX5_child_110 rfl ?_
              refine gf_RX5_10 (pc := 111) C 0 rfl dX5_child_111 ?_
              refine gf_RX5_47 (pc := 114) C 1 rfl dX5_child_114 ?_
              refine g_iload_n (pc := 117) C 3 dX5_child_117 rfl ?_
              obtain ⟨v118, h118, hf⟩ := Option.bind_eq_some_iff.mp hf
              refine g_callV' (pc := 118) hla C (c_X4_startOfChild l D cI cS a.2.1.2.1 x.1.1 x.1.2.2.2.2.2.1 x1 v118 h118) gg_RX5_104 hd_X4_startOfChild (by decide) rfl rfl rfl rfl (Nat.le_of_ble_eq_true rfl) dX5_child_118 (seP_0nowtree cI cS a (x.1, v96, x.2.2.1, x.2.2.2)) (seP_0nowtree cI cS a (x.1, v96, x.2.2.1, x.2.2.2)).symm [.int v118, .ref a.2.1.1] rfl ?_
              refine g_iload_n (pc := 121) C 4 dX5_child_121 rfl ?_
              refine g_iload (pc := 122) C 0 dX5_child_122 rfl ?_
              obtain ⟨v124, h124, hf⟩ := Option.bind_eq_some_iff.mp hf
              refine g_callV' (pc := 124) hla C (c_X3_putNodeIn l D cI cS a.2.1 x.1 v118 x2 (v50 + 1) v124 h124) gg_RX5_39 hd_X3_putNodeIn (by decide) rfl rfl rfl rfl (Nat.le_of_ble_eq_true rfl) dX5_child_124 (seP_0now cI cS a (x.1, v96, x.2.2.1, x.2.2.2)) (seP_0now cI cS a (v124, v96, x.2.2.1, x.2.2.2)).symm [] rfl ?_
              refine g_iload_n (pc := 127) C 1 dX5_child_127 rfl ?_
              refine g_iconst (pc := 128) C 1 dX5_child_128 (by decide) ?_
              refine g_iadd (pc := 129) C dX5_child_129 ?_
              have e := Option.some.inj hf; subst e
              exact g_ri (pc := 130) C rfl (flP cI cS a (v124, v96, x.2.2.1, x.2.2.2)) dX5_child_130
            · have hf := k_neg c82 hf
              refine g_bipush (pc := 85) C (-3) dX5_child_85 (by decide) ?_
              have e := Option.some.inj hf; subst e
              exact g_ri (pc := 87) C rfl (flP cI cS a x) dX5_child_87
      · have hf := k_pos c31 hf
        refine g_iconst (pc := 34) C (-1) dX5_child_34 (by decide) ?_
        have e := Option.some.inj hf; subst e
        exact g_ri (pc := 35) C rfl (flP cI cS a x) dX5_child_35
set_option maxHeartbeats 4000000 in
set_option maxRecDepth 100000 in
theorem c_X5_beside (l : Launch) (D : va_G) (cI cS : ClassId) (a : aP) (x : TP) (x1 : Int32) (x2 : Int32) (out : Int32 × TP) (hf : P_beside x x1 x2 = some out) : kM l D (kTy cI cS) yX5_beside ct_X5_beside rm_X5_beside [.ref a.1, .int x1, .int x2] [wP cI cS a x] (kEq (some (.int out.1)) [wP cI cS a out.2]) := by
  refine k_methodE cX5_beside 6 (some .int) RX5 rfl [(0, .ref a.1), (1, .int x1), (2, .int x2)] rfl (by decide +kernel) (Nat.le_of_ble_eq_true rfl) (fun κ A hla C => ?_)
  refine g_chunks (flP cI cS a x).symm ?_
  rw [P_beside] at hf
  refine g_iload_n (pc := 0) C 1 dX5_beside_0 rfl ?_
  obtain ⟨v1, h1, hf⟩ := Option.bind_eq_some_iff.mp hf
  refine g_callS' (pc := 1) hla C (c_X5_isChoice l D cI cS x1 v1 h1) tb_X5_isChoice m_309 m_X5_isChoice_static m_ini_RX5 hd_X5_isChoice (by decide) rfl rfl (Nat.le_of_ble_eq_true rfl) dX5_beside_1 (seP_nil cI cS a x) (seP_nil cI cS a x).symm [.int v1] rfl ?_
  refine g_if_eq (pc := 4) C 14 dX5_beside_4 (by decide) (fun (c4 : v1 = 0) => ?_) (fun (c4 : ¬ v1 = 0) => ?_)
  · have hf := k_pos c4 hf
    refine g_iconst (pc := 14) C (-1) dX5_beside_14 (by decide) ?_
    have e := Option.some.inj hf; subst e
    exact g_ri (pc := 15) C rfl (flP cI cS a x) dX5_beside_15
  · have hf := k_neg c4 hf
    refine g_iload_n (pc := 7) C 2 dX5_beside_7 rfl ?_
    obtain ⟨v8, h8, hf⟩ := Option.bind_eq_some_iff.mp hf
    refine g_callS' (pc := 8) hla C (c_X5_isLetter l D cI cS x2 v8 h8) tb_X5_isLetter m_362 m_X5_isLetter_static m_ini_RX5 hd_X5_isLetter (by decide) rfl rfl (Nat.le_of_ble_eq_true rfl) dX5_beside_8 (seP_nil cI cS a x) (seP_nil cI cS a x).symm [.int v8] rfl ?_
    refine g_if_ne (pc := 11) C 16 dX5_beside_11 (by decide) (fun (c11 : ¬ v8 = 0) => ?_) (fun (c11 : v8 = 0) => ?_)
    · have hf := k_neg c11 hf
      refine g_aload_n (pc := 16) C 0 dX5_beside_16 rfl ?_
      refine gf_RX5_10 (pc := 17) C 0 rfl dX5_beside_17 ?_
      refine gf_RX5_43 (pc := 20) C 1 rfl dX5_beside_20 ?_
      refine g_aload_n (pc := 23) C 0 dX5_beside_23 rfl ?_
      refine gf_RX5_10 (pc := 24) C 0 rfl dX5_beside_24 ?_
      refine gf_RX5_47 (pc := 27) C 1 rfl dX5_beside_27 ?_
      obtain ⟨v30, h30, hf⟩ := Option.bind_eq_some_iff.mp hf
      refine g_callV' (pc := 30) hla C (c_X4_above l D cI cS a.2.1.2.1 x.1.1 x.1.2.2.2.2.2.1 v30 h30) gg_RX5_61 hd_X4_above (by decide) rfl rfl rfl rfl (Nat.le_of_ble_eq_true rfl) dX5_beside_30 (seP_0nowtree cI cS a x) (seP_0nowtree cI cS a x).symm [.int v30] rfl ?_
      refine g_istore_n (pc := 33) C [(3, .int v30), (0, .ref a.1), (1, .int x1), (2, .int x2)] dX5_beside_33 (by decide) rfl ?_
      refine g_iload_n (pc := 34) C 0 dX5_beside_34 rfl ?_
      refine g_iconst (pc := 35) C (-1) dX5_beside_35 (by decide) ?_
      refine g_icmp_ne (pc := 36) C 42 dX5_beside_36 (by decide) (fun (c36 : ¬ v30 = (-1)) => ?_) (fun (c36 : v30 = (-1)) => ?_)
      · have hf := k_neg c36 hf
        refine g_aload_n (pc := 42) C 1 dX5_beside_42 rfl ?_
        refine gf_RX5_10 (pc := 43) C 0 rfl dX5_beside_43 ?_
        refine gf_RX5_43 (pc := 46) C 1 rfl dX5_beside_46 ?_
        refine g_iload_n (pc := 49) C 0 dX5_beside_49 rfl ?_
        obtain ⟨v50, h50, hf⟩ := Option.bind_eq_some_iff.mp hf
        refine g_callV' (pc := 50) hla C (c_X4_childrenOf l D cI cS a.2.1.2.1 x.1.1 v30 v50 h50) gg_RX5_98 hd_X4_childrenOf (by decide) rfl rfl rfl rfl (Nat.le_of_ble_eq_true rfl) dX5_beside_50 (seP_0nowtree cI cS a x) (seP_0nowtree cI cS a x).symm [.int v50] rfl ?_
        refine g_istore (pc := 53) C [(4, .int v50), (3, .int v30), (0, .ref a.1), (1, .int x1), (2, .int x2)] dX5_beside_53 (by decide) rfl ?_
        refine g_aload_n (pc := 55) C 2 dX5_beside_55 rfl ?_
        refine gf_RX5_10 (pc := 56) C 0 rfl dX5_beside_56 ?_
        refine gf_RX5_43 (pc := 59) C 1 rfl dX5_beside_59 ?_
        obtain ⟨v62, h62, hf⟩ := Option.bind_eq_some_iff.mp hf
        refine g_callV' (pc := 62) hla C (c_X4_size l D cI cS a.2.1.2.1 x.1.1 v62 h62) gg_RX5_101 hd_X4_size (by decide) rfl rfl rfl rfl (Nat.le_of_ble_eq_true rfl) dX5_beside_62 (seP_0nowtree cI cS a x) (seP_0nowtree cI cS a x).symm [.int v62] rfl ?_
        refine g_bipush (pc := 65) C 40 dX5_beside_65 (by decide) ?_
        refine g_icmp_ge (pc := 67) C 77 dX5_beside_67 (by decide) (fun (c67 : 40 ≤ v62) => ?_) (fun (c67 : ¬ 40 ≤ v62) => ?_)
        · have hf := k_pos c67 hf
          refine g_bipush (pc := 77) C (-3) dX5_beside_77 (by decide) ?_
          have e := Option.some.inj hf; subst e
          exact g_ri (pc := 79) C rfl (flP cI cS a x) dX5_beside_79
        · have hf := k_neg c67 hf
          refine g_iload (pc := 70) C 0 dX5_beside_70 rfl ?_
          refine g_bipush (pc := 72) C 6 dX5_beside_72 (by decide) ?_
          refine g_icmp_lt (pc := 74) C 80 dX5_beside_74 (by decide) (fun (c74 : v50 < 6) => ?_) (fun (c74 : ¬ v50 < 6) => ?_)
          · have hf := k_pos c74 hf
            refine g_aload_n (pc := 80) C 2 dX5_beside_80 rfl ?_
            refine gf_RX5_19 (pc := 81) C 0 rfl dX5_beside_81 ?_
            refine g_aload_n (pc := 84) C 2 dX5_beside_84 rfl ?_
            refine gf_RX5_10 (pc := 85) C 0 rfl dX5_beside_85 ?_
            obtain ⟨v88, h88, hf⟩ := Option.bind_eq_some_iff.mp hf
            refine g_callV' (pc := 88) hla C (c_X0_keep l D cI cS a.2.2.1 x.2.1 a.2.1 x.1 v88 h88) gg_RX5_81 hd_X0_keep (by decide) rfl rfl rfl rfl (Nat.le_of_ble_eq_true rfl) dX5_beside_88 (seP_0history_0now cI cS a x) (seP_0history_0now cI cS a (x.1, v88, x.2.2.1, x.2.2.2)).symm [] rfl ?_
            refine g_aload_n (pc := 91) C 2 dX5_beside_91 rfl ?_
            refine gf_RX5_10 (pc := 92) C 0 rfl dX5_beside_92 ?_
            refine gf_RX5_43 (pc := 95) C 1 rfl dX5_beside_95 ?_
            refine g_aload_n (pc := 98) C 2 dX5_beside_98 rfl ?_
            refine gf_RX5_10 (pc := 99) C 0 rfl dX5_beside_99 ?_
            refine gf_RX5_47 (pc := 102) C 1 rfl dX5_beside_102 ?_
            obtain ⟨v105, h105, hf⟩ := Option.bind_eq_some_iff.mp hf
            refine g_callV' (pc := 105) hla C (c_X4_depthOf l D cI cS a.2.1.2.1 x.1.1 x.1.2.2.2.2.2.1 v105 h105) gg_RX5_74 hd_X4_depthOf (by decide) rfl rfl rfl rfl (Nat.le_of_ble_eq_true rfl) dX5_beside_105 (seP_0nowtree cI cS a (x.1, v88, x.2.2.1, x.2.2.2)) (seP_0nowtree cI cS a (x.1, v88, x.2.2.1, x.2.2.2)).symm [.int v105] rfl ?_
            refine g_istore (pc := 108) C [(5, .int v105), (4, .int v50), (3, .int v30), (0, .ref a.1), (1, .int x1), (2, .int x2)] dX5_beside_108 (by decide) rfl ?_
            refine g_iload_n (pc := 110) C 4 dX5_beside_110 rfl ?_
            refine g_iconst (pc := 111) C 1 dX5_beside_111 (by decide) ?_
            refine g_icmp_ne (pc := 112) C 145 dX5_beside_112 (by decide) (fun (c112 : ¬ x1 = 1) => ?_) (fun (c112 : x1 = 1) => ?_)
            · have hf := k_neg c112 hf
              refine g_aload_n (pc := 145) C 3 dX5_beside_145 rfl ?_
              refine gf_RX5_10 (pc := 146) C 0 rfl dX5_beside_146 ?_
              refine g_aload_n (pc := 149) C 3 dX5_beside_149 rfl ?_
              refine gf_RX5_10 (pc := 150) C 0 rfl dX5_beside_150 ?_
              refine gf_RX5_47 (pc := 153) C 1 rfl dX5_beside_153 ?_
              refine g_iload_n (pc := 156) C 5 dX5_beside_156 rfl ?_
              refine g_iload (pc := 157) C 0 dX5_beside_157 rfl ?_
              obtain ⟨v159, h159, hf⟩ := Option.bind_eq_some_iff.mp hf
              refine g_callV' (pc := 159) hla C (c_X3_putNodeIn l D cI cS a.2.1 x.1 x.1.2.2.2.2.2.1 x2 v105 v159 h159) gg_RX5_39 hd_X3_putNodeIn (by decide) rfl rfl rfl rfl (Nat.le_of_ble_eq_true rfl) dX5_beside_159 (seP_0now cI cS a (x.1, v88, x.2.2.1, x.2.2.2)) (seP_0now cI cS a (v159, v88, x.2.2.1, x.2.2.2)).symm [] rfl ?_
              refine g_aload_n (pc := 162) C 3 dX5_beside_162 rfl ?_
              refine gf_RX5_10 (pc := 163) C 0 rfl dX5_beside_163 ?_
              refine g_dup (pc := 166) C dX5_beside_166 rfl ?_
              refine gf_RX5_47 (pc := 167) C 1 rfl dX5_beside_167 ?_
              refine g_iconst (pc := 170) C 1 dX5_beside_170 (by decide) ?_
              refine g_iadd (pc := 171) C dX5_beside_171 ?_
              refine gp_RX5_47 (pc := 172) C 1 (cs' := csP cI cS a ((v159.1, v159.2.1, v159.2.2.1, v159.2.2.2.1, v159.2.2.2.2.1, (v159.2.2.2.2.2.1 + 1), v159.2.2.2.2.2.2), v88, x.2.2.1, x.2.2.2)) rfl rfl dX5_beside_172 ?_
              refine g_iload (pc := 175) C 1 dX5_beside_175 rfl ?_
              refine g_iconst (pc := 177) C 1 dX5_beside_177 (by decide) ?_
              refine g_iadd (pc := 178) C dX5_beside_178 ?_
              have e := Option.some.inj hf; subst e
              exact g_ri (pc := 179) C rfl (flP cI cS a ((v159.1, v159.2.1, v159.2.2.1, v159.2.2.2.1, v159.2.2.2.2.1, (v159.2.2.2.2.2.1 + 1), v159.2.2.2.2.2.2), v88, x.2.2.1, x.2.2.2)) dX5_beside_179
            · have hf := k_pos c112 hf
              refine g_aload_n (pc := 115) C 3 dX5_beside_115 rfl ?_
              refine gf_RX5_10 (pc := 116) C 0 rfl dX5_beside_116 ?_
              refine g_aload_n (pc := 119) C 3 dX5_beside_119 rfl ?_
              refine gf_RX5_10 (pc := 120) C 0 rfl dX5_beside_120 ?_
              refine gf_RX5_43 (pc := 123) C 1 rfl dX5_beside_123 ?_
              refine g_aload_n (pc := 126) C 3 dX5_beside_126 rfl ?_
              refine gf_RX5_10 (pc := 127) C 0 rfl dX5_beside_127 ?_
              refine gf_RX5_47 (pc := 130) C 1 rfl dX5_beside_130 ?_
              obtain ⟨v133, h133, hf⟩ := Option.bind_eq_some_iff.mp hf
              refine g_callV' (pc := 133) hla C (c_X4_endOf l D cI cS a.2.1.2.1 x.1.1 x.1.2.2.2.2.2.1 v133 h133) gg_RX5_107 hd_X4_endOf (by decide) rfl rfl rfl rfl (Nat.le_of_ble_eq_true rfl) dX5_beside_133 (seP_0nowtree cI cS a (x.1, v88, x.2.2.1, x.2.2.2)) (seP_0nowtree cI cS a (x.1, v88, x.2.2.1, x.2.2.2)).symm [.int v133, .ref a.2.1.1] rfl ?_
              refine g_iload_n (pc := 136) C 5 dX5_beside_136 rfl ?_
              refine g_iload (pc := 137) C 0 dX5_beside_137 rfl ?_
              obtain ⟨v139, h139, hf⟩ := Option.bind_eq_some_iff.mp hf
              refine g_callV' (pc := 139) hla C (c_X3_putNodeIn l D cI cS a.2.1 x.1 v133 x2 v105 v139 h139) gg_RX5_39 hd_X3_putNodeIn (by decide) rfl rfl rfl rfl (Nat.le_of_ble_eq_true rfl) dX5_beside_139 (seP_0now cI cS a (x.1, v88, x.2.2.1, x.2.2.2)) (seP_0now cI cS a (v139, v88, x.2.2.1, x.2.2.2)).symm [] rfl ?_
              refine g_goto (pc := 142) C 175 dX5_beside_142 (by decide) ?_
              refine g_iload (pc := 175) C 1 dX5_beside_175 rfl ?_
              refine g_iconst (pc := 177) C 1 dX5_beside_177 (by decide) ?_
              refine g_iadd (pc := 178) C dX5_beside_178 ?_
              have e := Option.some.inj hf; subst e
              exact g_ri (pc := 179) C rfl (flP cI cS a (v139, v88, x.2.2.1, x.2.2.2)) dX5_beside_179
          · have hf := k_neg c74 hf
            refine g_bipush (pc := 77) C (-3) dX5_beside_77 (by decide) ?_
            have e := Option.some.inj hf; subst e
            exact g_ri (pc := 79) C rfl (flP cI cS a x) dX5_beside_79
      · have hf := k_pos c36 hf
        refine g_bipush (pc := 39) C (-2) dX5_beside_39 (by decide) ?_
        have e := Option.some.inj hf; subst e
        exact g_ri (pc := 41) C rfl (flP cI cS a x) dX5_beside_41
    · have hf := k_pos c11 hf
      refine g_iconst (pc := 14) C (-1) dX5_beside_14 (by decide) ?_
      have e := Option.some.inj hf; subst e
      exact g_ri (pc := 15) C rfl (flP cI cS a x) dX5_beside_15
set_option maxHeartbeats 4000000 in
set_option maxRecDepth 100000 in
theorem c_X5_delete (l : Launch) (D : va_G) (cI cS : ClassId) (a : aP) (x : TP) (out : Int32 × TP) (hf : P_delete x = some out) : kM l D (kTy cI cS) yX5_delete ct_X5_delete rm_X5_delete [.ref a.1] [wP cI cS a x] (kEq (some (.int out.1)) [wP cI cS a out.2]) := by
  refine k_methodE cX5_delete 1 (some .int) RX5 rfl [(0, .ref a.1)] rfl (by decide +kernel) (Nat.le_of_ble_eq_true rfl) (fun κ A hla C => ?_)
  refine g_chunks (flP cI cS a x).symm ?_
  rw [P_delete] at hf
  refine g_aload_n (pc := 0) C 0 dX5_delete_0 rfl ?_
  refine gf_RX5_10 (pc := 1) C 0 rfl dX5_delete_1 ?_
  refine gf_RX5_47 (pc := 4) C 1 rfl dX5_delete_4 ?_
  refine g_if_ne (pc := 7) C 13 dX5_delete_7 (by decide) (fun (c7 : ¬ x.1.2.2.2.2.2.1 = 0) => ?_) (fun (c7 : x.1.2.2.2.2.2.1 = 0) => ?_)
  · have hf := k_neg c7 hf
    refine g_aload_n (pc := 13) C 0 dX5_delete_13 rfl ?_
    refine gf_RX5_19 (pc := 14) C 0 rfl dX5_delete_14 ?_
    refine g_aload_n (pc := 17) C 0 dX5_delete_17 rfl ?_
    refine gf_RX5_10 (pc := 18) C 0 rfl dX5_delete_18 ?_
    obtain ⟨v21, h21, hf⟩ := Option.bind_eq_some_iff.mp hf
    refine g_callV' (pc := 21) hla C (c_X0_keep l D cI cS a.2.2.1 x.2.1 a.2.1 x.1 v21 h21) gg_RX5_81 hd_X0_keep (by decide) rfl rfl rfl rfl (Nat.le_of_ble_eq_true rfl) dX5_delete_21 (seP_0history_0now cI cS a x) (seP_0history_0now cI cS a (x.1, v21, x.2.2.1, x.2.2.2)).symm [] rfl ?_
    refine g_aload_n (pc := 24) C 0 dX5_delete_24 rfl ?_
    refine gf_RX5_10 (pc := 25) C 0 rfl dX5_delete_25 ?_
    obtain ⟨v28, h28, hf⟩ := Option.bind_eq_some_iff.mp hf
    refine g_callV' (pc := 28) hla C (c_X3_takePlaceOut l D cI cS a.2.1 x.1 v28 h28) gg_RX5_110 hd_X3_takePlaceOut (by decide) rfl rfl rfl rfl (Nat.le_of_ble_eq_true rfl) dX5_delete_28 (seP_0now cI cS a (x.1, v21, x.2.2.1, x.2.2.2)) (seP_0now cI cS a (v28.2, v21, x.2.2.1, x.2.2.2)).symm [.int v28.1] rfl ?_
    have e := Option.some.inj hf; subst e
    exact g_ri (pc := 31) C rfl (flP cI cS a (v28.2, v21, x.2.2.1, x.2.2.2)) dX5_delete_31
  · have hf := k_pos c7 hf
    refine g_bipush (pc := 10) C (-2) dX5_delete_10 (by decide) ?_
    have e := Option.some.inj hf; subst e
    exact g_ri (pc := 12) C rfl (flP cI cS a x) dX5_delete_12
set_option maxHeartbeats 4000000 in
set_option maxRecDepth 100000 in
theorem c_X5_wrap (l : Launch) (D : va_G) (cI cS : ClassId) (a : aP) (x : TP) (x1 : Int32) (out : Int32 × TP) (hf : P_wrap x x1 = some out) : kM l D (kTy cI cS) yX5_wrap ct_X5_wrap rm_X5_wrap [.ref a.1, .int x1] [wP cI cS a x] (kEq (some (.int out.1)) [wP cI cS a out.2]) := by
  refine k_methodE cX5_wrap 3 (some .int) RX5 rfl [(0, .ref a.1), (1, .int x1)] rfl (by decide +kernel) (Nat.le_of_ble_eq_true rfl) (fun κ A hla C => ?_)
  refine g_chunks (flP cI cS a x).symm ?_
  rw [P_wrap] at hf
  refine g_iload_n (pc := 0) C 1 dX5_wrap_0 rfl ?_
  obtain ⟨v1, h1, hf⟩ := Option.bind_eq_some_iff.mp hf
  refine g_callS' (pc := 1) hla C (c_X5_isLetter l D cI cS x1 v1 h1) tb_X5_isLetter m_362 m_X5_isLetter_static m_ini_RX5 hd_X5_isLetter (by decide) rfl rfl (Nat.le_of_ble_eq_true rfl) dX5_wrap_1 (seP_nil cI cS a x) (seP_nil cI cS a x).symm [.int v1] rfl ?_
  refine g_if_ne (pc := 4) C 9 dX5_wrap_4 (by decide) (fun (c4 : ¬ v1 = 0) => ?_) (fun (c4 : v1 = 0) => ?_)
  · have hf := k_neg c4 hf
    refine g_aload_n (pc := 9) C 0 dX5_wrap_9 rfl ?_
    refine gf_RX5_10 (pc := 10) C 0 rfl dX5_wrap_10 ?_
    refine gf_RX5_43 (pc := 13) C 1 rfl dX5_wrap_13 ?_
    refine g_aload_n (pc := 16) C 0 dX5_wrap_16 rfl ?_
    refine gf_RX5_10 (pc := 17) C 0 rfl dX5_wrap_17 ?_
    refine gf_RX5_47 (pc := 20) C 1 rfl dX5_wrap_20 ?_
    obtain ⟨v23, h23, hf⟩ := Option.bind_eq_some_iff.mp hf
    refine g_callV' (pc := 23) hla C (c_X4_depthOf l D cI cS a.2.1.2.1 x.1.1 x.1.2.2.2.2.2.1 v23 h23) gg_RX5_74 hd_X4_depthOf (by decide) rfl rfl rfl rfl (Nat.le_of_ble_eq_true rfl) dX5_wrap_23 (seP_0nowtree cI cS a x) (seP_0nowtree cI cS a x).symm [.int v23] rfl ?_
    refine g_istore_n (pc := 26) C [(2, .int v23), (0, .ref a.1), (1, .int x1)] dX5_wrap_26 (by decide) rfl ?_
    refine g_aload_n (pc := 27) C 1 dX5_wrap_27 rfl ?_
    refine gf_RX5_10 (pc := 28) C 0 rfl dX5_wrap_28 ?_
    refine gf_RX5_43 (pc := 31) C 1 rfl dX5_wrap_31 ?_
    obtain ⟨v34, h34, hf⟩ := Option.bind_eq_some_iff.mp hf
    refine g_callV' (pc := 34) hla C (c_X4_size l D cI cS a.2.1.2.1 x.1.1 v34 h34) gg_RX5_101 hd_X4_size (by decide) rfl rfl rfl rfl (Nat.le_of_ble_eq_true rfl) dX5_wrap_34 (seP_0nowtree cI cS a x) (seP_0nowtree cI cS a x).symm [.int v34] rfl ?_
    refine g_bipush (pc := 37) C 40 dX5_wrap_37 (by decide) ?_
    refine g_icmp_ge (pc := 39) C 66 dX5_wrap_39 (by decide) (fun (c39 : 40 ≤ v34) => ?_) (fun (c39 : ¬ 40 ≤ v34) => ?_)
    · have hf := k_pos c39 hf
      refine g_bipush (pc := 66) C (-3) dX5_wrap_66 (by decide) ?_
      have e := Option.some.inj hf; subst e
      exact g_ri (pc := 68) C rfl (flP cI cS a x) dX5_wrap_68
    · have hf := k_neg c39 hf
      refine g_iload_n (pc := 42) C 0 dX5_wrap_42 rfl ?_
      refine g_aload_n (pc := 43) C 1 dX5_wrap_43 rfl ?_
      refine gf_RX5_10 (pc := 44) C 0 rfl dX5_wrap_44 ?_
      refine gf_RX5_43 (pc := 47) C 1 rfl dX5_wrap_47 ?_
      refine g_aload_n (pc := 50) C 1 dX5_wrap_50 rfl ?_
      refine gf_RX5_10 (pc := 51) C 0 rfl dX5_wrap_51 ?_
      refine gf_RX5_47 (pc := 54) C 1 rfl dX5_wrap_54 ?_
      obtain ⟨v57, h57, hf⟩ := Option.bind_eq_some_iff.mp hf
      refine g_callV' (pc := 57) hla C (c_X4_heightOf l D cI cS a.2.1.2.1 x.1.1 x.1.2.2.2.2.2.1 v57 h57) gg_RX5_113 hd_X4_heightOf (by decide) rfl rfl rfl rfl (Nat.le_of_ble_eq_true rfl) dX5_wrap_57 (seP_0nowtree cI cS a x) (seP_0nowtree cI cS a x).symm [.int v57, .int v23] rfl ?_
      refine g_iadd (pc := 60) C dX5_wrap_60 ?_
      refine g_bipush (pc := 61) C 7 dX5_wrap_61 (by decide) ?_
      refine g_icmp_lt (pc := 63) C 69 dX5_wrap_63 (by decide) (fun (c63 : (v23 + v57) < 7) => ?_) (fun (c63 : ¬ (v23 + v57) < 7) => ?_)
      · have hf := k_pos c63 hf
        refine g_aload_n (pc := 69) C 1 dX5_wrap_69 rfl ?_
        refine gf_RX5_19 (pc := 70) C 0 rfl dX5_wrap_70 ?_
        refine g_aload_n (pc := 73) C 1 dX5_wrap_73 rfl ?_
        refine gf_RX5_10 (pc := 74) C 0 rfl dX5_wrap_74 ?_
        obtain ⟨v77, h77, hf⟩ := Option.bind_eq_some_iff.mp hf
        refine g_callV' (pc := 77) hla C (c_X0_keep l D cI cS a.2.2.1 x.2.1 a.2.1 x.1 v77 h77) gg_RX5_81 hd_X0_keep (by decide) rfl rfl rfl rfl (Nat.le_of_ble_eq_true rfl) dX5_wrap_77 (seP_0history_0now cI cS a x) (seP_0history_0now cI cS a (x.1, v77, x.2.2.1, x.2.2.2)).symm [] rfl ?_
        refine g_aload_n (pc := 80) C 1 dX5_wrap_80 rfl ?_
        refine gf_RX5_10 (pc := 81) C 0 rfl dX5_wrap_81 ?_
        refine gf_RX5_43 (pc := 84) C 1 rfl dX5_wrap_84 ?_
        refine g_aload_n (pc := 87) C 1 dX5_wrap_87 rfl ?_
        refine gf_RX5_10 (pc := 88) C 0 rfl dX5_wrap_88 ?_
        refine gf_RX5_47 (pc := 91) C 1 rfl dX5_wrap_91 ?_
        refine g_aload_n (pc := 94) C 1 dX5_wrap_94 rfl ?_
        refine gf_RX5_10 (pc := 95) C 0 rfl dX5_wrap_95 ?_
        refine gf_RX5_43 (pc := 98) C 1 rfl dX5_wrap_98 ?_
        refine g_aload_n (pc := 101) C 1 dX5_wrap_101 rfl ?_
        refine gf_RX5_10 (pc := 102) C 0 rfl dX5_wrap_102 ?_
        refine gf_RX5_47 (pc := 105) C 1 rfl dX5_wrap_105 ?_
        obtain ⟨v108, h108, hf⟩ := Option.bind_eq_some_iff.mp hf
        refine g_callV' (pc := 108) hla C (c_X4_endOf l D cI cS a.2.1.2.1 x.1.1 x.1.2.2.2.2.2.1 v108 h108) gg_RX5_107 hd_X4_endOf (by decide) rfl rfl rfl rfl (Nat.le_of_ble_eq_true rfl) dX5_wrap_108 (seP_0nowtree cI cS a (x.1, v77, x.2.2.1, x.2.2.2)) (seP_0nowtree cI cS a (x.1, v77, x.2.2.1, x.2.2.2)).symm [.int v108, .int x.1.2.2.2.2.2.1, .ref a.2.1.2.1.1] rfl ?_
        refine g_iconst (pc := 111) C 1 dX5_wrap_111 (by decide) ?_
        obtain ⟨v112, h112, hf⟩ := Option.bind_eq_some_iff.mp hf
        refine g_callV' (pc := 112) hla C (c_X4_shiftDepths l D cI cS a.2.1.2.1 x.1.1 x.1.2.2.2.2.2.1 v108 1 v112 h112) gg_RX5_116 hd_X4_shiftDepths (by decide) rfl rfl rfl rfl (Nat.le_of_ble_eq_true rfl) dX5_wrap_112 (seP_0nowtree cI cS a (x.1, v77, x.2.2.1, x.2.2.2)) (seP_0nowtree cI cS a ((v112, x.1.2.1, x.1.2.2.1, x.1.2.2.2.1, x.1.2.2.2.2.1, x.1.2.2.2.2.2.1, x.1.2.2.2.2.2.2), v77, x.2.2.1, x.2.2.2)).symm [] rfl ?_
        refine g_aload_n (pc := 115) C 1 dX5_wrap_115 rfl ?_
        refine gf_RX5_10 (pc := 116) C 0 rfl dX5_wrap_116 ?_
        refine g_aload_n (pc := 119) C 1 dX5_wrap_119 rfl ?_
        refine gf_RX5_10 (pc := 120) C 0 rfl dX5_wrap_120 ?_
        refine gf_RX5_47 (pc := 123) C 1 rfl dX5_wrap_123 ?_
        refine g_iload_n (pc := 126) C 2 dX5_wrap_126 rfl ?_
        refine g_iload_n (pc := 127) C 0 dX5_wrap_127 rfl ?_
        obtain ⟨v128, h128, hf⟩ := Option.bind_eq_some_iff.mp hf
        refine g_callV' (pc := 128) hla C (c_X3_putNodeIn l D cI cS a.2.1 (v112, x.1.2.1, x.1.2.2.1, x.1.2.2.2.1, x.1.2.2.2.2.1, x.1.2.2.2.2.2.1, x.1.2.2.2.2.2.2) x.1.2.2.2.2.2.1 x1 v23 v128 h128) gg_RX5_39 hd_X3_putNodeIn (by decide) rfl rfl rfl rfl (Nat.le_of_ble_eq_true rfl) dX5_wrap_128 (seP_0now cI cS a ((v112, x.1.2.1, x.1.2.2.1, x.1.2.2.2.1, x.1.2.2.2.2.1, x.1.2.2.2.2.2.1, x.1.2.2.2.2.2.2), v77, x.2.2.1, x.2.2.2)) (seP_0now cI cS a (v128, v77, x.2.2.1, x.2.2.2)).symm [] rfl ?_
        refine g_aload_n (pc := 131) C 1 dX5_wrap_131 rfl ?_
        refine gf_RX5_10 (pc := 132) C 0 rfl dX5_wrap_132 ?_
        refine gf_RX5_43 (pc := 135) C 1 rfl dX5_wrap_135 ?_
        obtain ⟨v138, h138, hf⟩ := Option.bind_eq_some_iff.mp hf
        refine g_callV' (pc := 138) hla C (c_X4_size l D cI cS a.2.1.2.1 v128.1 v138 h138) gg_RX5_101 hd_X4_size (by decide) rfl rfl rfl rfl (Nat.le_of_ble_eq_true rfl) dX5_wrap_138 (seP_0nowtree cI cS a (v128, v77, x.2.2.1, x.2.2.2)) (seP_0nowtree cI cS a (v128, v77, x.2.2.1, x.2.2.2)).symm [.int v138] rfl ?_
        have e := Option.some.inj hf; subst e
        exact g_ri (pc := 141) C rfl (flP cI cS a (v128, v77, x.2.2.1, x.2.2.2)) dX5_wrap_141
      · have hf := k_neg c63 hf
        refine g_bipush (pc := 66) C (-3) dX5_wrap_66 (by decide) ?_
        have e := Option.some.inj hf; subst e
        exact g_ri (pc := 68) C rfl (flP cI cS a x) dX5_wrap_68
  · have hf := k_pos c4 hf
    refine g_iconst (pc := 7) C (-1) dX5_wrap_7 (by decide) ?_
    have e := Option.some.inj hf; subst e
    exact g_ri (pc := 8) C rfl (flP cI cS a x) dX5_wrap_8
set_option maxHeartbeats 4000000 in
set_option maxRecDepth 100000 in
theorem c_X5_lift (l : Launch) (D : va_G) (cI cS : ClassId) (a : aP) (x : TP) (out : Int32 × TP) (hf : P_lift x = some out) : kM l D (kTy cI cS) yX5_lift ct_X5_lift rm_X5_lift [.ref a.1] [wP cI cS a x] (kEq (some (.int out.1)) [wP cI cS a out.2]) := by
  refine k_methodE cX5_lift 3 (some .int) RX5 rfl [(0, .ref a.1)] rfl (by decide +kernel) (Nat.le_of_ble_eq_true rfl) (fun κ A hla C => ?_)
  refine g_chunks (flP cI cS a x).symm ?_
  have J77 : ∀ (x : TP) (x2 : Int32), P_lift_J77 x x2 = some out → kG κ D A 3 0 0 (kF κ D A (some (.int out.1)) [wP cI cS a out.2]) (csP cI cS a x) [(0, .ref a.1), (2, .int x2)] 77 [] := by
    intro x x2 hf; rw [P_lift_J77] at hf
    refine g_aload_n (pc := 77) C 0 dX5_lift_77 rfl ?_
    refine gf_RX5_19 (pc := 78) C 0 rfl dX5_lift_78 ?_
    refine g_aload_n (pc := 81) C 0 dX5_lift_81 rfl ?_
    refine gf_RX5_10 (pc := 82) C 0 rfl dX5_lift_82 ?_
    obtain ⟨v85, h85, hf⟩ := Option.bind_eq_some_iff.mp hf
    refine g_callV' (pc := 85) hla C (c_X0_keep l D cI cS a.2.2.1 x.2.1 a.2.1 x.1 v85 h85) gg_RX5_81 hd_X0_keep (by decide) rfl rfl rfl rfl (Nat.le_of_ble_eq_true rfl) dX5_lift_85 (seP_0history_0now cI cS a x) (seP_0history_0now cI cS a (x.1, v85, x.2.2.1, x.2.2.2)).symm [] rfl ?_
    refine g_iload_n (pc := 88) C 1 dX5_lift_88 rfl ?_
    refine g_if_ne (pc := 89) C 103 dX5_lift_89 (by decide) (fun (c89 : ¬ x2 = 0) => ?_) (fun (c89 : x2 = 0) => ?_)
    · have hf := k_neg c89 hf
      refine g_aload_n (pc := 103) C 0 dX5_lift_103 rfl ?_
      refine gf_RX5_10 (pc := 104) C 0 rfl dX5_lift_104 ?_
      refine gf_RX5_43 (pc := 107) C 1 rfl dX5_lift_107 ?_
      refine g_aload_n (pc := 110) C 0 dX5_lift_110 rfl ?_
      refine gf_RX5_10 (pc := 111) C 0 rfl dX5_lift_111 ?_
      refine gf_RX5_47 (pc := 114) C 1 rfl dX5_lift_114 ?_
      refine g_aload_n (pc := 117) C 0 dX5_lift_117 rfl ?_
      refine gf_RX5_10 (pc := 118) C 0 rfl dX5_lift_118 ?_
      refine gf_RX5_43 (pc := 121) C 1 rfl dX5_lift_121 ?_
      refine g_aload_n (pc := 124) C 0 dX5_lift_124 rfl ?_
      refine gf_RX5_10 (pc := 125) C 0 rfl dX5_lift_125 ?_
      refine gf_RX5_47 (pc := 128) C 1 rfl dX5_lift_128 ?_
      obtain ⟨v131, h131, hf⟩ := Option.bind_eq_some_iff.mp hf
      refine g_callV' (pc := 131) hla C (c_X4_endOf l D cI cS a.2.1.2.1 x.1.1 x.1.2.2.2.2.2.1 v131 h131) gg_RX5_107 hd_X4_endOf (by decide) rfl rfl rfl rfl (Nat.le_of_ble_eq_true rfl) dX5_lift_131 (seP_0nowtree cI cS a (x.1, v85, x.2.2.1, x.2.2.2)) (seP_0nowtree cI cS a (x.1, v85, x.2.2.1, x.2.2.2)).symm [.int v131, .int x.1.2.2.2.2.2.1, .ref a.2.1.2.1.1] rfl ?_
      refine g_iconst (pc := 134) C (-1) dX5_lift_134 (by decide) ?_
      obtain ⟨v135, h135, hf⟩ := Option.bind_eq_some_iff.mp hf
      refine g_callV' (pc := 135) hla C (c_X4_shiftDepths l D cI cS a.2.1.2.1 x.1.1 x.1.2.2.2.2.2.1 v131 (-1) v135 h135) gg_RX5_116 hd_X4_shiftDepths (by decide) rfl rfl rfl rfl (Nat.le_of_ble_eq_true rfl) dX5_lift_135 (seP_0nowtree cI cS a (x.1, v85, x.2.2.1, x.2.2.2)) (seP_0nowtree cI cS a ((v135, x.1.2.1, x.1.2.2.1, x.1.2.2.2.1, x.1.2.2.2.2.1, x.1.2.2.2.2.2.1, x.1.2.2.2.2.2.2), v85, x.2.2.1, x.2.2.2)).symm [] rfl ?_
      refine g_aload_n (pc := 138) C 0 dX5_lift_138 rfl ?_
      refine gf_RX5_10 (pc := 139) C 0 rfl dX5_lift_139 ?_
      refine g_aload_n (pc := 142) C 0 dX5_lift_142 rfl ?_
      refine gf_RX5_10 (pc := 143) C 0 rfl dX5_lift_143 ?_
      refine gf_RX5_47 (pc := 146) C 1 rfl dX5_lift_146 ?_
      refine g_aload_n (pc := 149) C 0 dX5_lift_149 rfl ?_
      refine gf_RX5_10 (pc := 150) C 0 rfl dX5_lift_150 ?_
      refine gf_RX5_47 (pc := 153) C 1 rfl dX5_lift_153 ?_
      refine g_iconst (pc := 156) C 1 dX5_lift_156 (by decide) ?_
      refine g_iadd (pc := 157) C dX5_lift_157 ?_
      obtain ⟨v158, h158, hf⟩ := Option.bind_eq_some_iff.mp hf
      refine g_callV' (pc := 158) hla C (c_X3_takeNodesOut l D cI cS a.2.1 (v135, x.1.2.1, x.1.2.2.1, x.1.2.2.2.1, x.1.2.2.2.2.1, x.1.2.2.2.2.2.1, x.1.2.2.2.2.2.2) x.1.2.2.2.2.2.1 (x.1.2.2.2.2.2.1 + 1) v158 h158) gg_RX5_119 hd_X3_takeNodesOut (by decide) rfl rfl rfl rfl (Nat.le_of_ble_eq_true rfl) dX5_lift_158 (seP_0now cI cS a ((v135, x.1.2.1, x.1.2.2.1, x.1.2.2.2.1, x.1.2.2.2.2.1, x.1.2.2.2.2.2.1, x.1.2.2.2.2.2.2), v85, x.2.2.1, x.2.2.2)) (seP_0now cI cS a (v158, v85, x.2.2.1, x.2.2.2)).symm [] rfl ?_
      refine g_iload_n (pc := 161) C 1 dX5_lift_161 rfl ?_
      have e := Option.some.inj hf; subst e
      exact g_ri (pc := 162) C rfl (flP cI cS a (v158, v85, x.2.2.1, x.2.2.2)) dX5_lift_162
    · have hf := k_pos c89 hf
      refine g_aload_n (pc := 92) C 0 dX5_lift_92 rfl ?_
      refine gf_RX5_10 (pc := 93) C 0 rfl dX5_lift_93 ?_
      obtain ⟨v96, h96, hf⟩ := Option.bind_eq_some_iff.mp hf
      refine g_callV' (pc := 96) hla C (c_X3_takePlaceOut l D cI cS a.2.1 x.1 v96 h96) gg_RX5_110 hd_X3_takePlaceOut (by decide) rfl rfl rfl rfl (Nat.le_of_ble_eq_true rfl) dX5_lift_96 (seP_0now cI cS a (x.1, v85, x.2.2.1, x.2.2.2)) (seP_0now cI cS a (v96.2, v85, x.2.2.1, x.2.2.2)).symm [.int v96.1] rfl ?_
      refine g_pop (pc := 99) C dX5_lift_99 rfl ?_
      refine g_goto (pc := 100) C 161 dX5_lift_100 (by decide) ?_
      refine g_iload_n (pc := 161) C 1 dX5_lift_161 rfl ?_
      have e := Option.some.inj hf; subst e
      exact g_ri (pc := 162) C rfl (flP cI cS a (v96.2, v85, x.2.2.1, x.2.2.2)) dX5_lift_162
  have J49 : ∀ (x : TP) (x1 : Int32) (x2 : Int32), P_lift_J49 x x1 x2 = some out → kG κ D A 3 0 0 (kF κ D A (some (.int out.1)) [wP cI cS a out.2]) (csP cI cS a x) [(0, .ref a.1), (1, .int x1), (2, .int x2)] 49 [] := by
    intro x x1 x2 hf; rw [P_lift_J49] at hf
    refine g_iload_n (pc := 49) C 1 dX5_lift_49 rfl ?_
    refine g_iconst (pc := 50) C (-1) dX5_lift_50 (by decide) ?_
    refine g_icmp_eq (pc := 51) C 77 dX5_lift_51 (by decide) (fun (c51 : x1 = (-1)) => ?_) (fun (c51 : ¬ x1 = (-1)) => ?_)
    · have hf := k_pos c51 hf
      refine g_sub [0, 2] (lv' := [(0, .ref a.1), (2, .int x2)]) rfl ?_
      exact J77 x x2 hf
    · have hf := k_neg c51 hf
      refine g_aload_n (pc := 54) C 0 dX5_lift_54 rfl ?_
      refine gf_RX5_10 (pc := 55) C 0 rfl dX5_lift_55 ?_
      refine gf_RX5_43 (pc := 58) C 1 rfl dX5_lift_58 ?_
      refine g_iload_n (pc := 61) C 1 dX5_lift_61 rfl ?_
      obtain ⟨v62, h62, hf⟩ := Option.bind_eq_some_iff.mp hf
      refine g_callV' (pc := 62) hla C (c_X4_childrenOf l D cI cS a.2.1.2.1 x.1.1 x1 v62 h62) gg_RX5_98 hd_X4_childrenOf (by decide) rfl rfl rfl rfl (Nat.le_of_ble_eq_true rfl) dX5_lift_62 (seP_0nowtree cI cS a x) (seP_0nowtree cI cS a x).symm [.int v62] rfl ?_
      refine g_iconst (pc := 65) C 1 dX5_lift_65 (by decide) ?_
      refine g_isub (pc := 66) C dX5_lift_66 ?_
      refine g_iload_n (pc := 67) C 2 dX5_lift_67 rfl ?_
      refine g_iadd (pc := 68) C dX5_lift_68 ?_
      refine g_bipush (pc := 69) C 6 dX5_lift_69 (by decide) ?_
      refine g_icmp_le (pc := 71) C 77 dX5_lift_71 (by decide) (fun (c71 : ((v62 - 1) + x2) ≤ 6) => ?_) (fun (c71 : ¬ ((v62 - 1) + x2) ≤ 6) => ?_)
      · have hf := k_pos c71 hf
        refine g_sub [0, 2] (lv' := [(0, .ref a.1), (2, .int x2)]) rfl ?_
        exact J77 x x2 hf
      · have hf := k_neg c71 hf
        refine g_bipush (pc := 74) C (-3) dX5_lift_74 (by decide) ?_
        have e := Option.some.inj hf; subst e
        exact g_ri (pc := 76) C rfl (flP cI cS a x) dX5_lift_76
  rw [P_lift] at hf
  refine g_aload_n (pc := 0) C 0 dX5_lift_0 rfl ?_
  refine gf_RX5_10 (pc := 1) C 0 rfl dX5_lift_1 ?_
  refine gf_RX5_43 (pc := 4) C 1 rfl dX5_lift_4 ?_
  refine g_aload_n (pc := 7) C 0 dX5_lift_7 rfl ?_
  refine gf_RX5_10 (pc := 8) C 0 rfl dX5_lift_8 ?_
  refine gf_RX5_47 (pc := 11) C 1 rfl dX5_lift_11 ?_
  obtain ⟨v14, h14, hf⟩ := Option.bind_eq_some_iff.mp hf
  refine g_callV' (pc := 14) hla C (c_X4_above l D cI cS a.2.1.2.1 x.1.1 x.1.2.2.2.2.2.1 v14 h14) gg_RX5_61 hd_X4_above (by decide) rfl rfl rfl rfl (Nat.le_of_ble_eq_true rfl) dX5_lift_14 (seP_0nowtree cI cS a x) (seP_0nowtree cI cS a x).symm [.int v14] rfl ?_
  refine g_istore_n (pc := 17) C [(1, .int v14), (0, .ref a.1)] dX5_lift_17 (by decide) rfl ?_
  refine g_aload_n (pc := 18) C 1 dX5_lift_18 rfl ?_
  refine gf_RX5_10 (pc := 19) C 0 rfl dX5_lift_19 ?_
  refine gf_RX5_43 (pc := 22) C 1 rfl dX5_lift_22 ?_
  refine g_aload_n (pc := 25) C 1 dX5_lift_25 rfl ?_
  refine gf_RX5_10 (pc := 26) C 0 rfl dX5_lift_26 ?_
  refine gf_RX5_47 (pc := 29) C 1 rfl dX5_lift_29 ?_
  obtain ⟨v32, h32, hf⟩ := Option.bind_eq_some_iff.mp hf
  refine g_callV' (pc := 32) hla C (c_X4_childrenOf l D cI cS a.2.1.2.1 x.1.1 x.1.2.2.2.2.2.1 v32 h32) gg_RX5_98 hd_X4_childrenOf (by decide) rfl rfl rfl rfl (Nat.le_of_ble_eq_true rfl) dX5_lift_32 (seP_0nowtree cI cS a x) (seP_0nowtree cI cS a x).symm [.int v32] rfl ?_
  refine g_istore_n (pc := 35) C [(2, .int v32), (1, .int v14), (0, .ref a.1)] dX5_lift_35 (by decide) rfl ?_
  refine g_iload_n (pc := 36) C 1 dX5_lift_36 rfl ?_
  refine g_iconst (pc := 37) C (-1) dX5_lift_37 (by decide) ?_
  refine g_icmp_ne (pc := 38) C 49 dX5_lift_38 (by decide) (fun (c38 : ¬ v14 = (-1)) => ?_) (fun (c38 : v14 = (-1)) => ?_)
  · have hf := k_neg c38 hf
    refine g_sub [2, 1, 0] (lv' := [(0, .ref a.1), (1, .int v14), (2, .int v32)]) rfl ?_
    exact J49 x v14 v32 hf
  · have hf := k_pos c38 hf
    refine g_iload_n (pc := 41) C 0 dX5_lift_41 rfl ?_
    refine g_iconst (pc := 42) C 1 dX5_lift_42 (by decide) ?_
    refine g_icmp_eq (pc := 43) C 49 dX5_lift_43 (by decide) (fun (c43 : v32 = 1) => ?_) (fun (c43 : ¬ v32 = 1) => ?_)
    · have hf := k_pos c43 hf
      refine g_sub [2, 1, 0] (lv' := [(0, .ref a.1), (1, .int v14), (2, .int v32)]) rfl ?_
      exact J49 x v14 v32 hf
    · have hf := k_neg c43 hf
      refine g_bipush (pc := 46) C (-2) dX5_lift_46 (by decide) ?_
      have e := Option.some.inj hf; subst e
      exact g_ri (pc := 48) C rfl (flP cI cS a x) dX5_lift_48
set_option maxHeartbeats 4000000 in
set_option maxRecDepth 100000 in
theorem c_X5_exchange (l : Launch) (D : va_G) (cI cS : ClassId) (a : aP) (x : TP) (x1 : Int32) (out : Int32 × TP) (hf : P_exchange x x1 = some out) : kM l D (kTy cI cS) yX5_exchange ct_X5_exchange rm_X5_exchange [.ref a.1, .int x1] [wP cI cS a x] (kEq (some (.int out.1)) [wP cI cS a out.2]) := by
  refine k_methodE cX5_exchange 6 (some .int) RX5 rfl [(0, .ref a.1), (1, .int x1)] rfl (by decide +kernel) (Nat.le_of_ble_eq_true rfl) (fun κ A hla C => ?_)
  refine g_chunks (flP cI cS a x).symm ?_
  have J93 : ∀ (x : TP) (x2 : Int32) (x3 : Int32) (x4 : Int32) (s0 : Int32), P_exchange_J93 x x2 x3 x4 s0 = some out → kG κ D A 6 0 0 (kF κ D A (some (.int out.1)) [wP cI cS a out.2]) (csP cI cS a x) [(0, .ref a.1), (2, .int x2), (3, .int x3), (4, .int x4)] 93 [.int s0] := by
    intro x x2 x3 x4 s0 hf; rw [P_exchange_J93] at hf
    refine g_istore (pc := 93) C [(5, .int s0), (0, .ref a.1), (2, .int x2), (3, .int x3), (4, .int x4)] dX5_exchange_93 (by decide) rfl ?_
    refine g_aload_n (pc := 95) C 1 dX5_exchange_95 rfl ?_
    refine gf_RX5_10 (pc := 96) C 0 rfl dX5_exchange_96 ?_
    refine g_aload_n (pc := 99) C 1 dX5_exchange_99 rfl ?_
    refine gf_RX5_10 (pc := 100) C 0 rfl dX5_exchange_100 ?_
    refine gf_RX5_47 (pc := 103) C 1 rfl dX5_exchange_103 ?_
    refine g_iload_n (pc := 106) C 2 dX5_exchange_106 rfl ?_
    refine g_mmin (pc := 107) C m_433 m_275 m_math m_code_min (by decide) (Nat.le_of_ble_eq_true rfl) (Nat.le_refl 0) (Nat.le_refl 0) dX5_exchange_107 ?_
    refine g_iload_n (pc := 110) C 3 dX5_exchange_110 rfl ?_
    refine g_iload (pc := 111) C 4 dX5_exchange_111 rfl ?_
    obtain ⟨v113, h113, hf⟩ := Option.bind_eq_some_iff.mp hf
    refine g_callV' (pc := 113) hla C (c_X3_exchangeRuns l D cI cS a.2.1 x.1 (imin x.1.2.2.2.2.2.1 x2) x3 x4 v113 h113) gg_RX5_130 hd_X3_exchangeRuns (by decide) rfl rfl rfl rfl (Nat.le_of_ble_eq_true rfl) dX5_exchange_113 (seP_0now cI cS a x) (seP_0now cI cS a (v113, x.2.1, x.2.2.1, x.2.2.2)).symm [] rfl ?_
    refine g_aload_n (pc := 116) C 1 dX5_exchange_116 rfl ?_
    refine gf_RX5_10 (pc := 117) C 0 rfl dX5_exchange_117 ?_
    refine g_iload (pc := 120) C 0 dX5_exchange_120 rfl ?_
    refine gp_RX5_47 (pc := 122) C 1 (cs' := csP cI cS a ((v113.1, v113.2.1, v113.2.2.1, v113.2.2.2.1, v113.2.2.2.2.1, s0, v113.2.2.2.2.2.2), x.2.1, x.2.2.1, x.2.2.2)) rfl rfl dX5_exchange_122 ?_
    refine g_aload_n (pc := 125) C 1 dX5_exchange_125 rfl ?_
    refine gf_RX5_10 (pc := 126) C 0 rfl dX5_exchange_126 ?_
    refine gf_RX5_43 (pc := 129) C 1 rfl dX5_exchange_129 ?_
    refine g_iload (pc := 132) C 0 dX5_exchange_132 rfl ?_
    obtain ⟨v134, h134, hf⟩ := Option.bind_eq_some_iff.mp hf
    refine g_callV' (pc := 134) hla C (c_X4_turnOf l D cI cS a.2.1.2.1 v113.1 s0 v134 h134) gg_RX5_133 hd_X4_turnOf (by decide) rfl rfl rfl rfl (Nat.le_of_ble_eq_true rfl) dX5_exchange_134 (seP_0nowtree cI cS a ((v113.1, v113.2.1, v113.2.2.1, v113.2.2.2.1, v113.2.2.2.2.1, s0, v113.2.2.2.2.2.2), x.2.1, x.2.2.1, x.2.2.2)) (seP_0nowtree cI cS a ((v113.1, v113.2.1, v113.2.2.1, v113.2.2.2.1, v113.2.2.2.2.1, s0, v113.2.2.2.2.2.2), x.2.1, x.2.2.1, x.2.2.2)).symm [.int v134] rfl ?_
    have e := Option.some.inj hf; subst e
    exact g_ri (pc := 137) C rfl (flP cI cS a ((v113.1, v113.2.1, v113.2.2.1, v113.2.2.2.1, v113.2.2.2.2.1, s0, v113.2.2.2.2.2.2), x.2.1, x.2.2.1, x.2.2.2)) dX5_exchange_137
  rw [P_exchange] at hf
  refine g_iload_n (pc := 0) C 1 dX5_exchange_0 rfl ?_
  obtain ⟨v1, h1, hf⟩ := Option.bind_eq_some_iff.mp hf
  refine g_callS' (pc := 1) hla C (c_X5_isChoice l D cI cS x1 v1 h1) tb_X5_isChoice m_309 m_X5_isChoice_static m_ini_RX5 hd_X5_isChoice (by decide) rfl rfl (Nat.le_of_ble_eq_true rfl) dX5_exchange_1 (seP_nil cI cS a x) (seP_nil cI cS a x).symm [.int v1] rfl ?_
  refine g_if_ne (pc := 4) C 9 dX5_exchange_4 (by decide) (fun (c4 : ¬ v1 = 0) => ?_) (fun (c4 : v1 = 0) => ?_)
  · have hf := k_neg c4 hf
    refine g_aload_n (pc := 9) C 0 dX5_exchange_9 rfl ?_
    refine gf_RX5_10 (pc := 10) C 0 rfl dX5_exchange_10 ?_
    refine gf_RX5_43 (pc := 13) C 1 rfl dX5_exchange_13 ?_
    refine g_aload_n (pc := 16) C 0 dX5_exchange_16 rfl ?_
    refine gf_RX5_10 (pc := 17) C 0 rfl dX5_exchange_17 ?_
    refine gf_RX5_47 (pc := 20) C 1 rfl dX5_exchange_20 ?_
    refine g_iload_n (pc := 23) C 1 dX5_exchange_23 rfl ?_
    obtain ⟨v24, h24, hf⟩ := Option.bind_eq_some_iff.mp hf
    refine g_callV' (pc := 24) hla C (c_X4_neighbour l D cI cS a.2.1.2.1 x.1.1 x.1.2.2.2.2.2.1 x1 v24 h24) gg_RX5_68 hd_X4_neighbour (by decide) rfl rfl rfl rfl (Nat.le_of_ble_eq_true rfl) dX5_exchange_24 (seP_0nowtree cI cS a x) (seP_0nowtree cI cS a x).symm [.int v24] rfl ?_
    refine g_istore_n (pc := 27) C [(2, .int v24), (0, .ref a.1), (1, .int x1)] dX5_exchange_27 (by decide) rfl ?_
    refine g_iload_n (pc := 28) C 0 dX5_exchange_28 rfl ?_
    refine g_iconst (pc := 29) C (-1) dX5_exchange_29 (by decide) ?_
    refine g_icmp_ne (pc := 30) C 36 dX5_exchange_30 (by decide) (fun (c30 : ¬ v24 = (-1)) => ?_) (fun (c30 : v24 = (-1)) => ?_)
    · have hf := k_neg c30 hf
      refine g_aload_n (pc := 36) C 1 dX5_exchange_36 rfl ?_
      refine gf_RX5_19 (pc := 37) C 0 rfl dX5_exchange_37 ?_
      refine g_aload_n (pc := 40) C 1 dX5_exchange_40 rfl ?_
      refine gf_RX5_10 (pc := 41) C 0 rfl dX5_exchange_41 ?_
      obtain ⟨v44, h44, hf⟩ := Option.bind_eq_some_iff.mp hf
      refine g_callV' (pc := 44) hla C (c_X0_keep l D cI cS a.2.2.1 x.2.1 a.2.1 x.1 v44 h44) gg_RX5_81 hd_X0_keep (by decide) rfl rfl rfl rfl (Nat.le_of_ble_eq_true rfl) dX5_exchange_44 (seP_0history_0now cI cS a x) (seP_0history_0now cI cS a (x.1, v44, x.2.2.1, x.2.2.2)).symm [] rfl ?_
      refine g_aload_n (pc := 47) C 1 dX5_exchange_47 rfl ?_
      refine gf_RX5_10 (pc := 48) C 0 rfl dX5_exchange_48 ?_
      refine gf_RX5_47 (pc := 51) C 1 rfl dX5_exchange_51 ?_
      refine g_iload_n (pc := 54) C 0 dX5_exchange_54 rfl ?_
      refine g_mmax (pc := 55) C m_432 m_81 m_math m_code_max (by decide) (Nat.le_of_ble_eq_true rfl) (Nat.le_refl 0) (Nat.le_refl 0) dX5_exchange_55 ?_
      refine g_istore_n (pc := 58) C [(3, .int (imax x.1.2.2.2.2.2.1 v24)), (2, .int v24), (0, .ref a.1), (1, .int x1)] dX5_exchange_58 (by decide) rfl ?_
      refine g_aload_n (pc := 59) C 2 dX5_exchange_59 rfl ?_
      refine gf_RX5_10 (pc := 60) C 0 rfl dX5_exchange_60 ?_
      refine gf_RX5_43 (pc := 63) C 1 rfl dX5_exchange_63 ?_
      refine g_iload_n (pc := 66) C 0 dX5_exchange_66 rfl ?_
      obtain ⟨v67, h67, hf⟩ := Option.bind_eq_some_iff.mp hf
      refine g_callV' (pc := 67) hla C (c_X4_endOf l D cI cS a.2.1.2.1 x.1.1 (imax x.1.2.2.2.2.2.1 v24) v67 h67) gg_RX5_107 hd_X4_endOf (by decide) rfl rfl rfl rfl (Nat.le_of_ble_eq_true rfl) dX5_exchange_67 (seP_0nowtree cI cS a (x.1, v44, x.2.2.1, x.2.2.2)) (seP_0nowtree cI cS a (x.1, v44, x.2.2.1, x.2.2.2)).symm [.int v67] rfl ?_
      refine g_istore (pc := 70) C [(4, .int v67), (3, .int (imax x.1.2.2.2.2.2.1 v24)), (2, .int v24), (0, .ref a.1), (1, .int x1)] dX5_exchange_70 (by decide) rfl ?_
      refine g_iload_n (pc := 72) C 4 dX5_exchange_72 rfl ?_
      refine g_iconst (pc := 73) C 1 dX5_exchange_73 (by decide) ?_
      refine g_icmp_ne (pc := 74) C 92 dX5_exchange_74 (by decide) (fun (c74 : ¬ x1 = 1) => ?_) (fun (c74 : x1 = 1) => ?_)
      · have hf := k_neg c74 hf
        refine g_iload_n (pc := 92) C 2 dX5_exchange_92 rfl ?_
        refine g_sub [3, 2, 1, 0] (lv' := [(0, .ref a.1), (2, .int v24), (3, .int (imax x.1.2.2.2.2.2.1 v24)), (4, .int v67)]) rfl ?_
        exact J93 (x.1, v44, x.2.2.1, x.2.2.2) v24 (imax x.1.2.2.2.2.2.1 v24) v67 v24 hf
      · have hf := k_pos c74 hf
        refine g_aload_n (pc := 77) C 3 dX5_exchange_77 rfl ?_
        refine gf_RX5_10 (pc := 78) C 0 rfl dX5_exchange_78 ?_
        refine gf_RX5_47 (pc := 81) C 1 rfl dX5_exchange_81 ?_
        refine g_iload (pc := 84) C 0 dX5_exchange_84 rfl ?_
        refine g_iadd (pc := 86) C dX5_exchange_86 ?_
        refine g_iload_n (pc := 87) C 1 dX5_exchange_87 rfl ?_
        refine g_isub (pc := 88) C dX5_exchange_88 ?_
        refine g_goto (pc := 89) C 93 dX5_exchange_89 (by decide) ?_
        refine g_sub [3, 2, 1, 0] (lv' := [(0, .ref a.1), (2, .int v24), (3, .int (imax x.1.2.2.2.2.2.1 v24)), (4, .int v67)]) rfl ?_
        exact J93 (x.1, v44, x.2.2.1, x.2.2.2) v24 (imax x.1.2.2.2.2.2.1 v24) v67 ((x.1.2.2.2.2.2.1 + v67) - (imax x.1.2.2.2.2.2.1 v24)) hf
    · have hf := k_pos c30 hf
      refine g_bipush (pc := 33) C (-2) dX5_exchange_33 (by decide) ?_
      have e := Option.some.inj hf; subst e
      exact g_ri (pc := 35) C rfl (flP cI cS a x) dX5_exchange_35
  · have hf := k_pos c4 hf
    refine g_iconst (pc := 7) C (-1) dX5_exchange_7 (by decide) ?_
    have e := Option.some.inj hf; subst e
    exact g_ri (pc := 8) C rfl (flP cI cS a x) dX5_exchange_8
set_option maxHeartbeats 4000000 in
set_option maxRecDepth 100000 in
theorem c_X5_cut (l : Launch) (D : va_G) (cI cS : ClassId) (a : aP) (x : TP) (out : Int32 × TP) (hf : P_cut x = some out) : kM l D (kTy cI cS) yX5_cut ct_X5_cut rm_X5_cut [.ref a.1] [wP cI cS a x] (kEq (some (.int out.1)) [wP cI cS a out.2]) := by
  refine k_methodE cX5_cut 1 (some .int) RX5 rfl [(0, .ref a.1)] rfl (by decide +kernel) (Nat.le_of_ble_eq_true rfl) (fun κ A hla C => ?_)
  refine g_chunks (flP cI cS a x).symm ?_
  rw [P_cut] at hf
  refine g_aload_n (pc := 0) C 0 dX5_cut_0 rfl ?_
  refine gf_RX5_10 (pc := 1) C 0 rfl dX5_cut_1 ?_
  refine gf_RX5_47 (pc := 4) C 1 rfl dX5_cut_4 ?_
  refine g_if_ne (pc := 7) C 13 dX5_cut_7 (by decide) (fun (c7 : ¬ x.1.2.2.2.2.2.1 = 0) => ?_) (fun (c7 : x.1.2.2.2.2.2.1 = 0) => ?_)
  · have hf := k_neg c7 hf
    refine g_aload_n (pc := 13) C 0 dX5_cut_13 rfl ?_
    refine gf_RX5_19 (pc := 14) C 0 rfl dX5_cut_14 ?_
    refine g_aload_n (pc := 17) C 0 dX5_cut_17 rfl ?_
    refine gf_RX5_10 (pc := 18) C 0 rfl dX5_cut_18 ?_
    obtain ⟨v21, h21, hf⟩ := Option.bind_eq_some_iff.mp hf
    refine g_callV' (pc := 21) hla C (c_X0_keep l D cI cS a.2.2.1 x.2.1 a.2.1 x.1 v21 h21) gg_RX5_81 hd_X0_keep (by decide) rfl rfl rfl rfl (Nat.le_of_ble_eq_true rfl) dX5_cut_21 (seP_0history_0now cI cS a x) (seP_0history_0now cI cS a (x.1, v21, x.2.2.1, x.2.2.2)).symm [] rfl ?_
    refine g_aload_n (pc := 24) C 0 dX5_cut_24 rfl ?_
    refine gf_RX5_10 (pc := 25) C 0 rfl dX5_cut_25 ?_
    refine gf_RX5_136 (pc := 28) C 1 rfl dX5_cut_28 ?_
    refine g_aload_n (pc := 31) C 0 dX5_cut_31 rfl ?_
    refine gf_RX5_10 (pc := 32) C 0 rfl dX5_cut_32 ?_
    refine gf_RX5_43 (pc := 35) C 1 rfl dX5_cut_35 ?_
    refine g_aload_n (pc := 38) C 0 dX5_cut_38 rfl ?_
    refine gf_RX5_10 (pc := 39) C 0 rfl dX5_cut_39 ?_
    refine gf_RX5_47 (pc := 42) C 1 rfl dX5_cut_42 ?_
    obtain ⟨v45, h45, hf⟩ := Option.bind_eq_some_iff.mp hf
    refine g_callV' (pc := 45) hla C (c_X4_takePart l D cI cS a.2.1.2.2.1 x.1.2.1 a.2.1.2.1 x.1.1 x.1.2.2.2.2.2.1 v45 h45) gg_RX5_139 hd_X4_takePart (by decide) rfl rfl rfl rfl (Nat.le_of_ble_eq_true rfl) dX5_cut_45 (seP_0nowclip_0nowtree cI cS a (x.1, v21, x.2.2.1, x.2.2.2)) (seP_0nowclip_0nowtree cI cS a ((x.1.1, v45, x.1.2.2.1, x.1.2.2.2.1, x.1.2.2.2.2.1, x.1.2.2.2.2.2.1, x.1.2.2.2.2.2.2), v21, x.2.2.1, x.2.2.2)).symm [] rfl ?_
    refine g_aload_n (pc := 48) C 0 dX5_cut_48 rfl ?_
    refine gf_RX5_10 (pc := 49) C 0 rfl dX5_cut_49 ?_
    obtain ⟨v52, h52, hf⟩ := Option.bind_eq_some_iff.mp hf
    refine g_callV' (pc := 52) hla C (c_X3_takePlaceOut l D cI cS a.2.1 (x.1.1, v45, x.1.2.2.1, x.1.2.2.2.1, x.1.2.2.2.2.1, x.1.2.2.2.2.2.1, x.1.2.2.2.2.2.2) v52 h52) gg_RX5_110 hd_X3_takePlaceOut (by decide) rfl rfl rfl rfl (Nat.le_of_ble_eq_true rfl) dX5_cut_52 (seP_0now cI cS a ((x.1.1, v45, x.1.2.2.1, x.1.2.2.2.1, x.1.2.2.2.2.1, x.1.2.2.2.2.2.1, x.1.2.2.2.2.2.2), v21, x.2.2.1, x.2.2.2)) (seP_0now cI cS a (v52.2, v21, x.2.2.1, x.2.2.2)).symm [.int v52.1] rfl ?_
    have e := Option.some.inj hf; subst e
    exact g_ri (pc := 55) C rfl (flP cI cS a (v52.2, v21, x.2.2.1, x.2.2.2)) dX5_cut_55
  · have hf := k_pos c7 hf
    refine g_bipush (pc := 10) C (-2) dX5_cut_10 (by decide) ?_
    have e := Option.some.inj hf; subst e
    exact g_ri (pc := 12) C rfl (flP cI cS a x) dX5_cut_12
set_option maxHeartbeats 4000000 in
set_option maxRecDepth 100000 in
theorem c_X5_copy (l : Launch) (D : va_G) (cI cS : ClassId) (a : aP) (x : TP) (out : Int32 × TP) (hf : P_copy x = some out) : kM l D (kTy cI cS) yX5_copy ct_X5_copy rm_X5_copy [.ref a.1] [wP cI cS a x] (kEq (some (.int out.1)) [wP cI cS a out.2]) := by
  refine k_methodE cX5_copy 1 (some .int) RX5 rfl [(0, .ref a.1)] rfl (by decide +kernel) (Nat.le_of_ble_eq_true rfl) (fun κ A hla C => ?_)
  refine g_chunks (flP cI cS a x).symm ?_
  rw [P_copy] at hf
  refine g_aload_n (pc := 0) C 0 dX5_copy_0 rfl ?_
  refine gf_RX5_19 (pc := 1) C 0 rfl dX5_copy_1 ?_
  refine g_aload_n (pc := 4) C 0 dX5_copy_4 rfl ?_
  refine gf_RX5_10 (pc := 5) C 0 rfl dX5_copy_5 ?_
  obtain ⟨v8, h8, hf⟩ := Option.bind_eq_some_iff.mp hf
  refine g_callV' (pc := 8) hla C (c_X0_keep l D cI cS a.2.2.1 x.2.1 a.2.1 x.1 v8 h8) gg_RX5_81 hd_X0_keep (by decide) rfl rfl rfl rfl (Nat.le_of_ble_eq_true rfl) dX5_copy_8 (seP_0history_0now cI cS a x) (seP_0history_0now cI cS a (x.1, v8, x.2.2.1, x.2.2.2)).symm [] rfl ?_
  refine g_aload_n (pc := 11) C 0 dX5_copy_11 rfl ?_
  refine gf_RX5_10 (pc := 12) C 0 rfl dX5_copy_12 ?_
  refine gf_RX5_136 (pc := 15) C 1 rfl dX5_copy_15 ?_
  refine g_aload_n (pc := 18) C 0 dX5_copy_18 rfl ?_
  refine gf_RX5_10 (pc := 19) C 0 rfl dX5_copy_19 ?_
  refine gf_RX5_43 (pc := 22) C 1 rfl dX5_copy_22 ?_
  refine g_aload_n (pc := 25) C 0 dX5_copy_25 rfl ?_
  refine gf_RX5_10 (pc := 26) C 0 rfl dX5_copy_26 ?_
  refine gf_RX5_47 (pc := 29) C 1 rfl dX5_copy_29 ?_
  obtain ⟨v32, h32, hf⟩ := Option.bind_eq_some_iff.mp hf
  refine g_callV' (pc := 32) hla C (c_X4_takePart l D cI cS a.2.1.2.2.1 x.1.2.1 a.2.1.2.1 x.1.1 x.1.2.2.2.2.2.1 v32 h32) gg_RX5_139 hd_X4_takePart (by decide) rfl rfl rfl rfl (Nat.le_of_ble_eq_true rfl) dX5_copy_32 (seP_0nowclip_0nowtree cI cS a (x.1, v8, x.2.2.1, x.2.2.2)) (seP_0nowclip_0nowtree cI cS a ((x.1.1, v32, x.1.2.2.1, x.1.2.2.2.1, x.1.2.2.2.2.1, x.1.2.2.2.2.2.1, x.1.2.2.2.2.2.2), v8, x.2.2.1, x.2.2.2)).symm [] rfl ?_
  refine g_aload_n (pc := 35) C 0 dX5_copy_35 rfl ?_
  refine gf_RX5_10 (pc := 36) C 0 rfl dX5_copy_36 ?_
  refine gf_RX5_136 (pc := 39) C 1 rfl dX5_copy_39 ?_
  obtain ⟨v42, h42, hf⟩ := Option.bind_eq_some_iff.mp hf
  refine g_callV' (pc := 42) hla C (c_X4_size l D cI cS a.2.1.2.2.1 v32 v42 h42) gg_RX5_101 hd_X4_size (by decide) rfl rfl rfl rfl (Nat.le_of_ble_eq_true rfl) dX5_copy_42 (seP_0nowclip cI cS a ((x.1.1, v32, x.1.2.2.1, x.1.2.2.2.1, x.1.2.2.2.2.1, x.1.2.2.2.2.2.1, x.1.2.2.2.2.2.2), v8, x.2.2.1, x.2.2.2)) (seP_0nowclip cI cS a ((x.1.1, v32, x.1.2.2.1, x.1.2.2.2.1, x.1.2.2.2.2.1, x.1.2.2.2.2.2.1, x.1.2.2.2.2.2.2), v8, x.2.2.1, x.2.2.2)).symm [.int v42] rfl ?_
  have e := Option.some.inj hf; subst e
  exact g_ri (pc := 45) C rfl (flP cI cS a ((x.1.1, v32, x.1.2.2.1, x.1.2.2.2.1, x.1.2.2.2.2.1, x.1.2.2.2.2.2.1, x.1.2.2.2.2.2.2), v8, x.2.2.1, x.2.2.2)) dX5_copy_45
set_option maxHeartbeats 4000000 in
set_option maxRecDepth 100000 in
theorem c_X5_paste (l : Launch) (D : va_G) (cI cS : ClassId) (a : aP) (x : TP) (x1 : Int32) (out : Int32 × TP) (hf : P_paste x x1 = some out) : kM l D (kTy cI cS) yX5_paste ct_X5_paste rm_X5_paste [.ref a.1, .int x1] [wP cI cS a x] (kEq (some (.int out.1)) [wP cI cS a out.2]) := by
  refine k_methodE cX5_paste 4 (some .int) RX5 rfl [(0, .ref a.1), (1, .int x1)] rfl (by decide +kernel) (Nat.le_of_ble_eq_true rfl) (fun κ A hla C => ?_)
  refine g_chunks (flP cI cS a x).symm ?_
  rw [P_paste] at hf
  refine g_aload_n (pc := 0) C 0 dX5_paste_0 rfl ?_
  refine gf_RX5_10 (pc := 1) C 0 rfl dX5_paste_1 ?_
  refine gf_RX5_43 (pc := 4) C 1 rfl dX5_paste_4 ?_
  refine g_aload_n (pc := 7) C 0 dX5_paste_7 rfl ?_
  refine gf_RX5_10 (pc := 8) C 0 rfl dX5_paste_8 ?_
  refine gf_RX5_47 (pc := 11) C 1 rfl dX5_paste_11 ?_
  obtain ⟨v14, h14, hf⟩ := Option.bind_eq_some_iff.mp hf
  refine g_callV' (pc := 14) hla C (c_X4_childrenOf l D cI cS a.2.1.2.1 x.1.1 x.1.2.2.2.2.2.1 v14 h14) gg_RX5_98 hd_X4_childrenOf (by decide) rfl rfl rfl rfl (Nat.le_of_ble_eq_true rfl) dX5_paste_14 (seP_0nowtree cI cS a x) (seP_0nowtree cI cS a x).symm [.int v14] rfl ?_
  refine g_istore_n (pc := 17) C [(2, .int v14), (0, .ref a.1), (1, .int x1)] dX5_paste_17 (by decide) rfl ?_
  refine g_iload_n (pc := 18) C 2 dX5_paste_18 rfl ?_
  refine g_if_lt (pc := 19) C 27 dX5_paste_19 (by decide) (fun (c19 : x1 < 0) => ?_) (fun (c19 : ¬ x1 < 0) => ?_)
  · have hf := k_pos c19 hf
    refine g_iconst (pc := 27) C (-1) dX5_paste_27 (by decide) ?_
    have e := Option.some.inj hf; subst e
    exact g_ri (pc := 28) C rfl (flP cI cS a x) dX5_paste_28
  · have hf := k_neg c19 hf
    refine g_iload_n (pc := 22) C 2 dX5_paste_22 rfl ?_
    refine g_iload_n (pc := 23) C 0 dX5_paste_23 rfl ?_
    refine g_icmp_le (pc := 24) C 29 dX5_paste_24 (by decide) (fun (c24 : x1 ≤ v14) => ?_) (fun (c24 : ¬ x1 ≤ v14) => ?_)
    · have hf := k_pos c24 hf
      refine g_aload_n (pc := 29) C 1 dX5_paste_29 rfl ?_
      refine gf_RX5_10 (pc := 30) C 0 rfl dX5_paste_30 ?_
      refine gf_RX5_136 (pc := 33) C 1 rfl dX5_paste_33 ?_
      obtain ⟨v36, h36, hf⟩ := Option.bind_eq_some_iff.mp hf
      refine g_callV' (pc := 36) hla C (c_X4_size l D cI cS a.2.1.2.2.1 x.1.2.1 v36 h36) gg_RX5_101 hd_X4_size (by decide) rfl rfl rfl rfl (Nat.le_of_ble_eq_true rfl) dX5_paste_36 (seP_0nowclip cI cS a x) (seP_0nowclip cI cS a x).symm [.int v36] rfl ?_
      refine g_if_ne (pc := 39) C 45 dX5_paste_39 (by decide) (fun (c39 : ¬ v36 = 0) => ?_) (fun (c39 : v36 = 0) => ?_)
      · have hf := k_neg c39 hf
        refine g_aload_n (pc := 45) C 1 dX5_paste_45 rfl ?_
        refine gf_RX5_10 (pc := 46) C 0 rfl dX5_paste_46 ?_
        refine gf_RX5_43 (pc := 49) C 1 rfl dX5_paste_49 ?_
        refine g_aload_n (pc := 52) C 1 dX5_paste_52 rfl ?_
        refine gf_RX5_10 (pc := 53) C 0 rfl dX5_paste_53 ?_
        refine gf_RX5_47 (pc := 56) C 1 rfl dX5_paste_56 ?_
        obtain ⟨v59, h59, hf⟩ := Option.bind_eq_some_iff.mp hf
        refine g_callV' (pc := 59) hla C (c_X4_depthOf l D cI cS a.2.1.2.1 x.1.1 x.1.2.2.2.2.2.1 v59 h59) gg_RX5_74 hd_X4_depthOf (by decide) rfl rfl rfl rfl (Nat.le_of_ble_eq_true rfl) dX5_paste_59 (seP_0nowtree cI cS a x) (seP_0nowtree cI cS a x).symm [.int v59] rfl ?_
        refine g_iconst (pc := 62) C 1 dX5_paste_62 (by decide) ?_
        refine g_iadd (pc := 63) C dX5_paste_63 ?_
        refine g_istore_n (pc := 64) C [(3, .int (v59 + 1)), (2, .int v14), (0, .ref a.1), (1, .int x1)] dX5_paste_64 (by decide) rfl ?_
        refine g_aload_n (pc := 65) C 2 dX5_paste_65 rfl ?_
        refine gf_RX5_10 (pc := 66) C 0 rfl dX5_paste_66 ?_
        refine gf_RX5_43 (pc := 69) C 1 rfl dX5_paste_69 ?_
        obtain ⟨v72, h72, hf⟩ := Option.bind_eq_some_iff.mp hf
        refine g_callV' (pc := 72) hla C (c_X4_size l D cI cS a.2.1.2.1 x.1.1 v72 h72) gg_RX5_101 hd_X4_size (by decide) rfl rfl rfl rfl (Nat.le_of_ble_eq_true rfl) dX5_paste_72 (seP_0nowtree cI cS a x) (seP_0nowtree cI cS a x).symm [.int v72] rfl ?_
        refine g_aload_n (pc := 75) C 2 dX5_paste_75 rfl ?_
        refine gf_RX5_10 (pc := 76) C 0 rfl dX5_paste_76 ?_
        refine gf_RX5_136 (pc := 79) C 1 rfl dX5_paste_79 ?_
        obtain ⟨v82, h82, hf⟩ := Option.bind_eq_some_iff.mp hf
        refine g_callV' (pc := 82) hla C (c_X4_size l D cI cS a.2.1.2.2.1 x.1.2.1 v82 h82) gg_RX5_101 hd_X4_size (by decide) rfl rfl rfl rfl (Nat.le_of_ble_eq_true rfl) dX5_paste_82 (seP_0nowclip cI cS a x) (seP_0nowclip cI cS a x).symm [.int v82, .int v72] rfl ?_
        refine g_iadd (pc := 85) C dX5_paste_85 ?_
        refine g_bipush (pc := 86) C 40 dX5_paste_86 (by decide) ?_
        refine g_icmp_gt (pc := 88) C 115 dX5_paste_88 (by decide) (fun (c88 : 40 < (v72 + v82)) => ?_) (fun (c88 : ¬ 40 < (v72 + v82)) => ?_)
        · have hf := k_pos c88 hf
          refine g_bipush (pc := 115) C (-3) dX5_paste_115 (by decide) ?_
          have e := Option.some.inj hf; subst e
          exact g_ri (pc := 117) C rfl (flP cI cS a x) dX5_paste_117
        · have hf := k_neg c88 hf
          refine g_iload_n (pc := 91) C 1 dX5_paste_91 rfl ?_
          refine g_bipush (pc := 92) C 6 dX5_paste_92 (by decide) ?_
          refine g_icmp_ge (pc := 94) C 115 dX5_paste_94 (by decide) (fun (c94 : 6 ≤ v14) => ?_) (fun (c94 : ¬ 6 ≤ v14) => ?_)
          · have hf := k_pos c94 hf
            refine g_bipush (pc := 115) C (-3) dX5_paste_115 (by decide) ?_
            have e := Option.some.inj hf; subst e
            exact g_ri (pc := 117) C rfl (flP cI cS a x) dX5_paste_117
          · have hf := k_neg c94 hf
            refine g_iload_n (pc := 97) C 0 dX5_paste_97 rfl ?_
            refine g_aload_n (pc := 98) C 2 dX5_paste_98 rfl ?_
            refine gf_RX5_10 (pc := 99) C 0 rfl dX5_paste_99 ?_
            refine gf_RX5_136 (pc := 102) C 1 rfl dX5_paste_102 ?_
            refine g_iconst (pc := 105) C 0 dX5_paste_105 (by decide) ?_
            obtain ⟨v106, h106, hf⟩ := Option.bind_eq_some_iff.mp hf
            refine g_callV' (pc := 106) hla C (c_X4_heightOf l D cI cS a.2.1.2.2.1 x.1.2.1 0 v106 h106) gg_RX5_113 hd_X4_heightOf (by decide) rfl rfl rfl rfl (Nat.le_of_ble_eq_true rfl) dX5_paste_106 (seP_0nowclip cI cS a x) (seP_0nowclip cI cS a x).symm [.int v106, .int (v59 + 1)] rfl ?_
            refine g_iadd (pc := 109) C dX5_paste_109 ?_
            refine g_bipush (pc := 110) C 7 dX5_paste_110 (by decide) ?_
            refine g_icmp_le (pc := 112) C 118 dX5_paste_112 (by decide) (fun (c112 : ((v59 + 1) + v106) ≤ 7) => ?_) (fun (c112 : ¬ ((v59 + 1) + v106) ≤ 7) => ?_)
            · have hf := k_pos c112 hf
              refine g_aload_n (pc := 118) C 2 dX5_paste_118 rfl ?_
              refine gf_RX5_19 (pc := 119) C 0 rfl dX5_paste_119 ?_
              refine g_aload_n (pc := 122) C 2 dX5_paste_122 rfl ?_
              refine gf_RX5_10 (pc := 123) C 0 rfl dX5_paste_123 ?_
              obtain ⟨v126, h126, hf⟩ := Option.bind_eq_some_iff.mp hf
              refine g_callV' (pc := 126) hla C (c_X0_keep l D cI cS a.2.2.1 x.2.1 a.2.1 x.1 v126 h126) gg_RX5_81 hd_X0_keep (by decide) rfl rfl rfl rfl (Nat.le_of_ble_eq_true rfl) dX5_paste_126 (seP_0history_0now cI cS a x) (seP_0history_0now cI cS a (x.1, v126, x.2.2.1, x.2.2.2)).symm [] rfl ?_
              refine g_aload_n (pc := 129) C 2 dX5_paste_129 rfl ?_
              refine gf_RX5_10 (pc := 130) C 0 rfl dX5_paste_130 ?_
              refine g_aload_n (pc := 133) C 2 dX5_paste_133 rfl ?_
              refine gf_RX5_10 (pc := 134) C 0 rfl dX5_paste_134 ?_
              refine gf_RX5_136 (pc := 137) C 1 rfl dX5_paste_137 ?_
              refine g_aload_n (pc := 140) C 2 dX5_paste_140 rfl ?_
              refine gf_RX5_10 (pc := 141) C 0 rfl dX5_paste_141 ?_
              refine gf_RX5_43 (pc := 144) C 1 rfl dX5_paste_144 ?_
              refine g_aload_n (pc := 147) C 2 dX5_paste_147 rfl ?_
              refine gf_RX5_10 (pc := 148) C 0 rfl dX5_paste_148 ?_
              refine gf_RX5_47 (pc := 151) C 1 rfl dX5_paste_151 ?_
              refine g_iload_n (pc := 154) C 3 dX5_paste_154 rfl ?_
              obtain ⟨v155, h155, hf⟩ := Option.bind_eq_some_iff.mp hf
              refine g_callV' (pc := 155) hla C (c_X4_startOfChild l D cI cS a.2.1.2.1 x.1.1 x.1.2.2.2.2.2.1 x1 v155 h155) gg_RX5_104 hd_X4_startOfChild (by decide) rfl rfl rfl rfl (Nat.le_of_ble_eq_true rfl) dX5_paste_155 (seP_0nowtree cI cS a (x.1, v126, x.2.2.1, x.2.2.2)) (seP_0nowtree cI cS a (x.1, v126, x.2.2.1, x.2.2.2)).symm [.int v155, .ref a.2.1.2.2.1.1, .ref a.2.1.1] rfl ?_
              refine g_iload_n (pc := 158) C 0 dX5_paste_158 rfl ?_
              obtain ⟨v159, h159, hf⟩ := Option.bind_eq_some_iff.mp hf
              refine g_callV' (pc := 159) hla C (c_X3_putTreeInA l D cI cS a.2.1 x.1 v155 (v59 + 1) v159 h159) gg_RX5_143 hd_X3_putTreeIn (by decide) rfl rfl rfl rfl (Nat.le_of_ble_eq_true rfl) dX5_paste_159 (seP_0now cI cS a (x.1, v126, x.2.2.1, x.2.2.2)) (seP_0now cI cS a (v159, v126, x.2.2.1, x.2.2.2)).symm [] rfl ?_
              refine g_aload_n (pc := 162) C 2 dX5_paste_162 rfl ?_
              refine gf_RX5_10 (pc := 163) C 0 rfl dX5_paste_163 ?_
              refine gf_RX5_43 (pc := 166) C 1 rfl dX5_paste_166 ?_
              obtain ⟨v169, h169, hf⟩ := Option.bind_eq_some_iff.mp hf
              refine g_callV' (pc := 169) hla C (c_X4_size l D cI cS a.2.1.2.1 v159.1 v169 h169) gg_RX5_101 hd_X4_size (by decide) rfl rfl rfl rfl (Nat.le_of_ble_eq_true rfl) dX5_paste_169 (seP_0nowtree cI cS a (v159, v126, x.2.2.1, x.2.2.2)) (seP_0nowtree cI cS a (v159, v126, x.2.2.1, x.2.2.2)).symm [.int v169] rfl ?_
              have e := Option.some.inj hf; subst e
              exact g_ri (pc := 172) C rfl (flP cI cS a (v159, v126, x.2.2.1, x.2.2.2)) dX5_paste_172
            · have hf := k_neg c112 hf
              refine g_bipush (pc := 115) C (-3) dX5_paste_115 (by decide) ?_
              have e := Option.some.inj hf; subst e
              exact g_ri (pc := 117) C rfl (flP cI cS a x) dX5_paste_117
      · have hf := k_pos c39 hf
        refine g_bipush (pc := 42) C (-2) dX5_paste_42 (by decide) ?_
        have e := Option.some.inj hf; subst e
        exact g_ri (pc := 44) C rfl (flP cI cS a x) dX5_paste_44
    · have hf := k_neg c24 hf
      refine g_iconst (pc := 27) C (-1) dX5_paste_27 (by decide) ?_
      have e := Option.some.inj hf; subst e
      exact g_ri (pc := 28) C rfl (flP cI cS a x) dX5_paste_28
set_option maxHeartbeats 4000000 in
set_option maxRecDepth 100000 in
theorem c_X5_mark (l : Launch) (D : va_G) (cI cS : ClassId) (a : aP) (x : TP) (x1 : Int32) (out : Int32 × TP) (hf : P_mark x x1 = some out) : kM l D (kTy cI cS) yX5_mark ct_X5_mark rm_X5_mark [.ref a.1, .int x1] [wP cI cS a x] (kEq (some (.int out.1)) [wP cI cS a out.2]) := by
  refine k_methodE cX5_mark 3 (some .int) RX5 rfl [(0, .ref a.1), (1, .int x1)] rfl (by decide +kernel) (Nat.le_of_ble_eq_true rfl) (fun κ A hla C => ?_)
  refine g_chunks (flP cI cS a x).symm ?_
  rw [P_mark] at hf
  refine g_iload_n (pc := 0) C 1 dX5_mark_0 rfl ?_
  obtain ⟨v1, h1, hf⟩ := Option.bind_eq_some_iff.mp hf
  refine g_callS' (pc := 1) hla C (c_X5_isMark l D cI cS x1 v1 h1) tb_X5_isMark m_491 m_X5_isMark_static m_ini_RX5 hd_X5_isMark (by decide) rfl rfl (Nat.le_of_ble_eq_true rfl) dX5_mark_1 (seP_nil cI cS a x) (seP_nil cI cS a x).symm [.int v1] rfl ?_
  refine g_if_ne (pc := 4) C 9 dX5_mark_4 (by decide) (fun (c4 : ¬ v1 = 0) => ?_) (fun (c4 : v1 = 0) => ?_)
  · have hf := k_neg c4 hf
    refine g_aload_n (pc := 9) C 0 dX5_mark_9 rfl ?_
    refine gf_RX5_19 (pc := 10) C 0 rfl dX5_mark_10 ?_
    refine g_aload_n (pc := 13) C 0 dX5_mark_13 rfl ?_
    refine gf_RX5_10 (pc := 14) C 0 rfl dX5_mark_14 ?_
    obtain ⟨v17, h17, hf⟩ := Option.bind_eq_some_iff.mp hf
    refine g_callV' (pc := 17) hla C (c_X0_keep l D cI cS a.2.2.1 x.2.1 a.2.1 x.1 v17 h17) gg_RX5_81 hd_X0_keep (by decide) rfl rfl rfl rfl (Nat.le_of_ble_eq_true rfl) dX5_mark_17 (seP_0history_0now cI cS a x) (seP_0history_0now cI cS a (x.1, v17, x.2.2.1, x.2.2.2)).symm [] rfl ?_
    refine g_aload_n (pc := 20) C 0 dX5_mark_20 rfl ?_
    refine gf_RX5_10 (pc := 21) C 0 rfl dX5_mark_21 ?_
    refine g_iload_n (pc := 24) C 1 dX5_mark_24 rfl ?_
    obtain ⟨v25, h25, hf⟩ := Option.bind_eq_some_iff.mp hf
    refine g_callV' (pc := 25) hla C (c_X3_numberOfMark l D cI cS a.2.1 x.1 x1 v25 h25) gg_RX5_150 hd_X3_numberOfMark (by decide) rfl rfl rfl rfl (Nat.le_of_ble_eq_true rfl) dX5_mark_25 (seP_0now cI cS a (x.1, v17, x.2.2.1, x.2.2.2)) (seP_0now cI cS a (x.1, v17, x.2.2.1, x.2.2.2)).symm [.int v25] rfl ?_
    refine g_istore_n (pc := 28) C [(2, .int v25), (0, .ref a.1), (1, .int x1)] dX5_mark_28 (by decide) rfl ?_
    refine g_aload_n (pc := 29) C 1 dX5_mark_29 rfl ?_
    refine gf_RX5_10 (pc := 30) C 0 rfl dX5_mark_30 ?_
    refine g_iload_n (pc := 33) C 2 dX5_mark_33 rfl ?_
    obtain ⟨v34, h34, hf⟩ := Option.bind_eq_some_iff.mp hf
    refine g_callV' (pc := 34) hla C (c_X3_putMarkAtPlace l D cI cS a.2.1 x.1 x1 v34 h34) gg_RX5_153 hd_X3_putMarkAtPlace (by decide) rfl rfl rfl rfl (Nat.le_of_ble_eq_true rfl) dX5_mark_34 (seP_0now cI cS a (x.1, v17, x.2.2.1, x.2.2.2)) (seP_0now cI cS a (v34, v17, x.2.2.1, x.2.2.2)).symm [] rfl ?_
    refine g_iload_n (pc := 37) C 0 dX5_mark_37 rfl ?_
    refine g_iconst (pc := 38) C (-1) dX5_mark_38 (by decide) ?_
    refine g_icmp_ne (pc := 39) C 47 dX5_mark_39 (by decide) (fun (c39 : ¬ v25 = (-1)) => ?_) (fun (c39 : v25 = (-1)) => ?_)
    · have hf := k_neg c39 hf
      refine g_iload_n (pc := 47) C 0 dX5_mark_47 rfl ?_
      have e := Option.some.inj hf; subst e
      exact g_ri (pc := 48) C rfl (flP cI cS a (v34, v17, x.2.2.1, x.2.2.2)) dX5_mark_48
    · have hf := k_pos c39 hf
      refine g_bipush (pc := 42) C 100 dX5_mark_42 (by decide) ?_
      refine g_goto (pc := 44) C 48 dX5_mark_44 (by decide) ?_
      have e := Option.some.inj hf; subst e
      exact g_ri (pc := 48) C rfl (flP cI cS a (v34, v17, x.2.2.1, x.2.2.2)) dX5_mark_48
  · have hf := k_pos c4 hf
    refine g_iconst (pc := 7) C (-1) dX5_mark_7 (by decide) ?_
    have e := Option.some.inj hf; subst e
    exact g_ri (pc := 8) C rfl (flP cI cS a x) dX5_mark_8
set_option maxHeartbeats 4000000 in
set_option maxRecDepth 100000 in
theorem c_X5_goTo (l : Launch) (D : va_G) (cI cS : ClassId) (a : aP) (x : TP) (x1 : Int32) (out : Int32 × TP) (hf : P_goTo x x1 = some out) : kM l D (kTy cI cS) yX5_goTo ct_X5_goTo rm_X5_goTo [.ref a.1, .int x1] [wP cI cS a x] (kEq (some (.int out.1)) [wP cI cS a out.2]) := by
  refine k_methodE cX5_goTo 2 (some .int) RX5 rfl [(0, .ref a.1), (1, .int x1)] rfl (by decide +kernel) (Nat.le_of_ble_eq_true rfl) (fun κ A hla C => ?_)
  refine g_chunks (flP cI cS a x).symm ?_
  rw [P_goTo] at hf
  refine g_iload_n (pc := 0) C 1 dX5_goTo_0 rfl ?_
  obtain ⟨v1, h1, hf⟩ := Option.bind_eq_some_iff.mp hf
  refine g_callS' (pc := 1) hla C (c_X5_isMark l D cI cS x1 v1 h1) tb_X5_isMark m_491 m_X5_isMark_static m_ini_RX5 hd_X5_isMark (by decide) rfl rfl (Nat.le_of_ble_eq_true rfl) dX5_goTo_1 (seP_nil cI cS a x) (seP_nil cI cS a x).symm [.int v1] rfl ?_
  refine g_if_ne (pc := 4) C 9 dX5_goTo_4 (by decide) (fun (c4 : ¬ v1 = 0) => ?_) (fun (c4 : v1 = 0) => ?_)
  · have hf := k_neg c4 hf
    refine g_aload_n (pc := 9) C 0 dX5_goTo_9 rfl ?_
    refine g_aload_n (pc := 10) C 0 dX5_goTo_10 rfl ?_
    refine gf_RX5_10 (pc := 11) C 0 rfl dX5_goTo_11 ?_
    refine g_iload_n (pc := 14) C 1 dX5_goTo_14 rfl ?_
    obtain ⟨v15, h15, hf⟩ := Option.bind_eq_some_iff.mp hf
    refine g_callV' (pc := 15) hla C (c_X3_numberOfMark l D cI cS a.2.1 x.1 x1 v15 h15) gg_RX5_150 hd_X3_numberOfMark (by decide) rfl rfl rfl rfl (Nat.le_of_ble_eq_true rfl) dX5_goTo_15 (seP_0now cI cS a x) (seP_0now cI cS a x).symm [.int v15, .ref a.1] rfl ?_
    obtain ⟨v18, h18, hf⟩ := Option.bind_eq_some_iff.mp hf
    refine g_callV' (pc := 18) hla C (c_X5_walk l D cI cS a x v15 v18 h18) gg_RX5_57 hd_X5_walk (by decide) rfl rfl rfl rfl (Nat.le_of_ble_eq_true rfl) dX5_goTo_18 (seP_0 cI cS a x) (seP_0 cI cS a v18.2).symm [.int v18.1] rfl ?_
    have e := Option.some.inj hf; subst e
    exact g_ri (pc := 21) C rfl (flP cI cS a v18.2) dX5_goTo_21
  · have hf := k_pos c4 hf
    refine g_iconst (pc := 7) C (-1) dX5_goTo_7 (by decide) ?_
    have e := Option.some.inj hf; subst e
    exact g_ri (pc := 8) C rfl (flP cI cS a x) dX5_goTo_8
set_option maxHeartbeats 4000000 in
set_option maxRecDepth 100000 in
theorem c_X5_nodeOf (l : Launch) (D : va_G) (cI cS : ClassId) (a : aP) (x : TP) (x1 : Int32) (x2 : Int32) (out : Int32) (hf : P_nodeOf x x1 x2 = some out) : kM l D (kTy cI cS) yX5_nodeOf ct_X5_nodeOf rm_X5_nodeOf [.ref a.1, .int x1, .int x2] [wP cI cS a x] (kEq (some (.int out)) [wP cI cS a x]) := by
  refine k_methodE cX5_nodeOf 3 (some .int) RX5 rfl [(0, .ref a.1), (1, .int x1), (2, .int x2)] rfl (by decide +kernel) (Nat.le_of_ble_eq_true rfl) (fun κ A hla C => ?_)
  refine g_chunks (flP cI cS a x).symm ?_
  rw [P_nodeOf] at hf
  refine g_aload_n (pc := 0) C 0 dX5_nodeOf_0 rfl ?_
  refine gf_RX5_10 (pc := 1) C 0 rfl dX5_nodeOf_1 ?_
  refine gf_RX5_43 (pc := 4) C 1 rfl dX5_nodeOf_4 ?_
  refine g_iload_n (pc := 7) C 1 dX5_nodeOf_7 rfl ?_
  obtain ⟨v8, h8, hf⟩ := Option.bind_eq_some_iff.mp hf
  refine g_callV' (pc := 8) hla C (c_X4_has l D cI cS a.2.1.2.1 x.1.1 x1 v8 h8) gg_RX5_71 hd_X4_has (by decide) rfl rfl rfl rfl (Nat.le_of_ble_eq_true rfl) dX5_nodeOf_8 (seP_0nowtree cI cS a x) (seP_0nowtree cI cS a x).symm [.int v8] rfl ?_
  refine g_if_ne (pc := 11) C 16 dX5_nodeOf_11 (by decide) (fun (c11 : ¬ v8 = 0) => ?_) (fun (c11 : v8 = 0) => ?_)
  · have hf := k_neg c11 hf
    refine g_iload_n (pc := 16) C 2 dX5_nodeOf_16 rfl ?_
    by_cases w0 : x2 = 0
    · have hf := k_pos w0 hf
      refine g_tableIn (pc := 17) C 64 (off := 47) dX5_nodeOf_17 (by rw [k_eq (z := 0) (by decide) w0]; decide) (by rw [k_eq (z := 0) (by decide) w0]; decide) (by rw [k_eq (z := 0) (by decide) w0]; rfl) (by decide) ?_
      refine g_aload_n (pc := 64) C 0 dX5_nodeOf_64 rfl ?_
      refine gf_RX5_10 (pc := 65) C 0 rfl dX5_nodeOf_65 ?_
      refine gf_RX5_43 (pc := 68) C 1 rfl dX5_nodeOf_68 ?_
      refine g_iload_n (pc := 71) C 1 dX5_nodeOf_71 rfl ?_
      obtain ⟨v72, h72, hf⟩ := Option.bind_eq_some_iff.mp hf
      refine g_callV' (pc := 72) hla C (c_X4_letterOf l D cI cS a.2.1.2.1 x.1.1 x1 v72 h72) gg_RX5_91 hd_X4_letterOf (by decide) rfl rfl rfl rfl (Nat.le_of_ble_eq_true rfl) dX5_nodeOf_72 (seP_0nowtree cI cS a x) (seP_0nowtree cI cS a x).symm [.int v72] rfl ?_
      have e := Option.some.inj hf; subst e
      exact g_ri (pc := 75) C rfl (flP cI cS a x) dX5_nodeOf_75
    have hf := k_neg w0 hf
    by_cases w1 : x2 = 1
    · have hf := k_pos w1 hf
      refine g_tableIn (pc := 17) C 76 (off := 59) dX5_nodeOf_17 (by rw [k_eq (z := 1) (by decide) w1]; decide) (by rw [k_eq (z := 1) (by decide) w1]; decide) (by rw [k_eq (z := 1) (by decide) w1]; rfl) (by decide) ?_
      refine g_aload_n (pc := 76) C 0 dX5_nodeOf_76 rfl ?_
      refine gf_RX5_10 (pc := 77) C 0 rfl dX5_nodeOf_77 ?_
      refine gf_RX5_43 (pc := 80) C 1 rfl dX5_nodeOf_80 ?_
      refine g_iload_n (pc := 83) C 1 dX5_nodeOf_83 rfl ?_
      obtain ⟨v84, h84, hf⟩ := Option.bind_eq_some_iff.mp hf
      refine g_callV' (pc := 84) hla C (c_X4_childrenOf l D cI cS a.2.1.2.1 x.1.1 x1 v84 h84) gg_RX5_98 hd_X4_childrenOf (by decide) rfl rfl rfl rfl (Nat.le_of_ble_eq_true rfl) dX5_nodeOf_84 (seP_0nowtree cI cS a x) (seP_0nowtree cI cS a x).symm [.int v84] rfl ?_
      have e := Option.some.inj hf; subst e
      exact g_ri (pc := 87) C rfl (flP cI cS a x) dX5_nodeOf_87
    have hf := k_neg w1 hf
    by_cases w2 : x2 = 2
    · have hf := k_pos w2 hf
      refine g_tableIn (pc := 17) C 88 (off := 71) dX5_nodeOf_17 (by rw [k_eq (z := 2) (by decide) w2]; decide) (by rw [k_eq (z := 2) (by decide) w2]; decide) (by rw [k_eq (z := 2) (by decide) w2]; rfl) (by decide) ?_
      refine g_aload_n (pc := 88) C 0 dX5_nodeOf_88 rfl ?_
      refine gf_RX5_10 (pc := 89) C 0 rfl dX5_nodeOf_89 ?_
      refine gf_RX5_43 (pc := 92) C 1 rfl dX5_nodeOf_92 ?_
      refine g_iload_n (pc := 95) C 1 dX5_nodeOf_95 rfl ?_
      obtain ⟨v96, h96, hf⟩ := Option.bind_eq_some_iff.mp hf
      refine g_callV' (pc := 96) hla C (c_X4_above l D cI cS a.2.1.2.1 x.1.1 x1 v96 h96) gg_RX5_61 hd_X4_above (by decide) rfl rfl rfl rfl (Nat.le_of_ble_eq_true rfl) dX5_nodeOf_96 (seP_0nowtree cI cS a x) (seP_0nowtree cI cS a x).symm [.int v96] rfl ?_
      obtain ⟨v99, h99, hf⟩ := Option.bind_eq_some_iff.mp hf
      refine g_callS' (pc := 99) hla C (c_X5_orNotFound l D cI cS v96 v99 h99) tb_X5_orNotFound m_511 m_X5_orNotFound_static m_ini_RX5 hd_X5_orNotFound (by decide) rfl rfl (Nat.le_of_ble_eq_true rfl) dX5_nodeOf_99 (seP_nil cI cS a x) (seP_nil cI cS a x).symm [.int v99] rfl ?_
      have e := Option.some.inj hf; subst e
      exact g_ri (pc := 102) C rfl (flP cI cS a x) dX5_nodeOf_102
    have hf := k_neg w2 hf
    by_cases w3 : x2 = 3
    · have hf := k_pos w3 hf
      refine g_tableIn (pc := 17) C 103 (off := 86) dX5_nodeOf_17 (by rw [k_eq (z := 3) (by decide) w3]; decide) (by rw [k_eq (z := 3) (by decide) w3]; decide) (by rw [k_eq (z := 3) (by decide) w3]; rfl) (by decide) ?_
      refine g_aload_n (pc := 103) C 0 dX5_nodeOf_103 rfl ?_
      refine gf_RX5_10 (pc := 104) C 0 rfl dX5_nodeOf_104 ?_
      refine gf_RX5_43 (pc := 107) C 1 rfl dX5_nodeOf_107 ?_
      refine g_iload_n (pc := 110) C 1 dX5_nodeOf_110 rfl ?_
      obtain ⟨v111, h111, hf⟩ := Option.bind_eq_some_iff.mp hf
      refine g_callV' (pc := 111) hla C (c_X4_depthOf l D cI cS a.2.1.2.1 x.1.1 x1 v111 h111) gg_RX5_74 hd_X4_depthOf (by decide) rfl rfl rfl rfl (Nat.le_of_ble_eq_true rfl) dX5_nodeOf_111 (seP_0nowtree cI cS a x) (seP_0nowtree cI cS a x).symm [.int v111] rfl ?_
      have e := Option.some.inj hf; subst e
      exact g_ri (pc := 114) C rfl (flP cI cS a x) dX5_nodeOf_114
    have hf := k_neg w3 hf
    by_cases w4 : x2 = 4
    · have hf := k_pos w4 hf
      refine g_tableIn (pc := 17) C 115 (off := 98) dX5_nodeOf_17 (by rw [k_eq (z := 4) (by decide) w4]; decide) (by rw [k_eq (z := 4) (by decide) w4]; decide) (by rw [k_eq (z := 4) (by decide) w4]; rfl) (by decide) ?_
      refine g_aload_n (pc := 115) C 0 dX5_nodeOf_115 rfl ?_
      refine gf_RX5_10 (pc := 116) C 0 rfl dX5_nodeOf_116 ?_
      refine gf_RX5_43 (pc := 119) C 1 rfl dX5_nodeOf_119 ?_
      refine g_iload_n (pc := 122) C 1 dX5_nodeOf_122 rfl ?_
      obtain ⟨v123, h123, hf⟩ := Option.bind_eq_some_iff.mp hf
      refine g_callV' (pc := 123) hla C (c_X4_endOf l D cI cS a.2.1.2.1 x.1.1 x1 v123 h123) gg_RX5_107 hd_X4_endOf (by decide) rfl rfl rfl rfl (Nat.le_of_ble_eq_true rfl) dX5_nodeOf_123 (seP_0nowtree cI cS a x) (seP_0nowtree cI cS a x).symm [.int v123] rfl ?_
      refine g_iload_n (pc := 126) C 1 dX5_nodeOf_126 rfl ?_
      refine g_isub (pc := 127) C dX5_nodeOf_127 ?_
      have e := Option.some.inj hf; subst e
      exact g_ri (pc := 128) C rfl (flP cI cS a x) dX5_nodeOf_128
    have hf := k_neg w4 hf
    by_cases w5 : x2 = 5
    · have hf := k_pos w5 hf
      refine g_tableIn (pc := 17) C 129 (off := 112) dX5_nodeOf_17 (by rw [k_eq (z := 5) (by decide) w5]; decide) (by rw [k_eq (z := 5) (by decide) w5]; decide) (by rw [k_eq (z := 5) (by decide) w5]; rfl) (by decide) ?_
      refine g_aload_n (pc := 129) C 0 dX5_nodeOf_129 rfl ?_
      refine gf_RX5_10 (pc := 130) C 0 rfl dX5_nodeOf_130 ?_
      refine gf_RX5_43 (pc := 133) C 1 rfl dX5_nodeOf_133 ?_
      refine g_iload_n (pc := 136) C 1 dX5_nodeOf_136 rfl ?_
      obtain ⟨v137, h137, hf⟩ := Option.bind_eq_some_iff.mp hf
      refine g_callV' (pc := 137) hla C (c_X4_turnOf l D cI cS a.2.1.2.1 x.1.1 x1 v137 h137) gg_RX5_133 hd_X4_turnOf (by decide) rfl rfl rfl rfl (Nat.le_of_ble_eq_true rfl) dX5_nodeOf_137 (seP_0nowtree cI cS a x) (seP_0nowtree cI cS a x).symm [.int v137] rfl ?_
      obtain ⟨v140, h140, hf⟩ := Option.bind_eq_some_iff.mp hf
      refine g_callS' (pc := 140) hla C (c_X5_orNotFound l D cI cS v137 v140 h140) tb_X5_orNotFound m_511 m_X5_orNotFound_static m_ini_RX5 hd_X5_orNotFound (by decide) rfl rfl (Nat.le_of_ble_eq_true rfl) dX5_nodeOf_140 (seP_nil cI cS a x) (seP_nil cI cS a x).symm [.int v140] rfl ?_
      have e := Option.some.inj hf; subst e
      exact g_ri (pc := 143) C rfl (flP cI cS a x) dX5_nodeOf_143
    have hf := k_neg w5 hf
    by_cases w6 : x2 = 6
    · have hf := k_pos w6 hf
      refine g_tableIn (pc := 17) C 144 (off := 127) dX5_nodeOf_17 (by rw [k_eq (z := 6) (by decide) w6]; decide) (by rw [k_eq (z := 6) (by decide) w6]; decide) (by rw [k_eq (z := 6) (by decide) w6]; rfl) (by decide) ?_
      refine g_aload_n (pc := 144) C 0 dX5_nodeOf_144 rfl ?_
      refine gf_RX5_10 (pc := 145) C 0 rfl dX5_nodeOf_145 ?_
      refine gf_RX5_43 (pc := 148) C 1 rfl dX5_nodeOf_148 ?_
      refine g_iload_n (pc := 151) C 1 dX5_nodeOf_151 rfl ?_
      obtain ⟨v152, h152, hf⟩ := Option.bind_eq_some_iff.mp hf
      refine g_callV' (pc := 152) hla C (c_X4_heightOf l D cI cS a.2.1.2.1 x.1.1 x1 v152 h152) gg_RX5_113 hd_X4_heightOf (by decide) rfl rfl rfl rfl (Nat.le_of_ble_eq_true rfl) dX5_nodeOf_152 (seP_0nowtree cI cS a x) (seP_0nowtree cI cS a x).symm [.int v152] rfl ?_
      have e := Option.some.inj hf; subst e
      exact g_ri (pc := 155) C rfl (flP cI cS a x) dX5_nodeOf_155
    have hf := k_neg w6 hf
    by_cases w7 : x2 = 7
    · have hf := k_pos w7 hf
      refine g_tableIn (pc := 17) C 156 (off := 139) dX5_nodeOf_17 (by rw [k_eq (z := 7) (by decide) w7]; decide) (by rw [k_eq (z := 7) (by decide) w7]; decide) (by rw [k_eq (z := 7) (by decide) w7]; rfl) (by decide) ?_
      refine g_aload_n (pc := 156) C 0 dX5_nodeOf_156 rfl ?_
      refine gf_RX5_10 (pc := 157) C 0 rfl dX5_nodeOf_157 ?_
      refine g_iload_n (pc := 160) C 1 dX5_nodeOf_160 rfl ?_
      obtain ⟨v161, h161, hf⟩ := Option.bind_eq_some_iff.mp hf
      refine g_callV' (pc := 161) hla C (c_X3_marksAt l D cI cS a.2.1 x.1 x1 v161 h161) gg_RX5_159 hd_X3_marksAt (by decide) rfl rfl rfl rfl (Nat.le_of_ble_eq_true rfl) dX5_nodeOf_161 (seP_0now cI cS a x) (seP_0now cI cS a x).symm [.int v161] rfl ?_
      have e := Option.some.inj hf; subst e
      exact g_ri (pc := 164) C rfl (flP cI cS a x) dX5_nodeOf_164
    have hf := k_neg w7 hf
    refine g_tableOut (pc := 17) C 165 dX5_nodeOf_17 (by have z0 := k_ne (z := 0) 0 (by decide) w0; have z1 := k_ne (z := 1) 1 (by decide) w1; have z2 := k_ne (z := 2) 2 (by decide) w2; have z3 := k_ne (z := 3) 3 (by decide) w3; have z4 := k_ne (z := 4) 4 (by decide) w4; have z5 := k_ne (z := 5) 5 (by decide) w5; have z6 := k_ne (z := 6) 6 (by decide) w6; have z7 := k_ne (z := 7) 7 (by decide) w7; omega) (by decide) ?_
    refine g_iconst (pc := 165) C (-1) dX5_nodeOf_165 (by decide) ?_
    have e := Option.some.inj hf; subst e
    exact g_ri (pc := 166) C rfl (flP cI cS a x) dX5_nodeOf_166
  · have hf := k_pos c11 hf
    refine g_iconst (pc := 14) C (-1) dX5_nodeOf_14 (by decide) ?_
    have e := Option.some.inj hf; subst e
    exact g_ri (pc := 15) C rfl (flP cI cS a x) dX5_nodeOf_15
set_option maxHeartbeats 4000000 in
set_option maxRecDepth 100000 in
theorem c_X5_spine (l : Launch) (D : va_G) (cI cS : ClassId) (a : aP) (x : TP) (x1 : Int32) (x2 : Int32) (out : Int32) (hf : P_spine x x1 x2 = some out) : kM l D (kTy cI cS) yX5_spine ct_X5_spine rm_X5_spine [.ref a.1, .int x1, .int x2] [wP cI cS a x] (kEq (some (.int out)) [wP cI cS a x]) := by
  refine k_methodE cX5_spine 4 (some .int) RX5 rfl [(0, .ref a.1), (1, .int x1), (2, .int x2)] rfl (by decide +kernel) (Nat.le_of_ble_eq_true rfl) (fun κ A hla C => ?_)
  refine g_chunks (flP cI cS a x).symm ?_
  rw [P_spine] at hf
  refine g_iload_n (pc := 0) C 1 dX5_spine_0 rfl ?_
  refine g_if_lt (pc := 1) C 13 dX5_spine_1 (by decide) (fun (c1 : x1 < 0) => ?_) (fun (c1 : ¬ x1 < 0) => ?_)
  · have hf := k_pos c1 hf
    refine g_iconst (pc := 13) C (-1) dX5_spine_13 (by decide) ?_
    have e := Option.some.inj hf; subst e
    exact g_ri (pc := 14) C rfl (flP cI cS a x) dX5_spine_14
  · have hf := k_neg c1 hf
    refine g_iload_n (pc := 4) C 2 dX5_spine_4 rfl ?_
    refine g_if_lt (pc := 5) C 13 dX5_spine_5 (by decide) (fun (c5 : x2 < 0) => ?_) (fun (c5 : ¬ x2 < 0) => ?_)
    · have hf := k_pos c5 hf
      refine g_iconst (pc := 13) C (-1) dX5_spine_13 (by decide) ?_
      have e := Option.some.inj hf; subst e
      exact g_ri (pc := 14) C rfl (flP cI cS a x) dX5_spine_14
    · have hf := k_neg c5 hf
      refine g_iload_n (pc := 8) C 2 dX5_spine_8 rfl ?_
      refine g_iconst (pc := 9) C 2 dX5_spine_9 (by decide) ?_
      refine g_icmp_le (pc := 10) C 15 dX5_spine_10 (by decide) (fun (c10 : x2 ≤ 2) => ?_) (fun (c10 : ¬ x2 ≤ 2) => ?_)
      · have hf := k_pos c10 hf
        refine g_aload_n (pc := 15) C 0 dX5_spine_15 rfl ?_
        refine gf_RX5_10 (pc := 16) C 0 rfl dX5_spine_16 ?_
        refine gf_RX5_43 (pc := 19) C 1 rfl dX5_spine_19 ?_
        refine g_aload_n (pc := 22) C 0 dX5_spine_22 rfl ?_
        refine gf_RX5_10 (pc := 23) C 0 rfl dX5_spine_23 ?_
        refine gf_RX5_47 (pc := 26) C 1 rfl dX5_spine_26 ?_
        refine g_iload_n (pc := 29) C 1 dX5_spine_29 rfl ?_
        obtain ⟨v30, h30, hf⟩ := Option.bind_eq_some_iff.mp hf
        refine g_callV' (pc := 30) hla C (c_X4_onSpine l D cI cS a.2.1.2.1 x.1.1 x.1.2.2.2.2.2.1 x1 v30 h30) gg_RX5_162 hd_X4_onSpine (by decide) rfl rfl rfl rfl (Nat.le_of_ble_eq_true rfl) dX5_spine_30 (seP_0nowtree cI cS a x) (seP_0nowtree cI cS a x).symm [.int v30] rfl ?_
        refine g_istore_n (pc := 33) C [(3, .int v30), (0, .ref a.1), (1, .int x1), (2, .int x2)] dX5_spine_33 (by decide) rfl ?_
        refine g_iload_n (pc := 34) C 0 dX5_spine_34 rfl ?_
        refine g_iconst (pc := 35) C (-1) dX5_spine_35 (by decide) ?_
        refine g_icmp_ne (pc := 36) C 42 dX5_spine_36 (by decide) (fun (c36 : ¬ v30 = (-1)) => ?_) (fun (c36 : v30 = (-1)) => ?_)
        · have hf := k_neg c36 hf
          refine g_iload_n (pc := 42) C 3 dX5_spine_42 rfl ?_
          refine g_if_ne (pc := 43) C 48 dX5_spine_43 (by decide) (fun (c43 : ¬ x2 = 0) => ?_) (fun (c43 : x2 = 0) => ?_)
          · have hf := k_neg c43 hf
            refine g_iload_n (pc := 48) C 3 dX5_spine_48 rfl ?_
            refine g_iconst (pc := 49) C 1 dX5_spine_49 (by decide) ?_
            refine g_icmp_ne (pc := 50) C 65 dX5_spine_50 (by decide) (fun (c50 : ¬ x2 = 1) => ?_) (fun (c50 : x2 = 1) => ?_)
            · have hf := k_neg c50 hf
              refine g_iload_n (pc := 65) C 0 dX5_spine_65 rfl ?_
              refine g_if_ne (pc := 66) C 73 dX5_spine_66 (by decide) (fun (c66 : ¬ v30 = 0) => ?_) (fun (c66 : v30 = 0) => ?_)
              · have hf := k_neg c66 hf
                refine g_aload_n (pc := 73) C 1 dX5_spine_73 rfl ?_
                refine gf_RX5_10 (pc := 74) C 0 rfl dX5_spine_74 ?_
                refine gf_RX5_43 (pc := 77) C 1 rfl dX5_spine_77 ?_
                refine g_iload_n (pc := 80) C 0 dX5_spine_80 rfl ?_
                obtain ⟨v81, h81, hf⟩ := Option.bind_eq_some_iff.mp hf
                refine g_callV' (pc := 81) hla C (c_X4_turnOf l D cI cS a.2.1.2.1 x.1.1 v30 v81 h81) gg_RX5_133 hd_X4_turnOf (by decide) rfl rfl rfl rfl (Nat.le_of_ble_eq_true rfl) dX5_spine_81 (seP_0nowtree cI cS a x) (seP_0nowtree cI cS a x).symm [.int v81] rfl ?_
                have e := Option.some.inj hf; subst e
                exact g_ri (pc := 84) C rfl (flP cI cS a x) dX5_spine_84
              · have hf := k_pos c66 hf
                refine g_iconst (pc := 69) C 0 dX5_spine_69 (by decide) ?_
                refine g_goto (pc := 70) C 84 dX5_spine_70 (by decide) ?_
                have e := Option.some.inj hf; subst e
                exact g_ri (pc := 84) C rfl (flP cI cS a x) dX5_spine_84
            · have hf := k_pos c50 hf
              refine g_aload_n (pc := 53) C 1 dX5_spine_53 rfl ?_
              refine gf_RX5_10 (pc := 54) C 0 rfl dX5_spine_54 ?_
              refine gf_RX5_43 (pc := 57) C 1 rfl dX5_spine_57 ?_
              refine g_iload_n (pc := 60) C 0 dX5_spine_60 rfl ?_
              obtain ⟨v61, h61, hf⟩ := Option.bind_eq_some_iff.mp hf
              refine g_callV' (pc := 61) hla C (c_X4_letterOf l D cI cS a.2.1.2.1 x.1.1 v30 v61 h61) gg_RX5_91 hd_X4_letterOf (by decide) rfl rfl rfl rfl (Nat.le_of_ble_eq_true rfl) dX5_spine_61 (seP_0nowtree cI cS a x) (seP_0nowtree cI cS a x).symm [.int v61] rfl ?_
              have e := Option.some.inj hf; subst e
              exact g_ri (pc := 64) C rfl (flP cI cS a x) dX5_spine_64
          · have hf := k_pos c43 hf
            refine g_iload_n (pc := 46) C 0 dX5_spine_46 rfl ?_
            have e := Option.some.inj hf; subst e
            exact g_ri (pc := 47) C rfl (flP cI cS a x) dX5_spine_47
        · have hf := k_pos c36 hf
          refine g_bipush (pc := 39) C (-4) dX5_spine_39 (by decide) ?_
          have e := Option.some.inj hf; subst e
          exact g_ri (pc := 41) C rfl (flP cI cS a x) dX5_spine_41
      · have hf := k_neg c10 hf
        refine g_iconst (pc := 13) C (-1) dX5_spine_13 (by decide) ?_
        have e := Option.some.inj hf; subst e
        exact g_ri (pc := 14) C rfl (flP cI cS a x) dX5_spine_14
set_option maxHeartbeats 4000000 in
set_option maxRecDepth 100000 in
theorem c_X5_marked (l : Launch) (D : va_G) (cI cS : ClassId) (a : aP) (x : TP) (x1 : Int32) (out : Int32) (hf : P_marked x x1 = some out) : kM l D (kTy cI cS) yX5_marked ct_X5_marked rm_X5_marked [.ref a.1, .int x1] [wP cI cS a x] (kEq (some (.int out)) [wP cI cS a x]) := by
  refine k_methodE cX5_marked 2 (some .int) RX5 rfl [(0, .ref a.1), (1, .int x1)] rfl (by decide +kernel) (Nat.le_of_ble_eq_true rfl) (fun κ A hla C => ?_)
  refine g_chunks (flP cI cS a x).symm ?_
  rw [P_marked] at hf
  refine g_iload_n (pc := 0) C 1 dX5_marked_0 rfl ?_
  obtain ⟨v1, h1, hf⟩ := Option.bind_eq_some_iff.mp hf
  refine g_callS' (pc := 1) hla C (c_X5_isMark l D cI cS x1 v1 h1) tb_X5_isMark m_491 m_X5_isMark_static m_ini_RX5 hd_X5_isMark (by decide) rfl rfl (Nat.le_of_ble_eq_true rfl) dX5_marked_1 (seP_nil cI cS a x) (seP_nil cI cS a x).symm [.int v1] rfl ?_
  refine g_if_ne (pc := 4) C 9 dX5_marked_4 (by decide) (fun (c4 : ¬ v1 = 0) => ?_) (fun (c4 : v1 = 0) => ?_)
  · have hf := k_neg c4 hf
    refine g_aload_n (pc := 9) C 0 dX5_marked_9 rfl ?_
    refine gf_RX5_10 (pc := 10) C 0 rfl dX5_marked_10 ?_
    refine g_iload_n (pc := 13) C 1 dX5_marked_13 rfl ?_
    obtain ⟨v14, h14, hf⟩ := Option.bind_eq_some_iff.mp hf
    refine g_callV' (pc := 14) hla C (c_X3_numberOfMark l D cI cS a.2.1 x.1 x1 v14 h14) gg_RX5_150 hd_X3_numberOfMark (by decide) rfl rfl rfl rfl (Nat.le_of_ble_eq_true rfl) dX5_marked_14 (seP_0now cI cS a x) (seP_0now cI cS a x).symm [.int v14] rfl ?_
    obtain ⟨v17, h17, hf⟩ := Option.bind_eq_some_iff.mp hf
    refine g_callS' (pc := 17) hla C (c_X5_orNotFound l D cI cS v14 v17 h17) tb_X5_orNotFound m_511 m_X5_orNotFound_static m_ini_RX5 hd_X5_orNotFound (by decide) rfl rfl (Nat.le_of_ble_eq_true rfl) dX5_marked_17 (seP_nil cI cS a x) (seP_nil cI cS a x).symm [.int v17] rfl ?_
    have e := Option.some.inj hf; subst e
    exact g_ri (pc := 20) C rfl (flP cI cS a x) dX5_marked_20
  · have hf := k_pos c4 hf
    refine g_iconst (pc := 7) C (-1) dX5_marked_7 (by decide) ?_
    have e := Option.some.inj hf; subst e
    exact g_ri (pc := 8) C rfl (flP cI cS a x) dX5_marked_8
set_option maxHeartbeats 4000000 in
set_option maxRecDepth 100000 in
theorem c_X5_count (l : Launch) (D : va_G) (cI cS : ClassId) (a : aP) (x : TP) (x1 : Int32) (out : Int32) (hf : P_count x x1 = some out) : kM l D (kTy cI cS) yX5_count ct_X5_count rm_X5_count [.ref a.1, .int x1] [wP cI cS a x] (kEq (some (.int out)) [wP cI cS a x]) := by
  refine k_methodE cX5_count 2 (some .int) RX5 rfl [(0, .ref a.1), (1, .int x1)] rfl (by decide +kernel) (Nat.le_of_ble_eq_true rfl) (fun κ A hla C => ?_)
  refine g_chunks (flP cI cS a x).symm ?_
  rw [P_count] at hf
  refine g_iload_n (pc := 0) C 1 dX5_count_0 rfl ?_
  by_cases w0 : x1 = 0
  · have hf := k_pos w0 hf
    refine g_tableIn (pc := 1) C 56 (off := 55) dX5_count_1 (by rw [k_eq (z := 0) (by decide) w0]; decide) (by rw [k_eq (z := 0) (by decide) w0]; decide) (by rw [k_eq (z := 0) (by decide) w0]; rfl) (by decide) ?_
    refine g_aload_n (pc := 56) C 0 dX5_count_56 rfl ?_
    refine gf_RX5_10 (pc := 57) C 0 rfl dX5_count_57 ?_
    refine gf_RX5_43 (pc := 60) C 1 rfl dX5_count_60 ?_
    obtain ⟨v63, h63, hf⟩ := Option.bind_eq_some_iff.mp hf
    refine g_callV' (pc := 63) hla C (c_X4_size l D cI cS a.2.1.2.1 x.1.1 v63 h63) gg_RX5_101 hd_X4_size (by decide) rfl rfl rfl rfl (Nat.le_of_ble_eq_true rfl) dX5_count_63 (seP_0nowtree cI cS a x) (seP_0nowtree cI cS a x).symm [.int v63] rfl ?_
    have e := Option.some.inj hf; subst e
    exact g_ri (pc := 66) C rfl (flP cI cS a x) dX5_count_66
  have hf := k_neg w0 hf
  by_cases w1 : x1 = 1
  · have hf := k_pos w1 hf
    refine g_tableIn (pc := 1) C 67 (off := 66) dX5_count_1 (by rw [k_eq (z := 1) (by decide) w1]; decide) (by rw [k_eq (z := 1) (by decide) w1]; decide) (by rw [k_eq (z := 1) (by decide) w1]; rfl) (by decide) ?_
    refine g_aload_n (pc := 67) C 0 dX5_count_67 rfl ?_
    refine gf_RX5_10 (pc := 68) C 0 rfl dX5_count_68 ?_
    refine gf_RX5_47 (pc := 71) C 1 rfl dX5_count_71 ?_
    have e := Option.some.inj hf; subst e
    exact g_ri (pc := 74) C rfl (flP cI cS a x) dX5_count_74
  have hf := k_neg w1 hf
  by_cases w2 : x1 = 2
  · have hf := k_pos w2 hf
    refine g_tableIn (pc := 1) C 75 (off := 74) dX5_count_1 (by rw [k_eq (z := 2) (by decide) w2]; decide) (by rw [k_eq (z := 2) (by decide) w2]; decide) (by rw [k_eq (z := 2) (by decide) w2]; rfl) (by decide) ?_
    refine g_aload_n (pc := 75) C 0 dX5_count_75 rfl ?_
    refine gf_RX5_10 (pc := 76) C 0 rfl dX5_count_76 ?_
    refine gf_RX5_43 (pc := 79) C 1 rfl dX5_count_79 ?_
    refine g_aload_n (pc := 82) C 0 dX5_count_82 rfl ?_
    refine gf_RX5_10 (pc := 83) C 0 rfl dX5_count_83 ?_
    refine gf_RX5_47 (pc := 86) C 1 rfl dX5_count_86 ?_
    obtain ⟨v89, h89, hf⟩ := Option.bind_eq_some_iff.mp hf
    refine g_callV' (pc := 89) hla C (c_X4_depthOf l D cI cS a.2.1.2.1 x.1.1 x.1.2.2.2.2.2.1 v89 h89) gg_RX5_74 hd_X4_depthOf (by decide) rfl rfl rfl rfl (Nat.le_of_ble_eq_true rfl) dX5_count_89 (seP_0nowtree cI cS a x) (seP_0nowtree cI cS a x).symm [.int v89] rfl ?_
    have e := Option.some.inj hf; subst e
    exact g_ri (pc := 92) C rfl (flP cI cS a x) dX5_count_92
  have hf := k_neg w2 hf
  by_cases w3 : x1 = 3
  · have hf := k_pos w3 hf
    refine g_tableIn (pc := 1) C 93 (off := 92) dX5_count_1 (by rw [k_eq (z := 3) (by decide) w3]; decide) (by rw [k_eq (z := 3) (by decide) w3]; decide) (by rw [k_eq (z := 3) (by decide) w3]; rfl) (by decide) ?_
    refine g_aload_n (pc := 93) C 0 dX5_count_93 rfl ?_
    refine gf_RX5_10 (pc := 94) C 0 rfl dX5_count_94 ?_
    refine gf_RX5_43 (pc := 97) C 1 rfl dX5_count_97 ?_
    obtain ⟨v100, h100, hf⟩ := Option.bind_eq_some_iff.mp hf
    refine g_callV' (pc := 100) hla C (c_X4_leaves l D cI cS a.2.1.2.1 x.1.1 v100 h100) gg_RX5_165 hd_X4_leaves (by decide) rfl rfl rfl rfl (Nat.le_of_ble_eq_true rfl) dX5_count_100 (seP_0nowtree cI cS a x) (seP_0nowtree cI cS a x).symm [.int v100] rfl ?_
    have e := Option.some.inj hf; subst e
    exact g_ri (pc := 103) C rfl (flP cI cS a x) dX5_count_103
  have hf := k_neg w3 hf
  by_cases w4 : x1 = 4
  · have hf := k_pos w4 hf
    refine g_tableIn (pc := 1) C 104 (off := 103) dX5_count_1 (by rw [k_eq (z := 4) (by decide) w4]; decide) (by rw [k_eq (z := 4) (by decide) w4]; decide) (by rw [k_eq (z := 4) (by decide) w4]; rfl) (by decide) ?_
    refine g_aload_n (pc := 104) C 0 dX5_count_104 rfl ?_
    refine gf_RX5_10 (pc := 105) C 0 rfl dX5_count_105 ?_
    refine gf_RX5_43 (pc := 108) C 1 rfl dX5_count_108 ?_
    refine g_iconst (pc := 111) C 0 dX5_count_111 (by decide) ?_
    obtain ⟨v112, h112, hf⟩ := Option.bind_eq_some_iff.mp hf
    refine g_callV' (pc := 112) hla C (c_X4_heightOf l D cI cS a.2.1.2.1 x.1.1 0 v112 h112) gg_RX5_113 hd_X4_heightOf (by decide) rfl rfl rfl rfl (Nat.le_of_ble_eq_true rfl) dX5_count_112 (seP_0nowtree cI cS a x) (seP_0nowtree cI cS a x).symm [.int v112] rfl ?_
    have e := Option.some.inj hf; subst e
    exact g_ri (pc := 115) C rfl (flP cI cS a x) dX5_count_115
  have hf := k_neg w4 hf
  by_cases w5 : x1 = 5
  · have hf := k_pos w5 hf
    refine g_tableIn (pc := 1) C 116 (off := 115) dX5_count_1 (by rw [k_eq (z := 5) (by decide) w5]; decide) (by rw [k_eq (z := 5) (by decide) w5]; decide) (by rw [k_eq (z := 5) (by decide) w5]; rfl) (by decide) ?_
    refine g_aload_n (pc := 116) C 0 dX5_count_116 rfl ?_
    refine gf_RX5_10 (pc := 117) C 0 rfl dX5_count_117 ?_
    refine gf_RX5_168 (pc := 120) C 1 rfl dX5_count_120 ?_
    obtain ⟨v123, h123, hf⟩ := Option.bind_eq_some_iff.mp hf
    refine g_callV' (pc := 123) hla C (c_X1_size l D cI cS a.2.1.2.2.2.2.1 8 x.1.2.2.2.1 v123 h123) gg_RX5_171 hd_X1_size (by decide) rfl rfl rfl rfl (Nat.le_of_ble_eq_true rfl) dX5_count_123 (seP_0nowwalks cI cS a x) (seP_0nowwalks cI cS a x).symm [.int v123] rfl ?_
    have e := Option.some.inj hf; subst e
    exact g_ri (pc := 126) C rfl (flP cI cS a x) dX5_count_126
  have hf := k_neg w5 hf
  by_cases w6 : x1 = 6
  · have hf := k_pos w6 hf
    refine g_tableIn (pc := 1) C 127 (off := 126) dX5_count_1 (by rw [k_eq (z := 6) (by decide) w6]; decide) (by rw [k_eq (z := 6) (by decide) w6]; decide) (by rw [k_eq (z := 6) (by decide) w6]; rfl) (by decide) ?_
    refine g_aload_n (pc := 127) C 0 dX5_count_127 rfl ?_
    refine gf_RX5_10 (pc := 128) C 0 rfl dX5_count_128 ?_
    refine gf_RX5_136 (pc := 131) C 1 rfl dX5_count_131 ?_
    obtain ⟨v134, h134, hf⟩ := Option.bind_eq_some_iff.mp hf
    refine g_callV' (pc := 134) hla C (c_X4_size l D cI cS a.2.1.2.2.1 x.1.2.1 v134 h134) gg_RX5_101 hd_X4_size (by decide) rfl rfl rfl rfl (Nat.le_of_ble_eq_true rfl) dX5_count_134 (seP_0nowclip cI cS a x) (seP_0nowclip cI cS a x).symm [.int v134] rfl ?_
    have e := Option.some.inj hf; subst e
    exact g_ri (pc := 137) C rfl (flP cI cS a x) dX5_count_137
  have hf := k_neg w6 hf
  by_cases w7 : x1 = 7
  · have hf := k_pos w7 hf
    refine g_tableIn (pc := 1) C 138 (off := 137) dX5_count_1 (by rw [k_eq (z := 7) (by decide) w7]; decide) (by rw [k_eq (z := 7) (by decide) w7]; decide) (by rw [k_eq (z := 7) (by decide) w7]; rfl) (by decide) ?_
    refine g_aload_n (pc := 138) C 0 dX5_count_138 rfl ?_
    refine gf_RX5_19 (pc := 139) C 0 rfl dX5_count_139 ?_
    obtain ⟨v142, h142, hf⟩ := Option.bind_eq_some_iff.mp hf
    refine g_callV' (pc := 142) hla C (c_X0_size l D cI cS a.2.2.1 x.2.1 v142 h142) gg_RX5_172 hd_X0_size (by decide) rfl rfl rfl rfl (Nat.le_of_ble_eq_true rfl) dX5_count_142 (seP_0history cI cS a x) (seP_0history cI cS a x).symm [.int v142] rfl ?_
    have e := Option.some.inj hf; subst e
    exact g_ri (pc := 145) C rfl (flP cI cS a x) dX5_count_145
  have hf := k_neg w7 hf
  by_cases w8 : x1 = 8
  · have hf := k_pos w8 hf
    refine g_tableIn (pc := 1) C 146 (off := 145) dX5_count_1 (by rw [k_eq (z := 8) (by decide) w8]; decide) (by rw [k_eq (z := 8) (by decide) w8]; decide) (by rw [k_eq (z := 8) (by decide) w8]; rfl) (by decide) ?_
    refine g_aload_n (pc := 146) C 0 dX5_count_146 rfl ?_
    refine gf_RX5_28 (pc := 147) C 0 rfl dX5_count_147 ?_
    obtain ⟨v150, h150, hf⟩ := Option.bind_eq_some_iff.mp hf
    refine g_callV' (pc := 150) hla C (c_X1_size l D cI cS a.2.2.2.1 120 x.2.2.1 v150 h150) gg_RX5_171 hd_X1_size (by decide) rfl rfl rfl rfl (Nat.le_of_ble_eq_true rfl) dX5_count_150 (seP_0text cI cS a x) (seP_0text cI cS a x).symm [.int v150] rfl ?_
    have e := Option.some.inj hf; subst e
    exact g_ri (pc := 153) C rfl (flP cI cS a x) dX5_count_153
  have hf := k_neg w8 hf
  by_cases w9 : x1 = 9
  · have hf := k_pos w9 hf
    refine g_tableIn (pc := 1) C 154 (off := 153) dX5_count_1 (by rw [k_eq (z := 9) (by decide) w9]; decide) (by rw [k_eq (z := 9) (by decide) w9]; decide) (by rw [k_eq (z := 9) (by decide) w9]; rfl) (by decide) ?_
    refine g_aload_n (pc := 154) C 0 dX5_count_154 rfl ?_
    refine gf_RX5_10 (pc := 155) C 0 rfl dX5_count_155 ?_
    refine gf_RX5_43 (pc := 158) C 1 rfl dX5_count_158 ?_
    obtain ⟨v161, h161, hf⟩ := Option.bind_eq_some_iff.mp hf
    refine g_callV' (pc := 161) hla C (c_X4_unlikeLetters l D cI cS a.2.1.2.1 x.1.1 v161 h161) gg_RX5_173 hd_X4_unlikeLetters (by decide) rfl rfl rfl rfl (Nat.le_of_ble_eq_true rfl) dX5_count_161 (seP_0nowtree cI cS a x) (seP_0nowtree cI cS a x).symm [.int v161] rfl ?_
    have e := Option.some.inj hf; subst e
    exact g_ri (pc := 164) C rfl (flP cI cS a x) dX5_count_164
  have hf := k_neg w9 hf
  refine g_tableOut (pc := 1) C 165 dX5_count_1 (by have z0 := k_ne (z := 0) 0 (by decide) w0; have z1 := k_ne (z := 1) 1 (by decide) w1; have z2 := k_ne (z := 2) 2 (by decide) w2; have z3 := k_ne (z := 3) 3 (by decide) w3; have z4 := k_ne (z := 4) 4 (by decide) w4; have z5 := k_ne (z := 5) 5 (by decide) w5; have z6 := k_ne (z := 6) 6 (by decide) w6; have z7 := k_ne (z := 7) 7 (by decide) w7; have z8 := k_ne (z := 8) 8 (by decide) w8; have z9 := k_ne (z := 9) 9 (by decide) w9; omega) (by decide) ?_
  refine g_iconst (pc := 165) C (-1) dX5_count_165 (by decide) ?_
  have e := Option.some.inj hf; subst e
  exact g_ri (pc := 166) C rfl (flP cI cS a x) dX5_count_166
set_option maxHeartbeats 4000000 in
set_option maxRecDepth 100000 in
theorem c_X5_like (l : Launch) (D : va_G) (cI cS : ClassId) (a : aP) (x : TP) (out : Int32) (hf : P_like x = some out) : kM l D (kTy cI cS) yX5_like ct_X5_like rm_X5_like [.ref a.1] [wP cI cS a x] (kEq (some (.int out)) [wP cI cS a x]) := by
  refine k_methodE cX5_like 3 (some .int) RX5 rfl [(0, .ref a.1)] rfl (by decide +kernel) (Nat.le_of_ble_eq_true rfl) (fun κ A hla C => ?_)
  refine g_chunks (flP cI cS a x).symm ?_
  have L4 : ∀ (fu : Nat) (x : TP) (x1 : Int32) (x2 : Int32), P_like_L4 fu x x1 x2 = some out → kG κ D A 3 0 0 (kF κ D A (some (.int out)) [wP cI cS a x]) (csP cI cS a x) [(0, .ref a.1), (1, .int x1), (2, .int x2)] 4 [] := by
    intro fu; induction fu with
    | zero => intro x x1 x2 hf; rw [P_like_L4] at hf; cases hf
    | succ fu ih =>
      intro x x1 x2 hf; rw [P_like_L4] at hf
      refine g_iload_n (pc := 4) C 2 dX5_like_4 rfl ?_
      refine g_aload_n (pc := 5) C 0 dX5_like_5 rfl ?_
      refine gf_RX5_10 (pc := 6) C 0 rfl dX5_like_6 ?_
      refine gf_RX5_43 (pc := 9) C 1 rfl dX5_like_9 ?_
      obtain ⟨v12, h12, hf⟩ := Option.bind_eq_some_iff.mp hf
      refine g_callV' (pc := 12) hla C (c_X4_size l D cI cS a.2.1.2.1 x.1.1 v12 h12) gg_RX5_101 hd_X4_size (by decide) rfl rfl rfl rfl (Nat.le_of_ble_eq_true rfl) dX5_like_12 (seP_0nowtree cI cS a x) (seP_0nowtree cI cS a x).symm [.int v12, .int x2] rfl ?_
      refine g_icmp_ge (pc := 15) C 48 dX5_like_15 (by decide) (fun (c15 : v12 ≤ x2) => ?_) (fun (c15 : ¬ v12 ≤ x2) => ?_)
      · have hf := k_pos c15 hf
        refine g_iload_n (pc := 48) C 1 dX5_like_48 rfl ?_
        have e := Option.some.inj hf; subst e
        exact g_ri (pc := 49) C rfl (flP cI cS a x) dX5_like_49
      · have hf := k_neg c15 hf
        refine g_aload_n (pc := 18) C 0 dX5_like_18 rfl ?_
        refine gf_RX5_10 (pc := 19) C 0 rfl dX5_like_19 ?_
        refine gf_RX5_43 (pc := 22) C 1 rfl dX5_like_22 ?_
        refine g_iload_n (pc := 25) C 2 dX5_like_25 rfl ?_
        refine g_aload_n (pc := 26) C 0 dX5_like_26 rfl ?_
        refine gf_RX5_10 (pc := 27) C 0 rfl dX5_like_27 ?_
        refine gf_RX5_47 (pc := 30) C 1 rfl dX5_like_30 ?_
        obtain ⟨v33, h33, hf⟩ := Option.bind_eq_some_iff.mp hf
        refine g_callV' (pc := 33) hla C (c_X4_alike l D cI cS a.2.1.2.1 x.1.1 x2 x.1.2.2.2.2.2.1 v33 h33) gg_RX5_176 hd_X4_alike (by decide) rfl rfl rfl rfl (Nat.le_of_ble_eq_true rfl) dX5_like_33 (seP_0nowtree cI cS a x) (seP_0nowtree cI cS a x).symm [.int v33] rfl ?_
        refine g_if_eq (pc := 36) C 42 dX5_like_36 (by decide) (fun (c36 : v33 = 0) => ?_) (fun (c36 : ¬ v33 = 0) => ?_)
        · have hf := k_pos c36 hf
          refine g_iinc (pc := 42) C 2 (x2 + 1) [(2, .int (x2 + 1)), (0, .ref a.1), (1, .int x1)] dX5_like_42 rfl (congrArg (HAdd.hAdd _) (by decide)) (by decide) rfl ?_
          refine g_goto (pc := 45) C 4 dX5_like_45 (by decide) ?_
          refine g_sub [1, 2, 0] (lv' := [(0, .ref a.1), (1, .int x1), (2, .int (x2 + 1))]) rfl ?_
          exact ih x x1 (x2 + 1) hf
        · have hf := k_neg c36 hf
          refine g_iinc (pc := 39) C 1 (x1 + 1) [(1, .int (x1 + 1)), (0, .ref a.1), (2, .int x2)] dX5_like_39 rfl (congrArg (HAdd.hAdd _) (by decide)) (by decide) rfl ?_
          refine g_iinc (pc := 42) C 2 (x2 + 1) [(2, .int (x2 + 1)), (1, .int (x1 + 1)), (0, .ref a.1)] dX5_like_42 rfl (congrArg (HAdd.hAdd _) (by decide)) (by decide) rfl ?_
          refine g_goto (pc := 45) C 4 dX5_like_45 (by decide) ?_
          refine g_sub [2, 1, 0] (lv' := [(0, .ref a.1), (1, .int (x1 + 1)), (2, .int (x2 + 1))]) rfl ?_
          exact ih x (x1 + 1) (x2 + 1) hf
  rw [P_like] at hf
  refine g_iconst (pc := 0) C 0 dX5_like_0 (by decide) ?_
  refine g_istore_n (pc := 1) C [(1, .int 0), (0, .ref a.1)] dX5_like_1 (by decide) rfl ?_
  refine g_iconst (pc := 2) C 0 dX5_like_2 (by decide) ?_
  refine g_istore_n (pc := 3) C [(2, .int 0), (1, .int 0), (0, .ref a.1)] dX5_like_3 (by decide) rfl ?_
  refine g_sub [2, 1, 0] (lv' := [(0, .ref a.1), (1, .int 0), (2, .int 0)]) rfl ?_
  exact L4 1000 x 0 0 hf
set_option maxHeartbeats 4000000 in
set_option maxRecDepth 100000 in
theorem c_X5_meet (l : Launch) (D : va_G) (cI cS : ClassId) (a : aP) (x : TP) (x1 : Int32) (x2 : Int32) (out : Int32) (hf : P_meet x x1 x2 = some out) : kM l D (kTy cI cS) yX5_meet ct_X5_meet rm_X5_meet [.ref a.1, .int x1, .int x2] [wP cI cS a x] (kEq (some (.int out)) [wP cI cS a x]) := by
  refine k_methodE cX5_meet 5 (some .int) RX5 rfl [(0, .ref a.1), (1, .int x1), (2, .int x2)] rfl (by decide +kernel) (Nat.le_of_ble_eq_true rfl) (fun κ A hla C => ?_)
  refine g_chunks (flP cI cS a x).symm ?_
  have L43 : ∀ (fu : Nat) (x : TP) (x3 : Int32) (x4 : Int32), P_meet_L43 fu x x3 x4 = some out → kG κ D A 5 0 0 (kF κ D A (some (.int out)) [wP cI cS a x]) (csP cI cS a x) [(0, .ref a.1), (3, .int x3), (4, .int x4)] 43 [] := by
    intro fu; induction fu with
    | zero => intro x x3 x4 hf; rw [P_meet_L43] at hf; cases hf
    | succ fu ih =>
      intro x x3 x4 hf; rw [P_meet_L43] at hf
      refine g_iload (pc := 43) C 2 dX5_meet_43 rfl ?_
      refine g_if_le (pc := 45) C 73 dX5_meet_45 (by decide) (fun (c45 : x4 ≤ 0) => ?_) (fun (c45 : ¬ x4 ≤ 0) => ?_)
      · have hf := k_pos c45 hf
        refine g_iconst (pc := 73) C 0 dX5_meet_73 (by decide) ?_
        have e := Option.some.inj hf; subst e
        exact g_ri (pc := 74) C rfl (flP cI cS a x) dX5_meet_74
      · have hf := k_neg c45 hf
        refine g_aload_n (pc := 48) C 0 dX5_meet_48 rfl ?_
        refine gf_RX5_10 (pc := 49) C 0 rfl dX5_meet_49 ?_
        refine gf_RX5_43 (pc := 52) C 1 rfl dX5_meet_52 ?_
        refine g_iload (pc := 55) C 2 dX5_meet_55 rfl ?_
        obtain ⟨v57, h57, hf⟩ := Option.bind_eq_some_iff.mp hf
        refine g_callV' (pc := 57) hla C (c_X4_endOf l D cI cS a.2.1.2.1 x.1.1 x4 v57 h57) gg_RX5_107 hd_X4_endOf (by decide) rfl rfl rfl rfl (Nat.le_of_ble_eq_true rfl) dX5_meet_57 (seP_0nowtree cI cS a x) (seP_0nowtree cI cS a x).symm [.int v57] rfl ?_
        refine g_iload_n (pc := 60) C 1 dX5_meet_60 rfl ?_
        refine g_icmp_le (pc := 61) C 67 dX5_meet_61 (by decide) (fun (c61 : v57 ≤ x3) => ?_) (fun (c61 : ¬ v57 ≤ x3) => ?_)
        · have hf := k_pos c61 hf
          refine g_iinc (pc := 67) C 2 (x4 + (-1)) [(4, .int (x4 + (-1))), (0, .ref a.1), (3, .int x3)] dX5_meet_67 rfl (congrArg (HAdd.hAdd _) (by decide)) (by decide) rfl ?_
          refine g_goto (pc := 70) C 43 dX5_meet_70 (by decide) ?_
          refine g_sub [1, 2, 0] (lv' := [(0, .ref a.1), (3, .int x3), (4, .int (x4 + (-1)))]) rfl ?_
          exact ih x x3 (x4 + (-1)) hf
        · have hf := k_neg c61 hf
          refine g_iload (pc := 64) C 2 dX5_meet_64 rfl ?_
          have e := Option.some.inj hf; subst e
          exact g_ri (pc := 66) C rfl (flP cI cS a x) dX5_meet_66
  rw [P_meet] at hf
  refine g_aload_n (pc := 0) C 0 dX5_meet_0 rfl ?_
  refine gf_RX5_10 (pc := 1) C 0 rfl dX5_meet_1 ?_
  refine gf_RX5_43 (pc := 4) C 1 rfl dX5_meet_4 ?_
  refine g_iload_n (pc := 7) C 1 dX5_meet_7 rfl ?_
  obtain ⟨v8, h8, hf⟩ := Option.bind_eq_some_iff.mp hf
  refine g_callV' (pc := 8) hla C (c_X4_has l D cI cS a.2.1.2.1 x.1.1 x1 v8 h8) gg_RX5_71 hd_X4_has (by decide) rfl rfl rfl rfl (Nat.le_of_ble_eq_true rfl) dX5_meet_8 (seP_0nowtree cI cS a x) (seP_0nowtree cI cS a x).symm [.int v8] rfl ?_
  refine g_if_eq (pc := 11) C 28 dX5_meet_11 (by decide) (fun (c11 : v8 = 0) => ?_) (fun (c11 : ¬ v8 = 0) => ?_)
  · have hf := k_pos c11 hf
    refine g_iconst (pc := 28) C (-1) dX5_meet_28 (by decide) ?_
    have e := Option.some.inj hf; subst e
    exact g_ri (pc := 29) C rfl (flP cI cS a x) dX5_meet_29
  · have hf := k_neg c11 hf
    refine g_aload_n (pc := 14) C 0 dX5_meet_14 rfl ?_
    refine gf_RX5_10 (pc := 15) C 0 rfl dX5_meet_15 ?_
    refine gf_RX5_43 (pc := 18) C 1 rfl dX5_meet_18 ?_
    refine g_iload_n (pc := 21) C 2 dX5_meet_21 rfl ?_
    obtain ⟨v22, h22, hf⟩ := Option.bind_eq_some_iff.mp hf
    refine g_callV' (pc := 22) hla C (c_X4_has l D cI cS a.2.1.2.1 x.1.1 x2 v22 h22) gg_RX5_71 hd_X4_has (by decide) rfl rfl rfl rfl (Nat.le_of_ble_eq_true rfl) dX5_meet_22 (seP_0nowtree cI cS a x) (seP_0nowtree cI cS a x).symm [.int v22] rfl ?_
    refine g_if_ne (pc := 25) C 30 dX5_meet_25 (by decide) (fun (c25 : ¬ v22 = 0) => ?_) (fun (c25 : v22 = 0) => ?_)
    · have hf := k_neg c25 hf
      refine g_iload_n (pc := 30) C 1 dX5_meet_30 rfl ?_
      refine g_iload_n (pc := 31) C 2 dX5_meet_31 rfl ?_
      refine g_mmax (pc := 32) C m_432 m_81 m_math m_code_max (by decide) (Nat.le_of_ble_eq_true rfl) (Nat.le_refl 0) (Nat.le_refl 0) dX5_meet_32 ?_
      refine g_istore_n (pc := 35) C [(3, .int (imax x1 x2)), (0, .ref a.1), (1, .int x1), (2, .int x2)] dX5_meet_35 (by decide) rfl ?_
      refine g_iload_n (pc := 36) C 2 dX5_meet_36 rfl ?_
      refine g_iload_n (pc := 37) C 3 dX5_meet_37 rfl ?_
      refine g_mmin (pc := 38) C m_433 m_275 m_math m_code_min (by decide) (Nat.le_of_ble_eq_true rfl) (Nat.le_refl 0) (Nat.le_refl 0) dX5_meet_38 ?_
      refine g_istore (pc := 41) C [(4, .int (imin x1 x2)), (3, .int (imax x1 x2)), (0, .ref a.1), (1, .int x1), (2, .int x2)] dX5_meet_41 (by decide) rfl ?_
      refine g_sub [2, 1, 0] (lv' := [(0, .ref a.1), (3, .int (imax x1 x2)), (4, .int (imin x1 x2))]) rfl ?_
      exact L43 1000 x (imax x1 x2) (imin x1 x2) hf
    · have hf := k_pos c25 hf
      refine g_iconst (pc := 28) C (-1) dX5_meet_28 (by decide) ?_
      have e := Option.some.inj hf; subst e
      exact g_ri (pc := 29) C rfl (flP cI cS a x) dX5_meet_29
set_option maxHeartbeats 4000000 in
set_option maxRecDepth 100000 in
theorem c_X5_find (l : Launch) (D : va_G) (cI cS : ClassId) (a : aP) (x : TP) (x1 : Int32) (out : Int32) (hf : P_find x x1 = some out) : kM l D (kTy cI cS) yX5_find ct_X5_find rm_X5_find [.ref a.1, .int x1] [wP cI cS a x] (kEq (some (.int out)) [wP cI cS a x]) := by
  refine k_methodE cX5_find 3 (some .int) RX5 rfl [(0, .ref a.1), (1, .int x1)] rfl (by decide +kernel) (Nat.le_of_ble_eq_true rfl) (fun κ A hla C => ?_)
  refine g_chunks (flP cI cS a x).symm ?_
  have L58 : ∀ (fu : Nat) (x : TP) (x1 : Int32) (x2 : Int32), P_find_L58 fu x x1 x2 = some out → kG κ D A 3 0 0 (kF κ D A (some (.int out)) [wP cI cS a x]) (csP cI cS a x) [(0, .ref a.1), (1, .int x1), (2, .int x2)] 58 [] := by
    intro fu; induction fu with
    | zero => intro x x1 x2 hf; rw [P_find_L58] at hf; cases hf
    | succ fu ih =>
      intro x x1 x2 hf; rw [P_find_L58] at hf
      refine g_iload_n (pc := 58) C 2 dX5_find_58 rfl ?_
      refine g_aload_n (pc := 59) C 0 dX5_find_59 rfl ?_
      refine gf_RX5_10 (pc := 60) C 0 rfl dX5_find_60 ?_
      refine gf_RX5_47 (pc := 63) C 1 rfl dX5_find_63 ?_
      refine g_icmp_gt (pc := 66) C 92 dX5_find_66 (by decide) (fun (c66 : x.1.2.2.2.2.2.1 < x2) => ?_) (fun (c66 : ¬ x.1.2.2.2.2.2.1 < x2) => ?_)
      · have hf := k_pos c66 hf
        refine g_bipush (pc := 92) C (-4) dX5_find_92 (by decide) ?_
        have e := Option.some.inj hf; subst e
        exact g_ri (pc := 94) C rfl (flP cI cS a x) dX5_find_94
      · have hf := k_neg c66 hf
        refine g_aload_n (pc := 69) C 0 dX5_find_69 rfl ?_
        refine gf_RX5_10 (pc := 70) C 0 rfl dX5_find_70 ?_
        refine gf_RX5_43 (pc := 73) C 1 rfl dX5_find_73 ?_
        refine g_iload_n (pc := 76) C 2 dX5_find_76 rfl ?_
        obtain ⟨v77, h77, hf⟩ := Option.bind_eq_some_iff.mp hf
        refine g_callV' (pc := 77) hla C (c_X4_letterOf l D cI cS a.2.1.2.1 x.1.1 x2 v77 h77) gg_RX5_91 hd_X4_letterOf (by decide) rfl rfl rfl rfl (Nat.le_of_ble_eq_true rfl) dX5_find_77 (seP_0nowtree cI cS a x) (seP_0nowtree cI cS a x).symm [.int v77] rfl ?_
        refine g_iload_n (pc := 80) C 1 dX5_find_80 rfl ?_
        refine g_icmp_ne (pc := 81) C 86 dX5_find_81 (by decide) (fun (c81 : ¬ v77 = x1) => ?_) (fun (c81 : v77 = x1) => ?_)
        · have hf := k_neg c81 hf
          refine g_iinc (pc := 86) C 2 (x2 + 1) [(2, .int (x2 + 1)), (0, .ref a.1), (1, .int x1)] dX5_find_86 rfl (congrArg (HAdd.hAdd _) (by decide)) (by decide) rfl ?_
          refine g_goto (pc := 89) C 58 dX5_find_89 (by decide) ?_
          refine g_sub [1, 2, 0] (lv' := [(0, .ref a.1), (1, .int x1), (2, .int (x2 + 1))]) rfl ?_
          exact ih x x1 (x2 + 1) hf
        · have hf := k_pos c81 hf
          refine g_iload_n (pc := 84) C 2 dX5_find_84 rfl ?_
          have e := Option.some.inj hf; subst e
          exact g_ri (pc := 85) C rfl (flP cI cS a x) dX5_find_85
  have L19 : ∀ (fu : Nat) (x : TP) (x1 : Int32) (x2 : Int32), P_find_L19 fu x x1 x2 = some out → kG κ D A 3 0 0 (kF κ D A (some (.int out)) [wP cI cS a x]) (csP cI cS a x) [(0, .ref a.1), (1, .int x1), (2, .int x2)] 19 [] := by
    intro fu; induction fu with
    | zero => intro x x1 x2 hf; rw [P_find_L19] at hf; cases hf
    | succ fu ih =>
      intro x x1 x2 hf; rw [P_find_L19] at hf
      refine g_iload_n (pc := 19) C 2 dX5_find_19 rfl ?_
      refine g_aload_n (pc := 20) C 0 dX5_find_20 rfl ?_
      refine gf_RX5_10 (pc := 21) C 0 rfl dX5_find_21 ?_
      refine gf_RX5_43 (pc := 24) C 1 rfl dX5_find_24 ?_
      obtain ⟨v27, h27, hf⟩ := Option.bind_eq_some_iff.mp hf
      refine g_callV' (pc := 27) hla C (c_X4_size l D cI cS a.2.1.2.1 x.1.1 v27 h27) gg_RX5_101 hd_X4_size (by decide) rfl rfl rfl rfl (Nat.le_of_ble_eq_true rfl) dX5_find_27 (seP_0nowtree cI cS a x) (seP_0nowtree cI cS a x).symm [.int v27, .int x2] rfl ?_
      refine g_icmp_ge (pc := 30) C 56 dX5_find_30 (by decide) (fun (c30 : v27 ≤ x2) => ?_) (fun (c30 : ¬ v27 ≤ x2) => ?_)
      · have hf := k_pos c30 hf
        refine g_iconst (pc := 56) C 0 dX5_find_56 (by decide) ?_
        refine g_istore_n (pc := 57) C [(2, .int 0), (0, .ref a.1), (1, .int x1)] dX5_find_57 (by decide) rfl ?_
        refine g_sub [1, 2, 0] (lv' := [(0, .ref a.1), (1, .int x1), (2, .int 0)]) rfl ?_
        exact L58 1000 x x1 0 hf
      · have hf := k_neg c30 hf
        refine g_aload_n (pc := 33) C 0 dX5_find_33 rfl ?_
        refine gf_RX5_10 (pc := 34) C 0 rfl dX5_find_34 ?_
        refine gf_RX5_43 (pc := 37) C 1 rfl dX5_find_37 ?_
        refine g_iload_n (pc := 40) C 2 dX5_find_40 rfl ?_
        obtain ⟨v41, h41, hf⟩ := Option.bind_eq_some_iff.mp hf
        refine g_callV' (pc := 41) hla C (c_X4_letterOf l D cI cS a.2.1.2.1 x.1.1 x2 v41 h41) gg_RX5_91 hd_X4_letterOf (by decide) rfl rfl rfl rfl (Nat.le_of_ble_eq_true rfl) dX5_find_41 (seP_0nowtree cI cS a x) (seP_0nowtree cI cS a x).symm [.int v41] rfl ?_
        refine g_iload_n (pc := 44) C 1 dX5_find_44 rfl ?_
        refine g_icmp_ne (pc := 45) C 50 dX5_find_45 (by decide) (fun (c45 : ¬ v41 = x1) => ?_) (fun (c45 : v41 = x1) => ?_)
        · have hf := k_neg c45 hf
          refine g_iinc (pc := 50) C 2 (x2 + 1) [(2, .int (x2 + 1)), (0, .ref a.1), (1, .int x1)] dX5_find_50 rfl (congrArg (HAdd.hAdd _) (by decide)) (by decide) rfl ?_
          refine g_goto (pc := 53) C 19 dX5_find_53 (by decide) ?_
          refine g_sub [1, 2, 0] (lv' := [(0, .ref a.1), (1, .int x1), (2, .int (x2 + 1))]) rfl ?_
          exact ih x x1 (x2 + 1) hf
        · have hf := k_pos c45 hf
          refine g_iload_n (pc := 48) C 2 dX5_find_48 rfl ?_
          have e := Option.some.inj hf; subst e
          exact g_ri (pc := 49) C rfl (flP cI cS a x) dX5_find_49
  rw [P_find] at hf
  refine g_iload_n (pc := 0) C 1 dX5_find_0 rfl ?_
  obtain ⟨v1, h1, hf⟩ := Option.bind_eq_some_iff.mp hf
  refine g_callS' (pc := 1) hla C (c_X5_isLetter l D cI cS x1 v1 h1) tb_X5_isLetter m_362 m_X5_isLetter_static m_ini_RX5 hd_X5_isLetter (by decide) rfl rfl (Nat.le_of_ble_eq_true rfl) dX5_find_1 (seP_nil cI cS a x) (seP_nil cI cS a x).symm [.int v1] rfl ?_
  refine g_if_ne (pc := 4) C 9 dX5_find_4 (by decide) (fun (c4 : ¬ v1 = 0) => ?_) (fun (c4 : v1 = 0) => ?_)
  · have hf := k_neg c4 hf
    refine g_aload_n (pc := 9) C 0 dX5_find_9 rfl ?_
    refine gf_RX5_10 (pc := 10) C 0 rfl dX5_find_10 ?_
    refine gf_RX5_47 (pc := 13) C 1 rfl dX5_find_13 ?_
    refine g_iconst (pc := 16) C 1 dX5_find_16 (by decide) ?_
    refine g_iadd (pc := 17) C dX5_find_17 ?_
    refine g_istore_n (pc := 18) C [(2, .int (x.1.2.2.2.2.2.1 + 1)), (0, .ref a.1), (1, .int x1)] dX5_find_18 (by decide) rfl ?_
    refine g_sub [1, 2, 0] (lv' := [(0, .ref a.1), (1, .int x1), (2, .int (x.1.2.2.2.2.2.1 + 1))]) rfl ?_
    exact L19 1000 x x1 (x.1.2.2.2.2.2.1 + 1) hf
  · have hf := k_pos c4 hf
    refine g_iconst (pc := 7) C (-1) dX5_find_7 (by decide) ?_
    have e := Option.some.inj hf; subst e
    exact g_ri (pc := 8) C rfl (flP cI cS a x) dX5_find_8
set_option maxHeartbeats 4000000 in
set_option maxRecDepth 100000 in
theorem c_X5_undo (l : Launch) (D : va_G) (cI cS : ClassId) (a : aP) (x : TP) (out : Int32 × TP) (hf : P_undo x = some out) : kM l D (kTy cI cS) yX5_undo ct_X5_undo rm_X5_undo [.ref a.1] [wP cI cS a x] (kEq (some (.int out.1)) [wP cI cS a out.2]) := by
  refine k_methodE cX5_undo 1 (some .int) RX5 rfl [(0, .ref a.1)] rfl (by decide +kernel) (Nat.le_of_ble_eq_true rfl) (fun κ A hla C => ?_)
  refine g_chunks (flP cI cS a x).symm ?_
  rw [P_undo] at hf
  refine g_aload_n (pc := 0) C 0 dX5_undo_0 rfl ?_
  refine gf_RX5_19 (pc := 1) C 0 rfl dX5_undo_1 ?_
  obtain ⟨v4, h4, hf⟩ := Option.bind_eq_some_iff.mp hf
  refine g_callV' (pc := 4) hla C (c_X0_size l D cI cS a.2.2.1 x.2.1 v4 h4) gg_RX5_172 hd_X0_size (by decide) rfl rfl rfl rfl (Nat.le_of_ble_eq_true rfl) dX5_undo_4 (seP_0history cI cS a x) (seP_0history cI cS a x).symm [.int v4] rfl ?_
  refine g_if_ne (pc := 7) C 13 dX5_undo_7 (by decide) (fun (c7 : ¬ v4 = 0) => ?_) (fun (c7 : v4 = 0) => ?_)
  · have hf := k_neg c7 hf
    refine g_aload_n (pc := 13) C 0 dX5_undo_13 rfl ?_
    refine gf_RX5_19 (pc := 14) C 0 rfl dX5_undo_14 ?_
    refine g_aload_n (pc := 17) C 0 dX5_undo_17 rfl ?_
    refine gf_RX5_10 (pc := 18) C 0 rfl dX5_undo_18 ?_
    obtain ⟨v21, h21, hf⟩ := Option.bind_eq_some_iff.mp hf
    refine g_callV' (pc := 21) hla C (c_X0_restore l D cI cS a.2.2.1 x.2.1 a.2.1 x.1 v21 h21) gg_RX5_180 hd_X0_restore (by decide) rfl rfl rfl rfl (Nat.le_of_ble_eq_true rfl) dX5_undo_21 (seP_0history_0now cI cS a x) (seP_0history_0now cI cS a (v21.2, v21.1, x.2.2.1, x.2.2.2)).symm [] rfl ?_
    refine g_aload_n (pc := 24) C 0 dX5_undo_24 rfl ?_
    refine gf_RX5_19 (pc := 25) C 0 rfl dX5_undo_25 ?_
    obtain ⟨v28, h28, hf⟩ := Option.bind_eq_some_iff.mp hf
    refine g_callV' (pc := 28) hla C (c_X0_size l D cI cS a.2.2.1 v21.1 v28 h28) gg_RX5_172 hd_X0_size (by decide) rfl rfl rfl rfl (Nat.le_of_ble_eq_true rfl) dX5_undo_28 (seP_0history cI cS a (v21.2, v21.1, x.2.2.1, x.2.2.2)) (seP_0history cI cS a (v21.2, v21.1, x.2.2.1, x.2.2.2)).symm [.int v28] rfl ?_
    have e := Option.some.inj hf; subst e
    exact g_ri (pc := 31) C rfl (flP cI cS a (v21.2, v21.1, x.2.2.1, x.2.2.2)) dX5_undo_31
  · have hf := k_pos c7 hf
    refine g_bipush (pc := 10) C (-2) dX5_undo_10 (by decide) ?_
    have e := Option.some.inj hf; subst e
    exact g_ri (pc := 12) C rfl (flP cI cS a x) dX5_undo_12
set_option maxHeartbeats 4000000 in
set_option maxRecDepth 100000 in
theorem c_X5_type (l : Launch) (D : va_G) (cI cS : ClassId) (a : aP) (x : TP) (x1 : Int32) (out : Int32 × TP) (hf : P_type x x1 = some out) : kM l D (kTy cI cS) yX5_type ct_X5_type rm_X5_type [.ref a.1, .int x1] [wP cI cS a x] (kEq (some (.int out.1)) [wP cI cS a out.2]) := by
  refine k_methodE cX5_type 2 (some .int) RX5 rfl [(0, .ref a.1), (1, .int x1)] rfl (by decide +kernel) (Nat.le_of_ble_eq_true rfl) (fun κ A hla C => ?_)
  refine g_chunks (flP cI cS a x).symm ?_
  rw [P_type] at hf
  refine g_iload_n (pc := 0) C 1 dX5_type_0 rfl ?_
  refine g_bipush (pc := 1) C 32 dX5_type_1 (by decide) ?_
  refine g_icmp_lt (pc := 3) C 12 dX5_type_3 (by decide) (fun (c3 : x1 < 32) => ?_) (fun (c3 : ¬ x1 < 32) => ?_)
  · have hf := k_pos c3 hf
    refine g_iconst (pc := 12) C (-1) dX5_type_12 (by decide) ?_
    have e := Option.some.inj hf; subst e
    exact g_ri (pc := 13) C rfl (flP cI cS a x) dX5_type_13
  · have hf := k_neg c3 hf
    refine g_iload_n (pc := 6) C 1 dX5_type_6 rfl ?_
    refine g_bipush (pc := 7) C 126 dX5_type_7 (by decide) ?_
    refine g_icmp_le (pc := 9) C 14 dX5_type_9 (by decide) (fun (c9 : x1 ≤ 126) => ?_) (fun (c9 : ¬ x1 ≤ 126) => ?_)
    · have hf := k_pos c9 hf
      refine g_aload_n (pc := 14) C 0 dX5_type_14 rfl ?_
      refine gf_RX5_28 (pc := 15) C 0 rfl dX5_type_15 ?_
      obtain ⟨v18, h18, hf⟩ := Option.bind_eq_some_iff.mp hf
      refine g_callV' (pc := 18) hla C (c_X1_size l D cI cS a.2.2.2.1 120 x.2.2.1 v18 h18) gg_RX5_171 hd_X1_size (by decide) rfl rfl rfl rfl (Nat.le_of_ble_eq_true rfl) dX5_type_18 (seP_0text cI cS a x) (seP_0text cI cS a x).symm [.int v18] rfl ?_
      refine g_bipush (pc := 21) C 120 dX5_type_21 (by decide) ?_
      refine g_icmp_lt (pc := 23) C 29 dX5_type_23 (by decide) (fun (c23 : v18 < 120) => ?_) (fun (c23 : ¬ v18 < 120) => ?_)
      · have hf := k_pos c23 hf
        refine g_aload_n (pc := 29) C 0 dX5_type_29 rfl ?_
        refine gf_RX5_28 (pc := 30) C 0 rfl dX5_type_30 ?_
        refine g_iload_n (pc := 33) C 1 dX5_type_33 rfl ?_
        obtain ⟨v34, h34, hf⟩ := Option.bind_eq_some_iff.mp hf
        refine g_callV' (pc := 34) hla C (c_X1_add l D cI cS a.2.2.2.1 120 x.2.2.1 x1 v34 h34) gg_RX5_183 hd_X1_add (by decide) rfl rfl rfl rfl (Nat.le_of_ble_eq_true rfl) dX5_type_34 (seP_0text cI cS a x) (seP_0text cI cS a (x.1, x.2.1, v34, x.2.2.2)).symm [] rfl ?_
        refine g_aload_n (pc := 37) C 0 dX5_type_37 rfl ?_
        refine gf_RX5_28 (pc := 38) C 0 rfl dX5_type_38 ?_
        obtain ⟨v41, h41, hf⟩ := Option.bind_eq_some_iff.mp hf
        refine g_callV' (pc := 41) hla C (c_X1_size l D cI cS a.2.2.2.1 120 v34 v41 h41) gg_RX5_171 hd_X1_size (by decide) rfl rfl rfl rfl (Nat.le_of_ble_eq_true rfl) dX5_type_41 (seP_0text cI cS a (x.1, x.2.1, v34, x.2.2.2)) (seP_0text cI cS a (x.1, x.2.1, v34, x.2.2.2)).symm [.int v41] rfl ?_
        have e := Option.some.inj hf; subst e
        exact g_ri (pc := 44) C rfl (flP cI cS a (x.1, x.2.1, v34, x.2.2.2)) dX5_type_44
      · have hf := k_neg c23 hf
        refine g_bipush (pc := 26) C (-3) dX5_type_26 (by decide) ?_
        have e := Option.some.inj hf; subst e
        exact g_ri (pc := 28) C rfl (flP cI cS a x) dX5_type_28
    · have hf := k_neg c9 hf
      refine g_iconst (pc := 12) C (-1) dX5_type_12 (by decide) ?_
      have e := Option.some.inj hf; subst e
      exact g_ri (pc := 13) C rfl (flP cI cS a x) dX5_type_13
set_option maxHeartbeats 4000000 in
set_option maxRecDepth 100000 in
theorem c_X5_clearText (l : Launch) (D : va_G) (cI cS : ClassId) (a : aP) (x : TP) (out : Int32 × TP) (hf : P_clearText x = some out) : kM l D (kTy cI cS) yX5_clearText ct_X5_clearText rm_X5_clearText [.ref a.1] [wP cI cS a x] (kEq (some (.int out.1)) [wP cI cS a out.2]) := by
  refine k_methodE cX5_clearText 2 (some .int) RX5 rfl [(0, .ref a.1)] rfl (by decide +kernel) (Nat.le_of_ble_eq_true rfl) (fun κ A hla C => ?_)
  refine g_chunks (flP cI cS a x).symm ?_
  rw [P_clearText] at hf
  refine g_aload_n (pc := 0) C 0 dX5_clearText_0 rfl ?_
  refine gf_RX5_28 (pc := 1) C 0 rfl dX5_clearText_1 ?_
  obtain ⟨v4, h4, hf⟩ := Option.bind_eq_some_iff.mp hf
  refine g_callV' (pc := 4) hla C (c_X1_size l D cI cS a.2.2.2.1 120 x.2.2.1 v4 h4) gg_RX5_171 hd_X1_size (by decide) rfl rfl rfl rfl (Nat.le_of_ble_eq_true rfl) dX5_clearText_4 (seP_0text cI cS a x) (seP_0text cI cS a x).symm [.int v4] rfl ?_
  refine g_istore_n (pc := 7) C [(1, .int v4), (0, .ref a.1)] dX5_clearText_7 (by decide) rfl ?_
  refine g_aload_n (pc := 8) C 1 dX5_clearText_8 rfl ?_
  refine gf_RX5_28 (pc := 9) C 0 rfl dX5_clearText_9 ?_
  obtain ⟨v12, h12, hf⟩ := Option.bind_eq_some_iff.mp hf
  refine g_callV' (pc := 12) hla C (c_X1_clear l D cI cS a.2.2.2.1 120 x.2.2.1 v12 h12) gg_RX5_186 hd_X1_clear (by decide) rfl rfl rfl rfl (Nat.le_of_ble_eq_true rfl) dX5_clearText_12 (seP_0text cI cS a x) (seP_0text cI cS a (x.1, x.2.1, v12, x.2.2.2)).symm [] rfl ?_
  refine g_iload_n (pc := 15) C 0 dX5_clearText_15 rfl ?_
  have e := Option.some.inj hf; subst e
  exact g_ri (pc := 16) C rfl (flP cI cS a (x.1, x.2.1, v12, x.2.2.2)) dX5_clearText_16
set_option maxHeartbeats 4000000 in
set_option maxRecDepth 100000 in
theorem c_X5_write (l : Launch) (D : va_G) (cI cS : ClassId) (a : aP) (x : TP) (out : Int32 × TP) (hf : P_write x = some out) : kM l D (kTy cI cS) yX5_write ct_X5_write rm_X5_write [.ref a.1] [wP cI cS a x] (kEq (some (.int out.1)) [wP cI cS a out.2]) := by
  refine k_methodE cX5_write 1 (some .int) RX5 rfl [(0, .ref a.1)] rfl (by decide +kernel) (Nat.le_of_ble_eq_true rfl) (fun κ A hla C => ?_)
  refine g_chunks (flP cI cS a x).symm ?_
  rw [P_write] at hf
  refine g_aload_n (pc := 0) C 0 dX5_write_0 rfl ?_
  refine gf_RX5_28 (pc := 1) C 0 rfl dX5_write_1 ?_
  obtain ⟨v4, h4, hf⟩ := Option.bind_eq_some_iff.mp hf
  refine g_callV' (pc := 4) hla C (c_X1_clear l D cI cS a.2.2.2.1 120 x.2.2.1 v4 h4) gg_RX5_186 hd_X1_clear (by decide) rfl rfl rfl rfl (Nat.le_of_ble_eq_true rfl) dX5_write_4 (seP_0text cI cS a x) (seP_0text cI cS a (x.1, x.2.1, v4, x.2.2.2)).symm [] rfl ?_
  refine g_aload_n (pc := 7) C 0 dX5_write_7 rfl ?_
  refine gf_RX5_10 (pc := 8) C 0 rfl dX5_write_8 ?_
  refine gf_RX5_43 (pc := 11) C 1 rfl dX5_write_11 ?_
  refine g_aload_n (pc := 14) C 0 dX5_write_14 rfl ?_
  refine gf_RX5_28 (pc := 15) C 0 rfl dX5_write_15 ?_
  obtain ⟨v18, h18, hf⟩ := Option.bind_eq_some_iff.mp hf
  refine g_callV' (pc := 18) hla C (c_X4_appendTo l D cI cS a.2.1.2.1 x.1.1 a.2.2.2.1 120 v4 v18 h18) gg_RX5_189 hd_X4_appendTo (by decide) rfl rfl rfl rfl (Nat.le_of_ble_eq_true rfl) dX5_write_18 (seP_0nowtree_0text cI cS a (x.1, x.2.1, v4, x.2.2.2)) (seP_0nowtree_0text cI cS a (x.1, x.2.1, v18, x.2.2.2)).symm [] rfl ?_
  refine g_aload_n (pc := 21) C 0 dX5_write_21 rfl ?_
  refine gf_RX5_28 (pc := 22) C 0 rfl dX5_write_22 ?_
  obtain ⟨v25, h25, hf⟩ := Option.bind_eq_some_iff.mp hf
  refine g_callV' (pc := 25) hla C (c_X1_size l D cI cS a.2.2.2.1 120 v18 v25 h25) gg_RX5_171 hd_X1_size (by decide) rfl rfl rfl rfl (Nat.le_of_ble_eq_true rfl) dX5_write_25 (seP_0text cI cS a (x.1, x.2.1, v18, x.2.2.2)) (seP_0text cI cS a (x.1, x.2.1, v18, x.2.2.2)).symm [.int v25] rfl ?_
  have e := Option.some.inj hf; subst e
  exact g_ri (pc := 28) C rfl (flP cI cS a (x.1, x.2.1, v18, x.2.2.2)) dX5_write_28
set_option maxHeartbeats 4000000 in
set_option maxRecDepth 100000 in
theorem c_X5_fault (l : Launch) (D : va_G) (cI cS : ClassId) (a : aP) (x : TP) (x1 : Int32) (out : Int32 × TP) (hf : P_fault x x1 = some out) : kM l D (kTy cI cS) yX5_fault ct_X5_fault rm_X5_fault [.ref a.1, .int x1] [wP cI cS a x] (kEq (some (.int out.1)) [wP cI cS a out.2]) := by
  refine k_methodE cX5_fault 2 (some .int) RX5 rfl [(0, .ref a.1), (1, .int x1)] rfl (by decide +kernel) (Nat.le_of_ble_eq_true rfl) (fun κ A hla C => ?_)
  refine g_chunks (flP cI cS a x).symm ?_
  rw [P_fault] at hf
  refine g_iload_n (pc := 0) C 1 dX5_fault_0 rfl ?_
  obtain ⟨v1, h1, hf⟩ := Option.bind_eq_some_iff.mp hf
  refine g_callS' (pc := 1) hla C (c_X5_isChoice l D cI cS x1 v1 h1) tb_X5_isChoice m_309 m_X5_isChoice_static m_ini_RX5 hd_X5_isChoice (by decide) rfl rfl (Nat.le_of_ble_eq_true rfl) dX5_fault_1 (seP_nil cI cS a x) (seP_nil cI cS a x).symm [.int v1] rfl ?_
  refine g_if_ne (pc := 4) C 9 dX5_fault_4 (by decide) (fun (c4 : ¬ v1 = 0) => ?_) (fun (c4 : v1 = 0) => ?_)
  · have hf := k_neg c4 hf
    refine g_aload_n (pc := 9) C 0 dX5_fault_9 rfl ?_
    refine gf_RX5_35 (pc := 10) C 0 rfl dX5_fault_10 ?_
    refine g_aload_n (pc := 13) C 0 dX5_fault_13 rfl ?_
    refine gf_RX5_28 (pc := 14) C 0 rfl dX5_fault_14 ?_
    obtain ⟨v17, h17, hf⟩ := Option.bind_eq_some_iff.mp hf
    refine g_callV' (pc := 17) hla C (c_X2_passOver l D cI cS a.2.2.2.2 x.2.2.2 a.2.2.2.1 120 x.2.2.1 v17 h17) gg_RX5_193 hd_X2_passOver (by decide) rfl rfl rfl rfl (Nat.le_of_ble_eq_true rfl) dX5_fault_17 (seP_0scan_0text cI cS a x) (seP_0scan_0text cI cS a (x.1, x.2.1, x.2.2.1, v17)).symm [] rfl ?_
    refine g_aload_n (pc := 20) C 0 dX5_fault_20 rfl ?_
    refine gf_RX5_35 (pc := 21) C 0 rfl dX5_fault_21 ?_
    refine gf_RX5_196 (pc := 24) C 9 rfl dX5_fault_24 ?_
    refine g_if_ne (pc := 27) C 33 dX5_fault_27 (by decide) (fun (c27 : ¬ v17.2.2.2.2.2 = 0) => ?_) (fun (c27 : v17.2.2.2.2.2 = 0) => ?_)
    · have hf := k_neg c27 hf
      refine g_iload_n (pc := 33) C 1 dX5_fault_33 rfl ?_
      refine g_if_ne (pc := 34) C 47 dX5_fault_34 (by decide) (fun (c34 : ¬ x1 = 0) => ?_) (fun (c34 : x1 = 0) => ?_)
      · have hf := k_neg c34 hf
        refine g_aload_n (pc := 47) C 0 dX5_fault_47 rfl ?_
        refine gf_RX5_35 (pc := 48) C 0 rfl dX5_fault_48 ?_
        refine gf_RX5_196 (pc := 51) C 9 rfl dX5_fault_51 ?_
        have e := Option.some.inj hf; subst e
        exact g_ri (pc := 54) C rfl (flP cI cS a (x.1, x.2.1, x.2.2.1, v17)) dX5_fault_54
      · have hf := k_pos c34 hf
        refine g_aload_n (pc := 37) C 0 dX5_fault_37 rfl ?_
        refine gf_RX5_35 (pc := 38) C 0 rfl dX5_fault_38 ?_
        refine gf_RX5_199 (pc := 41) C 9 rfl dX5_fault_41 ?_
        refine g_goto (pc := 44) C 54 dX5_fault_44 (by decide) ?_
        have e := Option.some.inj hf; subst e
        exact g_ri (pc := 54) C rfl (flP cI cS a (x.1, x.2.1, x.2.2.1, v17)) dX5_fault_54
    · have hf := k_pos c27 hf
      refine g_bipush (pc := 30) C (-4) dX5_fault_30 (by decide) ?_
      have e := Option.some.inj hf; subst e
      exact g_ri (pc := 32) C rfl (flP cI cS a (x.1, x.2.1, x.2.2.1, v17)) dX5_fault_32
  · have hf := k_pos c4 hf
    refine g_iconst (pc := 7) C (-1) dX5_fault_7 (by decide) ?_
    have e := Option.some.inj hf; subst e
    exact g_ri (pc := 8) C rfl (flP cI cS a x) dX5_fault_8
set_option maxHeartbeats 4000000 in
set_option maxRecDepth 100000 in
theorem c_X5_read (l : Launch) (D : va_G) (cI cS : ClassId) (a : aP) (x : TP) (out : Int32 × TP) (hf : P_read x = some out) : kM l D (kTy cI cS) yX5_read ct_X5_read rm_X5_read [.ref a.1] [wP cI cS a x] (kEq (some (.int out.1)) [wP cI cS a out.2]) := by
  refine k_methodE cX5_read 1 (some .int) RX5 rfl [(0, .ref a.1)] rfl (by decide +kernel) (Nat.le_of_ble_eq_true rfl) (fun κ A hla C => ?_)
  refine g_chunks (flP cI cS a x).symm ?_
  rw [P_read] at hf
  refine g_aload_n (pc := 0) C 0 dX5_read_0 rfl ?_
  refine gf_RX5_35 (pc := 1) C 0 rfl dX5_read_1 ?_
  refine g_aload_n (pc := 4) C 0 dX5_read_4 rfl ?_
  refine gf_RX5_28 (pc := 5) C 0 rfl dX5_read_5 ?_
  obtain ⟨v8, h8, hf⟩ := Option.bind_eq_some_iff.mp hf
  refine g_callV' (pc := 8) hla C (c_X2_passOver l D cI cS a.2.2.2.2 x.2.2.2 a.2.2.2.1 120 x.2.2.1 v8 h8) gg_RX5_193 hd_X2_passOver (by decide) rfl rfl rfl rfl (Nat.le_of_ble_eq_true rfl) dX5_read_8 (seP_0scan_0text cI cS a x) (seP_0scan_0text cI cS a (x.1, x.2.1, x.2.2.1, v8)).symm [] rfl ?_
  refine g_aload_n (pc := 11) C 0 dX5_read_11 rfl ?_
  refine gf_RX5_35 (pc := 12) C 0 rfl dX5_read_12 ?_
  refine gf_RX5_196 (pc := 15) C 9 rfl dX5_read_15 ?_
  refine g_if_eq (pc := 18) C 24 dX5_read_18 (by decide) (fun (c18 : v8.2.2.2.2.2 = 0) => ?_) (fun (c18 : ¬ v8.2.2.2.2.2 = 0) => ?_)
  · have hf := k_pos c18 hf
    refine g_aload_n (pc := 24) C 0 dX5_read_24 rfl ?_
    refine gf_RX5_19 (pc := 25) C 0 rfl dX5_read_25 ?_
    refine g_aload_n (pc := 28) C 0 dX5_read_28 rfl ?_
    refine gf_RX5_10 (pc := 29) C 0 rfl dX5_read_29 ?_
    obtain ⟨v32, h32, hf⟩ := Option.bind_eq_some_iff.mp hf
    refine g_callV' (pc := 32) hla C (c_X0_keep l D cI cS a.2.2.1 x.2.1 a.2.1 x.1 v32 h32) gg_RX5_81 hd_X0_keep (by decide) rfl rfl rfl rfl (Nat.le_of_ble_eq_true rfl) dX5_read_32 (seP_0history_0now cI cS a (x.1, x.2.1, x.2.2.1, v8)) (seP_0history_0now cI cS a (x.1, v32, x.2.2.1, v8)).symm [] rfl ?_
    refine g_aload_n (pc := 35) C 0 dX5_read_35 rfl ?_
    refine gf_RX5_10 (pc := 36) C 0 rfl dX5_read_36 ?_
    refine g_aload_n (pc := 39) C 0 dX5_read_39 rfl ?_
    refine gf_RX5_35 (pc := 40) C 0 rfl dX5_read_40 ?_
    refine gf_RX5_202 (pc := 43) C 9 rfl dX5_read_43 ?_
    obtain ⟨v46, h46, hf⟩ := Option.bind_eq_some_iff.mp hf
    refine g_callV' (pc := 46) hla C (c_X3_beginWith l D cI cS a.2.1 x.1 a.2.2.2.2.2.1 v8.1 v46 h46) gg_RX5_203 hd_X3_beginWith (by decide) rfl rfl rfl rfl (Nat.le_of_ble_eq_true rfl) dX5_read_46 (seP_0now_0scantree cI cS a (x.1, v32, x.2.2.1, v8)) (seP_0now_0scantree cI cS a (v46, v32, x.2.2.1, v8)).symm [] rfl ?_
    refine g_aload_n (pc := 49) C 0 dX5_read_49 rfl ?_
    refine gf_RX5_10 (pc := 50) C 0 rfl dX5_read_50 ?_
    refine gf_RX5_43 (pc := 53) C 1 rfl dX5_read_53 ?_
    obtain ⟨v56, h56, hf⟩ := Option.bind_eq_some_iff.mp hf
    refine g_callV' (pc := 56) hla C (c_X4_size l D cI cS a.2.1.2.1 v46.1 v56 h56) gg_RX5_101 hd_X4_size (by decide) rfl rfl rfl rfl (Nat.le_of_ble_eq_true rfl) dX5_read_56 (seP_0nowtree cI cS a (v46, v32, x.2.2.1, v8)) (seP_0nowtree cI cS a (v46, v32, x.2.2.1, v8)).symm [.int v56] rfl ?_
    have e := Option.some.inj hf; subst e
    exact g_ri (pc := 59) C rfl (flP cI cS a (v46, v32, x.2.2.1, v8)) dX5_read_59
  · have hf := k_neg c18 hf
    refine g_bipush (pc := 21) C (-2) dX5_read_21 (by decide) ?_
    have e := Option.some.inj hf; subst e
    exact g_ri (pc := 23) C rfl (flP cI cS a (x.1, x.2.1, x.2.2.1, v8)) dX5_read_23
