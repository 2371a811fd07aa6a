set_option maxHeartbeats 4000000 in
set_option maxRecDepth 100000 in
theorem c_X6_step (l : Launch) (D : va_G) (cI cS : ClassId) (a : aM) (m : MD) (x1 : Int32) (out : Int32 × MD) (hf : M_step m x1 = some out) : kM l D (kTy cI cS) yX6_step ct_X6_step rm_X6_step [.ref a.1, .int x1] [wM cI cS a m] (kEq (some (.int out.1)) [wM cI cS a out.2]) := by
  refine k_methodE cX6_step 3 (some .int) RX6 rfl [(0, .ref a.1), (1, .int x1)] rfl (by decide +kernel) (Nat.le_of_ble_eq_true rfl) (fun κ A hla C => ?_)
  refine g_chunks (flM cI cS a m).symm ?_
  have J29 : ∀ (m : MD) (s0 : Int32) (s1 : Int32), M_step_J29 m s0 s1 = some out → kG κ D A 3 0 0 (kF κ D A (some (.int out.1)) [wM cI cS a out.2]) (csM cI cS a m) [(0, .ref a.1)] 29 [.int s1, .int s0] := by
    intro m s0 s1 hf; rw [M_step_J29] at hf
    refine g_iadd (pc := 29) C dX6_step_29 ?_
    refine g_istore_n (pc := 30) C [(2, .int (s0 + s1)), (0, .ref a.1)] dX6_step_30 (by decide) rfl ?_
    refine g_aload_n (pc := 31) C 1 dX6_step_31 rfl ?_
    refine g_iload_n (pc := 32) C 0 dX6_step_32 rfl ?_
    obtain ⟨v33, h33, hf⟩ := Option.bind_eq_some_iff.mp hf
    refine g_callV' (pc := 33) hla C (c_X6_isNode l D cI cS a m (s0 + s1) v33 h33) gg_RX6_79 hd_X6_isNode (by decide) rfl rfl rfl rfl (Nat.le_of_ble_eq_true rfl) dX6_step_33 (seM_0 cI cS a m) (seM_0 cI cS a m).symm [.int v33] rfl ?_
    refine g_if_eq (pc := 36) C 51 dX6_step_36 (by decide) (fun (c36 : v33 = 0) => ?_) (fun (c36 : ¬ v33 = 0) => ?_)
    · have hf := k_pos c36 hf
      refine g_bipush (pc := 51) C (-2) dX6_step_51 (by decide) ?_
      have e := Option.some.inj hf; subst e
      exact g_ri (pc := 53) C rfl (flM cI cS a m) dX6_step_53
    · have hf := k_neg c36 hf
      refine g_aload_n (pc := 39) C 1 dX6_step_39 rfl ?_
      refine g_aload_n (pc := 40) C 1 dX6_step_40 rfl ?_
      refine g_iload_n (pc := 41) C 0 dX6_step_41 rfl ?_
      obtain ⟨v42, h42, hf⟩ := Option.bind_eq_some_iff.mp hf
      refine g_callV' (pc := 42) hla C (c_X6_walks l D cI cS a m (s0 + s1) v42 h42) gg_RX6_69 hd_X6_walks (by decide) rfl rfl rfl rfl (Nat.le_of_ble_eq_true rfl) dX6_step_42 (seM_0 cI cS a m) (seM_0 cI cS a v42.2).symm [.int v42.1, .ref a.1] rfl ?_
      obtain ⟨v45, h45, hf⟩ := Option.bind_eq_some_iff.mp hf
      refine g_callV' (pc := 45) hla C (c_X6_acted l D cI cS a v42.2 v42.1 v45 h45) gg_RX6_72 hd_X6_acted (by decide) rfl rfl rfl rfl (Nat.le_of_ble_eq_true rfl) dX6_step_45 (seM_0 cI cS a v42.2) (seM_0 cI cS a v45.2).symm [.int v45.1] rfl ?_
      refine g_goto (pc := 48) C 53 dX6_step_48 (by decide) ?_
      have e := Option.some.inj hf; subst e
      exact g_ri (pc := 53) C rfl (flM cI cS a v45.2) dX6_step_53
  rw [M_step] at hf
  refine g_aload_n (pc := 0) C 0 dX6_step_0 rfl ?_
  obtain ⟨v1, h1, hf⟩ := Option.bind_eq_some_iff.mp hf
  refine g_callV' (pc := 1) hla C (c_X6_begins l D cI cS a m v1 h1) gg_RX6_55 hd_X6_begins (by decide) rfl rfl rfl rfl (Nat.le_of_ble_eq_true rfl) dX6_step_1 (seM_0 cI cS a m) (seM_0 cI cS a v1).symm [] rfl ?_
  refine g_iload_n (pc := 4) C 1 dX6_step_4 rfl ?_
  refine g_iconst (pc := 5) C 0 dX6_step_5 (by decide) ?_
  refine g_iconst (pc := 6) C 1 dX6_step_6 (by decide) ?_
  obtain ⟨v7, h7, hf⟩ := Option.bind_eq_some_iff.mp hf
  refine g_callS' (pc := 7) hla C (c_X6_in l D cI cS x1 0 1 v7 h7) tb_X6_in m_744 m_X6_in_static m_ini_RX6 hd_X6_in (by decide) rfl rfl (Nat.le_of_ble_eq_true rfl) dX6_step_7 (seM_nil cI cS a v1) (seM_nil cI cS a v1).symm [.int v7] rfl ?_
  refine g_if_ne (pc := 10) C 15 dX6_step_10 (by decide) (fun (c10 : ¬ v7 = 0) => ?_) (fun (c10 : v7 = 0) => ?_)
  · have hf := k_neg c10 hf
    refine g_aload_n (pc := 15) C 0 dX6_step_15 rfl ?_
    obtain ⟨v16, h16, hf⟩ := Option.bind_eq_some_iff.mp hf
    refine g_callV' (pc := 16) hla C (c_X6_place l D cI cS a v1 v16 h16) gg_RX6_58 hd_X6_place (by decide) rfl rfl rfl rfl (Nat.le_of_ble_eq_true rfl) dX6_step_16 (seM_0 cI cS a v1) (seM_0 cI cS a v1).symm [.int v16] rfl ?_
    refine g_iload_n (pc := 19) C 1 dX6_step_19 rfl ?_
    refine g_iconst (pc := 20) C 1 dX6_step_20 (by decide) ?_
    refine g_icmp_ne (pc := 21) C 28 dX6_step_21 (by decide) (fun (c21 : ¬ x1 = 1) => ?_) (fun (c21 : x1 = 1) => ?_)
    · have hf := k_neg c21 hf
      refine g_iconst (pc := 28) C (-1) dX6_step_28 (by decide) ?_
      refine g_sub [0] (lv' := [(0, .ref a.1)]) rfl ?_
      exact J29 v1 v16 (-1) hf
    · have hf := k_pos c21 hf
      refine g_iconst (pc := 24) C 1 dX6_step_24 (by decide) ?_
      refine g_goto (pc := 25) C 29 dX6_step_25 (by decide) ?_
      refine g_sub [0] (lv' := [(0, .ref a.1)]) rfl ?_
      exact J29 v1 v16 1 hf
  · have hf := k_pos c10 hf
    refine g_iconst (pc := 13) C (-1) dX6_step_13 (by decide) ?_
    have e := Option.some.inj hf; subst e
    exact g_ri (pc := 14) C rfl (flM cI cS a v1) dX6_step_14
set_option maxHeartbeats 4000000 in
set_option maxRecDepth 100000 in
theorem c_X6_top (l : Launch) (D : va_G) (cI cS : ClassId) (a : aM) (m : MD) (out : Int32 × MD) (hf : M_top m = some out) : kM l D (kTy cI cS) yX6_top ct_X6_top rm_X6_top [.ref a.1] [wM cI cS a m] (kEq (some (.int out.1)) [wM cI cS a out.2]) := by
  refine k_methodE cX6_top 3 (some .int) RX6 rfl [(0, .ref a.1)] rfl (by decide +kernel) (Nat.le_of_ble_eq_true rfl) (fun κ A hla C => ?_)
  refine g_chunks (flM cI cS a m).symm ?_
  rw [M_top] at hf
  refine g_aload_n (pc := 0) C 0 dX6_top_0 rfl ?_
  obtain ⟨v1, h1, hf⟩ := Option.bind_eq_some_iff.mp hf
  refine g_callV' (pc := 1) hla C (c_X6_begins l D cI cS a m v1 h1) gg_RX6_55 hd_X6_begins (by decide) rfl rfl rfl rfl (Nat.le_of_ble_eq_true rfl) dX6_top_1 (seM_0 cI cS a m) (seM_0 cI cS a v1).symm [] rfl ?_
  refine g_aload_n (pc := 4) C 0 dX6_top_4 rfl ?_
  refine g_aload_n (pc := 5) C 0 dX6_top_5 rfl ?_
  obtain ⟨v6, h6, hf⟩ := Option.bind_eq_some_iff.mp hf
  refine g_callV' (pc := 6) hla C (c_X6_place l D cI cS a v1 v6 h6) gg_RX6_58 hd_X6_place (by decide) rfl rfl rfl rfl (Nat.le_of_ble_eq_true rfl) dX6_top_6 (seM_0 cI cS a v1) (seM_0 cI cS a v1).symm [.int v6, .ref a.1] rfl ?_
  obtain ⟨v9, h9, hf⟩ := Option.bind_eq_some_iff.mp hf
  refine g_callV' (pc := 9) hla C (c_X6_deep l D cI cS a v1 v6 v9 h9) gg_RX6_46 hd_X6_deep (by decide) rfl rfl rfl rfl (Nat.le_of_ble_eq_true rfl) dX6_top_9 (seM_0 cI cS a v1) (seM_0 cI cS a v1).symm [.int v9] rfl ?_
  refine g_istore_n (pc := 12) C [(1, .int v9), (0, .ref a.1)] dX6_top_12 (by decide) rfl ?_
  refine g_iload_n (pc := 13) C 0 dX6_top_13 rfl ?_
  refine g_if_ne (pc := 14) C 20 dX6_top_14 (by decide) (fun (c14 : ¬ v9 = 0) => ?_) (fun (c14 : v9 = 0) => ?_)
  · have hf := k_neg c14 hf
    refine g_aload_n (pc := 20) C 1 dX6_top_20 rfl ?_
    refine g_iconst (pc := 21) C 0 dX6_top_21 (by decide) ?_
    obtain ⟨v22, h22, hf⟩ := Option.bind_eq_some_iff.mp hf
    refine g_callV' (pc := 22) hla C (c_X6_walks l D cI cS a v1 0 v22 h22) gg_RX6_69 hd_X6_walks (by decide) rfl rfl rfl rfl (Nat.le_of_ble_eq_true rfl) dX6_top_22 (seM_0 cI cS a v1) (seM_0 cI cS a v22.2).symm [.int v22.1] rfl ?_
    refine g_istore_n (pc := 25) C [(2, .int v22.1), (1, .int v9), (0, .ref a.1)] dX6_top_25 (by decide) rfl ?_
    refine g_aload_n (pc := 26) C 2 dX6_top_26 rfl ?_
    refine g_iload_n (pc := 27) C 1 dX6_top_27 rfl ?_
    obtain ⟨v28, h28, hf⟩ := Option.bind_eq_some_iff.mp hf
    refine g_callV' (pc := 28) hla C (c_X6_acted l D cI cS a v22.2 v9 v28 h28) gg_RX6_72 hd_X6_acted (by decide) rfl rfl rfl rfl (Nat.le_of_ble_eq_true rfl) dX6_top_28 (seM_0 cI cS a v22.2) (seM_0 cI cS a v28.2).symm [.int v28.1] rfl ?_
    have e := Option.some.inj hf; subst e
    exact g_ri (pc := 31) C rfl (flM cI cS a v28.2) dX6_top_31
  · have hf := k_pos c14 hf
    refine g_bipush (pc := 17) C (-2) dX6_top_17 (by decide) ?_
    have e := Option.some.inj hf; subst e
    exact g_ri (pc := 19) C rfl (flM cI cS a v1) dX6_top_19
set_option maxHeartbeats 4000000 in
set_option maxRecDepth 100000 in
theorem c_X6_back (l : Launch) (D : va_G) (cI cS : ClassId) (a : aM) (m : MD) (out : Int32 × MD) (hf : M_back m = some out) : kM l D (kTy cI cS) yX6_back ct_X6_back rm_X6_back [.ref a.1] [wM cI cS a m] (kEq (some (.int out.1)) [wM cI cS a out.2]) := by
  refine k_methodE cX6_back 3 (some .int) RX6 rfl [(0, .ref a.1)] rfl (by decide +kernel) (Nat.le_of_ble_eq_true rfl) (fun κ A hla C => ?_)
  refine g_chunks (flM cI cS a m).symm ?_
  have L11 : ∀ (fu : Nat) (m : MD) (x1 : Int32), M_back_L11 fu m x1 = some out → kG κ D A 3 0 0 (kF κ D A (some (.int out.1)) [wM cI cS a out.2]) (csM cI cS a m) [(0, .ref a.1), (1, .int x1)] 11 [] := by
    intro fu; induction fu with
    | zero => intro m x1 hf; rw [M_back_L11] at hf; cases hf
    | succ fu ih =>
      intro m x1 hf; rw [M_back_L11] at hf
      refine g_iload_n (pc := 11) C 1 dX6_back_11 rfl ?_
      refine g_if_le (pc := 12) C 85 dX6_back_12 (by decide) (fun (c12 : x1 ≤ 0) => ?_) (fun (c12 : ¬ x1 ≤ 0) => ?_)
      · have hf := k_pos c12 hf
        refine g_bipush (pc := 85) C (-2) dX6_back_85 (by decide) ?_
        have e := Option.some.inj hf; subst e
        exact g_ri (pc := 87) C rfl (flM cI cS a m) dX6_back_87
      · have hf := k_neg c12 hf
        refine g_iinc (pc := 15) C 1 (x1 + (-1)) [(1, .int (x1 + (-1))), (0, .ref a.1)] dX6_back_15 rfl (congrArg (HAdd.hAdd _) (by decide)) (by decide) rfl ?_
        refine g_aload_n (pc := 18) C 1 dX6_back_18 rfl ?_
        refine g_aload_n (pc := 19) C 1 dX6_back_19 rfl ?_
        refine gf_RX6_7 (pc := 20) C 0 rfl dX6_back_20 ?_
        refine g_bipush (pc := 23) C 9 dX6_back_23 (by decide) ?_
        refine g_iload_n (pc := 25) C 0 dX6_back_25 rfl ?_
        refine g_iadd (pc := 26) C dX6_back_26 ?_
        obtain ⟨g27, hf⟩ := k_guard hf
        refine g_iald (pc := 27) C 1 0 rfl rfl g27 dX6_back_27 ?_
        obtain ⟨v28, h28, hf⟩ := Option.bind_eq_some_iff.mp hf
        refine g_callV' (pc := 28) hla C (c_X6_numberOf l D cI cS a m (m.1 (ix (9 + (x1 + (-1))))) v28 h28) gg_RX6_43 hd_X6_numberOf (by decide) rfl rfl rfl rfl (Nat.le_of_ble_eq_true rfl) dX6_back_28 (seM_0 cI cS a m) (seM_0 cI cS a m).symm [.int v28] rfl ?_
        refine g_istore_n (pc := 31) C [(2, .int v28), (1, .int (x1 + (-1))), (0, .ref a.1)] dX6_back_31 (by decide) rfl ?_
        refine g_iload_n (pc := 32) C 0 dX6_back_32 rfl ?_
        refine g_if_lt (pc := 33) C 82 dX6_back_33 (by decide) (fun (c33 : v28 < 0) => ?_) (fun (c33 : ¬ v28 < 0) => ?_)
        · have hf := k_pos c33 hf
          refine g_goto (pc := 82) C 11 dX6_back_82 (by decide) ?_
          refine g_sub [2, 1] (lv' := [(0, .ref a.1), (1, .int (x1 + (-1)))]) rfl ?_
          exact ih m (x1 + (-1)) hf
        · have hf := k_neg c33 hf
          refine g_aload_n (pc := 36) C 2 dX6_back_36 rfl ?_
          refine gf_RX6_7 (pc := 37) C 0 rfl dX6_back_37 ?_
          refine g_bipush (pc := 40) C 9 dX6_back_40 (by decide) ?_
          refine g_iload_n (pc := 42) C 1 dX6_back_42 rfl ?_
          refine g_iadd (pc := 43) C dX6_back_43 ?_
          obtain ⟨g44, hf⟩ := k_guard hf
          refine g_iald (pc := 44) C 1 0 rfl rfl g44 dX6_back_44 ?_
          refine g_aload_n (pc := 45) C 2 dX6_back_45 rfl ?_
          refine gf_RX6_7 (pc := 46) C 0 rfl dX6_back_46 ?_
          refine g_iconst (pc := 49) C 2 dX6_back_49 (by decide) ?_
          refine g_iald (pc := 50) C 1 0 rfl rfl (by decide) dX6_back_50 ?_
          refine g_icmp_eq (pc := 51) C 82 dX6_back_51 (by decide) (fun (c51 : (m.1 (ix (9 + (x1 + (-1))))) = (m.1 (ix 2))) => ?_) (fun (c51 : ¬ (m.1 (ix (9 + (x1 + (-1))))) = (m.1 (ix 2))) => ?_)
          · have hf := k_pos c51 hf
            refine g_goto (pc := 82) C 11 dX6_back_82 (by decide) ?_
            refine g_sub [2, 1] (lv' := [(0, .ref a.1), (1, .int (x1 + (-1)))]) rfl ?_
            exact ih m (x1 + (-1)) hf
          · have hf := k_neg c51 hf
            refine g_aload_n (pc := 54) C 2 dX6_back_54 rfl ?_
            refine gf_RX6_7 (pc := 55) C 0 rfl dX6_back_55 ?_
            refine g_iconst (pc := 58) C 2 dX6_back_58 (by decide) ?_
            refine g_aload_n (pc := 59) C 2 dX6_back_59 rfl ?_
            refine gf_RX6_7 (pc := 60) C 0 rfl dX6_back_60 ?_
            refine g_bipush (pc := 63) C 9 dX6_back_63 (by decide) ?_
            refine g_iload_n (pc := 65) C 1 dX6_back_65 rfl ?_
            refine g_iadd (pc := 66) C dX6_back_66 ?_
            obtain ⟨g67, hf⟩ := k_guard hf
            refine g_iald (pc := 67) C 1 0 rfl rfl g67 dX6_back_67 ?_
            obtain ⟨u68, e68, hf⟩ := Option.bind_eq_some_iff.mp hf
            refine g_iastU (pc := 68) C 1 0 u68 (Option.some.inj e68) (csM cI cS a (u68, m.2.1, m.2.2.1, m.2.2.2.1, m.2.2.2.2.1, m.2.2.2.2.2.1, m.2.2.2.2.2.2.1, m.2.2.2.2.2.2.2.1, m.2.2.2.2.2.2.2.2.1, m.2.2.2.2.2.2.2.2.2.1, m.2.2.2.2.2.2.2.2.2.2.1, m.2.2.2.2.2.2.2.2.2.2.2)) rfl rfl (by decide) rfl dX6_back_68 ?_
            refine g_aload_n (pc := 69) C 2 dX6_back_69 rfl ?_
            refine gf_RX6_7 (pc := 70) C 0 rfl dX6_back_70 ?_
            refine g_iconst (pc := 73) C 3 dX6_back_73 (by decide) ?_
            refine g_iload_n (pc := 74) C 1 dX6_back_74 rfl ?_
            obtain ⟨u75, e75, hf⟩ := Option.bind_eq_some_iff.mp hf
            refine g_iastU (pc := 75) C 1 0 u75 (Option.some.inj e75) (csM cI cS a (u75, m.2.1, m.2.2.1, m.2.2.2.1, m.2.2.2.2.1, m.2.2.2.2.2.1, m.2.2.2.2.2.2.1, m.2.2.2.2.2.2.2.1, m.2.2.2.2.2.2.2.2.1, m.2.2.2.2.2.2.2.2.2.1, m.2.2.2.2.2.2.2.2.2.2.1, m.2.2.2.2.2.2.2.2.2.2.2)) rfl rfl (by decide) rfl dX6_back_75 ?_
            refine g_aload_n (pc := 76) C 2 dX6_back_76 rfl ?_
            refine g_iload_n (pc := 77) C 0 dX6_back_77 rfl ?_
            obtain ⟨v78, h78, hf⟩ := Option.bind_eq_some_iff.mp hf
            refine g_callV' (pc := 78) hla C (c_X6_acted l D cI cS a (u75, m.2.1, m.2.2.1, m.2.2.2.1, m.2.2.2.2.1, m.2.2.2.2.2.1, m.2.2.2.2.2.2.1, m.2.2.2.2.2.2.2.1, m.2.2.2.2.2.2.2.2.1, m.2.2.2.2.2.2.2.2.2.1, m.2.2.2.2.2.2.2.2.2.2.1, m.2.2.2.2.2.2.2.2.2.2.2) v28 v78 h78) gg_RX6_72 hd_X6_acted (by decide) rfl rfl rfl rfl (Nat.le_of_ble_eq_true rfl) dX6_back_78 (seM_0 cI cS a (u75, m.2.1, m.2.2.1, m.2.2.2.1, m.2.2.2.2.1, m.2.2.2.2.2.1, m.2.2.2.2.2.2.1, m.2.2.2.2.2.2.2.1, m.2.2.2.2.2.2.2.2.1, m.2.2.2.2.2.2.2.2.2.1, m.2.2.2.2.2.2.2.2.2.2.1, m.2.2.2.2.2.2.2.2.2.2.2)) (seM_0 cI cS a v78.2).symm [.int v78.1] rfl ?_
            have e := Option.some.inj hf; subst e
            exact g_ri (pc := 81) C rfl (flM cI cS a v78.2) dX6_back_81
  rw [M_back] at hf
  refine g_aload_n (pc := 0) C 0 dX6_back_0 rfl ?_
  obtain ⟨v1, h1, hf⟩ := Option.bind_eq_some_iff.mp hf
  refine g_callV' (pc := 1) hla C (c_X6_begins l D cI cS a m v1 h1) gg_RX6_55 hd_X6_begins (by decide) rfl rfl rfl rfl (Nat.le_of_ble_eq_true rfl) dX6_back_1 (seM_0 cI cS a m) (seM_0 cI cS a v1).symm [] rfl ?_
  refine g_aload_n (pc := 4) C 0 dX6_back_4 rfl ?_
  refine gf_RX6_7 (pc := 5) C 0 rfl dX6_back_5 ?_
  refine g_iconst (pc := 8) C 3 dX6_back_8 (by decide) ?_
  refine g_iald (pc := 9) C 1 0 rfl rfl (by decide) dX6_back_9 ?_
  refine g_istore_n (pc := 10) C [(1, .int (v1.1 (ix 3))), (0, .ref a.1)] dX6_back_10 (by decide) rfl ?_
  refine g_sub [1, 0] (lv' := [(0, .ref a.1), (1, .int (v1.1 (ix 3)))]) rfl ?_
  exact L11 1000 v1 (v1.1 (ix 3)) hf
set_option maxHeartbeats 4000000 in
set_option maxRecDepth 100000 in
theorem c_X6_letter (l : Launch) (D : va_G) (cI cS : ClassId) (a : aM) (m : MD) (x1 : Int32) (out : Int32 × MD) (hf : M_letter m x1 = some out) : kM l D (kTy cI cS) yX6_letter ct_X6_letter rm_X6_letter [.ref a.1, .int x1] [wM cI cS a m] (kEq (some (.int out.1)) [wM cI cS a out.2]) := by
  refine k_methodE cX6_letter 4 (some .int) RX6 rfl [(0, .ref a.1), (1, .int x1)] rfl (by decide +kernel) (Nat.le_of_ble_eq_true rfl) (fun κ A hla C => ?_)
  refine g_chunks (flM cI cS a m).symm ?_
  rw [M_letter] at hf
  refine g_aload_n (pc := 0) C 0 dX6_letter_0 rfl ?_
  obtain ⟨v1, h1, hf⟩ := Option.bind_eq_some_iff.mp hf
  refine g_callV' (pc := 1) hla C (c_X6_begins l D cI cS a m v1 h1) gg_RX6_55 hd_X6_begins (by decide) rfl rfl rfl rfl (Nat.le_of_ble_eq_true rfl) dX6_letter_1 (seM_0 cI cS a m) (seM_0 cI cS a v1).symm [] rfl ?_
  refine g_iload_n (pc := 4) C 1 dX6_letter_4 rfl ?_
  refine g_iconst (pc := 5) C 0 dX6_letter_5 (by decide) ?_
  refine g_bipush (pc := 6) C 25 dX6_letter_6 (by decide) ?_
  obtain ⟨v8, h8, hf⟩ := Option.bind_eq_some_iff.mp hf
  refine g_callS' (pc := 8) hla C (c_X6_in l D cI cS x1 0 25 v8 h8) tb_X6_in m_744 m_X6_in_static m_ini_RX6 hd_X6_in (by decide) rfl rfl (Nat.le_of_ble_eq_true rfl) dX6_letter_8 (seM_nil cI cS a v1) (seM_nil cI cS a v1).symm [.int v8] rfl ?_
  refine g_if_ne (pc := 11) C 16 dX6_letter_11 (by decide) (fun (c11 : ¬ v8 = 0) => ?_) (fun (c11 : v8 = 0) => ?_)
  · have hf := k_neg c11 hf
    refine g_aload_n (pc := 16) C 0 dX6_letter_16 rfl ?_
    obtain ⟨v17, h17, hf⟩ := Option.bind_eq_some_iff.mp hf
    refine g_callV' (pc := 17) hla C (c_X6_place l D cI cS a v1 v17 h17) gg_RX6_58 hd_X6_place (by decide) rfl rfl rfl rfl (Nat.le_of_ble_eq_true rfl) dX6_letter_17 (seM_0 cI cS a v1) (seM_0 cI cS a v1).symm [.int v17] rfl ?_
    refine g_istore_n (pc := 20) C [(2, .int v17), (0, .ref a.1), (1, .int x1)] dX6_letter_20 (by decide) rfl ?_
    refine g_aload_n (pc := 21) C 1 dX6_letter_21 rfl ?_
    refine g_iload_n (pc := 22) C 0 dX6_letter_22 rfl ?_
    obtain ⟨v23, h23, hf⟩ := Option.bind_eq_some_iff.mp hf
    refine g_callV' (pc := 23) hla C (c_X6_sign l D cI cS a v1 v17 v23 h23) gg_RX6_83 hd_X6_sign (by decide) rfl rfl rfl rfl (Nat.le_of_ble_eq_true rfl) dX6_letter_23 (seM_0 cI cS a v1) (seM_0 cI cS a v1).symm [.int v23] rfl ?_
    refine g_istore_n (pc := 26) C [(3, .int v23), (2, .int v17), (0, .ref a.1), (1, .int x1)] dX6_letter_26 (by decide) rfl ?_
    refine g_aload_n (pc := 27) C 2 dX6_letter_27 rfl ?_
    refine gf_RX6_7 (pc := 28) C 0 rfl dX6_letter_28 ?_
    refine g_bipush (pc := 31) C 18 dX6_letter_31 (by decide) ?_
    refine g_iconst (pc := 33) C 3 dX6_letter_33 (by decide) ?_
    refine g_iload_n (pc := 34) C 1 dX6_letter_34 rfl ?_
    refine g_imul (pc := 35) C dX6_letter_35 ?_
    refine g_iadd (pc := 36) C dX6_letter_36 ?_
    refine g_iload_n (pc := 37) C 3 dX6_letter_37 rfl ?_
    obtain ⟨g38, hf⟩ := k_guard hf
    obtain ⟨u38, e38, hf⟩ := Option.bind_eq_some_iff.mp hf
    refine g_iastU (pc := 38) C 1 0 u38 (Option.some.inj e38) (csM cI cS a (u38, v1.2.1, v1.2.2.1, v1.2.2.2.1, v1.2.2.2.2.1, v1.2.2.2.2.2.1, v1.2.2.2.2.2.2.1, v1.2.2.2.2.2.2.2.1, v1.2.2.2.2.2.2.2.2.1, v1.2.2.2.2.2.2.2.2.2.1, v1.2.2.2.2.2.2.2.2.2.2.1, v1.2.2.2.2.2.2.2.2.2.2.2)) rfl rfl g38 rfl dX6_letter_38 ?_
    refine g_aload_n (pc := 39) C 2 dX6_letter_39 rfl ?_
    refine g_iload_n (pc := 40) C 0 dX6_letter_40 rfl ?_
    obtain ⟨v41, h41, hf⟩ := Option.bind_eq_some_iff.mp hf
    refine g_callV' (pc := 41) hla C (c_X6_acted l D cI cS a (u38, v1.2.1, v1.2.2.1, v1.2.2.2.1, v1.2.2.2.2.1, v1.2.2.2.2.2.1, v1.2.2.2.2.2.2.1, v1.2.2.2.2.2.2.2.1, v1.2.2.2.2.2.2.2.2.1, v1.2.2.2.2.2.2.2.2.2.1, v1.2.2.2.2.2.2.2.2.2.2.1, v1.2.2.2.2.2.2.2.2.2.2.2) v23 v41 h41) gg_RX6_72 hd_X6_acted (by decide) rfl rfl rfl rfl (Nat.le_of_ble_eq_true rfl) dX6_letter_41 (seM_0 cI cS a (u38, v1.2.1, v1.2.2.1, v1.2.2.2.1, v1.2.2.2.2.1, v1.2.2.2.2.2.1, v1.2.2.2.2.2.2.1, v1.2.2.2.2.2.2.2.1, v1.2.2.2.2.2.2.2.2.1, v1.2.2.2.2.2.2.2.2.2.1, v1.2.2.2.2.2.2.2.2.2.2.1, v1.2.2.2.2.2.2.2.2.2.2.2)) (seM_0 cI cS a v41.2).symm [.int v41.1] rfl ?_
    have e := Option.some.inj hf; subst e
    exact g_ri (pc := 44) C rfl (flM cI cS a v41.2) dX6_letter_44
  · have hf := k_pos c11 hf
    refine g_iconst (pc := 14) C (-1) dX6_letter_14 (by decide) ?_
    have e := Option.some.inj hf; subst e
    exact g_ri (pc := 15) C rfl (flM cI cS a v1) dX6_letter_15
set_option maxHeartbeats 4000000 in
set_option maxRecDepth 100000 in
theorem c_X6_child (l : Launch) (D : va_G) (cI cS : ClassId) (a : aM) (m : MD) (x1 : Int32) (x2 : Int32) (out : Int32 × MD) (hf : M_child m x1 x2 = some out) : kM l D (kTy cI cS) yX6_child ct_X6_child rm_X6_child [.ref a.1, .int x1, .int x2] [wM cI cS a m] (kEq (some (.int out.1)) [wM cI cS a out.2]) := by
  refine k_methodE cX6_child 5 (some .int) RX6 rfl [(0, .ref a.1), (1, .int x1), (2, .int x2)] rfl (by decide +kernel) (Nat.le_of_ble_eq_true rfl) (fun κ A hla C => ?_)
  refine g_chunks (flM cI cS a m).symm ?_
  rw [M_child] at hf
  refine g_aload_n (pc := 0) C 0 dX6_child_0 rfl ?_
  obtain ⟨v1, h1, hf⟩ := Option.bind_eq_some_iff.mp hf
  refine g_callV' (pc := 1) hla C (c_X6_begins l D cI cS a m v1 h1) gg_RX6_55 hd_X6_begins (by decide) rfl rfl rfl rfl (Nat.le_of_ble_eq_true rfl) dX6_child_1 (seM_0 cI cS a m) (seM_0 cI cS a v1).symm [] rfl ?_
  refine g_aload_n (pc := 4) C 0 dX6_child_4 rfl ?_
  obtain ⟨v5, h5, hf⟩ := Option.bind_eq_some_iff.mp hf
  refine g_callV' (pc := 5) hla C (c_X6_place l D cI cS a v1 v5 h5) gg_RX6_58 hd_X6_place (by decide) rfl rfl rfl rfl (Nat.le_of_ble_eq_true rfl) dX6_child_5 (seM_0 cI cS a v1) (seM_0 cI cS a v1).symm [.int v5] rfl ?_
  refine g_istore_n (pc := 8) C [(3, .int v5), (0, .ref a.1), (1, .int x1), (2, .int x2)] dX6_child_8 (by decide) rfl ?_
  refine g_iload_n (pc := 9) C 2 dX6_child_9 rfl ?_
  refine g_iconst (pc := 10) C 0 dX6_child_10 (by decide) ?_
  refine g_aload_n (pc := 11) C 1 dX6_child_11 rfl ?_
  refine g_iload_n (pc := 12) C 0 dX6_child_12 rfl ?_
  obtain ⟨v13, h13, hf⟩ := Option.bind_eq_some_iff.mp hf
  refine g_callV' (pc := 13) hla C (c_X6_children l D cI cS a v1 v5 v13 h13) gg_RX6_62 hd_X6_children (by decide) rfl rfl rfl rfl (Nat.le_of_ble_eq_true rfl) dX6_child_13 (seM_0 cI cS a v1) (seM_0 cI cS a v1).symm [.int v13, .int 0, .int x1] rfl ?_
  obtain ⟨v16, h16, hf⟩ := Option.bind_eq_some_iff.mp hf
  refine g_callS' (pc := 16) hla C (c_X6_in l D cI cS x1 0 v13 v16 h16) tb_X6_in m_744 m_X6_in_static m_ini_RX6 hd_X6_in (by decide) rfl rfl (Nat.le_of_ble_eq_true rfl) dX6_child_16 (seM_nil cI cS a v1) (seM_nil cI cS a v1).symm [.int v16] rfl ?_
  refine g_if_eq (pc := 19) C 32 dX6_child_19 (by decide) (fun (c19 : v16 = 0) => ?_) (fun (c19 : ¬ v16 = 0) => ?_)
  · have hf := k_pos c19 hf
    refine g_iconst (pc := 32) C (-1) dX6_child_32 (by decide) ?_
    have e := Option.some.inj hf; subst e
    exact g_ri (pc := 33) C rfl (flM cI cS a v1) dX6_child_33
  · have hf := k_neg c19 hf
    refine g_iload_n (pc := 22) C 3 dX6_child_22 rfl ?_
    refine g_iconst (pc := 23) C 0 dX6_child_23 (by decide) ?_
    refine g_bipush (pc := 24) C 25 dX6_child_24 (by decide) ?_
    obtain ⟨v26, h26, hf⟩ := Option.bind_eq_some_iff.mp hf
    refine g_callS' (pc := 26) hla C (c_X6_in l D cI cS x2 0 25 v26 h26) tb_X6_in m_744 m_X6_in_static m_ini_RX6 hd_X6_in (by decide) rfl rfl (Nat.le_of_ble_eq_true rfl) dX6_child_26 (seM_nil cI cS a v1) (seM_nil cI cS a v1).symm [.int v26] rfl ?_
    refine g_if_ne (pc := 29) C 34 dX6_child_29 (by decide) (fun (c29 : ¬ v26 = 0) => ?_) (fun (c29 : v26 = 0) => ?_)
    · have hf := k_neg c29 hf
      refine g_aload_n (pc := 34) C 1 dX6_child_34 rfl ?_
      refine gf_RX6_7 (pc := 35) C 0 rfl dX6_child_35 ?_
      refine g_iconst (pc := 38) C 0 dX6_child_38 (by decide) ?_
      refine g_iald (pc := 39) C 1 0 rfl rfl (by decide) dX6_child_39 ?_
      refine g_bipush (pc := 40) C 40 dX6_child_40 (by decide) ?_
      refine g_icmp_eq (pc := 42) C 65 dX6_child_42 (by decide) (fun (c42 : (v1.1 (ix 0)) = 40) => ?_) (fun (c42 : ¬ (v1.1 (ix 0)) = 40) => ?_)
      · have hf := k_pos c42 hf
        refine g_bipush (pc := 65) C (-3) dX6_child_65 (by decide) ?_
        have e := Option.some.inj hf; subst e
        exact g_ri (pc := 67) C rfl (flM cI cS a v1) dX6_child_67
      · have hf := k_neg c42 hf
        refine g_aload_n (pc := 45) C 1 dX6_child_45 rfl ?_
        refine g_iload_n (pc := 46) C 0 dX6_child_46 rfl ?_
        obtain ⟨v47, h47, hf⟩ := Option.bind_eq_some_iff.mp hf
        refine g_callV' (pc := 47) hla C (c_X6_children l D cI cS a v1 v5 v47 h47) gg_RX6_62 hd_X6_children (by decide) rfl rfl rfl rfl (Nat.le_of_ble_eq_true rfl) dX6_child_47 (seM_0 cI cS a v1) (seM_0 cI cS a v1).symm [.int v47] rfl ?_
        refine g_bipush (pc := 50) C 6 dX6_child_50 (by decide) ?_
        refine g_icmp_eq (pc := 52) C 65 dX6_child_52 (by decide) (fun (c52 : v47 = 6) => ?_) (fun (c52 : ¬ v47 = 6) => ?_)
        · have hf := k_pos c52 hf
          refine g_bipush (pc := 65) C (-3) dX6_child_65 (by decide) ?_
          have e := Option.some.inj hf; subst e
          exact g_ri (pc := 67) C rfl (flM cI cS a v1) dX6_child_67
        · have hf := k_neg c52 hf
          refine g_aload_n (pc := 55) C 1 dX6_child_55 rfl ?_
          refine g_iload_n (pc := 56) C 0 dX6_child_56 rfl ?_
          obtain ⟨v57, h57, hf⟩ := Option.bind_eq_some_iff.mp hf
          refine g_callV' (pc := 57) hla C (c_X6_deep l D cI cS a v1 v5 v57 h57) gg_RX6_46 hd_X6_deep (by decide) rfl rfl rfl rfl (Nat.le_of_ble_eq_true rfl) dX6_child_57 (seM_0 cI cS a v1) (seM_0 cI cS a v1).symm [.int v57] rfl ?_
          refine g_bipush (pc := 60) C 7 dX6_child_60 (by decide) ?_
          refine g_icmp_ne (pc := 62) C 68 dX6_child_62 (by decide) (fun (c62 : ¬ v57 = 7) => ?_) (fun (c62 : v57 = 7) => ?_)
          · have hf := k_neg c62 hf
            refine g_aload_n (pc := 68) C 1 dX6_child_68 rfl ?_
            refine g_iload_n (pc := 69) C 0 dX6_child_69 rfl ?_
            refine g_iload_n (pc := 70) C 2 dX6_child_70 rfl ?_
            obtain ⟨v71, h71, hf⟩ := Option.bind_eq_some_iff.mp hf
            refine g_callV' (pc := 71) hla C (c_X6_childOf l D cI cS a v1 v5 x1 v71 h71) gg_RX6_65 hd_X6_childOf (by decide) rfl rfl rfl rfl (Nat.le_of_ble_eq_true rfl) dX6_child_71 (seM_0 cI cS a v1) (seM_0 cI cS a v1).symm [.int v71] rfl ?_
            refine g_istore (pc := 74) C [(4, .int v71), (3, .int v5), (0, .ref a.1), (1, .int x1), (2, .int x2)] dX6_child_74 (by decide) rfl ?_
            refine g_aload_n (pc := 76) C 2 dX6_child_76 rfl ?_
            refine g_iload (pc := 77) C 0 dX6_child_77 rfl ?_
            refine g_iconst (pc := 79) C 1 dX6_child_79 (by decide) ?_
            obtain ⟨v80, h80, hf⟩ := Option.bind_eq_some_iff.mp hf
            refine g_callV' (pc := 80) hla C (c_X6_opens l D cI cS a v1 v71 1 v80 h80) gg_RX6_86 hd_X6_opens (by decide) rfl rfl rfl rfl (Nat.le_of_ble_eq_true rfl) dX6_child_80 (seM_0 cI cS a v1) (seM_0 cI cS a v80).symm [] rfl ?_
            refine g_aload_n (pc := 83) C 2 dX6_child_83 rfl ?_
            refine g_iload (pc := 84) C 0 dX6_child_84 rfl ?_
            refine g_iload_n (pc := 86) C 4 dX6_child_86 rfl ?_
            refine g_aload_n (pc := 87) C 2 dX6_child_87 rfl ?_
            refine g_iload_n (pc := 88) C 1 dX6_child_88 rfl ?_
            obtain ⟨v89, h89, hf⟩ := Option.bind_eq_some_iff.mp hf
            refine g_callV' (pc := 89) hla C (c_X6_deep l D cI cS a v80 v5 v89 h89) gg_RX6_46 hd_X6_deep (by decide) rfl rfl rfl rfl (Nat.le_of_ble_eq_true rfl) dX6_child_89 (seM_0 cI cS a v80) (seM_0 cI cS a v80).symm [.int v89, .int x2, .int v71, .ref a.1] rfl ?_
            refine g_iconst (pc := 92) C 1 dX6_child_92 (by decide) ?_
            refine g_iadd (pc := 93) C dX6_child_93 ?_
            obtain ⟨v94, h94, hf⟩ := Option.bind_eq_some_iff.mp hf
            refine g_callV' (pc := 94) hla C (c_X6_lays l D cI cS a v80 v71 x2 (v89 + 1) v94 h94) gg_RX6_90 hd_X6_lays (by decide) rfl rfl rfl rfl (Nat.le_of_ble_eq_true rfl) dX6_child_94 (seM_0 cI cS a v80) (seM_0 cI cS a v94).symm [] rfl ?_
            refine g_aload_n (pc := 97) C 2 dX6_child_97 rfl ?_
            refine g_aload_n (pc := 98) C 2 dX6_child_98 rfl ?_
            refine g_iload_n (pc := 99) C 1 dX6_child_99 rfl ?_
            obtain ⟨v100, h100, hf⟩ := Option.bind_eq_some_iff.mp hf
            refine g_callV' (pc := 100) hla C (c_X6_children l D cI cS a v94 v5 v100 h100) gg_RX6_62 hd_X6_children (by decide) rfl rfl rfl rfl (Nat.le_of_ble_eq_true rfl) dX6_child_100 (seM_0 cI cS a v94) (seM_0 cI cS a v94).symm [.int v100, .ref a.1] rfl ?_
            obtain ⟨v103, h103, hf⟩ := Option.bind_eq_some_iff.mp hf
            refine g_callV' (pc := 103) hla C (c_X6_acted l D cI cS a v94 v100 v103 h103) gg_RX6_72 hd_X6_acted (by decide) rfl rfl rfl rfl (Nat.le_of_ble_eq_true rfl) dX6_child_103 (seM_0 cI cS a v94) (seM_0 cI cS a v103.2).symm [.int v103.1] rfl ?_
            have e := Option.some.inj hf; subst e
            exact g_ri (pc := 106) C rfl (flM cI cS a v103.2) dX6_child_106
          · have hf := k_pos c62 hf
            refine g_bipush (pc := 65) C (-3) dX6_child_65 (by decide) ?_
            have e := Option.some.inj hf; subst e
            exact g_ri (pc := 67) C rfl (flM cI cS a v1) dX6_child_67
    · have hf := k_pos c29 hf
      refine g_iconst (pc := 32) C (-1) dX6_child_32 (by decide) ?_
      have e := Option.some.inj hf; subst e
      exact g_ri (pc := 33) C rfl (flM cI cS a v1) dX6_child_33
