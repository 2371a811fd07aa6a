set_option maxHeartbeats 4000000 in
set_option maxRecDepth 100000 in
theorem c_X6_find (l : Launch) (D : va_G) (cI cS : ClassId) (a : aM) (m : MD) (x1 : Int32) (out : Int32) (hf : M_find m x1 = some out) : kM l D (kTy cI cS) yX6_find ct_X6_find rm_X6_find [.ref a.1, .int x1] [wM cI cS a m] (kEq (some (.int out)) [wM cI cS a m]) := by
  refine k_methodE cX6_find 5 (some .int) RX6 rfl [(0, .ref a.1), (1, .int x1)] rfl (by decide +kernel) (Nat.le_of_ble_eq_true rfl) (fun κ A hla C => ?_)
  refine g_chunks (flM cI cS a m).symm ?_
  have L19 : ∀ (fu : Nat) (m : MD) (x1 : Int32) (x2 : Int32) (x3 : Int32), M_find_L19 fu m x1 x2 x3 = some out → kG κ D A 5 0 0 (kF κ D A (some (.int out)) [wM cI cS a m]) (csM cI cS a m) [(0, .ref a.1), (1, .int x1), (2, .int x2), (3, .int x3)] 19 [] := by
    intro fu; induction fu with
    | zero => intro m x1 x2 x3 hf; rw [M_find_L19] at hf; cases hf
    | succ fu ih =>
      intro m x1 x2 x3 hf; rw [M_find_L19] at hf
      refine g_iload_n (pc := 19) C 3 dX6_find_19 rfl ?_
      refine g_aload_n (pc := 20) C 0 dX6_find_20 rfl ?_
      refine gf_RX6_7 (pc := 21) C 0 rfl dX6_find_21 ?_
      refine g_iconst (pc := 24) C 0 dX6_find_24 (by decide) ?_
      refine g_iald (pc := 25) C 1 0 rfl rfl (by decide) dX6_find_25 ?_
      refine g_icmp_gt (pc := 26) C 60 dX6_find_26 (by decide) (fun (c26 : (m.1 (ix 0)) < x3) => ?_) (fun (c26 : ¬ (m.1 (ix 0)) < x3) => ?_)
      · have hf := k_pos c26 hf
        refine g_bipush (pc := 60) C (-4) dX6_find_60 (by decide) ?_
        have e := Option.some.inj hf; subst e
        exact g_ri (pc := 62) C rfl (flM cI cS a m) dX6_find_62
      · have hf := k_neg c26 hf
        refine g_iload_n (pc := 29) C 2 dX6_find_29 rfl ?_
        refine g_iload_n (pc := 30) C 3 dX6_find_30 rfl ?_
        refine g_iadd (pc := 31) C dX6_find_31 ?_
        refine g_aload_n (pc := 32) C 0 dX6_find_32 rfl ?_
        refine gf_RX6_7 (pc := 33) C 0 rfl dX6_find_33 ?_
        refine g_iconst (pc := 36) C 0 dX6_find_36 (by decide) ?_
        refine g_iald (pc := 37) C 1 0 rfl rfl (by decide) dX6_find_37 ?_
        obtain ⟨g38, hf⟩ := k_guard hf
        refine g_irem (pc := 38) C dX6_find_38 g38 ?_
        refine g_istore (pc := 39) C [(4, .int (irem (x2 + x3) (m.1 (ix 0)))), (0, .ref a.1), (1, .int x1), (2, .int x2), (3, .int x3)] dX6_find_39 (by decide) rfl ?_
        refine g_aload_n (pc := 41) C 1 dX6_find_41 rfl ?_
        refine g_iload (pc := 42) C 0 dX6_find_42 rfl ?_
        obtain ⟨v44, h44, hf⟩ := Option.bind_eq_some_iff.mp hf
        refine g_callV' (pc := 44) hla C (c_X6_sign l D cI cS a m (irem (x2 + x3) (m.1 (ix 0))) v44 h44) gg_RX6_83 hd_X6_sign (by decide) rfl rfl rfl rfl (Nat.le_of_ble_eq_true rfl) dX6_find_44 (seM_0 cI cS a m) (seM_0 cI cS a m).symm [.int v44] rfl ?_
        refine g_iload_n (pc := 47) C 2 dX6_find_47 rfl ?_
        refine g_icmp_ne (pc := 48) C 54 dX6_find_48 (by decide) (fun (c48 : ¬ v44 = x1) => ?_) (fun (c48 : v44 = x1) => ?_)
        · have hf := k_neg c48 hf
          refine g_iinc (pc := 54) C 4 (x3 + 1) [(3, .int (x3 + 1)), (4, .int (irem (x2 + x3) (m.1 (ix 0)))), (0, .ref a.1), (1, .int x1), (2, .int x2)] dX6_find_54 rfl (congrArg (HAdd.hAdd _) (by decide)) (by decide) rfl ?_
          refine g_goto (pc := 57) C 19 dX6_find_57 (by decide) ?_
          refine g_sub [2, 3, 4, 0] (lv' := [(0, .ref a.1), (1, .int x1), (2, .int x2), (3, .int (x3 + 1))]) rfl ?_
          exact ih m x1 x2 (x3 + 1) hf
        · have hf := k_pos c48 hf
          refine g_iload (pc := 51) C 0 dX6_find_51 rfl ?_
          have e := Option.some.inj hf; subst e
          exact g_ri (pc := 53) C rfl (flM cI cS a m) dX6_find_53
  rw [M_find] at hf
  refine g_iload_n (pc := 0) C 1 dX6_find_0 rfl ?_
  refine g_iconst (pc := 1) C 0 dX6_find_1 (by decide) ?_
  refine g_bipush (pc := 2) C 25 dX6_find_2 (by decide) ?_
  obtain ⟨v4, h4, hf⟩ := Option.bind_eq_some_iff.mp hf
  refine g_callS' (pc := 4) hla C (c_X6_in l D cI cS x1 0 25 v4 h4) tb_X6_in m_744 m_X6_in_static m_ini_RX6 hd_X6_in (by decide) rfl rfl (Nat.le_of_ble_eq_true rfl) dX6_find_4 (seM_nil cI cS a m) (seM_nil cI cS a m).symm [.int v4] rfl ?_
  refine g_if_ne (pc := 7) C 12 dX6_find_7 (by decide) (fun (c7 : ¬ v4 = 0) => ?_) (fun (c7 : v4 = 0) => ?_)
  · have hf := k_neg c7 hf
    refine g_aload_n (pc := 12) C 0 dX6_find_12 rfl ?_
    obtain ⟨v13, h13, hf⟩ := Option.bind_eq_some_iff.mp hf
    refine g_callV' (pc := 13) hla C (c_X6_place l D cI cS a m v13 h13) gg_RX6_58 hd_X6_place (by decide) rfl rfl rfl rfl (Nat.le_of_ble_eq_true rfl) dX6_find_13 (seM_0 cI cS a m) (seM_0 cI cS a m).symm [.int v13] rfl ?_
    refine g_istore_n (pc := 16) C [(2, .int v13), (0, .ref a.1), (1, .int x1)] dX6_find_16 (by decide) rfl ?_
    refine g_iconst (pc := 17) C 1 dX6_find_17 (by decide) ?_
    refine g_istore_n (pc := 18) C [(3, .int 1), (2, .int v13), (0, .ref a.1), (1, .int x1)] dX6_find_18 (by decide) rfl ?_
    refine g_sub [2, 3, 1, 0] (lv' := [(0, .ref a.1), (1, .int x1), (2, .int v13), (3, .int 1)]) rfl ?_
    exact L19 1000 m x1 v13 1 hf
  · have hf := k_pos c7 hf
    refine g_iconst (pc := 10) C (-1) dX6_find_10 (by decide) ?_
    have e := Option.some.inj hf; subst e
    exact g_ri (pc := 11) C rfl (flM cI cS a m) dX6_find_11
set_option maxHeartbeats 4000000 in
set_option maxRecDepth 100000 in
theorem c_X6_undo (l : Launch) (D : va_G) (cI cS : ClassId) (a : aM) (m : MD) (out : Int32 × MD) (hf : M_undo m = some out) : kM l D (kTy cI cS) yX6_undo ct_X6_undo rm_X6_undo [.ref a.1] [wM cI cS a m] (kEq (some (.int out.1)) [wM cI cS a out.2]) := by
  refine k_methodE cX6_undo 2 (some .int) RX6 rfl [(0, .ref a.1)] rfl (by decide +kernel) (Nat.le_of_ble_eq_true rfl) (fun κ A hla C => ?_)
  refine g_chunks (flM cI cS a m).symm ?_
  have L22 : ∀ (fu : Nat) (m : MD) (x1 : Int32), M_undo_L22 fu m x1 = some out → kG κ D A 2 0 0 (kF κ D A (some (.int out.1)) [wM cI cS a out.2]) (csM cI cS a m) [(0, .ref a.1), (1, .int x1)] 22 [] := by
    intro fu; induction fu with
    | zero => intro m x1 hf; rw [M_undo_L22] at hf; cases hf
    | succ fu ih =>
      intro m x1 hf; rw [M_undo_L22] at hf
      refine g_iload_n (pc := 22) C 1 dX6_undo_22 rfl ?_
      refine g_sipush (pc := 23) C 218 dX6_undo_23 (by decide) ?_
      refine g_icmp_ge (pc := 26) C 56 dX6_undo_26 (by decide) (fun (c26 : 218 ≤ x1) => ?_) (fun (c26 : ¬ 218 ≤ x1) => ?_)
      · have hf := k_pos c26 hf
        refine g_aload_n (pc := 56) C 0 dX6_undo_56 rfl ?_
        refine gf_RX6_31 (pc := 57) C 0 rfl dX6_undo_57 ?_
        have e := Option.some.inj hf; subst e
        exact g_ri (pc := 60) C rfl (flM cI cS a m) dX6_undo_60
      · have hf := k_neg c26 hf
        refine g_aload_n (pc := 29) C 0 dX6_undo_29 rfl ?_
        refine gf_RX6_7 (pc := 30) C 0 rfl dX6_undo_30 ?_
        refine g_iload_n (pc := 33) C 1 dX6_undo_33 rfl ?_
        refine g_aload_n (pc := 34) C 0 dX6_undo_34 rfl ?_
        refine gf_RX6_16 (pc := 35) C 0 rfl dX6_undo_35 ?_
        refine g_sipush (pc := 38) C 218 dX6_undo_38 (by decide) ?_
        refine g_aload_n (pc := 41) C 0 dX6_undo_41 rfl ?_
        refine gf_RX6_31 (pc := 42) C 0 rfl dX6_undo_42 ?_
        refine g_imul (pc := 45) C dX6_undo_45 ?_
        refine g_iload_n (pc := 46) C 1 dX6_undo_46 rfl ?_
        refine g_iadd (pc := 47) C dX6_undo_47 ?_
        obtain ⟨g48, hf⟩ := k_guard hf
        refine g_iald (pc := 48) C 3 0 rfl rfl g48 dX6_undo_48 ?_
        obtain ⟨g49, hf⟩ := k_guard hf
        obtain ⟨u49, e49, hf⟩ := Option.bind_eq_some_iff.mp hf
        refine g_iastU (pc := 49) C 1 0 u49 (Option.some.inj e49) (csM cI cS a (u49, m.2.1, m.2.2.1, m.2.2.2.1, m.2.2.2.2.1, m.2.2.2.2.2.1, m.2.2.2.2.2.2.1, m.2.2.2.2.2.2.2.1, m.2.2.2.2.2.2.2.2.1, m.2.2.2.2.2.2.2.2.2.1, m.2.2.2.2.2.2.2.2.2.2.1, m.2.2.2.2.2.2.2.2.2.2.2)) rfl rfl g49 rfl dX6_undo_49 ?_
        refine g_iinc (pc := 50) C 1 (x1 + 1) [(1, .int (x1 + 1)), (0, .ref a.1)] dX6_undo_50 rfl (congrArg (HAdd.hAdd _) (by decide)) (by decide) rfl ?_
        refine g_goto (pc := 53) C 22 dX6_undo_53 (by decide) ?_
        refine g_sub [1, 0] (lv' := [(0, .ref a.1), (1, .int (x1 + 1))]) rfl ?_
        exact ih (u49, m.2.1, m.2.2.1, m.2.2.2.1, m.2.2.2.2.1, m.2.2.2.2.2.1, m.2.2.2.2.2.2.1, m.2.2.2.2.2.2.2.1, m.2.2.2.2.2.2.2.2.1, m.2.2.2.2.2.2.2.2.2.1, m.2.2.2.2.2.2.2.2.2.2.1, m.2.2.2.2.2.2.2.2.2.2.2) (x1 + 1) hf
  rw [M_undo] at hf
  refine g_aload_n (pc := 0) C 0 dX6_undo_0 rfl ?_
  refine gf_RX6_31 (pc := 1) C 0 rfl dX6_undo_1 ?_
  refine g_if_ne (pc := 4) C 10 dX6_undo_4 (by decide) (fun (c4 : ¬ m.2.2.2.1 = 0) => ?_) (fun (c4 : m.2.2.2.1 = 0) => ?_)
  · have hf := k_neg c4 hf
    refine g_aload_n (pc := 10) C 0 dX6_undo_10 rfl ?_
    refine g_dup (pc := 11) C dX6_undo_11 rfl ?_
    refine gf_RX6_31 (pc := 12) C 0 rfl dX6_undo_12 ?_
    refine g_iconst (pc := 15) C 1 dX6_undo_15 (by decide) ?_
    refine g_isub (pc := 16) C dX6_undo_16 ?_
    refine gp_RX6_31 (pc := 17) C 0 (cs' := csM cI cS a (m.1, m.2.1, m.2.2.1, (m.2.2.2.1 - 1), m.2.2.2.2.1, m.2.2.2.2.2.1, m.2.2.2.2.2.2.1, m.2.2.2.2.2.2.2.1, m.2.2.2.2.2.2.2.2.1, m.2.2.2.2.2.2.2.2.2.1, m.2.2.2.2.2.2.2.2.2.2.1, m.2.2.2.2.2.2.2.2.2.2.2)) rfl rfl dX6_undo_17 ?_
    refine g_iconst (pc := 20) C 0 dX6_undo_20 (by decide) ?_
    refine g_istore_n (pc := 21) C [(1, .int 0), (0, .ref a.1)] dX6_undo_21 (by decide) rfl ?_
    refine g_sub [1, 0] (lv' := [(0, .ref a.1), (1, .int 0)]) rfl ?_
    exact L22 1000 (m.1, m.2.1, m.2.2.1, (m.2.2.2.1 - 1), m.2.2.2.2.1, m.2.2.2.2.2.1, m.2.2.2.2.2.2.1, m.2.2.2.2.2.2.2.1, m.2.2.2.2.2.2.2.2.1, m.2.2.2.2.2.2.2.2.2.1, m.2.2.2.2.2.2.2.2.2.2.1, m.2.2.2.2.2.2.2.2.2.2.2) 0 hf
  · have hf := k_pos c4 hf
    refine g_bipush (pc := 7) C (-2) dX6_undo_7 (by decide) ?_
    have e := Option.some.inj hf; subst e
    exact g_ri (pc := 9) C rfl (flM cI cS a m) dX6_undo_9
set_option maxHeartbeats 4000000 in
set_option maxRecDepth 100000 in
theorem c_X6_type (l : Launch) (D : va_G) (cI cS : ClassId) (a : aM) (m : MD) (x1 : Int32) (out : Int32 × MD) (hf : M_type m x1 = some out) : kM l D (kTy cI cS) yX6_type ct_X6_type rm_X6_type [.ref a.1, .int x1] [wM cI cS a m] (kEq (some (.int out.1)) [wM cI cS a out.2]) := by
  refine k_methodE cX6_type 2 (some .int) RX6 rfl [(0, .ref a.1), (1, .int x1)] rfl (by decide +kernel) (Nat.le_of_ble_eq_true rfl) (fun κ A hla C => ?_)
  refine g_chunks (flM cI cS a m).symm ?_
  rw [M_type] at hf
  refine g_iload_n (pc := 0) C 1 dX6_type_0 rfl ?_
  refine g_bipush (pc := 1) C 32 dX6_type_1 (by decide) ?_
  refine g_bipush (pc := 3) C 126 dX6_type_3 (by decide) ?_
  obtain ⟨v5, h5, hf⟩ := Option.bind_eq_some_iff.mp hf
  refine g_callS' (pc := 5) hla C (c_X6_in l D cI cS x1 32 126 v5 h5) tb_X6_in m_744 m_X6_in_static m_ini_RX6 hd_X6_in (by decide) rfl rfl (Nat.le_of_ble_eq_true rfl) dX6_type_5 (seM_nil cI cS a m) (seM_nil cI cS a m).symm [.int v5] rfl ?_
  refine g_if_ne (pc := 8) C 13 dX6_type_8 (by decide) (fun (c8 : ¬ v5 = 0) => ?_) (fun (c8 : v5 = 0) => ?_)
  · have hf := k_neg c8 hf
    refine g_aload_n (pc := 13) C 0 dX6_type_13 rfl ?_
    refine gf_RX6_130 (pc := 14) C 0 rfl dX6_type_14 ?_
    refine g_bipush (pc := 17) C 120 dX6_type_17 (by decide) ?_
    refine g_icmp_ne (pc := 19) C 25 dX6_type_19 (by decide) (fun (c19 : ¬ m.2.2.2.2.2.2.1 = 120) => ?_) (fun (c19 : m.2.2.2.2.2.2.1 = 120) => ?_)
    · have hf := k_neg c19 hf
      refine g_aload_n (pc := 25) C 0 dX6_type_25 rfl ?_
      refine gf_RX6_22 (pc := 26) C 0 rfl dX6_type_26 ?_
      refine g_aload_n (pc := 29) C 0 dX6_type_29 rfl ?_
      refine gf_RX6_130 (pc := 30) C 0 rfl dX6_type_30 ?_
      refine g_iload_n (pc := 33) C 1 dX6_type_33 rfl ?_
      obtain ⟨g34, hf⟩ := k_guard hf
      obtain ⟨u34, e34, hf⟩ := Option.bind_eq_some_iff.mp hf
      refine g_iastU (pc := 34) C 5 0 u34 (Option.some.inj e34) (csM cI cS a (m.1, m.2.1, m.2.2.1, m.2.2.2.1, m.2.2.2.2.1, u34, m.2.2.2.2.2.2.1, m.2.2.2.2.2.2.2.1, m.2.2.2.2.2.2.2.2.1, m.2.2.2.2.2.2.2.2.2.1, m.2.2.2.2.2.2.2.2.2.2.1, m.2.2.2.2.2.2.2.2.2.2.2)) rfl rfl g34 rfl dX6_type_34 ?_
      refine g_aload_n (pc := 35) C 0 dX6_type_35 rfl ?_
      refine g_dup (pc := 36) C dX6_type_36 rfl ?_
      refine gf_RX6_130 (pc := 37) C 0 rfl dX6_type_37 ?_
      refine g_iconst (pc := 40) C 1 dX6_type_40 (by decide) ?_
      refine g_iadd (pc := 41) C dX6_type_41 ?_
      refine gp_RX6_130 (pc := 42) C 0 (cs' := csM cI cS a (m.1, m.2.1, m.2.2.1, m.2.2.2.1, m.2.2.2.2.1, u34, (m.2.2.2.2.2.2.1 + 1), m.2.2.2.2.2.2.2.1, m.2.2.2.2.2.2.2.2.1, m.2.2.2.2.2.2.2.2.2.1, m.2.2.2.2.2.2.2.2.2.2.1, m.2.2.2.2.2.2.2.2.2.2.2)) rfl rfl dX6_type_42 ?_
      refine g_aload_n (pc := 45) C 0 dX6_type_45 rfl ?_
      refine gf_RX6_130 (pc := 46) C 0 rfl dX6_type_46 ?_
      have e := Option.some.inj hf; subst e
      exact g_ri (pc := 49) C rfl (flM cI cS a (m.1, m.2.1, m.2.2.1, m.2.2.2.1, m.2.2.2.2.1, u34, (m.2.2.2.2.2.2.1 + 1), m.2.2.2.2.2.2.2.1, m.2.2.2.2.2.2.2.2.1, m.2.2.2.2.2.2.2.2.2.1, m.2.2.2.2.2.2.2.2.2.2.1, m.2.2.2.2.2.2.2.2.2.2.2)) dX6_type_49
    · have hf := k_pos c19 hf
      refine g_bipush (pc := 22) C (-3) dX6_type_22 (by decide) ?_
      have e := Option.some.inj hf; subst e
      exact g_ri (pc := 24) C rfl (flM cI cS a m) dX6_type_24
  · have hf := k_pos c8 hf
    refine g_iconst (pc := 11) C (-1) dX6_type_11 (by decide) ?_
    have e := Option.some.inj hf; subst e
    exact g_ri (pc := 12) C rfl (flM cI cS a m) dX6_type_12
set_option maxHeartbeats 4000000 in
set_option maxRecDepth 100000 in
theorem c_X6_clearText (l : Launch) (D : va_G) (cI cS : ClassId) (a : aM) (m : MD) (out : Int32 × MD) (hf : M_clearText m = some out) : kM l D (kTy cI cS) yX6_clearText ct_X6_clearText rm_X6_clearText [.ref a.1] [wM cI cS a m] (kEq (some (.int out.1)) [wM cI cS a out.2]) := by
  refine k_methodE cX6_clearText 2 (some .int) RX6 rfl [(0, .ref a.1)] rfl (by decide +kernel) (Nat.le_of_ble_eq_true rfl) (fun κ A hla C => ?_)
  refine g_chunks (flM cI cS a m).symm ?_
  rw [M_clearText] at hf
  refine g_aload_n (pc := 0) C 0 dX6_clearText_0 rfl ?_
  refine gf_RX6_130 (pc := 1) C 0 rfl dX6_clearText_1 ?_
  refine g_istore_n (pc := 4) C [(1, .int m.2.2.2.2.2.2.1), (0, .ref a.1)] dX6_clearText_4 (by decide) rfl ?_
  refine g_aload_n (pc := 5) C 1 dX6_clearText_5 rfl ?_
  refine g_iconst (pc := 6) C 0 dX6_clearText_6 (by decide) ?_
  refine gp_RX6_130 (pc := 7) C 0 (cs' := csM cI cS a (m.1, m.2.1, m.2.2.1, m.2.2.2.1, m.2.2.2.2.1, m.2.2.2.2.2.1, 0, m.2.2.2.2.2.2.2.1, m.2.2.2.2.2.2.2.2.1, m.2.2.2.2.2.2.2.2.2.1, m.2.2.2.2.2.2.2.2.2.2.1, m.2.2.2.2.2.2.2.2.2.2.2)) rfl rfl dX6_clearText_7 ?_
  refine g_iload_n (pc := 10) C 0 dX6_clearText_10 rfl ?_
  have e := Option.some.inj hf; subst e
  exact g_ri (pc := 11) C rfl (flM cI cS a (m.1, m.2.1, m.2.2.1, m.2.2.2.1, m.2.2.2.2.1, m.2.2.2.2.2.1, 0, m.2.2.2.2.2.2.2.1, m.2.2.2.2.2.2.2.2.1, m.2.2.2.2.2.2.2.2.2.1, m.2.2.2.2.2.2.2.2.2.2.1, m.2.2.2.2.2.2.2.2.2.2.2)) dX6_clearText_11
set_option maxHeartbeats 4000000 in
set_option maxRecDepth 100000 in
theorem c_X6_puts (l : Launch) (D : va_G) (cI cS : ClassId) (a : aM) (m : MD) (x1 : Int32) (out : MD) (hf : M_puts m x1 = some out) : kM l D (kTy cI cS) yX6_puts ct_X6_puts rm_X6_puts [.ref a.1, .int x1] [wM cI cS a m] (kEq (none) [wM cI cS a out]) := by
  refine k_methodE cX6_puts 2 none RX6 rfl [(0, .ref a.1), (1, .int x1)] rfl (by decide +kernel) (Nat.le_of_ble_eq_true rfl) (fun κ A hla C => ?_)
  refine g_chunks (flM cI cS a m).symm ?_
  rw [M_puts] at hf
  refine g_aload_n (pc := 0) C 0 dX6_puts_0 rfl ?_
  refine gf_RX6_22 (pc := 1) C 0 rfl dX6_puts_1 ?_
  refine g_aload_n (pc := 4) C 0 dX6_puts_4 rfl ?_
  refine gf_RX6_130 (pc := 5) C 0 rfl dX6_puts_5 ?_
  refine g_iload_n (pc := 8) C 1 dX6_puts_8 rfl ?_
  obtain ⟨g9, hf⟩ := k_guard hf
  obtain ⟨u9, e9, hf⟩ := Option.bind_eq_some_iff.mp hf
  refine g_iastU (pc := 9) C 5 0 u9 (Option.some.inj e9) (csM cI cS a (m.1, m.2.1, m.2.2.1, m.2.2.2.1, m.2.2.2.2.1, u9, m.2.2.2.2.2.2.1, m.2.2.2.2.2.2.2.1, m.2.2.2.2.2.2.2.2.1, m.2.2.2.2.2.2.2.2.2.1, m.2.2.2.2.2.2.2.2.2.2.1, m.2.2.2.2.2.2.2.2.2.2.2)) rfl rfl g9 rfl dX6_puts_9 ?_
  refine g_aload_n (pc := 10) C 0 dX6_puts_10 rfl ?_
  refine g_dup (pc := 11) C dX6_puts_11 rfl ?_
  refine gf_RX6_130 (pc := 12) C 0 rfl dX6_puts_12 ?_
  refine g_iconst (pc := 15) C 1 dX6_puts_15 (by decide) ?_
  refine g_iadd (pc := 16) C dX6_puts_16 ?_
  refine gp_RX6_130 (pc := 17) C 0 (cs' := csM cI cS a (m.1, m.2.1, m.2.2.1, m.2.2.2.1, m.2.2.2.2.1, u9, (m.2.2.2.2.2.2.1 + 1), m.2.2.2.2.2.2.2.1, m.2.2.2.2.2.2.2.2.1, m.2.2.2.2.2.2.2.2.2.1, m.2.2.2.2.2.2.2.2.2.2.1, m.2.2.2.2.2.2.2.2.2.2.2)) rfl rfl dX6_puts_17 ?_
  have e := Option.some.inj hf; subst e
  exact g_rv (pc := 20) C rfl (flM cI cS a (m.1, m.2.1, m.2.2.1, m.2.2.2.1, m.2.2.2.2.1, u9, (m.2.2.2.2.2.2.1 + 1), m.2.2.2.2.2.2.2.1, m.2.2.2.2.2.2.2.2.1, m.2.2.2.2.2.2.2.2.2.1, m.2.2.2.2.2.2.2.2.2.2.1, m.2.2.2.2.2.2.2.2.2.2.2)) dX6_puts_20
set_option maxHeartbeats 4000000 in
set_option maxRecDepth 100000 in
theorem c_X6_write (l : Launch) (D : va_G) (cI cS : ClassId) (a : aM) (m : MD) (out : Int32 × MD) (hf : M_write m = some out) : kM l D (kTy cI cS) yX6_write ct_X6_write rm_X6_write [.ref a.1] [wM cI cS a m] (kEq (some (.int out.1)) [wM cI cS a out.2]) := by
  refine k_methodE cX6_write 4 (some .int) RX6 rfl [(0, .ref a.1)] rfl (by decide +kernel) (Nat.le_of_ble_eq_true rfl) (fun κ A hla C => ?_)
  refine g_chunks (flM cI cS a m).symm ?_
  have L59 : ∀ (ou : MD × Int32 × Int32), kG κ D A 4 0 0 (kF κ D A (some (.int out.1)) [wM cI cS a out.2]) (csM cI cS a ou.1) [(0, .ref a.1), (1, .int ou.2.1), (2, .int ou.2.2)] 76 [] → ∀ (fu : Nat) (m : MD) (x1 : Int32) (x2 : Int32) (x3 : Int32), M_write_L59 fu m x1 x2 x3 = some ou → kG κ D A 4 0 0 (kF κ D A (some (.int out.1)) [wM cI cS a out.2]) (csM cI cS a m) [(0, .ref a.1), (1, .int x1), (2, .int x2), (3, .int x3)] 59 [] := by
    intro ou hk fu; induction fu with
    | zero => intro m x1 x2 x3 hf; rw [M_write_L59] at hf; cases hf
    | succ fu ih =>
      intro m x1 x2 x3 hf; rw [M_write_L59] at hf
      refine g_iload_n (pc := 59) C 3 dX6_write_59 rfl ?_
      refine g_iload_n (pc := 60) C 2 dX6_write_60 rfl ?_
      refine g_icmp_le (pc := 61) C 76 dX6_write_61 (by decide) (fun (c61 : x3 ≤ x2) => ?_) (fun (c61 : ¬ x3 ≤ x2) => ?_)
      · have hf := k_pos c61 hf
        have e := Option.some.inj hf; subst e
        refine g_sub [0, 1, 2] (lv' := [(0, .ref a.1), (1, .int x1), (2, .int x2)]) rfl ?_
        exact hk
      · have hf := k_neg c61 hf
        refine g_aload_n (pc := 64) C 0 dX6_write_64 rfl ?_
        refine g_bipush (pc := 65) C 41 dX6_write_65 (by decide) ?_
        obtain ⟨v67, h67, hf⟩ := Option.bind_eq_some_iff.mp hf
        refine g_callV' (pc := 67) hla C (c_X6_puts l D cI cS a m 41 v67 h67) gg_RX6_140 hd_X6_puts (by decide) rfl rfl rfl rfl (Nat.le_of_ble_eq_true rfl) dX6_write_67 (seM_0 cI cS a m) (seM_0 cI cS a v67).symm [] rfl ?_
        refine g_iinc (pc := 70) C 3 (x3 + (-1)) [(3, .int (x3 + (-1))), (0, .ref a.1), (1, .int x1), (2, .int x2)] dX6_write_70 rfl (congrArg (HAdd.hAdd _) (by decide)) (by decide) rfl ?_
        refine g_goto (pc := 73) C 59 dX6_write_73 (by decide) ?_
        refine g_sub [1, 2, 3, 0] (lv' := [(0, .ref a.1), (1, .int x1), (2, .int x2), (3, .int (x3 + (-1)))]) rfl ?_
        exact ih v67 x1 x2 (x3 + (-1)) hf
  have L7 : ∀ (fu : Nat) (m : MD) (x1 : Int32), M_write_L7 fu m x1 = some out → kG κ D A 4 0 0 (kF κ D A (some (.int out.1)) [wM cI cS a out.2]) (csM cI cS a m) [(0, .ref a.1), (1, .int x1)] 7 [] := by
    intro fu; induction fu with
    | zero => intro m x1 hf; rw [M_write_L7] at hf; cases hf
    | succ fu ih =>
      intro m x1 hf; rw [M_write_L7] at hf
      refine g_iload_n (pc := 7) C 1 dX6_write_7 rfl ?_
      refine g_aload_n (pc := 8) C 0 dX6_write_8 rfl ?_
      refine gf_RX6_7 (pc := 9) C 0 rfl dX6_write_9 ?_
      refine g_iconst (pc := 12) C 0 dX6_write_12 (by decide) ?_
      refine g_iald (pc := 13) C 1 0 rfl rfl (by decide) dX6_write_13 ?_
      refine g_icmp_ge (pc := 14) C 118 dX6_write_14 (by decide) (fun (c14 : (m.1 (ix 0)) ≤ x1) => ?_) (fun (c14 : ¬ (m.1 (ix 0)) ≤ x1) => ?_)
      · have hf := k_pos c14 hf
        refine g_aload_n (pc := 118) C 0 dX6_write_118 rfl ?_
        refine gf_RX6_130 (pc := 119) C 0 rfl dX6_write_119 ?_
        have e := Option.some.inj hf; subst e
        exact g_ri (pc := 122) C rfl (flM cI cS a m) dX6_write_122
      · have hf := k_neg c14 hf
        refine g_aload_n (pc := 17) C 0 dX6_write_17 rfl ?_
        refine g_bipush (pc := 18) C 97 dX6_write_18 (by decide) ?_
        refine g_aload_n (pc := 20) C 0 dX6_write_20 rfl ?_
        refine g_iload_n (pc := 21) C 1 dX6_write_21 rfl ?_
        obtain ⟨v22, h22, hf⟩ := Option.bind_eq_some_iff.mp hf
        refine g_callV' (pc := 22) hla C (c_X6_sign l D cI cS a m x1 v22 h22) gg_RX6_83 hd_X6_sign (by decide) rfl rfl rfl rfl (Nat.le_of_ble_eq_true rfl) dX6_write_22 (seM_0 cI cS a m) (seM_0 cI cS a m).symm [.int v22, .int 97, .ref a.1] rfl ?_
        refine g_iadd (pc := 25) C dX6_write_25 ?_
        obtain ⟨v26, h26, hf⟩ := Option.bind_eq_some_iff.mp hf
        refine g_callV' (pc := 26) hla C (c_X6_puts l D cI cS a m (97 + v22) v26 h26) gg_RX6_140 hd_X6_puts (by decide) rfl rfl rfl rfl (Nat.le_of_ble_eq_true rfl) dX6_write_26 (seM_0 cI cS a m) (seM_0 cI cS a v26).symm [] rfl ?_
        refine g_iload_n (pc := 29) C 1 dX6_write_29 rfl ?_
        refine g_iconst (pc := 30) C 1 dX6_write_30 (by decide) ?_
        refine g_iadd (pc := 31) C dX6_write_31 ?_
        refine g_aload_n (pc := 32) C 0 dX6_write_32 rfl ?_
        refine gf_RX6_7 (pc := 33) C 0 rfl dX6_write_33 ?_
        refine g_iconst (pc := 36) C 0 dX6_write_36 (by decide) ?_
        refine g_iald (pc := 37) C 1 0 rfl rfl (by decide) dX6_write_37 ?_
        refine g_icmp_ge (pc := 38) C 51 dX6_write_38 (by decide) (fun (c38 : (v26.1 (ix 0)) ≤ (x1 + 1)) => ?_) (fun (c38 : ¬ (v26.1 (ix 0)) ≤ (x1 + 1)) => ?_)
        · have hf := k_pos c38 hf
          refine g_iconst (pc := 51) C 0 dX6_write_51 (by decide) ?_
          refine g_istore_n (pc := 52) C [(2, .int 0), (0, .ref a.1), (1, .int x1)] dX6_write_52 (by decide) rfl ?_
          refine g_aload_n (pc := 53) C 1 dX6_write_53 rfl ?_
          refine g_iload_n (pc := 54) C 2 dX6_write_54 rfl ?_
          obtain ⟨v55, h55, hf⟩ := Option.bind_eq_some_iff.mp hf
          refine g_callV' (pc := 55) hla C (c_X6_deep l D cI cS a v26 x1 v55 h55) gg_RX6_46 hd_X6_deep (by decide) rfl rfl rfl rfl (Nat.le_of_ble_eq_true rfl) dX6_write_55 (seM_0 cI cS a v26) (seM_0 cI cS a v26).symm [.int v55] rfl ?_
          refine g_istore_n (pc := 58) C [(3, .int v55), (2, .int 0), (0, .ref a.1), (1, .int x1)] dX6_write_58 (by decide) rfl ?_
          refine g_sub [2, 3, 1, 0] (lv' := [(0, .ref a.1), (1, .int x1), (2, .int 0), (3, .int v55)]) rfl ?_
          obtain ⟨e59, he59, hf⟩ := Option.bind_eq_some_iff.mp hf
          refine L59 e59 ?_ 1000 v26 x1 0 v55 he59
          refine g_iload_n (pc := 76) C 2 dX6_write_76 rfl ?_
          refine g_aload_n (pc := 77) C 0 dX6_write_77 rfl ?_
          refine g_iload_n (pc := 78) C 1 dX6_write_78 rfl ?_
          obtain ⟨v79, h79, hf⟩ := Option.bind_eq_some_iff.mp hf
          refine g_callV' (pc := 79) hla C (c_X6_deep l D cI cS a e59.1 e59.2.1 v79 h79) gg_RX6_46 hd_X6_deep (by decide) rfl rfl rfl rfl (Nat.le_of_ble_eq_true rfl) dX6_write_79 (seM_0 cI cS a e59.1) (seM_0 cI cS a e59.1).symm [.int v79, .int e59.2.2] rfl ?_
          refine g_icmp_le (pc := 82) C 94 dX6_write_82 (by decide) (fun (c82 : e59.2.2 ≤ v79) => ?_) (fun (c82 : ¬ e59.2.2 ≤ v79) => ?_)
          · have hf := k_pos c82 hf
            refine g_iload_n (pc := 94) C 1 dX6_write_94 rfl ?_
            refine g_iconst (pc := 95) C 1 dX6_write_95 (by decide) ?_
            refine g_iadd (pc := 96) C dX6_write_96 ?_
            refine g_aload_n (pc := 97) C 0 dX6_write_97 rfl ?_
            refine gf_RX6_7 (pc := 98) C 0 rfl dX6_write_98 ?_
            refine g_iconst (pc := 101) C 0 dX6_write_101 (by decide) ?_
            refine g_iald (pc := 102) C 1 0 rfl rfl (by decide) dX6_write_102 ?_
            refine g_icmp_ge (pc := 103) C 112 dX6_write_103 (by decide) (fun (c103 : (e59.1.1 (ix 0)) ≤ (e59.2.1 + 1)) => ?_) (fun (c103 : ¬ (e59.1.1 (ix 0)) ≤ (e59.2.1 + 1)) => ?_)
            · have hf := k_pos c103 hf
              refine g_iinc (pc := 112) C 1 (e59.2.1 + 1) [(1, .int (e59.2.1 + 1)), (0, .ref a.1), (2, .int e59.2.2)] dX6_write_112 rfl (congrArg (HAdd.hAdd _) (by decide)) (by decide) rfl ?_
              refine g_goto (pc := 115) C 7 dX6_write_115 (by decide) ?_
              refine g_sub [1, 0] (lv' := [(0, .ref a.1), (1, .int (e59.2.1 + 1))]) rfl ?_
              exact ih e59.1 (e59.2.1 + 1) hf
            · have hf := k_neg c103 hf
              refine g_aload_n (pc := 106) C 0 dX6_write_106 rfl ?_
              refine g_bipush (pc := 107) C 44 dX6_write_107 (by decide) ?_
              obtain ⟨v109, h109, hf⟩ := Option.bind_eq_some_iff.mp hf
              refine g_callV' (pc := 109) hla C (c_X6_puts l D cI cS a e59.1 44 v109 h109) gg_RX6_140 hd_X6_puts (by decide) rfl rfl rfl rfl (Nat.le_of_ble_eq_true rfl) dX6_write_109 (seM_0 cI cS a e59.1) (seM_0 cI cS a v109).symm [] rfl ?_
              refine g_iinc (pc := 112) C 1 (e59.2.1 + 1) [(1, .int (e59.2.1 + 1)), (0, .ref a.1), (2, .int e59.2.2)] dX6_write_112 rfl (congrArg (HAdd.hAdd _) (by decide)) (by decide) rfl ?_
              refine g_goto (pc := 115) C 7 dX6_write_115 (by decide) ?_
              refine g_sub [1, 0] (lv' := [(0, .ref a.1), (1, .int (e59.2.1 + 1))]) rfl ?_
              exact ih v109 (e59.2.1 + 1) hf
          · have hf := k_neg c82 hf
            refine g_aload_n (pc := 85) C 0 dX6_write_85 rfl ?_
            refine g_bipush (pc := 86) C 40 dX6_write_86 (by decide) ?_
            obtain ⟨v88, h88, hf⟩ := Option.bind_eq_some_iff.mp hf
            refine g_callV' (pc := 88) hla C (c_X6_puts l D cI cS a e59.1 40 v88 h88) gg_RX6_140 hd_X6_puts (by decide) rfl rfl rfl rfl (Nat.le_of_ble_eq_true rfl) dX6_write_88 (seM_0 cI cS a e59.1) (seM_0 cI cS a v88).symm [] rfl ?_
            refine g_goto (pc := 91) C 112 dX6_write_91 (by decide) ?_
            refine g_iinc (pc := 112) C 1 (e59.2.1 + 1) [(1, .int (e59.2.1 + 1)), (0, .ref a.1), (2, .int e59.2.2)] dX6_write_112 rfl (congrArg (HAdd.hAdd _) (by decide)) (by decide) rfl ?_
            refine g_goto (pc := 115) C 7 dX6_write_115 (by decide) ?_
            refine g_sub [1, 0] (lv' := [(0, .ref a.1), (1, .int (e59.2.1 + 1))]) rfl ?_
            exact ih v88 (e59.2.1 + 1) hf
        · have hf := k_neg c38 hf
          refine g_aload_n (pc := 41) C 0 dX6_write_41 rfl ?_
          refine g_iload_n (pc := 42) C 1 dX6_write_42 rfl ?_
          refine g_iconst (pc := 43) C 1 dX6_write_43 (by decide) ?_
          refine g_iadd (pc := 44) C dX6_write_44 ?_
          obtain ⟨v45, h45, hf⟩ := Option.bind_eq_some_iff.mp hf
          refine g_callV' (pc := 45) hla C (c_X6_deep l D cI cS a v26 (x1 + 1) v45 h45) gg_RX6_46 hd_X6_deep (by decide) rfl rfl rfl rfl (Nat.le_of_ble_eq_true rfl) dX6_write_45 (seM_0 cI cS a v26) (seM_0 cI cS a v26).symm [.int v45] rfl ?_
          refine g_goto (pc := 48) C 52 dX6_write_48 (by decide) ?_
          refine g_istore_n (pc := 52) C [(2, .int v45), (0, .ref a.1), (1, .int x1)] dX6_write_52 (by decide) rfl ?_
          refine g_aload_n (pc := 53) C 1 dX6_write_53 rfl ?_
          refine g_iload_n (pc := 54) C 2 dX6_write_54 rfl ?_
          obtain ⟨v55, h55, hf⟩ := Option.bind_eq_some_iff.mp hf
          refine g_callV' (pc := 55) hla C (c_X6_deep l D cI cS a v26 x1 v55 h55) gg_RX6_46 hd_X6_deep (by decide) rfl rfl rfl rfl (Nat.le_of_ble_eq_true rfl) dX6_write_55 (seM_0 cI cS a v26) (seM_0 cI cS a v26).symm [.int v55] rfl ?_
          refine g_istore_n (pc := 58) C [(3, .int v55), (2, .int v45), (0, .ref a.1), (1, .int x1)] dX6_write_58 (by decide) rfl ?_
          refine g_sub [2, 3, 1, 0] (lv' := [(0, .ref a.1), (1, .int x1), (2, .int v45), (3, .int v55)]) rfl ?_
          obtain ⟨e59, he59, hf⟩ := Option.bind_eq_some_iff.mp hf
          refine L59 e59 ?_ 1000 v26 x1 v45 v55 he59
          refine g_iload_n (pc := 76) C 2 dX6_write_76 rfl ?_
          refine g_aload_n (pc := 77) C 0 dX6_write_77 rfl ?_
          refine g_iload_n (pc := 78) C 1 dX6_write_78 rfl ?_
          obtain ⟨v79, h79, hf⟩ := Option.bind_eq_some_iff.mp hf
          refine g_callV' (pc := 79) hla C (c_X6_deep l D cI cS a e59.1 e59.2.1 v79 h79) gg_RX6_46 hd_X6_deep (by decide) rfl rfl rfl rfl (Nat.le_of_ble_eq_true rfl) dX6_write_79 (seM_0 cI cS a e59.1) (seM_0 cI cS a e59.1).symm [.int v79, .int e59.2.2] rfl ?_
          refine g_icmp_le (pc := 82) C 94 dX6_write_82 (by decide) (fun (c82 : e59.2.2 ≤ v79) => ?_) (fun (c82 : ¬ e59.2.2 ≤ v79) => ?_)
          · have hf := k_pos c82 hf
            refine g_iload_n (pc := 94) C 1 dX6_write_94 rfl ?_
            refine g_iconst (pc := 95) C 1 dX6_write_95 (by decide) ?_
            refine g_iadd (pc := 96) C dX6_write_96 ?_
            refine g_aload_n (pc := 97) C 0 dX6_write_97 rfl ?_
            refine gf_RX6_7 (pc := 98) C 0 rfl dX6_write_98 ?_
            refine g_iconst (pc := 101) C 0 dX6_write_101 (by decide) ?_
            refine g_iald (pc := 102) C 1 0 rfl rfl (by decide) dX6_write_102 ?_
            refine g_icmp_ge (pc := 103) C 112 dX6_write_103 (by decide) (fun (c103 : (e59.1.1 (ix 0)) ≤ (e59.2.1 + 1)) => ?_) (fun (c103 : ¬ (e59.1.1 (ix 0)) ≤ (e59.2.1 + 1)) => ?_)
            · have hf := k_pos c103 hf
              refine g_iinc (pc := 112) C 1 (e59.2.1 + 1) [(1, .int (e59.2.1 + 1)), (0, .ref a.1), (2, .int e59.2.2)] dX6_write_112 rfl (congrArg (HAdd.hAdd _) (by decide)) (by decide) rfl ?_
              refine g_goto (pc := 115) C 7 dX6_write_115 (by decide) ?_
              refine g_sub [1, 0] (lv' := [(0, .ref a.1), (1, .int (e59.2.1 + 1))]) rfl ?_
              exact ih e59.1 (e59.2.1 + 1) hf
            · have hf := k_neg c103 hf
              refine g_aload_n (pc := 106) C 0 dX6_write_106 rfl ?_
              refine g_bipush (pc := 107) C 44 dX6_write_107 (by decide) ?_
              obtain ⟨v109, h109, hf⟩ := Option.bind_eq_some_iff.mp hf
              refine g_callV' (pc := 109) hla C (c_X6_puts l D cI cS a e59.1 44 v109 h109) gg_RX6_140 hd_X6_puts (by decide) rfl rfl rfl rfl (Nat.le_of_ble_eq_true rfl) dX6_write_109 (seM_0 cI cS a e59.1) (seM_0 cI cS a v109).symm [] rfl ?_
              refine g_iinc (pc := 112) C 1 (e59.2.1 + 1) [(1, .int (e59.2.1 + 1)), (0, .ref a.1), (2, .int e59.2.2)] dX6_write_112 rfl (congrArg (HAdd.hAdd _) (by decide)) (by decide) rfl ?_
              refine g_goto (pc := 115) C 7 dX6_write_115 (by decide) ?_
              refine g_sub [1, 0] (lv' := [(0, .ref a.1), (1, .int (e59.2.1 + 1))]) rfl ?_
              exact ih v109 (e59.2.1 + 1) hf
          · have hf := k_neg c82 hf
            refine g_aload_n (pc := 85) C 0 dX6_write_85 rfl ?_
            refine g_bipush (pc := 86) C 40 dX6_write_86 (by decide) ?_
            obtain ⟨v88, h88, hf⟩ := Option.bind_eq_some_iff.mp hf
            refine g_callV' (pc := 88) hla C (c_X6_puts l D cI cS a e59.1 40 v88 h88) gg_RX6_140 hd_X6_puts (by decide) rfl rfl rfl rfl (Nat.le_of_ble_eq_true rfl) dX6_write_88 (seM_0 cI cS a e59.1) (seM_0 cI cS a v88).symm [] rfl ?_
            refine g_goto (pc := 91) C 112 dX6_write_91 (by decide) ?_
            refine g_iinc (pc := 112) C 1 (e59.2.1 + 1) [(1, .int (e59.2.1 + 1)), (0, .ref a.1), (2, .int e59.2.2)] dX6_write_112 rfl (congrArg (HAdd.hAdd _) (by decide)) (by decide) rfl ?_
            refine g_goto (pc := 115) C 7 dX6_write_115 (by decide) ?_
            refine g_sub [1, 0] (lv' := [(0, .ref a.1), (1, .int (e59.2.1 + 1))]) rfl ?_
            exact ih v88 (e59.2.1 + 1) hf
  rw [M_write] at hf
  refine g_aload_n (pc := 0) C 0 dX6_write_0 rfl ?_
  refine g_iconst (pc := 1) C 0 dX6_write_1 (by decide) ?_
  refine gp_RX6_130 (pc := 2) C 0 (cs' := csM cI cS a (m.1, m.2.1, m.2.2.1, m.2.2.2.1, m.2.2.2.2.1, m.2.2.2.2.2.1, 0, m.2.2.2.2.2.2.2.1, m.2.2.2.2.2.2.2.2.1, m.2.2.2.2.2.2.2.2.2.1, m.2.2.2.2.2.2.2.2.2.2.1, m.2.2.2.2.2.2.2.2.2.2.2)) rfl rfl dX6_write_2 ?_
  refine g_iconst (pc := 5) C 0 dX6_write_5 (by decide) ?_
  refine g_istore_n (pc := 6) C [(1, .int 0), (0, .ref a.1)] dX6_write_6 (by decide) rfl ?_
  refine g_sub [1, 0] (lv' := [(0, .ref a.1), (1, .int 0)]) rfl ?_
  exact L7 1000 (m.1, m.2.1, m.2.2.1, m.2.2.2.1, m.2.2.2.2.1, m.2.2.2.2.2.1, 0, m.2.2.2.2.2.2.2.1, m.2.2.2.2.2.2.2.2.1, m.2.2.2.2.2.2.2.2.2.1, m.2.2.2.2.2.2.2.2.2.2.1, m.2.2.2.2.2.2.2.2.2.2.2) 0 hf
set_option maxHeartbeats 4000000 in
set_option maxRecDepth 100000 in
theorem c_X6_breaks (l : Launch) (D : va_G) (cI cS : ClassId) (a : aM) (m : MD) (x1 : Int32) (x2 : Int32) (out : Int32 × MD) (hf : M_breaks m x1 x2 = some out) : kM l D (kTy cI cS) yX6_breaks ct_X6_breaks rm_X6_breaks [.ref a.1, .int x1, .int x2] [wM cI cS a m] (kEq (some (.int out.1)) [wM cI cS a out.2]) := by
  refine k_methodE cX6_breaks 3 (some .boolean) RX6 rfl [(0, .ref a.1), (1, .int x1), (2, .int x2)] rfl (by decide +kernel) (Nat.le_of_ble_eq_true rfl) (fun κ A hla C => ?_)
  refine g_chunks (flM cI cS a m).symm ?_
  rw [M_breaks] at hf
  refine g_aload_n (pc := 0) C 0 dX6_breaks_0 rfl ?_
  refine g_iload_n (pc := 1) C 1 dX6_breaks_1 rfl ?_
  refine gp_RX6_144 (pc := 2) C 0 (cs' := csM cI cS a (m.1, m.2.1, m.2.2.1, m.2.2.2.1, m.2.2.2.2.1, m.2.2.2.2.2.1, m.2.2.2.2.2.2.1, x1, m.2.2.2.2.2.2.2.2.1, m.2.2.2.2.2.2.2.2.2.1, m.2.2.2.2.2.2.2.2.2.2.1, m.2.2.2.2.2.2.2.2.2.2.2)) rfl rfl dX6_breaks_2 ?_
  refine g_aload_n (pc := 5) C 0 dX6_breaks_5 rfl ?_
  refine g_iload_n (pc := 6) C 2 dX6_breaks_6 rfl ?_
  refine gp_RX6_147 (pc := 7) C 0 (cs' := csM cI cS a (m.1, m.2.1, m.2.2.1, m.2.2.2.1, m.2.2.2.2.1, m.2.2.2.2.2.1, m.2.2.2.2.2.2.1, x1, x2, m.2.2.2.2.2.2.2.2.2.1, m.2.2.2.2.2.2.2.2.2.2.1, m.2.2.2.2.2.2.2.2.2.2.2)) rfl rfl dX6_breaks_7 ?_
  refine g_iconst (pc := 10) C 0 dX6_breaks_10 (by decide) ?_
  have e := Option.some.inj hf; subst e
  exact g_rz (pc := 11) C rfl (Or.inl rfl) (flM cI cS a (m.1, m.2.1, m.2.2.1, m.2.2.2.1, m.2.2.2.2.1, m.2.2.2.2.2.1, m.2.2.2.2.2.2.1, x1, x2, m.2.2.2.2.2.2.2.2.2.1, m.2.2.2.2.2.2.2.2.2.2.1, m.2.2.2.2.2.2.2.2.2.2.2)) dX6_breaks_11
