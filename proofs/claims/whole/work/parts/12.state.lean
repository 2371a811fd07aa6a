set_option maxHeartbeats 4000000 in
set_option maxRecDepth 100000 in
theorem c_X3_takeFrom (l : Launch) (D : va_G) (cI cS : ClassId) (a : aS) (s : ST) (b : aS) (s' : ST) (out : ST) (hf : S_takeFrom s s' = some out) : kM l D (kTy cI cS) yX3_takeFrom ct_X3_takeFrom rm_X3_takeFrom [.ref a.1, .ref b.1] [wS cI cS a s, wS cI cS b s'] (kEq (none) [wS cI cS a out, wS cI cS b s']) := by
  refine k_methodE cX3_takeFrom 2 none RX3 rfl [(0, .ref a.1), (1, .ref b.1)] rfl (by decide +kernel) (Nat.le_of_ble_eq_true rfl) (fun κ A hla C => ?_)
  refine g_chunks (flSSx cI cS a s b s').symm ?_
  rw [S_takeFrom] at hf
  refine g_aload_n (pc := 0) C 0 dX3_takeFrom_0 rfl ?_
  refine gf_RX3_12 (pc := 1) C 0 rfl dX3_takeFrom_1 ?_
  refine g_aload_n (pc := 4) C 1 dX3_takeFrom_4 rfl ?_
  refine gf_RX3_12 (pc := 5) C 6 rfl dX3_takeFrom_5 ?_
  obtain ⟨v8, h8, hf⟩ := Option.bind_eq_some_iff.mp hf
  refine g_callV' (pc := 8) hla C (c_X4_takeFrom l D cI cS a.2.1 s.1 b.2.1 s'.1 v8 h8) gg_RX3_39 hd_X4_takeFrom (by decide) rfl rfl rfl rfl (Nat.le_of_ble_eq_true rfl) dX3_takeFrom_8 (seSSx_0tree_1tree cI cS a s b s') (seSSx_0tree_1tree cI cS a (v8, s.2.1, s.2.2.1, s.2.2.2.1, s.2.2.2.2.1, s.2.2.2.2.2.1, s.2.2.2.2.2.2) b s').symm [] rfl ?_
  refine g_aload_n (pc := 11) C 0 dX3_takeFrom_11 rfl ?_
  refine gf_RX3_18 (pc := 12) C 0 rfl dX3_takeFrom_12 ?_
  refine g_aload_n (pc := 15) C 1 dX3_takeFrom_15 rfl ?_
  refine gf_RX3_18 (pc := 16) C 6 rfl dX3_takeFrom_16 ?_
  obtain ⟨v19, h19, hf⟩ := Option.bind_eq_some_iff.mp hf
  refine g_callV' (pc := 19) hla C (c_X4_takeFrom l D cI cS a.2.2.1 s.2.1 b.2.2.1 s'.2.1 v19 h19) gg_RX3_39 hd_X4_takeFrom (by decide) rfl rfl rfl rfl (Nat.le_of_ble_eq_true rfl) dX3_takeFrom_19 (seSSx_0clip_1clip cI cS a (v8, s.2.1, s.2.2.1, s.2.2.2.1, s.2.2.2.2.1, s.2.2.2.2.2.1, s.2.2.2.2.2.2) b s') (seSSx_0clip_1clip cI cS a (v8, v19, s.2.2.1, s.2.2.2.1, s.2.2.2.2.1, s.2.2.2.2.2.1, s.2.2.2.2.2.2) b s').symm [] rfl ?_
  refine g_aload_n (pc := 22) C 0 dX3_takeFrom_22 rfl ?_
  refine gf_RX3_26 (pc := 23) C 0 rfl dX3_takeFrom_23 ?_
  refine g_aload_n (pc := 26) C 1 dX3_takeFrom_26 rfl ?_
  refine gf_RX3_26 (pc := 27) C 6 rfl dX3_takeFrom_27 ?_
  obtain ⟨v30, h30, hf⟩ := Option.bind_eq_some_iff.mp hf
  refine g_callV' (pc := 30) hla C (c_X1_takeFrom l D cI cS a.2.2.2.1 40 s.2.2.1 b.2.2.2.1 40 s'.2.2.1 v30 h30) gg_RX3_43 hd_X1_takeFrom (by decide) rfl rfl rfl rfl (Nat.le_of_ble_eq_true rfl) dX3_takeFrom_30 (seSSx_0keys_1keys cI cS a (v8, v19, s.2.2.1, s.2.2.2.1, s.2.2.2.2.1, s.2.2.2.2.2.1, s.2.2.2.2.2.2) b s') (seSSx_0keys_1keys cI cS a (v8, v19, v30, s.2.2.2.1, s.2.2.2.2.1, s.2.2.2.2.2.1, s.2.2.2.2.2.2) b s').symm [] rfl ?_
  refine g_aload_n (pc := 33) C 0 dX3_takeFrom_33 rfl ?_
  refine gf_RX3_30 (pc := 34) C 0 rfl dX3_takeFrom_34 ?_
  refine g_aload_n (pc := 37) C 1 dX3_takeFrom_37 rfl ?_
  refine gf_RX3_30 (pc := 38) C 6 rfl dX3_takeFrom_38 ?_
  obtain ⟨v41, h41, hf⟩ := Option.bind_eq_some_iff.mp hf
  refine g_callV' (pc := 41) hla C (c_X1_takeFrom l D cI cS a.2.2.2.2.1 8 s.2.2.2.1 b.2.2.2.2.1 8 s'.2.2.2.1 v41 h41) gg_RX3_43 hd_X1_takeFrom (by decide) rfl rfl rfl rfl (Nat.le_of_ble_eq_true rfl) dX3_takeFrom_41 (seSSx_0walks_1walks cI cS a (v8, v19, v30, s.2.2.2.1, s.2.2.2.2.1, s.2.2.2.2.2.1, s.2.2.2.2.2.2) b s') (seSSx_0walks_1walks cI cS a (v8, v19, v30, v41, s.2.2.2.2.1, s.2.2.2.2.2.1, s.2.2.2.2.2.2) b s').symm [] rfl ?_
  refine g_aload_n (pc := 44) C 0 dX3_takeFrom_44 rfl ?_
  refine gf_RX3_33 (pc := 45) C 0 rfl dX3_takeFrom_45 ?_
  refine g_aload_n (pc := 48) C 1 dX3_takeFrom_48 rfl ?_
  refine gf_RX3_33 (pc := 49) C 6 rfl dX3_takeFrom_49 ?_
  obtain ⟨v52, h52, hf⟩ := Option.bind_eq_some_iff.mp hf
  refine g_callV' (pc := 52) hla C (c_X1_takeFrom l D cI cS a.2.2.2.2.2 4 s.2.2.2.2.1 b.2.2.2.2.2 4 s'.2.2.2.2.1 v52 h52) gg_RX3_43 hd_X1_takeFrom (by decide) rfl rfl rfl rfl (Nat.le_of_ble_eq_true rfl) dX3_takeFrom_52 (seSSx_0marks_1marks cI cS a (v8, v19, v30, v41, s.2.2.2.2.1, s.2.2.2.2.2.1, s.2.2.2.2.2.2) b s') (seSSx_0marks_1marks cI cS a (v8, v19, v30, v41, v52, s.2.2.2.2.2.1, s.2.2.2.2.2.2) b s').symm [] rfl ?_
  refine g_aload_n (pc := 55) C 0 dX3_takeFrom_55 rfl ?_
  refine g_aload_n (pc := 56) C 1 dX3_takeFrom_56 rfl ?_
  refine gf_RX3_46 (pc := 57) C 6 rfl dX3_takeFrom_57 ?_
  refine gp_RX3_46 (pc := 60) C 0 (cs' := csSSx cI cS a (v8, v19, v30, v41, v52, s'.2.2.2.2.2.1, s.2.2.2.2.2.2) b s') rfl rfl dX3_takeFrom_60 ?_
  refine g_aload_n (pc := 63) C 0 dX3_takeFrom_63 rfl ?_
  refine g_aload_n (pc := 64) C 1 dX3_takeFrom_64 rfl ?_
  refine gf_RX3_50 (pc := 65) C 6 rfl dX3_takeFrom_65 ?_
  refine gp_RX3_50 (pc := 68) C 0 (cs' := csSSx cI cS a (v8, v19, v30, v41, v52, s'.2.2.2.2.2.1, s'.2.2.2.2.2.2) b s') rfl rfl dX3_takeFrom_68 ?_
  have e := Option.some.inj hf; subst e
  exact g_rv (pc := 71) C rfl (flSSx cI cS a (v8, v19, v30, v41, v52, s'.2.2.2.2.2.1, s'.2.2.2.2.2.2) b s') dX3_takeFrom_71
set_option maxHeartbeats 4000000 in
set_option maxRecDepth 100000 in
theorem c_X3_walkTo (l : Launch) (D : va_G) (cI cS : ClassId) (a : aS) (s : ST) (x1 : Int32) (out : ST) (hf : S_walkTo s x1 = some out) : kM l D (kTy cI cS) yX3_walkTo ct_X3_walkTo rm_X3_walkTo [.ref a.1, .int x1] [wS cI cS a s] (kEq (none) [wS cI cS a out]) := by
  refine k_methodE cX3_walkTo 2 none RX3 rfl [(0, .ref a.1), (1, .int x1)] rfl (by decide +kernel) (Nat.le_of_ble_eq_true rfl) (fun κ A hla C => ?_)
  refine g_chunks (flS cI cS a s).symm ?_
  have J30 : ∀ (s : ST) (x1 : Int32), S_walkTo_J30 s x1 = some out → kG κ D A 2 0 0 (kF κ D A (none) [wS cI cS a out]) (csS cI cS a s) [(0, .ref a.1), (1, .int x1)] 30 [] := by
    intro s x1 hf; rw [S_walkTo_J30] at hf
    refine g_aload_n (pc := 30) C 0 dX3_walkTo_30 rfl ?_
    refine gf_RX3_30 (pc := 31) C 0 rfl dX3_walkTo_31 ?_
    refine g_aload_n (pc := 34) C 0 dX3_walkTo_34 rfl ?_
    refine gf_RX3_26 (pc := 35) C 0 rfl dX3_walkTo_35 ?_
    refine g_aload_n (pc := 38) C 0 dX3_walkTo_38 rfl ?_
    refine gf_RX3_46 (pc := 39) C 0 rfl dX3_walkTo_39 ?_
    obtain ⟨v42, h42, hf⟩ := Option.bind_eq_some_iff.mp hf
    refine g_callV' (pc := 42) hla C (c_X1_at l D cI cS a.2.2.2.1 40 s.2.2.1 s.2.2.2.2.2.1 v42 h42) gg_RX3_115 hd_X1_at (by decide) rfl rfl rfl rfl (Nat.le_of_ble_eq_true rfl) dX3_walkTo_42 (seS_0keys cI cS a s) (seS_0keys cI cS a s).symm [.int v42, .ref a.2.2.2.2.1.1] rfl ?_
    obtain ⟨v45, h45, hf⟩ := Option.bind_eq_some_iff.mp hf
    refine g_callV' (pc := 45) hla C (c_X1_add l D cI cS a.2.2.2.2.1 8 s.2.2.2.1 v42 v45 h45) gg_RX3_61 hd_X1_add (by decide) rfl rfl rfl rfl (Nat.le_of_ble_eq_true rfl) dX3_walkTo_45 (seS_0walks cI cS a s) (seS_0walks cI cS a (s.1, s.2.1, s.2.2.1, v45, s.2.2.2.2.1, s.2.2.2.2.2.1, s.2.2.2.2.2.2)).symm [] rfl ?_
    refine g_aload_n (pc := 48) C 0 dX3_walkTo_48 rfl ?_
    refine g_iload_n (pc := 49) C 1 dX3_walkTo_49 rfl ?_
    refine gp_RX3_46 (pc := 50) C 0 (cs' := csS cI cS a (s.1, s.2.1, s.2.2.1, v45, s.2.2.2.2.1, x1, s.2.2.2.2.2.2)) rfl rfl dX3_walkTo_50 ?_
    have e := Option.some.inj hf; subst e
    exact g_rv (pc := 53) C rfl (flS cI cS a (s.1, s.2.1, s.2.2.1, v45, s.2.2.2.2.1, x1, s.2.2.2.2.2.2)) dX3_walkTo_53
  rw [S_walkTo] at hf
  refine g_iload_n (pc := 0) C 1 dX3_walkTo_0 rfl ?_
  refine g_aload_n (pc := 1) C 0 dX3_walkTo_1 rfl ?_
  refine gf_RX3_46 (pc := 2) C 0 rfl dX3_walkTo_2 ?_
  refine g_icmp_ne (pc := 5) C 9 dX3_walkTo_5 (by decide) (fun (c5 : ¬ x1 = s.2.2.2.2.2.1) => ?_) (fun (c5 : x1 = s.2.2.2.2.2.1) => ?_)
  · have hf := k_neg c5 hf
    refine g_aload_n (pc := 9) C 0 dX3_walkTo_9 rfl ?_
    refine gf_RX3_30 (pc := 10) C 0 rfl dX3_walkTo_10 ?_
    obtain ⟨v13, h13, hf⟩ := Option.bind_eq_some_iff.mp hf
    refine g_callV' (pc := 13) hla C (c_X1_size l D cI cS a.2.2.2.2.1 8 s.2.2.2.1 v13 h13) gg_RX3_114 hd_X1_size (by decide) rfl rfl rfl rfl (Nat.le_of_ble_eq_true rfl) dX3_walkTo_13 (seS_0walks cI cS a s) (seS_0walks cI cS a s).symm [.int v13] rfl ?_
    refine g_bipush (pc := 16) C 8 dX3_walkTo_16 (by decide) ?_
    refine g_icmp_lt (pc := 18) C 30 dX3_walkTo_18 (by decide) (fun (c18 : v13 < 8) => ?_) (fun (c18 : ¬ v13 < 8) => ?_)
    · have hf := k_pos c18 hf
      exact J30 s x1 hf
    · have hf := k_neg c18 hf
      refine g_aload_n (pc := 21) C 0 dX3_walkTo_21 rfl ?_
      refine gf_RX3_30 (pc := 22) C 0 rfl dX3_walkTo_22 ?_
      refine g_iconst (pc := 25) C 0 dX3_walkTo_25 (by decide) ?_
      refine g_iconst (pc := 26) C 1 dX3_walkTo_26 (by decide) ?_
      obtain ⟨v27, h27, hf⟩ := Option.bind_eq_some_iff.mp hf
      refine g_callV' (pc := 27) hla C (c_X1_takeOut l D cI cS a.2.2.2.2.1 8 s.2.2.2.1 0 1 v27 h27) gg_RX3_88 hd_X1_takeOut (by decide) rfl rfl rfl rfl (Nat.le_of_ble_eq_true rfl) dX3_walkTo_27 (seS_0walks cI cS a s) (seS_0walks cI cS a (s.1, s.2.1, s.2.2.1, v27, s.2.2.2.2.1, s.2.2.2.2.2.1, s.2.2.2.2.2.2)).symm [] rfl ?_
      exact J30 (s.1, s.2.1, s.2.2.1, v27, s.2.2.2.2.1, s.2.2.2.2.2.1, s.2.2.2.2.2.2) x1 hf
  · have hf := k_pos c5 hf
    have e := Option.some.inj hf; subst e
    exact g_rv (pc := 8) C rfl (flS cI cS a s) dX3_walkTo_8
set_option maxHeartbeats 4000000 in
set_option maxRecDepth 100000 in
theorem c_X3_numberOfKey (l : Launch) (D : va_G) (cI cS : ClassId) (a : aS) (s : ST) (x1 : Int32) (out : Int32) (hf : S_numberOfKey s x1 = some out) : kM l D (kTy cI cS) yX3_numberOfKey ct_X3_numberOfKey rm_X3_numberOfKey [.ref a.1, .int x1] [wS cI cS a s] (kEq (some (.int out)) [wS cI cS a s]) := by
  refine k_methodE cX3_numberOfKey 3 (some .int) RX3 rfl [(0, .ref a.1), (1, .int x1)] rfl (by decide +kernel) (Nat.le_of_ble_eq_true rfl) (fun κ A hla C => ?_)
  refine g_chunks (flS cI cS a s).symm ?_
  have L2 : ∀ (fu : Nat) (s : ST) (x1 : Int32) (x2 : Int32), S_numberOfKey_L2 fu s x1 x2 = some out → kG κ D A 3 0 0 (kF κ D A (some (.int out)) [wS cI cS a s]) (csS cI cS a s) [(0, .ref a.1), (1, .int x1), (2, .int x2)] 2 [] := by
    intro fu; induction fu with
    | zero => intro s x1 x2 hf; rw [S_numberOfKey_L2] at hf; cases hf
    | succ fu ih =>
      intro s x1 x2 hf; rw [S_numberOfKey_L2] at hf
      refine g_iload_n (pc := 2) C 2 dX3_numberOfKey_2 rfl ?_
      refine g_aload_n (pc := 3) C 0 dX3_numberOfKey_3 rfl ?_
      refine gf_RX3_26 (pc := 4) C 0 rfl dX3_numberOfKey_4 ?_
      obtain ⟨v7, h7, hf⟩ := Option.bind_eq_some_iff.mp hf
      refine g_callV' (pc := 7) hla C (c_X1_size l D cI cS a.2.2.2.1 40 s.2.2.1 v7 h7) gg_RX3_114 hd_X1_size (by decide) rfl rfl rfl rfl (Nat.le_of_ble_eq_true rfl) dX3_numberOfKey_7 (seS_0keys cI cS a s) (seS_0keys cI cS a s).symm [.int v7, .int x2] rfl ?_
      refine g_icmp_ge (pc := 10) C 33 dX3_numberOfKey_10 (by decide) (fun (c10 : v7 ≤ x2) => ?_) (fun (c10 : ¬ v7 ≤ x2) => ?_)
      · have hf := k_pos c10 hf
        refine g_iconst (pc := 33) C (-1) dX3_numberOfKey_33 (by decide) ?_
        have e := Option.some.inj hf; subst e
        exact g_ri (pc := 34) C rfl (flS cI cS a s) dX3_numberOfKey_34
      · have hf := k_neg c10 hf
        refine g_aload_n (pc := 13) C 0 dX3_numberOfKey_13 rfl ?_
        refine gf_RX3_26 (pc := 14) C 0 rfl dX3_numberOfKey_14 ?_
        refine g_iload_n (pc := 17) C 2 dX3_numberOfKey_17 rfl ?_
        obtain ⟨v18, h18, hf⟩ := Option.bind_eq_some_iff.mp hf
        refine g_callV' (pc := 18) hla C (c_X1_at l D cI cS a.2.2.2.1 40 s.2.2.1 x2 v18 h18) gg_RX3_115 hd_X1_at (by decide) rfl rfl rfl rfl (Nat.le_of_ble_eq_true rfl) dX3_numberOfKey_18 (seS_0keys cI cS a s) (seS_0keys cI cS a s).symm [.int v18] rfl ?_
        refine g_iload_n (pc := 21) C 1 dX3_numberOfKey_21 rfl ?_
        refine g_icmp_ne (pc := 22) C 27 dX3_numberOfKey_22 (by decide) (fun (c22 : ¬ v18 = x1) => ?_) (fun (c22 : v18 = x1) => ?_)
        · have hf := k_neg c22 hf
          refine g_iinc (pc := 27) C 2 (x2 + 1) [(2, .int (x2 + 1)), (0, .ref a.1), (1, .int x1)] dX3_numberOfKey_27 rfl (congrArg (HAdd.hAdd _) (by decide)) (by decide) rfl ?_
          refine g_goto (pc := 30) C 2 dX3_numberOfKey_30 (by decide) ?_
          refine g_sub [1, 2, 0] (lv' := [(0, .ref a.1), (1, .int x1), (2, .int (x2 + 1))]) rfl ?_
          exact ih s x1 (x2 + 1) hf
        · have hf := k_pos c22 hf
          refine g_iload_n (pc := 25) C 2 dX3_numberOfKey_25 rfl ?_
          have e := Option.some.inj hf; subst e
          exact g_ri (pc := 26) C rfl (flS cI cS a s) dX3_numberOfKey_26
  rw [S_numberOfKey] at hf
  refine g_iconst (pc := 0) C 0 dX3_numberOfKey_0 (by decide) ?_
  refine g_istore_n (pc := 1) C [(2, .int 0), (0, .ref a.1), (1, .int x1)] dX3_numberOfKey_1 (by decide) rfl ?_
  refine g_sub [1, 2, 0] (lv' := [(0, .ref a.1), (1, .int x1), (2, .int 0)]) rfl ?_
  exact L2 1000 s x1 0 hf
set_option maxHeartbeats 4000000 in
set_option maxRecDepth 100000 in
theorem c_X3_lastWalk (l : Launch) (D : va_G) (cI cS : ClassId) (a : aS) (s : ST) (out : Int32) (hf : S_lastWalk s = some out) : kM l D (kTy cI cS) yX3_lastWalk ct_X3_lastWalk rm_X3_lastWalk [.ref a.1] [wS cI cS a s] (kEq (some (.int out)) [wS cI cS a s]) := by
  refine k_methodE cX3_lastWalk 3 (some .int) RX3 rfl [(0, .ref a.1)] rfl (by decide +kernel) (Nat.le_of_ble_eq_true rfl) (fun κ A hla C => ?_)
  refine g_chunks (flS cI cS a s).symm ?_
  have L10 : ∀ (fu : Nat) (s : ST) (x1 : Int32), S_lastWalk_L10 fu s x1 = some out → kG κ D A 3 0 0 (kF κ D A (some (.int out)) [wS cI cS a s]) (csS cI cS a s) [(0, .ref a.1), (1, .int x1)] 10 [] := by
    intro fu; induction fu with
    | zero => intro s x1 hf; rw [S_lastWalk_L10] at hf; cases hf
    | succ fu ih =>
      intro s x1 hf; rw [S_lastWalk_L10] at hf
      refine g_iload_n (pc := 10) C 1 dX3_lastWalk_10 rfl ?_
      refine g_if_lt (pc := 11) C 48 dX3_lastWalk_11 (by decide) (fun (c11 : x1 < 0) => ?_) (fun (c11 : ¬ x1 < 0) => ?_)
      · have hf := k_pos c11 hf
        refine g_iconst (pc := 48) C (-1) dX3_lastWalk_48 (by decide) ?_
        have e := Option.some.inj hf; subst e
        exact g_ri (pc := 49) C rfl (flS cI cS a s) dX3_lastWalk_49
      · have hf := k_neg c11 hf
        refine g_aload_n (pc := 14) C 0 dX3_lastWalk_14 rfl ?_
        refine g_aload_n (pc := 15) C 0 dX3_lastWalk_15 rfl ?_
        refine gf_RX3_30 (pc := 16) C 0 rfl dX3_lastWalk_16 ?_
        refine g_iload_n (pc := 19) C 1 dX3_lastWalk_19 rfl ?_
        obtain ⟨v20, h20, hf⟩ := Option.bind_eq_some_iff.mp hf
        refine g_callV' (pc := 20) hla C (c_X1_at l D cI cS a.2.2.2.2.1 8 s.2.2.2.1 x1 v20 h20) gg_RX3_115 hd_X1_at (by decide) rfl rfl rfl rfl (Nat.le_of_ble_eq_true rfl) dX3_lastWalk_20 (seS_0walks cI cS a s) (seS_0walks cI cS a s).symm [.int v20, .ref a.1] rfl ?_
        obtain ⟨v23, h23, hf⟩ := Option.bind_eq_some_iff.mp hf
        refine g_callV' (pc := 23) hla C (c_X3_numberOfKey l D cI cS a s v20 v23 h23) gg_RX3_118 hd_X3_numberOfKey (by decide) rfl rfl rfl rfl (Nat.le_of_ble_eq_true rfl) dX3_lastWalk_23 (seS_0 cI cS a s) (seS_0 cI cS a s).symm [.int v23] rfl ?_
        refine g_istore_n (pc := 26) C [(2, .int v23), (0, .ref a.1), (1, .int x1)] dX3_lastWalk_26 (by decide) rfl ?_
        refine g_iload_n (pc := 27) C 0 dX3_lastWalk_27 rfl ?_
        refine g_iconst (pc := 28) C (-1) dX3_lastWalk_28 (by decide) ?_
        refine g_icmp_eq (pc := 29) C 42 dX3_lastWalk_29 (by decide) (fun (c29 : v23 = (-1)) => ?_) (fun (c29 : ¬ v23 = (-1)) => ?_)
        · have hf := k_pos c29 hf
          refine g_iinc (pc := 42) C 2 (x1 + (-1)) [(1, .int (x1 + (-1))), (2, .int v23), (0, .ref a.1)] dX3_lastWalk_42 rfl (congrArg (HAdd.hAdd _) (by decide)) (by decide) rfl ?_
          refine g_goto (pc := 45) C 10 dX3_lastWalk_45 (by decide) ?_
          refine g_sub [2, 0] (lv' := [(0, .ref a.1), (1, .int (x1 + (-1)))]) rfl ?_
          exact ih s (x1 + (-1)) hf
        · have hf := k_neg c29 hf
          refine g_iload_n (pc := 32) C 0 dX3_lastWalk_32 rfl ?_
          refine g_aload_n (pc := 33) C 1 dX3_lastWalk_33 rfl ?_
          refine gf_RX3_46 (pc := 34) C 0 rfl dX3_lastWalk_34 ?_
          refine g_icmp_eq (pc := 37) C 42 dX3_lastWalk_37 (by decide) (fun (c37 : v23 = s.2.2.2.2.2.1) => ?_) (fun (c37 : ¬ v23 = s.2.2.2.2.2.1) => ?_)
          · have hf := k_pos c37 hf
            refine g_iinc (pc := 42) C 2 (x1 + (-1)) [(1, .int (x1 + (-1))), (2, .int v23), (0, .ref a.1)] dX3_lastWalk_42 rfl (congrArg (HAdd.hAdd _) (by decide)) (by decide) rfl ?_
            refine g_goto (pc := 45) C 10 dX3_lastWalk_45 (by decide) ?_
            refine g_sub [2, 0] (lv' := [(0, .ref a.1), (1, .int (x1 + (-1)))]) rfl ?_
            exact ih s (x1 + (-1)) hf
          · have hf := k_neg c37 hf
            refine g_iload_n (pc := 40) C 2 dX3_lastWalk_40 rfl ?_
            have e := Option.some.inj hf; subst e
            exact g_ri (pc := 41) C rfl (flS cI cS a s) dX3_lastWalk_41
  rw [S_lastWalk] at hf
  refine g_aload_n (pc := 0) C 0 dX3_lastWalk_0 rfl ?_
  refine gf_RX3_30 (pc := 1) C 0 rfl dX3_lastWalk_1 ?_
  obtain ⟨v4, h4, hf⟩ := Option.bind_eq_some_iff.mp hf
  refine g_callV' (pc := 4) hla C (c_X1_size l D cI cS a.2.2.2.2.1 8 s.2.2.2.1 v4 h4) gg_RX3_114 hd_X1_size (by decide) rfl rfl rfl rfl (Nat.le_of_ble_eq_true rfl) dX3_lastWalk_4 (seS_0walks cI cS a s) (seS_0walks cI cS a s).symm [.int v4] rfl ?_
  refine g_iconst (pc := 7) C 1 dX3_lastWalk_7 (by decide) ?_
  refine g_isub (pc := 8) C dX3_lastWalk_8 ?_
  refine g_istore_n (pc := 9) C [(1, .int (v4 - 1)), (0, .ref a.1)] dX3_lastWalk_9 (by decide) rfl ?_
  refine g_sub [1, 0] (lv' := [(0, .ref a.1), (1, .int (v4 - 1))]) rfl ?_
  exact L10 1000 s (v4 - 1) hf
set_option maxHeartbeats 4000000 in
set_option maxRecDepth 100000 in
theorem c_X3_takeWalksBack (l : Launch) (D : va_G) (cI cS : ClassId) (a : aS) (s : ST) (x1 : Int32) (out : ST) (hf : S_takeWalksBack s x1 = some out) : kM l D (kTy cI cS) yX3_takeWalksBack ct_X3_takeWalksBack rm_X3_takeWalksBack [.ref a.1, .int x1] [wS cI cS a s] (kEq (none) [wS cI cS a out]) := by
  refine k_methodE cX3_takeWalksBack 2 none RX3 rfl [(0, .ref a.1), (1, .int x1)] rfl (by decide +kernel) (Nat.le_of_ble_eq_true rfl) (fun κ A hla C => ?_)
  refine g_chunks (flS cI cS a s).symm ?_
  rw [S_takeWalksBack] at hf
  refine g_aload_n (pc := 0) C 0 dX3_takeWalksBack_0 rfl ?_
  refine g_aload_n (pc := 1) C 0 dX3_takeWalksBack_1 rfl ?_
  refine g_aload_n (pc := 2) C 0 dX3_takeWalksBack_2 rfl ?_
  refine gf_RX3_30 (pc := 3) C 0 rfl dX3_takeWalksBack_3 ?_
  refine g_iload_n (pc := 6) C 1 dX3_takeWalksBack_6 rfl ?_
  obtain ⟨v7, h7, hf⟩ := Option.bind_eq_some_iff.mp hf
  refine g_callV' (pc := 7) hla C (c_X1_at l D cI cS a.2.2.2.2.1 8 s.2.2.2.1 x1 v7 h7) gg_RX3_115 hd_X1_at (by decide) rfl rfl rfl rfl (Nat.le_of_ble_eq_true rfl) dX3_takeWalksBack_7 (seS_0walks cI cS a s) (seS_0walks cI cS a s).symm [.int v7, .ref a.1, .ref a.1] rfl ?_
  obtain ⟨v10, h10, hf⟩ := Option.bind_eq_some_iff.mp hf
  refine g_callV' (pc := 10) hla C (c_X3_numberOfKey l D cI cS a s v7 v10 h10) gg_RX3_118 hd_X3_numberOfKey (by decide) rfl rfl rfl rfl (Nat.le_of_ble_eq_true rfl) dX3_takeWalksBack_10 (seS_0 cI cS a s) (seS_0 cI cS a s).symm [.int v10, .ref a.1] rfl ?_
  refine g_iconst (pc := 13) C 0 dX3_takeWalksBack_13 (by decide) ?_
  refine g_mmax (pc := 14) C m_357 m_81 m_math m_code_max (by decide) (Nat.le_of_ble_eq_true rfl) (Nat.le_refl 0) (Nat.le_refl 0) dX3_takeWalksBack_14 ?_
  refine gp_RX3_46 (pc := 17) C 0 (cs' := csS cI cS a (s.1, s.2.1, s.2.2.1, s.2.2.2.1, s.2.2.2.2.1, (imax v10 0), s.2.2.2.2.2.2)) rfl rfl dX3_takeWalksBack_17 ?_
  refine g_aload_n (pc := 20) C 0 dX3_takeWalksBack_20 rfl ?_
  refine gf_RX3_30 (pc := 21) C 0 rfl dX3_takeWalksBack_21 ?_
  refine g_iload_n (pc := 24) C 1 dX3_takeWalksBack_24 rfl ?_
  refine g_aload_n (pc := 25) C 0 dX3_takeWalksBack_25 rfl ?_
  refine gf_RX3_30 (pc := 26) C 0 rfl dX3_takeWalksBack_26 ?_
  obtain ⟨v29, h29, hf⟩ := Option.bind_eq_some_iff.mp hf
  refine g_callV' (pc := 29) hla C (c_X1_size l D cI cS a.2.2.2.2.1 8 s.2.2.2.1 v29 h29) gg_RX3_114 hd_X1_size (by decide) rfl rfl rfl rfl (Nat.le_of_ble_eq_true rfl) dX3_takeWalksBack_29 (seS_0walks cI cS a (s.1, s.2.1, s.2.2.1, s.2.2.2.1, s.2.2.2.2.1, (imax v10 0), s.2.2.2.2.2.2)) (seS_0walks cI cS a (s.1, s.2.1, s.2.2.1, s.2.2.2.1, s.2.2.2.2.1, (imax v10 0), s.2.2.2.2.2.2)).symm [.int v29, .int x1, .ref a.2.2.2.2.1.1] rfl ?_
  obtain ⟨v32, h32, hf⟩ := Option.bind_eq_some_iff.mp hf
  refine g_callV' (pc := 32) hla C (c_X1_takeOut l D cI cS a.2.2.2.2.1 8 s.2.2.2.1 x1 v29 v32 h32) gg_RX3_88 hd_X1_takeOut (by decide) rfl rfl rfl rfl (Nat.le_of_ble_eq_true rfl) dX3_takeWalksBack_32 (seS_0walks cI cS a (s.1, s.2.1, s.2.2.1, s.2.2.2.1, s.2.2.2.2.1, (imax v10 0), s.2.2.2.2.2.2)) (seS_0walks cI cS a (s.1, s.2.1, s.2.2.1, v32, s.2.2.2.2.1, (imax v10 0), s.2.2.2.2.2.2)).symm [] rfl ?_
  have e := Option.some.inj hf; subst e
  exact g_rv (pc := 35) C rfl (flS cI cS a (s.1, s.2.1, s.2.2.1, v32, s.2.2.2.2.1, (imax v10 0), s.2.2.2.2.2.2)) dX3_takeWalksBack_35
set_option maxHeartbeats 4000000 in
set_option maxRecDepth 100000 in
theorem c_X3_putNodeIn (l : Launch) (D : va_G) (cI cS : ClassId) (a : aS) (s : ST) (x1 : Int32) (x2 : Int32) (x3 : Int32) (out : ST) (hf : S_putNodeIn s x1 x2 x3 = some out) : kM l D (kTy cI cS) yX3_putNodeIn ct_X3_putNodeIn rm_X3_putNodeIn [.ref a.1, .int x1, .int x2, .int x3] [wS cI cS a s] (kEq (none) [wS cI cS a out]) := by
  refine k_methodE cX3_putNodeIn 4 none RX3 rfl [(0, .ref a.1), (1, .int x1), (2, .int x2), (3, .int x3)] rfl (by decide +kernel) (Nat.le_of_ble_eq_true rfl) (fun κ A hla C => ?_)
  refine g_chunks (flS cI cS a s).symm ?_
  rw [S_putNodeIn] at hf
  refine g_aload_n (pc := 0) C 0 dX3_putNodeIn_0 rfl ?_
  refine gf_RX3_12 (pc := 1) C 0 rfl dX3_putNodeIn_1 ?_
  refine g_iload_n (pc := 4) C 1 dX3_putNodeIn_4 rfl ?_
  refine g_iload_n (pc := 5) C 2 dX3_putNodeIn_5 rfl ?_
  refine g_iload_n (pc := 6) C 3 dX3_putNodeIn_6 rfl ?_
  obtain ⟨v7, h7, hf⟩ := Option.bind_eq_some_iff.mp hf
  refine g_callV' (pc := 7) hla C (c_X4_putIn l D cI cS a.2.1 s.1 x1 x2 x3 v7 h7) gg_RX3_64 hd_X4_putIn (by decide) rfl rfl rfl rfl (Nat.le_of_ble_eq_true rfl) dX3_putNodeIn_7 (seS_0tree cI cS a s) (seS_0tree cI cS a (v7, s.2.1, s.2.2.1, s.2.2.2.1, s.2.2.2.2.1, s.2.2.2.2.2.1, s.2.2.2.2.2.2)).symm [] rfl ?_
  refine g_aload_n (pc := 10) C 0 dX3_putNodeIn_10 rfl ?_
  refine gf_RX3_26 (pc := 11) C 0 rfl dX3_putNodeIn_11 ?_
  refine g_iload_n (pc := 14) C 1 dX3_putNodeIn_14 rfl ?_
  refine g_aload_n (pc := 15) C 0 dX3_putNodeIn_15 rfl ?_
  refine gf_RX3_50 (pc := 16) C 0 rfl dX3_putNodeIn_16 ?_
  obtain ⟨v19, h19, hf⟩ := Option.bind_eq_some_iff.mp hf
  refine g_callV' (pc := 19) hla C (c_X1_putIn l D cI cS a.2.2.2.1 40 s.2.2.1 x1 s.2.2.2.2.2.2 v19 h19) gg_RX3_68 hd_X1_putIn (by decide) rfl rfl rfl rfl (Nat.le_of_ble_eq_true rfl) dX3_putNodeIn_19 (seS_0keys cI cS a (v7, s.2.1, s.2.2.1, s.2.2.2.1, s.2.2.2.2.1, s.2.2.2.2.2.1, s.2.2.2.2.2.2)) (seS_0keys cI cS a (v7, s.2.1, v19, s.2.2.2.1, s.2.2.2.2.1, s.2.2.2.2.2.1, s.2.2.2.2.2.2)).symm [] rfl ?_
  refine g_aload_n (pc := 22) C 0 dX3_putNodeIn_22 rfl ?_
  refine g_dup (pc := 23) C dX3_putNodeIn_23 rfl ?_
  refine gf_RX3_50 (pc := 24) C 0 rfl dX3_putNodeIn_24 ?_
  refine g_iconst (pc := 27) C 1 dX3_putNodeIn_27 (by decide) ?_
  refine g_iadd (pc := 28) C dX3_putNodeIn_28 ?_
  refine gp_RX3_50 (pc := 29) C 0 (cs' := csS cI cS a (v7, s.2.1, v19, s.2.2.2.1, s.2.2.2.2.1, s.2.2.2.2.2.1, (s.2.2.2.2.2.2 + 1))) rfl rfl dX3_putNodeIn_29 ?_
  have e := Option.some.inj hf; subst e
  exact g_rv (pc := 32) C rfl (flS cI cS a (v7, s.2.1, v19, s.2.2.2.1, s.2.2.2.2.1, s.2.2.2.2.2.1, (s.2.2.2.2.2.2 + 1))) dX3_putNodeIn_32
set_option maxHeartbeats 4000000 in
set_option maxRecDepth 100000 in
theorem c_X3_placeWithoutPart (l : Launch) (D : va_G) (cI cS : ClassId) (a : aS) (s : ST) (out : Int32) (hf : S_placeWithoutPart s = some out) : kM l D (kTy cI cS) yX3_placeWithoutPart ct_X3_placeWithoutPart rm_X3_placeWithoutPart [.ref a.1] [wS cI cS a s] (kEq (some (.int out)) [wS cI cS a s]) := by
  refine k_methodE cX3_placeWithoutPart 2 (some .int) RX3 rfl [(0, .ref a.1)] rfl (by decide +kernel) (Nat.le_of_ble_eq_true rfl) (fun κ A hla C => ?_)
  refine g_chunks (flS cI cS a s).symm ?_
  rw [S_placeWithoutPart] at hf
  refine g_aload_n (pc := 0) C 0 dX3_placeWithoutPart_0 rfl ?_
  refine gf_RX3_12 (pc := 1) C 0 rfl dX3_placeWithoutPart_1 ?_
  refine g_aload_n (pc := 4) C 0 dX3_placeWithoutPart_4 rfl ?_
  refine gf_RX3_46 (pc := 5) C 0 rfl dX3_placeWithoutPart_5 ?_
  refine g_iconst (pc := 8) C 1 dX3_placeWithoutPart_8 (by decide) ?_
  obtain ⟨v9, h9, hf⟩ := Option.bind_eq_some_iff.mp hf
  refine g_callV' (pc := 9) hla C (c_X4_neighbour l D cI cS a.2.1 s.1 s.2.2.2.2.2.1 1 v9 h9) gg_RX3_98 hd_X4_neighbour (by decide) rfl rfl rfl rfl (Nat.le_of_ble_eq_true rfl) dX3_placeWithoutPart_9 (seS_0tree cI cS a s) (seS_0tree cI cS a s).symm [.int v9] rfl ?_
  refine g_iconst (pc := 12) C (-1) dX3_placeWithoutPart_12 (by decide) ?_
  refine g_icmp_eq (pc := 13) C 21 dX3_placeWithoutPart_13 (by decide) (fun (c13 : v9 = (-1)) => ?_) (fun (c13 : ¬ v9 = (-1)) => ?_)
  · have hf := k_pos c13 hf
    refine g_aload_n (pc := 21) C 0 dX3_placeWithoutPart_21 rfl ?_
    refine gf_RX3_12 (pc := 22) C 0 rfl dX3_placeWithoutPart_22 ?_
    refine g_aload_n (pc := 25) C 0 dX3_placeWithoutPart_25 rfl ?_
    refine gf_RX3_46 (pc := 26) C 0 rfl dX3_placeWithoutPart_26 ?_
    refine g_iconst (pc := 29) C 0 dX3_placeWithoutPart_29 (by decide) ?_
    obtain ⟨v30, h30, hf⟩ := Option.bind_eq_some_iff.mp hf
    refine g_callV' (pc := 30) hla C (c_X4_neighbour l D cI cS a.2.1 s.1 s.2.2.2.2.2.1 0 v30 h30) gg_RX3_98 hd_X4_neighbour (by decide) rfl rfl rfl rfl (Nat.le_of_ble_eq_true rfl) dX3_placeWithoutPart_30 (seS_0tree cI cS a s) (seS_0tree cI cS a s).symm [.int v30] rfl ?_
    refine g_istore_n (pc := 33) C [(1, .int v30), (0, .ref a.1)] dX3_placeWithoutPart_33 (by decide) rfl ?_
    refine g_iload_n (pc := 34) C 0 dX3_placeWithoutPart_34 rfl ?_
    refine g_iconst (pc := 35) C (-1) dX3_placeWithoutPart_35 (by decide) ?_
    refine g_icmp_eq (pc := 36) C 43 dX3_placeWithoutPart_36 (by decide) (fun (c36 : v30 = (-1)) => ?_) (fun (c36 : ¬ v30 = (-1)) => ?_)
    · have hf := k_pos c36 hf
      refine g_aload_n (pc := 43) C 1 dX3_placeWithoutPart_43 rfl ?_
      refine gf_RX3_12 (pc := 44) C 0 rfl dX3_placeWithoutPart_44 ?_
      refine g_aload_n (pc := 47) C 1 dX3_placeWithoutPart_47 rfl ?_
      refine gf_RX3_46 (pc := 48) C 0 rfl dX3_placeWithoutPart_48 ?_
      obtain ⟨v51, h51, hf⟩ := Option.bind_eq_some_iff.mp hf
      refine g_callV' (pc := 51) hla C (c_X4_above l D cI cS a.2.1 s.1 s.2.2.2.2.2.1 v51 h51) gg_RX3_102 hd_X4_above (by decide) rfl rfl rfl rfl (Nat.le_of_ble_eq_true rfl) dX3_placeWithoutPart_51 (seS_0tree cI cS a s) (seS_0tree cI cS a s).symm [.int v51] rfl ?_
      refine g_iconst (pc := 54) C 0 dX3_placeWithoutPart_54 (by decide) ?_
      refine g_mmax (pc := 55) C m_357 m_81 m_math m_code_max (by decide) (Nat.le_of_ble_eq_true rfl) (Nat.le_refl 0) (Nat.le_refl 0) dX3_placeWithoutPart_55 ?_
      have e := Option.some.inj hf; subst e
      exact g_ri (pc := 58) C rfl (flS cI cS a s) dX3_placeWithoutPart_58
    · have hf := k_neg c36 hf
      refine g_iload_n (pc := 39) C 0 dX3_placeWithoutPart_39 rfl ?_
      refine g_goto (pc := 40) C 58 dX3_placeWithoutPart_40 (by decide) ?_
      have e := Option.some.inj hf; subst e
      exact g_ri (pc := 58) C rfl (flS cI cS a s) dX3_placeWithoutPart_58
  · have hf := k_neg c13 hf
    refine g_aload_n (pc := 16) C 0 dX3_placeWithoutPart_16 rfl ?_
    refine gf_RX3_46 (pc := 17) C 0 rfl dX3_placeWithoutPart_17 ?_
    have e := Option.some.inj hf; subst e
    exact g_ri (pc := 20) C rfl (flS cI cS a s) dX3_placeWithoutPart_20
set_option maxHeartbeats 4000000 in
set_option maxRecDepth 100000 in
theorem c_X3_takeNodesOut (l : Launch) (D : va_G) (cI cS : ClassId) (a : aS) (s : ST) (x1 : Int32) (x2 : Int32) (out : ST) (hf : S_takeNodesOut s x1 x2 = some out) : kM l D (kTy cI cS) yX3_takeNodesOut ct_X3_takeNodesOut rm_X3_takeNodesOut [.ref a.1, .int x1, .int x2] [wS cI cS a s] (kEq (none) [wS cI cS a out]) := by
  refine k_methodE cX3_takeNodesOut 3 none RX3 rfl [(0, .ref a.1), (1, .int x1), (2, .int x2)] rfl (by decide +kernel) (Nat.le_of_ble_eq_true rfl) (fun κ A hla C => ?_)
  refine g_chunks (flS cI cS a s).symm ?_
  rw [S_takeNodesOut] at hf
  refine g_aload_n (pc := 0) C 0 dX3_takeNodesOut_0 rfl ?_
  refine gf_RX3_12 (pc := 1) C 0 rfl dX3_takeNodesOut_1 ?_
  refine g_iload_n (pc := 4) C 1 dX3_takeNodesOut_4 rfl ?_
  refine g_iload_n (pc := 5) C 2 dX3_takeNodesOut_5 rfl ?_
  obtain ⟨v6, h6, hf⟩ := Option.bind_eq_some_iff.mp hf
  refine g_callV' (pc := 6) hla C (c_X4_takeOut l D cI cS a.2.1 s.1 x1 x2 v6 h6) gg_RX3_85 hd_X4_takeOut (by decide) rfl rfl rfl rfl (Nat.le_of_ble_eq_true rfl) dX3_takeNodesOut_6 (seS_0tree cI cS a s) (seS_0tree cI cS a (v6, s.2.1, s.2.2.1, s.2.2.2.1, s.2.2.2.2.1, s.2.2.2.2.2.1, s.2.2.2.2.2.2)).symm [] rfl ?_
  refine g_aload_n (pc := 9) C 0 dX3_takeNodesOut_9 rfl ?_
  refine gf_RX3_26 (pc := 10) C 0 rfl dX3_takeNodesOut_10 ?_
  refine g_iload_n (pc := 13) C 1 dX3_takeNodesOut_13 rfl ?_
  refine g_iload_n (pc := 14) C 2 dX3_takeNodesOut_14 rfl ?_
  obtain ⟨v15, h15, hf⟩ := Option.bind_eq_some_iff.mp hf
  refine g_callV' (pc := 15) hla C (c_X1_takeOut l D cI cS a.2.2.2.1 40 s.2.2.1 x1 x2 v15 h15) gg_RX3_88 hd_X1_takeOut (by decide) rfl rfl rfl rfl (Nat.le_of_ble_eq_true rfl) dX3_takeNodesOut_15 (seS_0keys cI cS a (v6, s.2.1, s.2.2.1, s.2.2.2.1, s.2.2.2.2.1, s.2.2.2.2.2.1, s.2.2.2.2.2.2)) (seS_0keys cI cS a (v6, s.2.1, v15, s.2.2.2.1, s.2.2.2.2.1, s.2.2.2.2.2.1, s.2.2.2.2.2.2)).symm [] rfl ?_
  have e := Option.some.inj hf; subst e
  exact g_rv (pc := 18) C rfl (flS cI cS a (v6, s.2.1, v15, s.2.2.2.1, s.2.2.2.2.1, s.2.2.2.2.2.1, s.2.2.2.2.2.2)) dX3_takeNodesOut_18
set_option maxHeartbeats 4000000 in
set_option maxRecDepth 100000 in
theorem c_X3_takePlaceOut (l : Launch) (D : va_G) (cI cS : ClassId) (a : aS) (s : ST) (out : Int32 × ST) (hf : S_takePlaceOut s = some out) : kM l D (kTy cI cS) yX3_takePlaceOut ct_X3_takePlaceOut rm_X3_takePlaceOut [.ref a.1] [wS cI cS a s] (kEq (some (.int out.1)) [wS cI cS a out.2]) := by
  refine k_methodE cX3_takePlaceOut 3 (some .int) RX3 rfl [(0, .ref a.1)] rfl (by decide +kernel) (Nat.le_of_ble_eq_true rfl) (fun κ A hla C => ?_)
  refine g_chunks (flS cI cS a s).symm ?_
  rw [S_takePlaceOut] at hf
  refine g_aload_n (pc := 0) C 0 dX3_takePlaceOut_0 rfl ?_
  refine gf_RX3_46 (pc := 1) C 0 rfl dX3_takePlaceOut_1 ?_
  refine g_istore_n (pc := 4) C [(1, .int s.2.2.2.2.2.1), (0, .ref a.1)] dX3_takePlaceOut_4 (by decide) rfl ?_
  refine g_aload_n (pc := 5) C 1 dX3_takePlaceOut_5 rfl ?_
  refine gf_RX3_12 (pc := 6) C 0 rfl dX3_takePlaceOut_6 ?_
  refine g_iload_n (pc := 9) C 0 dX3_takePlaceOut_9 rfl ?_
  obtain ⟨v10, h10, hf⟩ := Option.bind_eq_some_iff.mp hf
  refine g_callV' (pc := 10) hla C (c_X4_endOf l D cI cS a.2.1 s.1 s.2.2.2.2.2.1 v10 h10) gg_RX3_89 hd_X4_endOf (by decide) rfl rfl rfl rfl (Nat.le_of_ble_eq_true rfl) dX3_takePlaceOut_10 (seS_0tree cI cS a s) (seS_0tree cI cS a s).symm [.int v10] rfl ?_
  refine g_istore_n (pc := 13) C [(2, .int v10), (1, .int s.2.2.2.2.2.1), (0, .ref a.1)] dX3_takePlaceOut_13 (by decide) rfl ?_
  refine g_aload_n (pc := 14) C 2 dX3_takePlaceOut_14 rfl ?_
  refine g_aload_n (pc := 15) C 2 dX3_takePlaceOut_15 rfl ?_
  obtain ⟨v16, h16, hf⟩ := Option.bind_eq_some_iff.mp hf
  refine g_callV' (pc := 16) hla C (c_X3_placeWithoutPart l D cI cS a s v16 h16) gg_RX3_92 hd_X3_placeWithoutPart (by decide) rfl rfl rfl rfl (Nat.le_of_ble_eq_true rfl) dX3_takePlaceOut_16 (seS_0 cI cS a s) (seS_0 cI cS a s).symm [.int v16, .ref a.1] rfl ?_
  refine gp_RX3_46 (pc := 19) C 0 (cs' := csS cI cS a (s.1, s.2.1, s.2.2.1, s.2.2.2.1, s.2.2.2.2.1, v16, s.2.2.2.2.2.2)) rfl rfl dX3_takePlaceOut_19 ?_
  refine g_aload_n (pc := 22) C 2 dX3_takePlaceOut_22 rfl ?_
  refine g_iload_n (pc := 23) C 1 dX3_takePlaceOut_23 rfl ?_
  refine g_iload_n (pc := 24) C 0 dX3_takePlaceOut_24 rfl ?_
  obtain ⟨v25, h25, hf⟩ := Option.bind_eq_some_iff.mp hf
  refine g_callV' (pc := 25) hla C (c_X3_takeNodesOut l D cI cS a (s.1, s.2.1, s.2.2.1, s.2.2.2.1, s.2.2.2.2.1, v16, s.2.2.2.2.2.2) s.2.2.2.2.2.1 v10 v25 h25) gg_RX3_95 hd_X3_takeNodesOut (by decide) rfl rfl rfl rfl (Nat.le_of_ble_eq_true rfl) dX3_takePlaceOut_25 (seS_0 cI cS a (s.1, s.2.1, s.2.2.1, s.2.2.2.1, s.2.2.2.2.1, v16, s.2.2.2.2.2.2)) (seS_0 cI cS a v25).symm [] rfl ?_
  refine g_iload_n (pc := 28) C 0 dX3_takePlaceOut_28 rfl ?_
  refine g_iload_n (pc := 29) C 1 dX3_takePlaceOut_29 rfl ?_
  refine g_isub (pc := 30) C dX3_takePlaceOut_30 ?_
  have e := Option.some.inj hf; subst e
  exact g_ri (pc := 31) C rfl (flS cI cS a v25) dX3_takePlaceOut_31
set_option maxHeartbeats 4000000 in
set_option maxRecDepth 100000 in
theorem c_X3_exchangeRuns (l : Launch) (D : va_G) (cI cS : ClassId) (a : aS) (s : ST) (x1 : Int32) (x2 : Int32) (x3 : Int32) (out : ST) (hf : S_exchangeRuns s x1 x2 x3 = some out) : kM l D (kTy cI cS) yX3_exchangeRuns ct_X3_exchangeRuns rm_X3_exchangeRuns [.ref a.1, .int x1, .int x2, .int x3] [wS cI cS a s] (kEq (none) [wS cI cS a out]) := by
  refine k_methodE cX3_exchangeRuns 4 none RX3 rfl [(0, .ref a.1), (1, .int x1), (2, .int x2), (3, .int x3)] rfl (by decide +kernel) (Nat.le_of_ble_eq_true rfl) (fun κ A hla C => ?_)
  refine g_chunks (flS cI cS a s).symm ?_
  rw [S_exchangeRuns] at hf
  refine g_aload_n (pc := 0) C 0 dX3_exchangeRuns_0 rfl ?_
  refine gf_RX3_12 (pc := 1) C 0 rfl dX3_exchangeRuns_1 ?_
  refine g_iload_n (pc := 4) C 1 dX3_exchangeRuns_4 rfl ?_
  refine g_iload_n (pc := 5) C 2 dX3_exchangeRuns_5 rfl ?_
  refine g_iload_n (pc := 6) C 3 dX3_exchangeRuns_6 rfl ?_
  obtain ⟨v7, h7, hf⟩ := Option.bind_eq_some_iff.mp hf
  refine g_callV' (pc := 7) hla C (c_X4_exchangeRuns l D cI cS a.2.1 s.1 x1 x2 x3 v7 h7) gg_RX3_110 hd_X4_exchangeRuns (by decide) rfl rfl rfl rfl (Nat.le_of_ble_eq_true rfl) dX3_exchangeRuns_7 (seS_0tree cI cS a s) (seS_0tree cI cS a (v7, s.2.1, s.2.2.1, s.2.2.2.1, s.2.2.2.2.1, s.2.2.2.2.2.1, s.2.2.2.2.2.2)).symm [] rfl ?_
  refine g_aload_n (pc := 10) C 0 dX3_exchangeRuns_10 rfl ?_
  refine gf_RX3_26 (pc := 11) C 0 rfl dX3_exchangeRuns_11 ?_
  refine g_iload_n (pc := 14) C 1 dX3_exchangeRuns_14 rfl ?_
  refine g_iload_n (pc := 15) C 2 dX3_exchangeRuns_15 rfl ?_
  refine g_iload_n (pc := 16) C 3 dX3_exchangeRuns_16 rfl ?_
  obtain ⟨v17, h17, hf⟩ := Option.bind_eq_some_iff.mp hf
  refine g_callV' (pc := 17) hla C (c_X1_exchangeRuns l D cI cS a.2.2.2.1 40 s.2.2.1 x1 x2 x3 v17 h17) gg_RX3_113 hd_X1_exchangeRuns (by decide) rfl rfl rfl rfl (Nat.le_of_ble_eq_true rfl) dX3_exchangeRuns_17 (seS_0keys cI cS a (v7, s.2.1, s.2.2.1, s.2.2.2.1, s.2.2.2.2.1, s.2.2.2.2.2.1, s.2.2.2.2.2.2)) (seS_0keys cI cS a (v7, s.2.1, v17, s.2.2.2.1, s.2.2.2.2.1, s.2.2.2.2.2.1, s.2.2.2.2.2.2)).symm [] rfl ?_
  have e := Option.some.inj hf; subst e
  exact g_rv (pc := 20) C rfl (flS cI cS a (v7, s.2.1, v17, s.2.2.2.1, s.2.2.2.2.1, s.2.2.2.2.2.1, s.2.2.2.2.2.2)) dX3_exchangeRuns_20
set_option maxHeartbeats 4000000 in
set_option maxRecDepth 100000 in
theorem c_X3_putTreeIn (l : Launch) (D : va_G) (cI cS : ClassId) (a : aS) (s : ST) (b : aT) (t' : TR) (x2 : Int32) (x3 : Int32) (out : ST) (hf : S_putTreeIn s t' x2 x3 = some out) : kM l D (kTy cI cS) yX3_putTreeIn ct_X3_putTreeIn rm_X3_putTreeIn [.ref a.1, .ref b.1, .int x2, .int x3] [wS cI cS a s, wT cI b t'] (kEq (none) [wS cI cS a out, wT cI b t']) := by
  refine k_methodE cX3_putTreeIn 6 none RX3 rfl [(0, .ref a.1), (1, .ref b.1), (2, .int x2), (3, .int x3)] rfl (by decide +kernel) (Nat.le_of_ble_eq_true rfl) (fun κ A hla C => ?_)
  refine g_chunks (flST cI cS a s b t').symm ?_
  have L9 : ∀ (fu : Nat) (s : ST) (t' : TR) (x2 : Int32) (x3 : Int32) (x4 : Int32) (x5 : Int32), S_putTreeIn_L9 fu s t' x2 x3 x4 x5 = some out → kG κ D A 6 0 0 (kF κ D A (none) [wS cI cS a out, wT cI b t']) (csST cI cS a s b t') [(0, .ref a.1), (1, .ref b.1), (2, .int x2), (3, .int x3), (4, .int x4), (5, .int x5)] 9 [] := by
    intro fu; induction fu with
    | zero => intro s t' x2 x3 x4 x5 hf; rw [S_putTreeIn_L9] at hf; cases hf
    | succ fu ih =>
      intro s t' x2 x3 x4 x5 hf; rw [S_putTreeIn_L9] at hf
      refine g_iload (pc := 9) C 5 dX3_putTreeIn_9 rfl ?_
      refine g_iload (pc := 11) C 4 dX3_putTreeIn_11 rfl ?_
      refine g_icmp_ge (pc := 13) C 44 dX3_putTreeIn_13 (by decide) (fun (c13 : x4 ≤ x5) => ?_) (fun (c13 : ¬ x4 ≤ x5) => ?_)
      · have hf := k_pos c13 hf
        have e := Option.some.inj hf; subst e
        exact g_rv (pc := 44) C rfl (flST cI cS a s b t') dX3_putTreeIn_44
      · have hf := k_neg c13 hf
        refine g_aload_n (pc := 16) C 0 dX3_putTreeIn_16 rfl ?_
        refine g_iload_n (pc := 17) C 2 dX3_putTreeIn_17 rfl ?_
        refine g_iload (pc := 18) C 5 dX3_putTreeIn_18 rfl ?_
        refine g_iadd (pc := 20) C dX3_putTreeIn_20 ?_
        refine g_aload_n (pc := 21) C 1 dX3_putTreeIn_21 rfl ?_
        refine g_iload (pc := 22) C 5 dX3_putTreeIn_22 rfl ?_
        obtain ⟨v24, h24, hf⟩ := Option.bind_eq_some_iff.mp hf
        refine g_callV' (pc := 24) hla C (c_X4_letterOf l D cI cS b t' x5 v24 h24) gg_RX3_75 hd_X4_letterOf (by decide) rfl rfl rfl rfl (Nat.le_of_ble_eq_true rfl) dX3_putTreeIn_24 (seST_1 cI cS a s b t') (seST_1 cI cS a s b t').symm [.int v24, .int (x2 + x5), .ref a.1] rfl ?_
        refine g_iload_n (pc := 27) C 3 dX3_putTreeIn_27 rfl ?_
        refine g_aload_n (pc := 28) C 1 dX3_putTreeIn_28 rfl ?_
        refine g_iload (pc := 29) C 5 dX3_putTreeIn_29 rfl ?_
        obtain ⟨v31, h31, hf⟩ := Option.bind_eq_some_iff.mp hf
        refine g_callV' (pc := 31) hla C (c_X4_depthOf l D cI cS b t' x5 v31 h31) gg_RX3_79 hd_X4_depthOf (by decide) rfl rfl rfl rfl (Nat.le_of_ble_eq_true rfl) dX3_putTreeIn_31 (seST_1 cI cS a s b t') (seST_1 cI cS a s b t').symm [.int v31, .int x3, .int v24, .int (x2 + x5), .ref a.1] rfl ?_
        refine g_iadd (pc := 34) C dX3_putTreeIn_34 ?_
        obtain ⟨v35, h35, hf⟩ := Option.bind_eq_some_iff.mp hf
        refine g_callV' (pc := 35) hla C (c_X3_putNodeIn l D cI cS a s (x2 + x5) v24 (x3 + v31) v35 h35) gg_RX3_82 hd_X3_putNodeIn (by decide) rfl rfl rfl rfl (Nat.le_of_ble_eq_true rfl) dX3_putTreeIn_35 (seST_0 cI cS a s b t') (seST_0 cI cS a v35 b t').symm [] rfl ?_
        refine g_iinc (pc := 38) C 5 (x5 + 1) [(5, .int (x5 + 1)), (0, .ref a.1), (1, .ref b.1), (2, .int x2), (3, .int x3), (4, .int x4)] dX3_putTreeIn_38 rfl (congrArg (HAdd.hAdd _) (by decide)) (by decide) rfl ?_
        refine g_goto (pc := 41) C 9 dX3_putTreeIn_41 (by decide) ?_
        refine g_sub [1, 2, 3, 4, 5, 0] (lv' := [(0, .ref a.1), (1, .ref b.1), (2, .int x2), (3, .int x3), (4, .int x4), (5, .int (x5 + 1))]) rfl ?_
        exact ih v35 t' x2 x3 x4 (x5 + 1) hf
  rw [S_putTreeIn] at hf
  refine g_aload_n (pc := 0) C 1 dX3_putTreeIn_0 rfl ?_
  obtain ⟨v1, h1, hf⟩ := Option.bind_eq_some_iff.mp hf
  refine g_callV' (pc := 1) hla C (c_X4_size l D cI cS b t' v1 h1) gg_RX3_71 hd_X4_size (by decide) rfl rfl rfl rfl (Nat.le_of_ble_eq_true rfl) dX3_putTreeIn_1 (seST_1 cI cS a s b t') (seST_1 cI cS a s b t').symm [.int v1] rfl ?_
  refine g_istore (pc := 4) C [(4, .int v1), (0, .ref a.1), (1, .ref b.1), (2, .int x2), (3, .int x3)] dX3_putTreeIn_4 (by decide) rfl ?_
  refine g_iconst (pc := 6) C 0 dX3_putTreeIn_6 (by decide) ?_
  refine g_istore (pc := 7) C [(5, .int 0), (4, .int v1), (0, .ref a.1), (1, .ref b.1), (2, .int x2), (3, .int x3)] dX3_putTreeIn_7 (by decide) rfl ?_
  refine g_sub [2, 3, 4, 5, 1, 0] (lv' := [(0, .ref a.1), (1, .ref b.1), (2, .int x2), (3, .int x3), (4, .int v1), (5, .int 0)]) rfl ?_
  exact L9 1000 s t' x2 x3 v1 0 hf
set_option maxHeartbeats 4000000 in
set_option maxRecDepth 100000 in
theorem c_X3_putTreeInA (l : Launch) (D : va_G) (cI cS : ClassId) (a : aS) (s : ST) (x2 : Int32) (x3 : Int32) (out : ST) (hf : S_putTreeInA s x2 x3 = some out) : kM l D (kTy cI cS) yX3_putTreeIn ct_X3_putTreeIn rm_X3_putTreeIn [.ref a.1, .ref a.2.2.1.1, .int x2, .int x3] [wS cI cS a s] (kEq (none) [wS cI cS a out]) := by
  refine k_methodE cX3_putTreeIn 6 none RX3 rfl [(0, .ref a.1), (1, .ref a.2.2.1.1), (2, .int x2), (3, .int x3)] rfl (by decide +kernel) (Nat.le_of_ble_eq_true rfl) (fun κ A hla C => ?_)
  refine g_chunks (flS cI cS a s).symm ?_
  have L9 : ∀ (fu : Nat) (s : ST) (x2 : Int32) (x3 : Int32) (x4 : Int32) (x5 : Int32), S_putTreeInA_L9 fu s x2 x3 x4 x5 = some out → kG κ D A 6 0 0 (kF κ D A (none) [wS cI cS a out]) (csS cI cS a s) [(0, .ref a.1), (1, .ref a.2.2.1.1), (2, .int x2), (3, .int x3), (4, .int x4), (5, .int x5)] 9 [] := by
    intro fu; induction fu with
    | zero => intro s x2 x3 x4 x5 hf; rw [S_putTreeInA_L9] at hf; cases hf
    | succ fu ih =>
      intro s x2 x3 x4 x5 hf; rw [S_putTreeInA_L9] at hf
      refine g_iload (pc := 9) C 5 dX3_putTreeIn_9 rfl ?_
      refine g_iload (pc := 11) C 4 dX3_putTreeIn_11 rfl ?_
      refine g_icmp_ge (pc := 13) C 44 dX3_putTreeIn_13 (by decide) (fun (c13 : x4 ≤ x5) => ?_) (fun (c13 : ¬ x4 ≤ x5) => ?_)
      · have hf := k_pos c13 hf
        have e := Option.some.inj hf; subst e
        exact g_rv (pc := 44) C rfl (flS cI cS a s) dX3_putTreeIn_44
      · have hf := k_neg c13 hf
        refine g_aload_n (pc := 16) C 0 dX3_putTreeIn_16 rfl ?_
        refine g_iload_n (pc := 17) C 2 dX3_putTreeIn_17 rfl ?_
        refine g_iload (pc := 18) C 5 dX3_putTreeIn_18 rfl ?_
        refine g_iadd (pc := 20) C dX3_putTreeIn_20 ?_
        refine g_aload_n (pc := 21) C 1 dX3_putTreeIn_21 rfl ?_
        refine g_iload (pc := 22) C 5 dX3_putTreeIn_22 rfl ?_
        obtain ⟨v24, h24, hf⟩ := Option.bind_eq_some_iff.mp hf
        refine g_callV' (pc := 24) hla C (c_X4_letterOf l D cI cS a.2.2.1 s.2.1 x5 v24 h24) gg_RX3_75 hd_X4_letterOf (by decide) rfl rfl rfl rfl (Nat.le_of_ble_eq_true rfl) dX3_putTreeIn_24 (seS_0clip cI cS a s) (seS_0clip cI cS a s).symm [.int v24, .int (x2 + x5), .ref a.1] rfl ?_
        refine g_iload_n (pc := 27) C 3 dX3_putTreeIn_27 rfl ?_
        refine g_aload_n (pc := 28) C 1 dX3_putTreeIn_28 rfl ?_
        refine g_iload (pc := 29) C 5 dX3_putTreeIn_29 rfl ?_
        obtain ⟨v31, h31, hf⟩ := Option.bind_eq_some_iff.mp hf
        refine g_callV' (pc := 31) hla C (c_X4_depthOf l D cI cS a.2.2.1 s.2.1 x5 v31 h31) gg_RX3_79 hd_X4_depthOf (by decide) rfl rfl rfl rfl (Nat.le_of_ble_eq_true rfl) dX3_putTreeIn_31 (seS_0clip cI cS a s) (seS_0clip cI cS a s).symm [.int v31, .int x3, .int v24, .int (x2 + x5), .ref a.1] rfl ?_
        refine g_iadd (pc := 34) C dX3_putTreeIn_34 ?_
        obtain ⟨v35, h35, hf⟩ := Option.bind_eq_some_iff.mp hf
        refine g_callV' (pc := 35) hla C (c_X3_putNodeIn l D cI cS a s (x2 + x5) v24 (x3 + v31) v35 h35) gg_RX3_82 hd_X3_putNodeIn (by decide) rfl rfl rfl rfl (Nat.le_of_ble_eq_true rfl) dX3_putTreeIn_35 (seS_0 cI cS a s) (seS_0 cI cS a v35).symm [] rfl ?_
        refine g_iinc (pc := 38) C 5 (x5 + 1) [(5, .int (x5 + 1)), (0, .ref a.1), (1, .ref a.2.2.1.1), (2, .int x2), (3, .int x3), (4, .int x4)] dX3_putTreeIn_38 rfl (congrArg (HAdd.hAdd _) (by decide)) (by decide) rfl ?_
        refine g_goto (pc := 41) C 9 dX3_putTreeIn_41 (by decide) ?_
        refine g_sub [1, 2, 3, 4, 5, 0] (lv' := [(0, .ref a.1), (1, .ref a.2.2.1.1), (2, .int x2), (3, .int x3), (4, .int x4), (5, .int (x5 + 1))]) rfl ?_
        exact ih v35 x2 x3 x4 (x5 + 1) hf
  rw [S_putTreeInA] at hf
  refine g_aload_n (pc := 0) C 1 dX3_putTreeIn_0 rfl ?_
  obtain ⟨v1, h1, hf⟩ := Option.bind_eq_some_iff.mp hf
  refine g_callV' (pc := 1) hla C (c_X4_size l D cI cS a.2.2.1 s.2.1 v1 h1) gg_RX3_71 hd_X4_size (by decide) rfl rfl rfl rfl (Nat.le_of_ble_eq_true rfl) dX3_putTreeIn_1 (seS_0clip cI cS a s) (seS_0clip cI cS a s).symm [.int v1] rfl ?_
  refine g_istore (pc := 4) C [(4, .int v1), (0, .ref a.1), (1, .ref a.2.2.1.1), (2, .int x2), (3, .int x3)] dX3_putTreeIn_4 (by decide) rfl ?_
  refine g_iconst (pc := 6) C 0 dX3_putTreeIn_6 (by decide) ?_
  refine g_istore (pc := 7) C [(5, .int 0), (4, .int v1), (0, .ref a.1), (1, .ref a.2.2.1.1), (2, .int x2), (3, .int x3)] dX3_putTreeIn_7 (by decide) rfl ?_
  refine g_sub [2, 3, 4, 5, 1, 0] (lv' := [(0, .ref a.1), (1, .ref a.2.2.1.1), (2, .int x2), (3, .int x3), (4, .int v1), (5, .int 0)]) rfl ?_
  exact L9 1000 s x2 x3 v1 0 hf
set_option maxHeartbeats 4000000 in
set_option maxRecDepth 100000 in
theorem c_X3_numberOfMark (l : Launch) (D : va_G) (cI cS : ClassId) (a : aS) (s : ST) (x1 : Int32) (out : Int32) (hf : S_numberOfMark s x1 = some out) : kM l D (kTy cI cS) yX3_numberOfMark ct_X3_numberOfMark rm_X3_numberOfMark [.ref a.1, .int x1] [wS cI cS a s] (kEq (some (.int out)) [wS cI cS a s]) := by
  refine k_methodE cX3_numberOfMark 2 (some .int) RX3 rfl [(0, .ref a.1), (1, .int x1)] rfl (by decide +kernel) (Nat.le_of_ble_eq_true rfl) (fun κ A hla C => ?_)
  refine g_chunks (flS cI cS a s).symm ?_
  rw [S_numberOfMark] at hf
  refine g_aload_n (pc := 0) C 0 dX3_numberOfMark_0 rfl ?_
  refine g_aload_n (pc := 1) C 0 dX3_numberOfMark_1 rfl ?_
  refine gf_RX3_33 (pc := 2) C 0 rfl dX3_numberOfMark_2 ?_
  refine g_iload_n (pc := 5) C 1 dX3_numberOfMark_5 rfl ?_
  obtain ⟨v6, h6, hf⟩ := Option.bind_eq_some_iff.mp hf
  refine g_callV' (pc := 6) hla C (c_X1_at l D cI cS a.2.2.2.2.2 4 s.2.2.2.2.1 x1 v6 h6) gg_RX3_115 hd_X1_at (by decide) rfl rfl rfl rfl (Nat.le_of_ble_eq_true rfl) dX3_numberOfMark_6 (seS_0marks cI cS a s) (seS_0marks cI cS a s).symm [.int v6, .ref a.1] rfl ?_
  obtain ⟨v9, h9, hf⟩ := Option.bind_eq_some_iff.mp hf
  refine g_callV' (pc := 9) hla C (c_X3_numberOfKey l D cI cS a s v6 v9 h9) gg_RX3_118 hd_X3_numberOfKey (by decide) rfl rfl rfl rfl (Nat.le_of_ble_eq_true rfl) dX3_numberOfMark_9 (seS_0 cI cS a s) (seS_0 cI cS a s).symm [.int v9] rfl ?_
  have e := Option.some.inj hf; subst e
  exact g_ri (pc := 12) C rfl (flS cI cS a s) dX3_numberOfMark_12
set_option maxHeartbeats 4000000 in
set_option maxRecDepth 100000 in
theorem c_X3_putMarkAtPlace (l : Launch) (D : va_G) (cI cS : ClassId) (a : aS) (s : ST) (x1 : Int32) (out : ST) (hf : S_putMarkAtPlace s x1 = some out) : kM l D (kTy cI cS) yX3_putMarkAtPlace ct_X3_putMarkAtPlace rm_X3_putMarkAtPlace [.ref a.1, .int x1] [wS cI cS a s] (kEq (none) [wS cI cS a out]) := by
  refine k_methodE cX3_putMarkAtPlace 2 none RX3 rfl [(0, .ref a.1), (1, .int x1)] rfl (by decide +kernel) (Nat.le_of_ble_eq_true rfl) (fun κ A hla C => ?_)
  refine g_chunks (flS cI cS a s).symm ?_
  rw [S_putMarkAtPlace] at hf
  refine g_aload_n (pc := 0) C 0 dX3_putMarkAtPlace_0 rfl ?_
  refine gf_RX3_33 (pc := 1) C 0 rfl dX3_putMarkAtPlace_1 ?_
  refine g_iload_n (pc := 4) C 1 dX3_putMarkAtPlace_4 rfl ?_
  refine g_aload_n (pc := 5) C 0 dX3_putMarkAtPlace_5 rfl ?_
  refine gf_RX3_26 (pc := 6) C 0 rfl dX3_putMarkAtPlace_6 ?_
  refine g_aload_n (pc := 9) C 0 dX3_putMarkAtPlace_9 rfl ?_
  refine gf_RX3_46 (pc := 10) C 0 rfl dX3_putMarkAtPlace_10 ?_
  obtain ⟨v13, h13, hf⟩ := Option.bind_eq_some_iff.mp hf
  refine g_callV' (pc := 13) hla C (c_X1_at l D cI cS a.2.2.2.1 40 s.2.2.1 s.2.2.2.2.2.1 v13 h13) gg_RX3_115 hd_X1_at (by decide) rfl rfl rfl rfl (Nat.le_of_ble_eq_true rfl) dX3_putMarkAtPlace_13 (seS_0keys cI cS a s) (seS_0keys cI cS a s).symm [.int v13, .int x1, .ref a.2.2.2.2.2.1] rfl ?_
  obtain ⟨v16, h16, hf⟩ := Option.bind_eq_some_iff.mp hf
  refine g_callV' (pc := 16) hla C (c_X1_put l D cI cS a.2.2.2.2.2 4 s.2.2.2.2.1 x1 v13 v16 h16) gg_RX3_121 hd_X1_put (by decide) rfl rfl rfl rfl (Nat.le_of_ble_eq_true rfl) dX3_putMarkAtPlace_16 (seS_0marks cI cS a s) (seS_0marks cI cS a (s.1, s.2.1, s.2.2.1, s.2.2.2.1, v16, s.2.2.2.2.2.1, s.2.2.2.2.2.2)).symm [] rfl ?_
  have e := Option.some.inj hf; subst e
  exact g_rv (pc := 19) C rfl (flS cI cS a (s.1, s.2.1, s.2.2.1, s.2.2.2.1, v16, s.2.2.2.2.2.1, s.2.2.2.2.2.2)) dX3_putMarkAtPlace_19
set_option maxHeartbeats 4000000 in
set_option maxRecDepth 100000 in
theorem c_X3_marksAt (l : Launch) (D : va_G) (cI cS : ClassId) (a : aS) (s : ST) (x1 : Int32) (out : Int32) (hf : S_marksAt s x1 = some out) : kM l D (kTy cI cS) yX3_marksAt ct_X3_marksAt rm_X3_marksAt [.ref a.1, .int x1] [wS cI cS a s] (kEq (some (.int out)) [wS cI cS a s]) := by
  refine k_methodE cX3_marksAt 4 (some .int) RX3 rfl [(0, .ref a.1), (1, .int x1)] rfl (by decide +kernel) (Nat.le_of_ble_eq_true rfl) (fun κ A hla C => ?_)
  refine g_chunks (flS cI cS a s).symm ?_
  have L4 : ∀ (fu : Nat) (s : ST) (x1 : Int32) (x2 : Int32) (x3 : Int32), S_marksAt_L4 fu s x1 x2 x3 = some out → kG κ D A 4 0 0 (kF κ D A (some (.int out)) [wS cI cS a s]) (csS cI cS a s) [(0, .ref a.1), (1, .int x1), (2, .int x2), (3, .int x3)] 4 [] := by
    intro fu; induction fu with
    | zero => intro s x1 x2 x3 hf; rw [S_marksAt_L4] at hf; cases hf
    | succ fu ih =>
      intro s x1 x2 x3 hf; rw [S_marksAt_L4] at hf
      refine g_iload_n (pc := 4) C 3 dX3_marksAt_4 rfl ?_
      refine g_iconst (pc := 5) C 4 dX3_marksAt_5 (by decide) ?_
      refine g_icmp_ge (pc := 6) C 30 dX3_marksAt_6 (by decide) (fun (c6 : 4 ≤ x3) => ?_) (fun (c6 : ¬ 4 ≤ x3) => ?_)
      · have hf := k_pos c6 hf
        refine g_iload_n (pc := 30) C 2 dX3_marksAt_30 rfl ?_
        have e := Option.some.inj hf; subst e
        exact g_ri (pc := 31) C rfl (flS cI cS a s) dX3_marksAt_31
      · have hf := k_neg c6 hf
        refine g_aload_n (pc := 9) C 0 dX3_marksAt_9 rfl ?_
        refine g_iload_n (pc := 10) C 3 dX3_marksAt_10 rfl ?_
        obtain ⟨v11, h11, hf⟩ := Option.bind_eq_some_iff.mp hf
        refine g_callV' (pc := 11) hla C (c_X3_numberOfMark l D cI cS a s x3 v11 h11) gg_RX3_124 hd_X3_numberOfMark (by decide) rfl rfl rfl rfl (Nat.le_of_ble_eq_true rfl) dX3_marksAt_11 (seS_0 cI cS a s) (seS_0 cI cS a s).symm [.int v11] rfl ?_
        refine g_iload_n (pc := 14) C 1 dX3_marksAt_14 rfl ?_
        refine g_icmp_ne (pc := 15) C 24 dX3_marksAt_15 (by decide) (fun (c15 : ¬ v11 = x1) => ?_) (fun (c15 : v11 = x1) => ?_)
        · have hf := k_neg c15 hf
          refine g_iinc (pc := 24) C 3 (x3 + 1) [(3, .int (x3 + 1)), (0, .ref a.1), (1, .int x1), (2, .int x2)] dX3_marksAt_24 rfl (congrArg (HAdd.hAdd _) (by decide)) (by decide) rfl ?_
          refine g_goto (pc := 27) C 4 dX3_marksAt_27 (by decide) ?_
          refine g_sub [1, 2, 3, 0] (lv' := [(0, .ref a.1), (1, .int x1), (2, .int x2), (3, .int (x3 + 1))]) rfl ?_
          exact ih s x1 x2 (x3 + 1) hf
        · have hf := k_pos c15 hf
          refine g_iload_n (pc := 18) C 2 dX3_marksAt_18 rfl ?_
          refine g_iconst (pc := 19) C 1 dX3_marksAt_19 (by decide) ?_
          refine g_iload_n (pc := 20) C 3 dX3_marksAt_20 rfl ?_
          refine g_ishl (pc := 21) C dX3_marksAt_21 ?_
          refine g_ior (pc := 22) C dX3_marksAt_22 ?_
          refine g_istore_n (pc := 23) C [(2, .int (x2 ||| (1 <<< (x3 &&& 31)))), (0, .ref a.1), (1, .int x1), (3, .int x3)] dX3_marksAt_23 (by decide) rfl ?_
          refine g_iinc (pc := 24) C 3 (x3 + 1) [(3, .int (x3 + 1)), (2, .int (x2 ||| (1 <<< (x3 &&& 31)))), (0, .ref a.1), (1, .int x1)] dX3_marksAt_24 rfl (congrArg (HAdd.hAdd _) (by decide)) (by decide) rfl ?_
          refine g_goto (pc := 27) C 4 dX3_marksAt_27 (by decide) ?_
          refine g_sub [2, 3, 1, 0] (lv' := [(0, .ref a.1), (1, .int x1), (2, .int (x2 ||| (1 <<< (x3 &&& 31)))), (3, .int (x3 + 1))]) rfl ?_
          exact ih s x1 (x2 ||| (1 <<< (x3 &&& 31))) (x3 + 1) hf
  rw [S_marksAt] at hf
  refine g_iconst (pc := 0) C 0 dX3_marksAt_0 (by decide) ?_
  refine g_istore_n (pc := 1) C [(2, .int 0), (0, .ref a.1), (1, .int x1)] dX3_marksAt_1 (by decide) rfl ?_
  refine g_iconst (pc := 2) C 0 dX3_marksAt_2 (by decide) ?_
  refine g_istore_n (pc := 3) C [(3, .int 0), (2, .int 0), (0, .ref a.1), (1, .int x1)] dX3_marksAt_3 (by decide) rfl ?_
  refine g_sub [2, 3, 1, 0] (lv' := [(0, .ref a.1), (1, .int x1), (2, .int 0), (3, .int 0)]) rfl ?_
  exact L4 1000 s x1 0 0 hf
set_option maxHeartbeats 4000000 in
set_option maxRecDepth 100000 in
theorem c_X3_clearMarks (l : Launch) (D : va_G) (cI cS : ClassId) (a : aS) (s : ST) (out : ST) (hf : S_clearMarks s = some out) : kM l D (kTy cI cS) yX3_clearMarks ct_X3_clearMarks rm_X3_clearMarks [.ref a.1] [wS cI cS a s] (kEq (none) [wS cI cS a out]) := by
  refine k_methodE cX3_clearMarks 2 none RX3 rfl [(0, .ref a.1)] rfl (by decide +kernel) (Nat.le_of_ble_eq_true rfl) (fun κ A hla C => ?_)
  refine g_chunks (flS cI cS a s).symm ?_
  have L9 : ∀ (fu : Nat) (s : ST) (x1 : Int32), S_clearMarks_L9 fu s x1 = some out → kG κ D A 2 0 0 (kF κ D A (none) [wS cI cS a out]) (csS cI cS a s) [(0, .ref a.1), (1, .int x1)] 9 [] := by
    intro fu; induction fu with
    | zero => intro s x1 hf; rw [S_clearMarks_L9] at hf; cases hf
    | succ fu ih =>
      intro s x1 hf; rw [S_clearMarks_L9] at hf
      refine g_iload_n (pc := 9) C 1 dX3_clearMarks_9 rfl ?_
      refine g_iconst (pc := 10) C 4 dX3_clearMarks_10 (by decide) ?_
      refine g_icmp_ge (pc := 11) C 28 dX3_clearMarks_11 (by decide) (fun (c11 : 4 ≤ x1) => ?_) (fun (c11 : ¬ 4 ≤ x1) => ?_)
      · have hf := k_pos c11 hf
        have e := Option.some.inj hf; subst e
        exact g_rv (pc := 28) C rfl (flS cI cS a s) dX3_clearMarks_28
      · have hf := k_neg c11 hf
        refine g_aload_n (pc := 14) C 0 dX3_clearMarks_14 rfl ?_
        refine gf_RX3_33 (pc := 15) C 0 rfl dX3_clearMarks_15 ?_
        refine g_iconst (pc := 18) C (-1) dX3_clearMarks_18 (by decide) ?_
        obtain ⟨v19, h19, hf⟩ := Option.bind_eq_some_iff.mp hf
        refine g_callV' (pc := 19) hla C (c_X1_add l D cI cS a.2.2.2.2.2 4 s.2.2.2.2.1 (-1) v19 h19) gg_RX3_61 hd_X1_add (by decide) rfl rfl rfl rfl (Nat.le_of_ble_eq_true rfl) dX3_clearMarks_19 (seS_0marks cI cS a s) (seS_0marks cI cS a (s.1, s.2.1, s.2.2.1, s.2.2.2.1, v19, s.2.2.2.2.2.1, s.2.2.2.2.2.2)).symm [] rfl ?_
        refine g_iinc (pc := 22) C 1 (x1 + 1) [(1, .int (x1 + 1)), (0, .ref a.1)] dX3_clearMarks_22 rfl (congrArg (HAdd.hAdd _) (by decide)) (by decide) rfl ?_
        refine g_goto (pc := 25) C 9 dX3_clearMarks_25 (by decide) ?_
        refine g_sub [1, 0] (lv' := [(0, .ref a.1), (1, .int (x1 + 1))]) rfl ?_
        exact ih (s.1, s.2.1, s.2.2.1, s.2.2.2.1, v19, s.2.2.2.2.2.1, s.2.2.2.2.2.2) (x1 + 1) hf
  rw [S_clearMarks] at hf
  refine g_aload_n (pc := 0) C 0 dX3_clearMarks_0 rfl ?_
  refine gf_RX3_33 (pc := 1) C 0 rfl dX3_clearMarks_1 ?_
  obtain ⟨v4, h4, hf⟩ := Option.bind_eq_some_iff.mp hf
  refine g_callV' (pc := 4) hla C (c_X1_clear l D cI cS a.2.2.2.2.2 4 s.2.2.2.2.1 v4 h4) gg_RX3_56 hd_X1_clear (by decide) rfl rfl rfl rfl (Nat.le_of_ble_eq_true rfl) dX3_clearMarks_4 (seS_0marks cI cS a s) (seS_0marks cI cS a (s.1, s.2.1, s.2.2.1, s.2.2.2.1, v4, s.2.2.2.2.2.1, s.2.2.2.2.2.2)).symm [] rfl ?_
  refine g_iconst (pc := 7) C 0 dX3_clearMarks_7 (by decide) ?_
  refine g_istore_n (pc := 8) C [(1, .int 0), (0, .ref a.1)] dX3_clearMarks_8 (by decide) rfl ?_
  refine g_sub [1, 0] (lv' := [(0, .ref a.1), (1, .int 0)]) rfl ?_
  exact L9 1000 (s.1, s.2.1, s.2.2.1, s.2.2.2.1, v4, s.2.2.2.2.2.1, s.2.2.2.2.2.2) 0 hf
set_option maxHeartbeats 4000000 in
set_option maxRecDepth 100000 in
theorem c_X3_beginWith (l : Launch) (D : va_G) (cI cS : ClassId) (a : aS) (s : ST) (b : aT) (t' : TR) (out : ST) (hf : S_beginWith s t' = some out) : kM l D (kTy cI cS) yX3_beginWith ct_X3_beginWith rm_X3_beginWith [.ref a.1, .ref b.1] [wS cI cS a s, wT cI b t'] (kEq (none) [wS cI cS a out, wT cI b t']) := by
  refine k_methodE cX3_beginWith 2 none RX3 rfl [(0, .ref a.1), (1, .ref b.1)] rfl (by decide +kernel) (Nat.le_of_ble_eq_true rfl) (fun κ A hla C => ?_)
  refine g_chunks (flST cI cS a s b t').symm ?_
  rw [S_beginWith] at hf
  refine g_aload_n (pc := 0) C 0 dX3_beginWith_0 rfl ?_
  refine gf_RX3_12 (pc := 1) C 0 rfl dX3_beginWith_1 ?_
  obtain ⟨v4, h4, hf⟩ := Option.bind_eq_some_iff.mp hf
  refine g_callV' (pc := 4) hla C (c_X4_clear l D cI cS a.2.1 s.1 v4 h4) gg_RX3_53 hd_X4_clear (by decide) rfl rfl rfl rfl (Nat.le_of_ble_eq_true rfl) dX3_beginWith_4 (seST_0tree cI cS a s b t') (seST_0tree cI cS a (v4, s.2.1, s.2.2.1, s.2.2.2.1, s.2.2.2.2.1, s.2.2.2.2.2.1, s.2.2.2.2.2.2) b t').symm [] rfl ?_
  refine g_aload_n (pc := 7) C 0 dX3_beginWith_7 rfl ?_
  refine gf_RX3_26 (pc := 8) C 0 rfl dX3_beginWith_8 ?_
  obtain ⟨v11, h11, hf⟩ := Option.bind_eq_some_iff.mp hf
  refine g_callV' (pc := 11) hla C (c_X1_clear l D cI cS a.2.2.2.1 40 s.2.2.1 v11 h11) gg_RX3_56 hd_X1_clear (by decide) rfl rfl rfl rfl (Nat.le_of_ble_eq_true rfl) dX3_beginWith_11 (seST_0keys cI cS a (v4, s.2.1, s.2.2.1, s.2.2.2.1, s.2.2.2.2.1, s.2.2.2.2.2.1, s.2.2.2.2.2.2) b t') (seST_0keys cI cS a (v4, s.2.1, v11, s.2.2.2.1, s.2.2.2.2.1, s.2.2.2.2.2.1, s.2.2.2.2.2.2) b t').symm [] rfl ?_
  refine g_aload_n (pc := 14) C 0 dX3_beginWith_14 rfl ?_
  refine gf_RX3_30 (pc := 15) C 0 rfl dX3_beginWith_15 ?_
  obtain ⟨v18, h18, hf⟩ := Option.bind_eq_some_iff.mp hf
  refine g_callV' (pc := 18) hla C (c_X1_clear l D cI cS a.2.2.2.2.1 8 s.2.2.2.1 v18 h18) gg_RX3_56 hd_X1_clear (by decide) rfl rfl rfl rfl (Nat.le_of_ble_eq_true rfl) dX3_beginWith_18 (seST_0walks cI cS a (v4, s.2.1, v11, s.2.2.2.1, s.2.2.2.2.1, s.2.2.2.2.2.1, s.2.2.2.2.2.2) b t') (seST_0walks cI cS a (v4, s.2.1, v11, v18, s.2.2.2.2.1, s.2.2.2.2.2.1, s.2.2.2.2.2.2) b t').symm [] rfl ?_
  refine g_aload_n (pc := 21) C 0 dX3_beginWith_21 rfl ?_
  obtain ⟨v22, h22, hf⟩ := Option.bind_eq_some_iff.mp hf
  refine g_callV' (pc := 22) hla C (c_X3_clearMarks l D cI cS a (v4, s.2.1, v11, v18, s.2.2.2.2.1, s.2.2.2.2.2.1, s.2.2.2.2.2.2) v22 h22) gg_RX3_36 hd_X3_clearMarks (by decide) rfl rfl rfl rfl (Nat.le_of_ble_eq_true rfl) dX3_beginWith_22 (seST_0 cI cS a (v4, s.2.1, v11, v18, s.2.2.2.2.1, s.2.2.2.2.2.1, s.2.2.2.2.2.2) b t') (seST_0 cI cS a v22 b t').symm [] rfl ?_
  refine g_aload_n (pc := 25) C 0 dX3_beginWith_25 rfl ?_
  refine g_iconst (pc := 26) C 0 dX3_beginWith_26 (by decide) ?_
  refine gp_RX3_46 (pc := 27) C 0 (cs' := csST cI cS a (v22.1, v22.2.1, v22.2.2.1, v22.2.2.2.1, v22.2.2.2.2.1, 0, v22.2.2.2.2.2.2) b t') rfl rfl dX3_beginWith_27 ?_
  refine g_aload_n (pc := 30) C 0 dX3_beginWith_30 rfl ?_
  refine g_aload_n (pc := 31) C 1 dX3_beginWith_31 rfl ?_
  refine g_iconst (pc := 32) C 0 dX3_beginWith_32 (by decide) ?_
  refine g_iconst (pc := 33) C 0 dX3_beginWith_33 (by decide) ?_
  obtain ⟨v34, h34, hf⟩ := Option.bind_eq_some_iff.mp hf
  refine g_callV' (pc := 34) hla C (c_X3_putTreeIn l D cI cS a (v22.1, v22.2.1, v22.2.2.1, v22.2.2.2.1, v22.2.2.2.2.1, 0, v22.2.2.2.2.2.2) b t' 0 0 v34 h34) gg_RX3_57 hd_X3_putTreeIn (by decide) rfl rfl rfl rfl (Nat.le_of_ble_eq_true rfl) dX3_beginWith_34 (seST_0_1 cI cS a (v22.1, v22.2.1, v22.2.2.1, v22.2.2.2.1, v22.2.2.2.2.1, 0, v22.2.2.2.2.2.2) b t') (seST_0_1 cI cS a v34 b t').symm [] rfl ?_
  have e := Option.some.inj hf; subst e
  exact g_rv (pc := 37) C rfl (flST cI cS a v34 b t') dX3_beginWith_37
