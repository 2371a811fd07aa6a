section HistRows
variable {κ : kT} {D : va_G} {cI cS : ClassId} {A : Nat → Prop} {cc : ByteArray} {nL : Nat} {own : String} {rm : Room} {ret : Option FieldType} {nm : String} {k n : Nat} {Q : State → Prop} {cs : List va_W} {lv : List (Nat × Value)} {pc : Nat} {st : List Value}
theorem g_aldq (C : kC κ D (kTy cI cS) A cc nL own rm ret nm) (j : Nat) {a : Nat} {N : Nat} {f : Nat → Option Nat} {i : Int32} {w : va_W} {b : Nat} (hj : cs[j]? = some ((a, .inl (cS, N, .inr (.inr (.inr (.inr f))))) :: w)) (hin : ¬ (i < 0 ∨ N ≤ ix i)) (hb : f (ix i) = some b) (hd : decode cc pc = .ok (.aaload, 1)) (kk : kG κ D A nL k n Q cs lv (pc + 1) (.ref b :: st)) : kG κ D A nL k n Q cs lv pc (.int i :: .ref a :: st) := by
  intro H locs ls hP hD hS hl
  obtain ⟨q0, hq⟩ := k_in hj
  refine va_aldq C.1 C.2.1 C.2.2.2.2.2.1 hP q0 1 hq rfl hin hd ?_
  have e : va_rf (f i.toNatClampNeg) = .ref b := by rw [show f i.toNatClampNeg = some b from hb]; rfl
  rw [e]
  exact kk H locs ls hP hD hS hl
end HistRows
set_option maxHeartbeats 4000000 in
set_option maxRecDepth 100000 in
theorem c_X0_slotAt (l : Launch) (D : va_G) (cI cS : ClassId) (a : aH) (h : HI) (x1 y : Int32) (b : Nat) (hy : irem (h.2.1 + x1) 4 = y) (h0 : ¬ y < 0) (h4 : ¬ 4 ≤ y) (hin : ¬ (y < 0 ∨ 4 ≤ ix y)) (hb : hSl a (ix y) = some b) : kM l D (kTy cI cS) yX0_slotAt ct_X0_slotAt rm_X0_slotAt [.ref a.1, .int x1] [wH cI cS a h] (kEq (some (.ref b)) [wH cI cS a h]) := by
  refine k_methodE cX0_slotAt 3 (some (.object RX3)) RX0 rfl [(0, .ref a.1), (1, .int x1)] rfl (by decide +kernel) (Nat.le_of_ble_eq_true rfl) (fun κ A hla C => ?_)
  refine g_chunks (flH cI cS a h).symm ?_
  refine g_aload_n (pc := 0) C 0 dX0_slotAt_0 rfl ?_
  refine gf_RX0_22 (pc := 1) C 0 rfl dX0_slotAt_1 ?_
  refine g_iload_n (pc := 4) C 1 dX0_slotAt_4 rfl ?_
  refine g_iadd (pc := 5) C dX0_slotAt_5 ?_
  refine g_iconst (pc := 6) C 4 dX0_slotAt_6 (by decide) ?_
  refine g_irem (pc := 7) C dX0_slotAt_7 (by decide) ?_
  rw [show h.2.1 + x1 - (h.2.1 + x1) / 4 * 4 = y from hy]
  refine g_istore_n (pc := 8) C [(2, .int y), (0, .ref a.1), (1, .int x1)] dX0_slotAt_8 (by decide) rfl ?_
  refine g_iload_n (pc := 9) C 0 dX0_slotAt_9 rfl ?_
  refine g_if_lt (pc := 10) C 31 dX0_slotAt_10 (by decide) (fun q => absurd q h0) (fun _ => ?_)
  refine g_iload_n (pc := 13) C 0 dX0_slotAt_13 rfl ?_
  refine g_aload_n (pc := 14) C 1 dX0_slotAt_14 rfl ?_
  refine gf_RX0_11 (pc := 15) C 0 rfl dX0_slotAt_15 ?_
  refine g_alen (pc := 18) C 1 1 4 rfl rfl (show Int32.ofNat 4 = 4 from by decide) dX0_slotAt_18 ?_
  refine g_icmp_ge (pc := 19) C 31 dX0_slotAt_19 (by decide) (fun q => absurd q h4) (fun _ => ?_)
  refine g_aload_n (pc := 22) C 1 dX0_slotAt_22 rfl ?_
  refine gf_RX0_11 (pc := 23) C 0 rfl dX0_slotAt_23 ?_
  refine g_iload_n (pc := 26) C 0 dX0_slotAt_26 rfl ?_
  refine g_aldq (pc := 27) C 1 rfl hin hb dX0_slotAt_27 ?_
  refine g_goto (pc := 28) C 32 dX0_slotAt_28 (by decide) ?_
  exact g_chunks (flH cI cS a h) (g_ret_a (pc := 32) (cn := RX3) C rfl ⟨rfl, rfl⟩ dX0_slotAt_32)
def reSl0 (cI cS : ClassId) (a : aH) (h : HI) : List va_W := [hdH a h, arH cS a, wS cI cS a.2.2.2.1 h.1.2.1, wS cI cS a.2.2.2.2.1 h.1.2.2.1, wS cI cS a.2.2.2.2.2 h.1.2.2.2]
theorem seSl0 (cI cS : ClassId) (a : aH) (h : HI) (b : aS) (s : ST) : (csHS cI cS a h b s).flatten.Perm (([wS cI cS a.2.2.1 h.1.1, wS cI cS b s] : List va_W) ++ reSl0 cI cS a h).flatten :=
  k_sel (N := 7) (pieces := [wS cI cS a.2.2.1 h.1.1, wS cI cS b s]) [2, 6] [0, 1, 3, 4, 5] rfl (by decide) rfl rfl rfl
theorem sfSl0 (cI cS : ClassId) (a : aH) (h : HI) (b : aS) (s : ST) : (csHS cI cS a h b s).flatten.Perm (([wS cI cS b s, wS cI cS a.2.2.1 h.1.1] : List va_W) ++ reSl0 cI cS a h).flatten :=
  k_sel (N := 7) (pieces := [wS cI cS b s, wS cI cS a.2.2.1 h.1.1]) [6, 2] [0, 1, 3, 4, 5] rfl (by decide) rfl rfl rfl
def reSl1 (cI cS : ClassId) (a : aH) (h : HI) : List va_W := [hdH a h, arH cS a, wS cI cS a.2.2.1 h.1.1, wS cI cS a.2.2.2.2.1 h.1.2.2.1, wS cI cS a.2.2.2.2.2 h.1.2.2.2]
theorem seSl1 (cI cS : ClassId) (a : aH) (h : HI) (b : aS) (s : ST) : (csHS cI cS a h b s).flatten.Perm (([wS cI cS a.2.2.2.1 h.1.2.1, wS cI cS b s] : List va_W) ++ reSl1 cI cS a h).flatten :=
  k_sel (N := 7) (pieces := [wS cI cS a.2.2.2.1 h.1.2.1, wS cI cS b s]) [3, 6] [0, 1, 2, 4, 5] rfl (by decide) rfl rfl rfl
theorem sfSl1 (cI cS : ClassId) (a : aH) (h : HI) (b : aS) (s : ST) : (csHS cI cS a h b s).flatten.Perm (([wS cI cS b s, wS cI cS a.2.2.2.1 h.1.2.1] : List va_W) ++ reSl1 cI cS a h).flatten :=
  k_sel (N := 7) (pieces := [wS cI cS b s, wS cI cS a.2.2.2.1 h.1.2.1]) [6, 3] [0, 1, 2, 4, 5] rfl (by decide) rfl rfl rfl
def reSl2 (cI cS : ClassId) (a : aH) (h : HI) : List va_W := [hdH a h, arH cS a, wS cI cS a.2.2.1 h.1.1, wS cI cS a.2.2.2.1 h.1.2.1, wS cI cS a.2.2.2.2.2 h.1.2.2.2]
theorem seSl2 (cI cS : ClassId) (a : aH) (h : HI) (b : aS) (s : ST) : (csHS cI cS a h b s).flatten.Perm (([wS cI cS a.2.2.2.2.1 h.1.2.2.1, wS cI cS b s] : List va_W) ++ reSl2 cI cS a h).flatten :=
  k_sel (N := 7) (pieces := [wS cI cS a.2.2.2.2.1 h.1.2.2.1, wS cI cS b s]) [4, 6] [0, 1, 2, 3, 5] rfl (by decide) rfl rfl rfl
theorem sfSl2 (cI cS : ClassId) (a : aH) (h : HI) (b : aS) (s : ST) : (csHS cI cS a h b s).flatten.Perm (([wS cI cS b s, wS cI cS a.2.2.2.2.1 h.1.2.2.1] : List va_W) ++ reSl2 cI cS a h).flatten :=
  k_sel (N := 7) (pieces := [wS cI cS b s, wS cI cS a.2.2.2.2.1 h.1.2.2.1]) [6, 4] [0, 1, 2, 3, 5] rfl (by decide) rfl rfl rfl
def reSl3 (cI cS : ClassId) (a : aH) (h : HI) : List va_W := [hdH a h, arH cS a, wS cI cS a.2.2.1 h.1.1, wS cI cS a.2.2.2.1 h.1.2.1, wS cI cS a.2.2.2.2.1 h.1.2.2.1]
theorem seSl3 (cI cS : ClassId) (a : aH) (h : HI) (b : aS) (s : ST) : (csHS cI cS a h b s).flatten.Perm (([wS cI cS a.2.2.2.2.2 h.1.2.2.2, wS cI cS b s] : List va_W) ++ reSl3 cI cS a h).flatten :=
  k_sel (N := 7) (pieces := [wS cI cS a.2.2.2.2.2 h.1.2.2.2, wS cI cS b s]) [5, 6] [0, 1, 2, 3, 4] rfl (by decide) rfl rfl rfl
theorem sfSl3 (cI cS : ClassId) (a : aH) (h : HI) (b : aS) (s : ST) : (csHS cI cS a h b s).flatten.Perm (([wS cI cS b s, wS cI cS a.2.2.2.2.2 h.1.2.2.2] : List va_W) ++ reSl3 cI cS a h).flatten :=
  k_sel (N := 7) (pieces := [wS cI cS b s, wS cI cS a.2.2.2.2.2 h.1.2.2.2]) [6, 5] [0, 1, 2, 3, 4] rfl (by decide) rfl rfl rfl
def reHSl (cI cS : ClassId) (b : aS) (s : ST) : List va_W := [wS cI cS b s]
theorem seHSl (cI cS : ClassId) (a : aH) (h : HI) (b : aS) (s : ST) : (csHS cI cS a h b s).flatten.Perm (([wH cI cS a h] : List va_W) ++ reHSl cI cS b s).flatten :=
  k_sel (N := 7) (pieces := [hdH a h, arH cS a, wS cI cS a.2.2.1 h.1.1, wS cI cS a.2.2.2.1 h.1.2.1, wS cI cS a.2.2.2.2.1 h.1.2.2.1, wS cI cS a.2.2.2.2.2 h.1.2.2.2]) [0, 1, 2, 3, 4, 5] [6] rfl (by decide) rfl rfl (by simp only [wH, List.flatten_cons, List.flatten_nil, List.append_nil, List.append_assoc])
set_option maxHeartbeats 4000000 in
set_option maxRecDepth 100000 in
theorem c_X0_keep (l : Launch) (D : va_G) (cI cS : ClassId) (a : aH) (h : HI) (b : aS) (s : ST) (out : HI) (hf : H_keep h s = some out) : kM l D (kTy cI cS) yX0_keep ct_X0_keep rm_X0_keep [.ref a.1, .ref b.1] [wH cI cS a h, wS cI cS b s] (kEq none [wH cI cS a out, wS cI cS b s]) := by
  refine k_methodE cX0_keep 3 none RX0 rfl [(0, .ref a.1), (1, .ref b.1)] rfl (by decide +kernel) (Nat.le_of_ble_eq_true rfl) (fun κ A hla C => ?_)
  refine g_chunks (flHS cI cS a h b s).symm ?_
  have J30 : ∀ (o z : Int32), H_keep1 h s o z = some out → kG κ D A 3 0 0 (kF κ D A none [wH cI cS a out, wS cI cS b s]) (csHS cI cS a (h.1, o, z) b s) [(0, .ref a.1), (1, .ref b.1)] 30 [] := by
    intro o z hf; rw [H_keep1] at hf
    refine g_aload_n (pc := 30) C 0 dX0_keep_30 rfl ?_
    refine g_aload_n (pc := 31) C 0 dX0_keep_31 rfl ?_
    refine gf_RX0_18 (pc := 32) C 0 rfl dX0_keep_32 ?_
    by_cases w0 : irem (o + z) 4 = 0
    · have hf := k_pos w0 hf
      obtain ⟨v, hv, hf⟩ := Option.bind_eq_some_iff.mp hf
      have e := Option.some.inj hf; subst e
      refine g_callV' (pc := 35) hla C (c_X0_slotAt l D cI cS a (h.1, o, z) z 0 (a.2.2.1.1) w0 (by decide) (by decide) (by decide) rfl) gg_RX0_25 hd_X0_slotAt (by decide) rfl rfl rfl rfl (Nat.le_of_ble_eq_true rfl) dX0_keep_35 (seHSl cI cS a (h.1, o, z) b s) (seHSl cI cS a (h.1, o, z) b s).symm [.ref (a.2.2.1.1)] rfl ?_
      refine g_astore_n (pc := 38) C [(2, .ref (a.2.2.1.1)), (0, .ref a.1), (1, .ref b.1)] dX0_keep_38 (by decide) rfl ?_
      refine g_aload_n (pc := 39) C 0 dX0_keep_39 rfl ?_
      refine g_ifnull (pc := 40) C dX0_keep_40 ?_
      refine g_aload_n (pc := 43) C 0 dX0_keep_43 rfl ?_
      refine g_aload_n (pc := 44) C 2 dX0_keep_44 rfl ?_
      refine g_callV' (pc := 45) hla C (c_X3_takeFrom l D cI cS a.2.2.1 h.1.1 b s v hv) gg_RX0_29 hd_X3_takeFrom (by decide) rfl rfl rfl rfl (Nat.le_of_ble_eq_true rfl) dX0_keep_45 (seSl0 cI cS a (h.1, o, z) b s) (seSl0 cI cS a ((v, h.1.2), o, z) b s).symm [] rfl ?_
      refine g_aload_n (pc := 48) C 1 dX0_keep_48 rfl ?_
      refine g_dup (pc := 49) C dX0_keep_49 rfl ?_
      refine gf_RX0_18 (pc := 50) C 0 rfl dX0_keep_50 ?_
      refine g_iconst (pc := 53) C 1 dX0_keep_53 (by decide) ?_
      refine g_iadd (pc := 54) C dX0_keep_54 ?_
      refine gp_RX0_18 (pc := 55) C 0 (cs' := csHS cI cS a ((v, h.1.2), o, z + 1) b s) rfl rfl dX0_keep_55 ?_
      exact g_rv (pc := 58) C rfl (flHS cI cS a ((v, h.1.2), o, z + 1) b s) dX0_keep_58
    have hf := k_neg w0 hf
    by_cases w1 : irem (o + z) 4 = 1
    · have hf := k_pos w1 hf
      obtain ⟨v, hv, hf⟩ := Option.bind_eq_some_iff.mp hf
      have e := Option.some.inj hf; subst e
      refine g_callV' (pc := 35) hla C (c_X0_slotAt l D cI cS a (h.1, o, z) z 1 (a.2.2.2.1.1) w1 (by decide) (by decide) (by decide) rfl) gg_RX0_25 hd_X0_slotAt (by decide) rfl rfl rfl rfl (Nat.le_of_ble_eq_true rfl) dX0_keep_35 (seHSl cI cS a (h.1, o, z) b s) (seHSl cI cS a (h.1, o, z) b s).symm [.ref (a.2.2.2.1.1)] rfl ?_
      refine g_astore_n (pc := 38) C [(2, .ref (a.2.2.2.1.1)), (0, .ref a.1), (1, .ref b.1)] dX0_keep_38 (by decide) rfl ?_
      refine g_aload_n (pc := 39) C 0 dX0_keep_39 rfl ?_
      refine g_ifnull (pc := 40) C dX0_keep_40 ?_
      refine g_aload_n (pc := 43) C 0 dX0_keep_43 rfl ?_
      refine g_aload_n (pc := 44) C 2 dX0_keep_44 rfl ?_
      refine g_callV' (pc := 45) hla C (c_X3_takeFrom l D cI cS a.2.2.2.1 h.1.2.1 b s v hv) gg_RX0_29 hd_X3_takeFrom (by decide) rfl rfl rfl rfl (Nat.le_of_ble_eq_true rfl) dX0_keep_45 (seSl1 cI cS a (h.1, o, z) b s) (seSl1 cI cS a ((h.1.1, v, h.1.2.2), o, z) b s).symm [] rfl ?_
      refine g_aload_n (pc := 48) C 1 dX0_keep_48 rfl ?_
      refine g_dup (pc := 49) C dX0_keep_49 rfl ?_
      refine gf_RX0_18 (pc := 50) C 0 rfl dX0_keep_50 ?_
      refine g_iconst (pc := 53) C 1 dX0_keep_53 (by decide) ?_
      refine g_iadd (pc := 54) C dX0_keep_54 ?_
      refine gp_RX0_18 (pc := 55) C 0 (cs' := csHS cI cS a ((h.1.1, v, h.1.2.2), o, z + 1) b s) rfl rfl dX0_keep_55 ?_
      exact g_rv (pc := 58) C rfl (flHS cI cS a ((h.1.1, v, h.1.2.2), o, z + 1) b s) dX0_keep_58
    have hf := k_neg w1 hf
    by_cases w2 : irem (o + z) 4 = 2
    · have hf := k_pos w2 hf
      obtain ⟨v, hv, hf⟩ := Option.bind_eq_some_iff.mp hf
      have e := Option.some.inj hf; subst e
      refine g_callV' (pc := 35) hla C (c_X0_slotAt l D cI cS a (h.1, o, z) z 2 (a.2.2.2.2.1.1) w2 (by decide) (by decide) (by decide) rfl) gg_RX0_25 hd_X0_slotAt (by decide) rfl rfl rfl rfl (Nat.le_of_ble_eq_true rfl) dX0_keep_35 (seHSl cI cS a (h.1, o, z) b s) (seHSl cI cS a (h.1, o, z) b s).symm [.ref (a.2.2.2.2.1.1)] rfl ?_
      refine g_astore_n (pc := 38) C [(2, .ref (a.2.2.2.2.1.1)), (0, .ref a.1), (1, .ref b.1)] dX0_keep_38 (by decide) rfl ?_
      refine g_aload_n (pc := 39) C 0 dX0_keep_39 rfl ?_
      refine g_ifnull (pc := 40) C dX0_keep_40 ?_
      refine g_aload_n (pc := 43) C 0 dX0_keep_43 rfl ?_
      refine g_aload_n (pc := 44) C 2 dX0_keep_44 rfl ?_
      refine g_callV' (pc := 45) hla C (c_X3_takeFrom l D cI cS a.2.2.2.2.1 h.1.2.2.1 b s v hv) gg_RX0_29 hd_X3_takeFrom (by decide) rfl rfl rfl rfl (Nat.le_of_ble_eq_true rfl) dX0_keep_45 (seSl2 cI cS a (h.1, o, z) b s) (seSl2 cI cS a ((h.1.1, h.1.2.1, v, h.1.2.2.2), o, z) b s).symm [] rfl ?_
      refine g_aload_n (pc := 48) C 1 dX0_keep_48 rfl ?_
      refine g_dup (pc := 49) C dX0_keep_49 rfl ?_
      refine gf_RX0_18 (pc := 50) C 0 rfl dX0_keep_50 ?_
      refine g_iconst (pc := 53) C 1 dX0_keep_53 (by decide) ?_
      refine g_iadd (pc := 54) C dX0_keep_54 ?_
      refine gp_RX0_18 (pc := 55) C 0 (cs' := csHS cI cS a ((h.1.1, h.1.2.1, v, h.1.2.2.2), o, z + 1) b s) rfl rfl dX0_keep_55 ?_
      exact g_rv (pc := 58) C rfl (flHS cI cS a ((h.1.1, h.1.2.1, v, h.1.2.2.2), o, z + 1) b s) dX0_keep_58
    have hf := k_neg w2 hf
    by_cases w3 : irem (o + z) 4 = 3
    · have hf := k_pos w3 hf
      obtain ⟨v, hv, hf⟩ := Option.bind_eq_some_iff.mp hf
      have e := Option.some.inj hf; subst e
      refine g_callV' (pc := 35) hla C (c_X0_slotAt l D cI cS a (h.1, o, z) z 3 (a.2.2.2.2.2.1) w3 (by decide) (by decide) (by decide) rfl) gg_RX0_25 hd_X0_slotAt (by decide) rfl rfl rfl rfl (Nat.le_of_ble_eq_true rfl) dX0_keep_35 (seHSl cI cS a (h.1, o, z) b s) (seHSl cI cS a (h.1, o, z) b s).symm [.ref (a.2.2.2.2.2.1)] rfl ?_
      refine g_astore_n (pc := 38) C [(2, .ref (a.2.2.2.2.2.1)), (0, .ref a.1), (1, .ref b.1)] dX0_keep_38 (by decide) rfl ?_
      refine g_aload_n (pc := 39) C 0 dX0_keep_39 rfl ?_
      refine g_ifnull (pc := 40) C dX0_keep_40 ?_
      refine g_aload_n (pc := 43) C 0 dX0_keep_43 rfl ?_
      refine g_aload_n (pc := 44) C 2 dX0_keep_44 rfl ?_
      refine g_callV' (pc := 45) hla C (c_X3_takeFrom l D cI cS a.2.2.2.2.2 h.1.2.2.2 b s v hv) gg_RX0_29 hd_X3_takeFrom (by decide) rfl rfl rfl rfl (Nat.le_of_ble_eq_true rfl) dX0_keep_45 (seSl3 cI cS a (h.1, o, z) b s) (seSl3 cI cS a ((h.1.1, h.1.2.1, h.1.2.2.1, v), o, z) b s).symm [] rfl ?_
      refine g_aload_n (pc := 48) C 1 dX0_keep_48 rfl ?_
      refine g_dup (pc := 49) C dX0_keep_49 rfl ?_
      refine gf_RX0_18 (pc := 50) C 0 rfl dX0_keep_50 ?_
      refine g_iconst (pc := 53) C 1 dX0_keep_53 (by decide) ?_
      refine g_iadd (pc := 54) C dX0_keep_54 ?_
      refine gp_RX0_18 (pc := 55) C 0 (cs' := csHS cI cS a ((h.1.1, h.1.2.1, h.1.2.2.1, v), o, z + 1) b s) rfl rfl dX0_keep_55 ?_
      exact g_rv (pc := 58) C rfl (flHS cI cS a ((h.1.1, h.1.2.1, h.1.2.2.1, v), o, z + 1) b s) dX0_keep_58
    have hf := k_neg w3 hf
    cases hf
  rw [H_keep] at hf
  refine g_aload_n (pc := 0) C 0 dX0_keep_0 rfl ?_
  refine gf_RX0_18 (pc := 1) C 0 rfl dX0_keep_1 ?_
  refine g_iconst (pc := 4) C 4 dX0_keep_4 (by decide) ?_
  refine g_icmp_lt (pc := 5) C 30 dX0_keep_5 (by decide) (fun (c5 : h.2.2 < 4) => ?_) (fun (c5 : ¬ h.2.2 < 4) => ?_)
  · have hf := k_neg (Int32.not_le.mpr c5) hf
    exact J30 h.2.1 h.2.2 hf
  · have hf := k_pos (Int32.not_lt.mp c5) hf
    refine g_aload_n (pc := 8) C 0 dX0_keep_8 rfl ?_
    refine g_aload_n (pc := 9) C 0 dX0_keep_9 rfl ?_
    refine gf_RX0_22 (pc := 10) C 0 rfl dX0_keep_10 ?_
    refine g_iconst (pc := 13) C 1 dX0_keep_13 (by decide) ?_
    refine g_iadd (pc := 14) C dX0_keep_14 ?_
    refine g_iconst (pc := 15) C 4 dX0_keep_15 (by decide) ?_
    refine g_irem (pc := 16) C dX0_keep_16 (by decide) ?_
    refine gp_RX0_22 (pc := 17) C 0 (cs' := csHS cI cS a (h.1, irem (h.2.1 + 1) 4, h.2.2) b s) rfl rfl dX0_keep_17 ?_
    refine g_aload_n (pc := 20) C 0 dX0_keep_20 rfl ?_
    refine g_dup (pc := 21) C dX0_keep_21 rfl ?_
    refine gf_RX0_18 (pc := 22) C 0 rfl dX0_keep_22 ?_
    refine g_iconst (pc := 25) C 1 dX0_keep_25 (by decide) ?_
    refine g_isub (pc := 26) C dX0_keep_26 ?_
    refine gp_RX0_18 (pc := 27) C 0 (cs' := csHS cI cS a (h.1, irem (h.2.1 + 1) 4, h.2.2 - 1) b s) rfl rfl dX0_keep_27 ?_
    exact J30 _ _ hf
set_option maxHeartbeats 4000000 in
set_option maxRecDepth 100000 in
theorem c_X0_restore (l : Launch) (D : va_G) (cI cS : ClassId) (a : aH) (h : HI) (b : aS) (s : ST) (out : HI × ST) (hf : H_restore h s = some out) : kM l D (kTy cI cS) yX0_restore ct_X0_restore rm_X0_restore [.ref a.1, .ref b.1] [wH cI cS a h, wS cI cS b s] (kEq none [wH cI cS a out.1, wS cI cS b out.2]) := by
  refine k_methodE cX0_restore 3 none RX0 rfl [(0, .ref a.1), (1, .ref b.1)] rfl (by decide +kernel) (Nat.le_of_ble_eq_true rfl) (fun κ A hla C => ?_)
  refine g_chunks (flHS cI cS a h b s).symm ?_
  rw [H_restore] at hf
  obtain ⟨hz, hf⟩ := k_guard2 hf
  refine g_aload_n (pc := 0) C 0 dX0_restore_0 rfl ?_
  refine gf_RX0_18 (pc := 1) C 0 rfl dX0_restore_1 ?_
  refine g_if_le (pc := 4) C 20 dX0_restore_4 (by decide) (fun q => absurd hz (Int32.not_lt.mpr q)) (fun _ => ?_)
  refine g_aload_n (pc := 7) C 0 dX0_restore_7 rfl ?_
  refine g_aload_n (pc := 8) C 0 dX0_restore_8 rfl ?_
  refine gf_RX0_18 (pc := 9) C 0 rfl dX0_restore_9 ?_
  refine g_iconst (pc := 12) C 1 dX0_restore_12 (by decide) ?_
  refine g_isub (pc := 13) C dX0_restore_13 ?_
  by_cases w0 : irem (h.2.1 + (h.2.2 - 1)) 4 = 0
  · have hf := k_pos w0 hf
    obtain ⟨v, hv, hf⟩ := Option.bind_eq_some_iff.mp hf
    have e := Option.some.inj hf; subst e
    refine g_callV' (pc := 14) hla C (c_X0_slotAt l D cI cS a h (h.2.2 - 1) 0 (a.2.2.1.1) w0 (by decide) (by decide) (by decide) rfl) gg_RX0_25 hd_X0_slotAt (by decide) rfl rfl rfl rfl (Nat.le_of_ble_eq_true rfl) dX0_restore_14 (seHSl cI cS a h b s) (seHSl cI cS a h b s).symm [.ref (a.2.2.1.1)] rfl ?_
    refine g_goto (pc := 17) C 21 dX0_restore_17 (by decide) ?_
    refine g_astore_n (pc := 21) C [(2, .ref (a.2.2.1.1)), (0, .ref a.1), (1, .ref b.1)] dX0_restore_21 (by decide) rfl ?_
    refine g_aload_n (pc := 22) C 0 dX0_restore_22 rfl ?_
    refine g_ifnull (pc := 23) C dX0_restore_23 ?_
    refine g_aload_n (pc := 26) C 2 dX0_restore_26 rfl ?_
    refine g_aload_n (pc := 27) C 0 dX0_restore_27 rfl ?_
    refine g_callV' (pc := 28) hla C (c_X3_takeFrom l D cI cS b s a.2.2.1 h.1.1 v hv) gg_RX0_29 hd_X3_takeFrom (by decide) rfl rfl rfl rfl (Nat.le_of_ble_eq_true rfl) dX0_restore_28 (sfSl0 cI cS a h b s) (sfSl0 cI cS a h b v).symm [] rfl ?_
    refine g_aload_n (pc := 31) C 1 dX0_restore_31 rfl ?_
    refine g_dup (pc := 32) C dX0_restore_32 rfl ?_
    refine gf_RX0_18 (pc := 33) C 0 rfl dX0_restore_33 ?_
    refine g_iconst (pc := 36) C 1 dX0_restore_36 (by decide) ?_
    refine g_isub (pc := 37) C dX0_restore_37 ?_
    refine gp_RX0_18 (pc := 38) C 0 (cs' := csHS cI cS a (h.1, h.2.1, h.2.2 - 1) b v) rfl rfl dX0_restore_38 ?_
    exact g_rv (pc := 41) C rfl (flHS cI cS a (h.1, h.2.1, h.2.2 - 1) b v) dX0_restore_41
  have hf := k_neg w0 hf
  by_cases w1 : irem (h.2.1 + (h.2.2 - 1)) 4 = 1
  · have hf := k_pos w1 hf
    obtain ⟨v, hv, hf⟩ := Option.bind_eq_some_iff.mp hf
    have e := Option.some.inj hf; subst e
    refine g_callV' (pc := 14) hla C (c_X0_slotAt l D cI cS a h (h.2.2 - 1) 1 (a.2.2.2.1.1) w1 (by decide) (by decide) (by decide) rfl) gg_RX0_25 hd_X0_slotAt (by decide) rfl rfl rfl rfl (Nat.le_of_ble_eq_true rfl) dX0_restore_14 (seHSl cI cS a h b s) (seHSl cI cS a h b s).symm [.ref (a.2.2.2.1.1)] rfl ?_
    refine g_goto (pc := 17) C 21 dX0_restore_17 (by decide) ?_
    refine g_astore_n (pc := 21) C [(2, .ref (a.2.2.2.1.1)), (0, .ref a.1), (1, .ref b.1)] dX0_restore_21 (by decide) rfl ?_
    refine g_aload_n (pc := 22) C 0 dX0_restore_22 rfl ?_
    refine g_ifnull (pc := 23) C dX0_restore_23 ?_
    refine g_aload_n (pc := 26) C 2 dX0_restore_26 rfl ?_
    refine g_aload_n (pc := 27) C 0 dX0_restore_27 rfl ?_
    refine g_callV' (pc := 28) hla C (c_X3_takeFrom l D cI cS b s a.2.2.2.1 h.1.2.1 v hv) gg_RX0_29 hd_X3_takeFrom (by decide) rfl rfl rfl rfl (Nat.le_of_ble_eq_true rfl) dX0_restore_28 (sfSl1 cI cS a h b s) (sfSl1 cI cS a h b v).symm [] rfl ?_
    refine g_aload_n (pc := 31) C 1 dX0_restore_31 rfl ?_
    refine g_dup (pc := 32) C dX0_restore_32 rfl ?_
    refine gf_RX0_18 (pc := 33) C 0 rfl dX0_restore_33 ?_
    refine g_iconst (pc := 36) C 1 dX0_restore_36 (by decide) ?_
    refine g_isub (pc := 37) C dX0_restore_37 ?_
    refine gp_RX0_18 (pc := 38) C 0 (cs' := csHS cI cS a (h.1, h.2.1, h.2.2 - 1) b v) rfl rfl dX0_restore_38 ?_
    exact g_rv (pc := 41) C rfl (flHS cI cS a (h.1, h.2.1, h.2.2 - 1) b v) dX0_restore_41
  have hf := k_neg w1 hf
  by_cases w2 : irem (h.2.1 + (h.2.2 - 1)) 4 = 2
  · have hf := k_pos w2 hf
    obtain ⟨v, hv, hf⟩ := Option.bind_eq_some_iff.mp hf
    have e := Option.some.inj hf; subst e
    refine g_callV' (pc := 14) hla C (c_X0_slotAt l D cI cS a h (h.2.2 - 1) 2 (a.2.2.2.2.1.1) w2 (by decide) (by decide) (by decide) rfl) gg_RX0_25 hd_X0_slotAt (by decide) rfl rfl rfl rfl (Nat.le_of_ble_eq_true rfl) dX0_restore_14 (seHSl cI cS a h b s) (seHSl cI cS a h b s).symm [.ref (a.2.2.2.2.1.1)] rfl ?_
    refine g_goto (pc := 17) C 21 dX0_restore_17 (by decide) ?_
    refine g_astore_n (pc := 21) C [(2, .ref (a.2.2.2.2.1.1)), (0, .ref a.1), (1, .ref b.1)] dX0_restore_21 (by decide) rfl ?_
    refine g_aload_n (pc := 22) C 0 dX0_restore_22 rfl ?_
    refine g_ifnull (pc := 23) C dX0_restore_23 ?_
    refine g_aload_n (pc := 26) C 2 dX0_restore_26 rfl ?_
    refine g_aload_n (pc := 27) C 0 dX0_restore_27 rfl ?_
    refine g_callV' (pc := 28) hla C (c_X3_takeFrom l D cI cS b s a.2.2.2.2.1 h.1.2.2.1 v hv) gg_RX0_29 hd_X3_takeFrom (by decide) rfl rfl rfl rfl (Nat.le_of_ble_eq_true rfl) dX0_restore_28 (sfSl2 cI cS a h b s) (sfSl2 cI cS a h b v).symm [] rfl ?_
    refine g_aload_n (pc := 31) C 1 dX0_restore_31 rfl ?_
    refine g_dup (pc := 32) C dX0_restore_32 rfl ?_
    refine gf_RX0_18 (pc := 33) C 0 rfl dX0_restore_33 ?_
    refine g_iconst (pc := 36) C 1 dX0_restore_36 (by decide) ?_
    refine g_isub (pc := 37) C dX0_restore_37 ?_
    refine gp_RX0_18 (pc := 38) C 0 (cs' := csHS cI cS a (h.1, h.2.1, h.2.2 - 1) b v) rfl rfl dX0_restore_38 ?_
    exact g_rv (pc := 41) C rfl (flHS cI cS a (h.1, h.2.1, h.2.2 - 1) b v) dX0_restore_41
  have hf := k_neg w2 hf
  by_cases w3 : irem (h.2.1 + (h.2.2 - 1)) 4 = 3
  · have hf := k_pos w3 hf
    obtain ⟨v, hv, hf⟩ := Option.bind_eq_some_iff.mp hf
    have e := Option.some.inj hf; subst e
    refine g_callV' (pc := 14) hla C (c_X0_slotAt l D cI cS a h (h.2.2 - 1) 3 (a.2.2.2.2.2.1) w3 (by decide) (by decide) (by decide) rfl) gg_RX0_25 hd_X0_slotAt (by decide) rfl rfl rfl rfl (Nat.le_of_ble_eq_true rfl) dX0_restore_14 (seHSl cI cS a h b s) (seHSl cI cS a h b s).symm [.ref (a.2.2.2.2.2.1)] rfl ?_
    refine g_goto (pc := 17) C 21 dX0_restore_17 (by decide) ?_
    refine g_astore_n (pc := 21) C [(2, .ref (a.2.2.2.2.2.1)), (0, .ref a.1), (1, .ref b.1)] dX0_restore_21 (by decide) rfl ?_
    refine g_aload_n (pc := 22) C 0 dX0_restore_22 rfl ?_
    refine g_ifnull (pc := 23) C dX0_restore_23 ?_
    refine g_aload_n (pc := 26) C 2 dX0_restore_26 rfl ?_
    refine g_aload_n (pc := 27) C 0 dX0_restore_27 rfl ?_
    refine g_callV' (pc := 28) hla C (c_X3_takeFrom l D cI cS b s a.2.2.2.2.2 h.1.2.2.2 v hv) gg_RX0_29 hd_X3_takeFrom (by decide) rfl rfl rfl rfl (Nat.le_of_ble_eq_true rfl) dX0_restore_28 (sfSl3 cI cS a h b s) (sfSl3 cI cS a h b v).symm [] rfl ?_
    refine g_aload_n (pc := 31) C 1 dX0_restore_31 rfl ?_
    refine g_dup (pc := 32) C dX0_restore_32 rfl ?_
    refine gf_RX0_18 (pc := 33) C 0 rfl dX0_restore_33 ?_
    refine g_iconst (pc := 36) C 1 dX0_restore_36 (by decide) ?_
    refine g_isub (pc := 37) C dX0_restore_37 ?_
    refine gp_RX0_18 (pc := 38) C 0 (cs' := csHS cI cS a (h.1, h.2.1, h.2.2 - 1) b v) rfl rfl dX0_restore_38 ?_
    exact g_rv (pc := 41) C rfl (flHS cI cS a (h.1, h.2.1, h.2.2 - 1) b v) dX0_restore_41
  have hf := k_neg w3 hf
  cases hf
set_option maxHeartbeats 4000000 in
set_option maxRecDepth 100000 in
theorem c_X0_size (l : Launch) (D : va_G) (cI cS : ClassId) (a : aH) (h : HI) (out : Int32) (hf : H_size h = some out) : kM l D (kTy cI cS) yX0_size ct_X0_size rm_X0_size [.ref a.1] [wH cI cS a h] (kEq (some (.int out)) [wH cI cS a h]) := by
  refine k_methodE cX0_size 1 (some .int) RX0 rfl [(0, .ref a.1)] rfl (by decide +kernel) (Nat.le_of_ble_eq_true rfl) (fun κ A hla C => ?_)
  refine g_chunks (flH cI cS a h).symm ?_
  rw [H_size] at hf
  refine g_aload_n (pc := 0) C 0 dX0_size_0 rfl ?_
  refine gf_RX0_18 (pc := 1) C 0 rfl dX0_size_1 ?_
  have e := Option.some.inj hf; subst e
  exact g_ri (pc := 4) C rfl (flH cI cS a h) dX0_size_4
