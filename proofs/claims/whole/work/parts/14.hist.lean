set_option maxHeartbeats 4000000 in
set_option maxRecDepth 100000 in
theorem c_X0_size (l : Launch) (D : va_G) (cI cS : ClassId) (a : aH) (h : HI) (out : Int32) (hf : H_size h = some out) : kM l D (kTy cI cS) yX0_size ct_X0_size rm_X0_size [.ref a.1] [wH cI cS a h] (kEq (some (.int out)) [wH cI cS a h]) := by
  refine k_methodE cX0_size 1 (some .int) RX0 rfl [(0, .ref a.1)] rfl (by decide +kernel) (Nat.le_of_ble_eq_true rfl) (fun κ A hla C => ?_)
  refine g_chunks (flH cI cS a h).symm ?_
  rw [H_size] at hf
  refine g_aload_n (pc := 0) C 0 dX0_size_0 rfl ?_
  refine gf_RX0_18 (pc := 1) C 0 rfl dX0_size_1 ?_
  have e := Option.some.inj hf; subst e
  exact g_ri (pc := 4) C rfl (flH cI cS a h) dX0_size_4
