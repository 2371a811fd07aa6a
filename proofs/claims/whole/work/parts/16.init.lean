theorem m_arrI : Cond.arrayClass .int ∈ TB := m_90
section InitRows
variable {κ : kT} {D : va_G} {cI cS : ClassId} {A : Nat → Prop} {cc : ByteArray} {nL : Nat} {own : String} {rm : Room} {ret : Option FieldType} {nm : String} {k n : Nat} {Q : State → Prop} {cs : List va_W} {lv : List (Nat × Value)} {pc : Nat} {st : List Value}
theorem g_newa (C : kC κ D (kTy cI cS) A cc nL own rm ret nm) {x : Int32} (N : Nat) (hx : ¬ x < 0) (hN : x.toNatClampNeg = N) (hb : N * 4 ≤ 536870912) (hk : k + 1 ≤ rm.cells) (hn : n + N ≤ rm.slots) (hd : decode cc pc = .ok (.newarray .int, 2)) (kk : ∀ q, kG κ D A nL (k + 1) (n + N) Q (cs ++ [arI cI q N (fun _ => 0)]) lv (pc + 2) (.ref q :: st)) : kG κ D A nL k n Q cs lv pc (.int x :: st) := by
  intro H locs ls hP hD hS hl
  have hRR : kR κ = rm := C.2.2.2.2.2.2.2.2.2.2.1
  subst hRR
  have hK := C.2.2.2.2.2.1
  refine va_newa (atype := .int) (ty := .int) (N' := N) (a0 := (N, .inl (fun _ => 0))) C.1 C.2.1 (C.2.2.2.2.1 _ m_arrI) rfl hK hP hD hS C.2.2.2.2.2.2.1 (fun cA => rfl) hx hN hb hk hn hd (fun q cA H1 hK1 hP1 hD1 hS1 => ?_)
  have e1 : (kS κ).vm.findClass ("[" ++ FieldType.int.toString) = some cA := (hK1.2 2 (cA, .int) rfl).2
  have e2 : (kS κ).vm.findClass ("[" ++ FieldType.int.toString) = some cI := (hK.2 0 (cI, .int) rfl).2
  have e : cI = cA := Option.some.inj (e2.symm.trans e1)
  subst e
  have ef : (cs ++ [arI cI q N (fun _ => 0)]).flatten = cs.flatten ++ [(q, .inl (cI, N, .inl (fun _ => 0)))] := by rw [List.flatten_append]; rfl
  exact kk q H1 locs ls (by rw [ef]; exact hP1) (by rw [ef]; exact hD1) hS1 hl
theorem g_newq (C : kC κ D (kTy cI cS) A cc nL own rm ret nm) {x : Int32} {index : Nat} (N : Nat) (hcl : Cond.classLink own index RX3 ∈ TB) (hx : ¬ x < 0) (hN : x.toNatClampNeg = N) (hb : N * 4 ≤ 536870912) (hk : k + 1 ≤ rm.cells) (hn : n + N ≤ rm.slots) (hd : decode cc pc = .ok (.anewarray index, 3)) (kk : ∀ q, kG κ D A nL (k + 1) (n + N) Q (cs ++ [[(q, .inl (cS, N, .inr (.inr (.inr (.inr (fun _ => none))))))]]) lv (pc + 3) (.ref q :: st)) : kG κ D A nL k n Q cs lv pc (.int x :: st) := by
  intro H locs ls hP hD hS hl
  have hRR : kR κ = rm := C.2.2.2.2.2.2.2.2.2.2.1
  subst hRR
  have hK := C.2.2.2.2.2.1
  have hNW := C.2.2.2.2.2.2.2.2.2.1
  refine va_newq (N' := N) C.1 C.2.1 C.2.2.2.1 (C.2.2.2.2.1 _ hcl) hNW.2 hK hP hD hS C.2.2.2.2.2.2.1 hx hN hb hk hn hd (fun q cA H1 hK1 hP1 hD1 hS1 => ?_)
  obtain ⟨-, -, -, -, -, e1⟩ := (hK1.2 2 (cA, .object RX3) rfl).2
  obtain ⟨-, -, -, -, -, e2⟩ := (hK.2 1 (cS, .object RX3) rfl).2
  have e : cS = cA := Option.some.inj (e2.symm.trans e1)
  subst e
  have ef : (cs ++ [([(q, .inl (cS, N, .inr (.inr (.inr (.inr (fun _ => none))))))] : va_W)]).flatten = cs.flatten ++ [(q, .inl (cS, N, .inr (.inr (.inr (.inr (fun _ => none))))))] := by rw [List.flatten_append]; rfl
  exact kk q H1 locs ls (by rw [ef]; exact hP1) (by rw [ef]; exact hD1) hS1 hl
theorem g_new (C : kC κ D (kTy cI cS) A cc nL own rm ret nm) (ci : Nat) {Cn : String} {T : u_T} {N index : Nat} (fs : List Value) (ty : Nat → FieldType) (hty : ∀ k, k < N → parseFieldDescriptor (T k).2.2.1 = some (ty k)) (hin : ∀ w ∈ u_ws Cn T N, w ∈ TB) (hcl : Cond.classLink own index Cn ∈ TB) (hinst : Cond.instantiable Cn N ∈ TB) (hini : Cond.initialized Cn ∈ TB) (hc : vwCl[ci]? = some (Cn, T, N)) (hfs : ∀ j, j < N → defaultValue (ty j) = vp_V fs j) (hk : k + 1 ≤ rm.cells) (hn : n + N ≤ rm.slots) (hd : decode cc pc = .ok (.new index, 3)) (kk : ∀ q, kG κ D A nL (k + 1) (n + N) Q (cs ++ [[(q, .inr (ci, fs))]]) lv (pc + 3) (.ref q :: st)) : kG κ D A nL k n Q cs lv pc st := by
  intro H locs ls hP hD hS hl
  have hRR : kR κ = rm := C.2.2.2.2.2.2.2.2.2.2.1
  subst hRR
  have hK := C.2.2.2.2.2.1
  have hts := C.2.2.2.2.1
  refine va_new (ci := ci) (fs := fs) C.1 C.2.1 hts hin ty hty C.2.2.2.1 (hts _ hcl) (hts _ hinst) (hts _ hini) hK hP hD hS C.2.2.2.2.2.2.1 hc hfs hk hn hd (fun q H1 hP1 hD1 hS1 => ?_)
  have ef : (cs ++ [([(q, .inr (ci, fs))] : va_W)]).flatten = cs.flatten ++ [(q, .inr (ci, fs))] := by rw [List.flatten_append]; rfl
  exact kk q H1 locs ls (by rw [ef]; exact hP1) (by rw [ef]; exact hD1) hS1 hl
theorem g_astq (C : kC κ D (kTy cI cS) A cc nL own rm ret nm) (j j2 : Nat) {a v : Nat} {N : Nat} {f : Nat → Option Nat} {i : Int32} {w : va_W} {vs : List Value} (cs' : List va_W) (hj : cs[j]? = some [(a, .inl (cS, N, .inr (.inr (.inr (.inr f)))))]) (hv : cs[j2]? = some ((v, .inr (3, vs)) :: w)) (hin : ¬ (i < 0 ∨ N ≤ ix i)) (hcs : cs.set j [(a, .inl (cS, N, .inr (.inr (.inr (.inr (va_up f (ix i) (some v)))))))] = cs') (hd : decode cc pc = .ok (.aastore, 1)) (kk : kG κ D A nL k n Q cs' lv (pc + 1) st) : kG κ D A nL k n Q cs lv pc (.ref v :: .int i :: .ref a :: st) := by
  intro H locs ls hP hD hS hl
  obtain ⟨q0, hq, hset⟩ := k_at hj
  obtain ⟨q1, hq1⟩ := k_in hv
  subst hcs
  refine va_astq (r := (RX3, TX3, 7)) C.1 C.2.1 C.2.2.2.2.2.1 hP hD hS q0 1 q1 3 hq rfl hq1 rfl hin hd (fun H1 locs1 hP hD hS => ?_)
  rw [hset] at hP hD
  exact kk H1 locs1 ls hP hD hS hl
end InitRows
abbrev zR : RW := (0, fun _ => 0)
abbrev zT : TR := (zR, zR)
abbrev zS : ST := (zT, zT, zR, zR, zR, 0, 0)
abbrev zC : SC := (zT, zR, 0, 0, 0, 0)
abbrev zA : Arr := fun _ => 0
set_option maxHeartbeats 4000000 in
set_option maxRecDepth 100000 in
theorem c_X1_init (l : Launch) (D : va_G) (cI cS : ClassId) (a0 : Nat) (x : Int32) (N : Nat) (hx : ¬ x < 0) (hN : x.toNatClampNeg = N) (hb : N * 4 ≤ 536870912) : kM l D (kTy cI cS) yX1_init ct_X1_init { frames := 1, cells := 1, slots := N, locals := 21 } [.ref a0, .int x] [[(a0, .inr (1, [.null, .int 0]))]] (fun v cs => v = none ∧ ∃ a : aR, a.1 = a0 ∧ cs = [wR cI a N zR]) := by
  refine k_method cX1_init 2 none RX1 rfl [(0, .ref a0), (1, .int x)] rfl (by decide +kernel) (Nat.le_of_ble_eq_true rfl) (fun κ A hla C => ?_)
  refine g_aload_n (pc := 0) C 0 dX1_init_0 rfl ?_
  refine g_objInit (pc := 1) C m_79 m_60 m_61 (Nat.le_of_ble_eq_true rfl) (Nat.le_of_ble_eq_true rfl) dX1_init_1 ?_
  refine g_aload_n (pc := 4) C 0 dX1_init_4 rfl ?_
  refine g_iload_n (pc := 5) C 1 dX1_init_5 rfl ?_
  refine g_iconst (pc := 6) C 0 dX1_init_6 (by decide) ?_
  refine g_mmax (pc := 7) C m_80 m_81 m_math m_code_max (Nat.le_of_ble_eq_true rfl) (Nat.le_of_ble_eq_true rfl) (Nat.zero_le _) (Nat.zero_le _) dX1_init_7 ?_
  rw [if_neg hx]
  refine g_newa (pc := 10) C N hx hN hb (Nat.le_refl 1) (Nat.le_of_eq (Nat.zero_add N)) dX1_init_10 (fun q => ?_)
  refine g_chunks (cs' := [[(a0, .inr (1, [.null, .int 0]))], arI cI q N (fun _ => 0)]) rfl ?_
  refine g_putF (pc := 12) C 0 1 0 tyX1 [[(a0, .inr (1, [.ref q, .int 0]))], arI cI q N (fun _ => 0)] tyX1_ok nmX1 inX1 rfl rfl (by decide) m_83 rfl rfl rfl rfl rfl rfl (Nat.le_of_ble_eq_true rfl) rfl dX1_init_12 ?_
  refine g_widen (k' := 1) (n' := N) (by omega) (by omega) ?_
  refine g_world (k_sel (N := 2) (pieces := [[(a0, .inr (1, [.ref q, .int 0]))], arI cI q N (fun _ => 0)]) (rest := []) (sel := [wR cI (a0, q) N zR]) [0, 1] [] rfl (by decide) rfl rfl rfl) ?_
  exact g_ret_v (pc := 15) C rfl ⟨rfl, (a0, q), rfl, rfl⟩ dX1_init_15
set_option maxHeartbeats 4000000 in
set_option maxRecDepth 100000 in
theorem c_X4_init (l : Launch) (D : va_G) (cI cS : ClassId) (a0 : Nat) : kM l D (kTy cI cS) yX4_init ct_X4_init { frames := 2, cells := 4, slots := 84, locals := 42 } [.ref a0] [[(a0, .inr (4, [.null, .null]))]] (fun v cs => v = none ∧ ∃ a : aT, a.1 = a0 ∧ cs = [wT cI a zT]) := by
  refine k_method cX4_init 1 none RX4 rfl [(0, .ref a0)] rfl (by decide +kernel) (Nat.le_of_ble_eq_true rfl) (fun κ A hla C => ?_)
  refine g_aload_n (pc := 0) C 0 dX4_init_0 rfl ?_
  refine g_objInit (pc := 1) C m_73 m_60 m_61 (Nat.le_of_ble_eq_true rfl) (Nat.le_of_ble_eq_true rfl) dX4_init_1 ?_
  refine g_aload_n (pc := 4) C 0 dX4_init_4 rfl ?_
  refine g_new (pc := 5) C 1 [.null, .int 0] tyX1 tyX1_ok inX1 m_74 m_75 m_ini_RX1 rfl (fun j hj => by rcases (show j = 0 ∨ j = 1 by omega) with rfl | rfl <;> rfl) (Nat.le_of_ble_eq_true rfl) (Nat.le_of_ble_eq_true rfl) dX4_init_5 (fun q5 => ?_)
  refine g_chunks (cs' := [[(a0, .inr (4, [.null, .null]))], [(q5, .inr (1, [.null, .int 0]))]]) rfl ?_
  refine g_dup (pc := 8) C dX4_init_8 rfl ?_
  refine g_bipush (pc := 9) C 40 dX4_init_9 (by decide) ?_
  refine g_callI (pc := 11) hla C (c_X1_init l D cI cS q5 40 40 (by decide) (by decide) (by decide)) tb_X1_init m_76 m_77 m_ini_RX1 rfl rfl hd_X1_init.2 ⟨(Nat.le_of_ble_eq_true rfl), (Nat.le_of_ble_eq_true rfl)⟩ rfl rfl (Nat.le_of_ble_eq_true rfl) (Nat.le_of_ble_eq_true rfl) (Nat.le_of_ble_eq_true rfl) dX4_init_11 (k_sel (N := 2) (pieces := [[(q5, .inr (1, [.null, .int 0]))]]) (rest := [[(a0, .inr (4, [.null, .null]))]]) [1] [0] rfl (by decide) rfl rfl rfl) (fun v sel h => ?_)
  obtain ⟨rfl, b5, rfl, rfl⟩ := h
  refine g_chunks (cs' := [wR cI b5 40 zR, [(a0, .inr (4, [.null, .null]))]]) rfl ?_
  refine g_putF (pc := 14) C 1 4 0 tyX4 [wR cI b5 40 zR, [(a0, .inr (4, [.ref b5.1, .null]))]] tyX4_ok nmX4 inX4 rfl rfl (by decide) m_91 rfl rfl rfl rfl rfl rfl (Nat.le_of_ble_eq_true rfl) rfl dX4_init_14 ?_
  refine g_aload_n (pc := 17) C 0 dX4_init_17 rfl ?_
  refine g_new (pc := 18) C 1 [.null, .int 0] tyX1 tyX1_ok inX1 m_74 m_75 m_ini_RX1 rfl (fun j hj => by rcases (show j = 0 ∨ j = 1 by omega) with rfl | rfl <;> rfl) (Nat.le_of_ble_eq_true rfl) (Nat.le_of_ble_eq_true rfl) dX4_init_18 (fun q18 => ?_)
  refine g_chunks (cs' := [wR cI b5 40 zR, [(a0, .inr (4, [.ref b5.1, .null]))], [(q18, .inr (1, [.null, .int 0]))]]) rfl ?_
  refine g_dup (pc := 21) C dX4_init_21 rfl ?_
  refine g_bipush (pc := 22) C 40 dX4_init_22 (by decide) ?_
  refine g_callI (pc := 24) hla C (c_X1_init l D cI cS q18 40 40 (by decide) (by decide) (by decide)) tb_X1_init m_76 m_77 m_ini_RX1 rfl rfl hd_X1_init.2 ⟨(Nat.le_of_ble_eq_true rfl), (Nat.le_of_ble_eq_true rfl)⟩ rfl rfl (Nat.le_of_ble_eq_true rfl) (Nat.le_of_ble_eq_true rfl) (Nat.le_of_ble_eq_true rfl) dX4_init_24 (k_sel (N := 3) (pieces := [[(q18, .inr (1, [.null, .int 0]))]]) (rest := [wR cI b5 40 zR, [(a0, .inr (4, [.ref b5.1, .null]))]]) [2] [0, 1] rfl (by decide) rfl rfl rfl) (fun v sel h => ?_)
  obtain ⟨rfl, b18, rfl, rfl⟩ := h
  refine g_chunks (cs' := [wR cI b18 40 zR, wR cI b5 40 zR, [(a0, .inr (4, [.ref b5.1, .null]))]]) rfl ?_
  refine g_putF (pc := 27) C 2 4 1 tyX4 [wR cI b18 40 zR, wR cI b5 40 zR, [(a0, .inr (4, [.ref b5.1, .ref b18.1]))]] tyX4_ok nmX4 inX4 rfl rfl (by decide) m_92 rfl rfl rfl rfl rfl rfl (Nat.le_of_ble_eq_true rfl) rfl dX4_init_27 ?_
  refine g_widen (k' := 4) (n' := 84) (Nat.le_of_ble_eq_true rfl) (Nat.le_of_ble_eq_true rfl) ?_
  refine g_world (k_sel (N := 3) (pieces := [[(a0, .inr (4, [.ref b5.1, .ref b18.1]))], wR cI b5 40 zR, wR cI b18 40 zR]) (rest := []) (sel := [wT cI (a0, b5, b18) zT]) [2, 1, 0] [] rfl (by decide) rfl rfl rfl) ?_
  exact g_ret_v (pc := 30) C rfl ⟨rfl, (a0, b5, b18), rfl, rfl⟩ dX4_init_30
set_option maxHeartbeats 4000000 in
set_option maxRecDepth 100000 in
theorem c_X3_init (l : Launch) (D : va_G) (cI cS : ClassId) (a0 : Nat) (s1 : ST) (h1 : S_clearMarks zS = some s1) : kM l D (kTy cI cS) yX3_init ct_X3_init { frames := 3, cells := 16, slots := 230, locals := 65 } [.ref a0] [[(a0, .inr (3, [.null, .null, .null, .null, .null, .int 0, .int 0]))]] (fun v cs => v = none ∧ ∃ a : aS, a.1 = a0 ∧ cs = [wS cI cS a s1]) := by
  refine k_method cX3_init 1 none RX3 rfl [(0, .ref a0)] rfl (by decide +kernel) (Nat.le_of_ble_eq_true rfl) (fun κ A hla C => ?_)
  refine g_aload_n (pc := 0) C 0 dX3_init_0 rfl ?_
  refine g_objInit (pc := 1) C m_67 m_60 m_61 (Nat.le_of_ble_eq_true rfl) (Nat.le_of_ble_eq_true rfl) dX3_init_1 ?_
  refine g_aload_n (pc := 4) C 0 dX3_init_4 rfl ?_
  refine g_new (pc := 5) C 4 [.null, .null] tyX4 tyX4_ok inX4 m_68 m_69 m_ini_RX4 rfl (fun j hj => by rcases (show j = 0 ∨ j = 1 by omega) with rfl | rfl <;> rfl) (Nat.le_of_ble_eq_true rfl) (Nat.le_of_ble_eq_true rfl) dX3_init_5 (fun q5 => ?_)
  refine g_chunks (cs' := [[(a0, .inr (3, [.null, .null, .null, .null, .null, .int 0, .int 0]))], [(q5, .inr (4, [.null, .null]))]]) rfl ?_
  refine g_dup (pc := 8) C dX3_init_8 rfl ?_
  refine g_callIN (pc := 9) 0 hla C (c_X4_init l D cI cS q5) tb_X4_init (show kNL[0]? = some (Cond.methodLinkNest RX3 11 yX4_init RX5) from rfl) m_71 m_ini_RX4 rfl rfl hd_X4_init.2 ⟨(Nat.le_of_ble_eq_true rfl), (Nat.le_of_ble_eq_true rfl)⟩ rfl rfl (Nat.le_of_ble_eq_true rfl) (Nat.le_of_ble_eq_true rfl) (Nat.le_of_ble_eq_true rfl) dX3_init_9 (k_sel (N := 2) (pieces := [[(q5, .inr (4, [.null, .null]))]]) (rest := [[(a0, .inr (3, [.null, .null, .null, .null, .null, .int 0, .int 0]))]]) [1] [0] rfl (by decide) rfl rfl rfl) (fun v sel h => ?_)
  obtain ⟨rfl, b5, rfl, rfl⟩ := h
  refine g_chunks (cs' := [wT cI b5 zT, [(a0, .inr (3, [.null, .null, .null, .null, .null, .int 0, .int 0]))]]) rfl ?_
  refine g_putF (pc := 12) C 1 3 0 tyX3 [wT cI b5 zT, [(a0, .inr (3, [.ref b5.1, .null, .null, .null, .null, .int 0, .int 0]))]] tyX3_ok nmX3 inX3 rfl rfl (by decide) m_116 rfl rfl rfl rfl rfl rfl (Nat.le_of_ble_eq_true rfl) rfl dX3_init_12 ?_
  refine g_aload_n (pc := 15) C 0 dX3_init_15 rfl ?_
  refine g_new (pc := 16) C 4 [.null, .null] tyX4 tyX4_ok inX4 m_68 m_69 m_ini_RX4 rfl (fun j hj => by rcases (show j = 0 ∨ j = 1 by omega) with rfl | rfl <;> rfl) (Nat.le_of_ble_eq_true rfl) (Nat.le_of_ble_eq_true rfl) dX3_init_16 (fun q16 => ?_)
  refine g_chunks (cs' := [wT cI b5 zT, [(a0, .inr (3, [.ref b5.1, .null, .null, .null, .null, .int 0, .int 0]))], [(q16, .inr (4, [.null, .null]))]]) rfl ?_
  refine g_dup (pc := 19) C dX3_init_19 rfl ?_
  refine g_callIN (pc := 20) 0 hla C (c_X4_init l D cI cS q16) tb_X4_init (show kNL[0]? = some (Cond.methodLinkNest RX3 11 yX4_init RX5) from rfl) m_71 m_ini_RX4 rfl rfl hd_X4_init.2 ⟨(Nat.le_of_ble_eq_true rfl), (Nat.le_of_ble_eq_true rfl)⟩ rfl rfl (Nat.le_of_ble_eq_true rfl) (Nat.le_of_ble_eq_true rfl) (Nat.le_of_ble_eq_true rfl) dX3_init_20 (k_sel (N := 3) (pieces := [[(q16, .inr (4, [.null, .null]))]]) (rest := [wT cI b5 zT, [(a0, .inr (3, [.ref b5.1, .null, .null, .null, .null, .int 0, .int 0]))]]) [2] [0, 1] rfl (by decide) rfl rfl rfl) (fun v sel h => ?_)
  obtain ⟨rfl, b16, rfl, rfl⟩ := h
  refine g_chunks (cs' := [wT cI b16 zT, wT cI b5 zT, [(a0, .inr (3, [.ref b5.1, .null, .null, .null, .null, .int 0, .int 0]))]]) rfl ?_
  refine g_putF (pc := 23) C 2 3 1 tyX3 [wT cI b16 zT, wT cI b5 zT, [(a0, .inr (3, [.ref b5.1, .ref b16.1, .null, .null, .null, .int 0, .int 0]))]] tyX3_ok nmX3 inX3 rfl rfl (by decide) m_118 rfl rfl rfl rfl rfl rfl (Nat.le_of_ble_eq_true rfl) rfl dX3_init_23 ?_
  refine g_aload_n (pc := 26) C 0 dX3_init_26 rfl ?_
  refine g_new (pc := 27) C 1 [.null, .int 0] tyX1 tyX1_ok inX1 m_98 m_75 m_ini_RX1 rfl (fun j hj => by rcases (show j = 0 ∨ j = 1 by omega) with rfl | rfl <;> rfl) (Nat.le_of_ble_eq_true rfl) (Nat.le_of_ble_eq_true rfl) dX3_init_27 (fun q27 => ?_)
  refine g_chunks (cs' := [wT cI b16 zT, wT cI b5 zT, [(a0, .inr (3, [.ref b5.1, .ref b16.1, .null, .null, .null, .int 0, .int 0]))], [(q27, .inr (1, [.null, .int 0]))]]) rfl ?_
  refine g_dup (pc := 30) C dX3_init_30 rfl ?_
  refine g_bipush (pc := 31) C 40 dX3_init_31 (by decide) ?_
  refine g_callI (pc := 33) hla C (c_X1_init l D cI cS q27 40 40 (by decide) (by decide) (by decide)) tb_X1_init m_99 m_77 m_ini_RX1 rfl rfl hd_X1_init.2 ⟨(Nat.le_of_ble_eq_true rfl), (Nat.le_of_ble_eq_true rfl)⟩ rfl rfl (Nat.le_of_ble_eq_true rfl) (Nat.le_of_ble_eq_true rfl) (Nat.le_of_ble_eq_true rfl) dX3_init_33 (k_sel (N := 4) (pieces := [[(q27, .inr (1, [.null, .int 0]))]]) (rest := [wT cI b16 zT, wT cI b5 zT, [(a0, .inr (3, [.ref b5.1, .ref b16.1, .null, .null, .null, .int 0, .int 0]))]]) [3] [0, 1, 2] rfl (by decide) rfl rfl rfl) (fun v sel h => ?_)
  obtain ⟨rfl, b27, rfl, rfl⟩ := h
  refine g_chunks (cs' := [wR cI b27 40 zR, wT cI b16 zT, wT cI b5 zT, [(a0, .inr (3, [.ref b5.1, .ref b16.1, .null, .null, .null, .int 0, .int 0]))]]) rfl ?_
  refine g_putF (pc := 36) C 3 3 2 tyX3 [wR cI b27 40 zR, wT cI b16 zT, wT cI b5 zT, [(a0, .inr (3, [.ref b5.1, .ref b16.1, .ref b27.1, .null, .null, .int 0, .int 0]))]] tyX3_ok nmX3 inX3 rfl rfl (by decide) m_120 rfl rfl rfl rfl rfl rfl (Nat.le_of_ble_eq_true rfl) rfl dX3_init_36 ?_
  refine g_aload_n (pc := 39) C 0 dX3_init_39 rfl ?_
  refine g_new (pc := 40) C 1 [.null, .int 0] tyX1 tyX1_ok inX1 m_98 m_75 m_ini_RX1 rfl (fun j hj => by rcases (show j = 0 ∨ j = 1 by omega) with rfl | rfl <;> rfl) (Nat.le_of_ble_eq_true rfl) (Nat.le_of_ble_eq_true rfl) dX3_init_40 (fun q40 => ?_)
  refine g_chunks (cs' := [wR cI b27 40 zR, wT cI b16 zT, wT cI b5 zT, [(a0, .inr (3, [.ref b5.1, .ref b16.1, .ref b27.1, .null, .null, .int 0, .int 0]))], [(q40, .inr (1, [.null, .int 0]))]]) rfl ?_
  refine g_dup (pc := 43) C dX3_init_43 rfl ?_
  refine g_bipush (pc := 44) C 8 dX3_init_44 (by decide) ?_
  refine g_callI (pc := 46) hla C (c_X1_init l D cI cS q40 8 8 (by decide) (by decide) (by decide)) tb_X1_init m_99 m_77 m_ini_RX1 rfl rfl hd_X1_init.2 ⟨(Nat.le_of_ble_eq_true rfl), (Nat.le_of_ble_eq_true rfl)⟩ rfl rfl (Nat.le_of_ble_eq_true rfl) (Nat.le_of_ble_eq_true rfl) (Nat.le_of_ble_eq_true rfl) dX3_init_46 (k_sel (N := 5) (pieces := [[(q40, .inr (1, [.null, .int 0]))]]) (rest := [wR cI b27 40 zR, wT cI b16 zT, wT cI b5 zT, [(a0, .inr (3, [.ref b5.1, .ref b16.1, .ref b27.1, .null, .null, .int 0, .int 0]))]]) [4] [0, 1, 2, 3] rfl (by decide) rfl rfl rfl) (fun v sel h => ?_)
  obtain ⟨rfl, b40, rfl, rfl⟩ := h
  refine g_chunks (cs' := [wR cI b40 8 zR, wR cI b27 40 zR, wT cI b16 zT, wT cI b5 zT, [(a0, .inr (3, [.ref b5.1, .ref b16.1, .ref b27.1, .null, .null, .int 0, .int 0]))]]) rfl ?_
  refine g_putF (pc := 49) C 4 3 3 tyX3 [wR cI b40 8 zR, wR cI b27 40 zR, wT cI b16 zT, wT cI b5 zT, [(a0, .inr (3, [.ref b5.1, .ref b16.1, .ref b27.1, .ref b40.1, .null, .int 0, .int 0]))]] tyX3_ok nmX3 inX3 rfl rfl (by decide) m_121 rfl rfl rfl rfl rfl rfl (Nat.le_of_ble_eq_true rfl) rfl dX3_init_49 ?_
  refine g_aload_n (pc := 52) C 0 dX3_init_52 rfl ?_
  refine g_new (pc := 53) C 1 [.null, .int 0] tyX1 tyX1_ok inX1 m_98 m_75 m_ini_RX1 rfl (fun j hj => by rcases (show j = 0 ∨ j = 1 by omega) with rfl | rfl <;> rfl) (Nat.le_of_ble_eq_true rfl) (Nat.le_of_ble_eq_true rfl) dX3_init_53 (fun q53 => ?_)
  refine g_chunks (cs' := [wR cI b40 8 zR, wR cI b27 40 zR, wT cI b16 zT, wT cI b5 zT, [(a0, .inr (3, [.ref b5.1, .ref b16.1, .ref b27.1, .ref b40.1, .null, .int 0, .int 0]))], [(q53, .inr (1, [.null, .int 0]))]]) rfl ?_
  refine g_dup (pc := 56) C dX3_init_56 rfl ?_
  refine g_iconst (pc := 57) C 4 dX3_init_57 (by decide) ?_
  refine g_callI (pc := 58) hla C (c_X1_init l D cI cS q53 4 4 (by decide) (by decide) (by decide)) tb_X1_init m_99 m_77 m_ini_RX1 rfl rfl hd_X1_init.2 ⟨(Nat.le_of_ble_eq_true rfl), (Nat.le_of_ble_eq_true rfl)⟩ rfl rfl (Nat.le_of_ble_eq_true rfl) (Nat.le_of_ble_eq_true rfl) (Nat.le_of_ble_eq_true rfl) dX3_init_58 (k_sel (N := 6) (pieces := [[(q53, .inr (1, [.null, .int 0]))]]) (rest := [wR cI b40 8 zR, wR cI b27 40 zR, wT cI b16 zT, wT cI b5 zT, [(a0, .inr (3, [.ref b5.1, .ref b16.1, .ref b27.1, .ref b40.1, .null, .int 0, .int 0]))]]) [5] [0, 1, 2, 3, 4] rfl (by decide) rfl rfl rfl) (fun v sel h => ?_)
  obtain ⟨rfl, b53, rfl, rfl⟩ := h
  refine g_chunks (cs' := [wR cI b53 4 zR, wR cI b40 8 zR, wR cI b27 40 zR, wT cI b16 zT, wT cI b5 zT, [(a0, .inr (3, [.ref b5.1, .ref b16.1, .ref b27.1, .ref b40.1, .null, .int 0, .int 0]))]]) rfl ?_
  refine g_putF (pc := 61) C 5 3 4 tyX3 [wR cI b53 4 zR, wR cI b40 8 zR, wR cI b27 40 zR, wT cI b16 zT, wT cI b5 zT, [(a0, .inr (3, [.ref b5.1, .ref b16.1, .ref b27.1, .ref b40.1, .ref b53.1, .int 0, .int 0]))]] tyX3_ok nmX3 inX3 rfl rfl (by decide) m_123 rfl rfl rfl rfl rfl rfl (Nat.le_of_ble_eq_true rfl) rfl dX3_init_61 ?_
  refine g_aload_n (pc := 64) C 0 dX3_init_64 rfl ?_
  refine g_widen (k' := 16) (n' := 230) (Nat.le_of_ble_eq_true rfl) (Nat.le_of_ble_eq_true rfl) ?_
  refine g_callV (pc := 65) hla C (c_X3_clearMarks l D cI cS (a0, b5, b16, b27, b40, b53) zS s1 h1) gg_RX3_36 rfl hd_X3_clearMarks ⟨(Nat.le_of_ble_eq_true rfl), (Nat.le_of_ble_eq_true rfl)⟩ rfl rfl rfl rfl (Nat.le_of_ble_eq_true rfl) (Nat.le_of_ble_eq_true rfl) (Nat.le_of_ble_eq_true rfl) dX3_init_65 (k_sel (N := 6) (pieces := [[(a0, .inr (3, [.ref b5.1, .ref b16.1, .ref b27.1, .ref b40.1, .ref b53.1, .int 0, .int 0]))], wT cI b5 zT, wT cI b16 zT, wR cI b27 40 zR, wR cI b40 8 zR, wR cI b53 4 zR]) (rest := []) (sel := [wS cI cS (a0, b5, b16, b27, b40, b53) zS]) [5, 4, 3, 2, 1, 0] [] rfl (by decide) rfl rfl rfl) (fun v sel h => ?_)
  obtain ⟨rfl, rfl⟩ := h
  exact g_ret_v (pc := 68) C rfl ⟨rfl, (a0, b5, b16, b27, b40, b53), rfl, rfl⟩ dX3_init_68
set_option maxHeartbeats 4000000 in
set_option maxRecDepth 100000 in
theorem c_X0_init (l : Launch) (D : va_G) (cI cS : ClassId) (a0 : Nat) (s1 : ST) (h1 : S_clearMarks zS = some s1) : kM l D (kTy cI cS) yX0_init ct_X0_init { frames := 4, cells := 69, slots := 952, locals := 85 } [.ref a0] [[(a0, .inr (0, [.null, .int 0, .int 0]))]] (fun v cs => v = none ∧ ∃ a : aH, a.1 = a0 ∧ cs = [wH cI cS a ((s1, s1, s1, s1), 0, 0)]) := by
  refine k_method cX0_init 2 none RX0 rfl [(0, .ref a0)] rfl (by decide +kernel) (Nat.le_of_ble_eq_true rfl) (fun κ A hla C => ?_)
  refine g_aload_n (pc := 0) C 0 dX0_init_0 rfl ?_
  refine g_objInit (pc := 1) C m_147 m_60 m_61 (Nat.le_of_ble_eq_true rfl) (Nat.le_of_ble_eq_true rfl) dX0_init_1 ?_
  refine g_aload_n (pc := 4) C 0 dX0_init_4 rfl ?_
  refine g_iconst (pc := 5) C 4 dX0_init_5 (by decide) ?_
  refine g_newq (pc := 6) C 4 m_148 (by decide) (by decide) (by decide) (Nat.le_of_ble_eq_true rfl) (Nat.le_of_ble_eq_true rfl) dX0_init_6 (fun q => ?_)
  refine g_chunks (cs' := [[(a0, .inr (0, [.null, .int 0, .int 0]))], [(q, .inl (cS, 4, .inr (.inr (.inr (.inr (fun _ => none))))))]]) rfl ?_
  refine g_putF (pc := 9) C 0 0 0 tyX0 [[(a0, .inr (0, [.ref q, .int 0, .int 0]))], [(q, .inl (cS, 4, .inr (.inr (.inr (.inr (fun _ => none))))))]] tyX0_ok nmX0 inX0 rfl rfl (by decide) m_151 rfl rfl rfl rfl rfl rfl (Nat.le_of_ble_eq_true rfl) rfl dX0_init_9 ?_
  refine g_iconst (pc := 12) C 0 dX0_init_12 (by decide) ?_
  refine g_istore_n (pc := 13) C [(1, .int 0), (0, .ref a0)] dX0_init_13 (by decide) rfl ?_
  refine g_iload_n (pc := 14) C 0 dX0_init_14 rfl ?_
  refine g_aload_n (pc := 15) C 1 dX0_init_15 rfl ?_
  refine gf_RX0_11 (pc := 16) C 0 rfl dX0_init_16 ?_
  refine g_alen (pc := 19) C 1 1 4 rfl rfl (show Int32.ofNat 4 = 4 from by decide) dX0_init_19 ?_
  refine g_icmp_ge (pc := 20) C 42 dX0_init_20 (by decide) (fun z => absurd (show (4 : Int32) ≤ 0 from z) (by decide)) (fun _ => ?_)
  refine g_aload_n (pc := 23) C 1 dX0_init_23 rfl ?_
  refine gf_RX0_11 (pc := 24) C 0 rfl dX0_init_24 ?_
  refine g_iload_n (pc := 27) C 0 dX0_init_27 rfl ?_
  refine g_new (pc := 28) C 3 [.null, .null, .null, .null, .null, .int 0, .int 0] tyX3 tyX3_ok inX3 m_148 m_63 m_ini_RX3 rfl (fun j hj => by rcases (show j = 0 ∨ j = 1 ∨ j = 2 ∨ j = 3 ∨ j = 4 ∨ j = 5 ∨ j = 6 by omega) with rfl | rfl | rfl | rfl | rfl | rfl | rfl <;> rfl) (Nat.le_of_ble_eq_true rfl) (Nat.le_of_ble_eq_true rfl) dX0_init_28 (fun q28_0 => ?_)
  refine g_chunks (cs' := [[(a0, .inr (0, [.ref q, .int 0, .int 0]))], [(q, .inl (cS, 4, .inr (.inr (.inr (.inr (fun _ => none))))))], [(q28_0, .inr (3, [.null, .null, .null, .null, .null, .int 0, .int 0]))]]) rfl ?_
  refine g_dup (pc := 31) C dX0_init_31 rfl ?_
  refine g_callI (pc := 32) hla C (c_X3_init l D cI cS q28_0 s1 h1) tb_X3_init m_150 m_65 m_ini_RX3 rfl rfl hd_X3_init.2 ⟨(Nat.le_of_ble_eq_true rfl), (Nat.le_of_ble_eq_true rfl)⟩ rfl rfl (Nat.le_of_ble_eq_true rfl) (Nat.le_of_ble_eq_true rfl) (Nat.le_of_ble_eq_true rfl) dX0_init_32 (k_sel (N := 3) (pieces := [[(q28_0, .inr (3, [.null, .null, .null, .null, .null, .int 0, .int 0]))]]) (rest := [[(a0, .inr (0, [.ref q, .int 0, .int 0]))], [(q, .inl (cS, 4, .inr (.inr (.inr (.inr (fun _ => none))))))]]) [2] [0, 1] rfl (by decide) rfl rfl rfl) (fun v sel h => ?_)
  obtain ⟨rfl, b28_0, rfl, rfl⟩ := h
  refine g_chunks (cs' := [wS cI cS b28_0 s1, [(a0, .inr (0, [.ref q, .int 0, .int 0]))], [(q, .inl (cS, 4, .inr (.inr (.inr (.inr (fun _ => none))))))]]) rfl ?_
  refine g_astq (pc := 35) C 2 0 [wS cI cS b28_0 s1, [(a0, .inr (0, [.ref q, .int 0, .int 0]))], [(q, .inl (cS, 4, .inr (.inr (.inr (.inr (va_up (fun _ => none) (ix 0) (some b28_0.1)))))))]] rfl rfl (by decide) rfl dX0_init_35 ?_
  refine g_iinc (pc := 36) C 0 1 [(1, .int 1), (0, .ref a0)] dX0_init_36 rfl (by decide) (by decide) rfl ?_
  refine g_goto (pc := 39) C 14 dX0_init_39 (by decide) ?_
  refine g_iload_n (pc := 14) C 0 dX0_init_14 rfl ?_
  refine g_aload_n (pc := 15) C 1 dX0_init_15 rfl ?_
  refine gf_RX0_11 (pc := 16) C 1 rfl dX0_init_16 ?_
  refine g_alen (pc := 19) C 2 1 4 rfl rfl (show Int32.ofNat 4 = 4 from by decide) dX0_init_19 ?_
  refine g_icmp_ge (pc := 20) C 42 dX0_init_20 (by decide) (fun z => absurd (show (4 : Int32) ≤ 1 from z) (by decide)) (fun _ => ?_)
  refine g_aload_n (pc := 23) C 1 dX0_init_23 rfl ?_
  refine gf_RX0_11 (pc := 24) C 1 rfl dX0_init_24 ?_
  refine g_iload_n (pc := 27) C 0 dX0_init_27 rfl ?_
  refine g_new (pc := 28) C 3 [.null, .null, .null, .null, .null, .int 0, .int 0] tyX3 tyX3_ok inX3 m_148 m_63 m_ini_RX3 rfl (fun j hj => by rcases (show j = 0 ∨ j = 1 ∨ j = 2 ∨ j = 3 ∨ j = 4 ∨ j = 5 ∨ j = 6 by omega) with rfl | rfl | rfl | rfl | rfl | rfl | rfl <;> rfl) (Nat.le_of_ble_eq_true rfl) (Nat.le_of_ble_eq_true rfl) dX0_init_28 (fun q28_1 => ?_)
  refine g_chunks (cs' := [wS cI cS b28_0 s1, [(a0, .inr (0, [.ref q, .int 0, .int 0]))], [(q, .inl (cS, 4, .inr (.inr (.inr (.inr (va_up (fun _ => none) (ix 0) (some b28_0.1)))))))], [(q28_1, .inr (3, [.null, .null, .null, .null, .null, .int 0, .int 0]))]]) rfl ?_
  refine g_dup (pc := 31) C dX0_init_31 rfl ?_
  refine g_callI (pc := 32) hla C (c_X3_init l D cI cS q28_1 s1 h1) tb_X3_init m_150 m_65 m_ini_RX3 rfl rfl hd_X3_init.2 ⟨(Nat.le_of_ble_eq_true rfl), (Nat.le_of_ble_eq_true rfl)⟩ rfl rfl (Nat.le_of_ble_eq_true rfl) (Nat.le_of_ble_eq_true rfl) (Nat.le_of_ble_eq_true rfl) dX0_init_32 (k_sel (N := 4) (pieces := [[(q28_1, .inr (3, [.null, .null, .null, .null, .null, .int 0, .int 0]))]]) (rest := [wS cI cS b28_0 s1, [(a0, .inr (0, [.ref q, .int 0, .int 0]))], [(q, .inl (cS, 4, .inr (.inr (.inr (.inr (va_up (fun _ => none) (ix 0) (some b28_0.1)))))))]]) [3] [0, 1, 2] rfl (by decide) rfl rfl rfl) (fun v sel h => ?_)
  obtain ⟨rfl, b28_1, rfl, rfl⟩ := h
  refine g_chunks (cs' := [wS cI cS b28_1 s1, wS cI cS b28_0 s1, [(a0, .inr (0, [.ref q, .int 0, .int 0]))], [(q, .inl (cS, 4, .inr (.inr (.inr (.inr (va_up (fun _ => none) (ix 0) (some b28_0.1)))))))]]) rfl ?_
  refine g_astq (pc := 35) C 3 0 [wS cI cS b28_1 s1, wS cI cS b28_0 s1, [(a0, .inr (0, [.ref q, .int 0, .int 0]))], [(q, .inl (cS, 4, .inr (.inr (.inr (.inr (va_up (va_up (fun _ => none) (ix 0) (some b28_0.1)) (ix 1) (some b28_1.1)))))))]] rfl rfl (by decide) rfl dX0_init_35 ?_
  refine g_iinc (pc := 36) C 0 2 [(1, .int 2), (0, .ref a0)] dX0_init_36 rfl (by decide) (by decide) rfl ?_
  refine g_goto (pc := 39) C 14 dX0_init_39 (by decide) ?_
  refine g_iload_n (pc := 14) C 0 dX0_init_14 rfl ?_
  refine g_aload_n (pc := 15) C 1 dX0_init_15 rfl ?_
  refine gf_RX0_11 (pc := 16) C 2 rfl dX0_init_16 ?_
  refine g_alen (pc := 19) C 3 1 4 rfl rfl (show Int32.ofNat 4 = 4 from by decide) dX0_init_19 ?_
  refine g_icmp_ge (pc := 20) C 42 dX0_init_20 (by decide) (fun z => absurd (show (4 : Int32) ≤ 2 from z) (by decide)) (fun _ => ?_)
  refine g_aload_n (pc := 23) C 1 dX0_init_23 rfl ?_
  refine gf_RX0_11 (pc := 24) C 2 rfl dX0_init_24 ?_
  refine g_iload_n (pc := 27) C 0 dX0_init_27 rfl ?_
  refine g_new (pc := 28) C 3 [.null, .null, .null, .null, .null, .int 0, .int 0] tyX3 tyX3_ok inX3 m_148 m_63 m_ini_RX3 rfl (fun j hj => by rcases (show j = 0 ∨ j = 1 ∨ j = 2 ∨ j = 3 ∨ j = 4 ∨ j = 5 ∨ j = 6 by omega) with rfl | rfl | rfl | rfl | rfl | rfl | rfl <;> rfl) (Nat.le_of_ble_eq_true rfl) (Nat.le_of_ble_eq_true rfl) dX0_init_28 (fun q28_2 => ?_)
  refine g_chunks (cs' := [wS cI cS b28_1 s1, wS cI cS b28_0 s1, [(a0, .inr (0, [.ref q, .int 0, .int 0]))], [(q, .inl (cS, 4, .inr (.inr (.inr (.inr (va_up (va_up (fun _ => none) (ix 0) (some b28_0.1)) (ix 1) (some b28_1.1)))))))], [(q28_2, .inr (3, [.null, .null, .null, .null, .null, .int 0, .int 0]))]]) rfl ?_
  refine g_dup (pc := 31) C dX0_init_31 rfl ?_
  refine g_callI (pc := 32) hla C (c_X3_init l D cI cS q28_2 s1 h1) tb_X3_init m_150 m_65 m_ini_RX3 rfl rfl hd_X3_init.2 ⟨(Nat.le_of_ble_eq_true rfl), (Nat.le_of_ble_eq_true rfl)⟩ rfl rfl (Nat.le_of_ble_eq_true rfl) (Nat.le_of_ble_eq_true rfl) (Nat.le_of_ble_eq_true rfl) dX0_init_32 (k_sel (N := 5) (pieces := [[(q28_2, .inr (3, [.null, .null, .null, .null, .null, .int 0, .int 0]))]]) (rest := [wS cI cS b28_1 s1, wS cI cS b28_0 s1, [(a0, .inr (0, [.ref q, .int 0, .int 0]))], [(q, .inl (cS, 4, .inr (.inr (.inr (.inr (va_up (va_up (fun _ => none) (ix 0) (some b28_0.1)) (ix 1) (some b28_1.1)))))))]]) [4] [0, 1, 2, 3] rfl (by decide) rfl rfl rfl) (fun v sel h => ?_)
  obtain ⟨rfl, b28_2, rfl, rfl⟩ := h
  refine g_chunks (cs' := [wS cI cS b28_2 s1, wS cI cS b28_1 s1, wS cI cS b28_0 s1, [(a0, .inr (0, [.ref q, .int 0, .int 0]))], [(q, .inl (cS, 4, .inr (.inr (.inr (.inr (va_up (va_up (fun _ => none) (ix 0) (some b28_0.1)) (ix 1) (some b28_1.1)))))))]]) rfl ?_
  refine g_astq (pc := 35) C 4 0 [wS cI cS b28_2 s1, wS cI cS b28_1 s1, wS cI cS b28_0 s1, [(a0, .inr (0, [.ref q, .int 0, .int 0]))], [(q, .inl (cS, 4, .inr (.inr (.inr (.inr (va_up (va_up (va_up (fun _ => none) (ix 0) (some b28_0.1)) (ix 1) (some b28_1.1)) (ix 2) (some b28_2.1)))))))]] rfl rfl (by decide) rfl dX0_init_35 ?_
  refine g_iinc (pc := 36) C 0 3 [(1, .int 3), (0, .ref a0)] dX0_init_36 rfl (by decide) (by decide) rfl ?_
  refine g_goto (pc := 39) C 14 dX0_init_39 (by decide) ?_
  refine g_iload_n (pc := 14) C 0 dX0_init_14 rfl ?_
  refine g_aload_n (pc := 15) C 1 dX0_init_15 rfl ?_
  refine gf_RX0_11 (pc := 16) C 3 rfl dX0_init_16 ?_
  refine g_alen (pc := 19) C 4 1 4 rfl rfl (show Int32.ofNat 4 = 4 from by decide) dX0_init_19 ?_
  refine g_icmp_ge (pc := 20) C 42 dX0_init_20 (by decide) (fun z => absurd (show (4 : Int32) ≤ 3 from z) (by decide)) (fun _ => ?_)
  refine g_aload_n (pc := 23) C 1 dX0_init_23 rfl ?_
  refine gf_RX0_11 (pc := 24) C 3 rfl dX0_init_24 ?_
  refine g_iload_n (pc := 27) C 0 dX0_init_27 rfl ?_
  refine g_new (pc := 28) C 3 [.null, .null, .null, .null, .null, .int 0, .int 0] tyX3 tyX3_ok inX3 m_148 m_63 m_ini_RX3 rfl (fun j hj => by rcases (show j = 0 ∨ j = 1 ∨ j = 2 ∨ j = 3 ∨ j = 4 ∨ j = 5 ∨ j = 6 by omega) with rfl | rfl | rfl | rfl | rfl | rfl | rfl <;> rfl) (Nat.le_of_ble_eq_true rfl) (Nat.le_of_ble_eq_true rfl) dX0_init_28 (fun q28_3 => ?_)
  refine g_chunks (cs' := [wS cI cS b28_2 s1, wS cI cS b28_1 s1, wS cI cS b28_0 s1, [(a0, .inr (0, [.ref q, .int 0, .int 0]))], [(q, .inl (cS, 4, .inr (.inr (.inr (.inr (va_up (va_up (va_up (fun _ => none) (ix 0) (some b28_0.1)) (ix 1) (some b28_1.1)) (ix 2) (some b28_2.1)))))))], [(q28_3, .inr (3, [.null, .null, .null, .null, .null, .int 0, .int 0]))]]) rfl ?_
  refine g_dup (pc := 31) C dX0_init_31 rfl ?_
  refine g_callI (pc := 32) hla C (c_X3_init l D cI cS q28_3 s1 h1) tb_X3_init m_150 m_65 m_ini_RX3 rfl rfl hd_X3_init.2 ⟨(Nat.le_of_ble_eq_true rfl), (Nat.le_of_ble_eq_true rfl)⟩ rfl rfl (Nat.le_of_ble_eq_true rfl) (Nat.le_of_ble_eq_true rfl) (Nat.le_of_ble_eq_true rfl) dX0_init_32 (k_sel (N := 6) (pieces := [[(q28_3, .inr (3, [.null, .null, .null, .null, .null, .int 0, .int 0]))]]) (rest := [wS cI cS b28_2 s1, wS cI cS b28_1 s1, wS cI cS b28_0 s1, [(a0, .inr (0, [.ref q, .int 0, .int 0]))], [(q, .inl (cS, 4, .inr (.inr (.inr (.inr (va_up (va_up (va_up (fun _ => none) (ix 0) (some b28_0.1)) (ix 1) (some b28_1.1)) (ix 2) (some b28_2.1)))))))]]) [5] [0, 1, 2, 3, 4] rfl (by decide) rfl rfl rfl) (fun v sel h => ?_)
  obtain ⟨rfl, b28_3, rfl, rfl⟩ := h
  refine g_chunks (cs' := [wS cI cS b28_3 s1, wS cI cS b28_2 s1, wS cI cS b28_1 s1, wS cI cS b28_0 s1, [(a0, .inr (0, [.ref q, .int 0, .int 0]))], [(q, .inl (cS, 4, .inr (.inr (.inr (.inr (va_up (va_up (va_up (fun _ => none) (ix 0) (some b28_0.1)) (ix 1) (some b28_1.1)) (ix 2) (some b28_2.1)))))))]]) rfl ?_
  refine g_astq (pc := 35) C 5 0 [wS cI cS b28_3 s1, wS cI cS b28_2 s1, wS cI cS b28_1 s1, wS cI cS b28_0 s1, [(a0, .inr (0, [.ref q, .int 0, .int 0]))], [(q, .inl (cS, 4, .inr (.inr (.inr (.inr (va_up (va_up (va_up (va_up (fun _ => none) (ix 0) (some b28_0.1)) (ix 1) (some b28_1.1)) (ix 2) (some b28_2.1)) (ix 3) (some b28_3.1)))))))]] rfl rfl (by decide) rfl dX0_init_35 ?_
  refine g_iinc (pc := 36) C 0 4 [(1, .int 4), (0, .ref a0)] dX0_init_36 rfl (by decide) (by decide) rfl ?_
  refine g_goto (pc := 39) C 14 dX0_init_39 (by decide) ?_
  refine g_iload_n (pc := 14) C 0 dX0_init_14 rfl ?_
  refine g_aload_n (pc := 15) C 1 dX0_init_15 rfl ?_
  refine gf_RX0_11 (pc := 16) C 4 rfl dX0_init_16 ?_
  refine g_alen (pc := 19) C 5 1 4 rfl rfl (show Int32.ofNat 4 = 4 from by decide) dX0_init_19 ?_
  refine g_icmp_ge (pc := 20) C 42 dX0_init_20 (by decide) (fun _ => ?_) (fun z => absurd (show (4 : Int32) ≤ 4 from by decide) z)
  have ea : (va_up (va_up (va_up (va_up (fun _ => none) (ix 0) (some b28_0.1)) (ix 1) (some b28_1.1)) (ix 2) (some b28_2.1)) (ix 3) (some b28_3.1)) = hSl (a0, q, b28_0, b28_1, b28_2, b28_3) := by
    funext j; simp only [va_up, hSl]
    show (if j = 3 then _ else if j = 2 then _ else if j = 1 then _ else if j = 0 then _ else _) = _
    by_cases j0 : j = 0
    · subst j0; rfl
    · by_cases j1 : j = 1
      · subst j1; rfl
      · by_cases j2 : j = 2
        · subst j2; rfl
        · simp only [if_neg j0, if_neg j1, if_neg j2]
  rw [ea]
  refine g_widen (k' := 69) (n' := 952) (Nat.le_of_ble_eq_true rfl) (Nat.le_of_ble_eq_true rfl) ?_
  refine g_world (k_sel (N := 6) (pieces := [[(a0, .inr (0, [.ref q, .int 0, .int 0]))], [(q, .inl (cS, 4, .inr (.inr (.inr (.inr (hSl (a0, q, b28_0, b28_1, b28_2, b28_3)))))))], wS cI cS b28_0 s1, wS cI cS b28_1 s1, wS cI cS b28_2 s1, wS cI cS b28_3 s1]) (rest := []) (sel := [wH cI cS (a0, q, b28_0, b28_1, b28_2, b28_3) ((s1, s1, s1, s1), 0, 0)]) [4, 5, 3, 2, 1, 0] [] rfl (by decide) rfl rfl rfl) ?_
  exact g_ret_v (pc := 42) C rfl ⟨rfl, (a0, q, b28_0, b28_1, b28_2, b28_3), rfl, rfl⟩ dX0_init_42
set_option maxHeartbeats 4000000 in
set_option maxRecDepth 100000 in
theorem c_X2_init (l : Launch) (D : va_G) (cI cS : ClassId) (a0 : Nat) : kM l D (kTy cI cS) yX2_init ct_X2_init { frames := 3, cells := 7, slots := 95, locals := 62 } [.ref a0] [[(a0, .inr (2, [.null, .null, .int 0, .int 0, .int 0, .int 0]))]] (fun v cs => v = none ∧ ∃ a : aC, a.1 = a0 ∧ cs = [wC cI cS a zC]) := by
  refine k_method cX2_init 1 none RX2 rfl [(0, .ref a0)] rfl (by decide +kernel) (Nat.le_of_ble_eq_true rfl) (fun κ A hla C => ?_)
  refine g_aload_n (pc := 0) C 0 dX2_init_0 rfl ?_
  refine g_objInit (pc := 1) C m_168 m_60 m_61 (Nat.le_of_ble_eq_true rfl) (Nat.le_of_ble_eq_true rfl) dX2_init_1 ?_
  refine g_aload_n (pc := 4) C 0 dX2_init_4 rfl ?_
  refine g_new (pc := 5) C 4 [.null, .null] tyX4 tyX4_ok inX4 m_169 m_69 m_ini_RX4 rfl (fun j hj => by rcases (show j = 0 ∨ j = 1 by omega) with rfl | rfl <;> rfl) (Nat.le_of_ble_eq_true rfl) (Nat.le_of_ble_eq_true rfl) dX2_init_5 (fun q5 => ?_)
  refine g_chunks (cs' := [[(a0, .inr (2, [.null, .null, .int 0, .int 0, .int 0, .int 0]))], [(q5, .inr (4, [.null, .null]))]]) rfl ?_
  refine g_dup (pc := 8) C dX2_init_8 rfl ?_
  refine g_callIN (pc := 9) 6 hla C (c_X4_init l D cI cS q5) tb_X4_init (show kNL[6]? = some (Cond.methodLinkNest RX2 11 yX4_init RX5) from rfl) m_71 m_ini_RX4 rfl rfl hd_X4_init.2 ⟨(Nat.le_of_ble_eq_true rfl), (Nat.le_of_ble_eq_true rfl)⟩ rfl rfl (Nat.le_of_ble_eq_true rfl) (Nat.le_of_ble_eq_true rfl) (Nat.le_of_ble_eq_true rfl) dX2_init_9 (k_sel (N := 2) (pieces := [[(q5, .inr (4, [.null, .null]))]]) (rest := [[(a0, .inr (2, [.null, .null, .int 0, .int 0, .int 0, .int 0]))]]) [1] [0] rfl (by decide) rfl rfl rfl) (fun v sel h => ?_)
  obtain ⟨rfl, b5, rfl, rfl⟩ := h
  refine g_chunks (cs' := [wT cI b5 zT, [(a0, .inr (2, [.null, .null, .int 0, .int 0, .int 0, .int 0]))]]) rfl ?_
  refine g_putF (pc := 12) C 1 2 0 tyX2 [wT cI b5 zT, [(a0, .inr (2, [.ref b5.1, .null, .int 0, .int 0, .int 0, .int 0]))]] tyX2_ok nmX2 inX2 rfl rfl (by decide) m_173 rfl rfl rfl rfl rfl rfl (Nat.le_of_ble_eq_true rfl) rfl dX2_init_12 ?_
  refine g_aload_n (pc := 15) C 0 dX2_init_15 rfl ?_
  refine g_new (pc := 16) C 1 [.null, .int 0] tyX1 tyX1_ok inX1 m_171 m_75 m_ini_RX1 rfl (fun j hj => by rcases (show j = 0 ∨ j = 1 by omega) with rfl | rfl <;> rfl) (Nat.le_of_ble_eq_true rfl) (Nat.le_of_ble_eq_true rfl) dX2_init_16 (fun q16 => ?_)
  refine g_chunks (cs' := [wT cI b5 zT, [(a0, .inr (2, [.ref b5.1, .null, .int 0, .int 0, .int 0, .int 0]))], [(q16, .inr (1, [.null, .int 0]))]]) rfl ?_
  refine g_dup (pc := 19) C dX2_init_19 rfl ?_
  refine g_bipush (pc := 20) C 7 dX2_init_20 (by decide) ?_
  refine g_callI (pc := 22) hla C (c_X1_init l D cI cS q16 7 7 (by decide) (by decide) (by decide)) tb_X1_init m_172 m_77 m_ini_RX1 rfl rfl hd_X1_init.2 ⟨(Nat.le_of_ble_eq_true rfl), (Nat.le_of_ble_eq_true rfl)⟩ rfl rfl (Nat.le_of_ble_eq_true rfl) (Nat.le_of_ble_eq_true rfl) (Nat.le_of_ble_eq_true rfl) dX2_init_22 (k_sel (N := 3) (pieces := [[(q16, .inr (1, [.null, .int 0]))]]) (rest := [wT cI b5 zT, [(a0, .inr (2, [.ref b5.1, .null, .int 0, .int 0, .int 0, .int 0]))]]) [2] [0, 1] rfl (by decide) rfl rfl rfl) (fun v sel h => ?_)
  obtain ⟨rfl, b16, rfl, rfl⟩ := h
  refine g_chunks (cs' := [wR cI b16 7 zR, wT cI b5 zT, [(a0, .inr (2, [.ref b5.1, .null, .int 0, .int 0, .int 0, .int 0]))]]) rfl ?_
  refine g_putF (pc := 25) C 2 2 1 tyX2 [wR cI b16 7 zR, wT cI b5 zT, [(a0, .inr (2, [.ref b5.1, .ref b16.1, .int 0, .int 0, .int 0, .int 0]))]] tyX2_ok nmX2 inX2 rfl rfl (by decide) m_175 rfl rfl rfl rfl rfl rfl (Nat.le_of_ble_eq_true rfl) rfl dX2_init_25 ?_
  refine g_widen (k' := 7) (n' := 95) (Nat.le_of_ble_eq_true rfl) (Nat.le_of_ble_eq_true rfl) ?_
  refine g_world (k_sel (N := 3) (pieces := [[(a0, .inr (2, [.ref b5.1, .ref b16.1, .int 0, .int 0, .int 0, .int 0]))], wT cI b5 zT, wR cI b16 7 zR]) (rest := []) (sel := [wC cI cS (a0, b5, b16) zC]) [2, 1, 0] [] rfl (by decide) rfl rfl rfl) ?_
  exact g_ret_v (pc := 28) C rfl ⟨rfl, (a0, b5, b16), rfl, rfl⟩ dX2_init_28
set_option maxHeartbeats 4000000 in
set_option maxRecDepth 100000 in
theorem c_X5_init (l : Launch) (D : va_G) (cI cS : ClassId) (a0 : Nat) (s1 s2 : ST) (h1 : S_clearMarks zS = some s1) (h2 : S_putNodeIn s1 0 0 0 = some s2) : kM l D (kTy cI cS) yX5_init ct_X5_init { frames := 5, cells := 97, slots := 1415, locals := 106 } [.ref a0] [[(a0, .inr (5, [.null, .null, .null, .null]))]] (fun v cs => v = none ∧ ∃ a : aP, a.1 = a0 ∧ cs = [wP cI cS a (s2, ((s1, s1, s1, s1), 0, 0), zR, zC)]) := by
  refine k_method cX5_init 1 none RX5 rfl [(0, .ref a0)] rfl (by decide +kernel) (Nat.le_of_ble_eq_true rfl) (fun κ A hla C => ?_)
  refine g_aload_n (pc := 0) C 0 dX5_init_0 rfl ?_
  refine g_objInit (pc := 1) C m_59 m_60 m_61 (Nat.le_of_ble_eq_true rfl) (Nat.le_of_ble_eq_true rfl) dX5_init_1 ?_
  refine g_aload_n (pc := 4) C 0 dX5_init_4 rfl ?_
  refine g_new (pc := 5) C 3 [.null, .null, .null, .null, .null, .int 0, .int 0] tyX3 tyX3_ok inX3 m_62 m_63 m_ini_RX3 rfl (fun j hj => by rcases (show j = 0 ∨ j = 1 ∨ j = 2 ∨ j = 3 ∨ j = 4 ∨ j = 5 ∨ j = 6 by omega) with rfl | rfl | rfl | rfl | rfl | rfl | rfl <;> rfl) (Nat.le_of_ble_eq_true rfl) (Nat.le_of_ble_eq_true rfl) dX5_init_5 (fun q5 => ?_)
  refine g_chunks (cs' := [[(a0, .inr (5, [.null, .null, .null, .null]))], [(q5, .inr (3, [.null, .null, .null, .null, .null, .int 0, .int 0]))]]) rfl ?_
  refine g_dup (pc := 8) C dX5_init_8 rfl ?_
  refine g_callI (pc := 9) hla C (c_X3_init l D cI cS q5 s1 h1) tb_X3_init m_64 m_65 m_ini_RX3 rfl rfl hd_X3_init.2 ⟨(Nat.le_of_ble_eq_true rfl), (Nat.le_of_ble_eq_true rfl)⟩ rfl rfl (Nat.le_of_ble_eq_true rfl) (Nat.le_of_ble_eq_true rfl) (Nat.le_of_ble_eq_true rfl) dX5_init_9 (k_sel (N := 2) (pieces := [[(q5, .inr (3, [.null, .null, .null, .null, .null, .int 0, .int 0]))]]) (rest := [[(a0, .inr (5, [.null, .null, .null, .null]))]]) [1] [0] rfl (by decide) rfl rfl rfl) (fun v sel h => ?_)
  obtain ⟨rfl, b5, rfl, rfl⟩ := h
  refine g_chunks (cs' := [wS cI cS b5 s1, [(a0, .inr (5, [.null, .null, .null, .null]))]]) rfl ?_
  refine g_putF (pc := 12) C 1 5 0 tyX5 [wS cI cS b5 s1, [(a0, .inr (5, [.ref b5.1, .null, .null, .null]))]] tyX5_ok nmX5 inX5 rfl rfl (by decide) m_205 rfl rfl rfl rfl rfl rfl (Nat.le_of_ble_eq_true rfl) rfl dX5_init_12 ?_
  refine g_aload_n (pc := 15) C 0 dX5_init_15 rfl ?_
  refine g_new (pc := 16) C 0 [.null, .int 0, .int 0] tyX0 tyX0_ok inX0 m_142 m_143 m_ini_RX0 rfl (fun j hj => by rcases (show j = 0 ∨ j = 1 ∨ j = 2 by omega) with rfl | rfl | rfl <;> rfl) (Nat.le_of_ble_eq_true rfl) (Nat.le_of_ble_eq_true rfl) dX5_init_16 (fun q16 => ?_)
  refine g_chunks (cs' := [wS cI cS b5 s1, [(a0, .inr (5, [.ref b5.1, .null, .null, .null]))], [(q16, .inr (0, [.null, .int 0, .int 0]))]]) rfl ?_
  refine g_dup (pc := 19) C dX5_init_19 rfl ?_
  refine g_callI (pc := 20) hla C (c_X0_init l D cI cS q16 s1 h1) tb_X0_init m_144 m_145 m_ini_RX0 rfl rfl hd_X0_init.2 ⟨(Nat.le_of_ble_eq_true rfl), (Nat.le_of_ble_eq_true rfl)⟩ rfl rfl (Nat.le_of_ble_eq_true rfl) (Nat.le_of_ble_eq_true rfl) (Nat.le_of_ble_eq_true rfl) dX5_init_20 (k_sel (N := 3) (pieces := [[(q16, .inr (0, [.null, .int 0, .int 0]))]]) (rest := [wS cI cS b5 s1, [(a0, .inr (5, [.ref b5.1, .null, .null, .null]))]]) [2] [0, 1] rfl (by decide) rfl rfl rfl) (fun v sel h => ?_)
  obtain ⟨rfl, b16, rfl, rfl⟩ := h
  refine g_chunks (cs' := [wH cI cS b16 ((s1, s1, s1, s1), 0, 0), wS cI cS b5 s1, [(a0, .inr (5, [.ref b5.1, .null, .null, .null]))]]) rfl ?_
  refine g_putF (pc := 23) C 2 5 1 tyX5 [wH cI cS b16 ((s1, s1, s1, s1), 0, 0), wS cI cS b5 s1, [(a0, .inr (5, [.ref b5.1, .ref b16.1, .null, .null]))]] tyX5_ok nmX5 inX5 rfl rfl (by decide) m_206 rfl rfl rfl rfl rfl rfl (Nat.le_of_ble_eq_true rfl) rfl dX5_init_23 ?_
  refine g_aload_n (pc := 26) C 0 dX5_init_26 rfl ?_
  refine g_new (pc := 27) C 1 [.null, .int 0] tyX1 tyX1_ok inX1 m_161 m_75 m_ini_RX1 rfl (fun j hj => by rcases (show j = 0 ∨ j = 1 by omega) with rfl | rfl <;> rfl) (Nat.le_of_ble_eq_true rfl) (Nat.le_of_ble_eq_true rfl) dX5_init_27 (fun q27 => ?_)
  refine g_chunks (cs' := [wH cI cS b16 ((s1, s1, s1, s1), 0, 0), wS cI cS b5 s1, [(a0, .inr (5, [.ref b5.1, .ref b16.1, .null, .null]))], [(q27, .inr (1, [.null, .int 0]))]]) rfl ?_
  refine g_dup (pc := 30) C dX5_init_30 rfl ?_
  refine g_bipush (pc := 31) C 120 dX5_init_31 (by decide) ?_
  refine g_callI (pc := 33) hla C (c_X1_init l D cI cS q27 120 120 (by decide) (by decide) (by decide)) tb_X1_init m_162 m_77 m_ini_RX1 rfl rfl hd_X1_init.2 ⟨(Nat.le_of_ble_eq_true rfl), (Nat.le_of_ble_eq_true rfl)⟩ rfl rfl (Nat.le_of_ble_eq_true rfl) (Nat.le_of_ble_eq_true rfl) (Nat.le_of_ble_eq_true rfl) dX5_init_33 (k_sel (N := 4) (pieces := [[(q27, .inr (1, [.null, .int 0]))]]) (rest := [wH cI cS b16 ((s1, s1, s1, s1), 0, 0), wS cI cS b5 s1, [(a0, .inr (5, [.ref b5.1, .ref b16.1, .null, .null]))]]) [3] [0, 1, 2] rfl (by decide) rfl rfl rfl) (fun v sel h => ?_)
  obtain ⟨rfl, b27, rfl, rfl⟩ := h
  refine g_chunks (cs' := [wR cI b27 120 zR, wH cI cS b16 ((s1, s1, s1, s1), 0, 0), wS cI cS b5 s1, [(a0, .inr (5, [.ref b5.1, .ref b16.1, .null, .null]))]]) rfl ?_
  refine g_putF (pc := 36) C 3 5 2 tyX5 [wR cI b27 120 zR, wH cI cS b16 ((s1, s1, s1, s1), 0, 0), wS cI cS b5 s1, [(a0, .inr (5, [.ref b5.1, .ref b16.1, .ref b27.1, .null]))]] tyX5_ok nmX5 inX5 rfl rfl (by decide) m_207 rfl rfl rfl rfl rfl rfl (Nat.le_of_ble_eq_true rfl) rfl dX5_init_36 ?_
  refine g_aload_n (pc := 39) C 0 dX5_init_39 rfl ?_
  refine g_new (pc := 40) C 2 [.null, .null, .int 0, .int 0, .int 0, .int 0] tyX2 tyX2_ok inX2 m_163 m_164 m_ini_RX2 rfl (fun j hj => by rcases (show j = 0 ∨ j = 1 ∨ j = 2 ∨ j = 3 ∨ j = 4 ∨ j = 5 by omega) with rfl | rfl | rfl | rfl | rfl | rfl <;> rfl) (Nat.le_of_ble_eq_true rfl) (Nat.le_of_ble_eq_true rfl) dX5_init_40 (fun q40 => ?_)
  refine g_chunks (cs' := [wR cI b27 120 zR, wH cI cS b16 ((s1, s1, s1, s1), 0, 0), wS cI cS b5 s1, [(a0, .inr (5, [.ref b5.1, .ref b16.1, .ref b27.1, .null]))], [(q40, .inr (2, [.null, .null, .int 0, .int 0, .int 0, .int 0]))]]) rfl ?_
  refine g_dup (pc := 43) C dX5_init_43 rfl ?_
  refine g_callIN (pc := 44) 5 hla C (c_X2_init l D cI cS q40) tb_X2_init (show kNL[5]? = some (Cond.methodLinkNest RX5 34 yX2_init RX5) from rfl) m_166 m_ini_RX2 rfl rfl hd_X2_init.2 ⟨(Nat.le_of_ble_eq_true rfl), (Nat.le_of_ble_eq_true rfl)⟩ rfl rfl (Nat.le_of_ble_eq_true rfl) (Nat.le_of_ble_eq_true rfl) (Nat.le_of_ble_eq_true rfl) dX5_init_44 (k_sel (N := 5) (pieces := [[(q40, .inr (2, [.null, .null, .int 0, .int 0, .int 0, .int 0]))]]) (rest := [wR cI b27 120 zR, wH cI cS b16 ((s1, s1, s1, s1), 0, 0), wS cI cS b5 s1, [(a0, .inr (5, [.ref b5.1, .ref b16.1, .ref b27.1, .null]))]]) [4] [0, 1, 2, 3] rfl (by decide) rfl rfl rfl) (fun v sel h => ?_)
  obtain ⟨rfl, b40, rfl, rfl⟩ := h
  refine g_chunks (cs' := [wC cI cS b40 zC, wR cI b27 120 zR, wH cI cS b16 ((s1, s1, s1, s1), 0, 0), wS cI cS b5 s1, [(a0, .inr (5, [.ref b5.1, .ref b16.1, .ref b27.1, .null]))]]) rfl ?_
  refine g_putF (pc := 47) C 4 5 3 tyX5 [wC cI cS b40 zC, wR cI b27 120 zR, wH cI cS b16 ((s1, s1, s1, s1), 0, 0), wS cI cS b5 s1, [(a0, .inr (5, [.ref b5.1, .ref b16.1, .ref b27.1, .ref b40.1]))]] tyX5_ok nmX5 inX5 rfl rfl (by decide) m_208 rfl rfl rfl rfl rfl rfl (Nat.le_of_ble_eq_true rfl) rfl dX5_init_47 ?_
  refine g_aload_n (pc := 50) C 0 dX5_init_50 rfl ?_
  refine gf_RX5_10 (pc := 51) C 4 rfl dX5_init_51 ?_
  refine g_iconst (pc := 54) C 0 dX5_init_54 (by decide) ?_
  refine g_iconst (pc := 55) C 0 dX5_init_55 (by decide) ?_
  refine g_iconst (pc := 56) C 0 dX5_init_56 (by decide) ?_
  refine g_widen (k' := 97) (n' := 1415) (Nat.le_of_ble_eq_true rfl) (Nat.le_of_ble_eq_true rfl) ?_
  refine g_callV (pc := 57) hla C (c_X3_putNodeIn l D cI cS b5 s1 0 0 0 s2 h2) gg_RX5_39 rfl hd_X3_putNodeIn ⟨(Nat.le_of_ble_eq_true rfl), (Nat.le_of_ble_eq_true rfl)⟩ rfl rfl rfl rfl (Nat.le_of_ble_eq_true rfl) (Nat.le_of_ble_eq_true rfl) (Nat.le_of_ble_eq_true rfl) dX5_init_57 (k_sel (N := 5) (pieces := [wS cI cS b5 s1]) (rest := [wC cI cS b40 zC, wR cI b27 120 zR, wH cI cS b16 ((s1, s1, s1, s1), 0, 0), [(a0, .inr (5, [.ref b5.1, .ref b16.1, .ref b27.1, .ref b40.1]))]]) [3] [0, 1, 2, 4] rfl (by decide) rfl rfl rfl) (fun v sel h => ?_)
  obtain ⟨rfl, rfl⟩ := h
  refine g_chunks (cs' := [wS cI cS b5 s2, wC cI cS b40 zC, wR cI b27 120 zR, wH cI cS b16 ((s1, s1, s1, s1), 0, 0), [(a0, .inr (5, [.ref b5.1, .ref b16.1, .ref b27.1, .ref b40.1]))]]) rfl ?_
  refine g_widen (k' := 97) (n' := 1415) (Nat.le_of_ble_eq_true rfl) (Nat.le_of_ble_eq_true rfl) ?_
  refine g_world (k_sel (N := 5) (pieces := [[(a0, .inr (5, [.ref b5.1, .ref b16.1, .ref b27.1, .ref b40.1]))], wS cI cS b5 s2, wH cI cS b16 ((s1, s1, s1, s1), 0, 0), wR cI b27 120 zR, wC cI cS b40 zC]) (rest := []) (sel := [wP cI cS (a0, b5, b16, b27, b40) (s2, ((s1, s1, s1, s1), 0, 0), zR, zC)]) [4, 0, 3, 2, 1] [] rfl (by decide) rfl rfl rfl) ?_
  exact g_ret_v (pc := 60) C rfl ⟨rfl, (a0, b5, b16, b27, b40), rfl, rfl⟩ dX5_init_60
abbrev m0s : Arr := upd (upd (upd (upd (upd (upd zA 0 1) 1 1) 5 (-1)) 6 (-1)) 7 (-1)) 8 (-1)
abbrev m0 : MD := (m0s, zA, zA, 0, zA, zA, 0, 0, 0, 0, zA, zA)
set_option maxHeartbeats 4000000 in
set_option maxRecDepth 100000 in
theorem c_X6_init (l : Launch) (D : va_G) (cI cS : ClassId) (a0 : Nat) : kM l D (kTy cI cS) yX6_init ct_X6_init { frames := 1, cells := 7, slots := 1637, locals := 20 } [.ref a0] [[(a0, .inr (6, [.null, .null, .null, .int 0, .null, .null, .int 0, .int 0, .int 0, .int 0, .null, .null]))]] (fun v cs => v = none ∧ ∃ a : aM, a.1 = a0 ∧ cs = [wM cI cS a m0]) := by
  refine k_method cX6_init 2 none RX6 rfl [(0, .ref a0)] rfl (by decide +kernel) (Nat.le_of_ble_eq_true rfl) (fun κ A hla C => ?_)
  refine g_aload_n (pc := 0) C 0 dX6_init_0 rfl ?_
  refine g_objInit (pc := 1) C m_650 m_60 m_61 (Nat.le_of_ble_eq_true rfl) (Nat.le_of_ble_eq_true rfl) dX6_init_1 ?_
  refine g_aload_n (pc := 4) C 0 dX6_init_4 rfl ?_
  refine g_sipush (pc := 5) C 218 dX6_init_5 (by decide) ?_
  refine g_newa (pc := 8) C 218 (by decide) (by decide) (by decide) (Nat.le_of_ble_eq_true rfl) (Nat.le_of_ble_eq_true rfl) dX6_init_8 (fun zs => ?_)
  refine g_chunks (cs' := [[(a0, .inr (6, [.null, .null, .null, .int 0, .null, .null, .int 0, .int 0, .int 0, .int 0, .null, .null]))], arI cI zs 218 zA]) rfl ?_
  refine g_putF (pc := 10) C 0 6 0 tyX6 [[(a0, .inr (6, [.ref zs, .null, .null, .int 0, .null, .null, .int 0, .int 0, .int 0, .int 0, .null, .null]))], arI cI zs 218 zA] tyX6_ok nmX6 inX6 rfl rfl (by decide) m_651 rfl rfl rfl rfl rfl rfl (Nat.le_of_ble_eq_true rfl) rfl dX6_init_10 ?_
  refine g_aload_n (pc := 13) C 0 dX6_init_13 rfl ?_
  refine g_sipush (pc := 14) C 218 dX6_init_14 (by decide) ?_
  refine g_newa (pc := 17) C 218 (by decide) (by decide) (by decide) (Nat.le_of_ble_eq_true rfl) (Nat.le_of_ble_eq_true rfl) dX6_init_17 (fun zbegun => ?_)
  refine g_chunks (cs' := [[(a0, .inr (6, [.ref zs, .null, .null, .int 0, .null, .null, .int 0, .int 0, .int 0, .int 0, .null, .null]))], arI cI zs 218 zA, arI cI zbegun 218 zA]) rfl ?_
  refine g_putF (pc := 19) C 0 6 1 tyX6 [[(a0, .inr (6, [.ref zs, .ref zbegun, .null, .int 0, .null, .null, .int 0, .int 0, .int 0, .int 0, .null, .null]))], arI cI zs 218 zA, arI cI zbegun 218 zA] tyX6_ok nmX6 inX6 rfl rfl (by decide) m_652 rfl rfl rfl rfl rfl rfl (Nat.le_of_ble_eq_true rfl) rfl dX6_init_19 ?_
  refine g_aload_n (pc := 22) C 0 dX6_init_22 rfl ?_
  refine g_sipush (pc := 23) C 872 dX6_init_23 (by decide) ?_
  refine g_newa (pc := 26) C 872 (by decide) (by decide) (by decide) (Nat.le_of_ble_eq_true rfl) (Nat.le_of_ble_eq_true rfl) dX6_init_26 (fun zpast => ?_)
  refine g_chunks (cs' := [[(a0, .inr (6, [.ref zs, .ref zbegun, .null, .int 0, .null, .null, .int 0, .int 0, .int 0, .int 0, .null, .null]))], arI cI zs 218 zA, arI cI zbegun 218 zA, arI cI zpast 872 zA]) rfl ?_
  refine g_putF (pc := 28) C 0 6 2 tyX6 [[(a0, .inr (6, [.ref zs, .ref zbegun, .ref zpast, .int 0, .null, .null, .int 0, .int 0, .int 0, .int 0, .null, .null]))], arI cI zs 218 zA, arI cI zbegun 218 zA, arI cI zpast 872 zA] tyX6_ok nmX6 inX6 rfl rfl (by decide) m_653 rfl rfl rfl rfl rfl rfl (Nat.le_of_ble_eq_true rfl) rfl dX6_init_28 ?_
  refine g_aload_n (pc := 31) C 0 dX6_init_31 rfl ?_
  refine g_bipush (pc := 32) C 120 dX6_init_32 (by decide) ?_
  refine g_newa (pc := 34) C 120 (by decide) (by decide) (by decide) (Nat.le_of_ble_eq_true rfl) (Nat.le_of_ble_eq_true rfl) dX6_init_34 (fun zaside => ?_)
  refine g_chunks (cs' := [[(a0, .inr (6, [.ref zs, .ref zbegun, .ref zpast, .int 0, .null, .null, .int 0, .int 0, .int 0, .int 0, .null, .null]))], arI cI zs 218 zA, arI cI zbegun 218 zA, arI cI zpast 872 zA, arI cI zaside 120 zA]) rfl ?_
  refine g_putF (pc := 36) C 0 6 4 tyX6 [[(a0, .inr (6, [.ref zs, .ref zbegun, .ref zpast, .int 0, .ref zaside, .null, .int 0, .int 0, .int 0, .int 0, .null, .null]))], arI cI zs 218 zA, arI cI zbegun 218 zA, arI cI zpast 872 zA, arI cI zaside 120 zA] tyX6_ok nmX6 inX6 rfl rfl (by decide) m_655 rfl rfl rfl rfl rfl rfl (Nat.le_of_ble_eq_true rfl) rfl dX6_init_36 ?_
  refine g_aload_n (pc := 39) C 0 dX6_init_39 rfl ?_
  refine g_bipush (pc := 40) C 120 dX6_init_40 (by decide) ?_
  refine g_newa (pc := 42) C 120 (by decide) (by decide) (by decide) (Nat.le_of_ble_eq_true rfl) (Nat.le_of_ble_eq_true rfl) dX6_init_42 (fun ztext => ?_)
  refine g_chunks (cs' := [[(a0, .inr (6, [.ref zs, .ref zbegun, .ref zpast, .int 0, .ref zaside, .null, .int 0, .int 0, .int 0, .int 0, .null, .null]))], arI cI zs 218 zA, arI cI zbegun 218 zA, arI cI zpast 872 zA, arI cI zaside 120 zA, arI cI ztext 120 zA]) rfl ?_
  refine g_putF (pc := 44) C 0 6 5 tyX6 [[(a0, .inr (6, [.ref zs, .ref zbegun, .ref zpast, .int 0, .ref zaside, .ref ztext, .int 0, .int 0, .int 0, .int 0, .null, .null]))], arI cI zs 218 zA, arI cI zbegun 218 zA, arI cI zpast 872 zA, arI cI zaside 120 zA, arI cI ztext 120 zA] tyX6_ok nmX6 inX6 rfl rfl (by decide) m_656 rfl rfl rfl rfl rfl rfl (Nat.le_of_ble_eq_true rfl) rfl dX6_init_44 ?_
  refine g_aload_n (pc := 47) C 0 dX6_init_47 rfl ?_
  refine g_bipush (pc := 48) C 80 dX6_init_48 (by decide) ?_
  refine g_newa (pc := 50) C 80 (by decide) (by decide) (by decide) (Nat.le_of_ble_eq_true rfl) (Nat.le_of_ble_eq_true rfl) dX6_init_50 (fun ztold => ?_)
  refine g_chunks (cs' := [[(a0, .inr (6, [.ref zs, .ref zbegun, .ref zpast, .int 0, .ref zaside, .ref ztext, .int 0, .int 0, .int 0, .int 0, .null, .null]))], arI cI zs 218 zA, arI cI zbegun 218 zA, arI cI zpast 872 zA, arI cI zaside 120 zA, arI cI ztext 120 zA, arI cI ztold 80 zA]) rfl ?_
  refine g_putF (pc := 52) C 0 6 10 tyX6 [[(a0, .inr (6, [.ref zs, .ref zbegun, .ref zpast, .int 0, .ref zaside, .ref ztext, .int 0, .int 0, .int 0, .int 0, .ref ztold, .null]))], arI cI zs 218 zA, arI cI zbegun 218 zA, arI cI zpast 872 zA, arI cI zaside 120 zA, arI cI ztext 120 zA, arI cI ztold 80 zA] tyX6_ok nmX6 inX6 rfl rfl (by decide) m_661 rfl rfl rfl rfl rfl rfl (Nat.le_of_ble_eq_true rfl) rfl dX6_init_52 ?_
  refine g_aload_n (pc := 55) C 0 dX6_init_55 rfl ?_
  refine g_bipush (pc := 56) C 9 dX6_init_56 (by decide) ?_
  refine g_newa (pc := 58) C 9 (by decide) (by decide) (by decide) (Nat.le_of_ble_eq_true rfl) (Nat.le_of_ble_eq_true rfl) dX6_init_58 (fun zrows => ?_)
  refine g_chunks (cs' := [[(a0, .inr (6, [.ref zs, .ref zbegun, .ref zpast, .int 0, .ref zaside, .ref ztext, .int 0, .int 0, .int 0, .int 0, .ref ztold, .null]))], arI cI zs 218 zA, arI cI zbegun 218 zA, arI cI zpast 872 zA, arI cI zaside 120 zA, arI cI ztext 120 zA, arI cI ztold 80 zA, arI cI zrows 9 zA]) rfl ?_
  refine g_putF (pc := 60) C 0 6 11 tyX6 [[(a0, .inr (6, [.ref zs, .ref zbegun, .ref zpast, .int 0, .ref zaside, .ref ztext, .int 0, .int 0, .int 0, .int 0, .ref ztold, .ref zrows]))], arI cI zs 218 zA, arI cI zbegun 218 zA, arI cI zpast 872 zA, arI cI zaside 120 zA, arI cI ztext 120 zA, arI cI ztold 80 zA, arI cI zrows 9 zA] tyX6_ok nmX6 inX6 rfl rfl (by decide) m_662 rfl rfl rfl rfl rfl rfl (Nat.le_of_ble_eq_true rfl) rfl dX6_init_60 ?_
  refine g_aload_n (pc := 63) C 0 dX6_init_63 rfl ?_
  refine gf_RX6_7 (pc := 64) C 0 rfl dX6_init_64 ?_
  refine g_iconst (pc := 67) C 0 dX6_init_67 (by decide) ?_
  refine g_iconst (pc := 68) C 1 dX6_init_68 (by decide) ?_
  refine g_iast (pc := 69) C 1 0 [[(a0, .inr (6, [.ref zs, .ref zbegun, .ref zpast, .int 0, .ref zaside, .ref ztext, .int 0, .int 0, .int 0, .int 0, .ref ztold, .ref zrows]))], arI cI zs 218 (upd zA 0 1), arI cI zbegun 218 zA, arI cI zpast 872 zA, arI cI zaside 120 zA, arI cI ztext 120 zA, arI cI ztold 80 zA, arI cI zrows 9 zA] rfl rfl (by decide) rfl dX6_init_69 ?_
  refine g_aload_n (pc := 70) C 0 dX6_init_70 rfl ?_
  refine gf_RX6_7 (pc := 71) C 0 rfl dX6_init_71 ?_
  refine g_iconst (pc := 74) C 1 dX6_init_74 (by decide) ?_
  refine g_iconst (pc := 75) C 1 dX6_init_75 (by decide) ?_
  refine g_iast (pc := 76) C 1 0 [[(a0, .inr (6, [.ref zs, .ref zbegun, .ref zpast, .int 0, .ref zaside, .ref ztext, .int 0, .int 0, .int 0, .int 0, .ref ztold, .ref zrows]))], arI cI zs 218 (upd (upd zA 0 1) 1 1), arI cI zbegun 218 zA, arI cI zpast 872 zA, arI cI zaside 120 zA, arI cI ztext 120 zA, arI cI ztold 80 zA, arI cI zrows 9 zA] rfl rfl (by decide) rfl dX6_init_76 ?_
  refine g_iconst (pc := 77) C 0 dX6_init_77 (by decide) ?_
  refine g_istore_n (pc := 78) C [(1, .int 0), (0, .ref a0)] dX6_init_78 (by decide) rfl ?_
  refine g_iload_n (pc := 79) C 0 dX6_init_79 rfl ?_
  refine g_iconst (pc := 80) C 4 dX6_init_80 (by decide) ?_
  refine g_icmp_ge (pc := 81) C 99 dX6_init_81 (by decide) (fun z => absurd (show (4 : Int32) ≤ 0 from z) (by decide)) (fun _ => ?_)
  refine g_aload_n (pc := 84) C 1 dX6_init_84 rfl ?_
  refine gf_RX6_7 (pc := 85) C 0 rfl dX6_init_85 ?_
  refine g_iconst (pc := 88) C 5 dX6_init_88 (by decide) ?_
  refine g_iload_n (pc := 89) C 0 dX6_init_89 rfl ?_
  refine g_iadd (pc := 90) C dX6_init_90 ?_
  rw [show (5 : Int32) + 0 = 5 from by decide]
  refine g_iconst (pc := 91) C (-1) dX6_init_91 (by decide) ?_
  refine g_iast (pc := 92) C 1 0 [[(a0, .inr (6, [.ref zs, .ref zbegun, .ref zpast, .int 0, .ref zaside, .ref ztext, .int 0, .int 0, .int 0, .int 0, .ref ztold, .ref zrows]))], arI cI zs 218 (upd (upd (upd zA 0 1) 1 1) 5 (-1)), arI cI zbegun 218 zA, arI cI zpast 872 zA, arI cI zaside 120 zA, arI cI ztext 120 zA, arI cI ztold 80 zA, arI cI zrows 9 zA] rfl rfl (by decide) rfl dX6_init_92 ?_
  refine g_iinc (pc := 93) C 0 1 [(1, .int 1), (0, .ref a0)] dX6_init_93 rfl (by decide) (by decide) rfl ?_
  refine g_goto (pc := 96) C 79 dX6_init_96 (by decide) ?_
  refine g_iload_n (pc := 79) C 0 dX6_init_79 rfl ?_
  refine g_iconst (pc := 80) C 4 dX6_init_80 (by decide) ?_
  refine g_icmp_ge (pc := 81) C 99 dX6_init_81 (by decide) (fun z => absurd (show (4 : Int32) ≤ 1 from z) (by decide)) (fun _ => ?_)
  refine g_aload_n (pc := 84) C 1 dX6_init_84 rfl ?_
  refine gf_RX6_7 (pc := 85) C 0 rfl dX6_init_85 ?_
  refine g_iconst (pc := 88) C 5 dX6_init_88 (by decide) ?_
  refine g_iload_n (pc := 89) C 0 dX6_init_89 rfl ?_
  refine g_iadd (pc := 90) C dX6_init_90 ?_
  rw [show (5 : Int32) + 1 = 6 from by decide]
  refine g_iconst (pc := 91) C (-1) dX6_init_91 (by decide) ?_
  refine g_iast (pc := 92) C 1 0 [[(a0, .inr (6, [.ref zs, .ref zbegun, .ref zpast, .int 0, .ref zaside, .ref ztext, .int 0, .int 0, .int 0, .int 0, .ref ztold, .ref zrows]))], arI cI zs 218 (upd (upd (upd (upd zA 0 1) 1 1) 5 (-1)) 6 (-1)), arI cI zbegun 218 zA, arI cI zpast 872 zA, arI cI zaside 120 zA, arI cI ztext 120 zA, arI cI ztold 80 zA, arI cI zrows 9 zA] rfl rfl (by decide) rfl dX6_init_92 ?_
  refine g_iinc (pc := 93) C 0 2 [(1, .int 2), (0, .ref a0)] dX6_init_93 rfl (by decide) (by decide) rfl ?_
  refine g_goto (pc := 96) C 79 dX6_init_96 (by decide) ?_
  refine g_iload_n (pc := 79) C 0 dX6_init_79 rfl ?_
  refine g_iconst (pc := 80) C 4 dX6_init_80 (by decide) ?_
  refine g_icmp_ge (pc := 81) C 99 dX6_init_81 (by decide) (fun z => absurd (show (4 : Int32) ≤ 2 from z) (by decide)) (fun _ => ?_)
  refine g_aload_n (pc := 84) C 1 dX6_init_84 rfl ?_
  refine gf_RX6_7 (pc := 85) C 0 rfl dX6_init_85 ?_
  refine g_iconst (pc := 88) C 5 dX6_init_88 (by decide) ?_
  refine g_iload_n (pc := 89) C 0 dX6_init_89 rfl ?_
  refine g_iadd (pc := 90) C dX6_init_90 ?_
  rw [show (5 : Int32) + 2 = 7 from by decide]
  refine g_iconst (pc := 91) C (-1) dX6_init_91 (by decide) ?_
  refine g_iast (pc := 92) C 1 0 [[(a0, .inr (6, [.ref zs, .ref zbegun, .ref zpast, .int 0, .ref zaside, .ref ztext, .int 0, .int 0, .int 0, .int 0, .ref ztold, .ref zrows]))], arI cI zs 218 (upd (upd (upd (upd (upd zA 0 1) 1 1) 5 (-1)) 6 (-1)) 7 (-1)), arI cI zbegun 218 zA, arI cI zpast 872 zA, arI cI zaside 120 zA, arI cI ztext 120 zA, arI cI ztold 80 zA, arI cI zrows 9 zA] rfl rfl (by decide) rfl dX6_init_92 ?_
  refine g_iinc (pc := 93) C 0 3 [(1, .int 3), (0, .ref a0)] dX6_init_93 rfl (by decide) (by decide) rfl ?_
  refine g_goto (pc := 96) C 79 dX6_init_96 (by decide) ?_
  refine g_iload_n (pc := 79) C 0 dX6_init_79 rfl ?_
  refine g_iconst (pc := 80) C 4 dX6_init_80 (by decide) ?_
  refine g_icmp_ge (pc := 81) C 99 dX6_init_81 (by decide) (fun z => absurd (show (4 : Int32) ≤ 3 from z) (by decide)) (fun _ => ?_)
  refine g_aload_n (pc := 84) C 1 dX6_init_84 rfl ?_
  refine gf_RX6_7 (pc := 85) C 0 rfl dX6_init_85 ?_
  refine g_iconst (pc := 88) C 5 dX6_init_88 (by decide) ?_
  refine g_iload_n (pc := 89) C 0 dX6_init_89 rfl ?_
  refine g_iadd (pc := 90) C dX6_init_90 ?_
  rw [show (5 : Int32) + 3 = 8 from by decide]
  refine g_iconst (pc := 91) C (-1) dX6_init_91 (by decide) ?_
  refine g_iast (pc := 92) C 1 0 [[(a0, .inr (6, [.ref zs, .ref zbegun, .ref zpast, .int 0, .ref zaside, .ref ztext, .int 0, .int 0, .int 0, .int 0, .ref ztold, .ref zrows]))], arI cI zs 218 (upd (upd (upd (upd (upd (upd zA 0 1) 1 1) 5 (-1)) 6 (-1)) 7 (-1)) 8 (-1)), arI cI zbegun 218 zA, arI cI zpast 872 zA, arI cI zaside 120 zA, arI cI ztext 120 zA, arI cI ztold 80 zA, arI cI zrows 9 zA] rfl rfl (by decide) rfl dX6_init_92 ?_
  refine g_iinc (pc := 93) C 0 4 [(1, .int 4), (0, .ref a0)] dX6_init_93 rfl (by decide) (by decide) rfl ?_
  refine g_goto (pc := 96) C 79 dX6_init_96 (by decide) ?_
  refine g_iload_n (pc := 79) C 0 dX6_init_79 rfl ?_
  refine g_iconst (pc := 80) C 4 dX6_init_80 (by decide) ?_
  refine g_icmp_ge (pc := 81) C 99 dX6_init_81 (by decide) (fun _ => ?_) (fun z => absurd (show (4 : Int32) ≤ 4 from by decide) z)
  refine g_widen (k' := 7) (n' := 1637) (Nat.le_of_ble_eq_true rfl) (Nat.le_of_ble_eq_true rfl) ?_
  refine g_world (k_sel (N := 8) (pieces := [[(a0, .inr (6, [.ref zs, .ref zbegun, .ref zpast, .int 0, .ref zaside, .ref ztext, .int 0, .int 0, .int 0, .int 0, .ref ztold, .ref zrows]))], arI cI zs 218 (upd (upd (upd (upd (upd (upd zA 0 1) 1 1) 5 (-1)) 6 (-1)) 7 (-1)) 8 (-1)), arI cI zbegun 218 zA, arI cI zpast 872 zA, arI cI zaside 120 zA, arI cI ztext 120 zA, arI cI ztold 80 zA, arI cI zrows 9 zA]) (rest := []) (sel := [wM cI cS (a0, zs, zbegun, zpast, zaside, ztext, ztold, zrows) m0]) [0, 1, 2, 3, 4, 5, 6, 7] [] rfl (by decide) rfl rfl rfl) ?_
  exact g_ret_v (pc := 99) C rfl ⟨rfl, (a0, zs, zbegun, zpast, zaside, ztext, ztold, zrows), rfl, rfl⟩ dX6_init_99
