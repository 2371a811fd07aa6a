theorem tb_good {w : Cond} (h : w ∈ TB) : GoodIn TB (w :: TB) := fun q hq => by
  rcases List.mem_cons.mp hq with rfl | hq
  · exact ⟨h, TB_good _ h⟩
  · exact ⟨hq, TB_good _ hq⟩
/-! my kit of calls by equations; the links of this claim -/
abbrev ix (i : Int32) : Nat := i.toNatClampNeg
abbrev irem (x y : Int32) : Int32 := x - x / y * y
abbrev imax (x y : Int32) : Int32 := if x < y then y else x
abbrev imin (x y : Int32) : Int32 := if y < x then y else x
abbrev iushr (x y : Int32) : Int32 := (x.toUInt32 >>> (y.toUInt32 &&& Int32.toUInt32 31)).toInt32
def kF (κ : kT) (D : va_G) (A : Nat → Prop) (v : Option Value) (cs : List va_W) : State → Prop := MQ (kBe κ) (kQ D A (kEq v cs)) (kAr κ) (kS κ) 0 0 A
section Eqs
variable {l : Launch} {κ : kT} {D : va_G} {tys : List (ClassId × FieldType)} {A : Nat → Prop} {cc : ByteArray} {nL : Nat} {own : String} {rm : Room} {ret : Option FieldType} {nm : String} {Q : State → Prop} {cs cs0 : List va_W} {lv : List (Nat × Value)} {pc : Nat} {st : List Value}
theorem k_methodE {y : MethodName} {As : List Value} {v0 : Option Value} {cs' : List va_W} (cc : ByteArray) (maxL : Nat) (ret : Option FieldType) (own : String) (ho : y.cls = own) (lv0 : List (Nat × Value)) (hlv : lv_args 0 As = lv0) (hy : plainName y.cls = true) (hAs : (lg_sl As).length ≤ maxL) {fr lo : Nat}
    (body : ∀ (κ : kT) (A : Nat → Prop), κ.2.1 = l → kC κ D tys A cc maxL own { frames := fr, cells := 0, slots := 0, locals := lo } ret y.name → kG κ D A maxL 0 0 (kF κ D A v0 cs') cs lv0 0 []) : kM l D tys y (Cond.code y cc maxL ret :: TB) { frames := fr, cells := 0, slots := 0, locals := lo } As cs (kEq v0 cs') :=
  k_method cc maxL ret own ho lv0 hlv hy hAs (fun κ A h C => body κ A h C)
theorem g_rv (C : kC κ D tys A cc nL own rm ret nm) (hr : ret = none) (hfl : cs.flatten = cs0.flatten) (hd : decode cc pc = .ok (.return_, 1)) : kG κ D A nL 0 0 (kF κ D A none cs0) cs lv pc [] :=
  g_chunks hfl (g_ret_v C hr ⟨rfl, rfl⟩ hd)
theorem g_ri {x : Int32} (C : kC κ D tys A cc nL own rm ret nm) (hr : ret = some .int) (hfl : cs.flatten = cs0.flatten) (hd : decode cc pc = .ok (.ireturn, 1)) : kG κ D A nL 0 0 (kF κ D A (some (.int x)) cs0) cs lv pc [.int x] :=
  g_chunks hfl (g_ret_i C hr ⟨rfl, rfl⟩ hd)
theorem g_rz {x : Int32} (C : kC κ D tys A cc nL own rm ret nm) (hr : ret = some .boolean) (hx : x = 0 ∨ x = 1) (hfl : cs.flatten = cs0.flatten) (hd : decode cc pc = .ok (.ireturn, 1)) : kG κ D A nL 0 0 (kF κ D A (some (.int x)) cs0) cs lv pc [.int x] :=
  g_chunks hfl (g_ret_z C hr hx ⟨rfl, rfl⟩ hd)
theorem g_iushr (C : kC κ D tys A cc nL own rm ret nm) {x y : Int32} {k n : Nat} (hd : decode cc pc = .ok (.iushr, 1)) (kk : kG κ D A nL k n Q cs lv (pc + 1) (.int (iushr x y) :: st)) : kG κ D A nL k n Q cs lv pc (.int y :: .int x :: st) :=
  fun H locs ls hP hD hS hl => lv_iushr C.1 C.2.1 hd rfl (kk H locs ls hP hD hS hl)
theorem g_ldcw (C : kC κ D tys A cc nL own rm ret nm) {index : Nat} {k n : Nat} (v : Int32) (hc : Cond.constant own index v ∈ TB) (hd : decode cc pc = .ok (.ldc_w index, 3)) (kk : kG κ D A nL k n Q cs lv (pc + 3) (.int v :: st)) : kG κ D A nL k n Q cs lv pc st :=
  fun H locs ls hP hD hS hl => lv_ldcw C.1 C.2.1 C.2.2.2.1 (C.2.2.2.2.1 _ hc) hd (kk H locs ls hP hD hS hl)
theorem g_iastU (C : kC κ D tys A cc nL own rm ret nm) (j t0 : Nat) {a : Nat} {cA : ClassId} {N : Nat} {f : Nat → Int32} {i x : Int32} {k n : Nat} (u : Nat → Int32) (hu : upd f (ix i) x = u) (cs' : List va_W) (hj : cs[j]? = some [(a, .inl (cA, N, .inl f))]) (ht : tys[t0]? = some (cA, .int)) (hin : ¬ (i < 0 ∨ N ≤ ix i)) (hcs : cs.set j [(a, .inl (cA, N, .inl u))] = cs') (hd : decode cc pc = .ok (.iastore, 1)) (kk : kG κ D A nL k n Q cs' lv (pc + 1) st) : kG κ D A nL k n Q cs lv pc (.int x :: .int i :: .ref a :: st) := by
  subst hu
  exact g_iast C j t0 cs' hj ht hin hcs hd kk
theorem k_cells {α : Prop} {k n : Nat} {rmc : Room} (h1 : rmc.cells = 0) (h2 : rmc.slots = 0) (h : kG κ D A nL 0 0 Q cs lv pc st) : kG κ D A nL (0 + rmc.cells) (0 + rmc.slots) Q cs lv pc st := by rw [h1, h2]; exact h
theorem g_callV' {y : MethodName} {rmc : Room} {As : List Value} {sel rest sel' : List va_W} {v0 : Option Value} {bytes : ByteArray} {maxL : Nat} {retc : Option FieldType} {index : Nat} {Cn : String} {ci : Nat} {fs : List Value} {b : Nat} {T : u_T} {N na : Nat} {st0 : List Value} (hla : κ.2.1 = l) (C : kC κ D tys A cc nL own rm ret nm)
    (hM : kM l D tys y (Cond.code y bytes maxL retc :: TB) rmc (.ref b :: As) sel (kEq v0 sel')) (hg : GoodIn TB (wsV own index Cn y (Cond.code y bytes maxL retc :: TB)))
    (hd : y.cls = Cn ∧ y.cls ≠ "java/lang/invoke/MethodHandle" ∧ y.cls ≠ "java/lang/invoke/VarHandle" ∧ (parseMethodDescriptor y.desc).map (fun d => d.parameters.length) = some na) (hR : rmc.frames + 1 ≤ rm.frames ∧ 8 + (maxL + 11) + rmc.locals ≤ rm.locals ∧ rmc.cells = 0 ∧ rmc.slots = 0)
    (hrec : sel.flatten[0]? = some (b, .inr (ci, fs))) (hc : vwCl[ci]? = some (Cn, T, N)) (hna : As.length = na) (hst : st0 = As.reverse ++ .ref b :: st) (hcat : (st.map fun v => v.category).sum ≤ 8)
    (hdg : decode cc pc = .ok (.invokevirtual index, 3)) (hsp : cs.flatten.Perm (sel ++ rest).flatten) (hsp' : (sel' ++ rest).flatten.Perm cs0.flatten) (st' : List Value) (hst' : v0.toList ++ st = st') (kk : kG κ D A nL 0 0 Q cs0 lv (pc + 3) st') : kG κ D A nL 0 0 Q cs lv pc st0 := by
  subst hst'
  refine g_callV hla C hM hg rfl hd ⟨hR.1, hR.2.1⟩ hrec hc hna hst hcat (by rw [hR.2.2.1]; exact Nat.zero_le _) (by rw [hR.2.2.2]; exact Nat.zero_le _) hdg hsp (fun v s h => ?_)
  obtain ⟨rfl, rfl⟩ := h
  exact k_cells (α := True) (k := 0) (n := 0) hR.2.2.1 hR.2.2.2 (g_world hsp' kk)
theorem g_callS' {y : MethodName} {rmc : Room} {As : List Value} {sel rest sel' : List va_W} {v0 : Option Value} {bytes : ByteArray} {maxL : Nat} {retc : Option FieldType} {index : Nat} {na : Nat} {st0 : List Value} (hla : κ.2.1 = l) (C : kC κ D tys A cc nL own rm ret nm)
    (hM : kM l D tys y (Cond.code y bytes maxL retc :: TB) rmc As sel (kEq v0 sel')) (hg : GoodIn TB (Cond.code y bytes maxL retc :: TB)) (hlk : Cond.methodLink own index y ∈ TB) (hstat : Cond.static y ∈ TB) (hini : Cond.initialized y.cls ∈ TB)
    (hd : y.cls ≠ "java/lang/invoke/MethodHandle" ∧ y.cls ≠ "java/lang/invoke/VarHandle" ∧ (parseMethodDescriptor y.desc).map (fun d => d.parameters.length) = some na) (hR : rmc.frames + 1 ≤ rm.frames ∧ 8 + (maxL + 11) + rmc.locals ≤ rm.locals ∧ rmc.cells = 0 ∧ rmc.slots = 0)
    (hna : As.length = na) (hst : st0 = As.reverse ++ st) (hcat : (st.map fun v => v.category).sum ≤ 8)
    (hdg : decode cc pc = .ok (.invokestatic index, 3)) (hsp : cs.flatten.Perm (sel ++ rest).flatten) (hsp' : (sel' ++ rest).flatten.Perm cs0.flatten) (st' : List Value) (hst' : v0.toList ++ st = st') (kk : kG κ D A nL 0 0 Q cs0 lv (pc + 3) st') : kG κ D A nL 0 0 Q cs lv pc st0 := by
  subst hst'
  refine g_callS hla C hM hg hlk hstat hini rfl hd ⟨hR.1, hR.2.1⟩ hna hst hcat (by rw [hR.2.2.1]; exact Nat.zero_le _) (by rw [hR.2.2.2]; exact Nat.zero_le _) hdg hsp (fun v s h => ?_)
  obtain ⟨rfl, rfl⟩ := h
  exact k_cells (α := True) (k := 0) (n := 0) hR.2.2.1 hR.2.2.2 (g_world hsp' kk)
theorem g_callSN' {y : MethodName} {rmc : Room} {As : List Value} {sel rest sel' : List va_W} {v0 : Option Value} {bytes : ByteArray} {maxL : Nat} {retc : Option FieldType} {index : Nat} {host : String} {na : Nat} {st0 : List Value} (i : Nat) (hla : κ.2.1 = l) (C : kC κ D tys A cc nL own rm ret nm)
    (hM : kM l D tys y (Cond.code y bytes maxL retc :: TB) rmc As sel (kEq v0 sel')) (hg : GoodIn TB (Cond.code y bytes maxL retc :: TB)) (hlk : kNL[i]? = some (Cond.methodLinkNest own index y host)) (hstat : Cond.static y ∈ TB) (hini : Cond.initialized y.cls ∈ TB)
    (hd : y.cls ≠ "java/lang/invoke/MethodHandle" ∧ y.cls ≠ "java/lang/invoke/VarHandle" ∧ (parseMethodDescriptor y.desc).map (fun d => d.parameters.length) = some na) (hR : rmc.frames + 1 ≤ rm.frames ∧ 8 + (maxL + 11) + rmc.locals ≤ rm.locals ∧ rmc.cells = 0 ∧ rmc.slots = 0)
    (hna : As.length = na) (hst : st0 = As.reverse ++ st) (hcat : (st.map fun v => v.category).sum ≤ 8)
    (hdg : decode cc pc = .ok (.invokestatic index, 3)) (hsp : cs.flatten.Perm (sel ++ rest).flatten) (hsp' : (sel' ++ rest).flatten.Perm cs0.flatten) (st' : List Value) (hst' : v0.toList ++ st = st') (kk : kG κ D A nL 0 0 Q cs0 lv (pc + 3) st') : kG κ D A nL 0 0 Q cs lv pc st0 := by
  subst hst'
  refine g_callSN i hla C hM hg hlk hstat hini rfl hd ⟨hR.1, hR.2.1⟩ hna hst hcat (by rw [hR.2.2.1]; exact Nat.zero_le _) (by rw [hR.2.2.2]; exact Nat.zero_le _) hdg hsp (fun v s h => ?_)
  obtain ⟨rfl, rfl⟩ := h
  exact k_cells (α := True) (k := 0) (n := 0) hR.2.2.1 hR.2.2.2 (g_world hsp' kk)
end Eqs
theorem m_math : Cond.initialized "java/lang/Math" ∈ TB := m_49
theorem m_code_max : Cond.code Lib.Math.max.name Lib.Math.max.code 2 (some .int) ∈ TB := m_82
theorem m_code_min : Cond.code Lib.Math.min.name Lib.Math.min.code 2 (some .int) ∈ TB := m_276
theorem m_ini_RX0 : Cond.initialized RX0 ∈ TB := m_50
theorem m_ini_RX1 : Cond.initialized RX1 ∈ TB := m_48
theorem m_ini_RX2 : Cond.initialized RX2 ∈ TB := m_51
theorem m_ini_RX3 : Cond.initialized RX3 ∈ TB := m_46
theorem m_ini_RX4 : Cond.initialized RX4 ∈ TB := m_47
theorem m_ini_RX5 : Cond.initialized RX5 ∈ TB := m_45
theorem m_ini_RX6 : Cond.initialized RX6 ∈ TB := m_52
theorem m_ini_RJ6 : Cond.initialized RJ6 ∈ TB := m_53
theorem m_ini5 : Cond.initialized RX5 ∈ TB := m_ini_RX5
theorem gf_RX0_11 {κ : kT} {D : va_G} {tys : List (ClassId × FieldType)} {A : Nat → Prop} {cc : ByteArray} {nL : Nat} {rm : Room} {ret : Option FieldType} {nm : String} {k n : Nat} {Q : State → Prop} {cs : List va_W} {lv : List (Nat × Value)} {pc : Nat} {st : List Value} (C : kC κ D tys A cc nL RX0 rm ret nm) (j : Nat) {a : Nat} {z0 z1 z2 : Value} {w : va_W} (hj : cs[j]? = some ((a, .inr (0, [z0, z1, z2])) :: w)) (hd : decode cc pc = .ok (.getfield 11, 3)) (kk : kG κ D A nL k n Q cs lv (pc + 3) (z0 :: st)) : kG κ D A nL k n Q cs lv pc (.ref a :: st) :=
  g_get C j 0 0 z0 inX0 hj rfl (by decide) m_151 rfl rfl hd kk
theorem gf_RX0_18 {κ : kT} {D : va_G} {tys : List (ClassId × FieldType)} {A : Nat → Prop} {cc : ByteArray} {nL : Nat} {rm : Room} {ret : Option FieldType} {nm : String} {k n : Nat} {Q : State → Prop} {cs : List va_W} {lv : List (Nat × Value)} {pc : Nat} {st : List Value} (C : kC κ D tys A cc nL RX0 rm ret nm) (j : Nat) {a : Nat} {z0 z1 z2 : Value} {w : va_W} (hj : cs[j]? = some ((a, .inr (0, [z0, z1, z2])) :: w)) (hd : decode cc pc = .ok (.getfield 18, 3)) (kk : kG κ D A nL k n Q cs lv (pc + 3) (z2 :: st)) : kG κ D A nL k n Q cs lv pc (.ref a :: st) :=
  g_get C j 0 2 z2 inX0 hj rfl (by decide) m_153 rfl rfl hd kk
theorem gf_RX0_22 {κ : kT} {D : va_G} {tys : List (ClassId × FieldType)} {A : Nat → Prop} {cc : ByteArray} {nL : Nat} {rm : Room} {ret : Option FieldType} {nm : String} {k n : Nat} {Q : State → Prop} {cs : List va_W} {lv : List (Nat × Value)} {pc : Nat} {st : List Value} (C : kC κ D tys A cc nL RX0 rm ret nm) (j : Nat) {a : Nat} {z0 z1 z2 : Value} {w : va_W} (hj : cs[j]? = some ((a, .inr (0, [z0, z1, z2])) :: w)) (hd : decode cc pc = .ok (.getfield 22, 3)) (kk : kG κ D A nL k n Q cs lv (pc + 3) (z1 :: st)) : kG κ D A nL k n Q cs lv pc (.ref a :: st) :=
  g_get C j 0 1 z1 inX0 hj rfl (by decide) m_152 rfl rfl hd kk
theorem gf_RX1_15 {κ : kT} {D : va_G} {tys : List (ClassId × FieldType)} {A : Nat → Prop} {cc : ByteArray} {nL : Nat} {rm : Room} {ret : Option FieldType} {nm : String} {k n : Nat} {Q : State → Prop} {cs : List va_W} {lv : List (Nat × Value)} {pc : Nat} {st : List Value} (C : kC κ D tys A cc nL RX1 rm ret nm) (j : Nat) {a : Nat} {z0 z1 : Value} {w : va_W} (hj : cs[j]? = some ((a, .inr (1, [z0, z1])) :: w)) (hd : decode cc pc = .ok (.getfield 15, 3)) (kk : kG κ D A nL k n Q cs lv (pc + 3) (z0 :: st)) : kG κ D A nL k n Q cs lv pc (.ref a :: st) :=
  g_get C j 1 0 z0 inX1 hj rfl (by decide) m_83 rfl rfl hd kk
theorem gf_RX1_21 {κ : kT} {D : va_G} {tys : List (ClassId × FieldType)} {A : Nat → Prop} {cc : ByteArray} {nL : Nat} {rm : Room} {ret : Option FieldType} {nm : String} {k n : Nat} {Q : State → Prop} {cs : List va_W} {lv : List (Nat × Value)} {pc : Nat} {st : List Value} (C : kC κ D tys A cc nL RX1 rm ret nm) (j : Nat) {a : Nat} {z0 z1 : Value} {w : va_W} (hj : cs[j]? = some ((a, .inr (1, [z0, z1])) :: w)) (hd : decode cc pc = .ok (.getfield 21, 3)) (kk : kG κ D A nL k n Q cs lv (pc + 3) (z1 :: st)) : kG κ D A nL k n Q cs lv pc (.ref a :: st) :=
  g_get C j 1 1 z1 inX1 hj rfl (by decide) m_84 rfl rfl hd kk
theorem gf_RX2_12 {κ : kT} {D : va_G} {tys : List (ClassId × FieldType)} {A : Nat → Prop} {cc : ByteArray} {nL : Nat} {rm : Room} {ret : Option FieldType} {nm : String} {k n : Nat} {Q : State → Prop} {cs : List va_W} {lv : List (Nat × Value)} {pc : Nat} {st : List Value} (C : kC κ D tys A cc nL RX2 rm ret nm) (j : Nat) {a : Nat} {z0 z1 z2 z3 z4 z5 : Value} {w : va_W} (hj : cs[j]? = some ((a, .inr (2, [z0, z1, z2, z3, z4, z5])) :: w)) (hd : decode cc pc = .ok (.getfield 12, 3)) (kk : kG κ D A nL k n Q cs lv (pc + 3) (z0 :: st)) : kG κ D A nL k n Q cs lv pc (.ref a :: st) :=
  g_get C j 2 0 z0 inX2 hj rfl (by decide) m_173 rfl rfl hd kk
theorem gf_RX2_23 {κ : kT} {D : va_G} {tys : List (ClassId × FieldType)} {A : Nat → Prop} {cc : ByteArray} {nL : Nat} {rm : Room} {ret : Option FieldType} {nm : String} {k n : Nat} {Q : State → Prop} {cs : List va_W} {lv : List (Nat × Value)} {pc : Nat} {st : List Value} (C : kC κ D tys A cc nL RX2 rm ret nm) (j : Nat) {a : Nat} {z0 z1 z2 z3 z4 z5 : Value} {w : va_W} (hj : cs[j]? = some ((a, .inr (2, [z0, z1, z2, z3, z4, z5])) :: w)) (hd : decode cc pc = .ok (.getfield 23, 3)) (kk : kG κ D A nL k n Q cs lv (pc + 3) (z1 :: st)) : kG κ D A nL k n Q cs lv pc (.ref a :: st) :=
  g_get C j 2 1 z1 inX2 hj rfl (by decide) m_175 rfl rfl hd kk
theorem gf_RX2_31 {κ : kT} {D : va_G} {tys : List (ClassId × FieldType)} {A : Nat → Prop} {cc : ByteArray} {nL : Nat} {rm : Room} {ret : Option FieldType} {nm : String} {k n : Nat} {Q : State → Prop} {cs : List va_W} {lv : List (Nat × Value)} {pc : Nat} {st : List Value} (C : kC κ D tys A cc nL RX2 rm ret nm) (j : Nat) {a : Nat} {z0 z1 z2 z3 z4 z5 : Value} {w : va_W} (hj : cs[j]? = some ((a, .inr (2, [z0, z1, z2, z3, z4, z5])) :: w)) (hd : decode cc pc = .ok (.getfield 31, 3)) (kk : kG κ D A nL k n Q cs lv (pc + 3) (z2 :: st)) : kG κ D A nL k n Q cs lv pc (.ref a :: st) :=
  g_get C j 2 2 z2 inX2 hj rfl (by decide) m_176 rfl rfl hd kk
theorem gf_RX2_35 {κ : kT} {D : va_G} {tys : List (ClassId × FieldType)} {A : Nat → Prop} {cc : ByteArray} {nL : Nat} {rm : Room} {ret : Option FieldType} {nm : String} {k n : Nat} {Q : State → Prop} {cs : List va_W} {lv : List (Nat × Value)} {pc : Nat} {st : List Value} (C : kC κ D tys A cc nL RX2 rm ret nm) (j : Nat) {a : Nat} {z0 z1 z2 z3 z4 z5 : Value} {w : va_W} (hj : cs[j]? = some ((a, .inr (2, [z0, z1, z2, z3, z4, z5])) :: w)) (hd : decode cc pc = .ok (.getfield 35, 3)) (kk : kG κ D A nL k n Q cs lv (pc + 3) (z5 :: st)) : kG κ D A nL k n Q cs lv pc (.ref a :: st) :=
  g_get C j 2 5 z5 inX2 hj rfl (by decide) m_180 rfl rfl hd kk
theorem gf_RX2_78 {κ : kT} {D : va_G} {tys : List (ClassId × FieldType)} {A : Nat → Prop} {cc : ByteArray} {nL : Nat} {rm : Room} {ret : Option FieldType} {nm : String} {k n : Nat} {Q : State → Prop} {cs : List va_W} {lv : List (Nat × Value)} {pc : Nat} {st : List Value} (C : kC κ D tys A cc nL RX2 rm ret nm) (j : Nat) {a : Nat} {z0 z1 z2 z3 z4 z5 : Value} {w : va_W} (hj : cs[j]? = some ((a, .inr (2, [z0, z1, z2, z3, z4, z5])) :: w)) (hd : decode cc pc = .ok (.getfield 78, 3)) (kk : kG κ D A nL k n Q cs lv (pc + 3) (z3 :: st)) : kG κ D A nL k n Q cs lv pc (.ref a :: st) :=
  g_get C j 2 3 z3 inX2 hj rfl (by decide) m_177 rfl rfl hd kk
theorem gf_RX3_12 {κ : kT} {D : va_G} {tys : List (ClassId × FieldType)} {A : Nat → Prop} {cc : ByteArray} {nL : Nat} {rm : Room} {ret : Option FieldType} {nm : String} {k n : Nat} {Q : State → Prop} {cs : List va_W} {lv : List (Nat × Value)} {pc : Nat} {st : List Value} (C : kC κ D tys A cc nL RX3 rm ret nm) (j : Nat) {a : Nat} {z0 z1 z2 z3 z4 z5 z6 : Value} {w : va_W} (hj : cs[j]? = some ((a, .inr (3, [z0, z1, z2, z3, z4, z5, z6])) :: w)) (hd : decode cc pc = .ok (.getfield 12, 3)) (kk : kG κ D A nL k n Q cs lv (pc + 3) (z0 :: st)) : kG κ D A nL k n Q cs lv pc (.ref a :: st) :=
  g_get C j 3 0 z0 inX3 hj rfl (by decide) m_116 rfl rfl hd kk
theorem gf_RX3_18 {κ : kT} {D : va_G} {tys : List (ClassId × FieldType)} {A : Nat → Prop} {cc : ByteArray} {nL : Nat} {rm : Room} {ret : Option FieldType} {nm : String} {k n : Nat} {Q : State → Prop} {cs : List va_W} {lv : List (Nat × Value)} {pc : Nat} {st : List Value} (C : kC κ D tys A cc nL RX3 rm ret nm) (j : Nat) {a : Nat} {z0 z1 z2 z3 z4 z5 z6 : Value} {w : va_W} (hj : cs[j]? = some ((a, .inr (3, [z0, z1, z2, z3, z4, z5, z6])) :: w)) (hd : decode cc pc = .ok (.getfield 18, 3)) (kk : kG κ D A nL k n Q cs lv (pc + 3) (z1 :: st)) : kG κ D A nL k n Q cs lv pc (.ref a :: st) :=
  g_get C j 3 1 z1 inX3 hj rfl (by decide) m_118 rfl rfl hd kk
theorem gf_RX3_26 {κ : kT} {D : va_G} {tys : List (ClassId × FieldType)} {A : Nat → Prop} {cc : ByteArray} {nL : Nat} {rm : Room} {ret : Option FieldType} {nm : String} {k n : Nat} {Q : State → Prop} {cs : List va_W} {lv : List (Nat × Value)} {pc : Nat} {st : List Value} (C : kC κ D tys A cc nL RX3 rm ret nm) (j : Nat) {a : Nat} {z0 z1 z2 z3 z4 z5 z6 : Value} {w : va_W} (hj : cs[j]? = some ((a, .inr (3, [z0, z1, z2, z3, z4, z5, z6])) :: w)) (hd : decode cc pc = .ok (.getfield 26, 3)) (kk : kG κ D A nL k n Q cs lv (pc + 3) (z2 :: st)) : kG κ D A nL k n Q cs lv pc (.ref a :: st) :=
  g_get C j 3 2 z2 inX3 hj rfl (by decide) m_120 rfl rfl hd kk
theorem gf_RX3_30 {κ : kT} {D : va_G} {tys : List (ClassId × FieldType)} {A : Nat → Prop} {cc : ByteArray} {nL : Nat} {rm : Room} {ret : Option FieldType} {nm : String} {k n : Nat} {Q : State → Prop} {cs : List va_W} {lv : List (Nat × Value)} {pc : Nat} {st : List Value} (C : kC κ D tys A cc nL RX3 rm ret nm) (j : Nat) {a : Nat} {z0 z1 z2 z3 z4 z5 z6 : Value} {w : va_W} (hj : cs[j]? = some ((a, .inr (3, [z0, z1, z2, z3, z4, z5, z6])) :: w)) (hd : decode cc pc = .ok (.getfield 30, 3)) (kk : kG κ D A nL k n Q cs lv (pc + 3) (z3 :: st)) : kG κ D A nL k n Q cs lv pc (.ref a :: st) :=
  g_get C j 3 3 z3 inX3 hj rfl (by decide) m_121 rfl rfl hd kk
theorem gf_RX3_33 {κ : kT} {D : va_G} {tys : List (ClassId × FieldType)} {A : Nat → Prop} {cc : ByteArray} {nL : Nat} {rm : Room} {ret : Option FieldType} {nm : String} {k n : Nat} {Q : State → Prop} {cs : List va_W} {lv : List (Nat × Value)} {pc : Nat} {st : List Value} (C : kC κ D tys A cc nL RX3 rm ret nm) (j : Nat) {a : Nat} {z0 z1 z2 z3 z4 z5 z6 : Value} {w : va_W} (hj : cs[j]? = some ((a, .inr (3, [z0, z1, z2, z3, z4, z5, z6])) :: w)) (hd : decode cc pc = .ok (.getfield 33, 3)) (kk : kG κ D A nL k n Q cs lv (pc + 3) (z4 :: st)) : kG κ D A nL k n Q cs lv pc (.ref a :: st) :=
  g_get C j 3 4 z4 inX3 hj rfl (by decide) m_123 rfl rfl hd kk
theorem gf_RX3_46 {κ : kT} {D : va_G} {tys : List (ClassId × FieldType)} {A : Nat → Prop} {cc : ByteArray} {nL : Nat} {rm : Room} {ret : Option FieldType} {nm : String} {k n : Nat} {Q : State → Prop} {cs : List va_W} {lv : List (Nat × Value)} {pc : Nat} {st : List Value} (C : kC κ D tys A cc nL RX3 rm ret nm) (j : Nat) {a : Nat} {z0 z1 z2 z3 z4 z5 z6 : Value} {w : va_W} (hj : cs[j]? = some ((a, .inr (3, [z0, z1, z2, z3, z4, z5, z6])) :: w)) (hd : decode cc pc = .ok (.getfield 46, 3)) (kk : kG κ D A nL k n Q cs lv (pc + 3) (z5 :: st)) : kG κ D A nL k n Q cs lv pc (.ref a :: st) :=
  g_get C j 3 5 z5 inX3 hj rfl (by decide) m_125 rfl rfl hd kk
theorem gf_RX3_50 {κ : kT} {D : va_G} {tys : List (ClassId × FieldType)} {A : Nat → Prop} {cc : ByteArray} {nL : Nat} {rm : Room} {ret : Option FieldType} {nm : String} {k n : Nat} {Q : State → Prop} {cs : List va_W} {lv : List (Nat × Value)} {pc : Nat} {st : List Value} (C : kC κ D tys A cc nL RX3 rm ret nm) (j : Nat) {a : Nat} {z0 z1 z2 z3 z4 z5 z6 : Value} {w : va_W} (hj : cs[j]? = some ((a, .inr (3, [z0, z1, z2, z3, z4, z5, z6])) :: w)) (hd : decode cc pc = .ok (.getfield 50, 3)) (kk : kG κ D A nL k n Q cs lv (pc + 3) (z6 :: st)) : kG κ D A nL k n Q cs lv pc (.ref a :: st) :=
  g_get C j 3 6 z6 inX3 hj rfl (by decide) m_126 rfl rfl hd kk
theorem gf_RX4_14 {κ : kT} {D : va_G} {tys : List (ClassId × FieldType)} {A : Nat → Prop} {cc : ByteArray} {nL : Nat} {rm : Room} {ret : Option FieldType} {nm : String} {k n : Nat} {Q : State → Prop} {cs : List va_W} {lv : List (Nat × Value)} {pc : Nat} {st : List Value} (C : kC κ D tys A cc nL RX4 rm ret nm) (j : Nat) {a : Nat} {z0 z1 : Value} {w : va_W} (hj : cs[j]? = some ((a, .inr (4, [z0, z1])) :: w)) (hd : decode cc pc = .ok (.getfield 14, 3)) (kk : kG κ D A nL k n Q cs lv (pc + 3) (z0 :: st)) : kG κ D A nL k n Q cs lv pc (.ref a :: st) :=
  g_get C j 4 0 z0 inX4 hj rfl (by decide) m_91 rfl rfl hd kk
theorem gf_RX4_20 {κ : kT} {D : va_G} {tys : List (ClassId × FieldType)} {A : Nat → Prop} {cc : ByteArray} {nL : Nat} {rm : Room} {ret : Option FieldType} {nm : String} {k n : Nat} {Q : State → Prop} {cs : List va_W} {lv : List (Nat × Value)} {pc : Nat} {st : List Value} (C : kC κ D tys A cc nL RX4 rm ret nm) (j : Nat) {a : Nat} {z0 z1 : Value} {w : va_W} (hj : cs[j]? = some ((a, .inr (4, [z0, z1])) :: w)) (hd : decode cc pc = .ok (.getfield 20, 3)) (kk : kG κ D A nL k n Q cs lv (pc + 3) (z1 :: st)) : kG κ D A nL k n Q cs lv pc (.ref a :: st) :=
  g_get C j 4 1 z1 inX4 hj rfl (by decide) m_92 rfl rfl hd kk
theorem gf_RX5_10 {κ : kT} {D : va_G} {tys : List (ClassId × FieldType)} {A : Nat → Prop} {cc : ByteArray} {nL : Nat} {rm : Room} {ret : Option FieldType} {nm : String} {k n : Nat} {Q : State → Prop} {cs : List va_W} {lv : List (Nat × Value)} {pc : Nat} {st : List Value} (C : kC κ D tys A cc nL RX5 rm ret nm) (j : Nat) {a : Nat} {z0 z1 z2 z3 : Value} {w : va_W} (hj : cs[j]? = some ((a, .inr (5, [z0, z1, z2, z3])) :: w)) (hd : decode cc pc = .ok (.getfield 10, 3)) (kk : kG κ D A nL k n Q cs lv (pc + 3) (z0 :: st)) : kG κ D A nL k n Q cs lv pc (.ref a :: st) :=
  g_get C j 5 0 z0 inX5 hj rfl (by decide) m_205 rfl rfl hd kk
theorem gf_RX5_19 {κ : kT} {D : va_G} {tys : List (ClassId × FieldType)} {A : Nat → Prop} {cc : ByteArray} {nL : Nat} {rm : Room} {ret : Option FieldType} {nm : String} {k n : Nat} {Q : State → Prop} {cs : List va_W} {lv : List (Nat × Value)} {pc : Nat} {st : List Value} (C : kC κ D tys A cc nL RX5 rm ret nm) (j : Nat) {a : Nat} {z0 z1 z2 z3 : Value} {w : va_W} (hj : cs[j]? = some ((a, .inr (5, [z0, z1, z2, z3])) :: w)) (hd : decode cc pc = .ok (.getfield 19, 3)) (kk : kG κ D A nL k n Q cs lv (pc + 3) (z1 :: st)) : kG κ D A nL k n Q cs lv pc (.ref a :: st) :=
  g_get C j 5 1 z1 inX5 hj rfl (by decide) m_206 rfl rfl hd kk
theorem gf_RX5_28 {κ : kT} {D : va_G} {tys : List (ClassId × FieldType)} {A : Nat → Prop} {cc : ByteArray} {nL : Nat} {rm : Room} {ret : Option FieldType} {nm : String} {k n : Nat} {Q : State → Prop} {cs : List va_W} {lv : List (Nat × Value)} {pc : Nat} {st : List Value} (C : kC κ D tys A cc nL RX5 rm ret nm) (j : Nat) {a : Nat} {z0 z1 z2 z3 : Value} {w : va_W} (hj : cs[j]? = some ((a, .inr (5, [z0, z1, z2, z3])) :: w)) (hd : decode cc pc = .ok (.getfield 28, 3)) (kk : kG κ D A nL k n Q cs lv (pc + 3) (z2 :: st)) : kG κ D A nL k n Q cs lv pc (.ref a :: st) :=
  g_get C j 5 2 z2 inX5 hj rfl (by decide) m_207 rfl rfl hd kk
theorem gf_RX5_35 {κ : kT} {D : va_G} {tys : List (ClassId × FieldType)} {A : Nat → Prop} {cc : ByteArray} {nL : Nat} {rm : Room} {ret : Option FieldType} {nm : String} {k n : Nat} {Q : State → Prop} {cs : List va_W} {lv : List (Nat × Value)} {pc : Nat} {st : List Value} (C : kC κ D tys A cc nL RX5 rm ret nm) (j : Nat) {a : Nat} {z0 z1 z2 z3 : Value} {w : va_W} (hj : cs[j]? = some ((a, .inr (5, [z0, z1, z2, z3])) :: w)) (hd : decode cc pc = .ok (.getfield 35, 3)) (kk : kG κ D A nL k n Q cs lv (pc + 3) (z3 :: st)) : kG κ D A nL k n Q cs lv pc (.ref a :: st) :=
  g_get C j 5 3 z3 inX5 hj rfl (by decide) m_208 rfl rfl hd kk
theorem gf_RX5_43 {κ : kT} {D : va_G} {tys : List (ClassId × FieldType)} {A : Nat → Prop} {cc : ByteArray} {nL : Nat} {rm : Room} {ret : Option FieldType} {nm : String} {k n : Nat} {Q : State → Prop} {cs : List va_W} {lv : List (Nat × Value)} {pc : Nat} {st : List Value} (C : kC κ D tys A cc nL RX5 rm ret nm) (j : Nat) {a : Nat} {z0 z1 z2 z3 z4 z5 z6 : Value} {w : va_W} (hj : cs[j]? = some ((a, .inr (3, [z0, z1, z2, z3, z4, z5, z6])) :: w)) (hd : decode cc pc = .ok (.getfield 43, 3)) (kk : kG κ D A nL k n Q cs lv (pc + 3) (z0 :: st)) : kG κ D A nL k n Q cs lv pc (.ref a :: st) :=
  g_getN C j 3 1 0 z0 inX3 hj rfl (by decide) (show kNL[1]? = _ from rfl) rfl rfl hd kk
theorem gf_RX5_47 {κ : kT} {D : va_G} {tys : List (ClassId × FieldType)} {A : Nat → Prop} {cc : ByteArray} {nL : Nat} {rm : Room} {ret : Option FieldType} {nm : String} {k n : Nat} {Q : State → Prop} {cs : List va_W} {lv : List (Nat × Value)} {pc : Nat} {st : List Value} (C : kC κ D tys A cc nL RX5 rm ret nm) (j : Nat) {a : Nat} {z0 z1 z2 z3 z4 z5 z6 : Value} {w : va_W} (hj : cs[j]? = some ((a, .inr (3, [z0, z1, z2, z3, z4, z5, z6])) :: w)) (hd : decode cc pc = .ok (.getfield 47, 3)) (kk : kG κ D A nL k n Q cs lv (pc + 3) (z5 :: st)) : kG κ D A nL k n Q cs lv pc (.ref a :: st) :=
  g_getN C j 3 4 5 z5 inX3 hj rfl (by decide) (show kNL[4]? = _ from rfl) rfl rfl hd kk
theorem gf_RX5_136 {κ : kT} {D : va_G} {tys : List (ClassId × FieldType)} {A : Nat → Prop} {cc : ByteArray} {nL : Nat} {rm : Room} {ret : Option FieldType} {nm : String} {k n : Nat} {Q : State → Prop} {cs : List va_W} {lv : List (Nat × Value)} {pc : Nat} {st : List Value} (C : kC κ D tys A cc nL RX5 rm ret nm) (j : Nat) {a : Nat} {z0 z1 z2 z3 z4 z5 z6 : Value} {w : va_W} (hj : cs[j]? = some ((a, .inr (3, [z0, z1, z2, z3, z4, z5, z6])) :: w)) (hd : decode cc pc = .ok (.getfield 136, 3)) (kk : kG κ D A nL k n Q cs lv (pc + 3) (z1 :: st)) : kG κ D A nL k n Q cs lv pc (.ref a :: st) :=
  g_getN C j 3 2 1 z1 inX3 hj rfl (by decide) (show kNL[2]? = _ from rfl) rfl rfl hd kk
theorem gf_RX5_168 {κ : kT} {D : va_G} {tys : List (ClassId × FieldType)} {A : Nat → Prop} {cc : ByteArray} {nL : Nat} {rm : Room} {ret : Option FieldType} {nm : String} {k n : Nat} {Q : State → Prop} {cs : List va_W} {lv : List (Nat × Value)} {pc : Nat} {st : List Value} (C : kC κ D tys A cc nL RX5 rm ret nm) (j : Nat) {a : Nat} {z0 z1 z2 z3 z4 z5 z6 : Value} {w : va_W} (hj : cs[j]? = some ((a, .inr (3, [z0, z1, z2, z3, z4, z5, z6])) :: w)) (hd : decode cc pc = .ok (.getfield 168, 3)) (kk : kG κ D A nL k n Q cs lv (pc + 3) (z3 :: st)) : kG κ D A nL k n Q cs lv pc (.ref a :: st) :=
  g_getN C j 3 3 3 z3 inX3 hj rfl (by decide) (show kNL[3]? = _ from rfl) rfl rfl hd kk
theorem gf_RX5_196 {κ : kT} {D : va_G} {tys : List (ClassId × FieldType)} {A : Nat → Prop} {cc : ByteArray} {nL : Nat} {rm : Room} {ret : Option FieldType} {nm : String} {k n : Nat} {Q : State → Prop} {cs : List va_W} {lv : List (Nat × Value)} {pc : Nat} {st : List Value} (C : kC κ D tys A cc nL RX5 rm ret nm) (j : Nat) {a : Nat} {z0 z1 z2 z3 z4 z5 : Value} {w : va_W} (hj : cs[j]? = some ((a, .inr (2, [z0, z1, z2, z3, z4, z5])) :: w)) (hd : decode cc pc = .ok (.getfield 196, 3)) (kk : kG κ D A nL k n Q cs lv (pc + 3) (z5 :: st)) : kG κ D A nL k n Q cs lv pc (.ref a :: st) :=
  g_getN C j 2 9 5 z5 inX2 hj rfl (by decide) (show kNL[9]? = _ from rfl) rfl rfl hd kk
theorem gf_RX5_199 {κ : kT} {D : va_G} {tys : List (ClassId × FieldType)} {A : Nat → Prop} {cc : ByteArray} {nL : Nat} {rm : Room} {ret : Option FieldType} {nm : String} {k n : Nat} {Q : State → Prop} {cs : List va_W} {lv : List (Nat × Value)} {pc : Nat} {st : List Value} (C : kC κ D tys A cc nL RX5 rm ret nm) (j : Nat) {a : Nat} {z0 z1 z2 z3 z4 z5 : Value} {w : va_W} (hj : cs[j]? = some ((a, .inr (2, [z0, z1, z2, z3, z4, z5])) :: w)) (hd : decode cc pc = .ok (.getfield 199, 3)) (kk : kG κ D A nL k n Q cs lv (pc + 3) (z4 :: st)) : kG κ D A nL k n Q cs lv pc (.ref a :: st) :=
  g_getN C j 2 8 4 z4 inX2 hj rfl (by decide) (show kNL[8]? = _ from rfl) rfl rfl hd kk
theorem gf_RX5_202 {κ : kT} {D : va_G} {tys : List (ClassId × FieldType)} {A : Nat → Prop} {cc : ByteArray} {nL : Nat} {rm : Room} {ret : Option FieldType} {nm : String} {k n : Nat} {Q : State → Prop} {cs : List va_W} {lv : List (Nat × Value)} {pc : Nat} {st : List Value} (C : kC κ D tys A cc nL RX5 rm ret nm) (j : Nat) {a : Nat} {z0 z1 z2 z3 z4 z5 : Value} {w : va_W} (hj : cs[j]? = some ((a, .inr (2, [z0, z1, z2, z3, z4, z5])) :: w)) (hd : decode cc pc = .ok (.getfield 202, 3)) (kk : kG κ D A nL k n Q cs lv (pc + 3) (z0 :: st)) : kG κ D A nL k n Q cs lv pc (.ref a :: st) :=
  g_getN C j 2 7 0 z0 inX2 hj rfl (by decide) (show kNL[7]? = _ from rfl) rfl rfl hd kk
theorem gf_RX6_7 {κ : kT} {D : va_G} {tys : List (ClassId × FieldType)} {A : Nat → Prop} {cc : ByteArray} {nL : Nat} {rm : Room} {ret : Option FieldType} {nm : String} {k n : Nat} {Q : State → Prop} {cs : List va_W} {lv : List (Nat × Value)} {pc : Nat} {st : List Value} (C : kC κ D tys A cc nL RX6 rm ret nm) (j : Nat) {a : Nat} {z0 z1 z2 z3 z4 z5 z6 z7 z8 z9 z10 z11 : Value} {w : va_W} (hj : cs[j]? = some ((a, .inr (6, [z0, z1, z2, z3, z4, z5, z6, z7, z8, z9, z10, z11])) :: w)) (hd : decode cc pc = .ok (.getfield 7, 3)) (kk : kG κ D A nL k n Q cs lv (pc + 3) (z0 :: st)) : kG κ D A nL k n Q cs lv pc (.ref a :: st) :=
  g_get C j 6 0 z0 inX6 hj rfl (by decide) m_651 rfl rfl hd kk
theorem gf_RX6_13 {κ : kT} {D : va_G} {tys : List (ClassId × FieldType)} {A : Nat → Prop} {cc : ByteArray} {nL : Nat} {rm : Room} {ret : Option FieldType} {nm : String} {k n : Nat} {Q : State → Prop} {cs : List va_W} {lv : List (Nat × Value)} {pc : Nat} {st : List Value} (C : kC κ D tys A cc nL RX6 rm ret nm) (j : Nat) {a : Nat} {z0 z1 z2 z3 z4 z5 z6 z7 z8 z9 z10 z11 : Value} {w : va_W} (hj : cs[j]? = some ((a, .inr (6, [z0, z1, z2, z3, z4, z5, z6, z7, z8, z9, z10, z11])) :: w)) (hd : decode cc pc = .ok (.getfield 13, 3)) (kk : kG κ D A nL k n Q cs lv (pc + 3) (z1 :: st)) : kG κ D A nL k n Q cs lv pc (.ref a :: st) :=
  g_get C j 6 1 z1 inX6 hj rfl (by decide) m_652 rfl rfl hd kk
theorem gf_RX6_16 {κ : kT} {D : va_G} {tys : List (ClassId × FieldType)} {A : Nat → Prop} {cc : ByteArray} {nL : Nat} {rm : Room} {ret : Option FieldType} {nm : String} {k n : Nat} {Q : State → Prop} {cs : List va_W} {lv : List (Nat × Value)} {pc : Nat} {st : List Value} (C : kC κ D tys A cc nL RX6 rm ret nm) (j : Nat) {a : Nat} {z0 z1 z2 z3 z4 z5 z6 z7 z8 z9 z10 z11 : Value} {w : va_W} (hj : cs[j]? = some ((a, .inr (6, [z0, z1, z2, z3, z4, z5, z6, z7, z8, z9, z10, z11])) :: w)) (hd : decode cc pc = .ok (.getfield 16, 3)) (kk : kG κ D A nL k n Q cs lv (pc + 3) (z2 :: st)) : kG κ D A nL k n Q cs lv pc (.ref a :: st) :=
  g_get C j 6 2 z2 inX6 hj rfl (by decide) m_653 rfl rfl hd kk
theorem gf_RX6_19 {κ : kT} {D : va_G} {tys : List (ClassId × FieldType)} {A : Nat → Prop} {cc : ByteArray} {nL : Nat} {rm : Room} {ret : Option FieldType} {nm : String} {k n : Nat} {Q : State → Prop} {cs : List va_W} {lv : List (Nat × Value)} {pc : Nat} {st : List Value} (C : kC κ D tys A cc nL RX6 rm ret nm) (j : Nat) {a : Nat} {z0 z1 z2 z3 z4 z5 z6 z7 z8 z9 z10 z11 : Value} {w : va_W} (hj : cs[j]? = some ((a, .inr (6, [z0, z1, z2, z3, z4, z5, z6, z7, z8, z9, z10, z11])) :: w)) (hd : decode cc pc = .ok (.getfield 19, 3)) (kk : kG κ D A nL k n Q cs lv (pc + 3) (z4 :: st)) : kG κ D A nL k n Q cs lv pc (.ref a :: st) :=
  g_get C j 6 4 z4 inX6 hj rfl (by decide) m_655 rfl rfl hd kk
theorem gf_RX6_22 {κ : kT} {D : va_G} {tys : List (ClassId × FieldType)} {A : Nat → Prop} {cc : ByteArray} {nL : Nat} {rm : Room} {ret : Option FieldType} {nm : String} {k n : Nat} {Q : State → Prop} {cs : List va_W} {lv : List (Nat × Value)} {pc : Nat} {st : List Value} (C : kC κ D tys A cc nL RX6 rm ret nm) (j : Nat) {a : Nat} {z0 z1 z2 z3 z4 z5 z6 z7 z8 z9 z10 z11 : Value} {w : va_W} (hj : cs[j]? = some ((a, .inr (6, [z0, z1, z2, z3, z4, z5, z6, z7, z8, z9, z10, z11])) :: w)) (hd : decode cc pc = .ok (.getfield 22, 3)) (kk : kG κ D A nL k n Q cs lv (pc + 3) (z5 :: st)) : kG κ D A nL k n Q cs lv pc (.ref a :: st) :=
  g_get C j 6 5 z5 inX6 hj rfl (by decide) m_656 rfl rfl hd kk
theorem gf_RX6_25 {κ : kT} {D : va_G} {tys : List (ClassId × FieldType)} {A : Nat → Prop} {cc : ByteArray} {nL : Nat} {rm : Room} {ret : Option FieldType} {nm : String} {k n : Nat} {Q : State → Prop} {cs : List va_W} {lv : List (Nat × Value)} {pc : Nat} {st : List Value} (C : kC κ D tys A cc nL RX6 rm ret nm) (j : Nat) {a : Nat} {z0 z1 z2 z3 z4 z5 z6 z7 z8 z9 z10 z11 : Value} {w : va_W} (hj : cs[j]? = some ((a, .inr (6, [z0, z1, z2, z3, z4, z5, z6, z7, z8, z9, z10, z11])) :: w)) (hd : decode cc pc = .ok (.getfield 25, 3)) (kk : kG κ D A nL k n Q cs lv (pc + 3) (z10 :: st)) : kG κ D A nL k n Q cs lv pc (.ref a :: st) :=
  g_get C j 6 10 z10 inX6 hj rfl (by decide) m_661 rfl rfl hd kk
theorem gf_RX6_28 {κ : kT} {D : va_G} {tys : List (ClassId × FieldType)} {A : Nat → Prop} {cc : ByteArray} {nL : Nat} {rm : Room} {ret : Option FieldType} {nm : String} {k n : Nat} {Q : State → Prop} {cs : List va_W} {lv : List (Nat × Value)} {pc : Nat} {st : List Value} (C : kC κ D tys A cc nL RX6 rm ret nm) (j : Nat) {a : Nat} {z0 z1 z2 z3 z4 z5 z6 z7 z8 z9 z10 z11 : Value} {w : va_W} (hj : cs[j]? = some ((a, .inr (6, [z0, z1, z2, z3, z4, z5, z6, z7, z8, z9, z10, z11])) :: w)) (hd : decode cc pc = .ok (.getfield 28, 3)) (kk : kG κ D A nL k n Q cs lv (pc + 3) (z11 :: st)) : kG κ D A nL k n Q cs lv pc (.ref a :: st) :=
  g_get C j 6 11 z11 inX6 hj rfl (by decide) m_662 rfl rfl hd kk
theorem gf_RX6_31 {κ : kT} {D : va_G} {tys : List (ClassId × FieldType)} {A : Nat → Prop} {cc : ByteArray} {nL : Nat} {rm : Room} {ret : Option FieldType} {nm : String} {k n : Nat} {Q : State → Prop} {cs : List va_W} {lv : List (Nat × Value)} {pc : Nat} {st : List Value} (C : kC κ D tys A cc nL RX6 rm ret nm) (j : Nat) {a : Nat} {z0 z1 z2 z3 z4 z5 z6 z7 z8 z9 z10 z11 : Value} {w : va_W} (hj : cs[j]? = some ((a, .inr (6, [z0, z1, z2, z3, z4, z5, z6, z7, z8, z9, z10, z11])) :: w)) (hd : decode cc pc = .ok (.getfield 31, 3)) (kk : kG κ D A nL k n Q cs lv (pc + 3) (z3 :: st)) : kG κ D A nL k n Q cs lv pc (.ref a :: st) :=
  g_get C j 6 3 z3 inX6 hj rfl (by decide) m_654 rfl rfl hd kk
theorem gf_RX6_130 {κ : kT} {D : va_G} {tys : List (ClassId × FieldType)} {A : Nat → Prop} {cc : ByteArray} {nL : Nat} {rm : Room} {ret : Option FieldType} {nm : String} {k n : Nat} {Q : State → Prop} {cs : List va_W} {lv : List (Nat × Value)} {pc : Nat} {st : List Value} (C : kC κ D tys A cc nL RX6 rm ret nm) (j : Nat) {a : Nat} {z0 z1 z2 z3 z4 z5 z6 z7 z8 z9 z10 z11 : Value} {w : va_W} (hj : cs[j]? = some ((a, .inr (6, [z0, z1, z2, z3, z4, z5, z6, z7, z8, z9, z10, z11])) :: w)) (hd : decode cc pc = .ok (.getfield 130, 3)) (kk : kG κ D A nL k n Q cs lv (pc + 3) (z6 :: st)) : kG κ D A nL k n Q cs lv pc (.ref a :: st) :=
  g_get C j 6 6 z6 inX6 hj rfl (by decide) m_657 rfl rfl hd kk
theorem gf_RX6_144 {κ : kT} {D : va_G} {tys : List (ClassId × FieldType)} {A : Nat → Prop} {cc : ByteArray} {nL : Nat} {rm : Room} {ret : Option FieldType} {nm : String} {k n : Nat} {Q : State → Prop} {cs : List va_W} {lv : List (Nat × Value)} {pc : Nat} {st : List Value} (C : kC κ D tys A cc nL RX6 rm ret nm) (j : Nat) {a : Nat} {z0 z1 z2 z3 z4 z5 z6 z7 z8 z9 z10 z11 : Value} {w : va_W} (hj : cs[j]? = some ((a, .inr (6, [z0, z1, z2, z3, z4, z5, z6, z7, z8, z9, z10, z11])) :: w)) (hd : decode cc pc = .ok (.getfield 144, 3)) (kk : kG κ D A nL k n Q cs lv (pc + 3) (z7 :: st)) : kG κ D A nL k n Q cs lv pc (.ref a :: st) :=
  g_get C j 6 7 z7 inX6 hj rfl (by decide) m_658 rfl rfl hd kk
theorem gf_RX6_147 {κ : kT} {D : va_G} {tys : List (ClassId × FieldType)} {A : Nat → Prop} {cc : ByteArray} {nL : Nat} {rm : Room} {ret : Option FieldType} {nm : String} {k n : Nat} {Q : State → Prop} {cs : List va_W} {lv : List (Nat × Value)} {pc : Nat} {st : List Value} (C : kC κ D tys A cc nL RX6 rm ret nm) (j : Nat) {a : Nat} {z0 z1 z2 z3 z4 z5 z6 z7 z8 z9 z10 z11 : Value} {w : va_W} (hj : cs[j]? = some ((a, .inr (6, [z0, z1, z2, z3, z4, z5, z6, z7, z8, z9, z10, z11])) :: w)) (hd : decode cc pc = .ok (.getfield 147, 3)) (kk : kG κ D A nL k n Q cs lv (pc + 3) (z8 :: st)) : kG κ D A nL k n Q cs lv pc (.ref a :: st) :=
  g_get C j 6 8 z8 inX6 hj rfl (by decide) m_659 rfl rfl hd kk
theorem gf_RX6_150 {κ : kT} {D : va_G} {tys : List (ClassId × FieldType)} {A : Nat → Prop} {cc : ByteArray} {nL : Nat} {rm : Room} {ret : Option FieldType} {nm : String} {k n : Nat} {Q : State → Prop} {cs : List va_W} {lv : List (Nat × Value)} {pc : Nat} {st : List Value} (C : kC κ D tys A cc nL RX6 rm ret nm) (j : Nat) {a : Nat} {z0 z1 z2 z3 z4 z5 z6 z7 z8 z9 z10 z11 : Value} {w : va_W} (hj : cs[j]? = some ((a, .inr (6, [z0, z1, z2, z3, z4, z5, z6, z7, z8, z9, z10, z11])) :: w)) (hd : decode cc pc = .ok (.getfield 150, 3)) (kk : kG κ D A nL k n Q cs lv (pc + 3) (z9 :: st)) : kG κ D A nL k n Q cs lv pc (.ref a :: st) :=
  g_get C j 6 9 z9 inX6 hj rfl (by decide) m_660 rfl rfl hd kk
theorem gp_RX0_18 {κ : kT} {D : va_G} {tys : List (ClassId × FieldType)} {A : Nat → Prop} {cc : ByteArray} {nL : Nat} {rm : Room} {ret : Option FieldType} {nm : String} {k n : Nat} {Q : State → Prop} {cs : List va_W} {lv : List (Nat × Value)} {pc : Nat} {st : List Value} (C : kC κ D tys A cc nL RX0 rm ret nm) (j : Nat) {a : Nat} {z0 z1 z2 : Value} {v : Int32} {cs' : List va_W} (hj : cs[j]? = some [(a, .inr (0, [z0, z1, z2]))]) (hcs : cs.set j [(a, .inr (0, [z0, z1, .int v]))] = cs') (hd : decode cc pc = .ok (.putfield 18, 3)) (kk : kG κ D A nL k n Q cs' lv (pc + 3) st) : kG κ D A nL k n Q cs lv pc (.int v :: .ref a :: st) :=
  g_put C j 0 2 tyX0 cs' tyX0_ok nmX0 inX0 hj rfl (by decide) m_153 rfl rfl (show tyX0 2 = .int from rfl) rfl rfl (Nat.le_of_ble_eq_true rfl) hcs hd kk
theorem gp_RX0_22 {κ : kT} {D : va_G} {tys : List (ClassId × FieldType)} {A : Nat → Prop} {cc : ByteArray} {nL : Nat} {rm : Room} {ret : Option FieldType} {nm : String} {k n : Nat} {Q : State → Prop} {cs : List va_W} {lv : List (Nat × Value)} {pc : Nat} {st : List Value} (C : kC κ D tys A cc nL RX0 rm ret nm) (j : Nat) {a : Nat} {z0 z1 z2 : Value} {v : Int32} {cs' : List va_W} (hj : cs[j]? = some [(a, .inr (0, [z0, z1, z2]))]) (hcs : cs.set j [(a, .inr (0, [z0, .int v, z2]))] = cs') (hd : decode cc pc = .ok (.putfield 22, 3)) (kk : kG κ D A nL k n Q cs' lv (pc + 3) st) : kG κ D A nL k n Q cs lv pc (.int v :: .ref a :: st) :=
  g_put C j 0 1 tyX0 cs' tyX0_ok nmX0 inX0 hj rfl (by decide) m_152 rfl rfl (show tyX0 1 = .int from rfl) rfl rfl (Nat.le_of_ble_eq_true rfl) hcs hd kk
theorem gp_RX1_21 {κ : kT} {D : va_G} {tys : List (ClassId × FieldType)} {A : Nat → Prop} {cc : ByteArray} {nL : Nat} {rm : Room} {ret : Option FieldType} {nm : String} {k n : Nat} {Q : State → Prop} {cs : List va_W} {lv : List (Nat × Value)} {pc : Nat} {st : List Value} (C : kC κ D tys A cc nL RX1 rm ret nm) (j : Nat) {a : Nat} {z0 z1 : Value} {v : Int32} {cs' : List va_W} (hj : cs[j]? = some [(a, .inr (1, [z0, z1]))]) (hcs : cs.set j [(a, .inr (1, [z0, .int v]))] = cs') (hd : decode cc pc = .ok (.putfield 21, 3)) (kk : kG κ D A nL k n Q cs' lv (pc + 3) st) : kG κ D A nL k n Q cs lv pc (.int v :: .ref a :: st) :=
  g_put C j 1 1 tyX1 cs' tyX1_ok nmX1 inX1 hj rfl (by decide) m_84 rfl rfl (show tyX1 1 = .int from rfl) rfl rfl (Nat.le_of_ble_eq_true rfl) hcs hd kk
theorem gp_RX2_31 {κ : kT} {D : va_G} {tys : List (ClassId × FieldType)} {A : Nat → Prop} {cc : ByteArray} {nL : Nat} {rm : Room} {ret : Option FieldType} {nm : String} {k n : Nat} {Q : State → Prop} {cs : List va_W} {lv : List (Nat × Value)} {pc : Nat} {st : List Value} (C : kC κ D tys A cc nL RX2 rm ret nm) (j : Nat) {a : Nat} {z0 z1 z2 z3 z4 z5 : Value} {v : Int32} {cs' : List va_W} (hn : narrow .boolean (.int v) = .int v) (hfx : fits .boolean (.int v) = true) (hj : cs[j]? = some [(a, .inr (2, [z0, z1, z2, z3, z4, z5]))]) (hcs : cs.set j [(a, .inr (2, [z0, z1, .int v, z3, z4, z5]))] = cs') (hd : decode cc pc = .ok (.putfield 31, 3)) (kk : kG κ D A nL k n Q cs' lv (pc + 3) st) : kG κ D A nL k n Q cs lv pc (.int v :: .ref a :: st) :=
  g_put C j 2 2 tyX2 cs' tyX2_ok nmX2 inX2 hj rfl (by decide) m_176 rfl rfl (show tyX2 2 = .boolean from rfl) hn hfx (Nat.le_of_ble_eq_true rfl) hcs hd kk
theorem gp_RX2_35 {κ : kT} {D : va_G} {tys : List (ClassId × FieldType)} {A : Nat → Prop} {cc : ByteArray} {nL : Nat} {rm : Room} {ret : Option FieldType} {nm : String} {k n : Nat} {Q : State → Prop} {cs : List va_W} {lv : List (Nat × Value)} {pc : Nat} {st : List Value} (C : kC κ D tys A cc nL RX2 rm ret nm) (j : Nat) {a : Nat} {z0 z1 z2 z3 z4 z5 : Value} {v : Int32} {cs' : List va_W} (hj : cs[j]? = some [(a, .inr (2, [z0, z1, z2, z3, z4, z5]))]) (hcs : cs.set j [(a, .inr (2, [z0, z1, z2, z3, z4, .int v]))] = cs') (hd : decode cc pc = .ok (.putfield 35, 3)) (kk : kG κ D A nL k n Q cs' lv (pc + 3) st) : kG κ D A nL k n Q cs lv pc (.int v :: .ref a :: st) :=
  g_put C j 2 5 tyX2 cs' tyX2_ok nmX2 inX2 hj rfl (by decide) m_180 rfl rfl (show tyX2 5 = .int from rfl) rfl rfl (Nat.le_of_ble_eq_true rfl) hcs hd kk
theorem gp_RX2_43 {κ : kT} {D : va_G} {tys : List (ClassId × FieldType)} {A : Nat → Prop} {cc : ByteArray} {nL : Nat} {rm : Room} {ret : Option FieldType} {nm : String} {k n : Nat} {Q : State → Prop} {cs : List va_W} {lv : List (Nat × Value)} {pc : Nat} {st : List Value} (C : kC κ D tys A cc nL RX2 rm ret nm) (j : Nat) {a : Nat} {z0 z1 z2 z3 z4 z5 : Value} {v : Int32} {cs' : List va_W} (hj : cs[j]? = some [(a, .inr (2, [z0, z1, z2, z3, z4, z5]))]) (hcs : cs.set j [(a, .inr (2, [z0, z1, z2, z3, .int v, z5]))] = cs') (hd : decode cc pc = .ok (.putfield 43, 3)) (kk : kG κ D A nL k n Q cs' lv (pc + 3) st) : kG κ D A nL k n Q cs lv pc (.int v :: .ref a :: st) :=
  g_put C j 2 4 tyX2 cs' tyX2_ok nmX2 inX2 hj rfl (by decide) m_178 rfl rfl (show tyX2 4 = .int from rfl) rfl rfl (Nat.le_of_ble_eq_true rfl) hcs hd kk
theorem gp_RX2_78 {κ : kT} {D : va_G} {tys : List (ClassId × FieldType)} {A : Nat → Prop} {cc : ByteArray} {nL : Nat} {rm : Room} {ret : Option FieldType} {nm : String} {k n : Nat} {Q : State → Prop} {cs : List va_W} {lv : List (Nat × Value)} {pc : Nat} {st : List Value} (C : kC κ D tys A cc nL RX2 rm ret nm) (j : Nat) {a : Nat} {z0 z1 z2 z3 z4 z5 : Value} {v : Int32} {cs' : List va_W} (hn : narrow .boolean (.int v) = .int v) (hfx : fits .boolean (.int v) = true) (hj : cs[j]? = some [(a, .inr (2, [z0, z1, z2, z3, z4, z5]))]) (hcs : cs.set j [(a, .inr (2, [z0, z1, z2, .int v, z4, z5]))] = cs') (hd : decode cc pc = .ok (.putfield 78, 3)) (kk : kG κ D A nL k n Q cs' lv (pc + 3) st) : kG κ D A nL k n Q cs lv pc (.int v :: .ref a :: st) :=
  g_put C j 2 3 tyX2 cs' tyX2_ok nmX2 inX2 hj rfl (by decide) m_177 rfl rfl (show tyX2 3 = .boolean from rfl) hn hfx (Nat.le_of_ble_eq_true rfl) hcs hd kk
theorem gp_RX3_46 {κ : kT} {D : va_G} {tys : List (ClassId × FieldType)} {A : Nat → Prop} {cc : ByteArray} {nL : Nat} {rm : Room} {ret : Option FieldType} {nm : String} {k n : Nat} {Q : State → Prop} {cs : List va_W} {lv : List (Nat × Value)} {pc : Nat} {st : List Value} (C : kC κ D tys A cc nL RX3 rm ret nm) (j : Nat) {a : Nat} {z0 z1 z2 z3 z4 z5 z6 : Value} {v : Int32} {cs' : List va_W} (hj : cs[j]? = some [(a, .inr (3, [z0, z1, z2, z3, z4, z5, z6]))]) (hcs : cs.set j [(a, .inr (3, [z0, z1, z2, z3, z4, .int v, z6]))] = cs') (hd : decode cc pc = .ok (.putfield 46, 3)) (kk : kG κ D A nL k n Q cs' lv (pc + 3) st) : kG κ D A nL k n Q cs lv pc (.int v :: .ref a :: st) :=
  g_put C j 3 5 tyX3 cs' tyX3_ok nmX3 inX3 hj rfl (by decide) m_125 rfl rfl (show tyX3 5 = .int from rfl) rfl rfl (Nat.le_of_ble_eq_true rfl) hcs hd kk
theorem gp_RX3_50 {κ : kT} {D : va_G} {tys : List (ClassId × FieldType)} {A : Nat → Prop} {cc : ByteArray} {nL : Nat} {rm : Room} {ret : Option FieldType} {nm : String} {k n : Nat} {Q : State → Prop} {cs : List va_W} {lv : List (Nat × Value)} {pc : Nat} {st : List Value} (C : kC κ D tys A cc nL RX3 rm ret nm) (j : Nat) {a : Nat} {z0 z1 z2 z3 z4 z5 z6 : Value} {v : Int32} {cs' : List va_W} (hj : cs[j]? = some [(a, .inr (3, [z0, z1, z2, z3, z4, z5, z6]))]) (hcs : cs.set j [(a, .inr (3, [z0, z1, z2, z3, z4, z5, .int v]))] = cs') (hd : decode cc pc = .ok (.putfield 50, 3)) (kk : kG κ D A nL k n Q cs' lv (pc + 3) st) : kG κ D A nL k n Q cs lv pc (.int v :: .ref a :: st) :=
  g_put C j 3 6 tyX3 cs' tyX3_ok nmX3 inX3 hj rfl (by decide) m_126 rfl rfl (show tyX3 6 = .int from rfl) rfl rfl (Nat.le_of_ble_eq_true rfl) hcs hd kk
theorem gp_RX5_47 {κ : kT} {D : va_G} {tys : List (ClassId × FieldType)} {A : Nat → Prop} {cc : ByteArray} {nL : Nat} {rm : Room} {ret : Option FieldType} {nm : String} {k n : Nat} {Q : State → Prop} {cs : List va_W} {lv : List (Nat × Value)} {pc : Nat} {st : List Value} (C : kC κ D tys A cc nL RX5 rm ret nm) (j : Nat) {a : Nat} {z0 z1 z2 z3 z4 z5 z6 : Value} {v : Int32} {cs' : List va_W} (hj : cs[j]? = some [(a, .inr (3, [z0, z1, z2, z3, z4, z5, z6]))]) (hcs : cs.set j [(a, .inr (3, [z0, z1, z2, z3, z4, .int v, z6]))] = cs') (hd : decode cc pc = .ok (.putfield 47, 3)) (kk : kG κ D A nL k n Q cs' lv (pc + 3) st) : kG κ D A nL k n Q cs lv pc (.int v :: .ref a :: st) :=
  g_putN C j 3 4 5 tyX3 cs' tyX3_ok nmX3 inX3 hj rfl (by decide) (show kNL[4]? = _ from rfl) rfl rfl (show tyX3 5 = .int from rfl) rfl rfl (Nat.le_of_ble_eq_true rfl) hcs hd kk
theorem gp_RX6_31 {κ : kT} {D : va_G} {tys : List (ClassId × FieldType)} {A : Nat → Prop} {cc : ByteArray} {nL : Nat} {rm : Room} {ret : Option FieldType} {nm : String} {k n : Nat} {Q : State → Prop} {cs : List va_W} {lv : List (Nat × Value)} {pc : Nat} {st : List Value} (C : kC κ D tys A cc nL RX6 rm ret nm) (j : Nat) {a : Nat} {z0 z1 z2 z3 z4 z5 z6 z7 z8 z9 z10 z11 : Value} {v : Int32} {cs' : List va_W} (hj : cs[j]? = some [(a, .inr (6, [z0, z1, z2, z3, z4, z5, z6, z7, z8, z9, z10, z11]))]) (hcs : cs.set j [(a, .inr (6, [z0, z1, z2, .int v, z4, z5, z6, z7, z8, z9, z10, z11]))] = cs') (hd : decode cc pc = .ok (.putfield 31, 3)) (kk : kG κ D A nL k n Q cs' lv (pc + 3) st) : kG κ D A nL k n Q cs lv pc (.int v :: .ref a :: st) :=
  g_put C j 6 3 tyX6 cs' tyX6_ok nmX6 inX6 hj rfl (by decide) m_654 rfl rfl (show tyX6 3 = .int from rfl) rfl rfl (Nat.le_of_ble_eq_true rfl) hcs hd kk
theorem gp_RX6_130 {κ : kT} {D : va_G} {tys : List (ClassId × FieldType)} {A : Nat → Prop} {cc : ByteArray} {nL : Nat} {rm : Room} {ret : Option FieldType} {nm : String} {k n : Nat} {Q : State → Prop} {cs : List va_W} {lv : List (Nat × Value)} {pc : Nat} {st : List Value} (C : kC κ D tys A cc nL RX6 rm ret nm) (j : Nat) {a : Nat} {z0 z1 z2 z3 z4 z5 z6 z7 z8 z9 z10 z11 : Value} {v : Int32} {cs' : List va_W} (hj : cs[j]? = some [(a, .inr (6, [z0, z1, z2, z3, z4, z5, z6, z7, z8, z9, z10, z11]))]) (hcs : cs.set j [(a, .inr (6, [z0, z1, z2, z3, z4, z5, .int v, z7, z8, z9, z10, z11]))] = cs') (hd : decode cc pc = .ok (.putfield 130, 3)) (kk : kG κ D A nL k n Q cs' lv (pc + 3) st) : kG κ D A nL k n Q cs lv pc (.int v :: .ref a :: st) :=
  g_put C j 6 6 tyX6 cs' tyX6_ok nmX6 inX6 hj rfl (by decide) m_657 rfl rfl (show tyX6 6 = .int from rfl) rfl rfl (Nat.le_of_ble_eq_true rfl) hcs hd kk
theorem gp_RX6_144 {κ : kT} {D : va_G} {tys : List (ClassId × FieldType)} {A : Nat → Prop} {cc : ByteArray} {nL : Nat} {rm : Room} {ret : Option FieldType} {nm : String} {k n : Nat} {Q : State → Prop} {cs : List va_W} {lv : List (Nat × Value)} {pc : Nat} {st : List Value} (C : kC κ D tys A cc nL RX6 rm ret nm) (j : Nat) {a : Nat} {z0 z1 z2 z3 z4 z5 z6 z7 z8 z9 z10 z11 : Value} {v : Int32} {cs' : List va_W} (hj : cs[j]? = some [(a, .inr (6, [z0, z1, z2, z3, z4, z5, z6, z7, z8, z9, z10, z11]))]) (hcs : cs.set j [(a, .inr (6, [z0, z1, z2, z3, z4, z5, z6, .int v, z8, z9, z10, z11]))] = cs') (hd : decode cc pc = .ok (.putfield 144, 3)) (kk : kG κ D A nL k n Q cs' lv (pc + 3) st) : kG κ D A nL k n Q cs lv pc (.int v :: .ref a :: st) :=
  g_put C j 6 7 tyX6 cs' tyX6_ok nmX6 inX6 hj rfl (by decide) m_658 rfl rfl (show tyX6 7 = .int from rfl) rfl rfl (Nat.le_of_ble_eq_true rfl) hcs hd kk
theorem gp_RX6_147 {κ : kT} {D : va_G} {tys : List (ClassId × FieldType)} {A : Nat → Prop} {cc : ByteArray} {nL : Nat} {rm : Room} {ret : Option FieldType} {nm : String} {k n : Nat} {Q : State → Prop} {cs : List va_W} {lv : List (Nat × Value)} {pc : Nat} {st : List Value} (C : kC κ D tys A cc nL RX6 rm ret nm) (j : Nat) {a : Nat} {z0 z1 z2 z3 z4 z5 z6 z7 z8 z9 z10 z11 : Value} {v : Int32} {cs' : List va_W} (hj : cs[j]? = some [(a, .inr (6, [z0, z1, z2, z3, z4, z5, z6, z7, z8, z9, z10, z11]))]) (hcs : cs.set j [(a, .inr (6, [z0, z1, z2, z3, z4, z5, z6, z7, .int v, z9, z10, z11]))] = cs') (hd : decode cc pc = .ok (.putfield 147, 3)) (kk : kG κ D A nL k n Q cs' lv (pc + 3) st) : kG κ D A nL k n Q cs lv pc (.int v :: .ref a :: st) :=
  g_put C j 6 8 tyX6 cs' tyX6_ok nmX6 inX6 hj rfl (by decide) m_659 rfl rfl (show tyX6 8 = .int from rfl) rfl rfl (Nat.le_of_ble_eq_true rfl) hcs hd kk
theorem gp_RX6_150 {κ : kT} {D : va_G} {tys : List (ClassId × FieldType)} {A : Nat → Prop} {cc : ByteArray} {nL : Nat} {rm : Room} {ret : Option FieldType} {nm : String} {k n : Nat} {Q : State → Prop} {cs : List va_W} {lv : List (Nat × Value)} {pc : Nat} {st : List Value} (C : kC κ D tys A cc nL RX6 rm ret nm) (j : Nat) {a : Nat} {z0 z1 z2 z3 z4 z5 z6 z7 z8 z9 z10 z11 : Value} {v : Int32} {cs' : List va_W} (hj : cs[j]? = some [(a, .inr (6, [z0, z1, z2, z3, z4, z5, z6, z7, z8, z9, z10, z11]))]) (hcs : cs.set j [(a, .inr (6, [z0, z1, z2, z3, z4, z5, z6, z7, z8, .int v, z10, z11]))] = cs') (hd : decode cc pc = .ok (.putfield 150, 3)) (kk : kG κ D A nL k n Q cs' lv (pc + 3) st) : kG κ D A nL k n Q cs lv pc (.int v :: .ref a :: st) :=
  g_put C j 6 9 tyX6 cs' tyX6_ok nmX6 inX6 hj rfl (by decide) m_660 rfl rfl (show tyX6 9 = .int from rfl) rfl rfl (Nat.le_of_ble_eq_true rfl) hcs hd kk
abbrev ct_X5_init : List Cond := Cond.code yX5_init cX5_init 1 none :: TB
theorem tb_X5_init : GoodIn TB ct_X5_init := tb_good m_58
theorem hd_X5_init : yX5_init.cls = RX5 ∧ yX5_init.cls ≠ "java/lang/invoke/MethodHandle" ∧ yX5_init.cls ≠ "java/lang/invoke/VarHandle" ∧ (parseMethodDescriptor yX5_init.desc).map (fun d => d.parameters.length) = some 0 := ⟨rfl, by decide +kernel, by decide +kernel, by decide +kernel⟩
abbrev ct_X5_down : List Cond := Cond.code yX5_down cX5_down 2 (some .int) :: TB
abbrev rm_X5_down : Room := { frames := 6, cells := 0, slots := 0, locals := 128 }
theorem tb_X5_down : GoodIn TB ct_X5_down := tb_good m_221
theorem hd_X5_down : yX5_down.cls = RX5 ∧ yX5_down.cls ≠ "java/lang/invoke/MethodHandle" ∧ yX5_down.cls ≠ "java/lang/invoke/VarHandle" ∧ (parseMethodDescriptor yX5_down.desc).map (fun d => d.parameters.length) = some 1 := ⟨rfl, by decide +kernel, by decide +kernel, by decide +kernel⟩
abbrev ct_X5_up : List Cond := Cond.code yX5_up cX5_up 1 (some .int) :: TB
abbrev rm_X5_up : Room := { frames := 6, cells := 0, slots := 0, locals := 128 }
theorem tb_X5_up : GoodIn TB ct_X5_up := tb_good m_296
theorem hd_X5_up : yX5_up.cls = RX5 ∧ yX5_up.cls ≠ "java/lang/invoke/MethodHandle" ∧ yX5_up.cls ≠ "java/lang/invoke/VarHandle" ∧ (parseMethodDescriptor yX5_up.desc).map (fun d => d.parameters.length) = some 0 := ⟨rfl, by decide +kernel, by decide +kernel, by decide +kernel⟩
abbrev ct_X5_side : List Cond := Cond.code yX5_side cX5_side 2 (some .int) :: TB
abbrev rm_X5_side : Room := { frames := 6, cells := 0, slots := 0, locals := 128 }
theorem tb_X5_side : GoodIn TB ct_X5_side := tb_good m_308
theorem hd_X5_side : yX5_side.cls = RX5 ∧ yX5_side.cls ≠ "java/lang/invoke/MethodHandle" ∧ yX5_side.cls ≠ "java/lang/invoke/VarHandle" ∧ (parseMethodDescriptor yX5_side.desc).map (fun d => d.parameters.length) = some 1 := ⟨rfl, by decide +kernel, by decide +kernel, by decide +kernel⟩
abbrev ct_X5_step : List Cond := Cond.code yX5_step cX5_step 3 (some .int) :: TB
abbrev rm_X5_step : Room := { frames := 6, cells := 0, slots := 0, locals := 128 }
theorem tb_X5_step : GoodIn TB ct_X5_step := tb_good m_327
theorem hd_X5_step : yX5_step.cls = RX5 ∧ yX5_step.cls ≠ "java/lang/invoke/MethodHandle" ∧ yX5_step.cls ≠ "java/lang/invoke/VarHandle" ∧ (parseMethodDescriptor yX5_step.desc).map (fun d => d.parameters.length) = some 1 := ⟨rfl, by decide +kernel, by decide +kernel, by decide +kernel⟩
abbrev ct_X5_top : List Cond := Cond.code yX5_top cX5_top 2 (some .int) :: TB
abbrev rm_X5_top : Room := { frames := 6, cells := 0, slots := 0, locals := 128 }
theorem tb_X5_top : GoodIn TB ct_X5_top := tb_good m_339
theorem hd_X5_top : yX5_top.cls = RX5 ∧ yX5_top.cls ≠ "java/lang/invoke/MethodHandle" ∧ yX5_top.cls ≠ "java/lang/invoke/VarHandle" ∧ (parseMethodDescriptor yX5_top.desc).map (fun d => d.parameters.length) = some 0 := ⟨rfl, by decide +kernel, by decide +kernel, by decide +kernel⟩
abbrev ct_X5_back : List Cond := Cond.code yX5_back cX5_back 2 (some .int) :: TB
abbrev rm_X5_back : Room := { frames := 5, cells := 0, slots := 0, locals := 107 }
theorem tb_X5_back : GoodIn TB ct_X5_back := tb_good m_344
theorem hd_X5_back : yX5_back.cls = RX5 ∧ yX5_back.cls ≠ "java/lang/invoke/MethodHandle" ∧ yX5_back.cls ≠ "java/lang/invoke/VarHandle" ∧ (parseMethodDescriptor yX5_back.desc).map (fun d => d.parameters.length) = some 0 := ⟨rfl, by decide +kernel, by decide +kernel, by decide +kernel⟩
abbrev ct_X5_letter : List Cond := Cond.code yX5_letter cX5_letter 3 (some .int) :: TB
abbrev rm_X5_letter : Room := { frames := 5, cells := 0, slots := 0, locals := 107 }
theorem tb_X5_letter : GoodIn TB ct_X5_letter := tb_good m_361
theorem hd_X5_letter : yX5_letter.cls = RX5 ∧ yX5_letter.cls ≠ "java/lang/invoke/MethodHandle" ∧ yX5_letter.cls ≠ "java/lang/invoke/VarHandle" ∧ (parseMethodDescriptor yX5_letter.desc).map (fun d => d.parameters.length) = some 1 := ⟨rfl, by decide +kernel, by decide +kernel, by decide +kernel⟩
abbrev ct_X5_child : List Cond := Cond.code yX5_child cX5_child 5 (some .int) :: TB
abbrev rm_X5_child : Room := { frames := 5, cells := 0, slots := 0, locals := 107 }
theorem tb_X5_child : GoodIn TB ct_X5_child := tb_good m_377
theorem hd_X5_child : yX5_child.cls = RX5 ∧ yX5_child.cls ≠ "java/lang/invoke/MethodHandle" ∧ yX5_child.cls ≠ "java/lang/invoke/VarHandle" ∧ (parseMethodDescriptor yX5_child.desc).map (fun d => d.parameters.length) = some 2 := ⟨rfl, by decide +kernel, by decide +kernel, by decide +kernel⟩
abbrev ct_X5_beside : List Cond := Cond.code yX5_beside cX5_beside 6 (some .int) :: TB
abbrev rm_X5_beside : Room := { frames := 5, cells := 0, slots := 0, locals := 107 }
theorem tb_X5_beside : GoodIn TB ct_X5_beside := tb_good m_384
theorem hd_X5_beside : yX5_beside.cls = RX5 ∧ yX5_beside.cls ≠ "java/lang/invoke/MethodHandle" ∧ yX5_beside.cls ≠ "java/lang/invoke/VarHandle" ∧ (parseMethodDescriptor yX5_beside.desc).map (fun d => d.parameters.length) = some 2 := ⟨rfl, by decide +kernel, by decide +kernel, by decide +kernel⟩
abbrev ct_X5_delete : List Cond := Cond.code yX5_delete cX5_delete 1 (some .int) :: TB
abbrev rm_X5_delete : Room := { frames := 6, cells := 0, slots := 0, locals := 130 }
theorem tb_X5_delete : GoodIn TB ct_X5_delete := tb_good m_389
theorem hd_X5_delete : yX5_delete.cls = RX5 ∧ yX5_delete.cls ≠ "java/lang/invoke/MethodHandle" ∧ yX5_delete.cls ≠ "java/lang/invoke/VarHandle" ∧ (parseMethodDescriptor yX5_delete.desc).map (fun d => d.parameters.length) = some 0 := ⟨rfl, by decide +kernel, by decide +kernel, by decide +kernel⟩
abbrev ct_X5_wrap : List Cond := Cond.code yX5_wrap cX5_wrap 3 (some .int) :: TB
abbrev rm_X5_wrap : Room := { frames := 5, cells := 0, slots := 0, locals := 107 }
theorem tb_X5_wrap : GoodIn TB ct_X5_wrap := tb_good m_413
theorem hd_X5_wrap : yX5_wrap.cls = RX5 ∧ yX5_wrap.cls ≠ "java/lang/invoke/MethodHandle" ∧ yX5_wrap.cls ≠ "java/lang/invoke/VarHandle" ∧ (parseMethodDescriptor yX5_wrap.desc).map (fun d => d.parameters.length) = some 1 := ⟨rfl, by decide +kernel, by decide +kernel, by decide +kernel⟩
abbrev ct_X5_lift : List Cond := Cond.code yX5_lift cX5_lift 3 (some .int) :: TB
abbrev rm_X5_lift : Room := { frames := 6, cells := 0, slots := 0, locals := 130 }
theorem tb_X5_lift : GoodIn TB ct_X5_lift := tb_good m_426
theorem hd_X5_lift : yX5_lift.cls = RX5 ∧ yX5_lift.cls ≠ "java/lang/invoke/MethodHandle" ∧ yX5_lift.cls ≠ "java/lang/invoke/VarHandle" ∧ (parseMethodDescriptor yX5_lift.desc).map (fun d => d.parameters.length) = some 0 := ⟨rfl, by decide +kernel, by decide +kernel, by decide +kernel⟩
abbrev ct_X5_exchange : List Cond := Cond.code yX5_exchange cX5_exchange 6 (some .int) :: TB
abbrev rm_X5_exchange : Room := { frames := 5, cells := 0, slots := 0, locals := 116 }
theorem tb_X5_exchange : GoodIn TB ct_X5_exchange := tb_good m_431
theorem hd_X5_exchange : yX5_exchange.cls = RX5 ∧ yX5_exchange.cls ≠ "java/lang/invoke/MethodHandle" ∧ yX5_exchange.cls ≠ "java/lang/invoke/VarHandle" ∧ (parseMethodDescriptor yX5_exchange.desc).map (fun d => d.parameters.length) = some 1 := ⟨rfl, by decide +kernel, by decide +kernel, by decide +kernel⟩
abbrev ct_X5_cut : List Cond := Cond.code yX5_cut cX5_cut 1 (some .int) :: TB
abbrev rm_X5_cut : Room := { frames := 6, cells := 0, slots := 0, locals := 130 }
theorem tb_X5_cut : GoodIn TB ct_X5_cut := tb_good m_459
theorem hd_X5_cut : yX5_cut.cls = RX5 ∧ yX5_cut.cls ≠ "java/lang/invoke/MethodHandle" ∧ yX5_cut.cls ≠ "java/lang/invoke/VarHandle" ∧ (parseMethodDescriptor yX5_cut.desc).map (fun d => d.parameters.length) = some 0 := ⟨rfl, by decide +kernel, by decide +kernel, by decide +kernel⟩
abbrev ct_X5_copy : List Cond := Cond.code yX5_copy cX5_copy 1 (some .int) :: TB
abbrev rm_X5_copy : Room := { frames := 5, cells := 0, slots := 0, locals := 107 }
theorem tb_X5_copy : GoodIn TB ct_X5_copy := tb_good m_474
theorem hd_X5_copy : yX5_copy.cls = RX5 ∧ yX5_copy.cls ≠ "java/lang/invoke/MethodHandle" ∧ yX5_copy.cls ≠ "java/lang/invoke/VarHandle" ∧ (parseMethodDescriptor yX5_copy.desc).map (fun d => d.parameters.length) = some 0 := ⟨rfl, by decide +kernel, by decide +kernel, by decide +kernel⟩
abbrev ct_X5_paste : List Cond := Cond.code yX5_paste cX5_paste 4 (some .int) :: TB
abbrev rm_X5_paste : Room := { frames := 5, cells := 0, slots := 0, locals := 107 }
theorem tb_X5_paste : GoodIn TB ct_X5_paste := tb_good m_478
theorem hd_X5_paste : yX5_paste.cls = RX5 ∧ yX5_paste.cls ≠ "java/lang/invoke/MethodHandle" ∧ yX5_paste.cls ≠ "java/lang/invoke/VarHandle" ∧ (parseMethodDescriptor yX5_paste.desc).map (fun d => d.parameters.length) = some 1 := ⟨rfl, by decide +kernel, by decide +kernel, by decide +kernel⟩
abbrev ct_X5_mark : List Cond := Cond.code yX5_mark cX5_mark 3 (some .int) :: TB
abbrev rm_X5_mark : Room := { frames := 5, cells := 0, slots := 0, locals := 107 }
theorem tb_X5_mark : GoodIn TB ct_X5_mark := tb_good m_490
theorem hd_X5_mark : yX5_mark.cls = RX5 ∧ yX5_mark.cls ≠ "java/lang/invoke/MethodHandle" ∧ yX5_mark.cls ≠ "java/lang/invoke/VarHandle" ∧ (parseMethodDescriptor yX5_mark.desc).map (fun d => d.parameters.length) = some 1 := ⟨rfl, by decide +kernel, by decide +kernel, by decide +kernel⟩
abbrev ct_X5_goTo : List Cond := Cond.code yX5_goTo cX5_goTo 2 (some .int) :: TB
abbrev rm_X5_goTo : Room := { frames := 6, cells := 0, slots := 0, locals := 128 }
theorem tb_X5_goTo : GoodIn TB ct_X5_goTo := tb_good m_506
theorem hd_X5_goTo : yX5_goTo.cls = RX5 ∧ yX5_goTo.cls ≠ "java/lang/invoke/MethodHandle" ∧ yX5_goTo.cls ≠ "java/lang/invoke/VarHandle" ∧ (parseMethodDescriptor yX5_goTo.desc).map (fun d => d.parameters.length) = some 1 := ⟨rfl, by decide +kernel, by decide +kernel, by decide +kernel⟩
abbrev ct_X5_nodeOf : List Cond := Cond.code yX5_nodeOf cX5_nodeOf 3 (some .int) :: TB
abbrev rm_X5_nodeOf : Room := { frames := 5, cells := 0, slots := 0, locals := 110 }
theorem tb_X5_nodeOf : GoodIn TB ct_X5_nodeOf := tb_good m_510
theorem hd_X5_nodeOf : yX5_nodeOf.cls = RX5 ∧ yX5_nodeOf.cls ≠ "java/lang/invoke/MethodHandle" ∧ yX5_nodeOf.cls ≠ "java/lang/invoke/VarHandle" ∧ (parseMethodDescriptor yX5_nodeOf.desc).map (fun d => d.parameters.length) = some 2 := ⟨rfl, by decide +kernel, by decide +kernel, by decide +kernel⟩
abbrev ct_X5_spine : List Cond := Cond.code yX5_spine cX5_spine 4 (some .int) :: TB
abbrev rm_X5_spine : Room := { frames := 5, cells := 0, slots := 0, locals := 110 }
theorem tb_X5_spine : GoodIn TB ct_X5_spine := tb_good m_522
theorem hd_X5_spine : yX5_spine.cls = RX5 ∧ yX5_spine.cls ≠ "java/lang/invoke/MethodHandle" ∧ yX5_spine.cls ≠ "java/lang/invoke/VarHandle" ∧ (parseMethodDescriptor yX5_spine.desc).map (fun d => d.parameters.length) = some 2 := ⟨rfl, by decide +kernel, by decide +kernel, by decide +kernel⟩
abbrev ct_X5_marked : List Cond := Cond.code yX5_marked cX5_marked 2 (some .int) :: TB
abbrev rm_X5_marked : Room := { frames := 3, cells := 0, slots := 0, locals := 64 }
theorem tb_X5_marked : GoodIn TB ct_X5_marked := tb_good m_527
theorem hd_X5_marked : yX5_marked.cls = RX5 ∧ yX5_marked.cls ≠ "java/lang/invoke/MethodHandle" ∧ yX5_marked.cls ≠ "java/lang/invoke/VarHandle" ∧ (parseMethodDescriptor yX5_marked.desc).map (fun d => d.parameters.length) = some 1 := ⟨rfl, by decide +kernel, by decide +kernel, by decide +kernel⟩
abbrev ct_X5_count : List Cond := Cond.code yX5_count cX5_count 2 (some .int) :: TB
abbrev rm_X5_count : Room := { frames := 4, cells := 0, slots := 0, locals := 89 }
theorem tb_X5_count : GoodIn TB ct_X5_count := tb_good m_531
theorem hd_X5_count : yX5_count.cls = RX5 ∧ yX5_count.cls ≠ "java/lang/invoke/MethodHandle" ∧ yX5_count.cls ≠ "java/lang/invoke/VarHandle" ∧ (parseMethodDescriptor yX5_count.desc).map (fun d => d.parameters.length) = some 1 := ⟨rfl, by decide +kernel, by decide +kernel, by decide +kernel⟩
abbrev ct_X5_like : List Cond := Cond.code yX5_like cX5_like 3 (some .int) :: TB
abbrev rm_X5_like : Room := { frames := 3, cells := 0, slots := 0, locals := 68 }
theorem tb_X5_like : GoodIn TB ct_X5_like := tb_good m_554
theorem hd_X5_like : yX5_like.cls = RX5 ∧ yX5_like.cls ≠ "java/lang/invoke/MethodHandle" ∧ yX5_like.cls ≠ "java/lang/invoke/VarHandle" ∧ (parseMethodDescriptor yX5_like.desc).map (fun d => d.parameters.length) = some 0 := ⟨rfl, by decide +kernel, by decide +kernel, by decide +kernel⟩
abbrev ct_X5_meet : List Cond := Cond.code yX5_meet cX5_meet 5 (some .int) :: TB
abbrev rm_X5_meet : Room := { frames := 3, cells := 0, slots := 0, locals := 61 }
theorem tb_X5_meet : GoodIn TB ct_X5_meet := tb_good m_562
theorem hd_X5_meet : yX5_meet.cls = RX5 ∧ yX5_meet.cls ≠ "java/lang/invoke/MethodHandle" ∧ yX5_meet.cls ≠ "java/lang/invoke/VarHandle" ∧ (parseMethodDescriptor yX5_meet.desc).map (fun d => d.parameters.length) = some 2 := ⟨rfl, by decide +kernel, by decide +kernel, by decide +kernel⟩
abbrev ct_X5_find : List Cond := Cond.code yX5_find cX5_find 3 (some .int) :: TB
abbrev rm_X5_find : Room := { frames := 2, cells := 0, slots := 0, locals := 42 }
theorem tb_X5_find : GoodIn TB ct_X5_find := tb_good m_566
theorem hd_X5_find : yX5_find.cls = RX5 ∧ yX5_find.cls ≠ "java/lang/invoke/MethodHandle" ∧ yX5_find.cls ≠ "java/lang/invoke/VarHandle" ∧ (parseMethodDescriptor yX5_find.desc).map (fun d => d.parameters.length) = some 1 := ⟨rfl, by decide +kernel, by decide +kernel, by decide +kernel⟩
abbrev ct_X5_undo : List Cond := Cond.code yX5_undo cX5_undo 1 (some .int) :: TB
abbrev rm_X5_undo : Room := { frames := 5, cells := 0, slots := 0, locals := 107 }
theorem tb_X5_undo : GoodIn TB ct_X5_undo := tb_good m_570
theorem hd_X5_undo : yX5_undo.cls = RX5 ∧ yX5_undo.cls ≠ "java/lang/invoke/MethodHandle" ∧ yX5_undo.cls ≠ "java/lang/invoke/VarHandle" ∧ (parseMethodDescriptor yX5_undo.desc).map (fun d => d.parameters.length) = some 0 := ⟨rfl, by decide +kernel, by decide +kernel, by decide +kernel⟩
abbrev ct_X5_type : List Cond := Cond.code yX5_type cX5_type 2 (some .int) :: TB
abbrev rm_X5_type : Room := { frames := 2, cells := 0, slots := 0, locals := 44 }
theorem tb_X5_type : GoodIn TB ct_X5_type := tb_good m_578
theorem hd_X5_type : yX5_type.cls = RX5 ∧ yX5_type.cls ≠ "java/lang/invoke/MethodHandle" ∧ yX5_type.cls ≠ "java/lang/invoke/VarHandle" ∧ (parseMethodDescriptor yX5_type.desc).map (fun d => d.parameters.length) = some 1 := ⟨rfl, by decide +kernel, by decide +kernel, by decide +kernel⟩
abbrev ct_X5_clearText : List Cond := Cond.code yX5_clearText cX5_clearText 2 (some .int) :: TB
abbrev rm_X5_clearText : Room := { frames := 1, cells := 0, slots := 0, locals := 20 }
theorem tb_X5_clearText : GoodIn TB ct_X5_clearText := tb_good m_583
theorem hd_X5_clearText : yX5_clearText.cls = RX5 ∧ yX5_clearText.cls ≠ "java/lang/invoke/MethodHandle" ∧ yX5_clearText.cls ≠ "java/lang/invoke/VarHandle" ∧ (parseMethodDescriptor yX5_clearText.desc).map (fun d => d.parameters.length) = some 0 := ⟨rfl, by decide +kernel, by decide +kernel, by decide +kernel⟩
abbrev ct_X5_write : List Cond := Cond.code yX5_write cX5_write 1 (some .int) :: TB
abbrev rm_X5_write : Room := { frames := 4, cells := 0, slots := 0, locals := 89 }
theorem tb_X5_write : GoodIn TB ct_X5_write := tb_good m_588
theorem hd_X5_write : yX5_write.cls = RX5 ∧ yX5_write.cls ≠ "java/lang/invoke/MethodHandle" ∧ yX5_write.cls ≠ "java/lang/invoke/VarHandle" ∧ (parseMethodDescriptor yX5_write.desc).map (fun d => d.parameters.length) = some 0 := ⟨rfl, by decide +kernel, by decide +kernel, by decide +kernel⟩
abbrev ct_X5_fault : List Cond := Cond.code yX5_fault cX5_fault 2 (some .int) :: TB
abbrev rm_X5_fault : Room := { frames := 5, cells := 0, slots := 0, locals := 111 }
theorem tb_X5_fault : GoodIn TB ct_X5_fault := tb_good m_600
theorem hd_X5_fault : yX5_fault.cls = RX5 ∧ yX5_fault.cls ≠ "java/lang/invoke/MethodHandle" ∧ yX5_fault.cls ≠ "java/lang/invoke/VarHandle" ∧ (parseMethodDescriptor yX5_fault.desc).map (fun d => d.parameters.length) = some 1 := ⟨rfl, by decide +kernel, by decide +kernel, by decide +kernel⟩
abbrev ct_X5_read : List Cond := Cond.code yX5_read cX5_read 1 (some .int) :: TB
abbrev rm_X5_read : Room := { frames := 5, cells := 0, slots := 0, locals := 115 }
theorem tb_X5_read : GoodIn TB ct_X5_read := tb_good m_638
theorem hd_X5_read : yX5_read.cls = RX5 ∧ yX5_read.cls ≠ "java/lang/invoke/MethodHandle" ∧ yX5_read.cls ≠ "java/lang/invoke/VarHandle" ∧ (parseMethodDescriptor yX5_read.desc).map (fun d => d.parameters.length) = some 0 := ⟨rfl, by decide +kernel, by decide +kernel, by decide +kernel⟩
abbrev ct_X5_walk : List Cond := Cond.code yX5_walk cX5_walk 2 (some .int) :: TB
abbrev rm_X5_walk : Room := { frames := 5, cells := 0, slots := 0, locals := 107 }
theorem tb_X5_walk : GoodIn TB ct_X5_walk := tb_good m_253
theorem hd_X5_walk : yX5_walk.cls = RX5 ∧ yX5_walk.cls ≠ "java/lang/invoke/MethodHandle" ∧ yX5_walk.cls ≠ "java/lang/invoke/VarHandle" ∧ (parseMethodDescriptor yX5_walk.desc).map (fun d => d.parameters.length) = some 1 := ⟨rfl, by decide +kernel, by decide +kernel, by decide +kernel⟩
abbrev ct_X5_orNotFound : List Cond := Cond.code yX5_orNotFound cX5_orNotFound 1 (some .int) :: TB
abbrev rm_X5_orNotFound : Room := { frames := 0, cells := 0, slots := 0, locals := 0 }
theorem tb_X5_orNotFound : GoodIn TB ct_X5_orNotFound := tb_good m_513
theorem hd_X5_orNotFound : yX5_orNotFound.cls ≠ "java/lang/invoke/MethodHandle" ∧ yX5_orNotFound.cls ≠ "java/lang/invoke/VarHandle" ∧ (parseMethodDescriptor yX5_orNotFound.desc).map (fun d => d.parameters.length) = some 1 := ⟨by decide +kernel, by decide +kernel, by decide +kernel⟩
abbrev ct_X5_isChoice : List Cond := Cond.code yX5_isChoice cX5_isChoice 1 (some .boolean) :: TB
abbrev rm_X5_isChoice : Room := { frames := 0, cells := 0, slots := 0, locals := 0 }
theorem tb_X5_isChoice : GoodIn TB ct_X5_isChoice := tb_good m_311
theorem hd_X5_isChoice : yX5_isChoice.cls ≠ "java/lang/invoke/MethodHandle" ∧ yX5_isChoice.cls ≠ "java/lang/invoke/VarHandle" ∧ (parseMethodDescriptor yX5_isChoice.desc).map (fun d => d.parameters.length) = some 1 := ⟨by decide +kernel, by decide +kernel, by decide +kernel⟩
abbrev ct_X5_isLetter : List Cond := Cond.code yX5_isLetter cX5_isLetter 1 (some .boolean) :: TB
abbrev rm_X5_isLetter : Room := { frames := 0, cells := 0, slots := 0, locals := 0 }
theorem tb_X5_isLetter : GoodIn TB ct_X5_isLetter := tb_good m_364
theorem hd_X5_isLetter : yX5_isLetter.cls ≠ "java/lang/invoke/MethodHandle" ∧ yX5_isLetter.cls ≠ "java/lang/invoke/VarHandle" ∧ (parseMethodDescriptor yX5_isLetter.desc).map (fun d => d.parameters.length) = some 1 := ⟨by decide +kernel, by decide +kernel, by decide +kernel⟩
abbrev ct_X5_isMark : List Cond := Cond.code yX5_isMark cX5_isMark 1 (some .boolean) :: TB
abbrev rm_X5_isMark : Room := { frames := 0, cells := 0, slots := 0, locals := 0 }
theorem tb_X5_isMark : GoodIn TB ct_X5_isMark := tb_good m_493
theorem hd_X5_isMark : yX5_isMark.cls ≠ "java/lang/invoke/MethodHandle" ∧ yX5_isMark.cls ≠ "java/lang/invoke/VarHandle" ∧ (parseMethodDescriptor yX5_isMark.desc).map (fun d => d.parameters.length) = some 1 := ⟨by decide +kernel, by decide +kernel, by decide +kernel⟩
abbrev ct_X6_init : List Cond := Cond.code yX6_init cX6_init 2 none :: TB
theorem tb_X6_init : GoodIn TB ct_X6_init := tb_good m_649
theorem hd_X6_init : yX6_init.cls = RX6 ∧ yX6_init.cls ≠ "java/lang/invoke/MethodHandle" ∧ yX6_init.cls ≠ "java/lang/invoke/VarHandle" ∧ (parseMethodDescriptor yX6_init.desc).map (fun d => d.parameters.length) = some 0 := ⟨rfl, by decide +kernel, by decide +kernel, by decide +kernel⟩
abbrev ct_X6_in : List Cond := Cond.code yX6_in cX6_in 3 (some .boolean) :: TB
abbrev rm_X6_in : Room := { frames := 0, cells := 0, slots := 0, locals := 0 }
theorem tb_X6_in : GoodIn TB ct_X6_in := tb_good m_746
theorem hd_X6_in : yX6_in.cls ≠ "java/lang/invoke/MethodHandle" ∧ yX6_in.cls ≠ "java/lang/invoke/VarHandle" ∧ (parseMethodDescriptor yX6_in.desc).map (fun d => d.parameters.length) = some 3 := ⟨by decide +kernel, by decide +kernel, by decide +kernel⟩
abbrev ct_X6_begins : List Cond := Cond.code yX6_begins cX6_begins 2 none :: TB
abbrev rm_X6_begins : Room := { frames := 0, cells := 0, slots := 0, locals := 0 }
theorem tb_X6_begins : GoodIn TB ct_X6_begins := tb_good m_695
theorem hd_X6_begins : yX6_begins.cls = RX6 ∧ yX6_begins.cls ≠ "java/lang/invoke/MethodHandle" ∧ yX6_begins.cls ≠ "java/lang/invoke/VarHandle" ∧ (parseMethodDescriptor yX6_begins.desc).map (fun d => d.parameters.length) = some 0 := ⟨rfl, by decide +kernel, by decide +kernel, by decide +kernel⟩
abbrev ct_X6_acted : List Cond := Cond.code yX6_acted cX6_acted 3 (some .int) :: TB
abbrev rm_X6_acted : Room := { frames := 0, cells := 0, slots := 0, locals := 0 }
theorem tb_X6_acted : GoodIn TB ct_X6_acted := tb_good m_731
theorem hd_X6_acted : yX6_acted.cls = RX6 ∧ yX6_acted.cls ≠ "java/lang/invoke/MethodHandle" ∧ yX6_acted.cls ≠ "java/lang/invoke/VarHandle" ∧ (parseMethodDescriptor yX6_acted.desc).map (fun d => d.parameters.length) = some 1 := ⟨rfl, by decide +kernel, by decide +kernel, by decide +kernel⟩
abbrev ct_X6_sign : List Cond := Cond.code yX6_sign cX6_sign 2 (some .int) :: TB
abbrev rm_X6_sign : Room := { frames := 0, cells := 0, slots := 0, locals := 0 }
theorem tb_X6_sign : GoodIn TB ct_X6_sign := tb_good m_774
theorem hd_X6_sign : yX6_sign.cls = RX6 ∧ yX6_sign.cls ≠ "java/lang/invoke/MethodHandle" ∧ yX6_sign.cls ≠ "java/lang/invoke/VarHandle" ∧ (parseMethodDescriptor yX6_sign.desc).map (fun d => d.parameters.length) = some 1 := ⟨rfl, by decide +kernel, by decide +kernel, by decide +kernel⟩
abbrev ct_X6_deep : List Cond := Cond.code yX6_deep cX6_deep 2 (some .int) :: TB
abbrev rm_X6_deep : Room := { frames := 0, cells := 0, slots := 0, locals := 0 }
theorem tb_X6_deep : GoodIn TB ct_X6_deep := tb_good m_719
theorem hd_X6_deep : yX6_deep.cls = RX6 ∧ yX6_deep.cls ≠ "java/lang/invoke/MethodHandle" ∧ yX6_deep.cls ≠ "java/lang/invoke/VarHandle" ∧ (parseMethodDescriptor yX6_deep.desc).map (fun d => d.parameters.length) = some 1 := ⟨rfl, by decide +kernel, by decide +kernel, by decide +kernel⟩
abbrev ct_X6_own : List Cond := Cond.code yX6_own cX6_own 2 (some .int) :: TB
abbrev rm_X6_own : Room := { frames := 0, cells := 0, slots := 0, locals := 0 }
theorem tb_X6_own : GoodIn TB ct_X6_own := tb_good m_707
theorem hd_X6_own : yX6_own.cls = RX6 ∧ yX6_own.cls ≠ "java/lang/invoke/MethodHandle" ∧ yX6_own.cls ≠ "java/lang/invoke/VarHandle" ∧ (parseMethodDescriptor yX6_own.desc).map (fun d => d.parameters.length) = some 1 := ⟨rfl, by decide +kernel, by decide +kernel, by decide +kernel⟩
abbrev ct_X6_isNode : List Cond := Cond.code yX6_isNode cX6_isNode 2 (some .boolean) :: TB
abbrev rm_X6_isNode : Room := { frames := 1, cells := 0, slots := 0, locals := 22 }
theorem tb_X6_isNode : GoodIn TB ct_X6_isNode := tb_good m_758
theorem hd_X6_isNode : yX6_isNode.cls = RX6 ∧ yX6_isNode.cls ≠ "java/lang/invoke/MethodHandle" ∧ yX6_isNode.cls ≠ "java/lang/invoke/VarHandle" ∧ (parseMethodDescriptor yX6_isNode.desc).map (fun d => d.parameters.length) = some 1 := ⟨rfl, by decide +kernel, by decide +kernel, by decide +kernel⟩
abbrev ct_X6_numberOf : List Cond := Cond.code yX6_numberOf cX6_numberOf 4 (some .int) :: TB
abbrev rm_X6_numberOf : Room := { frames := 1, cells := 0, slots := 0, locals := 21 }
theorem tb_X6_numberOf : GoodIn TB ct_X6_numberOf := tb_good m_703
theorem hd_X6_numberOf : yX6_numberOf.cls = RX6 ∧ yX6_numberOf.cls ≠ "java/lang/invoke/MethodHandle" ∧ yX6_numberOf.cls ≠ "java/lang/invoke/VarHandle" ∧ (parseMethodDescriptor yX6_numberOf.desc).map (fun d => d.parameters.length) = some 1 := ⟨rfl, by decide +kernel, by decide +kernel, by decide +kernel⟩
abbrev ct_X6_place : List Cond := Cond.code yX6_place cX6_place 1 (some .int) :: TB
abbrev rm_X6_place : Room := { frames := 2, cells := 0, slots := 0, locals := 44 }
theorem tb_X6_place : GoodIn TB ct_X6_place := tb_good m_699
theorem hd_X6_place : yX6_place.cls = RX6 ∧ yX6_place.cls ≠ "java/lang/invoke/MethodHandle" ∧ yX6_place.cls ≠ "java/lang/invoke/VarHandle" ∧ (parseMethodDescriptor yX6_place.desc).map (fun d => d.parameters.length) = some 0 := ⟨rfl, by decide +kernel, by decide +kernel, by decide +kernel⟩
abbrev ct_X6_end : List Cond := Cond.code yX6_end cX6_end 3 (some .int) :: TB
abbrev rm_X6_end : Room := { frames := 1, cells := 0, slots := 0, locals := 21 }
theorem tb_X6_end : GoodIn TB ct_X6_end := tb_good m_715
theorem hd_X6_end : yX6_end.cls = RX6 ∧ yX6_end.cls ≠ "java/lang/invoke/MethodHandle" ∧ yX6_end.cls ≠ "java/lang/invoke/VarHandle" ∧ (parseMethodDescriptor yX6_end.desc).map (fun d => d.parameters.length) = some 1 := ⟨rfl, by decide +kernel, by decide +kernel, by decide +kernel⟩
abbrev ct_X6_above : List Cond := Cond.code yX6_above cX6_above 3 (some .int) :: TB
abbrev rm_X6_above : Room := { frames := 1, cells := 0, slots := 0, locals := 21 }
theorem tb_X6_above : GoodIn TB ct_X6_above := tb_good m_739
theorem hd_X6_above : yX6_above.cls = RX6 ∧ yX6_above.cls ≠ "java/lang/invoke/MethodHandle" ∧ yX6_above.cls ≠ "java/lang/invoke/VarHandle" ∧ (parseMethodDescriptor yX6_above.desc).map (fun d => d.parameters.length) = some 1 := ⟨rfl, by decide +kernel, by decide +kernel, by decide +kernel⟩
abbrev ct_X6_children : List Cond := Cond.code yX6_children cX6_children 4 (some .int) :: TB
abbrev rm_X6_children : Room := { frames := 2, cells := 0, slots := 0, locals := 43 }
theorem tb_X6_children : GoodIn TB ct_X6_children := tb_good m_711
theorem hd_X6_children : yX6_children.cls = RX6 ∧ yX6_children.cls ≠ "java/lang/invoke/MethodHandle" ∧ yX6_children.cls ≠ "java/lang/invoke/VarHandle" ∧ (parseMethodDescriptor yX6_children.desc).map (fun d => d.parameters.length) = some 1 := ⟨rfl, by decide +kernel, by decide +kernel, by decide +kernel⟩
abbrev ct_X6_childOf : List Cond := Cond.code yX6_childOf cX6_childOf 5 (some .int) :: TB
abbrev rm_X6_childOf : Room := { frames := 2, cells := 0, slots := 0, locals := 43 }
theorem tb_X6_childOf : GoodIn TB ct_X6_childOf := tb_good m_723
theorem hd_X6_childOf : yX6_childOf.cls = RX6 ∧ yX6_childOf.cls ≠ "java/lang/invoke/MethodHandle" ∧ yX6_childOf.cls ≠ "java/lang/invoke/VarHandle" ∧ (parseMethodDescriptor yX6_childOf.desc).map (fun d => d.parameters.length) = some 2 := ⟨rfl, by decide +kernel, by decide +kernel, by decide +kernel⟩
abbrev ct_X6_which : List Cond := Cond.code yX6_which cX6_which 4 (some .int) :: TB
abbrev rm_X6_which : Room := { frames := 2, cells := 0, slots := 0, locals := 43 }
theorem tb_X6_which : GoodIn TB ct_X6_which := tb_good m_846
theorem hd_X6_which : yX6_which.cls = RX6 ∧ yX6_which.cls ≠ "java/lang/invoke/MethodHandle" ∧ yX6_which.cls ≠ "java/lang/invoke/VarHandle" ∧ (parseMethodDescriptor yX6_which.desc).map (fun d => d.parameters.length) = some 1 := ⟨rfl, by decide +kernel, by decide +kernel, by decide +kernel⟩
abbrev ct_X6_besides : List Cond := Cond.code yX6_besides cX6_besides 5 (some .int) :: TB
abbrev rm_X6_besides : Room := { frames := 2, cells := 0, slots := 0, locals := 43 }
theorem tb_X6_besides : GoodIn TB ct_X6_besides := tb_good m_750
theorem hd_X6_besides : yX6_besides.cls = RX6 ∧ yX6_besides.cls ≠ "java/lang/invoke/MethodHandle" ∧ yX6_besides.cls ≠ "java/lang/invoke/VarHandle" ∧ (parseMethodDescriptor yX6_besides.desc).map (fun d => d.parameters.length) = some 2 := ⟨rfl, by decide +kernel, by decide +kernel, by decide +kernel⟩
abbrev ct_X6_height : List Cond := Cond.code yX6_height cX6_height 4 (some .int) :: TB
abbrev rm_X6_height : Room := { frames := 2, cells := 0, slots := 0, locals := 43 }
theorem tb_X6_height : GoodIn TB ct_X6_height := tb_good m_826
theorem hd_X6_height : yX6_height.cls = RX6 ∧ yX6_height.cls ≠ "java/lang/invoke/MethodHandle" ∧ yX6_height.cls ≠ "java/lang/invoke/VarHandle" ∧ (parseMethodDescriptor yX6_height.desc).map (fun d => d.parameters.length) = some 1 := ⟨rfl, by decide +kernel, by decide +kernel, by decide +kernel⟩
abbrev ct_X6_opens : List Cond := Cond.code yX6_opens cX6_opens 4 none :: TB
abbrev rm_X6_opens : Room := { frames := 0, cells := 0, slots := 0, locals := 0 }
theorem tb_X6_opens : GoodIn TB ct_X6_opens := tb_good m_782
theorem hd_X6_opens : yX6_opens.cls = RX6 ∧ yX6_opens.cls ≠ "java/lang/invoke/MethodHandle" ∧ yX6_opens.cls ≠ "java/lang/invoke/VarHandle" ∧ (parseMethodDescriptor yX6_opens.desc).map (fun d => d.parameters.length) = some 2 := ⟨rfl, by decide +kernel, by decide +kernel, by decide +kernel⟩
abbrev ct_X6_closes : List Cond := Cond.code yX6_closes cX6_closes 4 none :: TB
abbrev rm_X6_closes : Room := { frames := 0, cells := 0, slots := 0, locals := 0 }
theorem tb_X6_closes : GoodIn TB ct_X6_closes := tb_good m_802
theorem hd_X6_closes : yX6_closes.cls = RX6 ∧ yX6_closes.cls ≠ "java/lang/invoke/MethodHandle" ∧ yX6_closes.cls ≠ "java/lang/invoke/VarHandle" ∧ (parseMethodDescriptor yX6_closes.desc).map (fun d => d.parameters.length) = some 2 := ⟨rfl, by decide +kernel, by decide +kernel, by decide +kernel⟩
abbrev ct_X6_lays : List Cond := Cond.code yX6_lays cX6_lays 4 none :: TB
abbrev rm_X6_lays : Room := { frames := 0, cells := 0, slots := 0, locals := 0 }
theorem tb_X6_lays : GoodIn TB ct_X6_lays := tb_good m_786
theorem hd_X6_lays : yX6_lays.cls = RX6 ∧ yX6_lays.cls ≠ "java/lang/invoke/MethodHandle" ∧ yX6_lays.cls ≠ "java/lang/invoke/VarHandle" ∧ (parseMethodDescriptor yX6_lays.desc).map (fun d => d.parameters.length) = some 3 := ⟨rfl, by decide +kernel, by decide +kernel, by decide +kernel⟩
abbrev ct_X6_sinks : List Cond := Cond.code yX6_sinks cX6_sinks 5 none :: TB
abbrev rm_X6_sinks : Room := { frames := 0, cells := 0, slots := 0, locals := 0 }
theorem tb_X6_sinks : GoodIn TB ct_X6_sinks := tb_good m_830
theorem hd_X6_sinks : yX6_sinks.cls = RX6 ∧ yX6_sinks.cls ≠ "java/lang/invoke/MethodHandle" ∧ yX6_sinks.cls ≠ "java/lang/invoke/VarHandle" ∧ (parseMethodDescriptor yX6_sinks.desc).map (fun d => d.parameters.length) = some 3 := ⟨rfl, by decide +kernel, by decide +kernel, by decide +kernel⟩
abbrev ct_X6_walks : List Cond := Cond.code yX6_walks cX6_walks 3 (some .int) :: TB
abbrev rm_X6_walks : Room := { frames := 1, cells := 0, slots := 0, locals := 21 }
theorem tb_X6_walks : GoodIn TB ct_X6_walks := tb_good m_727
theorem hd_X6_walks : yX6_walks.cls = RX6 ∧ yX6_walks.cls ≠ "java/lang/invoke/MethodHandle" ∧ yX6_walks.cls ≠ "java/lang/invoke/VarHandle" ∧ (parseMethodDescriptor yX6_walks.desc).map (fun d => d.parameters.length) = some 1 := ⟨rfl, by decide +kernel, by decide +kernel, by decide +kernel⟩
abbrev ct_X6_down : List Cond := Cond.code yX6_down cX6_down 3 (some .int) :: TB
abbrev rm_X6_down : Room := { frames := 3, cells := 0, slots := 0, locals := 67 }
theorem tb_X6_down : GoodIn TB ct_X6_down := tb_good m_691
theorem hd_X6_down : yX6_down.cls = RX6 ∧ yX6_down.cls ≠ "java/lang/invoke/MethodHandle" ∧ yX6_down.cls ≠ "java/lang/invoke/VarHandle" ∧ (parseMethodDescriptor yX6_down.desc).map (fun d => d.parameters.length) = some 1 := ⟨rfl, by decide +kernel, by decide +kernel, by decide +kernel⟩
abbrev ct_X6_up : List Cond := Cond.code yX6_up cX6_up 2 (some .int) :: TB
abbrev rm_X6_up : Room := { frames := 3, cells := 0, slots := 0, locals := 64 }
theorem tb_X6_up : GoodIn TB ct_X6_up := tb_good m_735
theorem hd_X6_up : yX6_up.cls = RX6 ∧ yX6_up.cls ≠ "java/lang/invoke/MethodHandle" ∧ yX6_up.cls ≠ "java/lang/invoke/VarHandle" ∧ (parseMethodDescriptor yX6_up.desc).map (fun d => d.parameters.length) = some 0 := ⟨rfl, by decide +kernel, by decide +kernel, by decide +kernel⟩
abbrev ct_X6_side : List Cond := Cond.code yX6_side cX6_side 3 (some .int) :: TB
abbrev rm_X6_side : Room := { frames := 3, cells := 0, slots := 0, locals := 67 }
theorem tb_X6_side : GoodIn TB ct_X6_side := tb_good m_743
theorem hd_X6_side : yX6_side.cls = RX6 ∧ yX6_side.cls ≠ "java/lang/invoke/MethodHandle" ∧ yX6_side.cls ≠ "java/lang/invoke/VarHandle" ∧ (parseMethodDescriptor yX6_side.desc).map (fun d => d.parameters.length) = some 1 := ⟨rfl, by decide +kernel, by decide +kernel, by decide +kernel⟩
abbrev ct_X6_step : List Cond := Cond.code yX6_step cX6_step 3 (some .int) :: TB
abbrev rm_X6_step : Room := { frames := 3, cells := 0, slots := 0, locals := 64 }
theorem tb_X6_step : GoodIn TB ct_X6_step := tb_good m_754
theorem hd_X6_step : yX6_step.cls = RX6 ∧ yX6_step.cls ≠ "java/lang/invoke/MethodHandle" ∧ yX6_step.cls ≠ "java/lang/invoke/VarHandle" ∧ (parseMethodDescriptor yX6_step.desc).map (fun d => d.parameters.length) = some 1 := ⟨rfl, by decide +kernel, by decide +kernel, by decide +kernel⟩
abbrev ct_X6_top : List Cond := Cond.code yX6_top cX6_top 3 (some .int) :: TB
abbrev rm_X6_top : Room := { frames := 3, cells := 0, slots := 0, locals := 64 }
theorem tb_X6_top : GoodIn TB ct_X6_top := tb_good m_762
theorem hd_X6_top : yX6_top.cls = RX6 ∧ yX6_top.cls ≠ "java/lang/invoke/MethodHandle" ∧ yX6_top.cls ≠ "java/lang/invoke/VarHandle" ∧ (parseMethodDescriptor yX6_top.desc).map (fun d => d.parameters.length) = some 0 := ⟨rfl, by decide +kernel, by decide +kernel, by decide +kernel⟩
abbrev ct_X6_back : List Cond := Cond.code yX6_back cX6_back 3 (some .int) :: TB
abbrev rm_X6_back : Room := { frames := 2, cells := 0, slots := 0, locals := 44 }
theorem tb_X6_back : GoodIn TB ct_X6_back := tb_good m_766
theorem hd_X6_back : yX6_back.cls = RX6 ∧ yX6_back.cls ≠ "java/lang/invoke/MethodHandle" ∧ yX6_back.cls ≠ "java/lang/invoke/VarHandle" ∧ (parseMethodDescriptor yX6_back.desc).map (fun d => d.parameters.length) = some 0 := ⟨rfl, by decide +kernel, by decide +kernel, by decide +kernel⟩
abbrev ct_X6_letter : List Cond := Cond.code yX6_letter cX6_letter 4 (some .int) :: TB
abbrev rm_X6_letter : Room := { frames := 3, cells := 0, slots := 0, locals := 64 }
theorem tb_X6_letter : GoodIn TB ct_X6_letter := tb_good m_770
theorem hd_X6_letter : yX6_letter.cls = RX6 ∧ yX6_letter.cls ≠ "java/lang/invoke/MethodHandle" ∧ yX6_letter.cls ≠ "java/lang/invoke/VarHandle" ∧ (parseMethodDescriptor yX6_letter.desc).map (fun d => d.parameters.length) = some 1 := ⟨rfl, by decide +kernel, by decide +kernel, by decide +kernel⟩
abbrev ct_X6_child : List Cond := Cond.code yX6_child cX6_child 5 (some .int) :: TB
abbrev rm_X6_child : Room := { frames := 3, cells := 0, slots := 0, locals := 67 }
theorem tb_X6_child : GoodIn TB ct_X6_child := tb_good m_778
theorem hd_X6_child : yX6_child.cls = RX6 ∧ yX6_child.cls ≠ "java/lang/invoke/MethodHandle" ∧ yX6_child.cls ≠ "java/lang/invoke/VarHandle" ∧ (parseMethodDescriptor yX6_child.desc).map (fun d => d.parameters.length) = some 2 := ⟨rfl, by decide +kernel, by decide +kernel, by decide +kernel⟩
abbrev ct_X6_beside : List Cond := Cond.code yX6_beside cX6_beside 7 (some .int) :: TB
abbrev rm_X6_beside : Room := { frames := 3, cells := 0, slots := 0, locals := 66 }
theorem tb_X6_beside : GoodIn TB ct_X6_beside := tb_good m_790
theorem hd_X6_beside : yX6_beside.cls = RX6 ∧ yX6_beside.cls ≠ "java/lang/invoke/MethodHandle" ∧ yX6_beside.cls ≠ "java/lang/invoke/VarHandle" ∧ (parseMethodDescriptor yX6_beside.desc).map (fun d => d.parameters.length) = some 2 := ⟨rfl, by decide +kernel, by decide +kernel, by decide +kernel⟩
abbrev ct_X6_goes : List Cond := Cond.code yX6_goes cX6_goes 4 (some .int) :: TB
abbrev rm_X6_goes : Room := { frames := 3, cells := 0, slots := 0, locals := 67 }
theorem tb_X6_goes : GoodIn TB ct_X6_goes := tb_good m_798
theorem hd_X6_goes : yX6_goes.cls = RX6 ∧ yX6_goes.cls ≠ "java/lang/invoke/MethodHandle" ∧ yX6_goes.cls ≠ "java/lang/invoke/VarHandle" ∧ (parseMethodDescriptor yX6_goes.desc).map (fun d => d.parameters.length) = some 0 := ⟨rfl, by decide +kernel, by decide +kernel, by decide +kernel⟩
abbrev ct_X6_clips : List Cond := Cond.code yX6_clips cX6_clips 3 none :: TB
abbrev rm_X6_clips : Room := { frames := 3, cells := 0, slots := 0, locals := 64 }
theorem tb_X6_clips : GoodIn TB ct_X6_clips := tb_good m_814
theorem hd_X6_clips : yX6_clips.cls = RX6 ∧ yX6_clips.cls ≠ "java/lang/invoke/MethodHandle" ∧ yX6_clips.cls ≠ "java/lang/invoke/VarHandle" ∧ (parseMethodDescriptor yX6_clips.desc).map (fun d => d.parameters.length) = some 0 := ⟨rfl, by decide +kernel, by decide +kernel, by decide +kernel⟩
abbrev ct_X6_forgets : List Cond := Cond.code yX6_forgets cX6_forgets 2 none :: TB
abbrev rm_X6_forgets : Room := { frames := 2, cells := 0, slots := 0, locals := 44 }
theorem tb_X6_forgets : GoodIn TB ct_X6_forgets := tb_good m_806
theorem hd_X6_forgets : yX6_forgets.cls = RX6 ∧ yX6_forgets.cls ≠ "java/lang/invoke/MethodHandle" ∧ yX6_forgets.cls ≠ "java/lang/invoke/VarHandle" ∧ (parseMethodDescriptor yX6_forgets.desc).map (fun d => d.parameters.length) = some 0 := ⟨rfl, by decide +kernel, by decide +kernel, by decide +kernel⟩
abbrev ct_X6_delete : List Cond := Cond.code yX6_delete cX6_delete 2 (some .int) :: TB
abbrev rm_X6_delete : Room := { frames := 4, cells := 0, slots := 0, locals := 90 }
theorem tb_X6_delete : GoodIn TB ct_X6_delete := tb_good m_794
theorem hd_X6_delete : yX6_delete.cls = RX6 ∧ yX6_delete.cls ≠ "java/lang/invoke/MethodHandle" ∧ yX6_delete.cls ≠ "java/lang/invoke/VarHandle" ∧ (parseMethodDescriptor yX6_delete.desc).map (fun d => d.parameters.length) = some 0 := ⟨rfl, by decide +kernel, by decide +kernel, by decide +kernel⟩
abbrev ct_X6_cut : List Cond := Cond.code yX6_cut cX6_cut 2 (some .int) :: TB
abbrev rm_X6_cut : Room := { frames := 4, cells := 0, slots := 0, locals := 90 }
theorem tb_X6_cut : GoodIn TB ct_X6_cut := tb_good m_810
theorem hd_X6_cut : yX6_cut.cls = RX6 ∧ yX6_cut.cls ≠ "java/lang/invoke/MethodHandle" ∧ yX6_cut.cls ≠ "java/lang/invoke/VarHandle" ∧ (parseMethodDescriptor yX6_cut.desc).map (fun d => d.parameters.length) = some 0 := ⟨rfl, by decide +kernel, by decide +kernel, by decide +kernel⟩
abbrev ct_X6_copy : List Cond := Cond.code yX6_copy cX6_copy 1 (some .int) :: TB
abbrev rm_X6_copy : Room := { frames := 4, cells := 0, slots := 0, locals := 86 }
theorem tb_X6_copy : GoodIn TB ct_X6_copy := tb_good m_818
theorem hd_X6_copy : yX6_copy.cls = RX6 ∧ yX6_copy.cls ≠ "java/lang/invoke/MethodHandle" ∧ yX6_copy.cls ≠ "java/lang/invoke/VarHandle" ∧ (parseMethodDescriptor yX6_copy.desc).map (fun d => d.parameters.length) = some 0 := ⟨rfl, by decide +kernel, by decide +kernel, by decide +kernel⟩
abbrev ct_X6_wrap : List Cond := Cond.code yX6_wrap cX6_wrap 4 (some .int) :: TB
abbrev rm_X6_wrap : Room := { frames := 3, cells := 0, slots := 0, locals := 66 }
theorem tb_X6_wrap : GoodIn TB ct_X6_wrap := tb_good m_822
theorem hd_X6_wrap : yX6_wrap.cls = RX6 ∧ yX6_wrap.cls ≠ "java/lang/invoke/MethodHandle" ∧ yX6_wrap.cls ≠ "java/lang/invoke/VarHandle" ∧ (parseMethodDescriptor yX6_wrap.desc).map (fun d => d.parameters.length) = some 1 := ⟨rfl, by decide +kernel, by decide +kernel, by decide +kernel⟩
abbrev ct_X6_lift : List Cond := Cond.code yX6_lift cX6_lift 5 (some .int) :: TB
abbrev rm_X6_lift : Room := { frames := 4, cells := 0, slots := 0, locals := 90 }
theorem tb_X6_lift : GoodIn TB ct_X6_lift := tb_good m_834
theorem hd_X6_lift : yX6_lift.cls = RX6 ∧ yX6_lift.cls ≠ "java/lang/invoke/MethodHandle" ∧ yX6_lift.cls ≠ "java/lang/invoke/VarHandle" ∧ (parseMethodDescriptor yX6_lift.desc).map (fun d => d.parameters.length) = some 0 := ⟨rfl, by decide +kernel, by decide +kernel, by decide +kernel⟩
abbrev ct_X6_swaps : List Cond := Cond.code yX6_swaps cX6_swaps 6 none :: TB
abbrev rm_X6_swaps : Room := { frames := 2, cells := 0, slots := 0, locals := 43 }
theorem tb_X6_swaps : GoodIn TB ct_X6_swaps := tb_good m_842
theorem hd_X6_swaps : yX6_swaps.cls = RX6 ∧ yX6_swaps.cls ≠ "java/lang/invoke/MethodHandle" ∧ yX6_swaps.cls ≠ "java/lang/invoke/VarHandle" ∧ (parseMethodDescriptor yX6_swaps.desc).map (fun d => d.parameters.length) = some 2 := ⟨rfl, by decide +kernel, by decide +kernel, by decide +kernel⟩
abbrev ct_X6_exchange : List Cond := Cond.code yX6_exchange cX6_exchange 4 (some .int) :: TB
abbrev rm_X6_exchange : Room := { frames := 3, cells := 0, slots := 0, locals := 68 }
theorem tb_X6_exchange : GoodIn TB ct_X6_exchange := tb_good m_838
theorem hd_X6_exchange : yX6_exchange.cls = RX6 ∧ yX6_exchange.cls ≠ "java/lang/invoke/MethodHandle" ∧ yX6_exchange.cls ≠ "java/lang/invoke/VarHandle" ∧ (parseMethodDescriptor yX6_exchange.desc).map (fun d => d.parameters.length) = some 1 := ⟨rfl, by decide +kernel, by decide +kernel, by decide +kernel⟩
abbrev ct_X6_clipHeight : List Cond := Cond.code yX6_clipHeight cX6_clipHeight 3 (some .int) :: TB
abbrev rm_X6_clipHeight : Room := { frames := 0, cells := 0, slots := 0, locals := 0 }
theorem tb_X6_clipHeight : GoodIn TB ct_X6_clipHeight := tb_good m_854
theorem hd_X6_clipHeight : yX6_clipHeight.cls = RX6 ∧ yX6_clipHeight.cls ≠ "java/lang/invoke/MethodHandle" ∧ yX6_clipHeight.cls ≠ "java/lang/invoke/VarHandle" ∧ (parseMethodDescriptor yX6_clipHeight.desc).map (fun d => d.parameters.length) = some 0 := ⟨rfl, by decide +kernel, by decide +kernel, by decide +kernel⟩
abbrev ct_X6_paste : List Cond := Cond.code yX6_paste cX6_paste 6 (some .int) :: TB
abbrev rm_X6_paste : Room := { frames := 3, cells := 0, slots := 0, locals := 67 }
theorem tb_X6_paste : GoodIn TB ct_X6_paste := tb_good m_850
theorem hd_X6_paste : yX6_paste.cls = RX6 ∧ yX6_paste.cls ≠ "java/lang/invoke/MethodHandle" ∧ yX6_paste.cls ≠ "java/lang/invoke/VarHandle" ∧ (parseMethodDescriptor yX6_paste.desc).map (fun d => d.parameters.length) = some 1 := ⟨rfl, by decide +kernel, by decide +kernel, by decide +kernel⟩
abbrev ct_X6_mark : List Cond := Cond.code yX6_mark cX6_mark 3 (some .int) :: TB
abbrev rm_X6_mark : Room := { frames := 2, cells := 0, slots := 0, locals := 44 }
theorem tb_X6_mark : GoodIn TB ct_X6_mark := tb_good m_858
theorem hd_X6_mark : yX6_mark.cls = RX6 ∧ yX6_mark.cls ≠ "java/lang/invoke/MethodHandle" ∧ yX6_mark.cls ≠ "java/lang/invoke/VarHandle" ∧ (parseMethodDescriptor yX6_mark.desc).map (fun d => d.parameters.length) = some 1 := ⟨rfl, by decide +kernel, by decide +kernel, by decide +kernel⟩
abbrev ct_X6_goTo : List Cond := Cond.code yX6_goTo cX6_goTo 3 (some .int) :: TB
abbrev rm_X6_goTo : Room := { frames := 2, cells := 0, slots := 0, locals := 44 }
theorem tb_X6_goTo : GoodIn TB ct_X6_goTo := tb_good m_862
theorem hd_X6_goTo : yX6_goTo.cls = RX6 ∧ yX6_goTo.cls ≠ "java/lang/invoke/MethodHandle" ∧ yX6_goTo.cls ≠ "java/lang/invoke/VarHandle" ∧ (parseMethodDescriptor yX6_goTo.desc).map (fun d => d.parameters.length) = some 1 := ⟨rfl, by decide +kernel, by decide +kernel, by decide +kernel⟩
abbrev ct_X6_orNone : List Cond := Cond.code yX6_orNone cX6_orNone 1 (some .int) :: TB
abbrev rm_X6_orNone : Room := { frames := 0, cells := 0, slots := 0, locals := 0 }
theorem tb_X6_orNone : GoodIn TB ct_X6_orNone := tb_good m_869
theorem hd_X6_orNone : yX6_orNone.cls ≠ "java/lang/invoke/MethodHandle" ∧ yX6_orNone.cls ≠ "java/lang/invoke/VarHandle" ∧ (parseMethodDescriptor yX6_orNone.desc).map (fun d => d.parameters.length) = some 1 := ⟨by decide +kernel, by decide +kernel, by decide +kernel⟩
abbrev ct_X6_marksAt : List Cond := Cond.code yX6_marksAt cX6_marksAt 4 (some .int) :: TB
abbrev rm_X6_marksAt : Room := { frames := 1, cells := 0, slots := 0, locals := 21 }
theorem tb_X6_marksAt : GoodIn TB ct_X6_marksAt := tb_good m_873
theorem hd_X6_marksAt : yX6_marksAt.cls = RX6 ∧ yX6_marksAt.cls ≠ "java/lang/invoke/MethodHandle" ∧ yX6_marksAt.cls ≠ "java/lang/invoke/VarHandle" ∧ (parseMethodDescriptor yX6_marksAt.desc).map (fun d => d.parameters.length) = some 1 := ⟨rfl, by decide +kernel, by decide +kernel, by decide +kernel⟩
abbrev ct_X6_nodeOf : List Cond := Cond.code yX6_nodeOf cX6_nodeOf 3 (some .int) :: TB
abbrev rm_X6_nodeOf : Room := { frames := 3, cells := 0, slots := 0, locals := 66 }
theorem tb_X6_nodeOf : GoodIn TB ct_X6_nodeOf := tb_good m_866
theorem hd_X6_nodeOf : yX6_nodeOf.cls = RX6 ∧ yX6_nodeOf.cls ≠ "java/lang/invoke/MethodHandle" ∧ yX6_nodeOf.cls ≠ "java/lang/invoke/VarHandle" ∧ (parseMethodDescriptor yX6_nodeOf.desc).map (fun d => d.parameters.length) = some 2 := ⟨rfl, by decide +kernel, by decide +kernel, by decide +kernel⟩
abbrev ct_X6_spine : List Cond := Cond.code yX6_spine cX6_spine 4 (some .int) :: TB
abbrev rm_X6_spine : Room := { frames := 3, cells := 0, slots := 0, locals := 66 }
theorem tb_X6_spine : GoodIn TB ct_X6_spine := tb_good m_877
theorem hd_X6_spine : yX6_spine.cls = RX6 ∧ yX6_spine.cls ≠ "java/lang/invoke/MethodHandle" ∧ yX6_spine.cls ≠ "java/lang/invoke/VarHandle" ∧ (parseMethodDescriptor yX6_spine.desc).map (fun d => d.parameters.length) = some 2 := ⟨rfl, by decide +kernel, by decide +kernel, by decide +kernel⟩
abbrev ct_X6_marked : List Cond := Cond.code yX6_marked cX6_marked 2 (some .int) :: TB
abbrev rm_X6_marked : Room := { frames := 2, cells := 0, slots := 0, locals := 44 }
theorem tb_X6_marked : GoodIn TB ct_X6_marked := tb_good m_881
theorem hd_X6_marked : yX6_marked.cls = RX6 ∧ yX6_marked.cls ≠ "java/lang/invoke/MethodHandle" ∧ yX6_marked.cls ≠ "java/lang/invoke/VarHandle" ∧ (parseMethodDescriptor yX6_marked.desc).map (fun d => d.parameters.length) = some 1 := ⟨rfl, by decide +kernel, by decide +kernel, by decide +kernel⟩
abbrev ct_X6_leaves : List Cond := Cond.code yX6_leaves cX6_leaves 3 (some .int) :: TB
abbrev rm_X6_leaves : Room := { frames := 3, cells := 0, slots := 0, locals := 66 }
theorem tb_X6_leaves : GoodIn TB ct_X6_leaves := tb_good m_889
theorem hd_X6_leaves : yX6_leaves.cls = RX6 ∧ yX6_leaves.cls ≠ "java/lang/invoke/MethodHandle" ∧ yX6_leaves.cls ≠ "java/lang/invoke/VarHandle" ∧ (parseMethodDescriptor yX6_leaves.desc).map (fun d => d.parameters.length) = some 0 := ⟨rfl, by decide +kernel, by decide +kernel, by decide +kernel⟩
abbrev ct_X6_unlike : List Cond := Cond.code yX6_unlike cX6_unlike 4 (some .int) :: TB
abbrev rm_X6_unlike : Room := { frames := 1, cells := 0, slots := 0, locals := 21 }
theorem tb_X6_unlike : GoodIn TB ct_X6_unlike := tb_good m_893
theorem hd_X6_unlike : yX6_unlike.cls = RX6 ∧ yX6_unlike.cls ≠ "java/lang/invoke/MethodHandle" ∧ yX6_unlike.cls ≠ "java/lang/invoke/VarHandle" ∧ (parseMethodDescriptor yX6_unlike.desc).map (fun d => d.parameters.length) = some 0 := ⟨rfl, by decide +kernel, by decide +kernel, by decide +kernel⟩
abbrev ct_X6_count : List Cond := Cond.code yX6_count cX6_count 2 (some .int) :: TB
abbrev rm_X6_count : Room := { frames := 4, cells := 0, slots := 0, locals := 88 }
theorem tb_X6_count : GoodIn TB ct_X6_count := tb_good m_885
theorem hd_X6_count : yX6_count.cls = RX6 ∧ yX6_count.cls ≠ "java/lang/invoke/MethodHandle" ∧ yX6_count.cls ≠ "java/lang/invoke/VarHandle" ∧ (parseMethodDescriptor yX6_count.desc).map (fun d => d.parameters.length) = some 1 := ⟨rfl, by decide +kernel, by decide +kernel, by decide +kernel⟩
abbrev ct_X6_areLike : List Cond := Cond.code yX6_areLike cX6_areLike 6 (some .boolean) :: TB
abbrev rm_X6_areLike : Room := { frames := 2, cells := 0, slots := 0, locals := 43 }
theorem tb_X6_areLike : GoodIn TB ct_X6_areLike := tb_good m_901
theorem hd_X6_areLike : yX6_areLike.cls = RX6 ∧ yX6_areLike.cls ≠ "java/lang/invoke/MethodHandle" ∧ yX6_areLike.cls ≠ "java/lang/invoke/VarHandle" ∧ (parseMethodDescriptor yX6_areLike.desc).map (fun d => d.parameters.length) = some 2 := ⟨rfl, by decide +kernel, by decide +kernel, by decide +kernel⟩
abbrev ct_X6_like : List Cond := Cond.code yX6_like cX6_like 4 (some .int) :: TB
abbrev rm_X6_like : Room := { frames := 3, cells := 0, slots := 0, locals := 68 }
theorem tb_X6_like : GoodIn TB ct_X6_like := tb_good m_897
theorem hd_X6_like : yX6_like.cls = RX6 ∧ yX6_like.cls ≠ "java/lang/invoke/MethodHandle" ∧ yX6_like.cls ≠ "java/lang/invoke/VarHandle" ∧ (parseMethodDescriptor yX6_like.desc).map (fun d => d.parameters.length) = some 0 := ⟨rfl, by decide +kernel, by decide +kernel, by decide +kernel⟩
abbrev ct_X6_meet : List Cond := Cond.code yX6_meet cX6_meet 6 (some .int) :: TB
abbrev rm_X6_meet : Room := { frames := 2, cells := 0, slots := 0, locals := 43 }
theorem tb_X6_meet : GoodIn TB ct_X6_meet := tb_good m_905
theorem hd_X6_meet : yX6_meet.cls = RX6 ∧ yX6_meet.cls ≠ "java/lang/invoke/MethodHandle" ∧ yX6_meet.cls ≠ "java/lang/invoke/VarHandle" ∧ (parseMethodDescriptor yX6_meet.desc).map (fun d => d.parameters.length) = some 2 := ⟨rfl, by decide +kernel, by decide +kernel, by decide +kernel⟩
abbrev ct_X6_find : List Cond := Cond.code yX6_find cX6_find 5 (some .int) :: TB
abbrev rm_X6_find : Room := { frames := 3, cells := 0, slots := 0, locals := 64 }
theorem tb_X6_find : GoodIn TB ct_X6_find := tb_good m_909
theorem hd_X6_find : yX6_find.cls = RX6 ∧ yX6_find.cls ≠ "java/lang/invoke/MethodHandle" ∧ yX6_find.cls ≠ "java/lang/invoke/VarHandle" ∧ (parseMethodDescriptor yX6_find.desc).map (fun d => d.parameters.length) = some 1 := ⟨rfl, by decide +kernel, by decide +kernel, by decide +kernel⟩
abbrev ct_X6_undo : List Cond := Cond.code yX6_undo cX6_undo 2 (some .int) :: TB
abbrev rm_X6_undo : Room := { frames := 0, cells := 0, slots := 0, locals := 0 }
theorem tb_X6_undo : GoodIn TB ct_X6_undo := tb_good m_913
theorem hd_X6_undo : yX6_undo.cls = RX6 ∧ yX6_undo.cls ≠ "java/lang/invoke/MethodHandle" ∧ yX6_undo.cls ≠ "java/lang/invoke/VarHandle" ∧ (parseMethodDescriptor yX6_undo.desc).map (fun d => d.parameters.length) = some 0 := ⟨rfl, by decide +kernel, by decide +kernel, by decide +kernel⟩
abbrev ct_X6_type : List Cond := Cond.code yX6_type cX6_type 2 (some .int) :: TB
abbrev rm_X6_type : Room := { frames := 1, cells := 0, slots := 0, locals := 22 }
theorem tb_X6_type : GoodIn TB ct_X6_type := tb_good m_917
theorem hd_X6_type : yX6_type.cls = RX6 ∧ yX6_type.cls ≠ "java/lang/invoke/MethodHandle" ∧ yX6_type.cls ≠ "java/lang/invoke/VarHandle" ∧ (parseMethodDescriptor yX6_type.desc).map (fun d => d.parameters.length) = some 1 := ⟨rfl, by decide +kernel, by decide +kernel, by decide +kernel⟩
abbrev ct_X6_clearText : List Cond := Cond.code yX6_clearText cX6_clearText 2 (some .int) :: TB
abbrev rm_X6_clearText : Room := { frames := 0, cells := 0, slots := 0, locals := 0 }
theorem tb_X6_clearText : GoodIn TB ct_X6_clearText := tb_good m_921
theorem hd_X6_clearText : yX6_clearText.cls = RX6 ∧ yX6_clearText.cls ≠ "java/lang/invoke/MethodHandle" ∧ yX6_clearText.cls ≠ "java/lang/invoke/VarHandle" ∧ (parseMethodDescriptor yX6_clearText.desc).map (fun d => d.parameters.length) = some 0 := ⟨rfl, by decide +kernel, by decide +kernel, by decide +kernel⟩
abbrev ct_X6_puts : List Cond := Cond.code yX6_puts cX6_puts 2 none :: TB
abbrev rm_X6_puts : Room := { frames := 0, cells := 0, slots := 0, locals := 0 }
theorem tb_X6_puts : GoodIn TB ct_X6_puts := tb_good m_929
theorem hd_X6_puts : yX6_puts.cls = RX6 ∧ yX6_puts.cls ≠ "java/lang/invoke/MethodHandle" ∧ yX6_puts.cls ≠ "java/lang/invoke/VarHandle" ∧ (parseMethodDescriptor yX6_puts.desc).map (fun d => d.parameters.length) = some 1 := ⟨rfl, by decide +kernel, by decide +kernel, by decide +kernel⟩
abbrev ct_X6_write : List Cond := Cond.code yX6_write cX6_write 4 (some .int) :: TB
abbrev rm_X6_write : Room := { frames := 1, cells := 0, slots := 0, locals := 21 }
theorem tb_X6_write : GoodIn TB ct_X6_write := tb_good m_925
theorem hd_X6_write : yX6_write.cls = RX6 ∧ yX6_write.cls ≠ "java/lang/invoke/MethodHandle" ∧ yX6_write.cls ≠ "java/lang/invoke/VarHandle" ∧ (parseMethodDescriptor yX6_write.desc).map (fun d => d.parameters.length) = some 0 := ⟨rfl, by decide +kernel, by decide +kernel, by decide +kernel⟩
abbrev ct_X6_breaks : List Cond := Cond.code yX6_breaks cX6_breaks 3 (some .boolean) :: TB
abbrev rm_X6_breaks : Room := { frames := 0, cells := 0, slots := 0, locals := 0 }
theorem tb_X6_breaks : GoodIn TB ct_X6_breaks := tb_good m_941
theorem hd_X6_breaks : yX6_breaks.cls = RX6 ∧ yX6_breaks.cls ≠ "java/lang/invoke/MethodHandle" ∧ yX6_breaks.cls ≠ "java/lang/invoke/VarHandle" ∧ (parseMethodDescriptor yX6_breaks.desc).map (fun d => d.parameters.length) = some 2 := ⟨rfl, by decide +kernel, by decide +kernel, by decide +kernel⟩
abbrev ct_X6_isTree : List Cond := Cond.code yX6_isTree cX6_isTree 5 (some .boolean) :: TB
abbrev rm_X6_isTree : Room := { frames := 1, cells := 0, slots := 0, locals := 22 }
theorem tb_X6_isTree : GoodIn TB ct_X6_isTree := tb_good m_937
theorem hd_X6_isTree : yX6_isTree.cls = RX6 ∧ yX6_isTree.cls ≠ "java/lang/invoke/MethodHandle" ∧ yX6_isTree.cls ≠ "java/lang/invoke/VarHandle" ∧ (parseMethodDescriptor yX6_isTree.desc).map (fun d => d.parameters.length) = some 0 := ⟨rfl, by decide +kernel, by decide +kernel, by decide +kernel⟩
abbrev ct_X6_fault : List Cond := Cond.code yX6_fault cX6_fault 2 (some .int) :: TB
abbrev rm_X6_fault : Room := { frames := 2, cells := 0, slots := 0, locals := 46 }
theorem tb_X6_fault : GoodIn TB ct_X6_fault := tb_good m_933
theorem hd_X6_fault : yX6_fault.cls = RX6 ∧ yX6_fault.cls ≠ "java/lang/invoke/MethodHandle" ∧ yX6_fault.cls ≠ "java/lang/invoke/VarHandle" ∧ (parseMethodDescriptor yX6_fault.desc).map (fun d => d.parameters.length) = some 1 := ⟨rfl, by decide +kernel, by decide +kernel, by decide +kernel⟩
abbrev ct_X6_read : List Cond := Cond.code yX6_read cX6_read 2 (some .int) :: TB
abbrev rm_X6_read : Room := { frames := 2, cells := 0, slots := 0, locals := 46 }
theorem tb_X6_read : GoodIn TB ct_X6_read := tb_good m_945
theorem hd_X6_read : yX6_read.cls = RX6 ∧ yX6_read.cls ≠ "java/lang/invoke/MethodHandle" ∧ yX6_read.cls ≠ "java/lang/invoke/VarHandle" ∧ (parseMethodDescriptor yX6_read.desc).map (fun d => d.parameters.length) = some 0 := ⟨rfl, by decide +kernel, by decide +kernel, by decide +kernel⟩
abbrev ct_X0_init : List Cond := Cond.code yX0_init cX0_init 2 none :: TB
theorem tb_X0_init : GoodIn TB ct_X0_init := tb_good m_146
theorem hd_X0_init : yX0_init.cls = RX0 ∧ yX0_init.cls ≠ "java/lang/invoke/MethodHandle" ∧ yX0_init.cls ≠ "java/lang/invoke/VarHandle" ∧ (parseMethodDescriptor yX0_init.desc).map (fun d => d.parameters.length) = some 0 := ⟨rfl, by decide +kernel, by decide +kernel, by decide +kernel⟩
abbrev ct_X0_size : List Cond := Cond.code yX0_size cX0_size 1 (some .int) :: TB
abbrev rm_X0_size : Room := { frames := 0, cells := 0, slots := 0, locals := 0 }
theorem tb_X0_size : GoodIn TB ct_X0_size := tb_good m_540
theorem hd_X0_size : yX0_size.cls = RX0 ∧ yX0_size.cls ≠ "java/lang/invoke/MethodHandle" ∧ yX0_size.cls ≠ "java/lang/invoke/VarHandle" ∧ (parseMethodDescriptor yX0_size.desc).map (fun d => d.parameters.length) = some 0 := ⟨rfl, by decide +kernel, by decide +kernel, by decide +kernel⟩
abbrev ct_X0_keep : List Cond := Cond.code yX0_keep cX0_keep 3 none :: TB
abbrev rm_X0_keep : Room := { frames := 4, cells := 0, slots := 0, locals := 85 }
theorem tb_X0_keep : GoodIn TB ct_X0_keep := tb_good m_257
theorem hd_X0_keep : yX0_keep.cls = RX0 ∧ yX0_keep.cls ≠ "java/lang/invoke/MethodHandle" ∧ yX0_keep.cls ≠ "java/lang/invoke/VarHandle" ∧ (parseMethodDescriptor yX0_keep.desc).map (fun d => d.parameters.length) = some 1 := ⟨rfl, by decide +kernel, by decide +kernel, by decide +kernel⟩
abbrev ct_X0_restore : List Cond := Cond.code yX0_restore cX0_restore 3 none :: TB
abbrev rm_X0_restore : Room := { frames := 4, cells := 0, slots := 0, locals := 85 }
theorem tb_X0_restore : GoodIn TB ct_X0_restore := tb_good m_574
theorem hd_X0_restore : yX0_restore.cls = RX0 ∧ yX0_restore.cls ≠ "java/lang/invoke/MethodHandle" ∧ yX0_restore.cls ≠ "java/lang/invoke/VarHandle" ∧ (parseMethodDescriptor yX0_restore.desc).map (fun d => d.parameters.length) = some 1 := ⟨rfl, by decide +kernel, by decide +kernel, by decide +kernel⟩
abbrev ct_X0_slotAt : List Cond := Cond.code yX0_slotAt cX0_slotAt 3 (some (.object RX3)) :: TB
abbrev rm_X0_slotAt : Room := { frames := 0, cells := 0, slots := 0, locals := 0 }
theorem tb_X0_slotAt : GoodIn TB ct_X0_slotAt := tb_good m_261
theorem hd_X0_slotAt : yX0_slotAt.cls = RX0 ∧ yX0_slotAt.cls ≠ "java/lang/invoke/MethodHandle" ∧ yX0_slotAt.cls ≠ "java/lang/invoke/VarHandle" ∧ (parseMethodDescriptor yX0_slotAt.desc).map (fun d => d.parameters.length) = some 1 := ⟨rfl, by decide +kernel, by decide +kernel, by decide +kernel⟩
abbrev ct_X1_init : List Cond := Cond.code yX1_init cX1_init 2 none :: TB
theorem tb_X1_init : GoodIn TB ct_X1_init := tb_good m_78
theorem hd_X1_init : yX1_init.cls = RX1 ∧ yX1_init.cls ≠ "java/lang/invoke/MethodHandle" ∧ yX1_init.cls ≠ "java/lang/invoke/VarHandle" ∧ (parseMethodDescriptor yX1_init.desc).map (fun d => d.parameters.length) = some 1 := ⟨rfl, by decide +kernel, by decide +kernel, by decide +kernel⟩
abbrev ct_X1_size : List Cond := Cond.code yX1_size cX1_size 1 (some .int) :: TB
abbrev rm_X1_size : Room := { frames := 0, cells := 0, slots := 0, locals := 0 }
theorem tb_X1_size : GoodIn TB ct_X1_size := tb_good m_237
theorem hd_X1_size : yX1_size.cls = RX1 ∧ yX1_size.cls ≠ "java/lang/invoke/MethodHandle" ∧ yX1_size.cls ≠ "java/lang/invoke/VarHandle" ∧ (parseMethodDescriptor yX1_size.desc).map (fun d => d.parameters.length) = some 0 := ⟨rfl, by decide +kernel, by decide +kernel, by decide +kernel⟩
abbrev ct_X1_at : List Cond := Cond.code yX1_at cX1_at 2 (some .int) :: TB
abbrev rm_X1_at : Room := { frames := 0, cells := 0, slots := 0, locals := 0 }
theorem tb_X1_at : GoodIn TB ct_X1_at := tb_good m_241
theorem hd_X1_at : yX1_at.cls = RX1 ∧ yX1_at.cls ≠ "java/lang/invoke/MethodHandle" ∧ yX1_at.cls ≠ "java/lang/invoke/VarHandle" ∧ (parseMethodDescriptor yX1_at.desc).map (fun d => d.parameters.length) = some 1 := ⟨rfl, by decide +kernel, by decide +kernel, by decide +kernel⟩
abbrev ct_X1_put : List Cond := Cond.code yX1_put cX1_put 3 none :: TB
abbrev rm_X1_put : Room := { frames := 0, cells := 0, slots := 0, locals := 0 }
theorem tb_X1_put : GoodIn TB ct_X1_put := tb_good m_291
theorem hd_X1_put : yX1_put.cls = RX1 ∧ yX1_put.cls ≠ "java/lang/invoke/MethodHandle" ∧ yX1_put.cls ≠ "java/lang/invoke/VarHandle" ∧ (parseMethodDescriptor yX1_put.desc).map (fun d => d.parameters.length) = some 2 := ⟨rfl, by decide +kernel, by decide +kernel, by decide +kernel⟩
abbrev ct_X1_add : List Cond := Cond.code yX1_add cX1_add 2 none :: TB
abbrev rm_X1_add : Room := { frames := 1, cells := 0, slots := 0, locals := 23 }
theorem tb_X1_add : GoodIn TB ct_X1_add := tb_good m_111
theorem hd_X1_add : yX1_add.cls = RX1 ∧ yX1_add.cls ≠ "java/lang/invoke/MethodHandle" ∧ yX1_add.cls ≠ "java/lang/invoke/VarHandle" ∧ (parseMethodDescriptor yX1_add.desc).map (fun d => d.parameters.length) = some 1 := ⟨rfl, by decide +kernel, by decide +kernel, by decide +kernel⟩
abbrev ct_X1_putIn : List Cond := Cond.code yX1_putIn cX1_putIn 4 none :: TB
abbrev rm_X1_putIn : Room := { frames := 0, cells := 0, slots := 0, locals := 0 }
theorem tb_X1_putIn : GoodIn TB ct_X1_putIn := tb_good m_115
theorem hd_X1_putIn : yX1_putIn.cls = RX1 ∧ yX1_putIn.cls ≠ "java/lang/invoke/MethodHandle" ∧ yX1_putIn.cls ≠ "java/lang/invoke/VarHandle" ∧ (parseMethodDescriptor yX1_putIn.desc).map (fun d => d.parameters.length) = some 2 := ⟨rfl, by decide +kernel, by decide +kernel, by decide +kernel⟩
abbrev ct_X1_takeOut : List Cond := Cond.code yX1_takeOut cX1_takeOut 4 none :: TB
abbrev rm_X1_takeOut : Room := { frames := 1, cells := 0, slots := 0, locals := 22 }
theorem tb_X1_takeOut : GoodIn TB ct_X1_takeOut := tb_good m_286
theorem hd_X1_takeOut : yX1_takeOut.cls = RX1 ∧ yX1_takeOut.cls ≠ "java/lang/invoke/MethodHandle" ∧ yX1_takeOut.cls ≠ "java/lang/invoke/VarHandle" ∧ (parseMethodDescriptor yX1_takeOut.desc).map (fun d => d.parameters.length) = some 2 := ⟨rfl, by decide +kernel, by decide +kernel, by decide +kernel⟩
abbrev ct_X1_turnAbout : List Cond := Cond.code yX1_turnAbout cX1_turnAbout 6 none :: TB
abbrev rm_X1_turnAbout : Room := { frames := 1, cells := 0, slots := 0, locals := 22 }
theorem tb_X1_turnAbout : GoodIn TB ct_X1_turnAbout := tb_good m_449
theorem hd_X1_turnAbout : yX1_turnAbout.cls = RX1 ∧ yX1_turnAbout.cls ≠ "java/lang/invoke/MethodHandle" ∧ yX1_turnAbout.cls ≠ "java/lang/invoke/VarHandle" ∧ (parseMethodDescriptor yX1_turnAbout.desc).map (fun d => d.parameters.length) = some 2 := ⟨rfl, by decide +kernel, by decide +kernel, by decide +kernel⟩
abbrev ct_X1_exchangeRuns : List Cond := Cond.code yX1_exchangeRuns cX1_exchangeRuns 4 none :: TB
abbrev rm_X1_exchangeRuns : Room := { frames := 2, cells := 0, slots := 0, locals := 47 }
theorem tb_X1_exchangeRuns : GoodIn TB ct_X1_exchangeRuns := tb_good m_445
theorem hd_X1_exchangeRuns : yX1_exchangeRuns.cls = RX1 ∧ yX1_exchangeRuns.cls ≠ "java/lang/invoke/MethodHandle" ∧ yX1_exchangeRuns.cls ≠ "java/lang/invoke/VarHandle" ∧ (parseMethodDescriptor yX1_exchangeRuns.desc).map (fun d => d.parameters.length) = some 3 := ⟨rfl, by decide +kernel, by decide +kernel, by decide +kernel⟩
abbrev ct_X1_clear : List Cond := Cond.code yX1_clear cX1_clear 1 none :: TB
abbrev rm_X1_clear : Room := { frames := 0, cells := 0, slots := 0, locals := 0 }
theorem tb_X1_clear : GoodIn TB ct_X1_clear := tb_good m_107
theorem hd_X1_clear : yX1_clear.cls = RX1 ∧ yX1_clear.cls ≠ "java/lang/invoke/MethodHandle" ∧ yX1_clear.cls ≠ "java/lang/invoke/VarHandle" ∧ (parseMethodDescriptor yX1_clear.desc).map (fun d => d.parameters.length) = some 0 := ⟨rfl, by decide +kernel, by decide +kernel, by decide +kernel⟩
abbrev ct_X1_takeFrom : List Cond := Cond.code yX1_takeFrom cX1_takeFrom 3 none :: TB
abbrev rm_X1_takeFrom : Room := { frames := 1, cells := 0, slots := 0, locals := 21 }
theorem tb_X1_takeFrom : GoodIn TB ct_X1_takeFrom := tb_good m_273
theorem hd_X1_takeFrom : yX1_takeFrom.cls = RX1 ∧ yX1_takeFrom.cls ≠ "java/lang/invoke/MethodHandle" ∧ yX1_takeFrom.cls ≠ "java/lang/invoke/VarHandle" ∧ (parseMethodDescriptor yX1_takeFrom.desc).map (fun d => d.parameters.length) = some 1 := ⟨rfl, by decide +kernel, by decide +kernel, by decide +kernel⟩
abbrev ct_X2_init : List Cond := Cond.code yX2_init cX2_init 1 none :: TB
theorem tb_X2_init : GoodIn TB ct_X2_init := tb_good m_167
theorem hd_X2_init : yX2_init.cls = RX2 ∧ yX2_init.cls ≠ "java/lang/invoke/MethodHandle" ∧ yX2_init.cls ≠ "java/lang/invoke/VarHandle" ∧ (parseMethodDescriptor yX2_init.desc).map (fun d => d.parameters.length) = some 0 := ⟨rfl, by decide +kernel, by decide +kernel, by decide +kernel⟩
abbrev ct_X2_passOver : List Cond := Cond.code yX2_passOver cX2_passOver 3 none :: TB
abbrev rm_X2_passOver : Room := { frames := 4, cells := 0, slots := 0, locals := 89 }
theorem tb_X2_passOver : GoodIn TB ct_X2_passOver := tb_good m_604
theorem hd_X2_passOver : yX2_passOver.cls = RX2 ∧ yX2_passOver.cls ≠ "java/lang/invoke/MethodHandle" ∧ yX2_passOver.cls ≠ "java/lang/invoke/VarHandle" ∧ (parseMethodDescriptor yX2_passOver.desc).map (fun d => d.parameters.length) = some 1 := ⟨rfl, by decide +kernel, by decide +kernel, by decide +kernel⟩
abbrev ct_X2_reasonAgainst : List Cond := Cond.code yX2_reasonAgainst cX2_reasonAgainst 2 (some .int) :: TB
abbrev rm_X2_reasonAgainst : Room := { frames := 3, cells := 0, slots := 0, locals := 68 }
theorem tb_X2_reasonAgainst : GoodIn TB ct_X2_reasonAgainst := tb_good m_612
theorem hd_X2_reasonAgainst : yX2_reasonAgainst.cls = RX2 ∧ yX2_reasonAgainst.cls ≠ "java/lang/invoke/MethodHandle" ∧ yX2_reasonAgainst.cls ≠ "java/lang/invoke/VarHandle" ∧ (parseMethodDescriptor yX2_reasonAgainst.desc).map (fun d => d.parameters.length) = some 1 := ⟨rfl, by decide +kernel, by decide +kernel, by decide +kernel⟩
abbrev ct_X2_passLetter : List Cond := Cond.code yX2_passLetter cX2_passLetter 3 (some .int) :: TB
abbrev rm_X2_passLetter : Room := { frames := 2, cells := 0, slots := 0, locals := 46 }
theorem tb_X2_passLetter : GoodIn TB ct_X2_passLetter := tb_good m_616
theorem hd_X2_passLetter : yX2_passLetter.cls = RX2 ∧ yX2_passLetter.cls ≠ "java/lang/invoke/MethodHandle" ∧ yX2_passLetter.cls ≠ "java/lang/invoke/VarHandle" ∧ (parseMethodDescriptor yX2_passLetter.desc).map (fun d => d.parameters.length) = some 1 := ⟨rfl, by decide +kernel, by decide +kernel, by decide +kernel⟩
abbrev ct_X2_passOpening : List Cond := Cond.code yX2_passOpening cX2_passOpening 1 (some .int) :: TB
abbrev rm_X2_passOpening : Room := { frames := 2, cells := 0, slots := 0, locals := 44 }
theorem tb_X2_passOpening : GoodIn TB ct_X2_passOpening := tb_good m_624
theorem hd_X2_passOpening : yX2_passOpening.cls = RX2 ∧ yX2_passOpening.cls ≠ "java/lang/invoke/MethodHandle" ∧ yX2_passOpening.cls ≠ "java/lang/invoke/VarHandle" ∧ (parseMethodDescriptor yX2_passOpening.desc).map (fun d => d.parameters.length) = some 0 := ⟨rfl, by decide +kernel, by decide +kernel, by decide +kernel⟩
abbrev ct_X2_passComma : List Cond := Cond.code yX2_passComma cX2_passComma 1 (some .int) :: TB
abbrev rm_X2_passComma : Room := { frames := 1, cells := 0, slots := 0, locals := 21 }
theorem tb_X2_passComma : GoodIn TB ct_X2_passComma := tb_good m_629
theorem hd_X2_passComma : yX2_passComma.cls = RX2 ∧ yX2_passComma.cls ≠ "java/lang/invoke/MethodHandle" ∧ yX2_passComma.cls ≠ "java/lang/invoke/VarHandle" ∧ (parseMethodDescriptor yX2_passComma.desc).map (fun d => d.parameters.length) = some 0 := ⟨rfl, by decide +kernel, by decide +kernel, by decide +kernel⟩
abbrev ct_X2_passClosing : List Cond := Cond.code yX2_passClosing cX2_passClosing 1 (some .int) :: TB
abbrev rm_X2_passClosing : Room := { frames := 2, cells := 0, slots := 0, locals := 45 }
theorem tb_X2_passClosing : GoodIn TB ct_X2_passClosing := tb_good m_633
theorem hd_X2_passClosing : yX2_passClosing.cls = RX2 ∧ yX2_passClosing.cls ≠ "java/lang/invoke/MethodHandle" ∧ yX2_passClosing.cls ≠ "java/lang/invoke/VarHandle" ∧ (parseMethodDescriptor yX2_passClosing.desc).map (fun d => d.parameters.length) = some 0 := ⟨rfl, by decide +kernel, by decide +kernel, by decide +kernel⟩
abbrev ct_X3_init : List Cond := Cond.code yX3_init cX3_init 1 none :: TB
theorem tb_X3_init : GoodIn TB ct_X3_init := tb_good m_66
theorem hd_X3_init : yX3_init.cls = RX3 ∧ yX3_init.cls ≠ "java/lang/invoke/MethodHandle" ∧ yX3_init.cls ≠ "java/lang/invoke/VarHandle" ∧ (parseMethodDescriptor yX3_init.desc).map (fun d => d.parameters.length) = some 0 := ⟨rfl, by decide +kernel, by decide +kernel, by decide +kernel⟩
abbrev ct_X3_takeFrom : List Cond := Cond.code yX3_takeFrom cX3_takeFrom 2 none :: TB
abbrev rm_X3_takeFrom : Room := { frames := 3, cells := 0, slots := 0, locals := 64 }
theorem tb_X3_takeFrom : GoodIn TB ct_X3_takeFrom := tb_good m_265
theorem hd_X3_takeFrom : yX3_takeFrom.cls = RX3 ∧ yX3_takeFrom.cls ≠ "java/lang/invoke/MethodHandle" ∧ yX3_takeFrom.cls ≠ "java/lang/invoke/VarHandle" ∧ (parseMethodDescriptor yX3_takeFrom.desc).map (fun d => d.parameters.length) = some 1 := ⟨rfl, by decide +kernel, by decide +kernel, by decide +kernel⟩
abbrev ct_X3_beginWith : List Cond := Cond.code yX3_beginWith cX3_beginWith 2 none :: TB
abbrev rm_X3_beginWith : Room := { frames := 4, cells := 0, slots := 0, locals := 94 }
theorem tb_X3_beginWith : GoodIn TB ct_X3_beginWith := tb_good m_642
theorem hd_X3_beginWith : yX3_beginWith.cls = RX3 ∧ yX3_beginWith.cls ≠ "java/lang/invoke/MethodHandle" ∧ yX3_beginWith.cls ≠ "java/lang/invoke/VarHandle" ∧ (parseMethodDescriptor yX3_beginWith.desc).map (fun d => d.parameters.length) = some 1 := ⟨rfl, by decide +kernel, by decide +kernel, by decide +kernel⟩
abbrev ct_X3_clearMarks : List Cond := Cond.code yX3_clearMarks cX3_clearMarks 2 none :: TB
abbrev rm_X3_clearMarks : Room := { frames := 2, cells := 0, slots := 0, locals := 44 }
theorem tb_X3_clearMarks : GoodIn TB ct_X3_clearMarks := tb_good m_103
theorem hd_X3_clearMarks : yX3_clearMarks.cls = RX3 ∧ yX3_clearMarks.cls ≠ "java/lang/invoke/MethodHandle" ∧ yX3_clearMarks.cls ≠ "java/lang/invoke/VarHandle" ∧ (parseMethodDescriptor yX3_clearMarks.desc).map (fun d => d.parameters.length) = some 0 := ⟨rfl, by decide +kernel, by decide +kernel, by decide +kernel⟩
abbrev ct_X3_putNodeIn : List Cond := Cond.code yX3_putNodeIn cX3_putNodeIn 4 none :: TB
abbrev rm_X3_putNodeIn : Room := { frames := 2, cells := 0, slots := 0, locals := 46 }
theorem tb_X3_putNodeIn : GoodIn TB ct_X3_putNodeIn := tb_good m_198
theorem hd_X3_putNodeIn : yX3_putNodeIn.cls = RX3 ∧ yX3_putNodeIn.cls ≠ "java/lang/invoke/MethodHandle" ∧ yX3_putNodeIn.cls ≠ "java/lang/invoke/VarHandle" ∧ (parseMethodDescriptor yX3_putNodeIn.desc).map (fun d => d.parameters.length) = some 3 := ⟨rfl, by decide +kernel, by decide +kernel, by decide +kernel⟩
abbrev ct_X3_putTreeIn : List Cond := Cond.code yX3_putTreeIn cX3_putTreeIn 6 none :: TB
abbrev rm_X3_putTreeIn : Room := { frames := 3, cells := 0, slots := 0, locals := 69 }
theorem tb_X3_putTreeIn : GoodIn TB ct_X3_putTreeIn := tb_good m_482
theorem hd_X3_putTreeIn : yX3_putTreeIn.cls = RX3 ∧ yX3_putTreeIn.cls ≠ "java/lang/invoke/MethodHandle" ∧ yX3_putTreeIn.cls ≠ "java/lang/invoke/VarHandle" ∧ (parseMethodDescriptor yX3_putTreeIn.desc).map (fun d => d.parameters.length) = some 3 := ⟨rfl, by decide +kernel, by decide +kernel, by decide +kernel⟩
abbrev ct_X3_takeNodesOut : List Cond := Cond.code yX3_takeNodesOut cX3_takeNodesOut 3 none :: TB
abbrev rm_X3_takeNodesOut : Room := { frames := 3, cells := 0, slots := 0, locals := 67 }
theorem tb_X3_takeNodesOut : GoodIn TB ct_X3_takeNodesOut := tb_good m_404
theorem hd_X3_takeNodesOut : yX3_takeNodesOut.cls = RX3 ∧ yX3_takeNodesOut.cls ≠ "java/lang/invoke/MethodHandle" ∧ yX3_takeNodesOut.cls ≠ "java/lang/invoke/VarHandle" ∧ (parseMethodDescriptor yX3_takeNodesOut.desc).map (fun d => d.parameters.length) = some 2 := ⟨rfl, by decide +kernel, by decide +kernel, by decide +kernel⟩
abbrev ct_X3_takePlaceOut : List Cond := Cond.code yX3_takePlaceOut cX3_takePlaceOut 3 (some .int) :: TB
abbrev rm_X3_takePlaceOut : Room := { frames := 5, cells := 0, slots := 0, locals := 108 }
theorem tb_X3_takePlaceOut : GoodIn TB ct_X3_takePlaceOut := tb_good m_393
theorem hd_X3_takePlaceOut : yX3_takePlaceOut.cls = RX3 ∧ yX3_takePlaceOut.cls ≠ "java/lang/invoke/MethodHandle" ∧ yX3_takePlaceOut.cls ≠ "java/lang/invoke/VarHandle" ∧ (parseMethodDescriptor yX3_takePlaceOut.desc).map (fun d => d.parameters.length) = some 0 := ⟨rfl, by decide +kernel, by decide +kernel, by decide +kernel⟩
abbrev ct_X3_placeWithoutPart : List Cond := Cond.code yX3_placeWithoutPart cX3_placeWithoutPart 2 (some .int) :: TB
abbrev rm_X3_placeWithoutPart : Room := { frames := 4, cells := 0, slots := 0, locals := 87 }
theorem tb_X3_placeWithoutPart : GoodIn TB ct_X3_placeWithoutPart := tb_good m_398
theorem hd_X3_placeWithoutPart : yX3_placeWithoutPart.cls = RX3 ∧ yX3_placeWithoutPart.cls ≠ "java/lang/invoke/MethodHandle" ∧ yX3_placeWithoutPart.cls ≠ "java/lang/invoke/VarHandle" ∧ (parseMethodDescriptor yX3_placeWithoutPart.desc).map (fun d => d.parameters.length) = some 0 := ⟨rfl, by decide +kernel, by decide +kernel, by decide +kernel⟩
abbrev ct_X3_exchangeRuns : List Cond := Cond.code yX3_exchangeRuns cX3_exchangeRuns 4 none :: TB
abbrev rm_X3_exchangeRuns : Room := { frames := 4, cells := 0, slots := 0, locals := 93 }
theorem tb_X3_exchangeRuns : GoodIn TB ct_X3_exchangeRuns := tb_good m_437
theorem hd_X3_exchangeRuns : yX3_exchangeRuns.cls = RX3 ∧ yX3_exchangeRuns.cls ≠ "java/lang/invoke/MethodHandle" ∧ yX3_exchangeRuns.cls ≠ "java/lang/invoke/VarHandle" ∧ (parseMethodDescriptor yX3_exchangeRuns.desc).map (fun d => d.parameters.length) = some 3 := ⟨rfl, by decide +kernel, by decide +kernel, by decide +kernel⟩
abbrev ct_X3_numberOfKey : List Cond := Cond.code yX3_numberOfKey cX3_numberOfKey 3 (some .int) :: TB
abbrev rm_X3_numberOfKey : Room := { frames := 1, cells := 0, slots := 0, locals := 21 }
theorem tb_X3_numberOfKey : GoodIn TB ct_X3_numberOfKey := tb_good m_352
theorem hd_X3_numberOfKey : yX3_numberOfKey.cls = RX3 ∧ yX3_numberOfKey.cls ≠ "java/lang/invoke/MethodHandle" ∧ yX3_numberOfKey.cls ≠ "java/lang/invoke/VarHandle" ∧ (parseMethodDescriptor yX3_numberOfKey.desc).map (fun d => d.parameters.length) = some 1 := ⟨rfl, by decide +kernel, by decide +kernel, by decide +kernel⟩
abbrev ct_X3_walkTo : List Cond := Cond.code yX3_walkTo cX3_walkTo 2 none :: TB
abbrev rm_X3_walkTo : Room := { frames := 2, cells := 0, slots := 0, locals := 45 }
theorem tb_X3_walkTo : GoodIn TB ct_X3_walkTo := tb_good m_281
theorem hd_X3_walkTo : yX3_walkTo.cls = RX3 ∧ yX3_walkTo.cls ≠ "java/lang/invoke/MethodHandle" ∧ yX3_walkTo.cls ≠ "java/lang/invoke/VarHandle" ∧ (parseMethodDescriptor yX3_walkTo.desc).map (fun d => d.parameters.length) = some 1 := ⟨rfl, by decide +kernel, by decide +kernel, by decide +kernel⟩
abbrev ct_X3_lastWalk : List Cond := Cond.code yX3_lastWalk cX3_lastWalk 3 (some .int) :: TB
abbrev rm_X3_lastWalk : Room := { frames := 2, cells := 0, slots := 0, locals := 43 }
theorem tb_X3_lastWalk : GoodIn TB ct_X3_lastWalk := tb_good m_348
theorem hd_X3_lastWalk : yX3_lastWalk.cls = RX3 ∧ yX3_lastWalk.cls ≠ "java/lang/invoke/MethodHandle" ∧ yX3_lastWalk.cls ≠ "java/lang/invoke/VarHandle" ∧ (parseMethodDescriptor yX3_lastWalk.desc).map (fun d => d.parameters.length) = some 0 := ⟨rfl, by decide +kernel, by decide +kernel, by decide +kernel⟩
abbrev ct_X3_takeWalksBack : List Cond := Cond.code yX3_takeWalksBack cX3_takeWalksBack 2 none :: TB
abbrev rm_X3_takeWalksBack : Room := { frames := 2, cells := 0, slots := 0, locals := 45 }
theorem tb_X3_takeWalksBack : GoodIn TB ct_X3_takeWalksBack := tb_good m_356
theorem hd_X3_takeWalksBack : yX3_takeWalksBack.cls = RX3 ∧ yX3_takeWalksBack.cls ≠ "java/lang/invoke/MethodHandle" ∧ yX3_takeWalksBack.cls ≠ "java/lang/invoke/VarHandle" ∧ (parseMethodDescriptor yX3_takeWalksBack.desc).map (fun d => d.parameters.length) = some 1 := ⟨rfl, by decide +kernel, by decide +kernel, by decide +kernel⟩
abbrev ct_X3_numberOfMark : List Cond := Cond.code yX3_numberOfMark cX3_numberOfMark 2 (some .int) :: TB
abbrev rm_X3_numberOfMark : Room := { frames := 2, cells := 0, slots := 0, locals := 43 }
theorem tb_X3_numberOfMark : GoodIn TB ct_X3_numberOfMark := tb_good m_497
theorem hd_X3_numberOfMark : yX3_numberOfMark.cls = RX3 ∧ yX3_numberOfMark.cls ≠ "java/lang/invoke/MethodHandle" ∧ yX3_numberOfMark.cls ≠ "java/lang/invoke/VarHandle" ∧ (parseMethodDescriptor yX3_numberOfMark.desc).map (fun d => d.parameters.length) = some 1 := ⟨rfl, by decide +kernel, by decide +kernel, by decide +kernel⟩
abbrev ct_X3_putMarkAtPlace : List Cond := Cond.code yX3_putMarkAtPlace cX3_putMarkAtPlace 2 none :: TB
abbrev rm_X3_putMarkAtPlace : Room := { frames := 1, cells := 0, slots := 0, locals := 22 }
theorem tb_X3_putMarkAtPlace : GoodIn TB ct_X3_putMarkAtPlace := tb_good m_501
theorem hd_X3_putMarkAtPlace : yX3_putMarkAtPlace.cls = RX3 ∧ yX3_putMarkAtPlace.cls ≠ "java/lang/invoke/MethodHandle" ∧ yX3_putMarkAtPlace.cls ≠ "java/lang/invoke/VarHandle" ∧ (parseMethodDescriptor yX3_putMarkAtPlace.desc).map (fun d => d.parameters.length) = some 1 := ⟨rfl, by decide +kernel, by decide +kernel, by decide +kernel⟩
abbrev ct_X3_marksAt : List Cond := Cond.code yX3_marksAt cX3_marksAt 4 (some .int) :: TB
abbrev rm_X3_marksAt : Room := { frames := 3, cells := 0, slots := 0, locals := 64 }
theorem tb_X3_marksAt : GoodIn TB ct_X3_marksAt := tb_good m_517
theorem hd_X3_marksAt : yX3_marksAt.cls = RX3 ∧ yX3_marksAt.cls ≠ "java/lang/invoke/MethodHandle" ∧ yX3_marksAt.cls ≠ "java/lang/invoke/VarHandle" ∧ (parseMethodDescriptor yX3_marksAt.desc).map (fun d => d.parameters.length) = some 1 := ⟨rfl, by decide +kernel, by decide +kernel, by decide +kernel⟩
abbrev ct_X4_init : List Cond := Cond.code yX4_init cX4_init 1 none :: TB
theorem tb_X4_init : GoodIn TB ct_X4_init := tb_good m_72
theorem hd_X4_init : yX4_init.cls = RX4 ∧ yX4_init.cls ≠ "java/lang/invoke/MethodHandle" ∧ yX4_init.cls ≠ "java/lang/invoke/VarHandle" ∧ (parseMethodDescriptor yX4_init.desc).map (fun d => d.parameters.length) = some 0 := ⟨rfl, by decide +kernel, by decide +kernel, by decide +kernel⟩
abbrev ct_X4_size : List Cond := Cond.code yX4_size cX4_size 1 (some .int) :: TB
abbrev rm_X4_size : Room := { frames := 1, cells := 0, slots := 0, locals := 20 }
theorem tb_X4_size : GoodIn TB ct_X4_size := tb_good m_335
theorem hd_X4_size : yX4_size.cls = RX4 ∧ yX4_size.cls ≠ "java/lang/invoke/MethodHandle" ∧ yX4_size.cls ≠ "java/lang/invoke/VarHandle" ∧ (parseMethodDescriptor yX4_size.desc).map (fun d => d.parameters.length) = some 0 := ⟨rfl, by decide +kernel, by decide +kernel, by decide +kernel⟩
abbrev ct_X4_has : List Cond := Cond.code yX4_has cX4_has 2 (some .boolean) :: TB
abbrev rm_X4_has : Room := { frames := 2, cells := 0, slots := 0, locals := 40 }
theorem tb_X4_has : GoodIn TB ct_X4_has := tb_good m_331
theorem hd_X4_has : yX4_has.cls = RX4 ∧ yX4_has.cls ≠ "java/lang/invoke/MethodHandle" ∧ yX4_has.cls ≠ "java/lang/invoke/VarHandle" ∧ (parseMethodDescriptor yX4_has.desc).map (fun d => d.parameters.length) = some 1 := ⟨rfl, by decide +kernel, by decide +kernel, by decide +kernel⟩
abbrev ct_X4_letterOf : List Cond := Cond.code yX4_letterOf cX4_letterOf 2 (some .int) :: TB
abbrev rm_X4_letterOf : Room := { frames := 1, cells := 0, slots := 0, locals := 21 }
theorem tb_X4_letterOf : GoodIn TB ct_X4_letterOf := tb_good m_368
theorem hd_X4_letterOf : yX4_letterOf.cls = RX4 ∧ yX4_letterOf.cls ≠ "java/lang/invoke/MethodHandle" ∧ yX4_letterOf.cls ≠ "java/lang/invoke/VarHandle" ∧ (parseMethodDescriptor yX4_letterOf.desc).map (fun d => d.parameters.length) = some 1 := ⟨rfl, by decide +kernel, by decide +kernel, by decide +kernel⟩
abbrev ct_X4_setLetter : List Cond := Cond.code yX4_setLetter cX4_setLetter 3 none :: TB
abbrev rm_X4_setLetter : Room := { frames := 1, cells := 0, slots := 0, locals := 22 }
theorem tb_X4_setLetter : GoodIn TB ct_X4_setLetter := tb_good m_372
theorem hd_X4_setLetter : yX4_setLetter.cls = RX4 ∧ yX4_setLetter.cls ≠ "java/lang/invoke/MethodHandle" ∧ yX4_setLetter.cls ≠ "java/lang/invoke/VarHandle" ∧ (parseMethodDescriptor yX4_setLetter.desc).map (fun d => d.parameters.length) = some 2 := ⟨rfl, by decide +kernel, by decide +kernel, by decide +kernel⟩
abbrev ct_X4_depthOf : List Cond := Cond.code yX4_depthOf cX4_depthOf 2 (some .int) :: TB
abbrev rm_X4_depthOf : Room := { frames := 1, cells := 0, slots := 0, locals := 21 }
theorem tb_X4_depthOf : GoodIn TB ct_X4_depthOf := tb_good m_245
theorem hd_X4_depthOf : yX4_depthOf.cls = RX4 ∧ yX4_depthOf.cls ≠ "java/lang/invoke/MethodHandle" ∧ yX4_depthOf.cls ≠ "java/lang/invoke/VarHandle" ∧ (parseMethodDescriptor yX4_depthOf.desc).map (fun d => d.parameters.length) = some 1 := ⟨rfl, by decide +kernel, by decide +kernel, by decide +kernel⟩
abbrev ct_X4_endOf : List Cond := Cond.code yX4_endOf cX4_endOf 3 (some .int) :: TB
abbrev rm_X4_endOf : Room := { frames := 1, cells := 0, slots := 0, locals := 21 }
theorem tb_X4_endOf : GoodIn TB ct_X4_endOf := tb_good m_233
theorem hd_X4_endOf : yX4_endOf.cls = RX4 ∧ yX4_endOf.cls ≠ "java/lang/invoke/MethodHandle" ∧ yX4_endOf.cls ≠ "java/lang/invoke/VarHandle" ∧ (parseMethodDescriptor yX4_endOf.desc).map (fun d => d.parameters.length) = some 1 := ⟨rfl, by decide +kernel, by decide +kernel, by decide +kernel⟩
abbrev ct_X4_onSpine : List Cond := Cond.code yX4_onSpine cX4_onSpine 4 (some .int) :: TB
abbrev rm_X4_onSpine : Room := { frames := 2, cells := 0, slots := 0, locals := 42 }
theorem tb_X4_onSpine : GoodIn TB ct_X4_onSpine := tb_good m_304
theorem hd_X4_onSpine : yX4_onSpine.cls = RX4 ∧ yX4_onSpine.cls ≠ "java/lang/invoke/MethodHandle" ∧ yX4_onSpine.cls ≠ "java/lang/invoke/VarHandle" ∧ (parseMethodDescriptor yX4_onSpine.desc).map (fun d => d.parameters.length) = some 2 := ⟨rfl, by decide +kernel, by decide +kernel, by decide +kernel⟩
abbrev ct_X4_above : List Cond := Cond.code yX4_above cX4_above 2 (some .int) :: TB
abbrev rm_X4_above : Room := { frames := 3, cells := 0, slots := 0, locals := 65 }
theorem tb_X4_above : GoodIn TB ct_X4_above := tb_good m_300
theorem hd_X4_above : yX4_above.cls = RX4 ∧ yX4_above.cls ≠ "java/lang/invoke/MethodHandle" ∧ yX4_above.cls ≠ "java/lang/invoke/VarHandle" ∧ (parseMethodDescriptor yX4_above.desc).map (fun d => d.parameters.length) = some 1 := ⟨rfl, by decide +kernel, by decide +kernel, by decide +kernel⟩
abbrev ct_X4_childrenOf : List Cond := Cond.code yX4_childrenOf cX4_childrenOf 5 (some .int) :: TB
abbrev rm_X4_childrenOf : Room := { frames := 2, cells := 0, slots := 0, locals := 43 }
theorem tb_X4_childrenOf : GoodIn TB ct_X4_childrenOf := tb_good m_229
theorem hd_X4_childrenOf : yX4_childrenOf.cls = RX4 ∧ yX4_childrenOf.cls ≠ "java/lang/invoke/MethodHandle" ∧ yX4_childrenOf.cls ≠ "java/lang/invoke/VarHandle" ∧ (parseMethodDescriptor yX4_childrenOf.desc).map (fun d => d.parameters.length) = some 1 := ⟨rfl, by decide +kernel, by decide +kernel, by decide +kernel⟩
abbrev ct_X4_startOfChild : List Cond := Cond.code yX4_startOfChild cX4_startOfChild 6 (some .int) :: TB
abbrev rm_X4_startOfChild : Room := { frames := 2, cells := 0, slots := 0, locals := 43 }
theorem tb_X4_startOfChild : GoodIn TB ct_X4_startOfChild := tb_good m_249
theorem hd_X4_startOfChild : yX4_startOfChild.cls = RX4 ∧ yX4_startOfChild.cls ≠ "java/lang/invoke/MethodHandle" ∧ yX4_startOfChild.cls ≠ "java/lang/invoke/VarHandle" ∧ (parseMethodDescriptor yX4_startOfChild.desc).map (fun d => d.parameters.length) = some 2 := ⟨rfl, by decide +kernel, by decide +kernel, by decide +kernel⟩
abbrev ct_X4_childAt : List Cond := Cond.code yX4_childAt cX4_childAt 3 (some .int) :: TB
abbrev rm_X4_childAt : Room := { frames := 3, cells := 0, slots := 0, locals := 68 }
theorem tb_X4_childAt : GoodIn TB ct_X4_childAt := tb_good m_225
theorem hd_X4_childAt : yX4_childAt.cls = RX4 ∧ yX4_childAt.cls ≠ "java/lang/invoke/MethodHandle" ∧ yX4_childAt.cls ≠ "java/lang/invoke/VarHandle" ∧ (parseMethodDescriptor yX4_childAt.desc).map (fun d => d.parameters.length) = some 2 := ⟨rfl, by decide +kernel, by decide +kernel, by decide +kernel⟩
abbrev ct_X4_turnOf : List Cond := Cond.code yX4_turnOf cX4_turnOf 5 (some .int) :: TB
abbrev rm_X4_turnOf : Room := { frames := 4, cells := 0, slots := 0, locals := 86 }
theorem tb_X4_turnOf : GoodIn TB ct_X4_turnOf := tb_good m_454
theorem hd_X4_turnOf : yX4_turnOf.cls = RX4 ∧ yX4_turnOf.cls ≠ "java/lang/invoke/MethodHandle" ∧ yX4_turnOf.cls ≠ "java/lang/invoke/VarHandle" ∧ (parseMethodDescriptor yX4_turnOf.desc).map (fun d => d.parameters.length) = some 1 := ⟨rfl, by decide +kernel, by decide +kernel, by decide +kernel⟩
abbrev ct_X4_neighbour : List Cond := Cond.code yX4_neighbour cX4_neighbour 3 (some .int) :: TB
abbrev rm_X4_neighbour : Room := { frames := 3, cells := 0, slots := 0, locals := 65 }
theorem tb_X4_neighbour : GoodIn TB ct_X4_neighbour := tb_good m_315
theorem hd_X4_neighbour : yX4_neighbour.cls = RX4 ∧ yX4_neighbour.cls ≠ "java/lang/invoke/MethodHandle" ∧ yX4_neighbour.cls ≠ "java/lang/invoke/VarHandle" ∧ (parseMethodDescriptor yX4_neighbour.desc).map (fun d => d.parameters.length) = some 2 := ⟨rfl, by decide +kernel, by decide +kernel, by decide +kernel⟩
abbrev ct_X4_next : List Cond := Cond.code yX4_next cX4_next 3 (some .int) :: TB
abbrev rm_X4_next : Room := { frames := 2, cells := 0, slots := 0, locals := 43 }
theorem tb_X4_next : GoodIn TB ct_X4_next := tb_good m_319
theorem hd_X4_next : yX4_next.cls = RX4 ∧ yX4_next.cls ≠ "java/lang/invoke/MethodHandle" ∧ yX4_next.cls ≠ "java/lang/invoke/VarHandle" ∧ (parseMethodDescriptor yX4_next.desc).map (fun d => d.parameters.length) = some 1 := ⟨rfl, by decide +kernel, by decide +kernel, by decide +kernel⟩
abbrev ct_X4_ahead : List Cond := Cond.code yX4_ahead cX4_ahead 3 (some .int) :: TB
abbrev rm_X4_ahead : Room := { frames := 2, cells := 0, slots := 0, locals := 42 }
theorem tb_X4_ahead : GoodIn TB ct_X4_ahead := tb_good m_323
theorem hd_X4_ahead : yX4_ahead.cls = RX4 ∧ yX4_ahead.cls ≠ "java/lang/invoke/MethodHandle" ∧ yX4_ahead.cls ≠ "java/lang/invoke/VarHandle" ∧ (parseMethodDescriptor yX4_ahead.desc).map (fun d => d.parameters.length) = some 1 := ⟨rfl, by decide +kernel, by decide +kernel, by decide +kernel⟩
abbrev ct_X4_heightOf : List Cond := Cond.code yX4_heightOf cX4_heightOf 5 (some .int) :: TB
abbrev rm_X4_heightOf : Room := { frames := 2, cells := 0, slots := 0, locals := 43 }
theorem tb_X4_heightOf : GoodIn TB ct_X4_heightOf := tb_good m_417
theorem hd_X4_heightOf : yX4_heightOf.cls = RX4 ∧ yX4_heightOf.cls ≠ "java/lang/invoke/MethodHandle" ∧ yX4_heightOf.cls ≠ "java/lang/invoke/VarHandle" ∧ (parseMethodDescriptor yX4_heightOf.desc).map (fun d => d.parameters.length) = some 1 := ⟨rfl, by decide +kernel, by decide +kernel, by decide +kernel⟩
abbrev ct_X4_leaves : List Cond := Cond.code yX4_leaves cX4_leaves 3 (some .int) :: TB
abbrev rm_X4_leaves : Room := { frames := 3, cells := 0, slots := 0, locals := 67 }
theorem tb_X4_leaves : GoodIn TB ct_X4_leaves := tb_good m_535
theorem hd_X4_leaves : yX4_leaves.cls = RX4 ∧ yX4_leaves.cls ≠ "java/lang/invoke/MethodHandle" ∧ yX4_leaves.cls ≠ "java/lang/invoke/VarHandle" ∧ (parseMethodDescriptor yX4_leaves.desc).map (fun d => d.parameters.length) = some 0 := ⟨rfl, by decide +kernel, by decide +kernel, by decide +kernel⟩
abbrev ct_X4_unlikeLetters : List Cond := Cond.code yX4_unlikeLetters cX4_unlikeLetters 3 (some .int) :: TB
abbrev rm_X4_unlikeLetters : Room := { frames := 2, cells := 0, slots := 0, locals := 42 }
theorem tb_X4_unlikeLetters : GoodIn TB ct_X4_unlikeLetters := tb_good m_544
theorem hd_X4_unlikeLetters : yX4_unlikeLetters.cls = RX4 ∧ yX4_unlikeLetters.cls ≠ "java/lang/invoke/MethodHandle" ∧ yX4_unlikeLetters.cls ≠ "java/lang/invoke/VarHandle" ∧ (parseMethodDescriptor yX4_unlikeLetters.desc).map (fun d => d.parameters.length) = some 0 := ⟨rfl, by decide +kernel, by decide +kernel, by decide +kernel⟩
abbrev ct_X4_alike : List Cond := Cond.code yX4_alike cX4_alike 6 (some .boolean) :: TB
abbrev rm_X4_alike : Room := { frames := 2, cells := 0, slots := 0, locals := 43 }
theorem tb_X4_alike : GoodIn TB ct_X4_alike := tb_good m_558
theorem hd_X4_alike : yX4_alike.cls = RX4 ∧ yX4_alike.cls ≠ "java/lang/invoke/MethodHandle" ∧ yX4_alike.cls ≠ "java/lang/invoke/VarHandle" ∧ (parseMethodDescriptor yX4_alike.desc).map (fun d => d.parameters.length) = some 2 := ⟨rfl, by decide +kernel, by decide +kernel, by decide +kernel⟩
abbrev ct_X4_clear : List Cond := Cond.code yX4_clear cX4_clear 1 none :: TB
abbrev rm_X4_clear : Room := { frames := 1, cells := 0, slots := 0, locals := 20 }
theorem tb_X4_clear : GoodIn TB ct_X4_clear := tb_good m_467
theorem hd_X4_clear : yX4_clear.cls = RX4 ∧ yX4_clear.cls ≠ "java/lang/invoke/MethodHandle" ∧ yX4_clear.cls ≠ "java/lang/invoke/VarHandle" ∧ (parseMethodDescriptor yX4_clear.desc).map (fun d => d.parameters.length) = some 0 := ⟨rfl, by decide +kernel, by decide +kernel, by decide +kernel⟩
abbrev ct_X4_putIn : List Cond := Cond.code yX4_putIn cX4_putIn 4 none :: TB
abbrev rm_X4_putIn : Room := { frames := 1, cells := 0, slots := 0, locals := 23 }
theorem tb_X4_putIn : GoodIn TB ct_X4_putIn := tb_good m_202
theorem hd_X4_putIn : yX4_putIn.cls = RX4 ∧ yX4_putIn.cls ≠ "java/lang/invoke/MethodHandle" ∧ yX4_putIn.cls ≠ "java/lang/invoke/VarHandle" ∧ (parseMethodDescriptor yX4_putIn.desc).map (fun d => d.parameters.length) = some 3 := ⟨rfl, by decide +kernel, by decide +kernel, by decide +kernel⟩
abbrev ct_X4_takeOut : List Cond := Cond.code yX4_takeOut cX4_takeOut 3 none :: TB
abbrev rm_X4_takeOut : Room := { frames := 2, cells := 0, slots := 0, locals := 45 }
theorem tb_X4_takeOut : GoodIn TB ct_X4_takeOut := tb_good m_408
theorem hd_X4_takeOut : yX4_takeOut.cls = RX4 ∧ yX4_takeOut.cls ≠ "java/lang/invoke/MethodHandle" ∧ yX4_takeOut.cls ≠ "java/lang/invoke/VarHandle" ∧ (parseMethodDescriptor yX4_takeOut.desc).map (fun d => d.parameters.length) = some 2 := ⟨rfl, by decide +kernel, by decide +kernel, by decide +kernel⟩
abbrev ct_X4_shiftDepths : List Cond := Cond.code yX4_shiftDepths cX4_shiftDepths 5 none :: TB
abbrev rm_X4_shiftDepths : Room := { frames := 1, cells := 0, slots := 0, locals := 22 }
theorem tb_X4_shiftDepths : GoodIn TB ct_X4_shiftDepths := tb_good m_422
theorem hd_X4_shiftDepths : yX4_shiftDepths.cls = RX4 ∧ yX4_shiftDepths.cls ≠ "java/lang/invoke/MethodHandle" ∧ yX4_shiftDepths.cls ≠ "java/lang/invoke/VarHandle" ∧ (parseMethodDescriptor yX4_shiftDepths.desc).map (fun d => d.parameters.length) = some 3 := ⟨rfl, by decide +kernel, by decide +kernel, by decide +kernel⟩
abbrev ct_X4_exchangeRuns : List Cond := Cond.code yX4_exchangeRuns cX4_exchangeRuns 4 none :: TB
abbrev rm_X4_exchangeRuns : Room := { frames := 3, cells := 0, slots := 0, locals := 70 }
theorem tb_X4_exchangeRuns : GoodIn TB ct_X4_exchangeRuns := tb_good m_441
theorem hd_X4_exchangeRuns : yX4_exchangeRuns.cls = RX4 ∧ yX4_exchangeRuns.cls ≠ "java/lang/invoke/MethodHandle" ∧ yX4_exchangeRuns.cls ≠ "java/lang/invoke/VarHandle" ∧ (parseMethodDescriptor yX4_exchangeRuns.desc).map (fun d => d.parameters.length) = some 3 := ⟨rfl, by decide +kernel, by decide +kernel, by decide +kernel⟩
abbrev ct_X4_takeFrom : List Cond := Cond.code yX4_takeFrom cX4_takeFrom 2 none :: TB
abbrev rm_X4_takeFrom : Room := { frames := 2, cells := 0, slots := 0, locals := 43 }
theorem tb_X4_takeFrom : GoodIn TB ct_X4_takeFrom := tb_good m_269
theorem hd_X4_takeFrom : yX4_takeFrom.cls = RX4 ∧ yX4_takeFrom.cls ≠ "java/lang/invoke/MethodHandle" ∧ yX4_takeFrom.cls ≠ "java/lang/invoke/VarHandle" ∧ (parseMethodDescriptor yX4_takeFrom.desc).map (fun d => d.parameters.length) = some 1 := ⟨rfl, by decide +kernel, by decide +kernel, by decide +kernel⟩
abbrev ct_X4_takePart : List Cond := Cond.code yX4_takePart cX4_takePart 5 none :: TB
abbrev rm_X4_takePart : Room := { frames := 2, cells := 0, slots := 0, locals := 46 }
theorem tb_X4_takePart : GoodIn TB ct_X4_takePart := tb_good m_463
theorem hd_X4_takePart : yX4_takePart.cls = RX4 ∧ yX4_takePart.cls ≠ "java/lang/invoke/MethodHandle" ∧ yX4_takePart.cls ≠ "java/lang/invoke/VarHandle" ∧ (parseMethodDescriptor yX4_takePart.desc).map (fun d => d.parameters.length) = some 2 := ⟨rfl, by decide +kernel, by decide +kernel, by decide +kernel⟩
abbrev ct_X4_appendTo : List Cond := Cond.code yX4_appendTo cX4_appendTo 4 none :: TB
abbrev rm_X4_appendTo : Room := { frames := 3, cells := 0, slots := 0, locals := 66 }
theorem tb_X4_appendTo : GoodIn TB ct_X4_appendTo := tb_good m_592
theorem hd_X4_appendTo : yX4_appendTo.cls = RX4 ∧ yX4_appendTo.cls ≠ "java/lang/invoke/MethodHandle" ∧ yX4_appendTo.cls ≠ "java/lang/invoke/VarHandle" ∧ (parseMethodDescriptor yX4_appendTo.desc).map (fun d => d.parameters.length) = some 1 := ⟨rfl, by decide +kernel, by decide +kernel, by decide +kernel⟩
abbrev ct_X4_appendClosings : List Cond := Cond.code yX4_appendClosings cX4_appendClosings 3 none :: TB
abbrev rm_X4_appendClosings : Room := { frames := 2, cells := 0, slots := 0, locals := 44 }
theorem tb_X4_appendClosings : GoodIn TB ct_X4_appendClosings := tb_good m_596
theorem hd_X4_appendClosings : yX4_appendClosings.cls ≠ "java/lang/invoke/MethodHandle" ∧ yX4_appendClosings.cls ≠ "java/lang/invoke/VarHandle" ∧ (parseMethodDescriptor yX4_appendClosings.desc).map (fun d => d.parameters.length) = some 2 := ⟨by decide +kernel, by decide +kernel, by decide +kernel⟩
abbrev ct_J6_bitCount_0f7a4 : List Cond := Cond.code yJ6_bitCount_0f7a4 cJ6_bitCount_0f7a4 1 (some .int) :: TB
abbrev rm_J6_bitCount_0f7a4 : Room := { frames := 0, cells := 0, slots := 0, locals := 0 }
theorem tb_J6_bitCount_0f7a4 : GoodIn TB ct_J6_bitCount_0f7a4 := tb_good m_547
theorem hd_J6_bitCount_0f7a4 : yJ6_bitCount_0f7a4.cls ≠ "java/lang/invoke/MethodHandle" ∧ yJ6_bitCount_0f7a4.cls ≠ "java/lang/invoke/VarHandle" ∧ (parseMethodDescriptor yJ6_bitCount_0f7a4.desc).map (fun d => d.parameters.length) = some 1 := ⟨by decide +kernel, by decide +kernel, by decide +kernel⟩
theorem m_J6_bitCount_0f7a4_static : Cond.static yJ6_bitCount_0f7a4 ∈ TB := m_546
theorem m_X4_appendClosings_static : Cond.static yX4_appendClosings ∈ TB := m_595
theorem m_X5_isChoice_static : Cond.static yX5_isChoice ∈ TB := m_310
theorem m_X5_isLetter_static : Cond.static yX5_isLetter ∈ TB := m_363
theorem m_X5_isMark_static : Cond.static yX5_isMark ∈ TB := m_492
theorem m_X5_orNotFound_static : Cond.static yX5_orNotFound ∈ TB := m_512
theorem m_X6_in_static : Cond.static yX6_in ∈ TB := m_745
theorem m_X6_orNone_static : Cond.static yX6_orNone ∈ TB := m_868
theorem gg_RL_13 : GoodIn TB (wsV RL 13 RX5 yX5_down ct_X5_down) := tb_goodV m_221 m_218 m_219 m_220 m_ini_RX5
theorem gg_RL_17 : GoodIn TB (wsV RL 17 RX6 yX6_down ct_X6_down) := tb_goodV m_691 m_688 m_689 m_690 m_ini_RX6
theorem gg_RL_18 : GoodIn TB (wsV RL 18 RX5 yX5_up ct_X5_up) := tb_goodV m_296 m_293 m_294 m_295 m_ini_RX5
theorem gg_RL_22 : GoodIn TB (wsV RL 22 RX6 yX6_up ct_X6_up) := tb_goodV m_735 m_732 m_733 m_734 m_ini_RX6
theorem gg_RL_23 : GoodIn TB (wsV RL 23 RX5 yX5_side ct_X5_side) := tb_goodV m_308 m_305 m_306 m_307 m_ini_RX5
theorem gg_RL_26 : GoodIn TB (wsV RL 26 RX6 yX6_side ct_X6_side) := tb_goodV m_743 m_740 m_741 m_742 m_ini_RX6
theorem gg_RL_27 : GoodIn TB (wsV RL 27 RX5 yX5_step ct_X5_step) := tb_goodV m_327 m_324 m_325 m_326 m_ini_RX5
theorem gg_RL_30 : GoodIn TB (wsV RL 30 RX6 yX6_step ct_X6_step) := tb_goodV m_754 m_751 m_752 m_753 m_ini_RX6
theorem gg_RL_31 : GoodIn TB (wsV RL 31 RX5 yX5_top ct_X5_top) := tb_goodV m_339 m_336 m_337 m_338 m_ini_RX5
theorem gg_RL_34 : GoodIn TB (wsV RL 34 RX6 yX6_top ct_X6_top) := tb_goodV m_762 m_759 m_760 m_761 m_ini_RX6
theorem gg_RL_35 : GoodIn TB (wsV RL 35 RX5 yX5_back ct_X5_back) := tb_goodV m_344 m_341 m_342 m_343 m_ini_RX5
theorem gg_RL_38 : GoodIn TB (wsV RL 38 RX6 yX6_back ct_X6_back) := tb_goodV m_766 m_763 m_764 m_765 m_ini_RX6
theorem gg_RL_39 : GoodIn TB (wsV RL 39 RX5 yX5_letter ct_X5_letter) := tb_goodV m_361 m_358 m_359 m_360 m_ini_RX5
theorem gg_RL_42 : GoodIn TB (wsV RL 42 RX6 yX6_letter ct_X6_letter) := tb_goodV m_770 m_767 m_768 m_769 m_ini_RX6
theorem gg_RL_43 : GoodIn TB (wsV RL 43 RX5 yX5_child ct_X5_child) := tb_goodV m_377 m_374 m_375 m_376 m_ini_RX5
theorem gg_RL_47 : GoodIn TB (wsV RL 47 RX6 yX6_child ct_X6_child) := tb_goodV m_778 m_775 m_776 m_777 m_ini_RX6
theorem gg_RL_48 : GoodIn TB (wsV RL 48 RX5 yX5_beside ct_X5_beside) := tb_goodV m_384 m_381 m_382 m_383 m_ini_RX5
theorem gg_RL_51 : GoodIn TB (wsV RL 51 RX6 yX6_beside ct_X6_beside) := tb_goodV m_790 m_787 m_788 m_789 m_ini_RX6
theorem gg_RL_52 : GoodIn TB (wsV RL 52 RX5 yX5_delete ct_X5_delete) := tb_goodV m_389 m_386 m_387 m_388 m_ini_RX5
theorem gg_RL_55 : GoodIn TB (wsV RL 55 RX6 yX6_delete ct_X6_delete) := tb_goodV m_794 m_791 m_792 m_793 m_ini_RX6
theorem gg_RL_56 : GoodIn TB (wsV RL 56 RX5 yX5_wrap ct_X5_wrap) := tb_goodV m_413 m_410 m_411 m_412 m_ini_RX5
theorem gg_RL_59 : GoodIn TB (wsV RL 59 RX6 yX6_wrap ct_X6_wrap) := tb_goodV m_822 m_819 m_820 m_821 m_ini_RX6
theorem gg_RL_60 : GoodIn TB (wsV RL 60 RX5 yX5_lift ct_X5_lift) := tb_goodV m_426 m_423 m_424 m_425 m_ini_RX5
theorem gg_RL_63 : GoodIn TB (wsV RL 63 RX6 yX6_lift ct_X6_lift) := tb_goodV m_834 m_831 m_832 m_833 m_ini_RX6
theorem gg_RL_64 : GoodIn TB (wsV RL 64 RX5 yX5_exchange ct_X5_exchange) := tb_goodV m_431 m_428 m_429 m_430 m_ini_RX5
theorem gg_RL_67 : GoodIn TB (wsV RL 67 RX6 yX6_exchange ct_X6_exchange) := tb_goodV m_838 m_835 m_836 m_837 m_ini_RX6
theorem gg_RL_68 : GoodIn TB (wsV RL 68 RX5 yX5_cut ct_X5_cut) := tb_goodV m_459 m_456 m_457 m_458 m_ini_RX5
theorem gg_RL_71 : GoodIn TB (wsV RL 71 RX6 yX6_cut ct_X6_cut) := tb_goodV m_810 m_807 m_808 m_809 m_ini_RX6
theorem gg_RL_72 : GoodIn TB (wsV RL 72 RX5 yX5_copy ct_X5_copy) := tb_goodV m_474 m_471 m_472 m_473 m_ini_RX5
theorem gg_RL_75 : GoodIn TB (wsV RL 75 RX6 yX6_copy ct_X6_copy) := tb_goodV m_818 m_815 m_816 m_817 m_ini_RX6
theorem gg_RL_76 : GoodIn TB (wsV RL 76 RX5 yX5_paste ct_X5_paste) := tb_goodV m_478 m_475 m_476 m_477 m_ini_RX5
theorem gg_RL_79 : GoodIn TB (wsV RL 79 RX6 yX6_paste ct_X6_paste) := tb_goodV m_850 m_847 m_848 m_849 m_ini_RX6
theorem gg_RL_80 : GoodIn TB (wsV RL 80 RX5 yX5_mark ct_X5_mark) := tb_goodV m_490 m_487 m_488 m_489 m_ini_RX5
theorem gg_RL_83 : GoodIn TB (wsV RL 83 RX6 yX6_mark ct_X6_mark) := tb_goodV m_858 m_855 m_856 m_857 m_ini_RX6
theorem gg_RL_84 : GoodIn TB (wsV RL 84 RX5 yX5_goTo ct_X5_goTo) := tb_goodV m_506 m_503 m_504 m_505 m_ini_RX5
theorem gg_RL_87 : GoodIn TB (wsV RL 87 RX6 yX6_goTo ct_X6_goTo) := tb_goodV m_862 m_859 m_860 m_861 m_ini_RX6
theorem gg_RL_88 : GoodIn TB (wsV RL 88 RX5 yX5_nodeOf ct_X5_nodeOf) := tb_goodV m_510 m_507 m_508 m_509 m_ini_RX5
theorem gg_RL_91 : GoodIn TB (wsV RL 91 RX6 yX6_nodeOf ct_X6_nodeOf) := tb_goodV m_866 m_863 m_864 m_865 m_ini_RX6
theorem gg_RL_92 : GoodIn TB (wsV RL 92 RX5 yX5_spine ct_X5_spine) := tb_goodV m_522 m_519 m_520 m_521 m_ini_RX5
theorem gg_RL_95 : GoodIn TB (wsV RL 95 RX6 yX6_spine ct_X6_spine) := tb_goodV m_877 m_874 m_875 m_876 m_ini_RX6
theorem gg_RL_96 : GoodIn TB (wsV RL 96 RX5 yX5_marked ct_X5_marked) := tb_goodV m_527 m_524 m_525 m_526 m_ini_RX5
theorem gg_RL_99 : GoodIn TB (wsV RL 99 RX6 yX6_marked ct_X6_marked) := tb_goodV m_881 m_878 m_879 m_880 m_ini_RX6
theorem gg_RL_100 : GoodIn TB (wsV RL 100 RX5 yX5_count ct_X5_count) := tb_goodV m_531 m_528 m_529 m_530 m_ini_RX5
theorem gg_RL_103 : GoodIn TB (wsV RL 103 RX6 yX6_count ct_X6_count) := tb_goodV m_885 m_882 m_883 m_884 m_ini_RX6
theorem gg_RL_104 : GoodIn TB (wsV RL 104 RX5 yX5_like ct_X5_like) := tb_goodV m_554 m_551 m_552 m_553 m_ini_RX5
theorem gg_RL_107 : GoodIn TB (wsV RL 107 RX6 yX6_like ct_X6_like) := tb_goodV m_897 m_894 m_895 m_896 m_ini_RX6
theorem gg_RL_108 : GoodIn TB (wsV RL 108 RX5 yX5_meet ct_X5_meet) := tb_goodV m_562 m_559 m_560 m_561 m_ini_RX5
theorem gg_RL_111 : GoodIn TB (wsV RL 111 RX6 yX6_meet ct_X6_meet) := tb_goodV m_905 m_902 m_903 m_904 m_ini_RX6
theorem gg_RL_112 : GoodIn TB (wsV RL 112 RX5 yX5_find ct_X5_find) := tb_goodV m_566 m_563 m_564 m_565 m_ini_RX5
theorem gg_RL_115 : GoodIn TB (wsV RL 115 RX6 yX6_find ct_X6_find) := tb_goodV m_909 m_906 m_907 m_908 m_ini_RX6
theorem gg_RL_116 : GoodIn TB (wsV RL 116 RX5 yX5_undo ct_X5_undo) := tb_goodV m_570 m_567 m_568 m_569 m_ini_RX5
theorem gg_RL_119 : GoodIn TB (wsV RL 119 RX6 yX6_undo ct_X6_undo) := tb_goodV m_913 m_910 m_911 m_912 m_ini_RX6
theorem gg_RL_120 : GoodIn TB (wsV RL 120 RX5 yX5_type ct_X5_type) := tb_goodV m_578 m_575 m_576 m_577 m_ini_RX5
theorem gg_RL_123 : GoodIn TB (wsV RL 123 RX6 yX6_type ct_X6_type) := tb_goodV m_917 m_914 m_915 m_916 m_ini_RX6
theorem gg_RL_124 : GoodIn TB (wsV RL 124 RX5 yX5_clearText ct_X5_clearText) := tb_goodV m_583 m_580 m_581 m_582 m_ini_RX5
theorem gg_RL_127 : GoodIn TB (wsV RL 127 RX6 yX6_clearText ct_X6_clearText) := tb_goodV m_921 m_918 m_919 m_920 m_ini_RX6
theorem gg_RL_128 : GoodIn TB (wsV RL 128 RX5 yX5_write ct_X5_write) := tb_goodV m_588 m_585 m_586 m_587 m_ini_RX5
theorem gg_RL_131 : GoodIn TB (wsV RL 131 RX6 yX6_write ct_X6_write) := tb_goodV m_925 m_922 m_923 m_924 m_ini_RX6
theorem gg_RL_132 : GoodIn TB (wsV RL 132 RX5 yX5_fault ct_X5_fault) := tb_goodV m_600 m_597 m_598 m_599 m_ini_RX5
theorem gg_RL_135 : GoodIn TB (wsV RL 135 RX6 yX6_fault ct_X6_fault) := tb_goodV m_933 m_930 m_931 m_932 m_ini_RX6
theorem gg_RL_136 : GoodIn TB (wsV RL 136 RX5 yX5_read ct_X5_read) := tb_goodV m_638 m_635 m_636 m_637 m_ini_RX5
theorem gg_RL_139 : GoodIn TB (wsV RL 139 RX6 yX6_read ct_X6_read) := tb_goodV m_945 m_942 m_943 m_944 m_ini_RX6
theorem gg_RX0_25 : GoodIn TB (wsV RX0 25 RX0 yX0_slotAt ct_X0_slotAt) := tb_goodV m_261 m_258 m_260 m_2 m_ini_RX0
theorem gg_RX0_29 : GoodIn TB (wsV RX0 29 RX3 yX3_takeFrom ct_X3_takeFrom) := tb_goodV m_265 m_262 m_263 m_264 m_ini_RX3
theorem gg_RX1_25 : GoodIn TB (wsV RX1 25 RX1 yX1_putIn ct_X1_putIn) := tb_goodV m_115 m_112 m_113 m_114 m_ini_RX1
theorem gg_RX1_29 : GoodIn TB (wsV RX1 29 RX1 yX1_at ct_X1_at) := tb_goodV m_241 m_287 m_239 m_240 m_ini_RX1
theorem gg_RX1_33 : GoodIn TB (wsV RX1 33 RX1 yX1_put ct_X1_put) := tb_goodV m_291 m_288 m_289 m_290 m_ini_RX1
theorem gg_RX1_36 : GoodIn TB (wsV RX1 36 RX1 yX1_turnAbout ct_X1_turnAbout) := tb_goodV m_449 m_446 m_447 m_448 m_ini_RX1
theorem gg_RX2_27 : GoodIn TB (wsV RX2 27 RX4 yX4_clear ct_X4_clear) := tb_goodV m_467 m_605 m_465 m_466 m_ini_RX4
theorem gg_RX2_30 : GoodIn TB (wsV RX2 30 RX1 yX1_clear ct_X1_clear) := tb_goodV m_107 m_606 m_105 m_106 m_ini_RX1
theorem gg_RX2_39 : GoodIn TB (wsV RX2 39 RX1 yX1_size ct_X1_size) := tb_goodV m_237 m_607 m_235 m_236 m_ini_RX1
theorem gg_RX2_46 : GoodIn TB (wsV RX2 46 RX1 yX1_at ct_X1_at) := tb_goodV m_241 m_608 m_239 m_240 m_ini_RX1
theorem gg_RX2_50 : GoodIn TB (wsV RX2 50 RX2 yX2_reasonAgainst ct_X2_reasonAgainst) := tb_goodV m_612 m_609 m_611 m_7 m_ini_RX2
theorem gg_RX2_53 : GoodIn TB (wsV RX2 53 RX2 yX2_passLetter ct_X2_passLetter) := tb_goodV m_616 m_613 m_615 m_8 m_ini_RX2
theorem gg_RX2_56 : GoodIn TB (wsV RX2 56 RX2 yX2_passOpening ct_X2_passOpening) := tb_goodV m_624 m_621 m_623 m_9 m_ini_RX2
theorem gg_RX2_59 : GoodIn TB (wsV RX2 59 RX2 yX2_passComma ct_X2_passComma) := tb_goodV m_629 m_626 m_628 m_10 m_ini_RX2
theorem gg_RX2_62 : GoodIn TB (wsV RX2 62 RX2 yX2_passClosing ct_X2_passClosing) := tb_goodV m_633 m_630 m_632 m_11 m_ini_RX2
theorem gg_RX2_69 : GoodIn TB (wsV RX2 69 RX4 yX4_size ct_X4_size) := tb_goodV m_335 m_618 m_333 m_334 m_ini_RX4
theorem gg_RX2_70 : GoodIn TB (wsV RX2 70 RX4 yX4_putIn ct_X4_putIn) := tb_goodV m_202 m_619 m_200 m_201 m_ini_RX4
theorem gg_RX2_74 : GoodIn TB (wsV RX2 74 RX1 yX1_put ct_X1_put) := tb_goodV m_291 m_620 m_289 m_290 m_ini_RX1
theorem gg_RX2_81 : GoodIn TB (wsV RX2 81 RX1 yX1_add ct_X1_add) := tb_goodV m_111 m_625 m_109 m_110 m_ini_RX1
theorem gg_RX2_84 : GoodIn TB (wsV RX2 84 RX1 yX1_takeOut ct_X1_takeOut) := tb_goodV m_286 m_634 m_284 m_285 m_ini_RX1
theorem gg_RX3_36 : GoodIn TB (wsV RX3 36 RX3 yX3_clearMarks ct_X3_clearMarks) := tb_goodV m_103 m_100 m_102 m_0 m_ini_RX3
theorem gg_RX3_39 : GoodIn TB (wsV RX3 39 RX4 yX4_takeFrom ct_X4_takeFrom) := tb_goodV m_269 m_266 m_267 m_268 m_ini_RX4
theorem gg_RX3_43 : GoodIn TB (wsV RX3 43 RX1 yX1_takeFrom ct_X1_takeFrom) := tb_goodV m_273 m_277 m_271 m_272 m_ini_RX1
theorem gg_RX3_53 : GoodIn TB (wsV RX3 53 RX4 yX4_clear ct_X4_clear) := tb_goodV m_467 m_643 m_465 m_466 m_ini_RX4
theorem gg_RX3_56 : GoodIn TB (wsV RX3 56 RX1 yX1_clear ct_X1_clear) := tb_goodV m_107 m_104 m_105 m_106 m_ini_RX1
theorem gg_RX3_57 : GoodIn TB (wsV RX3 57 RX3 yX3_putTreeIn ct_X3_putTreeIn) := tb_goodV m_482 m_644 m_480 m_481 m_ini_RX3
theorem gg_RX3_61 : GoodIn TB (wsV RX3 61 RX1 yX1_add ct_X1_add) := tb_goodV m_111 m_108 m_109 m_110 m_ini_RX1
theorem gg_RX3_64 : GoodIn TB (wsV RX3 64 RX4 yX4_putIn ct_X4_putIn) := tb_goodV m_202 m_199 m_200 m_201 m_ini_RX4
theorem gg_RX3_68 : GoodIn TB (wsV RX3 68 RX1 yX1_putIn ct_X1_putIn) := tb_goodV m_115 m_204 m_113 m_114 m_ini_RX1
theorem gg_RX3_71 : GoodIn TB (wsV RX3 71 RX4 yX4_size ct_X4_size) := tb_goodV m_335 m_483 m_333 m_334 m_ini_RX4
theorem gg_RX3_75 : GoodIn TB (wsV RX3 75 RX4 yX4_letterOf ct_X4_letterOf) := tb_goodV m_368 m_484 m_366 m_367 m_ini_RX4
theorem gg_RX3_79 : GoodIn TB (wsV RX3 79 RX4 yX4_depthOf ct_X4_depthOf) := tb_goodV m_245 m_485 m_243 m_244 m_ini_RX4
theorem gg_RX3_82 : GoodIn TB (wsV RX3 82 RX3 yX3_putNodeIn ct_X3_putNodeIn) := tb_goodV m_198 m_486 m_196 m_197 m_ini_RX3
theorem gg_RX3_85 : GoodIn TB (wsV RX3 85 RX4 yX4_takeOut ct_X4_takeOut) := tb_goodV m_408 m_405 m_406 m_407 m_ini_RX4
theorem gg_RX3_88 : GoodIn TB (wsV RX3 88 RX1 yX1_takeOut ct_X1_takeOut) := tb_goodV m_286 m_283 m_284 m_285 m_ini_RX1
theorem gg_RX3_89 : GoodIn TB (wsV RX3 89 RX4 yX4_endOf ct_X4_endOf) := tb_goodV m_233 m_394 m_231 m_232 m_ini_RX4
theorem gg_RX3_92 : GoodIn TB (wsV RX3 92 RX3 yX3_placeWithoutPart ct_X3_placeWithoutPart) := tb_goodV m_398 m_395 m_397 m_6 m_ini_RX3
theorem gg_RX3_95 : GoodIn TB (wsV RX3 95 RX3 yX3_takeNodesOut ct_X3_takeNodesOut) := tb_goodV m_404 m_401 m_402 m_403 m_ini_RX3
theorem gg_RX3_98 : GoodIn TB (wsV RX3 98 RX4 yX4_neighbour ct_X4_neighbour) := tb_goodV m_315 m_399 m_313 m_314 m_ini_RX4
theorem gg_RX3_102 : GoodIn TB (wsV RX3 102 RX4 yX4_above ct_X4_above) := tb_goodV m_300 m_400 m_298 m_299 m_ini_RX4
theorem gg_RX3_110 : GoodIn TB (wsV RX3 110 RX4 yX4_exchangeRuns ct_X4_exchangeRuns) := tb_goodV m_441 m_438 m_439 m_440 m_ini_RX4
theorem gg_RX3_113 : GoodIn TB (wsV RX3 113 RX1 yX1_exchangeRuns ct_X1_exchangeRuns) := tb_goodV m_445 m_450 m_443 m_444 m_ini_RX1
theorem gg_RX3_114 : GoodIn TB (wsV RX3 114 RX1 yX1_size ct_X1_size) := tb_goodV m_237 m_282 m_235 m_236 m_ini_RX1
theorem gg_RX3_115 : GoodIn TB (wsV RX3 115 RX1 yX1_at ct_X1_at) := tb_goodV m_241 m_292 m_239 m_240 m_ini_RX1
theorem gg_RX3_118 : GoodIn TB (wsV RX3 118 RX3 yX3_numberOfKey ct_X3_numberOfKey) := tb_goodV m_352 m_349 m_351 m_5 m_ini_RX3
theorem gg_RX3_121 : GoodIn TB (wsV RX3 121 RX1 yX1_put ct_X1_put) := tb_goodV m_291 m_502 m_289 m_290 m_ini_RX1
theorem gg_RX3_124 : GoodIn TB (wsV RX3 124 RX3 yX3_numberOfMark ct_X3_numberOfMark) := tb_goodV m_497 m_518 m_495 m_496 m_ini_RX3
theorem gg_RX4_23 : GoodIn TB (wsV RX4 23 RX1 yX1_size ct_X1_size) := tb_goodV m_237 m_234 m_235 m_236 m_ini_RX1
theorem gg_RX4_27 : GoodIn TB (wsV RX4 27 RX4 yX4_size ct_X4_size) := tb_goodV m_335 m_332 m_333 m_334 m_ini_RX4
theorem gg_RX4_28 : GoodIn TB (wsV RX4 28 RX1 yX1_at ct_X1_at) := tb_goodV m_241 m_238 m_239 m_240 m_ini_RX1
theorem gg_RX4_32 : GoodIn TB (wsV RX4 32 RX1 yX1_put ct_X1_put) := tb_goodV m_291 m_373 m_289 m_290 m_ini_RX1
theorem gg_RX4_36 : GoodIn TB (wsV RX4 36 RX4 yX4_depthOf ct_X4_depthOf) := tb_goodV m_245 m_242 m_243 m_244 m_ini_RX4
theorem gg_RX4_39 : GoodIn TB (wsV RX4 39 RX4 yX4_onSpine ct_X4_onSpine) := tb_goodV m_304 m_301 m_302 m_303 m_ini_RX4
theorem gg_RX4_43 : GoodIn TB (wsV RX4 43 RX4 yX4_endOf ct_X4_endOf) := tb_goodV m_233 m_230 m_231 m_232 m_ini_RX4
theorem gg_RX4_46 : GoodIn TB (wsV RX4 46 RX4 yX4_childrenOf ct_X4_childrenOf) := tb_goodV m_229 m_226 m_227 m_228 m_ini_RX4
theorem gg_RX4_49 : GoodIn TB (wsV RX4 49 RX4 yX4_startOfChild ct_X4_startOfChild) := tb_goodV m_249 m_246 m_247 m_248 m_ini_RX4
theorem gg_RX4_52 : GoodIn TB (wsV RX4 52 RX4 yX4_above ct_X4_above) := tb_goodV m_300 m_455 m_298 m_299 m_ini_RX4
theorem gg_RX4_55 : GoodIn TB (wsV RX4 55 RX4 yX4_next ct_X4_next) := tb_goodV m_319 m_316 m_318 m_3 m_ini_RX4
theorem gg_RX4_58 : GoodIn TB (wsV RX4 58 RX4 yX4_ahead ct_X4_ahead) := tb_goodV m_323 m_320 m_322 m_4 m_ini_RX4
theorem gg_RX4_66 : GoodIn TB (wsV RX4 66 RX4 yX4_letterOf ct_X4_letterOf) := tb_goodV m_368 m_469 m_366 m_367 m_ini_RX4
theorem gg_RX4_74 : GoodIn TB (wsV RX4 74 RX1 yX1_clear ct_X1_clear) := tb_goodV m_107 m_468 m_105 m_106 m_ini_RX1
theorem gg_RX4_77 : GoodIn TB (wsV RX4 77 RX1 yX1_putIn ct_X1_putIn) := tb_goodV m_115 m_203 m_113 m_114 m_ini_RX1
theorem gg_RX4_80 : GoodIn TB (wsV RX4 80 RX1 yX1_takeOut ct_X1_takeOut) := tb_goodV m_286 m_409 m_284 m_285 m_ini_RX1
theorem gg_RX4_83 : GoodIn TB (wsV RX4 83 RX1 yX1_exchangeRuns ct_X1_exchangeRuns) := tb_goodV m_445 m_442 m_443 m_444 m_ini_RX1
theorem gg_RX4_87 : GoodIn TB (wsV RX4 87 RX1 yX1_takeFrom ct_X1_takeFrom) := tb_goodV m_273 m_270 m_271 m_272 m_ini_RX1
theorem gg_RX4_91 : GoodIn TB (wsV RX4 91 RX4 yX4_clear ct_X4_clear) := tb_goodV m_467 m_464 m_465 m_466 m_ini_RX4
theorem gg_RX4_92 : GoodIn TB (wsV RX4 92 RX4 yX4_putIn ct_X4_putIn) := tb_goodV m_202 m_470 m_200 m_201 m_ini_RX4
theorem gg_RX4_94 : GoodIn TB (wsV RX4 94 RX1 yX1_add ct_X1_add) := tb_goodV m_111 m_593 m_109 m_110 m_ini_RX1
theorem gg_RX5_39 : GoodIn TB (wsV RX5 39 RX3 yX3_putNodeIn ct_X3_putNodeIn) := tb_goodV m_198 m_195 m_196 m_197 m_ini_RX3
theorem gg_RX5_51 : GoodIn TB (wsV RX5 51 RX4 yX4_childAt ct_X4_childAt) := tb_goodV m_225 m_222 m_223 m_224 m_ini_RX4
theorem gg_RX5_57 : GoodIn TB (wsV RX5 57 RX5 yX5_walk ct_X5_walk) := tb_goodV m_253 m_250 m_252 m_1 m_ini_RX5
theorem gg_RX5_61 : GoodIn TB (wsV RX5 61 RX4 yX4_above ct_X4_above) := tb_goodV m_300 m_297 m_298 m_299 m_ini_RX4
theorem gg_RX5_68 : GoodIn TB (wsV RX5 68 RX4 yX4_neighbour ct_X4_neighbour) := tb_goodV m_315 m_312 m_313 m_314 m_ini_RX4
theorem gg_RX5_71 : GoodIn TB (wsV RX5 71 RX4 yX4_has ct_X4_has) := tb_goodV m_331 m_328 m_329 m_330 m_ini_RX4
theorem gg_RX5_74 : GoodIn TB (wsV RX5 74 RX4 yX4_depthOf ct_X4_depthOf) := tb_goodV m_245 m_340 m_243 m_244 m_ini_RX4
theorem gg_RX5_77 : GoodIn TB (wsV RX5 77 RX3 yX3_lastWalk ct_X3_lastWalk) := tb_goodV m_348 m_345 m_346 m_347 m_ini_RX3
theorem gg_RX5_81 : GoodIn TB (wsV RX5 81 RX0 yX0_keep ct_X0_keep) := tb_goodV m_257 m_254 m_255 m_256 m_ini_RX0
theorem gg_RX5_85 : GoodIn TB (wsV RX5 85 RX3 yX3_takeWalksBack ct_X3_takeWalksBack) := tb_goodV m_356 m_353 m_354 m_355 m_ini_RX3
theorem gg_RX5_91 : GoodIn TB (wsV RX5 91 RX4 yX4_letterOf ct_X4_letterOf) := tb_goodV m_368 m_365 m_366 m_367 m_ini_RX4
theorem gg_RX5_94 : GoodIn TB (wsV RX5 94 RX4 yX4_setLetter ct_X4_setLetter) := tb_goodV m_372 m_369 m_370 m_371 m_ini_RX4
theorem gg_RX5_98 : GoodIn TB (wsV RX5 98 RX4 yX4_childrenOf ct_X4_childrenOf) := tb_goodV m_229 m_378 m_227 m_228 m_ini_RX4
theorem gg_RX5_101 : GoodIn TB (wsV RX5 101 RX4 yX4_size ct_X4_size) := tb_goodV m_335 m_379 m_333 m_334 m_ini_RX4
theorem gg_RX5_104 : GoodIn TB (wsV RX5 104 RX4 yX4_startOfChild ct_X4_startOfChild) := tb_goodV m_249 m_380 m_247 m_248 m_ini_RX4
theorem gg_RX5_107 : GoodIn TB (wsV RX5 107 RX4 yX4_endOf ct_X4_endOf) := tb_goodV m_233 m_385 m_231 m_232 m_ini_RX4
theorem gg_RX5_110 : GoodIn TB (wsV RX5 110 RX3 yX3_takePlaceOut ct_X3_takePlaceOut) := tb_goodV m_393 m_390 m_391 m_392 m_ini_RX3
theorem gg_RX5_113 : GoodIn TB (wsV RX5 113 RX4 yX4_heightOf ct_X4_heightOf) := tb_goodV m_417 m_414 m_415 m_416 m_ini_RX4
theorem gg_RX5_116 : GoodIn TB (wsV RX5 116 RX4 yX4_shiftDepths ct_X4_shiftDepths) := tb_goodV m_422 m_419 m_420 m_421 m_ini_RX4
theorem gg_RX5_119 : GoodIn TB (wsV RX5 119 RX3 yX3_takeNodesOut ct_X3_takeNodesOut) := tb_goodV m_404 m_427 m_402 m_403 m_ini_RX3
theorem gg_RX5_130 : GoodIn TB (wsV RX5 130 RX3 yX3_exchangeRuns ct_X3_exchangeRuns) := tb_goodV m_437 m_434 m_435 m_436 m_ini_RX3
theorem gg_RX5_133 : GoodIn TB (wsV RX5 133 RX4 yX4_turnOf ct_X4_turnOf) := tb_goodV m_454 m_451 m_452 m_453 m_ini_RX4
theorem gg_RX5_139 : GoodIn TB (wsV RX5 139 RX4 yX4_takePart ct_X4_takePart) := tb_goodV m_463 m_460 m_461 m_462 m_ini_RX4
theorem gg_RX5_143 : GoodIn TB (wsV RX5 143 RX3 yX3_putTreeIn ct_X3_putTreeIn) := tb_goodV m_482 m_479 m_480 m_481 m_ini_RX3
theorem gg_RX5_150 : GoodIn TB (wsV RX5 150 RX3 yX3_numberOfMark ct_X3_numberOfMark) := tb_goodV m_497 m_494 m_495 m_496 m_ini_RX3
theorem gg_RX5_153 : GoodIn TB (wsV RX5 153 RX3 yX3_putMarkAtPlace ct_X3_putMarkAtPlace) := tb_goodV m_501 m_498 m_499 m_500 m_ini_RX3
theorem gg_RX5_159 : GoodIn TB (wsV RX5 159 RX3 yX3_marksAt ct_X3_marksAt) := tb_goodV m_517 m_514 m_515 m_516 m_ini_RX3
theorem gg_RX5_162 : GoodIn TB (wsV RX5 162 RX4 yX4_onSpine ct_X4_onSpine) := tb_goodV m_304 m_523 m_302 m_303 m_ini_RX4
theorem gg_RX5_165 : GoodIn TB (wsV RX5 165 RX4 yX4_leaves ct_X4_leaves) := tb_goodV m_535 m_532 m_533 m_534 m_ini_RX4
theorem gg_RX5_171 : GoodIn TB (wsV RX5 171 RX1 yX1_size ct_X1_size) := tb_goodV m_237 m_536 m_235 m_236 m_ini_RX1
theorem gg_RX5_172 : GoodIn TB (wsV RX5 172 RX0 yX0_size ct_X0_size) := tb_goodV m_540 m_537 m_538 m_539 m_ini_RX0
theorem gg_RX5_173 : GoodIn TB (wsV RX5 173 RX4 yX4_unlikeLetters ct_X4_unlikeLetters) := tb_goodV m_544 m_541 m_542 m_543 m_ini_RX4
theorem gg_RX5_176 : GoodIn TB (wsV RX5 176 RX4 yX4_alike ct_X4_alike) := tb_goodV m_558 m_555 m_556 m_557 m_ini_RX4
theorem gg_RX5_180 : GoodIn TB (wsV RX5 180 RX0 yX0_restore ct_X0_restore) := tb_goodV m_574 m_571 m_572 m_573 m_ini_RX0
theorem gg_RX5_183 : GoodIn TB (wsV RX5 183 RX1 yX1_add ct_X1_add) := tb_goodV m_111 m_579 m_109 m_110 m_ini_RX1
theorem gg_RX5_186 : GoodIn TB (wsV RX5 186 RX1 yX1_clear ct_X1_clear) := tb_goodV m_107 m_584 m_105 m_106 m_ini_RX1
theorem gg_RX5_189 : GoodIn TB (wsV RX5 189 RX4 yX4_appendTo ct_X4_appendTo) := tb_goodV m_592 m_589 m_590 m_591 m_ini_RX4
theorem gg_RX5_193 : GoodIn TB (wsV RX5 193 RX2 yX2_passOver ct_X2_passOver) := tb_goodV m_604 m_601 m_602 m_603 m_ini_RX2
theorem gg_RX5_203 : GoodIn TB (wsV RX5 203 RX3 yX3_beginWith ct_X3_beginWith) := tb_goodV m_642 m_639 m_640 m_641 m_ini_RX3
theorem gg_RX5_207 : GoodIn TB (wsV RX5 207 RX3 yX3_walkTo ct_X3_walkTo) := tb_goodV m_281 m_278 m_279 m_280 m_ini_RX3
theorem gg_RX6_39 : GoodIn TB (wsV RX6 39 RX6 yX6_own ct_X6_own) := tb_goodV m_707 m_704 m_706 m_15 m_ini_RX6
theorem gg_RX6_43 : GoodIn TB (wsV RX6 43 RX6 yX6_numberOf ct_X6_numberOf) := tb_goodV m_703 m_700 m_702 m_14 m_ini_RX6
theorem gg_RX6_46 : GoodIn TB (wsV RX6 46 RX6 yX6_deep ct_X6_deep) := tb_goodV m_719 m_716 m_718 m_18 m_ini_RX6
theorem gg_RX6_49 : GoodIn TB (wsV RX6 49 RX6 yX6_end ct_X6_end) := tb_goodV m_715 m_712 m_714 m_17 m_ini_RX6
theorem gg_RX6_52 : GoodIn TB (wsV RX6 52 RX6 yX6_above ct_X6_above) := tb_goodV m_739 m_736 m_738 m_22 m_ini_RX6
theorem gg_RX6_55 : GoodIn TB (wsV RX6 55 RX6 yX6_begins ct_X6_begins) := tb_goodV m_695 m_692 m_694 m_12 m_ini_RX6
theorem gg_RX6_58 : GoodIn TB (wsV RX6 58 RX6 yX6_place ct_X6_place) := tb_goodV m_699 m_696 m_698 m_13 m_ini_RX6
theorem gg_RX6_62 : GoodIn TB (wsV RX6 62 RX6 yX6_children ct_X6_children) := tb_goodV m_711 m_708 m_710 m_16 m_ini_RX6
theorem gg_RX6_65 : GoodIn TB (wsV RX6 65 RX6 yX6_childOf ct_X6_childOf) := tb_goodV m_723 m_720 m_722 m_19 m_ini_RX6
theorem gg_RX6_69 : GoodIn TB (wsV RX6 69 RX6 yX6_walks ct_X6_walks) := tb_goodV m_727 m_724 m_726 m_20 m_ini_RX6
theorem gg_RX6_72 : GoodIn TB (wsV RX6 72 RX6 yX6_acted ct_X6_acted) := tb_goodV m_731 m_728 m_730 m_21 m_ini_RX6
theorem gg_RX6_75 : GoodIn TB (wsV RX6 75 RX6 yX6_besides ct_X6_besides) := tb_goodV m_750 m_747 m_749 m_23 m_ini_RX6
theorem gg_RX6_79 : GoodIn TB (wsV RX6 79 RX6 yX6_isNode ct_X6_isNode) := tb_goodV m_758 m_755 m_757 m_24 m_ini_RX6
theorem gg_RX6_83 : GoodIn TB (wsV RX6 83 RX6 yX6_sign ct_X6_sign) := tb_goodV m_774 m_771 m_773 m_25 m_ini_RX6
theorem gg_RX6_86 : GoodIn TB (wsV RX6 86 RX6 yX6_opens ct_X6_opens) := tb_goodV m_782 m_779 m_781 m_26 m_ini_RX6
theorem gg_RX6_90 : GoodIn TB (wsV RX6 90 RX6 yX6_lays ct_X6_lays) := tb_goodV m_786 m_783 m_785 m_27 m_ini_RX6
theorem gg_RX6_94 : GoodIn TB (wsV RX6 94 RX6 yX6_closes ct_X6_closes) := tb_goodV m_802 m_799 m_801 m_29 m_ini_RX6
theorem gg_RX6_97 : GoodIn TB (wsV RX6 97 RX6 yX6_goes ct_X6_goes) := tb_goodV m_798 m_795 m_797 m_28 m_ini_RX6
theorem gg_RX6_100 : GoodIn TB (wsV RX6 100 RX6 yX6_forgets ct_X6_forgets) := tb_goodV m_806 m_803 m_805 m_30 m_ini_RX6
theorem gg_RX6_103 : GoodIn TB (wsV RX6 103 RX6 yX6_clips ct_X6_clips) := tb_goodV m_814 m_811 m_813 m_31 m_ini_RX6
theorem gg_RX6_106 : GoodIn TB (wsV RX6 106 RX6 yX6_height ct_X6_height) := tb_goodV m_826 m_823 m_825 m_32 m_ini_RX6
theorem gg_RX6_109 : GoodIn TB (wsV RX6 109 RX6 yX6_sinks ct_X6_sinks) := tb_goodV m_830 m_827 m_829 m_33 m_ini_RX6
theorem gg_RX6_112 : GoodIn TB (wsV RX6 112 RX6 yX6_swaps ct_X6_swaps) := tb_goodV m_842 m_839 m_841 m_34 m_ini_RX6
theorem gg_RX6_115 : GoodIn TB (wsV RX6 115 RX6 yX6_which ct_X6_which) := tb_goodV m_846 m_843 m_845 m_35 m_ini_RX6
theorem gg_RX6_118 : GoodIn TB (wsV RX6 118 RX6 yX6_clipHeight ct_X6_clipHeight) := tb_goodV m_854 m_851 m_853 m_36 m_ini_RX6
theorem gg_RX6_124 : GoodIn TB (wsV RX6 124 RX6 yX6_marksAt ct_X6_marksAt) := tb_goodV m_873 m_870 m_872 m_37 m_ini_RX6
theorem gg_RX6_127 : GoodIn TB (wsV RX6 127 RX6 yX6_leaves ct_X6_leaves) := tb_goodV m_889 m_886 m_888 m_38 m_ini_RX6
theorem gg_RX6_133 : GoodIn TB (wsV RX6 133 RX6 yX6_unlike ct_X6_unlike) := tb_goodV m_893 m_890 m_892 m_39 m_ini_RX6
theorem gg_RX6_136 : GoodIn TB (wsV RX6 136 RX6 yX6_areLike ct_X6_areLike) := tb_goodV m_901 m_898 m_900 m_40 m_ini_RX6
theorem gg_RX6_140 : GoodIn TB (wsV RX6 140 RX6 yX6_puts ct_X6_puts) := tb_goodV m_929 m_926 m_928 m_41 m_ini_RX6
theorem gg_RX6_153 : GoodIn TB (wsV RX6 153 RX6 yX6_breaks ct_X6_breaks) := tb_goodV m_941 m_938 m_940 m_43 m_ini_RX6
theorem gg_RX6_156 : GoodIn TB (wsV RX6 156 RX6 yX6_isTree ct_X6_isTree) := tb_goodV m_937 m_934 m_936 m_42 m_ini_RX6
