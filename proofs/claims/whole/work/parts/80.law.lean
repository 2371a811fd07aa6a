/-! THE CLAIM OUT OF ONE WALK OF THE LAW'S BODY. Your part is whole_start (and what it stands on); all else here is the same for every law, but numbers. -/
def R_law : String := "TreePlacesLaw"
def lw_P (b : Addr) (xs : List Int32) (args : Array Value) (s : State) : Prop := args = #[.ref b] ∧ s.IntsAt b xs ∧ xs.length ≤ 1536 ∧ (Jvm.Cond.and given_1 narrow_1).before args s = true
def lw_Q (_ : Array Value) (s : State) (o : Outcome) (t : State) : Prop := o = .returned (some (.int 1)) ∧ Framed s o t [] 600000 7302250
def lw_Z (below : List Frame) (a : Array Value) (s : State) : State → Prop := fun t => ∃ o, t.status = .running ∧ Ended t below o ∧ lw_Q a s o t
/-- the law's own end, with 1 on the stack, nothing written that was there before, its room as the claim has it -/
theorem lw_ret {p : Program} {l : Launch} {e : Env} {s : State} {m : MethodId} {below : List Frame} {meth : Method} {c : Code} {b : Nat} (hx : p.tables.exec = Jvm.exec) (hb : c.code = code) (hr : meth.sig.returnType = ret) (hlocks : meth.locks = false) {pc : Nat} {H : Heap} {ls : Array Slot} (hdg : decode code pc = .ok (.ireturn, 1)) : W p l e room_1 s m #[Value.ref b] below meth c H [] 600000 7302250 (lw_Z below #[Value.ref b] s) (F0 m pc ls [.int 1]) := by
  intro T hT X
  obtain ⟨fs, hret, hrun, hended, hW, hframe⟩ := X.leave (v := some (.int 1)) (hlocks := hlocks) (fun h => by rw [hr] at h; cases h)
  have hmeth' : T.vm.method? m = some meth := X.method'
  refine ⟨T.setFrames fs, ?_, .returned (some (.int 1)), hrun, hended, rfl, ⟨_, rfl⟩, hW, hframe⟩
  jvm_step X.here [X.here.top, hx, hb, hdg, hmeth', hr, ret, narrow_b1]
  (try refine ⟨rfl, ?_⟩); (try refine ⟨rfl, ?_⟩)
  first | (intro acts; rw [hret _ acts rfl rfl rfl]) | rw [hret _ _ rfl rfl rfl]
  exact Steps.refl _
/-- what holds at the law's entry: the machine, the code, the tables' words (any of lw_tbl by 'hts w (by decide +kernel)'), the script of L ints xs at the cell b, what the Statement gives of the start (any of its parts by flat_of_before) -/
def lw_At (p : Program) (s : State) (m : MethodId) (meth : Method) (c : Code) (b L : Nat) (xs : Nat → Int32) : Prop :=
  p.tables.exec = Jvm.exec ∧ c.code = code ∧ meth.sig.returnType = ret ∧ c.maxLocals = 4 ∧ s.vm.findClass R_law = some m.cls ∧ (∀ w ∈ lw_tbl, w.before #[Value.ref b] s = true) ∧ va_X b L xs s s.heap ∧ b < s.heap.size ∧ meth.locks = false ∧ (Jvm.Cond.and given_1 narrow_1).before #[Value.ref b] s = true

section LawRows
variable {l : Launch} {κ : kT} {D : va_G} {tys : List (ClassId × FieldType)} {A : Nat → Prop} {cc : ByteArray} {nL : Nat} {own : String} {rm : Room} {ret : Option FieldType} {nm : String} {k n : Nat} {Q : State → Prop} {cs cs0 : List va_W} {lv : List (Nat × Value)} {pc : Nat} {st : List Value} {b L : Nat} {xs : Nat → Int32}
theorem g_sld (C : kC κ D tys A cc nL own rm ret nm) (hX : va_X b L xs (kS κ) (kS κ).heap) (hbl : b < (kS κ).heap.size) (hbA : ¬ A b) {i : Int32} (hin : ¬ (i < 0 ∨ L ≤ ix i)) (hd : decode cc pc = .ok (.iaload, 1)) (kk : kG κ D A nL k n Q cs lv (pc + 1) (.int (xs (ix i)) :: st)) : kG κ D A nL k n Q cs lv pc (.int i :: .ref b :: st) :=
  fun H locs ls hP hD hS hl => va_sld C.1 C.2.1 hX hbl hbA hS hin hd (kk H locs ls hP hD hS hl)
theorem g_slen (C : kC κ D tys A cc nL own rm ret nm) (hX : va_X b L xs (kS κ) (kS κ).heap) (hbl : b < (kS κ).heap.size) (hbA : ¬ A b) (hd : decode cc pc = .ok (.arraylength, 1)) (kk : kG κ D A nL k n Q cs lv (pc + 1) (.int (Int32.ofNat L) :: st)) : kG κ D A nL k n Q cs lv pc (.ref b :: st) :=
  fun H locs ls hP hD hS hl => va_slen C.1 C.2.1 hX hbl hbA hS hd (kk H locs ls hP hD hS hl)
theorem g_callVL {y : MethodName} {fr lo : Nat} {As : List Value} {sel rest sel' : List va_W} {v0 : Option Value} {bytes : ByteArray} {maxL : Nat} {retc : Option FieldType} {index : Nat} {Cn : String} {ci : Nat} {fs : List Value} {b : Nat} {T : u_T} {N na : Nat} {st0 : List Value} (hla : κ.2.1 = l) (C : kC κ D tys A cc nL own rm ret nm)
    (hM : kM l D tys y (Cond.code y bytes maxL retc :: TB) { frames := fr, cells := 0, slots := 0, locals := lo } (.ref b :: As) sel (kEq v0 sel')) (hg : GoodIn TB (wsV own index Cn y (Cond.code y bytes maxL retc :: TB)))
    (hd : y.cls = Cn ∧ y.cls ≠ "java/lang/invoke/MethodHandle" ∧ y.cls ≠ "java/lang/invoke/VarHandle" ∧ (parseMethodDescriptor y.desc).map (fun d => d.parameters.length) = some na) (hR : fr + 1 ≤ rm.frames ∧ 8 + (maxL + 11) + lo ≤ rm.locals) (hk : k ≤ rm.cells) (hn : n ≤ rm.slots)
    (hrec : sel.flatten[0]? = some (b, .inr (ci, fs))) (hc : vwCl[ci]? = some (Cn, T, N)) (hna : As.length = na) (hst : st0 = As.reverse ++ .ref b :: st) (hcat : (st.map fun v => v.category).sum ≤ 8)
    (hdg : decode cc pc = .ok (.invokevirtual index, 3)) (hsp : cs.flatten.Perm (sel ++ rest).flatten) (hsp' : (sel' ++ rest).flatten.Perm cs0.flatten) (st' : List Value) (hst' : v0.toList ++ st = st') (kk : kG κ D A nL k n Q cs0 lv (pc + 3) st') : kG κ D A nL k n Q cs lv pc st0 := by
  subst hst'
  refine g_callV hla C hM hg rfl hd hR hrec hc hna hst hcat hk hn hdg hsp (fun v s h => ?_)
  obtain ⟨rfl, rfl⟩ := h
  exact g_world hsp' kk
end LawRows
def csL (cI cS : ClassId) (a : aP) (x : TP) (b : aM) (m : MD) : List va_W := [wP cI cS a x, wM cI cS b m]
theorem seL0 (cI cS : ClassId) (a : aP) (x : TP) (b : aM) (m : MD) : (csL cI cS a x b m).flatten.Perm (([wP cI cS a x] : List va_W) ++ [wM cI cS b m]).flatten := List.Perm.refl _
theorem seL1 (cI cS : ClassId) (a : aP) (x : TP) (b : aM) (m : MD) : (csL cI cS a x b m).flatten.Perm (([wM cI cS b m] : List va_W) ++ [wP cI cS a x]).flatten :=
  k_sel (N := 2) (pieces := [wM cI cS b m]) [1] [0] rfl (by decide) rfl rfl rfl
theorem law_in {L t j : Nat} (h : 3 * t + 3 ≤ L) (hL : L ≤ 1536) (hj : j < 3) : ¬ (nI (3 * t + j) < 0 ∨ L ≤ ix (nI (3 * t + j))) := nI_in (by omega) (by omega)
theorem law_ix (t j : Nat) : nI (3 * t) + nI j = nI (3 * t + j) := (Int32.ofNat_add (3 * t) j).symm
theorem law_gt {L t : Nat} (hL : L ≤ 1536) (ht : t ≤ 513) : ((Int32.ofNat L - 3) < nI (3 * t)) ↔ L < 3 * t + 3 := by
  rw [Int32.lt_iff_toInt_lt, nI_toInt (by omega), Int32.toInt_sub, show (Int32.ofNat L).toInt = (L : Int) from nI_toInt (by omega), show (3 : Int32).toInt = 3 from by decide, Int.bmod_eq_of_le (by omega) (by omega)]
  omega
set_option maxHeartbeats 16000000 in
set_option maxRecDepth 100000 in
theorem law_loop (l : Launch) (κ : kT) (D : va_G) (cI cS : ClassId) (A : Nat → Prop) (nm : String) (C : kC κ D (kTy cI cS) A code 4 RL room_1 ret nm) (hla : κ.2.1 = l) {b L : Nat} {xs : Nat → Int32} (hX : va_X b L xs (kS κ) (kS κ).heap) (hbl : b < (kS κ).heap.size) (hbA : ¬ A b) (hL : L ≤ 1536) (a : aP) (a' : aM) (Q : State → Prop) (Sim : Nat → TP → MD → Prop) (hs : sm_all Sim) (hd : ∀ t x m, t < 512 → Sim t x m → Sim (t + 1) x m)
    (hend : ∀ cs lv, kG κ D A 4 600000 7302250 Q cs lv 822 [.int 1]) : ∀ (n t : Nat) (x : TP) (m : MD), 513 ≤ t + n → t ≤ 513 → Sim t x m → kG κ D A 4 600000 7302250 Q (csL cI cS a x a' m) [(0, .ref b), (1, .ref a.1), (2, .ref a'.1), (3, .int (nI (3 * t)))] 18 [] := by
  obtain ⟨h_down, h_up, h_side, h_step, h_top, h_back, h_letter, h_child, h_beside, h_delete, h_wrap, h_lift, h_exchange, h_cut, h_copy, h_paste, h_mark, h_goTo, h_nodeOf, h_spine, h_marked, h_count, h_like, h_meet, h_find, h_undo, h_type, h_clearText, h_write, h_fault, h_read⟩ := hs
  intro n
  induction n with
  | zero =>
    intro t x m hn ht hsim
    refine g_iload_n (pc := 18) C 3 dL_law_18 rfl ?_
    refine g_aload_n (pc := 19) C 0 dL_law_19 rfl ?_
    refine g_slen (pc := 20) C hX hbl hbA dL_law_20 ?_
    refine g_iconst (pc := 21) C 3 dL_law_21 (by decide) ?_
    refine g_isub (pc := 22) C dL_law_22 ?_
    refine g_icmp_gt (pc := 23) C 821 dL_law_23 (by decide) (fun _ => ?_) (fun q => absurd ((law_gt hL ht).mpr (by omega)) q)
    refine g_iconst (pc := 821) C 1 dL_law_821 (by decide) ?_
    exact hend _ _
  | succ n ih =>
    intro t x m hn ht hsim
    refine g_iload_n (pc := 18) C 3 dL_law_18 rfl ?_
    refine g_aload_n (pc := 19) C 0 dL_law_19 rfl ?_
    refine g_slen (pc := 20) C hX hbl hbA dL_law_20 ?_
    refine g_iconst (pc := 21) C 3 dL_law_21 (by decide) ?_
    refine g_isub (pc := 22) C dL_law_22 ?_
    refine g_icmp_gt (pc := 23) C 821 dL_law_23 (by decide) (fun _ => ?_) (fun q => ?_)
    · refine g_iconst (pc := 821) C 1 dL_law_821 (by decide) ?_
      exact hend _ _
    have hlt : 3 * t + 3 ≤ L := Nat.not_lt.mp (fun z => q ((law_gt hL ht).mpr z))
    have ht5 : t < 512 := by omega
    have J815 : ∀ (x : TP) (m : MD), Sim (t + 1) x m → kG κ D A 4 600000 7302250 Q (csL cI cS a x a' m) [(0, .ref b), (1, .ref a.1), (2, .ref a'.1), (3, .int (nI (3 * t)))] 815 [] := by
      intro x m hsim
      refine g_iinc (pc := 815) C 3 (nI (3 * (t + 1))) [(3, .int (nI (3 * (t + 1)))), (0, .ref b), (1, .ref a.1), (2, .ref a'.1)] dL_law_815 rfl (law_ix t 3) (by decide) rfl ?_
      refine g_goto (pc := 818) C 18 dL_law_818 (by decide) ?_
      refine g_sub [1, 2, 3, 0] (lv' := [(0, .ref b), (1, .ref a.1), (2, .ref a'.1), (3, .int (nI (3 * (t + 1))))]) rfl ?_
      exact ih (t + 1) x m (by omega) (by omega) hsim
    have e0 : ¬ (nI (3 * t) < 0 ∨ L ≤ ix (nI (3 * t))) := law_in (j := 0) hlt hL (by decide)
    have e1 : ¬ (nI (3 * t) + 1 < 0 ∨ L ≤ ix (nI (3 * t) + 1)) := by rw [show nI (3 * t) + 1 = nI (3 * t + 1) from law_ix t 1]; exact law_in hlt hL (by decide)
    have e2 : ¬ (nI (3 * t) + 2 < 0 ∨ L ≤ ix (nI (3 * t) + 2)) := by rw [show nI (3 * t) + 2 = nI (3 * t + 2) from law_ix t 2]; exact law_in hlt hL (by decide)
    refine g_aload_n (pc := 26) C 0 dL_law_26 rfl ?_
    refine g_iload_n (pc := 27) C 3 dL_law_27 rfl ?_
    refine g_sld (pc := 28) C hX hbl hbA e0 dL_law_28 ?_
    refine g_bipush (pc := 29) C 31 dL_law_29 (by decide) ?_
    refine g_iand (pc := 31) C dL_law_31 ?_
    generalize (xs (ix (nI (3 * t))) &&& 31) = z
    by_cases w0 : z = 0
    · refine g_tableIn (pc := 32) C 172 (off := 140) dL_law_32 (by rw [k_eq (z := 0) (by decide) w0]; decide) (by rw [k_eq (z := 0) (by decide) w0]; decide) (by rw [k_eq (z := 0) (by decide) w0]; rfl) (by decide) ?_
      obtain ⟨r, x', m', hp, hm, hsim⟩ := h_down t x m (xs (ix (nI (3 * t) + 1))) ht5 hsim
      refine g_aload_n (pc := 172) C 1 dL_law_172 rfl ?_
      refine g_aload_n (pc := 173) C 0 dL_law_173 rfl ?_
      refine g_iload_n (pc := 174) C 3 dL_law_174 rfl ?_
      refine g_iconst (pc := 175) C 1 dL_law_175 (by decide) ?_
      refine g_iadd (pc := 176) C dL_law_176 ?_
      refine g_sld (pc := 177) C hX hbl hbA e1 dL_law_177 ?_
      refine g_callVL (pc := 178) hla C (c_X5_down l D cI cS a x (xs (ix (nI (3 * t) + 1))) (r, x') hp) gg_RL_13 hd_X5_down (by decide) (Nat.le_refl _) (Nat.le_refl _) rfl rfl rfl rfl (Nat.le_of_ble_eq_true rfl) dL_law_178 (seL0 cI cS a x a' m) (seL0 cI cS a x' a' m).symm [.int r] rfl ?_
      refine g_aload_n (pc := 181) C 2 dL_law_181 rfl ?_
      refine g_aload_n (pc := 182) C 0 dL_law_182 rfl ?_
      refine g_iload_n (pc := 183) C 3 dL_law_183 rfl ?_
      refine g_iconst (pc := 184) C 1 dL_law_184 (by decide) ?_
      refine g_iadd (pc := 185) C dL_law_185 ?_
      refine g_sld (pc := 186) C hX hbl hbA e1 dL_law_186 ?_
      refine g_callVL (pc := 187) hla C (c_X6_down l D cI cS a' m (xs (ix (nI (3 * t) + 1))) (r, m') hm) gg_RL_17 hd_X6_down (by decide) (Nat.le_refl _) (Nat.le_refl _) rfl rfl rfl rfl (Nat.le_of_ble_eq_true rfl) dL_law_187 (seL1 cI cS a x' a' m) (seL1 cI cS a x' a' m').symm [.int r, .int r] rfl ?_
      refine g_icmp_eq (pc := 190) C 815 dL_law_190 (by decide) (fun _ => ?_) (fun q => absurd rfl q)
      exact J815 x' m' hsim
    by_cases w1 : z = 1
    · refine g_tableIn (pc := 32) C 195 (off := 163) dL_law_32 (by rw [k_eq (z := 1) (by decide) w1]; decide) (by rw [k_eq (z := 1) (by decide) w1]; decide) (by rw [k_eq (z := 1) (by decide) w1]; rfl) (by decide) ?_
      obtain ⟨r, x', m', hp, hm, hsim⟩ := h_up t x m  ht5 hsim
      refine g_aload_n (pc := 195) C 1 dL_law_195 rfl ?_
      refine g_callVL (pc := 196) hla C (c_X5_up l D cI cS a x  (r, x') hp) gg_RL_18 hd_X5_up (by decide) (Nat.le_refl _) (Nat.le_refl _) rfl rfl rfl rfl (Nat.le_of_ble_eq_true rfl) dL_law_196 (seL0 cI cS a x a' m) (seL0 cI cS a x' a' m).symm [.int r] rfl ?_
      refine g_aload_n (pc := 199) C 2 dL_law_199 rfl ?_
      refine g_callVL (pc := 200) hla C (c_X6_up l D cI cS a' m  (r, m') hm) gg_RL_22 hd_X6_up (by decide) (Nat.le_refl _) (Nat.le_refl _) rfl rfl rfl rfl (Nat.le_of_ble_eq_true rfl) dL_law_200 (seL1 cI cS a x' a' m) (seL1 cI cS a x' a' m').symm [.int r, .int r] rfl ?_
      refine g_icmp_eq (pc := 203) C 815 dL_law_203 (by decide) (fun _ => ?_) (fun q => absurd rfl q)
      exact J815 x' m' hsim
    by_cases w2 : z = 2
    · refine g_tableIn (pc := 32) C 208 (off := 176) dL_law_32 (by rw [k_eq (z := 2) (by decide) w2]; decide) (by rw [k_eq (z := 2) (by decide) w2]; decide) (by rw [k_eq (z := 2) (by decide) w2]; rfl) (by decide) ?_
      obtain ⟨r, x', m', hp, hm, hsim⟩ := h_side t x m (xs (ix (nI (3 * t) + 1))) ht5 hsim
      refine g_aload_n (pc := 208) C 1 dL_law_208 rfl ?_
      refine g_aload_n (pc := 209) C 0 dL_law_209 rfl ?_
      refine g_iload_n (pc := 210) C 3 dL_law_210 rfl ?_
      refine g_iconst (pc := 211) C 1 dL_law_211 (by decide) ?_
      refine g_iadd (pc := 212) C dL_law_212 ?_
      refine g_sld (pc := 213) C hX hbl hbA e1 dL_law_213 ?_
      refine g_callVL (pc := 214) hla C (c_X5_side l D cI cS a x (xs (ix (nI (3 * t) + 1))) (r, x') hp) gg_RL_23 hd_X5_side (by decide) (Nat.le_refl _) (Nat.le_refl _) rfl rfl rfl rfl (Nat.le_of_ble_eq_true rfl) dL_law_214 (seL0 cI cS a x a' m) (seL0 cI cS a x' a' m).symm [.int r] rfl ?_
      refine g_aload_n (pc := 217) C 2 dL_law_217 rfl ?_
      refine g_aload_n (pc := 218) C 0 dL_law_218 rfl ?_
      refine g_iload_n (pc := 219) C 3 dL_law_219 rfl ?_
      refine g_iconst (pc := 220) C 1 dL_law_220 (by decide) ?_
      refine g_iadd (pc := 221) C dL_law_221 ?_
      refine g_sld (pc := 222) C hX hbl hbA e1 dL_law_222 ?_
      refine g_callVL (pc := 223) hla C (c_X6_side l D cI cS a' m (xs (ix (nI (3 * t) + 1))) (r, m') hm) gg_RL_26 hd_X6_side (by decide) (Nat.le_refl _) (Nat.le_refl _) rfl rfl rfl rfl (Nat.le_of_ble_eq_true rfl) dL_law_223 (seL1 cI cS a x' a' m) (seL1 cI cS a x' a' m').symm [.int r, .int r] rfl ?_
      refine g_icmp_eq (pc := 226) C 815 dL_law_226 (by decide) (fun _ => ?_) (fun q => absurd rfl q)
      exact J815 x' m' hsim
    by_cases w3 : z = 3
    · refine g_tableIn (pc := 32) C 231 (off := 199) dL_law_32 (by rw [k_eq (z := 3) (by decide) w3]; decide) (by rw [k_eq (z := 3) (by decide) w3]; decide) (by rw [k_eq (z := 3) (by decide) w3]; rfl) (by decide) ?_
      obtain ⟨r, x', m', hp, hm, hsim⟩ := h_step t x m (xs (ix (nI (3 * t) + 1))) ht5 hsim
      refine g_aload_n (pc := 231) C 1 dL_law_231 rfl ?_
      refine g_aload_n (pc := 232) C 0 dL_law_232 rfl ?_
      refine g_iload_n (pc := 233) C 3 dL_law_233 rfl ?_
      refine g_iconst (pc := 234) C 1 dL_law_234 (by decide) ?_
      refine g_iadd (pc := 235) C dL_law_235 ?_
      refine g_sld (pc := 236) C hX hbl hbA e1 dL_law_236 ?_
      refine g_callVL (pc := 237) hla C (c_X5_step l D cI cS a x (xs (ix (nI (3 * t) + 1))) (r, x') hp) gg_RL_27 hd_X5_step (by decide) (Nat.le_refl _) (Nat.le_refl _) rfl rfl rfl rfl (Nat.le_of_ble_eq_true rfl) dL_law_237 (seL0 cI cS a x a' m) (seL0 cI cS a x' a' m).symm [.int r] rfl ?_
      refine g_aload_n (pc := 240) C 2 dL_law_240 rfl ?_
      refine g_aload_n (pc := 241) C 0 dL_law_241 rfl ?_
      refine g_iload_n (pc := 242) C 3 dL_law_242 rfl ?_
      refine g_iconst (pc := 243) C 1 dL_law_243 (by decide) ?_
      refine g_iadd (pc := 244) C dL_law_244 ?_
      refine g_sld (pc := 245) C hX hbl hbA e1 dL_law_245 ?_
      refine g_callVL (pc := 246) hla C (c_X6_step l D cI cS a' m (xs (ix (nI (3 * t) + 1))) (r, m') hm) gg_RL_30 hd_X6_step (by decide) (Nat.le_refl _) (Nat.le_refl _) rfl rfl rfl rfl (Nat.le_of_ble_eq_true rfl) dL_law_246 (seL1 cI cS a x' a' m) (seL1 cI cS a x' a' m').symm [.int r, .int r] rfl ?_
      refine g_icmp_eq (pc := 249) C 815 dL_law_249 (by decide) (fun _ => ?_) (fun q => absurd rfl q)
      exact J815 x' m' hsim
    by_cases w4 : z = 4
    · refine g_tableIn (pc := 32) C 254 (off := 222) dL_law_32 (by rw [k_eq (z := 4) (by decide) w4]; decide) (by rw [k_eq (z := 4) (by decide) w4]; decide) (by rw [k_eq (z := 4) (by decide) w4]; rfl) (by decide) ?_
      obtain ⟨r, x', m', hp, hm, hsim⟩ := h_top t x m  ht5 hsim
      refine g_aload_n (pc := 254) C 1 dL_law_254 rfl ?_
      refine g_callVL (pc := 255) hla C (c_X5_top l D cI cS a x  (r, x') hp) gg_RL_31 hd_X5_top (by decide) (Nat.le_refl _) (Nat.le_refl _) rfl rfl rfl rfl (Nat.le_of_ble_eq_true rfl) dL_law_255 (seL0 cI cS a x a' m) (seL0 cI cS a x' a' m).symm [.int r] rfl ?_
      refine g_aload_n (pc := 258) C 2 dL_law_258 rfl ?_
      refine g_callVL (pc := 259) hla C (c_X6_top l D cI cS a' m  (r, m') hm) gg_RL_34 hd_X6_top (by decide) (Nat.le_refl _) (Nat.le_refl _) rfl rfl rfl rfl (Nat.le_of_ble_eq_true rfl) dL_law_259 (seL1 cI cS a x' a' m) (seL1 cI cS a x' a' m').symm [.int r, .int r] rfl ?_
      refine g_icmp_eq (pc := 262) C 815 dL_law_262 (by decide) (fun _ => ?_) (fun q => absurd rfl q)
      exact J815 x' m' hsim
    by_cases w5 : z = 5
    · refine g_tableIn (pc := 32) C 267 (off := 235) dL_law_32 (by rw [k_eq (z := 5) (by decide) w5]; decide) (by rw [k_eq (z := 5) (by decide) w5]; decide) (by rw [k_eq (z := 5) (by decide) w5]; rfl) (by decide) ?_
      obtain ⟨r, x', m', hp, hm, hsim⟩ := h_back t x m  ht5 hsim
      refine g_aload_n (pc := 267) C 1 dL_law_267 rfl ?_
      refine g_callVL (pc := 268) hla C (c_X5_back l D cI cS a x  (r, x') hp) gg_RL_35 hd_X5_back (by decide) (Nat.le_refl _) (Nat.le_refl _) rfl rfl rfl rfl (Nat.le_of_ble_eq_true rfl) dL_law_268 (seL0 cI cS a x a' m) (seL0 cI cS a x' a' m).symm [.int r] rfl ?_
      refine g_aload_n (pc := 271) C 2 dL_law_271 rfl ?_
      refine g_callVL (pc := 272) hla C (c_X6_back l D cI cS a' m  (r, m') hm) gg_RL_38 hd_X6_back (by decide) (Nat.le_refl _) (Nat.le_refl _) rfl rfl rfl rfl (Nat.le_of_ble_eq_true rfl) dL_law_272 (seL1 cI cS a x' a' m) (seL1 cI cS a x' a' m').symm [.int r, .int r] rfl ?_
      refine g_icmp_eq (pc := 275) C 815 dL_law_275 (by decide) (fun _ => ?_) (fun q => absurd rfl q)
      exact J815 x' m' hsim
    by_cases w6 : z = 6
    · refine g_tableIn (pc := 32) C 280 (off := 248) dL_law_32 (by rw [k_eq (z := 6) (by decide) w6]; decide) (by rw [k_eq (z := 6) (by decide) w6]; decide) (by rw [k_eq (z := 6) (by decide) w6]; rfl) (by decide) ?_
      obtain ⟨r, x', m', hp, hm, hsim⟩ := h_letter t x m (xs (ix (nI (3 * t) + 1))) ht5 hsim
      refine g_aload_n (pc := 280) C 1 dL_law_280 rfl ?_
      refine g_aload_n (pc := 281) C 0 dL_law_281 rfl ?_
      refine g_iload_n (pc := 282) C 3 dL_law_282 rfl ?_
      refine g_iconst (pc := 283) C 1 dL_law_283 (by decide) ?_
      refine g_iadd (pc := 284) C dL_law_284 ?_
      refine g_sld (pc := 285) C hX hbl hbA e1 dL_law_285 ?_
      refine g_callVL (pc := 286) hla C (c_X5_letter l D cI cS a x (xs (ix (nI (3 * t) + 1))) (r, x') hp) gg_RL_39 hd_X5_letter (by decide) (Nat.le_refl _) (Nat.le_refl _) rfl rfl rfl rfl (Nat.le_of_ble_eq_true rfl) dL_law_286 (seL0 cI cS a x a' m) (seL0 cI cS a x' a' m).symm [.int r] rfl ?_
      refine g_aload_n (pc := 289) C 2 dL_law_289 rfl ?_
      refine g_aload_n (pc := 290) C 0 dL_law_290 rfl ?_
      refine g_iload_n (pc := 291) C 3 dL_law_291 rfl ?_
      refine g_iconst (pc := 292) C 1 dL_law_292 (by decide) ?_
      refine g_iadd (pc := 293) C dL_law_293 ?_
      refine g_sld (pc := 294) C hX hbl hbA e1 dL_law_294 ?_
      refine g_callVL (pc := 295) hla C (c_X6_letter l D cI cS a' m (xs (ix (nI (3 * t) + 1))) (r, m') hm) gg_RL_42 hd_X6_letter (by decide) (Nat.le_refl _) (Nat.le_refl _) rfl rfl rfl rfl (Nat.le_of_ble_eq_true rfl) dL_law_295 (seL1 cI cS a x' a' m) (seL1 cI cS a x' a' m').symm [.int r, .int r] rfl ?_
      refine g_icmp_eq (pc := 298) C 815 dL_law_298 (by decide) (fun _ => ?_) (fun q => absurd rfl q)
      exact J815 x' m' hsim
    by_cases w7 : z = 7
    · refine g_tableIn (pc := 32) C 303 (off := 271) dL_law_32 (by rw [k_eq (z := 7) (by decide) w7]; decide) (by rw [k_eq (z := 7) (by decide) w7]; decide) (by rw [k_eq (z := 7) (by decide) w7]; rfl) (by decide) ?_
      obtain ⟨r, x', m', hp, hm, hsim⟩ := h_child t x m (xs (ix (nI (3 * t) + 1))) (xs (ix (nI (3 * t) + 2))) ht5 hsim
      refine g_aload_n (pc := 303) C 1 dL_law_303 rfl ?_
      refine g_aload_n (pc := 304) C 0 dL_law_304 rfl ?_
      refine g_iload_n (pc := 305) C 3 dL_law_305 rfl ?_
      refine g_iconst (pc := 306) C 1 dL_law_306 (by decide) ?_
      refine g_iadd (pc := 307) C dL_law_307 ?_
      refine g_sld (pc := 308) C hX hbl hbA e1 dL_law_308 ?_
      refine g_aload_n (pc := 309) C 0 dL_law_309 rfl ?_
      refine g_iload_n (pc := 310) C 3 dL_law_310 rfl ?_
      refine g_iconst (pc := 311) C 2 dL_law_311 (by decide) ?_
      refine g_iadd (pc := 312) C dL_law_312 ?_
      refine g_sld (pc := 313) C hX hbl hbA e2 dL_law_313 ?_
      refine g_callVL (pc := 314) hla C (c_X5_child l D cI cS a x (xs (ix (nI (3 * t) + 1))) (xs (ix (nI (3 * t) + 2))) (r, x') hp) gg_RL_43 hd_X5_child (by decide) (Nat.le_refl _) (Nat.le_refl _) rfl rfl rfl rfl (Nat.le_of_ble_eq_true rfl) dL_law_314 (seL0 cI cS a x a' m) (seL0 cI cS a x' a' m).symm [.int r] rfl ?_
      refine g_aload_n (pc := 317) C 2 dL_law_317 rfl ?_
      refine g_aload_n (pc := 318) C 0 dL_law_318 rfl ?_
      refine g_iload_n (pc := 319) C 3 dL_law_319 rfl ?_
      refine g_iconst (pc := 320) C 1 dL_law_320 (by decide) ?_
      refine g_iadd (pc := 321) C dL_law_321 ?_
      refine g_sld (pc := 322) C hX hbl hbA e1 dL_law_322 ?_
      refine g_aload_n (pc := 323) C 0 dL_law_323 rfl ?_
      refine g_iload_n (pc := 324) C 3 dL_law_324 rfl ?_
      refine g_iconst (pc := 325) C 2 dL_law_325 (by decide) ?_
      refine g_iadd (pc := 326) C dL_law_326 ?_
      refine g_sld (pc := 327) C hX hbl hbA e2 dL_law_327 ?_
      refine g_callVL (pc := 328) hla C (c_X6_child l D cI cS a' m (xs (ix (nI (3 * t) + 1))) (xs (ix (nI (3 * t) + 2))) (r, m') hm) gg_RL_47 hd_X6_child (by decide) (Nat.le_refl _) (Nat.le_refl _) rfl rfl rfl rfl (Nat.le_of_ble_eq_true rfl) dL_law_328 (seL1 cI cS a x' a' m) (seL1 cI cS a x' a' m').symm [.int r, .int r] rfl ?_
      refine g_icmp_eq (pc := 331) C 815 dL_law_331 (by decide) (fun _ => ?_) (fun q => absurd rfl q)
      exact J815 x' m' hsim
    by_cases w8 : z = 8
    · refine g_tableIn (pc := 32) C 336 (off := 304) dL_law_32 (by rw [k_eq (z := 8) (by decide) w8]; decide) (by rw [k_eq (z := 8) (by decide) w8]; decide) (by rw [k_eq (z := 8) (by decide) w8]; rfl) (by decide) ?_
      obtain ⟨r, x', m', hp, hm, hsim⟩ := h_beside t x m (xs (ix (nI (3 * t) + 1))) (xs (ix (nI (3 * t) + 2))) ht5 hsim
      refine g_aload_n (pc := 336) C 1 dL_law_336 rfl ?_
      refine g_aload_n (pc := 337) C 0 dL_law_337 rfl ?_
      refine g_iload_n (pc := 338) C 3 dL_law_338 rfl ?_
      refine g_iconst (pc := 339) C 1 dL_law_339 (by decide) ?_
      refine g_iadd (pc := 340) C dL_law_340 ?_
      refine g_sld (pc := 341) C hX hbl hbA e1 dL_law_341 ?_
      refine g_aload_n (pc := 342) C 0 dL_law_342 rfl ?_
      refine g_iload_n (pc := 343) C 3 dL_law_343 rfl ?_
      refine g_iconst (pc := 344) C 2 dL_law_344 (by decide) ?_
      refine g_iadd (pc := 345) C dL_law_345 ?_
      refine g_sld (pc := 346) C hX hbl hbA e2 dL_law_346 ?_
      refine g_callVL (pc := 347) hla C (c_X5_beside l D cI cS a x (xs (ix (nI (3 * t) + 1))) (xs (ix (nI (3 * t) + 2))) (r, x') hp) gg_RL_48 hd_X5_beside (by decide) (Nat.le_refl _) (Nat.le_refl _) rfl rfl rfl rfl (Nat.le_of_ble_eq_true rfl) dL_law_347 (seL0 cI cS a x a' m) (seL0 cI cS a x' a' m).symm [.int r] rfl ?_
      refine g_aload_n (pc := 350) C 2 dL_law_350 rfl ?_
      refine g_aload_n (pc := 351) C 0 dL_law_351 rfl ?_
      refine g_iload_n (pc := 352) C 3 dL_law_352 rfl ?_
      refine g_iconst (pc := 353) C 1 dL_law_353 (by decide) ?_
      refine g_iadd (pc := 354) C dL_law_354 ?_
      refine g_sld (pc := 355) C hX hbl hbA e1 dL_law_355 ?_
      refine g_aload_n (pc := 356) C 0 dL_law_356 rfl ?_
      refine g_iload_n (pc := 357) C 3 dL_law_357 rfl ?_
      refine g_iconst (pc := 358) C 2 dL_law_358 (by decide) ?_
      refine g_iadd (pc := 359) C dL_law_359 ?_
      refine g_sld (pc := 360) C hX hbl hbA e2 dL_law_360 ?_
      refine g_callVL (pc := 361) hla C (c_X6_beside l D cI cS a' m (xs (ix (nI (3 * t) + 1))) (xs (ix (nI (3 * t) + 2))) (r, m') hm) gg_RL_51 hd_X6_beside (by decide) (Nat.le_refl _) (Nat.le_refl _) rfl rfl rfl rfl (Nat.le_of_ble_eq_true rfl) dL_law_361 (seL1 cI cS a x' a' m) (seL1 cI cS a x' a' m').symm [.int r, .int r] rfl ?_
      refine g_icmp_eq (pc := 364) C 815 dL_law_364 (by decide) (fun _ => ?_) (fun q => absurd rfl q)
      exact J815 x' m' hsim
    by_cases w9 : z = 9
    · refine g_tableIn (pc := 32) C 369 (off := 337) dL_law_32 (by rw [k_eq (z := 9) (by decide) w9]; decide) (by rw [k_eq (z := 9) (by decide) w9]; decide) (by rw [k_eq (z := 9) (by decide) w9]; rfl) (by decide) ?_
      obtain ⟨r, x', m', hp, hm, hsim⟩ := h_delete t x m  ht5 hsim
      refine g_aload_n (pc := 369) C 1 dL_law_369 rfl ?_
      refine g_callVL (pc := 370) hla C (c_X5_delete l D cI cS a x  (r, x') hp) gg_RL_52 hd_X5_delete (by decide) (Nat.le_refl _) (Nat.le_refl _) rfl rfl rfl rfl (Nat.le_of_ble_eq_true rfl) dL_law_370 (seL0 cI cS a x a' m) (seL0 cI cS a x' a' m).symm [.int r] rfl ?_
      refine g_aload_n (pc := 373) C 2 dL_law_373 rfl ?_
      refine g_callVL (pc := 374) hla C (c_X6_delete l D cI cS a' m  (r, m') hm) gg_RL_55 hd_X6_delete (by decide) (Nat.le_refl _) (Nat.le_refl _) rfl rfl rfl rfl (Nat.le_of_ble_eq_true rfl) dL_law_374 (seL1 cI cS a x' a' m) (seL1 cI cS a x' a' m').symm [.int r, .int r] rfl ?_
      refine g_icmp_eq (pc := 377) C 815 dL_law_377 (by decide) (fun _ => ?_) (fun q => absurd rfl q)
      exact J815 x' m' hsim
    by_cases w10 : z = 10
    · refine g_tableIn (pc := 32) C 382 (off := 350) dL_law_32 (by rw [k_eq (z := 10) (by decide) w10]; decide) (by rw [k_eq (z := 10) (by decide) w10]; decide) (by rw [k_eq (z := 10) (by decide) w10]; rfl) (by decide) ?_
      obtain ⟨r, x', m', hp, hm, hsim⟩ := h_wrap t x m (xs (ix (nI (3 * t) + 1))) ht5 hsim
      refine g_aload_n (pc := 382) C 1 dL_law_382 rfl ?_
      refine g_aload_n (pc := 383) C 0 dL_law_383 rfl ?_
      refine g_iload_n (pc := 384) C 3 dL_law_384 rfl ?_
      refine g_iconst (pc := 385) C 1 dL_law_385 (by decide) ?_
      refine g_iadd (pc := 386) C dL_law_386 ?_
      refine g_sld (pc := 387) C hX hbl hbA e1 dL_law_387 ?_
      refine g_callVL (pc := 388) hla C (c_X5_wrap l D cI cS a x (xs (ix (nI (3 * t) + 1))) (r, x') hp) gg_RL_56 hd_X5_wrap (by decide) (Nat.le_refl _) (Nat.le_refl _) rfl rfl rfl rfl (Nat.le_of_ble_eq_true rfl) dL_law_388 (seL0 cI cS a x a' m) (seL0 cI cS a x' a' m).symm [.int r] rfl ?_
      refine g_aload_n (pc := 391) C 2 dL_law_391 rfl ?_
      refine g_aload_n (pc := 392) C 0 dL_law_392 rfl ?_
      refine g_iload_n (pc := 393) C 3 dL_law_393 rfl ?_
      refine g_iconst (pc := 394) C 1 dL_law_394 (by decide) ?_
      refine g_iadd (pc := 395) C dL_law_395 ?_
      refine g_sld (pc := 396) C hX hbl hbA e1 dL_law_396 ?_
      refine g_callVL (pc := 397) hla C (c_X6_wrap l D cI cS a' m (xs (ix (nI (3 * t) + 1))) (r, m') hm) gg_RL_59 hd_X6_wrap (by decide) (Nat.le_refl _) (Nat.le_refl _) rfl rfl rfl rfl (Nat.le_of_ble_eq_true rfl) dL_law_397 (seL1 cI cS a x' a' m) (seL1 cI cS a x' a' m').symm [.int r, .int r] rfl ?_
      refine g_icmp_eq (pc := 400) C 815 dL_law_400 (by decide) (fun _ => ?_) (fun q => absurd rfl q)
      exact J815 x' m' hsim
    by_cases w11 : z = 11
    · refine g_tableIn (pc := 32) C 405 (off := 373) dL_law_32 (by rw [k_eq (z := 11) (by decide) w11]; decide) (by rw [k_eq (z := 11) (by decide) w11]; decide) (by rw [k_eq (z := 11) (by decide) w11]; rfl) (by decide) ?_
      obtain ⟨r, x', m', hp, hm, hsim⟩ := h_lift t x m  ht5 hsim
      refine g_aload_n (pc := 405) C 1 dL_law_405 rfl ?_
      refine g_callVL (pc := 406) hla C (c_X5_lift l D cI cS a x  (r, x') hp) gg_RL_60 hd_X5_lift (by decide) (Nat.le_refl _) (Nat.le_refl _) rfl rfl rfl rfl (Nat.le_of_ble_eq_true rfl) dL_law_406 (seL0 cI cS a x a' m) (seL0 cI cS a x' a' m).symm [.int r] rfl ?_
      refine g_aload_n (pc := 409) C 2 dL_law_409 rfl ?_
      refine g_callVL (pc := 410) hla C (c_X6_lift l D cI cS a' m  (r, m') hm) gg_RL_63 hd_X6_lift (by decide) (Nat.le_refl _) (Nat.le_refl _) rfl rfl rfl rfl (Nat.le_of_ble_eq_true rfl) dL_law_410 (seL1 cI cS a x' a' m) (seL1 cI cS a x' a' m').symm [.int r, .int r] rfl ?_
      refine g_icmp_eq (pc := 413) C 815 dL_law_413 (by decide) (fun _ => ?_) (fun q => absurd rfl q)
      exact J815 x' m' hsim
    by_cases w12 : z = 12
    · refine g_tableIn (pc := 32) C 418 (off := 386) dL_law_32 (by rw [k_eq (z := 12) (by decide) w12]; decide) (by rw [k_eq (z := 12) (by decide) w12]; decide) (by rw [k_eq (z := 12) (by decide) w12]; rfl) (by decide) ?_
      obtain ⟨r, x', m', hp, hm, hsim⟩ := h_exchange t x m (xs (ix (nI (3 * t) + 1))) ht5 hsim
      refine g_aload_n (pc := 418) C 1 dL_law_418 rfl ?_
      refine g_aload_n (pc := 419) C 0 dL_law_419 rfl ?_
      refine g_iload_n (pc := 420) C 3 dL_law_420 rfl ?_
      refine g_iconst (pc := 421) C 1 dL_law_421 (by decide) ?_
      refine g_iadd (pc := 422) C dL_law_422 ?_
      refine g_sld (pc := 423) C hX hbl hbA e1 dL_law_423 ?_
      refine g_callVL (pc := 424) hla C (c_X5_exchange l D cI cS a x (xs (ix (nI (3 * t) + 1))) (r, x') hp) gg_RL_64 hd_X5_exchange (by decide) (Nat.le_refl _) (Nat.le_refl _) rfl rfl rfl rfl (Nat.le_of_ble_eq_true rfl) dL_law_424 (seL0 cI cS a x a' m) (seL0 cI cS a x' a' m).symm [.int r] rfl ?_
      refine g_aload_n (pc := 427) C 2 dL_law_427 rfl ?_
      refine g_aload_n (pc := 428) C 0 dL_law_428 rfl ?_
      refine g_iload_n (pc := 429) C 3 dL_law_429 rfl ?_
      refine g_iconst (pc := 430) C 1 dL_law_430 (by decide) ?_
      refine g_iadd (pc := 431) C dL_law_431 ?_
      refine g_sld (pc := 432) C hX hbl hbA e1 dL_law_432 ?_
      refine g_callVL (pc := 433) hla C (c_X6_exchange l D cI cS a' m (xs (ix (nI (3 * t) + 1))) (r, m') hm) gg_RL_67 hd_X6_exchange (by decide) (Nat.le_refl _) (Nat.le_refl _) rfl rfl rfl rfl (Nat.le_of_ble_eq_true rfl) dL_law_433 (seL1 cI cS a x' a' m) (seL1 cI cS a x' a' m').symm [.int r, .int r] rfl ?_
      refine g_icmp_eq (pc := 436) C 815 dL_law_436 (by decide) (fun _ => ?_) (fun q => absurd rfl q)
      exact J815 x' m' hsim
    by_cases w13 : z = 13
    · refine g_tableIn (pc := 32) C 441 (off := 409) dL_law_32 (by rw [k_eq (z := 13) (by decide) w13]; decide) (by rw [k_eq (z := 13) (by decide) w13]; decide) (by rw [k_eq (z := 13) (by decide) w13]; rfl) (by decide) ?_
      obtain ⟨r, x', m', hp, hm, hsim⟩ := h_cut t x m  ht5 hsim
      refine g_aload_n (pc := 441) C 1 dL_law_441 rfl ?_
      refine g_callVL (pc := 442) hla C (c_X5_cut l D cI cS a x  (r, x') hp) gg_RL_68 hd_X5_cut (by decide) (Nat.le_refl _) (Nat.le_refl _) rfl rfl rfl rfl (Nat.le_of_ble_eq_true rfl) dL_law_442 (seL0 cI cS a x a' m) (seL0 cI cS a x' a' m).symm [.int r] rfl ?_
      refine g_aload_n (pc := 445) C 2 dL_law_445 rfl ?_
      refine g_callVL (pc := 446) hla C (c_X6_cut l D cI cS a' m  (r, m') hm) gg_RL_71 hd_X6_cut (by decide) (Nat.le_refl _) (Nat.le_refl _) rfl rfl rfl rfl (Nat.le_of_ble_eq_true rfl) dL_law_446 (seL1 cI cS a x' a' m) (seL1 cI cS a x' a' m').symm [.int r, .int r] rfl ?_
      refine g_icmp_eq (pc := 449) C 815 dL_law_449 (by decide) (fun _ => ?_) (fun q => absurd rfl q)
      exact J815 x' m' hsim
    by_cases w14 : z = 14
    · refine g_tableIn (pc := 32) C 454 (off := 422) dL_law_32 (by rw [k_eq (z := 14) (by decide) w14]; decide) (by rw [k_eq (z := 14) (by decide) w14]; decide) (by rw [k_eq (z := 14) (by decide) w14]; rfl) (by decide) ?_
      obtain ⟨r, x', m', hp, hm, hsim⟩ := h_copy t x m  ht5 hsim
      refine g_aload_n (pc := 454) C 1 dL_law_454 rfl ?_
      refine g_callVL (pc := 455) hla C (c_X5_copy l D cI cS a x  (r, x') hp) gg_RL_72 hd_X5_copy (by decide) (Nat.le_refl _) (Nat.le_refl _) rfl rfl rfl rfl (Nat.le_of_ble_eq_true rfl) dL_law_455 (seL0 cI cS a x a' m) (seL0 cI cS a x' a' m).symm [.int r] rfl ?_
      refine g_aload_n (pc := 458) C 2 dL_law_458 rfl ?_
      refine g_callVL (pc := 459) hla C (c_X6_copy l D cI cS a' m  (r, m') hm) gg_RL_75 hd_X6_copy (by decide) (Nat.le_refl _) (Nat.le_refl _) rfl rfl rfl rfl (Nat.le_of_ble_eq_true rfl) dL_law_459 (seL1 cI cS a x' a' m) (seL1 cI cS a x' a' m').symm [.int r, .int r] rfl ?_
      refine g_icmp_eq (pc := 462) C 815 dL_law_462 (by decide) (fun _ => ?_) (fun q => absurd rfl q)
      exact J815 x' m' hsim
    by_cases w15 : z = 15
    · refine g_tableIn (pc := 32) C 467 (off := 435) dL_law_32 (by rw [k_eq (z := 15) (by decide) w15]; decide) (by rw [k_eq (z := 15) (by decide) w15]; decide) (by rw [k_eq (z := 15) (by decide) w15]; rfl) (by decide) ?_
      obtain ⟨r, x', m', hp, hm, hsim⟩ := h_paste t x m (xs (ix (nI (3 * t) + 1))) ht5 hsim
      refine g_aload_n (pc := 467) C 1 dL_law_467 rfl ?_
      refine g_aload_n (pc := 468) C 0 dL_law_468 rfl ?_
      refine g_iload_n (pc := 469) C 3 dL_law_469 rfl ?_
      refine g_iconst (pc := 470) C 1 dL_law_470 (by decide) ?_
      refine g_iadd (pc := 471) C dL_law_471 ?_
      refine g_sld (pc := 472) C hX hbl hbA e1 dL_law_472 ?_
      refine g_callVL (pc := 473) hla C (c_X5_paste l D cI cS a x (xs (ix (nI (3 * t) + 1))) (r, x') hp) gg_RL_76 hd_X5_paste (by decide) (Nat.le_refl _) (Nat.le_refl _) rfl rfl rfl rfl (Nat.le_of_ble_eq_true rfl) dL_law_473 (seL0 cI cS a x a' m) (seL0 cI cS a x' a' m).symm [.int r] rfl ?_
      refine g_aload_n (pc := 476) C 2 dL_law_476 rfl ?_
      refine g_aload_n (pc := 477) C 0 dL_law_477 rfl ?_
      refine g_iload_n (pc := 478) C 3 dL_law_478 rfl ?_
      refine g_iconst (pc := 479) C 1 dL_law_479 (by decide) ?_
      refine g_iadd (pc := 480) C dL_law_480 ?_
      refine g_sld (pc := 481) C hX hbl hbA e1 dL_law_481 ?_
      refine g_callVL (pc := 482) hla C (c_X6_paste l D cI cS a' m (xs (ix (nI (3 * t) + 1))) (r, m') hm) gg_RL_79 hd_X6_paste (by decide) (Nat.le_refl _) (Nat.le_refl _) rfl rfl rfl rfl (Nat.le_of_ble_eq_true rfl) dL_law_482 (seL1 cI cS a x' a' m) (seL1 cI cS a x' a' m').symm [.int r, .int r] rfl ?_
      refine g_icmp_eq (pc := 485) C 815 dL_law_485 (by decide) (fun _ => ?_) (fun q => absurd rfl q)
      exact J815 x' m' hsim
    by_cases w16 : z = 16
    · refine g_tableIn (pc := 32) C 490 (off := 458) dL_law_32 (by rw [k_eq (z := 16) (by decide) w16]; decide) (by rw [k_eq (z := 16) (by decide) w16]; decide) (by rw [k_eq (z := 16) (by decide) w16]; rfl) (by decide) ?_
      obtain ⟨r, x', m', hp, hm, hsim⟩ := h_mark t x m (xs (ix (nI (3 * t) + 1))) ht5 hsim
      refine g_aload_n (pc := 490) C 1 dL_law_490 rfl ?_
      refine g_aload_n (pc := 491) C 0 dL_law_491 rfl ?_
      refine g_iload_n (pc := 492) C 3 dL_law_492 rfl ?_
      refine g_iconst (pc := 493) C 1 dL_law_493 (by decide) ?_
      refine g_iadd (pc := 494) C dL_law_494 ?_
      refine g_sld (pc := 495) C hX hbl hbA e1 dL_law_495 ?_
      refine g_callVL (pc := 496) hla C (c_X5_mark l D cI cS a x (xs (ix (nI (3 * t) + 1))) (r, x') hp) gg_RL_80 hd_X5_mark (by decide) (Nat.le_refl _) (Nat.le_refl _) rfl rfl rfl rfl (Nat.le_of_ble_eq_true rfl) dL_law_496 (seL0 cI cS a x a' m) (seL0 cI cS a x' a' m).symm [.int r] rfl ?_
      refine g_aload_n (pc := 499) C 2 dL_law_499 rfl ?_
      refine g_aload_n (pc := 500) C 0 dL_law_500 rfl ?_
      refine g_iload_n (pc := 501) C 3 dL_law_501 rfl ?_
      refine g_iconst (pc := 502) C 1 dL_law_502 (by decide) ?_
      refine g_iadd (pc := 503) C dL_law_503 ?_
      refine g_sld (pc := 504) C hX hbl hbA e1 dL_law_504 ?_
      refine g_callVL (pc := 505) hla C (c_X6_mark l D cI cS a' m (xs (ix (nI (3 * t) + 1))) (r, m') hm) gg_RL_83 hd_X6_mark (by decide) (Nat.le_refl _) (Nat.le_refl _) rfl rfl rfl rfl (Nat.le_of_ble_eq_true rfl) dL_law_505 (seL1 cI cS a x' a' m) (seL1 cI cS a x' a' m').symm [.int r, .int r] rfl ?_
      refine g_icmp_eq (pc := 508) C 815 dL_law_508 (by decide) (fun _ => ?_) (fun q => absurd rfl q)
      exact J815 x' m' hsim
    by_cases w17 : z = 17
    · refine g_tableIn (pc := 32) C 513 (off := 481) dL_law_32 (by rw [k_eq (z := 17) (by decide) w17]; decide) (by rw [k_eq (z := 17) (by decide) w17]; decide) (by rw [k_eq (z := 17) (by decide) w17]; rfl) (by decide) ?_
      obtain ⟨r, x', m', hp, hm, hsim⟩ := h_goTo t x m (xs (ix (nI (3 * t) + 1))) ht5 hsim
      refine g_aload_n (pc := 513) C 1 dL_law_513 rfl ?_
      refine g_aload_n (pc := 514) C 0 dL_law_514 rfl ?_
      refine g_iload_n (pc := 515) C 3 dL_law_515 rfl ?_
      refine g_iconst (pc := 516) C 1 dL_law_516 (by decide) ?_
      refine g_iadd (pc := 517) C dL_law_517 ?_
      refine g_sld (pc := 518) C hX hbl hbA e1 dL_law_518 ?_
      refine g_callVL (pc := 519) hla C (c_X5_goTo l D cI cS a x (xs (ix (nI (3 * t) + 1))) (r, x') hp) gg_RL_84 hd_X5_goTo (by decide) (Nat.le_refl _) (Nat.le_refl _) rfl rfl rfl rfl (Nat.le_of_ble_eq_true rfl) dL_law_519 (seL0 cI cS a x a' m) (seL0 cI cS a x' a' m).symm [.int r] rfl ?_
      refine g_aload_n (pc := 522) C 2 dL_law_522 rfl ?_
      refine g_aload_n (pc := 523) C 0 dL_law_523 rfl ?_
      refine g_iload_n (pc := 524) C 3 dL_law_524 rfl ?_
      refine g_iconst (pc := 525) C 1 dL_law_525 (by decide) ?_
      refine g_iadd (pc := 526) C dL_law_526 ?_
      refine g_sld (pc := 527) C hX hbl hbA e1 dL_law_527 ?_
      refine g_callVL (pc := 528) hla C (c_X6_goTo l D cI cS a' m (xs (ix (nI (3 * t) + 1))) (r, m') hm) gg_RL_87 hd_X6_goTo (by decide) (Nat.le_refl _) (Nat.le_refl _) rfl rfl rfl rfl (Nat.le_of_ble_eq_true rfl) dL_law_528 (seL1 cI cS a x' a' m) (seL1 cI cS a x' a' m').symm [.int r, .int r] rfl ?_
      refine g_icmp_eq (pc := 531) C 815 dL_law_531 (by decide) (fun _ => ?_) (fun q => absurd rfl q)
      exact J815 x' m' hsim
    by_cases w18 : z = 18
    · refine g_tableIn (pc := 32) C 536 (off := 504) dL_law_32 (by rw [k_eq (z := 18) (by decide) w18]; decide) (by rw [k_eq (z := 18) (by decide) w18]; decide) (by rw [k_eq (z := 18) (by decide) w18]; rfl) (by decide) ?_
      obtain ⟨r, hp, hm, hsim⟩ := h_nodeOf t x m (xs (ix (nI (3 * t) + 1))) (xs (ix (nI (3 * t) + 2))) ht5 hsim
      refine g_aload_n (pc := 536) C 1 dL_law_536 rfl ?_
      refine g_aload_n (pc := 537) C 0 dL_law_537 rfl ?_
      refine g_iload_n (pc := 538) C 3 dL_law_538 rfl ?_
      refine g_iconst (pc := 539) C 1 dL_law_539 (by decide) ?_
      refine g_iadd (pc := 540) C dL_law_540 ?_
      refine g_sld (pc := 541) C hX hbl hbA e1 dL_law_541 ?_
      refine g_aload_n (pc := 542) C 0 dL_law_542 rfl ?_
      refine g_iload_n (pc := 543) C 3 dL_law_543 rfl ?_
      refine g_iconst (pc := 544) C 2 dL_law_544 (by decide) ?_
      refine g_iadd (pc := 545) C dL_law_545 ?_
      refine g_sld (pc := 546) C hX hbl hbA e2 dL_law_546 ?_
      refine g_callVL (pc := 547) hla C (c_X5_nodeOf l D cI cS a x (xs (ix (nI (3 * t) + 1))) (xs (ix (nI (3 * t) + 2))) r hp) gg_RL_88 hd_X5_nodeOf (by decide) (Nat.le_refl _) (Nat.le_refl _) rfl rfl rfl rfl (Nat.le_of_ble_eq_true rfl) dL_law_547 (seL0 cI cS a x a' m) (seL0 cI cS a x a' m).symm [.int r] rfl ?_
      refine g_aload_n (pc := 550) C 2 dL_law_550 rfl ?_
      refine g_aload_n (pc := 551) C 0 dL_law_551 rfl ?_
      refine g_iload_n (pc := 552) C 3 dL_law_552 rfl ?_
      refine g_iconst (pc := 553) C 1 dL_law_553 (by decide) ?_
      refine g_iadd (pc := 554) C dL_law_554 ?_
      refine g_sld (pc := 555) C hX hbl hbA e1 dL_law_555 ?_
      refine g_aload_n (pc := 556) C 0 dL_law_556 rfl ?_
      refine g_iload_n (pc := 557) C 3 dL_law_557 rfl ?_
      refine g_iconst (pc := 558) C 2 dL_law_558 (by decide) ?_
      refine g_iadd (pc := 559) C dL_law_559 ?_
      refine g_sld (pc := 560) C hX hbl hbA e2 dL_law_560 ?_
      refine g_callVL (pc := 561) hla C (c_X6_nodeOf l D cI cS a' m (xs (ix (nI (3 * t) + 1))) (xs (ix (nI (3 * t) + 2))) r hm) gg_RL_91 hd_X6_nodeOf (by decide) (Nat.le_refl _) (Nat.le_refl _) rfl rfl rfl rfl (Nat.le_of_ble_eq_true rfl) dL_law_561 (seL1 cI cS a x a' m) (seL1 cI cS a x a' m).symm [.int r, .int r] rfl ?_
      refine g_icmp_eq (pc := 564) C 815 dL_law_564 (by decide) (fun _ => ?_) (fun q => absurd rfl q)
      exact J815 x m hsim
    by_cases w19 : z = 19
    · refine g_tableIn (pc := 32) C 569 (off := 537) dL_law_32 (by rw [k_eq (z := 19) (by decide) w19]; decide) (by rw [k_eq (z := 19) (by decide) w19]; decide) (by rw [k_eq (z := 19) (by decide) w19]; rfl) (by decide) ?_
      obtain ⟨r, hp, hm, hsim⟩ := h_spine t x m (xs (ix (nI (3 * t) + 1))) (xs (ix (nI (3 * t) + 2))) ht5 hsim
      refine g_aload_n (pc := 569) C 1 dL_law_569 rfl ?_
      refine g_aload_n (pc := 570) C 0 dL_law_570 rfl ?_
      refine g_iload_n (pc := 571) C 3 dL_law_571 rfl ?_
      refine g_iconst (pc := 572) C 1 dL_law_572 (by decide) ?_
      refine g_iadd (pc := 573) C dL_law_573 ?_
      refine g_sld (pc := 574) C hX hbl hbA e1 dL_law_574 ?_
      refine g_aload_n (pc := 575) C 0 dL_law_575 rfl ?_
      refine g_iload_n (pc := 576) C 3 dL_law_576 rfl ?_
      refine g_iconst (pc := 577) C 2 dL_law_577 (by decide) ?_
      refine g_iadd (pc := 578) C dL_law_578 ?_
      refine g_sld (pc := 579) C hX hbl hbA e2 dL_law_579 ?_
      refine g_callVL (pc := 580) hla C (c_X5_spine l D cI cS a x (xs (ix (nI (3 * t) + 1))) (xs (ix (nI (3 * t) + 2))) r hp) gg_RL_92 hd_X5_spine (by decide) (Nat.le_refl _) (Nat.le_refl _) rfl rfl rfl rfl (Nat.le_of_ble_eq_true rfl) dL_law_580 (seL0 cI cS a x a' m) (seL0 cI cS a x a' m).symm [.int r] rfl ?_
      refine g_aload_n (pc := 583) C 2 dL_law_583 rfl ?_
      refine g_aload_n (pc := 584) C 0 dL_law_584 rfl ?_
      refine g_iload_n (pc := 585) C 3 dL_law_585 rfl ?_
      refine g_iconst (pc := 586) C 1 dL_law_586 (by decide) ?_
      refine g_iadd (pc := 587) C dL_law_587 ?_
      refine g_sld (pc := 588) C hX hbl hbA e1 dL_law_588 ?_
      refine g_aload_n (pc := 589) C 0 dL_law_589 rfl ?_
      refine g_iload_n (pc := 590) C 3 dL_law_590 rfl ?_
      refine g_iconst (pc := 591) C 2 dL_law_591 (by decide) ?_
      refine g_iadd (pc := 592) C dL_law_592 ?_
      refine g_sld (pc := 593) C hX hbl hbA e2 dL_law_593 ?_
      refine g_callVL (pc := 594) hla C (c_X6_spine l D cI cS a' m (xs (ix (nI (3 * t) + 1))) (xs (ix (nI (3 * t) + 2))) r hm) gg_RL_95 hd_X6_spine (by decide) (Nat.le_refl _) (Nat.le_refl _) rfl rfl rfl rfl (Nat.le_of_ble_eq_true rfl) dL_law_594 (seL1 cI cS a x a' m) (seL1 cI cS a x a' m).symm [.int r, .int r] rfl ?_
      refine g_icmp_eq (pc := 597) C 815 dL_law_597 (by decide) (fun _ => ?_) (fun q => absurd rfl q)
      exact J815 x m hsim
    by_cases w20 : z = 20
    · refine g_tableIn (pc := 32) C 602 (off := 570) dL_law_32 (by rw [k_eq (z := 20) (by decide) w20]; decide) (by rw [k_eq (z := 20) (by decide) w20]; decide) (by rw [k_eq (z := 20) (by decide) w20]; rfl) (by decide) ?_
      obtain ⟨r, hp, hm, hsim⟩ := h_marked t x m (xs (ix (nI (3 * t) + 1))) ht5 hsim
      refine g_aload_n (pc := 602) C 1 dL_law_602 rfl ?_
      refine g_aload_n (pc := 603) C 0 dL_law_603 rfl ?_
      refine g_iload_n (pc := 604) C 3 dL_law_604 rfl ?_
      refine g_iconst (pc := 605) C 1 dL_law_605 (by decide) ?_
      refine g_iadd (pc := 606) C dL_law_606 ?_
      refine g_sld (pc := 607) C hX hbl hbA e1 dL_law_607 ?_
      refine g_callVL (pc := 608) hla C (c_X5_marked l D cI cS a x (xs (ix (nI (3 * t) + 1))) r hp) gg_RL_96 hd_X5_marked (by decide) (Nat.le_refl _) (Nat.le_refl _) rfl rfl rfl rfl (Nat.le_of_ble_eq_true rfl) dL_law_608 (seL0 cI cS a x a' m) (seL0 cI cS a x a' m).symm [.int r] rfl ?_
      refine g_aload_n (pc := 611) C 2 dL_law_611 rfl ?_
      refine g_aload_n (pc := 612) C 0 dL_law_612 rfl ?_
      refine g_iload_n (pc := 613) C 3 dL_law_613 rfl ?_
      refine g_iconst (pc := 614) C 1 dL_law_614 (by decide) ?_
      refine g_iadd (pc := 615) C dL_law_615 ?_
      refine g_sld (pc := 616) C hX hbl hbA e1 dL_law_616 ?_
      refine g_callVL (pc := 617) hla C (c_X6_marked l D cI cS a' m (xs (ix (nI (3 * t) + 1))) r hm) gg_RL_99 hd_X6_marked (by decide) (Nat.le_refl _) (Nat.le_refl _) rfl rfl rfl rfl (Nat.le_of_ble_eq_true rfl) dL_law_617 (seL1 cI cS a x a' m) (seL1 cI cS a x a' m).symm [.int r, .int r] rfl ?_
      refine g_icmp_eq (pc := 620) C 815 dL_law_620 (by decide) (fun _ => ?_) (fun q => absurd rfl q)
      exact J815 x m hsim
    by_cases w21 : z = 21
    · refine g_tableIn (pc := 32) C 625 (off := 593) dL_law_32 (by rw [k_eq (z := 21) (by decide) w21]; decide) (by rw [k_eq (z := 21) (by decide) w21]; decide) (by rw [k_eq (z := 21) (by decide) w21]; rfl) (by decide) ?_
      obtain ⟨r, hp, hm, hsim⟩ := h_count t x m (xs (ix (nI (3 * t) + 1))) ht5 hsim
      refine g_aload_n (pc := 625) C 1 dL_law_625 rfl ?_
      refine g_aload_n (pc := 626) C 0 dL_law_626 rfl ?_
      refine g_iload_n (pc := 627) C 3 dL_law_627 rfl ?_
      refine g_iconst (pc := 628) C 1 dL_law_628 (by decide) ?_
      refine g_iadd (pc := 629) C dL_law_629 ?_
      refine g_sld (pc := 630) C hX hbl hbA e1 dL_law_630 ?_
      refine g_callVL (pc := 631) hla C (c_X5_count l D cI cS a x (xs (ix (nI (3 * t) + 1))) r hp) gg_RL_100 hd_X5_count (by decide) (Nat.le_refl _) (Nat.le_refl _) rfl rfl rfl rfl (Nat.le_of_ble_eq_true rfl) dL_law_631 (seL0 cI cS a x a' m) (seL0 cI cS a x a' m).symm [.int r] rfl ?_
      refine g_aload_n (pc := 634) C 2 dL_law_634 rfl ?_
      refine g_aload_n (pc := 635) C 0 dL_law_635 rfl ?_
      refine g_iload_n (pc := 636) C 3 dL_law_636 rfl ?_
      refine g_iconst (pc := 637) C 1 dL_law_637 (by decide) ?_
      refine g_iadd (pc := 638) C dL_law_638 ?_
      refine g_sld (pc := 639) C hX hbl hbA e1 dL_law_639 ?_
      refine g_callVL (pc := 640) hla C (c_X6_count l D cI cS a' m (xs (ix (nI (3 * t) + 1))) r hm) gg_RL_103 hd_X6_count (by decide) (Nat.le_refl _) (Nat.le_refl _) rfl rfl rfl rfl (Nat.le_of_ble_eq_true rfl) dL_law_640 (seL1 cI cS a x a' m) (seL1 cI cS a x a' m).symm [.int r, .int r] rfl ?_
      refine g_icmp_eq (pc := 643) C 815 dL_law_643 (by decide) (fun _ => ?_) (fun q => absurd rfl q)
      exact J815 x m hsim
    by_cases w22 : z = 22
    · refine g_tableIn (pc := 32) C 648 (off := 616) dL_law_32 (by rw [k_eq (z := 22) (by decide) w22]; decide) (by rw [k_eq (z := 22) (by decide) w22]; decide) (by rw [k_eq (z := 22) (by decide) w22]; rfl) (by decide) ?_
      obtain ⟨r, hp, hm, hsim⟩ := h_like t x m  ht5 hsim
      refine g_aload_n (pc := 648) C 1 dL_law_648 rfl ?_
      refine g_callVL (pc := 649) hla C (c_X5_like l D cI cS a x  r hp) gg_RL_104 hd_X5_like (by decide) (Nat.le_refl _) (Nat.le_refl _) rfl rfl rfl rfl (Nat.le_of_ble_eq_true rfl) dL_law_649 (seL0 cI cS a x a' m) (seL0 cI cS a x a' m).symm [.int r] rfl ?_
      refine g_aload_n (pc := 652) C 2 dL_law_652 rfl ?_
      refine g_callVL (pc := 653) hla C (c_X6_like l D cI cS a' m  r hm) gg_RL_107 hd_X6_like (by decide) (Nat.le_refl _) (Nat.le_refl _) rfl rfl rfl rfl (Nat.le_of_ble_eq_true rfl) dL_law_653 (seL1 cI cS a x a' m) (seL1 cI cS a x a' m).symm [.int r, .int r] rfl ?_
      refine g_icmp_eq (pc := 656) C 815 dL_law_656 (by decide) (fun _ => ?_) (fun q => absurd rfl q)
      exact J815 x m hsim
    by_cases w23 : z = 23
    · refine g_tableIn (pc := 32) C 661 (off := 629) dL_law_32 (by rw [k_eq (z := 23) (by decide) w23]; decide) (by rw [k_eq (z := 23) (by decide) w23]; decide) (by rw [k_eq (z := 23) (by decide) w23]; rfl) (by decide) ?_
      obtain ⟨r, hp, hm, hsim⟩ := h_meet t x m (xs (ix (nI (3 * t) + 1))) (xs (ix (nI (3 * t) + 2))) ht5 hsim
      refine g_aload_n (pc := 661) C 1 dL_law_661 rfl ?_
      refine g_aload_n (pc := 662) C 0 dL_law_662 rfl ?_
      refine g_iload_n (pc := 663) C 3 dL_law_663 rfl ?_
      refine g_iconst (pc := 664) C 1 dL_law_664 (by decide) ?_
      refine g_iadd (pc := 665) C dL_law_665 ?_
      refine g_sld (pc := 666) C hX hbl hbA e1 dL_law_666 ?_
      refine g_aload_n (pc := 667) C 0 dL_law_667 rfl ?_
      refine g_iload_n (pc := 668) C 3 dL_law_668 rfl ?_
      refine g_iconst (pc := 669) C 2 dL_law_669 (by decide) ?_
      refine g_iadd (pc := 670) C dL_law_670 ?_
      refine g_sld (pc := 671) C hX hbl hbA e2 dL_law_671 ?_
      refine g_callVL (pc := 672) hla C (c_X5_meet l D cI cS a x (xs (ix (nI (3 * t) + 1))) (xs (ix (nI (3 * t) + 2))) r hp) gg_RL_108 hd_X5_meet (by decide) (Nat.le_refl _) (Nat.le_refl _) rfl rfl rfl rfl (Nat.le_of_ble_eq_true rfl) dL_law_672 (seL0 cI cS a x a' m) (seL0 cI cS a x a' m).symm [.int r] rfl ?_
      refine g_aload_n (pc := 675) C 2 dL_law_675 rfl ?_
      refine g_aload_n (pc := 676) C 0 dL_law_676 rfl ?_
      refine g_iload_n (pc := 677) C 3 dL_law_677 rfl ?_
      refine g_iconst (pc := 678) C 1 dL_law_678 (by decide) ?_
      refine g_iadd (pc := 679) C dL_law_679 ?_
      refine g_sld (pc := 680) C hX hbl hbA e1 dL_law_680 ?_
      refine g_aload_n (pc := 681) C 0 dL_law_681 rfl ?_
      refine g_iload_n (pc := 682) C 3 dL_law_682 rfl ?_
      refine g_iconst (pc := 683) C 2 dL_law_683 (by decide) ?_
      refine g_iadd (pc := 684) C dL_law_684 ?_
      refine g_sld (pc := 685) C hX hbl hbA e2 dL_law_685 ?_
      refine g_callVL (pc := 686) hla C (c_X6_meet l D cI cS a' m (xs (ix (nI (3 * t) + 1))) (xs (ix (nI (3 * t) + 2))) r hm) gg_RL_111 hd_X6_meet (by decide) (Nat.le_refl _) (Nat.le_refl _) rfl rfl rfl rfl (Nat.le_of_ble_eq_true rfl) dL_law_686 (seL1 cI cS a x a' m) (seL1 cI cS a x a' m).symm [.int r, .int r] rfl ?_
      refine g_icmp_eq (pc := 689) C 815 dL_law_689 (by decide) (fun _ => ?_) (fun q => absurd rfl q)
      exact J815 x m hsim
    by_cases w24 : z = 24
    · refine g_tableIn (pc := 32) C 694 (off := 662) dL_law_32 (by rw [k_eq (z := 24) (by decide) w24]; decide) (by rw [k_eq (z := 24) (by decide) w24]; decide) (by rw [k_eq (z := 24) (by decide) w24]; rfl) (by decide) ?_
      obtain ⟨r, hp, hm, hsim⟩ := h_find t x m (xs (ix (nI (3 * t) + 1))) ht5 hsim
      refine g_aload_n (pc := 694) C 1 dL_law_694 rfl ?_
      refine g_aload_n (pc := 695) C 0 dL_law_695 rfl ?_
      refine g_iload_n (pc := 696) C 3 dL_law_696 rfl ?_
      refine g_iconst (pc := 697) C 1 dL_law_697 (by decide) ?_
      refine g_iadd (pc := 698) C dL_law_698 ?_
      refine g_sld (pc := 699) C hX hbl hbA e1 dL_law_699 ?_
      refine g_callVL (pc := 700) hla C (c_X5_find l D cI cS a x (xs (ix (nI (3 * t) + 1))) r hp) gg_RL_112 hd_X5_find (by decide) (Nat.le_refl _) (Nat.le_refl _) rfl rfl rfl rfl (Nat.le_of_ble_eq_true rfl) dL_law_700 (seL0 cI cS a x a' m) (seL0 cI cS a x a' m).symm [.int r] rfl ?_
      refine g_aload_n (pc := 703) C 2 dL_law_703 rfl ?_
      refine g_aload_n (pc := 704) C 0 dL_law_704 rfl ?_
      refine g_iload_n (pc := 705) C 3 dL_law_705 rfl ?_
      refine g_iconst (pc := 706) C 1 dL_law_706 (by decide) ?_
      refine g_iadd (pc := 707) C dL_law_707 ?_
      refine g_sld (pc := 708) C hX hbl hbA e1 dL_law_708 ?_
      refine g_callVL (pc := 709) hla C (c_X6_find l D cI cS a' m (xs (ix (nI (3 * t) + 1))) r hm) gg_RL_115 hd_X6_find (by decide) (Nat.le_refl _) (Nat.le_refl _) rfl rfl rfl rfl (Nat.le_of_ble_eq_true rfl) dL_law_709 (seL1 cI cS a x a' m) (seL1 cI cS a x a' m).symm [.int r, .int r] rfl ?_
      refine g_icmp_eq (pc := 712) C 815 dL_law_712 (by decide) (fun _ => ?_) (fun q => absurd rfl q)
      exact J815 x m hsim
    by_cases w25 : z = 25
    · refine g_tableIn (pc := 32) C 717 (off := 685) dL_law_32 (by rw [k_eq (z := 25) (by decide) w25]; decide) (by rw [k_eq (z := 25) (by decide) w25]; decide) (by rw [k_eq (z := 25) (by decide) w25]; rfl) (by decide) ?_
      obtain ⟨r, x', m', hp, hm, hsim⟩ := h_undo t x m  ht5 hsim
      refine g_aload_n (pc := 717) C 1 dL_law_717 rfl ?_
      refine g_callVL (pc := 718) hla C (c_X5_undo l D cI cS a x  (r, x') hp) gg_RL_116 hd_X5_undo (by decide) (Nat.le_refl _) (Nat.le_refl _) rfl rfl rfl rfl (Nat.le_of_ble_eq_true rfl) dL_law_718 (seL0 cI cS a x a' m) (seL0 cI cS a x' a' m).symm [.int r] rfl ?_
      refine g_aload_n (pc := 721) C 2 dL_law_721 rfl ?_
      refine g_callVL (pc := 722) hla C (c_X6_undo l D cI cS a' m  (r, m') hm) gg_RL_119 hd_X6_undo (by decide) (Nat.le_refl _) (Nat.le_refl _) rfl rfl rfl rfl (Nat.le_of_ble_eq_true rfl) dL_law_722 (seL1 cI cS a x' a' m) (seL1 cI cS a x' a' m').symm [.int r, .int r] rfl ?_
      refine g_icmp_eq (pc := 725) C 815 dL_law_725 (by decide) (fun _ => ?_) (fun q => absurd rfl q)
      exact J815 x' m' hsim
    by_cases w26 : z = 26
    · refine g_tableIn (pc := 32) C 730 (off := 698) dL_law_32 (by rw [k_eq (z := 26) (by decide) w26]; decide) (by rw [k_eq (z := 26) (by decide) w26]; decide) (by rw [k_eq (z := 26) (by decide) w26]; rfl) (by decide) ?_
      obtain ⟨r, x', m', hp, hm, hsim⟩ := h_type t x m (xs (ix (nI (3 * t) + 1))) ht5 hsim
      refine g_aload_n (pc := 730) C 1 dL_law_730 rfl ?_
      refine g_aload_n (pc := 731) C 0 dL_law_731 rfl ?_
      refine g_iload_n (pc := 732) C 3 dL_law_732 rfl ?_
      refine g_iconst (pc := 733) C 1 dL_law_733 (by decide) ?_
      refine g_iadd (pc := 734) C dL_law_734 ?_
      refine g_sld (pc := 735) C hX hbl hbA e1 dL_law_735 ?_
      refine g_callVL (pc := 736) hla C (c_X5_type l D cI cS a x (xs (ix (nI (3 * t) + 1))) (r, x') hp) gg_RL_120 hd_X5_type (by decide) (Nat.le_refl _) (Nat.le_refl _) rfl rfl rfl rfl (Nat.le_of_ble_eq_true rfl) dL_law_736 (seL0 cI cS a x a' m) (seL0 cI cS a x' a' m).symm [.int r] rfl ?_
      refine g_aload_n (pc := 739) C 2 dL_law_739 rfl ?_
      refine g_aload_n (pc := 740) C 0 dL_law_740 rfl ?_
      refine g_iload_n (pc := 741) C 3 dL_law_741 rfl ?_
      refine g_iconst (pc := 742) C 1 dL_law_742 (by decide) ?_
      refine g_iadd (pc := 743) C dL_law_743 ?_
      refine g_sld (pc := 744) C hX hbl hbA e1 dL_law_744 ?_
      refine g_callVL (pc := 745) hla C (c_X6_type l D cI cS a' m (xs (ix (nI (3 * t) + 1))) (r, m') hm) gg_RL_123 hd_X6_type (by decide) (Nat.le_refl _) (Nat.le_refl _) rfl rfl rfl rfl (Nat.le_of_ble_eq_true rfl) dL_law_745 (seL1 cI cS a x' a' m) (seL1 cI cS a x' a' m').symm [.int r, .int r] rfl ?_
      refine g_icmp_eq (pc := 748) C 815 dL_law_748 (by decide) (fun _ => ?_) (fun q => absurd rfl q)
      exact J815 x' m' hsim
    by_cases w27 : z = 27
    · refine g_tableIn (pc := 32) C 753 (off := 721) dL_law_32 (by rw [k_eq (z := 27) (by decide) w27]; decide) (by rw [k_eq (z := 27) (by decide) w27]; decide) (by rw [k_eq (z := 27) (by decide) w27]; rfl) (by decide) ?_
      obtain ⟨r, x', m', hp, hm, hsim⟩ := h_clearText t x m  ht5 hsim
      refine g_aload_n (pc := 753) C 1 dL_law_753 rfl ?_
      refine g_callVL (pc := 754) hla C (c_X5_clearText l D cI cS a x  (r, x') hp) gg_RL_124 hd_X5_clearText (by decide) (Nat.le_refl _) (Nat.le_refl _) rfl rfl rfl rfl (Nat.le_of_ble_eq_true rfl) dL_law_754 (seL0 cI cS a x a' m) (seL0 cI cS a x' a' m).symm [.int r] rfl ?_
      refine g_aload_n (pc := 757) C 2 dL_law_757 rfl ?_
      refine g_callVL (pc := 758) hla C (c_X6_clearText l D cI cS a' m  (r, m') hm) gg_RL_127 hd_X6_clearText (by decide) (Nat.le_refl _) (Nat.le_refl _) rfl rfl rfl rfl (Nat.le_of_ble_eq_true rfl) dL_law_758 (seL1 cI cS a x' a' m) (seL1 cI cS a x' a' m').symm [.int r, .int r] rfl ?_
      refine g_icmp_eq (pc := 761) C 815 dL_law_761 (by decide) (fun _ => ?_) (fun q => absurd rfl q)
      exact J815 x' m' hsim
    by_cases w28 : z = 28
    · refine g_tableIn (pc := 32) C 766 (off := 734) dL_law_32 (by rw [k_eq (z := 28) (by decide) w28]; decide) (by rw [k_eq (z := 28) (by decide) w28]; decide) (by rw [k_eq (z := 28) (by decide) w28]; rfl) (by decide) ?_
      obtain ⟨r, x', m', hp, hm, hsim⟩ := h_write t x m  ht5 hsim
      refine g_aload_n (pc := 766) C 1 dL_law_766 rfl ?_
      refine g_callVL (pc := 767) hla C (c_X5_write l D cI cS a x  (r, x') hp) gg_RL_128 hd_X5_write (by decide) (Nat.le_refl _) (Nat.le_refl _) rfl rfl rfl rfl (Nat.le_of_ble_eq_true rfl) dL_law_767 (seL0 cI cS a x a' m) (seL0 cI cS a x' a' m).symm [.int r] rfl ?_
      refine g_aload_n (pc := 770) C 2 dL_law_770 rfl ?_
      refine g_callVL (pc := 771) hla C (c_X6_write l D cI cS a' m  (r, m') hm) gg_RL_131 hd_X6_write (by decide) (Nat.le_refl _) (Nat.le_refl _) rfl rfl rfl rfl (Nat.le_of_ble_eq_true rfl) dL_law_771 (seL1 cI cS a x' a' m) (seL1 cI cS a x' a' m').symm [.int r, .int r] rfl ?_
      refine g_icmp_eq (pc := 774) C 815 dL_law_774 (by decide) (fun _ => ?_) (fun q => absurd rfl q)
      exact J815 x' m' hsim
    by_cases w29 : z = 29
    · refine g_tableIn (pc := 32) C 779 (off := 747) dL_law_32 (by rw [k_eq (z := 29) (by decide) w29]; decide) (by rw [k_eq (z := 29) (by decide) w29]; decide) (by rw [k_eq (z := 29) (by decide) w29]; rfl) (by decide) ?_
      obtain ⟨r, x', m', hp, hm, hsim⟩ := h_fault t x m (xs (ix (nI (3 * t) + 1))) ht5 hsim
      refine g_aload_n (pc := 779) C 1 dL_law_779 rfl ?_
      refine g_aload_n (pc := 780) C 0 dL_law_780 rfl ?_
      refine g_iload_n (pc := 781) C 3 dL_law_781 rfl ?_
      refine g_iconst (pc := 782) C 1 dL_law_782 (by decide) ?_
      refine g_iadd (pc := 783) C dL_law_783 ?_
      refine g_sld (pc := 784) C hX hbl hbA e1 dL_law_784 ?_
      refine g_callVL (pc := 785) hla C (c_X5_fault l D cI cS a x (xs (ix (nI (3 * t) + 1))) (r, x') hp) gg_RL_132 hd_X5_fault (by decide) (Nat.le_refl _) (Nat.le_refl _) rfl rfl rfl rfl (Nat.le_of_ble_eq_true rfl) dL_law_785 (seL0 cI cS a x a' m) (seL0 cI cS a x' a' m).symm [.int r] rfl ?_
      refine g_aload_n (pc := 788) C 2 dL_law_788 rfl ?_
      refine g_aload_n (pc := 789) C 0 dL_law_789 rfl ?_
      refine g_iload_n (pc := 790) C 3 dL_law_790 rfl ?_
      refine g_iconst (pc := 791) C 1 dL_law_791 (by decide) ?_
      refine g_iadd (pc := 792) C dL_law_792 ?_
      refine g_sld (pc := 793) C hX hbl hbA e1 dL_law_793 ?_
      refine g_callVL (pc := 794) hla C (c_X6_fault l D cI cS a' m (xs (ix (nI (3 * t) + 1))) (r, m') hm) gg_RL_135 hd_X6_fault (by decide) (Nat.le_refl _) (Nat.le_refl _) rfl rfl rfl rfl (Nat.le_of_ble_eq_true rfl) dL_law_794 (seL1 cI cS a x' a' m) (seL1 cI cS a x' a' m').symm [.int r, .int r] rfl ?_
      refine g_icmp_eq (pc := 797) C 815 dL_law_797 (by decide) (fun _ => ?_) (fun q => absurd rfl q)
      exact J815 x' m' hsim
    by_cases w30 : z = 30
    · refine g_tableIn (pc := 32) C 802 (off := 770) dL_law_32 (by rw [k_eq (z := 30) (by decide) w30]; decide) (by rw [k_eq (z := 30) (by decide) w30]; decide) (by rw [k_eq (z := 30) (by decide) w30]; rfl) (by decide) ?_
      obtain ⟨r, x', m', hp, hm, hsim⟩ := h_read t x m  ht5 hsim
      refine g_aload_n (pc := 802) C 1 dL_law_802 rfl ?_
      refine g_callVL (pc := 803) hla C (c_X5_read l D cI cS a x  (r, x') hp) gg_RL_136 hd_X5_read (by decide) (Nat.le_refl _) (Nat.le_refl _) rfl rfl rfl rfl (Nat.le_of_ble_eq_true rfl) dL_law_803 (seL0 cI cS a x a' m) (seL0 cI cS a x' a' m).symm [.int r] rfl ?_
      refine g_aload_n (pc := 806) C 2 dL_law_806 rfl ?_
      refine g_callVL (pc := 807) hla C (c_X6_read l D cI cS a' m  (r, m') hm) gg_RL_139 hd_X6_read (by decide) (Nat.le_refl _) (Nat.le_refl _) rfl rfl rfl rfl (Nat.le_of_ble_eq_true rfl) dL_law_807 (seL1 cI cS a x' a' m) (seL1 cI cS a x' a' m').symm [.int r, .int r] rfl ?_
      refine g_icmp_eq (pc := 810) C 815 dL_law_810 (by decide) (fun _ => ?_) (fun q => absurd rfl q)
      exact J815 x' m' hsim
    refine g_tableOut (pc := 32) C 815 dL_law_32 (by have z0 := k_ne (z := 0) 0 (by decide) w0; have z1 := k_ne (z := 1) 1 (by decide) w1; have z2 := k_ne (z := 2) 2 (by decide) w2; have z3 := k_ne (z := 3) 3 (by decide) w3; have z4 := k_ne (z := 4) 4 (by decide) w4; have z5 := k_ne (z := 5) 5 (by decide) w5; have z6 := k_ne (z := 6) 6 (by decide) w6; have z7 := k_ne (z := 7) 7 (by decide) w7; have z8 := k_ne (z := 8) 8 (by decide) w8; have z9 := k_ne (z := 9) 9 (by decide) w9; have z10 := k_ne (z := 10) 10 (by decide) w10; have z11 := k_ne (z := 11) 11 (by decide) w11; have z12 := k_ne (z := 12) 12 (by decide) w12; have z13 := k_ne (z := 13) 13 (by decide) w13; have z14 := k_ne (z := 14) 14 (by decide) w14; have z15 := k_ne (z := 15) 15 (by decide) w15; have z16 := k_ne (z := 16) 16 (by decide) w16; have z17 := k_ne (z := 17) 17 (by decide) w17; have z18 := k_ne (z := 18) 18 (by decide) w18; have z19 := k_ne (z := 19) 19 (by decide) w19; have z20 := k_ne (z := 20) 20 (by decide) w20; have z21 := k_ne (z := 21) 21 (by decide) w21; have z22 := k_ne (z := 22) 22 (by decide) w22; have z23 := k_ne (z := 23) 23 (by decide) w23; have z24 := k_ne (z := 24) 24 (by decide) w24; have z25 := k_ne (z := 25) 25 (by decide) w25; have z26 := k_ne (z := 26) 26 (by decide) w26; have z27 := k_ne (z := 27) 27 (by decide) w27; have z28 := k_ne (z := 28) 28 (by decide) w28; have z29 := k_ne (z := 29) 29 (by decide) w29; have z30 := k_ne (z := 30) 30 (by decide) w30; omega) (by decide) ?_
    exact J815 x m (hd t x m ht5 hsim)
set_option maxHeartbeats 16000000 in
set_option maxRecDepth 100000 in
theorem law_start {p : Program} {e : Env} {s : State} {m : MethodId} {below : List Frame} {meth : Method} {c : Code} (l : Launch) {b L : Nat} {xs : Nat → Int32} (hL : L ≤ 1536) (C0 : lw_At p s m meth c b L xs) (Sim : Nat → TP → MD → Prop) (hs : sm_all Sim) (hd : ∀ t x m, t < 512 → Sim t x m → Sim (t + 1) x m) (s1 s2 : ST) (h1 : S_clearMarks zS = some s1) (h2 : S_putNodeIn s1 0 0 0 = some s2) (h0 : Sim 0 (s2, ((s1, s1, s1, s1), 0, 0), zR, zC) m0) : W p l e room_1 s m #[Value.ref b] below meth c s.heap [] 0 0 (lw_Z below #[Value.ref b] s) (entryFrame m ([Value.ref b] : List Value).toArray 4) := by
  obtain ⟨hx, hb, hr, hml, hown, hts, hX, hbl, hlocks, hgv⟩ := id C0
  have htb : ∀ w ∈ TB, w.before #[Value.ref b] s = true := fun w hw => hts w (TB_in w hw)
  obtain ⟨c0, i0, hKn0⟩ := u_known (C := RX0) (T := TX0) (N := 3) (n := 3) htb inX0 (htb _ m_143)
  obtain ⟨c1, i1, hKn1⟩ := u_known (C := RX1) (T := TX1) (N := 2) (n := 2) htb inX1 (htb _ m_75)
  obtain ⟨c2, i2, hKn2⟩ := u_known (C := RX2) (T := TX2) (N := 6) (n := 6) htb inX2 (htb _ m_164)
  obtain ⟨c3, i3, hKn3⟩ := u_known (C := RX3) (T := TX3) (N := 7) (n := 7) htb inX3 (htb _ m_63)
  obtain ⟨c4, i4, hKn4⟩ := u_known (C := RX4) (T := TX4) (N := 2) (n := 2) htb inX4 (htb _ m_69)
  obtain ⟨c5, i5, hKn5⟩ := u_known (C := RX5) (T := TX5) (N := 4) (n := 4) htb inX5 (htb _ m_55)
  obtain ⟨c6, i6, hKn6⟩ := u_known (C := RX6) (T := TX6) (N := 12) (n := 12) htb inX6 (htb _ m_646)
  obtain ⟨dC, dI, hKc⟩ : ∃ (dC : Nat → ClassId) (dI : Nat → Nat → Nat), ∀ (k : Nat) (q : vw_C), vwCl[k]? = some q → u_Kn s q.1 q.2.1 q.2.2 (dC k) (dI k) := by
    refine ⟨fun k => if k = 0 then c0 else if k = 1 then c1 else if k = 2 then c2 else if k = 3 then c3 else if k = 4 then c4 else if k = 5 then c5 else c6, fun k => if k = 0 then i0 else if k = 1 then i1 else if k = 2 then i2 else if k = 3 then i3 else if k = 4 then i4 else if k = 5 then i5 else i6, ?_⟩
    intro k q hq
    match k, hq with
    | 0, hq => cases hq; exact hKn0
    | 1, hq => cases hq; exact hKn1
    | 2, hq => cases hq; exact hKn2
    | 3, hq => cases hq; exact hKn3
    | 4, hq => cases hq; exact hKn4
    | 5, hq => cases hq; exact hKn5
    | 6, hq => cases hq; exact hKn6
    | k + 7, hq => simp [vwCl] at hq
  obtain ⟨cI, kI, compI, f1, f2, f3⟩ := Cond.arrayClass_spec (htb _ m_arrI)
  have hao : va_AO RX3 s := va_AO.of (hts _ m_149)
  obtain ⟨compS, cS, kS', g1, g2, g3, g4, g5⟩ := Cond.arrayOver_spec (va_AO.use (A := #[]) hao)
  have hK : va_K (dC, dI) vwCl (kTy cI cS) s := by
    refine ⟨hKc, fun k q hq => ?_⟩
    match k, hq with
    | 0, hq => cases hq; exact ⟨fun n z => ⟨fun k h => (by cases h), kI, f2, compI, f3⟩, f1⟩
    | 1, hq => cases hq; exact ⟨fun n z => ⟨fun k h => (by cases h), kS', g3, compS, g4⟩, kS', compS, g3, g4, g1, g5⟩
    | k + 2, hq => simp [kTy] at hq
  have hNW : kNW s := by
    refine ⟨fun w hw => ?_, hao⟩
    simp only [kNL, List.mem_cons, List.not_mem_nil, or_false] at hw
    rcases hw with rfl | rfl | rfl | rfl | rfl | rfl | rfl | rfl | rfl | rfl | rfl
    · exact va_Nw.of rfl (hts _ m_70)
    · exact va_Nw.of rfl (hts _ m_117)
    · exact va_Nw.of rfl (hts _ m_119)
    · exact va_Nw.of rfl (hts _ m_122)
    · exact va_Nw.of rfl (hts _ m_124)
    · exact va_Nw.of rfl (hts _ m_165)
    · exact va_Nw.of rfl (hts _ m_170)
    · exact va_Nw.of rfl (hts _ m_174)
    · exact va_Nw.of rfl (hts _ m_179)
    · exact va_Nw.of rfl (hts _ m_181)
    · exact va_Nw.of rfl (hts _ m_617)
  have hA : ∀ q : Nat, s.heap.size ≤ q → (fun q : Nat => s.heap.size ≤ q) q := fun _ h => h
  have hbA : ¬ (fun q : Nat => s.heap.size ≤ q) b := Nat.not_le.mpr hbl
  have C : kC (p, l, e, room_1, s, m, #[Value.ref b], below, meth, c) (dC, dI) (kTy cI cS) (fun q : Nat => s.heap.size ≤ q) code 4 RL room_1 ret meth.name := ⟨hx, hb, hml, hown, htb, hK, hA, hr, hlocks, hNW, rfl, rfl⟩
  have hla : (p, l, e, room_1, s, m, (#[Value.ref b] : Array Value), below, meth, c).2.1 = l := rfl
  generalize hκ : (p, l, e, room_1, s, m, (#[Value.ref b] : Array Value), below, meth, c) = κ at C hla
  have hend : ∀ cs lv, kG κ (dC, dI) (fun q : Nat => s.heap.size ≤ q) 4 600000 7302250 (lw_Z below #[Value.ref b] s) cs lv 822 [.int 1] := by
    intro cs lv
    subst hκ
    intro H locs ls hP hD hS hl
    exact va_forget hS.2.2 (lw_ret hx hb hr hlocks dL_law_822)
  have hX' : va_X b L xs (kS κ) (kS κ).heap := by subst hκ; exact hX
  have hbl' : b < (kS κ).heap.size := by subst hκ; exact hbl
  have K : kG κ (dC, dI) (fun q : Nat => s.heap.size ≤ q) 4 0 0 (lw_Z below #[Value.ref b] s) [] [(0, .ref b)] 0 [] := by
    refine g_new (pc := 0) C 5 [.null, .null, .null, .null] tyX5 tyX5_ok inX5 m_54 m_55 m_ini_RX5 rfl (fun j hj => by rcases (show j = 0 ∨ j = 1 ∨ j = 2 ∨ j = 3 by omega) with rfl | rfl | rfl | rfl <;> rfl) (Nat.le_of_ble_eq_true rfl) (Nat.le_of_ble_eq_true rfl) dL_law_0 (fun q0 => ?_)
    refine g_dup (pc := 3) C dL_law_3 rfl ?_
    refine g_callI (pc := 4) (rest := []) hla C (c_X5_init l (dC, dI) cI cS q0 s1 s2 h1 h2) tb_X5_init m_56 m_57 m_ini_RX5 rfl rfl hd_X5_init.2 ⟨(Nat.le_of_ble_eq_true rfl), (Nat.le_of_ble_eq_true rfl)⟩ rfl rfl (Nat.le_of_ble_eq_true rfl) (Nat.le_of_ble_eq_true rfl) (Nat.le_of_ble_eq_true rfl) dL_law_4 (List.Perm.refl _) (fun v sel h => ?_)
    obtain ⟨rfl, a, rfl, rfl⟩ := h
    refine g_astore_n (pc := 7) C [(1, .ref a.1), (0, .ref b)] dL_law_7 (by decide) rfl ?_
    refine g_new (pc := 8) C 6 [.null, .null, .null, .int 0, .null, .null, .int 0, .int 0, .int 0, .int 0, .null, .null] tyX6 tyX6_ok inX6 m_645 m_646 m_ini_RX6 rfl (fun j hj => by rcases (show j = 0 ∨ j = 1 ∨ j = 2 ∨ j = 3 ∨ j = 4 ∨ j = 5 ∨ j = 6 ∨ j = 7 ∨ j = 8 ∨ j = 9 ∨ j = 10 ∨ j = 11 by omega) with rfl | rfl | rfl | rfl | rfl | rfl | rfl | rfl | rfl | rfl | rfl | rfl <;> rfl) (Nat.le_of_ble_eq_true rfl) (Nat.le_of_ble_eq_true rfl) dL_law_8 (fun q1 => ?_)
    refine g_dup (pc := 11) C dL_law_11 rfl ?_
    refine g_callI (pc := 12) (rest := [wP cI cS a (s2, ((s1, s1, s1, s1), 0, 0), zR, zC)]) hla C (c_X6_init l (dC, dI) cI cS q1) tb_X6_init m_647 m_648 m_ini_RX6 rfl rfl hd_X6_init.2 ⟨(Nat.le_of_ble_eq_true rfl), (Nat.le_of_ble_eq_true rfl)⟩ rfl rfl (Nat.le_of_ble_eq_true rfl) (Nat.le_of_ble_eq_true rfl) (Nat.le_of_ble_eq_true rfl) dL_law_12 (k_sel (N := 2) (pieces := [[(q1, .inr (6, [.null, .null, .null, .int 0, .null, .null, .int 0, .int 0, .int 0, .int 0, .null, .null]))]]) [1] [0] rfl (by decide) rfl rfl rfl) (fun v sel h => ?_)
    obtain ⟨rfl, a', rfl, rfl⟩ := h
    refine g_astore_n (pc := 15) C [(2, .ref a'.1), (1, .ref a.1), (0, .ref b)] dL_law_15 (by decide) rfl ?_
    refine g_iconst (pc := 16) C 0 dL_law_16 (by decide) ?_
    refine g_istore_n (pc := 17) C [(3, .int 0), (2, .ref a'.1), (1, .ref a.1), (0, .ref b)] dL_law_17 (by decide) rfl ?_
    refine g_widen (k' := 600000) (n' := 7302250) (Nat.le_of_ble_eq_true rfl) (Nat.le_of_ble_eq_true rfl) ?_
    refine g_world (seL1 cI cS a (s2, ((s1, s1, s1, s1), 0, 0), zR, zC) a' m0).symm ?_
    refine g_sub [3, 2, 1, 0] (lv' := [(0, .ref b), (1, .ref a.1), (2, .ref a'.1), (3, .int (nI (3 * 0)))]) rfl ?_
    exact law_loop l κ (dC, dI) cI cS _ _ C hla hX' hbl' hbA hL a a' _ Sim hs hd hend 513 0 _ _ (by decide) (by decide) h0
  subst hκ
  have hl := lv_entry ([.ref b]) (n := 4) (Nat.le_of_ble_eq_true rfl)
  rw [lg_entry_eq]
  exact K s.heap [] _ (fun k q h => by simp at h) ⟨fun i j p q h => by simp at h, fun k q h => by simp at h⟩ va_S.rf hl
