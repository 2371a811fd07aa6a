set_option maxHeartbeats 4000000 in
set_option maxRecDepth 100000 in
theorem c_X6_isTree (l : Launch) (D : va_G) (cI cS : ClassId) (a : aM) (m : MD) (out : Int32 × MD) (hf : M_isTree m = some out) : kM l D (kTy cI cS) yX6_isTree ct_X6_isTree rm_X6_isTree [.ref a.1] [wM cI cS a m] (kEq (some (.int out.1)) [wM cI cS a out.2]) := by
  refine k_methodE cX6_isTree 5 (some .boolean) RX6 rfl [(0, .ref a.1)] rfl (by decide +kernel) (Nat.le_of_ble_eq_true rfl) (fun κ A hla C => ?_)
  refine g_chunks (flM cI cS a m).symm ?_
  have J257 : ∀ (m : MD), M_isTree_J257 m = some out → kG κ D A 5 0 0 (kF κ D A (some (.int out.1)) [wM cI cS a out.2]) (csM cI cS a m) [(0, .ref a.1)] 257 [] := by
    intro m hf; rw [M_isTree_J257] at hf
    refine g_aload_n (pc := 257) C 0 dX6_isTree_257 rfl ?_
    refine g_aload_n (pc := 258) C 0 dX6_isTree_258 rfl ?_
    refine gf_RX6_130 (pc := 259) C 0 rfl dX6_isTree_259 ?_
    refine g_iconst (pc := 262) C 1 dX6_isTree_262 (by decide) ?_
    obtain ⟨v263, h263, hf⟩ := Option.bind_eq_some_iff.mp hf
    refine g_callV' (pc := 263) hla C (c_X6_breaks l D cI cS a m m.2.2.2.2.2.2.1 1 v263 h263) gg_RX6_153 hd_X6_breaks (by decide) rfl rfl rfl rfl (Nat.le_of_ble_eq_true rfl) dX6_isTree_263 (seM_0 cI cS a m) (seM_0 cI cS a v263.2).symm [.int v263.1] rfl ?_
    refine g_if_eq (pc := 266) C 273 dX6_isTree_266 (by decide) (fun (c266 : v263.1 = 0) => ?_) (fun (c266 : ¬ v263.1 = 0) => ?_)
    · have hf := k_pos c266 hf
      refine g_iconst (pc := 273) C 0 dX6_isTree_273 (by decide) ?_
      have e := Option.some.inj hf; subst e
      exact g_rz (pc := 274) C rfl (Or.inl rfl) (flM cI cS a v263.2) dX6_isTree_274
    · have hf := k_neg c266 hf
      refine g_iconst (pc := 269) C 1 dX6_isTree_269 (by decide) ?_
      refine g_goto (pc := 270) C 274 dX6_isTree_270 (by decide) ?_
      have e := Option.some.inj hf; subst e
      exact g_rz (pc := 274) C rfl (Or.inr rfl) (flM cI cS a v263.2) dX6_isTree_274
  have J219 : ∀ (K : MD → Int32 → Int32 → Int32 → Option (Int32 × MD)) (_ : ∀ (m : MD) (x1 : Int32) (x2 : Int32) (x3 : Int32), K m x1 x2 x3 = some out → kG κ D A 5 0 0 (kF κ D A (some (.int out.1)) [wM cI cS a out.2]) (csM cI cS a m) [(0, .ref a.1), (1, .int x1), (2, .int x2), (3, .int x3)] 18 []) (m : MD) (x1 : Int32) (x2 : Int32) (x3 : Int32) (x4 : Int32), M_isTree_J219 K m x1 x2 x3 x4 = some out → kG κ D A 5 0 0 (kF κ D A (some (.int out.1)) [wM cI cS a out.2]) (csM cI cS a m) [(0, .ref a.1), (1, .int x1), (2, .int x2), (3, .int x3), (4, .int x4)] 219 [] := by
    intro K hK m x1 x2 x3 x4 hf; rw [M_isTree_J219] at hf
    refine g_iload (pc := 219) C 4 dX6_isTree_219 rfl ?_
    refine g_bipush (pc := 221) C 41 dX6_isTree_221 (by decide) ?_
    refine g_icmp_ne (pc := 223) C 236 dX6_isTree_223 (by decide) (fun (c223 : ¬ x4 = 41) => ?_) (fun (c223 : x4 = 41) => ?_)
    · have hf := k_neg c223 hf
      refine g_aload_n (pc := 236) C 0 dX6_isTree_236 rfl ?_
      refine g_iload_n (pc := 237) C 3 dX6_isTree_237 rfl ?_
      refine g_iconst (pc := 238) C 1 dX6_isTree_238 (by decide) ?_
      obtain ⟨v239, h239, hf⟩ := Option.bind_eq_some_iff.mp hf
      refine g_callV' (pc := 239) hla C (c_X6_breaks l D cI cS a m x3 1 v239 h239) gg_RX6_153 hd_X6_breaks (by decide) rfl rfl rfl rfl (Nat.le_of_ble_eq_true rfl) dX6_isTree_239 (seM_0 cI cS a m) (seM_0 cI cS a v239.2).symm [.int v239.1] rfl ?_
      obtain ⟨g242, hf⟩ := k_guard2 hf
      have e := Option.some.inj hf; subst e
      exact g_rz (pc := 242) C rfl g242 (flM cI cS a v239.2) dX6_isTree_242
    · have hf := k_pos c223 hf
      refine g_iload_n (pc := 226) C 1 dX6_isTree_226 rfl ?_
      refine g_if_le (pc := 227) C 236 dX6_isTree_227 (by decide) (fun (c227 : x1 ≤ 0) => ?_) (fun (c227 : ¬ x1 ≤ 0) => ?_)
      · have hf := k_pos c227 hf
        refine g_aload_n (pc := 236) C 0 dX6_isTree_236 rfl ?_
        refine g_iload_n (pc := 237) C 3 dX6_isTree_237 rfl ?_
        refine g_iconst (pc := 238) C 1 dX6_isTree_238 (by decide) ?_
        obtain ⟨v239, h239, hf⟩ := Option.bind_eq_some_iff.mp hf
        refine g_callV' (pc := 239) hla C (c_X6_breaks l D cI cS a m x3 1 v239 h239) gg_RX6_153 hd_X6_breaks (by decide) rfl rfl rfl rfl (Nat.le_of_ble_eq_true rfl) dX6_isTree_239 (seM_0 cI cS a m) (seM_0 cI cS a v239.2).symm [.int v239.1] rfl ?_
        obtain ⟨g242, hf⟩ := k_guard2 hf
        have e := Option.some.inj hf; subst e
        exact g_rz (pc := 242) C rfl g242 (flM cI cS a v239.2) dX6_isTree_242
      · have hf := k_neg c227 hf
        refine g_iinc (pc := 230) C 1 (x1 + (-1)) [(1, .int (x1 + (-1))), (0, .ref a.1), (2, .int x2), (3, .int x3), (4, .int x4)] dX6_isTree_230 rfl (congrArg (HAdd.hAdd _) (by decide)) (by decide) rfl ?_
        refine g_goto (pc := 233) C 243 dX6_isTree_233 (by decide) ?_
        refine g_iinc (pc := 243) C 3 (x3 + 1) [(3, .int (x3 + 1)), (1, .int (x1 + (-1))), (0, .ref a.1), (2, .int x2), (4, .int x4)] dX6_isTree_243 rfl (congrArg (HAdd.hAdd _) (by decide)) (by decide) rfl ?_
        refine g_goto (pc := 246) C 18 dX6_isTree_246 (by decide) ?_
        refine g_sub [2, 1, 3, 0] (lv' := [(0, .ref a.1), (1, .int (x1 + (-1))), (2, .int x2), (3, .int (x3 + 1))]) rfl ?_
        exact hK m (x1 + (-1)) x2 (x3 + 1) hf
  have J175 : ∀ (K : MD → Int32 → Int32 → Int32 → Option (Int32 × MD)) (_ : ∀ (m : MD) (x1 : Int32) (x2 : Int32) (x3 : Int32), K m x1 x2 x3 = some out → kG κ D A 5 0 0 (kF κ D A (some (.int out.1)) [wM cI cS a out.2]) (csM cI cS a m) [(0, .ref a.1), (1, .int x1), (2, .int x2), (3, .int x3)] 18 []) (m : MD) (x1 : Int32) (x2 : Int32) (x3 : Int32) (x4 : Int32), M_isTree_J175 K m x1 x2 x3 x4 = some out → kG κ D A 5 0 0 (kF κ D A (some (.int out.1)) [wM cI cS a out.2]) (csM cI cS a m) [(0, .ref a.1), (1, .int x1), (2, .int x2), (3, .int x3), (4, .int x4)] 175 [] := by
    intro K hK m x1 x2 x3 x4 hf; rw [M_isTree_J175] at hf
    refine g_iload (pc := 175) C 4 dX6_isTree_175 rfl ?_
    refine g_bipush (pc := 177) C 44 dX6_isTree_177 (by decide) ?_
    refine g_icmp_ne (pc := 179) C 219 dX6_isTree_179 (by decide) (fun (c179 : ¬ x4 = 44) => ?_) (fun (c179 : x4 = 44) => ?_)
    · have hf := k_neg c179 hf
      exact J219 K hK m x1 x2 x3 x4 hf
    · have hf := k_pos c179 hf
      refine g_iload_n (pc := 182) C 1 dX6_isTree_182 rfl ?_
      refine g_if_le (pc := 183) C 219 dX6_isTree_183 (by decide) (fun (c183 : x1 ≤ 0) => ?_) (fun (c183 : ¬ x1 ≤ 0) => ?_)
      · have hf := k_pos c183 hf
        exact J219 K hK m x1 x2 x3 x4 hf
      · have hf := k_neg c183 hf
        refine g_aload_n (pc := 186) C 0 dX6_isTree_186 rfl ?_
        refine gf_RX6_28 (pc := 187) C 0 rfl dX6_isTree_187 ?_
        refine g_iload_n (pc := 190) C 1 dX6_isTree_190 rfl ?_
        obtain ⟨g191, hf⟩ := k_guard hf
        refine g_iald (pc := 191) C 7 0 rfl rfl g191 dX6_isTree_191 ?_
        refine g_bipush (pc := 192) C 6 dX6_isTree_192 (by decide) ?_
        refine g_icmp_ne (pc := 194) C 204 dX6_isTree_194 (by decide) (fun (c194 : ¬ (m.2.2.2.2.2.2.2.2.2.2.2 (ix x1)) = 6) => ?_) (fun (c194 : (m.2.2.2.2.2.2.2.2.2.2.2 (ix x1)) = 6) => ?_)
        · have hf := k_neg c194 hf
          refine g_aload_n (pc := 204) C 0 dX6_isTree_204 rfl ?_
          refine gf_RX6_28 (pc := 205) C 0 rfl dX6_isTree_205 ?_
          refine g_iload_n (pc := 208) C 1 dX6_isTree_208 rfl ?_
          refine g_dup2 (pc := 209) C dX6_isTree_209 rfl rfl ?_
          obtain ⟨g210, hf⟩ := k_guard hf
          refine g_iald (pc := 210) C 7 0 rfl rfl g210 dX6_isTree_210 ?_
          refine g_iconst (pc := 211) C 1 dX6_isTree_211 (by decide) ?_
          refine g_iadd (pc := 212) C dX6_isTree_212 ?_
          obtain ⟨g213, hf⟩ := k_guard hf
          obtain ⟨u213, e213, hf⟩ := Option.bind_eq_some_iff.mp hf
          refine g_iastU (pc := 213) C 7 0 u213 (Option.some.inj e213) (csM cI cS a (m.1, m.2.1, m.2.2.1, m.2.2.2.1, m.2.2.2.2.1, m.2.2.2.2.2.1, m.2.2.2.2.2.2.1, m.2.2.2.2.2.2.2.1, m.2.2.2.2.2.2.2.2.1, m.2.2.2.2.2.2.2.2.2.1, m.2.2.2.2.2.2.2.2.2.2.1, u213)) rfl rfl g213 rfl dX6_isTree_213 ?_
          refine g_iconst (pc := 214) C 1 dX6_isTree_214 (by decide) ?_
          refine g_istore_n (pc := 215) C [(2, .int 1), (0, .ref a.1), (1, .int x1), (3, .int x3), (4, .int x4)] dX6_isTree_215 (by decide) rfl ?_
          refine g_goto (pc := 216) C 243 dX6_isTree_216 (by decide) ?_
          refine g_iinc (pc := 243) C 3 (x3 + 1) [(3, .int (x3 + 1)), (2, .int 1), (0, .ref a.1), (1, .int x1), (4, .int x4)] dX6_isTree_243 rfl (congrArg (HAdd.hAdd _) (by decide)) (by decide) rfl ?_
          refine g_goto (pc := 246) C 18 dX6_isTree_246 (by decide) ?_
          refine g_sub [2, 3, 1, 0] (lv' := [(0, .ref a.1), (1, .int x1), (2, .int 1), (3, .int (x3 + 1))]) rfl ?_
          exact hK (m.1, m.2.1, m.2.2.1, m.2.2.2.1, m.2.2.2.2.1, m.2.2.2.2.2.1, m.2.2.2.2.2.2.1, m.2.2.2.2.2.2.2.1, m.2.2.2.2.2.2.2.2.1, m.2.2.2.2.2.2.2.2.2.1, m.2.2.2.2.2.2.2.2.2.2.1, u213) x1 1 (x3 + 1) hf
        · have hf := k_pos c194 hf
          refine g_aload_n (pc := 197) C 0 dX6_isTree_197 rfl ?_
          refine g_iload_n (pc := 198) C 3 dX6_isTree_198 rfl ?_
          refine g_iconst (pc := 199) C 4 dX6_isTree_199 (by decide) ?_
          obtain ⟨v200, h200, hf⟩ := Option.bind_eq_some_iff.mp hf
          refine g_callV' (pc := 200) hla C (c_X6_breaks l D cI cS a m x3 4 v200 h200) gg_RX6_153 hd_X6_breaks (by decide) rfl rfl rfl rfl (Nat.le_of_ble_eq_true rfl) dX6_isTree_200 (seM_0 cI cS a m) (seM_0 cI cS a v200.2).symm [.int v200.1] rfl ?_
          obtain ⟨g203, hf⟩ := k_guard2 hf
          have e := Option.some.inj hf; subst e
          exact g_rz (pc := 203) C rfl g203 (flM cI cS a v200.2) dX6_isTree_203
  have L18 : ∀ (fu : Nat) (m : MD) (x1 : Int32) (x2 : Int32) (x3 : Int32), M_isTree_L18 fu m x1 x2 x3 = some out → kG κ D A 5 0 0 (kF κ D A (some (.int out.1)) [wM cI cS a out.2]) (csM cI cS a m) [(0, .ref a.1), (1, .int x1), (2, .int x2), (3, .int x3)] 18 [] := by
    intro fu; induction fu with
    | zero => intro m x1 x2 x3 hf; rw [M_isTree_L18] at hf; cases hf
    | succ fu ih =>
      intro m x1 x2 x3 hf; rw [M_isTree_L18] at hf
      refine g_iload_n (pc := 18) C 3 dX6_isTree_18 rfl ?_
      refine g_aload_n (pc := 19) C 0 dX6_isTree_19 rfl ?_
      refine gf_RX6_130 (pc := 20) C 0 rfl dX6_isTree_20 ?_
      refine g_icmp_ge (pc := 23) C 249 dX6_isTree_23 (by decide) (fun (c23 : m.2.2.2.2.2.2.1 ≤ x3) => ?_) (fun (c23 : ¬ m.2.2.2.2.2.2.1 ≤ x3) => ?_)
      · have hf := k_pos c23 hf
        refine g_iload_n (pc := 249) C 2 dX6_isTree_249 rfl ?_
        refine g_if_ne (pc := 250) C 257 dX6_isTree_250 (by decide) (fun (c250 : ¬ x2 = 0) => ?_) (fun (c250 : x2 = 0) => ?_)
        · have hf := k_neg c250 hf
          refine g_sub [0] (lv' := [(0, .ref a.1)]) rfl ?_
          exact J257 m hf
        · have hf := k_pos c250 hf
          refine g_iload_n (pc := 253) C 1 dX6_isTree_253 rfl ?_
          refine g_if_eq (pc := 254) C 269 dX6_isTree_254 (by decide) (fun (c254 : x1 = 0) => ?_) (fun (c254 : ¬ x1 = 0) => ?_)
          · have hf := k_pos c254 hf
            refine g_iconst (pc := 269) C 1 dX6_isTree_269 (by decide) ?_
            refine g_goto (pc := 270) C 274 dX6_isTree_270 (by decide) ?_
            have e := Option.some.inj hf; subst e
            exact g_rz (pc := 274) C rfl (Or.inr rfl) (flM cI cS a m) dX6_isTree_274
          · have hf := k_neg c254 hf
            refine g_sub [0] (lv' := [(0, .ref a.1)]) rfl ?_
            exact J257 m hf
      · have hf := k_neg c23 hf
        refine g_aload_n (pc := 26) C 0 dX6_isTree_26 rfl ?_
        refine gf_RX6_22 (pc := 27) C 0 rfl dX6_isTree_27 ?_
        refine g_iload_n (pc := 30) C 3 dX6_isTree_30 rfl ?_
        obtain ⟨g31, hf⟩ := k_guard hf
        refine g_iald (pc := 31) C 5 0 rfl rfl g31 dX6_isTree_31 ?_
        refine g_istore (pc := 32) C [(4, .int (m.2.2.2.2.2.1 (ix x3))), (0, .ref a.1), (1, .int x1), (2, .int x2), (3, .int x3)] dX6_isTree_32 (by decide) rfl ?_
        refine g_iload_n (pc := 34) C 3 dX6_isTree_34 rfl ?_
        refine g_if_eq (pc := 35) C 118 dX6_isTree_35 (by decide) (fun (c35 : x2 = 0) => ?_) (fun (c35 : ¬ x2 = 0) => ?_)
        · have hf := k_pos c35 hf
          refine g_iload (pc := 118) C 0 dX6_isTree_118 rfl ?_
          refine g_bipush (pc := 120) C 40 dX6_isTree_120 (by decide) ?_
          refine g_icmp_ne (pc := 122) C 175 dX6_isTree_122 (by decide) (fun (c122 : ¬ (m.2.2.2.2.2.1 (ix x3)) = 40) => ?_) (fun (c122 : (m.2.2.2.2.2.1 (ix x3)) = 40) => ?_)
          · have hf := k_neg c122 hf
            refine g_sub [1, 2, 3, 4, 0] (lv' := [(0, .ref a.1), (1, .int x1), (2, .int x2), (3, .int x3), (4, .int (m.2.2.2.2.2.1 (ix x3)))]) rfl ?_
            exact J175 (fun q0 q1 q2 q3 => M_isTree_L18 fu q0 q1 q2 q3) ih m x1 x2 x3 (m.2.2.2.2.2.1 (ix x3)) hf
          · have hf := k_pos c122 hf
            refine g_iload_n (pc := 125) C 4 dX6_isTree_125 rfl ?_
            refine g_if_le (pc := 126) C 175 dX6_isTree_126 (by decide) (fun (c126 : x3 ≤ 0) => ?_) (fun (c126 : ¬ x3 ≤ 0) => ?_)
            · have hf := k_pos c126 hf
              refine g_sub [1, 2, 3, 4, 0] (lv' := [(0, .ref a.1), (1, .int x1), (2, .int x2), (3, .int x3), (4, .int (m.2.2.2.2.2.1 (ix x3)))]) rfl ?_
              exact J175 (fun q0 q1 q2 q3 => M_isTree_L18 fu q0 q1 q2 q3) ih m x1 x2 x3 (m.2.2.2.2.2.1 (ix x3)) hf
            · have hf := k_neg c126 hf
              refine g_aload_n (pc := 129) C 1 dX6_isTree_129 rfl ?_
              refine gf_RX6_22 (pc := 130) C 0 rfl dX6_isTree_130 ?_
              refine g_iload_n (pc := 133) C 4 dX6_isTree_133 rfl ?_
              refine g_iconst (pc := 134) C 1 dX6_isTree_134 (by decide) ?_
              refine g_isub (pc := 135) C dX6_isTree_135 ?_
              obtain ⟨g136, hf⟩ := k_guard hf
              refine g_iald (pc := 136) C 5 0 rfl rfl g136 dX6_isTree_136 ?_
              refine g_bipush (pc := 137) C 97 dX6_isTree_137 (by decide) ?_
              refine g_bipush (pc := 139) C 122 dX6_isTree_139 (by decide) ?_
              obtain ⟨v141, h141, hf⟩ := Option.bind_eq_some_iff.mp hf
              refine g_callS' (pc := 141) hla C (c_X6_in l D cI cS (m.2.2.2.2.2.1 (ix (x3 - 1))) 97 122 v141 h141) tb_X6_in m_744 m_X6_in_static m_ini_RX6 hd_X6_in (by decide) rfl rfl (Nat.le_of_ble_eq_true rfl) dX6_isTree_141 (seM_nil cI cS a m) (seM_nil cI cS a m).symm [.int v141] rfl ?_
              refine g_if_eq (pc := 144) C 175 dX6_isTree_144 (by decide) (fun (c144 : v141 = 0) => ?_) (fun (c144 : ¬ v141 = 0) => ?_)
              · have hf := k_pos c144 hf
                refine g_sub [1, 2, 3, 4, 0] (lv' := [(0, .ref a.1), (1, .int x1), (2, .int x2), (3, .int x3), (4, .int (m.2.2.2.2.2.1 (ix x3)))]) rfl ?_
                exact J175 (fun q0 q1 q2 q3 => M_isTree_L18 fu q0 q1 q2 q3) ih m x1 x2 x3 (m.2.2.2.2.2.1 (ix x3)) hf
              · have hf := k_neg c144 hf
                refine g_iload_n (pc := 147) C 2 dX6_isTree_147 rfl ?_
                refine g_bipush (pc := 148) C 7 dX6_isTree_148 (by decide) ?_
                refine g_icmp_ne (pc := 150) C 160 dX6_isTree_150 (by decide) (fun (c150 : ¬ x1 = 7) => ?_) (fun (c150 : x1 = 7) => ?_)
                · have hf := k_neg c150 hf
                  refine g_iinc (pc := 160) C 2 (x1 + 1) [(1, .int (x1 + 1)), (4, .int (m.2.2.2.2.2.1 (ix x3))), (0, .ref a.1), (2, .int x2), (3, .int x3)] dX6_isTree_160 rfl (congrArg (HAdd.hAdd _) (by decide)) (by decide) rfl ?_
                  refine g_aload_n (pc := 163) C 2 dX6_isTree_163 rfl ?_
                  refine gf_RX6_28 (pc := 164) C 0 rfl dX6_isTree_164 ?_
                  refine g_iload_n (pc := 167) C 0 dX6_isTree_167 rfl ?_
                  refine g_iconst (pc := 168) C 1 dX6_isTree_168 (by decide) ?_
                  obtain ⟨g169, hf⟩ := k_guard hf
                  obtain ⟨u169, e169, hf⟩ := Option.bind_eq_some_iff.mp hf
                  refine g_iastU (pc := 169) C 7 0 u169 (Option.some.inj e169) (csM cI cS a (m.1, m.2.1, m.2.2.1, m.2.2.2.1, m.2.2.2.2.1, m.2.2.2.2.2.1, m.2.2.2.2.2.2.1, m.2.2.2.2.2.2.2.1, m.2.2.2.2.2.2.2.2.1, m.2.2.2.2.2.2.2.2.2.1, m.2.2.2.2.2.2.2.2.2.2.1, u169)) rfl rfl g169 rfl dX6_isTree_169 ?_
                  refine g_iconst (pc := 170) C 1 dX6_isTree_170 (by decide) ?_
                  refine g_istore_n (pc := 171) C [(2, .int 1), (1, .int (x1 + 1)), (4, .int (m.2.2.2.2.2.1 (ix x3))), (0, .ref a.1), (3, .int x3)] dX6_isTree_171 (by decide) rfl ?_
                  refine g_goto (pc := 172) C 243 dX6_isTree_172 (by decide) ?_
                  refine g_iinc (pc := 243) C 4 (x3 + 1) [(3, .int (x3 + 1)), (2, .int 1), (1, .int (x1 + 1)), (4, .int (m.2.2.2.2.2.1 (ix x3))), (0, .ref a.1)] dX6_isTree_243 rfl (congrArg (HAdd.hAdd _) (by decide)) (by decide) rfl ?_
                  refine g_goto (pc := 246) C 18 dX6_isTree_246 (by decide) ?_
                  refine g_sub [4, 2, 1, 0] (lv' := [(0, .ref a.1), (1, .int (x1 + 1)), (2, .int 1), (3, .int (x3 + 1))]) rfl ?_
                  exact ih (m.1, m.2.1, m.2.2.1, m.2.2.2.1, m.2.2.2.2.1, m.2.2.2.2.2.1, m.2.2.2.2.2.2.1, m.2.2.2.2.2.2.2.1, m.2.2.2.2.2.2.2.2.1, m.2.2.2.2.2.2.2.2.2.1, m.2.2.2.2.2.2.2.2.2.2.1, u169) (x1 + 1) 1 (x3 + 1) hf
                · have hf := k_pos c150 hf
                  refine g_aload_n (pc := 153) C 1 dX6_isTree_153 rfl ?_
                  refine g_iload_n (pc := 154) C 4 dX6_isTree_154 rfl ?_
                  refine g_iconst (pc := 155) C 3 dX6_isTree_155 (by decide) ?_
                  obtain ⟨v156, h156, hf⟩ := Option.bind_eq_some_iff.mp hf
                  refine g_callV' (pc := 156) hla C (c_X6_breaks l D cI cS a m x3 3 v156 h156) gg_RX6_153 hd_X6_breaks (by decide) rfl rfl rfl rfl (Nat.le_of_ble_eq_true rfl) dX6_isTree_156 (seM_0 cI cS a m) (seM_0 cI cS a v156.2).symm [.int v156.1] rfl ?_
                  obtain ⟨g159, hf⟩ := k_guard2 hf
                  have e := Option.some.inj hf; subst e
                  exact g_rz (pc := 159) C rfl g159 (flM cI cS a v156.2) dX6_isTree_159
        · have hf := k_neg c35 hf
          refine g_iload (pc := 38) C 0 dX6_isTree_38 rfl ?_
          refine g_bipush (pc := 40) C 97 dX6_isTree_40 (by decide) ?_
          refine g_bipush (pc := 42) C 122 dX6_isTree_42 (by decide) ?_
          obtain ⟨v44, h44, hf⟩ := Option.bind_eq_some_iff.mp hf
          refine g_callS' (pc := 44) hla C (c_X6_in l D cI cS (m.2.2.2.2.2.1 (ix x3)) 97 122 v44 h44) tb_X6_in m_744 m_X6_in_static m_ini_RX6 hd_X6_in (by decide) rfl rfl (Nat.le_of_ble_eq_true rfl) dX6_isTree_44 (seM_nil cI cS a m) (seM_nil cI cS a m).symm [.int v44] rfl ?_
          refine g_if_ne (pc := 47) C 57 dX6_isTree_47 (by decide) (fun (c47 : ¬ v44 = 0) => ?_) (fun (c47 : v44 = 0) => ?_)
          · have hf := k_neg c47 hf
            refine g_aload_n (pc := 57) C 1 dX6_isTree_57 rfl ?_
            refine gf_RX6_150 (pc := 58) C 0 rfl dX6_isTree_58 ?_
            refine g_bipush (pc := 61) C 40 dX6_isTree_61 (by decide) ?_
            refine g_icmp_ne (pc := 63) C 73 dX6_isTree_63 (by decide) (fun (c63 : ¬ m.2.2.2.2.2.2.2.2.2.1 = 40) => ?_) (fun (c63 : m.2.2.2.2.2.2.2.2.2.1 = 40) => ?_)
            · have hf := k_neg c63 hf
              refine g_aload_n (pc := 73) C 1 dX6_isTree_73 rfl ?_
              refine gf_RX6_25 (pc := 74) C 0 rfl dX6_isTree_74 ?_
              refine g_iconst (pc := 77) C 2 dX6_isTree_77 (by decide) ?_
              refine g_aload_n (pc := 78) C 1 dX6_isTree_78 rfl ?_
              refine gf_RX6_150 (pc := 79) C 0 rfl dX6_isTree_79 ?_
              refine g_imul (pc := 82) C dX6_isTree_82 ?_
              refine g_iload (pc := 83) C 0 dX6_isTree_83 rfl ?_
              refine g_bipush (pc := 85) C 97 dX6_isTree_85 (by decide) ?_
              refine g_isub (pc := 87) C dX6_isTree_87 ?_
              obtain ⟨g88, hf⟩ := k_guard hf
              obtain ⟨u88, e88, hf⟩ := Option.bind_eq_some_iff.mp hf
              refine g_iastU (pc := 88) C 6 0 u88 (Option.some.inj e88) (csM cI cS a (m.1, m.2.1, m.2.2.1, m.2.2.2.1, m.2.2.2.2.1, m.2.2.2.2.2.1, m.2.2.2.2.2.2.1, m.2.2.2.2.2.2.2.1, m.2.2.2.2.2.2.2.2.1, m.2.2.2.2.2.2.2.2.2.1, u88, m.2.2.2.2.2.2.2.2.2.2.2)) rfl rfl g88 rfl dX6_isTree_88 ?_
              refine g_aload_n (pc := 89) C 1 dX6_isTree_89 rfl ?_
              refine gf_RX6_25 (pc := 90) C 0 rfl dX6_isTree_90 ?_
              refine g_iconst (pc := 93) C 2 dX6_isTree_93 (by decide) ?_
              refine g_aload_n (pc := 94) C 1 dX6_isTree_94 rfl ?_
              refine gf_RX6_150 (pc := 95) C 0 rfl dX6_isTree_95 ?_
              refine g_imul (pc := 98) C dX6_isTree_98 ?_
              refine g_iconst (pc := 99) C 1 dX6_isTree_99 (by decide) ?_
              refine g_iadd (pc := 100) C dX6_isTree_100 ?_
              refine g_iload_n (pc := 101) C 2 dX6_isTree_101 rfl ?_
              obtain ⟨g102, hf⟩ := k_guard hf
              obtain ⟨u102, e102, hf⟩ := Option.bind_eq_some_iff.mp hf
              refine g_iastU (pc := 102) C 6 0 u102 (Option.some.inj e102) (csM cI cS a (m.1, m.2.1, m.2.2.1, m.2.2.2.1, m.2.2.2.2.1, m.2.2.2.2.2.1, m.2.2.2.2.2.2.1, m.2.2.2.2.2.2.2.1, m.2.2.2.2.2.2.2.2.1, m.2.2.2.2.2.2.2.2.2.1, u102, m.2.2.2.2.2.2.2.2.2.2.2)) rfl rfl g102 rfl dX6_isTree_102 ?_
              refine g_aload_n (pc := 103) C 1 dX6_isTree_103 rfl ?_
              refine g_dup (pc := 104) C dX6_isTree_104 rfl ?_
              refine gf_RX6_150 (pc := 105) C 0 rfl dX6_isTree_105 ?_
              refine g_iconst (pc := 108) C 1 dX6_isTree_108 (by decide) ?_
              refine g_iadd (pc := 109) C dX6_isTree_109 ?_
              refine gp_RX6_150 (pc := 110) C 0 (cs' := csM cI cS a (m.1, m.2.1, m.2.2.1, m.2.2.2.1, m.2.2.2.2.1, m.2.2.2.2.2.1, m.2.2.2.2.2.2.1, m.2.2.2.2.2.2.2.1, m.2.2.2.2.2.2.2.2.1, (m.2.2.2.2.2.2.2.2.2.1 + 1), u102, m.2.2.2.2.2.2.2.2.2.2.2)) rfl rfl dX6_isTree_110 ?_
              refine g_iconst (pc := 113) C 0 dX6_isTree_113 (by decide) ?_
              refine g_istore_n (pc := 114) C [(2, .int 0), (4, .int (m.2.2.2.2.2.1 (ix x3))), (0, .ref a.1), (1, .int x1), (3, .int x3)] dX6_isTree_114 (by decide) rfl ?_
              refine g_goto (pc := 115) C 243 dX6_isTree_115 (by decide) ?_
              refine g_iinc (pc := 243) C 4 (x3 + 1) [(3, .int (x3 + 1)), (2, .int 0), (4, .int (m.2.2.2.2.2.1 (ix x3))), (0, .ref a.1), (1, .int x1)] dX6_isTree_243 rfl (congrArg (HAdd.hAdd _) (by decide)) (by decide) rfl ?_
              refine g_goto (pc := 246) C 18 dX6_isTree_246 (by decide) ?_
              refine g_sub [3, 4, 1, 0] (lv' := [(0, .ref a.1), (1, .int x1), (2, .int 0), (3, .int (x3 + 1))]) rfl ?_
              exact ih (m.1, m.2.1, m.2.2.1, m.2.2.2.1, m.2.2.2.2.1, m.2.2.2.2.2.1, m.2.2.2.2.2.2.1, m.2.2.2.2.2.2.2.1, m.2.2.2.2.2.2.2.2.1, (m.2.2.2.2.2.2.2.2.2.1 + 1), u102, m.2.2.2.2.2.2.2.2.2.2.2) x1 0 (x3 + 1) hf
            · have hf := k_pos c63 hf
              refine g_aload_n (pc := 66) C 1 dX6_isTree_66 rfl ?_
              refine g_iload_n (pc := 67) C 4 dX6_isTree_67 rfl ?_
              refine g_iconst (pc := 68) C 2 dX6_isTree_68 (by decide) ?_
              obtain ⟨v69, h69, hf⟩ := Option.bind_eq_some_iff.mp hf
              refine g_callV' (pc := 69) hla C (c_X6_breaks l D cI cS a m x3 2 v69 h69) gg_RX6_153 hd_X6_breaks (by decide) rfl rfl rfl rfl (Nat.le_of_ble_eq_true rfl) dX6_isTree_69 (seM_0 cI cS a m) (seM_0 cI cS a v69.2).symm [.int v69.1] rfl ?_
              obtain ⟨g72, hf⟩ := k_guard2 hf
              have e := Option.some.inj hf; subst e
              exact g_rz (pc := 72) C rfl g72 (flM cI cS a v69.2) dX6_isTree_72
          · have hf := k_pos c47 hf
            refine g_aload_n (pc := 50) C 1 dX6_isTree_50 rfl ?_
            refine g_iload_n (pc := 51) C 4 dX6_isTree_51 rfl ?_
            refine g_iconst (pc := 52) C 1 dX6_isTree_52 (by decide) ?_
            obtain ⟨v53, h53, hf⟩ := Option.bind_eq_some_iff.mp hf
            refine g_callV' (pc := 53) hla C (c_X6_breaks l D cI cS a m x3 1 v53 h53) gg_RX6_153 hd_X6_breaks (by decide) rfl rfl rfl rfl (Nat.le_of_ble_eq_true rfl) dX6_isTree_53 (seM_0 cI cS a m) (seM_0 cI cS a v53.2).symm [.int v53.1] rfl ?_
            obtain ⟨g56, hf⟩ := k_guard2 hf
            have e := Option.some.inj hf; subst e
            exact g_rz (pc := 56) C rfl g56 (flM cI cS a v53.2) dX6_isTree_56
  rw [M_isTree] at hf
  refine g_aload_n (pc := 0) C 0 dX6_isTree_0 rfl ?_
  refine g_iconst (pc := 1) C 0 dX6_isTree_1 (by decide) ?_
  refine gp_RX6_150 (pc := 2) C 0 (cs' := csM cI cS a (m.1, m.2.1, m.2.2.1, m.2.2.2.1, m.2.2.2.2.1, m.2.2.2.2.2.1, m.2.2.2.2.2.2.1, m.2.2.2.2.2.2.2.1, m.2.2.2.2.2.2.2.2.1, 0, m.2.2.2.2.2.2.2.2.2.2.1, m.2.2.2.2.2.2.2.2.2.2.2)) rfl rfl dX6_isTree_2 ?_
  refine g_iconst (pc := 5) C 0 dX6_isTree_5 (by decide) ?_
  refine g_istore_n (pc := 6) C [(1, .int 0), (0, .ref a.1)] dX6_isTree_6 (by decide) rfl ?_
  refine g_iconst (pc := 7) C 1 dX6_isTree_7 (by decide) ?_
  refine g_istore_n (pc := 8) C [(2, .int 1), (1, .int 0), (0, .ref a.1)] dX6_isTree_8 (by decide) rfl ?_
  refine g_aload_n (pc := 9) C 2 dX6_isTree_9 rfl ?_
  refine gf_RX6_28 (pc := 10) C 0 rfl dX6_isTree_10 ?_
  refine g_iconst (pc := 13) C 0 dX6_isTree_13 (by decide) ?_
  refine g_iconst (pc := 14) C 1 dX6_isTree_14 (by decide) ?_
  obtain ⟨u15, e15, hf⟩ := Option.bind_eq_some_iff.mp hf
  refine g_iastU (pc := 15) C 7 0 u15 (Option.some.inj e15) (csM cI cS a (m.1, m.2.1, m.2.2.1, m.2.2.2.1, m.2.2.2.2.1, m.2.2.2.2.2.1, m.2.2.2.2.2.2.1, m.2.2.2.2.2.2.2.1, m.2.2.2.2.2.2.2.2.1, 0, m.2.2.2.2.2.2.2.2.2.2.1, u15)) rfl rfl (by decide) rfl dX6_isTree_15 ?_
  refine g_iconst (pc := 16) C 0 dX6_isTree_16 (by decide) ?_
  refine g_istore_n (pc := 17) C [(3, .int 0), (2, .int 1), (1, .int 0), (0, .ref a.1)] dX6_isTree_17 (by decide) rfl ?_
  refine g_sub [3, 2, 1, 0] (lv' := [(0, .ref a.1), (1, .int 0), (2, .int 1), (3, .int 0)]) rfl ?_
  exact L18 1000 (m.1, m.2.1, m.2.2.1, m.2.2.2.1, m.2.2.2.2.1, m.2.2.2.2.2.1, m.2.2.2.2.2.2.1, m.2.2.2.2.2.2.2.1, m.2.2.2.2.2.2.2.2.1, 0, m.2.2.2.2.2.2.2.2.2.2.1, u15) 0 1 0 hf
set_option maxHeartbeats 4000000 in
set_option maxRecDepth 100000 in
theorem c_X6_fault (l : Launch) (D : va_G) (cI cS : ClassId) (a : aM) (m : MD) (x1 : Int32) (out : Int32 × MD) (hf : M_fault m x1 = some out) : kM l D (kTy cI cS) yX6_fault ct_X6_fault rm_X6_fault [.ref a.1, .int x1] [wM cI cS a m] (kEq (some (.int out.1)) [wM cI cS a out.2]) := by
  refine k_methodE cX6_fault 2 (some .int) RX6 rfl [(0, .ref a.1), (1, .int x1)] rfl (by decide +kernel) (Nat.le_of_ble_eq_true rfl) (fun κ A hla C => ?_)
  refine g_chunks (flM cI cS a m).symm ?_
  rw [M_fault] at hf
  refine g_iload_n (pc := 0) C 1 dX6_fault_0 rfl ?_
  refine g_iconst (pc := 1) C 0 dX6_fault_1 (by decide) ?_
  refine g_iconst (pc := 2) C 1 dX6_fault_2 (by decide) ?_
  obtain ⟨v3, h3, hf⟩ := Option.bind_eq_some_iff.mp hf
  refine g_callS' (pc := 3) hla C (c_X6_in l D cI cS x1 0 1 v3 h3) tb_X6_in m_744 m_X6_in_static m_ini_RX6 hd_X6_in (by decide) rfl rfl (Nat.le_of_ble_eq_true rfl) dX6_fault_3 (seM_nil cI cS a m) (seM_nil cI cS a m).symm [.int v3] rfl ?_
  refine g_if_ne (pc := 6) C 11 dX6_fault_6 (by decide) (fun (c6 : ¬ v3 = 0) => ?_) (fun (c6 : v3 = 0) => ?_)
  · have hf := k_neg c6 hf
    refine g_aload_n (pc := 11) C 0 dX6_fault_11 rfl ?_
    obtain ⟨v12, h12, hf⟩ := Option.bind_eq_some_iff.mp hf
    refine g_callV' (pc := 12) hla C (c_X6_isTree l D cI cS a m v12 h12) gg_RX6_156 hd_X6_isTree (by decide) rfl rfl rfl rfl (Nat.le_of_ble_eq_true rfl) dX6_fault_12 (seM_0 cI cS a m) (seM_0 cI cS a v12.2).symm [.int v12.1] rfl ?_
    refine g_if_eq (pc := 15) C 21 dX6_fault_15 (by decide) (fun (c15 : v12.1 = 0) => ?_) (fun (c15 : ¬ v12.1 = 0) => ?_)
    · have hf := k_pos c15 hf
      refine g_iload_n (pc := 21) C 1 dX6_fault_21 rfl ?_
      refine g_if_ne (pc := 22) C 32 dX6_fault_22 (by decide) (fun (c22 : ¬ x1 = 0) => ?_) (fun (c22 : x1 = 0) => ?_)
      · have hf := k_neg c22 hf
        refine g_aload_n (pc := 32) C 0 dX6_fault_32 rfl ?_
        refine gf_RX6_147 (pc := 33) C 0 rfl dX6_fault_33 ?_
        have e := Option.some.inj hf; subst e
        exact g_ri (pc := 36) C rfl (flM cI cS a v12.2) dX6_fault_36
      · have hf := k_pos c22 hf
        refine g_aload_n (pc := 25) C 0 dX6_fault_25 rfl ?_
        refine gf_RX6_144 (pc := 26) C 0 rfl dX6_fault_26 ?_
        refine g_goto (pc := 29) C 36 dX6_fault_29 (by decide) ?_
        have e := Option.some.inj hf; subst e
        exact g_ri (pc := 36) C rfl (flM cI cS a v12.2) dX6_fault_36
    · have hf := k_neg c15 hf
      refine g_bipush (pc := 18) C (-4) dX6_fault_18 (by decide) ?_
      have e := Option.some.inj hf; subst e
      exact g_ri (pc := 20) C rfl (flM cI cS a v12.2) dX6_fault_20
  · have hf := k_pos c6 hf
    refine g_iconst (pc := 9) C (-1) dX6_fault_9 (by decide) ?_
    have e := Option.some.inj hf; subst e
    exact g_ri (pc := 10) C rfl (flM cI cS a m) dX6_fault_10
