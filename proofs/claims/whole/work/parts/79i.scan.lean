/-! the text passed over, in both -/
theorem p_ne02 : ¬ (2 : Int32) = 0 := by decide
theorem p_ne03 : ¬ (3 : Int32) = 0 := by decide
theorem p_ne04 : ¬ (4 : Int32) = 0 := by decide
theorem is_let : ∀ ch, ch < 127 → P_isLetter (nI ch - 97) = if 97 ≤ ch ∧ ch ≤ 122 then some 1 else some 0 := by decide +kernel
theorem in_let : ∀ ch, ch < 127 → M_in (nI ch) 97 122 = if 97 ≤ ch ∧ ch ≤ 122 then some 1 else some 0 := by decide +kernel
theorem sub_let : ∀ ch, ch < 127 → 97 ≤ ch → nI ch - 97 = nI (ch - 97) := by decide +kernel
theorem L26_stop (fu : Nat) (T : TR) (Op : RW) (w mo fp why : Int32) (hw : ¬ why = 0) {r : RW} {l : Nat} {c : Nat → Int32} (hr : RRep r l c) (x : Int32) : C_passOver_L26 (fu + 1) (T, Op, w, mo, fp, why) 120 r x = some (T, Op, w, mo, fp, why) := by
  rw [C_passOver_L26, R_size_ok 120 hr, p_bs]
  dsimp only
  rw [C_passOver_J65]
  dsimp only
  rw [if_neg hw, if_neg hw]
  by_cases c : nI l ≤ x
  · rw [if_pos c]
  · rw [if_neg c]
theorem L26_step (fu : Nat) (T : TR) (Op : RW) (w mo fp : Int32) {r : RW} {l i : Nat} {c : Nat → Nat} (hr : RRep r l (nR c)) (hl : l ≤ 120) (hi : i < l) : C_passOver_L26 (fu + 1) (T, Op, w, mo, fp, 0) 120 r (nI i) = (C_reasonAgainst (T, Op, w, mo, nI i, 0) (nI (c i))).bind fun v53 => C_passOver_L26 fu (v53.2.1, v53.2.2.1, v53.2.2.2.1, v53.2.2.2.2.1, v53.2.2.2.2.2.1, v53.1) 120 r (nI (i + 1)) := by
  rw [C_passOver_L26, R_size_ok 120 hr, p_bs]
  dsimp only
  rw [if_neg (by rw [p_le (by omega) (by omega)]; omega), if_pos rfl, R_at_in hr hl (by omega) hi, p_bs, p_1, p_add]
  rfl
/-- a fault, in the component -/
theorem L26_fault (fu : Nat) (T : TR) (Op : RW) (w mo fp why : Int32) (hw : ¬ why = 0) {r : RW} {l i : Nat} {c : Nat → Nat} (hr : RRep r l (nR c)) (hl : l ≤ 120) (hi : i < l) (h : C_reasonAgainst (T, Op, w, mo, nI i, 0) (nI (c i)) = some (why, (T, Op, w, mo, nI i, 0))) : C_passOver_L26 (fu + 1 + 1) (T, Op, w, mo, fp, 0) 120 r (nI i) = some (T, Op, w, mo, nI i, why) := by
  rw [L26_step (fu + 1) T Op w mo fp hr hl hi, h, p_bs]
  exact L26_stop fu T Op w mo (nI i) why hw hr _
theorem bump_ok {Op : RW} {d : Nat} {O : Nat → Nat} (h : RRep Op d (nR O)) (hd : d ≤ 7) : ∃ Op', ((R_at 7 Op (nI d - 1)).bind fun v65 => R_put 7 Op (nI d - 1) (v65 + 1)) = some Op' ∧ RRep Op' d (nR (upO d O)) := by
  by_cases z : d = 0
  · subst z
    refine ⟨Op, ?_, h.1, fun i hi => by omega⟩
    rw [R_at_neg (by decide), p_bs, R_put_neg (by decide)]
  · rw [p_1, p_sub (by omega), R_at_in h hd (by omega) (by omega), p_bs]
    refine ⟨_, R_put_in h hd (by omega) (by omega) _, (R_put_rep h (show d - 1 < d by omega) _).congr fun i hi => ?_⟩
    show upd (nR O) (d - 1) (nI (O (d - 1)) + nI 1) i = nI (upO d O i)
    rw [p_add, upO]
    by_cases y : i = d - 1
    · subst y
      rw [p_upd_same, if_pos (by omega)]
    · rw [p_upd_ne y, if_neg (by omega)]; rfl
theorem M_breaks_ok (a b pc : Arr) (z : Int32) (s4 mt : Arr) (len p1 rs tn : Int32) (told rows : Arr) (x why : Int32) : ((M_breaks (a, b, pc, z, s4, mt, len, p1, rs, tn, told, rows) x why).bind fun v => if v.1 = 0 ∨ v.1 = 1 then some (v.1, v.2) else none) = some (0, (a, b, pc, z, s4, mt, len, x, why, tn, told, rows)) := by
  rw [M_breaks, p_bs, if_pos (Or.inl rfl)]
def ScanEnd (sc : SC) (v p1 rs tn : Int32) (told : Arr) : Prop := (v = 0 ∧ p1 = sc.2.2.2.2.1 ∧ rs = sc.2.2.2.2.2 ∧ ¬ sc.2.2.2.2.2 = 0) ∨ (v = 1 ∧ sc.2.2.2.2.2 = 0 ∧ ∃ (n : Nat) (TL TD : Nat → Nat), TRep sc.1 n TL TD ∧ WF n TD ∧ (∀ i, i < n → TL i ≤ 25) ∧ tn = nI n ∧ ∀ j, j < n → told (2 * j) = nI (TL j) ∧ told (2 * j + 1) = nI (TD j))
theorem scan_loop {c : Nat → Nat} {l : Nat} (hc : ∀ i, i < l → 32 ≤ c i ∧ c i ≤ 126) (hl : l ≤ 120) {r : RW} (hr : RRep r l (nR c)) {mt : Arr} (hmt : ∀ i, i < l → mt i = nI (c i)) (a b pc : Arr) (z : Int32) (s4 : Arr) : ∀ q i fu fu' d tn w mo (TL TD O : Nat → Nat) (T : TR) (Op : RW) (mv fp p1 rs : Int32) (told rows : Arr), i + q = l → q < fu → q < fu' → ScP c i d tn w mo TL TD O → TRep T tn TL TD → RRep Op d (nR O) → (w = 0 → mv = nI mo) → (∀ j, j < tn → told (2 * j) = nI (TL j) ∧ told (2 * j + 1) = nI (TD j)) → (∀ j, j < d → rows (j + 1) = nI (O j + (if w = 1 ∧ j + 1 = d then 1 else 0))) →
    ∃ (sc' : SC) (v p1' rs' tn' : Int32) (told' rows' : Arr), C_passOver_L26 fu (T, Op, nI w, mv, fp, 0) 120 r (nI i) = some sc' ∧ M_isTree_L18 fu' (a, b, pc, z, s4, mt, nI l, p1, rs, nI tn, told, rows) (nI d) (nI w) (nI i) = some (v, (a, b, pc, z, s4, mt, nI l, p1', rs', tn', told', rows')) ∧ ScanEnd sc' v p1' rs' tn' told' := by
  intro q
  induction q with
  | zero =>
    intro i fu fu' d tn w mo TL TD O T Op mv fp p1 rs told rows hi h1 h2 hP hT hO hmv htold hrows
    obtain ⟨fu, rfl⟩ : ∃ k, fu = k + 1 := ⟨fu - 1, by omega⟩
    obtain ⟨fu', rfl⟩ : ∃ k, fu' = k + 1 := ⟨fu' - 1, by omega⟩
    have hil : i = l := by omega
    subst hil
    have hd := hP.1
    have cl : C_passOver_L26 (fu + 1) (T, Op, nI w, mv, fp, 0) 120 r (nI i) = if nI w = 0 then (if nI d ≤ 0 then some (T, Op, nI w, mv, fp, 0) else some (T, Op, nI w, mv, nI i, 1)) else some (T, Op, nI w, mv, nI i, 1) := by
      rw [C_passOver_L26, R_size_ok 120 hr, p_bs, if_pos (Int32.le_refl _), C_passOver_J65]
      dsimp only
      rw [if_pos rfl, R_size_ok 7 hO, p_bs, C_passOver_J89, R_size_ok 120 hr, p_bs]
    have ml : M_isTree_L18 (fu' + 1) (a, b, pc, z, s4, mt, nI i, p1, rs, nI tn, told, rows) (nI d) (nI w) (nI i) = if nI w = 0 then (if nI d = 0 then some (1, (a, b, pc, z, s4, mt, nI i, p1, rs, nI tn, told, rows)) else some (0, (a, b, pc, z, s4, mt, nI i, nI i, 1, nI tn, told, rows))) else some (0, (a, b, pc, z, s4, mt, nI i, nI i, 1, nI tn, told, rows)) := by
      rw [M_isTree_L18]
      dsimp only
      rw [if_pos (Int32.le_refl _), M_isTree_J257, M_breaks, p_bs, if_pos rfl]
    have bad : ScanEnd (T, Op, nI w, mv, nI i, 1) 0 (nI i) 1 (nI tn) told := Or.inl ⟨rfl, rfl, rfl, p_ne01⟩
    rcases hP.2.2.2.2.1 with hw | hw
    · subst hw
      by_cases hd0 : d = 0
      · subst hd0
        have htn : 0 < tn := by
          apply Nat.pos_of_ne_zero
          intro y
          have := (hP.2.2.2.2.2.1 y).2
          omega
        refine ⟨_, 1, p1, rs, nI tn, told, rows, cl.trans (by rw [if_pos p_0.symm, if_pos (by rw [p_0]; exact Int32.le_refl _)]), ml.trans (by rw [if_pos p_0.symm, if_pos p_0.symm]), Or.inr ⟨rfl, rfl, tn, TL, TD, hT, (hP.2.2.2.2.2.2.1 htn).1, hP.2.2.1, rfl, htold⟩⟩
      · refine ⟨_, 0, nI i, 1, nI tn, told, rows, cl.trans (by rw [if_pos p_0.symm, if_neg (by rw [p_0, p_le (by omega) (by omega)]; omega)]), ml.trans (by rw [if_pos p_0.symm, if_neg (by rw [p_0, p_eq (by omega) (by omega)]; exact hd0)]), bad⟩
    · subst hw
      have w1 : ¬ nI 1 = 0 := by rw [p_0, p_eq (by omega) (by omega)]; omega
      exact ⟨_, 0, nI i, 1, nI tn, told, rows, cl.trans (by rw [if_neg w1]), ml.trans (by rw [if_neg w1]), bad⟩
  | succ q ih =>
    intro i fu fu' d tn w mo TL TD O T Op mv fp p1 rs told rows hi h1 h2 hP hT hO hmv htold hrows
    obtain ⟨fu, rfl⟩ : ∃ k, fu = k + 1 + 1 := ⟨fu - 2, by omega⟩
    obtain ⟨fu', rfl⟩ : ∃ k, fu' = k + 1 := ⟨fu' - 1, by omega⟩
    have hil : i < l := by omega
    have hd := hP.1
    have htn40 := hP.2.1
    have hci := hc i hil
    have nli : ¬ nI l ≤ nI i := by rw [p_le (by omega) (by omega)]; omega
    have nix : ¬ (nI i < 0 ∨ 120 ≤ ix (nI i)) := by rw [p_0, p_ix (by omega), p_lt (by omega) (by omega)]; omega
    have hmi : mt (ix (nI i)) = nI (c i) := by rw [p_ix (by omega)]; exact hmt i hil
    have w1 : ¬ nI 1 = 0 := by rw [p_0, p_eq (by omega) (by omega)]; omega
    have kk : nI i + 1 = nI (i + 1) := by rw [p_1, p_add]
    rcases hP.2.2.2.2.1 with hw | hw
    · -- no letter is due
      subst hw
      have h8 := hP.2.2.2.2.2.2.2.1 rfl
      have htn : 0 < tn := by
        apply Nat.pos_of_ne_zero
        intro y
        have := (hP.2.2.2.2.2.1 y).2
        omega
      have hmv' := hmv rfl
      subst hmv'
      -- a fault of the first kind
      have one : C_reasonAgainst (T, Op, nI 0, nI mo, nI i, 0) (nI (c i)) = some (1, (T, Op, nI 0, nI mo, nI i, 0)) → M_isTree_L18 (fu' + 1) (a, b, pc, z, s4, mt, nI l, p1, rs, nI tn, told, rows) (nI d) (nI 0) (nI i) = some (0, (a, b, pc, z, s4, mt, nI l, nI i, 1, nI tn, told, rows)) → ∃ (sc' : SC) (v p1' rs' tn' : Int32) (told' rows' : Arr), C_passOver_L26 (fu + 1 + 1) (T, Op, nI 0, nI mo, fp, 0) 120 r (nI i) = some sc' ∧ M_isTree_L18 (fu' + 1) (a, b, pc, z, s4, mt, nI l, p1, rs, nI tn, told, rows) (nI d) (nI 0) (nI i) = some (v, (a, b, pc, z, s4, mt, nI l, p1', rs', tn', told', rows')) ∧ ScanEnd sc' v p1' rs' tn' told' := fun u1 u2 =>
        ⟨_, 0, nI i, 1, nI tn, told, rows, L26_fault fu T Op (nI 0) (nI mo) fp 1 p_ne01 hr hl hil u1, u2, Or.inl ⟨rfl, rfl, rfl, p_ne01⟩⟩
      have ra : C_reasonAgainst (T, Op, nI 0, nI mo, nI i, 0) (nI (c i)) = if nI (c i) = 40 then (C_passOpening (T, Op, nI 0, nI mo, nI i, 0)).bind fun v23 => some (v23.1, v23.2) else if nI d = 0 then some (1, (T, Op, nI 0, nI mo, nI i, 0)) else if nI (c i) = 44 then (C_passComma (T, Op, nI 0, nI mo, nI i, 0)).bind fun v46 => some (v46.1, v46.2) else if nI (c i) = 41 then (C_passClosing (T, Op, nI 0, nI mo, nI i, 0)).bind fun v57 => some (v57.1, v57.2) else some (1, (T, Op, nI 0, nI mo, nI i, 0)) := by
        rw [C_reasonAgainst]
        dsimp only
        rw [if_pos p_0.symm, R_size_ok 7 hO, p_bs]
      have mj : ∀ Kf : MD → Int32 → Int32 → Int32 → Option (Int32 × MD), M_isTree_J175 Kf (a, b, pc, z, s4, mt, nI l, p1, rs, nI tn, told, rows) (nI d) (nI 0) (nI i) (nI (c i)) = if nI (c i) = 44 ∧ ¬ d = 0 then (if rows d = 6 then some (0, (a, b, pc, z, s4, mt, nI l, nI i, 4, nI tn, told, rows)) else Kf (a, b, pc, z, s4, mt, nI l, p1, rs, nI tn, told, upd rows d (rows d + 1)) (nI d) 1 (nI (i + 1))) else if nI (c i) = 41 ∧ ¬ d = 0 then Kf (a, b, pc, z, s4, mt, nI l, p1, rs, nI tn, told, rows) (nI (d - 1)) (nI 0) (nI (i + 1)) else some (0, (a, b, pc, z, s4, mt, nI l, nI i, 1, nI tn, told, rows)) := by
        intro Kf
        have j2 : M_isTree_J219 Kf (a, b, pc, z, s4, mt, nI l, p1, rs, nI tn, told, rows) (nI d) (nI 0) (nI i) (nI (c i)) = if nI (c i) = 41 ∧ ¬ d = 0 then Kf (a, b, pc, z, s4, mt, nI l, p1, rs, nI tn, told, rows) (nI (d - 1)) (nI 0) (nI (i + 1)) else some (0, (a, b, pc, z, s4, mt, nI l, nI i, 1, nI tn, told, rows)) := by
          rw [M_isTree_J219, M_breaks_ok, kk]
          by_cases y : nI (c i) = 41
          · rw [if_pos y]
            by_cases y2 : d = 0
            · rw [if_pos (show nI d ≤ 0 by rw [y2, p_0]; exact Int32.le_refl _), if_neg (show ¬ (nI (c i) = 41 ∧ ¬ d = 0) from fun g => g.2 y2)]
            · rw [if_neg (show ¬ nI d ≤ 0 by rw [p_0, p_le (by omega) (by omega)]; omega), if_pos (show nI (c i) = 41 ∧ ¬ d = 0 from ⟨y, y2⟩), p_1, p_dec (by omega)]
          · rw [if_neg y, if_neg (show ¬ (nI (c i) = 41 ∧ ¬ d = 0) from fun g => y g.1)]
        rw [M_isTree_J175, j2, M_breaks_ok, kk]
        dsimp only
        by_cases y : nI (c i) = 44
        · rw [if_pos y]
          have n41 : ¬ nI (c i) = 41 := by rw [y]; decide
          by_cases y2 : d = 0
          · rw [if_pos (show nI d ≤ 0 by rw [y2, p_0]; exact Int32.le_refl _), if_neg (show ¬ (nI (c i) = 41 ∧ ¬ d = 0) from fun g => n41 g.1), if_neg (show ¬ (nI (c i) = 44 ∧ ¬ d = 0) from fun g => g.2 y2)]
          · have nd : ¬ (nI d < 0 ∨ 9 ≤ ix (nI d)) := by rw [p_0, p_ix (by omega), p_lt (by omega) (by omega)]; omega
            rw [if_neg (show ¬ nI d ≤ 0 by rw [p_0, p_le (by omega) (by omega)]; omega), if_pos (show nI (c i) = 44 ∧ ¬ d = 0 from ⟨y, y2⟩), if_neg nd, if_neg nd, if_neg nd, p_bs, p_ix (by omega)]
        · rw [if_neg y, if_neg (show ¬ (nI (c i) = 44 ∧ ¬ d = 0) from fun g => y g.1)]
      have ml : M_isTree_L18 (fu' + 1) (a, b, pc, z, s4, mt, nI l, p1, rs, nI tn, told, rows) (nI d) (nI 0) (nI i) = if nI (c i) = 40 ∧ (97 ≤ c (i - 1) ∧ c (i - 1) ≤ 122) then (if nI d = 7 then some (0, (a, b, pc, z, s4, mt, nI l, nI i, 3, nI tn, told, rows)) else M_isTree_L18 fu' (a, b, pc, z, s4, mt, nI l, p1, rs, nI tn, told, upd rows (d + 1) 1) (nI (d + 1)) 1 (nI (i + 1))) else M_isTree_J175 (fun q0 q1 q2 q3 => M_isTree_L18 fu' q0 q1 q2 q3) (a, b, pc, z, s4, mt, nI l, p1, rs, nI tn, told, rows) (nI d) (nI 0) (nI i) (nI (c i)) := by
        rw [M_isTree_L18]
        dsimp only
        have hi1 : mt (ix (nI i - 1)) = nI (c (i - 1)) := by rw [p_1, p_sub (by omega), p_ix (by omega)]; exact hmt (i - 1) (by omega)
        have nix1 : ¬ ((nI i - 1) < 0 ∨ 120 ≤ ix (nI i - 1)) := by rw [p_0, p_1, p_sub (by omega), p_ix (by omega), p_lt (by omega) (by omega)]; omega
        rw [if_neg nli, if_neg nix, if_pos p_0.symm]
        by_cases y : nI (c i) = 40
        · rw [if_pos (hmi.trans y), if_neg (show ¬ nI i ≤ 0 by rw [p_0, p_le (by omega) (by omega)]; omega), if_neg nix1, hi1, in_let _ (by have := (hc (i - 1) (by omega)).2; omega), hmi, kk]
          by_cases y2 : 97 ≤ c (i - 1) ∧ c (i - 1) ≤ 122
          · have nd : ¬ ((nI d + 1) < 0 ∨ 9 ≤ ix (nI d + 1)) := by rw [p_0, p_1, p_add, p_ix (by omega), p_lt (by omega) (by omega)]; omega
            rw [if_pos y2, p_bs, if_neg p_ne01, if_pos (show nI (c i) = 40 ∧ (97 ≤ c (i - 1) ∧ c (i - 1) ≤ 122) from ⟨y, y2⟩), M_breaks_ok, if_neg nd, p_bs]
            by_cases y3 : nI d = 7
            · rw [if_pos y3, if_pos y3]
            · rw [if_neg y3, if_neg y3, show nI d + 1 = nI (d + 1) by rw [p_1, p_add], p_ix (by omega)]
          · rw [if_neg y2, p_bs, if_pos rfl, if_neg (show ¬ (nI (c i) = 40 ∧ (97 ≤ c (i - 1) ∧ c (i - 1) ≤ 122)) from fun g => y2 g.2)]
        · rw [if_neg (show ¬ mt (ix (nI i)) = 40 from fun g => y (hmi.symm.trans g)), hmi, if_neg (show ¬ (nI (c i) = 40 ∧ (97 ≤ c (i - 1) ∧ c (i - 1) ≤ 122)) from fun g => y g.1)]
      by_cases y40 : c i = 40
      · have e40 : nI (c i) = 40 := by rw [y40, p_40]
        have n44 : ¬ nI (c i) = 44 := by rw [e40]; decide
        have n41 : ¬ nI (c i) = 41 := by rw [e40]; decide
        rcases h8.2 with ⟨m1, m2, m3⟩ | ⟨m1, m2⟩
        · subst m1
          by_cases y7 : d = 7
          · refine ⟨_, 0, nI i, 3, nI tn, told, rows, L26_fault fu T Op (nI 0) (nI 1) fp 3 p_ne03 hr hl hil ?_, ?_, Or.inl ⟨rfl, rfl, rfl, p_ne03⟩⟩
            · rw [ra, if_pos e40, C_passOpening]
              dsimp only
              rw [if_neg w1, R_size_ok 7 hO, p_bs, y7, p_7, if_neg (by rw [p_lt (by omega) (by omega)]; omega), p_bs]
            · rw [ml, if_pos (show nI (c i) = 40 ∧ (97 ≤ c (i - 1) ∧ c (i - 1) ≤ 122) from ⟨e40, m2⟩), y7, p_7, if_pos rfl]
          · have hP' := hP.opening (mo' := 1) rfl (show d < 7 by omega)
            obtain ⟨Op', o1, o2⟩ := R_add_ok (cap := 7) hO (nI 0) (by omega) (by omega)
            obtain ⟨sc', v, p1', rs', tn', told', rows', g1, g2, g3⟩ := ih (i + 1) (fu + 1) fu' (d + 1) tn 1 1 TL TD (insN d 0 O) T Op' (nI 1) (nI i) p1 rs told (upd rows (d + 1) 1) (by omega) (by omega) (by omega) hP' hT (o2.congr fun j _ => ins_nR d 0 O j) (fun y => by omega) htold (fun j hj => by
              by_cases y : j = d
              · subst y
                rw [p_upd_same, insN, if_neg (by omega), if_pos rfl, if_pos ⟨rfl, rfl⟩, p_1]
              · have := hrows j (by omega)
                rw [if_neg (by omega)] at this
                rw [p_upd_ne (by omega), this, insN, if_pos (by omega), if_neg (by omega)])
            refine ⟨sc', v, p1', rs', tn', told', rows', ?_, ?_, g3⟩
            · rw [L26_step (fu + 1) T Op (nI 0) (nI 1) fp hr hl hil, ra, if_pos e40, C_passOpening]
              dsimp only
              rw [if_neg w1, R_size_ok 7 hO, p_bs, p_7, if_pos (by rw [p_lt (by omega) (by omega)]; omega), p_0, o1, p_bs, p_bs, p_bs, p_1]
              rw [p_0] at g1
              exact g1
            · rw [ml, if_pos (show nI (c i) = 40 ∧ (97 ≤ c (i - 1) ∧ c (i - 1) ≤ 122) from ⟨e40, m2⟩), p_7, if_neg (by rw [p_eq (by omega) (by omega)]; exact y7)]
              rw [← p_1] at g2
              exact g2
        · subst m1
          refine one ?_ ?_
          · rw [ra, if_pos e40, C_passOpening]
            dsimp only
            rw [if_pos p_0.symm, p_bs]
          · rw [ml, if_neg (show ¬ (nI (c i) = 40 ∧ (97 ≤ c (i - 1) ∧ c (i - 1) ≤ 122)) from fun g => m2 g.2), mj, if_neg (show ¬ (nI (c i) = 44 ∧ ¬ d = 0) from fun g => n44 g.1), if_neg (show ¬ (nI (c i) = 41 ∧ ¬ d = 0) from fun g => n41 g.1)]
      · have e40 : ¬ nI (c i) = 40 := by rw [p_40, p_eq (by omega) (by omega)]; exact y40
        have ml' := ml
        rw [if_neg (show ¬ (nI (c i) = 40 ∧ (97 ≤ c (i - 1) ∧ c (i - 1) ≤ 122)) from fun g => e40 g.1), mj] at ml'
        by_cases y0 : d = 0
        · refine one ?_ ?_
          · rw [ra, if_neg e40, y0, if_pos p_0.symm]
          · rw [ml', if_neg (show ¬ (nI (c i) = 44 ∧ ¬ d = 0) from fun g => g.2 y0), if_neg (show ¬ (nI (c i) = 41 ∧ ¬ d = 0) from fun g => g.2 y0)]
        · have nd0 : ¬ nI d = 0 := by rw [p_0, p_eq (by omega) (by omega)]; exact y0
          have h4 := hP.2.2.2.1 (d - 1) (by omega)
          rw [if_neg (by omega)] at h4
          have hrd := hrows (d - 1) (by omega)
          rw [if_neg (by omega), show d - 1 + 1 = d by omega, Nat.add_zero] at hrd
          by_cases y44 : c i = 44
          · have e44 : nI (c i) = 44 := by rw [y44, p_44]
            by_cases y6 : O (d - 1) = 6
            · refine ⟨_, 0, nI i, 4, nI tn, told, rows, L26_fault fu T Op (nI 0) (nI mo) fp 4 p_ne04 hr hl hil ?_, ?_, Or.inl ⟨rfl, rfl, rfl, p_ne04⟩⟩
              · rw [ra, if_neg e40, if_neg nd0, if_pos e44, C_passComma]
                dsimp only
                rw [R_size_ok 7 hO, p_bs, p_1, p_sub (by omega), R_at_in hO hd (by omega) (by omega), p_bs]
                rw [show nR O (d - 1) = nI (O (d - 1)) from rfl, y6, p_6, if_neg (by rw [p_lt (by omega) (by omega)]; omega), p_bs]
              · rw [ml', if_pos (show nI (c i) = 44 ∧ ¬ d = 0 from ⟨e44, y0⟩), hrd, y6, p_6, if_pos rfl]
            · have hP' := hP.comma (by omega) (show O (d - 1) < 6 by omega)
              obtain ⟨sc', v, p1', rs', tn', told', rows', g1, g2, g3⟩ := ih (i + 1) (fu + 1) fu' d tn 1 mo TL TD O T Op (nI mo) (nI i) p1 rs told (upd rows d (rows d + 1)) (by omega) (by omega) (by omega) hP' hT hO (fun y => by omega) htold (fun j hj => by
                by_cases y : j + 1 = d
                · rw [y, p_upd_same, hrd, p_1, p_add, if_pos ⟨rfl, rfl⟩, show j = d - 1 by omega]
                · have := hrows j (by omega)
                  rw [if_neg (by omega)] at this
                  rw [p_upd_ne y, this, if_neg (fun g => y g.2)])
              refine ⟨sc', v, p1', rs', tn', told', rows', ?_, ?_, g3⟩
              · rw [L26_step (fu + 1) T Op (nI 0) (nI mo) fp hr hl hil, ra, if_neg e40, if_neg nd0, if_pos e44, C_passComma]
                dsimp only
                rw [R_size_ok 7 hO, p_bs, p_1, p_sub (by omega), R_at_in hO hd (by omega) (by omega), p_bs, p_6]
                rw [show nR O (d - 1) = nI (O (d - 1)) from rfl, if_pos (by rw [p_lt (by omega) (by omega)]; omega), p_bs, p_bs]
                exact g1
              · rw [ml', if_pos (show nI (c i) = 44 ∧ ¬ d = 0 from ⟨e44, y0⟩), hrd, p_6, if_neg (by rw [p_eq (by omega) (by omega)]; exact y6), ← hrd]
                rw [← p_1] at g2
                exact g2
          · have e44 : ¬ nI (c i) = 44 := by rw [p_44, p_eq (by omega) (by omega)]; exact y44
            by_cases y41 : c i = 41
            · have e41 : nI (c i) = 41 := by rw [y41, p_41]
              have hP' := hP.closing (by omega) y41
              obtain ⟨Op', o1, o2⟩ := R_takeOut_ok (cap := 7) (a := d - 1) (b := d) hO hd (by omega) (by omega) (Nat.le_refl _)
              rw [show d - (d - (d - 1)) = d - 1 by omega] at o2
              obtain ⟨sc', v, p1', rs', tn', told', rows', g1, g2, g3⟩ := ih (i + 1) (fu + 1) fu' (d - 1) tn 0 0 TL TD O T Op' (nI 0) (nI i) p1 rs told rows (by omega) (by omega) (by omega) hP' hT (o2.congr fun j hj => by rw [delI, if_pos hj]) (fun _ => rfl) htold (fun j hj => by
                have := hrows j (by omega)
                rw [if_neg (by omega)] at this
                rw [this, if_neg (by omega)])
              refine ⟨sc', v, p1', rs', tn', told', rows', ?_, ?_, g3⟩
              · rw [L26_step (fu + 1) T Op (nI 0) (nI mo) fp hr hl hil, ra, if_neg e40, if_neg nd0, if_neg e44, if_pos e41, C_passClosing]
                dsimp only
                rw [R_size_ok 7 hO, p_bs, p_bs, p_1, p_sub (by omega), o1, p_bs, p_bs, p_bs, p_0]
                rw [p_0] at g1
                exact g1
              · rw [ml', if_neg (show ¬ (nI (c i) = 44 ∧ ¬ d = 0) from fun g => e44 g.1), if_pos (show nI (c i) = 41 ∧ ¬ d = 0 from ⟨e41, y0⟩)]
                exact g2
            · have e41 : ¬ nI (c i) = 41 := by rw [p_41, p_eq (by omega) (by omega)]; exact y41
              refine one ?_ ?_
              · rw [ra, if_neg e40, if_neg nd0, if_neg e44, if_neg e41]
              · rw [ml', if_neg (show ¬ (nI (c i) = 44 ∧ ¬ d = 0) from fun g => e44 g.1), if_neg (show ¬ (nI (c i) = 41 ∧ ¬ d = 0) from fun g => e41 g.1)]
    · -- a letter is due
      subst hw
      have ra : ∀ R, (C_passLetter (T, Op, nI 1, mv, nI i, 0) (nI (c i) - 97)) = some R → C_reasonAgainst (T, Op, nI 1, mv, nI i, 0) (nI (c i)) = some R := fun R hR => by
        rw [C_reasonAgainst]
        dsimp only
        rw [if_neg w1, hR, p_bs]
      by_cases yl : 97 ≤ c i ∧ c i ≤ 122
      · have il := is_let (c i) (by omega)
        rw [if_pos yl] at il
        have nl := in_let (c i) (by omega)
        rw [if_pos yl] at nl
        by_cases y40 : tn = 40
        · refine ⟨_, 0, nI i, 2, nI tn, told, rows, L26_fault fu T Op (nI 1) mv fp 2 p_ne02 hr hl hil (ra _ ?_), ?_, Or.inl ⟨rfl, rfl, rfl, p_ne02⟩⟩
          · rw [C_passLetter, il, p_bs, if_neg p_ne01]
            dsimp only
            rw [T_size_ok hT, p_bs, y40, p_40, if_neg (by rw [p_lt (by omega) (by omega)]; omega)]
          · rw [M_isTree_L18]
            dsimp only
            rw [if_neg nli, if_neg nix, if_neg w1, hmi, nl, p_bs, if_neg p_ne01, y40, p_40, if_pos rfl, M_breaks_ok]
        · have hP' := hP.letter (show tn < 40 by omega) yl
          obtain ⟨T', t1, t2⟩ := T_putIn_ok hT (show tn < 40 by omega) (Nat.le_refl tn) (c i - 97) d
          obtain ⟨Op', o1, o2⟩ := bump_ok hO hd
          obtain ⟨sc', v, p1', rs', tn', told', rows', g1, g2, g3⟩ := ih (i + 1) (fu + 1) fu' d (tn + 1) 0 1 (insN tn (c i - 97) TL) (insN tn d TD) (upO d O) T' Op' (nI 1) (nI i) p1 rs (upd (upd told (2 * tn) (nI (c i - 97))) (2 * tn + 1) (nI d)) rows (by omega) (by omega) (by omega) hP' t2 o2 (fun _ => rfl) (fun j hj => by
            by_cases y : j < tn
            · have := htold j y
              rw [p_upd_ne (by omega), p_upd_ne (by omega), p_upd_ne (by omega), p_upd_ne (by omega), insN, insN, if_pos y, if_pos y]
              exact this
            · have : j = tn := by omega
              subst this
              rw [p_upd_ne (by omega), p_upd_same, p_upd_same, insN, insN, if_neg y, if_pos rfl, if_neg y, if_pos rfl]
              exact ⟨rfl, rfl⟩) (fun j hj => by
            have := hrows j hj
            rw [this, upO, if_neg (show ¬ (0 = 1 ∧ j + 1 = d) by omega)]
            by_cases y : j + 1 = d
            · rw [if_pos ⟨rfl, y⟩, if_pos y]
            · rw [if_neg (fun g => y g.2), if_neg y])
          refine ⟨sc', v, p1', rs', tn', told', rows', ?_, ?_, g3⟩
          · have cp : C_passLetter (T, Op, nI 1, mv, nI i, 0) (nI (c i) - 97) = some (0, (T', Op', 0, 1, nI i, 0)) := by
              rw [C_passLetter, il, p_bs, if_neg p_ne01, sub_let _ (by omega) yl.1]
              dsimp only
              rw [T_size_ok hT, p_bs, p_40, if_pos (by rw [p_lt (by omega) (by omega)]; omega), p_bs, R_size_ok 7 hO, p_bs, t1, p_bs, p_bs]
              have o1' : ∀ F : RW → Option (Int32 × SC), ((R_at 7 Op (nI d - 1)).bind fun v65 => (R_put 7 Op (nI d - 1) (v65 + 1)).bind F) = F Op' := fun F => by
                rw [← Option.bind_assoc, o1, p_bs]
              exact o1' _
            rw [L26_step (fu + 1) T Op (nI 1) mv fp hr hl hil, ra _ cp, p_bs]
            rw [← p_0, ← p_1] at g1
            exact g1
          · have b1 : ¬ ((2 * nI tn) < 0 ∨ 80 ≤ ix (2 * nI tn)) := by rw [p_0, p_2, p_mul, p_ix (by omega), p_lt (by omega) (by omega)]; omega
            have b2 : ¬ ((2 * nI tn + 1) < 0 ∨ 80 ≤ ix (2 * nI tn + 1)) := by rw [p_0, p_1, p_2, p_mul, p_add, p_ix (by omega), p_lt (by omega) (by omega)]; omega
            have x1 : ix (2 * nI tn) = 2 * tn := by rw [p_2, p_mul, p_ix (by omega)]
            have x2 : ix (2 * nI tn + 1) = 2 * tn + 1 := by rw [p_1, p_2, p_mul, p_add, p_ix (by omega)]
            rw [M_isTree_L18]
            dsimp only
            rw [if_neg nli, if_neg nix, if_neg w1, hmi, nl, p_bs, if_neg p_ne01, if_neg (show ¬ nI tn = 40 by rw [p_40, p_eq (by omega) (by omega)]; exact y40), if_neg b1, p_bs, if_neg b2, p_bs, x1, x2, sub_let _ (by omega) yl.1, kk, show nI tn + 1 = nI (tn + 1) by rw [p_1, p_add], p_0]
            exact g2
      · have il := is_let (c i) (by omega)
        rw [if_neg yl] at il
        have nl := in_let (c i) (by omega)
        rw [if_neg yl] at nl
        refine ⟨_, 0, nI i, 1, nI tn, told, rows, L26_fault fu T Op (nI 1) mv fp 1 p_ne01 hr hl hil (ra _ ?_), ?_, Or.inl ⟨rfl, rfl, rfl, p_ne01⟩⟩
        · rw [C_passLetter, il, p_bs, if_pos rfl]
        · rw [M_isTree_L18]
          dsimp only
          rw [if_neg nli, if_neg nix, if_neg w1, hmi, nl, p_bs, if_pos rfl, M_breaks_ok]
