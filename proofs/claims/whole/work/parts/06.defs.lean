/-! the functions of the methods, by program out of their bytecode: none where the machine would throw -/
def R_size (n : Nat) (r : RW) : Option (Int32) := some r.1
def R_at (n : Nat) (r : RW) (x1 : Int32) : Option (Int32) := if x1 < 0 then some (-1)
    else if r.1 ≤ x1 then some (-1)
    else if (Int32.ofNat n) ≤ x1 then some (-1)
    else if x1 < 0 ∨ n ≤ ix x1 then none else some (r.2 (ix x1))
def T_endOf_L4 : Nat → TR → Int32 → Int32 → Option (Int32)
  | 0, _, _, _ => none
  | fu + 1, t, x1, x2 => (R_size 40 t.2).bind fun v9 => if v9 ≤ x2 then (R_size 40 t.2).bind fun v46 => some v46
    else (R_at 40 t.2 x2).bind fun v20 => (R_at 40 t.2 x1).bind fun v28 => if v28 < v20 then T_endOf_L4 fu t x1 (x2 + 1)
    else some x2
def T_endOf (t : TR) (x1 : Int32) : Option (Int32) := T_endOf_L4 1000 t x1 (x1 + 1)
def T_depthOf (t : TR) (x1 : Int32) : Option (Int32) := (R_at 40 t.2 x1).bind fun v5 => some v5
def T_childrenOf_L13 : Nat → TR → Int32 → Int32 → Int32 → Int32 → Option (Int32)
  | 0, _, _, _, _, _ => none
  | fu + 1, t, x1, x2, x3, x4 => if x3 ≤ x4 then some x2
    else (T_depthOf t x4).bind fun v22 => (T_depthOf t x1).bind fun v27 => if v22 = (v27 + 1) then T_childrenOf_L13 fu t x1 (x2 + 1) x3 (x4 + 1)
    else T_childrenOf_L13 fu t x1 x2 x3 (x4 + 1)
def T_childrenOf (t : TR) (x1 : Int32) : Option (Int32) := (T_endOf t x1).bind fun v4 => T_childrenOf_L13 1000 t x1 0 v4 (x1 + 1)
def T_startOfChild_L14 : Nat → TR → Int32 → Int32 → Int32 → Int32 → Option (Int32)
  | 0, _, _, _, _, _ => none
  | fu + 1, t, x1, x3, x4, x5 => if x4 ≤ x5 then some x4
    else (T_depthOf t x5).bind fun v24 => (T_depthOf t x1).bind fun v29 => if v24 = (v29 + 1) then if x3 = 0 then some x5
    else T_startOfChild_L14 fu t x1 (x3 + (-1)) x4 (x5 + 1)
    else T_startOfChild_L14 fu t x1 x3 x4 (x5 + 1)
def T_startOfChild (t : TR) (x1 : Int32) (x2 : Int32) : Option (Int32) := (T_endOf t x1).bind fun v4 => T_startOfChild_L14 1000 t x1 x2 v4 (x1 + 1)
def T_childAt (t : TR) (x1 : Int32) (x2 : Int32) : Option (Int32) := if x2 < 0 then some (-1)
    else (T_childrenOf t x1).bind fun v7 => if v7 ≤ x2 then some (-1)
    else (T_startOfChild t x1 x2).bind fun v16 => some v16
def R_takeFrom_L26 : Nat → Nat → RW → Nat → RW → Int32 → Option (RW)
  | 0, _, _, _, _, _ => none
  | fu + 1, n, r, n', r', x2 => if r.1 ≤ x2 then some r
    else if x2 < 0 ∨ n' ≤ ix x2 then none else if x2 < 0 ∨ n ≤ ix x2 then none else (some (upd r.2 (ix x2) (r'.2 (ix x2)))).bind fun u45 => R_takeFrom_L26 fu n (r.1, u45) n' r' (x2 + 1)
def R_takeFrom (n : Nat) (r : RW) (n' : Nat) (r' : RW) : Option (RW) := R_takeFrom_L26 1000 n ((imin r'.1 (imin (Int32.ofNat n') (Int32.ofNat n))), r.2) n' r' 0
def T_takeFrom (t : TR) (t' : TR) : Option (TR) := (R_takeFrom 40 t.1 40 t'.1).bind fun v8 => (R_takeFrom 40 t.2 40 t'.2).bind fun v19 => some (v8, v19)
def S_takeFrom (s : ST) (s' : ST) : Option (ST) := (T_takeFrom s.1 s'.1).bind fun v8 => (T_takeFrom s.2.1 s'.2.1).bind fun v19 => (R_takeFrom 40 s.2.2.1 40 s'.2.2.1).bind fun v30 => (R_takeFrom 8 s.2.2.2.1 8 s'.2.2.2.1).bind fun v41 => (R_takeFrom 4 s.2.2.2.2.1 4 s'.2.2.2.2.1).bind fun v52 => some (v8, v19, v30, v41, v52, s'.2.2.2.2.2.1, s'.2.2.2.2.2.2)
def H_keep1 (h : HI) (s : ST) (o z : Int32) : Option HI :=
  if irem (o + z) 4 = 0 then (S_takeFrom h.1.1 s).bind fun v => some ((v, h.1.2), o, z + 1)
  else if irem (o + z) 4 = 1 then (S_takeFrom h.1.2.1 s).bind fun v => some ((h.1.1, v, h.1.2.2), o, z + 1)
  else if irem (o + z) 4 = 2 then (S_takeFrom h.1.2.2.1 s).bind fun v => some ((h.1.1, h.1.2.1, v, h.1.2.2.2), o, z + 1)
  else if irem (o + z) 4 = 3 then (S_takeFrom h.1.2.2.2 s).bind fun v => some ((h.1.1, h.1.2.1, h.1.2.2.1, v), o, z + 1)
  else none
def H_keep (h : HI) (s : ST) : Option HI := if 4 ≤ h.2.2 then H_keep1 h s (irem (h.2.1 + 1) 4) (h.2.2 - 1) else H_keep1 h s h.2.1 h.2.2
def R_put (n : Nat) (r : RW) (x1 : Int32) (x2 : Int32) : Option (RW) := if x1 < 0 then some r
    else if r.1 ≤ x1 then some r
    else if (Int32.ofNat n) ≤ x1 then some r
    else if x1 < 0 ∨ n ≤ ix x1 then none else (some (upd r.2 (ix x1) x2)).bind fun u27 => some (r.1, u27)
def R_takeOut_L20 : Nat → Nat → RW → Int32 → Int32 → Int32 → Option (RW)
  | 0, _, _, _, _, _ => none
  | fu + 1, n, r, x1, x2, x3 => if r.1 ≤ x3 then some ((r.1 - (x2 - x1)), r.2)
    else (R_at n r x3).bind fun v36 => (R_put n r ((x1 + x3) - x2) v36).bind fun v39 => R_takeOut_L20 fu n v39 x1 x2 (x3 + 1)
def R_takeOut (n : Nat) (r : RW) (x1 : Int32) (x2 : Int32) : Option (RW) := if x1 < 0 then some r
    else if x2 < x1 then some r
    else if x2 ≤ r.1 then R_takeOut_L20 1000 n r x1 x2 x2
    else some r
def R_putIn_L30 : Nat → Nat → RW → Int32 → Int32 → Int32 → Option (RW)
  | 0, _, _, _, _, _ => none
  | fu + 1, n, r, x1, x2, x3 => if x3 ≤ x1 then if x1 < 0 ∨ n ≤ ix x1 then none else (some (upd r.2 (ix x1) x2)).bind fun u61 => some ((r.1 + 1), u61)
    else if (x3 - 1) < 0 ∨ n ≤ ix (x3 - 1) then none else if x3 < 0 ∨ n ≤ ix x3 then none else (some (upd r.2 (ix x3) (r.2 (ix (x3 - 1))))).bind fun u48 => R_putIn_L30 fu n (r.1, u48) x1 x2 (x3 + (-1))
def R_putIn (n : Nat) (r : RW) (x1 : Int32) (x2 : Int32) : Option (RW) := if x1 < 0 then some r
    else if r.1 < x1 then some r
    else if r.1 < (Int32.ofNat n) then R_putIn_L30 1000 n r x1 x2 r.1
    else some r
def R_add (n : Nat) (r : RW) (x1 : Int32) : Option (RW) := (R_putIn n r r.1 x1).bind fun v6 => some v6
def S_walkTo_J30 (s : ST) (x1 : Int32) : Option (ST) := (R_at 40 s.2.2.1 s.2.2.2.2.2.1).bind fun v42 => (R_add 8 s.2.2.2.1 v42).bind fun v45 => some (s.1, s.2.1, s.2.2.1, v45, s.2.2.2.2.1, x1, s.2.2.2.2.2.2)
def S_walkTo (s : ST) (x1 : Int32) : Option (ST) := if x1 = s.2.2.2.2.2.1 then some s
    else (R_size 8 s.2.2.2.1).bind fun v13 => if v13 < 8 then S_walkTo_J30 s x1
    else (R_takeOut 8 s.2.2.2.1 0 1).bind fun v27 => S_walkTo_J30 (s.1, s.2.1, s.2.2.1, v27, s.2.2.2.2.1, s.2.2.2.2.2.1, s.2.2.2.2.2.2) x1
def P_walk (x : TP) (x1 : Int32) : Option (Int32 × TP) := if x1 = (-1) then some ((-2), x)
    else (H_keep x.2.1 x.1).bind fun v16 => (S_walkTo x.1 x1).bind fun v24 => some (x1, (v24, v16, x.2.2.1, x.2.2.2))
def P_down (x : TP) (x1 : Int32) : Option (Int32 × TP) := if 0 ≤ x1 then (T_childAt x.1.1 x.1.2.2.2.2.2.1 x1).bind fun v22 => (P_walk x v22).bind fun v25 => some (v25.1, v25.2)
    else some ((-1), x)
def T_onSpine_L17 : Nat → TR → Int32 → Int32 → Option (Int32)
  | 0, _, _, _ => none
  | fu + 1, t, x2, x3 => if x3 < 0 then some (-1)
    else (T_depthOf t x3).bind fun v23 => if v23 = x2 then some x3
    else T_onSpine_L17 fu t x2 (x3 + (-1))
def T_onSpine (t : TR) (x1 : Int32) (x2 : Int32) : Option (Int32) := if x2 < 0 then some (-1)
    else (T_depthOf t x1).bind fun v7 => if x2 ≤ v7 then T_onSpine_L17 1000 t x2 x1
    else some (-1)
def T_above (t : TR) (x1 : Int32) : Option (Int32) := (T_depthOf t x1).bind fun v4 => (T_onSpine t x1 (v4 - 1)).bind fun v9 => some v9
def P_up (x : TP) : Option (Int32 × TP) := (T_above x.1.1 x.1.2.2.2.2.2.1).bind fun v15 => (P_walk x v15).bind fun v18 => some (v18.1, v18.2)
def P_isChoice (x0 : Int32) : Option (Int32) := if x0 = 0 then some 1
    else if x0 = 1 then some 1
    else some 0
def T_next (t : TR) (x1 : Int32) : Option (Int32) := (T_endOf t x1).bind fun v2 => (T_depthOf t v2).bind fun v8 => (T_depthOf t x1).bind fun v13 => if v8 = v13 then some v2
    else some (-1)
def T_ahead_L4 : Nat → TR → Int32 → Int32 → Option (Int32)
  | 0, _, _, _ => none
  | fu + 1, t, x1, x2 => if x2 < 0 then some (-1)
    else (T_depthOf t x2).bind fun v10 => (T_depthOf t x1).bind fun v15 => if v10 < v15 then some (-1)
    else (T_depthOf t x2).bind fun v23 => (T_depthOf t x1).bind fun v28 => if v23 = v28 then some x2
    else T_ahead_L4 fu t x1 (x2 + (-1))
def T_ahead (t : TR) (x1 : Int32) : Option (Int32) := T_ahead_L4 1000 t x1 (x1 - 1)
def T_neighbour (t : TR) (x1 : Int32) (x2 : Int32) : Option (Int32) := if x2 = 1 then (T_next t x1).bind fun v7 => some v7
    else (T_ahead t x1).bind fun v15 => some v15
def P_side (x : TP) (x1 : Int32) : Option (Int32 × TP) := (P_isChoice x1).bind fun v1 => if v1 = 0 then some ((-1), x)
    else (T_neighbour x.1.1 x.1.2.2.2.2.2.1 x1).bind fun v25 => (P_walk x v25).bind fun v28 => some (v28.1, v28.2)
def T_size (t : TR) : Option (Int32) := (R_size 40 t.1).bind fun v4 => some v4
def T_has (t : TR) (x1 : Int32) : Option (Int32) := if x1 < 0 then some 0
    else (T_size t).bind fun v6 => if v6 ≤ x1 then some 0
    else some 1
def P_step_J35 (x : TP) (s0 : Int32) : Option (Int32 × TP) := (T_has x.1.1 s0).bind fun v45 => if v45 = 0 then (P_walk x (-1)).bind fun v56 => some (v56.1, v56.2)
    else (P_walk x s0).bind fun v56 => some (v56.1, v56.2)
def P_step (x : TP) (x1 : Int32) : Option (Int32 × TP) := (P_isChoice x1).bind fun v1 => if v1 = 0 then some ((-1), x)
    else if x1 = 1 then P_step_J35 x (x.1.2.2.2.2.2.1 + 1)
    else P_step_J35 x (x.1.2.2.2.2.2.1 - 1)
def P_top (x : TP) : Option (Int32 × TP) := (T_depthOf x.1.1 x.1.2.2.2.2.2.1).bind fun v14 => if v14 = 0 then some ((-2), x)
    else (P_walk x 0).bind fun v27 => some (v14, v27.2)
def S_numberOfKey_L2 : Nat → ST → Int32 → Int32 → Option (Int32)
  | 0, _, _, _ => none
  | fu + 1, s, x1, x2 => (R_size 40 s.2.2.1).bind fun v7 => if v7 ≤ x2 then some (-1)
    else (R_at 40 s.2.2.1 x2).bind fun v18 => if v18 = x1 then some x2
    else S_numberOfKey_L2 fu s x1 (x2 + 1)
def S_numberOfKey (s : ST) (x1 : Int32) : Option (Int32) := S_numberOfKey_L2 1000 s x1 0
def S_lastWalk_L10 : Nat → ST → Int32 → Option (Int32)
  | 0, _, _ => none
  | fu + 1, s, x1 => if x1 < 0 then some (-1)
    else (R_at 8 s.2.2.2.1 x1).bind fun v20 => (S_numberOfKey s v20).bind fun v23 => if v23 = (-1) then S_lastWalk_L10 fu s (x1 + (-1))
    else if v23 = s.2.2.2.2.2.1 then S_lastWalk_L10 fu s (x1 + (-1))
    else some x1
def S_lastWalk (s : ST) : Option (Int32) := (R_size 8 s.2.2.2.1).bind fun v4 => S_lastWalk_L10 1000 s (v4 - 1)
def S_takeWalksBack (s : ST) (x1 : Int32) : Option (ST) := (R_at 8 s.2.2.2.1 x1).bind fun v7 => (S_numberOfKey s v7).bind fun v10 => (R_size 8 s.2.2.2.1).bind fun v29 => (R_takeOut 8 s.2.2.2.1 x1 v29).bind fun v32 => some (s.1, s.2.1, s.2.2.1, v32, s.2.2.2.2.1, (imax v10 0), s.2.2.2.2.2.2)
def P_back (x : TP) : Option (Int32 × TP) := (S_lastWalk x.1).bind fun v4 => if v4 = (-1) then some ((-2), x)
    else (H_keep x.2.1 x.1).bind fun v24 => (S_takeWalksBack x.1 v4).bind fun v32 => some (v32.2.2.2.2.2.1, (v32, v24, x.2.2.1, x.2.2.2))
def P_isLetter (x0 : Int32) : Option (Int32) := if x0 < 0 then some 0
    else if 26 ≤ x0 then some 0
    else some 1
def T_letterOf (t : TR) (x1 : Int32) : Option (Int32) := (R_at 40 t.1 x1).bind fun v5 => some v5
def T_setLetter (t : TR) (x1 : Int32) (x2 : Int32) : Option (TR) := (R_put 40 t.1 x1 x2).bind fun v6 => some (v6, t.2)
def P_letter (x : TP) (x1 : Int32) : Option (Int32 × TP) := (P_isLetter x1).bind fun v1 => if v1 = 0 then some ((-1), x)
    else (H_keep x.2.1 x.1).bind fun v17 => (T_letterOf x.1.1 x.1.2.2.2.2.2.1).bind fun v34 => (T_setLetter x.1.1 x.1.2.2.2.2.2.1 x1).bind fun v53 => some (v34, ((v53, x.1.2.1, x.1.2.2.1, x.1.2.2.2.1, x.1.2.2.2.2.1, x.1.2.2.2.2.2.1, x.1.2.2.2.2.2.2), v17, x.2.2.1, x.2.2.2))
def T_putIn (t : TR) (x1 : Int32) (x2 : Int32) (x3 : Int32) : Option (TR) := (R_putIn 40 t.1 x1 x2).bind fun v6 => (R_putIn 40 t.2 x1 x3).bind fun v15 => some (v6, v15)
def S_putNodeIn (s : ST) (x1 : Int32) (x2 : Int32) (x3 : Int32) : Option (ST) := (T_putIn s.1 x1 x2 x3).bind fun v7 => (R_putIn 40 s.2.2.1 x1 s.2.2.2.2.2.2).bind fun v19 => some (v7, s.2.1, v19, s.2.2.2.1, s.2.2.2.2.1, s.2.2.2.2.2.1, (s.2.2.2.2.2.2 + 1))
def P_child (x : TP) (x1 : Int32) (x2 : Int32) : Option (Int32 × TP) := (T_childrenOf x.1.1 x.1.2.2.2.2.2.1).bind fun v14 => if x1 < 0 then some ((-1), x)
    else if v14 < x1 then some ((-1), x)
    else (P_isLetter x2).bind fun v28 => if v28 = 0 then some ((-1), x)
    else (T_depthOf x.1.1 x.1.2.2.2.2.2.1).bind fun v50 => (T_size x.1.1).bind fun v64 => if 40 ≤ v64 then some ((-3), x)
    else if 6 ≤ v14 then some ((-3), x)
    else if (v50 + 1) ≤ 7 then (H_keep x.2.1 x.1).bind fun v96 => (T_startOfChild x.1.1 x.1.2.2.2.2.2.1 x1).bind fun v118 => (S_putNodeIn x.1 v118 x2 (v50 + 1)).bind fun v124 => some ((v14 + 1), (v124, v96, x.2.2.1, x.2.2.2))
    else some ((-3), x)
def P_beside (x : TP) (x1 : Int32) (x2 : Int32) : Option (Int32 × TP) := (P_isChoice x1).bind fun v1 => if v1 = 0 then some ((-1), x)
    else (P_isLetter x2).bind fun v8 => if v8 = 0 then some ((-1), x)
    else (T_above x.1.1 x.1.2.2.2.2.2.1).bind fun v30 => if v30 = (-1) then some ((-2), x)
    else (T_childrenOf x.1.1 v30).bind fun v50 => (T_size x.1.1).bind fun v62 => if 40 ≤ v62 then some ((-3), x)
    else if v50 < 6 then (H_keep x.2.1 x.1).bind fun v88 => (T_depthOf x.1.1 x.1.2.2.2.2.2.1).bind fun v105 => if x1 = 1 then (T_endOf x.1.1 x.1.2.2.2.2.2.1).bind fun v133 => (S_putNodeIn x.1 v133 x2 v105).bind fun v139 => some ((v50 + 1), (v139, v88, x.2.2.1, x.2.2.2))
    else (S_putNodeIn x.1 x.1.2.2.2.2.2.1 x2 v105).bind fun v159 => some ((v50 + 1), ((v159.1, v159.2.1, v159.2.2.1, v159.2.2.2.1, v159.2.2.2.2.1, (v159.2.2.2.2.2.1 + 1), v159.2.2.2.2.2.2), v88, x.2.2.1, x.2.2.2))
    else some ((-3), x)
def S_placeWithoutPart (s : ST) : Option (Int32) := (T_neighbour s.1 s.2.2.2.2.2.1 1).bind fun v9 => if v9 = (-1) then (T_neighbour s.1 s.2.2.2.2.2.1 0).bind fun v30 => if v30 = (-1) then (T_above s.1 s.2.2.2.2.2.1).bind fun v51 => some (imax v51 0)
    else some v30
    else some s.2.2.2.2.2.1
def T_takeOut (t : TR) (x1 : Int32) (x2 : Int32) : Option (TR) := (R_takeOut 40 t.1 x1 x2).bind fun v6 => (R_takeOut 40 t.2 x1 x2).bind fun v15 => some (v6, v15)
def S_takeNodesOut (s : ST) (x1 : Int32) (x2 : Int32) : Option (ST) := (T_takeOut s.1 x1 x2).bind fun v6 => (R_takeOut 40 s.2.2.1 x1 x2).bind fun v15 => some (v6, s.2.1, v15, s.2.2.2.1, s.2.2.2.2.1, s.2.2.2.2.2.1, s.2.2.2.2.2.2)
def S_takePlaceOut (s : ST) : Option (Int32 × ST) := (T_endOf s.1 s.2.2.2.2.2.1).bind fun v10 => (S_placeWithoutPart s).bind fun v16 => (S_takeNodesOut (s.1, s.2.1, s.2.2.1, s.2.2.2.1, s.2.2.2.2.1, v16, s.2.2.2.2.2.2) s.2.2.2.2.2.1 v10).bind fun v25 => some ((v10 - s.2.2.2.2.2.1), v25)
def P_delete (x : TP) : Option (Int32 × TP) := if x.1.2.2.2.2.2.1 = 0 then some ((-2), x)
    else (H_keep x.2.1 x.1).bind fun v21 => (S_takePlaceOut x.1).bind fun v28 => some (v28.1, (v28.2, v21, x.2.2.1, x.2.2.2))
def T_heightOf_L15 : Nat → TR → Int32 → Int32 → Int32 → Int32 → Option (Int32)
  | 0, _, _, _, _, _ => none
  | fu + 1, t, x1, x2, x3, x4 => if x3 ≤ x4 then (T_depthOf t x1).bind fun v41 => some (x2 - v41)
    else (T_depthOf t x4).bind fun v25 => T_heightOf_L15 fu t x1 (imax x2 v25) x3 (x4 + 1)
def T_heightOf (t : TR) (x1 : Int32) : Option (Int32) := (T_depthOf t x1).bind fun v2 => (T_endOf t x1).bind fun v8 => T_heightOf_L15 1000 t x1 v2 v8 x1
def T_shiftDepths_L3 : Nat → TR → Int32 → Int32 → Int32 → Option (TR)
  | 0, _, _, _, _ => none
  | fu + 1, t, x2, x3, x4 => if x2 ≤ x4 then some t
    else (R_at 40 t.2 x4).bind fun v21 => (R_put 40 t.2 x4 (v21 + x3)).bind fun v26 => T_shiftDepths_L3 fu (t.1, v26) x2 x3 (x4 + 1)
def T_shiftDepths (t : TR) (x1 : Int32) (x2 : Int32) (x3 : Int32) : Option (TR) := T_shiftDepths_L3 1000 t x2 x3 x1
def P_wrap (x : TP) (x1 : Int32) : Option (Int32 × TP) := (P_isLetter x1).bind fun v1 => if v1 = 0 then some ((-1), x)
    else (T_depthOf x.1.1 x.1.2.2.2.2.2.1).bind fun v23 => (T_size x.1.1).bind fun v34 => if 40 ≤ v34 then some ((-3), x)
    else (T_heightOf x.1.1 x.1.2.2.2.2.2.1).bind fun v57 => if (v23 + v57) < 7 then (H_keep x.2.1 x.1).bind fun v77 => (T_endOf x.1.1 x.1.2.2.2.2.2.1).bind fun v108 => (T_shiftDepths x.1.1 x.1.2.2.2.2.2.1 v108 1).bind fun v112 => (S_putNodeIn (v112, x.1.2.1, x.1.2.2.1, x.1.2.2.2.1, x.1.2.2.2.2.1, x.1.2.2.2.2.2.1, x.1.2.2.2.2.2.2) x.1.2.2.2.2.2.1 x1 v23).bind fun v128 => (T_size v128.1).bind fun v138 => some (v138, (v128, v77, x.2.2.1, x.2.2.2))
    else some ((-3), x)
def P_lift_J77 (x : TP) (x2 : Int32) : Option (Int32 × TP) := (H_keep x.2.1 x.1).bind fun v85 => if x2 = 0 then (S_takePlaceOut x.1).bind fun v96 => some (x2, (v96.2, v85, x.2.2.1, x.2.2.2))
    else (T_endOf x.1.1 x.1.2.2.2.2.2.1).bind fun v131 => (T_shiftDepths x.1.1 x.1.2.2.2.2.2.1 v131 (-1)).bind fun v135 => (S_takeNodesOut (v135, x.1.2.1, x.1.2.2.1, x.1.2.2.2.1, x.1.2.2.2.2.1, x.1.2.2.2.2.2.1, x.1.2.2.2.2.2.2) x.1.2.2.2.2.2.1 (x.1.2.2.2.2.2.1 + 1)).bind fun v158 => some (x2, (v158, v85, x.2.2.1, x.2.2.2))
def P_lift_J49 (x : TP) (x1 : Int32) (x2 : Int32) : Option (Int32 × TP) := if x1 = (-1) then P_lift_J77 x x2
    else (T_childrenOf x.1.1 x1).bind fun v62 => if ((v62 - 1) + x2) ≤ 6 then P_lift_J77 x x2
    else some ((-3), x)
def P_lift (x : TP) : Option (Int32 × TP) := (T_above x.1.1 x.1.2.2.2.2.2.1).bind fun v14 => (T_childrenOf x.1.1 x.1.2.2.2.2.2.1).bind fun v32 => if v14 = (-1) then if v32 = 1 then P_lift_J49 x v14 v32
    else some ((-2), x)
    else P_lift_J49 x v14 v32
def R_turnAbout_L7 : Nat → Nat → RW → Int32 → Int32 → Option (RW)
  | 0, _, _, _, _ => none
  | fu + 1, n, r, x3, x4 => if x4 ≤ x3 then some r
    else (R_at n r x3).bind fun v15 => (R_at n r x4).bind fun v25 => (R_put n r x3 v25).bind fun v28 => (R_put n v28 x4 v15).bind fun v36 => R_turnAbout_L7 fu n v36 (x3 + 1) (x4 + (-1))
def R_turnAbout (n : Nat) (r : RW) (x1 : Int32) (x2 : Int32) : Option (RW) := R_turnAbout_L7 1000 n r x1 (x2 - 1)
def R_exchangeRuns (n : Nat) (r : RW) (x1 : Int32) (x2 : Int32) (x3 : Int32) : Option (RW) := (R_turnAbout n r x1 x3).bind fun v3 => (R_turnAbout n v3 x1 ((x1 + x3) - x2)).bind fun v13 => (R_turnAbout n v13 ((x1 + x3) - x2) x3).bind fun v23 => some v23
def T_exchangeRuns (t : TR) (x1 : Int32) (x2 : Int32) (x3 : Int32) : Option (TR) := (R_exchangeRuns 40 t.1 x1 x2 x3).bind fun v7 => (R_exchangeRuns 40 t.2 x1 x2 x3).bind fun v17 => some (v7, v17)
def S_exchangeRuns (s : ST) (x1 : Int32) (x2 : Int32) (x3 : Int32) : Option (ST) := (T_exchangeRuns s.1 x1 x2 x3).bind fun v7 => (R_exchangeRuns 40 s.2.2.1 x1 x2 x3).bind fun v17 => some (v7, s.2.1, v17, s.2.2.2.1, s.2.2.2.2.1, s.2.2.2.2.2.1, s.2.2.2.2.2.2)
def T_turnOf_L20 : Nat → TR → Int32 → Int32 → Int32 → Option (Int32)
  | 0, _, _, _, _ => none
  | fu + 1, t, x1, x3, x4 => if x1 ≤ x4 then some x3
    else (T_depthOf t x4).bind fun v29 => (T_depthOf t x1).bind fun v34 => if v29 = v34 then T_turnOf_L20 fu t x1 (x3 + 1) (x4 + 1)
    else T_turnOf_L20 fu t x1 x3 (x4 + 1)
def T_turnOf (t : TR) (x1 : Int32) : Option (Int32) := (T_above t x1).bind fun v2 => if v2 = (-1) then some (-1)
    else T_turnOf_L20 1000 t x1 0 (v2 + 1)
def P_exchange_J93 (x : TP) (x2 : Int32) (x3 : Int32) (x4 : Int32) (s0 : Int32) : Option (Int32 × TP) := (S_exchangeRuns x.1 (imin x.1.2.2.2.2.2.1 x2) x3 x4).bind fun v113 => (T_turnOf v113.1 s0).bind fun v134 => some (v134, ((v113.1, v113.2.1, v113.2.2.1, v113.2.2.2.1, v113.2.2.2.2.1, s0, v113.2.2.2.2.2.2), x.2.1, x.2.2.1, x.2.2.2))
def P_exchange (x : TP) (x1 : Int32) : Option (Int32 × TP) := (P_isChoice x1).bind fun v1 => if v1 = 0 then some ((-1), x)
    else (T_neighbour x.1.1 x.1.2.2.2.2.2.1 x1).bind fun v24 => if v24 = (-1) then some ((-2), x)
    else (H_keep x.2.1 x.1).bind fun v44 => (T_endOf x.1.1 (imax x.1.2.2.2.2.2.1 v24)).bind fun v67 => if x1 = 1 then P_exchange_J93 (x.1, v44, x.2.2.1, x.2.2.2) v24 (imax x.1.2.2.2.2.2.1 v24) v67 ((x.1.2.2.2.2.2.1 + v67) - (imax x.1.2.2.2.2.2.1 v24))
    else P_exchange_J93 (x.1, v44, x.2.2.1, x.2.2.2) v24 (imax x.1.2.2.2.2.2.1 v24) v67 v24
def R_clear (n : Nat) (r : RW) : Option (RW) := some (0, r.2)
def T_clear (t : TR) : Option (TR) := (R_clear 40 t.1).bind fun v4 => (R_clear 40 t.2).bind fun v11 => some (v4, v11)
def T_takePart_L13 : Nat → TR → TR → Int32 → Int32 → Int32 → Option (TR)
  | 0, _, _, _, _, _ => none
  | fu + 1, t, t', x2, x3, x4 => if x3 ≤ x4 then some t
    else (T_size t).bind fun v21 => (T_letterOf t' x4).bind fun v27 => (T_depthOf t' x4).bind fun v33 => (T_depthOf t' x2).bind fun v38 => (T_putIn t v21 v27 (v33 - v38)).bind fun v42 => T_takePart_L13 fu v42 t' x2 x3 (x4 + 1)
def T_takePart (t : TR) (t' : TR) (x2 : Int32) : Option (TR) := (T_clear t).bind fun v1 => (T_endOf t' x2).bind fun v6 => T_takePart_L13 1000 v1 t' x2 v6 x2
def P_cut (x : TP) : Option (Int32 × TP) := if x.1.2.2.2.2.2.1 = 0 then some ((-2), x)
    else (H_keep x.2.1 x.1).bind fun v21 => (T_takePart x.1.2.1 x.1.1 x.1.2.2.2.2.2.1).bind fun v45 => (S_takePlaceOut (x.1.1, v45, x.1.2.2.1, x.1.2.2.2.1, x.1.2.2.2.2.1, x.1.2.2.2.2.2.1, x.1.2.2.2.2.2.2)).bind fun v52 => some (v52.1, (v52.2, v21, x.2.2.1, x.2.2.2))
def P_copy (x : TP) : Option (Int32 × TP) := (H_keep x.2.1 x.1).bind fun v8 => (T_takePart x.1.2.1 x.1.1 x.1.2.2.2.2.2.1).bind fun v32 => (T_size v32).bind fun v42 => some (v42, ((x.1.1, v32, x.1.2.2.1, x.1.2.2.2.1, x.1.2.2.2.2.1, x.1.2.2.2.2.2.1, x.1.2.2.2.2.2.2), v8, x.2.2.1, x.2.2.2))
def S_putTreeIn_L9 : Nat → ST → TR → Int32 → Int32 → Int32 → Int32 → Option (ST)
  | 0, _, _, _, _, _, _ => none
  | fu + 1, s, t', x2, x3, x4, x5 => if x4 ≤ x5 then some s
    else (T_letterOf t' x5).bind fun v24 => (T_depthOf t' x5).bind fun v31 => (S_putNodeIn s (x2 + x5) v24 (x3 + v31)).bind fun v35 => S_putTreeIn_L9 fu v35 t' x2 x3 x4 (x5 + 1)
def S_putTreeIn (s : ST) (t' : TR) (x2 : Int32) (x3 : Int32) : Option (ST) := (T_size t').bind fun v1 => S_putTreeIn_L9 1000 s t' x2 x3 v1 0
def S_putTreeInA_L9 : Nat → ST → Int32 → Int32 → Int32 → Int32 → Option (ST)
  | 0, _, _, _, _, _ => none
  | fu + 1, s, x2, x3, x4, x5 => if x4 ≤ x5 then some s
    else (T_letterOf s.2.1 x5).bind fun v24 => (T_depthOf s.2.1 x5).bind fun v31 => (S_putNodeIn s (x2 + x5) v24 (x3 + v31)).bind fun v35 => S_putTreeInA_L9 fu v35 x2 x3 x4 (x5 + 1)
def S_putTreeInA (s : ST) (x2 : Int32) (x3 : Int32) : Option (ST) := (T_size s.2.1).bind fun v1 => S_putTreeInA_L9 1000 s x2 x3 v1 0
def P_paste (x : TP) (x1 : Int32) : Option (Int32 × TP) := (T_childrenOf x.1.1 x.1.2.2.2.2.2.1).bind fun v14 => if x1 < 0 then some ((-1), x)
    else if x1 ≤ v14 then (T_size x.1.2.1).bind fun v36 => if v36 = 0 then some ((-2), x)
    else (T_depthOf x.1.1 x.1.2.2.2.2.2.1).bind fun v59 => (T_size x.1.1).bind fun v72 => (T_size x.1.2.1).bind fun v82 => if 40 < (v72 + v82) then some ((-3), x)
    else if 6 ≤ v14 then some ((-3), x)
    else (T_heightOf x.1.2.1 0).bind fun v106 => if ((v59 + 1) + v106) ≤ 7 then (H_keep x.2.1 x.1).bind fun v126 => (T_startOfChild x.1.1 x.1.2.2.2.2.2.1 x1).bind fun v155 => (S_putTreeInA x.1 v155 (v59 + 1)).bind fun v159 => (T_size v159.1).bind fun v169 => some (v169, (v159, v126, x.2.2.1, x.2.2.2))
    else some ((-3), x)
    else some ((-1), x)
def P_isMark (x0 : Int32) : Option (Int32) := if x0 < 0 then some 0
    else if 4 ≤ x0 then some 0
    else some 1
def S_numberOfMark (s : ST) (x1 : Int32) : Option (Int32) := (R_at 4 s.2.2.2.2.1 x1).bind fun v6 => (S_numberOfKey s v6).bind fun v9 => some v9
def S_putMarkAtPlace (s : ST) (x1 : Int32) : Option (ST) := (R_at 40 s.2.2.1 s.2.2.2.2.2.1).bind fun v13 => (R_put 4 s.2.2.2.2.1 x1 v13).bind fun v16 => some (s.1, s.2.1, s.2.2.1, s.2.2.2.1, v16, s.2.2.2.2.2.1, s.2.2.2.2.2.2)
def P_mark (x : TP) (x1 : Int32) : Option (Int32 × TP) := (P_isMark x1).bind fun v1 => if v1 = 0 then some ((-1), x)
    else (H_keep x.2.1 x.1).bind fun v17 => (S_numberOfMark x.1 x1).bind fun v25 => (S_putMarkAtPlace x.1 x1).bind fun v34 => if v25 = (-1) then some (100, (v34, v17, x.2.2.1, x.2.2.2))
    else some (v25, (v34, v17, x.2.2.1, x.2.2.2))
def P_goTo (x : TP) (x1 : Int32) : Option (Int32 × TP) := (P_isMark x1).bind fun v1 => if v1 = 0 then some ((-1), x)
    else (S_numberOfMark x.1 x1).bind fun v15 => (P_walk x v15).bind fun v18 => some (v18.1, v18.2)
def P_orNotFound (x0 : Int32) : Option (Int32) := if x0 = (-1) then some (-4)
    else some x0
def S_marksAt_L4 : Nat → ST → Int32 → Int32 → Int32 → Option (Int32)
  | 0, _, _, _, _ => none
  | fu + 1, s, x1, x2, x3 => if 4 ≤ x3 then some x2
    else (S_numberOfMark s x3).bind fun v11 => if v11 = x1 then S_marksAt_L4 fu s x1 (x2 ||| (1 <<< (x3 &&& 31))) (x3 + 1)
    else S_marksAt_L4 fu s x1 x2 (x3 + 1)
def S_marksAt (s : ST) (x1 : Int32) : Option (Int32) := S_marksAt_L4 1000 s x1 0 0
def P_nodeOf (x : TP) (x1 : Int32) (x2 : Int32) : Option (Int32) := (T_has x.1.1 x1).bind fun v8 => if v8 = 0 then some (-1)
    else if x2 = 0 then (T_letterOf x.1.1 x1).bind fun v72 => some v72
    else if x2 = 1 then (T_childrenOf x.1.1 x1).bind fun v84 => some v84
    else if x2 = 2 then (T_above x.1.1 x1).bind fun v96 => (P_orNotFound v96).bind fun v99 => some v99
    else if x2 = 3 then (T_depthOf x.1.1 x1).bind fun v111 => some v111
    else if x2 = 4 then (T_endOf x.1.1 x1).bind fun v123 => some (v123 - x1)
    else if x2 = 5 then (T_turnOf x.1.1 x1).bind fun v137 => (P_orNotFound v137).bind fun v140 => some v140
    else if x2 = 6 then (T_heightOf x.1.1 x1).bind fun v152 => some v152
    else if x2 = 7 then (S_marksAt x.1 x1).bind fun v161 => some v161
    else some (-1)
def P_spine (x : TP) (x1 : Int32) (x2 : Int32) : Option (Int32) := if x1 < 0 then some (-1)
    else if x2 < 0 then some (-1)
    else if x2 ≤ 2 then (T_onSpine x.1.1 x.1.2.2.2.2.2.1 x1).bind fun v30 => if v30 = (-1) then some (-4)
    else if x2 = 0 then some v30
    else if x2 = 1 then (T_letterOf x.1.1 v30).bind fun v61 => some v61
    else if v30 = 0 then some 0
    else (T_turnOf x.1.1 v30).bind fun v81 => some v81
    else some (-1)
def P_marked (x : TP) (x1 : Int32) : Option (Int32) := (P_isMark x1).bind fun v1 => if v1 = 0 then some (-1)
    else (S_numberOfMark x.1 x1).bind fun v14 => (P_orNotFound v14).bind fun v17 => some v17
def T_leaves_L4 : Nat → TR → Int32 → Int32 → Option (Int32)
  | 0, _, _, _ => none
  | fu + 1, t, x1, x2 => (T_size t).bind fun v6 => if v6 ≤ x2 then some x1
    else (T_childrenOf t x2).bind fun v14 => if v14 = 0 then T_leaves_L4 fu t (x1 + 1) (x2 + 1)
    else T_leaves_L4 fu t x1 (x2 + 1)
def T_leaves (t : TR) : Option (Int32) := T_leaves_L4 1000 t 0 0
def H_size (h : HI) : Option (Int32) := some h.2.2
def J_bitCount (x0 : Int32) : Option (Int32) := some ((((((((x0 - ((iushr x0 1) &&& 1431655765)) &&& 858993459) + ((iushr (x0 - ((iushr x0 1) &&& 1431655765)) 2) &&& 858993459)) + (iushr (((x0 - ((iushr x0 1) &&& 1431655765)) &&& 858993459) + ((iushr (x0 - ((iushr x0 1) &&& 1431655765)) 2) &&& 858993459)) 4)) &&& 252645135) + (iushr (((((x0 - ((iushr x0 1) &&& 1431655765)) &&& 858993459) + ((iushr (x0 - ((iushr x0 1) &&& 1431655765)) 2) &&& 858993459)) + (iushr (((x0 - ((iushr x0 1) &&& 1431655765)) &&& 858993459) + ((iushr (x0 - ((iushr x0 1) &&& 1431655765)) 2) &&& 858993459)) 4)) &&& 252645135) 8)) + (iushr ((((((x0 - ((iushr x0 1) &&& 1431655765)) &&& 858993459) + ((iushr (x0 - ((iushr x0 1) &&& 1431655765)) 2) &&& 858993459)) + (iushr (((x0 - ((iushr x0 1) &&& 1431655765)) &&& 858993459) + ((iushr (x0 - ((iushr x0 1) &&& 1431655765)) 2) &&& 858993459)) 4)) &&& 252645135) + (iushr (((((x0 - ((iushr x0 1) &&& 1431655765)) &&& 858993459) + ((iushr (x0 - ((iushr x0 1) &&& 1431655765)) 2) &&& 858993459)) + (iushr (((x0 - ((iushr x0 1) &&& 1431655765)) &&& 858993459) + ((iushr (x0 - ((iushr x0 1) &&& 1431655765)) 2) &&& 858993459)) 4)) &&& 252645135) 8)) 16)) &&& 63)
def T_unlikeLetters_L4 : Nat → TR → Int32 → Int32 → Option (Int32)
  | 0, _, _, _ => none
  | fu + 1, t, x1, x2 => (T_size t).bind fun v6 => if v6 ≤ x2 then (J_bitCount x1).bind fun v29 => some v29
    else (T_letterOf t x2).bind fun v16 => T_unlikeLetters_L4 fu t (x1 ||| (1 <<< (v16 &&& 31))) (x2 + 1)
def T_unlikeLetters (t : TR) : Option (Int32) := T_unlikeLetters_L4 1000 t 0 0
def P_count (x : TP) (x1 : Int32) : Option (Int32) := if x1 = 0 then (T_size x.1.1).bind fun v63 => some v63
    else if x1 = 1 then some x.1.2.2.2.2.2.1
    else if x1 = 2 then (T_depthOf x.1.1 x.1.2.2.2.2.2.1).bind fun v89 => some v89
    else if x1 = 3 then (T_leaves x.1.1).bind fun v100 => some v100
    else if x1 = 4 then (T_heightOf x.1.1 0).bind fun v112 => some v112
    else if x1 = 5 then (R_size 8 x.1.2.2.2.1).bind fun v123 => some v123
    else if x1 = 6 then (T_size x.1.2.1).bind fun v134 => some v134
    else if x1 = 7 then (H_size x.2.1).bind fun v142 => some v142
    else if x1 = 8 then (R_size 120 x.2.2.1).bind fun v150 => some v150
    else if x1 = 9 then (T_unlikeLetters x.1.1).bind fun v161 => some v161
    else some (-1)
def T_alike_L37 : Nat → TR → Int32 → Int32 → Int32 → Int32 → Int32 → Option (Int32)
  | 0, _, _, _, _, _, _ => none
  | fu + 1, t, x1, x2, x3, x4, x5 => if x3 ≤ x5 then some 1
    else (T_letterOf t (x1 + x5)).bind fun v48 => (T_letterOf t (x2 + x5)).bind fun v56 => if v48 = v56 then (T_depthOf t (x1 + x5)).bind fun v67 => (T_depthOf t (x2 + x5)).bind fun v78 => if (v67 + x4) = v78 then T_alike_L37 fu t x1 x2 x3 x4 (x5 + 1)
    else some 0
    else some 0
def T_alike (t : TR) (x1 : Int32) (x2 : Int32) : Option (Int32) := (T_endOf t x1).bind fun v2 => (T_endOf t x2).bind fun v11 => if (v2 - x1) = (v11 - x2) then (T_depthOf t x2).bind fun v23 => (T_depthOf t x1).bind fun v28 => T_alike_L37 1000 t x1 x2 (v2 - x1) (v23 - v28) 0
    else some 0
def P_like_L4 : Nat → TP → Int32 → Int32 → Option (Int32)
  | 0, _, _, _ => none
  | fu + 1, x, x1, x2 => (T_size x.1.1).bind fun v12 => if v12 ≤ x2 then some x1
    else (T_alike x.1.1 x2 x.1.2.2.2.2.2.1).bind fun v33 => if v33 = 0 then P_like_L4 fu x x1 (x2 + 1)
    else P_like_L4 fu x (x1 + 1) (x2 + 1)
def P_like (x : TP) : Option (Int32) := P_like_L4 1000 x 0 0
def P_meet_L43 : Nat → TP → Int32 → Int32 → Option (Int32)
  | 0, _, _, _ => none
  | fu + 1, x, x3, x4 => if x4 ≤ 0 then some 0
    else (T_endOf x.1.1 x4).bind fun v57 => if v57 ≤ x3 then P_meet_L43 fu x x3 (x4 + (-1))
    else some x4
def P_meet (x : TP) (x1 : Int32) (x2 : Int32) : Option (Int32) := (T_has x.1.1 x1).bind fun v8 => if v8 = 0 then some (-1)
    else (T_has x.1.1 x2).bind fun v22 => if v22 = 0 then some (-1)
    else P_meet_L43 1000 x (imax x1 x2) (imin x1 x2)
def P_find_L58 : Nat → TP → Int32 → Int32 → Option (Int32)
  | 0, _, _, _ => none
  | fu + 1, x, x1, x2 => if x.1.2.2.2.2.2.1 < x2 then some (-4)
    else (T_letterOf x.1.1 x2).bind fun v77 => if v77 = x1 then some x2
    else P_find_L58 fu x x1 (x2 + 1)
def P_find_L19 : Nat → TP → Int32 → Int32 → Option (Int32)
  | 0, _, _, _ => none
  | fu + 1, x, x1, x2 => (T_size x.1.1).bind fun v27 => if v27 ≤ x2 then P_find_L58 1000 x x1 0
    else (T_letterOf x.1.1 x2).bind fun v41 => if v41 = x1 then some x2
    else P_find_L19 fu x x1 (x2 + 1)
def P_find (x : TP) (x1 : Int32) : Option (Int32) := (P_isLetter x1).bind fun v1 => if v1 = 0 then some (-1)
    else P_find_L19 1000 x x1 (x.1.2.2.2.2.2.1 + 1)
def H_restore (h : HI) (s : ST) : Option (HI × ST) :=
  if 0 < h.2.2 then
    if irem (h.2.1 + (h.2.2 - 1)) 4 = 0 then (S_takeFrom s h.1.1).bind fun v => some ((h.1, h.2.1, h.2.2 - 1), v)
    else if irem (h.2.1 + (h.2.2 - 1)) 4 = 1 then (S_takeFrom s h.1.2.1).bind fun v => some ((h.1, h.2.1, h.2.2 - 1), v)
    else if irem (h.2.1 + (h.2.2 - 1)) 4 = 2 then (S_takeFrom s h.1.2.2.1).bind fun v => some ((h.1, h.2.1, h.2.2 - 1), v)
    else if irem (h.2.1 + (h.2.2 - 1)) 4 = 3 then (S_takeFrom s h.1.2.2.2).bind fun v => some ((h.1, h.2.1, h.2.2 - 1), v)
    else none
  else none
def P_undo (x : TP) : Option (Int32 × TP) := (H_size x.2.1).bind fun v4 => if v4 = 0 then some ((-2), x)
    else (H_restore x.2.1 x.1).bind fun v21 => (H_size v21.1).bind fun v28 => some (v28, (v21.2, v21.1, x.2.2.1, x.2.2.2))
def P_type (x : TP) (x1 : Int32) : Option (Int32 × TP) := if x1 < 32 then some ((-1), x)
    else if x1 ≤ 126 then (R_size 120 x.2.2.1).bind fun v18 => if v18 < 120 then (R_add 120 x.2.2.1 x1).bind fun v34 => (R_size 120 v34).bind fun v41 => some (v41, (x.1, x.2.1, v34, x.2.2.2))
    else some ((-3), x)
    else some ((-1), x)
def P_clearText (x : TP) : Option (Int32 × TP) := (R_size 120 x.2.2.1).bind fun v4 => (R_clear 120 x.2.2.1).bind fun v12 => some (v4, (x.1, x.2.1, v12, x.2.2.2))
def T_appendClosings_L2 : Nat → Nat → RW → Int32 → Int32 → Option (RW)
  | 0, _, _, _, _ => none
  | fu + 1, n, r, x1, x2 => if x1 ≤ x2 then some r
    else (R_add n r 41).bind fun v10 => T_appendClosings_L2 fu n v10 x1 (x2 + 1)
def T_appendClosings (n : Nat) (r : RW) (x1 : Int32) : Option (RW) := T_appendClosings_L2 1000 n r x1 0
def T_appendTo_J51 (K : TR → Nat → RW → Int32 → Int32 → Option (RW)) (t : TR) (n' : Nat) (r' : RW) (x3 : Int32) : Option (RW) := (T_depthOf t x3).bind fun v53 => (T_letterOf t x3).bind fun v62 => (R_add n' r' (97 + v62)).bind fun v66 => K t n' v66 v53 (x3 + 1)
def T_appendTo_L4 : Nat → TR → Nat → RW → Int32 → Int32 → Option (RW)
  | 0, _, _, _, _, _ => none
  | fu + 1, t, n', r', x2, x3 => (T_size t).bind fun v6 => if v6 ≤ x3 then (T_appendClosings n' r' x2).bind fun v77 => some v77
    else (T_depthOf t x3).bind fun v14 => if v14 ≤ x2 then if x3 ≤ 0 then T_appendTo_J51 (fun q0 q1 q2 q3 q4 => T_appendTo_L4 fu q0 q1 q2 q3 q4) t n' r' x3
    else (T_depthOf t x3).bind fun v38 => (T_appendClosings n' r' (x2 - v38)).bind fun v42 => (R_add n' v42 44).bind fun v48 => T_appendTo_J51 (fun q0 q1 q2 q3 q4 => T_appendTo_L4 fu q0 q1 q2 q3 q4) t n' v48 x3
    else (R_add n' r' 40).bind fun v24 => T_appendTo_J51 (fun q0 q1 q2 q3 q4 => T_appendTo_L4 fu q0 q1 q2 q3 q4) t n' v24 x3
def T_appendTo (t : TR) (n' : Nat) (r' : RW) : Option (RW) := T_appendTo_L4 1000 t n' r' 0 0
def P_write (x : TP) : Option (Int32 × TP) := (R_clear 120 x.2.2.1).bind fun v4 => (T_appendTo x.1.1 120 v4).bind fun v18 => (R_size 120 v18).bind fun v25 => some (v25, (x.1, x.2.1, v18, x.2.2.2))
def C_passLetter (c : SC) (x1 : Int32) : Option (Int32 × SC) := (P_isLetter x1).bind fun v1 => if v1 = 0 then some (1, c)
    else (T_size c.1).bind fun v13 => if v13 < 40 then (T_size c.1).bind fun v31 => (R_size 7 c.2.1).bind fun v39 => (T_putIn c.1 v31 x1 v39).bind fun v42 => (R_size 7 c.2.1).bind fun v49 => (R_at 7 c.2.1 (v49 - 1)).bind fun v65 => (R_put 7 c.2.1 (v49 - 1) (v65 + 1)).bind fun v70 => some (0, (v42, v70, 0, 1, c.2.2.2.2.1, c.2.2.2.2.2))
    else some (2, c)
def C_passOpening (c : SC) : Option (Int32 × SC) := if c.2.2.2.1 = 0 then some (1, c)
    else (R_size 7 c.2.1).bind fun v13 => if v13 < 7 then (R_add 7 c.2.1 0).bind fun v28 => some (0, (c.1, v28, 1, c.2.2.2.1, c.2.2.2.2.1, c.2.2.2.2.2))
    else some (3, c)
def C_passComma (c : SC) : Option (Int32 × SC) := (R_size 7 c.2.1).bind fun v8 => (R_at 7 c.2.1 (v8 - 1)).bind fun v13 => if v13 < 6 then some (0, (c.1, c.2.1, 1, c.2.2.2.1, c.2.2.2.2.1, c.2.2.2.2.2))
    else some (4, c)
def C_passClosing (c : SC) : Option (Int32 × SC) := (R_size 7 c.2.1).bind fun v8 => (R_size 7 c.2.1).bind fun v17 => (R_takeOut 7 c.2.1 (v8 - 1) v17).bind fun v20 => some (0, (c.1, v20, c.2.2.1, 0, c.2.2.2.2.1, c.2.2.2.2.2))
def C_reasonAgainst (c : SC) (x1 : Int32) : Option (Int32 × SC) := if c.2.2.1 = 0 then if x1 = 40 then (C_passOpening c).bind fun v23 => some (v23.1, v23.2)
    else (R_size 7 c.2.1).bind fun v31 => if v31 = 0 then some (1, c)
    else if x1 = 44 then (C_passComma c).bind fun v46 => some (v46.1, v46.2)
    else if x1 = 41 then (C_passClosing c).bind fun v57 => some (v57.1, v57.2)
    else some (1, c)
    else (C_passLetter c (x1 - 97)).bind fun v12 => some (v12.1, v12.2)
def C_passOver_J89 (c : SC) (n' : Nat) (r' : RW) : Option (SC) := (R_size n' r').bind fun v91 => some (c.1, c.2.1, c.2.2.1, c.2.2.2.1, v91, 1)
def C_passOver_J65 (c : SC) (n' : Nat) (r' : RW) : Option (SC) := if c.2.2.2.2.2 = 0 then if c.2.2.1 = 0 then (R_size 7 c.2.1).bind fun v83 => if v83 ≤ 0 then some c
    else C_passOver_J89 c n' r'
    else C_passOver_J89 c n' r'
    else some c
def C_passOver_L26 : Nat → SC → Nat → RW → Int32 → Option (SC)
  | 0, _, _, _, _ => none
  | fu + 1, c, n', r', x2 => (R_size n' r').bind fun v28 => if v28 ≤ x2 then C_passOver_J65 c n' r'
    else if c.2.2.2.2.2 = 0 then (R_at n' r' x2).bind fun v50 => (C_reasonAgainst (c.1, c.2.1, c.2.2.1, c.2.2.2.1, x2, c.2.2.2.2.2) v50).bind fun v53 => C_passOver_L26 fu (v53.2.1, v53.2.2.1, v53.2.2.2.1, v53.2.2.2.2.1, v53.2.2.2.2.2.1, v53.1) n' r' (x2 + 1)
    else C_passOver_J65 c n' r'
def C_passOver (c : SC) (n' : Nat) (r' : RW) : Option (SC) := (T_clear c.1).bind fun v4 => (R_clear 7 c.2.1).bind fun v11 => C_passOver_L26 1000 (v4, v11, 1, c.2.2.2.1, c.2.2.2.2.1, 0) n' r' 0
def P_fault (x : TP) (x1 : Int32) : Option (Int32 × TP) := (P_isChoice x1).bind fun v1 => if v1 = 0 then some ((-1), x)
    else (C_passOver x.2.2.2 120 x.2.2.1).bind fun v17 => if v17.2.2.2.2.2 = 0 then some ((-4), (x.1, x.2.1, x.2.2.1, v17))
    else if x1 = 0 then some (v17.2.2.2.2.1, (x.1, x.2.1, x.2.2.1, v17))
    else some (v17.2.2.2.2.2, (x.1, x.2.1, x.2.2.1, v17))
def S_clearMarks_L9 : Nat → ST → Int32 → Option (ST)
  | 0, _, _ => none
  | fu + 1, s, x1 => if 4 ≤ x1 then some s
    else (R_add 4 s.2.2.2.2.1 (-1)).bind fun v19 => S_clearMarks_L9 fu (s.1, s.2.1, s.2.2.1, s.2.2.2.1, v19, s.2.2.2.2.2.1, s.2.2.2.2.2.2) (x1 + 1)
def S_clearMarks (s : ST) : Option (ST) := (R_clear 4 s.2.2.2.2.1).bind fun v4 => S_clearMarks_L9 1000 (s.1, s.2.1, s.2.2.1, s.2.2.2.1, v4, s.2.2.2.2.2.1, s.2.2.2.2.2.2) 0
def S_beginWith (s : ST) (t' : TR) : Option (ST) := (T_clear s.1).bind fun v4 => (R_clear 40 s.2.2.1).bind fun v11 => (R_clear 8 s.2.2.2.1).bind fun v18 => (S_clearMarks (v4, s.2.1, v11, v18, s.2.2.2.2.1, s.2.2.2.2.2.1, s.2.2.2.2.2.2)).bind fun v22 => (S_putTreeIn (v22.1, v22.2.1, v22.2.2.1, v22.2.2.2.1, v22.2.2.2.2.1, 0, v22.2.2.2.2.2.2) t' 0 0).bind fun v34 => some v34
def P_read (x : TP) : Option (Int32 × TP) := (C_passOver x.2.2.2 120 x.2.2.1).bind fun v8 => if v8.2.2.2.2.2 = 0 then (H_keep x.2.1 x.1).bind fun v32 => (S_beginWith x.1 v8.1).bind fun v46 => (T_size v46.1).bind fun v56 => some (v56, (v46, v32, x.2.2.1, v8))
    else some ((-2), (x.1, x.2.1, x.2.2.1, v8))
def M_in (x0 : Int32) (x1 : Int32) (x2 : Int32) : Option (Int32) := if x0 < x1 then some 0
    else if x2 < x0 then some 0
    else some 1
def M_begins_L2 : Nat → MD → Int32 → Option (MD)
  | 0, _, _ => none
  | fu + 1, m, x1 => if 218 ≤ x1 then some m
    else if x1 < 0 ∨ 218 ≤ ix x1 then none else if x1 < 0 ∨ 218 ≤ ix x1 then none else (some (upd m.2.1 (ix x1) (m.1 (ix x1)))).bind fun u20 => M_begins_L2 fu (m.1, u20, m.2.2.1, m.2.2.2.1, m.2.2.2.2.1, m.2.2.2.2.2.1, m.2.2.2.2.2.2.1, m.2.2.2.2.2.2.2.1, m.2.2.2.2.2.2.2.2.1, m.2.2.2.2.2.2.2.2.2.1, m.2.2.2.2.2.2.2.2.2.2.1, m.2.2.2.2.2.2.2.2.2.2.2) (x1 + 1)
def M_begins (m : MD) : Option (MD) := M_begins_L2 1000 m 0
def M_acted_L84 : Nat → MD → Int32 → Int32 → Option (Int32 × MD)
  | 0, _, _, _ => none
  | fu + 1, m, x1, x2 => if 218 ≤ x2 then some (x1, (m.1, m.2.1, m.2.2.1, (m.2.2.2.1 + 1), m.2.2.2.2.1, m.2.2.2.2.2.1, m.2.2.2.2.2.2.1, m.2.2.2.2.2.2.2.1, m.2.2.2.2.2.2.2.2.1, m.2.2.2.2.2.2.2.2.2.1, m.2.2.2.2.2.2.2.2.2.2.1, m.2.2.2.2.2.2.2.2.2.2.2))
    else if x2 < 0 ∨ 218 ≤ ix x2 then none else if ((218 * m.2.2.2.1) + x2) < 0 ∨ 872 ≤ ix ((218 * m.2.2.2.1) + x2) then none else (some (upd m.2.2.1 (ix ((218 * m.2.2.2.1) + x2)) (m.2.1 (ix x2)))).bind fun u111 => M_acted_L84 fu (m.1, m.2.1, u111, m.2.2.2.1, m.2.2.2.2.1, m.2.2.2.2.2.1, m.2.2.2.2.2.2.1, m.2.2.2.2.2.2.2.1, m.2.2.2.2.2.2.2.2.1, m.2.2.2.2.2.2.2.2.2.1, m.2.2.2.2.2.2.2.2.2.2.1, m.2.2.2.2.2.2.2.2.2.2.2) x1 (x2 + 1)
def M_acted_L43 : Nat → MD → Int32 → Int32 → Option (Int32 × MD)
  | 0, _, _, _ => none
  | fu + 1, m, x1, x2 => if 654 ≤ x2 then M_acted_L84 1000 (m.1, m.2.1, m.2.2.1, (m.2.2.2.1 - 1), m.2.2.2.2.1, m.2.2.2.2.2.1, m.2.2.2.2.2.2.1, m.2.2.2.2.2.2.2.1, m.2.2.2.2.2.2.2.2.1, m.2.2.2.2.2.2.2.2.2.1, m.2.2.2.2.2.2.2.2.2.2.1, m.2.2.2.2.2.2.2.2.2.2.2) x1 0
    else if (x2 + 218) < 0 ∨ 872 ≤ ix (x2 + 218) then none else if x2 < 0 ∨ 872 ≤ ix x2 then none else (some (upd m.2.2.1 (ix x2) (m.2.2.1 (ix (x2 + 218))))).bind fun u65 => M_acted_L43 fu (m.1, m.2.1, u65, m.2.2.2.1, m.2.2.2.2.1, m.2.2.2.2.2.1, m.2.2.2.2.2.2.1, m.2.2.2.2.2.2.2.1, m.2.2.2.2.2.2.2.2.1, m.2.2.2.2.2.2.2.2.2.1, m.2.2.2.2.2.2.2.2.2.2.1, m.2.2.2.2.2.2.2.2.2.2.2) x1 (x2 + 1)
def M_acted_L6 : Nat → MD → Int32 → Int32 → Option (Int32 × MD)
  | 0, _, _, _ => none
  | fu + 1, m, x1, x2 => if 218 ≤ x2 then some (x1, m)
    else if x2 < 0 ∨ 218 ≤ ix x2 then none else if x2 < 0 ∨ 218 ≤ ix x2 then none else (some (upd m.1 (ix x2) (m.2.1 (ix x2)))).bind fun u24 => M_acted_L6 fu (u24, m.2.1, m.2.2.1, m.2.2.2.1, m.2.2.2.2.1, m.2.2.2.2.2.1, m.2.2.2.2.2.2.1, m.2.2.2.2.2.2.2.1, m.2.2.2.2.2.2.2.2.1, m.2.2.2.2.2.2.2.2.2.1, m.2.2.2.2.2.2.2.2.2.2.1, m.2.2.2.2.2.2.2.2.2.2.2) x1 (x2 + 1)
def M_acted (m : MD) (x1 : Int32) : Option (Int32 × MD) := if 0 ≤ x1 then if m.2.2.2.1 = 4 then M_acted_L43 1000 m x1 0
    else M_acted_L84 1000 m x1 0
    else M_acted_L6 1000 m x1 0
def M_sign (m : MD) (x1 : Int32) : Option (Int32) := if (18 + (3 * x1)) < 0 ∨ 218 ≤ ix (18 + (3 * x1)) then none else some (m.1 (ix (18 + (3 * x1))))
def M_deep (m : MD) (x1 : Int32) : Option (Int32) := if ((18 + (3 * x1)) + 1) < 0 ∨ 218 ≤ ix ((18 + (3 * x1)) + 1) then none else some (m.1 (ix ((18 + (3 * x1)) + 1)))
def M_own (m : MD) (x1 : Int32) : Option (Int32) := if ((18 + (3 * x1)) + 2) < 0 ∨ 218 ≤ ix ((18 + (3 * x1)) + 2) then none else some (m.1 (ix ((18 + (3 * x1)) + 2)))
def M_isNode (m : MD) (x1 : Int32) : Option (Int32) := (M_in x1 0 ((m.1 (ix 0)) - 1)).bind fun v10 => if v10 = 0 ∨ v10 = 1 then some v10 else none
def M_numberOf_L4 : Nat → MD → Int32 → Int32 → Int32 → Option (Int32)
  | 0, _, _, _, _ => none
  | fu + 1, m, x1, x2, x3 => if (m.1 (ix 0)) ≤ x3 then some x2
    else (M_own m x3).bind fun v16 => if v16 = x1 then M_numberOf_L4 fu m x1 x3 (x3 + 1)
    else M_numberOf_L4 fu m x1 x2 (x3 + 1)
def M_numberOf (m : MD) (x1 : Int32) : Option (Int32) := M_numberOf_L4 1000 m x1 (-1) 0
def M_place (m : MD) : Option (Int32) := (M_numberOf m (m.1 (ix 2))).bind fun v7 => some v7
def M_end_L4 : Nat → MD → Int32 → Int32 → Option (Int32)
  | 0, _, _, _ => none
  | fu + 1, m, x1, x2 => if (m.1 (ix 0)) ≤ x2 then some x2
    else (M_deep m x2).bind fun v16 => (M_deep m x1).bind fun v21 => if v16 ≤ v21 then some x2
    else M_end_L4 fu m x1 (x2 + 1)
def M_end (m : MD) (x1 : Int32) : Option (Int32) := M_end_L4 1000 m x1 (x1 + 1)
def M_above_L4 : Nat → MD → Int32 → Int32 → Option (Int32)
  | 0, _, _, _ => none
  | fu + 1, m, x1, x2 => if x2 < 0 then some x2
    else (M_deep m x2).bind fun v10 => (M_deep m x1).bind fun v15 => if v10 < v15 then some x2
    else M_above_L4 fu m x1 (x2 + (-1))
def M_above (m : MD) (x1 : Int32) : Option (Int32) := M_above_L4 1000 m x1 (x1 - 1)
def M_children_L6 : Nat → MD → Int32 → Int32 → Int32 → Option (Int32)
  | 0, _, _, _, _ => none
  | fu + 1, m, x1, x2, x3 => (M_end m x1).bind fun v9 => if v9 ≤ x3 then some x2
    else (M_deep m x3).bind fun v18 => (M_deep m x1).bind fun v23 => if v18 = (v23 + 1) then M_children_L6 fu m x1 (x2 + 1) (x3 + 1)
    else M_children_L6 fu m x1 (x2 + 0) (x3 + 1)
def M_children (m : MD) (x1 : Int32) : Option (Int32) := M_children_L6 1000 m x1 0 (x1 + 1)
def M_childOf_L7 : Nat → MD → Int32 → Int32 → Int32 → Option (Int32)
  | 0, _, _, _, _ => none
  | fu + 1, m, x2, x3, x4 => if x2 ≤ x4 then some x3
    else (M_end m x3).bind fun v15 => M_childOf_L7 fu m x2 v15 (x4 + 1)
def M_childOf (m : MD) (x1 : Int32) (x2 : Int32) : Option (Int32) := M_childOf_L7 1000 m x2 (x1 + 1) 0
def M_which_L10 : Nat → MD → Int32 → Int32 → Int32 → Option (Int32)
  | 0, _, _, _, _ => none
  | fu + 1, m, x1, x2, x3 => if x1 ≤ x3 then some x2
    else (M_deep m x3).bind fun v18 => (M_deep m x1).bind fun v23 => if v18 = v23 then M_which_L10 fu m x1 (x2 + 1) (x3 + 1)
    else M_which_L10 fu m x1 (x2 + 0) (x3 + 1)
def M_which (m : MD) (x1 : Int32) : Option (Int32) := (M_above m x1).bind fun v4 => M_which_L10 1000 m x1 0 (v4 + 1)
def M_besides_L50 : Nat → MD → Int32 → Int32 → Int32 → Option (Int32)
  | 0, _, _, _, _ => none
  | fu + 1, m, x1, x3, x4 => if x1 ≤ x4 then some x3
    else (M_deep m x4).bind fun v59 => (M_deep m x1).bind fun v64 => if v59 = v64 then M_besides_L50 fu m x1 x4 (x4 + 1)
    else M_besides_L50 fu m x1 x3 (x4 + 1)
def M_besides (m : MD) (x1 : Int32) (x2 : Int32) : Option (Int32) := if x2 = 0 then (M_above m x1).bind fun v43 => M_besides_L50 1000 m x1 (-1) (v43 + 1)
    else (M_end m x1).bind fun v6 => if (m.1 (ix 0)) ≤ v6 then some (-1)
    else (M_deep m v6).bind fun v22 => (M_deep m x1).bind fun v27 => if v22 = v27 then some v6
    else some (-1)
def M_height_L4 : Nat → MD → Int32 → Int32 → Int32 → Option (Int32)
  | 0, _, _, _, _ => none
  | fu + 1, m, x1, x2, x3 => (M_end m x1).bind fun v7 => if v7 ≤ x3 then some x2
    else (M_deep m x3).bind fun v15 => (M_deep m x1).bind fun v20 => if (v15 - v20) ≤ x2 then M_height_L4 fu m x1 x2 (x3 + 1)
    else (M_deep m x3).bind fun v30 => (M_deep m x1).bind fun v35 => M_height_L4 fu m x1 (v30 - v35) (x3 + 1)
def M_height (m : MD) (x1 : Int32) : Option (Int32) := M_height_L4 1000 m x1 0 x1
def M_opens_L11 : Nat → MD → Int32 → Int32 → Int32 → Option (MD)
  | 0, _, _, _, _ => none
  | fu + 1, m, x1, x2, x3 => if x3 < (3 * x1) then (some (upd m.1 (ix 0) ((m.1 (ix 0)) + x2))).bind fun u55 => some (u55, m.2.1, m.2.2.1, m.2.2.2.1, m.2.2.2.2.1, m.2.2.2.2.2.1, m.2.2.2.2.2.2.1, m.2.2.2.2.2.2.2.1, m.2.2.2.2.2.2.2.2.1, m.2.2.2.2.2.2.2.2.2.1, m.2.2.2.2.2.2.2.2.2.2.1, m.2.2.2.2.2.2.2.2.2.2.2)
    else if (18 + x3) < 0 ∨ 218 ≤ ix (18 + x3) then none else if ((18 + x3) + (3 * x2)) < 0 ∨ 218 ≤ ix ((18 + x3) + (3 * x2)) then none else (some (upd m.1 (ix ((18 + x3) + (3 * x2))) (m.1 (ix (18 + x3))))).bind fun u39 => M_opens_L11 fu (u39, m.2.1, m.2.2.1, m.2.2.2.1, m.2.2.2.2.1, m.2.2.2.2.2.1, m.2.2.2.2.2.2.1, m.2.2.2.2.2.2.2.1, m.2.2.2.2.2.2.2.2.1, m.2.2.2.2.2.2.2.2.2.1, m.2.2.2.2.2.2.2.2.2.2.1, m.2.2.2.2.2.2.2.2.2.2.2) x1 x2 (x3 + (-1))
def M_opens (m : MD) (x1 : Int32) (x2 : Int32) : Option (MD) := M_opens_L11 1000 m x1 x2 ((3 * (m.1 (ix 0))) - 1)
def M_closes_L14 : Nat → MD → Int32 → Int32 → Option (MD)
  | 0, _, _, _ => none
  | fu + 1, m, x2, x3 => if (3 * (m.1 (ix 0))) ≤ x3 then some m
    else if ((18 + x3) + (3 * x2)) < 0 ∨ 218 ≤ ix ((18 + x3) + (3 * x2)) then none else if (18 + x3) < 0 ∨ 218 ≤ ix (18 + x3) then none else (some (upd m.1 (ix (18 + x3)) (m.1 (ix ((18 + x3) + (3 * x2)))))).bind fun u47 => M_closes_L14 fu (u47, m.2.1, m.2.2.1, m.2.2.2.1, m.2.2.2.2.1, m.2.2.2.2.2.1, m.2.2.2.2.2.2.1, m.2.2.2.2.2.2.2.1, m.2.2.2.2.2.2.2.2.1, m.2.2.2.2.2.2.2.2.2.1, m.2.2.2.2.2.2.2.2.2.2.1, m.2.2.2.2.2.2.2.2.2.2.2) x2 (x3 + 1)
def M_closes (m : MD) (x1 : Int32) (x2 : Int32) : Option (MD) := (some (upd m.1 (ix 0) ((m.1 (ix 0)) - x2))).bind fun u9 => M_closes_L14 1000 (u9, m.2.1, m.2.2.1, m.2.2.2.1, m.2.2.2.2.1, m.2.2.2.2.2.1, m.2.2.2.2.2.2.1, m.2.2.2.2.2.2.2.1, m.2.2.2.2.2.2.2.2.1, m.2.2.2.2.2.2.2.2.2.1, m.2.2.2.2.2.2.2.2.2.2.1, m.2.2.2.2.2.2.2.2.2.2.2) x2 (3 * x1)
def M_lays (m : MD) (x1 : Int32) (x2 : Int32) (x3 : Int32) : Option (MD) := if (18 + (3 * x1)) < 0 ∨ 218 ≤ ix (18 + (3 * x1)) then none else (some (upd m.1 (ix (18 + (3 * x1))) x2)).bind fun u11 => if ((18 + (3 * x1)) + 1) < 0 ∨ 218 ≤ ix ((18 + (3 * x1)) + 1) then none else (some (upd u11 (ix ((18 + (3 * x1)) + 1)) x3)).bind fun u25 => if ((18 + (3 * x1)) + 2) < 0 ∨ 218 ≤ ix ((18 + (3 * x1)) + 2) then none else (some (upd u25 (ix ((18 + (3 * x1)) + 2)) (u25 (ix 1)))).bind fun u44 => (some (upd u44 (ix 1) ((u44 (ix 1)) + 1))).bind fun u54 => some (u54, m.2.1, m.2.2.1, m.2.2.2.1, m.2.2.2.2.1, m.2.2.2.2.2.1, m.2.2.2.2.2.2.1, m.2.2.2.2.2.2.2.1, m.2.2.2.2.2.2.2.2.1, m.2.2.2.2.2.2.2.2.2.1, m.2.2.2.2.2.2.2.2.2.2.1, m.2.2.2.2.2.2.2.2.2.2.2)
def M_sinks_L3 : Nat → MD → Int32 → Int32 → Int32 → Option (MD)
  | 0, _, _, _, _ => none
  | fu + 1, m, x2, x3, x4 => if x2 ≤ x4 then some m
    else if ((18 + (3 * x4)) + 1) < 0 ∨ 218 ≤ ix ((18 + (3 * x4)) + 1) then none else if ((18 + (3 * x4)) + 1) < 0 ∨ 218 ≤ ix ((18 + (3 * x4)) + 1) then none else (some (upd m.1 (ix ((18 + (3 * x4)) + 1)) ((m.1 (ix ((18 + (3 * x4)) + 1))) + x3))).bind fun u26 => M_sinks_L3 fu (u26, m.2.1, m.2.2.1, m.2.2.2.1, m.2.2.2.2.1, m.2.2.2.2.2.1, m.2.2.2.2.2.2.1, m.2.2.2.2.2.2.2.1, m.2.2.2.2.2.2.2.2.1, m.2.2.2.2.2.2.2.2.2.1, m.2.2.2.2.2.2.2.2.2.2.1, m.2.2.2.2.2.2.2.2.2.2.2) x2 x3 (x4 + 1)
def M_sinks (m : MD) (x1 : Int32) (x2 : Int32) (x3 : Int32) : Option (MD) := M_sinks_L3 1000 m x2 x3 x1
def M_walks_J69 (m : MD) (x1 : Int32) : Option (Int32 × MD) := if (9 + (m.1 (ix 3))) < 0 ∨ 218 ≤ ix (9 + (m.1 (ix 3))) then none else (some (upd m.1 (ix (9 + (m.1 (ix 3)))) (m.1 (ix 2)))).bind fun u88 => (some (upd u88 (ix 3) ((u88 (ix 3)) + 1))).bind fun u98 => (M_own (u98, m.2.1, m.2.2.1, m.2.2.2.1, m.2.2.2.2.1, m.2.2.2.2.2.1, m.2.2.2.2.2.2.1, m.2.2.2.2.2.2.2.1, m.2.2.2.2.2.2.2.2.1, m.2.2.2.2.2.2.2.2.2.1, m.2.2.2.2.2.2.2.2.2.2.1, m.2.2.2.2.2.2.2.2.2.2.2) x1).bind fun v106 => (some (upd u98 (ix 2) v106)).bind fun u109 => some (x1, (u109, m.2.1, m.2.2.1, m.2.2.2.1, m.2.2.2.2.1, m.2.2.2.2.2.1, m.2.2.2.2.2.2.1, m.2.2.2.2.2.2.2.1, m.2.2.2.2.2.2.2.2.1, m.2.2.2.2.2.2.2.2.2.1, m.2.2.2.2.2.2.2.2.2.2.1, m.2.2.2.2.2.2.2.2.2.2.2))
def M_walks_L27 : Nat → MD → Int32 → Int32 → Option (Int32 × MD)
  | 0, _, _, _ => none
  | fu + 1, m, x1, x2 => if 7 ≤ x2 then (some (upd m.1 (ix 3) ((m.1 (ix 3)) - 1))).bind fun u68 => M_walks_J69 (u68, m.2.1, m.2.2.1, m.2.2.2.1, m.2.2.2.2.1, m.2.2.2.2.2.1, m.2.2.2.2.2.2.1, m.2.2.2.2.2.2.2.1, m.2.2.2.2.2.2.2.2.1, m.2.2.2.2.2.2.2.2.2.1, m.2.2.2.2.2.2.2.2.2.2.1, m.2.2.2.2.2.2.2.2.2.2.2) x1
    else if ((9 + x2) + 1) < 0 ∨ 218 ≤ ix ((9 + x2) + 1) then none else if (9 + x2) < 0 ∨ 218 ≤ ix (9 + x2) then none else (some (upd m.1 (ix (9 + x2)) (m.1 (ix ((9 + x2) + 1))))).bind fun u52 => M_walks_L27 fu (u52, m.2.1, m.2.2.1, m.2.2.2.1, m.2.2.2.2.1, m.2.2.2.2.2.1, m.2.2.2.2.2.2.1, m.2.2.2.2.2.2.2.1, m.2.2.2.2.2.2.2.2.1, m.2.2.2.2.2.2.2.2.2.1, m.2.2.2.2.2.2.2.2.2.2.1, m.2.2.2.2.2.2.2.2.2.2.2) x1 (x2 + 1)
def M_walks (m : MD) (x1 : Int32) : Option (Int32 × MD) := (M_own m x1).bind fun v2 => if v2 = (m.1 (ix 2)) then some (x1, m)
    else if (m.1 (ix 3)) = 8 then M_walks_L27 1000 m x1 0
    else M_walks_J69 m x1
def M_down (m : MD) (x1 : Int32) : Option (Int32 × MD) := (M_begins m).bind fun v1 => if 0 ≤ x1 then (M_place v1).bind fun v11 => (M_children v1 v11).bind fun v18 => if x1 < v18 then (M_childOf v1 v11 x1).bind fun v34 => (M_walks v1 v34).bind fun v37 => (M_acted v37.2 v37.1).bind fun v40 => some (v40.1, v40.2)
    else some ((-2), v1)
    else some ((-1), v1)
def M_up (m : MD) : Option (Int32 × MD) := (M_begins m).bind fun v1 => (M_place v1).bind fun v6 => (M_above v1 v6).bind fun v9 => if 0 ≤ v9 then (M_walks v1 v9).bind fun v25 => (M_acted v25.2 v25.1).bind fun v28 => some (v28.1, v28.2)
    else some ((-2), v1)
def M_side_J30 (m : MD) (s1 : Int32) (s2 : Int32) : Option (Int32 × MD) := (M_besides m s1 s2).bind fun v30 => if 0 ≤ v30 then (M_walks m v30).bind fun v46 => (M_acted v46.2 v46.1).bind fun v49 => some (v49.1, v49.2)
    else some ((-2), m)
def M_side (m : MD) (x1 : Int32) : Option (Int32 × MD) := (M_begins m).bind fun v1 => (M_in x1 0 1).bind fun v7 => if v7 = 0 then some ((-1), v1)
    else (M_place v1).bind fun v17 => if x1 = 1 then M_side_J30 v1 v17 1
    else M_side_J30 v1 v17 0
def M_step_J29 (m : MD) (s0 : Int32) (s1 : Int32) : Option (Int32 × MD) := (M_isNode m (s0 + s1)).bind fun v33 => if v33 = 0 then some ((-2), m)
    else (M_walks m (s0 + s1)).bind fun v42 => (M_acted v42.2 v42.1).bind fun v45 => some (v45.1, v45.2)
def M_step (m : MD) (x1 : Int32) : Option (Int32 × MD) := (M_begins m).bind fun v1 => (M_in x1 0 1).bind fun v7 => if v7 = 0 then some ((-1), v1)
    else (M_place v1).bind fun v16 => if x1 = 1 then M_step_J29 v1 v16 1
    else M_step_J29 v1 v16 (-1)
def M_top (m : MD) : Option (Int32 × MD) := (M_begins m).bind fun v1 => (M_place v1).bind fun v6 => (M_deep v1 v6).bind fun v9 => if v9 = 0 then some ((-2), v1)
    else (M_walks v1 0).bind fun v22 => (M_acted v22.2 v9).bind fun v28 => some (v28.1, v28.2)
def M_back_L11 : Nat → MD → Int32 → Option (Int32 × MD)
  | 0, _, _ => none
  | fu + 1, m, x1 => if x1 ≤ 0 then some ((-2), m)
    else if (9 + (x1 + (-1))) < 0 ∨ 218 ≤ ix (9 + (x1 + (-1))) then none else (M_numberOf m (m.1 (ix (9 + (x1 + (-1)))))).bind fun v28 => if v28 < 0 then M_back_L11 fu m (x1 + (-1))
    else if (9 + (x1 + (-1))) < 0 ∨ 218 ≤ ix (9 + (x1 + (-1))) then none else if (m.1 (ix (9 + (x1 + (-1))))) = (m.1 (ix 2)) then M_back_L11 fu m (x1 + (-1))
    else if (9 + (x1 + (-1))) < 0 ∨ 218 ≤ ix (9 + (x1 + (-1))) then none else (some (upd m.1 (ix 2) (m.1 (ix (9 + (x1 + (-1))))))).bind fun u68 => (some (upd u68 (ix 3) (x1 + (-1)))).bind fun u75 => (M_acted (u75, m.2.1, m.2.2.1, m.2.2.2.1, m.2.2.2.2.1, m.2.2.2.2.2.1, m.2.2.2.2.2.2.1, m.2.2.2.2.2.2.2.1, m.2.2.2.2.2.2.2.2.1, m.2.2.2.2.2.2.2.2.2.1, m.2.2.2.2.2.2.2.2.2.2.1, m.2.2.2.2.2.2.2.2.2.2.2) v28).bind fun v78 => some (v78.1, v78.2)
def M_back (m : MD) : Option (Int32 × MD) := (M_begins m).bind fun v1 => M_back_L11 1000 v1 (v1.1 (ix 3))
def M_letter (m : MD) (x1 : Int32) : Option (Int32 × MD) := (M_begins m).bind fun v1 => (M_in x1 0 25).bind fun v8 => if v8 = 0 then some ((-1), v1)
    else (M_place v1).bind fun v17 => (M_sign v1 v17).bind fun v23 => if (18 + (3 * v17)) < 0 ∨ 218 ≤ ix (18 + (3 * v17)) then none else (some (upd v1.1 (ix (18 + (3 * v17))) x1)).bind fun u38 => (M_acted (u38, v1.2.1, v1.2.2.1, v1.2.2.2.1, v1.2.2.2.2.1, v1.2.2.2.2.2.1, v1.2.2.2.2.2.2.1, v1.2.2.2.2.2.2.2.1, v1.2.2.2.2.2.2.2.2.1, v1.2.2.2.2.2.2.2.2.2.1, v1.2.2.2.2.2.2.2.2.2.2.1, v1.2.2.2.2.2.2.2.2.2.2.2) v23).bind fun v41 => some (v41.1, v41.2)
def M_child (m : MD) (x1 : Int32) (x2 : Int32) : Option (Int32 × MD) := (M_begins m).bind fun v1 => (M_place v1).bind fun v5 => (M_children v1 v5).bind fun v13 => (M_in x1 0 v13).bind fun v16 => if v16 = 0 then some ((-1), v1)
    else (M_in x2 0 25).bind fun v26 => if v26 = 0 then some ((-1), v1)
    else if (v1.1 (ix 0)) = 40 then some ((-3), v1)
    else (M_children v1 v5).bind fun v47 => if v47 = 6 then some ((-3), v1)
    else (M_deep v1 v5).bind fun v57 => if v57 = 7 then some ((-3), v1)
    else (M_childOf v1 v5 x1).bind fun v71 => (M_opens v1 v71 1).bind fun v80 => (M_deep v80 v5).bind fun v89 => (M_lays v80 v71 x2 (v89 + 1)).bind fun v94 => (M_children v94 v5).bind fun v100 => (M_acted v94 v100).bind fun v103 => some (v103.1, v103.2)
def M_beside_J91 (m : MD) (x2 : Int32) (x4 : Int32) (x5 : Int32) (s0 : Int32) : Option (Int32 × MD) := (M_opens m s0 1).bind fun v97 => (M_lays v97 s0 x2 x5).bind fun v106 => (M_children v106 x4).bind fun v113 => (M_acted v106 v113).bind fun v116 => some (v116.1, v116.2)
def M_beside (m : MD) (x1 : Int32) (x2 : Int32) : Option (Int32 × MD) := (M_begins m).bind fun v1 => (M_in x1 0 1).bind fun v7 => if v7 = 0 then some ((-1), v1)
    else (M_in x2 0 25).bind fun v17 => if v17 = 0 then some ((-1), v1)
    else (M_place v1).bind fun v26 => (M_above v1 v26).bind fun v32 => if 0 ≤ v32 then if (v1.1 (ix 0)) = 40 then some ((-3), v1)
    else (M_children v1 v32).bind fun v59 => if v59 = 6 then some ((-3), v1)
    else (M_deep v1 v26).bind fun v72 => if x1 = 1 then (M_end v1 v26).bind fun v84 => M_beside_J91 v1 x2 v32 v72 v84
    else M_beside_J91 v1 x2 v32 v72 v26
    else some ((-2), v1)
def M_goes_J48 (m : MD) (x1 : Int32) (x2 : Int32) (s0 : Int32) : Option (Int32 × MD) := (M_own m s0).bind fun v56 => (some (upd m.1 (ix 2) v56)).bind fun u59 => (M_closes (u59, m.2.1, m.2.2.1, m.2.2.2.1, m.2.2.2.2.1, m.2.2.2.2.2.1, m.2.2.2.2.2.2.1, m.2.2.2.2.2.2.2.1, m.2.2.2.2.2.2.2.2.1, m.2.2.2.2.2.2.2.2.2.1, m.2.2.2.2.2.2.2.2.2.2.1, m.2.2.2.2.2.2.2.2.2.2.2) x1 x2).bind fun v63 => some (x2, v63)
def M_goes_J34 (m : MD) (x1 : Int32) (x2 : Int32) (s0 : Int32) : Option (Int32 × MD) := if 0 ≤ s0 then M_goes_J48 m x1 x2 s0
    else (M_above m x1).bind fun v41 => M_goes_J48 m x1 x2 v41
def M_goes (m : MD) : Option (Int32 × MD) := (M_place m).bind fun v1 => (M_end m v1).bind fun v7 => (M_besides m v1 1).bind fun v16 => if 0 ≤ v16 then M_goes_J34 m v1 (v7 - v1) v16
    else (M_besides m v1 0).bind fun v27 => M_goes_J34 m v1 (v7 - v1) v27
def M_clips_L20 : Nat → MD → Int32 → Int32 → Option (MD)
  | 0, _, _, _ => none
  | fu + 1, m, x1, x2 => if (m.1 (ix 4)) ≤ x2 then some m
    else (M_sign m (x1 + x2)).bind fun v45 => if (138 + (2 * x2)) < 0 ∨ 218 ≤ ix (138 + (2 * x2)) then none else (some (upd m.1 (ix (138 + (2 * x2))) v45)).bind fun u48 => (M_deep (u48, m.2.1, m.2.2.1, m.2.2.2.1, m.2.2.2.2.1, m.2.2.2.2.2.1, m.2.2.2.2.2.2.1, m.2.2.2.2.2.2.2.1, m.2.2.2.2.2.2.2.2.1, m.2.2.2.2.2.2.2.2.2.1, m.2.2.2.2.2.2.2.2.2.2.1, m.2.2.2.2.2.2.2.2.2.2.2) (x1 + x2)).bind fun v66 => (M_deep (u48, m.2.1, m.2.2.1, m.2.2.2.1, m.2.2.2.2.1, m.2.2.2.2.2.1, m.2.2.2.2.2.2.1, m.2.2.2.2.2.2.2.1, m.2.2.2.2.2.2.2.2.1, m.2.2.2.2.2.2.2.2.2.1, m.2.2.2.2.2.2.2.2.2.2.1, m.2.2.2.2.2.2.2.2.2.2.2) x1).bind fun v71 => if ((138 + (2 * x2)) + 1) < 0 ∨ 218 ≤ ix ((138 + (2 * x2)) + 1) then none else (some (upd u48 (ix ((138 + (2 * x2)) + 1)) (v66 - v71))).bind fun u75 => M_clips_L20 fu (u75, m.2.1, m.2.2.1, m.2.2.2.1, m.2.2.2.2.1, m.2.2.2.2.2.1, m.2.2.2.2.2.2.1, m.2.2.2.2.2.2.2.1, m.2.2.2.2.2.2.2.2.1, m.2.2.2.2.2.2.2.2.2.1, m.2.2.2.2.2.2.2.2.2.2.1, m.2.2.2.2.2.2.2.2.2.2.2) x1 (x2 + 1)
def M_clips (m : MD) : Option (MD) := (M_place m).bind fun v1 => (M_end m v1).bind fun v12 => (some (upd m.1 (ix 4) (v12 - v1))).bind fun u17 => M_clips_L20 1000 (u17, m.2.1, m.2.2.1, m.2.2.2.1, m.2.2.2.2.1, m.2.2.2.2.2.1, m.2.2.2.2.2.2.1, m.2.2.2.2.2.2.2.1, m.2.2.2.2.2.2.2.2.1, m.2.2.2.2.2.2.2.2.2.1, m.2.2.2.2.2.2.2.2.2.2.1, m.2.2.2.2.2.2.2.2.2.2.2) v1 0
def M_forgets_L2 : Nat → MD → Int32 → Option (MD)
  | 0, _, _ => none
  | fu + 1, m, x1 => if 4 ≤ x1 then some m
    else if (5 + x1) < 0 ∨ 218 ≤ ix (5 + x1) then none else (M_numberOf m (m.1 (ix (5 + x1)))).bind fun v23 => if 0 ≤ v23 then if (5 + x1) < 0 ∨ 218 ≤ ix (5 + x1) then none else if (5 + x1) < 0 ∨ 218 ≤ ix (5 + x1) then none else (some (upd m.1 (ix (5 + x1)) (m.1 (ix (5 + x1))))).bind fun u41 => M_forgets_L2 fu (u41, m.2.1, m.2.2.1, m.2.2.2.1, m.2.2.2.2.1, m.2.2.2.2.2.1, m.2.2.2.2.2.2.1, m.2.2.2.2.2.2.2.1, m.2.2.2.2.2.2.2.2.1, m.2.2.2.2.2.2.2.2.2.1, m.2.2.2.2.2.2.2.2.2.2.1, m.2.2.2.2.2.2.2.2.2.2.2) (x1 + 1)
    else if (5 + x1) < 0 ∨ 218 ≤ ix (5 + x1) then none else (some (upd m.1 (ix (5 + x1)) (-1))).bind fun u41 => M_forgets_L2 fu (u41, m.2.1, m.2.2.1, m.2.2.2.1, m.2.2.2.2.1, m.2.2.2.2.2.1, m.2.2.2.2.2.2.1, m.2.2.2.2.2.2.2.1, m.2.2.2.2.2.2.2.2.1, m.2.2.2.2.2.2.2.2.2.1, m.2.2.2.2.2.2.2.2.2.2.1, m.2.2.2.2.2.2.2.2.2.2.2) (x1 + 1)
def M_forgets (m : MD) : Option (MD) := M_forgets_L2 1000 m 0
def M_delete (m : MD) : Option (Int32 × MD) := (M_begins m).bind fun v1 => (M_place v1).bind fun v6 => (M_deep v1 v6).bind fun v9 => if v9 = 0 then some ((-2), v1)
    else (M_goes v1).bind fun v19 => (M_forgets v19.2).bind fun v24 => (M_acted v24 v19.1).bind fun v29 => some (v29.1, v29.2)
def M_cut (m : MD) : Option (Int32 × MD) := (M_begins m).bind fun v1 => (M_place v1).bind fun v6 => (M_deep v1 v6).bind fun v9 => if v9 = 0 then some ((-2), v1)
    else (M_clips v1).bind fun v19 => (M_goes v19).bind fun v23 => (M_forgets v23.2).bind fun v28 => (M_acted v28 v23.1).bind fun v33 => some (v33.1, v33.2)
def M_copy (m : MD) : Option (Int32 × MD) := (M_begins m).bind fun v1 => (M_clips v1).bind fun v5 => (M_acted v5 (v5.1 (ix 4))).bind fun v15 => some (v15.1, v15.2)
def M_wrap (m : MD) (x1 : Int32) : Option (Int32 × MD) := (M_begins m).bind fun v1 => (M_in x1 0 25).bind fun v8 => if v8 = 0 then some ((-1), v1)
    else (M_place v1).bind fun v17 => (M_deep v1 v17).bind fun v23 => if (v1.1 (ix 0)) = 40 then some ((-3), v1)
    else (M_height v1 v17).bind fun v41 => if (v23 + v41) = 7 then some ((-3), v1)
    else (M_end v1 v17).bind fun v57 => (M_sinks v1 v17 v57 1).bind fun v61 => (M_opens v61 v17 1).bind fun v67 => (M_lays v67 v17 x1 v23).bind fun v74 => (M_own v74 v17).bind fun v84 => (some (upd v74.1 (ix 2) v84)).bind fun u87 => (M_acted (u87, v74.2.1, v74.2.2.1, v74.2.2.2.1, v74.2.2.2.2.1, v74.2.2.2.2.2.1, v74.2.2.2.2.2.2.1, v74.2.2.2.2.2.2.2.1, v74.2.2.2.2.2.2.2.2.1, v74.2.2.2.2.2.2.2.2.2.1, v74.2.2.2.2.2.2.2.2.2.2.1, v74.2.2.2.2.2.2.2.2.2.2.2) (u87 (ix 0))).bind fun v95 => some (v95.1, v95.2)
def M_lift_J99 (m : MD) (x2 : Int32) : Option (Int32 × MD) := (M_forgets m).bind fun v100 => (M_acted v100 x2).bind fun v105 => some (v105.1, v105.2)
def M_lift_J54 (m : MD) (x1 : Int32) (x2 : Int32) : Option (Int32 × MD) := if x2 = 0 then (M_goes m).bind fun v59 => M_lift_J99 v59.2 x2
    else (M_own m (x1 + 1)).bind fun v76 => (some (upd m.1 (ix 2) v76)).bind fun u79 => (M_end (u79, m.2.1, m.2.2.1, m.2.2.2.1, m.2.2.2.2.1, m.2.2.2.2.2.1, m.2.2.2.2.2.2.1, m.2.2.2.2.2.2.2.1, m.2.2.2.2.2.2.2.2.1, m.2.2.2.2.2.2.2.2.2.1, m.2.2.2.2.2.2.2.2.2.2.1, m.2.2.2.2.2.2.2.2.2.2.2) x1).bind fun v86 => (M_sinks (u79, m.2.1, m.2.2.1, m.2.2.2.1, m.2.2.2.2.1, m.2.2.2.2.2.1, m.2.2.2.2.2.2.1, m.2.2.2.2.2.2.2.1, m.2.2.2.2.2.2.2.2.1, m.2.2.2.2.2.2.2.2.2.1, m.2.2.2.2.2.2.2.2.2.2.1, m.2.2.2.2.2.2.2.2.2.2.2) (x1 + 1) v86 (-1)).bind fun v90 => (M_closes v90 x1 1).bind fun v96 => M_lift_J99 v96 x2
def M_lift_J33 (m : MD) (x1 : Int32) (x2 : Int32) (x3 : Int32) : Option (Int32 × MD) := if x3 < 0 then M_lift_J54 m x1 x2
    else (M_children m x3).bind fun v39 => if ((v39 - 1) + x2) ≤ 6 then M_lift_J54 m x1 x2
    else some ((-3), m)
def M_lift (m : MD) : Option (Int32 × MD) := (M_begins m).bind fun v1 => (M_place v1).bind fun v5 => (M_children v1 v5).bind fun v11 => (M_above v1 v5).bind fun v17 => if 0 ≤ v17 then M_lift_J33 v1 v5 v11 v17
    else if v11 = 1 then M_lift_J33 v1 v5 v11 v17
    else some ((-2), v1)
def M_swaps_L55 : Nat → MD → Int32 → Int32 → Int32 → Int32 → Option (MD)
  | 0, _, _, _, _, _ => none
  | fu + 1, m, x1, x3, x4, x5 => if (3 * x4) ≤ x5 then some m
    else if (3 * x4) = 0 then none else if (irem (x5 + (3 * x3)) (3 * x4)) < 0 ∨ 120 ≤ ix (irem (x5 + (3 * x3)) (3 * x4)) then none else if ((18 + (3 * x1)) + x5) < 0 ∨ 218 ≤ ix ((18 + (3 * x1)) + x5) then none else (some (upd m.1 (ix ((18 + (3 * x1)) + x5)) (m.2.2.2.2.1 (ix (irem (x5 + (3 * x3)) (3 * x4)))))).bind fun u93 => M_swaps_L55 fu (u93, m.2.1, m.2.2.1, m.2.2.2.1, m.2.2.2.2.1, m.2.2.2.2.2.1, m.2.2.2.2.2.2.1, m.2.2.2.2.2.2.2.1, m.2.2.2.2.2.2.2.2.1, m.2.2.2.2.2.2.2.2.2.1, m.2.2.2.2.2.2.2.2.2.2.1, m.2.2.2.2.2.2.2.2.2.2.2) x1 x3 x4 (x5 + 1)
def M_swaps_L16 : Nat → MD → Int32 → Int32 → Int32 → Int32 → Option (MD)
  | 0, _, _, _, _, _ => none
  | fu + 1, m, x1, x3, x4, x5 => if (3 * x4) ≤ x5 then M_swaps_L55 1000 m x1 x3 x4 0
    else if ((18 + (3 * x1)) + x5) < 0 ∨ 218 ≤ ix ((18 + (3 * x1)) + x5) then none else if x5 < 0 ∨ 120 ≤ ix x5 then none else (some (upd m.2.2.2.2.1 (ix x5) (m.1 (ix ((18 + (3 * x1)) + x5))))).bind fun u45 => M_swaps_L16 fu (m.1, m.2.1, m.2.2.1, m.2.2.2.1, u45, m.2.2.2.2.2.1, m.2.2.2.2.2.2.1, m.2.2.2.2.2.2.2.1, m.2.2.2.2.2.2.2.2.1, m.2.2.2.2.2.2.2.2.2.1, m.2.2.2.2.2.2.2.2.2.2.1, m.2.2.2.2.2.2.2.2.2.2.2) x1 x3 x4 (x5 + 1)
def M_swaps (m : MD) (x1 : Int32) (x2 : Int32) : Option (MD) := (M_end m x2).bind fun v6 => M_swaps_L16 1000 m x1 (x2 - x1) (v6 - x1) 0
def M_exchange_J64 (m : MD) (s1 : Int32) (s2 : Int32) : Option (Int32 × MD) := (M_swaps m s1 s2).bind fun v64 => (M_place v64).bind fun v70 => (M_which v64 v70).bind fun v73 => (M_acted v64 v73).bind fun v76 => some (v76.1, v76.2)
def M_exchange_J54 (m : MD) (x2 : Int32) (x3 : Int32) (s1 : Int32) : Option (Int32 × MD) := if x3 ≤ x2 then M_exchange_J64 m s1 x2
    else M_exchange_J64 m s1 x3
def M_exchange_J32 (m : MD) (x2 : Int32) (s1 : Int32) (s2 : Int32) : Option (Int32 × MD) := (M_besides m s1 s2).bind fun v32 => if 0 ≤ v32 then if v32 ≤ x2 then M_exchange_J54 m x2 v32 v32
    else M_exchange_J54 m x2 v32 x2
    else some ((-2), m)
def M_exchange (m : MD) (x1 : Int32) : Option (Int32 × MD) := (M_begins m).bind fun v1 => (M_in x1 0 1).bind fun v7 => if v7 = 0 then some ((-1), v1)
    else (M_place v1).bind fun v16 => if x1 = 1 then M_exchange_J32 v1 v16 v16 1
    else M_exchange_J32 v1 v16 v16 0
def M_clipHeight_L4 : Nat → MD → Int32 → Int32 → Option (Int32)
  | 0, _, _, _ => none
  | fu + 1, m, x1, x2 => if (m.1 (ix 4)) ≤ x2 then some x1
    else if ((138 + (2 * x2)) + 1) < 0 ∨ 218 ≤ ix ((138 + (2 * x2)) + 1) then none else if (m.1 (ix ((138 + (2 * x2)) + 1))) ≤ x1 then M_clipHeight_L4 fu m x1 (x2 + 1)
    else if ((138 + (2 * x2)) + 1) < 0 ∨ 218 ≤ ix ((138 + (2 * x2)) + 1) then none else M_clipHeight_L4 fu m (m.1 (ix ((138 + (2 * x2)) + 1))) (x2 + 1)
def M_clipHeight (m : MD) : Option (Int32) := M_clipHeight_L4 1000 m 0 0
def M_paste_L114 : Nat → MD → Int32 → Int32 → Int32 → Option (Int32 × MD)
  | 0, _, _, _, _ => none
  | fu + 1, m, x3, x4, x5 => if (m.1 (ix 4)) ≤ x5 then (M_acted m (m.1 (ix 0))).bind fun v177 => some (v177.1, v177.2)
    else if (138 + (2 * x5)) < 0 ∨ 218 ≤ ix (138 + (2 * x5)) then none else if ((138 + (2 * x5)) + 1) < 0 ∨ 218 ≤ ix ((138 + (2 * x5)) + 1) then none else (M_lays m (x3 + x5) (m.1 (ix (138 + (2 * x5)))) (x4 + (m.1 (ix ((138 + (2 * x5)) + 1))))).bind fun v161 => M_paste_L114 fu v161 x3 x4 (x5 + 1)
def M_paste (m : MD) (x1 : Int32) : Option (Int32 × MD) := (M_begins m).bind fun v1 => (M_place v1).bind fun v5 => (M_children v1 v5).bind fun v13 => (M_in x1 0 v13).bind fun v16 => if v16 = 0 then some ((-1), v1)
    else if (v1.1 (ix 4)) = 0 then some ((-2), v1)
    else if 40 < ((v1.1 (ix 0)) + (v1.1 (ix 4))) then some ((-3), v1)
    else (M_children v1 v5).bind fun v56 => if v56 = 6 then some ((-3), v1)
    else (M_deep v1 v5).bind fun v66 => (M_clipHeight v1).bind fun v72 => if ((v66 + 1) + v72) ≤ 7 then (M_childOf v1 v5 x1).bind fun v87 => (M_deep v1 v5).bind fun v93 => (M_opens v1 v87 (v1.1 (ix 4))).bind fun v108 => M_paste_L114 1000 v108 v87 (v93 + 1) 0
    else some ((-3), v1)
def M_mark (m : MD) (x1 : Int32) : Option (Int32 × MD) := (M_begins m).bind fun v1 => (M_in x1 0 3).bind fun v7 => if v7 = 0 then some ((-1), v1)
    else if (5 + x1) < 0 ∨ 218 ≤ ix (5 + x1) then none else (M_numberOf v1 (v1.1 (ix (5 + x1)))).bind fun v24 => if (5 + x1) < 0 ∨ 218 ≤ ix (5 + x1) then none else (some (upd v1.1 (ix (5 + x1)) (v1.1 (ix 2)))).bind fun u41 => if 0 ≤ v24 then (M_acted (u41, v1.2.1, v1.2.2.1, v1.2.2.2.1, v1.2.2.2.2.1, v1.2.2.2.2.2.1, v1.2.2.2.2.2.2.1, v1.2.2.2.2.2.2.2.1, v1.2.2.2.2.2.2.2.2.1, v1.2.2.2.2.2.2.2.2.2.1, v1.2.2.2.2.2.2.2.2.2.2.1, v1.2.2.2.2.2.2.2.2.2.2.2) v24).bind fun v53 => some (v53.1, v53.2)
    else (M_acted (u41, v1.2.1, v1.2.2.1, v1.2.2.2.1, v1.2.2.2.2.1, v1.2.2.2.2.2.1, v1.2.2.2.2.2.2.1, v1.2.2.2.2.2.2.2.1, v1.2.2.2.2.2.2.2.2.1, v1.2.2.2.2.2.2.2.2.2.1, v1.2.2.2.2.2.2.2.2.2.2.1, v1.2.2.2.2.2.2.2.2.2.2.2) 100).bind fun v53 => some (v53.1, v53.2)
def M_goTo (m : MD) (x1 : Int32) : Option (Int32 × MD) := (M_begins m).bind fun v1 => (M_in x1 0 3).bind fun v7 => if v7 = 0 then some ((-1), v1)
    else if (5 + x1) < 0 ∨ 218 ≤ ix (5 + x1) then none else (M_numberOf v1 (v1.1 (ix (5 + x1)))).bind fun v24 => if 0 ≤ v24 then (M_walks v1 v24).bind fun v40 => (M_acted v40.2 v40.1).bind fun v43 => some (v43.1, v43.2)
    else some ((-2), v1)
def M_orNone (x0 : Int32) : Option (Int32) := if 0 ≤ x0 then some x0
    else some (-4)
def M_marksAt_L4 : Nat → MD → Int32 → Int32 → Int32 → Option (Int32)
  | 0, _, _, _, _ => none
  | fu + 1, m, x1, x2, x3 => if 4 ≤ x3 then some x2
    else if (5 + x3) < 0 ∨ 218 ≤ ix (5 + x3) then none else (M_own m x1).bind fun v20 => if (m.1 (ix (5 + x3))) = v20 then M_marksAt_L4 fu m x1 (x2 ||| (1 <<< (x3 &&& 31))) (x3 + 1)
    else M_marksAt_L4 fu m x1 (x2 ||| 0) (x3 + 1)
def M_marksAt (m : MD) (x1 : Int32) : Option (Int32) := M_marksAt_L4 1000 m x1 0 0
def M_nodeOf (m : MD) (x1 : Int32) (x2 : Int32) : Option (Int32) := (M_isNode m x1).bind fun v2 => if v2 = 0 then some (-1)
    else (M_in x2 0 7).bind fun v12 => if v12 = 0 then some (-1)
    else if x2 = 0 then (M_sign m x1).bind fun v66 => some v66
    else if x2 = 1 then (M_children m x1).bind fun v72 => some v72
    else if x2 = 2 then (M_above m x1).bind fun v78 => (M_orNone v78).bind fun v81 => some v81
    else if x2 = 3 then (M_deep m x1).bind fun v87 => some v87
    else if x2 = 4 then (M_end m x1).bind fun v93 => some (v93 - x1)
    else if x2 = 5 then if x1 = 0 then some (-4)
    else (M_which m x1).bind fun v110 => some v110
    else if x2 = 6 then (M_height m x1).bind fun v116 => some v116
    else (M_marksAt m x1).bind fun v122 => some v122
def M_spine_L32 : Nat → MD → Int32 → Int32 → Int32 → Option (Int32)
  | 0, _, _, _, _ => none
  | fu + 1, m, x1, x2, x3 => (M_deep m x3).bind fun v34 => if v34 ≤ x1 then if x2 = 0 then some x3
    else if x2 = 1 then (M_sign m x3).bind fun v65 => some v65
    else if x3 = 0 then some 0
    else (M_which m x3).bind fun v81 => some v81
    else (M_above m x3).bind fun v43 => M_spine_L32 fu m x1 x2 v43
def M_spine (m : MD) (x1 : Int32) (x2 : Int32) : Option (Int32) := if x1 < 0 then some (-1)
    else (M_in x2 0 2).bind fun v7 => if v7 = 0 then some (-1)
    else (M_place m).bind fun v16 => (M_deep m v16).bind fun v23 => if x1 ≤ v23 then M_spine_L32 1000 m x1 x2 v16
    else some (-4)
def M_marked (m : MD) (x1 : Int32) : Option (Int32) := (M_in x1 0 3).bind fun v3 => if v3 = 0 then some (-1)
    else if (5 + x1) < 0 ∨ 218 ≤ ix (5 + x1) then none else (M_numberOf m (m.1 (ix (5 + x1)))).bind fun v18 => (M_orNone v18).bind fun v21 => some v21
def M_leaves_L4 : Nat → MD → Int32 → Int32 → Option (Int32)
  | 0, _, _, _ => none
  | fu + 1, m, x1, x2 => if (m.1 (ix 0)) ≤ x2 then some x1
    else (M_children m x2).bind fun v17 => if v17 = 0 then M_leaves_L4 fu m (x1 + 1) (x2 + 1)
    else M_leaves_L4 fu m (x1 + 0) (x2 + 1)
def M_leaves (m : MD) : Option (Int32) := M_leaves_L4 1000 m 0 0
def M_unlike_J34 (K : MD → Int32 → Int32 → Int32 → Option (Int32)) (m : MD) (x2 : Int32) (x3 : Int32) (s0 : Int32) (s1 : Int32) : Option (Int32) := (M_sign m x3).bind fun v40 => K m (s0 + s1) (x2 ||| (1 <<< (v40 &&& 31))) (x3 + 1)
def M_unlike_L6 : Nat → MD → Int32 → Int32 → Int32 → Option (Int32)
  | 0, _, _, _, _ => none
  | fu + 1, m, x1, x2, x3 => if (m.1 (ix 0)) ≤ x3 then some x1
    else (M_sign m x3).bind fun v20 => if ((x2 >>> (v20 &&& 31)) &&& 1) = 0 then M_unlike_J34 (fun q0 q1 q2 q3 => M_unlike_L6 fu q0 q1 q2 q3) m x2 x3 x1 1
    else M_unlike_J34 (fun q0 q1 q2 q3 => M_unlike_L6 fu q0 q1 q2 q3) m x2 x3 x1 0
def M_unlike (m : MD) : Option (Int32) := M_unlike_L6 1000 m 0 0 0
def M_count (m : MD) (x1 : Int32) : Option (Int32) := if x1 = 0 then some (m.1 (ix 0))
    else if x1 = 1 then (M_place m).bind fun v60 => some v60
    else if x1 = 2 then (M_place m).bind fun v66 => (M_deep m v66).bind fun v69 => some v69
    else if x1 = 3 then (M_leaves m).bind fun v74 => some v74
    else if x1 = 4 then (M_height m 0).bind fun v80 => some v80
    else if x1 = 5 then some (m.1 (ix 3))
    else if x1 = 6 then some (m.1 (ix 4))
    else if x1 = 7 then some m.2.2.2.1
    else if x1 = 8 then some m.2.2.2.2.2.2.1
    else if x1 = 9 then (M_unlike m).bind fun v115 => some v115
    else some (-1)
def M_areLike_L29 : Nat → MD → Int32 → Int32 → Int32 → Int32 → Int32 → Option (Int32)
  | 0, _, _, _, _, _, _ => none
  | fu + 1, m, x1, x2, x3, x4, x5 => if x3 ≤ x5 then if x4 = 0 ∨ x4 = 1 then some x4 else none
    else if x4 = 0 then if x4 = 0 ∨ x4 = 1 then some x4 else none
    else (M_sign m (x1 + x5)).bind fun v45 => (M_sign m (x2 + x5)).bind fun v53 => if v45 = v53 then (M_deep m (x1 + x5)).bind fun v64 => (M_deep m x1).bind fun v69 => (M_deep m (x2 + x5)).bind fun v78 => (M_deep m x2).bind fun v83 => if (v64 - v69) = (v78 - v83) then M_areLike_L29 fu m x1 x2 x3 1 (x5 + 1)
    else M_areLike_L29 fu m x1 x2 x3 0 (x5 + 1)
    else M_areLike_L29 fu m x1 x2 x3 0 (x5 + 1)
def M_areLike (m : MD) (x1 : Int32) (x2 : Int32) : Option (Int32) := (M_end m x1).bind fun v2 => (M_end m x2).bind fun v10 => if (v10 - x2) = (v2 - x1) then M_areLike_L29 1000 m x1 x2 (v2 - x1) 1 0
    else M_areLike_L29 1000 m x1 x2 (v2 - x1) 0 0
def M_like_L9 : Nat → MD → Int32 → Int32 → Int32 → Option (Int32)
  | 0, _, _, _, _ => none
  | fu + 1, m, x1, x2, x3 => if (m.1 (ix 0)) ≤ x3 then some x2
    else (M_areLike m x1 x3).bind fun v23 => if v23 = 0 then M_like_L9 fu m x1 (x2 + 0) (x3 + 1)
    else M_like_L9 fu m x1 (x2 + 1) (x3 + 1)
def M_like (m : MD) : Option (Int32) := (M_place m).bind fun v1 => M_like_L9 1000 m v1 0 0
def M_meet_J52 (K : MD → Int32 → Int32 → Option (Int32)) (m : MD) (x3 : Int32) (x4 : Int32) (s0 : Int32) : Option (Int32) := (M_deep m x3).bind fun v56 => (M_deep m x4).bind fun v62 => if v56 < v62 then (M_above m x4).bind fun v76 => K m s0 v76
    else K m s0 x4
def M_meet_L23 : Nat → MD → Int32 → Int32 → Option (Int32)
  | 0, _, _, _ => none
  | fu + 1, m, x3, x4 => if x3 = x4 then some x3
    else (M_deep m x3).bind fun v31 => (M_deep m x4).bind fun v37 => if v31 < v37 then M_meet_J52 (fun q0 q1 q2 => M_meet_L23 fu q0 q1 q2) m x3 x4 x3
    else (M_above m x3).bind fun v45 => M_meet_J52 (fun q0 q1 q2 => M_meet_L23 fu q0 q1 q2) m x3 x4 v45
def M_meet (m : MD) (x1 : Int32) (x2 : Int32) : Option (Int32) := (M_isNode m x1).bind fun v2 => if v2 = 0 then some (-1)
    else (M_isNode m x2).bind fun v10 => if v10 = 0 then some (-1)
    else M_meet_L23 1000 m x1 x2
def M_find_L19 : Nat → MD → Int32 → Int32 → Int32 → Option (Int32)
  | 0, _, _, _, _ => none
  | fu + 1, m, x1, x2, x3 => if (m.1 (ix 0)) < x3 then some (-4)
    else if (m.1 (ix 0)) = 0 then none else (M_sign m (irem (x2 + x3) (m.1 (ix 0)))).bind fun v44 => if v44 = x1 then some (irem (x2 + x3) (m.1 (ix 0)))
    else M_find_L19 fu m x1 x2 (x3 + 1)
def M_find (m : MD) (x1 : Int32) : Option (Int32) := (M_in x1 0 25).bind fun v4 => if v4 = 0 then some (-1)
    else (M_place m).bind fun v13 => M_find_L19 1000 m x1 v13 1
def M_undo_L22 : Nat → MD → Int32 → Option (Int32 × MD)
  | 0, _, _ => none
  | fu + 1, m, x1 => if 218 ≤ x1 then some (m.2.2.2.1, m)
    else if ((218 * m.2.2.2.1) + x1) < 0 ∨ 872 ≤ ix ((218 * m.2.2.2.1) + x1) then none else if x1 < 0 ∨ 218 ≤ ix x1 then none else (some (upd m.1 (ix x1) (m.2.2.1 (ix ((218 * m.2.2.2.1) + x1))))).bind fun u49 => M_undo_L22 fu (u49, m.2.1, m.2.2.1, m.2.2.2.1, m.2.2.2.2.1, m.2.2.2.2.2.1, m.2.2.2.2.2.2.1, m.2.2.2.2.2.2.2.1, m.2.2.2.2.2.2.2.2.1, m.2.2.2.2.2.2.2.2.2.1, m.2.2.2.2.2.2.2.2.2.2.1, m.2.2.2.2.2.2.2.2.2.2.2) (x1 + 1)
def M_undo (m : MD) : Option (Int32 × MD) := if m.2.2.2.1 = 0 then some ((-2), m)
    else M_undo_L22 1000 (m.1, m.2.1, m.2.2.1, (m.2.2.2.1 - 1), m.2.2.2.2.1, m.2.2.2.2.2.1, m.2.2.2.2.2.2.1, m.2.2.2.2.2.2.2.1, m.2.2.2.2.2.2.2.2.1, m.2.2.2.2.2.2.2.2.2.1, m.2.2.2.2.2.2.2.2.2.2.1, m.2.2.2.2.2.2.2.2.2.2.2) 0
def M_type (m : MD) (x1 : Int32) : Option (Int32 × MD) := (M_in x1 32 126).bind fun v5 => if v5 = 0 then some ((-1), m)
    else if m.2.2.2.2.2.2.1 = 120 then some ((-3), m)
    else if m.2.2.2.2.2.2.1 < 0 ∨ 120 ≤ ix m.2.2.2.2.2.2.1 then none else (some (upd m.2.2.2.2.2.1 (ix m.2.2.2.2.2.2.1) x1)).bind fun u34 => some ((m.2.2.2.2.2.2.1 + 1), (m.1, m.2.1, m.2.2.1, m.2.2.2.1, m.2.2.2.2.1, u34, (m.2.2.2.2.2.2.1 + 1), m.2.2.2.2.2.2.2.1, m.2.2.2.2.2.2.2.2.1, m.2.2.2.2.2.2.2.2.2.1, m.2.2.2.2.2.2.2.2.2.2.1, m.2.2.2.2.2.2.2.2.2.2.2))
def M_clearText (m : MD) : Option (Int32 × MD) := some (m.2.2.2.2.2.2.1, (m.1, m.2.1, m.2.2.1, m.2.2.2.1, m.2.2.2.2.1, m.2.2.2.2.2.1, 0, m.2.2.2.2.2.2.2.1, m.2.2.2.2.2.2.2.2.1, m.2.2.2.2.2.2.2.2.2.1, m.2.2.2.2.2.2.2.2.2.2.1, m.2.2.2.2.2.2.2.2.2.2.2))
def M_puts (m : MD) (x1 : Int32) : Option (MD) := if m.2.2.2.2.2.2.1 < 0 ∨ 120 ≤ ix m.2.2.2.2.2.2.1 then none else (some (upd m.2.2.2.2.2.1 (ix m.2.2.2.2.2.2.1) x1)).bind fun u9 => some (m.1, m.2.1, m.2.2.1, m.2.2.2.1, m.2.2.2.2.1, u9, (m.2.2.2.2.2.2.1 + 1), m.2.2.2.2.2.2.2.1, m.2.2.2.2.2.2.2.2.1, m.2.2.2.2.2.2.2.2.2.1, m.2.2.2.2.2.2.2.2.2.2.1, m.2.2.2.2.2.2.2.2.2.2.2)
def M_write_L59 : Nat → MD → Int32 → Int32 → Int32 → Option (MD × Int32 × Int32)
  | 0, _, _, _, _ => none
  | fu + 1, m, x1, x2, x3 => if x3 ≤ x2 then some (m, x1, x2)
    else (M_puts m 41).bind fun v67 => M_write_L59 fu v67 x1 x2 (x3 + (-1))
def M_write_L7 : Nat → MD → Int32 → Option (Int32 × MD)
  | 0, _, _ => none
  | fu + 1, m, x1 => if (m.1 (ix 0)) ≤ x1 then some (m.2.2.2.2.2.2.1, m)
    else (M_sign m x1).bind fun v22 => (M_puts m (97 + v22)).bind fun v26 => if (v26.1 (ix 0)) ≤ (x1 + 1) then (M_deep v26 x1).bind fun v55 => (M_write_L59 1000 v26 x1 0 v55).bind fun e59 => (M_deep e59.1 e59.2.1).bind fun v79 => if e59.2.2 ≤ v79 then if (e59.1.1 (ix 0)) ≤ (e59.2.1 + 1) then M_write_L7 fu e59.1 (e59.2.1 + 1)
    else (M_puts e59.1 44).bind fun v109 => M_write_L7 fu v109 (e59.2.1 + 1)
    else (M_puts e59.1 40).bind fun v88 => M_write_L7 fu v88 (e59.2.1 + 1)
    else (M_deep v26 (x1 + 1)).bind fun v45 => (M_deep v26 x1).bind fun v55 => (M_write_L59 1000 v26 x1 v45 v55).bind fun e59 => (M_deep e59.1 e59.2.1).bind fun v79 => if e59.2.2 ≤ v79 then if (e59.1.1 (ix 0)) ≤ (e59.2.1 + 1) then M_write_L7 fu e59.1 (e59.2.1 + 1)
    else (M_puts e59.1 44).bind fun v109 => M_write_L7 fu v109 (e59.2.1 + 1)
    else (M_puts e59.1 40).bind fun v88 => M_write_L7 fu v88 (e59.2.1 + 1)
def M_write (m : MD) : Option (Int32 × MD) := M_write_L7 1000 (m.1, m.2.1, m.2.2.1, m.2.2.2.1, m.2.2.2.2.1, m.2.2.2.2.2.1, 0, m.2.2.2.2.2.2.2.1, m.2.2.2.2.2.2.2.2.1, m.2.2.2.2.2.2.2.2.2.1, m.2.2.2.2.2.2.2.2.2.2.1, m.2.2.2.2.2.2.2.2.2.2.2) 0
def M_breaks (m : MD) (x1 : Int32) (x2 : Int32) : Option (Int32 × MD) := some (0, (m.1, m.2.1, m.2.2.1, m.2.2.2.1, m.2.2.2.2.1, m.2.2.2.2.2.1, m.2.2.2.2.2.2.1, x1, x2, m.2.2.2.2.2.2.2.2.2.1, m.2.2.2.2.2.2.2.2.2.2.1, m.2.2.2.2.2.2.2.2.2.2.2))
def M_isTree_J257 (m : MD) : Option (Int32 × MD) := (M_breaks m m.2.2.2.2.2.2.1 1).bind fun v263 => if v263.1 = 0 then some (0, v263.2)
    else some (1, v263.2)
def M_isTree_J219 (K : MD → Int32 → Int32 → Int32 → Option (Int32 × MD)) (m : MD) (x1 : Int32) (x2 : Int32) (x3 : Int32) (x4 : Int32) : Option (Int32 × MD) := if x4 = 41 then if x1 ≤ 0 then (M_breaks m x3 1).bind fun v239 => if v239.1 = 0 ∨ v239.1 = 1 then some (v239.1, v239.2) else none
    else K m (x1 + (-1)) x2 (x3 + 1)
    else (M_breaks m x3 1).bind fun v239 => if v239.1 = 0 ∨ v239.1 = 1 then some (v239.1, v239.2) else none
def M_isTree_J175 (K : MD → Int32 → Int32 → Int32 → Option (Int32 × MD)) (m : MD) (x1 : Int32) (x2 : Int32) (x3 : Int32) (x4 : Int32) : Option (Int32 × MD) := if x4 = 44 then if x1 ≤ 0 then M_isTree_J219 K m x1 x2 x3 x4
    else if x1 < 0 ∨ 9 ≤ ix x1 then none else if (m.2.2.2.2.2.2.2.2.2.2.2 (ix x1)) = 6 then (M_breaks m x3 4).bind fun v200 => if v200.1 = 0 ∨ v200.1 = 1 then some (v200.1, v200.2) else none
    else if x1 < 0 ∨ 9 ≤ ix x1 then none else if x1 < 0 ∨ 9 ≤ ix x1 then none else (some (upd m.2.2.2.2.2.2.2.2.2.2.2 (ix x1) ((m.2.2.2.2.2.2.2.2.2.2.2 (ix x1)) + 1))).bind fun u213 => K (m.1, m.2.1, m.2.2.1, m.2.2.2.1, m.2.2.2.2.1, m.2.2.2.2.2.1, m.2.2.2.2.2.2.1, m.2.2.2.2.2.2.2.1, m.2.2.2.2.2.2.2.2.1, m.2.2.2.2.2.2.2.2.2.1, m.2.2.2.2.2.2.2.2.2.2.1, u213) x1 1 (x3 + 1)
    else M_isTree_J219 K m x1 x2 x3 x4
def M_isTree_L18 : Nat → MD → Int32 → Int32 → Int32 → Option (Int32 × MD)
  | 0, _, _, _, _ => none
  | fu + 1, m, x1, x2, x3 => if m.2.2.2.2.2.2.1 ≤ x3 then if x2 = 0 then if x1 = 0 then some (1, m)
    else M_isTree_J257 m
    else M_isTree_J257 m
    else if x3 < 0 ∨ 120 ≤ ix x3 then none else if x2 = 0 then if (m.2.2.2.2.2.1 (ix x3)) = 40 then if x3 ≤ 0 then M_isTree_J175 (fun q0 q1 q2 q3 => M_isTree_L18 fu q0 q1 q2 q3) m x1 x2 x3 (m.2.2.2.2.2.1 (ix x3))
    else if (x3 - 1) < 0 ∨ 120 ≤ ix (x3 - 1) then none else (M_in (m.2.2.2.2.2.1 (ix (x3 - 1))) 97 122).bind fun v141 => if v141 = 0 then M_isTree_J175 (fun q0 q1 q2 q3 => M_isTree_L18 fu q0 q1 q2 q3) m x1 x2 x3 (m.2.2.2.2.2.1 (ix x3))
    else if x1 = 7 then (M_breaks m x3 3).bind fun v156 => if v156.1 = 0 ∨ v156.1 = 1 then some (v156.1, v156.2) else none
    else if (x1 + 1) < 0 ∨ 9 ≤ ix (x1 + 1) then none else (some (upd m.2.2.2.2.2.2.2.2.2.2.2 (ix (x1 + 1)) 1)).bind fun u169 => M_isTree_L18 fu (m.1, m.2.1, m.2.2.1, m.2.2.2.1, m.2.2.2.2.1, m.2.2.2.2.2.1, m.2.2.2.2.2.2.1, m.2.2.2.2.2.2.2.1, m.2.2.2.2.2.2.2.2.1, m.2.2.2.2.2.2.2.2.2.1, m.2.2.2.2.2.2.2.2.2.2.1, u169) (x1 + 1) 1 (x3 + 1)
    else M_isTree_J175 (fun q0 q1 q2 q3 => M_isTree_L18 fu q0 q1 q2 q3) m x1 x2 x3 (m.2.2.2.2.2.1 (ix x3))
    else (M_in (m.2.2.2.2.2.1 (ix x3)) 97 122).bind fun v44 => if v44 = 0 then (M_breaks m x3 1).bind fun v53 => if v53.1 = 0 ∨ v53.1 = 1 then some (v53.1, v53.2) else none
    else if m.2.2.2.2.2.2.2.2.2.1 = 40 then (M_breaks m x3 2).bind fun v69 => if v69.1 = 0 ∨ v69.1 = 1 then some (v69.1, v69.2) else none
    else if (2 * m.2.2.2.2.2.2.2.2.2.1) < 0 ∨ 80 ≤ ix (2 * m.2.2.2.2.2.2.2.2.2.1) then none else (some (upd m.2.2.2.2.2.2.2.2.2.2.1 (ix (2 * m.2.2.2.2.2.2.2.2.2.1)) ((m.2.2.2.2.2.1 (ix x3)) - 97))).bind fun u88 => if ((2 * m.2.2.2.2.2.2.2.2.2.1) + 1) < 0 ∨ 80 ≤ ix ((2 * m.2.2.2.2.2.2.2.2.2.1) + 1) then none else (some (upd u88 (ix ((2 * m.2.2.2.2.2.2.2.2.2.1) + 1)) x1)).bind fun u102 => M_isTree_L18 fu (m.1, m.2.1, m.2.2.1, m.2.2.2.1, m.2.2.2.2.1, m.2.2.2.2.2.1, m.2.2.2.2.2.2.1, m.2.2.2.2.2.2.2.1, m.2.2.2.2.2.2.2.2.1, (m.2.2.2.2.2.2.2.2.2.1 + 1), u102, m.2.2.2.2.2.2.2.2.2.2.2) x1 0 (x3 + 1)
def M_isTree (m : MD) : Option (Int32 × MD) := (some (upd m.2.2.2.2.2.2.2.2.2.2.2 (ix 0) 1)).bind fun u15 => M_isTree_L18 1000 (m.1, m.2.1, m.2.2.1, m.2.2.2.1, m.2.2.2.2.1, m.2.2.2.2.2.1, m.2.2.2.2.2.2.1, m.2.2.2.2.2.2.2.1, m.2.2.2.2.2.2.2.2.1, 0, m.2.2.2.2.2.2.2.2.2.2.1, u15) 0 1 0
def M_fault (m : MD) (x1 : Int32) : Option (Int32 × MD) := (M_in x1 0 1).bind fun v3 => if v3 = 0 then some ((-1), m)
    else (M_isTree m).bind fun v12 => if v12.1 = 0 then if x1 = 0 then some (v12.2.2.2.2.2.2.2.2.1, v12.2)
    else some (v12.2.2.2.2.2.2.2.2.2.1, v12.2)
    else some ((-4), v12.2)
def M_read_L83 : Nat → MD → Int32 → Option (Int32 × MD)
  | 0, _, _ => none
  | fu + 1, m, x1 => if 4 ≤ x1 then (M_acted m m.2.2.2.2.2.2.2.2.2.1).bind fun v108 => some (v108.1, v108.2)
    else if (5 + x1) < 0 ∨ 218 ≤ ix (5 + x1) then none else (some (upd m.1 (ix (5 + x1)) (-1))).bind fun u96 => M_read_L83 fu (u96, m.2.1, m.2.2.1, m.2.2.2.1, m.2.2.2.2.1, m.2.2.2.2.2.1, m.2.2.2.2.2.2.1, m.2.2.2.2.2.2.2.1, m.2.2.2.2.2.2.2.2.1, m.2.2.2.2.2.2.2.2.2.1, m.2.2.2.2.2.2.2.2.2.2.1, m.2.2.2.2.2.2.2.2.2.2.2) (x1 + 1)
def M_read_L26 : Nat → MD → Int32 → Option (Int32 × MD)
  | 0, _, _ => none
  | fu + 1, m, x1 => if m.2.2.2.2.2.2.2.2.2.1 ≤ x1 then (M_own m 0).bind fun v70 => (some (upd m.1 (ix 2) v70)).bind fun u73 => (some (upd u73 (ix 3) 0)).bind fun u80 => M_read_L83 1000 (u80, m.2.1, m.2.2.1, m.2.2.2.1, m.2.2.2.2.1, m.2.2.2.2.2.1, m.2.2.2.2.2.2.1, m.2.2.2.2.2.2.2.1, m.2.2.2.2.2.2.2.2.1, m.2.2.2.2.2.2.2.2.2.1, m.2.2.2.2.2.2.2.2.2.2.1, m.2.2.2.2.2.2.2.2.2.2.2) 0
    else if (2 * x1) < 0 ∨ 80 ≤ ix (2 * x1) then none else if ((2 * x1) + 1) < 0 ∨ 80 ≤ ix ((2 * x1) + 1) then none else (M_lays m x1 (m.2.2.2.2.2.2.2.2.2.2.1 (ix (2 * x1))) (m.2.2.2.2.2.2.2.2.2.2.1 (ix ((2 * x1) + 1)))).bind fun v54 => M_read_L26 fu v54 (x1 + 1)
def M_read (m : MD) : Option (Int32 × MD) := (M_begins m).bind fun v1 => (M_isTree v1).bind fun v5 => if v5.1 = 0 then some ((-2), v5.2)
    else (some (upd v5.2.1 (ix 0) v5.2.2.2.2.2.2.2.2.2.2.1)).bind fun u23 => M_read_L26 1000 (u23, v5.2.2.1, v5.2.2.2.1, v5.2.2.2.2.1, v5.2.2.2.2.2.1, v5.2.2.2.2.2.2.1, v5.2.2.2.2.2.2.2.1, v5.2.2.2.2.2.2.2.2.1, v5.2.2.2.2.2.2.2.2.2.1, v5.2.2.2.2.2.2.2.2.2.2.1, v5.2.2.2.2.2.2.2.2.2.2.2.1, v5.2.2.2.2.2.2.2.2.2.2.2.2) 0
