/-! MY KIT: a walk's goal with its heap, its locals and its fixed things hidden; worlds as lists of chunks -/
/-- the fixed things of a walk: program, launch, env, room, start, method id, arguments, frames below, method, code -/
abbrev kT : Type := Program × Launch × Env × Room × State × MethodId × Array Value × List Frame × Method × Code
abbrev kS (κ : kT) : State := κ.2.2.2.2.1
abbrev kR (κ : kT) : Room := κ.2.2.2.1
abbrev kId (κ : kT) : MethodId := κ.2.2.2.2.2.1
abbrev kAr (κ : kT) : Array Value := κ.2.2.2.2.2.2.1
abbrev kBe (κ : kT) : List Frame := κ.2.2.2.2.2.2.2.1
abbrev kMe (κ : kT) : Method := κ.2.2.2.2.2.2.2.2.1
abbrev kCo (κ : kT) : Code := κ.2.2.2.2.2.2.2.2.2
def kW (κ : kT) (H : Heap) (locs : List Loc) (k n : Nat) (Q : State → Prop) (pc : Nat) (ls : Array Slot) (st : List Value) : Prop :=
  W κ.1 κ.2.1 κ.2.2.1 (kR κ) (kS κ) (kId κ) (kAr κ) (kBe κ) (kMe κ) (kCo κ) H locs k n Q (F0 (kId κ) pc ls st)
/-- the words of nest mates: they are carried in the start condition -/
def kNL : List Cond := [.methodLinkNest RX3 11 yX4_init RX5, .fieldLinkNest RX5 43 RX3 "tree" "LTreePlaces$Tree;" RX5, .fieldLinkNest RX5 136 RX3 "clip" "LTreePlaces$Tree;" RX5, .fieldLinkNest RX5 168 RX3 "walks" "LTreePlaces$Row;" RX5, .fieldLinkNest RX5 47 RX3 "place" "I" RX5, .methodLinkNest RX5 34 yX2_init RX5, .methodLinkNest RX2 11 yX4_init RX5, .fieldLinkNest RX5 202 RX2 "tree" "LTreePlaces$Tree;" RX5, .fieldLinkNest RX5 199 RX2 "faultPlace" "I" RX5, .fieldLinkNest RX5 196 RX2 "reason" "I" RX5, .methodLinkNest RX2 65 yX5_isLetter RX5]
def kNW (U : State) : Prop := (∀ w ∈ kNL, va_Nw w U) ∧ va_AO RX3 U
theorem kNW.warm {s U : State} (hW : s.WarmedH U.vm) (h : kNW s) : kNW U := by
  refine ⟨fun w hw => ?_, va_AO.moved hW.alike h.2⟩
  have h1 := h.1 w hw
  simp only [kNL, List.mem_cons, List.not_mem_nil, or_false] at hw
  rcases hw with rfl | rfl | rfl | rfl | rfl | rfl | rfl | rfl | rfl | rfl | rfl
  all_goals first | exact va_Nw.warmM hW h1 | exact va_Nw.warmF hW h1
theorem kNW.same {u U : State} (h : u.vm = U.vm) (hZ : kNW u) : kNW U := by
  refine ⟨fun w hw => ?_, ?_⟩
  · have h1 := hZ.1 w hw
    simp only [kNL, List.mem_cons, List.not_mem_nil, or_false] at hw
    rcases hw with rfl | rfl | rfl | rfl | rfl | rfl | rfl | rfl | rfl | rfl | rfl
    all_goals exact va_Nw.same rfl h h1
  · exact va_AO.moved (u := u) (by rw [h]; exact Vm.Alike.refl _) hZ.2
/-- what is known all through a method -/
def kC (κ : kT) (D : va_G) (tys : List (ClassId × FieldType)) (A : Nat → Prop) (cc : ByteArray) (nL : Nat) (own : String) (rm : Room) (ret : Option FieldType) (nm : String) : Prop :=
  κ.1.tables.exec = Jvm.exec ∧ (kCo κ).code = cc ∧ (kCo κ).maxLocals = nL ∧ (kS κ).vm.findClass own = some (kId κ).cls ∧ (∀ w ∈ TB, w.before (kAr κ) (kS κ) = true) ∧ va_K D vwCl tys (kS κ) ∧ (∀ q, (kS κ).heap.size ≤ q → A q) ∧ (kMe κ).sig.returnType = ret ∧ (kMe κ).locks = false ∧ kNW (kS κ) ∧ kR κ = rm ∧ (kMe κ).name = nm
def kG (κ : kT) (D : va_G) (A : Nat → Prop) (nL k n : Nat) (Q : State → Prop) (cs : List va_W) (lv : List (Nat × Value)) (pc : Nat) (st : List Value) : Prop :=
  ∀ (H : Heap) (locs : List Loc) (ls : Array Slot), va_P D vwCl cs.flatten H → va_D A cs.flatten → va_S A (kS κ).heap H locs → lv_has ls nL lv → kW κ H locs k n Q pc ls st
/-- a contract: start and end -/
def kP (D : va_G) (tys : List (ClassId × FieldType)) (sz : Nat) (ws : va_W) (U : State) : Prop := U.heap.size = sz ∧ va_P D vwCl ws U.heap ∧ va_K D vwCl tys U ∧ va_D (fun _ => True) ws ∧ kNW U
def kQ (D : va_G) (A : Nat → Prop) (R : Option Value → List va_W → Prop) : Array Value → State → Outcome → State → Prop := fun _ st oc t => (∃ v cs, oc = .returned v ∧ R v cs ∧ va_P D vwCl cs.flatten t.heap ∧ va_D A cs.flatten) ∧ va_F A st t
def kM (l : Launch) (D : va_G) (tys : List (ClassId × FieldType)) (y : MethodName) (Ts : List Cond) (rm : Room) (As : List Value) (cs : List va_W) (R : Option Value → List va_W → Prop) : Prop :=
  ∀ sz, Met l y Ts rm (va_Pc As (kP D tys sz cs.flatten)) (kQ D (va_A cs.flatten sz) R) rm.cells rm.slots (va_A cs.flatten sz)
def kEq (v0 : Option Value) (cs0 : List va_W) : Option Value → List va_W → Prop := fun v cs => v = v0 ∧ cs = cs0
/-! worlds by members -/
theorem kP_mem {D : va_G} {cl : List vw_C} {ws : va_W} {H : Heap} : va_P D cl ws H ↔ ∀ q ∈ ws, va_at D cl q H := by
  constructor
  · intro h q hq
    obtain ⟨i, hi⟩ := List.getElem?_of_mem hq
    exact h i q hi
  · intro h k q hk
    exact h q (List.mem_of_getElem? hk)
theorem kD_mem {A : Nat → Prop} {ws : va_W} : va_D A ws ↔ (ws.map (fun q => q.1)).Nodup ∧ ∀ q ∈ ws, A q.1 := by
  constructor
  · intro h
    refine ⟨?_, fun q hq => ?_⟩
    · refine List.pairwise_iff_getElem.mpr ?_
      intro i j hi hj hij he
      rw [List.getElem_map, List.getElem_map] at he
      rw [List.length_map] at hi hj
      have := h.1 i j _ _ (List.getElem?_eq_getElem hi) (List.getElem?_eq_getElem hj) he
      omega
    · obtain ⟨i, hi⟩ := List.getElem?_of_mem hq
      exact h.2 i q hi
  · intro h
    refine ⟨fun i j p q hi hj hpq => ?_, fun k q hk => h.2 q (List.mem_of_getElem? hk)⟩
    have hn := List.pairwise_iff_getElem.mp h.1
    obtain ⟨hil, hi⟩ := List.getElem?_eq_some_iff.mp hi
    obtain ⟨hjl, hj⟩ := List.getElem?_eq_some_iff.mp hj
    have hil' : i < (ws.map (fun q => q.1)).length := by rw [List.length_map]; exact hil
    have hjl' : j < (ws.map (fun q => q.1)).length := by rw [List.length_map]; exact hjl
    have ei : (ws.map (fun q => q.1))[i] = p.1 := by rw [List.getElem_map, hi]
    have ej : (ws.map (fun q => q.1))[j] = q.1 := by rw [List.getElem_map, hj]
    rcases Nat.lt_trichotomy i j with z | z | z
    · exact absurd (ei.trans (hpq.trans ej.symm)) (hn i j hil' hjl' z)
    · exact z
    · exact absurd (ej.trans (hpq.symm.trans ei.symm)) (hn j i hjl' hil' z)
theorem kP_perm {D : va_G} {cl : List vw_C} {ws ws' : va_W} {H : Heap} (hp : ws.Perm ws') (h : va_P D cl ws H) : va_P D cl ws' H := kP_mem.mpr fun q hq => kP_mem.mp h q (hp.mem_iff.mpr hq)
theorem kD_perm {A : Nat → Prop} {ws ws' : va_W} (hp : ws.Perm ws') (h : va_D A ws) : va_D A ws' := by
  obtain ⟨h1, h2⟩ := kD_mem.mp h
  exact kD_mem.mpr ⟨(hp.map _).nodup_iff.mp h1, fun q hq => h2 q (hp.mem_iff.mpr hq)⟩
theorem k_flat {cs cs' : List va_W} (h : cs.Perm cs') : cs.flatten.Perm cs'.flatten := by
  induction h with
  | nil => exact List.Perm.refl _
  | cons a _ ih => rw [List.flatten_cons, List.flatten_cons]; exact ih.append_left a
  | swap a b l => rw [List.flatten_cons, List.flatten_cons, List.flatten_cons, List.flatten_cons, ← List.append_assoc, ← List.append_assoc]; exact (List.perm_append_comm).append_right _
  | trans _ _ i1 i2 => exact i1.trans i2
theorem k_range {α : Type} (l : List α) : l.map some = (List.range l.length).map (fun i => l[i]?) := by
  apply List.ext_getElem?
  intro i
  by_cases hi : i < l.length
  · simp [hi]
  · simp [hi]
theorem k_split {cs sel rest : List va_W} {N : Nat} (is js : List Nat) (hN : cs.length = N) (hp : (is ++ js).isPerm (List.range N) = true) (h1 : is.map (fun i => cs[i]?) = sel.map some) (h2 : js.map (fun i => cs[i]?) = rest.map some) : cs.Perm (sel ++ rest) := by
  subst hN
  have hp := List.isPerm_iff.mp hp
  have a : (cs.map some).Perm ((sel ++ rest).map some) := by
    rw [k_range cs, List.map_append, ← h1, ← h2, ← List.map_append]
    exact (hp.map _).symm
  have b := a.filterMap id
  rwa [List.filterMap_map, List.filterMap_map, show (id ∘ some : va_W → Option va_W) = some from rfl, List.filterMap_some, List.filterMap_some] at b
/-- the frame rule, on chunks -/
theorem k_join {A0 : Nat → Prop} {D : va_G} {cl : List vw_C} {sel rest sel' : List va_W} {H H1 : Heap} (hP : va_P D cl (sel ++ rest).flatten H) (hD : va_D A0 (sel ++ rest).flatten)
    (hk : ∀ q : Nat, q < H.size → ¬ va_A sel.flatten H.size q → H1[q]? = H[q]?) (hF : ∀ q, va_A sel.flatten H.size q → A0 q) (hP1 : va_P D cl sel'.flatten H1) (hD1 : va_D (va_A sel.flatten H.size) sel'.flatten) : va_P D cl (sel' ++ rest).flatten H1 ∧ va_D A0 (sel' ++ rest).flatten := by
  rw [List.flatten_append] at hP hD ⊢
  have hP := kP_mem.mp hP
  obtain ⟨hn, hA⟩ := kD_mem.mp hD
  have hP1 := kP_mem.mp hP1
  obtain ⟨hn1, hA1⟩ := kD_mem.mp hD1
  have ap : ∀ q ∈ rest.flatten, q.1 < H.size ∧ ¬ va_A sel.flatten H.size q.1 := by
    intro q hq
    have hl := (hP q (List.mem_append_right _ hq)).lt
    refine ⟨hl, fun h => ?_⟩
    rcases h with ⟨k, e, h⟩ | h
    · rw [List.map_append, List.nodup_append] at hn
      exact hn.2.2 q.1 (List.mem_map.mpr ⟨_, List.mem_of_getElem? h, rfl⟩) q.1 (List.mem_map.mpr ⟨_, hq, rfl⟩) rfl
    · omega
  refine ⟨kP_mem.mpr fun q hq => ?_, kD_mem.mpr ⟨?_, fun q hq => ?_⟩⟩
  · rcases List.mem_append.mp hq with h | h
    · exact hP1 q h
    · exact (hP q (List.mem_append_right _ h)).kept (hk q.1 (ap q h).1 (ap q h).2)
  · rw [List.map_append, List.nodup_append] at hn ⊢
    refine ⟨hn1, hn.2.1, fun a ha b hb hab => ?_⟩
    obtain ⟨x, hx, rfl⟩ := List.mem_map.mp ha
    obtain ⟨z, hz, rfl⟩ := List.mem_map.mp hb
    exact (ap z hz).2 (by rw [← hab]; exact hA1 x hx)
  · rcases List.mem_append.mp hq with h | h
    · exact hF _ (hA1 q h)
    · exact hA q (List.mem_append_right _ h)
/-- a cell that stands alone in its chunk -/
theorem k_at {cs : List va_W} {j : Nat} {q : Nat × va_E} (h : cs[j]? = some [q]) : ∃ q0 : Nat, cs.flatten[q0]? = some q ∧ ∀ q', cs.flatten.set q0 q' = (cs.set j [q']).flatten := by
  induction cs generalizing j with
  | nil => simp at h
  | cons c cs ih =>
    cases j with
    | zero =>
      rw [List.getElem?_cons_zero] at h
      cases h
      exact ⟨0, rfl, fun q' => rfl⟩
    | succ j =>
      rw [List.getElem?_cons_succ] at h
      obtain ⟨q0, h1, h2⟩ := ih h
      refine ⟨c.length + q0, ?_, fun q' => ?_⟩
      · rw [List.flatten_cons, List.getElem?_append_right (by omega), Nat.add_sub_cancel_left]
        exact h1
      · have e := List.set_append_right (s := c) (t := cs.flatten) (c.length + q0) q' (by omega)
        rw [Nat.add_sub_cancel_left, h2] at e
        exact e
theorem k_in {cs : List va_W} {j : Nat} {q : Nat × va_E} {w : va_W} (h : cs[j]? = some (q :: w)) : ∃ q0 : Nat, cs.flatten[q0]? = some q := List.getElem?_of_mem (List.mem_flatten.mpr ⟨_, List.mem_of_getElem? h, List.mem_cons_self⟩)
section Rows
variable {κ : kT} {D : va_G} {tys : List (ClassId × FieldType)} {A : Nat → Prop} {cc : ByteArray} {nL : Nat} {own : String} {rm : Room} {ret : Option FieldType} {nm : String} {k n : Nat} {Q : State → Prop} {cs : List va_W} {lv : List (Nat × Value)} {pc : Nat} {st : List Value}
theorem g_iload_n (C : kC κ D tys A cc nL own rm ret nm) (j : Nat) {i : Fin 4} {x : Int32} (hd : decode cc pc = .ok (.iload_n i, 1)) (hj : lv[j]? = some ((i : Nat), .int x)) (kk : kG κ D A nL k n Q cs lv (pc + 1) (.int x :: st)) : kG κ D A nL k n Q cs lv pc st :=
  fun H locs ls hP hD hS hl => lv_iload_n C.1 C.2.1 hd rfl (lv_at hl j hj) (kk H locs ls hP hD hS hl)
theorem g_iload (C : kC κ D tys A cc nL own rm ret nm) (j : Nat) {i : Nat} {x : Int32} (hd : decode cc pc = .ok (.iload i, 2)) (hj : lv[j]? = some (i, .int x)) (kk : kG κ D A nL k n Q cs lv (pc + 2) (.int x :: st)) : kG κ D A nL k n Q cs lv pc st :=
  fun H locs ls hP hD hS hl => lv_iload C.1 C.2.1 hd (lv_at hl j hj) (kk H locs ls hP hD hS hl)
theorem g_aload_n (C : kC κ D tys A cc nL own rm ret nm) (j : Nat) {i : Fin 4} {x : Nat} (hd : decode cc pc = .ok (.aload_n i, 1)) (hj : lv[j]? = some ((i : Nat), .ref x)) (kk : kG κ D A nL k n Q cs lv (pc + 1) (.ref x :: st)) : kG κ D A nL k n Q cs lv pc st :=
  fun H locs ls hP hD hS hl => lv_aload_n C.1 C.2.1 hd rfl (lv_at hl j hj) (kk H locs ls hP hD hS hl)
theorem g_istore_n (C : kC κ D tys A cc nL own rm ret nm) {i : Fin 4} {x : Int32} (lv' : List (Nat × Value)) (hd : decode cc pc = .ok (.istore_n i, 1)) (hn : (i : Nat) < nL) (hl' : ((i : Nat), Value.int x) :: lv.filter (fun q => !(q.1 == (i : Nat)) && !(q.1 + 1 == (i : Nat) && q.2.category == 2)) = lv') (kk : kG κ D A nL k n Q cs lv' (pc + 1) st) : kG κ D A nL k n Q cs lv pc (.int x :: st) :=
  fun H locs ls hP hD hS hl => lv_istore_n C.1 C.2.1 hd rfl hl hn hl' (fun ls hl => kk H locs ls hP hD hS hl)
theorem g_istore (C : kC κ D tys A cc nL own rm ret nm) {i : Nat} {x : Int32} (lv' : List (Nat × Value)) (hd : decode cc pc = .ok (.istore i, 2)) (hn : i < nL) (hl' : (i, Value.int x) :: lv.filter (fun q => !(q.1 == i) && !(q.1 + 1 == i && q.2.category == 2)) = lv') (kk : kG κ D A nL k n Q cs lv' (pc + 2) st) : kG κ D A nL k n Q cs lv pc (.int x :: st) :=
  fun H locs ls hP hD hS hl => lv_istore C.1 C.2.1 hd hl hn hl' (fun ls hl => kk H locs ls hP hD hS hl)
theorem g_astore_n (C : kC κ D tys A cc nL own rm ret nm) {i : Fin 4} {x : Nat} (lv' : List (Nat × Value)) (hd : decode cc pc = .ok (.astore_n i, 1)) (hn : (i : Nat) < nL) (hl' : ((i : Nat), Value.ref x) :: lv.filter (fun q => !(q.1 == (i : Nat)) && !(q.1 + 1 == (i : Nat) && q.2.category == 2)) = lv') (kk : kG κ D A nL k n Q cs lv' (pc + 1) st) : kG κ D A nL k n Q cs lv pc (.ref x :: st) :=
  fun H locs ls hP hD hS hl => lv_astore_n C.1 C.2.1 hd rfl hl hn hl' (fun ls hl => kk H locs ls hP hD hS hl)
theorem g_iinc (C : kC κ D tys A cc nL own rm ret nm) (j : Nat) {i : Nat} {z : Int} {x : Int32} (v : Int32) (lv' : List (Nat × Value)) (hd : decode cc pc = .ok (.iinc i z, 3)) (hj : lv[j]? = some (i, .int x)) (hv : x + Int32.ofInt z = v) (hn : i < nL) (hl' : (i, Value.int v) :: lv.filter (fun q => !(q.1 == i) && !(q.1 + 1 == i && q.2.category == 2)) = lv') (kk : kG κ D A nL k n Q cs lv' (pc + 3) st) : kG κ D A nL k n Q cs lv pc st :=
  fun H locs ls hP hD hS hl => lv_iinc C.1 C.2.1 hd hl hj hv hn hl' (fun ls hl => kk H locs ls hP hD hS hl)
theorem g_iconst (C : kC κ D tys A cc nL own rm ret nm) (v : Int32) {z : Int} (hd : decode cc pc = .ok (.iconst z, 1)) (hv : Int32.ofInt z = v) (kk : kG κ D A nL k n Q cs lv (pc + 1) (.int v :: st)) : kG κ D A nL k n Q cs lv pc st :=
  fun H locs ls hP hD hS hl => lv_iconst C.1 C.2.1 hd hv (kk H locs ls hP hD hS hl)
theorem g_bipush (C : kC κ D tys A cc nL own rm ret nm) (v : Int32) {z : Int} (hd : decode cc pc = .ok (.bipush z, 2)) (hv : (Int8.ofInt z).toInt32 = v) (kk : kG κ D A nL k n Q cs lv (pc + 2) (.int v :: st)) : kG κ D A nL k n Q cs lv pc st :=
  fun H locs ls hP hD hS hl => lv_bipush C.1 C.2.1 hd hv (kk H locs ls hP hD hS hl)
theorem g_sipush (C : kC κ D tys A cc nL own rm ret nm) (v : Int32) {z : Int} (hd : decode cc pc = .ok (.sipush z, 3)) (hv : (Int16.ofInt z).toInt32 = v) (kk : kG κ D A nL k n Q cs lv (pc + 3) (.int v :: st)) : kG κ D A nL k n Q cs lv pc st :=
  fun H locs ls hP hD hS hl => lv_sipush C.1 C.2.1 hd hv (kk H locs ls hP hD hS hl)
theorem g_goto (C : kC κ D tys A cc nL own rm ret nm) (tgt : Nat) {off : Int} (hd : decode cc pc = .ok (.goto off, 3)) (ht : (pc : Int) + off = (tgt : Int)) (kk : kG κ D A nL k n Q cs lv tgt st) : kG κ D A nL k n Q cs lv pc st :=
  fun H locs ls hP hD hS hl => lv_goto C.1 C.2.1 hd ht (kk H locs ls hP hD hS hl)
theorem g_dup (C : kC κ D tys A cc nL own rm ret nm) {v : Value} (hd : decode cc pc = .ok (.dup, 1)) (hv : v.category = 1) (kk : kG κ D A nL k n Q cs lv (pc + 1) (v :: v :: st)) : kG κ D A nL k n Q cs lv pc (v :: st) :=
  fun H locs ls hP hD hS hl => lv_dup C.1 C.2.1 hd hv (kk H locs ls hP hD hS hl)
theorem g_dup2 (C : kC κ D tys A cc nL own rm ret nm) {v u : Value} (hd : decode cc pc = .ok (.dup2, 1)) (hv : v.category = 1) (hu : u.category = 1) (kk : kG κ D A nL k n Q cs lv (pc + 1) (v :: u :: v :: u :: st)) : kG κ D A nL k n Q cs lv pc (v :: u :: st) :=
  fun H locs ls hP hD hS hl => lv_dup2_11 C.1 C.2.1 hd hv hu (kk H locs ls hP hD hS hl)
theorem g_pop (C : kC κ D tys A cc nL own rm ret nm) {v : Value} (hd : decode cc pc = .ok (.pop, 1)) (hv : v.category = 1) (kk : kG κ D A nL k n Q cs lv (pc + 1) st) : kG κ D A nL k n Q cs lv pc (v :: st) :=
  fun H locs ls hP hD hS hl => lv_pop C.1 C.2.1 hd hv (kk H locs ls hP hD hS hl)
theorem g_ifnull (C : kC κ D tys A cc nL own rm ret nm) {x : Nat} {off : Int} (hd : decode cc pc = .ok (.ifnull off, 3)) (kk : kG κ D A nL k n Q cs lv (pc + 3) st) : kG κ D A nL k n Q cs lv pc (.ref x :: st) :=
  fun H locs ls hP hD hS hl => lv_ifnull C.1 C.2.1 hd (kk H locs ls hP hD hS hl)
theorem g_irem (C : kC κ D tys A cc nL own rm ret nm) {x y : Int32} (hd : decode cc pc = .ok (.irem, 1)) (hne : ¬ y = 0) (kk : kG κ D A nL k n Q cs lv (pc + 1) (.int (x - x / y * y) :: st)) : kG κ D A nL k n Q cs lv pc (.int y :: .int x :: st) :=
  fun H locs ls hP hD hS hl => lv_irem C.1 C.2.1 hd hne (kk H locs ls hP hD hS hl)
theorem g_iadd (C : kC κ D tys A cc nL own rm ret nm) {x y : Int32} (hd : decode cc pc = .ok (.iadd, 1)) (kk : kG κ D A nL k n Q cs lv (pc + 1) (.int (x + y) :: st)) : kG κ D A nL k n Q cs lv pc (.int y :: .int x :: st) :=
  fun H locs ls hP hD hS hl => lv_iadd C.1 C.2.1 hd (kk H locs ls hP hD hS hl)
theorem g_isub (C : kC κ D tys A cc nL own rm ret nm) {x y : Int32} (hd : decode cc pc = .ok (.isub, 1)) (kk : kG κ D A nL k n Q cs lv (pc + 1) (.int (x - y) :: st)) : kG κ D A nL k n Q cs lv pc (.int y :: .int x :: st) :=
  fun H locs ls hP hD hS hl => lv_isub C.1 C.2.1 hd (kk H locs ls hP hD hS hl)
theorem g_imul (C : kC κ D tys A cc nL own rm ret nm) {x y : Int32} (hd : decode cc pc = .ok (.imul, 1)) (kk : kG κ D A nL k n Q cs lv (pc + 1) (.int (x * y) :: st)) : kG κ D A nL k n Q cs lv pc (.int y :: .int x :: st) :=
  fun H locs ls hP hD hS hl => lv_imul C.1 C.2.1 hd (kk H locs ls hP hD hS hl)
theorem g_iand (C : kC κ D tys A cc nL own rm ret nm) {x y : Int32} (hd : decode cc pc = .ok (.iand, 1)) (kk : kG κ D A nL k n Q cs lv (pc + 1) (.int (x &&& y) :: st)) : kG κ D A nL k n Q cs lv pc (.int y :: .int x :: st) :=
  fun H locs ls hP hD hS hl => lv_iand C.1 C.2.1 hd (kk H locs ls hP hD hS hl)
theorem g_ior (C : kC κ D tys A cc nL own rm ret nm) {x y : Int32} (hd : decode cc pc = .ok (.ior, 1)) (kk : kG κ D A nL k n Q cs lv (pc + 1) (.int (x ||| y) :: st)) : kG κ D A nL k n Q cs lv pc (.int y :: .int x :: st) :=
  fun H locs ls hP hD hS hl => lv_ior C.1 C.2.1 hd (kk H locs ls hP hD hS hl)
theorem g_ishl (C : kC κ D tys A cc nL own rm ret nm) {x y : Int32} (hd : decode cc pc = .ok (.ishl, 1)) (kk : kG κ D A nL k n Q cs lv (pc + 1) (.int (x <<< (y &&& 31)) :: st)) : kG κ D A nL k n Q cs lv pc (.int y :: .int x :: st) :=
  fun H locs ls hP hD hS hl => lv_ishl C.1 C.2.1 hd (kk H locs ls hP hD hS hl)
theorem g_ishr (C : kC κ D tys A cc nL own rm ret nm) {x y : Int32} (hd : decode cc pc = .ok (.ishr, 1)) (kk : kG κ D A nL k n Q cs lv (pc + 1) (.int (x >>> (y &&& 31)) :: st)) : kG κ D A nL k n Q cs lv pc (.int y :: .int x :: st) :=
  fun H locs ls hP hD hS hl => lv_ishr C.1 C.2.1 hd (kk H locs ls hP hD hS hl)
theorem g_if_eq (C : kC κ D tys A cc nL own rm ret nm) (tgt : Nat) {x : Int32} {off : Int} (hd : decode cc pc = .ok (.ifCond .eq off, 3)) (ht : (pc : Int) + off = (tgt : Int)) (kt : x = 0 → kG κ D A nL k n Q cs lv tgt st) (kf : ¬ x = 0 → kG κ D A nL k n Q cs lv (pc + 3) st) : kG κ D A nL k n Q cs lv pc (.int x :: st) :=
  fun H locs ls hP hD hS hl => lv_if_eq C.1 C.2.1 hd ht (fun q => kt q H locs ls hP hD hS hl) (fun q => kf q H locs ls hP hD hS hl)
theorem g_if_ne (C : kC κ D tys A cc nL own rm ret nm) (tgt : Nat) {x : Int32} {off : Int} (hd : decode cc pc = .ok (.ifCond .ne off, 3)) (ht : (pc : Int) + off = (tgt : Int)) (kt : ¬ x = 0 → kG κ D A nL k n Q cs lv tgt st) (kf : x = 0 → kG κ D A nL k n Q cs lv (pc + 3) st) : kG κ D A nL k n Q cs lv pc (.int x :: st) :=
  fun H locs ls hP hD hS hl => lv_if_ne C.1 C.2.1 hd ht (fun q => kt q H locs ls hP hD hS hl) (fun q => kf q H locs ls hP hD hS hl)
theorem g_if_lt (C : kC κ D tys A cc nL own rm ret nm) (tgt : Nat) {x : Int32} {off : Int} (hd : decode cc pc = .ok (.ifCond .lt off, 3)) (ht : (pc : Int) + off = (tgt : Int)) (kt : x < 0 → kG κ D A nL k n Q cs lv tgt st) (kf : ¬ x < 0 → kG κ D A nL k n Q cs lv (pc + 3) st) : kG κ D A nL k n Q cs lv pc (.int x :: st) :=
  fun H locs ls hP hD hS hl => lv_if_lt C.1 C.2.1 hd ht (fun q => kt q H locs ls hP hD hS hl) (fun q => kf q H locs ls hP hD hS hl)
theorem g_if_ge (C : kC κ D tys A cc nL own rm ret nm) (tgt : Nat) {x : Int32} {off : Int} (hd : decode cc pc = .ok (.ifCond .ge off, 3)) (ht : (pc : Int) + off = (tgt : Int)) (kt : 0 ≤ x → kG κ D A nL k n Q cs lv tgt st) (kf : ¬ 0 ≤ x → kG κ D A nL k n Q cs lv (pc + 3) st) : kG κ D A nL k n Q cs lv pc (.int x :: st) :=
  fun H locs ls hP hD hS hl => lv_if_ge C.1 C.2.1 hd ht (fun q => kt q H locs ls hP hD hS hl) (fun q => kf q H locs ls hP hD hS hl)
theorem g_if_gt (C : kC κ D tys A cc nL own rm ret nm) (tgt : Nat) {x : Int32} {off : Int} (hd : decode cc pc = .ok (.ifCond .gt off, 3)) (ht : (pc : Int) + off = (tgt : Int)) (kt : 0 < x → kG κ D A nL k n Q cs lv tgt st) (kf : ¬ 0 < x → kG κ D A nL k n Q cs lv (pc + 3) st) : kG κ D A nL k n Q cs lv pc (.int x :: st) :=
  fun H locs ls hP hD hS hl => lv_if_gt C.1 C.2.1 hd ht (fun q => kt q H locs ls hP hD hS hl) (fun q => kf q H locs ls hP hD hS hl)
theorem g_if_le (C : kC κ D tys A cc nL own rm ret nm) (tgt : Nat) {x : Int32} {off : Int} (hd : decode cc pc = .ok (.ifCond .le off, 3)) (ht : (pc : Int) + off = (tgt : Int)) (kt : x ≤ 0 → kG κ D A nL k n Q cs lv tgt st) (kf : ¬ x ≤ 0 → kG κ D A nL k n Q cs lv (pc + 3) st) : kG κ D A nL k n Q cs lv pc (.int x :: st) :=
  fun H locs ls hP hD hS hl => lv_if_le C.1 C.2.1 hd ht (fun q => kt q H locs ls hP hD hS hl) (fun q => kf q H locs ls hP hD hS hl)
theorem g_icmp_eq (C : kC κ D tys A cc nL own rm ret nm) (tgt : Nat) {x y : Int32} {off : Int} (hd : decode cc pc = .ok (.if_icmp .eq off, 3)) (ht : (pc : Int) + off = (tgt : Int)) (kt : x = y → kG κ D A nL k n Q cs lv tgt st) (kf : ¬ x = y → kG κ D A nL k n Q cs lv (pc + 3) st) : kG κ D A nL k n Q cs lv pc (.int y :: .int x :: st) :=
  fun H locs ls hP hD hS hl => lv_icmp_eq C.1 C.2.1 hd ht (fun q => kt q H locs ls hP hD hS hl) (fun q => kf q H locs ls hP hD hS hl)
theorem g_icmp_ne (C : kC κ D tys A cc nL own rm ret nm) (tgt : Nat) {x y : Int32} {off : Int} (hd : decode cc pc = .ok (.if_icmp .ne off, 3)) (ht : (pc : Int) + off = (tgt : Int)) (kt : ¬ x = y → kG κ D A nL k n Q cs lv tgt st) (kf : x = y → kG κ D A nL k n Q cs lv (pc + 3) st) : kG κ D A nL k n Q cs lv pc (.int y :: .int x :: st) :=
  fun H locs ls hP hD hS hl => lv_icmp_ne C.1 C.2.1 hd ht (fun q => kt q H locs ls hP hD hS hl) (fun q => kf q H locs ls hP hD hS hl)
theorem g_icmp_lt (C : kC κ D tys A cc nL own rm ret nm) (tgt : Nat) {x y : Int32} {off : Int} (hd : decode cc pc = .ok (.if_icmp .lt off, 3)) (ht : (pc : Int) + off = (tgt : Int)) (kt : x < y → kG κ D A nL k n Q cs lv tgt st) (kf : ¬ x < y → kG κ D A nL k n Q cs lv (pc + 3) st) : kG κ D A nL k n Q cs lv pc (.int y :: .int x :: st) :=
  fun H locs ls hP hD hS hl => lv_icmp_lt C.1 C.2.1 hd ht (fun q => kt q H locs ls hP hD hS hl) (fun q => kf q H locs ls hP hD hS hl)
theorem g_icmp_ge (C : kC κ D tys A cc nL own rm ret nm) (tgt : Nat) {x y : Int32} {off : Int} (hd : decode cc pc = .ok (.if_icmp .ge off, 3)) (ht : (pc : Int) + off = (tgt : Int)) (kt : y ≤ x → kG κ D A nL k n Q cs lv tgt st) (kf : ¬ y ≤ x → kG κ D A nL k n Q cs lv (pc + 3) st) : kG κ D A nL k n Q cs lv pc (.int y :: .int x :: st) :=
  fun H locs ls hP hD hS hl => lv_icmp_ge C.1 C.2.1 hd ht (fun q => kt q H locs ls hP hD hS hl) (fun q => kf q H locs ls hP hD hS hl)
theorem g_icmp_gt (C : kC κ D tys A cc nL own rm ret nm) (tgt : Nat) {x y : Int32} {off : Int} (hd : decode cc pc = .ok (.if_icmp .gt off, 3)) (ht : (pc : Int) + off = (tgt : Int)) (kt : y < x → kG κ D A nL k n Q cs lv tgt st) (kf : ¬ y < x → kG κ D A nL k n Q cs lv (pc + 3) st) : kG κ D A nL k n Q cs lv pc (.int y :: .int x :: st) :=
  fun H locs ls hP hD hS hl => lv_icmp_gt C.1 C.2.1 hd ht (fun q => kt q H locs ls hP hD hS hl) (fun q => kf q H locs ls hP hD hS hl)
theorem g_icmp_le (C : kC κ D tys A cc nL own rm ret nm) (tgt : Nat) {x y : Int32} {off : Int} (hd : decode cc pc = .ok (.if_icmp .le off, 3)) (ht : (pc : Int) + off = (tgt : Int)) (kt : x ≤ y → kG κ D A nL k n Q cs lv tgt st) (kf : ¬ x ≤ y → kG κ D A nL k n Q cs lv (pc + 3) st) : kG κ D A nL k n Q cs lv pc (.int y :: .int x :: st) :=
  fun H locs ls hP hD hS hl => lv_icmp_le C.1 C.2.1 hd ht (fun q => kt q H locs ls hP hD hS hl) (fun q => kf q H locs ls hP hD hS hl)
theorem g_tableOut (C : kC κ D tys A cc nL own rm ret nm) (tgt : Nat) {dflt lo hi : Int} {offs : Array Int} {len : Nat} {x : Int32} (hd : decode cc pc = .ok (.tableswitch dflt lo hi offs, len)) (h : x.toInt < lo ∨ hi < x.toInt) (ht : (pc : Int) + dflt = (tgt : Int)) (kk : kG κ D A nL k n Q cs lv tgt st) : kG κ D A nL k n Q cs lv pc (.int x :: st) :=
  fun H locs ls hP hD hS hl => lv_tableOut C.1 C.2.1 hd h ht (kk H locs ls hP hD hS hl)
theorem g_tableIn (C : kC κ D tys A cc nL own rm ret nm) (tgt : Nat) {dflt lo hi : Int} {offs : Array Int} {len : Nat} {x : Int32} {off : Int} (hd : decode cc pc = .ok (.tableswitch dflt lo hi offs, len)) (h1 : ¬ x.toInt < lo) (h2 : ¬ hi < x.toInt) (ho : offs[(x.toInt - lo).toNat]? = some off) (ht : (pc : Int) + off = (tgt : Int)) (kk : kG κ D A nL k n Q cs lv tgt st) : kG κ D A nL k n Q cs lv pc (.int x :: st) :=
  fun H locs ls hP hD hS hl => lv_tableIn C.1 C.2.1 hd h1 h2 ho ht (kk H locs ls hP hD hS hl)
/-- fewer listed locals -/
theorem g_sub (ks : List Nat) {lv' : List (Nat × Value)} (h : lv_pick lv ks = lv') (kk : kG κ D A nL k n Q cs lv' pc st) : kG κ D A nL k n Q cs lv pc st :=
  fun H locs ls hP hD hS hl => kk H locs ls hP hD hS (lv_sub hl ks h)
/-- the same world otherwise written, or its chunks in another order -/
theorem g_world {cs' : List va_W} (h : cs.flatten.Perm cs'.flatten) (kk : kG κ D A nL k n Q cs' lv pc st) : kG κ D A nL k n Q cs lv pc st :=
  fun H locs ls hP hD hS hl => kk H locs ls (kP_perm h hP) (kD_perm h hD) hS hl
theorem g_chunks {cs' : List va_W} (h : cs.flatten = cs'.flatten) (kk : kG κ D A nL k n Q cs' lv pc st) : kG κ D A nL k n Q cs lv pc st := g_world (by rw [h]) kk
theorem g_widen {k' n' : Nat} (h1 : k ≤ k') (h2 : n ≤ n') (kk : kG κ D A nL k' n' Q cs lv pc st) : kG κ D A nL k n Q cs lv pc st :=
  fun H locs ls hP hD hS hl => W.widen h1 h2 (kk H locs ls hP hD hS hl)
theorem g_get (C : kC κ D tys A cc nL own rm ret nm) (j ci : Nat) {Cn : String} {T : u_T} {N index : Nat} {ref : String} {a : Nat} {fs : List Value} {w : va_W} (f : Nat) (v : Value) (hin : ∀ w ∈ u_ws Cn T N, w ∈ TB) (hj : cs[j]? = some ((a, .inr (ci, fs)) :: w)) (hc : vwCl[ci]? = some (Cn, T, N)) (hf : f < N) (hlk : Cond.fieldLink own index ref (T f).2.1 (T f).2.2.1 ∈ TB) (hr : (T f).1 = ref) (hv : fs[f]? = some v) (hd : decode cc pc = .ok (.getfield index, 3)) (kk : kG κ D A nL k n Q cs lv (pc + 3) (v :: st)) : kG κ D A nL k n Q cs lv pc (.ref a :: st) := by
  intro H locs ls hP hD hS hl
  obtain ⟨q0, hq⟩ := k_in hj
  subst hr
  exact va_get C.1 C.2.1 C.2.2.2.2.1 hin C.2.2.2.1 C.2.2.2.2.2.1 hP q0 hq hc f hf (C.2.2.2.2.1 _ hlk) (fun _ h => h) hv hd (kk H locs ls hP hD hS hl)
theorem g_getN (C : kC κ D tys A cc nL own rm ret nm) (j ci i : Nat) {Cn : String} {T : u_T} {N index : Nat} {ref host : String} {a : Nat} {fs : List Value} {w : va_W} (f : Nat) (v : Value) (hin : ∀ w ∈ u_ws Cn T N, w ∈ TB) (hj : cs[j]? = some ((a, .inr (ci, fs)) :: w)) (hc : vwCl[ci]? = some (Cn, T, N)) (hf : f < N) (hlk : kNL[i]? = some (Cond.fieldLinkNest own index ref (T f).2.1 (T f).2.2.1 host)) (hr : (T f).1 = ref) (hv : fs[f]? = some v) (hd : decode cc pc = .ok (.getfield index, 3)) (kk : kG κ D A nL k n Q cs lv (pc + 3) (v :: st)) : kG κ D A nL k n Q cs lv pc (.ref a :: st) := by
  intro H locs ls hP hD hS hl
  obtain ⟨q0, hq⟩ := k_in hj
  subst hr
  exact va_getN C.1 C.2.1 C.2.2.2.2.1 hin C.2.2.2.1 C.2.2.2.2.2.1 hP q0 hq hc f hf (va_Nw.use rfl (C.2.2.2.2.2.2.2.2.2.1.1 _ (List.mem_of_getElem? hlk))) (fun _ h => h) hv hd (kk H locs ls hP hD hS hl)
theorem g_put (C : kC κ D tys A cc nL own rm ret nm) (j ci : Nat) {Cn : String} {T : u_T} {N index : Nat} {ref : String} {a : Nat} {fs : List Value} (f : Nat) {v : Value} (ty0 : Nat → FieldType) {ty : FieldType} (cs' : List va_W) (hty : ∀ k, k < N → parseFieldDescriptor (T k).2.2.1 = some (ty0 k)) (hnm : ∀ a, a < N → ∀ b, b < N → a ≠ b → (T a).2.1 ≠ (T b).2.1) (hin : ∀ w ∈ u_ws Cn T N, w ∈ TB) (hj : cs[j]? = some [(a, .inr (ci, fs))]) (hc : vwCl[ci]? = some (Cn, T, N)) (hf : f < N) (hlk : Cond.fieldLink own index ref (T f).2.1 (T f).2.2.1 ∈ TB) (hr : (T f).1 = ref) (hfin : (T f).2.2.2 = false) (hdd : ty0 f = ty) (hn : narrow ty v = v) (hfit : fits ty v = true) (hlen : f < fs.length) (hcs : cs.set j [(a, .inr (ci, fs.set f v))] = cs') (hd : decode cc pc = .ok (.putfield index, 3)) (kk : kG κ D A nL k n Q cs' lv (pc + 3) st) : kG κ D A nL k n Q cs lv pc (v :: .ref a :: st) := by
  intro H locs ls hP hD hS hl
  obtain ⟨q0, hq, hset⟩ := k_at hj
  subst hr
  subst hcs
  refine va_put C.1 C.2.1 C.2.2.2.2.1 hin ty0 hty hnm C.2.2.2.1 C.2.2.2.2.2.1 hP hD hS q0 hq hc f hf (C.2.2.2.2.1 _ hlk) (fun _ h => h) hfin ((hty f hf).trans (congrArg some hdd)) hn hfit hlen hd (fun H1 locs1 hP hD hS => ?_)
  rw [hset] at hP hD
  exact kk H1 locs1 ls hP hD hS hl
theorem g_putN (C : kC κ D tys A cc nL own rm ret nm) (j ci i : Nat) {Cn : String} {T : u_T} {N index : Nat} {ref host : String} {a : Nat} {fs : List Value} (f : Nat) {v : Value} (ty0 : Nat → FieldType) {ty : FieldType} (cs' : List va_W) (hty : ∀ k, k < N → parseFieldDescriptor (T k).2.2.1 = some (ty0 k)) (hnm : ∀ a, a < N → ∀ b, b < N → a ≠ b → (T a).2.1 ≠ (T b).2.1) (hin : ∀ w ∈ u_ws Cn T N, w ∈ TB) (hj : cs[j]? = some [(a, .inr (ci, fs))]) (hc : vwCl[ci]? = some (Cn, T, N)) (hf : f < N) (hlk : kNL[i]? = some (Cond.fieldLinkNest own index ref (T f).2.1 (T f).2.2.1 host)) (hr : (T f).1 = ref) (hfin : (T f).2.2.2 = false) (hdd : ty0 f = ty) (hn : narrow ty v = v) (hfit : fits ty v = true) (hlen : f < fs.length) (hcs : cs.set j [(a, .inr (ci, fs.set f v))] = cs') (hd : decode cc pc = .ok (.putfield index, 3)) (kk : kG κ D A nL k n Q cs' lv (pc + 3) st) : kG κ D A nL k n Q cs lv pc (v :: .ref a :: st) := by
  intro H locs ls hP hD hS hl
  obtain ⟨q0, hq, hset⟩ := k_at hj
  subst hr
  subst hcs
  refine va_putN C.1 C.2.1 C.2.2.2.2.1 hin ty0 hty hnm C.2.2.2.1 C.2.2.2.2.2.1 hP hD hS q0 hq hc f hf (va_Nw.use rfl (C.2.2.2.2.2.2.2.2.2.1.1 _ (List.mem_of_getElem? hlk))) (fun _ h => h) hfin ((hty f hf).trans (congrArg some hdd)) hn hfit hlen hd (fun H1 locs1 hP hD hS => ?_)
  rw [hset] at hP hD
  exact kk H1 locs1 ls hP hD hS hl
/-- a final field, in a constructor -/
theorem g_putF (C : kC κ D tys A cc nL own rm ret "<init>") (j ci : Nat) {Cn : String} {T : u_T} {N index : Nat} {ref : String} {a : Nat} {fs : List Value} (f : Nat) {v : Value} (ty0 : Nat → FieldType) {ty : FieldType} (cs' : List va_W) (hty : ∀ k, k < N → parseFieldDescriptor (T k).2.2.1 = some (ty0 k)) (hnm : ∀ a, a < N → ∀ b, b < N → a ≠ b → (T a).2.1 ≠ (T b).2.1) (hin : ∀ w ∈ u_ws Cn T N, w ∈ TB) (hj : cs[j]? = some [(a, .inr (ci, fs))]) (hc : vwCl[ci]? = some (Cn, T, N)) (hf : f < N) (hlk : Cond.fieldLink own index ref (T f).2.1 (T f).2.2.1 ∈ TB) (hr : (T f).1 = ref) (hfin : (T f).2.2.2 = true) (hdecl : (T f).1 = own) (hdd : ty0 f = ty) (hn : narrow ty v = v) (hfit : fits ty v = true) (hlen : f < fs.length) (hcs : cs.set j [(a, .inr (ci, fs.set f v))] = cs') (hd : decode cc pc = .ok (.putfield index, 3)) (kk : kG κ D A nL k n Q cs' lv (pc + 3) st) : kG κ D A nL k n Q cs lv pc (v :: .ref a :: st) := by
  intro H locs ls hP hD hS hl
  obtain ⟨q0, hq, hset⟩ := k_at hj
  subst hr
  subst hcs
  refine va_putF C.1 C.2.1 C.2.2.2.2.1 hin ty0 hty hnm C.2.2.2.1 C.2.2.2.2.2.1 hP hD hS q0 hq hc f hf (C.2.2.2.2.1 _ hlk) (fun _ h => h) hfin C.2.2.2.2.2.2.2.2.2.2.2 hdecl ((hty f hf).trans (congrArg some hdd)) hn hfit hlen hd (fun H1 locs1 hP hD hS => ?_)
  rw [hset] at hP hD
  exact kk H1 locs1 ls hP hD hS hl
theorem g_iald (C : kC κ D tys A cc nL own rm ret nm) (j t0 : Nat) {a : Nat} {cA : ClassId} {N : Nat} {f : Nat → Int32} {i : Int32} {w : va_W} (hj : cs[j]? = some ((a, .inl (cA, N, .inl f)) :: w)) (ht : tys[t0]? = some (cA, .int)) (hin : ¬ (i < 0 ∨ N ≤ i.toNatClampNeg)) (hd : decode cc pc = .ok (.iaload, 1)) (kk : kG κ D A nL k n Q cs lv (pc + 1) (.int (f i.toNatClampNeg) :: st)) : kG κ D A nL k n Q cs lv pc (.int i :: .ref a :: st) := by
  intro H locs ls hP hD hS hl
  obtain ⟨q0, hq⟩ := k_in hj
  exact va_iald C.1 C.2.1 C.2.2.2.2.2.1 hP q0 t0 hq ht hin hd (kk H locs ls hP hD hS hl)
theorem g_iast (C : kC κ D tys A cc nL own rm ret nm) (j t0 : Nat) {a : Nat} {cA : ClassId} {N : Nat} {f : Nat → Int32} {i x : Int32} (cs' : List va_W) (hj : cs[j]? = some [(a, .inl (cA, N, .inl f))]) (ht : tys[t0]? = some (cA, .int)) (hin : ¬ (i < 0 ∨ N ≤ i.toNatClampNeg)) (hcs : cs.set j [(a, .inl (cA, N, .inl (upd f i.toNatClampNeg x)))] = cs') (hd : decode cc pc = .ok (.iastore, 1)) (kk : kG κ D A nL k n Q cs' lv (pc + 1) st) : kG κ D A nL k n Q cs lv pc (.int x :: .int i :: .ref a :: st) := by
  intro H locs ls hP hD hS hl
  obtain ⟨q0, hq, hset⟩ := k_at hj
  subst hcs
  refine va_iast C.1 C.2.1 C.2.2.2.2.2.1 hP hD hS q0 t0 hq ht hin hd (fun H1 locs1 hP hD hS => ?_)
  rw [hset] at hP hD
  exact kk H1 locs1 ls hP hD hS hl
theorem g_alen (C : kC κ D tys A cc nL own rm ret nm) (j t0 : Nat) {a : Nat} {cA : ClassId} {x : vp_A} {w : va_W} {ty : FieldType} (v : Int32) (hj : cs[j]? = some ((a, .inl (cA, x)) :: w)) (ht : tys[t0]? = some (cA, ty)) (hv : Int32.ofNat x.1 = v) (hd : decode cc pc = .ok (.arraylength, 1)) (kk : kG κ D A nL k n Q cs lv (pc + 1) (.int v :: st)) : kG κ D A nL k n Q cs lv pc (.ref a :: st) := by
  intro H locs ls hP hD hS hl
  obtain ⟨q0, hq⟩ := k_in hj
  exact va_alen C.1 C.2.1 C.2.2.2.2.2.1 hP q0 t0 hq ht hv hd (kk H locs ls hP hD hS hl)
theorem g_mmax (C : kC κ D tys A cc nL own rm ret nm) {index : Nat} {x y : Int32} (h1 : Cond.methodLink own index Lib.Math.max.name ∈ TB) (h2 : Cond.static Lib.Math.max.name ∈ TB) (h3 : Cond.initialized "java/lang/Math" ∈ TB) (h4 : Cond.code Lib.Math.max.name Lib.Math.max.code 2 (some .int) ∈ TB) (hf : 1 ≤ rm.frames) (hlo : (st.map fun v => v.category).sum + 13 ≤ rm.locals) (hk : k ≤ rm.cells) (hn : n ≤ rm.slots) (hd : decode cc pc = .ok (.invokestatic index, 3)) (kk : kG κ D A nL k n Q cs lv (pc + 3) (.int (if x < y then y else x) :: st)) : kG κ D A nL k n Q cs lv pc (.int y :: .int x :: st) := by
  intro H locs ls hP hD hS hl
  have hR : kR κ = rm := C.2.2.2.2.2.2.2.2.2.2.1
  subst hR
  exact va_mmax C.1 C.2.1 (by rw [C.2.2.1]; exact hl.1.symm) C.2.2.2.1 (C.2.2.2.2.1 _ h1) (C.2.2.2.2.1 _ h2) (C.2.2.2.2.1 _ h3) (C.2.2.2.2.1 _ h4) hf hlo hk hn hd (kk H locs ls hP hD hS hl)
theorem g_mmin (C : kC κ D tys A cc nL own rm ret nm) {index : Nat} {x y : Int32} (h1 : Cond.methodLink own index Lib.Math.min.name ∈ TB) (h2 : Cond.static Lib.Math.min.name ∈ TB) (h3 : Cond.initialized "java/lang/Math" ∈ TB) (h4 : Cond.code Lib.Math.min.name Lib.Math.min.code 2 (some .int) ∈ TB) (hf : 1 ≤ rm.frames) (hlo : (st.map fun v => v.category).sum + 13 ≤ rm.locals) (hk : k ≤ rm.cells) (hn : n ≤ rm.slots) (hd : decode cc pc = .ok (.invokestatic index, 3)) (kk : kG κ D A nL k n Q cs lv (pc + 3) (.int (if y < x then y else x) :: st)) : kG κ D A nL k n Q cs lv pc (.int y :: .int x :: st) := by
  intro H locs ls hP hD hS hl
  have hR : kR κ = rm := C.2.2.2.2.2.2.2.2.2.2.1
  subst hR
  exact va_mmin C.1 C.2.1 (by rw [C.2.2.1]; exact hl.1.symm) C.2.2.2.1 (C.2.2.2.2.1 _ h1) (C.2.2.2.2.1 _ h2) (C.2.2.2.2.1 _ h3) (C.2.2.2.2.1 _ h4) hf hlo hk hn hd (kk H locs ls hP hD hS hl)
end Rows
section Calls
variable {l : Launch} {κ : kT} {D : va_G} {tys : List (ClassId × FieldType)} {A : Nat → Prop} {cc : ByteArray} {nL : Nat} {own : String} {rm : Room} {ret : Option FieldType} {nm : String} {k n : Nat} {Q : State → Prop} {cs : List va_W} {lv : List (Nat × Value)} {pc : Nat} {st : List Value}
theorem g_ret_v {Rf : Option Value → List va_W → Prop} (C : kC κ D tys A cc nL own rm ret nm) (hr : ret = none) (hR : Rf none cs) (hd : decode cc pc = .ok (.return_, 1)) : kG κ D A nL k n (MQ (kBe κ) (kQ D A Rf) (kAr κ) (kS κ) k n A) cs lv pc [] := by
  intro H locs ls hP hD hS hl
  exact W.vret C.1 C.2.1 (C.2.2.2.2.2.2.2.1.trans hr) (fun t ht hW => ⟨⟨none, cs, rfl, hR, by rw [ht]; exact hP, hD⟩, hS.F ht⟩) hS.2.2 hd (hlocks := C.2.2.2.2.2.2.2.2.1)
theorem g_ret_i {Rf : Option Value → List va_W → Prop} {x : Int32} (C : kC κ D tys A cc nL own rm ret nm) (hr : ret = some .int) (hR : Rf (some (.int x)) cs) (hd : decode cc pc = .ok (.ireturn, 1)) : kG κ D A nL k n (MQ (kBe κ) (kQ D A Rf) (kAr κ) (kS κ) k n A) cs lv pc [.int x] := by
  intro H locs ls hP hD hS hl
  exact W.iret C.1 C.2.1 (C.2.2.2.2.2.2.2.1.trans hr) (fun t ht hW => ⟨⟨some (.int x), cs, rfl, hR, by rw [ht]; exact hP, hD⟩, hS.F ht⟩) hS.2.2 hd (hlocks := C.2.2.2.2.2.2.2.2.1)
theorem g_ret_z {Rf : Option Value → List va_W → Prop} {x : Int32} (C : kC κ D tys A cc nL own rm ret nm) (hr : ret = some .boolean) (hx : x = 0 ∨ x = 1) (hR : Rf (some (.int x)) cs) (hd : decode cc pc = .ok (.ireturn, 1)) : kG κ D A nL k n (MQ (kBe κ) (kQ D A Rf) (kAr κ) (kS κ) k n A) cs lv pc [.int x] := by
  intro H locs ls hP hD hS hl
  exact W.zret C.1 C.2.1 (C.2.2.2.2.2.2.2.1.trans hr) (by rcases hx with rfl | rfl <;> rfl) (fun t ht hW => ⟨⟨some (.int x), cs, rfl, hR, by rw [ht]; exact hP, hD⟩, hS.F ht⟩) hS.2.2 hd (hlocks := C.2.2.2.2.2.2.2.2.1)
theorem g_ret_a {Rf : Option Value → List va_W → Prop} {x : Nat} {cn : String} (C : kC κ D tys A cc nL own rm ret nm) (hr : ret = some (.object cn)) (hR : Rf (some (.ref x)) cs) (hd : decode cc pc = .ok (.areturn, 1)) : kG κ D A nL k n (MQ (kBe κ) (kQ D A Rf) (kAr κ) (kS κ) k n A) cs lv pc [.ref x] := by
  intro H locs ls hP hD hS hl
  exact W.aret C.1 C.2.1 (C.2.2.2.2.2.2.2.1.trans hr) (Or.inl ⟨_, rfl⟩) (Or.inr ⟨_, rfl⟩) (fun t ht hW => ⟨⟨some (.ref x), cs, rfl, hR, by rw [ht]; exact hP, hD⟩, hS.F ht⟩) hS.2.2 hd (hlocks := C.2.2.2.2.2.2.2.2.1)
/-- a method's contract out of its walk -/
theorem k_method {y : MethodName} {As : List Value} {Rf : Option Value → List va_W → Prop} (cc : ByteArray) (maxL : Nat) (ret : Option FieldType) (own : String) (ho : y.cls = own) (lv0 : List (Nat × Value)) (hlv : lv_args 0 As = lv0) (hy : plainName y.cls = true) (hAs : (lg_sl As).length ≤ maxL)
    (body : ∀ (κ : kT) (A : Nat → Prop), κ.2.1 = l → kC κ D tys A cc maxL own rm ret y.name → kG κ D A maxL 0 0 (MQ (kBe κ) (kQ D A Rf) (kAr κ) (kS κ) rm.cells rm.slots A) cs lv0 0 []) : kM l D tys y (Cond.code y cc maxL ret :: TB) rm As cs Rf := by
  subst ho; subst hlv
  intro sz
  refine Met.ofW (cc := cc) (maxL := maxL) (ret := ret) hy rfl ?_
  intro p e s m args below meth c s₁ B hml hv
  obtain ⟨rfl, hsz, hP, hK, hD0, hNW⟩ := hv
  have hts : ∀ w ∈ TB, w.before As.toArray s = true := fun w hw => atoms_spec (ws := Cond.code y cc maxL ret :: TB) B.pre w (List.mem_cons_of_mem _ hw)
  have hown : s.vm.findClass y.cls = some m.cls := findClass_of_methodNamed B.named
  subst hsz
  have hD := hD0.self (sz := s.heap.size)
  have hA : ∀ q : Nat, s.heap.size ≤ q → va_A cs.flatten s.heap.size q := fun q h => Or.inr h
  have hS : va_S (va_A cs.flatten s.heap.size) s.heap s.heap [] := va_S.rf
  have hl := lv_entry As (n := maxL) hAs
  rw [lg_entry_eq]
  exact body (p, l, e, rm, s, m, As.toArray, below, meth, c) (va_A cs.flatten s.heap.size) rfl ⟨B.exec, B.bytes, hml, hown, hts, hK, hA, B.returns, B.notSynchronized, hNW, rfl, (name_of_methodNamed B.named B.method).1⟩ s.heap [] _ hP hD hS hl
/-- behind a call -/
theorem k_goes {p : Program} {l : Launch} {e : Env} {R : Room} {s : State} {m : MethodId} {args : Array Value} {below : List Frame} {meth : Method} {c : Code} {H : Heap} {locs : List Loc} {cells slots : Nat} {Q : State → Prop} {pc : Nat} {ls : Array Slot} {rest st0 : List Value} {a : Array Value} {A0 A1 : Nat → Prop} {H0 : Heap} {mc ms : Nat} {free : Addr → Prop} {Rf : Option Value → List va_W → Prop}
    (hr : va_Run p l e R s m args below meth c H locs cells slots mc ms (F0 m pc ls st0) rest (kQ D A1 Rf a) free) (hS : va_S A0 H0 H locs) (hA : ∀ q, q < H.size → A1 q → A0 q) (hf : ∀ q, free q → A0 q)
    (kk : ∀ (v : Option Value) (cs : List va_W) (H1 : Heap) (locs1 : List Loc), Rf v cs → va_P D vwCl cs.flatten H1 → va_D A1 cs.flatten → H.size ≤ H1.size → (∀ q : Nat, q < H.size → ¬ A1 q → H1[q]? = H[q]?) → va_S A0 H0 H1 locs1 → W p l e R s m args below meth c H1 locs1 (cells + mc) (slots + ms) Q (F0 m (pc + 3) ls (v.toList ++ rest))) : W p l e R s m args below meth c H locs cells slots Q (F0 m pc ls st0) := by
  intro T hT X
  obtain ⟨v, st₀, t, T', L, h0, X', hL, e1, e2, ⟨⟨v', cs, hv, hp, hb, hd⟩, hz, hk⟩, hst⟩ := hr T hT X
  cases hv
  rw [h0] at hz hk
  obtain ⟨t2, a1, b1⟩ := kk v cs T'.heap (locs ++ L) hp (by rw [e1]; exact hb) hd (by rw [e1]; exact hz) (fun q h1 h2 => by rw [e1]; exact hk q h1 h2)
    ⟨Nat.le_trans hS.1 (by rw [e1]; exact hz), fun q h1 h2 => by rw [e1, hk q (Nat.lt_of_lt_of_le h1 hS.1) (fun z => h2 (hA q (Nat.lt_of_lt_of_le h1 hS.1) z))]; exact hS.2.1 q h1 h2, fun q hq => by
      rcases List.mem_append.mp hq with h | h
      · exact hS.2.2 q h
      · exact hf _ (hL q h)⟩ T' rfl X'
  exact ⟨t2, hst t2 a1, b1⟩
theorem k_blind {sz : Nat} {ws : va_W} {As : List Value} : FrameBlind (va_Pc As (kP D tys sz ws)) := fun a U g mk q => by
  obtain ⟨q0, q1, q2, q3, q4, q5⟩ := q
  exact ⟨q0, q1, q2, va_K.moved (u := U) (U := U.calling g mk a) (Vm.Alike.refl U.vm) q3, q4, kNW.same (u := U) rfl q5⟩
/-- the callee's start, out of the caller's world -/
theorem k_pre {H : Heap} {sel : List va_W} {As : List Value} {A0 : Nat → Prop} {s : State} (hP : va_P D vwCl sel.flatten H) (hD : va_D A0 sel.flatten) (hK : va_K D vwCl tys s) (hNW : kNW s) : ∀ U : State, U.heap = H → s.WarmedH U.vm → va_Pc As (kP D tys H.size sel.flatten) As.toArray U :=
  fun U hU hW => ⟨rfl, by rw [hU], by rw [hU]; exact hP, va_K.moved hW.alike hK, hD.weaken (fun _ _ _ _ => trivial), kNW.warm hW hNW⟩
theorem k_part {A0 : Nat → Prop} {H : Heap} {sel rest : List va_W} (hP : va_P D vwCl (sel ++ rest).flatten H) (hD : va_D A0 (sel ++ rest).flatten) : va_P D vwCl sel.flatten H ∧ va_D A0 sel.flatten := by
  rw [List.flatten_append] at hP hD
  refine ⟨kP_mem.mpr fun q hq => kP_mem.mp hP q (List.mem_append_left _ hq), ?_⟩
  obtain ⟨h1, h2⟩ := kD_mem.mp hD
  rw [List.map_append, List.nodup_append] at h1
  exact kD_mem.mpr ⟨h1.1, fun q hq => h2 q (List.mem_append_left _ hq)⟩
theorem k_fr {A0 : Nat → Prop} {H H0 : Heap} {locs : List Loc} {sel : List va_W} (hD : va_D A0 sel.flatten) (hS : va_S A0 H0 H locs) (hA : ∀ q, H0.size ≤ q → A0 q) : ∀ q, va_A sel.flatten H.size q → A0 q := by
  intro q h
  rcases h with ⟨k, e, h⟩ | h
  · exact hD.2 k (q, e) h
  · exact hA q (Nat.le_trans hS.1 h)
/-- a call on an object -/
theorem g_callV {y : MethodName} {Tc ws' : List Cond} {rmc : Room} {As : List Value} {sel rest : List va_W} {Rc : Option Value → List va_W → Prop} {bytes : ByteArray} {maxL : Nat} {retc : Option FieldType} {index : Nat} {Cn : String} {ci : Nat} {fs : List Value} {b : Nat} {T : u_T} {N na : Nat} {st0 : List Value} (hlau : κ.2.1 = l) (C : kC κ D tys A cc nL own rm ret nm)
    (hM : kM l D tys y Tc rmc (.ref b :: As) sel Rc) (hg : GoodIn TB (wsV own index Cn y Tc)) (hw : Tc = Cond.code y bytes maxL retc :: ws')
    (hd : y.cls = Cn ∧ y.cls ≠ "java/lang/invoke/MethodHandle" ∧ y.cls ≠ "java/lang/invoke/VarHandle" ∧ (parseMethodDescriptor y.desc).map (fun d => d.parameters.length) = some na) (hR : rmc.frames + 1 ≤ rm.frames ∧ 8 + (maxL + 11) + rmc.locals ≤ rm.locals)
    (hrec : sel.flatten[0]? = some (b, .inr (ci, fs))) (hc : vwCl[ci]? = some (Cn, T, N)) (hna : As.length = na) (hst : st0 = As.reverse ++ .ref b :: st) (hcat : (st.map fun v => v.category).sum ≤ 8) (hk : k + rmc.cells ≤ rm.cells) (hn : n + rmc.slots ≤ rm.slots)
    (hdg : decode cc pc = .ok (.invokevirtual index, 3)) (hsp : cs.flatten.Perm (sel ++ rest).flatten) (kk : ∀ v sel', Rc v sel' → kG κ D A nL (k + rmc.cells) (n + rmc.slots) Q (sel' ++ rest) lv (pc + 3) (v.toList ++ st)) : kG κ D A nL k n Q cs lv pc st0 := by
  intro H locs ls hP hD hS hl
  have hKK := C.2.2.2.2.2.1
  have hNW := C.2.2.2.2.2.2.2.2.2.1
  have hRR : kR κ = rm := C.2.2.2.2.2.2.2.2.2.2.1
  subst hRR; subst hlau; subst hst
  have hP := kP_perm hsp hP
  have hD := kD_perm hsp hD
  obtain ⟨hPc, hDc⟩ := k_part hP hD
  have hF := k_fr hDc hS C.2.2.2.2.2.2.1
  refine k_goes (va_runV (As := As) (rest := st) ⟨C.1, C.2.1, C.2.2.1, C.2.2.2.1, C.2.2.2.2.1⟩ (hM H.size) (cwV na C.2.2.2.2.1 hg hw rfl rfl hd hR) ⟨k_blind, va_recv hKK hPc hc hrec, k_pre hPc hDc hKK hNW⟩ rfl hna hl.1 rfl (lv_room hcat) hdg ⟨hk, hn⟩) hS (fun q _ h => hF q h) hF (fun v cs' H1 locs1 hRc hP1 hD1 _ hk1 hS1 => ?_)
  obtain ⟨hP2, hD2⟩ := k_join hP hD hk1 hF hP1 hD1
  exact kk v cs' hRc H1 locs1 ls hP2 hD2 hS1 hl
/-- a static call -/
theorem g_callS {y : MethodName} {Tc ws' : List Cond} {rmc : Room} {As : List Value} {sel rest : List va_W} {Rc : Option Value → List va_W → Prop} {bytes : ByteArray} {maxL : Nat} {retc : Option FieldType} {index : Nat} {na : Nat} {st0 : List Value} (hlau : κ.2.1 = l) (C : kC κ D tys A cc nL own rm ret nm)
    (hM : kM l D tys y Tc rmc As sel Rc) (h1 : GoodIn TB Tc) (hlk : Cond.methodLink own index y ∈ TB) (hstat : Cond.static y ∈ TB) (hini : Cond.initialized y.cls ∈ TB) (hw : Tc = Cond.code y bytes maxL retc :: ws')
    (hd : y.cls ≠ "java/lang/invoke/MethodHandle" ∧ y.cls ≠ "java/lang/invoke/VarHandle" ∧ (parseMethodDescriptor y.desc).map (fun d => d.parameters.length) = some na) (hR : rmc.frames + 1 ≤ rm.frames ∧ 8 + (maxL + 11) + rmc.locals ≤ rm.locals)
    (hna : As.length = na) (hst : st0 = As.reverse ++ st) (hcat : (st.map fun v => v.category).sum ≤ 8) (hk : k + rmc.cells ≤ rm.cells) (hn : n + rmc.slots ≤ rm.slots)
    (hdg : decode cc pc = .ok (.invokestatic index, 3)) (hsp : cs.flatten.Perm (sel ++ rest).flatten) (kk : ∀ v sel', Rc v sel' → kG κ D A nL (k + rmc.cells) (n + rmc.slots) Q (sel' ++ rest) lv (pc + 3) (v.toList ++ st)) : kG κ D A nL k n Q cs lv pc st0 := by
  intro H locs ls hP hD hS hl
  have hKK := C.2.2.2.2.2.1
  have hNW := C.2.2.2.2.2.2.2.2.2.1
  have hRR : kR κ = rm := C.2.2.2.2.2.2.2.2.2.2.1
  subst hRR; subst hlau; subst hst
  have hP := kP_perm hsp hP
  have hD := kD_perm hsp hD
  obtain ⟨hPc, hDc⟩ := k_part hP hD
  have hF := k_fr hDc hS C.2.2.2.2.2.2.1
  have hts := C.2.2.2.2.1
  refine k_goes (va_runS (As := As) (rest := st) ⟨C.1, C.2.1, C.2.2.1, C.2.2.2.1, C.2.2.2.2.1⟩ (hM H.size) ⟨callB_of na hts h1 hw rfl rfl (hts _ hini) (hts _ hlk) hd hR, hts _ hstat⟩ ⟨k_blind, k_pre hPc hDc hKK hNW⟩ rfl hna hl.1 rfl (lv_room hcat) hdg ⟨hk, hn⟩) hS (fun q _ h => hF q h) hF (fun v cs' H1 locs1 hRc hP1 hD1 _ hk1 hS1 => ?_)
  obtain ⟨hP2, hD2⟩ := k_join hP hD hk1 hF hP1 hD1
  exact kk v cs' hRc H1 locs1 ls hP2 hD2 hS1 hl
/-- a static call of a nest mate's private method -/
theorem g_callSN {y : MethodName} {Tc ws' : List Cond} {rmc : Room} {As : List Value} {sel rest : List va_W} {Rc : Option Value → List va_W → Prop} {bytes : ByteArray} {maxL : Nat} {retc : Option FieldType} {index : Nat} {host : String} {na : Nat} {st0 : List Value} (i : Nat) (hlau : κ.2.1 = l) (C : kC κ D tys A cc nL own rm ret nm)
    (hM : kM l D tys y Tc rmc As sel Rc) (h1 : GoodIn TB Tc) (hlk : kNL[i]? = some (Cond.methodLinkNest own index y host)) (hstat : Cond.static y ∈ TB) (hini : Cond.initialized y.cls ∈ TB) (hw : Tc = Cond.code y bytes maxL retc :: ws')
    (hd : y.cls ≠ "java/lang/invoke/MethodHandle" ∧ y.cls ≠ "java/lang/invoke/VarHandle" ∧ (parseMethodDescriptor y.desc).map (fun d => d.parameters.length) = some na) (hR : rmc.frames + 1 ≤ rm.frames ∧ 8 + (maxL + 11) + rmc.locals ≤ rm.locals)
    (hna : As.length = na) (hst : st0 = As.reverse ++ st) (hcat : (st.map fun v => v.category).sum ≤ 8) (hk : k + rmc.cells ≤ rm.cells) (hn : n + rmc.slots ≤ rm.slots)
    (hdg : decode cc pc = .ok (.invokestatic index, 3)) (hsp : cs.flatten.Perm (sel ++ rest).flatten) (kk : ∀ v sel', Rc v sel' → kG κ D A nL (k + rmc.cells) (n + rmc.slots) Q (sel' ++ rest) lv (pc + 3) (v.toList ++ st)) : kG κ D A nL k n Q cs lv pc st0 := by
  intro H locs ls hP hD hS hl
  have hKK := C.2.2.2.2.2.1
  have hNW := C.2.2.2.2.2.2.2.2.2.1
  have hRR : kR κ = rm := C.2.2.2.2.2.2.2.2.2.2.1
  subst hRR; subst hlau; subst hst
  have hP := kP_perm hsp hP
  have hD := kD_perm hsp hD
  obtain ⟨hPc, hDc⟩ := k_part hP hD
  have hF := k_fr hDc hS C.2.2.2.2.2.2.1
  have hts := C.2.2.2.2.1
  refine k_goes (va_runSN (As := As) (rest := st) ⟨C.1, C.2.1, C.2.2.1, C.2.2.2.1, C.2.2.2.2.1⟩ (hM H.size) ⟨va_cnB na hts h1 hw rfl rfl (hNW.1 _ (List.mem_of_getElem? hlk)) (hts _ hini) hd hR, hts _ hstat, trivial⟩ ⟨k_blind, k_pre hPc hDc hKK hNW⟩ rfl hna hl.1 rfl (lv_room hcat) hdg ⟨hk, hn⟩) hS (fun q _ h => hF q h) hF (fun v cs' H1 locs1 hRc hP1 hD1 _ hk1 hS1 => ?_)
  obtain ⟨hP2, hD2⟩ := k_join hP hD hk1 hF hP1 hD1
  exact kk v cs' hRc H1 locs1 ls hP2 hD2 hS1 hl
/-- a constructor's call -/
theorem g_callI {y : MethodName} {Tc ws' : List Cond} {rmc : Room} {As : List Value} {sel rest : List va_W} {Rc : Option Value → List va_W → Prop} {bytes : ByteArray} {maxL : Nat} {index : Nat} {b : Nat} {na : Nat} {st0 : List Value} (hlau : κ.2.1 = l) (C : kC κ D tys A cc nL own rm ret nm)
    (hM : kM l D tys y Tc rmc (.ref b :: As) sel Rc) (h1 : GoodIn TB Tc) (hlk : Cond.methodLink own index y ∈ TB) (hinst : Cond.instanceMethod y ∈ TB) (hini : Cond.initialized y.cls ∈ TB) (hw : Tc = Cond.code y bytes maxL none :: ws') (hy : y.name = "<init>")
    (hd : y.cls ≠ "java/lang/invoke/MethodHandle" ∧ y.cls ≠ "java/lang/invoke/VarHandle" ∧ (parseMethodDescriptor y.desc).map (fun d => d.parameters.length) = some na) (hR : rmc.frames + 1 ≤ rm.frames ∧ 8 + (maxL + 11) + rmc.locals ≤ rm.locals)
    (hna : As.length = na) (hst : st0 = As.reverse ++ .ref b :: st) (hcat : (st.map fun v => v.category).sum ≤ 8) (hk : k + rmc.cells ≤ rm.cells) (hn : n + rmc.slots ≤ rm.slots)
    (hdg : decode cc pc = .ok (.invokespecial index, 3)) (hsp : cs.flatten.Perm (sel ++ rest).flatten) (kk : ∀ v sel', Rc v sel' → kG κ D A nL (k + rmc.cells) (n + rmc.slots) Q (sel' ++ rest) lv (pc + 3) (v.toList ++ st)) : kG κ D A nL k n Q cs lv pc st0 := by
  intro H locs ls hP hD hS hl
  have hKK := C.2.2.2.2.2.1
  have hNW := C.2.2.2.2.2.2.2.2.2.1
  have hRR : kR κ = rm := C.2.2.2.2.2.2.2.2.2.2.1
  subst hRR; subst hlau; subst hst
  have hP := kP_perm hsp hP
  have hD := kD_perm hsp hD
  obtain ⟨hPc, hDc⟩ := k_part hP hD
  have hF := k_fr hDc hS C.2.2.2.2.2.2.1
  have hts := C.2.2.2.2.1
  refine k_goes (va_runI (As := As) (rest := st) ⟨C.1, C.2.1, C.2.2.1, C.2.2.2.1, C.2.2.2.2.1⟩ (hM H.size) (cwI na hts h1 hw rfl rfl (hts _ hini) (hts _ hlk) (hts _ hinst) hy hd hR) ⟨k_blind, k_pre hPc hDc hKK hNW⟩ rfl hna hl.1 rfl (lv_room hcat) hdg ⟨hk, hn⟩) hS (fun q _ h => hF q h) hF (fun v cs' H1 locs1 hRc hP1 hD1 _ hk1 hS1 => ?_)
  obtain ⟨hP2, hD2⟩ := k_join hP hD hk1 hF hP1 hD1
  exact kk v cs' hRc H1 locs1 ls hP2 hD2 hS1 hl
theorem g_callIN {y : MethodName} {Tc ws' : List Cond} {rmc : Room} {As : List Value} {sel rest : List va_W} {Rc : Option Value → List va_W → Prop} {bytes : ByteArray} {maxL : Nat} {index : Nat} {host : String} {b : Nat} {na : Nat} {st0 : List Value} (i : Nat) (hlau : κ.2.1 = l) (C : kC κ D tys A cc nL own rm ret nm)
    (hM : kM l D tys y Tc rmc (.ref b :: As) sel Rc) (h1 : GoodIn TB Tc) (hlk : kNL[i]? = some (Cond.methodLinkNest own index y host)) (hinst : Cond.instanceMethod y ∈ TB) (hini : Cond.initialized y.cls ∈ TB) (hw : Tc = Cond.code y bytes maxL none :: ws') (hy : y.name = "<init>")
    (hd : y.cls ≠ "java/lang/invoke/MethodHandle" ∧ y.cls ≠ "java/lang/invoke/VarHandle" ∧ (parseMethodDescriptor y.desc).map (fun d => d.parameters.length) = some na) (hR : rmc.frames + 1 ≤ rm.frames ∧ 8 + (maxL + 11) + rmc.locals ≤ rm.locals)
    (hna : As.length = na) (hst : st0 = As.reverse ++ .ref b :: st) (hcat : (st.map fun v => v.category).sum ≤ 8) (hk : k + rmc.cells ≤ rm.cells) (hn : n + rmc.slots ≤ rm.slots)
    (hdg : decode cc pc = .ok (.invokespecial index, 3)) (hsp : cs.flatten.Perm (sel ++ rest).flatten) (kk : ∀ v sel', Rc v sel' → kG κ D A nL (k + rmc.cells) (n + rmc.slots) Q (sel' ++ rest) lv (pc + 3) (v.toList ++ st)) : kG κ D A nL k n Q cs lv pc st0 := by
  intro H locs ls hP hD hS hl
  have hKK := C.2.2.2.2.2.1
  have hNW := C.2.2.2.2.2.2.2.2.2.1
  have hRR : kR κ = rm := C.2.2.2.2.2.2.2.2.2.2.1
  subst hRR; subst hlau; subst hst
  have hP := kP_perm hsp hP
  have hD := kD_perm hsp hD
  obtain ⟨hPc, hDc⟩ := k_part hP hD
  have hF := k_fr hDc hS C.2.2.2.2.2.2.1
  have hts := C.2.2.2.2.1
  refine k_goes (va_runIN (As := As) (rest := st) ⟨C.1, C.2.1, C.2.2.1, C.2.2.2.1, C.2.2.2.2.1⟩ (hM H.size) ⟨va_cnB na hts h1 hw rfl rfl (hNW.1 _ (List.mem_of_getElem? hlk)) (hts _ hini) hd hR, hy, hts _ hinst⟩ ⟨k_blind, k_pre hPc hDc hKK hNW⟩ rfl hna hl.1 rfl (lv_room hcat) hdg ⟨hk, hn⟩) hS (fun q _ h => hF q h) hF (fun v cs' H1 locs1 hRc hP1 hD1 _ hk1 hS1 => ?_)
  obtain ⟨hP2, hD2⟩ := k_join hP hD hk1 hF hP1 hD1
  exact kk v cs' hRc H1 locs1 ls hP2 hD2 hS1 hl
theorem g_objInit (C : kC κ D tys A cc nL own rm ret nm) {a idx : Nat} (h1 : Cond.methodLink own idx objectInit ∈ TB) (h2 : Cond.instanceMethod objectInit ∈ TB) (h3 : Cond.code objectInit ⟨#[0xb1]⟩ 1 none ∈ TB) (hf : 1 ≤ rm.frames) (hlo : (st.map fun v => v.category).sum + 12 ≤ rm.locals) (hd : decode cc pc = .ok (.invokespecial idx, 3)) (kk : kG κ D A nL k n Q cs lv (pc + 3) st) : kG κ D A nL k n Q cs lv pc (.ref a :: st) := by
  intro H locs ls hP hD hS hl
  have hRR : kR κ = rm := C.2.2.2.2.2.2.2.2.2.2.1
  subst hRR
  have hts := C.2.2.2.2.1
  exact W.objInit C.1 C.2.1 C.2.2.2.1 (hts _ h1) (hts _ h2) (hts _ h3) rfl (hl.1.trans C.2.2.1.symm) rfl hd hf (by show 2 * 0 + _ + 12 ≤ _; omega) (kk H locs ls hP hD hS hl)
theorem tb_goodV {own Cn : String} {index : Nat} {y : MethodName} {w : Cond} (hc : w ∈ TB) (h1 : Cond.methodLink own index y ∈ TB) (h2 : Cond.instanceMethod y ∈ TB) (h3 : Cond.selects Cn y y ∈ TB) (h4 : Cond.initialized Cn ∈ TB) : GoodIn TB (wsV own index Cn y (w :: TB)) := fun q hq => by
  unfold wsV at hq
  have hb : q ∈ TB := by
    rcases List.mem_append.mp hq with h | h
    · simp only [List.mem_cons, List.not_mem_nil, or_false] at h
      rcases h with rfl | rfl | rfl | rfl <;> assumption
    · rcases List.mem_cons.mp h with rfl | h
      · exact hc
      · exact h
  exact ⟨hb, TB_good _ hb⟩
end Calls
