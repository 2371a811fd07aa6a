/-! from the first states on -/
theorem sm_all_ok : sm_all SimR := ⟨sm_down_ok, sm_up_ok, sm_side_ok, sm_step_ok, sm_top_ok, sm_back_ok, sm_letter_ok, sm_child_ok, sm_beside_ok, sm_delete_ok, sm_wrap_ok, sm_lift_ok, sm_exchange_ok, sm_cut_ok, sm_copy_ok, sm_paste_ok, sm_mark_ok, sm_goTo_ok, sm_nodeOf_ok, sm_spine_ok, sm_marked_ok, sm_count_ok, sm_like_ok, sm_meet_ok, sm_find_ok, sm_undo_ok, sm_type_ok, sm_clearText_ok, sm_write_ok, sm_fault_ok, sm_read_ok⟩
theorem rr_none (c : Nat → Int32) : RRep zR 0 c := ⟨p_0, fun i hi => by omega⟩
theorem pure_main : ∃ Sim : Nat → TP → MD → Prop, sm_all Sim ∧ (∀ t x m, t < 512 → Sim t x m → Sim (t + 1) x m) ∧ ∃ s1 s2 : ST, S_clearMarks zS = some s1 ∧ S_putNodeIn s1 0 0 0 = some s2 ∧ Sim 0 (s2, ((s1, s1, s1, s1), 0, 0), zR, zC) m0 := by
  obtain ⟨r', f1, f2⟩ := S_clearMarks_ok zS
  have h1 : CRep (zT, zT, zR, zR, r', 0, 0) 0 (fun _ => 0) (fun _ => 0) (fun _ => 0) 0 0 (fun _ => 0) 0 (fun _ => 0) (fun _ => 0) 0 (fun _ => -nI 1) :=
    ⟨⟨rr_none _, rr_none _⟩, ⟨rr_none _, rr_none _⟩, rr_none _, rr_none _, f2, p_0, p_0⟩
  obtain ⟨s2, g1, g2⟩ := S_putNodeIn_ok h1 (by omega) (Nat.le_refl 0) 0 0
  rw [← p_0] at g1
  have i0 : ∀ i, i < 1 → insN 0 0 (fun _ => 0) i = 0 := fun i hi => by
    rw [insN, if_neg (by omega), if_pos (by omega)]
  have m1n : (-1 : Int32) = -nI 1 := by rw [p_1]
  refine ⟨SimR, sm_all_ok, fun t x m ht h => sim_next ht h, (zT, zT, zR, zR, r', 0, 0), s2, f1, g1, by omega, ?_, ⟨0, p_0, 0, by omega, by omega, p_0, p_0, fun i hi => by omega⟩, 0, p_0, fun _ => 0, by omega, rr_none _, fun i hi => by omega, fun i hi => by omega⟩
  refine ⟨1, insN 0 0 (fun _ => 0), insN 0 0 (fun _ => 0), insN 0 0 (fun _ => 0), 0, 0, fun _ => 0, 0, fun _ => 0, fun _ => 0, 1, fun _ => -nI 1, fun _ => -nI 1, g2, ⟨⟨?_, fun i hi => ?_⟩, ?_, ?_, ⟨?_, fun k hk => by omega⟩, ?_, fun k hk => ?_, fun i hi => by omega⟩, WF_one (i0 0 (by omega)), fun i hi => by rw [i0 i hi]; omega, ⟨fun i hi => by rw [i0 i hi]; omega, fun i j hi hj _ => by omega⟩, by omega, by omega, fun k hk => by omega, fun k _ => ⟨Or.inl rfl, Or.inl rfl, fun i _ => Iff.rfl⟩, Or.inl rfl, by omega⟩
  · show m0s 0 = nI 1
    rw [m0s, p_upd_ne (by omega), p_upd_ne (by omega), p_upd_ne (by omega), p_upd_ne (by omega), p_upd_ne (by omega), p_upd_same, p_1]
  · have : i = 0 := by omega
    subst this
    rw [i0 0 (by omega)]
    refine ⟨?_, ?_, ?_⟩
    · show m0s (18 + 3 * 0) = nI 0
      rw [m0s, p_upd_ne (by omega), p_upd_ne (by omega), p_upd_ne (by omega), p_upd_ne (by omega), p_upd_ne (by omega), p_upd_ne (by omega)]; exact p_0
    · show m0s (18 + 3 * 0 + 1) = nI 0
      rw [m0s, p_upd_ne (by omega), p_upd_ne (by omega), p_upd_ne (by omega), p_upd_ne (by omega), p_upd_ne (by omega), p_upd_ne (by omega)]; exact p_0
    · show m0s (18 + 3 * 0 + 2) = nI 0
      rw [m0s, p_upd_ne (by omega), p_upd_ne (by omega), p_upd_ne (by omega), p_upd_ne (by omega), p_upd_ne (by omega), p_upd_ne (by omega)]; exact p_0
  · show m0s 1 = nI 1
    rw [m0s, p_upd_ne (by omega), p_upd_ne (by omega), p_upd_ne (by omega), p_upd_ne (by omega), p_upd_same, p_1]
  · show m0s 2 = nI _
    rw [i0 0 (by omega), m0s, p_upd_ne (by omega), p_upd_ne (by omega), p_upd_ne (by omega), p_upd_ne (by omega), p_upd_ne (by omega), p_upd_ne (by omega)]; exact p_0
  · show m0s 3 = nI 0
    rw [m0s, p_upd_ne (by omega), p_upd_ne (by omega), p_upd_ne (by omega), p_upd_ne (by omega), p_upd_ne (by omega), p_upd_ne (by omega)]; exact p_0
  · show m0s 4 = nI 0
    rw [m0s, p_upd_ne (by omega), p_upd_ne (by omega), p_upd_ne (by omega), p_upd_ne (by omega), p_upd_ne (by omega), p_upd_ne (by omega)]; exact p_0
  · show m0s (5 + k) = -nI 1
    rw [m0s, ← m1n]
    rcases (show k = 0 ∨ k = 1 ∨ k = 2 ∨ k = 3 by omega) with rfl | rfl | rfl | rfl
    · rw [p_upd_ne (by omega), p_upd_ne (by omega), p_upd_ne (by omega)] ; exact p_upd_same _ _ _
    · rw [p_upd_ne (by omega), p_upd_ne (by omega)] ; exact p_upd_same _ _ _
    · rw [p_upd_ne (by omega)] ; exact p_upd_same _ _ _
    · exact p_upd_same _ _ _
