/-! ===== gates, asked ===== -/
theorem nIm1 {n : Nat} (hn : n < 2 ^ 31) : (nI n - 1).toInt = (n : Int) - 1 := by
  rw [Int32.toInt_sub, nI_toInt hn]
  exact fb_bmod' (by show -2147483648 ≤ (n : Int) - 1; omega) (by show (n : Int) - 1 < 2147483648; omega)
theorem ixm (x : Int32) (n : Nat) (hn : n < 2 ^ 31) : (¬ (0 ≤ x ∧ x ≤ nI n - 1)) ∨ ∃ j : Nat, j < n ∧ x = nI j ∧ (0 ≤ x ∧ x ≤ nI n - 1) := by
  by_cases h : 0 ≤ x ∧ x ≤ nI n - 1
  · obtain ⟨j, hj, rfl⟩ := nI_of (x := x) (by rw [Int32.not_lt]; exact h.1)
    have h2 := Int32.le_iff_toInt_le.mp h.2
    rw [nIm1 hn, nI_toInt hj] at h2
    exact Or.inr ⟨j, by omega, rfl, h⟩
  · exact Or.inl h
theorem q_at_no {g : GS} {n : Nat} (en : z_rsize g = nI n) {a1 : Int32} (h : ¬ (0 ≤ a1 ∧ a1 ≤ nI n - 1)) {post : Option Nat → GS → Prop} : vRow_at g a1 post ↔ post none g := by
  unfold vRow_at
  rw [en]
  simp only [q_within, if_neg h, true_implies, not_true_eq_false, not_false_eq_true, false_implies, and_true, true_and, i10, i00]
theorem q_at_yes {g : GS} {n j : Nat} (en : z_rsize g = nI n) (hn : n ≤ 6) (hj : j < n) (ej : z_ga g j = some j) (h : 0 ≤ nI j ∧ nI j ≤ nI n - 1) {post : Option Nat → GS → Prop} : vRow_at g (nI j) post ↔ post (some j) g := by
  unfold vRow_at
  rw [en, nI_clamp (show j < 2 ^ 31 by omega)]
  have hin : vp_in (nI j) 6 := vp_in_nI (by omega) (by decide)
  simp only [q_within, if_pos h, true_implies, not_true_eq_false, not_false_eq_true, false_implies, and_true, true_and, i10, i00, hin, ej]
  constructor
  · intro q
    exact q.2 j rfl
  · intro q
    exact ⟨(fun e => by cases e), fun k e => by cases e; exact q⟩
theorem q_isGate {m : GM} {n : Nat} (en : m_gates m = nI n) {a1 : Int32} {post : Int32 → GM → Prop} : vM_isGate m a1 post ↔ (if 0 ≤ a1 ∧ a1 ≤ nI n - 1 then post 1 m else post 0 m) := by
  unfold vM_isGate
  rw [en, q_in00]
  simp only [jz1, jz0, true_implies, not_true_eq_false, not_false_eq_true, false_implies, and_true, true_and, i10, i00]
theorem kd_le (a b : Int32) : kd a b = 0 ∨ kd a b = 1 ∨ kd a b = 2 ∨ kd a b = 3 := by
  unfold kd
  split <;> split <;> simp
theorem q_kindOf {m : GM} {j : Nat} (hj : j < 6) {post : Int32 → GM → Prop} : vM_kindOf m (nI j) post ↔ post (nI (kd (m_minutes m j) (m_hand m j))) m := by
  unfold vM_kindOf kd
  rw [nI_clamp (show j < 2 ^ 31 by omega)]
  have hin : vp_in (nI j) 6 := vp_in_nI hj (by decide)
  simp only [hin, true_implies, not_true_eq_false, not_false_eq_true, false_implies, and_true, true_and, i10, i00]
  by_cases c : m_hand m j ≤ 0
  · have c2 : ¬ 0 < m_hand m j := Int32.not_lt.mpr c
    rw [if_neg c2]
    simp only [eq_true c, true_implies, not_true_eq_false, not_false_eq_true, false_implies, and_true, true_and, i10, i00]
    by_cases c3 : m_minutes m j < 200
    · rw [if_neg (Int32.not_le.mpr c3)]
      simp only [eq_true c3, true_implies, not_true_eq_false, not_false_eq_true, false_implies, and_true, true_and, i10, i00]
      rfl
    · rw [if_pos (Int32.not_lt.mp c3)]
      simp only [eq_false c3, true_implies, not_true_eq_false, not_false_eq_true, false_implies, and_true, true_and, i10, i00]
      rfl
  · have c2 : 0 < m_hand m j := Int32.not_le.mp c
    rw [if_pos c2]
    simp only [eq_false c, true_implies, not_true_eq_false, not_false_eq_true, false_implies, and_true, true_and, i10, i00]
    by_cases c3 : m_minutes m j < m_hand m j
    · rw [if_neg (Int32.not_le.mpr c3)]
      simp only [eq_true c3, true_implies, not_true_eq_false, not_false_eq_true, false_implies, and_true, true_and, i10, i00]
      rfl
    · rw [if_pos (Int32.not_lt.mp c3)]
      simp only [eq_false c3, true_implies, not_true_eq_false, not_false_eq_true, false_implies, and_true, true_and, i10, i00]
      rfl
theorem nar1 : vp_nar .boolean 1 = 1 := rfl
theorem nar0 : vp_nar .boolean 0 = 0 := rfl
theorem RGa_fail {ga : Nat → Option Nat} {rsize : Int32} {gk : Nat → Nat} {gm gh gf : Nat → Int32} {gn : Nat} {gates : Int32} {minutes hand hasFailed : Nat → Int32} (h : RGa ga rsize gk gm gh gf gn gates minutes hand hasFailed) {j : Nat} (hj : j < gn) {v : Int32} (hv : jz v) : RGa ga rsize gk gm gh (upd gf j v) gn gates minutes hand (upd hasFailed j v) := by
  obtain ⟨h1, h2, h3, h4, h5, h6⟩ := h
  refine ⟨h1, h2, h3, h4, fun k hk => ?_, fun k hk hk2 => ?_⟩
  · obtain ⟨a, b, q1, q2, q3, q4, q5, q6, q7, q8, q9, q10⟩ := h5 k hk
    refine ⟨a, b, q1, q2, q3, q4, q5, q6, q7, q8, ?_, ?_⟩
    · by_cases e : k = j
      · subst e
        rw [pk_us, pk_us]
      · rw [pk_un e, pk_un e]
        exact q9
    · by_cases e : k = j
      · subst e
        rw [pk_us]
        exact hv
      · rw [pk_un e]
        exact q10
  · rw [pk_un (by omega)]
    exact h6 k hk hk2
theorem sim_fail {g : GS} {m : GM} (h : R g m) (a1 : Int32) : vSG_fail g a1 (fun r g' => vM_fail m a1 (fun r' m' => r = r' ∧ R g' m')) := by
  unfold vSG_fail vSG_becomes
  have hga := h.ga
  obtain ⟨h1, h2, h3, h4, h5, h6⟩ := h.ga
  rcases ixm a1 (z_gn g) (by omega) with c | ⟨j, hj, rfl, c⟩
  · simp only [q_at_no h2 c, true_implies]
    refine ⟨?_, fun k e => by cases e⟩
    unfold vM_fail
    simp only [q_isGate (m := sm_thrown m 0) h3, if_neg c, true_implies, not_true_eq_false, not_false_eq_true, false_implies, and_true, true_and, i10, i00, R, mm_thrown_thrown, mm_status_thrown, mm_rule_thrown, mm_river_thrown, mm_lane_thrown, mm_many_thrown, mm_item_thrown, mm_worlds_thrown, mm_weight_thrown, mm_sea_thrown, mm_least_thrown, mm_isTold_thrown, mm_gates_thrown, mm_minutes_thrown, mm_hand_thrown, mm_hasFailed_thrown, mm_crew_thrown, mm_ships_thrown, mm_comes_thrown, mm_takes_thrown, mm_trace_thrown, mm_traced_thrown, uSh_thrown, uSea_thrown, uGa_thrown, uSp_thrown, uTr_thrown]
    exact h
  · simp only [q_at_yes h2 h1 hj (by rw [h4, if_pos hj]) c]
    refine ⟨(fun e => by cases e), fun k e => ?_⟩
    cases e
    obtain ⟨a, b, q1, q2, q3, q4, q5, q6, q7, q8, q9, q10⟩ := h5 j hj
    have hin : vp_in (nI j) 6 := vp_in_nI (by omega) (by decide)
    refine ⟨hj, fun c1 => ?_, fun c1 => ?_⟩
    · have c2 : m_hasFailed m j = 0 := by
        rw [← q9]
        exact q10.resolve_right c1
      unfold vSG_becomes_29 vM_fail
      simp only [q_isGate (m := sm_thrown m 0) h3, if_pos c, true_implies, not_true_eq_false, not_false_eq_true, false_implies, and_true, true_and, i10, i00, R, zz_finding_gf, zz_items_gf, zz_lanes_gf, zz_sizes_gf, zz_weights_gf, zz_levels_gf, zz_heads_gf, zz_ssize_gf, zz_rules_gf, zz_rivers_gf, zz_orders_gf, zz_now_gf, zz_then_gf, zz_loss_gf, zz_stale_gf, zz_ga_gf, zz_free_gf, zz_rsize_gf, zz_fmin_gf, zz_fpass_gf, zz_inTurn_gf, zz_fsize_gf, zz_numbers_gf, zz_tlen_gf, zz_gk_gf, zz_gm_gf, zz_gh_gf, zz_gf_gf, zz_gn_gf, vSh_gf, vSea_gf, vGa_gf, vSp_gf, vTr_gf, mm_thrown_thrown, mm_status_thrown, mm_rule_thrown, mm_river_thrown, mm_lane_thrown, mm_many_thrown, mm_item_thrown, mm_worlds_thrown, mm_weight_thrown, mm_sea_thrown, mm_least_thrown, mm_isTold_thrown, mm_gates_thrown, mm_minutes_thrown, mm_hand_thrown, mm_hasFailed_thrown, mm_crew_thrown, mm_ships_thrown, mm_comes_thrown, mm_takes_thrown, mm_trace_thrown, mm_traced_thrown, uSh_thrown, uSea_thrown, uGa_thrown, uSp_thrown, uTr_thrown, mm_thrown_hasFailed, mm_status_hasFailed, mm_rule_hasFailed, mm_river_hasFailed, mm_lane_hasFailed, mm_many_hasFailed, mm_item_hasFailed, mm_worlds_hasFailed, mm_weight_hasFailed, mm_sea_hasFailed, mm_least_hasFailed, mm_isTold_hasFailed, mm_gates_hasFailed, mm_minutes_hasFailed, mm_hand_hasFailed, mm_hasFailed_hasFailed, mm_crew_hasFailed, mm_ships_hasFailed, mm_comes_hasFailed, mm_takes_hasFailed, mm_trace_hasFailed, mm_traced_hasFailed, uSh_hasFailed, uSea_hasFailed, uGa_hasFailed, uSp_hasFailed, uTr_hasFailed, nI_clamp (show j < 2 ^ 31 by omega), hin, hj, c2, nar1, jz1]
      exact ⟨h.1, h.2.1, h.2.2.1, RGa_fail hga hj (Or.inr rfl), h.2.2.2.2⟩
    · have c2 : ¬ m_hasFailed m j = 0 := by
        rw [← q9, c1]
        decide
      unfold vSG_becomes_29 vM_fail
      simp only [q_isGate (m := sm_thrown m 0) h3, if_pos c, true_implies, not_true_eq_false, not_false_eq_true, false_implies, and_true, true_and, i10, i00, R, zz_finding_gf, zz_items_gf, zz_lanes_gf, zz_sizes_gf, zz_weights_gf, zz_levels_gf, zz_heads_gf, zz_ssize_gf, zz_rules_gf, zz_rivers_gf, zz_orders_gf, zz_now_gf, zz_then_gf, zz_loss_gf, zz_stale_gf, zz_ga_gf, zz_free_gf, zz_rsize_gf, zz_fmin_gf, zz_fpass_gf, zz_inTurn_gf, zz_fsize_gf, zz_numbers_gf, zz_tlen_gf, zz_gk_gf, zz_gm_gf, zz_gh_gf, zz_gf_gf, zz_gn_gf, vSh_gf, vSea_gf, vGa_gf, vSp_gf, vTr_gf, mm_thrown_thrown, mm_status_thrown, mm_rule_thrown, mm_river_thrown, mm_lane_thrown, mm_many_thrown, mm_item_thrown, mm_worlds_thrown, mm_weight_thrown, mm_sea_thrown, mm_least_thrown, mm_isTold_thrown, mm_gates_thrown, mm_minutes_thrown, mm_hand_thrown, mm_hasFailed_thrown, mm_crew_thrown, mm_ships_thrown, mm_comes_thrown, mm_takes_thrown, mm_trace_thrown, mm_traced_thrown, uSh_thrown, uSea_thrown, uGa_thrown, uSp_thrown, uTr_thrown, mm_thrown_hasFailed, mm_status_hasFailed, mm_rule_hasFailed, mm_river_hasFailed, mm_lane_hasFailed, mm_many_hasFailed, mm_item_hasFailed, mm_worlds_hasFailed, mm_weight_hasFailed, mm_sea_hasFailed, mm_least_hasFailed, mm_isTold_hasFailed, mm_gates_hasFailed, mm_minutes_hasFailed, mm_hand_hasFailed, mm_hasFailed_hasFailed, mm_crew_hasFailed, mm_ships_hasFailed, mm_comes_hasFailed, mm_takes_hasFailed, mm_trace_hasFailed, mm_traced_hasFailed, uSh_hasFailed, uSea_hasFailed, uGa_hasFailed, uSp_hasFailed, uTr_hasFailed, nI_clamp (show j < 2 ^ 31 by omega), hin, hj, eq_false c2, nar1, jz1]
      exact ⟨h.1, h.2.1, h.2.2.1, RGa_fail hga hj (Or.inr rfl), h.2.2.2.2⟩
theorem sim_mend {g : GS} {m : GM} (h : R g m) (a1 : Int32) : vSG_mend g a1 (fun r g' => vM_mend m a1 (fun r' m' => r = r' ∧ R g' m')) := by
  unfold vSG_mend vSG_becomes
  have hga := h.ga
  obtain ⟨h1, h2, h3, h4, h5, h6⟩ := h.ga
  rcases ixm a1 (z_gn g) (by omega) with c | ⟨j, hj, rfl, c⟩
  · simp only [q_at_no h2 c, true_implies]
    refine ⟨?_, fun k e => by cases e⟩
    unfold vM_mend
    simp only [q_isGate (m := sm_thrown m 0) h3, if_neg c, true_implies, not_true_eq_false, not_false_eq_true, false_implies, and_true, true_and, i10, i00, R, mm_thrown_thrown, mm_status_thrown, mm_rule_thrown, mm_river_thrown, mm_lane_thrown, mm_many_thrown, mm_item_thrown, mm_worlds_thrown, mm_weight_thrown, mm_sea_thrown, mm_least_thrown, mm_isTold_thrown, mm_gates_thrown, mm_minutes_thrown, mm_hand_thrown, mm_hasFailed_thrown, mm_crew_thrown, mm_ships_thrown, mm_comes_thrown, mm_takes_thrown, mm_trace_thrown, mm_traced_thrown, uSh_thrown, uSea_thrown, uGa_thrown, uSp_thrown, uTr_thrown]
    exact h
  · simp only [q_at_yes h2 h1 hj (by rw [h4, if_pos hj]) c]
    refine ⟨(fun e => by cases e), fun k e => ?_⟩
    cases e
    obtain ⟨a, b, q1, q2, q3, q4, q5, q6, q7, q8, q9, q10⟩ := h5 j hj
    have hin : vp_in (nI j) 6 := vp_in_nI (by omega) (by decide)
    refine ⟨hj, fun c1 => ?_, fun c1 => ?_⟩
    · have c2 : ¬ m_hasFailed m j = 0 := by
        rw [← q9]
        exact c1
      unfold vSG_becomes_29 vM_mend
      simp only [q_isGate (m := sm_thrown m 0) h3, if_pos c, true_implies, not_true_eq_false, not_false_eq_true, false_implies, and_true, true_and, i10, i00, R, zz_finding_gf, zz_items_gf, zz_lanes_gf, zz_sizes_gf, zz_weights_gf, zz_levels_gf, zz_heads_gf, zz_ssize_gf, zz_rules_gf, zz_rivers_gf, zz_orders_gf, zz_now_gf, zz_then_gf, zz_loss_gf, zz_stale_gf, zz_ga_gf, zz_free_gf, zz_rsize_gf, zz_fmin_gf, zz_fpass_gf, zz_inTurn_gf, zz_fsize_gf, zz_numbers_gf, zz_tlen_gf, zz_gk_gf, zz_gm_gf, zz_gh_gf, zz_gf_gf, zz_gn_gf, vSh_gf, vSea_gf, vGa_gf, vSp_gf, vTr_gf, mm_thrown_thrown, mm_status_thrown, mm_rule_thrown, mm_river_thrown, mm_lane_thrown, mm_many_thrown, mm_item_thrown, mm_worlds_thrown, mm_weight_thrown, mm_sea_thrown, mm_least_thrown, mm_isTold_thrown, mm_gates_thrown, mm_minutes_thrown, mm_hand_thrown, mm_hasFailed_thrown, mm_crew_thrown, mm_ships_thrown, mm_comes_thrown, mm_takes_thrown, mm_trace_thrown, mm_traced_thrown, uSh_thrown, uSea_thrown, uGa_thrown, uSp_thrown, uTr_thrown, mm_thrown_hasFailed, mm_status_hasFailed, mm_rule_hasFailed, mm_river_hasFailed, mm_lane_hasFailed, mm_many_hasFailed, mm_item_hasFailed, mm_worlds_hasFailed, mm_weight_hasFailed, mm_sea_hasFailed, mm_least_hasFailed, mm_isTold_hasFailed, mm_gates_hasFailed, mm_minutes_hasFailed, mm_hand_hasFailed, mm_hasFailed_hasFailed, mm_crew_hasFailed, mm_ships_hasFailed, mm_comes_hasFailed, mm_takes_hasFailed, mm_trace_hasFailed, mm_traced_hasFailed, uSh_hasFailed, uSea_hasFailed, uGa_hasFailed, uSp_hasFailed, uTr_hasFailed, nI_clamp (show j < 2 ^ 31 by omega), hin, hj, eq_false c2, nar0, jz0]
      exact ⟨h.1, h.2.1, h.2.2.1, RGa_fail hga hj (Or.inl rfl), h.2.2.2.2⟩
    · have c2 : m_hasFailed m j = 0 := by
        rw [← q9, c1]
      unfold vSG_becomes_29 vM_mend
      simp only [q_isGate (m := sm_thrown m 0) h3, if_pos c, true_implies, not_true_eq_false, not_false_eq_true, false_implies, and_true, true_and, i10, i00, R, zz_finding_gf, zz_items_gf, zz_lanes_gf, zz_sizes_gf, zz_weights_gf, zz_levels_gf, zz_heads_gf, zz_ssize_gf, zz_rules_gf, zz_rivers_gf, zz_orders_gf, zz_now_gf, zz_then_gf, zz_loss_gf, zz_stale_gf, zz_ga_gf, zz_free_gf, zz_rsize_gf, zz_fmin_gf, zz_fpass_gf, zz_inTurn_gf, zz_fsize_gf, zz_numbers_gf, zz_tlen_gf, zz_gk_gf, zz_gm_gf, zz_gh_gf, zz_gf_gf, zz_gn_gf, vSh_gf, vSea_gf, vGa_gf, vSp_gf, vTr_gf, mm_thrown_thrown, mm_status_thrown, mm_rule_thrown, mm_river_thrown, mm_lane_thrown, mm_many_thrown, mm_item_thrown, mm_worlds_thrown, mm_weight_thrown, mm_sea_thrown, mm_least_thrown, mm_isTold_thrown, mm_gates_thrown, mm_minutes_thrown, mm_hand_thrown, mm_hasFailed_thrown, mm_crew_thrown, mm_ships_thrown, mm_comes_thrown, mm_takes_thrown, mm_trace_thrown, mm_traced_thrown, uSh_thrown, uSea_thrown, uGa_thrown, uSp_thrown, uTr_thrown, mm_thrown_hasFailed, mm_status_hasFailed, mm_rule_hasFailed, mm_river_hasFailed, mm_lane_hasFailed, mm_many_hasFailed, mm_item_hasFailed, mm_worlds_hasFailed, mm_weight_hasFailed, mm_sea_hasFailed, mm_least_hasFailed, mm_isTold_hasFailed, mm_gates_hasFailed, mm_minutes_hasFailed, mm_hand_hasFailed, mm_hasFailed_hasFailed, mm_crew_hasFailed, mm_ships_hasFailed, mm_comes_hasFailed, mm_takes_hasFailed, mm_trace_hasFailed, mm_traced_hasFailed, uSh_hasFailed, uSea_hasFailed, uGa_hasFailed, uSp_hasFailed, uTr_hasFailed, nI_clamp (show j < 2 ^ 31 by omega), hin, hj, c2, nar0, jz0]
      exact ⟨h.1, h.2.1, h.2.2.1, RGa_fail hga hj (Or.inl rfl), h.2.2.2.2⟩
theorem sim_gate {g : GS} {m : GM} (h : R g m) (a1 a2 : Int32) : vSG_gate g a1 a2 (fun r g' => vM_gate m a1 a2 (fun r' m' => r = r' ∧ R g' m')) := by
  unfold vSG_gate
  by_cases c1 : 1 ≤ a1 ∧ a1 ≤ 500
  rotate_left
  · simp only [q_within, if_neg c1, true_implies, not_true_eq_false, not_false_eq_true, false_implies, and_true, true_and, i10, i00]
    unfold vM_gate
    simp only [q_inL 1 500 1 500 rfl rfl, n1, show nI 500 = (500 : Int32) from rfl, if_neg c1, true_implies, not_true_eq_false, not_false_eq_true, false_implies, and_true, true_and, i10, i00, R, mm_thrown_thrown, mm_status_thrown, mm_rule_thrown, mm_river_thrown, mm_lane_thrown, mm_many_thrown, mm_item_thrown, mm_worlds_thrown, mm_weight_thrown, mm_sea_thrown, mm_least_thrown, mm_isTold_thrown, mm_gates_thrown, mm_minutes_thrown, mm_hand_thrown, mm_hasFailed_thrown, mm_crew_thrown, mm_ships_thrown, mm_comes_thrown, mm_takes_thrown, mm_trace_thrown, mm_traced_thrown, uSh_thrown, uSea_thrown, uGa_thrown, uSp_thrown, uTr_thrown]
    exact h
  by_cases c2 : 0 ≤ a2 ∧ a2 ≤ 2000
  rotate_left
  · simp only [q_within, if_pos c1, if_neg c2, true_implies, not_true_eq_false, not_false_eq_true, false_implies, and_true, true_and, i10, i00]
    unfold vM_gate
    simp only [q_inL 1 500 1 500 rfl rfl, n1, show nI 500 = (500 : Int32) from rfl, if_pos c1, q_in0 2000 2000 rfl, show nI 2000 = (2000 : Int32) from rfl, if_neg c2, true_implies, not_true_eq_false, not_false_eq_true, false_implies, and_true, true_and, i10, i00, R, mm_thrown_thrown, mm_status_thrown, mm_rule_thrown, mm_river_thrown, mm_lane_thrown, mm_many_thrown, mm_item_thrown, mm_worlds_thrown, mm_weight_thrown, mm_sea_thrown, mm_least_thrown, mm_isTold_thrown, mm_gates_thrown, mm_minutes_thrown, mm_hand_thrown, mm_hasFailed_thrown, mm_crew_thrown, mm_ships_thrown, mm_comes_thrown, mm_takes_thrown, mm_trace_thrown, mm_traced_thrown, uSh_thrown, uSea_thrown, uGa_thrown, uSp_thrown, uTr_thrown]
    exact h
  obtain ⟨h1, h2, h3, h4, h5, h6⟩ := h.ga
  simp only [q_within, if_pos c1, if_pos c2, true_implies, not_true_eq_false, not_false_eq_true, false_implies, and_true, true_and, i10, i00, h2]
  by_cases c3 : z_gn g = 6
  · have e1 : ¬ nI (z_gn g) < (6 : Int32) := by rw [c3]; decide
    have e2 : m_gates m = 6 := by rw [h3, c3]; rfl
    simp only [eq_false e1, true_implies, not_true_eq_false, not_false_eq_true, false_implies, and_true, true_and, i10, i00]
    unfold vM_gate
    simp only [q_inL 1 500 1 500 rfl rfl, n1, show nI 500 = (500 : Int32) from rfl, if_pos c1, q_in0 2000 2000 rfl, show nI 2000 = (2000 : Int32) from rfl, if_pos c2, true_implies, not_true_eq_false, not_false_eq_true, false_implies, and_true, true_and, i10, i00, R, mm_thrown_thrown, mm_status_thrown, mm_rule_thrown, mm_river_thrown, mm_lane_thrown, mm_many_thrown, mm_item_thrown, mm_worlds_thrown, mm_weight_thrown, mm_sea_thrown, mm_least_thrown, mm_isTold_thrown, mm_gates_thrown, mm_minutes_thrown, mm_hand_thrown, mm_hasFailed_thrown, mm_crew_thrown, mm_ships_thrown, mm_comes_thrown, mm_takes_thrown, mm_trace_thrown, mm_traced_thrown, uSh_thrown, uSea_thrown, uGa_thrown, uSp_thrown, uTr_thrown, eq_true e2]
    exact h
  · have hlt : z_gn g < 6 := by omega
    have e1 : nI (z_gn g) < (6 : Int32) := nI_lt (b := 6) hlt (by decide)
    have e2 : ¬ nI (z_gn g) = (6 : Int32) := fun q => c3 ((nI_eq (b := 6) (by omega) (by decide)).mp q)
    simp only [eq_true e1, true_implies, not_true_eq_false, not_false_eq_true, false_implies, and_true, true_and, i10, i00, c2.1]
    refine ⟨fun j k e => ?_, ?_⟩
    · rw [h4] at e
      by_cases q : j < z_gn g
      · rw [if_pos q] at e
        cases e
        exact q
      · rw [if_neg q] at e
        cases e
    unfold vRow_add
    simp only [gnew_finding, gnew_items, gnew_lanes, gnew_sizes, gnew_weights, gnew_levels, gnew_heads, gnew_ssize, gnew_rules, gnew_rivers, gnew_orders, gnew_now, gnew_then, gnew_loss, gnew_stale, gnew_ga, gnew_free, gnew_rsize, gnew_fmin, gnew_fpass, gnew_inTurn, gnew_fsize, gnew_numbers, gnew_tlen, gnew_gk, gnew_gm, gnew_gh, gnew_gf, gnew_gn, vSh_gnew, vSea_gnew, vGa_gnew, vSp_gnew, vTr_gnew, h2]
    refine ⟨by omega, vp_in_nI hlt (by decide), ?_⟩
    unfold vM_gate
    have hin : vp_in (nI (z_gn g)) 6 := vp_in_nI hlt (by decide)
    simp only [q_inL 1 500 1 500 rfl rfl, n1, show nI 500 = (500 : Int32) from rfl, if_pos c1, q_in0 2000 2000 rfl, show nI 2000 = (2000 : Int32) from rfl, if_pos c2, true_implies, not_true_eq_false, not_false_eq_true, false_implies, and_true, true_and, i10, i00, R, zz_finding_ga, zz_items_ga, zz_lanes_ga, zz_sizes_ga, zz_weights_ga, zz_levels_ga, zz_heads_ga, zz_ssize_ga, zz_rules_ga, zz_rivers_ga, zz_orders_ga, zz_now_ga, zz_then_ga, zz_loss_ga, zz_stale_ga, zz_ga_ga, zz_free_ga, zz_rsize_ga, zz_fmin_ga, zz_fpass_ga, zz_inTurn_ga, zz_fsize_ga, zz_numbers_ga, zz_tlen_ga, zz_gk_ga, zz_gm_ga, zz_gh_ga, zz_gf_ga, zz_gn_ga, vSh_ga, vSea_ga, vGa_ga, vSp_ga, vTr_ga, zz_finding_rsize, zz_items_rsize, zz_lanes_rsize, zz_sizes_rsize, zz_weights_rsize, zz_levels_rsize, zz_heads_rsize, zz_ssize_rsize, zz_rules_rsize, zz_rivers_rsize, zz_orders_rsize, zz_now_rsize, zz_then_rsize, zz_loss_rsize, zz_stale_rsize, zz_ga_rsize, zz_free_rsize, zz_rsize_rsize, zz_fmin_rsize, zz_fpass_rsize, zz_inTurn_rsize, zz_fsize_rsize, zz_numbers_rsize, zz_tlen_rsize, zz_gk_rsize, zz_gm_rsize, zz_gh_rsize, zz_gf_rsize, zz_gn_rsize, vSh_rsize, vSea_rsize, vGa_rsize, vSp_rsize, vTr_rsize, gnew_finding, gnew_items, gnew_lanes, gnew_sizes, gnew_weights, gnew_levels, gnew_heads, gnew_ssize, gnew_rules, gnew_rivers, gnew_orders, gnew_now, gnew_then, gnew_loss, gnew_stale, gnew_ga, gnew_free, gnew_rsize, gnew_fmin, gnew_fpass, gnew_inTurn, gnew_fsize, gnew_numbers, gnew_tlen, gnew_gk, gnew_gm, gnew_gh, gnew_gf, gnew_gn, vSh_gnew, vSea_gnew, vGa_gnew, vSp_gnew, vTr_gnew, mm_thrown_thrown, mm_status_thrown, mm_rule_thrown, mm_river_thrown, mm_lane_thrown, mm_many_thrown, mm_item_thrown, mm_worlds_thrown, mm_weight_thrown, mm_sea_thrown, mm_least_thrown, mm_isTold_thrown, mm_gates_thrown, mm_minutes_thrown, mm_hand_thrown, mm_hasFailed_thrown, mm_crew_thrown, mm_ships_thrown, mm_comes_thrown, mm_takes_thrown, mm_trace_thrown, mm_traced_thrown, uSh_thrown, uSea_thrown, uGa_thrown, uSp_thrown, uTr_thrown, mm_thrown_gates, mm_status_gates, mm_rule_gates, mm_river_gates, mm_lane_gates, mm_many_gates, mm_item_gates, mm_worlds_gates, mm_weight_gates, mm_sea_gates, mm_least_gates, mm_isTold_gates, mm_gates_gates, mm_minutes_gates, mm_hand_gates, mm_hasFailed_gates, mm_crew_gates, mm_ships_gates, mm_comes_gates, mm_takes_gates, mm_trace_gates, mm_traced_gates, uSh_gates, uSea_gates, uGa_gates, uSp_gates, uTr_gates, mm_thrown_hand, mm_status_hand, mm_rule_hand, mm_river_hand, mm_lane_hand, mm_many_hand, mm_item_hand, mm_worlds_hand, mm_weight_hand, mm_sea_hand, mm_least_hand, mm_isTold_hand, mm_gates_hand, mm_minutes_hand, mm_hand_hand, mm_hasFailed_hand, mm_crew_hand, mm_ships_hand, mm_comes_hand, mm_takes_hand, mm_trace_hand, mm_traced_hand, uSh_hand, uSea_hand, uGa_hand, uSp_hand, uTr_hand, mm_thrown_minutes, mm_status_minutes, mm_rule_minutes, mm_river_minutes, mm_lane_minutes, mm_many_minutes, mm_item_minutes, mm_worlds_minutes, mm_weight_minutes, mm_sea_minutes, mm_least_minutes, mm_isTold_minutes, mm_gates_minutes, mm_minutes_minutes, mm_hand_minutes, mm_hasFailed_minutes, mm_crew_minutes, mm_ships_minutes, mm_comes_minutes, mm_takes_minutes, mm_trace_minutes, mm_traced_minutes, uSh_minutes, uSea_minutes, uGa_minutes, uSp_minutes, uTr_minutes, eq_false e2, h3, hin, nI_clamp (show z_gn g < 2 ^ 31 by omega), nI_1, nI_pred]
    refine ⟨h.1, h.2.1, h.2.2.1, ?_, h.2.2.2.2⟩
    obtain ⟨a, ha, rfl⟩ := nI_of2 (x := a1) (M := 500) (n := 500) (by decide) (fun q => absurd (Int32.le_trans c1.1 (Int32.le_of_lt q)) (by decide)) c1.2
    obtain ⟨b, hb, rfl⟩ := nI_of2 (x := a2) (M := 2000) (n := 2000) (by decide) (Int32.not_lt.mpr c2.1) c2.2
    have ha1 : 1 ≤ a := (nI_leI (a := 1) (by decide) (by omega)).mp c1.1
    refine ⟨(by show z_gn g + 1 ≤ 6; omega), rfl, rfl, fun j => ?_, fun k hk => ?_, fun k hk hk2 => ?_⟩
    · show va_up (z_ga g) (z_gn g) (some (z_gn g)) j = if j < z_gn g + 1 then some j else none
      unfold va_up
      by_cases e : j = z_gn g
      · subst e
        rw [if_pos rfl, if_pos (Nat.lt_succ_self _)]
      · rw [if_neg e, h4]
        by_cases q : j < z_gn g
        · rw [if_pos q, if_pos (by omega)]
        · rw [if_neg q, if_neg (by omega)]
    · have hk : k < z_gn g + 1 := hk
      show ∃ a' b' : Nat, 1 ≤ a' ∧ a' ≤ 500 ∧ b' ≤ 2000 ∧ upd (z_gm g) (z_gn g) (nI a) k = nI a' ∧ upd (m_minutes m) (z_gn g) (nI a) k = nI a' ∧ upd (z_gh g) (z_gn g) (nI b) k = nI b' ∧ upd (m_hand m) (z_gn g) (nI b) k = nI b' ∧ va_up (z_gk g) (z_gn g) (kd (nI a) (nI b)) k = kd (nI a') (nI b') ∧ upd (z_gf g) (z_gn g) 0 k = m_hasFailed m k ∧ jz (upd (z_gf g) (z_gn g) 0 k)
      by_cases e : k = z_gn g
      · subst e
        refine ⟨a, b, ha1, ha, hb, pk_us, pk_us, pk_us, pk_us, ?_, ?_, ?_⟩
        · unfold va_up
          rw [if_pos rfl]
        · rw [pk_us, h6 _ (Nat.le_refl _) hlt]
        · rw [pk_us]
          exact Or.inl rfl
      · obtain ⟨a', b', q1, q2, q3, q4, q5, q6, q7, q8, q9, q10⟩ := h5 k (by omega)
        refine ⟨a', b', q1, q2, q3, (pk_un e).trans q4, (pk_un e).trans q5, (pk_un e).trans q6, (pk_un e).trans q7, ?_, (pk_un e).trans q9, ?_⟩
        · unfold va_up
          rw [if_neg e]
          exact q8
        · rw [pk_un e]
          exact q10
    · have hk : z_gn g + 1 ≤ k := hk
      exact h6 k (by omega) hk2
theorem sim_kind {g : GS} {m : GM} (h : R g m) (a1 : Int32) : vSG_kind g a1 (fun r g' => vM_kind m a1 (fun r' m' => r = r' ∧ R g' m')) := by
  unfold vSG_kind
  obtain ⟨h1, h2, h3, h4, h5, h6⟩ := h.ga
  rcases ixm a1 (z_gn g) (by omega) with c | ⟨j, hj, rfl, c⟩
  · simp only [q_at_no h2 c, true_implies]
    refine ⟨?_, fun k e => by cases e⟩
    unfold vM_kind
    simp only [q_isGate (m := sm_thrown m 0) h3, if_neg c, true_implies, not_true_eq_false, not_false_eq_true, false_implies, and_true, true_and, i10, i00, R, mm_thrown_thrown, mm_status_thrown, mm_rule_thrown, mm_river_thrown, mm_lane_thrown, mm_many_thrown, mm_item_thrown, mm_worlds_thrown, mm_weight_thrown, mm_sea_thrown, mm_least_thrown, mm_isTold_thrown, mm_gates_thrown, mm_minutes_thrown, mm_hand_thrown, mm_hasFailed_thrown, mm_crew_thrown, mm_ships_thrown, mm_comes_thrown, mm_takes_thrown, mm_trace_thrown, mm_traced_thrown, uSh_thrown, uSea_thrown, uGa_thrown, uSp_thrown, uTr_thrown]
    exact h
  · simp only [q_at_yes h2 h1 hj (by rw [h4, if_pos hj]) c]
    refine ⟨(fun e => by cases e), fun k e => ?_⟩
    cases e
    obtain ⟨a, b, q1, q2, q3, q4, q5, q6, q7, q8, q9, q10⟩ := h5 j hj
    have hM : ∀ post : Int32 → GM → Prop, post (nI (kd (nI a) (nI b))) (sm_thrown m 0) → vM_kind m (nI j) post := by
      intro post hp
      unfold vM_kind
      simp only [q_isGate (m := sm_thrown m 0) h3, if_pos c, true_implies, not_true_eq_false, not_false_eq_true, false_implies, and_true, true_and, i10, i00, q_kindOf (m := sm_thrown m 0) (show j < 6 by omega), mm_thrown_thrown, mm_status_thrown, mm_rule_thrown, mm_river_thrown, mm_lane_thrown, mm_many_thrown, mm_item_thrown, mm_worlds_thrown, mm_weight_thrown, mm_sea_thrown, mm_least_thrown, mm_isTold_thrown, mm_gates_thrown, mm_minutes_thrown, mm_hand_thrown, mm_hasFailed_thrown, mm_crew_thrown, mm_ships_thrown, mm_comes_thrown, mm_takes_thrown, mm_trace_thrown, mm_traced_thrown, uSh_thrown, uSea_thrown, uGa_thrown, uSp_thrown, uTr_thrown, q5, q7]
      exact hp
    have hR : R g (sm_thrown m 0) := by
      simp only [R, mm_thrown_thrown, mm_status_thrown, mm_rule_thrown, mm_river_thrown, mm_lane_thrown, mm_many_thrown, mm_item_thrown, mm_worlds_thrown, mm_weight_thrown, mm_sea_thrown, mm_least_thrown, mm_isTold_thrown, mm_gates_thrown, mm_minutes_thrown, mm_hand_thrown, mm_hasFailed_thrown, mm_crew_thrown, mm_ships_thrown, mm_comes_thrown, mm_takes_thrown, mm_trace_thrown, mm_traced_thrown, uSh_thrown, uSea_thrown, uGa_thrown, uSp_thrown, uTr_thrown]
      exact h
    unfold vGate_toldAs vHanded_toldAs vTwin_toldAs vSlow_toldAs
    rw [q8]
    refine ⟨hj, kd_le _ _, fun e => ⟨hj, hM _ ⟨?_, hR⟩⟩, fun e => ⟨hj, hM _ ⟨?_, hR⟩⟩, fun e => ⟨hj, hM _ ⟨?_, hR⟩⟩, fun e => ⟨hj, hM _ ⟨?_, hR⟩⟩⟩ <;> rw [e] <;> rfl
theorem sim_status {g : GS} {m : GM} (h : R g m) : vSG_status g (fun r g' => vM_status m (fun r' m' => r = r' ∧ R g' m')) := by
  unfold vSG_status vM_status
  refine ⟨h.2.1, ?_⟩
  simp only [R, mm_thrown_thrown, mm_status_thrown, mm_rule_thrown, mm_river_thrown, mm_lane_thrown, mm_many_thrown, mm_item_thrown, mm_worlds_thrown, mm_weight_thrown, mm_sea_thrown, mm_least_thrown, mm_isTold_thrown, mm_gates_thrown, mm_minutes_thrown, mm_hand_thrown, mm_hasFailed_thrown, mm_crew_thrown, mm_ships_thrown, mm_comes_thrown, mm_takes_thrown, mm_trace_thrown, mm_traced_thrown, uSh_thrown, uSea_thrown, uGa_thrown, uSp_thrown, uTr_thrown]
  exact h
theorem sim_trace {g : GS} {m : GM} (h : R g m) (a1 : Int32) : vSG_trace g a1 (fun r g' => vM_trace m a1 (fun r' m' => r = r' ∧ R g' m')) := by
  unfold vSG_trace
  obtain ⟨t, ht, e1, e2, e3⟩ := h.tr
  rw [e1]
  have hR : R g (sm_thrown m 0) := by
    simp only [R, mm_thrown_thrown, mm_status_thrown, mm_rule_thrown, mm_river_thrown, mm_lane_thrown, mm_many_thrown, mm_item_thrown, mm_worlds_thrown, mm_weight_thrown, mm_sea_thrown, mm_least_thrown, mm_isTold_thrown, mm_gates_thrown, mm_minutes_thrown, mm_hand_thrown, mm_hasFailed_thrown, mm_crew_thrown, mm_ships_thrown, mm_comes_thrown, mm_takes_thrown, mm_trace_thrown, mm_traced_thrown, uSh_thrown, uSea_thrown, uGa_thrown, uSp_thrown, uTr_thrown]
    exact h
  rcases ixm a1 t (by omega) with c | ⟨j, hj, rfl, c⟩
  · simp only [q_within, if_neg c, true_implies, not_true_eq_false, not_false_eq_true, false_implies, and_true, true_and, i10, i00]
    unfold vM_trace
    rw [e2]
    simp only [q_in00, if_neg c, true_implies, not_true_eq_false, not_false_eq_true, false_implies, and_true, true_and, i10, i00]
    exact hR
  · have hin : vp_in (nI j) 16 := vp_in_nI (by omega) (by decide)
    simp only [q_within, if_pos c, true_implies, not_true_eq_false, not_false_eq_true, false_implies, and_true, true_and, i10, i00, hin, nI_clamp (show j < 2 ^ 31 by omega)]
    unfold vM_trace
    rw [e2]
    simp only [q_in00, if_pos c, true_implies, not_true_eq_false, not_false_eq_true, false_implies, and_true, true_and, i10, i00, hin, nI_clamp (show j < 2 ^ 31 by omega)]
    exact ⟨e3 j hj, hR⟩
