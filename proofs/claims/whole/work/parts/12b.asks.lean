theorem sim_as {g : GS} {m : GM} (h : R g m) (a1 a2 : Int32) : vSG_as g a1 a2 (fun r g' => vM_as m a1 a2 (fun r' m' => r = r' ∧ R g' m')) := by
  unfold vSG_as
  obtain ⟨h1, h2, h3, h4, h5, h6⟩ := h.ga
  have hR : R g (sm_thrown m 0) := by
    simp only [R, mm_thrown_thrown, mm_status_thrown, mm_rule_thrown, mm_river_thrown, mm_lane_thrown, mm_many_thrown, mm_item_thrown, mm_worlds_thrown, mm_weight_thrown, mm_sea_thrown, mm_least_thrown, mm_isTold_thrown, mm_gates_thrown, mm_minutes_thrown, mm_hand_thrown, mm_hasFailed_thrown, mm_crew_thrown, mm_ships_thrown, mm_comes_thrown, mm_takes_thrown, mm_trace_thrown, mm_traced_thrown, uSh_thrown, uSea_thrown, uGa_thrown, uSp_thrown, uTr_thrown]
    exact h
  rcases ixm a1 (z_gn g) (by omega) with c | ⟨j, hj, rfl, c⟩
  · simp only [q_at_no h2 c, true_implies]
    refine ⟨?_, fun k e => by cases e⟩
    unfold vM_as
    simp only [q_isGate (m := sm_thrown m 0) h3, if_neg c, true_implies, not_true_eq_false, not_false_eq_true, false_implies, and_true, true_and, i10, i00]
    exact hR
  simp only [q_at_yes h2 h1 hj (by rw [h4, if_pos hj]) c]
  refine ⟨(fun e => by cases e), fun k e => ?_⟩
  cases e
  by_cases c2 : 0 ≤ a2 ∧ a2 ≤ 3
  rotate_left
  · simp only [q_within, if_neg c2, true_implies, not_true_eq_false, not_false_eq_true, false_implies, and_true, true_and, i10, i00]
    unfold vM_as
    simp only [q_isGate (m := sm_thrown m 0) h3, if_pos c, q_in0 3 3 rfl, show nI 3 = (3 : Int32) from rfl, if_neg c2, true_implies, not_true_eq_false, not_false_eq_true, false_implies, and_true, true_and, i10, i00]
    exact hR
  obtain ⟨a, b, q1, q2, q3, q4, q5, q6, q7, q8, q9, q10⟩ := h5 j hj
  simp only [q_within, if_pos c2, true_implies, not_true_eq_false, not_false_eq_true, false_implies, and_true, true_and, i10, i00]
  have hin : vp_in (nI j) 6 := vp_in_nI (by omega) (by decide)
  have hyes : R (sz_finding g 0) (sm_status (sm_thrown m 0) 0) := by
    simp only [R, zz_finding_finding, zz_items_finding, zz_lanes_finding, zz_sizes_finding, zz_weights_finding, zz_levels_finding, zz_heads_finding, zz_ssize_finding, zz_rules_finding, zz_rivers_finding, zz_orders_finding, zz_now_finding, zz_then_finding, zz_loss_finding, zz_stale_finding, zz_ga_finding, zz_free_finding, zz_rsize_finding, zz_fmin_finding, zz_fpass_finding, zz_inTurn_finding, zz_fsize_finding, zz_numbers_finding, zz_tlen_finding, zz_gk_finding, zz_gm_finding, zz_gh_finding, zz_gf_finding, zz_gn_finding, vSh_finding, vSea_finding, vGa_finding, vSp_finding, vTr_finding, mm_thrown_status, mm_status_status, mm_rule_status, mm_river_status, mm_lane_status, mm_many_status, mm_item_status, mm_worlds_status, mm_weight_status, mm_sea_status, mm_least_status, mm_isTold_status, mm_gates_status, mm_minutes_status, mm_hand_status, mm_hasFailed_status, mm_crew_status, mm_ships_status, mm_comes_status, mm_takes_status, mm_trace_status, mm_traced_status, uSh_status, uSea_status, uGa_status, uSp_status, uTr_status, mm_thrown_thrown, mm_status_thrown, mm_rule_thrown, mm_river_thrown, mm_lane_thrown, mm_many_thrown, mm_item_thrown, mm_worlds_thrown, mm_weight_thrown, mm_sea_thrown, mm_least_thrown, mm_isTold_thrown, mm_gates_thrown, mm_minutes_thrown, mm_hand_thrown, mm_hasFailed_thrown, mm_crew_thrown, mm_ships_thrown, mm_comes_thrown, mm_takes_thrown, mm_trace_thrown, mm_traced_thrown, uSh_thrown, uSea_thrown, uGa_thrown, uSp_thrown, uTr_thrown]
    exact ⟨h.1, trivial, h.2.2⟩
  have hno : R (sz_finding g 3) (sm_status (sm_status (sm_thrown m 0) 0) 3) := by
    simp only [R, zz_finding_finding, zz_items_finding, zz_lanes_finding, zz_sizes_finding, zz_weights_finding, zz_levels_finding, zz_heads_finding, zz_ssize_finding, zz_rules_finding, zz_rivers_finding, zz_orders_finding, zz_now_finding, zz_then_finding, zz_loss_finding, zz_stale_finding, zz_ga_finding, zz_free_finding, zz_rsize_finding, zz_fmin_finding, zz_fpass_finding, zz_inTurn_finding, zz_fsize_finding, zz_numbers_finding, zz_tlen_finding, zz_gk_finding, zz_gm_finding, zz_gh_finding, zz_gf_finding, zz_gn_finding, vSh_finding, vSea_finding, vGa_finding, vSp_finding, vTr_finding, mm_thrown_status, mm_status_status, mm_rule_status, mm_river_status, mm_lane_status, mm_many_status, mm_item_status, mm_worlds_status, mm_weight_status, mm_sea_status, mm_least_status, mm_isTold_status, mm_gates_status, mm_minutes_status, mm_hand_status, mm_hasFailed_status, mm_crew_status, mm_ships_status, mm_comes_status, mm_takes_status, mm_trace_status, mm_traced_status, uSh_status, uSea_status, uGa_status, uSp_status, uTr_status, mm_thrown_thrown, mm_status_thrown, mm_rule_thrown, mm_river_thrown, mm_lane_thrown, mm_many_thrown, mm_item_thrown, mm_worlds_thrown, mm_weight_thrown, mm_sea_thrown, mm_least_thrown, mm_isTold_thrown, mm_gates_thrown, mm_minutes_thrown, mm_hand_thrown, mm_hasFailed_thrown, mm_crew_thrown, mm_ships_thrown, mm_comes_thrown, mm_takes_thrown, mm_trace_thrown, mm_traced_thrown, uSh_thrown, uSea_thrown, uGa_thrown, uSp_thrown, uTr_thrown]
    exact ⟨h.1, trivial, h.2.2⟩
  have hM : ∀ post : Int32 → GM → Prop, ((a2 = 0 → post (nI a) (sm_status (sm_thrown m 0) 0)) ∧ (¬ a2 = 0 → ((nI (kd (nI a) (nI b)) = a2 → post (nI a) (sm_status (sm_thrown m 0) 0)) ∧ (¬ nI (kd (nI a) (nI b)) = a2 → ((¬ a2 = 1 → post (-1000010 - 3) (sm_status (sm_status (sm_thrown m 0) 0) 3)) ∧ (a2 = 1 → ((¬ nI (kd (nI a) (nI b)) = 2 → post (-1000010 - 3) (sm_status (sm_status (sm_thrown m 0) 0) 3)) ∧ (nI (kd (nI a) (nI b)) = 2 → post (nI a) (sm_status (sm_thrown m 0) 0))))))))) → vM_as m (nI j) a2 post := by
    intro post hp
    unfold vM_as vM_as_58 vM_as_67 vM_found
    simp only [q_isGate (m := sm_thrown m 0) h3, if_pos c, q_in0 3 3 rfl, show nI 3 = (3 : Int32) from rfl, if_pos c2, true_implies, not_true_eq_false, not_false_eq_true, false_implies, and_true, true_and, i10, i00, q_kindOf (m := sm_status (sm_thrown m 0) 0) (show j < 6 by omega), mm_thrown_status, mm_status_status, mm_rule_status, mm_river_status, mm_lane_status, mm_many_status, mm_item_status, mm_worlds_status, mm_weight_status, mm_sea_status, mm_least_status, mm_isTold_status, mm_gates_status, mm_minutes_status, mm_hand_status, mm_hasFailed_status, mm_crew_status, mm_ships_status, mm_comes_status, mm_takes_status, mm_trace_status, mm_traced_status, uSh_status, uSea_status, uGa_status, uSp_status, uTr_status, mm_thrown_thrown, mm_status_thrown, mm_rule_thrown, mm_river_thrown, mm_lane_thrown, mm_many_thrown, mm_item_thrown, mm_worlds_thrown, mm_weight_thrown, mm_sea_thrown, mm_least_thrown, mm_isTold_thrown, mm_gates_thrown, mm_minutes_thrown, mm_hand_thrown, mm_hasFailed_thrown, mm_crew_thrown, mm_ships_thrown, mm_comes_thrown, mm_takes_thrown, mm_trace_thrown, mm_traced_thrown, uSh_thrown, uSea_thrown, uGa_thrown, uSp_thrown, uTr_thrown, q5, q7, hin, nI_clamp (show j < 2 ^ 31 by omega)]
    exact hp
  unfold vSG_isOf vSG_found vSG_fine
  dsimp only
  rw [q8, q4]
  have hk := kd_le (nI a) (nI b)
  generalize kd (nI a) (nI b) = t at hk hM ⊢
  obtain ⟨c3, hc3, rfl⟩ := nI_of2 (x := a2) (M := 3) (n := 3) (by decide) (Int32.not_lt.mpr c2.1) c2.2
  refine ⟨hj, ?_⟩
  have Y : (fun (r : Int32) (g' : GS) => vM_as m (nI j) (nI c3) (fun r' m' => r = r' ∧ R g' m')) = (fun (r : Int32) (g' : GS) => vM_as m (nI j) (nI c3) (fun r' m' => r = r' ∧ R g' m')) := rfl
  rcases (show c3 = 0 ∨ c3 = 1 ∨ c3 = 2 ∨ c3 = 3 by omega) with rfl | rfl | rfl | rfl
  · refine ⟨fun _ => ⟨fun q => absurd q (by decide), fun _ => ⟨hj, hM _ ⟨fun _ => ⟨rfl, hyes⟩, fun q => absurd rfl q⟩⟩⟩, fun q => absurd q (by decide), fun q => absurd q (by decide), fun q => absurd q (by decide)⟩
  · refine ⟨fun q => absurd rfl (q 1 (by omega) (by omega)), fun _ => ⟨hk, ?_, ?_, ?_, ?_⟩, fun q => absurd q (by decide), fun q => absurd q (by decide)⟩
    · intro e
      subst e
      exact ⟨fun _ => hM _ ⟨fun q => absurd q (by decide), fun _ => ⟨fun q => absurd q (by decide), fun _ => ⟨fun q => absurd rfl q, fun _ => ⟨fun _ => ⟨rfl, hno⟩, fun q => absurd q (by decide)⟩⟩⟩⟩, fun q => absurd rfl q⟩
    · intro e
      subst e
      exact ⟨fun q => absurd q (by decide), fun _ => ⟨hj, hM _ ⟨fun q => absurd q (by decide), fun _ => ⟨fun _ => ⟨rfl, hyes⟩, fun q => absurd rfl q⟩⟩⟩⟩
    · intro e
      subst e
      exact ⟨fun q => absurd q (by decide), fun _ => ⟨hj, hM _ ⟨fun q => absurd q (by decide), fun _ => ⟨fun q => absurd q (by decide), fun _ => ⟨fun q => absurd rfl q, fun _ => ⟨fun q => absurd rfl q, fun _ => ⟨rfl, hyes⟩⟩⟩⟩⟩⟩⟩
    · intro e
      subst e
      exact ⟨fun _ => hM _ ⟨fun q => absurd q (by decide), fun _ => ⟨fun q => absurd q (by decide), fun _ => ⟨fun q => absurd rfl q, fun _ => ⟨fun _ => ⟨rfl, hno⟩, fun q => absurd q (by decide)⟩⟩⟩⟩, fun q => absurd rfl q⟩
  · have no : ∀ t : Nat, ¬ nI t = nI 2 → (fun (r : Int32) (g' : GS) => True) 0 g := fun _ _ => trivial
    refine ⟨fun q => absurd rfl (q 2 (by omega) (by omega)), fun q => absurd q (by decide), fun _ => ⟨hk, ?_, ?_, ?_, ?_⟩, fun q => absurd q (by decide)⟩
    · intro e
      subst e
      exact ⟨fun _ => hM _ ⟨fun q => absurd q (by decide), fun _ => ⟨fun q => absurd q (by decide), fun _ => ⟨fun _ => ⟨rfl, hno⟩, fun q => absurd q (by decide)⟩⟩⟩, fun q => absurd rfl q⟩
    · intro e
      subst e
      exact ⟨fun _ => hM _ ⟨fun q => absurd q (by decide), fun _ => ⟨fun q => absurd q (by decide), fun _ => ⟨fun _ => ⟨rfl, hno⟩, fun q => absurd q (by decide)⟩⟩⟩, fun q => absurd rfl q⟩
    · intro e
      subst e
      exact ⟨fun q => absurd q (by decide), fun _ => ⟨hj, hM _ ⟨fun q => absurd q (by decide), fun _ => ⟨fun _ => ⟨rfl, hyes⟩, fun q => absurd rfl q⟩⟩⟩⟩
    · intro e
      subst e
      exact ⟨fun _ => hM _ ⟨fun q => absurd q (by decide), fun _ => ⟨fun q => absurd q (by decide), fun _ => ⟨fun _ => ⟨rfl, hno⟩, fun q => absurd q (by decide)⟩⟩⟩, fun q => absurd rfl q⟩
  · refine ⟨fun q => absurd rfl (q 3 (by omega) (by omega)), fun q => absurd q (by decide), fun q => absurd q (by decide), fun _ => ⟨hk, ?_, ?_, ?_, ?_⟩⟩
    · intro e
      subst e
      exact ⟨fun _ => hM _ ⟨fun q => absurd q (by decide), fun _ => ⟨fun q => absurd q (by decide), fun _ => ⟨fun _ => ⟨rfl, hno⟩, fun q => absurd q (by decide)⟩⟩⟩, fun q => absurd rfl q⟩
    · intro e
      subst e
      exact ⟨fun _ => hM _ ⟨fun q => absurd q (by decide), fun _ => ⟨fun q => absurd q (by decide), fun _ => ⟨fun _ => ⟨rfl, hno⟩, fun q => absurd q (by decide)⟩⟩⟩, fun q => absurd rfl q⟩
    · intro e
      subst e
      exact ⟨fun _ => hM _ ⟨fun q => absurd q (by decide), fun _ => ⟨fun q => absurd q (by decide), fun _ => ⟨fun _ => ⟨rfl, hno⟩, fun q => absurd q (by decide)⟩⟩⟩, fun q => absurd rfl q⟩
    · intro e
      subst e
      exact ⟨fun q => absurd q (by decide), fun _ => ⟨hj, hM _ ⟨fun q => absurd q (by decide), fun _ => ⟨fun _ => ⟨rfl, hyes⟩, fun q => absurd rfl q⟩⟩⟩⟩
-- the trace
def trS (g : GS) (x : Int32) : GS := if 16 ≤ z_tlen g then g else sz_tlen (sz_numbers g (upd (z_numbers g) (z_tlen g).toNatClampNeg x)) (z_tlen g + 1)
def trM (m : GM) (x : Int32) : GM := if 16 ≤ m_traced m then m else sm_traced (sm_trace m (upd (m_trace m) (m_traced m).toNatClampNeg x)) (m_traced m + 1)
theorem trS_gm (g : GS) (x : Int32) : z_gm (trS g x) = z_gm g := by unfold trS; split <;> rfl
theorem trS_gh (g : GS) (x : Int32) : z_gh (trS g x) = z_gh g := by unfold trS; split <;> rfl
theorem trS_gf (g : GS) (x : Int32) : z_gf (trS g x) = z_gf g := by unfold trS; split <;> rfl
theorem trS_gk (g : GS) (x : Int32) : z_gk (trS g x) = z_gk g := by unfold trS; split <;> rfl
theorem trS_gn (g : GS) (x : Int32) : z_gn (trS g x) = z_gn g := by unfold trS; split <;> rfl
theorem trM_minutes (m : GM) (x : Int32) : m_minutes (trM m x) = m_minutes m := by unfold trM; split <;> rfl
theorem trM_hand (m : GM) (x : Int32) : m_hand (trM m x) = m_hand m := by unfold trM; split <;> rfl
theorem trM_hasFailed (m : GM) (x : Int32) : m_hasFailed (trM m x) = m_hasFailed m := by unfold trM; split <;> rfl
theorem trS_len {g : GS} {t : Nat} (ht : t ≤ 16) (e : z_tlen g = nI t) (x : Int32) : ∃ t', t' ≤ 16 ∧ z_tlen (trS g x) = nI t' := by
  unfold trS
  rw [e]
  by_cases c : (16 : Int32) ≤ nI t
  · rw [if_pos c]
    exact ⟨t, ht, e⟩
  · rw [if_neg c]
    have : t < 16 := by
      rcases Nat.lt_or_ge t 16 with q | q
      · exact q
      · exact absurd (nI_le q (by omega)) c
    exact ⟨t + 1, by omega, nI_1 t⟩
theorem trM_len {m : GM} {t : Nat} (ht : t ≤ 16) (e : m_traced m = nI t) (x : Int32) : ∃ t', t' ≤ 16 ∧ m_traced (trM m x) = nI t' := by
  unfold trM
  rw [e]
  by_cases c : (16 : Int32) ≤ nI t
  · rw [if_pos c]
    exact ⟨t, ht, e⟩
  · rw [if_neg c]
    have : t < 16 := by
      rcases Nat.lt_or_ge t 16 with q | q
      · exact q
      · exact absurd (nI_le q (by omega)) c
    exact ⟨t + 1, by omega, nI_1 t⟩
theorem q_leave {g : GS} {x : Int32} (h : ∃ t, t ≤ 16 ∧ z_tlen g = nI t) {post : GS → Prop} (hp : post (trS g x)) : vTrace_leave g x post := by
  obtain ⟨t, ht, e⟩ := h
  unfold vTrace_leave
  unfold trS at hp
  by_cases c : 16 ≤ z_tlen g
  · rw [if_pos c] at hp
    exact ⟨fun _ => hp, fun q => absurd c q⟩
  · rw [if_neg c] at hp
    refine ⟨fun q => absurd q c, fun _ => ⟨?_, hp⟩⟩
    rw [e] at c ⊢
    refine vp_in_nI ?_ (by decide)
    rcases Nat.lt_or_ge t 16 with q | q
    · exact q
    · exact absurd (nI_le q (by omega)) c
theorem q_began {m : GM} {x : Int32} (h : ∃ t, t ≤ 16 ∧ m_traced m = nI t) {post : GM → Prop} (hp : post (trM m x)) : vM_began m x post := by
  obtain ⟨t, ht, e⟩ := h
  unfold vM_began
  unfold trM at hp
  by_cases c : 16 ≤ m_traced m
  · rw [if_pos c] at hp
    exact ⟨fun _ => hp, fun q => absurd c q⟩
  · rw [if_neg c] at hp
    refine ⟨fun q => absurd q c, fun _ => ⟨?_, hp⟩⟩
    rw [e] at c ⊢
    refine vp_in_nI ?_ (by decide)
    rcases Nat.lt_or_ge t 16 with q | q
    · exact q
    · exact absurd (nI_le q (by omega)) c
theorem R_tr {g : GS} {m : GM} (h : R g m) (x : Int32) : R (trS g x) (trM m x) := by
  obtain ⟨t, ht, e1, e2, e3⟩ := h.tr
  unfold trS trM
  rw [e1, e2]
  by_cases c : (16 : Int32) ≤ nI t
  · rw [if_pos c, if_pos c]
    exact h
  · rw [if_neg c, if_neg c]
    have ht2 : t < 16 := by
      rcases Nat.lt_or_ge t 16 with q | q
      · exact q
      · exact absurd (nI_le q (by omega)) c
    simp only [R, zz_finding_tlen, zz_items_tlen, zz_lanes_tlen, zz_sizes_tlen, zz_weights_tlen, zz_levels_tlen, zz_heads_tlen, zz_ssize_tlen, zz_rules_tlen, zz_rivers_tlen, zz_orders_tlen, zz_now_tlen, zz_then_tlen, zz_loss_tlen, zz_stale_tlen, zz_ga_tlen, zz_free_tlen, zz_rsize_tlen, zz_fmin_tlen, zz_fpass_tlen, zz_inTurn_tlen, zz_fsize_tlen, zz_numbers_tlen, zz_tlen_tlen, zz_gk_tlen, zz_gm_tlen, zz_gh_tlen, zz_gf_tlen, zz_gn_tlen, vSh_tlen, vSea_tlen, vGa_tlen, vSp_tlen, vTr_tlen, zz_finding_numbers, zz_items_numbers, zz_lanes_numbers, zz_sizes_numbers, zz_weights_numbers, zz_levels_numbers, zz_heads_numbers, zz_ssize_numbers, zz_rules_numbers, zz_rivers_numbers, zz_orders_numbers, zz_now_numbers, zz_then_numbers, zz_loss_numbers, zz_stale_numbers, zz_ga_numbers, zz_free_numbers, zz_rsize_numbers, zz_fmin_numbers, zz_fpass_numbers, zz_inTurn_numbers, zz_fsize_numbers, zz_numbers_numbers, zz_tlen_numbers, zz_gk_numbers, zz_gm_numbers, zz_gh_numbers, zz_gf_numbers, zz_gn_numbers, vSh_numbers, vSea_numbers, vGa_numbers, vSp_numbers, vTr_numbers, mm_thrown_traced, mm_status_traced, mm_rule_traced, mm_river_traced, mm_lane_traced, mm_many_traced, mm_item_traced, mm_worlds_traced, mm_weight_traced, mm_sea_traced, mm_least_traced, mm_isTold_traced, mm_gates_traced, mm_minutes_traced, mm_hand_traced, mm_hasFailed_traced, mm_crew_traced, mm_ships_traced, mm_comes_traced, mm_takes_traced, mm_trace_traced, mm_traced_traced, uSh_traced, uSea_traced, uGa_traced, uSp_traced, uTr_traced, mm_thrown_trace, mm_status_trace, mm_rule_trace, mm_river_trace, mm_lane_trace, mm_many_trace, mm_item_trace, mm_worlds_trace, mm_weight_trace, mm_sea_trace, mm_least_trace, mm_isTold_trace, mm_gates_trace, mm_minutes_trace, mm_hand_trace, mm_hasFailed_trace, mm_crew_trace, mm_ships_trace, mm_comes_trace, mm_takes_trace, mm_trace_trace, mm_traced_trace, uSh_trace, uSea_trace, uGa_trace, uSp_trace, uTr_trace]
    refine ⟨h.1, h.2.1, h.2.2.1, h.2.2.2.1, h.2.2.2.2.1, t + 1, by omega, nI_1 t, nI_1 t, fun j hj => ?_⟩
    rw [nI_clamp (show t < 2 ^ 31 by omega)]
    by_cases e : j = t
    · subst e
      exact pk_us.trans pk_us.symm
    · exact (pk_un e).trans ((e3 j (by omega)).trans (pk_un e).symm)
theorem R.lenS {g : GS} {m : GM} (h : R g m) : ∃ t, t ≤ 16 ∧ z_tlen g = nI t := by
  obtain ⟨t, ht, e1, e2, e3⟩ := h.tr
  exact ⟨t, ht, e1⟩
theorem R.lenM {g : GS} {m : GM} (h : R g m) : ∃ t, t ≤ 16 ∧ m_traced m = nI t := by
  obtain ⟨t, ht, e1, e2, e3⟩ := h.tr
  exact ⟨t, ht, e2⟩
/-- the records behind the bodies of COST, of a kind -/
def coS (g : GS) (t : Nat) : GS := if t = 0 then trS g 10 else if t = 1 then trS (trS g 11) 10 else if t = 2 then trS (trS (trS g 12) 11) 10 else trS (trS g 13) 10
def coM (m : GM) (t : Nat) : GM := if t = 0 then trM m 10 else if t = 1 then trM (trM m 11) 10 else if t = 2 then trM (trM (trM m 12) 11) 10 else trM (trM m 13) 10
def coV (t : Nat) (a b : Int32) : Int32 := if t = 0 then a else if t = 1 then a + b else if t = 2 then (a + b) / 2 else a + 1000
theorem coS_0 (g : GS) : coS g 0 = trS g 10 := by unfold coS; rw [if_pos rfl]
theorem coM_0 (m : GM) : coM m 0 = trM m 10 := by unfold coM; rw [if_pos rfl]
theorem coV_0 (a b : Int32) : coV 0 a b = a := by unfold coV; rw [if_pos rfl]
theorem coS_1 (g : GS) : coS g 1 = trS (trS g 11) 10 := by unfold coS; rw [if_neg (by decide), if_pos rfl]
theorem coM_1 (m : GM) : coM m 1 = trM (trM m 11) 10 := by unfold coM; rw [if_neg (by decide), if_pos rfl]
theorem coV_1 (a b : Int32) : coV 1 a b = a + b := by unfold coV; rw [if_neg (by decide), if_pos rfl]
theorem coS_2 (g : GS) : coS g 2 = trS (trS (trS g 12) 11) 10 := by unfold coS; rw [if_neg (by decide), if_neg (by decide), if_pos rfl]
theorem coM_2 (m : GM) : coM m 2 = trM (trM (trM m 12) 11) 10 := by unfold coM; rw [if_neg (by decide), if_neg (by decide), if_pos rfl]
theorem coV_2 (a b : Int32) : coV 2 a b = (a + b) / 2 := by unfold coV; rw [if_neg (by decide), if_neg (by decide), if_pos rfl]
theorem coS_3 (g : GS) : coS g 3 = trS (trS g 13) 10 := by unfold coS; rw [if_neg (by decide), if_neg (by decide), if_neg (by decide)]
theorem coM_3 (m : GM) : coM m 3 = trM (trM m 13) 10 := by unfold coM; rw [if_neg (by decide), if_neg (by decide), if_neg (by decide)]
theorem coV_3 (a b : Int32) : coV 3 a b = a + 1000 := by unfold coV; rw [if_neg (by decide), if_neg (by decide), if_neg (by decide)]
theorem R_co {g : GS} {m : GM} (h : R g m) (t : Nat) : R (coS g t) (coM m t) := by
  unfold coS coM
  by_cases c0 : t = 0
  · rw [if_pos c0, if_pos c0]; exact R_tr h _
  · rw [if_neg c0, if_neg c0]
    by_cases c1 : t = 1
    · rw [if_pos c1, if_pos c1]; exact R_tr (R_tr h _) _
    · rw [if_neg c1, if_neg c1]
      by_cases c2 : t = 2
      · rw [if_pos c2, if_pos c2]; exact R_tr (R_tr (R_tr h _) _) _
      · rw [if_neg c2, if_neg c2]; exact R_tr (R_tr h _) _
theorem q_Gcost {g : GS} {k : Nat} (hk : k < z_gn g) (hl : ∃ t, t ≤ 16 ∧ z_tlen g = nI t) {post : Int32 → GS → Prop} (hp : post (z_gm g k) (trS g 10)) : vGate_cost g k post := by
  unfold vGate_cost
  refine ⟨hk, q_leave hl ⟨by rw [trS_gn]; exact hk, by rw [trS_gm]; exact hp⟩⟩
theorem q_Hcost {g : GS} {k : Nat} (hk : k < z_gn g) (hl : ∃ t, t ≤ 16 ∧ z_tlen g = nI t) {post : Int32 → GS → Prop} (hp : post (z_gm g k + z_gh g k) (trS (trS g 11) 10)) : vHanded_cost g k post := by
  unfold vHanded_cost
  obtain ⟨t, ht, e⟩ := hl
  refine ⟨hk, q_leave ⟨t, ht, e⟩ ⟨by rw [trS_gn]; exact hk, q_Gcost (by rw [trS_gn]; exact hk) (trS_len ht e 11) ⟨by rw [trS_gn, trS_gn]; exact hk, ?_⟩⟩⟩
  rw [trS_gm, trS_gh, trS_gh]
  exact hp
theorem q_Tcost {g : GS} {k : Nat} (hk : k < z_gn g) (hl : ∃ t, t ≤ 16 ∧ z_tlen g = nI t) {post : Int32 → GS → Prop} (hp : post ((z_gm g k + z_gh g k) / 2) (trS (trS (trS g 12) 11) 10)) : vTwin_cost g k post := by
  unfold vTwin_cost
  obtain ⟨t, ht, e⟩ := hl
  refine ⟨hk, q_leave ⟨t, ht, e⟩ ⟨by rw [trS_gn]; exact hk, q_Hcost (by rw [trS_gn]; exact hk) (trS_len ht e 12) ?_⟩⟩
  rw [trS_gm, trS_gh]
  exact hp
theorem q_Scost {g : GS} {k : Nat} (hk : k < z_gn g) (hl : ∃ t, t ≤ 16 ∧ z_tlen g = nI t) {post : Int32 → GS → Prop} (hp : post (z_gm g k + 1000) (trS (trS g 13) 10)) : vSlow_cost g k post := by
  unfold vSlow_cost
  obtain ⟨t, ht, e⟩ := hl
  refine ⟨hk, q_leave ⟨t, ht, e⟩ ⟨by rw [trS_gn]; exact hk, q_Gcost (by rw [trS_gn]; exact hk) (trS_len ht e 13) ?_⟩⟩
  rw [trS_gm]
  exact hp
theorem q_Gmark {g : GS} {k : Nat} (hk : k < z_gn g) (hz : jz (z_gf g k)) (hl : ∃ t, t ≤ 16 ∧ z_tlen g = nI t) {post : Int32 → GS → Prop} (hp : post (z_gf g k) (trS g 20)) : vGate_mark g k post := by
  unfold vGate_mark
  refine ⟨hk, q_leave hl ⟨by rw [trS_gn]; exact hk, ?_⟩⟩
  rw [trS_gf]
  rcases hz with e | e
  · rw [e] at hp ⊢
    exact ⟨fun _ => hp, fun q => absurd rfl q⟩
  · rw [e] at hp ⊢
    exact ⟨fun q => absurd q (by decide), fun _ => hp⟩
-- the reference's COST
theorem q_M_cost {m : GM} {j : Nat} (hj : j < 6) (hl : ∃ t, t ≤ 16 ∧ m_traced m = nI t) {t : Nat} (ht : t = 0 ∨ t = 1 ∨ t = 2 ∨ t = 3) (ek : kd (m_minutes m j) (m_hand m j) = t) {post : Int32 → GM → Prop} (hp : post (coV t (m_minutes m j) (m_hand m j)) (coM m t)) : vM_cost m (nI j) post := by
  unfold vM_cost
  rw [q_kindOf hj, ek]
  obtain ⟨n, hn, en⟩ := hl
  have hin : vp_in (nI j) 6 := vp_in_nI hj (by decide)
  unfold vM_cost_16 vM_cost_21 vM_cost_33 vM_cost_44 vM_cost_54 vM_cost_80
  rcases ht with rfl | rfl | rfl | rfl
  · refine ⟨fun q => absurd q (by decide), fun _ => ⟨fun _ => ⟨fun _ => ⟨fun _ => ⟨fun _ => ?_, fun q => absurd rfl q⟩, fun q => absurd q (by decide)⟩, fun q => absurd q (by decide)⟩, fun q => absurd q (by decide)⟩⟩
    refine q_began ⟨n, hn, en⟩ ⟨hin, fun _ => ⟨fun _ => ⟨fun _ => ?_, fun q => absurd q (by decide)⟩, fun q => absurd q (by decide)⟩, fun q => absurd rfl q⟩
    rw [nI_clamp (show j < 2 ^ 31 by omega), trM_minutes, Int32.add_zero]
    rw [coV_0, coM_0] at hp
    exact hp
  · refine ⟨fun _ => ⟨fun _ => ⟨fun _ => ⟨fun q => absurd q (by decide), fun _ => ?_⟩, fun q => absurd q (by decide)⟩, fun q => absurd q (by decide)⟩, fun q => absurd rfl q⟩
    refine q_began ⟨n, hn, en⟩ (q_began (trM_len hn en 11) ⟨hin, fun q => absurd q (by decide), fun _ => ⟨hin, fun _ => ⟨fun _ => ?_, fun q => absurd q (by decide)⟩, fun q => absurd q (by decide)⟩⟩)
    rw [nI_clamp (show j < 2 ^ 31 by omega), trM_minutes, trM_minutes, trM_hand, trM_hand]
    rw [coV_1, coM_1] at hp
    exact hp
  · refine ⟨fun q => absurd q (by decide), fun _ => ⟨fun q => absurd rfl q, fun _ => ⟨fun _ => ⟨fun q => absurd rfl q, fun _ => ?_⟩, fun q => absurd q (by decide)⟩⟩⟩
    obtain ⟨n2, hn2, en2⟩ := trM_len hn en 12
    refine q_began ⟨n, hn, en⟩ ⟨fun q => absurd q (by decide), fun _ => q_began ⟨n2, hn2, en2⟩ (q_began (trM_len hn2 en2 11) ⟨hin, fun q => absurd q (by decide), fun _ => ⟨hin, fun _ => ⟨fun q => absurd rfl q, fun _ => ?_⟩, fun q => absurd q (by decide)⟩⟩)⟩
    rw [nI_clamp (show j < 2 ^ 31 by omega), trM_minutes, trM_minutes, trM_minutes, trM_hand, trM_hand, trM_hand]
    rw [coV_2, coM_2] at hp
    exact hp
  · refine ⟨fun q => absurd q (by decide), fun _ => ⟨fun _ => ⟨fun q => absurd rfl q, fun _ => ?_⟩, fun q => absurd q (by decide)⟩⟩
    obtain ⟨n2, hn2, en2⟩ := trM_len hn en 13
    refine q_began ⟨n, hn, en⟩ ⟨fun _ => ⟨fun _ => q_began ⟨n2, hn2, en2⟩ ⟨hin, fun _ => ⟨fun q => absurd rfl q, fun _ => ?_⟩, fun q => absurd rfl q⟩, fun q => absurd rfl q⟩, fun q => absurd q (by decide)⟩
    rw [nI_clamp (show j < 2 ^ 31 by omega), trM_minutes, trM_minutes, Int32.add_zero]
    rw [coV_3, coM_3] at hp
    exact hp
