/-! ===== sheets ===== -/
theorem fb_rng' (x : Int32) : -2147483648 ≤ x.toInt ∧ x.toInt < 2147483648 := by
  have h1 := Int32.le_toInt x
  have h2 := Int32.toInt_lt x
  exact ⟨by simpa using h1, by simpa using h2⟩
theorem fb_bmod' {z : Int} (h1 : -2147483648 ≤ z) (h2 : z < 2147483648) : z.bmod (2 ^ 32) = z := by
  rw [Int.bmod_def]
  omega
theorem q_isMissing {g : GS} {s : Nat} (hs : s < 8) {post : Int32 → GS → Prop} : vSheets_isMissing g (nI s) post ↔ (if z_sizes g s = -1 then post 1 g else post 0 g) := by
  unfold vSheets_isMissing
  rw [nI_clamp (show s < 2 ^ 31 by omega)]
  have h := vp_in_nI hs (by decide)
  by_cases e : z_sizes g s = -1
  · simp [e, h]
  · simp [e, h]
/-- have a sheet's places room: i, and n from it on -/
theorem q_hasPlaces {g : GS} {s z : Nat} (hs : s < 8) (hz : z ≤ 60) (e : z_sizes g s = nI z) {i n : Int32} {post : Int32 → GS → Prop} : vSheets_hasPlaces g (nI s) i n post ↔ (if 0 ≤ i.toInt ∧ 0 ≤ n.toInt ∧ i.toInt + n.toInt ≤ z then post 1 g else post 0 g) := by
  unfold vSheets_hasPlaces
  rw [nI_clamp (show s < 2 ^ 31 by omega), e]
  have h := vp_in_nI hs (by decide)
  have r1 := fb_rng' i
  have r2 := fb_rng' n
  have t0 : (0 : Int32).toInt = 0 := rfl
  by_cases c1 : n < 0
  · have c2 := Int32.lt_iff_toInt_lt.mp c1
    rw [if_neg (by rw [t0] at c2; omega)]
    simp [c1]
  · have c2 := Int32.le_iff_toInt_le.mp (Int32.not_lt.mp c1)
    rw [t0] at c2
    by_cases c3 : i < 0
    · have c4 := Int32.lt_iff_toInt_lt.mp c3
      rw [if_neg (by rw [t0] at c4; omega)]
      simp [c1, c3]
    · have c4 := Int32.le_iff_toInt_le.mp (Int32.not_lt.mp c3)
      rw [t0] at c4
      have hsub : (nI z - n).toInt = (z : Int) - n.toInt := by
        rw [Int32.toInt_sub, nI_toInt (by omega)]
        exact fb_bmod' (by omega) (by omega)
      by_cases c5 : nI z - n < i
      · have c6 := Int32.lt_iff_toInt_lt.mp c5
        rw [hsub] at c6
        rw [if_neg (by omega)]
        simp [c1, c3, c5, h]
      · have c6 := Int32.le_iff_toInt_le.mp (Int32.not_lt.mp c5)
        rw [hsub] at c6
        rw [if_pos (by omega)]
        simp [c1, c3, c5, h]
theorem m_item_s (g : GM) (f : Nat → Int32) : m_item (sm_item g f) = f := rfl
theorem sm_item_s (g : GM) (f f2 : Nat → Int32) : sm_item (sm_item g f) f2 = sm_item g f2 := rfl
theorem nI60 (s k : Nat) : (60 : Int32) * nI s + nI k = nI (60 * s + k) := by
  rw [show (60 : Int32) = nI 60 from rfl, pk_mul, nI_add]
theorem lp_M_sheet {post : Int32 → GM → Prop} {s : Nat} (hs : s < 8) {x3 : Int32} : ∀ (d k : Nat) (g : GM), k + d = 60 → post x3 (sm_item g (fun j => if 60 * s + k ≤ j ∧ j < 60 * s + 60 then 0 else m_item g j)) → vM_sheet_65 post (d + 1) (nI s) x3 (nI k) g := by
  intro d
  induction d with
  | zero =>
    intro k g hk hp
    have e : k = 60 := by omega
    subst e
    unfold vM_sheet_65
    refine ⟨fun _ => ?_, fun c => absurd (show (60 : Int32) ≤ nI 60 by decide) c⟩
    have e2 : (fun j => if 60 * s + 60 ≤ j ∧ j < 60 * s + 60 then 0 else m_item g j) = m_item g := funext fun j => if_neg (by omega)
    rw [e2] at hp
    exact hp
  | succ d ih =>
    intro k g hk hp
    unfold vM_sheet_65
    rw [nI60, nI_clamp (show 60 * s + k < 2 ^ 31 by omega), nI_1]
    refine ⟨fun c => absurd c (nI_ge (show k < 60 by omega) (by decide)), fun _ => ⟨vp_in_nI (by omega) (by decide), ?_⟩⟩
    refine ih (k + 1) _ (by omega) ?_
    rw [sm_item_s, m_item_s]
    have e2 : (fun j => if 60 * s + (k + 1) ≤ j ∧ j < 60 * s + 60 then 0 else upd (m_item g) (60 * s + k) 0 j) = (fun j => if 60 * s + k ≤ j ∧ j < 60 * s + 60 then 0 else m_item g j) := by
      funext j
      by_cases c : j = 60 * s + k
      · subst c
        rw [if_neg (by omega), if_pos (by omega), pk_us]
      · rw [pk_un c]
        by_cases c2 : 60 * s + (k + 1) ≤ j ∧ j < 60 * s + 60
        · rw [if_pos c2, if_pos (by omega)]
        · rw [if_neg c2, if_neg (by omega)]
    rw [e2]
    exact hp
theorem sim_sheet {g : GS} {m : GM} (h : R g m) (a1 a2 a3 : Int32) : vSG_sheet g a1 a2 a3 (fun r g' => vM_sheet m a1 a2 a3 (fun r' m' => r = r' ∧ R g' m')) := by
  unfold vSG_sheet
  rcases ix8 a1 with h1 | ⟨s, hs, rfl, h1⟩
  · simp only [q_within, if_neg h1, true_implies, not_true_eq_false, not_false_eq_true, false_implies, and_true, true_and, i10, i00]
    unfold vM_sheet
    simp only [q_isSheet, if_neg h1, true_implies, not_true_eq_false, not_false_eq_true, false_implies, and_true, true_and, i10, i00, R, mm_thrown_thrown, mm_status_thrown, mm_rule_thrown, mm_river_thrown, mm_lane_thrown, mm_many_thrown, mm_item_thrown, mm_worlds_thrown, mm_weight_thrown, mm_sea_thrown, mm_least_thrown, mm_isTold_thrown, mm_gates_thrown, mm_minutes_thrown, mm_hand_thrown, mm_hasFailed_thrown, mm_crew_thrown, mm_ships_thrown, mm_comes_thrown, mm_takes_thrown, mm_trace_thrown, mm_traced_thrown, uSh_thrown, uSea_thrown, uGa_thrown, uSp_thrown, uTr_thrown]
    exact h
  · simp only [q_within, if_pos h1, true_implies, not_true_eq_false, not_false_eq_true, false_implies, and_true, true_and, i10, i00]
    have hcl : (nI s).toNatClampNeg = s := nI_clamp (by omega)
    have hin : vp_in (nI s) 8 := vp_in_nI hs (by decide)
    by_cases h2 : 0 ≤ a2 ∧ a2 ≤ 2
    · simp only [if_pos h2, true_implies, not_true_eq_false, not_false_eq_true, false_implies, and_true, true_and, i10, i00]
      obtain ⟨l, hl, rfl⟩ := nI_of2 (x := a2) (M := 2) (n := 2) (by decide) (Int32.not_lt.mpr h2.1) h2.2
      by_cases h3 : a3 ≤ 60
      · by_cases h4 : (0 : Int32) ≤ a3
        · obtain ⟨n, hn, rfl⟩ := nI_of2 (x := a3) (M := 60) (n := 60) (by decide) (Int32.not_lt.mpr h4) h3
          simp only [h3, h4, true_implies, not_true_eq_false, not_false_eq_true, false_implies, and_true, true_and, i10, i00, vSheets_lay, vSG_fine, hcl, hin]
          unfold vM_sheet
          simp only [q_isSheet, if_pos h1, q_in0 2 2 rfl, show (nI 2) = (2 : Int32) from rfl, if_pos h2, h3, h4, true_implies, not_true_eq_false, not_false_eq_true, false_implies, and_true, true_and, i10, i00, hcl, hin]
          refine ⟨61, lp_M_sheet hs 60 0 _ (by omega) ?_⟩
          simp only [R, zz_finding_items, zz_items_items, zz_lanes_items, zz_sizes_items, zz_weights_items, zz_levels_items, zz_heads_items, zz_ssize_items, zz_rules_items, zz_rivers_items, zz_orders_items, zz_now_items, zz_then_items, zz_loss_items, zz_stale_items, zz_ga_items, zz_free_items, zz_rsize_items, zz_fmin_items, zz_fpass_items, zz_inTurn_items, zz_fsize_items, zz_numbers_items, zz_tlen_items, zz_gk_items, zz_gm_items, zz_gh_items, zz_gf_items, zz_gn_items, vSh_items, vSea_items, vGa_items, vSp_items, vTr_items, zz_finding_lanes, zz_items_lanes, zz_lanes_lanes, zz_sizes_lanes, zz_weights_lanes, zz_levels_lanes, zz_heads_lanes, zz_ssize_lanes, zz_rules_lanes, zz_rivers_lanes, zz_orders_lanes, zz_now_lanes, zz_then_lanes, zz_loss_lanes, zz_stale_lanes, zz_ga_lanes, zz_free_lanes, zz_rsize_lanes, zz_fmin_lanes, zz_fpass_lanes, zz_inTurn_lanes, zz_fsize_lanes, zz_numbers_lanes, zz_tlen_lanes, zz_gk_lanes, zz_gm_lanes, zz_gh_lanes, zz_gf_lanes, zz_gn_lanes, vSh_lanes, vSea_lanes, vGa_lanes, vSp_lanes, vTr_lanes, zz_finding_sizes, zz_items_sizes, zz_lanes_sizes, zz_sizes_sizes, zz_weights_sizes, zz_levels_sizes, zz_heads_sizes, zz_ssize_sizes, zz_rules_sizes, zz_rivers_sizes, zz_orders_sizes, zz_now_sizes, zz_then_sizes, zz_loss_sizes, zz_stale_sizes, zz_ga_sizes, zz_free_sizes, zz_rsize_sizes, zz_fmin_sizes, zz_fpass_sizes, zz_inTurn_sizes, zz_fsize_sizes, zz_numbers_sizes, zz_tlen_sizes, zz_gk_sizes, zz_gm_sizes, zz_gh_sizes, zz_gf_sizes, zz_gn_sizes, vSh_sizes, vSea_sizes, vGa_sizes, vSp_sizes, vTr_sizes, zz_finding_finding, zz_items_finding, zz_lanes_finding, zz_sizes_finding, zz_weights_finding, zz_levels_finding, zz_heads_finding, zz_ssize_finding, zz_rules_finding, zz_rivers_finding, zz_orders_finding, zz_now_finding, zz_then_finding, zz_loss_finding, zz_stale_finding, zz_ga_finding, zz_free_finding, zz_rsize_finding, zz_fmin_finding, zz_fpass_finding, zz_inTurn_finding, zz_fsize_finding, zz_numbers_finding, zz_tlen_finding, zz_gk_finding, zz_gm_finding, zz_gh_finding, zz_gf_finding, zz_gn_finding, vSh_finding, vSea_finding, vGa_finding, vSp_finding, vTr_finding, mm_thrown_item, mm_status_item, mm_rule_item, mm_river_item, mm_lane_item, mm_many_item, mm_item_item, mm_worlds_item, mm_weight_item, mm_sea_item, mm_least_item, mm_isTold_item, mm_gates_item, mm_minutes_item, mm_hand_item, mm_hasFailed_item, mm_crew_item, mm_ships_item, mm_comes_item, mm_takes_item, mm_trace_item, mm_traced_item, uSh_item, uSea_item, uGa_item, uSp_item, uTr_item, mm_thrown_many, mm_status_many, mm_rule_many, mm_river_many, mm_lane_many, mm_many_many, mm_item_many, mm_worlds_many, mm_weight_many, mm_sea_many, mm_least_many, mm_isTold_many, mm_gates_many, mm_minutes_many, mm_hand_many, mm_hasFailed_many, mm_crew_many, mm_ships_many, mm_comes_many, mm_takes_many, mm_trace_many, mm_traced_many, uSh_many, uSea_many, uGa_many, uSp_many, uTr_many, mm_thrown_lane, mm_status_lane, mm_rule_lane, mm_river_lane, mm_lane_lane, mm_many_lane, mm_item_lane, mm_worlds_lane, mm_weight_lane, mm_sea_lane, mm_least_lane, mm_isTold_lane, mm_gates_lane, mm_minutes_lane, mm_hand_lane, mm_hasFailed_lane, mm_crew_lane, mm_ships_lane, mm_comes_lane, mm_takes_lane, mm_trace_lane, mm_traced_lane, uSh_lane, uSea_lane, uGa_lane, uSp_lane, uTr_lane, mm_thrown_status, mm_status_status, mm_rule_status, mm_river_status, mm_lane_status, mm_many_status, mm_item_status, mm_worlds_status, mm_weight_status, mm_sea_status, mm_least_status, mm_isTold_status, mm_gates_status, mm_minutes_status, mm_hand_status, mm_hasFailed_status, mm_crew_status, mm_ships_status, mm_comes_status, mm_takes_status, mm_trace_status, mm_traced_status, uSh_status, uSea_status, uGa_status, uSp_status, uTr_status, mm_thrown_thrown, mm_status_thrown, mm_rule_thrown, mm_river_thrown, mm_lane_thrown, mm_many_thrown, mm_item_thrown, mm_worlds_thrown, mm_weight_thrown, mm_sea_thrown, mm_least_thrown, mm_isTold_thrown, mm_gates_thrown, mm_minutes_thrown, mm_hand_thrown, mm_hasFailed_thrown, mm_crew_thrown, mm_ships_thrown, mm_comes_thrown, mm_takes_thrown, mm_trace_thrown, mm_traced_thrown, uSh_thrown, uSea_thrown, uGa_thrown, uSp_thrown, uTr_thrown, true_implies, not_true_eq_false, not_false_eq_true, false_implies, and_true, true_and, i10, i00]
          refine ⟨⟨?_, ?_⟩, h.2.2⟩
          · intro t ht
            by_cases e : t = s
            · subst e
              refine Or.inr ⟨n, l, hn, hl, ?_, ?_, ?_, ?_⟩ <;> exact pk_us
            · rcases h.sh.1 t ht with ⟨q1, q2⟩ | ⟨n', l', q0, q0', q1, q2, q3, q4⟩
              · exact Or.inl ⟨(pk_un e).trans q1, (pk_un e).trans q2⟩
              · exact Or.inr ⟨n', l', q0, q0', (pk_un e).trans q1, (pk_un e).trans q2, (pk_un e).trans q3, (pk_un e).trans q4⟩
          · intro t k ht hk
            show va_up (z_items g) s (jfill 60 0 (z_items g s)) t k = (if 60 * s + 0 ≤ 60 * t + k ∧ 60 * t + k < 60 * s + 60 then 0 else m_item m (60 * t + k))
            by_cases e : t = s
            · subst e
              rw [if_pos (by omega)]
              unfold va_up jfill
              rw [if_pos rfl, if_pos hk]
            · rw [if_neg (by omega)]
              unfold va_up
              rw [if_neg e]
              exact h.sh.2 t k ht hk
        · simp only [h3, h4, true_implies, not_true_eq_false, not_false_eq_true, false_implies, and_true, true_and, i10, i00, vSG_found]
          unfold vM_sheet
          simp only [q_isSheet, if_pos h1, q_in0 2 2 rfl, show (nI 2) = (2 : Int32) from rfl, if_pos h2, h3, h4, true_implies, not_true_eq_false, not_false_eq_true, false_implies, and_true, true_and, i10, i00, vM_found, R, zz_finding_finding, zz_items_finding, zz_lanes_finding, zz_sizes_finding, zz_weights_finding, zz_levels_finding, zz_heads_finding, zz_ssize_finding, zz_rules_finding, zz_rivers_finding, zz_orders_finding, zz_now_finding, zz_then_finding, zz_loss_finding, zz_stale_finding, zz_ga_finding, zz_free_finding, zz_rsize_finding, zz_fmin_finding, zz_fpass_finding, zz_inTurn_finding, zz_fsize_finding, zz_numbers_finding, zz_tlen_finding, zz_gk_finding, zz_gm_finding, zz_gh_finding, zz_gf_finding, zz_gn_finding, vSh_finding, vSea_finding, vGa_finding, vSp_finding, vTr_finding, mm_thrown_status, mm_status_status, mm_rule_status, mm_river_status, mm_lane_status, mm_many_status, mm_item_status, mm_worlds_status, mm_weight_status, mm_sea_status, mm_least_status, mm_isTold_status, mm_gates_status, mm_minutes_status, mm_hand_status, mm_hasFailed_status, mm_crew_status, mm_ships_status, mm_comes_status, mm_takes_status, mm_trace_status, mm_traced_status, uSh_status, uSea_status, uGa_status, uSp_status, uTr_status, mm_thrown_thrown, mm_status_thrown, mm_rule_thrown, mm_river_thrown, mm_lane_thrown, mm_many_thrown, mm_item_thrown, mm_worlds_thrown, mm_weight_thrown, mm_sea_thrown, mm_least_thrown, mm_isTold_thrown, mm_gates_thrown, mm_minutes_thrown, mm_hand_thrown, mm_hasFailed_thrown, mm_crew_thrown, mm_ships_thrown, mm_comes_thrown, mm_takes_thrown, mm_trace_thrown, mm_traced_thrown, uSh_thrown, uSea_thrown, uGa_thrown, uSp_thrown, uTr_thrown]
          exact ⟨h.1, h.2.2⟩
      · simp only [h3, true_implies, not_true_eq_false, not_false_eq_true, false_implies, and_true, true_and, i10, i00]
        unfold vM_sheet
        simp only [q_isSheet, if_pos h1, q_in0 2 2 rfl, show (nI 2) = (2 : Int32) from rfl, if_pos h2, h3, true_implies, not_true_eq_false, not_false_eq_true, false_implies, and_true, true_and, i10, i00, R, mm_thrown_thrown, mm_status_thrown, mm_rule_thrown, mm_river_thrown, mm_lane_thrown, mm_many_thrown, mm_item_thrown, mm_worlds_thrown, mm_weight_thrown, mm_sea_thrown, mm_least_thrown, mm_isTold_thrown, mm_gates_thrown, mm_minutes_thrown, mm_hand_thrown, mm_hasFailed_thrown, mm_crew_thrown, mm_ships_thrown, mm_comes_thrown, mm_takes_thrown, mm_trace_thrown, mm_traced_thrown, uSh_thrown, uSea_thrown, uGa_thrown, uSp_thrown, uTr_thrown]
        exact h
    · simp only [if_neg h2, true_implies, not_true_eq_false, not_false_eq_true, false_implies, and_true, true_and, i10, i00]
      unfold vM_sheet
      simp only [q_isSheet, if_pos h1, q_in0 2 2 rfl, show (nI 2) = (2 : Int32) from rfl, if_neg h2, true_implies, not_true_eq_false, not_false_eq_true, false_implies, and_true, true_and, i10, i00, R, mm_thrown_thrown, mm_status_thrown, mm_rule_thrown, mm_river_thrown, mm_lane_thrown, mm_many_thrown, mm_item_thrown, mm_worlds_thrown, mm_weight_thrown, mm_sea_thrown, mm_least_thrown, mm_isTold_thrown, mm_gates_thrown, mm_minutes_thrown, mm_hand_thrown, mm_hasFailed_thrown, mm_crew_thrown, mm_ships_thrown, mm_comes_thrown, mm_takes_thrown, mm_trace_thrown, mm_traced_thrown, uSh_thrown, uSea_thrown, uGa_thrown, uSp_thrown, uTr_thrown]
      exact h
theorem sim_drop {g : GS} {m : GM} (h : R g m) (a1 : Int32) : vSG_drop g a1 (fun r g' => vM_drop m a1 (fun r' m' => r = r' ∧ R g' m')) := by
  unfold vSG_drop
  rcases ix8 a1 with h1 | ⟨s, hs, rfl, h1⟩
  · simp only [q_within, if_neg h1, true_implies, not_true_eq_false, not_false_eq_true, false_implies, and_true, true_and, i10, i00]
    unfold vM_drop
    simp only [q_isSheet, if_neg h1, true_implies, not_true_eq_false, not_false_eq_true, false_implies, and_true, true_and, i10, i00, R, mm_thrown_thrown, mm_status_thrown, mm_rule_thrown, mm_river_thrown, mm_lane_thrown, mm_many_thrown, mm_item_thrown, mm_worlds_thrown, mm_weight_thrown, mm_sea_thrown, mm_least_thrown, mm_isTold_thrown, mm_gates_thrown, mm_minutes_thrown, mm_hand_thrown, mm_hasFailed_thrown, mm_crew_thrown, mm_ships_thrown, mm_comes_thrown, mm_takes_thrown, mm_trace_thrown, mm_traced_thrown, uSh_thrown, uSea_thrown, uGa_thrown, uSp_thrown, uTr_thrown]
    exact h
  · simp only [q_within, if_pos h1, true_implies, not_true_eq_false, not_false_eq_true, false_implies, and_true, true_and, i10, i00, q_isMissing hs]
    have hcl : (nI s).toNatClampNeg = s := nI_clamp (by omega)
    have hin : vp_in (nI s) 8 := vp_in_nI hs (by decide)
    rcases h.sh.1 s hs with ⟨q1, q2⟩ | ⟨n, l, hn, hl, q1, q2, q3, q4⟩
    · simp only [if_pos q1, true_implies, not_true_eq_false, not_false_eq_true, false_implies, and_true, true_and, i10, i00, vSG_found]
      unfold vM_drop
      have c : ¬ (0 : Int32) ≤ m_lane m s := by
        rw [q2]
        decide
      simp only [q_isSheet, if_pos h1, true_implies, not_true_eq_false, not_false_eq_true, false_implies, and_true, true_and, i10, i00, hcl, hin, vM_found, R, zz_finding_finding, zz_items_finding, zz_lanes_finding, zz_sizes_finding, zz_weights_finding, zz_levels_finding, zz_heads_finding, zz_ssize_finding, zz_rules_finding, zz_rivers_finding, zz_orders_finding, zz_now_finding, zz_then_finding, zz_loss_finding, zz_stale_finding, zz_ga_finding, zz_free_finding, zz_rsize_finding, zz_fmin_finding, zz_fpass_finding, zz_inTurn_finding, zz_fsize_finding, zz_numbers_finding, zz_tlen_finding, zz_gk_finding, zz_gm_finding, zz_gh_finding, zz_gf_finding, zz_gn_finding, vSh_finding, vSea_finding, vGa_finding, vSp_finding, vTr_finding, mm_thrown_status, mm_status_status, mm_rule_status, mm_river_status, mm_lane_status, mm_many_status, mm_item_status, mm_worlds_status, mm_weight_status, mm_sea_status, mm_least_status, mm_isTold_status, mm_gates_status, mm_minutes_status, mm_hand_status, mm_hasFailed_status, mm_crew_status, mm_ships_status, mm_comes_status, mm_takes_status, mm_trace_status, mm_traced_status, uSh_status, uSea_status, uGa_status, uSp_status, uTr_status, mm_thrown_thrown, mm_status_thrown, mm_rule_thrown, mm_river_thrown, mm_lane_thrown, mm_many_thrown, mm_item_thrown, mm_worlds_thrown, mm_weight_thrown, mm_sea_thrown, mm_least_thrown, mm_isTold_thrown, mm_gates_thrown, mm_minutes_thrown, mm_hand_thrown, mm_hasFailed_thrown, mm_crew_thrown, mm_ships_thrown, mm_comes_thrown, mm_takes_thrown, mm_trace_thrown, mm_traced_thrown, uSh_thrown, uSea_thrown, uGa_thrown, uSp_thrown, uTr_thrown, c]
      exact ⟨h.1, h.2.2⟩
    · have q5 : ¬ z_sizes g s = -1 := by rw [q1]; exact nI_nm1 (by omega)
      simp only [if_neg q5, true_implies, not_true_eq_false, not_false_eq_true, false_implies, and_true, true_and, i10, i00, vSheets_takeAway, vSG_fine, hcl, hin]
      unfold vM_drop
      have c : (0 : Int32) ≤ m_lane m s := by
        rw [q4]
        exact nI_p0 (by omega)
      simp only [q_isSheet, if_pos h1, true_implies, not_true_eq_false, not_false_eq_true, false_implies, and_true, true_and, i10, i00, hcl, hin, R, zz_finding_sizes, zz_items_sizes, zz_lanes_sizes, zz_sizes_sizes, zz_weights_sizes, zz_levels_sizes, zz_heads_sizes, zz_ssize_sizes, zz_rules_sizes, zz_rivers_sizes, zz_orders_sizes, zz_now_sizes, zz_then_sizes, zz_loss_sizes, zz_stale_sizes, zz_ga_sizes, zz_free_sizes, zz_rsize_sizes, zz_fmin_sizes, zz_fpass_sizes, zz_inTurn_sizes, zz_fsize_sizes, zz_numbers_sizes, zz_tlen_sizes, zz_gk_sizes, zz_gm_sizes, zz_gh_sizes, zz_gf_sizes, zz_gn_sizes, vSh_sizes, vSea_sizes, vGa_sizes, vSp_sizes, vTr_sizes, zz_finding_finding, zz_items_finding, zz_lanes_finding, zz_sizes_finding, zz_weights_finding, zz_levels_finding, zz_heads_finding, zz_ssize_finding, zz_rules_finding, zz_rivers_finding, zz_orders_finding, zz_now_finding, zz_then_finding, zz_loss_finding, zz_stale_finding, zz_ga_finding, zz_free_finding, zz_rsize_finding, zz_fmin_finding, zz_fpass_finding, zz_inTurn_finding, zz_fsize_finding, zz_numbers_finding, zz_tlen_finding, zz_gk_finding, zz_gm_finding, zz_gh_finding, zz_gf_finding, zz_gn_finding, vSh_finding, vSea_finding, vGa_finding, vSp_finding, vTr_finding, mm_thrown_lane, mm_status_lane, mm_rule_lane, mm_river_lane, mm_lane_lane, mm_many_lane, mm_item_lane, mm_worlds_lane, mm_weight_lane, mm_sea_lane, mm_least_lane, mm_isTold_lane, mm_gates_lane, mm_minutes_lane, mm_hand_lane, mm_hasFailed_lane, mm_crew_lane, mm_ships_lane, mm_comes_lane, mm_takes_lane, mm_trace_lane, mm_traced_lane, uSh_lane, uSea_lane, uGa_lane, uSp_lane, uTr_lane, mm_thrown_status, mm_status_status, mm_rule_status, mm_river_status, mm_lane_status, mm_many_status, mm_item_status, mm_worlds_status, mm_weight_status, mm_sea_status, mm_least_status, mm_isTold_status, mm_gates_status, mm_minutes_status, mm_hand_status, mm_hasFailed_status, mm_crew_status, mm_ships_status, mm_comes_status, mm_takes_status, mm_trace_status, mm_traced_status, uSh_status, uSea_status, uGa_status, uSp_status, uTr_status, mm_thrown_thrown, mm_status_thrown, mm_rule_thrown, mm_river_thrown, mm_lane_thrown, mm_many_thrown, mm_item_thrown, mm_worlds_thrown, mm_weight_thrown, mm_sea_thrown, mm_least_thrown, mm_isTold_thrown, mm_gates_thrown, mm_minutes_thrown, mm_hand_thrown, mm_hasFailed_thrown, mm_crew_thrown, mm_ships_thrown, mm_comes_thrown, mm_takes_thrown, mm_trace_thrown, mm_traced_thrown, uSh_thrown, uSea_thrown, uGa_thrown, uSp_thrown, uTr_thrown, c]
      refine ⟨?_, ⟨?_, h.sh.2⟩, h.2.2⟩
      · rw [q1, q2]
      · intro t ht
        by_cases e : t = s
        · subst e
          exact Or.inl ⟨pk_us, pk_us⟩
        · rcases h.sh.1 t ht with ⟨q1, q2⟩ | ⟨n', l', q0, q0', q1, q2, q3, q4⟩
          · exact Or.inl ⟨(pk_un e).trans q1, (pk_un e).trans q2⟩
          · exact Or.inr ⟨n', l', q0, q0', (pk_un e).trans q1, q2, q3, (pk_un e).trans q4⟩
