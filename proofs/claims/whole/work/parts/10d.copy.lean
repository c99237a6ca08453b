theorem fb_bmodL' {z : Int} (h1 : -9223372036854775808 ≤ z) (h2 : z < 9223372036854775808) : z.bmod (2 ^ 64) = z := by
  rw [Int.bmod_def]
  omega
theorem add64 (x y : Int32) : (x.toInt64 + y.toInt64).toInt = x.toInt + y.toInt := by
  have r1 := fb_rng' x
  have r2 := fb_rng' y
  rw [Int64.toInt_add, Int32.toInt_toInt64, Int32.toInt_toInt64]
  exact fb_bmodL' (by omega) (by omega)
theorem q_lookAtBoth_a {g : GS} {a b : Nat} (ha : a < 8) (hb : b < 8) (e : z_sizes g a = -1) {i j n : Int32} {post : Int32 → GS → Prop} : vSheets_lookAtBoth g (nI a) i (nI b) j n post ↔ post 1 g := by
  unfold vSheets_lookAtBoth
  simp only [q_isMissing ha, if_pos e, true_implies, not_true_eq_false, not_false_eq_true, false_implies, and_true, true_and, i10, i00]
theorem q_lookAtBoth_b {g : GS} {a b : Nat} (ha : a < 8) (hb : b < 8) (e1 : ¬ z_sizes g a = -1) (e : z_sizes g b = -1) {i j n : Int32} {post : Int32 → GS → Prop} : vSheets_lookAtBoth g (nI a) i (nI b) j n post ↔ post 1 g := by
  unfold vSheets_lookAtBoth
  simp only [q_isMissing ha, if_neg e1, true_implies, not_true_eq_false, not_false_eq_true, false_implies, and_true, true_and, i10, i00, q_isMissing hb, if_pos e]
theorem q_lookAtBoth {g : GS} {a b za zb : Nat} (ha : a < 8) (hb : b < 8) (hza : za ≤ 60) (hzb : zb ≤ 60) (e1 : z_sizes g a = nI za) (e2 : z_sizes g b = nI zb) {i j n : Int32} {post : Int32 → GS → Prop} : vSheets_lookAtBoth g (nI a) i (nI b) j n post ↔ (if z_lanes g a = z_lanes g b then (if (0 ≤ i.toInt ∧ 0 ≤ n.toInt ∧ i.toInt + n.toInt ≤ za) ∧ (0 ≤ j.toInt ∧ 0 ≤ n.toInt ∧ j.toInt + n.toInt ≤ zb) then post 0 g else post 2 g) else post 5 g) := by
  have c1 : ¬ z_sizes g a = -1 := by rw [e1]; exact nI_nm1 (by omega)
  have c2 : ¬ z_sizes g b = -1 := by rw [e2]; exact nI_nm1 (by omega)
  have h1 : (nI a).toNatClampNeg = a := nI_clamp (by omega)
  have h2 : (nI b).toNatClampNeg = b := nI_clamp (by omega)
  have h3 : vp_in (nI a) 8 := vp_in_nI ha (by decide)
  have h4 : vp_in (nI b) 8 := vp_in_nI hb (by decide)
  unfold vSheets_lookAtBoth
  simp only [q_isMissing ha, if_neg c1, true_implies, not_true_eq_false, not_false_eq_true, false_implies, and_true, true_and, i10, i00, q_isMissing hb, if_neg c2, h1, h2, h3, h4, q_hasPlaces ha hza e1, q_hasPlaces hb hzb e2]
  by_cases c3 : z_lanes g a = z_lanes g b
  · rw [if_pos c3]
    simp only [eq_true c3, true_implies, not_true_eq_false, not_false_eq_true, false_implies, and_true, true_and, i10, i00]
    by_cases c4 : 0 ≤ i.toInt ∧ 0 ≤ n.toInt ∧ i.toInt + n.toInt ≤ za
    · simp only [if_pos c4, true_implies, not_true_eq_false, not_false_eq_true, false_implies, and_true, true_and, i10, i00, eq_true c4, ↓reduceIte]
    · have c6 : ¬ ((0 ≤ i.toInt ∧ 0 ≤ n.toInt ∧ i.toInt + n.toInt ≤ za) ∧ (0 ≤ j.toInt ∧ 0 ≤ n.toInt ∧ j.toInt + n.toInt ≤ zb)) := fun q => c4 q.1
      simp only [if_neg c4, if_neg c6, true_implies, not_true_eq_false, not_false_eq_true, false_implies, and_true, true_and, i10, i00]
  · rw [if_neg c3]
    simp only [eq_false c3, true_implies, not_true_eq_false, not_false_eq_true, false_implies, and_true, true_and, i10, i00]
set_option maxHeartbeats 4000000 in
theorem sim_copy {g : GS} {m : GM} (h : R g m) (a1 a2 a3 a4 a5 : Int32) : vSG_copy g a1 a2 a3 a4 a5 (fun r g' => vM_copy m a1 a2 a3 a4 a5 (fun r' m' => r = r' ∧ R g' m')) := by
  unfold vSG_copy
  rcases ix8 a1 with h1 | ⟨a, ha, rfl, h1⟩
  · simp only [q_within, if_neg h1, true_implies, not_true_eq_false, not_false_eq_true, false_implies, and_true, true_and, i10, i00]
    unfold vM_copy
    simp only [q_isSheet, if_neg h1, true_implies, not_true_eq_false, not_false_eq_true, false_implies, and_true, true_and, i10, i00, R, mm_thrown_thrown, mm_status_thrown, mm_rule_thrown, mm_river_thrown, mm_lane_thrown, mm_many_thrown, mm_item_thrown, mm_worlds_thrown, mm_weight_thrown, mm_sea_thrown, mm_least_thrown, mm_isTold_thrown, mm_gates_thrown, mm_minutes_thrown, mm_hand_thrown, mm_hasFailed_thrown, mm_crew_thrown, mm_ships_thrown, mm_comes_thrown, mm_takes_thrown, mm_trace_thrown, mm_traced_thrown, uSh_thrown, uSea_thrown, uGa_thrown, uSp_thrown, uTr_thrown]
    exact h
  rcases ix8 a3 with h2 | ⟨b, hb, rfl, h2⟩
  · simp only [q_within, if_pos h1, if_neg h2, true_implies, not_true_eq_false, not_false_eq_true, false_implies, and_true, true_and, i10, i00]
    unfold vM_copy
    simp only [q_isSheet, if_pos h1, if_neg h2, true_implies, not_true_eq_false, not_false_eq_true, false_implies, and_true, true_and, i10, i00, R, mm_thrown_thrown, mm_status_thrown, mm_rule_thrown, mm_river_thrown, mm_lane_thrown, mm_many_thrown, mm_item_thrown, mm_worlds_thrown, mm_weight_thrown, mm_sea_thrown, mm_least_thrown, mm_isTold_thrown, mm_gates_thrown, mm_minutes_thrown, mm_hand_thrown, mm_hasFailed_thrown, mm_crew_thrown, mm_ships_thrown, mm_comes_thrown, mm_takes_thrown, mm_trace_thrown, mm_traced_thrown, uSh_thrown, uSea_thrown, uGa_thrown, uSp_thrown, uTr_thrown]
    exact h
  simp only [q_within, if_pos h1, if_pos h2, true_implies, not_true_eq_false, not_false_eq_true, false_implies, and_true, true_and, i10, i00]
  have hca : (nI a).toNatClampNeg = a := nI_clamp (by omega)
  have hcb : (nI b).toNatClampNeg = b := nI_clamp (by omega)
  have hia : vp_in (nI a) 8 := vp_in_nI ha (by decide)
  have hib : vp_in (nI b) 8 := vp_in_nI hb (by decide)
  rcases h.sh.1 a ha with ⟨q1, q2⟩ | ⟨za, la, hza, hla, q1, q2, q3, q4⟩
  · simp only [q_lookAtBoth_a ha hb q1, true_implies, not_true_eq_false, not_false_eq_true, false_implies, and_true, true_and, i10, i00, vSG_found]
    unfold vM_copy vM_copy_45
    have c : m_lane m a < (0 : Int32) := by
      rw [q2]
      decide
    simp only [q_isSheet, if_pos h1, if_pos h2, true_implies, not_true_eq_false, not_false_eq_true, false_implies, and_true, true_and, i10, i00, hca, hia, zz_finding_finding, zz_items_finding, zz_lanes_finding, zz_sizes_finding, zz_weights_finding, zz_levels_finding, zz_heads_finding, zz_ssize_finding, zz_rules_finding, zz_rivers_finding, zz_orders_finding, zz_now_finding, zz_then_finding, zz_loss_finding, zz_stale_finding, zz_ga_finding, zz_free_finding, zz_rsize_finding, zz_fmin_finding, zz_fpass_finding, zz_inTurn_finding, zz_fsize_finding, zz_numbers_finding, zz_tlen_finding, zz_gk_finding, zz_gm_finding, zz_gh_finding, zz_gf_finding, zz_gn_finding, vSh_finding, vSea_finding, vGa_finding, vSp_finding, vTr_finding, mm_thrown_status, mm_status_status, mm_rule_status, mm_river_status, mm_lane_status, mm_many_status, mm_item_status, mm_worlds_status, mm_weight_status, mm_sea_status, mm_least_status, mm_isTold_status, mm_gates_status, mm_minutes_status, mm_hand_status, mm_hasFailed_status, mm_crew_status, mm_ships_status, mm_comes_status, mm_takes_status, mm_trace_status, mm_traced_status, uSh_status, uSea_status, uGa_status, uSp_status, uTr_status, mm_thrown_thrown, mm_status_thrown, mm_rule_thrown, mm_river_thrown, mm_lane_thrown, mm_many_thrown, mm_item_thrown, mm_worlds_thrown, mm_weight_thrown, mm_sea_thrown, mm_least_thrown, mm_isTold_thrown, mm_gates_thrown, mm_minutes_thrown, mm_hand_thrown, mm_hasFailed_thrown, mm_crew_thrown, mm_ships_thrown, mm_comes_thrown, mm_takes_thrown, mm_trace_thrown, mm_traced_thrown, uSh_thrown, uSea_thrown, uGa_thrown, uSp_thrown, uTr_thrown, eq_true c, vM_found, R]
    exact ⟨h.1, h.2.2⟩
  have n1 : ¬ z_sizes g a = -1 := by rw [q1]; exact nI_nm1 (by omega)
  have ca : ¬ m_lane m a < (0 : Int32) := by
    rw [q4]
    exact nI_n0 (by omega)
  rcases h.sh.1 b hb with ⟨p1, p2⟩ | ⟨zb, lb, hzb, hlb, p1, p2, p3, p4⟩
  · simp only [q_lookAtBoth_b ha hb n1 p1, true_implies, not_true_eq_false, not_false_eq_true, false_implies, and_true, true_and, i10, i00, vSG_found]
    unfold vM_copy vM_copy_45
    have c : ¬ (0 : Int32) ≤ m_lane m b := by
      rw [p2]
      decide
    simp only [q_isSheet, if_pos h1, if_pos h2, true_implies, not_true_eq_false, not_false_eq_true, false_implies, and_true, true_and, i10, i00, hca, hia, hcb, hib, zz_finding_finding, zz_items_finding, zz_lanes_finding, zz_sizes_finding, zz_weights_finding, zz_levels_finding, zz_heads_finding, zz_ssize_finding, zz_rules_finding, zz_rivers_finding, zz_orders_finding, zz_now_finding, zz_then_finding, zz_loss_finding, zz_stale_finding, zz_ga_finding, zz_free_finding, zz_rsize_finding, zz_fmin_finding, zz_fpass_finding, zz_inTurn_finding, zz_fsize_finding, zz_numbers_finding, zz_tlen_finding, zz_gk_finding, zz_gm_finding, zz_gh_finding, zz_gf_finding, zz_gn_finding, vSh_finding, vSea_finding, vGa_finding, vSp_finding, vTr_finding, mm_thrown_status, mm_status_status, mm_rule_status, mm_river_status, mm_lane_status, mm_many_status, mm_item_status, mm_worlds_status, mm_weight_status, mm_sea_status, mm_least_status, mm_isTold_status, mm_gates_status, mm_minutes_status, mm_hand_status, mm_hasFailed_status, mm_crew_status, mm_ships_status, mm_comes_status, mm_takes_status, mm_trace_status, mm_traced_status, uSh_status, uSea_status, uGa_status, uSp_status, uTr_status, mm_thrown_thrown, mm_status_thrown, mm_rule_thrown, mm_river_thrown, mm_lane_thrown, mm_many_thrown, mm_item_thrown, mm_worlds_thrown, mm_weight_thrown, mm_sea_thrown, mm_least_thrown, mm_isTold_thrown, mm_gates_thrown, mm_minutes_thrown, mm_hand_thrown, mm_hasFailed_thrown, mm_crew_thrown, mm_ships_thrown, mm_comes_thrown, mm_takes_thrown, mm_trace_thrown, mm_traced_thrown, uSh_thrown, uSea_thrown, uGa_thrown, uSp_thrown, uTr_thrown, eq_false ca, eq_false c, vM_found, R]
    exact ⟨h.1, h.2.2⟩
  have cb : (0 : Int32) ≤ m_lane m b := by
    rw [p4]
    exact nI_p0 (by omega)
  have hl : (m_lane m a = m_lane m b) ↔ (z_lanes g a = z_lanes g b) := by rw [q3, q4, p3, p4]
  rw [q_lookAtBoth ha hb hza hzb q1 p1]
  by_cases c3 : z_lanes g a = z_lanes g b
  · rw [if_pos c3]
    have c3' := hl.mpr c3
    have r2 := fb_rng' a2
    have r4 := fb_rng' a4
    have r5 := fb_rng' a5
    have t0 : (0 : Int32).toInt = 0 := rfl
    have w1 : ((nI za).toInt64 < a2.toInt64 + a5.toInt64) ↔ (za : Int) < a2.toInt + a5.toInt := by
      rw [Int64.lt_iff_toInt_lt, add64, Int32.toInt_toInt64, nI_toInt (by omega)]
    have w2 : (a4.toInt64 + a5.toInt64 ≤ (nI zb).toInt64) ↔ a4.toInt + a5.toInt ≤ (zb : Int) := by
      rw [Int64.le_iff_toInt_le, add64, Int32.toInt_toInt64, nI_toInt (by omega)]
    have l2 : (a2 < 0) ↔ a2.toInt < 0 := Int32.lt_iff_toInt_lt
    have l4 : (a4 < 0) ↔ a4.toInt < 0 := Int32.lt_iff_toInt_lt
    have l5 : (a5 < 0) ↔ a5.toInt < 0 := Int32.lt_iff_toInt_lt
    by_cases c4 : (0 ≤ a2.toInt ∧ 0 ≤ a5.toInt ∧ a2.toInt + a5.toInt ≤ za) ∧ (0 ≤ a4.toInt ∧ 0 ≤ a5.toInt ∧ a4.toInt + a5.toInt ≤ zb)
    · obtain ⟨i, hi, rfl⟩ := nI_of (x := a2) (fun q => by have := l2.mp q; omega)
      obtain ⟨j, hj, rfl⟩ := nI_of (x := a4) (fun q => by have := l4.mp q; omega)
      obtain ⟨n, hn, rfl⟩ := nI_of (x := a5) (fun q => by have := l5.mp q; omega)
      have x2 : (nI i).toInt = i := nI_toInt hi
      have x4 : (nI j).toInt = j := nI_toInt hj
      have x5 : (nI n).toInt = n := nI_toInt hn
      have f1 : i + n ≤ 60 := by rw [x2, x4, x5] at c4; omega
      have f2 : j + n ≤ 60 := by rw [x2, x4, x5] at c4; omega
      have k2 : (nI i).toNatClampNeg = i := nI_clamp hi
      have k4 : (nI j).toNatClampNeg = j := nI_clamp hj
      have k5 : (nI n).toNatClampNeg = n := nI_clamp hn
      have g2 : ¬ nI i < (0 : Int32) := nI_n0 hi
      have g4 : ¬ nI j < (0 : Int32) := nI_n0 hj
      have g5 : ¬ nI n < (0 : Int32) := nI_n0 hn
      have v1 : ¬ ((nI za).toInt64 < (nI i).toInt64 + (nI n).toInt64) := fun q => by have := w1.mp q; omega
      have v2 : (nI j).toInt64 + (nI n).toInt64 ≤ (nI zb).toInt64 := w2.mpr c4.2.2.2
      simp only [if_pos c4, true_implies, not_true_eq_false, not_false_eq_true, false_implies, and_true, true_and, i10, i00]
      unfold vSheets_move vSG_fine
      simp only [hca, hcb, hia, hib, k2, k4, k5, g2, g4, g5, f1, f2, true_implies, not_true_eq_false, not_false_eq_true, false_implies, and_true, true_and, i10, i00]
      unfold vM_copy
      simp only [q_isSheet, if_pos h1, if_pos h2, true_implies, not_true_eq_false, not_false_eq_true, false_implies, and_true, true_and, i10, i00, hca, hia, hcb, hib, mm_thrown_status, mm_status_status, mm_rule_status, mm_river_status, mm_lane_status, mm_many_status, mm_item_status, mm_worlds_status, mm_weight_status, mm_sea_status, mm_least_status, mm_isTold_status, mm_gates_status, mm_minutes_status, mm_hand_status, mm_hasFailed_status, mm_crew_status, mm_ships_status, mm_comes_status, mm_takes_status, mm_trace_status, mm_traced_status, uSh_status, uSea_status, uGa_status, uSp_status, uTr_status, mm_thrown_thrown, mm_status_thrown, mm_rule_thrown, mm_river_thrown, mm_lane_thrown, mm_many_thrown, mm_item_thrown, mm_worlds_thrown, mm_weight_thrown, mm_sea_thrown, mm_least_thrown, mm_isTold_thrown, mm_gates_thrown, mm_minutes_thrown, mm_hand_thrown, mm_hasFailed_thrown, mm_crew_thrown, mm_ships_thrown, mm_comes_thrown, mm_takes_thrown, mm_trace_thrown, mm_traced_thrown, uSh_thrown, uSea_thrown, uGa_thrown, uSp_thrown, uTr_thrown, eq_false ca, eq_true cb, eq_true c3', eq_false g2, eq_false g4, eq_false g5, q2, p2, eq_false v1, eq_true v2]
      have hfin : (fun (r' : Int32) (m' : GM) => nI n = r' ∧ R (sz_finding (sz_items g (va_up (z_items g) b (va_cpy (z_items g a) (z_items g b) i j n))) 0) m') (nI n) (sm_item (sm_status (sm_thrown m 0) 0) (va_cpy (m_item (sm_status (sm_thrown m 0) 0)) (m_item (sm_status (sm_thrown m 0) 0)) (60 * a + i) (60 * b + j) n)) := by
        simp only [true_implies, not_true_eq_false, not_false_eq_true, false_implies, and_true, true_and, i10, i00, R, zz_finding_items, zz_items_items, zz_lanes_items, zz_sizes_items, zz_weights_items, zz_levels_items, zz_heads_items, zz_ssize_items, zz_rules_items, zz_rivers_items, zz_orders_items, zz_now_items, zz_then_items, zz_loss_items, zz_stale_items, zz_ga_items, zz_free_items, zz_rsize_items, zz_fmin_items, zz_fpass_items, zz_inTurn_items, zz_fsize_items, zz_numbers_items, zz_tlen_items, zz_gk_items, zz_gm_items, zz_gh_items, zz_gf_items, zz_gn_items, vSh_items, vSea_items, vGa_items, vSp_items, vTr_items, zz_finding_finding, zz_items_finding, zz_lanes_finding, zz_sizes_finding, zz_weights_finding, zz_levels_finding, zz_heads_finding, zz_ssize_finding, zz_rules_finding, zz_rivers_finding, zz_orders_finding, zz_now_finding, zz_then_finding, zz_loss_finding, zz_stale_finding, zz_ga_finding, zz_free_finding, zz_rsize_finding, zz_fmin_finding, zz_fpass_finding, zz_inTurn_finding, zz_fsize_finding, zz_numbers_finding, zz_tlen_finding, zz_gk_finding, zz_gm_finding, zz_gh_finding, zz_gf_finding, zz_gn_finding, vSh_finding, vSea_finding, vGa_finding, vSp_finding, vTr_finding, mm_thrown_item, mm_status_item, mm_rule_item, mm_river_item, mm_lane_item, mm_many_item, mm_item_item, mm_worlds_item, mm_weight_item, mm_sea_item, mm_least_item, mm_isTold_item, mm_gates_item, mm_minutes_item, mm_hand_item, mm_hasFailed_item, mm_crew_item, mm_ships_item, mm_comes_item, mm_takes_item, mm_trace_item, mm_traced_item, uSh_item, uSea_item, uGa_item, uSp_item, uTr_item, mm_thrown_status, mm_status_status, mm_rule_status, mm_river_status, mm_lane_status, mm_many_status, mm_item_status, mm_worlds_status, mm_weight_status, mm_sea_status, mm_least_status, mm_isTold_status, mm_gates_status, mm_minutes_status, mm_hand_status, mm_hasFailed_status, mm_crew_status, mm_ships_status, mm_comes_status, mm_takes_status, mm_trace_status, mm_traced_status, uSh_status, uSea_status, uGa_status, uSp_status, uTr_status, mm_thrown_thrown, mm_status_thrown, mm_rule_thrown, mm_river_thrown, mm_lane_thrown, mm_many_thrown, mm_item_thrown, mm_worlds_thrown, mm_weight_thrown, mm_sea_thrown, mm_least_thrown, mm_isTold_thrown, mm_gates_thrown, mm_minutes_thrown, mm_hand_thrown, mm_hasFailed_thrown, mm_crew_thrown, mm_ships_thrown, mm_comes_thrown, mm_takes_thrown, mm_trace_thrown, mm_traced_thrown, uSh_thrown, uSea_thrown, uGa_thrown, uSp_thrown, uTr_thrown]
        refine ⟨⟨h.sh.1, ?_⟩, h.2.2⟩
        intro t k ht hk
        show va_up (z_items g) b (va_cpy (z_items g a) (z_items g b) i j n) t k = va_cpy (m_item m) (m_item m) (60 * a + i) (60 * b + j) n (60 * t + k)
        unfold va_up va_cpy
        by_cases e : t = b
        · subst e
          rw [if_pos rfl]
          by_cases e2 : j ≤ k ∧ k < j + n
          · rw [if_pos e2, if_pos (by omega), h.sh.2 a _ ha (by omega)]
            congr 1
            omega
          · rw [if_neg e2, if_neg (by omega)]
            exact h.sh.2 t k ht hk
        · rw [if_neg e, if_neg (by omega)]
          exact h.sh.2 t k ht hk
      have e0 : sm_status (sm_thrown m 0) 0 = sm_item (sm_status (sm_thrown m 0) 0) (va_cpy (m_item (sm_status (sm_thrown m 0) 0)) (m_item (sm_status (sm_thrown m 0) 0)) (60 * a + i) (60 * b + j) 0) := by rw [va_cpy_0]; rfl
      have e9 : sm_status (sm_thrown m 0) 0 = sm_item (sm_status (sm_thrown m 0) 0) (va_cpy (m_item (sm_status (sm_thrown m 0) 0)) (m_item (sm_status (sm_thrown m 0) 0)) (60 * a + i + (n - 0)) (60 * b + j + (n - 0)) 0) := by rw [va_cpy_0]; rfl
      unfold vM_copy_138
      by_cases c6 : i < j
      · have c7 : nI i < nI j := nI_lt c6 hj
        simp only [eq_true c7, true_implies, not_true_eq_false, not_false_eq_true, false_implies, and_true, true_and, i10, i00]
        refine ⟨n + 1, ?_⟩
        rw [e9]
        exact lp_M_copyDn ha hb f1 f2 (by intro k hk; omega) _ hfin n 0 (by omega)
      · have c7 : ¬ nI i < nI j := nI_nlt (by omega) hi
        simp only [eq_false c7, true_implies, not_true_eq_false, not_false_eq_true, false_implies, and_true, true_and, i10, i00]
        refine ⟨n + 1, ?_⟩
        rw [e0]
        exact lp_M_copyUp ha hb f1 f2 (by intro k hk; omega) _ hfin n 0 (by omega)
    · simp only [if_neg c4, i20, true_implies, not_true_eq_false, not_false_eq_true, false_implies, and_true, true_and, i10, i00]
      unfold vSG_found vM_copy vM_copy_121 vM_found
      simp only [q_isSheet, if_pos h1, if_pos h2, true_implies, not_true_eq_false, not_false_eq_true, false_implies, and_true, true_and, i10, i00, hca, hia, hcb, hib, mm_thrown_status, mm_status_status, mm_rule_status, mm_river_status, mm_lane_status, mm_many_status, mm_item_status, mm_worlds_status, mm_weight_status, mm_sea_status, mm_least_status, mm_isTold_status, mm_gates_status, mm_minutes_status, mm_hand_status, mm_hasFailed_status, mm_crew_status, mm_ships_status, mm_comes_status, mm_takes_status, mm_trace_status, mm_traced_status, uSh_status, uSea_status, uGa_status, uSp_status, uTr_status, mm_thrown_thrown, mm_status_thrown, mm_rule_thrown, mm_river_thrown, mm_lane_thrown, mm_many_thrown, mm_item_thrown, mm_worlds_thrown, mm_weight_thrown, mm_sea_thrown, mm_least_thrown, mm_isTold_thrown, mm_gates_thrown, mm_minutes_thrown, mm_hand_thrown, mm_hasFailed_thrown, mm_crew_thrown, mm_ships_thrown, mm_comes_thrown, mm_takes_thrown, mm_trace_thrown, mm_traced_thrown, uSh_thrown, uSea_thrown, uGa_thrown, uSp_thrown, uTr_thrown, eq_false ca, eq_true cb, eq_true c3', q2, p2]
      have hX : R (sz_finding g 2) (sm_status (sm_status (sm_thrown m 0) 0) 2) := by
        simp only [true_implies, not_true_eq_false, not_false_eq_true, false_implies, and_true, true_and, i10, i00, R, zz_finding_finding, zz_items_finding, zz_lanes_finding, zz_sizes_finding, zz_weights_finding, zz_levels_finding, zz_heads_finding, zz_ssize_finding, zz_rules_finding, zz_rivers_finding, zz_orders_finding, zz_now_finding, zz_then_finding, zz_loss_finding, zz_stale_finding, zz_ga_finding, zz_free_finding, zz_rsize_finding, zz_fmin_finding, zz_fpass_finding, zz_inTurn_finding, zz_fsize_finding, zz_numbers_finding, zz_tlen_finding, zz_gk_finding, zz_gm_finding, zz_gh_finding, zz_gf_finding, zz_gn_finding, vSh_finding, vSea_finding, vGa_finding, vSp_finding, vTr_finding, mm_thrown_status, mm_status_status, mm_rule_status, mm_river_status, mm_lane_status, mm_many_status, mm_item_status, mm_worlds_status, mm_weight_status, mm_sea_status, mm_least_status, mm_isTold_status, mm_gates_status, mm_minutes_status, mm_hand_status, mm_hasFailed_status, mm_crew_status, mm_ships_status, mm_comes_status, mm_takes_status, mm_trace_status, mm_traced_status, uSh_status, uSea_status, uGa_status, uSp_status, uTr_status, mm_thrown_thrown, mm_status_thrown, mm_rule_thrown, mm_river_thrown, mm_lane_thrown, mm_many_thrown, mm_item_thrown, mm_worlds_thrown, mm_weight_thrown, mm_sea_thrown, mm_least_thrown, mm_isTold_thrown, mm_gates_thrown, mm_minutes_thrown, mm_hand_thrown, mm_hasFailed_thrown, mm_crew_thrown, mm_ships_thrown, mm_comes_thrown, mm_takes_thrown, mm_trace_thrown, mm_traced_thrown, uSh_thrown, uSea_thrown, uGa_thrown, uSp_thrown, uTr_thrown]
        exact ⟨h.1, h.2.2⟩
      refine ⟨fun _ => hX, fun d1 => ⟨fun _ => hX, fun d2 => ⟨fun _ => hX, fun d3 => ⟨fun _ => hX, fun d4 => ⟨fun d5 => ?_, fun _ => hX⟩⟩⟩⟩⟩
      refine absurd ⟨⟨?_, ?_, ?_⟩, ?_, ?_, ?_⟩ c4
      · exact Int.not_lt.mp (fun q => d1 (l2.mpr q))
      · exact Int.not_lt.mp (fun q => d3 (l5.mpr q))
      · exact Int.not_lt.mp (fun q => d4 (w1.mpr q))
      · exact Int.not_lt.mp (fun q => d2 (l4.mpr q))
      · exact Int.not_lt.mp (fun q => d3 (l5.mpr q))
      · exact w2.mp d5
  · rw [if_neg c3]
    have c3' : ¬ m_lane m a = m_lane m b := fun q => c3 (hl.mp q)
    simp only [i50, true_implies, not_true_eq_false, not_false_eq_true, false_implies, and_true, true_and, i10, i00]
    unfold vSG_found vM_copy
    simp only [q_isSheet, if_pos h1, if_pos h2, true_implies, not_true_eq_false, not_false_eq_true, false_implies, and_true, true_and, i10, i00, hca, hia, hcb, hib, zz_finding_finding, zz_items_finding, zz_lanes_finding, zz_sizes_finding, zz_weights_finding, zz_levels_finding, zz_heads_finding, zz_ssize_finding, zz_rules_finding, zz_rivers_finding, zz_orders_finding, zz_now_finding, zz_then_finding, zz_loss_finding, zz_stale_finding, zz_ga_finding, zz_free_finding, zz_rsize_finding, zz_fmin_finding, zz_fpass_finding, zz_inTurn_finding, zz_fsize_finding, zz_numbers_finding, zz_tlen_finding, zz_gk_finding, zz_gm_finding, zz_gh_finding, zz_gf_finding, zz_gn_finding, vSh_finding, vSea_finding, vGa_finding, vSp_finding, vTr_finding, mm_thrown_status, mm_status_status, mm_rule_status, mm_river_status, mm_lane_status, mm_many_status, mm_item_status, mm_worlds_status, mm_weight_status, mm_sea_status, mm_least_status, mm_isTold_status, mm_gates_status, mm_minutes_status, mm_hand_status, mm_hasFailed_status, mm_crew_status, mm_ships_status, mm_comes_status, mm_takes_status, mm_trace_status, mm_traced_status, uSh_status, uSea_status, uGa_status, uSp_status, uTr_status, mm_thrown_thrown, mm_status_thrown, mm_rule_thrown, mm_river_thrown, mm_lane_thrown, mm_many_thrown, mm_item_thrown, mm_worlds_thrown, mm_weight_thrown, mm_sea_thrown, mm_least_thrown, mm_isTold_thrown, mm_gates_thrown, mm_minutes_thrown, mm_hand_thrown, mm_hasFailed_thrown, mm_crew_thrown, mm_ships_thrown, mm_comes_thrown, mm_takes_thrown, mm_trace_thrown, mm_traced_thrown, uSh_thrown, uSea_thrown, uGa_thrown, uSp_thrown, uTr_thrown, eq_false ca, eq_true cb, eq_false c3', vM_found, R]
    exact ⟨h.1, h.2.2⟩
