/-! ===== closings, tooMany ===== -/
theorem sub64 (x y : Int32) : (x.toInt64 - y.toInt64).toInt = x.toInt - y.toInt := by
  have r1 := fb_rng' x
  have r2 := fb_rng' y
  rw [Int64.toInt_sub, Int32.toInt_toInt64, Int32.toInt_toInt64]
  exact fb_bmodL' (by omega) (by omega)
theorem cl_S (x lv sh : Int32) : x.toInt64 ≤ lv.toInt64 - sh.toInt64 ↔ x.toInt + sh.toInt ≤ lv.toInt := by
  rw [Int64.le_iff_toInt_le, sub64, Int32.toInt_toInt64]
  omega
theorem cl_M (x lv sh : Int32) : x.toInt64 + sh.toInt64 ≤ lv.toInt64 ↔ x.toInt + sh.toInt ≤ lv.toInt := by
  rw [Int64.le_iff_toInt_le, add64, Int32.toInt_toInt64]
def cn (p : Nat → Bool) : Nat → Nat
  | 0 => 0
  | k + 1 => cn p k + (if p k = true then 1 else 0)
theorem acc_cn (p : Nat → Bool) : ∀ k, acc p k = nI (cn p k)
  | 0 => rfl
  | k + 1 => by
    unfold acc cn
    rw [acc_cn p k]
    split
    · exact nI_1 _
    · exact Int32.add_zero _
theorem cn_le (p : Nat → Bool) : ∀ k, cn p k ≤ k
  | 0 => Nat.le_refl 0
  | k + 1 => by
    unfold cn
    have := cn_le p k
    split <;> omega
theorem cn_mono {p q : Nat → Bool} : ∀ k, (∀ j, j < k → p j = true → q j = true) → cn p k ≤ cn q k
  | 0, _ => Nat.le_refl 0
  | k + 1, h => by
    unfold cn
    have h1 := cn_mono k (fun j hj => h j (by omega))
    have h2 := h k (by omega)
    by_cases a : p k = true
    · rw [if_pos a, if_pos (h2 a)]
      omega
    · rw [if_neg a]
      omega
/-- how many of n levels lie above -/
def clP (it : Nat → Int32) (sh lv : Int32) : Nat → Bool := fun j => decide (¬ (it j).toInt + sh.toInt ≤ lv.toInt)
theorem clP_cong {it it' : Nat → Int32} {sh lv : Int32} {j : Nat} (e : it j = it' j) : clP it sh lv j = clP it' sh lv j := by
  unfold clP
  simp only [e]
theorem lp_above {post : Int32 → GS → Prop} {g : GS} {s i n : Nat} {lv sh : Int32} (hs : s < 8) (hi : i + n ≤ 60) (hp : post (acc (clP (fun j => z_items g s (i + j)) sh lv) n) g) : ∀ d k : Nat, k + d = n → vSheets_above_6 post (d + 1) (nI s) (nI i) (nI n) (lv.toInt64 - sh.toInt64) (acc (clP (fun j => z_items g s (i + j)) sh lv) k) (nI (i + k)) g := by
  have ea : nI i + nI n = nI (i + n) := nI_add i n
  intro d
  induction d with
  | zero =>
    intro k hk
    have e : k = n := by omega
    subst e
    unfold vSheets_above_6
    rw [ea]
    exact ⟨fun _ => hp, fun q => absurd (nI_le (Nat.le_refl _) (by omega)) q⟩
  | succ d ih =>
    intro k hk
    have ih := ih (k + 1) (by omega)
    unfold acc at ih
    unfold vSheets_above_6 vSheets_above_33
    rw [ea, nI_clamp (show s < 2 ^ 31 by omega), nI_clamp (show i + k < 2 ^ 31 by omega), nI_1, cl_S]
    refine ⟨fun q => absurd q (nI_ge (show i + k < i + n by omega) (by omega)), fun _ => ⟨vp_in_nI hs (by decide), vp_in_nI (by omega) (by decide), fun q => ?_, fun q => ?_⟩⟩
    · rw [if_neg (by unfold clP; rw [decide_eq_true_iff]; exact fun z => z q), Int32.add_zero] at ih
      exact ih
    · rw [if_pos (by unfold clP; rw [decide_eq_true_iff]; exact q)] at ih
      exact ih
theorem q_above {post : Int32 → GS → Prop} {g : GS} {s i n : Nat} {lv sh : Int32} (hs : s < 8) (hi : i + n ≤ 60) (hp : post (acc (clP (fun j => z_items g s (i + j)) sh lv) n) g) : vSheets_above g (nI s) (nI i) (nI n) (lv.toInt64 - sh.toInt64) post := by
  unfold vSheets_above
  exact ⟨n + 1, lp_above hs hi hp n 0 (by omega)⟩
theorem lp_M_closingsOf {post : Int32 → GM → Prop} {m : GM} {s i n : Nat} {a4 a5 a6 : Int32} (hs : s < 8) (hi : i + n ≤ 60) (hp : post (acc (clP (fun j => m_item m (60 * s + i + j)) ((a6 * a4) / 10) a5) n) m) : ∀ d k : Nat, k + d = n → vM_closingsOf_6 post (d + 1) (nI s) (nI i) (nI n) a4 a5 a6 (acc (clP (fun j => m_item m (60 * s + i + j)) ((a6 * a4) / 10) a5) k) (nI k) m := by
  intro d
  induction d with
  | zero =>
    intro k hk
    have e : k = n := by omega
    subst e
    unfold vM_closingsOf_6
    exact ⟨fun _ => hp, fun q => absurd (nI_le (Nat.le_refl _) (by omega)) q⟩
  | succ d ih =>
    intro k hk
    have ih := ih (k + 1) (by omega)
    unfold acc at ih
    unfold vM_closingsOf_6 vM_closingsOf_51
    rw [nI60b, nI_clamp (show 60 * s + i + k < 2 ^ 31 by omega), nI_1, cl_M]
    refine ⟨fun q => absurd q (nI_ge (show k < n by omega) (by omega)), fun _ => ⟨vp_in_nI (by omega) (by decide), fun q => ?_, fun q => ?_⟩⟩
    · rw [if_neg (by unfold clP; rw [decide_eq_true_iff]; exact fun z => z q)] at ih
      exact ih
    · rw [if_pos (by unfold clP; rw [decide_eq_true_iff]; exact q)] at ih
      exact ih
theorem q_closingsOf {post : Int32 → GM → Prop} {m : GM} {s i n : Nat} {a4 a5 a6 : Int32} (hs : s < 8) (hi : i + n ≤ 60) (hp : post (acc (clP (fun j => m_item m (60 * s + i + j)) ((a6 * a4) / 10) a5) n) m) : vM_closingsOf m (nI s) (nI i) (nI n) a4 a5 a6 post := by
  unfold vM_closingsOf
  exact ⟨n + 1, lp_M_closingsOf hs hi hp n 0 (by omega)⟩
theorem sim_closings {g : GS} {m : GM} (h : R g m) (a1 a2 a3 a4 a5 a6 : Int32) : vSG_closings g a1 a2 a3 a4 a5 a6 (fun r g' => vM_closings m a1 a2 a3 a4 a5 a6 (fun r' m' => r = r' ∧ R g' m')) := by
  have hR : R g (sm_thrown m 0) := by
    simp only [R, mm_thrown_thrown, mm_status_thrown, mm_rule_thrown, mm_river_thrown, mm_lane_thrown, mm_many_thrown, mm_item_thrown, mm_worlds_thrown, mm_weight_thrown, mm_sea_thrown, mm_least_thrown, mm_isTold_thrown, mm_gates_thrown, mm_minutes_thrown, mm_hand_thrown, mm_hasFailed_thrown, mm_crew_thrown, mm_ships_thrown, mm_comes_thrown, mm_takes_thrown, mm_trace_thrown, mm_traced_thrown, uSh_thrown, uSea_thrown, uGa_thrown, uSp_thrown, uTr_thrown]
    exact h
  unfold vSG_closings vSG_arePeaks
  by_cases hall : (0 ≤ a1 ∧ a1 ≤ 7) ∧ (1 ≤ a3 ∧ a3 ≤ 60) ∧ (0 ≤ a4 ∧ a4 ≤ 100) ∧ (0 ≤ a6 ∧ a6 ≤ 300)
  rotate_left
  · have hM : vM_closings m a1 a2 a3 a4 a5 a6 (fun r' m' => (-1000001 : Int32) = r' ∧ R g m') := by
      unfold vM_closings
      simp only [q_isSheet, q_inL 1 60 1 60 rfl rfl, q_in0 300 300 rfl, q_in0 100 100 rfl, n1, show nI 60 = (60 : Int32) from rfl, show nI 300 = (300 : Int32) from rfl, show nI 100 = (100 : Int32) from rfl]
      by_cases c1 : 0 ≤ a1 ∧ a1 ≤ 7
      rotate_left
      · simp only [if_neg c1, true_implies, not_true_eq_false, not_false_eq_true, false_implies, and_true, true_and, i10, i00]
        exact hR
      by_cases c2 : 1 ≤ a3 ∧ a3 ≤ 60
      rotate_left
      · simp only [if_pos c1, if_neg c2, true_implies, not_true_eq_false, not_false_eq_true, false_implies, and_true, true_and, i10, i00]
        exact hR
      by_cases c3 : 0 ≤ a6 ∧ a6 ≤ 300
      rotate_left
      · simp only [if_pos c1, if_pos c2, if_neg c3, true_implies, not_true_eq_false, not_false_eq_true, false_implies, and_true, true_and, i10, i00]
        exact hR
      by_cases c4 : 0 ≤ a4 ∧ a4 ≤ 100
      rotate_left
      · simp only [if_pos c1, if_pos c2, if_pos c3, if_neg c4, true_implies, not_true_eq_false, not_false_eq_true, false_implies, and_true, true_and, i10, i00]
        exact hR
      exact absurd ⟨c1, c2, c4, c3⟩ hall
    simp only [q_within]
    by_cases c1 : 0 ≤ a1 ∧ a1 ≤ 7
    rotate_left
    · simp only [if_neg c1, true_implies, not_true_eq_false, not_false_eq_true, false_implies, and_true, true_and, i10, i00]
      exact hM
    by_cases c2 : 1 ≤ a3 ∧ a3 ≤ 60
    rotate_left
    · simp only [if_pos c1, if_neg c2, true_implies, not_true_eq_false, not_false_eq_true, false_implies, and_true, true_and, i10, i00]
      exact hM
    by_cases c3 : 0 ≤ a4 ∧ a4 ≤ 100
    rotate_left
    · simp only [if_pos c1, if_pos c2, if_neg c3, true_implies, not_true_eq_false, not_false_eq_true, false_implies, and_true, true_and, i10, i00]
      exact hM
    by_cases c4 : 0 ≤ a6 ∧ a6 ≤ 300
    rotate_left
    · simp only [if_pos c1, if_pos c2, if_pos c3, if_neg c4, true_implies, not_true_eq_false, not_false_eq_true, false_implies, and_true, true_and, i10, i00]
      exact hM
    exact absurd ⟨c1, c2, c3, c4⟩ hall
  obtain ⟨c1, c2, c3, c4⟩ := hall
  rcases ix8 a1 with h1 | ⟨s, hs, rfl, -⟩
  · exact absurd c1 h1
  obtain ⟨n, hn, rfl⟩ := nI_of2 (x := a3) (M := 60) (n := 60) (by decide) (fun q => absurd (Int32.le_trans c2.1 (Int32.le_of_lt q)) (by decide)) c2.2
  simp only [q_within, if_pos c1, if_pos c2, if_pos c3, if_pos c4, true_implies, not_true_eq_false, not_false_eq_true, false_implies, and_true, true_and, i10, i00]
  have hcl : (nI s).toNatClampNeg = s := nI_clamp (by omega)
  have hin : vp_in (nI s) 8 := vp_in_nI hs (by decide)
  have hM : ∀ post : Int32 → GM → Prop, (vp_in (nI s) 8 ∧ ((0 ≤ m_lane m s → ((a2 < 0 → vM_closings_93 post (sm_status (sm_thrown m 0) 0)) ∧ (¬ a2 < 0 → (vp_in (nI s) 8 ∧ ((a2.toInt64 + (nI n).toInt64 ≤ (m_many m s).toInt64 → vM_closingsOf (sm_status (sm_thrown m 0) 0) (nI s) a2 (nI n) a4 a5 a6 post) ∧ (¬ a2.toInt64 + (nI n).toInt64 ≤ (m_many m s).toInt64 → vM_closings_93 post (sm_status (sm_thrown m 0) 0))))))) ∧ (¬ 0 ≤ m_lane m s → vM_found (sm_status (sm_thrown m 0) 0) 1 (fun r50 g50 => post r50 g50)))) → vM_closings m (nI s) a2 (nI n) a4 a5 a6 post := by
    intro post hp
    unfold vM_closings
    simp only [q_isSheet, q_inL 1 60 1 60 rfl rfl, q_in0 300 300 rfl, q_in0 100 100 rfl, n1, show nI 60 = (60 : Int32) from rfl, show nI 300 = (300 : Int32) from rfl, show nI 100 = (100 : Int32) from rfl, if_pos c1, if_pos c2, if_pos c3, if_pos c4, true_implies, not_true_eq_false, not_false_eq_true, false_implies, and_true, true_and, i10, i00, mm_thrown_thrown, mm_status_thrown, mm_rule_thrown, mm_river_thrown, mm_lane_thrown, mm_many_thrown, mm_item_thrown, mm_worlds_thrown, mm_weight_thrown, mm_sea_thrown, mm_least_thrown, mm_isTold_thrown, mm_gates_thrown, mm_minutes_thrown, mm_hand_thrown, mm_hasFailed_thrown, mm_crew_thrown, mm_ships_thrown, mm_comes_thrown, mm_takes_thrown, mm_trace_thrown, mm_traced_thrown, uSh_thrown, uSea_thrown, uGa_thrown, uSp_thrown, uTr_thrown, hcl]
    exact hp
  rcases h.sh.1 s hs with ⟨q1, q2⟩ | ⟨z, l, hz, hl, q1, q2, q3, q4⟩
  · simp only [q_look_miss hs q1, true_implies, not_true_eq_false, not_false_eq_true, false_implies, and_true, true_and, i10, i00, vSG_found]
    refine hM _ ⟨hin, fun q => absurd q (by rw [q2]; decide), fun _ => ?_⟩
    unfold vM_found
    simp only [R, zz_finding_finding, zz_items_finding, zz_lanes_finding, zz_sizes_finding, zz_weights_finding, zz_levels_finding, zz_heads_finding, zz_ssize_finding, zz_rules_finding, zz_rivers_finding, zz_orders_finding, zz_now_finding, zz_then_finding, zz_loss_finding, zz_stale_finding, zz_ga_finding, zz_free_finding, zz_rsize_finding, zz_fmin_finding, zz_fpass_finding, zz_inTurn_finding, zz_fsize_finding, zz_numbers_finding, zz_tlen_finding, zz_gk_finding, zz_gm_finding, zz_gh_finding, zz_gf_finding, zz_gn_finding, vSh_finding, vSea_finding, vGa_finding, vSp_finding, vTr_finding, mm_thrown_status, mm_status_status, mm_rule_status, mm_river_status, mm_lane_status, mm_many_status, mm_item_status, mm_worlds_status, mm_weight_status, mm_sea_status, mm_least_status, mm_isTold_status, mm_gates_status, mm_minutes_status, mm_hand_status, mm_hasFailed_status, mm_crew_status, mm_ships_status, mm_comes_status, mm_takes_status, mm_trace_status, mm_traced_status, uSh_status, uSea_status, uGa_status, uSp_status, uTr_status, mm_thrown_thrown, mm_status_thrown, mm_rule_thrown, mm_river_thrown, mm_lane_thrown, mm_many_thrown, mm_item_thrown, mm_worlds_thrown, mm_weight_thrown, mm_sea_thrown, mm_least_thrown, mm_isTold_thrown, mm_gates_thrown, mm_minutes_thrown, mm_hand_thrown, mm_hasFailed_thrown, mm_crew_thrown, mm_ships_thrown, mm_comes_thrown, mm_takes_thrown, mm_trace_thrown, mm_traced_thrown, uSh_thrown, uSea_thrown, uGa_thrown, uSp_thrown, uTr_thrown, true_implies, not_true_eq_false, not_false_eq_true, false_implies, and_true, true_and, i10, i00]
    exact ⟨h.1, h.2.2⟩
  have c0 : (0 : Int32) ≤ m_lane m s := by rw [q4]; exact nI_p0 (by omega)
  rw [q_look hs hz q1]
  have t8 : (nI n).toInt = n := nI_toInt (by omega)
  have w2 : (a2.toInt64 + (nI n).toInt64 ≤ (m_many m s).toInt64) ↔ a2.toInt + n ≤ (z : Int) := by
    rw [Int64.le_iff_toInt_le, add64, Int32.toInt_toInt64, q2, nI_toInt (show z < 2 ^ 31 by omega), t8]
  have l3 : (a2 < 0) ↔ a2.toInt < 0 := Int32.lt_iff_toInt_lt
  rw [t8]
  by_cases c4 : 0 ≤ a2.toInt ∧ 0 ≤ (n : Int) ∧ a2.toInt + (n : Int) ≤ z
  rotate_left
  · simp only [if_neg c4, i20, true_implies, not_true_eq_false, not_false_eq_true, false_implies, and_true, true_and, i10, i00, vSG_found]
    have hX : vM_closings_93 (fun r' m' => (-1000010 : Int32) - 2 = r' ∧ R (sz_finding g 2) m') (sm_status (sm_thrown m 0) 0) := by
      unfold vM_closings_93 vM_found
      simp only [R, zz_finding_finding, zz_items_finding, zz_lanes_finding, zz_sizes_finding, zz_weights_finding, zz_levels_finding, zz_heads_finding, zz_ssize_finding, zz_rules_finding, zz_rivers_finding, zz_orders_finding, zz_now_finding, zz_then_finding, zz_loss_finding, zz_stale_finding, zz_ga_finding, zz_free_finding, zz_rsize_finding, zz_fmin_finding, zz_fpass_finding, zz_inTurn_finding, zz_fsize_finding, zz_numbers_finding, zz_tlen_finding, zz_gk_finding, zz_gm_finding, zz_gh_finding, zz_gf_finding, zz_gn_finding, vSh_finding, vSea_finding, vGa_finding, vSp_finding, vTr_finding, mm_thrown_status, mm_status_status, mm_rule_status, mm_river_status, mm_lane_status, mm_many_status, mm_item_status, mm_worlds_status, mm_weight_status, mm_sea_status, mm_least_status, mm_isTold_status, mm_gates_status, mm_minutes_status, mm_hand_status, mm_hasFailed_status, mm_crew_status, mm_ships_status, mm_comes_status, mm_takes_status, mm_trace_status, mm_traced_status, uSh_status, uSea_status, uGa_status, uSp_status, uTr_status, mm_thrown_thrown, mm_status_thrown, mm_rule_thrown, mm_river_thrown, mm_lane_thrown, mm_many_thrown, mm_item_thrown, mm_worlds_thrown, mm_weight_thrown, mm_sea_thrown, mm_least_thrown, mm_isTold_thrown, mm_gates_thrown, mm_minutes_thrown, mm_hand_thrown, mm_hasFailed_thrown, mm_crew_thrown, mm_ships_thrown, mm_comes_thrown, mm_takes_thrown, mm_trace_thrown, mm_traced_thrown, uSh_thrown, uSea_thrown, uGa_thrown, uSp_thrown, uTr_thrown, true_implies, not_true_eq_false, not_false_eq_true, false_implies, and_true, true_and, i10, i00]
      exact ⟨h.1, h.2.2⟩
    refine hM _ ⟨hin, fun _ => ⟨fun _ => hX, fun d1 => ⟨hin, fun d2 => ?_, fun _ => hX⟩⟩, fun q => absurd c0 q⟩
    exact absurd ⟨Int.not_lt.mp (fun q => d1 (l3.mpr q)), by omega, w2.mp d2⟩ c4
  have d1 : ¬ a2 < 0 := fun q => by have := l3.mp q; omega
  obtain ⟨i, hi, rfl⟩ := nI_of (x := a2) d1
  have hi8 : i + n ≤ 60 := by
    have h5 := c4.2.2
    rw [nI_toInt hi] at h5
    omega
  have d2 := w2.mpr c4.2.2
  simp only [if_pos c4, true_implies, not_true_eq_false, not_false_eq_true, false_implies, and_true, true_and, i10, i00, vSG_levelIn, vSG_fine]
  refine q_above hs hi8 ?_
  refine hM _ ⟨hin, fun _ => ⟨fun q => absurd q d1, fun _ => ⟨hin, fun _ => q_closingsOf hs hi8 ⟨?_, ?_⟩, fun q => absurd d2 q⟩⟩, fun q => absurd c0 q⟩
  · refine acc_cong (fun j hj => ?_)
    refine clP_cong ?_
    rw [h.sh.2 s (i + j) hs (by omega), Nat.add_assoc]
    rfl
  · simp only [R, zz_finding_finding, zz_items_finding, zz_lanes_finding, zz_sizes_finding, zz_weights_finding, zz_levels_finding, zz_heads_finding, zz_ssize_finding, zz_rules_finding, zz_rivers_finding, zz_orders_finding, zz_now_finding, zz_then_finding, zz_loss_finding, zz_stale_finding, zz_ga_finding, zz_free_finding, zz_rsize_finding, zz_fmin_finding, zz_fpass_finding, zz_inTurn_finding, zz_fsize_finding, zz_numbers_finding, zz_tlen_finding, zz_gk_finding, zz_gm_finding, zz_gh_finding, zz_gf_finding, zz_gn_finding, vSh_finding, vSea_finding, vGa_finding, vSp_finding, vTr_finding, mm_thrown_status, mm_status_status, mm_rule_status, mm_river_status, mm_lane_status, mm_many_status, mm_item_status, mm_worlds_status, mm_weight_status, mm_sea_status, mm_least_status, mm_isTold_status, mm_gates_status, mm_minutes_status, mm_hand_status, mm_hasFailed_status, mm_crew_status, mm_ships_status, mm_comes_status, mm_takes_status, mm_trace_status, mm_traced_status, uSh_status, uSea_status, uGa_status, uSp_status, uTr_status, mm_thrown_thrown, mm_status_thrown, mm_rule_thrown, mm_river_thrown, mm_lane_thrown, mm_many_thrown, mm_item_thrown, mm_worlds_thrown, mm_weight_thrown, mm_sea_thrown, mm_least_thrown, mm_isTold_thrown, mm_gates_thrown, mm_minutes_thrown, mm_hand_thrown, mm_hasFailed_thrown, mm_crew_thrown, mm_ships_thrown, mm_comes_thrown, mm_takes_thrown, mm_trace_thrown, mm_traced_thrown, uSh_thrown, uSea_thrown, uGa_thrown, uSp_thrown, uTr_thrown, true_implies, not_true_eq_false, not_false_eq_true, false_implies, and_true, true_and, i10, i00]
    exact ⟨h.1, h.2.2⟩
