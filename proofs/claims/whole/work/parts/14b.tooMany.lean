/-- how many are above in year y -/
def clN (it : Nat → Int32) (rise lv : Int32) (n y : Nat) : Nat := cn (clP it ((nI y * rise) / 10) lv) n
theorem clN_mono {it : Nat → Int32} {rise : Nat} (hr : rise ≤ 100) {lv : Int32} {n y y' : Nat} (hy : y ≤ y') (hy' : y' ≤ 301) : clN it (nI rise) lv n y ≤ clN it (nI rise) lv n y' := by
  unfold clN
  refine cn_mono n (fun j _ h => ?_)
  unfold clP at h ⊢
  rw [decide_eq_true_iff] at h ⊢
  have b1 : y * rise ≤ 301 * 100 := Nat.mul_le_mul (by omega) hr
  have b2 : y' * rise ≤ 301 * 100 := Nat.mul_le_mul hy' hr
  have b3 : y * rise ≤ y' * rise := Nat.mul_le_mul_right rise hy
  have e1 : nI y * nI rise / 10 = nI (y * rise / 10) := by
    rw [pk_mul]
    exact pk_div (d := 10) (by omega) (by decide) (by decide)
  have e2 : nI y' * nI rise / 10 = nI (y' * rise / 10) := by
    rw [pk_mul]
    exact pk_div (d := 10) (by omega) (by decide) (by decide)
  rw [e1, nI_toInt (by omega)] at h
  rw [e2, nI_toInt (by omega)]
  omega
def tmV (c : Nat → Nat) (lim v : Nat) : Prop := v ≤ 301 ∧ (∀ y, y < v → c y ≤ lim) ∧ (v ≤ 300 → lim < c v)
theorem lp_tooMany {post : Int32 → GS → Prop} {g : GS} {s i n lim rise : Nat} {lv : Int32} {c : Nat → Nat} (hs : s < 8) (hi : i + n ≤ 60) (hr : rise ≤ 100) (hlim : lim < 2 ^ 31) (hc : c = clN (fun j => z_items g s (i + j)) (nI rise) lv n) (hp : ∀ v, tmV c lim v → post (if v ≤ 300 then nI v else -1000000) (sz_finding g 0)) : ∀ d lo hi' t : Nat, hi' - lo < d → lo ≤ hi' → hi' ≤ 301 → (t = 0 ∨ hi' - lo + t ≤ 200) → (∀ y, y < lo → c y ≤ lim) → (hi' ≤ 300 → lim < c hi') → vSG_tooMany_53 post d (nI s) (nI i) (nI n) (nI rise) lv (nI lim) (nI lo) (nI hi') (nI t) g := by
  have hend : ∀ lo, lo ≤ 301 → (∀ y, y < lo → c y ≤ lim) → (lo ≤ 300 → lim < c lo) → vSG_tooMany_120 post (nI lo) g := by
    intro lo h1 h2 h3
    have hp := hp lo ⟨h1, h2, h3⟩
    unfold vSG_tooMany_120 vSG_tooMany_136 vSG_fine
    rw [show ((300 : Int32)) = nI 300 from rfl, nI_leI (by omega) (by omega)]
    refine ⟨fun q => ?_, fun q => ?_⟩
    · rw [if_pos q] at hp
      exact hp
    · rw [if_neg q] at hp
      exact hp
  intro d
  induction d with
  | zero =>
    intro lo hi' t h1
    exact absurd h1 (Nat.not_lt_zero _)
  | succ d ih =>
    intro lo hi' t h1 h2 h3 h4 h5 h6
    unfold vSG_tooMany_53 vSG_tooMany_114 vSG_levelIn
    have e2 : (nI lo + nI hi') / 2 = nI ((lo + hi') / 2) := by
      rw [nI_add]
      exact pk_div (d := 2) (by omega) (by decide) (by decide)
    rw [e2, nI_1, nI_1, show ((300 : Int32)) = nI 300 from rfl, nI_leI (a := 300) (by omega) (by omega), nI_leI (a := hi') (by omega) (by omega)]
    by_cases q : hi' ≤ lo
    · have e : lo = hi' := by omega
      have hE := hend lo (by omega) h5 (by rw [e]; exact h6)
      exact ⟨fun _ => hE, fun _ => ⟨fun _ => hE, fun z => absurd q z⟩⟩
    · refine ⟨fun z => by omega, fun _ => ⟨fun z => absurd z q, fun _ => ?_⟩⟩
      refine q_above hs hi ?_
      rw [acc_cn]
      have ec : cn (clP (fun j => z_items g s (i + j)) (nI ((lo + hi') / 2) * nI rise / 10) lv) n = c ((lo + hi') / 2) := by
        rw [hc]
        rfl
      have hcn := cn_le (clP (fun j => z_items g s (i + j)) (nI ((lo + hi') / 2) * nI rise / 10) lv) n
      have hmono : ∀ y y', y ≤ y' → y' ≤ 301 → c y ≤ c y' := fun y y' a b => by
        rw [hc]
        exact clN_mono hr a b
      rw [ec] at hcn ⊢
      rw [nI_leI (by omega) hlim]
      refine ⟨fun z => ?_, fun z => ?_⟩
      · refine ih ((lo + hi') / 2 + 1) hi' (t + 1) (by omega) (by omega) h3 (by omega) (fun y hy => ?_) h6
        exact Nat.le_trans (hmono y ((lo + hi') / 2) (by omega) (by omega)) z
      · exact ih lo ((lo + hi') / 2) (t + 1) (by omega) (by omega) (by omega) (by omega) h5 (fun _ => by omega)
theorem lp_M_tooMany {post : Int32 → GM → Prop} {m : GM} {s i n lim v : Nat} {rise lv : Int32} {c : Nat → Nat} (hs : s < 8) (hi : i + n ≤ 60) (hlim : lim < 2 ^ 31) (hc : c = clN (fun j => m_item m (60 * s + i + j)) rise lv n) (hv : tmV c lim v) (hp : post (if v ≤ 300 then nI v else -1000000) m) : ∀ d k : Nat, k + d = v → vM_tooMany_94 post (d + 1) (nI s) (nI i) (nI n) rise lv (nI lim) (nI k) m := by
  obtain ⟨v1, v2, v3⟩ := hv
  have hC : ∀ k (P : Int32 → GM → Prop), P (nI (c k)) m → vM_closingsOf m (nI s) (nI i) (nI n) rise lv (nI k) P := fun k P hP => by
    refine q_closingsOf hs hi ?_
    rw [acc_cn]
    rw [hc] at hP
    exact hP
  have hcn : ∀ k, c k ≤ n := fun k => by
    rw [hc]
    exact cn_le _ n
  intro d
  induction d with
  | zero =>
    intro k hk
    have e : k = v := by omega
    subst e
    unfold vM_tooMany_94
    rw [show ((300 : Int32)) = nI 300 from rfl, nI_ltI (by omega) (by omega)]
    refine ⟨fun q => ?_, fun q => hC k _ ?_⟩
    · rw [if_neg (by omega)] at hp
      exact hp
    · have := hcn k
      have := v3 (by omega)
      rw [nI_leI (by omega) hlim]
      rw [if_pos (by omega)] at hp
      exact ⟨fun z => by omega, fun _ => hp⟩
  | succ d ih =>
    intro k hk
    unfold vM_tooMany_94
    rw [show ((300 : Int32)) = nI 300 from rfl, nI_ltI (by omega) (by omega), nI_1]
    refine ⟨fun q => by omega, fun q => hC k _ ?_⟩
    have := hcn k
    have := v2 k (by omega)
    rw [nI_leI (by omega) hlim]
    exact ⟨fun _ => ih (k + 1) (by omega), fun z => by omega⟩
theorem sim_tooMany {g : GS} {m : GM} (h : R g m) (a1 a2 a3 a4 a5 a6 : Int32) : vSG_tooMany g a1 a2 a3 a4 a5 a6 (fun r g' => vM_tooMany m a1 a2 a3 a4 a5 a6 (fun r' m' => r = r' ∧ R g' m')) := by
  have hR : R g (sm_thrown m 0) := by
    simp only [R, mm_thrown_thrown, mm_status_thrown, mm_rule_thrown, mm_river_thrown, mm_lane_thrown, mm_many_thrown, mm_item_thrown, mm_worlds_thrown, mm_weight_thrown, mm_sea_thrown, mm_least_thrown, mm_isTold_thrown, mm_gates_thrown, mm_minutes_thrown, mm_hand_thrown, mm_hasFailed_thrown, mm_crew_thrown, mm_ships_thrown, mm_comes_thrown, mm_takes_thrown, mm_trace_thrown, mm_traced_thrown, uSh_thrown, uSea_thrown, uGa_thrown, uSp_thrown, uTr_thrown]
    exact h
  unfold vSG_tooMany vSG_arePeaks
  by_cases hall : (0 ≤ a1 ∧ a1 ≤ 7) ∧ (1 ≤ a3 ∧ a3 ≤ 60) ∧ (0 ≤ a4 ∧ a4 ≤ 100) ∧ 0 ≤ a6
  rotate_left
  · have hM : vM_tooMany m a1 a2 a3 a4 a5 a6 (fun r' m' => (-1000001 : Int32) = r' ∧ R g m') := by
      unfold vM_tooMany
      simp only [q_isSheet, q_inL 1 60 1 60 rfl rfl, q_in0 100 100 rfl, n1, show nI 60 = (60 : Int32) from rfl, show nI 100 = (100 : Int32) from rfl]
      by_cases c1 : 0 ≤ a1 ∧ a1 ≤ 7
      rotate_left
      · simp only [if_neg c1, true_implies, not_true_eq_false, not_false_eq_true, false_implies, and_true, true_and, i10, i00]
        exact hR
      by_cases c2 : 1 ≤ a3 ∧ a3 ≤ 60
      rotate_left
      · simp only [if_pos c1, if_neg c2, true_implies, not_true_eq_false, not_false_eq_true, false_implies, and_true, true_and, i10, i00]
        exact hR
      by_cases c3 : 0 ≤ a4 ∧ a4 ≤ 100
      rotate_left
      · simp only [if_pos c1, if_pos c2, if_neg c3, true_implies, not_true_eq_false, not_false_eq_true, false_implies, and_true, true_and, i10, i00]
        exact hR
      by_cases c4 : 0 ≤ a6
      rotate_left
      · simp only [if_pos c1, if_pos c2, if_pos c3, eq_false c4, true_implies, not_true_eq_false, not_false_eq_true, false_implies, and_true, true_and, i10, i00]
        exact hR
      exact absurd ⟨c1, c2, c3, c4⟩ hall
    simp only [q_within]
    by_cases c1 : 0 ≤ a1 ∧ a1 ≤ 7
    rotate_left
    · simp only [if_neg c1, true_implies, not_true_eq_false, not_false_eq_true, false_implies, and_true, true_and, i10, i00]
      exact hM
    by_cases c2 : 1 ≤ a3 ∧ a3 ≤ 60
    rotate_left
    · simp only [if_pos c1, if_neg c2, true_implies, not_true_eq_false, not_false_eq_true, false_implies, and_true, true_and, i10, i00]
      exact hM
    by_cases c3 : 0 ≤ a4 ∧ a4 ≤ 100
    rotate_left
    · simp only [if_pos c1, if_pos c2, if_neg c3, true_implies, not_true_eq_false, not_false_eq_true, false_implies, and_true, true_and, i10, i00]
      exact hM
    by_cases c4 : 0 ≤ a6
    rotate_left
    · simp only [if_pos c1, if_pos c2, if_pos c3, eq_false c4, true_implies, not_true_eq_false, not_false_eq_true, false_implies, and_true, true_and, i10, i00]
      exact hM
    exact absurd ⟨c1, c2, c3, c4⟩ hall
  obtain ⟨c1, c2, c3, c4⟩ := hall
  rcases ix8 a1 with h1 | ⟨s, hs, rfl, -⟩
  · exact absurd c1 h1
  obtain ⟨n, hn, rfl⟩ := nI_of2 (x := a3) (M := 60) (n := 60) (by decide) (fun q => absurd (Int32.le_trans c2.1 (Int32.le_of_lt q)) (by decide)) c2.2
  obtain ⟨rise, hrise, rfl⟩ := nI_of2 (x := a4) (M := 100) (n := 100) (by decide) (Int32.not_lt.mpr c3.1) c3.2
  obtain ⟨lim, hlim, rfl⟩ := nI_of (x := a6) (Int32.not_lt.mpr c4)
  simp only [q_within, if_pos c1, if_pos c2, if_pos c3, eq_true c4, true_implies, not_true_eq_false, not_false_eq_true, false_implies, and_true, true_and, i10, i00]
  have hcl : (nI s).toNatClampNeg = s := nI_clamp (by omega)
  have hin : vp_in (nI s) 8 := vp_in_nI hs (by decide)
  have hM : ∀ post : Int32 → GM → Prop, (vp_in (nI s) 8 ∧ ((0 ≤ m_lane m s → ((a2 < 0 → vM_tooMany_85 post (sm_status (sm_thrown m 0) 0)) ∧ (¬ a2 < 0 → (vp_in (nI s) 8 ∧ ((a2.toInt64 + (nI n).toInt64 ≤ (m_many m s).toInt64 → ∃ n_ : Nat, vM_tooMany_94 post n_ (nI s) a2 (nI n) (nI rise) a5 (nI lim) 0 (sm_status (sm_thrown m 0) 0)) ∧ (¬ a2.toInt64 + (nI n).toInt64 ≤ (m_many m s).toInt64 → vM_tooMany_85 post (sm_status (sm_thrown m 0) 0))))))) ∧ (¬ 0 ≤ m_lane m s → vM_found (sm_status (sm_thrown m 0) 0) 1 (fun r50 g50 => post r50 g50)))) → vM_tooMany m (nI s) a2 (nI n) (nI rise) a5 (nI lim) post := by
    intro post hp
    unfold vM_tooMany
    simp only [q_isSheet, q_inL 1 60 1 60 rfl rfl, q_in0 100 100 rfl, n1, show nI 60 = (60 : Int32) from rfl, show nI 100 = (100 : Int32) from rfl, if_pos c1, if_pos c2, if_pos c3, eq_true c4, true_implies, not_true_eq_false, not_false_eq_true, false_implies, and_true, true_and, i10, i00, mm_thrown_thrown, mm_status_thrown, mm_rule_thrown, mm_river_thrown, mm_lane_thrown, mm_many_thrown, mm_item_thrown, mm_worlds_thrown, mm_weight_thrown, mm_sea_thrown, mm_least_thrown, mm_isTold_thrown, mm_gates_thrown, mm_minutes_thrown, mm_hand_thrown, mm_hasFailed_thrown, mm_crew_thrown, mm_ships_thrown, mm_comes_thrown, mm_takes_thrown, mm_trace_thrown, mm_traced_thrown, uSh_thrown, uSea_thrown, uGa_thrown, uSp_thrown, uTr_thrown, hcl]
    exact hp
  rcases h.sh.1 s hs with ⟨q1, q2⟩ | ⟨z, l, hz, hl, q1, q2, q3, q4⟩
  · simp only [q_look_miss hs q1, true_implies, not_true_eq_false, not_false_eq_true, false_implies, and_true, true_and, i10, i00, vSG_found]
    refine hM _ ⟨hin, fun q => absurd q (by rw [q2]; decide), fun _ => ?_⟩
    unfold vM_found
    simp only [R, zz_finding_finding, zz_items_finding, zz_lanes_finding, zz_sizes_finding, zz_weights_finding, zz_levels_finding, zz_heads_finding, zz_ssize_finding, zz_rules_finding, zz_rivers_finding, zz_orders_finding, zz_now_finding, zz_then_finding, zz_loss_finding, zz_stale_finding, zz_ga_finding, zz_free_finding, zz_rsize_finding, zz_fmin_finding, zz_fpass_finding, zz_inTurn_finding, zz_fsize_finding, zz_numbers_finding, zz_tlen_finding, zz_gk_finding, zz_gm_finding, zz_gh_finding, zz_gf_finding, zz_gn_finding, vSh_finding, vSea_finding, vGa_finding, vSp_finding, vTr_finding, mm_thrown_status, mm_status_status, mm_rule_status, mm_river_status, mm_lane_status, mm_many_status, mm_item_status, mm_worlds_status, mm_weight_status, mm_sea_status, mm_least_status, mm_isTold_status, mm_gates_status, mm_minutes_status, mm_hand_status, mm_hasFailed_status, mm_crew_status, mm_ships_status, mm_comes_status, mm_takes_status, mm_trace_status, mm_traced_status, uSh_status, uSea_status, uGa_status, uSp_status, uTr_status, mm_thrown_thrown, mm_status_thrown, mm_rule_thrown, mm_river_thrown, mm_lane_thrown, mm_many_thrown, mm_item_thrown, mm_worlds_thrown, mm_weight_thrown, mm_sea_thrown, mm_least_thrown, mm_isTold_thrown, mm_gates_thrown, mm_minutes_thrown, mm_hand_thrown, mm_hasFailed_thrown, mm_crew_thrown, mm_ships_thrown, mm_comes_thrown, mm_takes_thrown, mm_trace_thrown, mm_traced_thrown, uSh_thrown, uSea_thrown, uGa_thrown, uSp_thrown, uTr_thrown, true_implies, not_true_eq_false, not_false_eq_true, false_implies, and_true, true_and, i10, i00]
    exact ⟨h.1, h.2.2⟩
  have c0 : (0 : Int32) ≤ m_lane m s := by rw [q4]; exact nI_p0 (by omega)
  rw [q_look hs hz q1]
  have t8 : (nI n).toInt = n := nI_toInt (by omega)
  have w2 : (a2.toInt64 + (nI n).toInt64 ≤ (m_many m s).toInt64) ↔ a2.toInt + n ≤ (z : Int) := by
    rw [Int64.le_iff_toInt_le, add64, Int32.toInt_toInt64, q2, nI_toInt (show z < 2 ^ 31 by omega), t8]
  have l3 : (a2 < 0) ↔ a2.toInt < 0 := Int32.lt_iff_toInt_lt
  rw [t8]
  by_cases c4 : 0 ≤ a2.toInt ∧ 0 ≤ (n : Int) ∧ a2.toInt + (n : Int) ≤ z
  rotate_left
  · simp only [if_neg c4, i20, true_implies, not_true_eq_false, not_false_eq_true, false_implies, and_true, true_and, i10, i00, vSG_found]
    have hX : vM_tooMany_85 (fun r' m' => (-1000010 : Int32) - 2 = r' ∧ R (sz_finding g 2) m') (sm_status (sm_thrown m 0) 0) := by
      unfold vM_tooMany_85 vM_found
      simp only [R, zz_finding_finding, zz_items_finding, zz_lanes_finding, zz_sizes_finding, zz_weights_finding, zz_levels_finding, zz_heads_finding, zz_ssize_finding, zz_rules_finding, zz_rivers_finding, zz_orders_finding, zz_now_finding, zz_then_finding, zz_loss_finding, zz_stale_finding, zz_ga_finding, zz_free_finding, zz_rsize_finding, zz_fmin_finding, zz_fpass_finding, zz_inTurn_finding, zz_fsize_finding, zz_numbers_finding, zz_tlen_finding, zz_gk_finding, zz_gm_finding, zz_gh_finding, zz_gf_finding, zz_gn_finding, vSh_finding, vSea_finding, vGa_finding, vSp_finding, vTr_finding, mm_thrown_status, mm_status_status, mm_rule_status, mm_river_status, mm_lane_status, mm_many_status, mm_item_status, mm_worlds_status, mm_weight_status, mm_sea_status, mm_least_status, mm_isTold_status, mm_gates_status, mm_minutes_status, mm_hand_status, mm_hasFailed_status, mm_crew_status, mm_ships_status, mm_comes_status, mm_takes_status, mm_trace_status, mm_traced_status, uSh_status, uSea_status, uGa_status, uSp_status, uTr_status, mm_thrown_thrown, mm_status_thrown, mm_rule_thrown, mm_river_thrown, mm_lane_thrown, mm_many_thrown, mm_item_thrown, mm_worlds_thrown, mm_weight_thrown, mm_sea_thrown, mm_least_thrown, mm_isTold_thrown, mm_gates_thrown, mm_minutes_thrown, mm_hand_thrown, mm_hasFailed_thrown, mm_crew_thrown, mm_ships_thrown, mm_comes_thrown, mm_takes_thrown, mm_trace_thrown, mm_traced_thrown, uSh_thrown, uSea_thrown, uGa_thrown, uSp_thrown, uTr_thrown, true_implies, not_true_eq_false, not_false_eq_true, false_implies, and_true, true_and, i10, i00]
      exact ⟨h.1, h.2.2⟩
    refine hM _ ⟨hin, fun _ => ⟨fun _ => hX, fun d1 => ⟨hin, fun d2 => ?_, fun _ => hX⟩⟩, fun q => absurd c0 q⟩
    exact absurd ⟨Int.not_lt.mp (fun q => d1 (l3.mpr q)), by omega, w2.mp d2⟩ c4
  have d1 : ¬ a2 < 0 := fun q => by have := l3.mp q; omega
  obtain ⟨i, hi, rfl⟩ := nI_of (x := a2) d1
  have hi8 : i + n ≤ 60 := by
    have h5 := c4.2.2
    rw [nI_toInt hi] at h5
    omega
  have d2 := w2.mpr c4.2.2
  simp only [if_pos c4, true_implies, not_true_eq_false, not_false_eq_true, false_implies, and_true, true_and, i10, i00]
  have hcc : clN (fun j => z_items g s (i + j)) (nI rise) a5 n = clN (fun j => m_item (sm_status (sm_thrown m 0) 0) (60 * s + i + j)) (nI rise) a5 n := by
    funext y
    unfold clN
    have hle : ∀ (p q : Nat → Bool), (∀ j, j < n → p j = q j) → cn p n = cn q n := fun p q e => Nat.le_antisymm (cn_mono n (fun j hj z => by rw [← e j hj]; exact z)) (cn_mono n (fun j hj z => by rw [e j hj]; exact z))
    refine hle _ _ (fun j hj => clP_cong ?_)
    rw [h.sh.2 s (i + j) hs (by omega), Nat.add_assoc]
    rfl
  refine ⟨302, lp_tooMany hs hi8 hrise hlim rfl (fun v hv => ?_) 302 0 301 0 (by omega) (by omega) (by omega) (Or.inl rfl) (fun y hy => absurd hy (Nat.not_lt_zero y)) (fun z => by omega)⟩
  refine hM _ ⟨hin, fun _ => ⟨fun q => absurd q d1, fun _ => ⟨hin, fun _ => ⟨v + 1, lp_M_tooMany hs hi8 hlim hcc hv ⟨rfl, ?_⟩ v 0 (by omega)⟩, fun q => absurd d2 q⟩⟩, fun q => absurd c0 q⟩
  simp only [R, zz_finding_finding, zz_items_finding, zz_lanes_finding, zz_sizes_finding, zz_weights_finding, zz_levels_finding, zz_heads_finding, zz_ssize_finding, zz_rules_finding, zz_rivers_finding, zz_orders_finding, zz_now_finding, zz_then_finding, zz_loss_finding, zz_stale_finding, zz_ga_finding, zz_free_finding, zz_rsize_finding, zz_fmin_finding, zz_fpass_finding, zz_inTurn_finding, zz_fsize_finding, zz_numbers_finding, zz_tlen_finding, zz_gk_finding, zz_gm_finding, zz_gh_finding, zz_gf_finding, zz_gn_finding, vSh_finding, vSea_finding, vGa_finding, vSp_finding, vTr_finding, mm_thrown_status, mm_status_status, mm_rule_status, mm_river_status, mm_lane_status, mm_many_status, mm_item_status, mm_worlds_status, mm_weight_status, mm_sea_status, mm_least_status, mm_isTold_status, mm_gates_status, mm_minutes_status, mm_hand_status, mm_hasFailed_status, mm_crew_status, mm_ships_status, mm_comes_status, mm_takes_status, mm_trace_status, mm_traced_status, uSh_status, uSea_status, uGa_status, uSp_status, uTr_status, mm_thrown_thrown, mm_status_thrown, mm_rule_thrown, mm_river_thrown, mm_lane_thrown, mm_many_thrown, mm_item_thrown, mm_worlds_thrown, mm_weight_thrown, mm_sea_thrown, mm_least_thrown, mm_isTold_thrown, mm_gates_thrown, mm_minutes_thrown, mm_hand_thrown, mm_hasFailed_thrown, mm_crew_thrown, mm_ships_thrown, mm_comes_thrown, mm_takes_thrown, mm_trace_thrown, mm_traced_thrown, uSh_thrown, uSea_thrown, uGa_thrown, uSp_thrown, uTr_thrown, true_implies, not_true_eq_false, not_false_eq_true, false_implies, and_true, true_and, i10, i00]
  exact ⟨h.1, h.2.2⟩
