/-! ===== time ===== -/
theorem acc_nI (p : Nat → Bool) : ∀ k : Nat, k < 2 ^ 31 → ∃ c : Nat, c ≤ k ∧ acc p k = nI c ∧ (c = k ↔ ∀ j, j < k → p j = true)
  | 0, _ => ⟨0, Nat.le_refl 0, rfl, fun _ j hj => absurd hj (Nat.not_lt_zero j), fun _ => rfl⟩
  | k + 1, hk => by
    obtain ⟨c, h1, h2, h3⟩ := acc_nI p k (by omega)
    unfold acc
    rw [h2]
    by_cases q : p k = true
    · rw [if_pos q, nI_1]
      refine ⟨c + 1, by omega, rfl, fun e j hj => ?_, fun e => ?_⟩
      · rcases Nat.lt_or_ge j k with a | a
        · exact (h3.mp (by omega)) j a
        · have e2 : j = k := by omega
          rw [e2]
          exact q
      · have := h3.mpr (fun j hj => e j (by omega))
        omega
    · rw [if_neg q, Int32.add_zero]
      exact ⟨c, by omega, rfl, fun e => by omega, fun e => absurd (e k (by omega)) q⟩
theorem acc_all {f : Nat → Int32} {n : Nat} (hn : n ≤ 6) : acc (fp f n) 6 = nI n ↔ ∀ j, j < n → ¬ f j = 0 := by
  have e : acc (fp f n) 6 = acc (fp f n) n := by
    have h := acc_more (p := fp f n) (n := n) (6 - n) (fun j h1 _ => by unfold fp; exact decide_eq_false (fun q => by omega))
    rw [show n + (6 - n) = 6 by omega] at h
    exact h
  rw [e]
  obtain ⟨c, h1, h2, h3⟩ := acc_nI (fp f n) n (by omega)
  rw [h2, nI_eq (by omega) (by omega), h3]
  constructor
  · intro q j hj
    have := q j hj
    unfold fp at this
    exact (of_decide_eq_true this).2
  · intro q j hj
    unfold fp
    exact decide_eq_true ⟨hj, q j hj⟩
theorem tV_pos (cr : Nat) (fa mi ha : Nat → Int32) (mo : Nat → Bool) (n : Nat) : tV cr fa mi ha mo n = -1000000 ∨ 0 ≤ tV cr fa mi ha mo n := tF_pos n 0 0 _ (by decide)
theorem tV_cong {cr : Nat} (hcr : 1 ≤ cr) (hcr3 : cr ≤ 3) {fa mi ha fa' mi' ha' : Nat → Int32} (mo : Nat → Bool) {n : Nat} (hf : ∀ k, k < n → fa k = fa' k ∧ mi k = mi' k ∧ ha k = ha' k) : tV cr fa mi ha mo n = tV cr fa' mi' ha' mo n :=
  tF_cong hcr hcr3 (fun k hk => ⟨(hf k hk).1, (hf k hk).2.1, (hf k hk).2.2, rfl⟩) n 0 0 _ _ (by omega) (fun _ _ => rfl)
def wF (cr : Nat) (fa mi ha : Nat → Int32) (n : Nat) : Nat → Nat → Int32 → Int32
  | 0, _, x => x
  | d + 1, k, x => if ¬ fa k = 0 then wF cr fa mi ha n d (k + 1) x else if tV cr fa mi ha (fun j => decide (j = k)) n = -1000000 then -1000000 else wF cr fa mi ha n d (k + 1) (mx2 x (tV cr fa mi ha (fun j => decide (j = k)) n))
theorem wF_cong {cr : Nat} (hcr : 1 ≤ cr) (hcr3 : cr ≤ 3) {fa mi ha fa' mi' ha' : Nat → Int32} {n : Nat} (hf : ∀ k, k < n → fa k = fa' k ∧ mi k = mi' k ∧ ha k = ha' k) : ∀ (d k : Nat) (x : Int32), k + d ≤ n → wF cr fa mi ha n d k x = wF cr fa' mi' ha' n d k x := by
  intro d
  induction d with
  | zero =>
    intro k x _
    rfl
  | succ d ih =>
    intro k x hk
    unfold wF
    rw [(hf k (by omega)).1, tV_cong hcr hcr3 _ hf, ih (k + 1) x (by omega), ih (k + 1) _ (by omega)]
theorem mo_at {k : Nat} (hk : k < 6) : ∀ j, j < 6 → (nI j = nI k ↔ (fun j => decide (j = k)) j = true) := fun j hj => by
  rw [nI_eq (by omega) (by omega)]
  exact decide_eq_true_iff.symm
theorem mo_no6 : ∀ j, j < 6 → (nI j = -1000000 ↔ (fun _ : Nat => false) j = true) := by decide
theorem mo_no1 : ∀ j, j < 6 → (nI j = -1 ↔ (fun _ : Nat => false) j = true) := by decide
theorem lp_worst {post : Int32 → GS → Prop} {g : GS} {cr n : Nat} (hcr : 1 ≤ cr) (hcr3 : cr ≤ 3) (hn : n ≤ 6) (en : z_gn g = n) (hga : ∀ j, z_ga g j = if j < n then some j else none) : ∀ (d k : Nat) (x : Int32) (c : Nat → Int32), k + d = 6 → (∀ c', post (wF cr (z_gf g) (z_gm g) (z_gh g) n (n - k) k x) (sz_free g c')) → vRow_worstTime_23 post (d + 1) (nI cr) x (nI k) (sz_free g c) := by
  intro d
  induction d with
  | zero =>
    intro k x c hk hp
    have e : k = 6 := by omega
    subst e
    have e : n - 6 = 0 := by omega
    rw [e] at hp
    unfold vRow_worstTime_23
    exact ⟨fun _ => hp c, fun q => absurd (show (6 : Int32) ≤ nI 6 by decide) q⟩
  | succ d ih =>
    intro k x c hk hp
    unfold vRow_worstTime_23 vRow_worstTime_78
    simp only [zz_finding_free, zz_items_free, zz_lanes_free, zz_sizes_free, zz_weights_free, zz_levels_free, zz_heads_free, zz_ssize_free, zz_rules_free, zz_rivers_free, zz_orders_free, zz_now_free, zz_then_free, zz_loss_free, zz_stale_free, zz_ga_free, zz_free_free, zz_rsize_free, zz_fmin_free, zz_fpass_free, zz_inTurn_free, zz_fsize_free, zz_numbers_free, zz_tlen_free, zz_gk_free, zz_gm_free, zz_gh_free, zz_gf_free, zz_gn_free, vSh_free, vSea_free, vGa_free, vSp_free, vTr_free]
    rw [nI_clamp (show k < 2 ^ 31 by omega), nI_1, hga]
    refine ⟨fun q => absurd q (nI_ge (show k < 6 by omega) (by decide)), fun _ => ⟨vp_in_nI (by omega) (by decide), ?_, ?_⟩⟩
    · intro q
      by_cases hk3 : k < n
      · rw [if_pos hk3] at q
        cases q
      · refine ih (k + 1) x c (by omega) ?_
        rw [show n - k = 0 by omega] at hp
        rw [show n - (k + 1) = 0 by omega]
        exact hp
    · intro j q
      by_cases hk3 : k < n
      rotate_left
      · rw [if_neg hk3] at q
        cases q
      rw [if_pos hk3] at q
      cases q
      rw [show n - k = (n - (k + 1)) + 1 by omega] at hp
      unfold wF at hp
      refine ⟨by omega, fun q => ?_, fun q => ?_⟩
      · rw [if_neg (fun z => z q)] at hp
        refine q_timeToShut hcr hcr3 hn en hga (mo_at (by omega)) c (fun c' => ⟨fun q2 => ?_, fun q2 => ?_⟩)
        · rw [if_neg q2] at hp
          exact ih (k + 1) _ c' (by omega) hp
        · rw [if_pos q2] at hp
          exact hp c'
      · rw [if_pos q] at hp
        exact ih (k + 1) x c (by omega) hp
theorem mx2_pos {t : Int32} (h : 0 ≤ t) : mx2 0 t = t := by
  unfold mx2
  by_cases q : 0 < t
  · rw [if_pos q]
  · rw [if_neg q]
    exact Int32.le_antisymm h (Int32.not_lt.mp q)
theorem lp_M_time {post : Int32 → GM → Prop} {m : GM} {cr n : Nat} (hcr : 1 ≤ cr) (hcr3 : cr ≤ 3) (hn : n ≤ 6) (en : m_gates m = nI n) (hall : (∀ j, j < n → ¬ m_hasFailed m j = 0) → ∀ c', post (tV cr (m_hasFailed m) (m_minutes m) (m_hand m) (fun _ => false) n) (sm_crew m c')) : ∀ (d k : Nat) (x x3 x4 : Int32) (c : Nat → Int32), k + d = n → ((x4 = 1 ∧ x3 = x ∧ 0 ≤ x ∧ ∃ j, j < n ∧ m_hasFailed m j = 0) ∨ (x4 = 0 ∧ x3 = -1000000 ∧ x = 0 ∧ ∀ j, j < k → ¬ m_hasFailed m j = 0)) → ((∃ j, j < n ∧ m_hasFailed m j = 0) → ∀ c', post (wF cr (m_hasFailed m) (m_minutes m) (m_hand m) n d k x) (sm_crew m c')) → vM_time_39 post (d + 1) (nI cr) 1 x3 x4 (nI k) (sm_crew m c) := by
  intro d
  induction d with
  | zero =>
    intro k x x3 x4 c hk hx hp
    have e : k = n := by omega
    subst e
    unfold vM_time_39 vM_time_104
    simp only [mm_thrown_crew, mm_status_crew, mm_rule_crew, mm_river_crew, mm_lane_crew, mm_many_crew, mm_item_crew, mm_worlds_crew, mm_weight_crew, mm_sea_crew, mm_least_crew, mm_isTold_crew, mm_gates_crew, mm_minutes_crew, mm_hand_crew, mm_hasFailed_crew, mm_crew_crew, mm_ships_crew, mm_comes_crew, mm_takes_crew, mm_trace_crew, mm_traced_crew, uSh_crew, uSea_crew, uGa_crew, uSp_crew, uTr_crew]
    rw [en]
    refine ⟨fun _ => ?_, fun q => absurd (nI_le (Nat.le_refl k) (by omega)) q⟩
    rcases hx with ⟨rfl, rfl, -, hj⟩ | ⟨rfl, rfl, -, hj⟩
    · exact ⟨fun q => absurd q (by decide), fun _ => hp hj c⟩
    · exact ⟨fun _ => q_timeBy hcr hcr3 hn en mo_no1 c (hall hj), fun q => absurd rfl q⟩
  | succ d ih =>
    intro k x x3 x4 c hk hx hp
    unfold wF at hp
    unfold vM_time_39 vM_time_98 vM_time_94 vM_time_98
    simp only [mm_thrown_crew, mm_status_crew, mm_rule_crew, mm_river_crew, mm_lane_crew, mm_many_crew, mm_item_crew, mm_worlds_crew, mm_weight_crew, mm_sea_crew, mm_least_crew, mm_isTold_crew, mm_gates_crew, mm_minutes_crew, mm_hand_crew, mm_hasFailed_crew, mm_crew_crew, mm_ships_crew, mm_comes_crew, mm_takes_crew, mm_trace_crew, mm_traced_crew, uSh_crew, uSea_crew, uGa_crew, uSp_crew, uTr_crew]
    rw [en, nI_clamp (show k < 2 ^ 31 by omega), nI_1]
    refine ⟨fun q => absurd q (nI_ge (show k < n by omega) (by omega)), fun _ => ⟨fun q => absurd trivial q, fun _ => ⟨vp_in_nI (by omega) (by decide), fun q => ?_, fun q => ?_⟩⟩⟩
    · rw [if_pos q] at hp
      refine ih (k + 1) x x3 x4 c (by omega) ?_ hp
      rcases hx with hx | ⟨e1, e2, e3, hj⟩
      · exact Or.inl hx
      · refine Or.inr ⟨e1, e2, e3, fun j hj2 => ?_⟩
        rcases Nat.lt_or_ge j k with a | a
        · exact hj j a
        · have e2 : j = k := by omega
          rw [e2]
          exact q
    · rw [if_neg (fun z => z q)] at hp
      have hs : ∃ j, j < n ∧ m_hasFailed m j = 0 := ⟨k, by omega, q⟩
      refine q_timeBy hcr hcr3 hn en (mo_at (by omega)) c (fun c' => ?_)
      generalize ht : tV cr (m_hasFailed m) (m_minutes m) (m_hand m) (fun j => decide (j = k)) n = t at hp ⊢
      have htp := tV_pos cr (m_hasFailed m) (m_minutes m) (m_hand m) (fun j => decide (j = k)) n
      rw [ht] at htp
      refine ⟨fun q2 => ?_, fun q2 => ?_⟩
      · rw [if_neg q2] at hp
        have htp2 : 0 ≤ t := htp.resolve_left q2
        have ih9 := fun x3 h3 => ih (k + 1) (mx2 x t) x3 1 c' (by omega) (Or.inl ⟨rfl, h3, ?_, hs⟩) hp
        · rcases hx with ⟨-, rfl, h0, -⟩ | ⟨-, rfl, rfl, -⟩
          · exact mx2_le (A := fun z => vM_time_39 post (d + 1) (nI cr) 1 z 1 (nI (k + 1)) (sm_crew m c')) (ih9 _ rfl)
          · refine ⟨fun z => absurd (Int32.le_trans htp2 z) (by decide), fun _ => ih9 t (mx2_pos htp2).symm⟩
        · rcases hx with ⟨-, -, h0, -⟩ | ⟨-, -, rfl, -⟩
          · exact Int32.le_trans h0 (mx2_ge _ _)
          · exact mx2_ge _ _
      · rw [if_pos q2] at hp
        exact hp hs c'
theorem R_free {g : GS} {m : GM} (h : R g m) (c : Nat → Int32) (c' : Nat → Int32) : R (sz_free g c) (sm_crew (sm_thrown m 0) c') := by
  simp only [R, zz_finding_free, zz_items_free, zz_lanes_free, zz_sizes_free, zz_weights_free, zz_levels_free, zz_heads_free, zz_ssize_free, zz_rules_free, zz_rivers_free, zz_orders_free, zz_now_free, zz_then_free, zz_loss_free, zz_stale_free, zz_ga_free, zz_free_free, zz_rsize_free, zz_fmin_free, zz_fpass_free, zz_inTurn_free, zz_fsize_free, zz_numbers_free, zz_tlen_free, zz_gk_free, zz_gm_free, zz_gh_free, zz_gf_free, zz_gn_free, vSh_free, vSea_free, vGa_free, vSp_free, vTr_free, mm_thrown_thrown, mm_status_thrown, mm_rule_thrown, mm_river_thrown, mm_lane_thrown, mm_many_thrown, mm_item_thrown, mm_worlds_thrown, mm_weight_thrown, mm_sea_thrown, mm_least_thrown, mm_isTold_thrown, mm_gates_thrown, mm_minutes_thrown, mm_hand_thrown, mm_hasFailed_thrown, mm_crew_thrown, mm_ships_thrown, mm_comes_thrown, mm_takes_thrown, mm_trace_thrown, mm_traced_thrown, uSh_thrown, uSea_thrown, uGa_thrown, uSp_thrown, uTr_thrown, mm_thrown_crew, mm_status_crew, mm_rule_crew, mm_river_crew, mm_lane_crew, mm_many_crew, mm_item_crew, mm_worlds_crew, mm_weight_crew, mm_sea_crew, mm_least_crew, mm_isTold_crew, mm_gates_crew, mm_minutes_crew, mm_hand_crew, mm_hasFailed_crew, mm_crew_crew, mm_ships_crew, mm_comes_crew, mm_takes_crew, mm_trace_crew, mm_traced_crew, uSh_crew, uSea_crew, uGa_crew, uSp_crew, uTr_crew]
  exact h
theorem sim_time {g : GS} {m : GM} (h : R g m) (a1 a2 : Int32) : vSG_time g a1 a2 (fun r g' => vM_time m a1 a2 (fun r' m' => r = r' ∧ R g' m')) := by
  unfold vSG_time
  by_cases c1 : 1 ≤ a1 ∧ a1 ≤ 3
  rotate_left
  · simp only [q_within, if_neg c1, true_implies, not_true_eq_false, not_false_eq_true, false_implies, and_true, true_and, i10, i00]
    unfold vM_time
    simp only [q_inL 1 3 1 3 rfl rfl, n1, show nI 3 = (3 : Int32) from rfl, if_neg c1, true_implies, not_true_eq_false, not_false_eq_true, false_implies, and_true, true_and, i10, i00, R, mm_thrown_thrown, mm_status_thrown, mm_rule_thrown, mm_river_thrown, mm_lane_thrown, mm_many_thrown, mm_item_thrown, mm_worlds_thrown, mm_weight_thrown, mm_sea_thrown, mm_least_thrown, mm_isTold_thrown, mm_gates_thrown, mm_minutes_thrown, mm_hand_thrown, mm_hasFailed_thrown, mm_crew_thrown, mm_ships_thrown, mm_comes_thrown, mm_takes_thrown, mm_trace_thrown, mm_traced_thrown, uSh_thrown, uSea_thrown, uGa_thrown, uSp_thrown, uTr_thrown]
    exact h
  by_cases c2 : 0 ≤ a2 ∧ a2 ≤ 1
  rotate_left
  · simp only [q_within, if_pos c1, if_neg c2, true_implies, not_true_eq_false, not_false_eq_true, false_implies, and_true, true_and, i10, i00]
    unfold vM_time
    simp only [q_inL 1 3 1 3 rfl rfl, n1, show nI 3 = (3 : Int32) from rfl, if_pos c1, q_in0 1 1 rfl, if_neg c2, true_implies, not_true_eq_false, not_false_eq_true, false_implies, and_true, true_and, i10, i00, R, mm_thrown_thrown, mm_status_thrown, mm_rule_thrown, mm_river_thrown, mm_lane_thrown, mm_many_thrown, mm_item_thrown, mm_worlds_thrown, mm_weight_thrown, mm_sea_thrown, mm_least_thrown, mm_isTold_thrown, mm_gates_thrown, mm_minutes_thrown, mm_hand_thrown, mm_hasFailed_thrown, mm_crew_thrown, mm_ships_thrown, mm_comes_thrown, mm_takes_thrown, mm_trace_thrown, mm_traced_thrown, uSh_thrown, uSea_thrown, uGa_thrown, uSp_thrown, uTr_thrown]
    exact h
  obtain ⟨h1, h2, h3, h4, h5, h6⟩ := h.ga
  obtain ⟨cr, hc, rfl⟩ := nI_of2 (x := a1) (M := 3) (n := 3) (by decide) (fun q => absurd (Int32.le_trans c1.1 (Int32.le_of_lt q)) (by decide)) c1.2
  have hcr : 1 ≤ cr := (nI_leI (a := 1) (by decide) (by omega)).mp c1.1
  simp only [q_within, if_pos c1, if_pos c2, true_implies, not_true_eq_false, not_false_eq_true, false_implies, and_true, true_and, i10, i00]
  have hf : ∀ k, k < z_gn g → z_gf g k = m_hasFailed m k ∧ z_gm g k = m_minutes m k ∧ z_gh g k = m_hand m k := fun k hk => by
    obtain ⟨a, b, -, -, -, e1, e2, e3, e4, -, e5, -⟩ := h5 k hk
    exact ⟨e5, e1.trans e2.symm, e3.trans e4.symm⟩
  have hM : ∀ (g' : GS) (r : Int32) (a2 : Int32), (0 ≤ a2 ∧ a2 ≤ 1) → (∃ n_ : Nat, vM_time_39 (fun r' m' => r = r' ∧ R g' m') n_ (nI cr) a2 (-1000000) 0 0 (sm_crew (sm_thrown m 0) (m_crew m))) → vM_time m (nI cr) a2 (fun r' m' => r = r' ∧ R g' m') := by
    intro g' r a2 c2 hq
    unfold vM_time
    simp only [q_inL 1 3 1 3 rfl rfl, n1, show nI 3 = (3 : Int32) from rfl, if_pos c1, q_in0 1 1 rfl, if_pos c2, true_implies, not_true_eq_false, not_false_eq_true, false_implies, and_true, true_and, i10, i00]
    exact hq
  have hM0 : ∀ (g' : GS), (∀ c', R g' (sm_crew (sm_thrown m 0) c')) → vM_time m (nI cr) 0 (fun r' m' => tV cr (z_gf g) (z_gm g) (z_gh g) (fun _ => false) (z_gn g) = r' ∧ R g' m') := by
    intro g' hR
    refine hM _ _ 0 (by decide) ⟨1, ?_⟩
    have hq : vM_timeBy (sm_crew (sm_thrown m 0) (m_crew m)) (nI cr) (-1) (fun r' m' => tV cr (z_gf g) (z_gm g) (z_gh g) (fun _ => false) (z_gn g) = r' ∧ R g' m') := by
      refine q_timeBy hcr hc h1 (m := sm_thrown m 0) h3 mo_no1 (m_crew m) (fun c' => ?_)
      simp only [mm_thrown_thrown, mm_status_thrown, mm_rule_thrown, mm_river_thrown, mm_lane_thrown, mm_many_thrown, mm_item_thrown, mm_worlds_thrown, mm_weight_thrown, mm_sea_thrown, mm_least_thrown, mm_isTold_thrown, mm_gates_thrown, mm_minutes_thrown, mm_hand_thrown, mm_hasFailed_thrown, mm_crew_thrown, mm_ships_thrown, mm_comes_thrown, mm_takes_thrown, mm_trace_thrown, mm_traced_thrown, uSh_thrown, uSea_thrown, uGa_thrown, uSp_thrown, uTr_thrown]
      exact ⟨tV_cong hcr hc _ hf, hR c'⟩
    unfold vM_time_39 vM_time_104
    exact ⟨fun _ => ⟨fun _ => hq, fun q => absurd rfl q⟩, fun _ => ⟨fun _ => ⟨fun _ => hq, fun q => absurd rfl q⟩, fun q => absurd q (by decide)⟩⟩
  have hM1 : ∀ (g' : GS) (r : Int32), (∀ c', R g' (sm_crew (sm_thrown m 0) c')) → (((∀ j, j < z_gn g → ¬ z_gf g j = 0) ∧ r = tV cr (z_gf g) (z_gm g) (z_gh g) (fun _ => false) (z_gn g)) ∨ (¬ (∀ j, j < z_gn g → ¬ z_gf g j = 0) ∧ r = wF cr (z_gf g) (z_gm g) (z_gh g) (z_gn g) (z_gn g) 0 0)) → vM_time m (nI cr) 1 (fun r' m' => r = r' ∧ R g' m') := by
    intro g' r hR hr
    refine hM _ _ 1 (by decide) ⟨z_gn g + 1, ?_⟩
    refine lp_M_time hcr hc h1 (m := sm_thrown m 0) h3 ?_ (z_gn g) 0 0 (-1000000) 0 (m_crew m) (by omega) (Or.inr ⟨rfl, rfl, rfl, fun j hj => absurd hj (Nat.not_lt_zero j)⟩) ?_
    · simp only [mm_thrown_thrown, mm_status_thrown, mm_rule_thrown, mm_river_thrown, mm_lane_thrown, mm_many_thrown, mm_item_thrown, mm_worlds_thrown, mm_weight_thrown, mm_sea_thrown, mm_least_thrown, mm_isTold_thrown, mm_gates_thrown, mm_minutes_thrown, mm_hand_thrown, mm_hasFailed_thrown, mm_crew_thrown, mm_ships_thrown, mm_comes_thrown, mm_takes_thrown, mm_trace_thrown, mm_traced_thrown, uSh_thrown, uSea_thrown, uGa_thrown, uSp_thrown, uTr_thrown]
      intro hall c'
      rcases hr with ⟨-, e⟩ | ⟨e, -⟩
      · exact ⟨e.trans (tV_cong hcr hc _ hf), hR c'⟩
      · exact absurd (fun j hj => by rw [(hf j hj).1]; exact hall j hj) e
    · simp only [mm_thrown_thrown, mm_status_thrown, mm_rule_thrown, mm_river_thrown, mm_lane_thrown, mm_many_thrown, mm_item_thrown, mm_worlds_thrown, mm_weight_thrown, mm_sea_thrown, mm_least_thrown, mm_isTold_thrown, mm_gates_thrown, mm_minutes_thrown, mm_hand_thrown, mm_hasFailed_thrown, mm_crew_thrown, mm_ships_thrown, mm_comes_thrown, mm_takes_thrown, mm_trace_thrown, mm_traced_thrown, uSh_thrown, uSea_thrown, uGa_thrown, uSp_thrown, uTr_thrown]
      rintro ⟨j, hj, hj2⟩ c'
      rcases hr with ⟨e, -⟩ | ⟨-, e⟩
      · exact absurd ((hf j hj).1.trans hj2) (e j hj)
      · exact ⟨e.trans (wF_cong hcr hc hf _ 0 0 (by omega)), hR c'⟩
  by_cases c3 : a2 = 0
  · subst c3
    refine ⟨fun q => absurd rfl q, fun _ => ?_⟩
    exact q_timeToShut hcr hc h1 (g := g) rfl h4 mo_no6 (z_free g) (fun c' => hM0 _ (fun c2 => R_free h _ _))
  · have e1 : a2 = 1 := by
      obtain ⟨b, hb, rfl⟩ := nI_of2 (x := a2) (M := 1) (n := 1) (by decide) (Int32.not_lt.mpr c2.1) c2.2
      rcases (show b = 0 ∨ b = 1 by omega) with rfl | rfl
      · exact absurd rfl c3
      · rfl
    subst e1
    refine ⟨fun _ => ?_, fun q => absurd q c3⟩
    unfold vRow_worstTime vRow_failedOnes
    refine ⟨7, lp_failedOnes h1 rfl h4 ?_ 6 0 (by omega)⟩
    rw [h2]
    refine ⟨fun q => ⟨7, ?_⟩, fun q => ?_⟩
    · rw [acc_all h1] at q
      refine lp_worst hcr hc h1 (g := g) rfl h4 6 0 0 (z_free g) (by omega) (fun c' => ?_)
      rw [Nat.sub_zero]
      exact hM1 _ _ (fun c2 => R_free h _ _) (Or.inr ⟨q, rfl⟩)
    · rw [acc_all h1] at q
      exact q_timeToShut hcr hc h1 (g := g) rfl h4 mo_no6 (z_free g) (fun c' => hM1 _ _ (fun c2 => R_free h _ _) (Or.inl ⟨q, rfl⟩))
