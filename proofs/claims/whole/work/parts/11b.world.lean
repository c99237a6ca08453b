theorem lp_areWithin {post : Int32 → GS → Prop} {g : GS} {s i : Nat} (hs : s < 8) (hi : i + 8 ≤ 60) (hy : (∀ k, k < 8 → 0 ≤ z_items g s (i + k) ∧ z_items g s (i + k) ≤ 1000) → post 1 g) (hn : ¬ (∀ k, k < 8 → 0 ≤ z_items g s (i + k) ∧ z_items g s (i + k) ≤ 1000) → post 0 g) : ∀ d k : Nat, k + d = 8 → (∀ j, j < k → 0 ≤ z_items g s (i + j) ∧ z_items g s (i + j) ≤ 1000) → vSheets_areWithin_3 post (d + 1) (nI s) (nI i) 8 1000 (nI (i + k)) g := by
  intro d
  induction d with
  | zero =>
    intro k hk hj
    have e : k = 8 := by omega
    subst e
    unfold vSheets_areWithin_3
    rw [show (8 : Int32) = nI 8 from rfl, nI_add]
    exact ⟨fun _ => hy hj, fun c => absurd (nI_le (Nat.le_refl (i + 8)) (by omega)) c⟩
  | succ d ih =>
    intro k hk hj
    unfold vSheets_areWithin_3
    rw [show nI i + (8 : Int32) = nI (i + 8) from nI_add i 8, nI_clamp (show s < 2 ^ 31 by omega), nI_clamp (show i + k < 2 ^ 31 by omega), nI_1, q_within]
    refine ⟨fun c => absurd c (nI_ge (show i + k < i + 8 by omega) (by omega)), fun _ => ⟨vp_in_nI hs (by decide), vp_in_nI (by omega) (by decide), ?_⟩⟩
    by_cases c : 0 ≤ z_items g s (i + k) ∧ z_items g s (i + k) ≤ 1000
    · rw [if_pos c]
      refine ⟨fun _ => ih (k + 1) (by omega) (fun j hj2 => ?_), fun q => absurd q (by decide)⟩
      rcases Nat.lt_or_ge j k with q | q
      · exact hj j q
      · have : j = k := by omega
        subst this
        exact c
    · rw [if_neg c]
      exact ⟨fun q => absurd rfl q, fun _ => hn (fun q => c (q k (by omega)))⟩
theorem lp_M_world84 {post : Int32 → GM → Prop} {m : GM} {s i : Nat} {x1 : Int32} {f : Nat → Int32} (hs : s < 8) (hi : i + 8 ≤ 60) (hf : ∀ k, k < 8 → m_item m (60 * s + i + k) = f k) (hy : (∀ k, k < 8 → 0 ≤ f k ∧ f k ≤ 1000) → vM_world_125 post x1 (nI s) (nI i) m) (hn : ¬ (∀ k, k < 8 → 0 ≤ f k ∧ f k ≤ 1000) → post (-1000001) m) : ∀ d k : Nat, k + d = 8 → (∀ j, j < k → 0 ≤ f j ∧ f j ≤ 1000) → vM_world_84 post (d + 1) x1 (nI s) (nI i) (nI k) m := by
  intro d
  induction d with
  | zero =>
    intro k hk hj
    have e : k = 8 := by omega
    subst e
    unfold vM_world_84
    exact ⟨fun _ => hy hj, fun c => absurd (show (8 : Int32) ≤ nI 8 by decide) c⟩
  | succ d ih =>
    intro k hk hj
    unfold vM_world_84
    rw [nI60b, nI_clamp (show 60 * s + i + k < 2 ^ 31 by omega), nI_1, hf k (by omega), q_in0 1000 1000 rfl, show nI 1000 = (1000 : Int32) from rfl]
    refine ⟨fun c => absurd c (nI_ge (show k < 8 by omega) (by decide)), fun _ => ⟨vp_in_nI (by omega) (by decide), ?_⟩⟩
    by_cases c : 0 ≤ f k ∧ f k ≤ 1000
    · rw [if_pos c]
      refine ⟨fun _ => ih (k + 1) (by omega) (fun j hj2 => ?_), fun q => absurd q (by decide)⟩
      rcases Nat.lt_or_ge j k with q | q
      · exact hj j q
      · have : j = k := by omega
        subst this
        exact c
    · rw [if_neg c]
      exact ⟨fun q => absurd rfl q, fun _ => hn (fun q => c (q k (by omega)))⟩
/-- the sea's row of world n, filled up to k -/
def seaK (sea item : Nat → Int32) (n b k : Nat) : Nat → Int32 := fun j => if 8 * n ≤ j ∧ j < 8 * n + k then item (b + (j - 8 * n)) else sea j
theorem seaK_0 (sea item : Nat → Int32) (n b : Nat) : seaK sea item n b 0 = sea := funext fun j => if_neg (by omega)
theorem seaK_s (sea item : Nat → Int32) (n b k : Nat) : upd (seaK sea item n b k) (8 * n + k) (item (b + k)) = seaK sea item n b (k + 1) := by
  funext j
  unfold seaK
  by_cases e : j = 8 * n + k
  · subst e
    rw [pk_us, if_pos (by omega)]
    congr 1
    omega
  · rw [pk_un e]
    by_cases c : 8 * n ≤ j ∧ j < 8 * n + k
    · rw [if_pos c, if_pos (by omega)]
    · rw [if_neg c, if_neg (by omega)]
theorem lp_M_world133 {post : Int32 → GM → Prop} {m : GM} {s i n : Nat} {x1 : Int32} (hs : s < 8) (hi : i + 8 ≤ 60) (hn : n < 8) (en : m_worlds m = nI n) (hp : vM_world_175 post x1 (sm_sea m (seaK (m_sea m) (m_item m) n (60 * s + i) 8))) : ∀ d k : Nat, k + d = 8 → vM_world_133 post (d + 1) x1 (nI s) (nI i) (nI k) (sm_sea m (seaK (m_sea m) (m_item m) n (60 * s + i) k)) := by
  intro d
  induction d with
  | zero =>
    intro k hk
    have e : k = 8 := by omega
    subst e
    unfold vM_world_133
    exact ⟨fun _ => hp, fun c => absurd (show (8 : Int32) ≤ nI 8 by decide) c⟩
  | succ d ih =>
    intro k hk
    unfold vM_world_133
    simp only [mm_thrown_sea, mm_status_sea, mm_rule_sea, mm_river_sea, mm_lane_sea, mm_many_sea, mm_item_sea, mm_worlds_sea, mm_weight_sea, mm_sea_sea, mm_least_sea, mm_isTold_sea, mm_gates_sea, mm_minutes_sea, mm_hand_sea, mm_hasFailed_sea, mm_crew_sea, mm_ships_sea, mm_comes_sea, mm_takes_sea, mm_trace_sea, mm_traced_sea, uSh_sea, uSea_sea, uGa_sea, uSp_sea, uTr_sea, en]
    rw [nI60b, nI8b, nI_clamp (show 60 * s + i + k < 2 ^ 31 by omega), nI_clamp (show 8 * n + k < 2 ^ 31 by omega), nI_1, seaK_s, show ∀ a b : Nat → Int32, sm_sea (sm_sea m a) b = sm_sea m b from fun _ _ => rfl]
    exact ⟨fun c => absurd c (nI_ge (show k < 8 by omega) (by decide)), fun _ => ⟨vp_in_nI (by omega) (by decide), vp_in_nI (by omega) (by decide), ih (k + 1) (by omega)⟩⟩
/-- the heads of world n, up to hour k -/
def hdK (H : Nat → Nat → Int32) (L : Nat → Nat → Int32) (n k : Nat) : Nat → Nat → Int32 := fun h w => if h < k ∧ w = n then nI (grp L n h) else H h w
theorem hdK_0 (H L : Nat → Nat → Int32) (n : Nat) : hdK H L n 0 = H := funext fun h => funext fun w => if_neg (by omega)
theorem hdK_s (H L : Nat → Nat → Int32) (n k : Nat) : va_up (hdK H L n k) k (upd (hdK H L n k k) n (nI (grp L n k))) = hdK H L n (k + 1) := by
  funext h w
  unfold va_up
  by_cases e : h = k
  · subst e
    rw [if_pos rfl]
    by_cases e2 : w = n
    · subst e2
      rw [pk_us]
      unfold hdK
      rw [if_pos (by omega)]
    · rw [pk_un e2]
      unfold hdK
      rw [if_neg (by omega), if_neg (by omega)]
  · rw [if_neg e]
    unfold hdK
    by_cases c : h < k ∧ w = n
    · rw [if_pos c, if_pos (by omega)]
    · rw [if_neg c, if_neg (by omega)]
theorem lp_add {post : Int32 → GS → Prop} {g : GS} {n : Nat} (hn : n < 8) (hp : vSea_add_63 post (nI n) (sz_heads g (hdK (z_heads g) (z_levels g) n 8))) : ∀ d k : Nat, k + d = 8 → vSea_add_32 post (d + 1) (nI n) (nI k) (sz_heads g (hdK (z_heads g) (z_levels g) n k)) := by
  intro d
  induction d with
  | zero =>
    intro k hk
    have e : k = 8 := by omega
    subst e
    unfold vSea_add_32
    exact ⟨fun _ => hp, fun c => absurd (show (8 : Int32) ≤ nI 8 by decide) c⟩
  | succ d ih =>
    intro k hk
    unfold vSea_add_32
    refine ⟨fun c => absurd c (nI_ge (show k < 8 by omega) (by decide)), fun _ => ⟨vp_in_nI (by omega) (by decide), q_headOf hn (by omega) ⟨vp_in_nI hn (by decide), ?_⟩⟩⟩
    simp only [zz_finding_heads, zz_items_heads, zz_lanes_heads, zz_sizes_heads, zz_weights_heads, zz_levels_heads, zz_heads_heads, zz_ssize_heads, zz_rules_heads, zz_rivers_heads, zz_orders_heads, zz_now_heads, zz_then_heads, zz_loss_heads, zz_stale_heads, zz_ga_heads, zz_free_heads, zz_rsize_heads, zz_fmin_heads, zz_fpass_heads, zz_inTurn_heads, zz_fsize_heads, zz_numbers_heads, zz_tlen_heads, zz_gk_heads, zz_gm_heads, zz_gh_heads, zz_gf_heads, zz_gn_heads, vSh_heads, vSea_heads, vGa_heads, vSp_heads, vTr_heads]
    rw [nI_clamp (show k < 2 ^ 31 by omega), nI_clamp (show n < 2 ^ 31 by omega), nI_1, hdK_s, show ∀ a b : Nat → Nat → Int32, sz_heads (sz_heads g a) b = sz_heads g b from fun _ _ => rfl]
    exact ih (k + 1) (by omega)
set_option maxHeartbeats 4000000 in
theorem sim_world {g : GS} {m : GM} (h : R g m) (a1 a2 a3 : Int32) : vSG_world g a1 a2 a3 (fun r g' => vM_world m a1 a2 a3 (fun r' m' => r = r' ∧ R g' m')) := by
  unfold vSG_world
  by_cases h0 : 1 ≤ a1 ∧ a1 ≤ 20
  rotate_left
  · simp only [q_within, if_neg h0, true_implies, not_true_eq_false, not_false_eq_true, false_implies, and_true, true_and, i10, i00]
    unfold vM_world
    simp only [q_inL 1 20 1 20 rfl rfl, n1, show nI 20 = (20 : Int32) from rfl, if_neg h0, true_implies, not_true_eq_false, not_false_eq_true, false_implies, and_true, true_and, i10, i00, R, mm_thrown_thrown, mm_status_thrown, mm_rule_thrown, mm_river_thrown, mm_lane_thrown, mm_many_thrown, mm_item_thrown, mm_worlds_thrown, mm_weight_thrown, mm_sea_thrown, mm_least_thrown, mm_isTold_thrown, mm_gates_thrown, mm_minutes_thrown, mm_hand_thrown, mm_hasFailed_thrown, mm_crew_thrown, mm_ships_thrown, mm_comes_thrown, mm_takes_thrown, mm_trace_thrown, mm_traced_thrown, uSh_thrown, uSea_thrown, uGa_thrown, uSp_thrown, uTr_thrown]
    exact h
  rcases ix8 a2 with h1 | ⟨s, hs, rfl, h1⟩
  · simp only [q_within, if_pos h0, if_neg h1, true_implies, not_true_eq_false, not_false_eq_true, false_implies, and_true, true_and, i10, i00]
    unfold vM_world
    simp only [q_inL 1 20 1 20 rfl rfl, n1, show nI 20 = (20 : Int32) from rfl, if_pos h0, q_isSheet, if_neg h1, true_implies, not_true_eq_false, not_false_eq_true, false_implies, and_true, true_and, i10, i00, R, mm_thrown_thrown, mm_status_thrown, mm_rule_thrown, mm_river_thrown, mm_lane_thrown, mm_many_thrown, mm_item_thrown, mm_worlds_thrown, mm_weight_thrown, mm_sea_thrown, mm_least_thrown, mm_isTold_thrown, mm_gates_thrown, mm_minutes_thrown, mm_hand_thrown, mm_hasFailed_thrown, mm_crew_thrown, mm_ships_thrown, mm_comes_thrown, mm_takes_thrown, mm_trace_thrown, mm_traced_thrown, uSh_thrown, uSea_thrown, uGa_thrown, uSp_thrown, uTr_thrown]
    exact h
  obtain ⟨n, hn, en1, en2, hwt, hlv, hhd⟩ := h.wo
  simp only [q_within, if_pos h0, if_pos h1, true_implies, not_true_eq_false, not_false_eq_true, false_implies, and_true, true_and, i10, i00, en1]
  have hcl : (nI s).toNatClampNeg = s := nI_clamp (by omega)
  have hin : vp_in (nI s) 8 := vp_in_nI hs (by decide)
  by_cases hf : n = 8
  · subst hf
    simp only [show ¬ nI 8 < (8 : Int32) by decide, true_implies, not_true_eq_false, not_false_eq_true, false_implies, and_true, true_and, i10, i00]
    unfold vM_world
    simp only [q_inL 1 20 1 20 rfl rfl, n1, show nI 20 = (20 : Int32) from rfl, if_pos h0, q_isSheet, if_pos h1, true_implies, not_true_eq_false, not_false_eq_true, false_implies, and_true, true_and, i10, i00, mm_thrown_thrown, mm_status_thrown, mm_rule_thrown, mm_river_thrown, mm_lane_thrown, mm_many_thrown, mm_item_thrown, mm_worlds_thrown, mm_weight_thrown, mm_sea_thrown, mm_least_thrown, mm_isTold_thrown, mm_gates_thrown, mm_minutes_thrown, mm_hand_thrown, mm_hasFailed_thrown, mm_crew_thrown, mm_ships_thrown, mm_comes_thrown, mm_takes_thrown, mm_trace_thrown, mm_traced_thrown, uSh_thrown, uSea_thrown, uGa_thrown, uSp_thrown, uTr_thrown, en2, show (nI 8 = (8 : Int32)) = True from eq_true rfl, R]
    exact h
  have hn8 : n < 8 := by omega
  have c8 : nI n < (8 : Int32) := nI_lt (b := 8) hn8 (by decide)
  have c8' : ¬ nI n = (8 : Int32) := fun q => hf ((nI_eq (b := 8) (by omega) (by decide)).mp q)
  simp only [eq_true c8, true_implies, not_true_eq_false, not_false_eq_true, false_implies, and_true, true_and, i10, i00]
  have hM : ∀ post : Int32 → GM → Prop, (vp_in (nI s) 8 ∧ ((0 ≤ m_lane m s → ((a3 < 0 → vM_world_75 post (sm_thrown m 0)) ∧ (¬ a3 < 0 → (vp_in (nI s) 8 ∧ ((a3.toInt64 + 8 ≤ (m_many m s).toInt64 → (∃ n_ : Nat, vM_world_84 post n_ a1 (nI s) a3 0 (sm_thrown m 0))) ∧ (¬ a3.toInt64 + 8 ≤ (m_many m s).toInt64 → vM_world_75 post (sm_thrown m 0))))))) ∧ (¬ 0 ≤ m_lane m s → vM_found (sm_thrown m 0) 1 (fun r50 g50 => post r50 g50)))) → vM_world m a1 (nI s) a3 post := by
    intro post hp
    unfold vM_world
    simp only [q_inL 1 20 1 20 rfl rfl, n1, show nI 20 = (20 : Int32) from rfl, if_pos h0, q_isSheet, if_pos h1, true_implies, not_true_eq_false, not_false_eq_true, false_implies, and_true, true_and, i10, i00, mm_thrown_thrown, mm_status_thrown, mm_rule_thrown, mm_river_thrown, mm_lane_thrown, mm_many_thrown, mm_item_thrown, mm_worlds_thrown, mm_weight_thrown, mm_sea_thrown, mm_least_thrown, mm_isTold_thrown, mm_gates_thrown, mm_minutes_thrown, mm_hand_thrown, mm_hasFailed_thrown, mm_crew_thrown, mm_ships_thrown, mm_comes_thrown, mm_takes_thrown, mm_trace_thrown, mm_traced_thrown, uSh_thrown, uSea_thrown, uGa_thrown, uSp_thrown, uTr_thrown, en2, eq_false c8', hcl]
    exact hp
  rcases h.sh.1 s hs with ⟨q1, q2⟩ | ⟨z, l, hz, hl, q1, q2, q3, q4⟩
  · simp only [q_look_miss hs q1, true_implies, not_true_eq_false, not_false_eq_true, false_implies, and_true, true_and, i10, i00, vSG_found]
    refine hM _ ⟨hin, fun q => absurd q (by rw [q2]; decide), fun _ => ?_⟩
    unfold vM_found
    simp only [R, zz_finding_finding, zz_items_finding, zz_lanes_finding, zz_sizes_finding, zz_weights_finding, zz_levels_finding, zz_heads_finding, zz_ssize_finding, zz_rules_finding, zz_rivers_finding, zz_orders_finding, zz_now_finding, zz_then_finding, zz_loss_finding, zz_stale_finding, zz_ga_finding, zz_free_finding, zz_rsize_finding, zz_fmin_finding, zz_fpass_finding, zz_inTurn_finding, zz_fsize_finding, zz_numbers_finding, zz_tlen_finding, zz_gk_finding, zz_gm_finding, zz_gh_finding, zz_gf_finding, zz_gn_finding, vSh_finding, vSea_finding, vGa_finding, vSp_finding, vTr_finding, mm_thrown_status, mm_status_status, mm_rule_status, mm_river_status, mm_lane_status, mm_many_status, mm_item_status, mm_worlds_status, mm_weight_status, mm_sea_status, mm_least_status, mm_isTold_status, mm_gates_status, mm_minutes_status, mm_hand_status, mm_hasFailed_status, mm_crew_status, mm_ships_status, mm_comes_status, mm_takes_status, mm_trace_status, mm_traced_status, uSh_status, uSea_status, uGa_status, uSp_status, uTr_status, mm_thrown_thrown, mm_status_thrown, mm_rule_thrown, mm_river_thrown, mm_lane_thrown, mm_many_thrown, mm_item_thrown, mm_worlds_thrown, mm_weight_thrown, mm_sea_thrown, mm_least_thrown, mm_isTold_thrown, mm_gates_thrown, mm_minutes_thrown, mm_hand_thrown, mm_hasFailed_thrown, mm_crew_thrown, mm_ships_thrown, mm_comes_thrown, mm_takes_thrown, mm_trace_thrown, mm_traced_thrown, uSh_thrown, uSea_thrown, uGa_thrown, uSp_thrown, uTr_thrown, true_implies, not_true_eq_false, not_false_eq_true, false_implies, and_true, true_and, i10, i00]
    exact ⟨h.1, h.2.2⟩
  have c0 : (0 : Int32) ≤ m_lane m s := by rw [q4]; exact nI_p0 (by omega)
  rw [q_look hs hz q1]
  have t8 : (8 : Int32).toInt = 8 := rfl
  have w2 : (a3.toInt64 + 8 ≤ (m_many m s).toInt64) ↔ a3.toInt + 8 ≤ (z : Int) := by
    rw [Int64.le_iff_toInt_le, show a3.toInt64 + 8 = a3.toInt64 + (8 : Int32).toInt64 from rfl, add64, Int32.toInt_toInt64, q2, nI_toInt (by omega), t8]
  have l3 : (a3 < 0) ↔ a3.toInt < 0 := Int32.lt_iff_toInt_lt
  by_cases c4 : 0 ≤ a3.toInt ∧ 0 ≤ (8 : Int32).toInt ∧ a3.toInt + (8 : Int32).toInt ≤ z
  rotate_left
  · simp only [if_neg c4, i20, true_implies, not_true_eq_false, not_false_eq_true, false_implies, and_true, true_and, i10, i00, vSG_found]
    have hX : vM_world_75 (fun r' m' => (-1000010 : Int32) - 2 = r' ∧ R (sz_finding g 2) m') (sm_thrown m 0) := by
      unfold vM_world_75 vM_found
      simp only [R, zz_finding_finding, zz_items_finding, zz_lanes_finding, zz_sizes_finding, zz_weights_finding, zz_levels_finding, zz_heads_finding, zz_ssize_finding, zz_rules_finding, zz_rivers_finding, zz_orders_finding, zz_now_finding, zz_then_finding, zz_loss_finding, zz_stale_finding, zz_ga_finding, zz_free_finding, zz_rsize_finding, zz_fmin_finding, zz_fpass_finding, zz_inTurn_finding, zz_fsize_finding, zz_numbers_finding, zz_tlen_finding, zz_gk_finding, zz_gm_finding, zz_gh_finding, zz_gf_finding, zz_gn_finding, vSh_finding, vSea_finding, vGa_finding, vSp_finding, vTr_finding, mm_thrown_status, mm_status_status, mm_rule_status, mm_river_status, mm_lane_status, mm_many_status, mm_item_status, mm_worlds_status, mm_weight_status, mm_sea_status, mm_least_status, mm_isTold_status, mm_gates_status, mm_minutes_status, mm_hand_status, mm_hasFailed_status, mm_crew_status, mm_ships_status, mm_comes_status, mm_takes_status, mm_trace_status, mm_traced_status, uSh_status, uSea_status, uGa_status, uSp_status, uTr_status, mm_thrown_thrown, mm_status_thrown, mm_rule_thrown, mm_river_thrown, mm_lane_thrown, mm_many_thrown, mm_item_thrown, mm_worlds_thrown, mm_weight_thrown, mm_sea_thrown, mm_least_thrown, mm_isTold_thrown, mm_gates_thrown, mm_minutes_thrown, mm_hand_thrown, mm_hasFailed_thrown, mm_crew_thrown, mm_ships_thrown, mm_comes_thrown, mm_takes_thrown, mm_trace_thrown, mm_traced_thrown, uSh_thrown, uSea_thrown, uGa_thrown, uSp_thrown, uTr_thrown, true_implies, not_true_eq_false, not_false_eq_true, false_implies, and_true, true_and, i10, i00]
      exact ⟨h.1, h.2.2⟩
    refine hM _ ⟨hin, fun _ => ⟨fun _ => hX, fun d1 => ⟨hin, fun d2 => ?_, fun _ => hX⟩⟩, fun q => absurd c0 q⟩
    exact absurd ⟨Int.not_lt.mp (fun q => d1 (l3.mpr q)), by rw [t8]; decide, by rw [t8]; exact w2.mp d2⟩ c4
  have d1 : ¬ a3 < 0 := fun q => by have := l3.mp q; omega
  obtain ⟨i, hi, rfl⟩ := nI_of (x := a3) d1
  have hi8 : i + 8 ≤ 60 := by
    have h5 := c4.2.2
    rw [nI_toInt hi, t8] at h5
    omega
  have d2 : (nI i).toInt64 + 8 ≤ (m_many m s).toInt64 := w2.mpr (by have := c4.2.2; rw [t8] at this; exact this)
  simp only [if_pos c4, true_implies, not_true_eq_false, not_false_eq_true, false_implies, and_true, true_and, i10, i00]
  have hit : ∀ k, k < 8 → m_item (sm_thrown m 0) (60 * s + i + k) = z_items g s (i + k) := fun k hk => by
    have := h.sh.2 s (i + k) hs (by omega)
    rw [this]
    show m_item m _ = m_item m _
    congr 1
    omega
  unfold vSheets_areWithin
  refine ⟨9, lp_areWithin hs hi8 (fun hy => ?_) (fun hn2 => ?_) 8 0 (by omega) (fun j hj => absurd hj (Nat.not_lt_zero j))⟩
  rotate_left
  · simp only [true_implies, not_true_eq_false, not_false_eq_true, false_implies, and_true, true_and, i10, i00]
    refine hM _ ⟨hin, fun _ => ⟨fun q => absurd q d1, fun _ => ⟨hin, fun _ => ⟨9, ?_⟩, fun q => absurd d2 q⟩⟩, fun q => absurd c0 q⟩
    refine lp_M_world84 (f := fun k => z_items g s (i + k)) hs hi8 hit (fun q => absurd q hn2) (fun _ => ?_) 8 0 (by omega) (fun j hj => absurd hj (Nat.not_lt_zero j))
    simp only [R, mm_thrown_thrown, mm_status_thrown, mm_rule_thrown, mm_river_thrown, mm_lane_thrown, mm_many_thrown, mm_item_thrown, mm_worlds_thrown, mm_weight_thrown, mm_sea_thrown, mm_least_thrown, mm_isTold_thrown, mm_gates_thrown, mm_minutes_thrown, mm_hand_thrown, mm_hasFailed_thrown, mm_crew_thrown, mm_ships_thrown, mm_comes_thrown, mm_takes_thrown, mm_trace_thrown, mm_traced_thrown, uSh_thrown, uSea_thrown, uGa_thrown, uSp_thrown, uTr_thrown, true_implies, not_true_eq_false, not_false_eq_true, false_implies, and_true, true_and, i10, i00]
    exact h
  simp only [true_implies, not_true_eq_false, not_false_eq_true, false_implies, and_true, true_and, i10, i00]
  refine ⟨hin, ?_⟩
  unfold vSea_add
  simp only [zz_finding_stale, zz_items_stale, zz_lanes_stale, zz_sizes_stale, zz_weights_stale, zz_levels_stale, zz_heads_stale, zz_ssize_stale, zz_rules_stale, zz_rivers_stale, zz_orders_stale, zz_now_stale, zz_then_stale, zz_loss_stale, zz_stale_stale, zz_ga_stale, zz_free_stale, zz_rsize_stale, zz_fmin_stale, zz_fpass_stale, zz_inTurn_stale, zz_fsize_stale, zz_numbers_stale, zz_tlen_stale, zz_gk_stale, zz_gm_stale, zz_gh_stale, zz_gf_stale, zz_gn_stale, vSh_stale, vSea_stale, vGa_stale, vSp_stale, vTr_stale, en1, hcl]
  rw [nI_clamp hi, nI_clamp (show n < 2 ^ 31 by omega), show (8 : Int32).toNatClampNeg = 8 from rfl, show (0 : Int32).toNatClampNeg = 0 from rfl]
  refine ⟨hs, vp_in_nI hn8 (by decide), nI_n0 hi, by decide, by decide, hi8, by omega, vp_in_nI hn8 (by decide), 9, ?_⟩
  generalize hL' : va_up (z_levels g) n (va_cpy (z_items g s) (z_levels g n) i 0 8) = L'
  generalize hg1 : sz_weights (sz_levels (sz_stale g 1) L') (upd (z_weights g) n a1) = g1
  have e0 : g1 = sz_heads g1 (hdK (z_heads g1) (z_levels g1) n 0) := by rw [hdK_0]; rfl
  rw [e0]
  refine lp_add hn8 ?_ 8 0 (by omega)
  unfold vSea_add_63 vSG_fine
  refine hM _ ⟨hin, fun _ => ⟨fun q => absurd q d1, fun _ => ⟨hin, fun _ => ⟨9, ?_⟩, fun q => absurd d2 q⟩⟩, fun q => absurd c0 q⟩
  refine lp_M_world84 (f := fun k => z_items g s (i + k)) hs hi8 hit (fun _ => ?_) (fun q => absurd hy q) 8 0 (by omega) (fun j hj => absurd hj (Nat.not_lt_zero j))
  unfold vM_world_125
  have ew : m_worlds (sm_status (sm_thrown m 0) 0) = nI n := en2
  have e1 : sm_status (sm_thrown m 0) 0 = sm_sea (sm_status (sm_thrown m 0) 0) (seaK (m_sea (sm_status (sm_thrown m 0) 0)) (m_item (sm_status (sm_thrown m 0) 0)) n (60 * s + i) 0) := by rw [seaK_0]; rfl
  refine ⟨9, ?_⟩
  rw [e1]
  refine lp_M_world133 hs hi8 hn8 ew ?_ 8 0 (by omega)
  unfold vM_world_175
  subst hg1
  simp only [R, zz_finding_ssize, zz_items_ssize, zz_lanes_ssize, zz_sizes_ssize, zz_weights_ssize, zz_levels_ssize, zz_heads_ssize, zz_ssize_ssize, zz_rules_ssize, zz_rivers_ssize, zz_orders_ssize, zz_now_ssize, zz_then_ssize, zz_loss_ssize, zz_stale_ssize, zz_ga_ssize, zz_free_ssize, zz_rsize_ssize, zz_fmin_ssize, zz_fpass_ssize, zz_inTurn_ssize, zz_fsize_ssize, zz_numbers_ssize, zz_tlen_ssize, zz_gk_ssize, zz_gm_ssize, zz_gh_ssize, zz_gf_ssize, zz_gn_ssize, vSh_ssize, vSea_ssize, vGa_ssize, vSp_ssize, vTr_ssize, zz_finding_heads, zz_items_heads, zz_lanes_heads, zz_sizes_heads, zz_weights_heads, zz_levels_heads, zz_heads_heads, zz_ssize_heads, zz_rules_heads, zz_rivers_heads, zz_orders_heads, zz_now_heads, zz_then_heads, zz_loss_heads, zz_stale_heads, zz_ga_heads, zz_free_heads, zz_rsize_heads, zz_fmin_heads, zz_fpass_heads, zz_inTurn_heads, zz_fsize_heads, zz_numbers_heads, zz_tlen_heads, zz_gk_heads, zz_gm_heads, zz_gh_heads, zz_gf_heads, zz_gn_heads, vSh_heads, vSea_heads, vGa_heads, vSp_heads, vTr_heads, zz_finding_weights, zz_items_weights, zz_lanes_weights, zz_sizes_weights, zz_weights_weights, zz_levels_weights, zz_heads_weights, zz_ssize_weights, zz_rules_weights, zz_rivers_weights, zz_orders_weights, zz_now_weights, zz_then_weights, zz_loss_weights, zz_stale_weights, zz_ga_weights, zz_free_weights, zz_rsize_weights, zz_fmin_weights, zz_fpass_weights, zz_inTurn_weights, zz_fsize_weights, zz_numbers_weights, zz_tlen_weights, zz_gk_weights, zz_gm_weights, zz_gh_weights, zz_gf_weights, zz_gn_weights, vSh_weights, vSea_weights, vGa_weights, vSp_weights, vTr_weights, zz_finding_levels, zz_items_levels, zz_lanes_levels, zz_sizes_levels, zz_weights_levels, zz_levels_levels, zz_heads_levels, zz_ssize_levels, zz_rules_levels, zz_rivers_levels, zz_orders_levels, zz_now_levels, zz_then_levels, zz_loss_levels, zz_stale_levels, zz_ga_levels, zz_free_levels, zz_rsize_levels, zz_fmin_levels, zz_fpass_levels, zz_inTurn_levels, zz_fsize_levels, zz_numbers_levels, zz_tlen_levels, zz_gk_levels, zz_gm_levels, zz_gh_levels, zz_gf_levels, zz_gn_levels, vSh_levels, vSea_levels, vGa_levels, vSp_levels, vTr_levels, zz_finding_stale, zz_items_stale, zz_lanes_stale, zz_sizes_stale, zz_weights_stale, zz_levels_stale, zz_heads_stale, zz_ssize_stale, zz_rules_stale, zz_rivers_stale, zz_orders_stale, zz_now_stale, zz_then_stale, zz_loss_stale, zz_stale_stale, zz_ga_stale, zz_free_stale, zz_rsize_stale, zz_fmin_stale, zz_fpass_stale, zz_inTurn_stale, zz_fsize_stale, zz_numbers_stale, zz_tlen_stale, zz_gk_stale, zz_gm_stale, zz_gh_stale, zz_gf_stale, zz_gn_stale, vSh_stale, vSea_stale, vGa_stale, vSp_stale, vTr_stale, zz_finding_finding, zz_items_finding, zz_lanes_finding, zz_sizes_finding, zz_weights_finding, zz_levels_finding, zz_heads_finding, zz_ssize_finding, zz_rules_finding, zz_rivers_finding, zz_orders_finding, zz_now_finding, zz_then_finding, zz_loss_finding, zz_stale_finding, zz_ga_finding, zz_free_finding, zz_rsize_finding, zz_fmin_finding, zz_fpass_finding, zz_inTurn_finding, zz_fsize_finding, zz_numbers_finding, zz_tlen_finding, zz_gk_finding, zz_gm_finding, zz_gh_finding, zz_gf_finding, zz_gn_finding, vSh_finding, vSea_finding, vGa_finding, vSp_finding, vTr_finding, mm_thrown_sea, mm_status_sea, mm_rule_sea, mm_river_sea, mm_lane_sea, mm_many_sea, mm_item_sea, mm_worlds_sea, mm_weight_sea, mm_sea_sea, mm_least_sea, mm_isTold_sea, mm_gates_sea, mm_minutes_sea, mm_hand_sea, mm_hasFailed_sea, mm_crew_sea, mm_ships_sea, mm_comes_sea, mm_takes_sea, mm_trace_sea, mm_traced_sea, uSh_sea, uSea_sea, uGa_sea, uSp_sea, uTr_sea, mm_thrown_status, mm_status_status, mm_rule_status, mm_river_status, mm_lane_status, mm_many_status, mm_item_status, mm_worlds_status, mm_weight_status, mm_sea_status, mm_least_status, mm_isTold_status, mm_gates_status, mm_minutes_status, mm_hand_status, mm_hasFailed_status, mm_crew_status, mm_ships_status, mm_comes_status, mm_takes_status, mm_trace_status, mm_traced_status, uSh_status, uSea_status, uGa_status, uSp_status, uTr_status, mm_thrown_thrown, mm_status_thrown, mm_rule_thrown, mm_river_thrown, mm_lane_thrown, mm_many_thrown, mm_item_thrown, mm_worlds_thrown, mm_weight_thrown, mm_sea_thrown, mm_least_thrown, mm_isTold_thrown, mm_gates_thrown, mm_minutes_thrown, mm_hand_thrown, mm_hasFailed_thrown, mm_crew_thrown, mm_ships_thrown, mm_comes_thrown, mm_takes_thrown, mm_trace_thrown, mm_traced_thrown, uSh_thrown, uSea_thrown, uGa_thrown, uSp_thrown, uTr_thrown, mm_thrown_weight, mm_status_weight, mm_rule_weight, mm_river_weight, mm_lane_weight, mm_many_weight, mm_item_weight, mm_worlds_weight, mm_weight_weight, mm_sea_weight, mm_least_weight, mm_isTold_weight, mm_gates_weight, mm_minutes_weight, mm_hand_weight, mm_hasFailed_weight, mm_crew_weight, mm_ships_weight, mm_comes_weight, mm_takes_weight, mm_trace_weight, mm_traced_weight, uSh_weight, uSea_weight, uGa_weight, uSp_weight, uTr_weight, mm_thrown_worlds, mm_status_worlds, mm_rule_worlds, mm_river_worlds, mm_lane_worlds, mm_many_worlds, mm_item_worlds, mm_worlds_worlds, mm_weight_worlds, mm_sea_worlds, mm_least_worlds, mm_isTold_worlds, mm_gates_worlds, mm_minutes_worlds, mm_hand_worlds, mm_hasFailed_worlds, mm_crew_worlds, mm_ships_worlds, mm_comes_worlds, mm_takes_worlds, mm_trace_worlds, mm_traced_worlds, uSh_worlds, uSea_worlds, uGa_worlds, uSp_worlds, uTr_worlds, en1, en2, true_implies, not_true_eq_false, not_false_eq_true, false_implies, and_true, true_and, i10, i00]
  rw [nI_clamp (show n < 2 ^ 31 by omega), nI_1, nI_pred]
  refine ⟨vp_in_nI hn8 (by decide), rfl, h.1, ⟨⟨n + 1, by omega, rfl, rfl, ?_, ?_, ?_⟩, h.ru, RPl_stale⟩, h.2.2.2⟩
  · intro w hw
    by_cases e : w = n
    · subst e
      obtain ⟨a, ha, rfl⟩ := nI_of2 (x := a1) (M := 20) (n := 20) (by decide) (fun q => absurd (Int32.le_trans h0.1 (Int32.le_of_lt q)) (by decide)) h0.2
      exact ⟨a, (nI_leI (a := 1) (by decide) (by omega)).mp h0.1, ha, pk_us, pk_us⟩
    · obtain ⟨a, b1, b2, b3, b4⟩ := hwt w (by omega)
      exact ⟨a, b1, b2, (pk_un e).trans b3, (pk_un e).trans b4⟩
  · intro w k hw hk
    show ∃ a : Nat, a ≤ 1000 ∧ L' w k = nI a ∧ seaK (m_sea m) (m_item m) n (60 * s + i) 8 (8 * w + k) = nI a
    rw [← hL']
    unfold va_up seaK
    by_cases e : w = n
    · subst e
      rw [if_pos rfl, if_pos (by omega)]
      unfold va_cpy
      rw [if_pos (by omega)]
      have hy2 := hy k hk
      obtain ⟨a, ha, ea⟩ := nI_of2 (x := z_items g s (i + k)) (M := 1000) (n := 1000) (by decide) (Int32.not_lt.mpr hy2.1) hy2.2
      refine ⟨a, ha, by rw [Nat.sub_zero]; exact ea, ?_⟩
      have := hit k hk
      rw [ea] at this
      rw [show 60 * s + i + (8 * w + k - 8 * w) = 60 * s + i + k by omega]
      exact this
    · rw [if_neg e, if_neg (by omega)]
      exact hlv w k (by omega) hk
  · intro hh w hhh hw
    show hdK (z_heads g) L' n 8 hh w = nI (grp L' w hh)
    unfold hdK
    by_cases e : w = n
    · subst e
      rw [if_pos ⟨hhh, rfl⟩]
    · rw [if_neg (fun q => e q.2), hhd hh w hhh (by omega)]
      congr 1
      refine grp_cong (fun v hv k hk => ?_)
      rw [← hL']
      unfold va_up
      rw [if_neg (by omega)]
