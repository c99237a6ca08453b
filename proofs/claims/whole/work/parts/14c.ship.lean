/-! ===== ships ===== -/
def shf (T : Nat → Int32) (k n : Nat) : Nat → Int32 := fun j => if k < j ∧ j ≤ n then T (j - 1) else T j
theorem shf_n (T : Nat → Int32) (n : Nat) : shf T n n = T := funext fun j => by
  unfold shf
  rw [if_neg (by omega)]
theorem shf_s {T : Nat → Int32} {k n : Nat} (hk : k + 1 ≤ n) : upd (shf T (k + 1) n) (k + 1) (shf T (k + 1) n k) = shf T k n := funext fun j => by
  by_cases e : j = k + 1
  · subst e
    rw [pk_us]
    unfold shf
    rw [if_neg (by omega), if_pos (by omega), Nat.add_sub_cancel]
  · rw [pk_un e]
    unfold shf
    by_cases c : k + 1 < j ∧ j ≤ n
    · rw [if_pos c, if_pos (by omega)]
    · rw [if_neg c, if_neg (by omega)]
theorem nI_dec (k : Nat) : nI (k + 1) + (-1) = nI k := by rw [← Int32.sub_eq_add_neg, nI_pred]
theorem k100a : (nI 100000).toInt64 = 100000 := by decide
theorem k100b : nI 100000 = (100000 : Int32) := by decide
theorem k100c : (100000 : Int32).toInt = (100000 : Nat) := by decide
theorem sz_inTurn2 (g : GS) (a b : Nat → Int32) : sz_inTurn (sz_inTurn g a) b = sz_inTurn g b := rfl
theorem z_inTurn2 (g : GS) (a : Nat → Int32) : z_inTurn (sz_inTurn g a) = a := rfl
theorem z_fmin_it (g : GS) (a : Nat → Int32) : z_fmin (sz_inTurn g a) = z_fmin g := rfl
theorem z_fsize_it (g : GS) (a : Nat → Int32) : z_fsize (sz_inTurn g a) = z_fsize g := rfl
theorem lp_add22 {post : Int32 → GS → Prop} {g : GS} {n A : Nat} {p a : Nat → Nat} {T : Nat → Int32} (hn : n < 20) (hA : A ≤ 100000) (hT : ∀ j, j < n → p j < n ∧ T j = nI (p j)) (ha : ∀ j, j < n → a j ≤ 100000 ∧ z_fmin g j = nI (a j)) (hp : ∀ k, k ≤ n → (1 ≤ k → a (p (k - 1)) ≤ A) → (∀ j, k ≤ j → j < n → A < a (p j)) → post (nI n) (sz_fsize (sz_inTurn g (upd (shf T k n) k (nI n))) (z_fsize g + 1))) : ∀ k, k ≤ n → (∀ j, k ≤ j → j < n → A < a (p j)) → vFairway_add_22 post (k + 1) (nI A) (nI n) (nI k) (sz_inTurn g (shf T k n)) := by
  intro k
  induction k with
  | zero =>
    intro hk hj
    unfold vFairway_add_22 vFairway_add_67
    rw [nI_clamp (show 0 < 2 ^ 31 by omega)]
    simp only [z_inTurn2, sz_inTurn2, z_fsize_it]
    exact ⟨fun _ => ⟨vp_in_nI (by omega) (by decide), hp 0 (by omega) (fun z => by omega) hj⟩, fun q => absurd (show nI 0 ≤ (0 : Int32) by decide) q⟩
  | succ k ih =>
    intro hk hj
    obtain ⟨t1, t2⟩ := hT k (by omega)
    have eT : shf T (k + 1) n k = nI (p k) := by
      unfold shf
      rw [if_neg (by omega), t2]
    unfold vFairway_add_22 vFairway_add_67
    rw [nI_pred, nI_clamp (show k + 1 < 2 ^ 31 by omega), nI_clamp (show k < 2 ^ 31 by omega), nI_dec]
    simp only [z_inTurn2, sz_inTurn2, z_fsize_it, z_fmin_it]
    rw [shf_s hk, eT, nI_clamp (show p k < 2 ^ 31 by omega), (ha (p k) t1).2, nI_leI (by have := (ha (p k) t1).1; omega) (by omega)]
    refine ⟨fun q => absurd q (nI_ge (a := 0) (show 0 < k + 1 by omega) (by omega)), fun _ => ⟨vp_in_nI (by omega) (by decide), vp_in_nI (by omega) (by decide), fun q => ⟨vp_in_nI (by omega) (by decide), hp (k + 1) (by omega) (fun _ => by rw [Nat.add_sub_cancel]; exact q) hj⟩, fun q => ⟨vp_in_nI (by omega) (by decide), vp_in_nI (by omega) (by decide), ih (by omega) (fun j h1 h2 => ?_)⟩⟩⟩
    rcases Nat.lt_or_ge k j with e | e
    · exact hj j (by omega) h2
    · have e2 : j = k := by omega
      rw [e2]
      omega
theorem gs_shf (g : GS) (n : Nat) : g = sz_inTurn g (shf (z_inTurn g) n n) := by
  rw [shf_n]
  rfl
theorem sim_ship {g : GS} {m : GM} (h : R g m) (a1 a2 : Int32) : vSG_ship g a1 a2 (fun r g' => vM_ship m a1 a2 (fun r' m' => r = r' ∧ R g' m')) := by
  have hR : R g (sm_thrown m 0) := by
    simp only [R, mm_thrown_thrown, mm_status_thrown, mm_rule_thrown, mm_river_thrown, mm_lane_thrown, mm_many_thrown, mm_item_thrown, mm_worlds_thrown, mm_weight_thrown, mm_sea_thrown, mm_least_thrown, mm_isTold_thrown, mm_gates_thrown, mm_minutes_thrown, mm_hand_thrown, mm_hasFailed_thrown, mm_crew_thrown, mm_ships_thrown, mm_comes_thrown, mm_takes_thrown, mm_trace_thrown, mm_traced_thrown, uSh_thrown, uSea_thrown, uGa_thrown, uSp_thrown, uTr_thrown]
    exact h
  unfold vSG_ship
  by_cases c1 : 0 ≤ a1 ∧ a1 ≤ 100000
  rotate_left
  · simp only [q_within, if_neg c1, true_implies, not_true_eq_false, not_false_eq_true, false_implies, and_true, true_and, i10, i00]
    unfold vM_ship
    simp only [q_in0 100000 100000 k100a, k100b, if_neg c1, true_implies, not_true_eq_false, not_false_eq_true, false_implies, and_true, true_and, i10, i00]
    exact hR
  by_cases c2 : 1 ≤ a2 ∧ a2 ≤ 500
  rotate_left
  · simp only [q_within, if_pos c1, if_neg c2, true_implies, not_true_eq_false, not_false_eq_true, false_implies, and_true, true_and, i10, i00]
    unfold vM_ship
    simp only [q_in0 100000 100000 k100a, k100b, if_pos c1, q_inL 1 500 1 500 rfl rfl, n1, show nI 500 = (500 : Int32) from rfl, if_neg c2, true_implies, not_true_eq_false, not_false_eq_true, false_implies, and_true, true_and, i10, i00]
    exact hR
  obtain ⟨n, p, a, b, hn, en1, en2, hab, hpp, hso, hsu⟩ := h.sp
  simp only [q_within, if_pos c1, if_pos c2, true_implies, not_true_eq_false, not_false_eq_true, false_implies, and_true, true_and, i10, i00, en1]
  by_cases c3 : n = 20
  · subst c3
    have e1 : ¬ nI 20 < (20 : Int32) := by decide
    have e2 : m_ships m = 20 := en2
    simp only [eq_false e1, true_implies, not_true_eq_false, not_false_eq_true, false_implies, and_true, true_and, i10, i00]
    unfold vM_ship
    simp only [q_in0 100000 100000 k100a, k100b, if_pos c1, q_inL 1 500 1 500 rfl rfl, n1, show nI 500 = (500 : Int32) from rfl, if_pos c2, true_implies, not_true_eq_false, not_false_eq_true, false_implies, and_true, true_and, i10, i00, mm_thrown_thrown, mm_status_thrown, mm_rule_thrown, mm_river_thrown, mm_lane_thrown, mm_many_thrown, mm_item_thrown, mm_worlds_thrown, mm_weight_thrown, mm_sea_thrown, mm_least_thrown, mm_isTold_thrown, mm_gates_thrown, mm_minutes_thrown, mm_hand_thrown, mm_hasFailed_thrown, mm_crew_thrown, mm_ships_thrown, mm_comes_thrown, mm_takes_thrown, mm_trace_thrown, mm_traced_thrown, uSh_thrown, uSea_thrown, uGa_thrown, uSp_thrown, uTr_thrown, eq_true e2]
    exact hR
  have hn20 : n < 20 := by omega
  have e1 : nI n < (20 : Int32) := nI_lt (b := 20) hn20 (by decide)
  have e2 : ¬ nI n = (20 : Int32) := fun q => c3 ((nI_eq (b := 20) (by omega) (by decide)).mp q)
  simp only [eq_true e1, true_implies, not_true_eq_false, not_false_eq_true, false_implies, and_true, true_and, i10, i00]
  obtain ⟨A, hA, rfl⟩ := nI_of2 (x := a1) (M := 100000) (n := 100000) k100c (Int32.not_lt.mpr c1.1) c1.2
  obtain ⟨Bb, hB, rfl⟩ := nI_of2 (x := a2) (M := 500) (n := 500) (by decide) (fun q => absurd (Int32.le_trans c2.1 (Int32.le_of_lt q)) (by decide)) c2.2
  have hB1 : 1 ≤ Bb := (nI_leI (a := 1) (by decide) (by omega)).mp c2.1
  have hin : vp_in (nI n) 20 := vp_in_nI hn20 (by decide)
  unfold vFairway_add
  simp only [en1, nI_clamp (show n < 2 ^ 31 by omega)]
  refine ⟨hin, hin, n + 1, ?_⟩
  rw [gs_shf (sz_fpass (sz_fmin g (upd (z_fmin g) n (nI A))) (upd (z_fpass g) n (nI Bb))) n]
  simp only [zz_inTurn_fpass, zz_inTurn_fmin]
  refine lp_add22 (p := p) (a := a) hn20 hA hpp (fun j hj => ⟨(hab j hj).1, ?_⟩) (fun k hk hk1 hk2 => ?_) n (Nat.le_refl n) (fun j h1 h2 => by omega)
  · rw [zz_fmin_fpass, zz_fmin_fmin, pk_un (by omega)]
    exact (hab j hj).2.2.2.1
  unfold vM_ship
  simp only [q_in0 100000 100000 k100a, k100b, if_pos c1, q_inL 1 500 1 500 rfl rfl, n1, show nI 500 = (500 : Int32) from rfl, if_pos c2, true_implies, not_true_eq_false, not_false_eq_true, false_implies, and_true, true_and, i10, i00, zz_finding_fpass, zz_items_fpass, zz_lanes_fpass, zz_sizes_fpass, zz_weights_fpass, zz_levels_fpass, zz_heads_fpass, zz_ssize_fpass, zz_rules_fpass, zz_rivers_fpass, zz_orders_fpass, zz_now_fpass, zz_then_fpass, zz_loss_fpass, zz_stale_fpass, zz_ga_fpass, zz_free_fpass, zz_rsize_fpass, zz_fmin_fpass, zz_fpass_fpass, zz_inTurn_fpass, zz_fsize_fpass, zz_numbers_fpass, zz_tlen_fpass, zz_gk_fpass, zz_gm_fpass, zz_gh_fpass, zz_gf_fpass, zz_gn_fpass, vSh_fpass, vSea_fpass, vGa_fpass, vSp_fpass, vTr_fpass, zz_finding_fmin, zz_items_fmin, zz_lanes_fmin, zz_sizes_fmin, zz_weights_fmin, zz_levels_fmin, zz_heads_fmin, zz_ssize_fmin, zz_rules_fmin, zz_rivers_fmin, zz_orders_fmin, zz_now_fmin, zz_then_fmin, zz_loss_fmin, zz_stale_fmin, zz_ga_fmin, zz_free_fmin, zz_rsize_fmin, zz_fmin_fmin, zz_fpass_fmin, zz_inTurn_fmin, zz_fsize_fmin, zz_numbers_fmin, zz_tlen_fmin, zz_gk_fmin, zz_gm_fmin, zz_gh_fmin, zz_gf_fmin, zz_gn_fmin, vSh_fmin, vSea_fmin, vGa_fmin, vSp_fmin, vTr_fmin, zz_finding_inTurn, zz_items_inTurn, zz_lanes_inTurn, zz_sizes_inTurn, zz_weights_inTurn, zz_levels_inTurn, zz_heads_inTurn, zz_ssize_inTurn, zz_rules_inTurn, zz_rivers_inTurn, zz_orders_inTurn, zz_now_inTurn, zz_then_inTurn, zz_loss_inTurn, zz_stale_inTurn, zz_ga_inTurn, zz_free_inTurn, zz_rsize_inTurn, zz_fmin_inTurn, zz_fpass_inTurn, zz_inTurn_inTurn, zz_fsize_inTurn, zz_numbers_inTurn, zz_tlen_inTurn, zz_gk_inTurn, zz_gm_inTurn, zz_gh_inTurn, zz_gf_inTurn, zz_gn_inTurn, vSh_inTurn, vSea_inTurn, vGa_inTurn, vSp_inTurn, vTr_inTurn, zz_finding_fsize, zz_items_fsize, zz_lanes_fsize, zz_sizes_fsize, zz_weights_fsize, zz_levels_fsize, zz_heads_fsize, zz_ssize_fsize, zz_rules_fsize, zz_rivers_fsize, zz_orders_fsize, zz_now_fsize, zz_then_fsize, zz_loss_fsize, zz_stale_fsize, zz_ga_fsize, zz_free_fsize, zz_rsize_fsize, zz_fmin_fsize, zz_fpass_fsize, zz_inTurn_fsize, zz_fsize_fsize, zz_numbers_fsize, zz_tlen_fsize, zz_gk_fsize, zz_gm_fsize, zz_gh_fsize, zz_gf_fsize, zz_gn_fsize, vSh_fsize, vSea_fsize, vGa_fsize, vSp_fsize, vTr_fsize, mm_thrown_thrown, mm_status_thrown, mm_rule_thrown, mm_river_thrown, mm_lane_thrown, mm_many_thrown, mm_item_thrown, mm_worlds_thrown, mm_weight_thrown, mm_sea_thrown, mm_least_thrown, mm_isTold_thrown, mm_gates_thrown, mm_minutes_thrown, mm_hand_thrown, mm_hasFailed_thrown, mm_crew_thrown, mm_ships_thrown, mm_comes_thrown, mm_takes_thrown, mm_trace_thrown, mm_traced_thrown, uSh_thrown, uSea_thrown, uGa_thrown, uSp_thrown, uTr_thrown, mm_thrown_comes, mm_status_comes, mm_rule_comes, mm_river_comes, mm_lane_comes, mm_many_comes, mm_item_comes, mm_worlds_comes, mm_weight_comes, mm_sea_comes, mm_least_comes, mm_isTold_comes, mm_gates_comes, mm_minutes_comes, mm_hand_comes, mm_hasFailed_comes, mm_crew_comes, mm_ships_comes, mm_comes_comes, mm_takes_comes, mm_trace_comes, mm_traced_comes, uSh_comes, uSea_comes, uGa_comes, uSp_comes, uTr_comes, mm_thrown_takes, mm_status_takes, mm_rule_takes, mm_river_takes, mm_lane_takes, mm_many_takes, mm_item_takes, mm_worlds_takes, mm_weight_takes, mm_sea_takes, mm_least_takes, mm_isTold_takes, mm_gates_takes, mm_minutes_takes, mm_hand_takes, mm_hasFailed_takes, mm_crew_takes, mm_ships_takes, mm_comes_takes, mm_takes_takes, mm_trace_takes, mm_traced_takes, uSh_takes, uSea_takes, uGa_takes, uSp_takes, uTr_takes, mm_thrown_ships, mm_status_ships, mm_rule_ships, mm_river_ships, mm_lane_ships, mm_many_ships, mm_item_ships, mm_worlds_ships, mm_weight_ships, mm_sea_ships, mm_least_ships, mm_isTold_ships, mm_gates_ships, mm_minutes_ships, mm_hand_ships, mm_hasFailed_ships, mm_crew_ships, mm_ships_ships, mm_comes_ships, mm_takes_ships, mm_trace_ships, mm_traced_ships, uSh_ships, uSea_ships, uGa_ships, uSp_ships, uTr_ships, en2, eq_false e2, hin, nI_clamp (show n < 2 ^ 31 by omega), nI_1, nI_pred, R, en1]
  refine ⟨h.1, h.2.1, h.2.2.1, h.2.2.2.1, ?_, h.2.2.2.2.2⟩
  have hpn : ∀ i, i < n → p i < n := fun i hi => (hpp i hi).1
  have hle : ∀ i, i < k → a (p i) ≤ A := fun i hi => by
    have h1 := hk1 (by omega)
    rcases Nat.lt_or_ge i (k - 1) with e | e
    · rcases hso i (k - 1) e (by omega) with q | q <;> omega
    · have e2 : i = k - 1 := by omega
      rw [e2]
      exact h1
  refine ⟨n + 1, fun j => if j < k then p j else if j = k then n else p (j - 1), fun j => if j = n then A else a j, fun j => if j = n then Bb else b j, by omega, rfl, rfl, fun j hj => ?_, fun j hj => ?_, fun i j hij hj => ?_, fun w hw => ?_⟩
  · dsimp only
    by_cases e : j = n
    · subst e
      rw [if_pos rfl, if_pos rfl, pk_us, pk_us, pk_us, pk_us]
      exact ⟨hA, hB1, hB, rfl, rfl, rfl, rfl⟩
    · rw [if_neg e, if_neg e, pk_un e, pk_un e, pk_un e, pk_un e]
      exact hab j (by omega)
  · dsimp only
    by_cases e : j = k
    · subst e
      rw [if_neg (by omega), if_pos rfl, pk_us]
      exact ⟨by omega, rfl⟩
    · rw [pk_un e]
      unfold shf
      by_cases e2 : j < k
      · rw [if_pos e2, if_neg (by omega)]
        exact ⟨by have := hpn j (by omega); omega, (hpp j (by omega)).2⟩
      · rw [if_neg e2, if_neg e, if_pos (by omega)]
        exact ⟨by have := hpn (j - 1) (by omega); omega, (hpp (j - 1) (by omega)).2⟩
  · dsimp only
    by_cases i1 : i < k
    · have v1 := hpn i (by omega)
      rw [if_pos i1, if_neg (show ¬ p i = n by omega)]
      by_cases j1 : j < k
      · have v2 := hpn j (by omega)
        rw [if_pos j1, if_neg (show ¬ p j = n by omega)]
        exact hso i j hij (by omega)
      · rw [if_neg j1]
        by_cases j2 : j = k
        · rw [if_pos j2, if_pos rfl]
          have := hle i i1
          omega
        · have v2 := hpn (j - 1) (by omega)
          rw [if_neg j2, if_neg (show ¬ p (j - 1) = n by omega)]
          exact hso i (j - 1) (by omega) (by omega)
    · have v2 := hpn (j - 1) (by omega)
      rw [if_neg i1, if_neg (show ¬ j < k by omega), if_neg (show ¬ j = k by omega), if_neg (show ¬ p (j - 1) = n by omega)]
      by_cases i2 : i = k
      · rw [if_pos i2, if_pos rfl]
        exact Or.inl (hk2 (j - 1) (by omega) (by omega))
      · have v1 := hpn (i - 1) (by omega)
        rw [if_neg i2, if_neg (show ¬ p (i - 1) = n by omega)]
        exact hso (i - 1) (j - 1) (by omega) (by omega)
  · dsimp only
    rcases Nat.lt_or_ge w n with e | e
    · obtain ⟨q, hq, hq2⟩ := hsu w e
      rcases Nat.lt_or_ge q k with e3 | e3
      · exact ⟨q, by omega, by rw [if_pos e3]; exact hq2⟩
      · exact ⟨q + 1, by omega, by rw [if_neg (by omega), if_neg (by omega), Nat.add_sub_cancel]; exact hq2⟩
    · exact ⟨k, by omega, by rw [if_neg (by omega), if_pos rfl]; omega⟩
