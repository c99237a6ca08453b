/-! ===== river, rule, groups, worlds ===== -/
theorem n0 : nI 0 = (0 : Int32) := rfl
theorem n1 : nI 1 = (1 : Int32) := rfl
theorem n7 : nI 7 = (7 : Int32) := rfl
theorem nI8b (s k : Nat) : (8 : Int32) * nI s + nI k = nI (8 * s + k) := by
  rw [show (8 : Int32) = nI 8 from rfl, pk_mul, nI_add]
theorem q_inL (l n : Nat) (L N : Int64) (hL : (nI l).toInt64 = L) (hN : (nI n).toInt64 = N) {g : GM} {v : Int32} {post : Int32 → GM → Prop} : vM_in g v.toInt64 L N post ↔ (if nI l ≤ v ∧ v ≤ nI n then post 1 g else post 0 g) := by
  have h := @q_in g v (nI l) (nI n) post
  rw [hL, hN] at h
  exact h
theorem RPl_stale {weights : Nat → Int32} {levels : Nat → Nat → Int32} {ssize : Int32} {rules rivers : Nat → Int32} {orders : Nat → Nat → Int32} {loss : Int64} : RPl weights levels ssize rules rivers orders loss 1 := ⟨Or.inr rfl, fun e => absurd e (by decide)⟩
theorem sim_river {g : GS} {m : GM} (h : R g m) (a1 a2 : Int32) : vSG_river g a1 a2 (fun r g' => vM_river m a1 a2 (fun r' m' => r = r' ∧ R g' m')) := by
  unfold vSG_river
  rcases ix8 a1 with h1 | ⟨s, hs, rfl, h1⟩
  · simp only [q_within, if_neg h1, true_implies, not_true_eq_false, not_false_eq_true, false_implies, and_true, true_and, i10, i00]
    unfold vM_river
    simp only [q_in0 7 7 rfl, n7, if_neg h1, true_implies, not_true_eq_false, not_false_eq_true, false_implies, and_true, true_and, i10, i00, R, mm_thrown_thrown, mm_status_thrown, mm_rule_thrown, mm_river_thrown, mm_lane_thrown, mm_many_thrown, mm_item_thrown, mm_worlds_thrown, mm_weight_thrown, mm_sea_thrown, mm_least_thrown, mm_isTold_thrown, mm_gates_thrown, mm_minutes_thrown, mm_hand_thrown, mm_hasFailed_thrown, mm_crew_thrown, mm_ships_thrown, mm_comes_thrown, mm_takes_thrown, mm_trace_thrown, mm_traced_thrown, uSh_thrown, uSea_thrown, uGa_thrown, uSp_thrown, uTr_thrown]
    exact h
  · simp only [q_within, if_pos h1, true_implies, not_true_eq_false, not_false_eq_true, false_implies, and_true, true_and, i10, i00]
    have hcl : (nI s).toNatClampNeg = s := nI_clamp (by omega)
    have hin : vp_in (nI s) 8 := vp_in_nI hs (by decide)
    by_cases h2 : 0 ≤ a2 ∧ a2 ≤ 100
    · obtain ⟨l, hl, rfl⟩ := nI_of2 (x := a2) (M := 100) (n := 100) (by decide) (Int32.not_lt.mpr h2.1) h2.2
      simp only [if_pos h2, true_implies, not_true_eq_false, not_false_eq_true, false_implies, and_true, true_and, i10, i00, hcl, hin]
      unfold vM_river
      simp only [q_in0 7 7 rfl, n7, if_pos h1, q_in0 100 100 rfl, show nI 100 = (100 : Int32) from rfl, if_pos h2, true_implies, not_true_eq_false, not_false_eq_true, false_implies, and_true, true_and, i10, i00, hcl, hin, R, zz_finding_rivers, zz_items_rivers, zz_lanes_rivers, zz_sizes_rivers, zz_weights_rivers, zz_levels_rivers, zz_heads_rivers, zz_ssize_rivers, zz_rules_rivers, zz_rivers_rivers, zz_orders_rivers, zz_now_rivers, zz_then_rivers, zz_loss_rivers, zz_stale_rivers, zz_ga_rivers, zz_free_rivers, zz_rsize_rivers, zz_fmin_rivers, zz_fpass_rivers, zz_inTurn_rivers, zz_fsize_rivers, zz_numbers_rivers, zz_tlen_rivers, zz_gk_rivers, zz_gm_rivers, zz_gh_rivers, zz_gf_rivers, zz_gn_rivers, vSh_rivers, vSea_rivers, vGa_rivers, vSp_rivers, vTr_rivers, zz_finding_stale, zz_items_stale, zz_lanes_stale, zz_sizes_stale, zz_weights_stale, zz_levels_stale, zz_heads_stale, zz_ssize_stale, zz_rules_stale, zz_rivers_stale, zz_orders_stale, zz_now_stale, zz_then_stale, zz_loss_stale, zz_stale_stale, zz_ga_stale, zz_free_stale, zz_rsize_stale, zz_fmin_stale, zz_fpass_stale, zz_inTurn_stale, zz_fsize_stale, zz_numbers_stale, zz_tlen_stale, zz_gk_stale, zz_gm_stale, zz_gh_stale, zz_gf_stale, zz_gn_stale, vSh_stale, vSea_stale, vGa_stale, vSp_stale, vTr_stale, mm_thrown_river, mm_status_river, mm_rule_river, mm_river_river, mm_lane_river, mm_many_river, mm_item_river, mm_worlds_river, mm_weight_river, mm_sea_river, mm_least_river, mm_isTold_river, mm_gates_river, mm_minutes_river, mm_hand_river, mm_hasFailed_river, mm_crew_river, mm_ships_river, mm_comes_river, mm_takes_river, mm_trace_river, mm_traced_river, uSh_river, uSea_river, uGa_river, uSp_river, uTr_river, mm_thrown_thrown, mm_status_thrown, mm_rule_thrown, mm_river_thrown, mm_lane_thrown, mm_many_thrown, mm_item_thrown, mm_worlds_thrown, mm_weight_thrown, mm_sea_thrown, mm_least_thrown, mm_isTold_thrown, mm_gates_thrown, mm_minutes_thrown, mm_hand_thrown, mm_hasFailed_thrown, mm_crew_thrown, mm_ships_thrown, mm_comes_thrown, mm_takes_thrown, mm_trace_thrown, mm_traced_thrown, uSh_thrown, uSea_thrown, uGa_thrown, uSp_thrown, uTr_thrown]
      obtain ⟨a, ha, e1, e2⟩ := h.ru.2 s hs
      refine ⟨by rw [e1, e2], h.1, h.2.1, ⟨h.wo, ⟨h.ru.1, ?_⟩, RPl_stale⟩, h.2.2.2⟩
      intro t ht
      by_cases e : t = s
      · subst e
        exact ⟨l, hl, pk_us, pk_us⟩
      · obtain ⟨b, hb, f1, f2⟩ := h.ru.2 t ht
        exact ⟨b, hb, (pk_un e).trans f1, (pk_un e).trans f2⟩
    · simp only [if_neg h2, true_implies, not_true_eq_false, not_false_eq_true, false_implies, and_true, true_and, i10, i00]
      unfold vM_river
      simp only [q_in0 7 7 rfl, n7, if_pos h1, q_in0 100 100 rfl, show nI 100 = (100 : Int32) from rfl, if_neg h2, true_implies, not_true_eq_false, not_false_eq_true, false_implies, and_true, true_and, i10, i00, R, mm_thrown_thrown, mm_status_thrown, mm_rule_thrown, mm_river_thrown, mm_lane_thrown, mm_many_thrown, mm_item_thrown, mm_worlds_thrown, mm_weight_thrown, mm_sea_thrown, mm_least_thrown, mm_isTold_thrown, mm_gates_thrown, mm_minutes_thrown, mm_hand_thrown, mm_hasFailed_thrown, mm_crew_thrown, mm_ships_thrown, mm_comes_thrown, mm_takes_thrown, mm_trace_thrown, mm_traced_thrown, uSh_thrown, uSea_thrown, uGa_thrown, uSp_thrown, uTr_thrown]
      exact h
theorem jz1 : jz 1 = True := eq_true (Or.inr rfl)
theorem jz0 : jz 0 = True := eq_true (Or.inl rfl)
theorem q_mayBeRule {g : GS} {s : Nat} (hs : s < 8) {v : Int32} {post : Int32 → GS → Prop} : vSG_mayBeRule g (nI s) v post ↔ (if (s < 2 ∧ (1 ≤ v ∧ v ≤ 3)) ∨ (¬ s < 2 ∧ (0 ≤ v ∧ v ≤ 1000)) then post 1 g else post 0 g) := by
  unfold vSG_mayBeRule vSG_mayBeRule_9
  have e0 : (nI s = (0 : Int32)) ↔ s = 0 := nI_eq (b := 0) (by omega) (by decide)
  have e1 : (nI s = (1 : Int32)) ↔ s = 1 := nI_eq (b := 1) (by omega) (by decide)
  simp only [e0, e1, q_within, jz1, jz0, true_implies, not_true_eq_false, not_false_eq_true, false_implies, and_true, true_and, i10, i00]
  by_cases c : s < 2
  · rcases (show s = 0 ∨ s = 1 by omega) with rfl | rfl
    · simp
    · simp
  · have c0 : ¬ s = 0 := by omega
    have c1 : ¬ s = 1 := by omega
    simp [c, c0, c1]
theorem sim_rule {g : GS} {m : GM} (h : R g m) (a1 a2 : Int32) : vSG_rule g a1 a2 (fun r g' => vM_rule m a1 a2 (fun r' m' => r = r' ∧ R g' m')) := by
  unfold vSG_rule
  rcases ix8 a1 with h1 | ⟨s, hs, rfl, h1⟩
  · simp only [q_within, if_neg h1, true_implies, not_true_eq_false, not_false_eq_true, false_implies, and_true, true_and, i10, i00]
    unfold vM_rule
    simp only [q_in0 7 7 rfl, n7, if_neg h1, true_implies, not_true_eq_false, not_false_eq_true, false_implies, and_true, true_and, i10, i00, R, mm_thrown_thrown, mm_status_thrown, mm_rule_thrown, mm_river_thrown, mm_lane_thrown, mm_many_thrown, mm_item_thrown, mm_worlds_thrown, mm_weight_thrown, mm_sea_thrown, mm_least_thrown, mm_isTold_thrown, mm_gates_thrown, mm_minutes_thrown, mm_hand_thrown, mm_hasFailed_thrown, mm_crew_thrown, mm_ships_thrown, mm_comes_thrown, mm_takes_thrown, mm_trace_thrown, mm_traced_thrown, uSh_thrown, uSea_thrown, uGa_thrown, uSp_thrown, uTr_thrown]
    exact h
  · simp only [q_within, if_pos h1, true_implies, not_true_eq_false, not_false_eq_true, false_implies, and_true, true_and, i10, i00, q_mayBeRule hs]
    have hcl : (nI s).toNatClampNeg = s := nI_clamp (by omega)
    have hin : vp_in (nI s) 8 := vp_in_nI hs (by decide)
    have e2 : ((2 : Int32) ≤ nI s) ↔ 2 ≤ s := nI_leI (a := 2) (by decide) (by omega)
    have hM : ∀ post : Int32 → GM → Prop, (if (s < 2 ∧ (1 ≤ a2 ∧ a2 ≤ 3)) ∨ (¬ s < 2 ∧ (0 ≤ a2 ∧ a2 ≤ 1000)) then post (m_rule m s) (sm_rule (sm_thrown m 0) (upd (m_rule m) s a2)) else post (-1000001) (sm_thrown m 0)) → vM_rule m (nI s) a2 post := by
      intro post hp
      unfold vM_rule vM_rule_52
      simp only [q_in0 7 7 rfl, n7, if_pos h1, q_in0 1000 1000 rfl, q_inL 1 3 1 3 rfl rfl, show nI 1000 = (1000 : Int32) from rfl, n1, show nI 3 = (3 : Int32) from rfl, true_implies, not_true_eq_false, not_false_eq_true, false_implies, and_true, true_and, i10, i00, e2, hcl, hin, mm_thrown_thrown, mm_status_thrown, mm_rule_thrown, mm_river_thrown, mm_lane_thrown, mm_many_thrown, mm_item_thrown, mm_worlds_thrown, mm_weight_thrown, mm_sea_thrown, mm_least_thrown, mm_isTold_thrown, mm_gates_thrown, mm_minutes_thrown, mm_hand_thrown, mm_hasFailed_thrown, mm_crew_thrown, mm_ships_thrown, mm_comes_thrown, mm_takes_thrown, mm_trace_thrown, mm_traced_thrown, uSh_thrown, uSea_thrown, uGa_thrown, uSp_thrown, uTr_thrown]
      by_cases c : s < 2
      · have c2 : ¬ 2 ≤ s := by omega
        simp only [eq_false c2, true_implies, not_true_eq_false, not_false_eq_true, false_implies, and_true, true_and, i10, i00]
        by_cases c3 : 1 ≤ a2 ∧ a2 ≤ 3
        · rw [if_pos (Or.inl ⟨c, c3⟩)] at hp
          simp only [if_pos c3, true_implies, not_true_eq_false, not_false_eq_true, false_implies, and_true, true_and, i10, i00]
          exact hp
        · rw [if_neg (fun q => q.elim (fun z => c3 z.2) (fun z => z.1 c))] at hp
          simp only [if_neg c3, true_implies, not_true_eq_false, not_false_eq_true, false_implies, and_true, true_and, i10, i00]
          exact hp
      · have c2 : 2 ≤ s := by omega
        simp only [eq_true c2, true_implies, not_true_eq_false, not_false_eq_true, false_implies, and_true, true_and, i10, i00]
        by_cases c3 : 0 ≤ a2 ∧ a2 ≤ 1000
        · rw [if_pos (Or.inr ⟨c, c3⟩)] at hp
          simp only [if_pos c3, true_implies, not_true_eq_false, not_false_eq_true, false_implies, and_true, true_and, i10, i00]
          exact hp
        · rw [if_neg (fun q => q.elim (fun z => c z.1) (fun z => c3 z.2))] at hp
          simp only [if_neg c3, true_implies, not_true_eq_false, not_false_eq_true, false_implies, and_true, true_and, i10, i00]
          exact hp
    by_cases c : (s < 2 ∧ (1 ≤ a2 ∧ a2 ≤ 3)) ∨ (¬ s < 2 ∧ (0 ≤ a2 ∧ a2 ≤ 1000))
    · simp only [if_pos c, true_implies, not_true_eq_false, not_false_eq_true, false_implies, and_true, true_and, i10, i00, hcl, hin]
      refine hM _ ?_
      rw [if_pos c]
      simp only [R, zz_finding_rules, zz_items_rules, zz_lanes_rules, zz_sizes_rules, zz_weights_rules, zz_levels_rules, zz_heads_rules, zz_ssize_rules, zz_rules_rules, zz_rivers_rules, zz_orders_rules, zz_now_rules, zz_then_rules, zz_loss_rules, zz_stale_rules, zz_ga_rules, zz_free_rules, zz_rsize_rules, zz_fmin_rules, zz_fpass_rules, zz_inTurn_rules, zz_fsize_rules, zz_numbers_rules, zz_tlen_rules, zz_gk_rules, zz_gm_rules, zz_gh_rules, zz_gf_rules, zz_gn_rules, vSh_rules, vSea_rules, vGa_rules, vSp_rules, vTr_rules, zz_finding_stale, zz_items_stale, zz_lanes_stale, zz_sizes_stale, zz_weights_stale, zz_levels_stale, zz_heads_stale, zz_ssize_stale, zz_rules_stale, zz_rivers_stale, zz_orders_stale, zz_now_stale, zz_then_stale, zz_loss_stale, zz_stale_stale, zz_ga_stale, zz_free_stale, zz_rsize_stale, zz_fmin_stale, zz_fpass_stale, zz_inTurn_stale, zz_fsize_stale, zz_numbers_stale, zz_tlen_stale, zz_gk_stale, zz_gm_stale, zz_gh_stale, zz_gf_stale, zz_gn_stale, vSh_stale, vSea_stale, vGa_stale, vSp_stale, vTr_stale, mm_thrown_rule, mm_status_rule, mm_rule_rule, mm_river_rule, mm_lane_rule, mm_many_rule, mm_item_rule, mm_worlds_rule, mm_weight_rule, mm_sea_rule, mm_least_rule, mm_isTold_rule, mm_gates_rule, mm_minutes_rule, mm_hand_rule, mm_hasFailed_rule, mm_crew_rule, mm_ships_rule, mm_comes_rule, mm_takes_rule, mm_trace_rule, mm_traced_rule, uSh_rule, uSea_rule, uGa_rule, uSp_rule, uTr_rule, mm_thrown_thrown, mm_status_thrown, mm_rule_thrown, mm_river_thrown, mm_lane_thrown, mm_many_thrown, mm_item_thrown, mm_worlds_thrown, mm_weight_thrown, mm_sea_thrown, mm_least_thrown, mm_isTold_thrown, mm_gates_thrown, mm_minutes_thrown, mm_hand_thrown, mm_hasFailed_thrown, mm_crew_thrown, mm_ships_thrown, mm_comes_thrown, mm_takes_thrown, mm_trace_thrown, mm_traced_thrown, uSh_thrown, uSea_thrown, uGa_thrown, uSp_thrown, uTr_thrown]
      obtain ⟨a, ha, ha2, f1, f2⟩ := h.ru.1 s hs
      refine ⟨by rw [f1, f2], h.1, h.2.1, ⟨h.wo, ⟨?_, h.ru.2⟩, RPl_stale⟩, h.2.2.2⟩
      have hl : ∃ l : Nat, l ≤ 1000 ∧ (s < 2 → 1 ≤ l ∧ l ≤ 3) ∧ a2 = nI l := by
        rcases c with ⟨c1, c2, c3⟩ | ⟨c1, c2, c3⟩
        · obtain ⟨l, hl, rfl⟩ := nI_of2 (x := a2) (M := 3) (n := 3) (by decide) (fun q => absurd (Int32.le_trans c2 (Int32.le_of_lt q)) (by decide)) c3
          have : 1 ≤ l := (nI_leI (a := 1) (by decide) (by omega)).mp c2
          exact ⟨l, by omega, fun _ => by omega, rfl⟩
        · obtain ⟨l, hl, rfl⟩ := nI_of2 (x := a2) (M := 1000) (n := 1000) (by decide) (Int32.not_lt.mpr c2) c3
          exact ⟨l, by omega, fun q => absurd q c1, rfl⟩
      obtain ⟨l, hl1, hl2, rfl⟩ := hl
      intro t ht
      by_cases e : t = s
      · subst e
        exact ⟨l, hl1, hl2, pk_us, pk_us⟩
      · obtain ⟨b, hb, hb2, f1, f2⟩ := h.ru.1 t ht
        exact ⟨b, hb, hb2, (pk_un e).trans f1, (pk_un e).trans f2⟩
    · simp only [if_neg c, true_implies, not_true_eq_false, not_false_eq_true, false_implies, and_true, true_and, i10, i00]
      refine hM _ ?_
      rw [if_neg c]
      simp only [R, mm_thrown_thrown, mm_status_thrown, mm_rule_thrown, mm_river_thrown, mm_lane_thrown, mm_many_thrown, mm_item_thrown, mm_worlds_thrown, mm_weight_thrown, mm_sea_thrown, mm_least_thrown, mm_isTold_thrown, mm_gates_thrown, mm_minutes_thrown, mm_hand_thrown, mm_hasFailed_thrown, mm_crew_thrown, mm_ships_thrown, mm_comes_thrown, mm_takes_thrown, mm_trace_thrown, mm_traced_thrown, uSh_thrown, uSea_thrown, uGa_thrown, uSp_thrown, uTr_thrown, true_implies, not_true_eq_false, not_false_eq_true, false_implies, and_true, true_and, i10, i00]
      exact h
-- groups
def fl (L : Nat → Nat → Int32) (v w k : Nat) : Int32 := if (List.range k).all (fun j => L v j == L w j) = true then 1 else 0
theorem fl_s {L : Nat → Nat → Int32} {v w k : Nat} : fl L v w (k + 1) = if L v k = L w k then fl L v w k else 0 := by
  unfold fl
  rw [List.range_succ, List.all_append]
  by_cases c : L v k = L w k
  · simp [c]
  · simp [c]
theorem fl_01 (L : Nat → Nat → Int32) (v w k : Nat) : fl L v w k = 0 ∨ fl L v w k = 1 := by
  unfold fl
  split
  · exact Or.inr rfl
  · exact Or.inl rfl
theorem fl_al {L : Nat → Nat → Int32} {v w h : Nat} : fl L v w (h + 1) = if alike L v w h = true then 1 else 0 := rfl
theorem lp_M_gr13 {post : Int32 → GM → Prop} {K2 : Int32 → Int32 → Int32 → GM → Prop} {m : GM} {L : Nat → Nat → Int32} {v w h : Nat} (hL : ∀ u k, u ≤ w → k ≤ h → m_sea m (8 * u + k) = L u k) (hw : w < 8) (hh : h < 8) (hv : v < w) (hp : vM_groupOf_64 post K2 (nI w) (nI h) (nI v) (fl L v w (h + 1)) m) : ∀ d k : Nat, k + d = h + 1 → vM_groupOf_13 post K2 (d + 1) (nI w) (nI h) (nI v) (fl L v w k) (nI k) m := by
  intro d
  induction d with
  | zero =>
    intro k hk
    have e : k = h + 1 := by omega
    subst e
    unfold vM_groupOf_13
    exact ⟨fun _ => hp, fun c => absurd (nI_lt (Nat.lt_succ_self h) (by omega)) c⟩
  | succ d ih =>
    intro k hk
    unfold vM_groupOf_13 vM_groupOf_55 vM_groupOf_56
    simp only [nI8b, nI_1]
    rw [nI_clamp (show 8 * v + k < 2 ^ 31 by omega), nI_clamp (show 8 * w + k < 2 ^ 31 by omega), hL v k (by omega) (by omega), hL w k (Nat.le_refl w) (by omega)]
    refine ⟨fun c => absurd c (nI_nlt (by omega) (by omega)), fun _ => ?_⟩
    have ih := ih (k + 1) (by omega)
    rw [fl_s] at ih
    rcases fl_01 L v w k with c | c
    · rw [c] at ih ⊢
      have e : (if L v k = L w k then (0 : Int32) else 0) = 0 := by split <;> rfl
      rw [e] at ih
      exact ⟨fun _ => ih, fun q => absurd rfl q⟩
    · rw [c] at ih ⊢
      refine ⟨fun q => absurd q (by decide), fun _ => ⟨vp_in_nI (by omega) (by decide), vp_in_nI (by omega) (by decide), fun q => ?_, fun q => ?_⟩⟩
      · rw [if_neg q] at ih
        exact ih
      · rw [if_pos q] at ih
        exact ih
theorem lp_M_gr2 {post : Int32 → GM → Prop} {m : GM} {L : Nat → Nat → Int32} {w h : Nat} (hL : ∀ u k, u ≤ w → k ≤ h → m_sea m (8 * u + k) = L u k) (hw : w < 8) (hh : h < 8) (hp : post (nI (grp L w h)) m) : ∀ d v : Nat, v + d = w → (∀ u, u < v → alike L u w h = false) → vM_groupOf_2 post (d + 1) (nI w) (nI h) (nI v) m := by
  intro d
  induction d with
  | zero =>
    intro v hv hu
    have e : v = w := by omega
    subst e
    unfold vM_groupOf_2
    have e2 : grp L v h = v := grp_eq (alike_iff.mpr (fun _ _ => rfl)) hu
    rw [e2] at hp
    exact ⟨fun _ => hp, fun c => absurd (nI_le (Nat.le_refl v) (by omega)) c⟩
  | succ d ih =>
    intro v hv hu
    unfold vM_groupOf_2
    refine ⟨fun c => absurd c (nI_ge (show v < w by omega) (by omega)), fun _ => ⟨h + 2, ?_⟩⟩
    refine lp_M_gr13 (L := L) hL hw hh (by omega) ?_ (h + 1) 0 (by omega)
    unfold vM_groupOf_64
    rw [fl_al]
    cases c : alike L v w h with
    | true =>
      rw [if_pos rfl]
      have e2 : grp L w h = v := grp_eq c hu
      rw [e2] at hp
      exact ⟨fun q => absurd q (by decide), fun _ => hp⟩
    | false =>
      rw [if_neg (by decide), nI_1]
      refine ⟨fun _ => ih (v + 1) (by omega) (fun u hu2 => ?_), fun q => absurd rfl q⟩
      rcases Nat.lt_or_ge u v with q | q
      · exact hu u q
      · have : u = v := by omega
        subst this
        exact c
theorem q_groupOf {post : Int32 → GM → Prop} {m : GM} {L : Nat → Nat → Int32} {w h : Nat} (hL : ∀ u k, u ≤ w → k ≤ h → m_sea m (8 * u + k) = L u k) (hw : w < 8) (hh : h < 8) (hp : post (nI (grp L w h)) m) : vM_groupOf m (nI w) (nI h) post := by
  unfold vM_groupOf
  exact ⟨w + 1, lp_M_gr2 hL hw hh hp w 0 (by omega) (fun u hu => absurd hu (Nat.not_lt_zero u))⟩
-- the class's
theorem lp_areAlike {post : Int32 → GS → Prop} {g : GS} {v w h : Nat} (hv : v < 8) (hw : w < 8) (hh : h < 8) (hp : post (if alike (z_levels g) v w h = true then 1 else 0) g) : ∀ d k : Nat, k + d = h + 1 → (∀ j, j < k → z_levels g v j = z_levels g w j) → vSea_areAlike_3 post (d + 1) (nI v) (nI w) (nI h) (nI k) g := by
  intro d
  induction d with
  | zero =>
    intro k hk hj
    have e : k = h + 1 := by omega
    subst e
    unfold vSea_areAlike_3
    rw [if_pos (alike_iff.mpr (fun j hj2 => hj j (by omega)))] at hp
    exact ⟨fun _ => hp, fun c => absurd (nI_lt (Nat.lt_succ_self h) (by omega)) c⟩
  | succ d ih =>
    intro k hk hj
    unfold vSea_areAlike_3
    rw [nI_clamp (show v < 2 ^ 31 by omega), nI_clamp (show w < 2 ^ 31 by omega), nI_clamp (show k < 2 ^ 31 by omega), nI_1]
    refine ⟨fun c => absurd c (nI_nlt (by omega) (by omega)), fun _ => ⟨vp_in_nI hv (by decide), vp_in_nI (by omega) (by decide), vp_in_nI hw (by decide), vp_in_nI (by omega) (by decide), fun q => ?_, fun q => ?_⟩⟩
    · refine ih (k + 1) (by omega) (fun j hj2 => ?_)
      rcases Nat.lt_or_ge j k with z | z
      · exact hj j z
      · have : j = k := by omega
        subst this
        exact q
    · rw [if_neg (fun z => q (alike_iff.mp z k (by omega)))] at hp
      exact hp
theorem q_areAlike {post : Int32 → GS → Prop} {g : GS} {v w h : Nat} (hv : v < 8) (hw : w < 8) (hh : h < 8) (hp : post (if alike (z_levels g) v w h = true then 1 else 0) g) : vSea_areAlike g (nI v) (nI w) (nI h) post := by
  unfold vSea_areAlike
  exact ⟨h + 2, lp_areAlike hv hw hh hp (h + 1) 0 (by omega) (fun j hj => absurd hj (Nat.not_lt_zero j))⟩
theorem lp_headOf {post : Int32 → GS → Prop} {g : GS} {w h : Nat} (hw : w < 8) (hh : h < 8) (hp : post (nI (grp (z_levels g) w h)) g) : ∀ d v : Nat, v + d = w → (∀ u, u < v → alike (z_levels g) u w h = false) → vSea_headOf_2 post (d + 1) (nI w) (nI h) (nI v) g := by
  intro d
  induction d with
  | zero =>
    intro v hv hu
    have e : v = w := by omega
    subst e
    unfold vSea_headOf_2
    have e2 : grp (z_levels g) v h = v := grp_eq (alike_iff.mpr (fun _ _ => rfl)) hu
    rw [e2] at hp
    exact ⟨fun _ => hp, fun c => absurd (nI_le (Nat.le_refl v) (by omega)) c⟩
  | succ d ih =>
    intro v hv hu
    unfold vSea_headOf_2
    refine ⟨fun c => absurd c (nI_ge (show v < w by omega) (by omega)), fun _ => q_areAlike (by omega) hw hh ?_⟩
    cases c : alike (z_levels g) v w h with
    | true =>
      rw [if_pos rfl]
      have e2 : grp (z_levels g) w h = v := grp_eq c hu
      rw [e2] at hp
      exact ⟨fun _ => hp, fun q => absurd q (by decide)⟩
    | false =>
      rw [if_neg (by decide), nI_1]
      refine ⟨fun q => absurd rfl q, fun _ => ih (v + 1) (by omega) (fun u hu2 => ?_)⟩
      rcases Nat.lt_or_ge u v with q | q
      · exact hu u q
      · have : u = v := by omega
        subst this
        exact c
theorem q_headOf {post : Int32 → GS → Prop} {g : GS} {w h : Nat} (hw : w < 8) (hh : h < 8) (hp : post (nI (grp (z_levels g) w h)) g) : vSea_headOf g (nI w) (nI h) post := by
  unfold vSea_headOf
  exact ⟨w + 1, lp_headOf hw hh hp w 0 (by omega) (fun u hu => absurd hu (Nat.not_lt_zero u))⟩
