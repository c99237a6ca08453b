theorem q_in00 {g : GM} {v hi : Int32} {post : Int32 → GM → Prop} : vM_in g v.toInt64 0 hi.toInt64 post ↔ (if 0 ≤ v ∧ v ≤ hi then post 1 g else post 0 g) := q_in (lo := 0)
theorem q_look_miss {g : GS} {s : Nat} (hs : s < 8) (e : z_sizes g s = -1) {i n : Int32} {post : Int32 → GS → Prop} : vSheets_look g (nI s) i n post ↔ post 1 g := by
  unfold vSheets_look
  rw [q_isMissing hs, if_pos e]
  simp only [true_implies, not_true_eq_false, not_false_eq_true, false_implies, and_true, true_and, i10, i00]
theorem q_look {g : GS} {s z : Nat} (hs : s < 8) (hz : z ≤ 60) (e : z_sizes g s = nI z) {i n : Int32} {post : Int32 → GS → Prop} : vSheets_look g (nI s) i n post ↔ (if 0 ≤ i.toInt ∧ 0 ≤ n.toInt ∧ i.toInt + n.toInt ≤ z then post 0 g else post 2 g) := by
  unfold vSheets_look
  rw [q_isMissing hs, if_neg (by rw [e]; exact nI_nm1 (by omega))]
  simp only [true_implies, not_true_eq_false, not_false_eq_true, false_implies, and_true, true_and, i10, i00, q_hasPlaces hs hz e]
def nr (l : Nat) (v : Int32) : Int32 := if l = 0 then v.toInt8.toInt32 else if l = 1 then v.toInt16.toInt32 else v
theorem sim_set {g : GS} {m : GM} (h : R g m) (a1 a2 a3 : Int32) : vSG_set g a1 a2 a3 (fun r g' => vM_set m a1 a2 a3 (fun r' m' => r = r' ∧ R g' m')) := by
  unfold vSG_set
  rcases ix8 a1 with h1 | ⟨s, hs, rfl, h1⟩
  · simp only [q_within, if_neg h1, true_implies, not_true_eq_false, not_false_eq_true, false_implies, and_true, true_and, i10, i00]
    unfold vM_set
    simp only [q_isSheet, if_neg h1, true_implies, not_true_eq_false, not_false_eq_true, false_implies, and_true, true_and, i10, i00, R, mm_thrown_thrown, mm_status_thrown, mm_rule_thrown, mm_river_thrown, mm_lane_thrown, mm_many_thrown, mm_item_thrown, mm_worlds_thrown, mm_weight_thrown, mm_sea_thrown, mm_least_thrown, mm_isTold_thrown, mm_gates_thrown, mm_minutes_thrown, mm_hand_thrown, mm_hasFailed_thrown, mm_crew_thrown, mm_ships_thrown, mm_comes_thrown, mm_takes_thrown, mm_trace_thrown, mm_traced_thrown, uSh_thrown, uSea_thrown, uGa_thrown, uSp_thrown, uTr_thrown]
    exact h
  · simp only [q_within, if_pos h1, true_implies, not_true_eq_false, not_false_eq_true, false_implies, and_true, true_and, i10, i00]
    have hcl : (nI s).toNatClampNeg = s := nI_clamp (by omega)
    have hin : vp_in (nI s) 8 := vp_in_nI hs (by decide)
    rcases h.sh.1 s hs with ⟨q1, q2⟩ | ⟨z, l, hn, hl, q1, q2, q3, q4⟩
    · simp only [q_look_miss hs q1, true_implies, not_true_eq_false, not_false_eq_true, false_implies, and_true, true_and, i10, i00, vSG_found]
      unfold vM_set
      have c : ¬ (0 : Int32) ≤ m_lane m s := by
        rw [q2]
        decide
      simp only [q_isSheet, if_pos h1, true_implies, not_true_eq_false, not_false_eq_true, false_implies, and_true, true_and, i10, i00, hcl, hin, vM_found, R, zz_finding_finding, zz_items_finding, zz_lanes_finding, zz_sizes_finding, zz_weights_finding, zz_levels_finding, zz_heads_finding, zz_ssize_finding, zz_rules_finding, zz_rivers_finding, zz_orders_finding, zz_now_finding, zz_then_finding, zz_loss_finding, zz_stale_finding, zz_ga_finding, zz_free_finding, zz_rsize_finding, zz_fmin_finding, zz_fpass_finding, zz_inTurn_finding, zz_fsize_finding, zz_numbers_finding, zz_tlen_finding, zz_gk_finding, zz_gm_finding, zz_gh_finding, zz_gf_finding, zz_gn_finding, vSh_finding, vSea_finding, vGa_finding, vSp_finding, vTr_finding, mm_thrown_status, mm_status_status, mm_rule_status, mm_river_status, mm_lane_status, mm_many_status, mm_item_status, mm_worlds_status, mm_weight_status, mm_sea_status, mm_least_status, mm_isTold_status, mm_gates_status, mm_minutes_status, mm_hand_status, mm_hasFailed_status, mm_crew_status, mm_ships_status, mm_comes_status, mm_takes_status, mm_trace_status, mm_traced_status, uSh_status, uSea_status, uGa_status, uSp_status, uTr_status, mm_thrown_thrown, mm_status_thrown, mm_rule_thrown, mm_river_thrown, mm_lane_thrown, mm_many_thrown, mm_item_thrown, mm_worlds_thrown, mm_weight_thrown, mm_sea_thrown, mm_least_thrown, mm_isTold_thrown, mm_gates_thrown, mm_minutes_thrown, mm_hand_thrown, mm_hasFailed_thrown, mm_crew_thrown, mm_ships_thrown, mm_comes_thrown, mm_takes_thrown, mm_trace_thrown, mm_traced_thrown, uSh_thrown, uSea_thrown, uGa_thrown, uSp_thrown, uTr_thrown, c]
      exact ⟨h.1, h.2.2⟩
    · have c : (0 : Int32) ≤ m_lane m s := by
        rw [q4]
        exact nI_p0 (by omega)
      have cl : (0 : Int32) ≤ nI l := nI_p0 (by omega)
      have hm1 : (nI z - 1).toInt = (z : Int) - 1 := by
        rw [Int32.toInt_sub, nI_toInt (by omega)]
        exact fb_bmod' (by show -2147483648 ≤ (z : Int) - 1; omega) (by show (z : Int) - 1 < 2147483648; omega)
      have hc2 : (0 ≤ a2 ∧ a2 ≤ nI z - 1) ↔ (0 ≤ a2.toInt ∧ 0 ≤ (1 : Int32).toInt ∧ a2.toInt + (1 : Int32).toInt ≤ z) := by
        rw [Int32.le_iff_toInt_le, Int32.le_iff_toInt_le, hm1]
        show ((0 : Int) ≤ a2.toInt ∧ a2.toInt ≤ (z : Int) - 1) ↔ (0 ≤ a2.toInt ∧ (0 : Int) ≤ 1 ∧ a2.toInt + 1 ≤ z)
        omega
      rw [q_look hs hn q1]
      by_cases c2 : 0 ≤ a2.toInt ∧ 0 ≤ (1 : Int32).toInt ∧ a2.toInt + (1 : Int32).toInt ≤ z
      · have c3 := hc2.mpr c2
        obtain ⟨k, hk, rfl⟩ := nI_of (x := a2) (Int32.not_lt.mpr c3.1)
        have hkz : k < z := by
          have h5 := c2.2.2
          rw [nI_toInt hk, show (1 : Int32).toInt = 1 from rfl] at h5
          omega
        have hclk : (nI k).toNatClampNeg = k := nI_clamp hk
        have hink : vp_in (nI k) 60 := vp_in_nI (by omega) (by decide)
        have e0 : (nI l = (0 : Int32)) ↔ l = 0 := nI_eq (b := 0) (by omega) (by decide)
        have e1 : (nI l = (1 : Int32)) ↔ l = 1 := nI_eq (b := 1) (by omega) (by decide)
        have hput : ∀ post : Int32 → GS → Prop, post (nr l a3) (sz_items g (va_up (z_items g) s (upd (z_items g s) k (nr l a3)))) → vSheets_put g (nI s) (nI k) a3 post := by
          intro post hp
          have ev : ∀ x : Int32, va_up (z_items g) s (upd (z_items g s) k x) s k = x := fun x => by
            unfold va_up
            rw [if_pos rfl, pk_us]
          unfold vSheets_put vSheets_narrowed
          simp only [hcl, hin, true_implies, not_true_eq_false, not_false_eq_true, false_implies, and_true, true_and, i10, i00, q3, hclk, hink, e0, e1, ev]
          unfold nr at hp
          by_cases c5 : l = 0
          · rw [if_pos c5] at hp
            simp only [eq_true c5, true_implies, not_true_eq_false, not_false_eq_true, false_implies, and_true, true_and, i10, i00]
            exact hp
          · rw [if_neg c5] at hp
            by_cases c6 : l = 1
            · rw [if_pos c6] at hp
              simp only [eq_false c5, eq_true c6, true_implies, not_true_eq_false, not_false_eq_true, false_implies, and_true, true_and, i10, i00]
              exact hp
            · rw [if_neg c6] at hp
              simp only [eq_false c5, eq_false c6, true_implies, not_true_eq_false, not_false_eq_true, false_implies, and_true, true_and, i10, i00]
              exact hp
        simp only [if_pos c2, true_implies, not_true_eq_false, not_false_eq_true, false_implies, and_true, true_and, i10, i00]
        refine hput _ ?_
        unfold vSG_fine vM_set
        have hin2 : vp_in (nI (60 * s + k)) 480 := vp_in_nI (by omega) (by decide)
        have hcl2 : (nI (60 * s + k)).toNatClampNeg = 60 * s + k := nI_clamp (by omega)
        have hfin : ∀ x : Int32, x = nr l a3 → vM_set_99 (fun r' m' => nr l a3 = r' ∧ R (sz_finding (sz_items g (va_up (z_items g) s (upd (z_items g s) k (nr l a3)))) 0) m') (nI s) (nI k) x (nI (60 * s + k)) (sm_status (sm_thrown m 0) 0) := by
          intro x hx
          subst hx
          unfold vM_set_99
          simp only [nI60, hin2, hcl2, true_implies, not_true_eq_false, not_false_eq_true, false_implies, and_true, true_and, i10, i00, pk_us, R, zz_finding_items, zz_items_items, zz_lanes_items, zz_sizes_items, zz_weights_items, zz_levels_items, zz_heads_items, zz_ssize_items, zz_rules_items, zz_rivers_items, zz_orders_items, zz_now_items, zz_then_items, zz_loss_items, zz_stale_items, zz_ga_items, zz_free_items, zz_rsize_items, zz_fmin_items, zz_fpass_items, zz_inTurn_items, zz_fsize_items, zz_numbers_items, zz_tlen_items, zz_gk_items, zz_gm_items, zz_gh_items, zz_gf_items, zz_gn_items, vSh_items, vSea_items, vGa_items, vSp_items, vTr_items, zz_finding_finding, zz_items_finding, zz_lanes_finding, zz_sizes_finding, zz_weights_finding, zz_levels_finding, zz_heads_finding, zz_ssize_finding, zz_rules_finding, zz_rivers_finding, zz_orders_finding, zz_now_finding, zz_then_finding, zz_loss_finding, zz_stale_finding, zz_ga_finding, zz_free_finding, zz_rsize_finding, zz_fmin_finding, zz_fpass_finding, zz_inTurn_finding, zz_fsize_finding, zz_numbers_finding, zz_tlen_finding, zz_gk_finding, zz_gm_finding, zz_gh_finding, zz_gf_finding, zz_gn_finding, vSh_finding, vSea_finding, vGa_finding, vSp_finding, vTr_finding, mm_thrown_item, mm_status_item, mm_rule_item, mm_river_item, mm_lane_item, mm_many_item, mm_item_item, mm_worlds_item, mm_weight_item, mm_sea_item, mm_least_item, mm_isTold_item, mm_gates_item, mm_minutes_item, mm_hand_item, mm_hasFailed_item, mm_crew_item, mm_ships_item, mm_comes_item, mm_takes_item, mm_trace_item, mm_traced_item, uSh_item, uSea_item, uGa_item, uSp_item, uTr_item, mm_thrown_status, mm_status_status, mm_rule_status, mm_river_status, mm_lane_status, mm_many_status, mm_item_status, mm_worlds_status, mm_weight_status, mm_sea_status, mm_least_status, mm_isTold_status, mm_gates_status, mm_minutes_status, mm_hand_status, mm_hasFailed_status, mm_crew_status, mm_ships_status, mm_comes_status, mm_takes_status, mm_trace_status, mm_traced_status, uSh_status, uSea_status, uGa_status, uSp_status, uTr_status, mm_thrown_thrown, mm_status_thrown, mm_rule_thrown, mm_river_thrown, mm_lane_thrown, mm_many_thrown, mm_item_thrown, mm_worlds_thrown, mm_weight_thrown, mm_sea_thrown, mm_least_thrown, mm_isTold_thrown, mm_gates_thrown, mm_minutes_thrown, mm_hand_thrown, mm_hasFailed_thrown, mm_crew_thrown, mm_ships_thrown, mm_comes_thrown, mm_takes_thrown, mm_trace_thrown, mm_traced_thrown, uSh_thrown, uSea_thrown, uGa_thrown, uSp_thrown, uTr_thrown]
          refine ⟨⟨h.sh.1, ?_⟩, h.2.2⟩
          intro t j ht hj
          show va_up (z_items g) s (upd (z_items g s) k (nr l a3)) t j = upd (m_item m) (60 * s + k) (nr l a3) (60 * t + j)
          by_cases e : t = s
          · subst e
            unfold va_up
            rw [if_pos rfl]
            by_cases e2 : j = k
            · subst e2
              rw [pk_us, pk_us]
            · rw [pk_un e2, pk_un (by omega)]
              exact h.sh.2 t j ht hj
          · unfold va_up
            rw [if_neg e, pk_un (by omega)]
            exact h.sh.2 t j ht hj
        simp only [q_isSheet, if_pos h1, true_implies, not_true_eq_false, not_false_eq_true, false_implies, and_true, true_and, i10, i00, hcl, hin, mm_thrown_status, mm_status_status, mm_rule_status, mm_river_status, mm_lane_status, mm_many_status, mm_item_status, mm_worlds_status, mm_weight_status, mm_sea_status, mm_least_status, mm_isTold_status, mm_gates_status, mm_minutes_status, mm_hand_status, mm_hasFailed_status, mm_crew_status, mm_ships_status, mm_comes_status, mm_takes_status, mm_trace_status, mm_traced_status, uSh_status, uSea_status, uGa_status, uSp_status, uTr_status, mm_thrown_thrown, mm_status_thrown, mm_rule_thrown, mm_river_thrown, mm_lane_thrown, mm_many_thrown, mm_item_thrown, mm_worlds_thrown, mm_weight_thrown, mm_sea_thrown, mm_least_thrown, mm_isTold_thrown, mm_gates_thrown, mm_minutes_thrown, mm_hand_thrown, mm_hasFailed_thrown, mm_crew_thrown, mm_ships_thrown, mm_comes_thrown, mm_takes_thrown, mm_trace_thrown, mm_traced_thrown, uSh_thrown, uSea_thrown, uGa_thrown, uSp_thrown, uTr_thrown, c, q2, q4, q_in00, if_pos c3, nI60, e0, e1]
        by_cases c5 : l = 0
        · simp only [eq_true c5, cl, true_implies, not_true_eq_false, not_false_eq_true, false_implies, and_true, true_and, i10, i00]
          exact hfin _ (by unfold nr; rw [if_pos c5])
        · by_cases c6 : l = 1
          · simp only [eq_false c5, eq_true c6, cl, true_implies, not_true_eq_false, not_false_eq_true, false_implies, and_true, true_and, i10, i00]
            exact hfin _ (by unfold nr; rw [if_neg c5, if_pos c6])
          · simp only [eq_false c5, eq_false c6, cl, true_implies, not_true_eq_false, not_false_eq_true, false_implies, and_true, true_and, i10, i00]
            exact hfin _ (by unfold nr; rw [if_neg c5, if_neg c6])
      · have c3 : ¬ (0 ≤ a2 ∧ a2 ≤ nI z - 1) := fun q => c2 (hc2.mp q)
        simp only [if_neg c2, i20, true_implies, not_true_eq_false, not_false_eq_true, false_implies, and_true, true_and, i10, i00]
        unfold vSG_found vM_set
        simp only [q_isSheet, if_pos h1, true_implies, not_true_eq_false, not_false_eq_true, false_implies, and_true, true_and, i10, i00, hcl, hin, zz_finding_finding, zz_items_finding, zz_lanes_finding, zz_sizes_finding, zz_weights_finding, zz_levels_finding, zz_heads_finding, zz_ssize_finding, zz_rules_finding, zz_rivers_finding, zz_orders_finding, zz_now_finding, zz_then_finding, zz_loss_finding, zz_stale_finding, zz_ga_finding, zz_free_finding, zz_rsize_finding, zz_fmin_finding, zz_fpass_finding, zz_inTurn_finding, zz_fsize_finding, zz_numbers_finding, zz_tlen_finding, zz_gk_finding, zz_gm_finding, zz_gh_finding, zz_gf_finding, zz_gn_finding, vSh_finding, vSea_finding, vGa_finding, vSp_finding, vTr_finding, mm_thrown_status, mm_status_status, mm_rule_status, mm_river_status, mm_lane_status, mm_many_status, mm_item_status, mm_worlds_status, mm_weight_status, mm_sea_status, mm_least_status, mm_isTold_status, mm_gates_status, mm_minutes_status, mm_hand_status, mm_hasFailed_status, mm_crew_status, mm_ships_status, mm_comes_status, mm_takes_status, mm_trace_status, mm_traced_status, uSh_status, uSea_status, uGa_status, uSp_status, uTr_status, mm_thrown_thrown, mm_status_thrown, mm_rule_thrown, mm_river_thrown, mm_lane_thrown, mm_many_thrown, mm_item_thrown, mm_worlds_thrown, mm_weight_thrown, mm_sea_thrown, mm_least_thrown, mm_isTold_thrown, mm_gates_thrown, mm_minutes_thrown, mm_hand_thrown, mm_hasFailed_thrown, mm_crew_thrown, mm_ships_thrown, mm_comes_thrown, mm_takes_thrown, mm_trace_thrown, mm_traced_thrown, uSh_thrown, uSea_thrown, uGa_thrown, uSp_thrown, uTr_thrown, c, q2, q_in00, if_neg c3, vM_found, R]
        exact ⟨h.1, h.2.2⟩
/-- the loop of the reference's copy, up: what lies behind it -/
theorem va_cpy_up {f : Nat → Int32} {s d k : Nat} (hc : ¬ (d ≤ s + k ∧ s + k < d + k)) : upd (va_cpy f f s d k) (d + k) (va_cpy f f s d k (s + k)) = va_cpy f f s d (k + 1) := by
  funext j
  unfold va_cpy
  by_cases e : j = d + k
  · subst e
    rw [pk_us, if_neg hc, if_pos (by omega)]
    congr 1
    omega
  · rw [pk_un e]
    by_cases e2 : d ≤ j ∧ j < d + k
    · rw [if_pos e2, if_pos (by omega)]
    · rw [if_neg e2, if_neg (by omega)]
theorem va_cpy_dn {f : Nat → Int32} {s d n k : Nat} (hk : k < n) (hc : ¬ (d + n - k ≤ s + (n - 1 - k) ∧ s + (n - 1 - k) < d + n)) : upd (va_cpy f f (s + (n - k)) (d + (n - k)) k) (d + (n - 1 - k)) (va_cpy f f (s + (n - k)) (d + (n - k)) k (s + (n - 1 - k))) = va_cpy f f (s + (n - (k + 1))) (d + (n - (k + 1))) (k + 1) := by
  funext j
  unfold va_cpy
  by_cases e : j = d + (n - 1 - k)
  · subst e
    rw [pk_us, if_neg (by omega), if_pos (by omega)]
    congr 1
    omega
  · rw [pk_un e]
    by_cases e2 : d + (n - k) ≤ j ∧ j < d + (n - k) + k
    · rw [if_pos e2, if_pos (by omega)]
      congr 1
      omega
    · rw [if_neg e2, if_neg (by omega)]
theorem va_cpy_0 {f : Nat → Int32} {s d : Nat} : va_cpy f f s d 0 = f := funext fun j => by
  unfold va_cpy
  rw [if_neg (by omega)]
theorem nI60b (s i k : Nat) : (60 : Int32) * nI s + nI i + nI k = nI (60 * s + i + k) := by
  rw [nI60, nI_add]
theorem lp_M_copyUp {post : Int32 → GM → Prop} {a b i j n : Nat} (ha : a < 8) (hb : b < 8) (hi : i + n ≤ 60) (hj : j + n ≤ 60) (hd : ∀ k, k < n → ¬ (60 * b + j ≤ 60 * a + i + k ∧ 60 * a + i + k < 60 * b + j + k)) (g : GM) (hp : post (nI n) (sm_item g (va_cpy (m_item g) (m_item g) (60 * a + i) (60 * b + j) n))) : ∀ d k : Nat, k + d = n → vM_copy_143 post (d + 1) (nI a) (nI i) (nI b) (nI j) (nI n) 1 (nI k) (sm_item g (va_cpy (m_item g) (m_item g) (60 * a + i) (60 * b + j) k)) := by
  intro d
  induction d with
  | zero =>
    intro k hk
    have e : k = n := by omega
    subst e
    unfold vM_copy_143
    exact ⟨fun _ => hp, fun c => absurd (nI_le (Nat.le_refl k) (by omega)) c⟩
  | succ d ih =>
    intro k hk
    unfold vM_copy_143 vM_copy_167
    simp only [nI60b, true_implies, not_true_eq_false, not_false_eq_true, false_implies, and_true, true_and, i10, i00]
    rw [nI_clamp (show 60 * a + i + k < 2 ^ 31 by omega), nI_clamp (show 60 * b + j + k < 2 ^ 31 by omega), nI_1, m_item_s, sm_item_s, va_cpy_up (hd k (by omega))]
    exact ⟨fun c => absurd c (nI_ge (show k < n by omega) (by omega)), fun _ => ⟨vp_in_nI (by omega) (by decide), vp_in_nI (by omega) (by decide), ih (k + 1) (by omega)⟩⟩
theorem lp_M_copyDn {post : Int32 → GM → Prop} {a b i j n : Nat} (ha : a < 8) (hb : b < 8) (hi : i + n ≤ 60) (hj : j + n ≤ 60) (hd : ∀ k, k < n → ¬ (60 * b + j + n - k ≤ 60 * a + i + (n - 1 - k) ∧ 60 * a + i + (n - 1 - k) < 60 * b + j + n)) (g : GM) (hp : post (nI n) (sm_item g (va_cpy (m_item g) (m_item g) (60 * a + i) (60 * b + j) n))) : ∀ d k : Nat, k + d = n → vM_copy_143 post (d + 1) (nI a) (nI i) (nI b) (nI j) (nI n) 0 (nI k) (sm_item g (va_cpy (m_item g) (m_item g) (60 * a + i + (n - k)) (60 * b + j + (n - k)) k)) := by
  intro d
  induction d with
  | zero =>
    intro k hk
    have e : k = n := by omega
    subst e
    unfold vM_copy_143
    rw [Nat.sub_self, Nat.add_zero, Nat.add_zero]
    exact ⟨fun _ => hp, fun c => absurd (nI_le (Nat.le_refl k) (by omega)) c⟩
  | succ d ih =>
    intro k hk
    have e1 : nI n - 1 - nI k = nI (n - 1 - k) := by
      rw [show (1 : Int32) = nI 1 from rfl, pk_sub (by omega), pk_sub (by omega)]
    unfold vM_copy_143 vM_copy_167
    simp only [e1, nI60b, true_implies, not_true_eq_false, not_false_eq_true, false_implies, and_true, true_and, i10, i00]
    rw [nI_clamp (show 60 * a + i + (n - 1 - k) < 2 ^ 31 by omega), nI_clamp (show 60 * b + j + (n - 1 - k) < 2 ^ 31 by omega), nI_1, m_item_s, sm_item_s, va_cpy_dn (by omega) (hd k (by omega))]
    exact ⟨fun c => absurd c (nI_ge (show k < n by omega) (by omega)), fun _ => ⟨vp_in_nI (by omega) (by decide), vp_in_nI (by omega) (by decide), ih (k + 1) (by omega)⟩⟩
