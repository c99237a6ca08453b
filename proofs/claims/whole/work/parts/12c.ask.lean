theorem q_Hmark {g : GS} {k t : Nat} (hk : k < z_gn g) (hz : jz (z_gf g k)) (hl : ∃ t, t ≤ 16 ∧ z_tlen g = nI t) (ht : t = 1 ∨ t = 2) (et : z_gk g k = t) {post : Int32 → GS → Prop} (hp : post (z_gf g k + coV t (z_gm g k) (z_gh g k)) (coS (trS (trS g 21) 20) t)) : vHanded_mark g k post := by
  unfold vHanded_mark
  obtain ⟨n, hn, en⟩ := hl
  obtain ⟨n2, hn2, en2⟩ := trS_len hn en 21
  refine ⟨hk, q_leave ⟨n, hn, en⟩ ⟨by rw [trS_gn]; exact hk, q_Gmark (by rw [trS_gn]; exact hk) (by rw [trS_gf]; exact hz) ⟨n2, hn2, en2⟩ ⟨by rw [trS_gn, trS_gn]; exact hk, ?_⟩⟩⟩
  rw [trS_gk, trS_gk, et, trS_gf]
  have hk2 : k < z_gn (trS (trS g 21) 20) := by rw [trS_gn, trS_gn]; exact hk
  refine ⟨ht, fun e => ?_, fun e => ?_⟩
  · subst e
    refine q_Hcost hk2 (trS_len hn2 en2 20) ?_
    rw [trS_gm, trS_gm, trS_gh, trS_gh]
    rw [coV_1, coS_1] at hp
    exact hp
  · subst e
    refine q_Tcost hk2 (trS_len hn2 en2 20) ?_
    rw [trS_gm, trS_gm, trS_gh, trS_gh]
    rw [coV_2, coS_2] at hp
    exact hp
theorem q_Smark {g : GS} {k : Nat} (hk : k < z_gn g) (hz : jz (z_gf g k)) (hl : ∃ t, t ≤ 16 ∧ z_tlen g = nI t) (et : z_gk g k = 3) {post : Int32 → GS → Prop} (hp : post (z_gf g k - coV 3 (z_gm g k) (z_gh g k)) (coS (trS (trS g 22) 20) 3)) : vSlow_mark g k post := by
  unfold vSlow_mark
  obtain ⟨n, hn, en⟩ := hl
  obtain ⟨n2, hn2, en2⟩ := trS_len hn en 22
  refine ⟨hk, q_leave ⟨n, hn, en⟩ ⟨by rw [trS_gn]; exact hk, q_Gmark (by rw [trS_gn]; exact hk) (by rw [trS_gf]; exact hz) ⟨n2, hn2, en2⟩ ⟨by rw [trS_gn, trS_gn]; exact hk, ?_⟩⟩⟩
  rw [trS_gk, trS_gk, trS_gf]
  have hk2 : k < z_gn (trS (trS g 22) 20) := by rw [trS_gn, trS_gn]; exact hk
  refine ⟨et, fun e => ?_⟩
  refine q_Scost hk2 (trS_len hn2 en2 20) ?_
  rw [trS_gm, trS_gm]
  rw [coV_3, coS_3] at hp
  exact hp
def maM (m : GM) (t : Nat) : GM := if t = 0 then trM m 20 else if t = 3 then coM (trM (trM m 22) 20) 3 else coM (trM (trM m 21) 20) t
def maV (t : Nat) (f a b : Int32) : Int32 := if t = 0 then f else if t = 3 then f - coV 3 a b else f + coV t a b
theorem q_M_marked {m : GM} {j : Nat} (hj : j < 6) (hz : jz (m_hasFailed m j)) (hl : ∃ t, t ≤ 16 ∧ m_traced m = nI t) {t : Nat} (ht : t = 0 ∨ t = 1 ∨ t = 2 ∨ t = 3) (ek : kd (m_minutes m j) (m_hand m j) = t) {post : Int32 → GM → Prop} (hp : post (maV t (m_hasFailed m j) (m_minutes m j) (m_hand m j)) (maM m t)) : vM_marked m (nI j) post := by
  unfold vM_marked
  rw [q_kindOf hj, ek]
  obtain ⟨n, hn, en⟩ := hl
  have hin : vp_in (nI j) 6 := vp_in_nI hj (by decide)
  have hz1 : ∀ {A : Int32 → Prop}, A (m_hasFailed m j) → ((m_hasFailed m j = 0 → A 0) ∧ (¬ m_hasFailed m j = 0 → A 1)) := by
    intro A hA
    rcases hz with e | e
    · rw [e] at hA ⊢
      exact ⟨fun _ => hA, fun q => absurd rfl q⟩
    · rw [e] at hA ⊢
      exact ⟨fun q => absurd q (by decide), fun _ => hA⟩
  have hcl : (nI j).toNatClampNeg = j := nI_clamp (by omega)
  unfold maV maM at hp
  rcases ht with rfl | rfl | rfl | rfl
  · rw [if_pos rfl, if_pos rfl] at hp
    unfold vM_marked_21 vM_marked_33 vM_marked_43
    refine ⟨fun q => absurd q (by decide), fun _ => ⟨fun _ => ⟨fun _ => ⟨fun _ => ?_, fun q => absurd rfl q⟩, fun q => absurd q (by decide)⟩, fun q => absurd q (by decide)⟩⟩
    refine q_began ⟨n, hn, en⟩ ⟨hin, ?_⟩
    rw [hcl, trM_hasFailed]
    refine hz1 (A := fun v => vM_marked_63 post (nI j) (nI 0) 0 v (trM m 20)) ?_
    unfold vM_marked_63
    exact ⟨fun _ => ⟨fun _ => hp, fun q => absurd rfl q⟩, fun q => absurd q (by decide)⟩
  · rw [if_neg (by decide), if_neg (by decide), if_neg (by decide), if_neg (by decide)] at hp
    unfold vM_marked_16 vM_marked_21 vM_marked_33 vM_marked_43
    refine ⟨fun _ => ⟨fun _ => ⟨fun q => absurd q (by decide), fun _ => ?_⟩, fun q => absurd q (by decide)⟩, fun q => absurd rfl q⟩
    obtain ⟨n2, hn2, en2⟩ := trM_len hn en 21
    refine q_began ⟨n, hn, en⟩ (q_began ⟨n2, hn2, en2⟩ ⟨hin, ?_⟩)
    rw [hcl, trM_hasFailed, trM_hasFailed]
    refine hz1 (A := fun v => vM_marked_63 post (nI j) (nI 1) 1 v (trM (trM m 21) 20)) ?_
    unfold vM_marked_63
    refine ⟨fun _ => ⟨fun q => absurd q (by decide), fun _ => q_M_cost hj (trM_len hn2 en2 20) (t := 1) (Or.inr (Or.inl rfl)) ?_ ?_⟩, fun q => absurd q (by decide)⟩
    · rw [trM_minutes, trM_minutes, trM_hand, trM_hand]
      exact ek
    · rw [trM_minutes, trM_minutes, trM_hand, trM_hand]
      exact hp
  · rw [if_neg (by decide), if_neg (by decide), if_neg (by decide), if_neg (by decide)] at hp
    unfold vM_marked_16 vM_marked_21 vM_marked_33 vM_marked_43
    refine ⟨fun q => absurd q (by decide), fun _ => ⟨fun q => absurd rfl q, fun _ => ⟨fun _ => ⟨fun q => absurd q (by decide), fun _ => ?_⟩, fun q => absurd q (by decide)⟩⟩⟩
    obtain ⟨n2, hn2, en2⟩ := trM_len hn en 21
    refine q_began ⟨n, hn, en⟩ (q_began ⟨n2, hn2, en2⟩ ⟨hin, ?_⟩)
    rw [hcl, trM_hasFailed, trM_hasFailed]
    refine hz1 (A := fun v => vM_marked_63 post (nI j) (nI 2) 1 v (trM (trM m 21) 20)) ?_
    unfold vM_marked_63
    refine ⟨fun _ => ⟨fun q => absurd q (by decide), fun _ => q_M_cost hj (trM_len hn2 en2 20) (t := 2) (Or.inr (Or.inr (Or.inl rfl))) ?_ ?_⟩, fun q => absurd q (by decide)⟩
    · rw [trM_minutes, trM_minutes, trM_hand, trM_hand]
      exact ek
    · rw [trM_minutes, trM_minutes, trM_hand, trM_hand]
      exact hp
  · rw [if_neg (by decide), if_pos rfl, if_neg (by decide), if_pos rfl] at hp
    unfold vM_marked_21 vM_marked_33 vM_marked_43
    refine ⟨fun q => absurd q (by decide), fun _ => ⟨fun _ => ⟨fun q => absurd rfl q, fun _ => ?_⟩, fun q => absurd q (by decide)⟩⟩
    obtain ⟨n2, hn2, en2⟩ := trM_len hn en 22
    refine q_began ⟨n, hn, en⟩ ⟨fun _ => q_began ⟨n2, hn2, en2⟩ ⟨hin, ?_⟩, fun q => absurd rfl q⟩
    rw [hcl, trM_hasFailed, trM_hasFailed]
    refine hz1 (A := fun v => vM_marked_63 post (nI j) (nI 3) 0 v (trM (trM m 22) 20)) ?_
    unfold vM_marked_63
    refine ⟨fun q => absurd rfl q, fun _ => q_M_cost hj (trM_len hn2 en2 20) (t := 3) (Or.inr (Or.inr (Or.inr rfl))) ?_ ?_⟩
    · rw [trM_minutes, trM_minutes, trM_hand, trM_hand]
      exact ek
    · rw [trM_minutes, trM_minutes, trM_hand, trM_hand]
      exact hp
set_option maxHeartbeats 2000000 in
theorem sim_ask {g : GS} {m : GM} (h : R g m) (a1 a2 : Int32) : vSG_ask g a1 a2 (fun r g' => vM_ask m a1 a2 (fun r' m' => r = r' ∧ R g' m')) := by
  unfold vSG_ask
  obtain ⟨h1, h2, h3, h4, h5, h6⟩ := h.ga
  have hR : R g (sm_thrown m 0) := by
    simp only [R, mm_thrown_thrown, mm_status_thrown, mm_rule_thrown, mm_river_thrown, mm_lane_thrown, mm_many_thrown, mm_item_thrown, mm_worlds_thrown, mm_weight_thrown, mm_sea_thrown, mm_least_thrown, mm_isTold_thrown, mm_gates_thrown, mm_minutes_thrown, mm_hand_thrown, mm_hasFailed_thrown, mm_crew_thrown, mm_ships_thrown, mm_comes_thrown, mm_takes_thrown, mm_trace_thrown, mm_traced_thrown, uSh_thrown, uSea_thrown, uGa_thrown, uSp_thrown, uTr_thrown]
    exact h
  rcases ixm a1 (z_gn g) (by omega) with c | ⟨j, hj, rfl, c⟩
  · simp only [q_at_no h2 c, true_implies]
    refine ⟨?_, fun k e => by cases e⟩
    unfold vM_ask
    simp only [q_isGate (m := sm_thrown m 0) h3, if_neg c, true_implies, not_true_eq_false, not_false_eq_true, false_implies, and_true, true_and, i10, i00]
    exact hR
  simp only [q_at_yes h2 h1 hj (by rw [h4, if_pos hj]) c]
  refine ⟨(fun e => by cases e), fun k e => ?_⟩
  cases e
  by_cases c2 : 0 ≤ a2 ∧ a2 ≤ 1
  rotate_left
  · simp only [q_within, if_neg c2, true_implies, not_true_eq_false, not_false_eq_true, false_implies, and_true, true_and, i10, i00]
    unfold vM_ask
    simp only [q_isGate (m := sm_thrown m 0) h3, if_pos c, q_in0 1 1 rfl, n1, if_neg c2, true_implies, not_true_eq_false, not_false_eq_true, false_implies, and_true, true_and, i10, i00]
    exact hR
  obtain ⟨a, b, q1, q2, q3, q4, q5, q6, q7, q8, q9, q10⟩ := h5 j hj
  simp only [q_within, if_pos c2, true_implies, not_true_eq_false, not_false_eq_true, false_implies, and_true, true_and, i10, i00]
  have h0 : R (sz_tlen g 0) (sm_traced (sm_thrown m 0) 0) := by
    simp only [R, zz_finding_tlen, zz_items_tlen, zz_lanes_tlen, zz_sizes_tlen, zz_weights_tlen, zz_levels_tlen, zz_heads_tlen, zz_ssize_tlen, zz_rules_tlen, zz_rivers_tlen, zz_orders_tlen, zz_now_tlen, zz_then_tlen, zz_loss_tlen, zz_stale_tlen, zz_ga_tlen, zz_free_tlen, zz_rsize_tlen, zz_fmin_tlen, zz_fpass_tlen, zz_inTurn_tlen, zz_fsize_tlen, zz_numbers_tlen, zz_tlen_tlen, zz_gk_tlen, zz_gm_tlen, zz_gh_tlen, zz_gf_tlen, zz_gn_tlen, vSh_tlen, vSea_tlen, vGa_tlen, vSp_tlen, vTr_tlen, mm_thrown_traced, mm_status_traced, mm_rule_traced, mm_river_traced, mm_lane_traced, mm_many_traced, mm_item_traced, mm_worlds_traced, mm_weight_traced, mm_sea_traced, mm_least_traced, mm_isTold_traced, mm_gates_traced, mm_minutes_traced, mm_hand_traced, mm_hasFailed_traced, mm_crew_traced, mm_ships_traced, mm_comes_traced, mm_takes_traced, mm_trace_traced, mm_traced_traced, uSh_traced, uSea_traced, uGa_traced, uSp_traced, uTr_traced, mm_thrown_thrown, mm_status_thrown, mm_rule_thrown, mm_river_thrown, mm_lane_thrown, mm_many_thrown, mm_item_thrown, mm_worlds_thrown, mm_weight_thrown, mm_sea_thrown, mm_least_thrown, mm_isTold_thrown, mm_gates_thrown, mm_minutes_thrown, mm_hand_thrown, mm_hasFailed_thrown, mm_crew_thrown, mm_ships_thrown, mm_comes_thrown, mm_takes_thrown, mm_trace_thrown, mm_traced_thrown, uSh_thrown, uSea_thrown, uGa_thrown, uSp_thrown, uTr_thrown]
    exact ⟨h.1, h.2.1, h.2.2.1, h.2.2.2.1, h.2.2.2.2.1, 0, by omega, rfl, rfl, fun j hj => absurd hj (Nat.not_lt_zero j)⟩
  have hk := kd_le (nI a) (nI b)
  generalize hg0 : sz_tlen g 0 = g0 at h0 ⊢
  generalize hm0 : sm_traced (sm_thrown m 0) 0 = m0 at h0
  have z1 : z_gn g0 = z_gn g := by rw [← hg0]; rfl
  have z2 : z_gm g0 j = nI a := by rw [← hg0]; exact q4
  have z3 : z_gh g0 j = nI b := by rw [← hg0]; exact q6
  have z4 : z_gf g0 j = z_gf g j := by rw [← hg0]; rfl
  have z5 : z_gk g0 j = kd (nI a) (nI b) := by rw [← hg0]; exact q8
  have w2 : m_minutes m0 j = nI a := by rw [← hm0]; exact q5
  have w3 : m_hand m0 j = nI b := by rw [← hm0]; exact q7
  have w4 : m_hasFailed m0 j = z_gf g j := by rw [← hm0]; exact q9.symm
  have hk0 : j < z_gn g0 := by rw [z1]; exact hj
  have hMc : ∀ post : Int32 → GM → Prop, a2 = 0 → vM_cost m0 (nI j) post → vM_ask m (nI j) a2 post := by
    intro post e hp
    unfold vM_ask
    simp only [q_isGate (m := sm_thrown m 0) h3, if_pos c, q_in0 1 1 rfl, n1, if_pos c2, true_implies, not_true_eq_false, not_false_eq_true, false_implies, and_true, true_and, i10, i00, hm0, eq_true e]
    exact hp
  have hMm : ∀ post : Int32 → GM → Prop, ¬ a2 = 0 → vM_marked m0 (nI j) post → vM_ask m (nI j) a2 post := by
    intro post e hp
    unfold vM_ask
    simp only [q_isGate (m := sm_thrown m 0) h3, if_pos c, q_in0 1 1 rfl, n1, if_pos c2, true_implies, not_true_eq_false, not_false_eq_true, false_implies, and_true, true_and, i10, i00, hm0, eq_false e]
    exact hp
  have hlM := h0.lenM
  have hlS := h0.lenS
  have ekM : kd (m_minutes m0 j) (m_hand m0 j) = kd (nI a) (nI b) := by rw [w2, w3]
  have hzS : jz (z_gf g0 j) := by rw [z4]; exact q10
  have hzM : jz (m_hasFailed m0 j) := by rw [w4]; exact q10
  rw [q8]
  generalize kd (nI a) (nI b) = t at hk z5 ekM ⊢
  have hj6 : j < 6 := by omega
  refine ⟨fun e0 => ⟨hj, hk, ?_, ?_, ?_, ?_⟩, fun e0 => ⟨hj, hk, ?_, ?_, ?_, ?_⟩⟩
  · intro e
    subst e
    refine q_Gmark hk0 hzS hlS (hMm _ e0 (q_M_marked hj6 hzM hlM (Or.inl rfl) ekM ⟨?_, ?_⟩))
    · unfold maV
      rw [if_pos rfl, z4, w4]
    · unfold maM
      rw [if_pos rfl]
      exact R_tr h0 _
  · intro e
    subst e
    refine q_Hmark hk0 hzS hlS (Or.inl rfl) z5 (hMm _ e0 (q_M_marked hj6 hzM hlM (Or.inr (Or.inl rfl)) ekM ⟨?_, ?_⟩))
    · unfold maV
      rw [if_neg (by decide), if_neg (by decide), z4, w4, z2, z3, w2, w3]
    · unfold maM
      rw [if_neg (by decide), if_neg (by decide)]
      exact R_co (R_tr (R_tr h0 _) _) _
  · intro e
    subst e
    refine q_Hmark hk0 hzS hlS (Or.inr rfl) z5 (hMm _ e0 (q_M_marked hj6 hzM hlM (Or.inr (Or.inr (Or.inl rfl))) ekM ⟨?_, ?_⟩))
    · unfold maV
      rw [if_neg (by decide), if_neg (by decide), z4, w4, z2, z3, w2, w3]
    · unfold maM
      rw [if_neg (by decide), if_neg (by decide)]
      exact R_co (R_tr (R_tr h0 _) _) _
  · intro e
    subst e
    refine q_Smark hk0 hzS hlS z5 (hMm _ e0 (q_M_marked hj6 hzM hlM (Or.inr (Or.inr (Or.inr rfl))) ekM ⟨?_, ?_⟩))
    · unfold maV
      rw [if_neg (by decide), if_pos rfl, z4, w4, z2, z3, w2, w3]
    · unfold maM
      rw [if_neg (by decide), if_pos rfl]
      exact R_co (R_tr (R_tr h0 _) _) _
  · intro e
    subst e
    refine q_Gcost hk0 hlS (hMc _ e0 (q_M_cost hj6 hlM (Or.inl rfl) ekM ⟨?_, ?_⟩))
    · rw [coV_0, z2, w2]
    · rw [coM_0]
      exact R_tr h0 _
  · intro e
    subst e
    refine q_Hcost hk0 hlS (hMc _ e0 (q_M_cost hj6 hlM (Or.inr (Or.inl rfl)) ekM ⟨?_, ?_⟩))
    · rw [coV_1, z2, w2, z3, w3]
    · rw [coM_1]
      exact R_tr (R_tr h0 _) _
  · intro e
    subst e
    refine q_Tcost hk0 hlS (hMc _ e0 (q_M_cost hj6 hlM (Or.inr (Or.inr (Or.inl rfl))) ekM ⟨?_, ?_⟩))
    · rw [coV_2, z2, w2, z3, w3]
    · rw [coM_2]
      exact R_tr (R_tr (R_tr h0 _) _) _
  · intro e
    subst e
    refine q_Scost hk0 hlS (hMc _ e0 (q_M_cost hj6 hlM (Or.inr (Or.inr (Or.inr rfl))) ekM ⟨?_, ?_⟩))
    · rw [coV_3, z2, w2]
    · rw [coM_3]
      exact R_tr (R_tr h0 _) _
