theorem sim_hour {g : GS} {m : GM} (h : R g m) (a1 a2 a3 : Int32) : vSG_hour g a1 a2 a3 (fun r g' => vM_hour m a1 a2 a3 (fun r' m' => r = r' ∧ R g' m')) := by
  have hth : ∀ g', R g' m → R g' (sm_thrown m 0) := fun g' h' => by
    simp only [R, mm_thrown_thrown, mm_status_thrown, mm_rule_thrown, mm_river_thrown, mm_lane_thrown, mm_many_thrown, mm_item_thrown, mm_worlds_thrown, mm_weight_thrown, mm_sea_thrown, mm_least_thrown, mm_isTold_thrown, mm_gates_thrown, mm_minutes_thrown, mm_hand_thrown, mm_hasFailed_thrown, mm_crew_thrown, mm_ships_thrown, mm_comes_thrown, mm_takes_thrown, mm_trace_thrown, mm_traced_thrown, uSh_thrown, uSea_thrown, uGa_thrown, uSp_thrown, uTr_thrown]
    exact h'
  obtain ⟨n, hS0, ew⟩ := h.seaS
  have hn := hS0.1
  have en := hS0.2.1
  unfold vSG_hour
  by_cases c1 : 0 ≤ a1 ∧ a1 ≤ nI n - 1
  rotate_left
  · simp only [q_within, en, if_neg c1, true_implies, not_true_eq_false, not_false_eq_true, false_implies, and_true, true_and, i10, i00]
    unfold vM_hour
    simp only [ew, q_in00, if_neg c1, true_implies, not_true_eq_false, not_false_eq_true, false_implies, and_true, true_and, i10, i00]
    exact hth g h
  by_cases c2 : 0 ≤ a2 ∧ a2 ≤ 7
  rotate_left
  · simp only [q_within, en, if_pos c1, if_neg c2, true_implies, not_true_eq_false, not_false_eq_true, false_implies, and_true, true_and, i10, i00]
    unfold vM_hour
    simp only [ew, q_in00, if_pos c1, q_in0 7 7 rfl, n7, if_neg c2, true_implies, not_true_eq_false, not_false_eq_true, false_implies, and_true, true_and, i10, i00]
    exact hth g h
  simp only [q_within, en, if_pos c1, if_pos c2, true_implies, not_true_eq_false, not_false_eq_true, false_implies, and_true, true_and, i10, i00]
  have hn0 : 1 ≤ n := by
    rcases Nat.eq_zero_or_pos n with e | e
    · rw [e] at c1
      exact absurd (Int32.le_trans c1.1 c1.2) (by decide)
    · exact e
  obtain ⟨w, hw, rfl⟩ : ∃ w, w < n ∧ a1 = nI w := by
    obtain ⟨w, hw, e⟩ := nI_of2 (x := a1) (M := nI (n - 1)) (n := n - 1) (nI_toInt (by omega)) (Int32.not_lt.mpr c1.1) (by
      have := c1.2
      rw [show nI n - 1 = nI (n - 1) from pk_sub (b := 1) hn0] at this
      exact this)
    exact ⟨w, by omega, e⟩
  obtain ⟨a, ha, rfl⟩ := nI_of2 (x := a2) (M := 7) (n := 7) (by decide) (Int32.not_lt.mpr c2.1) c2.2
  refine q_refresh h (fun g' h' hst' => ?_)
  obtain ⟨n', hS, ew'⟩ := h'.seaS
  have e : n = n' := nI_inj (by omega) (by have := hS.1; omega) (ew.symm.trans ew')
  subst e
  have hR := hth g' h'
  obtain ⟨a0, b0, hB⟩ := h'.seaB hS.2.1 hS.1
  have hSM := hR.seaM hS.2.1 hS.1
  have hrule0 := hB.2.2.2.1
  have hrule1 := hB.2.2.2.2.1
  have ha0 := hB.2.2.2.2.2.1
  have ha1 := hB.2.2.2.2.2.2
  have en' : (z_ssize g').toNatClampNeg = n := by
    rw [hS.2.1]
    exact nI_clamp (by omega)
  have ho := (h'.pl.2 hst').2
  rw [en'] at ho
  generalize hTd : (fun h st => tol n (z_weights g') (z_levels g') (z_rules g') (z_rivers g') h (grp (z_levels g') w h) st) = T
  have hTv : ∀ h st, T h st = tol n (z_weights g') (z_levels g') (z_rules g') (z_rivers g') h (grp (z_levels g') w h) st := fun h st => by rw [← hTd]
  have hmay : ∀ h st, T h st = true → may st = true := fun h st q => by
    rw [hTv] at q
    unfold tol tolB at q
    exact (Bool.and_eq_true_iff.mp q).1
  have hT : ∀ h st, h < 8 → st < 7 + h → (((z_orders g' h (grp (z_levels g') w h)) >>> (nI st &&& 31)) &&& 1 = 1 ↔ T h st = true) := fun h st hh hs => by
    rw [hTv]
    exact ho h _ hh (by have := grp_le (z_levels g') w h; omega) (grp_idem _ _ _) st hs
  obtain ⟨o1, o2⟩ := hst_ok (T := T) ha0 ha1 a
  have hlt := stn_lt (told := T a (hst a0 b0 T a)) ha0 ha1 o2
  -- the reference
  have hM : ∀ r : Int32, (0 ≤ a3 ∧ a3 ≤ 3) → r = hAns (z_levels g') (z_rules g') (z_rivers g') a0 b0 w a (hst a0 b0 T a) (T a (hst a0 b0 T a)) a3 → vM_hour m (nI w) (nI a) a3 (fun r' m' => r = r' ∧ R g' m') := by
    intro r c3 hr
    unfold vM_hour
    simp only [ew, q_in00, if_pos c1, q_in0 7 7 rfl, n7, if_pos c2, q_in0 3 3 rfl, show nI 3 = (3 : Int32) from rfl, if_pos c3, true_implies, not_true_eq_false, not_false_eq_true, false_implies, and_true, true_and, i10, i00]
    refine q_findBest hSM hB (fun le it hok => ⟨a + 1, ?_⟩)
    have hT2 : ∀ h st, h < 8 → gd st → st < 7 + h → m_isTold (mq (sm_thrown m 0) le it) (128 * h + 16 * grp (z_levels g') w h + mst st) = bI (T h st) ∧ (T h st = true → may st = true) := fun h st hh hg hs => by
      refine ⟨?_, hmay h st⟩
      rw [mq_isTold, hTv]
      exact (hok h _ st hh (by have := grp_le (z_levels g') w h; omega) (grp_idem _ _ _) hg hs).2
    have hT3 := hT2 a _ (by omega) o1 o2
    exact lp_M_hour (mq_SeaM hSM le it) hB hw (by omega) hT2 (q_M_hour105 (mq_SeaM hSM le it) hB hw (by omega) o1 o2 hT3.1 hT3.2 ⟨hr, R_mq hR le it⟩) a 0 (by omega)
  -- the class
  unfold vPlan_stateAt
  refine ⟨a + 1, lp_stateAt hS hrule0 hrule1 ha0 ha1 hw (by omega) hT (q_tells hS hw (by omega) o2 (hT a _ (by omega) o2) ⟨fun c => ?_, fun c => ?_, fun c => ?_, fun c => ?_, fun c => ?_⟩) a 0 (by omega)⟩
  · have c3 : ¬ (0 ≤ a3 ∧ a3 ≤ 3) := fun z => by
      obtain ⟨j, hj, e⟩ := nI_of2 (x := a3) (M := 3) (n := 3) (by decide) (Int32.not_lt.mpr z.1) z.2
      exact c j (Nat.zero_le j) hj e
    unfold vM_hour
    simp only [ew, q_in00, if_pos c1, q_in0 7 7 rfl, n7, if_pos c2, q_in0 3 3 rfl, show nI 3 = (3 : Int32) from rfl, if_neg c3, true_implies, not_true_eq_false, not_false_eq_true, false_implies, and_true, true_and, i10, i00]
    exact hR
  · subst c
    unfold vBarrier_order
    rw [show (nI (hst a0 b0 T a) = 0) = (hst a0 b0 T a = 0) from nIk 0 (by omega) (by decide)]
    have hM := fun r hr => hM r (by decide) hr
    unfold hAns at hM
    rw [if_pos (show nI 0 = (0 : Int32) from rfl)] at hM
    cases ct : T a (hst a0 b0 T a) with
    | true =>
      rw [ct, if_pos rfl] at hM
      exact ⟨fun _ => ⟨fun q => hM 2 (by rw [if_neg q]), fun q => hM 1 (by rw [if_pos q])⟩, fun q => absurd q (by decide)⟩
    | false =>
      rw [ct] at hM
      exact ⟨fun q => absurd rfl q, fun _ => hM 0 (by rw [if_neg (by decide)])⟩
  · subst c
    refine q_stands hrule0 hrule1 (by omega) (q_how (by omega) (hM _ (by decide) ?_))
    unfold hAns
    rw [if_neg (by decide), if_pos (show nI 1 = (1 : Int32) from rfl)]
  · subst c
    refine q_stands hrule0 hrule1 (by omega) (q_water (by omega) (by omega) (Or.inl hlt) (hM _ (by decide) ?_))
    unfold hAns
    rw [if_neg (by decide), if_neg (by decide), if_pos (show nI 2 = (2 : Int32) from rfl)]
  · subst c
    refine q_lost hrule0 hrule1 ha0 ha1 (by omega) (by omega) o2 (hM _ (by decide) ?_)
    unfold hAns
    rw [if_neg (by decide), if_neg (by decide), if_neg (by decide)]
