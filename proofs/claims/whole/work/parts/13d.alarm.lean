/-! ===== alarm ===== -/
def abv (n : Nat) (L : Nat → Nat → Int32) (b : Int32) (h : Nat) : Prop := ∃ w, w < n ∧ ¬ L w h ≤ b
def fab (n : Nat) (L : Nat → Nat → Int32) (b : Int32) (v : Nat) : Prop := v ≤ 8 ∧ (∀ h, h < v → ¬ abv n L b h) ∧ (v = 8 ∨ abv n L b v)
theorem fab_uniq {n : Nat} {L : Nat → Nat → Int32} {b : Int32} {u v : Nat} (hu : fab n L b u) (hv : fab n L b v) : u = v := by
  obtain ⟨a1, a2, a3⟩ := hu
  obtain ⟨b1, b2, b3⟩ := hv
  rcases Nat.lt_trichotomy u v with e | e | e
  · rcases a3 with a3 | a3
    · omega
    · exact absurd a3 (b2 u e)
  · exact e
  · rcases b3 with b3 | b3
    · omega
    · exact absurd b3 (a2 v e)
theorem lp_fa10 {post : Int32 → GS → Prop} {K : Int32 → Int32 → GS → Prop} {g : GS} {n k : Nat} {b : Int32} (hn : n ≤ 8) (hk : k < 8) (en : z_ssize g = nI n) (hyes : abv n (z_levels g) b k → post (nI k) g) (hno : ¬ abv n (z_levels g) b k → K b (nI (k + 1)) g) : ∀ d j : Nat, j + d = n → (∀ w, w < j → z_levels g w k ≤ b) → vSea_firstAbove_10 post K (d + 1) b (nI k) (nI j) g := by
  intro d
  induction d with
  | zero =>
    intro j hj hw
    have e : j = n := by omega
    subst e
    unfold vSea_firstAbove_10 vSea_firstAbove_38
    rw [en, nI_1]
    exact ⟨fun _ => hno (fun ⟨w, h1, h2⟩ => h2 (hw w h1)), fun q => absurd (nI_le (Nat.le_refl j) (by omega)) q⟩
  | succ d ih =>
    intro j hj hw
    unfold vSea_firstAbove_10
    rw [en, nI_1, nI_clamp (show k < 2 ^ 31 by omega), nI_clamp (show j < 2 ^ 31 by omega)]
    refine ⟨fun q => absurd q (nI_ge (show j < n by omega) (by omega)), fun _ => ⟨vp_in_nI (by omega) (by decide), vp_in_nI hk (by decide), fun q => ih (j + 1) (by omega) (fun w hw2 => ?_), fun q => hyes ⟨j, by omega, q⟩⟩⟩
    rcases Nat.lt_or_ge w j with a | a
    · exact hw w a
    · have e : w = j := by omega
      rw [e]
      exact q
theorem lp_fa2 {post : Int32 → GS → Prop} {g : GS} {n : Nat} {b : Int32} (hn : n ≤ 8) (en : z_ssize g = nI n) (hp : ∀ v, fab n (z_levels g) b v → post (nI v) g) : ∀ d k : Nat, k + d = 8 → (∀ h, h < k → ¬ abv n (z_levels g) b h) → vSea_firstAbove_2 post (d + 1) b (nI k) g := by
  intro d
  induction d with
  | zero =>
    intro k hk hh
    have e : k = 8 := by omega
    subst e
    unfold vSea_firstAbove_2
    exact ⟨fun _ => hp 8 ⟨Nat.le_refl 8, hh, Or.inl rfl⟩, fun q => absurd (show (8 : Int32) ≤ nI 8 by decide) q⟩
  | succ d ih =>
    intro k hk hh
    unfold vSea_firstAbove_2
    refine ⟨fun q => absurd q (nI_ge (show k < 8 by omega) (by decide)), fun _ => ⟨n + 1, lp_fa10 hn (by omega) en (fun q => hp k ⟨by omega, hh, Or.inr q⟩) (fun q => ih (k + 1) (by omega) (fun h hh2 => ?_)) n 0 (by omega) (fun w hw => absurd hw (Nat.not_lt_zero w))⟩⟩
    rcases Nat.lt_or_ge h k with a | a
    · exact hh h a
    · have e : h = k := by omega
      rw [e]
      exact q
theorem lp_M_alarm {post : Int32 → GM → Prop} {m : GM} {n : Nat} (hn : n ≤ 8) (en : m_worlds m = nI n) (hp : ∀ v, v ≤ 8 → (∀ i, i < 8 * n → ¬ m_sea m i ≤ m_rule m 2 → v ≤ i % 8) → (v = 8 ∨ ∃ i, i < 8 * n ∧ ¬ m_sea m i ≤ m_rule m 2 ∧ i % 8 = v) → vM_alarm_59 post (nI v) m) : ∀ d k v : Nat, k + d = 8 * n → v ≤ 8 → (∀ i, i < k → ¬ m_sea m i ≤ m_rule m 2 → v ≤ i % 8) → (v = 8 ∨ ∃ i, i < k ∧ ¬ m_sea m i ≤ m_rule m 2 ∧ i % 8 = v) → vM_alarm_10 post (d + 1) (nI v) (nI k) m := by
  have e8 : (8 : Int32) * nI n = nI (8 * n) := pk_mul 8 n
  intro d
  induction d with
  | zero =>
    intro k v hk hv h1 h2
    have e : k = 8 * n := by omega
    subst e
    unfold vM_alarm_10
    rw [en, e8]
    exact ⟨fun _ => hp v hv h1 h2, fun q => absurd (nI_le (Nat.le_refl _) (by omega)) q⟩
  | succ d ih =>
    intro k v hk hv h1 h2
    unfold vM_alarm_10 vM_alarm_51 vM_alarm_52
    have er : nI k - nI k / 8 * 8 = nI (k % 8) := pk_rem (a := k) (d := 8) (by omega) (by decide) (by decide)
    have hlt : k % 8 < 8 := Nat.mod_lt k (by decide)
    rw [en, e8, nI_1, nI_clamp (show k < 2 ^ 31 by omega), er, nI_leI (a := v) (b := k % 8) (by omega) (by omega)]
    refine ⟨fun q => absurd q (nI_ge (show k < 8 * n by omega) (by omega)), fun _ => ⟨vp_in_nI (by omega) (by decide), fun q => ?_, fun q => ⟨fun q2 => ?_, fun q2 => ?_⟩⟩⟩
    · refine ih (k + 1) v (by omega) hv (fun i hi hi2 => ?_) ?_
      · rcases Nat.lt_or_ge i k with a | a
        · exact h1 i a hi2
        · have e : i = k := by omega
          rw [e] at hi2
          exact absurd q hi2
      · rcases h2 with h2 | ⟨i, a1, a2, a3⟩
        · exact Or.inl h2
        · exact Or.inr ⟨i, by omega, a2, a3⟩
    · refine ih (k + 1) v (by omega) hv (fun i hi hi2 => ?_) ?_
      · rcases Nat.lt_or_ge i k with a | a
        · exact h1 i a hi2
        · have e : i = k := by omega
          rw [e]
          exact q2
      · rcases h2 with h2 | ⟨i, a1, a2, a3⟩
        · exact Or.inl h2
        · exact Or.inr ⟨i, by omega, a2, a3⟩
    · refine ih (k + 1) (k % 8) (by omega) (by omega) (fun i hi hi2 => ?_) (Or.inr ⟨k, by omega, q, rfl⟩)
      rcases Nat.lt_or_ge i k with a | a
      · have := h1 i a hi2
        omega
      · have e : i = k := by omega
        rw [e]
        exact Nat.le_refl _
theorem sim_alarm {g : GS} {m : GM} (h : R g m) : vSG_alarm g (fun r g' => vM_alarm m (fun r' m' => r = r' ∧ R g' m')) := by
  have hR : R g (sm_thrown m 0) := by
    simp only [R, mm_thrown_thrown, mm_status_thrown, mm_rule_thrown, mm_river_thrown, mm_lane_thrown, mm_many_thrown, mm_item_thrown, mm_worlds_thrown, mm_weight_thrown, mm_sea_thrown, mm_least_thrown, mm_isTold_thrown, mm_gates_thrown, mm_minutes_thrown, mm_hand_thrown, mm_hasFailed_thrown, mm_crew_thrown, mm_ships_thrown, mm_comes_thrown, mm_takes_thrown, mm_trace_thrown, mm_traced_thrown, uSh_thrown, uSea_thrown, uGa_thrown, uSp_thrown, uTr_thrown]
    exact h
  obtain ⟨n, hn, en1, en2, hwt, hlv, hhd⟩ := h.wo
  obtain ⟨hr, -⟩ := h.ru
  obtain ⟨a, ha, ha1, ra1, ra2⟩ := hr 0 (by decide)
  obtain ⟨b, hb, -, rb1, rb2⟩ := hr 2 (by decide)
  have ha1 := ha1 (by decide)
  have hlev := h.lev en1 hn
  unfold vSG_alarm vSea_firstAbove
  refine ⟨9, lp_fa2 hn en1 (fun v hv => ?_) 8 0 (by omega) (fun j hj => absurd hj (Nat.not_lt_zero j))⟩
  have hM : ∀ (r : Int32), vM_alarm_59 (fun r' m' => r = r' ∧ R g m') (nI v) (sm_thrown m 0) → vM_alarm m (fun r' m' => r = r' ∧ R g m') := by
    intro r hq
    unfold vM_alarm
    refine ⟨8 * n + 1, lp_M_alarm (m := sm_thrown m 0) hn en2 (fun u hu h1 h2 => ?_) (8 * n) 0 8 (by omega) (by omega) (fun j hj => absurd hj (Nat.not_lt_zero j)) (Or.inl rfl)⟩
    simp only [mm_thrown_thrown, mm_status_thrown, mm_rule_thrown, mm_river_thrown, mm_lane_thrown, mm_many_thrown, mm_item_thrown, mm_worlds_thrown, mm_weight_thrown, mm_sea_thrown, mm_least_thrown, mm_isTold_thrown, mm_gates_thrown, mm_minutes_thrown, mm_hand_thrown, mm_hasFailed_thrown, mm_crew_thrown, mm_ships_thrown, mm_comes_thrown, mm_takes_thrown, mm_trace_thrown, mm_traced_thrown, uSh_thrown, uSea_thrown, uGa_thrown, uSp_thrown, uTr_thrown] at h1 h2
    have e : v = u := by
      refine fab_uniq hv ⟨hu, fun hh hlt hab => ?_, ?_⟩
      · obtain ⟨w, hw, hw2⟩ := hab
        rw [rb1, ← rb2, ← hlev w hh hw (by omega)] at hw2
        have := h1 (8 * w + hh) (by omega) hw2
        omega
      · rcases h2 with h2 | ⟨i, i1, i2, i3⟩
        · exact Or.inl h2
        · refine Or.inr ⟨i / 8, by omega, ?_⟩
          rw [rb1, ← rb2, ← hlev (i / 8) u (by omega) (by omega), show 8 * (i / 8) + u = i by omega]
          exact i2
    rw [← e]
    exact hq
  have hv8 := hv.1
  have e1 : ((0 : Int32) ≤ nI v - nI a) = (nI a ≤ nI v) := by
    rw [nI_leI (by omega) (by omega)]
    rcases Nat.lt_or_ge v a with q | q
    · have : ∀ v, v < 9 → ∀ a, a < 4 → v < a → ¬ (0 : Int32) ≤ nI v - nI a := by decide
      exact propext ⟨fun z => absurd z (this v (by omega) a (by omega) q), fun z => by omega⟩
    · rw [pk_sub q]
      exact propext ⟨fun _ => q, fun _ => nI_p0 (by omega)⟩
  unfold vM_alarm_59 at hM
  simp only [mm_thrown_thrown, mm_status_thrown, mm_rule_thrown, mm_river_thrown, mm_lane_thrown, mm_many_thrown, mm_item_thrown, mm_worlds_thrown, mm_weight_thrown, mm_sea_thrown, mm_least_thrown, mm_isTold_thrown, mm_gates_thrown, mm_minutes_thrown, mm_hand_thrown, mm_hasFailed_thrown, mm_crew_thrown, mm_ships_thrown, mm_comes_thrown, mm_takes_thrown, mm_trace_thrown, mm_traced_thrown, uSh_thrown, uSea_thrown, uGa_thrown, uSp_thrown, uTr_thrown, ra2] at hM
  rw [ra1, e1]
  refine ⟨fun q => ⟨fun q2 => hM _ ⟨fun _ => ⟨fun _ => ⟨rfl, hR⟩, fun q3 => absurd q2 q3⟩, fun q3 => absurd q3 q⟩, fun q2 => hM _ ⟨fun _ => ⟨fun q3 => absurd q3 q2, fun _ => ⟨rfl, hR⟩⟩, fun q3 => absurd q3 q⟩⟩, fun q => hM _ ⟨fun q3 => absurd q q3, fun _ => ⟨rfl, hR⟩⟩⟩
