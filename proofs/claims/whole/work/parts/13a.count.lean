/-! ===== count, groups, alarm ===== -/
def acc (p : Nat → Bool) : Nat → Int32
  | 0 => 0
  | k + 1 => acc p k + (if p k = true then 1 else 0)
theorem acc_cong {p q : Nat → Bool} : ∀ {k : Nat}, (∀ j, j < k → p j = q j) → acc p k = acc q k
  | 0, _ => rfl
  | k + 1, h => by
    unfold acc
    rw [acc_cong (fun j hj => h j (by omega)), h k (by omega)]
theorem acc_more {p : Nat → Bool} {n : Nat} : ∀ d : Nat, (∀ j, n ≤ j → j < n + d → p j = false) → acc p (n + d) = acc p n
  | 0, _ => rfl
  | d + 1, h => by
    show acc p (n + d) + (if p (n + d) = true then 1 else 0) = acc p n
    rw [h (n + d) (by omega) (by omega), if_neg (by decide), Int32.add_zero]
    exact acc_more d (fun j h1 h2 => h j h1 (by omega))
theorem lp_present {post : Int32 → GS → Prop} {g : GS} {p : Nat → Bool} (hp0 : ∀ s, s < 8 → (p s = true ↔ ¬ z_sizes g s = -1)) (hp : post (acc p 8) g) : ∀ d k : Nat, k + d = 8 → vSheets_present_4 post (d + 1) (acc p k) (nI k) g := by
  intro d
  induction d with
  | zero =>
    intro k hk
    have e : k = 8 := by omega
    subst e
    unfold vSheets_present_4
    exact ⟨fun _ => hp, fun c => absurd (show (8 : Int32) ≤ nI 8 by decide) c⟩
  | succ d ih =>
    intro k hk
    unfold vSheets_present_4 vSheets_present_21
    rw [q_isMissing (show k < 8 by omega), nI_1]
    have ih := ih (k + 1) (by omega)
    unfold acc at ih
    refine ⟨fun c => absurd c (nI_ge (show k < 8 by omega) (by decide)), fun _ => ?_⟩
    by_cases c : z_sizes g k = -1
    · rw [if_pos c]
      have e : ¬ p k = true := fun q => (hp0 k (by omega)).mp q c
      rw [if_neg e, Int32.add_zero] at ih
      exact ⟨fun _ => ih, fun q => absurd q (by decide)⟩
    · rw [if_neg c]
      rw [if_pos ((hp0 k (by omega)).mpr c)] at ih
      exact ⟨fun q => absurd rfl q, fun _ => ih⟩
theorem lp_M_count50 {post : Int32 → GM → Prop} {m : GM} {p : Nat → Bool} (hp0 : ∀ s, s < 8 → (p s = true ↔ ¬ m_lane m s < 0)) (hp : post (acc p 8) m) : ∀ d k : Nat, k + d = 8 → vM_count_50 post (d + 1) (acc p k) (nI k) m := by
  intro d
  induction d with
  | zero =>
    intro k hk
    have e : k = 8 := by omega
    subst e
    unfold vM_count_50
    exact ⟨fun _ => hp, fun c => absurd (show (8 : Int32) ≤ nI 8 by decide) c⟩
  | succ d ih =>
    intro k hk
    unfold vM_count_50 vM_count_71
    rw [nI_clamp (show k < 2 ^ 31 by omega), nI_1]
    have ih := ih (k + 1) (by omega)
    unfold acc at ih
    refine ⟨fun c => absurd c (nI_ge (show k < 8 by omega) (by decide)), fun _ => ⟨vp_in_nI (by omega) (by decide), fun c => ?_, fun c => ?_⟩⟩
    · rw [if_neg (fun q => (hp0 k (by omega)).mp q c)] at ih
      exact ih
    · rw [if_pos ((hp0 k (by omega)).mpr c)] at ih
      exact ih
def wsum (f : Nat → Int32) : Nat → Int32
  | 0 => 0
  | k + 1 => wsum f k + f k
theorem wsum_cong {f g : Nat → Int32} : ∀ {k : Nat}, (∀ j, j < k → f j = g j) → wsum f k = wsum g k
  | 0, _ => rfl
  | k + 1, h => by
    unfold wsum
    rw [wsum_cong (fun j hj => h j (by omega)), h k (by omega)]
theorem lp_allWeights {post : Int32 → GS → Prop} {g : GS} {n : Nat} (hn : n ≤ 8) (en : z_ssize g = nI n) (hp : post (wsum (z_weights g) n) g) : ∀ d k : Nat, k + d = n → vSea_allWeights_4 post (d + 1) (wsum (z_weights g) k) (nI k) g := by
  intro d
  induction d with
  | zero =>
    intro k hk
    have e : k = n := by omega
    subst e
    unfold vSea_allWeights_4
    rw [en]
    exact ⟨fun _ => hp, fun c => absurd (nI_le (Nat.le_refl k) (by omega)) c⟩
  | succ d ih =>
    intro k hk
    unfold vSea_allWeights_4
    rw [en, nI_clamp (show k < 2 ^ 31 by omega), nI_1]
    exact ⟨fun c => absurd c (nI_ge (show k < n by omega) (by omega)), fun _ => ⟨vp_in_nI (by omega) (by decide), ih (k + 1) (by omega)⟩⟩
theorem lp_M_count88 {post : Int32 → GM → Prop} {m : GM} {n : Nat} (hn : n ≤ 8) (en : m_worlds m = nI n) (hp : post (wsum (m_weight m) n) m) : ∀ d k : Nat, k + d = n → vM_count_88 post (d + 1) (wsum (m_weight m) k) (nI k) m := by
  intro d
  induction d with
  | zero =>
    intro k hk
    have e : k = n := by omega
    subst e
    unfold vM_count_88
    rw [en]
    exact ⟨fun _ => hp, fun c => absurd (nI_le (Nat.le_refl k) (by omega)) c⟩
  | succ d ih =>
    intro k hk
    unfold vM_count_88
    rw [en, nI_clamp (show k < 2 ^ 31 by omega), nI_1]
    exact ⟨fun c => absurd c (nI_ge (show k < n by omega) (by omega)), fun _ => ⟨vp_in_nI (by omega) (by decide), ih (k + 1) (by omega)⟩⟩
/-- which gates have failed -/
def fp (f : Nat → Int32) (n : Nat) : Nat → Bool := fun j => decide (j < n ∧ ¬ f j = 0)
theorem lp_failedOnes {post : Int32 → GS → Prop} {g : GS} {n : Nat} (hn : n ≤ 6) (en : z_gn g = n) (hga : ∀ j, z_ga g j = if j < n then some j else none) (hp : post (acc (fp (z_gf g) n) 6) g) : ∀ d k : Nat, k + d = 6 → vRow_failedOnes_13 post (d + 1) (acc (fp (z_gf g) n) k) 6 (nI k) g := by
  intro d
  induction d with
  | zero =>
    intro k hk
    have e : k = 6 := by omega
    subst e
    unfold vRow_failedOnes_13
    exact ⟨fun _ => hp, fun c => absurd (show (6 : Int32) ≤ nI 6 by decide) c⟩
  | succ d ih =>
    intro k hk
    unfold vRow_failedOnes_13 vRow_failedOnes_41
    rw [nI_clamp (show k < 2 ^ 31 by omega), nI_1, hga]
    have ih := ih (k + 1) (by omega)
    unfold acc at ih
    refine ⟨fun c => absurd c (nI_ge (show k < 6 by omega) (by decide)), fun _ => ⟨vp_in_nI (by omega) (by decide), fun c => ?_, fun j c => ?_⟩⟩
    · have e : ¬ fp (z_gf g) n k = true := by
        unfold fp
        rw [decide_eq_true_eq]
        intro q
        rw [if_pos q.1] at c
        cases c
      rw [if_neg e, Int32.add_zero] at ih
      exact ih
    · by_cases q : k < n
      · rw [if_pos q] at c
        cases c
        refine ⟨by omega, fun c1 => ?_, fun c1 => ?_⟩
        · have e : ¬ fp (z_gf g) n k = true := by
            unfold fp
            rw [decide_eq_true_eq]
            exact fun z => z.2 c1
          rw [if_neg e, Int32.add_zero] at ih
          exact ih
        · have e : fp (z_gf g) n k = true := by
            unfold fp
            rw [decide_eq_true_eq]
            exact ⟨q, c1⟩
          rw [if_pos e] at ih
          exact ih
      · rw [if_neg q] at c
        cases c
theorem lp_M_count120 {post : Int32 → GM → Prop} {m : GM} {n : Nat} (hn : n ≤ 6) (en : m_gates m = nI n) (hp : post (acc (fp (m_hasFailed m) n) n) m) : ∀ d k : Nat, k + d = n → vM_count_120 post (d + 1) (acc (fp (m_hasFailed m) n) k) (nI k) m := by
  intro d
  induction d with
  | zero =>
    intro k hk
    have e : k = n := by omega
    subst e
    unfold vM_count_120
    rw [en]
    exact ⟨fun _ => hp, fun c => absurd (nI_le (Nat.le_refl k) (by omega)) c⟩
  | succ d ih =>
    intro k hk
    unfold vM_count_120 vM_count_143
    rw [en, nI_clamp (show k < 2 ^ 31 by omega), nI_1]
    have ih := ih (k + 1) (by omega)
    unfold acc at ih
    refine ⟨fun c => absurd c (nI_ge (show k < n by omega) (by omega)), fun _ => ⟨vp_in_nI (by omega) (by decide), fun c1 => ?_, fun c1 => ?_⟩⟩
    · have e : ¬ fp (m_hasFailed m) n k = true := by
        unfold fp
        rw [decide_eq_true_eq]
        exact fun z => z.2 c1
      rw [if_neg e] at ih
      exact ih
    · have e : fp (m_hasFailed m) n k = true := by
        unfold fp
        rw [decide_eq_true_eq]
        exact ⟨by omega, c1⟩
      rw [if_pos e] at ih
      exact ih
theorem sim_count {g : GS} {m : GM} (h : R g m) (a1 : Int32) : vSG_count g a1 (fun r g' => vM_count m a1 (fun r' m' => r = r' ∧ R g' m')) := by
  have hR : R g (sm_thrown m 0) := by
    simp only [R, mm_thrown_thrown, mm_status_thrown, mm_rule_thrown, mm_river_thrown, mm_lane_thrown, mm_many_thrown, mm_item_thrown, mm_worlds_thrown, mm_weight_thrown, mm_sea_thrown, mm_least_thrown, mm_isTold_thrown, mm_gates_thrown, mm_minutes_thrown, mm_hand_thrown, mm_hasFailed_thrown, mm_crew_thrown, mm_ships_thrown, mm_comes_thrown, mm_takes_thrown, mm_trace_thrown, mm_traced_thrown, uSh_thrown, uSea_thrown, uGa_thrown, uSp_thrown, uTr_thrown]
    exact h
  have ne : ∀ {a b : Nat}, a < 6 → b < 6 → ¬ a = b → ¬ nI a = nI b := fun ha hb hc q => hc (nI_inj (by omega) (by omega) q)
  unfold vSG_count
  refine ⟨fun c => ?_, fun c => ?_, fun c => ?_, fun c => ?_, fun c => ?_, fun c => ?_, fun c => ?_⟩
  · unfold vM_count
    exact ⟨fun _ => ⟨rfl, hR⟩, fun q => absurd q (c 0 (by omega) (by omega)), fun q => absurd q (c 1 (by omega) (by omega)), fun q => absurd q (c 2 (by omega) (by omega)), fun q => absurd q (c 3 (by omega) (by omega)), fun q => absurd q (c 4 (by omega) (by omega)), fun q => absurd q (c 5 (by omega) (by omega))⟩
  · subst c
    unfold vSheets_present
    have hp0 : ∀ s, s < 8 → ((fun s => decide (¬ z_sizes g s = -1)) s = true ↔ ¬ z_sizes g s = -1) := fun s _ => decide_eq_true_iff
    refine ⟨9, lp_present hp0 ?_ 8 0 (by omega)⟩
    unfold vM_count
    refine ⟨fun q => absurd rfl (q 0 (by omega) (by omega)), fun _ => ⟨9, ?_⟩, fun q => absurd q (ne (by omega) (by omega) (by omega)), fun q => absurd q (ne (by omega) (by omega) (by omega)), fun q => absurd q (ne (by omega) (by omega) (by omega)), fun q => absurd q (ne (by omega) (by omega) (by omega)), fun q => absurd q (ne (by omega) (by omega) (by omega))⟩
    refine lp_M_count50 (p := fun s => decide (¬ z_sizes g s = -1)) (fun s hs => ?_) ⟨rfl, hR⟩ 8 0 (by omega)
    rw [decide_eq_true_eq]
    show ¬ z_sizes g s = -1 ↔ ¬ m_lane m s < 0
    rcases h.sh.1 s hs with ⟨q1, q2⟩ | ⟨n, l, hn, hl, q1, q2, q3, q4⟩
    · rw [q1, q2]
      exact ⟨fun q => absurd rfl q, fun q => absurd (by decide) q⟩
    · rw [q1, q4]
      exact ⟨fun _ => nI_n0 (by omega), fun _ => nI_nm1 (by omega)⟩
  · subst c
    unfold vM_count
    obtain ⟨n, hn, en1, en2, -⟩ := h.wo
    refine ⟨fun q => absurd rfl (q 1 (by omega) (by omega)), fun q => absurd q (ne (by omega) (by omega) (by omega)), fun _ => ⟨by rw [en1, en2], hR⟩, fun q => absurd q (ne (by omega) (by omega) (by omega)), fun q => absurd q (ne (by omega) (by omega) (by omega)), fun q => absurd q (ne (by omega) (by omega) (by omega)), fun q => absurd q (ne (by omega) (by omega) (by omega))⟩
  · subst c
    obtain ⟨n, hn, en1, en2, hwt, -⟩ := h.wo
    unfold vSea_allWeights
    refine ⟨n + 1, lp_allWeights hn en1 ?_ n 0 (by omega)⟩
    unfold vM_count
    refine ⟨fun q => absurd rfl (q 2 (by omega) (by omega)), fun q => absurd q (ne (by omega) (by omega) (by omega)), fun q => absurd q (ne (by omega) (by omega) (by omega)), fun _ => ⟨n + 1, ?_⟩, fun q => absurd q (ne (by omega) (by omega) (by omega)), fun q => absurd q (ne (by omega) (by omega) (by omega)), fun q => absurd q (ne (by omega) (by omega) (by omega))⟩
    refine lp_M_count88 (m := sm_thrown m 0) hn en2 ⟨wsum_cong (fun j hj => ?_), hR⟩ n 0 (by omega)
    obtain ⟨a, b1, b2, b3, b4⟩ := hwt j hj
    rw [b3]
    exact b4.symm
  · subst c
    unfold vM_count
    obtain ⟨h1, h2, h3, -⟩ := h.ga
    refine ⟨fun q => absurd rfl (q 3 (by omega) (by omega)), fun q => absurd q (ne (by omega) (by omega) (by omega)), fun q => absurd q (ne (by omega) (by omega) (by omega)), fun q => absurd q (ne (by omega) (by omega) (by omega)), fun _ => ⟨by rw [h2, h3], hR⟩, fun q => absurd q (ne (by omega) (by omega) (by omega)), fun q => absurd q (ne (by omega) (by omega) (by omega))⟩
  · subst c
    obtain ⟨h1, h2, h3, h4, h5, h6⟩ := h.ga
    unfold vRow_failedOnes
    refine ⟨7, lp_failedOnes h1 rfl h4 ?_ 6 0 (by omega)⟩
    unfold vM_count
    refine ⟨fun q => absurd rfl (q 4 (by omega) (by omega)), fun q => absurd q (ne (by omega) (by omega) (by omega)), fun q => absurd q (ne (by omega) (by omega) (by omega)), fun q => absurd q (ne (by omega) (by omega) (by omega)), fun q => absurd q (ne (by omega) (by omega) (by omega)), fun _ => ⟨z_gn g + 1, ?_⟩, fun q => absurd q (ne (by omega) (by omega) (by omega))⟩
    refine lp_M_count120 (m := sm_thrown m 0) h1 h3 ⟨?_, hR⟩ (z_gn g) 0 (by omega)
    have e1 : acc (fp (z_gf g) (z_gn g)) (z_gn g + (6 - z_gn g)) = acc (fp (z_gf g) (z_gn g)) (z_gn g) := acc_more (6 - z_gn g) (fun j hj1 hj2 => by
      unfold fp
      rw [decide_eq_false_iff_not]
      omega)
    rw [show z_gn g + (6 - z_gn g) = 6 by omega] at e1
    rw [e1]
    refine acc_cong (fun j hj => ?_)
    obtain ⟨a, b, q1, q2, q3, q4, q5, q6, q7, q8, q9, q10⟩ := h5 j hj
    unfold fp
    rw [q9]
    rfl
  · subst c
    unfold vM_count
    obtain ⟨n, p, a, b, hn, en1, en2, -⟩ := h.sp
    refine ⟨fun q => absurd rfl (q 5 (by omega) (by omega)), fun q => absurd q (ne (by omega) (by omega) (by omega)), fun q => absurd q (ne (by omega) (by omega) (by omega)), fun q => absurd q (ne (by omega) (by omega) (by omega)), fun q => absurd q (ne (by omega) (by omega) (by omega)), fun q => absurd q (ne (by omega) (by omega) (by omega)), fun _ => ⟨by rw [en1, en2], hR⟩⟩
-- groups
theorem lp_groupsAt {post : Int32 → GS → Prop} {g : GS} {n h : Nat} (hn : n ≤ 8) (hh : h < 8) (en : z_ssize g = nI n) (hhd : ∀ w, w < n → z_heads g h w = nI (grp (z_levels g) w h)) (hp : post (acc (fun w => decide (grp (z_levels g) w h = w)) n) g) : ∀ d k : Nat, k + d = n → vSea_groupsAt_4 post (d + 1) (nI h) (acc (fun w => decide (grp (z_levels g) w h = w)) k) (nI k) g := by
  intro d
  induction d with
  | zero =>
    intro k hk
    have e : k = n := by omega
    subst e
    unfold vSea_groupsAt_4
    rw [en]
    exact ⟨fun _ => hp, fun c => absurd (nI_le (Nat.le_refl k) (by omega)) c⟩
  | succ d ih =>
    intro k hk
    unfold vSea_groupsAt_4 vSea_groupsAt_27
    rw [en, nI_clamp (show k < 2 ^ 31 by omega), nI_clamp (show h < 2 ^ 31 by omega), nI_1, hhd k (by omega)]
    have ih := ih (k + 1) (by omega)
    unfold acc at ih
    have hle := (grp_spec (z_levels g) k h).2.1
    refine ⟨fun c => absurd c (nI_ge (show k < n by omega) (by omega)), fun _ => ⟨vp_in_nI hh (by decide), vp_in_nI (by omega) (by decide), fun c => ?_, fun c => ?_⟩⟩
    · rw [if_neg (by rw [decide_eq_true_eq]; intro q; rw [q] at c; exact c rfl), Int32.add_zero] at ih
      exact ih
    · rw [if_pos (by rw [decide_eq_true_eq]; exact nI_inj (by omega) (by omega) c)] at ih
      exact ih
theorem lp_M_groups {post : Int32 → GM → Prop} {m : GM} {L : Nat → Nat → Int32} {n h : Nat} (hn : n ≤ 8) (hh : h < 8) (en : m_worlds m = nI n) (hL : ∀ w k, w < n → k < 8 → m_sea m (8 * w + k) = L w k) (hp : post (acc (fun w => decide (grp L w h = w)) n) m) : ∀ d k : Nat, k + d = n → vM_groups_24 post (d + 1) (nI h) (acc (fun w => decide (grp L w h = w)) k) (nI k) m := by
  intro d
  induction d with
  | zero =>
    intro k hk
    have e : k = n := by omega
    subst e
    unfold vM_groups_24
    rw [en]
    exact ⟨fun _ => hp, fun c => absurd (nI_le (Nat.le_refl k) (by omega)) c⟩
  | succ d ih =>
    intro k hk
    unfold vM_groups_24 vM_groups_48
    rw [en, nI_1]
    have ih := ih (k + 1) (by omega)
    unfold acc at ih
    have hle := (grp_spec L k h).2.1
    refine ⟨fun c => absurd c (nI_ge (show k < n by omega) (by omega)), fun _ => q_groupOf (L := L) (fun u j hu hj => hL u j (by omega) (by omega)) (by omega) hh ⟨fun c => ?_, fun c => ?_⟩⟩
    · rw [if_neg (by rw [decide_eq_true_eq]; intro q; rw [q] at c; exact c rfl)] at ih
      exact ih
    · rw [if_pos (by rw [decide_eq_true_eq]; exact nI_inj (by omega) (by omega) c)] at ih
      exact ih
theorem R.lev {g : GS} {m : GM} (h : R g m) {n : Nat} (en : z_ssize g = nI n) (hn : n ≤ 8) : ∀ w k, w < n → k < 8 → m_sea m (8 * w + k) = z_levels g w k := by
  intro w k hw hk
  obtain ⟨n', hn', en1, en2, hwt, hlv, hhd⟩ := h.wo
  have e : n = n' := nI_inj (by omega) (by omega) (en.symm.trans en1)
  subst e
  obtain ⟨a, b1, b2, b3⟩ := hlv w k hw hk
  rw [b2, b3]
theorem sim_groups {g : GS} {m : GM} (h : R g m) (a1 : Int32) : vSG_groups g a1 (fun r g' => vM_groups m a1 (fun r' m' => r = r' ∧ R g' m')) := by
  have hR : R g (sm_thrown m 0) := by
    simp only [R, mm_thrown_thrown, mm_status_thrown, mm_rule_thrown, mm_river_thrown, mm_lane_thrown, mm_many_thrown, mm_item_thrown, mm_worlds_thrown, mm_weight_thrown, mm_sea_thrown, mm_least_thrown, mm_isTold_thrown, mm_gates_thrown, mm_minutes_thrown, mm_hand_thrown, mm_hasFailed_thrown, mm_crew_thrown, mm_ships_thrown, mm_comes_thrown, mm_takes_thrown, mm_trace_thrown, mm_traced_thrown, uSh_thrown, uSea_thrown, uGa_thrown, uSp_thrown, uTr_thrown]
    exact h
  unfold vSG_groups
  rcases ix8 a1 with h1 | ⟨s, hs, rfl, h1⟩
  · simp only [q_within, if_neg h1, true_implies, not_true_eq_false, not_false_eq_true, false_implies, and_true, true_and, i10, i00]
    unfold vM_groups
    simp only [q_in0 7 7 rfl, n7, if_neg h1, true_implies, not_true_eq_false, not_false_eq_true, false_implies, and_true, true_and, i10, i00]
    exact hR
  · obtain ⟨n, hn, en1, en2, hwt, hlv, hhd⟩ := h.wo
    simp only [q_within, if_pos h1, true_implies, not_true_eq_false, not_false_eq_true, false_implies, and_true, true_and, i10, i00]
    unfold vSea_groupsAt
    refine ⟨n + 1, lp_groupsAt hn hs en1 (fun w hw => hhd s w hs hw) ?_ n 0 (by omega)⟩
    unfold vM_groups
    simp only [q_in0 7 7 rfl, n7, if_pos h1, true_implies, not_true_eq_false, not_false_eq_true, false_implies, and_true, true_and, i10, i00]
    exact ⟨n + 1, lp_M_groups (m := sm_thrown m 0) hn hs en2 (h.lev en1 hn) ⟨rfl, hR⟩ n 0 (by omega)⟩
