/-! ===== time to shut ===== -/
def mx2 (x v : Int32) : Int32 := if x < v then v else x
def pkc (c : Nat → Int32) : Nat → Nat
  | 0 => 0
  | 1 => 0
  | k + 2 => if c (pkc c (k + 1)) ≤ c (k + 1) then pkc c (k + 1) else k + 1
theorem pkc_lt (c : Nat → Int32) : ∀ k, pkc c (k + 1) < k + 1
  | 0 => by unfold pkc; omega
  | k + 1 => by
    unfold pkc
    have := pkc_lt c k
    split <;> omega
theorem pkc_s (c : Nat → Int32) {k : Nat} (hk : 1 ≤ k) : pkc c (k + 1) = if c (pkc c k) ≤ c k then pkc c k else k := by
  obtain ⟨j, rfl⟩ : ∃ j, k = j + 1 := ⟨k - 1, by omega⟩
  rfl
theorem pkc_cong {c c' : Nat → Int32} : ∀ k, (∀ i, i < k + 1 → c i = c' i) → pkc c (k + 1) = pkc c' (k + 1)
  | 0, _ => rfl
  | k + 1, h => by
    have ih := pkc_cong k (fun i hi => h i (by omega))
    have h1 := pkc_lt c k
    have e1 : c (pkc c (k + 1)) = c' (pkc c' (k + 1)) := by rw [h _ (by omega), ih]
    unfold pkc
    rw [e1, h (k + 1) (by omega), ih]
def tF (cr : Nat) (fa mi ha : Nat → Int32) (mo : Nat → Bool) : Nat → Nat → Int32 → (Nat → Int32) → Int32 × (Nat → Int32)
  | 0, _, x, c => (x, c)
  | d + 1, k, x, c => if ¬ fa k = 0 ∨ mo k = true then (if ha k = 0 then (-1000000, c) else tF cr fa mi ha mo d (k + 1) (mx2 x (c (pkc c cr) + ha k)) (upd c (pkc c cr) (c (pkc c cr) + ha k))) else tF cr fa mi ha mo d (k + 1) (mx2 x (mi k)) c
theorem tF_cong {cr : Nat} (hcr : 1 ≤ cr) (hcr3 : cr ≤ 3) {fa mi ha fa' mi' ha' : Nat → Int32} {mo mo' : Nat → Bool} {n : Nat} (hf : ∀ k, k < n → fa k = fa' k ∧ mi k = mi' k ∧ ha k = ha' k ∧ mo k = mo' k) : ∀ (d k : Nat) (x : Int32) (c c' : Nat → Int32), k + d ≤ n → (∀ i, i < 3 → c i = c' i) → (tF cr fa mi ha mo d k x c).1 = (tF cr fa' mi' ha' mo' d k x c').1 := by
  intro d
  induction d with
  | zero =>
    intro k x c c' _ _
    rfl
  | succ d ih =>
    intro k x c c' hk hc
    obtain ⟨e1, e2, e3, e4⟩ := hf k (by omega)
    unfold tF
    rw [e1, e2, e3, e4]
    by_cases q : ¬ fa' k = 0 ∨ mo' k = true
    · rw [if_pos q, if_pos q]
      by_cases q2 : ha' k = 0
      · rw [if_pos q2, if_pos q2]
      · rw [if_neg q2, if_neg q2]
        obtain ⟨j, rfl⟩ : ∃ j, cr = j + 1 := ⟨cr - 1, by omega⟩
        have p1 := pkc_lt c j
        have p2 : pkc c (j + 1) = pkc c' (j + 1) := pkc_cong j (fun i hi => hc i (by omega))
        have p3 : c (pkc c (j + 1)) = c' (pkc c' (j + 1)) := by rw [hc _ (by omega), p2]
        rw [p3]
        refine ih (k + 1) _ _ _ (by omega) (fun i hi => ?_)
        rw [p2]
        by_cases e : i = pkc c' (j + 1)
        · rw [e, pk_us, pk_us]
        · rw [pk_un e, pk_un e]
          exact hc i hi
    · rw [if_neg q, if_neg q]
      exact ih (k + 1) _ _ _ (by omega) hc
theorem mx2_ge (x v : Int32) : x ≤ mx2 x v := by
  unfold mx2
  split
  · rename_i h
    exact Int32.le_of_lt h
  · exact Int32.le_refl x
theorem tF_pos {cr : Nat} {fa mi ha : Nat → Int32} {mo : Nat → Bool} : ∀ (d k : Nat) (x : Int32) (c : Nat → Int32), 0 ≤ x → (tF cr fa mi ha mo d k x c).1 = -1000000 ∨ 0 ≤ (tF cr fa mi ha mo d k x c).1 := by
  intro d
  induction d with
  | zero =>
    intro k x c hx
    exact Or.inr hx
  | succ d ih =>
    intro k x c hx
    unfold tF
    split
    · split
      · exact Or.inl rfl
      · exact ih _ _ _ (Int32.le_trans hx (mx2_ge _ _))
    · exact ih _ _ _ (Int32.le_trans hx (mx2_ge _ _))
-- the class
theorem lp_endByHand {post : Int32 → GS → Prop} {g : GS} {cr : Nat} {hd : Int32} (hcr3 : cr ≤ 3) (hp : vRow_endByHand_36 post hd (nI (pkc (z_free g) cr)) g) : ∀ d k : Nat, 1 ≤ k → k + d = cr → vRow_endByHand_5 post (d + 1) (nI cr) hd (nI (pkc (z_free g) k)) (nI k) g := by
  intro d
  induction d with
  | zero =>
    intro k h1 hk
    have e : k = cr := by omega
    subst e
    unfold vRow_endByHand_5
    exact ⟨fun _ => hp, fun c => absurd (nI_le (Nat.le_refl k) (by omega)) c⟩
  | succ d ih =>
    intro k h1 hk
    have ih := ih (k + 1) (by omega) (by omega)
    have hlt : pkc (z_free g) k < k := by
      obtain ⟨j, rfl⟩ : ∃ j, k = j + 1 := ⟨k - 1, by omega⟩
      exact pkc_lt _ j
    unfold vRow_endByHand_5 vRow_endByHand_30
    rw [nI_clamp (show k < 2 ^ 31 by omega), nI_clamp (show pkc (z_free g) k < 2 ^ 31 by omega), nI_1]
    rw [pkc_s _ h1] at ih
    refine ⟨fun c => absurd c (nI_ge (show k < cr by omega) (by omega)), fun _ => ⟨vp_in_nI (by omega) (by decide), vp_in_nI (by omega) (by decide), fun c => ?_, fun c => ?_⟩⟩
    · rw [if_pos c] at ih
      exact ih
    · rw [if_neg c] at ih
      exact ih
theorem q_endByHand {post : Int32 → GS → Prop} {g : GS} {cr : Nat} {hd : Int32} (hcr : 1 ≤ cr) (hcr3 : cr ≤ 3) (hp : post (z_free g (pkc (z_free g) cr) + hd) (sz_free g (upd (z_free g) (pkc (z_free g) cr) (z_free g (pkc (z_free g) cr) + hd)))) : vRow_endByHand g (nI cr) hd post := by
  unfold vRow_endByHand
  refine ⟨cr, ?_⟩
  obtain ⟨j, rfl⟩ : ∃ j, cr = j + 1 := ⟨cr - 1, by omega⟩
  refine lp_endByHand hcr3 ?_ j 1 (Nat.le_refl 1) (by omega)
  have hlt := pkc_lt (z_free g) j
  unfold vRow_endByHand_36
  rw [nI_clamp (show pkc (z_free g) (j + 1) < 2 ^ 31 by omega), pk_us]
  have hin : vp_in (nI (pkc (z_free g) (j + 1))) 3 := vp_in_nI (by omega) (by decide)
  exact ⟨hin, hin, hin, hp⟩
theorem lp_timeToShut {post : Int32 → GS → Prop} {g : GS} {cr n : Nat} {x2 : Int32} {mo : Nat → Bool} (hcr : 1 ≤ cr) (hcr3 : cr ≤ 3) (hn : n ≤ 6) (en : z_gn g = n) (hga : ∀ j, z_ga g j = if j < n then some j else none) (hmo : ∀ k, k < 6 → (nI k = x2 ↔ mo k = true)) : ∀ (d k : Nat) (x : Int32) (c : Nat → Int32), k + d = 6 → k ≤ n → (∀ c', post (tF cr (z_gf g) (z_gm g) (z_gh g) mo (n - k) k x c).1 (sz_free g c')) → vRow_timeToShut_13 post (d + 1) (nI cr) x2 x (nI k) (sz_free g c) := by
  have tail : ∀ (d k : Nat) (x : Int32) (c : Nat → Int32), k + d = 6 → n ≤ k → (∀ c', post x (sz_free g c')) → vRow_timeToShut_13 post (d + 1) (nI cr) x2 x (nI k) (sz_free g c) := by
    intro d
    induction d with
    | zero =>
      intro k x c hk hkn hp
      have e : k = 6 := by omega
      subst e
      unfold vRow_timeToShut_13
      exact ⟨fun _ => hp c, fun q => absurd (show (6 : Int32) ≤ nI 6 by decide) q⟩
    | succ d ih =>
      intro k x c hk hkn hp
      unfold vRow_timeToShut_13 vRow_timeToShut_88
      simp only [zz_finding_free, zz_items_free, zz_lanes_free, zz_sizes_free, zz_weights_free, zz_levels_free, zz_heads_free, zz_ssize_free, zz_rules_free, zz_rivers_free, zz_orders_free, zz_now_free, zz_then_free, zz_loss_free, zz_stale_free, zz_ga_free, zz_free_free, zz_rsize_free, zz_fmin_free, zz_fpass_free, zz_inTurn_free, zz_fsize_free, zz_numbers_free, zz_tlen_free, zz_gk_free, zz_gm_free, zz_gh_free, zz_gf_free, zz_gn_free, vSh_free, vSea_free, vGa_free, vSp_free, vTr_free]
      rw [nI_clamp (show k < 2 ^ 31 by omega), nI_1, hga, if_neg (by omega)]
      refine ⟨fun q => absurd q (nI_ge (show k < 6 by omega) (by decide)), fun _ => ⟨vp_in_nI (by omega) (by decide), fun _ => ih (k + 1) x c (by omega) (by omega) hp, fun j q => by cases q⟩⟩
  intro d
  induction d with
  | zero =>
    intro k x c hk hkn hp
    exact tail 0 k x c hk (by omega) (by
      have e : n - k = 0 := by omega
      rw [e] at hp
      exact hp)
  | succ d ih =>
    intro k x c hk hkn hp
    by_cases hk2 : n ≤ k
    · refine tail (d + 1) k x c hk hk2 (by
        have e : n - k = 0 := by omega
        rw [e] at hp
        exact hp)
    have hk3 : k < n := by omega
    have e : n - k = (n - (k + 1)) + 1 := by omega
    rw [e] at hp
    unfold tF at hp
    unfold vRow_timeToShut_13 vRow_timeToShut_58 vRow_timeToShut_81 vRow_timeToShut_88
    simp only [zz_finding_free, zz_items_free, zz_lanes_free, zz_sizes_free, zz_weights_free, zz_levels_free, zz_heads_free, zz_ssize_free, zz_rules_free, zz_rivers_free, zz_orders_free, zz_now_free, zz_then_free, zz_loss_free, zz_stale_free, zz_ga_free, zz_free_free, zz_rsize_free, zz_fmin_free, zz_fpass_free, zz_inTurn_free, zz_fsize_free, zz_numbers_free, zz_tlen_free, zz_gk_free, zz_gm_free, zz_gh_free, zz_gf_free, zz_gn_free, vSh_free, vSea_free, vGa_free, vSp_free, vTr_free]
    rw [nI_clamp (show k < 2 ^ 31 by omega), nI_1, hga, if_pos hk3]
    refine ⟨fun q => absurd q (nI_ge (show k < 6 by omega) (by decide)), fun _ => ⟨vp_in_nI (by omega) (by decide), (fun q => by cases q), fun j q => ?_⟩⟩
    cases q
    refine ⟨by omega, ?_⟩
    have hand : (¬ z_gf g k = 0 ∨ mo k = true) → (k < z_gn g ∧ ((¬ z_gh g k = 0 → vRow_endByHand (sz_free g c) (nI cr) (z_gh g k) (fun r76 g76 => vRow_timeToShut_13 post (d + 1) (nI cr) x2 (if x < r76 then r76 else x) (nI (k + 1)) g76)) ∧ (z_gh g k = 0 → post (-1000000) (sz_free g c)))) := by
      intro c1
      rw [if_pos c1] at hp
      refine ⟨by omega, fun c2 => ?_, fun c2 => ?_⟩
      · rw [if_neg c2] at hp
        exact q_endByHand hcr hcr3 (ih (k + 1) _ _ (by omega) (by omega) hp)
      · rw [if_pos c2] at hp
        exact hp c
    refine ⟨fun c1 => hand (Or.inl c1), fun c1 => ⟨fun c2 => ?_, fun c2 => hand (Or.inr ((hmo k (by omega)).mp c2))⟩⟩
    rw [if_neg (fun z => z.elim (fun y => y c1) (fun y => c2 ((hmo k (by omega)).mpr y)))] at hp
    exact ih (k + 1) _ c (by omega) (by omega) hp
/-- the time, as a number alone -/
def tV (cr : Nat) (fa mi ha : Nat → Int32) (mo : Nat → Bool) (n : Nat) : Int32 := (tF cr fa mi ha mo n 0 0 (fun _ => 0)).1
theorem q_timeToShut {post : Int32 → GS → Prop} {g : GS} {cr n : Nat} {x2 : Int32} {mo : Nat → Bool} (hcr : 1 ≤ cr) (hcr3 : cr ≤ 3) (hn : n ≤ 6) (en : z_gn g = n) (hga : ∀ j, z_ga g j = if j < n then some j else none) (hmo : ∀ k, k < 6 → (nI k = x2 ↔ mo k = true)) (c0 : Nat → Int32) (hp : ∀ c', post (tV cr (z_gf g) (z_gm g) (z_gh g) mo n) (sz_free g c')) : vRow_timeToShut (sz_free g c0) (nI cr) x2 post := by
  unfold vRow_timeToShut
  refine ⟨7, ?_⟩
  simp only [zz_finding_free, zz_items_free, zz_lanes_free, zz_sizes_free, zz_weights_free, zz_levels_free, zz_heads_free, zz_ssize_free, zz_rules_free, zz_rivers_free, zz_orders_free, zz_now_free, zz_then_free, zz_loss_free, zz_stale_free, zz_ga_free, zz_free_free, zz_rsize_free, zz_fmin_free, zz_fpass_free, zz_inTurn_free, zz_fsize_free, zz_numbers_free, zz_tlen_free, zz_gk_free, zz_gm_free, zz_gh_free, zz_gf_free, zz_gn_free, vSh_free, vSea_free, vGa_free, vSp_free, vTr_free]
  rw [show ∀ a b : Nat → Int32, sz_free (sz_free g a) b = sz_free g b from fun _ _ => rfl]
  refine lp_timeToShut hcr hcr3 hn en hga hmo 6 0 0 (jfill 3 0 c0) (by omega) (by omega) (fun c' => ?_)
  have e := tF_cong hcr hcr3 (fa := z_gf g) (mi := z_gm g) (ha := z_gh g) (mo := mo) (fa' := z_gf g) (mi' := z_gm g) (ha' := z_gh g) (mo' := mo) (n := n) (fun _ _ => ⟨rfl, rfl, rfl, rfl⟩) n 0 0 (jfill 3 0 c0) (fun _ => 0) (by omega) (fun i hi => by unfold jfill; rw [if_pos hi])
  rw [Nat.sub_zero, e]
  exact hp c'
-- the reference
theorem lp_M_tb69 {post : Int32 → GM → Prop} {K25 : Int32 → Int32 → Int32 → Int32 → GM → Prop} {m : GM} {cr : Nat} {x2 x3 x4 : Int32} (hcr3 : cr ≤ 3) (hp : vM_timeBy_107 post K25 (nI cr) x2 x3 x4 (nI (pkc (m_crew m) cr)) m) : ∀ d k : Nat, 1 ≤ k → k + d = cr → vM_timeBy_69 post K25 (d + 1) (nI cr) x2 x3 x4 (nI (pkc (m_crew m) k)) (nI k) m := by
  intro d
  induction d with
  | zero =>
    intro k h1 hk
    have e : k = cr := by omega
    subst e
    unfold vM_timeBy_69
    exact ⟨fun _ => hp, fun c => absurd (nI_le (Nat.le_refl k) (by omega)) c⟩
  | succ d ih =>
    intro k h1 hk
    have ih := ih (k + 1) (by omega) (by omega)
    have hlt : pkc (m_crew m) k < k := by
      obtain ⟨j, rfl⟩ : ∃ j, k = j + 1 := ⟨k - 1, by omega⟩
      exact pkc_lt _ j
    unfold vM_timeBy_69 vM_timeBy_99
    rw [nI_clamp (show k < 2 ^ 31 by omega), nI_clamp (show pkc (m_crew m) k < 2 ^ 31 by omega), nI_1]
    rw [pkc_s _ h1] at ih
    refine ⟨fun c => absurd c (nI_ge (show k < cr by omega) (by omega)), fun _ => ⟨vp_in_nI (by omega) (by decide), vp_in_nI (by omega) (by decide), fun c => ?_, fun c => ?_⟩⟩
    · rw [if_pos c] at ih
      exact ih
    · rw [if_neg c] at ih
      exact ih
theorem mx2_le {A : Int32 → Prop} {x v : Int32} (h : A (mx2 x v)) : (v ≤ x → A x) ∧ (¬ v ≤ x → A v) := by
  unfold mx2 at h
  refine ⟨fun c => ?_, fun c => ?_⟩
  · rw [if_neg (Int32.not_lt.mpr c)] at h
    exact h
  · rw [if_pos (Int32.not_le.mp c)] at h
    exact h
theorem lp_M_tb25 {post : Int32 → GM → Prop} {m : GM} {cr n : Nat} {x2 : Int32} {mo : Nat → Bool} (hcr : 1 ≤ cr) (hcr3 : cr ≤ 3) (hn : n ≤ 6) (en : m_gates m = nI n) (hmo : ∀ k, k < 6 → (nI k = x2 ↔ mo k = true)) : ∀ (d k : Nat) (x : Int32) (c : Nat → Int32), k + d = n → (∀ c', post (tF cr (m_hasFailed m) (m_minutes m) (m_hand m) mo d k x c).1 (sm_crew m c')) → vM_timeBy_25 post (d + 1) (nI cr) x2 x (nI k) (sm_crew m c) := by
  intro d
  induction d with
  | zero =>
    intro k x c hk hp
    have e : k = n := by omega
    subst e
    unfold vM_timeBy_25
    simp only [mm_thrown_crew, mm_status_crew, mm_rule_crew, mm_river_crew, mm_lane_crew, mm_many_crew, mm_item_crew, mm_worlds_crew, mm_weight_crew, mm_sea_crew, mm_least_crew, mm_isTold_crew, mm_gates_crew, mm_minutes_crew, mm_hand_crew, mm_hasFailed_crew, mm_crew_crew, mm_ships_crew, mm_comes_crew, mm_takes_crew, mm_trace_crew, mm_traced_crew, uSh_crew, uSea_crew, uGa_crew, uSp_crew, uTr_crew]
    rw [en]
    exact ⟨fun _ => hp c, fun q => absurd (nI_le (Nat.le_refl k) (by omega)) q⟩
  | succ d ih =>
    intro k x c hk hp
    unfold tF at hp
    unfold vM_timeBy_25
    simp only [mm_thrown_crew, mm_status_crew, mm_rule_crew, mm_river_crew, mm_lane_crew, mm_many_crew, mm_item_crew, mm_worlds_crew, mm_weight_crew, mm_sea_crew, mm_least_crew, mm_isTold_crew, mm_gates_crew, mm_minutes_crew, mm_hand_crew, mm_hasFailed_crew, mm_crew_crew, mm_ships_crew, mm_comes_crew, mm_takes_crew, mm_trace_crew, mm_traced_crew, uSh_crew, uSea_crew, uGa_crew, uSp_crew, uTr_crew]
    rw [en, nI_clamp (show k < 2 ^ 31 by omega)]
    have hin6 : vp_in (nI k) 6 := vp_in_nI (by omega) (by decide)
    have hand : (¬ m_hasFailed m k = 0 ∨ mo k = true) → vM_timeBy_50 post (fun x1 x2 x3 x4 g => vM_timeBy_25 post (d + 1) x1 x2 x3 x4 g) (nI cr) x2 x (nI k) (sm_crew m c) := by
      intro c1
      rw [if_pos c1] at hp
      unfold vM_timeBy_50
      simp only [mm_thrown_crew, mm_status_crew, mm_rule_crew, mm_river_crew, mm_lane_crew, mm_many_crew, mm_item_crew, mm_worlds_crew, mm_weight_crew, mm_sea_crew, mm_least_crew, mm_isTold_crew, mm_gates_crew, mm_minutes_crew, mm_hand_crew, mm_hasFailed_crew, mm_crew_crew, mm_ships_crew, mm_comes_crew, mm_takes_crew, mm_trace_crew, mm_traced_crew, uSh_crew, uSea_crew, uGa_crew, uSp_crew, uTr_crew]
      rw [nI_clamp (show k < 2 ^ 31 by omega)]
      refine ⟨hin6, fun c2 => ⟨cr, ?_⟩, fun c2 => ?_⟩
      · rw [if_neg c2] at hp
        obtain ⟨j, rfl⟩ : ∃ j, cr = j + 1 := ⟨cr - 1, by omega⟩
        refine lp_M_tb69 (m := sm_crew m c) hcr3 ?_ j 1 (Nat.le_refl 1) (by omega)
        have hlt := pkc_lt c j
        have hin3 : vp_in (nI (pkc c (j + 1))) 3 := vp_in_nI (by omega) (by decide)
        unfold vM_timeBy_107 vM_timeBy_146 vM_timeBy_173
        simp only [mm_thrown_crew, mm_status_crew, mm_rule_crew, mm_river_crew, mm_lane_crew, mm_many_crew, mm_item_crew, mm_worlds_crew, mm_weight_crew, mm_sea_crew, mm_least_crew, mm_isTold_crew, mm_gates_crew, mm_minutes_crew, mm_hand_crew, mm_hasFailed_crew, mm_crew_crew, mm_ships_crew, mm_comes_crew, mm_takes_crew, mm_trace_crew, mm_traced_crew, uSh_crew, uSea_crew, uGa_crew, uSp_crew, uTr_crew]
        rw [nI_clamp (show pkc c (j + 1) < 2 ^ 31 by omega), nI_clamp (show k < 2 ^ 31 by omega), pk_us, nI_1, show ∀ a b : Nat → Int32, sm_crew (sm_crew m a) b = sm_crew m b from fun _ _ => rfl]
        have h9 := mx2_le (A := fun z => vM_timeBy_25 post (d + 1) (nI (j + 1)) x2 z (nI (k + 1)) (sm_crew m (upd c (pkc c (j + 1)) (c (pkc c (j + 1)) + m_hand m k)))) (ih (k + 1) _ _ (by omega) hp)
        exact ⟨hin3, hin6, hin3, hin3, h9.1, fun q => ⟨hin3, h9.2 q⟩⟩
      · rw [if_pos c2] at hp
        exact hp c
    refine ⟨fun q => absurd q (nI_ge (show k < n by omega) (by omega)), fun _ => ⟨hin6, fun c1 => hand (Or.inl c1), fun c1 => ⟨fun c2 => ?_, fun c2 => hand (Or.inr ((hmo k (by omega)).mp c2))⟩⟩⟩
    rw [if_neg (fun z => z.elim (fun y => y c1) (fun y => c2 ((hmo k (by omega)).mpr y)))] at hp
    unfold vM_timeBy_172 vM_timeBy_173
    rw [nI_1]
    have h9 := mx2_le (A := fun z => vM_timeBy_25 post (d + 1) (nI cr) x2 z (nI (k + 1)) (sm_crew m c)) (ih (k + 1) _ _ (by omega) hp)
    exact ⟨hin6, h9.1, fun q => ⟨hin6, h9.2 q⟩⟩
theorem q_timeBy {post : Int32 → GM → Prop} {m : GM} {cr n : Nat} {x2 : Int32} {mo : Nat → Bool} (hcr : 1 ≤ cr) (hcr3 : cr ≤ 3) (hn : n ≤ 6) (en : m_gates m = nI n) (hmo : ∀ k, k < 6 → (nI k = x2 ↔ mo k = true)) (c0 : Nat → Int32) (hp : ∀ c', post (tV cr (m_hasFailed m) (m_minutes m) (m_hand m) mo n) (sm_crew m c')) : vM_timeBy (sm_crew m c0) (nI cr) x2 post := by
  unfold vM_timeBy
  refine ⟨4, ?_⟩
  have hz : ∀ k x : Nat, k < 3 → vp_in (nI k) 3 := fun k _ hk => vp_in_nI hk (by decide)
  have step : ∀ (d k : Nat) (c : Nat → Int32), k < 3 → vM_timeBy_2 post d (nI cr) x2 (nI (k + 1)) (sm_crew m (upd c k 0)) → vM_timeBy_2 post (d + 1) (nI cr) x2 (nI k) (sm_crew m c) := by
    intro d k c hk hq
    conv => unfold vM_timeBy_2
    simp only [mm_thrown_crew, mm_status_crew, mm_rule_crew, mm_river_crew, mm_lane_crew, mm_many_crew, mm_item_crew, mm_worlds_crew, mm_weight_crew, mm_sea_crew, mm_least_crew, mm_isTold_crew, mm_gates_crew, mm_minutes_crew, mm_hand_crew, mm_hasFailed_crew, mm_crew_crew, mm_ships_crew, mm_comes_crew, mm_takes_crew, mm_trace_crew, mm_traced_crew, uSh_crew, uSea_crew, uGa_crew, uSp_crew, uTr_crew]
    rw [nI_clamp (show k < 2 ^ 31 by omega), nI_1, show ∀ a b : Nat → Int32, sm_crew (sm_crew m a) b = sm_crew m b from fun _ _ => rfl]
    exact ⟨fun q => absurd q (nI_ge (show k < 3 by omega) (by decide)), fun _ => ⟨vp_in_nI hk (by decide), hq⟩⟩
  refine step 3 0 c0 (by omega) (step 2 1 _ (by omega) (step 1 2 _ (by omega) ?_))
  unfold vM_timeBy_2
  refine ⟨fun _ => ?_, fun q => absurd (show (3 : Int32) ≤ nI (2 + 1) by decide) q⟩
  unfold vM_timeBy_20
  refine ⟨n + 1, lp_M_tb25 hcr hcr3 hn en hmo n 0 0 _ (by omega) (fun c' => ?_)⟩
  have e := tF_cong hcr hcr3 (fa := m_hasFailed m) (mi := m_minutes m) (ha := m_hand m) (mo := mo) (fa' := m_hasFailed m) (mi' := m_minutes m) (ha' := m_hand m) (mo' := mo) (n := n) (fun _ _ => ⟨rfl, rfl, rfl, rfl⟩) n 0 0 (upd (upd (upd c0 0 0) 1 0) 2 0) (fun _ => 0) (by omega) (fun i hi => by
    rcases (show i = 0 ∨ i = 1 ∨ i = 2 by omega) with rfl | rfl | rfl
    · rw [pk_un (by decide), pk_un (by decide), pk_us]
    · rw [pk_un (by decide), pk_us]
    · rw [pk_us])
  rw [e]
  exact hp c'
