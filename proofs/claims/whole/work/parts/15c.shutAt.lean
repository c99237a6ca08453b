/-! ===== shutAt ===== -/
def sst (a0 a1 x : Nat) : Nat → Nat
  | 0 => 0
  | h + 1 => nxt (stn a0 a1 (sst a0 a1 x h) (decide (h = x))) h
theorem sst_0 {a0 a1 x : Nat} : ∀ h, h ≤ x → sst a0 a1 x h = 0
  | 0, _ => rfl
  | h + 1, hx => by
    unfold sst
    rw [sst_0 h (by omega), decide_eq_false (show ¬ h = x by omega), stn_f]
    rfl
theorem sst_may {a0 a1 x h : Nat} (e : decide (h = x) = true) : may (sst a0 a1 x h) = true := by
  rw [sst_0 h (by have := of_decide_eq_true e; omega)]
  rfl
theorem sst_ok {a0 a1 x : Nat} (ha0 : 1 ≤ a0 ∧ a0 ≤ 3) (ha1 : 1 ≤ a1 ∧ a1 ≤ 3) : ∀ h, gd (sst a0 a1 x h) ∧ sst a0 a1 x h < 7 + h
  | 0 => ⟨Or.inl rfl, by show 0 < 7 + 0; omega⟩
  | h + 1 => by
    obtain ⟨h1, h2⟩ := sst_ok (x := x) ha0 ha1 h
    exact ⟨nxt_gd ha0 ha1 h1, nxt_lt (stn_lt ha0 ha1 h2)⟩
def shA (a0 a1 x : Nat) (wgt : Nat → Int32) (lev : Nat → Nat → Int32) (rul riv : Nat → Int32) (w : Nat) (v : Int64) : Nat → Int64
  | 0 => v
  | h + 1 => shA a0 a1 x wgt lev rul riv w v h + (wgt w).toInt64 * (lostF lev rul riv w h (sst a0 a1 x h) (decide (h = x))).toInt64
def shT (a0 a1 x : Nat) (wgt : Nat → Int32) (lev : Nat → Nat → Int32) (rul riv : Nat → Int32) : Nat → Int64
  | 0 => 0
  | w + 1 => shA a0 a1 x wgt lev rul riv w (shT a0 a1 x wgt lev rul riv w) 8
theorem lp_one23 {post : Int64 → GS → Prop} {K5 : Int32 → Int64 → Int32 → GS → Prop} {g : GS} {a0 a1 x w : Nat} {v : Int64} (h0 : z_rules g 0 = nI a0) (h1 : z_rules g 1 = nI a1) (ha0 : 1 ≤ a0 ∧ a0 ≤ 3) (ha1 : 1 ≤ a1 ∧ a1 ≤ 3) (hx : x ≤ 8) (hw : w < 8) (hp : K5 (nI x) (shA a0 a1 x (z_weights g) (z_levels g) (z_rules g) (z_rivers g) w v 8) (nI (w + 1)) g) : ∀ d h : Nat, h + d = 8 → vBarrier_lossOfOneOrder_23 post K5 (d + 1) (nI x) (shA a0 a1 x (z_weights g) (z_levels g) (z_rules g) (z_rivers g) w v h) (nI w) (nI (sst a0 a1 x h)) (nI h) g := by
  intro d
  induction d with
  | zero =>
    intro h hh
    have e : h = 8 := by omega
    subst e
    unfold vBarrier_lossOfOneOrder_23 vBarrier_lossOfOneOrder_92
    rw [nI_1]
    exact ⟨fun _ => hp, fun q => absurd (show (8 : Int32) ≤ nI 8 by decide) q⟩
  | succ d ih =>
    intro h hh
    obtain ⟨o1, o2⟩ := sst_ok (x := x) ha0 ha1 h
    have hlt := stn_lt (told := decide (h = x)) ha0 ha1 o2
    have key : ∀ t : Int32, t = bI (decide (h = x)) → vBarrier_lossOfOneOrder_41 post K5 (fun x1 x2 x4 x5 x6 g => vBarrier_lossOfOneOrder_23 post K5 (d + 1) x1 x2 x4 x5 x6 g) (nI x) (shA a0 a1 x (z_weights g) (z_levels g) (z_rules g) (z_rivers g) w v h) (nI w) (nI (sst a0 a1 x h)) (nI h) t g := by
      intro t ht
      subst ht
      unfold vBarrier_lossOfOneOrder_41
      rw [nI_clamp (show w < 2 ^ 31 by omega), nI_1]
      exact ⟨vp_in_nI hw (by decide), q_lost h0 h1 ha0 ha1 hw (by omega) o2 (q_stands h0 h1 (by omega) (q_next (by omega) (by omega) (ih (h + 1) (by omega))))⟩
    unfold vBarrier_lossOfOneOrder_23
    rw [nIk (a := h) x (by omega) (by omega)]
    exact ⟨fun q => absurd q (nI_ge (show h < 8 by omega) (by decide)), fun _ => ⟨fun q => key 0 (by rw [decide_eq_false q]; rfl), fun q => key 1 (by rw [decide_eq_true q]; rfl)⟩⟩
theorem lp_one5 {post : Int64 → GS → Prop} {g : GS} {a0 a1 x n : Nat} (en : z_ssize g = nI n) (hn : n ≤ 8) (h0 : z_rules g 0 = nI a0) (h1 : z_rules g 1 = nI a1) (ha0 : 1 ≤ a0 ∧ a0 ≤ 3) (ha1 : 1 ≤ a1 ∧ a1 ≤ 3) (hx : x ≤ 8) (hp : post (shT a0 a1 x (z_weights g) (z_levels g) (z_rules g) (z_rivers g) n) g) : ∀ d w : Nat, w + d = n → vBarrier_lossOfOneOrder_5 post (d + 1) (nI x) (shT a0 a1 x (z_weights g) (z_levels g) (z_rules g) (z_rivers g) w) (nI w) g := by
  intro d
  induction d with
  | zero =>
    intro w hw
    have e : w = n := by omega
    subst e
    unfold vBarrier_lossOfOneOrder_5
    rw [en]
    exact ⟨fun _ => hp, fun q => absurd (nI_le (Nat.le_refl w) (by omega)) q⟩
  | succ d ih =>
    intro w hw
    have ih := ih (w + 1) (by omega)
    unfold vBarrier_lossOfOneOrder_5
    rw [en]
    exact ⟨fun q => absurd q (nI_ge (show w < n by omega) (by omega)), fun _ => ⟨9, lp_one23 h0 h1 ha0 ha1 hx (by omega) ih 8 0 (by omega)⟩⟩
theorem lp_M_sh41 {post : Int64 → GM → Prop} {K26 : Int32 → Int64 → Int32 → GM → Prop} {m : GM} {a0 a1 x w : Nat} {v : Int64} {wgt : Nat → Int32} {L : Nat → Nat → Int32} {rul riv : Nat → Int32} (hwg : m_weight m w = wgt w) (hru : ∀ i, i < 8 → m_rule m i = rul i) (hr : ∀ i, i < 8 → m_river m i = riv i) (hL : ∀ k, k < 8 → m_sea m (8 * w + k) = L w k) (hLb : ∀ k, k < 8 → ∃ a : Nat, a ≤ 1000 ∧ L w k = nI a) (hrb : ∀ i, i < 8 → ∃ a : Nat, a ≤ 100 ∧ riv i = nI a) (hrub : ∀ i, i < 8 → ∃ a : Nat, a ≤ 1000 ∧ rul i = nI a) (h0 : rul 0 = nI a0) (h1 : rul 1 = nI a1) (ha0 : 1 ≤ a0 ∧ a0 ≤ 3) (ha1 : 1 ≤ a1 ∧ a1 ≤ 3) (hx : x ≤ 8) (hw : w < 8) (hp : K26 (nI x) (shA a0 a1 x wgt L rul riv w v 8) (nI (w + 1)) m) : ∀ d h : Nat, h + d = 8 → vM_shutAt_41 post K26 (d + 1) (nI x) (shA a0 a1 x wgt L rul riv w v h) (nI w) (nI (mst (sst a0 a1 x h))) (nI h) m := by
  intro d
  induction d with
  | zero =>
    intro h hh
    have e : h = 8 := by omega
    subst e
    unfold vM_shutAt_41 vM_shutAt_109
    rw [nI_1]
    exact ⟨fun _ => hp, fun q => absurd (show (8 : Int32) ≤ nI 8 by decide) q⟩
  | succ d ih =>
    intro h hh
    obtain ⟨o1, o2⟩ := sst_ok (x := x) ha0 ha1 h
    have hlt := stn_lt (told := decide (h = x)) ha0 ha1 o2
    have key : ∀ t : Int32, t = bI (decide (h = x)) → vM_shutAt_73 post K26 (fun x1 x2 x4 x5 x6 g => vM_shutAt_41 post K26 (d + 1) x1 x2 x4 x5 x6 g) (nI x) (nI w) (nI (mst (sst a0 a1 x h))) (nI h) t (nI (mst (sst a0 a1 x h))) (nI w) ((m_weight m w).toInt64) (shA a0 a1 x wgt L rul riv w v h) m := by
      intro t ht
      subst ht
      have ha : ∀ t2 : Int32, t2 = bI (decide (h = x)) → vM_after m (nI (mst (sst a0 a1 x h))) t2 (nI h) (fun r98 g98 => vM_shutAt_41 post K26 (d + 1) (nI x) (shA a0 a1 x wgt L rul riv w v h + (m_weight m w).toInt64 * (lostF L rul riv w h (sst a0 a1 x h) (decide (h = x))).toInt64) (nI w) r98 (nI h + 1) g98) := by
        intro t2 ht2
        subst ht2
        rw [hwg, nI_1]
        exact q_after ((hru 0 (by decide)).trans h0) ((hru 1 (by decide)).trans h1) ha0 ha1 o1 (by omega) (by omega) sst_may (ih (h + 1) (by omega))
      unfold vM_shutAt_73 vM_shutAt_96
      refine q_lostIn hru hr hL hLb hrb hrub h0 h1 ha0 ha1 o1 sst_may hw (by omega) o2 ?_
      rw [nIk (a := h) x (by omega) (by omega)]
      exact ⟨fun q => ha 0 (by rw [decide_eq_false q]; rfl), fun q => ha 1 (by rw [decide_eq_true q]; rfl)⟩
    unfold vM_shutAt_41
    rw [nIk (a := h) x (by omega) (by omega), nI_clamp (show w < 2 ^ 31 by omega)]
    exact ⟨fun q => absurd q (nI_ge (show h < 8 by omega) (by decide)), fun _ => ⟨vp_in_nI hw (by decide), fun q => key 0 (by rw [decide_eq_false q]; rfl), fun q => key 1 (by rw [decide_eq_true q]; rfl)⟩⟩
/-- what both records hold of the sea, as one -/
def SeaM (m : GM) (n : Nat) (wgt : Nat → Int32) (L : Nat → Nat → Int32) (rul riv : Nat → Int32) : Prop :=
  n ≤ 8 ∧ m_worlds m = nI n ∧ (∀ w, w < n → m_weight m w = wgt w) ∧ (∀ w k, w < n → k < 8 → m_sea m (8 * w + k) = L w k) ∧ (∀ i, i < 8 → m_rule m i = rul i) ∧ (∀ i, i < 8 → m_river m i = riv i)
theorem R.seaM {g : GS} {m : GM} (h : R g m) {n : Nat} (en : z_ssize g = nI n) (hn : n ≤ 8) : SeaM m n (z_weights g) (z_levels g) (z_rules g) (z_rivers g) := by
  obtain ⟨n', hn', en1, en2, hwt, hlv, hhd⟩ := h.wo
  have e : n = n' := nI_inj (by omega) (by omega) (en.symm.trans en1)
  subst e
  refine ⟨hn, en2, fun w hw => ?_, h.lev en hn, fun i hi => ?_, fun i hi => ?_⟩
  · obtain ⟨a, -, -, b1, b2⟩ := hwt w hw
    rw [b1, b2]
  · obtain ⟨a, -, -, b1, b2⟩ := h.ru.1 i hi
    rw [b1, b2]
  · obtain ⟨a, -, b1, b2⟩ := h.ru.2 i hi
    rw [b1, b2]
theorem lp_M_sh26 {post : Int64 → GM → Prop} {m : GM} {a0 a1 x n : Nat} {wgt : Nat → Int32} {L : Nat → Nat → Int32} {rul riv : Nat → Int32} (hS : SeaM m n wgt L rul riv) (hLb : ∀ w k, w < n → k < 8 → ∃ a : Nat, a ≤ 1000 ∧ L w k = nI a) (hrb : ∀ i, i < 8 → ∃ a : Nat, a ≤ 100 ∧ riv i = nI a) (hrub : ∀ i, i < 8 → ∃ a : Nat, a ≤ 1000 ∧ rul i = nI a) (h0 : rul 0 = nI a0) (h1 : rul 1 = nI a1) (ha0 : 1 ≤ a0 ∧ a0 ≤ 3) (ha1 : 1 ≤ a1 ∧ a1 ≤ 3) (hx : x ≤ 8) (hp : post (shT a0 a1 x wgt L rul riv n) m) : ∀ d w : Nat, w + d = n → vM_shutAt_26 post (d + 1) (nI x) (shT a0 a1 x wgt L rul riv w) (nI w) m := by
  obtain ⟨hn, en, s1, s2, s3, s4⟩ := hS
  intro d
  induction d with
  | zero =>
    intro w hw
    have e : w = n := by omega
    subst e
    unfold vM_shutAt_26
    rw [en]
    exact ⟨fun _ => hp, fun q => absurd (nI_le (Nat.le_refl w) (by omega)) q⟩
  | succ d ih =>
    intro w hw
    have ih := ih (w + 1) (by omega)
    unfold vM_shutAt_26
    rw [en]
    exact ⟨fun q => absurd q (nI_ge (show w < n by omega) (by omega)), fun _ => ⟨9, lp_M_sh41 (s1 w (by omega)) s3 s4 (fun k hk => s2 w k (by omega) hk) (fun k hk => hLb w k (by omega) hk) hrb hrub h0 h1 ha0 ha1 hx (by omega) ih 8 0 (by omega)⟩⟩
theorem sim_shutAt {g : GS} {m : GM} (h : R g m) (a1 : Int32) : vSG_shutAt g a1 (fun r g' => vM_shutAt m a1 (fun r' m' => r = r' ∧ R g' m')) := by
  have hR : R g (sm_thrown m 0) := by
    simp only [R, mm_thrown_thrown, mm_status_thrown, mm_rule_thrown, mm_river_thrown, mm_lane_thrown, mm_many_thrown, mm_item_thrown, mm_worlds_thrown, mm_weight_thrown, mm_sea_thrown, mm_least_thrown, mm_isTold_thrown, mm_gates_thrown, mm_minutes_thrown, mm_hand_thrown, mm_hasFailed_thrown, mm_crew_thrown, mm_ships_thrown, mm_comes_thrown, mm_takes_thrown, mm_trace_thrown, mm_traced_thrown, uSh_thrown, uSea_thrown, uGa_thrown, uSp_thrown, uTr_thrown]
    exact h
  unfold vSG_shutAt
  by_cases c1 : 0 ≤ a1 ∧ a1 ≤ 8
  rotate_left
  · simp only [q_within, if_neg c1, true_implies, not_true_eq_false, not_false_eq_true, false_implies, and_true, true_and, i10, i00]
    unfold vM_shutAt
    simp only [q_in0 8 8 rfl, show nI 8 = (8 : Int32) from rfl, if_neg c1, true_implies, not_true_eq_false, not_false_eq_true, false_implies, and_true, true_and, i10, i00]
    exact hR
  obtain ⟨x, hx, rfl⟩ := nI_of2 (x := a1) (M := 8) (n := 8) (by decide) (Int32.not_lt.mpr c1.1) c1.2
  obtain ⟨n, hn, en1, en2, hwt, hlv, hhd⟩ := h.wo
  obtain ⟨r0, -, r1, r2, r3⟩ := h.ru.1 0 (by decide)
  obtain ⟨q0, -, q1, q2, q3⟩ := h.ru.1 1 (by decide)
  simp only [q_within, if_pos c1, true_implies, not_true_eq_false, not_false_eq_true, false_implies, and_true, true_and, i10, i00]
  unfold vBarrier_lossOfOneOrder
  refine ⟨n + 1, lp_one5 en1 hn r2 q2 (r1 (by decide)) (q1 (by decide)) hx ?_ n 0 (by omega)⟩
  unfold vM_shutAt
  simp only [q_in0 8 8 rfl, show nI 8 = (8 : Int32) from rfl, if_pos c1, true_implies, not_true_eq_false, not_false_eq_true, false_implies, and_true, true_and, i10, i00]
  exact ⟨n + 1, lp_M_sh26 (hR.seaM en1 hn) (fun w k hw hk => by
    obtain ⟨a, b1, b2, b3⟩ := hlv w k hw hk
    exact ⟨a, b1, b2⟩) (fun i hi => by
    obtain ⟨a, b1, b2, b3⟩ := h.ru.2 i hi
    exact ⟨a, b1, b2⟩) (fun i hi => by
    obtain ⟨a, b1, -, b2, b3⟩ := h.ru.1 i hi
    exact ⟨a, b1, b2⟩) r2 q2 (r1 (by decide)) (q1 (by decide)) hx ⟨rfl, hR⟩ n 0 (by omega)⟩
