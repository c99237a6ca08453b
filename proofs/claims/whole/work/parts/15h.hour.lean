/-! ===== best, hour ===== -/
theorem grp_idem (L : Nat → Nat → Int32) (w h : Nat) : grp L (grp L w h) h = grp L w h := by
  obtain ⟨q1, q2, q3⟩ := grp_spec L w h
  refine grp_eq (alike_iff.mpr (fun _ _ => rfl)) (fun u hu => ?_)
  cases c : alike L u (grp L w h) h with
  | false => rfl
  | true =>
    have h1 := q3 u hu
    rw [alike_iff] at c q1
    have h2 : alike L u w h = true := alike_iff.mpr (fun k hk => (c k hk).trans (q1 k hk))
    rw [h1] at h2
    cases h2
theorem R.seaB {g : GS} {m : GM} (h : R g m) {n : Nat} (en : z_ssize g = nI n) (hn : n ≤ 8) : ∃ a0 a1, SeaB n (z_levels g) (z_rules g) (z_rivers g) a0 a1 := by
  obtain ⟨n', hn', en1, en2, hwt, hlv, hhd⟩ := h.wo
  have e : n = n' := nI_inj (by omega) (by omega) (en.symm.trans en1)
  subst e
  obtain ⟨r0, -, r1, r2, r3⟩ := h.ru.1 0 (by decide)
  obtain ⟨q0, -, q1, q2, q3⟩ := h.ru.1 1 (by decide)
  refine ⟨r0, q0, fun w k hw hk => ?_, fun i hi => ?_, fun i hi => ?_, r2, q2, r1 (by decide), q1 (by decide)⟩
  · obtain ⟨a, b1, b2, b3⟩ := hlv w k hw hk
    exact ⟨a, b1, b2⟩
  · obtain ⟨a, b1, b2, b3⟩ := h.ru.2 i hi
    exact ⟨a, b1, b2⟩
  · obtain ⟨a, b1, -, b2, b3⟩ := h.ru.1 i hi
    exact ⟨a, b1, b2⟩
theorem R_mq {g : GS} {m : GM} (h : R g m) (le : Nat → Int64) (it : Nat → Int32) : R g (mq m le it) := by
  unfold mq
  simp only [R, mm_thrown_least, mm_status_least, mm_rule_least, mm_river_least, mm_lane_least, mm_many_least, mm_item_least, mm_worlds_least, mm_weight_least, mm_sea_least, mm_least_least, mm_isTold_least, mm_gates_least, mm_minutes_least, mm_hand_least, mm_hasFailed_least, mm_crew_least, mm_ships_least, mm_comes_least, mm_takes_least, mm_trace_least, mm_traced_least, uSh_least, uSea_least, uGa_least, uSp_least, uTr_least, mm_thrown_isTold, mm_status_isTold, mm_rule_isTold, mm_river_isTold, mm_lane_isTold, mm_many_isTold, mm_item_isTold, mm_worlds_isTold, mm_weight_isTold, mm_sea_isTold, mm_least_isTold, mm_isTold_isTold, mm_gates_isTold, mm_minutes_isTold, mm_hand_isTold, mm_hasFailed_isTold, mm_crew_isTold, mm_ships_isTold, mm_comes_isTold, mm_takes_isTold, mm_trace_isTold, mm_traced_isTold, uSh_isTold, uSea_isTold, uGa_isTold, uSp_isTold, uTr_isTold]
  exact h
theorem lp_M_best {post : Int64 → GM → Prop} {m : GM} {n : Nat} {wgt : Nat → Int32} {L : Nat → Nat → Int32} {rul riv : Nat → Int32} {b : Nat → Int64} (hS : SeaM m n wgt L rul riv) (hb : ∀ v, v < n → grp L v 0 = v → m_least m (16 * v) = b v) (hp : post (sm64 (fun v => if grp L v 0 = v then b v else 0) n) m) : ∀ d k : Nat, k + d = n → vM_best_13 post (d + 1) (sm64 (fun v => if grp L v 0 = v then b v else 0) k) (nI k) m := by
  obtain ⟨hn, en, s1, s2, s3, s4⟩ := hS
  intro d
  induction d with
  | zero =>
    intro k hk
    have e : k = n := by omega
    subst e
    unfold vM_best_13
    rw [en]
    exact ⟨fun _ => hp, fun q => absurd (nI_le (Nat.le_refl k) (by omega)) q⟩
  | succ d ih =>
    intro k hk
    have ih := ih (k + 1) (by omega)
    unfold sm64 at ih
    have hle := grp_le L k 0
    unfold vM_best_13 vM_best_45
    rw [en]
    refine ⟨fun q => absurd q (nI_ge (show k < n by omega) (by omega)), fun _ => q_groupOf (L := L) (h := 0) (fun u j hu hj => s2 u j (by omega) (by omega)) (by omega) (by decide) ?_⟩
    rw [nIk k (by omega) (by omega), show (16 : Int32) * nI k = nI (16 * k) from pk_mul 16 k, nI_clamp (show 16 * k < 2 ^ 31 by omega), nI_1]
    refine ⟨fun q => ?_, fun q => ⟨vp_in_nI (by omega) (by decide), ?_⟩⟩
    · rw [if_neg q] at ih
      exact ih
    · rw [if_pos q] at ih
      rw [hb k (by omega) q]
      exact ih
theorem sim_best {g : GS} {m : GM} (h : R g m) : vSG_best g (fun r g' => vM_best m (fun r' m' => r = r' ∧ R g' m')) := by
  unfold vSG_best
  refine q_refresh h (fun g' h' hst => ?_)
  have hR : R g' (sm_thrown m 0) := by
    simp only [R, mm_thrown_thrown, mm_status_thrown, mm_rule_thrown, mm_river_thrown, mm_lane_thrown, mm_many_thrown, mm_item_thrown, mm_worlds_thrown, mm_weight_thrown, mm_sea_thrown, mm_least_thrown, mm_isTold_thrown, mm_gates_thrown, mm_minutes_thrown, mm_hand_thrown, mm_hasFailed_thrown, mm_crew_thrown, mm_ships_thrown, mm_comes_thrown, mm_takes_thrown, mm_trace_thrown, mm_traced_thrown, uSh_thrown, uSea_thrown, uGa_thrown, uSp_thrown, uTr_thrown]
    exact h'
  obtain ⟨n, hS, -⟩ := h'.seaS
  obtain ⟨a0, a1, hB⟩ := h'.seaB hS.2.1 hS.1
  have hSM := hR.seaM hS.2.1 hS.1
  have hn := hS.1
  have en : (z_ssize g').toNatClampNeg = n := by
    rw [hS.2.1]
    exact nI_clamp (by omega)
  have hl := (h'.pl.2 hst).1
  rw [en] at hl
  rw [hl]
  unfold vM_best
  refine q_findBest hSM hB (fun le it hok => ⟨n + 1, ?_⟩)
  refine lp_M_best (b := fun v => Vd n (z_weights g') (z_levels g') (z_rules g') (z_rivers g') 8 v 0) (mq_SeaM hSM le it) (fun v hv hg => ?_) ⟨rfl, R_mq hR le it⟩ n 0 (by omega)
  have := (hok 0 v 0 (by decide) hv hg (Or.inl rfl) (by omega)).1
  rw [mst_lo (by decide), show 128 * 0 + 16 * v + 0 = 16 * v by omega] at this
  rw [mq_least]
  exact this
def hst (a0 a1 : Nat) (T : Nat → Nat → Bool) : Nat → Nat
  | 0 => 0
  | h + 1 => nxt (stn a0 a1 (hst a0 a1 T h) (T h (hst a0 a1 T h))) h
theorem hst_ok {a0 a1 : Nat} {T : Nat → Nat → Bool} (ha0 : 1 ≤ a0 ∧ a0 ≤ 3) (ha1 : 1 ≤ a1 ∧ a1 ≤ 3) : ∀ h, gd (hst a0 a1 T h) ∧ hst a0 a1 T h < 7 + h
  | 0 => ⟨Or.inl rfl, by show 0 < 7 + 0; omega⟩
  | h + 1 => by
    obtain ⟨h1, h2⟩ := hst_ok (T := T) ha0 ha1 h
    exact ⟨nxt_gd ha0 ha1 h1, nxt_lt (stn_lt ha0 ha1 h2)⟩
theorem q_tells {post : Int32 → GS → Prop} {g : GS} {n h w st : Nat} {t : Bool} (hS : SeaS g n) (hw : w < n) (hh : h < 8) (hs : st < 7 + h) (ho : ((z_orders g h (grp (z_levels g) w h)) >>> (nI st &&& 31)) &&& 1 = 1 ↔ t = true) (hp : post (bI t) g) : vPlan_tells g (nI h) (nI w) (nI st) post := by
  have hn := hS.1
  have hle := grp_le (z_levels g) w h
  unfold vPlan_tells
  rw [nI_clamp (show h < 2 ^ 31 by omega), nI_clamp (show w < 2 ^ 31 by omega), hS.2.2.2 h w hh hw, nI_clamp (show grp (z_levels g) w h < 2 ^ 31 by omega), ho]
  have hin : vp_in (nI h) 8 := vp_in_nI hh (by decide)
  refine ⟨hin, hin, vp_in_nI (by omega) (by decide), vp_in_nI (by omega) (by decide), fun q => ?_, fun q => ?_⟩
  · cases t with
    | true => exact absurd rfl q
    | false => exact hp
  · rw [q] at hp
    exact hp
theorem lp_stateAt {post : Int32 → GS → Prop} {g : GS} {n a0 a1 a w : Nat} {T : Nat → Nat → Bool} (hS : SeaS g n) (h0 : z_rules g 0 = nI a0) (h1 : z_rules g 1 = nI a1) (ha0 : 1 ≤ a0 ∧ a0 ≤ 3) (ha1 : 1 ≤ a1 ∧ a1 ≤ 3) (hw : w < n) (ha : a < 8) (hT : ∀ h st, h < 8 → st < 7 + h → (((z_orders g h (grp (z_levels g) w h)) >>> (nI st &&& 31)) &&& 1 = 1 ↔ T h st = true)) (hp : post (nI (hst a0 a1 T a)) g) : ∀ d k : Nat, k + d = a → vPlan_stateAt_5 post (d + 1) (nI w) (nI a) (nI (hst a0 a1 T k)) (nI k) g := by
  intro d
  induction d with
  | zero =>
    intro k hk
    have e : k = a := by omega
    subst e
    unfold vPlan_stateAt_5
    exact ⟨fun _ => hp, fun q => absurd (nI_le (Nat.le_refl k) (by omega)) q⟩
  | succ d ih =>
    intro k hk
    have ih := ih (k + 1) (by omega)
    obtain ⟨o1, o2⟩ := hst_ok (T := T) ha0 ha1 k
    have hlt := stn_lt (told := T k (hst a0 a1 T k)) ha0 ha1 o2
    unfold vPlan_stateAt_5
    rw [nI_1]
    exact ⟨fun q => absurd q (nI_ge (show k < a by omega) (by omega)), fun _ => q_tells hS hw (by omega) o2 (hT k _ (by omega) o2) (q_stands h0 h1 (by omega) (q_next (by omega) (by omega) ih))⟩
theorem lp_M_hour {post : Int32 → GM → Prop} {m : GM} {n a0 a1 a w : Nat} {x3 : Int32} {wgt : Nat → Int32} {L : Nat → Nat → Int32} {rul riv : Nat → Int32} {T : Nat → Nat → Bool} (hS : SeaM m n wgt L rul riv) (hB : SeaB n L rul riv a0 a1) (hw : w < n) (ha : a < 8) (hT : ∀ h st, h < 8 → gd st → st < 7 + h → m_isTold m (128 * h + 16 * grp L w h + mst st) = bI (T h st) ∧ (T h st = true → may st = true)) (hp : vM_hour_105 post (nI w) (nI a) x3 (nI (mst (hst a0 a1 T a))) m) : ∀ d k : Nat, k + d = a → vM_hour_58 post (d + 1) (nI w) (nI a) x3 (nI (mst (hst a0 a1 T k))) (nI k) m := by
  obtain ⟨hn, en, s1, s2, s3, s4⟩ := hS
  obtain ⟨b1, b2, b3, h0, h1, ha0, ha1⟩ := hB
  intro d
  induction d with
  | zero =>
    intro k hk
    have e : k = a := by omega
    subst e
    unfold vM_hour_58
    exact ⟨fun _ => hp, fun q => absurd (nI_le (Nat.le_refl k) (by omega)) q⟩
  | succ d ih =>
    intro k hk
    have ih := ih (k + 1) (by omega)
    obtain ⟨o1, o2⟩ := hst_ok (T := T) ha0 ha1 k
    have hm := mst_lt o2 (by omega)
    have hle := grp_le L w k
    obtain ⟨t1, t2⟩ := hT k _ (by omega) o1 o2
    unfold vM_hour_58
    rw [nI_1]
    refine ⟨fun q => absurd q (nI_ge (show k < a by omega) (by omega)), fun _ => q_groupOf (L := L) (fun u j hu hj => s2 u j (by omega) (by omega)) (by omega) (by omega) ?_⟩
    rw [nI_ix, nI_clamp (show 128 * k + 16 * grp L w k + mst (hst a0 a1 T k) < 2 ^ 31 by omega), t1]
    exact ⟨vp_in_nI (by omega) (by decide), q_after ((s3 0 (by decide)).trans h0) ((s3 1 (by decide)).trans h1) ha0 ha1 o1 (by omega) (by omega) t2 ih⟩
/-- the answer of hour -/
def hAns (L : Nat → Nat → Int32) (rul riv : Nat → Int32) (a0 a1 w a st : Nat) (t : Bool) (x3 : Int32) : Int32 := if x3 = 0 then (if t = true then (if st = 0 then 1 else 2) else 0) else if x3 = 1 then nI (hw (stn a0 a1 st t)) else if x3 = 2 then wat L riv w a (stn a0 a1 st t) else lostF L rul riv w a st t
theorem q_M_hour105 {post : Int32 → GM → Prop} {m : GM} {n a0 a1 a w st : Nat} {t : Bool} {x3 : Int32} {wgt : Nat → Int32} {L : Nat → Nat → Int32} {rul riv : Nat → Int32} (hS : SeaM m n wgt L rul riv) (hB : SeaB n L rul riv a0 a1) (hw : w < n) (ha : a < 8) (o1 : gd st) (o2 : st < 7 + a) (t1 : m_isTold m (128 * a + 16 * grp L w a + mst st) = bI t) (t2 : t = true → may st = true) (hp : post (hAns L rul riv a0 a1 w a st t x3) m) : vM_hour_105 post (nI w) (nI a) x3 (nI (mst st)) m := by
  obtain ⟨hn, en, s1, s2, s3, s4⟩ := hS
  obtain ⟨b1, b2, b3, h0, h1, ha0, ha1⟩ := hB
  have hm := mst_lt o2 (by omega)
  have hle := grp_le L w a
  unfold hAns at hp
  unfold vM_hour_105
  refine q_groupOf (L := L) (fun u j hu hj => s2 u j (by omega) (by omega)) (by omega) (by omega) ?_
  rw [nI_ix, nI_clamp (show 128 * a + 16 * grp L w a + mst st < 2 ^ 31 by omega), t1]
  have em : nI (mst st) = 0 ↔ st = 0 := by
    rw [show (0 : Int32) = nI 0 from rfl, nI_eq (by omega) (by decide)]
    unfold mst
    split <;> omega
  rw [em]
  refine ⟨vp_in_nI (by omega) (by decide), fun c0 => ⟨fun c1 => ⟨fun c2 => ?_, fun c2 => ?_⟩, fun c1 => ?_⟩, fun c0 => ?_⟩
  · rw [if_neg c0, if_neg c1, if_neg c2] at hp
    exact q_lostIn s3 s4 (fun j hj => s2 w j hw hj) (fun j hj => b1 w j hw hj) b2 b3 h0 h1 ha0 ha1 o1 t2 (by omega) ha o2 hp
  · rw [if_neg c0, if_neg c1, if_pos c2] at hp
    exact q_waterIn s4 (fun j hj => s2 w j hw hj) ha0 ha1 o1 t2 (by omega) ha o2 hp
  · rw [if_neg c0, if_pos c1] at hp
    exact q_stateIn ha0 ha1 o1 (by omega) t2 hp
  · rw [if_pos c0] at hp
    cases t with
    | true =>
      rw [if_pos rfl] at hp
      refine ⟨fun _ => ⟨fun q => ?_, fun q => ?_⟩, fun q => absurd q (by decide)⟩
      · rw [if_neg q] at hp
        exact hp
      · rw [if_pos q] at hp
        exact hp
    | false => exact ⟨fun q => absurd rfl q, fun _ => hp⟩
