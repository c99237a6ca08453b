def okO (n : Nat) (wgt : Nat → Int32) (lev : Nat → Nat → Int32) (rul riv : Nat → Int32) (od : Nat → Nat → Int32) (h : Nat) : Prop := ∀ w, w < n → grp lev w h = w → ∀ s, s < 7 + h → (bit (od h w) s = true ↔ tol n wgt lev rul riv h w s = true)
theorem lp_dh2 {post : GS → Prop} {g : GS} {n h : Nat} {nw : Nat → Nat → Int64} {od : Nat → Nat → Int32} (hS : SeaS g n) (hp : ∀ th, (∀ v, v < n → ∀ s, s < 15 → th v s = nw v s) → vPlan_decideHour_38 post (nI h) (pw g nw th od)) : ∀ (d w : Nat) (th : Nat → Nat → Int64), w + d = n → (∀ v, v < w → ∀ s, s < 15 → th v s = nw v s) → vPlan_decideHour_2 post (d + 1) (nI h) (nI w) (pw g nw th od) := by
  have hn := hS.1
  intro d
  induction d with
  | zero =>
    intro w th hw hi
    have e : w = n := by omega
    subst e
    unfold vPlan_decideHour_2
    rw [pw_ssize, hS.2.1]
    exact ⟨fun _ => hp th hi, fun q => absurd (nI_le (Nat.le_refl w) (by omega)) q⟩
  | succ d ih =>
    intro w th hw hi
    have hin : vp_in (nI w) 8 := vp_in_nI (by omega) (by decide)
    unfold vPlan_decideHour_2
    rw [pw_ssize, hS.2.1, pw_now, pw_then, pw_sthen, nI_clamp (show w < 2 ^ 31 by omega), nI_1, show (0 : Int32).toNatClampNeg = 0 from rfl, show (15 : Int32).toNatClampNeg = 15 from rfl]
    refine ⟨fun q => absurd q (nI_ge (show w < n by omega) (by omega)), fun _ => ⟨hin, hin, by decide, by decide, by decide, by decide, by decide, ih (w + 1) _ (by omega) (fun v hv s hs => ?_)⟩⟩
    by_cases c : v = w
    · rw [c, va_up_self]
      unfold va_cpy
      rw [if_pos ⟨Nat.zero_le s, by omega⟩, Nat.sub_zero, Nat.zero_add]
    · rw [va_up_ne _ _ c]
      exact hi v (by omega) s hs
theorem lp_dh40 {post : GS → Prop} {g : GS} {n a0 a1 h : Nat} {th : Nat → Nat → Int64} {od0 : Nat → Nat → Int32} (hS : SeaS g n) (h0 : z_rules g 0 = nI a0) (h1 : z_rules g 1 = nI a1) (ha0 : 1 ≤ a0 ∧ a0 ≤ 3) (ha1 : 1 ≤ a1 ∧ a1 ≤ 3) (hh : h < 8) (hV : h < 7 → ∀ v, v < n → grp (z_levels g) v (h + 1) = v → ∀ s, s < 7 + (h + 1) → th v s = Vd n (z_weights g) (z_levels g) (z_rules g) (z_rivers g) (7 - h) v s)
  (hp : ∀ nw od, (∀ v, v < n → grp (z_levels g) v h = v → ∀ s, s < 7 + h → nw v s = Vd n (z_weights g) (z_levels g) (z_rules g) (z_rivers g) (8 - h) v s) → (∀ h' v, ¬ h' = h → od h' v = od0 h' v) → okO n (z_weights g) (z_levels g) (z_rules g) (z_rivers g) od h → post (pw g nw th od)) : ∀ (d w : Nat) (nw : Nat → Nat → Int64) (od : Nat → Nat → Int32), w + d = n → (∀ v, v < w → grp (z_levels g) v h = v → ∀ s, s < 7 + h → nw v s = Vd n (z_weights g) (z_levels g) (z_rules g) (z_rivers g) (8 - h) v s) → (∀ h' v, ¬ h' = h → od h' v = od0 h' v) → (∀ v, v < w → grp (z_levels g) v h = v → ∀ s, s < 7 + h → (bit (od h v) s = true ↔ tol n (z_weights g) (z_levels g) (z_rules g) (z_rivers g) h v s = true)) → vPlan_decideHour_40 post (d + 1) (nI h) (nI w) (pw g nw th od) := by
  have hn := hS.1
  intro d
  induction d with
  | zero =>
    intro w nw od hw i1 i2 i3
    have e : w = n := by omega
    subst e
    unfold vPlan_decideHour_40
    rw [pw_ssize, hS.2.1]
    exact ⟨fun _ => hp nw od i1 i2 i3, fun q => absurd (nI_le (Nat.le_refl w) (by omega)) q⟩
  | succ d ih =>
    intro w nw od hw i1 i2 i3
    have hin : vp_in (nI w) 8 := vp_in_nI (by omega) (by decide)
    have hinh : vp_in (nI h) 8 := vp_in_nI hh (by decide)
    have hle := grp_le (z_levels g) w h
    unfold vPlan_decideHour_40 vPlan_decideHour_81
    rw [pw_ssize, hS.2.1, pw_heads, pw_orders, pw_sorders, nI_clamp (show w < 2 ^ 31 by omega), nI_clamp (show h < 2 ^ 31 by omega), nI_1, hS.2.2.2 h w hh (by omega), nIk w (by omega) (by omega)]
    generalize hod : va_up od h (upd (od h) w 0) = od1
    have z1 : od1 h w = 0 := by
      rw [← hod, va_up_self, pk_us]
    have z2 : ∀ h' v, ¬ (h' = h ∧ v = w) → od1 h' v = od h' v := fun h' v hv => by
      rw [← hod]
      by_cases c : h' = h
      · rw [c, va_up_self, pk_un (fun e => hv ⟨c, e⟩)]
      · rw [va_up_ne _ _ c]
    refine ⟨fun q => absurd q (nI_ge (show w < n by omega) (by omega)), fun _ => ⟨hinh, hin, hinh, hin, fun q => ?_, fun q => ?_⟩⟩
    · refine ih (w + 1) nw od1 (by omega) (fun v hv hg => ?_) (fun h' v hv => ?_) (fun v hv hg => ?_)
      · by_cases c : v = w
        · rw [c] at hg
          exact absurd hg q
        · exact i1 v (by omega) hg
      · rw [z2 h' v (fun z => hv z.1)]
        exact i2 h' v hv
      · by_cases c : v = w
        · rw [c] at hg
          exact absurd hg q
        · rw [z2 h v (fun z => c z.2)]
          exact i3 v (by omega) hg
    · refine q_decideGroup hS h0 h1 ha0 ha1 (by omega) hh hV z1 (fun nw2 od2 j1 j2 j3 j4 => ?_)
      refine ih (w + 1) nw2 od2 (by omega) (fun v hv hg s hs => ?_) (fun h' v hv => ?_) (fun v hv hg s hs => ?_)
      · by_cases c : v = w
        · rw [c]
          exact j2 s hs
        · rw [j1 v s c]
          exact i1 v (by omega) hg s hs
      · rw [j3 h' v (fun z => hv z.1), z2 h' v (fun z => hv z.1)]
        exact i2 h' v hv
      · by_cases c : v = w
        · rw [c]
          exact j4 s hs
        · rw [j3 h v (fun z => c z.2), z2 h v (fun z => c z.2)]
          exact i3 v (by omega) hg s hs
theorem q_decideHour {post : GS → Prop} {g : GS} {n a0 a1 h : Nat} {nw th : Nat → Nat → Int64} {od : Nat → Nat → Int32} (hS : SeaS g n) (h0 : z_rules g 0 = nI a0) (h1 : z_rules g 1 = nI a1) (ha0 : 1 ≤ a0 ∧ a0 ≤ 3) (ha1 : 1 ≤ a1 ∧ a1 ≤ 3) (hh : h < 8) (hV : h < 7 → ∀ v, v < n → grp (z_levels g) v (h + 1) = v → ∀ s, s < 7 + (h + 1) → nw v s = Vd n (z_weights g) (z_levels g) (z_rules g) (z_rivers g) (7 - h) v s) (hO : ∀ h', h < h' → h' < 8 → okO n (z_weights g) (z_levels g) (z_rules g) (z_rivers g) od h')
  (hp : ∀ nw th od, (∀ v, v < n → grp (z_levels g) v h = v → ∀ s, s < 7 + h → nw v s = Vd n (z_weights g) (z_levels g) (z_rules g) (z_rivers g) (8 - h) v s) → (∀ h', h ≤ h' → h' < 8 → okO n (z_weights g) (z_levels g) (z_rules g) (z_rivers g) od h') → post (pw g nw th od)) : vPlan_decideHour (pw g nw th od) (nI h) post := by
  unfold vPlan_decideHour
  refine ⟨n + 1, lp_dh2 hS (fun th2 hth => ?_) n 0 th (by omega) (fun v hv => absurd hv (Nat.not_lt_zero v))⟩
  unfold vPlan_decideHour_38
  refine ⟨n + 1, lp_dh40 (od0 := od) hS h0 h1 ha0 ha1 hh (fun q v hv hg s hs => ?_) (fun nw2 od2 j1 j2 j3 => hp nw2 th2 od2 j1 (fun h' q1 q2 => ?_)) n 0 nw od (by omega) (fun v hv => absurd hv (Nat.not_lt_zero v)) (fun _ _ _ => rfl) (fun v hv => absurd hv (Nat.not_lt_zero v))⟩
  · rw [hth v hv s (by omega)]
    exact hV q v hv hg s hs
  · by_cases c : h' = h
    · rw [c]
      exact j3
    · have ho := hO h' (by omega) q2
      unfold okO at ho ⊢
      intro w hw hg s hs
      rw [j2 h' w c]
      exact ho w hw hg s hs
theorem pl_ssize (g : GS) (l : Int64) : z_ssize (sz_loss g l) = z_ssize g := rfl
theorem pl_heads (g : GS) (l : Int64) : z_heads (sz_loss g l) = z_heads g := rfl
theorem pl_now (g : GS) (l : Int64) : z_now (sz_loss g l) = z_now g := rfl
theorem pl_loss (g : GS) (l : Int64) : z_loss (sz_loss g l) = l := rfl
theorem pl_sloss (g : GS) (l l2 : Int64) : sz_loss (sz_loss g l) l2 = sz_loss g l2 := rfl
theorem lp_rf33 {post : GS → Prop} {g : GS} {n : Nat} {b : Nat → Int64} (en : z_ssize g = nI n) (hn : n ≤ 8) {lev : Nat → Nat → Int32} (hhd : ∀ w, w < n → z_heads g 0 w = nI (grp lev w 0)) (hb : ∀ w, w < n → grp lev w 0 = w → z_now g w 0 = b w) (hp : post (sz_stale (sz_loss g (sm64 (fun v => if grp lev v 0 = v then b v else 0) n)) 0)) : ∀ d w : Nat, w + d = n → vPlan_refresh_33 post (d + 1) (nI w) (sz_loss g (sm64 (fun v => if grp lev v 0 = v then b v else 0) w)) := by
  intro d
  induction d with
  | zero =>
    intro w hw
    have e : w = n := by omega
    subst e
    unfold vPlan_refresh_33 vPlan_refresh_82
    rw [pl_ssize, en]
    exact ⟨fun _ => hp, fun q => absurd (nI_le (Nat.le_refl w) (by omega)) q⟩
  | succ d ih =>
    intro w hw
    have ih := ih (w + 1) (by omega)
    unfold sm64 at ih
    have hin : vp_in (nI w) 8 := vp_in_nI (by omega) (by decide)
    have hle := grp_le lev w 0
    unfold vPlan_refresh_33 vPlan_refresh_76
    rw [pl_ssize, en, pl_heads, pl_now, pl_loss, pl_sloss, nI_clamp (show w < 2 ^ 31 by omega), nI_1, hhd w (by omega), nIk w (by omega) (by omega)]
    refine ⟨fun q => absurd q (nI_ge (show w < n by omega) (by omega)), fun _ => ⟨hin, fun q => ?_, fun q => ⟨hin, ?_⟩⟩⟩
    · rw [if_neg q, Int64.add_zero] at ih
      exact ih
    · rw [if_pos q] at ih
      rw [hb w (by omega) q]
      exact ih
theorem lp_rf11 {post : GS → Prop} {g : GS} {n a0 a1 : Nat} (hS : SeaS g n) (h0 : z_rules g 0 = nI a0) (h1 : z_rules g 1 = nI a1) (ha0 : 1 ≤ a0 ∧ a0 ≤ 3) (ha1 : 1 ≤ a1 ∧ a1 ≤ 3)
  (hp : ∀ nw th od, (∀ h, h < 8 → okO n (z_weights g) (z_levels g) (z_rules g) (z_rivers g) od h) → post (sz_stale (sz_loss (pw g nw th od) (bestF n (z_weights g) (z_levels g) (z_rules g) (z_rivers g))) 0)) : ∀ (h : Nat) (nw th : Nat → Nat → Int64) (od : Nat → Nat → Int32), h < 8 → (h < 7 → ∀ v, v < n → grp (z_levels g) v (h + 1) = v → ∀ s, s < 7 + (h + 1) → nw v s = Vd n (z_weights g) (z_levels g) (z_rules g) (z_rivers g) (7 - h) v s) → (∀ h', h < h' → h' < 8 → okO n (z_weights g) (z_levels g) (z_rules g) (z_rivers g) od h') → vPlan_refresh_11 post (h + 2) (nI h) (pw g nw th od) := by
  intro h
  induction h with
  | zero =>
    intro nw th od hh hV hO
    unfold vPlan_refresh_11
    refine ⟨fun q => absurd q (by decide), fun _ => q_decideHour hS h0 h1 ha0 ha1 hh hV hO (fun nw2 th2 od2 j1 j2 => ?_)⟩
    unfold vPlan_refresh_11 vPlan_refresh_26
    refine ⟨fun _ => ⟨n + 1, ?_⟩, fun q => absurd (show nI 0 + -1 < (0 : Int32) by decide) q⟩
    exact lp_rf33 (g := pw g nw2 th2 od2) (lev := z_levels g) (b := fun w => Vd n (z_weights g) (z_levels g) (z_rules g) (z_rivers g) 8 w 0) (by rw [pw_ssize]; exact hS.2.1) hS.1 (fun w hw => by rw [pw_heads]; exact hS.2.2.2 0 w (by decide) hw) (fun w hw hg => by rw [pw_now]; exact j1 w hw hg 0 (by omega)) (hp nw2 th2 od2 (fun h' hh' => j2 h' (Nat.zero_le h') hh')) n 0 (by omega)
  | succ h ih =>
    intro nw th od hh hV hO
    unfold vPlan_refresh_11
    refine ⟨fun q => absurd q (nI_n0 (by omega)), fun _ => q_decideHour hS h0 h1 ha0 ha1 hh hV hO (fun nw2 th2 od2 j1 j2 => ?_)⟩
    rw [nI_dec]
    refine ih nw2 th2 od2 (by omega) (fun _ v hv hg s hs => ?_) (fun h' q1 q2 => j2 h' q1 q2)
    have := j1 v hv hg s hs
    rw [show 8 - (h + 1) = 7 - h by omega] at this
    exact this
theorem R.seaS {g : GS} {m : GM} (h : R g m) : ∃ n, SeaS g n ∧ m_worlds m = nI n := by
  obtain ⟨n, hn, en1, en2, hwt, hlv, hhd⟩ := h.wo
  refine ⟨n, ⟨hn, en1, fun w hw => ?_, hhd⟩, en2⟩
  obtain ⟨a, -, b1, b2, -⟩ := hwt w hw
  exact ⟨a, b1, b2⟩
theorem q_refresh {post : GS → Prop} {g : GS} {m : GM} (h : R g m) (hp : ∀ g', R g' m → z_stale g' = 0 → post g') : vPlan_refresh g post := by
  obtain ⟨n, hS, -⟩ := h.seaS
  obtain ⟨r0, -, r1, r2, r3⟩ := h.ru.1 0 (by decide)
  obtain ⟨q0, -, q1, q2, q3⟩ := h.ru.1 1 (by decide)
  unfold vPlan_refresh
  refine ⟨fun _ => ⟨9, ?_⟩, fun c => hp g h c⟩
  have hn : (z_ssize g).toNatClampNeg = n := by
    have := hS.1
    rw [hS.2.1]
    exact nI_clamp (by omega)
  have hl := lp_rf11 (post := post) hS r2 q2 (r1 (by decide)) (q1 (by decide)) (fun nw th od ho => hp _ ?_ rfl) 7 (z_now g) (z_then g) (z_orders g) (by decide) (fun z => absurd z (by decide)) (fun h' a b => by omega)
  · rw [pw_id] at hl
    exact hl
  · unfold pw
    simp only [R, zz_finding_now, zz_items_now, zz_lanes_now, zz_sizes_now, zz_weights_now, zz_levels_now, zz_heads_now, zz_ssize_now, zz_rules_now, zz_rivers_now, zz_orders_now, zz_now_now, zz_then_now, zz_loss_now, zz_stale_now, zz_ga_now, zz_free_now, zz_rsize_now, zz_fmin_now, zz_fpass_now, zz_inTurn_now, zz_fsize_now, zz_numbers_now, zz_tlen_now, zz_gk_now, zz_gm_now, zz_gh_now, zz_gf_now, zz_gn_now, vSh_now, vSea_now, vGa_now, vSp_now, vTr_now, zz_finding_then, zz_items_then, zz_lanes_then, zz_sizes_then, zz_weights_then, zz_levels_then, zz_heads_then, zz_ssize_then, zz_rules_then, zz_rivers_then, zz_orders_then, zz_now_then, zz_then_then, zz_loss_then, zz_stale_then, zz_ga_then, zz_free_then, zz_rsize_then, zz_fmin_then, zz_fpass_then, zz_inTurn_then, zz_fsize_then, zz_numbers_then, zz_tlen_then, zz_gk_then, zz_gm_then, zz_gh_then, zz_gf_then, zz_gn_then, vSh_then, vSea_then, vGa_then, vSp_then, vTr_then, zz_finding_orders, zz_items_orders, zz_lanes_orders, zz_sizes_orders, zz_weights_orders, zz_levels_orders, zz_heads_orders, zz_ssize_orders, zz_rules_orders, zz_rivers_orders, zz_orders_orders, zz_now_orders, zz_then_orders, zz_loss_orders, zz_stale_orders, zz_ga_orders, zz_free_orders, zz_rsize_orders, zz_fmin_orders, zz_fpass_orders, zz_inTurn_orders, zz_fsize_orders, zz_numbers_orders, zz_tlen_orders, zz_gk_orders, zz_gm_orders, zz_gh_orders, zz_gf_orders, zz_gn_orders, vSh_orders, vSea_orders, vGa_orders, vSp_orders, vTr_orders, zz_finding_loss, zz_items_loss, zz_lanes_loss, zz_sizes_loss, zz_weights_loss, zz_levels_loss, zz_heads_loss, zz_ssize_loss, zz_rules_loss, zz_rivers_loss, zz_orders_loss, zz_now_loss, zz_then_loss, zz_loss_loss, zz_stale_loss, zz_ga_loss, zz_free_loss, zz_rsize_loss, zz_fmin_loss, zz_fpass_loss, zz_inTurn_loss, zz_fsize_loss, zz_numbers_loss, zz_tlen_loss, zz_gk_loss, zz_gm_loss, zz_gh_loss, zz_gf_loss, zz_gn_loss, vSh_loss, vSea_loss, vGa_loss, vSp_loss, vTr_loss, zz_finding_stale, zz_items_stale, zz_lanes_stale, zz_sizes_stale, zz_weights_stale, zz_levels_stale, zz_heads_stale, zz_ssize_stale, zz_rules_stale, zz_rivers_stale, zz_orders_stale, zz_now_stale, zz_then_stale, zz_loss_stale, zz_stale_stale, zz_ga_stale, zz_free_stale, zz_rsize_stale, zz_fmin_stale, zz_fpass_stale, zz_inTurn_stale, zz_fsize_stale, zz_numbers_stale, zz_tlen_stale, zz_gk_stale, zz_gm_stale, zz_gh_stale, zz_gf_stale, zz_gn_stale, vSh_stale, vSea_stale, vGa_stale, vSp_stale, vTr_stale]
    refine ⟨h.1, h.2.1, ⟨h.wo, h.ru, Or.inl rfl, fun _ => ?_⟩, h.2.2.2⟩
    show _ = bestF (z_ssize g).toNatClampNeg _ _ _ _ ∧ ∀ h w, h < 8 → w < (z_ssize g).toNatClampNeg → _
    rw [hn]
    refine ⟨rfl, fun h' w hh hw hg st hs => ?_⟩
    rw [bit_t1 (by omega)]
    exact ho h' hh w hw hg st hs
