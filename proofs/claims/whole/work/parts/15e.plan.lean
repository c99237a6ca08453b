/-! ===== the plan ===== -/
def pw (g : GS) (nw th : Nat → Nat → Int64) (od : Nat → Nat → Int32) : GS := sz_orders (sz_then (sz_now g nw) th) od
theorem pw_now (g : GS) (nw th : Nat → Nat → Int64) (od : Nat → Nat → Int32) : z_now (pw g nw th od) = nw := rfl
theorem pw_then (g : GS) (nw th : Nat → Nat → Int64) (od : Nat → Nat → Int32) : z_then (pw g nw th od) = th := rfl
theorem pw_orders (g : GS) (nw th : Nat → Nat → Int64) (od : Nat → Nat → Int32) : z_orders (pw g nw th od) = od := rfl
theorem pw_ssize (g : GS) (nw th : Nat → Nat → Int64) (od : Nat → Nat → Int32) : z_ssize (pw g nw th od) = z_ssize g := rfl
theorem pw_weights (g : GS) (nw th : Nat → Nat → Int64) (od : Nat → Nat → Int32) : z_weights (pw g nw th od) = z_weights g := rfl
theorem pw_levels (g : GS) (nw th : Nat → Nat → Int64) (od : Nat → Nat → Int32) : z_levels (pw g nw th od) = z_levels g := rfl
theorem pw_heads (g : GS) (nw th : Nat → Nat → Int64) (od : Nat → Nat → Int32) : z_heads (pw g nw th od) = z_heads g := rfl
theorem pw_rules (g : GS) (nw th : Nat → Nat → Int64) (od : Nat → Nat → Int32) : z_rules (pw g nw th od) = z_rules g := rfl
theorem pw_rivers (g : GS) (nw th : Nat → Nat → Int64) (od : Nat → Nat → Int32) : z_rivers (pw g nw th od) = z_rivers g := rfl
theorem pw_snow (g : GS) (nw th x : Nat → Nat → Int64) (od : Nat → Nat → Int32) : sz_now (pw g nw th od) x = pw g x th od := rfl
theorem pw_sthen (g : GS) (nw th x : Nat → Nat → Int64) (od : Nat → Nat → Int32) : sz_then (pw g nw th od) x = pw g nw x od := rfl
theorem pw_sorders (g : GS) (nw th : Nat → Nat → Int64) (od x : Nat → Nat → Int32) : sz_orders (pw g nw th od) x = pw g nw th x := rfl
theorem pw_id (g : GS) : pw g (z_now g) (z_then g) (z_orders g) = g := rfl
theorem pw_SeaS {g : GS} {n : Nat} (h : SeaS g n) (nw th : Nat → Nat → Int64) (od : Nat → Nat → Int32) : SeaS (pw g nw th od) n := by
  unfold SeaS at h ⊢
  rw [pw_ssize, pw_weights, pw_heads, pw_levels]
  exact h
theorem Vd_s {n : Nat} {wgt : Nat → Int32} {lev : Nat → Nat → Int32} {rul riv : Nat → Int32} {h : Nat} (hh : h < 8) (w st : Nat) : Vd n wgt lev rul riv (8 - h) w st = lossL n wgt lev rul riv (Vd n wgt lev rul riv (7 - h)) h w st (tol n wgt lev rul riv h w st) := by
  rw [show 8 - h = (7 - h) + 1 by omega]
  show lossL n wgt lev rul riv (Vd n wgt lev rul riv (7 - h)) (7 - (7 - h)) w st (tolB n wgt lev rul riv (Vd n wgt lev rul riv (7 - h)) (7 - (7 - h)) w st) = _
  rw [show 7 - (7 - h) = h by omega]
  rfl
theorem lp_dg13 {post : GS → Prop} {g : GS} {n a0 a1 h w : Nat} {V : Nat → Nat → Int64} {nw0 th : Nat → Nat → Int64} {od0 : Nat → Nat → Int32} (eV : V = Vd n (z_weights g) (z_levels g) (z_rules g) (z_rivers g) (7 - h)) (hS : SeaS g n) (h0 : z_rules g 0 = nI a0) (h1 : z_rules g 1 = nI a1) (ha0 : 1 ≤ a0 ∧ a0 ≤ 3) (ha1 : 1 ≤ a1 ∧ a1 ≤ 3) (hw : w < n) (hh : h < 8) (hV : h < 7 → ∀ v, v < n → grp (z_levels g) v (h + 1) = v → ∀ s, s < 7 + (h + 1) → th v s = V v s)
  (hp : ∀ nw od, (∀ v s, ¬ v = w → nw v s = nw0 v s) → (∀ s, s < 7 + h → nw w s = Vd n (z_weights g) (z_levels g) (z_rules g) (z_rivers g) (8 - h) w s) → (∀ h' v, ¬ (h' = h ∧ v = w) → od h' v = od0 h' v) → (∀ s, s < 7 + h → (bit (od h w) s = true ↔ tol n (z_weights g) (z_levels g) (z_rules g) (z_rivers g) h w s = true)) → post (pw g nw th od)) :
  ∀ (d s : Nat) (nw : Nat → Nat → Int64) (od : Nat → Nat → Int32), s + d = 7 + h → (∀ v s, ¬ v = w → nw v s = nw0 v s) → (∀ s', s' < s → nw w s' = Vd n (z_weights g) (z_levels g) (z_rules g) (z_rivers g) (8 - h) w s') → (∀ h' v, ¬ (h' = h ∧ v = w) → od h' v = od0 h' v) → (∀ s', s' < s → (bit (od h w) s' = true ↔ tol n (z_weights g) (z_levels g) (z_rules g) (z_rivers g) h w s' = true)) → (∀ s', s ≤ s' → s' < 32 → bit (od h w) s' = false) → vPlan_decideGroup_13 post (d + 1) (nI h) (nI w) (wGr (z_weights g) (z_levels g) h w n) (nI s) (pw g nw th od) := by
  have e7 : (7 : Int32) + nI h = nI (7 + h) := nI_add 7 h
  have hn := hS.1
  intro d
  induction d with
  | zero =>
    intro s nw od hs i1 i2 i3 i4 i5
    have e : s = 7 + h := by omega
    subst e
    unfold vPlan_decideGroup_13
    rw [e7]
    exact ⟨fun _ => hp nw od i1 i2 i3 i4, fun q => absurd (nI_le (Nat.le_refl _) (by omega)) q⟩
  | succ d ih =>
    intro s nw od hs i1 i2 i3 i4 i5
    have hin : vp_in (nI w) 8 := vp_in_nI (by omega) (by decide)
    have hcl : (nI w).toNatClampNeg = w := nI_clamp (by omega)
    have hclh : (nI h).toNatClampNeg = h := nI_clamp (by omega)
    have hcs : (nI s).toNatClampNeg = s := nI_clamp (by omega)
    have hLF : ∀ (nw : Nat → Nat → Int64) (od : Nat → Nat → Int32) (told : Bool) (P : Int64 → GS → Prop), P (lossL n (z_weights g) (z_levels g) (z_rules g) (z_rivers g) V h w s told) (pw g nw th od) → vPlan_lossFrom (pw g nw th od) (nI h) (nI w) (wGr (z_weights g) (z_levels g) h w n) (nI s) (bI told) P := by
      intro nw od told P hP
      have hq := q_lossFrom (g := pw g nw th od) (post := P) (told := told) (V := V) (w := w) (h := h) (st := s) (pw_SeaS hS nw th od) (by rw [pw_rules]; exact h0) (by rw [pw_rules]; exact h1) ha0 ha1 hw hh (by omega) (by rw [pw_levels, pw_then]; exact hV) (by rw [pw_weights, pw_levels, pw_rules, pw_rivers]; exact hP)
      rw [pw_weights, pw_levels] at hq
      exact hq
    have hW : ∀ (od' : Nat → Nat → Int32) (x : Int64) (t : Bool), tol n (z_weights g) (z_levels g) (z_rules g) (z_rivers g) h w s = t → x = lossL n (z_weights g) (z_levels g) (z_rules g) (z_rivers g) V h w s t → (∀ h' v, ¬ (h' = h ∧ v = w) → od' h' v = od h' v) → (∀ i, i < 32 → bit (od' h w) i = (bit (od h w) i || (t && decide (i = s)))) → vPlan_decideGroup_81 post (fun x1 x2 x3 x4 g => vPlan_decideGroup_13 post (d + 1) x1 x2 x3 x4 g) (nI h) (nI w) (wGr (z_weights g) (z_levels g) h w n) (nI s) x (pw g nw th od') := by
      intro od' x t et ex eo eb
      unfold vPlan_decideGroup_81
      rw [pw_now, pw_snow, hcl, hcs, nI_1]
      refine ⟨hin, vp_in_nI (by omega) (by decide), ih (s + 1) _ od' (by omega) (fun v s' hv => ?_) (fun s' hs' => ?_) (fun h' v hv => ?_) (fun s' hs' => ?_) (fun s' hs1 hs2 => ?_)⟩
      · rw [va_up_ne _ _ hv]
        exact i1 v s' hv
      · rw [va_up_self]
        by_cases c : s' = s
        · rw [c, pk_uLs, Vd_s hh, et, ex, eV]
        · rw [pk_uLn c]
          exact i2 s' (by omega)
      · rw [eo h' v hv]
        exact i3 h' v hv
      · rw [eb s' (by omega)]
        by_cases c : s' = s
        · rw [c, i5 s (Nat.le_refl s) (by omega), et, decide_eq_true rfl, Bool.and_true, Bool.false_or]
        · rw [decide_eq_false c, Bool.and_false, Bool.or_false]
          exact i4 s' (by omega)
      · rw [eb s' hs2, i5 s' (by omega) hs2, decide_eq_false (show ¬ s' = s by omega), Bool.and_false]
        rfl
    have hb0 : ∀ i, i < 32 → bit (od h w) i = (bit (od h w) i || (false && decide (i = s))) := fun i _ => by rw [Bool.false_and, Bool.or_false]
    unfold vPlan_decideGroup_13
    rw [e7]
    refine ⟨fun q => absurd q (nI_ge (show s < 7 + h by omega) (by omega)), fun _ => hLF nw od false _ (q_may (by omega) ⟨fun q => ?_, fun q => hLF nw od true _ ⟨fun q2 => ?_, fun q2 => ?_⟩⟩)⟩
    · have et : tol n (z_weights g) (z_levels g) (z_rules g) (z_rivers g) h w s = false := by
        unfold tol tolB
        cases c : may s with
        | false => rfl
        | true =>
          rw [c] at q
          exact absurd q (by decide)
      exact hW od _ false et rfl (fun _ _ _ => rfl) hb0
    · have et : tol n (z_weights g) (z_levels g) (z_rules g) (z_rivers g) h w s = false := by
        unfold tol tolB
        rw [← eV, decide_eq_false (Int64.not_lt.mpr q2), Bool.and_false]
      exact hW od _ false et rfl (fun _ _ _ => rfl) hb0
    · have em : may s = true := by
        cases c : may s with
        | true => rfl
        | false =>
          rw [c] at q
          exact absurd rfl q
      have et : tol n (z_weights g) (z_levels g) (z_rules g) (z_rivers g) h w s = true := by
        unfold tol tolB
        rw [← eV, em, decide_eq_true (Int64.not_le.mp q2)]
        rfl
      rw [pw_orders, pw_sorders, hcl, hclh]
      refine ⟨vp_in_nI hh (by decide), hin, hin, hW _ _ true et rfl (fun h' v hv => ?_) (fun i hi => ?_)⟩
      · by_cases c : h' = h
        · rw [c, va_up_self, pk_un (fun e => hv ⟨c, e⟩)]
        · rw [va_up_ne _ _ c]
      · rw [va_up_self, pk_us, bit_or, bit_pow s (by omega) i hi, Bool.true_and]
theorem q_decideGroup {post : GS → Prop} {g : GS} {n a0 a1 h w : Nat} {nw0 th : Nat → Nat → Int64} {od0 : Nat → Nat → Int32} (hS : SeaS g n) (h0 : z_rules g 0 = nI a0) (h1 : z_rules g 1 = nI a1) (ha0 : 1 ≤ a0 ∧ a0 ≤ 3) (ha1 : 1 ≤ a1 ∧ a1 ≤ 3) (hw : w < n) (hh : h < 8) (hV : h < 7 → ∀ v, v < n → grp (z_levels g) v (h + 1) = v → ∀ s, s < 7 + (h + 1) → th v s = Vd n (z_weights g) (z_levels g) (z_rules g) (z_rivers g) (7 - h) v s) (hz : od0 h w = 0)
  (hp : ∀ nw od, (∀ v s, ¬ v = w → nw v s = nw0 v s) → (∀ s, s < 7 + h → nw w s = Vd n (z_weights g) (z_levels g) (z_rules g) (z_rivers g) (8 - h) w s) → (∀ h' v, ¬ (h' = h ∧ v = w) → od h' v = od0 h' v) → (∀ s, s < 7 + h → (bit (od h w) s = true ↔ tol n (z_weights g) (z_levels g) (z_rules g) (z_rivers g) h w s = true)) → post (pw g nw th od)) : vPlan_decideGroup (pw g nw0 th od0) (nI h) (nI w) post := by
  unfold vPlan_decideGroup
  refine q_wog (pw_SeaS hS nw0 th od0) hw hh ?_
  rw [pw_weights, pw_levels]
  exact ⟨7 + h + 1, lp_dg13 rfl hS h0 h1 ha0 ha1 hw hh hV hp (7 + h) 0 nw0 od0 (by omega) (fun _ _ _ => rfl) (fun s hs => absurd hs (Nat.not_lt_zero s)) (fun _ _ _ => rfl) (fun s hs => absurd hs (Nat.not_lt_zero s)) (fun s _ _ => by rw [hz]; exact BitVec.getLsbD_zero)⟩
