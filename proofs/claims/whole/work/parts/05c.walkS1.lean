theorem hdSG_within : yX11_within.cls = RX11 ∧ yX11_within.cls ≠ "java/lang/invoke/MethodHandle" ∧ yX11_within.cls ≠ "java/lang/invoke/VarHandle" ∧ (parseMethodDescriptor yX11_within.desc).map (fun d => d.parameters.length) = some 3 := by decide +kernel
abbrev rSG_within : Room := { frames := 0, cells := 0, slots := 0, locals := 0 }
def vSG_within (g : GS) (a0 : Int32) (a1 : Int32) (a2 : Int32) (post : Int32 → GS → Prop) : Prop :=
  ((a0 < a1 → post (0 : Int32) g) ∧ (¬ a0 < a1 → ((a2 < a0 → post (0 : Int32) g) ∧ (¬ a2 < a0 → post (1 : Int32) g))))
set_option maxHeartbeats 4000000 in
set_option maxRecDepth 100000 in
theorem cSG_within {l : Launch} {D : va_G} {ad : Nat → Nat} {cy : Nat → ClassId} {g : GS} {a0 : Int32} {a1 : Int32} {a2 : Int32} {post : Int32 → GS → Prop} (hv : vSG_within g a0 a1 a2 post) : jMi l yX11_within wsX11_within rSG_within D (tyS cy) [.int a0, .int a1, .int a2] (wS ad cy g) (wS ad cy) post 0 0 := by
  refine j_meti (cc := cX11_within) (nL := 3) (rt := (some .boolean)) (by decide) (Nat.le_of_ble_eq_true rfl) ?_
  intro Γ hC hQ _
  have hC : jC Γ l rSG_within D 3 RX11 cX11_within wsX11_within (tyS cy) := hC
  refine j_lv (lv' := [(0, .int a0), (1, .int a1), (2, .int a2)]) [0, 1, 2] rfl ?_
  unfold vSG_within at hv
  refine j_iload_n (i := 1) hC dX11_within_0 rfl 1 rfl ?_
  refine j_iload_n (i := 0) hC dX11_within_1 rfl 0 rfl ?_
  refine j_icmp_gt (tgt := 14) hC dX11_within_2 (by decide) (fun h_ => ?_) (fun h_ => ?_)
  · have hv := hv.1 h_
    refine j_iconst (v := 0) hC dX11_within_14 (by decide) ?_
    exact j_zret hC hQ dX11_within_15 rfl rfl hv
  · have hv := hv.2 h_
    refine j_iload_n (i := 0) hC dX11_within_5 rfl 0 rfl ?_
    refine j_iload_n (i := 2) hC dX11_within_6 rfl 2 rfl ?_
    refine j_icmp_gt (tgt := 14) hC dX11_within_7 (by decide) (fun h_ => ?_) (fun h_ => ?_)
    · have hv := hv.1 h_
      refine j_iconst (v := 0) hC dX11_within_14 (by decide) ?_
      exact j_zret hC hQ dX11_within_15 rfl rfl hv
    · have hv := hv.2 h_
      refine j_iconst (v := 1) hC dX11_within_10 (by decide) ?_
      refine j_goto (tgt := 15) hC dX11_within_11 (by decide) ?_
      exact j_zret hC hQ dX11_within_15 rfl rfl hv
theorem hdSG_found : yX11_found.cls = RX11 ∧ yX11_found.cls ≠ "java/lang/invoke/MethodHandle" ∧ yX11_found.cls ≠ "java/lang/invoke/VarHandle" ∧ (parseMethodDescriptor yX11_found.desc).map (fun d => d.parameters.length) = some 1 := by decide +kernel
abbrev rSG_found : Room := { frames := 0, cells := 0, slots := 0, locals := 0 }
def vSG_found (g : GS) (a1 : Int32) (post : Int32 → GS → Prop) : Prop :=
  post ((-1000010 : Int32) - a1) (sz_finding g a1)
set_option maxHeartbeats 4000000 in
set_option maxRecDepth 100000 in
theorem cSG_found {l : Launch} {D : va_G} {ad : Nat → Nat} {cy : Nat → ClassId} {g : GS} {a1 : Int32} {post : Int32 → GS → Prop} (hv : vSG_found g a1 post) : jMi l yX11_found wsX11_found rSG_found D (tyS cy) [.ref (ad 0), .int a1] (wS ad cy g) (wS ad cy) post 0 0 := by
  refine j_meti (cc := cX11_found) (nL := 2) (rt := (some .int)) (by decide) (Nat.le_of_ble_eq_true rfl) ?_
  intro Γ hC hQ _
  have hC : jC Γ l rSG_found D 2 RX11 cX11_found wsX11_found (tyS cy) := hC
  have hinX11 : ∀ w ∈ wsX110, w ∈ wsX11_found := fun w h => List.mem_cons_of_mem _ (List.mem_append_right _ h)
  refine j_lv (lv' := [(0, .ref (ad 0)), (1, .int a1)]) [0, 1] rfl ?_
  unfold vSG_found at hv
  refine j_aload_n (i := 0) hC dX11_found_0 rfl 0 rfl ?_
  refine j_iload_n (i := 1) hC dX11_found_1 rfl 1 rfl ?_
  refine j_put (C := RX11) (T := TX11) (N := 8) (ty := .int) hC hinX11 tyX11 tyX11_ok nmX11 0 (wS_c0 ad cy _) rfl 7 (by decide) (mw 1 rfl) rfl rfl fdX11_7 rfl rfl (Nat.le_of_ble_eq_true rfl) (wS_p_finding ad cy _ _) dX11_found_2 ?_
  refine j_ldcw (v := -1000010) hC dX11_found_5 (mw 2 rfl) ?_
  refine j_iload_n (i := 1) hC dX11_found_8 rfl 1 rfl ?_
  refine j_isub hC dX11_found_9 ?_
  exact j_iret hC hQ dX11_found_10 rfl hv
theorem hdSheets_lay : yX7_lay.cls = RX7 ∧ yX7_lay.cls ≠ "java/lang/invoke/MethodHandle" ∧ yX7_lay.cls ≠ "java/lang/invoke/VarHandle" ∧ (parseMethodDescriptor yX7_lay.desc).map (fun d => d.parameters.length) = some 3 := by decide +kernel
abbrev rSheets_lay : Room := { frames := 1, cells := 0, slots := 0, locals := 23 }
def vSheets_lay (g : GS) (a1 : Int32) (a2 : Int32) (a3 : Int32) (post : GS → Prop) : Prop :=
  (vp_in a1 8 ∧ (vp_in a1 8 ∧ (vp_in a1 8 ∧ post (sz_items (sz_sizes (sz_lanes g (upd (z_lanes g) a1.toNatClampNeg a2)) (upd (z_sizes g) a1.toNatClampNeg a3)) (va_up (z_items g) a1.toNatClampNeg (jfill 60 (0 : Int32) ((z_items g) a1.toNatClampNeg)))))))
set_option maxHeartbeats 4000000 in
set_option maxRecDepth 100000 in
theorem cSheets_lay {l : Launch} {D : va_G} {ad : Nat → Nat} {cy : Nat → ClassId} {g : GS} {a1 : Int32} {a2 : Int32} {a3 : Int32} {post : GS → Prop} (hv : vSheets_lay g a1 a2 a3 post) : jMv l yX7_lay wsX7_lay rSheets_lay D (tyS cy) [.ref (ad 1), .int a1, .int a2, .int a3] (wS ad cy g) (wS ad cy) post 0 0 := by
  refine j_metv (cc := cX7_lay) (nL := 4) (rt := none) (by decide) (Nat.le_of_ble_eq_true rfl) ?_
  intro Γ hC hQ _
  have hC : jC Γ l rSheets_lay D 4 RX7 cX7_lay wsX7_lay (tyS cy) := hC
  have hinX7 : ∀ w ∈ wsX70, w ∈ wsX7_lay := fun w h => List.mem_cons_of_mem _ (List.mem_append_right _ h)
  refine j_lv (lv' := [(0, .ref (ad 1)), (1, .int a1), (2, .int a2), (3, .int a3)]) [0, 1, 2, 3] rfl ?_
  unfold vSheets_lay at hv
  refine j_aload_n (i := 0) hC dX7_lay_0 rfl 0 rfl ?_
  refine j_get (C := RX7) (T := TX7) (N := 3) (v := .ref (ad 3)) hC hinX7 1 (wS_c1 ad cy _) rfl 1 (by decide) (mw 1 rfl) rfl rfl dX7_lay_1 ?_
  refine j_iload_n (i := 1) hC dX7_lay_4 rfl 1 rfl ?_
  refine j_iload_n (i := 2) hC dX7_lay_5 rfl 2 rfl ?_
  have hb6 := hv.1
  have hv := hv.2
  refine j_iast hC _ 0 (wS_c3 ad cy _) rfl hb6 (wS_s_lanes ad cy _ _) dX7_lay_6 ?_
  refine j_aload_n (i := 0) hC dX7_lay_7 rfl 0 rfl ?_
  refine j_get (C := RX7) (T := TX7) (N := 3) (v := .ref (ad 4)) hC hinX7 1 (wS_c1 ad cy _) rfl 2 (by decide) (mw 2 rfl) rfl rfl dX7_lay_8 ?_
  refine j_iload_n (i := 1) hC dX7_lay_11 rfl 1 rfl ?_
  refine j_iload_n (i := 3) hC dX7_lay_12 rfl 3 rfl ?_
  have hb13 := hv.1
  have hv := hv.2
  refine j_iast hC _ 0 (wS_c4 ad cy _) rfl hb13 (wS_s_sizes ad cy _ _) dX7_lay_13 ?_
  refine j_aload_n (i := 0) hC dX7_lay_14 rfl 0 rfl ?_
  refine j_get (C := RX7) (T := TX7) (N := 3) (v := .ref (ad 2)) hC hinX7 1 (wS_c1 ad cy _) rfl 0 (by decide) (mw 3 rfl) rfl rfl dX7_lay_15 ?_
  refine j_iload_n (i := 1) hC dX7_lay_18 rfl 1 rfl ?_
  have hb19 := hv.1
  have hv := hv.2
  refine j_aald (v := .ref (ad (25 + a1.toNatClampNeg))) hC 2 3 (wS_c2 ad cy _) rfl rfl hb19 (jrow ad 25 (j := a1.toNatClampNeg) (jlt hb19)) dX7_lay_19 ?_
  refine j_iconst (v := 0) hC dX7_lay_20 (by decide) ?_
  refine j_callS_v (As := [.ref (ad (25 + a1.toNatClampNeg)), .int (0 : Int32)]) (rest := []) hC (cJ_fill (v := (0 : Int32)) 0 (wS_r_items ad cy _ (jlt hb19)) rfl (by decide)) 2 gX7_lay_J7_fill_53178 rfl rfl rfl ⟨Nat.le_of_ble_eq_true rfl, Nat.le_of_ble_eq_true rfl⟩ hdJ_fill rfl rfl (Nat.le_of_ble_eq_true rfl) ⟨Nat.zero_le _, Nat.zero_le _⟩ dX7_lay_21 (fun _ _ => ?_)
  refine j_ws (wS_s_items ad cy _ (jlt hb19) _) ?_
  exact j_vret hC hQ dX7_lay_24 rfl hv
theorem hdSG_fine : yX11_fine.cls = RX11 ∧ yX11_fine.cls ≠ "java/lang/invoke/MethodHandle" ∧ yX11_fine.cls ≠ "java/lang/invoke/VarHandle" ∧ (parseMethodDescriptor yX11_fine.desc).map (fun d => d.parameters.length) = some 1 := by decide +kernel
abbrev rSG_fine : Room := { frames := 0, cells := 0, slots := 0, locals := 0 }
def vSG_fine (g : GS) (a1 : Int32) (post : Int32 → GS → Prop) : Prop :=
  post a1 (sz_finding g (0 : Int32))
set_option maxHeartbeats 4000000 in
set_option maxRecDepth 100000 in
theorem cSG_fine {l : Launch} {D : va_G} {ad : Nat → Nat} {cy : Nat → ClassId} {g : GS} {a1 : Int32} {post : Int32 → GS → Prop} (hv : vSG_fine g a1 post) : jMi l yX11_fine wsX11_fine rSG_fine D (tyS cy) [.ref (ad 0), .int a1] (wS ad cy g) (wS ad cy) post 0 0 := by
  refine j_meti (cc := cX11_fine) (nL := 2) (rt := (some .int)) (by decide) (Nat.le_of_ble_eq_true rfl) ?_
  intro Γ hC hQ _
  have hC : jC Γ l rSG_fine D 2 RX11 cX11_fine wsX11_fine (tyS cy) := hC
  have hinX11 : ∀ w ∈ wsX110, w ∈ wsX11_fine := fun w h => List.mem_cons_of_mem _ (List.mem_append_right _ h)
  refine j_lv (lv' := [(0, .ref (ad 0)), (1, .int a1)]) [0, 1] rfl ?_
  unfold vSG_fine at hv
  refine j_aload_n (i := 0) hC dX11_fine_0 rfl 0 rfl ?_
  refine j_iconst (v := 0) hC dX11_fine_1 (by decide) ?_
  refine j_put (C := RX11) (T := TX11) (N := 8) (ty := .int) hC hinX11 tyX11 tyX11_ok nmX11 0 (wS_c0 ad cy _) rfl 7 (by decide) (mw 1 rfl) rfl rfl fdX11_7 rfl rfl (Nat.le_of_ble_eq_true rfl) (wS_p_finding ad cy _ _) dX11_fine_2 ?_
  refine j_iload_n (i := 1) hC dX11_fine_5 rfl 1 rfl ?_
  exact j_iret hC hQ dX11_fine_6 rfl hv
theorem hdSG_sheet : yX11_sheet.cls = RX11 ∧ yX11_sheet.cls ≠ "java/lang/invoke/MethodHandle" ∧ yX11_sheet.cls ≠ "java/lang/invoke/VarHandle" ∧ (parseMethodDescriptor yX11_sheet.desc).map (fun d => d.parameters.length) = some 3 := by decide +kernel
abbrev rSG_sheet : Room := { frames := 2, cells := 0, slots := 0, locals := 46 }
def vSG_sheet (g : GS) (a1 : Int32) (a2 : Int32) (a3 : Int32) (post : Int32 → GS → Prop) : Prop :=
  (vSG_within g a1 (0 : Int32) (7 : Int32) (fun r4 g4 => ((r4 = (0 : Int32) → post (-1000001 : Int32) g4) ∧ (¬ r4 = (0 : Int32) → (vSG_within g4 a2 (0 : Int32) (2 : Int32) (fun r13 g13 => ((r13 = (0 : Int32) → post (-1000001 : Int32) g13) ∧ (¬ r13 = (0 : Int32) → ((a3 ≤ (60 : Int32) → (((0 : Int32) ≤ a3 → (vSheets_lay g13 a1 a2 a3 (fun g45 => (vSG_fine g45 a3 (fun r50 g50 => post r50 g50))))) ∧ (¬ (0 : Int32) ≤ a3 → (vSG_found g13 (4 : Int32) (fun r34 g34 => post r34 g34))))) ∧ (¬ a3 ≤ (60 : Int32) → post (-1000001 : Int32) g13))))))))))
set_option maxHeartbeats 4000000 in
set_option maxRecDepth 100000 in
theorem cSG_sheet {l : Launch} {D : va_G} {ad : Nat → Nat} {cy : Nat → ClassId} {g : GS} {a1 : Int32} {a2 : Int32} {a3 : Int32} {post : Int32 → GS → Prop} (hv : vSG_sheet g a1 a2 a3 post) : jMi l yX11_sheet wsX11_sheet rSG_sheet D (tyS cy) [.ref (ad 0), .int a1, .int a2, .int a3] (wS ad cy g) (wS ad cy) post 0 0 := by
  refine j_meti (cc := cX11_sheet) (nL := 4) (rt := (some .int)) (by decide) (Nat.le_of_ble_eq_true rfl) ?_
  intro Γ hC hQ _
  have hC : jC Γ l rSG_sheet D 4 RX11 cX11_sheet wsX11_sheet (tyS cy) := hC
  have hinX11 : ∀ w ∈ wsX110, w ∈ wsX11_sheet := fun w h => List.mem_cons_of_mem _ (List.mem_append_left _ (List.mem_append_right _ h))
  refine j_lv (lv' := [(0, .ref (ad 0)), (1, .int a1), (2, .int a2), (3, .int a3)]) [0, 1, 2, 3] rfl ?_
  unfold vSG_sheet at hv
  refine j_iload_n (i := 1) hC dX11_sheet_0 rfl 1 rfl ?_
  refine j_iconst (v := 0) hC dX11_sheet_1 (by decide) ?_
  refine j_bipush (v := 7) hC dX11_sheet_2 (by decide) ?_
  refine j_callS_i (As := [.int a1, .int (0 : Int32), .int (7 : Int32)]) (rest := []) hC (cSG_within hv) 3 gX11_sheet_X11_within rfl rfl rfl ⟨Nat.le_of_ble_eq_true rfl, Nat.le_of_ble_eq_true rfl⟩ hdSG_within.2 rfl rfl (Nat.le_of_ble_eq_true rfl) ⟨Nat.zero_le _, Nat.zero_le _⟩ dX11_sheet_4 (fun r4 g4 hv => ?_)
  refine j_if_eq (tgt := 25) hC dX11_sheet_7 (by decide) (fun h_ => ?_) (fun h_ => ?_)
  · have hv := hv.1 h_
    refine j_ldc (v := -1000001) hC dX11_sheet_25 (mw 1 rfl) ?_
    exact j_iret hC hQ dX11_sheet_27 rfl hv
  · have hv := hv.2 h_
    refine j_iload_n (i := 2) hC dX11_sheet_10 rfl 2 rfl ?_
    refine j_iconst (v := 0) hC dX11_sheet_11 (by decide) ?_
    refine j_iconst (v := 2) hC dX11_sheet_12 (by decide) ?_
    refine j_callS_i (As := [.int a2, .int (0 : Int32), .int (2 : Int32)]) (rest := []) hC (cSG_within hv) 3 gX11_sheet_X11_within rfl rfl rfl ⟨Nat.le_of_ble_eq_true rfl, Nat.le_of_ble_eq_true rfl⟩ hdSG_within.2 rfl rfl (Nat.le_of_ble_eq_true rfl) ⟨Nat.zero_le _, Nat.zero_le _⟩ dX11_sheet_13 (fun r13 g13 hv => ?_)
    refine j_if_eq (tgt := 25) hC dX11_sheet_16 (by decide) (fun h_ => ?_) (fun h_ => ?_)
    · have hv := hv.1 h_
      refine j_ldc (v := -1000001) hC dX11_sheet_25 (mw 1 rfl) ?_
      exact j_iret hC hQ dX11_sheet_27 rfl hv
    · have hv := hv.2 h_
      refine j_iload_n (i := 3) hC dX11_sheet_19 rfl 3 rfl ?_
      refine j_bipush (v := 60) hC dX11_sheet_20 (by decide) ?_
      refine j_icmp_le (tgt := 28) hC dX11_sheet_22 (by decide) (fun h_ => ?_) (fun h_ => ?_)
      · have hv := hv.1 h_
        refine j_iload_n (i := 3) hC dX11_sheet_28 rfl 3 rfl ?_
        refine j_if_ge (tgt := 38) hC dX11_sheet_29 (by decide) (fun h_ => ?_) (fun h_ => ?_)
        · have hv := hv.1 h_
          refine j_aload_n (i := 0) hC dX11_sheet_38 rfl 0 rfl ?_
          refine j_get (C := RX11) (T := TX11) (N := 8) (v := .ref (ad 1)) hC hinX11 0 (wS_c0 ad cy _) rfl 0 (by decide) (mw 2 rfl) rfl rfl dX11_sheet_39 ?_
          refine j_iload_n (i := 1) hC dX11_sheet_42 rfl 1 rfl ?_
          refine j_iload_n (i := 2) hC dX11_sheet_43 rfl 2 rfl ?_
          refine j_iload_n (i := 3) hC dX11_sheet_44 rfl 3 rfl ?_
          refine j_callV_v (C := RX7) (As := [.int a1, .int a2, .int a3]) (rest := []) (b := (ad 1)) hC (cSheets_lay hv) 3 gX11_sheet_X7_lay rfl rfl rfl ⟨Nat.le_of_ble_eq_true rfl, Nat.le_of_ble_eq_true rfl⟩ hdSheets_lay rfl (wS_c1 ad cy _) rfl rfl (Nat.le_of_ble_eq_true rfl) ⟨Nat.zero_le _, Nat.zero_le _⟩ dX11_sheet_45 (fun g45 hv => ?_)
          refine j_aload_n (i := 0) hC dX11_sheet_48 rfl 0 rfl ?_
          refine j_iload_n (i := 3) hC dX11_sheet_49 rfl 3 rfl ?_
          refine j_callV_i (C := RX11) (As := [.int a3]) (rest := []) (b := (ad 0)) hC (cSG_fine hv) 1 gX11_sheet_X11_fine rfl rfl rfl ⟨Nat.le_of_ble_eq_true rfl, Nat.le_of_ble_eq_true rfl⟩ hdSG_fine rfl (wS_c0 ad cy _) rfl rfl (Nat.le_of_ble_eq_true rfl) ⟨Nat.zero_le _, Nat.zero_le _⟩ dX11_sheet_50 (fun r50 g50 hv => ?_)
          exact j_iret hC hQ dX11_sheet_53 rfl hv
        · have hv := hv.2 h_
          refine j_aload_n (i := 0) hC dX11_sheet_32 rfl 0 rfl ?_
          refine j_iconst (v := 4) hC dX11_sheet_33 (by decide) ?_
          refine j_callV_i (C := RX11) (As := [.int (4 : Int32)]) (rest := []) (b := (ad 0)) hC (cSG_found hv) 1 gX11_sheet_X11_found rfl rfl rfl ⟨Nat.le_of_ble_eq_true rfl, Nat.le_of_ble_eq_true rfl⟩ hdSG_found rfl (wS_c0 ad cy _) rfl rfl (Nat.le_of_ble_eq_true rfl) ⟨Nat.zero_le _, Nat.zero_le _⟩ dX11_sheet_34 (fun r34 g34 hv => ?_)
          exact j_iret hC hQ dX11_sheet_37 rfl hv
      · have hv := hv.2 h_
        refine j_ldc (v := -1000001) hC dX11_sheet_25 (mw 1 rfl) ?_
        exact j_iret hC hQ dX11_sheet_27 rfl hv
theorem hdSheets_isMissing : yX7_isMissing.cls = RX7 ∧ yX7_isMissing.cls ≠ "java/lang/invoke/MethodHandle" ∧ yX7_isMissing.cls ≠ "java/lang/invoke/VarHandle" ∧ (parseMethodDescriptor yX7_isMissing.desc).map (fun d => d.parameters.length) = some 1 := by decide +kernel
abbrev rSheets_isMissing : Room := { frames := 0, cells := 0, slots := 0, locals := 0 }
def vSheets_isMissing (g : GS) (a1 : Int32) (post : Int32 → GS → Prop) : Prop :=
  (vp_in a1 8 ∧ ((¬ ((z_sizes g) a1.toNatClampNeg) = (-1 : Int32) → post (0 : Int32) g) ∧ (((z_sizes g) a1.toNatClampNeg) = (-1 : Int32) → post (1 : Int32) g)))
set_option maxHeartbeats 4000000 in
set_option maxRecDepth 100000 in
theorem cSheets_isMissing {l : Launch} {D : va_G} {ad : Nat → Nat} {cy : Nat → ClassId} {g : GS} {a1 : Int32} {post : Int32 → GS → Prop} (hv : vSheets_isMissing g a1 post) : jMi l yX7_isMissing wsX7_isMissing rSheets_isMissing D (tyS cy) [.ref (ad 1), .int a1] (wS ad cy g) (wS ad cy) post 0 0 := by
  refine j_meti (cc := cX7_isMissing) (nL := 2) (rt := (some .boolean)) (by decide) (Nat.le_of_ble_eq_true rfl) ?_
  intro Γ hC hQ _
  have hC : jC Γ l rSheets_isMissing D 2 RX7 cX7_isMissing wsX7_isMissing (tyS cy) := hC
  have hinX7 : ∀ w ∈ wsX70, w ∈ wsX7_isMissing := fun w h => List.mem_cons_of_mem _ (List.mem_append_right _ h)
  refine j_lv (lv' := [(0, .ref (ad 1)), (1, .int a1)]) [0, 1] rfl ?_
  unfold vSheets_isMissing at hv
  refine j_aload_n (i := 0) hC dX7_isMissing_0 rfl 0 rfl ?_
  refine j_get (C := RX7) (T := TX7) (N := 3) (v := .ref (ad 4)) hC hinX7 1 (wS_c1 ad cy _) rfl 2 (by decide) (mw 1 rfl) rfl rfl dX7_isMissing_1 ?_
  refine j_iload_n (i := 1) hC dX7_isMissing_4 rfl 1 rfl ?_
  have hb5 := hv.1
  have hv := hv.2
  refine j_iald (v := ((z_sizes g) a1.toNatClampNeg)) hC _ 0 (wS_c4 ad cy _) rfl hb5 rfl dX7_isMissing_5 ?_
  refine j_iconst (v := -1) hC dX7_isMissing_6 (by decide) ?_
  refine j_icmp_ne (tgt := 14) hC dX7_isMissing_7 (by decide) (fun h_ => ?_) (fun h_ => ?_)
  · have hv := hv.1 h_
    refine j_iconst (v := 0) hC dX7_isMissing_14 (by decide) ?_
    exact j_zret hC hQ dX7_isMissing_15 rfl rfl hv
  · have hv := hv.2 h_
    refine j_iconst (v := 1) hC dX7_isMissing_10 (by decide) ?_
    refine j_goto (tgt := 15) hC dX7_isMissing_11 (by decide) ?_
    exact j_zret hC hQ dX7_isMissing_15 rfl rfl hv
theorem hdSheets_hasPlaces : yX7_hasPlaces.cls = RX7 ∧ yX7_hasPlaces.cls ≠ "java/lang/invoke/MethodHandle" ∧ yX7_hasPlaces.cls ≠ "java/lang/invoke/VarHandle" ∧ (parseMethodDescriptor yX7_hasPlaces.desc).map (fun d => d.parameters.length) = some 3 := by decide +kernel
abbrev rSheets_hasPlaces : Room := { frames := 0, cells := 0, slots := 0, locals := 0 }
def vSheets_hasPlaces (g : GS) (a1 : Int32) (a2 : Int32) (a3 : Int32) (post : Int32 → GS → Prop) : Prop :=
  ((a3 < (0 : Int32) → post (0 : Int32) g) ∧ (¬ a3 < (0 : Int32) → ((a2 < (0 : Int32) → post (0 : Int32) g) ∧ (¬ a2 < (0 : Int32) → (vp_in a1 8 ∧ (((((z_sizes g) a1.toNatClampNeg) - a3) < a2 → post (0 : Int32) g) ∧ (¬ (((z_sizes g) a1.toNatClampNeg) - a3) < a2 → post (1 : Int32) g)))))))
set_option maxHeartbeats 4000000 in
set_option maxRecDepth 100000 in
theorem cSheets_hasPlaces {l : Launch} {D : va_G} {ad : Nat → Nat} {cy : Nat → ClassId} {g : GS} {a1 : Int32} {a2 : Int32} {a3 : Int32} {post : Int32 → GS → Prop} (hv : vSheets_hasPlaces g a1 a2 a3 post) : jMi l yX7_hasPlaces wsX7_hasPlaces rSheets_hasPlaces D (tyS cy) [.ref (ad 1), .int a1, .int a2, .int a3] (wS ad cy g) (wS ad cy) post 0 0 := by
  refine j_meti (cc := cX7_hasPlaces) (nL := 4) (rt := (some .boolean)) (by decide) (Nat.le_of_ble_eq_true rfl) ?_
  intro Γ hC hQ _
  have hC : jC Γ l rSheets_hasPlaces D 4 RX7 cX7_hasPlaces wsX7_hasPlaces (tyS cy) := hC
  have hinX7 : ∀ w ∈ wsX70, w ∈ wsX7_hasPlaces := fun w h => List.mem_cons_of_mem _ (List.mem_append_right _ h)
  refine j_lv (lv' := [(0, .ref (ad 1)), (1, .int a1), (2, .int a2), (3, .int a3)]) [0, 1, 2, 3] rfl ?_
  unfold vSheets_hasPlaces at hv
  refine j_iload_n (i := 3) hC dX7_hasPlaces_0 rfl 3 rfl ?_
  refine j_if_lt (tgt := 24) hC dX7_hasPlaces_1 (by decide) (fun h_ => ?_) (fun h_ => ?_)
  · have hv := hv.1 h_
    refine j_iconst (v := 0) hC dX7_hasPlaces_24 (by decide) ?_
    exact j_zret hC hQ dX7_hasPlaces_25 rfl rfl hv
  · have hv := hv.2 h_
    refine j_iload_n (i := 2) hC dX7_hasPlaces_4 rfl 2 rfl ?_
    refine j_if_lt (tgt := 24) hC dX7_hasPlaces_5 (by decide) (fun h_ => ?_) (fun h_ => ?_)
    · have hv := hv.1 h_
      refine j_iconst (v := 0) hC dX7_hasPlaces_24 (by decide) ?_
      exact j_zret hC hQ dX7_hasPlaces_25 rfl rfl hv
    · have hv := hv.2 h_
      refine j_iload_n (i := 2) hC dX7_hasPlaces_8 rfl 2 rfl ?_
      refine j_aload_n (i := 0) hC dX7_hasPlaces_9 rfl 0 rfl ?_
      refine j_get (C := RX7) (T := TX7) (N := 3) (v := .ref (ad 4)) hC hinX7 1 (wS_c1 ad cy _) rfl 2 (by decide) (mw 1 rfl) rfl rfl dX7_hasPlaces_10 ?_
      refine j_iload_n (i := 1) hC dX7_hasPlaces_13 rfl 1 rfl ?_
      have hb14 := hv.1
      have hv := hv.2
      refine j_iald (v := ((z_sizes g) a1.toNatClampNeg)) hC _ 0 (wS_c4 ad cy _) rfl hb14 rfl dX7_hasPlaces_14 ?_
      refine j_iload_n (i := 3) hC dX7_hasPlaces_15 rfl 3 rfl ?_
      refine j_isub hC dX7_hasPlaces_16 ?_
      refine j_icmp_gt (tgt := 24) hC dX7_hasPlaces_17 (by decide) (fun h_ => ?_) (fun h_ => ?_)
      · have hv := hv.1 h_
        refine j_iconst (v := 0) hC dX7_hasPlaces_24 (by decide) ?_
        exact j_zret hC hQ dX7_hasPlaces_25 rfl rfl hv
      · have hv := hv.2 h_
        refine j_iconst (v := 1) hC dX7_hasPlaces_20 (by decide) ?_
        refine j_goto (tgt := 25) hC dX7_hasPlaces_21 (by decide) ?_
        exact j_zret hC hQ dX7_hasPlaces_25 rfl rfl hv
theorem hdSheets_look : yX7_look.cls = RX7 ∧ yX7_look.cls ≠ "java/lang/invoke/MethodHandle" ∧ yX7_look.cls ≠ "java/lang/invoke/VarHandle" ∧ (parseMethodDescriptor yX7_look.desc).map (fun d => d.parameters.length) = some 3 := by decide +kernel
abbrev rSheets_look : Room := { frames := 1, cells := 0, slots := 0, locals := 23 }
def vSheets_look (g : GS) (a1 : Int32) (a2 : Int32) (a3 : Int32) (post : Int32 → GS → Prop) : Prop :=
  (vSheets_isMissing g a1 (fun r2 g2 => ((r2 = (0 : Int32) → (vSheets_hasPlaces g2 a1 a2 a3 (fun r14 g14 => ((r14 = (0 : Int32) → post (2 : Int32) g14) ∧ (¬ r14 = (0 : Int32) → post (0 : Int32) g14))))) ∧ (¬ r2 = (0 : Int32) → post (1 : Int32) g2))))
set_option maxHeartbeats 4000000 in
set_option maxRecDepth 100000 in
theorem cSheets_look {l : Launch} {D : va_G} {ad : Nat → Nat} {cy : Nat → ClassId} {g : GS} {a1 : Int32} {a2 : Int32} {a3 : Int32} {post : Int32 → GS → Prop} (hv : vSheets_look g a1 a2 a3 post) : jMi l yX7_look wsX7_look rSheets_look D (tyS cy) [.ref (ad 1), .int a1, .int a2, .int a3] (wS ad cy g) (wS ad cy) post 0 0 := by
  refine j_meti (cc := cX7_look) (nL := 4) (rt := (some .int)) (by decide) (Nat.le_of_ble_eq_true rfl) ?_
  intro Γ hC hQ _
  have hC : jC Γ l rSheets_look D 4 RX7 cX7_look wsX7_look (tyS cy) := hC
  refine j_lv (lv' := [(0, .ref (ad 1)), (1, .int a1), (2, .int a2), (3, .int a3)]) [0, 1, 2, 3] rfl ?_
  unfold vSheets_look at hv
  refine j_aload_n (i := 0) hC dX7_look_0 rfl 0 rfl ?_
  refine j_iload_n (i := 1) hC dX7_look_1 rfl 1 rfl ?_
  refine j_callV_i (C := RX7) (As := [.int a1]) (rest := []) (b := (ad 1)) hC (cSheets_isMissing hv) 1 gX7_look_X7_isMissing rfl rfl rfl ⟨Nat.le_of_ble_eq_true rfl, Nat.le_of_ble_eq_true rfl⟩ hdSheets_isMissing rfl (wS_c1 ad cy _) rfl rfl (Nat.le_of_ble_eq_true rfl) ⟨Nat.zero_le _, Nat.zero_le _⟩ dX7_look_2 (fun r2 g2 hv => ?_)
  refine j_if_eq (tgt := 10) hC dX7_look_5 (by decide) (fun h_ => ?_) (fun h_ => ?_)
  · have hv := hv.1 h_
    refine j_aload_n (i := 0) hC dX7_look_10 rfl 0 rfl ?_
    refine j_iload_n (i := 1) hC dX7_look_11 rfl 1 rfl ?_
    refine j_iload_n (i := 2) hC dX7_look_12 rfl 2 rfl ?_
    refine j_iload_n (i := 3) hC dX7_look_13 rfl 3 rfl ?_
    refine j_callV_i (C := RX7) (As := [.int a1, .int a2, .int a3]) (rest := []) (b := (ad 1)) hC (cSheets_hasPlaces hv) 3 gX7_look_X7_hasPlaces rfl rfl rfl ⟨Nat.le_of_ble_eq_true rfl, Nat.le_of_ble_eq_true rfl⟩ hdSheets_hasPlaces rfl (wS_c1 ad cy _) rfl rfl (Nat.le_of_ble_eq_true rfl) ⟨Nat.zero_le _, Nat.zero_le _⟩ dX7_look_14 (fun r14 g14 hv => ?_)
    refine j_if_eq (tgt := 24) hC dX7_look_17 (by decide) (fun h_ => ?_) (fun h_ => ?_)
    · have hv := hv.1 h_
      refine j_iconst (v := 2) hC dX7_look_24 (by decide) ?_
      exact j_iret hC hQ dX7_look_25 rfl hv
    · have hv := hv.2 h_
      refine j_iconst (v := 0) hC dX7_look_20 (by decide) ?_
      refine j_goto (tgt := 25) hC dX7_look_21 (by decide) ?_
      exact j_iret hC hQ dX7_look_25 rfl hv
  · have hv := hv.2 h_
    refine j_iconst (v := 1) hC dX7_look_8 (by decide) ?_
    exact j_iret hC hQ dX7_look_9 rfl hv
theorem hdSheets_narrowed : yX7_narrowed.cls = RX7 ∧ yX7_narrowed.cls ≠ "java/lang/invoke/MethodHandle" ∧ yX7_narrowed.cls ≠ "java/lang/invoke/VarHandle" ∧ (parseMethodDescriptor yX7_narrowed.desc).map (fun d => d.parameters.length) = some 2 := by decide +kernel
abbrev rSheets_narrowed : Room := { frames := 0, cells := 0, slots := 0, locals := 0 }
def vSheets_narrowed (g : GS) (a0 : Int32) (a1 : Int32) (post : Int32 → GS → Prop) : Prop :=
  ((¬ a0 = (0 : Int32) → ((¬ a0 = (1 : Int32) → post a1 g) ∧ (a0 = (1 : Int32) → post (a1.toInt16.toInt32) g))) ∧ (a0 = (0 : Int32) → post (a1.toInt8.toInt32) g))
set_option maxHeartbeats 4000000 in
set_option maxRecDepth 100000 in
theorem cSheets_narrowed {l : Launch} {D : va_G} {ad : Nat → Nat} {cy : Nat → ClassId} {g : GS} {a0 : Int32} {a1 : Int32} {post : Int32 → GS → Prop} (hv : vSheets_narrowed g a0 a1 post) : jMi l yX7_narrowed wsX7_narrowed rSheets_narrowed D (tyS cy) [.int a0, .int a1] (wS ad cy g) (wS ad cy) post 0 0 := by
  refine j_meti (cc := cX7_narrowed) (nL := 2) (rt := (some .int)) (by decide) (Nat.le_of_ble_eq_true rfl) ?_
  intro Γ hC hQ _
  have hC : jC Γ l rSheets_narrowed D 2 RX7 cX7_narrowed wsX7_narrowed (tyS cy) := hC
  refine j_lv (lv' := [(0, .int a0), (1, .int a1)]) [0, 1] rfl ?_
  unfold vSheets_narrowed at hv
  refine j_iload_n (i := 0) hC dX7_narrowed_0 rfl 0 rfl ?_
  refine j_if_ne (tgt := 7) hC dX7_narrowed_1 (by decide) (fun h_ => ?_) (fun h_ => ?_)
  · have hv := hv.1 h_
    refine j_iload_n (i := 0) hC dX7_narrowed_7 rfl 0 rfl ?_
    refine j_iconst (v := 1) hC dX7_narrowed_8 (by decide) ?_
    refine j_icmp_ne (tgt := 17) hC dX7_narrowed_9 (by decide) (fun h_ => ?_) (fun h_ => ?_)
    · have hv := hv.1 h_
      refine j_iload_n (i := 1) hC dX7_narrowed_17 rfl 1 rfl ?_
      exact j_iret hC hQ dX7_narrowed_18 rfl hv
    · have hv := hv.2 h_
      refine j_iload_n (i := 1) hC dX7_narrowed_12 rfl 1 rfl ?_
      refine j_i2s hC dX7_narrowed_13 ?_
      refine j_goto (tgt := 18) hC dX7_narrowed_14 (by decide) ?_
      exact j_iret hC hQ dX7_narrowed_18 rfl hv
  · have hv := hv.2 h_
    refine j_iload_n (i := 1) hC dX7_narrowed_4 rfl 1 rfl ?_
    refine j_i2b hC dX7_narrowed_5 ?_
    exact j_iret hC hQ dX7_narrowed_6 rfl hv
theorem hdSheets_put : yX7_put.cls = RX7 ∧ yX7_put.cls ≠ "java/lang/invoke/MethodHandle" ∧ yX7_put.cls ≠ "java/lang/invoke/VarHandle" ∧ (parseMethodDescriptor yX7_put.desc).map (fun d => d.parameters.length) = some 3 := by decide +kernel
abbrev rSheets_put : Room := { frames := 1, cells := 0, slots := 0, locals := 21 }
def vSheets_put (g : GS) (a1 : Int32) (a2 : Int32) (a3 : Int32) (post : Int32 → GS → Prop) : Prop :=
  (vp_in a1 8 ∧ (vp_in a1 8 ∧ (vSheets_narrowed g ((z_lanes g) a1.toNatClampNeg) a3 (fun r14 g14 => (vp_in a2 60 ∧ (vp_in a1 8 ∧ (vp_in a2 60 ∧ post ((va_up (z_items g14) a1.toNatClampNeg (upd ((z_items g14) a1.toNatClampNeg) a2.toNatClampNeg r14)) a1.toNatClampNeg a2.toNatClampNeg) (sz_items g14 (va_up (z_items g14) a1.toNatClampNeg (upd ((z_items g14) a1.toNatClampNeg) a2.toNatClampNeg r14))))))))))
set_option maxHeartbeats 4000000 in
set_option maxRecDepth 100000 in
theorem cSheets_put {l : Launch} {D : va_G} {ad : Nat → Nat} {cy : Nat → ClassId} {g : GS} {a1 : Int32} {a2 : Int32} {a3 : Int32} {post : Int32 → GS → Prop} (hv : vSheets_put g a1 a2 a3 post) : jMi l yX7_put wsX7_put rSheets_put D (tyS cy) [.ref (ad 1), .int a1, .int a2, .int a3] (wS ad cy g) (wS ad cy) post 0 0 := by
  refine j_meti (cc := cX7_put) (nL := 4) (rt := (some .int)) (by decide) (Nat.le_of_ble_eq_true rfl) ?_
  intro Γ hC hQ _
  have hC : jC Γ l rSheets_put D 4 RX7 cX7_put wsX7_put (tyS cy) := hC
  have hinX7 : ∀ w ∈ wsX70, w ∈ wsX7_put := fun w h => List.mem_cons_of_mem _ (List.mem_append_right _ h)
  refine j_lv (lv' := [(0, .ref (ad 1)), (1, .int a1), (2, .int a2), (3, .int a3)]) [0, 1, 2, 3] rfl ?_
  unfold vSheets_put at hv
  refine j_aload_n (i := 0) hC dX7_put_0 rfl 0 rfl ?_
  refine j_get (C := RX7) (T := TX7) (N := 3) (v := .ref (ad 2)) hC hinX7 1 (wS_c1 ad cy _) rfl 0 (by decide) (mw 1 rfl) rfl rfl dX7_put_1 ?_
  refine j_iload_n (i := 1) hC dX7_put_4 rfl 1 rfl ?_
  have hb5 := hv.1
  have hv := hv.2
  refine j_aald (v := .ref (ad (25 + a1.toNatClampNeg))) hC 2 3 (wS_c2 ad cy _) rfl rfl hb5 (jrow ad 25 (j := a1.toNatClampNeg) (jlt hb5)) dX7_put_5 ?_
  refine j_iload_n (i := 2) hC dX7_put_6 rfl 2 rfl ?_
  refine j_aload_n (i := 0) hC dX7_put_7 rfl 0 rfl ?_
  refine j_get (C := RX7) (T := TX7) (N := 3) (v := .ref (ad 3)) hC hinX7 1 (wS_c1 ad cy _) rfl 1 (by decide) (mw 2 rfl) rfl rfl dX7_put_8 ?_
  refine j_iload_n (i := 1) hC dX7_put_11 rfl 1 rfl ?_
  have hb12 := hv.1
  have hv := hv.2
  refine j_iald (v := ((z_lanes g) a1.toNatClampNeg)) hC _ 0 (wS_c3 ad cy _) rfl hb12 rfl dX7_put_12 ?_
  refine j_iload_n (i := 3) hC dX7_put_13 rfl 3 rfl ?_
  refine j_callS_i (As := [.int ((z_lanes g) a1.toNatClampNeg), .int a3]) (rest := [.int a2, .ref (ad (25 + a1.toNatClampNeg))]) hC (cSheets_narrowed hv) 2 gX7_put_X7_narrowed rfl rfl rfl ⟨Nat.le_of_ble_eq_true rfl, Nat.le_of_ble_eq_true rfl⟩ hdSheets_narrowed.2 rfl rfl (Nat.le_of_ble_eq_true rfl) ⟨Nat.zero_le _, Nat.zero_le _⟩ dX7_put_14 (fun r14 g14 hv => ?_)
  have hb17 := hv.1
  have hv := hv.2
  refine j_iast hC _ 0 (wS_r_items ad cy _ (jlt hb5)) rfl hb17 (wS_s_items ad cy _ (jlt hb5) _) dX7_put_17 ?_
  refine j_aload_n (i := 0) hC dX7_put_18 rfl 0 rfl ?_
  refine j_get (C := RX7) (T := TX7) (N := 3) (v := .ref (ad 2)) hC hinX7 1 (wS_c1 ad cy _) rfl 0 (by decide) (mw 1 rfl) rfl rfl dX7_put_19 ?_
  refine j_iload_n (i := 1) hC dX7_put_22 rfl 1 rfl ?_
  have hb23 := hv.1
  have hv := hv.2
  refine j_aald (v := .ref (ad (25 + a1.toNatClampNeg))) hC 2 3 (wS_c2 ad cy _) rfl rfl hb23 (jrow ad 25 (j := a1.toNatClampNeg) (jlt hb23)) dX7_put_23 ?_
  refine j_iload_n (i := 2) hC dX7_put_24 rfl 2 rfl ?_
  have hb25 := hv.1
  have hv := hv.2
  refine j_iald (v := ((va_up (z_items g14) a1.toNatClampNeg (upd ((z_items g14) a1.toNatClampNeg) a2.toNatClampNeg r14)) a1.toNatClampNeg a2.toNatClampNeg)) hC _ 0 (wS_r_items ad cy _ (jlt hb23)) rfl hb25 rfl dX7_put_25 ?_
  exact j_iret hC hQ dX7_put_26 rfl hv
theorem hdSG_set : yX11_set.cls = RX11 ∧ yX11_set.cls ≠ "java/lang/invoke/MethodHandle" ∧ yX11_set.cls ≠ "java/lang/invoke/VarHandle" ∧ (parseMethodDescriptor yX11_set.desc).map (fun d => d.parameters.length) = some 3 := by decide +kernel
abbrev rSG_set : Room := { frames := 2, cells := 0, slots := 0, locals := 46 }
def vSG_set (g : GS) (a1 : Int32) (a2 : Int32) (a3 : Int32) (post : Int32 → GS → Prop) : Prop :=
  (vSG_within g a1 (0 : Int32) (7 : Int32) (fun r4 g4 => ((¬ r4 = (0 : Int32) → (vSheets_look g4 a1 a2 (1 : Int32) (fun r20 g20 => ((r20 = (0 : Int32) → (vSheets_put g20 a1 a2 a3 (fun r47 g47 => (vSG_fine g47 r47 (fun r50 g50 => post r50 g50))))) ∧ (¬ r20 = (0 : Int32) → (vSG_found g20 r20 (fun r33 g33 => post r33 g33))))))) ∧ (r4 = (0 : Int32) → post (-1000001 : Int32) g4))))
set_option maxHeartbeats 4000000 in
set_option maxRecDepth 100000 in
theorem cSG_set {l : Launch} {D : va_G} {ad : Nat → Nat} {cy : Nat → ClassId} {g : GS} {a1 : Int32} {a2 : Int32} {a3 : Int32} {post : Int32 → GS → Prop} (hv : vSG_set g a1 a2 a3 post) : jMi l yX11_set wsX11_set rSG_set D (tyS cy) [.ref (ad 0), .int a1, .int a2, .int a3] (wS ad cy g) (wS ad cy) post 0 0 := by
  refine j_meti (cc := cX11_set) (nL := 5) (rt := (some .int)) (by decide) (Nat.le_of_ble_eq_true rfl) ?_
  intro Γ hC hQ _
  have hC : jC Γ l rSG_set D 5 RX11 cX11_set wsX11_set (tyS cy) := hC
  have hinX11 : ∀ w ∈ wsX110, w ∈ wsX11_set := fun w h => List.mem_cons_of_mem _ (List.mem_append_left _ (List.mem_append_right _ h))
  refine j_lv (lv' := [(0, .ref (ad 0)), (1, .int a1), (2, .int a2), (3, .int a3)]) [0, 1, 2, 3] rfl ?_
  unfold vSG_set at hv
  refine j_iload_n (i := 1) hC dX11_set_0 rfl 1 rfl ?_
  refine j_iconst (v := 0) hC dX11_set_1 (by decide) ?_
  refine j_bipush (v := 7) hC dX11_set_2 (by decide) ?_
  refine j_callS_i (As := [.int a1, .int (0 : Int32), .int (7 : Int32)]) (rest := []) hC (cSG_within hv) 3 gX11_set_X11_within rfl rfl rfl ⟨Nat.le_of_ble_eq_true rfl, Nat.le_of_ble_eq_true rfl⟩ hdSG_within.2 rfl rfl (Nat.le_of_ble_eq_true rfl) ⟨Nat.zero_le _, Nat.zero_le _⟩ dX11_set_4 (fun r4 g4 hv => ?_)
  refine j_if_ne (tgt := 13) hC dX11_set_7 (by decide) (fun h_ => ?_) (fun h_ => ?_)
  · have hv := hv.1 h_
    refine j_aload_n (i := 0) hC dX11_set_13 rfl 0 rfl ?_
    refine j_get (C := RX11) (T := TX11) (N := 8) (v := .ref (ad 1)) hC hinX11 0 (wS_c0 ad cy _) rfl 0 (by decide) (mw 2 rfl) rfl rfl dX11_set_14 ?_
    refine j_iload_n (i := 1) hC dX11_set_17 rfl 1 rfl ?_
    refine j_iload_n (i := 2) hC dX11_set_18 rfl 2 rfl ?_
    refine j_iconst (v := 1) hC dX11_set_19 (by decide) ?_
    refine j_callV_i (C := RX7) (As := [.int a1, .int a2, .int (1 : Int32)]) (rest := []) (b := (ad 1)) hC (cSheets_look hv) 3 gX11_set_X7_look rfl rfl rfl ⟨Nat.le_of_ble_eq_true rfl, Nat.le_of_ble_eq_true rfl⟩ hdSheets_look rfl (wS_c1 ad cy _) rfl rfl (Nat.le_of_ble_eq_true rfl) ⟨Nat.zero_le _, Nat.zero_le _⟩ dX11_set_20 (fun r20 g20 hv => ?_)
    refine j_istore (lv' := [(4, .int r20), (0, .ref (ad 0)), (1, .int a1), (2, .int a2), (3, .int a3)]) hC dX11_set_23 (by decide) rfl ?_
    refine j_iload hC dX11_set_25 0 rfl ?_
    refine j_if_eq (tgt := 39) hC dX11_set_27 (by decide) (fun h_ => ?_) (fun h_ => ?_)
    · have hv := hv.1 h_
      refine j_aload_n (i := 0) hC dX11_set_39 rfl 1 rfl ?_
      refine j_aload_n (i := 0) hC dX11_set_40 rfl 1 rfl ?_
      refine j_get (C := RX11) (T := TX11) (N := 8) (v := .ref (ad 1)) hC hinX11 0 (wS_c0 ad cy _) rfl 0 (by decide) (mw 2 rfl) rfl rfl dX11_set_41 ?_
      refine j_iload_n (i := 1) hC dX11_set_44 rfl 2 rfl ?_
      refine j_iload_n (i := 2) hC dX11_set_45 rfl 3 rfl ?_
      refine j_iload_n (i := 3) hC dX11_set_46 rfl 4 rfl ?_
      refine j_callV_i (C := RX7) (As := [.int a1, .int a2, .int a3]) (rest := [.ref (ad 0)]) (b := (ad 1)) hC (cSheets_put hv) 3 gX11_set_X7_put rfl rfl rfl ⟨Nat.le_of_ble_eq_true rfl, Nat.le_of_ble_eq_true rfl⟩ hdSheets_put rfl (wS_c1 ad cy _) rfl rfl (Nat.le_of_ble_eq_true rfl) ⟨Nat.zero_le _, Nat.zero_le _⟩ dX11_set_47 (fun r47 g47 hv => ?_)
      refine j_callV_i (C := RX11) (As := [.int r47]) (rest := []) (b := (ad 0)) hC (cSG_fine hv) 1 gX11_set_X11_fine rfl rfl rfl ⟨Nat.le_of_ble_eq_true rfl, Nat.le_of_ble_eq_true rfl⟩ hdSG_fine rfl (wS_c0 ad cy _) rfl rfl (Nat.le_of_ble_eq_true rfl) ⟨Nat.zero_le _, Nat.zero_le _⟩ dX11_set_50 (fun r50 g50 hv => ?_)
      exact j_iret hC hQ dX11_set_53 rfl hv
    · have hv := hv.2 h_
      refine j_aload_n (i := 0) hC dX11_set_30 rfl 1 rfl ?_
      refine j_iload hC dX11_set_31 0 rfl ?_
      refine j_callV_i (C := RX11) (As := [.int r20]) (rest := []) (b := (ad 0)) hC (cSG_found hv) 1 gX11_set_X11_found rfl rfl rfl ⟨Nat.le_of_ble_eq_true rfl, Nat.le_of_ble_eq_true rfl⟩ hdSG_found rfl (wS_c0 ad cy _) rfl rfl (Nat.le_of_ble_eq_true rfl) ⟨Nat.zero_le _, Nat.zero_le _⟩ dX11_set_33 (fun r33 g33 hv => ?_)
      refine j_goto (tgt := 53) hC dX11_set_36 (by decide) ?_
      exact j_iret hC hQ dX11_set_53 rfl hv
  · have hv := hv.2 h_
    refine j_ldc (v := -1000001) hC dX11_set_10 (mw 1 rfl) ?_
    exact j_iret hC hQ dX11_set_12 rfl hv
theorem hdSheets_lookAtBoth : yX7_lookAtBoth.cls = RX7 ∧ yX7_lookAtBoth.cls ≠ "java/lang/invoke/MethodHandle" ∧ yX7_lookAtBoth.cls ≠ "java/lang/invoke/VarHandle" ∧ (parseMethodDescriptor yX7_lookAtBoth.desc).map (fun d => d.parameters.length) = some 5 := by decide +kernel
abbrev rSheets_lookAtBoth : Room := { frames := 1, cells := 0, slots := 0, locals := 23 }
def vSheets_lookAtBoth (g : GS) (a1 : Int32) (a2 : Int32) (a3 : Int32) (a4 : Int32) (a5 : Int32) (post : Int32 → GS → Prop) : Prop :=
  (vSheets_isMissing g a1 (fun r2 g2 => ((¬ r2 = (0 : Int32) → post (1 : Int32) g2) ∧ (r2 = (0 : Int32) → (vSheets_isMissing g2 a3 (fun r10 g10 => ((r10 = (0 : Int32) → (vp_in a1 8 ∧ (vp_in a3 8 ∧ ((((z_lanes g10) a1.toNatClampNeg) = ((z_lanes g10) a3.toNatClampNeg) → (vSheets_hasPlaces g10 a1 a2 a5 (fun r40 g40 => ((r40 = (0 : Int32) → post (2 : Int32) g40) ∧ (¬ r40 = (0 : Int32) → (vSheets_hasPlaces g40 a3 a4 a5 (fun r52 g52 => ((r52 = (0 : Int32) → post (2 : Int32) g52) ∧ (¬ r52 = (0 : Int32) → post (0 : Int32) g52))))))))) ∧ (¬ ((z_lanes g10) a1.toNatClampNeg) = ((z_lanes g10) a3.toNatClampNeg) → post (5 : Int32) g10))))) ∧ (¬ r10 = (0 : Int32) → post (1 : Int32) g10))))))))
set_option maxHeartbeats 4000000 in
set_option maxRecDepth 100000 in
theorem cSheets_lookAtBoth {l : Launch} {D : va_G} {ad : Nat → Nat} {cy : Nat → ClassId} {g : GS} {a1 : Int32} {a2 : Int32} {a3 : Int32} {a4 : Int32} {a5 : Int32} {post : Int32 → GS → Prop} (hv : vSheets_lookAtBoth g a1 a2 a3 a4 a5 post) : jMi l yX7_lookAtBoth wsX7_lookAtBoth rSheets_lookAtBoth D (tyS cy) [.ref (ad 1), .int a1, .int a2, .int a3, .int a4, .int a5] (wS ad cy g) (wS ad cy) post 0 0 := by
  refine j_meti (cc := cX7_lookAtBoth) (nL := 6) (rt := (some .int)) (by decide) (Nat.le_of_ble_eq_true rfl) ?_
  intro Γ hC hQ _
  have hC : jC Γ l rSheets_lookAtBoth D 6 RX7 cX7_lookAtBoth wsX7_lookAtBoth (tyS cy) := hC
  have hinX7 : ∀ w ∈ wsX70, w ∈ wsX7_lookAtBoth := fun w h => List.mem_cons_of_mem _ (List.mem_append_right _ h)
  refine j_lv (lv' := [(0, .ref (ad 1)), (1, .int a1), (2, .int a2), (3, .int a3), (4, .int a4), (5, .int a5)]) [0, 1, 2, 3, 4, 5] rfl ?_
  unfold vSheets_lookAtBoth at hv
  refine j_aload_n (i := 0) hC dX7_lookAtBoth_0 rfl 0 rfl ?_
  refine j_iload_n (i := 1) hC dX7_lookAtBoth_1 rfl 1 rfl ?_
  refine j_callV_i (C := RX7) (As := [.int a1]) (rest := []) (b := (ad 1)) hC (cSheets_isMissing hv) 1 gX7_lookAtBoth_X7_isMissing rfl rfl rfl ⟨Nat.le_of_ble_eq_true rfl, Nat.le_of_ble_eq_true rfl⟩ hdSheets_isMissing rfl (wS_c1 ad cy _) rfl rfl (Nat.le_of_ble_eq_true rfl) ⟨Nat.zero_le _, Nat.zero_le _⟩ dX7_lookAtBoth_2 (fun r2 g2 hv => ?_)
  refine j_if_ne (tgt := 16) hC dX7_lookAtBoth_5 (by decide) (fun h_ => ?_) (fun h_ => ?_)
  · have hv := hv.1 h_
    refine j_iconst (v := 1) hC dX7_lookAtBoth_16 (by decide) ?_
    exact j_iret hC hQ dX7_lookAtBoth_17 rfl hv
  · have hv := hv.2 h_
    refine j_aload_n (i := 0) hC dX7_lookAtBoth_8 rfl 0 rfl ?_
    refine j_iload_n (i := 3) hC dX7_lookAtBoth_9 rfl 3 rfl ?_
    refine j_callV_i (C := RX7) (As := [.int a3]) (rest := []) (b := (ad 1)) hC (cSheets_isMissing hv) 1 gX7_lookAtBoth_X7_isMissing rfl rfl rfl ⟨Nat.le_of_ble_eq_true rfl, Nat.le_of_ble_eq_true rfl⟩ hdSheets_isMissing rfl (wS_c1 ad cy _) rfl rfl (Nat.le_of_ble_eq_true rfl) ⟨Nat.zero_le _, Nat.zero_le _⟩ dX7_lookAtBoth_10 (fun r10 g10 hv => ?_)
    refine j_if_eq (tgt := 18) hC dX7_lookAtBoth_13 (by decide) (fun h_ => ?_) (fun h_ => ?_)
    · have hv := hv.1 h_
      refine j_aload_n (i := 0) hC dX7_lookAtBoth_18 rfl 0 rfl ?_
      refine j_get (C := RX7) (T := TX7) (N := 3) (v := .ref (ad 3)) hC hinX7 1 (wS_c1 ad cy _) rfl 1 (by decide) (mw 1 rfl) rfl rfl dX7_lookAtBoth_19 ?_
      refine j_iload_n (i := 1) hC dX7_lookAtBoth_22 rfl 1 rfl ?_
      have hb23 := hv.1
      have hv := hv.2
      refine j_iald (v := ((z_lanes g10) a1.toNatClampNeg)) hC _ 0 (wS_c3 ad cy _) rfl hb23 rfl dX7_lookAtBoth_23 ?_
      refine j_aload_n (i := 0) hC dX7_lookAtBoth_24 rfl 0 rfl ?_
      refine j_get (C := RX7) (T := TX7) (N := 3) (v := .ref (ad 3)) hC hinX7 1 (wS_c1 ad cy _) rfl 1 (by decide) (mw 1 rfl) rfl rfl dX7_lookAtBoth_25 ?_
      refine j_iload_n (i := 3) hC dX7_lookAtBoth_28 rfl 3 rfl ?_
      have hb29 := hv.1
      have hv := hv.2
      refine j_iald (v := ((z_lanes g10) a3.toNatClampNeg)) hC _ 0 (wS_c3 ad cy _) rfl hb29 rfl dX7_lookAtBoth_29 ?_
      refine j_icmp_eq (tgt := 35) hC dX7_lookAtBoth_30 (by decide) (fun h_ => ?_) (fun h_ => ?_)
      · have hv := hv.1 h_
        refine j_aload_n (i := 0) hC dX7_lookAtBoth_35 rfl 0 rfl ?_
        refine j_iload_n (i := 1) hC dX7_lookAtBoth_36 rfl 1 rfl ?_
        refine j_iload_n (i := 2) hC dX7_lookAtBoth_37 rfl 2 rfl ?_
        refine j_iload hC dX7_lookAtBoth_38 5 rfl ?_
        refine j_callV_i (C := RX7) (As := [.int a1, .int a2, .int a5]) (rest := []) (b := (ad 1)) hC (cSheets_hasPlaces hv) 3 gX7_lookAtBoth_X7_hasPlaces rfl rfl rfl ⟨Nat.le_of_ble_eq_true rfl, Nat.le_of_ble_eq_true rfl⟩ hdSheets_hasPlaces rfl (wS_c1 ad cy _) rfl rfl (Nat.le_of_ble_eq_true rfl) ⟨Nat.zero_le _, Nat.zero_le _⟩ dX7_lookAtBoth_40 (fun r40 g40 hv => ?_)
        refine j_if_eq (tgt := 62) hC dX7_lookAtBoth_43 (by decide) (fun h_ => ?_) (fun h_ => ?_)
        · have hv := hv.1 h_
          refine j_iconst (v := 2) hC dX7_lookAtBoth_62 (by decide) ?_
          exact j_iret hC hQ dX7_lookAtBoth_63 rfl hv
        · have hv := hv.2 h_
          refine j_aload_n (i := 0) hC dX7_lookAtBoth_46 rfl 0 rfl ?_
          refine j_iload_n (i := 3) hC dX7_lookAtBoth_47 rfl 3 rfl ?_
          refine j_iload hC dX7_lookAtBoth_48 4 rfl ?_
          refine j_iload hC dX7_lookAtBoth_50 5 rfl ?_
          refine j_callV_i (C := RX7) (As := [.int a3, .int a4, .int a5]) (rest := []) (b := (ad 1)) hC (cSheets_hasPlaces hv) 3 gX7_lookAtBoth_X7_hasPlaces rfl rfl rfl ⟨Nat.le_of_ble_eq_true rfl, Nat.le_of_ble_eq_true rfl⟩ hdSheets_hasPlaces rfl (wS_c1 ad cy _) rfl rfl (Nat.le_of_ble_eq_true rfl) ⟨Nat.zero_le _, Nat.zero_le _⟩ dX7_lookAtBoth_52 (fun r52 g52 hv => ?_)
          refine j_if_eq (tgt := 62) hC dX7_lookAtBoth_55 (by decide) (fun h_ => ?_) (fun h_ => ?_)
          · have hv := hv.1 h_
            refine j_iconst (v := 2) hC dX7_lookAtBoth_62 (by decide) ?_
            exact j_iret hC hQ dX7_lookAtBoth_63 rfl hv
          · have hv := hv.2 h_
            refine j_iconst (v := 0) hC dX7_lookAtBoth_58 (by decide) ?_
            refine j_goto (tgt := 63) hC dX7_lookAtBoth_59 (by decide) ?_
            exact j_iret hC hQ dX7_lookAtBoth_63 rfl hv
      · have hv := hv.2 h_
        refine j_iconst (v := 5) hC dX7_lookAtBoth_33 (by decide) ?_
        exact j_iret hC hQ dX7_lookAtBoth_34 rfl hv
    · have hv := hv.2 h_
      refine j_iconst (v := 1) hC dX7_lookAtBoth_16 (by decide) ?_
      exact j_iret hC hQ dX7_lookAtBoth_17 rfl hv
theorem hdSheets_move : yX7_move.cls = RX7 ∧ yX7_move.cls ≠ "java/lang/invoke/MethodHandle" ∧ yX7_move.cls ≠ "java/lang/invoke/VarHandle" ∧ (parseMethodDescriptor yX7_move.desc).map (fun d => d.parameters.length) = some 5 := by decide +kernel
abbrev rSheets_move : Room := { frames := 1, cells := 0, slots := 0, locals := 40 }
def vSheets_move (g : GS) (a1 : Int32) (a2 : Int32) (a3 : Int32) (a4 : Int32) (a5 : Int32) (post : GS → Prop) : Prop :=
  (vp_in a1 8 ∧ (vp_in a3 8 ∧ (¬ a2 < 0 ∧ (¬ a4 < 0 ∧ (¬ a5 < 0 ∧ (a2.toNatClampNeg + a5.toNatClampNeg ≤ 60 ∧ (a4.toNatClampNeg + a5.toNatClampNeg ≤ 60 ∧ post (sz_items g (va_up (z_items g) a3.toNatClampNeg (va_cpy ((z_items g) a1.toNatClampNeg) ((z_items g) a3.toNatClampNeg) a2.toNatClampNeg a4.toNatClampNeg a5.toNatClampNeg))))))))))
set_option maxHeartbeats 4000000 in
set_option maxRecDepth 100000 in
theorem cSheets_move {l : Launch} {D : va_G} {ad : Nat → Nat} {cy : Nat → ClassId} {g : GS} {a1 : Int32} {a2 : Int32} {a3 : Int32} {a4 : Int32} {a5 : Int32} {post : GS → Prop} (hv : vSheets_move g a1 a2 a3 a4 a5 post) : jMv l yX7_move wsX7_move rSheets_move D (tyS cy) [.ref (ad 1), .int a1, .int a2, .int a3, .int a4, .int a5] (wS ad cy g) (wS ad cy) post 0 0 := by
  refine j_metv (cc := cX7_move) (nL := 6) (rt := none) (by decide) (Nat.le_of_ble_eq_true rfl) ?_
  intro Γ hC hQ _
  have hC : jC Γ l rSheets_move D 6 RX7 cX7_move wsX7_move (tyS cy) := hC
  have hinX7 : ∀ w ∈ wsX70, w ∈ wsX7_move := fun w h => List.mem_cons_of_mem _ (List.mem_append_right _ h)
  refine j_lv (lv' := [(0, .ref (ad 1)), (1, .int a1), (2, .int a2), (3, .int a3), (4, .int a4), (5, .int a5)]) [0, 1, 2, 3, 4, 5] rfl ?_
  unfold vSheets_move at hv
  refine j_aload_n (i := 0) hC dX7_move_0 rfl 0 rfl ?_
  refine j_get (C := RX7) (T := TX7) (N := 3) (v := .ref (ad 2)) hC hinX7 1 (wS_c1 ad cy _) rfl 0 (by decide) (mw 1 rfl) rfl rfl dX7_move_1 ?_
  refine j_iload_n (i := 1) hC dX7_move_4 rfl 1 rfl ?_
  have hb5 := hv.1
  have hv := hv.2
  refine j_aald (v := .ref (ad (25 + a1.toNatClampNeg))) hC 2 3 (wS_c2 ad cy _) rfl rfl hb5 (jrow ad 25 (j := a1.toNatClampNeg) (jlt hb5)) dX7_move_5 ?_
  refine j_iload_n (i := 2) hC dX7_move_6 rfl 2 rfl ?_
  refine j_aload_n (i := 0) hC dX7_move_7 rfl 0 rfl ?_
  refine j_get (C := RX7) (T := TX7) (N := 3) (v := .ref (ad 2)) hC hinX7 1 (wS_c1 ad cy _) rfl 0 (by decide) (mw 1 rfl) rfl rfl dX7_move_8 ?_
  refine j_iload_n (i := 3) hC dX7_move_11 rfl 3 rfl ?_
  have hb12 := hv.1
  have hv := hv.2
  refine j_aald (v := .ref (ad (25 + a3.toNatClampNeg))) hC 2 3 (wS_c2 ad cy _) rfl rfl hb12 (jrow ad 25 (j := a3.toNatClampNeg) (jlt hb12)) dX7_move_12 ?_
  refine j_iload hC dX7_move_13 4 rfl ?_
  refine j_iload hC dX7_move_15 5 rfl ?_
  have hy17_1 := hv.1
  have hv := hv.2
  have hy17_2 := hv.1
  have hv := hv.2
  have hy17_3 := hv.1
  have hv := hv.2
  have hy17_4 := hv.1
  have hv := hv.2
  have hy17_5 := hv.1
  have hv := hv.2
  refine j_copyi (ty := .int) hC _ _ 0 0 (mw 2 rfl) (mw 3 rfl) (mw 4 rfl) (mw 5 rfl) (wS_r_items ad cy _ (jlt hb5)) (wS_r_items ad cy _ (jlt hb12)) rfl rfl rfl hy17_1 hy17_2 hy17_3 hy17_4 hy17_5 (fun _ => rfl) (Nat.le_of_ble_eq_true rfl) (Nat.le_of_ble_eq_true rfl) (wS_s_items ad cy _ (jlt hb12) _) dX7_move_17 ?_
  exact j_vret hC hQ dX7_move_20 rfl hv
theorem hdSG_copy : yX11_copy.cls = RX11 ∧ yX11_copy.cls ≠ "java/lang/invoke/MethodHandle" ∧ yX11_copy.cls ≠ "java/lang/invoke/VarHandle" ∧ (parseMethodDescriptor yX11_copy.desc).map (fun d => d.parameters.length) = some 5 := by decide +kernel
abbrev rSG_copy : Room := { frames := 2, cells := 0, slots := 0, locals := 65 }
def vSG_copy (g : GS) (a1 : Int32) (a2 : Int32) (a3 : Int32) (a4 : Int32) (a5 : Int32) (post : Int32 → GS → Prop) : Prop :=
  (vSG_within g a1 (0 : Int32) (7 : Int32) (fun r4 g4 => ((r4 = (0 : Int32) → post (-1000001 : Int32) g4) ∧ (¬ r4 = (0 : Int32) → (vSG_within g4 a3 (0 : Int32) (7 : Int32) (fun r14 g14 => ((¬ r14 = (0 : Int32) → (vSheets_lookAtBoth g14 a1 a2 a3 a4 a5 (fun r34 g34 => ((r34 = (0 : Int32) → (vSheets_move g34 a1 a2 a3 a4 a5 (fun g62 => (vSG_fine g62 a5 (fun r68 g68 => post r68 g68))))) ∧ (¬ r34 = (0 : Int32) → (vSG_found g34 r34 (fun r47 g47 => post r47 g47))))))) ∧ (r14 = (0 : Int32) → post (-1000001 : Int32) g14))))))))
set_option maxHeartbeats 4000000 in
set_option maxRecDepth 100000 in
theorem cSG_copy {l : Launch} {D : va_G} {ad : Nat → Nat} {cy : Nat → ClassId} {g : GS} {a1 : Int32} {a2 : Int32} {a3 : Int32} {a4 : Int32} {a5 : Int32} {post : Int32 → GS → Prop} (hv : vSG_copy g a1 a2 a3 a4 a5 post) : jMi l yX11_copy wsX11_copy rSG_copy D (tyS cy) [.ref (ad 0), .int a1, .int a2, .int a3, .int a4, .int a5] (wS ad cy g) (wS ad cy) post 0 0 := by
  refine j_meti (cc := cX11_copy) (nL := 7) (rt := (some .int)) (by decide) (Nat.le_of_ble_eq_true rfl) ?_
  intro Γ hC hQ _
  have hC : jC Γ l rSG_copy D 7 RX11 cX11_copy wsX11_copy (tyS cy) := hC
  have hinX11 : ∀ w ∈ wsX110, w ∈ wsX11_copy := fun w h => List.mem_cons_of_mem _ (List.mem_append_left _ (List.mem_append_right _ h))
  refine j_lv (lv' := [(0, .ref (ad 0)), (1, .int a1), (2, .int a2), (3, .int a3), (4, .int a4), (5, .int a5)]) [0, 1, 2, 3, 4, 5] rfl ?_
  unfold vSG_copy at hv
  refine j_iload_n (i := 1) hC dX11_copy_0 rfl 1 rfl ?_
  refine j_iconst (v := 0) hC dX11_copy_1 (by decide) ?_
  refine j_bipush (v := 7) hC dX11_copy_2 (by decide) ?_
  refine j_callS_i (As := [.int a1, .int (0 : Int32), .int (7 : Int32)]) (rest := []) hC (cSG_within hv) 3 gX11_copy_X11_within rfl rfl rfl ⟨Nat.le_of_ble_eq_true rfl, Nat.le_of_ble_eq_true rfl⟩ hdSG_within.2 rfl rfl (Nat.le_of_ble_eq_true rfl) ⟨Nat.zero_le _, Nat.zero_le _⟩ dX11_copy_4 (fun r4 g4 hv => ?_)
  refine j_if_eq (tgt := 20) hC dX11_copy_7 (by decide) (fun h_ => ?_) (fun h_ => ?_)
  · have hv := hv.1 h_
    refine j_ldc (v := -1000001) hC dX11_copy_20 (mw 1 rfl) ?_
    exact j_iret hC hQ dX11_copy_22 rfl hv
  · have hv := hv.2 h_
    refine j_iload_n (i := 3) hC dX11_copy_10 rfl 3 rfl ?_
    refine j_iconst (v := 0) hC dX11_copy_11 (by decide) ?_
    refine j_bipush (v := 7) hC dX11_copy_12 (by decide) ?_
    refine j_callS_i (As := [.int a3, .int (0 : Int32), .int (7 : Int32)]) (rest := []) hC (cSG_within hv) 3 gX11_copy_X11_within rfl rfl rfl ⟨Nat.le_of_ble_eq_true rfl, Nat.le_of_ble_eq_true rfl⟩ hdSG_within.2 rfl rfl (Nat.le_of_ble_eq_true rfl) ⟨Nat.zero_le _, Nat.zero_le _⟩ dX11_copy_14 (fun r14 g14 hv => ?_)
    refine j_if_ne (tgt := 23) hC dX11_copy_17 (by decide) (fun h_ => ?_) (fun h_ => ?_)
    · have hv := hv.1 h_
      refine j_aload_n (i := 0) hC dX11_copy_23 rfl 0 rfl ?_
      refine j_get (C := RX11) (T := TX11) (N := 8) (v := .ref (ad 1)) hC hinX11 0 (wS_c0 ad cy _) rfl 0 (by decide) (mw 2 rfl) rfl rfl dX11_copy_24 ?_
      refine j_iload_n (i := 1) hC dX11_copy_27 rfl 1 rfl ?_
      refine j_iload_n (i := 2) hC dX11_copy_28 rfl 2 rfl ?_
      refine j_iload_n (i := 3) hC dX11_copy_29 rfl 3 rfl ?_
      refine j_iload hC dX11_copy_30 4 rfl ?_
      refine j_iload hC dX11_copy_32 5 rfl ?_
      refine j_callV_i (C := RX7) (As := [.int a1, .int a2, .int a3, .int a4, .int a5]) (rest := []) (b := (ad 1)) hC (cSheets_lookAtBoth hv) 5 gX11_copy_X7_lookAtBoth rfl rfl rfl ⟨Nat.le_of_ble_eq_true rfl, Nat.le_of_ble_eq_true rfl⟩ hdSheets_lookAtBoth rfl (wS_c1 ad cy _) rfl rfl (Nat.le_of_ble_eq_true rfl) ⟨Nat.zero_le _, Nat.zero_le _⟩ dX11_copy_34 (fun r34 g34 hv => ?_)
      refine j_istore (lv' := [(6, .int r34), (0, .ref (ad 0)), (1, .int a1), (2, .int a2), (3, .int a3), (4, .int a4), (5, .int a5)]) hC dX11_copy_37 (by decide) rfl ?_
      refine j_iload hC dX11_copy_39 0 rfl ?_
      refine j_if_eq (tgt := 51) hC dX11_copy_41 (by decide) (fun h_ => ?_) (fun h_ => ?_)
      · have hv := hv.1 h_
        refine j_aload_n (i := 0) hC dX11_copy_51 rfl 1 rfl ?_
        refine j_get (C := RX11) (T := TX11) (N := 8) (v := .ref (ad 1)) hC hinX11 0 (wS_c0 ad cy _) rfl 0 (by decide) (mw 2 rfl) rfl rfl dX11_copy_52 ?_
        refine j_iload_n (i := 1) hC dX11_copy_55 rfl 2 rfl ?_
        refine j_iload_n (i := 2) hC dX11_copy_56 rfl 3 rfl ?_
        refine j_iload_n (i := 3) hC dX11_copy_57 rfl 4 rfl ?_
        refine j_iload hC dX11_copy_58 5 rfl ?_
        refine j_iload hC dX11_copy_60 6 rfl ?_
        refine j_callV_v (C := RX7) (As := [.int a1, .int a2, .int a3, .int a4, .int a5]) (rest := []) (b := (ad 1)) hC (cSheets_move hv) 5 gX11_copy_X7_move rfl rfl rfl ⟨Nat.le_of_ble_eq_true rfl, Nat.le_of_ble_eq_true rfl⟩ hdSheets_move rfl (wS_c1 ad cy _) rfl rfl (Nat.le_of_ble_eq_true rfl) ⟨Nat.zero_le _, Nat.zero_le _⟩ dX11_copy_62 (fun g62 hv => ?_)
        refine j_aload_n (i := 0) hC dX11_copy_65 rfl 1 rfl ?_
        refine j_iload hC dX11_copy_66 6 rfl ?_
        refine j_callV_i (C := RX11) (As := [.int a5]) (rest := []) (b := (ad 0)) hC (cSG_fine hv) 1 gX11_copy_X11_fine rfl rfl rfl ⟨Nat.le_of_ble_eq_true rfl, Nat.le_of_ble_eq_true rfl⟩ hdSG_fine rfl (wS_c0 ad cy _) rfl rfl (Nat.le_of_ble_eq_true rfl) ⟨Nat.zero_le _, Nat.zero_le _⟩ dX11_copy_68 (fun r68 g68 hv => ?_)
        exact j_iret hC hQ dX11_copy_71 rfl hv
      · have hv := hv.2 h_
        refine j_aload_n (i := 0) hC dX11_copy_44 rfl 1 rfl ?_
        refine j_iload hC dX11_copy_45 0 rfl ?_
        refine j_callV_i (C := RX11) (As := [.int r34]) (rest := []) (b := (ad 0)) hC (cSG_found hv) 1 gX11_copy_X11_found rfl rfl rfl ⟨Nat.le_of_ble_eq_true rfl, Nat.le_of_ble_eq_true rfl⟩ hdSG_found rfl (wS_c0 ad cy _) rfl rfl (Nat.le_of_ble_eq_true rfl) ⟨Nat.zero_le _, Nat.zero_le _⟩ dX11_copy_47 (fun r47 g47 hv => ?_)
        exact j_iret hC hQ dX11_copy_50 rfl hv
    · have hv := hv.2 h_
      refine j_ldc (v := -1000001) hC dX11_copy_20 (mw 1 rfl) ?_
      exact j_iret hC hQ dX11_copy_22 rfl hv
theorem hdSheets_takeAway : yX7_takeAway.cls = RX7 ∧ yX7_takeAway.cls ≠ "java/lang/invoke/MethodHandle" ∧ yX7_takeAway.cls ≠ "java/lang/invoke/VarHandle" ∧ (parseMethodDescriptor yX7_takeAway.desc).map (fun d => d.parameters.length) = some 1 := by decide +kernel
abbrev rSheets_takeAway : Room := { frames := 0, cells := 0, slots := 0, locals := 0 }
def vSheets_takeAway (g : GS) (a1 : Int32) (post : Int32 → GS → Prop) : Prop :=
  (vp_in a1 8 ∧ (vp_in a1 8 ∧ post ((z_sizes g) a1.toNatClampNeg) (sz_sizes g (upd (z_sizes g) a1.toNatClampNeg (-1 : Int32)))))
set_option maxHeartbeats 4000000 in
set_option maxRecDepth 100000 in
theorem cSheets_takeAway {l : Launch} {D : va_G} {ad : Nat → Nat} {cy : Nat → ClassId} {g : GS} {a1 : Int32} {post : Int32 → GS → Prop} (hv : vSheets_takeAway g a1 post) : jMi l yX7_takeAway wsX7_takeAway rSheets_takeAway D (tyS cy) [.ref (ad 1), .int a1] (wS ad cy g) (wS ad cy) post 0 0 := by
  refine j_meti (cc := cX7_takeAway) (nL := 3) (rt := (some .int)) (by decide) (Nat.le_of_ble_eq_true rfl) ?_
  intro Γ hC hQ _
  have hC : jC Γ l rSheets_takeAway D 3 RX7 cX7_takeAway wsX7_takeAway (tyS cy) := hC
  have hinX7 : ∀ w ∈ wsX70, w ∈ wsX7_takeAway := fun w h => List.mem_cons_of_mem _ (List.mem_append_right _ h)
  refine j_lv (lv' := [(0, .ref (ad 1)), (1, .int a1)]) [0, 1] rfl ?_
  unfold vSheets_takeAway at hv
  refine j_aload_n (i := 0) hC dX7_takeAway_0 rfl 0 rfl ?_
  refine j_get (C := RX7) (T := TX7) (N := 3) (v := .ref (ad 4)) hC hinX7 1 (wS_c1 ad cy _) rfl 2 (by decide) (mw 1 rfl) rfl rfl dX7_takeAway_1 ?_
  refine j_iload_n (i := 1) hC dX7_takeAway_4 rfl 1 rfl ?_
  have hb5 := hv.1
  have hv := hv.2
  refine j_iald (v := ((z_sizes g) a1.toNatClampNeg)) hC _ 0 (wS_c4 ad cy _) rfl hb5 rfl dX7_takeAway_5 ?_
  refine j_istore_n (i := 2) (lv' := [(2, .int ((z_sizes g) a1.toNatClampNeg)), (0, .ref (ad 1)), (1, .int a1)]) hC dX7_takeAway_6 rfl (by decide) rfl ?_
  refine j_aload_n (i := 0) hC dX7_takeAway_7 rfl 1 rfl ?_
  refine j_get (C := RX7) (T := TX7) (N := 3) (v := .ref (ad 4)) hC hinX7 1 (wS_c1 ad cy _) rfl 2 (by decide) (mw 1 rfl) rfl rfl dX7_takeAway_8 ?_
  refine j_iload_n (i := 1) hC dX7_takeAway_11 rfl 2 rfl ?_
  refine j_iconst (v := -1) hC dX7_takeAway_12 (by decide) ?_
  have hb13 := hv.1
  have hv := hv.2
  refine j_iast hC _ 0 (wS_c4 ad cy _) rfl hb13 (wS_s_sizes ad cy _ _) dX7_takeAway_13 ?_
  refine j_iload_n (i := 2) hC dX7_takeAway_14 rfl 0 rfl ?_
  exact j_iret hC hQ dX7_takeAway_15 rfl hv
theorem hdSG_drop : yX11_drop.cls = RX11 ∧ yX11_drop.cls ≠ "java/lang/invoke/MethodHandle" ∧ yX11_drop.cls ≠ "java/lang/invoke/VarHandle" ∧ (parseMethodDescriptor yX11_drop.desc).map (fun d => d.parameters.length) = some 1 := by decide +kernel
abbrev rSG_drop : Room := { frames := 1, cells := 0, slots := 0, locals := 22 }
def vSG_drop (g : GS) (a1 : Int32) (post : Int32 → GS → Prop) : Prop :=
  (vSG_within g a1 (0 : Int32) (7 : Int32) (fun r4 g4 => ((¬ r4 = (0 : Int32) → (vSheets_isMissing g4 a1 (fun r18 g18 => ((r18 = (0 : Int32) → (vSheets_takeAway g18 a1 (fun r38 g38 => (vSG_fine g38 r38 (fun r41 g41 => post r41 g41))))) ∧ (¬ r18 = (0 : Int32) → (vSG_found g18 (1 : Int32) (fun r26 g26 => post r26 g26))))))) ∧ (r4 = (0 : Int32) → post (-1000001 : Int32) g4))))
set_option maxHeartbeats 4000000 in
set_option maxRecDepth 100000 in
theorem cSG_drop {l : Launch} {D : va_G} {ad : Nat → Nat} {cy : Nat → ClassId} {g : GS} {a1 : Int32} {post : Int32 → GS → Prop} (hv : vSG_drop g a1 post) : jMi l yX11_drop wsX11_drop rSG_drop D (tyS cy) [.ref (ad 0), .int a1] (wS ad cy g) (wS ad cy) post 0 0 := by
  refine j_meti (cc := cX11_drop) (nL := 2) (rt := (some .int)) (by decide) (Nat.le_of_ble_eq_true rfl) ?_
  intro Γ hC hQ _
  have hC : jC Γ l rSG_drop D 2 RX11 cX11_drop wsX11_drop (tyS cy) := hC
  have hinX11 : ∀ w ∈ wsX110, w ∈ wsX11_drop := fun w h => List.mem_cons_of_mem _ (List.mem_append_left _ (List.mem_append_right _ h))
  refine j_lv (lv' := [(0, .ref (ad 0)), (1, .int a1)]) [0, 1] rfl ?_
  unfold vSG_drop at hv
  refine j_iload_n (i := 1) hC dX11_drop_0 rfl 1 rfl ?_
  refine j_iconst (v := 0) hC dX11_drop_1 (by decide) ?_
  refine j_bipush (v := 7) hC dX11_drop_2 (by decide) ?_
  refine j_callS_i (As := [.int a1, .int (0 : Int32), .int (7 : Int32)]) (rest := []) hC (cSG_within hv) 3 gX11_drop_X11_within rfl rfl rfl ⟨Nat.le_of_ble_eq_true rfl, Nat.le_of_ble_eq_true rfl⟩ hdSG_within.2 rfl rfl (Nat.le_of_ble_eq_true rfl) ⟨Nat.zero_le _, Nat.zero_le _⟩ dX11_drop_4 (fun r4 g4 hv => ?_)
  refine j_if_ne (tgt := 13) hC dX11_drop_7 (by decide) (fun h_ => ?_) (fun h_ => ?_)
  · have hv := hv.1 h_
    refine j_aload_n (i := 0) hC dX11_drop_13 rfl 0 rfl ?_
    refine j_get (C := RX11) (T := TX11) (N := 8) (v := .ref (ad 1)) hC hinX11 0 (wS_c0 ad cy _) rfl 0 (by decide) (mw 2 rfl) rfl rfl dX11_drop_14 ?_
    refine j_iload_n (i := 1) hC dX11_drop_17 rfl 1 rfl ?_
    refine j_callV_i (C := RX7) (As := [.int a1]) (rest := []) (b := (ad 1)) hC (cSheets_isMissing hv) 1 gX11_drop_X7_isMissing rfl rfl rfl ⟨Nat.le_of_ble_eq_true rfl, Nat.le_of_ble_eq_true rfl⟩ hdSheets_isMissing rfl (wS_c1 ad cy _) rfl rfl (Nat.le_of_ble_eq_true rfl) ⟨Nat.zero_le _, Nat.zero_le _⟩ dX11_drop_18 (fun r18 g18 hv => ?_)
    refine j_if_eq (tgt := 32) hC dX11_drop_21 (by decide) (fun h_ => ?_) (fun h_ => ?_)
    · have hv := hv.1 h_
      refine j_aload_n (i := 0) hC dX11_drop_32 rfl 0 rfl ?_
      refine j_aload_n (i := 0) hC dX11_drop_33 rfl 0 rfl ?_
      refine j_get (C := RX11) (T := TX11) (N := 8) (v := .ref (ad 1)) hC hinX11 0 (wS_c0 ad cy _) rfl 0 (by decide) (mw 2 rfl) rfl rfl dX11_drop_34 ?_
      refine j_iload_n (i := 1) hC dX11_drop_37 rfl 1 rfl ?_
      refine j_callV_i (C := RX7) (As := [.int a1]) (rest := [.ref (ad 0)]) (b := (ad 1)) hC (cSheets_takeAway hv) 1 gX11_drop_X7_takeAway rfl rfl rfl ⟨Nat.le_of_ble_eq_true rfl, Nat.le_of_ble_eq_true rfl⟩ hdSheets_takeAway rfl (wS_c1 ad cy _) rfl rfl (Nat.le_of_ble_eq_true rfl) ⟨Nat.zero_le _, Nat.zero_le _⟩ dX11_drop_38 (fun r38 g38 hv => ?_)
      refine j_callV_i (C := RX11) (As := [.int r38]) (rest := []) (b := (ad 0)) hC (cSG_fine hv) 1 gX11_drop_X11_fine rfl rfl rfl ⟨Nat.le_of_ble_eq_true rfl, Nat.le_of_ble_eq_true rfl⟩ hdSG_fine rfl (wS_c0 ad cy _) rfl rfl (Nat.le_of_ble_eq_true rfl) ⟨Nat.zero_le _, Nat.zero_le _⟩ dX11_drop_41 (fun r41 g41 hv => ?_)
      exact j_iret hC hQ dX11_drop_44 rfl hv
    · have hv := hv.2 h_
      refine j_aload_n (i := 0) hC dX11_drop_24 rfl 0 rfl ?_
      refine j_iconst (v := 1) hC dX11_drop_25 (by decide) ?_
      refine j_callV_i (C := RX11) (As := [.int (1 : Int32)]) (rest := []) (b := (ad 0)) hC (cSG_found hv) 1 gX11_drop_X11_found rfl rfl rfl ⟨Nat.le_of_ble_eq_true rfl, Nat.le_of_ble_eq_true rfl⟩ hdSG_found rfl (wS_c0 ad cy _) rfl rfl (Nat.le_of_ble_eq_true rfl) ⟨Nat.zero_le _, Nat.zero_le _⟩ dX11_drop_26 (fun r26 g26 hv => ?_)
      refine j_goto (tgt := 44) hC dX11_drop_29 (by decide) ?_
      exact j_iret hC hQ dX11_drop_44 rfl hv
  · have hv := hv.2 h_
    refine j_ldc (v := -1000001) hC dX11_drop_10 (mw 1 rfl) ?_
    exact j_iret hC hQ dX11_drop_12 rfl hv
theorem hdSheets_areWithin : yX7_areWithin.cls = RX7 ∧ yX7_areWithin.cls ≠ "java/lang/invoke/MethodHandle" ∧ yX7_areWithin.cls ≠ "java/lang/invoke/VarHandle" ∧ (parseMethodDescriptor yX7_areWithin.desc).map (fun d => d.parameters.length) = some 4 := by decide +kernel
abbrev rSheets_areWithin : Room := { frames := 1, cells := 0, slots := 0, locals := 22 }
def vSheets_areWithin_3 (post : Int32 → GS → Prop) : Nat → Int32 → Int32 → Int32 → Int32 → Int32 → GS → Prop
  | 0, _, _, _, _, _, _ => False
  | k_ + 1, x1, x2, x3, x4, x5, g =>
  (((x2 + x3) ≤ x5 → post (1 : Int32) g) ∧ (¬ (x2 + x3) ≤ x5 → (vp_in x1 8 ∧ (vp_in x5 60 ∧ (vSG_within g ((z_items g) x1.toNatClampNeg x5.toNatClampNeg) (0 : Int32) x4 (fun r23 g23 => ((¬ r23 = (0 : Int32) → (vSheets_areWithin_3 post k_ x1 x2 x3 x4 (x5 + (1 : Int32)) g23)) ∧ (r23 = (0 : Int32) → post (0 : Int32) g23))))))))
def vSheets_areWithin (g : GS) (a1 : Int32) (a2 : Int32) (a3 : Int32) (a4 : Int32) (post : Int32 → GS → Prop) : Prop :=
  (∃ n_ : Nat, vSheets_areWithin_3 post n_ a1 a2 a3 a4 a2 g)
set_option maxHeartbeats 4000000 in
set_option maxRecDepth 100000 in
theorem lSheets_areWithin_3 {Γ : jG} {l : Launch} {D : va_G} {ad : Nat → Nat} {cy : Nat → ClassId} {post : Int32 → GS → Prop} (hC : jC Γ l rSheets_areWithin D 6 RX7 cX7_areWithin wsX7_areWithin (tyS cy)) (hQ : jQi Γ D (wS ad cy) post (some .boolean) 0 0) : ∀ (n_ : Nat) (x1 : Int32) (x2 : Int32) (x3 : Int32) (x4 : Int32) (x5 : Int32) (g : GS), vSheets_areWithin_3 post n_ x1 x2 x3 x4 x5 g → J Γ D 6 0 0 (wS ad cy g) 3 [(0, .ref (ad 1)), (1, .int x1), (2, .int x2), (3, .int x3), (4, .int x4), (5, .int x5)] [] := by
  have hinX7 : ∀ w ∈ wsX70, w ∈ wsX7_areWithin := fun w h => List.mem_cons_of_mem _ (List.mem_append_right _ h)
  intro n_
  induction n_ with
  | zero => intro x1 x2 x3 x4 x5 g hv; exact False.elim hv
  | succ k_ ih =>
    intro x1 x2 x3 x4 x5 g hv
    unfold vSheets_areWithin_3 at hv
    refine j_iload hC dX7_areWithin_3 5 rfl ?_
    refine j_iload_n (i := 2) hC dX7_areWithin_5 rfl 2 rfl ?_
    refine j_iload_n (i := 3) hC dX7_areWithin_6 rfl 3 rfl ?_
    refine j_iadd hC dX7_areWithin_7 ?_
    refine j_icmp_ge (tgt := 37) hC dX7_areWithin_8 (by decide) (fun h_ => ?_) (fun h_ => ?_)
    · have hv := hv.1 h_
      refine j_iconst (v := 1) hC dX7_areWithin_37 (by decide) ?_
      exact j_zret hC hQ dX7_areWithin_38 rfl rfl hv
    · have hv := hv.2 h_
      refine j_aload_n (i := 0) hC dX7_areWithin_11 rfl 0 rfl ?_
      refine j_get (C := RX7) (T := TX7) (N := 3) (v := .ref (ad 2)) hC hinX7 1 (wS_c1 ad cy _) rfl 0 (by decide) (mw 1 rfl) rfl rfl dX7_areWithin_12 ?_
      refine j_iload_n (i := 1) hC dX7_areWithin_15 rfl 1 rfl ?_
      have hb16 := hv.1
      have hv := hv.2
      refine j_aald (v := .ref (ad (25 + x1.toNatClampNeg))) hC 2 3 (wS_c2 ad cy _) rfl rfl hb16 (jrow ad 25 (j := x1.toNatClampNeg) (jlt hb16)) dX7_areWithin_16 ?_
      refine j_iload hC dX7_areWithin_17 5 rfl ?_
      have hb19 := hv.1
      have hv := hv.2
      refine j_iald (v := ((z_items g) x1.toNatClampNeg x5.toNatClampNeg)) hC _ 0 (wS_r_items ad cy _ (jlt hb16)) rfl hb19 rfl dX7_areWithin_19 ?_
      refine j_iconst (v := 0) hC dX7_areWithin_20 (by decide) ?_
      refine j_iload hC dX7_areWithin_21 4 rfl ?_
      refine j_callSN_i (As := [.int ((z_items g) x1.toNatClampNeg x5.toNatClampNeg), .int (0 : Int32), .int x4]) (rest := []) (host := RX11) hC (cSG_within hv) 3 gX7_areWithin_X11_within_n47 rfl rfl rfl ⟨Nat.le_of_ble_eq_true rfl, Nat.le_of_ble_eq_true rfl⟩ (mw 5 rfl) (mw 3 rfl) (mw 2 rfl) hdSG_within.2 rfl rfl (Nat.le_of_ble_eq_true rfl) ⟨Nat.zero_le _, Nat.zero_le _⟩ dX7_areWithin_23 (fun r23 g23 hv => ?_)
      refine j_if_ne (tgt := 31) hC dX7_areWithin_26 (by decide) (fun h_ => ?_) (fun h_ => ?_)
      · have hv := hv.1 h_
        refine j_iinc (k := 5) (v := (x5 + (1 : Int32))) (lv' := [(5, .int (x5 + (1 : Int32))), (0, .ref (ad 1)), (1, .int x1), (2, .int x2), (3, .int x3), (4, .int x4)]) hC dX7_areWithin_31 rfl rfl (by decide) rfl ?_
        refine j_goto (tgt := 3) hC dX7_areWithin_34 (by decide) ?_
        exact j_lv [1, 2, 3, 4, 5, 0] rfl (ih _ _ _ _ _ _ hv)
      · have hv := hv.2 h_
        refine j_iconst (v := 0) hC dX7_areWithin_29 (by decide) ?_
        exact j_zret hC hQ dX7_areWithin_30 rfl rfl hv
set_option maxHeartbeats 4000000 in
set_option maxRecDepth 100000 in
theorem cSheets_areWithin {l : Launch} {D : va_G} {ad : Nat → Nat} {cy : Nat → ClassId} {g : GS} {a1 : Int32} {a2 : Int32} {a3 : Int32} {a4 : Int32} {post : Int32 → GS → Prop} (hv : vSheets_areWithin g a1 a2 a3 a4 post) : jMi l yX7_areWithin wsX7_areWithin rSheets_areWithin D (tyS cy) [.ref (ad 1), .int a1, .int a2, .int a3, .int a4] (wS ad cy g) (wS ad cy) post 0 0 := by
  refine j_meti (cc := cX7_areWithin) (nL := 6) (rt := (some .boolean)) (by decide) (Nat.le_of_ble_eq_true rfl) ?_
  intro Γ hC hQ _
  have hC : jC Γ l rSheets_areWithin D 6 RX7 cX7_areWithin wsX7_areWithin (tyS cy) := hC
  have hinX7 : ∀ w ∈ wsX70, w ∈ wsX7_areWithin := fun w h => List.mem_cons_of_mem _ (List.mem_append_right _ h)
  refine j_lv (lv' := [(0, .ref (ad 1)), (1, .int a1), (2, .int a2), (3, .int a3), (4, .int a4)]) [0, 1, 2, 3, 4] rfl ?_
  unfold vSheets_areWithin at hv
  refine j_iload_n (i := 2) hC dX7_areWithin_0 rfl 2 rfl ?_
  refine j_istore (lv' := [(5, .int a2), (0, .ref (ad 1)), (1, .int a1), (2, .int a2), (3, .int a3), (4, .int a4)]) hC dX7_areWithin_1 (by decide) rfl ?_
  obtain ⟨n_, hv⟩ := hv
  exact j_lv [1, 2, 3, 4, 5, 0] rfl (lSheets_areWithin_3 hC hQ n_ _ _ _ _ _ _ hv)
theorem hdSea_areAlike : yX6_areAlike.cls = RX6 ∧ yX6_areAlike.cls ≠ "java/lang/invoke/MethodHandle" ∧ yX6_areAlike.cls ≠ "java/lang/invoke/VarHandle" ∧ (parseMethodDescriptor yX6_areAlike.desc).map (fun d => d.parameters.length) = some 3 := by decide +kernel
abbrev rSea_areAlike : Room := { frames := 0, cells := 0, slots := 0, locals := 0 }
def vSea_areAlike_3 (post : Int32 → GS → Prop) : Nat → Int32 → Int32 → Int32 → Int32 → GS → Prop
  | 0, _, _, _, _, _ => False
  | k_ + 1, x1, x2, x3, x4, g =>
  ((x3 < x4 → post (1 : Int32) g) ∧ (¬ x3 < x4 → (vp_in x1 8 ∧ (vp_in x4 8 ∧ (vp_in x2 8 ∧ (vp_in x4 8 ∧ ((((z_levels g) x1.toNatClampNeg x4.toNatClampNeg) = ((z_levels g) x2.toNatClampNeg x4.toNatClampNeg) → (vSea_areAlike_3 post k_ x1 x2 x3 (x4 + (1 : Int32)) g)) ∧ (¬ ((z_levels g) x1.toNatClampNeg x4.toNatClampNeg) = ((z_levels g) x2.toNatClampNeg x4.toNatClampNeg) → post (0 : Int32) g))))))))
def vSea_areAlike (g : GS) (a1 : Int32) (a2 : Int32) (a3 : Int32) (post : Int32 → GS → Prop) : Prop :=
  (∃ n_ : Nat, vSea_areAlike_3 post n_ a1 a2 a3 (0 : Int32) g)
set_option maxHeartbeats 4000000 in
set_option maxRecDepth 100000 in
theorem lSea_areAlike_3 {Γ : jG} {l : Launch} {D : va_G} {ad : Nat → Nat} {cy : Nat → ClassId} {post : Int32 → GS → Prop} (hC : jC Γ l rSea_areAlike D 5 RX6 cX6_areAlike wsX6_areAlike (tyS cy)) (hQ : jQi Γ D (wS ad cy) post (some .boolean) 0 0) : ∀ (n_ : Nat) (x1 : Int32) (x2 : Int32) (x3 : Int32) (x4 : Int32) (g : GS), vSea_areAlike_3 post n_ x1 x2 x3 x4 g → J Γ D 5 0 0 (wS ad cy g) 3 [(0, .ref (ad 5)), (1, .int x1), (2, .int x2), (3, .int x3), (4, .int x4)] [] := by
  have hinX6 : ∀ w ∈ wsX60, w ∈ wsX6_areAlike := fun w h => List.mem_cons_of_mem _ (List.mem_append_right _ h)
  intro n_
  induction n_ with
  | zero => intro x1 x2 x3 x4 g hv; exact False.elim hv
  | succ k_ ih =>
    intro x1 x2 x3 x4 g hv
    unfold vSea_areAlike_3 at hv
    refine j_iload hC dX6_areAlike_3 4 rfl ?_
    refine j_iload_n (i := 3) hC dX6_areAlike_5 rfl 3 rfl ?_
    refine j_icmp_gt (tgt := 38) hC dX6_areAlike_6 (by decide) (fun h_ => ?_) (fun h_ => ?_)
    · have hv := hv.1 h_
      refine j_iconst (v := 1) hC dX6_areAlike_38 (by decide) ?_
      exact j_zret hC hQ dX6_areAlike_39 rfl rfl hv
    · have hv := hv.2 h_
      refine j_aload_n (i := 0) hC dX6_areAlike_9 rfl 0 rfl ?_
      refine j_get (C := RX6) (T := TX6) (N := 4) (v := .ref (ad 7)) hC hinX6 5 (wS_c5 ad cy _) rfl 1 (by decide) (mw 1 rfl) rfl rfl dX6_areAlike_10 ?_
      refine j_iload_n (i := 1) hC dX6_areAlike_13 rfl 1 rfl ?_
      have hb14 := hv.1
      have hv := hv.2
      refine j_aald (v := .ref (ad (33 + x1.toNatClampNeg))) hC 7 3 (wS_c7 ad cy _) rfl rfl hb14 (jrow ad 33 (j := x1.toNatClampNeg) (jlt hb14)) dX6_areAlike_14 ?_
      refine j_iload hC dX6_areAlike_15 4 rfl ?_
      have hb17 := hv.1
      have hv := hv.2
      refine j_iald (v := ((z_levels g) x1.toNatClampNeg x4.toNatClampNeg)) hC _ 0 (wS_r_levels ad cy _ (jlt hb14)) rfl hb17 rfl dX6_areAlike_17 ?_
      refine j_aload_n (i := 0) hC dX6_areAlike_18 rfl 0 rfl ?_
      refine j_get (C := RX6) (T := TX6) (N := 4) (v := .ref (ad 7)) hC hinX6 5 (wS_c5 ad cy _) rfl 1 (by decide) (mw 1 rfl) rfl rfl dX6_areAlike_19 ?_
      refine j_iload_n (i := 2) hC dX6_areAlike_22 rfl 2 rfl ?_
      have hb23 := hv.1
      have hv := hv.2
      refine j_aald (v := .ref (ad (33 + x2.toNatClampNeg))) hC 7 3 (wS_c7 ad cy _) rfl rfl hb23 (jrow ad 33 (j := x2.toNatClampNeg) (jlt hb23)) dX6_areAlike_23 ?_
      refine j_iload hC dX6_areAlike_24 4 rfl ?_
      have hb26 := hv.1
      have hv := hv.2
      refine j_iald (v := ((z_levels g) x2.toNatClampNeg x4.toNatClampNeg)) hC _ 0 (wS_r_levels ad cy _ (jlt hb23)) rfl hb26 rfl dX6_areAlike_26 ?_
      refine j_icmp_eq (tgt := 32) hC dX6_areAlike_27 (by decide) (fun h_ => ?_) (fun h_ => ?_)
      · have hv := hv.1 h_
        refine j_iinc (k := 4) (v := (x4 + (1 : Int32))) (lv' := [(4, .int (x4 + (1 : Int32))), (0, .ref (ad 5)), (1, .int x1), (2, .int x2), (3, .int x3)]) hC dX6_areAlike_32 rfl rfl (by decide) rfl ?_
        refine j_goto (tgt := 3) hC dX6_areAlike_35 (by decide) ?_
        exact j_lv [1, 2, 3, 4, 0] rfl (ih _ _ _ _ _ hv)
      · have hv := hv.2 h_
        refine j_iconst (v := 0) hC dX6_areAlike_30 (by decide) ?_
        exact j_zret hC hQ dX6_areAlike_31 rfl rfl hv
set_option maxHeartbeats 4000000 in
set_option maxRecDepth 100000 in
theorem cSea_areAlike {l : Launch} {D : va_G} {ad : Nat → Nat} {cy : Nat → ClassId} {g : GS} {a1 : Int32} {a2 : Int32} {a3 : Int32} {post : Int32 → GS → Prop} (hv : vSea_areAlike g a1 a2 a3 post) : jMi l yX6_areAlike wsX6_areAlike rSea_areAlike D (tyS cy) [.ref (ad 5), .int a1, .int a2, .int a3] (wS ad cy g) (wS ad cy) post 0 0 := by
  refine j_meti (cc := cX6_areAlike) (nL := 5) (rt := (some .boolean)) (by decide) (Nat.le_of_ble_eq_true rfl) ?_
  intro Γ hC hQ _
  have hC : jC Γ l rSea_areAlike D 5 RX6 cX6_areAlike wsX6_areAlike (tyS cy) := hC
  have hinX6 : ∀ w ∈ wsX60, w ∈ wsX6_areAlike := fun w h => List.mem_cons_of_mem _ (List.mem_append_right _ h)
  refine j_lv (lv' := [(0, .ref (ad 5)), (1, .int a1), (2, .int a2), (3, .int a3)]) [0, 1, 2, 3] rfl ?_
  unfold vSea_areAlike at hv
  refine j_iconst (v := 0) hC dX6_areAlike_0 (by decide) ?_
  refine j_istore (lv' := [(4, .int (0 : Int32)), (0, .ref (ad 5)), (1, .int a1), (2, .int a2), (3, .int a3)]) hC dX6_areAlike_1 (by decide) rfl ?_
  obtain ⟨n_, hv⟩ := hv
  exact j_lv [1, 2, 3, 4, 0] rfl (lSea_areAlike_3 hC hQ n_ _ _ _ _ _ hv)
theorem hdSea_headOf : yX6_headOf.cls = RX6 ∧ yX6_headOf.cls ≠ "java/lang/invoke/MethodHandle" ∧ yX6_headOf.cls ≠ "java/lang/invoke/VarHandle" ∧ (parseMethodDescriptor yX6_headOf.desc).map (fun d => d.parameters.length) = some 2 := by decide +kernel
abbrev rSea_headOf : Room := { frames := 1, cells := 0, slots := 0, locals := 24 }
def vSea_headOf_2 (post : Int32 → GS → Prop) : Nat → Int32 → Int32 → Int32 → GS → Prop
  | 0, _, _, _, _ => False
  | k_ + 1, x1, x2, x3, g =>
  ((x1 ≤ x3 → post x3 g) ∧ (¬ x1 ≤ x3 → (vSea_areAlike g x3 x1 x2 (fun r11 g11 => ((¬ r11 = (0 : Int32) → post x3 g11) ∧ (r11 = (0 : Int32) → (vSea_headOf_2 post k_ x1 x2 (x3 + (1 : Int32)) g11)))))))
def vSea_headOf (g : GS) (a1 : Int32) (a2 : Int32) (post : Int32 → GS → Prop) : Prop :=
  (∃ n_ : Nat, vSea_headOf_2 post n_ a1 a2 (0 : Int32) g)
set_option maxHeartbeats 4000000 in
set_option maxRecDepth 100000 in
theorem lSea_headOf_2 {Γ : jG} {l : Launch} {D : va_G} {ad : Nat → Nat} {cy : Nat → ClassId} {post : Int32 → GS → Prop} (hC : jC Γ l rSea_headOf D 4 RX6 cX6_headOf wsX6_headOf (tyS cy)) (hQ : jQi Γ D (wS ad cy) post (some .int) 0 0) : ∀ (n_ : Nat) (x1 : Int32) (x2 : Int32) (x3 : Int32) (g : GS), vSea_headOf_2 post n_ x1 x2 x3 g → J Γ D 4 0 0 (wS ad cy g) 2 [(0, .ref (ad 5)), (1, .int x1), (2, .int x2), (3, .int x3)] [] := by
  intro n_
  induction n_ with
  | zero => intro x1 x2 x3 g hv; exact False.elim hv
  | succ k_ ih =>
    intro x1 x2 x3 g hv
    unfold vSea_headOf_2 at hv
    refine j_iload_n (i := 3) hC dX6_headOf_2 rfl 3 rfl ?_
    refine j_iload_n (i := 1) hC dX6_headOf_3 rfl 1 rfl ?_
    refine j_icmp_ge (tgt := 23) hC dX6_headOf_4 (by decide) (fun h_ => ?_) (fun h_ => ?_)
    · have hv := hv.1 h_
      refine j_iload_n (i := 3) hC dX6_headOf_23 rfl 3 rfl ?_
      exact j_iret hC hQ dX6_headOf_24 rfl hv
    · have hv := hv.2 h_
      refine j_aload_n (i := 0) hC dX6_headOf_7 rfl 0 rfl ?_
      refine j_iload_n (i := 3) hC dX6_headOf_8 rfl 3 rfl ?_
      refine j_iload_n (i := 1) hC dX6_headOf_9 rfl 1 rfl ?_
      refine j_iload_n (i := 2) hC dX6_headOf_10 rfl 2 rfl ?_
      refine j_callV_i (C := RX6) (As := [.int x3, .int x1, .int x2]) (rest := []) (b := (ad 5)) hC (cSea_areAlike hv) 3 gX6_headOf_X6_areAlike rfl rfl rfl ⟨Nat.le_of_ble_eq_true rfl, Nat.le_of_ble_eq_true rfl⟩ hdSea_areAlike rfl (wS_c5 ad cy _) rfl rfl (Nat.le_of_ble_eq_true rfl) ⟨Nat.zero_le _, Nat.zero_le _⟩ dX6_headOf_11 (fun r11 g11 hv => ?_)
      refine j_if_ne (tgt := 23) hC dX6_headOf_14 (by decide) (fun h_ => ?_) (fun h_ => ?_)
      · have hv := hv.1 h_
        refine j_iload_n (i := 3) hC dX6_headOf_23 rfl 3 rfl ?_
        exact j_iret hC hQ dX6_headOf_24 rfl hv
      · have hv := hv.2 h_
        refine j_iinc (k := 3) (v := (x3 + (1 : Int32))) (lv' := [(3, .int (x3 + (1 : Int32))), (0, .ref (ad 5)), (1, .int x1), (2, .int x2)]) hC dX6_headOf_17 rfl rfl (by decide) rfl ?_
        refine j_goto (tgt := 2) hC dX6_headOf_20 (by decide) ?_
        exact j_lv [1, 2, 3, 0] rfl (ih _ _ _ _ hv)
set_option maxHeartbeats 4000000 in
set_option maxRecDepth 100000 in
theorem cSea_headOf {l : Launch} {D : va_G} {ad : Nat → Nat} {cy : Nat → ClassId} {g : GS} {a1 : Int32} {a2 : Int32} {post : Int32 → GS → Prop} (hv : vSea_headOf g a1 a2 post) : jMi l yX6_headOf wsX6_headOf rSea_headOf D (tyS cy) [.ref (ad 5), .int a1, .int a2] (wS ad cy g) (wS ad cy) post 0 0 := by
  refine j_meti (cc := cX6_headOf) (nL := 4) (rt := (some .int)) (by decide) (Nat.le_of_ble_eq_true rfl) ?_
  intro Γ hC hQ _
  have hC : jC Γ l rSea_headOf D 4 RX6 cX6_headOf wsX6_headOf (tyS cy) := hC
  refine j_lv (lv' := [(0, .ref (ad 5)), (1, .int a1), (2, .int a2)]) [0, 1, 2] rfl ?_
  unfold vSea_headOf at hv
  refine j_iconst (v := 0) hC dX6_headOf_0 (by decide) ?_
  refine j_istore_n (i := 3) (lv' := [(3, .int (0 : Int32)), (0, .ref (ad 5)), (1, .int a1), (2, .int a2)]) hC dX6_headOf_1 rfl (by decide) rfl ?_
  obtain ⟨n_, hv⟩ := hv
  exact j_lv [1, 2, 3, 0] rfl (lSea_headOf_2 hC hQ n_ _ _ _ _ hv)
theorem hdSea_add : yX6_add.cls = RX6 ∧ yX6_add.cls ≠ "java/lang/invoke/MethodHandle" ∧ yX6_add.cls ≠ "java/lang/invoke/VarHandle" ∧ (parseMethodDescriptor yX6_add.desc).map (fun d => d.parameters.length) = some 3 := by decide +kernel
abbrev rSea_add : Room := { frames := 2, cells := 0, slots := 0, locals := 47 }
def vSea_add_63 (post : Int32 → GS → Prop) (x4 : Int32) (g : GS) : Prop :=
  post x4 (sz_ssize g ((z_ssize g) + (1 : Int32)))
def vSea_add_32 (post : Int32 → GS → Prop) : Nat → Int32 → Int32 → GS → Prop
  | 0, _, _, _ => False
  | k_ + 1, x4, x5, g =>
  (((8 : Int32) ≤ x5 → (vSea_add_63 post x4 g)) ∧ (¬ (8 : Int32) ≤ x5 → (vp_in x5 8 ∧ (vSea_headOf g x4 x5 (fun r53 g53 => (vp_in x4 8 ∧ (vSea_add_32 post k_ x4 (x5 + (1 : Int32)) (sz_heads g53 (va_up (z_heads g53) x5.toNatClampNeg (upd ((z_heads g53) x5.toNatClampNeg) x4.toNatClampNeg r53))))))))))
def vSea_add (g : GS) (a1 : Int32) (a2 : Nat) (a3 : Int32) (post : Int32 → GS → Prop) : Prop :=
  (a2 < 8 ∧ (vp_in (z_ssize g) 8 ∧ (¬ a3 < 0 ∧ (¬ (0 : Int32) < 0 ∧ (¬ (8 : Int32) < 0 ∧ (a3.toNatClampNeg + (8 : Int32).toNatClampNeg ≤ 60 ∧ ((0 : Int32).toNatClampNeg + (8 : Int32).toNatClampNeg ≤ 8 ∧ (vp_in (z_ssize g) 8 ∧ (∃ n_ : Nat, vSea_add_32 post n_ (z_ssize g) (0 : Int32) (sz_weights (sz_levels g (va_up (z_levels g) ((z_ssize g).toNatClampNeg) (va_cpy ((z_items g) a2) ((z_levels g) ((z_ssize g).toNatClampNeg)) a3.toNatClampNeg (0 : Int32).toNatClampNeg (8 : Int32).toNatClampNeg))) (upd (z_weights g) (z_ssize g).toNatClampNeg a1)))))))))))
set_option maxHeartbeats 4000000 in
set_option maxRecDepth 100000 in
theorem lSea_add_63 {Γ : jG} {l : Launch} {D : va_G} {ad : Nat → Nat} {cy : Nat → ClassId} {post : Int32 → GS → Prop} (hC : jC Γ l rSea_add D 6 RX6 cX6_add wsX6_add (tyS cy)) (hQ : jQi Γ D (wS ad cy) post (some .int) 0 0) : ∀ (x4 : Int32) (g : GS), vSea_add_63 post x4 g → J Γ D 6 0 0 (wS ad cy g) 63 [(0, .ref (ad 5)), (4, .int x4)] [] := by
  have hinX6 : ∀ w ∈ wsX60, w ∈ wsX6_add := fun w h => List.mem_cons_of_mem _ (List.mem_append_right _ h)
  intro x4 g hv
  unfold vSea_add_63 at hv
  refine j_aload_n (i := 0) hC dX6_add_63 rfl 0 rfl ?_
  refine j_dup hC dX6_add_64 rfl ?_
  refine j_get (C := RX6) (T := TX6) (N := 4) (v := .int (z_ssize g)) hC hinX6 5 (wS_c5 ad cy _) rfl 3 (by decide) (mw 1 rfl) rfl rfl dX6_add_65 ?_
  refine j_iconst (v := 1) hC dX6_add_68 (by decide) ?_
  refine j_iadd hC dX6_add_69 ?_
  refine j_put (C := RX6) (T := TX6) (N := 4) (ty := .int) hC hinX6 tyX6 tyX6_ok nmX6 5 (wS_c5 ad cy _) rfl 3 (by decide) (mw 1 rfl) rfl rfl fdX6_3 rfl rfl (Nat.le_of_ble_eq_true rfl) (wS_p_ssize ad cy _ _) dX6_add_70 ?_
  refine j_iload hC dX6_add_73 1 rfl ?_
  exact j_iret hC hQ dX6_add_75 rfl hv
set_option maxHeartbeats 4000000 in
set_option maxRecDepth 100000 in
theorem lSea_add_32 {Γ : jG} {l : Launch} {D : va_G} {ad : Nat → Nat} {cy : Nat → ClassId} {post : Int32 → GS → Prop} (hC : jC Γ l rSea_add D 6 RX6 cX6_add wsX6_add (tyS cy)) (hQ : jQi Γ D (wS ad cy) post (some .int) 0 0) : ∀ (n_ : Nat) (x4 : Int32) (x5 : Int32) (g : GS), vSea_add_32 post n_ x4 x5 g → J Γ D 6 0 0 (wS ad cy g) 32 [(0, .ref (ad 5)), (4, .int x4), (5, .int x5)] [] := by
  have hinX6 : ∀ w ∈ wsX60, w ∈ wsX6_add := fun w h => List.mem_cons_of_mem _ (List.mem_append_right _ h)
  intro n_
  induction n_ with
  | zero => intro x4 x5 g hv; exact False.elim hv
  | succ k_ ih =>
    intro x4 x5 g hv
    unfold vSea_add_32 at hv
    refine j_iload hC dX6_add_32 2 rfl ?_
    refine j_bipush (v := 8) hC dX6_add_34 (by decide) ?_
    refine j_icmp_ge (tgt := 63) hC dX6_add_36 (by decide) (fun h_ => ?_) (fun h_ => ?_)
    · have hv := hv.1 h_
      exact j_lv [0, 1] rfl (lSea_add_63 hC hQ _ _ hv)
    · have hv := hv.2 h_
      refine j_aload_n (i := 0) hC dX6_add_39 rfl 0 rfl ?_
      refine j_get (C := RX6) (T := TX6) (N := 4) (v := .ref (ad 8)) hC hinX6 5 (wS_c5 ad cy _) rfl 2 (by decide) (mw 8 rfl) rfl rfl dX6_add_40 ?_
      refine j_iload hC dX6_add_43 2 rfl ?_
      have hb45 := hv.1
      have hv := hv.2
      refine j_aald (v := .ref (ad (41 + x5.toNatClampNeg))) hC 8 3 (wS_c8 ad cy _) rfl rfl hb45 (jrow ad 41 (j := x5.toNatClampNeg) (jlt hb45)) dX6_add_45 ?_
      refine j_iload hC dX6_add_46 1 rfl ?_
      refine j_aload_n (i := 0) hC dX6_add_48 rfl 0 rfl ?_
      refine j_iload hC dX6_add_49 1 rfl ?_
      refine j_iload hC dX6_add_51 2 rfl ?_
      refine j_callV_i (C := RX6) (As := [.int x4, .int x5]) (rest := [.int x4, .ref (ad (41 + x5.toNatClampNeg))]) (b := (ad 5)) hC (cSea_headOf hv) 2 gX6_add_X6_headOf rfl rfl rfl ⟨Nat.le_of_ble_eq_true rfl, Nat.le_of_ble_eq_true rfl⟩ hdSea_headOf rfl (wS_c5 ad cy _) rfl rfl (Nat.le_of_ble_eq_true rfl) ⟨Nat.zero_le _, Nat.zero_le _⟩ dX6_add_53 (fun r53 g53 hv => ?_)
      have hb56 := hv.1
      have hv := hv.2
      refine j_iast hC _ 0 (wS_r_heads ad cy _ (jlt hb45)) rfl hb56 (wS_s_heads ad cy _ (jlt hb45) _) dX6_add_56 ?_
      refine j_iinc (k := 2) (v := (x5 + (1 : Int32))) (lv' := [(5, .int (x5 + (1 : Int32))), (0, .ref (ad 5)), (4, .int x4)]) hC dX6_add_57 rfl rfl (by decide) rfl ?_
      refine j_goto (tgt := 32) hC dX6_add_60 (by decide) ?_
      exact j_lv [1, 2, 0] rfl (ih _ _ _ hv)
set_option maxHeartbeats 4000000 in
set_option maxRecDepth 100000 in
theorem cSea_add {l : Launch} {D : va_G} {ad : Nat → Nat} {cy : Nat → ClassId} {g : GS} {a1 : Int32} {a2 : Nat} {a3 : Int32} {post : Int32 → GS → Prop} (hv : vSea_add g a1 a2 a3 post) : jMi l yX6_add wsX6_add rSea_add D (tyS cy) [.ref (ad 5), .int a1, .ref (ad (25 + a2)), .int a3] (wS ad cy g) (wS ad cy) post 0 0 := by
  refine j_meti (cc := cX6_add) (nL := 6) (rt := (some .int)) (by decide) (Nat.le_of_ble_eq_true rfl) ?_
  intro Γ hC hQ _
  have hC : jC Γ l rSea_add D 6 RX6 cX6_add wsX6_add (tyS cy) := hC
  have hinX6 : ∀ w ∈ wsX60, w ∈ wsX6_add := fun w h => List.mem_cons_of_mem _ (List.mem_append_right _ h)
  refine j_lv (lv' := [(0, .ref (ad 5)), (1, .int a1), (2, .ref (ad (25 + a2))), (3, .int a3)]) [0, 1, 2, 3] rfl ?_
  unfold vSea_add at hv
  have ha2 := hv.1
  have hv := hv.2
  refine j_aload_n (i := 0) hC dX6_add_0 rfl 0 rfl ?_
  refine j_get (C := RX6) (T := TX6) (N := 4) (v := .int (z_ssize g)) hC hinX6 5 (wS_c5 ad cy _) rfl 3 (by decide) (mw 1 rfl) rfl rfl dX6_add_1 ?_
  refine j_istore (lv' := [(4, .int (z_ssize g)), (0, .ref (ad 5)), (1, .int a1), (2, .ref (ad (25 + a2))), (3, .int a3)]) hC dX6_add_4 (by decide) rfl ?_
  refine j_aload_n (i := 2) hC dX6_add_6 rfl 3 rfl ?_
  refine j_iload_n (i := 3) hC dX6_add_7 rfl 4 rfl ?_
  refine j_aload_n (i := 0) hC dX6_add_8 rfl 1 rfl ?_
  refine j_get (C := RX6) (T := TX6) (N := 4) (v := .ref (ad 7)) hC hinX6 5 (wS_c5 ad cy _) rfl 1 (by decide) (mw 2 rfl) rfl rfl dX6_add_9 ?_
  refine j_iload hC dX6_add_12 0 rfl ?_
  have hb14 := hv.1
  have hv := hv.2
  refine j_aald (v := .ref (ad (33 + (z_ssize g).toNatClampNeg))) hC 7 3 (wS_c7 ad cy _) rfl rfl hb14 (jrow ad 33 (j := (z_ssize g).toNatClampNeg) (jlt hb14)) dX6_add_14 ?_
  refine j_iconst (v := 0) hC dX6_add_15 (by decide) ?_
  refine j_bipush (v := 8) hC dX6_add_16 (by decide) ?_
  have hy18_1 := hv.1
  have hv := hv.2
  have hy18_2 := hv.1
  have hv := hv.2
  have hy18_3 := hv.1
  have hv := hv.2
  have hy18_4 := hv.1
  have hv := hv.2
  have hy18_5 := hv.1
  have hv := hv.2
  refine j_copyi (ty := .int) hC _ _ 0 0 (mw 3 rfl) (mw 4 rfl) (mw 5 rfl) (mw 6 rfl) (wS_r_items ad cy _ ha2) (wS_r_levels ad cy _ (jlt hb14)) rfl rfl rfl hy18_1 hy18_2 hy18_3 hy18_4 hy18_5 (fun _ => rfl) (Nat.le_of_ble_eq_true rfl) (Nat.le_of_ble_eq_true rfl) (wS_s_levels ad cy _ (jlt hb14) _) dX6_add_18 ?_
  refine j_aload_n (i := 0) hC dX6_add_21 rfl 1 rfl ?_
  refine j_get (C := RX6) (T := TX6) (N := 4) (v := .ref (ad 6)) hC hinX6 5 (wS_c5 ad cy _) rfl 0 (by decide) (mw 7 rfl) rfl rfl dX6_add_22 ?_
  refine j_iload hC dX6_add_25 0 rfl ?_
  refine j_iload_n (i := 1) hC dX6_add_27 rfl 2 rfl ?_
  have hb28 := hv.1
  have hv := hv.2
  refine j_iast hC _ 0 (wS_c6 ad cy _) rfl hb28 (wS_s_weights ad cy _ _) dX6_add_28 ?_
  refine j_iconst (v := 0) hC dX6_add_29 (by decide) ?_
  refine j_istore (lv' := [(5, .int (0 : Int32)), (4, .int (z_ssize g)), (0, .ref (ad 5)), (1, .int a1), (2, .ref (ad (25 + a2))), (3, .int a3)]) hC dX6_add_30 (by decide) rfl ?_
  obtain ⟨n_, hv⟩ := hv
  exact j_lv [2, 1, 0] rfl (lSea_add_32 hC hQ n_ _ _ _ hv)
theorem hdSG_world : yX11_world.cls = RX11 ∧ yX11_world.cls ≠ "java/lang/invoke/MethodHandle" ∧ yX11_world.cls ≠ "java/lang/invoke/VarHandle" ∧ (parseMethodDescriptor yX11_world.desc).map (fun d => d.parameters.length) = some 3 := by decide +kernel
abbrev rSG_world : Room := { frames := 3, cells := 0, slots := 0, locals := 72 }
def vSG_world (g : GS) (a1 : Int32) (a2 : Int32) (a3 : Int32) (post : Int32 → GS → Prop) : Prop :=
  (vSG_within g a1 (1 : Int32) (20 : Int32) (fun r4 g4 => ((r4 = (0 : Int32) → post (-1000001 : Int32) g4) ∧ (¬ r4 = (0 : Int32) → (vSG_within g4 a2 (0 : Int32) (7 : Int32) (fun r14 g14 => ((¬ r14 = (0 : Int32) → (((z_ssize g14) < (8 : Int32) → (vSheets_look g14 a2 a3 (8 : Int32) (fun r46 g46 => ((r46 = (0 : Int32) → (vSheets_areWithin g46 a2 a3 (8 : Int32) (1000 : Int32) (fun r74 g74 => ((¬ r74 = (0 : Int32) → (vp_in a2 8 ∧ (vSea_add (sz_stale g74 (1 : Int32)) a1 a2.toNatClampNeg a3 (fun r107 g107 => (vSG_fine g107 r107 (fun r110 g110 => post r110 g110)))))) ∧ (r74 = (0 : Int32) → post (-1000001 : Int32) g74))))) ∧ (¬ r46 = (0 : Int32) → (vSG_found g46 r46 (fun r59 g59 => post r59 g59))))))) ∧ (¬ (z_ssize g14) < (8 : Int32) → post (-1000003 : Int32) g14))) ∧ (r14 = (0 : Int32) → post (-1000001 : Int32) g14))))))))
set_option maxHeartbeats 4000000 in
set_option maxRecDepth 100000 in
theorem cSG_world {l : Launch} {D : va_G} {ad : Nat → Nat} {cy : Nat → ClassId} {g : GS} {a1 : Int32} {a2 : Int32} {a3 : Int32} {post : Int32 → GS → Prop} (hv : vSG_world g a1 a2 a3 post) : jMi l yX11_world wsX11_world rSG_world D (tyS cy) [.ref (ad 0), .int a1, .int a2, .int a3] (wS ad cy g) (wS ad cy) post 0 0 := by
  refine j_meti (cc := cX11_world) (nL := 5) (rt := (some .int)) (by decide) (Nat.le_of_ble_eq_true rfl) ?_
  intro Γ hC hQ _
  have hC : jC Γ l rSG_world D 5 RX11 cX11_world wsX11_world (tyS cy) := hC
  have hinX11 : ∀ w ∈ wsX110, w ∈ wsX11_world := fun w h => List.mem_cons_of_mem _ (List.mem_append_left _ (List.mem_append_left _ (List.mem_append_left _ (List.mem_append_right _ h))))
  have hinX6 : ∀ w ∈ wsX60, w ∈ wsX11_world := fun w h => List.mem_cons_of_mem _ (List.mem_append_left _ (List.mem_append_left _ (List.mem_append_right _ h)))
  have hinX4 : ∀ w ∈ wsX40, w ∈ wsX11_world := fun w h => List.mem_cons_of_mem _ (List.mem_append_left _ (List.mem_append_right _ h))
  have hinX7 : ∀ w ∈ wsX70, w ∈ wsX11_world := fun w h => List.mem_cons_of_mem _ (List.mem_append_right _ h)
  refine j_lv (lv' := [(0, .ref (ad 0)), (1, .int a1), (2, .int a2), (3, .int a3)]) [0, 1, 2, 3] rfl ?_
  unfold vSG_world at hv
  refine j_iload_n (i := 1) hC dX11_world_0 rfl 1 rfl ?_
  refine j_iconst (v := 1) hC dX11_world_1 (by decide) ?_
  refine j_bipush (v := 20) hC dX11_world_2 (by decide) ?_
  refine j_callS_i (As := [.int a1, .int (1 : Int32), .int (20 : Int32)]) (rest := []) hC (cSG_within hv) 3 gX11_world_X11_within rfl rfl rfl ⟨Nat.le_of_ble_eq_true rfl, Nat.le_of_ble_eq_true rfl⟩ hdSG_within.2 rfl rfl (Nat.le_of_ble_eq_true rfl) ⟨Nat.zero_le _, Nat.zero_le _⟩ dX11_world_4 (fun r4 g4 hv => ?_)
  refine j_if_eq (tgt := 20) hC dX11_world_7 (by decide) (fun h_ => ?_) (fun h_ => ?_)
  · have hv := hv.1 h_
    refine j_ldc (v := -1000001) hC dX11_world_20 (mw 1 rfl) ?_
    exact j_iret hC hQ dX11_world_22 rfl hv
  · have hv := hv.2 h_
    refine j_iload_n (i := 2) hC dX11_world_10 rfl 2 rfl ?_
    refine j_iconst (v := 0) hC dX11_world_11 (by decide) ?_
    refine j_bipush (v := 7) hC dX11_world_12 (by decide) ?_
    refine j_callS_i (As := [.int a2, .int (0 : Int32), .int (7 : Int32)]) (rest := []) hC (cSG_within hv) 3 gX11_world_X11_within rfl rfl rfl ⟨Nat.le_of_ble_eq_true rfl, Nat.le_of_ble_eq_true rfl⟩ hdSG_within.2 rfl rfl (Nat.le_of_ble_eq_true rfl) ⟨Nat.zero_le _, Nat.zero_le _⟩ dX11_world_14 (fun r14 g14 hv => ?_)
    refine j_if_ne (tgt := 23) hC dX11_world_17 (by decide) (fun h_ => ?_) (fun h_ => ?_)
    · have hv := hv.1 h_
      refine j_aload_n (i := 0) hC dX11_world_23 rfl 0 rfl ?_
      refine j_get (C := RX11) (T := TX11) (N := 8) (v := .ref (ad 5)) hC hinX11 0 (wS_c0 ad cy _) rfl 1 (by decide) (mw 2 rfl) rfl rfl dX11_world_24 ?_
      refine j_get (C := RX6) (T := TX6) (N := 4) (v := .int (z_ssize g14)) hC hinX6 5 (wS_c5 ad cy _) rfl 3 (by decide) (mw 3 rfl) rfl rfl dX11_world_27 ?_
      refine j_bipush (v := 8) hC dX11_world_30 (by decide) ?_
      refine j_icmp_lt (tgt := 38) hC dX11_world_32 (by decide) (fun h_ => ?_) (fun h_ => ?_)
      · have hv := hv.1 h_
        refine j_aload_n (i := 0) hC dX11_world_38 rfl 0 rfl ?_
        refine j_get (C := RX11) (T := TX11) (N := 8) (v := .ref (ad 1)) hC hinX11 0 (wS_c0 ad cy _) rfl 0 (by decide) (mw 5 rfl) rfl rfl dX11_world_39 ?_
        refine j_iload_n (i := 2) hC dX11_world_42 rfl 2 rfl ?_
        refine j_iload_n (i := 3) hC dX11_world_43 rfl 3 rfl ?_
        refine j_bipush (v := 8) hC dX11_world_44 (by decide) ?_
        refine j_callV_i (C := RX7) (As := [.int a2, .int a3, .int (8 : Int32)]) (rest := []) (b := (ad 1)) hC (cSheets_look hv) 3 gX11_world_X7_look rfl rfl rfl ⟨Nat.le_of_ble_eq_true rfl, Nat.le_of_ble_eq_true rfl⟩ hdSheets_look rfl (wS_c1 ad cy _) rfl rfl (Nat.le_of_ble_eq_true rfl) ⟨Nat.zero_le _, Nat.zero_le _⟩ dX11_world_46 (fun r46 g46 hv => ?_)
        refine j_istore (lv' := [(4, .int r46), (0, .ref (ad 0)), (1, .int a1), (2, .int a2), (3, .int a3)]) hC dX11_world_49 (by decide) rfl ?_
        refine j_iload hC dX11_world_51 0 rfl ?_
        refine j_if_eq (tgt := 63) hC dX11_world_53 (by decide) (fun h_ => ?_) (fun h_ => ?_)
        · have hv := hv.1 h_
          refine j_aload_n (i := 0) hC dX11_world_63 rfl 1 rfl ?_
          refine j_get (C := RX11) (T := TX11) (N := 8) (v := .ref (ad 1)) hC hinX11 0 (wS_c0 ad cy _) rfl 0 (by decide) (mw 5 rfl) rfl rfl dX11_world_64 ?_
          refine j_iload_n (i := 2) hC dX11_world_67 rfl 3 rfl ?_
          refine j_iload_n (i := 3) hC dX11_world_68 rfl 4 rfl ?_
          refine j_bipush (v := 8) hC dX11_world_69 (by decide) ?_
          refine j_sipush (v := 1000) hC dX11_world_71 (by decide) ?_
          refine j_callV_i (C := RX7) (As := [.int a2, .int a3, .int (8 : Int32), .int (1000 : Int32)]) (rest := []) (b := (ad 1)) hC (cSheets_areWithin hv) 4 gX11_world_X7_areWithin rfl rfl rfl ⟨Nat.le_of_ble_eq_true rfl, Nat.le_of_ble_eq_true rfl⟩ hdSheets_areWithin rfl (wS_c1 ad cy _) rfl rfl (Nat.le_of_ble_eq_true rfl) ⟨Nat.zero_le _, Nat.zero_le _⟩ dX11_world_74 (fun r74 g74 hv => ?_)
          refine j_if_ne (tgt := 83) hC dX11_world_77 (by decide) (fun h_ => ?_) (fun h_ => ?_)
          · have hv := hv.1 h_
            refine j_aload_n (i := 0) hC dX11_world_83 rfl 1 rfl ?_
            refine j_get (C := RX11) (T := TX11) (N := 8) (v := .ref (ad 12)) hC hinX11 0 (wS_c0 ad cy _) rfl 3 (by decide) (mw 6 rfl) rfl rfl dX11_world_84 ?_
            refine j_iconst (v := 1) hC dX11_world_87 (by decide) ?_
            refine j_put (C := RX4) (T := TX4) (N := 7) (ty := .boolean) hC hinX4 tyX4 tyX4_ok nmX4 12 (wS_c12 ad cy _) rfl 6 (by decide) (mw 7 rfl) rfl rfl fdX4_6 rfl rfl (Nat.le_of_ble_eq_true rfl) (wS_p_stale ad cy _ _) dX11_world_88 ?_
            refine j_aload_n (i := 0) hC dX11_world_91 rfl 1 rfl ?_
            refine j_aload_n (i := 0) hC dX11_world_92 rfl 1 rfl ?_
            refine j_get (C := RX11) (T := TX11) (N := 8) (v := .ref (ad 5)) hC hinX11 0 (wS_c0 ad cy _) rfl 1 (by decide) (mw 2 rfl) rfl rfl dX11_world_93 ?_
            refine j_iload_n (i := 1) hC dX11_world_96 rfl 2 rfl ?_
            refine j_aload_n (i := 0) hC dX11_world_97 rfl 1 rfl ?_
            refine j_get (C := RX11) (T := TX11) (N := 8) (v := .ref (ad 1)) hC hinX11 0 (wS_c0 ad cy _) rfl 0 (by decide) (mw 5 rfl) rfl rfl dX11_world_98 ?_
            refine j_get (C := RX7) (T := TX7) (N := 3) (v := .ref (ad 2)) hC hinX7 1 (wS_c1 ad cy _) rfl 0 (by decide) (mw 8 rfl) rfl rfl dX11_world_101 ?_
            refine j_iload_n (i := 2) hC dX11_world_104 rfl 3 rfl ?_
            have hb105 := hv.1
            have hv := hv.2
            refine j_aald (v := .ref (ad (25 + a2.toNatClampNeg))) hC 2 3 (wS_c2 ad cy _) rfl rfl hb105 (jrow ad 25 (j := a2.toNatClampNeg) (jlt hb105)) dX11_world_105 ?_
            refine j_iload_n (i := 3) hC dX11_world_106 rfl 4 rfl ?_
            refine j_callV_i (C := RX6) (As := [.int a1, .ref (ad (25 + a2.toNatClampNeg)), .int a3]) (rest := [.ref (ad 0)]) (b := (ad 5)) hC (cSea_add hv) 3 gX11_world_X6_add rfl rfl rfl ⟨Nat.le_of_ble_eq_true rfl, Nat.le_of_ble_eq_true rfl⟩ hdSea_add rfl (wS_c5 ad cy _) rfl rfl (Nat.le_of_ble_eq_true rfl) ⟨Nat.zero_le _, Nat.zero_le _⟩ dX11_world_107 (fun r107 g107 hv => ?_)
            refine j_callV_i (C := RX11) (As := [.int r107]) (rest := []) (b := (ad 0)) hC (cSG_fine hv) 1 gX11_world_X11_fine rfl rfl rfl ⟨Nat.le_of_ble_eq_true rfl, Nat.le_of_ble_eq_true rfl⟩ hdSG_fine rfl (wS_c0 ad cy _) rfl rfl (Nat.le_of_ble_eq_true rfl) ⟨Nat.zero_le _, Nat.zero_le _⟩ dX11_world_110 (fun r110 g110 hv => ?_)
            exact j_iret hC hQ dX11_world_113 rfl hv
          · have hv := hv.2 h_
            refine j_ldc (v := -1000001) hC dX11_world_80 (mw 1 rfl) ?_
            exact j_iret hC hQ dX11_world_82 rfl hv
        · have hv := hv.2 h_
          refine j_aload_n (i := 0) hC dX11_world_56 rfl 1 rfl ?_
          refine j_iload hC dX11_world_57 0 rfl ?_
          refine j_callV_i (C := RX11) (As := [.int r46]) (rest := []) (b := (ad 0)) hC (cSG_found hv) 1 gX11_world_X11_found rfl rfl rfl ⟨Nat.le_of_ble_eq_true rfl, Nat.le_of_ble_eq_true rfl⟩ hdSG_found rfl (wS_c0 ad cy _) rfl rfl (Nat.le_of_ble_eq_true rfl) ⟨Nat.zero_le _, Nat.zero_le _⟩ dX11_world_59 (fun r59 g59 hv => ?_)
          exact j_iret hC hQ dX11_world_62 rfl hv
      · have hv := hv.2 h_
        refine j_ldc (v := -1000003) hC dX11_world_35 (mw 4 rfl) ?_
        exact j_iret hC hQ dX11_world_37 rfl hv
    · have hv := hv.2 h_
      refine j_ldc (v := -1000001) hC dX11_world_20 (mw 1 rfl) ?_
      exact j_iret hC hQ dX11_world_22 rfl hv
theorem hdSG_river : yX11_river.cls = RX11 ∧ yX11_river.cls ≠ "java/lang/invoke/MethodHandle" ∧ yX11_river.cls ≠ "java/lang/invoke/VarHandle" ∧ (parseMethodDescriptor yX11_river.desc).map (fun d => d.parameters.length) = some 2 := by decide +kernel
abbrev rSG_river : Room := { frames := 1, cells := 0, slots := 0, locals := 22 }
def vSG_river (g : GS) (a1 : Int32) (a2 : Int32) (post : Int32 → GS → Prop) : Prop :=
  (vSG_within g a1 (0 : Int32) (7 : Int32) (fun r4 g4 => ((r4 = (0 : Int32) → post (-1000001 : Int32) g4) ∧ (¬ r4 = (0 : Int32) → (vSG_within g4 a2 (0 : Int32) (100 : Int32) (fun r14 g14 => ((¬ r14 = (0 : Int32) → (vp_in a1 8 ∧ (vp_in a1 8 ∧ post ((z_rivers g14) a1.toNatClampNeg) (sz_stale (sz_rivers g14 (upd (z_rivers g14) a1.toNatClampNeg a2)) (1 : Int32))))) ∧ (r14 = (0 : Int32) → post (-1000001 : Int32) g14))))))))
set_option maxHeartbeats 4000000 in
set_option maxRecDepth 100000 in
theorem cSG_river {l : Launch} {D : va_G} {ad : Nat → Nat} {cy : Nat → ClassId} {g : GS} {a1 : Int32} {a2 : Int32} {post : Int32 → GS → Prop} (hv : vSG_river g a1 a2 post) : jMi l yX11_river wsX11_river rSG_river D (tyS cy) [.ref (ad 0), .int a1, .int a2] (wS ad cy g) (wS ad cy) post 0 0 := by
  refine j_meti (cc := cX11_river) (nL := 4) (rt := (some .int)) (by decide) (Nat.le_of_ble_eq_true rfl) ?_
  intro Γ hC hQ _
  have hC : jC Γ l rSG_river D 4 RX11 cX11_river wsX11_river (tyS cy) := hC
  have hinX11 : ∀ w ∈ wsX110, w ∈ wsX11_river := fun w h => List.mem_cons_of_mem _ (List.mem_append_left _ (List.mem_append_left _ (List.mem_append_right _ h)))
  have hinX0 : ∀ w ∈ wsX00, w ∈ wsX11_river := fun w h => List.mem_cons_of_mem _ (List.mem_append_left _ (List.mem_append_right _ h))
  have hinX4 : ∀ w ∈ wsX40, w ∈ wsX11_river := fun w h => List.mem_cons_of_mem _ (List.mem_append_right _ h)
  refine j_lv (lv' := [(0, .ref (ad 0)), (1, .int a1), (2, .int a2)]) [0, 1, 2] rfl ?_
  unfold vSG_river at hv
  refine j_iload_n (i := 1) hC dX11_river_0 rfl 1 rfl ?_
  refine j_iconst (v := 0) hC dX11_river_1 (by decide) ?_
  refine j_bipush (v := 7) hC dX11_river_2 (by decide) ?_
  refine j_callS_i (As := [.int a1, .int (0 : Int32), .int (7 : Int32)]) (rest := []) hC (cSG_within hv) 3 gX11_river_X11_within rfl rfl rfl ⟨Nat.le_of_ble_eq_true rfl, Nat.le_of_ble_eq_true rfl⟩ hdSG_within.2 rfl rfl (Nat.le_of_ble_eq_true rfl) ⟨Nat.zero_le _, Nat.zero_le _⟩ dX11_river_4 (fun r4 g4 hv => ?_)
  refine j_if_eq (tgt := 20) hC dX11_river_7 (by decide) (fun h_ => ?_) (fun h_ => ?_)
  · have hv := hv.1 h_
    refine j_ldc (v := -1000001) hC dX11_river_20 (mw 1 rfl) ?_
    exact j_iret hC hQ dX11_river_22 rfl hv
  · have hv := hv.2 h_
    refine j_iload_n (i := 2) hC dX11_river_10 rfl 2 rfl ?_
    refine j_iconst (v := 0) hC dX11_river_11 (by decide) ?_
    refine j_bipush (v := 100) hC dX11_river_12 (by decide) ?_
    refine j_callS_i (As := [.int a2, .int (0 : Int32), .int (100 : Int32)]) (rest := []) hC (cSG_within hv) 3 gX11_river_X11_within rfl rfl rfl ⟨Nat.le_of_ble_eq_true rfl, Nat.le_of_ble_eq_true rfl⟩ hdSG_within.2 rfl rfl (Nat.le_of_ble_eq_true rfl) ⟨Nat.zero_le _, Nat.zero_le _⟩ dX11_river_14 (fun r14 g14 hv => ?_)
    refine j_if_ne (tgt := 23) hC dX11_river_17 (by decide) (fun h_ => ?_) (fun h_ => ?_)
    · have hv := hv.1 h_
      refine j_aload_n (i := 0) hC dX11_river_23 rfl 0 rfl ?_
      refine j_get (C := RX11) (T := TX11) (N := 8) (v := .ref (ad 9)) hC hinX11 0 (wS_c0 ad cy _) rfl 2 (by decide) (mw 2 rfl) rfl rfl dX11_river_24 ?_
      refine j_get (C := RX0) (T := TX0) (N := 3) (v := .ref (ad 11)) hC hinX0 9 (wS_c9 ad cy _) rfl 1 (by decide) (mw 3 rfl) rfl rfl dX11_river_27 ?_
      refine j_iload_n (i := 1) hC dX11_river_30 rfl 1 rfl ?_
      have hb31 := hv.1
      have hv := hv.2
      refine j_iald (v := ((z_rivers g14) a1.toNatClampNeg)) hC _ 0 (wS_c11 ad cy _) rfl hb31 rfl dX11_river_31 ?_
      refine j_istore_n (i := 3) (lv' := [(3, .int ((z_rivers g14) a1.toNatClampNeg)), (0, .ref (ad 0)), (1, .int a1), (2, .int a2)]) hC dX11_river_32 rfl (by decide) rfl ?_
      refine j_aload_n (i := 0) hC dX11_river_33 rfl 1 rfl ?_
      refine j_get (C := RX11) (T := TX11) (N := 8) (v := .ref (ad 9)) hC hinX11 0 (wS_c0 ad cy _) rfl 2 (by decide) (mw 2 rfl) rfl rfl dX11_river_34 ?_
      refine j_get (C := RX0) (T := TX0) (N := 3) (v := .ref (ad 11)) hC hinX0 9 (wS_c9 ad cy _) rfl 1 (by decide) (mw 3 rfl) rfl rfl dX11_river_37 ?_
      refine j_iload_n (i := 1) hC dX11_river_40 rfl 2 rfl ?_
      refine j_iload_n (i := 2) hC dX11_river_41 rfl 3 rfl ?_
      have hb42 := hv.1
      have hv := hv.2
      refine j_iast hC _ 0 (wS_c11 ad cy _) rfl hb42 (wS_s_rivers ad cy _ _) dX11_river_42 ?_
      refine j_aload_n (i := 0) hC dX11_river_43 rfl 1 rfl ?_
      refine j_get (C := RX11) (T := TX11) (N := 8) (v := .ref (ad 12)) hC hinX11 0 (wS_c0 ad cy _) rfl 3 (by decide) (mw 4 rfl) rfl rfl dX11_river_44 ?_
      refine j_iconst (v := 1) hC dX11_river_47 (by decide) ?_
      refine j_put (C := RX4) (T := TX4) (N := 7) (ty := .boolean) hC hinX4 tyX4 tyX4_ok nmX4 12 (wS_c12 ad cy _) rfl 6 (by decide) (mw 5 rfl) rfl rfl fdX4_6 rfl rfl (Nat.le_of_ble_eq_true rfl) (wS_p_stale ad cy _ _) dX11_river_48 ?_
      refine j_iload_n (i := 3) hC dX11_river_51 rfl 0 rfl ?_
      exact j_iret hC hQ dX11_river_52 rfl hv
    · have hv := hv.2 h_
      refine j_ldc (v := -1000001) hC dX11_river_20 (mw 1 rfl) ?_
      exact j_iret hC hQ dX11_river_22 rfl hv
theorem hdSG_mayBeRule : yX11_mayBeRule.cls = RX11 ∧ yX11_mayBeRule.cls ≠ "java/lang/invoke/MethodHandle" ∧ yX11_mayBeRule.cls ≠ "java/lang/invoke/VarHandle" ∧ (parseMethodDescriptor yX11_mayBeRule.desc).map (fun d => d.parameters.length) = some 2 := by decide +kernel
abbrev rSG_mayBeRule : Room := { frames := 1, cells := 0, slots := 0, locals := 22 }
def vSG_mayBeRule_9 (post : Int32 → GS → Prop) (x1 : Int32) (g : GS) : Prop :=
  (vSG_within g x1 (1 : Int32) (3 : Int32) (fun r12 g12 => (jz r12 ∧ post r12 g12)))
def vSG_mayBeRule (g : GS) (a0 : Int32) (a1 : Int32) (post : Int32 → GS → Prop) : Prop :=
  ((a0 = (0 : Int32) → (vSG_mayBeRule_9 post a1 g)) ∧ (¬ a0 = (0 : Int32) → ((¬ a0 = (1 : Int32) → (vSG_within g a1 (0 : Int32) (1000 : Int32) (fun r23 g23 => (jz r23 ∧ post r23 g23)))) ∧ (a0 = (1 : Int32) → (vSG_mayBeRule_9 post a1 g)))))
set_option maxHeartbeats 4000000 in
set_option maxRecDepth 100000 in
theorem lSG_mayBeRule_9 {Γ : jG} {l : Launch} {D : va_G} {ad : Nat → Nat} {cy : Nat → ClassId} {post : Int32 → GS → Prop} (hC : jC Γ l rSG_mayBeRule D 2 RX11 cX11_mayBeRule wsX11_mayBeRule (tyS cy)) (hQ : jQi Γ D (wS ad cy) post (some .boolean) 0 0) : ∀ (x1 : Int32) (g : GS), vSG_mayBeRule_9 post x1 g → J Γ D 2 0 0 (wS ad cy g) 9 [(1, .int x1)] [] := by
  intro x1 g hv
  unfold vSG_mayBeRule_9 at hv
  refine j_iload_n (i := 1) hC dX11_mayBeRule_9 rfl 0 rfl ?_
  refine j_iconst (v := 1) hC dX11_mayBeRule_10 (by decide) ?_
  refine j_iconst (v := 3) hC dX11_mayBeRule_11 (by decide) ?_
  refine j_callS_i (As := [.int x1, .int (1 : Int32), .int (3 : Int32)]) (rest := []) hC (cSG_within hv) 3 gX11_mayBeRule_X11_within rfl rfl rfl ⟨Nat.le_of_ble_eq_true rfl, Nat.le_of_ble_eq_true rfl⟩ hdSG_within.2 rfl rfl (Nat.le_of_ble_eq_true rfl) ⟨Nat.zero_le _, Nat.zero_le _⟩ dX11_mayBeRule_12 (fun r12 g12 hv => ?_)
  refine j_goto (tgt := 26) hC dX11_mayBeRule_15 (by decide) ?_
  exact j_zret hC hQ dX11_mayBeRule_26 rfl (jz_n hv.1) hv.2
set_option maxHeartbeats 4000000 in
set_option maxRecDepth 100000 in
theorem cSG_mayBeRule {l : Launch} {D : va_G} {ad : Nat → Nat} {cy : Nat → ClassId} {g : GS} {a0 : Int32} {a1 : Int32} {post : Int32 → GS → Prop} (hv : vSG_mayBeRule g a0 a1 post) : jMi l yX11_mayBeRule wsX11_mayBeRule rSG_mayBeRule D (tyS cy) [.int a0, .int a1] (wS ad cy g) (wS ad cy) post 0 0 := by
  refine j_meti (cc := cX11_mayBeRule) (nL := 2) (rt := (some .boolean)) (by decide) (Nat.le_of_ble_eq_true rfl) ?_
  intro Γ hC hQ _
  have hC : jC Γ l rSG_mayBeRule D 2 RX11 cX11_mayBeRule wsX11_mayBeRule (tyS cy) := hC
  refine j_lv (lv' := [(0, .int a0), (1, .int a1)]) [0, 1] rfl ?_
  unfold vSG_mayBeRule at hv
  refine j_iload_n (i := 0) hC dX11_mayBeRule_0 rfl 0 rfl ?_
  refine j_if_eq (tgt := 9) hC dX11_mayBeRule_1 (by decide) (fun h_ => ?_) (fun h_ => ?_)
  · have hv := hv.1 h_
    exact j_lv [1] rfl (lSG_mayBeRule_9 hC hQ _ _ hv)
  · have hv := hv.2 h_
    refine j_iload_n (i := 0) hC dX11_mayBeRule_4 rfl 0 rfl ?_
    refine j_iconst (v := 1) hC dX11_mayBeRule_5 (by decide) ?_
    refine j_icmp_ne (tgt := 18) hC dX11_mayBeRule_6 (by decide) (fun h_ => ?_) (fun h_ => ?_)
    · have hv := hv.1 h_
      refine j_iload_n (i := 1) hC dX11_mayBeRule_18 rfl 1 rfl ?_
      refine j_iconst (v := 0) hC dX11_mayBeRule_19 (by decide) ?_
      refine j_sipush (v := 1000) hC dX11_mayBeRule_20 (by decide) ?_
      refine j_callS_i (As := [.int a1, .int (0 : Int32), .int (1000 : Int32)]) (rest := []) hC (cSG_within hv) 3 gX11_mayBeRule_X11_within rfl rfl rfl ⟨Nat.le_of_ble_eq_true rfl, Nat.le_of_ble_eq_true rfl⟩ hdSG_within.2 rfl rfl (Nat.le_of_ble_eq_true rfl) ⟨Nat.zero_le _, Nat.zero_le _⟩ dX11_mayBeRule_23 (fun r23 g23 hv => ?_)
      exact j_zret hC hQ dX11_mayBeRule_26 rfl (jz_n hv.1) hv.2
    · have hv := hv.2 h_
      exact j_lv [1] rfl (lSG_mayBeRule_9 hC hQ _ _ hv)
theorem hdSG_rule : yX11_rule.cls = RX11 ∧ yX11_rule.cls ≠ "java/lang/invoke/MethodHandle" ∧ yX11_rule.cls ≠ "java/lang/invoke/VarHandle" ∧ (parseMethodDescriptor yX11_rule.desc).map (fun d => d.parameters.length) = some 2 := by decide +kernel
abbrev rSG_rule : Room := { frames := 2, cells := 0, slots := 0, locals := 43 }
def vSG_rule (g : GS) (a1 : Int32) (a2 : Int32) (post : Int32 → GS → Prop) : Prop :=
  (vSG_within g a1 (0 : Int32) (7 : Int32) (fun r4 g4 => ((r4 = (0 : Int32) → post (-1000001 : Int32) g4) ∧ (¬ r4 = (0 : Int32) → (vSG_mayBeRule g4 a1 a2 (fun r12 g12 => ((¬ r12 = (0 : Int32) → (vp_in a1 8 ∧ (vp_in a1 8 ∧ post ((z_rules g12) a1.toNatClampNeg) (sz_stale (sz_rules g12 (upd (z_rules g12) a1.toNatClampNeg a2)) (1 : Int32))))) ∧ (r12 = (0 : Int32) → post (-1000001 : Int32) g12))))))))
set_option maxHeartbeats 4000000 in
set_option maxRecDepth 100000 in
theorem cSG_rule {l : Launch} {D : va_G} {ad : Nat → Nat} {cy : Nat → ClassId} {g : GS} {a1 : Int32} {a2 : Int32} {post : Int32 → GS → Prop} (hv : vSG_rule g a1 a2 post) : jMi l yX11_rule wsX11_rule rSG_rule D (tyS cy) [.ref (ad 0), .int a1, .int a2] (wS ad cy g) (wS ad cy) post 0 0 := by
  refine j_meti (cc := cX11_rule) (nL := 4) (rt := (some .int)) (by decide) (Nat.le_of_ble_eq_true rfl) ?_
  intro Γ hC hQ _
  have hC : jC Γ l rSG_rule D 4 RX11 cX11_rule wsX11_rule (tyS cy) := hC
  have hinX11 : ∀ w ∈ wsX110, w ∈ wsX11_rule := fun w h => List.mem_cons_of_mem _ (List.mem_append_left _ (List.mem_append_left _ (List.mem_append_right _ h)))
  have hinX0 : ∀ w ∈ wsX00, w ∈ wsX11_rule := fun w h => List.mem_cons_of_mem _ (List.mem_append_left _ (List.mem_append_right _ h))
  have hinX4 : ∀ w ∈ wsX40, w ∈ wsX11_rule := fun w h => List.mem_cons_of_mem _ (List.mem_append_right _ h)
  refine j_lv (lv' := [(0, .ref (ad 0)), (1, .int a1), (2, .int a2)]) [0, 1, 2] rfl ?_
  unfold vSG_rule at hv
  refine j_iload_n (i := 1) hC dX11_rule_0 rfl 1 rfl ?_
  refine j_iconst (v := 0) hC dX11_rule_1 (by decide) ?_
  refine j_bipush (v := 7) hC dX11_rule_2 (by decide) ?_
  refine j_callS_i (As := [.int a1, .int (0 : Int32), .int (7 : Int32)]) (rest := []) hC (cSG_within hv) 3 gX11_rule_X11_within rfl rfl rfl ⟨Nat.le_of_ble_eq_true rfl, Nat.le_of_ble_eq_true rfl⟩ hdSG_within.2 rfl rfl (Nat.le_of_ble_eq_true rfl) ⟨Nat.zero_le _, Nat.zero_le _⟩ dX11_rule_4 (fun r4 g4 hv => ?_)
  refine j_if_eq (tgt := 18) hC dX11_rule_7 (by decide) (fun h_ => ?_) (fun h_ => ?_)
  · have hv := hv.1 h_
    refine j_ldc (v := -1000001) hC dX11_rule_18 (mw 1 rfl) ?_
    exact j_iret hC hQ dX11_rule_20 rfl hv
  · have hv := hv.2 h_
    refine j_iload_n (i := 1) hC dX11_rule_10 rfl 1 rfl ?_
    refine j_iload_n (i := 2) hC dX11_rule_11 rfl 2 rfl ?_
    refine j_callS_i (As := [.int a1, .int a2]) (rest := []) hC (cSG_mayBeRule hv) 2 gX11_rule_X11_mayBeRule rfl rfl rfl ⟨Nat.le_of_ble_eq_true rfl, Nat.le_of_ble_eq_true rfl⟩ hdSG_mayBeRule.2 rfl rfl (Nat.le_of_ble_eq_true rfl) ⟨Nat.zero_le _, Nat.zero_le _⟩ dX11_rule_12 (fun r12 g12 hv => ?_)
    refine j_if_ne (tgt := 21) hC dX11_rule_15 (by decide) (fun h_ => ?_) (fun h_ => ?_)
    · have hv := hv.1 h_
      refine j_aload_n (i := 0) hC dX11_rule_21 rfl 0 rfl ?_
      refine j_get (C := RX11) (T := TX11) (N := 8) (v := .ref (ad 9)) hC hinX11 0 (wS_c0 ad cy _) rfl 2 (by decide) (mw 2 rfl) rfl rfl dX11_rule_22 ?_
      refine j_get (C := RX0) (T := TX0) (N := 3) (v := .ref (ad 10)) hC hinX0 9 (wS_c9 ad cy _) rfl 0 (by decide) (mw 3 rfl) rfl rfl dX11_rule_25 ?_
      refine j_iload_n (i := 1) hC dX11_rule_28 rfl 1 rfl ?_
      have hb29 := hv.1
      have hv := hv.2
      refine j_iald (v := ((z_rules g12) a1.toNatClampNeg)) hC _ 0 (wS_c10 ad cy _) rfl hb29 rfl dX11_rule_29 ?_
      refine j_istore_n (i := 3) (lv' := [(3, .int ((z_rules g12) a1.toNatClampNeg)), (0, .ref (ad 0)), (1, .int a1), (2, .int a2)]) hC dX11_rule_30 rfl (by decide) rfl ?_
      refine j_aload_n (i := 0) hC dX11_rule_31 rfl 1 rfl ?_
      refine j_get (C := RX11) (T := TX11) (N := 8) (v := .ref (ad 9)) hC hinX11 0 (wS_c0 ad cy _) rfl 2 (by decide) (mw 2 rfl) rfl rfl dX11_rule_32 ?_
      refine j_get (C := RX0) (T := TX0) (N := 3) (v := .ref (ad 10)) hC hinX0 9 (wS_c9 ad cy _) rfl 0 (by decide) (mw 3 rfl) rfl rfl dX11_rule_35 ?_
      refine j_iload_n (i := 1) hC dX11_rule_38 rfl 2 rfl ?_
      refine j_iload_n (i := 2) hC dX11_rule_39 rfl 3 rfl ?_
      have hb40 := hv.1
      have hv := hv.2
      refine j_iast hC _ 0 (wS_c10 ad cy _) rfl hb40 (wS_s_rules ad cy _ _) dX11_rule_40 ?_
      refine j_aload_n (i := 0) hC dX11_rule_41 rfl 1 rfl ?_
      refine j_get (C := RX11) (T := TX11) (N := 8) (v := .ref (ad 12)) hC hinX11 0 (wS_c0 ad cy _) rfl 3 (by decide) (mw 4 rfl) rfl rfl dX11_rule_42 ?_
      refine j_iconst (v := 1) hC dX11_rule_45 (by decide) ?_
      refine j_put (C := RX4) (T := TX4) (N := 7) (ty := .boolean) hC hinX4 tyX4 tyX4_ok nmX4 12 (wS_c12 ad cy _) rfl 6 (by decide) (mw 5 rfl) rfl rfl fdX4_6 rfl rfl (Nat.le_of_ble_eq_true rfl) (wS_p_stale ad cy _ _) dX11_rule_46 ?_
      refine j_iload_n (i := 3) hC dX11_rule_49 rfl 0 rfl ?_
      exact j_iret hC hQ dX11_rule_50 rfl hv
    · have hv := hv.2 h_
      refine j_ldc (v := -1000001) hC dX11_rule_18 (mw 1 rfl) ?_
      exact j_iret hC hQ dX11_rule_20 rfl hv
theorem hdSea_weightOfGroup : yX6_weightOfGroup.cls = RX6 ∧ yX6_weightOfGroup.cls ≠ "java/lang/invoke/MethodHandle" ∧ yX6_weightOfGroup.cls ≠ "java/lang/invoke/VarHandle" ∧ (parseMethodDescriptor yX6_weightOfGroup.desc).map (fun d => d.parameters.length) = some 2 := by decide +kernel
abbrev rSea_weightOfGroup : Room := { frames := 0, cells := 0, slots := 0, locals := 0 }
def vSea_weightOfGroup_37 (post : Int32 → GS → Prop) (K5 : Int32 → Int32 → Int32 → Int32 → GS → Prop) (x1 : Int32) (x2 : Int32) (x3 : Int32) (x4 : Int32) (g : GS) : Prop :=
  (K5 x1 x2 x3 (x4 + (1 : Int32)) g)
def vSea_weightOfGroup_5 (post : Int32 → GS → Prop) : Nat → Int32 → Int32 → Int32 → Int32 → GS → Prop
  | 0, _, _, _, _, _ => False
  | k_ + 1, x1, x2, x3, x4, g =>
  (((z_ssize g) ≤ x4 → post x3 g) ∧ (¬ (z_ssize g) ≤ x4 → (vp_in x1 8 ∧ (vp_in x4 8 ∧ ((¬ ((z_heads g) x1.toNatClampNeg x4.toNatClampNeg) = x2 → (vSea_weightOfGroup_37 post (fun x1 x2 x3 x4 g => vSea_weightOfGroup_5 post k_ x1 x2 x3 x4 g) x1 x2 x3 x4 g)) ∧ (((z_heads g) x1.toNatClampNeg x4.toNatClampNeg) = x2 → (vp_in x4 8 ∧ (vSea_weightOfGroup_37 post (fun x1 x2 x3 x4 g => vSea_weightOfGroup_5 post k_ x1 x2 x3 x4 g) x1 x2 (x3 + ((z_weights g) x4.toNatClampNeg)) x4 g))))))))
def vSea_weightOfGroup (g : GS) (a1 : Int32) (a2 : Int32) (post : Int32 → GS → Prop) : Prop :=
  (∃ n_ : Nat, vSea_weightOfGroup_5 post n_ a1 a2 (0 : Int32) a2 g)
set_option maxHeartbeats 4000000 in
set_option maxRecDepth 100000 in
theorem lSea_weightOfGroup_37 {Γ : jG} {l : Launch} {D : va_G} {ad : Nat → Nat} {cy : Nat → ClassId} {post : Int32 → GS → Prop} (hC : jC Γ l rSea_weightOfGroup D 5 RX6 cX6_weightOfGroup wsX6_weightOfGroup (tyS cy)) (hQ : jQi Γ D (wS ad cy) post (some .int) 0 0) {K5 : Int32 → Int32 → Int32 → Int32 → GS → Prop} (hK5 : ∀ (x1 : Int32) (x2 : Int32) (x3 : Int32) (x4 : Int32) (g : GS), K5 x1 x2 x3 x4 g → J Γ D 5 0 0 (wS ad cy g) 5 [(0, .ref (ad 5)), (1, .int x1), (2, .int x2), (3, .int x3), (4, .int x4)] []) : ∀ (x1 : Int32) (x2 : Int32) (x3 : Int32) (x4 : Int32) (g : GS), vSea_weightOfGroup_37 post K5 x1 x2 x3 x4 g → J Γ D 5 0 0 (wS ad cy g) 37 [(0, .ref (ad 5)), (1, .int x1), (2, .int x2), (3, .int x3), (4, .int x4)] [] := by
  have hinX6 : ∀ w ∈ wsX60, w ∈ wsX6_weightOfGroup := fun w h => List.mem_cons_of_mem _ (List.mem_append_right _ h)
  intro x1 x2 x3 x4 g hv
  unfold vSea_weightOfGroup_37 at hv
  refine j_iinc (k := 4) (v := (x4 + (1 : Int32))) (lv' := [(4, .int (x4 + (1 : Int32))), (0, .ref (ad 5)), (1, .int x1), (2, .int x2), (3, .int x3)]) hC dX6_weightOfGroup_37 rfl rfl (by decide) rfl ?_
  refine j_goto (tgt := 5) hC dX6_weightOfGroup_40 (by decide) ?_
  exact j_lv [1, 2, 3, 4, 0] rfl (hK5 _ _ _ _ _ hv)
set_option maxHeartbeats 4000000 in
set_option maxRecDepth 100000 in
theorem lSea_weightOfGroup_5 {Γ : jG} {l : Launch} {D : va_G} {ad : Nat → Nat} {cy : Nat → ClassId} {post : Int32 → GS → Prop} (hC : jC Γ l rSea_weightOfGroup D 5 RX6 cX6_weightOfGroup wsX6_weightOfGroup (tyS cy)) (hQ : jQi Γ D (wS ad cy) post (some .int) 0 0) : ∀ (n_ : Nat) (x1 : Int32) (x2 : Int32) (x3 : Int32) (x4 : Int32) (g : GS), vSea_weightOfGroup_5 post n_ x1 x2 x3 x4 g → J Γ D 5 0 0 (wS ad cy g) 5 [(0, .ref (ad 5)), (1, .int x1), (2, .int x2), (3, .int x3), (4, .int x4)] [] := by
  have hinX6 : ∀ w ∈ wsX60, w ∈ wsX6_weightOfGroup := fun w h => List.mem_cons_of_mem _ (List.mem_append_right _ h)
  intro n_
  induction n_ with
  | zero => intro x1 x2 x3 x4 g hv; exact False.elim hv
  | succ k_ ih =>
    intro x1 x2 x3 x4 g hv
    unfold vSea_weightOfGroup_5 at hv
    refine j_iload hC dX6_weightOfGroup_5 4 rfl ?_
    refine j_aload_n (i := 0) hC dX6_weightOfGroup_7 rfl 0 rfl ?_
    refine j_get (C := RX6) (T := TX6) (N := 4) (v := .int (z_ssize g)) hC hinX6 5 (wS_c5 ad cy _) rfl 3 (by decide) (mw 1 rfl) rfl rfl dX6_weightOfGroup_8 ?_
    refine j_icmp_ge (tgt := 43) hC dX6_weightOfGroup_11 (by decide) (fun h_ => ?_) (fun h_ => ?_)
    · have hv := hv.1 h_
      refine j_iload_n (i := 3) hC dX6_weightOfGroup_43 rfl 3 rfl ?_
      exact j_iret hC hQ dX6_weightOfGroup_44 rfl hv
    · have hv := hv.2 h_
      refine j_aload_n (i := 0) hC dX6_weightOfGroup_14 rfl 0 rfl ?_
      refine j_get (C := RX6) (T := TX6) (N := 4) (v := .ref (ad 8)) hC hinX6 5 (wS_c5 ad cy _) rfl 2 (by decide) (mw 2 rfl) rfl rfl dX6_weightOfGroup_15 ?_
      refine j_iload_n (i := 1) hC dX6_weightOfGroup_18 rfl 1 rfl ?_
      have hb19 := hv.1
      have hv := hv.2
      refine j_aald (v := .ref (ad (41 + x1.toNatClampNeg))) hC 8 3 (wS_c8 ad cy _) rfl rfl hb19 (jrow ad 41 (j := x1.toNatClampNeg) (jlt hb19)) dX6_weightOfGroup_19 ?_
      refine j_iload hC dX6_weightOfGroup_20 4 rfl ?_
      have hb22 := hv.1
      have hv := hv.2
      refine j_iald (v := ((z_heads g) x1.toNatClampNeg x4.toNatClampNeg)) hC _ 0 (wS_r_heads ad cy _ (jlt hb19)) rfl hb22 rfl dX6_weightOfGroup_22 ?_
      refine j_iload_n (i := 2) hC dX6_weightOfGroup_23 rfl 2 rfl ?_
      refine j_icmp_ne (tgt := 37) hC dX6_weightOfGroup_24 (by decide) (fun h_ => ?_) (fun h_ => ?_)
      · have hv := hv.1 h_
        exact j_lv [0, 1, 2, 3, 4] rfl (lSea_weightOfGroup_37 hC hQ (K5 := fun x1 x2 x3 x4 g => vSea_weightOfGroup_5 post k_ x1 x2 x3 x4 g) (fun _ _ _ _ _ h_ => ih _ _ _ _ _ h_) _ _ _ _ _ hv)
      · have hv := hv.2 h_
        refine j_iload_n (i := 3) hC dX6_weightOfGroup_27 rfl 3 rfl ?_
        refine j_aload_n (i := 0) hC dX6_weightOfGroup_28 rfl 0 rfl ?_
        refine j_get (C := RX6) (T := TX6) (N := 4) (v := .ref (ad 6)) hC hinX6 5 (wS_c5 ad cy _) rfl 0 (by decide) (mw 3 rfl) rfl rfl dX6_weightOfGroup_29 ?_
        refine j_iload hC dX6_weightOfGroup_32 4 rfl ?_
        have hb34 := hv.1
        have hv := hv.2
        refine j_iald (v := ((z_weights g) x4.toNatClampNeg)) hC _ 0 (wS_c6 ad cy _) rfl hb34 rfl dX6_weightOfGroup_34 ?_
        refine j_iadd hC dX6_weightOfGroup_35 ?_
        refine j_istore_n (i := 3) (lv' := [(3, .int (x3 + ((z_weights g) x4.toNatClampNeg))), (0, .ref (ad 5)), (1, .int x1), (2, .int x2), (4, .int x4)]) hC dX6_weightOfGroup_36 rfl (by decide) rfl ?_
        exact j_lv [1, 2, 3, 0, 4] rfl (lSea_weightOfGroup_37 hC hQ (K5 := fun x1 x2 x3 x4 g => vSea_weightOfGroup_5 post k_ x1 x2 x3 x4 g) (fun _ _ _ _ _ h_ => ih _ _ _ _ _ h_) _ _ _ _ _ hv)
set_option maxHeartbeats 4000000 in
set_option maxRecDepth 100000 in
theorem cSea_weightOfGroup {l : Launch} {D : va_G} {ad : Nat → Nat} {cy : Nat → ClassId} {g : GS} {a1 : Int32} {a2 : Int32} {post : Int32 → GS → Prop} (hv : vSea_weightOfGroup g a1 a2 post) : jMi l yX6_weightOfGroup wsX6_weightOfGroup rSea_weightOfGroup D (tyS cy) [.ref (ad 5), .int a1, .int a2] (wS ad cy g) (wS ad cy) post 0 0 := by
  refine j_meti (cc := cX6_weightOfGroup) (nL := 5) (rt := (some .int)) (by decide) (Nat.le_of_ble_eq_true rfl) ?_
  intro Γ hC hQ _
  have hC : jC Γ l rSea_weightOfGroup D 5 RX6 cX6_weightOfGroup wsX6_weightOfGroup (tyS cy) := hC
  have hinX6 : ∀ w ∈ wsX60, w ∈ wsX6_weightOfGroup := fun w h => List.mem_cons_of_mem _ (List.mem_append_right _ h)
  refine j_lv (lv' := [(0, .ref (ad 5)), (1, .int a1), (2, .int a2)]) [0, 1, 2] rfl ?_
  unfold vSea_weightOfGroup at hv
  refine j_iconst (v := 0) hC dX6_weightOfGroup_0 (by decide) ?_
  refine j_istore_n (i := 3) (lv' := [(3, .int (0 : Int32)), (0, .ref (ad 5)), (1, .int a1), (2, .int a2)]) hC dX6_weightOfGroup_1 rfl (by decide) rfl ?_
  refine j_iload_n (i := 2) hC dX6_weightOfGroup_2 rfl 3 rfl ?_
  refine j_istore (lv' := [(4, .int a2), (3, .int (0 : Int32)), (0, .ref (ad 5)), (1, .int a1), (2, .int a2)]) hC dX6_weightOfGroup_3 (by decide) rfl ?_
  obtain ⟨n_, hv⟩ := hv
  exact j_lv [2, 3, 4, 1, 0] rfl (lSea_weightOfGroup_5 hC hQ n_ _ _ _ _ _ hv)
theorem hdBarrier_stands : yX0_stands.cls = RX0 ∧ yX0_stands.cls ≠ "java/lang/invoke/MethodHandle" ∧ yX0_stands.cls ≠ "java/lang/invoke/VarHandle" ∧ (parseMethodDescriptor yX0_stands.desc).map (fun d => d.parameters.length) = some 2 := by decide +kernel
abbrev rBarrier_stands : Room := { frames := 0, cells := 0, slots := 0, locals := 0 }
def vBarrier_stands (g : GS) (a1 : Int32) (a2 : Int32) (post : Int32 → GS → Prop) : Prop :=
  ((¬ a2 = (0 : Int32) → ((¬ a1 = (0 : Int32) → post (((4 : Int32) + ((z_rules g) 1)) - (1 : Int32)) g) ∧ (a1 = (0 : Int32) → post (((1 : Int32) + ((z_rules g) 0)) - (1 : Int32)) g))) ∧ (a2 = (0 : Int32) → post a1 g))
set_option maxHeartbeats 4000000 in
set_option maxRecDepth 100000 in
theorem cBarrier_stands {l : Launch} {D : va_G} {ad : Nat → Nat} {cy : Nat → ClassId} {g : GS} {a1 : Int32} {a2 : Int32} {post : Int32 → GS → Prop} (hv : vBarrier_stands g a1 a2 post) : jMi l yX0_stands wsX0_stands rBarrier_stands D (tyS cy) [.ref (ad 9), .int a1, .int a2] (wS ad cy g) (wS ad cy) post 0 0 := by
  refine j_meti (cc := cX0_stands) (nL := 3) (rt := (some .int)) (by decide) (Nat.le_of_ble_eq_true rfl) ?_
  intro Γ hC hQ _
  have hC : jC Γ l rBarrier_stands D 3 RX0 cX0_stands wsX0_stands (tyS cy) := hC
  have hinX0 : ∀ w ∈ wsX00, w ∈ wsX0_stands := fun w h => List.mem_cons_of_mem _ (List.mem_append_right _ h)
  refine j_lv (lv' := [(0, .ref (ad 9)), (1, .int a1), (2, .int a2)]) [0, 1, 2] rfl ?_
  unfold vBarrier_stands at hv
  refine j_iload_n (i := 2) hC dX0_stands_0 rfl 2 rfl ?_
  refine j_if_ne (tgt := 6) hC dX0_stands_1 (by decide) (fun h_ => ?_) (fun h_ => ?_)
  · have hv := hv.1 h_
    refine j_iload_n (i := 1) hC dX0_stands_6 rfl 1 rfl ?_
    refine j_if_ne (tgt := 23) hC dX0_stands_7 (by decide) (fun h_ => ?_) (fun h_ => ?_)
    · have hv := hv.1 h_
      refine j_iconst (v := 4) hC dX0_stands_23 (by decide) ?_
      refine j_aload_n (i := 0) hC dX0_stands_24 rfl 0 rfl ?_
      refine j_get (C := RX0) (T := TX0) (N := 3) (v := .ref (ad 10)) hC hinX0 9 (wS_c9 ad cy _) rfl 0 (by decide) (mw 1 rfl) rfl rfl dX0_stands_25 ?_
      refine j_iconst (v := 1) hC dX0_stands_28 (by decide) ?_
      refine j_iald (v := ((z_rules g) 1)) hC _ 0 (wS_c10 ad cy _) rfl (jin_lit (by decide)) rfl dX0_stands_29 ?_
      refine j_iadd hC dX0_stands_30 ?_
      refine j_iconst (v := 1) hC dX0_stands_31 (by decide) ?_
      refine j_isub hC dX0_stands_32 ?_
      exact j_iret hC hQ dX0_stands_33 rfl hv
    · have hv := hv.2 h_
      refine j_iconst (v := 1) hC dX0_stands_10 (by decide) ?_
      refine j_aload_n (i := 0) hC dX0_stands_11 rfl 0 rfl ?_
      refine j_get (C := RX0) (T := TX0) (N := 3) (v := .ref (ad 10)) hC hinX0 9 (wS_c9 ad cy _) rfl 0 (by decide) (mw 1 rfl) rfl rfl dX0_stands_12 ?_
      refine j_iconst (v := 0) hC dX0_stands_15 (by decide) ?_
      refine j_iald (v := ((z_rules g) 0)) hC _ 0 (wS_c10 ad cy _) rfl (jin_lit (by decide)) rfl dX0_stands_16 ?_
      refine j_iadd hC dX0_stands_17 ?_
      refine j_iconst (v := 1) hC dX0_stands_18 (by decide) ?_
      refine j_isub hC dX0_stands_19 ?_
      refine j_goto (tgt := 33) hC dX0_stands_20 (by decide) ?_
      exact j_iret hC hQ dX0_stands_33 rfl hv
  · have hv := hv.2 h_
    refine j_iload_n (i := 1) hC dX0_stands_4 rfl 1 rfl ?_
    exact j_iret hC hQ dX0_stands_5 rfl hv
theorem hdBarrier_water : yX0_water.cls = RX0 ∧ yX0_water.cls ≠ "java/lang/invoke/MethodHandle" ∧ yX0_water.cls ≠ "java/lang/invoke/VarHandle" ∧ (parseMethodDescriptor yX0_water.desc).map (fun d => d.parameters.length) = some 3 := by decide +kernel
abbrev rBarrier_water : Room := { frames := 1, cells := 0, slots := 0, locals := 21 }
def vBarrier_water_48 (post : Int32 → GS → Prop) : Nat → Int32 → Int32 → Int32 → GS → Prop
  | 0, _, _, _, _ => False
  | k_ + 1, x2, x5, x6, g =>
  ((x2 < x6 → post x5 g) ∧ (¬ x2 < x6 → (vp_in x6 8 ∧ (vBarrier_water_48 post k_ x2 (x5 + ((z_rivers g) x6.toNatClampNeg)) (x6 + (1 : Int32)) g))))
def vBarrier_water (g : GS) (a1 : Int32) (a2 : Int32) (a3 : Int32) (post : Int32 → GS → Prop) : Prop :=
  (((7 : Int32) ≤ a3 → (vp_in a1 8 ∧ (vp_in (if a2 < (a3 - (7 : Int32)) then a2 else (a3 - (7 : Int32))) 8 ∧ (∃ n_ : Nat, vBarrier_water_48 post n_ a2 ((z_levels g) a1.toNatClampNeg (if a2 < (a3 - (7 : Int32)) then a2 else (a3 - (7 : Int32))).toNatClampNeg) ((if a2 < (a3 - (7 : Int32)) then a2 else (a3 - (7 : Int32))) + (1 : Int32)) g)))) ∧ (¬ (7 : Int32) ≤ a3 → (vp_in a1 8 ∧ (vp_in a2 8 ∧ post ((z_levels g) a1.toNatClampNeg a2.toNatClampNeg) g))))
set_option maxHeartbeats 4000000 in
set_option maxRecDepth 100000 in
theorem lBarrier_water_48 {Γ : jG} {l : Launch} {D : va_G} {ad : Nat → Nat} {cy : Nat → ClassId} {post : Int32 → GS → Prop} (hC : jC Γ l rBarrier_water D 7 RX0 cX0_water wsX0_water (tyS cy)) (hQ : jQi Γ D (wS ad cy) post (some .int) 0 0) : ∀ (n_ : Nat) (x2 : Int32) (x5 : Int32) (x6 : Int32) (g : GS), vBarrier_water_48 post n_ x2 x5 x6 g → J Γ D 7 0 0 (wS ad cy g) 48 [(0, .ref (ad 9)), (2, .int x2), (5, .int x5), (6, .int x6)] [] := by
  have hinX0 : ∀ w ∈ wsX00, w ∈ wsX0_water := fun w h => List.mem_cons_of_mem _ (List.mem_append_left _ (List.mem_append_right _ h))
  have hinX6 : ∀ w ∈ wsX60, w ∈ wsX0_water := fun w h => List.mem_cons_of_mem _ (List.mem_append_right _ h)
  intro n_
  induction n_ with
  | zero => intro x2 x5 x6 g hv; exact False.elim hv
  | succ k_ ih =>
    intro x2 x5 x6 g hv
    unfold vBarrier_water_48 at hv
    refine j_iload hC dX0_water_48 3 rfl ?_
    refine j_iload_n (i := 2) hC dX0_water_50 rfl 1 rfl ?_
    refine j_icmp_gt (tgt := 72) hC dX0_water_51 (by decide) (fun h_ => ?_) (fun h_ => ?_)
    · have hv := hv.1 h_
      refine j_iload hC dX0_water_72 2 rfl ?_
      exact j_iret hC hQ dX0_water_74 rfl hv
    · have hv := hv.2 h_
      refine j_iload hC dX0_water_54 2 rfl ?_
      refine j_aload_n (i := 0) hC dX0_water_56 rfl 0 rfl ?_
      refine j_get (C := RX0) (T := TX0) (N := 3) (v := .ref (ad 11)) hC hinX0 9 (wS_c9 ad cy _) rfl 1 (by decide) (mw 7 rfl) rfl rfl dX0_water_57 ?_
      refine j_iload hC dX0_water_60 3 rfl ?_
      have hb62 := hv.1
      have hv := hv.2
      refine j_iald (v := ((z_rivers g) x6.toNatClampNeg)) hC _ 0 (wS_c11 ad cy _) rfl hb62 rfl dX0_water_62 ?_
      refine j_iadd hC dX0_water_63 ?_
      refine j_istore (lv' := [(5, .int (x5 + ((z_rivers g) x6.toNatClampNeg))), (0, .ref (ad 9)), (2, .int x2), (6, .int x6)]) hC dX0_water_64 (by decide) rfl ?_
      refine j_iinc (k := 3) (v := (x6 + (1 : Int32))) (lv' := [(6, .int (x6 + (1 : Int32))), (5, .int (x5 + ((z_rivers g) x6.toNatClampNeg))), (0, .ref (ad 9)), (2, .int x2)]) hC dX0_water_66 rfl rfl (by decide) rfl ?_
      refine j_goto (tgt := 48) hC dX0_water_69 (by decide) ?_
      exact j_lv [2, 3, 1, 0] rfl (ih _ _ _ _ hv)
set_option maxHeartbeats 4000000 in
set_option maxRecDepth 100000 in
theorem cBarrier_water {l : Launch} {D : va_G} {ad : Nat → Nat} {cy : Nat → ClassId} {g : GS} {a1 : Int32} {a2 : Int32} {a3 : Int32} {post : Int32 → GS → Prop} (hv : vBarrier_water g a1 a2 a3 post) : jMi l yX0_water wsX0_water rBarrier_water D (tyS cy) [.ref (ad 9), .int a1, .int a2, .int a3] (wS ad cy g) (wS ad cy) post 0 0 := by
  refine j_meti (cc := cX0_water) (nL := 7) (rt := (some .int)) (by decide) (Nat.le_of_ble_eq_true rfl) ?_
  intro Γ hC hQ _
  have hC : jC Γ l rBarrier_water D 7 RX0 cX0_water wsX0_water (tyS cy) := hC
  have hinX0 : ∀ w ∈ wsX00, w ∈ wsX0_water := fun w h => List.mem_cons_of_mem _ (List.mem_append_left _ (List.mem_append_right _ h))
  have hinX6 : ∀ w ∈ wsX60, w ∈ wsX0_water := fun w h => List.mem_cons_of_mem _ (List.mem_append_right _ h)
  refine j_lv (lv' := [(0, .ref (ad 9)), (1, .int a1), (2, .int a2), (3, .int a3)]) [0, 1, 2, 3] rfl ?_
  unfold vBarrier_water at hv
  refine j_iload_n (i := 3) hC dX0_water_0 rfl 3 rfl ?_
  refine j_bipush (v := 7) hC dX0_water_1 (by decide) ?_
  refine j_icmp_ge (tgt := 18) hC dX0_water_3 (by decide) (fun h_ => ?_) (fun h_ => ?_)
  · have hv := hv.1 h_
    refine j_iload_n (i := 3) hC dX0_water_18 rfl 3 rfl ?_
    refine j_bipush (v := 7) hC dX0_water_19 (by decide) ?_
    refine j_isub hC dX0_water_21 ?_
    refine j_iload_n (i := 2) hC dX0_water_22 rfl 2 rfl ?_
    refine j_mmin hC (mw 3 rfl) (mw 4 rfl) (mw 5 rfl) (mw 6 rfl) (Nat.le_of_ble_eq_true rfl) (Nat.le_of_ble_eq_true rfl) (Nat.zero_le _) (Nat.zero_le _) dX0_water_23 ?_
    refine j_istore (lv' := [(4, .int (if a2 < (a3 - (7 : Int32)) then a2 else (a3 - (7 : Int32)))), (0, .ref (ad 9)), (1, .int a1), (2, .int a2), (3, .int a3)]) hC dX0_water_26 (by decide) rfl ?_
    refine j_aload_n (i := 0) hC dX0_water_28 rfl 1 rfl ?_
    refine j_get (C := RX0) (T := TX0) (N := 3) (v := .ref (ad 5)) hC hinX0 9 (wS_c9 ad cy _) rfl 2 (by decide) (mw 1 rfl) rfl rfl dX0_water_29 ?_
    refine j_get (C := RX6) (T := TX6) (N := 4) (v := .ref (ad 7)) hC hinX6 5 (wS_c5 ad cy _) rfl 1 (by decide) (mw 2 rfl) rfl rfl dX0_water_32 ?_
    refine j_iload_n (i := 1) hC dX0_water_35 rfl 2 rfl ?_
    have hb36 := hv.1
    have hv := hv.2
    refine j_aald (v := .ref (ad (33 + a1.toNatClampNeg))) hC 7 3 (wS_c7 ad cy _) rfl rfl hb36 (jrow ad 33 (j := a1.toNatClampNeg) (jlt hb36)) dX0_water_36 ?_
    refine j_iload hC dX0_water_37 0 rfl ?_
    have hb39 := hv.1
    have hv := hv.2
    refine j_iald (v := ((z_levels g) a1.toNatClampNeg (if a2 < (a3 - (7 : Int32)) then a2 else (a3 - (7 : Int32))).toNatClampNeg)) hC _ 0 (wS_r_levels ad cy _ (jlt hb36)) rfl hb39 rfl dX0_water_39 ?_
    refine j_istore (lv' := [(5, .int ((z_levels g) a1.toNatClampNeg (if a2 < (a3 - (7 : Int32)) then a2 else (a3 - (7 : Int32))).toNatClampNeg)), (4, .int (if a2 < (a3 - (7 : Int32)) then a2 else (a3 - (7 : Int32)))), (0, .ref (ad 9)), (1, .int a1), (2, .int a2), (3, .int a3)]) hC dX0_water_40 (by decide) rfl ?_
    refine j_iload hC dX0_water_42 1 rfl ?_
    refine j_iconst (v := 1) hC dX0_water_44 (by decide) ?_
    refine j_iadd hC dX0_water_45 ?_
    refine j_istore (lv' := [(6, .int ((if a2 < (a3 - (7 : Int32)) then a2 else (a3 - (7 : Int32))) + (1 : Int32))), (5, .int ((z_levels g) a1.toNatClampNeg (if a2 < (a3 - (7 : Int32)) then a2 else (a3 - (7 : Int32))).toNatClampNeg)), (4, .int (if a2 < (a3 - (7 : Int32)) then a2 else (a3 - (7 : Int32)))), (0, .ref (ad 9)), (1, .int a1), (2, .int a2), (3, .int a3)]) hC dX0_water_46 (by decide) rfl ?_
    obtain ⟨n_, hv⟩ := hv
    exact j_lv [3, 5, 1, 0] rfl (lBarrier_water_48 hC hQ n_ _ _ _ _ hv)
  · have hv := hv.2 h_
    refine j_aload_n (i := 0) hC dX0_water_6 rfl 0 rfl ?_
    refine j_get (C := RX0) (T := TX0) (N := 3) (v := .ref (ad 5)) hC hinX0 9 (wS_c9 ad cy _) rfl 2 (by decide) (mw 1 rfl) rfl rfl dX0_water_7 ?_
    refine j_get (C := RX6) (T := TX6) (N := 4) (v := .ref (ad 7)) hC hinX6 5 (wS_c5 ad cy _) rfl 1 (by decide) (mw 2 rfl) rfl rfl dX0_water_10 ?_
    refine j_iload_n (i := 1) hC dX0_water_13 rfl 1 rfl ?_
    have hb14 := hv.1
    have hv := hv.2
    refine j_aald (v := .ref (ad (33 + a1.toNatClampNeg))) hC 7 3 (wS_c7 ad cy _) rfl rfl hb14 (jrow ad 33 (j := a1.toNatClampNeg) (jlt hb14)) dX0_water_14 ?_
    refine j_iload_n (i := 2) hC dX0_water_15 rfl 2 rfl ?_
    have hb16 := hv.1
    have hv := hv.2
    refine j_iald (v := ((z_levels g) a1.toNatClampNeg a2.toNatClampNeg)) hC _ 0 (wS_r_levels ad cy _ (jlt hb14)) rfl hb16 rfl dX0_water_16 ?_
    exact j_iret hC hQ dX0_water_17 rfl hv
theorem hdBarrier_lost : yX0_lost.cls = RX0 ∧ yX0_lost.cls ≠ "java/lang/invoke/MethodHandle" ∧ yX0_lost.cls ≠ "java/lang/invoke/VarHandle" ∧ (parseMethodDescriptor yX0_lost.desc).map (fun d => d.parameters.length) = some 4 := by decide +kernel
abbrev rBarrier_lost : Room := { frames := 2, cells := 0, slots := 0, locals := 47 }
def vBarrier_lost_74 (post : Int32 → GS → Prop) (x6 : Int32) (t0 : Int32) (g : GS) : Prop :=
  post (t0 + (((z_rules g) 6) * (if (0 : Int32) < (x6 - ((z_rules g) 2)) then (x6 - ((z_rules g) 2)) else (0 : Int32)))) g
def vBarrier_lost_73 (post : Int32 → GS → Prop) (x6 : Int32) (g : GS) : Prop :=
  (vBarrier_lost_74 post x6 (0 : Int32) g)
def vBarrier_lost (g : GS) (a1 : Int32) (a2 : Int32) (a3 : Int32) (a4 : Int32) (post : Int32 → GS → Prop) : Prop :=
  (vBarrier_stands g a3 a4 (fun r4 g4 => (vBarrier_water g4 a1 a2 r4 (fun r14 g14 => ((r4 < (7 : Int32) → ((a4 = (0 : Int32) → (vBarrier_lost_73 post r14 g14)) ∧ (¬ a4 = (0 : Int32) → ((¬ a3 = (0 : Int32) → (vBarrier_lost_73 post r14 g14)) ∧ (a3 = (0 : Int32) → (vBarrier_lost_74 post r14 ((z_rules g14) 4) g14)))))) ∧ (¬ r4 < (7 : Int32) → post (((z_rules g14) 5) + (((z_rules g14) 7) * (if (0 : Int32) < (r14 - ((z_rules g14) 3)) then (r14 - ((z_rules g14) 3)) else (0 : Int32)))) g14))))))
set_option maxHeartbeats 4000000 in
set_option maxRecDepth 100000 in
theorem lBarrier_lost_74 {Γ : jG} {l : Launch} {D : va_G} {ad : Nat → Nat} {cy : Nat → ClassId} {post : Int32 → GS → Prop} (hC : jC Γ l rBarrier_lost D 8 RX0 cX0_lost wsX0_lost (tyS cy)) (hQ : jQi Γ D (wS ad cy) post (some .int) 0 0) : ∀ (x6 : Int32) (t0 : Int32) (g : GS), vBarrier_lost_74 post x6 t0 g → J Γ D 8 0 0 (wS ad cy g) 74 [(0, .ref (ad 9)), (6, .int x6)] [.int t0] := by
  have hinX0 : ∀ w ∈ wsX00, w ∈ wsX0_lost := fun w h => List.mem_cons_of_mem _ (List.mem_append_left _ (List.mem_append_right _ h))
  intro x6 t0 g hv
  unfold vBarrier_lost_74 at hv
  refine j_istore (lv' := [(7, .int t0), (0, .ref (ad 9)), (6, .int x6)]) hC dX0_lost_74 (by decide) rfl ?_
  refine j_iload hC dX0_lost_76 0 rfl ?_
  refine j_aload_n (i := 0) hC dX0_lost_78 rfl 1 rfl ?_
  refine j_get (C := RX0) (T := TX0) (N := 3) (v := .ref (ad 10)) hC hinX0 9 (wS_c9 ad cy _) rfl 0 (by decide) (mw 1 rfl) rfl rfl dX0_lost_79 ?_
  refine j_bipush (v := 6) hC dX0_lost_82 (by decide) ?_
  refine j_iald (v := ((z_rules g) 6)) hC _ 0 (wS_c10 ad cy _) rfl (jin_lit (by decide)) rfl dX0_lost_84 ?_
  refine j_iconst (v := 0) hC dX0_lost_85 (by decide) ?_
  refine j_iload hC dX0_lost_86 2 rfl ?_
  refine j_aload_n (i := 0) hC dX0_lost_88 rfl 1 rfl ?_
  refine j_get (C := RX0) (T := TX0) (N := 3) (v := .ref (ad 10)) hC hinX0 9 (wS_c9 ad cy _) rfl 0 (by decide) (mw 1 rfl) rfl rfl dX0_lost_89 ?_
  refine j_iconst (v := 2) hC dX0_lost_92 (by decide) ?_
  refine j_iald (v := ((z_rules g) 2)) hC _ 0 (wS_c10 ad cy _) rfl (jin_lit (by decide)) rfl dX0_lost_93 ?_
  refine j_isub hC dX0_lost_94 ?_
  refine j_mmax hC (mw 2 rfl) (mw 3 rfl) (mw 4 rfl) (mw 5 rfl) (Nat.le_of_ble_eq_true rfl) (Nat.le_of_ble_eq_true rfl) (Nat.zero_le _) (Nat.zero_le _) dX0_lost_95 ?_
  refine j_imul hC dX0_lost_98 ?_
  refine j_iadd hC dX0_lost_99 ?_
  exact j_iret hC hQ dX0_lost_100 rfl hv
set_option maxHeartbeats 4000000 in
set_option maxRecDepth 100000 in
theorem lBarrier_lost_73 {Γ : jG} {l : Launch} {D : va_G} {ad : Nat → Nat} {cy : Nat → ClassId} {post : Int32 → GS → Prop} (hC : jC Γ l rBarrier_lost D 8 RX0 cX0_lost wsX0_lost (tyS cy)) (hQ : jQi Γ D (wS ad cy) post (some .int) 0 0) : ∀ (x6 : Int32) (g : GS), vBarrier_lost_73 post x6 g → J Γ D 8 0 0 (wS ad cy g) 73 [(0, .ref (ad 9)), (6, .int x6)] [] := by
  have hinX0 : ∀ w ∈ wsX00, w ∈ wsX0_lost := fun w h => List.mem_cons_of_mem _ (List.mem_append_left _ (List.mem_append_right _ h))
  intro x6 g hv
  unfold vBarrier_lost_73 at hv
  refine j_iconst (v := 0) hC dX0_lost_73 (by decide) ?_
  exact j_lv [0, 1] rfl (lBarrier_lost_74 hC hQ _ _ _ hv)
set_option maxHeartbeats 4000000 in
set_option maxRecDepth 100000 in
theorem cBarrier_lost {l : Launch} {D : va_G} {ad : Nat → Nat} {cy : Nat → ClassId} {g : GS} {a1 : Int32} {a2 : Int32} {a3 : Int32} {a4 : Int32} {post : Int32 → GS → Prop} (hv : vBarrier_lost g a1 a2 a3 a4 post) : jMi l yX0_lost wsX0_lost rBarrier_lost D (tyS cy) [.ref (ad 9), .int a1, .int a2, .int a3, .int a4] (wS ad cy g) (wS ad cy) post 0 0 := by
  refine j_meti (cc := cX0_lost) (nL := 8) (rt := (some .int)) (by decide) (Nat.le_of_ble_eq_true rfl) ?_
  intro Γ hC hQ _
  have hC : jC Γ l rBarrier_lost D 8 RX0 cX0_lost wsX0_lost (tyS cy) := hC
  have hinX0 : ∀ w ∈ wsX00, w ∈ wsX0_lost := fun w h => List.mem_cons_of_mem _ (List.mem_append_left _ (List.mem_append_right _ h))
  refine j_lv (lv' := [(0, .ref (ad 9)), (1, .int a1), (2, .int a2), (3, .int a3), (4, .int a4)]) [0, 1, 2, 3, 4] rfl ?_
  unfold vBarrier_lost at hv
  refine j_aload_n (i := 0) hC dX0_lost_0 rfl 0 rfl ?_
  refine j_iload_n (i := 3) hC dX0_lost_1 rfl 3 rfl ?_
  refine j_iload hC dX0_lost_2 4 rfl ?_
  refine j_callV_i (C := RX0) (As := [.int a3, .int a4]) (rest := []) (b := (ad 9)) hC (cBarrier_stands hv) 2 gX0_lost_X0_stands rfl rfl rfl ⟨Nat.le_of_ble_eq_true rfl, Nat.le_of_ble_eq_true rfl⟩ hdBarrier_stands rfl (wS_c9 ad cy _) rfl rfl (Nat.le_of_ble_eq_true rfl) ⟨Nat.zero_le _, Nat.zero_le _⟩ dX0_lost_4 (fun r4 g4 hv => ?_)
  refine j_istore (lv' := [(5, .int r4), (0, .ref (ad 9)), (1, .int a1), (2, .int a2), (3, .int a3), (4, .int a4)]) hC dX0_lost_7 (by decide) rfl ?_
  refine j_aload_n (i := 0) hC dX0_lost_9 rfl 1 rfl ?_
  refine j_iload_n (i := 1) hC dX0_lost_10 rfl 2 rfl ?_
  refine j_iload_n (i := 2) hC dX0_lost_11 rfl 3 rfl ?_
  refine j_iload hC dX0_lost_12 0 rfl ?_
  refine j_callV_i (C := RX0) (As := [.int a1, .int a2, .int r4]) (rest := []) (b := (ad 9)) hC (cBarrier_water hv) 3 gX0_lost_X0_water rfl rfl rfl ⟨Nat.le_of_ble_eq_true rfl, Nat.le_of_ble_eq_true rfl⟩ hdBarrier_water rfl (wS_c9 ad cy _) rfl rfl (Nat.le_of_ble_eq_true rfl) ⟨Nat.zero_le _, Nat.zero_le _⟩ dX0_lost_14 (fun r14 g14 hv => ?_)
  refine j_istore (lv' := [(6, .int r14), (5, .int r4), (0, .ref (ad 9)), (1, .int a1), (2, .int a2), (3, .int a3), (4, .int a4)]) hC dX0_lost_17 (by decide) rfl ?_
  refine j_iload hC dX0_lost_19 1 rfl ?_
  refine j_bipush (v := 7) hC dX0_lost_21 (by decide) ?_
  refine j_icmp_lt (tgt := 55) hC dX0_lost_23 (by decide) (fun h_ => ?_) (fun h_ => ?_)
  · have hv := hv.1 h_
    refine j_iload hC dX0_lost_55 6 rfl ?_
    refine j_if_eq (tgt := 73) hC dX0_lost_57 (by decide) (fun h_ => ?_) (fun h_ => ?_)
    · have hv := hv.1 h_
      exact j_lv [2, 0] rfl (lBarrier_lost_73 hC hQ _ _ hv)
    · have hv := hv.2 h_
      refine j_iload_n (i := 3) hC dX0_lost_60 rfl 5 rfl ?_
      refine j_if_ne (tgt := 73) hC dX0_lost_61 (by decide) (fun h_ => ?_) (fun h_ => ?_)
      · have hv := hv.1 h_
        exact j_lv [2, 0] rfl (lBarrier_lost_73 hC hQ _ _ hv)
      · have hv := hv.2 h_
        refine j_aload_n (i := 0) hC dX0_lost_64 rfl 2 rfl ?_
        refine j_get (C := RX0) (T := TX0) (N := 3) (v := .ref (ad 10)) hC hinX0 9 (wS_c9 ad cy _) rfl 0 (by decide) (mw 1 rfl) rfl rfl dX0_lost_65 ?_
        refine j_iconst (v := 4) hC dX0_lost_68 (by decide) ?_
        refine j_iald (v := ((z_rules g14) 4)) hC _ 0 (wS_c10 ad cy _) rfl (jin_lit (by decide)) rfl dX0_lost_69 ?_
        refine j_goto (tgt := 74) hC dX0_lost_70 (by decide) ?_
        exact j_lv [2, 0] rfl (lBarrier_lost_74 hC hQ _ _ _ hv)
  · have hv := hv.2 h_
    refine j_aload_n (i := 0) hC dX0_lost_26 rfl 2 rfl ?_
    refine j_get (C := RX0) (T := TX0) (N := 3) (v := .ref (ad 10)) hC hinX0 9 (wS_c9 ad cy _) rfl 0 (by decide) (mw 1 rfl) rfl rfl dX0_lost_27 ?_
    refine j_iconst (v := 5) hC dX0_lost_30 (by decide) ?_
    refine j_iald (v := ((z_rules g14) 5)) hC _ 0 (wS_c10 ad cy _) rfl (jin_lit (by decide)) rfl dX0_lost_31 ?_
    refine j_aload_n (i := 0) hC dX0_lost_32 rfl 2 rfl ?_
    refine j_get (C := RX0) (T := TX0) (N := 3) (v := .ref (ad 10)) hC hinX0 9 (wS_c9 ad cy _) rfl 0 (by decide) (mw 1 rfl) rfl rfl dX0_lost_33 ?_
    refine j_bipush (v := 7) hC dX0_lost_36 (by decide) ?_
    refine j_iald (v := ((z_rules g14) 7)) hC _ 0 (wS_c10 ad cy _) rfl (jin_lit (by decide)) rfl dX0_lost_38 ?_
    refine j_iconst (v := 0) hC dX0_lost_39 (by decide) ?_
    refine j_iload hC dX0_lost_40 0 rfl ?_
    refine j_aload_n (i := 0) hC dX0_lost_42 rfl 2 rfl ?_
    refine j_get (C := RX0) (T := TX0) (N := 3) (v := .ref (ad 10)) hC hinX0 9 (wS_c9 ad cy _) rfl 0 (by decide) (mw 1 rfl) rfl rfl dX0_lost_43 ?_
    refine j_iconst (v := 3) hC dX0_lost_46 (by decide) ?_
    refine j_iald (v := ((z_rules g14) 3)) hC _ 0 (wS_c10 ad cy _) rfl (jin_lit (by decide)) rfl dX0_lost_47 ?_
    refine j_isub hC dX0_lost_48 ?_
    refine j_mmax hC (mw 2 rfl) (mw 3 rfl) (mw 4 rfl) (mw 5 rfl) (Nat.le_of_ble_eq_true rfl) (Nat.le_of_ble_eq_true rfl) (Nat.zero_le _) (Nat.zero_le _) dX0_lost_49 ?_
    refine j_imul hC dX0_lost_52 ?_
    refine j_iadd hC dX0_lost_53 ?_
    exact j_iret hC hQ dX0_lost_54 rfl hv
theorem hdBarrier_mayBeTold : yX0_mayBeTold.cls = RX0 ∧ yX0_mayBeTold.cls ≠ "java/lang/invoke/MethodHandle" ∧ yX0_mayBeTold.cls ≠ "java/lang/invoke/VarHandle" ∧ (parseMethodDescriptor yX0_mayBeTold.desc).map (fun d => d.parameters.length) = some 1 := by decide +kernel
abbrev rBarrier_mayBeTold : Room := { frames := 0, cells := 0, slots := 0, locals := 0 }
def vBarrier_mayBeTold_10 (post : Int32 → GS → Prop) (g : GS) : Prop :=
  post (1 : Int32) g
def vBarrier_mayBeTold (g : GS) (a0 : Int32) (post : Int32 → GS → Prop) : Prop :=
  ((a0 = (0 : Int32) → (vBarrier_mayBeTold_10 post g)) ∧ (¬ a0 = (0 : Int32) → ((a0 < (7 : Int32) → post (0 : Int32) g) ∧ (¬ a0 < (7 : Int32) → (vBarrier_mayBeTold_10 post g)))))
set_option maxHeartbeats 4000000 in
set_option maxRecDepth 100000 in
theorem lBarrier_mayBeTold_10 {Γ : jG} {l : Launch} {D : va_G} {ad : Nat → Nat} {cy : Nat → ClassId} {post : Int32 → GS → Prop} (hC : jC Γ l rBarrier_mayBeTold D 1 RX0 cX0_mayBeTold wsX0_mayBeTold (tyS cy)) (hQ : jQi Γ D (wS ad cy) post (some .boolean) 0 0) : ∀ (g : GS), vBarrier_mayBeTold_10 post g → J Γ D 1 0 0 (wS ad cy g) 10 [] [] := by
  intro g hv
  unfold vBarrier_mayBeTold_10 at hv
  refine j_iconst (v := 1) hC dX0_mayBeTold_10 (by decide) ?_
  refine j_goto (tgt := 15) hC dX0_mayBeTold_11 (by decide) ?_
  exact j_zret hC hQ dX0_mayBeTold_15 rfl rfl hv
set_option maxHeartbeats 4000000 in
set_option maxRecDepth 100000 in
theorem cBarrier_mayBeTold {l : Launch} {D : va_G} {ad : Nat → Nat} {cy : Nat → ClassId} {g : GS} {a0 : Int32} {post : Int32 → GS → Prop} (hv : vBarrier_mayBeTold g a0 post) : jMi l yX0_mayBeTold wsX0_mayBeTold rBarrier_mayBeTold D (tyS cy) [.int a0] (wS ad cy g) (wS ad cy) post 0 0 := by
  refine j_meti (cc := cX0_mayBeTold) (nL := 1) (rt := (some .boolean)) (by decide) (Nat.le_of_ble_eq_true rfl) ?_
  intro Γ hC hQ _
  have hC : jC Γ l rBarrier_mayBeTold D 1 RX0 cX0_mayBeTold wsX0_mayBeTold (tyS cy) := hC
  refine j_lv (lv' := [(0, .int a0)]) [0] rfl ?_
  unfold vBarrier_mayBeTold at hv
  refine j_iload_n (i := 0) hC dX0_mayBeTold_0 rfl 0 rfl ?_
  refine j_if_eq (tgt := 10) hC dX0_mayBeTold_1 (by decide) (fun h_ => ?_) (fun h_ => ?_)
  · have hv := hv.1 h_
    exact j_lv [] rfl (lBarrier_mayBeTold_10 hC hQ _ hv)
  · have hv := hv.2 h_
    refine j_iload_n (i := 0) hC dX0_mayBeTold_4 rfl 0 rfl ?_
    refine j_bipush (v := 7) hC dX0_mayBeTold_5 (by decide) ?_
    refine j_icmp_lt (tgt := 14) hC dX0_mayBeTold_7 (by decide) (fun h_ => ?_) (fun h_ => ?_)
    · have hv := hv.1 h_
      refine j_iconst (v := 0) hC dX0_mayBeTold_14 (by decide) ?_
      exact j_zret hC hQ dX0_mayBeTold_15 rfl rfl hv
    · have hv := hv.2 h_
      exact j_lv [] rfl (lBarrier_mayBeTold_10 hC hQ _ hv)
theorem hdBarrier_next : yX0_next.cls = RX0 ∧ yX0_next.cls ≠ "java/lang/invoke/MethodHandle" ∧ yX0_next.cls ≠ "java/lang/invoke/VarHandle" ∧ (parseMethodDescriptor yX0_next.desc).map (fun d => d.parameters.length) = some 2 := by decide +kernel
abbrev rBarrier_next : Room := { frames := 1, cells := 0, slots := 0, locals := 20 }
def vBarrier_next (g : GS) (a0 : Int32) (a1 : Int32) (post : Int32 → GS → Prop) : Prop :=
  ((¬ a0 = (1 : Int32) → ((¬ a0 = (4 : Int32) → (vBarrier_mayBeTold g a0 (fun r18 g18 => ((r18 = (0 : Int32) → post (a0 - (1 : Int32)) g18) ∧ (¬ r18 = (0 : Int32) → post a0 g18))))) ∧ (a0 = (4 : Int32) → post (0 : Int32) g))) ∧ (a0 = (1 : Int32) → post ((7 : Int32) + a1) g))
set_option maxHeartbeats 4000000 in
set_option maxRecDepth 100000 in
theorem cBarrier_next {l : Launch} {D : va_G} {ad : Nat → Nat} {cy : Nat → ClassId} {g : GS} {a0 : Int32} {a1 : Int32} {post : Int32 → GS → Prop} (hv : vBarrier_next g a0 a1 post) : jMi l yX0_next wsX0_next rBarrier_next D (tyS cy) [.int a0, .int a1] (wS ad cy g) (wS ad cy) post 0 0 := by
  refine j_meti (cc := cX0_next) (nL := 2) (rt := (some .int)) (by decide) (Nat.le_of_ble_eq_true rfl) ?_
  intro Γ hC hQ _
  have hC : jC Γ l rBarrier_next D 2 RX0 cX0_next wsX0_next (tyS cy) := hC
  refine j_lv (lv' := [(0, .int a0), (1, .int a1)]) [0, 1] rfl ?_
  unfold vBarrier_next at hv
  refine j_iload_n (i := 0) hC dX0_next_0 rfl 0 rfl ?_
  refine j_iconst (v := 1) hC dX0_next_1 (by decide) ?_
  refine j_icmp_ne (tgt := 10) hC dX0_next_2 (by decide) (fun h_ => ?_) (fun h_ => ?_)
  · have hv := hv.1 h_
    refine j_iload_n (i := 0) hC dX0_next_10 rfl 0 rfl ?_
    refine j_iconst (v := 4) hC dX0_next_11 (by decide) ?_
    refine j_icmp_ne (tgt := 17) hC dX0_next_12 (by decide) (fun h_ => ?_) (fun h_ => ?_)
    · have hv := hv.1 h_
      refine j_iload_n (i := 0) hC dX0_next_17 rfl 0 rfl ?_
      refine j_callS_i (As := [.int a0]) (rest := []) hC (cBarrier_mayBeTold hv) 1 gX0_next_X0_mayBeTold rfl rfl rfl ⟨Nat.le_of_ble_eq_true rfl, Nat.le_of_ble_eq_true rfl⟩ hdBarrier_mayBeTold.2 rfl rfl (Nat.le_of_ble_eq_true rfl) ⟨Nat.zero_le _, Nat.zero_le _⟩ dX0_next_18 (fun r18 g18 hv => ?_)
      refine j_if_eq (tgt := 28) hC dX0_next_21 (by decide) (fun h_ => ?_) (fun h_ => ?_)
      · have hv := hv.1 h_
        refine j_iload_n (i := 0) hC dX0_next_28 rfl 0 rfl ?_
        refine j_iconst (v := 1) hC dX0_next_29 (by decide) ?_
        refine j_isub hC dX0_next_30 ?_
        exact j_iret hC hQ dX0_next_31 rfl hv
      · have hv := hv.2 h_
        refine j_iload_n (i := 0) hC dX0_next_24 rfl 0 rfl ?_
        refine j_goto (tgt := 31) hC dX0_next_25 (by decide) ?_
        exact j_iret hC hQ dX0_next_31 rfl hv
    · have hv := hv.2 h_
      refine j_iconst (v := 0) hC dX0_next_15 (by decide) ?_
      exact j_iret hC hQ dX0_next_16 rfl hv
  · have hv := hv.2 h_
    refine j_bipush (v := 7) hC dX0_next_5 (by decide) ?_
    refine j_iload_n (i := 1) hC dX0_next_7 rfl 1 rfl ?_
    refine j_iadd hC dX0_next_8 ?_
    exact j_iret hC hQ dX0_next_9 rfl hv
theorem hdPlan_lossFrom : yX4_lossFrom.cls = RX4 ∧ yX4_lossFrom.cls ≠ "java/lang/invoke/MethodHandle" ∧ yX4_lossFrom.cls ≠ "java/lang/invoke/VarHandle" ∧ (parseMethodDescriptor yX4_lossFrom.desc).map (fun d => d.parameters.length) = some 5 := by decide +kernel
abbrev rPlan_lossFrom : Room := { frames := 3, cells := 0, slots := 0, locals := 74 }
def vPlan_lossFrom_110 (post : Int64 → GS → Prop) (K48 : Int32 → Int32 → Int64 → Int32 → Int32 → GS → Prop) (x1 : Int32) (x2 : Int32) (x6 : Int64) (x8 : Int32) (x9 : Int32) (g : GS) : Prop :=
  (K48 x1 x2 x6 x8 (x9 + (1 : Int32)) g)
def vPlan_lossFrom_48 (post : Int64 → GS → Prop) : Nat → Int32 → Int32 → Int64 → Int32 → Int32 → GS → Prop
  | 0, _, _, _, _, _, _ => False
  | k_ + 1, x1, x2, x6, x8, x9, g =>
  (((z_ssize g) ≤ x9 → post x6 g) ∧ (¬ (z_ssize g) ≤ x9 → (vp_in x1 8 ∧ (vp_in x9 8 ∧ ((¬ ((z_heads g) x1.toNatClampNeg x9.toNatClampNeg) = x2 → (vPlan_lossFrom_110 post (fun x1 x2 x6 x8 x9 g => vPlan_lossFrom_48 post k_ x1 x2 x6 x8 x9 g) x1 x2 x6 x8 x9 g)) ∧ (((z_heads g) x1.toNatClampNeg x9.toNatClampNeg) = x2 → (vp_in (x1 + (1 : Int32)) 8 ∧ (vp_in x9 8 ∧ ((¬ ((z_heads g) ((x1 + (1 : Int32)).toNatClampNeg) x9.toNatClampNeg) = x9 → (vPlan_lossFrom_110 post (fun x1 x2 x6 x8 x9 g => vPlan_lossFrom_48 post k_ x1 x2 x6 x8 x9 g) x1 x2 x6 x8 x9 g)) ∧ (((z_heads g) ((x1 + (1 : Int32)).toNatClampNeg) x9.toNatClampNeg) = x9 → (vp_in x9 8 ∧ (vp_in x8 15 ∧ (vPlan_lossFrom_110 post (fun x1 x2 x6 x8 x9 g => vPlan_lossFrom_48 post k_ x1 x2 x6 x8 x9 g) x1 x2 (x6 + ((z_then g) x9.toNatClampNeg x8.toNatClampNeg)) x8 x9 g)))))))))))))
def vPlan_lossFrom (g : GS) (a1 : Int32) (a2 : Int32) (a3 : Int32) (a4 : Int32) (a5 : Int32) (post : Int64 → GS → Prop) : Prop :=
  (vBarrier_lost g a2 a1 a4 a5 (fun r12 g12 => ((¬ a1 = (7 : Int32) → (vBarrier_stands g12 a4 a5 (fun r36 g36 => (vBarrier_next g36 r36 a1 (fun r40 g40 => (∃ n_ : Nat, vPlan_lossFrom_48 post n_ a1 a2 ((a3.toInt64) * (r12.toInt64)) r40 a2 g40)))))) ∧ (a1 = (7 : Int32) → post ((a3.toInt64) * (r12.toInt64)) g12))))
set_option maxHeartbeats 4000000 in
set_option maxRecDepth 100000 in
theorem lPlan_lossFrom_110 {Γ : jG} {l : Launch} {D : va_G} {ad : Nat → Nat} {cy : Nat → ClassId} {post : Int64 → GS → Prop} (hC : jC Γ l rPlan_lossFrom D 10 RX4 cX4_lossFrom wsX4_lossFrom (tyS cy)) (hQ : jQl Γ D (wS ad cy) post (some .long) 0 0) {K48 : Int32 → Int32 → Int64 → Int32 → Int32 → GS → Prop} (hK48 : ∀ (x1 : Int32) (x2 : Int32) (x6 : Int64) (x8 : Int32) (x9 : Int32) (g : GS), K48 x1 x2 x6 x8 x9 g → J Γ D 10 0 0 (wS ad cy g) 48 [(0, .ref (ad 12)), (1, .int x1), (2, .int x2), (6, .long x6), (8, .int x8), (9, .int x9)] []) : ∀ (x1 : Int32) (x2 : Int32) (x6 : Int64) (x8 : Int32) (x9 : Int32) (g : GS), vPlan_lossFrom_110 post K48 x1 x2 x6 x8 x9 g → J Γ D 10 0 0 (wS ad cy g) 110 [(0, .ref (ad 12)), (1, .int x1), (2, .int x2), (6, .long x6), (8, .int x8), (9, .int x9)] [] := by
  have hinX4 : ∀ w ∈ wsX40, w ∈ wsX4_lossFrom := fun w h => List.mem_cons_of_mem _ (List.mem_append_left _ (List.mem_append_left _ (List.mem_append_right _ h)))
  have hinX6 : ∀ w ∈ wsX60, w ∈ wsX4_lossFrom := fun w h => List.mem_cons_of_mem _ (List.mem_append_left _ (List.mem_append_right _ h))
  intro x1 x2 x6 x8 x9 g hv
  unfold vPlan_lossFrom_110 at hv
  refine j_iinc (k := 5) (v := (x9 + (1 : Int32))) (lv' := [(9, .int (x9 + (1 : Int32))), (0, .ref (ad 12)), (1, .int x1), (2, .int x2), (6, .long x6), (8, .int x8)]) hC dX4_lossFrom_110 rfl rfl (by decide) rfl ?_
  refine j_goto (tgt := 48) hC dX4_lossFrom_113 (by decide) ?_
  exact j_lv [1, 2, 3, 4, 5, 0] rfl (hK48 _ _ _ _ _ _ hv)
set_option maxHeartbeats 4000000 in
set_option maxRecDepth 100000 in
theorem lPlan_lossFrom_48 {Γ : jG} {l : Launch} {D : va_G} {ad : Nat → Nat} {cy : Nat → ClassId} {post : Int64 → GS → Prop} (hC : jC Γ l rPlan_lossFrom D 10 RX4 cX4_lossFrom wsX4_lossFrom (tyS cy)) (hQ : jQl Γ D (wS ad cy) post (some .long) 0 0) : ∀ (n_ : Nat) (x1 : Int32) (x2 : Int32) (x6 : Int64) (x8 : Int32) (x9 : Int32) (g : GS), vPlan_lossFrom_48 post n_ x1 x2 x6 x8 x9 g → J Γ D 10 0 0 (wS ad cy g) 48 [(0, .ref (ad 12)), (1, .int x1), (2, .int x2), (6, .long x6), (8, .int x8), (9, .int x9)] [] := by
  have hinX4 : ∀ w ∈ wsX40, w ∈ wsX4_lossFrom := fun w h => List.mem_cons_of_mem _ (List.mem_append_left _ (List.mem_append_left _ (List.mem_append_right _ h)))
  have hinX6 : ∀ w ∈ wsX60, w ∈ wsX4_lossFrom := fun w h => List.mem_cons_of_mem _ (List.mem_append_left _ (List.mem_append_right _ h))
  intro n_
  induction n_ with
  | zero => intro x1 x2 x6 x8 x9 g hv; exact False.elim hv
  | succ k_ ih =>
    intro x1 x2 x6 x8 x9 g hv
    unfold vPlan_lossFrom_48 at hv
    refine j_iload hC dX4_lossFrom_48 5 rfl ?_
    refine j_aload_n (i := 0) hC dX4_lossFrom_50 rfl 0 rfl ?_
    refine j_get (C := RX4) (T := TX4) (N := 7) (v := .ref (ad 5)) hC hinX4 12 (wS_c12 ad cy _) rfl 0 (by decide) (mw 2 rfl) rfl rfl dX4_lossFrom_51 ?_
    refine j_get (C := RX6) (T := TX6) (N := 4) (v := .int (z_ssize g)) hC hinX6 5 (wS_c5 ad cy _) rfl 3 (by decide) (mw 3 rfl) rfl rfl dX4_lossFrom_54 ?_
    refine j_icmp_ge (tgt := 116) hC dX4_lossFrom_57 (by decide) (fun h_ => ?_) (fun h_ => ?_)
    · have hv := hv.1 h_
      refine j_lload hC dX4_lossFrom_116 3 rfl ?_
      exact j_lret hC hQ dX4_lossFrom_118 rfl hv
    · have hv := hv.2 h_
      refine j_aload_n (i := 0) hC dX4_lossFrom_60 rfl 0 rfl ?_
      refine j_get (C := RX4) (T := TX4) (N := 7) (v := .ref (ad 5)) hC hinX4 12 (wS_c12 ad cy _) rfl 0 (by decide) (mw 2 rfl) rfl rfl dX4_lossFrom_61 ?_
      refine j_get (C := RX6) (T := TX6) (N := 4) (v := .ref (ad 8)) hC hinX6 5 (wS_c5 ad cy _) rfl 2 (by decide) (mw 4 rfl) rfl rfl dX4_lossFrom_64 ?_
      refine j_iload_n (i := 1) hC dX4_lossFrom_67 rfl 1 rfl ?_
      have hb68 := hv.1
      have hv := hv.2
      refine j_aald (v := .ref (ad (41 + x1.toNatClampNeg))) hC 8 3 (wS_c8 ad cy _) rfl rfl hb68 (jrow ad 41 (j := x1.toNatClampNeg) (jlt hb68)) dX4_lossFrom_68 ?_
      refine j_iload hC dX4_lossFrom_69 5 rfl ?_
      have hb71 := hv.1
      have hv := hv.2
      refine j_iald (v := ((z_heads g) x1.toNatClampNeg x9.toNatClampNeg)) hC _ 0 (wS_r_heads ad cy _ (jlt hb68)) rfl hb71 rfl dX4_lossFrom_71 ?_
      refine j_iload_n (i := 2) hC dX4_lossFrom_72 rfl 2 rfl ?_
      refine j_icmp_ne (tgt := 110) hC dX4_lossFrom_73 (by decide) (fun h_ => ?_) (fun h_ => ?_)
      · have hv := hv.1 h_
        exact j_lv [0, 1, 2, 3, 4, 5] rfl (lPlan_lossFrom_110 hC hQ (K48 := fun x1 x2 x6 x8 x9 g => vPlan_lossFrom_48 post k_ x1 x2 x6 x8 x9 g) (fun _ _ _ _ _ _ h_ => ih _ _ _ _ _ _ h_) _ _ _ _ _ _ hv)
      · have hv := hv.2 h_
        refine j_aload_n (i := 0) hC dX4_lossFrom_76 rfl 0 rfl ?_
        refine j_get (C := RX4) (T := TX4) (N := 7) (v := .ref (ad 5)) hC hinX4 12 (wS_c12 ad cy _) rfl 0 (by decide) (mw 2 rfl) rfl rfl dX4_lossFrom_77 ?_
        refine j_get (C := RX6) (T := TX6) (N := 4) (v := .ref (ad 8)) hC hinX6 5 (wS_c5 ad cy _) rfl 2 (by decide) (mw 4 rfl) rfl rfl dX4_lossFrom_80 ?_
        refine j_iload_n (i := 1) hC dX4_lossFrom_83 rfl 1 rfl ?_
        refine j_iconst (v := 1) hC dX4_lossFrom_84 (by decide) ?_
        refine j_iadd hC dX4_lossFrom_85 ?_
        have hb86 := hv.1
        have hv := hv.2
        refine j_aald (v := .ref (ad (41 + (x1 + (1 : Int32)).toNatClampNeg))) hC 8 3 (wS_c8 ad cy _) rfl rfl hb86 (jrow ad 41 (j := (x1 + (1 : Int32)).toNatClampNeg) (jlt hb86)) dX4_lossFrom_86 ?_
        refine j_iload hC dX4_lossFrom_87 5 rfl ?_
        have hb89 := hv.1
        have hv := hv.2
        refine j_iald (v := ((z_heads g) ((x1 + (1 : Int32)).toNatClampNeg) x9.toNatClampNeg)) hC _ 0 (wS_r_heads ad cy _ (jlt hb86)) rfl hb89 rfl dX4_lossFrom_89 ?_
        refine j_iload hC dX4_lossFrom_90 5 rfl ?_
        refine j_icmp_ne (tgt := 110) hC dX4_lossFrom_92 (by decide) (fun h_ => ?_) (fun h_ => ?_)
        · have hv := hv.1 h_
          exact j_lv [0, 1, 2, 3, 4, 5] rfl (lPlan_lossFrom_110 hC hQ (K48 := fun x1 x2 x6 x8 x9 g => vPlan_lossFrom_48 post k_ x1 x2 x6 x8 x9 g) (fun _ _ _ _ _ _ h_ => ih _ _ _ _ _ _ h_) _ _ _ _ _ _ hv)
        · have hv := hv.2 h_
          refine j_lload hC dX4_lossFrom_95 3 rfl ?_
          refine j_aload_n (i := 0) hC dX4_lossFrom_97 rfl 0 rfl ?_
          refine j_get (C := RX4) (T := TX4) (N := 7) (v := .ref (ad 15)) hC hinX4 12 (wS_c12 ad cy _) rfl 4 (by decide) (mw 5 rfl) rfl rfl dX4_lossFrom_98 ?_
          refine j_iload hC dX4_lossFrom_101 5 rfl ?_
          have hb103 := hv.1
          have hv := hv.2
          refine j_aald (v := .ref (ad (65 + x9.toNatClampNeg))) hC 15 4 (wS_c15 ad cy _) rfl rfl hb103 (jrow ad 65 (j := x9.toNatClampNeg) (jlt hb103)) dX4_lossFrom_103 ?_
          refine j_iload hC dX4_lossFrom_104 4 rfl ?_
          have hb106 := hv.1
          have hv := hv.2
          refine j_lald (v := ((z_then g) x9.toNatClampNeg x8.toNatClampNeg)) hC _ 1 (wS_r_then ad cy _ (jlt hb103)) rfl hb106 rfl dX4_lossFrom_106 ?_
          refine j_ladd hC dX4_lossFrom_107 ?_
          refine j_lstore (lv' := [(6, .long (x6 + ((z_then g) x9.toNatClampNeg x8.toNatClampNeg))), (0, .ref (ad 12)), (1, .int x1), (2, .int x2), (8, .int x8), (9, .int x9)]) hC dX4_lossFrom_108 (by decide) rfl ?_
          exact j_lv [1, 2, 3, 0, 4, 5] rfl (lPlan_lossFrom_110 hC hQ (K48 := fun x1 x2 x6 x8 x9 g => vPlan_lossFrom_48 post k_ x1 x2 x6 x8 x9 g) (fun _ _ _ _ _ _ h_ => ih _ _ _ _ _ _ h_) _ _ _ _ _ _ hv)
set_option maxHeartbeats 4000000 in
set_option maxRecDepth 100000 in
theorem cPlan_lossFrom {l : Launch} {D : va_G} {ad : Nat → Nat} {cy : Nat → ClassId} {g : GS} {a1 : Int32} {a2 : Int32} {a3 : Int32} {a4 : Int32} {a5 : Int32} {post : Int64 → GS → Prop} (hv : vPlan_lossFrom g a1 a2 a3 a4 a5 post) : jMl l yX4_lossFrom wsX4_lossFrom rPlan_lossFrom D (tyS cy) [.ref (ad 12), .int a1, .int a2, .int a3, .int a4, .int a5] (wS ad cy g) (wS ad cy) post 0 0 := by
  refine j_metl (cc := cX4_lossFrom) (nL := 10) (rt := (some .long)) (by decide) (Nat.le_of_ble_eq_true rfl) ?_
  intro Γ hC hQ _
  have hC : jC Γ l rPlan_lossFrom D 10 RX4 cX4_lossFrom wsX4_lossFrom (tyS cy) := hC
  have hinX4 : ∀ w ∈ wsX40, w ∈ wsX4_lossFrom := fun w h => List.mem_cons_of_mem _ (List.mem_append_left _ (List.mem_append_left _ (List.mem_append_right _ h)))
  have hinX6 : ∀ w ∈ wsX60, w ∈ wsX4_lossFrom := fun w h => List.mem_cons_of_mem _ (List.mem_append_left _ (List.mem_append_right _ h))
  refine j_lv (lv' := [(0, .ref (ad 12)), (1, .int a1), (2, .int a2), (3, .int a3), (4, .int a4), (5, .int a5)]) [0, 1, 2, 3, 4, 5] rfl ?_
  unfold vPlan_lossFrom at hv
  refine j_iload_n (i := 3) hC dX4_lossFrom_0 rfl 3 rfl ?_
  refine j_i2l hC dX4_lossFrom_1 ?_
  refine j_aload_n (i := 0) hC dX4_lossFrom_2 rfl 0 rfl ?_
  refine j_get (C := RX4) (T := TX4) (N := 7) (v := .ref (ad 9)) hC hinX4 12 (wS_c12 ad cy _) rfl 1 (by decide) (mw 1 rfl) rfl rfl dX4_lossFrom_3 ?_
  refine j_iload_n (i := 2) hC dX4_lossFrom_6 rfl 2 rfl ?_
  refine j_iload_n (i := 1) hC dX4_lossFrom_7 rfl 1 rfl ?_
  refine j_iload hC dX4_lossFrom_8 4 rfl ?_
  refine j_iload hC dX4_lossFrom_10 5 rfl ?_
  refine j_callV_i (C := RX0) (As := [.int a2, .int a1, .int a4, .int a5]) (rest := [.long (a3.toInt64)]) (b := (ad 9)) hC (cBarrier_lost hv) 4 gX4_lossFrom_X0_lost rfl rfl rfl ⟨Nat.le_of_ble_eq_true rfl, Nat.le_of_ble_eq_true rfl⟩ hdBarrier_lost rfl (wS_c9 ad cy _) rfl rfl (Nat.le_of_ble_eq_true rfl) ⟨Nat.zero_le _, Nat.zero_le _⟩ dX4_lossFrom_12 (fun r12 g12 hv => ?_)
  refine j_i2l hC dX4_lossFrom_15 ?_
  refine j_lmul hC dX4_lossFrom_16 ?_
  refine j_lstore (lv' := [(6, .long ((a3.toInt64) * (r12.toInt64))), (0, .ref (ad 12)), (1, .int a1), (2, .int a2), (3, .int a3), (4, .int a4), (5, .int a5)]) hC dX4_lossFrom_17 (by decide) rfl ?_
  refine j_iload_n (i := 1) hC dX4_lossFrom_19 rfl 2 rfl ?_
  refine j_bipush (v := 7) hC dX4_lossFrom_20 (by decide) ?_
  refine j_icmp_ne (tgt := 28) hC dX4_lossFrom_22 (by decide) (fun h_ => ?_) (fun h_ => ?_)
  · have hv := hv.1 h_
    refine j_aload_n (i := 0) hC dX4_lossFrom_28 rfl 1 rfl ?_
    refine j_get (C := RX4) (T := TX4) (N := 7) (v := .ref (ad 9)) hC hinX4 12 (wS_c12 ad cy _) rfl 1 (by decide) (mw 1 rfl) rfl rfl dX4_lossFrom_29 ?_
    refine j_iload hC dX4_lossFrom_32 5 rfl ?_
    refine j_iload hC dX4_lossFrom_34 6 rfl ?_
    refine j_callV_i (C := RX0) (As := [.int a4, .int a5]) (rest := []) (b := (ad 9)) hC (cBarrier_stands hv) 2 gX4_lossFrom_X0_stands rfl rfl rfl ⟨Nat.le_of_ble_eq_true rfl, Nat.le_of_ble_eq_true rfl⟩ hdBarrier_stands rfl (wS_c9 ad cy _) rfl rfl (Nat.le_of_ble_eq_true rfl) ⟨Nat.zero_le _, Nat.zero_le _⟩ dX4_lossFrom_36 (fun r36 g36 hv => ?_)
    refine j_iload_n (i := 1) hC dX4_lossFrom_39 rfl 2 rfl ?_
    refine j_callS_i (As := [.int r36, .int a1]) (rest := []) hC (cBarrier_next hv) 2 gX4_lossFrom_X0_next rfl rfl rfl ⟨Nat.le_of_ble_eq_true rfl, Nat.le_of_ble_eq_true rfl⟩ hdBarrier_next.2 rfl rfl (Nat.le_of_ble_eq_true rfl) ⟨Nat.zero_le _, Nat.zero_le _⟩ dX4_lossFrom_40 (fun r40 g40 hv => ?_)
    refine j_istore (lv' := [(8, .int r40), (6, .long ((a3.toInt64) * (r12.toInt64))), (0, .ref (ad 12)), (1, .int a1), (2, .int a2), (3, .int a3), (4, .int a4), (5, .int a5)]) hC dX4_lossFrom_43 (by decide) rfl ?_
    refine j_iload_n (i := 2) hC dX4_lossFrom_45 rfl 4 rfl ?_
    refine j_istore (lv' := [(9, .int a2), (8, .int r40), (6, .long ((a3.toInt64) * (r12.toInt64))), (0, .ref (ad 12)), (1, .int a1), (2, .int a2), (3, .int a3), (4, .int a4), (5, .int a5)]) hC dX4_lossFrom_46 (by decide) rfl ?_
    obtain ⟨n_, hv⟩ := hv
    exact j_lv [3, 4, 5, 2, 1, 0] rfl (lPlan_lossFrom_48 hC hQ n_ _ _ _ _ _ _ hv)
  · have hv := hv.2 h_
    refine j_lload hC dX4_lossFrom_25 0 rfl ?_
    exact j_lret hC hQ dX4_lossFrom_27 rfl hv
theorem hdPlan_decideGroup : yX4_decideGroup.cls = RX4 ∧ yX4_decideGroup.cls ≠ "java/lang/invoke/MethodHandle" ∧ yX4_decideGroup.cls ≠ "java/lang/invoke/VarHandle" ∧ (parseMethodDescriptor yX4_decideGroup.desc).map (fun d => d.parameters.length) = some 2 := by decide +kernel
abbrev rPlan_decideGroup : Room := { frames := 4, cells := 0, slots := 0, locals := 103 }
def vPlan_decideGroup_81 (post : GS → Prop) (K13 : Int32 → Int32 → Int32 → Int32 → GS → Prop) (x1 : Int32) (x2 : Int32) (x3 : Int32) (x4 : Int32) (x5 : Int64) (g : GS) : Prop :=
  (vp_in x2 8 ∧ (vp_in x4 15 ∧ (K13 x1 x2 x3 (x4 + (1 : Int32)) (sz_now g (va_up (z_now g) x2.toNatClampNeg (vp_updL ((z_now g) x2.toNatClampNeg) x4.toNatClampNeg x5))))))
def vPlan_decideGroup_13 (post : GS → Prop) : Nat → Int32 → Int32 → Int32 → Int32 → GS → Prop
  | 0, _, _, _, _, _ => False
  | k_ + 1, x1, x2, x3, x4, g =>
  ((((7 : Int32) + x1) ≤ x4 → post g) ∧ (¬ ((7 : Int32) + x1) ≤ x4 → (vPlan_lossFrom g x1 x2 x3 x4 (0 : Int32) (fun r29 g29 => (vBarrier_mayBeTold g29 x4 (fun r36 g36 => ((r36 = (0 : Int32) → (vPlan_decideGroup_81 post (fun x1 x2 x3 x4 g => vPlan_decideGroup_13 post k_ x1 x2 x3 x4 g) x1 x2 x3 x4 r29 g36)) ∧ (¬ r36 = (0 : Int32) → (vPlan_lossFrom g36 x1 x2 x3 x4 (1 : Int32) (fun r49 g49 => ((r29 ≤ r49 → (vPlan_decideGroup_81 post (fun x1 x2 x3 x4 g => vPlan_decideGroup_13 post k_ x1 x2 x3 x4 g) x1 x2 x3 x4 r29 g49)) ∧ (¬ r29 ≤ r49 → (vp_in x1 8 ∧ (vp_in x2 8 ∧ (vp_in x2 8 ∧ (vPlan_decideGroup_81 post (fun x1 x2 x3 x4 g => vPlan_decideGroup_13 post k_ x1 x2 x3 x4 g) x1 x2 x3 x4 r49 (sz_orders g49 (va_up (z_orders g49) x1.toNatClampNeg (upd ((z_orders g49) x1.toNatClampNeg) x2.toNatClampNeg (((z_orders g49) x1.toNatClampNeg x2.toNatClampNeg) ||| ((1 : Int32) <<< (x4 &&& 31))))))))))))))))))))))
def vPlan_decideGroup (g : GS) (a1 : Int32) (a2 : Int32) (post : GS → Prop) : Prop :=
  (vSea_weightOfGroup g a1 a2 (fun r6 g6 => (∃ n_ : Nat, vPlan_decideGroup_13 post n_ a1 a2 r6 (0 : Int32) g6)))
set_option maxHeartbeats 4000000 in
set_option maxRecDepth 100000 in
theorem lPlan_decideGroup_81 {Γ : jG} {l : Launch} {D : va_G} {ad : Nat → Nat} {cy : Nat → ClassId} {post : GS → Prop} (hC : jC Γ l rPlan_decideGroup D 9 RX4 cX4_decideGroup wsX4_decideGroup (tyS cy)) (hQ : jQv Γ D (wS ad cy) post none 0 0) {K13 : Int32 → Int32 → Int32 → Int32 → GS → Prop} (hK13 : ∀ (x1 : Int32) (x2 : Int32) (x3 : Int32) (x4 : Int32) (g : GS), K13 x1 x2 x3 x4 g → J Γ D 9 0 0 (wS ad cy g) 13 [(0, .ref (ad 12)), (1, .int x1), (2, .int x2), (3, .int x3), (4, .int x4)] []) : ∀ (x1 : Int32) (x2 : Int32) (x3 : Int32) (x4 : Int32) (x5 : Int64) (g : GS), vPlan_decideGroup_81 post K13 x1 x2 x3 x4 x5 g → J Γ D 9 0 0 (wS ad cy g) 81 [(0, .ref (ad 12)), (1, .int x1), (2, .int x2), (3, .int x3), (4, .int x4), (5, .long x5)] [] := by
  have hinX4 : ∀ w ∈ wsX40, w ∈ wsX4_decideGroup := fun w h => List.mem_cons_of_mem _ (List.mem_append_left _ (List.mem_append_left _ (List.mem_append_right _ h)))
  intro x1 x2 x3 x4 x5 g hv
  unfold vPlan_decideGroup_81 at hv
  refine j_aload_n (i := 0) hC dX4_decideGroup_81 rfl 0 rfl ?_
  refine j_get (C := RX4) (T := TX4) (N := 7) (v := .ref (ad 14)) hC hinX4 12 (wS_c12 ad cy _) rfl 3 (by decide) (mw 3 rfl) rfl rfl dX4_decideGroup_82 ?_
  refine j_iload_n (i := 2) hC dX4_decideGroup_85 rfl 2 rfl ?_
  have hb86 := hv.1
  have hv := hv.2
  refine j_aald (v := .ref (ad (57 + x2.toNatClampNeg))) hC 14 4 (wS_c14 ad cy _) rfl rfl hb86 (jrow ad 57 (j := x2.toNatClampNeg) (jlt hb86)) dX4_decideGroup_86 ?_
  refine j_iload hC dX4_decideGroup_87 4 rfl ?_
  refine j_lload hC dX4_decideGroup_89 5 rfl ?_
  have hb91 := hv.1
  have hv := hv.2
  refine j_last hC _ 1 (wS_r_now ad cy _ (jlt hb86)) rfl hb91 (wS_s_now ad cy _ (jlt hb86) _) dX4_decideGroup_91 ?_
  refine j_iinc (k := 4) (v := (x4 + (1 : Int32))) (lv' := [(4, .int (x4 + (1 : Int32))), (0, .ref (ad 12)), (1, .int x1), (2, .int x2), (3, .int x3), (5, .long x5)]) hC dX4_decideGroup_92 rfl rfl (by decide) rfl ?_
  refine j_goto (tgt := 13) hC dX4_decideGroup_95 (by decide) ?_
  exact j_lv [1, 2, 3, 4, 0] rfl (hK13 _ _ _ _ _ hv)
set_option maxHeartbeats 4000000 in
set_option maxRecDepth 100000 in
theorem lPlan_decideGroup_13 {Γ : jG} {l : Launch} {D : va_G} {ad : Nat → Nat} {cy : Nat → ClassId} {post : GS → Prop} (hC : jC Γ l rPlan_decideGroup D 9 RX4 cX4_decideGroup wsX4_decideGroup (tyS cy)) (hQ : jQv Γ D (wS ad cy) post none 0 0) : ∀ (n_ : Nat) (x1 : Int32) (x2 : Int32) (x3 : Int32) (x4 : Int32) (g : GS), vPlan_decideGroup_13 post n_ x1 x2 x3 x4 g → J Γ D 9 0 0 (wS ad cy g) 13 [(0, .ref (ad 12)), (1, .int x1), (2, .int x2), (3, .int x3), (4, .int x4)] [] := by
  have hinX4 : ∀ w ∈ wsX40, w ∈ wsX4_decideGroup := fun w h => List.mem_cons_of_mem _ (List.mem_append_left _ (List.mem_append_left _ (List.mem_append_right _ h)))
  intro n_
  induction n_ with
  | zero => intro x1 x2 x3 x4 g hv; exact False.elim hv
  | succ k_ ih =>
    intro x1 x2 x3 x4 g hv
    unfold vPlan_decideGroup_13 at hv
    refine j_iload hC dX4_decideGroup_13 4 rfl ?_
    refine j_bipush (v := 7) hC dX4_decideGroup_15 (by decide) ?_
    refine j_iload_n (i := 1) hC dX4_decideGroup_17 rfl 1 rfl ?_
    refine j_iadd hC dX4_decideGroup_18 ?_
    refine j_icmp_ge (tgt := 98) hC dX4_decideGroup_19 (by decide) (fun h_ => ?_) (fun h_ => ?_)
    · have hv := hv.1 h_
      exact j_vret hC hQ dX4_decideGroup_98 rfl hv
    · have hv := hv.2 h_
      refine j_aload_n (i := 0) hC dX4_decideGroup_22 rfl 0 rfl ?_
      refine j_iload_n (i := 1) hC dX4_decideGroup_23 rfl 1 rfl ?_
      refine j_iload_n (i := 2) hC dX4_decideGroup_24 rfl 2 rfl ?_
      refine j_iload_n (i := 3) hC dX4_decideGroup_25 rfl 3 rfl ?_
      refine j_iload hC dX4_decideGroup_26 4 rfl ?_
      refine j_iconst (v := 0) hC dX4_decideGroup_28 (by decide) ?_
      refine j_callV_l (C := RX4) (As := [.int x1, .int x2, .int x3, .int x4, .int (0 : Int32)]) (rest := []) (b := (ad 12)) hC (cPlan_lossFrom hv) 5 gX4_decideGroup_X4_lossFrom rfl rfl rfl ⟨Nat.le_of_ble_eq_true rfl, Nat.le_of_ble_eq_true rfl⟩ hdPlan_lossFrom rfl (wS_c12 ad cy _) rfl rfl (Nat.le_of_ble_eq_true rfl) ⟨Nat.zero_le _, Nat.zero_le _⟩ dX4_decideGroup_29 (fun r29 g29 hv => ?_)
      refine j_lstore (lv' := [(5, .long r29), (0, .ref (ad 12)), (1, .int x1), (2, .int x2), (3, .int x3), (4, .int x4)]) hC dX4_decideGroup_32 (by decide) rfl ?_
      refine j_iload hC dX4_decideGroup_34 5 rfl ?_
      refine j_callS_i (As := [.int x4]) (rest := []) hC (cBarrier_mayBeTold hv) 1 gX4_decideGroup_X0_mayBeTold rfl rfl rfl ⟨Nat.le_of_ble_eq_true rfl, Nat.le_of_ble_eq_true rfl⟩ hdBarrier_mayBeTold.2 rfl rfl (Nat.le_of_ble_eq_true rfl) ⟨Nat.zero_le _, Nat.zero_le _⟩ dX4_decideGroup_36 (fun r36 g36 hv => ?_)
      refine j_if_eq (tgt := 81) hC dX4_decideGroup_39 (by decide) (fun h_ => ?_) (fun h_ => ?_)
      · have hv := hv.1 h_
        exact j_lv [1, 2, 3, 4, 5, 0] rfl (lPlan_decideGroup_81 hC hQ (K13 := fun x1 x2 x3 x4 g => vPlan_decideGroup_13 post k_ x1 x2 x3 x4 g) (fun _ _ _ _ _ h_ => ih _ _ _ _ _ h_) _ _ _ _ _ _ hv)
      · have hv := hv.2 h_
        refine j_aload_n (i := 0) hC dX4_decideGroup_42 rfl 1 rfl ?_
        refine j_iload_n (i := 1) hC dX4_decideGroup_43 rfl 2 rfl ?_
        refine j_iload_n (i := 2) hC dX4_decideGroup_44 rfl 3 rfl ?_
        refine j_iload_n (i := 3) hC dX4_decideGroup_45 rfl 4 rfl ?_
        refine j_iload hC dX4_decideGroup_46 5 rfl ?_
        refine j_iconst (v := 1) hC dX4_decideGroup_48 (by decide) ?_
        refine j_callV_l (C := RX4) (As := [.int x1, .int x2, .int x3, .int x4, .int (1 : Int32)]) (rest := []) (b := (ad 12)) hC (cPlan_lossFrom hv) 5 gX4_decideGroup_X4_lossFrom rfl rfl rfl ⟨Nat.le_of_ble_eq_true rfl, Nat.le_of_ble_eq_true rfl⟩ hdPlan_lossFrom rfl (wS_c12 ad cy _) rfl rfl (Nat.le_of_ble_eq_true rfl) ⟨Nat.zero_le _, Nat.zero_le _⟩ dX4_decideGroup_49 (fun r49 g49 hv => ?_)
        refine j_lstore (lv' := [(7, .long r49), (5, .long r29), (0, .ref (ad 12)), (1, .int x1), (2, .int x2), (3, .int x3), (4, .int x4)]) hC dX4_decideGroup_52 (by decide) rfl ?_
        refine j_lload hC dX4_decideGroup_54 0 rfl ?_
        refine j_lload hC dX4_decideGroup_56 1 rfl ?_
        refine j_lcmp_ge (tgt := 81) hC dX4_decideGroup_58 dX4_decideGroup_59 (by decide) (fun h_ => ?_) (fun h_ => ?_)
        · have hv := hv.1 h_
          exact j_lv [2, 3, 4, 5, 6, 1] rfl (lPlan_decideGroup_81 hC hQ (K13 := fun x1 x2 x3 x4 g => vPlan_decideGroup_13 post k_ x1 x2 x3 x4 g) (fun _ _ _ _ _ h_ => ih _ _ _ _ _ h_) _ _ _ _ _ _ hv)
        · have hv := hv.2 h_
          refine j_lload hC dX4_decideGroup_62 0 rfl ?_
          refine j_lstore (lv' := [(5, .long r49), (7, .long r49), (0, .ref (ad 12)), (1, .int x1), (2, .int x2), (3, .int x3), (4, .int x4)]) hC dX4_decideGroup_64 (by decide) rfl ?_
          refine j_aload_n (i := 0) hC dX4_decideGroup_66 rfl 2 rfl ?_
          refine j_get (C := RX4) (T := TX4) (N := 7) (v := .ref (ad 13)) hC hinX4 12 (wS_c12 ad cy _) rfl 2 (by decide) (mw 2 rfl) rfl rfl dX4_decideGroup_67 ?_
          refine j_iload_n (i := 1) hC dX4_decideGroup_70 rfl 3 rfl ?_
          have hb71 := hv.1
          have hv := hv.2
          refine j_aald (v := .ref (ad (49 + x1.toNatClampNeg))) hC 13 3 (wS_c13 ad cy _) rfl rfl hb71 (jrow ad 49 (j := x1.toNatClampNeg) (jlt hb71)) dX4_decideGroup_71 ?_
          refine j_iload_n (i := 2) hC dX4_decideGroup_72 rfl 4 rfl ?_
          refine j_dup2_11 hC dX4_decideGroup_73 rfl rfl ?_
          have hb74 := hv.1
          have hv := hv.2
          refine j_iald (v := ((z_orders g49) x1.toNatClampNeg x2.toNatClampNeg)) hC _ 0 (wS_r_orders ad cy _ (jlt hb71)) rfl hb74 rfl dX4_decideGroup_74 ?_
          refine j_iconst (v := 1) hC dX4_decideGroup_75 (by decide) ?_
          refine j_iload hC dX4_decideGroup_76 6 rfl ?_
          refine j_ishl hC dX4_decideGroup_78 ?_
          refine j_ior hC dX4_decideGroup_79 ?_
          have hb80 := hv.1
          have hv := hv.2
          refine j_iast hC _ 0 (wS_r_orders ad cy _ (jlt hb71)) rfl hb80 (wS_s_orders ad cy _ (jlt hb71) _) dX4_decideGroup_80 ?_
          exact j_lv [2, 3, 4, 5, 6, 0] rfl (lPlan_decideGroup_81 hC hQ (K13 := fun x1 x2 x3 x4 g => vPlan_decideGroup_13 post k_ x1 x2 x3 x4 g) (fun _ _ _ _ _ h_ => ih _ _ _ _ _ h_) _ _ _ _ _ _ hv)
set_option maxHeartbeats 4000000 in
set_option maxRecDepth 100000 in
theorem cPlan_decideGroup {l : Launch} {D : va_G} {ad : Nat → Nat} {cy : Nat → ClassId} {g : GS} {a1 : Int32} {a2 : Int32} {post : GS → Prop} (hv : vPlan_decideGroup g a1 a2 post) : jMv l yX4_decideGroup wsX4_decideGroup rPlan_decideGroup D (tyS cy) [.ref (ad 12), .int a1, .int a2] (wS ad cy g) (wS ad cy) post 0 0 := by
  refine j_metv (cc := cX4_decideGroup) (nL := 9) (rt := none) (by decide) (Nat.le_of_ble_eq_true rfl) ?_
  intro Γ hC hQ _
  have hC : jC Γ l rPlan_decideGroup D 9 RX4 cX4_decideGroup wsX4_decideGroup (tyS cy) := hC
  have hinX4 : ∀ w ∈ wsX40, w ∈ wsX4_decideGroup := fun w h => List.mem_cons_of_mem _ (List.mem_append_left _ (List.mem_append_left _ (List.mem_append_right _ h)))
  refine j_lv (lv' := [(0, .ref (ad 12)), (1, .int a1), (2, .int a2)]) [0, 1, 2] rfl ?_
  unfold vPlan_decideGroup at hv
  refine j_aload_n (i := 0) hC dX4_decideGroup_0 rfl 0 rfl ?_
  refine j_get (C := RX4) (T := TX4) (N := 7) (v := .ref (ad 5)) hC hinX4 12 (wS_c12 ad cy _) rfl 0 (by decide) (mw 1 rfl) rfl rfl dX4_decideGroup_1 ?_
  refine j_iload_n (i := 1) hC dX4_decideGroup_4 rfl 1 rfl ?_
  refine j_iload_n (i := 2) hC dX4_decideGroup_5 rfl 2 rfl ?_
  refine j_callV_i (C := RX6) (As := [.int a1, .int a2]) (rest := []) (b := (ad 5)) hC (cSea_weightOfGroup hv) 2 gX4_decideGroup_X6_weightOfGroup rfl rfl rfl ⟨Nat.le_of_ble_eq_true rfl, Nat.le_of_ble_eq_true rfl⟩ hdSea_weightOfGroup rfl (wS_c5 ad cy _) rfl rfl (Nat.le_of_ble_eq_true rfl) ⟨Nat.zero_le _, Nat.zero_le _⟩ dX4_decideGroup_6 (fun r6 g6 hv => ?_)
  refine j_istore_n (i := 3) (lv' := [(3, .int r6), (0, .ref (ad 12)), (1, .int a1), (2, .int a2)]) hC dX4_decideGroup_9 rfl (by decide) rfl ?_
  refine j_iconst (v := 0) hC dX4_decideGroup_10 (by decide) ?_
  refine j_istore (lv' := [(4, .int (0 : Int32)), (3, .int r6), (0, .ref (ad 12)), (1, .int a1), (2, .int a2)]) hC dX4_decideGroup_11 (by decide) rfl ?_
  obtain ⟨n_, hv⟩ := hv
  exact j_lv [2, 3, 4, 1, 0] rfl (lPlan_decideGroup_13 hC hQ n_ _ _ _ _ _ hv)
theorem hdPlan_decideHour : yX4_decideHour.cls = RX4 ∧ yX4_decideHour.cls ≠ "java/lang/invoke/MethodHandle" ∧ yX4_decideHour.cls ≠ "java/lang/invoke/VarHandle" ∧ (parseMethodDescriptor yX4_decideHour.desc).map (fun d => d.parameters.length) = some 1 := by decide +kernel
abbrev rPlan_decideHour : Room := { frames := 5, cells := 0, slots := 0, locals := 131 }
def vPlan_decideHour_81 (post : GS → Prop) (K40 : Int32 → Int32 → GS → Prop) (x1 : Int32) (x2 : Int32) (g : GS) : Prop :=
  (K40 x1 (x2 + (1 : Int32)) g)
def vPlan_decideHour_40 (post : GS → Prop) : Nat → Int32 → Int32 → GS → Prop
  | 0, _, _, _ => False
  | k_ + 1, x1, x2, g =>
  (((z_ssize g) ≤ x2 → post g) ∧ (¬ (z_ssize g) ≤ x2 → (vp_in x1 8 ∧ (vp_in x2 8 ∧ (vp_in x1 8 ∧ (vp_in x2 8 ∧ ((¬ ((z_heads g) x1.toNatClampNeg x2.toNatClampNeg) = x2 → (vPlan_decideHour_81 post (fun x1 x2 g => vPlan_decideHour_40 post k_ x1 x2 g) x1 x2 (sz_orders g (va_up (z_orders g) x1.toNatClampNeg (upd ((z_orders g) x1.toNatClampNeg) x2.toNatClampNeg (0 : Int32)))))) ∧ (((z_heads g) x1.toNatClampNeg x2.toNatClampNeg) = x2 → (vPlan_decideGroup (sz_orders g (va_up (z_orders g) x1.toNatClampNeg (upd ((z_orders g) x1.toNatClampNeg) x2.toNatClampNeg (0 : Int32)))) x1 x2 (fun g78 => (vPlan_decideHour_81 post (fun x1 x2 g => vPlan_decideHour_40 post k_ x1 x2 g) x1 x2 g78)))))))))))
def vPlan_decideHour_38 (post : GS → Prop) (x1 : Int32) (g : GS) : Prop :=
  (∃ n_ : Nat, vPlan_decideHour_40 post n_ x1 (0 : Int32) g)
def vPlan_decideHour_2 (post : GS → Prop) : Nat → Int32 → Int32 → GS → Prop
  | 0, _, _, _ => False
  | k_ + 1, x1, x2, g =>
  (((z_ssize g) ≤ x2 → (vPlan_decideHour_38 post x1 g)) ∧ (¬ (z_ssize g) ≤ x2 → (vp_in x2 8 ∧ (vp_in x2 8 ∧ (¬ (0 : Int32) < 0 ∧ (¬ (0 : Int32) < 0 ∧ (¬ (15 : Int32) < 0 ∧ ((0 : Int32).toNatClampNeg + (15 : Int32).toNatClampNeg ≤ 15 ∧ ((0 : Int32).toNatClampNeg + (15 : Int32).toNatClampNeg ≤ 15 ∧ (vPlan_decideHour_2 post k_ x1 (x2 + (1 : Int32)) (sz_then g (va_up (z_then g) x2.toNatClampNeg (va_cpy ((z_now g) x2.toNatClampNeg) ((z_then g) x2.toNatClampNeg) (0 : Int32).toNatClampNeg (0 : Int32).toNatClampNeg (15 : Int32).toNatClampNeg)))))))))))))
def vPlan_decideHour (g : GS) (a1 : Int32) (post : GS → Prop) : Prop :=
  (∃ n_ : Nat, vPlan_decideHour_2 post n_ a1 (0 : Int32) g)
set_option maxHeartbeats 4000000 in
set_option maxRecDepth 100000 in
theorem lPlan_decideHour_81 {Γ : jG} {l : Launch} {D : va_G} {ad : Nat → Nat} {cy : Nat → ClassId} {post : GS → Prop} (hC : jC Γ l rPlan_decideHour D 3 RX4 cX4_decideHour wsX4_decideHour (tyS cy)) (hQ : jQv Γ D (wS ad cy) post none 0 0) {K40 : Int32 → Int32 → GS → Prop} (hK40 : ∀ (x1 : Int32) (x2 : Int32) (g : GS), K40 x1 x2 g → J Γ D 3 0 0 (wS ad cy g) 40 [(0, .ref (ad 12)), (1, .int x1), (2, .int x2)] []) : ∀ (x1 : Int32) (x2 : Int32) (g : GS), vPlan_decideHour_81 post K40 x1 x2 g → J Γ D 3 0 0 (wS ad cy g) 81 [(0, .ref (ad 12)), (1, .int x1), (2, .int x2)] [] := by
  have hinX4 : ∀ w ∈ wsX40, w ∈ wsX4_decideHour := fun w h => List.mem_cons_of_mem _ (List.mem_append_left _ (List.mem_append_left _ (List.mem_append_right _ h)))
  have hinX6 : ∀ w ∈ wsX60, w ∈ wsX4_decideHour := fun w h => List.mem_cons_of_mem _ (List.mem_append_left _ (List.mem_append_right _ h))
  intro x1 x2 g hv
  unfold vPlan_decideHour_81 at hv
  refine j_iinc (k := 2) (v := (x2 + (1 : Int32))) (lv' := [(2, .int (x2 + (1 : Int32))), (0, .ref (ad 12)), (1, .int x1)]) hC dX4_decideHour_81 rfl rfl (by decide) rfl ?_
  refine j_goto (tgt := 40) hC dX4_decideHour_84 (by decide) ?_
  exact j_lv [1, 2, 0] rfl (hK40 _ _ _ hv)
set_option maxHeartbeats 4000000 in
set_option maxRecDepth 100000 in
theorem lPlan_decideHour_40 {Γ : jG} {l : Launch} {D : va_G} {ad : Nat → Nat} {cy : Nat → ClassId} {post : GS → Prop} (hC : jC Γ l rPlan_decideHour D 3 RX4 cX4_decideHour wsX4_decideHour (tyS cy)) (hQ : jQv Γ D (wS ad cy) post none 0 0) : ∀ (n_ : Nat) (x1 : Int32) (x2 : Int32) (g : GS), vPlan_decideHour_40 post n_ x1 x2 g → J Γ D 3 0 0 (wS ad cy g) 40 [(0, .ref (ad 12)), (1, .int x1), (2, .int x2)] [] := by
  have hinX4 : ∀ w ∈ wsX40, w ∈ wsX4_decideHour := fun w h => List.mem_cons_of_mem _ (List.mem_append_left _ (List.mem_append_left _ (List.mem_append_right _ h)))
  have hinX6 : ∀ w ∈ wsX60, w ∈ wsX4_decideHour := fun w h => List.mem_cons_of_mem _ (List.mem_append_left _ (List.mem_append_right _ h))
  intro n_
  induction n_ with
  | zero => intro x1 x2 g hv; exact False.elim hv
  | succ k_ ih =>
    intro x1 x2 g hv
    unfold vPlan_decideHour_40 at hv
    refine j_iload_n (i := 2) hC dX4_decideHour_40 rfl 2 rfl ?_
    refine j_aload_n (i := 0) hC dX4_decideHour_41 rfl 0 rfl ?_
    refine j_get (C := RX4) (T := TX4) (N := 7) (v := .ref (ad 5)) hC hinX4 12 (wS_c12 ad cy _) rfl 0 (by decide) (mw 1 rfl) rfl rfl dX4_decideHour_42 ?_
    refine j_get (C := RX6) (T := TX6) (N := 4) (v := .int (z_ssize g)) hC hinX6 5 (wS_c5 ad cy _) rfl 3 (by decide) (mw 2 rfl) rfl rfl dX4_decideHour_45 ?_
    refine j_icmp_ge (tgt := 87) hC dX4_decideHour_48 (by decide) (fun h_ => ?_) (fun h_ => ?_)
    · have hv := hv.1 h_
      exact j_vret hC hQ dX4_decideHour_87 rfl hv
    · have hv := hv.2 h_
      refine j_aload_n (i := 0) hC dX4_decideHour_51 rfl 0 rfl ?_
      refine j_get (C := RX4) (T := TX4) (N := 7) (v := .ref (ad 13)) hC hinX4 12 (wS_c12 ad cy _) rfl 2 (by decide) (mw 9 rfl) rfl rfl dX4_decideHour_52 ?_
      refine j_iload_n (i := 1) hC dX4_decideHour_55 rfl 1 rfl ?_
      have hb56 := hv.1
      have hv := hv.2
      refine j_aald (v := .ref (ad (49 + x1.toNatClampNeg))) hC 13 3 (wS_c13 ad cy _) rfl rfl hb56 (jrow ad 49 (j := x1.toNatClampNeg) (jlt hb56)) dX4_decideHour_56 ?_
      refine j_iload_n (i := 2) hC dX4_decideHour_57 rfl 2 rfl ?_
      refine j_iconst (v := 0) hC dX4_decideHour_58 (by decide) ?_
      have hb59 := hv.1
      have hv := hv.2
      refine j_iast hC _ 0 (wS_r_orders ad cy _ (jlt hb56)) rfl hb59 (wS_s_orders ad cy _ (jlt hb56) _) dX4_decideHour_59 ?_
      refine j_aload_n (i := 0) hC dX4_decideHour_60 rfl 0 rfl ?_
      refine j_get (C := RX4) (T := TX4) (N := 7) (v := .ref (ad 5)) hC hinX4 12 (wS_c12 ad cy _) rfl 0 (by decide) (mw 1 rfl) rfl rfl dX4_decideHour_61 ?_
      refine j_get (C := RX6) (T := TX6) (N := 4) (v := .ref (ad 8)) hC hinX6 5 (wS_c5 ad cy _) rfl 2 (by decide) (mw 10 rfl) rfl rfl dX4_decideHour_64 ?_
      refine j_iload_n (i := 1) hC dX4_decideHour_67 rfl 1 rfl ?_
      have hb68 := hv.1
      have hv := hv.2
      refine j_aald (v := .ref (ad (41 + x1.toNatClampNeg))) hC 8 3 (wS_c8 ad cy _) rfl rfl hb68 (jrow ad 41 (j := x1.toNatClampNeg) (jlt hb68)) dX4_decideHour_68 ?_
      refine j_iload_n (i := 2) hC dX4_decideHour_69 rfl 2 rfl ?_
      have hb70 := hv.1
      have hv := hv.2
      refine j_iald (v := ((z_heads g) x1.toNatClampNeg x2.toNatClampNeg)) hC _ 0 (wS_r_heads ad cy _ (jlt hb68)) rfl hb70 rfl dX4_decideHour_70 ?_
      refine j_iload_n (i := 2) hC dX4_decideHour_71 rfl 2 rfl ?_
      refine j_icmp_ne (tgt := 81) hC dX4_decideHour_72 (by decide) (fun h_ => ?_) (fun h_ => ?_)
      · have hv := hv.1 h_
        exact j_lv [0, 1, 2] rfl (lPlan_decideHour_81 hC hQ (K40 := fun x1 x2 g => vPlan_decideHour_40 post k_ x1 x2 g) (fun _ _ _ h_ => ih _ _ _ h_) _ _ _ hv)
      · have hv := hv.2 h_
        refine j_aload_n (i := 0) hC dX4_decideHour_75 rfl 0 rfl ?_
        refine j_iload_n (i := 1) hC dX4_decideHour_76 rfl 1 rfl ?_
        refine j_iload_n (i := 2) hC dX4_decideHour_77 rfl 2 rfl ?_
        refine j_callV_v (C := RX4) (As := [.int x1, .int x2]) (rest := []) (b := (ad 12)) hC (cPlan_decideGroup hv) 2 gX4_decideHour_X4_decideGroup rfl rfl rfl ⟨Nat.le_of_ble_eq_true rfl, Nat.le_of_ble_eq_true rfl⟩ hdPlan_decideGroup rfl (wS_c12 ad cy _) rfl rfl (Nat.le_of_ble_eq_true rfl) ⟨Nat.zero_le _, Nat.zero_le _⟩ dX4_decideHour_78 (fun g78 hv => ?_)
        exact j_lv [0, 1, 2] rfl (lPlan_decideHour_81 hC hQ (K40 := fun x1 x2 g => vPlan_decideHour_40 post k_ x1 x2 g) (fun _ _ _ h_ => ih _ _ _ h_) _ _ _ hv)
set_option maxHeartbeats 4000000 in
set_option maxRecDepth 100000 in
theorem lPlan_decideHour_38 {Γ : jG} {l : Launch} {D : va_G} {ad : Nat → Nat} {cy : Nat → ClassId} {post : GS → Prop} (hC : jC Γ l rPlan_decideHour D 3 RX4 cX4_decideHour wsX4_decideHour (tyS cy)) (hQ : jQv Γ D (wS ad cy) post none 0 0) : ∀ (x1 : Int32) (g : GS), vPlan_decideHour_38 post x1 g → J Γ D 3 0 0 (wS ad cy g) 38 [(0, .ref (ad 12)), (1, .int x1)] [] := by
  have hinX4 : ∀ w ∈ wsX40, w ∈ wsX4_decideHour := fun w h => List.mem_cons_of_mem _ (List.mem_append_left _ (List.mem_append_left _ (List.mem_append_right _ h)))
  have hinX6 : ∀ w ∈ wsX60, w ∈ wsX4_decideHour := fun w h => List.mem_cons_of_mem _ (List.mem_append_left _ (List.mem_append_right _ h))
  intro x1 g hv
  unfold vPlan_decideHour_38 at hv
  refine j_iconst (v := 0) hC dX4_decideHour_38 (by decide) ?_
  refine j_istore_n (i := 2) (lv' := [(2, .int (0 : Int32)), (0, .ref (ad 12)), (1, .int x1)]) hC dX4_decideHour_39 rfl (by decide) rfl ?_
  obtain ⟨n_, hv⟩ := hv
  exact j_lv [1, 2, 0] rfl (lPlan_decideHour_40 hC hQ n_ _ _ _ hv)
set_option maxHeartbeats 4000000 in
set_option maxRecDepth 100000 in
theorem lPlan_decideHour_2 {Γ : jG} {l : Launch} {D : va_G} {ad : Nat → Nat} {cy : Nat → ClassId} {post : GS → Prop} (hC : jC Γ l rPlan_decideHour D 3 RX4 cX4_decideHour wsX4_decideHour (tyS cy)) (hQ : jQv Γ D (wS ad cy) post none 0 0) : ∀ (n_ : Nat) (x1 : Int32) (x2 : Int32) (g : GS), vPlan_decideHour_2 post n_ x1 x2 g → J Γ D 3 0 0 (wS ad cy g) 2 [(0, .ref (ad 12)), (1, .int x1), (2, .int x2)] [] := by
  have hinX4 : ∀ w ∈ wsX40, w ∈ wsX4_decideHour := fun w h => List.mem_cons_of_mem _ (List.mem_append_left _ (List.mem_append_left _ (List.mem_append_right _ h)))
  have hinX6 : ∀ w ∈ wsX60, w ∈ wsX4_decideHour := fun w h => List.mem_cons_of_mem _ (List.mem_append_left _ (List.mem_append_right _ h))
  intro n_
  induction n_ with
  | zero => intro x1 x2 g hv; exact False.elim hv
  | succ k_ ih =>
    intro x1 x2 g hv
    unfold vPlan_decideHour_2 at hv
    refine j_iload_n (i := 2) hC dX4_decideHour_2 rfl 2 rfl ?_
    refine j_aload_n (i := 0) hC dX4_decideHour_3 rfl 0 rfl ?_
    refine j_get (C := RX4) (T := TX4) (N := 7) (v := .ref (ad 5)) hC hinX4 12 (wS_c12 ad cy _) rfl 0 (by decide) (mw 1 rfl) rfl rfl dX4_decideHour_4 ?_
    refine j_get (C := RX6) (T := TX6) (N := 4) (v := .int (z_ssize g)) hC hinX6 5 (wS_c5 ad cy _) rfl 3 (by decide) (mw 2 rfl) rfl rfl dX4_decideHour_7 ?_
    refine j_icmp_ge (tgt := 38) hC dX4_decideHour_10 (by decide) (fun h_ => ?_) (fun h_ => ?_)
    · have hv := hv.1 h_
      exact j_lv [0, 1] rfl (lPlan_decideHour_38 hC hQ _ _ hv)
    · have hv := hv.2 h_
      refine j_aload_n (i := 0) hC dX4_decideHour_13 rfl 0 rfl ?_
      refine j_get (C := RX4) (T := TX4) (N := 7) (v := .ref (ad 14)) hC hinX4 12 (wS_c12 ad cy _) rfl 3 (by decide) (mw 3 rfl) rfl rfl dX4_decideHour_14 ?_
      refine j_iload_n (i := 2) hC dX4_decideHour_17 rfl 2 rfl ?_
      have hb18 := hv.1
      have hv := hv.2
      refine j_aald (v := .ref (ad (57 + x2.toNatClampNeg))) hC 14 4 (wS_c14 ad cy _) rfl rfl hb18 (jrow ad 57 (j := x2.toNatClampNeg) (jlt hb18)) dX4_decideHour_18 ?_
      refine j_iconst (v := 0) hC dX4_decideHour_19 (by decide) ?_
      refine j_aload_n (i := 0) hC dX4_decideHour_20 rfl 0 rfl ?_
      refine j_get (C := RX4) (T := TX4) (N := 7) (v := .ref (ad 15)) hC hinX4 12 (wS_c12 ad cy _) rfl 4 (by decide) (mw 4 rfl) rfl rfl dX4_decideHour_21 ?_
      refine j_iload_n (i := 2) hC dX4_decideHour_24 rfl 2 rfl ?_
      have hb25 := hv.1
      have hv := hv.2
      refine j_aald (v := .ref (ad (65 + x2.toNatClampNeg))) hC 15 4 (wS_c15 ad cy _) rfl rfl hb25 (jrow ad 65 (j := x2.toNatClampNeg) (jlt hb25)) dX4_decideHour_25 ?_
      refine j_iconst (v := 0) hC dX4_decideHour_26 (by decide) ?_
      refine j_bipush (v := 15) hC dX4_decideHour_27 (by decide) ?_
      have hy29_1 := hv.1
      have hv := hv.2
      have hy29_2 := hv.1
      have hv := hv.2
      have hy29_3 := hv.1
      have hv := hv.2
      have hy29_4 := hv.1
      have hv := hv.2
      have hy29_5 := hv.1
      have hv := hv.2
      refine j_copyl (ty := .long) hC _ _ 1 1 (mw 5 rfl) (mw 6 rfl) (mw 7 rfl) (mw 8 rfl) (wS_r_now ad cy _ (jlt hb18)) (wS_r_then ad cy _ (jlt hb25)) rfl rfl rfl hy29_1 hy29_2 hy29_3 hy29_4 hy29_5 (fun _ => rfl) (Nat.le_of_ble_eq_true rfl) (Nat.le_of_ble_eq_true rfl) (wS_s_then ad cy _ (jlt hb25) _) dX4_decideHour_29 ?_
      refine j_iinc (k := 2) (v := (x2 + (1 : Int32))) (lv' := [(2, .int (x2 + (1 : Int32))), (0, .ref (ad 12)), (1, .int x1)]) hC dX4_decideHour_32 rfl rfl (by decide) rfl ?_
      refine j_goto (tgt := 2) hC dX4_decideHour_35 (by decide) ?_
      exact j_lv [1, 2, 0] rfl (ih _ _ _ hv)
set_option maxHeartbeats 4000000 in
set_option maxRecDepth 100000 in
theorem cPlan_decideHour {l : Launch} {D : va_G} {ad : Nat → Nat} {cy : Nat → ClassId} {g : GS} {a1 : Int32} {post : GS → Prop} (hv : vPlan_decideHour g a1 post) : jMv l yX4_decideHour wsX4_decideHour rPlan_decideHour D (tyS cy) [.ref (ad 12), .int a1] (wS ad cy g) (wS ad cy) post 0 0 := by
  refine j_metv (cc := cX4_decideHour) (nL := 3) (rt := none) (by decide) (Nat.le_of_ble_eq_true rfl) ?_
  intro Γ hC hQ _
  have hC : jC Γ l rPlan_decideHour D 3 RX4 cX4_decideHour wsX4_decideHour (tyS cy) := hC
  have hinX4 : ∀ w ∈ wsX40, w ∈ wsX4_decideHour := fun w h => List.mem_cons_of_mem _ (List.mem_append_left _ (List.mem_append_left _ (List.mem_append_right _ h)))
  have hinX6 : ∀ w ∈ wsX60, w ∈ wsX4_decideHour := fun w h => List.mem_cons_of_mem _ (List.mem_append_left _ (List.mem_append_right _ h))
  refine j_lv (lv' := [(0, .ref (ad 12)), (1, .int a1)]) [0, 1] rfl ?_
  unfold vPlan_decideHour at hv
  refine j_iconst (v := 0) hC dX4_decideHour_0 (by decide) ?_
  refine j_istore_n (i := 2) (lv' := [(2, .int (0 : Int32)), (0, .ref (ad 12)), (1, .int a1)]) hC dX4_decideHour_1 rfl (by decide) rfl ?_
  obtain ⟨n_, hv⟩ := hv
  exact j_lv [1, 2, 0] rfl (lPlan_decideHour_2 hC hQ n_ _ _ _ hv)
theorem hdPlan_refresh : yX4_refresh.cls = RX4 ∧ yX4_refresh.cls ≠ "java/lang/invoke/MethodHandle" ∧ yX4_refresh.cls ≠ "java/lang/invoke/VarHandle" ∧ (parseMethodDescriptor yX4_refresh.desc).map (fun d => d.parameters.length) = some 0 := by decide +kernel
abbrev rPlan_refresh : Room := { frames := 6, cells := 0, slots := 0, locals := 153 }
def vPlan_refresh_76 (post : GS → Prop) (K33 : Int32 → GS → Prop) (x1 : Int32) (g : GS) : Prop :=
  (K33 (x1 + (1 : Int32)) g)
def vPlan_refresh_82 (post : GS → Prop) (g : GS) : Prop :=
  post (sz_stale g (0 : Int32))
def vPlan_refresh_33 (post : GS → Prop) : Nat → Int32 → GS → Prop
  | 0, _, _ => False
  | k_ + 1, x1, g =>
  (((z_ssize g) ≤ x1 → (vPlan_refresh_82 post g)) ∧ (¬ (z_ssize g) ≤ x1 → (vp_in x1 8 ∧ ((¬ ((z_heads g) 0 x1.toNatClampNeg) = x1 → (vPlan_refresh_76 post (fun x1 g => vPlan_refresh_33 post k_ x1 g) x1 g)) ∧ (((z_heads g) 0 x1.toNatClampNeg) = x1 → (vp_in x1 8 ∧ (vPlan_refresh_76 post (fun x1 g => vPlan_refresh_33 post k_ x1 g) x1 (sz_loss g ((z_loss g) + ((z_now g) x1.toNatClampNeg 0))))))))))
def vPlan_refresh_26 (post : GS → Prop) (g : GS) : Prop :=
  (∃ n_ : Nat, vPlan_refresh_33 post n_ (0 : Int32) (sz_loss g (0 : Int64)))
def vPlan_refresh_11 (post : GS → Prop) : Nat → Int32 → GS → Prop
  | 0, _, _ => False
  | k_ + 1, x1, g =>
  ((x1 < (0 : Int32) → (vPlan_refresh_26 post g)) ∧ (¬ x1 < (0 : Int32) → (vPlan_decideHour g x1 (fun g17 => (vPlan_refresh_11 post k_ (x1 + (-1 : Int32)) g17)))))
def vPlan_refresh (g : GS) (post : GS → Prop) : Prop :=
  ((¬ (z_stale g) = (0 : Int32) → (∃ n_ : Nat, vPlan_refresh_11 post n_ (7 : Int32) g)) ∧ ((z_stale g) = (0 : Int32) → post g))
set_option maxHeartbeats 4000000 in
set_option maxRecDepth 100000 in
theorem lPlan_refresh_76 {Γ : jG} {l : Launch} {D : va_G} {ad : Nat → Nat} {cy : Nat → ClassId} {post : GS → Prop} (hC : jC Γ l rPlan_refresh D 2 RX4 cX4_refresh wsX4_refresh (tyS cy)) (hQ : jQv Γ D (wS ad cy) post none 0 0) {K33 : Int32 → GS → Prop} (hK33 : ∀ (x1 : Int32) (g : GS), K33 x1 g → J Γ D 2 0 0 (wS ad cy g) 33 [(0, .ref (ad 12)), (1, .int x1)] []) : ∀ (x1 : Int32) (g : GS), vPlan_refresh_76 post K33 x1 g → J Γ D 2 0 0 (wS ad cy g) 76 [(0, .ref (ad 12)), (1, .int x1)] [] := by
  have hinX4 : ∀ w ∈ wsX40, w ∈ wsX4_refresh := fun w h => List.mem_cons_of_mem _ (List.mem_append_left _ (List.mem_append_left _ (List.mem_append_right _ h)))
  have hinX6 : ∀ w ∈ wsX60, w ∈ wsX4_refresh := fun w h => List.mem_cons_of_mem _ (List.mem_append_left _ (List.mem_append_right _ h))
  intro x1 g hv
  unfold vPlan_refresh_76 at hv
  refine j_iinc (k := 1) (v := (x1 + (1 : Int32))) (lv' := [(1, .int (x1 + (1 : Int32))), (0, .ref (ad 12))]) hC dX4_refresh_76 rfl rfl (by decide) rfl ?_
  refine j_goto (tgt := 33) hC dX4_refresh_79 (by decide) ?_
  exact j_lv [1, 0] rfl (hK33 _ _ hv)
set_option maxHeartbeats 4000000 in
set_option maxRecDepth 100000 in
theorem lPlan_refresh_82 {Γ : jG} {l : Launch} {D : va_G} {ad : Nat → Nat} {cy : Nat → ClassId} {post : GS → Prop} (hC : jC Γ l rPlan_refresh D 2 RX4 cX4_refresh wsX4_refresh (tyS cy)) (hQ : jQv Γ D (wS ad cy) post none 0 0) : ∀ (g : GS), vPlan_refresh_82 post g → J Γ D 2 0 0 (wS ad cy g) 82 [(0, .ref (ad 12))] [] := by
  have hinX4 : ∀ w ∈ wsX40, w ∈ wsX4_refresh := fun w h => List.mem_cons_of_mem _ (List.mem_append_left _ (List.mem_append_left _ (List.mem_append_right _ h)))
  have hinX6 : ∀ w ∈ wsX60, w ∈ wsX4_refresh := fun w h => List.mem_cons_of_mem _ (List.mem_append_left _ (List.mem_append_right _ h))
  intro g hv
  unfold vPlan_refresh_82 at hv
  refine j_aload_n (i := 0) hC dX4_refresh_82 rfl 0 rfl ?_
  refine j_iconst (v := 0) hC dX4_refresh_83 (by decide) ?_
  refine j_put (C := RX4) (T := TX4) (N := 7) (ty := .boolean) hC hinX4 tyX4 tyX4_ok nmX4 12 (wS_c12 ad cy _) rfl 6 (by decide) (mw 1 rfl) rfl rfl fdX4_6 rfl rfl (Nat.le_of_ble_eq_true rfl) (wS_p_stale ad cy _ _) dX4_refresh_84 ?_
  exact j_vret hC hQ dX4_refresh_87 rfl hv
set_option maxHeartbeats 4000000 in
set_option maxRecDepth 100000 in
theorem lPlan_refresh_33 {Γ : jG} {l : Launch} {D : va_G} {ad : Nat → Nat} {cy : Nat → ClassId} {post : GS → Prop} (hC : jC Γ l rPlan_refresh D 2 RX4 cX4_refresh wsX4_refresh (tyS cy)) (hQ : jQv Γ D (wS ad cy) post none 0 0) : ∀ (n_ : Nat) (x1 : Int32) (g : GS), vPlan_refresh_33 post n_ x1 g → J Γ D 2 0 0 (wS ad cy g) 33 [(0, .ref (ad 12)), (1, .int x1)] [] := by
  have hinX4 : ∀ w ∈ wsX40, w ∈ wsX4_refresh := fun w h => List.mem_cons_of_mem _ (List.mem_append_left _ (List.mem_append_left _ (List.mem_append_right _ h)))
  have hinX6 : ∀ w ∈ wsX60, w ∈ wsX4_refresh := fun w h => List.mem_cons_of_mem _ (List.mem_append_left _ (List.mem_append_right _ h))
  intro n_
  induction n_ with
  | zero => intro x1 g hv; exact False.elim hv
  | succ k_ ih =>
    intro x1 g hv
    unfold vPlan_refresh_33 at hv
    refine j_iload_n (i := 1) hC dX4_refresh_33 rfl 1 rfl ?_
    refine j_aload_n (i := 0) hC dX4_refresh_34 rfl 0 rfl ?_
    refine j_get (C := RX4) (T := TX4) (N := 7) (v := .ref (ad 5)) hC hinX4 12 (wS_c12 ad cy _) rfl 0 (by decide) (mw 3 rfl) rfl rfl dX4_refresh_35 ?_
    refine j_get (C := RX6) (T := TX6) (N := 4) (v := .int (z_ssize g)) hC hinX6 5 (wS_c5 ad cy _) rfl 3 (by decide) (mw 4 rfl) rfl rfl dX4_refresh_38 ?_
    refine j_icmp_ge (tgt := 82) hC dX4_refresh_41 (by decide) (fun h_ => ?_) (fun h_ => ?_)
    · have hv := hv.1 h_
      exact j_lv [0] rfl (lPlan_refresh_82 hC hQ _ hv)
    · have hv := hv.2 h_
      refine j_aload_n (i := 0) hC dX4_refresh_44 rfl 0 rfl ?_
      refine j_get (C := RX4) (T := TX4) (N := 7) (v := .ref (ad 5)) hC hinX4 12 (wS_c12 ad cy _) rfl 0 (by decide) (mw 3 rfl) rfl rfl dX4_refresh_45 ?_
      refine j_get (C := RX6) (T := TX6) (N := 4) (v := .ref (ad 8)) hC hinX6 5 (wS_c5 ad cy _) rfl 2 (by decide) (mw 5 rfl) rfl rfl dX4_refresh_48 ?_
      refine j_iconst (v := 0) hC dX4_refresh_51 (by decide) ?_
      refine j_aald (v := .ref (ad (41 + 0))) hC 8 3 (wS_c8 ad cy _) rfl rfl (jin_lit (by decide)) (jrow ad 41 (j := 0) (Nat.le_of_ble_eq_true rfl)) dX4_refresh_52 ?_
      refine j_iload_n (i := 1) hC dX4_refresh_53 rfl 1 rfl ?_
      have hb54 := hv.1
      have hv := hv.2
      refine j_iald (v := ((z_heads g) 0 x1.toNatClampNeg)) hC _ 0 (wS_r_heads ad cy _ (Nat.le_of_ble_eq_true rfl)) rfl hb54 rfl dX4_refresh_54 ?_
      refine j_iload_n (i := 1) hC dX4_refresh_55 rfl 1 rfl ?_
      refine j_icmp_ne (tgt := 76) hC dX4_refresh_56 (by decide) (fun h_ => ?_) (fun h_ => ?_)
      · have hv := hv.1 h_
        exact j_lv [0, 1] rfl (lPlan_refresh_76 hC hQ (K33 := fun x1 g => vPlan_refresh_33 post k_ x1 g) (fun _ _ h_ => ih _ _ h_) _ _ hv)
      · have hv := hv.2 h_
        refine j_aload_n (i := 0) hC dX4_refresh_59 rfl 0 rfl ?_
        refine j_dup hC dX4_refresh_60 rfl ?_
        refine j_get (C := RX4) (T := TX4) (N := 7) (v := .long (z_loss g)) hC hinX4 12 (wS_c12 ad cy _) rfl 5 (by decide) (mw 2 rfl) rfl rfl dX4_refresh_61 ?_
        refine j_aload_n (i := 0) hC dX4_refresh_64 rfl 0 rfl ?_
        refine j_get (C := RX4) (T := TX4) (N := 7) (v := .ref (ad 14)) hC hinX4 12 (wS_c12 ad cy _) rfl 3 (by decide) (mw 6 rfl) rfl rfl dX4_refresh_65 ?_
        refine j_iload_n (i := 1) hC dX4_refresh_68 rfl 1 rfl ?_
        have hb69 := hv.1
        have hv := hv.2
        refine j_aald (v := .ref (ad (57 + x1.toNatClampNeg))) hC 14 4 (wS_c14 ad cy _) rfl rfl hb69 (jrow ad 57 (j := x1.toNatClampNeg) (jlt hb69)) dX4_refresh_69 ?_
        refine j_iconst (v := 0) hC dX4_refresh_70 (by decide) ?_
        refine j_lald (v := ((z_now g) x1.toNatClampNeg 0)) hC _ 1 (wS_r_now ad cy _ (jlt hb69)) rfl (jin_lit (by decide)) rfl dX4_refresh_71 ?_
        refine j_ladd hC dX4_refresh_72 ?_
        refine j_put (C := RX4) (T := TX4) (N := 7) (ty := .long) hC hinX4 tyX4 tyX4_ok nmX4 12 (wS_c12 ad cy _) rfl 5 (by decide) (mw 2 rfl) rfl rfl fdX4_5 rfl rfl (Nat.le_of_ble_eq_true rfl) (wS_p_loss ad cy _ _) dX4_refresh_73 ?_
        exact j_lv [0, 1] rfl (lPlan_refresh_76 hC hQ (K33 := fun x1 g => vPlan_refresh_33 post k_ x1 g) (fun _ _ h_ => ih _ _ h_) _ _ hv)
set_option maxHeartbeats 4000000 in
set_option maxRecDepth 100000 in
theorem lPlan_refresh_26 {Γ : jG} {l : Launch} {D : va_G} {ad : Nat → Nat} {cy : Nat → ClassId} {post : GS → Prop} (hC : jC Γ l rPlan_refresh D 2 RX4 cX4_refresh wsX4_refresh (tyS cy)) (hQ : jQv Γ D (wS ad cy) post none 0 0) : ∀ (g : GS), vPlan_refresh_26 post g → J Γ D 2 0 0 (wS ad cy g) 26 [(0, .ref (ad 12))] [] := by
  have hinX4 : ∀ w ∈ wsX40, w ∈ wsX4_refresh := fun w h => List.mem_cons_of_mem _ (List.mem_append_left _ (List.mem_append_left _ (List.mem_append_right _ h)))
  have hinX6 : ∀ w ∈ wsX60, w ∈ wsX4_refresh := fun w h => List.mem_cons_of_mem _ (List.mem_append_left _ (List.mem_append_right _ h))
  intro g hv
  unfold vPlan_refresh_26 at hv
  refine j_aload_n (i := 0) hC dX4_refresh_26 rfl 0 rfl ?_
  refine j_lconst (v := 0) hC dX4_refresh_27 (by decide) ?_
  refine j_put (C := RX4) (T := TX4) (N := 7) (ty := .long) hC hinX4 tyX4 tyX4_ok nmX4 12 (wS_c12 ad cy _) rfl 5 (by decide) (mw 2 rfl) rfl rfl fdX4_5 rfl rfl (Nat.le_of_ble_eq_true rfl) (wS_p_loss ad cy _ _) dX4_refresh_28 ?_
  refine j_iconst (v := 0) hC dX4_refresh_31 (by decide) ?_
  refine j_istore_n (i := 1) (lv' := [(1, .int (0 : Int32)), (0, .ref (ad 12))]) hC dX4_refresh_32 rfl (by decide) rfl ?_
  obtain ⟨n_, hv⟩ := hv
  exact j_lv [1, 0] rfl (lPlan_refresh_33 hC hQ n_ _ _ hv)
set_option maxHeartbeats 4000000 in
set_option maxRecDepth 100000 in
theorem lPlan_refresh_11 {Γ : jG} {l : Launch} {D : va_G} {ad : Nat → Nat} {cy : Nat → ClassId} {post : GS → Prop} (hC : jC Γ l rPlan_refresh D 2 RX4 cX4_refresh wsX4_refresh (tyS cy)) (hQ : jQv Γ D (wS ad cy) post none 0 0) : ∀ (n_ : Nat) (x1 : Int32) (g : GS), vPlan_refresh_11 post n_ x1 g → J Γ D 2 0 0 (wS ad cy g) 11 [(0, .ref (ad 12)), (1, .int x1)] [] := by
  have hinX4 : ∀ w ∈ wsX40, w ∈ wsX4_refresh := fun w h => List.mem_cons_of_mem _ (List.mem_append_left _ (List.mem_append_left _ (List.mem_append_right _ h)))
  have hinX6 : ∀ w ∈ wsX60, w ∈ wsX4_refresh := fun w h => List.mem_cons_of_mem _ (List.mem_append_left _ (List.mem_append_right _ h))
  intro n_
  induction n_ with
  | zero => intro x1 g hv; exact False.elim hv
  | succ k_ ih =>
    intro x1 g hv
    unfold vPlan_refresh_11 at hv
    refine j_iload_n (i := 1) hC dX4_refresh_11 rfl 1 rfl ?_
    refine j_if_lt (tgt := 26) hC dX4_refresh_12 (by decide) (fun h_ => ?_) (fun h_ => ?_)
    · have hv := hv.1 h_
      exact j_lv [0] rfl (lPlan_refresh_26 hC hQ _ hv)
    · have hv := hv.2 h_
      refine j_aload_n (i := 0) hC dX4_refresh_15 rfl 0 rfl ?_
      refine j_iload_n (i := 1) hC dX4_refresh_16 rfl 1 rfl ?_
      refine j_callV_v (C := RX4) (As := [.int x1]) (rest := []) (b := (ad 12)) hC (cPlan_decideHour hv) 1 gX4_refresh_X4_decideHour rfl rfl rfl ⟨Nat.le_of_ble_eq_true rfl, Nat.le_of_ble_eq_true rfl⟩ hdPlan_decideHour rfl (wS_c12 ad cy _) rfl rfl (Nat.le_of_ble_eq_true rfl) ⟨Nat.zero_le _, Nat.zero_le _⟩ dX4_refresh_17 (fun g17 hv => ?_)
      refine j_iinc (k := 1) (v := (x1 + (-1 : Int32))) (lv' := [(1, .int (x1 + (-1 : Int32))), (0, .ref (ad 12))]) hC dX4_refresh_20 rfl rfl (by decide) rfl ?_
      refine j_goto (tgt := 11) hC dX4_refresh_23 (by decide) ?_
      exact j_lv [1, 0] rfl (ih _ _ hv)
set_option maxHeartbeats 4000000 in
set_option maxRecDepth 100000 in
theorem cPlan_refresh {l : Launch} {D : va_G} {ad : Nat → Nat} {cy : Nat → ClassId} {g : GS} {post : GS → Prop} (hv : vPlan_refresh g post) : jMv l yX4_refresh wsX4_refresh rPlan_refresh D (tyS cy) [.ref (ad 12)] (wS ad cy g) (wS ad cy) post 0 0 := by
  refine j_metv (cc := cX4_refresh) (nL := 2) (rt := none) (by decide) (Nat.le_of_ble_eq_true rfl) ?_
  intro Γ hC hQ _
  have hC : jC Γ l rPlan_refresh D 2 RX4 cX4_refresh wsX4_refresh (tyS cy) := hC
  have hinX4 : ∀ w ∈ wsX40, w ∈ wsX4_refresh := fun w h => List.mem_cons_of_mem _ (List.mem_append_left _ (List.mem_append_left _ (List.mem_append_right _ h)))
  have hinX6 : ∀ w ∈ wsX60, w ∈ wsX4_refresh := fun w h => List.mem_cons_of_mem _ (List.mem_append_left _ (List.mem_append_right _ h))
  refine j_lv (lv' := [(0, .ref (ad 12))]) [0] rfl ?_
  unfold vPlan_refresh at hv
  refine j_aload_n (i := 0) hC dX4_refresh_0 rfl 0 rfl ?_
  refine j_get (C := RX4) (T := TX4) (N := 7) (v := .int (z_stale g)) hC hinX4 12 (wS_c12 ad cy _) rfl 6 (by decide) (mw 1 rfl) rfl rfl dX4_refresh_1 ?_
  refine j_if_ne (tgt := 8) hC dX4_refresh_4 (by decide) (fun h_ => ?_) (fun h_ => ?_)
  · have hv := hv.1 h_
    refine j_bipush (v := 7) hC dX4_refresh_8 (by decide) ?_
    refine j_istore_n (i := 1) (lv' := [(1, .int (7 : Int32)), (0, .ref (ad 12))]) hC dX4_refresh_10 rfl (by decide) rfl ?_
    obtain ⟨n_, hv⟩ := hv
    exact j_lv [1, 0] rfl (lPlan_refresh_11 hC hQ n_ _ _ hv)
  · have hv := hv.2 h_
    exact j_vret hC hQ dX4_refresh_7 rfl hv
