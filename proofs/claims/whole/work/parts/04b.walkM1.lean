theorem hdM_in : yX12_in.cls = RX12 ∧ yX12_in.cls ≠ "java/lang/invoke/MethodHandle" ∧ yX12_in.cls ≠ "java/lang/invoke/VarHandle" ∧ (parseMethodDescriptor yX12_in.desc).map (fun d => d.parameters.length) = some 3 := by decide +kernel
abbrev rM_in : Room := { frames := 0, cells := 0, slots := 0, locals := 0 }
def vM_in (g : GM) (a0 : Int64) (a2 : Int64) (a4 : Int64) (post : Int32 → GM → Prop) : Prop :=
  ((a0 < a2 → post (0 : Int32) g) ∧ (¬ a0 < a2 → ((a4 < a0 → post (0 : Int32) g) ∧ (¬ a4 < a0 → post (1 : Int32) g))))
set_option maxHeartbeats 4000000 in
set_option maxRecDepth 100000 in
theorem cM_in {l : Launch} {D : va_G} {ad : Nat → Nat} {cy : Nat → ClassId} {g : GM} {a0 : Int64} {a2 : Int64} {a4 : Int64} {post : Int32 → GM → Prop} (hv : vM_in g a0 a2 a4 post) : jMi l yX12_in wsX12_in rM_in D (tyM cy) [.long a0, .long a2, .long a4] (wM ad cy g) (wM ad cy) post 0 0 := by
  refine j_meti (cc := cX12_in) (nL := 6) (rt := (some .boolean)) (by decide) (Nat.le_of_ble_eq_true rfl) ?_
  intro Γ hC hQ _
  have hC : jC Γ l rM_in D 6 RX12 cX12_in wsX12_in (tyM cy) := hC
  refine j_lv (lv' := [(0, .long a0), (2, .long a2), (4, .long a4)]) [0, 1, 2] rfl ?_
  unfold vM_in at hv
  refine j_lload_n (i := 0) hC dX12_in_0 rfl 0 rfl ?_
  refine j_lload_n (i := 2) hC dX12_in_1 rfl 1 rfl ?_
  refine j_lcmp_lt (tgt := 17) hC dX12_in_2 dX12_in_3 (by decide) (fun h_ => ?_) (fun h_ => ?_)
  · have hv := hv.1 h_
    refine j_iconst (v := 0) hC dX12_in_17 (by decide) ?_
    exact j_zret hC hQ dX12_in_18 rfl rfl hv
  · have hv := hv.2 h_
    refine j_lload_n (i := 0) hC dX12_in_6 rfl 0 rfl ?_
    refine j_lload hC dX12_in_7 2 rfl ?_
    refine j_lcmp_gt (tgt := 17) hC dX12_in_9 dX12_in_10 (by decide) (fun h_ => ?_) (fun h_ => ?_)
    · have hv := hv.1 h_
      refine j_iconst (v := 0) hC dX12_in_17 (by decide) ?_
      exact j_zret hC hQ dX12_in_18 rfl rfl hv
    · have hv := hv.2 h_
      refine j_iconst (v := 1) hC dX12_in_13 (by decide) ?_
      refine j_goto (tgt := 18) hC dX12_in_14 (by decide) ?_
      exact j_zret hC hQ dX12_in_18 rfl rfl hv
theorem hdM_found : yX12_found.cls = RX12 ∧ yX12_found.cls ≠ "java/lang/invoke/MethodHandle" ∧ yX12_found.cls ≠ "java/lang/invoke/VarHandle" ∧ (parseMethodDescriptor yX12_found.desc).map (fun d => d.parameters.length) = some 1 := by decide +kernel
abbrev rM_found : Room := { frames := 0, cells := 0, slots := 0, locals := 0 }
def vM_found (g : GM) (a1 : Int32) (post : Int32 → GM → Prop) : Prop :=
  post ((-1000010 : Int32) - a1) (sm_status g a1)
set_option maxHeartbeats 4000000 in
set_option maxRecDepth 100000 in
theorem cM_found {l : Launch} {D : va_G} {ad : Nat → Nat} {cy : Nat → ClassId} {g : GM} {a1 : Int32} {post : Int32 → GM → Prop} (hv : vM_found g a1 post) : jMi l yX12_found wsX12_found rM_found D (tyM cy) [.ref (ad 0), .int a1] (wM ad cy g) (wM ad cy) post 0 0 := by
  refine j_meti (cc := cX12_found) (nL := 2) (rt := (some .int)) (by decide) (Nat.le_of_ble_eq_true rfl) ?_
  intro Γ hC hQ _
  have hC : jC Γ l rM_found D 2 RX12 cX12_found wsX12_found (tyM cy) := hC
  have hinX12 : ∀ w ∈ wsX120, w ∈ wsX12_found := fun w h => List.mem_cons_of_mem _ (List.mem_append_right _ h)
  refine j_lv (lv' := [(0, .ref (ad 0)), (1, .int a1)]) [0, 1] rfl ?_
  unfold vM_found at hv
  refine j_aload_n (i := 0) hC dX12_found_0 rfl 0 rfl ?_
  refine j_iload_n (i := 1) hC dX12_found_1 rfl 1 rfl ?_
  refine j_put (C := RX12) (T := TX12) (N := 22) (ty := .int) hC hinX12 tyX12 tyX12_ok nmX12 0 (wM_c0 ad cy _) rfl 1 (by decide) (mw 1 rfl) rfl rfl fdX12_1 rfl rfl (Nat.le_of_ble_eq_true rfl) (wM_p_status ad cy _ _) dX12_found_2 ?_
  refine j_ldc (v := -1000010) hC dX12_found_5 (mw 2 rfl) ?_
  refine j_iload_n (i := 1) hC dX12_found_7 rfl 1 rfl ?_
  refine j_isub hC dX12_found_8 ?_
  exact j_iret hC hQ dX12_found_9 rfl hv
theorem hdM_isSheet : yX12_isSheet.cls = RX12 ∧ yX12_isSheet.cls ≠ "java/lang/invoke/MethodHandle" ∧ yX12_isSheet.cls ≠ "java/lang/invoke/VarHandle" ∧ (parseMethodDescriptor yX12_isSheet.desc).map (fun d => d.parameters.length) = some 1 := by decide +kernel
abbrev rM_isSheet : Room := { frames := 1, cells := 0, slots := 0, locals := 25 }
def vM_isSheet (g : GM) (a0 : Int32) (post : Int32 → GM → Prop) : Prop :=
  (vM_in g (a0.toInt64) (0 : Int64) (7 : Int64) (fun r6 g6 => (jz r6 ∧ post r6 g6)))
set_option maxHeartbeats 4000000 in
set_option maxRecDepth 100000 in
theorem cM_isSheet {l : Launch} {D : va_G} {ad : Nat → Nat} {cy : Nat → ClassId} {g : GM} {a0 : Int32} {post : Int32 → GM → Prop} (hv : vM_isSheet g a0 post) : jMi l yX12_isSheet wsX12_isSheet rM_isSheet D (tyM cy) [.int a0] (wM ad cy g) (wM ad cy) post 0 0 := by
  refine j_meti (cc := cX12_isSheet) (nL := 1) (rt := (some .boolean)) (by decide) (Nat.le_of_ble_eq_true rfl) ?_
  intro Γ hC hQ _
  have hC : jC Γ l rM_isSheet D 1 RX12 cX12_isSheet wsX12_isSheet (tyM cy) := hC
  refine j_lv (lv' := [(0, .int a0)]) [0] rfl ?_
  unfold vM_isSheet at hv
  refine j_iload_n (i := 0) hC dX12_isSheet_0 rfl 0 rfl ?_
  refine j_i2l hC dX12_isSheet_1 ?_
  refine j_lconst (v := 0) hC dX12_isSheet_2 (by decide) ?_
  refine j_ldc2 (v := 7) hC dX12_isSheet_3 (mw 1 rfl) ?_
  refine j_callS_i (As := [.long (a0.toInt64), .long (0 : Int64), .long (7 : Int64)]) (rest := []) hC (cM_in hv) 3 gX12_isSheet_X12_in rfl rfl rfl ⟨Nat.le_of_ble_eq_true rfl, Nat.le_of_ble_eq_true rfl⟩ hdM_in.2 rfl rfl (Nat.le_of_ble_eq_true rfl) ⟨Nat.zero_le _, Nat.zero_le _⟩ dX12_isSheet_6 (fun r6 g6 hv => ?_)
  exact j_zret hC hQ dX12_isSheet_9 rfl (jz_n hv.1) hv.2
theorem hdM_sheet : yX12_sheet.cls = RX12 ∧ yX12_sheet.cls ≠ "java/lang/invoke/MethodHandle" ∧ yX12_sheet.cls ≠ "java/lang/invoke/VarHandle" ∧ (parseMethodDescriptor yX12_sheet.desc).map (fun d => d.parameters.length) = some 3 := by decide +kernel
abbrev rM_sheet : Room := { frames := 2, cells := 0, slots := 0, locals := 45 }
def vM_sheet_65 (post : Int32 → GM → Prop) : Nat → Int32 → Int32 → Int32 → GM → Prop
  | 0, _, _, _, _ => False
  | k_ + 1, x1, x3, x4, g =>
  (((60 : Int32) ≤ x4 → post x3 g) ∧ (¬ (60 : Int32) ≤ x4 → (vp_in (((60 : Int32) * x1) + x4) 480 ∧ (vM_sheet_65 post k_ x1 x3 (x4 + (1 : Int32)) (sm_item g (upd (m_item g) (((60 : Int32) * x1) + x4).toNatClampNeg (0 : Int32)))))))
def vM_sheet (g : GM) (a1 : Int32) (a2 : Int32) (a3 : Int32) (post : Int32 → GM → Prop) : Prop :=
  (vM_isSheet (sm_thrown g (0 : Int32)) a1 (fun r6 g6 => ((r6 = (0 : Int32) → post (-1000001 : Int32) g6) ∧ (¬ r6 = (0 : Int32) → (vM_in g6 (a2.toInt64) (0 : Int64) (2 : Int64) (fun r18 g18 => ((r18 = (0 : Int32) → post (-1000001 : Int32) g18) ∧ (¬ r18 = (0 : Int32) → ((a3 ≤ (60 : Int32) → (((0 : Int32) ≤ a3 → (vp_in a1 8 ∧ (vp_in a1 8 ∧ (∃ n_ : Nat, vM_sheet_65 post n_ a1 a3 (0 : Int32) (sm_many (sm_lane (sm_status g18 (0 : Int32)) (upd (m_lane g18) a1.toNatClampNeg a2)) (upd (m_many g18) a1.toNatClampNeg a3)))))) ∧ (¬ (0 : Int32) ≤ a3 → (vM_found (sm_status g18 (0 : Int32)) (4 : Int32) (fun r44 g44 => post r44 g44))))) ∧ (¬ a3 ≤ (60 : Int32) → post (-1000001 : Int32) g18))))))))))
set_option maxHeartbeats 4000000 in
set_option maxRecDepth 100000 in
theorem lM_sheet_65 {Γ : jG} {l : Launch} {D : va_G} {ad : Nat → Nat} {cy : Nat → ClassId} {post : Int32 → GM → Prop} (hC : jC Γ l rM_sheet D 5 RX12 cX12_sheet wsX12_sheet (tyM cy)) (hQ : jQi Γ D (wM ad cy) post (some .int) 0 0) : ∀ (n_ : Nat) (x1 : Int32) (x3 : Int32) (x4 : Int32) (g : GM), vM_sheet_65 post n_ x1 x3 x4 g → J Γ D 5 0 0 (wM ad cy g) 65 [(0, .ref (ad 0)), (1, .int x1), (3, .int x3), (4, .int x4)] [] := by
  have hinX12 : ∀ w ∈ wsX120, w ∈ wsX12_sheet := fun w h => List.mem_cons_of_mem _ (List.mem_append_right _ h)
  intro n_
  induction n_ with
  | zero => intro x1 x3 x4 g hv; exact False.elim hv
  | succ k_ ih =>
    intro x1 x3 x4 g hv
    unfold vM_sheet_65 at hv
    refine j_iload hC dX12_sheet_65 3 rfl ?_
    refine j_bipush (v := 60) hC dX12_sheet_67 (by decide) ?_
    refine j_icmp_ge (tgt := 91) hC dX12_sheet_69 (by decide) (fun h_ => ?_) (fun h_ => ?_)
    · have hv := hv.1 h_
      refine j_iload_n (i := 3) hC dX12_sheet_91 rfl 2 rfl ?_
      exact j_iret hC hQ dX12_sheet_92 rfl hv
    · have hv := hv.2 h_
      refine j_aload_n (i := 0) hC dX12_sheet_72 rfl 0 rfl ?_
      refine j_get (C := RX12) (T := TX12) (N := 22) (v := .ref (ad 5)) hC hinX12 0 (wM_c0 ad cy _) rfl 6 (by decide) (mw 7 rfl) rfl rfl dX12_sheet_73 ?_
      refine j_bipush (v := 60) hC dX12_sheet_76 (by decide) ?_
      refine j_iload_n (i := 1) hC dX12_sheet_78 rfl 1 rfl ?_
      refine j_imul hC dX12_sheet_79 ?_
      refine j_iload hC dX12_sheet_80 3 rfl ?_
      refine j_iadd hC dX12_sheet_82 ?_
      refine j_iconst (v := 0) hC dX12_sheet_83 (by decide) ?_
      have hb84 := hv.1
      have hv := hv.2
      refine j_iast hC 5 0 (wM_c5 ad cy _) rfl hb84 (wM_s_item ad cy _ _) dX12_sheet_84 ?_
      refine j_iinc (k := 3) (v := (x4 + (1 : Int32))) (lv' := [(4, .int (x4 + (1 : Int32))), (0, .ref (ad 0)), (1, .int x1), (3, .int x3)]) hC dX12_sheet_85 rfl rfl (by decide) rfl ?_
      refine j_goto (tgt := 65) hC dX12_sheet_88 (by decide) ?_
      exact j_lv [1, 2, 3, 0] rfl (ih _ _ _ _ hv)
set_option maxHeartbeats 4000000 in
set_option maxRecDepth 100000 in
theorem cM_sheet {l : Launch} {D : va_G} {ad : Nat → Nat} {cy : Nat → ClassId} {g : GM} {a1 : Int32} {a2 : Int32} {a3 : Int32} {post : Int32 → GM → Prop} (hv : vM_sheet g a1 a2 a3 post) : jMi l yX12_sheet wsX12_sheet rM_sheet D (tyM cy) [.ref (ad 0), .int a1, .int a2, .int a3] (wM ad cy g) (wM ad cy) post 0 0 := by
  refine j_meti (cc := cX12_sheet) (nL := 5) (rt := (some .int)) (by decide) (Nat.le_of_ble_eq_true rfl) ?_
  intro Γ hC hQ _
  have hC : jC Γ l rM_sheet D 5 RX12 cX12_sheet wsX12_sheet (tyM cy) := hC
  have hinX12 : ∀ w ∈ wsX120, w ∈ wsX12_sheet := fun w h => List.mem_cons_of_mem _ (List.mem_append_right _ h)
  refine j_lv (lv' := [(0, .ref (ad 0)), (1, .int a1), (2, .int a2), (3, .int a3)]) [0, 1, 2, 3] rfl ?_
  unfold vM_sheet at hv
  refine j_aload_n (i := 0) hC dX12_sheet_0 rfl 0 rfl ?_
  refine j_iconst (v := 0) hC dX12_sheet_1 (by decide) ?_
  refine j_put (C := RX12) (T := TX12) (N := 22) (ty := .int) hC hinX12 tyX12 tyX12_ok nmX12 0 (wM_c0 ad cy _) rfl 0 (by decide) (mw 1 rfl) rfl rfl fdX12_0 rfl rfl (Nat.le_of_ble_eq_true rfl) (wM_p_thrown ad cy _ _) dX12_sheet_2 ?_
  refine j_iload_n (i := 1) hC dX12_sheet_5 rfl 1 rfl ?_
  refine j_callS_i (As := [.int a1]) (rest := []) hC (cM_isSheet hv) 1 gX12_sheet_X12_isSheet rfl rfl rfl ⟨Nat.le_of_ble_eq_true rfl, Nat.le_of_ble_eq_true rfl⟩ hdM_isSheet.2 rfl rfl (Nat.le_of_ble_eq_true rfl) ⟨Nat.zero_le _, Nat.zero_le _⟩ dX12_sheet_6 (fun r6 g6 hv => ?_)
  refine j_if_eq (tgt := 30) hC dX12_sheet_9 (by decide) (fun h_ => ?_) (fun h_ => ?_)
  · have hv := hv.1 h_
    refine j_ldc (v := -1000001) hC dX12_sheet_30 (mw 3 rfl) ?_
    exact j_iret hC hQ dX12_sheet_32 rfl hv
  · have hv := hv.2 h_
    refine j_iload_n (i := 2) hC dX12_sheet_12 rfl 2 rfl ?_
    refine j_i2l hC dX12_sheet_13 ?_
    refine j_lconst (v := 0) hC dX12_sheet_14 (by decide) ?_
    refine j_ldc2 (v := 2) hC dX12_sheet_15 (mw 2 rfl) ?_
    refine j_callS_i (As := [.long (a2.toInt64), .long (0 : Int64), .long (2 : Int64)]) (rest := []) hC (cM_in hv) 3 gX12_sheet_X12_in rfl rfl rfl ⟨Nat.le_of_ble_eq_true rfl, Nat.le_of_ble_eq_true rfl⟩ hdM_in.2 rfl rfl (Nat.le_of_ble_eq_true rfl) ⟨Nat.zero_le _, Nat.zero_le _⟩ dX12_sheet_18 (fun r18 g18 hv => ?_)
    refine j_if_eq (tgt := 30) hC dX12_sheet_21 (by decide) (fun h_ => ?_) (fun h_ => ?_)
    · have hv := hv.1 h_
      refine j_ldc (v := -1000001) hC dX12_sheet_30 (mw 3 rfl) ?_
      exact j_iret hC hQ dX12_sheet_32 rfl hv
    · have hv := hv.2 h_
      refine j_iload_n (i := 3) hC dX12_sheet_24 rfl 3 rfl ?_
      refine j_bipush (v := 60) hC dX12_sheet_25 (by decide) ?_
      refine j_icmp_le (tgt := 33) hC dX12_sheet_27 (by decide) (fun h_ => ?_) (fun h_ => ?_)
      · have hv := hv.1 h_
        refine j_aload_n (i := 0) hC dX12_sheet_33 rfl 0 rfl ?_
        refine j_iconst (v := 0) hC dX12_sheet_34 (by decide) ?_
        refine j_put (C := RX12) (T := TX12) (N := 22) (ty := .int) hC hinX12 tyX12 tyX12_ok nmX12 0 (wM_c0 ad cy _) rfl 1 (by decide) (mw 4 rfl) rfl rfl fdX12_1 rfl rfl (Nat.le_of_ble_eq_true rfl) (wM_p_status ad cy _ _) dX12_sheet_35 ?_
        refine j_iload_n (i := 3) hC dX12_sheet_38 rfl 3 rfl ?_
        refine j_if_ge (tgt := 48) hC dX12_sheet_39 (by decide) (fun h_ => ?_) (fun h_ => ?_)
        · have hv := hv.1 h_
          refine j_aload_n (i := 0) hC dX12_sheet_48 rfl 0 rfl ?_
          refine j_get (C := RX12) (T := TX12) (N := 22) (v := .ref (ad 3)) hC hinX12 0 (wM_c0 ad cy _) rfl 4 (by decide) (mw 5 rfl) rfl rfl dX12_sheet_49 ?_
          refine j_iload_n (i := 1) hC dX12_sheet_52 rfl 1 rfl ?_
          refine j_iload_n (i := 2) hC dX12_sheet_53 rfl 2 rfl ?_
          have hb54 := hv.1
          have hv := hv.2
          refine j_iast hC 3 0 (wM_c3 ad cy _) rfl hb54 (wM_s_lane ad cy _ _) dX12_sheet_54 ?_
          refine j_aload_n (i := 0) hC dX12_sheet_55 rfl 0 rfl ?_
          refine j_get (C := RX12) (T := TX12) (N := 22) (v := .ref (ad 4)) hC hinX12 0 (wM_c0 ad cy _) rfl 5 (by decide) (mw 6 rfl) rfl rfl dX12_sheet_56 ?_
          refine j_iload_n (i := 1) hC dX12_sheet_59 rfl 1 rfl ?_
          refine j_iload_n (i := 3) hC dX12_sheet_60 rfl 3 rfl ?_
          have hb61 := hv.1
          have hv := hv.2
          refine j_iast hC 4 0 (wM_c4 ad cy _) rfl hb61 (wM_s_many ad cy _ _) dX12_sheet_61 ?_
          refine j_iconst (v := 0) hC dX12_sheet_62 (by decide) ?_
          refine j_istore (lv' := [(4, .int (0 : Int32)), (0, .ref (ad 0)), (1, .int a1), (2, .int a2), (3, .int a3)]) hC dX12_sheet_63 (by decide) rfl ?_
          obtain ⟨n_, hv⟩ := hv
          exact j_lv [1, 2, 4, 0] rfl (lM_sheet_65 hC hQ n_ _ _ _ _ hv)
        · have hv := hv.2 h_
          refine j_aload_n (i := 0) hC dX12_sheet_42 rfl 0 rfl ?_
          refine j_iconst (v := 4) hC dX12_sheet_43 (by decide) ?_
          refine j_callV_i (C := RX12) (As := [.int (4 : Int32)]) (rest := []) (b := (ad 0)) hC (cM_found hv) 1 gX12_sheet_X12_found rfl rfl rfl ⟨Nat.le_of_ble_eq_true rfl, Nat.le_of_ble_eq_true rfl⟩ hdM_found rfl (wM_c0 ad cy _) rfl rfl (Nat.le_of_ble_eq_true rfl) ⟨Nat.zero_le _, Nat.zero_le _⟩ dX12_sheet_44 (fun r44 g44 hv => ?_)
          exact j_iret hC hQ dX12_sheet_47 rfl hv
      · have hv := hv.2 h_
        refine j_ldc (v := -1000001) hC dX12_sheet_30 (mw 3 rfl) ?_
        exact j_iret hC hQ dX12_sheet_32 rfl hv
theorem hdM_set : yX12_set.cls = RX12 ∧ yX12_set.cls ≠ "java/lang/invoke/MethodHandle" ∧ yX12_set.cls ≠ "java/lang/invoke/VarHandle" ∧ (parseMethodDescriptor yX12_set.desc).map (fun d => d.parameters.length) = some 3 := by decide +kernel
abbrev rM_set : Room := { frames := 2, cells := 0, slots := 0, locals := 45 }
def vM_set_99 (post : Int32 → GM → Prop) (x1 : Int32) (x2 : Int32) (t0 : Int32) (t1 : Int32) (g : GM) : Prop :=
  (vp_in t1 480 ∧ (vp_in (((60 : Int32) * x1) + x2) 480 ∧ post ((upd (m_item g) t1.toNatClampNeg t0) (((60 : Int32) * x1) + x2).toNatClampNeg) (sm_item g (upd (m_item g) t1.toNatClampNeg t0))))
def vM_set (g : GM) (a1 : Int32) (a2 : Int32) (a3 : Int32) (post : Int32 → GM → Prop) : Prop :=
  (vM_isSheet (sm_thrown g (0 : Int32)) a1 (fun r6 g6 => ((¬ r6 = (0 : Int32) → (vp_in a1 8 ∧ (((0 : Int32) ≤ ((m_lane g6) a1.toNatClampNeg) → (vp_in a1 8 ∧ (vM_in (sm_status g6 (0 : Int32)) (a2.toInt64) (0 : Int64) ((((m_many g6) a1.toNatClampNeg) - (1 : Int32)).toInt64) (fun r47 g47 => ((¬ r47 = (0 : Int32) → (vp_in a1 8 ∧ ((¬ ((m_lane g47) a1.toNatClampNeg) = (0 : Int32) → (vp_in a1 8 ∧ ((¬ ((m_lane g47) a1.toNatClampNeg) = (1 : Int32) → (vM_set_99 post a1 a2 a3 (((60 : Int32) * a1) + a2) g47)) ∧ (((m_lane g47) a1.toNatClampNeg) = (1 : Int32) → (vM_set_99 post a1 a2 (a3.toInt16.toInt32) (((60 : Int32) * a1) + a2) g47))))) ∧ (((m_lane g47) a1.toNatClampNeg) = (0 : Int32) → (vM_set_99 post a1 a2 (a3.toInt8.toInt32) (((60 : Int32) * a1) + a2) g47))))) ∧ (r47 = (0 : Int32) → (vM_found g47 (2 : Int32) (fun r55 g55 => post r55 g55)))))))) ∧ (¬ (0 : Int32) ≤ ((m_lane g6) a1.toNatClampNeg) → (vM_found (sm_status g6 (0 : Int32)) (1 : Int32) (fun r31 g31 => post r31 g31)))))) ∧ (r6 = (0 : Int32) → post (-1000001 : Int32) g6))))
set_option maxHeartbeats 4000000 in
set_option maxRecDepth 100000 in
theorem lM_set_99 {Γ : jG} {l : Launch} {D : va_G} {ad : Nat → Nat} {cy : Nat → ClassId} {post : Int32 → GM → Prop} (hC : jC Γ l rM_set D 4 RX12 cX12_set wsX12_set (tyM cy)) (hQ : jQi Γ D (wM ad cy) post (some .int) 0 0) : ∀ (x1 : Int32) (x2 : Int32) (t0 : Int32) (t1 : Int32) (g : GM), vM_set_99 post x1 x2 t0 t1 g → J Γ D 4 0 0 (wM ad cy g) 99 [(0, .ref (ad 0)), (1, .int x1), (2, .int x2)] [.int t0, .int t1, .ref (ad 5)] := by
  have hinX12 : ∀ w ∈ wsX120, w ∈ wsX12_set := fun w h => List.mem_cons_of_mem _ (List.mem_append_right _ h)
  intro x1 x2 t0 t1 g hv
  unfold vM_set_99 at hv
  have hb99 := hv.1
  have hv := hv.2
  refine j_iast hC 5 0 (wM_c5 ad cy _) rfl hb99 (wM_s_item ad cy _ _) dX12_set_99 ?_
  refine j_aload_n (i := 0) hC dX12_set_100 rfl 0 rfl ?_
  refine j_get (C := RX12) (T := TX12) (N := 22) (v := .ref (ad 5)) hC hinX12 0 (wM_c0 ad cy _) rfl 6 (by decide) (mw 6 rfl) rfl rfl dX12_set_101 ?_
  refine j_bipush (v := 60) hC dX12_set_104 (by decide) ?_
  refine j_iload_n (i := 1) hC dX12_set_106 rfl 1 rfl ?_
  refine j_imul hC dX12_set_107 ?_
  refine j_iload_n (i := 2) hC dX12_set_108 rfl 2 rfl ?_
  refine j_iadd hC dX12_set_109 ?_
  have hb110 := hv.1
  have hv := hv.2
  refine j_iald (v := ((upd (m_item g) t1.toNatClampNeg t0) (((60 : Int32) * x1) + x2).toNatClampNeg)) hC 5 0 (wM_c5 ad cy _) rfl hb110 rfl dX12_set_110 ?_
  exact j_iret hC hQ dX12_set_111 rfl hv
set_option maxHeartbeats 4000000 in
set_option maxRecDepth 100000 in
theorem cM_set {l : Launch} {D : va_G} {ad : Nat → Nat} {cy : Nat → ClassId} {g : GM} {a1 : Int32} {a2 : Int32} {a3 : Int32} {post : Int32 → GM → Prop} (hv : vM_set g a1 a2 a3 post) : jMi l yX12_set wsX12_set rM_set D (tyM cy) [.ref (ad 0), .int a1, .int a2, .int a3] (wM ad cy g) (wM ad cy) post 0 0 := by
  refine j_meti (cc := cX12_set) (nL := 4) (rt := (some .int)) (by decide) (Nat.le_of_ble_eq_true rfl) ?_
  intro Γ hC hQ _
  have hC : jC Γ l rM_set D 4 RX12 cX12_set wsX12_set (tyM cy) := hC
  have hinX12 : ∀ w ∈ wsX120, w ∈ wsX12_set := fun w h => List.mem_cons_of_mem _ (List.mem_append_right _ h)
  refine j_lv (lv' := [(0, .ref (ad 0)), (1, .int a1), (2, .int a2), (3, .int a3)]) [0, 1, 2, 3] rfl ?_
  unfold vM_set at hv
  refine j_aload_n (i := 0) hC dX12_set_0 rfl 0 rfl ?_
  refine j_iconst (v := 0) hC dX12_set_1 (by decide) ?_
  refine j_put (C := RX12) (T := TX12) (N := 22) (ty := .int) hC hinX12 tyX12 tyX12_ok nmX12 0 (wM_c0 ad cy _) rfl 0 (by decide) (mw 1 rfl) rfl rfl fdX12_0 rfl rfl (Nat.le_of_ble_eq_true rfl) (wM_p_thrown ad cy _ _) dX12_set_2 ?_
  refine j_iload_n (i := 1) hC dX12_set_5 rfl 1 rfl ?_
  refine j_callS_i (As := [.int a1]) (rest := []) hC (cM_isSheet hv) 1 gX12_set_X12_isSheet rfl rfl rfl ⟨Nat.le_of_ble_eq_true rfl, Nat.le_of_ble_eq_true rfl⟩ hdM_isSheet.2 rfl rfl (Nat.le_of_ble_eq_true rfl) ⟨Nat.zero_le _, Nat.zero_le _⟩ dX12_set_6 (fun r6 g6 hv => ?_)
  refine j_if_ne (tgt := 15) hC dX12_set_9 (by decide) (fun h_ => ?_) (fun h_ => ?_)
  · have hv := hv.1 h_
    refine j_aload_n (i := 0) hC dX12_set_15 rfl 0 rfl ?_
    refine j_iconst (v := 0) hC dX12_set_16 (by decide) ?_
    refine j_put (C := RX12) (T := TX12) (N := 22) (ty := .int) hC hinX12 tyX12 tyX12_ok nmX12 0 (wM_c0 ad cy _) rfl 1 (by decide) (mw 3 rfl) rfl rfl fdX12_1 rfl rfl (Nat.le_of_ble_eq_true rfl) (wM_p_status ad cy _ _) dX12_set_17 ?_
    refine j_aload_n (i := 0) hC dX12_set_20 rfl 0 rfl ?_
    refine j_get (C := RX12) (T := TX12) (N := 22) (v := .ref (ad 3)) hC hinX12 0 (wM_c0 ad cy _) rfl 4 (by decide) (mw 4 rfl) rfl rfl dX12_set_21 ?_
    refine j_iload_n (i := 1) hC dX12_set_24 rfl 1 rfl ?_
    have hb25 := hv.1
    have hv := hv.2
    refine j_iald (v := ((m_lane g6) a1.toNatClampNeg)) hC 3 0 (wM_c3 ad cy _) rfl hb25 rfl dX12_set_25 ?_
    refine j_if_ge (tgt := 35) hC dX12_set_26 (by decide) (fun h_ => ?_) (fun h_ => ?_)
    · have hv := hv.1 h_
      refine j_iload_n (i := 2) hC dX12_set_35 rfl 2 rfl ?_
      refine j_i2l hC dX12_set_36 ?_
      refine j_lconst (v := 0) hC dX12_set_37 (by decide) ?_
      refine j_aload_n (i := 0) hC dX12_set_38 rfl 0 rfl ?_
      refine j_get (C := RX12) (T := TX12) (N := 22) (v := .ref (ad 4)) hC hinX12 0 (wM_c0 ad cy _) rfl 5 (by decide) (mw 5 rfl) rfl rfl dX12_set_39 ?_
      refine j_iload_n (i := 1) hC dX12_set_42 rfl 1 rfl ?_
      have hb43 := hv.1
      have hv := hv.2
      refine j_iald (v := ((m_many g6) a1.toNatClampNeg)) hC 4 0 (wM_c4 ad cy _) rfl hb43 rfl dX12_set_43 ?_
      refine j_iconst (v := 1) hC dX12_set_44 (by decide) ?_
      refine j_isub hC dX12_set_45 ?_
      refine j_i2l hC dX12_set_46 ?_
      refine j_callS_i (As := [.long (a2.toInt64), .long (0 : Int64), .long ((((m_many g6) a1.toNatClampNeg) - (1 : Int32)).toInt64)]) (rest := []) hC (cM_in hv) 3 gX12_set_X12_in rfl rfl rfl ⟨Nat.le_of_ble_eq_true rfl, Nat.le_of_ble_eq_true rfl⟩ hdM_in.2 rfl rfl (Nat.le_of_ble_eq_true rfl) ⟨Nat.zero_le _, Nat.zero_le _⟩ dX12_set_47 (fun r47 g47 hv => ?_)
      refine j_if_ne (tgt := 59) hC dX12_set_50 (by decide) (fun h_ => ?_) (fun h_ => ?_)
      · have hv := hv.1 h_
        refine j_aload_n (i := 0) hC dX12_set_59 rfl 0 rfl ?_
        refine j_get (C := RX12) (T := TX12) (N := 22) (v := .ref (ad 5)) hC hinX12 0 (wM_c0 ad cy _) rfl 6 (by decide) (mw 6 rfl) rfl rfl dX12_set_60 ?_
        refine j_bipush (v := 60) hC dX12_set_63 (by decide) ?_
        refine j_iload_n (i := 1) hC dX12_set_65 rfl 1 rfl ?_
        refine j_imul hC dX12_set_66 ?_
        refine j_iload_n (i := 2) hC dX12_set_67 rfl 2 rfl ?_
        refine j_iadd hC dX12_set_68 ?_
        refine j_aload_n (i := 0) hC dX12_set_69 rfl 0 rfl ?_
        refine j_get (C := RX12) (T := TX12) (N := 22) (v := .ref (ad 3)) hC hinX12 0 (wM_c0 ad cy _) rfl 4 (by decide) (mw 4 rfl) rfl rfl dX12_set_70 ?_
        refine j_iload_n (i := 1) hC dX12_set_73 rfl 1 rfl ?_
        have hb74 := hv.1
        have hv := hv.2
        refine j_iald (v := ((m_lane g47) a1.toNatClampNeg)) hC 3 0 (wM_c3 ad cy _) rfl hb74 rfl dX12_set_74 ?_
        refine j_if_ne (tgt := 83) hC dX12_set_75 (by decide) (fun h_ => ?_) (fun h_ => ?_)
        · have hv := hv.1 h_
          refine j_aload_n (i := 0) hC dX12_set_83 rfl 0 rfl ?_
          refine j_get (C := RX12) (T := TX12) (N := 22) (v := .ref (ad 3)) hC hinX12 0 (wM_c0 ad cy _) rfl 4 (by decide) (mw 4 rfl) rfl rfl dX12_set_84 ?_
          refine j_iload_n (i := 1) hC dX12_set_87 rfl 1 rfl ?_
          have hb88 := hv.1
          have hv := hv.2
          refine j_iald (v := ((m_lane g47) a1.toNatClampNeg)) hC 3 0 (wM_c3 ad cy _) rfl hb88 rfl dX12_set_88 ?_
          refine j_iconst (v := 1) hC dX12_set_89 (by decide) ?_
          refine j_icmp_ne (tgt := 98) hC dX12_set_90 (by decide) (fun h_ => ?_) (fun h_ => ?_)
          · have hv := hv.1 h_
            refine j_iload_n (i := 3) hC dX12_set_98 rfl 3 rfl ?_
            exact j_lv [0, 1, 2] rfl (lM_set_99 hC hQ _ _ _ _ _ hv)
          · have hv := hv.2 h_
            refine j_iload_n (i := 3) hC dX12_set_93 rfl 3 rfl ?_
            refine j_i2s hC dX12_set_94 ?_
            refine j_goto (tgt := 99) hC dX12_set_95 (by decide) ?_
            exact j_lv [0, 1, 2] rfl (lM_set_99 hC hQ _ _ _ _ _ hv)
        · have hv := hv.2 h_
          refine j_iload_n (i := 3) hC dX12_set_78 rfl 3 rfl ?_
          refine j_i2b hC dX12_set_79 ?_
          refine j_goto (tgt := 99) hC dX12_set_80 (by decide) ?_
          exact j_lv [0, 1, 2] rfl (lM_set_99 hC hQ _ _ _ _ _ hv)
      · have hv := hv.2 h_
        refine j_aload_n (i := 0) hC dX12_set_53 rfl 0 rfl ?_
        refine j_iconst (v := 2) hC dX12_set_54 (by decide) ?_
        refine j_callV_i (C := RX12) (As := [.int (2 : Int32)]) (rest := []) (b := (ad 0)) hC (cM_found hv) 1 gX12_set_X12_found rfl rfl rfl ⟨Nat.le_of_ble_eq_true rfl, Nat.le_of_ble_eq_true rfl⟩ hdM_found rfl (wM_c0 ad cy _) rfl rfl (Nat.le_of_ble_eq_true rfl) ⟨Nat.zero_le _, Nat.zero_le _⟩ dX12_set_55 (fun r55 g55 hv => ?_)
        exact j_iret hC hQ dX12_set_58 rfl hv
    · have hv := hv.2 h_
      refine j_aload_n (i := 0) hC dX12_set_29 rfl 0 rfl ?_
      refine j_iconst (v := 1) hC dX12_set_30 (by decide) ?_
      refine j_callV_i (C := RX12) (As := [.int (1 : Int32)]) (rest := []) (b := (ad 0)) hC (cM_found hv) 1 gX12_set_X12_found rfl rfl rfl ⟨Nat.le_of_ble_eq_true rfl, Nat.le_of_ble_eq_true rfl⟩ hdM_found rfl (wM_c0 ad cy _) rfl rfl (Nat.le_of_ble_eq_true rfl) ⟨Nat.zero_le _, Nat.zero_le _⟩ dX12_set_31 (fun r31 g31 hv => ?_)
      exact j_iret hC hQ dX12_set_34 rfl hv
  · have hv := hv.2 h_
    refine j_ldc (v := -1000001) hC dX12_set_12 (mw 2 rfl) ?_
    exact j_iret hC hQ dX12_set_14 rfl hv
theorem hdM_copy : yX12_copy.cls = RX12 ∧ yX12_copy.cls ≠ "java/lang/invoke/MethodHandle" ∧ yX12_copy.cls ≠ "java/lang/invoke/VarHandle" ∧ (parseMethodDescriptor yX12_copy.desc).map (fun d => d.parameters.length) = some 5 := by decide +kernel
abbrev rM_copy : Room := { frames := 2, cells := 0, slots := 0, locals := 45 }
def vM_copy_45 (post : Int32 → GM → Prop) (g : GM) : Prop :=
  (vM_found g (1 : Int32) (fun r47 g47 => post r47 g47))
def vM_copy_121 (post : Int32 → GM → Prop) (g : GM) : Prop :=
  (vM_found g (2 : Int32) (fun r123 g123 => post r123 g123))
def vM_copy_167 (post : Int32 → GM → Prop) (K143 : Int32 → Int32 → Int32 → Int32 → Int32 → Int32 → Int32 → GM → Prop) (x1 : Int32) (x2 : Int32) (x3 : Int32) (x4 : Int32) (x5 : Int32) (x6 : Int32) (x7 : Int32) (t0 : Int32) (g : GM) : Prop :=
  (vp_in ((((60 : Int32) * x1) + x2) + t0) 480 ∧ (vp_in ((((60 : Int32) * x3) + x4) + t0) 480 ∧ (K143 x1 x2 x3 x4 x5 x6 (x7 + (1 : Int32)) (sm_item g (upd (m_item g) ((((60 : Int32) * x3) + x4) + t0).toNatClampNeg ((m_item g) ((((60 : Int32) * x1) + x2) + t0).toNatClampNeg))))))
def vM_copy_143 (post : Int32 → GM → Prop) : Nat → Int32 → Int32 → Int32 → Int32 → Int32 → Int32 → Int32 → GM → Prop
  | 0, _, _, _, _, _, _, _, _ => False
  | k_ + 1, x1, x2, x3, x4, x5, x6, x7, g =>
  ((x5 ≤ x7 → post x5 g) ∧ (¬ x5 ≤ x7 → ((x6 = (0 : Int32) → (vM_copy_167 post (fun x1 x2 x3 x4 x5 x6 x7 g => vM_copy_143 post k_ x1 x2 x3 x4 x5 x6 x7 g) x1 x2 x3 x4 x5 x6 x7 ((x5 - (1 : Int32)) - x7) g)) ∧ (¬ x6 = (0 : Int32) → (vM_copy_167 post (fun x1 x2 x3 x4 x5 x6 x7 g => vM_copy_143 post k_ x1 x2 x3 x4 x5 x6 x7 g) x1 x2 x3 x4 x5 x6 x7 x7 g)))))
def vM_copy_138 (post : Int32 → GM → Prop) (x1 : Int32) (x2 : Int32) (x3 : Int32) (x4 : Int32) (x5 : Int32) (t0 : Int32) (g : GM) : Prop :=
  (∃ n_ : Nat, vM_copy_143 post n_ x1 x2 x3 x4 x5 t0 (0 : Int32) g)
def vM_copy (g : GM) (a1 : Int32) (a2 : Int32) (a3 : Int32) (a4 : Int32) (a5 : Int32) (post : Int32 → GM → Prop) : Prop :=
  (vM_isSheet (sm_thrown g (0 : Int32)) a1 (fun r6 g6 => ((r6 = (0 : Int32) → post (-1000001 : Int32) g6) ∧ (¬ r6 = (0 : Int32) → (vM_isSheet g6 a3 (fun r13 g13 => ((¬ r13 = (0 : Int32) → (vp_in a1 8 ∧ ((((m_lane g13) a1.toNatClampNeg) < (0 : Int32) → (vM_copy_45 post (sm_status g13 (0 : Int32)))) ∧ (¬ ((m_lane g13) a1.toNatClampNeg) < (0 : Int32) → (vp_in a3 8 ∧ (((0 : Int32) ≤ ((m_lane g13) a3.toNatClampNeg) → (vp_in a1 8 ∧ (vp_in a3 8 ∧ ((((m_lane g13) a1.toNatClampNeg) = ((m_lane g13) a3.toNatClampNeg) → ((a2 < (0 : Int32) → (vM_copy_121 post (sm_status g13 (0 : Int32)))) ∧ (¬ a2 < (0 : Int32) → ((a4 < (0 : Int32) → (vM_copy_121 post (sm_status g13 (0 : Int32)))) ∧ (¬ a4 < (0 : Int32) → ((a5 < (0 : Int32) → (vM_copy_121 post (sm_status g13 (0 : Int32)))) ∧ (¬ a5 < (0 : Int32) → (vp_in a1 8 ∧ (((((m_many g13) a1.toNatClampNeg).toInt64) < ((a2.toInt64) + (a5.toInt64)) → (vM_copy_121 post (sm_status g13 (0 : Int32)))) ∧ (¬ (((m_many g13) a1.toNatClampNeg).toInt64) < ((a2.toInt64) + (a5.toInt64)) → (vp_in a3 8 ∧ ((((a4.toInt64) + (a5.toInt64)) ≤ (((m_many g13) a3.toNatClampNeg).toInt64) → ((a2 < a4 → (vM_copy_138 post a1 a2 a3 a4 a5 (0 : Int32) (sm_status g13 (0 : Int32)))) ∧ (¬ a2 < a4 → (vM_copy_138 post a1 a2 a3 a4 a5 (1 : Int32) (sm_status g13 (0 : Int32)))))) ∧ (¬ ((a4.toInt64) + (a5.toInt64)) ≤ (((m_many g13) a3.toNatClampNeg).toInt64) → (vM_copy_121 post (sm_status g13 (0 : Int32)))))))))))))))) ∧ (¬ ((m_lane g13) a1.toNatClampNeg) = ((m_lane g13) a3.toNatClampNeg) → (vM_found (sm_status g13 (0 : Int32)) (5 : Int32) (fun r68 g68 => post r68 g68))))))) ∧ (¬ (0 : Int32) ≤ ((m_lane g13) a3.toNatClampNeg) → (vM_copy_45 post (sm_status g13 (0 : Int32)))))))))) ∧ (r13 = (0 : Int32) → post (-1000001 : Int32) g13))))))))
set_option maxHeartbeats 4000000 in
set_option maxRecDepth 100000 in
theorem lM_copy_45 {Γ : jG} {l : Launch} {D : va_G} {ad : Nat → Nat} {cy : Nat → ClassId} {post : Int32 → GM → Prop} (hC : jC Γ l rM_copy D 9 RX12 cX12_copy wsX12_copy (tyM cy)) (hQ : jQi Γ D (wM ad cy) post (some .int) 0 0) : ∀ (g : GM), vM_copy_45 post g → J Γ D 9 0 0 (wM ad cy g) 45 [(0, .ref (ad 0))] [] := by
  have hinX12 : ∀ w ∈ wsX120, w ∈ wsX12_copy := fun w h => List.mem_cons_of_mem _ (List.mem_append_right _ h)
  intro g hv
  unfold vM_copy_45 at hv
  refine j_aload_n (i := 0) hC dX12_copy_45 rfl 0 rfl ?_
  refine j_iconst (v := 1) hC dX12_copy_46 (by decide) ?_
  refine j_callV_i (C := RX12) (As := [.int (1 : Int32)]) (rest := []) (b := (ad 0)) hC (cM_found hv) 1 gX12_copy_X12_found rfl rfl rfl ⟨Nat.le_of_ble_eq_true rfl, Nat.le_of_ble_eq_true rfl⟩ hdM_found rfl (wM_c0 ad cy _) rfl rfl (Nat.le_of_ble_eq_true rfl) ⟨Nat.zero_le _, Nat.zero_le _⟩ dX12_copy_47 (fun r47 g47 hv => ?_)
  exact j_iret hC hQ dX12_copy_50 rfl hv
set_option maxHeartbeats 4000000 in
set_option maxRecDepth 100000 in
theorem lM_copy_121 {Γ : jG} {l : Launch} {D : va_G} {ad : Nat → Nat} {cy : Nat → ClassId} {post : Int32 → GM → Prop} (hC : jC Γ l rM_copy D 9 RX12 cX12_copy wsX12_copy (tyM cy)) (hQ : jQi Γ D (wM ad cy) post (some .int) 0 0) : ∀ (g : GM), vM_copy_121 post g → J Γ D 9 0 0 (wM ad cy g) 121 [(0, .ref (ad 0))] [] := by
  have hinX12 : ∀ w ∈ wsX120, w ∈ wsX12_copy := fun w h => List.mem_cons_of_mem _ (List.mem_append_right _ h)
  intro g hv
  unfold vM_copy_121 at hv
  refine j_aload_n (i := 0) hC dX12_copy_121 rfl 0 rfl ?_
  refine j_iconst (v := 2) hC dX12_copy_122 (by decide) ?_
  refine j_callV_i (C := RX12) (As := [.int (2 : Int32)]) (rest := []) (b := (ad 0)) hC (cM_found hv) 1 gX12_copy_X12_found rfl rfl rfl ⟨Nat.le_of_ble_eq_true rfl, Nat.le_of_ble_eq_true rfl⟩ hdM_found rfl (wM_c0 ad cy _) rfl rfl (Nat.le_of_ble_eq_true rfl) ⟨Nat.zero_le _, Nat.zero_le _⟩ dX12_copy_123 (fun r123 g123 hv => ?_)
  exact j_iret hC hQ dX12_copy_126 rfl hv
set_option maxHeartbeats 4000000 in
set_option maxRecDepth 100000 in
theorem lM_copy_167 {Γ : jG} {l : Launch} {D : va_G} {ad : Nat → Nat} {cy : Nat → ClassId} {post : Int32 → GM → Prop} (hC : jC Γ l rM_copy D 9 RX12 cX12_copy wsX12_copy (tyM cy)) (hQ : jQi Γ D (wM ad cy) post (some .int) 0 0) {K143 : Int32 → Int32 → Int32 → Int32 → Int32 → Int32 → Int32 → GM → Prop} (hK143 : ∀ (x1 : Int32) (x2 : Int32) (x3 : Int32) (x4 : Int32) (x5 : Int32) (x6 : Int32) (x7 : Int32) (g : GM), K143 x1 x2 x3 x4 x5 x6 x7 g → J Γ D 9 0 0 (wM ad cy g) 143 [(0, .ref (ad 0)), (1, .int x1), (2, .int x2), (3, .int x3), (4, .int x4), (5, .int x5), (6, .int x6), (7, .int x7)] []) : ∀ (x1 : Int32) (x2 : Int32) (x3 : Int32) (x4 : Int32) (x5 : Int32) (x6 : Int32) (x7 : Int32) (t0 : Int32) (g : GM), vM_copy_167 post K143 x1 x2 x3 x4 x5 x6 x7 t0 g → J Γ D 9 0 0 (wM ad cy g) 167 [(0, .ref (ad 0)), (1, .int x1), (2, .int x2), (3, .int x3), (4, .int x4), (5, .int x5), (6, .int x6), (7, .int x7)] [.int t0] := by
  have hinX12 : ∀ w ∈ wsX120, w ∈ wsX12_copy := fun w h => List.mem_cons_of_mem _ (List.mem_append_right _ h)
  intro x1 x2 x3 x4 x5 x6 x7 t0 g hv
  unfold vM_copy_167 at hv
  refine j_istore (lv' := [(8, .int t0), (0, .ref (ad 0)), (1, .int x1), (2, .int x2), (3, .int x3), (4, .int x4), (5, .int x5), (6, .int x6), (7, .int x7)]) hC dX12_copy_167 (by decide) rfl ?_
  refine j_aload_n (i := 0) hC dX12_copy_169 rfl 1 rfl ?_
  refine j_get (C := RX12) (T := TX12) (N := 22) (v := .ref (ad 5)) hC hinX12 0 (wM_c0 ad cy _) rfl 6 (by decide) (mw 6 rfl) rfl rfl dX12_copy_170 ?_
  refine j_bipush (v := 60) hC dX12_copy_173 (by decide) ?_
  refine j_iload_n (i := 3) hC dX12_copy_175 rfl 4 rfl ?_
  refine j_imul hC dX12_copy_176 ?_
  refine j_iload hC dX12_copy_177 5 rfl ?_
  refine j_iadd hC dX12_copy_179 ?_
  refine j_iload hC dX12_copy_180 0 rfl ?_
  refine j_iadd hC dX12_copy_182 ?_
  refine j_aload_n (i := 0) hC dX12_copy_183 rfl 1 rfl ?_
  refine j_get (C := RX12) (T := TX12) (N := 22) (v := .ref (ad 5)) hC hinX12 0 (wM_c0 ad cy _) rfl 6 (by decide) (mw 6 rfl) rfl rfl dX12_copy_184 ?_
  refine j_bipush (v := 60) hC dX12_copy_187 (by decide) ?_
  refine j_iload_n (i := 1) hC dX12_copy_189 rfl 2 rfl ?_
  refine j_imul hC dX12_copy_190 ?_
  refine j_iload_n (i := 2) hC dX12_copy_191 rfl 3 rfl ?_
  refine j_iadd hC dX12_copy_192 ?_
  refine j_iload hC dX12_copy_193 0 rfl ?_
  refine j_iadd hC dX12_copy_195 ?_
  have hb196 := hv.1
  have hv := hv.2
  refine j_iald (v := ((m_item g) ((((60 : Int32) * x1) + x2) + t0).toNatClampNeg)) hC 5 0 (wM_c5 ad cy _) rfl hb196 rfl dX12_copy_196 ?_
  have hb197 := hv.1
  have hv := hv.2
  refine j_iast hC 5 0 (wM_c5 ad cy _) rfl hb197 (wM_s_item ad cy _ _) dX12_copy_197 ?_
  refine j_iinc (k := 8) (v := (x7 + (1 : Int32))) (lv' := [(7, .int (x7 + (1 : Int32))), (8, .int t0), (0, .ref (ad 0)), (1, .int x1), (2, .int x2), (3, .int x3), (4, .int x4), (5, .int x5), (6, .int x6)]) hC dX12_copy_198 rfl rfl (by decide) rfl ?_
  refine j_goto (tgt := 143) hC dX12_copy_201 (by decide) ?_
  exact j_lv [2, 3, 4, 5, 6, 7, 8, 0] rfl (hK143 _ _ _ _ _ _ _ _ hv)
set_option maxHeartbeats 4000000 in
set_option maxRecDepth 100000 in
theorem lM_copy_143 {Γ : jG} {l : Launch} {D : va_G} {ad : Nat → Nat} {cy : Nat → ClassId} {post : Int32 → GM → Prop} (hC : jC Γ l rM_copy D 9 RX12 cX12_copy wsX12_copy (tyM cy)) (hQ : jQi Γ D (wM ad cy) post (some .int) 0 0) : ∀ (n_ : Nat) (x1 : Int32) (x2 : Int32) (x3 : Int32) (x4 : Int32) (x5 : Int32) (x6 : Int32) (x7 : Int32) (g : GM), vM_copy_143 post n_ x1 x2 x3 x4 x5 x6 x7 g → J Γ D 9 0 0 (wM ad cy g) 143 [(0, .ref (ad 0)), (1, .int x1), (2, .int x2), (3, .int x3), (4, .int x4), (5, .int x5), (6, .int x6), (7, .int x7)] [] := by
  have hinX12 : ∀ w ∈ wsX120, w ∈ wsX12_copy := fun w h => List.mem_cons_of_mem _ (List.mem_append_right _ h)
  intro n_
  induction n_ with
  | zero => intro x1 x2 x3 x4 x5 x6 x7 g hv; exact False.elim hv
  | succ k_ ih =>
    intro x1 x2 x3 x4 x5 x6 x7 g hv
    unfold vM_copy_143 at hv
    refine j_iload hC dX12_copy_143 7 rfl ?_
    refine j_iload hC dX12_copy_145 5 rfl ?_
    refine j_icmp_ge (tgt := 204) hC dX12_copy_147 (by decide) (fun h_ => ?_) (fun h_ => ?_)
    · have hv := hv.1 h_
      refine j_iload hC dX12_copy_204 5 rfl ?_
      exact j_iret hC hQ dX12_copy_206 rfl hv
    · have hv := hv.2 h_
      refine j_iload hC dX12_copy_150 6 rfl ?_
      refine j_if_eq (tgt := 160) hC dX12_copy_152 (by decide) (fun h_ => ?_) (fun h_ => ?_)
      · have hv := hv.1 h_
        refine j_iload hC dX12_copy_160 5 rfl ?_
        refine j_iconst (v := 1) hC dX12_copy_162 (by decide) ?_
        refine j_isub hC dX12_copy_163 ?_
        refine j_iload hC dX12_copy_164 7 rfl ?_
        refine j_isub hC dX12_copy_166 ?_
        exact j_lv [0, 1, 2, 3, 4, 5, 6, 7] rfl (lM_copy_167 hC hQ (K143 := fun x1 x2 x3 x4 x5 x6 x7 g => vM_copy_143 post k_ x1 x2 x3 x4 x5 x6 x7 g) (fun _ _ _ _ _ _ _ _ h_ => ih _ _ _ _ _ _ _ _ h_) _ _ _ _ _ _ _ _ _ hv)
      · have hv := hv.2 h_
        refine j_iload hC dX12_copy_155 7 rfl ?_
        refine j_goto (tgt := 167) hC dX12_copy_157 (by decide) ?_
        exact j_lv [0, 1, 2, 3, 4, 5, 6, 7] rfl (lM_copy_167 hC hQ (K143 := fun x1 x2 x3 x4 x5 x6 x7 g => vM_copy_143 post k_ x1 x2 x3 x4 x5 x6 x7 g) (fun _ _ _ _ _ _ _ _ h_ => ih _ _ _ _ _ _ _ _ h_) _ _ _ _ _ _ _ _ _ hv)
set_option maxHeartbeats 4000000 in
set_option maxRecDepth 100000 in
theorem lM_copy_138 {Γ : jG} {l : Launch} {D : va_G} {ad : Nat → Nat} {cy : Nat → ClassId} {post : Int32 → GM → Prop} (hC : jC Γ l rM_copy D 9 RX12 cX12_copy wsX12_copy (tyM cy)) (hQ : jQi Γ D (wM ad cy) post (some .int) 0 0) : ∀ (x1 : Int32) (x2 : Int32) (x3 : Int32) (x4 : Int32) (x5 : Int32) (t0 : Int32) (g : GM), vM_copy_138 post x1 x2 x3 x4 x5 t0 g → J Γ D 9 0 0 (wM ad cy g) 138 [(0, .ref (ad 0)), (1, .int x1), (2, .int x2), (3, .int x3), (4, .int x4), (5, .int x5)] [.int t0] := by
  have hinX12 : ∀ w ∈ wsX120, w ∈ wsX12_copy := fun w h => List.mem_cons_of_mem _ (List.mem_append_right _ h)
  intro x1 x2 x3 x4 x5 t0 g hv
  unfold vM_copy_138 at hv
  refine j_istore (lv' := [(6, .int t0), (0, .ref (ad 0)), (1, .int x1), (2, .int x2), (3, .int x3), (4, .int x4), (5, .int x5)]) hC dX12_copy_138 (by decide) rfl ?_
  refine j_iconst (v := 0) hC dX12_copy_140 (by decide) ?_
  refine j_istore (lv' := [(7, .int (0 : Int32)), (6, .int t0), (0, .ref (ad 0)), (1, .int x1), (2, .int x2), (3, .int x3), (4, .int x4), (5, .int x5)]) hC dX12_copy_141 (by decide) rfl ?_
  obtain ⟨n_, hv⟩ := hv
  exact j_lv [2, 3, 4, 5, 6, 7, 1, 0] rfl (lM_copy_143 hC hQ n_ _ _ _ _ _ _ _ _ hv)
set_option maxHeartbeats 4000000 in
set_option maxRecDepth 100000 in
theorem cM_copy {l : Launch} {D : va_G} {ad : Nat → Nat} {cy : Nat → ClassId} {g : GM} {a1 : Int32} {a2 : Int32} {a3 : Int32} {a4 : Int32} {a5 : Int32} {post : Int32 → GM → Prop} (hv : vM_copy g a1 a2 a3 a4 a5 post) : jMi l yX12_copy wsX12_copy rM_copy D (tyM cy) [.ref (ad 0), .int a1, .int a2, .int a3, .int a4, .int a5] (wM ad cy g) (wM ad cy) post 0 0 := by
  refine j_meti (cc := cX12_copy) (nL := 9) (rt := (some .int)) (by decide) (Nat.le_of_ble_eq_true rfl) ?_
  intro Γ hC hQ _
  have hC : jC Γ l rM_copy D 9 RX12 cX12_copy wsX12_copy (tyM cy) := hC
  have hinX12 : ∀ w ∈ wsX120, w ∈ wsX12_copy := fun w h => List.mem_cons_of_mem _ (List.mem_append_right _ h)
  refine j_lv (lv' := [(0, .ref (ad 0)), (1, .int a1), (2, .int a2), (3, .int a3), (4, .int a4), (5, .int a5)]) [0, 1, 2, 3, 4, 5] rfl ?_
  unfold vM_copy at hv
  refine j_aload_n (i := 0) hC dX12_copy_0 rfl 0 rfl ?_
  refine j_iconst (v := 0) hC dX12_copy_1 (by decide) ?_
  refine j_put (C := RX12) (T := TX12) (N := 22) (ty := .int) hC hinX12 tyX12 tyX12_ok nmX12 0 (wM_c0 ad cy _) rfl 0 (by decide) (mw 1 rfl) rfl rfl fdX12_0 rfl rfl (Nat.le_of_ble_eq_true rfl) (wM_p_thrown ad cy _ _) dX12_copy_2 ?_
  refine j_iload_n (i := 1) hC dX12_copy_5 rfl 1 rfl ?_
  refine j_callS_i (As := [.int a1]) (rest := []) hC (cM_isSheet hv) 1 gX12_copy_X12_isSheet rfl rfl rfl ⟨Nat.le_of_ble_eq_true rfl, Nat.le_of_ble_eq_true rfl⟩ hdM_isSheet.2 rfl rfl (Nat.le_of_ble_eq_true rfl) ⟨Nat.zero_le _, Nat.zero_le _⟩ dX12_copy_6 (fun r6 g6 hv => ?_)
  refine j_if_eq (tgt := 19) hC dX12_copy_9 (by decide) (fun h_ => ?_) (fun h_ => ?_)
  · have hv := hv.1 h_
    refine j_ldc (v := -1000001) hC dX12_copy_19 (mw 2 rfl) ?_
    exact j_iret hC hQ dX12_copy_21 rfl hv
  · have hv := hv.2 h_
    refine j_iload_n (i := 3) hC dX12_copy_12 rfl 3 rfl ?_
    refine j_callS_i (As := [.int a3]) (rest := []) hC (cM_isSheet hv) 1 gX12_copy_X12_isSheet rfl rfl rfl ⟨Nat.le_of_ble_eq_true rfl, Nat.le_of_ble_eq_true rfl⟩ hdM_isSheet.2 rfl rfl (Nat.le_of_ble_eq_true rfl) ⟨Nat.zero_le _, Nat.zero_le _⟩ dX12_copy_13 (fun r13 g13 hv => ?_)
    refine j_if_ne (tgt := 22) hC dX12_copy_16 (by decide) (fun h_ => ?_) (fun h_ => ?_)
    · have hv := hv.1 h_
      refine j_aload_n (i := 0) hC dX12_copy_22 rfl 0 rfl ?_
      refine j_iconst (v := 0) hC dX12_copy_23 (by decide) ?_
      refine j_put (C := RX12) (T := TX12) (N := 22) (ty := .int) hC hinX12 tyX12 tyX12_ok nmX12 0 (wM_c0 ad cy _) rfl 1 (by decide) (mw 3 rfl) rfl rfl fdX12_1 rfl rfl (Nat.le_of_ble_eq_true rfl) (wM_p_status ad cy _ _) dX12_copy_24 ?_
      refine j_aload_n (i := 0) hC dX12_copy_27 rfl 0 rfl ?_
      refine j_get (C := RX12) (T := TX12) (N := 22) (v := .ref (ad 3)) hC hinX12 0 (wM_c0 ad cy _) rfl 4 (by decide) (mw 4 rfl) rfl rfl dX12_copy_28 ?_
      refine j_iload_n (i := 1) hC dX12_copy_31 rfl 1 rfl ?_
      have hb32 := hv.1
      have hv := hv.2
      refine j_iald (v := ((m_lane g13) a1.toNatClampNeg)) hC 3 0 (wM_c3 ad cy _) rfl hb32 rfl dX12_copy_32 ?_
      refine j_if_lt (tgt := 45) hC dX12_copy_33 (by decide) (fun h_ => ?_) (fun h_ => ?_)
      · have hv := hv.1 h_
        exact j_lv [0] rfl (lM_copy_45 hC hQ _ hv)
      · have hv := hv.2 h_
        refine j_aload_n (i := 0) hC dX12_copy_36 rfl 0 rfl ?_
        refine j_get (C := RX12) (T := TX12) (N := 22) (v := .ref (ad 3)) hC hinX12 0 (wM_c0 ad cy _) rfl 4 (by decide) (mw 4 rfl) rfl rfl dX12_copy_37 ?_
        refine j_iload_n (i := 3) hC dX12_copy_40 rfl 3 rfl ?_
        have hb41 := hv.1
        have hv := hv.2
        refine j_iald (v := ((m_lane g13) a3.toNatClampNeg)) hC 3 0 (wM_c3 ad cy _) rfl hb41 rfl dX12_copy_41 ?_
        refine j_if_ge (tgt := 51) hC dX12_copy_42 (by decide) (fun h_ => ?_) (fun h_ => ?_)
        · have hv := hv.1 h_
          refine j_aload_n (i := 0) hC dX12_copy_51 rfl 0 rfl ?_
          refine j_get (C := RX12) (T := TX12) (N := 22) (v := .ref (ad 3)) hC hinX12 0 (wM_c0 ad cy _) rfl 4 (by decide) (mw 4 rfl) rfl rfl dX12_copy_52 ?_
          refine j_iload_n (i := 1) hC dX12_copy_55 rfl 1 rfl ?_
          have hb56 := hv.1
          have hv := hv.2
          refine j_iald (v := ((m_lane g13) a1.toNatClampNeg)) hC 3 0 (wM_c3 ad cy _) rfl hb56 rfl dX12_copy_56 ?_
          refine j_aload_n (i := 0) hC dX12_copy_57 rfl 0 rfl ?_
          refine j_get (C := RX12) (T := TX12) (N := 22) (v := .ref (ad 3)) hC hinX12 0 (wM_c0 ad cy _) rfl 4 (by decide) (mw 4 rfl) rfl rfl dX12_copy_58 ?_
          refine j_iload_n (i := 3) hC dX12_copy_61 rfl 3 rfl ?_
          have hb62 := hv.1
          have hv := hv.2
          refine j_iald (v := ((m_lane g13) a3.toNatClampNeg)) hC 3 0 (wM_c3 ad cy _) rfl hb62 rfl dX12_copy_62 ?_
          refine j_icmp_eq (tgt := 72) hC dX12_copy_63 (by decide) (fun h_ => ?_) (fun h_ => ?_)
          · have hv := hv.1 h_
            refine j_iload_n (i := 2) hC dX12_copy_72 rfl 2 rfl ?_
            refine j_if_lt (tgt := 121) hC dX12_copy_73 (by decide) (fun h_ => ?_) (fun h_ => ?_)
            · have hv := hv.1 h_
              exact j_lv [0] rfl (lM_copy_121 hC hQ _ hv)
            · have hv := hv.2 h_
              refine j_iload hC dX12_copy_76 4 rfl ?_
              refine j_if_lt (tgt := 121) hC dX12_copy_78 (by decide) (fun h_ => ?_) (fun h_ => ?_)
              · have hv := hv.1 h_
                exact j_lv [0] rfl (lM_copy_121 hC hQ _ hv)
              · have hv := hv.2 h_
                refine j_iload hC dX12_copy_81 5 rfl ?_
                refine j_if_lt (tgt := 121) hC dX12_copy_83 (by decide) (fun h_ => ?_) (fun h_ => ?_)
                · have hv := hv.1 h_
                  exact j_lv [0] rfl (lM_copy_121 hC hQ _ hv)
                · have hv := hv.2 h_
                  refine j_iload_n (i := 2) hC dX12_copy_86 rfl 2 rfl ?_
                  refine j_i2l hC dX12_copy_87 ?_
                  refine j_iload hC dX12_copy_88 5 rfl ?_
                  refine j_i2l hC dX12_copy_90 ?_
                  refine j_ladd hC dX12_copy_91 ?_
                  refine j_aload_n (i := 0) hC dX12_copy_92 rfl 0 rfl ?_
                  refine j_get (C := RX12) (T := TX12) (N := 22) (v := .ref (ad 4)) hC hinX12 0 (wM_c0 ad cy _) rfl 5 (by decide) (mw 5 rfl) rfl rfl dX12_copy_93 ?_
                  refine j_iload_n (i := 1) hC dX12_copy_96 rfl 1 rfl ?_
                  have hb97 := hv.1
                  have hv := hv.2
                  refine j_iald (v := ((m_many g13) a1.toNatClampNeg)) hC 4 0 (wM_c4 ad cy _) rfl hb97 rfl dX12_copy_97 ?_
                  refine j_i2l hC dX12_copy_98 ?_
                  refine j_lcmp_gt (tgt := 121) hC dX12_copy_99 dX12_copy_100 (by decide) (fun h_ => ?_) (fun h_ => ?_)
                  · have hv := hv.1 h_
                    exact j_lv [0] rfl (lM_copy_121 hC hQ _ hv)
                  · have hv := hv.2 h_
                    refine j_iload hC dX12_copy_103 4 rfl ?_
                    refine j_i2l hC dX12_copy_105 ?_
                    refine j_iload hC dX12_copy_106 5 rfl ?_
                    refine j_i2l hC dX12_copy_108 ?_
                    refine j_ladd hC dX12_copy_109 ?_
                    refine j_aload_n (i := 0) hC dX12_copy_110 rfl 0 rfl ?_
                    refine j_get (C := RX12) (T := TX12) (N := 22) (v := .ref (ad 4)) hC hinX12 0 (wM_c0 ad cy _) rfl 5 (by decide) (mw 5 rfl) rfl rfl dX12_copy_111 ?_
                    refine j_iload_n (i := 3) hC dX12_copy_114 rfl 3 rfl ?_
                    have hb115 := hv.1
                    have hv := hv.2
                    refine j_iald (v := ((m_many g13) a3.toNatClampNeg)) hC 4 0 (wM_c4 ad cy _) rfl hb115 rfl dX12_copy_115 ?_
                    refine j_i2l hC dX12_copy_116 ?_
                    refine j_lcmp_le (tgt := 127) hC dX12_copy_117 dX12_copy_118 (by decide) (fun h_ => ?_) (fun h_ => ?_)
                    · have hv := hv.1 h_
                      refine j_iload_n (i := 2) hC dX12_copy_127 rfl 2 rfl ?_
                      refine j_iload hC dX12_copy_128 4 rfl ?_
                      refine j_icmp_lt (tgt := 137) hC dX12_copy_130 (by decide) (fun h_ => ?_) (fun h_ => ?_)
                      · have hv := hv.1 h_
                        refine j_iconst (v := 0) hC dX12_copy_137 (by decide) ?_
                        exact j_lv [0, 1, 2, 3, 4, 5] rfl (lM_copy_138 hC hQ _ _ _ _ _ _ _ hv)
                      · have hv := hv.2 h_
                        refine j_iconst (v := 1) hC dX12_copy_133 (by decide) ?_
                        refine j_goto (tgt := 138) hC dX12_copy_134 (by decide) ?_
                        exact j_lv [0, 1, 2, 3, 4, 5] rfl (lM_copy_138 hC hQ _ _ _ _ _ _ _ hv)
                    · have hv := hv.2 h_
                      exact j_lv [0] rfl (lM_copy_121 hC hQ _ hv)
          · have hv := hv.2 h_
            refine j_aload_n (i := 0) hC dX12_copy_66 rfl 0 rfl ?_
            refine j_iconst (v := 5) hC dX12_copy_67 (by decide) ?_
            refine j_callV_i (C := RX12) (As := [.int (5 : Int32)]) (rest := []) (b := (ad 0)) hC (cM_found hv) 1 gX12_copy_X12_found rfl rfl rfl ⟨Nat.le_of_ble_eq_true rfl, Nat.le_of_ble_eq_true rfl⟩ hdM_found rfl (wM_c0 ad cy _) rfl rfl (Nat.le_of_ble_eq_true rfl) ⟨Nat.zero_le _, Nat.zero_le _⟩ dX12_copy_68 (fun r68 g68 hv => ?_)
            exact j_iret hC hQ dX12_copy_71 rfl hv
        · have hv := hv.2 h_
          exact j_lv [0] rfl (lM_copy_45 hC hQ _ hv)
    · have hv := hv.2 h_
      refine j_ldc (v := -1000001) hC dX12_copy_19 (mw 2 rfl) ?_
      exact j_iret hC hQ dX12_copy_21 rfl hv
theorem hdM_drop : yX12_drop.cls = RX12 ∧ yX12_drop.cls ≠ "java/lang/invoke/MethodHandle" ∧ yX12_drop.cls ≠ "java/lang/invoke/VarHandle" ∧ (parseMethodDescriptor yX12_drop.desc).map (fun d => d.parameters.length) = some 1 := by decide +kernel
abbrev rM_drop : Room := { frames := 2, cells := 0, slots := 0, locals := 45 }
def vM_drop (g : GM) (a1 : Int32) (post : Int32 → GM → Prop) : Prop :=
  (vM_isSheet (sm_thrown g (0 : Int32)) a1 (fun r6 g6 => ((¬ r6 = (0 : Int32) → (vp_in a1 8 ∧ (((0 : Int32) ≤ ((m_lane g6) a1.toNatClampNeg) → (vp_in a1 8 ∧ (vp_in a1 8 ∧ post ((m_many g6) a1.toNatClampNeg) (sm_lane (sm_status g6 (0 : Int32)) (upd (m_lane g6) a1.toNatClampNeg (-1 : Int32)))))) ∧ (¬ (0 : Int32) ≤ ((m_lane g6) a1.toNatClampNeg) → (vM_found (sm_status g6 (0 : Int32)) (1 : Int32) (fun r31 g31 => post r31 g31)))))) ∧ (r6 = (0 : Int32) → post (-1000001 : Int32) g6))))
set_option maxHeartbeats 4000000 in
set_option maxRecDepth 100000 in
theorem cM_drop {l : Launch} {D : va_G} {ad : Nat → Nat} {cy : Nat → ClassId} {g : GM} {a1 : Int32} {post : Int32 → GM → Prop} (hv : vM_drop g a1 post) : jMi l yX12_drop wsX12_drop rM_drop D (tyM cy) [.ref (ad 0), .int a1] (wM ad cy g) (wM ad cy) post 0 0 := by
  refine j_meti (cc := cX12_drop) (nL := 2) (rt := (some .int)) (by decide) (Nat.le_of_ble_eq_true rfl) ?_
  intro Γ hC hQ _
  have hC : jC Γ l rM_drop D 2 RX12 cX12_drop wsX12_drop (tyM cy) := hC
  have hinX12 : ∀ w ∈ wsX120, w ∈ wsX12_drop := fun w h => List.mem_cons_of_mem _ (List.mem_append_right _ h)
  refine j_lv (lv' := [(0, .ref (ad 0)), (1, .int a1)]) [0, 1] rfl ?_
  unfold vM_drop at hv
  refine j_aload_n (i := 0) hC dX12_drop_0 rfl 0 rfl ?_
  refine j_iconst (v := 0) hC dX12_drop_1 (by decide) ?_
  refine j_put (C := RX12) (T := TX12) (N := 22) (ty := .int) hC hinX12 tyX12 tyX12_ok nmX12 0 (wM_c0 ad cy _) rfl 0 (by decide) (mw 1 rfl) rfl rfl fdX12_0 rfl rfl (Nat.le_of_ble_eq_true rfl) (wM_p_thrown ad cy _ _) dX12_drop_2 ?_
  refine j_iload_n (i := 1) hC dX12_drop_5 rfl 1 rfl ?_
  refine j_callS_i (As := [.int a1]) (rest := []) hC (cM_isSheet hv) 1 gX12_drop_X12_isSheet rfl rfl rfl ⟨Nat.le_of_ble_eq_true rfl, Nat.le_of_ble_eq_true rfl⟩ hdM_isSheet.2 rfl rfl (Nat.le_of_ble_eq_true rfl) ⟨Nat.zero_le _, Nat.zero_le _⟩ dX12_drop_6 (fun r6 g6 hv => ?_)
  refine j_if_ne (tgt := 15) hC dX12_drop_9 (by decide) (fun h_ => ?_) (fun h_ => ?_)
  · have hv := hv.1 h_
    refine j_aload_n (i := 0) hC dX12_drop_15 rfl 0 rfl ?_
    refine j_iconst (v := 0) hC dX12_drop_16 (by decide) ?_
    refine j_put (C := RX12) (T := TX12) (N := 22) (ty := .int) hC hinX12 tyX12 tyX12_ok nmX12 0 (wM_c0 ad cy _) rfl 1 (by decide) (mw 3 rfl) rfl rfl fdX12_1 rfl rfl (Nat.le_of_ble_eq_true rfl) (wM_p_status ad cy _ _) dX12_drop_17 ?_
    refine j_aload_n (i := 0) hC dX12_drop_20 rfl 0 rfl ?_
    refine j_get (C := RX12) (T := TX12) (N := 22) (v := .ref (ad 3)) hC hinX12 0 (wM_c0 ad cy _) rfl 4 (by decide) (mw 4 rfl) rfl rfl dX12_drop_21 ?_
    refine j_iload_n (i := 1) hC dX12_drop_24 rfl 1 rfl ?_
    have hb25 := hv.1
    have hv := hv.2
    refine j_iald (v := ((m_lane g6) a1.toNatClampNeg)) hC 3 0 (wM_c3 ad cy _) rfl hb25 rfl dX12_drop_25 ?_
    refine j_if_ge (tgt := 35) hC dX12_drop_26 (by decide) (fun h_ => ?_) (fun h_ => ?_)
    · have hv := hv.1 h_
      refine j_aload_n (i := 0) hC dX12_drop_35 rfl 0 rfl ?_
      refine j_get (C := RX12) (T := TX12) (N := 22) (v := .ref (ad 3)) hC hinX12 0 (wM_c0 ad cy _) rfl 4 (by decide) (mw 4 rfl) rfl rfl dX12_drop_36 ?_
      refine j_iload_n (i := 1) hC dX12_drop_39 rfl 1 rfl ?_
      refine j_iconst (v := -1) hC dX12_drop_40 (by decide) ?_
      have hb41 := hv.1
      have hv := hv.2
      refine j_iast hC 3 0 (wM_c3 ad cy _) rfl hb41 (wM_s_lane ad cy _ _) dX12_drop_41 ?_
      refine j_aload_n (i := 0) hC dX12_drop_42 rfl 0 rfl ?_
      refine j_get (C := RX12) (T := TX12) (N := 22) (v := .ref (ad 4)) hC hinX12 0 (wM_c0 ad cy _) rfl 5 (by decide) (mw 5 rfl) rfl rfl dX12_drop_43 ?_
      refine j_iload_n (i := 1) hC dX12_drop_46 rfl 1 rfl ?_
      have hb47 := hv.1
      have hv := hv.2
      refine j_iald (v := ((m_many g6) a1.toNatClampNeg)) hC 4 0 (wM_c4 ad cy _) rfl hb47 rfl dX12_drop_47 ?_
      exact j_iret hC hQ dX12_drop_48 rfl hv
    · have hv := hv.2 h_
      refine j_aload_n (i := 0) hC dX12_drop_29 rfl 0 rfl ?_
      refine j_iconst (v := 1) hC dX12_drop_30 (by decide) ?_
      refine j_callV_i (C := RX12) (As := [.int (1 : Int32)]) (rest := []) (b := (ad 0)) hC (cM_found hv) 1 gX12_drop_X12_found rfl rfl rfl ⟨Nat.le_of_ble_eq_true rfl, Nat.le_of_ble_eq_true rfl⟩ hdM_found rfl (wM_c0 ad cy _) rfl rfl (Nat.le_of_ble_eq_true rfl) ⟨Nat.zero_le _, Nat.zero_le _⟩ dX12_drop_31 (fun r31 g31 hv => ?_)
      exact j_iret hC hQ dX12_drop_34 rfl hv
  · have hv := hv.2 h_
    refine j_ldc (v := -1000001) hC dX12_drop_12 (mw 2 rfl) ?_
    exact j_iret hC hQ dX12_drop_14 rfl hv
theorem hdM_world : yX12_world.cls = RX12 ∧ yX12_world.cls ≠ "java/lang/invoke/MethodHandle" ∧ yX12_world.cls ≠ "java/lang/invoke/VarHandle" ∧ (parseMethodDescriptor yX12_world.desc).map (fun d => d.parameters.length) = some 3 := by decide +kernel
abbrev rM_world : Room := { frames := 2, cells := 0, slots := 0, locals := 45 }
def vM_world_75 (post : Int32 → GM → Prop) (g : GM) : Prop :=
  (vM_found g (2 : Int32) (fun r77 g77 => post r77 g77))
def vM_world_175 (post : Int32 → GM → Prop) (x1 : Int32) (g : GM) : Prop :=
  (vp_in (m_worlds g) 8 ∧ post (((m_worlds g) + (1 : Int32)) - (1 : Int32)) (sm_worlds (sm_weight g (upd (m_weight g) (m_worlds g).toNatClampNeg x1)) ((m_worlds g) + (1 : Int32))))
def vM_world_133 (post : Int32 → GM → Prop) : Nat → Int32 → Int32 → Int32 → Int32 → GM → Prop
  | 0, _, _, _, _, _ => False
  | k_ + 1, x1, x2, x3, x4, g =>
  (((8 : Int32) ≤ x4 → (vM_world_175 post x1 g)) ∧ (¬ (8 : Int32) ≤ x4 → (vp_in ((((60 : Int32) * x2) + x3) + x4) 480 ∧ (vp_in (((8 : Int32) * (m_worlds g)) + x4) 64 ∧ (vM_world_133 post k_ x1 x2 x3 (x4 + (1 : Int32)) (sm_sea g (upd (m_sea g) (((8 : Int32) * (m_worlds g)) + x4).toNatClampNeg ((m_item g) ((((60 : Int32) * x2) + x3) + x4).toNatClampNeg))))))))
def vM_world_125 (post : Int32 → GM → Prop) (x1 : Int32) (x2 : Int32) (x3 : Int32) (g : GM) : Prop :=
  (∃ n_ : Nat, vM_world_133 post n_ x1 x2 x3 (0 : Int32) (sm_status g (0 : Int32)))
def vM_world_84 (post : Int32 → GM → Prop) : Nat → Int32 → Int32 → Int32 → Int32 → GM → Prop
  | 0, _, _, _, _, _ => False
  | k_ + 1, x1, x2, x3, x4, g =>
  (((8 : Int32) ≤ x4 → (vM_world_125 post x1 x2 x3 g)) ∧ (¬ (8 : Int32) ≤ x4 → (vp_in ((((60 : Int32) * x2) + x3) + x4) 480 ∧ (vM_in g (((m_item g) ((((60 : Int32) * x2) + x3) + x4).toNatClampNeg).toInt64) (0 : Int64) (1000 : Int64) (fun r110 g110 => ((¬ r110 = (0 : Int32) → (vM_world_84 post k_ x1 x2 x3 (x4 + (1 : Int32)) g110)) ∧ (r110 = (0 : Int32) → post (-1000001 : Int32) g110)))))))
def vM_world (g : GM) (a1 : Int32) (a2 : Int32) (a3 : Int32) (post : Int32 → GM → Prop) : Prop :=
  (vM_in (sm_thrown g (0 : Int32)) (a1.toInt64) (1 : Int64) (20 : Int64) (fun r11 g11 => ((r11 = (0 : Int32) → post (-1000001 : Int32) g11) ∧ (¬ r11 = (0 : Int32) → (vM_isSheet g11 a2 (fun r18 g18 => ((¬ r18 = (0 : Int32) → ((¬ (m_worlds g18) = (8 : Int32) → (vp_in a2 8 ∧ (((0 : Int32) ≤ ((m_lane g18) a2.toNatClampNeg) → ((a3 < (0 : Int32) → (vM_world_75 post g18)) ∧ (¬ a3 < (0 : Int32) → (vp_in a2 8 ∧ ((((a3.toInt64) + (8 : Int64)) ≤ (((m_many g18) a2.toNatClampNeg).toInt64) → (∃ n_ : Nat, vM_world_84 post n_ a1 a2 a3 (0 : Int32) g18)) ∧ (¬ ((a3.toInt64) + (8 : Int64)) ≤ (((m_many g18) a2.toNatClampNeg).toInt64) → (vM_world_75 post g18))))))) ∧ (¬ (0 : Int32) ≤ ((m_lane g18) a2.toNatClampNeg) → (vM_found g18 (1 : Int32) (fun r50 g50 => post r50 g50)))))) ∧ ((m_worlds g18) = (8 : Int32) → post (-1000003 : Int32) g18))) ∧ (r18 = (0 : Int32) → post (-1000001 : Int32) g18))))))))
set_option maxHeartbeats 4000000 in
set_option maxRecDepth 100000 in
theorem lM_world_75 {Γ : jG} {l : Launch} {D : va_G} {ad : Nat → Nat} {cy : Nat → ClassId} {post : Int32 → GM → Prop} (hC : jC Γ l rM_world D 5 RX12 cX12_world wsX12_world (tyM cy)) (hQ : jQi Γ D (wM ad cy) post (some .int) 0 0) : ∀ (g : GM), vM_world_75 post g → J Γ D 5 0 0 (wM ad cy g) 75 [(0, .ref (ad 0))] [] := by
  have hinX12 : ∀ w ∈ wsX120, w ∈ wsX12_world := fun w h => List.mem_cons_of_mem _ (List.mem_append_right _ h)
  intro g hv
  unfold vM_world_75 at hv
  refine j_aload_n (i := 0) hC dX12_world_75 rfl 0 rfl ?_
  refine j_iconst (v := 2) hC dX12_world_76 (by decide) ?_
  refine j_callV_i (C := RX12) (As := [.int (2 : Int32)]) (rest := []) (b := (ad 0)) hC (cM_found hv) 1 gX12_world_X12_found rfl rfl rfl ⟨Nat.le_of_ble_eq_true rfl, Nat.le_of_ble_eq_true rfl⟩ hdM_found rfl (wM_c0 ad cy _) rfl rfl (Nat.le_of_ble_eq_true rfl) ⟨Nat.zero_le _, Nat.zero_le _⟩ dX12_world_77 (fun r77 g77 hv => ?_)
  exact j_iret hC hQ dX12_world_80 rfl hv
set_option maxHeartbeats 4000000 in
set_option maxRecDepth 100000 in
theorem lM_world_175 {Γ : jG} {l : Launch} {D : va_G} {ad : Nat → Nat} {cy : Nat → ClassId} {post : Int32 → GM → Prop} (hC : jC Γ l rM_world D 5 RX12 cX12_world wsX12_world (tyM cy)) (hQ : jQi Γ D (wM ad cy) post (some .int) 0 0) : ∀ (x1 : Int32) (g : GM), vM_world_175 post x1 g → J Γ D 5 0 0 (wM ad cy g) 175 [(0, .ref (ad 0)), (1, .int x1)] [] := by
  have hinX12 : ∀ w ∈ wsX120, w ∈ wsX12_world := fun w h => List.mem_cons_of_mem _ (List.mem_append_right _ h)
  intro x1 g hv
  unfold vM_world_175 at hv
  refine j_aload_n (i := 0) hC dX12_world_175 rfl 0 rfl ?_
  refine j_get (C := RX12) (T := TX12) (N := 22) (v := .ref (ad 6)) hC hinX12 0 (wM_c0 ad cy _) rfl 8 (by decide) (mw 13 rfl) rfl rfl dX12_world_176 ?_
  refine j_aload_n (i := 0) hC dX12_world_179 rfl 0 rfl ?_
  refine j_get (C := RX12) (T := TX12) (N := 22) (v := .int (m_worlds g)) hC hinX12 0 (wM_c0 ad cy _) rfl 7 (by decide) (mw 4 rfl) rfl rfl dX12_world_180 ?_
  refine j_iload_n (i := 1) hC dX12_world_183 rfl 1 rfl ?_
  have hb184 := hv.1
  have hv := hv.2
  refine j_iast hC 6 0 (wM_c6 ad cy _) rfl hb184 (wM_s_weight ad cy _ _) dX12_world_184 ?_
  refine j_aload_n (i := 0) hC dX12_world_185 rfl 0 rfl ?_
  refine j_dup hC dX12_world_186 rfl ?_
  refine j_get (C := RX12) (T := TX12) (N := 22) (v := .int (m_worlds g)) hC hinX12 0 (wM_c0 ad cy _) rfl 7 (by decide) (mw 4 rfl) rfl rfl dX12_world_187 ?_
  refine j_iconst (v := 1) hC dX12_world_190 (by decide) ?_
  refine j_iadd hC dX12_world_191 ?_
  refine j_put (C := RX12) (T := TX12) (N := 22) (ty := .int) hC hinX12 tyX12 tyX12_ok nmX12 0 (wM_c0 ad cy _) rfl 7 (by decide) (mw 4 rfl) rfl rfl fdX12_7 rfl rfl (Nat.le_of_ble_eq_true rfl) (wM_p_worlds ad cy _ _) dX12_world_192 ?_
  refine j_aload_n (i := 0) hC dX12_world_195 rfl 0 rfl ?_
  refine j_get (C := RX12) (T := TX12) (N := 22) (v := .int ((m_worlds g) + (1 : Int32))) hC hinX12 0 (wM_c0 ad cy _) rfl 7 (by decide) (mw 4 rfl) rfl rfl dX12_world_196 ?_
  refine j_iconst (v := 1) hC dX12_world_199 (by decide) ?_
  refine j_isub hC dX12_world_200 ?_
  exact j_iret hC hQ dX12_world_201 rfl hv
set_option maxHeartbeats 4000000 in
set_option maxRecDepth 100000 in
theorem lM_world_133 {Γ : jG} {l : Launch} {D : va_G} {ad : Nat → Nat} {cy : Nat → ClassId} {post : Int32 → GM → Prop} (hC : jC Γ l rM_world D 5 RX12 cX12_world wsX12_world (tyM cy)) (hQ : jQi Γ D (wM ad cy) post (some .int) 0 0) : ∀ (n_ : Nat) (x1 : Int32) (x2 : Int32) (x3 : Int32) (x4 : Int32) (g : GM), vM_world_133 post n_ x1 x2 x3 x4 g → J Γ D 5 0 0 (wM ad cy g) 133 [(0, .ref (ad 0)), (1, .int x1), (2, .int x2), (3, .int x3), (4, .int x4)] [] := by
  have hinX12 : ∀ w ∈ wsX120, w ∈ wsX12_world := fun w h => List.mem_cons_of_mem _ (List.mem_append_right _ h)
  intro n_
  induction n_ with
  | zero => intro x1 x2 x3 x4 g hv; exact False.elim hv
  | succ k_ ih =>
    intro x1 x2 x3 x4 g hv
    unfold vM_world_133 at hv
    refine j_iload hC dX12_world_133 4 rfl ?_
    refine j_bipush (v := 8) hC dX12_world_135 (by decide) ?_
    refine j_icmp_ge (tgt := 175) hC dX12_world_137 (by decide) (fun h_ => ?_) (fun h_ => ?_)
    · have hv := hv.1 h_
      exact j_lv [0, 1] rfl (lM_world_175 hC hQ _ _ hv)
    · have hv := hv.2 h_
      refine j_aload_n (i := 0) hC dX12_world_140 rfl 0 rfl ?_
      refine j_get (C := RX12) (T := TX12) (N := 22) (v := .ref (ad 7)) hC hinX12 0 (wM_c0 ad cy _) rfl 9 (by decide) (mw 12 rfl) rfl rfl dX12_world_141 ?_
      refine j_bipush (v := 8) hC dX12_world_144 (by decide) ?_
      refine j_aload_n (i := 0) hC dX12_world_146 rfl 0 rfl ?_
      refine j_get (C := RX12) (T := TX12) (N := 22) (v := .int (m_worlds g)) hC hinX12 0 (wM_c0 ad cy _) rfl 7 (by decide) (mw 4 rfl) rfl rfl dX12_world_147 ?_
      refine j_imul hC dX12_world_150 ?_
      refine j_iload hC dX12_world_151 4 rfl ?_
      refine j_iadd hC dX12_world_153 ?_
      refine j_aload_n (i := 0) hC dX12_world_154 rfl 0 rfl ?_
      refine j_get (C := RX12) (T := TX12) (N := 22) (v := .ref (ad 5)) hC hinX12 0 (wM_c0 ad cy _) rfl 6 (by decide) (mw 9 rfl) rfl rfl dX12_world_155 ?_
      refine j_bipush (v := 60) hC dX12_world_158 (by decide) ?_
      refine j_iload_n (i := 2) hC dX12_world_160 rfl 2 rfl ?_
      refine j_imul hC dX12_world_161 ?_
      refine j_iload_n (i := 3) hC dX12_world_162 rfl 3 rfl ?_
      refine j_iadd hC dX12_world_163 ?_
      refine j_iload hC dX12_world_164 4 rfl ?_
      refine j_iadd hC dX12_world_166 ?_
      have hb167 := hv.1
      have hv := hv.2
      refine j_iald (v := ((m_item g) ((((60 : Int32) * x2) + x3) + x4).toNatClampNeg)) hC 5 0 (wM_c5 ad cy _) rfl hb167 rfl dX12_world_167 ?_
      have hb168 := hv.1
      have hv := hv.2
      refine j_iast hC 7 0 (wM_c7 ad cy _) rfl hb168 (wM_s_sea ad cy _ _) dX12_world_168 ?_
      refine j_iinc (k := 4) (v := (x4 + (1 : Int32))) (lv' := [(4, .int (x4 + (1 : Int32))), (0, .ref (ad 0)), (1, .int x1), (2, .int x2), (3, .int x3)]) hC dX12_world_169 rfl rfl (by decide) rfl ?_
      refine j_goto (tgt := 133) hC dX12_world_172 (by decide) ?_
      exact j_lv [1, 2, 3, 4, 0] rfl (ih _ _ _ _ _ hv)
set_option maxHeartbeats 4000000 in
set_option maxRecDepth 100000 in
theorem lM_world_125 {Γ : jG} {l : Launch} {D : va_G} {ad : Nat → Nat} {cy : Nat → ClassId} {post : Int32 → GM → Prop} (hC : jC Γ l rM_world D 5 RX12 cX12_world wsX12_world (tyM cy)) (hQ : jQi Γ D (wM ad cy) post (some .int) 0 0) : ∀ (x1 : Int32) (x2 : Int32) (x3 : Int32) (g : GM), vM_world_125 post x1 x2 x3 g → J Γ D 5 0 0 (wM ad cy g) 125 [(0, .ref (ad 0)), (1, .int x1), (2, .int x2), (3, .int x3)] [] := by
  have hinX12 : ∀ w ∈ wsX120, w ∈ wsX12_world := fun w h => List.mem_cons_of_mem _ (List.mem_append_right _ h)
  intro x1 x2 x3 g hv
  unfold vM_world_125 at hv
  refine j_aload_n (i := 0) hC dX12_world_125 rfl 0 rfl ?_
  refine j_iconst (v := 0) hC dX12_world_126 (by decide) ?_
  refine j_put (C := RX12) (T := TX12) (N := 22) (ty := .int) hC hinX12 tyX12 tyX12_ok nmX12 0 (wM_c0 ad cy _) rfl 1 (by decide) (mw 11 rfl) rfl rfl fdX12_1 rfl rfl (Nat.le_of_ble_eq_true rfl) (wM_p_status ad cy _ _) dX12_world_127 ?_
  refine j_iconst (v := 0) hC dX12_world_130 (by decide) ?_
  refine j_istore (lv' := [(4, .int (0 : Int32)), (0, .ref (ad 0)), (1, .int x1), (2, .int x2), (3, .int x3)]) hC dX12_world_131 (by decide) rfl ?_
  obtain ⟨n_, hv⟩ := hv
  exact j_lv [1, 2, 3, 4, 0] rfl (lM_world_133 hC hQ n_ _ _ _ _ _ hv)
set_option maxHeartbeats 4000000 in
set_option maxRecDepth 100000 in
theorem lM_world_84 {Γ : jG} {l : Launch} {D : va_G} {ad : Nat → Nat} {cy : Nat → ClassId} {post : Int32 → GM → Prop} (hC : jC Γ l rM_world D 5 RX12 cX12_world wsX12_world (tyM cy)) (hQ : jQi Γ D (wM ad cy) post (some .int) 0 0) : ∀ (n_ : Nat) (x1 : Int32) (x2 : Int32) (x3 : Int32) (x4 : Int32) (g : GM), vM_world_84 post n_ x1 x2 x3 x4 g → J Γ D 5 0 0 (wM ad cy g) 84 [(0, .ref (ad 0)), (1, .int x1), (2, .int x2), (3, .int x3), (4, .int x4)] [] := by
  have hinX12 : ∀ w ∈ wsX120, w ∈ wsX12_world := fun w h => List.mem_cons_of_mem _ (List.mem_append_right _ h)
  intro n_
  induction n_ with
  | zero => intro x1 x2 x3 x4 g hv; exact False.elim hv
  | succ k_ ih =>
    intro x1 x2 x3 x4 g hv
    unfold vM_world_84 at hv
    refine j_iload hC dX12_world_84 4 rfl ?_
    refine j_bipush (v := 8) hC dX12_world_86 (by decide) ?_
    refine j_icmp_ge (tgt := 125) hC dX12_world_88 (by decide) (fun h_ => ?_) (fun h_ => ?_)
    · have hv := hv.1 h_
      exact j_lv [0, 1, 2, 3] rfl (lM_world_125 hC hQ _ _ _ _ hv)
    · have hv := hv.2 h_
      refine j_aload_n (i := 0) hC dX12_world_91 rfl 0 rfl ?_
      refine j_get (C := RX12) (T := TX12) (N := 22) (v := .ref (ad 5)) hC hinX12 0 (wM_c0 ad cy _) rfl 6 (by decide) (mw 9 rfl) rfl rfl dX12_world_92 ?_
      refine j_bipush (v := 60) hC dX12_world_95 (by decide) ?_
      refine j_iload_n (i := 2) hC dX12_world_97 rfl 2 rfl ?_
      refine j_imul hC dX12_world_98 ?_
      refine j_iload_n (i := 3) hC dX12_world_99 rfl 3 rfl ?_
      refine j_iadd hC dX12_world_100 ?_
      refine j_iload hC dX12_world_101 4 rfl ?_
      refine j_iadd hC dX12_world_103 ?_
      have hb104 := hv.1
      have hv := hv.2
      refine j_iald (v := ((m_item g) ((((60 : Int32) * x2) + x3) + x4).toNatClampNeg)) hC 5 0 (wM_c5 ad cy _) rfl hb104 rfl dX12_world_104 ?_
      refine j_i2l hC dX12_world_105 ?_
      refine j_lconst (v := 0) hC dX12_world_106 (by decide) ?_
      refine j_ldc2 (v := 1000) hC dX12_world_107 (mw 10 rfl) ?_
      refine j_callS_i (As := [.long (((m_item g) ((((60 : Int32) * x2) + x3) + x4).toNatClampNeg).toInt64), .long (0 : Int64), .long (1000 : Int64)]) (rest := []) hC (cM_in hv) 3 gX12_world_X12_in rfl rfl rfl ⟨Nat.le_of_ble_eq_true rfl, Nat.le_of_ble_eq_true rfl⟩ hdM_in.2 rfl rfl (Nat.le_of_ble_eq_true rfl) ⟨Nat.zero_le _, Nat.zero_le _⟩ dX12_world_110 (fun r110 g110 hv => ?_)
      refine j_if_ne (tgt := 119) hC dX12_world_113 (by decide) (fun h_ => ?_) (fun h_ => ?_)
      · have hv := hv.1 h_
        refine j_iinc (k := 4) (v := (x4 + (1 : Int32))) (lv' := [(4, .int (x4 + (1 : Int32))), (0, .ref (ad 0)), (1, .int x1), (2, .int x2), (3, .int x3)]) hC dX12_world_119 rfl rfl (by decide) rfl ?_
        refine j_goto (tgt := 84) hC dX12_world_122 (by decide) ?_
        exact j_lv [1, 2, 3, 4, 0] rfl (ih _ _ _ _ _ hv)
      · have hv := hv.2 h_
        refine j_ldc (v := -1000001) hC dX12_world_116 (mw 3 rfl) ?_
        exact j_iret hC hQ dX12_world_118 rfl hv
set_option maxHeartbeats 4000000 in
set_option maxRecDepth 100000 in
theorem cM_world {l : Launch} {D : va_G} {ad : Nat → Nat} {cy : Nat → ClassId} {g : GM} {a1 : Int32} {a2 : Int32} {a3 : Int32} {post : Int32 → GM → Prop} (hv : vM_world g a1 a2 a3 post) : jMi l yX12_world wsX12_world rM_world D (tyM cy) [.ref (ad 0), .int a1, .int a2, .int a3] (wM ad cy g) (wM ad cy) post 0 0 := by
  refine j_meti (cc := cX12_world) (nL := 5) (rt := (some .int)) (by decide) (Nat.le_of_ble_eq_true rfl) ?_
  intro Γ hC hQ _
  have hC : jC Γ l rM_world D 5 RX12 cX12_world wsX12_world (tyM cy) := hC
  have hinX12 : ∀ w ∈ wsX120, w ∈ wsX12_world := fun w h => List.mem_cons_of_mem _ (List.mem_append_right _ h)
  refine j_lv (lv' := [(0, .ref (ad 0)), (1, .int a1), (2, .int a2), (3, .int a3)]) [0, 1, 2, 3] rfl ?_
  unfold vM_world at hv
  refine j_aload_n (i := 0) hC dX12_world_0 rfl 0 rfl ?_
  refine j_iconst (v := 0) hC dX12_world_1 (by decide) ?_
  refine j_put (C := RX12) (T := TX12) (N := 22) (ty := .int) hC hinX12 tyX12 tyX12_ok nmX12 0 (wM_c0 ad cy _) rfl 0 (by decide) (mw 1 rfl) rfl rfl fdX12_0 rfl rfl (Nat.le_of_ble_eq_true rfl) (wM_p_thrown ad cy _ _) dX12_world_2 ?_
  refine j_iload_n (i := 1) hC dX12_world_5 rfl 1 rfl ?_
  refine j_i2l hC dX12_world_6 ?_
  refine j_lconst (v := 1) hC dX12_world_7 (by decide) ?_
  refine j_ldc2 (v := 20) hC dX12_world_8 (mw 2 rfl) ?_
  refine j_callS_i (As := [.long (a1.toInt64), .long (1 : Int64), .long (20 : Int64)]) (rest := []) hC (cM_in hv) 3 gX12_world_X12_in rfl rfl rfl ⟨Nat.le_of_ble_eq_true rfl, Nat.le_of_ble_eq_true rfl⟩ hdM_in.2 rfl rfl (Nat.le_of_ble_eq_true rfl) ⟨Nat.zero_le _, Nat.zero_le _⟩ dX12_world_11 (fun r11 g11 hv => ?_)
  refine j_if_eq (tgt := 24) hC dX12_world_14 (by decide) (fun h_ => ?_) (fun h_ => ?_)
  · have hv := hv.1 h_
    refine j_ldc (v := -1000001) hC dX12_world_24 (mw 3 rfl) ?_
    exact j_iret hC hQ dX12_world_26 rfl hv
  · have hv := hv.2 h_
    refine j_iload_n (i := 2) hC dX12_world_17 rfl 2 rfl ?_
    refine j_callS_i (As := [.int a2]) (rest := []) hC (cM_isSheet hv) 1 gX12_world_X12_isSheet rfl rfl rfl ⟨Nat.le_of_ble_eq_true rfl, Nat.le_of_ble_eq_true rfl⟩ hdM_isSheet.2 rfl rfl (Nat.le_of_ble_eq_true rfl) ⟨Nat.zero_le _, Nat.zero_le _⟩ dX12_world_18 (fun r18 g18 hv => ?_)
    refine j_if_ne (tgt := 27) hC dX12_world_21 (by decide) (fun h_ => ?_) (fun h_ => ?_)
    · have hv := hv.1 h_
      refine j_aload_n (i := 0) hC dX12_world_27 rfl 0 rfl ?_
      refine j_get (C := RX12) (T := TX12) (N := 22) (v := .int (m_worlds g18)) hC hinX12 0 (wM_c0 ad cy _) rfl 7 (by decide) (mw 4 rfl) rfl rfl dX12_world_28 ?_
      refine j_bipush (v := 8) hC dX12_world_31 (by decide) ?_
      refine j_icmp_ne (tgt := 39) hC dX12_world_33 (by decide) (fun h_ => ?_) (fun h_ => ?_)
      · have hv := hv.1 h_
        refine j_aload_n (i := 0) hC dX12_world_39 rfl 0 rfl ?_
        refine j_get (C := RX12) (T := TX12) (N := 22) (v := .ref (ad 3)) hC hinX12 0 (wM_c0 ad cy _) rfl 4 (by decide) (mw 6 rfl) rfl rfl dX12_world_40 ?_
        refine j_iload_n (i := 2) hC dX12_world_43 rfl 2 rfl ?_
        have hb44 := hv.1
        have hv := hv.2
        refine j_iald (v := ((m_lane g18) a2.toNatClampNeg)) hC 3 0 (wM_c3 ad cy _) rfl hb44 rfl dX12_world_44 ?_
        refine j_if_ge (tgt := 54) hC dX12_world_45 (by decide) (fun h_ => ?_) (fun h_ => ?_)
        · have hv := hv.1 h_
          refine j_iload_n (i := 3) hC dX12_world_54 rfl 3 rfl ?_
          refine j_if_lt (tgt := 75) hC dX12_world_55 (by decide) (fun h_ => ?_) (fun h_ => ?_)
          · have hv := hv.1 h_
            exact j_lv [0] rfl (lM_world_75 hC hQ _ hv)
          · have hv := hv.2 h_
            refine j_iload_n (i := 3) hC dX12_world_58 rfl 3 rfl ?_
            refine j_i2l hC dX12_world_59 ?_
            refine j_ldc2 (v := 8) hC dX12_world_60 (mw 7 rfl) ?_
            refine j_ladd hC dX12_world_63 ?_
            refine j_aload_n (i := 0) hC dX12_world_64 rfl 0 rfl ?_
            refine j_get (C := RX12) (T := TX12) (N := 22) (v := .ref (ad 4)) hC hinX12 0 (wM_c0 ad cy _) rfl 5 (by decide) (mw 8 rfl) rfl rfl dX12_world_65 ?_
            refine j_iload_n (i := 2) hC dX12_world_68 rfl 2 rfl ?_
            have hb69 := hv.1
            have hv := hv.2
            refine j_iald (v := ((m_many g18) a2.toNatClampNeg)) hC 4 0 (wM_c4 ad cy _) rfl hb69 rfl dX12_world_69 ?_
            refine j_i2l hC dX12_world_70 ?_
            refine j_lcmp_le (tgt := 81) hC dX12_world_71 dX12_world_72 (by decide) (fun h_ => ?_) (fun h_ => ?_)
            · have hv := hv.1 h_
              refine j_iconst (v := 0) hC dX12_world_81 (by decide) ?_
              refine j_istore (lv' := [(4, .int (0 : Int32)), (0, .ref (ad 0)), (1, .int a1), (2, .int a2), (3, .int a3)]) hC dX12_world_82 (by decide) rfl ?_
              obtain ⟨n_, hv⟩ := hv
              exact j_lv [1, 2, 3, 4, 0] rfl (lM_world_84 hC hQ n_ _ _ _ _ _ hv)
            · have hv := hv.2 h_
              exact j_lv [0] rfl (lM_world_75 hC hQ _ hv)
        · have hv := hv.2 h_
          refine j_aload_n (i := 0) hC dX12_world_48 rfl 0 rfl ?_
          refine j_iconst (v := 1) hC dX12_world_49 (by decide) ?_
          refine j_callV_i (C := RX12) (As := [.int (1 : Int32)]) (rest := []) (b := (ad 0)) hC (cM_found hv) 1 gX12_world_X12_found rfl rfl rfl ⟨Nat.le_of_ble_eq_true rfl, Nat.le_of_ble_eq_true rfl⟩ hdM_found rfl (wM_c0 ad cy _) rfl rfl (Nat.le_of_ble_eq_true rfl) ⟨Nat.zero_le _, Nat.zero_le _⟩ dX12_world_50 (fun r50 g50 hv => ?_)
          exact j_iret hC hQ dX12_world_53 rfl hv
      · have hv := hv.2 h_
        refine j_ldc (v := -1000003) hC dX12_world_36 (mw 5 rfl) ?_
        exact j_iret hC hQ dX12_world_38 rfl hv
    · have hv := hv.2 h_
      refine j_ldc (v := -1000001) hC dX12_world_24 (mw 3 rfl) ?_
      exact j_iret hC hQ dX12_world_26 rfl hv
theorem hdM_river : yX12_river.cls = RX12 ∧ yX12_river.cls ≠ "java/lang/invoke/MethodHandle" ∧ yX12_river.cls ≠ "java/lang/invoke/VarHandle" ∧ (parseMethodDescriptor yX12_river.desc).map (fun d => d.parameters.length) = some 2 := by decide +kernel
abbrev rM_river : Room := { frames := 1, cells := 0, slots := 0, locals := 25 }
def vM_river (g : GM) (a1 : Int32) (a2 : Int32) (post : Int32 → GM → Prop) : Prop :=
  (vM_in (sm_thrown g (0 : Int32)) (a1.toInt64) (0 : Int64) (7 : Int64) (fun r11 g11 => ((r11 = (0 : Int32) → post (-1000001 : Int32) g11) ∧ (¬ r11 = (0 : Int32) → (vM_in g11 (a2.toInt64) (0 : Int64) (100 : Int64) (fun r23 g23 => ((¬ r23 = (0 : Int32) → (vp_in a1 8 ∧ (vp_in a1 8 ∧ post ((m_river g23) a1.toNatClampNeg) (sm_river g23 (upd (m_river g23) a1.toNatClampNeg a2))))) ∧ (r23 = (0 : Int32) → post (-1000001 : Int32) g23))))))))
set_option maxHeartbeats 4000000 in
set_option maxRecDepth 100000 in
theorem cM_river {l : Launch} {D : va_G} {ad : Nat → Nat} {cy : Nat → ClassId} {g : GM} {a1 : Int32} {a2 : Int32} {post : Int32 → GM → Prop} (hv : vM_river g a1 a2 post) : jMi l yX12_river wsX12_river rM_river D (tyM cy) [.ref (ad 0), .int a1, .int a2] (wM ad cy g) (wM ad cy) post 0 0 := by
  refine j_meti (cc := cX12_river) (nL := 4) (rt := (some .int)) (by decide) (Nat.le_of_ble_eq_true rfl) ?_
  intro Γ hC hQ _
  have hC : jC Γ l rM_river D 4 RX12 cX12_river wsX12_river (tyM cy) := hC
  have hinX12 : ∀ w ∈ wsX120, w ∈ wsX12_river := fun w h => List.mem_cons_of_mem _ (List.mem_append_right _ h)
  refine j_lv (lv' := [(0, .ref (ad 0)), (1, .int a1), (2, .int a2)]) [0, 1, 2] rfl ?_
  unfold vM_river at hv
  refine j_aload_n (i := 0) hC dX12_river_0 rfl 0 rfl ?_
  refine j_iconst (v := 0) hC dX12_river_1 (by decide) ?_
  refine j_put (C := RX12) (T := TX12) (N := 22) (ty := .int) hC hinX12 tyX12 tyX12_ok nmX12 0 (wM_c0 ad cy _) rfl 0 (by decide) (mw 1 rfl) rfl rfl fdX12_0 rfl rfl (Nat.le_of_ble_eq_true rfl) (wM_p_thrown ad cy _ _) dX12_river_2 ?_
  refine j_iload_n (i := 1) hC dX12_river_5 rfl 1 rfl ?_
  refine j_i2l hC dX12_river_6 ?_
  refine j_lconst (v := 0) hC dX12_river_7 (by decide) ?_
  refine j_ldc2 (v := 7) hC dX12_river_8 (mw 2 rfl) ?_
  refine j_callS_i (As := [.long (a1.toInt64), .long (0 : Int64), .long (7 : Int64)]) (rest := []) hC (cM_in hv) 3 gX12_river_X12_in rfl rfl rfl ⟨Nat.le_of_ble_eq_true rfl, Nat.le_of_ble_eq_true rfl⟩ hdM_in.2 rfl rfl (Nat.le_of_ble_eq_true rfl) ⟨Nat.zero_le _, Nat.zero_le _⟩ dX12_river_11 (fun r11 g11 hv => ?_)
  refine j_if_eq (tgt := 29) hC dX12_river_14 (by decide) (fun h_ => ?_) (fun h_ => ?_)
  · have hv := hv.1 h_
    refine j_ldc (v := -1000001) hC dX12_river_29 (mw 4 rfl) ?_
    exact j_iret hC hQ dX12_river_31 rfl hv
  · have hv := hv.2 h_
    refine j_iload_n (i := 2) hC dX12_river_17 rfl 2 rfl ?_
    refine j_i2l hC dX12_river_18 ?_
    refine j_lconst (v := 0) hC dX12_river_19 (by decide) ?_
    refine j_ldc2 (v := 100) hC dX12_river_20 (mw 3 rfl) ?_
    refine j_callS_i (As := [.long (a2.toInt64), .long (0 : Int64), .long (100 : Int64)]) (rest := []) hC (cM_in hv) 3 gX12_river_X12_in rfl rfl rfl ⟨Nat.le_of_ble_eq_true rfl, Nat.le_of_ble_eq_true rfl⟩ hdM_in.2 rfl rfl (Nat.le_of_ble_eq_true rfl) ⟨Nat.zero_le _, Nat.zero_le _⟩ dX12_river_23 (fun r23 g23 hv => ?_)
    refine j_if_ne (tgt := 32) hC dX12_river_26 (by decide) (fun h_ => ?_) (fun h_ => ?_)
    · have hv := hv.1 h_
      refine j_aload_n (i := 0) hC dX12_river_32 rfl 0 rfl ?_
      refine j_get (C := RX12) (T := TX12) (N := 22) (v := .ref (ad 2)) hC hinX12 0 (wM_c0 ad cy _) rfl 3 (by decide) (mw 5 rfl) rfl rfl dX12_river_33 ?_
      refine j_iload_n (i := 1) hC dX12_river_36 rfl 1 rfl ?_
      have hb37 := hv.1
      have hv := hv.2
      refine j_iald (v := ((m_river g23) a1.toNatClampNeg)) hC 2 0 (wM_c2 ad cy _) rfl hb37 rfl dX12_river_37 ?_
      refine j_istore_n (i := 3) (lv' := [(3, .int ((m_river g23) a1.toNatClampNeg)), (0, .ref (ad 0)), (1, .int a1), (2, .int a2)]) hC dX12_river_38 rfl (by decide) rfl ?_
      refine j_aload_n (i := 0) hC dX12_river_39 rfl 1 rfl ?_
      refine j_get (C := RX12) (T := TX12) (N := 22) (v := .ref (ad 2)) hC hinX12 0 (wM_c0 ad cy _) rfl 3 (by decide) (mw 5 rfl) rfl rfl dX12_river_40 ?_
      refine j_iload_n (i := 1) hC dX12_river_43 rfl 2 rfl ?_
      refine j_iload_n (i := 2) hC dX12_river_44 rfl 3 rfl ?_
      have hb45 := hv.1
      have hv := hv.2
      refine j_iast hC 2 0 (wM_c2 ad cy _) rfl hb45 (wM_s_river ad cy _ _) dX12_river_45 ?_
      refine j_iload_n (i := 3) hC dX12_river_46 rfl 0 rfl ?_
      exact j_iret hC hQ dX12_river_47 rfl hv
    · have hv := hv.2 h_
      refine j_ldc (v := -1000001) hC dX12_river_29 (mw 4 rfl) ?_
      exact j_iret hC hQ dX12_river_31 rfl hv
theorem hdM_rule : yX12_rule.cls = RX12 ∧ yX12_rule.cls ≠ "java/lang/invoke/MethodHandle" ∧ yX12_rule.cls ≠ "java/lang/invoke/VarHandle" ∧ (parseMethodDescriptor yX12_rule.desc).map (fun d => d.parameters.length) = some 2 := by decide +kernel
abbrev rM_rule : Room := { frames := 1, cells := 0, slots := 0, locals := 25 }
def vM_rule_52 (post : Int32 → GM → Prop) (x1 : Int32) (x2 : Int32) (g : GM) : Prop :=
  (vp_in x1 8 ∧ (vp_in x1 8 ∧ post ((m_rule g) x1.toNatClampNeg) (sm_rule g (upd (m_rule g) x1.toNatClampNeg x2))))
def vM_rule (g : GM) (a1 : Int32) (a2 : Int32) (post : Int32 → GM → Prop) : Prop :=
  (vM_in (sm_thrown g (0 : Int32)) (a1.toInt64) (0 : Int64) (7 : Int64) (fun r11 g11 => ((r11 = (0 : Int32) → post (-1000001 : Int32) g11) ∧ (¬ r11 = (0 : Int32) → (((2 : Int32) ≤ a1 → (vM_in g11 (a2.toInt64) (0 : Int64) (1000 : Int64) (fun r43 g43 => ((¬ r43 = (0 : Int32) → (vM_rule_52 post a1 a2 g43)) ∧ (r43 = (0 : Int32) → post (-1000001 : Int32) g43))))) ∧ (¬ (2 : Int32) ≤ a1 → (vM_in g11 (a2.toInt64) (1 : Int64) (3 : Int64) (fun r28 g28 => ((¬ r28 = (0 : Int32) → (vM_rule_52 post a1 a2 g28)) ∧ (r28 = (0 : Int32) → post (-1000001 : Int32) g28))))))))))
set_option maxHeartbeats 4000000 in
set_option maxRecDepth 100000 in
theorem lM_rule_52 {Γ : jG} {l : Launch} {D : va_G} {ad : Nat → Nat} {cy : Nat → ClassId} {post : Int32 → GM → Prop} (hC : jC Γ l rM_rule D 4 RX12 cX12_rule wsX12_rule (tyM cy)) (hQ : jQi Γ D (wM ad cy) post (some .int) 0 0) : ∀ (x1 : Int32) (x2 : Int32) (g : GM), vM_rule_52 post x1 x2 g → J Γ D 4 0 0 (wM ad cy g) 52 [(0, .ref (ad 0)), (1, .int x1), (2, .int x2)] [] := by
  have hinX12 : ∀ w ∈ wsX120, w ∈ wsX12_rule := fun w h => List.mem_cons_of_mem _ (List.mem_append_right _ h)
  intro x1 x2 g hv
  unfold vM_rule_52 at hv
  refine j_aload_n (i := 0) hC dX12_rule_52 rfl 0 rfl ?_
  refine j_get (C := RX12) (T := TX12) (N := 22) (v := .ref (ad 1)) hC hinX12 0 (wM_c0 ad cy _) rfl 2 (by decide) (mw 6 rfl) rfl rfl dX12_rule_53 ?_
  refine j_iload_n (i := 1) hC dX12_rule_56 rfl 1 rfl ?_
  have hb57 := hv.1
  have hv := hv.2
  refine j_iald (v := ((m_rule g) x1.toNatClampNeg)) hC 1 0 (wM_c1 ad cy _) rfl hb57 rfl dX12_rule_57 ?_
  refine j_istore_n (i := 3) (lv' := [(3, .int ((m_rule g) x1.toNatClampNeg)), (0, .ref (ad 0)), (1, .int x1), (2, .int x2)]) hC dX12_rule_58 rfl (by decide) rfl ?_
  refine j_aload_n (i := 0) hC dX12_rule_59 rfl 1 rfl ?_
  refine j_get (C := RX12) (T := TX12) (N := 22) (v := .ref (ad 1)) hC hinX12 0 (wM_c0 ad cy _) rfl 2 (by decide) (mw 6 rfl) rfl rfl dX12_rule_60 ?_
  refine j_iload_n (i := 1) hC dX12_rule_63 rfl 2 rfl ?_
  refine j_iload_n (i := 2) hC dX12_rule_64 rfl 3 rfl ?_
  have hb65 := hv.1
  have hv := hv.2
  refine j_iast hC 1 0 (wM_c1 ad cy _) rfl hb65 (wM_s_rule ad cy _ _) dX12_rule_65 ?_
  refine j_iload_n (i := 3) hC dX12_rule_66 rfl 0 rfl ?_
  exact j_iret hC hQ dX12_rule_67 rfl hv
set_option maxHeartbeats 4000000 in
set_option maxRecDepth 100000 in
theorem cM_rule {l : Launch} {D : va_G} {ad : Nat → Nat} {cy : Nat → ClassId} {g : GM} {a1 : Int32} {a2 : Int32} {post : Int32 → GM → Prop} (hv : vM_rule g a1 a2 post) : jMi l yX12_rule wsX12_rule rM_rule D (tyM cy) [.ref (ad 0), .int a1, .int a2] (wM ad cy g) (wM ad cy) post 0 0 := by
  refine j_meti (cc := cX12_rule) (nL := 4) (rt := (some .int)) (by decide) (Nat.le_of_ble_eq_true rfl) ?_
  intro Γ hC hQ _
  have hC : jC Γ l rM_rule D 4 RX12 cX12_rule wsX12_rule (tyM cy) := hC
  have hinX12 : ∀ w ∈ wsX120, w ∈ wsX12_rule := fun w h => List.mem_cons_of_mem _ (List.mem_append_right _ h)
  refine j_lv (lv' := [(0, .ref (ad 0)), (1, .int a1), (2, .int a2)]) [0, 1, 2] rfl ?_
  unfold vM_rule at hv
  refine j_aload_n (i := 0) hC dX12_rule_0 rfl 0 rfl ?_
  refine j_iconst (v := 0) hC dX12_rule_1 (by decide) ?_
  refine j_put (C := RX12) (T := TX12) (N := 22) (ty := .int) hC hinX12 tyX12 tyX12_ok nmX12 0 (wM_c0 ad cy _) rfl 0 (by decide) (mw 1 rfl) rfl rfl fdX12_0 rfl rfl (Nat.le_of_ble_eq_true rfl) (wM_p_thrown ad cy _ _) dX12_rule_2 ?_
  refine j_iload_n (i := 1) hC dX12_rule_5 rfl 1 rfl ?_
  refine j_i2l hC dX12_rule_6 ?_
  refine j_lconst (v := 0) hC dX12_rule_7 (by decide) ?_
  refine j_ldc2 (v := 7) hC dX12_rule_8 (mw 2 rfl) ?_
  refine j_callS_i (As := [.long (a1.toInt64), .long (0 : Int64), .long (7 : Int64)]) (rest := []) hC (cM_in hv) 3 gX12_rule_X12_in rfl rfl rfl ⟨Nat.le_of_ble_eq_true rfl, Nat.le_of_ble_eq_true rfl⟩ hdM_in.2 rfl rfl (Nat.le_of_ble_eq_true rfl) ⟨Nat.zero_le _, Nat.zero_le _⟩ dX12_rule_11 (fun r11 g11 hv => ?_)
  refine j_if_eq (tgt := 49) hC dX12_rule_14 (by decide) (fun h_ => ?_) (fun h_ => ?_)
  · have hv := hv.1 h_
    refine j_ldc (v := -1000001) hC dX12_rule_49 (mw 5 rfl) ?_
    exact j_iret hC hQ dX12_rule_51 rfl hv
  · have hv := hv.2 h_
    refine j_iload_n (i := 1) hC dX12_rule_17 rfl 1 rfl ?_
    refine j_iconst (v := 2) hC dX12_rule_18 (by decide) ?_
    refine j_icmp_ge (tgt := 37) hC dX12_rule_19 (by decide) (fun h_ => ?_) (fun h_ => ?_)
    · have hv := hv.1 h_
      refine j_iload_n (i := 2) hC dX12_rule_37 rfl 2 rfl ?_
      refine j_i2l hC dX12_rule_38 ?_
      refine j_lconst (v := 0) hC dX12_rule_39 (by decide) ?_
      refine j_ldc2 (v := 1000) hC dX12_rule_40 (mw 4 rfl) ?_
      refine j_callS_i (As := [.long (a2.toInt64), .long (0 : Int64), .long (1000 : Int64)]) (rest := []) hC (cM_in hv) 3 gX12_rule_X12_in rfl rfl rfl ⟨Nat.le_of_ble_eq_true rfl, Nat.le_of_ble_eq_true rfl⟩ hdM_in.2 rfl rfl (Nat.le_of_ble_eq_true rfl) ⟨Nat.zero_le _, Nat.zero_le _⟩ dX12_rule_43 (fun r43 g43 hv => ?_)
      refine j_if_ne (tgt := 52) hC dX12_rule_46 (by decide) (fun h_ => ?_) (fun h_ => ?_)
      · have hv := hv.1 h_
        exact j_lv [0, 1, 2] rfl (lM_rule_52 hC hQ _ _ _ hv)
      · have hv := hv.2 h_
        refine j_ldc (v := -1000001) hC dX12_rule_49 (mw 5 rfl) ?_
        exact j_iret hC hQ dX12_rule_51 rfl hv
    · have hv := hv.2 h_
      refine j_iload_n (i := 2) hC dX12_rule_22 rfl 2 rfl ?_
      refine j_i2l hC dX12_rule_23 ?_
      refine j_lconst (v := 1) hC dX12_rule_24 (by decide) ?_
      refine j_ldc2 (v := 3) hC dX12_rule_25 (mw 3 rfl) ?_
      refine j_callS_i (As := [.long (a2.toInt64), .long (1 : Int64), .long (3 : Int64)]) (rest := []) hC (cM_in hv) 3 gX12_rule_X12_in rfl rfl rfl ⟨Nat.le_of_ble_eq_true rfl, Nat.le_of_ble_eq_true rfl⟩ hdM_in.2 rfl rfl (Nat.le_of_ble_eq_true rfl) ⟨Nat.zero_le _, Nat.zero_le _⟩ dX12_rule_28 (fun r28 g28 hv => ?_)
      refine j_if_ne (tgt := 52) hC dX12_rule_31 (by decide) (fun h_ => ?_) (fun h_ => ?_)
      · have hv := hv.1 h_
        exact j_lv [0, 1, 2] rfl (lM_rule_52 hC hQ _ _ _ hv)
      · have hv := hv.2 h_
        refine j_goto (tgt := 49) hC dX12_rule_34 (by decide) ?_
        refine j_ldc (v := -1000001) hC dX12_rule_49 (mw 5 rfl) ?_
        exact j_iret hC hQ dX12_rule_51 rfl hv
theorem hdM_groupOf : yX12_groupOf.cls = RX12 ∧ yX12_groupOf.cls ≠ "java/lang/invoke/MethodHandle" ∧ yX12_groupOf.cls ≠ "java/lang/invoke/VarHandle" ∧ (parseMethodDescriptor yX12_groupOf.desc).map (fun d => d.parameters.length) = some 2 := by decide +kernel
abbrev rM_groupOf : Room := { frames := 0, cells := 0, slots := 0, locals := 0 }
def vM_groupOf_56 (post : Int32 → GM → Prop) (K2 : Int32 → Int32 → Int32 → GM → Prop) (K13 : Int32 → Int32 → Int32 → Int32 → Int32 → GM → Prop) (x1 : Int32) (x2 : Int32) (x3 : Int32) (x5 : Int32) (t0 : Int32) (g : GM) : Prop :=
  (K13 x1 x2 x3 t0 (x5 + (1 : Int32)) g)
def vM_groupOf_55 (post : Int32 → GM → Prop) (K2 : Int32 → Int32 → Int32 → GM → Prop) (K13 : Int32 → Int32 → Int32 → Int32 → Int32 → GM → Prop) (x1 : Int32) (x2 : Int32) (x3 : Int32) (x5 : Int32) (g : GM) : Prop :=
  (vM_groupOf_56 post K2 K13 x1 x2 x3 x5 (0 : Int32) g)
def vM_groupOf_64 (post : Int32 → GM → Prop) (K2 : Int32 → Int32 → Int32 → GM → Prop) (x1 : Int32) (x2 : Int32) (x3 : Int32) (x4 : Int32) (g : GM) : Prop :=
  ((x4 = (0 : Int32) → (K2 x1 x2 (x3 + (1 : Int32)) g)) ∧ (¬ x4 = (0 : Int32) → post x3 g))
def vM_groupOf_13 (post : Int32 → GM → Prop) (K2 : Int32 → Int32 → Int32 → GM → Prop) : Nat → Int32 → Int32 → Int32 → Int32 → Int32 → GM → Prop
  | 0, _, _, _, _, _, _ => False
  | k_ + 1, x1, x2, x3, x4, x5, g =>
  ((x2 < x5 → (vM_groupOf_64 post K2 x1 x2 x3 x4 g)) ∧ (¬ x2 < x5 → ((x4 = (0 : Int32) → (vM_groupOf_55 post K2 (fun x1 x2 x3 x4 x5 g => vM_groupOf_13 post K2 k_ x1 x2 x3 x4 x5 g) x1 x2 x3 x5 g)) ∧ (¬ x4 = (0 : Int32) → (vp_in (((8 : Int32) * x3) + x5) 64 ∧ (vp_in (((8 : Int32) * x1) + x5) 64 ∧ ((¬ ((m_sea g) (((8 : Int32) * x3) + x5).toNatClampNeg) = ((m_sea g) (((8 : Int32) * x1) + x5).toNatClampNeg) → (vM_groupOf_55 post K2 (fun x1 x2 x3 x4 x5 g => vM_groupOf_13 post K2 k_ x1 x2 x3 x4 x5 g) x1 x2 x3 x5 g)) ∧ (((m_sea g) (((8 : Int32) * x3) + x5).toNatClampNeg) = ((m_sea g) (((8 : Int32) * x1) + x5).toNatClampNeg) → (vM_groupOf_56 post K2 (fun x1 x2 x3 x4 x5 g => vM_groupOf_13 post K2 k_ x1 x2 x3 x4 x5 g) x1 x2 x3 x5 (1 : Int32) g)))))))))
def vM_groupOf_2 (post : Int32 → GM → Prop) : Nat → Int32 → Int32 → Int32 → GM → Prop
  | 0, _, _, _, _ => False
  | k_ + 1, x1, x2, x3, g =>
  ((x1 ≤ x3 → post x1 g) ∧ (¬ x1 ≤ x3 → (∃ n_ : Nat, vM_groupOf_13 post (fun x1 x2 x3 g => vM_groupOf_2 post k_ x1 x2 x3 g) n_ x1 x2 x3 (1 : Int32) (0 : Int32) g)))
def vM_groupOf (g : GM) (a1 : Int32) (a2 : Int32) (post : Int32 → GM → Prop) : Prop :=
  (∃ n_ : Nat, vM_groupOf_2 post n_ a1 a2 (0 : Int32) g)
set_option maxHeartbeats 4000000 in
set_option maxRecDepth 100000 in
theorem lM_groupOf_56 {Γ : jG} {l : Launch} {D : va_G} {ad : Nat → Nat} {cy : Nat → ClassId} {post : Int32 → GM → Prop} (hC : jC Γ l rM_groupOf D 6 RX12 cX12_groupOf wsX12_groupOf (tyM cy)) (hQ : jQi Γ D (wM ad cy) post (some .int) 0 0) {K2 : Int32 → Int32 → Int32 → GM → Prop} (hK2 : ∀ (x1 : Int32) (x2 : Int32) (x3 : Int32) (g : GM), K2 x1 x2 x3 g → J Γ D 6 0 0 (wM ad cy g) 2 [(0, .ref (ad 0)), (1, .int x1), (2, .int x2), (3, .int x3)] []) {K13 : Int32 → Int32 → Int32 → Int32 → Int32 → GM → Prop} (hK13 : ∀ (x1 : Int32) (x2 : Int32) (x3 : Int32) (x4 : Int32) (x5 : Int32) (g : GM), K13 x1 x2 x3 x4 x5 g → J Γ D 6 0 0 (wM ad cy g) 13 [(0, .ref (ad 0)), (1, .int x1), (2, .int x2), (3, .int x3), (4, .int x4), (5, .int x5)] []) : ∀ (x1 : Int32) (x2 : Int32) (x3 : Int32) (x5 : Int32) (t0 : Int32) (g : GM), vM_groupOf_56 post K2 K13 x1 x2 x3 x5 t0 g → J Γ D 6 0 0 (wM ad cy g) 56 [(0, .ref (ad 0)), (1, .int x1), (2, .int x2), (3, .int x3), (5, .int x5)] [.int t0] := by
  have hinX12 : ∀ w ∈ wsX120, w ∈ wsX12_groupOf := fun w h => List.mem_cons_of_mem _ (List.mem_append_right _ h)
  intro x1 x2 x3 x5 t0 g hv
  unfold vM_groupOf_56 at hv
  refine j_istore (lv' := [(4, .int t0), (0, .ref (ad 0)), (1, .int x1), (2, .int x2), (3, .int x3), (5, .int x5)]) hC dX12_groupOf_56 (by decide) rfl ?_
  refine j_iinc (k := 5) (v := (x5 + (1 : Int32))) (lv' := [(5, .int (x5 + (1 : Int32))), (4, .int t0), (0, .ref (ad 0)), (1, .int x1), (2, .int x2), (3, .int x3)]) hC dX12_groupOf_58 rfl rfl (by decide) rfl ?_
  refine j_goto (tgt := 13) hC dX12_groupOf_61 (by decide) ?_
  exact j_lv [2, 3, 4, 5, 1, 0] rfl (hK13 _ _ _ _ _ _ hv)
set_option maxHeartbeats 4000000 in
set_option maxRecDepth 100000 in
theorem lM_groupOf_55 {Γ : jG} {l : Launch} {D : va_G} {ad : Nat → Nat} {cy : Nat → ClassId} {post : Int32 → GM → Prop} (hC : jC Γ l rM_groupOf D 6 RX12 cX12_groupOf wsX12_groupOf (tyM cy)) (hQ : jQi Γ D (wM ad cy) post (some .int) 0 0) {K2 : Int32 → Int32 → Int32 → GM → Prop} (hK2 : ∀ (x1 : Int32) (x2 : Int32) (x3 : Int32) (g : GM), K2 x1 x2 x3 g → J Γ D 6 0 0 (wM ad cy g) 2 [(0, .ref (ad 0)), (1, .int x1), (2, .int x2), (3, .int x3)] []) {K13 : Int32 → Int32 → Int32 → Int32 → Int32 → GM → Prop} (hK13 : ∀ (x1 : Int32) (x2 : Int32) (x3 : Int32) (x4 : Int32) (x5 : Int32) (g : GM), K13 x1 x2 x3 x4 x5 g → J Γ D 6 0 0 (wM ad cy g) 13 [(0, .ref (ad 0)), (1, .int x1), (2, .int x2), (3, .int x3), (4, .int x4), (5, .int x5)] []) : ∀ (x1 : Int32) (x2 : Int32) (x3 : Int32) (x5 : Int32) (g : GM), vM_groupOf_55 post K2 K13 x1 x2 x3 x5 g → J Γ D 6 0 0 (wM ad cy g) 55 [(0, .ref (ad 0)), (1, .int x1), (2, .int x2), (3, .int x3), (5, .int x5)] [] := by
  have hinX12 : ∀ w ∈ wsX120, w ∈ wsX12_groupOf := fun w h => List.mem_cons_of_mem _ (List.mem_append_right _ h)
  intro x1 x2 x3 x5 g hv
  unfold vM_groupOf_55 at hv
  refine j_iconst (v := 0) hC dX12_groupOf_55 (by decide) ?_
  exact j_lv [0, 1, 2, 3, 4] rfl (lM_groupOf_56 hC hQ hK2 hK13 _ _ _ _ _ _ hv)
set_option maxHeartbeats 4000000 in
set_option maxRecDepth 100000 in
theorem lM_groupOf_64 {Γ : jG} {l : Launch} {D : va_G} {ad : Nat → Nat} {cy : Nat → ClassId} {post : Int32 → GM → Prop} (hC : jC Γ l rM_groupOf D 6 RX12 cX12_groupOf wsX12_groupOf (tyM cy)) (hQ : jQi Γ D (wM ad cy) post (some .int) 0 0) {K2 : Int32 → Int32 → Int32 → GM → Prop} (hK2 : ∀ (x1 : Int32) (x2 : Int32) (x3 : Int32) (g : GM), K2 x1 x2 x3 g → J Γ D 6 0 0 (wM ad cy g) 2 [(0, .ref (ad 0)), (1, .int x1), (2, .int x2), (3, .int x3)] []) : ∀ (x1 : Int32) (x2 : Int32) (x3 : Int32) (x4 : Int32) (g : GM), vM_groupOf_64 post K2 x1 x2 x3 x4 g → J Γ D 6 0 0 (wM ad cy g) 64 [(0, .ref (ad 0)), (1, .int x1), (2, .int x2), (3, .int x3), (4, .int x4)] [] := by
  have hinX12 : ∀ w ∈ wsX120, w ∈ wsX12_groupOf := fun w h => List.mem_cons_of_mem _ (List.mem_append_right _ h)
  intro x1 x2 x3 x4 g hv
  unfold vM_groupOf_64 at hv
  refine j_iload hC dX12_groupOf_64 4 rfl ?_
  refine j_if_eq (tgt := 71) hC dX12_groupOf_66 (by decide) (fun h_ => ?_) (fun h_ => ?_)
  · have hv := hv.1 h_
    refine j_iinc (k := 3) (v := (x3 + (1 : Int32))) (lv' := [(3, .int (x3 + (1 : Int32))), (0, .ref (ad 0)), (1, .int x1), (2, .int x2), (4, .int x4)]) hC dX12_groupOf_71 rfl rfl (by decide) rfl ?_
    refine j_goto (tgt := 2) hC dX12_groupOf_74 (by decide) ?_
    exact j_lv [1, 2, 3, 0] rfl (hK2 _ _ _ _ hv)
  · have hv := hv.2 h_
    refine j_iload_n (i := 3) hC dX12_groupOf_69 rfl 3 rfl ?_
    exact j_iret hC hQ dX12_groupOf_70 rfl hv
set_option maxHeartbeats 4000000 in
set_option maxRecDepth 100000 in
theorem lM_groupOf_13 {Γ : jG} {l : Launch} {D : va_G} {ad : Nat → Nat} {cy : Nat → ClassId} {post : Int32 → GM → Prop} (hC : jC Γ l rM_groupOf D 6 RX12 cX12_groupOf wsX12_groupOf (tyM cy)) (hQ : jQi Γ D (wM ad cy) post (some .int) 0 0) {K2 : Int32 → Int32 → Int32 → GM → Prop} (hK2 : ∀ (x1 : Int32) (x2 : Int32) (x3 : Int32) (g : GM), K2 x1 x2 x3 g → J Γ D 6 0 0 (wM ad cy g) 2 [(0, .ref (ad 0)), (1, .int x1), (2, .int x2), (3, .int x3)] []) : ∀ (n_ : Nat) (x1 : Int32) (x2 : Int32) (x3 : Int32) (x4 : Int32) (x5 : Int32) (g : GM), vM_groupOf_13 post K2 n_ x1 x2 x3 x4 x5 g → J Γ D 6 0 0 (wM ad cy g) 13 [(0, .ref (ad 0)), (1, .int x1), (2, .int x2), (3, .int x3), (4, .int x4), (5, .int x5)] [] := by
  have hinX12 : ∀ w ∈ wsX120, w ∈ wsX12_groupOf := fun w h => List.mem_cons_of_mem _ (List.mem_append_right _ h)
  intro n_
  induction n_ with
  | zero => intro x1 x2 x3 x4 x5 g hv; exact False.elim hv
  | succ k_ ih =>
    intro x1 x2 x3 x4 x5 g hv
    unfold vM_groupOf_13 at hv
    refine j_iload hC dX12_groupOf_13 5 rfl ?_
    refine j_iload_n (i := 2) hC dX12_groupOf_15 rfl 2 rfl ?_
    refine j_icmp_gt (tgt := 64) hC dX12_groupOf_16 (by decide) (fun h_ => ?_) (fun h_ => ?_)
    · have hv := hv.1 h_
      exact j_lv [0, 1, 2, 3, 4] rfl (lM_groupOf_64 hC hQ hK2 _ _ _ _ _ hv)
    · have hv := hv.2 h_
      refine j_iload hC dX12_groupOf_19 4 rfl ?_
      refine j_if_eq (tgt := 55) hC dX12_groupOf_21 (by decide) (fun h_ => ?_) (fun h_ => ?_)
      · have hv := hv.1 h_
        exact j_lv [0, 1, 2, 3, 5] rfl (lM_groupOf_55 hC hQ hK2 (K13 := fun x1 x2 x3 x4 x5 g => vM_groupOf_13 post K2 k_ x1 x2 x3 x4 x5 g) (fun _ _ _ _ _ _ h_ => ih _ _ _ _ _ _ h_) _ _ _ _ _ hv)
      · have hv := hv.2 h_
        refine j_aload_n (i := 0) hC dX12_groupOf_24 rfl 0 rfl ?_
        refine j_get (C := RX12) (T := TX12) (N := 22) (v := .ref (ad 7)) hC hinX12 0 (wM_c0 ad cy _) rfl 9 (by decide) (mw 1 rfl) rfl rfl dX12_groupOf_25 ?_
        refine j_bipush (v := 8) hC dX12_groupOf_28 (by decide) ?_
        refine j_iload_n (i := 3) hC dX12_groupOf_30 rfl 3 rfl ?_
        refine j_imul hC dX12_groupOf_31 ?_
        refine j_iload hC dX12_groupOf_32 5 rfl ?_
        refine j_iadd hC dX12_groupOf_34 ?_
        have hb35 := hv.1
        have hv := hv.2
        refine j_iald (v := ((m_sea g) (((8 : Int32) * x3) + x5).toNatClampNeg)) hC 7 0 (wM_c7 ad cy _) rfl hb35 rfl dX12_groupOf_35 ?_
        refine j_aload_n (i := 0) hC dX12_groupOf_36 rfl 0 rfl ?_
        refine j_get (C := RX12) (T := TX12) (N := 22) (v := .ref (ad 7)) hC hinX12 0 (wM_c0 ad cy _) rfl 9 (by decide) (mw 1 rfl) rfl rfl dX12_groupOf_37 ?_
        refine j_bipush (v := 8) hC dX12_groupOf_40 (by decide) ?_
        refine j_iload_n (i := 1) hC dX12_groupOf_42 rfl 1 rfl ?_
        refine j_imul hC dX12_groupOf_43 ?_
        refine j_iload hC dX12_groupOf_44 5 rfl ?_
        refine j_iadd hC dX12_groupOf_46 ?_
        have hb47 := hv.1
        have hv := hv.2
        refine j_iald (v := ((m_sea g) (((8 : Int32) * x1) + x5).toNatClampNeg)) hC 7 0 (wM_c7 ad cy _) rfl hb47 rfl dX12_groupOf_47 ?_
        refine j_icmp_ne (tgt := 55) hC dX12_groupOf_48 (by decide) (fun h_ => ?_) (fun h_ => ?_)
        · have hv := hv.1 h_
          exact j_lv [0, 1, 2, 3, 5] rfl (lM_groupOf_55 hC hQ hK2 (K13 := fun x1 x2 x3 x4 x5 g => vM_groupOf_13 post K2 k_ x1 x2 x3 x4 x5 g) (fun _ _ _ _ _ _ h_ => ih _ _ _ _ _ _ h_) _ _ _ _ _ hv)
        · have hv := hv.2 h_
          refine j_iconst (v := 1) hC dX12_groupOf_51 (by decide) ?_
          refine j_goto (tgt := 56) hC dX12_groupOf_52 (by decide) ?_
          exact j_lv [0, 1, 2, 3, 5] rfl (lM_groupOf_56 hC hQ hK2 (K13 := fun x1 x2 x3 x4 x5 g => vM_groupOf_13 post K2 k_ x1 x2 x3 x4 x5 g) (fun _ _ _ _ _ _ h_ => ih _ _ _ _ _ _ h_) _ _ _ _ _ _ hv)
set_option maxHeartbeats 4000000 in
set_option maxRecDepth 100000 in
theorem lM_groupOf_2 {Γ : jG} {l : Launch} {D : va_G} {ad : Nat → Nat} {cy : Nat → ClassId} {post : Int32 → GM → Prop} (hC : jC Γ l rM_groupOf D 6 RX12 cX12_groupOf wsX12_groupOf (tyM cy)) (hQ : jQi Γ D (wM ad cy) post (some .int) 0 0) : ∀ (n_ : Nat) (x1 : Int32) (x2 : Int32) (x3 : Int32) (g : GM), vM_groupOf_2 post n_ x1 x2 x3 g → J Γ D 6 0 0 (wM ad cy g) 2 [(0, .ref (ad 0)), (1, .int x1), (2, .int x2), (3, .int x3)] [] := by
  have hinX12 : ∀ w ∈ wsX120, w ∈ wsX12_groupOf := fun w h => List.mem_cons_of_mem _ (List.mem_append_right _ h)
  intro n_
  induction n_ with
  | zero => intro x1 x2 x3 g hv; exact False.elim hv
  | succ k_ ih =>
    intro x1 x2 x3 g hv
    unfold vM_groupOf_2 at hv
    refine j_iload_n (i := 3) hC dX12_groupOf_2 rfl 3 rfl ?_
    refine j_iload_n (i := 1) hC dX12_groupOf_3 rfl 1 rfl ?_
    refine j_icmp_ge (tgt := 77) hC dX12_groupOf_4 (by decide) (fun h_ => ?_) (fun h_ => ?_)
    · have hv := hv.1 h_
      refine j_iload_n (i := 1) hC dX12_groupOf_77 rfl 1 rfl ?_
      exact j_iret hC hQ dX12_groupOf_78 rfl hv
    · have hv := hv.2 h_
      refine j_iconst (v := 1) hC dX12_groupOf_7 (by decide) ?_
      refine j_istore (lv' := [(4, .int (1 : Int32)), (0, .ref (ad 0)), (1, .int x1), (2, .int x2), (3, .int x3)]) hC dX12_groupOf_8 (by decide) rfl ?_
      refine j_iconst (v := 0) hC dX12_groupOf_10 (by decide) ?_
      refine j_istore (lv' := [(5, .int (0 : Int32)), (4, .int (1 : Int32)), (0, .ref (ad 0)), (1, .int x1), (2, .int x2), (3, .int x3)]) hC dX12_groupOf_11 (by decide) rfl ?_
      obtain ⟨n_, hv⟩ := hv
      exact j_lv [2, 3, 4, 5, 1, 0] rfl (lM_groupOf_13 hC hQ (K2 := fun x1 x2 x3 g => vM_groupOf_2 post k_ x1 x2 x3 g) (fun _ _ _ _ h_ => ih _ _ _ _ h_) n_ _ _ _ _ _ _ hv)
set_option maxHeartbeats 4000000 in
set_option maxRecDepth 100000 in
theorem cM_groupOf {l : Launch} {D : va_G} {ad : Nat → Nat} {cy : Nat → ClassId} {g : GM} {a1 : Int32} {a2 : Int32} {post : Int32 → GM → Prop} (hv : vM_groupOf g a1 a2 post) : jMi l yX12_groupOf wsX12_groupOf rM_groupOf D (tyM cy) [.ref (ad 0), .int a1, .int a2] (wM ad cy g) (wM ad cy) post 0 0 := by
  refine j_meti (cc := cX12_groupOf) (nL := 6) (rt := (some .int)) (by decide) (Nat.le_of_ble_eq_true rfl) ?_
  intro Γ hC hQ _
  have hC : jC Γ l rM_groupOf D 6 RX12 cX12_groupOf wsX12_groupOf (tyM cy) := hC
  have hinX12 : ∀ w ∈ wsX120, w ∈ wsX12_groupOf := fun w h => List.mem_cons_of_mem _ (List.mem_append_right _ h)
  refine j_lv (lv' := [(0, .ref (ad 0)), (1, .int a1), (2, .int a2)]) [0, 1, 2] rfl ?_
  unfold vM_groupOf at hv
  refine j_iconst (v := 0) hC dX12_groupOf_0 (by decide) ?_
  refine j_istore_n (i := 3) (lv' := [(3, .int (0 : Int32)), (0, .ref (ad 0)), (1, .int a1), (2, .int a2)]) hC dX12_groupOf_1 rfl (by decide) rfl ?_
  obtain ⟨n_, hv⟩ := hv
  exact j_lv [1, 2, 3, 0] rfl (lM_groupOf_2 hC hQ n_ _ _ _ _ hv)
theorem hdM_stateIn : yX12_stateIn.cls = RX12 ∧ yX12_stateIn.cls ≠ "java/lang/invoke/MethodHandle" ∧ yX12_stateIn.cls ≠ "java/lang/invoke/VarHandle" ∧ (parseMethodDescriptor yX12_stateIn.desc).map (fun d => d.parameters.length) = some 2 := by decide +kernel
abbrev rM_stateIn : Room := { frames := 0, cells := 0, slots := 0, locals := 0 }
def vM_stateIn (g : GM) (a0 : Int32) (a1 : Int32) (post : Int32 → GM → Prop) : Prop :=
  ((¬ a0 = (0 : Int32) → (((3 : Int32) ≤ a0 → (((6 : Int32) ≤ a0 → ((a1 = (0 : Int32) → post (2 : Int32) g) ∧ (¬ a1 = (0 : Int32) → post (3 : Int32) g))) ∧ (¬ (6 : Int32) ≤ a0 → post (3 : Int32) g))) ∧ (¬ (3 : Int32) ≤ a0 → post (1 : Int32) g))) ∧ (a0 = (0 : Int32) → ((a1 = (0 : Int32) → post (0 : Int32) g) ∧ (¬ a1 = (0 : Int32) → post (1 : Int32) g))))
set_option maxHeartbeats 4000000 in
set_option maxRecDepth 100000 in
theorem cM_stateIn {l : Launch} {D : va_G} {ad : Nat → Nat} {cy : Nat → ClassId} {g : GM} {a0 : Int32} {a1 : Int32} {post : Int32 → GM → Prop} (hv : vM_stateIn g a0 a1 post) : jMi l yX12_stateIn wsX12_stateIn rM_stateIn D (tyM cy) [.int a0, .int a1] (wM ad cy g) (wM ad cy) post 0 0 := by
  refine j_meti (cc := cX12_stateIn) (nL := 2) (rt := (some .int)) (by decide) (Nat.le_of_ble_eq_true rfl) ?_
  intro Γ hC hQ _
  have hC : jC Γ l rM_stateIn D 2 RX12 cX12_stateIn wsX12_stateIn (tyM cy) := hC
  refine j_lv (lv' := [(0, .int a0), (1, .int a1)]) [0, 1] rfl ?_
  unfold vM_stateIn at hv
  refine j_iload_n (i := 0) hC dX12_stateIn_0 rfl 0 rfl ?_
  refine j_if_ne (tgt := 14) hC dX12_stateIn_1 (by decide) (fun h_ => ?_) (fun h_ => ?_)
  · have hv := hv.1 h_
    refine j_iload_n (i := 0) hC dX12_stateIn_14 rfl 0 rfl ?_
    refine j_iconst (v := 3) hC dX12_stateIn_15 (by decide) ?_
    refine j_icmp_ge (tgt := 23) hC dX12_stateIn_16 (by decide) (fun h_ => ?_) (fun h_ => ?_)
    · have hv := hv.1 h_
      refine j_iload_n (i := 0) hC dX12_stateIn_23 rfl 0 rfl ?_
      refine j_bipush (v := 6) hC dX12_stateIn_24 (by decide) ?_
      refine j_icmp_ge (tgt := 33) hC dX12_stateIn_26 (by decide) (fun h_ => ?_) (fun h_ => ?_)
      · have hv := hv.1 h_
        refine j_iload_n (i := 1) hC dX12_stateIn_33 rfl 1 rfl ?_
        refine j_if_eq (tgt := 41) hC dX12_stateIn_34 (by decide) (fun h_ => ?_) (fun h_ => ?_)
        · have hv := hv.1 h_
          refine j_iconst (v := 2) hC dX12_stateIn_41 (by decide) ?_
          exact j_iret hC hQ dX12_stateIn_42 rfl hv
        · have hv := hv.2 h_
          refine j_iconst (v := 3) hC dX12_stateIn_37 (by decide) ?_
          refine j_goto (tgt := 42) hC dX12_stateIn_38 (by decide) ?_
          exact j_iret hC hQ dX12_stateIn_42 rfl hv
      · have hv := hv.2 h_
        refine j_iconst (v := 3) hC dX12_stateIn_29 (by decide) ?_
        refine j_goto (tgt := 42) hC dX12_stateIn_30 (by decide) ?_
        exact j_iret hC hQ dX12_stateIn_42 rfl hv
    · have hv := hv.2 h_
      refine j_iconst (v := 1) hC dX12_stateIn_19 (by decide) ?_
      refine j_goto (tgt := 42) hC dX12_stateIn_20 (by decide) ?_
      exact j_iret hC hQ dX12_stateIn_42 rfl hv
  · have hv := hv.2 h_
    refine j_iload_n (i := 1) hC dX12_stateIn_4 rfl 1 rfl ?_
    refine j_if_eq (tgt := 12) hC dX12_stateIn_5 (by decide) (fun h_ => ?_) (fun h_ => ?_)
    · have hv := hv.1 h_
      refine j_iconst (v := 0) hC dX12_stateIn_12 (by decide) ?_
      exact j_iret hC hQ dX12_stateIn_13 rfl hv
    · have hv := hv.2 h_
      refine j_iconst (v := 1) hC dX12_stateIn_8 (by decide) ?_
      refine j_goto (tgt := 13) hC dX12_stateIn_9 (by decide) ?_
      exact j_iret hC hQ dX12_stateIn_13 rfl hv
theorem hdM_after : yX12_after.cls = RX12 ∧ yX12_after.cls ≠ "java/lang/invoke/MethodHandle" ∧ yX12_after.cls ≠ "java/lang/invoke/VarHandle" ∧ (parseMethodDescriptor yX12_after.desc).map (fun d => d.parameters.length) = some 3 := by decide +kernel
abbrev rM_after : Room := { frames := 0, cells := 0, slots := 0, locals := 0 }
def vM_after (g : GM) (a1 : Int32) (a2 : Int32) (a3 : Int32) (post : Int32 → GM → Prop) : Prop :=
  ((¬ a1 = (0 : Int32) → (((3 : Int32) ≤ a1 → (((6 : Int32) ≤ a1 → ((¬ a2 = (0 : Int32) → ((¬ ((m_rule g) 1) = (1 : Int32) → post (((3 : Int32) + ((m_rule g) 1)) - (1 : Int32)) g) ∧ (((m_rule g) 1) = (1 : Int32) → post (0 : Int32) g))) ∧ (a2 = (0 : Int32) → post a1 g))) ∧ (¬ (6 : Int32) ≤ a1 → ((¬ a1 = (4 : Int32) → post (a1 - (1 : Int32)) g) ∧ (a1 = (4 : Int32) → post (0 : Int32) g))))) ∧ (¬ (3 : Int32) ≤ a1 → ((¬ a1 = (1 : Int32) → post (a1 - (1 : Int32)) g) ∧ (a1 = (1 : Int32) → post (((8 : Int32) + a3) + (1 : Int32)) g))))) ∧ (a1 = (0 : Int32) → ((¬ a2 = (0 : Int32) → ((¬ ((m_rule g) 0) = (1 : Int32) → post (((0 : Int32) + ((m_rule g) 0)) - (1 : Int32)) g) ∧ (((m_rule g) 0) = (1 : Int32) → post (((8 : Int32) + a3) + (1 : Int32)) g))) ∧ (a2 = (0 : Int32) → post (0 : Int32) g))))
set_option maxHeartbeats 4000000 in
set_option maxRecDepth 100000 in
theorem cM_after {l : Launch} {D : va_G} {ad : Nat → Nat} {cy : Nat → ClassId} {g : GM} {a1 : Int32} {a2 : Int32} {a3 : Int32} {post : Int32 → GM → Prop} (hv : vM_after g a1 a2 a3 post) : jMi l yX12_after wsX12_after rM_after D (tyM cy) [.ref (ad 0), .int a1, .int a2, .int a3] (wM ad cy g) (wM ad cy) post 0 0 := by
  refine j_meti (cc := cX12_after) (nL := 4) (rt := (some .int)) (by decide) (Nat.le_of_ble_eq_true rfl) ?_
  intro Γ hC hQ _
  have hC : jC Γ l rM_after D 4 RX12 cX12_after wsX12_after (tyM cy) := hC
  have hinX12 : ∀ w ∈ wsX120, w ∈ wsX12_after := fun w h => List.mem_cons_of_mem _ (List.mem_append_right _ h)
  refine j_lv (lv' := [(0, .ref (ad 0)), (1, .int a1), (2, .int a2), (3, .int a3)]) [0, 1, 2, 3] rfl ?_
  unfold vM_after at hv
  refine j_iload_n (i := 1) hC dX12_after_0 rfl 1 rfl ?_
  refine j_if_ne (tgt := 42) hC dX12_after_1 (by decide) (fun h_ => ?_) (fun h_ => ?_)
  · have hv := hv.1 h_
    refine j_iload_n (i := 1) hC dX12_after_42 rfl 1 rfl ?_
    refine j_iconst (v := 3) hC dX12_after_43 (by decide) ?_
    refine j_icmp_ge (tgt := 65) hC dX12_after_44 (by decide) (fun h_ => ?_) (fun h_ => ?_)
    · have hv := hv.1 h_
      refine j_iload_n (i := 1) hC dX12_after_65 rfl 1 rfl ?_
      refine j_bipush (v := 6) hC dX12_after_66 (by decide) ?_
      refine j_icmp_ge (tgt := 84) hC dX12_after_68 (by decide) (fun h_ => ?_) (fun h_ => ?_)
      · have hv := hv.1 h_
        refine j_iload_n (i := 2) hC dX12_after_84 rfl 2 rfl ?_
        refine j_if_ne (tgt := 92) hC dX12_after_85 (by decide) (fun h_ => ?_) (fun h_ => ?_)
        · have hv := hv.1 h_
          refine j_aload_n (i := 0) hC dX12_after_92 rfl 0 rfl ?_
          refine j_get (C := RX12) (T := TX12) (N := 22) (v := .ref (ad 1)) hC hinX12 0 (wM_c0 ad cy _) rfl 2 (by decide) (mw 1 rfl) rfl rfl dX12_after_93 ?_
          refine j_iconst (v := 1) hC dX12_after_96 (by decide) ?_
          refine j_iald (v := ((m_rule g) 1)) hC 1 0 (wM_c1 ad cy _) rfl (jin_lit (by decide)) rfl dX12_after_97 ?_
          refine j_iconst (v := 1) hC dX12_after_98 (by decide) ?_
          refine j_icmp_ne (tgt := 106) hC dX12_after_99 (by decide) (fun h_ => ?_) (fun h_ => ?_)
          · have hv := hv.1 h_
            refine j_iconst (v := 3) hC dX12_after_106 (by decide) ?_
            refine j_aload_n (i := 0) hC dX12_after_107 rfl 0 rfl ?_
            refine j_get (C := RX12) (T := TX12) (N := 22) (v := .ref (ad 1)) hC hinX12 0 (wM_c0 ad cy _) rfl 2 (by decide) (mw 1 rfl) rfl rfl dX12_after_108 ?_
            refine j_iconst (v := 1) hC dX12_after_111 (by decide) ?_
            refine j_iald (v := ((m_rule g) 1)) hC 1 0 (wM_c1 ad cy _) rfl (jin_lit (by decide)) rfl dX12_after_112 ?_
            refine j_iadd hC dX12_after_113 ?_
            refine j_iconst (v := 1) hC dX12_after_114 (by decide) ?_
            refine j_isub hC dX12_after_115 ?_
            exact j_iret hC hQ dX12_after_116 rfl hv
          · have hv := hv.2 h_
            refine j_iconst (v := 0) hC dX12_after_102 (by decide) ?_
            refine j_goto (tgt := 116) hC dX12_after_103 (by decide) ?_
            exact j_iret hC hQ dX12_after_116 rfl hv
        · have hv := hv.2 h_
          refine j_iload_n (i := 1) hC dX12_after_88 rfl 1 rfl ?_
          refine j_goto (tgt := 116) hC dX12_after_89 (by decide) ?_
          exact j_iret hC hQ dX12_after_116 rfl hv
      · have hv := hv.2 h_
        refine j_iload_n (i := 1) hC dX12_after_71 rfl 1 rfl ?_
        refine j_iconst (v := 4) hC dX12_after_72 (by decide) ?_
        refine j_icmp_ne (tgt := 80) hC dX12_after_73 (by decide) (fun h_ => ?_) (fun h_ => ?_)
        · have hv := hv.1 h_
          refine j_iload_n (i := 1) hC dX12_after_80 rfl 1 rfl ?_
          refine j_iconst (v := 1) hC dX12_after_81 (by decide) ?_
          refine j_isub hC dX12_after_82 ?_
          exact j_iret hC hQ dX12_after_83 rfl hv
        · have hv := hv.2 h_
          refine j_iconst (v := 0) hC dX12_after_76 (by decide) ?_
          refine j_goto (tgt := 83) hC dX12_after_77 (by decide) ?_
          exact j_iret hC hQ dX12_after_83 rfl hv
    · have hv := hv.2 h_
      refine j_iload_n (i := 1) hC dX12_after_47 rfl 1 rfl ?_
      refine j_iconst (v := 1) hC dX12_after_48 (by decide) ?_
      refine j_icmp_ne (tgt := 61) hC dX12_after_49 (by decide) (fun h_ => ?_) (fun h_ => ?_)
      · have hv := hv.1 h_
        refine j_iload_n (i := 1) hC dX12_after_61 rfl 1 rfl ?_
        refine j_iconst (v := 1) hC dX12_after_62 (by decide) ?_
        refine j_isub hC dX12_after_63 ?_
        exact j_iret hC hQ dX12_after_64 rfl hv
      · have hv := hv.2 h_
        refine j_bipush (v := 8) hC dX12_after_52 (by decide) ?_
        refine j_iload_n (i := 3) hC dX12_after_54 rfl 3 rfl ?_
        refine j_iadd hC dX12_after_55 ?_
        refine j_iconst (v := 1) hC dX12_after_56 (by decide) ?_
        refine j_iadd hC dX12_after_57 ?_
        refine j_goto (tgt := 64) hC dX12_after_58 (by decide) ?_
        exact j_iret hC hQ dX12_after_64 rfl hv
  · have hv := hv.2 h_
    refine j_iload_n (i := 2) hC dX12_after_4 rfl 2 rfl ?_
    refine j_if_ne (tgt := 12) hC dX12_after_5 (by decide) (fun h_ => ?_) (fun h_ => ?_)
    · have hv := hv.1 h_
      refine j_aload_n (i := 0) hC dX12_after_12 rfl 0 rfl ?_
      refine j_get (C := RX12) (T := TX12) (N := 22) (v := .ref (ad 1)) hC hinX12 0 (wM_c0 ad cy _) rfl 2 (by decide) (mw 1 rfl) rfl rfl dX12_after_13 ?_
      refine j_iconst (v := 0) hC dX12_after_16 (by decide) ?_
      refine j_iald (v := ((m_rule g) 0)) hC 1 0 (wM_c1 ad cy _) rfl (jin_lit (by decide)) rfl dX12_after_17 ?_
      refine j_iconst (v := 1) hC dX12_after_18 (by decide) ?_
      refine j_icmp_ne (tgt := 31) hC dX12_after_19 (by decide) (fun h_ => ?_) (fun h_ => ?_)
      · have hv := hv.1 h_
        refine j_iconst (v := 0) hC dX12_after_31 (by decide) ?_
        refine j_aload_n (i := 0) hC dX12_after_32 rfl 0 rfl ?_
        refine j_get (C := RX12) (T := TX12) (N := 22) (v := .ref (ad 1)) hC hinX12 0 (wM_c0 ad cy _) rfl 2 (by decide) (mw 1 rfl) rfl rfl dX12_after_33 ?_
        refine j_iconst (v := 0) hC dX12_after_36 (by decide) ?_
        refine j_iald (v := ((m_rule g) 0)) hC 1 0 (wM_c1 ad cy _) rfl (jin_lit (by decide)) rfl dX12_after_37 ?_
        refine j_iadd hC dX12_after_38 ?_
        refine j_iconst (v := 1) hC dX12_after_39 (by decide) ?_
        refine j_isub hC dX12_after_40 ?_
        exact j_iret hC hQ dX12_after_41 rfl hv
      · have hv := hv.2 h_
        refine j_bipush (v := 8) hC dX12_after_22 (by decide) ?_
        refine j_iload_n (i := 3) hC dX12_after_24 rfl 3 rfl ?_
        refine j_iadd hC dX12_after_25 ?_
        refine j_iconst (v := 1) hC dX12_after_26 (by decide) ?_
        refine j_iadd hC dX12_after_27 ?_
        refine j_goto (tgt := 41) hC dX12_after_28 (by decide) ?_
        exact j_iret hC hQ dX12_after_41 rfl hv
    · have hv := hv.2 h_
      refine j_iconst (v := 0) hC dX12_after_8 (by decide) ?_
      refine j_goto (tgt := 41) hC dX12_after_9 (by decide) ?_
      exact j_iret hC hQ dX12_after_41 rfl hv
theorem hdM_waterIn : yX12_waterIn.cls = RX12 ∧ yX12_waterIn.cls ≠ "java/lang/invoke/MethodHandle" ∧ yX12_waterIn.cls ≠ "java/lang/invoke/VarHandle" ∧ (parseMethodDescriptor yX12_waterIn.desc).map (fun d => d.parameters.length) = some 4 := by decide +kernel
abbrev rM_waterIn : Room := { frames := 1, cells := 0, slots := 0, locals := 21 }
def vM_waterIn_48 (post : Int32 → GM → Prop) : Nat → Int32 → Int32 → Int32 → GM → Prop
  | 0, _, _, _, _ => False
  | k_ + 1, x4, x6, x7, g =>
  ((x4 < x7 → post x6 g) ∧ (¬ x4 < x7 → (vp_in x7 8 ∧ (vM_waterIn_48 post k_ x4 (x6 + ((m_river g) x7.toNatClampNeg)) (x7 + (1 : Int32)) g))))
def vM_waterIn (g : GM) (a1 : Int32) (a2 : Int32) (a3 : Int32) (a4 : Int32) (post : Int32 → GM → Prop) : Prop :=
  (vM_stateIn g a2 a3 (fun r2 g2 => ((r2 = (2 : Int32) → (vp_in ((((8 : Int32) * a1) + (a2 - (8 : Int32))) - (1 : Int32)) 64 ∧ (∃ n_ : Nat, vM_waterIn_48 post n_ a4 ((m_sea g2) ((((8 : Int32) * a1) + (a2 - (8 : Int32))) - (1 : Int32)).toNatClampNeg) (a2 - (8 : Int32)) g2))) ∧ (¬ r2 = (2 : Int32) → (vp_in (((8 : Int32) * a1) + a4) 64 ∧ post ((m_sea g2) (((8 : Int32) * a1) + a4).toNatClampNeg) g2)))))
set_option maxHeartbeats 4000000 in
set_option maxRecDepth 100000 in
theorem lM_waterIn_48 {Γ : jG} {l : Launch} {D : va_G} {ad : Nat → Nat} {cy : Nat → ClassId} {post : Int32 → GM → Prop} (hC : jC Γ l rM_waterIn D 8 RX12 cX12_waterIn wsX12_waterIn (tyM cy)) (hQ : jQi Γ D (wM ad cy) post (some .int) 0 0) : ∀ (n_ : Nat) (x4 : Int32) (x6 : Int32) (x7 : Int32) (g : GM), vM_waterIn_48 post n_ x4 x6 x7 g → J Γ D 8 0 0 (wM ad cy g) 48 [(0, .ref (ad 0)), (4, .int x4), (6, .int x6), (7, .int x7)] [] := by
  have hinX12 : ∀ w ∈ wsX120, w ∈ wsX12_waterIn := fun w h => List.mem_cons_of_mem _ (List.mem_append_right _ h)
  intro n_
  induction n_ with
  | zero => intro x4 x6 x7 g hv; exact False.elim hv
  | succ k_ ih =>
    intro x4 x6 x7 g hv
    unfold vM_waterIn_48 at hv
    refine j_iload hC dX12_waterIn_48 3 rfl ?_
    refine j_iload hC dX12_waterIn_50 1 rfl ?_
    refine j_icmp_gt (tgt := 73) hC dX12_waterIn_52 (by decide) (fun h_ => ?_) (fun h_ => ?_)
    · have hv := hv.1 h_
      refine j_iload hC dX12_waterIn_73 2 rfl ?_
      exact j_iret hC hQ dX12_waterIn_75 rfl hv
    · have hv := hv.2 h_
      refine j_iload hC dX12_waterIn_55 2 rfl ?_
      refine j_aload_n (i := 0) hC dX12_waterIn_57 rfl 0 rfl ?_
      refine j_get (C := RX12) (T := TX12) (N := 22) (v := .ref (ad 2)) hC hinX12 0 (wM_c0 ad cy _) rfl 3 (by decide) (mw 2 rfl) rfl rfl dX12_waterIn_58 ?_
      refine j_iload hC dX12_waterIn_61 3 rfl ?_
      have hb63 := hv.1
      have hv := hv.2
      refine j_iald (v := ((m_river g) x7.toNatClampNeg)) hC 2 0 (wM_c2 ad cy _) rfl hb63 rfl dX12_waterIn_63 ?_
      refine j_iadd hC dX12_waterIn_64 ?_
      refine j_istore (lv' := [(6, .int (x6 + ((m_river g) x7.toNatClampNeg))), (0, .ref (ad 0)), (4, .int x4), (7, .int x7)]) hC dX12_waterIn_65 (by decide) rfl ?_
      refine j_iinc (k := 3) (v := (x7 + (1 : Int32))) (lv' := [(7, .int (x7 + (1 : Int32))), (6, .int (x6 + ((m_river g) x7.toNatClampNeg))), (0, .ref (ad 0)), (4, .int x4)]) hC dX12_waterIn_67 rfl rfl (by decide) rfl ?_
      refine j_goto (tgt := 48) hC dX12_waterIn_70 (by decide) ?_
      exact j_lv [2, 3, 1, 0] rfl (ih _ _ _ _ hv)
set_option maxHeartbeats 4000000 in
set_option maxRecDepth 100000 in
theorem cM_waterIn {l : Launch} {D : va_G} {ad : Nat → Nat} {cy : Nat → ClassId} {g : GM} {a1 : Int32} {a2 : Int32} {a3 : Int32} {a4 : Int32} {post : Int32 → GM → Prop} (hv : vM_waterIn g a1 a2 a3 a4 post) : jMi l yX12_waterIn wsX12_waterIn rM_waterIn D (tyM cy) [.ref (ad 0), .int a1, .int a2, .int a3, .int a4] (wM ad cy g) (wM ad cy) post 0 0 := by
  refine j_meti (cc := cX12_waterIn) (nL := 8) (rt := (some .int)) (by decide) (Nat.le_of_ble_eq_true rfl) ?_
  intro Γ hC hQ _
  have hC : jC Γ l rM_waterIn D 8 RX12 cX12_waterIn wsX12_waterIn (tyM cy) := hC
  have hinX12 : ∀ w ∈ wsX120, w ∈ wsX12_waterIn := fun w h => List.mem_cons_of_mem _ (List.mem_append_right _ h)
  refine j_lv (lv' := [(0, .ref (ad 0)), (1, .int a1), (2, .int a2), (3, .int a3), (4, .int a4)]) [0, 1, 2, 3, 4] rfl ?_
  unfold vM_waterIn at hv
  refine j_iload_n (i := 2) hC dX12_waterIn_0 rfl 2 rfl ?_
  refine j_iload_n (i := 3) hC dX12_waterIn_1 rfl 3 rfl ?_
  refine j_callS_i (As := [.int a2, .int a3]) (rest := []) hC (cM_stateIn hv) 2 gX12_waterIn_X12_stateIn rfl rfl rfl ⟨Nat.le_of_ble_eq_true rfl, Nat.le_of_ble_eq_true rfl⟩ hdM_stateIn.2 rfl rfl (Nat.le_of_ble_eq_true rfl) ⟨Nat.zero_le _, Nat.zero_le _⟩ dX12_waterIn_2 (fun r2 g2 hv => ?_)
  refine j_iconst (v := 2) hC dX12_waterIn_5 (by decide) ?_
  refine j_icmp_eq (tgt := 22) hC dX12_waterIn_6 (by decide) (fun h_ => ?_) (fun h_ => ?_)
  · have hv := hv.1 h_
    refine j_iload_n (i := 2) hC dX12_waterIn_22 rfl 2 rfl ?_
    refine j_bipush (v := 8) hC dX12_waterIn_23 (by decide) ?_
    refine j_isub hC dX12_waterIn_25 ?_
    refine j_istore (lv' := [(5, .int (a2 - (8 : Int32))), (0, .ref (ad 0)), (1, .int a1), (2, .int a2), (3, .int a3), (4, .int a4)]) hC dX12_waterIn_26 (by decide) rfl ?_
    refine j_aload_n (i := 0) hC dX12_waterIn_28 rfl 1 rfl ?_
    refine j_get (C := RX12) (T := TX12) (N := 22) (v := .ref (ad 7)) hC hinX12 0 (wM_c0 ad cy _) rfl 9 (by decide) (mw 1 rfl) rfl rfl dX12_waterIn_29 ?_
    refine j_bipush (v := 8) hC dX12_waterIn_32 (by decide) ?_
    refine j_iload_n (i := 1) hC dX12_waterIn_34 rfl 2 rfl ?_
    refine j_imul hC dX12_waterIn_35 ?_
    refine j_iload hC dX12_waterIn_36 0 rfl ?_
    refine j_iadd hC dX12_waterIn_38 ?_
    refine j_iconst (v := 1) hC dX12_waterIn_39 (by decide) ?_
    refine j_isub hC dX12_waterIn_40 ?_
    have hb41 := hv.1
    have hv := hv.2
    refine j_iald (v := ((m_sea g2) ((((8 : Int32) * a1) + (a2 - (8 : Int32))) - (1 : Int32)).toNatClampNeg)) hC 7 0 (wM_c7 ad cy _) rfl hb41 rfl dX12_waterIn_41 ?_
    refine j_istore (lv' := [(6, .int ((m_sea g2) ((((8 : Int32) * a1) + (a2 - (8 : Int32))) - (1 : Int32)).toNatClampNeg)), (5, .int (a2 - (8 : Int32))), (0, .ref (ad 0)), (1, .int a1), (2, .int a2), (3, .int a3), (4, .int a4)]) hC dX12_waterIn_42 (by decide) rfl ?_
    refine j_iload hC dX12_waterIn_44 1 rfl ?_
    refine j_istore (lv' := [(7, .int (a2 - (8 : Int32))), (6, .int ((m_sea g2) ((((8 : Int32) * a1) + (a2 - (8 : Int32))) - (1 : Int32)).toNatClampNeg)), (5, .int (a2 - (8 : Int32))), (0, .ref (ad 0)), (1, .int a1), (2, .int a2), (3, .int a3), (4, .int a4)]) hC dX12_waterIn_46 (by decide) rfl ?_
    obtain ⟨n_, hv⟩ := hv
    exact j_lv [3, 7, 1, 0] rfl (lM_waterIn_48 hC hQ n_ _ _ _ _ hv)
  · have hv := hv.2 h_
    refine j_aload_n (i := 0) hC dX12_waterIn_9 rfl 0 rfl ?_
    refine j_get (C := RX12) (T := TX12) (N := 22) (v := .ref (ad 7)) hC hinX12 0 (wM_c0 ad cy _) rfl 9 (by decide) (mw 1 rfl) rfl rfl dX12_waterIn_10 ?_
    refine j_bipush (v := 8) hC dX12_waterIn_13 (by decide) ?_
    refine j_iload_n (i := 1) hC dX12_waterIn_15 rfl 1 rfl ?_
    refine j_imul hC dX12_waterIn_16 ?_
    refine j_iload hC dX12_waterIn_17 4 rfl ?_
    refine j_iadd hC dX12_waterIn_19 ?_
    have hb20 := hv.1
    have hv := hv.2
    refine j_iald (v := ((m_sea g2) (((8 : Int32) * a1) + a4).toNatClampNeg)) hC 7 0 (wM_c7 ad cy _) rfl hb20 rfl dX12_waterIn_20 ?_
    exact j_iret hC hQ dX12_waterIn_21 rfl hv
theorem hdM_lostIn : yX12_lostIn.cls = RX12 ∧ yX12_lostIn.cls ≠ "java/lang/invoke/MethodHandle" ∧ yX12_lostIn.cls ≠ "java/lang/invoke/VarHandle" ∧ (parseMethodDescriptor yX12_lostIn.desc).map (fun d => d.parameters.length) = some 4 := by decide +kernel
abbrev rM_lostIn : Room := { frames := 2, cells := 0, slots := 0, locals := 48 }
def vM_lostIn_18 (post : Int32 → GM → Prop) (x1 : Int32) (x2 : Int32) (x3 : Int32) (x4 : Int32) (t0 : Int32) (g : GM) : Prop :=
  (vM_stateIn g x2 x3 (fun r22 g22 => ((¬ r22 = (2 : Int32) → (vp_in (((8 : Int32) * x1) + x4) 64 ∧ ((((m_sea g22) (((8 : Int32) * x1) + x4).toNatClampNeg) ≤ ((m_rule g22) 2) → post (t0 + (0 : Int32)) g22) ∧ (¬ ((m_sea g22) (((8 : Int32) * x1) + x4).toNatClampNeg) ≤ ((m_rule g22) 2) → post (t0 + (((m_rule g22) 6) * (((m_sea g22) (((8 : Int32) * x1) + x4).toNatClampNeg) - ((m_rule g22) 2)))) g22)))) ∧ (r22 = (2 : Int32) → (vM_waterIn g22 x1 x2 x3 x4 (fun r35 g35 => ((r35 ≤ ((m_rule g35) 3) → post ((t0 + ((m_rule g35) 5)) + (0 : Int32)) g35) ∧ (¬ r35 ≤ ((m_rule g35) 3) → post ((t0 + ((m_rule g35) 5)) + (((m_rule g35) 7) * (r35 - ((m_rule g35) 3)))) g35))))))))
def vM_lostIn_17 (post : Int32 → GM → Prop) (x1 : Int32) (x2 : Int32) (x3 : Int32) (x4 : Int32) (g : GM) : Prop :=
  (vM_lostIn_18 post x1 x2 x3 x4 (0 : Int32) g)
def vM_lostIn (g : GM) (a1 : Int32) (a2 : Int32) (a3 : Int32) (a4 : Int32) (post : Int32 → GM → Prop) : Prop :=
  ((¬ a2 = (0 : Int32) → (vM_lostIn_17 post a1 a2 a3 a4 g)) ∧ (a2 = (0 : Int32) → ((a3 = (0 : Int32) → (vM_lostIn_17 post a1 a2 a3 a4 g)) ∧ (¬ a3 = (0 : Int32) → (vM_lostIn_18 post a1 a2 a3 a4 ((m_rule g) 4) g)))))
set_option maxHeartbeats 4000000 in
set_option maxRecDepth 100000 in
theorem lM_lostIn_18 {Γ : jG} {l : Launch} {D : va_G} {ad : Nat → Nat} {cy : Nat → ClassId} {post : Int32 → GM → Prop} (hC : jC Γ l rM_lostIn D 7 RX12 cX12_lostIn wsX12_lostIn (tyM cy)) (hQ : jQi Γ D (wM ad cy) post (some .int) 0 0) : ∀ (x1 : Int32) (x2 : Int32) (x3 : Int32) (x4 : Int32) (t0 : Int32) (g : GM), vM_lostIn_18 post x1 x2 x3 x4 t0 g → J Γ D 7 0 0 (wM ad cy g) 18 [(0, .ref (ad 0)), (1, .int x1), (2, .int x2), (3, .int x3), (4, .int x4)] [.int t0] := by
  have hinX12 : ∀ w ∈ wsX120, w ∈ wsX12_lostIn := fun w h => List.mem_cons_of_mem _ (List.mem_append_right _ h)
  intro x1 x2 x3 x4 t0 g hv
  unfold vM_lostIn_18 at hv
  refine j_istore (lv' := [(5, .int t0), (0, .ref (ad 0)), (1, .int x1), (2, .int x2), (3, .int x3), (4, .int x4)]) hC dX12_lostIn_18 (by decide) rfl ?_
  refine j_iload_n (i := 2) hC dX12_lostIn_20 rfl 3 rfl ?_
  refine j_iload_n (i := 3) hC dX12_lostIn_21 rfl 4 rfl ?_
  refine j_callS_i (As := [.int x2, .int x3]) (rest := []) hC (cM_stateIn hv) 2 gX12_lostIn_X12_stateIn rfl rfl rfl ⟨Nat.le_of_ble_eq_true rfl, Nat.le_of_ble_eq_true rfl⟩ hdM_stateIn.2 rfl rfl (Nat.le_of_ble_eq_true rfl) ⟨Nat.zero_le _, Nat.zero_le _⟩ dX12_lostIn_22 (fun r22 g22 hv => ?_)
  refine j_iconst (v := 2) hC dX12_lostIn_25 (by decide) ?_
  refine j_icmp_ne (tgt := 83) hC dX12_lostIn_26 (by decide) (fun h_ => ?_) (fun h_ => ?_)
  · have hv := hv.1 h_
    refine j_aload_n (i := 0) hC dX12_lostIn_83 rfl 1 rfl ?_
    refine j_get (C := RX12) (T := TX12) (N := 22) (v := .ref (ad 7)) hC hinX12 0 (wM_c0 ad cy _) rfl 9 (by decide) (mw 2 rfl) rfl rfl dX12_lostIn_84 ?_
    refine j_bipush (v := 8) hC dX12_lostIn_87 (by decide) ?_
    refine j_iload_n (i := 1) hC dX12_lostIn_89 rfl 2 rfl ?_
    refine j_imul hC dX12_lostIn_90 ?_
    refine j_iload hC dX12_lostIn_91 5 rfl ?_
    refine j_iadd hC dX12_lostIn_93 ?_
    have hb94 := hv.1
    have hv := hv.2
    refine j_iald (v := ((m_sea g22) (((8 : Int32) * x1) + x4).toNatClampNeg)) hC 7 0 (wM_c7 ad cy _) rfl hb94 rfl dX12_lostIn_94 ?_
    refine j_istore (lv' := [(6, .int ((m_sea g22) (((8 : Int32) * x1) + x4).toNatClampNeg)), (5, .int t0), (0, .ref (ad 0)), (1, .int x1), (2, .int x2), (3, .int x3), (4, .int x4)]) hC dX12_lostIn_95 (by decide) rfl ?_
    refine j_iload hC dX12_lostIn_97 1 rfl ?_
    refine j_iload hC dX12_lostIn_99 0 rfl ?_
    refine j_aload_n (i := 0) hC dX12_lostIn_101 rfl 2 rfl ?_
    refine j_get (C := RX12) (T := TX12) (N := 22) (v := .ref (ad 1)) hC hinX12 0 (wM_c0 ad cy _) rfl 2 (by decide) (mw 1 rfl) rfl rfl dX12_lostIn_102 ?_
    refine j_iconst (v := 2) hC dX12_lostIn_105 (by decide) ?_
    refine j_iald (v := ((m_rule g22) 2)) hC 1 0 (wM_c1 ad cy _) rfl (jin_lit (by decide)) rfl dX12_lostIn_106 ?_
    refine j_icmp_le (tgt := 130) hC dX12_lostIn_107 (by decide) (fun h_ => ?_) (fun h_ => ?_)
    · have hv := hv.1 h_
      refine j_iconst (v := 0) hC dX12_lostIn_130 (by decide) ?_
      refine j_iadd hC dX12_lostIn_131 ?_
      exact j_iret hC hQ dX12_lostIn_132 rfl hv
    · have hv := hv.2 h_
      refine j_aload_n (i := 0) hC dX12_lostIn_110 rfl 2 rfl ?_
      refine j_get (C := RX12) (T := TX12) (N := 22) (v := .ref (ad 1)) hC hinX12 0 (wM_c0 ad cy _) rfl 2 (by decide) (mw 1 rfl) rfl rfl dX12_lostIn_111 ?_
      refine j_bipush (v := 6) hC dX12_lostIn_114 (by decide) ?_
      refine j_iald (v := ((m_rule g22) 6)) hC 1 0 (wM_c1 ad cy _) rfl (jin_lit (by decide)) rfl dX12_lostIn_116 ?_
      refine j_iload hC dX12_lostIn_117 0 rfl ?_
      refine j_aload_n (i := 0) hC dX12_lostIn_119 rfl 2 rfl ?_
      refine j_get (C := RX12) (T := TX12) (N := 22) (v := .ref (ad 1)) hC hinX12 0 (wM_c0 ad cy _) rfl 2 (by decide) (mw 1 rfl) rfl rfl dX12_lostIn_120 ?_
      refine j_iconst (v := 2) hC dX12_lostIn_123 (by decide) ?_
      refine j_iald (v := ((m_rule g22) 2)) hC 1 0 (wM_c1 ad cy _) rfl (jin_lit (by decide)) rfl dX12_lostIn_124 ?_
      refine j_isub hC dX12_lostIn_125 ?_
      refine j_imul hC dX12_lostIn_126 ?_
      refine j_goto (tgt := 131) hC dX12_lostIn_127 (by decide) ?_
      refine j_iadd hC dX12_lostIn_131 ?_
      exact j_iret hC hQ dX12_lostIn_132 rfl hv
  · have hv := hv.2 h_
    refine j_aload_n (i := 0) hC dX12_lostIn_29 rfl 1 rfl ?_
    refine j_iload_n (i := 1) hC dX12_lostIn_30 rfl 2 rfl ?_
    refine j_iload_n (i := 2) hC dX12_lostIn_31 rfl 3 rfl ?_
    refine j_iload_n (i := 3) hC dX12_lostIn_32 rfl 4 rfl ?_
    refine j_iload hC dX12_lostIn_33 5 rfl ?_
    refine j_callV_i (C := RX12) (As := [.int x1, .int x2, .int x3, .int x4]) (rest := []) (b := (ad 0)) hC (cM_waterIn hv) 4 gX12_lostIn_X12_waterIn rfl rfl rfl ⟨Nat.le_of_ble_eq_true rfl, Nat.le_of_ble_eq_true rfl⟩ hdM_waterIn rfl (wM_c0 ad cy _) rfl rfl (Nat.le_of_ble_eq_true rfl) ⟨Nat.zero_le _, Nat.zero_le _⟩ dX12_lostIn_35 (fun r35 g35 hv => ?_)
    refine j_istore (lv' := [(6, .int r35), (5, .int t0), (0, .ref (ad 0)), (1, .int x1), (2, .int x2), (3, .int x3), (4, .int x4)]) hC dX12_lostIn_38 (by decide) rfl ?_
    refine j_iload hC dX12_lostIn_40 1 rfl ?_
    refine j_aload_n (i := 0) hC dX12_lostIn_42 rfl 2 rfl ?_
    refine j_get (C := RX12) (T := TX12) (N := 22) (v := .ref (ad 1)) hC hinX12 0 (wM_c0 ad cy _) rfl 2 (by decide) (mw 1 rfl) rfl rfl dX12_lostIn_43 ?_
    refine j_iconst (v := 5) hC dX12_lostIn_46 (by decide) ?_
    refine j_iald (v := ((m_rule g35) 5)) hC 1 0 (wM_c1 ad cy _) rfl (jin_lit (by decide)) rfl dX12_lostIn_47 ?_
    refine j_iadd hC dX12_lostIn_48 ?_
    refine j_iload hC dX12_lostIn_49 0 rfl ?_
    refine j_aload_n (i := 0) hC dX12_lostIn_51 rfl 2 rfl ?_
    refine j_get (C := RX12) (T := TX12) (N := 22) (v := .ref (ad 1)) hC hinX12 0 (wM_c0 ad cy _) rfl 2 (by decide) (mw 1 rfl) rfl rfl dX12_lostIn_52 ?_
    refine j_iconst (v := 3) hC dX12_lostIn_55 (by decide) ?_
    refine j_iald (v := ((m_rule g35) 3)) hC 1 0 (wM_c1 ad cy _) rfl (jin_lit (by decide)) rfl dX12_lostIn_56 ?_
    refine j_icmp_le (tgt := 80) hC dX12_lostIn_57 (by decide) (fun h_ => ?_) (fun h_ => ?_)
    · have hv := hv.1 h_
      refine j_iconst (v := 0) hC dX12_lostIn_80 (by decide) ?_
      refine j_iadd hC dX12_lostIn_81 ?_
      exact j_iret hC hQ dX12_lostIn_82 rfl hv
    · have hv := hv.2 h_
      refine j_aload_n (i := 0) hC dX12_lostIn_60 rfl 2 rfl ?_
      refine j_get (C := RX12) (T := TX12) (N := 22) (v := .ref (ad 1)) hC hinX12 0 (wM_c0 ad cy _) rfl 2 (by decide) (mw 1 rfl) rfl rfl dX12_lostIn_61 ?_
      refine j_bipush (v := 7) hC dX12_lostIn_64 (by decide) ?_
      refine j_iald (v := ((m_rule g35) 7)) hC 1 0 (wM_c1 ad cy _) rfl (jin_lit (by decide)) rfl dX12_lostIn_66 ?_
      refine j_iload hC dX12_lostIn_67 0 rfl ?_
      refine j_aload_n (i := 0) hC dX12_lostIn_69 rfl 2 rfl ?_
      refine j_get (C := RX12) (T := TX12) (N := 22) (v := .ref (ad 1)) hC hinX12 0 (wM_c0 ad cy _) rfl 2 (by decide) (mw 1 rfl) rfl rfl dX12_lostIn_70 ?_
      refine j_iconst (v := 3) hC dX12_lostIn_73 (by decide) ?_
      refine j_iald (v := ((m_rule g35) 3)) hC 1 0 (wM_c1 ad cy _) rfl (jin_lit (by decide)) rfl dX12_lostIn_74 ?_
      refine j_isub hC dX12_lostIn_75 ?_
      refine j_imul hC dX12_lostIn_76 ?_
      refine j_goto (tgt := 81) hC dX12_lostIn_77 (by decide) ?_
      refine j_iadd hC dX12_lostIn_81 ?_
      exact j_iret hC hQ dX12_lostIn_82 rfl hv
set_option maxHeartbeats 4000000 in
set_option maxRecDepth 100000 in
theorem lM_lostIn_17 {Γ : jG} {l : Launch} {D : va_G} {ad : Nat → Nat} {cy : Nat → ClassId} {post : Int32 → GM → Prop} (hC : jC Γ l rM_lostIn D 7 RX12 cX12_lostIn wsX12_lostIn (tyM cy)) (hQ : jQi Γ D (wM ad cy) post (some .int) 0 0) : ∀ (x1 : Int32) (x2 : Int32) (x3 : Int32) (x4 : Int32) (g : GM), vM_lostIn_17 post x1 x2 x3 x4 g → J Γ D 7 0 0 (wM ad cy g) 17 [(0, .ref (ad 0)), (1, .int x1), (2, .int x2), (3, .int x3), (4, .int x4)] [] := by
  have hinX12 : ∀ w ∈ wsX120, w ∈ wsX12_lostIn := fun w h => List.mem_cons_of_mem _ (List.mem_append_right _ h)
  intro x1 x2 x3 x4 g hv
  unfold vM_lostIn_17 at hv
  refine j_iconst (v := 0) hC dX12_lostIn_17 (by decide) ?_
  exact j_lv [0, 1, 2, 3, 4] rfl (lM_lostIn_18 hC hQ _ _ _ _ _ _ hv)
set_option maxHeartbeats 4000000 in
set_option maxRecDepth 100000 in
theorem cM_lostIn {l : Launch} {D : va_G} {ad : Nat → Nat} {cy : Nat → ClassId} {g : GM} {a1 : Int32} {a2 : Int32} {a3 : Int32} {a4 : Int32} {post : Int32 → GM → Prop} (hv : vM_lostIn g a1 a2 a3 a4 post) : jMi l yX12_lostIn wsX12_lostIn rM_lostIn D (tyM cy) [.ref (ad 0), .int a1, .int a2, .int a3, .int a4] (wM ad cy g) (wM ad cy) post 0 0 := by
  refine j_meti (cc := cX12_lostIn) (nL := 7) (rt := (some .int)) (by decide) (Nat.le_of_ble_eq_true rfl) ?_
  intro Γ hC hQ _
  have hC : jC Γ l rM_lostIn D 7 RX12 cX12_lostIn wsX12_lostIn (tyM cy) := hC
  have hinX12 : ∀ w ∈ wsX120, w ∈ wsX12_lostIn := fun w h => List.mem_cons_of_mem _ (List.mem_append_right _ h)
  refine j_lv (lv' := [(0, .ref (ad 0)), (1, .int a1), (2, .int a2), (3, .int a3), (4, .int a4)]) [0, 1, 2, 3, 4] rfl ?_
  unfold vM_lostIn at hv
  refine j_iload_n (i := 2) hC dX12_lostIn_0 rfl 2 rfl ?_
  refine j_if_ne (tgt := 17) hC dX12_lostIn_1 (by decide) (fun h_ => ?_) (fun h_ => ?_)
  · have hv := hv.1 h_
    exact j_lv [0, 1, 2, 3, 4] rfl (lM_lostIn_17 hC hQ _ _ _ _ _ hv)
  · have hv := hv.2 h_
    refine j_iload_n (i := 3) hC dX12_lostIn_4 rfl 3 rfl ?_
    refine j_if_eq (tgt := 17) hC dX12_lostIn_5 (by decide) (fun h_ => ?_) (fun h_ => ?_)
    · have hv := hv.1 h_
      exact j_lv [0, 1, 2, 3, 4] rfl (lM_lostIn_17 hC hQ _ _ _ _ _ hv)
    · have hv := hv.2 h_
      refine j_aload_n (i := 0) hC dX12_lostIn_8 rfl 0 rfl ?_
      refine j_get (C := RX12) (T := TX12) (N := 22) (v := .ref (ad 1)) hC hinX12 0 (wM_c0 ad cy _) rfl 2 (by decide) (mw 1 rfl) rfl rfl dX12_lostIn_9 ?_
      refine j_iconst (v := 4) hC dX12_lostIn_12 (by decide) ?_
      refine j_iald (v := ((m_rule g) 4)) hC 1 0 (wM_c1 ad cy _) rfl (jin_lit (by decide)) rfl dX12_lostIn_13 ?_
      refine j_goto (tgt := 18) hC dX12_lostIn_14 (by decide) ?_
      exact j_lv [0, 1, 2, 3, 4] rfl (lM_lostIn_18 hC hQ _ _ _ _ _ _ hv)
theorem hdM_lossBy : yX12_lossBy.cls = RX12 ∧ yX12_lossBy.cls ≠ "java/lang/invoke/MethodHandle" ∧ yX12_lossBy.cls ≠ "java/lang/invoke/VarHandle" ∧ (parseMethodDescriptor yX12_lossBy.desc).map (fun d => d.parameters.length) = some 4 := by decide +kernel
abbrev rM_lossBy : Room := { frames := 3, cells := 0, slots := 0, locals := 74 }
def vM_lossBy_115 (post : Int64 → GM → Prop) (K16 : Int32 → Int32 → Int32 → Int32 → Int64 → Int32 → Int32 → GM → Prop) (x1 : Int32) (x2 : Int32) (x3 : Int32) (x4 : Int32) (x5 : Int64) (x7 : Int32) (x8 : Int32) (g : GM) : Prop :=
  (K16 x1 x2 x3 x4 x5 x7 (x8 + (1 : Int32)) g)
def vM_lossBy_112 (post : Int64 → GM → Prop) (K16 : Int32 → Int32 → Int32 → Int32 → Int64 → Int32 → Int32 → GM → Prop) (x1 : Int32) (x2 : Int32) (x3 : Int32) (x4 : Int32) (x7 : Int32) (x8 : Int32) (t0 : Int64) (t1 : Int64) (g : GM) : Prop :=
  (vM_lossBy_115 post K16 x1 x2 x3 x4 (t1 + t0) x7 x8 g)
def vM_lossBy_111 (post : Int64 → GM → Prop) (K16 : Int32 → Int32 → Int32 → Int32 → Int64 → Int32 → Int32 → GM → Prop) (x1 : Int32) (x2 : Int32) (x3 : Int32) (x4 : Int32) (x7 : Int32) (x8 : Int32) (t0 : Int64) (g : GM) : Prop :=
  (vM_lossBy_112 post K16 x1 x2 x3 x4 x7 x8 (0 : Int64) t0 g)
def vM_lossBy_16 (post : Int64 → GM → Prop) : Nat → Int32 → Int32 → Int32 → Int32 → Int64 → Int32 → Int32 → GM → Prop
  | 0, _, _, _, _, _, _, _, _ => False
  | k_ + 1, x1, x2, x3, x4, x5, x7, x8, g =>
  (((m_worlds g) ≤ x8 → post x5 g) ∧ (¬ (m_worlds g) ≤ x8 → (vM_groupOf g x8 x4 (fun r30 g30 => ((¬ r30 = x1 → (vM_lossBy_115 post (fun x1 x2 x3 x4 x5 x7 x8 g => vM_lossBy_16 post k_ x1 x2 x3 x4 x5 x7 x8 g) x1 x2 x3 x4 x5 x7 x8 g30)) ∧ (r30 = x1 → (vp_in x8 8 ∧ (vM_lostIn g30 x8 x2 x3 x4 (fun r54 g54 => (((7 : Int32) ≤ x4 → (vM_lossBy_111 post (fun x1 x2 x3 x4 x5 x7 x8 g => vM_lossBy_16 post k_ x1 x2 x3 x4 x5 x7 x8 g) x1 x2 x3 x4 x7 x8 (x5 + ((((m_weight g30) x8.toNatClampNeg).toInt64) * (r54.toInt64))) g54)) ∧ (¬ (7 : Int32) ≤ x4 → (vM_groupOf g54 x8 (x4 + (1 : Int32)) (fun r78 g78 => ((¬ r78 = x8 → (vM_lossBy_111 post (fun x1 x2 x3 x4 x5 x7 x8 g => vM_lossBy_16 post k_ x1 x2 x3 x4 x5 x7 x8 g) x1 x2 x3 x4 x7 x8 (x5 + ((((m_weight g30) x8.toNatClampNeg).toInt64) * (r54.toInt64))) g78)) ∧ (r78 = x8 → (vp_in ((((128 : Int32) * (x4 + (1 : Int32))) + ((16 : Int32) * x8)) + x7) 1152 ∧ (vM_lossBy_112 post (fun x1 x2 x3 x4 x5 x7 x8 g => vM_lossBy_16 post k_ x1 x2 x3 x4 x5 x7 x8 g) x1 x2 x3 x4 x7 x8 ((m_least g78) ((((128 : Int32) * (x4 + (1 : Int32))) + ((16 : Int32) * x8)) + x7).toNatClampNeg) (x5 + ((((m_weight g30) x8.toNatClampNeg).toInt64) * (r54.toInt64))) g78)))))))))))))))))
def vM_lossBy (g : GM) (a1 : Int32) (a2 : Int32) (a3 : Int32) (a4 : Int32) (post : Int64 → GM → Prop) : Prop :=
  (vM_after g a2 a3 a4 (fun r8 g8 => (∃ n_ : Nat, vM_lossBy_16 post n_ a1 a2 a3 a4 (0 : Int64) r8 a1 g8)))
set_option maxHeartbeats 4000000 in
set_option maxRecDepth 100000 in
theorem lM_lossBy_115 {Γ : jG} {l : Launch} {D : va_G} {ad : Nat → Nat} {cy : Nat → ClassId} {post : Int64 → GM → Prop} (hC : jC Γ l rM_lossBy D 9 RX12 cX12_lossBy wsX12_lossBy (tyM cy)) (hQ : jQl Γ D (wM ad cy) post (some .long) 0 0) {K16 : Int32 → Int32 → Int32 → Int32 → Int64 → Int32 → Int32 → GM → Prop} (hK16 : ∀ (x1 : Int32) (x2 : Int32) (x3 : Int32) (x4 : Int32) (x5 : Int64) (x7 : Int32) (x8 : Int32) (g : GM), K16 x1 x2 x3 x4 x5 x7 x8 g → J Γ D 9 0 0 (wM ad cy g) 16 [(0, .ref (ad 0)), (1, .int x1), (2, .int x2), (3, .int x3), (4, .int x4), (5, .long x5), (7, .int x7), (8, .int x8)] []) : ∀ (x1 : Int32) (x2 : Int32) (x3 : Int32) (x4 : Int32) (x5 : Int64) (x7 : Int32) (x8 : Int32) (g : GM), vM_lossBy_115 post K16 x1 x2 x3 x4 x5 x7 x8 g → J Γ D 9 0 0 (wM ad cy g) 115 [(0, .ref (ad 0)), (1, .int x1), (2, .int x2), (3, .int x3), (4, .int x4), (5, .long x5), (7, .int x7), (8, .int x8)] [] := by
  have hinX12 : ∀ w ∈ wsX120, w ∈ wsX12_lossBy := fun w h => List.mem_cons_of_mem _ (List.mem_append_right _ h)
  intro x1 x2 x3 x4 x5 x7 x8 g hv
  unfold vM_lossBy_115 at hv
  refine j_iinc (k := 7) (v := (x8 + (1 : Int32))) (lv' := [(8, .int (x8 + (1 : Int32))), (0, .ref (ad 0)), (1, .int x1), (2, .int x2), (3, .int x3), (4, .int x4), (5, .long x5), (7, .int x7)]) hC dX12_lossBy_115 rfl rfl (by decide) rfl ?_
  refine j_goto (tgt := 16) hC dX12_lossBy_118 (by decide) ?_
  exact j_lv [1, 2, 3, 4, 5, 6, 7, 0] rfl (hK16 _ _ _ _ _ _ _ _ hv)
set_option maxHeartbeats 4000000 in
set_option maxRecDepth 100000 in
theorem lM_lossBy_112 {Γ : jG} {l : Launch} {D : va_G} {ad : Nat → Nat} {cy : Nat → ClassId} {post : Int64 → GM → Prop} (hC : jC Γ l rM_lossBy D 9 RX12 cX12_lossBy wsX12_lossBy (tyM cy)) (hQ : jQl Γ D (wM ad cy) post (some .long) 0 0) {K16 : Int32 → Int32 → Int32 → Int32 → Int64 → Int32 → Int32 → GM → Prop} (hK16 : ∀ (x1 : Int32) (x2 : Int32) (x3 : Int32) (x4 : Int32) (x5 : Int64) (x7 : Int32) (x8 : Int32) (g : GM), K16 x1 x2 x3 x4 x5 x7 x8 g → J Γ D 9 0 0 (wM ad cy g) 16 [(0, .ref (ad 0)), (1, .int x1), (2, .int x2), (3, .int x3), (4, .int x4), (5, .long x5), (7, .int x7), (8, .int x8)] []) : ∀ (x1 : Int32) (x2 : Int32) (x3 : Int32) (x4 : Int32) (x7 : Int32) (x8 : Int32) (t0 : Int64) (t1 : Int64) (g : GM), vM_lossBy_112 post K16 x1 x2 x3 x4 x7 x8 t0 t1 g → J Γ D 9 0 0 (wM ad cy g) 112 [(0, .ref (ad 0)), (1, .int x1), (2, .int x2), (3, .int x3), (4, .int x4), (7, .int x7), (8, .int x8)] [.long t0, .long t1] := by
  have hinX12 : ∀ w ∈ wsX120, w ∈ wsX12_lossBy := fun w h => List.mem_cons_of_mem _ (List.mem_append_right _ h)
  intro x1 x2 x3 x4 x7 x8 t0 t1 g hv
  unfold vM_lossBy_112 at hv
  refine j_ladd hC dX12_lossBy_112 ?_
  refine j_lstore (lv' := [(5, .long (t1 + t0)), (0, .ref (ad 0)), (1, .int x1), (2, .int x2), (3, .int x3), (4, .int x4), (7, .int x7), (8, .int x8)]) hC dX12_lossBy_113 (by decide) rfl ?_
  exact j_lv [1, 2, 3, 4, 5, 0, 6, 7] rfl (lM_lossBy_115 hC hQ hK16 _ _ _ _ _ _ _ _ hv)
set_option maxHeartbeats 4000000 in
set_option maxRecDepth 100000 in
theorem lM_lossBy_111 {Γ : jG} {l : Launch} {D : va_G} {ad : Nat → Nat} {cy : Nat → ClassId} {post : Int64 → GM → Prop} (hC : jC Γ l rM_lossBy D 9 RX12 cX12_lossBy wsX12_lossBy (tyM cy)) (hQ : jQl Γ D (wM ad cy) post (some .long) 0 0) {K16 : Int32 → Int32 → Int32 → Int32 → Int64 → Int32 → Int32 → GM → Prop} (hK16 : ∀ (x1 : Int32) (x2 : Int32) (x3 : Int32) (x4 : Int32) (x5 : Int64) (x7 : Int32) (x8 : Int32) (g : GM), K16 x1 x2 x3 x4 x5 x7 x8 g → J Γ D 9 0 0 (wM ad cy g) 16 [(0, .ref (ad 0)), (1, .int x1), (2, .int x2), (3, .int x3), (4, .int x4), (5, .long x5), (7, .int x7), (8, .int x8)] []) : ∀ (x1 : Int32) (x2 : Int32) (x3 : Int32) (x4 : Int32) (x7 : Int32) (x8 : Int32) (t0 : Int64) (g : GM), vM_lossBy_111 post K16 x1 x2 x3 x4 x7 x8 t0 g → J Γ D 9 0 0 (wM ad cy g) 111 [(0, .ref (ad 0)), (1, .int x1), (2, .int x2), (3, .int x3), (4, .int x4), (7, .int x7), (8, .int x8)] [.long t0] := by
  have hinX12 : ∀ w ∈ wsX120, w ∈ wsX12_lossBy := fun w h => List.mem_cons_of_mem _ (List.mem_append_right _ h)
  intro x1 x2 x3 x4 x7 x8 t0 g hv
  unfold vM_lossBy_111 at hv
  refine j_lconst (v := 0) hC dX12_lossBy_111 (by decide) ?_
  exact j_lv [0, 1, 2, 3, 4, 5, 6] rfl (lM_lossBy_112 hC hQ hK16 _ _ _ _ _ _ _ _ _ hv)
set_option maxHeartbeats 4000000 in
set_option maxRecDepth 100000 in
theorem lM_lossBy_16 {Γ : jG} {l : Launch} {D : va_G} {ad : Nat → Nat} {cy : Nat → ClassId} {post : Int64 → GM → Prop} (hC : jC Γ l rM_lossBy D 9 RX12 cX12_lossBy wsX12_lossBy (tyM cy)) (hQ : jQl Γ D (wM ad cy) post (some .long) 0 0) : ∀ (n_ : Nat) (x1 : Int32) (x2 : Int32) (x3 : Int32) (x4 : Int32) (x5 : Int64) (x7 : Int32) (x8 : Int32) (g : GM), vM_lossBy_16 post n_ x1 x2 x3 x4 x5 x7 x8 g → J Γ D 9 0 0 (wM ad cy g) 16 [(0, .ref (ad 0)), (1, .int x1), (2, .int x2), (3, .int x3), (4, .int x4), (5, .long x5), (7, .int x7), (8, .int x8)] [] := by
  have hinX12 : ∀ w ∈ wsX120, w ∈ wsX12_lossBy := fun w h => List.mem_cons_of_mem _ (List.mem_append_right _ h)
  intro n_
  induction n_ with
  | zero => intro x1 x2 x3 x4 x5 x7 x8 g hv; exact False.elim hv
  | succ k_ ih =>
    intro x1 x2 x3 x4 x5 x7 x8 g hv
    unfold vM_lossBy_16 at hv
    refine j_iload hC dX12_lossBy_16 7 rfl ?_
    refine j_aload_n (i := 0) hC dX12_lossBy_18 rfl 0 rfl ?_
    refine j_get (C := RX12) (T := TX12) (N := 22) (v := .int (m_worlds g)) hC hinX12 0 (wM_c0 ad cy _) rfl 7 (by decide) (mw 1 rfl) rfl rfl dX12_lossBy_19 ?_
    refine j_icmp_ge (tgt := 121) hC dX12_lossBy_22 (by decide) (fun h_ => ?_) (fun h_ => ?_)
    · have hv := hv.1 h_
      refine j_lload hC dX12_lossBy_121 5 rfl ?_
      exact j_lret hC hQ dX12_lossBy_123 rfl hv
    · have hv := hv.2 h_
      refine j_aload_n (i := 0) hC dX12_lossBy_25 rfl 0 rfl ?_
      refine j_iload hC dX12_lossBy_26 7 rfl ?_
      refine j_iload hC dX12_lossBy_28 4 rfl ?_
      refine j_callV_i (C := RX12) (As := [.int x8, .int x4]) (rest := []) (b := (ad 0)) hC (cM_groupOf hv) 2 gX12_lossBy_X12_groupOf rfl rfl rfl ⟨Nat.le_of_ble_eq_true rfl, Nat.le_of_ble_eq_true rfl⟩ hdM_groupOf rfl (wM_c0 ad cy _) rfl rfl (Nat.le_of_ble_eq_true rfl) ⟨Nat.zero_le _, Nat.zero_le _⟩ dX12_lossBy_30 (fun r30 g30 hv => ?_)
      refine j_iload_n (i := 1) hC dX12_lossBy_33 rfl 1 rfl ?_
      refine j_icmp_ne (tgt := 115) hC dX12_lossBy_34 (by decide) (fun h_ => ?_) (fun h_ => ?_)
      · have hv := hv.1 h_
        exact j_lv [0, 1, 2, 3, 4, 5, 6, 7] rfl (lM_lossBy_115 hC hQ (K16 := fun x1 x2 x3 x4 x5 x7 x8 g => vM_lossBy_16 post k_ x1 x2 x3 x4 x5 x7 x8 g) (fun _ _ _ _ _ _ _ _ h_ => ih _ _ _ _ _ _ _ _ h_) _ _ _ _ _ _ _ _ hv)
      · have hv := hv.2 h_
        refine j_lload hC dX12_lossBy_37 5 rfl ?_
        refine j_aload_n (i := 0) hC dX12_lossBy_39 rfl 0 rfl ?_
        refine j_get (C := RX12) (T := TX12) (N := 22) (v := .ref (ad 6)) hC hinX12 0 (wM_c0 ad cy _) rfl 8 (by decide) (mw 2 rfl) rfl rfl dX12_lossBy_40 ?_
        refine j_iload hC dX12_lossBy_43 7 rfl ?_
        have hb45 := hv.1
        have hv := hv.2
        refine j_iald (v := ((m_weight g30) x8.toNatClampNeg)) hC 6 0 (wM_c6 ad cy _) rfl hb45 rfl dX12_lossBy_45 ?_
        refine j_i2l hC dX12_lossBy_46 ?_
        refine j_aload_n (i := 0) hC dX12_lossBy_47 rfl 0 rfl ?_
        refine j_iload hC dX12_lossBy_48 7 rfl ?_
        refine j_iload_n (i := 2) hC dX12_lossBy_50 rfl 2 rfl ?_
        refine j_iload_n (i := 3) hC dX12_lossBy_51 rfl 3 rfl ?_
        refine j_iload hC dX12_lossBy_52 4 rfl ?_
        refine j_callV_i (C := RX12) (As := [.int x8, .int x2, .int x3, .int x4]) (rest := [.long (((m_weight g30) x8.toNatClampNeg).toInt64), .long x5]) (b := (ad 0)) hC (cM_lostIn hv) 4 gX12_lossBy_X12_lostIn rfl rfl rfl ⟨Nat.le_of_ble_eq_true rfl, Nat.le_of_ble_eq_true rfl⟩ hdM_lostIn rfl (wM_c0 ad cy _) rfl rfl (Nat.le_of_ble_eq_true rfl) ⟨Nat.zero_le _, Nat.zero_le _⟩ dX12_lossBy_54 (fun r54 g54 hv => ?_)
        refine j_i2l hC dX12_lossBy_57 ?_
        refine j_lmul hC dX12_lossBy_58 ?_
        refine j_ladd hC dX12_lossBy_59 ?_
        refine j_lstore (lv' := [(5, .long (x5 + ((((m_weight g30) x8.toNatClampNeg).toInt64) * (r54.toInt64)))), (0, .ref (ad 0)), (1, .int x1), (2, .int x2), (3, .int x3), (4, .int x4), (7, .int x7), (8, .int x8)]) hC dX12_lossBy_60 (by decide) rfl ?_
        refine j_lload hC dX12_lossBy_62 0 rfl ?_
        refine j_iload hC dX12_lossBy_64 5 rfl ?_
        refine j_bipush (v := 7) hC dX12_lossBy_66 (by decide) ?_
        refine j_icmp_ge (tgt := 111) hC dX12_lossBy_68 (by decide) (fun h_ => ?_) (fun h_ => ?_)
        · have hv := hv.1 h_
          exact j_lv [1, 2, 3, 4, 5, 6, 7] rfl (lM_lossBy_111 hC hQ (K16 := fun x1 x2 x3 x4 x5 x7 x8 g => vM_lossBy_16 post k_ x1 x2 x3 x4 x5 x7 x8 g) (fun _ _ _ _ _ _ _ _ h_ => ih _ _ _ _ _ _ _ _ h_) _ _ _ _ _ _ _ _ hv)
        · have hv := hv.2 h_
          refine j_aload_n (i := 0) hC dX12_lossBy_71 rfl 1 rfl ?_
          refine j_iload hC dX12_lossBy_72 7 rfl ?_
          refine j_iload hC dX12_lossBy_74 5 rfl ?_
          refine j_iconst (v := 1) hC dX12_lossBy_76 (by decide) ?_
          refine j_iadd hC dX12_lossBy_77 ?_
          refine j_callV_i (C := RX12) (As := [.int x8, .int (x4 + (1 : Int32))]) (rest := [.long (x5 + ((((m_weight g30) x8.toNatClampNeg).toInt64) * (r54.toInt64)))]) (b := (ad 0)) hC (cM_groupOf hv) 2 gX12_lossBy_X12_groupOf rfl rfl rfl ⟨Nat.le_of_ble_eq_true rfl, Nat.le_of_ble_eq_true rfl⟩ hdM_groupOf rfl (wM_c0 ad cy _) rfl rfl (Nat.le_of_ble_eq_true rfl) ⟨Nat.zero_le _, Nat.zero_le _⟩ dX12_lossBy_78 (fun r78 g78 hv => ?_)
          refine j_iload hC dX12_lossBy_81 7 rfl ?_
          refine j_icmp_ne (tgt := 111) hC dX12_lossBy_83 (by decide) (fun h_ => ?_) (fun h_ => ?_)
          · have hv := hv.1 h_
            exact j_lv [1, 2, 3, 4, 5, 6, 7] rfl (lM_lossBy_111 hC hQ (K16 := fun x1 x2 x3 x4 x5 x7 x8 g => vM_lossBy_16 post k_ x1 x2 x3 x4 x5 x7 x8 g) (fun _ _ _ _ _ _ _ _ h_ => ih _ _ _ _ _ _ _ _ h_) _ _ _ _ _ _ _ _ hv)
          · have hv := hv.2 h_
            refine j_aload_n (i := 0) hC dX12_lossBy_86 rfl 1 rfl ?_
            refine j_get (C := RX12) (T := TX12) (N := 22) (v := .ref (ad 8)) hC hinX12 0 (wM_c0 ad cy _) rfl 10 (by decide) (mw 3 rfl) rfl rfl dX12_lossBy_87 ?_
            refine j_sipush (v := 128) hC dX12_lossBy_90 (by decide) ?_
            refine j_iload hC dX12_lossBy_93 5 rfl ?_
            refine j_iconst (v := 1) hC dX12_lossBy_95 (by decide) ?_
            refine j_iadd hC dX12_lossBy_96 ?_
            refine j_imul hC dX12_lossBy_97 ?_
            refine j_bipush (v := 16) hC dX12_lossBy_98 (by decide) ?_
            refine j_iload hC dX12_lossBy_100 7 rfl ?_
            refine j_imul hC dX12_lossBy_102 ?_
            refine j_iadd hC dX12_lossBy_103 ?_
            refine j_iload hC dX12_lossBy_104 6 rfl ?_
            refine j_iadd hC dX12_lossBy_106 ?_
            have hb107 := hv.1
            have hv := hv.2
            refine j_lald (v := ((m_least g78) ((((128 : Int32) * (x4 + (1 : Int32))) + ((16 : Int32) * x8)) + x7).toNatClampNeg)) hC 8 1 (wM_c8 ad cy _) rfl hb107 rfl dX12_lossBy_107 ?_
            refine j_goto (tgt := 112) hC dX12_lossBy_108 (by decide) ?_
            exact j_lv [1, 2, 3, 4, 5, 6, 7] rfl (lM_lossBy_112 hC hQ (K16 := fun x1 x2 x3 x4 x5 x7 x8 g => vM_lossBy_16 post k_ x1 x2 x3 x4 x5 x7 x8 g) (fun _ _ _ _ _ _ _ _ h_ => ih _ _ _ _ _ _ _ _ h_) _ _ _ _ _ _ _ _ _ hv)
set_option maxHeartbeats 4000000 in
set_option maxRecDepth 100000 in
theorem cM_lossBy {l : Launch} {D : va_G} {ad : Nat → Nat} {cy : Nat → ClassId} {g : GM} {a1 : Int32} {a2 : Int32} {a3 : Int32} {a4 : Int32} {post : Int64 → GM → Prop} (hv : vM_lossBy g a1 a2 a3 a4 post) : jMl l yX12_lossBy wsX12_lossBy rM_lossBy D (tyM cy) [.ref (ad 0), .int a1, .int a2, .int a3, .int a4] (wM ad cy g) (wM ad cy) post 0 0 := by
  refine j_metl (cc := cX12_lossBy) (nL := 9) (rt := (some .long)) (by decide) (Nat.le_of_ble_eq_true rfl) ?_
  intro Γ hC hQ _
  have hC : jC Γ l rM_lossBy D 9 RX12 cX12_lossBy wsX12_lossBy (tyM cy) := hC
  have hinX12 : ∀ w ∈ wsX120, w ∈ wsX12_lossBy := fun w h => List.mem_cons_of_mem _ (List.mem_append_right _ h)
  refine j_lv (lv' := [(0, .ref (ad 0)), (1, .int a1), (2, .int a2), (3, .int a3), (4, .int a4)]) [0, 1, 2, 3, 4] rfl ?_
  unfold vM_lossBy at hv
  refine j_lconst (v := 0) hC dX12_lossBy_0 (by decide) ?_
  refine j_lstore (lv' := [(5, .long (0 : Int64)), (0, .ref (ad 0)), (1, .int a1), (2, .int a2), (3, .int a3), (4, .int a4)]) hC dX12_lossBy_1 (by decide) rfl ?_
  refine j_aload_n (i := 0) hC dX12_lossBy_3 rfl 1 rfl ?_
  refine j_iload_n (i := 2) hC dX12_lossBy_4 rfl 3 rfl ?_
  refine j_iload_n (i := 3) hC dX12_lossBy_5 rfl 4 rfl ?_
  refine j_iload hC dX12_lossBy_6 5 rfl ?_
  refine j_callV_i (C := RX12) (As := [.int a2, .int a3, .int a4]) (rest := []) (b := (ad 0)) hC (cM_after hv) 3 gX12_lossBy_X12_after rfl rfl rfl ⟨Nat.le_of_ble_eq_true rfl, Nat.le_of_ble_eq_true rfl⟩ hdM_after rfl (wM_c0 ad cy _) rfl rfl (Nat.le_of_ble_eq_true rfl) ⟨Nat.zero_le _, Nat.zero_le _⟩ dX12_lossBy_8 (fun r8 g8 hv => ?_)
  refine j_istore (lv' := [(7, .int r8), (5, .long (0 : Int64)), (0, .ref (ad 0)), (1, .int a1), (2, .int a2), (3, .int a3), (4, .int a4)]) hC dX12_lossBy_11 (by decide) rfl ?_
  refine j_iload_n (i := 1) hC dX12_lossBy_13 rfl 3 rfl ?_
  refine j_istore (lv' := [(8, .int a1), (7, .int r8), (5, .long (0 : Int64)), (0, .ref (ad 0)), (1, .int a1), (2, .int a2), (3, .int a3), (4, .int a4)]) hC dX12_lossBy_14 (by decide) rfl ?_
  obtain ⟨n_, hv⟩ := hv
  exact j_lv [3, 4, 5, 6, 7, 2, 1, 0] rfl (lM_lossBy_16 hC hQ n_ _ _ _ _ _ _ _ _ hv)
theorem hdM_findBest : yX12_findBest.cls = RX12 ∧ yX12_findBest.cls ≠ "java/lang/invoke/MethodHandle" ∧ yX12_findBest.cls ≠ "java/lang/invoke/VarHandle" ∧ (parseMethodDescriptor yX12_findBest.desc).map (fun d => d.parameters.length) = some 0 := by decide +kernel
abbrev rM_findBest : Room := { frames := 4, cells := 0, slots := 0, locals := 102 }
def vM_findBest_173 (post : GM → Prop) (K3 : Int32 → GM → Prop) (K9 : Int32 → Int32 → GM → Prop) (K19 : Int32 → Int32 → Int32 → GM → Prop) (x1 : Int32) (x2 : Int32) (x3 : Int32) (g : GM) : Prop :=
  (K19 x1 x2 (x3 + (1 : Int32)) g)
def vM_findBest_141 (post : GM → Prop) (K3 : Int32 → GM → Prop) (K9 : Int32 → Int32 → GM → Prop) (K19 : Int32 → Int32 → Int32 → GM → Prop) (x1 : Int32) (x2 : Int32) (x3 : Int32) (x5 : Int32) (t0 : Int64) (g : GM) : Prop :=
  (vp_in x5 1152 ∧ ((((m_least g) x5.toNatClampNeg) ≤ t0 → (vM_findBest_173 post K3 K9 K19 x1 x2 x3 g)) ∧ (¬ ((m_least g) x5.toNatClampNeg) ≤ t0 → (vp_in x5 1152 ∧ (vp_in x5 1152 ∧ (vM_findBest_173 post K3 K9 K19 x1 x2 x3 (sm_isTold (sm_least g (vp_updL (m_least g) x5.toNatClampNeg t0)) (upd (m_isTold g) x5.toNatClampNeg (vp_nar .boolean (1 : Int32))))))))))
def vM_findBest_123 (post : GM → Prop) (K3 : Int32 → GM → Prop) (K9 : Int32 → Int32 → GM → Prop) (K19 : Int32 → Int32 → Int32 → GM → Prop) (x1 : Int32) (x2 : Int32) (x3 : Int32) (x5 : Int32) (g : GM) : Prop :=
  (vM_lossBy g x2 x3 (1 : Int32) x1 (fun r128 g128 => (vM_findBest_141 post K3 K9 K19 x1 x2 x3 x5 r128 g128)))
def vM_findBest_59 (post : GM → Prop) (K3 : Int32 → GM → Prop) (K9 : Int32 → Int32 → GM → Prop) (K19 : Int32 → Int32 → Int32 → GM → Prop) (x1 : Int32) (x2 : Int32) (x3 : Int32) (t0 : Int32) (g : GM) : Prop :=
  ((t0 = (0 : Int32) → (vM_findBest_173 post K3 K9 K19 x1 x2 x3 g)) ∧ (¬ t0 = (0 : Int32) → (vM_groupOf g x2 x1 (fun r69 g69 => ((¬ r69 = x2 → (vM_findBest_173 post K3 K9 K19 x1 x2 x3 g69)) ∧ (r69 = x2 → (vM_lossBy g69 x2 x3 (0 : Int32) x1 (fun r101 g101 => (vp_in ((((128 : Int32) * x1) + ((16 : Int32) * x2)) + x3) 1152 ∧ (vp_in ((((128 : Int32) * x1) + ((16 : Int32) * x2)) + x3) 1152 ∧ ((x3 = (0 : Int32) → (vM_findBest_123 post K3 K9 K19 x1 x2 x3 ((((128 : Int32) * x1) + ((16 : Int32) * x2)) + x3) (sm_isTold (sm_least g101 (vp_updL (m_least g101) ((((128 : Int32) * x1) + ((16 : Int32) * x2)) + x3).toNatClampNeg r101)) (upd (m_isTold g101) ((((128 : Int32) * x1) + ((16 : Int32) * x2)) + x3).toNatClampNeg (vp_nar .boolean (0 : Int32)))))) ∧ (¬ x3 = (0 : Int32) → ((x3 ≤ (8 : Int32) → (vp_in ((((128 : Int32) * x1) + ((16 : Int32) * x2)) + x3) 1152 ∧ (vM_findBest_141 post K3 K9 K19 x1 x2 x3 ((((128 : Int32) * x1) + ((16 : Int32) * x2)) + x3) ((vp_updL (m_least g101) ((((128 : Int32) * x1) + ((16 : Int32) * x2)) + x3).toNatClampNeg r101) ((((128 : Int32) * x1) + ((16 : Int32) * x2)) + x3).toNatClampNeg) (sm_isTold (sm_least g101 (vp_updL (m_least g101) ((((128 : Int32) * x1) + ((16 : Int32) * x2)) + x3).toNatClampNeg r101)) (upd (m_isTold g101) ((((128 : Int32) * x1) + ((16 : Int32) * x2)) + x3).toNatClampNeg (vp_nar .boolean (0 : Int32))))))) ∧ (¬ x3 ≤ (8 : Int32) → (vM_findBest_123 post K3 K9 K19 x1 x2 x3 ((((128 : Int32) * x1) + ((16 : Int32) * x2)) + x3) (sm_isTold (sm_least g101 (vp_updL (m_least g101) ((((128 : Int32) * x1) + ((16 : Int32) * x2)) + x3).toNatClampNeg r101)) (upd (m_isTold g101) ((((128 : Int32) * x1) + ((16 : Int32) * x2)) + x3).toNatClampNeg (vp_nar .boolean (0 : Int32)))))))))))))))))))
def vM_findBest_54 (post : GM → Prop) (K3 : Int32 → GM → Prop) (K9 : Int32 → Int32 → GM → Prop) (K19 : Int32 → Int32 → Int32 → GM → Prop) (x1 : Int32) (x2 : Int32) (x3 : Int32) (g : GM) : Prop :=
  (vM_findBest_59 post K3 K9 K19 x1 x2 x3 (1 : Int32) g)
def vM_findBest_58 (post : GM → Prop) (K3 : Int32 → GM → Prop) (K9 : Int32 → Int32 → GM → Prop) (K19 : Int32 → Int32 → Int32 → GM → Prop) (x1 : Int32) (x2 : Int32) (x3 : Int32) (g : GM) : Prop :=
  (vM_findBest_59 post K3 K9 K19 x1 x2 x3 (0 : Int32) g)
def vM_findBest_179 (post : GM → Prop) (K3 : Int32 → GM → Prop) (K9 : Int32 → Int32 → GM → Prop) (x1 : Int32) (x2 : Int32) (g : GM) : Prop :=
  (K9 x1 (x2 + (1 : Int32)) g)
def vM_findBest_19 (post : GM → Prop) (K3 : Int32 → GM → Prop) (K9 : Int32 → Int32 → GM → Prop) : Nat → Int32 → Int32 → Int32 → GM → Prop
  | 0, _, _, _, _ => False
  | k_ + 1, x1, x2, x3, g =>
  (((16 : Int32) ≤ x3 → (vM_findBest_179 post K3 K9 x1 x2 g)) ∧ (¬ (16 : Int32) ≤ x3 → ((x3 < (3 : Int32) → (vM_findBest_54 post K3 K9 (fun x1 x2 x3 g => vM_findBest_19 post K3 K9 k_ x1 x2 x3 g) x1 x2 x3 g)) ∧ (¬ x3 < (3 : Int32) → ((x3 = (4 : Int32) → (vM_findBest_54 post K3 K9 (fun x1 x2 x3 g => vM_findBest_19 post K3 K9 k_ x1 x2 x3 g) x1 x2 x3 g)) ∧ (¬ x3 = (4 : Int32) → ((x3 = (5 : Int32) → (vM_findBest_54 post K3 K9 (fun x1 x2 x3 g => vM_findBest_19 post K3 K9 k_ x1 x2 x3 g) x1 x2 x3 g)) ∧ (¬ x3 = (5 : Int32) → ((x3 ≤ (8 : Int32) → (vM_findBest_58 post K3 K9 (fun x1 x2 x3 g => vM_findBest_19 post K3 K9 k_ x1 x2 x3 g) x1 x2 x3 g)) ∧ (¬ x3 ≤ (8 : Int32) → ((((8 : Int32) + x1) < x3 → (vM_findBest_58 post K3 K9 (fun x1 x2 x3 g => vM_findBest_19 post K3 K9 k_ x1 x2 x3 g) x1 x2 x3 g)) ∧ (¬ ((8 : Int32) + x1) < x3 → (vM_findBest_54 post K3 K9 (fun x1 x2 x3 g => vM_findBest_19 post K3 K9 k_ x1 x2 x3 g) x1 x2 x3 g)))))))))))))
def vM_findBest_185 (post : GM → Prop) (K3 : Int32 → GM → Prop) (x1 : Int32) (g : GM) : Prop :=
  (K3 (x1 + (-1 : Int32)) g)
def vM_findBest_9 (post : GM → Prop) (K3 : Int32 → GM → Prop) : Nat → Int32 → Int32 → GM → Prop
  | 0, _, _, _ => False
  | k_ + 1, x1, x2, g =>
  (((m_worlds g) ≤ x2 → (vM_findBest_185 post K3 x1 g)) ∧ (¬ (m_worlds g) ≤ x2 → (∃ n_ : Nat, vM_findBest_19 post K3 (fun x1 x2 g => vM_findBest_9 post K3 k_ x1 x2 g) n_ x1 x2 (0 : Int32) g)))
def vM_findBest_3 (post : GM → Prop) : Nat → Int32 → GM → Prop
  | 0, _, _ => False
  | k_ + 1, x1, g =>
  ((x1 < (0 : Int32) → post g) ∧ (¬ x1 < (0 : Int32) → (∃ n_ : Nat, vM_findBest_9 post (fun x1 g => vM_findBest_3 post k_ x1 g) n_ x1 (0 : Int32) g)))
def vM_findBest (g : GM) (post : GM → Prop) : Prop :=
  (∃ n_ : Nat, vM_findBest_3 post n_ (7 : Int32) g)
set_option maxHeartbeats 4000000 in
set_option maxRecDepth 100000 in
theorem lM_findBest_173 {Γ : jG} {l : Launch} {D : va_G} {ad : Nat → Nat} {cy : Nat → ClassId} {post : GM → Prop} (hC : jC Γ l rM_findBest D 8 RX12 cX12_findBest wsX12_findBest (tyM cy)) (hQ : jQv Γ D (wM ad cy) post none 0 0) {K3 : Int32 → GM → Prop} (hK3 : ∀ (x1 : Int32) (g : GM), K3 x1 g → J Γ D 8 0 0 (wM ad cy g) 3 [(0, .ref (ad 0)), (1, .int x1)] []) {K9 : Int32 → Int32 → GM → Prop} (hK9 : ∀ (x1 : Int32) (x2 : Int32) (g : GM), K9 x1 x2 g → J Γ D 8 0 0 (wM ad cy g) 9 [(0, .ref (ad 0)), (1, .int x1), (2, .int x2)] []) {K19 : Int32 → Int32 → Int32 → GM → Prop} (hK19 : ∀ (x1 : Int32) (x2 : Int32) (x3 : Int32) (g : GM), K19 x1 x2 x3 g → J Γ D 8 0 0 (wM ad cy g) 19 [(0, .ref (ad 0)), (1, .int x1), (2, .int x2), (3, .int x3)] []) : ∀ (x1 : Int32) (x2 : Int32) (x3 : Int32) (g : GM), vM_findBest_173 post K3 K9 K19 x1 x2 x3 g → J Γ D 8 0 0 (wM ad cy g) 173 [(0, .ref (ad 0)), (1, .int x1), (2, .int x2), (3, .int x3)] [] := by
  have hinX12 : ∀ w ∈ wsX120, w ∈ wsX12_findBest := fun w h => List.mem_cons_of_mem _ (List.mem_append_right _ h)
  intro x1 x2 x3 g hv
  unfold vM_findBest_173 at hv
  refine j_iinc (k := 3) (v := (x3 + (1 : Int32))) (lv' := [(3, .int (x3 + (1 : Int32))), (0, .ref (ad 0)), (1, .int x1), (2, .int x2)]) hC dX12_findBest_173 rfl rfl (by decide) rfl ?_
  refine j_goto (tgt := 19) hC dX12_findBest_176 (by decide) ?_
  exact j_lv [1, 2, 3, 0] rfl (hK19 _ _ _ _ hv)
set_option maxHeartbeats 4000000 in
set_option maxRecDepth 100000 in
theorem lM_findBest_141 {Γ : jG} {l : Launch} {D : va_G} {ad : Nat → Nat} {cy : Nat → ClassId} {post : GM → Prop} (hC : jC Γ l rM_findBest D 8 RX12 cX12_findBest wsX12_findBest (tyM cy)) (hQ : jQv Γ D (wM ad cy) post none 0 0) {K3 : Int32 → GM → Prop} (hK3 : ∀ (x1 : Int32) (g : GM), K3 x1 g → J Γ D 8 0 0 (wM ad cy g) 3 [(0, .ref (ad 0)), (1, .int x1)] []) {K9 : Int32 → Int32 → GM → Prop} (hK9 : ∀ (x1 : Int32) (x2 : Int32) (g : GM), K9 x1 x2 g → J Γ D 8 0 0 (wM ad cy g) 9 [(0, .ref (ad 0)), (1, .int x1), (2, .int x2)] []) {K19 : Int32 → Int32 → Int32 → GM → Prop} (hK19 : ∀ (x1 : Int32) (x2 : Int32) (x3 : Int32) (g : GM), K19 x1 x2 x3 g → J Γ D 8 0 0 (wM ad cy g) 19 [(0, .ref (ad 0)), (1, .int x1), (2, .int x2), (3, .int x3)] []) : ∀ (x1 : Int32) (x2 : Int32) (x3 : Int32) (x5 : Int32) (t0 : Int64) (g : GM), vM_findBest_141 post K3 K9 K19 x1 x2 x3 x5 t0 g → J Γ D 8 0 0 (wM ad cy g) 141 [(0, .ref (ad 0)), (1, .int x1), (2, .int x2), (3, .int x3), (5, .int x5)] [.long t0] := by
  have hinX12 : ∀ w ∈ wsX120, w ∈ wsX12_findBest := fun w h => List.mem_cons_of_mem _ (List.mem_append_right _ h)
  intro x1 x2 x3 x5 t0 g hv
  unfold vM_findBest_141 at hv
  refine j_lstore (lv' := [(6, .long t0), (0, .ref (ad 0)), (1, .int x1), (2, .int x2), (3, .int x3), (5, .int x5)]) hC dX12_findBest_141 (by decide) rfl ?_
  refine j_lload hC dX12_findBest_143 0 rfl ?_
  refine j_aload_n (i := 0) hC dX12_findBest_145 rfl 1 rfl ?_
  refine j_get (C := RX12) (T := TX12) (N := 22) (v := .ref (ad 8)) hC hinX12 0 (wM_c0 ad cy _) rfl 10 (by decide) (mw 2 rfl) rfl rfl dX12_findBest_146 ?_
  refine j_iload hC dX12_findBest_149 5 rfl ?_
  have hb151 := hv.1
  have hv := hv.2
  refine j_lald (v := ((m_least g) x5.toNatClampNeg)) hC 8 1 (wM_c8 ad cy _) rfl hb151 rfl dX12_findBest_151 ?_
  refine j_lcmp_ge (tgt := 173) hC dX12_findBest_152 dX12_findBest_153 (by decide) (fun h_ => ?_) (fun h_ => ?_)
  · have hv := hv.1 h_
    exact j_lv [1, 2, 3, 4] rfl (lM_findBest_173 hC hQ hK3 hK9 hK19 _ _ _ _ hv)
  · have hv := hv.2 h_
    refine j_aload_n (i := 0) hC dX12_findBest_156 rfl 1 rfl ?_
    refine j_get (C := RX12) (T := TX12) (N := 22) (v := .ref (ad 8)) hC hinX12 0 (wM_c0 ad cy _) rfl 10 (by decide) (mw 2 rfl) rfl rfl dX12_findBest_157 ?_
    refine j_iload hC dX12_findBest_160 5 rfl ?_
    refine j_lload hC dX12_findBest_162 0 rfl ?_
    have hb164 := hv.1
    have hv := hv.2
    refine j_last hC 8 1 (wM_c8 ad cy _) rfl hb164 (wM_s_least ad cy _ _) dX12_findBest_164 ?_
    refine j_aload_n (i := 0) hC dX12_findBest_165 rfl 1 rfl ?_
    refine j_get (C := RX12) (T := TX12) (N := 22) (v := .ref (ad 9)) hC hinX12 0 (wM_c0 ad cy _) rfl 11 (by decide) (mw 3 rfl) rfl rfl dX12_findBest_166 ?_
    refine j_iload hC dX12_findBest_169 5 rfl ?_
    refine j_iconst (v := 1) hC dX12_findBest_171 (by decide) ?_
    have hb172 := hv.1
    have hv := hv.2
    refine j_zast hC 9 2 (wM_c9 ad cy _) rfl hb172 (wM_s_isTold ad cy _ _) dX12_findBest_172 ?_
    exact j_lv [1, 2, 3, 4] rfl (lM_findBest_173 hC hQ hK3 hK9 hK19 _ _ _ _ hv)
set_option maxHeartbeats 4000000 in
set_option maxRecDepth 100000 in
theorem lM_findBest_123 {Γ : jG} {l : Launch} {D : va_G} {ad : Nat → Nat} {cy : Nat → ClassId} {post : GM → Prop} (hC : jC Γ l rM_findBest D 8 RX12 cX12_findBest wsX12_findBest (tyM cy)) (hQ : jQv Γ D (wM ad cy) post none 0 0) {K3 : Int32 → GM → Prop} (hK3 : ∀ (x1 : Int32) (g : GM), K3 x1 g → J Γ D 8 0 0 (wM ad cy g) 3 [(0, .ref (ad 0)), (1, .int x1)] []) {K9 : Int32 → Int32 → GM → Prop} (hK9 : ∀ (x1 : Int32) (x2 : Int32) (g : GM), K9 x1 x2 g → J Γ D 8 0 0 (wM ad cy g) 9 [(0, .ref (ad 0)), (1, .int x1), (2, .int x2)] []) {K19 : Int32 → Int32 → Int32 → GM → Prop} (hK19 : ∀ (x1 : Int32) (x2 : Int32) (x3 : Int32) (g : GM), K19 x1 x2 x3 g → J Γ D 8 0 0 (wM ad cy g) 19 [(0, .ref (ad 0)), (1, .int x1), (2, .int x2), (3, .int x3)] []) : ∀ (x1 : Int32) (x2 : Int32) (x3 : Int32) (x5 : Int32) (g : GM), vM_findBest_123 post K3 K9 K19 x1 x2 x3 x5 g → J Γ D 8 0 0 (wM ad cy g) 123 [(0, .ref (ad 0)), (1, .int x1), (2, .int x2), (3, .int x3), (5, .int x5)] [] := by
  have hinX12 : ∀ w ∈ wsX120, w ∈ wsX12_findBest := fun w h => List.mem_cons_of_mem _ (List.mem_append_right _ h)
  intro x1 x2 x3 x5 g hv
  unfold vM_findBest_123 at hv
  refine j_aload_n (i := 0) hC dX12_findBest_123 rfl 0 rfl ?_
  refine j_iload_n (i := 2) hC dX12_findBest_124 rfl 2 rfl ?_
  refine j_iload_n (i := 3) hC dX12_findBest_125 rfl 3 rfl ?_
  refine j_iconst (v := 1) hC dX12_findBest_126 (by decide) ?_
  refine j_iload_n (i := 1) hC dX12_findBest_127 rfl 1 rfl ?_
  refine j_callV_l (C := RX12) (As := [.int x2, .int x3, .int (1 : Int32), .int x1]) (rest := []) (b := (ad 0)) hC (cM_lossBy hv) 4 gX12_findBest_X12_lossBy rfl rfl rfl ⟨Nat.le_of_ble_eq_true rfl, Nat.le_of_ble_eq_true rfl⟩ hdM_lossBy rfl (wM_c0 ad cy _) rfl rfl (Nat.le_of_ble_eq_true rfl) ⟨Nat.zero_le _, Nat.zero_le _⟩ dX12_findBest_128 (fun r128 g128 hv => ?_)
  refine j_goto (tgt := 141) hC dX12_findBest_131 (by decide) ?_
  exact j_lv [0, 1, 2, 3, 4] rfl (lM_findBest_141 hC hQ hK3 hK9 hK19 _ _ _ _ _ _ hv)
set_option maxHeartbeats 4000000 in
set_option maxRecDepth 100000 in
theorem lM_findBest_59 {Γ : jG} {l : Launch} {D : va_G} {ad : Nat → Nat} {cy : Nat → ClassId} {post : GM → Prop} (hC : jC Γ l rM_findBest D 8 RX12 cX12_findBest wsX12_findBest (tyM cy)) (hQ : jQv Γ D (wM ad cy) post none 0 0) {K3 : Int32 → GM → Prop} (hK3 : ∀ (x1 : Int32) (g : GM), K3 x1 g → J Γ D 8 0 0 (wM ad cy g) 3 [(0, .ref (ad 0)), (1, .int x1)] []) {K9 : Int32 → Int32 → GM → Prop} (hK9 : ∀ (x1 : Int32) (x2 : Int32) (g : GM), K9 x1 x2 g → J Γ D 8 0 0 (wM ad cy g) 9 [(0, .ref (ad 0)), (1, .int x1), (2, .int x2)] []) {K19 : Int32 → Int32 → Int32 → GM → Prop} (hK19 : ∀ (x1 : Int32) (x2 : Int32) (x3 : Int32) (g : GM), K19 x1 x2 x3 g → J Γ D 8 0 0 (wM ad cy g) 19 [(0, .ref (ad 0)), (1, .int x1), (2, .int x2), (3, .int x3)] []) : ∀ (x1 : Int32) (x2 : Int32) (x3 : Int32) (t0 : Int32) (g : GM), vM_findBest_59 post K3 K9 K19 x1 x2 x3 t0 g → J Γ D 8 0 0 (wM ad cy g) 59 [(0, .ref (ad 0)), (1, .int x1), (2, .int x2), (3, .int x3)] [.int t0] := by
  have hinX12 : ∀ w ∈ wsX120, w ∈ wsX12_findBest := fun w h => List.mem_cons_of_mem _ (List.mem_append_right _ h)
  intro x1 x2 x3 t0 g hv
  unfold vM_findBest_59 at hv
  refine j_istore (lv' := [(4, .int t0), (0, .ref (ad 0)), (1, .int x1), (2, .int x2), (3, .int x3)]) hC dX12_findBest_59 (by decide) rfl ?_
  refine j_iload hC dX12_findBest_61 0 rfl ?_
  refine j_if_eq (tgt := 173) hC dX12_findBest_63 (by decide) (fun h_ => ?_) (fun h_ => ?_)
  · have hv := hv.1 h_
    exact j_lv [1, 2, 3, 4] rfl (lM_findBest_173 hC hQ hK3 hK9 hK19 _ _ _ _ hv)
  · have hv := hv.2 h_
    refine j_aload_n (i := 0) hC dX12_findBest_66 rfl 1 rfl ?_
    refine j_iload_n (i := 2) hC dX12_findBest_67 rfl 3 rfl ?_
    refine j_iload_n (i := 1) hC dX12_findBest_68 rfl 2 rfl ?_
    refine j_callV_i (C := RX12) (As := [.int x2, .int x1]) (rest := []) (b := (ad 0)) hC (cM_groupOf hv) 2 gX12_findBest_X12_groupOf rfl rfl rfl ⟨Nat.le_of_ble_eq_true rfl, Nat.le_of_ble_eq_true rfl⟩ hdM_groupOf rfl (wM_c0 ad cy _) rfl rfl (Nat.le_of_ble_eq_true rfl) ⟨Nat.zero_le _, Nat.zero_le _⟩ dX12_findBest_69 (fun r69 g69 hv => ?_)
    refine j_iload_n (i := 2) hC dX12_findBest_72 rfl 3 rfl ?_
    refine j_icmp_ne (tgt := 173) hC dX12_findBest_73 (by decide) (fun h_ => ?_) (fun h_ => ?_)
    · have hv := hv.1 h_
      exact j_lv [1, 2, 3, 4] rfl (lM_findBest_173 hC hQ hK3 hK9 hK19 _ _ _ _ hv)
    · have hv := hv.2 h_
      refine j_sipush (v := 128) hC dX12_findBest_76 (by decide) ?_
      refine j_iload_n (i := 1) hC dX12_findBest_79 rfl 2 rfl ?_
      refine j_imul hC dX12_findBest_80 ?_
      refine j_bipush (v := 16) hC dX12_findBest_81 (by decide) ?_
      refine j_iload_n (i := 2) hC dX12_findBest_83 rfl 3 rfl ?_
      refine j_imul hC dX12_findBest_84 ?_
      refine j_iadd hC dX12_findBest_85 ?_
      refine j_iload_n (i := 3) hC dX12_findBest_86 rfl 4 rfl ?_
      refine j_iadd hC dX12_findBest_87 ?_
      refine j_istore (lv' := [(5, .int ((((128 : Int32) * x1) + ((16 : Int32) * x2)) + x3)), (4, .int t0), (0, .ref (ad 0)), (1, .int x1), (2, .int x2), (3, .int x3)]) hC dX12_findBest_88 (by decide) rfl ?_
      refine j_aload_n (i := 0) hC dX12_findBest_90 rfl 2 rfl ?_
      refine j_get (C := RX12) (T := TX12) (N := 22) (v := .ref (ad 8)) hC hinX12 0 (wM_c0 ad cy _) rfl 10 (by decide) (mw 2 rfl) rfl rfl dX12_findBest_91 ?_
      refine j_iload hC dX12_findBest_94 0 rfl ?_
      refine j_aload_n (i := 0) hC dX12_findBest_96 rfl 2 rfl ?_
      refine j_iload_n (i := 2) hC dX12_findBest_97 rfl 4 rfl ?_
      refine j_iload_n (i := 3) hC dX12_findBest_98 rfl 5 rfl ?_
      refine j_iconst (v := 0) hC dX12_findBest_99 (by decide) ?_
      refine j_iload_n (i := 1) hC dX12_findBest_100 rfl 3 rfl ?_
      refine j_callV_l (C := RX12) (As := [.int x2, .int x3, .int (0 : Int32), .int x1]) (rest := [.int ((((128 : Int32) * x1) + ((16 : Int32) * x2)) + x3), .ref (ad 8)]) (b := (ad 0)) hC (cM_lossBy hv) 4 gX12_findBest_X12_lossBy rfl rfl rfl ⟨Nat.le_of_ble_eq_true rfl, Nat.le_of_ble_eq_true rfl⟩ hdM_lossBy rfl (wM_c0 ad cy _) rfl rfl (Nat.le_of_ble_eq_true rfl) ⟨Nat.zero_le _, Nat.zero_le _⟩ dX12_findBest_101 (fun r101 g101 hv => ?_)
      have hb104 := hv.1
      have hv := hv.2
      refine j_last hC 8 1 (wM_c8 ad cy _) rfl hb104 (wM_s_least ad cy _ _) dX12_findBest_104 ?_
      refine j_aload_n (i := 0) hC dX12_findBest_105 rfl 2 rfl ?_
      refine j_get (C := RX12) (T := TX12) (N := 22) (v := .ref (ad 9)) hC hinX12 0 (wM_c0 ad cy _) rfl 11 (by decide) (mw 3 rfl) rfl rfl dX12_findBest_106 ?_
      refine j_iload hC dX12_findBest_109 0 rfl ?_
      refine j_iconst (v := 0) hC dX12_findBest_111 (by decide) ?_
      have hb112 := hv.1
      have hv := hv.2
      refine j_zast hC 9 2 (wM_c9 ad cy _) rfl hb112 (wM_s_isTold ad cy _ _) dX12_findBest_112 ?_
      refine j_iload_n (i := 3) hC dX12_findBest_113 rfl 5 rfl ?_
      refine j_if_eq (tgt := 123) hC dX12_findBest_114 (by decide) (fun h_ => ?_) (fun h_ => ?_)
      · have hv := hv.1 h_
        exact j_lv [2, 3, 4, 5, 0] rfl (lM_findBest_123 hC hQ hK3 hK9 hK19 _ _ _ _ _ hv)
      · have hv := hv.2 h_
        refine j_iload_n (i := 3) hC dX12_findBest_117 rfl 5 rfl ?_
        refine j_bipush (v := 8) hC dX12_findBest_118 (by decide) ?_
        refine j_icmp_le (tgt := 134) hC dX12_findBest_120 (by decide) (fun h_ => ?_) (fun h_ => ?_)
        · have hv := hv.1 h_
          refine j_aload_n (i := 0) hC dX12_findBest_134 rfl 2 rfl ?_
          refine j_get (C := RX12) (T := TX12) (N := 22) (v := .ref (ad 8)) hC hinX12 0 (wM_c0 ad cy _) rfl 10 (by decide) (mw 2 rfl) rfl rfl dX12_findBest_135 ?_
          refine j_iload hC dX12_findBest_138 0 rfl ?_
          have hb140 := hv.1
          have hv := hv.2
          refine j_lald (v := ((vp_updL (m_least g101) ((((128 : Int32) * x1) + ((16 : Int32) * x2)) + x3).toNatClampNeg r101) ((((128 : Int32) * x1) + ((16 : Int32) * x2)) + x3).toNatClampNeg)) hC 8 1 (wM_c8 ad cy _) rfl hb140 rfl dX12_findBest_140 ?_
          exact j_lv [2, 3, 4, 5, 0] rfl (lM_findBest_141 hC hQ hK3 hK9 hK19 _ _ _ _ _ _ hv)
        · have hv := hv.2 h_
          exact j_lv [2, 3, 4, 5, 0] rfl (lM_findBest_123 hC hQ hK3 hK9 hK19 _ _ _ _ _ hv)
set_option maxHeartbeats 4000000 in
set_option maxRecDepth 100000 in
theorem lM_findBest_54 {Γ : jG} {l : Launch} {D : va_G} {ad : Nat → Nat} {cy : Nat → ClassId} {post : GM → Prop} (hC : jC Γ l rM_findBest D 8 RX12 cX12_findBest wsX12_findBest (tyM cy)) (hQ : jQv Γ D (wM ad cy) post none 0 0) {K3 : Int32 → GM → Prop} (hK3 : ∀ (x1 : Int32) (g : GM), K3 x1 g → J Γ D 8 0 0 (wM ad cy g) 3 [(0, .ref (ad 0)), (1, .int x1)] []) {K9 : Int32 → Int32 → GM → Prop} (hK9 : ∀ (x1 : Int32) (x2 : Int32) (g : GM), K9 x1 x2 g → J Γ D 8 0 0 (wM ad cy g) 9 [(0, .ref (ad 0)), (1, .int x1), (2, .int x2)] []) {K19 : Int32 → Int32 → Int32 → GM → Prop} (hK19 : ∀ (x1 : Int32) (x2 : Int32) (x3 : Int32) (g : GM), K19 x1 x2 x3 g → J Γ D 8 0 0 (wM ad cy g) 19 [(0, .ref (ad 0)), (1, .int x1), (2, .int x2), (3, .int x3)] []) : ∀ (x1 : Int32) (x2 : Int32) (x3 : Int32) (g : GM), vM_findBest_54 post K3 K9 K19 x1 x2 x3 g → J Γ D 8 0 0 (wM ad cy g) 54 [(0, .ref (ad 0)), (1, .int x1), (2, .int x2), (3, .int x3)] [] := by
  have hinX12 : ∀ w ∈ wsX120, w ∈ wsX12_findBest := fun w h => List.mem_cons_of_mem _ (List.mem_append_right _ h)
  intro x1 x2 x3 g hv
  unfold vM_findBest_54 at hv
  refine j_iconst (v := 1) hC dX12_findBest_54 (by decide) ?_
  refine j_goto (tgt := 59) hC dX12_findBest_55 (by decide) ?_
  exact j_lv [0, 1, 2, 3] rfl (lM_findBest_59 hC hQ hK3 hK9 hK19 _ _ _ _ _ hv)
set_option maxHeartbeats 4000000 in
set_option maxRecDepth 100000 in
theorem lM_findBest_58 {Γ : jG} {l : Launch} {D : va_G} {ad : Nat → Nat} {cy : Nat → ClassId} {post : GM → Prop} (hC : jC Γ l rM_findBest D 8 RX12 cX12_findBest wsX12_findBest (tyM cy)) (hQ : jQv Γ D (wM ad cy) post none 0 0) {K3 : Int32 → GM → Prop} (hK3 : ∀ (x1 : Int32) (g : GM), K3 x1 g → J Γ D 8 0 0 (wM ad cy g) 3 [(0, .ref (ad 0)), (1, .int x1)] []) {K9 : Int32 → Int32 → GM → Prop} (hK9 : ∀ (x1 : Int32) (x2 : Int32) (g : GM), K9 x1 x2 g → J Γ D 8 0 0 (wM ad cy g) 9 [(0, .ref (ad 0)), (1, .int x1), (2, .int x2)] []) {K19 : Int32 → Int32 → Int32 → GM → Prop} (hK19 : ∀ (x1 : Int32) (x2 : Int32) (x3 : Int32) (g : GM), K19 x1 x2 x3 g → J Γ D 8 0 0 (wM ad cy g) 19 [(0, .ref (ad 0)), (1, .int x1), (2, .int x2), (3, .int x3)] []) : ∀ (x1 : Int32) (x2 : Int32) (x3 : Int32) (g : GM), vM_findBest_58 post K3 K9 K19 x1 x2 x3 g → J Γ D 8 0 0 (wM ad cy g) 58 [(0, .ref (ad 0)), (1, .int x1), (2, .int x2), (3, .int x3)] [] := by
  have hinX12 : ∀ w ∈ wsX120, w ∈ wsX12_findBest := fun w h => List.mem_cons_of_mem _ (List.mem_append_right _ h)
  intro x1 x2 x3 g hv
  unfold vM_findBest_58 at hv
  refine j_iconst (v := 0) hC dX12_findBest_58 (by decide) ?_
  exact j_lv [0, 1, 2, 3] rfl (lM_findBest_59 hC hQ hK3 hK9 hK19 _ _ _ _ _ hv)
set_option maxHeartbeats 4000000 in
set_option maxRecDepth 100000 in
theorem lM_findBest_179 {Γ : jG} {l : Launch} {D : va_G} {ad : Nat → Nat} {cy : Nat → ClassId} {post : GM → Prop} (hC : jC Γ l rM_findBest D 8 RX12 cX12_findBest wsX12_findBest (tyM cy)) (hQ : jQv Γ D (wM ad cy) post none 0 0) {K3 : Int32 → GM → Prop} (hK3 : ∀ (x1 : Int32) (g : GM), K3 x1 g → J Γ D 8 0 0 (wM ad cy g) 3 [(0, .ref (ad 0)), (1, .int x1)] []) {K9 : Int32 → Int32 → GM → Prop} (hK9 : ∀ (x1 : Int32) (x2 : Int32) (g : GM), K9 x1 x2 g → J Γ D 8 0 0 (wM ad cy g) 9 [(0, .ref (ad 0)), (1, .int x1), (2, .int x2)] []) : ∀ (x1 : Int32) (x2 : Int32) (g : GM), vM_findBest_179 post K3 K9 x1 x2 g → J Γ D 8 0 0 (wM ad cy g) 179 [(0, .ref (ad 0)), (1, .int x1), (2, .int x2)] [] := by
  have hinX12 : ∀ w ∈ wsX120, w ∈ wsX12_findBest := fun w h => List.mem_cons_of_mem _ (List.mem_append_right _ h)
  intro x1 x2 g hv
  unfold vM_findBest_179 at hv
  refine j_iinc (k := 2) (v := (x2 + (1 : Int32))) (lv' := [(2, .int (x2 + (1 : Int32))), (0, .ref (ad 0)), (1, .int x1)]) hC dX12_findBest_179 rfl rfl (by decide) rfl ?_
  refine j_goto (tgt := 9) hC dX12_findBest_182 (by decide) ?_
  exact j_lv [1, 2, 0] rfl (hK9 _ _ _ hv)
set_option maxHeartbeats 4000000 in
set_option maxRecDepth 100000 in
theorem lM_findBest_19 {Γ : jG} {l : Launch} {D : va_G} {ad : Nat → Nat} {cy : Nat → ClassId} {post : GM → Prop} (hC : jC Γ l rM_findBest D 8 RX12 cX12_findBest wsX12_findBest (tyM cy)) (hQ : jQv Γ D (wM ad cy) post none 0 0) {K3 : Int32 → GM → Prop} (hK3 : ∀ (x1 : Int32) (g : GM), K3 x1 g → J Γ D 8 0 0 (wM ad cy g) 3 [(0, .ref (ad 0)), (1, .int x1)] []) {K9 : Int32 → Int32 → GM → Prop} (hK9 : ∀ (x1 : Int32) (x2 : Int32) (g : GM), K9 x1 x2 g → J Γ D 8 0 0 (wM ad cy g) 9 [(0, .ref (ad 0)), (1, .int x1), (2, .int x2)] []) : ∀ (n_ : Nat) (x1 : Int32) (x2 : Int32) (x3 : Int32) (g : GM), vM_findBest_19 post K3 K9 n_ x1 x2 x3 g → J Γ D 8 0 0 (wM ad cy g) 19 [(0, .ref (ad 0)), (1, .int x1), (2, .int x2), (3, .int x3)] [] := by
  have hinX12 : ∀ w ∈ wsX120, w ∈ wsX12_findBest := fun w h => List.mem_cons_of_mem _ (List.mem_append_right _ h)
  intro n_
  induction n_ with
  | zero => intro x1 x2 x3 g hv; exact False.elim hv
  | succ k_ ih =>
    intro x1 x2 x3 g hv
    unfold vM_findBest_19 at hv
    refine j_iload_n (i := 3) hC dX12_findBest_19 rfl 3 rfl ?_
    refine j_bipush (v := 16) hC dX12_findBest_20 (by decide) ?_
    refine j_icmp_ge (tgt := 179) hC dX12_findBest_22 (by decide) (fun h_ => ?_) (fun h_ => ?_)
    · have hv := hv.1 h_
      exact j_lv [0, 1, 2] rfl (lM_findBest_179 hC hQ hK3 hK9 _ _ _ hv)
    · have hv := hv.2 h_
      refine j_iload_n (i := 3) hC dX12_findBest_25 rfl 3 rfl ?_
      refine j_iconst (v := 3) hC dX12_findBest_26 (by decide) ?_
      refine j_icmp_lt (tgt := 54) hC dX12_findBest_27 (by decide) (fun h_ => ?_) (fun h_ => ?_)
      · have hv := hv.1 h_
        exact j_lv [0, 1, 2, 3] rfl (lM_findBest_54 hC hQ hK3 hK9 (K19 := fun x1 x2 x3 g => vM_findBest_19 post K3 K9 k_ x1 x2 x3 g) (fun _ _ _ _ h_ => ih _ _ _ _ h_) _ _ _ _ hv)
      · have hv := hv.2 h_
        refine j_iload_n (i := 3) hC dX12_findBest_30 rfl 3 rfl ?_
        refine j_iconst (v := 4) hC dX12_findBest_31 (by decide) ?_
        refine j_icmp_eq (tgt := 54) hC dX12_findBest_32 (by decide) (fun h_ => ?_) (fun h_ => ?_)
        · have hv := hv.1 h_
          exact j_lv [0, 1, 2, 3] rfl (lM_findBest_54 hC hQ hK3 hK9 (K19 := fun x1 x2 x3 g => vM_findBest_19 post K3 K9 k_ x1 x2 x3 g) (fun _ _ _ _ h_ => ih _ _ _ _ h_) _ _ _ _ hv)
        · have hv := hv.2 h_
          refine j_iload_n (i := 3) hC dX12_findBest_35 rfl 3 rfl ?_
          refine j_iconst (v := 5) hC dX12_findBest_36 (by decide) ?_
          refine j_icmp_eq (tgt := 54) hC dX12_findBest_37 (by decide) (fun h_ => ?_) (fun h_ => ?_)
          · have hv := hv.1 h_
            exact j_lv [0, 1, 2, 3] rfl (lM_findBest_54 hC hQ hK3 hK9 (K19 := fun x1 x2 x3 g => vM_findBest_19 post K3 K9 k_ x1 x2 x3 g) (fun _ _ _ _ h_ => ih _ _ _ _ h_) _ _ _ _ hv)
          · have hv := hv.2 h_
            refine j_iload_n (i := 3) hC dX12_findBest_40 rfl 3 rfl ?_
            refine j_bipush (v := 8) hC dX12_findBest_41 (by decide) ?_
            refine j_icmp_le (tgt := 58) hC dX12_findBest_43 (by decide) (fun h_ => ?_) (fun h_ => ?_)
            · have hv := hv.1 h_
              exact j_lv [0, 1, 2, 3] rfl (lM_findBest_58 hC hQ hK3 hK9 (K19 := fun x1 x2 x3 g => vM_findBest_19 post K3 K9 k_ x1 x2 x3 g) (fun _ _ _ _ h_ => ih _ _ _ _ h_) _ _ _ _ hv)
            · have hv := hv.2 h_
              refine j_iload_n (i := 3) hC dX12_findBest_46 rfl 3 rfl ?_
              refine j_bipush (v := 8) hC dX12_findBest_47 (by decide) ?_
              refine j_iload_n (i := 1) hC dX12_findBest_49 rfl 1 rfl ?_
              refine j_iadd hC dX12_findBest_50 ?_
              refine j_icmp_gt (tgt := 58) hC dX12_findBest_51 (by decide) (fun h_ => ?_) (fun h_ => ?_)
              · have hv := hv.1 h_
                exact j_lv [0, 1, 2, 3] rfl (lM_findBest_58 hC hQ hK3 hK9 (K19 := fun x1 x2 x3 g => vM_findBest_19 post K3 K9 k_ x1 x2 x3 g) (fun _ _ _ _ h_ => ih _ _ _ _ h_) _ _ _ _ hv)
              · have hv := hv.2 h_
                exact j_lv [0, 1, 2, 3] rfl (lM_findBest_54 hC hQ hK3 hK9 (K19 := fun x1 x2 x3 g => vM_findBest_19 post K3 K9 k_ x1 x2 x3 g) (fun _ _ _ _ h_ => ih _ _ _ _ h_) _ _ _ _ hv)
set_option maxHeartbeats 4000000 in
set_option maxRecDepth 100000 in
theorem lM_findBest_185 {Γ : jG} {l : Launch} {D : va_G} {ad : Nat → Nat} {cy : Nat → ClassId} {post : GM → Prop} (hC : jC Γ l rM_findBest D 8 RX12 cX12_findBest wsX12_findBest (tyM cy)) (hQ : jQv Γ D (wM ad cy) post none 0 0) {K3 : Int32 → GM → Prop} (hK3 : ∀ (x1 : Int32) (g : GM), K3 x1 g → J Γ D 8 0 0 (wM ad cy g) 3 [(0, .ref (ad 0)), (1, .int x1)] []) : ∀ (x1 : Int32) (g : GM), vM_findBest_185 post K3 x1 g → J Γ D 8 0 0 (wM ad cy g) 185 [(0, .ref (ad 0)), (1, .int x1)] [] := by
  have hinX12 : ∀ w ∈ wsX120, w ∈ wsX12_findBest := fun w h => List.mem_cons_of_mem _ (List.mem_append_right _ h)
  intro x1 g hv
  unfold vM_findBest_185 at hv
  refine j_iinc (k := 1) (v := (x1 + (-1 : Int32))) (lv' := [(1, .int (x1 + (-1 : Int32))), (0, .ref (ad 0))]) hC dX12_findBest_185 rfl rfl (by decide) rfl ?_
  refine j_goto (tgt := 3) hC dX12_findBest_188 (by decide) ?_
  exact j_lv [1, 0] rfl (hK3 _ _ hv)
set_option maxHeartbeats 4000000 in
set_option maxRecDepth 100000 in
theorem lM_findBest_9 {Γ : jG} {l : Launch} {D : va_G} {ad : Nat → Nat} {cy : Nat → ClassId} {post : GM → Prop} (hC : jC Γ l rM_findBest D 8 RX12 cX12_findBest wsX12_findBest (tyM cy)) (hQ : jQv Γ D (wM ad cy) post none 0 0) {K3 : Int32 → GM → Prop} (hK3 : ∀ (x1 : Int32) (g : GM), K3 x1 g → J Γ D 8 0 0 (wM ad cy g) 3 [(0, .ref (ad 0)), (1, .int x1)] []) : ∀ (n_ : Nat) (x1 : Int32) (x2 : Int32) (g : GM), vM_findBest_9 post K3 n_ x1 x2 g → J Γ D 8 0 0 (wM ad cy g) 9 [(0, .ref (ad 0)), (1, .int x1), (2, .int x2)] [] := by
  have hinX12 : ∀ w ∈ wsX120, w ∈ wsX12_findBest := fun w h => List.mem_cons_of_mem _ (List.mem_append_right _ h)
  intro n_
  induction n_ with
  | zero => intro x1 x2 g hv; exact False.elim hv
  | succ k_ ih =>
    intro x1 x2 g hv
    unfold vM_findBest_9 at hv
    refine j_iload_n (i := 2) hC dX12_findBest_9 rfl 2 rfl ?_
    refine j_aload_n (i := 0) hC dX12_findBest_10 rfl 0 rfl ?_
    refine j_get (C := RX12) (T := TX12) (N := 22) (v := .int (m_worlds g)) hC hinX12 0 (wM_c0 ad cy _) rfl 7 (by decide) (mw 1 rfl) rfl rfl dX12_findBest_11 ?_
    refine j_icmp_ge (tgt := 185) hC dX12_findBest_14 (by decide) (fun h_ => ?_) (fun h_ => ?_)
    · have hv := hv.1 h_
      exact j_lv [0, 1] rfl (lM_findBest_185 hC hQ hK3 _ _ hv)
    · have hv := hv.2 h_
      refine j_iconst (v := 0) hC dX12_findBest_17 (by decide) ?_
      refine j_istore_n (i := 3) (lv' := [(3, .int (0 : Int32)), (0, .ref (ad 0)), (1, .int x1), (2, .int x2)]) hC dX12_findBest_18 rfl (by decide) rfl ?_
      obtain ⟨n_, hv⟩ := hv
      exact j_lv [1, 2, 3, 0] rfl (lM_findBest_19 hC hQ hK3 (K9 := fun x1 x2 g => vM_findBest_9 post K3 k_ x1 x2 g) (fun _ _ _ h_ => ih _ _ _ h_) n_ _ _ _ _ hv)
set_option maxHeartbeats 4000000 in
set_option maxRecDepth 100000 in
theorem lM_findBest_3 {Γ : jG} {l : Launch} {D : va_G} {ad : Nat → Nat} {cy : Nat → ClassId} {post : GM → Prop} (hC : jC Γ l rM_findBest D 8 RX12 cX12_findBest wsX12_findBest (tyM cy)) (hQ : jQv Γ D (wM ad cy) post none 0 0) : ∀ (n_ : Nat) (x1 : Int32) (g : GM), vM_findBest_3 post n_ x1 g → J Γ D 8 0 0 (wM ad cy g) 3 [(0, .ref (ad 0)), (1, .int x1)] [] := by
  have hinX12 : ∀ w ∈ wsX120, w ∈ wsX12_findBest := fun w h => List.mem_cons_of_mem _ (List.mem_append_right _ h)
  intro n_
  induction n_ with
  | zero => intro x1 g hv; exact False.elim hv
  | succ k_ ih =>
    intro x1 g hv
    unfold vM_findBest_3 at hv
    refine j_iload_n (i := 1) hC dX12_findBest_3 rfl 1 rfl ?_
    refine j_if_lt (tgt := 191) hC dX12_findBest_4 (by decide) (fun h_ => ?_) (fun h_ => ?_)
    · have hv := hv.1 h_
      exact j_vret hC hQ dX12_findBest_191 rfl hv
    · have hv := hv.2 h_
      refine j_iconst (v := 0) hC dX12_findBest_7 (by decide) ?_
      refine j_istore_n (i := 2) (lv' := [(2, .int (0 : Int32)), (0, .ref (ad 0)), (1, .int x1)]) hC dX12_findBest_8 rfl (by decide) rfl ?_
      obtain ⟨n_, hv⟩ := hv
      exact j_lv [1, 2, 0] rfl (lM_findBest_9 hC hQ (K3 := fun x1 g => vM_findBest_3 post k_ x1 g) (fun _ _ h_ => ih _ _ h_) n_ _ _ _ hv)
set_option maxHeartbeats 4000000 in
set_option maxRecDepth 100000 in
theorem cM_findBest {l : Launch} {D : va_G} {ad : Nat → Nat} {cy : Nat → ClassId} {g : GM} {post : GM → Prop} (hv : vM_findBest g post) : jMv l yX12_findBest wsX12_findBest rM_findBest D (tyM cy) [.ref (ad 0)] (wM ad cy g) (wM ad cy) post 0 0 := by
  refine j_metv (cc := cX12_findBest) (nL := 8) (rt := none) (by decide) (Nat.le_of_ble_eq_true rfl) ?_
  intro Γ hC hQ _
  have hC : jC Γ l rM_findBest D 8 RX12 cX12_findBest wsX12_findBest (tyM cy) := hC
  have hinX12 : ∀ w ∈ wsX120, w ∈ wsX12_findBest := fun w h => List.mem_cons_of_mem _ (List.mem_append_right _ h)
  refine j_lv (lv' := [(0, .ref (ad 0))]) [0] rfl ?_
  unfold vM_findBest at hv
  refine j_bipush (v := 7) hC dX12_findBest_0 (by decide) ?_
  refine j_istore_n (i := 1) (lv' := [(1, .int (7 : Int32)), (0, .ref (ad 0))]) hC dX12_findBest_2 rfl (by decide) rfl ?_
  obtain ⟨n_, hv⟩ := hv
  exact j_lv [1, 0] rfl (lM_findBest_3 hC hQ n_ _ _ hv)
theorem hdM_best : yX12_best.cls = RX12 ∧ yX12_best.cls ≠ "java/lang/invoke/MethodHandle" ∧ yX12_best.cls ≠ "java/lang/invoke/VarHandle" ∧ (parseMethodDescriptor yX12_best.desc).map (fun d => d.parameters.length) = some 0 := by decide +kernel
abbrev rM_best : Room := { frames := 5, cells := 0, slots := 0, locals := 129 }
def vM_best_45 (post : Int64 → GM → Prop) (K13 : Int64 → Int32 → GM → Prop) (x3 : Int32) (t0 : Int64) (t1 : Int64) (g : GM) : Prop :=
  (K13 (t1 + t0) (x3 + (1 : Int32)) g)
def vM_best_13 (post : Int64 → GM → Prop) : Nat → Int64 → Int32 → GM → Prop
  | 0, _, _, _ => False
  | k_ + 1, x1, x3, g =>
  (((m_worlds g) ≤ x3 → post x1 g) ∧ (¬ (m_worlds g) ≤ x3 → (vM_groupOf g x3 (0 : Int32) (fun r25 g25 => ((¬ r25 = x3 → (vM_best_45 post (fun x1 x3 g => vM_best_13 post k_ x1 x3 g) x3 (0 : Int64) x1 g25)) ∧ (r25 = x3 → (vp_in ((16 : Int32) * x3) 1152 ∧ (vM_best_45 post (fun x1 x3 g => vM_best_13 post k_ x1 x3 g) x3 ((m_least g25) ((16 : Int32) * x3).toNatClampNeg) x1 g25))))))))
def vM_best (g : GM) (post : Int64 → GM → Prop) : Prop :=
  (vM_findBest (sm_thrown g (0 : Int32)) (fun g6 => (∃ n_ : Nat, vM_best_13 post n_ (0 : Int64) (0 : Int32) g6)))
set_option maxHeartbeats 4000000 in
set_option maxRecDepth 100000 in
theorem lM_best_45 {Γ : jG} {l : Launch} {D : va_G} {ad : Nat → Nat} {cy : Nat → ClassId} {post : Int64 → GM → Prop} (hC : jC Γ l rM_best D 4 RX12 cX12_best wsX12_best (tyM cy)) (hQ : jQl Γ D (wM ad cy) post (some .long) 0 0) {K13 : Int64 → Int32 → GM → Prop} (hK13 : ∀ (x1 : Int64) (x3 : Int32) (g : GM), K13 x1 x3 g → J Γ D 4 0 0 (wM ad cy g) 13 [(0, .ref (ad 0)), (1, .long x1), (3, .int x3)] []) : ∀ (x3 : Int32) (t0 : Int64) (t1 : Int64) (g : GM), vM_best_45 post K13 x3 t0 t1 g → J Γ D 4 0 0 (wM ad cy g) 45 [(0, .ref (ad 0)), (3, .int x3)] [.long t0, .long t1] := by
  have hinX12 : ∀ w ∈ wsX120, w ∈ wsX12_best := fun w h => List.mem_cons_of_mem _ (List.mem_append_right _ h)
  intro x3 t0 t1 g hv
  unfold vM_best_45 at hv
  refine j_ladd hC dX12_best_45 ?_
  refine j_lstore_n (i := 1) (lv' := [(1, .long (t1 + t0)), (0, .ref (ad 0)), (3, .int x3)]) hC dX12_best_46 rfl (by decide) rfl ?_
  refine j_iinc (k := 2) (v := (x3 + (1 : Int32))) (lv' := [(3, .int (x3 + (1 : Int32))), (1, .long (t1 + t0)), (0, .ref (ad 0))]) hC dX12_best_47 rfl rfl (by decide) rfl ?_
  refine j_goto (tgt := 13) hC dX12_best_50 (by decide) ?_
  exact j_lv [2, 1, 0] rfl (hK13 _ _ _ hv)
set_option maxHeartbeats 4000000 in
set_option maxRecDepth 100000 in
theorem lM_best_13 {Γ : jG} {l : Launch} {D : va_G} {ad : Nat → Nat} {cy : Nat → ClassId} {post : Int64 → GM → Prop} (hC : jC Γ l rM_best D 4 RX12 cX12_best wsX12_best (tyM cy)) (hQ : jQl Γ D (wM ad cy) post (some .long) 0 0) : ∀ (n_ : Nat) (x1 : Int64) (x3 : Int32) (g : GM), vM_best_13 post n_ x1 x3 g → J Γ D 4 0 0 (wM ad cy g) 13 [(0, .ref (ad 0)), (1, .long x1), (3, .int x3)] [] := by
  have hinX12 : ∀ w ∈ wsX120, w ∈ wsX12_best := fun w h => List.mem_cons_of_mem _ (List.mem_append_right _ h)
  intro n_
  induction n_ with
  | zero => intro x1 x3 g hv; exact False.elim hv
  | succ k_ ih =>
    intro x1 x3 g hv
    unfold vM_best_13 at hv
    refine j_iload_n (i := 3) hC dX12_best_13 rfl 2 rfl ?_
    refine j_aload_n (i := 0) hC dX12_best_14 rfl 0 rfl ?_
    refine j_get (C := RX12) (T := TX12) (N := 22) (v := .int (m_worlds g)) hC hinX12 0 (wM_c0 ad cy _) rfl 7 (by decide) (mw 2 rfl) rfl rfl dX12_best_15 ?_
    refine j_icmp_ge (tgt := 53) hC dX12_best_18 (by decide) (fun h_ => ?_) (fun h_ => ?_)
    · have hv := hv.1 h_
      refine j_lload_n (i := 1) hC dX12_best_53 rfl 1 rfl ?_
      exact j_lret hC hQ dX12_best_54 rfl hv
    · have hv := hv.2 h_
      refine j_lload_n (i := 1) hC dX12_best_21 rfl 1 rfl ?_
      refine j_aload_n (i := 0) hC dX12_best_22 rfl 0 rfl ?_
      refine j_iload_n (i := 3) hC dX12_best_23 rfl 2 rfl ?_
      refine j_iconst (v := 0) hC dX12_best_24 (by decide) ?_
      refine j_callV_i (C := RX12) (As := [.int x3, .int (0 : Int32)]) (rest := [.long x1]) (b := (ad 0)) hC (cM_groupOf hv) 2 gX12_best_X12_groupOf rfl rfl rfl ⟨Nat.le_of_ble_eq_true rfl, Nat.le_of_ble_eq_true rfl⟩ hdM_groupOf rfl (wM_c0 ad cy _) rfl rfl (Nat.le_of_ble_eq_true rfl) ⟨Nat.zero_le _, Nat.zero_le _⟩ dX12_best_25 (fun r25 g25 hv => ?_)
      refine j_iload_n (i := 3) hC dX12_best_28 rfl 2 rfl ?_
      refine j_icmp_ne (tgt := 44) hC dX12_best_29 (by decide) (fun h_ => ?_) (fun h_ => ?_)
      · have hv := hv.1 h_
        refine j_lconst (v := 0) hC dX12_best_44 (by decide) ?_
        exact j_lv [0, 2] rfl (lM_best_45 hC hQ (K13 := fun x1 x3 g => vM_best_13 post k_ x1 x3 g) (fun _ _ _ h_ => ih _ _ _ h_) _ _ _ _ hv)
      · have hv := hv.2 h_
        refine j_aload_n (i := 0) hC dX12_best_32 rfl 0 rfl ?_
        refine j_get (C := RX12) (T := TX12) (N := 22) (v := .ref (ad 8)) hC hinX12 0 (wM_c0 ad cy _) rfl 10 (by decide) (mw 3 rfl) rfl rfl dX12_best_33 ?_
        refine j_bipush (v := 16) hC dX12_best_36 (by decide) ?_
        refine j_iload_n (i := 3) hC dX12_best_38 rfl 2 rfl ?_
        refine j_imul hC dX12_best_39 ?_
        have hb40 := hv.1
        have hv := hv.2
        refine j_lald (v := ((m_least g25) ((16 : Int32) * x3).toNatClampNeg)) hC 8 1 (wM_c8 ad cy _) rfl hb40 rfl dX12_best_40 ?_
        refine j_goto (tgt := 45) hC dX12_best_41 (by decide) ?_
        exact j_lv [0, 2] rfl (lM_best_45 hC hQ (K13 := fun x1 x3 g => vM_best_13 post k_ x1 x3 g) (fun _ _ _ h_ => ih _ _ _ h_) _ _ _ _ hv)
set_option maxHeartbeats 4000000 in
set_option maxRecDepth 100000 in
theorem cM_best {l : Launch} {D : va_G} {ad : Nat → Nat} {cy : Nat → ClassId} {g : GM} {post : Int64 → GM → Prop} (hv : vM_best g post) : jMl l yX12_best wsX12_best rM_best D (tyM cy) [.ref (ad 0)] (wM ad cy g) (wM ad cy) post 0 0 := by
  refine j_metl (cc := cX12_best) (nL := 4) (rt := (some .long)) (by decide) (Nat.le_of_ble_eq_true rfl) ?_
  intro Γ hC hQ _
  have hC : jC Γ l rM_best D 4 RX12 cX12_best wsX12_best (tyM cy) := hC
  have hinX12 : ∀ w ∈ wsX120, w ∈ wsX12_best := fun w h => List.mem_cons_of_mem _ (List.mem_append_right _ h)
  refine j_lv (lv' := [(0, .ref (ad 0))]) [0] rfl ?_
  unfold vM_best at hv
  refine j_aload_n (i := 0) hC dX12_best_0 rfl 0 rfl ?_
  refine j_iconst (v := 0) hC dX12_best_1 (by decide) ?_
  refine j_put (C := RX12) (T := TX12) (N := 22) (ty := .int) hC hinX12 tyX12 tyX12_ok nmX12 0 (wM_c0 ad cy _) rfl 0 (by decide) (mw 1 rfl) rfl rfl fdX12_0 rfl rfl (Nat.le_of_ble_eq_true rfl) (wM_p_thrown ad cy _ _) dX12_best_2 ?_
  refine j_aload_n (i := 0) hC dX12_best_5 rfl 0 rfl ?_
  refine j_callV_v (C := RX12) (As := []) (rest := []) (b := (ad 0)) hC (cM_findBest hv) 0 gX12_best_X12_findBest rfl rfl rfl ⟨Nat.le_of_ble_eq_true rfl, Nat.le_of_ble_eq_true rfl⟩ hdM_findBest rfl (wM_c0 ad cy _) rfl rfl (Nat.le_of_ble_eq_true rfl) ⟨Nat.zero_le _, Nat.zero_le _⟩ dX12_best_6 (fun g6 hv => ?_)
  refine j_lconst (v := 0) hC dX12_best_9 (by decide) ?_
  refine j_lstore_n (i := 1) (lv' := [(1, .long (0 : Int64)), (0, .ref (ad 0))]) hC dX12_best_10 rfl (by decide) rfl ?_
  refine j_iconst (v := 0) hC dX12_best_11 (by decide) ?_
  refine j_istore_n (i := 3) (lv' := [(3, .int (0 : Int32)), (1, .long (0 : Int64)), (0, .ref (ad 0))]) hC dX12_best_12 rfl (by decide) rfl ?_
  obtain ⟨n_, hv⟩ := hv
  exact j_lv [2, 1, 0] rfl (lM_best_13 hC hQ n_ _ _ _ hv)
theorem hdM_hour : yX12_hour.cls = RX12 ∧ yX12_hour.cls ≠ "java/lang/invoke/MethodHandle" ∧ yX12_hour.cls ≠ "java/lang/invoke/VarHandle" ∧ (parseMethodDescriptor yX12_hour.desc).map (fun d => d.parameters.length) = some 3 := by decide +kernel
abbrev rM_hour : Room := { frames := 5, cells := 0, slots := 0, locals := 129 }
def vM_hour_105 (post : Int32 → GM → Prop) (x1 : Int32) (x2 : Int32) (x3 : Int32) (x4 : Int32) (g : GM) : Prop :=
  (vM_groupOf g x1 x2 (fun r119 g119 => (vp_in ((((128 : Int32) * x2) + ((16 : Int32) * r119)) + x4) 1152 ∧ ((¬ x3 = (0 : Int32) → ((¬ x3 = (1 : Int32) → ((¬ x3 = (2 : Int32) → (vM_lostIn g119 x1 x4 ((m_isTold g119) ((((128 : Int32) * x2) + ((16 : Int32) * r119)) + x4).toNatClampNeg) x2 (fun r196 g196 => post r196 g196))) ∧ (x3 = (2 : Int32) → (vM_waterIn g119 x1 x4 ((m_isTold g119) ((((128 : Int32) * x2) + ((16 : Int32) * r119)) + x4).toNatClampNeg) x2 (fun r183 g183 => post r183 g183))))) ∧ (x3 = (1 : Int32) → (vM_stateIn g119 x4 ((m_isTold g119) ((((128 : Int32) * x2) + ((16 : Int32) * r119)) + x4).toNatClampNeg) (fun r165 g165 => post r165 g165))))) ∧ (x3 = (0 : Int32) → ((¬ ((m_isTold g119) ((((128 : Int32) * x2) + ((16 : Int32) * r119)) + x4).toNatClampNeg) = (0 : Int32) → ((¬ x4 = (0 : Int32) → post (2 : Int32) g119) ∧ (x4 = (0 : Int32) → post (1 : Int32) g119))) ∧ (((m_isTold g119) ((((128 : Int32) * x2) + ((16 : Int32) * r119)) + x4).toNatClampNeg) = (0 : Int32) → post (0 : Int32) g119)))))))
def vM_hour_58 (post : Int32 → GM → Prop) : Nat → Int32 → Int32 → Int32 → Int32 → Int32 → GM → Prop
  | 0, _, _, _, _, _, _ => False
  | k_ + 1, x1, x2, x3, x4, x5, g =>
  ((x2 ≤ x5 → (vM_hour_105 post x1 x2 x3 x4 g)) ∧ (¬ x2 ≤ x5 → (vM_groupOf g x1 x5 (fun r83 g83 => (vp_in ((((128 : Int32) * x5) + ((16 : Int32) * r83)) + x4) 1152 ∧ (vM_after g83 x4 ((m_isTold g83) ((((128 : Int32) * x5) + ((16 : Int32) * r83)) + x4).toNatClampNeg) x5 (fun r94 g94 => (vM_hour_58 post k_ x1 x2 x3 r94 (x5 + (1 : Int32)) g94))))))))
def vM_hour (g : GM) (a1 : Int32) (a2 : Int32) (a3 : Int32) (post : Int32 → GM → Prop) : Prop :=
  (vM_in (sm_thrown g (0 : Int32)) (a1.toInt64) (0 : Int64) (((m_worlds g) - (1 : Int32)).toInt64) (fun r15 g15 => ((r15 = (0 : Int32) → post (-1000001 : Int32) g15) ∧ (¬ r15 = (0 : Int32) → (vM_in g15 (a2.toInt64) (0 : Int64) (7 : Int64) (fun r27 g27 => ((r27 = (0 : Int32) → post (-1000001 : Int32) g27) ∧ (¬ r27 = (0 : Int32) → (vM_in g27 (a3.toInt64) (0 : Int64) (3 : Int64) (fun r39 g39 => ((¬ r39 = (0 : Int32) → (vM_findBest g39 (fun g49 => (∃ n_ : Nat, vM_hour_58 post n_ a1 a2 a3 (0 : Int32) (0 : Int32) g49)))) ∧ (r39 = (0 : Int32) → post (-1000001 : Int32) g39))))))))))))
set_option maxHeartbeats 4000000 in
set_option maxRecDepth 100000 in
theorem lM_hour_105 {Γ : jG} {l : Launch} {D : va_G} {ad : Nat → Nat} {cy : Nat → ClassId} {post : Int32 → GM → Prop} (hC : jC Γ l rM_hour D 6 RX12 cX12_hour wsX12_hour (tyM cy)) (hQ : jQi Γ D (wM ad cy) post (some .int) 0 0) : ∀ (x1 : Int32) (x2 : Int32) (x3 : Int32) (x4 : Int32) (g : GM), vM_hour_105 post x1 x2 x3 x4 g → J Γ D 6 0 0 (wM ad cy g) 105 [(0, .ref (ad 0)), (1, .int x1), (2, .int x2), (3, .int x3), (4, .int x4)] [] := by
  have hinX12 : ∀ w ∈ wsX120, w ∈ wsX12_hour := fun w h => List.mem_cons_of_mem _ (List.mem_append_right _ h)
  intro x1 x2 x3 x4 g hv
  unfold vM_hour_105 at hv
  refine j_aload_n (i := 0) hC dX12_hour_105 rfl 0 rfl ?_
  refine j_get (C := RX12) (T := TX12) (N := 22) (v := .ref (ad 9)) hC hinX12 0 (wM_c0 ad cy _) rfl 11 (by decide) (mw 6 rfl) rfl rfl dX12_hour_106 ?_
  refine j_sipush (v := 128) hC dX12_hour_109 (by decide) ?_
  refine j_iload_n (i := 2) hC dX12_hour_112 rfl 2 rfl ?_
  refine j_imul hC dX12_hour_113 ?_
  refine j_bipush (v := 16) hC dX12_hour_114 (by decide) ?_
  refine j_aload_n (i := 0) hC dX12_hour_116 rfl 0 rfl ?_
  refine j_iload_n (i := 1) hC dX12_hour_117 rfl 1 rfl ?_
  refine j_iload_n (i := 2) hC dX12_hour_118 rfl 2 rfl ?_
  refine j_callV_i (C := RX12) (As := [.int x1, .int x2]) (rest := [.int (16 : Int32), .int ((128 : Int32) * x2), .ref (ad 9)]) (b := (ad 0)) hC (cM_groupOf hv) 2 gX12_hour_X12_groupOf rfl rfl rfl ⟨Nat.le_of_ble_eq_true rfl, Nat.le_of_ble_eq_true rfl⟩ hdM_groupOf rfl (wM_c0 ad cy _) rfl rfl (Nat.le_of_ble_eq_true rfl) ⟨Nat.zero_le _, Nat.zero_le _⟩ dX12_hour_119 (fun r119 g119 hv => ?_)
  refine j_imul hC dX12_hour_122 ?_
  refine j_iadd hC dX12_hour_123 ?_
  refine j_iload hC dX12_hour_124 4 rfl ?_
  refine j_iadd hC dX12_hour_126 ?_
  have hb127 := hv.1
  have hv := hv.2
  refine j_zald (v := ((m_isTold g119) ((((128 : Int32) * x2) + ((16 : Int32) * r119)) + x4).toNatClampNeg)) hC 9 2 (wM_c9 ad cy _) rfl hb127 rfl dX12_hour_127 ?_
  refine j_istore (lv' := [(5, .int ((m_isTold g119) ((((128 : Int32) * x2) + ((16 : Int32) * r119)) + x4).toNatClampNeg)), (0, .ref (ad 0)), (1, .int x1), (2, .int x2), (3, .int x3), (4, .int x4)]) hC dX12_hour_128 (by decide) rfl ?_
  refine j_iload_n (i := 3) hC dX12_hour_130 rfl 4 rfl ?_
  refine j_if_ne (tgt := 156) hC dX12_hour_131 (by decide) (fun h_ => ?_) (fun h_ => ?_)
  · have hv := hv.1 h_
    refine j_iload_n (i := 3) hC dX12_hour_156 rfl 4 rfl ?_
    refine j_iconst (v := 1) hC dX12_hour_157 (by decide) ?_
    refine j_icmp_ne (tgt := 171) hC dX12_hour_158 (by decide) (fun h_ => ?_) (fun h_ => ?_)
    · have hv := hv.1 h_
      refine j_iload_n (i := 3) hC dX12_hour_171 rfl 4 rfl ?_
      refine j_iconst (v := 2) hC dX12_hour_172 (by decide) ?_
      refine j_icmp_ne (tgt := 189) hC dX12_hour_173 (by decide) (fun h_ => ?_) (fun h_ => ?_)
      · have hv := hv.1 h_
        refine j_aload_n (i := 0) hC dX12_hour_189 rfl 1 rfl ?_
        refine j_iload_n (i := 1) hC dX12_hour_190 rfl 2 rfl ?_
        refine j_iload hC dX12_hour_191 5 rfl ?_
        refine j_iload hC dX12_hour_193 0 rfl ?_
        refine j_iload_n (i := 2) hC dX12_hour_195 rfl 3 rfl ?_
        refine j_callV_i (C := RX12) (As := [.int x1, .int x4, .int ((m_isTold g119) ((((128 : Int32) * x2) + ((16 : Int32) * r119)) + x4).toNatClampNeg), .int x2]) (rest := []) (b := (ad 0)) hC (cM_lostIn hv) 4 gX12_hour_X12_lostIn rfl rfl rfl ⟨Nat.le_of_ble_eq_true rfl, Nat.le_of_ble_eq_true rfl⟩ hdM_lostIn rfl (wM_c0 ad cy _) rfl rfl (Nat.le_of_ble_eq_true rfl) ⟨Nat.zero_le _, Nat.zero_le _⟩ dX12_hour_196 (fun r196 g196 hv => ?_)
        exact j_iret hC hQ dX12_hour_199 rfl hv
      · have hv := hv.2 h_
        refine j_aload_n (i := 0) hC dX12_hour_176 rfl 1 rfl ?_
        refine j_iload_n (i := 1) hC dX12_hour_177 rfl 2 rfl ?_
        refine j_iload hC dX12_hour_178 5 rfl ?_
        refine j_iload hC dX12_hour_180 0 rfl ?_
        refine j_iload_n (i := 2) hC dX12_hour_182 rfl 3 rfl ?_
        refine j_callV_i (C := RX12) (As := [.int x1, .int x4, .int ((m_isTold g119) ((((128 : Int32) * x2) + ((16 : Int32) * r119)) + x4).toNatClampNeg), .int x2]) (rest := []) (b := (ad 0)) hC (cM_waterIn hv) 4 gX12_hour_X12_waterIn rfl rfl rfl ⟨Nat.le_of_ble_eq_true rfl, Nat.le_of_ble_eq_true rfl⟩ hdM_waterIn rfl (wM_c0 ad cy _) rfl rfl (Nat.le_of_ble_eq_true rfl) ⟨Nat.zero_le _, Nat.zero_le _⟩ dX12_hour_183 (fun r183 g183 hv => ?_)
        refine j_goto (tgt := 199) hC dX12_hour_186 (by decide) ?_
        exact j_iret hC hQ dX12_hour_199 rfl hv
    · have hv := hv.2 h_
      refine j_iload hC dX12_hour_161 5 rfl ?_
      refine j_iload hC dX12_hour_163 0 rfl ?_
      refine j_callS_i (As := [.int x4, .int ((m_isTold g119) ((((128 : Int32) * x2) + ((16 : Int32) * r119)) + x4).toNatClampNeg)]) (rest := []) hC (cM_stateIn hv) 2 gX12_hour_X12_stateIn rfl rfl rfl ⟨Nat.le_of_ble_eq_true rfl, Nat.le_of_ble_eq_true rfl⟩ hdM_stateIn.2 rfl rfl (Nat.le_of_ble_eq_true rfl) ⟨Nat.zero_le _, Nat.zero_le _⟩ dX12_hour_165 (fun r165 g165 hv => ?_)
      refine j_goto (tgt := 199) hC dX12_hour_168 (by decide) ?_
      exact j_iret hC hQ dX12_hour_199 rfl hv
  · have hv := hv.2 h_
    refine j_iload hC dX12_hour_134 0 rfl ?_
    refine j_if_ne (tgt := 143) hC dX12_hour_136 (by decide) (fun h_ => ?_) (fun h_ => ?_)
    · have hv := hv.1 h_
      refine j_iload hC dX12_hour_143 5 rfl ?_
      refine j_if_ne (tgt := 152) hC dX12_hour_145 (by decide) (fun h_ => ?_) (fun h_ => ?_)
      · have hv := hv.1 h_
        refine j_iconst (v := 2) hC dX12_hour_152 (by decide) ?_
        refine j_goto (tgt := 199) hC dX12_hour_153 (by decide) ?_
        exact j_iret hC hQ dX12_hour_199 rfl hv
      · have hv := hv.2 h_
        refine j_iconst (v := 1) hC dX12_hour_148 (by decide) ?_
        refine j_goto (tgt := 199) hC dX12_hour_149 (by decide) ?_
        exact j_iret hC hQ dX12_hour_199 rfl hv
    · have hv := hv.2 h_
      refine j_iconst (v := 0) hC dX12_hour_139 (by decide) ?_
      refine j_goto (tgt := 199) hC dX12_hour_140 (by decide) ?_
      exact j_iret hC hQ dX12_hour_199 rfl hv
set_option maxHeartbeats 4000000 in
set_option maxRecDepth 100000 in
theorem lM_hour_58 {Γ : jG} {l : Launch} {D : va_G} {ad : Nat → Nat} {cy : Nat → ClassId} {post : Int32 → GM → Prop} (hC : jC Γ l rM_hour D 6 RX12 cX12_hour wsX12_hour (tyM cy)) (hQ : jQi Γ D (wM ad cy) post (some .int) 0 0) : ∀ (n_ : Nat) (x1 : Int32) (x2 : Int32) (x3 : Int32) (x4 : Int32) (x5 : Int32) (g : GM), vM_hour_58 post n_ x1 x2 x3 x4 x5 g → J Γ D 6 0 0 (wM ad cy g) 58 [(0, .ref (ad 0)), (1, .int x1), (2, .int x2), (3, .int x3), (4, .int x4), (5, .int x5)] [] := by
  have hinX12 : ∀ w ∈ wsX120, w ∈ wsX12_hour := fun w h => List.mem_cons_of_mem _ (List.mem_append_right _ h)
  intro n_
  induction n_ with
  | zero => intro x1 x2 x3 x4 x5 g hv; exact False.elim hv
  | succ k_ ih =>
    intro x1 x2 x3 x4 x5 g hv
    unfold vM_hour_58 at hv
    refine j_iload hC dX12_hour_58 5 rfl ?_
    refine j_iload_n (i := 2) hC dX12_hour_60 rfl 2 rfl ?_
    refine j_icmp_ge (tgt := 105) hC dX12_hour_61 (by decide) (fun h_ => ?_) (fun h_ => ?_)
    · have hv := hv.1 h_
      exact j_lv [0, 1, 2, 3, 4] rfl (lM_hour_105 hC hQ _ _ _ _ _ hv)
    · have hv := hv.2 h_
      refine j_aload_n (i := 0) hC dX12_hour_64 rfl 0 rfl ?_
      refine j_iload hC dX12_hour_65 4 rfl ?_
      refine j_aload_n (i := 0) hC dX12_hour_67 rfl 0 rfl ?_
      refine j_get (C := RX12) (T := TX12) (N := 22) (v := .ref (ad 9)) hC hinX12 0 (wM_c0 ad cy _) rfl 11 (by decide) (mw 6 rfl) rfl rfl dX12_hour_68 ?_
      refine j_sipush (v := 128) hC dX12_hour_71 (by decide) ?_
      refine j_iload hC dX12_hour_74 5 rfl ?_
      refine j_imul hC dX12_hour_76 ?_
      refine j_bipush (v := 16) hC dX12_hour_77 (by decide) ?_
      refine j_aload_n (i := 0) hC dX12_hour_79 rfl 0 rfl ?_
      refine j_iload_n (i := 1) hC dX12_hour_80 rfl 1 rfl ?_
      refine j_iload hC dX12_hour_81 5 rfl ?_
      refine j_callV_i (C := RX12) (As := [.int x1, .int x5]) (rest := [.int (16 : Int32), .int ((128 : Int32) * x5), .ref (ad 9), .int x4, .ref (ad 0)]) (b := (ad 0)) hC (cM_groupOf hv) 2 gX12_hour_X12_groupOf rfl rfl rfl ⟨Nat.le_of_ble_eq_true rfl, Nat.le_of_ble_eq_true rfl⟩ hdM_groupOf rfl (wM_c0 ad cy _) rfl rfl (Nat.le_of_ble_eq_true rfl) ⟨Nat.zero_le _, Nat.zero_le _⟩ dX12_hour_83 (fun r83 g83 hv => ?_)
      refine j_imul hC dX12_hour_86 ?_
      refine j_iadd hC dX12_hour_87 ?_
      refine j_iload hC dX12_hour_88 4 rfl ?_
      refine j_iadd hC dX12_hour_90 ?_
      have hb91 := hv.1
      have hv := hv.2
      refine j_zald (v := ((m_isTold g83) ((((128 : Int32) * x5) + ((16 : Int32) * r83)) + x4).toNatClampNeg)) hC 9 2 (wM_c9 ad cy _) rfl hb91 rfl dX12_hour_91 ?_
      refine j_iload hC dX12_hour_92 5 rfl ?_
      refine j_callV_i (C := RX12) (As := [.int x4, .int ((m_isTold g83) ((((128 : Int32) * x5) + ((16 : Int32) * r83)) + x4).toNatClampNeg), .int x5]) (rest := []) (b := (ad 0)) hC (cM_after hv) 3 gX12_hour_X12_after rfl rfl rfl ⟨Nat.le_of_ble_eq_true rfl, Nat.le_of_ble_eq_true rfl⟩ hdM_after rfl (wM_c0 ad cy _) rfl rfl (Nat.le_of_ble_eq_true rfl) ⟨Nat.zero_le _, Nat.zero_le _⟩ dX12_hour_94 (fun r94 g94 hv => ?_)
      refine j_istore (lv' := [(4, .int r94), (0, .ref (ad 0)), (1, .int x1), (2, .int x2), (3, .int x3), (5, .int x5)]) hC dX12_hour_97 (by decide) rfl ?_
      refine j_iinc (k := 5) (v := (x5 + (1 : Int32))) (lv' := [(5, .int (x5 + (1 : Int32))), (4, .int r94), (0, .ref (ad 0)), (1, .int x1), (2, .int x2), (3, .int x3)]) hC dX12_hour_99 rfl rfl (by decide) rfl ?_
      refine j_goto (tgt := 58) hC dX12_hour_102 (by decide) ?_
      exact j_lv [2, 3, 4, 5, 1, 0] rfl (ih _ _ _ _ _ _ hv)
set_option maxHeartbeats 4000000 in
set_option maxRecDepth 100000 in
theorem cM_hour {l : Launch} {D : va_G} {ad : Nat → Nat} {cy : Nat → ClassId} {g : GM} {a1 : Int32} {a2 : Int32} {a3 : Int32} {post : Int32 → GM → Prop} (hv : vM_hour g a1 a2 a3 post) : jMi l yX12_hour wsX12_hour rM_hour D (tyM cy) [.ref (ad 0), .int a1, .int a2, .int a3] (wM ad cy g) (wM ad cy) post 0 0 := by
  refine j_meti (cc := cX12_hour) (nL := 6) (rt := (some .int)) (by decide) (Nat.le_of_ble_eq_true rfl) ?_
  intro Γ hC hQ _
  have hC : jC Γ l rM_hour D 6 RX12 cX12_hour wsX12_hour (tyM cy) := hC
  have hinX12 : ∀ w ∈ wsX120, w ∈ wsX12_hour := fun w h => List.mem_cons_of_mem _ (List.mem_append_right _ h)
  refine j_lv (lv' := [(0, .ref (ad 0)), (1, .int a1), (2, .int a2), (3, .int a3)]) [0, 1, 2, 3] rfl ?_
  unfold vM_hour at hv
  refine j_aload_n (i := 0) hC dX12_hour_0 rfl 0 rfl ?_
  refine j_iconst (v := 0) hC dX12_hour_1 (by decide) ?_
  refine j_put (C := RX12) (T := TX12) (N := 22) (ty := .int) hC hinX12 tyX12 tyX12_ok nmX12 0 (wM_c0 ad cy _) rfl 0 (by decide) (mw 1 rfl) rfl rfl fdX12_0 rfl rfl (Nat.le_of_ble_eq_true rfl) (wM_p_thrown ad cy _ _) dX12_hour_2 ?_
  refine j_iload_n (i := 1) hC dX12_hour_5 rfl 1 rfl ?_
  refine j_i2l hC dX12_hour_6 ?_
  refine j_lconst (v := 0) hC dX12_hour_7 (by decide) ?_
  refine j_aload_n (i := 0) hC dX12_hour_8 rfl 0 rfl ?_
  refine j_get (C := RX12) (T := TX12) (N := 22) (v := .int (m_worlds g)) hC hinX12 0 (wM_c0 ad cy _) rfl 7 (by decide) (mw 2 rfl) rfl rfl dX12_hour_9 ?_
  refine j_iconst (v := 1) hC dX12_hour_12 (by decide) ?_
  refine j_isub hC dX12_hour_13 ?_
  refine j_i2l hC dX12_hour_14 ?_
  refine j_callS_i (As := [.long (a1.toInt64), .long (0 : Int64), .long (((m_worlds g) - (1 : Int32)).toInt64)]) (rest := []) hC (cM_in hv) 3 gX12_hour_X12_in rfl rfl rfl ⟨Nat.le_of_ble_eq_true rfl, Nat.le_of_ble_eq_true rfl⟩ hdM_in.2 rfl rfl (Nat.le_of_ble_eq_true rfl) ⟨Nat.zero_le _, Nat.zero_le _⟩ dX12_hour_15 (fun r15 g15 hv => ?_)
  refine j_if_eq (tgt := 45) hC dX12_hour_18 (by decide) (fun h_ => ?_) (fun h_ => ?_)
  · have hv := hv.1 h_
    refine j_ldc (v := -1000001) hC dX12_hour_45 (mw 5 rfl) ?_
    exact j_iret hC hQ dX12_hour_47 rfl hv
  · have hv := hv.2 h_
    refine j_iload_n (i := 2) hC dX12_hour_21 rfl 2 rfl ?_
    refine j_i2l hC dX12_hour_22 ?_
    refine j_lconst (v := 0) hC dX12_hour_23 (by decide) ?_
    refine j_ldc2 (v := 7) hC dX12_hour_24 (mw 3 rfl) ?_
    refine j_callS_i (As := [.long (a2.toInt64), .long (0 : Int64), .long (7 : Int64)]) (rest := []) hC (cM_in hv) 3 gX12_hour_X12_in rfl rfl rfl ⟨Nat.le_of_ble_eq_true rfl, Nat.le_of_ble_eq_true rfl⟩ hdM_in.2 rfl rfl (Nat.le_of_ble_eq_true rfl) ⟨Nat.zero_le _, Nat.zero_le _⟩ dX12_hour_27 (fun r27 g27 hv => ?_)
    refine j_if_eq (tgt := 45) hC dX12_hour_30 (by decide) (fun h_ => ?_) (fun h_ => ?_)
    · have hv := hv.1 h_
      refine j_ldc (v := -1000001) hC dX12_hour_45 (mw 5 rfl) ?_
      exact j_iret hC hQ dX12_hour_47 rfl hv
    · have hv := hv.2 h_
      refine j_iload_n (i := 3) hC dX12_hour_33 rfl 3 rfl ?_
      refine j_i2l hC dX12_hour_34 ?_
      refine j_lconst (v := 0) hC dX12_hour_35 (by decide) ?_
      refine j_ldc2 (v := 3) hC dX12_hour_36 (mw 4 rfl) ?_
      refine j_callS_i (As := [.long (a3.toInt64), .long (0 : Int64), .long (3 : Int64)]) (rest := []) hC (cM_in hv) 3 gX12_hour_X12_in rfl rfl rfl ⟨Nat.le_of_ble_eq_true rfl, Nat.le_of_ble_eq_true rfl⟩ hdM_in.2 rfl rfl (Nat.le_of_ble_eq_true rfl) ⟨Nat.zero_le _, Nat.zero_le _⟩ dX12_hour_39 (fun r39 g39 hv => ?_)
      refine j_if_ne (tgt := 48) hC dX12_hour_42 (by decide) (fun h_ => ?_) (fun h_ => ?_)
      · have hv := hv.1 h_
        refine j_aload_n (i := 0) hC dX12_hour_48 rfl 0 rfl ?_
        refine j_callV_v (C := RX12) (As := []) (rest := []) (b := (ad 0)) hC (cM_findBest hv) 0 gX12_hour_X12_findBest rfl rfl rfl ⟨Nat.le_of_ble_eq_true rfl, Nat.le_of_ble_eq_true rfl⟩ hdM_findBest rfl (wM_c0 ad cy _) rfl rfl (Nat.le_of_ble_eq_true rfl) ⟨Nat.zero_le _, Nat.zero_le _⟩ dX12_hour_49 (fun g49 hv => ?_)
        refine j_iconst (v := 0) hC dX12_hour_52 (by decide) ?_
        refine j_istore (lv' := [(4, .int (0 : Int32)), (0, .ref (ad 0)), (1, .int a1), (2, .int a2), (3, .int a3)]) hC dX12_hour_53 (by decide) rfl ?_
        refine j_iconst (v := 0) hC dX12_hour_55 (by decide) ?_
        refine j_istore (lv' := [(5, .int (0 : Int32)), (4, .int (0 : Int32)), (0, .ref (ad 0)), (1, .int a1), (2, .int a2), (3, .int a3)]) hC dX12_hour_56 (by decide) rfl ?_
        obtain ⟨n_, hv⟩ := hv
        exact j_lv [2, 3, 4, 5, 1, 0] rfl (lM_hour_58 hC hQ n_ _ _ _ _ _ _ hv)
      · have hv := hv.2 h_
        refine j_ldc (v := -1000001) hC dX12_hour_45 (mw 5 rfl) ?_
        exact j_iret hC hQ dX12_hour_47 rfl hv
