theorem hdSG_best : yX11_best.cls = RX11 ∧ yX11_best.cls ≠ "java/lang/invoke/MethodHandle" ∧ yX11_best.cls ≠ "java/lang/invoke/VarHandle" ∧ (parseMethodDescriptor yX11_best.desc).map (fun d => d.parameters.length) = some 0 := by decide +kernel
abbrev rSG_best : Room := { frames := 7, cells := 0, slots := 0, locals := 174 }
def vSG_best (g : GS) (post : Int64 → GS → Prop) : Prop :=
  (vPlan_refresh g (fun g4 => post (z_loss g4) g4))
set_option maxHeartbeats 4000000 in
set_option maxRecDepth 100000 in
theorem cSG_best {l : Launch} {D : va_G} {ad : Nat → Nat} {cy : Nat → ClassId} {g : GS} {post : Int64 → GS → Prop} (hv : vSG_best g post) : jMl l yX11_best wsX11_best rSG_best D (tyS cy) [.ref (ad 0)] (wS ad cy g) (wS ad cy) post 0 0 := by
  refine j_metl (cc := cX11_best) (nL := 1) (rt := (some .long)) (by decide) (Nat.le_of_ble_eq_true rfl) ?_
  intro Γ hC hQ _
  have hC : jC Γ l rSG_best D 1 RX11 cX11_best wsX11_best (tyS cy) := hC
  have hinX11 : ∀ w ∈ wsX110, w ∈ wsX11_best := fun w h => List.mem_cons_of_mem _ (List.mem_append_left _ (List.mem_append_left _ (List.mem_append_left _ (List.mem_append_right _ h))))
  have hinX4 : ∀ w ∈ wsX40, w ∈ wsX11_best := fun w h => List.mem_cons_of_mem _ (List.mem_append_left _ (List.mem_append_left _ (List.mem_append_right _ h)))
  refine j_lv (lv' := [(0, .ref (ad 0))]) [0] rfl ?_
  unfold vSG_best at hv
  refine j_aload_n (i := 0) hC dX11_best_0 rfl 0 rfl ?_
  refine j_get (C := RX11) (T := TX11) (N := 8) (v := .ref (ad 12)) hC hinX11 0 (wS_c0 ad cy _) rfl 3 (by decide) (mw 1 rfl) rfl rfl dX11_best_1 ?_
  refine j_callV_v (C := RX4) (As := []) (rest := []) (b := (ad 12)) hC (cPlan_refresh hv) 0 gX11_best_X4_refresh rfl rfl rfl ⟨Nat.le_of_ble_eq_true rfl, Nat.le_of_ble_eq_true rfl⟩ hdPlan_refresh rfl (wS_c12 ad cy _) rfl rfl (Nat.le_of_ble_eq_true rfl) ⟨Nat.zero_le _, Nat.zero_le _⟩ dX11_best_4 (fun g4 hv => ?_)
  refine j_aload_n (i := 0) hC dX11_best_7 rfl 0 rfl ?_
  refine j_get (C := RX11) (T := TX11) (N := 8) (v := .ref (ad 12)) hC hinX11 0 (wS_c0 ad cy _) rfl 3 (by decide) (mw 1 rfl) rfl rfl dX11_best_8 ?_
  refine j_get (C := RX4) (T := TX4) (N := 7) (v := .long (z_loss g4)) hC hinX4 12 (wS_c12 ad cy _) rfl 5 (by decide) (mw 2 rfl) rfl rfl dX11_best_11 ?_
  exact j_lret hC hQ dX11_best_14 rfl hv
theorem hdPlan_tells : yX4_tells.cls = RX4 ∧ yX4_tells.cls ≠ "java/lang/invoke/MethodHandle" ∧ yX4_tells.cls ≠ "java/lang/invoke/VarHandle" ∧ (parseMethodDescriptor yX4_tells.desc).map (fun d => d.parameters.length) = some 3 := by decide +kernel
abbrev rPlan_tells : Room := { frames := 0, cells := 0, slots := 0, locals := 0 }
def vPlan_tells (g : GS) (a1 : Int32) (a2 : Int32) (a3 : Int32) (post : Int32 → GS → Prop) : Prop :=
  (vp_in a1 8 ∧ (vp_in a1 8 ∧ (vp_in a2 8 ∧ (vp_in ((z_heads g) a1.toNatClampNeg a2.toNatClampNeg) 8 ∧ ((¬ ((((z_orders g) a1.toNatClampNeg ((z_heads g) a1.toNatClampNeg a2.toNatClampNeg).toNatClampNeg) >>> (a3 &&& 31)) &&& (1 : Int32)) = (1 : Int32) → post (0 : Int32) g) ∧ (((((z_orders g) a1.toNatClampNeg ((z_heads g) a1.toNatClampNeg a2.toNatClampNeg).toNatClampNeg) >>> (a3 &&& 31)) &&& (1 : Int32)) = (1 : Int32) → post (1 : Int32) g))))))
set_option maxHeartbeats 4000000 in
set_option maxRecDepth 100000 in
theorem cPlan_tells {l : Launch} {D : va_G} {ad : Nat → Nat} {cy : Nat → ClassId} {g : GS} {a1 : Int32} {a2 : Int32} {a3 : Int32} {post : Int32 → GS → Prop} (hv : vPlan_tells g a1 a2 a3 post) : jMi l yX4_tells wsX4_tells rPlan_tells D (tyS cy) [.ref (ad 12), .int a1, .int a2, .int a3] (wS ad cy g) (wS ad cy) post 0 0 := by
  refine j_meti (cc := cX4_tells) (nL := 4) (rt := (some .boolean)) (by decide) (Nat.le_of_ble_eq_true rfl) ?_
  intro Γ hC hQ _
  have hC : jC Γ l rPlan_tells D 4 RX4 cX4_tells wsX4_tells (tyS cy) := hC
  have hinX4 : ∀ w ∈ wsX40, w ∈ wsX4_tells := fun w h => List.mem_cons_of_mem _ (List.mem_append_left _ (List.mem_append_right _ h))
  have hinX6 : ∀ w ∈ wsX60, w ∈ wsX4_tells := fun w h => List.mem_cons_of_mem _ (List.mem_append_right _ h)
  refine j_lv (lv' := [(0, .ref (ad 12)), (1, .int a1), (2, .int a2), (3, .int a3)]) [0, 1, 2, 3] rfl ?_
  unfold vPlan_tells at hv
  refine j_aload_n (i := 0) hC dX4_tells_0 rfl 0 rfl ?_
  refine j_get (C := RX4) (T := TX4) (N := 7) (v := .ref (ad 13)) hC hinX4 12 (wS_c12 ad cy _) rfl 2 (by decide) (mw 1 rfl) rfl rfl dX4_tells_1 ?_
  refine j_iload_n (i := 1) hC dX4_tells_4 rfl 1 rfl ?_
  have hb5 := hv.1
  have hv := hv.2
  refine j_aald (v := .ref (ad (49 + a1.toNatClampNeg))) hC 13 3 (wS_c13 ad cy _) rfl rfl hb5 (jrow ad 49 (j := a1.toNatClampNeg) (jlt hb5)) dX4_tells_5 ?_
  refine j_aload_n (i := 0) hC dX4_tells_6 rfl 0 rfl ?_
  refine j_get (C := RX4) (T := TX4) (N := 7) (v := .ref (ad 5)) hC hinX4 12 (wS_c12 ad cy _) rfl 0 (by decide) (mw 2 rfl) rfl rfl dX4_tells_7 ?_
  refine j_get (C := RX6) (T := TX6) (N := 4) (v := .ref (ad 8)) hC hinX6 5 (wS_c5 ad cy _) rfl 2 (by decide) (mw 3 rfl) rfl rfl dX4_tells_10 ?_
  refine j_iload_n (i := 1) hC dX4_tells_13 rfl 1 rfl ?_
  have hb14 := hv.1
  have hv := hv.2
  refine j_aald (v := .ref (ad (41 + a1.toNatClampNeg))) hC 8 3 (wS_c8 ad cy _) rfl rfl hb14 (jrow ad 41 (j := a1.toNatClampNeg) (jlt hb14)) dX4_tells_14 ?_
  refine j_iload_n (i := 2) hC dX4_tells_15 rfl 2 rfl ?_
  have hb16 := hv.1
  have hv := hv.2
  refine j_iald (v := ((z_heads g) a1.toNatClampNeg a2.toNatClampNeg)) hC _ 0 (wS_r_heads ad cy _ (jlt hb14)) rfl hb16 rfl dX4_tells_16 ?_
  have hb17 := hv.1
  have hv := hv.2
  refine j_iald (v := ((z_orders g) a1.toNatClampNeg ((z_heads g) a1.toNatClampNeg a2.toNatClampNeg).toNatClampNeg)) hC _ 0 (wS_r_orders ad cy _ (jlt hb5)) rfl hb17 rfl dX4_tells_17 ?_
  refine j_iload_n (i := 3) hC dX4_tells_18 rfl 3 rfl ?_
  refine j_ishr hC dX4_tells_19 ?_
  refine j_iconst (v := 1) hC dX4_tells_20 (by decide) ?_
  refine j_iand hC dX4_tells_21 ?_
  refine j_iconst (v := 1) hC dX4_tells_22 (by decide) ?_
  refine j_icmp_ne (tgt := 30) hC dX4_tells_23 (by decide) (fun h_ => ?_) (fun h_ => ?_)
  · have hv := hv.1 h_
    refine j_iconst (v := 0) hC dX4_tells_30 (by decide) ?_
    exact j_zret hC hQ dX4_tells_31 rfl rfl hv
  · have hv := hv.2 h_
    refine j_iconst (v := 1) hC dX4_tells_26 (by decide) ?_
    refine j_goto (tgt := 31) hC dX4_tells_27 (by decide) ?_
    exact j_zret hC hQ dX4_tells_31 rfl rfl hv
theorem hdPlan_stateAt : yX4_stateAt.cls = RX4 ∧ yX4_stateAt.cls ≠ "java/lang/invoke/MethodHandle" ∧ yX4_stateAt.cls ≠ "java/lang/invoke/VarHandle" ∧ (parseMethodDescriptor yX4_stateAt.desc).map (fun d => d.parameters.length) = some 2 := by decide +kernel
abbrev rPlan_stateAt : Room := { frames := 2, cells := 0, slots := 0, locals := 41 }
def vPlan_stateAt_5 (post : Int32 → GS → Prop) : Nat → Int32 → Int32 → Int32 → Int32 → GS → Prop
  | 0, _, _, _, _, _ => False
  | k_ + 1, x1, x2, x3, x4, g =>
  ((x2 ≤ x4 → post x3 g) ∧ (¬ x2 ≤ x4 → (vPlan_tells g x4 x1 x3 (fun r21 g21 => (vBarrier_stands g21 x3 r21 (fun r24 g24 => (vBarrier_next g24 r24 x4 (fun r29 g29 => (vPlan_stateAt_5 post k_ x1 x2 r29 (x4 + (1 : Int32)) g29)))))))))
def vPlan_stateAt (g : GS) (a1 : Int32) (a2 : Int32) (post : Int32 → GS → Prop) : Prop :=
  (∃ n_ : Nat, vPlan_stateAt_5 post n_ a1 a2 (0 : Int32) (0 : Int32) g)
set_option maxHeartbeats 4000000 in
set_option maxRecDepth 100000 in
theorem lPlan_stateAt_5 {Γ : jG} {l : Launch} {D : va_G} {ad : Nat → Nat} {cy : Nat → ClassId} {post : Int32 → GS → Prop} (hC : jC Γ l rPlan_stateAt D 5 RX4 cX4_stateAt wsX4_stateAt (tyS cy)) (hQ : jQi Γ D (wS ad cy) post (some .int) 0 0) : ∀ (n_ : Nat) (x1 : Int32) (x2 : Int32) (x3 : Int32) (x4 : Int32) (g : GS), vPlan_stateAt_5 post n_ x1 x2 x3 x4 g → J Γ D 5 0 0 (wS ad cy g) 5 [(0, .ref (ad 12)), (1, .int x1), (2, .int x2), (3, .int x3), (4, .int x4)] [] := by
  have hinX4 : ∀ w ∈ wsX40, w ∈ wsX4_stateAt := fun w h => List.mem_cons_of_mem _ (List.mem_append_left _ (List.mem_append_left _ (List.mem_append_right _ h)))
  intro n_
  induction n_ with
  | zero => intro x1 x2 x3 x4 g hv; exact False.elim hv
  | succ k_ ih =>
    intro x1 x2 x3 x4 g hv
    unfold vPlan_stateAt_5 at hv
    refine j_iload hC dX4_stateAt_5 4 rfl ?_
    refine j_iload_n (i := 2) hC dX4_stateAt_7 rfl 2 rfl ?_
    refine j_icmp_ge (tgt := 39) hC dX4_stateAt_8 (by decide) (fun h_ => ?_) (fun h_ => ?_)
    · have hv := hv.1 h_
      refine j_iload_n (i := 3) hC dX4_stateAt_39 rfl 3 rfl ?_
      exact j_iret hC hQ dX4_stateAt_40 rfl hv
    · have hv := hv.2 h_
      refine j_aload_n (i := 0) hC dX4_stateAt_11 rfl 0 rfl ?_
      refine j_get (C := RX4) (T := TX4) (N := 7) (v := .ref (ad 9)) hC hinX4 12 (wS_c12 ad cy _) rfl 1 (by decide) (mw 1 rfl) rfl rfl dX4_stateAt_12 ?_
      refine j_iload_n (i := 3) hC dX4_stateAt_15 rfl 3 rfl ?_
      refine j_aload_n (i := 0) hC dX4_stateAt_16 rfl 0 rfl ?_
      refine j_iload hC dX4_stateAt_17 4 rfl ?_
      refine j_iload_n (i := 1) hC dX4_stateAt_19 rfl 1 rfl ?_
      refine j_iload_n (i := 3) hC dX4_stateAt_20 rfl 3 rfl ?_
      refine j_callV_i (C := RX4) (As := [.int x4, .int x1, .int x3]) (rest := [.int x3, .ref (ad 9)]) (b := (ad 12)) hC (cPlan_tells hv) 3 gX4_stateAt_X4_tells rfl rfl rfl ⟨Nat.le_of_ble_eq_true rfl, Nat.le_of_ble_eq_true rfl⟩ hdPlan_tells rfl (wS_c12 ad cy _) rfl rfl (Nat.le_of_ble_eq_true rfl) ⟨Nat.zero_le _, Nat.zero_le _⟩ dX4_stateAt_21 (fun r21 g21 hv => ?_)
      refine j_callV_i (C := RX0) (As := [.int x3, .int r21]) (rest := []) (b := (ad 9)) hC (cBarrier_stands hv) 2 gX4_stateAt_X0_stands rfl rfl rfl ⟨Nat.le_of_ble_eq_true rfl, Nat.le_of_ble_eq_true rfl⟩ hdBarrier_stands rfl (wS_c9 ad cy _) rfl rfl (Nat.le_of_ble_eq_true rfl) ⟨Nat.zero_le _, Nat.zero_le _⟩ dX4_stateAt_24 (fun r24 g24 hv => ?_)
      refine j_iload hC dX4_stateAt_27 4 rfl ?_
      refine j_callS_i (As := [.int r24, .int x4]) (rest := []) hC (cBarrier_next hv) 2 gX4_stateAt_X0_next rfl rfl rfl ⟨Nat.le_of_ble_eq_true rfl, Nat.le_of_ble_eq_true rfl⟩ hdBarrier_next.2 rfl rfl (Nat.le_of_ble_eq_true rfl) ⟨Nat.zero_le _, Nat.zero_le _⟩ dX4_stateAt_29 (fun r29 g29 hv => ?_)
      refine j_istore_n (i := 3) (lv' := [(3, .int r29), (0, .ref (ad 12)), (1, .int x1), (2, .int x2), (4, .int x4)]) hC dX4_stateAt_32 rfl (by decide) rfl ?_
      refine j_iinc (k := 4) (v := (x4 + (1 : Int32))) (lv' := [(4, .int (x4 + (1 : Int32))), (3, .int r29), (0, .ref (ad 12)), (1, .int x1), (2, .int x2)]) hC dX4_stateAt_33 rfl rfl (by decide) rfl ?_
      refine j_goto (tgt := 5) hC dX4_stateAt_36 (by decide) ?_
      exact j_lv [2, 3, 4, 1, 0] rfl (ih _ _ _ _ _ hv)
set_option maxHeartbeats 4000000 in
set_option maxRecDepth 100000 in
theorem cPlan_stateAt {l : Launch} {D : va_G} {ad : Nat → Nat} {cy : Nat → ClassId} {g : GS} {a1 : Int32} {a2 : Int32} {post : Int32 → GS → Prop} (hv : vPlan_stateAt g a1 a2 post) : jMi l yX4_stateAt wsX4_stateAt rPlan_stateAt D (tyS cy) [.ref (ad 12), .int a1, .int a2] (wS ad cy g) (wS ad cy) post 0 0 := by
  refine j_meti (cc := cX4_stateAt) (nL := 5) (rt := (some .int)) (by decide) (Nat.le_of_ble_eq_true rfl) ?_
  intro Γ hC hQ _
  have hC : jC Γ l rPlan_stateAt D 5 RX4 cX4_stateAt wsX4_stateAt (tyS cy) := hC
  have hinX4 : ∀ w ∈ wsX40, w ∈ wsX4_stateAt := fun w h => List.mem_cons_of_mem _ (List.mem_append_left _ (List.mem_append_left _ (List.mem_append_right _ h)))
  refine j_lv (lv' := [(0, .ref (ad 12)), (1, .int a1), (2, .int a2)]) [0, 1, 2] rfl ?_
  unfold vPlan_stateAt at hv
  refine j_iconst (v := 0) hC dX4_stateAt_0 (by decide) ?_
  refine j_istore_n (i := 3) (lv' := [(3, .int (0 : Int32)), (0, .ref (ad 12)), (1, .int a1), (2, .int a2)]) hC dX4_stateAt_1 rfl (by decide) rfl ?_
  refine j_iconst (v := 0) hC dX4_stateAt_2 (by decide) ?_
  refine j_istore (lv' := [(4, .int (0 : Int32)), (3, .int (0 : Int32)), (0, .ref (ad 12)), (1, .int a1), (2, .int a2)]) hC dX4_stateAt_3 (by decide) rfl ?_
  obtain ⟨n_, hv⟩ := hv
  exact j_lv [2, 3, 4, 1, 0] rfl (lPlan_stateAt_5 hC hQ n_ _ _ _ _ _ hv)
theorem hdBarrier_order : yX0_order.cls = RX0 ∧ yX0_order.cls ≠ "java/lang/invoke/MethodHandle" ∧ yX0_order.cls ≠ "java/lang/invoke/VarHandle" ∧ (parseMethodDescriptor yX0_order.desc).map (fun d => d.parameters.length) = some 2 := by decide +kernel
abbrev rBarrier_order : Room := { frames := 0, cells := 0, slots := 0, locals := 0 }
def vBarrier_order (g : GS) (a0 : Int32) (a1 : Int32) (post : Int32 → GS → Prop) : Prop :=
  ((¬ a1 = (0 : Int32) → ((¬ a0 = (0 : Int32) → post (2 : Int32) g) ∧ (a0 = (0 : Int32) → post (1 : Int32) g))) ∧ (a1 = (0 : Int32) → post (0 : Int32) g))
set_option maxHeartbeats 4000000 in
set_option maxRecDepth 100000 in
theorem cBarrier_order {l : Launch} {D : va_G} {ad : Nat → Nat} {cy : Nat → ClassId} {g : GS} {a0 : Int32} {a1 : Int32} {post : Int32 → GS → Prop} (hv : vBarrier_order g a0 a1 post) : jMi l yX0_order wsX0_order rBarrier_order D (tyS cy) [.int a0, .int a1] (wS ad cy g) (wS ad cy) post 0 0 := by
  refine j_meti (cc := cX0_order) (nL := 2) (rt := (some .int)) (by decide) (Nat.le_of_ble_eq_true rfl) ?_
  intro Γ hC hQ _
  have hC : jC Γ l rBarrier_order D 2 RX0 cX0_order wsX0_order (tyS cy) := hC
  refine j_lv (lv' := [(0, .int a0), (1, .int a1)]) [0, 1] rfl ?_
  unfold vBarrier_order at hv
  refine j_iload_n (i := 1) hC dX0_order_0 rfl 1 rfl ?_
  refine j_if_ne (tgt := 6) hC dX0_order_1 (by decide) (fun h_ => ?_) (fun h_ => ?_)
  · have hv := hv.1 h_
    refine j_iload_n (i := 0) hC dX0_order_6 rfl 0 rfl ?_
    refine j_if_ne (tgt := 14) hC dX0_order_7 (by decide) (fun h_ => ?_) (fun h_ => ?_)
    · have hv := hv.1 h_
      refine j_iconst (v := 2) hC dX0_order_14 (by decide) ?_
      exact j_iret hC hQ dX0_order_15 rfl hv
    · have hv := hv.2 h_
      refine j_iconst (v := 1) hC dX0_order_10 (by decide) ?_
      refine j_goto (tgt := 15) hC dX0_order_11 (by decide) ?_
      exact j_iret hC hQ dX0_order_15 rfl hv
  · have hv := hv.2 h_
    refine j_iconst (v := 0) hC dX0_order_4 (by decide) ?_
    exact j_iret hC hQ dX0_order_5 rfl hv
theorem hdBarrier_how : yX0_how.cls = RX0 ∧ yX0_how.cls ≠ "java/lang/invoke/MethodHandle" ∧ yX0_how.cls ≠ "java/lang/invoke/VarHandle" ∧ (parseMethodDescriptor yX0_how.desc).map (fun d => d.parameters.length) = some 1 := by decide +kernel
abbrev rBarrier_how : Room := { frames := 0, cells := 0, slots := 0, locals := 0 }
def vBarrier_how (g : GS) (a0 : Int32) (post : Int32 → GS → Prop) : Prop :=
  ((¬ a0 = (0 : Int32) → ((a0 < (7 : Int32) → (((4 : Int32) ≤ a0 → post (3 : Int32) g) ∧ (¬ (4 : Int32) ≤ a0 → post (1 : Int32) g))) ∧ (¬ a0 < (7 : Int32) → post (2 : Int32) g))) ∧ (a0 = (0 : Int32) → post (0 : Int32) g))
set_option maxHeartbeats 4000000 in
set_option maxRecDepth 100000 in
theorem cBarrier_how {l : Launch} {D : va_G} {ad : Nat → Nat} {cy : Nat → ClassId} {g : GS} {a0 : Int32} {post : Int32 → GS → Prop} (hv : vBarrier_how g a0 post) : jMi l yX0_how wsX0_how rBarrier_how D (tyS cy) [.int a0] (wS ad cy g) (wS ad cy) post 0 0 := by
  refine j_meti (cc := cX0_how) (nL := 1) (rt := (some .int)) (by decide) (Nat.le_of_ble_eq_true rfl) ?_
  intro Γ hC hQ _
  have hC : jC Γ l rBarrier_how D 1 RX0 cX0_how wsX0_how (tyS cy) := hC
  refine j_lv (lv' := [(0, .int a0)]) [0] rfl ?_
  unfold vBarrier_how at hv
  refine j_iload_n (i := 0) hC dX0_how_0 rfl 0 rfl ?_
  refine j_if_ne (tgt := 6) hC dX0_how_1 (by decide) (fun h_ => ?_) (fun h_ => ?_)
  · have hv := hv.1 h_
    refine j_iload_n (i := 0) hC dX0_how_6 rfl 0 rfl ?_
    refine j_bipush (v := 7) hC dX0_how_7 (by decide) ?_
    refine j_icmp_lt (tgt := 14) hC dX0_how_9 (by decide) (fun h_ => ?_) (fun h_ => ?_)
    · have hv := hv.1 h_
      refine j_iload_n (i := 0) hC dX0_how_14 rfl 0 rfl ?_
      refine j_iconst (v := 4) hC dX0_how_15 (by decide) ?_
      refine j_icmp_ge (tgt := 23) hC dX0_how_16 (by decide) (fun h_ => ?_) (fun h_ => ?_)
      · have hv := hv.1 h_
        refine j_iconst (v := 3) hC dX0_how_23 (by decide) ?_
        exact j_iret hC hQ dX0_how_24 rfl hv
      · have hv := hv.2 h_
        refine j_iconst (v := 1) hC dX0_how_19 (by decide) ?_
        refine j_goto (tgt := 24) hC dX0_how_20 (by decide) ?_
        exact j_iret hC hQ dX0_how_24 rfl hv
    · have hv := hv.2 h_
      refine j_iconst (v := 2) hC dX0_how_12 (by decide) ?_
      exact j_iret hC hQ dX0_how_13 rfl hv
  · have hv := hv.2 h_
    refine j_iconst (v := 0) hC dX0_how_4 (by decide) ?_
    exact j_iret hC hQ dX0_how_5 rfl hv
theorem hdSG_hour : yX11_hour.cls = RX11 ∧ yX11_hour.cls ≠ "java/lang/invoke/MethodHandle" ∧ yX11_hour.cls ≠ "java/lang/invoke/VarHandle" ∧ (parseMethodDescriptor yX11_hour.desc).map (fun d => d.parameters.length) = some 3 := by decide +kernel
abbrev rSG_hour : Room := { frames := 7, cells := 0, slots := 0, locals := 174 }
def vSG_hour (g : GS) (a1 : Int32) (a2 : Int32) (a3 : Int32) (post : Int32 → GS → Prop) : Prop :=
  (vSG_within g a1 (0 : Int32) ((z_ssize g) - (1 : Int32)) (fun r11 g11 => ((r11 = (0 : Int32) → post (-1000001 : Int32) g11) ∧ (¬ r11 = (0 : Int32) → (vSG_within g11 a2 (0 : Int32) (7 : Int32) (fun r21 g21 => ((¬ r21 = (0 : Int32) → (vPlan_refresh g21 (fun g34 => (vPlan_stateAt g34 a1 a2 (fun r43 g43 => (vPlan_tells g43 a2 a1 r43 (fun r56 g56 => (((∀ j_ : Nat, 0 ≤ j_ → j_ ≤ 3 → ¬ a3 = nI j_) → post (-1000001 : Int32) g56) ∧ (a3 = nI 0 → (vBarrier_order g56 r43 r56 (fun r96 g96 => post r96 g96))) ∧ (a3 = nI 1 → (vBarrier_stands g56 r43 r56 (fun r108 g108 => (vBarrier_how g108 r108 (fun r111 g111 => post r111 g111))))) ∧ (a3 = nI 2 → (vBarrier_stands g56 r43 r56 (fun r129 g129 => (vBarrier_water g129 a1 a2 r129 (fun r132 g132 => post r132 g132))))) ∧ (a3 = nI 3 → (vBarrier_lost g56 a1 a2 r43 r56 (fun r146 g146 => post r146 g146))))))))))) ∧ (r21 = (0 : Int32) → post (-1000001 : Int32) g21))))))))
set_option maxHeartbeats 4000000 in
set_option maxRecDepth 100000 in
theorem cSG_hour {l : Launch} {D : va_G} {ad : Nat → Nat} {cy : Nat → ClassId} {g : GS} {a1 : Int32} {a2 : Int32} {a3 : Int32} {post : Int32 → GS → Prop} (hv : vSG_hour g a1 a2 a3 post) : jMi l yX11_hour wsX11_hour rSG_hour D (tyS cy) [.ref (ad 0), .int a1, .int a2, .int a3] (wS ad cy g) (wS ad cy) post 0 0 := by
  refine j_meti (cc := cX11_hour) (nL := 6) (rt := (some .int)) (by decide) (Nat.le_of_ble_eq_true rfl) ?_
  intro Γ hC hQ _
  have hC : jC Γ l rSG_hour D 6 RX11 cX11_hour wsX11_hour (tyS cy) := hC
  have hinX11 : ∀ w ∈ wsX110, w ∈ wsX11_hour := fun w h => List.mem_cons_of_mem _ (List.mem_append_left _ (List.mem_append_left _ (List.mem_append_left _ (List.mem_append_right _ h))))
  have hinX6 : ∀ w ∈ wsX60, w ∈ wsX11_hour := fun w h => List.mem_cons_of_mem _ (List.mem_append_left _ (List.mem_append_left _ (List.mem_append_right _ h)))
  refine j_lv (lv' := [(0, .ref (ad 0)), (1, .int a1), (2, .int a2), (3, .int a3)]) [0, 1, 2, 3] rfl ?_
  unfold vSG_hour at hv
  refine j_iload_n (i := 1) hC dX11_hour_0 rfl 1 rfl ?_
  refine j_iconst (v := 0) hC dX11_hour_1 (by decide) ?_
  refine j_aload_n (i := 0) hC dX11_hour_2 rfl 0 rfl ?_
  refine j_get (C := RX11) (T := TX11) (N := 8) (v := .ref (ad 5)) hC hinX11 0 (wS_c0 ad cy _) rfl 1 (by decide) (mw 1 rfl) rfl rfl dX11_hour_3 ?_
  refine j_get (C := RX6) (T := TX6) (N := 4) (v := .int (z_ssize g)) hC hinX6 5 (wS_c5 ad cy _) rfl 3 (by decide) (mw 2 rfl) rfl rfl dX11_hour_6 ?_
  refine j_iconst (v := 1) hC dX11_hour_9 (by decide) ?_
  refine j_isub hC dX11_hour_10 ?_
  refine j_callS_i (As := [.int a1, .int (0 : Int32), .int ((z_ssize g) - (1 : Int32))]) (rest := []) hC (cSG_within hv) 3 gX11_hour_X11_within rfl rfl rfl ⟨Nat.le_of_ble_eq_true rfl, Nat.le_of_ble_eq_true rfl⟩ hdSG_within.2 rfl rfl (Nat.le_of_ble_eq_true rfl) ⟨Nat.zero_le _, Nat.zero_le _⟩ dX11_hour_11 (fun r11 g11 hv => ?_)
  refine j_if_eq (tgt := 27) hC dX11_hour_14 (by decide) (fun h_ => ?_) (fun h_ => ?_)
  · have hv := hv.1 h_
    refine j_ldc (v := -1000001) hC dX11_hour_27 (mw 3 rfl) ?_
    exact j_iret hC hQ dX11_hour_29 rfl hv
  · have hv := hv.2 h_
    refine j_iload_n (i := 2) hC dX11_hour_17 rfl 2 rfl ?_
    refine j_iconst (v := 0) hC dX11_hour_18 (by decide) ?_
    refine j_bipush (v := 7) hC dX11_hour_19 (by decide) ?_
    refine j_callS_i (As := [.int a2, .int (0 : Int32), .int (7 : Int32)]) (rest := []) hC (cSG_within hv) 3 gX11_hour_X11_within rfl rfl rfl ⟨Nat.le_of_ble_eq_true rfl, Nat.le_of_ble_eq_true rfl⟩ hdSG_within.2 rfl rfl (Nat.le_of_ble_eq_true rfl) ⟨Nat.zero_le _, Nat.zero_le _⟩ dX11_hour_21 (fun r21 g21 hv => ?_)
    refine j_if_ne (tgt := 30) hC dX11_hour_24 (by decide) (fun h_ => ?_) (fun h_ => ?_)
    · have hv := hv.1 h_
      refine j_aload_n (i := 0) hC dX11_hour_30 rfl 0 rfl ?_
      refine j_get (C := RX11) (T := TX11) (N := 8) (v := .ref (ad 12)) hC hinX11 0 (wS_c0 ad cy _) rfl 3 (by decide) (mw 4 rfl) rfl rfl dX11_hour_31 ?_
      refine j_callV_v (C := RX4) (As := []) (rest := []) (b := (ad 12)) hC (cPlan_refresh hv) 0 gX11_hour_X4_refresh rfl rfl rfl ⟨Nat.le_of_ble_eq_true rfl, Nat.le_of_ble_eq_true rfl⟩ hdPlan_refresh rfl (wS_c12 ad cy _) rfl rfl (Nat.le_of_ble_eq_true rfl) ⟨Nat.zero_le _, Nat.zero_le _⟩ dX11_hour_34 (fun g34 hv => ?_)
      refine j_aload_n (i := 0) hC dX11_hour_37 rfl 0 rfl ?_
      refine j_get (C := RX11) (T := TX11) (N := 8) (v := .ref (ad 12)) hC hinX11 0 (wS_c0 ad cy _) rfl 3 (by decide) (mw 4 rfl) rfl rfl dX11_hour_38 ?_
      refine j_iload_n (i := 1) hC dX11_hour_41 rfl 1 rfl ?_
      refine j_iload_n (i := 2) hC dX11_hour_42 rfl 2 rfl ?_
      refine j_callV_i (C := RX4) (As := [.int a1, .int a2]) (rest := []) (b := (ad 12)) hC (cPlan_stateAt hv) 2 gX11_hour_X4_stateAt rfl rfl rfl ⟨Nat.le_of_ble_eq_true rfl, Nat.le_of_ble_eq_true rfl⟩ hdPlan_stateAt rfl (wS_c12 ad cy _) rfl rfl (Nat.le_of_ble_eq_true rfl) ⟨Nat.zero_le _, Nat.zero_le _⟩ dX11_hour_43 (fun r43 g43 hv => ?_)
      refine j_istore (lv' := [(4, .int r43), (0, .ref (ad 0)), (1, .int a1), (2, .int a2), (3, .int a3)]) hC dX11_hour_46 (by decide) rfl ?_
      refine j_aload_n (i := 0) hC dX11_hour_48 rfl 1 rfl ?_
      refine j_get (C := RX11) (T := TX11) (N := 8) (v := .ref (ad 12)) hC hinX11 0 (wS_c0 ad cy _) rfl 3 (by decide) (mw 4 rfl) rfl rfl dX11_hour_49 ?_
      refine j_iload_n (i := 2) hC dX11_hour_52 rfl 3 rfl ?_
      refine j_iload_n (i := 1) hC dX11_hour_53 rfl 2 rfl ?_
      refine j_iload hC dX11_hour_54 0 rfl ?_
      refine j_callV_i (C := RX4) (As := [.int a2, .int a1, .int r43]) (rest := []) (b := (ad 12)) hC (cPlan_tells hv) 3 gX11_hour_X4_tells rfl rfl rfl ⟨Nat.le_of_ble_eq_true rfl, Nat.le_of_ble_eq_true rfl⟩ hdPlan_tells rfl (wS_c12 ad cy _) rfl rfl (Nat.le_of_ble_eq_true rfl) ⟨Nat.zero_le _, Nat.zero_le _⟩ dX11_hour_56 (fun r56 g56 hv => ?_)
      refine j_istore (lv' := [(5, .int r56), (4, .int r43), (0, .ref (ad 0)), (1, .int a1), (2, .int a2), (3, .int a3)]) hC dX11_hour_59 (by decide) rfl ?_
      refine j_iload_n (i := 3) hC dX11_hour_61 rfl 5 rfl ?_
      rcases jsw a3 0 3 with h_ | h_
      · have hv := hv.1 h_
        refine j_tableOut (tgt := 150) hC dX11_hour_62 (jsw_out (a := 0) (n := 3) h_ rfl rfl) (by decide) ?_
        refine j_ldc (v := -1000001) hC dX11_hour_150 (mw 3 rfl) ?_
        exact j_iret hC hQ dX11_hour_152 rfl hv
      · have hv := hv.2
        obtain ⟨j_, hi_, hj_, h_⟩ := h_
        match j_, hi_, hj_, h_ with
        | 0, _, _, h_ =>
          have hv := hv.1 h_
          refine j_tableIn (tgt := 92) (off := 30) hC dX11_hour_62 (by rw [h_]; decide) (by rw [h_]; decide) (by rw [h_]; rfl) (by decide) ?_
          refine j_iload hC dX11_hour_92 1 rfl ?_
          refine j_iload hC dX11_hour_94 0 rfl ?_
          refine j_callS_i (As := [.int r43, .int r56]) (rest := []) hC (cBarrier_order hv) 2 gX11_hour_X0_order rfl rfl rfl ⟨Nat.le_of_ble_eq_true rfl, Nat.le_of_ble_eq_true rfl⟩ hdBarrier_order.2 rfl rfl (Nat.le_of_ble_eq_true rfl) ⟨Nat.zero_le _, Nat.zero_le _⟩ dX11_hour_96 (fun r96 g96 hv => ?_)
          exact j_iret hC hQ dX11_hour_99 rfl hv
        | 1, _, _, h_ =>
          have hv := hv.2.1 h_
          refine j_tableIn (tgt := 100) (off := 38) hC dX11_hour_62 (by rw [h_]; decide) (by rw [h_]; decide) (by rw [h_]; rfl) (by decide) ?_
          refine j_aload_n (i := 0) hC dX11_hour_100 rfl 2 rfl ?_
          refine j_get (C := RX11) (T := TX11) (N := 8) (v := .ref (ad 9)) hC hinX11 0 (wS_c0 ad cy _) rfl 2 (by decide) (mw 5 rfl) rfl rfl dX11_hour_101 ?_
          refine j_iload hC dX11_hour_104 1 rfl ?_
          refine j_iload hC dX11_hour_106 0 rfl ?_
          refine j_callV_i (C := RX0) (As := [.int r43, .int r56]) (rest := []) (b := (ad 9)) hC (cBarrier_stands hv) 2 gX11_hour_X0_stands rfl rfl rfl ⟨Nat.le_of_ble_eq_true rfl, Nat.le_of_ble_eq_true rfl⟩ hdBarrier_stands rfl (wS_c9 ad cy _) rfl rfl (Nat.le_of_ble_eq_true rfl) ⟨Nat.zero_le _, Nat.zero_le _⟩ dX11_hour_108 (fun r108 g108 hv => ?_)
          refine j_callS_i (As := [.int r108]) (rest := []) hC (cBarrier_how hv) 1 gX11_hour_X0_how rfl rfl rfl ⟨Nat.le_of_ble_eq_true rfl, Nat.le_of_ble_eq_true rfl⟩ hdBarrier_how.2 rfl rfl (Nat.le_of_ble_eq_true rfl) ⟨Nat.zero_le _, Nat.zero_le _⟩ dX11_hour_111 (fun r111 g111 hv => ?_)
          exact j_iret hC hQ dX11_hour_114 rfl hv
        | 2, _, _, h_ =>
          have hv := hv.2.2.1 h_
          refine j_tableIn (tgt := 115) (off := 53) hC dX11_hour_62 (by rw [h_]; decide) (by rw [h_]; decide) (by rw [h_]; rfl) (by decide) ?_
          refine j_aload_n (i := 0) hC dX11_hour_115 rfl 2 rfl ?_
          refine j_get (C := RX11) (T := TX11) (N := 8) (v := .ref (ad 9)) hC hinX11 0 (wS_c0 ad cy _) rfl 2 (by decide) (mw 5 rfl) rfl rfl dX11_hour_116 ?_
          refine j_iload_n (i := 1) hC dX11_hour_119 rfl 3 rfl ?_
          refine j_iload_n (i := 2) hC dX11_hour_120 rfl 4 rfl ?_
          refine j_aload_n (i := 0) hC dX11_hour_121 rfl 2 rfl ?_
          refine j_get (C := RX11) (T := TX11) (N := 8) (v := .ref (ad 9)) hC hinX11 0 (wS_c0 ad cy _) rfl 2 (by decide) (mw 5 rfl) rfl rfl dX11_hour_122 ?_
          refine j_iload hC dX11_hour_125 1 rfl ?_
          refine j_iload hC dX11_hour_127 0 rfl ?_
          refine j_callV_i (C := RX0) (As := [.int r43, .int r56]) (rest := [.int a2, .int a1, .ref (ad 9)]) (b := (ad 9)) hC (cBarrier_stands hv) 2 gX11_hour_X0_stands rfl rfl rfl ⟨Nat.le_of_ble_eq_true rfl, Nat.le_of_ble_eq_true rfl⟩ hdBarrier_stands rfl (wS_c9 ad cy _) rfl rfl (Nat.le_of_ble_eq_true rfl) ⟨Nat.zero_le _, Nat.zero_le _⟩ dX11_hour_129 (fun r129 g129 hv => ?_)
          refine j_callV_i (C := RX0) (As := [.int a1, .int a2, .int r129]) (rest := []) (b := (ad 9)) hC (cBarrier_water hv) 3 gX11_hour_X0_water rfl rfl rfl ⟨Nat.le_of_ble_eq_true rfl, Nat.le_of_ble_eq_true rfl⟩ hdBarrier_water rfl (wS_c9 ad cy _) rfl rfl (Nat.le_of_ble_eq_true rfl) ⟨Nat.zero_le _, Nat.zero_le _⟩ dX11_hour_132 (fun r132 g132 hv => ?_)
          exact j_iret hC hQ dX11_hour_135 rfl hv
        | 3, _, _, h_ =>
          have hv := hv.2.2.2 h_
          refine j_tableIn (tgt := 136) (off := 74) hC dX11_hour_62 (by rw [h_]; decide) (by rw [h_]; decide) (by rw [h_]; rfl) (by decide) ?_
          refine j_aload_n (i := 0) hC dX11_hour_136 rfl 2 rfl ?_
          refine j_get (C := RX11) (T := TX11) (N := 8) (v := .ref (ad 9)) hC hinX11 0 (wS_c0 ad cy _) rfl 2 (by decide) (mw 5 rfl) rfl rfl dX11_hour_137 ?_
          refine j_iload_n (i := 1) hC dX11_hour_140 rfl 3 rfl ?_
          refine j_iload_n (i := 2) hC dX11_hour_141 rfl 4 rfl ?_
          refine j_iload hC dX11_hour_142 1 rfl ?_
          refine j_iload hC dX11_hour_144 0 rfl ?_
          refine j_callV_i (C := RX0) (As := [.int a1, .int a2, .int r43, .int r56]) (rest := []) (b := (ad 9)) hC (cBarrier_lost hv) 4 gX11_hour_X0_lost rfl rfl rfl ⟨Nat.le_of_ble_eq_true rfl, Nat.le_of_ble_eq_true rfl⟩ hdBarrier_lost rfl (wS_c9 ad cy _) rfl rfl (Nat.le_of_ble_eq_true rfl) ⟨Nat.zero_le _, Nat.zero_le _⟩ dX11_hour_146 (fun r146 g146 hv => ?_)
          exact j_iret hC hQ dX11_hour_149 rfl hv
        | j_ + 4, _, hj_, _ => exact absurd hj_ (by omega)
    · have hv := hv.2 h_
      refine j_ldc (v := -1000001) hC dX11_hour_27 (mw 3 rfl) ?_
      exact j_iret hC hQ dX11_hour_29 rfl hv
theorem hdBarrier_lossOfOneOrder : yX0_lossOfOneOrder.cls = RX0 ∧ yX0_lossOfOneOrder.cls ≠ "java/lang/invoke/MethodHandle" ∧ yX0_lossOfOneOrder.cls ≠ "java/lang/invoke/VarHandle" ∧ (parseMethodDescriptor yX0_lossOfOneOrder.desc).map (fun d => d.parameters.length) = some 1 := by decide +kernel
abbrev rBarrier_lossOfOneOrder : Room := { frames := 3, cells := 0, slots := 0, locals := 74 }
def vBarrier_lossOfOneOrder_41 (post : Int64 → GS → Prop) (K5 : Int32 → Int64 → Int32 → GS → Prop) (K23 : Int32 → Int64 → Int32 → Int32 → Int32 → GS → Prop) (x1 : Int32) (x2 : Int64) (x4 : Int32) (x5 : Int32) (x6 : Int32) (t0 : Int32) (g : GS) : Prop :=
  (vp_in x4 8 ∧ (vBarrier_lost g x4 x6 x5 t0 (fun r64 g64 => (vBarrier_stands g64 x5 t0 (fun r76 g76 => (vBarrier_next g76 r76 x6 (fun r81 g81 => (K23 x1 (x2 + ((((z_weights g) x4.toNatClampNeg).toInt64) * (r64.toInt64))) x4 r81 (x6 + (1 : Int32)) g81))))))))
def vBarrier_lossOfOneOrder_92 (post : Int64 → GS → Prop) (K5 : Int32 → Int64 → Int32 → GS → Prop) (x1 : Int32) (x2 : Int64) (x4 : Int32) (g : GS) : Prop :=
  (K5 x1 x2 (x4 + (1 : Int32)) g)
def vBarrier_lossOfOneOrder_23 (post : Int64 → GS → Prop) (K5 : Int32 → Int64 → Int32 → GS → Prop) : Nat → Int32 → Int64 → Int32 → Int32 → Int32 → GS → Prop
  | 0, _, _, _, _, _, _ => False
  | k_ + 1, x1, x2, x4, x5, x6, g =>
  (((8 : Int32) ≤ x6 → (vBarrier_lossOfOneOrder_92 post K5 x1 x2 x4 g)) ∧ (¬ (8 : Int32) ≤ x6 → ((¬ x6 = x1 → (vBarrier_lossOfOneOrder_41 post K5 (fun x1 x2 x4 x5 x6 g => vBarrier_lossOfOneOrder_23 post K5 k_ x1 x2 x4 x5 x6 g) x1 x2 x4 x5 x6 (0 : Int32) g)) ∧ (x6 = x1 → (vBarrier_lossOfOneOrder_41 post K5 (fun x1 x2 x4 x5 x6 g => vBarrier_lossOfOneOrder_23 post K5 k_ x1 x2 x4 x5 x6 g) x1 x2 x4 x5 x6 (1 : Int32) g)))))
def vBarrier_lossOfOneOrder_5 (post : Int64 → GS → Prop) : Nat → Int32 → Int64 → Int32 → GS → Prop
  | 0, _, _, _, _ => False
  | k_ + 1, x1, x2, x4, g =>
  (((z_ssize g) ≤ x4 → post x2 g) ∧ (¬ (z_ssize g) ≤ x4 → (∃ n_ : Nat, vBarrier_lossOfOneOrder_23 post (fun x1 x2 x4 g => vBarrier_lossOfOneOrder_5 post k_ x1 x2 x4 g) n_ x1 x2 x4 (0 : Int32) (0 : Int32) g)))
def vBarrier_lossOfOneOrder (g : GS) (a1 : Int32) (post : Int64 → GS → Prop) : Prop :=
  (∃ n_ : Nat, vBarrier_lossOfOneOrder_5 post n_ a1 (0 : Int64) (0 : Int32) g)
set_option maxHeartbeats 4000000 in
set_option maxRecDepth 100000 in
theorem lBarrier_lossOfOneOrder_41 {Γ : jG} {l : Launch} {D : va_G} {ad : Nat → Nat} {cy : Nat → ClassId} {post : Int64 → GS → Prop} (hC : jC Γ l rBarrier_lossOfOneOrder D 8 RX0 cX0_lossOfOneOrder wsX0_lossOfOneOrder (tyS cy)) (hQ : jQl Γ D (wS ad cy) post (some .long) 0 0) {K5 : Int32 → Int64 → Int32 → GS → Prop} (hK5 : ∀ (x1 : Int32) (x2 : Int64) (x4 : Int32) (g : GS), K5 x1 x2 x4 g → J Γ D 8 0 0 (wS ad cy g) 5 [(0, .ref (ad 9)), (1, .int x1), (2, .long x2), (4, .int x4)] []) {K23 : Int32 → Int64 → Int32 → Int32 → Int32 → GS → Prop} (hK23 : ∀ (x1 : Int32) (x2 : Int64) (x4 : Int32) (x5 : Int32) (x6 : Int32) (g : GS), K23 x1 x2 x4 x5 x6 g → J Γ D 8 0 0 (wS ad cy g) 23 [(0, .ref (ad 9)), (1, .int x1), (2, .long x2), (4, .int x4), (5, .int x5), (6, .int x6)] []) : ∀ (x1 : Int32) (x2 : Int64) (x4 : Int32) (x5 : Int32) (x6 : Int32) (t0 : Int32) (g : GS), vBarrier_lossOfOneOrder_41 post K5 K23 x1 x2 x4 x5 x6 t0 g → J Γ D 8 0 0 (wS ad cy g) 41 [(0, .ref (ad 9)), (1, .int x1), (2, .long x2), (4, .int x4), (5, .int x5), (6, .int x6)] [.int t0] := by
  have hinX0 : ∀ w ∈ wsX00, w ∈ wsX0_lossOfOneOrder := fun w h => List.mem_cons_of_mem _ (List.mem_append_left _ (List.mem_append_right _ h))
  have hinX6 : ∀ w ∈ wsX60, w ∈ wsX0_lossOfOneOrder := fun w h => List.mem_cons_of_mem _ (List.mem_append_right _ h)
  intro x1 x2 x4 x5 x6 t0 g hv
  unfold vBarrier_lossOfOneOrder_41 at hv
  refine j_istore (lv' := [(7, .int t0), (0, .ref (ad 9)), (1, .int x1), (2, .long x2), (4, .int x4), (5, .int x5), (6, .int x6)]) hC dX0_lossOfOneOrder_41 (by decide) rfl ?_
  refine j_lload_n (i := 2) hC dX0_lossOfOneOrder_43 rfl 3 rfl ?_
  refine j_aload_n (i := 0) hC dX0_lossOfOneOrder_44 rfl 1 rfl ?_
  refine j_get (C := RX0) (T := TX0) (N := 3) (v := .ref (ad 5)) hC hinX0 9 (wS_c9 ad cy _) rfl 2 (by decide) (mw 1 rfl) rfl rfl dX0_lossOfOneOrder_45 ?_
  refine j_get (C := RX6) (T := TX6) (N := 4) (v := .ref (ad 6)) hC hinX6 5 (wS_c5 ad cy _) rfl 0 (by decide) (mw 3 rfl) rfl rfl dX0_lossOfOneOrder_48 ?_
  refine j_iload hC dX0_lossOfOneOrder_51 4 rfl ?_
  have hb53 := hv.1
  have hv := hv.2
  refine j_iald (v := ((z_weights g) x4.toNatClampNeg)) hC _ 0 (wS_c6 ad cy _) rfl hb53 rfl dX0_lossOfOneOrder_53 ?_
  refine j_i2l hC dX0_lossOfOneOrder_54 ?_
  refine j_aload_n (i := 0) hC dX0_lossOfOneOrder_55 rfl 1 rfl ?_
  refine j_iload hC dX0_lossOfOneOrder_56 4 rfl ?_
  refine j_iload hC dX0_lossOfOneOrder_58 6 rfl ?_
  refine j_iload hC dX0_lossOfOneOrder_60 5 rfl ?_
  refine j_iload hC dX0_lossOfOneOrder_62 0 rfl ?_
  refine j_callV_i (C := RX0) (As := [.int x4, .int x6, .int x5, .int t0]) (rest := [.long (((z_weights g) x4.toNatClampNeg).toInt64), .long x2]) (b := (ad 9)) hC (cBarrier_lost hv) 4 gX0_lossOfOneOrder_X0_lost rfl rfl rfl ⟨Nat.le_of_ble_eq_true rfl, Nat.le_of_ble_eq_true rfl⟩ hdBarrier_lost rfl (wS_c9 ad cy _) rfl rfl (Nat.le_of_ble_eq_true rfl) ⟨Nat.zero_le _, Nat.zero_le _⟩ dX0_lossOfOneOrder_64 (fun r64 g64 hv => ?_)
  refine j_i2l hC dX0_lossOfOneOrder_67 ?_
  refine j_lmul hC dX0_lossOfOneOrder_68 ?_
  refine j_ladd hC dX0_lossOfOneOrder_69 ?_
  refine j_lstore_n (i := 2) (lv' := [(2, .long (x2 + ((((z_weights g) x4.toNatClampNeg).toInt64) * (r64.toInt64)))), (7, .int t0), (0, .ref (ad 9)), (1, .int x1), (4, .int x4), (5, .int x5), (6, .int x6)]) hC dX0_lossOfOneOrder_70 rfl (by decide) rfl ?_
  refine j_aload_n (i := 0) hC dX0_lossOfOneOrder_71 rfl 2 rfl ?_
  refine j_iload hC dX0_lossOfOneOrder_72 5 rfl ?_
  refine j_iload hC dX0_lossOfOneOrder_74 1 rfl ?_
  refine j_callV_i (C := RX0) (As := [.int x5, .int t0]) (rest := []) (b := (ad 9)) hC (cBarrier_stands hv) 2 gX0_lossOfOneOrder_X0_stands rfl rfl rfl ⟨Nat.le_of_ble_eq_true rfl, Nat.le_of_ble_eq_true rfl⟩ hdBarrier_stands rfl (wS_c9 ad cy _) rfl rfl (Nat.le_of_ble_eq_true rfl) ⟨Nat.zero_le _, Nat.zero_le _⟩ dX0_lossOfOneOrder_76 (fun r76 g76 hv => ?_)
  refine j_iload hC dX0_lossOfOneOrder_79 6 rfl ?_
  refine j_callS_i (As := [.int r76, .int x6]) (rest := []) hC (cBarrier_next hv) 2 gX0_lossOfOneOrder_X0_next rfl rfl rfl ⟨Nat.le_of_ble_eq_true rfl, Nat.le_of_ble_eq_true rfl⟩ hdBarrier_next.2 rfl rfl (Nat.le_of_ble_eq_true rfl) ⟨Nat.zero_le _, Nat.zero_le _⟩ dX0_lossOfOneOrder_81 (fun r81 g81 hv => ?_)
  refine j_istore (lv' := [(5, .int r81), (2, .long (x2 + ((((z_weights g) x4.toNatClampNeg).toInt64) * (r64.toInt64)))), (7, .int t0), (0, .ref (ad 9)), (1, .int x1), (4, .int x4), (6, .int x6)]) hC dX0_lossOfOneOrder_84 (by decide) rfl ?_
  refine j_iinc (k := 6) (v := (x6 + (1 : Int32))) (lv' := [(6, .int (x6 + (1 : Int32))), (5, .int r81), (2, .long (x2 + ((((z_weights g) x4.toNatClampNeg).toInt64) * (r64.toInt64)))), (7, .int t0), (0, .ref (ad 9)), (1, .int x1), (4, .int x4)]) hC dX0_lossOfOneOrder_86 rfl rfl (by decide) rfl ?_
  refine j_goto (tgt := 23) hC dX0_lossOfOneOrder_89 (by decide) ?_
  exact j_lv [4, 5, 2, 6, 1, 0] rfl (hK23 _ _ _ _ _ _ hv)
set_option maxHeartbeats 4000000 in
set_option maxRecDepth 100000 in
theorem lBarrier_lossOfOneOrder_92 {Γ : jG} {l : Launch} {D : va_G} {ad : Nat → Nat} {cy : Nat → ClassId} {post : Int64 → GS → Prop} (hC : jC Γ l rBarrier_lossOfOneOrder D 8 RX0 cX0_lossOfOneOrder wsX0_lossOfOneOrder (tyS cy)) (hQ : jQl Γ D (wS ad cy) post (some .long) 0 0) {K5 : Int32 → Int64 → Int32 → GS → Prop} (hK5 : ∀ (x1 : Int32) (x2 : Int64) (x4 : Int32) (g : GS), K5 x1 x2 x4 g → J Γ D 8 0 0 (wS ad cy g) 5 [(0, .ref (ad 9)), (1, .int x1), (2, .long x2), (4, .int x4)] []) : ∀ (x1 : Int32) (x2 : Int64) (x4 : Int32) (g : GS), vBarrier_lossOfOneOrder_92 post K5 x1 x2 x4 g → J Γ D 8 0 0 (wS ad cy g) 92 [(0, .ref (ad 9)), (1, .int x1), (2, .long x2), (4, .int x4)] [] := by
  have hinX0 : ∀ w ∈ wsX00, w ∈ wsX0_lossOfOneOrder := fun w h => List.mem_cons_of_mem _ (List.mem_append_left _ (List.mem_append_right _ h))
  have hinX6 : ∀ w ∈ wsX60, w ∈ wsX0_lossOfOneOrder := fun w h => List.mem_cons_of_mem _ (List.mem_append_right _ h)
  intro x1 x2 x4 g hv
  unfold vBarrier_lossOfOneOrder_92 at hv
  refine j_iinc (k := 3) (v := (x4 + (1 : Int32))) (lv' := [(4, .int (x4 + (1 : Int32))), (0, .ref (ad 9)), (1, .int x1), (2, .long x2)]) hC dX0_lossOfOneOrder_92 rfl rfl (by decide) rfl ?_
  refine j_goto (tgt := 5) hC dX0_lossOfOneOrder_95 (by decide) ?_
  exact j_lv [1, 2, 3, 0] rfl (hK5 _ _ _ _ hv)
set_option maxHeartbeats 4000000 in
set_option maxRecDepth 100000 in
theorem lBarrier_lossOfOneOrder_23 {Γ : jG} {l : Launch} {D : va_G} {ad : Nat → Nat} {cy : Nat → ClassId} {post : Int64 → GS → Prop} (hC : jC Γ l rBarrier_lossOfOneOrder D 8 RX0 cX0_lossOfOneOrder wsX0_lossOfOneOrder (tyS cy)) (hQ : jQl Γ D (wS ad cy) post (some .long) 0 0) {K5 : Int32 → Int64 → Int32 → GS → Prop} (hK5 : ∀ (x1 : Int32) (x2 : Int64) (x4 : Int32) (g : GS), K5 x1 x2 x4 g → J Γ D 8 0 0 (wS ad cy g) 5 [(0, .ref (ad 9)), (1, .int x1), (2, .long x2), (4, .int x4)] []) : ∀ (n_ : Nat) (x1 : Int32) (x2 : Int64) (x4 : Int32) (x5 : Int32) (x6 : Int32) (g : GS), vBarrier_lossOfOneOrder_23 post K5 n_ x1 x2 x4 x5 x6 g → J Γ D 8 0 0 (wS ad cy g) 23 [(0, .ref (ad 9)), (1, .int x1), (2, .long x2), (4, .int x4), (5, .int x5), (6, .int x6)] [] := by
  have hinX0 : ∀ w ∈ wsX00, w ∈ wsX0_lossOfOneOrder := fun w h => List.mem_cons_of_mem _ (List.mem_append_left _ (List.mem_append_right _ h))
  have hinX6 : ∀ w ∈ wsX60, w ∈ wsX0_lossOfOneOrder := fun w h => List.mem_cons_of_mem _ (List.mem_append_right _ h)
  intro n_
  induction n_ with
  | zero => intro x1 x2 x4 x5 x6 g hv; exact False.elim hv
  | succ k_ ih =>
    intro x1 x2 x4 x5 x6 g hv
    unfold vBarrier_lossOfOneOrder_23 at hv
    refine j_iload hC dX0_lossOfOneOrder_23 5 rfl ?_
    refine j_bipush (v := 8) hC dX0_lossOfOneOrder_25 (by decide) ?_
    refine j_icmp_ge (tgt := 92) hC dX0_lossOfOneOrder_27 (by decide) (fun h_ => ?_) (fun h_ => ?_)
    · have hv := hv.1 h_
      exact j_lv [0, 1, 2, 3] rfl (lBarrier_lossOfOneOrder_92 hC hQ hK5 _ _ _ _ hv)
    · have hv := hv.2 h_
      refine j_iload hC dX0_lossOfOneOrder_30 5 rfl ?_
      refine j_iload_n (i := 1) hC dX0_lossOfOneOrder_32 rfl 1 rfl ?_
      refine j_icmp_ne (tgt := 40) hC dX0_lossOfOneOrder_33 (by decide) (fun h_ => ?_) (fun h_ => ?_)
      · have hv := hv.1 h_
        refine j_iconst (v := 0) hC dX0_lossOfOneOrder_40 (by decide) ?_
        exact j_lv [0, 1, 2, 3, 4, 5] rfl (lBarrier_lossOfOneOrder_41 hC hQ hK5 (K23 := fun x1 x2 x4 x5 x6 g => vBarrier_lossOfOneOrder_23 post K5 k_ x1 x2 x4 x5 x6 g) (fun _ _ _ _ _ _ h_ => ih _ _ _ _ _ _ h_) _ _ _ _ _ _ _ hv)
      · have hv := hv.2 h_
        refine j_iconst (v := 1) hC dX0_lossOfOneOrder_36 (by decide) ?_
        refine j_goto (tgt := 41) hC dX0_lossOfOneOrder_37 (by decide) ?_
        exact j_lv [0, 1, 2, 3, 4, 5] rfl (lBarrier_lossOfOneOrder_41 hC hQ hK5 (K23 := fun x1 x2 x4 x5 x6 g => vBarrier_lossOfOneOrder_23 post K5 k_ x1 x2 x4 x5 x6 g) (fun _ _ _ _ _ _ h_ => ih _ _ _ _ _ _ h_) _ _ _ _ _ _ _ hv)
set_option maxHeartbeats 4000000 in
set_option maxRecDepth 100000 in
theorem lBarrier_lossOfOneOrder_5 {Γ : jG} {l : Launch} {D : va_G} {ad : Nat → Nat} {cy : Nat → ClassId} {post : Int64 → GS → Prop} (hC : jC Γ l rBarrier_lossOfOneOrder D 8 RX0 cX0_lossOfOneOrder wsX0_lossOfOneOrder (tyS cy)) (hQ : jQl Γ D (wS ad cy) post (some .long) 0 0) : ∀ (n_ : Nat) (x1 : Int32) (x2 : Int64) (x4 : Int32) (g : GS), vBarrier_lossOfOneOrder_5 post n_ x1 x2 x4 g → J Γ D 8 0 0 (wS ad cy g) 5 [(0, .ref (ad 9)), (1, .int x1), (2, .long x2), (4, .int x4)] [] := by
  have hinX0 : ∀ w ∈ wsX00, w ∈ wsX0_lossOfOneOrder := fun w h => List.mem_cons_of_mem _ (List.mem_append_left _ (List.mem_append_right _ h))
  have hinX6 : ∀ w ∈ wsX60, w ∈ wsX0_lossOfOneOrder := fun w h => List.mem_cons_of_mem _ (List.mem_append_right _ h)
  intro n_
  induction n_ with
  | zero => intro x1 x2 x4 g hv; exact False.elim hv
  | succ k_ ih =>
    intro x1 x2 x4 g hv
    unfold vBarrier_lossOfOneOrder_5 at hv
    refine j_iload hC dX0_lossOfOneOrder_5 3 rfl ?_
    refine j_aload_n (i := 0) hC dX0_lossOfOneOrder_7 rfl 0 rfl ?_
    refine j_get (C := RX0) (T := TX0) (N := 3) (v := .ref (ad 5)) hC hinX0 9 (wS_c9 ad cy _) rfl 2 (by decide) (mw 1 rfl) rfl rfl dX0_lossOfOneOrder_8 ?_
    refine j_get (C := RX6) (T := TX6) (N := 4) (v := .int (z_ssize g)) hC hinX6 5 (wS_c5 ad cy _) rfl 3 (by decide) (mw 2 rfl) rfl rfl dX0_lossOfOneOrder_11 ?_
    refine j_icmp_ge (tgt := 98) hC dX0_lossOfOneOrder_14 (by decide) (fun h_ => ?_) (fun h_ => ?_)
    · have hv := hv.1 h_
      refine j_lload_n (i := 2) hC dX0_lossOfOneOrder_98 rfl 2 rfl ?_
      exact j_lret hC hQ dX0_lossOfOneOrder_99 rfl hv
    · have hv := hv.2 h_
      refine j_iconst (v := 0) hC dX0_lossOfOneOrder_17 (by decide) ?_
      refine j_istore (lv' := [(5, .int (0 : Int32)), (0, .ref (ad 9)), (1, .int x1), (2, .long x2), (4, .int x4)]) hC dX0_lossOfOneOrder_18 (by decide) rfl ?_
      refine j_iconst (v := 0) hC dX0_lossOfOneOrder_20 (by decide) ?_
      refine j_istore (lv' := [(6, .int (0 : Int32)), (5, .int (0 : Int32)), (0, .ref (ad 9)), (1, .int x1), (2, .long x2), (4, .int x4)]) hC dX0_lossOfOneOrder_21 (by decide) rfl ?_
      obtain ⟨n_, hv⟩ := hv
      exact j_lv [2, 3, 4, 5, 1, 0] rfl (lBarrier_lossOfOneOrder_23 hC hQ (K5 := fun x1 x2 x4 g => vBarrier_lossOfOneOrder_5 post k_ x1 x2 x4 g) (fun _ _ _ _ h_ => ih _ _ _ _ h_) n_ _ _ _ _ _ _ hv)
set_option maxHeartbeats 4000000 in
set_option maxRecDepth 100000 in
theorem cBarrier_lossOfOneOrder {l : Launch} {D : va_G} {ad : Nat → Nat} {cy : Nat → ClassId} {g : GS} {a1 : Int32} {post : Int64 → GS → Prop} (hv : vBarrier_lossOfOneOrder g a1 post) : jMl l yX0_lossOfOneOrder wsX0_lossOfOneOrder rBarrier_lossOfOneOrder D (tyS cy) [.ref (ad 9), .int a1] (wS ad cy g) (wS ad cy) post 0 0 := by
  refine j_metl (cc := cX0_lossOfOneOrder) (nL := 8) (rt := (some .long)) (by decide) (Nat.le_of_ble_eq_true rfl) ?_
  intro Γ hC hQ _
  have hC : jC Γ l rBarrier_lossOfOneOrder D 8 RX0 cX0_lossOfOneOrder wsX0_lossOfOneOrder (tyS cy) := hC
  have hinX0 : ∀ w ∈ wsX00, w ∈ wsX0_lossOfOneOrder := fun w h => List.mem_cons_of_mem _ (List.mem_append_left _ (List.mem_append_right _ h))
  have hinX6 : ∀ w ∈ wsX60, w ∈ wsX0_lossOfOneOrder := fun w h => List.mem_cons_of_mem _ (List.mem_append_right _ h)
  refine j_lv (lv' := [(0, .ref (ad 9)), (1, .int a1)]) [0, 1] rfl ?_
  unfold vBarrier_lossOfOneOrder at hv
  refine j_lconst (v := 0) hC dX0_lossOfOneOrder_0 (by decide) ?_
  refine j_lstore_n (i := 2) (lv' := [(2, .long (0 : Int64)), (0, .ref (ad 9)), (1, .int a1)]) hC dX0_lossOfOneOrder_1 rfl (by decide) rfl ?_
  refine j_iconst (v := 0) hC dX0_lossOfOneOrder_2 (by decide) ?_
  refine j_istore (lv' := [(4, .int (0 : Int32)), (2, .long (0 : Int64)), (0, .ref (ad 9)), (1, .int a1)]) hC dX0_lossOfOneOrder_3 (by decide) rfl ?_
  obtain ⟨n_, hv⟩ := hv
  exact j_lv [2, 3, 1, 0] rfl (lBarrier_lossOfOneOrder_5 hC hQ n_ _ _ _ _ hv)
theorem hdSG_shutAt : yX11_shutAt.cls = RX11 ∧ yX11_shutAt.cls ≠ "java/lang/invoke/MethodHandle" ∧ yX11_shutAt.cls ≠ "java/lang/invoke/VarHandle" ∧ (parseMethodDescriptor yX11_shutAt.desc).map (fun d => d.parameters.length) = some 1 := by decide +kernel
abbrev rSG_shutAt : Room := { frames := 4, cells := 0, slots := 0, locals := 101 }
def vSG_shutAt (g : GS) (a1 : Int32) (post : Int64 → GS → Prop) : Prop :=
  (vSG_within g a1 (0 : Int32) (8 : Int32) (fun r4 g4 => ((r4 = (0 : Int32) → post (-1000001 : Int64) g4) ∧ (¬ r4 = (0 : Int32) → (vBarrier_lossOfOneOrder g4 a1 (fun r15 g15 => post r15 g15))))))
set_option maxHeartbeats 4000000 in
set_option maxRecDepth 100000 in
theorem cSG_shutAt {l : Launch} {D : va_G} {ad : Nat → Nat} {cy : Nat → ClassId} {g : GS} {a1 : Int32} {post : Int64 → GS → Prop} (hv : vSG_shutAt g a1 post) : jMl l yX11_shutAt wsX11_shutAt rSG_shutAt D (tyS cy) [.ref (ad 0), .int a1] (wS ad cy g) (wS ad cy) post 0 0 := by
  refine j_metl (cc := cX11_shutAt) (nL := 2) (rt := (some .long)) (by decide) (Nat.le_of_ble_eq_true rfl) ?_
  intro Γ hC hQ _
  have hC : jC Γ l rSG_shutAt D 2 RX11 cX11_shutAt wsX11_shutAt (tyS cy) := hC
  have hinX11 : ∀ w ∈ wsX110, w ∈ wsX11_shutAt := fun w h => List.mem_cons_of_mem _ (List.mem_append_left _ (List.mem_append_left _ (List.mem_append_right _ h)))
  refine j_lv (lv' := [(0, .ref (ad 0)), (1, .int a1)]) [0, 1] rfl ?_
  unfold vSG_shutAt at hv
  refine j_iload_n (i := 1) hC dX11_shutAt_0 rfl 1 rfl ?_
  refine j_iconst (v := 0) hC dX11_shutAt_1 (by decide) ?_
  refine j_bipush (v := 8) hC dX11_shutAt_2 (by decide) ?_
  refine j_callS_i (As := [.int a1, .int (0 : Int32), .int (8 : Int32)]) (rest := []) hC (cSG_within hv) 3 gX11_shutAt_X11_within rfl rfl rfl ⟨Nat.le_of_ble_eq_true rfl, Nat.le_of_ble_eq_true rfl⟩ hdSG_within.2 rfl rfl (Nat.le_of_ble_eq_true rfl) ⟨Nat.zero_le _, Nat.zero_le _⟩ dX11_shutAt_4 (fun r4 g4 hv => ?_)
  refine j_if_eq (tgt := 21) hC dX11_shutAt_7 (by decide) (fun h_ => ?_) (fun h_ => ?_)
  · have hv := hv.1 h_
    refine j_ldc2 (v := -1000001) hC dX11_shutAt_21 (mw 2 rfl) ?_
    exact j_lret hC hQ dX11_shutAt_24 rfl hv
  · have hv := hv.2 h_
    refine j_aload_n (i := 0) hC dX11_shutAt_10 rfl 0 rfl ?_
    refine j_get (C := RX11) (T := TX11) (N := 8) (v := .ref (ad 9)) hC hinX11 0 (wS_c0 ad cy _) rfl 2 (by decide) (mw 1 rfl) rfl rfl dX11_shutAt_11 ?_
    refine j_iload_n (i := 1) hC dX11_shutAt_14 rfl 1 rfl ?_
    refine j_callV_l (C := RX0) (As := [.int a1]) (rest := []) (b := (ad 9)) hC (cBarrier_lossOfOneOrder hv) 1 gX11_shutAt_X0_lossOfOneOrder rfl rfl rfl ⟨Nat.le_of_ble_eq_true rfl, Nat.le_of_ble_eq_true rfl⟩ hdBarrier_lossOfOneOrder rfl (wS_c9 ad cy _) rfl rfl (Nat.le_of_ble_eq_true rfl) ⟨Nat.zero_le _, Nat.zero_le _⟩ dX11_shutAt_15 (fun r15 g15 hv => ?_)
    refine j_goto (tgt := 24) hC dX11_shutAt_18 (by decide) ?_
    exact j_lret hC hQ dX11_shutAt_24 rfl hv
theorem hdSea_firstAbove : yX6_firstAbove.cls = RX6 ∧ yX6_firstAbove.cls ≠ "java/lang/invoke/MethodHandle" ∧ yX6_firstAbove.cls ≠ "java/lang/invoke/VarHandle" ∧ (parseMethodDescriptor yX6_firstAbove.desc).map (fun d => d.parameters.length) = some 1 := by decide +kernel
abbrev rSea_firstAbove : Room := { frames := 0, cells := 0, slots := 0, locals := 0 }
def vSea_firstAbove_38 (post : Int32 → GS → Prop) (K2 : Int32 → Int32 → GS → Prop) (x1 : Int32) (x2 : Int32) (g : GS) : Prop :=
  (K2 x1 (x2 + (1 : Int32)) g)
def vSea_firstAbove_10 (post : Int32 → GS → Prop) (K2 : Int32 → Int32 → GS → Prop) : Nat → Int32 → Int32 → Int32 → GS → Prop
  | 0, _, _, _, _ => False
  | k_ + 1, x1, x2, x3, g =>
  (((z_ssize g) ≤ x3 → (vSea_firstAbove_38 post K2 x1 x2 g)) ∧ (¬ (z_ssize g) ≤ x3 → (vp_in x3 8 ∧ (vp_in x2 8 ∧ ((((z_levels g) x3.toNatClampNeg x2.toNatClampNeg) ≤ x1 → (vSea_firstAbove_10 post K2 k_ x1 x2 (x3 + (1 : Int32)) g)) ∧ (¬ ((z_levels g) x3.toNatClampNeg x2.toNatClampNeg) ≤ x1 → post x2 g))))))
def vSea_firstAbove_2 (post : Int32 → GS → Prop) : Nat → Int32 → Int32 → GS → Prop
  | 0, _, _, _ => False
  | k_ + 1, x1, x2, g =>
  (((8 : Int32) ≤ x2 → post (8 : Int32) g) ∧ (¬ (8 : Int32) ≤ x2 → (∃ n_ : Nat, vSea_firstAbove_10 post (fun x1 x2 g => vSea_firstAbove_2 post k_ x1 x2 g) n_ x1 x2 (0 : Int32) g)))
def vSea_firstAbove (g : GS) (a1 : Int32) (post : Int32 → GS → Prop) : Prop :=
  (∃ n_ : Nat, vSea_firstAbove_2 post n_ a1 (0 : Int32) g)
set_option maxHeartbeats 4000000 in
set_option maxRecDepth 100000 in
theorem lSea_firstAbove_38 {Γ : jG} {l : Launch} {D : va_G} {ad : Nat → Nat} {cy : Nat → ClassId} {post : Int32 → GS → Prop} (hC : jC Γ l rSea_firstAbove D 4 RX6 cX6_firstAbove wsX6_firstAbove (tyS cy)) (hQ : jQi Γ D (wS ad cy) post (some .int) 0 0) {K2 : Int32 → Int32 → GS → Prop} (hK2 : ∀ (x1 : Int32) (x2 : Int32) (g : GS), K2 x1 x2 g → J Γ D 4 0 0 (wS ad cy g) 2 [(0, .ref (ad 5)), (1, .int x1), (2, .int x2)] []) : ∀ (x1 : Int32) (x2 : Int32) (g : GS), vSea_firstAbove_38 post K2 x1 x2 g → J Γ D 4 0 0 (wS ad cy g) 38 [(0, .ref (ad 5)), (1, .int x1), (2, .int x2)] [] := by
  have hinX6 : ∀ w ∈ wsX60, w ∈ wsX6_firstAbove := fun w h => List.mem_cons_of_mem _ (List.mem_append_right _ h)
  intro x1 x2 g hv
  unfold vSea_firstAbove_38 at hv
  refine j_iinc (k := 2) (v := (x2 + (1 : Int32))) (lv' := [(2, .int (x2 + (1 : Int32))), (0, .ref (ad 5)), (1, .int x1)]) hC dX6_firstAbove_38 rfl rfl (by decide) rfl ?_
  refine j_goto (tgt := 2) hC dX6_firstAbove_41 (by decide) ?_
  exact j_lv [1, 2, 0] rfl (hK2 _ _ _ hv)
set_option maxHeartbeats 4000000 in
set_option maxRecDepth 100000 in
theorem lSea_firstAbove_10 {Γ : jG} {l : Launch} {D : va_G} {ad : Nat → Nat} {cy : Nat → ClassId} {post : Int32 → GS → Prop} (hC : jC Γ l rSea_firstAbove D 4 RX6 cX6_firstAbove wsX6_firstAbove (tyS cy)) (hQ : jQi Γ D (wS ad cy) post (some .int) 0 0) {K2 : Int32 → Int32 → GS → Prop} (hK2 : ∀ (x1 : Int32) (x2 : Int32) (g : GS), K2 x1 x2 g → J Γ D 4 0 0 (wS ad cy g) 2 [(0, .ref (ad 5)), (1, .int x1), (2, .int x2)] []) : ∀ (n_ : Nat) (x1 : Int32) (x2 : Int32) (x3 : Int32) (g : GS), vSea_firstAbove_10 post K2 n_ x1 x2 x3 g → J Γ D 4 0 0 (wS ad cy g) 10 [(0, .ref (ad 5)), (1, .int x1), (2, .int x2), (3, .int x3)] [] := by
  have hinX6 : ∀ w ∈ wsX60, w ∈ wsX6_firstAbove := fun w h => List.mem_cons_of_mem _ (List.mem_append_right _ h)
  intro n_
  induction n_ with
  | zero => intro x1 x2 x3 g hv; exact False.elim hv
  | succ k_ ih =>
    intro x1 x2 x3 g hv
    unfold vSea_firstAbove_10 at hv
    refine j_iload_n (i := 3) hC dX6_firstAbove_10 rfl 3 rfl ?_
    refine j_aload_n (i := 0) hC dX6_firstAbove_11 rfl 0 rfl ?_
    refine j_get (C := RX6) (T := TX6) (N := 4) (v := .int (z_ssize g)) hC hinX6 5 (wS_c5 ad cy _) rfl 3 (by decide) (mw 1 rfl) rfl rfl dX6_firstAbove_12 ?_
    refine j_icmp_ge (tgt := 38) hC dX6_firstAbove_15 (by decide) (fun h_ => ?_) (fun h_ => ?_)
    · have hv := hv.1 h_
      exact j_lv [0, 1, 2] rfl (lSea_firstAbove_38 hC hQ hK2 _ _ _ hv)
    · have hv := hv.2 h_
      refine j_aload_n (i := 0) hC dX6_firstAbove_18 rfl 0 rfl ?_
      refine j_get (C := RX6) (T := TX6) (N := 4) (v := .ref (ad 7)) hC hinX6 5 (wS_c5 ad cy _) rfl 1 (by decide) (mw 2 rfl) rfl rfl dX6_firstAbove_19 ?_
      refine j_iload_n (i := 3) hC dX6_firstAbove_22 rfl 3 rfl ?_
      have hb23 := hv.1
      have hv := hv.2
      refine j_aald (v := .ref (ad (33 + x3.toNatClampNeg))) hC 7 3 (wS_c7 ad cy _) rfl rfl hb23 (jrow ad 33 (j := x3.toNatClampNeg) (jlt hb23)) dX6_firstAbove_23 ?_
      refine j_iload_n (i := 2) hC dX6_firstAbove_24 rfl 2 rfl ?_
      have hb25 := hv.1
      have hv := hv.2
      refine j_iald (v := ((z_levels g) x3.toNatClampNeg x2.toNatClampNeg)) hC _ 0 (wS_r_levels ad cy _ (jlt hb23)) rfl hb25 rfl dX6_firstAbove_25 ?_
      refine j_iload_n (i := 1) hC dX6_firstAbove_26 rfl 1 rfl ?_
      refine j_icmp_le (tgt := 32) hC dX6_firstAbove_27 (by decide) (fun h_ => ?_) (fun h_ => ?_)
      · have hv := hv.1 h_
        refine j_iinc (k := 3) (v := (x3 + (1 : Int32))) (lv' := [(3, .int (x3 + (1 : Int32))), (0, .ref (ad 5)), (1, .int x1), (2, .int x2)]) hC dX6_firstAbove_32 rfl rfl (by decide) rfl ?_
        refine j_goto (tgt := 10) hC dX6_firstAbove_35 (by decide) ?_
        exact j_lv [1, 2, 3, 0] rfl (ih _ _ _ _ hv)
      · have hv := hv.2 h_
        refine j_iload_n (i := 2) hC dX6_firstAbove_30 rfl 2 rfl ?_
        exact j_iret hC hQ dX6_firstAbove_31 rfl hv
set_option maxHeartbeats 4000000 in
set_option maxRecDepth 100000 in
theorem lSea_firstAbove_2 {Γ : jG} {l : Launch} {D : va_G} {ad : Nat → Nat} {cy : Nat → ClassId} {post : Int32 → GS → Prop} (hC : jC Γ l rSea_firstAbove D 4 RX6 cX6_firstAbove wsX6_firstAbove (tyS cy)) (hQ : jQi Γ D (wS ad cy) post (some .int) 0 0) : ∀ (n_ : Nat) (x1 : Int32) (x2 : Int32) (g : GS), vSea_firstAbove_2 post n_ x1 x2 g → J Γ D 4 0 0 (wS ad cy g) 2 [(0, .ref (ad 5)), (1, .int x1), (2, .int x2)] [] := by
  have hinX6 : ∀ w ∈ wsX60, w ∈ wsX6_firstAbove := fun w h => List.mem_cons_of_mem _ (List.mem_append_right _ h)
  intro n_
  induction n_ with
  | zero => intro x1 x2 g hv; exact False.elim hv
  | succ k_ ih =>
    intro x1 x2 g hv
    unfold vSea_firstAbove_2 at hv
    refine j_iload_n (i := 2) hC dX6_firstAbove_2 rfl 2 rfl ?_
    refine j_bipush (v := 8) hC dX6_firstAbove_3 (by decide) ?_
    refine j_icmp_ge (tgt := 44) hC dX6_firstAbove_5 (by decide) (fun h_ => ?_) (fun h_ => ?_)
    · have hv := hv.1 h_
      refine j_bipush (v := 8) hC dX6_firstAbove_44 (by decide) ?_
      exact j_iret hC hQ dX6_firstAbove_46 rfl hv
    · have hv := hv.2 h_
      refine j_iconst (v := 0) hC dX6_firstAbove_8 (by decide) ?_
      refine j_istore_n (i := 3) (lv' := [(3, .int (0 : Int32)), (0, .ref (ad 5)), (1, .int x1), (2, .int x2)]) hC dX6_firstAbove_9 rfl (by decide) rfl ?_
      obtain ⟨n_, hv⟩ := hv
      exact j_lv [1, 2, 3, 0] rfl (lSea_firstAbove_10 hC hQ (K2 := fun x1 x2 g => vSea_firstAbove_2 post k_ x1 x2 g) (fun _ _ _ h_ => ih _ _ _ h_) n_ _ _ _ _ hv)
set_option maxHeartbeats 4000000 in
set_option maxRecDepth 100000 in
theorem cSea_firstAbove {l : Launch} {D : va_G} {ad : Nat → Nat} {cy : Nat → ClassId} {g : GS} {a1 : Int32} {post : Int32 → GS → Prop} (hv : vSea_firstAbove g a1 post) : jMi l yX6_firstAbove wsX6_firstAbove rSea_firstAbove D (tyS cy) [.ref (ad 5), .int a1] (wS ad cy g) (wS ad cy) post 0 0 := by
  refine j_meti (cc := cX6_firstAbove) (nL := 4) (rt := (some .int)) (by decide) (Nat.le_of_ble_eq_true rfl) ?_
  intro Γ hC hQ _
  have hC : jC Γ l rSea_firstAbove D 4 RX6 cX6_firstAbove wsX6_firstAbove (tyS cy) := hC
  have hinX6 : ∀ w ∈ wsX60, w ∈ wsX6_firstAbove := fun w h => List.mem_cons_of_mem _ (List.mem_append_right _ h)
  refine j_lv (lv' := [(0, .ref (ad 5)), (1, .int a1)]) [0, 1] rfl ?_
  unfold vSea_firstAbove at hv
  refine j_iconst (v := 0) hC dX6_firstAbove_0 (by decide) ?_
  refine j_istore_n (i := 2) (lv' := [(2, .int (0 : Int32)), (0, .ref (ad 5)), (1, .int a1)]) hC dX6_firstAbove_1 rfl (by decide) rfl ?_
  obtain ⟨n_, hv⟩ := hv
  exact j_lv [1, 2, 0] rfl (lSea_firstAbove_2 hC hQ n_ _ _ _ hv)
theorem hdSG_alarm : yX11_alarm.cls = RX11 ∧ yX11_alarm.cls ≠ "java/lang/invoke/MethodHandle" ∧ yX11_alarm.cls ≠ "java/lang/invoke/VarHandle" ∧ (parseMethodDescriptor yX11_alarm.desc).map (fun d => d.parameters.length) = some 0 := by decide +kernel
abbrev rSG_alarm : Room := { frames := 1, cells := 0, slots := 0, locals := 23 }
def vSG_alarm (g : GS) (post : Int32 → GS → Prop) : Prop :=
  (vSea_firstAbove g ((z_rules g) 2) (fun r13 g13 => ((¬ r13 = (8 : Int32) → (((0 : Int32) ≤ (r13 - ((z_rules g13) 0)) → post (r13 - ((z_rules g13) 0)) g13) ∧ (¬ (0 : Int32) ≤ (r13 - ((z_rules g13) 0)) → post (-1000000 : Int32) g13))) ∧ (r13 = (8 : Int32) → post (8 : Int32) g13))))
set_option maxHeartbeats 4000000 in
set_option maxRecDepth 100000 in
theorem cSG_alarm {l : Launch} {D : va_G} {ad : Nat → Nat} {cy : Nat → ClassId} {g : GS} {post : Int32 → GS → Prop} (hv : vSG_alarm g post) : jMi l yX11_alarm wsX11_alarm rSG_alarm D (tyS cy) [.ref (ad 0)] (wS ad cy g) (wS ad cy) post 0 0 := by
  refine j_meti (cc := cX11_alarm) (nL := 3) (rt := (some .int)) (by decide) (Nat.le_of_ble_eq_true rfl) ?_
  intro Γ hC hQ _
  have hC : jC Γ l rSG_alarm D 3 RX11 cX11_alarm wsX11_alarm (tyS cy) := hC
  have hinX11 : ∀ w ∈ wsX110, w ∈ wsX11_alarm := fun w h => List.mem_cons_of_mem _ (List.mem_append_left _ (List.mem_append_left _ (List.mem_append_right _ h)))
  have hinX0 : ∀ w ∈ wsX00, w ∈ wsX11_alarm := fun w h => List.mem_cons_of_mem _ (List.mem_append_left _ (List.mem_append_right _ h))
  refine j_lv (lv' := [(0, .ref (ad 0))]) [0] rfl ?_
  unfold vSG_alarm at hv
  refine j_aload_n (i := 0) hC dX11_alarm_0 rfl 0 rfl ?_
  refine j_get (C := RX11) (T := TX11) (N := 8) (v := .ref (ad 5)) hC hinX11 0 (wS_c0 ad cy _) rfl 1 (by decide) (mw 1 rfl) rfl rfl dX11_alarm_1 ?_
  refine j_aload_n (i := 0) hC dX11_alarm_4 rfl 0 rfl ?_
  refine j_get (C := RX11) (T := TX11) (N := 8) (v := .ref (ad 9)) hC hinX11 0 (wS_c0 ad cy _) rfl 2 (by decide) (mw 2 rfl) rfl rfl dX11_alarm_5 ?_
  refine j_get (C := RX0) (T := TX0) (N := 3) (v := .ref (ad 10)) hC hinX0 9 (wS_c9 ad cy _) rfl 0 (by decide) (mw 3 rfl) rfl rfl dX11_alarm_8 ?_
  refine j_iconst (v := 2) hC dX11_alarm_11 (by decide) ?_
  refine j_iald (v := ((z_rules g) 2)) hC _ 0 (wS_c10 ad cy _) rfl (jin_lit (by decide)) rfl dX11_alarm_12 ?_
  refine j_callV_i (C := RX6) (As := [.int ((z_rules g) 2)]) (rest := []) (b := (ad 5)) hC (cSea_firstAbove hv) 1 gX11_alarm_X6_firstAbove rfl rfl rfl ⟨Nat.le_of_ble_eq_true rfl, Nat.le_of_ble_eq_true rfl⟩ hdSea_firstAbove rfl (wS_c5 ad cy _) rfl rfl (Nat.le_of_ble_eq_true rfl) ⟨Nat.zero_le _, Nat.zero_le _⟩ dX11_alarm_13 (fun r13 g13 hv => ?_)
  refine j_istore_n (i := 1) (lv' := [(1, .int r13), (0, .ref (ad 0))]) hC dX11_alarm_16 rfl (by decide) rfl ?_
  refine j_iload_n (i := 1) hC dX11_alarm_17 rfl 0 rfl ?_
  refine j_bipush (v := 8) hC dX11_alarm_18 (by decide) ?_
  refine j_icmp_ne (tgt := 26) hC dX11_alarm_20 (by decide) (fun h_ => ?_) (fun h_ => ?_)
  · have hv := hv.1 h_
    refine j_iload_n (i := 1) hC dX11_alarm_26 rfl 0 rfl ?_
    refine j_aload_n (i := 0) hC dX11_alarm_27 rfl 1 rfl ?_
    refine j_get (C := RX11) (T := TX11) (N := 8) (v := .ref (ad 9)) hC hinX11 0 (wS_c0 ad cy _) rfl 2 (by decide) (mw 2 rfl) rfl rfl dX11_alarm_28 ?_
    refine j_get (C := RX0) (T := TX0) (N := 3) (v := .ref (ad 10)) hC hinX0 9 (wS_c9 ad cy _) rfl 0 (by decide) (mw 3 rfl) rfl rfl dX11_alarm_31 ?_
    refine j_iconst (v := 0) hC dX11_alarm_34 (by decide) ?_
    refine j_iald (v := ((z_rules g13) 0)) hC _ 0 (wS_c10 ad cy _) rfl (jin_lit (by decide)) rfl dX11_alarm_35 ?_
    refine j_isub hC dX11_alarm_36 ?_
    refine j_istore_n (i := 2) (lv' := [(2, .int (r13 - ((z_rules g13) 0))), (1, .int r13), (0, .ref (ad 0))]) hC dX11_alarm_37 rfl (by decide) rfl ?_
    refine j_iload_n (i := 2) hC dX11_alarm_38 rfl 0 rfl ?_
    refine j_if_ge (tgt := 47) hC dX11_alarm_39 (by decide) (fun h_ => ?_) (fun h_ => ?_)
    · have hv := hv.1 h_
      refine j_iload_n (i := 2) hC dX11_alarm_47 rfl 0 rfl ?_
      exact j_iret hC hQ dX11_alarm_48 rfl hv
    · have hv := hv.2 h_
      refine j_ldc (v := -1000000) hC dX11_alarm_42 (mw 4 rfl) ?_
      refine j_goto (tgt := 48) hC dX11_alarm_44 (by decide) ?_
      exact j_iret hC hQ dX11_alarm_48 rfl hv
  · have hv := hv.2 h_
    refine j_bipush (v := 8) hC dX11_alarm_23 (by decide) ?_
    exact j_iret hC hQ dX11_alarm_25 rfl hv
theorem hdSea_groupsAt : yX6_groupsAt.cls = RX6 ∧ yX6_groupsAt.cls ≠ "java/lang/invoke/MethodHandle" ∧ yX6_groupsAt.cls ≠ "java/lang/invoke/VarHandle" ∧ (parseMethodDescriptor yX6_groupsAt.desc).map (fun d => d.parameters.length) = some 1 := by decide +kernel
abbrev rSea_groupsAt : Room := { frames := 0, cells := 0, slots := 0, locals := 0 }
def vSea_groupsAt_27 (post : Int32 → GS → Prop) (K4 : Int32 → Int32 → Int32 → GS → Prop) (x1 : Int32) (x2 : Int32) (x3 : Int32) (g : GS) : Prop :=
  (K4 x1 x2 (x3 + (1 : Int32)) g)
def vSea_groupsAt_4 (post : Int32 → GS → Prop) : Nat → Int32 → Int32 → Int32 → GS → Prop
  | 0, _, _, _, _ => False
  | k_ + 1, x1, x2, x3, g =>
  (((z_ssize g) ≤ x3 → post x2 g) ∧ (¬ (z_ssize g) ≤ x3 → (vp_in x1 8 ∧ (vp_in x3 8 ∧ ((¬ ((z_heads g) x1.toNatClampNeg x3.toNatClampNeg) = x3 → (vSea_groupsAt_27 post (fun x1 x2 x3 g => vSea_groupsAt_4 post k_ x1 x2 x3 g) x1 x2 x3 g)) ∧ (((z_heads g) x1.toNatClampNeg x3.toNatClampNeg) = x3 → (vSea_groupsAt_27 post (fun x1 x2 x3 g => vSea_groupsAt_4 post k_ x1 x2 x3 g) x1 (x2 + (1 : Int32)) x3 g)))))))
def vSea_groupsAt (g : GS) (a1 : Int32) (post : Int32 → GS → Prop) : Prop :=
  (∃ n_ : Nat, vSea_groupsAt_4 post n_ a1 (0 : Int32) (0 : Int32) g)
set_option maxHeartbeats 4000000 in
set_option maxRecDepth 100000 in
theorem lSea_groupsAt_27 {Γ : jG} {l : Launch} {D : va_G} {ad : Nat → Nat} {cy : Nat → ClassId} {post : Int32 → GS → Prop} (hC : jC Γ l rSea_groupsAt D 4 RX6 cX6_groupsAt wsX6_groupsAt (tyS cy)) (hQ : jQi Γ D (wS ad cy) post (some .int) 0 0) {K4 : Int32 → Int32 → Int32 → GS → Prop} (hK4 : ∀ (x1 : Int32) (x2 : Int32) (x3 : Int32) (g : GS), K4 x1 x2 x3 g → J Γ D 4 0 0 (wS ad cy g) 4 [(0, .ref (ad 5)), (1, .int x1), (2, .int x2), (3, .int x3)] []) : ∀ (x1 : Int32) (x2 : Int32) (x3 : Int32) (g : GS), vSea_groupsAt_27 post K4 x1 x2 x3 g → J Γ D 4 0 0 (wS ad cy g) 27 [(0, .ref (ad 5)), (1, .int x1), (2, .int x2), (3, .int x3)] [] := by
  have hinX6 : ∀ w ∈ wsX60, w ∈ wsX6_groupsAt := fun w h => List.mem_cons_of_mem _ (List.mem_append_right _ h)
  intro x1 x2 x3 g hv
  unfold vSea_groupsAt_27 at hv
  refine j_iinc (k := 3) (v := (x3 + (1 : Int32))) (lv' := [(3, .int (x3 + (1 : Int32))), (0, .ref (ad 5)), (1, .int x1), (2, .int x2)]) hC dX6_groupsAt_27 rfl rfl (by decide) rfl ?_
  refine j_goto (tgt := 4) hC dX6_groupsAt_30 (by decide) ?_
  exact j_lv [1, 2, 3, 0] rfl (hK4 _ _ _ _ hv)
set_option maxHeartbeats 4000000 in
set_option maxRecDepth 100000 in
theorem lSea_groupsAt_4 {Γ : jG} {l : Launch} {D : va_G} {ad : Nat → Nat} {cy : Nat → ClassId} {post : Int32 → GS → Prop} (hC : jC Γ l rSea_groupsAt D 4 RX6 cX6_groupsAt wsX6_groupsAt (tyS cy)) (hQ : jQi Γ D (wS ad cy) post (some .int) 0 0) : ∀ (n_ : Nat) (x1 : Int32) (x2 : Int32) (x3 : Int32) (g : GS), vSea_groupsAt_4 post n_ x1 x2 x3 g → J Γ D 4 0 0 (wS ad cy g) 4 [(0, .ref (ad 5)), (1, .int x1), (2, .int x2), (3, .int x3)] [] := by
  have hinX6 : ∀ w ∈ wsX60, w ∈ wsX6_groupsAt := fun w h => List.mem_cons_of_mem _ (List.mem_append_right _ h)
  intro n_
  induction n_ with
  | zero => intro x1 x2 x3 g hv; exact False.elim hv
  | succ k_ ih =>
    intro x1 x2 x3 g hv
    unfold vSea_groupsAt_4 at hv
    refine j_iload_n (i := 3) hC dX6_groupsAt_4 rfl 3 rfl ?_
    refine j_aload_n (i := 0) hC dX6_groupsAt_5 rfl 0 rfl ?_
    refine j_get (C := RX6) (T := TX6) (N := 4) (v := .int (z_ssize g)) hC hinX6 5 (wS_c5 ad cy _) rfl 3 (by decide) (mw 1 rfl) rfl rfl dX6_groupsAt_6 ?_
    refine j_icmp_ge (tgt := 33) hC dX6_groupsAt_9 (by decide) (fun h_ => ?_) (fun h_ => ?_)
    · have hv := hv.1 h_
      refine j_iload_n (i := 2) hC dX6_groupsAt_33 rfl 2 rfl ?_
      exact j_iret hC hQ dX6_groupsAt_34 rfl hv
    · have hv := hv.2 h_
      refine j_aload_n (i := 0) hC dX6_groupsAt_12 rfl 0 rfl ?_
      refine j_get (C := RX6) (T := TX6) (N := 4) (v := .ref (ad 8)) hC hinX6 5 (wS_c5 ad cy _) rfl 2 (by decide) (mw 2 rfl) rfl rfl dX6_groupsAt_13 ?_
      refine j_iload_n (i := 1) hC dX6_groupsAt_16 rfl 1 rfl ?_
      have hb17 := hv.1
      have hv := hv.2
      refine j_aald (v := .ref (ad (41 + x1.toNatClampNeg))) hC 8 3 (wS_c8 ad cy _) rfl rfl hb17 (jrow ad 41 (j := x1.toNatClampNeg) (jlt hb17)) dX6_groupsAt_17 ?_
      refine j_iload_n (i := 3) hC dX6_groupsAt_18 rfl 3 rfl ?_
      have hb19 := hv.1
      have hv := hv.2
      refine j_iald (v := ((z_heads g) x1.toNatClampNeg x3.toNatClampNeg)) hC _ 0 (wS_r_heads ad cy _ (jlt hb17)) rfl hb19 rfl dX6_groupsAt_19 ?_
      refine j_iload_n (i := 3) hC dX6_groupsAt_20 rfl 3 rfl ?_
      refine j_icmp_ne (tgt := 27) hC dX6_groupsAt_21 (by decide) (fun h_ => ?_) (fun h_ => ?_)
      · have hv := hv.1 h_
        exact j_lv [0, 1, 2, 3] rfl (lSea_groupsAt_27 hC hQ (K4 := fun x1 x2 x3 g => vSea_groupsAt_4 post k_ x1 x2 x3 g) (fun _ _ _ _ h_ => ih _ _ _ _ h_) _ _ _ _ hv)
      · have hv := hv.2 h_
        refine j_iinc (k := 2) (v := (x2 + (1 : Int32))) (lv' := [(2, .int (x2 + (1 : Int32))), (0, .ref (ad 5)), (1, .int x1), (3, .int x3)]) hC dX6_groupsAt_24 rfl rfl (by decide) rfl ?_
        exact j_lv [1, 2, 0, 3] rfl (lSea_groupsAt_27 hC hQ (K4 := fun x1 x2 x3 g => vSea_groupsAt_4 post k_ x1 x2 x3 g) (fun _ _ _ _ h_ => ih _ _ _ _ h_) _ _ _ _ hv)
set_option maxHeartbeats 4000000 in
set_option maxRecDepth 100000 in
theorem cSea_groupsAt {l : Launch} {D : va_G} {ad : Nat → Nat} {cy : Nat → ClassId} {g : GS} {a1 : Int32} {post : Int32 → GS → Prop} (hv : vSea_groupsAt g a1 post) : jMi l yX6_groupsAt wsX6_groupsAt rSea_groupsAt D (tyS cy) [.ref (ad 5), .int a1] (wS ad cy g) (wS ad cy) post 0 0 := by
  refine j_meti (cc := cX6_groupsAt) (nL := 4) (rt := (some .int)) (by decide) (Nat.le_of_ble_eq_true rfl) ?_
  intro Γ hC hQ _
  have hC : jC Γ l rSea_groupsAt D 4 RX6 cX6_groupsAt wsX6_groupsAt (tyS cy) := hC
  have hinX6 : ∀ w ∈ wsX60, w ∈ wsX6_groupsAt := fun w h => List.mem_cons_of_mem _ (List.mem_append_right _ h)
  refine j_lv (lv' := [(0, .ref (ad 5)), (1, .int a1)]) [0, 1] rfl ?_
  unfold vSea_groupsAt at hv
  refine j_iconst (v := 0) hC dX6_groupsAt_0 (by decide) ?_
  refine j_istore_n (i := 2) (lv' := [(2, .int (0 : Int32)), (0, .ref (ad 5)), (1, .int a1)]) hC dX6_groupsAt_1 rfl (by decide) rfl ?_
  refine j_iconst (v := 0) hC dX6_groupsAt_2 (by decide) ?_
  refine j_istore_n (i := 3) (lv' := [(3, .int (0 : Int32)), (2, .int (0 : Int32)), (0, .ref (ad 5)), (1, .int a1)]) hC dX6_groupsAt_3 rfl (by decide) rfl ?_
  obtain ⟨n_, hv⟩ := hv
  exact j_lv [2, 3, 1, 0] rfl (lSea_groupsAt_4 hC hQ n_ _ _ _ _ hv)
theorem hdSG_groups : yX11_groups.cls = RX11 ∧ yX11_groups.cls ≠ "java/lang/invoke/MethodHandle" ∧ yX11_groups.cls ≠ "java/lang/invoke/VarHandle" ∧ (parseMethodDescriptor yX11_groups.desc).map (fun d => d.parameters.length) = some 1 := by decide +kernel
abbrev rSG_groups : Room := { frames := 1, cells := 0, slots := 0, locals := 23 }
def vSG_groups (g : GS) (a1 : Int32) (post : Int32 → GS → Prop) : Prop :=
  (vSG_within g a1 (0 : Int32) (7 : Int32) (fun r4 g4 => ((r4 = (0 : Int32) → post (-1000001 : Int32) g4) ∧ (¬ r4 = (0 : Int32) → (vSea_groupsAt g4 a1 (fun r15 g15 => post r15 g15))))))
set_option maxHeartbeats 4000000 in
set_option maxRecDepth 100000 in
theorem cSG_groups {l : Launch} {D : va_G} {ad : Nat → Nat} {cy : Nat → ClassId} {g : GS} {a1 : Int32} {post : Int32 → GS → Prop} (hv : vSG_groups g a1 post) : jMi l yX11_groups wsX11_groups rSG_groups D (tyS cy) [.ref (ad 0), .int a1] (wS ad cy g) (wS ad cy) post 0 0 := by
  refine j_meti (cc := cX11_groups) (nL := 2) (rt := (some .int)) (by decide) (Nat.le_of_ble_eq_true rfl) ?_
  intro Γ hC hQ _
  have hC : jC Γ l rSG_groups D 2 RX11 cX11_groups wsX11_groups (tyS cy) := hC
  have hinX11 : ∀ w ∈ wsX110, w ∈ wsX11_groups := fun w h => List.mem_cons_of_mem _ (List.mem_append_left _ (List.mem_append_right _ h))
  refine j_lv (lv' := [(0, .ref (ad 0)), (1, .int a1)]) [0, 1] rfl ?_
  unfold vSG_groups at hv
  refine j_iload_n (i := 1) hC dX11_groups_0 rfl 1 rfl ?_
  refine j_iconst (v := 0) hC dX11_groups_1 (by decide) ?_
  refine j_bipush (v := 7) hC dX11_groups_2 (by decide) ?_
  refine j_callS_i (As := [.int a1, .int (0 : Int32), .int (7 : Int32)]) (rest := []) hC (cSG_within hv) 3 gX11_groups_X11_within rfl rfl rfl ⟨Nat.le_of_ble_eq_true rfl, Nat.le_of_ble_eq_true rfl⟩ hdSG_within.2 rfl rfl (Nat.le_of_ble_eq_true rfl) ⟨Nat.zero_le _, Nat.zero_le _⟩ dX11_groups_4 (fun r4 g4 hv => ?_)
  refine j_if_eq (tgt := 21) hC dX11_groups_7 (by decide) (fun h_ => ?_) (fun h_ => ?_)
  · have hv := hv.1 h_
    refine j_ldc (v := -1000001) hC dX11_groups_21 (mw 2 rfl) ?_
    exact j_iret hC hQ dX11_groups_23 rfl hv
  · have hv := hv.2 h_
    refine j_aload_n (i := 0) hC dX11_groups_10 rfl 0 rfl ?_
    refine j_get (C := RX11) (T := TX11) (N := 8) (v := .ref (ad 5)) hC hinX11 0 (wS_c0 ad cy _) rfl 1 (by decide) (mw 1 rfl) rfl rfl dX11_groups_11 ?_
    refine j_iload_n (i := 1) hC dX11_groups_14 rfl 1 rfl ?_
    refine j_callV_i (C := RX6) (As := [.int a1]) (rest := []) (b := (ad 5)) hC (cSea_groupsAt hv) 1 gX11_groups_X6_groupsAt rfl rfl rfl ⟨Nat.le_of_ble_eq_true rfl, Nat.le_of_ble_eq_true rfl⟩ hdSea_groupsAt rfl (wS_c5 ad cy _) rfl rfl (Nat.le_of_ble_eq_true rfl) ⟨Nat.zero_le _, Nat.zero_le _⟩ dX11_groups_15 (fun r15 g15 hv => ?_)
    refine j_goto (tgt := 23) hC dX11_groups_18 (by decide) ?_
    exact j_iret hC hQ dX11_groups_23 rfl hv
theorem hdRow_at : yX5_at.cls = RX5 ∧ yX5_at.cls ≠ "java/lang/invoke/MethodHandle" ∧ yX5_at.cls ≠ "java/lang/invoke/VarHandle" ∧ (parseMethodDescriptor yX5_at.desc).map (fun d => d.parameters.length) = some 1 := by decide +kernel
abbrev rRow_at : Room := { frames := 1, cells := 0, slots := 0, locals := 22 }
def vRow_at (g : GS) (a1 : Int32) (post : Option Nat → GS → Prop) : Prop :=
  (vSG_within g a1 (0 : Int32) ((z_rsize g) - (1 : Int32)) (fun r8 g8 => ((r8 = (0 : Int32) → post none g8) ∧ (¬ r8 = (0 : Int32) → (vp_in a1 6 ∧ ((((z_ga g8) a1.toNatClampNeg) = none → post none g8) ∧ (∀ k19 : Nat, ((z_ga g8) a1.toNatClampNeg) = some k19 → post (some k19) g8)))))))
set_option maxHeartbeats 4000000 in
set_option maxRecDepth 100000 in
theorem cRow_at {l : Launch} {D : va_G} {ad : Nat → Nat} {cy : Nat → ClassId} {g : GS} {a1 : Int32} {post : Option Nat → GS → Prop} (hv : vRow_at g a1 post) : jMq l yX5_at wsX5_at rRow_at D (tyS cy) [.ref (ad 16), .int a1] (wS ad cy g) (wS ad cy) (fun (r : Option Nat) (u : GS) => ∃ o : Option Nat, r = o.map (fun k => ad (73 + k)) ∧ post o u) 0 0 := by
  refine j_metq (cc := cX5_at) (nL := 2) (rt := (some (.object "SeaGates$Gate"))) (by decide) (Nat.le_of_ble_eq_true rfl) ?_
  intro Γ hC hQ _
  have hC : jC Γ l rRow_at D 2 RX5 cX5_at wsX5_at (tyS cy) := hC
  have hinX5 : ∀ w ∈ wsX50, w ∈ wsX5_at := fun w h => List.mem_cons_of_mem _ (List.mem_append_right _ h)
  refine j_lv (lv' := [(0, .ref (ad 16)), (1, .int a1)]) [0, 1] rfl ?_
  unfold vRow_at at hv
  refine j_iload_n (i := 1) hC dX5_at_0 rfl 1 rfl ?_
  refine j_iconst (v := 0) hC dX5_at_1 (by decide) ?_
  refine j_aload_n (i := 0) hC dX5_at_2 rfl 0 rfl ?_
  refine j_get (C := RX5) (T := TX5) (N := 3) (v := .int (z_rsize g)) hC hinX5 16 (wS_c16 ad cy _) rfl 2 (by decide) (mw 1 rfl) rfl rfl dX5_at_3 ?_
  refine j_iconst (v := 1) hC dX5_at_6 (by decide) ?_
  refine j_isub hC dX5_at_7 ?_
  refine j_callSN_i (As := [.int a1, .int (0 : Int32), .int ((z_rsize g) - (1 : Int32))]) (rest := []) (host := RX11) hC (cSG_within hv) 3 gX5_at_X11_within_n25 rfl rfl rfl ⟨Nat.le_of_ble_eq_true rfl, Nat.le_of_ble_eq_true rfl⟩ (mw 4 rfl) (mw 4 rfl) (mw 3 rfl) hdSG_within.2 rfl rfl (Nat.le_of_ble_eq_true rfl) ⟨Nat.zero_le _, Nat.zero_le _⟩ dX5_at_8 (fun r8 g8 hv => ?_)
  refine j_if_eq (tgt := 23) hC dX5_at_11 (by decide) (fun h_ => ?_) (fun h_ => ?_)
  · have hv := hv.1 h_
    refine j_null hC dX5_at_23 ?_
    exact j_qret (v := none) hC hQ dX5_at_24 rfl ⟨none, rfl, hv⟩
  · have hv := hv.2 h_
    refine j_aload_n (i := 0) hC dX5_at_14 rfl 0 rfl ?_
    refine j_get (C := RX5) (T := TX5) (N := 3) (v := .ref (ad 17)) hC hinX5 16 (wS_c16 ad cy _) rfl 0 (by decide) (mw 2 rfl) rfl rfl dX5_at_15 ?_
    refine j_iload_n (i := 1) hC dX5_at_18 rfl 1 rfl ?_
    have hb19 := hv.1
    have hv := hv.2
    refine j_aald (v := va_rf (((z_ga g8) a1.toNatClampNeg).map (fun k => ad (73 + k)))) hC 17 2 (wS_c17 ad cy _) rfl rfl hb19 rfl dX5_at_19 ?_
    cases ho_ : ((z_ga g8) a1.toNatClampNeg) with
    | none =>
      have hv := hv.1 ho_
      refine j_goto (tgt := 24) hC dX5_at_20 (by decide) ?_
      exact j_qret (v := none) hC hQ dX5_at_24 rfl ⟨none, rfl, hv⟩
    | some k19 =>
      have hv := hv.2 k19 ho_
      refine j_goto (tgt := 24) hC dX5_at_20 (by decide) ?_
      exact j_qret (v := some (ad (73 + k19))) hC hQ dX5_at_24 rfl ⟨some k19, rfl, hv⟩
theorem hdSG_becomes : yX11_becomes.cls = RX11 ∧ yX11_becomes.cls ≠ "java/lang/invoke/MethodHandle" ∧ yX11_becomes.cls ≠ "java/lang/invoke/VarHandle" ∧ (parseMethodDescriptor yX11_becomes.desc).map (fun d => d.parameters.length) = some 2 := by decide +kernel
abbrev rSG_becomes : Room := { frames := 2, cells := 0, slots := 0, locals := 43 }
def vSG_becomes_29 (post : Int32 → GS → Prop) (x2 : Int32) (x3 : Nat) (t0 : Int32) (g : GS) : Prop :=
  (x3 < z_gn g ∧ (jz x2 ∧ post t0 (sz_gf g (upd (z_gf g) x3 x2))))
def vSG_becomes (g : GS) (a1 : Int32) (a2 : Int32) (post : Int32 → GS → Prop) : Prop :=
  (vRow_at g a1 (fun r5 g5 => ((r5 = none → post (-1000001 : Int32) g5) ∧ (∀ k5 : Nat, r5 = some k5 → (k5 < z_gn g5 ∧ ((¬ ((z_gf g5) k5) = a2 → (vSG_becomes_29 post a2 k5 (1 : Int32) g5)) ∧ (((z_gf g5) k5) = a2 → (vSG_becomes_29 post a2 k5 (0 : Int32) g5))))))))
set_option maxHeartbeats 4000000 in
set_option maxRecDepth 100000 in
theorem lSG_becomes_29 {Γ : jG} {l : Launch} {D : va_G} {ad : Nat → Nat} {cy : Nat → ClassId} {post : Int32 → GS → Prop} (hC : jC Γ l rSG_becomes D 5 RX11 cX11_becomes wsX11_becomes (tyS cy)) (hQ : jQi Γ D (wS ad cy) post (some .int) 0 0) : ∀ (x2 : Int32) (x3 : Nat) (t0 : Int32) (g : GS), vSG_becomes_29 post x2 x3 t0 g → J Γ D 5 0 0 (wS ad cy g) 29 [(2, .int x2), (3, .ref (ad (73 + x3)))] [.int t0] := by
  have hinX11 : ∀ w ∈ wsX110, w ∈ wsX11_becomes := fun w h => List.mem_cons_of_mem _ (List.mem_append_left _ (List.mem_append_left _ (List.mem_append_left _ (List.mem_append_left _ (List.mem_append_left _ (List.mem_append_right _ h))))))
  have hinX2 : ∀ w ∈ wsX20, w ∈ wsX11_becomes := fun w h => List.mem_cons_of_mem _ (List.mem_append_left _ (List.mem_append_left _ (List.mem_append_left _ (List.mem_append_left _ (List.mem_append_right _ h)))))
  have hinX3 : ∀ w ∈ wsX30, w ∈ wsX11_becomes := fun w h => List.mem_cons_of_mem _ (List.mem_append_left _ (List.mem_append_left _ (List.mem_append_left _ (List.mem_append_right _ h))))
  have hinX8 : ∀ w ∈ wsX80, w ∈ wsX11_becomes := fun w h => List.mem_cons_of_mem _ (List.mem_append_left _ (List.mem_append_left _ (List.mem_append_right _ h)))
  have hinX10 : ∀ w ∈ wsX100, w ∈ wsX11_becomes := fun w h => List.mem_cons_of_mem _ (List.mem_append_left _ (List.mem_append_right _ h))
  intro x2 x3 t0 g hv
  unfold vSG_becomes_29 at hv
  have hkx3 := hv.1
  have hv := hv.2
  refine j_istore (lv' := [(4, .int t0), (2, .int x2), (3, .ref (ad (73 + x3)))]) hC dX11_becomes_29 (by decide) rfl ?_
  refine j_aload_n (i := 3) hC dX11_becomes_31 rfl 2 rfl ?_
  refine j_iload_n (i := 2) hC dX11_becomes_32 rfl 1 rfl ?_
  have hz33 := hv.1
  have hv := hv.2
  refine j_putG hC hinX2 hinX3 hinX8 hinX10 hkx3 hz33 (mw 3 rfl) dX11_becomes_33 ?_
  refine j_iload hC dX11_becomes_36 0 rfl ?_
  exact j_iret hC hQ dX11_becomes_38 rfl hv
set_option maxHeartbeats 4000000 in
set_option maxRecDepth 100000 in
theorem cSG_becomes {l : Launch} {D : va_G} {ad : Nat → Nat} {cy : Nat → ClassId} {g : GS} {a1 : Int32} {a2 : Int32} {post : Int32 → GS → Prop} (hv : vSG_becomes g a1 a2 post) : jMi l yX11_becomes wsX11_becomes rSG_becomes D (tyS cy) [.ref (ad 0), .int a1, .int a2] (wS ad cy g) (wS ad cy) post 0 0 := by
  refine j_meti (cc := cX11_becomes) (nL := 5) (rt := (some .int)) (by decide) (Nat.le_of_ble_eq_true rfl) ?_
  intro Γ hC hQ _
  have hC : jC Γ l rSG_becomes D 5 RX11 cX11_becomes wsX11_becomes (tyS cy) := hC
  have hinX11 : ∀ w ∈ wsX110, w ∈ wsX11_becomes := fun w h => List.mem_cons_of_mem _ (List.mem_append_left _ (List.mem_append_left _ (List.mem_append_left _ (List.mem_append_left _ (List.mem_append_left _ (List.mem_append_right _ h))))))
  have hinX2 : ∀ w ∈ wsX20, w ∈ wsX11_becomes := fun w h => List.mem_cons_of_mem _ (List.mem_append_left _ (List.mem_append_left _ (List.mem_append_left _ (List.mem_append_left _ (List.mem_append_right _ h)))))
  have hinX3 : ∀ w ∈ wsX30, w ∈ wsX11_becomes := fun w h => List.mem_cons_of_mem _ (List.mem_append_left _ (List.mem_append_left _ (List.mem_append_left _ (List.mem_append_right _ h))))
  have hinX8 : ∀ w ∈ wsX80, w ∈ wsX11_becomes := fun w h => List.mem_cons_of_mem _ (List.mem_append_left _ (List.mem_append_left _ (List.mem_append_right _ h)))
  have hinX10 : ∀ w ∈ wsX100, w ∈ wsX11_becomes := fun w h => List.mem_cons_of_mem _ (List.mem_append_left _ (List.mem_append_right _ h))
  refine j_lv (lv' := [(0, .ref (ad 0)), (1, .int a1), (2, .int a2)]) [0, 1, 2] rfl ?_
  unfold vSG_becomes at hv
  refine j_aload_n (i := 0) hC dX11_becomes_0 rfl 0 rfl ?_
  refine j_get (C := RX11) (T := TX11) (N := 8) (v := .ref (ad 16)) hC hinX11 0 (wS_c0 ad cy _) rfl 4 (by decide) (mw 1 rfl) rfl rfl dX11_becomes_1 ?_
  refine j_iload_n (i := 1) hC dX11_becomes_4 rfl 1 rfl ?_
  refine j_callV_q (C := RX5) (As := [.int a1]) (rest := []) (b := (ad 16)) hC (cRow_at hv) 1 gX11_becomes_X5_at rfl rfl rfl ⟨Nat.le_of_ble_eq_true rfl, Nat.le_of_ble_eq_true rfl⟩ hdRow_at rfl (wS_c16 ad cy _) rfl rfl (Nat.le_of_ble_eq_true rfl) ⟨Nat.zero_le _, Nat.zero_le _⟩ dX11_becomes_5 (fun r5 g5 hv => ?_)
  obtain ⟨o_, rfl, hv⟩ := hv
  cases o_ with
  | none =>
    have hv := hv.1 rfl
    refine j_astore_nN (i := 3) (lv' := [(3, .null), (0, .ref (ad 0)), (1, .int a1), (2, .int a2)]) hC dX11_becomes_8 rfl (by decide) rfl ?_
    refine j_aload_nN (i := 3) hC dX11_becomes_9 rfl 0 rfl ?_
    refine j_ifnonnullN hC dX11_becomes_10 ?_
    refine j_ldc (v := -1000001) hC dX11_becomes_13 (mw 2 rfl) ?_
    exact j_iret hC hQ dX11_becomes_15 rfl hv
  | some k5 =>
    have hv := hv.2 k5 rfl
    refine j_astore_n (i := 3) (lv' := [(3, .ref (ad (73 + k5))), (0, .ref (ad 0)), (1, .int a1), (2, .int a2)]) hC dX11_becomes_8 rfl (by decide) rfl ?_
    refine j_aload_n (i := 3) hC dX11_becomes_9 rfl 0 rfl ?_
    refine j_ifnonnull (tgt := 16) hC dX11_becomes_10 (by decide) ?_
    refine j_aload_n (i := 3) hC dX11_becomes_16 rfl 0 rfl ?_
    have hk17 := hv.1
    have hv := hv.2
    refine j_getG2 (v := .int ((z_gf g5) k5)) hC hinX2 hinX3 hinX8 hinX10 hk17 (mw 3 rfl) (Or.inl rfl) rfl dX11_becomes_17 ?_
    refine j_iload_n (i := 2) hC dX11_becomes_20 rfl 3 rfl ?_
    refine j_icmp_ne (tgt := 28) hC dX11_becomes_21 (by decide) (fun h_ => ?_) (fun h_ => ?_)
    · have hv := hv.1 h_
      refine j_iconst (v := 1) hC dX11_becomes_28 (by decide) ?_
      exact j_lv [3, 0] rfl (lSG_becomes_29 hC hQ _ _ _ _ hv)
    · have hv := hv.2 h_
      refine j_iconst (v := 0) hC dX11_becomes_24 (by decide) ?_
      refine j_goto (tgt := 29) hC dX11_becomes_25 (by decide) ?_
      exact j_lv [3, 0] rfl (lSG_becomes_29 hC hQ _ _ _ _ hv)
theorem hdSG_fail : yX11_fail.cls = RX11 ∧ yX11_fail.cls ≠ "java/lang/invoke/MethodHandle" ∧ yX11_fail.cls ≠ "java/lang/invoke/VarHandle" ∧ (parseMethodDescriptor yX11_fail.desc).map (fun d => d.parameters.length) = some 1 := by decide +kernel
abbrev rSG_fail : Room := { frames := 3, cells := 0, slots := 0, locals := 67 }
def vSG_fail (g : GS) (a1 : Int32) (post : Int32 → GS → Prop) : Prop :=
  (vSG_becomes g a1 (1 : Int32) (fun r3 g3 => post r3 g3))
set_option maxHeartbeats 4000000 in
set_option maxRecDepth 100000 in
theorem cSG_fail {l : Launch} {D : va_G} {ad : Nat → Nat} {cy : Nat → ClassId} {g : GS} {a1 : Int32} {post : Int32 → GS → Prop} (hv : vSG_fail g a1 post) : jMi l yX11_fail wsX11_fail rSG_fail D (tyS cy) [.ref (ad 0), .int a1] (wS ad cy g) (wS ad cy) post 0 0 := by
  refine j_meti (cc := cX11_fail) (nL := 2) (rt := (some .int)) (by decide) (Nat.le_of_ble_eq_true rfl) ?_
  intro Γ hC hQ _
  have hC : jC Γ l rSG_fail D 2 RX11 cX11_fail wsX11_fail (tyS cy) := hC
  refine j_lv (lv' := [(0, .ref (ad 0)), (1, .int a1)]) [0, 1] rfl ?_
  unfold vSG_fail at hv
  refine j_aload_n (i := 0) hC dX11_fail_0 rfl 0 rfl ?_
  refine j_iload_n (i := 1) hC dX11_fail_1 rfl 1 rfl ?_
  refine j_iconst (v := 1) hC dX11_fail_2 (by decide) ?_
  refine j_callV_i (C := RX11) (As := [.int a1, .int (1 : Int32)]) (rest := []) (b := (ad 0)) hC (cSG_becomes hv) 2 gX11_fail_X11_becomes rfl rfl rfl ⟨Nat.le_of_ble_eq_true rfl, Nat.le_of_ble_eq_true rfl⟩ hdSG_becomes rfl (wS_c0 ad cy _) rfl rfl (Nat.le_of_ble_eq_true rfl) ⟨Nat.zero_le _, Nat.zero_le _⟩ dX11_fail_3 (fun r3 g3 hv => ?_)
  exact j_iret hC hQ dX11_fail_6 rfl hv
theorem hdSG_mend : yX11_mend.cls = RX11 ∧ yX11_mend.cls ≠ "java/lang/invoke/MethodHandle" ∧ yX11_mend.cls ≠ "java/lang/invoke/VarHandle" ∧ (parseMethodDescriptor yX11_mend.desc).map (fun d => d.parameters.length) = some 1 := by decide +kernel
abbrev rSG_mend : Room := { frames := 3, cells := 0, slots := 0, locals := 67 }
def vSG_mend (g : GS) (a1 : Int32) (post : Int32 → GS → Prop) : Prop :=
  (vSG_becomes g a1 (0 : Int32) (fun r3 g3 => post r3 g3))
set_option maxHeartbeats 4000000 in
set_option maxRecDepth 100000 in
theorem cSG_mend {l : Launch} {D : va_G} {ad : Nat → Nat} {cy : Nat → ClassId} {g : GS} {a1 : Int32} {post : Int32 → GS → Prop} (hv : vSG_mend g a1 post) : jMi l yX11_mend wsX11_mend rSG_mend D (tyS cy) [.ref (ad 0), .int a1] (wS ad cy g) (wS ad cy) post 0 0 := by
  refine j_meti (cc := cX11_mend) (nL := 2) (rt := (some .int)) (by decide) (Nat.le_of_ble_eq_true rfl) ?_
  intro Γ hC hQ _
  have hC : jC Γ l rSG_mend D 2 RX11 cX11_mend wsX11_mend (tyS cy) := hC
  refine j_lv (lv' := [(0, .ref (ad 0)), (1, .int a1)]) [0, 1] rfl ?_
  unfold vSG_mend at hv
  refine j_aload_n (i := 0) hC dX11_mend_0 rfl 0 rfl ?_
  refine j_iload_n (i := 1) hC dX11_mend_1 rfl 1 rfl ?_
  refine j_iconst (v := 0) hC dX11_mend_2 (by decide) ?_
  refine j_callV_i (C := RX11) (As := [.int a1, .int (0 : Int32)]) (rest := []) (b := (ad 0)) hC (cSG_becomes hv) 2 gX11_mend_X11_becomes rfl rfl rfl ⟨Nat.le_of_ble_eq_true rfl, Nat.le_of_ble_eq_true rfl⟩ hdSG_becomes rfl (wS_c0 ad cy _) rfl rfl (Nat.le_of_ble_eq_true rfl) ⟨Nat.zero_le _, Nat.zero_le _⟩ dX11_mend_3 (fun r3 g3 hv => ?_)
  exact j_iret hC hQ dX11_mend_6 rfl hv
theorem hdRow_endByHand : yX5_endByHand.cls = RX5 ∧ yX5_endByHand.cls ≠ "java/lang/invoke/MethodHandle" ∧ yX5_endByHand.cls ≠ "java/lang/invoke/VarHandle" ∧ (parseMethodDescriptor yX5_endByHand.desc).map (fun d => d.parameters.length) = some 2 := by decide +kernel
abbrev rRow_endByHand : Room := { frames := 0, cells := 0, slots := 0, locals := 0 }
def vRow_endByHand_30 (post : Int32 → GS → Prop) (K5 : Int32 → Int32 → Int32 → Int32 → GS → Prop) (x1 : Int32) (x2 : Int32) (x3 : Int32) (x4 : Int32) (g : GS) : Prop :=
  (K5 x1 x2 x3 (x4 + (1 : Int32)) g)
def vRow_endByHand_36 (post : Int32 → GS → Prop) (x2 : Int32) (x3 : Int32) (g : GS) : Prop :=
  (vp_in x3 3 ∧ (vp_in x3 3 ∧ (vp_in x3 3 ∧ post ((upd (z_free g) x3.toNatClampNeg (((z_free g) x3.toNatClampNeg) + x2)) x3.toNatClampNeg) (sz_free g (upd (z_free g) x3.toNatClampNeg (((z_free g) x3.toNatClampNeg) + x2))))))
def vRow_endByHand_5 (post : Int32 → GS → Prop) : Nat → Int32 → Int32 → Int32 → Int32 → GS → Prop
  | 0, _, _, _, _, _ => False
  | k_ + 1, x1, x2, x3, x4, g =>
  ((x1 ≤ x4 → (vRow_endByHand_36 post x2 x3 g)) ∧ (¬ x1 ≤ x4 → (vp_in x4 3 ∧ (vp_in x3 3 ∧ ((((z_free g) x3.toNatClampNeg) ≤ ((z_free g) x4.toNatClampNeg) → (vRow_endByHand_30 post (fun x1 x2 x3 x4 g => vRow_endByHand_5 post k_ x1 x2 x3 x4 g) x1 x2 x3 x4 g)) ∧ (¬ ((z_free g) x3.toNatClampNeg) ≤ ((z_free g) x4.toNatClampNeg) → (vRow_endByHand_30 post (fun x1 x2 x3 x4 g => vRow_endByHand_5 post k_ x1 x2 x3 x4 g) x1 x2 x4 x4 g)))))))
def vRow_endByHand (g : GS) (a1 : Int32) (a2 : Int32) (post : Int32 → GS → Prop) : Prop :=
  (∃ n_ : Nat, vRow_endByHand_5 post n_ a1 a2 (0 : Int32) (1 : Int32) g)
set_option maxHeartbeats 4000000 in
set_option maxRecDepth 100000 in
theorem lRow_endByHand_30 {Γ : jG} {l : Launch} {D : va_G} {ad : Nat → Nat} {cy : Nat → ClassId} {post : Int32 → GS → Prop} (hC : jC Γ l rRow_endByHand D 5 RX5 cX5_endByHand wsX5_endByHand (tyS cy)) (hQ : jQi Γ D (wS ad cy) post (some .int) 0 0) {K5 : Int32 → Int32 → Int32 → Int32 → GS → Prop} (hK5 : ∀ (x1 : Int32) (x2 : Int32) (x3 : Int32) (x4 : Int32) (g : GS), K5 x1 x2 x3 x4 g → J Γ D 5 0 0 (wS ad cy g) 5 [(0, .ref (ad 16)), (1, .int x1), (2, .int x2), (3, .int x3), (4, .int x4)] []) : ∀ (x1 : Int32) (x2 : Int32) (x3 : Int32) (x4 : Int32) (g : GS), vRow_endByHand_30 post K5 x1 x2 x3 x4 g → J Γ D 5 0 0 (wS ad cy g) 30 [(0, .ref (ad 16)), (1, .int x1), (2, .int x2), (3, .int x3), (4, .int x4)] [] := by
  have hinX5 : ∀ w ∈ wsX50, w ∈ wsX5_endByHand := fun w h => List.mem_cons_of_mem _ (List.mem_append_right _ h)
  intro x1 x2 x3 x4 g hv
  unfold vRow_endByHand_30 at hv
  refine j_iinc (k := 4) (v := (x4 + (1 : Int32))) (lv' := [(4, .int (x4 + (1 : Int32))), (0, .ref (ad 16)), (1, .int x1), (2, .int x2), (3, .int x3)]) hC dX5_endByHand_30 rfl rfl (by decide) rfl ?_
  refine j_goto (tgt := 5) hC dX5_endByHand_33 (by decide) ?_
  exact j_lv [1, 2, 3, 4, 0] rfl (hK5 _ _ _ _ _ hv)
set_option maxHeartbeats 4000000 in
set_option maxRecDepth 100000 in
theorem lRow_endByHand_36 {Γ : jG} {l : Launch} {D : va_G} {ad : Nat → Nat} {cy : Nat → ClassId} {post : Int32 → GS → Prop} (hC : jC Γ l rRow_endByHand D 5 RX5 cX5_endByHand wsX5_endByHand (tyS cy)) (hQ : jQi Γ D (wS ad cy) post (some .int) 0 0) : ∀ (x2 : Int32) (x3 : Int32) (g : GS), vRow_endByHand_36 post x2 x3 g → J Γ D 5 0 0 (wS ad cy g) 36 [(0, .ref (ad 16)), (2, .int x2), (3, .int x3)] [] := by
  have hinX5 : ∀ w ∈ wsX50, w ∈ wsX5_endByHand := fun w h => List.mem_cons_of_mem _ (List.mem_append_right _ h)
  intro x2 x3 g hv
  unfold vRow_endByHand_36 at hv
  refine j_aload_n (i := 0) hC dX5_endByHand_36 rfl 0 rfl ?_
  refine j_get (C := RX5) (T := TX5) (N := 3) (v := .ref (ad 18)) hC hinX5 16 (wS_c16 ad cy _) rfl 1 (by decide) (mw 1 rfl) rfl rfl dX5_endByHand_37 ?_
  refine j_iload_n (i := 3) hC dX5_endByHand_40 rfl 2 rfl ?_
  refine j_dup2_11 hC dX5_endByHand_41 rfl rfl ?_
  have hb42 := hv.1
  have hv := hv.2
  refine j_iald (v := ((z_free g) x3.toNatClampNeg)) hC _ 0 (wS_c18 ad cy _) rfl hb42 rfl dX5_endByHand_42 ?_
  refine j_iload_n (i := 2) hC dX5_endByHand_43 rfl 1 rfl ?_
  refine j_iadd hC dX5_endByHand_44 ?_
  have hb45 := hv.1
  have hv := hv.2
  refine j_iast hC _ 0 (wS_c18 ad cy _) rfl hb45 (wS_s_free ad cy _ _) dX5_endByHand_45 ?_
  refine j_aload_n (i := 0) hC dX5_endByHand_46 rfl 0 rfl ?_
  refine j_get (C := RX5) (T := TX5) (N := 3) (v := .ref (ad 18)) hC hinX5 16 (wS_c16 ad cy _) rfl 1 (by decide) (mw 1 rfl) rfl rfl dX5_endByHand_47 ?_
  refine j_iload_n (i := 3) hC dX5_endByHand_50 rfl 2 rfl ?_
  have hb51 := hv.1
  have hv := hv.2
  refine j_iald (v := ((upd (z_free g) x3.toNatClampNeg (((z_free g) x3.toNatClampNeg) + x2)) x3.toNatClampNeg)) hC _ 0 (wS_c18 ad cy _) rfl hb51 rfl dX5_endByHand_51 ?_
  exact j_iret hC hQ dX5_endByHand_52 rfl hv
set_option maxHeartbeats 4000000 in
set_option maxRecDepth 100000 in
theorem lRow_endByHand_5 {Γ : jG} {l : Launch} {D : va_G} {ad : Nat → Nat} {cy : Nat → ClassId} {post : Int32 → GS → Prop} (hC : jC Γ l rRow_endByHand D 5 RX5 cX5_endByHand wsX5_endByHand (tyS cy)) (hQ : jQi Γ D (wS ad cy) post (some .int) 0 0) : ∀ (n_ : Nat) (x1 : Int32) (x2 : Int32) (x3 : Int32) (x4 : Int32) (g : GS), vRow_endByHand_5 post n_ x1 x2 x3 x4 g → J Γ D 5 0 0 (wS ad cy g) 5 [(0, .ref (ad 16)), (1, .int x1), (2, .int x2), (3, .int x3), (4, .int x4)] [] := by
  have hinX5 : ∀ w ∈ wsX50, w ∈ wsX5_endByHand := fun w h => List.mem_cons_of_mem _ (List.mem_append_right _ h)
  intro n_
  induction n_ with
  | zero => intro x1 x2 x3 x4 g hv; exact False.elim hv
  | succ k_ ih =>
    intro x1 x2 x3 x4 g hv
    unfold vRow_endByHand_5 at hv
    refine j_iload hC dX5_endByHand_5 4 rfl ?_
    refine j_iload_n (i := 1) hC dX5_endByHand_7 rfl 1 rfl ?_
    refine j_icmp_ge (tgt := 36) hC dX5_endByHand_8 (by decide) (fun h_ => ?_) (fun h_ => ?_)
    · have hv := hv.1 h_
      exact j_lv [0, 2, 3] rfl (lRow_endByHand_36 hC hQ _ _ _ hv)
    · have hv := hv.2 h_
      refine j_aload_n (i := 0) hC dX5_endByHand_11 rfl 0 rfl ?_
      refine j_get (C := RX5) (T := TX5) (N := 3) (v := .ref (ad 18)) hC hinX5 16 (wS_c16 ad cy _) rfl 1 (by decide) (mw 1 rfl) rfl rfl dX5_endByHand_12 ?_
      refine j_iload hC dX5_endByHand_15 4 rfl ?_
      have hb17 := hv.1
      have hv := hv.2
      refine j_iald (v := ((z_free g) x4.toNatClampNeg)) hC _ 0 (wS_c18 ad cy _) rfl hb17 rfl dX5_endByHand_17 ?_
      refine j_aload_n (i := 0) hC dX5_endByHand_18 rfl 0 rfl ?_
      refine j_get (C := RX5) (T := TX5) (N := 3) (v := .ref (ad 18)) hC hinX5 16 (wS_c16 ad cy _) rfl 1 (by decide) (mw 1 rfl) rfl rfl dX5_endByHand_19 ?_
      refine j_iload_n (i := 3) hC dX5_endByHand_22 rfl 3 rfl ?_
      have hb23 := hv.1
      have hv := hv.2
      refine j_iald (v := ((z_free g) x3.toNatClampNeg)) hC _ 0 (wS_c18 ad cy _) rfl hb23 rfl dX5_endByHand_23 ?_
      refine j_icmp_ge (tgt := 30) hC dX5_endByHand_24 (by decide) (fun h_ => ?_) (fun h_ => ?_)
      · have hv := hv.1 h_
        exact j_lv [0, 1, 2, 3, 4] rfl (lRow_endByHand_30 hC hQ (K5 := fun x1 x2 x3 x4 g => vRow_endByHand_5 post k_ x1 x2 x3 x4 g) (fun _ _ _ _ _ h_ => ih _ _ _ _ _ h_) _ _ _ _ _ hv)
      · have hv := hv.2 h_
        refine j_iload hC dX5_endByHand_27 4 rfl ?_
        refine j_istore_n (i := 3) (lv' := [(3, .int x4), (0, .ref (ad 16)), (1, .int x1), (2, .int x2), (4, .int x4)]) hC dX5_endByHand_29 rfl (by decide) rfl ?_
        exact j_lv [1, 2, 3, 0, 4] rfl (lRow_endByHand_30 hC hQ (K5 := fun x1 x2 x3 x4 g => vRow_endByHand_5 post k_ x1 x2 x3 x4 g) (fun _ _ _ _ _ h_ => ih _ _ _ _ _ h_) _ _ _ _ _ hv)
set_option maxHeartbeats 4000000 in
set_option maxRecDepth 100000 in
theorem cRow_endByHand {l : Launch} {D : va_G} {ad : Nat → Nat} {cy : Nat → ClassId} {g : GS} {a1 : Int32} {a2 : Int32} {post : Int32 → GS → Prop} (hv : vRow_endByHand g a1 a2 post) : jMi l yX5_endByHand wsX5_endByHand rRow_endByHand D (tyS cy) [.ref (ad 16), .int a1, .int a2] (wS ad cy g) (wS ad cy) post 0 0 := by
  refine j_meti (cc := cX5_endByHand) (nL := 5) (rt := (some .int)) (by decide) (Nat.le_of_ble_eq_true rfl) ?_
  intro Γ hC hQ _
  have hC : jC Γ l rRow_endByHand D 5 RX5 cX5_endByHand wsX5_endByHand (tyS cy) := hC
  have hinX5 : ∀ w ∈ wsX50, w ∈ wsX5_endByHand := fun w h => List.mem_cons_of_mem _ (List.mem_append_right _ h)
  refine j_lv (lv' := [(0, .ref (ad 16)), (1, .int a1), (2, .int a2)]) [0, 1, 2] rfl ?_
  unfold vRow_endByHand at hv
  refine j_iconst (v := 0) hC dX5_endByHand_0 (by decide) ?_
  refine j_istore_n (i := 3) (lv' := [(3, .int (0 : Int32)), (0, .ref (ad 16)), (1, .int a1), (2, .int a2)]) hC dX5_endByHand_1 rfl (by decide) rfl ?_
  refine j_iconst (v := 1) hC dX5_endByHand_2 (by decide) ?_
  refine j_istore (lv' := [(4, .int (1 : Int32)), (3, .int (0 : Int32)), (0, .ref (ad 16)), (1, .int a1), (2, .int a2)]) hC dX5_endByHand_3 (by decide) rfl ?_
  obtain ⟨n_, hv⟩ := hv
  exact j_lv [2, 3, 4, 1, 0] rfl (lRow_endByHand_5 hC hQ n_ _ _ _ _ _ hv)
theorem hdRow_timeToShut : yX5_timeToShut.cls = RX5 ∧ yX5_timeToShut.cls ≠ "java/lang/invoke/MethodHandle" ∧ yX5_timeToShut.cls ≠ "java/lang/invoke/VarHandle" ∧ (parseMethodDescriptor yX5_timeToShut.desc).map (fun d => d.parameters.length) = some 2 := by decide +kernel
abbrev rRow_timeToShut : Room := { frames := 1, cells := 0, slots := 0, locals := 24 }
def vRow_timeToShut_88 (post : Int32 → GS → Prop) (K13 : Int32 → Int32 → Int32 → Int32 → GS → Prop) (x1 : Int32) (x2 : Int32) (x3 : Int32) (x4 : Int32) (g : GS) : Prop :=
  (K13 x1 x2 x3 (x4 + (1 : Int32)) g)
def vRow_timeToShut_81 (post : Int32 → GS → Prop) (K13 : Int32 → Int32 → Int32 → Int32 → GS → Prop) (x1 : Int32) (x2 : Int32) (x3 : Int32) (x4 : Int32) (x6 : Int32) (g : GS) : Prop :=
  (vRow_timeToShut_88 post K13 x1 x2 (if x3 < x6 then x6 else x3) x4 g)
def vRow_timeToShut_58 (post : Int32 → GS → Prop) (K13 : Int32 → Int32 → Int32 → Int32 → GS → Prop) (x1 : Int32) (x2 : Int32) (x3 : Int32) (x4 : Int32) (x5 : Nat) (g : GS) : Prop :=
  (x5 < z_gn g ∧ ((¬ ((z_gh g) x5) = (0 : Int32) → (vRow_endByHand g x1 ((z_gh g) x5) (fun r76 g76 => (vRow_timeToShut_81 post K13 x1 x2 x3 x4 r76 g76)))) ∧ (((z_gh g) x5) = (0 : Int32) → post (-1000000 : Int32) g)))
def vRow_timeToShut_13 (post : Int32 → GS → Prop) : Nat → Int32 → Int32 → Int32 → Int32 → GS → Prop
  | 0, _, _, _, _, _ => False
  | k_ + 1, x1, x2, x3, x4, g =>
  (((6 : Int32) ≤ x4 → post x3 g) ∧ (¬ (6 : Int32) ≤ x4 → (vp_in x4 6 ∧ ((((z_ga g) x4.toNatClampNeg) = none → (vRow_timeToShut_88 post (fun x1 x2 x3 x4 g => vRow_timeToShut_13 post k_ x1 x2 x3 x4 g) x1 x2 x3 x4 g)) ∧ (∀ k26 : Nat, ((z_ga g) x4.toNatClampNeg) = some k26 → (k26 < z_gn g ∧ ((¬ ((z_gf g) k26) = (0 : Int32) → (vRow_timeToShut_58 post (fun x1 x2 x3 x4 g => vRow_timeToShut_13 post k_ x1 x2 x3 x4 g) x1 x2 x3 x4 k26 g)) ∧ (((z_gf g) k26) = (0 : Int32) → ((¬ x4 = x2 → (vRow_timeToShut_81 post (fun x1 x2 x3 x4 g => vRow_timeToShut_13 post k_ x1 x2 x3 x4 g) x1 x2 x3 x4 ((z_gm g) k26) g)) ∧ (x4 = x2 → (vRow_timeToShut_58 post (fun x1 x2 x3 x4 g => vRow_timeToShut_13 post k_ x1 x2 x3 x4 g) x1 x2 x3 x4 k26 g)))))))))))
def vRow_timeToShut (g : GS) (a1 : Int32) (a2 : Int32) (post : Int32 → GS → Prop) : Prop :=
  (∃ n_ : Nat, vRow_timeToShut_13 post n_ a1 a2 (0 : Int32) (0 : Int32) (sz_free g (jfill 3 (0 : Int32) (z_free g))))
set_option maxHeartbeats 4000000 in
set_option maxRecDepth 100000 in
theorem lRow_timeToShut_88 {Γ : jG} {l : Launch} {D : va_G} {ad : Nat → Nat} {cy : Nat → ClassId} {post : Int32 → GS → Prop} (hC : jC Γ l rRow_timeToShut D 7 RX5 cX5_timeToShut wsX5_timeToShut (tyS cy)) (hQ : jQi Γ D (wS ad cy) post (some .int) 0 0) {K13 : Int32 → Int32 → Int32 → Int32 → GS → Prop} (hK13 : ∀ (x1 : Int32) (x2 : Int32) (x3 : Int32) (x4 : Int32) (g : GS), K13 x1 x2 x3 x4 g → J Γ D 7 0 0 (wS ad cy g) 13 [(0, .ref (ad 16)), (1, .int x1), (2, .int x2), (3, .int x3), (4, .int x4)] []) : ∀ (x1 : Int32) (x2 : Int32) (x3 : Int32) (x4 : Int32) (g : GS), vRow_timeToShut_88 post K13 x1 x2 x3 x4 g → J Γ D 7 0 0 (wS ad cy g) 88 [(0, .ref (ad 16)), (1, .int x1), (2, .int x2), (3, .int x3), (4, .int x4)] [] := by
  have hinX5 : ∀ w ∈ wsX50, w ∈ wsX5_timeToShut := fun w h => List.mem_cons_of_mem _ (List.mem_append_left _ (List.mem_append_left _ (List.mem_append_left _ (List.mem_append_left _ (List.mem_append_right _ h)))))
  have hinX2 : ∀ w ∈ wsX20, w ∈ wsX5_timeToShut := fun w h => List.mem_cons_of_mem _ (List.mem_append_left _ (List.mem_append_left _ (List.mem_append_left _ (List.mem_append_right _ h))))
  have hinX3 : ∀ w ∈ wsX30, w ∈ wsX5_timeToShut := fun w h => List.mem_cons_of_mem _ (List.mem_append_left _ (List.mem_append_left _ (List.mem_append_right _ h)))
  have hinX8 : ∀ w ∈ wsX80, w ∈ wsX5_timeToShut := fun w h => List.mem_cons_of_mem _ (List.mem_append_left _ (List.mem_append_right _ h))
  have hinX10 : ∀ w ∈ wsX100, w ∈ wsX5_timeToShut := fun w h => List.mem_cons_of_mem _ (List.mem_append_right _ h)
  intro x1 x2 x3 x4 g hv
  unfold vRow_timeToShut_88 at hv
  refine j_iinc (k := 4) (v := (x4 + (1 : Int32))) (lv' := [(4, .int (x4 + (1 : Int32))), (0, .ref (ad 16)), (1, .int x1), (2, .int x2), (3, .int x3)]) hC dX5_timeToShut_88 rfl rfl (by decide) rfl ?_
  refine j_goto (tgt := 13) hC dX5_timeToShut_91 (by decide) ?_
  exact j_lv [1, 2, 3, 4, 0] rfl (hK13 _ _ _ _ _ hv)
set_option maxHeartbeats 4000000 in
set_option maxRecDepth 100000 in
theorem lRow_timeToShut_81 {Γ : jG} {l : Launch} {D : va_G} {ad : Nat → Nat} {cy : Nat → ClassId} {post : Int32 → GS → Prop} (hC : jC Γ l rRow_timeToShut D 7 RX5 cX5_timeToShut wsX5_timeToShut (tyS cy)) (hQ : jQi Γ D (wS ad cy) post (some .int) 0 0) {K13 : Int32 → Int32 → Int32 → Int32 → GS → Prop} (hK13 : ∀ (x1 : Int32) (x2 : Int32) (x3 : Int32) (x4 : Int32) (g : GS), K13 x1 x2 x3 x4 g → J Γ D 7 0 0 (wS ad cy g) 13 [(0, .ref (ad 16)), (1, .int x1), (2, .int x2), (3, .int x3), (4, .int x4)] []) : ∀ (x1 : Int32) (x2 : Int32) (x3 : Int32) (x4 : Int32) (x6 : Int32) (g : GS), vRow_timeToShut_81 post K13 x1 x2 x3 x4 x6 g → J Γ D 7 0 0 (wS ad cy g) 81 [(0, .ref (ad 16)), (1, .int x1), (2, .int x2), (3, .int x3), (4, .int x4), (6, .int x6)] [] := by
  have hinX5 : ∀ w ∈ wsX50, w ∈ wsX5_timeToShut := fun w h => List.mem_cons_of_mem _ (List.mem_append_left _ (List.mem_append_left _ (List.mem_append_left _ (List.mem_append_left _ (List.mem_append_right _ h)))))
  have hinX2 : ∀ w ∈ wsX20, w ∈ wsX5_timeToShut := fun w h => List.mem_cons_of_mem _ (List.mem_append_left _ (List.mem_append_left _ (List.mem_append_left _ (List.mem_append_right _ h))))
  have hinX3 : ∀ w ∈ wsX30, w ∈ wsX5_timeToShut := fun w h => List.mem_cons_of_mem _ (List.mem_append_left _ (List.mem_append_left _ (List.mem_append_right _ h)))
  have hinX8 : ∀ w ∈ wsX80, w ∈ wsX5_timeToShut := fun w h => List.mem_cons_of_mem _ (List.mem_append_left _ (List.mem_append_right _ h))
  have hinX10 : ∀ w ∈ wsX100, w ∈ wsX5_timeToShut := fun w h => List.mem_cons_of_mem _ (List.mem_append_right _ h)
  intro x1 x2 x3 x4 x6 g hv
  unfold vRow_timeToShut_81 at hv
  refine j_iload_n (i := 3) hC dX5_timeToShut_81 rfl 3 rfl ?_
  refine j_iload hC dX5_timeToShut_82 5 rfl ?_
  refine j_mmax hC (mw 7 rfl) (mw 8 rfl) (mw 9 rfl) (mw 10 rfl) (Nat.le_of_ble_eq_true rfl) (Nat.le_of_ble_eq_true rfl) (Nat.zero_le _) (Nat.zero_le _) dX5_timeToShut_84 ?_
  refine j_istore_n (i := 3) (lv' := [(3, .int (if x3 < x6 then x6 else x3)), (0, .ref (ad 16)), (1, .int x1), (2, .int x2), (4, .int x4), (6, .int x6)]) hC dX5_timeToShut_87 rfl (by decide) rfl ?_
  exact j_lv [1, 2, 3, 0, 4] rfl (lRow_timeToShut_88 hC hQ hK13 _ _ _ _ _ hv)
set_option maxHeartbeats 4000000 in
set_option maxRecDepth 100000 in
theorem lRow_timeToShut_58 {Γ : jG} {l : Launch} {D : va_G} {ad : Nat → Nat} {cy : Nat → ClassId} {post : Int32 → GS → Prop} (hC : jC Γ l rRow_timeToShut D 7 RX5 cX5_timeToShut wsX5_timeToShut (tyS cy)) (hQ : jQi Γ D (wS ad cy) post (some .int) 0 0) {K13 : Int32 → Int32 → Int32 → Int32 → GS → Prop} (hK13 : ∀ (x1 : Int32) (x2 : Int32) (x3 : Int32) (x4 : Int32) (g : GS), K13 x1 x2 x3 x4 g → J Γ D 7 0 0 (wS ad cy g) 13 [(0, .ref (ad 16)), (1, .int x1), (2, .int x2), (3, .int x3), (4, .int x4)] []) : ∀ (x1 : Int32) (x2 : Int32) (x3 : Int32) (x4 : Int32) (x5 : Nat) (g : GS), vRow_timeToShut_58 post K13 x1 x2 x3 x4 x5 g → J Γ D 7 0 0 (wS ad cy g) 58 [(0, .ref (ad 16)), (1, .int x1), (2, .int x2), (3, .int x3), (4, .int x4), (5, .ref (ad (73 + x5)))] [] := by
  have hinX5 : ∀ w ∈ wsX50, w ∈ wsX5_timeToShut := fun w h => List.mem_cons_of_mem _ (List.mem_append_left _ (List.mem_append_left _ (List.mem_append_left _ (List.mem_append_left _ (List.mem_append_right _ h)))))
  have hinX2 : ∀ w ∈ wsX20, w ∈ wsX5_timeToShut := fun w h => List.mem_cons_of_mem _ (List.mem_append_left _ (List.mem_append_left _ (List.mem_append_left _ (List.mem_append_right _ h))))
  have hinX3 : ∀ w ∈ wsX30, w ∈ wsX5_timeToShut := fun w h => List.mem_cons_of_mem _ (List.mem_append_left _ (List.mem_append_left _ (List.mem_append_right _ h)))
  have hinX8 : ∀ w ∈ wsX80, w ∈ wsX5_timeToShut := fun w h => List.mem_cons_of_mem _ (List.mem_append_left _ (List.mem_append_right _ h))
  have hinX10 : ∀ w ∈ wsX100, w ∈ wsX5_timeToShut := fun w h => List.mem_cons_of_mem _ (List.mem_append_right _ h)
  intro x1 x2 x3 x4 x5 g hv
  unfold vRow_timeToShut_58 at hv
  have hkx5 := hv.1
  have hv := hv.2
  refine j_aload hC dX5_timeToShut_58 5 rfl ?_
  refine j_getG1 (v := .int ((z_gh g) x5)) hC hinX2 hinX3 hinX8 hinX10 hkx5 (mw 5 rfl) (Or.inl rfl) rfl dX5_timeToShut_60 ?_
  refine j_if_ne (tgt := 69) hC dX5_timeToShut_63 (by decide) (fun h_ => ?_) (fun h_ => ?_)
  · have hv := hv.1 h_
    refine j_aload_n (i := 0) hC dX5_timeToShut_69 rfl 0 rfl ?_
    refine j_iload_n (i := 1) hC dX5_timeToShut_70 rfl 1 rfl ?_
    refine j_aload hC dX5_timeToShut_71 5 rfl ?_
    refine j_getG1 (v := .int ((z_gh g) x5)) hC hinX2 hinX3 hinX8 hinX10 hkx5 (mw 5 rfl) (Or.inl rfl) rfl dX5_timeToShut_73 ?_
    refine j_callV_i (C := RX5) (As := [.int x1, .int ((z_gh g) x5)]) (rest := []) (b := (ad 16)) hC (cRow_endByHand hv) 2 gX5_timeToShut_X5_endByHand rfl rfl rfl ⟨Nat.le_of_ble_eq_true rfl, Nat.le_of_ble_eq_true rfl⟩ hdRow_endByHand rfl (wS_c16 ad cy _) rfl rfl (Nat.le_of_ble_eq_true rfl) ⟨Nat.zero_le _, Nat.zero_le _⟩ dX5_timeToShut_76 (fun r76 g76 hv => ?_)
    refine j_istore (lv' := [(6, .int r76), (0, .ref (ad 16)), (1, .int x1), (2, .int x2), (3, .int x3), (4, .int x4), (5, .ref (ad (73 + x5)))]) hC dX5_timeToShut_79 (by decide) rfl ?_
    exact j_lv [1, 2, 3, 4, 5, 0] rfl (lRow_timeToShut_81 hC hQ hK13 _ _ _ _ _ _ hv)
  · have hv := hv.2 h_
    refine j_ldc (v := -1000000) hC dX5_timeToShut_66 (mw 6 rfl) ?_
    exact j_iret hC hQ dX5_timeToShut_68 rfl hv
set_option maxHeartbeats 4000000 in
set_option maxRecDepth 100000 in
theorem lRow_timeToShut_13 {Γ : jG} {l : Launch} {D : va_G} {ad : Nat → Nat} {cy : Nat → ClassId} {post : Int32 → GS → Prop} (hC : jC Γ l rRow_timeToShut D 7 RX5 cX5_timeToShut wsX5_timeToShut (tyS cy)) (hQ : jQi Γ D (wS ad cy) post (some .int) 0 0) : ∀ (n_ : Nat) (x1 : Int32) (x2 : Int32) (x3 : Int32) (x4 : Int32) (g : GS), vRow_timeToShut_13 post n_ x1 x2 x3 x4 g → J Γ D 7 0 0 (wS ad cy g) 13 [(0, .ref (ad 16)), (1, .int x1), (2, .int x2), (3, .int x3), (4, .int x4)] [] := by
  have hinX5 : ∀ w ∈ wsX50, w ∈ wsX5_timeToShut := fun w h => List.mem_cons_of_mem _ (List.mem_append_left _ (List.mem_append_left _ (List.mem_append_left _ (List.mem_append_left _ (List.mem_append_right _ h)))))
  have hinX2 : ∀ w ∈ wsX20, w ∈ wsX5_timeToShut := fun w h => List.mem_cons_of_mem _ (List.mem_append_left _ (List.mem_append_left _ (List.mem_append_left _ (List.mem_append_right _ h))))
  have hinX3 : ∀ w ∈ wsX30, w ∈ wsX5_timeToShut := fun w h => List.mem_cons_of_mem _ (List.mem_append_left _ (List.mem_append_left _ (List.mem_append_right _ h)))
  have hinX8 : ∀ w ∈ wsX80, w ∈ wsX5_timeToShut := fun w h => List.mem_cons_of_mem _ (List.mem_append_left _ (List.mem_append_right _ h))
  have hinX10 : ∀ w ∈ wsX100, w ∈ wsX5_timeToShut := fun w h => List.mem_cons_of_mem _ (List.mem_append_right _ h)
  intro n_
  induction n_ with
  | zero => intro x1 x2 x3 x4 g hv; exact False.elim hv
  | succ k_ ih =>
    intro x1 x2 x3 x4 g hv
    unfold vRow_timeToShut_13 at hv
    refine j_iload hC dX5_timeToShut_13 4 rfl ?_
    refine j_bipush (v := 6) hC dX5_timeToShut_15 (by decide) ?_
    refine j_icmp_ge (tgt := 94) hC dX5_timeToShut_17 (by decide) (fun h_ => ?_) (fun h_ => ?_)
    · have hv := hv.1 h_
      refine j_iload_n (i := 3) hC dX5_timeToShut_94 rfl 3 rfl ?_
      exact j_iret hC hQ dX5_timeToShut_95 rfl hv
    · have hv := hv.2 h_
      refine j_aload_n (i := 0) hC dX5_timeToShut_20 rfl 0 rfl ?_
      refine j_get (C := RX5) (T := TX5) (N := 3) (v := .ref (ad 17)) hC hinX5 16 (wS_c16 ad cy _) rfl 0 (by decide) (mw 2 rfl) rfl rfl dX5_timeToShut_21 ?_
      refine j_iload hC dX5_timeToShut_24 4 rfl ?_
      have hb26 := hv.1
      have hv := hv.2
      refine j_aald (v := va_rf (((z_ga g) x4.toNatClampNeg).map (fun k => ad (73 + k)))) hC 17 2 (wS_c17 ad cy _) rfl rfl hb26 rfl dX5_timeToShut_26 ?_
      cases ho_ : ((z_ga g) x4.toNatClampNeg) with
      | none =>
        have hv := hv.1 ho_
        refine j_astoreN (lv' := [(5, .null), (0, .ref (ad 16)), (1, .int x1), (2, .int x2), (3, .int x3), (4, .int x4)]) hC dX5_timeToShut_27 (by decide) rfl ?_
        refine j_aloadN hC dX5_timeToShut_29 0 rfl ?_
        refine j_ifnonnullN hC dX5_timeToShut_31 ?_
        refine j_goto (tgt := 88) hC dX5_timeToShut_34 (by decide) ?_
        exact j_lv [1, 2, 3, 4, 5] rfl (lRow_timeToShut_88 hC hQ (K13 := fun x1 x2 x3 x4 g => vRow_timeToShut_13 post k_ x1 x2 x3 x4 g) (fun _ _ _ _ _ h_ => ih _ _ _ _ _ h_) _ _ _ _ _ hv)
      | some k26 =>
        have hv := hv.2 k26 ho_
        refine j_astore (lv' := [(5, .ref (ad (73 + k26))), (0, .ref (ad 16)), (1, .int x1), (2, .int x2), (3, .int x3), (4, .int x4)]) hC dX5_timeToShut_27 (by decide) rfl ?_
        refine j_aload hC dX5_timeToShut_29 0 rfl ?_
        refine j_ifnonnull (tgt := 37) hC dX5_timeToShut_31 (by decide) ?_
        refine j_aload hC dX5_timeToShut_37 0 rfl ?_
        have hk39 := hv.1
        have hv := hv.2
        refine j_getG0 (v := .int ((z_gm g) k26)) hC hinX2 hinX3 hinX8 hinX10 hk39 (mw 3 rfl) (Or.inl rfl) rfl dX5_timeToShut_39 ?_
        refine j_istore (lv' := [(6, .int ((z_gm g) k26)), (5, .ref (ad (73 + k26))), (0, .ref (ad 16)), (1, .int x1), (2, .int x2), (3, .int x3), (4, .int x4)]) hC dX5_timeToShut_42 (by decide) rfl ?_
        refine j_aload hC dX5_timeToShut_44 1 rfl ?_
        refine j_getG2 (v := .int ((z_gf g) k26)) hC hinX2 hinX3 hinX8 hinX10 hk39 (mw 4 rfl) (Or.inl rfl) rfl dX5_timeToShut_46 ?_
        refine j_if_ne (tgt := 58) hC dX5_timeToShut_49 (by decide) (fun h_ => ?_) (fun h_ => ?_)
        · have hv := hv.1 h_
          exact j_lv [2, 3, 4, 5, 6, 1] rfl (lRow_timeToShut_58 hC hQ (K13 := fun x1 x2 x3 x4 g => vRow_timeToShut_13 post k_ x1 x2 x3 x4 g) (fun _ _ _ _ _ h_ => ih _ _ _ _ _ h_) _ _ _ _ _ _ hv)
        · have hv := hv.2 h_
          refine j_iload hC dX5_timeToShut_52 6 rfl ?_
          refine j_iload_n (i := 2) hC dX5_timeToShut_54 rfl 4 rfl ?_
          refine j_icmp_ne (tgt := 81) hC dX5_timeToShut_55 (by decide) (fun h_ => ?_) (fun h_ => ?_)
          · have hv := hv.1 h_
            exact j_lv [2, 3, 4, 5, 6, 0] rfl (lRow_timeToShut_81 hC hQ (K13 := fun x1 x2 x3 x4 g => vRow_timeToShut_13 post k_ x1 x2 x3 x4 g) (fun _ _ _ _ _ h_ => ih _ _ _ _ _ h_) _ _ _ _ _ _ hv)
          · have hv := hv.2 h_
            exact j_lv [2, 3, 4, 5, 6, 1] rfl (lRow_timeToShut_58 hC hQ (K13 := fun x1 x2 x3 x4 g => vRow_timeToShut_13 post k_ x1 x2 x3 x4 g) (fun _ _ _ _ _ h_ => ih _ _ _ _ _ h_) _ _ _ _ _ _ hv)
set_option maxHeartbeats 4000000 in
set_option maxRecDepth 100000 in
theorem cRow_timeToShut {l : Launch} {D : va_G} {ad : Nat → Nat} {cy : Nat → ClassId} {g : GS} {a1 : Int32} {a2 : Int32} {post : Int32 → GS → Prop} (hv : vRow_timeToShut g a1 a2 post) : jMi l yX5_timeToShut wsX5_timeToShut rRow_timeToShut D (tyS cy) [.ref (ad 16), .int a1, .int a2] (wS ad cy g) (wS ad cy) post 0 0 := by
  refine j_meti (cc := cX5_timeToShut) (nL := 7) (rt := (some .int)) (by decide) (Nat.le_of_ble_eq_true rfl) ?_
  intro Γ hC hQ _
  have hC : jC Γ l rRow_timeToShut D 7 RX5 cX5_timeToShut wsX5_timeToShut (tyS cy) := hC
  have hinX5 : ∀ w ∈ wsX50, w ∈ wsX5_timeToShut := fun w h => List.mem_cons_of_mem _ (List.mem_append_left _ (List.mem_append_left _ (List.mem_append_left _ (List.mem_append_left _ (List.mem_append_right _ h)))))
  have hinX2 : ∀ w ∈ wsX20, w ∈ wsX5_timeToShut := fun w h => List.mem_cons_of_mem _ (List.mem_append_left _ (List.mem_append_left _ (List.mem_append_left _ (List.mem_append_right _ h))))
  have hinX3 : ∀ w ∈ wsX30, w ∈ wsX5_timeToShut := fun w h => List.mem_cons_of_mem _ (List.mem_append_left _ (List.mem_append_left _ (List.mem_append_right _ h)))
  have hinX8 : ∀ w ∈ wsX80, w ∈ wsX5_timeToShut := fun w h => List.mem_cons_of_mem _ (List.mem_append_left _ (List.mem_append_right _ h))
  have hinX10 : ∀ w ∈ wsX100, w ∈ wsX5_timeToShut := fun w h => List.mem_cons_of_mem _ (List.mem_append_right _ h)
  refine j_lv (lv' := [(0, .ref (ad 16)), (1, .int a1), (2, .int a2)]) [0, 1, 2] rfl ?_
  unfold vRow_timeToShut at hv
  refine j_aload_n (i := 0) hC dX5_timeToShut_0 rfl 0 rfl ?_
  refine j_get (C := RX5) (T := TX5) (N := 3) (v := .ref (ad 18)) hC hinX5 16 (wS_c16 ad cy _) rfl 1 (by decide) (mw 1 rfl) rfl rfl dX5_timeToShut_1 ?_
  refine j_iconst (v := 0) hC dX5_timeToShut_4 (by decide) ?_
  refine j_callS_v (As := [.ref (ad 18), .int (0 : Int32)]) (rest := []) hC (cJ_fill (v := (0 : Int32)) 0 (wS_c18 ad cy _) rfl (by decide)) 2 gX5_timeToShut_J7_fill_53178 rfl rfl rfl ⟨Nat.le_of_ble_eq_true rfl, Nat.le_of_ble_eq_true rfl⟩ hdJ_fill rfl rfl (Nat.le_of_ble_eq_true rfl) ⟨Nat.zero_le _, Nat.zero_le _⟩ dX5_timeToShut_5 (fun _ _ => ?_)
  refine j_ws (wS_s_free ad cy _ _) ?_
  refine j_iconst (v := 0) hC dX5_timeToShut_8 (by decide) ?_
  refine j_istore_n (i := 3) (lv' := [(3, .int (0 : Int32)), (0, .ref (ad 16)), (1, .int a1), (2, .int a2)]) hC dX5_timeToShut_9 rfl (by decide) rfl ?_
  refine j_iconst (v := 0) hC dX5_timeToShut_10 (by decide) ?_
  refine j_istore (lv' := [(4, .int (0 : Int32)), (3, .int (0 : Int32)), (0, .ref (ad 16)), (1, .int a1), (2, .int a2)]) hC dX5_timeToShut_11 (by decide) rfl ?_
  obtain ⟨n_, hv⟩ := hv
  exact j_lv [2, 3, 4, 1, 0] rfl (lRow_timeToShut_13 hC hQ n_ _ _ _ _ _ hv)
theorem hdRow_failedOnes : yX5_failedOnes.cls = RX5 ∧ yX5_failedOnes.cls ≠ "java/lang/invoke/MethodHandle" ∧ yX5_failedOnes.cls ≠ "java/lang/invoke/VarHandle" ∧ (parseMethodDescriptor yX5_failedOnes.desc).map (fun d => d.parameters.length) = some 0 := by decide +kernel
abbrev rRow_failedOnes : Room := { frames := 0, cells := 0, slots := 0, locals := 0 }
def vRow_failedOnes_41 (post : Int32 → GS → Prop) (K13 : Int32 → Int32 → Int32 → GS → Prop) (x1 : Int32) (x3 : Int32) (x4 : Int32) (g : GS) : Prop :=
  (K13 x1 x3 (x4 + (1 : Int32)) g)
def vRow_failedOnes_13 (post : Int32 → GS → Prop) : Nat → Int32 → Int32 → Int32 → GS → Prop
  | 0, _, _, _, _ => False
  | k_ + 1, x1, x3, x4, g =>
  ((x3 ≤ x4 → post x1 g) ∧ (¬ x3 ≤ x4 → (vp_in x4 6 ∧ ((((z_ga g) x4.toNatClampNeg) = none → (vRow_failedOnes_41 post (fun x1 x3 x4 g => vRow_failedOnes_13 post k_ x1 x3 x4 g) x1 x3 x4 g)) ∧ (∀ k22 : Nat, ((z_ga g) x4.toNatClampNeg) = some k22 → (k22 < z_gn g ∧ ((((z_gf g) k22) = (0 : Int32) → (vRow_failedOnes_41 post (fun x1 x3 x4 g => vRow_failedOnes_13 post k_ x1 x3 x4 g) x1 x3 x4 g)) ∧ (¬ ((z_gf g) k22) = (0 : Int32) → (vRow_failedOnes_41 post (fun x1 x3 x4 g => vRow_failedOnes_13 post k_ x1 x3 x4 g) (x1 + (1 : Int32)) x3 x4 g)))))))))
def vRow_failedOnes (g : GS) (post : Int32 → GS → Prop) : Prop :=
  (∃ n_ : Nat, vRow_failedOnes_13 post n_ (0 : Int32) (6 : Int32) (0 : Int32) g)
set_option maxHeartbeats 4000000 in
set_option maxRecDepth 100000 in
theorem lRow_failedOnes_41 {Γ : jG} {l : Launch} {D : va_G} {ad : Nat → Nat} {cy : Nat → ClassId} {post : Int32 → GS → Prop} (hC : jC Γ l rRow_failedOnes D 6 RX5 cX5_failedOnes wsX5_failedOnes (tyS cy)) (hQ : jQi Γ D (wS ad cy) post (some .int) 0 0) {K13 : Int32 → Int32 → Int32 → GS → Prop} (hK13 : ∀ (x1 : Int32) (x3 : Int32) (x4 : Int32) (g : GS), K13 x1 x3 x4 g → J Γ D 6 0 0 (wS ad cy g) 13 [(1, .int x1), (2, .ref (ad 17)), (3, .int x3), (4, .int x4)] []) : ∀ (x1 : Int32) (x3 : Int32) (x4 : Int32) (g : GS), vRow_failedOnes_41 post K13 x1 x3 x4 g → J Γ D 6 0 0 (wS ad cy g) 41 [(1, .int x1), (2, .ref (ad 17)), (3, .int x3), (4, .int x4)] [] := by
  have hinX5 : ∀ w ∈ wsX50, w ∈ wsX5_failedOnes := fun w h => List.mem_cons_of_mem _ (List.mem_append_left _ (List.mem_append_left _ (List.mem_append_left _ (List.mem_append_left _ (List.mem_append_right _ h)))))
  have hinX2 : ∀ w ∈ wsX20, w ∈ wsX5_failedOnes := fun w h => List.mem_cons_of_mem _ (List.mem_append_left _ (List.mem_append_left _ (List.mem_append_left _ (List.mem_append_right _ h))))
  have hinX3 : ∀ w ∈ wsX30, w ∈ wsX5_failedOnes := fun w h => List.mem_cons_of_mem _ (List.mem_append_left _ (List.mem_append_left _ (List.mem_append_right _ h)))
  have hinX8 : ∀ w ∈ wsX80, w ∈ wsX5_failedOnes := fun w h => List.mem_cons_of_mem _ (List.mem_append_left _ (List.mem_append_right _ h))
  have hinX10 : ∀ w ∈ wsX100, w ∈ wsX5_failedOnes := fun w h => List.mem_cons_of_mem _ (List.mem_append_right _ h)
  intro x1 x3 x4 g hv
  unfold vRow_failedOnes_41 at hv
  refine j_iinc (k := 3) (v := (x4 + (1 : Int32))) (lv' := [(4, .int (x4 + (1 : Int32))), (1, .int x1), (2, .ref (ad 17)), (3, .int x3)]) hC dX5_failedOnes_41 rfl rfl (by decide) rfl ?_
  refine j_goto (tgt := 13) hC dX5_failedOnes_44 (by decide) ?_
  exact j_lv [1, 2, 3, 0] rfl (hK13 _ _ _ _ hv)
set_option maxHeartbeats 4000000 in
set_option maxRecDepth 100000 in
theorem lRow_failedOnes_13 {Γ : jG} {l : Launch} {D : va_G} {ad : Nat → Nat} {cy : Nat → ClassId} {post : Int32 → GS → Prop} (hC : jC Γ l rRow_failedOnes D 6 RX5 cX5_failedOnes wsX5_failedOnes (tyS cy)) (hQ : jQi Γ D (wS ad cy) post (some .int) 0 0) : ∀ (n_ : Nat) (x1 : Int32) (x3 : Int32) (x4 : Int32) (g : GS), vRow_failedOnes_13 post n_ x1 x3 x4 g → J Γ D 6 0 0 (wS ad cy g) 13 [(1, .int x1), (2, .ref (ad 17)), (3, .int x3), (4, .int x4)] [] := by
  have hinX5 : ∀ w ∈ wsX50, w ∈ wsX5_failedOnes := fun w h => List.mem_cons_of_mem _ (List.mem_append_left _ (List.mem_append_left _ (List.mem_append_left _ (List.mem_append_left _ (List.mem_append_right _ h)))))
  have hinX2 : ∀ w ∈ wsX20, w ∈ wsX5_failedOnes := fun w h => List.mem_cons_of_mem _ (List.mem_append_left _ (List.mem_append_left _ (List.mem_append_left _ (List.mem_append_right _ h))))
  have hinX3 : ∀ w ∈ wsX30, w ∈ wsX5_failedOnes := fun w h => List.mem_cons_of_mem _ (List.mem_append_left _ (List.mem_append_left _ (List.mem_append_right _ h)))
  have hinX8 : ∀ w ∈ wsX80, w ∈ wsX5_failedOnes := fun w h => List.mem_cons_of_mem _ (List.mem_append_left _ (List.mem_append_right _ h))
  have hinX10 : ∀ w ∈ wsX100, w ∈ wsX5_failedOnes := fun w h => List.mem_cons_of_mem _ (List.mem_append_right _ h)
  intro n_
  induction n_ with
  | zero => intro x1 x3 x4 g hv; exact False.elim hv
  | succ k_ ih =>
    intro x1 x3 x4 g hv
    unfold vRow_failedOnes_13 at hv
    refine j_iload hC dX5_failedOnes_13 3 rfl ?_
    refine j_iload_n (i := 3) hC dX5_failedOnes_15 rfl 2 rfl ?_
    refine j_icmp_ge (tgt := 47) hC dX5_failedOnes_16 (by decide) (fun h_ => ?_) (fun h_ => ?_)
    · have hv := hv.1 h_
      refine j_iload_n (i := 1) hC dX5_failedOnes_47 rfl 0 rfl ?_
      exact j_iret hC hQ dX5_failedOnes_48 rfl hv
    · have hv := hv.2 h_
      refine j_aload_n (i := 2) hC dX5_failedOnes_19 rfl 1 rfl ?_
      refine j_iload hC dX5_failedOnes_20 3 rfl ?_
      have hb22 := hv.1
      have hv := hv.2
      refine j_aald (v := va_rf (((z_ga g) x4.toNatClampNeg).map (fun k => ad (73 + k)))) hC 17 2 (wS_c17 ad cy _) rfl rfl hb22 rfl dX5_failedOnes_22 ?_
      cases ho_ : ((z_ga g) x4.toNatClampNeg) with
      | none =>
        have hv := hv.1 ho_
        refine j_astoreN (lv' := [(5, .null), (1, .int x1), (2, .ref (ad 17)), (3, .int x3), (4, .int x4)]) hC dX5_failedOnes_23 (by decide) rfl ?_
        refine j_aloadN hC dX5_failedOnes_25 0 rfl ?_
        refine j_ifnullN (tgt := 41) hC dX5_failedOnes_27 (by decide) ?_
        exact j_lv [1, 2, 3, 4] rfl (lRow_failedOnes_41 hC hQ (K13 := fun x1 x3 x4 g => vRow_failedOnes_13 post k_ x1 x3 x4 g) (fun _ _ _ _ h_ => ih _ _ _ _ h_) _ _ _ _ hv)
      | some k22 =>
        have hv := hv.2 k22 ho_
        refine j_astore (lv' := [(5, .ref (ad (73 + k22))), (1, .int x1), (2, .ref (ad 17)), (3, .int x3), (4, .int x4)]) hC dX5_failedOnes_23 (by decide) rfl ?_
        refine j_aload hC dX5_failedOnes_25 0 rfl ?_
        refine j_ifnull hC dX5_failedOnes_27 ?_
        refine j_aload hC dX5_failedOnes_30 0 rfl ?_
        have hk32 := hv.1
        have hv := hv.2
        refine j_getG2 (v := .int ((z_gf g) k22)) hC hinX2 hinX3 hinX8 hinX10 hk32 (mw 2 rfl) (Or.inl rfl) rfl dX5_failedOnes_32 ?_
        refine j_if_eq (tgt := 41) hC dX5_failedOnes_35 (by decide) (fun h_ => ?_) (fun h_ => ?_)
        · have hv := hv.1 h_
          exact j_lv [1, 2, 3, 4] rfl (lRow_failedOnes_41 hC hQ (K13 := fun x1 x3 x4 g => vRow_failedOnes_13 post k_ x1 x3 x4 g) (fun _ _ _ _ h_ => ih _ _ _ _ h_) _ _ _ _ hv)
        · have hv := hv.2 h_
          refine j_iinc (k := 1) (v := (x1 + (1 : Int32))) (lv' := [(1, .int (x1 + (1 : Int32))), (5, .ref (ad (73 + k22))), (2, .ref (ad 17)), (3, .int x3), (4, .int x4)]) hC dX5_failedOnes_38 rfl rfl (by decide) rfl ?_
          exact j_lv [0, 2, 3, 4] rfl (lRow_failedOnes_41 hC hQ (K13 := fun x1 x3 x4 g => vRow_failedOnes_13 post k_ x1 x3 x4 g) (fun _ _ _ _ h_ => ih _ _ _ _ h_) _ _ _ _ hv)
set_option maxHeartbeats 4000000 in
set_option maxRecDepth 100000 in
theorem cRow_failedOnes {l : Launch} {D : va_G} {ad : Nat → Nat} {cy : Nat → ClassId} {g : GS} {post : Int32 → GS → Prop} (hv : vRow_failedOnes g post) : jMi l yX5_failedOnes wsX5_failedOnes rRow_failedOnes D (tyS cy) [.ref (ad 16)] (wS ad cy g) (wS ad cy) post 0 0 := by
  refine j_meti (cc := cX5_failedOnes) (nL := 6) (rt := (some .int)) (by decide) (Nat.le_of_ble_eq_true rfl) ?_
  intro Γ hC hQ _
  have hC : jC Γ l rRow_failedOnes D 6 RX5 cX5_failedOnes wsX5_failedOnes (tyS cy) := hC
  have hinX5 : ∀ w ∈ wsX50, w ∈ wsX5_failedOnes := fun w h => List.mem_cons_of_mem _ (List.mem_append_left _ (List.mem_append_left _ (List.mem_append_left _ (List.mem_append_left _ (List.mem_append_right _ h)))))
  have hinX2 : ∀ w ∈ wsX20, w ∈ wsX5_failedOnes := fun w h => List.mem_cons_of_mem _ (List.mem_append_left _ (List.mem_append_left _ (List.mem_append_left _ (List.mem_append_right _ h))))
  have hinX3 : ∀ w ∈ wsX30, w ∈ wsX5_failedOnes := fun w h => List.mem_cons_of_mem _ (List.mem_append_left _ (List.mem_append_left _ (List.mem_append_right _ h)))
  have hinX8 : ∀ w ∈ wsX80, w ∈ wsX5_failedOnes := fun w h => List.mem_cons_of_mem _ (List.mem_append_left _ (List.mem_append_right _ h))
  have hinX10 : ∀ w ∈ wsX100, w ∈ wsX5_failedOnes := fun w h => List.mem_cons_of_mem _ (List.mem_append_right _ h)
  refine j_lv (lv' := [(0, .ref (ad 16))]) [0] rfl ?_
  unfold vRow_failedOnes at hv
  refine j_iconst (v := 0) hC dX5_failedOnes_0 (by decide) ?_
  refine j_istore_n (i := 1) (lv' := [(1, .int (0 : Int32)), (0, .ref (ad 16))]) hC dX5_failedOnes_1 rfl (by decide) rfl ?_
  refine j_aload_n (i := 0) hC dX5_failedOnes_2 rfl 1 rfl ?_
  refine j_get (C := RX5) (T := TX5) (N := 3) (v := .ref (ad 17)) hC hinX5 16 (wS_c16 ad cy _) rfl 0 (by decide) (mw 1 rfl) rfl rfl dX5_failedOnes_3 ?_
  refine j_astore_n (i := 2) (lv' := [(2, .ref (ad 17)), (1, .int (0 : Int32)), (0, .ref (ad 16))]) hC dX5_failedOnes_6 rfl (by decide) rfl ?_
  refine j_aload_n (i := 2) hC dX5_failedOnes_7 rfl 0 rfl ?_
  refine j_alen (v := 6) hC 17 2 (wS_c17 ad cy _) rfl rfl dX5_failedOnes_8 ?_
  refine j_istore_n (i := 3) (lv' := [(3, .int (6 : Int32)), (2, .ref (ad 17)), (1, .int (0 : Int32)), (0, .ref (ad 16))]) hC dX5_failedOnes_9 rfl (by decide) rfl ?_
  refine j_iconst (v := 0) hC dX5_failedOnes_10 (by decide) ?_
  refine j_istore (lv' := [(4, .int (0 : Int32)), (3, .int (6 : Int32)), (2, .ref (ad 17)), (1, .int (0 : Int32)), (0, .ref (ad 16))]) hC dX5_failedOnes_11 (by decide) rfl ?_
  obtain ⟨n_, hv⟩ := hv
  exact j_lv [3, 2, 1, 0] rfl (lRow_failedOnes_13 hC hQ n_ _ _ _ _ hv)
theorem hdRow_worstTime : yX5_worstTime.cls = RX5 ∧ yX5_worstTime.cls ≠ "java/lang/invoke/MethodHandle" ∧ yX5_worstTime.cls ≠ "java/lang/invoke/VarHandle" ∧ (parseMethodDescriptor yX5_worstTime.desc).map (fun d => d.parameters.length) = some 1 := by decide +kernel
abbrev rRow_worstTime : Room := { frames := 2, cells := 0, slots := 0, locals := 50 }
def vRow_worstTime_78 (post : Int32 → GS → Prop) (K23 : Int32 → Int32 → Int32 → GS → Prop) (x1 : Int32) (x2 : Int32) (x3 : Int32) (g : GS) : Prop :=
  (K23 x1 x2 (x3 + (1 : Int32)) g)
def vRow_worstTime_23 (post : Int32 → GS → Prop) : Nat → Int32 → Int32 → Int32 → GS → Prop
  | 0, _, _, _, _ => False
  | k_ + 1, x1, x2, x3, g =>
  (((6 : Int32) ≤ x3 → post x2 g) ∧ (¬ (6 : Int32) ≤ x3 → (vp_in x3 6 ∧ ((((z_ga g) x3.toNatClampNeg) = none → (vRow_worstTime_78 post (fun x1 x2 x3 g => vRow_worstTime_23 post k_ x1 x2 x3 g) x1 x2 x3 g)) ∧ (∀ k34 : Nat, ((z_ga g) x3.toNatClampNeg) = some k34 → (k34 < z_gn g ∧ ((((z_gf g) k34) = (0 : Int32) → (vRow_timeToShut g x1 x3 (fun r56 g56 => ((¬ r56 = (-1000000 : Int32) → (vRow_worstTime_78 post (fun x1 x2 x3 g => vRow_worstTime_23 post k_ x1 x2 x3 g) x1 (if x2 < r56 then r56 else x2) x3 g56)) ∧ (r56 = (-1000000 : Int32) → post (-1000000 : Int32) g56))))) ∧ (¬ ((z_gf g) k34) = (0 : Int32) → (vRow_worstTime_78 post (fun x1 x2 x3 g => vRow_worstTime_23 post k_ x1 x2 x3 g) x1 x2 x3 g)))))))))
def vRow_worstTime (g : GS) (a1 : Int32) (post : Int32 → GS → Prop) : Prop :=
  (vRow_failedOnes g (fun r1 g1 => ((¬ r1 = (z_rsize g1) → (∃ n_ : Nat, vRow_worstTime_23 post n_ a1 (0 : Int32) (0 : Int32) g1)) ∧ (r1 = (z_rsize g1) → (vRow_timeToShut g1 a1 (-1000000 : Int32) (fun r15 g15 => post r15 g15))))))
set_option maxHeartbeats 4000000 in
set_option maxRecDepth 100000 in
theorem lRow_worstTime_78 {Γ : jG} {l : Launch} {D : va_G} {ad : Nat → Nat} {cy : Nat → ClassId} {post : Int32 → GS → Prop} (hC : jC Γ l rRow_worstTime D 6 RX5 cX5_worstTime wsX5_worstTime (tyS cy)) (hQ : jQi Γ D (wS ad cy) post (some .int) 0 0) {K23 : Int32 → Int32 → Int32 → GS → Prop} (hK23 : ∀ (x1 : Int32) (x2 : Int32) (x3 : Int32) (g : GS), K23 x1 x2 x3 g → J Γ D 6 0 0 (wS ad cy g) 23 [(0, .ref (ad 16)), (1, .int x1), (2, .int x2), (3, .int x3)] []) : ∀ (x1 : Int32) (x2 : Int32) (x3 : Int32) (g : GS), vRow_worstTime_78 post K23 x1 x2 x3 g → J Γ D 6 0 0 (wS ad cy g) 78 [(0, .ref (ad 16)), (1, .int x1), (2, .int x2), (3, .int x3)] [] := by
  have hinX5 : ∀ w ∈ wsX50, w ∈ wsX5_worstTime := fun w h => List.mem_cons_of_mem _ (List.mem_append_left _ (List.mem_append_left _ (List.mem_append_left _ (List.mem_append_left _ (List.mem_append_right _ h)))))
  have hinX2 : ∀ w ∈ wsX20, w ∈ wsX5_worstTime := fun w h => List.mem_cons_of_mem _ (List.mem_append_left _ (List.mem_append_left _ (List.mem_append_left _ (List.mem_append_right _ h))))
  have hinX3 : ∀ w ∈ wsX30, w ∈ wsX5_worstTime := fun w h => List.mem_cons_of_mem _ (List.mem_append_left _ (List.mem_append_left _ (List.mem_append_right _ h)))
  have hinX8 : ∀ w ∈ wsX80, w ∈ wsX5_worstTime := fun w h => List.mem_cons_of_mem _ (List.mem_append_left _ (List.mem_append_right _ h))
  have hinX10 : ∀ w ∈ wsX100, w ∈ wsX5_worstTime := fun w h => List.mem_cons_of_mem _ (List.mem_append_right _ h)
  intro x1 x2 x3 g hv
  unfold vRow_worstTime_78 at hv
  refine j_iinc (k := 3) (v := (x3 + (1 : Int32))) (lv' := [(3, .int (x3 + (1 : Int32))), (0, .ref (ad 16)), (1, .int x1), (2, .int x2)]) hC dX5_worstTime_78 rfl rfl (by decide) rfl ?_
  refine j_goto (tgt := 23) hC dX5_worstTime_81 (by decide) ?_
  exact j_lv [1, 2, 3, 0] rfl (hK23 _ _ _ _ hv)
set_option maxHeartbeats 4000000 in
set_option maxRecDepth 100000 in
theorem lRow_worstTime_23 {Γ : jG} {l : Launch} {D : va_G} {ad : Nat → Nat} {cy : Nat → ClassId} {post : Int32 → GS → Prop} (hC : jC Γ l rRow_worstTime D 6 RX5 cX5_worstTime wsX5_worstTime (tyS cy)) (hQ : jQi Γ D (wS ad cy) post (some .int) 0 0) : ∀ (n_ : Nat) (x1 : Int32) (x2 : Int32) (x3 : Int32) (g : GS), vRow_worstTime_23 post n_ x1 x2 x3 g → J Γ D 6 0 0 (wS ad cy g) 23 [(0, .ref (ad 16)), (1, .int x1), (2, .int x2), (3, .int x3)] [] := by
  have hinX5 : ∀ w ∈ wsX50, w ∈ wsX5_worstTime := fun w h => List.mem_cons_of_mem _ (List.mem_append_left _ (List.mem_append_left _ (List.mem_append_left _ (List.mem_append_left _ (List.mem_append_right _ h)))))
  have hinX2 : ∀ w ∈ wsX20, w ∈ wsX5_worstTime := fun w h => List.mem_cons_of_mem _ (List.mem_append_left _ (List.mem_append_left _ (List.mem_append_left _ (List.mem_append_right _ h))))
  have hinX3 : ∀ w ∈ wsX30, w ∈ wsX5_worstTime := fun w h => List.mem_cons_of_mem _ (List.mem_append_left _ (List.mem_append_left _ (List.mem_append_right _ h)))
  have hinX8 : ∀ w ∈ wsX80, w ∈ wsX5_worstTime := fun w h => List.mem_cons_of_mem _ (List.mem_append_left _ (List.mem_append_right _ h))
  have hinX10 : ∀ w ∈ wsX100, w ∈ wsX5_worstTime := fun w h => List.mem_cons_of_mem _ (List.mem_append_right _ h)
  intro n_
  induction n_ with
  | zero => intro x1 x2 x3 g hv; exact False.elim hv
  | succ k_ ih =>
    intro x1 x2 x3 g hv
    unfold vRow_worstTime_23 at hv
    refine j_iload_n (i := 3) hC dX5_worstTime_23 rfl 3 rfl ?_
    refine j_bipush (v := 6) hC dX5_worstTime_24 (by decide) ?_
    refine j_icmp_ge (tgt := 84) hC dX5_worstTime_26 (by decide) (fun h_ => ?_) (fun h_ => ?_)
    · have hv := hv.1 h_
      refine j_iload_n (i := 2) hC dX5_worstTime_84 rfl 2 rfl ?_
      exact j_iret hC hQ dX5_worstTime_85 rfl hv
    · have hv := hv.2 h_
      refine j_aload_n (i := 0) hC dX5_worstTime_29 rfl 0 rfl ?_
      refine j_get (C := RX5) (T := TX5) (N := 3) (v := .ref (ad 17)) hC hinX5 16 (wS_c16 ad cy _) rfl 0 (by decide) (mw 3 rfl) rfl rfl dX5_worstTime_30 ?_
      refine j_iload_n (i := 3) hC dX5_worstTime_33 rfl 3 rfl ?_
      have hb34 := hv.1
      have hv := hv.2
      refine j_aald (v := va_rf (((z_ga g) x3.toNatClampNeg).map (fun k => ad (73 + k)))) hC 17 2 (wS_c17 ad cy _) rfl rfl hb34 rfl dX5_worstTime_34 ?_
      cases ho_ : ((z_ga g) x3.toNatClampNeg) with
      | none =>
        have hv := hv.1 ho_
        refine j_astoreN (lv' := [(4, .null), (0, .ref (ad 16)), (1, .int x1), (2, .int x2), (3, .int x3)]) hC dX5_worstTime_35 (by decide) rfl ?_
        refine j_aloadN hC dX5_worstTime_37 0 rfl ?_
        refine j_ifnullN (tgt := 78) hC dX5_worstTime_39 (by decide) ?_
        exact j_lv [1, 2, 3, 4] rfl (lRow_worstTime_78 hC hQ (K23 := fun x1 x2 x3 g => vRow_worstTime_23 post k_ x1 x2 x3 g) (fun _ _ _ _ h_ => ih _ _ _ _ h_) _ _ _ _ hv)
      | some k34 =>
        have hv := hv.2 k34 ho_
        refine j_astore (lv' := [(4, .ref (ad (73 + k34))), (0, .ref (ad 16)), (1, .int x1), (2, .int x2), (3, .int x3)]) hC dX5_worstTime_35 (by decide) rfl ?_
        refine j_aload hC dX5_worstTime_37 0 rfl ?_
        refine j_ifnull hC dX5_worstTime_39 ?_
        refine j_aload hC dX5_worstTime_42 0 rfl ?_
        have hk44 := hv.1
        have hv := hv.2
        refine j_getG2 (v := .int ((z_gf g) k34)) hC hinX2 hinX3 hinX8 hinX10 hk44 (mw 4 rfl) (Or.inl rfl) rfl dX5_worstTime_44 ?_
        refine j_if_eq (tgt := 53) hC dX5_worstTime_47 (by decide) (fun h_ => ?_) (fun h_ => ?_)
        · have hv := hv.1 h_
          refine j_aload_n (i := 0) hC dX5_worstTime_53 rfl 1 rfl ?_
          refine j_iload_n (i := 1) hC dX5_worstTime_54 rfl 2 rfl ?_
          refine j_iload_n (i := 3) hC dX5_worstTime_55 rfl 4 rfl ?_
          refine j_callV_i (C := RX5) (As := [.int x1, .int x3]) (rest := []) (b := (ad 16)) hC (cRow_timeToShut hv) 2 gX5_worstTime_X5_timeToShut rfl rfl rfl ⟨Nat.le_of_ble_eq_true rfl, Nat.le_of_ble_eq_true rfl⟩ hdRow_timeToShut rfl (wS_c16 ad cy _) rfl rfl (Nat.le_of_ble_eq_true rfl) ⟨Nat.zero_le _, Nat.zero_le _⟩ dX5_worstTime_56 (fun r56 g56 hv => ?_)
          refine j_istore (lv' := [(5, .int r56), (4, .ref (ad (73 + k34))), (0, .ref (ad 16)), (1, .int x1), (2, .int x2), (3, .int x3)]) hC dX5_worstTime_59 (by decide) rfl ?_
          refine j_iload hC dX5_worstTime_61 0 rfl ?_
          refine j_ldc (v := -1000000) hC dX5_worstTime_63 (mw 2 rfl) ?_
          refine j_icmp_ne (tgt := 71) hC dX5_worstTime_65 (by decide) (fun h_ => ?_) (fun h_ => ?_)
          · have hv := hv.1 h_
            refine j_iload_n (i := 2) hC dX5_worstTime_71 rfl 4 rfl ?_
            refine j_iload hC dX5_worstTime_72 0 rfl ?_
            refine j_mmax hC (mw 5 rfl) (mw 6 rfl) (mw 7 rfl) (mw 8 rfl) (Nat.le_of_ble_eq_true rfl) (Nat.le_of_ble_eq_true rfl) (Nat.zero_le _) (Nat.zero_le _) dX5_worstTime_74 ?_
            refine j_istore_n (i := 2) (lv' := [(2, .int (if x2 < r56 then r56 else x2)), (5, .int r56), (4, .ref (ad (73 + k34))), (0, .ref (ad 16)), (1, .int x1), (3, .int x3)]) hC dX5_worstTime_77 rfl (by decide) rfl ?_
            exact j_lv [3, 4, 0, 5] rfl (lRow_worstTime_78 hC hQ (K23 := fun x1 x2 x3 g => vRow_worstTime_23 post k_ x1 x2 x3 g) (fun _ _ _ _ h_ => ih _ _ _ _ h_) _ _ _ _ hv)
          · have hv := hv.2 h_
            refine j_ldc (v := -1000000) hC dX5_worstTime_68 (mw 2 rfl) ?_
            exact j_iret hC hQ dX5_worstTime_70 rfl hv
        · have hv := hv.2 h_
          refine j_goto (tgt := 78) hC dX5_worstTime_50 (by decide) ?_
          exact j_lv [1, 2, 3, 4] rfl (lRow_worstTime_78 hC hQ (K23 := fun x1 x2 x3 g => vRow_worstTime_23 post k_ x1 x2 x3 g) (fun _ _ _ _ h_ => ih _ _ _ _ h_) _ _ _ _ hv)
set_option maxHeartbeats 4000000 in
set_option maxRecDepth 100000 in
theorem cRow_worstTime {l : Launch} {D : va_G} {ad : Nat → Nat} {cy : Nat → ClassId} {g : GS} {a1 : Int32} {post : Int32 → GS → Prop} (hv : vRow_worstTime g a1 post) : jMi l yX5_worstTime wsX5_worstTime rRow_worstTime D (tyS cy) [.ref (ad 16), .int a1] (wS ad cy g) (wS ad cy) post 0 0 := by
  refine j_meti (cc := cX5_worstTime) (nL := 6) (rt := (some .int)) (by decide) (Nat.le_of_ble_eq_true rfl) ?_
  intro Γ hC hQ _
  have hC : jC Γ l rRow_worstTime D 6 RX5 cX5_worstTime wsX5_worstTime (tyS cy) := hC
  have hinX5 : ∀ w ∈ wsX50, w ∈ wsX5_worstTime := fun w h => List.mem_cons_of_mem _ (List.mem_append_left _ (List.mem_append_left _ (List.mem_append_left _ (List.mem_append_left _ (List.mem_append_right _ h)))))
  have hinX2 : ∀ w ∈ wsX20, w ∈ wsX5_worstTime := fun w h => List.mem_cons_of_mem _ (List.mem_append_left _ (List.mem_append_left _ (List.mem_append_left _ (List.mem_append_right _ h))))
  have hinX3 : ∀ w ∈ wsX30, w ∈ wsX5_worstTime := fun w h => List.mem_cons_of_mem _ (List.mem_append_left _ (List.mem_append_left _ (List.mem_append_right _ h)))
  have hinX8 : ∀ w ∈ wsX80, w ∈ wsX5_worstTime := fun w h => List.mem_cons_of_mem _ (List.mem_append_left _ (List.mem_append_right _ h))
  have hinX10 : ∀ w ∈ wsX100, w ∈ wsX5_worstTime := fun w h => List.mem_cons_of_mem _ (List.mem_append_right _ h)
  refine j_lv (lv' := [(0, .ref (ad 16)), (1, .int a1)]) [0, 1] rfl ?_
  unfold vRow_worstTime at hv
  refine j_aload_n (i := 0) hC dX5_worstTime_0 rfl 0 rfl ?_
  refine j_callV_i (C := RX5) (As := []) (rest := []) (b := (ad 16)) hC (cRow_failedOnes hv) 0 gX5_worstTime_X5_failedOnes rfl rfl rfl ⟨Nat.le_of_ble_eq_true rfl, Nat.le_of_ble_eq_true rfl⟩ hdRow_failedOnes rfl (wS_c16 ad cy _) rfl rfl (Nat.le_of_ble_eq_true rfl) ⟨Nat.zero_le _, Nat.zero_le _⟩ dX5_worstTime_1 (fun r1 g1 hv => ?_)
  refine j_aload_n (i := 0) hC dX5_worstTime_4 rfl 0 rfl ?_
  refine j_get (C := RX5) (T := TX5) (N := 3) (v := .int (z_rsize g1)) hC hinX5 16 (wS_c16 ad cy _) rfl 2 (by decide) (mw 1 rfl) rfl rfl dX5_worstTime_5 ?_
  refine j_icmp_ne (tgt := 19) hC dX5_worstTime_8 (by decide) (fun h_ => ?_) (fun h_ => ?_)
  · have hv := hv.1 h_
    refine j_iconst (v := 0) hC dX5_worstTime_19 (by decide) ?_
    refine j_istore_n (i := 2) (lv' := [(2, .int (0 : Int32)), (0, .ref (ad 16)), (1, .int a1)]) hC dX5_worstTime_20 rfl (by decide) rfl ?_
    refine j_iconst (v := 0) hC dX5_worstTime_21 (by decide) ?_
    refine j_istore_n (i := 3) (lv' := [(3, .int (0 : Int32)), (2, .int (0 : Int32)), (0, .ref (ad 16)), (1, .int a1)]) hC dX5_worstTime_22 rfl (by decide) rfl ?_
    obtain ⟨n_, hv⟩ := hv
    exact j_lv [2, 3, 1, 0] rfl (lRow_worstTime_23 hC hQ n_ _ _ _ _ hv)
  · have hv := hv.2 h_
    refine j_aload_n (i := 0) hC dX5_worstTime_11 rfl 0 rfl ?_
    refine j_iload_n (i := 1) hC dX5_worstTime_12 rfl 1 rfl ?_
    refine j_ldc (v := -1000000) hC dX5_worstTime_13 (mw 2 rfl) ?_
    refine j_callV_i (C := RX5) (As := [.int a1, .int (-1000000 : Int32)]) (rest := []) (b := (ad 16)) hC (cRow_timeToShut hv) 2 gX5_worstTime_X5_timeToShut rfl rfl rfl ⟨Nat.le_of_ble_eq_true rfl, Nat.le_of_ble_eq_true rfl⟩ hdRow_timeToShut rfl (wS_c16 ad cy _) rfl rfl (Nat.le_of_ble_eq_true rfl) ⟨Nat.zero_le _, Nat.zero_le _⟩ dX5_worstTime_15 (fun r15 g15 hv => ?_)
    exact j_iret hC hQ dX5_worstTime_18 rfl hv
theorem hdSG_time : yX11_time.cls = RX11 ∧ yX11_time.cls ≠ "java/lang/invoke/MethodHandle" ∧ yX11_time.cls ≠ "java/lang/invoke/VarHandle" ∧ (parseMethodDescriptor yX11_time.desc).map (fun d => d.parameters.length) = some 2 := by decide +kernel
abbrev rSG_time : Room := { frames := 3, cells := 0, slots := 0, locals := 75 }
def vSG_time (g : GS) (a1 : Int32) (a2 : Int32) (post : Int32 → GS → Prop) : Prop :=
  (vSG_within g a1 (1 : Int32) (3 : Int32) (fun r3 g3 => ((r3 = (0 : Int32) → post (-1000001 : Int32) g3) ∧ (¬ r3 = (0 : Int32) → (vSG_within g3 a2 (0 : Int32) (1 : Int32) (fun r12 g12 => ((¬ r12 = (0 : Int32) → ((¬ a2 = (0 : Int32) → (vRow_worstTime g12 a1 (fun r43 g43 => post r43 g43))) ∧ (a2 = (0 : Int32) → (vRow_timeToShut g12 a1 (-1000000 : Int32) (fun r32 g32 => post r32 g32))))) ∧ (r12 = (0 : Int32) → post (-1000001 : Int32) g12))))))))
set_option maxHeartbeats 4000000 in
set_option maxRecDepth 100000 in
theorem cSG_time {l : Launch} {D : va_G} {ad : Nat → Nat} {cy : Nat → ClassId} {g : GS} {a1 : Int32} {a2 : Int32} {post : Int32 → GS → Prop} (hv : vSG_time g a1 a2 post) : jMi l yX11_time wsX11_time rSG_time D (tyS cy) [.ref (ad 0), .int a1, .int a2] (wS ad cy g) (wS ad cy) post 0 0 := by
  refine j_meti (cc := cX11_time) (nL := 3) (rt := (some .int)) (by decide) (Nat.le_of_ble_eq_true rfl) ?_
  intro Γ hC hQ _
  have hC : jC Γ l rSG_time D 3 RX11 cX11_time wsX11_time (tyS cy) := hC
  have hinX11 : ∀ w ∈ wsX110, w ∈ wsX11_time := fun w h => List.mem_cons_of_mem _ (List.mem_append_left _ (List.mem_append_left _ (List.mem_append_left _ (List.mem_append_left _ (List.mem_append_left _ (List.mem_append_right _ h))))))
  refine j_lv (lv' := [(0, .ref (ad 0)), (1, .int a1), (2, .int a2)]) [0, 1, 2] rfl ?_
  unfold vSG_time at hv
  refine j_iload_n (i := 1) hC dX11_time_0 rfl 1 rfl ?_
  refine j_iconst (v := 1) hC dX11_time_1 (by decide) ?_
  refine j_iconst (v := 3) hC dX11_time_2 (by decide) ?_
  refine j_callS_i (As := [.int a1, .int (1 : Int32), .int (3 : Int32)]) (rest := []) hC (cSG_within hv) 3 gX11_time_X11_within rfl rfl rfl ⟨Nat.le_of_ble_eq_true rfl, Nat.le_of_ble_eq_true rfl⟩ hdSG_within.2 rfl rfl (Nat.le_of_ble_eq_true rfl) ⟨Nat.zero_le _, Nat.zero_le _⟩ dX11_time_3 (fun r3 g3 hv => ?_)
  refine j_if_eq (tgt := 18) hC dX11_time_6 (by decide) (fun h_ => ?_) (fun h_ => ?_)
  · have hv := hv.1 h_
    refine j_ldc (v := -1000001) hC dX11_time_18 (mw 1 rfl) ?_
    exact j_iret hC hQ dX11_time_20 rfl hv
  · have hv := hv.2 h_
    refine j_iload_n (i := 2) hC dX11_time_9 rfl 2 rfl ?_
    refine j_iconst (v := 0) hC dX11_time_10 (by decide) ?_
    refine j_iconst (v := 1) hC dX11_time_11 (by decide) ?_
    refine j_callS_i (As := [.int a2, .int (0 : Int32), .int (1 : Int32)]) (rest := []) hC (cSG_within hv) 3 gX11_time_X11_within rfl rfl rfl ⟨Nat.le_of_ble_eq_true rfl, Nat.le_of_ble_eq_true rfl⟩ hdSG_within.2 rfl rfl (Nat.le_of_ble_eq_true rfl) ⟨Nat.zero_le _, Nat.zero_le _⟩ dX11_time_12 (fun r12 g12 hv => ?_)
    refine j_if_ne (tgt := 21) hC dX11_time_15 (by decide) (fun h_ => ?_) (fun h_ => ?_)
    · have hv := hv.1 h_
      refine j_iload_n (i := 2) hC dX11_time_21 rfl 2 rfl ?_
      refine j_if_ne (tgt := 38) hC dX11_time_22 (by decide) (fun h_ => ?_) (fun h_ => ?_)
      · have hv := hv.1 h_
        refine j_aload_n (i := 0) hC dX11_time_38 rfl 0 rfl ?_
        refine j_get (C := RX11) (T := TX11) (N := 8) (v := .ref (ad 16)) hC hinX11 0 (wS_c0 ad cy _) rfl 4 (by decide) (mw 2 rfl) rfl rfl dX11_time_39 ?_
        refine j_iload_n (i := 1) hC dX11_time_42 rfl 1 rfl ?_
        refine j_callV_i (C := RX5) (As := [.int a1]) (rest := []) (b := (ad 16)) hC (cRow_worstTime hv) 1 gX11_time_X5_worstTime rfl rfl rfl ⟨Nat.le_of_ble_eq_true rfl, Nat.le_of_ble_eq_true rfl⟩ hdRow_worstTime rfl (wS_c16 ad cy _) rfl rfl (Nat.le_of_ble_eq_true rfl) ⟨Nat.zero_le _, Nat.zero_le _⟩ dX11_time_43 (fun r43 g43 hv => ?_)
        exact j_iret hC hQ dX11_time_46 rfl hv
      · have hv := hv.2 h_
        refine j_aload_n (i := 0) hC dX11_time_25 rfl 0 rfl ?_
        refine j_get (C := RX11) (T := TX11) (N := 8) (v := .ref (ad 16)) hC hinX11 0 (wS_c0 ad cy _) rfl 4 (by decide) (mw 2 rfl) rfl rfl dX11_time_26 ?_
        refine j_iload_n (i := 1) hC dX11_time_29 rfl 1 rfl ?_
        refine j_ldc (v := -1000000) hC dX11_time_30 (mw 3 rfl) ?_
        refine j_callV_i (C := RX5) (As := [.int a1, .int (-1000000 : Int32)]) (rest := []) (b := (ad 16)) hC (cRow_timeToShut hv) 2 gX11_time_X5_timeToShut rfl rfl rfl ⟨Nat.le_of_ble_eq_true rfl, Nat.le_of_ble_eq_true rfl⟩ hdRow_timeToShut rfl (wS_c16 ad cy _) rfl rfl (Nat.le_of_ble_eq_true rfl) ⟨Nat.zero_le _, Nat.zero_le _⟩ dX11_time_32 (fun r32 g32 hv => ?_)
        refine j_goto (tgt := 46) hC dX11_time_35 (by decide) ?_
        exact j_iret hC hQ dX11_time_46 rfl hv
    · have hv := hv.2 h_
      refine j_ldc (v := -1000001) hC dX11_time_18 (mw 1 rfl) ?_
      exact j_iret hC hQ dX11_time_20 rfl hv
theorem hdFairway_add : yX1_add.cls = RX1 ∧ yX1_add.cls ≠ "java/lang/invoke/MethodHandle" ∧ yX1_add.cls ≠ "java/lang/invoke/VarHandle" ∧ (parseMethodDescriptor yX1_add.desc).map (fun d => d.parameters.length) = some 2 := by decide +kernel
abbrev rFairway_add : Room := { frames := 0, cells := 0, slots := 0, locals := 0 }
def vFairway_add_67 (post : Int32 → GS → Prop) (x3 : Int32) (x4 : Int32) (g : GS) : Prop :=
  (vp_in x4 20 ∧ post x3 (sz_fsize (sz_inTurn g (upd (z_inTurn g) x4.toNatClampNeg x3)) ((z_fsize g) + (1 : Int32))))
def vFairway_add_22 (post : Int32 → GS → Prop) : Nat → Int32 → Int32 → Int32 → GS → Prop
  | 0, _, _, _, _ => False
  | k_ + 1, x1, x3, x4, g =>
  ((x4 ≤ (0 : Int32) → (vFairway_add_67 post x3 x4 g)) ∧ (¬ x4 ≤ (0 : Int32) → (vp_in (x4 - (1 : Int32)) 20 ∧ (vp_in ((z_inTurn g) (x4 - (1 : Int32)).toNatClampNeg) 20 ∧ ((((z_fmin g) ((z_inTurn g) (x4 - (1 : Int32)).toNatClampNeg).toNatClampNeg) ≤ x1 → (vFairway_add_67 post x3 x4 g)) ∧ (¬ ((z_fmin g) ((z_inTurn g) (x4 - (1 : Int32)).toNatClampNeg).toNatClampNeg) ≤ x1 → (vp_in (x4 - (1 : Int32)) 20 ∧ (vp_in x4 20 ∧ (vFairway_add_22 post k_ x1 x3 (x4 + (-1 : Int32)) (sz_inTurn g (upd (z_inTurn g) x4.toNatClampNeg ((z_inTurn g) (x4 - (1 : Int32)).toNatClampNeg))))))))))))
def vFairway_add (g : GS) (a1 : Int32) (a2 : Int32) (post : Int32 → GS → Prop) : Prop :=
  (vp_in (z_fsize g) 20 ∧ (vp_in (z_fsize g) 20 ∧ (∃ n_ : Nat, vFairway_add_22 post n_ a1 (z_fsize g) (z_fsize g) (sz_fpass (sz_fmin g (upd (z_fmin g) (z_fsize g).toNatClampNeg a1)) (upd (z_fpass g) (z_fsize g).toNatClampNeg a2)))))
set_option maxHeartbeats 4000000 in
set_option maxRecDepth 100000 in
theorem lFairway_add_67 {Γ : jG} {l : Launch} {D : va_G} {ad : Nat → Nat} {cy : Nat → ClassId} {post : Int32 → GS → Prop} (hC : jC Γ l rFairway_add D 5 RX1 cX1_add wsX1_add (tyS cy)) (hQ : jQi Γ D (wS ad cy) post (some .int) 0 0) : ∀ (x3 : Int32) (x4 : Int32) (g : GS), vFairway_add_67 post x3 x4 g → J Γ D 5 0 0 (wS ad cy g) 67 [(0, .ref (ad 19)), (3, .int x3), (4, .int x4)] [] := by
  have hinX1 : ∀ w ∈ wsX10, w ∈ wsX1_add := fun w h => List.mem_cons_of_mem _ (List.mem_append_right _ h)
  intro x3 x4 g hv
  unfold vFairway_add_67 at hv
  refine j_aload_n (i := 0) hC dX1_add_67 rfl 0 rfl ?_
  refine j_get (C := RX1) (T := TX1) (N := 4) (v := .ref (ad 22)) hC hinX1 19 (wS_c19 ad cy _) rfl 2 (by decide) (mw 4 rfl) rfl rfl dX1_add_68 ?_
  refine j_iload hC dX1_add_71 2 rfl ?_
  refine j_iload_n (i := 3) hC dX1_add_73 rfl 1 rfl ?_
  have hb74 := hv.1
  have hv := hv.2
  refine j_iast hC _ 0 (wS_c22 ad cy _) rfl hb74 (wS_s_inTurn ad cy _ _) dX1_add_74 ?_
  refine j_aload_n (i := 0) hC dX1_add_75 rfl 0 rfl ?_
  refine j_dup hC dX1_add_76 rfl ?_
  refine j_get (C := RX1) (T := TX1) (N := 4) (v := .int (z_fsize g)) hC hinX1 19 (wS_c19 ad cy _) rfl 3 (by decide) (mw 1 rfl) rfl rfl dX1_add_77 ?_
  refine j_iconst (v := 1) hC dX1_add_80 (by decide) ?_
  refine j_iadd hC dX1_add_81 ?_
  refine j_put (C := RX1) (T := TX1) (N := 4) (ty := .int) hC hinX1 tyX1 tyX1_ok nmX1 19 (wS_c19 ad cy _) rfl 3 (by decide) (mw 1 rfl) rfl rfl fdX1_3 rfl rfl (Nat.le_of_ble_eq_true rfl) (wS_p_fsize ad cy _ _) dX1_add_82 ?_
  refine j_iload_n (i := 3) hC dX1_add_85 rfl 1 rfl ?_
  exact j_iret hC hQ dX1_add_86 rfl hv
set_option maxHeartbeats 4000000 in
set_option maxRecDepth 100000 in
theorem lFairway_add_22 {Γ : jG} {l : Launch} {D : va_G} {ad : Nat → Nat} {cy : Nat → ClassId} {post : Int32 → GS → Prop} (hC : jC Γ l rFairway_add D 5 RX1 cX1_add wsX1_add (tyS cy)) (hQ : jQi Γ D (wS ad cy) post (some .int) 0 0) : ∀ (n_ : Nat) (x1 : Int32) (x3 : Int32) (x4 : Int32) (g : GS), vFairway_add_22 post n_ x1 x3 x4 g → J Γ D 5 0 0 (wS ad cy g) 22 [(0, .ref (ad 19)), (1, .int x1), (3, .int x3), (4, .int x4)] [] := by
  have hinX1 : ∀ w ∈ wsX10, w ∈ wsX1_add := fun w h => List.mem_cons_of_mem _ (List.mem_append_right _ h)
  intro n_
  induction n_ with
  | zero => intro x1 x3 x4 g hv; exact False.elim hv
  | succ k_ ih =>
    intro x1 x3 x4 g hv
    unfold vFairway_add_22 at hv
    refine j_iload hC dX1_add_22 3 rfl ?_
    refine j_if_le (tgt := 67) hC dX1_add_24 (by decide) (fun h_ => ?_) (fun h_ => ?_)
    · have hv := hv.1 h_
      exact j_lv [0, 2, 3] rfl (lFairway_add_67 hC hQ _ _ _ hv)
    · have hv := hv.2 h_
      refine j_aload_n (i := 0) hC dX1_add_27 rfl 0 rfl ?_
      refine j_get (C := RX1) (T := TX1) (N := 4) (v := .ref (ad 20)) hC hinX1 19 (wS_c19 ad cy _) rfl 0 (by decide) (mw 2 rfl) rfl rfl dX1_add_28 ?_
      refine j_aload_n (i := 0) hC dX1_add_31 rfl 0 rfl ?_
      refine j_get (C := RX1) (T := TX1) (N := 4) (v := .ref (ad 22)) hC hinX1 19 (wS_c19 ad cy _) rfl 2 (by decide) (mw 4 rfl) rfl rfl dX1_add_32 ?_
      refine j_iload hC dX1_add_35 3 rfl ?_
      refine j_iconst (v := 1) hC dX1_add_37 (by decide) ?_
      refine j_isub hC dX1_add_38 ?_
      have hb39 := hv.1
      have hv := hv.2
      refine j_iald (v := ((z_inTurn g) (x4 - (1 : Int32)).toNatClampNeg)) hC _ 0 (wS_c22 ad cy _) rfl hb39 rfl dX1_add_39 ?_
      have hb40 := hv.1
      have hv := hv.2
      refine j_iald (v := ((z_fmin g) ((z_inTurn g) (x4 - (1 : Int32)).toNatClampNeg).toNatClampNeg)) hC _ 0 (wS_c20 ad cy _) rfl hb40 rfl dX1_add_40 ?_
      refine j_iload_n (i := 1) hC dX1_add_41 rfl 1 rfl ?_
      refine j_icmp_le (tgt := 67) hC dX1_add_42 (by decide) (fun h_ => ?_) (fun h_ => ?_)
      · have hv := hv.1 h_
        exact j_lv [0, 2, 3] rfl (lFairway_add_67 hC hQ _ _ _ hv)
      · have hv := hv.2 h_
        refine j_aload_n (i := 0) hC dX1_add_45 rfl 0 rfl ?_
        refine j_get (C := RX1) (T := TX1) (N := 4) (v := .ref (ad 22)) hC hinX1 19 (wS_c19 ad cy _) rfl 2 (by decide) (mw 4 rfl) rfl rfl dX1_add_46 ?_
        refine j_iload hC dX1_add_49 3 rfl ?_
        refine j_aload_n (i := 0) hC dX1_add_51 rfl 0 rfl ?_
        refine j_get (C := RX1) (T := TX1) (N := 4) (v := .ref (ad 22)) hC hinX1 19 (wS_c19 ad cy _) rfl 2 (by decide) (mw 4 rfl) rfl rfl dX1_add_52 ?_
        refine j_iload hC dX1_add_55 3 rfl ?_
        refine j_iconst (v := 1) hC dX1_add_57 (by decide) ?_
        refine j_isub hC dX1_add_58 ?_
        have hb59 := hv.1
        have hv := hv.2
        refine j_iald (v := ((z_inTurn g) (x4 - (1 : Int32)).toNatClampNeg)) hC _ 0 (wS_c22 ad cy _) rfl hb59 rfl dX1_add_59 ?_
        have hb60 := hv.1
        have hv := hv.2
        refine j_iast hC _ 0 (wS_c22 ad cy _) rfl hb60 (wS_s_inTurn ad cy _ _) dX1_add_60 ?_
        refine j_iinc (k := 3) (v := (x4 + (-1 : Int32))) (lv' := [(4, .int (x4 + (-1 : Int32))), (0, .ref (ad 19)), (1, .int x1), (3, .int x3)]) hC dX1_add_61 rfl rfl (by decide) rfl ?_
        refine j_goto (tgt := 22) hC dX1_add_64 (by decide) ?_
        exact j_lv [1, 2, 3, 0] rfl (ih _ _ _ _ hv)
set_option maxHeartbeats 4000000 in
set_option maxRecDepth 100000 in
theorem cFairway_add {l : Launch} {D : va_G} {ad : Nat → Nat} {cy : Nat → ClassId} {g : GS} {a1 : Int32} {a2 : Int32} {post : Int32 → GS → Prop} (hv : vFairway_add g a1 a2 post) : jMi l yX1_add wsX1_add rFairway_add D (tyS cy) [.ref (ad 19), .int a1, .int a2] (wS ad cy g) (wS ad cy) post 0 0 := by
  refine j_meti (cc := cX1_add) (nL := 5) (rt := (some .int)) (by decide) (Nat.le_of_ble_eq_true rfl) ?_
  intro Γ hC hQ _
  have hC : jC Γ l rFairway_add D 5 RX1 cX1_add wsX1_add (tyS cy) := hC
  have hinX1 : ∀ w ∈ wsX10, w ∈ wsX1_add := fun w h => List.mem_cons_of_mem _ (List.mem_append_right _ h)
  refine j_lv (lv' := [(0, .ref (ad 19)), (1, .int a1), (2, .int a2)]) [0, 1, 2] rfl ?_
  unfold vFairway_add at hv
  refine j_aload_n (i := 0) hC dX1_add_0 rfl 0 rfl ?_
  refine j_get (C := RX1) (T := TX1) (N := 4) (v := .int (z_fsize g)) hC hinX1 19 (wS_c19 ad cy _) rfl 3 (by decide) (mw 1 rfl) rfl rfl dX1_add_1 ?_
  refine j_istore_n (i := 3) (lv' := [(3, .int (z_fsize g)), (0, .ref (ad 19)), (1, .int a1), (2, .int a2)]) hC dX1_add_4 rfl (by decide) rfl ?_
  refine j_aload_n (i := 0) hC dX1_add_5 rfl 1 rfl ?_
  refine j_get (C := RX1) (T := TX1) (N := 4) (v := .ref (ad 20)) hC hinX1 19 (wS_c19 ad cy _) rfl 0 (by decide) (mw 2 rfl) rfl rfl dX1_add_6 ?_
  refine j_iload_n (i := 3) hC dX1_add_9 rfl 0 rfl ?_
  refine j_iload_n (i := 1) hC dX1_add_10 rfl 2 rfl ?_
  have hb11 := hv.1
  have hv := hv.2
  refine j_iast hC _ 0 (wS_c20 ad cy _) rfl hb11 (wS_s_fmin ad cy _ _) dX1_add_11 ?_
  refine j_aload_n (i := 0) hC dX1_add_12 rfl 1 rfl ?_
  refine j_get (C := RX1) (T := TX1) (N := 4) (v := .ref (ad 21)) hC hinX1 19 (wS_c19 ad cy _) rfl 1 (by decide) (mw 3 rfl) rfl rfl dX1_add_13 ?_
  refine j_iload_n (i := 3) hC dX1_add_16 rfl 0 rfl ?_
  refine j_iload_n (i := 2) hC dX1_add_17 rfl 3 rfl ?_
  have hb18 := hv.1
  have hv := hv.2
  refine j_iast hC _ 0 (wS_c21 ad cy _) rfl hb18 (wS_s_fpass ad cy _ _) dX1_add_18 ?_
  refine j_iload_n (i := 3) hC dX1_add_19 rfl 0 rfl ?_
  refine j_istore (lv' := [(4, .int (z_fsize g)), (3, .int (z_fsize g)), (0, .ref (ad 19)), (1, .int a1), (2, .int a2)]) hC dX1_add_20 (by decide) rfl ?_
  obtain ⟨n_, hv⟩ := hv
  exact j_lv [2, 3, 1, 0] rfl (lFairway_add_22 hC hQ n_ _ _ _ _ hv)
theorem hdSG_ship : yX11_ship.cls = RX11 ∧ yX11_ship.cls ≠ "java/lang/invoke/MethodHandle" ∧ yX11_ship.cls ≠ "java/lang/invoke/VarHandle" ∧ (parseMethodDescriptor yX11_ship.desc).map (fun d => d.parameters.length) = some 2 := by decide +kernel
abbrev rSG_ship : Room := { frames := 1, cells := 0, slots := 0, locals := 24 }
def vSG_ship (g : GS) (a1 : Int32) (a2 : Int32) (post : Int32 → GS → Prop) : Prop :=
  (vSG_within g a1 (0 : Int32) (100000 : Int32) (fun r4 g4 => ((r4 = (0 : Int32) → post (-1000001 : Int32) g4) ∧ (¬ r4 = (0 : Int32) → (vSG_within g4 a2 (1 : Int32) (500 : Int32) (fun r15 g15 => ((¬ r15 = (0 : Int32) → (((z_fsize g15) < (20 : Int32) → (vFairway_add g15 a1 a2 (fun r47 g47 => post r47 g47))) ∧ (¬ (z_fsize g15) < (20 : Int32) → post (-1000003 : Int32) g15))) ∧ (r15 = (0 : Int32) → post (-1000001 : Int32) g15))))))))
set_option maxHeartbeats 4000000 in
set_option maxRecDepth 100000 in
theorem cSG_ship {l : Launch} {D : va_G} {ad : Nat → Nat} {cy : Nat → ClassId} {g : GS} {a1 : Int32} {a2 : Int32} {post : Int32 → GS → Prop} (hv : vSG_ship g a1 a2 post) : jMi l yX11_ship wsX11_ship rSG_ship D (tyS cy) [.ref (ad 0), .int a1, .int a2] (wS ad cy g) (wS ad cy) post 0 0 := by
  refine j_meti (cc := cX11_ship) (nL := 3) (rt := (some .int)) (by decide) (Nat.le_of_ble_eq_true rfl) ?_
  intro Γ hC hQ _
  have hC : jC Γ l rSG_ship D 3 RX11 cX11_ship wsX11_ship (tyS cy) := hC
  have hinX11 : ∀ w ∈ wsX110, w ∈ wsX11_ship := fun w h => List.mem_cons_of_mem _ (List.mem_append_left _ (List.mem_append_right _ h))
  have hinX1 : ∀ w ∈ wsX10, w ∈ wsX11_ship := fun w h => List.mem_cons_of_mem _ (List.mem_append_right _ h)
  refine j_lv (lv' := [(0, .ref (ad 0)), (1, .int a1), (2, .int a2)]) [0, 1, 2] rfl ?_
  unfold vSG_ship at hv
  refine j_iload_n (i := 1) hC dX11_ship_0 rfl 1 rfl ?_
  refine j_iconst (v := 0) hC dX11_ship_1 (by decide) ?_
  refine j_ldc (v := 100000) hC dX11_ship_2 (mw 1 rfl) ?_
  refine j_callS_i (As := [.int a1, .int (0 : Int32), .int (100000 : Int32)]) (rest := []) hC (cSG_within hv) 3 gX11_ship_X11_within rfl rfl rfl ⟨Nat.le_of_ble_eq_true rfl, Nat.le_of_ble_eq_true rfl⟩ hdSG_within.2 rfl rfl (Nat.le_of_ble_eq_true rfl) ⟨Nat.zero_le _, Nat.zero_le _⟩ dX11_ship_4 (fun r4 g4 hv => ?_)
  refine j_if_eq (tgt := 21) hC dX11_ship_7 (by decide) (fun h_ => ?_) (fun h_ => ?_)
  · have hv := hv.1 h_
    refine j_ldc (v := -1000001) hC dX11_ship_21 (mw 2 rfl) ?_
    exact j_iret hC hQ dX11_ship_23 rfl hv
  · have hv := hv.2 h_
    refine j_iload_n (i := 2) hC dX11_ship_10 rfl 2 rfl ?_
    refine j_iconst (v := 1) hC dX11_ship_11 (by decide) ?_
    refine j_sipush (v := 500) hC dX11_ship_12 (by decide) ?_
    refine j_callS_i (As := [.int a2, .int (1 : Int32), .int (500 : Int32)]) (rest := []) hC (cSG_within hv) 3 gX11_ship_X11_within rfl rfl rfl ⟨Nat.le_of_ble_eq_true rfl, Nat.le_of_ble_eq_true rfl⟩ hdSG_within.2 rfl rfl (Nat.le_of_ble_eq_true rfl) ⟨Nat.zero_le _, Nat.zero_le _⟩ dX11_ship_15 (fun r15 g15 hv => ?_)
    refine j_if_ne (tgt := 24) hC dX11_ship_18 (by decide) (fun h_ => ?_) (fun h_ => ?_)
    · have hv := hv.1 h_
      refine j_aload_n (i := 0) hC dX11_ship_24 rfl 0 rfl ?_
      refine j_get (C := RX11) (T := TX11) (N := 8) (v := .ref (ad 19)) hC hinX11 0 (wS_c0 ad cy _) rfl 5 (by decide) (mw 3 rfl) rfl rfl dX11_ship_25 ?_
      refine j_get (C := RX1) (T := TX1) (N := 4) (v := .int (z_fsize g15)) hC hinX1 19 (wS_c19 ad cy _) rfl 3 (by decide) (mw 4 rfl) rfl rfl dX11_ship_28 ?_
      refine j_bipush (v := 20) hC dX11_ship_31 (by decide) ?_
      refine j_icmp_lt (tgt := 41) hC dX11_ship_33 (by decide) (fun h_ => ?_) (fun h_ => ?_)
      · have hv := hv.1 h_
        refine j_aload_n (i := 0) hC dX11_ship_41 rfl 0 rfl ?_
        refine j_get (C := RX11) (T := TX11) (N := 8) (v := .ref (ad 19)) hC hinX11 0 (wS_c0 ad cy _) rfl 5 (by decide) (mw 3 rfl) rfl rfl dX11_ship_42 ?_
        refine j_iload_n (i := 1) hC dX11_ship_45 rfl 1 rfl ?_
        refine j_iload_n (i := 2) hC dX11_ship_46 rfl 2 rfl ?_
        refine j_callV_i (C := RX1) (As := [.int a1, .int a2]) (rest := []) (b := (ad 19)) hC (cFairway_add hv) 2 gX11_ship_X1_add rfl rfl rfl ⟨Nat.le_of_ble_eq_true rfl, Nat.le_of_ble_eq_true rfl⟩ hdFairway_add rfl (wS_c19 ad cy _) rfl rfl (Nat.le_of_ble_eq_true rfl) ⟨Nat.zero_le _, Nat.zero_le _⟩ dX11_ship_47 (fun r47 g47 hv => ?_)
        exact j_iret hC hQ dX11_ship_50 rfl hv
      · have hv := hv.2 h_
        refine j_ldc (v := -1000003) hC dX11_ship_36 (mw 5 rfl) ?_
        refine j_goto (tgt := 50) hC dX11_ship_38 (by decide) ?_
        exact j_iret hC hQ dX11_ship_50 rfl hv
    · have hv := hv.2 h_
      refine j_ldc (v := -1000001) hC dX11_ship_21 (mw 2 rfl) ?_
      exact j_iret hC hQ dX11_ship_23 rfl hv
theorem hdFairway_waitOf : yX1_waitOf.cls = RX1 ∧ yX1_waitOf.cls ≠ "java/lang/invoke/MethodHandle" ∧ yX1_waitOf.cls ≠ "java/lang/invoke/VarHandle" ∧ (parseMethodDescriptor yX1_waitOf.desc).map (fun d => d.parameters.length) = some 3 := by decide +kernel
abbrev rFairway_waitOf : Room := { frames := 1, cells := 0, slots := 0, locals := 21 }
def vFairway_waitOf_74 (post : Int32 → GS → Prop) (K9 : Int32 → Int32 → Int32 → Int32 → Int32 → Int32 → GS → Prop) (x1 : Int32) (x2 : Int32) (x3 : Int32) (x4 : Int32) (x6 : Int32) (x7 : Int32) (x8 : Int32) (g : GS) : Prop :=
  (vp_in x7 20 ∧ (K9 x1 x2 x3 x4 (x8 + ((z_fpass g) x7.toNatClampNeg)) (x6 + (1 : Int32)) g))
def vFairway_waitOf_56 (post : Int32 → GS → Prop) (K9 : Int32 → Int32 → Int32 → Int32 → Int32 → Int32 → GS → Prop) (x1 : Int32) (x2 : Int32) (x3 : Int32) (x4 : Int32) (x6 : Int32) (x7 : Int32) (x8 : Int32) (g : GS) : Prop :=
  ((¬ x7 = x1 → (vFairway_waitOf_74 post K9 x1 x2 x3 x4 x6 x7 x8 g)) ∧ (x7 = x1 → (vp_in x7 20 ∧ (vFairway_waitOf_74 post K9 x1 x2 x3 (x8 - ((z_fmin g) x7.toNatClampNeg)) x6 x7 x8 g))))
def vFairway_waitOf_9 (post : Int32 → GS → Prop) : Nat → Int32 → Int32 → Int32 → Int32 → Int32 → Int32 → GS → Prop
  | 0, _, _, _, _, _, _, _ => False
  | k_ + 1, x1, x2, x3, x4, x5, x6, g =>
  (((z_fsize g) ≤ x6 → post x4 g) ∧ (¬ (z_fsize g) ≤ x6 → (vp_in x6 20 ∧ (vp_in ((z_inTurn g) x6.toNatClampNeg) 20 ∧ (((if x5 < ((z_fmin g) ((z_inTurn g) x6.toNatClampNeg).toNatClampNeg) then ((z_fmin g) ((z_inTurn g) x6.toNatClampNeg).toNatClampNeg) else x5) < x2 → (vFairway_waitOf_56 post (fun x1 x2 x3 x4 x5 x6 g => vFairway_waitOf_9 post k_ x1 x2 x3 x4 x5 x6 g) x1 x2 x3 x4 x6 ((z_inTurn g) x6.toNatClampNeg) (if x5 < ((z_fmin g) ((z_inTurn g) x6.toNatClampNeg).toNatClampNeg) then ((z_fmin g) ((z_inTurn g) x6.toNatClampNeg).toNatClampNeg) else x5) g)) ∧ (¬ (if x5 < ((z_fmin g) ((z_inTurn g) x6.toNatClampNeg).toNatClampNeg) then ((z_fmin g) ((z_inTurn g) x6.toNatClampNeg).toNatClampNeg) else x5) < x2 → ((x3 ≤ (if x5 < ((z_fmin g) ((z_inTurn g) x6.toNatClampNeg).toNatClampNeg) then ((z_fmin g) ((z_inTurn g) x6.toNatClampNeg).toNatClampNeg) else x5) → (vFairway_waitOf_56 post (fun x1 x2 x3 x4 x5 x6 g => vFairway_waitOf_9 post k_ x1 x2 x3 x4 x5 x6 g) x1 x2 x3 x4 x6 ((z_inTurn g) x6.toNatClampNeg) (if x5 < ((z_fmin g) ((z_inTurn g) x6.toNatClampNeg).toNatClampNeg) then ((z_fmin g) ((z_inTurn g) x6.toNatClampNeg).toNatClampNeg) else x5) g)) ∧ (¬ x3 ≤ (if x5 < ((z_fmin g) ((z_inTurn g) x6.toNatClampNeg).toNatClampNeg) then ((z_fmin g) ((z_inTurn g) x6.toNatClampNeg).toNatClampNeg) else x5) → (vFairway_waitOf_56 post (fun x1 x2 x3 x4 x5 x6 g => vFairway_waitOf_9 post k_ x1 x2 x3 x4 x5 x6 g) x1 x2 x3 x4 x6 ((z_inTurn g) x6.toNatClampNeg) x3 g)))))))))
def vFairway_waitOf (g : GS) (a1 : Int32) (a2 : Int32) (a3 : Int32) (post : Int32 → GS → Prop) : Prop :=
  (∃ n_ : Nat, vFairway_waitOf_9 post n_ a1 a2 a3 (0 : Int32) (0 : Int32) (0 : Int32) g)
set_option maxHeartbeats 4000000 in
set_option maxRecDepth 100000 in
theorem lFairway_waitOf_74 {Γ : jG} {l : Launch} {D : va_G} {ad : Nat → Nat} {cy : Nat → ClassId} {post : Int32 → GS → Prop} (hC : jC Γ l rFairway_waitOf D 9 RX1 cX1_waitOf wsX1_waitOf (tyS cy)) (hQ : jQi Γ D (wS ad cy) post (some .int) 0 0) {K9 : Int32 → Int32 → Int32 → Int32 → Int32 → Int32 → GS → Prop} (hK9 : ∀ (x1 : Int32) (x2 : Int32) (x3 : Int32) (x4 : Int32) (x5 : Int32) (x6 : Int32) (g : GS), K9 x1 x2 x3 x4 x5 x6 g → J Γ D 9 0 0 (wS ad cy g) 9 [(0, .ref (ad 19)), (1, .int x1), (2, .int x2), (3, .int x3), (4, .int x4), (5, .int x5), (6, .int x6)] []) : ∀ (x1 : Int32) (x2 : Int32) (x3 : Int32) (x4 : Int32) (x6 : Int32) (x7 : Int32) (x8 : Int32) (g : GS), vFairway_waitOf_74 post K9 x1 x2 x3 x4 x6 x7 x8 g → J Γ D 9 0 0 (wS ad cy g) 74 [(0, .ref (ad 19)), (1, .int x1), (2, .int x2), (3, .int x3), (4, .int x4), (6, .int x6), (7, .int x7), (8, .int x8)] [] := by
  have hinX1 : ∀ w ∈ wsX10, w ∈ wsX1_waitOf := fun w h => List.mem_cons_of_mem _ (List.mem_append_right _ h)
  intro x1 x2 x3 x4 x6 x7 x8 g hv
  unfold vFairway_waitOf_74 at hv
  refine j_iload hC dX1_waitOf_74 7 rfl ?_
  refine j_aload_n (i := 0) hC dX1_waitOf_76 rfl 0 rfl ?_
  refine j_get (C := RX1) (T := TX1) (N := 4) (v := .ref (ad 21)) hC hinX1 19 (wS_c19 ad cy _) rfl 1 (by decide) (mw 8 rfl) rfl rfl dX1_waitOf_77 ?_
  refine j_iload hC dX1_waitOf_80 6 rfl ?_
  have hb82 := hv.1
  have hv := hv.2
  refine j_iald (v := ((z_fpass g) x7.toNatClampNeg)) hC _ 0 (wS_c21 ad cy _) rfl hb82 rfl dX1_waitOf_82 ?_
  refine j_iadd hC dX1_waitOf_83 ?_
  refine j_istore (lv' := [(5, .int (x8 + ((z_fpass g) x7.toNatClampNeg))), (0, .ref (ad 19)), (1, .int x1), (2, .int x2), (3, .int x3), (4, .int x4), (6, .int x6), (7, .int x7), (8, .int x8)]) hC dX1_waitOf_84 (by decide) rfl ?_
  refine j_iinc (k := 6) (v := (x6 + (1 : Int32))) (lv' := [(6, .int (x6 + (1 : Int32))), (5, .int (x8 + ((z_fpass g) x7.toNatClampNeg))), (0, .ref (ad 19)), (1, .int x1), (2, .int x2), (3, .int x3), (4, .int x4), (7, .int x7), (8, .int x8)]) hC dX1_waitOf_86 rfl rfl (by decide) rfl ?_
  refine j_goto (tgt := 9) hC dX1_waitOf_89 (by decide) ?_
  exact j_lv [2, 3, 4, 5, 6, 1, 0] rfl (hK9 _ _ _ _ _ _ _ hv)
set_option maxHeartbeats 4000000 in
set_option maxRecDepth 100000 in
theorem lFairway_waitOf_56 {Γ : jG} {l : Launch} {D : va_G} {ad : Nat → Nat} {cy : Nat → ClassId} {post : Int32 → GS → Prop} (hC : jC Γ l rFairway_waitOf D 9 RX1 cX1_waitOf wsX1_waitOf (tyS cy)) (hQ : jQi Γ D (wS ad cy) post (some .int) 0 0) {K9 : Int32 → Int32 → Int32 → Int32 → Int32 → Int32 → GS → Prop} (hK9 : ∀ (x1 : Int32) (x2 : Int32) (x3 : Int32) (x4 : Int32) (x5 : Int32) (x6 : Int32) (g : GS), K9 x1 x2 x3 x4 x5 x6 g → J Γ D 9 0 0 (wS ad cy g) 9 [(0, .ref (ad 19)), (1, .int x1), (2, .int x2), (3, .int x3), (4, .int x4), (5, .int x5), (6, .int x6)] []) : ∀ (x1 : Int32) (x2 : Int32) (x3 : Int32) (x4 : Int32) (x6 : Int32) (x7 : Int32) (x8 : Int32) (g : GS), vFairway_waitOf_56 post K9 x1 x2 x3 x4 x6 x7 x8 g → J Γ D 9 0 0 (wS ad cy g) 56 [(0, .ref (ad 19)), (1, .int x1), (2, .int x2), (3, .int x3), (4, .int x4), (6, .int x6), (7, .int x7), (8, .int x8)] [] := by
  have hinX1 : ∀ w ∈ wsX10, w ∈ wsX1_waitOf := fun w h => List.mem_cons_of_mem _ (List.mem_append_right _ h)
  intro x1 x2 x3 x4 x6 x7 x8 g hv
  unfold vFairway_waitOf_56 at hv
  refine j_iload hC dX1_waitOf_56 6 rfl ?_
  refine j_iload_n (i := 1) hC dX1_waitOf_58 rfl 1 rfl ?_
  refine j_icmp_ne (tgt := 74) hC dX1_waitOf_59 (by decide) (fun h_ => ?_) (fun h_ => ?_)
  · have hv := hv.1 h_
    exact j_lv [0, 1, 2, 3, 4, 5, 6, 7] rfl (lFairway_waitOf_74 hC hQ hK9 _ _ _ _ _ _ _ _ hv)
  · have hv := hv.2 h_
    refine j_iload hC dX1_waitOf_62 7 rfl ?_
    refine j_aload_n (i := 0) hC dX1_waitOf_64 rfl 0 rfl ?_
    refine j_get (C := RX1) (T := TX1) (N := 4) (v := .ref (ad 20)) hC hinX1 19 (wS_c19 ad cy _) rfl 0 (by decide) (mw 3 rfl) rfl rfl dX1_waitOf_65 ?_
    refine j_iload hC dX1_waitOf_68 6 rfl ?_
    have hb70 := hv.1
    have hv := hv.2
    refine j_iald (v := ((z_fmin g) x7.toNatClampNeg)) hC _ 0 (wS_c20 ad cy _) rfl hb70 rfl dX1_waitOf_70 ?_
    refine j_isub hC dX1_waitOf_71 ?_
    refine j_istore (lv' := [(4, .int (x8 - ((z_fmin g) x7.toNatClampNeg))), (0, .ref (ad 19)), (1, .int x1), (2, .int x2), (3, .int x3), (6, .int x6), (7, .int x7), (8, .int x8)]) hC dX1_waitOf_72 (by decide) rfl ?_
    exact j_lv [1, 2, 3, 4, 0, 5, 6, 7] rfl (lFairway_waitOf_74 hC hQ hK9 _ _ _ _ _ _ _ _ hv)
set_option maxHeartbeats 4000000 in
set_option maxRecDepth 100000 in
theorem lFairway_waitOf_9 {Γ : jG} {l : Launch} {D : va_G} {ad : Nat → Nat} {cy : Nat → ClassId} {post : Int32 → GS → Prop} (hC : jC Γ l rFairway_waitOf D 9 RX1 cX1_waitOf wsX1_waitOf (tyS cy)) (hQ : jQi Γ D (wS ad cy) post (some .int) 0 0) : ∀ (n_ : Nat) (x1 : Int32) (x2 : Int32) (x3 : Int32) (x4 : Int32) (x5 : Int32) (x6 : Int32) (g : GS), vFairway_waitOf_9 post n_ x1 x2 x3 x4 x5 x6 g → J Γ D 9 0 0 (wS ad cy g) 9 [(0, .ref (ad 19)), (1, .int x1), (2, .int x2), (3, .int x3), (4, .int x4), (5, .int x5), (6, .int x6)] [] := by
  have hinX1 : ∀ w ∈ wsX10, w ∈ wsX1_waitOf := fun w h => List.mem_cons_of_mem _ (List.mem_append_right _ h)
  intro n_
  induction n_ with
  | zero => intro x1 x2 x3 x4 x5 x6 g hv; exact False.elim hv
  | succ k_ ih =>
    intro x1 x2 x3 x4 x5 x6 g hv
    unfold vFairway_waitOf_9 at hv
    refine j_iload hC dX1_waitOf_9 6 rfl ?_
    refine j_aload_n (i := 0) hC dX1_waitOf_11 rfl 0 rfl ?_
    refine j_get (C := RX1) (T := TX1) (N := 4) (v := .int (z_fsize g)) hC hinX1 19 (wS_c19 ad cy _) rfl 3 (by decide) (mw 1 rfl) rfl rfl dX1_waitOf_12 ?_
    refine j_icmp_ge (tgt := 92) hC dX1_waitOf_15 (by decide) (fun h_ => ?_) (fun h_ => ?_)
    · have hv := hv.1 h_
      refine j_iload hC dX1_waitOf_92 4 rfl ?_
      exact j_iret hC hQ dX1_waitOf_94 rfl hv
    · have hv := hv.2 h_
      refine j_aload_n (i := 0) hC dX1_waitOf_18 rfl 0 rfl ?_
      refine j_get (C := RX1) (T := TX1) (N := 4) (v := .ref (ad 22)) hC hinX1 19 (wS_c19 ad cy _) rfl 2 (by decide) (mw 2 rfl) rfl rfl dX1_waitOf_19 ?_
      refine j_iload hC dX1_waitOf_22 6 rfl ?_
      have hb24 := hv.1
      have hv := hv.2
      refine j_iald (v := ((z_inTurn g) x6.toNatClampNeg)) hC _ 0 (wS_c22 ad cy _) rfl hb24 rfl dX1_waitOf_24 ?_
      refine j_istore (lv' := [(7, .int ((z_inTurn g) x6.toNatClampNeg)), (0, .ref (ad 19)), (1, .int x1), (2, .int x2), (3, .int x3), (4, .int x4), (5, .int x5), (6, .int x6)]) hC dX1_waitOf_25 (by decide) rfl ?_
      refine j_iload hC dX1_waitOf_27 6 rfl ?_
      refine j_aload_n (i := 0) hC dX1_waitOf_29 rfl 1 rfl ?_
      refine j_get (C := RX1) (T := TX1) (N := 4) (v := .ref (ad 20)) hC hinX1 19 (wS_c19 ad cy _) rfl 0 (by decide) (mw 3 rfl) rfl rfl dX1_waitOf_30 ?_
      refine j_iload hC dX1_waitOf_33 0 rfl ?_
      have hb35 := hv.1
      have hv := hv.2
      refine j_iald (v := ((z_fmin g) ((z_inTurn g) x6.toNatClampNeg).toNatClampNeg)) hC _ 0 (wS_c20 ad cy _) rfl hb35 rfl dX1_waitOf_35 ?_
      refine j_mmax hC (mw 4 rfl) (mw 5 rfl) (mw 6 rfl) (mw 7 rfl) (Nat.le_of_ble_eq_true rfl) (Nat.le_of_ble_eq_true rfl) (Nat.zero_le _) (Nat.zero_le _) dX1_waitOf_36 ?_
      refine j_istore (lv' := [(8, .int (if x5 < ((z_fmin g) ((z_inTurn g) x6.toNatClampNeg).toNatClampNeg) then ((z_fmin g) ((z_inTurn g) x6.toNatClampNeg).toNatClampNeg) else x5)), (7, .int ((z_inTurn g) x6.toNatClampNeg)), (0, .ref (ad 19)), (1, .int x1), (2, .int x2), (3, .int x3), (4, .int x4), (5, .int x5), (6, .int x6)]) hC dX1_waitOf_39 (by decide) rfl ?_
      refine j_iload_n (i := 2) hC dX1_waitOf_41 rfl 4 rfl ?_
      refine j_iload hC dX1_waitOf_42 0 rfl ?_
      refine j_icmp_gt (tgt := 56) hC dX1_waitOf_44 (by decide) (fun h_ => ?_) (fun h_ => ?_)
      · have hv := hv.1 h_
        exact j_lv [2, 3, 4, 5, 6, 8, 1, 0] rfl (lFairway_waitOf_56 hC hQ (K9 := fun x1 x2 x3 x4 x5 x6 g => vFairway_waitOf_9 post k_ x1 x2 x3 x4 x5 x6 g) (fun _ _ _ _ _ _ _ h_ => ih _ _ _ _ _ _ _ h_) _ _ _ _ _ _ _ _ hv)
      · have hv := hv.2 h_
        refine j_iload hC dX1_waitOf_47 0 rfl ?_
        refine j_iload_n (i := 3) hC dX1_waitOf_49 rfl 5 rfl ?_
        refine j_icmp_ge (tgt := 56) hC dX1_waitOf_50 (by decide) (fun h_ => ?_) (fun h_ => ?_)
        · have hv := hv.1 h_
          exact j_lv [2, 3, 4, 5, 6, 8, 1, 0] rfl (lFairway_waitOf_56 hC hQ (K9 := fun x1 x2 x3 x4 x5 x6 g => vFairway_waitOf_9 post k_ x1 x2 x3 x4 x5 x6 g) (fun _ _ _ _ _ _ _ h_ => ih _ _ _ _ _ _ _ h_) _ _ _ _ _ _ _ _ hv)
        · have hv := hv.2 h_
          refine j_iload_n (i := 3) hC dX1_waitOf_53 rfl 5 rfl ?_
          refine j_istore (lv' := [(8, .int x3), (7, .int ((z_inTurn g) x6.toNatClampNeg)), (0, .ref (ad 19)), (1, .int x1), (2, .int x2), (3, .int x3), (4, .int x4), (5, .int x5), (6, .int x6)]) hC dX1_waitOf_54 (by decide) rfl ?_
          exact j_lv [2, 3, 4, 5, 6, 8, 1, 0] rfl (lFairway_waitOf_56 hC hQ (K9 := fun x1 x2 x3 x4 x5 x6 g => vFairway_waitOf_9 post k_ x1 x2 x3 x4 x5 x6 g) (fun _ _ _ _ _ _ _ h_ => ih _ _ _ _ _ _ _ h_) _ _ _ _ _ _ _ _ hv)
set_option maxHeartbeats 4000000 in
set_option maxRecDepth 100000 in
theorem cFairway_waitOf {l : Launch} {D : va_G} {ad : Nat → Nat} {cy : Nat → ClassId} {g : GS} {a1 : Int32} {a2 : Int32} {a3 : Int32} {post : Int32 → GS → Prop} (hv : vFairway_waitOf g a1 a2 a3 post) : jMi l yX1_waitOf wsX1_waitOf rFairway_waitOf D (tyS cy) [.ref (ad 19), .int a1, .int a2, .int a3] (wS ad cy g) (wS ad cy) post 0 0 := by
  refine j_meti (cc := cX1_waitOf) (nL := 9) (rt := (some .int)) (by decide) (Nat.le_of_ble_eq_true rfl) ?_
  intro Γ hC hQ _
  have hC : jC Γ l rFairway_waitOf D 9 RX1 cX1_waitOf wsX1_waitOf (tyS cy) := hC
  have hinX1 : ∀ w ∈ wsX10, w ∈ wsX1_waitOf := fun w h => List.mem_cons_of_mem _ (List.mem_append_right _ h)
  refine j_lv (lv' := [(0, .ref (ad 19)), (1, .int a1), (2, .int a2), (3, .int a3)]) [0, 1, 2, 3] rfl ?_
  unfold vFairway_waitOf at hv
  refine j_iconst (v := 0) hC dX1_waitOf_0 (by decide) ?_
  refine j_istore (lv' := [(4, .int (0 : Int32)), (0, .ref (ad 19)), (1, .int a1), (2, .int a2), (3, .int a3)]) hC dX1_waitOf_1 (by decide) rfl ?_
  refine j_iconst (v := 0) hC dX1_waitOf_3 (by decide) ?_
  refine j_istore (lv' := [(5, .int (0 : Int32)), (4, .int (0 : Int32)), (0, .ref (ad 19)), (1, .int a1), (2, .int a2), (3, .int a3)]) hC dX1_waitOf_4 (by decide) rfl ?_
  refine j_iconst (v := 0) hC dX1_waitOf_6 (by decide) ?_
  refine j_istore (lv' := [(6, .int (0 : Int32)), (5, .int (0 : Int32)), (4, .int (0 : Int32)), (0, .ref (ad 19)), (1, .int a1), (2, .int a2), (3, .int a3)]) hC dX1_waitOf_7 (by decide) rfl ?_
  obtain ⟨n_, hv⟩ := hv
  exact j_lv [3, 4, 5, 6, 2, 1, 0] rfl (lFairway_waitOf_9 hC hQ n_ _ _ _ _ _ _ _ hv)
theorem hdSG_waits : yX11_waits.cls = RX11 ∧ yX11_waits.cls ≠ "java/lang/invoke/MethodHandle" ∧ yX11_waits.cls ≠ "java/lang/invoke/VarHandle" ∧ (parseMethodDescriptor yX11_waits.desc).map (fun d => d.parameters.length) = some 3 := by decide +kernel
abbrev rSG_waits : Room := { frames := 2, cells := 0, slots := 0, locals := 49 }
def vSG_waits (g : GS) (a1 : Int32) (a2 : Int32) (a3 : Int32) (post : Int32 → GS → Prop) : Prop :=
  (vSG_within g a1 (0 : Int32) ((z_fsize g) - (1 : Int32)) (fun r11 g11 => ((r11 = (0 : Int32) → post (-1000001 : Int32) g11) ∧ (¬ r11 = (0 : Int32) → (vSG_within g11 a2 (0 : Int32) (100000 : Int32) (fun r21 g21 => ((r21 = (0 : Int32) → post (-1000001 : Int32) g21) ∧ (¬ r21 = (0 : Int32) → (vSG_within g21 a3 a2 (100000 : Int32) (fun r31 g31 => ((¬ r31 = (0 : Int32) → (vFairway_waitOf g31 a1 a2 a3 (fun r47 g47 => post r47 g47))) ∧ (r31 = (0 : Int32) → post (-1000001 : Int32) g31))))))))))))
set_option maxHeartbeats 4000000 in
set_option maxRecDepth 100000 in
theorem cSG_waits {l : Launch} {D : va_G} {ad : Nat → Nat} {cy : Nat → ClassId} {g : GS} {a1 : Int32} {a2 : Int32} {a3 : Int32} {post : Int32 → GS → Prop} (hv : vSG_waits g a1 a2 a3 post) : jMi l yX11_waits wsX11_waits rSG_waits D (tyS cy) [.ref (ad 0), .int a1, .int a2, .int a3] (wS ad cy g) (wS ad cy) post 0 0 := by
  refine j_meti (cc := cX11_waits) (nL := 4) (rt := (some .int)) (by decide) (Nat.le_of_ble_eq_true rfl) ?_
  intro Γ hC hQ _
  have hC : jC Γ l rSG_waits D 4 RX11 cX11_waits wsX11_waits (tyS cy) := hC
  have hinX11 : ∀ w ∈ wsX110, w ∈ wsX11_waits := fun w h => List.mem_cons_of_mem _ (List.mem_append_left _ (List.mem_append_right _ h))
  have hinX1 : ∀ w ∈ wsX10, w ∈ wsX11_waits := fun w h => List.mem_cons_of_mem _ (List.mem_append_right _ h)
  refine j_lv (lv' := [(0, .ref (ad 0)), (1, .int a1), (2, .int a2), (3, .int a3)]) [0, 1, 2, 3] rfl ?_
  unfold vSG_waits at hv
  refine j_iload_n (i := 1) hC dX11_waits_0 rfl 1 rfl ?_
  refine j_iconst (v := 0) hC dX11_waits_1 (by decide) ?_
  refine j_aload_n (i := 0) hC dX11_waits_2 rfl 0 rfl ?_
  refine j_get (C := RX11) (T := TX11) (N := 8) (v := .ref (ad 19)) hC hinX11 0 (wS_c0 ad cy _) rfl 5 (by decide) (mw 1 rfl) rfl rfl dX11_waits_3 ?_
  refine j_get (C := RX1) (T := TX1) (N := 4) (v := .int (z_fsize g)) hC hinX1 19 (wS_c19 ad cy _) rfl 3 (by decide) (mw 2 rfl) rfl rfl dX11_waits_6 ?_
  refine j_iconst (v := 1) hC dX11_waits_9 (by decide) ?_
  refine j_isub hC dX11_waits_10 ?_
  refine j_callS_i (As := [.int a1, .int (0 : Int32), .int ((z_fsize g) - (1 : Int32))]) (rest := []) hC (cSG_within hv) 3 gX11_waits_X11_within rfl rfl rfl ⟨Nat.le_of_ble_eq_true rfl, Nat.le_of_ble_eq_true rfl⟩ hdSG_within.2 rfl rfl (Nat.le_of_ble_eq_true rfl) ⟨Nat.zero_le _, Nat.zero_le _⟩ dX11_waits_11 (fun r11 g11 hv => ?_)
  refine j_if_eq (tgt := 37) hC dX11_waits_14 (by decide) (fun h_ => ?_) (fun h_ => ?_)
  · have hv := hv.1 h_
    refine j_ldc (v := -1000001) hC dX11_waits_37 (mw 4 rfl) ?_
    exact j_iret hC hQ dX11_waits_39 rfl hv
  · have hv := hv.2 h_
    refine j_iload_n (i := 2) hC dX11_waits_17 rfl 2 rfl ?_
    refine j_iconst (v := 0) hC dX11_waits_18 (by decide) ?_
    refine j_ldc (v := 100000) hC dX11_waits_19 (mw 3 rfl) ?_
    refine j_callS_i (As := [.int a2, .int (0 : Int32), .int (100000 : Int32)]) (rest := []) hC (cSG_within hv) 3 gX11_waits_X11_within rfl rfl rfl ⟨Nat.le_of_ble_eq_true rfl, Nat.le_of_ble_eq_true rfl⟩ hdSG_within.2 rfl rfl (Nat.le_of_ble_eq_true rfl) ⟨Nat.zero_le _, Nat.zero_le _⟩ dX11_waits_21 (fun r21 g21 hv => ?_)
    refine j_if_eq (tgt := 37) hC dX11_waits_24 (by decide) (fun h_ => ?_) (fun h_ => ?_)
    · have hv := hv.1 h_
      refine j_ldc (v := -1000001) hC dX11_waits_37 (mw 4 rfl) ?_
      exact j_iret hC hQ dX11_waits_39 rfl hv
    · have hv := hv.2 h_
      refine j_iload_n (i := 3) hC dX11_waits_27 rfl 3 rfl ?_
      refine j_iload_n (i := 2) hC dX11_waits_28 rfl 2 rfl ?_
      refine j_ldc (v := 100000) hC dX11_waits_29 (mw 3 rfl) ?_
      refine j_callS_i (As := [.int a3, .int a2, .int (100000 : Int32)]) (rest := []) hC (cSG_within hv) 3 gX11_waits_X11_within rfl rfl rfl ⟨Nat.le_of_ble_eq_true rfl, Nat.le_of_ble_eq_true rfl⟩ hdSG_within.2 rfl rfl (Nat.le_of_ble_eq_true rfl) ⟨Nat.zero_le _, Nat.zero_le _⟩ dX11_waits_31 (fun r31 g31 hv => ?_)
      refine j_if_ne (tgt := 40) hC dX11_waits_34 (by decide) (fun h_ => ?_) (fun h_ => ?_)
      · have hv := hv.1 h_
        refine j_aload_n (i := 0) hC dX11_waits_40 rfl 0 rfl ?_
        refine j_get (C := RX11) (T := TX11) (N := 8) (v := .ref (ad 19)) hC hinX11 0 (wS_c0 ad cy _) rfl 5 (by decide) (mw 1 rfl) rfl rfl dX11_waits_41 ?_
        refine j_iload_n (i := 1) hC dX11_waits_44 rfl 1 rfl ?_
        refine j_iload_n (i := 2) hC dX11_waits_45 rfl 2 rfl ?_
        refine j_iload_n (i := 3) hC dX11_waits_46 rfl 3 rfl ?_
        refine j_callV_i (C := RX1) (As := [.int a1, .int a2, .int a3]) (rest := []) (b := (ad 19)) hC (cFairway_waitOf hv) 3 gX11_waits_X1_waitOf rfl rfl rfl ⟨Nat.le_of_ble_eq_true rfl, Nat.le_of_ble_eq_true rfl⟩ hdFairway_waitOf rfl (wS_c19 ad cy _) rfl rfl (Nat.le_of_ble_eq_true rfl) ⟨Nat.zero_le _, Nat.zero_le _⟩ dX11_waits_47 (fun r47 g47 hv => ?_)
        exact j_iret hC hQ dX11_waits_50 rfl hv
      · have hv := hv.2 h_
        refine j_ldc (v := -1000001) hC dX11_waits_37 (mw 4 rfl) ?_
        exact j_iret hC hQ dX11_waits_39 rfl hv
theorem hdSG_arePeaks : yX11_arePeaks.cls = RX11 ∧ yX11_arePeaks.cls ≠ "java/lang/invoke/MethodHandle" ∧ yX11_arePeaks.cls ≠ "java/lang/invoke/VarHandle" ∧ (parseMethodDescriptor yX11_arePeaks.desc).map (fun d => d.parameters.length) = some 3 := by decide +kernel
abbrev rSG_arePeaks : Room := { frames := 1, cells := 0, slots := 0, locals := 22 }
def vSG_arePeaks (g : GS) (a0 : Int32) (a1 : Int32) (a2 : Int32) (post : Int32 → GS → Prop) : Prop :=
  (vSG_within g a0 (0 : Int32) (7 : Int32) (fun r4 g4 => ((r4 = (0 : Int32) → post (0 : Int32) g4) ∧ (¬ r4 = (0 : Int32) → (vSG_within g4 a1 (1 : Int32) (60 : Int32) (fun r14 g14 => ((r14 = (0 : Int32) → post (0 : Int32) g14) ∧ (¬ r14 = (0 : Int32) → (vSG_within g14 a2 (0 : Int32) (100 : Int32) (fun r24 g24 => ((r24 = (0 : Int32) → post (0 : Int32) g24) ∧ (¬ r24 = (0 : Int32) → post (1 : Int32) g24))))))))))))
set_option maxHeartbeats 4000000 in
set_option maxRecDepth 100000 in
theorem cSG_arePeaks {l : Launch} {D : va_G} {ad : Nat → Nat} {cy : Nat → ClassId} {g : GS} {a0 : Int32} {a1 : Int32} {a2 : Int32} {post : Int32 → GS → Prop} (hv : vSG_arePeaks g a0 a1 a2 post) : jMi l yX11_arePeaks wsX11_arePeaks rSG_arePeaks D (tyS cy) [.int a0, .int a1, .int a2] (wS ad cy g) (wS ad cy) post 0 0 := by
  refine j_meti (cc := cX11_arePeaks) (nL := 3) (rt := (some .boolean)) (by decide) (Nat.le_of_ble_eq_true rfl) ?_
  intro Γ hC hQ _
  have hC : jC Γ l rSG_arePeaks D 3 RX11 cX11_arePeaks wsX11_arePeaks (tyS cy) := hC
  refine j_lv (lv' := [(0, .int a0), (1, .int a1), (2, .int a2)]) [0, 1, 2] rfl ?_
  unfold vSG_arePeaks at hv
  refine j_iload_n (i := 0) hC dX11_arePeaks_0 rfl 0 rfl ?_
  refine j_iconst (v := 0) hC dX11_arePeaks_1 (by decide) ?_
  refine j_bipush (v := 7) hC dX11_arePeaks_2 (by decide) ?_
  refine j_callS_i (As := [.int a0, .int (0 : Int32), .int (7 : Int32)]) (rest := []) hC (cSG_within hv) 3 gX11_arePeaks_X11_within rfl rfl rfl ⟨Nat.le_of_ble_eq_true rfl, Nat.le_of_ble_eq_true rfl⟩ hdSG_within.2 rfl rfl (Nat.le_of_ble_eq_true rfl) ⟨Nat.zero_le _, Nat.zero_le _⟩ dX11_arePeaks_4 (fun r4 g4 hv => ?_)
  refine j_if_eq (tgt := 34) hC dX11_arePeaks_7 (by decide) (fun h_ => ?_) (fun h_ => ?_)
  · have hv := hv.1 h_
    refine j_iconst (v := 0) hC dX11_arePeaks_34 (by decide) ?_
    exact j_zret hC hQ dX11_arePeaks_35 rfl rfl hv
  · have hv := hv.2 h_
    refine j_iload_n (i := 1) hC dX11_arePeaks_10 rfl 1 rfl ?_
    refine j_iconst (v := 1) hC dX11_arePeaks_11 (by decide) ?_
    refine j_bipush (v := 60) hC dX11_arePeaks_12 (by decide) ?_
    refine j_callS_i (As := [.int a1, .int (1 : Int32), .int (60 : Int32)]) (rest := []) hC (cSG_within hv) 3 gX11_arePeaks_X11_within rfl rfl rfl ⟨Nat.le_of_ble_eq_true rfl, Nat.le_of_ble_eq_true rfl⟩ hdSG_within.2 rfl rfl (Nat.le_of_ble_eq_true rfl) ⟨Nat.zero_le _, Nat.zero_le _⟩ dX11_arePeaks_14 (fun r14 g14 hv => ?_)
    refine j_if_eq (tgt := 34) hC dX11_arePeaks_17 (by decide) (fun h_ => ?_) (fun h_ => ?_)
    · have hv := hv.1 h_
      refine j_iconst (v := 0) hC dX11_arePeaks_34 (by decide) ?_
      exact j_zret hC hQ dX11_arePeaks_35 rfl rfl hv
    · have hv := hv.2 h_
      refine j_iload_n (i := 2) hC dX11_arePeaks_20 rfl 2 rfl ?_
      refine j_iconst (v := 0) hC dX11_arePeaks_21 (by decide) ?_
      refine j_bipush (v := 100) hC dX11_arePeaks_22 (by decide) ?_
      refine j_callS_i (As := [.int a2, .int (0 : Int32), .int (100 : Int32)]) (rest := []) hC (cSG_within hv) 3 gX11_arePeaks_X11_within rfl rfl rfl ⟨Nat.le_of_ble_eq_true rfl, Nat.le_of_ble_eq_true rfl⟩ hdSG_within.2 rfl rfl (Nat.le_of_ble_eq_true rfl) ⟨Nat.zero_le _, Nat.zero_le _⟩ dX11_arePeaks_24 (fun r24 g24 hv => ?_)
      refine j_if_eq (tgt := 34) hC dX11_arePeaks_27 (by decide) (fun h_ => ?_) (fun h_ => ?_)
      · have hv := hv.1 h_
        refine j_iconst (v := 0) hC dX11_arePeaks_34 (by decide) ?_
        exact j_zret hC hQ dX11_arePeaks_35 rfl rfl hv
      · have hv := hv.2 h_
        refine j_iconst (v := 1) hC dX11_arePeaks_30 (by decide) ?_
        refine j_goto (tgt := 35) hC dX11_arePeaks_31 (by decide) ?_
        exact j_zret hC hQ dX11_arePeaks_35 rfl rfl hv
theorem hdSG_levelIn : yX11_levelIn.cls = RX11 ∧ yX11_levelIn.cls ≠ "java/lang/invoke/MethodHandle" ∧ yX11_levelIn.cls ≠ "java/lang/invoke/VarHandle" ∧ (parseMethodDescriptor yX11_levelIn.desc).map (fun d => d.parameters.length) = some 3 := by decide +kernel
abbrev rSG_levelIn : Room := { frames := 0, cells := 0, slots := 0, locals := 0 }
def vSG_levelIn (g : GS) (a0 : Int32) (a1 : Int32) (a2 : Int32) (post : Int64 → GS → Prop) : Prop :=
  post ((a2.toInt64) - (((a0 * a1) / (10 : Int32)).toInt64)) g
set_option maxHeartbeats 4000000 in
set_option maxRecDepth 100000 in
theorem cSG_levelIn {l : Launch} {D : va_G} {ad : Nat → Nat} {cy : Nat → ClassId} {g : GS} {a0 : Int32} {a1 : Int32} {a2 : Int32} {post : Int64 → GS → Prop} (hv : vSG_levelIn g a0 a1 a2 post) : jMl l yX11_levelIn wsX11_levelIn rSG_levelIn D (tyS cy) [.int a0, .int a1, .int a2] (wS ad cy g) (wS ad cy) post 0 0 := by
  refine j_metl (cc := cX11_levelIn) (nL := 3) (rt := (some .long)) (by decide) (Nat.le_of_ble_eq_true rfl) ?_
  intro Γ hC hQ _
  have hC : jC Γ l rSG_levelIn D 3 RX11 cX11_levelIn wsX11_levelIn (tyS cy) := hC
  refine j_lv (lv' := [(0, .int a0), (1, .int a1), (2, .int a2)]) [0, 1, 2] rfl ?_
  unfold vSG_levelIn at hv
  refine j_iload_n (i := 2) hC dX11_levelIn_0 rfl 2 rfl ?_
  refine j_i2l hC dX11_levelIn_1 ?_
  refine j_iload_n (i := 0) hC dX11_levelIn_2 rfl 0 rfl ?_
  refine j_iload_n (i := 1) hC dX11_levelIn_3 rfl 1 rfl ?_
  refine j_imul hC dX11_levelIn_4 ?_
  refine j_bipush (v := 10) hC dX11_levelIn_5 (by decide) ?_
  refine j_idiv hC dX11_levelIn_7 (by decide) ?_
  refine j_i2l hC dX11_levelIn_8 ?_
  refine j_lsub hC dX11_levelIn_9 ?_
  exact j_lret hC hQ dX11_levelIn_10 rfl hv
theorem hdSheets_above : yX7_above.cls = RX7 ∧ yX7_above.cls ≠ "java/lang/invoke/MethodHandle" ∧ yX7_above.cls ≠ "java/lang/invoke/VarHandle" ∧ (parseMethodDescriptor yX7_above.desc).map (fun d => d.parameters.length) = some 4 := by decide +kernel
abbrev rSheets_above : Room := { frames := 0, cells := 0, slots := 0, locals := 0 }
def vSheets_above_33 (post : Int32 → GS → Prop) (K6 : Int32 → Int32 → Int32 → Int64 → Int32 → Int32 → GS → Prop) (x1 : Int32) (x2 : Int32) (x3 : Int32) (x4 : Int64) (x6 : Int32) (x7 : Int32) (g : GS) : Prop :=
  (K6 x1 x2 x3 x4 x6 (x7 + (1 : Int32)) g)
def vSheets_above_6 (post : Int32 → GS → Prop) : Nat → Int32 → Int32 → Int32 → Int64 → Int32 → Int32 → GS → Prop
  | 0, _, _, _, _, _, _, _ => False
  | k_ + 1, x1, x2, x3, x4, x6, x7, g =>
  (((x2 + x3) ≤ x7 → post x6 g) ∧ (¬ (x2 + x3) ≤ x7 → (vp_in x1 8 ∧ (vp_in x7 60 ∧ (((((z_items g) x1.toNatClampNeg x7.toNatClampNeg).toInt64) ≤ x4 → (vSheets_above_33 post (fun x1 x2 x3 x4 x6 x7 g => vSheets_above_6 post k_ x1 x2 x3 x4 x6 x7 g) x1 x2 x3 x4 x6 x7 g)) ∧ (¬ (((z_items g) x1.toNatClampNeg x7.toNatClampNeg).toInt64) ≤ x4 → (vSheets_above_33 post (fun x1 x2 x3 x4 x6 x7 g => vSheets_above_6 post k_ x1 x2 x3 x4 x6 x7 g) x1 x2 x3 x4 (x6 + (1 : Int32)) x7 g)))))))
def vSheets_above (g : GS) (a1 : Int32) (a2 : Int32) (a3 : Int32) (a4 : Int64) (post : Int32 → GS → Prop) : Prop :=
  (∃ n_ : Nat, vSheets_above_6 post n_ a1 a2 a3 a4 (0 : Int32) a2 g)
set_option maxHeartbeats 4000000 in
set_option maxRecDepth 100000 in
theorem lSheets_above_33 {Γ : jG} {l : Launch} {D : va_G} {ad : Nat → Nat} {cy : Nat → ClassId} {post : Int32 → GS → Prop} (hC : jC Γ l rSheets_above D 8 RX7 cX7_above wsX7_above (tyS cy)) (hQ : jQi Γ D (wS ad cy) post (some .int) 0 0) {K6 : Int32 → Int32 → Int32 → Int64 → Int32 → Int32 → GS → Prop} (hK6 : ∀ (x1 : Int32) (x2 : Int32) (x3 : Int32) (x4 : Int64) (x6 : Int32) (x7 : Int32) (g : GS), K6 x1 x2 x3 x4 x6 x7 g → J Γ D 8 0 0 (wS ad cy g) 6 [(0, .ref (ad 1)), (1, .int x1), (2, .int x2), (3, .int x3), (4, .long x4), (6, .int x6), (7, .int x7)] []) : ∀ (x1 : Int32) (x2 : Int32) (x3 : Int32) (x4 : Int64) (x6 : Int32) (x7 : Int32) (g : GS), vSheets_above_33 post K6 x1 x2 x3 x4 x6 x7 g → J Γ D 8 0 0 (wS ad cy g) 33 [(0, .ref (ad 1)), (1, .int x1), (2, .int x2), (3, .int x3), (4, .long x4), (6, .int x6), (7, .int x7)] [] := by
  have hinX7 : ∀ w ∈ wsX70, w ∈ wsX7_above := fun w h => List.mem_cons_of_mem _ (List.mem_append_right _ h)
  intro x1 x2 x3 x4 x6 x7 g hv
  unfold vSheets_above_33 at hv
  refine j_iinc (k := 6) (v := (x7 + (1 : Int32))) (lv' := [(7, .int (x7 + (1 : Int32))), (0, .ref (ad 1)), (1, .int x1), (2, .int x2), (3, .int x3), (4, .long x4), (6, .int x6)]) hC dX7_above_33 rfl rfl (by decide) rfl ?_
  refine j_goto (tgt := 6) hC dX7_above_36 (by decide) ?_
  exact j_lv [1, 2, 3, 4, 5, 6, 0] rfl (hK6 _ _ _ _ _ _ _ hv)
set_option maxHeartbeats 4000000 in
set_option maxRecDepth 100000 in
theorem lSheets_above_6 {Γ : jG} {l : Launch} {D : va_G} {ad : Nat → Nat} {cy : Nat → ClassId} {post : Int32 → GS → Prop} (hC : jC Γ l rSheets_above D 8 RX7 cX7_above wsX7_above (tyS cy)) (hQ : jQi Γ D (wS ad cy) post (some .int) 0 0) : ∀ (n_ : Nat) (x1 : Int32) (x2 : Int32) (x3 : Int32) (x4 : Int64) (x6 : Int32) (x7 : Int32) (g : GS), vSheets_above_6 post n_ x1 x2 x3 x4 x6 x7 g → J Γ D 8 0 0 (wS ad cy g) 6 [(0, .ref (ad 1)), (1, .int x1), (2, .int x2), (3, .int x3), (4, .long x4), (6, .int x6), (7, .int x7)] [] := by
  have hinX7 : ∀ w ∈ wsX70, w ∈ wsX7_above := fun w h => List.mem_cons_of_mem _ (List.mem_append_right _ h)
  intro n_
  induction n_ with
  | zero => intro x1 x2 x3 x4 x6 x7 g hv; exact False.elim hv
  | succ k_ ih =>
    intro x1 x2 x3 x4 x6 x7 g hv
    unfold vSheets_above_6 at hv
    refine j_iload hC dX7_above_6 6 rfl ?_
    refine j_iload_n (i := 2) hC dX7_above_8 rfl 2 rfl ?_
    refine j_iload_n (i := 3) hC dX7_above_9 rfl 3 rfl ?_
    refine j_iadd hC dX7_above_10 ?_
    refine j_icmp_ge (tgt := 39) hC dX7_above_11 (by decide) (fun h_ => ?_) (fun h_ => ?_)
    · have hv := hv.1 h_
      refine j_iload hC dX7_above_39 5 rfl ?_
      exact j_iret hC hQ dX7_above_41 rfl hv
    · have hv := hv.2 h_
      refine j_aload_n (i := 0) hC dX7_above_14 rfl 0 rfl ?_
      refine j_get (C := RX7) (T := TX7) (N := 3) (v := .ref (ad 2)) hC hinX7 1 (wS_c1 ad cy _) rfl 0 (by decide) (mw 1 rfl) rfl rfl dX7_above_15 ?_
      refine j_iload_n (i := 1) hC dX7_above_18 rfl 1 rfl ?_
      have hb19 := hv.1
      have hv := hv.2
      refine j_aald (v := .ref (ad (25 + x1.toNatClampNeg))) hC 2 3 (wS_c2 ad cy _) rfl rfl hb19 (jrow ad 25 (j := x1.toNatClampNeg) (jlt hb19)) dX7_above_19 ?_
      refine j_iload hC dX7_above_20 6 rfl ?_
      have hb22 := hv.1
      have hv := hv.2
      refine j_iald (v := ((z_items g) x1.toNatClampNeg x7.toNatClampNeg)) hC _ 0 (wS_r_items ad cy _ (jlt hb19)) rfl hb22 rfl dX7_above_22 ?_
      refine j_i2l hC dX7_above_23 ?_
      refine j_lload hC dX7_above_24 4 rfl ?_
      refine j_lcmp_le (tgt := 33) hC dX7_above_26 dX7_above_27 (by decide) (fun h_ => ?_) (fun h_ => ?_)
      · have hv := hv.1 h_
        exact j_lv [0, 1, 2, 3, 4, 5, 6] rfl (lSheets_above_33 hC hQ (K6 := fun x1 x2 x3 x4 x6 x7 g => vSheets_above_6 post k_ x1 x2 x3 x4 x6 x7 g) (fun _ _ _ _ _ _ _ h_ => ih _ _ _ _ _ _ _ h_) _ _ _ _ _ _ _ hv)
      · have hv := hv.2 h_
        refine j_iinc (k := 5) (v := (x6 + (1 : Int32))) (lv' := [(6, .int (x6 + (1 : Int32))), (0, .ref (ad 1)), (1, .int x1), (2, .int x2), (3, .int x3), (4, .long x4), (7, .int x7)]) hC dX7_above_30 rfl rfl (by decide) rfl ?_
        exact j_lv [1, 2, 3, 4, 5, 0, 6] rfl (lSheets_above_33 hC hQ (K6 := fun x1 x2 x3 x4 x6 x7 g => vSheets_above_6 post k_ x1 x2 x3 x4 x6 x7 g) (fun _ _ _ _ _ _ _ h_ => ih _ _ _ _ _ _ _ h_) _ _ _ _ _ _ _ hv)
set_option maxHeartbeats 4000000 in
set_option maxRecDepth 100000 in
theorem cSheets_above {l : Launch} {D : va_G} {ad : Nat → Nat} {cy : Nat → ClassId} {g : GS} {a1 : Int32} {a2 : Int32} {a3 : Int32} {a4 : Int64} {post : Int32 → GS → Prop} (hv : vSheets_above g a1 a2 a3 a4 post) : jMi l yX7_above wsX7_above rSheets_above D (tyS cy) [.ref (ad 1), .int a1, .int a2, .int a3, .long a4] (wS ad cy g) (wS ad cy) post 0 0 := by
  refine j_meti (cc := cX7_above) (nL := 8) (rt := (some .int)) (by decide) (Nat.le_of_ble_eq_true rfl) ?_
  intro Γ hC hQ _
  have hC : jC Γ l rSheets_above D 8 RX7 cX7_above wsX7_above (tyS cy) := hC
  have hinX7 : ∀ w ∈ wsX70, w ∈ wsX7_above := fun w h => List.mem_cons_of_mem _ (List.mem_append_right _ h)
  refine j_lv (lv' := [(0, .ref (ad 1)), (1, .int a1), (2, .int a2), (3, .int a3), (4, .long a4)]) [0, 1, 2, 3, 4] rfl ?_
  unfold vSheets_above at hv
  refine j_iconst (v := 0) hC dX7_above_0 (by decide) ?_
  refine j_istore (lv' := [(6, .int (0 : Int32)), (0, .ref (ad 1)), (1, .int a1), (2, .int a2), (3, .int a3), (4, .long a4)]) hC dX7_above_1 (by decide) rfl ?_
  refine j_iload_n (i := 2) hC dX7_above_3 rfl 3 rfl ?_
  refine j_istore (lv' := [(7, .int a2), (6, .int (0 : Int32)), (0, .ref (ad 1)), (1, .int a1), (2, .int a2), (3, .int a3), (4, .long a4)]) hC dX7_above_4 (by decide) rfl ?_
  obtain ⟨n_, hv⟩ := hv
  exact j_lv [2, 3, 4, 5, 6, 1, 0] rfl (lSheets_above_6 hC hQ n_ _ _ _ _ _ _ _ hv)
theorem hdSG_closings : yX11_closings.cls = RX11 ∧ yX11_closings.cls ≠ "java/lang/invoke/MethodHandle" ∧ yX11_closings.cls ≠ "java/lang/invoke/VarHandle" ∧ (parseMethodDescriptor yX11_closings.desc).map (fun d => d.parameters.length) = some 6 := by decide +kernel
abbrev rSG_closings : Room := { frames := 2, cells := 0, slots := 0, locals := 46 }
def vSG_closings (g : GS) (a1 : Int32) (a2 : Int32) (a3 : Int32) (a4 : Int32) (a5 : Int32) (a6 : Int32) (post : Int32 → GS → Prop) : Prop :=
  (vSG_arePeaks g a1 a3 a4 (fun r4 g4 => ((r4 = (0 : Int32) → post (-1000001 : Int32) g4) ∧ (¬ r4 = (0 : Int32) → (vSG_within g4 a6 (0 : Int32) (300 : Int32) (fun r16 g16 => ((¬ r16 = (0 : Int32) → (vSheets_look g16 a1 a2 a3 (fun r32 g32 => ((r32 = (0 : Int32) → (vSG_levelIn g32 a6 a4 a5 (fun r65 g65 => (vSheets_above g65 a1 a2 a3 r65 (fun r68 g68 => (vSG_fine g68 r68 (fun r71 g71 => post r71 g71))))))) ∧ (¬ r32 = (0 : Int32) → (vSG_found g32 r32 (fun r45 g45 => post r45 g45))))))) ∧ (r16 = (0 : Int32) → post (-1000001 : Int32) g16))))))))
set_option maxHeartbeats 4000000 in
set_option maxRecDepth 100000 in
theorem cSG_closings {l : Launch} {D : va_G} {ad : Nat → Nat} {cy : Nat → ClassId} {g : GS} {a1 : Int32} {a2 : Int32} {a3 : Int32} {a4 : Int32} {a5 : Int32} {a6 : Int32} {post : Int32 → GS → Prop} (hv : vSG_closings g a1 a2 a3 a4 a5 a6 post) : jMi l yX11_closings wsX11_closings rSG_closings D (tyS cy) [.ref (ad 0), .int a1, .int a2, .int a3, .int a4, .int a5, .int a6] (wS ad cy g) (wS ad cy) post 0 0 := by
  refine j_meti (cc := cX11_closings) (nL := 8) (rt := (some .int)) (by decide) (Nat.le_of_ble_eq_true rfl) ?_
  intro Γ hC hQ _
  have hC : jC Γ l rSG_closings D 8 RX11 cX11_closings wsX11_closings (tyS cy) := hC
  have hinX11 : ∀ w ∈ wsX110, w ∈ wsX11_closings := fun w h => List.mem_cons_of_mem _ (List.mem_append_left _ (List.mem_append_right _ h))
  refine j_lv (lv' := [(0, .ref (ad 0)), (1, .int a1), (2, .int a2), (3, .int a3), (4, .int a4), (5, .int a5), (6, .int a6)]) [0, 1, 2, 3, 4, 5, 6] rfl ?_
  unfold vSG_closings at hv
  refine j_iload_n (i := 1) hC dX11_closings_0 rfl 1 rfl ?_
  refine j_iload_n (i := 3) hC dX11_closings_1 rfl 3 rfl ?_
  refine j_iload hC dX11_closings_2 4 rfl ?_
  refine j_callS_i (As := [.int a1, .int a3, .int a4]) (rest := []) hC (cSG_arePeaks hv) 3 gX11_closings_X11_arePeaks rfl rfl rfl ⟨Nat.le_of_ble_eq_true rfl, Nat.le_of_ble_eq_true rfl⟩ hdSG_arePeaks.2 rfl rfl (Nat.le_of_ble_eq_true rfl) ⟨Nat.zero_le _, Nat.zero_le _⟩ dX11_closings_4 (fun r4 g4 hv => ?_)
  refine j_if_eq (tgt := 22) hC dX11_closings_7 (by decide) (fun h_ => ?_) (fun h_ => ?_)
  · have hv := hv.1 h_
    refine j_ldc (v := -1000001) hC dX11_closings_22 (mw 1 rfl) ?_
    exact j_iret hC hQ dX11_closings_24 rfl hv
  · have hv := hv.2 h_
    refine j_iload hC dX11_closings_10 6 rfl ?_
    refine j_iconst (v := 0) hC dX11_closings_12 (by decide) ?_
    refine j_sipush (v := 300) hC dX11_closings_13 (by decide) ?_
    refine j_callS_i (As := [.int a6, .int (0 : Int32), .int (300 : Int32)]) (rest := []) hC (cSG_within hv) 3 gX11_closings_X11_within rfl rfl rfl ⟨Nat.le_of_ble_eq_true rfl, Nat.le_of_ble_eq_true rfl⟩ hdSG_within.2 rfl rfl (Nat.le_of_ble_eq_true rfl) ⟨Nat.zero_le _, Nat.zero_le _⟩ dX11_closings_16 (fun r16 g16 hv => ?_)
    refine j_if_ne (tgt := 25) hC dX11_closings_19 (by decide) (fun h_ => ?_) (fun h_ => ?_)
    · have hv := hv.1 h_
      refine j_aload_n (i := 0) hC dX11_closings_25 rfl 0 rfl ?_
      refine j_get (C := RX11) (T := TX11) (N := 8) (v := .ref (ad 1)) hC hinX11 0 (wS_c0 ad cy _) rfl 0 (by decide) (mw 2 rfl) rfl rfl dX11_closings_26 ?_
      refine j_iload_n (i := 1) hC dX11_closings_29 rfl 1 rfl ?_
      refine j_iload_n (i := 2) hC dX11_closings_30 rfl 2 rfl ?_
      refine j_iload_n (i := 3) hC dX11_closings_31 rfl 3 rfl ?_
      refine j_callV_i (C := RX7) (As := [.int a1, .int a2, .int a3]) (rest := []) (b := (ad 1)) hC (cSheets_look hv) 3 gX11_closings_X7_look rfl rfl rfl ⟨Nat.le_of_ble_eq_true rfl, Nat.le_of_ble_eq_true rfl⟩ hdSheets_look rfl (wS_c1 ad cy _) rfl rfl (Nat.le_of_ble_eq_true rfl) ⟨Nat.zero_le _, Nat.zero_le _⟩ dX11_closings_32 (fun r32 g32 hv => ?_)
      refine j_istore (lv' := [(7, .int r32), (0, .ref (ad 0)), (1, .int a1), (2, .int a2), (3, .int a3), (4, .int a4), (5, .int a5), (6, .int a6)]) hC dX11_closings_35 (by decide) rfl ?_
      refine j_iload hC dX11_closings_37 0 rfl ?_
      refine j_if_eq (tgt := 51) hC dX11_closings_39 (by decide) (fun h_ => ?_) (fun h_ => ?_)
      · have hv := hv.1 h_
        refine j_aload_n (i := 0) hC dX11_closings_51 rfl 1 rfl ?_
        refine j_aload_n (i := 0) hC dX11_closings_52 rfl 1 rfl ?_
        refine j_get (C := RX11) (T := TX11) (N := 8) (v := .ref (ad 1)) hC hinX11 0 (wS_c0 ad cy _) rfl 0 (by decide) (mw 2 rfl) rfl rfl dX11_closings_53 ?_
        refine j_iload_n (i := 1) hC dX11_closings_56 rfl 2 rfl ?_
        refine j_iload_n (i := 2) hC dX11_closings_57 rfl 3 rfl ?_
        refine j_iload_n (i := 3) hC dX11_closings_58 rfl 4 rfl ?_
        refine j_iload hC dX11_closings_59 7 rfl ?_
        refine j_iload hC dX11_closings_61 5 rfl ?_
        refine j_iload hC dX11_closings_63 6 rfl ?_
        refine j_callS_l (As := [.int a6, .int a4, .int a5]) (rest := [.int a3, .int a2, .int a1, .ref (ad 1), .ref (ad 0)]) hC (cSG_levelIn hv) 3 gX11_closings_X11_levelIn rfl rfl rfl ⟨Nat.le_of_ble_eq_true rfl, Nat.le_of_ble_eq_true rfl⟩ hdSG_levelIn.2 rfl rfl (Nat.le_of_ble_eq_true rfl) ⟨Nat.zero_le _, Nat.zero_le _⟩ dX11_closings_65 (fun r65 g65 hv => ?_)
        refine j_callV_i (C := RX7) (As := [.int a1, .int a2, .int a3, .long r65]) (rest := [.ref (ad 0)]) (b := (ad 1)) hC (cSheets_above hv) 4 gX11_closings_X7_above rfl rfl rfl ⟨Nat.le_of_ble_eq_true rfl, Nat.le_of_ble_eq_true rfl⟩ hdSheets_above rfl (wS_c1 ad cy _) rfl rfl (Nat.le_of_ble_eq_true rfl) ⟨Nat.zero_le _, Nat.zero_le _⟩ dX11_closings_68 (fun r68 g68 hv => ?_)
        refine j_callV_i (C := RX11) (As := [.int r68]) (rest := []) (b := (ad 0)) hC (cSG_fine hv) 1 gX11_closings_X11_fine rfl rfl rfl ⟨Nat.le_of_ble_eq_true rfl, Nat.le_of_ble_eq_true rfl⟩ hdSG_fine rfl (wS_c0 ad cy _) rfl rfl (Nat.le_of_ble_eq_true rfl) ⟨Nat.zero_le _, Nat.zero_le _⟩ dX11_closings_71 (fun r71 g71 hv => ?_)
        exact j_iret hC hQ dX11_closings_74 rfl hv
      · have hv := hv.2 h_
        refine j_aload_n (i := 0) hC dX11_closings_42 rfl 1 rfl ?_
        refine j_iload hC dX11_closings_43 0 rfl ?_
        refine j_callV_i (C := RX11) (As := [.int r32]) (rest := []) (b := (ad 0)) hC (cSG_found hv) 1 gX11_closings_X11_found rfl rfl rfl ⟨Nat.le_of_ble_eq_true rfl, Nat.le_of_ble_eq_true rfl⟩ hdSG_found rfl (wS_c0 ad cy _) rfl rfl (Nat.le_of_ble_eq_true rfl) ⟨Nat.zero_le _, Nat.zero_le _⟩ dX11_closings_45 (fun r45 g45 hv => ?_)
        refine j_goto (tgt := 74) hC dX11_closings_48 (by decide) ?_
        exact j_iret hC hQ dX11_closings_74 rfl hv
    · have hv := hv.2 h_
      refine j_ldc (v := -1000001) hC dX11_closings_22 (mw 1 rfl) ?_
      exact j_iret hC hQ dX11_closings_24 rfl hv
theorem hdSG_tooMany : yX11_tooMany.cls = RX11 ∧ yX11_tooMany.cls ≠ "java/lang/invoke/MethodHandle" ∧ yX11_tooMany.cls ≠ "java/lang/invoke/VarHandle" ∧ (parseMethodDescriptor yX11_tooMany.desc).map (fun d => d.parameters.length) = some 6 := by decide +kernel
abbrev rSG_tooMany : Room := { frames := 2, cells := 0, slots := 0, locals := 46 }
def vSG_tooMany_114 (post : Int32 → GS → Prop) (K53 : Int32 → Int32 → Int32 → Int32 → Int32 → Int32 → Int32 → Int32 → Int32 → GS → Prop) (x1 : Int32) (x2 : Int32) (x3 : Int32) (x4 : Int32) (x5 : Int32) (x6 : Int32) (x8 : Int32) (x9 : Int32) (x10 : Int32) (g : GS) : Prop :=
  (K53 x1 x2 x3 x4 x5 x6 x8 x9 (x10 + (1 : Int32)) g)
def vSG_tooMany_136 (post : Int32 → GS → Prop) (t0 : Int32) (g : GS) : Prop :=
  (vSG_fine g t0 (fun r136 g136 => post r136 g136))
def vSG_tooMany_120 (post : Int32 → GS → Prop) (x8 : Int32) (g : GS) : Prop :=
  ((x8 ≤ (300 : Int32) → (vSG_tooMany_136 post x8 g)) ∧ (¬ x8 ≤ (300 : Int32) → (vSG_tooMany_136 post (-1000000 : Int32) g)))
def vSG_tooMany_53 (post : Int32 → GS → Prop) : Nat → Int32 → Int32 → Int32 → Int32 → Int32 → Int32 → Int32 → Int32 → Int32 → GS → Prop
  | 0, _, _, _, _, _, _, _, _, _, _ => False
  | k_ + 1, x1, x2, x3, x4, x5, x6, x8, x9, x10, g =>
  (((300 : Int32) ≤ x10 → (vSG_tooMany_120 post x8 g)) ∧ (¬ (300 : Int32) ≤ x10 → ((x9 ≤ x8 → (vSG_tooMany_120 post x8 g)) ∧ (¬ x9 ≤ x8 → (vSG_levelIn g ((x8 + x9) / (2 : Int32)) x4 x5 (fun r90 g90 => (vSheets_above g90 x1 x2 x3 r90 (fun r93 g93 => ((r93 ≤ x6 → (vSG_tooMany_114 post (fun x1 x2 x3 x4 x5 x6 x8 x9 x10 g => vSG_tooMany_53 post k_ x1 x2 x3 x4 x5 x6 x8 x9 x10 g) x1 x2 x3 x4 x5 x6 (((x8 + x9) / (2 : Int32)) + (1 : Int32)) x9 x10 g93)) ∧ (¬ r93 ≤ x6 → (vSG_tooMany_114 post (fun x1 x2 x3 x4 x5 x6 x8 x9 x10 g => vSG_tooMany_53 post k_ x1 x2 x3 x4 x5 x6 x8 x9 x10 g) x1 x2 x3 x4 x5 x6 x8 ((x8 + x9) / (2 : Int32)) x10 g93)))))))))))
def vSG_tooMany (g : GS) (a1 : Int32) (a2 : Int32) (a3 : Int32) (a4 : Int32) (a5 : Int32) (a6 : Int32) (post : Int32 → GS → Prop) : Prop :=
  (vSG_arePeaks g a1 a3 a4 (fun r4 g4 => ((r4 = (0 : Int32) → post (-1000001 : Int32) g4) ∧ (¬ r4 = (0 : Int32) → (((0 : Int32) ≤ a6 → (vSheets_look g4 a1 a2 a3 (fun r25 g25 => ((r25 = (0 : Int32) → (∃ n_ : Nat, vSG_tooMany_53 post n_ a1 a2 a3 a4 a5 a6 (0 : Int32) (301 : Int32) (0 : Int32) g25)) ∧ (¬ r25 = (0 : Int32) → (vSG_found g25 r25 (fun r38 g38 => post r38 g38))))))) ∧ (¬ (0 : Int32) ≤ a6 → post (-1000001 : Int32) g4))))))
set_option maxHeartbeats 4000000 in
set_option maxRecDepth 100000 in
theorem lSG_tooMany_114 {Γ : jG} {l : Launch} {D : va_G} {ad : Nat → Nat} {cy : Nat → ClassId} {post : Int32 → GS → Prop} (hC : jC Γ l rSG_tooMany D 12 RX11 cX11_tooMany wsX11_tooMany (tyS cy)) (hQ : jQi Γ D (wS ad cy) post (some .int) 0 0) {K53 : Int32 → Int32 → Int32 → Int32 → Int32 → Int32 → Int32 → Int32 → Int32 → GS → Prop} (hK53 : ∀ (x1 : Int32) (x2 : Int32) (x3 : Int32) (x4 : Int32) (x5 : Int32) (x6 : Int32) (x8 : Int32) (x9 : Int32) (x10 : Int32) (g : GS), K53 x1 x2 x3 x4 x5 x6 x8 x9 x10 g → J Γ D 12 0 0 (wS ad cy g) 53 [(0, .ref (ad 0)), (1, .int x1), (2, .int x2), (3, .int x3), (4, .int x4), (5, .int x5), (6, .int x6), (8, .int x8), (9, .int x9), (10, .int x10)] []) : ∀ (x1 : Int32) (x2 : Int32) (x3 : Int32) (x4 : Int32) (x5 : Int32) (x6 : Int32) (x8 : Int32) (x9 : Int32) (x10 : Int32) (g : GS), vSG_tooMany_114 post K53 x1 x2 x3 x4 x5 x6 x8 x9 x10 g → J Γ D 12 0 0 (wS ad cy g) 114 [(0, .ref (ad 0)), (1, .int x1), (2, .int x2), (3, .int x3), (4, .int x4), (5, .int x5), (6, .int x6), (8, .int x8), (9, .int x9), (10, .int x10)] [] := by
  have hinX11 : ∀ w ∈ wsX110, w ∈ wsX11_tooMany := fun w h => List.mem_cons_of_mem _ (List.mem_append_left _ (List.mem_append_right _ h))
  intro x1 x2 x3 x4 x5 x6 x8 x9 x10 g hv
  unfold vSG_tooMany_114 at hv
  refine j_iinc (k := 9) (v := (x10 + (1 : Int32))) (lv' := [(10, .int (x10 + (1 : Int32))), (0, .ref (ad 0)), (1, .int x1), (2, .int x2), (3, .int x3), (4, .int x4), (5, .int x5), (6, .int x6), (8, .int x8), (9, .int x9)]) hC dX11_tooMany_114 rfl rfl (by decide) rfl ?_
  refine j_goto (tgt := 53) hC dX11_tooMany_117 (by decide) ?_
  exact j_lv [1, 2, 3, 4, 5, 6, 7, 8, 9, 0] rfl (hK53 _ _ _ _ _ _ _ _ _ _ hv)
set_option maxHeartbeats 4000000 in
set_option maxRecDepth 100000 in
theorem lSG_tooMany_136 {Γ : jG} {l : Launch} {D : va_G} {ad : Nat → Nat} {cy : Nat → ClassId} {post : Int32 → GS → Prop} (hC : jC Γ l rSG_tooMany D 12 RX11 cX11_tooMany wsX11_tooMany (tyS cy)) (hQ : jQi Γ D (wS ad cy) post (some .int) 0 0) : ∀ (t0 : Int32) (g : GS), vSG_tooMany_136 post t0 g → J Γ D 12 0 0 (wS ad cy g) 136 [] [.int t0, .ref (ad 0)] := by
  have hinX11 : ∀ w ∈ wsX110, w ∈ wsX11_tooMany := fun w h => List.mem_cons_of_mem _ (List.mem_append_left _ (List.mem_append_right _ h))
  intro t0 g hv
  unfold vSG_tooMany_136 at hv
  refine j_callV_i (C := RX11) (As := [.int t0]) (rest := []) (b := (ad 0)) hC (cSG_fine hv) 1 gX11_tooMany_X11_fine rfl rfl rfl ⟨Nat.le_of_ble_eq_true rfl, Nat.le_of_ble_eq_true rfl⟩ hdSG_fine rfl (wS_c0 ad cy _) rfl rfl (Nat.le_of_ble_eq_true rfl) ⟨Nat.zero_le _, Nat.zero_le _⟩ dX11_tooMany_136 (fun r136 g136 hv => ?_)
  exact j_iret hC hQ dX11_tooMany_139 rfl hv
set_option maxHeartbeats 4000000 in
set_option maxRecDepth 100000 in
theorem lSG_tooMany_120 {Γ : jG} {l : Launch} {D : va_G} {ad : Nat → Nat} {cy : Nat → ClassId} {post : Int32 → GS → Prop} (hC : jC Γ l rSG_tooMany D 12 RX11 cX11_tooMany wsX11_tooMany (tyS cy)) (hQ : jQi Γ D (wS ad cy) post (some .int) 0 0) : ∀ (x8 : Int32) (g : GS), vSG_tooMany_120 post x8 g → J Γ D 12 0 0 (wS ad cy g) 120 [(0, .ref (ad 0)), (8, .int x8)] [] := by
  have hinX11 : ∀ w ∈ wsX110, w ∈ wsX11_tooMany := fun w h => List.mem_cons_of_mem _ (List.mem_append_left _ (List.mem_append_right _ h))
  intro x8 g hv
  unfold vSG_tooMany_120 at hv
  refine j_aload_n (i := 0) hC dX11_tooMany_120 rfl 0 rfl ?_
  refine j_iload hC dX11_tooMany_121 1 rfl ?_
  refine j_sipush (v := 300) hC dX11_tooMany_123 (by decide) ?_
  refine j_icmp_le (tgt := 134) hC dX11_tooMany_126 (by decide) (fun h_ => ?_) (fun h_ => ?_)
  · have hv := hv.1 h_
    refine j_iload hC dX11_tooMany_134 1 rfl ?_
    exact j_lv [] rfl (lSG_tooMany_136 hC hQ _ _ hv)
  · have hv := hv.2 h_
    refine j_ldc (v := -1000000) hC dX11_tooMany_129 (mw 3 rfl) ?_
    refine j_goto (tgt := 136) hC dX11_tooMany_131 (by decide) ?_
    exact j_lv [] rfl (lSG_tooMany_136 hC hQ _ _ hv)
set_option maxHeartbeats 4000000 in
set_option maxRecDepth 100000 in
theorem lSG_tooMany_53 {Γ : jG} {l : Launch} {D : va_G} {ad : Nat → Nat} {cy : Nat → ClassId} {post : Int32 → GS → Prop} (hC : jC Γ l rSG_tooMany D 12 RX11 cX11_tooMany wsX11_tooMany (tyS cy)) (hQ : jQi Γ D (wS ad cy) post (some .int) 0 0) : ∀ (n_ : Nat) (x1 : Int32) (x2 : Int32) (x3 : Int32) (x4 : Int32) (x5 : Int32) (x6 : Int32) (x8 : Int32) (x9 : Int32) (x10 : Int32) (g : GS), vSG_tooMany_53 post n_ x1 x2 x3 x4 x5 x6 x8 x9 x10 g → J Γ D 12 0 0 (wS ad cy g) 53 [(0, .ref (ad 0)), (1, .int x1), (2, .int x2), (3, .int x3), (4, .int x4), (5, .int x5), (6, .int x6), (8, .int x8), (9, .int x9), (10, .int x10)] [] := by
  have hinX11 : ∀ w ∈ wsX110, w ∈ wsX11_tooMany := fun w h => List.mem_cons_of_mem _ (List.mem_append_left _ (List.mem_append_right _ h))
  intro n_
  induction n_ with
  | zero => intro x1 x2 x3 x4 x5 x6 x8 x9 x10 g hv; exact False.elim hv
  | succ k_ ih =>
    intro x1 x2 x3 x4 x5 x6 x8 x9 x10 g hv
    unfold vSG_tooMany_53 at hv
    refine j_iload hC dX11_tooMany_53 9 rfl ?_
    refine j_sipush (v := 300) hC dX11_tooMany_55 (by decide) ?_
    refine j_icmp_ge (tgt := 120) hC dX11_tooMany_58 (by decide) (fun h_ => ?_) (fun h_ => ?_)
    · have hv := hv.1 h_
      exact j_lv [0, 7] rfl (lSG_tooMany_120 hC hQ _ _ hv)
    · have hv := hv.2 h_
      refine j_iload hC dX11_tooMany_61 7 rfl ?_
      refine j_iload hC dX11_tooMany_63 8 rfl ?_
      refine j_icmp_ge (tgt := 120) hC dX11_tooMany_65 (by decide) (fun h_ => ?_) (fun h_ => ?_)
      · have hv := hv.1 h_
        exact j_lv [0, 7] rfl (lSG_tooMany_120 hC hQ _ _ hv)
      · have hv := hv.2 h_
        refine j_iload hC dX11_tooMany_68 7 rfl ?_
        refine j_iload hC dX11_tooMany_70 8 rfl ?_
        refine j_iadd hC dX11_tooMany_72 ?_
        refine j_iconst (v := 2) hC dX11_tooMany_73 (by decide) ?_
        refine j_idiv hC dX11_tooMany_74 (by decide) ?_
        refine j_istore (lv' := [(11, .int ((x8 + x9) / (2 : Int32))), (0, .ref (ad 0)), (1, .int x1), (2, .int x2), (3, .int x3), (4, .int x4), (5, .int x5), (6, .int x6), (8, .int x8), (9, .int x9), (10, .int x10)]) hC dX11_tooMany_75 (by decide) rfl ?_
        refine j_aload_n (i := 0) hC dX11_tooMany_77 rfl 1 rfl ?_
        refine j_get (C := RX11) (T := TX11) (N := 8) (v := .ref (ad 1)) hC hinX11 0 (wS_c0 ad cy _) rfl 0 (by decide) (mw 2 rfl) rfl rfl dX11_tooMany_78 ?_
        refine j_iload_n (i := 1) hC dX11_tooMany_81 rfl 2 rfl ?_
        refine j_iload_n (i := 2) hC dX11_tooMany_82 rfl 3 rfl ?_
        refine j_iload_n (i := 3) hC dX11_tooMany_83 rfl 4 rfl ?_
        refine j_iload hC dX11_tooMany_84 0 rfl ?_
        refine j_iload hC dX11_tooMany_86 5 rfl ?_
        refine j_iload hC dX11_tooMany_88 6 rfl ?_
        refine j_callS_l (As := [.int ((x8 + x9) / (2 : Int32)), .int x4, .int x5]) (rest := [.int x3, .int x2, .int x1, .ref (ad 1)]) hC (cSG_levelIn hv) 3 gX11_tooMany_X11_levelIn rfl rfl rfl ⟨Nat.le_of_ble_eq_true rfl, Nat.le_of_ble_eq_true rfl⟩ hdSG_levelIn.2 rfl rfl (Nat.le_of_ble_eq_true rfl) ⟨Nat.zero_le _, Nat.zero_le _⟩ dX11_tooMany_90 (fun r90 g90 hv => ?_)
        refine j_callV_i (C := RX7) (As := [.int x1, .int x2, .int x3, .long r90]) (rest := []) (b := (ad 1)) hC (cSheets_above hv) 4 gX11_tooMany_X7_above rfl rfl rfl ⟨Nat.le_of_ble_eq_true rfl, Nat.le_of_ble_eq_true rfl⟩ hdSheets_above rfl (wS_c1 ad cy _) rfl rfl (Nat.le_of_ble_eq_true rfl) ⟨Nat.zero_le _, Nat.zero_le _⟩ dX11_tooMany_93 (fun r93 g93 hv => ?_)
        refine j_iload hC dX11_tooMany_96 7 rfl ?_
        refine j_icmp_le (tgt := 108) hC dX11_tooMany_98 (by decide) (fun h_ => ?_) (fun h_ => ?_)
        · have hv := hv.1 h_
          refine j_iload hC dX11_tooMany_108 0 rfl ?_
          refine j_iconst (v := 1) hC dX11_tooMany_110 (by decide) ?_
          refine j_iadd hC dX11_tooMany_111 ?_
          refine j_istore (lv' := [(8, .int (((x8 + x9) / (2 : Int32)) + (1 : Int32))), (11, .int ((x8 + x9) / (2 : Int32))), (0, .ref (ad 0)), (1, .int x1), (2, .int x2), (3, .int x3), (4, .int x4), (5, .int x5), (6, .int x6), (9, .int x9), (10, .int x10)]) hC dX11_tooMany_112 (by decide) rfl ?_
          exact j_lv [2, 3, 4, 5, 6, 7, 8, 0, 9, 10] rfl (lSG_tooMany_114 hC hQ (K53 := fun x1 x2 x3 x4 x5 x6 x8 x9 x10 g => vSG_tooMany_53 post k_ x1 x2 x3 x4 x5 x6 x8 x9 x10 g) (fun _ _ _ _ _ _ _ _ _ _ h_ => ih _ _ _ _ _ _ _ _ _ _ h_) _ _ _ _ _ _ _ _ _ _ hv)
        · have hv := hv.2 h_
          refine j_iload hC dX11_tooMany_101 0 rfl ?_
          refine j_istore (lv' := [(9, .int ((x8 + x9) / (2 : Int32))), (11, .int ((x8 + x9) / (2 : Int32))), (0, .ref (ad 0)), (1, .int x1), (2, .int x2), (3, .int x3), (4, .int x4), (5, .int x5), (6, .int x6), (8, .int x8), (10, .int x10)]) hC dX11_tooMany_103 (by decide) rfl ?_
          refine j_goto (tgt := 114) hC dX11_tooMany_105 (by decide) ?_
          exact j_lv [2, 3, 4, 5, 6, 7, 8, 9, 0, 10] rfl (lSG_tooMany_114 hC hQ (K53 := fun x1 x2 x3 x4 x5 x6 x8 x9 x10 g => vSG_tooMany_53 post k_ x1 x2 x3 x4 x5 x6 x8 x9 x10 g) (fun _ _ _ _ _ _ _ _ _ _ h_ => ih _ _ _ _ _ _ _ _ _ _ h_) _ _ _ _ _ _ _ _ _ _ hv)
set_option maxHeartbeats 4000000 in
set_option maxRecDepth 100000 in
theorem cSG_tooMany {l : Launch} {D : va_G} {ad : Nat → Nat} {cy : Nat → ClassId} {g : GS} {a1 : Int32} {a2 : Int32} {a3 : Int32} {a4 : Int32} {a5 : Int32} {a6 : Int32} {post : Int32 → GS → Prop} (hv : vSG_tooMany g a1 a2 a3 a4 a5 a6 post) : jMi l yX11_tooMany wsX11_tooMany rSG_tooMany D (tyS cy) [.ref (ad 0), .int a1, .int a2, .int a3, .int a4, .int a5, .int a6] (wS ad cy g) (wS ad cy) post 0 0 := by
  refine j_meti (cc := cX11_tooMany) (nL := 12) (rt := (some .int)) (by decide) (Nat.le_of_ble_eq_true rfl) ?_
  intro Γ hC hQ _
  have hC : jC Γ l rSG_tooMany D 12 RX11 cX11_tooMany wsX11_tooMany (tyS cy) := hC
  have hinX11 : ∀ w ∈ wsX110, w ∈ wsX11_tooMany := fun w h => List.mem_cons_of_mem _ (List.mem_append_left _ (List.mem_append_right _ h))
  refine j_lv (lv' := [(0, .ref (ad 0)), (1, .int a1), (2, .int a2), (3, .int a3), (4, .int a4), (5, .int a5), (6, .int a6)]) [0, 1, 2, 3, 4, 5, 6] rfl ?_
  unfold vSG_tooMany at hv
  refine j_iload_n (i := 1) hC dX11_tooMany_0 rfl 1 rfl ?_
  refine j_iload_n (i := 3) hC dX11_tooMany_1 rfl 3 rfl ?_
  refine j_iload hC dX11_tooMany_2 4 rfl ?_
  refine j_callS_i (As := [.int a1, .int a3, .int a4]) (rest := []) hC (cSG_arePeaks hv) 3 gX11_tooMany_X11_arePeaks rfl rfl rfl ⟨Nat.le_of_ble_eq_true rfl, Nat.le_of_ble_eq_true rfl⟩ hdSG_arePeaks.2 rfl rfl (Nat.le_of_ble_eq_true rfl) ⟨Nat.zero_le _, Nat.zero_le _⟩ dX11_tooMany_4 (fun r4 g4 hv => ?_)
  refine j_if_eq (tgt := 15) hC dX11_tooMany_7 (by decide) (fun h_ => ?_) (fun h_ => ?_)
  · have hv := hv.1 h_
    refine j_ldc (v := -1000001) hC dX11_tooMany_15 (mw 1 rfl) ?_
    exact j_iret hC hQ dX11_tooMany_17 rfl hv
  · have hv := hv.2 h_
    refine j_iload hC dX11_tooMany_10 6 rfl ?_
    refine j_if_ge (tgt := 18) hC dX11_tooMany_12 (by decide) (fun h_ => ?_) (fun h_ => ?_)
    · have hv := hv.1 h_
      refine j_aload_n (i := 0) hC dX11_tooMany_18 rfl 0 rfl ?_
      refine j_get (C := RX11) (T := TX11) (N := 8) (v := .ref (ad 1)) hC hinX11 0 (wS_c0 ad cy _) rfl 0 (by decide) (mw 2 rfl) rfl rfl dX11_tooMany_19 ?_
      refine j_iload_n (i := 1) hC dX11_tooMany_22 rfl 1 rfl ?_
      refine j_iload_n (i := 2) hC dX11_tooMany_23 rfl 2 rfl ?_
      refine j_iload_n (i := 3) hC dX11_tooMany_24 rfl 3 rfl ?_
      refine j_callV_i (C := RX7) (As := [.int a1, .int a2, .int a3]) (rest := []) (b := (ad 1)) hC (cSheets_look hv) 3 gX11_tooMany_X7_look rfl rfl rfl ⟨Nat.le_of_ble_eq_true rfl, Nat.le_of_ble_eq_true rfl⟩ hdSheets_look rfl (wS_c1 ad cy _) rfl rfl (Nat.le_of_ble_eq_true rfl) ⟨Nat.zero_le _, Nat.zero_le _⟩ dX11_tooMany_25 (fun r25 g25 hv => ?_)
      refine j_istore (lv' := [(7, .int r25), (0, .ref (ad 0)), (1, .int a1), (2, .int a2), (3, .int a3), (4, .int a4), (5, .int a5), (6, .int a6)]) hC dX11_tooMany_28 (by decide) rfl ?_
      refine j_iload hC dX11_tooMany_30 0 rfl ?_
      refine j_if_eq (tgt := 42) hC dX11_tooMany_32 (by decide) (fun h_ => ?_) (fun h_ => ?_)
      · have hv := hv.1 h_
        refine j_iconst (v := 0) hC dX11_tooMany_42 (by decide) ?_
        refine j_istore (lv' := [(8, .int (0 : Int32)), (7, .int r25), (0, .ref (ad 0)), (1, .int a1), (2, .int a2), (3, .int a3), (4, .int a4), (5, .int a5), (6, .int a6)]) hC dX11_tooMany_43 (by decide) rfl ?_
        refine j_sipush (v := 301) hC dX11_tooMany_45 (by decide) ?_
        refine j_istore (lv' := [(9, .int (301 : Int32)), (8, .int (0 : Int32)), (7, .int r25), (0, .ref (ad 0)), (1, .int a1), (2, .int a2), (3, .int a3), (4, .int a4), (5, .int a5), (6, .int a6)]) hC dX11_tooMany_48 (by decide) rfl ?_
        refine j_iconst (v := 0) hC dX11_tooMany_50 (by decide) ?_
        refine j_istore (lv' := [(10, .int (0 : Int32)), (9, .int (301 : Int32)), (8, .int (0 : Int32)), (7, .int r25), (0, .ref (ad 0)), (1, .int a1), (2, .int a2), (3, .int a3), (4, .int a4), (5, .int a5), (6, .int a6)]) hC dX11_tooMany_51 (by decide) rfl ?_
        obtain ⟨n_, hv⟩ := hv
        exact j_lv [4, 5, 6, 7, 8, 9, 10, 2, 1, 0] rfl (lSG_tooMany_53 hC hQ n_ _ _ _ _ _ _ _ _ _ _ hv)
      · have hv := hv.2 h_
        refine j_aload_n (i := 0) hC dX11_tooMany_35 rfl 1 rfl ?_
        refine j_iload hC dX11_tooMany_36 0 rfl ?_
        refine j_callV_i (C := RX11) (As := [.int r25]) (rest := []) (b := (ad 0)) hC (cSG_found hv) 1 gX11_tooMany_X11_found rfl rfl rfl ⟨Nat.le_of_ble_eq_true rfl, Nat.le_of_ble_eq_true rfl⟩ hdSG_found rfl (wS_c0 ad cy _) rfl rfl (Nat.le_of_ble_eq_true rfl) ⟨Nat.zero_le _, Nat.zero_le _⟩ dX11_tooMany_38 (fun r38 g38 hv => ?_)
        exact j_iret hC hQ dX11_tooMany_41 rfl hv
    · have hv := hv.2 h_
      refine j_ldc (v := -1000001) hC dX11_tooMany_15 (mw 1 rfl) ?_
      exact j_iret hC hQ dX11_tooMany_17 rfl hv
theorem hdGate_toldAs : yX2_toldAs.cls = RX2 ∧ yX2_toldAs.cls ≠ "java/lang/invoke/MethodHandle" ∧ yX2_toldAs.cls ≠ "java/lang/invoke/VarHandle" ∧ (parseMethodDescriptor yX2_toldAs.desc).map (fun d => d.parameters.length) = some 0 := by decide +kernel
abbrev rGate_toldAs : Room := { frames := 0, cells := 0, slots := 0, locals := 0 }
def vGate_toldAs (g : GS) (k0 : Nat) (post : Int32 → GS → Prop) : Prop :=
  (k0 < z_gn g ∧ post (0 : Int32) g)
set_option maxHeartbeats 4000000 in
set_option maxRecDepth 100000 in
theorem cGate_toldAs {l : Launch} {D : va_G} {ad : Nat → Nat} {cy : Nat → ClassId} {g : GS} {k0 : Nat} {post : Int32 → GS → Prop} (hv : vGate_toldAs g k0 post) : jMi l yX2_toldAs wsX2_toldAs rGate_toldAs D (tyS cy) [.ref (ad (73 + k0))] (wS ad cy g) (wS ad cy) post 0 0 := by
  refine j_meti (cc := cX2_toldAs) (nL := 1) (rt := (some .int)) (by decide) (Nat.le_of_ble_eq_true rfl) ?_
  intro Γ hC hQ _
  have hC : jC Γ l rGate_toldAs D 1 RX2 cX2_toldAs wsX2_toldAs (tyS cy) := hC
  refine j_lv (lv' := [(0, .ref (ad (73 + k0)))]) [0] rfl ?_
  unfold vGate_toldAs at hv
  have hkk0 := hv.1
  have hv := hv.2
  refine j_iconst (v := 0) hC dX2_toldAs_0 (by decide) ?_
  exact j_iret hC hQ dX2_toldAs_1 rfl hv
theorem hdHanded_toldAs : yX3_toldAs.cls = RX3 ∧ yX3_toldAs.cls ≠ "java/lang/invoke/MethodHandle" ∧ yX3_toldAs.cls ≠ "java/lang/invoke/VarHandle" ∧ (parseMethodDescriptor yX3_toldAs.desc).map (fun d => d.parameters.length) = some 0 := by decide +kernel
abbrev rHanded_toldAs : Room := { frames := 0, cells := 0, slots := 0, locals := 0 }
def vHanded_toldAs (g : GS) (k0 : Nat) (post : Int32 → GS → Prop) : Prop :=
  (k0 < z_gn g ∧ post (1 : Int32) g)
set_option maxHeartbeats 4000000 in
set_option maxRecDepth 100000 in
theorem cHanded_toldAs {l : Launch} {D : va_G} {ad : Nat → Nat} {cy : Nat → ClassId} {g : GS} {k0 : Nat} {post : Int32 → GS → Prop} (hv : vHanded_toldAs g k0 post) : jMi l yX3_toldAs wsX3_toldAs rHanded_toldAs D (tyS cy) [.ref (ad (73 + k0))] (wS ad cy g) (wS ad cy) post 0 0 := by
  refine j_meti (cc := cX3_toldAs) (nL := 1) (rt := (some .int)) (by decide) (Nat.le_of_ble_eq_true rfl) ?_
  intro Γ hC hQ _
  have hC : jC Γ l rHanded_toldAs D 1 RX3 cX3_toldAs wsX3_toldAs (tyS cy) := hC
  refine j_lv (lv' := [(0, .ref (ad (73 + k0)))]) [0] rfl ?_
  unfold vHanded_toldAs at hv
  have hkk0 := hv.1
  have hv := hv.2
  refine j_iconst (v := 1) hC dX3_toldAs_0 (by decide) ?_
  exact j_iret hC hQ dX3_toldAs_1 rfl hv
theorem hdTwin_toldAs : yX10_toldAs.cls = RX10 ∧ yX10_toldAs.cls ≠ "java/lang/invoke/MethodHandle" ∧ yX10_toldAs.cls ≠ "java/lang/invoke/VarHandle" ∧ (parseMethodDescriptor yX10_toldAs.desc).map (fun d => d.parameters.length) = some 0 := by decide +kernel
abbrev rTwin_toldAs : Room := { frames := 0, cells := 0, slots := 0, locals := 0 }
def vTwin_toldAs (g : GS) (k0 : Nat) (post : Int32 → GS → Prop) : Prop :=
  (k0 < z_gn g ∧ post (2 : Int32) g)
set_option maxHeartbeats 4000000 in
set_option maxRecDepth 100000 in
theorem cTwin_toldAs {l : Launch} {D : va_G} {ad : Nat → Nat} {cy : Nat → ClassId} {g : GS} {k0 : Nat} {post : Int32 → GS → Prop} (hv : vTwin_toldAs g k0 post) : jMi l yX10_toldAs wsX10_toldAs rTwin_toldAs D (tyS cy) [.ref (ad (73 + k0))] (wS ad cy g) (wS ad cy) post 0 0 := by
  refine j_meti (cc := cX10_toldAs) (nL := 1) (rt := (some .int)) (by decide) (Nat.le_of_ble_eq_true rfl) ?_
  intro Γ hC hQ _
  have hC : jC Γ l rTwin_toldAs D 1 RX10 cX10_toldAs wsX10_toldAs (tyS cy) := hC
  refine j_lv (lv' := [(0, .ref (ad (73 + k0)))]) [0] rfl ?_
  unfold vTwin_toldAs at hv
  have hkk0 := hv.1
  have hv := hv.2
  refine j_iconst (v := 2) hC dX10_toldAs_0 (by decide) ?_
  exact j_iret hC hQ dX10_toldAs_1 rfl hv
theorem hdSlow_toldAs : yX8_toldAs.cls = RX8 ∧ yX8_toldAs.cls ≠ "java/lang/invoke/MethodHandle" ∧ yX8_toldAs.cls ≠ "java/lang/invoke/VarHandle" ∧ (parseMethodDescriptor yX8_toldAs.desc).map (fun d => d.parameters.length) = some 0 := by decide +kernel
abbrev rSlow_toldAs : Room := { frames := 0, cells := 0, slots := 0, locals := 0 }
def vSlow_toldAs (g : GS) (k0 : Nat) (post : Int32 → GS → Prop) : Prop :=
  (k0 < z_gn g ∧ post (3 : Int32) g)
set_option maxHeartbeats 4000000 in
set_option maxRecDepth 100000 in
theorem cSlow_toldAs {l : Launch} {D : va_G} {ad : Nat → Nat} {cy : Nat → ClassId} {g : GS} {k0 : Nat} {post : Int32 → GS → Prop} (hv : vSlow_toldAs g k0 post) : jMi l yX8_toldAs wsX8_toldAs rSlow_toldAs D (tyS cy) [.ref (ad (73 + k0))] (wS ad cy g) (wS ad cy) post 0 0 := by
  refine j_meti (cc := cX8_toldAs) (nL := 1) (rt := (some .int)) (by decide) (Nat.le_of_ble_eq_true rfl) ?_
  intro Γ hC hQ _
  have hC : jC Γ l rSlow_toldAs D 1 RX8 cX8_toldAs wsX8_toldAs (tyS cy) := hC
  refine j_lv (lv' := [(0, .ref (ad (73 + k0)))]) [0] rfl ?_
  unfold vSlow_toldAs at hv
  have hkk0 := hv.1
  have hv := hv.2
  refine j_iconst (v := 3) hC dX8_toldAs_0 (by decide) ?_
  exact j_iret hC hQ dX8_toldAs_1 rfl hv
theorem hdSG_kind : yX11_kind.cls = RX11 ∧ yX11_kind.cls ≠ "java/lang/invoke/MethodHandle" ∧ yX11_kind.cls ≠ "java/lang/invoke/VarHandle" ∧ (parseMethodDescriptor yX11_kind.desc).map (fun d => d.parameters.length) = some 1 := by decide +kernel
theorem hoHanded_toldAs_X2 : (RX2 : String) ≠ "java/lang/invoke/MethodHandle" ∧ (RX2 : String) ≠ "java/lang/invoke/VarHandle" ∧ (parseMethodDescriptor yX2_toldAs.desc).map (fun d => d.parameters.length) = some 0 := by decide +kernel
theorem hoSlow_toldAs_X2 : (RX2 : String) ≠ "java/lang/invoke/MethodHandle" ∧ (RX2 : String) ≠ "java/lang/invoke/VarHandle" ∧ (parseMethodDescriptor yX2_toldAs.desc).map (fun d => d.parameters.length) = some 0 := by decide +kernel
theorem hoTwin_toldAs_X2 : (RX2 : String) ≠ "java/lang/invoke/MethodHandle" ∧ (RX2 : String) ≠ "java/lang/invoke/VarHandle" ∧ (parseMethodDescriptor yX2_toldAs.desc).map (fun d => d.parameters.length) = some 0 := by decide +kernel
abbrev rSG_kind : Room := { frames := 2, cells := 0, slots := 0, locals := 43 }
def vSG_kind (g : GS) (a1 : Int32) (post : Int32 → GS → Prop) : Prop :=
  (vRow_at g a1 (fun r5 g5 => ((r5 = none → post (-1000001 : Int32) g5) ∧ (∀ k5 : Nat, r5 = some k5 → (k5 < z_gn g5 ∧ (((z_gk g5 k5) = 0 ∨ (z_gk g5 k5) = 1 ∨ (z_gk g5 k5) = 2 ∨ (z_gk g5 k5) = 3) ∧ ((z_gk g5 k5) = 0 → (vGate_toldAs g5 k5 (fun r19 g19 => post r19 g19))) ∧ ((z_gk g5 k5) = 1 → (vHanded_toldAs g5 k5 (fun r19 g19 => post r19 g19))) ∧ ((z_gk g5 k5) = 2 → (vTwin_toldAs g5 k5 (fun r19 g19 => post r19 g19))) ∧ ((z_gk g5 k5) = 3 → (vSlow_toldAs g5 k5 (fun r19 g19 => post r19 g19)))))))))
set_option maxHeartbeats 4000000 in
set_option maxRecDepth 100000 in
theorem cSG_kind {l : Launch} {D : va_G} {ad : Nat → Nat} {cy : Nat → ClassId} {g : GS} {a1 : Int32} {post : Int32 → GS → Prop} (hv : vSG_kind g a1 post) : jMi l yX11_kind wsX11_kind rSG_kind D (tyS cy) [.ref (ad 0), .int a1] (wS ad cy g) (wS ad cy) post 0 0 := by
  refine j_meti (cc := cX11_kind) (nL := 3) (rt := (some .int)) (by decide) (Nat.le_of_ble_eq_true rfl) ?_
  intro Γ hC hQ _
  have hC : jC Γ l rSG_kind D 3 RX11 cX11_kind wsX11_kind (tyS cy) := hC
  have hinX11 : ∀ w ∈ wsX110, w ∈ wsX11_kind := fun w h => List.mem_cons_of_mem _ (List.mem_append_left _ (List.mem_append_right _ h))
  refine j_lv (lv' := [(0, .ref (ad 0)), (1, .int a1)]) [0, 1] rfl ?_
  unfold vSG_kind at hv
  refine j_aload_n (i := 0) hC dX11_kind_0 rfl 0 rfl ?_
  refine j_get (C := RX11) (T := TX11) (N := 8) (v := .ref (ad 16)) hC hinX11 0 (wS_c0 ad cy _) rfl 4 (by decide) (mw 1 rfl) rfl rfl dX11_kind_1 ?_
  refine j_iload_n (i := 1) hC dX11_kind_4 rfl 1 rfl ?_
  refine j_callV_q (C := RX5) (As := [.int a1]) (rest := []) (b := (ad 16)) hC (cRow_at hv) 1 gX11_kind_X5_at rfl rfl rfl ⟨Nat.le_of_ble_eq_true rfl, Nat.le_of_ble_eq_true rfl⟩ hdRow_at rfl (wS_c16 ad cy _) rfl rfl (Nat.le_of_ble_eq_true rfl) ⟨Nat.zero_le _, Nat.zero_le _⟩ dX11_kind_5 (fun r5 g5 hv => ?_)
  obtain ⟨o_, rfl, hv⟩ := hv
  cases o_ with
  | none =>
    have hv := hv.1 rfl
    refine j_astore_nN (i := 2) (lv' := [(2, .null), (0, .ref (ad 0)), (1, .int a1)]) hC dX11_kind_8 rfl (by decide) rfl ?_
    refine j_aload_nN (i := 2) hC dX11_kind_9 rfl 0 rfl ?_
    refine j_ifnonnullN hC dX11_kind_10 ?_
    refine j_ldc (v := -1000001) hC dX11_kind_13 (mw 2 rfl) ?_
    refine j_goto (tgt := 22) hC dX11_kind_15 (by decide) ?_
    exact j_iret hC hQ dX11_kind_22 rfl hv
  | some k5 =>
    have hv := hv.2 k5 rfl
    refine j_astore_n (i := 2) (lv' := [(2, .ref (ad (73 + k5))), (0, .ref (ad 0)), (1, .int a1)]) hC dX11_kind_8 rfl (by decide) rfl ?_
    refine j_aload_n (i := 2) hC dX11_kind_9 rfl 0 rfl ?_
    refine j_ifnonnull (tgt := 18) hC dX11_kind_10 (by decide) ?_
    refine j_aload_n (i := 2) hC dX11_kind_18 rfl 0 rfl ?_
    have hk19 := hv.1
    have hv := hv.2
    obtain ⟨ho_, hv⟩ := hv
    rcases ho_ with h_ | h_ | h_ | h_
    · have hv := hv.1 h_
      refine j_callV_i (C := RX2) (As := []) (rest := []) (b := (ad (73 + k5))) hC (cGate_toldAs hv) 0 gX11_kind_X2_toldAs rfl rfl rfl ⟨Nat.le_of_ble_eq_true rfl, Nat.le_of_ble_eq_true rfl⟩ hdGate_toldAs rfl (wS_gk0 ad cy _ hk19 h_) rfl rfl (Nat.le_of_ble_eq_true rfl) ⟨Nat.zero_le _, Nat.zero_le _⟩ dX11_kind_19 (fun r19 g19 hv => ?_)
      exact j_iret hC hQ dX11_kind_22 rfl hv
    · have hv := hv.2.1 h_
      refine j_callVO_i (C := RX3) (As := []) (rest := []) (b := (ad (73 + k5))) hC (cHanded_toldAs hv) 0 gX11_kind_X3_toldAs_u237X3 rfl rfl rfl ⟨Nat.le_of_ble_eq_true rfl, Nat.le_of_ble_eq_true rfl⟩ (mw 17 rfl) hoHanded_toldAs_X2 rfl (wS_gk1 ad cy _ hk19 h_) rfl rfl (Nat.le_of_ble_eq_true rfl) ⟨Nat.zero_le _, Nat.zero_le _⟩ dX11_kind_19 (fun r19 g19 hv => ?_)
      exact j_iret hC hQ dX11_kind_22 rfl hv
    · have hv := hv.2.2.1 h_
      refine j_callVO_i (C := RX10) (As := []) (rest := []) (b := (ad (73 + k5))) hC (cTwin_toldAs hv) 0 gX11_kind_X10_toldAs_u237X10 rfl rfl rfl ⟨Nat.le_of_ble_eq_true rfl, Nat.le_of_ble_eq_true rfl⟩ (mw 17 rfl) hoTwin_toldAs_X2 rfl (wS_gk2 ad cy _ hk19 h_) rfl rfl (Nat.le_of_ble_eq_true rfl) ⟨Nat.zero_le _, Nat.zero_le _⟩ dX11_kind_19 (fun r19 g19 hv => ?_)
      exact j_iret hC hQ dX11_kind_22 rfl hv
    · have hv := hv.2.2.2 h_
      refine j_callVO_i (C := RX8) (As := []) (rest := []) (b := (ad (73 + k5))) hC (cSlow_toldAs hv) 0 gX11_kind_X8_toldAs_u237X8 rfl rfl rfl ⟨Nat.le_of_ble_eq_true rfl, Nat.le_of_ble_eq_true rfl⟩ (mw 17 rfl) hoSlow_toldAs_X2 rfl (wS_gk3 ad cy _ hk19 h_) rfl rfl (Nat.le_of_ble_eq_true rfl) ⟨Nat.zero_le _, Nat.zero_le _⟩ dX11_kind_19 (fun r19 g19 hv => ?_)
      exact j_iret hC hQ dX11_kind_22 rfl hv
theorem hdSG_isOf : yX11_isOf.cls = RX11 ∧ yX11_isOf.cls ≠ "java/lang/invoke/MethodHandle" ∧ yX11_isOf.cls ≠ "java/lang/invoke/VarHandle" ∧ (parseMethodDescriptor yX11_isOf.desc).map (fun d => d.parameters.length) = some 2 := by decide +kernel
abbrev rSG_isOf : Room := { frames := 0, cells := 0, slots := 0, locals := 0 }
def vSG_isOf (g : GS) (a0 : Nat) (a1 : Int32) (post : Int32 → GS → Prop) : Prop :=
  (a0 < z_gn g ∧ (((∀ j_ : Nat, 1 ≤ j_ → j_ ≤ 3 → ¬ a1 = nI j_) → post (1 : Int32) g) ∧ (a1 = nI 1 → (((z_gk g a0) = 0 ∨ (z_gk g a0) = 1 ∨ (z_gk g a0) = 2 ∨ (z_gk g a0) = 3) ∧ ((z_gk g a0) = 0 → post (0 : Int32) g) ∧ ((z_gk g a0) = 1 → post (1 : Int32) g) ∧ ((z_gk g a0) = 2 → post (1 : Int32) g) ∧ ((z_gk g a0) = 3 → post (0 : Int32) g))) ∧ (a1 = nI 2 → (((z_gk g a0) = 0 ∨ (z_gk g a0) = 1 ∨ (z_gk g a0) = 2 ∨ (z_gk g a0) = 3) ∧ ((z_gk g a0) = 0 → post (0 : Int32) g) ∧ ((z_gk g a0) = 1 → post (0 : Int32) g) ∧ ((z_gk g a0) = 2 → post (1 : Int32) g) ∧ ((z_gk g a0) = 3 → post (0 : Int32) g))) ∧ (a1 = nI 3 → (((z_gk g a0) = 0 ∨ (z_gk g a0) = 1 ∨ (z_gk g a0) = 2 ∨ (z_gk g a0) = 3) ∧ ((z_gk g a0) = 0 → post (0 : Int32) g) ∧ ((z_gk g a0) = 1 → post (0 : Int32) g) ∧ ((z_gk g a0) = 2 → post (0 : Int32) g) ∧ ((z_gk g a0) = 3 → post (1 : Int32) g)))))
set_option maxHeartbeats 4000000 in
set_option maxRecDepth 100000 in
theorem cSG_isOf {l : Launch} {D : va_G} {ad : Nat → Nat} {cy : Nat → ClassId} {g : GS} {a0 : Nat} {a1 : Int32} {post : Int32 → GS → Prop} (hv : vSG_isOf g a0 a1 post) : jMi l yX11_isOf wsX11_isOf rSG_isOf D (tyS cy) [.ref (ad (73 + a0)), .int a1] (wS ad cy g) (wS ad cy) post 0 0 := by
  refine j_meti (cc := cX11_isOf) (nL := 2) (rt := (some .boolean)) (by decide) (Nat.le_of_ble_eq_true rfl) ?_
  intro Γ hC hQ _
  have hC : jC Γ l rSG_isOf D 2 RX11 cX11_isOf wsX11_isOf (tyS cy) := hC
  refine j_lv (lv' := [(0, .ref (ad (73 + a0))), (1, .int a1)]) [0, 1] rfl ?_
  unfold vSG_isOf at hv
  have hka0 := hv.1
  have hv := hv.2
  refine j_iload_n (i := 1) hC dX11_isOf_0 rfl 1 rfl ?_
  rcases jsw a1 1 3 with h_ | h_
  · have hv := hv.1 h_
    refine j_tableOut (tgt := 43) hC dX11_isOf_1 (jsw_out (a := 1) (n := 3) h_ rfl rfl) (by decide) ?_
    refine j_iconst (v := 1) hC dX11_isOf_43 (by decide) ?_
    exact j_zret hC hQ dX11_isOf_44 rfl rfl hv
  · have hv := hv.2
    obtain ⟨j_, hi_, hj_, h_⟩ := h_
    match j_, hi_, hj_, h_ with
    | 0, hi_, _, _ => exact absurd hi_ (by omega)
    | 1, _, _, h_ =>
      have hv := hv.1 h_
      refine j_tableIn (tgt := 28) (off := 27) hC dX11_isOf_1 (by rw [h_]; decide) (by rw [h_]; decide) (by rw [h_]; rfl) (by decide) ?_
      refine j_aload_n (i := 0) hC dX11_isOf_28 rfl 0 rfl ?_
      obtain ⟨ho_, hv⟩ := hv
      rcases ho_ with h_ | h_ | h_ | h_
      · have hv := hv.1 h_
        refine j_instNo (r := (RX2, TX2, 3)) hC _ 2 (mw 1 rfl) (mw 0 rfl) (wS_gk0 ad cy _ hka0 h_) rfl dX11_isOf_29 ?_
        exact j_zret hC hQ dX11_isOf_32 rfl rfl hv
      · have hv := hv.2.1 h_
        refine j_instS (r := (RX3, TX3, 3)) hC _ 3 (mw 1 rfl) (wS_gk1 ad cy _ hka0 h_) rfl dX11_isOf_29 ?_
        exact j_zret hC hQ dX11_isOf_32 rfl rfl hv
      · have hv := hv.2.2.1 h_
        refine j_instY (r := (RX10, TX10, 3)) hC _ 10 (mw 1 rfl) (mw 3 rfl) (wS_gk2 ad cy _ hka0 h_) rfl dX11_isOf_29 ?_
        exact j_zret hC hQ dX11_isOf_32 rfl rfl hv
      · have hv := hv.2.2.2 h_
        refine j_instNo (r := (RX8, TX8, 3)) hC _ 8 (mw 1 rfl) (mw 1 rfl) (wS_gk3 ad cy _ hka0 h_) rfl dX11_isOf_29 ?_
        exact j_zret hC hQ dX11_isOf_32 rfl rfl hv
    | 2, _, _, h_ =>
      have hv := hv.2.1 h_
      refine j_tableIn (tgt := 33) (off := 32) hC dX11_isOf_1 (by rw [h_]; decide) (by rw [h_]; decide) (by rw [h_]; rfl) (by decide) ?_
      refine j_aload_n (i := 0) hC dX11_isOf_33 rfl 0 rfl ?_
      obtain ⟨ho_, hv⟩ := hv
      rcases ho_ with h_ | h_ | h_ | h_
      · have hv := hv.1 h_
        refine j_instNo (r := (RX2, TX2, 3)) hC _ 2 (mw 2 rfl) (mw 2 rfl) (wS_gk0 ad cy _ hka0 h_) rfl dX11_isOf_34 ?_
        exact j_zret hC hQ dX11_isOf_37 rfl rfl hv
      · have hv := hv.2.1 h_
        refine j_instNo (r := (RX3, TX3, 3)) hC _ 3 (mw 2 rfl) (mw 3 rfl) (wS_gk1 ad cy _ hka0 h_) rfl dX11_isOf_34 ?_
        exact j_zret hC hQ dX11_isOf_37 rfl rfl hv
      · have hv := hv.2.2.1 h_
        refine j_instS (r := (RX10, TX10, 3)) hC _ 10 (mw 2 rfl) (wS_gk2 ad cy _ hka0 h_) rfl dX11_isOf_34 ?_
        exact j_zret hC hQ dX11_isOf_37 rfl rfl hv
      · have hv := hv.2.2.2 h_
        refine j_instNo (r := (RX8, TX8, 3)) hC _ 8 (mw 2 rfl) (mw 4 rfl) (wS_gk3 ad cy _ hka0 h_) rfl dX11_isOf_34 ?_
        exact j_zret hC hQ dX11_isOf_37 rfl rfl hv
    | 3, _, _, h_ =>
      have hv := hv.2.2 h_
      refine j_tableIn (tgt := 38) (off := 37) hC dX11_isOf_1 (by rw [h_]; decide) (by rw [h_]; decide) (by rw [h_]; rfl) (by decide) ?_
      refine j_aload_n (i := 0) hC dX11_isOf_38 rfl 0 rfl ?_
      obtain ⟨ho_, hv⟩ := hv
      rcases ho_ with h_ | h_ | h_ | h_
      · have hv := hv.1 h_
        refine j_instNo (r := (RX2, TX2, 3)) hC _ 2 (mw 3 rfl) (mw 5 rfl) (wS_gk0 ad cy _ hka0 h_) rfl dX11_isOf_39 ?_
        exact j_zret hC hQ dX11_isOf_42 rfl rfl hv
      · have hv := hv.2.1 h_
        refine j_instNo (r := (RX3, TX3, 3)) hC _ 3 (mw 3 rfl) (mw 6 rfl) (wS_gk1 ad cy _ hka0 h_) rfl dX11_isOf_39 ?_
        exact j_zret hC hQ dX11_isOf_42 rfl rfl hv
      · have hv := hv.2.2.1 h_
        refine j_instNo (r := (RX10, TX10, 3)) hC _ 10 (mw 3 rfl) (mw 7 rfl) (wS_gk2 ad cy _ hka0 h_) rfl dX11_isOf_39 ?_
        exact j_zret hC hQ dX11_isOf_42 rfl rfl hv
      · have hv := hv.2.2.2 h_
        refine j_instS (r := (RX8, TX8, 3)) hC _ 8 (mw 3 rfl) (wS_gk3 ad cy _ hka0 h_) rfl dX11_isOf_39 ?_
        exact j_zret hC hQ dX11_isOf_42 rfl rfl hv
    | j_ + 4, _, hj_, _ => exact absurd hj_ (by omega)
theorem hdSG_as : yX11_as.cls = RX11 ∧ yX11_as.cls ≠ "java/lang/invoke/MethodHandle" ∧ yX11_as.cls ≠ "java/lang/invoke/VarHandle" ∧ (parseMethodDescriptor yX11_as.desc).map (fun d => d.parameters.length) = some 2 := by decide +kernel
abbrev rSG_as : Room := { frames := 2, cells := 0, slots := 0, locals := 43 }
def vSG_as (g : GS) (a1 : Int32) (a2 : Int32) (post : Int32 → GS → Prop) : Prop :=
  (vRow_at g a1 (fun r5 g5 => ((r5 = none → post (-1000001 : Int32) g5) ∧ (∀ k5 : Nat, r5 = some k5 → (vSG_within g5 a2 (0 : Int32) (3 : Int32) (fun r16 g16 => ((¬ r16 = (0 : Int32) → (vSG_isOf g16 k5 a2 (fun r27 g27 => ((r27 = (0 : Int32) → (vSG_found g27 (3 : Int32) (fun r46 g46 => post r46 g46))) ∧ (¬ r27 = (0 : Int32) → (k5 < z_gn g27 ∧ (vSG_fine g27 ((z_gm g27) k5) (fun r38 g38 => post r38 g38)))))))) ∧ (r16 = (0 : Int32) → post (-1000001 : Int32) g16))))))))
set_option maxHeartbeats 4000000 in
set_option maxRecDepth 100000 in
theorem cSG_as {l : Launch} {D : va_G} {ad : Nat → Nat} {cy : Nat → ClassId} {g : GS} {a1 : Int32} {a2 : Int32} {post : Int32 → GS → Prop} (hv : vSG_as g a1 a2 post) : jMi l yX11_as wsX11_as rSG_as D (tyS cy) [.ref (ad 0), .int a1, .int a2] (wS ad cy g) (wS ad cy) post 0 0 := by
  refine j_meti (cc := cX11_as) (nL := 4) (rt := (some .int)) (by decide) (Nat.le_of_ble_eq_true rfl) ?_
  intro Γ hC hQ _
  have hC : jC Γ l rSG_as D 4 RX11 cX11_as wsX11_as (tyS cy) := hC
  have hinX11 : ∀ w ∈ wsX110, w ∈ wsX11_as := fun w h => List.mem_cons_of_mem _ (List.mem_append_left _ (List.mem_append_left _ (List.mem_append_left _ (List.mem_append_left _ (List.mem_append_left _ (List.mem_append_right _ h))))))
  have hinX2 : ∀ w ∈ wsX20, w ∈ wsX11_as := fun w h => List.mem_cons_of_mem _ (List.mem_append_left _ (List.mem_append_left _ (List.mem_append_left _ (List.mem_append_left _ (List.mem_append_right _ h)))))
  have hinX3 : ∀ w ∈ wsX30, w ∈ wsX11_as := fun w h => List.mem_cons_of_mem _ (List.mem_append_left _ (List.mem_append_left _ (List.mem_append_left _ (List.mem_append_right _ h))))
  have hinX8 : ∀ w ∈ wsX80, w ∈ wsX11_as := fun w h => List.mem_cons_of_mem _ (List.mem_append_left _ (List.mem_append_left _ (List.mem_append_right _ h)))
  have hinX10 : ∀ w ∈ wsX100, w ∈ wsX11_as := fun w h => List.mem_cons_of_mem _ (List.mem_append_left _ (List.mem_append_right _ h))
  refine j_lv (lv' := [(0, .ref (ad 0)), (1, .int a1), (2, .int a2)]) [0, 1, 2] rfl ?_
  unfold vSG_as at hv
  refine j_aload_n (i := 0) hC dX11_as_0 rfl 0 rfl ?_
  refine j_get (C := RX11) (T := TX11) (N := 8) (v := .ref (ad 16)) hC hinX11 0 (wS_c0 ad cy _) rfl 4 (by decide) (mw 1 rfl) rfl rfl dX11_as_1 ?_
  refine j_iload_n (i := 1) hC dX11_as_4 rfl 1 rfl ?_
  refine j_callV_q (C := RX5) (As := [.int a1]) (rest := []) (b := (ad 16)) hC (cRow_at hv) 1 gX11_as_X5_at rfl rfl rfl ⟨Nat.le_of_ble_eq_true rfl, Nat.le_of_ble_eq_true rfl⟩ hdRow_at rfl (wS_c16 ad cy _) rfl rfl (Nat.le_of_ble_eq_true rfl) ⟨Nat.zero_le _, Nat.zero_le _⟩ dX11_as_5 (fun r5 g5 hv => ?_)
  obtain ⟨o_, rfl, hv⟩ := hv
  cases o_ with
  | none =>
    have hv := hv.1 rfl
    refine j_astore_nN (i := 3) (lv' := [(3, .null), (0, .ref (ad 0)), (1, .int a1), (2, .int a2)]) hC dX11_as_8 rfl (by decide) rfl ?_
    refine j_aload_nN (i := 3) hC dX11_as_9 rfl 0 rfl ?_
    refine j_ifnullN (tgt := 22) hC dX11_as_10 (by decide) ?_
    refine j_ldc (v := -1000001) hC dX11_as_22 (mw 2 rfl) ?_
    exact j_iret hC hQ dX11_as_24 rfl hv
  | some k5 =>
    have hv := hv.2 k5 rfl
    refine j_astore_n (i := 3) (lv' := [(3, .ref (ad (73 + k5))), (0, .ref (ad 0)), (1, .int a1), (2, .int a2)]) hC dX11_as_8 rfl (by decide) rfl ?_
    refine j_aload_n (i := 3) hC dX11_as_9 rfl 0 rfl ?_
    refine j_ifnull hC dX11_as_10 ?_
    refine j_iload_n (i := 2) hC dX11_as_13 rfl 3 rfl ?_
    refine j_iconst (v := 0) hC dX11_as_14 (by decide) ?_
    refine j_iconst (v := 3) hC dX11_as_15 (by decide) ?_
    refine j_callS_i (As := [.int a2, .int (0 : Int32), .int (3 : Int32)]) (rest := []) hC (cSG_within hv) 3 gX11_as_X11_within rfl rfl rfl ⟨Nat.le_of_ble_eq_true rfl, Nat.le_of_ble_eq_true rfl⟩ hdSG_within.2 rfl rfl (Nat.le_of_ble_eq_true rfl) ⟨Nat.zero_le _, Nat.zero_le _⟩ dX11_as_16 (fun r16 g16 hv => ?_)
    refine j_if_ne (tgt := 25) hC dX11_as_19 (by decide) (fun h_ => ?_) (fun h_ => ?_)
    · have hv := hv.1 h_
      refine j_aload_n (i := 3) hC dX11_as_25 rfl 0 rfl ?_
      refine j_iload_n (i := 2) hC dX11_as_26 rfl 3 rfl ?_
      refine j_callS_i (As := [.ref (ad (73 + k5)), .int a2]) (rest := []) hC (cSG_isOf hv) 2 gX11_as_X11_isOf rfl rfl rfl ⟨Nat.le_of_ble_eq_true rfl, Nat.le_of_ble_eq_true rfl⟩ hdSG_isOf.2 rfl rfl (Nat.le_of_ble_eq_true rfl) ⟨Nat.zero_le _, Nat.zero_le _⟩ dX11_as_27 (fun r27 g27 hv => ?_)
      refine j_if_eq (tgt := 44) hC dX11_as_30 (by decide) (fun h_ => ?_) (fun h_ => ?_)
      · have hv := hv.1 h_
        refine j_aload_n (i := 0) hC dX11_as_44 rfl 1 rfl ?_
        refine j_iconst (v := 3) hC dX11_as_45 (by decide) ?_
        refine j_callV_i (C := RX11) (As := [.int (3 : Int32)]) (rest := []) (b := (ad 0)) hC (cSG_found hv) 1 gX11_as_X11_found rfl rfl rfl ⟨Nat.le_of_ble_eq_true rfl, Nat.le_of_ble_eq_true rfl⟩ hdSG_found rfl (wS_c0 ad cy _) rfl rfl (Nat.le_of_ble_eq_true rfl) ⟨Nat.zero_le _, Nat.zero_le _⟩ dX11_as_46 (fun r46 g46 hv => ?_)
        exact j_iret hC hQ dX11_as_49 rfl hv
      · have hv := hv.2 h_
        refine j_aload_n (i := 0) hC dX11_as_33 rfl 1 rfl ?_
        refine j_aload_n (i := 3) hC dX11_as_34 rfl 0 rfl ?_
        have hk35 := hv.1
        have hv := hv.2
        refine j_getG0 (v := .int ((z_gm g27) k5)) hC hinX2 hinX3 hinX8 hinX10 hk35 (mw 3 rfl) (Or.inl rfl) rfl dX11_as_35 ?_
        refine j_callV_i (C := RX11) (As := [.int ((z_gm g27) k5)]) (rest := []) (b := (ad 0)) hC (cSG_fine hv) 1 gX11_as_X11_fine rfl rfl rfl ⟨Nat.le_of_ble_eq_true rfl, Nat.le_of_ble_eq_true rfl⟩ hdSG_fine rfl (wS_c0 ad cy _) rfl rfl (Nat.le_of_ble_eq_true rfl) ⟨Nat.zero_le _, Nat.zero_le _⟩ dX11_as_38 (fun r38 g38 hv => ?_)
        refine j_goto (tgt := 49) hC dX11_as_41 (by decide) ?_
        exact j_iret hC hQ dX11_as_49 rfl hv
    · have hv := hv.2 h_
      refine j_ldc (v := -1000001) hC dX11_as_22 (mw 2 rfl) ?_
      exact j_iret hC hQ dX11_as_24 rfl hv
theorem hdTrace_leave : yX9_leave.cls = RX9 ∧ yX9_leave.cls ≠ "java/lang/invoke/MethodHandle" ∧ yX9_leave.cls ≠ "java/lang/invoke/VarHandle" ∧ (parseMethodDescriptor yX9_leave.desc).map (fun d => d.parameters.length) = some 1 := by decide +kernel
abbrev rTrace_leave : Room := { frames := 0, cells := 0, slots := 0, locals := 0 }
def vTrace_leave (g : GS) (a1 : Int32) (post : GS → Prop) : Prop :=
  (((16 : Int32) ≤ (z_tlen g) → post g) ∧ (¬ (16 : Int32) ≤ (z_tlen g) → (vp_in (z_tlen g) 16 ∧ post (sz_tlen (sz_numbers g (upd (z_numbers g) (z_tlen g).toNatClampNeg a1)) ((z_tlen g) + (1 : Int32))))))
set_option maxHeartbeats 4000000 in
set_option maxRecDepth 100000 in
theorem cTrace_leave {l : Launch} {D : va_G} {ad : Nat → Nat} {cy : Nat → ClassId} {g : GS} {a1 : Int32} {post : GS → Prop} (hv : vTrace_leave g a1 post) : jMv l yX9_leave wsX9_leave rTrace_leave D (tyS cy) [.ref (ad 23), .int a1] (wS ad cy g) (wS ad cy) post 0 0 := by
  refine j_metv (cc := cX9_leave) (nL := 2) (rt := none) (by decide) (Nat.le_of_ble_eq_true rfl) ?_
  intro Γ hC hQ _
  have hC : jC Γ l rTrace_leave D 2 RX9 cX9_leave wsX9_leave (tyS cy) := hC
  have hinX9 : ∀ w ∈ wsX90, w ∈ wsX9_leave := fun w h => List.mem_cons_of_mem _ (List.mem_append_right _ h)
  refine j_lv (lv' := [(0, .ref (ad 23)), (1, .int a1)]) [0, 1] rfl ?_
  unfold vTrace_leave at hv
  refine j_aload_n (i := 0) hC dX9_leave_0 rfl 0 rfl ?_
  refine j_get (C := RX9) (T := TX9) (N := 2) (v := .int (z_tlen g)) hC hinX9 23 (wS_c23 ad cy _) rfl 1 (by decide) (mw 1 rfl) rfl rfl dX9_leave_1 ?_
  refine j_bipush (v := 16) hC dX9_leave_4 (by decide) ?_
  refine j_icmp_ge (tgt := 29) hC dX9_leave_6 (by decide) (fun h_ => ?_) (fun h_ => ?_)
  · have hv := hv.1 h_
    exact j_vret hC hQ dX9_leave_29 rfl hv
  · have hv := hv.2 h_
    refine j_aload_n (i := 0) hC dX9_leave_9 rfl 0 rfl ?_
    refine j_get (C := RX9) (T := TX9) (N := 2) (v := .ref (ad 24)) hC hinX9 23 (wS_c23 ad cy _) rfl 0 (by decide) (mw 2 rfl) rfl rfl dX9_leave_10 ?_
    refine j_aload_n (i := 0) hC dX9_leave_13 rfl 0 rfl ?_
    refine j_get (C := RX9) (T := TX9) (N := 2) (v := .int (z_tlen g)) hC hinX9 23 (wS_c23 ad cy _) rfl 1 (by decide) (mw 1 rfl) rfl rfl dX9_leave_14 ?_
    refine j_iload_n (i := 1) hC dX9_leave_17 rfl 1 rfl ?_
    have hb18 := hv.1
    have hv := hv.2
    refine j_iast hC _ 0 (wS_c24 ad cy _) rfl hb18 (wS_s_numbers ad cy _ _) dX9_leave_18 ?_
    refine j_aload_n (i := 0) hC dX9_leave_19 rfl 0 rfl ?_
    refine j_dup hC dX9_leave_20 rfl ?_
    refine j_get (C := RX9) (T := TX9) (N := 2) (v := .int (z_tlen g)) hC hinX9 23 (wS_c23 ad cy _) rfl 1 (by decide) (mw 1 rfl) rfl rfl dX9_leave_21 ?_
    refine j_iconst (v := 1) hC dX9_leave_24 (by decide) ?_
    refine j_iadd hC dX9_leave_25 ?_
    refine j_put (C := RX9) (T := TX9) (N := 2) (ty := .int) hC hinX9 tyX9 tyX9_ok nmX9 23 (wS_c23 ad cy _) rfl 1 (by decide) (mw 1 rfl) rfl rfl fdX9_1 rfl rfl (Nat.le_of_ble_eq_true rfl) (wS_p_tlen ad cy _ _) dX9_leave_26 ?_
    exact j_vret hC hQ dX9_leave_29 rfl hv
theorem hdGate_cost : yX2_cost.cls = RX2 ∧ yX2_cost.cls ≠ "java/lang/invoke/MethodHandle" ∧ yX2_cost.cls ≠ "java/lang/invoke/VarHandle" ∧ (parseMethodDescriptor yX2_cost.desc).map (fun d => d.parameters.length) = some 1 := by decide +kernel
theorem hsGate_cost : yX2_cost.name ≠ "<init>" ∧ (parseMethodDescriptor yX2_cost.desc).map (fun d => d.parameters.length) = some 1 := by decide +kernel
abbrev rGate_cost : Room := { frames := 1, cells := 0, slots := 0, locals := 21 }
def vGate_cost (g : GS) (k0 : Nat) (post : Int32 → GS → Prop) : Prop :=
  (k0 < z_gn g ∧ (vTrace_leave g (10 : Int32) (fun g3 => (k0 < z_gn g3 ∧ post ((z_gm g3) k0) g3))))
set_option maxHeartbeats 4000000 in
set_option maxRecDepth 100000 in
theorem cGate_cost {l : Launch} {D : va_G} {ad : Nat → Nat} {cy : Nat → ClassId} {g : GS} {k0 : Nat} {post : Int32 → GS → Prop} (hv : vGate_cost g k0 post) : jMi l yX2_cost wsX2_cost rGate_cost D (tyS cy) [.ref (ad (73 + k0)), .ref (ad 23)] (wS ad cy g) (wS ad cy) post 0 0 := by
  refine j_meti (cc := cX2_cost) (nL := 2) (rt := (some .int)) (by decide) (Nat.le_of_ble_eq_true rfl) ?_
  intro Γ hC hQ _
  have hC : jC Γ l rGate_cost D 2 RX2 cX2_cost wsX2_cost (tyS cy) := hC
  have hinX2 : ∀ w ∈ wsX20, w ∈ wsX2_cost := fun w h => List.mem_cons_of_mem _ (List.mem_append_left _ (List.mem_append_left _ (List.mem_append_left _ (List.mem_append_left _ (List.mem_append_right _ h)))))
  have hinX3 : ∀ w ∈ wsX30, w ∈ wsX2_cost := fun w h => List.mem_cons_of_mem _ (List.mem_append_left _ (List.mem_append_left _ (List.mem_append_left _ (List.mem_append_right _ h))))
  have hinX8 : ∀ w ∈ wsX80, w ∈ wsX2_cost := fun w h => List.mem_cons_of_mem _ (List.mem_append_left _ (List.mem_append_left _ (List.mem_append_right _ h)))
  have hinX10 : ∀ w ∈ wsX100, w ∈ wsX2_cost := fun w h => List.mem_cons_of_mem _ (List.mem_append_left _ (List.mem_append_right _ h))
  refine j_lv (lv' := [(0, .ref (ad (73 + k0))), (1, .ref (ad 23))]) [0, 1] rfl ?_
  unfold vGate_cost at hv
  have hkk0 := hv.1
  have hv := hv.2
  refine j_aload_n (i := 1) hC dX2_cost_0 rfl 1 rfl ?_
  refine j_bipush (v := 10) hC dX2_cost_1 (by decide) ?_
  refine j_callV_v (C := RX9) (As := [.int (10 : Int32)]) (rest := []) (b := (ad 23)) hC (cTrace_leave hv) 1 gX2_cost_X9_leave rfl rfl rfl ⟨Nat.le_of_ble_eq_true rfl, Nat.le_of_ble_eq_true rfl⟩ hdTrace_leave rfl (wS_c23 ad cy _) rfl rfl (Nat.le_of_ble_eq_true rfl) ⟨Nat.zero_le _, Nat.zero_le _⟩ dX2_cost_3 (fun g3 hv => ?_)
  refine j_aload_n (i := 0) hC dX2_cost_6 rfl 0 rfl ?_
  have hk7 := hv.1
  have hv := hv.2
  refine j_getG0 (v := .int ((z_gm g3) k0)) hC hinX2 hinX3 hinX8 hinX10 hk7 (mw 1 rfl) (Or.inl rfl) rfl dX2_cost_7 ?_
  exact j_iret hC hQ dX2_cost_10 rfl hv
theorem hdHanded_cost : yX3_cost.cls = RX3 ∧ yX3_cost.cls ≠ "java/lang/invoke/MethodHandle" ∧ yX3_cost.cls ≠ "java/lang/invoke/VarHandle" ∧ (parseMethodDescriptor yX3_cost.desc).map (fun d => d.parameters.length) = some 1 := by decide +kernel
theorem hsHanded_cost : yX3_cost.name ≠ "<init>" ∧ (parseMethodDescriptor yX3_cost.desc).map (fun d => d.parameters.length) = some 1 := by decide +kernel
abbrev rHanded_cost : Room := { frames := 2, cells := 0, slots := 0, locals := 42 }
def vHanded_cost (g : GS) (k0 : Nat) (post : Int32 → GS → Prop) : Prop :=
  (k0 < z_gn g ∧ (vTrace_leave g (11 : Int32) (fun g3 => (k0 < z_gn g3 ∧ (vGate_cost g3 k0 (fun r8 g8 => (k0 < z_gn g8 ∧ post (r8 + ((z_gh g8) k0)) g8)))))))
set_option maxHeartbeats 4000000 in
set_option maxRecDepth 100000 in
theorem cHanded_cost {l : Launch} {D : va_G} {ad : Nat → Nat} {cy : Nat → ClassId} {g : GS} {k0 : Nat} {post : Int32 → GS → Prop} (hv : vHanded_cost g k0 post) : jMi l yX3_cost wsX3_cost rHanded_cost D (tyS cy) [.ref (ad (73 + k0)), .ref (ad 23)] (wS ad cy g) (wS ad cy) post 0 0 := by
  refine j_meti (cc := cX3_cost) (nL := 2) (rt := (some .int)) (by decide) (Nat.le_of_ble_eq_true rfl) ?_
  intro Γ hC hQ _
  have hC : jC Γ l rHanded_cost D 2 RX3 cX3_cost wsX3_cost (tyS cy) := hC
  have hinX2 : ∀ w ∈ wsX20, w ∈ wsX3_cost := fun w h => List.mem_cons_of_mem _ (List.mem_append_left _ (List.mem_append_left _ (List.mem_append_left _ (List.mem_append_left _ (List.mem_append_right _ h)))))
  have hinX3 : ∀ w ∈ wsX30, w ∈ wsX3_cost := fun w h => List.mem_cons_of_mem _ (List.mem_append_left _ (List.mem_append_left _ (List.mem_append_left _ (List.mem_append_right _ h))))
  have hinX8 : ∀ w ∈ wsX80, w ∈ wsX3_cost := fun w h => List.mem_cons_of_mem _ (List.mem_append_left _ (List.mem_append_left _ (List.mem_append_right _ h)))
  have hinX10 : ∀ w ∈ wsX100, w ∈ wsX3_cost := fun w h => List.mem_cons_of_mem _ (List.mem_append_left _ (List.mem_append_right _ h))
  refine j_lv (lv' := [(0, .ref (ad (73 + k0))), (1, .ref (ad 23))]) [0, 1] rfl ?_
  unfold vHanded_cost at hv
  have hkk0 := hv.1
  have hv := hv.2
  refine j_aload_n (i := 1) hC dX3_cost_0 rfl 1 rfl ?_
  refine j_bipush (v := 11) hC dX3_cost_1 (by decide) ?_
  refine j_callV_v (C := RX9) (As := [.int (11 : Int32)]) (rest := []) (b := (ad 23)) hC (cTrace_leave hv) 1 gX3_cost_X9_leave rfl rfl rfl ⟨Nat.le_of_ble_eq_true rfl, Nat.le_of_ble_eq_true rfl⟩ hdTrace_leave rfl (wS_c23 ad cy _) rfl rfl (Nat.le_of_ble_eq_true rfl) ⟨Nat.zero_le _, Nat.zero_le _⟩ dX3_cost_3 (fun g3 hv => ?_)
  refine j_aload_n (i := 0) hC dX3_cost_6 rfl 0 rfl ?_
  refine j_aload_n (i := 1) hC dX3_cost_7 rfl 1 rfl ?_
  have hk8 := hv.1
  have hv := hv.2
  obtain ⟨⟨C_, T_, N_⟩, hc_⟩ := gci_cl (z_gk g3 k0)
  refine j_callSU_i (As := [.ref (ad 23)]) (rest := []) (b := (ad (73 + k0))) hC (cGate_cost hv) 1 gX3_cost_X2_cost_s15 rfl rfl rfl ⟨Nat.le_of_ble_eq_true rfl, Nat.le_of_ble_eq_true rfl⟩ hsGate_cost rfl (wS_gate ad cy _ hk8) hc_ rfl (Nat.le_of_ble_eq_true rfl) ⟨Nat.zero_le _, Nat.zero_le _⟩ dX3_cost_8 (fun r8 g8 hv => ?_)
  refine j_aload_n (i := 0) hC dX3_cost_11 rfl 0 rfl ?_
  have hk12 := hv.1
  have hv := hv.2
  refine j_getG1 (v := .int ((z_gh g8) k0)) hC hinX2 hinX3 hinX8 hinX10 hk12 (mw 1 rfl) (Or.inr (mw 2 rfl)) rfl dX3_cost_12 ?_
  refine j_iadd hC dX3_cost_15 ?_
  exact j_iret hC hQ dX3_cost_16 rfl hv
theorem hdTwin_cost : yX10_cost.cls = RX10 ∧ yX10_cost.cls ≠ "java/lang/invoke/MethodHandle" ∧ yX10_cost.cls ≠ "java/lang/invoke/VarHandle" ∧ (parseMethodDescriptor yX10_cost.desc).map (fun d => d.parameters.length) = some 1 := by decide +kernel
abbrev rTwin_cost : Room := { frames := 3, cells := 0, slots := 0, locals := 63 }
def vTwin_cost (g : GS) (k0 : Nat) (post : Int32 → GS → Prop) : Prop :=
  (k0 < z_gn g ∧ (vTrace_leave g (12 : Int32) (fun g3 => (k0 < z_gn g3 ∧ (vHanded_cost g3 k0 (fun r8 g8 => post (r8 / (2 : Int32)) g8))))))
set_option maxHeartbeats 4000000 in
set_option maxRecDepth 100000 in
theorem cTwin_cost {l : Launch} {D : va_G} {ad : Nat → Nat} {cy : Nat → ClassId} {g : GS} {k0 : Nat} {post : Int32 → GS → Prop} (hv : vTwin_cost g k0 post) : jMi l yX10_cost wsX10_cost rTwin_cost D (tyS cy) [.ref (ad (73 + k0)), .ref (ad 23)] (wS ad cy g) (wS ad cy) post 0 0 := by
  refine j_meti (cc := cX10_cost) (nL := 2) (rt := (some .int)) (by decide) (Nat.le_of_ble_eq_true rfl) ?_
  intro Γ hC hQ _
  have hC : jC Γ l rTwin_cost D 2 RX10 cX10_cost wsX10_cost (tyS cy) := hC
  refine j_lv (lv' := [(0, .ref (ad (73 + k0))), (1, .ref (ad 23))]) [0, 1] rfl ?_
  unfold vTwin_cost at hv
  have hkk0 := hv.1
  have hv := hv.2
  refine j_aload_n (i := 1) hC dX10_cost_0 rfl 1 rfl ?_
  refine j_bipush (v := 12) hC dX10_cost_1 (by decide) ?_
  refine j_callV_v (C := RX9) (As := [.int (12 : Int32)]) (rest := []) (b := (ad 23)) hC (cTrace_leave hv) 1 gX10_cost_X9_leave rfl rfl rfl ⟨Nat.le_of_ble_eq_true rfl, Nat.le_of_ble_eq_true rfl⟩ hdTrace_leave rfl (wS_c23 ad cy _) rfl rfl (Nat.le_of_ble_eq_true rfl) ⟨Nat.zero_le _, Nat.zero_le _⟩ dX10_cost_3 (fun g3 hv => ?_)
  refine j_aload_n (i := 0) hC dX10_cost_6 rfl 0 rfl ?_
  refine j_aload_n (i := 1) hC dX10_cost_7 rfl 1 rfl ?_
  have hk8 := hv.1
  have hv := hv.2
  obtain ⟨⟨C_, T_, N_⟩, hc_⟩ := gci_cl (z_gk g3 k0)
  refine j_callSU_i (As := [.ref (ad 23)]) (rest := []) (b := (ad (73 + k0))) hC (cHanded_cost hv) 1 gX10_cost_X3_cost_s15 rfl rfl rfl ⟨Nat.le_of_ble_eq_true rfl, Nat.le_of_ble_eq_true rfl⟩ hsHanded_cost rfl (wS_gate ad cy _ hk8) hc_ rfl (Nat.le_of_ble_eq_true rfl) ⟨Nat.zero_le _, Nat.zero_le _⟩ dX10_cost_8 (fun r8 g8 hv => ?_)
  refine j_iconst (v := 2) hC dX10_cost_11 (by decide) ?_
  refine j_idiv hC dX10_cost_12 (by decide) ?_
  exact j_iret hC hQ dX10_cost_13 rfl hv
theorem hdSlow_cost : yX8_cost.cls = RX8 ∧ yX8_cost.cls ≠ "java/lang/invoke/MethodHandle" ∧ yX8_cost.cls ≠ "java/lang/invoke/VarHandle" ∧ (parseMethodDescriptor yX8_cost.desc).map (fun d => d.parameters.length) = some 1 := by decide +kernel
abbrev rSlow_cost : Room := { frames := 2, cells := 0, slots := 0, locals := 42 }
def vSlow_cost (g : GS) (k0 : Nat) (post : Int32 → GS → Prop) : Prop :=
  (k0 < z_gn g ∧ (vTrace_leave g (13 : Int32) (fun g3 => (k0 < z_gn g3 ∧ (vGate_cost g3 k0 (fun r8 g8 => post (r8 + (1000 : Int32)) g8))))))
set_option maxHeartbeats 4000000 in
set_option maxRecDepth 100000 in
theorem cSlow_cost {l : Launch} {D : va_G} {ad : Nat → Nat} {cy : Nat → ClassId} {g : GS} {k0 : Nat} {post : Int32 → GS → Prop} (hv : vSlow_cost g k0 post) : jMi l yX8_cost wsX8_cost rSlow_cost D (tyS cy) [.ref (ad (73 + k0)), .ref (ad 23)] (wS ad cy g) (wS ad cy) post 0 0 := by
  refine j_meti (cc := cX8_cost) (nL := 2) (rt := (some .int)) (by decide) (Nat.le_of_ble_eq_true rfl) ?_
  intro Γ hC hQ _
  have hC : jC Γ l rSlow_cost D 2 RX8 cX8_cost wsX8_cost (tyS cy) := hC
  refine j_lv (lv' := [(0, .ref (ad (73 + k0))), (1, .ref (ad 23))]) [0, 1] rfl ?_
  unfold vSlow_cost at hv
  have hkk0 := hv.1
  have hv := hv.2
  refine j_aload_n (i := 1) hC dX8_cost_0 rfl 1 rfl ?_
  refine j_bipush (v := 13) hC dX8_cost_1 (by decide) ?_
  refine j_callV_v (C := RX9) (As := [.int (13 : Int32)]) (rest := []) (b := (ad 23)) hC (cTrace_leave hv) 1 gX8_cost_X9_leave rfl rfl rfl ⟨Nat.le_of_ble_eq_true rfl, Nat.le_of_ble_eq_true rfl⟩ hdTrace_leave rfl (wS_c23 ad cy _) rfl rfl (Nat.le_of_ble_eq_true rfl) ⟨Nat.zero_le _, Nat.zero_le _⟩ dX8_cost_3 (fun g3 hv => ?_)
  refine j_aload_n (i := 0) hC dX8_cost_6 rfl 0 rfl ?_
  refine j_aload_n (i := 1) hC dX8_cost_7 rfl 1 rfl ?_
  have hk8 := hv.1
  have hv := hv.2
  obtain ⟨⟨C_, T_, N_⟩, hc_⟩ := gci_cl (z_gk g3 k0)
  refine j_callSU_i (As := [.ref (ad 23)]) (rest := []) (b := (ad (73 + k0))) hC (cGate_cost hv) 1 gX8_cost_X2_cost_s15 rfl rfl rfl ⟨Nat.le_of_ble_eq_true rfl, Nat.le_of_ble_eq_true rfl⟩ hsGate_cost rfl (wS_gate ad cy _ hk8) hc_ rfl (Nat.le_of_ble_eq_true rfl) ⟨Nat.zero_le _, Nat.zero_le _⟩ dX8_cost_8 (fun r8 g8 hv => ?_)
  refine j_sipush (v := 1000) hC dX8_cost_11 (by decide) ?_
  refine j_iadd hC dX8_cost_14 ?_
  exact j_iret hC hQ dX8_cost_15 rfl hv
theorem hdGate_mark : yX2_mark.cls = RX2 ∧ yX2_mark.cls ≠ "java/lang/invoke/MethodHandle" ∧ yX2_mark.cls ≠ "java/lang/invoke/VarHandle" ∧ (parseMethodDescriptor yX2_mark.desc).map (fun d => d.parameters.length) = some 1 := by decide +kernel
theorem hsGate_mark : yX2_mark.name ≠ "<init>" ∧ (parseMethodDescriptor yX2_mark.desc).map (fun d => d.parameters.length) = some 1 := by decide +kernel
abbrev rGate_mark : Room := { frames := 1, cells := 0, slots := 0, locals := 21 }
def vGate_mark (g : GS) (k0 : Nat) (post : Int32 → GS → Prop) : Prop :=
  (k0 < z_gn g ∧ (vTrace_leave g (20 : Int32) (fun g3 => (k0 < z_gn g3 ∧ ((((z_gf g3) k0) = (0 : Int32) → post (0 : Int32) g3) ∧ (¬ ((z_gf g3) k0) = (0 : Int32) → post (1 : Int32) g3))))))
set_option maxHeartbeats 4000000 in
set_option maxRecDepth 100000 in
theorem cGate_mark {l : Launch} {D : va_G} {ad : Nat → Nat} {cy : Nat → ClassId} {g : GS} {k0 : Nat} {post : Int32 → GS → Prop} (hv : vGate_mark g k0 post) : jMi l yX2_mark wsX2_mark rGate_mark D (tyS cy) [.ref (ad (73 + k0)), .ref (ad 23)] (wS ad cy g) (wS ad cy) post 0 0 := by
  refine j_meti (cc := cX2_mark) (nL := 2) (rt := (some .int)) (by decide) (Nat.le_of_ble_eq_true rfl) ?_
  intro Γ hC hQ _
  have hC : jC Γ l rGate_mark D 2 RX2 cX2_mark wsX2_mark (tyS cy) := hC
  have hinX2 : ∀ w ∈ wsX20, w ∈ wsX2_mark := fun w h => List.mem_cons_of_mem _ (List.mem_append_left _ (List.mem_append_left _ (List.mem_append_left _ (List.mem_append_left _ (List.mem_append_right _ h)))))
  have hinX3 : ∀ w ∈ wsX30, w ∈ wsX2_mark := fun w h => List.mem_cons_of_mem _ (List.mem_append_left _ (List.mem_append_left _ (List.mem_append_left _ (List.mem_append_right _ h))))
  have hinX8 : ∀ w ∈ wsX80, w ∈ wsX2_mark := fun w h => List.mem_cons_of_mem _ (List.mem_append_left _ (List.mem_append_left _ (List.mem_append_right _ h)))
  have hinX10 : ∀ w ∈ wsX100, w ∈ wsX2_mark := fun w h => List.mem_cons_of_mem _ (List.mem_append_left _ (List.mem_append_right _ h))
  refine j_lv (lv' := [(0, .ref (ad (73 + k0))), (1, .ref (ad 23))]) [0, 1] rfl ?_
  unfold vGate_mark at hv
  have hkk0 := hv.1
  have hv := hv.2
  refine j_aload_n (i := 1) hC dX2_mark_0 rfl 1 rfl ?_
  refine j_bipush (v := 20) hC dX2_mark_1 (by decide) ?_
  refine j_callV_v (C := RX9) (As := [.int (20 : Int32)]) (rest := []) (b := (ad 23)) hC (cTrace_leave hv) 1 gX2_mark_X9_leave rfl rfl rfl ⟨Nat.le_of_ble_eq_true rfl, Nat.le_of_ble_eq_true rfl⟩ hdTrace_leave rfl (wS_c23 ad cy _) rfl rfl (Nat.le_of_ble_eq_true rfl) ⟨Nat.zero_le _, Nat.zero_le _⟩ dX2_mark_3 (fun g3 hv => ?_)
  refine j_aload_n (i := 0) hC dX2_mark_6 rfl 0 rfl ?_
  have hk7 := hv.1
  have hv := hv.2
  refine j_getG2 (v := .int ((z_gf g3) k0)) hC hinX2 hinX3 hinX8 hinX10 hk7 (mw 1 rfl) (Or.inl rfl) rfl dX2_mark_7 ?_
  refine j_if_eq (tgt := 17) hC dX2_mark_10 (by decide) (fun h_ => ?_) (fun h_ => ?_)
  · have hv := hv.1 h_
    refine j_iconst (v := 0) hC dX2_mark_17 (by decide) ?_
    exact j_iret hC hQ dX2_mark_18 rfl hv
  · have hv := hv.2 h_
    refine j_iconst (v := 1) hC dX2_mark_13 (by decide) ?_
    refine j_goto (tgt := 18) hC dX2_mark_14 (by decide) ?_
    exact j_iret hC hQ dX2_mark_18 rfl hv
theorem hdHanded_mark : yX3_mark.cls = RX3 ∧ yX3_mark.cls ≠ "java/lang/invoke/MethodHandle" ∧ yX3_mark.cls ≠ "java/lang/invoke/VarHandle" ∧ (parseMethodDescriptor yX3_mark.desc).map (fun d => d.parameters.length) = some 1 := by decide +kernel
theorem hsHanded_mark : yX3_mark.name ≠ "<init>" ∧ (parseMethodDescriptor yX3_mark.desc).map (fun d => d.parameters.length) = some 1 := by decide +kernel
theorem hoTwin_cost_X3 : (RX3 : String) ≠ "java/lang/invoke/MethodHandle" ∧ (RX3 : String) ≠ "java/lang/invoke/VarHandle" ∧ (parseMethodDescriptor yX3_cost.desc).map (fun d => d.parameters.length) = some 1 := by decide +kernel
abbrev rHanded_mark : Room := { frames := 4, cells := 0, slots := 0, locals := 84 }
def vHanded_mark (g : GS) (k0 : Nat) (post : Int32 → GS → Prop) : Prop :=
  (k0 < z_gn g ∧ (vTrace_leave g (21 : Int32) (fun g3 => (k0 < z_gn g3 ∧ (vGate_mark g3 k0 (fun r8 g8 => (k0 < z_gn g8 ∧ (((z_gk g8 k0) = 1 ∨ (z_gk g8 k0) = 2) ∧ ((z_gk g8 k0) = 1 → (vHanded_cost g8 k0 (fun r13 g13 => post (r8 + r13) g13))) ∧ ((z_gk g8 k0) = 2 → (vTwin_cost g8 k0 (fun r13 g13 => post (r8 + r13) g13)))))))))))
set_option maxHeartbeats 4000000 in
set_option maxRecDepth 100000 in
theorem cHanded_mark {l : Launch} {D : va_G} {ad : Nat → Nat} {cy : Nat → ClassId} {g : GS} {k0 : Nat} {post : Int32 → GS → Prop} (hv : vHanded_mark g k0 post) : jMi l yX3_mark wsX3_mark rHanded_mark D (tyS cy) [.ref (ad (73 + k0)), .ref (ad 23)] (wS ad cy g) (wS ad cy) post 0 0 := by
  refine j_meti (cc := cX3_mark) (nL := 2) (rt := (some .int)) (by decide) (Nat.le_of_ble_eq_true rfl) ?_
  intro Γ hC hQ _
  have hC : jC Γ l rHanded_mark D 2 RX3 cX3_mark wsX3_mark (tyS cy) := hC
  refine j_lv (lv' := [(0, .ref (ad (73 + k0))), (1, .ref (ad 23))]) [0, 1] rfl ?_
  unfold vHanded_mark at hv
  have hkk0 := hv.1
  have hv := hv.2
  refine j_aload_n (i := 1) hC dX3_mark_0 rfl 1 rfl ?_
  refine j_bipush (v := 21) hC dX3_mark_1 (by decide) ?_
  refine j_callV_v (C := RX9) (As := [.int (21 : Int32)]) (rest := []) (b := (ad 23)) hC (cTrace_leave hv) 1 gX3_mark_X9_leave rfl rfl rfl ⟨Nat.le_of_ble_eq_true rfl, Nat.le_of_ble_eq_true rfl⟩ hdTrace_leave rfl (wS_c23 ad cy _) rfl rfl (Nat.le_of_ble_eq_true rfl) ⟨Nat.zero_le _, Nat.zero_le _⟩ dX3_mark_3 (fun g3 hv => ?_)
  refine j_aload_n (i := 0) hC dX3_mark_6 rfl 0 rfl ?_
  refine j_aload_n (i := 1) hC dX3_mark_7 rfl 1 rfl ?_
  have hk8 := hv.1
  have hv := hv.2
  obtain ⟨⟨C_, T_, N_⟩, hc_⟩ := gci_cl (z_gk g3 k0)
  refine j_callSU_i (As := [.ref (ad 23)]) (rest := []) (b := (ad (73 + k0))) hC (cGate_mark hv) 1 gX3_mark_X2_mark_s25 rfl rfl rfl ⟨Nat.le_of_ble_eq_true rfl, Nat.le_of_ble_eq_true rfl⟩ hsGate_mark rfl (wS_gate ad cy _ hk8) hc_ rfl (Nat.le_of_ble_eq_true rfl) ⟨Nat.zero_le _, Nat.zero_le _⟩ dX3_mark_8 (fun r8 g8 hv => ?_)
  refine j_aload_n (i := 0) hC dX3_mark_11 rfl 0 rfl ?_
  refine j_aload_n (i := 1) hC dX3_mark_12 rfl 1 rfl ?_
  have hk13 := hv.1
  have hv := hv.2
  obtain ⟨ho_, hv⟩ := hv
  rcases ho_ with h_ | h_
  · have hv := hv.1 h_
    refine j_callV_i (C := RX3) (As := [.ref (ad 23)]) (rest := [.int r8]) (b := (ad (73 + k0))) hC (cHanded_cost hv) 1 gX3_mark_X3_cost rfl rfl rfl ⟨Nat.le_of_ble_eq_true rfl, Nat.le_of_ble_eq_true rfl⟩ hdHanded_cost rfl (wS_gk1 ad cy _ hk13 h_) rfl rfl (Nat.le_of_ble_eq_true rfl) ⟨Nat.zero_le _, Nat.zero_le _⟩ dX3_mark_13 (fun r13 g13 hv => ?_)
    refine j_iadd hC dX3_mark_16 ?_
    exact j_iret hC hQ dX3_mark_17 rfl hv
  · have hv := hv.2 h_
    refine j_callVO_i (C := RX10) (As := [.ref (ad 23)]) (rest := [.int r8]) (b := (ad (73 + k0))) hC (cTwin_cost hv) 1 gX3_mark_X10_cost_u28X10 rfl rfl rfl ⟨Nat.le_of_ble_eq_true rfl, Nat.le_of_ble_eq_true rfl⟩ (mw 20 rfl) hoTwin_cost_X3 rfl (wS_gk2 ad cy _ hk13 h_) rfl rfl (Nat.le_of_ble_eq_true rfl) ⟨Nat.zero_le _, Nat.zero_le _⟩ dX3_mark_13 (fun r13 g13 hv => ?_)
    refine j_iadd hC dX3_mark_16 ?_
    exact j_iret hC hQ dX3_mark_17 rfl hv
theorem hdSlow_mark : yX8_mark.cls = RX8 ∧ yX8_mark.cls ≠ "java/lang/invoke/MethodHandle" ∧ yX8_mark.cls ≠ "java/lang/invoke/VarHandle" ∧ (parseMethodDescriptor yX8_mark.desc).map (fun d => d.parameters.length) = some 1 := by decide +kernel
abbrev rSlow_mark : Room := { frames := 3, cells := 0, slots := 0, locals := 63 }
def vSlow_mark (g : GS) (k0 : Nat) (post : Int32 → GS → Prop) : Prop :=
  (k0 < z_gn g ∧ (vTrace_leave g (22 : Int32) (fun g3 => (k0 < z_gn g3 ∧ (vGate_mark g3 k0 (fun r8 g8 => (k0 < z_gn g8 ∧ (((z_gk g8 k0) = 3) ∧ ((z_gk g8 k0) = 3 → (vSlow_cost g8 k0 (fun r13 g13 => post (r8 - r13) g13)))))))))))
set_option maxHeartbeats 4000000 in
set_option maxRecDepth 100000 in
theorem cSlow_mark {l : Launch} {D : va_G} {ad : Nat → Nat} {cy : Nat → ClassId} {g : GS} {k0 : Nat} {post : Int32 → GS → Prop} (hv : vSlow_mark g k0 post) : jMi l yX8_mark wsX8_mark rSlow_mark D (tyS cy) [.ref (ad (73 + k0)), .ref (ad 23)] (wS ad cy g) (wS ad cy) post 0 0 := by
  refine j_meti (cc := cX8_mark) (nL := 2) (rt := (some .int)) (by decide) (Nat.le_of_ble_eq_true rfl) ?_
  intro Γ hC hQ _
  have hC : jC Γ l rSlow_mark D 2 RX8 cX8_mark wsX8_mark (tyS cy) := hC
  refine j_lv (lv' := [(0, .ref (ad (73 + k0))), (1, .ref (ad 23))]) [0, 1] rfl ?_
  unfold vSlow_mark at hv
  have hkk0 := hv.1
  have hv := hv.2
  refine j_aload_n (i := 1) hC dX8_mark_0 rfl 1 rfl ?_
  refine j_bipush (v := 22) hC dX8_mark_1 (by decide) ?_
  refine j_callV_v (C := RX9) (As := [.int (22 : Int32)]) (rest := []) (b := (ad 23)) hC (cTrace_leave hv) 1 gX8_mark_X9_leave rfl rfl rfl ⟨Nat.le_of_ble_eq_true rfl, Nat.le_of_ble_eq_true rfl⟩ hdTrace_leave rfl (wS_c23 ad cy _) rfl rfl (Nat.le_of_ble_eq_true rfl) ⟨Nat.zero_le _, Nat.zero_le _⟩ dX8_mark_3 (fun g3 hv => ?_)
  refine j_aload_n (i := 0) hC dX8_mark_6 rfl 0 rfl ?_
  refine j_aload_n (i := 1) hC dX8_mark_7 rfl 1 rfl ?_
  have hk8 := hv.1
  have hv := hv.2
  obtain ⟨⟨C_, T_, N_⟩, hc_⟩ := gci_cl (z_gk g3 k0)
  refine j_callSU_i (As := [.ref (ad 23)]) (rest := []) (b := (ad (73 + k0))) hC (cGate_mark hv) 1 gX8_mark_X2_mark_s19 rfl rfl rfl ⟨Nat.le_of_ble_eq_true rfl, Nat.le_of_ble_eq_true rfl⟩ hsGate_mark rfl (wS_gate ad cy _ hk8) hc_ rfl (Nat.le_of_ble_eq_true rfl) ⟨Nat.zero_le _, Nat.zero_le _⟩ dX8_mark_8 (fun r8 g8 hv => ?_)
  refine j_aload_n (i := 0) hC dX8_mark_11 rfl 0 rfl ?_
  refine j_aload_n (i := 1) hC dX8_mark_12 rfl 1 rfl ?_
  have hk13 := hv.1
  have hv := hv.2
  obtain ⟨ho_, hv⟩ := hv
  have h_ := ho_
  · have hv := hv h_
    refine j_callV_i (C := RX8) (As := [.ref (ad 23)]) (rest := [.int r8]) (b := (ad (73 + k0))) hC (cSlow_cost hv) 1 gX8_mark_X8_cost rfl rfl rfl ⟨Nat.le_of_ble_eq_true rfl, Nat.le_of_ble_eq_true rfl⟩ hdSlow_cost rfl (wS_gk3 ad cy _ hk13 h_) rfl rfl (Nat.le_of_ble_eq_true rfl) ⟨Nat.zero_le _, Nat.zero_le _⟩ dX8_mark_13 (fun r13 g13 hv => ?_)
    refine j_isub hC dX8_mark_16 ?_
    exact j_iret hC hQ dX8_mark_17 rfl hv
theorem hdSG_ask : yX11_ask.cls = RX11 ∧ yX11_ask.cls ≠ "java/lang/invoke/MethodHandle" ∧ yX11_ask.cls ≠ "java/lang/invoke/VarHandle" ∧ (parseMethodDescriptor yX11_ask.desc).map (fun d => d.parameters.length) = some 2 := by decide +kernel
theorem hoHanded_cost_X2 : (RX2 : String) ≠ "java/lang/invoke/MethodHandle" ∧ (RX2 : String) ≠ "java/lang/invoke/VarHandle" ∧ (parseMethodDescriptor yX2_cost.desc).map (fun d => d.parameters.length) = some 1 := by decide +kernel
theorem hoHanded_mark_X2 : (RX2 : String) ≠ "java/lang/invoke/MethodHandle" ∧ (RX2 : String) ≠ "java/lang/invoke/VarHandle" ∧ (parseMethodDescriptor yX2_mark.desc).map (fun d => d.parameters.length) = some 1 := by decide +kernel
theorem hoSlow_cost_X2 : (RX2 : String) ≠ "java/lang/invoke/MethodHandle" ∧ (RX2 : String) ≠ "java/lang/invoke/VarHandle" ∧ (parseMethodDescriptor yX2_cost.desc).map (fun d => d.parameters.length) = some 1 := by decide +kernel
theorem hoSlow_mark_X2 : (RX2 : String) ≠ "java/lang/invoke/MethodHandle" ∧ (RX2 : String) ≠ "java/lang/invoke/VarHandle" ∧ (parseMethodDescriptor yX2_mark.desc).map (fun d => d.parameters.length) = some 1 := by decide +kernel
theorem hoTwin_cost_X2 : (RX2 : String) ≠ "java/lang/invoke/MethodHandle" ∧ (RX2 : String) ≠ "java/lang/invoke/VarHandle" ∧ (parseMethodDescriptor yX2_cost.desc).map (fun d => d.parameters.length) = some 1 := by decide +kernel
abbrev rSG_ask : Room := { frames := 5, cells := 0, slots := 0, locals := 105 }
def vSG_ask (g : GS) (a1 : Int32) (a2 : Int32) (post : Int32 → GS → Prop) : Prop :=
  (vRow_at g a1 (fun r5 g5 => ((r5 = none → post (-1000001 : Int32) g5) ∧ (∀ k5 : Nat, r5 = some k5 → (vSG_within g5 a2 (0 : Int32) (1 : Int32) (fun r16 g16 => ((¬ r16 = (0 : Int32) → ((¬ a2 = (0 : Int32) → (k5 < z_gn g16 ∧ (((z_gk g16 k5) = 0 ∨ (z_gk g16 k5) = 1 ∨ (z_gk g16 k5) = 2 ∨ (z_gk g16 k5) = 3) ∧ ((z_gk g16 k5) = 0 → (vGate_mark (sz_tlen g16 (0 : Int32)) k5 (fun r53 g53 => post r53 g53))) ∧ ((z_gk g16 k5) = 1 → (vHanded_mark (sz_tlen g16 (0 : Int32)) k5 (fun r53 g53 => post r53 g53))) ∧ ((z_gk g16 k5) = 2 → (vHanded_mark (sz_tlen g16 (0 : Int32)) k5 (fun r53 g53 => post r53 g53))) ∧ ((z_gk g16 k5) = 3 → (vSlow_mark (sz_tlen g16 (0 : Int32)) k5 (fun r53 g53 => post r53 g53)))))) ∧ (a2 = (0 : Int32) → (k5 < z_gn g16 ∧ (((z_gk g16 k5) = 0 ∨ (z_gk g16 k5) = 1 ∨ (z_gk g16 k5) = 2 ∨ (z_gk g16 k5) = 3) ∧ ((z_gk g16 k5) = 0 → (vGate_cost (sz_tlen g16 (0 : Int32)) k5 (fun r42 g42 => post r42 g42))) ∧ ((z_gk g16 k5) = 1 → (vHanded_cost (sz_tlen g16 (0 : Int32)) k5 (fun r42 g42 => post r42 g42))) ∧ ((z_gk g16 k5) = 2 → (vTwin_cost (sz_tlen g16 (0 : Int32)) k5 (fun r42 g42 => post r42 g42))) ∧ ((z_gk g16 k5) = 3 → (vSlow_cost (sz_tlen g16 (0 : Int32)) k5 (fun r42 g42 => post r42 g42)))))))) ∧ (r16 = (0 : Int32) → post (-1000001 : Int32) g16))))))))
set_option maxHeartbeats 4000000 in
set_option maxRecDepth 100000 in
theorem cSG_ask {l : Launch} {D : va_G} {ad : Nat → Nat} {cy : Nat → ClassId} {g : GS} {a1 : Int32} {a2 : Int32} {post : Int32 → GS → Prop} (hv : vSG_ask g a1 a2 post) : jMi l yX11_ask wsX11_ask rSG_ask D (tyS cy) [.ref (ad 0), .int a1, .int a2] (wS ad cy g) (wS ad cy) post 0 0 := by
  refine j_meti (cc := cX11_ask) (nL := 4) (rt := (some .int)) (by decide) (Nat.le_of_ble_eq_true rfl) ?_
  intro Γ hC hQ _
  have hC : jC Γ l rSG_ask D 4 RX11 cX11_ask wsX11_ask (tyS cy) := hC
  have hinX11 : ∀ w ∈ wsX110, w ∈ wsX11_ask := fun w h => List.mem_cons_of_mem _ (List.mem_append_left _ (List.mem_append_left _ (List.mem_append_left _ (List.mem_append_left _ (List.mem_append_left _ (List.mem_append_left _ (List.mem_append_right _ h)))))))
  have hinX9 : ∀ w ∈ wsX90, w ∈ wsX11_ask := fun w h => List.mem_cons_of_mem _ (List.mem_append_left _ (List.mem_append_left _ (List.mem_append_left _ (List.mem_append_left _ (List.mem_append_left _ (List.mem_append_right _ h))))))
  refine j_lv (lv' := [(0, .ref (ad 0)), (1, .int a1), (2, .int a2)]) [0, 1, 2] rfl ?_
  unfold vSG_ask at hv
  refine j_aload_n (i := 0) hC dX11_ask_0 rfl 0 rfl ?_
  refine j_get (C := RX11) (T := TX11) (N := 8) (v := .ref (ad 16)) hC hinX11 0 (wS_c0 ad cy _) rfl 4 (by decide) (mw 1 rfl) rfl rfl dX11_ask_1 ?_
  refine j_iload_n (i := 1) hC dX11_ask_4 rfl 1 rfl ?_
  refine j_callV_q (C := RX5) (As := [.int a1]) (rest := []) (b := (ad 16)) hC (cRow_at hv) 1 gX11_ask_X5_at rfl rfl rfl ⟨Nat.le_of_ble_eq_true rfl, Nat.le_of_ble_eq_true rfl⟩ hdRow_at rfl (wS_c16 ad cy _) rfl rfl (Nat.le_of_ble_eq_true rfl) ⟨Nat.zero_le _, Nat.zero_le _⟩ dX11_ask_5 (fun r5 g5 hv => ?_)
  obtain ⟨o_, rfl, hv⟩ := hv
  cases o_ with
  | none =>
    have hv := hv.1 rfl
    refine j_astore_nN (i := 3) (lv' := [(3, .null), (0, .ref (ad 0)), (1, .int a1), (2, .int a2)]) hC dX11_ask_8 rfl (by decide) rfl ?_
    refine j_aload_nN (i := 3) hC dX11_ask_9 rfl 0 rfl ?_
    refine j_ifnullN (tgt := 22) hC dX11_ask_10 (by decide) ?_
    refine j_ldc (v := -1000001) hC dX11_ask_22 (mw 2 rfl) ?_
    exact j_iret hC hQ dX11_ask_24 rfl hv
  | some k5 =>
    have hv := hv.2 k5 rfl
    refine j_astore_n (i := 3) (lv' := [(3, .ref (ad (73 + k5))), (0, .ref (ad 0)), (1, .int a1), (2, .int a2)]) hC dX11_ask_8 rfl (by decide) rfl ?_
    refine j_aload_n (i := 3) hC dX11_ask_9 rfl 0 rfl ?_
    refine j_ifnull hC dX11_ask_10 ?_
    refine j_iload_n (i := 2) hC dX11_ask_13 rfl 3 rfl ?_
    refine j_iconst (v := 0) hC dX11_ask_14 (by decide) ?_
    refine j_iconst (v := 1) hC dX11_ask_15 (by decide) ?_
    refine j_callS_i (As := [.int a2, .int (0 : Int32), .int (1 : Int32)]) (rest := []) hC (cSG_within hv) 3 gX11_ask_X11_within rfl rfl rfl ⟨Nat.le_of_ble_eq_true rfl, Nat.le_of_ble_eq_true rfl⟩ hdSG_within.2 rfl rfl (Nat.le_of_ble_eq_true rfl) ⟨Nat.zero_le _, Nat.zero_le _⟩ dX11_ask_16 (fun r16 g16 hv => ?_)
    refine j_if_ne (tgt := 25) hC dX11_ask_19 (by decide) (fun h_ => ?_) (fun h_ => ?_)
    · have hv := hv.1 h_
      refine j_aload_n (i := 0) hC dX11_ask_25 rfl 1 rfl ?_
      refine j_get (C := RX11) (T := TX11) (N := 8) (v := .ref (ad 23)) hC hinX11 0 (wS_c0 ad cy _) rfl 6 (by decide) (mw 3 rfl) rfl rfl dX11_ask_26 ?_
      refine j_iconst (v := 0) hC dX11_ask_29 (by decide) ?_
      refine j_put (C := RX9) (T := TX9) (N := 2) (ty := .int) hC hinX9 tyX9 tyX9_ok nmX9 23 (wS_c23 ad cy _) rfl 1 (by decide) (mw 4 rfl) rfl rfl fdX9_1 rfl rfl (Nat.le_of_ble_eq_true rfl) (wS_p_tlen ad cy _ _) dX11_ask_30 ?_
      refine j_iload_n (i := 2) hC dX11_ask_33 rfl 3 rfl ?_
      refine j_if_ne (tgt := 48) hC dX11_ask_34 (by decide) (fun h_ => ?_) (fun h_ => ?_)
      · have hv := hv.1 h_
        refine j_aload_n (i := 3) hC dX11_ask_48 rfl 0 rfl ?_
        refine j_aload_n (i := 0) hC dX11_ask_49 rfl 1 rfl ?_
        refine j_get (C := RX11) (T := TX11) (N := 8) (v := .ref (ad 23)) hC hinX11 0 (wS_c0 ad cy _) rfl 6 (by decide) (mw 3 rfl) rfl rfl dX11_ask_50 ?_
        have hk53 := hv.1
        have hv := hv.2
        obtain ⟨ho_, hv⟩ := hv
        rcases ho_ with h_ | h_ | h_ | h_
        · have hv := hv.1 h_
          refine j_callV_i (C := RX2) (As := [.ref (ad 23)]) (rest := []) (b := (ad (73 + k5))) hC (cGate_mark hv) 1 gX11_ask_X2_mark rfl rfl rfl ⟨Nat.le_of_ble_eq_true rfl, Nat.le_of_ble_eq_true rfl⟩ hdGate_mark rfl (wS_gk0 ad cy _ hk53 h_) rfl rfl (Nat.le_of_ble_eq_true rfl) ⟨Nat.zero_le _, Nat.zero_le _⟩ dX11_ask_53 (fun r53 g53 hv => ?_)
          exact j_iret hC hQ dX11_ask_56 rfl hv
        · have hv := hv.2.1 h_
          refine j_callVO_i (C := RX3) (As := [.ref (ad 23)]) (rest := []) (b := (ad (73 + k5))) hC (cHanded_mark hv) 1 gX11_ask_X3_mark_u255X3 rfl rfl rfl ⟨Nat.le_of_ble_eq_true rfl, Nat.le_of_ble_eq_true rfl⟩ (mw 59 rfl) hoHanded_mark_X2 rfl (wS_gk1 ad cy _ hk53 h_) rfl rfl (Nat.le_of_ble_eq_true rfl) ⟨Nat.zero_le _, Nat.zero_le _⟩ dX11_ask_53 (fun r53 g53 hv => ?_)
          exact j_iret hC hQ dX11_ask_56 rfl hv
        · have hv := hv.2.2.1 h_
          refine j_callVO_i (C := RX10) (As := [.ref (ad 23)]) (rest := []) (b := (ad (73 + k5))) hC (cHanded_mark hv) 1 gX11_ask_X3_mark_u255X10 rfl rfl rfl ⟨Nat.le_of_ble_eq_true rfl, Nat.le_of_ble_eq_true rfl⟩ (mw 59 rfl) hoHanded_mark_X2 rfl (wS_gk2 ad cy _ hk53 h_) rfl rfl (Nat.le_of_ble_eq_true rfl) ⟨Nat.zero_le _, Nat.zero_le _⟩ dX11_ask_53 (fun r53 g53 hv => ?_)
          exact j_iret hC hQ dX11_ask_56 rfl hv
        · have hv := hv.2.2.2 h_
          refine j_callVO_i (C := RX8) (As := [.ref (ad 23)]) (rest := []) (b := (ad (73 + k5))) hC (cSlow_mark hv) 1 gX11_ask_X8_mark_u255X8 rfl rfl rfl ⟨Nat.le_of_ble_eq_true rfl, Nat.le_of_ble_eq_true rfl⟩ (mw 59 rfl) hoSlow_mark_X2 rfl (wS_gk3 ad cy _ hk53 h_) rfl rfl (Nat.le_of_ble_eq_true rfl) ⟨Nat.zero_le _, Nat.zero_le _⟩ dX11_ask_53 (fun r53 g53 hv => ?_)
          exact j_iret hC hQ dX11_ask_56 rfl hv
      · have hv := hv.2 h_
        refine j_aload_n (i := 3) hC dX11_ask_37 rfl 0 rfl ?_
        refine j_aload_n (i := 0) hC dX11_ask_38 rfl 1 rfl ?_
        refine j_get (C := RX11) (T := TX11) (N := 8) (v := .ref (ad 23)) hC hinX11 0 (wS_c0 ad cy _) rfl 6 (by decide) (mw 3 rfl) rfl rfl dX11_ask_39 ?_
        have hk42 := hv.1
        have hv := hv.2
        obtain ⟨ho_, hv⟩ := hv
        rcases ho_ with h_ | h_ | h_ | h_
        · have hv := hv.1 h_
          refine j_callV_i (C := RX2) (As := [.ref (ad 23)]) (rest := []) (b := (ad (73 + k5))) hC (cGate_cost hv) 1 gX11_ask_X2_cost rfl rfl rfl ⟨Nat.le_of_ble_eq_true rfl, Nat.le_of_ble_eq_true rfl⟩ hdGate_cost rfl (wS_gk0 ad cy _ hk42 h_) rfl rfl (Nat.le_of_ble_eq_true rfl) ⟨Nat.zero_le _, Nat.zero_le _⟩ dX11_ask_42 (fun r42 g42 hv => ?_)
          refine j_goto (tgt := 56) hC dX11_ask_45 (by decide) ?_
          exact j_iret hC hQ dX11_ask_56 rfl hv
        · have hv := hv.2.1 h_
          refine j_callVO_i (C := RX3) (As := [.ref (ad 23)]) (rest := []) (b := (ad (73 + k5))) hC (cHanded_cost hv) 1 gX11_ask_X3_cost_u251X3 rfl rfl rfl ⟨Nat.le_of_ble_eq_true rfl, Nat.le_of_ble_eq_true rfl⟩ (mw 20 rfl) hoHanded_cost_X2 rfl (wS_gk1 ad cy _ hk42 h_) rfl rfl (Nat.le_of_ble_eq_true rfl) ⟨Nat.zero_le _, Nat.zero_le _⟩ dX11_ask_42 (fun r42 g42 hv => ?_)
          refine j_goto (tgt := 56) hC dX11_ask_45 (by decide) ?_
          exact j_iret hC hQ dX11_ask_56 rfl hv
        · have hv := hv.2.2.1 h_
          refine j_callVO_i (C := RX10) (As := [.ref (ad 23)]) (rest := []) (b := (ad (73 + k5))) hC (cTwin_cost hv) 1 gX11_ask_X10_cost_u251X10 rfl rfl rfl ⟨Nat.le_of_ble_eq_true rfl, Nat.le_of_ble_eq_true rfl⟩ (mw 20 rfl) hoTwin_cost_X2 rfl (wS_gk2 ad cy _ hk42 h_) rfl rfl (Nat.le_of_ble_eq_true rfl) ⟨Nat.zero_le _, Nat.zero_le _⟩ dX11_ask_42 (fun r42 g42 hv => ?_)
          refine j_goto (tgt := 56) hC dX11_ask_45 (by decide) ?_
          exact j_iret hC hQ dX11_ask_56 rfl hv
        · have hv := hv.2.2.2 h_
          refine j_callVO_i (C := RX8) (As := [.ref (ad 23)]) (rest := []) (b := (ad (73 + k5))) hC (cSlow_cost hv) 1 gX11_ask_X8_cost_u251X8 rfl rfl rfl ⟨Nat.le_of_ble_eq_true rfl, Nat.le_of_ble_eq_true rfl⟩ (mw 20 rfl) hoSlow_cost_X2 rfl (wS_gk3 ad cy _ hk42 h_) rfl rfl (Nat.le_of_ble_eq_true rfl) ⟨Nat.zero_le _, Nat.zero_le _⟩ dX11_ask_42 (fun r42 g42 hv => ?_)
          refine j_goto (tgt := 56) hC dX11_ask_45 (by decide) ?_
          exact j_iret hC hQ dX11_ask_56 rfl hv
    · have hv := hv.2 h_
      refine j_ldc (v := -1000001) hC dX11_ask_22 (mw 2 rfl) ?_
      exact j_iret hC hQ dX11_ask_24 rfl hv
theorem hdSG_trace : yX11_trace.cls = RX11 ∧ yX11_trace.cls ≠ "java/lang/invoke/MethodHandle" ∧ yX11_trace.cls ≠ "java/lang/invoke/VarHandle" ∧ (parseMethodDescriptor yX11_trace.desc).map (fun d => d.parameters.length) = some 1 := by decide +kernel
abbrev rSG_trace : Room := { frames := 1, cells := 0, slots := 0, locals := 22 }
def vSG_trace (g : GS) (a1 : Int32) (post : Int32 → GS → Prop) : Prop :=
  (vSG_within g a1 (0 : Int32) ((z_tlen g) - (1 : Int32)) (fun r11 g11 => ((r11 = (0 : Int32) → post (-1000000 : Int32) g11) ∧ (¬ r11 = (0 : Int32) → (vp_in a1 16 ∧ post ((z_numbers g11) a1.toNatClampNeg) g11)))))
set_option maxHeartbeats 4000000 in
set_option maxRecDepth 100000 in
theorem cSG_trace {l : Launch} {D : va_G} {ad : Nat → Nat} {cy : Nat → ClassId} {g : GS} {a1 : Int32} {post : Int32 → GS → Prop} (hv : vSG_trace g a1 post) : jMi l yX11_trace wsX11_trace rSG_trace D (tyS cy) [.ref (ad 0), .int a1] (wS ad cy g) (wS ad cy) post 0 0 := by
  refine j_meti (cc := cX11_trace) (nL := 2) (rt := (some .int)) (by decide) (Nat.le_of_ble_eq_true rfl) ?_
  intro Γ hC hQ _
  have hC : jC Γ l rSG_trace D 2 RX11 cX11_trace wsX11_trace (tyS cy) := hC
  have hinX11 : ∀ w ∈ wsX110, w ∈ wsX11_trace := fun w h => List.mem_cons_of_mem _ (List.mem_append_left _ (List.mem_append_right _ h))
  have hinX9 : ∀ w ∈ wsX90, w ∈ wsX11_trace := fun w h => List.mem_cons_of_mem _ (List.mem_append_right _ h)
  refine j_lv (lv' := [(0, .ref (ad 0)), (1, .int a1)]) [0, 1] rfl ?_
  unfold vSG_trace at hv
  refine j_iload_n (i := 1) hC dX11_trace_0 rfl 1 rfl ?_
  refine j_iconst (v := 0) hC dX11_trace_1 (by decide) ?_
  refine j_aload_n (i := 0) hC dX11_trace_2 rfl 0 rfl ?_
  refine j_get (C := RX11) (T := TX11) (N := 8) (v := .ref (ad 23)) hC hinX11 0 (wS_c0 ad cy _) rfl 6 (by decide) (mw 1 rfl) rfl rfl dX11_trace_3 ?_
  refine j_get (C := RX9) (T := TX9) (N := 2) (v := .int (z_tlen g)) hC hinX9 23 (wS_c23 ad cy _) rfl 1 (by decide) (mw 2 rfl) rfl rfl dX11_trace_6 ?_
  refine j_iconst (v := 1) hC dX11_trace_9 (by decide) ?_
  refine j_isub hC dX11_trace_10 ?_
  refine j_callS_i (As := [.int a1, .int (0 : Int32), .int ((z_tlen g) - (1 : Int32))]) (rest := []) hC (cSG_within hv) 3 gX11_trace_X11_within rfl rfl rfl ⟨Nat.le_of_ble_eq_true rfl, Nat.le_of_ble_eq_true rfl⟩ hdSG_within.2 rfl rfl (Nat.le_of_ble_eq_true rfl) ⟨Nat.zero_le _, Nat.zero_le _⟩ dX11_trace_11 (fun r11 g11 hv => ?_)
  refine j_if_eq (tgt := 29) hC dX11_trace_14 (by decide) (fun h_ => ?_) (fun h_ => ?_)
  · have hv := hv.1 h_
    refine j_ldc (v := -1000000) hC dX11_trace_29 (mw 4 rfl) ?_
    exact j_iret hC hQ dX11_trace_31 rfl hv
  · have hv := hv.2 h_
    refine j_aload_n (i := 0) hC dX11_trace_17 rfl 0 rfl ?_
    refine j_get (C := RX11) (T := TX11) (N := 8) (v := .ref (ad 23)) hC hinX11 0 (wS_c0 ad cy _) rfl 6 (by decide) (mw 1 rfl) rfl rfl dX11_trace_18 ?_
    refine j_get (C := RX9) (T := TX9) (N := 2) (v := .ref (ad 24)) hC hinX9 23 (wS_c23 ad cy _) rfl 0 (by decide) (mw 3 rfl) rfl rfl dX11_trace_21 ?_
    refine j_iload_n (i := 1) hC dX11_trace_24 rfl 1 rfl ?_
    have hb25 := hv.1
    have hv := hv.2
    refine j_iald (v := ((z_numbers g11) a1.toNatClampNeg)) hC _ 0 (wS_c24 ad cy _) rfl hb25 rfl dX11_trace_25 ?_
    refine j_goto (tgt := 31) hC dX11_trace_26 (by decide) ?_
    exact j_iret hC hQ dX11_trace_31 rfl hv
theorem hdSheets_present : yX7_present.cls = RX7 ∧ yX7_present.cls ≠ "java/lang/invoke/MethodHandle" ∧ yX7_present.cls ≠ "java/lang/invoke/VarHandle" ∧ (parseMethodDescriptor yX7_present.desc).map (fun d => d.parameters.length) = some 0 := by decide +kernel
abbrev rSheets_present : Room := { frames := 1, cells := 0, slots := 0, locals := 21 }
def vSheets_present_21 (post : Int32 → GS → Prop) (K4 : Int32 → Int32 → GS → Prop) (x1 : Int32) (x2 : Int32) (g : GS) : Prop :=
  (K4 x1 (x2 + (1 : Int32)) g)
def vSheets_present_4 (post : Int32 → GS → Prop) : Nat → Int32 → Int32 → GS → Prop
  | 0, _, _, _ => False
  | k_ + 1, x1, x2, g =>
  (((8 : Int32) ≤ x2 → post x1 g) ∧ (¬ (8 : Int32) ≤ x2 → (vSheets_isMissing g x2 (fun r12 g12 => ((¬ r12 = (0 : Int32) → (vSheets_present_21 post (fun x1 x2 g => vSheets_present_4 post k_ x1 x2 g) x1 x2 g12)) ∧ (r12 = (0 : Int32) → (vSheets_present_21 post (fun x1 x2 g => vSheets_present_4 post k_ x1 x2 g) (x1 + (1 : Int32)) x2 g12)))))))
def vSheets_present (g : GS) (post : Int32 → GS → Prop) : Prop :=
  (∃ n_ : Nat, vSheets_present_4 post n_ (0 : Int32) (0 : Int32) g)
set_option maxHeartbeats 4000000 in
set_option maxRecDepth 100000 in
theorem lSheets_present_21 {Γ : jG} {l : Launch} {D : va_G} {ad : Nat → Nat} {cy : Nat → ClassId} {post : Int32 → GS → Prop} (hC : jC Γ l rSheets_present D 3 RX7 cX7_present wsX7_present (tyS cy)) (hQ : jQi Γ D (wS ad cy) post (some .int) 0 0) {K4 : Int32 → Int32 → GS → Prop} (hK4 : ∀ (x1 : Int32) (x2 : Int32) (g : GS), K4 x1 x2 g → J Γ D 3 0 0 (wS ad cy g) 4 [(0, .ref (ad 1)), (1, .int x1), (2, .int x2)] []) : ∀ (x1 : Int32) (x2 : Int32) (g : GS), vSheets_present_21 post K4 x1 x2 g → J Γ D 3 0 0 (wS ad cy g) 21 [(0, .ref (ad 1)), (1, .int x1), (2, .int x2)] [] := by
  intro x1 x2 g hv
  unfold vSheets_present_21 at hv
  refine j_iinc (k := 2) (v := (x2 + (1 : Int32))) (lv' := [(2, .int (x2 + (1 : Int32))), (0, .ref (ad 1)), (1, .int x1)]) hC dX7_present_21 rfl rfl (by decide) rfl ?_
  refine j_goto (tgt := 4) hC dX7_present_24 (by decide) ?_
  exact j_lv [1, 2, 0] rfl (hK4 _ _ _ hv)
set_option maxHeartbeats 4000000 in
set_option maxRecDepth 100000 in
theorem lSheets_present_4 {Γ : jG} {l : Launch} {D : va_G} {ad : Nat → Nat} {cy : Nat → ClassId} {post : Int32 → GS → Prop} (hC : jC Γ l rSheets_present D 3 RX7 cX7_present wsX7_present (tyS cy)) (hQ : jQi Γ D (wS ad cy) post (some .int) 0 0) : ∀ (n_ : Nat) (x1 : Int32) (x2 : Int32) (g : GS), vSheets_present_4 post n_ x1 x2 g → J Γ D 3 0 0 (wS ad cy g) 4 [(0, .ref (ad 1)), (1, .int x1), (2, .int x2)] [] := by
  intro n_
  induction n_ with
  | zero => intro x1 x2 g hv; exact False.elim hv
  | succ k_ ih =>
    intro x1 x2 g hv
    unfold vSheets_present_4 at hv
    refine j_iload_n (i := 2) hC dX7_present_4 rfl 2 rfl ?_
    refine j_bipush (v := 8) hC dX7_present_5 (by decide) ?_
    refine j_icmp_ge (tgt := 27) hC dX7_present_7 (by decide) (fun h_ => ?_) (fun h_ => ?_)
    · have hv := hv.1 h_
      refine j_iload_n (i := 1) hC dX7_present_27 rfl 1 rfl ?_
      exact j_iret hC hQ dX7_present_28 rfl hv
    · have hv := hv.2 h_
      refine j_aload_n (i := 0) hC dX7_present_10 rfl 0 rfl ?_
      refine j_iload_n (i := 2) hC dX7_present_11 rfl 2 rfl ?_
      refine j_callV_i (C := RX7) (As := [.int x2]) (rest := []) (b := (ad 1)) hC (cSheets_isMissing hv) 1 gX7_present_X7_isMissing rfl rfl rfl ⟨Nat.le_of_ble_eq_true rfl, Nat.le_of_ble_eq_true rfl⟩ hdSheets_isMissing rfl (wS_c1 ad cy _) rfl rfl (Nat.le_of_ble_eq_true rfl) ⟨Nat.zero_le _, Nat.zero_le _⟩ dX7_present_12 (fun r12 g12 hv => ?_)
      refine j_if_ne (tgt := 21) hC dX7_present_15 (by decide) (fun h_ => ?_) (fun h_ => ?_)
      · have hv := hv.1 h_
        exact j_lv [0, 1, 2] rfl (lSheets_present_21 hC hQ (K4 := fun x1 x2 g => vSheets_present_4 post k_ x1 x2 g) (fun _ _ _ h_ => ih _ _ _ h_) _ _ _ hv)
      · have hv := hv.2 h_
        refine j_iinc (k := 1) (v := (x1 + (1 : Int32))) (lv' := [(1, .int (x1 + (1 : Int32))), (0, .ref (ad 1)), (2, .int x2)]) hC dX7_present_18 rfl rfl (by decide) rfl ?_
        exact j_lv [1, 0, 2] rfl (lSheets_present_21 hC hQ (K4 := fun x1 x2 g => vSheets_present_4 post k_ x1 x2 g) (fun _ _ _ h_ => ih _ _ _ h_) _ _ _ hv)
set_option maxHeartbeats 4000000 in
set_option maxRecDepth 100000 in
theorem cSheets_present {l : Launch} {D : va_G} {ad : Nat → Nat} {cy : Nat → ClassId} {g : GS} {post : Int32 → GS → Prop} (hv : vSheets_present g post) : jMi l yX7_present wsX7_present rSheets_present D (tyS cy) [.ref (ad 1)] (wS ad cy g) (wS ad cy) post 0 0 := by
  refine j_meti (cc := cX7_present) (nL := 3) (rt := (some .int)) (by decide) (Nat.le_of_ble_eq_true rfl) ?_
  intro Γ hC hQ _
  have hC : jC Γ l rSheets_present D 3 RX7 cX7_present wsX7_present (tyS cy) := hC
  refine j_lv (lv' := [(0, .ref (ad 1))]) [0] rfl ?_
  unfold vSheets_present at hv
  refine j_iconst (v := 0) hC dX7_present_0 (by decide) ?_
  refine j_istore_n (i := 1) (lv' := [(1, .int (0 : Int32)), (0, .ref (ad 1))]) hC dX7_present_1 rfl (by decide) rfl ?_
  refine j_iconst (v := 0) hC dX7_present_2 (by decide) ?_
  refine j_istore_n (i := 2) (lv' := [(2, .int (0 : Int32)), (1, .int (0 : Int32)), (0, .ref (ad 1))]) hC dX7_present_3 rfl (by decide) rfl ?_
  obtain ⟨n_, hv⟩ := hv
  exact j_lv [2, 1, 0] rfl (lSheets_present_4 hC hQ n_ _ _ _ hv)
theorem hdSea_allWeights : yX6_allWeights.cls = RX6 ∧ yX6_allWeights.cls ≠ "java/lang/invoke/MethodHandle" ∧ yX6_allWeights.cls ≠ "java/lang/invoke/VarHandle" ∧ (parseMethodDescriptor yX6_allWeights.desc).map (fun d => d.parameters.length) = some 0 := by decide +kernel
abbrev rSea_allWeights : Room := { frames := 0, cells := 0, slots := 0, locals := 0 }
def vSea_allWeights_4 (post : Int32 → GS → Prop) : Nat → Int32 → Int32 → GS → Prop
  | 0, _, _, _ => False
  | k_ + 1, x1, x2, g =>
  (((z_ssize g) ≤ x2 → post x1 g) ∧ (¬ (z_ssize g) ≤ x2 → (vp_in x2 8 ∧ (vSea_allWeights_4 post k_ (x1 + ((z_weights g) x2.toNatClampNeg)) (x2 + (1 : Int32)) g))))
def vSea_allWeights (g : GS) (post : Int32 → GS → Prop) : Prop :=
  (∃ n_ : Nat, vSea_allWeights_4 post n_ (0 : Int32) (0 : Int32) g)
set_option maxHeartbeats 4000000 in
set_option maxRecDepth 100000 in
theorem lSea_allWeights_4 {Γ : jG} {l : Launch} {D : va_G} {ad : Nat → Nat} {cy : Nat → ClassId} {post : Int32 → GS → Prop} (hC : jC Γ l rSea_allWeights D 3 RX6 cX6_allWeights wsX6_allWeights (tyS cy)) (hQ : jQi Γ D (wS ad cy) post (some .int) 0 0) : ∀ (n_ : Nat) (x1 : Int32) (x2 : Int32) (g : GS), vSea_allWeights_4 post n_ x1 x2 g → J Γ D 3 0 0 (wS ad cy g) 4 [(0, .ref (ad 5)), (1, .int x1), (2, .int x2)] [] := by
  have hinX6 : ∀ w ∈ wsX60, w ∈ wsX6_allWeights := fun w h => List.mem_cons_of_mem _ (List.mem_append_right _ h)
  intro n_
  induction n_ with
  | zero => intro x1 x2 g hv; exact False.elim hv
  | succ k_ ih =>
    intro x1 x2 g hv
    unfold vSea_allWeights_4 at hv
    refine j_iload_n (i := 2) hC dX6_allWeights_4 rfl 2 rfl ?_
    refine j_aload_n (i := 0) hC dX6_allWeights_5 rfl 0 rfl ?_
    refine j_get (C := RX6) (T := TX6) (N := 4) (v := .int (z_ssize g)) hC hinX6 5 (wS_c5 ad cy _) rfl 3 (by decide) (mw 1 rfl) rfl rfl dX6_allWeights_6 ?_
    refine j_icmp_ge (tgt := 27) hC dX6_allWeights_9 (by decide) (fun h_ => ?_) (fun h_ => ?_)
    · have hv := hv.1 h_
      refine j_iload_n (i := 1) hC dX6_allWeights_27 rfl 1 rfl ?_
      exact j_iret hC hQ dX6_allWeights_28 rfl hv
    · have hv := hv.2 h_
      refine j_iload_n (i := 1) hC dX6_allWeights_12 rfl 1 rfl ?_
      refine j_aload_n (i := 0) hC dX6_allWeights_13 rfl 0 rfl ?_
      refine j_get (C := RX6) (T := TX6) (N := 4) (v := .ref (ad 6)) hC hinX6 5 (wS_c5 ad cy _) rfl 0 (by decide) (mw 2 rfl) rfl rfl dX6_allWeights_14 ?_
      refine j_iload_n (i := 2) hC dX6_allWeights_17 rfl 2 rfl ?_
      have hb18 := hv.1
      have hv := hv.2
      refine j_iald (v := ((z_weights g) x2.toNatClampNeg)) hC _ 0 (wS_c6 ad cy _) rfl hb18 rfl dX6_allWeights_18 ?_
      refine j_iadd hC dX6_allWeights_19 ?_
      refine j_istore_n (i := 1) (lv' := [(1, .int (x1 + ((z_weights g) x2.toNatClampNeg))), (0, .ref (ad 5)), (2, .int x2)]) hC dX6_allWeights_20 rfl (by decide) rfl ?_
      refine j_iinc (k := 2) (v := (x2 + (1 : Int32))) (lv' := [(2, .int (x2 + (1 : Int32))), (1, .int (x1 + ((z_weights g) x2.toNatClampNeg))), (0, .ref (ad 5))]) hC dX6_allWeights_21 rfl rfl (by decide) rfl ?_
      refine j_goto (tgt := 4) hC dX6_allWeights_24 (by decide) ?_
      exact j_lv [2, 1, 0] rfl (ih _ _ _ hv)
set_option maxHeartbeats 4000000 in
set_option maxRecDepth 100000 in
theorem cSea_allWeights {l : Launch} {D : va_G} {ad : Nat → Nat} {cy : Nat → ClassId} {g : GS} {post : Int32 → GS → Prop} (hv : vSea_allWeights g post) : jMi l yX6_allWeights wsX6_allWeights rSea_allWeights D (tyS cy) [.ref (ad 5)] (wS ad cy g) (wS ad cy) post 0 0 := by
  refine j_meti (cc := cX6_allWeights) (nL := 3) (rt := (some .int)) (by decide) (Nat.le_of_ble_eq_true rfl) ?_
  intro Γ hC hQ _
  have hC : jC Γ l rSea_allWeights D 3 RX6 cX6_allWeights wsX6_allWeights (tyS cy) := hC
  have hinX6 : ∀ w ∈ wsX60, w ∈ wsX6_allWeights := fun w h => List.mem_cons_of_mem _ (List.mem_append_right _ h)
  refine j_lv (lv' := [(0, .ref (ad 5))]) [0] rfl ?_
  unfold vSea_allWeights at hv
  refine j_iconst (v := 0) hC dX6_allWeights_0 (by decide) ?_
  refine j_istore_n (i := 1) (lv' := [(1, .int (0 : Int32)), (0, .ref (ad 5))]) hC dX6_allWeights_1 rfl (by decide) rfl ?_
  refine j_iconst (v := 0) hC dX6_allWeights_2 (by decide) ?_
  refine j_istore_n (i := 2) (lv' := [(2, .int (0 : Int32)), (1, .int (0 : Int32)), (0, .ref (ad 5))]) hC dX6_allWeights_3 rfl (by decide) rfl ?_
  obtain ⟨n_, hv⟩ := hv
  exact j_lv [2, 1, 0] rfl (lSea_allWeights_4 hC hQ n_ _ _ _ hv)
theorem hdSG_count : yX11_count.cls = RX11 ∧ yX11_count.cls ≠ "java/lang/invoke/MethodHandle" ∧ yX11_count.cls ≠ "java/lang/invoke/VarHandle" ∧ (parseMethodDescriptor yX11_count.desc).map (fun d => d.parameters.length) = some 1 := by decide +kernel
abbrev rSG_count : Room := { frames := 2, cells := 0, slots := 0, locals := 43 }
def vSG_count (g : GS) (a1 : Int32) (post : Int32 → GS → Prop) : Prop :=
  (((∀ j_ : Nat, 0 ≤ j_ → j_ ≤ 5 → ¬ a1 = nI j_) → post (-1000001 : Int32) g) ∧ (a1 = nI 0 → (vSheets_present g (fun r44 g44 => post r44 g44))) ∧ (a1 = nI 1 → post (z_ssize g) g) ∧ (a1 = nI 2 → (vSea_allWeights g (fun r60 g60 => post r60 g60))) ∧ (a1 = nI 3 → post (z_rsize g) g) ∧ (a1 = nI 4 → (vRow_failedOnes g (fun r76 g76 => post r76 g76))) ∧ (a1 = nI 5 → post (z_fsize g) g))
set_option maxHeartbeats 4000000 in
set_option maxRecDepth 100000 in
theorem cSG_count {l : Launch} {D : va_G} {ad : Nat → Nat} {cy : Nat → ClassId} {g : GS} {a1 : Int32} {post : Int32 → GS → Prop} (hv : vSG_count g a1 post) : jMi l yX11_count wsX11_count rSG_count D (tyS cy) [.ref (ad 0), .int a1] (wS ad cy g) (wS ad cy) post 0 0 := by
  refine j_meti (cc := cX11_count) (nL := 2) (rt := (some .int)) (by decide) (Nat.le_of_ble_eq_true rfl) ?_
  intro Γ hC hQ _
  have hC : jC Γ l rSG_count D 2 RX11 cX11_count wsX11_count (tyS cy) := hC
  have hinX11 : ∀ w ∈ wsX110, w ∈ wsX11_count := fun w h => List.mem_cons_of_mem _ (List.mem_append_left _ (List.mem_append_left _ (List.mem_append_left _ (List.mem_append_left _ (List.mem_append_left _ (List.mem_append_left _ (List.mem_append_left _ (List.mem_append_left _ (List.mem_append_right _ h)))))))))
  have hinX6 : ∀ w ∈ wsX60, w ∈ wsX11_count := fun w h => List.mem_cons_of_mem _ (List.mem_append_left _ (List.mem_append_left _ (List.mem_append_left _ (List.mem_append_left _ (List.mem_append_left _ (List.mem_append_left _ (List.mem_append_left _ (List.mem_append_right _ h))))))))
  have hinX5 : ∀ w ∈ wsX50, w ∈ wsX11_count := fun w h => List.mem_cons_of_mem _ (List.mem_append_left _ (List.mem_append_left _ (List.mem_append_left _ (List.mem_append_left _ (List.mem_append_left _ (List.mem_append_left _ (List.mem_append_right _ h)))))))
  have hinX1 : ∀ w ∈ wsX10, w ∈ wsX11_count := fun w h => List.mem_cons_of_mem _ (List.mem_append_left _ (List.mem_append_left _ (List.mem_append_left _ (List.mem_append_left _ (List.mem_append_left _ (List.mem_append_right _ h))))))
  refine j_lv (lv' := [(0, .ref (ad 0)), (1, .int a1)]) [0, 1] rfl ?_
  unfold vSG_count at hv
  refine j_iload_n (i := 1) hC dX11_count_0 rfl 1 rfl ?_
  rcases jsw a1 0 5 with h_ | h_
  · have hv := hv.1 h_
    refine j_tableOut (tgt := 88) hC dX11_count_1 (jsw_out (a := 0) (n := 5) h_ rfl rfl) (by decide) ?_
    refine j_ldc (v := -1000001) hC dX11_count_88 (mw 8 rfl) ?_
    exact j_iret hC hQ dX11_count_90 rfl hv
  · have hv := hv.2
    obtain ⟨j_, hi_, hj_, h_⟩ := h_
    match j_, hi_, hj_, h_ with
    | 0, _, _, h_ =>
      have hv := hv.1 h_
      refine j_tableIn (tgt := 40) (off := 39) hC dX11_count_1 (by rw [h_]; decide) (by rw [h_]; decide) (by rw [h_]; rfl) (by decide) ?_
      refine j_aload_n (i := 0) hC dX11_count_40 rfl 0 rfl ?_
      refine j_get (C := RX11) (T := TX11) (N := 8) (v := .ref (ad 1)) hC hinX11 0 (wS_c0 ad cy _) rfl 0 (by decide) (mw 1 rfl) rfl rfl dX11_count_41 ?_
      refine j_callV_i (C := RX7) (As := []) (rest := []) (b := (ad 1)) hC (cSheets_present hv) 0 gX11_count_X7_present rfl rfl rfl ⟨Nat.le_of_ble_eq_true rfl, Nat.le_of_ble_eq_true rfl⟩ hdSheets_present rfl (wS_c1 ad cy _) rfl rfl (Nat.le_of_ble_eq_true rfl) ⟨Nat.zero_le _, Nat.zero_le _⟩ dX11_count_44 (fun r44 g44 hv => ?_)
      exact j_iret hC hQ dX11_count_47 rfl hv
    | 1, _, _, h_ =>
      have hv := hv.2.1 h_
      refine j_tableIn (tgt := 48) (off := 47) hC dX11_count_1 (by rw [h_]; decide) (by rw [h_]; decide) (by rw [h_]; rfl) (by decide) ?_
      refine j_aload_n (i := 0) hC dX11_count_48 rfl 0 rfl ?_
      refine j_get (C := RX11) (T := TX11) (N := 8) (v := .ref (ad 5)) hC hinX11 0 (wS_c0 ad cy _) rfl 1 (by decide) (mw 2 rfl) rfl rfl dX11_count_49 ?_
      refine j_get (C := RX6) (T := TX6) (N := 4) (v := .int (z_ssize g)) hC hinX6 5 (wS_c5 ad cy _) rfl 3 (by decide) (mw 3 rfl) rfl rfl dX11_count_52 ?_
      exact j_iret hC hQ dX11_count_55 rfl hv
    | 2, _, _, h_ =>
      have hv := hv.2.2.1 h_
      refine j_tableIn (tgt := 56) (off := 55) hC dX11_count_1 (by rw [h_]; decide) (by rw [h_]; decide) (by rw [h_]; rfl) (by decide) ?_
      refine j_aload_n (i := 0) hC dX11_count_56 rfl 0 rfl ?_
      refine j_get (C := RX11) (T := TX11) (N := 8) (v := .ref (ad 5)) hC hinX11 0 (wS_c0 ad cy _) rfl 1 (by decide) (mw 2 rfl) rfl rfl dX11_count_57 ?_
      refine j_callV_i (C := RX6) (As := []) (rest := []) (b := (ad 5)) hC (cSea_allWeights hv) 0 gX11_count_X6_allWeights rfl rfl rfl ⟨Nat.le_of_ble_eq_true rfl, Nat.le_of_ble_eq_true rfl⟩ hdSea_allWeights rfl (wS_c5 ad cy _) rfl rfl (Nat.le_of_ble_eq_true rfl) ⟨Nat.zero_le _, Nat.zero_le _⟩ dX11_count_60 (fun r60 g60 hv => ?_)
      exact j_iret hC hQ dX11_count_63 rfl hv
    | 3, _, _, h_ =>
      have hv := hv.2.2.2.1 h_
      refine j_tableIn (tgt := 64) (off := 63) hC dX11_count_1 (by rw [h_]; decide) (by rw [h_]; decide) (by rw [h_]; rfl) (by decide) ?_
      refine j_aload_n (i := 0) hC dX11_count_64 rfl 0 rfl ?_
      refine j_get (C := RX11) (T := TX11) (N := 8) (v := .ref (ad 16)) hC hinX11 0 (wS_c0 ad cy _) rfl 4 (by decide) (mw 4 rfl) rfl rfl dX11_count_65 ?_
      refine j_get (C := RX5) (T := TX5) (N := 3) (v := .int (z_rsize g)) hC hinX5 16 (wS_c16 ad cy _) rfl 2 (by decide) (mw 5 rfl) rfl rfl dX11_count_68 ?_
      exact j_iret hC hQ dX11_count_71 rfl hv
    | 4, _, _, h_ =>
      have hv := hv.2.2.2.2.1 h_
      refine j_tableIn (tgt := 72) (off := 71) hC dX11_count_1 (by rw [h_]; decide) (by rw [h_]; decide) (by rw [h_]; rfl) (by decide) ?_
      refine j_aload_n (i := 0) hC dX11_count_72 rfl 0 rfl ?_
      refine j_get (C := RX11) (T := TX11) (N := 8) (v := .ref (ad 16)) hC hinX11 0 (wS_c0 ad cy _) rfl 4 (by decide) (mw 4 rfl) rfl rfl dX11_count_73 ?_
      refine j_callV_i (C := RX5) (As := []) (rest := []) (b := (ad 16)) hC (cRow_failedOnes hv) 0 gX11_count_X5_failedOnes rfl rfl rfl ⟨Nat.le_of_ble_eq_true rfl, Nat.le_of_ble_eq_true rfl⟩ hdRow_failedOnes rfl (wS_c16 ad cy _) rfl rfl (Nat.le_of_ble_eq_true rfl) ⟨Nat.zero_le _, Nat.zero_le _⟩ dX11_count_76 (fun r76 g76 hv => ?_)
      exact j_iret hC hQ dX11_count_79 rfl hv
    | 5, _, _, h_ =>
      have hv := hv.2.2.2.2.2 h_
      refine j_tableIn (tgt := 80) (off := 79) hC dX11_count_1 (by rw [h_]; decide) (by rw [h_]; decide) (by rw [h_]; rfl) (by decide) ?_
      refine j_aload_n (i := 0) hC dX11_count_80 rfl 0 rfl ?_
      refine j_get (C := RX11) (T := TX11) (N := 8) (v := .ref (ad 19)) hC hinX11 0 (wS_c0 ad cy _) rfl 5 (by decide) (mw 6 rfl) rfl rfl dX11_count_81 ?_
      refine j_get (C := RX1) (T := TX1) (N := 4) (v := .int (z_fsize g)) hC hinX1 19 (wS_c19 ad cy _) rfl 3 (by decide) (mw 7 rfl) rfl rfl dX11_count_84 ?_
      exact j_iret hC hQ dX11_count_87 rfl hv
    | j_ + 6, _, hj_, _ => exact absurd hj_ (by omega)
theorem hdSG_status : yX11_status.cls = RX11 ∧ yX11_status.cls ≠ "java/lang/invoke/MethodHandle" ∧ yX11_status.cls ≠ "java/lang/invoke/VarHandle" ∧ (parseMethodDescriptor yX11_status.desc).map (fun d => d.parameters.length) = some 0 := by decide +kernel
abbrev rSG_status : Room := { frames := 0, cells := 0, slots := 0, locals := 0 }
def vSG_status (g : GS) (post : Int32 → GS → Prop) : Prop :=
  post (z_finding g) g
set_option maxHeartbeats 4000000 in
set_option maxRecDepth 100000 in
theorem cSG_status {l : Launch} {D : va_G} {ad : Nat → Nat} {cy : Nat → ClassId} {g : GS} {post : Int32 → GS → Prop} (hv : vSG_status g post) : jMi l yX11_status wsX11_status rSG_status D (tyS cy) [.ref (ad 0)] (wS ad cy g) (wS ad cy) post 0 0 := by
  refine j_meti (cc := cX11_status) (nL := 1) (rt := (some .int)) (by decide) (Nat.le_of_ble_eq_true rfl) ?_
  intro Γ hC hQ _
  have hC : jC Γ l rSG_status D 1 RX11 cX11_status wsX11_status (tyS cy) := hC
  have hinX11 : ∀ w ∈ wsX110, w ∈ wsX11_status := fun w h => List.mem_cons_of_mem _ (List.mem_append_right _ h)
  refine j_lv (lv' := [(0, .ref (ad 0))]) [0] rfl ?_
  unfold vSG_status at hv
  refine j_aload_n (i := 0) hC dX11_status_0 rfl 0 rfl ?_
  refine j_get (C := RX11) (T := TX11) (N := 8) (v := .int (z_finding g)) hC hinX11 0 (wS_c0 ad cy _) rfl 7 (by decide) (mw 1 rfl) rfl rfl dX11_status_1 ?_
  exact j_iret hC hQ dX11_status_4 rfl hv
theorem hdRow_add : yX5_add.cls = RX5 ∧ yX5_add.cls ≠ "java/lang/invoke/MethodHandle" ∧ yX5_add.cls ≠ "java/lang/invoke/VarHandle" ∧ (parseMethodDescriptor yX5_add.desc).map (fun d => d.parameters.length) = some 1 := by decide +kernel
abbrev rRow_add : Room := { frames := 0, cells := 0, slots := 0, locals := 0 }
def vRow_add (g : GS) (a1 : Nat) (post : Int32 → GS → Prop) : Prop :=
  (a1 < z_gn g ∧ (vp_in (z_rsize g) 6 ∧ post (((z_rsize g) + (1 : Int32)) - (1 : Int32)) (sz_rsize (sz_ga g (va_up (z_ga g) (z_rsize g).toNatClampNeg (some a1))) ((z_rsize g) + (1 : Int32)))))
set_option maxHeartbeats 4000000 in
set_option maxRecDepth 100000 in
theorem cRow_add {l : Launch} {D : va_G} {ad : Nat → Nat} {cy : Nat → ClassId} {g : GS} {a1 : Nat} {post : Int32 → GS → Prop} (hv : vRow_add g a1 post) : jMi l yX5_add wsX5_add rRow_add D (tyS cy) [.ref (ad 16), .ref (ad (73 + a1))] (wS ad cy g) (wS ad cy) post 0 0 := by
  refine j_meti (cc := cX5_add) (nL := 2) (rt := (some .int)) (by decide) (Nat.le_of_ble_eq_true rfl) ?_
  intro Γ hC hQ _
  have hC : jC Γ l rRow_add D 2 RX5 cX5_add wsX5_add (tyS cy) := hC
  have hinX5 : ∀ w ∈ wsX50, w ∈ wsX5_add := fun w h => List.mem_cons_of_mem _ (List.mem_append_right _ h)
  refine j_lv (lv' := [(0, .ref (ad 16)), (1, .ref (ad (73 + a1)))]) [0, 1] rfl ?_
  unfold vRow_add at hv
  have hka1 := hv.1
  have hv := hv.2
  refine j_aload_n (i := 0) hC dX5_add_0 rfl 0 rfl ?_
  refine j_get (C := RX5) (T := TX5) (N := 3) (v := .ref (ad 17)) hC hinX5 16 (wS_c16 ad cy _) rfl 0 (by decide) (mw 1 rfl) rfl rfl dX5_add_1 ?_
  refine j_aload_n (i := 0) hC dX5_add_4 rfl 0 rfl ?_
  refine j_get (C := RX5) (T := TX5) (N := 3) (v := .int (z_rsize g)) hC hinX5 16 (wS_c16 ad cy _) rfl 2 (by decide) (mw 2 rfl) rfl rfl dX5_add_5 ?_
  refine j_aload_n (i := 1) hC dX5_add_8 rfl 1 rfl ?_
  have hb9 := hv.1
  have hv := hv.2
  refine j_astG hC hka1 hb9 dX5_add_9 ?_
  refine j_aload_n (i := 0) hC dX5_add_10 rfl 0 rfl ?_
  refine j_dup hC dX5_add_11 rfl ?_
  refine j_get (C := RX5) (T := TX5) (N := 3) (v := .int (z_rsize g)) hC hinX5 16 (wS_c16 ad cy _) rfl 2 (by decide) (mw 2 rfl) rfl rfl dX5_add_12 ?_
  refine j_iconst (v := 1) hC dX5_add_15 (by decide) ?_
  refine j_iadd hC dX5_add_16 ?_
  refine j_put (C := RX5) (T := TX5) (N := 3) (ty := .int) hC hinX5 tyX5 tyX5_ok nmX5 16 (wS_c16 ad cy _) rfl 2 (by decide) (mw 2 rfl) rfl rfl fdX5_2 rfl rfl (Nat.le_of_ble_eq_true rfl) (wS_p_rsize ad cy _ _) dX5_add_17 ?_
  refine j_aload_n (i := 0) hC dX5_add_20 rfl 0 rfl ?_
  refine j_get (C := RX5) (T := TX5) (N := 3) (v := .int ((z_rsize g) + (1 : Int32))) hC hinX5 16 (wS_c16 ad cy _) rfl 2 (by decide) (mw 2 rfl) rfl rfl dX5_add_21 ?_
  refine j_iconst (v := 1) hC dX5_add_24 (by decide) ?_
  refine j_isub hC dX5_add_25 ?_
  exact j_iret hC hQ dX5_add_26 rfl hv
