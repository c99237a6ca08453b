abbrev rg_Gate : Room := { frames := 1, cells := 0, slots := 0, locals := 16 }
abbrev rg_Handed : Room := { frames := 2, cells := 0, slots := 0, locals := 38 }
abbrev rg_Twin : Room := { frames := 3, cells := 0, slots := 0, locals := 60 }
theorem hgX2 : yX2_init.cls ≠ "java/lang/invoke/MethodHandle" ∧ yX2_init.cls ≠ "java/lang/invoke/VarHandle" ∧ (parseMethodDescriptor yX2_init.desc).map (fun d => d.parameters.length) = some 2 := by decide +kernel
theorem hgX3 : yX3_init.cls ≠ "java/lang/invoke/MethodHandle" ∧ yX3_init.cls ≠ "java/lang/invoke/VarHandle" ∧ (parseMethodDescriptor yX3_init.desc).map (fun d => d.parameters.length) = some 2 := by decide +kernel
theorem hgX10 : yX10_init.cls ≠ "java/lang/invoke/MethodHandle" ∧ yX10_init.cls ≠ "java/lang/invoke/VarHandle" ∧ (parseMethodDescriptor yX10_init.desc).map (fun d => d.parameters.length) = some 2 := by decide +kernel
theorem hgX8 : yX8_init.cls ≠ "java/lang/invoke/MethodHandle" ∧ yX8_init.cls ≠ "java/lang/invoke/VarHandle" ∧ (parseMethodDescriptor yX8_init.desc).map (fun d => d.parameters.length) = some 1 := by decide +kernel
set_option maxHeartbeats 4000000 in
set_option maxRecDepth 100000 in
theorem cg_Gate2 {l : Launch} {D : va_G} {tys : List (ClassId × FieldType)} {w0 : va_W} {q h0 : Nat} {a b c m h : Int32} (hq : w0[q]? = some (h0, .inr (2, [.int a, .int b, .int c]))) : jMv l yX2_init wsX2_init rg_Gate D tys [.ref h0, .int m, .int h] w0 (fun _ : Unit => w0.set q (h0, .inr (2, [.int m, .int h, .int 0])) ++ []) (fun _ => True) 0 0 := by
  refine j_metv (cc := cX2_init) (nL := 3) (rt := none) (by decide) (Nat.le_of_ble_eq_true rfl) ?_
  intro Γ hC hQ hmn
  have hC : jC Γ l rg_Gate D 3 RX2 cX2_init wsX2_init tys := hC
  have hql : q < w0.length := (List.getElem?_eq_some_iff.mp hq).1
  refine j_lv (lv' := [(0, .ref h0), (1, .int m), (2, .int h)]) [0, 1, 2] rfl ?_
  refine j_ws (ws' := w0.set q (h0, .inr (2, [.int a, .int b, .int c])) ++ []) (nw_0 hq) ?_
  refine j_aload_n (i := 0) hC dX2_init_0 rfl 0 rfl ?_
  refine j_objInit hC (mw 1 rfl) (mw 2 rfl) (mw 3 rfl) (Nat.le_of_ble_eq_true rfl) (Nat.le_of_ble_eq_true rfl) dX2_init_1 ?_
  refine j_aload_n (i := 0) hC dX2_init_4 rfl 0 rfl ?_
  refine j_iconst (v := 0) hC dX2_init_5 (by decide) ?_
  refine j_put (C := RX2) (T := TX2) (N := 3) (ty := .boolean) (ws' := w0.set q (h0, .inr (2, [.int a, .int b, .int 0])) ++ []) hC (fun w h => List.mem_cons_of_mem _ (List.mem_append_left _ (List.mem_append_left _ (List.mem_append_left _ (List.mem_append_right _ h))))) tyX2 tyX2_ok nmX2 q (nw_get hql) rfl 2 (by decide) (mw 4 rfl) rfl rfl (by decide +kernel) rfl rfl (Nat.le_of_ble_eq_true rfl) (nw_put hql) dX2_init_6 ?_
  refine j_aload_n (i := 0) hC dX2_init_9 rfl 0 rfl ?_
  refine j_iload_n (i := 1) hC dX2_init_10 rfl 1 rfl ?_
  refine j_putF (C := RX2) (T := TX2) (N := 3) (ty := .int) (ws' := w0.set q (h0, .inr (2, [.int m, .int b, .int 0])) ++ []) hC (fun w h => List.mem_cons_of_mem _ (List.mem_append_left _ (List.mem_append_left _ (List.mem_append_left _ (List.mem_append_right _ h))))) tyX2 tyX2_ok nmX2 q (nw_get hql) rfl 0 (by decide) (mw 5 rfl) rfl rfl hmn rfl (by decide +kernel) rfl rfl (Nat.le_of_ble_eq_true rfl) (nw_put hql) dX2_init_11 ?_
  refine j_aload_n (i := 0) hC dX2_init_14 rfl 0 rfl ?_
  refine j_iload_n (i := 2) hC dX2_init_15 rfl 2 rfl ?_
  refine j_putF (C := RX2) (T := TX2) (N := 3) (ty := .int) (ws' := w0.set q (h0, .inr (2, [.int m, .int h, .int 0])) ++ []) hC (fun w h => List.mem_cons_of_mem _ (List.mem_append_left _ (List.mem_append_left _ (List.mem_append_left _ (List.mem_append_right _ h))))) tyX2 tyX2_ok nmX2 q (nw_get hql) rfl 1 (by decide) (mw 6 rfl) rfl rfl hmn rfl (by decide +kernel) rfl rfl (Nat.le_of_ble_eq_true rfl) (nw_put hql) dX2_init_16 ?_
  exact j_vret hC hQ dX2_init_19 (u := ()) rfl trivial
set_option maxHeartbeats 4000000 in
set_option maxRecDepth 100000 in
theorem cg_Gate3 {l : Launch} {D : va_G} {tys : List (ClassId × FieldType)} {w0 : va_W} {q h0 : Nat} {a b c m h : Int32} (hq : w0[q]? = some (h0, .inr (3, [.int a, .int b, .int c]))) : jMv l yX2_init wsX2_init rg_Gate D tys [.ref h0, .int m, .int h] w0 (fun _ : Unit => w0.set q (h0, .inr (3, [.int m, .int h, .int 0])) ++ []) (fun _ => True) 0 0 := by
  refine j_metv (cc := cX2_init) (nL := 3) (rt := none) (by decide) (Nat.le_of_ble_eq_true rfl) ?_
  intro Γ hC hQ hmn
  have hC : jC Γ l rg_Gate D 3 RX2 cX2_init wsX2_init tys := hC
  have hql : q < w0.length := (List.getElem?_eq_some_iff.mp hq).1
  refine j_lv (lv' := [(0, .ref h0), (1, .int m), (2, .int h)]) [0, 1, 2] rfl ?_
  refine j_ws (ws' := w0.set q (h0, .inr (3, [.int a, .int b, .int c])) ++ []) (nw_0 hq) ?_
  refine j_aload_n (i := 0) hC dX2_init_0 rfl 0 rfl ?_
  refine j_objInit hC (mw 1 rfl) (mw 2 rfl) (mw 3 rfl) (Nat.le_of_ble_eq_true rfl) (Nat.le_of_ble_eq_true rfl) dX2_init_1 ?_
  refine j_aload_n (i := 0) hC dX2_init_4 rfl 0 rfl ?_
  refine j_iconst (v := 0) hC dX2_init_5 (by decide) ?_
  refine j_put (C := RX3) (T := TX3) (N := 3) (ty := .boolean) (ws' := w0.set q (h0, .inr (3, [.int a, .int b, .int 0])) ++ []) hC (fun w h => List.mem_cons_of_mem _ (List.mem_append_left _ (List.mem_append_left _ (List.mem_append_right _ h)))) tyX3 tyX3_ok nmX3 q (nw_get hql) rfl 2 (by decide) (mw 4 rfl) rfl rfl (by decide +kernel) rfl rfl (Nat.le_of_ble_eq_true rfl) (nw_put hql) dX2_init_6 ?_
  refine j_aload_n (i := 0) hC dX2_init_9 rfl 0 rfl ?_
  refine j_iload_n (i := 1) hC dX2_init_10 rfl 1 rfl ?_
  refine j_putF (C := RX3) (T := TX3) (N := 3) (ty := .int) (ws' := w0.set q (h0, .inr (3, [.int m, .int b, .int 0])) ++ []) hC (fun w h => List.mem_cons_of_mem _ (List.mem_append_left _ (List.mem_append_left _ (List.mem_append_right _ h)))) tyX3 tyX3_ok nmX3 q (nw_get hql) rfl 0 (by decide) (mw 5 rfl) rfl rfl hmn rfl (by decide +kernel) rfl rfl (Nat.le_of_ble_eq_true rfl) (nw_put hql) dX2_init_11 ?_
  refine j_aload_n (i := 0) hC dX2_init_14 rfl 0 rfl ?_
  refine j_iload_n (i := 2) hC dX2_init_15 rfl 2 rfl ?_
  refine j_putF (C := RX3) (T := TX3) (N := 3) (ty := .int) (ws' := w0.set q (h0, .inr (3, [.int m, .int h, .int 0])) ++ []) hC (fun w h => List.mem_cons_of_mem _ (List.mem_append_left _ (List.mem_append_left _ (List.mem_append_right _ h)))) tyX3 tyX3_ok nmX3 q (nw_get hql) rfl 1 (by decide) (mw 6 rfl) rfl rfl hmn rfl (by decide +kernel) rfl rfl (Nat.le_of_ble_eq_true rfl) (nw_put hql) dX2_init_16 ?_
  exact j_vret hC hQ dX2_init_19 (u := ()) rfl trivial
set_option maxHeartbeats 4000000 in
set_option maxRecDepth 100000 in
theorem cg_Gate8 {l : Launch} {D : va_G} {tys : List (ClassId × FieldType)} {w0 : va_W} {q h0 : Nat} {a b c m h : Int32} (hq : w0[q]? = some (h0, .inr (8, [.int a, .int b, .int c]))) : jMv l yX2_init wsX2_init rg_Gate D tys [.ref h0, .int m, .int h] w0 (fun _ : Unit => w0.set q (h0, .inr (8, [.int m, .int h, .int 0])) ++ []) (fun _ => True) 0 0 := by
  refine j_metv (cc := cX2_init) (nL := 3) (rt := none) (by decide) (Nat.le_of_ble_eq_true rfl) ?_
  intro Γ hC hQ hmn
  have hC : jC Γ l rg_Gate D 3 RX2 cX2_init wsX2_init tys := hC
  have hql : q < w0.length := (List.getElem?_eq_some_iff.mp hq).1
  refine j_lv (lv' := [(0, .ref h0), (1, .int m), (2, .int h)]) [0, 1, 2] rfl ?_
  refine j_ws (ws' := w0.set q (h0, .inr (8, [.int a, .int b, .int c])) ++ []) (nw_0 hq) ?_
  refine j_aload_n (i := 0) hC dX2_init_0 rfl 0 rfl ?_
  refine j_objInit hC (mw 1 rfl) (mw 2 rfl) (mw 3 rfl) (Nat.le_of_ble_eq_true rfl) (Nat.le_of_ble_eq_true rfl) dX2_init_1 ?_
  refine j_aload_n (i := 0) hC dX2_init_4 rfl 0 rfl ?_
  refine j_iconst (v := 0) hC dX2_init_5 (by decide) ?_
  refine j_put (C := RX8) (T := TX8) (N := 3) (ty := .boolean) (ws' := w0.set q (h0, .inr (8, [.int a, .int b, .int 0])) ++ []) hC (fun w h => List.mem_cons_of_mem _ (List.mem_append_left _ (List.mem_append_right _ h))) tyX8 tyX8_ok nmX8 q (nw_get hql) rfl 2 (by decide) (mw 4 rfl) rfl rfl (by decide +kernel) rfl rfl (Nat.le_of_ble_eq_true rfl) (nw_put hql) dX2_init_6 ?_
  refine j_aload_n (i := 0) hC dX2_init_9 rfl 0 rfl ?_
  refine j_iload_n (i := 1) hC dX2_init_10 rfl 1 rfl ?_
  refine j_putF (C := RX8) (T := TX8) (N := 3) (ty := .int) (ws' := w0.set q (h0, .inr (8, [.int m, .int b, .int 0])) ++ []) hC (fun w h => List.mem_cons_of_mem _ (List.mem_append_left _ (List.mem_append_right _ h))) tyX8 tyX8_ok nmX8 q (nw_get hql) rfl 0 (by decide) (mw 5 rfl) rfl rfl hmn rfl (by decide +kernel) rfl rfl (Nat.le_of_ble_eq_true rfl) (nw_put hql) dX2_init_11 ?_
  refine j_aload_n (i := 0) hC dX2_init_14 rfl 0 rfl ?_
  refine j_iload_n (i := 2) hC dX2_init_15 rfl 2 rfl ?_
  refine j_putF (C := RX8) (T := TX8) (N := 3) (ty := .int) (ws' := w0.set q (h0, .inr (8, [.int m, .int h, .int 0])) ++ []) hC (fun w h => List.mem_cons_of_mem _ (List.mem_append_left _ (List.mem_append_right _ h))) tyX8 tyX8_ok nmX8 q (nw_get hql) rfl 1 (by decide) (mw 6 rfl) rfl rfl hmn rfl (by decide +kernel) rfl rfl (Nat.le_of_ble_eq_true rfl) (nw_put hql) dX2_init_16 ?_
  exact j_vret hC hQ dX2_init_19 (u := ()) rfl trivial
set_option maxHeartbeats 4000000 in
set_option maxRecDepth 100000 in
theorem cg_Gate10 {l : Launch} {D : va_G} {tys : List (ClassId × FieldType)} {w0 : va_W} {q h0 : Nat} {a b c m h : Int32} (hq : w0[q]? = some (h0, .inr (10, [.int a, .int b, .int c]))) : jMv l yX2_init wsX2_init rg_Gate D tys [.ref h0, .int m, .int h] w0 (fun _ : Unit => w0.set q (h0, .inr (10, [.int m, .int h, .int 0])) ++ []) (fun _ => True) 0 0 := by
  refine j_metv (cc := cX2_init) (nL := 3) (rt := none) (by decide) (Nat.le_of_ble_eq_true rfl) ?_
  intro Γ hC hQ hmn
  have hC : jC Γ l rg_Gate D 3 RX2 cX2_init wsX2_init tys := hC
  have hql : q < w0.length := (List.getElem?_eq_some_iff.mp hq).1
  refine j_lv (lv' := [(0, .ref h0), (1, .int m), (2, .int h)]) [0, 1, 2] rfl ?_
  refine j_ws (ws' := w0.set q (h0, .inr (10, [.int a, .int b, .int c])) ++ []) (nw_0 hq) ?_
  refine j_aload_n (i := 0) hC dX2_init_0 rfl 0 rfl ?_
  refine j_objInit hC (mw 1 rfl) (mw 2 rfl) (mw 3 rfl) (Nat.le_of_ble_eq_true rfl) (Nat.le_of_ble_eq_true rfl) dX2_init_1 ?_
  refine j_aload_n (i := 0) hC dX2_init_4 rfl 0 rfl ?_
  refine j_iconst (v := 0) hC dX2_init_5 (by decide) ?_
  refine j_put (C := RX10) (T := TX10) (N := 3) (ty := .boolean) (ws' := w0.set q (h0, .inr (10, [.int a, .int b, .int 0])) ++ []) hC (fun w h => List.mem_cons_of_mem _ (List.mem_append_right _ h)) tyX10 tyX10_ok nmX10 q (nw_get hql) rfl 2 (by decide) (mw 4 rfl) rfl rfl (by decide +kernel) rfl rfl (Nat.le_of_ble_eq_true rfl) (nw_put hql) dX2_init_6 ?_
  refine j_aload_n (i := 0) hC dX2_init_9 rfl 0 rfl ?_
  refine j_iload_n (i := 1) hC dX2_init_10 rfl 1 rfl ?_
  refine j_putF (C := RX10) (T := TX10) (N := 3) (ty := .int) (ws' := w0.set q (h0, .inr (10, [.int m, .int b, .int 0])) ++ []) hC (fun w h => List.mem_cons_of_mem _ (List.mem_append_right _ h)) tyX10 tyX10_ok nmX10 q (nw_get hql) rfl 0 (by decide) (mw 5 rfl) rfl rfl hmn rfl (by decide +kernel) rfl rfl (Nat.le_of_ble_eq_true rfl) (nw_put hql) dX2_init_11 ?_
  refine j_aload_n (i := 0) hC dX2_init_14 rfl 0 rfl ?_
  refine j_iload_n (i := 2) hC dX2_init_15 rfl 2 rfl ?_
  refine j_putF (C := RX10) (T := TX10) (N := 3) (ty := .int) (ws' := w0.set q (h0, .inr (10, [.int m, .int h, .int 0])) ++ []) hC (fun w h => List.mem_cons_of_mem _ (List.mem_append_right _ h)) tyX10 tyX10_ok nmX10 q (nw_get hql) rfl 1 (by decide) (mw 6 rfl) rfl rfl hmn rfl (by decide +kernel) rfl rfl (Nat.le_of_ble_eq_true rfl) (nw_put hql) dX2_init_16 ?_
  exact j_vret hC hQ dX2_init_19 (u := ()) rfl trivial
set_option maxHeartbeats 4000000 in
set_option maxRecDepth 100000 in
theorem cg_Handed3 {l : Launch} {D : va_G} {tys : List (ClassId × FieldType)} {w0 : va_W} {q h0 : Nat} {a b c m h : Int32} (hq : w0[q]? = some (h0, .inr (3, [.int a, .int b, .int c]))) : jMv l yX3_init wsX3_init rg_Handed D tys [.ref h0, .int m, .int h] w0 (fun _ : Unit => w0.set q (h0, .inr (3, [.int m, .int h, .int 0])) ++ []) (fun _ => True) 0 0 := by
  refine j_metv (cc := cX3_init) (nL := 3) (rt := none) (by decide) (Nat.le_of_ble_eq_true rfl) ?_
  intro Γ hC hQ hmn
  have hC : jC Γ l rg_Handed D 3 RX3 cX3_init wsX3_init tys := hC
  refine j_lv (lv' := [(0, .ref h0), (1, .int m), (2, .int h)]) [0, 1, 2] rfl ?_
  refine j_aload_n (i := 0) hC dX3_init_0 rfl 0 rfl ?_
  refine j_iload_n (i := 1) hC dX3_init_1 rfl 1 rfl ?_
  refine j_iload_n (i := 2) hC dX3_init_2 rfl 2 rfl ?_
  refine j_callI_v (As := [.int m, .int h]) (rest := []) (b := h0) hC (cg_Gate3 hq) 2 gX3_init_X2_init rfl rfl rfl ⟨(Nat.le_of_ble_eq_true rfl), (Nat.le_of_ble_eq_true rfl)⟩ (mw 3 rfl) (mw 1 rfl) (mw 2 rfl) rfl hgX2 rfl rfl (Nat.le_of_ble_eq_true rfl) ⟨(Nat.le_of_ble_eq_true rfl), (Nat.le_of_ble_eq_true rfl)⟩ dX3_init_3 (fun _ _ => ?_)
  exact j_vret hC hQ dX3_init_6 (u := ()) rfl trivial
set_option maxHeartbeats 4000000 in
set_option maxRecDepth 100000 in
theorem cg_Handed10 {l : Launch} {D : va_G} {tys : List (ClassId × FieldType)} {w0 : va_W} {q h0 : Nat} {a b c m h : Int32} (hq : w0[q]? = some (h0, .inr (10, [.int a, .int b, .int c]))) : jMv l yX3_init wsX3_init rg_Handed D tys [.ref h0, .int m, .int h] w0 (fun _ : Unit => w0.set q (h0, .inr (10, [.int m, .int h, .int 0])) ++ []) (fun _ => True) 0 0 := by
  refine j_metv (cc := cX3_init) (nL := 3) (rt := none) (by decide) (Nat.le_of_ble_eq_true rfl) ?_
  intro Γ hC hQ hmn
  have hC : jC Γ l rg_Handed D 3 RX3 cX3_init wsX3_init tys := hC
  refine j_lv (lv' := [(0, .ref h0), (1, .int m), (2, .int h)]) [0, 1, 2] rfl ?_
  refine j_aload_n (i := 0) hC dX3_init_0 rfl 0 rfl ?_
  refine j_iload_n (i := 1) hC dX3_init_1 rfl 1 rfl ?_
  refine j_iload_n (i := 2) hC dX3_init_2 rfl 2 rfl ?_
  refine j_callI_v (As := [.int m, .int h]) (rest := []) (b := h0) hC (cg_Gate10 hq) 2 gX3_init_X2_init rfl rfl rfl ⟨(Nat.le_of_ble_eq_true rfl), (Nat.le_of_ble_eq_true rfl)⟩ (mw 3 rfl) (mw 1 rfl) (mw 2 rfl) rfl hgX2 rfl rfl (Nat.le_of_ble_eq_true rfl) ⟨(Nat.le_of_ble_eq_true rfl), (Nat.le_of_ble_eq_true rfl)⟩ dX3_init_3 (fun _ _ => ?_)
  exact j_vret hC hQ dX3_init_6 (u := ()) rfl trivial
set_option maxHeartbeats 4000000 in
set_option maxRecDepth 100000 in
theorem cg_Slow8 {l : Launch} {D : va_G} {tys : List (ClassId × FieldType)} {w0 : va_W} {q h0 : Nat} {a b c m : Int32} (hq : w0[q]? = some (h0, .inr (8, [.int a, .int b, .int c]))) : jMv l yX8_init wsX8_init rg_Handed D tys [.ref h0, .int m] w0 (fun _ : Unit => w0.set q (h0, .inr (8, [.int m, .int 0, .int 0])) ++ []) (fun _ => True) 0 0 := by
  refine j_metv (cc := cX8_init) (nL := 2) (rt := none) (by decide) (Nat.le_of_ble_eq_true rfl) ?_
  intro Γ hC hQ hmn
  have hC : jC Γ l rg_Handed D 2 RX8 cX8_init wsX8_init tys := hC
  refine j_lv (lv' := [(0, .ref h0), (1, .int m)]) [0, 1] rfl ?_
  refine j_aload_n (i := 0) hC dX8_init_0 rfl 0 rfl ?_
  refine j_iload_n (i := 1) hC dX8_init_1 rfl 1 rfl ?_
  refine j_iconst (v := 0) hC dX8_init_2 (by decide) ?_
  refine j_callI_v (As := [.int m, .int 0]) (rest := []) (b := h0) hC (cg_Gate8 hq) 2 gX8_init_X2_init rfl rfl rfl ⟨(Nat.le_of_ble_eq_true rfl), (Nat.le_of_ble_eq_true rfl)⟩ (mw 3 rfl) (mw 1 rfl) (mw 2 rfl) rfl hgX2 rfl rfl (Nat.le_of_ble_eq_true rfl) ⟨(Nat.le_of_ble_eq_true rfl), (Nat.le_of_ble_eq_true rfl)⟩ dX8_init_3 (fun _ _ => ?_)
  exact j_vret hC hQ dX8_init_6 (u := ()) rfl trivial
set_option maxHeartbeats 4000000 in
set_option maxRecDepth 100000 in
theorem cg_Twin10 {l : Launch} {D : va_G} {tys : List (ClassId × FieldType)} {w0 : va_W} {q h0 : Nat} {a b c m h : Int32} (hq : w0[q]? = some (h0, .inr (10, [.int a, .int b, .int c]))) : jMv l yX10_init wsX10_init rg_Twin D tys [.ref h0, .int m, .int h] w0 (fun _ : Unit => w0.set q (h0, .inr (10, [.int m, .int h, .int 0])) ++ []) (fun _ => True) 0 0 := by
  refine j_metv (cc := cX10_init) (nL := 3) (rt := none) (by decide) (Nat.le_of_ble_eq_true rfl) ?_
  intro Γ hC hQ hmn
  have hC : jC Γ l rg_Twin D 3 RX10 cX10_init wsX10_init tys := hC
  refine j_lv (lv' := [(0, .ref h0), (1, .int m), (2, .int h)]) [0, 1, 2] rfl ?_
  refine j_aload_n (i := 0) hC dX10_init_0 rfl 0 rfl ?_
  refine j_iload_n (i := 1) hC dX10_init_1 rfl 1 rfl ?_
  refine j_iload_n (i := 2) hC dX10_init_2 rfl 2 rfl ?_
  refine j_callI_v (As := [.int m, .int h]) (rest := []) (b := h0) hC (cg_Handed10 hq) 2 gX10_init_X3_init rfl rfl rfl ⟨(Nat.le_of_ble_eq_true rfl), (Nat.le_of_ble_eq_true rfl)⟩ (mw 3 rfl) (mw 1 rfl) (mw 2 rfl) rfl hgX3 rfl rfl (Nat.le_of_ble_eq_true rfl) ⟨(Nat.le_of_ble_eq_true rfl), (Nat.le_of_ble_eq_true rfl)⟩ dX10_init_3 (fun _ _ => ?_)
  exact j_vret hC hQ dX10_init_6 (u := ()) rfl trivial
def gnew (g : GS) (t : Nat) (a b : Int32) : GS := (g.1, g.2.1, g.2.2.1, g.2.2.2.1, g.2.2.2.2.1, g.2.2.2.2.2.1, g.2.2.2.2.2.2.1, g.2.2.2.2.2.2.2.1, g.2.2.2.2.2.2.2.2.1, g.2.2.2.2.2.2.2.2.2.1, g.2.2.2.2.2.2.2.2.2.2.1, g.2.2.2.2.2.2.2.2.2.2.2.1, g.2.2.2.2.2.2.2.2.2.2.2.2.1, g.2.2.2.2.2.2.2.2.2.2.2.2.2.1, g.2.2.2.2.2.2.2.2.2.2.2.2.2.2.1, g.2.2.2.2.2.2.2.2.2.2.2.2.2.2.2.1, g.2.2.2.2.2.2.2.2.2.2.2.2.2.2.2.2.1, g.2.2.2.2.2.2.2.2.2.2.2.2.2.2.2.2.2.1, g.2.2.2.2.2.2.2.2.2.2.2.2.2.2.2.2.2.2.1, g.2.2.2.2.2.2.2.2.2.2.2.2.2.2.2.2.2.2.2.1, g.2.2.2.2.2.2.2.2.2.2.2.2.2.2.2.2.2.2.2.2.1, g.2.2.2.2.2.2.2.2.2.2.2.2.2.2.2.2.2.2.2.2.2.1, g.2.2.2.2.2.2.2.2.2.2.2.2.2.2.2.2.2.2.2.2.2.2.1, g.2.2.2.2.2.2.2.2.2.2.2.2.2.2.2.2.2.2.2.2.2.2.2.1, va_up (z_gk g) (z_gn g) t, upd (z_gm g) (z_gn g) a, upd (z_gh g) (z_gn g) b, upd (z_gf g) (z_gn g) 0, z_gn g + 1)
theorem gnew_finding (g : GS) (t : Nat) (a b : Int32) : z_finding (gnew g t a b) = z_finding g := rfl
theorem gnew_items (g : GS) (t : Nat) (a b : Int32) : z_items (gnew g t a b) = z_items g := rfl
theorem gnew_lanes (g : GS) (t : Nat) (a b : Int32) : z_lanes (gnew g t a b) = z_lanes g := rfl
theorem gnew_sizes (g : GS) (t : Nat) (a b : Int32) : z_sizes (gnew g t a b) = z_sizes g := rfl
theorem gnew_weights (g : GS) (t : Nat) (a b : Int32) : z_weights (gnew g t a b) = z_weights g := rfl
theorem gnew_levels (g : GS) (t : Nat) (a b : Int32) : z_levels (gnew g t a b) = z_levels g := rfl
theorem gnew_heads (g : GS) (t : Nat) (a b : Int32) : z_heads (gnew g t a b) = z_heads g := rfl
theorem gnew_ssize (g : GS) (t : Nat) (a b : Int32) : z_ssize (gnew g t a b) = z_ssize g := rfl
theorem gnew_rules (g : GS) (t : Nat) (a b : Int32) : z_rules (gnew g t a b) = z_rules g := rfl
theorem gnew_rivers (g : GS) (t : Nat) (a b : Int32) : z_rivers (gnew g t a b) = z_rivers g := rfl
theorem gnew_orders (g : GS) (t : Nat) (a b : Int32) : z_orders (gnew g t a b) = z_orders g := rfl
theorem gnew_now (g : GS) (t : Nat) (a b : Int32) : z_now (gnew g t a b) = z_now g := rfl
theorem gnew_then (g : GS) (t : Nat) (a b : Int32) : z_then (gnew g t a b) = z_then g := rfl
theorem gnew_loss (g : GS) (t : Nat) (a b : Int32) : z_loss (gnew g t a b) = z_loss g := rfl
theorem gnew_stale (g : GS) (t : Nat) (a b : Int32) : z_stale (gnew g t a b) = z_stale g := rfl
theorem gnew_ga (g : GS) (t : Nat) (a b : Int32) : z_ga (gnew g t a b) = z_ga g := rfl
theorem gnew_free (g : GS) (t : Nat) (a b : Int32) : z_free (gnew g t a b) = z_free g := rfl
theorem gnew_rsize (g : GS) (t : Nat) (a b : Int32) : z_rsize (gnew g t a b) = z_rsize g := rfl
theorem gnew_fmin (g : GS) (t : Nat) (a b : Int32) : z_fmin (gnew g t a b) = z_fmin g := rfl
theorem gnew_fpass (g : GS) (t : Nat) (a b : Int32) : z_fpass (gnew g t a b) = z_fpass g := rfl
theorem gnew_inTurn (g : GS) (t : Nat) (a b : Int32) : z_inTurn (gnew g t a b) = z_inTurn g := rfl
theorem gnew_fsize (g : GS) (t : Nat) (a b : Int32) : z_fsize (gnew g t a b) = z_fsize g := rfl
theorem gnew_numbers (g : GS) (t : Nat) (a b : Int32) : z_numbers (gnew g t a b) = z_numbers g := rfl
theorem gnew_tlen (g : GS) (t : Nat) (a b : Int32) : z_tlen (gnew g t a b) = z_tlen g := rfl
theorem gnew_gk (g : GS) (t : Nat) (a b : Int32) : z_gk (gnew g t a b) = va_up (z_gk g) (z_gn g) t := rfl
theorem gnew_gm (g : GS) (t : Nat) (a b : Int32) : z_gm (gnew g t a b) = upd (z_gm g) (z_gn g) a := rfl
theorem gnew_gh (g : GS) (t : Nat) (a b : Int32) : z_gh (gnew g t a b) = upd (z_gh g) (z_gn g) b := rfl
theorem gnew_gf (g : GS) (t : Nat) (a b : Int32) : z_gf (gnew g t a b) = upd (z_gf g) (z_gn g) 0 := rfl
theorem gnew_gn (g : GS) (t : Nat) (a b : Int32) : z_gn (gnew g t a b) = z_gn g + 1 := rfl
theorem rS_push (cy : Nat → ClassId) (g : GS) (t : Nat) (a b : Int32) : rS cy (gnew g t a b) = rS cy g := by
  funext i
  unfold rS
  simp only [gnew_items, gnew_levels, gnew_heads, gnew_orders, gnew_now, gnew_then]
/-- the kind that a gate of these minutes is told as -/
def kd (a b : Int32) : Nat := if 0 < b then (if b ≤ a then 2 else 1) else (if 200 ≤ a then 3 else 0)
theorem va_up_o {α : Type} (f : Nat → α) {k j : Nat} (v : α) (h : j < k) : va_up f k v j = f j := if_neg (by omega)
theorem fS_push (ad : Nat → Nat) (cy : Nat → ClassId) (g : GS) (hga : ∀ j k, z_ga g j = some k → k < z_gn g) (q t : Nat) (a b : Int32) : fS (va_up ad (73 + z_gn g) q) cy (gnew g t a b) = fS ad cy g := by
  have h : ∀ i, i < 73 + z_gn g → va_up ad (73 + z_gn g) q i = ad i := fun i hi => va_up_o ad q hi
  have hr : ∀ b0 : Nat, b0 + 8 ≤ 73 → (fun j => if j < 8 then some (va_up ad (73 + z_gn g) q (b0 + j)) else none) = (fun j => if j < 8 then some (ad (b0 + j)) else none) := by
    intro b0 hb
    funext j
    by_cases hj : j < 8
    · rw [if_pos hj, if_pos hj, h _ (by omega)]
    · rw [if_neg hj, if_neg hj]
  have hgt : (fun j => (z_ga g j).map (fun k => va_up ad (73 + z_gn g) q (73 + k))) = (fun j => (z_ga g j).map (fun k => ad (73 + k))) := by
    funext j
    cases e : z_ga g j with
    | none => rfl
    | some k =>
      have hk := hga j k e
      show some (va_up ad (73 + z_gn g) q (73 + k)) = some (ad (73 + k))
      rw [h _ (by omega)]
  have e0 : ∀ n : Nat, n < 73 → va_up ad (73 + z_gn g) q n = ad n := fun n hn => h n (by omega)
  unfold fS
  simp only [gnew_finding, gnew_lanes, gnew_sizes, gnew_weights, gnew_ssize, gnew_rules, gnew_rivers, gnew_loss, gnew_stale, gnew_ga, gnew_free, gnew_rsize, gnew_fmin, gnew_fpass, gnew_inTurn, gnew_fsize, gnew_numbers, gnew_tlen]
  rw [hgt, hr 25 (by omega), hr 33 (by omega), hr 41 (by omega), hr 49 (by omega), hr 57 (by omega), hr 65 (by omega)]
  rw [e0 0 (by omega), e0 1 (by omega), e0 2 (by omega), e0 3 (by omega), e0 4 (by omega), e0 5 (by omega), e0 6 (by omega), e0 7 (by omega), e0 8 (by omega), e0 9 (by omega), e0 10 (by omega), e0 11 (by omega), e0 12 (by omega), e0 13 (by omega), e0 14 (by omega), e0 15 (by omega), e0 16 (by omega), e0 17 (by omega), e0 18 (by omega), e0 19 (by omega), e0 20 (by omega), e0 21 (by omega), e0 22 (by omega), e0 23 (by omega), e0 24 (by omega)]
theorem wS_push (ad : Nat → Nat) (cy : Nat → ClassId) (g : GS) (hga : ∀ j k, z_ga g j = some k → k < z_gn g) (q t : Nat) (a b : Int32) : wS ad cy g ++ [(q, .inr (gci t, [.int a, .int b, .int 0]))] = wS (va_up ad (73 + z_gn g) q) cy (gnew g t a b) := by
  have h : ∀ i, i < 73 + z_gn g → va_up ad (73 + z_gn g) q i = ad i := fun i hi => va_up_o ad q hi
  unfold wS
  rw [fS_push ad cy g hga, rS_push, gnew_gn, List.append_assoc, List.append_assoc]
  congr 1
  congr 1
  · apply List.map_congr_left
    intro i hi
    have hi2 := List.mem_range.mp hi
    rw [h _ (by omega)]
  · rw [List.range_succ, List.map_append]
    congr 1
    · apply List.map_congr_left
      intro i hi
      have hi2 := List.mem_range.mp hi
      rw [h _ (by omega)]
      unfold gS
      rw [gnew_gk, gnew_gm, gnew_gh, gnew_gf, va_up_o _ _ hi2, pk_un (by omega), pk_un (by omega), pk_un (by omega)]
    · unfold gS
      simp only [List.map_cons, List.map_nil, gnew_gk, gnew_gm, gnew_gh, gnew_gf, pk_us]
      simp [va_up]
theorem nw_end {w : va_W} {x y : Nat × va_E} : (w ++ [x]).set w.length y ++ [] = w ++ [y] := by
  have h := set_app w [x] 0 y
  rw [Nat.add_zero] at h
  rw [List.append_nil, h]
  rfl
theorem nw_last {w : va_W} {x : Nat × va_E} : (w ++ [x])[w.length]? = some x := by
  rw [List.getElem?_append_right (Nat.le_refl _), Nat.sub_self]
  rfl
abbrev rg_gateOf : Room := { frames := 4, cells := 1, slots := 3, locals := 82 }
set_option maxHeartbeats 4000000 in
set_option maxRecDepth 100000 in
theorem c_gateOf {l : Launch} {D : va_G} {ad : Nat → Nat} {cy : Nat → ClassId} {g : GS} {a0 a1 : Int32} (hga : ∀ j k, z_ga g j = some k → k < z_gn g) (ha : 0 ≤ a1) : jMq l yX11_gateOf wsX11_gateOf rg_gateOf D (tyS cy) [.int a0, .int a1] (wS ad cy g) (fun u : (Nat → Nat) × GS => wS u.1 cy u.2) (fun r u => r = some (u.1 (73 + z_gn g)) ∧ (∀ i, i < 73 + z_gn g → u.1 i = ad i) ∧ u.2 = gnew g (kd a0 a1) a0 a1) 1 3 := by
  refine j_metq (cc := cX11_gateOf) (nL := 2) (rt := (some (.object "SeaGates$Gate"))) (by decide) (Nat.le_of_ble_eq_true rfl) ?_
  intro Γ hC hQ hmn
  have hC : jC Γ l rg_gateOf D 2 RX11 cX11_gateOf wsX11_gateOf (tyS cy) := hC
  refine j_lv (lv' := [(0, .int a0), (1, .int a1)]) [0, 1] rfl ?_
  refine j_iload_n (i := 1) hC dX11_gateOf_0 rfl 1 rfl ?_
  refine j_if_le (tgt := 31) hC dX11_gateOf_1 (by decide) (fun h_ => ?_) (fun h_ => ?_)
  · have e1 : a1 = 0 := Int32.le_antisymm h_ ha
    subst e1
    refine j_iload_n (i := 0) hC dX11_gateOf_31 rfl 0 rfl ?_
    refine j_sipush (v := 200) hC dX11_gateOf_32 (by decide) ?_
    refine j_icmp_lt (tgt := 49) hC dX11_gateOf_35 (by decide) (fun h2_ => ?_) (fun h2_ => ?_)
    · have hk : kd a0 0 = 0 := by unfold kd; rw [if_neg (by decide), if_neg (by rw [Int32.not_le]; exact h2_)]
      refine j_new (ci := 2) (C := RX2) (T := TX2) (N := 3) (fs := [.int 0, .int 0, .int 0]) hC (fun w h => List.mem_cons_of_mem _ (List.mem_append_right _ h)) tyX2 tyX2_ok (mw 10 rfl) (mw 11 rfl) (mw 12 rfl) rfl (fun j hj => by rcases (show j = 0 ∨ j = 1 ∨ j = 2 by omega) with rfl | rfl | rfl <;> rfl) (Nat.le_of_ble_eq_true rfl) (Nat.le_of_ble_eq_true rfl) dX11_gateOf_49 (fun q => ?_)
      refine j_dup hC dX11_gateOf_52 rfl ?_
      refine j_iload_n (i := 0) hC dX11_gateOf_53 rfl 0 rfl ?_
      refine j_iload_n (i := 1) hC dX11_gateOf_54 rfl 1 rfl ?_
      refine j_callI_v (As := [.int a0, .int 0]) (rest := [.ref q]) (b := q) hC (cg_Gate2 nw_last) 2 gX11_gateOf_X2_init rfl rfl rfl ⟨(Nat.le_of_ble_eq_true rfl), (Nat.le_of_ble_eq_true rfl)⟩ (mw 12 rfl) (mw 33 rfl) (mw 20 rfl) rfl hgX2 rfl rfl (Nat.le_of_ble_eq_true rfl) ⟨(Nat.le_of_ble_eq_true rfl), (Nat.le_of_ble_eq_true rfl)⟩ dX11_gateOf_55 (fun _ _ => ?_)
      refine j_ws (ws' := wS (va_up ad (73 + z_gn g) q) cy (gnew g 0 a0 0)) (by first | exact (nw_end).trans (wS_push ad cy g hga q 0 a0 0) | (rw [nw_end]; exact wS_push ad cy g hga q 0 a0 0)) ?_
      exact j_qret (v := some q) hC hQ dX11_gateOf_58 (u := (va_up ad (73 + z_gn g) q, gnew g 0 a0 0)) rfl ⟨by simp [va_up], fun i hi => va_up_o ad q hi, by rw [hk]⟩
    · have hk : kd a0 0 = 3 := by unfold kd; rw [if_neg (by decide), if_pos (by rw [← Int32.not_lt]; exact h2_)]
      refine j_new (ci := 8) (C := RX8) (T := TX8) (N := 3) (fs := [.int 0, .int 0, .int 0]) hC (fun w h => List.mem_cons_of_mem _ (List.mem_append_left _ (List.mem_append_right _ h))) tyX8 tyX8_ok (mw 7 rfl) (mw 8 rfl) (mw 9 rfl) rfl (fun j hj => by rcases (show j = 0 ∨ j = 1 ∨ j = 2 by omega) with rfl | rfl | rfl <;> rfl) (Nat.le_of_ble_eq_true rfl) (Nat.le_of_ble_eq_true rfl) dX11_gateOf_38 (fun q => ?_)
      refine j_dup hC dX11_gateOf_41 rfl ?_
      refine j_iload_n (i := 0) hC dX11_gateOf_42 rfl 0 rfl ?_
      refine j_callI_v (As := [.int a0]) (rest := [.ref q]) (b := q) hC (cg_Slow8 nw_last) 1 gX11_gateOf_X8_init rfl rfl rfl ⟨(Nat.le_of_ble_eq_true rfl), (Nat.le_of_ble_eq_true rfl)⟩ (mw 9 rfl) (mw 29 rfl) (mw 30 rfl) rfl hgX8 rfl rfl (Nat.le_of_ble_eq_true rfl) ⟨(Nat.le_of_ble_eq_true rfl), (Nat.le_of_ble_eq_true rfl)⟩ dX11_gateOf_43 (fun _ _ => ?_)
      refine j_ws (ws' := wS (va_up ad (73 + z_gn g) q) cy (gnew g 3 a0 0)) (by first | exact (nw_end).trans (wS_push ad cy g hga q 3 a0 0) | (rw [nw_end]; exact wS_push ad cy g hga q 3 a0 0)) ?_
      refine j_goto (tgt := 58) hC dX11_gateOf_46 (by decide) ?_
      exact j_qret (v := some q) hC hQ dX11_gateOf_58 (u := (va_up ad (73 + z_gn g) q, gnew g 3 a0 0)) rfl ⟨by simp [va_up], fun i hi => va_up_o ad q hi, by rw [hk]⟩
  · have h3 : 0 < a1 := by rw [← Int32.not_le]; exact h_
    refine j_iload_n (i := 1) hC dX11_gateOf_4 rfl 1 rfl ?_
    refine j_iload_n (i := 0) hC dX11_gateOf_5 rfl 0 rfl ?_
    refine j_icmp_gt (tgt := 21) hC dX11_gateOf_6 (by decide) (fun h2_ => ?_) (fun h2_ => ?_)
    · have hk : kd a0 a1 = 1 := by unfold kd; rw [if_pos h3, if_neg (by rw [Int32.not_le]; exact h2_)]
      refine j_new (ci := 3) (C := RX3) (T := TX3) (N := 3) (fs := [.int 0, .int 0, .int 0]) hC (fun w h => List.mem_cons_of_mem _ (List.mem_append_left _ (List.mem_append_left _ (List.mem_append_right _ h)))) tyX3 tyX3_ok (mw 4 rfl) (mw 5 rfl) (mw 6 rfl) rfl (fun j hj => by rcases (show j = 0 ∨ j = 1 ∨ j = 2 by omega) with rfl | rfl | rfl <;> rfl) (Nat.le_of_ble_eq_true rfl) (Nat.le_of_ble_eq_true rfl) dX11_gateOf_21 (fun q => ?_)
      refine j_dup hC dX11_gateOf_24 rfl ?_
      refine j_iload_n (i := 0) hC dX11_gateOf_25 rfl 0 rfl ?_
      refine j_iload_n (i := 1) hC dX11_gateOf_26 rfl 1 rfl ?_
      refine j_callI_v (As := [.int a0, .int a1]) (rest := [.ref q]) (b := q) hC (cg_Handed3 nw_last) 2 gX11_gateOf_X3_init rfl rfl rfl ⟨(Nat.le_of_ble_eq_true rfl), (Nat.le_of_ble_eq_true rfl)⟩ (mw 6 rfl) (mw 28 rfl) (mw 17 rfl) rfl hgX3 rfl rfl (Nat.le_of_ble_eq_true rfl) ⟨(Nat.le_of_ble_eq_true rfl), (Nat.le_of_ble_eq_true rfl)⟩ dX11_gateOf_27 (fun _ _ => ?_)
      refine j_ws (ws' := wS (va_up ad (73 + z_gn g) q) cy (gnew g 1 a0 a1)) (by first | exact (nw_end).trans (wS_push ad cy g hga q 1 a0 a1) | (rw [nw_end]; exact wS_push ad cy g hga q 1 a0 a1)) ?_
      exact j_qret (v := some q) hC hQ dX11_gateOf_30 (u := (va_up ad (73 + z_gn g) q, gnew g 1 a0 a1)) rfl ⟨by simp [va_up], fun i hi => va_up_o ad q hi, by rw [hk]⟩
    · have hk : kd a0 a1 = 2 := by unfold kd; rw [if_pos h3, if_pos (by rw [← Int32.not_lt]; exact h2_)]
      refine j_new (ci := 10) (C := RX10) (T := TX10) (N := 3) (fs := [.int 0, .int 0, .int 0]) hC (fun w h => List.mem_cons_of_mem _ (List.mem_append_left _ (List.mem_append_left _ (List.mem_append_left _ (List.mem_append_right _ h))))) tyX10 tyX10_ok (mw 1 rfl) (mw 2 rfl) (mw 3 rfl) rfl (fun j hj => by rcases (show j = 0 ∨ j = 1 ∨ j = 2 by omega) with rfl | rfl | rfl <;> rfl) (Nat.le_of_ble_eq_true rfl) (Nat.le_of_ble_eq_true rfl) dX11_gateOf_9 (fun q => ?_)
      refine j_dup hC dX11_gateOf_12 rfl ?_
      refine j_iload_n (i := 0) hC dX11_gateOf_13 rfl 0 rfl ?_
      refine j_iload_n (i := 1) hC dX11_gateOf_14 rfl 1 rfl ?_
      refine j_callI_v (As := [.int a0, .int a1]) (rest := [.ref q]) (b := q) hC (cg_Twin10 nw_last) 2 gX11_gateOf_X10_init rfl rfl rfl ⟨(Nat.le_of_ble_eq_true rfl), (Nat.le_of_ble_eq_true rfl)⟩ (mw 3 rfl) (mw 13 rfl) (mw 14 rfl) rfl hgX10 rfl rfl (Nat.le_of_ble_eq_true rfl) ⟨(Nat.le_of_ble_eq_true rfl), (Nat.le_of_ble_eq_true rfl)⟩ dX11_gateOf_15 (fun _ _ => ?_)
      refine j_ws (ws' := wS (va_up ad (73 + z_gn g) q) cy (gnew g 2 a0 a1)) (by first | exact (nw_end).trans (wS_push ad cy g hga q 2 a0 a1) | (rw [nw_end]; exact wS_push ad cy g hga q 2 a0 a1)) ?_
      refine j_goto (tgt := 30) hC dX11_gateOf_18 (by decide) ?_
      exact j_qret (v := some q) hC hQ dX11_gateOf_30 (u := (va_up ad (73 + z_gn g) q, gnew g 2 a0 a1)) rfl ⟨by simp [va_up], fun i hi => va_up_o ad q hi, by rw [hk]⟩

theorem hd_gateOf : yX11_gateOf.cls ≠ "java/lang/invoke/MethodHandle" ∧ yX11_gateOf.cls ≠ "java/lang/invoke/VarHandle" ∧ (parseMethodDescriptor yX11_gateOf.desc).map (fun d => d.parameters.length) = some 2 := by decide +kernel
abbrev rSG_gate : Room := { frames := 5, cells := 1, slots := 3, locals := 103 }
def vSG_gate (g : GS) (a1 a2 : Int32) (post : Int32 → GS → Prop) : Prop :=
  vSG_within g a1 1 500 (fun r5 g5 => (r5 = (0 : Int32) → post (-1000001 : Int32) g5) ∧ (¬ r5 = (0 : Int32) → vSG_within g5 a2 0 2000 (fun r16 g16 => (¬ r16 = (0 : Int32) → ((z_rsize g16 < (6 : Int32) → ((∀ j k, z_ga g16 j = some k → k < z_gn g16) ∧ (0 : Int32) ≤ a2 ∧ vRow_add (gnew g16 (kd a1 a2) a1 a2) (z_gn g16) post)) ∧ (¬ z_rsize g16 < (6 : Int32) → post (-1000003 : Int32) g16))) ∧ (r16 = (0 : Int32) → post (-1000001 : Int32) g16))))
set_option maxHeartbeats 4000000 in
set_option maxRecDepth 100000 in
theorem j_ws2 {Γ : jG} {D : va_G} {nL cs sl pc : Nat} {ws ws' : va_W} {lv lv' : List (Nat × Value)} {st st' : List Value} (h1 : ws = ws') (h2 : lv = lv') (h3 : st = st') (kk : J Γ D nL cs sl ws' pc lv' st') : J Γ D nL cs sl ws pc lv st := by rw [h1, h2, h3]; exact kk
set_option maxHeartbeats 4000000 in
set_option maxRecDepth 100000 in
theorem cSG_gate {l : Launch} {D : va_G} {ad : Nat → Nat} {cy : Nat → ClassId} {g : GS} {a1 a2 : Int32} {post : Int32 → GS → Prop} (hv : vSG_gate g a1 a2 post) : jMi l yX11_gate wsX11_gate rSG_gate D (tyS cy) [.ref (ad 0), .int a1, .int a2] (wS ad cy g) (fun u : (Nat → Nat) × GS => wS u.1 cy u.2) (fun r u => u.1 0 = ad 0 ∧ post r u.2) 1 3 := by
  refine j_meti (cc := cX11_gate) (nL := 3) (rt := (some .int)) (by decide) (Nat.le_of_ble_eq_true rfl) ?_
  intro Γ hC hQ hmn
  have hC : jC Γ l rSG_gate D 3 RX11 cX11_gate wsX11_gate (tyS cy) := hC
  refine j_lv (lv' := [(0, .ref (ad 0)), (1, .int a1), (2, .int a2)]) [0, 1, 2] rfl ?_
  unfold vSG_gate at hv
  refine j_iload_n (i := 1) hC dX11_gate_0 rfl 1 rfl ?_
  refine j_iconst (v := 1) hC dX11_gate_1 (by decide) ?_
  refine j_sipush (v := 500) hC dX11_gate_2 (by decide) ?_
  refine j_callS_i (As := [.int a1, .int 1, .int 500]) (rest := []) hC (cSG_within hv) 3 gX11_gate_X11_within rfl rfl rfl ⟨(Nat.le_of_ble_eq_true rfl), (Nat.le_of_ble_eq_true rfl)⟩ hdSG_within.2 rfl rfl (Nat.le_of_ble_eq_true rfl) ⟨(Nat.le_of_ble_eq_true rfl), (Nat.le_of_ble_eq_true rfl)⟩ dX11_gate_5 (fun r5 g5 hv => ?_)
  refine j_if_eq (tgt := 22) hC dX11_gate_8 (by decide) (fun h_ => ?_) (fun h_ => ?_)
  · have hv := hv.1 h_
    refine j_ldc (v := -1000001) hC dX11_gate_22 (mw 1 rfl) ?_
    refine j_widen (k := 1) (n := 3) (Nat.le_of_ble_eq_true rfl) (Nat.le_of_ble_eq_true rfl) ?_
    exact j_iret hC hQ dX11_gate_24 (u := (ad, g5)) rfl ⟨rfl, hv⟩
  · have hv := hv.2 h_
    refine j_iload_n (i := 2) hC dX11_gate_11 rfl 2 rfl ?_
    refine j_iconst (v := 0) hC dX11_gate_12 (by decide) ?_
    refine j_sipush (v := 2000) hC dX11_gate_13 (by decide) ?_
    refine j_callS_i (As := [.int a2, .int 0, .int 2000]) (rest := []) hC (cSG_within hv) 3 gX11_gate_X11_within rfl rfl rfl ⟨(Nat.le_of_ble_eq_true rfl), (Nat.le_of_ble_eq_true rfl)⟩ hdSG_within.2 rfl rfl (Nat.le_of_ble_eq_true rfl) ⟨(Nat.le_of_ble_eq_true rfl), (Nat.le_of_ble_eq_true rfl)⟩ dX11_gate_16 (fun r16 g16 hv => ?_)
    refine j_if_ne (tgt := 25) hC dX11_gate_19 (by decide) (fun h_ => ?_) (fun h_ => ?_)
    · have hv := hv.1 h_
      refine j_aload_n (i := 0) hC dX11_gate_25 rfl 0 rfl ?_
      refine j_get (C := RX11) (T := TX11) (N := 8) (v := .ref (ad 16)) hC (fun w h => List.mem_cons_of_mem _ (List.mem_append_left _ (List.mem_append_left _ (List.mem_append_left _ (List.mem_append_left _ (List.mem_append_left _ (List.mem_append_right _ h))))))) 0 (wS_c0 ad cy _) rfl 4 (by decide) (mw 2 rfl) rfl rfl dX11_gate_26 ?_
      refine j_get (C := RX5) (T := TX5) (N := 3) (v := .int (z_rsize g16)) hC (fun w h => List.mem_cons_of_mem _ (List.mem_append_left _ (List.mem_append_left _ (List.mem_append_left _ (List.mem_append_left _ (List.mem_append_right _ h)))))) 16 (wS_c16 ad cy _) rfl 2 (by decide) (mw 3 rfl) rfl rfl dX11_gate_29 ?_
      refine j_bipush (v := 6) hC dX11_gate_32 (by decide) ?_
      refine j_icmp_lt (tgt := 42) hC dX11_gate_34 (by decide) (fun h_ => ?_) (fun h_ => ?_)
      · obtain ⟨hga, ha2, hv⟩ := hv.1 h_
        refine j_aload_n (i := 0) hC dX11_gate_42 rfl 0 rfl ?_
        refine j_get (C := RX11) (T := TX11) (N := 8) (v := .ref (ad 16)) hC (fun w h => List.mem_cons_of_mem _ (List.mem_append_left _ (List.mem_append_left _ (List.mem_append_left _ (List.mem_append_left _ (List.mem_append_left _ (List.mem_append_right _ h))))))) 0 (wS_c0 ad cy _) rfl 4 (by decide) (mw 2 rfl) rfl rfl dX11_gate_43 ?_
        refine j_iload_n (i := 1) hC dX11_gate_46 rfl 1 rfl ?_
        refine j_iload_n (i := 2) hC dX11_gate_47 rfl 2 rfl ?_
        refine j_callS_q (As := [.int a1, .int a2]) (rest := [.ref (ad 16)]) hC (c_gateOf hga ha2) 2 gX11_gate_X11_gateOf rfl rfl rfl ⟨(Nat.le_of_ble_eq_true rfl), (Nat.le_of_ble_eq_true rfl)⟩ hd_gateOf rfl rfl (Nat.le_of_ble_eq_true rfl) ⟨(Nat.le_of_ble_eq_true rfl), (Nat.le_of_ble_eq_true rfl)⟩ dX11_gate_48 (fun r48 u48 hw => ?_)
        obtain ⟨ad', g48⟩ := u48
        obtain ⟨hr, had, hg48⟩ := hw
        have hr : r48 = some (ad' (73 + z_gn g16)) := hr
        have had : ∀ i, i < 73 + z_gn g16 → ad' i = ad i := had
        have hg48 : g48 = gnew g16 (kd a1 a2) a1 a2 := hg48
        subst hg48
        subst hr
        have e0 : ad 0 = ad' 0 := (had 0 (by omega)).symm
        have e16 : ad 16 = ad' 16 := (had 16 (by omega)).symm
        refine j_ws2 (ws' := wS ad' cy (gnew g16 (kd a1 a2) a1 a2)) (lv' := [(0, .ref (ad' 0)), (1, .int a1), (2, .int a2)]) (st' := [.ref (ad' (73 + z_gn g16)), .ref (ad' 16)]) rfl (by rw [e0]) (by rw [e16]; rfl) ?_
        refine j_callV_i (C := RX5) (As := [.ref (ad' (73 + z_gn g16))]) (rest := []) (b := ad' 16) hC (cRow_add hv) 1 gX11_gate_X5_add rfl rfl rfl ⟨(Nat.le_of_ble_eq_true rfl), (Nat.le_of_ble_eq_true rfl)⟩ hdRow_add rfl (wS_c16 ad' cy _) rfl rfl (Nat.le_of_ble_eq_true rfl) ⟨(Nat.le_of_ble_eq_true rfl), (Nat.le_of_ble_eq_true rfl)⟩ dX11_gate_51 (fun r51 g51 hv => ?_)
        exact j_iret hC hQ dX11_gate_54 (u := (ad', g51)) rfl ⟨e0.symm, hv⟩
      · have hv := hv.2 h_
        refine j_ldc (v := -1000003) hC dX11_gate_37 (mw 4 rfl) ?_
        refine j_goto (tgt := 54) hC dX11_gate_39 (by decide) ?_
        refine j_widen (k := 1) (n := 3) (Nat.le_of_ble_eq_true rfl) (Nat.le_of_ble_eq_true rfl) ?_
        exact j_iret hC hQ dX11_gate_54 (u := (ad, g16)) rfl ⟨rfl, hv⟩
    · have hv := hv.2 h_
      refine j_ldc (v := -1000001) hC dX11_gate_22 (mw 1 rfl) ?_
      refine j_widen (k := 1) (n := 3) (Nat.le_of_ble_eq_true rfl) (Nat.le_of_ble_eq_true rfl) ?_
      exact j_iret hC hQ dX11_gate_24 (u := (ad, g16)) rfl ⟨rfl, hv⟩
