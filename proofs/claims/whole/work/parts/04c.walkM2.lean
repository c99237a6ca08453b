theorem hdM_shutAt : yX12_shutAt.cls = RX12 ∧ yX12_shutAt.cls ≠ "java/lang/invoke/MethodHandle" ∧ yX12_shutAt.cls ≠ "java/lang/invoke/VarHandle" ∧ (parseMethodDescriptor yX12_shutAt.desc).map (fun d => d.parameters.length) = some 1 := by decide +kernel
abbrev rM_shutAt : Room := { frames := 3, cells := 0, slots := 0, locals := 74 }
def vM_shutAt_96 (post : Int64 → GM → Prop) (K26 : Int32 → Int64 → Int32 → GM → Prop) (K41 : Int32 → Int64 → Int32 → Int32 → Int32 → GM → Prop) (x1 : Int32) (x2 : Int64) (x4 : Int32) (x6 : Int32) (t0 : Int32) (t1 : Int32) (g : GM) : Prop :=
  (vM_after g t1 t0 x6 (fun r98 g98 => (K41 x1 x2 x4 r98 (x6 + (1 : Int32)) g98)))
def vM_shutAt_73 (post : Int64 → GM → Prop) (K26 : Int32 → Int64 → Int32 → GM → Prop) (K41 : Int32 → Int64 → Int32 → Int32 → Int32 → GM → Prop) (x1 : Int32) (x4 : Int32) (x5 : Int32) (x6 : Int32) (t0 : Int32) (t1 : Int32) (t2 : Int32) (t4 : Int64) (t5 : Int64) (g : GM) : Prop :=
  (vM_lostIn g t2 t1 t0 x6 (fun r75 g75 => ((¬ x6 = x1 → (vM_shutAt_96 post K26 K41 x1 (t5 + (t4 * (r75.toInt64))) x4 x6 (0 : Int32) x5 g75)) ∧ (x6 = x1 → (vM_shutAt_96 post K26 K41 x1 (t5 + (t4 * (r75.toInt64))) x4 x6 (1 : Int32) x5 g75)))))
def vM_shutAt_109 (post : Int64 → GM → Prop) (K26 : Int32 → Int64 → Int32 → GM → Prop) (x1 : Int32) (x2 : Int64) (x4 : Int32) (g : GM) : Prop :=
  (K26 x1 x2 (x4 + (1 : Int32)) g)
def vM_shutAt_41 (post : Int64 → GM → Prop) (K26 : Int32 → Int64 → Int32 → GM → Prop) : Nat → Int32 → Int64 → Int32 → Int32 → Int32 → GM → Prop
  | 0, _, _, _, _, _, _ => False
  | k_ + 1, x1, x2, x4, x5, x6, g =>
  (((8 : Int32) ≤ x6 → (vM_shutAt_109 post K26 x1 x2 x4 g)) ∧ (¬ (8 : Int32) ≤ x6 → (vp_in x4 8 ∧ ((¬ x6 = x1 → (vM_shutAt_73 post K26 (fun x1 x2 x4 x5 x6 g => vM_shutAt_41 post K26 k_ x1 x2 x4 x5 x6 g) x1 x4 x5 x6 (0 : Int32) x5 x4 (((m_weight g) x4.toNatClampNeg).toInt64) x2 g)) ∧ (x6 = x1 → (vM_shutAt_73 post K26 (fun x1 x2 x4 x5 x6 g => vM_shutAt_41 post K26 k_ x1 x2 x4 x5 x6 g) x1 x4 x5 x6 (1 : Int32) x5 x4 (((m_weight g) x4.toNatClampNeg).toInt64) x2 g))))))
def vM_shutAt_26 (post : Int64 → GM → Prop) : Nat → Int32 → Int64 → Int32 → GM → Prop
  | 0, _, _, _, _ => False
  | k_ + 1, x1, x2, x4, g =>
  (((m_worlds g) ≤ x4 → post x2 g) ∧ (¬ (m_worlds g) ≤ x4 → (∃ n_ : Nat, vM_shutAt_41 post (fun x1 x2 x4 g => vM_shutAt_26 post k_ x1 x2 x4 g) n_ x1 x2 x4 (0 : Int32) (0 : Int32) g)))
def vM_shutAt (g : GM) (a1 : Int32) (post : Int64 → GM → Prop) : Prop :=
  (vM_in (sm_thrown g (0 : Int32)) (a1.toInt64) (0 : Int64) (8 : Int64) (fun r11 g11 => ((¬ r11 = (0 : Int32) → (∃ n_ : Nat, vM_shutAt_26 post n_ a1 (0 : Int64) (0 : Int32) g11)) ∧ (r11 = (0 : Int32) → post (-1000001 : Int64) g11))))
set_option maxHeartbeats 4000000 in
set_option maxRecDepth 100000 in
theorem lM_shutAt_96 {Γ : jG} {l : Launch} {D : va_G} {ad : Nat → Nat} {cy : Nat → ClassId} {post : Int64 → GM → Prop} (hC : jC Γ l rM_shutAt D 7 RX12 cX12_shutAt wsX12_shutAt (tyM cy)) (hQ : jQl Γ D (wM ad cy) post (some .long) 0 0) {K26 : Int32 → Int64 → Int32 → GM → Prop} (hK26 : ∀ (x1 : Int32) (x2 : Int64) (x4 : Int32) (g : GM), K26 x1 x2 x4 g → J Γ D 7 0 0 (wM ad cy g) 26 [(0, .ref (ad 0)), (1, .int x1), (2, .long x2), (4, .int x4)] []) {K41 : Int32 → Int64 → Int32 → Int32 → Int32 → GM → Prop} (hK41 : ∀ (x1 : Int32) (x2 : Int64) (x4 : Int32) (x5 : Int32) (x6 : Int32) (g : GM), K41 x1 x2 x4 x5 x6 g → J Γ D 7 0 0 (wM ad cy g) 41 [(0, .ref (ad 0)), (1, .int x1), (2, .long x2), (4, .int x4), (5, .int x5), (6, .int x6)] []) : ∀ (x1 : Int32) (x2 : Int64) (x4 : Int32) (x6 : Int32) (t0 : Int32) (t1 : Int32) (g : GM), vM_shutAt_96 post K26 K41 x1 x2 x4 x6 t0 t1 g → J Γ D 7 0 0 (wM ad cy g) 96 [(0, .ref (ad 0)), (1, .int x1), (2, .long x2), (4, .int x4), (6, .int x6)] [.int t0, .int t1, .ref (ad 0)] := by
  have hinX12 : ∀ w ∈ wsX120, w ∈ wsX12_shutAt := fun w h => List.mem_cons_of_mem _ (List.mem_append_right _ h)
  intro x1 x2 x4 x6 t0 t1 g hv
  unfold vM_shutAt_96 at hv
  refine j_iload hC dX12_shutAt_96 4 rfl ?_
  refine j_callV_i (C := RX12) (As := [.int t1, .int t0, .int x6]) (rest := []) (b := (ad 0)) hC (cM_after hv) 3 gX12_shutAt_X12_after rfl rfl rfl ⟨Nat.le_of_ble_eq_true rfl, Nat.le_of_ble_eq_true rfl⟩ hdM_after rfl (wM_c0 ad cy _) rfl rfl (Nat.le_of_ble_eq_true rfl) ⟨Nat.zero_le _, Nat.zero_le _⟩ dX12_shutAt_98 (fun r98 g98 hv => ?_)
  refine j_istore (lv' := [(5, .int r98), (0, .ref (ad 0)), (1, .int x1), (2, .long x2), (4, .int x4), (6, .int x6)]) hC dX12_shutAt_101 (by decide) rfl ?_
  refine j_iinc (k := 5) (v := (x6 + (1 : Int32))) (lv' := [(6, .int (x6 + (1 : Int32))), (5, .int r98), (0, .ref (ad 0)), (1, .int x1), (2, .long x2), (4, .int x4)]) hC dX12_shutAt_103 rfl rfl (by decide) rfl ?_
  refine j_goto (tgt := 41) hC dX12_shutAt_106 (by decide) ?_
  exact j_lv [2, 3, 4, 5, 1, 0] rfl (hK41 _ _ _ _ _ _ hv)
set_option maxHeartbeats 4000000 in
set_option maxRecDepth 100000 in
theorem lM_shutAt_73 {Γ : jG} {l : Launch} {D : va_G} {ad : Nat → Nat} {cy : Nat → ClassId} {post : Int64 → GM → Prop} (hC : jC Γ l rM_shutAt D 7 RX12 cX12_shutAt wsX12_shutAt (tyM cy)) (hQ : jQl Γ D (wM ad cy) post (some .long) 0 0) {K26 : Int32 → Int64 → Int32 → GM → Prop} (hK26 : ∀ (x1 : Int32) (x2 : Int64) (x4 : Int32) (g : GM), K26 x1 x2 x4 g → J Γ D 7 0 0 (wM ad cy g) 26 [(0, .ref (ad 0)), (1, .int x1), (2, .long x2), (4, .int x4)] []) {K41 : Int32 → Int64 → Int32 → Int32 → Int32 → GM → Prop} (hK41 : ∀ (x1 : Int32) (x2 : Int64) (x4 : Int32) (x5 : Int32) (x6 : Int32) (g : GM), K41 x1 x2 x4 x5 x6 g → J Γ D 7 0 0 (wM ad cy g) 41 [(0, .ref (ad 0)), (1, .int x1), (2, .long x2), (4, .int x4), (5, .int x5), (6, .int x6)] []) : ∀ (x1 : Int32) (x4 : Int32) (x5 : Int32) (x6 : Int32) (t0 : Int32) (t1 : Int32) (t2 : Int32) (t4 : Int64) (t5 : Int64) (g : GM), vM_shutAt_73 post K26 K41 x1 x4 x5 x6 t0 t1 t2 t4 t5 g → J Γ D 7 0 0 (wM ad cy g) 73 [(0, .ref (ad 0)), (1, .int x1), (4, .int x4), (5, .int x5), (6, .int x6)] [.int t0, .int t1, .int t2, .ref (ad 0), .long t4, .long t5] := by
  have hinX12 : ∀ w ∈ wsX120, w ∈ wsX12_shutAt := fun w h => List.mem_cons_of_mem _ (List.mem_append_right _ h)
  intro x1 x4 x5 x6 t0 t1 t2 t4 t5 g hv
  unfold vM_shutAt_73 at hv
  refine j_iload hC dX12_shutAt_73 4 rfl ?_
  refine j_callV_i (C := RX12) (As := [.int t2, .int t1, .int t0, .int x6]) (rest := [.long t4, .long t5]) (b := (ad 0)) hC (cM_lostIn hv) 4 gX12_shutAt_X12_lostIn rfl rfl rfl ⟨Nat.le_of_ble_eq_true rfl, Nat.le_of_ble_eq_true rfl⟩ hdM_lostIn rfl (wM_c0 ad cy _) rfl rfl (Nat.le_of_ble_eq_true rfl) ⟨Nat.zero_le _, Nat.zero_le _⟩ dX12_shutAt_75 (fun r75 g75 hv => ?_)
  refine j_i2l hC dX12_shutAt_78 ?_
  refine j_lmul hC dX12_shutAt_79 ?_
  refine j_ladd hC dX12_shutAt_80 ?_
  refine j_lstore_n (i := 2) (lv' := [(2, .long (t5 + (t4 * (r75.toInt64)))), (0, .ref (ad 0)), (1, .int x1), (4, .int x4), (5, .int x5), (6, .int x6)]) hC dX12_shutAt_81 rfl (by decide) rfl ?_
  refine j_aload_n (i := 0) hC dX12_shutAt_82 rfl 1 rfl ?_
  refine j_iload hC dX12_shutAt_83 4 rfl ?_
  refine j_iload hC dX12_shutAt_85 5 rfl ?_
  refine j_iload_n (i := 1) hC dX12_shutAt_87 rfl 2 rfl ?_
  refine j_icmp_ne (tgt := 95) hC dX12_shutAt_88 (by decide) (fun h_ => ?_) (fun h_ => ?_)
  · have hv := hv.1 h_
    refine j_iconst (v := 0) hC dX12_shutAt_95 (by decide) ?_
    exact j_lv [1, 2, 0, 3, 5] rfl (lM_shutAt_96 hC hQ hK26 hK41 _ _ _ _ _ _ _ hv)
  · have hv := hv.2 h_
    refine j_iconst (v := 1) hC dX12_shutAt_91 (by decide) ?_
    refine j_goto (tgt := 96) hC dX12_shutAt_92 (by decide) ?_
    exact j_lv [1, 2, 0, 3, 5] rfl (lM_shutAt_96 hC hQ hK26 hK41 _ _ _ _ _ _ _ hv)
set_option maxHeartbeats 4000000 in
set_option maxRecDepth 100000 in
theorem lM_shutAt_109 {Γ : jG} {l : Launch} {D : va_G} {ad : Nat → Nat} {cy : Nat → ClassId} {post : Int64 → GM → Prop} (hC : jC Γ l rM_shutAt D 7 RX12 cX12_shutAt wsX12_shutAt (tyM cy)) (hQ : jQl Γ D (wM ad cy) post (some .long) 0 0) {K26 : Int32 → Int64 → Int32 → GM → Prop} (hK26 : ∀ (x1 : Int32) (x2 : Int64) (x4 : Int32) (g : GM), K26 x1 x2 x4 g → J Γ D 7 0 0 (wM ad cy g) 26 [(0, .ref (ad 0)), (1, .int x1), (2, .long x2), (4, .int x4)] []) : ∀ (x1 : Int32) (x2 : Int64) (x4 : Int32) (g : GM), vM_shutAt_109 post K26 x1 x2 x4 g → J Γ D 7 0 0 (wM ad cy g) 109 [(0, .ref (ad 0)), (1, .int x1), (2, .long x2), (4, .int x4)] [] := by
  have hinX12 : ∀ w ∈ wsX120, w ∈ wsX12_shutAt := fun w h => List.mem_cons_of_mem _ (List.mem_append_right _ h)
  intro x1 x2 x4 g hv
  unfold vM_shutAt_109 at hv
  refine j_iinc (k := 3) (v := (x4 + (1 : Int32))) (lv' := [(4, .int (x4 + (1 : Int32))), (0, .ref (ad 0)), (1, .int x1), (2, .long x2)]) hC dX12_shutAt_109 rfl rfl (by decide) rfl ?_
  refine j_goto (tgt := 26) hC dX12_shutAt_112 (by decide) ?_
  exact j_lv [1, 2, 3, 0] rfl (hK26 _ _ _ _ hv)
set_option maxHeartbeats 4000000 in
set_option maxRecDepth 100000 in
theorem lM_shutAt_41 {Γ : jG} {l : Launch} {D : va_G} {ad : Nat → Nat} {cy : Nat → ClassId} {post : Int64 → GM → Prop} (hC : jC Γ l rM_shutAt D 7 RX12 cX12_shutAt wsX12_shutAt (tyM cy)) (hQ : jQl Γ D (wM ad cy) post (some .long) 0 0) {K26 : Int32 → Int64 → Int32 → GM → Prop} (hK26 : ∀ (x1 : Int32) (x2 : Int64) (x4 : Int32) (g : GM), K26 x1 x2 x4 g → J Γ D 7 0 0 (wM ad cy g) 26 [(0, .ref (ad 0)), (1, .int x1), (2, .long x2), (4, .int x4)] []) : ∀ (n_ : Nat) (x1 : Int32) (x2 : Int64) (x4 : Int32) (x5 : Int32) (x6 : Int32) (g : GM), vM_shutAt_41 post K26 n_ x1 x2 x4 x5 x6 g → J Γ D 7 0 0 (wM ad cy g) 41 [(0, .ref (ad 0)), (1, .int x1), (2, .long x2), (4, .int x4), (5, .int x5), (6, .int x6)] [] := by
  have hinX12 : ∀ w ∈ wsX120, w ∈ wsX12_shutAt := fun w h => List.mem_cons_of_mem _ (List.mem_append_right _ h)
  intro n_
  induction n_ with
  | zero => intro x1 x2 x4 x5 x6 g hv; exact False.elim hv
  | succ k_ ih =>
    intro x1 x2 x4 x5 x6 g hv
    unfold vM_shutAt_41 at hv
    refine j_iload hC dX12_shutAt_41 5 rfl ?_
    refine j_bipush (v := 8) hC dX12_shutAt_43 (by decide) ?_
    refine j_icmp_ge (tgt := 109) hC dX12_shutAt_45 (by decide) (fun h_ => ?_) (fun h_ => ?_)
    · have hv := hv.1 h_
      exact j_lv [0, 1, 2, 3] rfl (lM_shutAt_109 hC hQ hK26 _ _ _ _ hv)
    · have hv := hv.2 h_
      refine j_lload_n (i := 2) hC dX12_shutAt_48 rfl 2 rfl ?_
      refine j_aload_n (i := 0) hC dX12_shutAt_49 rfl 0 rfl ?_
      refine j_get (C := RX12) (T := TX12) (N := 22) (v := .ref (ad 6)) hC hinX12 0 (wM_c0 ad cy _) rfl 8 (by decide) (mw 5 rfl) rfl rfl dX12_shutAt_50 ?_
      refine j_iload hC dX12_shutAt_53 3 rfl ?_
      have hb55 := hv.1
      have hv := hv.2
      refine j_iald (v := ((m_weight g) x4.toNatClampNeg)) hC 6 0 (wM_c6 ad cy _) rfl hb55 rfl dX12_shutAt_55 ?_
      refine j_i2l hC dX12_shutAt_56 ?_
      refine j_aload_n (i := 0) hC dX12_shutAt_57 rfl 0 rfl ?_
      refine j_iload hC dX12_shutAt_58 3 rfl ?_
      refine j_iload hC dX12_shutAt_60 4 rfl ?_
      refine j_iload hC dX12_shutAt_62 5 rfl ?_
      refine j_iload_n (i := 1) hC dX12_shutAt_64 rfl 1 rfl ?_
      refine j_icmp_ne (tgt := 72) hC dX12_shutAt_65 (by decide) (fun h_ => ?_) (fun h_ => ?_)
      · have hv := hv.1 h_
        refine j_iconst (v := 0) hC dX12_shutAt_72 (by decide) ?_
        exact j_lv [0, 1, 3, 4, 5] rfl (lM_shutAt_73 hC hQ hK26 (K41 := fun x1 x2 x4 x5 x6 g => vM_shutAt_41 post K26 k_ x1 x2 x4 x5 x6 g) (fun _ _ _ _ _ _ h_ => ih _ _ _ _ _ _ h_) _ _ _ _ _ _ _ _ _ _ hv)
      · have hv := hv.2 h_
        refine j_iconst (v := 1) hC dX12_shutAt_68 (by decide) ?_
        refine j_goto (tgt := 73) hC dX12_shutAt_69 (by decide) ?_
        exact j_lv [0, 1, 3, 4, 5] rfl (lM_shutAt_73 hC hQ hK26 (K41 := fun x1 x2 x4 x5 x6 g => vM_shutAt_41 post K26 k_ x1 x2 x4 x5 x6 g) (fun _ _ _ _ _ _ h_ => ih _ _ _ _ _ _ h_) _ _ _ _ _ _ _ _ _ _ hv)
set_option maxHeartbeats 4000000 in
set_option maxRecDepth 100000 in
theorem lM_shutAt_26 {Γ : jG} {l : Launch} {D : va_G} {ad : Nat → Nat} {cy : Nat → ClassId} {post : Int64 → GM → Prop} (hC : jC Γ l rM_shutAt D 7 RX12 cX12_shutAt wsX12_shutAt (tyM cy)) (hQ : jQl Γ D (wM ad cy) post (some .long) 0 0) : ∀ (n_ : Nat) (x1 : Int32) (x2 : Int64) (x4 : Int32) (g : GM), vM_shutAt_26 post n_ x1 x2 x4 g → J Γ D 7 0 0 (wM ad cy g) 26 [(0, .ref (ad 0)), (1, .int x1), (2, .long x2), (4, .int x4)] [] := by
  have hinX12 : ∀ w ∈ wsX120, w ∈ wsX12_shutAt := fun w h => List.mem_cons_of_mem _ (List.mem_append_right _ h)
  intro n_
  induction n_ with
  | zero => intro x1 x2 x4 g hv; exact False.elim hv
  | succ k_ ih =>
    intro x1 x2 x4 g hv
    unfold vM_shutAt_26 at hv
    refine j_iload hC dX12_shutAt_26 3 rfl ?_
    refine j_aload_n (i := 0) hC dX12_shutAt_28 rfl 0 rfl ?_
    refine j_get (C := RX12) (T := TX12) (N := 22) (v := .int (m_worlds g)) hC hinX12 0 (wM_c0 ad cy _) rfl 7 (by decide) (mw 4 rfl) rfl rfl dX12_shutAt_29 ?_
    refine j_icmp_ge (tgt := 115) hC dX12_shutAt_32 (by decide) (fun h_ => ?_) (fun h_ => ?_)
    · have hv := hv.1 h_
      refine j_lload_n (i := 2) hC dX12_shutAt_115 rfl 2 rfl ?_
      exact j_lret hC hQ dX12_shutAt_116 rfl hv
    · have hv := hv.2 h_
      refine j_iconst (v := 0) hC dX12_shutAt_35 (by decide) ?_
      refine j_istore (lv' := [(5, .int (0 : Int32)), (0, .ref (ad 0)), (1, .int x1), (2, .long x2), (4, .int x4)]) hC dX12_shutAt_36 (by decide) rfl ?_
      refine j_iconst (v := 0) hC dX12_shutAt_38 (by decide) ?_
      refine j_istore (lv' := [(6, .int (0 : Int32)), (5, .int (0 : Int32)), (0, .ref (ad 0)), (1, .int x1), (2, .long x2), (4, .int x4)]) hC dX12_shutAt_39 (by decide) rfl ?_
      obtain ⟨n_, hv⟩ := hv
      exact j_lv [2, 3, 4, 5, 1, 0] rfl (lM_shutAt_41 hC hQ (K26 := fun x1 x2 x4 g => vM_shutAt_26 post k_ x1 x2 x4 g) (fun _ _ _ _ h_ => ih _ _ _ _ h_) n_ _ _ _ _ _ _ hv)
set_option maxHeartbeats 4000000 in
set_option maxRecDepth 100000 in
theorem cM_shutAt {l : Launch} {D : va_G} {ad : Nat → Nat} {cy : Nat → ClassId} {g : GM} {a1 : Int32} {post : Int64 → GM → Prop} (hv : vM_shutAt g a1 post) : jMl l yX12_shutAt wsX12_shutAt rM_shutAt D (tyM cy) [.ref (ad 0), .int a1] (wM ad cy g) (wM ad cy) post 0 0 := by
  refine j_metl (cc := cX12_shutAt) (nL := 7) (rt := (some .long)) (by decide) (Nat.le_of_ble_eq_true rfl) ?_
  intro Γ hC hQ _
  have hC : jC Γ l rM_shutAt D 7 RX12 cX12_shutAt wsX12_shutAt (tyM cy) := hC
  have hinX12 : ∀ w ∈ wsX120, w ∈ wsX12_shutAt := fun w h => List.mem_cons_of_mem _ (List.mem_append_right _ h)
  refine j_lv (lv' := [(0, .ref (ad 0)), (1, .int a1)]) [0, 1] rfl ?_
  unfold vM_shutAt at hv
  refine j_aload_n (i := 0) hC dX12_shutAt_0 rfl 0 rfl ?_
  refine j_iconst (v := 0) hC dX12_shutAt_1 (by decide) ?_
  refine j_put (C := RX12) (T := TX12) (N := 22) (ty := .int) hC hinX12 tyX12 tyX12_ok nmX12 0 (wM_c0 ad cy _) rfl 0 (by decide) (mw 1 rfl) rfl rfl fdX12_0 rfl rfl (Nat.le_of_ble_eq_true rfl) (wM_p_thrown ad cy _ _) dX12_shutAt_2 ?_
  refine j_iload_n (i := 1) hC dX12_shutAt_5 rfl 1 rfl ?_
  refine j_i2l hC dX12_shutAt_6 ?_
  refine j_lconst (v := 0) hC dX12_shutAt_7 (by decide) ?_
  refine j_ldc2 (v := 8) hC dX12_shutAt_8 (mw 2 rfl) ?_
  refine j_callS_i (As := [.long (a1.toInt64), .long (0 : Int64), .long (8 : Int64)]) (rest := []) hC (cM_in hv) 3 gX12_shutAt_X12_in rfl rfl rfl ⟨Nat.le_of_ble_eq_true rfl, Nat.le_of_ble_eq_true rfl⟩ hdM_in.2 rfl rfl (Nat.le_of_ble_eq_true rfl) ⟨Nat.zero_le _, Nat.zero_le _⟩ dX12_shutAt_11 (fun r11 g11 hv => ?_)
  refine j_if_ne (tgt := 21) hC dX12_shutAt_14 (by decide) (fun h_ => ?_) (fun h_ => ?_)
  · have hv := hv.1 h_
    refine j_lconst (v := 0) hC dX12_shutAt_21 (by decide) ?_
    refine j_lstore_n (i := 2) (lv' := [(2, .long (0 : Int64)), (0, .ref (ad 0)), (1, .int a1)]) hC dX12_shutAt_22 rfl (by decide) rfl ?_
    refine j_iconst (v := 0) hC dX12_shutAt_23 (by decide) ?_
    refine j_istore (lv' := [(4, .int (0 : Int32)), (2, .long (0 : Int64)), (0, .ref (ad 0)), (1, .int a1)]) hC dX12_shutAt_24 (by decide) rfl ?_
    obtain ⟨n_, hv⟩ := hv
    exact j_lv [2, 3, 1, 0] rfl (lM_shutAt_26 hC hQ n_ _ _ _ _ hv)
  · have hv := hv.2 h_
    refine j_ldc2 (v := -1000001) hC dX12_shutAt_17 (mw 3 rfl) ?_
    exact j_lret hC hQ dX12_shutAt_20 rfl hv
theorem hdM_alarm : yX12_alarm.cls = RX12 ∧ yX12_alarm.cls ≠ "java/lang/invoke/MethodHandle" ∧ yX12_alarm.cls ≠ "java/lang/invoke/VarHandle" ∧ (parseMethodDescriptor yX12_alarm.desc).map (fun d => d.parameters.length) = some 0 := by decide +kernel
abbrev rM_alarm : Room := { frames := 0, cells := 0, slots := 0, locals := 0 }
def vM_alarm_52 (post : Int32 → GM → Prop) (K10 : Int32 → Int32 → GM → Prop) (x2 : Int32) (t0 : Int32) (g : GM) : Prop :=
  (K10 t0 (x2 + (1 : Int32)) g)
def vM_alarm_51 (post : Int32 → GM → Prop) (K10 : Int32 → Int32 → GM → Prop) (x1 : Int32) (x2 : Int32) (g : GM) : Prop :=
  (vM_alarm_52 post K10 x2 x1 g)
def vM_alarm_59 (post : Int32 → GM → Prop) (x1 : Int32) (g : GM) : Prop :=
  ((¬ x1 = (8 : Int32) → ((((m_rule g) 0) ≤ x1 → post (x1 - ((m_rule g) 0)) g) ∧ (¬ ((m_rule g) 0) ≤ x1 → post (-1000000 : Int32) g))) ∧ (x1 = (8 : Int32) → post (8 : Int32) g))
def vM_alarm_10 (post : Int32 → GM → Prop) : Nat → Int32 → Int32 → GM → Prop
  | 0, _, _, _ => False
  | k_ + 1, x1, x2, g =>
  ((((8 : Int32) * (m_worlds g)) ≤ x2 → (vM_alarm_59 post x1 g)) ∧ (¬ ((8 : Int32) * (m_worlds g)) ≤ x2 → (vp_in x2 64 ∧ ((((m_sea g) x2.toNatClampNeg) ≤ ((m_rule g) 2) → (vM_alarm_51 post (fun x1 x2 g => vM_alarm_10 post k_ x1 x2 g) x1 x2 g)) ∧ (¬ ((m_sea g) x2.toNatClampNeg) ≤ ((m_rule g) 2) → ((x1 ≤ (x2 - x2 / (8 : Int32) * (8 : Int32)) → (vM_alarm_51 post (fun x1 x2 g => vM_alarm_10 post k_ x1 x2 g) x1 x2 g)) ∧ (¬ x1 ≤ (x2 - x2 / (8 : Int32) * (8 : Int32)) → (vM_alarm_52 post (fun x1 x2 g => vM_alarm_10 post k_ x1 x2 g) x2 (x2 - x2 / (8 : Int32) * (8 : Int32)) g))))))))
def vM_alarm (g : GM) (post : Int32 → GM → Prop) : Prop :=
  (∃ n_ : Nat, vM_alarm_10 post n_ (8 : Int32) (0 : Int32) (sm_thrown g (0 : Int32)))
set_option maxHeartbeats 4000000 in
set_option maxRecDepth 100000 in
theorem lM_alarm_52 {Γ : jG} {l : Launch} {D : va_G} {ad : Nat → Nat} {cy : Nat → ClassId} {post : Int32 → GM → Prop} (hC : jC Γ l rM_alarm D 3 RX12 cX12_alarm wsX12_alarm (tyM cy)) (hQ : jQi Γ D (wM ad cy) post (some .int) 0 0) {K10 : Int32 → Int32 → GM → Prop} (hK10 : ∀ (x1 : Int32) (x2 : Int32) (g : GM), K10 x1 x2 g → J Γ D 3 0 0 (wM ad cy g) 10 [(0, .ref (ad 0)), (1, .int x1), (2, .int x2)] []) : ∀ (x2 : Int32) (t0 : Int32) (g : GM), vM_alarm_52 post K10 x2 t0 g → J Γ D 3 0 0 (wM ad cy g) 52 [(0, .ref (ad 0)), (2, .int x2)] [.int t0] := by
  have hinX12 : ∀ w ∈ wsX120, w ∈ wsX12_alarm := fun w h => List.mem_cons_of_mem _ (List.mem_append_right _ h)
  intro x2 t0 g hv
  unfold vM_alarm_52 at hv
  refine j_istore_n (i := 1) (lv' := [(1, .int t0), (0, .ref (ad 0)), (2, .int x2)]) hC dX12_alarm_52 rfl (by decide) rfl ?_
  refine j_iinc (k := 2) (v := (x2 + (1 : Int32))) (lv' := [(2, .int (x2 + (1 : Int32))), (1, .int t0), (0, .ref (ad 0))]) hC dX12_alarm_53 rfl rfl (by decide) rfl ?_
  refine j_goto (tgt := 10) hC dX12_alarm_56 (by decide) ?_
  exact j_lv [2, 1, 0] rfl (hK10 _ _ _ hv)
set_option maxHeartbeats 4000000 in
set_option maxRecDepth 100000 in
theorem lM_alarm_51 {Γ : jG} {l : Launch} {D : va_G} {ad : Nat → Nat} {cy : Nat → ClassId} {post : Int32 → GM → Prop} (hC : jC Γ l rM_alarm D 3 RX12 cX12_alarm wsX12_alarm (tyM cy)) (hQ : jQi Γ D (wM ad cy) post (some .int) 0 0) {K10 : Int32 → Int32 → GM → Prop} (hK10 : ∀ (x1 : Int32) (x2 : Int32) (g : GM), K10 x1 x2 g → J Γ D 3 0 0 (wM ad cy g) 10 [(0, .ref (ad 0)), (1, .int x1), (2, .int x2)] []) : ∀ (x1 : Int32) (x2 : Int32) (g : GM), vM_alarm_51 post K10 x1 x2 g → J Γ D 3 0 0 (wM ad cy g) 51 [(0, .ref (ad 0)), (1, .int x1), (2, .int x2)] [] := by
  have hinX12 : ∀ w ∈ wsX120, w ∈ wsX12_alarm := fun w h => List.mem_cons_of_mem _ (List.mem_append_right _ h)
  intro x1 x2 g hv
  unfold vM_alarm_51 at hv
  refine j_iload_n (i := 1) hC dX12_alarm_51 rfl 1 rfl ?_
  exact j_lv [0, 2] rfl (lM_alarm_52 hC hQ hK10 _ _ _ hv)
set_option maxHeartbeats 4000000 in
set_option maxRecDepth 100000 in
theorem lM_alarm_59 {Γ : jG} {l : Launch} {D : va_G} {ad : Nat → Nat} {cy : Nat → ClassId} {post : Int32 → GM → Prop} (hC : jC Γ l rM_alarm D 3 RX12 cX12_alarm wsX12_alarm (tyM cy)) (hQ : jQi Γ D (wM ad cy) post (some .int) 0 0) : ∀ (x1 : Int32) (g : GM), vM_alarm_59 post x1 g → J Γ D 3 0 0 (wM ad cy g) 59 [(0, .ref (ad 0)), (1, .int x1)] [] := by
  have hinX12 : ∀ w ∈ wsX120, w ∈ wsX12_alarm := fun w h => List.mem_cons_of_mem _ (List.mem_append_right _ h)
  intro x1 g hv
  unfold vM_alarm_59 at hv
  refine j_iload_n (i := 1) hC dX12_alarm_59 rfl 1 rfl ?_
  refine j_bipush (v := 8) hC dX12_alarm_60 (by decide) ?_
  refine j_icmp_ne (tgt := 70) hC dX12_alarm_62 (by decide) (fun h_ => ?_) (fun h_ => ?_)
  · have hv := hv.1 h_
    refine j_iload_n (i := 1) hC dX12_alarm_70 rfl 1 rfl ?_
    refine j_aload_n (i := 0) hC dX12_alarm_71 rfl 0 rfl ?_
    refine j_get (C := RX12) (T := TX12) (N := 22) (v := .ref (ad 1)) hC hinX12 0 (wM_c0 ad cy _) rfl 2 (by decide) (mw 4 rfl) rfl rfl dX12_alarm_72 ?_
    refine j_iconst (v := 0) hC dX12_alarm_75 (by decide) ?_
    refine j_iald (v := ((m_rule g) 0)) hC 1 0 (wM_c1 ad cy _) rfl (jin_lit (by decide)) rfl dX12_alarm_76 ?_
    refine j_icmp_ge (tgt := 85) hC dX12_alarm_77 (by decide) (fun h_ => ?_) (fun h_ => ?_)
    · have hv := hv.1 h_
      refine j_iload_n (i := 1) hC dX12_alarm_85 rfl 1 rfl ?_
      refine j_aload_n (i := 0) hC dX12_alarm_86 rfl 0 rfl ?_
      refine j_get (C := RX12) (T := TX12) (N := 22) (v := .ref (ad 1)) hC hinX12 0 (wM_c0 ad cy _) rfl 2 (by decide) (mw 4 rfl) rfl rfl dX12_alarm_87 ?_
      refine j_iconst (v := 0) hC dX12_alarm_90 (by decide) ?_
      refine j_iald (v := ((m_rule g) 0)) hC 1 0 (wM_c1 ad cy _) rfl (jin_lit (by decide)) rfl dX12_alarm_91 ?_
      refine j_isub hC dX12_alarm_92 ?_
      exact j_iret hC hQ dX12_alarm_93 rfl hv
    · have hv := hv.2 h_
      refine j_ldc (v := -1000000) hC dX12_alarm_80 (mw 5 rfl) ?_
      refine j_goto (tgt := 93) hC dX12_alarm_82 (by decide) ?_
      exact j_iret hC hQ dX12_alarm_93 rfl hv
  · have hv := hv.2 h_
    refine j_bipush (v := 8) hC dX12_alarm_65 (by decide) ?_
    refine j_goto (tgt := 93) hC dX12_alarm_67 (by decide) ?_
    exact j_iret hC hQ dX12_alarm_93 rfl hv
set_option maxHeartbeats 4000000 in
set_option maxRecDepth 100000 in
theorem lM_alarm_10 {Γ : jG} {l : Launch} {D : va_G} {ad : Nat → Nat} {cy : Nat → ClassId} {post : Int32 → GM → Prop} (hC : jC Γ l rM_alarm D 3 RX12 cX12_alarm wsX12_alarm (tyM cy)) (hQ : jQi Γ D (wM ad cy) post (some .int) 0 0) : ∀ (n_ : Nat) (x1 : Int32) (x2 : Int32) (g : GM), vM_alarm_10 post n_ x1 x2 g → J Γ D 3 0 0 (wM ad cy g) 10 [(0, .ref (ad 0)), (1, .int x1), (2, .int x2)] [] := by
  have hinX12 : ∀ w ∈ wsX120, w ∈ wsX12_alarm := fun w h => List.mem_cons_of_mem _ (List.mem_append_right _ h)
  intro n_
  induction n_ with
  | zero => intro x1 x2 g hv; exact False.elim hv
  | succ k_ ih =>
    intro x1 x2 g hv
    unfold vM_alarm_10 at hv
    refine j_iload_n (i := 2) hC dX12_alarm_10 rfl 2 rfl ?_
    refine j_bipush (v := 8) hC dX12_alarm_11 (by decide) ?_
    refine j_aload_n (i := 0) hC dX12_alarm_13 rfl 0 rfl ?_
    refine j_get (C := RX12) (T := TX12) (N := 22) (v := .int (m_worlds g)) hC hinX12 0 (wM_c0 ad cy _) rfl 7 (by decide) (mw 2 rfl) rfl rfl dX12_alarm_14 ?_
    refine j_imul hC dX12_alarm_17 ?_
    refine j_icmp_ge (tgt := 59) hC dX12_alarm_18 (by decide) (fun h_ => ?_) (fun h_ => ?_)
    · have hv := hv.1 h_
      exact j_lv [0, 1] rfl (lM_alarm_59 hC hQ _ _ hv)
    · have hv := hv.2 h_
      refine j_aload_n (i := 0) hC dX12_alarm_21 rfl 0 rfl ?_
      refine j_get (C := RX12) (T := TX12) (N := 22) (v := .ref (ad 7)) hC hinX12 0 (wM_c0 ad cy _) rfl 9 (by decide) (mw 3 rfl) rfl rfl dX12_alarm_22 ?_
      refine j_iload_n (i := 2) hC dX12_alarm_25 rfl 2 rfl ?_
      have hb26 := hv.1
      have hv := hv.2
      refine j_iald (v := ((m_sea g) x2.toNatClampNeg)) hC 7 0 (wM_c7 ad cy _) rfl hb26 rfl dX12_alarm_26 ?_
      refine j_aload_n (i := 0) hC dX12_alarm_27 rfl 0 rfl ?_
      refine j_get (C := RX12) (T := TX12) (N := 22) (v := .ref (ad 1)) hC hinX12 0 (wM_c0 ad cy _) rfl 2 (by decide) (mw 4 rfl) rfl rfl dX12_alarm_28 ?_
      refine j_iconst (v := 2) hC dX12_alarm_31 (by decide) ?_
      refine j_iald (v := ((m_rule g) 2)) hC 1 0 (wM_c1 ad cy _) rfl (jin_lit (by decide)) rfl dX12_alarm_32 ?_
      refine j_icmp_le (tgt := 51) hC dX12_alarm_33 (by decide) (fun h_ => ?_) (fun h_ => ?_)
      · have hv := hv.1 h_
        exact j_lv [0, 1, 2] rfl (lM_alarm_51 hC hQ (K10 := fun x1 x2 g => vM_alarm_10 post k_ x1 x2 g) (fun _ _ _ h_ => ih _ _ _ h_) _ _ _ hv)
      · have hv := hv.2 h_
        refine j_iload_n (i := 2) hC dX12_alarm_36 rfl 2 rfl ?_
        refine j_bipush (v := 8) hC dX12_alarm_37 (by decide) ?_
        refine j_irem hC dX12_alarm_39 (by decide) ?_
        refine j_iload_n (i := 1) hC dX12_alarm_40 rfl 1 rfl ?_
        refine j_icmp_ge (tgt := 51) hC dX12_alarm_41 (by decide) (fun h_ => ?_) (fun h_ => ?_)
        · have hv := hv.1 h_
          exact j_lv [0, 1, 2] rfl (lM_alarm_51 hC hQ (K10 := fun x1 x2 g => vM_alarm_10 post k_ x1 x2 g) (fun _ _ _ h_ => ih _ _ _ h_) _ _ _ hv)
        · have hv := hv.2 h_
          refine j_iload_n (i := 2) hC dX12_alarm_44 rfl 2 rfl ?_
          refine j_bipush (v := 8) hC dX12_alarm_45 (by decide) ?_
          refine j_irem hC dX12_alarm_47 (by decide) ?_
          refine j_goto (tgt := 52) hC dX12_alarm_48 (by decide) ?_
          exact j_lv [0, 2] rfl (lM_alarm_52 hC hQ (K10 := fun x1 x2 g => vM_alarm_10 post k_ x1 x2 g) (fun _ _ _ h_ => ih _ _ _ h_) _ _ _ hv)
set_option maxHeartbeats 4000000 in
set_option maxRecDepth 100000 in
theorem cM_alarm {l : Launch} {D : va_G} {ad : Nat → Nat} {cy : Nat → ClassId} {g : GM} {post : Int32 → GM → Prop} (hv : vM_alarm g post) : jMi l yX12_alarm wsX12_alarm rM_alarm D (tyM cy) [.ref (ad 0)] (wM ad cy g) (wM ad cy) post 0 0 := by
  refine j_meti (cc := cX12_alarm) (nL := 3) (rt := (some .int)) (by decide) (Nat.le_of_ble_eq_true rfl) ?_
  intro Γ hC hQ _
  have hC : jC Γ l rM_alarm D 3 RX12 cX12_alarm wsX12_alarm (tyM cy) := hC
  have hinX12 : ∀ w ∈ wsX120, w ∈ wsX12_alarm := fun w h => List.mem_cons_of_mem _ (List.mem_append_right _ h)
  refine j_lv (lv' := [(0, .ref (ad 0))]) [0] rfl ?_
  unfold vM_alarm at hv
  refine j_aload_n (i := 0) hC dX12_alarm_0 rfl 0 rfl ?_
  refine j_iconst (v := 0) hC dX12_alarm_1 (by decide) ?_
  refine j_put (C := RX12) (T := TX12) (N := 22) (ty := .int) hC hinX12 tyX12 tyX12_ok nmX12 0 (wM_c0 ad cy _) rfl 0 (by decide) (mw 1 rfl) rfl rfl fdX12_0 rfl rfl (Nat.le_of_ble_eq_true rfl) (wM_p_thrown ad cy _ _) dX12_alarm_2 ?_
  refine j_bipush (v := 8) hC dX12_alarm_5 (by decide) ?_
  refine j_istore_n (i := 1) (lv' := [(1, .int (8 : Int32)), (0, .ref (ad 0))]) hC dX12_alarm_7 rfl (by decide) rfl ?_
  refine j_iconst (v := 0) hC dX12_alarm_8 (by decide) ?_
  refine j_istore_n (i := 2) (lv' := [(2, .int (0 : Int32)), (1, .int (8 : Int32)), (0, .ref (ad 0))]) hC dX12_alarm_9 rfl (by decide) rfl ?_
  obtain ⟨n_, hv⟩ := hv
  exact j_lv [2, 1, 0] rfl (lM_alarm_10 hC hQ n_ _ _ _ hv)
theorem hdM_groups : yX12_groups.cls = RX12 ∧ yX12_groups.cls ≠ "java/lang/invoke/MethodHandle" ∧ yX12_groups.cls ≠ "java/lang/invoke/VarHandle" ∧ (parseMethodDescriptor yX12_groups.desc).map (fun d => d.parameters.length) = some 1 := by decide +kernel
abbrev rM_groups : Room := { frames := 1, cells := 0, slots := 0, locals := 25 }
def vM_groups_48 (post : Int32 → GM → Prop) (K24 : Int32 → Int32 → Int32 → GM → Prop) (x1 : Int32) (x3 : Int32) (t0 : Int32) (t1 : Int32) (g : GM) : Prop :=
  (K24 x1 (t1 + t0) (x3 + (1 : Int32)) g)
def vM_groups_24 (post : Int32 → GM → Prop) : Nat → Int32 → Int32 → Int32 → GM → Prop
  | 0, _, _, _, _ => False
  | k_ + 1, x1, x2, x3, g =>
  (((m_worlds g) ≤ x3 → post x2 g) ∧ (¬ (m_worlds g) ≤ x3 → (vM_groupOf g x3 x1 (fun r36 g36 => ((¬ r36 = x3 → (vM_groups_48 post (fun x1 x2 x3 g => vM_groups_24 post k_ x1 x2 x3 g) x1 x3 (0 : Int32) x2 g36)) ∧ (r36 = x3 → (vM_groups_48 post (fun x1 x2 x3 g => vM_groups_24 post k_ x1 x2 x3 g) x1 x3 (1 : Int32) x2 g36)))))))
def vM_groups (g : GM) (a1 : Int32) (post : Int32 → GM → Prop) : Prop :=
  (vM_in (sm_thrown g (0 : Int32)) (a1.toInt64) (0 : Int64) (7 : Int64) (fun r11 g11 => ((¬ r11 = (0 : Int32) → (∃ n_ : Nat, vM_groups_24 post n_ a1 (0 : Int32) (0 : Int32) g11)) ∧ (r11 = (0 : Int32) → post (-1000001 : Int32) g11))))
set_option maxHeartbeats 4000000 in
set_option maxRecDepth 100000 in
theorem lM_groups_48 {Γ : jG} {l : Launch} {D : va_G} {ad : Nat → Nat} {cy : Nat → ClassId} {post : Int32 → GM → Prop} (hC : jC Γ l rM_groups D 4 RX12 cX12_groups wsX12_groups (tyM cy)) (hQ : jQi Γ D (wM ad cy) post (some .int) 0 0) {K24 : Int32 → Int32 → Int32 → GM → Prop} (hK24 : ∀ (x1 : Int32) (x2 : Int32) (x3 : Int32) (g : GM), K24 x1 x2 x3 g → J Γ D 4 0 0 (wM ad cy g) 24 [(0, .ref (ad 0)), (1, .int x1), (2, .int x2), (3, .int x3)] []) : ∀ (x1 : Int32) (x3 : Int32) (t0 : Int32) (t1 : Int32) (g : GM), vM_groups_48 post K24 x1 x3 t0 t1 g → J Γ D 4 0 0 (wM ad cy g) 48 [(0, .ref (ad 0)), (1, .int x1), (3, .int x3)] [.int t0, .int t1] := by
  have hinX12 : ∀ w ∈ wsX120, w ∈ wsX12_groups := fun w h => List.mem_cons_of_mem _ (List.mem_append_right _ h)
  intro x1 x3 t0 t1 g hv
  unfold vM_groups_48 at hv
  refine j_iadd hC dX12_groups_48 ?_
  refine j_istore_n (i := 2) (lv' := [(2, .int (t1 + t0)), (0, .ref (ad 0)), (1, .int x1), (3, .int x3)]) hC dX12_groups_49 rfl (by decide) rfl ?_
  refine j_iinc (k := 3) (v := (x3 + (1 : Int32))) (lv' := [(3, .int (x3 + (1 : Int32))), (2, .int (t1 + t0)), (0, .ref (ad 0)), (1, .int x1)]) hC dX12_groups_50 rfl rfl (by decide) rfl ?_
  refine j_goto (tgt := 24) hC dX12_groups_53 (by decide) ?_
  exact j_lv [2, 3, 1, 0] rfl (hK24 _ _ _ _ hv)
set_option maxHeartbeats 4000000 in
set_option maxRecDepth 100000 in
theorem lM_groups_24 {Γ : jG} {l : Launch} {D : va_G} {ad : Nat → Nat} {cy : Nat → ClassId} {post : Int32 → GM → Prop} (hC : jC Γ l rM_groups D 4 RX12 cX12_groups wsX12_groups (tyM cy)) (hQ : jQi Γ D (wM ad cy) post (some .int) 0 0) : ∀ (n_ : Nat) (x1 : Int32) (x2 : Int32) (x3 : Int32) (g : GM), vM_groups_24 post n_ x1 x2 x3 g → J Γ D 4 0 0 (wM ad cy g) 24 [(0, .ref (ad 0)), (1, .int x1), (2, .int x2), (3, .int x3)] [] := by
  have hinX12 : ∀ w ∈ wsX120, w ∈ wsX12_groups := fun w h => List.mem_cons_of_mem _ (List.mem_append_right _ h)
  intro n_
  induction n_ with
  | zero => intro x1 x2 x3 g hv; exact False.elim hv
  | succ k_ ih =>
    intro x1 x2 x3 g hv
    unfold vM_groups_24 at hv
    refine j_iload_n (i := 3) hC dX12_groups_24 rfl 3 rfl ?_
    refine j_aload_n (i := 0) hC dX12_groups_25 rfl 0 rfl ?_
    refine j_get (C := RX12) (T := TX12) (N := 22) (v := .int (m_worlds g)) hC hinX12 0 (wM_c0 ad cy _) rfl 7 (by decide) (mw 4 rfl) rfl rfl dX12_groups_26 ?_
    refine j_icmp_ge (tgt := 56) hC dX12_groups_29 (by decide) (fun h_ => ?_) (fun h_ => ?_)
    · have hv := hv.1 h_
      refine j_iload_n (i := 2) hC dX12_groups_56 rfl 2 rfl ?_
      exact j_iret hC hQ dX12_groups_57 rfl hv
    · have hv := hv.2 h_
      refine j_iload_n (i := 2) hC dX12_groups_32 rfl 2 rfl ?_
      refine j_aload_n (i := 0) hC dX12_groups_33 rfl 0 rfl ?_
      refine j_iload_n (i := 3) hC dX12_groups_34 rfl 3 rfl ?_
      refine j_iload_n (i := 1) hC dX12_groups_35 rfl 1 rfl ?_
      refine j_callV_i (C := RX12) (As := [.int x3, .int x1]) (rest := [.int x2]) (b := (ad 0)) hC (cM_groupOf hv) 2 gX12_groups_X12_groupOf rfl rfl rfl ⟨Nat.le_of_ble_eq_true rfl, Nat.le_of_ble_eq_true rfl⟩ hdM_groupOf rfl (wM_c0 ad cy _) rfl rfl (Nat.le_of_ble_eq_true rfl) ⟨Nat.zero_le _, Nat.zero_le _⟩ dX12_groups_36 (fun r36 g36 hv => ?_)
      refine j_iload_n (i := 3) hC dX12_groups_39 rfl 3 rfl ?_
      refine j_icmp_ne (tgt := 47) hC dX12_groups_40 (by decide) (fun h_ => ?_) (fun h_ => ?_)
      · have hv := hv.1 h_
        refine j_iconst (v := 0) hC dX12_groups_47 (by decide) ?_
        exact j_lv [0, 1, 3] rfl (lM_groups_48 hC hQ (K24 := fun x1 x2 x3 g => vM_groups_24 post k_ x1 x2 x3 g) (fun _ _ _ _ h_ => ih _ _ _ _ h_) _ _ _ _ _ hv)
      · have hv := hv.2 h_
        refine j_iconst (v := 1) hC dX12_groups_43 (by decide) ?_
        refine j_goto (tgt := 48) hC dX12_groups_44 (by decide) ?_
        exact j_lv [0, 1, 3] rfl (lM_groups_48 hC hQ (K24 := fun x1 x2 x3 g => vM_groups_24 post k_ x1 x2 x3 g) (fun _ _ _ _ h_ => ih _ _ _ _ h_) _ _ _ _ _ hv)
set_option maxHeartbeats 4000000 in
set_option maxRecDepth 100000 in
theorem cM_groups {l : Launch} {D : va_G} {ad : Nat → Nat} {cy : Nat → ClassId} {g : GM} {a1 : Int32} {post : Int32 → GM → Prop} (hv : vM_groups g a1 post) : jMi l yX12_groups wsX12_groups rM_groups D (tyM cy) [.ref (ad 0), .int a1] (wM ad cy g) (wM ad cy) post 0 0 := by
  refine j_meti (cc := cX12_groups) (nL := 4) (rt := (some .int)) (by decide) (Nat.le_of_ble_eq_true rfl) ?_
  intro Γ hC hQ _
  have hC : jC Γ l rM_groups D 4 RX12 cX12_groups wsX12_groups (tyM cy) := hC
  have hinX12 : ∀ w ∈ wsX120, w ∈ wsX12_groups := fun w h => List.mem_cons_of_mem _ (List.mem_append_right _ h)
  refine j_lv (lv' := [(0, .ref (ad 0)), (1, .int a1)]) [0, 1] rfl ?_
  unfold vM_groups at hv
  refine j_aload_n (i := 0) hC dX12_groups_0 rfl 0 rfl ?_
  refine j_iconst (v := 0) hC dX12_groups_1 (by decide) ?_
  refine j_put (C := RX12) (T := TX12) (N := 22) (ty := .int) hC hinX12 tyX12 tyX12_ok nmX12 0 (wM_c0 ad cy _) rfl 0 (by decide) (mw 1 rfl) rfl rfl fdX12_0 rfl rfl (Nat.le_of_ble_eq_true rfl) (wM_p_thrown ad cy _ _) dX12_groups_2 ?_
  refine j_iload_n (i := 1) hC dX12_groups_5 rfl 1 rfl ?_
  refine j_i2l hC dX12_groups_6 ?_
  refine j_lconst (v := 0) hC dX12_groups_7 (by decide) ?_
  refine j_ldc2 (v := 7) hC dX12_groups_8 (mw 2 rfl) ?_
  refine j_callS_i (As := [.long (a1.toInt64), .long (0 : Int64), .long (7 : Int64)]) (rest := []) hC (cM_in hv) 3 gX12_groups_X12_in rfl rfl rfl ⟨Nat.le_of_ble_eq_true rfl, Nat.le_of_ble_eq_true rfl⟩ hdM_in.2 rfl rfl (Nat.le_of_ble_eq_true rfl) ⟨Nat.zero_le _, Nat.zero_le _⟩ dX12_groups_11 (fun r11 g11 hv => ?_)
  refine j_if_ne (tgt := 20) hC dX12_groups_14 (by decide) (fun h_ => ?_) (fun h_ => ?_)
  · have hv := hv.1 h_
    refine j_iconst (v := 0) hC dX12_groups_20 (by decide) ?_
    refine j_istore_n (i := 2) (lv' := [(2, .int (0 : Int32)), (0, .ref (ad 0)), (1, .int a1)]) hC dX12_groups_21 rfl (by decide) rfl ?_
    refine j_iconst (v := 0) hC dX12_groups_22 (by decide) ?_
    refine j_istore_n (i := 3) (lv' := [(3, .int (0 : Int32)), (2, .int (0 : Int32)), (0, .ref (ad 0)), (1, .int a1)]) hC dX12_groups_23 rfl (by decide) rfl ?_
    obtain ⟨n_, hv⟩ := hv
    exact j_lv [2, 3, 1, 0] rfl (lM_groups_24 hC hQ n_ _ _ _ _ hv)
  · have hv := hv.2 h_
    refine j_ldc (v := -1000001) hC dX12_groups_17 (mw 3 rfl) ?_
    exact j_iret hC hQ dX12_groups_19 rfl hv
theorem hdM_isGate : yX12_isGate.cls = RX12 ∧ yX12_isGate.cls ≠ "java/lang/invoke/MethodHandle" ∧ yX12_isGate.cls ≠ "java/lang/invoke/VarHandle" ∧ (parseMethodDescriptor yX12_isGate.desc).map (fun d => d.parameters.length) = some 1 := by decide +kernel
abbrev rM_isGate : Room := { frames := 1, cells := 0, slots := 0, locals := 25 }
def vM_isGate (g : GM) (a1 : Int32) (post : Int32 → GM → Prop) : Prop :=
  (vM_in g (a1.toInt64) (0 : Int64) (((m_gates g) - (1 : Int32)).toInt64) (fun r10 g10 => (jz r10 ∧ post r10 g10)))
set_option maxHeartbeats 4000000 in
set_option maxRecDepth 100000 in
theorem cM_isGate {l : Launch} {D : va_G} {ad : Nat → Nat} {cy : Nat → ClassId} {g : GM} {a1 : Int32} {post : Int32 → GM → Prop} (hv : vM_isGate g a1 post) : jMi l yX12_isGate wsX12_isGate rM_isGate D (tyM cy) [.ref (ad 0), .int a1] (wM ad cy g) (wM ad cy) post 0 0 := by
  refine j_meti (cc := cX12_isGate) (nL := 2) (rt := (some .boolean)) (by decide) (Nat.le_of_ble_eq_true rfl) ?_
  intro Γ hC hQ _
  have hC : jC Γ l rM_isGate D 2 RX12 cX12_isGate wsX12_isGate (tyM cy) := hC
  have hinX12 : ∀ w ∈ wsX120, w ∈ wsX12_isGate := fun w h => List.mem_cons_of_mem _ (List.mem_append_right _ h)
  refine j_lv (lv' := [(0, .ref (ad 0)), (1, .int a1)]) [0, 1] rfl ?_
  unfold vM_isGate at hv
  refine j_iload_n (i := 1) hC dX12_isGate_0 rfl 1 rfl ?_
  refine j_i2l hC dX12_isGate_1 ?_
  refine j_lconst (v := 0) hC dX12_isGate_2 (by decide) ?_
  refine j_aload_n (i := 0) hC dX12_isGate_3 rfl 0 rfl ?_
  refine j_get (C := RX12) (T := TX12) (N := 22) (v := .int (m_gates g)) hC hinX12 0 (wM_c0 ad cy _) rfl 12 (by decide) (mw 1 rfl) rfl rfl dX12_isGate_4 ?_
  refine j_iconst (v := 1) hC dX12_isGate_7 (by decide) ?_
  refine j_isub hC dX12_isGate_8 ?_
  refine j_i2l hC dX12_isGate_9 ?_
  refine j_callS_i (As := [.long (a1.toInt64), .long (0 : Int64), .long (((m_gates g) - (1 : Int32)).toInt64)]) (rest := []) hC (cM_in hv) 3 gX12_isGate_X12_in rfl rfl rfl ⟨Nat.le_of_ble_eq_true rfl, Nat.le_of_ble_eq_true rfl⟩ hdM_in.2 rfl rfl (Nat.le_of_ble_eq_true rfl) ⟨Nat.zero_le _, Nat.zero_le _⟩ dX12_isGate_10 (fun r10 g10 hv => ?_)
  exact j_zret hC hQ dX12_isGate_13 rfl (jz_n hv.1) hv.2
theorem hdM_gate : yX12_gate.cls = RX12 ∧ yX12_gate.cls ≠ "java/lang/invoke/MethodHandle" ∧ yX12_gate.cls ≠ "java/lang/invoke/VarHandle" ∧ (parseMethodDescriptor yX12_gate.desc).map (fun d => d.parameters.length) = some 2 := by decide +kernel
abbrev rM_gate : Room := { frames := 1, cells := 0, slots := 0, locals := 25 }
def vM_gate (g : GM) (a1 : Int32) (a2 : Int32) (post : Int32 → GM → Prop) : Prop :=
  (vM_in (sm_thrown g (0 : Int32)) (a1.toInt64) (1 : Int64) (500 : Int64) (fun r11 g11 => ((r11 = (0 : Int32) → post (-1000001 : Int32) g11) ∧ (¬ r11 = (0 : Int32) → (vM_in g11 (a2.toInt64) (0 : Int64) (2000 : Int64) (fun r23 g23 => ((¬ r23 = (0 : Int32) → ((¬ (m_gates g23) = (6 : Int32) → (vp_in (m_gates g23) 6 ∧ (vp_in (m_gates g23) 6 ∧ post (((m_gates g23) + (1 : Int32)) - (1 : Int32)) (sm_gates (sm_hand (sm_minutes g23 (upd (m_minutes g23) (m_gates g23).toNatClampNeg a1)) (upd (m_hand g23) (m_gates g23).toNatClampNeg a2)) ((m_gates g23) + (1 : Int32)))))) ∧ ((m_gates g23) = (6 : Int32) → post (-1000003 : Int32) g23))) ∧ (r23 = (0 : Int32) → post (-1000001 : Int32) g23))))))))
set_option maxHeartbeats 4000000 in
set_option maxRecDepth 100000 in
theorem cM_gate {l : Launch} {D : va_G} {ad : Nat → Nat} {cy : Nat → ClassId} {g : GM} {a1 : Int32} {a2 : Int32} {post : Int32 → GM → Prop} (hv : vM_gate g a1 a2 post) : jMi l yX12_gate wsX12_gate rM_gate D (tyM cy) [.ref (ad 0), .int a1, .int a2] (wM ad cy g) (wM ad cy) post 0 0 := by
  refine j_meti (cc := cX12_gate) (nL := 3) (rt := (some .int)) (by decide) (Nat.le_of_ble_eq_true rfl) ?_
  intro Γ hC hQ _
  have hC : jC Γ l rM_gate D 3 RX12 cX12_gate wsX12_gate (tyM cy) := hC
  have hinX12 : ∀ w ∈ wsX120, w ∈ wsX12_gate := fun w h => List.mem_cons_of_mem _ (List.mem_append_right _ h)
  refine j_lv (lv' := [(0, .ref (ad 0)), (1, .int a1), (2, .int a2)]) [0, 1, 2] rfl ?_
  unfold vM_gate at hv
  refine j_aload_n (i := 0) hC dX12_gate_0 rfl 0 rfl ?_
  refine j_iconst (v := 0) hC dX12_gate_1 (by decide) ?_
  refine j_put (C := RX12) (T := TX12) (N := 22) (ty := .int) hC hinX12 tyX12 tyX12_ok nmX12 0 (wM_c0 ad cy _) rfl 0 (by decide) (mw 1 rfl) rfl rfl fdX12_0 rfl rfl (Nat.le_of_ble_eq_true rfl) (wM_p_thrown ad cy _ _) dX12_gate_2 ?_
  refine j_iload_n (i := 1) hC dX12_gate_5 rfl 1 rfl ?_
  refine j_i2l hC dX12_gate_6 ?_
  refine j_lconst (v := 1) hC dX12_gate_7 (by decide) ?_
  refine j_ldc2 (v := 500) hC dX12_gate_8 (mw 2 rfl) ?_
  refine j_callS_i (As := [.long (a1.toInt64), .long (1 : Int64), .long (500 : Int64)]) (rest := []) hC (cM_in hv) 3 gX12_gate_X12_in rfl rfl rfl ⟨Nat.le_of_ble_eq_true rfl, Nat.le_of_ble_eq_true rfl⟩ hdM_in.2 rfl rfl (Nat.le_of_ble_eq_true rfl) ⟨Nat.zero_le _, Nat.zero_le _⟩ dX12_gate_11 (fun r11 g11 hv => ?_)
  refine j_if_eq (tgt := 29) hC dX12_gate_14 (by decide) (fun h_ => ?_) (fun h_ => ?_)
  · have hv := hv.1 h_
    refine j_ldc (v := -1000001) hC dX12_gate_29 (mw 4 rfl) ?_
    exact j_iret hC hQ dX12_gate_31 rfl hv
  · have hv := hv.2 h_
    refine j_iload_n (i := 2) hC dX12_gate_17 rfl 2 rfl ?_
    refine j_i2l hC dX12_gate_18 ?_
    refine j_lconst (v := 0) hC dX12_gate_19 (by decide) ?_
    refine j_ldc2 (v := 2000) hC dX12_gate_20 (mw 3 rfl) ?_
    refine j_callS_i (As := [.long (a2.toInt64), .long (0 : Int64), .long (2000 : Int64)]) (rest := []) hC (cM_in hv) 3 gX12_gate_X12_in rfl rfl rfl ⟨Nat.le_of_ble_eq_true rfl, Nat.le_of_ble_eq_true rfl⟩ hdM_in.2 rfl rfl (Nat.le_of_ble_eq_true rfl) ⟨Nat.zero_le _, Nat.zero_le _⟩ dX12_gate_23 (fun r23 g23 hv => ?_)
    refine j_if_ne (tgt := 32) hC dX12_gate_26 (by decide) (fun h_ => ?_) (fun h_ => ?_)
    · have hv := hv.1 h_
      refine j_aload_n (i := 0) hC dX12_gate_32 rfl 0 rfl ?_
      refine j_get (C := RX12) (T := TX12) (N := 22) (v := .int (m_gates g23)) hC hinX12 0 (wM_c0 ad cy _) rfl 12 (by decide) (mw 5 rfl) rfl rfl dX12_gate_33 ?_
      refine j_bipush (v := 6) hC dX12_gate_36 (by decide) ?_
      refine j_icmp_ne (tgt := 44) hC dX12_gate_38 (by decide) (fun h_ => ?_) (fun h_ => ?_)
      · have hv := hv.1 h_
        refine j_aload_n (i := 0) hC dX12_gate_44 rfl 0 rfl ?_
        refine j_get (C := RX12) (T := TX12) (N := 22) (v := .ref (ad 10)) hC hinX12 0 (wM_c0 ad cy _) rfl 13 (by decide) (mw 7 rfl) rfl rfl dX12_gate_45 ?_
        refine j_aload_n (i := 0) hC dX12_gate_48 rfl 0 rfl ?_
        refine j_get (C := RX12) (T := TX12) (N := 22) (v := .int (m_gates g23)) hC hinX12 0 (wM_c0 ad cy _) rfl 12 (by decide) (mw 5 rfl) rfl rfl dX12_gate_49 ?_
        refine j_iload_n (i := 1) hC dX12_gate_52 rfl 1 rfl ?_
        have hb53 := hv.1
        have hv := hv.2
        refine j_iast hC 10 0 (wM_c10 ad cy _) rfl hb53 (wM_s_minutes ad cy _ _) dX12_gate_53 ?_
        refine j_aload_n (i := 0) hC dX12_gate_54 rfl 0 rfl ?_
        refine j_get (C := RX12) (T := TX12) (N := 22) (v := .ref (ad 11)) hC hinX12 0 (wM_c0 ad cy _) rfl 14 (by decide) (mw 8 rfl) rfl rfl dX12_gate_55 ?_
        refine j_aload_n (i := 0) hC dX12_gate_58 rfl 0 rfl ?_
        refine j_get (C := RX12) (T := TX12) (N := 22) (v := .int (m_gates g23)) hC hinX12 0 (wM_c0 ad cy _) rfl 12 (by decide) (mw 5 rfl) rfl rfl dX12_gate_59 ?_
        refine j_iload_n (i := 2) hC dX12_gate_62 rfl 2 rfl ?_
        have hb63 := hv.1
        have hv := hv.2
        refine j_iast hC 11 0 (wM_c11 ad cy _) rfl hb63 (wM_s_hand ad cy _ _) dX12_gate_63 ?_
        refine j_aload_n (i := 0) hC dX12_gate_64 rfl 0 rfl ?_
        refine j_dup hC dX12_gate_65 rfl ?_
        refine j_get (C := RX12) (T := TX12) (N := 22) (v := .int (m_gates g23)) hC hinX12 0 (wM_c0 ad cy _) rfl 12 (by decide) (mw 5 rfl) rfl rfl dX12_gate_66 ?_
        refine j_iconst (v := 1) hC dX12_gate_69 (by decide) ?_
        refine j_iadd hC dX12_gate_70 ?_
        refine j_put (C := RX12) (T := TX12) (N := 22) (ty := .int) hC hinX12 tyX12 tyX12_ok nmX12 0 (wM_c0 ad cy _) rfl 12 (by decide) (mw 5 rfl) rfl rfl fdX12_12 rfl rfl (Nat.le_of_ble_eq_true rfl) (wM_p_gates ad cy _ _) dX12_gate_71 ?_
        refine j_aload_n (i := 0) hC dX12_gate_74 rfl 0 rfl ?_
        refine j_get (C := RX12) (T := TX12) (N := 22) (v := .int ((m_gates g23) + (1 : Int32))) hC hinX12 0 (wM_c0 ad cy _) rfl 12 (by decide) (mw 5 rfl) rfl rfl dX12_gate_75 ?_
        refine j_iconst (v := 1) hC dX12_gate_78 (by decide) ?_
        refine j_isub hC dX12_gate_79 ?_
        exact j_iret hC hQ dX12_gate_80 rfl hv
      · have hv := hv.2 h_
        refine j_ldc (v := -1000003) hC dX12_gate_41 (mw 6 rfl) ?_
        exact j_iret hC hQ dX12_gate_43 rfl hv
    · have hv := hv.2 h_
      refine j_ldc (v := -1000001) hC dX12_gate_29 (mw 4 rfl) ?_
      exact j_iret hC hQ dX12_gate_31 rfl hv
theorem hdM_fail : yX12_fail.cls = RX12 ∧ yX12_fail.cls ≠ "java/lang/invoke/MethodHandle" ∧ yX12_fail.cls ≠ "java/lang/invoke/VarHandle" ∧ (parseMethodDescriptor yX12_fail.desc).map (fun d => d.parameters.length) = some 1 := by decide +kernel
abbrev rM_fail : Room := { frames := 2, cells := 0, slots := 0, locals := 46 }
def vM_fail (g : GM) (a1 : Int32) (post : Int32 → GM → Prop) : Prop :=
  (vM_isGate (sm_thrown g (0 : Int32)) a1 (fun r7 g7 => ((¬ r7 = (0 : Int32) → (vp_in a1 6 ∧ (vp_in a1 6 ∧ ((((m_hasFailed g7) a1.toNatClampNeg) = (0 : Int32) → post (1 : Int32) (sm_hasFailed g7 (upd (m_hasFailed g7) a1.toNatClampNeg (vp_nar .boolean (1 : Int32))))) ∧ (¬ ((m_hasFailed g7) a1.toNatClampNeg) = (0 : Int32) → post (0 : Int32) (sm_hasFailed g7 (upd (m_hasFailed g7) a1.toNatClampNeg (vp_nar .boolean (1 : Int32))))))))) ∧ (r7 = (0 : Int32) → post (-1000001 : Int32) g7))))
set_option maxHeartbeats 4000000 in
set_option maxRecDepth 100000 in
theorem cM_fail {l : Launch} {D : va_G} {ad : Nat → Nat} {cy : Nat → ClassId} {g : GM} {a1 : Int32} {post : Int32 → GM → Prop} (hv : vM_fail g a1 post) : jMi l yX12_fail wsX12_fail rM_fail D (tyM cy) [.ref (ad 0), .int a1] (wM ad cy g) (wM ad cy) post 0 0 := by
  refine j_meti (cc := cX12_fail) (nL := 3) (rt := (some .int)) (by decide) (Nat.le_of_ble_eq_true rfl) ?_
  intro Γ hC hQ _
  have hC : jC Γ l rM_fail D 3 RX12 cX12_fail wsX12_fail (tyM cy) := hC
  have hinX12 : ∀ w ∈ wsX120, w ∈ wsX12_fail := fun w h => List.mem_cons_of_mem _ (List.mem_append_right _ h)
  refine j_lv (lv' := [(0, .ref (ad 0)), (1, .int a1)]) [0, 1] rfl ?_
  unfold vM_fail at hv
  refine j_aload_n (i := 0) hC dX12_fail_0 rfl 0 rfl ?_
  refine j_iconst (v := 0) hC dX12_fail_1 (by decide) ?_
  refine j_put (C := RX12) (T := TX12) (N := 22) (ty := .int) hC hinX12 tyX12 tyX12_ok nmX12 0 (wM_c0 ad cy _) rfl 0 (by decide) (mw 1 rfl) rfl rfl fdX12_0 rfl rfl (Nat.le_of_ble_eq_true rfl) (wM_p_thrown ad cy _ _) dX12_fail_2 ?_
  refine j_aload_n (i := 0) hC dX12_fail_5 rfl 0 rfl ?_
  refine j_iload_n (i := 1) hC dX12_fail_6 rfl 1 rfl ?_
  refine j_callV_i (C := RX12) (As := [.int a1]) (rest := []) (b := (ad 0)) hC (cM_isGate hv) 1 gX12_fail_X12_isGate rfl rfl rfl ⟨Nat.le_of_ble_eq_true rfl, Nat.le_of_ble_eq_true rfl⟩ hdM_isGate rfl (wM_c0 ad cy _) rfl rfl (Nat.le_of_ble_eq_true rfl) ⟨Nat.zero_le _, Nat.zero_le _⟩ dX12_fail_7 (fun r7 g7 hv => ?_)
  refine j_if_ne (tgt := 16) hC dX12_fail_10 (by decide) (fun h_ => ?_) (fun h_ => ?_)
  · have hv := hv.1 h_
    refine j_aload_n (i := 0) hC dX12_fail_16 rfl 0 rfl ?_
    refine j_get (C := RX12) (T := TX12) (N := 22) (v := .ref (ad 12)) hC hinX12 0 (wM_c0 ad cy _) rfl 15 (by decide) (mw 3 rfl) rfl rfl dX12_fail_17 ?_
    refine j_iload_n (i := 1) hC dX12_fail_20 rfl 1 rfl ?_
    have hb21 := hv.1
    have hv := hv.2
    refine j_zald (v := ((m_hasFailed g7) a1.toNatClampNeg)) hC 12 2 (wM_c12 ad cy _) rfl hb21 rfl dX12_fail_21 ?_
    refine j_istore_n (i := 2) (lv' := [(2, .int ((m_hasFailed g7) a1.toNatClampNeg)), (0, .ref (ad 0)), (1, .int a1)]) hC dX12_fail_22 rfl (by decide) rfl ?_
    refine j_aload_n (i := 0) hC dX12_fail_23 rfl 1 rfl ?_
    refine j_get (C := RX12) (T := TX12) (N := 22) (v := .ref (ad 12)) hC hinX12 0 (wM_c0 ad cy _) rfl 15 (by decide) (mw 3 rfl) rfl rfl dX12_fail_24 ?_
    refine j_iload_n (i := 1) hC dX12_fail_27 rfl 2 rfl ?_
    refine j_iconst (v := 1) hC dX12_fail_28 (by decide) ?_
    have hb29 := hv.1
    have hv := hv.2
    refine j_zast hC 12 2 (wM_c12 ad cy _) rfl hb29 (wM_s_hasFailed ad cy _ _) dX12_fail_29 ?_
    refine j_iload_n (i := 2) hC dX12_fail_30 rfl 0 rfl ?_
    refine j_if_eq (tgt := 38) hC dX12_fail_31 (by decide) (fun h_ => ?_) (fun h_ => ?_)
    · have hv := hv.1 h_
      refine j_iconst (v := 1) hC dX12_fail_38 (by decide) ?_
      exact j_iret hC hQ dX12_fail_39 rfl hv
    · have hv := hv.2 h_
      refine j_iconst (v := 0) hC dX12_fail_34 (by decide) ?_
      refine j_goto (tgt := 39) hC dX12_fail_35 (by decide) ?_
      exact j_iret hC hQ dX12_fail_39 rfl hv
  · have hv := hv.2 h_
    refine j_ldc (v := -1000001) hC dX12_fail_13 (mw 2 rfl) ?_
    exact j_iret hC hQ dX12_fail_15 rfl hv
theorem hdM_mend : yX12_mend.cls = RX12 ∧ yX12_mend.cls ≠ "java/lang/invoke/MethodHandle" ∧ yX12_mend.cls ≠ "java/lang/invoke/VarHandle" ∧ (parseMethodDescriptor yX12_mend.desc).map (fun d => d.parameters.length) = some 1 := by decide +kernel
abbrev rM_mend : Room := { frames := 2, cells := 0, slots := 0, locals := 46 }
def vM_mend (g : GM) (a1 : Int32) (post : Int32 → GM → Prop) : Prop :=
  (vM_isGate (sm_thrown g (0 : Int32)) a1 (fun r7 g7 => ((¬ r7 = (0 : Int32) → (vp_in a1 6 ∧ (vp_in a1 6 ∧ ((((m_hasFailed g7) a1.toNatClampNeg) = (0 : Int32) → post (0 : Int32) (sm_hasFailed g7 (upd (m_hasFailed g7) a1.toNatClampNeg (vp_nar .boolean (0 : Int32))))) ∧ (¬ ((m_hasFailed g7) a1.toNatClampNeg) = (0 : Int32) → post (1 : Int32) (sm_hasFailed g7 (upd (m_hasFailed g7) a1.toNatClampNeg (vp_nar .boolean (0 : Int32))))))))) ∧ (r7 = (0 : Int32) → post (-1000001 : Int32) g7))))
set_option maxHeartbeats 4000000 in
set_option maxRecDepth 100000 in
theorem cM_mend {l : Launch} {D : va_G} {ad : Nat → Nat} {cy : Nat → ClassId} {g : GM} {a1 : Int32} {post : Int32 → GM → Prop} (hv : vM_mend g a1 post) : jMi l yX12_mend wsX12_mend rM_mend D (tyM cy) [.ref (ad 0), .int a1] (wM ad cy g) (wM ad cy) post 0 0 := by
  refine j_meti (cc := cX12_mend) (nL := 3) (rt := (some .int)) (by decide) (Nat.le_of_ble_eq_true rfl) ?_
  intro Γ hC hQ _
  have hC : jC Γ l rM_mend D 3 RX12 cX12_mend wsX12_mend (tyM cy) := hC
  have hinX12 : ∀ w ∈ wsX120, w ∈ wsX12_mend := fun w h => List.mem_cons_of_mem _ (List.mem_append_right _ h)
  refine j_lv (lv' := [(0, .ref (ad 0)), (1, .int a1)]) [0, 1] rfl ?_
  unfold vM_mend at hv
  refine j_aload_n (i := 0) hC dX12_mend_0 rfl 0 rfl ?_
  refine j_iconst (v := 0) hC dX12_mend_1 (by decide) ?_
  refine j_put (C := RX12) (T := TX12) (N := 22) (ty := .int) hC hinX12 tyX12 tyX12_ok nmX12 0 (wM_c0 ad cy _) rfl 0 (by decide) (mw 1 rfl) rfl rfl fdX12_0 rfl rfl (Nat.le_of_ble_eq_true rfl) (wM_p_thrown ad cy _ _) dX12_mend_2 ?_
  refine j_aload_n (i := 0) hC dX12_mend_5 rfl 0 rfl ?_
  refine j_iload_n (i := 1) hC dX12_mend_6 rfl 1 rfl ?_
  refine j_callV_i (C := RX12) (As := [.int a1]) (rest := []) (b := (ad 0)) hC (cM_isGate hv) 1 gX12_mend_X12_isGate rfl rfl rfl ⟨Nat.le_of_ble_eq_true rfl, Nat.le_of_ble_eq_true rfl⟩ hdM_isGate rfl (wM_c0 ad cy _) rfl rfl (Nat.le_of_ble_eq_true rfl) ⟨Nat.zero_le _, Nat.zero_le _⟩ dX12_mend_7 (fun r7 g7 hv => ?_)
  refine j_if_ne (tgt := 16) hC dX12_mend_10 (by decide) (fun h_ => ?_) (fun h_ => ?_)
  · have hv := hv.1 h_
    refine j_aload_n (i := 0) hC dX12_mend_16 rfl 0 rfl ?_
    refine j_get (C := RX12) (T := TX12) (N := 22) (v := .ref (ad 12)) hC hinX12 0 (wM_c0 ad cy _) rfl 15 (by decide) (mw 3 rfl) rfl rfl dX12_mend_17 ?_
    refine j_iload_n (i := 1) hC dX12_mend_20 rfl 1 rfl ?_
    have hb21 := hv.1
    have hv := hv.2
    refine j_zald (v := ((m_hasFailed g7) a1.toNatClampNeg)) hC 12 2 (wM_c12 ad cy _) rfl hb21 rfl dX12_mend_21 ?_
    refine j_istore_n (i := 2) (lv' := [(2, .int ((m_hasFailed g7) a1.toNatClampNeg)), (0, .ref (ad 0)), (1, .int a1)]) hC dX12_mend_22 rfl (by decide) rfl ?_
    refine j_aload_n (i := 0) hC dX12_mend_23 rfl 1 rfl ?_
    refine j_get (C := RX12) (T := TX12) (N := 22) (v := .ref (ad 12)) hC hinX12 0 (wM_c0 ad cy _) rfl 15 (by decide) (mw 3 rfl) rfl rfl dX12_mend_24 ?_
    refine j_iload_n (i := 1) hC dX12_mend_27 rfl 2 rfl ?_
    refine j_iconst (v := 0) hC dX12_mend_28 (by decide) ?_
    have hb29 := hv.1
    have hv := hv.2
    refine j_zast hC 12 2 (wM_c12 ad cy _) rfl hb29 (wM_s_hasFailed ad cy _ _) dX12_mend_29 ?_
    refine j_iload_n (i := 2) hC dX12_mend_30 rfl 0 rfl ?_
    refine j_if_eq (tgt := 38) hC dX12_mend_31 (by decide) (fun h_ => ?_) (fun h_ => ?_)
    · have hv := hv.1 h_
      refine j_iconst (v := 0) hC dX12_mend_38 (by decide) ?_
      exact j_iret hC hQ dX12_mend_39 rfl hv
    · have hv := hv.2 h_
      refine j_iconst (v := 1) hC dX12_mend_34 (by decide) ?_
      refine j_goto (tgt := 39) hC dX12_mend_35 (by decide) ?_
      exact j_iret hC hQ dX12_mend_39 rfl hv
  · have hv := hv.2 h_
    refine j_ldc (v := -1000001) hC dX12_mend_13 (mw 2 rfl) ?_
    exact j_iret hC hQ dX12_mend_15 rfl hv
theorem hdM_timeBy : yX12_timeBy.cls = RX12 ∧ yX12_timeBy.cls ≠ "java/lang/invoke/MethodHandle" ∧ yX12_timeBy.cls ≠ "java/lang/invoke/VarHandle" ∧ (parseMethodDescriptor yX12_timeBy.desc).map (fun d => d.parameters.length) = some 2 := by decide +kernel
abbrev rM_timeBy : Room := { frames := 0, cells := 0, slots := 0, locals := 0 }
def vM_timeBy_99 (post : Int32 → GM → Prop) (K25 : Int32 → Int32 → Int32 → Int32 → GM → Prop) (K69 : Int32 → Int32 → Int32 → Int32 → Int32 → Int32 → GM → Prop) (x1 : Int32) (x2 : Int32) (x3 : Int32) (x4 : Int32) (x6 : Int32) (t0 : Int32) (g : GM) : Prop :=
  (K69 x1 x2 x3 x4 t0 (x6 + (1 : Int32)) g)
def vM_timeBy_173 (post : Int32 → GM → Prop) (K25 : Int32 → Int32 → Int32 → Int32 → GM → Prop) (x1 : Int32) (x2 : Int32) (x3 : Int32) (x4 : Int32) (g : GM) : Prop :=
  (K25 x1 x2 x3 (x4 + (1 : Int32)) g)
def vM_timeBy_146 (post : Int32 → GM → Prop) (K25 : Int32 → Int32 → Int32 → Int32 → GM → Prop) (x1 : Int32) (x2 : Int32) (x4 : Int32) (t0 : Int32) (g : GM) : Prop :=
  (vM_timeBy_173 post K25 x1 x2 t0 x4 g)
def vM_timeBy_107 (post : Int32 → GM → Prop) (K25 : Int32 → Int32 → Int32 → Int32 → GM → Prop) (x1 : Int32) (x2 : Int32) (x3 : Int32) (x4 : Int32) (x5 : Int32) (g : GM) : Prop :=
  (vp_in x5 3 ∧ (vp_in x4 6 ∧ (vp_in x5 3 ∧ (vp_in x5 3 ∧ ((((upd (m_crew g) x5.toNatClampNeg (((m_crew g) x5.toNatClampNeg) + ((m_hand g) x4.toNatClampNeg))) x5.toNatClampNeg) ≤ x3 → (vM_timeBy_146 post K25 x1 x2 x4 x3 (sm_crew g (upd (m_crew g) x5.toNatClampNeg (((m_crew g) x5.toNatClampNeg) + ((m_hand g) x4.toNatClampNeg)))))) ∧ (¬ ((upd (m_crew g) x5.toNatClampNeg (((m_crew g) x5.toNatClampNeg) + ((m_hand g) x4.toNatClampNeg))) x5.toNatClampNeg) ≤ x3 → (vp_in x5 3 ∧ (vM_timeBy_146 post K25 x1 x2 x4 ((upd (m_crew g) x5.toNatClampNeg (((m_crew g) x5.toNatClampNeg) + ((m_hand g) x4.toNatClampNeg))) x5.toNatClampNeg) (sm_crew g (upd (m_crew g) x5.toNatClampNeg (((m_crew g) x5.toNatClampNeg) + ((m_hand g) x4.toNatClampNeg))))))))))))
def vM_timeBy_69 (post : Int32 → GM → Prop) (K25 : Int32 → Int32 → Int32 → Int32 → GM → Prop) : Nat → Int32 → Int32 → Int32 → Int32 → Int32 → Int32 → GM → Prop
  | 0, _, _, _, _, _, _, _ => False
  | k_ + 1, x1, x2, x3, x4, x5, x6, g =>
  ((x1 ≤ x6 → (vM_timeBy_107 post K25 x1 x2 x3 x4 x5 g)) ∧ (¬ x1 ≤ x6 → (vp_in x6 3 ∧ (vp_in x5 3 ∧ ((((m_crew g) x5.toNatClampNeg) ≤ ((m_crew g) x6.toNatClampNeg) → (vM_timeBy_99 post K25 (fun x1 x2 x3 x4 x5 x6 g => vM_timeBy_69 post K25 k_ x1 x2 x3 x4 x5 x6 g) x1 x2 x3 x4 x6 x5 g)) ∧ (¬ ((m_crew g) x5.toNatClampNeg) ≤ ((m_crew g) x6.toNatClampNeg) → (vM_timeBy_99 post K25 (fun x1 x2 x3 x4 x5 x6 g => vM_timeBy_69 post K25 k_ x1 x2 x3 x4 x5 x6 g) x1 x2 x3 x4 x6 x6 g)))))))
def vM_timeBy_50 (post : Int32 → GM → Prop) (K25 : Int32 → Int32 → Int32 → Int32 → GM → Prop) (x1 : Int32) (x2 : Int32) (x3 : Int32) (x4 : Int32) (g : GM) : Prop :=
  (vp_in x4 6 ∧ ((¬ ((m_hand g) x4.toNatClampNeg) = (0 : Int32) → (∃ n_ : Nat, vM_timeBy_69 post K25 n_ x1 x2 x3 x4 (0 : Int32) (1 : Int32) g)) ∧ (((m_hand g) x4.toNatClampNeg) = (0 : Int32) → post (-1000000 : Int32) g)))
def vM_timeBy_172 (post : Int32 → GM → Prop) (K25 : Int32 → Int32 → Int32 → Int32 → GM → Prop) (x1 : Int32) (x2 : Int32) (x4 : Int32) (t0 : Int32) (g : GM) : Prop :=
  (vM_timeBy_173 post K25 x1 x2 t0 x4 g)
def vM_timeBy_25 (post : Int32 → GM → Prop) : Nat → Int32 → Int32 → Int32 → Int32 → GM → Prop
  | 0, _, _, _, _, _ => False
  | k_ + 1, x1, x2, x3, x4, g =>
  (((m_gates g) ≤ x4 → post x3 g) ∧ (¬ (m_gates g) ≤ x4 → (vp_in x4 6 ∧ ((¬ ((m_hasFailed g) x4.toNatClampNeg) = (0 : Int32) → (vM_timeBy_50 post (fun x1 x2 x3 x4 g => vM_timeBy_25 post k_ x1 x2 x3 x4 g) x1 x2 x3 x4 g)) ∧ (((m_hasFailed g) x4.toNatClampNeg) = (0 : Int32) → ((¬ x4 = x2 → (vp_in x4 6 ∧ ((((m_minutes g) x4.toNatClampNeg) ≤ x3 → (vM_timeBy_172 post (fun x1 x2 x3 x4 g => vM_timeBy_25 post k_ x1 x2 x3 x4 g) x1 x2 x4 x3 g)) ∧ (¬ ((m_minutes g) x4.toNatClampNeg) ≤ x3 → (vp_in x4 6 ∧ (vM_timeBy_172 post (fun x1 x2 x3 x4 g => vM_timeBy_25 post k_ x1 x2 x3 x4 g) x1 x2 x4 ((m_minutes g) x4.toNatClampNeg) g)))))) ∧ (x4 = x2 → (vM_timeBy_50 post (fun x1 x2 x3 x4 g => vM_timeBy_25 post k_ x1 x2 x3 x4 g) x1 x2 x3 x4 g))))))))
def vM_timeBy_20 (post : Int32 → GM → Prop) (x1 : Int32) (x2 : Int32) (g : GM) : Prop :=
  (∃ n_ : Nat, vM_timeBy_25 post n_ x1 x2 (0 : Int32) (0 : Int32) g)
def vM_timeBy_2 (post : Int32 → GM → Prop) : Nat → Int32 → Int32 → Int32 → GM → Prop
  | 0, _, _, _, _ => False
  | k_ + 1, x1, x2, x3, g =>
  (((3 : Int32) ≤ x3 → (vM_timeBy_20 post x1 x2 g)) ∧ (¬ (3 : Int32) ≤ x3 → (vp_in x3 3 ∧ (vM_timeBy_2 post k_ x1 x2 (x3 + (1 : Int32)) (sm_crew g (upd (m_crew g) x3.toNatClampNeg (0 : Int32)))))))
def vM_timeBy (g : GM) (a1 : Int32) (a2 : Int32) (post : Int32 → GM → Prop) : Prop :=
  (∃ n_ : Nat, vM_timeBy_2 post n_ a1 a2 (0 : Int32) g)
set_option maxHeartbeats 4000000 in
set_option maxRecDepth 100000 in
theorem lM_timeBy_99 {Γ : jG} {l : Launch} {D : va_G} {ad : Nat → Nat} {cy : Nat → ClassId} {post : Int32 → GM → Prop} (hC : jC Γ l rM_timeBy D 7 RX12 cX12_timeBy wsX12_timeBy (tyM cy)) (hQ : jQi Γ D (wM ad cy) post (some .int) 0 0) {K25 : Int32 → Int32 → Int32 → Int32 → GM → Prop} (hK25 : ∀ (x1 : Int32) (x2 : Int32) (x3 : Int32) (x4 : Int32) (g : GM), K25 x1 x2 x3 x4 g → J Γ D 7 0 0 (wM ad cy g) 25 [(0, .ref (ad 0)), (1, .int x1), (2, .int x2), (3, .int x3), (4, .int x4)] []) {K69 : Int32 → Int32 → Int32 → Int32 → Int32 → Int32 → GM → Prop} (hK69 : ∀ (x1 : Int32) (x2 : Int32) (x3 : Int32) (x4 : Int32) (x5 : Int32) (x6 : Int32) (g : GM), K69 x1 x2 x3 x4 x5 x6 g → J Γ D 7 0 0 (wM ad cy g) 69 [(0, .ref (ad 0)), (1, .int x1), (2, .int x2), (3, .int x3), (4, .int x4), (5, .int x5), (6, .int x6)] []) : ∀ (x1 : Int32) (x2 : Int32) (x3 : Int32) (x4 : Int32) (x6 : Int32) (t0 : Int32) (g : GM), vM_timeBy_99 post K25 K69 x1 x2 x3 x4 x6 t0 g → J Γ D 7 0 0 (wM ad cy g) 99 [(0, .ref (ad 0)), (1, .int x1), (2, .int x2), (3, .int x3), (4, .int x4), (6, .int x6)] [.int t0] := by
  have hinX12 : ∀ w ∈ wsX120, w ∈ wsX12_timeBy := fun w h => List.mem_cons_of_mem _ (List.mem_append_right _ h)
  intro x1 x2 x3 x4 x6 t0 g hv
  unfold vM_timeBy_99 at hv
  refine j_istore (lv' := [(5, .int t0), (0, .ref (ad 0)), (1, .int x1), (2, .int x2), (3, .int x3), (4, .int x4), (6, .int x6)]) hC dX12_timeBy_99 (by decide) rfl ?_
  refine j_iinc (k := 6) (v := (x6 + (1 : Int32))) (lv' := [(6, .int (x6 + (1 : Int32))), (5, .int t0), (0, .ref (ad 0)), (1, .int x1), (2, .int x2), (3, .int x3), (4, .int x4)]) hC dX12_timeBy_101 rfl rfl (by decide) rfl ?_
  refine j_goto (tgt := 69) hC dX12_timeBy_104 (by decide) ?_
  exact j_lv [2, 3, 4, 5, 6, 1, 0] rfl (hK69 _ _ _ _ _ _ _ hv)
set_option maxHeartbeats 4000000 in
set_option maxRecDepth 100000 in
theorem lM_timeBy_173 {Γ : jG} {l : Launch} {D : va_G} {ad : Nat → Nat} {cy : Nat → ClassId} {post : Int32 → GM → Prop} (hC : jC Γ l rM_timeBy D 7 RX12 cX12_timeBy wsX12_timeBy (tyM cy)) (hQ : jQi Γ D (wM ad cy) post (some .int) 0 0) {K25 : Int32 → Int32 → Int32 → Int32 → GM → Prop} (hK25 : ∀ (x1 : Int32) (x2 : Int32) (x3 : Int32) (x4 : Int32) (g : GM), K25 x1 x2 x3 x4 g → J Γ D 7 0 0 (wM ad cy g) 25 [(0, .ref (ad 0)), (1, .int x1), (2, .int x2), (3, .int x3), (4, .int x4)] []) : ∀ (x1 : Int32) (x2 : Int32) (x3 : Int32) (x4 : Int32) (g : GM), vM_timeBy_173 post K25 x1 x2 x3 x4 g → J Γ D 7 0 0 (wM ad cy g) 173 [(0, .ref (ad 0)), (1, .int x1), (2, .int x2), (3, .int x3), (4, .int x4)] [] := by
  have hinX12 : ∀ w ∈ wsX120, w ∈ wsX12_timeBy := fun w h => List.mem_cons_of_mem _ (List.mem_append_right _ h)
  intro x1 x2 x3 x4 g hv
  unfold vM_timeBy_173 at hv
  refine j_iinc (k := 4) (v := (x4 + (1 : Int32))) (lv' := [(4, .int (x4 + (1 : Int32))), (0, .ref (ad 0)), (1, .int x1), (2, .int x2), (3, .int x3)]) hC dX12_timeBy_173 rfl rfl (by decide) rfl ?_
  refine j_goto (tgt := 25) hC dX12_timeBy_176 (by decide) ?_
  exact j_lv [1, 2, 3, 4, 0] rfl (hK25 _ _ _ _ _ hv)
set_option maxHeartbeats 4000000 in
set_option maxRecDepth 100000 in
theorem lM_timeBy_146 {Γ : jG} {l : Launch} {D : va_G} {ad : Nat → Nat} {cy : Nat → ClassId} {post : Int32 → GM → Prop} (hC : jC Γ l rM_timeBy D 7 RX12 cX12_timeBy wsX12_timeBy (tyM cy)) (hQ : jQi Γ D (wM ad cy) post (some .int) 0 0) {K25 : Int32 → Int32 → Int32 → Int32 → GM → Prop} (hK25 : ∀ (x1 : Int32) (x2 : Int32) (x3 : Int32) (x4 : Int32) (g : GM), K25 x1 x2 x3 x4 g → J Γ D 7 0 0 (wM ad cy g) 25 [(0, .ref (ad 0)), (1, .int x1), (2, .int x2), (3, .int x3), (4, .int x4)] []) : ∀ (x1 : Int32) (x2 : Int32) (x4 : Int32) (t0 : Int32) (g : GM), vM_timeBy_146 post K25 x1 x2 x4 t0 g → J Γ D 7 0 0 (wM ad cy g) 146 [(0, .ref (ad 0)), (1, .int x1), (2, .int x2), (4, .int x4)] [.int t0] := by
  have hinX12 : ∀ w ∈ wsX120, w ∈ wsX12_timeBy := fun w h => List.mem_cons_of_mem _ (List.mem_append_right _ h)
  intro x1 x2 x4 t0 g hv
  unfold vM_timeBy_146 at hv
  refine j_istore_n (i := 3) (lv' := [(3, .int t0), (0, .ref (ad 0)), (1, .int x1), (2, .int x2), (4, .int x4)]) hC dX12_timeBy_146 rfl (by decide) rfl ?_
  refine j_goto (tgt := 173) hC dX12_timeBy_147 (by decide) ?_
  exact j_lv [1, 2, 3, 0, 4] rfl (lM_timeBy_173 hC hQ hK25 _ _ _ _ _ hv)
set_option maxHeartbeats 4000000 in
set_option maxRecDepth 100000 in
theorem lM_timeBy_107 {Γ : jG} {l : Launch} {D : va_G} {ad : Nat → Nat} {cy : Nat → ClassId} {post : Int32 → GM → Prop} (hC : jC Γ l rM_timeBy D 7 RX12 cX12_timeBy wsX12_timeBy (tyM cy)) (hQ : jQi Γ D (wM ad cy) post (some .int) 0 0) {K25 : Int32 → Int32 → Int32 → Int32 → GM → Prop} (hK25 : ∀ (x1 : Int32) (x2 : Int32) (x3 : Int32) (x4 : Int32) (g : GM), K25 x1 x2 x3 x4 g → J Γ D 7 0 0 (wM ad cy g) 25 [(0, .ref (ad 0)), (1, .int x1), (2, .int x2), (3, .int x3), (4, .int x4)] []) : ∀ (x1 : Int32) (x2 : Int32) (x3 : Int32) (x4 : Int32) (x5 : Int32) (g : GM), vM_timeBy_107 post K25 x1 x2 x3 x4 x5 g → J Γ D 7 0 0 (wM ad cy g) 107 [(0, .ref (ad 0)), (1, .int x1), (2, .int x2), (3, .int x3), (4, .int x4), (5, .int x5)] [] := by
  have hinX12 : ∀ w ∈ wsX120, w ∈ wsX12_timeBy := fun w h => List.mem_cons_of_mem _ (List.mem_append_right _ h)
  intro x1 x2 x3 x4 x5 g hv
  unfold vM_timeBy_107 at hv
  refine j_aload_n (i := 0) hC dX12_timeBy_107 rfl 0 rfl ?_
  refine j_get (C := RX12) (T := TX12) (N := 22) (v := .ref (ad 13)) hC hinX12 0 (wM_c0 ad cy _) rfl 16 (by decide) (mw 1 rfl) rfl rfl dX12_timeBy_108 ?_
  refine j_iload hC dX12_timeBy_111 5 rfl ?_
  refine j_dup2_11 hC dX12_timeBy_113 rfl rfl ?_
  have hb114 := hv.1
  have hv := hv.2
  refine j_iald (v := ((m_crew g) x5.toNatClampNeg)) hC 13 0 (wM_c13 ad cy _) rfl hb114 rfl dX12_timeBy_114 ?_
  refine j_aload_n (i := 0) hC dX12_timeBy_115 rfl 0 rfl ?_
  refine j_get (C := RX12) (T := TX12) (N := 22) (v := .ref (ad 11)) hC hinX12 0 (wM_c0 ad cy _) rfl 14 (by decide) (mw 4 rfl) rfl rfl dX12_timeBy_116 ?_
  refine j_iload hC dX12_timeBy_119 4 rfl ?_
  have hb121 := hv.1
  have hv := hv.2
  refine j_iald (v := ((m_hand g) x4.toNatClampNeg)) hC 11 0 (wM_c11 ad cy _) rfl hb121 rfl dX12_timeBy_121 ?_
  refine j_iadd hC dX12_timeBy_122 ?_
  have hb123 := hv.1
  have hv := hv.2
  refine j_iast hC 13 0 (wM_c13 ad cy _) rfl hb123 (wM_s_crew ad cy _ _) dX12_timeBy_123 ?_
  refine j_aload_n (i := 0) hC dX12_timeBy_124 rfl 0 rfl ?_
  refine j_get (C := RX12) (T := TX12) (N := 22) (v := .ref (ad 13)) hC hinX12 0 (wM_c0 ad cy _) rfl 16 (by decide) (mw 1 rfl) rfl rfl dX12_timeBy_125 ?_
  refine j_iload hC dX12_timeBy_128 5 rfl ?_
  have hb130 := hv.1
  have hv := hv.2
  refine j_iald (v := ((upd (m_crew g) x5.toNatClampNeg (((m_crew g) x5.toNatClampNeg) + ((m_hand g) x4.toNatClampNeg))) x5.toNatClampNeg)) hC 13 0 (wM_c13 ad cy _) rfl hb130 rfl dX12_timeBy_130 ?_
  refine j_iload_n (i := 3) hC dX12_timeBy_131 rfl 3 rfl ?_
  refine j_icmp_le (tgt := 145) hC dX12_timeBy_132 (by decide) (fun h_ => ?_) (fun h_ => ?_)
  · have hv := hv.1 h_
    refine j_iload_n (i := 3) hC dX12_timeBy_145 rfl 3 rfl ?_
    exact j_lv [0, 1, 2, 4] rfl (lM_timeBy_146 hC hQ hK25 _ _ _ _ _ hv)
  · have hv := hv.2 h_
    refine j_aload_n (i := 0) hC dX12_timeBy_135 rfl 0 rfl ?_
    refine j_get (C := RX12) (T := TX12) (N := 22) (v := .ref (ad 13)) hC hinX12 0 (wM_c0 ad cy _) rfl 16 (by decide) (mw 1 rfl) rfl rfl dX12_timeBy_136 ?_
    refine j_iload hC dX12_timeBy_139 5 rfl ?_
    have hb141 := hv.1
    have hv := hv.2
    refine j_iald (v := ((upd (m_crew g) x5.toNatClampNeg (((m_crew g) x5.toNatClampNeg) + ((m_hand g) x4.toNatClampNeg))) x5.toNatClampNeg)) hC 13 0 (wM_c13 ad cy _) rfl hb141 rfl dX12_timeBy_141 ?_
    refine j_goto (tgt := 146) hC dX12_timeBy_142 (by decide) ?_
    exact j_lv [0, 1, 2, 4] rfl (lM_timeBy_146 hC hQ hK25 _ _ _ _ _ hv)
set_option maxHeartbeats 4000000 in
set_option maxRecDepth 100000 in
theorem lM_timeBy_69 {Γ : jG} {l : Launch} {D : va_G} {ad : Nat → Nat} {cy : Nat → ClassId} {post : Int32 → GM → Prop} (hC : jC Γ l rM_timeBy D 7 RX12 cX12_timeBy wsX12_timeBy (tyM cy)) (hQ : jQi Γ D (wM ad cy) post (some .int) 0 0) {K25 : Int32 → Int32 → Int32 → Int32 → GM → Prop} (hK25 : ∀ (x1 : Int32) (x2 : Int32) (x3 : Int32) (x4 : Int32) (g : GM), K25 x1 x2 x3 x4 g → J Γ D 7 0 0 (wM ad cy g) 25 [(0, .ref (ad 0)), (1, .int x1), (2, .int x2), (3, .int x3), (4, .int x4)] []) : ∀ (n_ : Nat) (x1 : Int32) (x2 : Int32) (x3 : Int32) (x4 : Int32) (x5 : Int32) (x6 : Int32) (g : GM), vM_timeBy_69 post K25 n_ x1 x2 x3 x4 x5 x6 g → J Γ D 7 0 0 (wM ad cy g) 69 [(0, .ref (ad 0)), (1, .int x1), (2, .int x2), (3, .int x3), (4, .int x4), (5, .int x5), (6, .int x6)] [] := by
  have hinX12 : ∀ w ∈ wsX120, w ∈ wsX12_timeBy := fun w h => List.mem_cons_of_mem _ (List.mem_append_right _ h)
  intro n_
  induction n_ with
  | zero => intro x1 x2 x3 x4 x5 x6 g hv; exact False.elim hv
  | succ k_ ih =>
    intro x1 x2 x3 x4 x5 x6 g hv
    unfold vM_timeBy_69 at hv
    refine j_iload hC dX12_timeBy_69 6 rfl ?_
    refine j_iload_n (i := 1) hC dX12_timeBy_71 rfl 1 rfl ?_
    refine j_icmp_ge (tgt := 107) hC dX12_timeBy_72 (by decide) (fun h_ => ?_) (fun h_ => ?_)
    · have hv := hv.1 h_
      exact j_lv [0, 1, 2, 3, 4, 5] rfl (lM_timeBy_107 hC hQ hK25 _ _ _ _ _ _ hv)
    · have hv := hv.2 h_
      refine j_aload_n (i := 0) hC dX12_timeBy_75 rfl 0 rfl ?_
      refine j_get (C := RX12) (T := TX12) (N := 22) (v := .ref (ad 13)) hC hinX12 0 (wM_c0 ad cy _) rfl 16 (by decide) (mw 1 rfl) rfl rfl dX12_timeBy_76 ?_
      refine j_iload hC dX12_timeBy_79 6 rfl ?_
      have hb81 := hv.1
      have hv := hv.2
      refine j_iald (v := ((m_crew g) x6.toNatClampNeg)) hC 13 0 (wM_c13 ad cy _) rfl hb81 rfl dX12_timeBy_81 ?_
      refine j_aload_n (i := 0) hC dX12_timeBy_82 rfl 0 rfl ?_
      refine j_get (C := RX12) (T := TX12) (N := 22) (v := .ref (ad 13)) hC hinX12 0 (wM_c0 ad cy _) rfl 16 (by decide) (mw 1 rfl) rfl rfl dX12_timeBy_83 ?_
      refine j_iload hC dX12_timeBy_86 5 rfl ?_
      have hb88 := hv.1
      have hv := hv.2
      refine j_iald (v := ((m_crew g) x5.toNatClampNeg)) hC 13 0 (wM_c13 ad cy _) rfl hb88 rfl dX12_timeBy_88 ?_
      refine j_icmp_ge (tgt := 97) hC dX12_timeBy_89 (by decide) (fun h_ => ?_) (fun h_ => ?_)
      · have hv := hv.1 h_
        refine j_iload hC dX12_timeBy_97 5 rfl ?_
        exact j_lv [0, 1, 2, 3, 4, 6] rfl (lM_timeBy_99 hC hQ hK25 (K69 := fun x1 x2 x3 x4 x5 x6 g => vM_timeBy_69 post K25 k_ x1 x2 x3 x4 x5 x6 g) (fun _ _ _ _ _ _ _ h_ => ih _ _ _ _ _ _ _ h_) _ _ _ _ _ _ _ hv)
      · have hv := hv.2 h_
        refine j_iload hC dX12_timeBy_92 6 rfl ?_
        refine j_goto (tgt := 99) hC dX12_timeBy_94 (by decide) ?_
        exact j_lv [0, 1, 2, 3, 4, 6] rfl (lM_timeBy_99 hC hQ hK25 (K69 := fun x1 x2 x3 x4 x5 x6 g => vM_timeBy_69 post K25 k_ x1 x2 x3 x4 x5 x6 g) (fun _ _ _ _ _ _ _ h_ => ih _ _ _ _ _ _ _ h_) _ _ _ _ _ _ _ hv)
set_option maxHeartbeats 4000000 in
set_option maxRecDepth 100000 in
theorem lM_timeBy_50 {Γ : jG} {l : Launch} {D : va_G} {ad : Nat → Nat} {cy : Nat → ClassId} {post : Int32 → GM → Prop} (hC : jC Γ l rM_timeBy D 7 RX12 cX12_timeBy wsX12_timeBy (tyM cy)) (hQ : jQi Γ D (wM ad cy) post (some .int) 0 0) {K25 : Int32 → Int32 → Int32 → Int32 → GM → Prop} (hK25 : ∀ (x1 : Int32) (x2 : Int32) (x3 : Int32) (x4 : Int32) (g : GM), K25 x1 x2 x3 x4 g → J Γ D 7 0 0 (wM ad cy g) 25 [(0, .ref (ad 0)), (1, .int x1), (2, .int x2), (3, .int x3), (4, .int x4)] []) : ∀ (x1 : Int32) (x2 : Int32) (x3 : Int32) (x4 : Int32) (g : GM), vM_timeBy_50 post K25 x1 x2 x3 x4 g → J Γ D 7 0 0 (wM ad cy g) 50 [(0, .ref (ad 0)), (1, .int x1), (2, .int x2), (3, .int x3), (4, .int x4)] [] := by
  have hinX12 : ∀ w ∈ wsX120, w ∈ wsX12_timeBy := fun w h => List.mem_cons_of_mem _ (List.mem_append_right _ h)
  intro x1 x2 x3 x4 g hv
  unfold vM_timeBy_50 at hv
  refine j_aload_n (i := 0) hC dX12_timeBy_50 rfl 0 rfl ?_
  refine j_get (C := RX12) (T := TX12) (N := 22) (v := .ref (ad 11)) hC hinX12 0 (wM_c0 ad cy _) rfl 14 (by decide) (mw 4 rfl) rfl rfl dX12_timeBy_51 ?_
  refine j_iload hC dX12_timeBy_54 4 rfl ?_
  have hb56 := hv.1
  have hv := hv.2
  refine j_iald (v := ((m_hand g) x4.toNatClampNeg)) hC 11 0 (wM_c11 ad cy _) rfl hb56 rfl dX12_timeBy_56 ?_
  refine j_if_ne (tgt := 63) hC dX12_timeBy_57 (by decide) (fun h_ => ?_) (fun h_ => ?_)
  · have hv := hv.1 h_
    refine j_iconst (v := 0) hC dX12_timeBy_63 (by decide) ?_
    refine j_istore (lv' := [(5, .int (0 : Int32)), (0, .ref (ad 0)), (1, .int x1), (2, .int x2), (3, .int x3), (4, .int x4)]) hC dX12_timeBy_64 (by decide) rfl ?_
    refine j_iconst (v := 1) hC dX12_timeBy_66 (by decide) ?_
    refine j_istore (lv' := [(6, .int (1 : Int32)), (5, .int (0 : Int32)), (0, .ref (ad 0)), (1, .int x1), (2, .int x2), (3, .int x3), (4, .int x4)]) hC dX12_timeBy_67 (by decide) rfl ?_
    obtain ⟨n_, hv⟩ := hv
    exact j_lv [2, 3, 4, 5, 6, 1, 0] rfl (lM_timeBy_69 hC hQ hK25 n_ _ _ _ _ _ _ _ hv)
  · have hv := hv.2 h_
    refine j_ldc (v := -1000000) hC dX12_timeBy_60 (mw 5 rfl) ?_
    exact j_iret hC hQ dX12_timeBy_62 rfl hv
set_option maxHeartbeats 4000000 in
set_option maxRecDepth 100000 in
theorem lM_timeBy_172 {Γ : jG} {l : Launch} {D : va_G} {ad : Nat → Nat} {cy : Nat → ClassId} {post : Int32 → GM → Prop} (hC : jC Γ l rM_timeBy D 7 RX12 cX12_timeBy wsX12_timeBy (tyM cy)) (hQ : jQi Γ D (wM ad cy) post (some .int) 0 0) {K25 : Int32 → Int32 → Int32 → Int32 → GM → Prop} (hK25 : ∀ (x1 : Int32) (x2 : Int32) (x3 : Int32) (x4 : Int32) (g : GM), K25 x1 x2 x3 x4 g → J Γ D 7 0 0 (wM ad cy g) 25 [(0, .ref (ad 0)), (1, .int x1), (2, .int x2), (3, .int x3), (4, .int x4)] []) : ∀ (x1 : Int32) (x2 : Int32) (x4 : Int32) (t0 : Int32) (g : GM), vM_timeBy_172 post K25 x1 x2 x4 t0 g → J Γ D 7 0 0 (wM ad cy g) 172 [(0, .ref (ad 0)), (1, .int x1), (2, .int x2), (4, .int x4)] [.int t0] := by
  have hinX12 : ∀ w ∈ wsX120, w ∈ wsX12_timeBy := fun w h => List.mem_cons_of_mem _ (List.mem_append_right _ h)
  intro x1 x2 x4 t0 g hv
  unfold vM_timeBy_172 at hv
  refine j_istore_n (i := 3) (lv' := [(3, .int t0), (0, .ref (ad 0)), (1, .int x1), (2, .int x2), (4, .int x4)]) hC dX12_timeBy_172 rfl (by decide) rfl ?_
  exact j_lv [1, 2, 3, 0, 4] rfl (lM_timeBy_173 hC hQ hK25 _ _ _ _ _ hv)
set_option maxHeartbeats 4000000 in
set_option maxRecDepth 100000 in
theorem lM_timeBy_25 {Γ : jG} {l : Launch} {D : va_G} {ad : Nat → Nat} {cy : Nat → ClassId} {post : Int32 → GM → Prop} (hC : jC Γ l rM_timeBy D 7 RX12 cX12_timeBy wsX12_timeBy (tyM cy)) (hQ : jQi Γ D (wM ad cy) post (some .int) 0 0) : ∀ (n_ : Nat) (x1 : Int32) (x2 : Int32) (x3 : Int32) (x4 : Int32) (g : GM), vM_timeBy_25 post n_ x1 x2 x3 x4 g → J Γ D 7 0 0 (wM ad cy g) 25 [(0, .ref (ad 0)), (1, .int x1), (2, .int x2), (3, .int x3), (4, .int x4)] [] := by
  have hinX12 : ∀ w ∈ wsX120, w ∈ wsX12_timeBy := fun w h => List.mem_cons_of_mem _ (List.mem_append_right _ h)
  intro n_
  induction n_ with
  | zero => intro x1 x2 x3 x4 g hv; exact False.elim hv
  | succ k_ ih =>
    intro x1 x2 x3 x4 g hv
    unfold vM_timeBy_25 at hv
    refine j_iload hC dX12_timeBy_25 4 rfl ?_
    refine j_aload_n (i := 0) hC dX12_timeBy_27 rfl 0 rfl ?_
    refine j_get (C := RX12) (T := TX12) (N := 22) (v := .int (m_gates g)) hC hinX12 0 (wM_c0 ad cy _) rfl 12 (by decide) (mw 2 rfl) rfl rfl dX12_timeBy_28 ?_
    refine j_icmp_ge (tgt := 179) hC dX12_timeBy_31 (by decide) (fun h_ => ?_) (fun h_ => ?_)
    · have hv := hv.1 h_
      refine j_iload_n (i := 3) hC dX12_timeBy_179 rfl 3 rfl ?_
      exact j_iret hC hQ dX12_timeBy_180 rfl hv
    · have hv := hv.2 h_
      refine j_aload_n (i := 0) hC dX12_timeBy_34 rfl 0 rfl ?_
      refine j_get (C := RX12) (T := TX12) (N := 22) (v := .ref (ad 12)) hC hinX12 0 (wM_c0 ad cy _) rfl 15 (by decide) (mw 3 rfl) rfl rfl dX12_timeBy_35 ?_
      refine j_iload hC dX12_timeBy_38 4 rfl ?_
      have hb40 := hv.1
      have hv := hv.2
      refine j_zald (v := ((m_hasFailed g) x4.toNatClampNeg)) hC 12 2 (wM_c12 ad cy _) rfl hb40 rfl dX12_timeBy_40 ?_
      refine j_if_ne (tgt := 50) hC dX12_timeBy_41 (by decide) (fun h_ => ?_) (fun h_ => ?_)
      · have hv := hv.1 h_
        exact j_lv [0, 1, 2, 3, 4] rfl (lM_timeBy_50 hC hQ (K25 := fun x1 x2 x3 x4 g => vM_timeBy_25 post k_ x1 x2 x3 x4 g) (fun _ _ _ _ _ h_ => ih _ _ _ _ _ h_) _ _ _ _ _ hv)
      · have hv := hv.2 h_
        refine j_iload hC dX12_timeBy_44 4 rfl ?_
        refine j_iload_n (i := 2) hC dX12_timeBy_46 rfl 2 rfl ?_
        refine j_icmp_ne (tgt := 150) hC dX12_timeBy_47 (by decide) (fun h_ => ?_) (fun h_ => ?_)
        · have hv := hv.1 h_
          refine j_aload_n (i := 0) hC dX12_timeBy_150 rfl 0 rfl ?_
          refine j_get (C := RX12) (T := TX12) (N := 22) (v := .ref (ad 10)) hC hinX12 0 (wM_c0 ad cy _) rfl 13 (by decide) (mw 6 rfl) rfl rfl dX12_timeBy_151 ?_
          refine j_iload hC dX12_timeBy_154 4 rfl ?_
          have hb156 := hv.1
          have hv := hv.2
          refine j_iald (v := ((m_minutes g) x4.toNatClampNeg)) hC 10 0 (wM_c10 ad cy _) rfl hb156 rfl dX12_timeBy_156 ?_
          refine j_iload_n (i := 3) hC dX12_timeBy_157 rfl 3 rfl ?_
          refine j_icmp_le (tgt := 171) hC dX12_timeBy_158 (by decide) (fun h_ => ?_) (fun h_ => ?_)
          · have hv := hv.1 h_
            refine j_iload_n (i := 3) hC dX12_timeBy_171 rfl 3 rfl ?_
            exact j_lv [0, 1, 2, 4] rfl (lM_timeBy_172 hC hQ (K25 := fun x1 x2 x3 x4 g => vM_timeBy_25 post k_ x1 x2 x3 x4 g) (fun _ _ _ _ _ h_ => ih _ _ _ _ _ h_) _ _ _ _ _ hv)
          · have hv := hv.2 h_
            refine j_aload_n (i := 0) hC dX12_timeBy_161 rfl 0 rfl ?_
            refine j_get (C := RX12) (T := TX12) (N := 22) (v := .ref (ad 10)) hC hinX12 0 (wM_c0 ad cy _) rfl 13 (by decide) (mw 6 rfl) rfl rfl dX12_timeBy_162 ?_
            refine j_iload hC dX12_timeBy_165 4 rfl ?_
            have hb167 := hv.1
            have hv := hv.2
            refine j_iald (v := ((m_minutes g) x4.toNatClampNeg)) hC 10 0 (wM_c10 ad cy _) rfl hb167 rfl dX12_timeBy_167 ?_
            refine j_goto (tgt := 172) hC dX12_timeBy_168 (by decide) ?_
            exact j_lv [0, 1, 2, 4] rfl (lM_timeBy_172 hC hQ (K25 := fun x1 x2 x3 x4 g => vM_timeBy_25 post k_ x1 x2 x3 x4 g) (fun _ _ _ _ _ h_ => ih _ _ _ _ _ h_) _ _ _ _ _ hv)
        · have hv := hv.2 h_
          exact j_lv [0, 1, 2, 3, 4] rfl (lM_timeBy_50 hC hQ (K25 := fun x1 x2 x3 x4 g => vM_timeBy_25 post k_ x1 x2 x3 x4 g) (fun _ _ _ _ _ h_ => ih _ _ _ _ _ h_) _ _ _ _ _ hv)
set_option maxHeartbeats 4000000 in
set_option maxRecDepth 100000 in
theorem lM_timeBy_20 {Γ : jG} {l : Launch} {D : va_G} {ad : Nat → Nat} {cy : Nat → ClassId} {post : Int32 → GM → Prop} (hC : jC Γ l rM_timeBy D 7 RX12 cX12_timeBy wsX12_timeBy (tyM cy)) (hQ : jQi Γ D (wM ad cy) post (some .int) 0 0) : ∀ (x1 : Int32) (x2 : Int32) (g : GM), vM_timeBy_20 post x1 x2 g → J Γ D 7 0 0 (wM ad cy g) 20 [(0, .ref (ad 0)), (1, .int x1), (2, .int x2)] [] := by
  have hinX12 : ∀ w ∈ wsX120, w ∈ wsX12_timeBy := fun w h => List.mem_cons_of_mem _ (List.mem_append_right _ h)
  intro x1 x2 g hv
  unfold vM_timeBy_20 at hv
  refine j_iconst (v := 0) hC dX12_timeBy_20 (by decide) ?_
  refine j_istore_n (i := 3) (lv' := [(3, .int (0 : Int32)), (0, .ref (ad 0)), (1, .int x1), (2, .int x2)]) hC dX12_timeBy_21 rfl (by decide) rfl ?_
  refine j_iconst (v := 0) hC dX12_timeBy_22 (by decide) ?_
  refine j_istore (lv' := [(4, .int (0 : Int32)), (3, .int (0 : Int32)), (0, .ref (ad 0)), (1, .int x1), (2, .int x2)]) hC dX12_timeBy_23 (by decide) rfl ?_
  obtain ⟨n_, hv⟩ := hv
  exact j_lv [2, 3, 4, 1, 0] rfl (lM_timeBy_25 hC hQ n_ _ _ _ _ _ hv)
set_option maxHeartbeats 4000000 in
set_option maxRecDepth 100000 in
theorem lM_timeBy_2 {Γ : jG} {l : Launch} {D : va_G} {ad : Nat → Nat} {cy : Nat → ClassId} {post : Int32 → GM → Prop} (hC : jC Γ l rM_timeBy D 7 RX12 cX12_timeBy wsX12_timeBy (tyM cy)) (hQ : jQi Γ D (wM ad cy) post (some .int) 0 0) : ∀ (n_ : Nat) (x1 : Int32) (x2 : Int32) (x3 : Int32) (g : GM), vM_timeBy_2 post n_ x1 x2 x3 g → J Γ D 7 0 0 (wM ad cy g) 2 [(0, .ref (ad 0)), (1, .int x1), (2, .int x2), (3, .int x3)] [] := by
  have hinX12 : ∀ w ∈ wsX120, w ∈ wsX12_timeBy := fun w h => List.mem_cons_of_mem _ (List.mem_append_right _ h)
  intro n_
  induction n_ with
  | zero => intro x1 x2 x3 g hv; exact False.elim hv
  | succ k_ ih =>
    intro x1 x2 x3 g hv
    unfold vM_timeBy_2 at hv
    refine j_iload_n (i := 3) hC dX12_timeBy_2 rfl 3 rfl ?_
    refine j_iconst (v := 3) hC dX12_timeBy_3 (by decide) ?_
    refine j_icmp_ge (tgt := 20) hC dX12_timeBy_4 (by decide) (fun h_ => ?_) (fun h_ => ?_)
    · have hv := hv.1 h_
      exact j_lv [0, 1, 2] rfl (lM_timeBy_20 hC hQ _ _ _ hv)
    · have hv := hv.2 h_
      refine j_aload_n (i := 0) hC dX12_timeBy_7 rfl 0 rfl ?_
      refine j_get (C := RX12) (T := TX12) (N := 22) (v := .ref (ad 13)) hC hinX12 0 (wM_c0 ad cy _) rfl 16 (by decide) (mw 1 rfl) rfl rfl dX12_timeBy_8 ?_
      refine j_iload_n (i := 3) hC dX12_timeBy_11 rfl 3 rfl ?_
      refine j_iconst (v := 0) hC dX12_timeBy_12 (by decide) ?_
      have hb13 := hv.1
      have hv := hv.2
      refine j_iast hC 13 0 (wM_c13 ad cy _) rfl hb13 (wM_s_crew ad cy _ _) dX12_timeBy_13 ?_
      refine j_iinc (k := 3) (v := (x3 + (1 : Int32))) (lv' := [(3, .int (x3 + (1 : Int32))), (0, .ref (ad 0)), (1, .int x1), (2, .int x2)]) hC dX12_timeBy_14 rfl rfl (by decide) rfl ?_
      refine j_goto (tgt := 2) hC dX12_timeBy_17 (by decide) ?_
      exact j_lv [1, 2, 3, 0] rfl (ih _ _ _ _ hv)
set_option maxHeartbeats 4000000 in
set_option maxRecDepth 100000 in
theorem cM_timeBy {l : Launch} {D : va_G} {ad : Nat → Nat} {cy : Nat → ClassId} {g : GM} {a1 : Int32} {a2 : Int32} {post : Int32 → GM → Prop} (hv : vM_timeBy g a1 a2 post) : jMi l yX12_timeBy wsX12_timeBy rM_timeBy D (tyM cy) [.ref (ad 0), .int a1, .int a2] (wM ad cy g) (wM ad cy) post 0 0 := by
  refine j_meti (cc := cX12_timeBy) (nL := 7) (rt := (some .int)) (by decide) (Nat.le_of_ble_eq_true rfl) ?_
  intro Γ hC hQ _
  have hC : jC Γ l rM_timeBy D 7 RX12 cX12_timeBy wsX12_timeBy (tyM cy) := hC
  have hinX12 : ∀ w ∈ wsX120, w ∈ wsX12_timeBy := fun w h => List.mem_cons_of_mem _ (List.mem_append_right _ h)
  refine j_lv (lv' := [(0, .ref (ad 0)), (1, .int a1), (2, .int a2)]) [0, 1, 2] rfl ?_
  unfold vM_timeBy at hv
  refine j_iconst (v := 0) hC dX12_timeBy_0 (by decide) ?_
  refine j_istore_n (i := 3) (lv' := [(3, .int (0 : Int32)), (0, .ref (ad 0)), (1, .int a1), (2, .int a2)]) hC dX12_timeBy_1 rfl (by decide) rfl ?_
  obtain ⟨n_, hv⟩ := hv
  exact j_lv [1, 2, 3, 0] rfl (lM_timeBy_2 hC hQ n_ _ _ _ _ hv)
theorem hdM_time : yX12_time.cls = RX12 ∧ yX12_time.cls ≠ "java/lang/invoke/MethodHandle" ∧ yX12_time.cls ≠ "java/lang/invoke/VarHandle" ∧ (parseMethodDescriptor yX12_time.desc).map (fun d => d.parameters.length) = some 2 := by decide +kernel
abbrev rM_time : Room := { frames := 1, cells := 0, slots := 0, locals := 26 }
def vM_time_98 (post : Int32 → GM → Prop) (K39 : Int32 → Int32 → Int32 → Int32 → Int32 → GM → Prop) (x1 : Int32) (x2 : Int32) (x3 : Int32) (x4 : Int32) (x5 : Int32) (g : GM) : Prop :=
  (K39 x1 x2 x3 x4 (x5 + (1 : Int32)) g)
def vM_time_94 (post : Int32 → GM → Prop) (K39 : Int32 → Int32 → Int32 → Int32 → Int32 → GM → Prop) (x1 : Int32) (x2 : Int32) (x5 : Int32) (t0 : Int32) (g : GM) : Prop :=
  (vM_time_98 post K39 x1 x2 t0 (1 : Int32) x5 g)
def vM_time_104 (post : Int32 → GM → Prop) (x1 : Int32) (x3 : Int32) (x4 : Int32) (g : GM) : Prop :=
  ((x4 = (0 : Int32) → (vM_timeBy g x1 (-1 : Int32) (fun r116 g116 => post r116 g116))) ∧ (¬ x4 = (0 : Int32) → post x3 g))
def vM_time_39 (post : Int32 → GM → Prop) : Nat → Int32 → Int32 → Int32 → Int32 → Int32 → GM → Prop
  | 0, _, _, _, _, _, _ => False
  | k_ + 1, x1, x2, x3, x4, x5, g =>
  (((m_gates g) ≤ x5 → (vM_time_104 post x1 x3 x4 g)) ∧ (¬ (m_gates g) ≤ x5 → ((¬ x2 = (1 : Int32) → (vM_time_104 post x1 x3 x4 g)) ∧ (x2 = (1 : Int32) → (vp_in x5 6 ∧ ((¬ ((m_hasFailed g) x5.toNatClampNeg) = (0 : Int32) → (vM_time_98 post (fun x1 x2 x3 x4 x5 g => vM_time_39 post k_ x1 x2 x3 x4 x5 g) x1 x2 x3 x4 x5 g)) ∧ (((m_hasFailed g) x5.toNatClampNeg) = (0 : Int32) → (vM_timeBy g x1 x5 (fun r67 g67 => ((¬ r67 = (-1000000 : Int32) → ((r67 ≤ x3 → (vM_time_94 post (fun x1 x2 x3 x4 x5 g => vM_time_39 post k_ x1 x2 x3 x4 x5 g) x1 x2 x5 x3 g67)) ∧ (¬ r67 ≤ x3 → (vM_time_94 post (fun x1 x2 x3 x4 x5 g => vM_time_39 post k_ x1 x2 x3 x4 x5 g) x1 x2 x5 r67 g67)))) ∧ (r67 = (-1000000 : Int32) → post (-1000000 : Int32) g67)))))))))))
def vM_time (g : GM) (a1 : Int32) (a2 : Int32) (post : Int32 → GM → Prop) : Prop :=
  (vM_in (sm_thrown g (0 : Int32)) (a1.toInt64) (1 : Int64) (3 : Int64) (fun r11 g11 => ((r11 = (0 : Int32) → post (-1000001 : Int32) g11) ∧ (¬ r11 = (0 : Int32) → (vM_in g11 (a2.toInt64) (0 : Int64) (1 : Int64) (fun r21 g21 => ((¬ r21 = (0 : Int32) → (∃ n_ : Nat, vM_time_39 post n_ a1 a2 (-1000000 : Int32) (0 : Int32) (0 : Int32) g21)) ∧ (r21 = (0 : Int32) → post (-1000001 : Int32) g21))))))))
set_option maxHeartbeats 4000000 in
set_option maxRecDepth 100000 in
theorem lM_time_98 {Γ : jG} {l : Launch} {D : va_G} {ad : Nat → Nat} {cy : Nat → ClassId} {post : Int32 → GM → Prop} (hC : jC Γ l rM_time D 7 RX12 cX12_time wsX12_time (tyM cy)) (hQ : jQi Γ D (wM ad cy) post (some .int) 0 0) {K39 : Int32 → Int32 → Int32 → Int32 → Int32 → GM → Prop} (hK39 : ∀ (x1 : Int32) (x2 : Int32) (x3 : Int32) (x4 : Int32) (x5 : Int32) (g : GM), K39 x1 x2 x3 x4 x5 g → J Γ D 7 0 0 (wM ad cy g) 39 [(0, .ref (ad 0)), (1, .int x1), (2, .int x2), (3, .int x3), (4, .int x4), (5, .int x5)] []) : ∀ (x1 : Int32) (x2 : Int32) (x3 : Int32) (x4 : Int32) (x5 : Int32) (g : GM), vM_time_98 post K39 x1 x2 x3 x4 x5 g → J Γ D 7 0 0 (wM ad cy g) 98 [(0, .ref (ad 0)), (1, .int x1), (2, .int x2), (3, .int x3), (4, .int x4), (5, .int x5)] [] := by
  have hinX12 : ∀ w ∈ wsX120, w ∈ wsX12_time := fun w h => List.mem_cons_of_mem _ (List.mem_append_right _ h)
  intro x1 x2 x3 x4 x5 g hv
  unfold vM_time_98 at hv
  refine j_iinc (k := 5) (v := (x5 + (1 : Int32))) (lv' := [(5, .int (x5 + (1 : Int32))), (0, .ref (ad 0)), (1, .int x1), (2, .int x2), (3, .int x3), (4, .int x4)]) hC dX12_time_98 rfl rfl (by decide) rfl ?_
  refine j_goto (tgt := 39) hC dX12_time_101 (by decide) ?_
  exact j_lv [1, 2, 3, 4, 5, 0] rfl (hK39 _ _ _ _ _ _ hv)
set_option maxHeartbeats 4000000 in
set_option maxRecDepth 100000 in
theorem lM_time_94 {Γ : jG} {l : Launch} {D : va_G} {ad : Nat → Nat} {cy : Nat → ClassId} {post : Int32 → GM → Prop} (hC : jC Γ l rM_time D 7 RX12 cX12_time wsX12_time (tyM cy)) (hQ : jQi Γ D (wM ad cy) post (some .int) 0 0) {K39 : Int32 → Int32 → Int32 → Int32 → Int32 → GM → Prop} (hK39 : ∀ (x1 : Int32) (x2 : Int32) (x3 : Int32) (x4 : Int32) (x5 : Int32) (g : GM), K39 x1 x2 x3 x4 x5 g → J Γ D 7 0 0 (wM ad cy g) 39 [(0, .ref (ad 0)), (1, .int x1), (2, .int x2), (3, .int x3), (4, .int x4), (5, .int x5)] []) : ∀ (x1 : Int32) (x2 : Int32) (x5 : Int32) (t0 : Int32) (g : GM), vM_time_94 post K39 x1 x2 x5 t0 g → J Γ D 7 0 0 (wM ad cy g) 94 [(0, .ref (ad 0)), (1, .int x1), (2, .int x2), (5, .int x5)] [.int t0] := by
  have hinX12 : ∀ w ∈ wsX120, w ∈ wsX12_time := fun w h => List.mem_cons_of_mem _ (List.mem_append_right _ h)
  intro x1 x2 x5 t0 g hv
  unfold vM_time_94 at hv
  refine j_istore_n (i := 3) (lv' := [(3, .int t0), (0, .ref (ad 0)), (1, .int x1), (2, .int x2), (5, .int x5)]) hC dX12_time_94 rfl (by decide) rfl ?_
  refine j_iconst (v := 1) hC dX12_time_95 (by decide) ?_
  refine j_istore (lv' := [(4, .int (1 : Int32)), (3, .int t0), (0, .ref (ad 0)), (1, .int x1), (2, .int x2), (5, .int x5)]) hC dX12_time_96 (by decide) rfl ?_
  exact j_lv [2, 3, 4, 1, 0, 5] rfl (lM_time_98 hC hQ hK39 _ _ _ _ _ _ hv)
set_option maxHeartbeats 4000000 in
set_option maxRecDepth 100000 in
theorem lM_time_104 {Γ : jG} {l : Launch} {D : va_G} {ad : Nat → Nat} {cy : Nat → ClassId} {post : Int32 → GM → Prop} (hC : jC Γ l rM_time D 7 RX12 cX12_time wsX12_time (tyM cy)) (hQ : jQi Γ D (wM ad cy) post (some .int) 0 0) : ∀ (x1 : Int32) (x3 : Int32) (x4 : Int32) (g : GM), vM_time_104 post x1 x3 x4 g → J Γ D 7 0 0 (wM ad cy g) 104 [(0, .ref (ad 0)), (1, .int x1), (3, .int x3), (4, .int x4)] [] := by
  have hinX12 : ∀ w ∈ wsX120, w ∈ wsX12_time := fun w h => List.mem_cons_of_mem _ (List.mem_append_right _ h)
  intro x1 x3 x4 g hv
  unfold vM_time_104 at hv
  refine j_iload hC dX12_time_104 3 rfl ?_
  refine j_if_eq (tgt := 113) hC dX12_time_106 (by decide) (fun h_ => ?_) (fun h_ => ?_)
  · have hv := hv.1 h_
    refine j_aload_n (i := 0) hC dX12_time_113 rfl 0 rfl ?_
    refine j_iload_n (i := 1) hC dX12_time_114 rfl 1 rfl ?_
    refine j_iconst (v := -1) hC dX12_time_115 (by decide) ?_
    refine j_callV_i (C := RX12) (As := [.int x1, .int (-1 : Int32)]) (rest := []) (b := (ad 0)) hC (cM_timeBy hv) 2 gX12_time_X12_timeBy rfl rfl rfl ⟨Nat.le_of_ble_eq_true rfl, Nat.le_of_ble_eq_true rfl⟩ hdM_timeBy rfl (wM_c0 ad cy _) rfl rfl (Nat.le_of_ble_eq_true rfl) ⟨Nat.zero_le _, Nat.zero_le _⟩ dX12_time_116 (fun r116 g116 hv => ?_)
    exact j_iret hC hQ dX12_time_119 rfl hv
  · have hv := hv.2 h_
    refine j_iload_n (i := 3) hC dX12_time_109 rfl 2 rfl ?_
    refine j_goto (tgt := 119) hC dX12_time_110 (by decide) ?_
    exact j_iret hC hQ dX12_time_119 rfl hv
set_option maxHeartbeats 4000000 in
set_option maxRecDepth 100000 in
theorem lM_time_39 {Γ : jG} {l : Launch} {D : va_G} {ad : Nat → Nat} {cy : Nat → ClassId} {post : Int32 → GM → Prop} (hC : jC Γ l rM_time D 7 RX12 cX12_time wsX12_time (tyM cy)) (hQ : jQi Γ D (wM ad cy) post (some .int) 0 0) : ∀ (n_ : Nat) (x1 : Int32) (x2 : Int32) (x3 : Int32) (x4 : Int32) (x5 : Int32) (g : GM), vM_time_39 post n_ x1 x2 x3 x4 x5 g → J Γ D 7 0 0 (wM ad cy g) 39 [(0, .ref (ad 0)), (1, .int x1), (2, .int x2), (3, .int x3), (4, .int x4), (5, .int x5)] [] := by
  have hinX12 : ∀ w ∈ wsX120, w ∈ wsX12_time := fun w h => List.mem_cons_of_mem _ (List.mem_append_right _ h)
  intro n_
  induction n_ with
  | zero => intro x1 x2 x3 x4 x5 g hv; exact False.elim hv
  | succ k_ ih =>
    intro x1 x2 x3 x4 x5 g hv
    unfold vM_time_39 at hv
    refine j_iload hC dX12_time_39 5 rfl ?_
    refine j_aload_n (i := 0) hC dX12_time_41 rfl 0 rfl ?_
    refine j_get (C := RX12) (T := TX12) (N := 22) (v := .int (m_gates g)) hC hinX12 0 (wM_c0 ad cy _) rfl 12 (by decide) (mw 5 rfl) rfl rfl dX12_time_42 ?_
    refine j_icmp_ge (tgt := 104) hC dX12_time_45 (by decide) (fun h_ => ?_) (fun h_ => ?_)
    · have hv := hv.1 h_
      exact j_lv [0, 1, 3, 4] rfl (lM_time_104 hC hQ _ _ _ _ hv)
    · have hv := hv.2 h_
      refine j_iload_n (i := 2) hC dX12_time_48 rfl 2 rfl ?_
      refine j_iconst (v := 1) hC dX12_time_49 (by decide) ?_
      refine j_icmp_ne (tgt := 104) hC dX12_time_50 (by decide) (fun h_ => ?_) (fun h_ => ?_)
      · have hv := hv.1 h_
        exact j_lv [0, 1, 3, 4] rfl (lM_time_104 hC hQ _ _ _ _ hv)
      · have hv := hv.2 h_
        refine j_aload_n (i := 0) hC dX12_time_53 rfl 0 rfl ?_
        refine j_get (C := RX12) (T := TX12) (N := 22) (v := .ref (ad 12)) hC hinX12 0 (wM_c0 ad cy _) rfl 15 (by decide) (mw 6 rfl) rfl rfl dX12_time_54 ?_
        refine j_iload hC dX12_time_57 5 rfl ?_
        have hb59 := hv.1
        have hv := hv.2
        refine j_zald (v := ((m_hasFailed g) x5.toNatClampNeg)) hC 12 2 (wM_c12 ad cy _) rfl hb59 rfl dX12_time_59 ?_
        refine j_if_ne (tgt := 98) hC dX12_time_60 (by decide) (fun h_ => ?_) (fun h_ => ?_)
        · have hv := hv.1 h_
          exact j_lv [0, 1, 2, 3, 4, 5] rfl (lM_time_98 hC hQ (K39 := fun x1 x2 x3 x4 x5 g => vM_time_39 post k_ x1 x2 x3 x4 x5 g) (fun _ _ _ _ _ _ h_ => ih _ _ _ _ _ _ h_) _ _ _ _ _ _ hv)
        · have hv := hv.2 h_
          refine j_aload_n (i := 0) hC dX12_time_63 rfl 0 rfl ?_
          refine j_iload_n (i := 1) hC dX12_time_64 rfl 1 rfl ?_
          refine j_iload hC dX12_time_65 5 rfl ?_
          refine j_callV_i (C := RX12) (As := [.int x1, .int x5]) (rest := []) (b := (ad 0)) hC (cM_timeBy hv) 2 gX12_time_X12_timeBy rfl rfl rfl ⟨Nat.le_of_ble_eq_true rfl, Nat.le_of_ble_eq_true rfl⟩ hdM_timeBy rfl (wM_c0 ad cy _) rfl rfl (Nat.le_of_ble_eq_true rfl) ⟨Nat.zero_le _, Nat.zero_le _⟩ dX12_time_67 (fun r67 g67 hv => ?_)
          refine j_istore (lv' := [(6, .int r67), (0, .ref (ad 0)), (1, .int x1), (2, .int x2), (3, .int x3), (4, .int x4), (5, .int x5)]) hC dX12_time_70 (by decide) rfl ?_
          refine j_iload hC dX12_time_72 0 rfl ?_
          refine j_ldc (v := -1000000) hC dX12_time_74 (mw 4 rfl) ?_
          refine j_icmp_ne (tgt := 82) hC dX12_time_76 (by decide) (fun h_ => ?_) (fun h_ => ?_)
          · have hv := hv.1 h_
            refine j_iload hC dX12_time_82 0 rfl ?_
            refine j_iload_n (i := 3) hC dX12_time_84 rfl 4 rfl ?_
            refine j_icmp_le (tgt := 93) hC dX12_time_85 (by decide) (fun h_ => ?_) (fun h_ => ?_)
            · have hv := hv.1 h_
              refine j_iload_n (i := 3) hC dX12_time_93 rfl 4 rfl ?_
              exact j_lv [1, 2, 3, 6] rfl (lM_time_94 hC hQ (K39 := fun x1 x2 x3 x4 x5 g => vM_time_39 post k_ x1 x2 x3 x4 x5 g) (fun _ _ _ _ _ _ h_ => ih _ _ _ _ _ _ h_) _ _ _ _ _ hv)
            · have hv := hv.2 h_
              refine j_iload hC dX12_time_88 0 rfl ?_
              refine j_goto (tgt := 94) hC dX12_time_90 (by decide) ?_
              exact j_lv [1, 2, 3, 6] rfl (lM_time_94 hC hQ (K39 := fun x1 x2 x3 x4 x5 g => vM_time_39 post k_ x1 x2 x3 x4 x5 g) (fun _ _ _ _ _ _ h_ => ih _ _ _ _ _ _ h_) _ _ _ _ _ hv)
          · have hv := hv.2 h_
            refine j_ldc (v := -1000000) hC dX12_time_79 (mw 4 rfl) ?_
            exact j_iret hC hQ dX12_time_81 rfl hv
set_option maxHeartbeats 4000000 in
set_option maxRecDepth 100000 in
theorem cM_time {l : Launch} {D : va_G} {ad : Nat → Nat} {cy : Nat → ClassId} {g : GM} {a1 : Int32} {a2 : Int32} {post : Int32 → GM → Prop} (hv : vM_time g a1 a2 post) : jMi l yX12_time wsX12_time rM_time D (tyM cy) [.ref (ad 0), .int a1, .int a2] (wM ad cy g) (wM ad cy) post 0 0 := by
  refine j_meti (cc := cX12_time) (nL := 7) (rt := (some .int)) (by decide) (Nat.le_of_ble_eq_true rfl) ?_
  intro Γ hC hQ _
  have hC : jC Γ l rM_time D 7 RX12 cX12_time wsX12_time (tyM cy) := hC
  have hinX12 : ∀ w ∈ wsX120, w ∈ wsX12_time := fun w h => List.mem_cons_of_mem _ (List.mem_append_right _ h)
  refine j_lv (lv' := [(0, .ref (ad 0)), (1, .int a1), (2, .int a2)]) [0, 1, 2] rfl ?_
  unfold vM_time at hv
  refine j_aload_n (i := 0) hC dX12_time_0 rfl 0 rfl ?_
  refine j_iconst (v := 0) hC dX12_time_1 (by decide) ?_
  refine j_put (C := RX12) (T := TX12) (N := 22) (ty := .int) hC hinX12 tyX12 tyX12_ok nmX12 0 (wM_c0 ad cy _) rfl 0 (by decide) (mw 1 rfl) rfl rfl fdX12_0 rfl rfl (Nat.le_of_ble_eq_true rfl) (wM_p_thrown ad cy _ _) dX12_time_2 ?_
  refine j_iload_n (i := 1) hC dX12_time_5 rfl 1 rfl ?_
  refine j_i2l hC dX12_time_6 ?_
  refine j_lconst (v := 1) hC dX12_time_7 (by decide) ?_
  refine j_ldc2 (v := 3) hC dX12_time_8 (mw 2 rfl) ?_
  refine j_callS_i (As := [.long (a1.toInt64), .long (1 : Int64), .long (3 : Int64)]) (rest := []) hC (cM_in hv) 3 gX12_time_X12_in rfl rfl rfl ⟨Nat.le_of_ble_eq_true rfl, Nat.le_of_ble_eq_true rfl⟩ hdM_in.2 rfl rfl (Nat.le_of_ble_eq_true rfl) ⟨Nat.zero_le _, Nat.zero_le _⟩ dX12_time_11 (fun r11 g11 hv => ?_)
  refine j_if_eq (tgt := 27) hC dX12_time_14 (by decide) (fun h_ => ?_) (fun h_ => ?_)
  · have hv := hv.1 h_
    refine j_ldc (v := -1000001) hC dX12_time_27 (mw 3 rfl) ?_
    exact j_iret hC hQ dX12_time_29 rfl hv
  · have hv := hv.2 h_
    refine j_iload_n (i := 2) hC dX12_time_17 rfl 2 rfl ?_
    refine j_i2l hC dX12_time_18 ?_
    refine j_lconst (v := 0) hC dX12_time_19 (by decide) ?_
    refine j_lconst (v := 1) hC dX12_time_20 (by decide) ?_
    refine j_callS_i (As := [.long (a2.toInt64), .long (0 : Int64), .long (1 : Int64)]) (rest := []) hC (cM_in hv) 3 gX12_time_X12_in rfl rfl rfl ⟨Nat.le_of_ble_eq_true rfl, Nat.le_of_ble_eq_true rfl⟩ hdM_in.2 rfl rfl (Nat.le_of_ble_eq_true rfl) ⟨Nat.zero_le _, Nat.zero_le _⟩ dX12_time_21 (fun r21 g21 hv => ?_)
    refine j_if_ne (tgt := 30) hC dX12_time_24 (by decide) (fun h_ => ?_) (fun h_ => ?_)
    · have hv := hv.1 h_
      refine j_ldc (v := -1000000) hC dX12_time_30 (mw 4 rfl) ?_
      refine j_istore_n (i := 3) (lv' := [(3, .int (-1000000 : Int32)), (0, .ref (ad 0)), (1, .int a1), (2, .int a2)]) hC dX12_time_32 rfl (by decide) rfl ?_
      refine j_iconst (v := 0) hC dX12_time_33 (by decide) ?_
      refine j_istore (lv' := [(4, .int (0 : Int32)), (3, .int (-1000000 : Int32)), (0, .ref (ad 0)), (1, .int a1), (2, .int a2)]) hC dX12_time_34 (by decide) rfl ?_
      refine j_iconst (v := 0) hC dX12_time_36 (by decide) ?_
      refine j_istore (lv' := [(5, .int (0 : Int32)), (4, .int (0 : Int32)), (3, .int (-1000000 : Int32)), (0, .ref (ad 0)), (1, .int a1), (2, .int a2)]) hC dX12_time_37 (by decide) rfl ?_
      obtain ⟨n_, hv⟩ := hv
      exact j_lv [3, 4, 5, 2, 1, 0] rfl (lM_time_39 hC hQ n_ _ _ _ _ _ _ hv)
    · have hv := hv.2 h_
      refine j_ldc (v := -1000001) hC dX12_time_27 (mw 3 rfl) ?_
      exact j_iret hC hQ dX12_time_29 rfl hv
theorem hdM_ship : yX12_ship.cls = RX12 ∧ yX12_ship.cls ≠ "java/lang/invoke/MethodHandle" ∧ yX12_ship.cls ≠ "java/lang/invoke/VarHandle" ∧ (parseMethodDescriptor yX12_ship.desc).map (fun d => d.parameters.length) = some 2 := by decide +kernel
abbrev rM_ship : Room := { frames := 1, cells := 0, slots := 0, locals := 25 }
def vM_ship (g : GM) (a1 : Int32) (a2 : Int32) (post : Int32 → GM → Prop) : Prop :=
  (vM_in (sm_thrown g (0 : Int32)) (a1.toInt64) (0 : Int64) (100000 : Int64) (fun r11 g11 => ((r11 = (0 : Int32) → post (-1000001 : Int32) g11) ∧ (¬ r11 = (0 : Int32) → (vM_in g11 (a2.toInt64) (1 : Int64) (500 : Int64) (fun r23 g23 => ((¬ r23 = (0 : Int32) → ((¬ (m_ships g23) = (20 : Int32) → (vp_in (m_ships g23) 20 ∧ (vp_in (m_ships g23) 20 ∧ post (((m_ships g23) + (1 : Int32)) - (1 : Int32)) (sm_ships (sm_takes (sm_comes g23 (upd (m_comes g23) (m_ships g23).toNatClampNeg a1)) (upd (m_takes g23) (m_ships g23).toNatClampNeg a2)) ((m_ships g23) + (1 : Int32)))))) ∧ ((m_ships g23) = (20 : Int32) → post (-1000003 : Int32) g23))) ∧ (r23 = (0 : Int32) → post (-1000001 : Int32) g23))))))))
set_option maxHeartbeats 4000000 in
set_option maxRecDepth 100000 in
theorem cM_ship {l : Launch} {D : va_G} {ad : Nat → Nat} {cy : Nat → ClassId} {g : GM} {a1 : Int32} {a2 : Int32} {post : Int32 → GM → Prop} (hv : vM_ship g a1 a2 post) : jMi l yX12_ship wsX12_ship rM_ship D (tyM cy) [.ref (ad 0), .int a1, .int a2] (wM ad cy g) (wM ad cy) post 0 0 := by
  refine j_meti (cc := cX12_ship) (nL := 3) (rt := (some .int)) (by decide) (Nat.le_of_ble_eq_true rfl) ?_
  intro Γ hC hQ _
  have hC : jC Γ l rM_ship D 3 RX12 cX12_ship wsX12_ship (tyM cy) := hC
  have hinX12 : ∀ w ∈ wsX120, w ∈ wsX12_ship := fun w h => List.mem_cons_of_mem _ (List.mem_append_right _ h)
  refine j_lv (lv' := [(0, .ref (ad 0)), (1, .int a1), (2, .int a2)]) [0, 1, 2] rfl ?_
  unfold vM_ship at hv
  refine j_aload_n (i := 0) hC dX12_ship_0 rfl 0 rfl ?_
  refine j_iconst (v := 0) hC dX12_ship_1 (by decide) ?_
  refine j_put (C := RX12) (T := TX12) (N := 22) (ty := .int) hC hinX12 tyX12 tyX12_ok nmX12 0 (wM_c0 ad cy _) rfl 0 (by decide) (mw 1 rfl) rfl rfl fdX12_0 rfl rfl (Nat.le_of_ble_eq_true rfl) (wM_p_thrown ad cy _ _) dX12_ship_2 ?_
  refine j_iload_n (i := 1) hC dX12_ship_5 rfl 1 rfl ?_
  refine j_i2l hC dX12_ship_6 ?_
  refine j_lconst (v := 0) hC dX12_ship_7 (by decide) ?_
  refine j_ldc2 (v := 100000) hC dX12_ship_8 (mw 2 rfl) ?_
  refine j_callS_i (As := [.long (a1.toInt64), .long (0 : Int64), .long (100000 : Int64)]) (rest := []) hC (cM_in hv) 3 gX12_ship_X12_in rfl rfl rfl ⟨Nat.le_of_ble_eq_true rfl, Nat.le_of_ble_eq_true rfl⟩ hdM_in.2 rfl rfl (Nat.le_of_ble_eq_true rfl) ⟨Nat.zero_le _, Nat.zero_le _⟩ dX12_ship_11 (fun r11 g11 hv => ?_)
  refine j_if_eq (tgt := 29) hC dX12_ship_14 (by decide) (fun h_ => ?_) (fun h_ => ?_)
  · have hv := hv.1 h_
    refine j_ldc (v := -1000001) hC dX12_ship_29 (mw 4 rfl) ?_
    exact j_iret hC hQ dX12_ship_31 rfl hv
  · have hv := hv.2 h_
    refine j_iload_n (i := 2) hC dX12_ship_17 rfl 2 rfl ?_
    refine j_i2l hC dX12_ship_18 ?_
    refine j_lconst (v := 1) hC dX12_ship_19 (by decide) ?_
    refine j_ldc2 (v := 500) hC dX12_ship_20 (mw 3 rfl) ?_
    refine j_callS_i (As := [.long (a2.toInt64), .long (1 : Int64), .long (500 : Int64)]) (rest := []) hC (cM_in hv) 3 gX12_ship_X12_in rfl rfl rfl ⟨Nat.le_of_ble_eq_true rfl, Nat.le_of_ble_eq_true rfl⟩ hdM_in.2 rfl rfl (Nat.le_of_ble_eq_true rfl) ⟨Nat.zero_le _, Nat.zero_le _⟩ dX12_ship_23 (fun r23 g23 hv => ?_)
    refine j_if_ne (tgt := 32) hC dX12_ship_26 (by decide) (fun h_ => ?_) (fun h_ => ?_)
    · have hv := hv.1 h_
      refine j_aload_n (i := 0) hC dX12_ship_32 rfl 0 rfl ?_
      refine j_get (C := RX12) (T := TX12) (N := 22) (v := .int (m_ships g23)) hC hinX12 0 (wM_c0 ad cy _) rfl 17 (by decide) (mw 5 rfl) rfl rfl dX12_ship_33 ?_
      refine j_bipush (v := 20) hC dX12_ship_36 (by decide) ?_
      refine j_icmp_ne (tgt := 44) hC dX12_ship_38 (by decide) (fun h_ => ?_) (fun h_ => ?_)
      · have hv := hv.1 h_
        refine j_aload_n (i := 0) hC dX12_ship_44 rfl 0 rfl ?_
        refine j_get (C := RX12) (T := TX12) (N := 22) (v := .ref (ad 14)) hC hinX12 0 (wM_c0 ad cy _) rfl 18 (by decide) (mw 7 rfl) rfl rfl dX12_ship_45 ?_
        refine j_aload_n (i := 0) hC dX12_ship_48 rfl 0 rfl ?_
        refine j_get (C := RX12) (T := TX12) (N := 22) (v := .int (m_ships g23)) hC hinX12 0 (wM_c0 ad cy _) rfl 17 (by decide) (mw 5 rfl) rfl rfl dX12_ship_49 ?_
        refine j_iload_n (i := 1) hC dX12_ship_52 rfl 1 rfl ?_
        have hb53 := hv.1
        have hv := hv.2
        refine j_iast hC 14 0 (wM_c14 ad cy _) rfl hb53 (wM_s_comes ad cy _ _) dX12_ship_53 ?_
        refine j_aload_n (i := 0) hC dX12_ship_54 rfl 0 rfl ?_
        refine j_get (C := RX12) (T := TX12) (N := 22) (v := .ref (ad 15)) hC hinX12 0 (wM_c0 ad cy _) rfl 19 (by decide) (mw 8 rfl) rfl rfl dX12_ship_55 ?_
        refine j_aload_n (i := 0) hC dX12_ship_58 rfl 0 rfl ?_
        refine j_get (C := RX12) (T := TX12) (N := 22) (v := .int (m_ships g23)) hC hinX12 0 (wM_c0 ad cy _) rfl 17 (by decide) (mw 5 rfl) rfl rfl dX12_ship_59 ?_
        refine j_iload_n (i := 2) hC dX12_ship_62 rfl 2 rfl ?_
        have hb63 := hv.1
        have hv := hv.2
        refine j_iast hC 15 0 (wM_c15 ad cy _) rfl hb63 (wM_s_takes ad cy _ _) dX12_ship_63 ?_
        refine j_aload_n (i := 0) hC dX12_ship_64 rfl 0 rfl ?_
        refine j_dup hC dX12_ship_65 rfl ?_
        refine j_get (C := RX12) (T := TX12) (N := 22) (v := .int (m_ships g23)) hC hinX12 0 (wM_c0 ad cy _) rfl 17 (by decide) (mw 5 rfl) rfl rfl dX12_ship_66 ?_
        refine j_iconst (v := 1) hC dX12_ship_69 (by decide) ?_
        refine j_iadd hC dX12_ship_70 ?_
        refine j_put (C := RX12) (T := TX12) (N := 22) (ty := .int) hC hinX12 tyX12 tyX12_ok nmX12 0 (wM_c0 ad cy _) rfl 17 (by decide) (mw 5 rfl) rfl rfl fdX12_17 rfl rfl (Nat.le_of_ble_eq_true rfl) (wM_p_ships ad cy _ _) dX12_ship_71 ?_
        refine j_aload_n (i := 0) hC dX12_ship_74 rfl 0 rfl ?_
        refine j_get (C := RX12) (T := TX12) (N := 22) (v := .int ((m_ships g23) + (1 : Int32))) hC hinX12 0 (wM_c0 ad cy _) rfl 17 (by decide) (mw 5 rfl) rfl rfl dX12_ship_75 ?_
        refine j_iconst (v := 1) hC dX12_ship_78 (by decide) ?_
        refine j_isub hC dX12_ship_79 ?_
        exact j_iret hC hQ dX12_ship_80 rfl hv
      · have hv := hv.2 h_
        refine j_ldc (v := -1000003) hC dX12_ship_41 (mw 6 rfl) ?_
        exact j_iret hC hQ dX12_ship_43 rfl hv
    · have hv := hv.2 h_
      refine j_ldc (v := -1000001) hC dX12_ship_29 (mw 4 rfl) ?_
      exact j_iret hC hQ dX12_ship_31 rfl hv
theorem hdM_waits : yX12_waits.cls = RX12 ∧ yX12_waits.cls ≠ "java/lang/invoke/MethodHandle" ∧ yX12_waits.cls ≠ "java/lang/invoke/VarHandle" ∧ (parseMethodDescriptor yX12_waits.desc).map (fun d => d.parameters.length) = some 3 := by decide +kernel
abbrev rM_waits : Room := { frames := 1, cells := 0, slots := 0, locals := 25 }
def vM_waits_109 (post : Int32 → GM → Prop) (K55 : Int32 → Int32 → Int32 → Int32 → Int32 → GM → Prop) (K62 : Int32 → Int32 → Int32 → Int32 → Int32 → Int32 → Int32 → GM → Prop) (x1 : Int32) (x2 : Int32) (x3 : Int32) (x4 : Int32) (x5 : Int32) (x6 : Int32) (x7 : Int32) (g : GM) : Prop :=
  (K62 x1 x2 x3 x4 x5 x6 (x7 + (1 : Int32)) g)
def vM_waits_105 (post : Int32 → GM → Prop) (K55 : Int32 → Int32 → Int32 → Int32 → Int32 → GM → Prop) (K62 : Int32 → Int32 → Int32 → Int32 → Int32 → Int32 → Int32 → GM → Prop) (x1 : Int32) (x2 : Int32) (x3 : Int32) (x4 : Int32) (x5 : Int32) (x7 : Int32) (g : GM) : Prop :=
  (vM_waits_109 post K55 K62 x1 x2 x3 x4 x5 x7 x7 g)
def vM_waits_167 (post : Int32 → GM → Prop) (x1 : Int32) (x7 : Int32) (g : GM) : Prop :=
  (vp_in x1 20 ∧ post (x7 - ((m_comes g) x1.toNatClampNeg)) g)
def vM_waits_159 (post : Int32 → GM → Prop) (K55 : Int32 → Int32 → Int32 → Int32 → Int32 → GM → Prop) (x1 : Int32) (x2 : Int32) (x3 : Int32) (x4 : Int32) (x6 : Int32) (t0 : Int32) (g : GM) : Prop :=
  ((¬ x6 = x1 → (vp_in x6 20 ∧ (K55 x1 x2 x3 (x4 ||| ((1 : Int32) <<< (x6 &&& 31))) (t0 + ((m_takes g) x6.toNatClampNeg)) g))) ∧ (x6 = x1 → (vM_waits_167 post x1 t0 g)))
def vM_waits_157 (post : Int32 → GM → Prop) (K55 : Int32 → Int32 → Int32 → Int32 → Int32 → GM → Prop) (x1 : Int32) (x2 : Int32) (x3 : Int32) (x4 : Int32) (x6 : Int32) (x7 : Int32) (g : GM) : Prop :=
  (vM_waits_159 post K55 x1 x2 x3 x4 x6 x7 g)
def vM_waits_139 (post : Int32 → GM → Prop) (K55 : Int32 → Int32 → Int32 → Int32 → Int32 → GM → Prop) (x1 : Int32) (x2 : Int32) (x3 : Int32) (x4 : Int32) (x6 : Int32) (t0 : Int32) (g : GM) : Prop :=
  ((t0 < x2 → (vM_waits_157 post K55 x1 x2 x3 x4 x6 t0 g)) ∧ (¬ t0 < x2 → ((x3 ≤ t0 → (vM_waits_157 post K55 x1 x2 x3 x4 x6 t0 g)) ∧ (¬ x3 ≤ t0 → (vM_waits_159 post K55 x1 x2 x3 x4 x6 x3 g)))))
def vM_waits_115 (post : Int32 → GM → Prop) (K55 : Int32 → Int32 → Int32 → Int32 → Int32 → GM → Prop) (x1 : Int32) (x2 : Int32) (x3 : Int32) (x4 : Int32) (x5 : Int32) (x6 : Int32) (g : GM) : Prop :=
  (vp_in x6 20 ∧ ((((m_comes g) x6.toNatClampNeg) ≤ x5 → (vM_waits_139 post K55 x1 x2 x3 x4 x6 x5 g)) ∧ (¬ ((m_comes g) x6.toNatClampNeg) ≤ x5 → (vp_in x6 20 ∧ (vM_waits_139 post K55 x1 x2 x3 x4 x6 ((m_comes g) x6.toNatClampNeg) g)))))
def vM_waits_62 (post : Int32 → GM → Prop) (K55 : Int32 → Int32 → Int32 → Int32 → Int32 → GM → Prop) : Nat → Int32 → Int32 → Int32 → Int32 → Int32 → Int32 → Int32 → GM → Prop
  | 0, _, _, _, _, _, _, _, _ => False
  | k_ + 1, x1, x2, x3, x4, x5, x6, x7, g =>
  (((m_ships g) ≤ x7 → (vM_waits_115 post K55 x1 x2 x3 x4 x5 x6 g)) ∧ (¬ (m_ships g) ≤ x7 → ((¬ ((x4 >>> (x7 &&& 31)) &&& (1 : Int32)) = (0 : Int32) → (vM_waits_109 post K55 (fun x1 x2 x3 x4 x5 x6 x7 g => vM_waits_62 post K55 k_ x1 x2 x3 x4 x5 x6 x7 g) x1 x2 x3 x4 x5 x6 x7 g)) ∧ (((x4 >>> (x7 &&& 31)) &&& (1 : Int32)) = (0 : Int32) → ((x6 = (-1000000 : Int32) → (vM_waits_105 post K55 (fun x1 x2 x3 x4 x5 x6 x7 g => vM_waits_62 post K55 k_ x1 x2 x3 x4 x5 x6 x7 g) x1 x2 x3 x4 x5 x7 g)) ∧ (¬ x6 = (-1000000 : Int32) → (vp_in x7 20 ∧ (vp_in x6 20 ∧ ((((m_comes g) x6.toNatClampNeg) ≤ ((m_comes g) x7.toNatClampNeg) → (vM_waits_109 post K55 (fun x1 x2 x3 x4 x5 x6 x7 g => vM_waits_62 post K55 k_ x1 x2 x3 x4 x5 x6 x7 g) x1 x2 x3 x4 x5 x6 x7 g)) ∧ (¬ ((m_comes g) x6.toNatClampNeg) ≤ ((m_comes g) x7.toNatClampNeg) → (vM_waits_105 post K55 (fun x1 x2 x3 x4 x5 x6 x7 g => vM_waits_62 post K55 k_ x1 x2 x3 x4 x5 x6 x7 g) x1 x2 x3 x4 x5 x7 g)))))))))))
def vM_waits_55 (post : Int32 → GM → Prop) : Nat → Int32 → Int32 → Int32 → Int32 → Int32 → GM → Prop
  | 0, _, _, _, _, _, _ => False
  | k_ + 1, x1, x2, x3, x4, x5, g =>
  (∃ n_ : Nat, vM_waits_62 post (fun x1 x2 x3 x4 x5 g => vM_waits_55 post k_ x1 x2 x3 x4 x5 g) n_ x1 x2 x3 x4 x5 (-1000000 : Int32) (0 : Int32) g)
def vM_waits (g : GM) (a1 : Int32) (a2 : Int32) (a3 : Int32) (post : Int32 → GM → Prop) : Prop :=
  (vM_in (sm_thrown g (0 : Int32)) (a1.toInt64) (0 : Int64) (((m_ships g) - (1 : Int32)).toInt64) (fun r15 g15 => ((r15 = (0 : Int32) → post (-1000001 : Int32) g15) ∧ (¬ r15 = (0 : Int32) → (vM_in g15 (a2.toInt64) (0 : Int64) (100000 : Int64) (fun r27 g27 => ((r27 = (0 : Int32) → post (-1000001 : Int32) g27) ∧ (¬ r27 = (0 : Int32) → (vM_in g27 (a3.toInt64) (a2.toInt64) (100000 : Int64) (fun r40 g40 => ((¬ r40 = (0 : Int32) → (∃ n_ : Nat, vM_waits_55 post n_ a1 a2 a3 (0 : Int32) (0 : Int32) g40)) ∧ (r40 = (0 : Int32) → post (-1000001 : Int32) g40))))))))))))
set_option maxHeartbeats 4000000 in
set_option maxRecDepth 100000 in
theorem lM_waits_109 {Γ : jG} {l : Launch} {D : va_G} {ad : Nat → Nat} {cy : Nat → ClassId} {post : Int32 → GM → Prop} (hC : jC Γ l rM_waits D 8 RX12 cX12_waits wsX12_waits (tyM cy)) (hQ : jQi Γ D (wM ad cy) post (some .int) 0 0) {K55 : Int32 → Int32 → Int32 → Int32 → Int32 → GM → Prop} (hK55 : ∀ (x1 : Int32) (x2 : Int32) (x3 : Int32) (x4 : Int32) (x5 : Int32) (g : GM), K55 x1 x2 x3 x4 x5 g → J Γ D 8 0 0 (wM ad cy g) 55 [(0, .ref (ad 0)), (1, .int x1), (2, .int x2), (3, .int x3), (4, .int x4), (5, .int x5)] []) {K62 : Int32 → Int32 → Int32 → Int32 → Int32 → Int32 → Int32 → GM → Prop} (hK62 : ∀ (x1 : Int32) (x2 : Int32) (x3 : Int32) (x4 : Int32) (x5 : Int32) (x6 : Int32) (x7 : Int32) (g : GM), K62 x1 x2 x3 x4 x5 x6 x7 g → J Γ D 8 0 0 (wM ad cy g) 62 [(0, .ref (ad 0)), (1, .int x1), (2, .int x2), (3, .int x3), (4, .int x4), (5, .int x5), (6, .int x6), (7, .int x7)] []) : ∀ (x1 : Int32) (x2 : Int32) (x3 : Int32) (x4 : Int32) (x5 : Int32) (x6 : Int32) (x7 : Int32) (g : GM), vM_waits_109 post K55 K62 x1 x2 x3 x4 x5 x6 x7 g → J Γ D 8 0 0 (wM ad cy g) 109 [(0, .ref (ad 0)), (1, .int x1), (2, .int x2), (3, .int x3), (4, .int x4), (5, .int x5), (6, .int x6), (7, .int x7)] [] := by
  have hinX12 : ∀ w ∈ wsX120, w ∈ wsX12_waits := fun w h => List.mem_cons_of_mem _ (List.mem_append_right _ h)
  intro x1 x2 x3 x4 x5 x6 x7 g hv
  unfold vM_waits_109 at hv
  refine j_iinc (k := 7) (v := (x7 + (1 : Int32))) (lv' := [(7, .int (x7 + (1 : Int32))), (0, .ref (ad 0)), (1, .int x1), (2, .int x2), (3, .int x3), (4, .int x4), (5, .int x5), (6, .int x6)]) hC dX12_waits_109 rfl rfl (by decide) rfl ?_
  refine j_goto (tgt := 62) hC dX12_waits_112 (by decide) ?_
  exact j_lv [1, 2, 3, 4, 5, 6, 7, 0] rfl (hK62 _ _ _ _ _ _ _ _ hv)
set_option maxHeartbeats 4000000 in
set_option maxRecDepth 100000 in
theorem lM_waits_105 {Γ : jG} {l : Launch} {D : va_G} {ad : Nat → Nat} {cy : Nat → ClassId} {post : Int32 → GM → Prop} (hC : jC Γ l rM_waits D 8 RX12 cX12_waits wsX12_waits (tyM cy)) (hQ : jQi Γ D (wM ad cy) post (some .int) 0 0) {K55 : Int32 → Int32 → Int32 → Int32 → Int32 → GM → Prop} (hK55 : ∀ (x1 : Int32) (x2 : Int32) (x3 : Int32) (x4 : Int32) (x5 : Int32) (g : GM), K55 x1 x2 x3 x4 x5 g → J Γ D 8 0 0 (wM ad cy g) 55 [(0, .ref (ad 0)), (1, .int x1), (2, .int x2), (3, .int x3), (4, .int x4), (5, .int x5)] []) {K62 : Int32 → Int32 → Int32 → Int32 → Int32 → Int32 → Int32 → GM → Prop} (hK62 : ∀ (x1 : Int32) (x2 : Int32) (x3 : Int32) (x4 : Int32) (x5 : Int32) (x6 : Int32) (x7 : Int32) (g : GM), K62 x1 x2 x3 x4 x5 x6 x7 g → J Γ D 8 0 0 (wM ad cy g) 62 [(0, .ref (ad 0)), (1, .int x1), (2, .int x2), (3, .int x3), (4, .int x4), (5, .int x5), (6, .int x6), (7, .int x7)] []) : ∀ (x1 : Int32) (x2 : Int32) (x3 : Int32) (x4 : Int32) (x5 : Int32) (x7 : Int32) (g : GM), vM_waits_105 post K55 K62 x1 x2 x3 x4 x5 x7 g → J Γ D 8 0 0 (wM ad cy g) 105 [(0, .ref (ad 0)), (1, .int x1), (2, .int x2), (3, .int x3), (4, .int x4), (5, .int x5), (7, .int x7)] [] := by
  have hinX12 : ∀ w ∈ wsX120, w ∈ wsX12_waits := fun w h => List.mem_cons_of_mem _ (List.mem_append_right _ h)
  intro x1 x2 x3 x4 x5 x7 g hv
  unfold vM_waits_105 at hv
  refine j_iload hC dX12_waits_105 6 rfl ?_
  refine j_istore (lv' := [(6, .int x7), (0, .ref (ad 0)), (1, .int x1), (2, .int x2), (3, .int x3), (4, .int x4), (5, .int x5), (7, .int x7)]) hC dX12_waits_107 (by decide) rfl ?_
  exact j_lv [1, 2, 3, 4, 5, 6, 0, 7] rfl (lM_waits_109 hC hQ hK55 hK62 _ _ _ _ _ _ _ _ hv)
set_option maxHeartbeats 4000000 in
set_option maxRecDepth 100000 in
theorem lM_waits_167 {Γ : jG} {l : Launch} {D : va_G} {ad : Nat → Nat} {cy : Nat → ClassId} {post : Int32 → GM → Prop} (hC : jC Γ l rM_waits D 8 RX12 cX12_waits wsX12_waits (tyM cy)) (hQ : jQi Γ D (wM ad cy) post (some .int) 0 0) : ∀ (x1 : Int32) (x7 : Int32) (g : GM), vM_waits_167 post x1 x7 g → J Γ D 8 0 0 (wM ad cy g) 167 [(0, .ref (ad 0)), (1, .int x1), (7, .int x7)] [] := by
  have hinX12 : ∀ w ∈ wsX120, w ∈ wsX12_waits := fun w h => List.mem_cons_of_mem _ (List.mem_append_right _ h)
  intro x1 x7 g hv
  unfold vM_waits_167 at hv
  refine j_iload hC dX12_waits_167 2 rfl ?_
  refine j_aload_n (i := 0) hC dX12_waits_169 rfl 0 rfl ?_
  refine j_get (C := RX12) (T := TX12) (N := 22) (v := .ref (ad 14)) hC hinX12 0 (wM_c0 ad cy _) rfl 18 (by decide) (mw 6 rfl) rfl rfl dX12_waits_170 ?_
  refine j_iload_n (i := 1) hC dX12_waits_173 rfl 1 rfl ?_
  have hb174 := hv.1
  have hv := hv.2
  refine j_iald (v := ((m_comes g) x1.toNatClampNeg)) hC 14 0 (wM_c14 ad cy _) rfl hb174 rfl dX12_waits_174 ?_
  refine j_isub hC dX12_waits_175 ?_
  exact j_iret hC hQ dX12_waits_176 rfl hv
set_option maxHeartbeats 4000000 in
set_option maxRecDepth 100000 in
theorem lM_waits_159 {Γ : jG} {l : Launch} {D : va_G} {ad : Nat → Nat} {cy : Nat → ClassId} {post : Int32 → GM → Prop} (hC : jC Γ l rM_waits D 8 RX12 cX12_waits wsX12_waits (tyM cy)) (hQ : jQi Γ D (wM ad cy) post (some .int) 0 0) {K55 : Int32 → Int32 → Int32 → Int32 → Int32 → GM → Prop} (hK55 : ∀ (x1 : Int32) (x2 : Int32) (x3 : Int32) (x4 : Int32) (x5 : Int32) (g : GM), K55 x1 x2 x3 x4 x5 g → J Γ D 8 0 0 (wM ad cy g) 55 [(0, .ref (ad 0)), (1, .int x1), (2, .int x2), (3, .int x3), (4, .int x4), (5, .int x5)] []) : ∀ (x1 : Int32) (x2 : Int32) (x3 : Int32) (x4 : Int32) (x6 : Int32) (t0 : Int32) (g : GM), vM_waits_159 post K55 x1 x2 x3 x4 x6 t0 g → J Γ D 8 0 0 (wM ad cy g) 159 [(0, .ref (ad 0)), (1, .int x1), (2, .int x2), (3, .int x3), (4, .int x4), (6, .int x6)] [.int t0] := by
  have hinX12 : ∀ w ∈ wsX120, w ∈ wsX12_waits := fun w h => List.mem_cons_of_mem _ (List.mem_append_right _ h)
  intro x1 x2 x3 x4 x6 t0 g hv
  unfold vM_waits_159 at hv
  refine j_istore (lv' := [(7, .int t0), (0, .ref (ad 0)), (1, .int x1), (2, .int x2), (3, .int x3), (4, .int x4), (6, .int x6)]) hC dX12_waits_159 (by decide) rfl ?_
  refine j_iload hC dX12_waits_161 6 rfl ?_
  refine j_iload_n (i := 1) hC dX12_waits_163 rfl 2 rfl ?_
  refine j_icmp_ne (tgt := 177) hC dX12_waits_164 (by decide) (fun h_ => ?_) (fun h_ => ?_)
  · have hv := hv.1 h_
    refine j_iload hC dX12_waits_177 0 rfl ?_
    refine j_aload_n (i := 0) hC dX12_waits_179 rfl 1 rfl ?_
    refine j_get (C := RX12) (T := TX12) (N := 22) (v := .ref (ad 15)) hC hinX12 0 (wM_c0 ad cy _) rfl 19 (by decide) (mw 7 rfl) rfl rfl dX12_waits_180 ?_
    refine j_iload hC dX12_waits_183 6 rfl ?_
    have hb185 := hv.1
    have hv := hv.2
    refine j_iald (v := ((m_takes g) x6.toNatClampNeg)) hC 15 0 (wM_c15 ad cy _) rfl hb185 rfl dX12_waits_185 ?_
    refine j_iadd hC dX12_waits_186 ?_
    refine j_istore (lv' := [(5, .int (t0 + ((m_takes g) x6.toNatClampNeg))), (7, .int t0), (0, .ref (ad 0)), (1, .int x1), (2, .int x2), (3, .int x3), (4, .int x4), (6, .int x6)]) hC dX12_waits_187 (by decide) rfl ?_
    refine j_iload hC dX12_waits_189 6 rfl ?_
    refine j_iconst (v := 1) hC dX12_waits_191 (by decide) ?_
    refine j_iload hC dX12_waits_192 7 rfl ?_
    refine j_ishl hC dX12_waits_194 ?_
    refine j_ior hC dX12_waits_195 ?_
    refine j_istore (lv' := [(4, .int (x4 ||| ((1 : Int32) <<< (x6 &&& 31)))), (5, .int (t0 + ((m_takes g) x6.toNatClampNeg))), (7, .int t0), (0, .ref (ad 0)), (1, .int x1), (2, .int x2), (3, .int x3), (6, .int x6)]) hC dX12_waits_196 (by decide) rfl ?_
    refine j_goto (tgt := 55) hC dX12_waits_198 (by decide) ?_
    exact j_lv [3, 4, 5, 6, 0, 1] rfl (hK55 _ _ _ _ _ _ hv)
  · have hv := hv.2 h_
    exact j_lv [1, 2, 0] rfl (lM_waits_167 hC hQ _ _ _ hv)
set_option maxHeartbeats 4000000 in
set_option maxRecDepth 100000 in
theorem lM_waits_157 {Γ : jG} {l : Launch} {D : va_G} {ad : Nat → Nat} {cy : Nat → ClassId} {post : Int32 → GM → Prop} (hC : jC Γ l rM_waits D 8 RX12 cX12_waits wsX12_waits (tyM cy)) (hQ : jQi Γ D (wM ad cy) post (some .int) 0 0) {K55 : Int32 → Int32 → Int32 → Int32 → Int32 → GM → Prop} (hK55 : ∀ (x1 : Int32) (x2 : Int32) (x3 : Int32) (x4 : Int32) (x5 : Int32) (g : GM), K55 x1 x2 x3 x4 x5 g → J Γ D 8 0 0 (wM ad cy g) 55 [(0, .ref (ad 0)), (1, .int x1), (2, .int x2), (3, .int x3), (4, .int x4), (5, .int x5)] []) : ∀ (x1 : Int32) (x2 : Int32) (x3 : Int32) (x4 : Int32) (x6 : Int32) (x7 : Int32) (g : GM), vM_waits_157 post K55 x1 x2 x3 x4 x6 x7 g → J Γ D 8 0 0 (wM ad cy g) 157 [(0, .ref (ad 0)), (1, .int x1), (2, .int x2), (3, .int x3), (4, .int x4), (6, .int x6), (7, .int x7)] [] := by
  have hinX12 : ∀ w ∈ wsX120, w ∈ wsX12_waits := fun w h => List.mem_cons_of_mem _ (List.mem_append_right _ h)
  intro x1 x2 x3 x4 x6 x7 g hv
  unfold vM_waits_157 at hv
  refine j_iload hC dX12_waits_157 6 rfl ?_
  exact j_lv [0, 1, 2, 3, 4, 5] rfl (lM_waits_159 hC hQ hK55 _ _ _ _ _ _ _ hv)
set_option maxHeartbeats 4000000 in
set_option maxRecDepth 100000 in
theorem lM_waits_139 {Γ : jG} {l : Launch} {D : va_G} {ad : Nat → Nat} {cy : Nat → ClassId} {post : Int32 → GM → Prop} (hC : jC Γ l rM_waits D 8 RX12 cX12_waits wsX12_waits (tyM cy)) (hQ : jQi Γ D (wM ad cy) post (some .int) 0 0) {K55 : Int32 → Int32 → Int32 → Int32 → Int32 → GM → Prop} (hK55 : ∀ (x1 : Int32) (x2 : Int32) (x3 : Int32) (x4 : Int32) (x5 : Int32) (g : GM), K55 x1 x2 x3 x4 x5 g → J Γ D 8 0 0 (wM ad cy g) 55 [(0, .ref (ad 0)), (1, .int x1), (2, .int x2), (3, .int x3), (4, .int x4), (5, .int x5)] []) : ∀ (x1 : Int32) (x2 : Int32) (x3 : Int32) (x4 : Int32) (x6 : Int32) (t0 : Int32) (g : GM), vM_waits_139 post K55 x1 x2 x3 x4 x6 t0 g → J Γ D 8 0 0 (wM ad cy g) 139 [(0, .ref (ad 0)), (1, .int x1), (2, .int x2), (3, .int x3), (4, .int x4), (6, .int x6)] [.int t0] := by
  have hinX12 : ∀ w ∈ wsX120, w ∈ wsX12_waits := fun w h => List.mem_cons_of_mem _ (List.mem_append_right _ h)
  intro x1 x2 x3 x4 x6 t0 g hv
  unfold vM_waits_139 at hv
  refine j_istore (lv' := [(7, .int t0), (0, .ref (ad 0)), (1, .int x1), (2, .int x2), (3, .int x3), (4, .int x4), (6, .int x6)]) hC dX12_waits_139 (by decide) rfl ?_
  refine j_iload hC dX12_waits_141 0 rfl ?_
  refine j_iload_n (i := 2) hC dX12_waits_143 rfl 3 rfl ?_
  refine j_icmp_lt (tgt := 157) hC dX12_waits_144 (by decide) (fun h_ => ?_) (fun h_ => ?_)
  · have hv := hv.1 h_
    exact j_lv [1, 2, 3, 4, 5, 6, 0] rfl (lM_waits_157 hC hQ hK55 _ _ _ _ _ _ _ hv)
  · have hv := hv.2 h_
    refine j_iload hC dX12_waits_147 0 rfl ?_
    refine j_iload_n (i := 3) hC dX12_waits_149 rfl 4 rfl ?_
    refine j_icmp_ge (tgt := 157) hC dX12_waits_150 (by decide) (fun h_ => ?_) (fun h_ => ?_)
    · have hv := hv.1 h_
      exact j_lv [1, 2, 3, 4, 5, 6, 0] rfl (lM_waits_157 hC hQ hK55 _ _ _ _ _ _ _ hv)
    · have hv := hv.2 h_
      refine j_iload_n (i := 3) hC dX12_waits_153 rfl 4 rfl ?_
      refine j_goto (tgt := 159) hC dX12_waits_154 (by decide) ?_
      exact j_lv [1, 2, 3, 4, 5, 6] rfl (lM_waits_159 hC hQ hK55 _ _ _ _ _ _ _ hv)
set_option maxHeartbeats 4000000 in
set_option maxRecDepth 100000 in
theorem lM_waits_115 {Γ : jG} {l : Launch} {D : va_G} {ad : Nat → Nat} {cy : Nat → ClassId} {post : Int32 → GM → Prop} (hC : jC Γ l rM_waits D 8 RX12 cX12_waits wsX12_waits (tyM cy)) (hQ : jQi Γ D (wM ad cy) post (some .int) 0 0) {K55 : Int32 → Int32 → Int32 → Int32 → Int32 → GM → Prop} (hK55 : ∀ (x1 : Int32) (x2 : Int32) (x3 : Int32) (x4 : Int32) (x5 : Int32) (g : GM), K55 x1 x2 x3 x4 x5 g → J Γ D 8 0 0 (wM ad cy g) 55 [(0, .ref (ad 0)), (1, .int x1), (2, .int x2), (3, .int x3), (4, .int x4), (5, .int x5)] []) : ∀ (x1 : Int32) (x2 : Int32) (x3 : Int32) (x4 : Int32) (x5 : Int32) (x6 : Int32) (g : GM), vM_waits_115 post K55 x1 x2 x3 x4 x5 x6 g → J Γ D 8 0 0 (wM ad cy g) 115 [(0, .ref (ad 0)), (1, .int x1), (2, .int x2), (3, .int x3), (4, .int x4), (5, .int x5), (6, .int x6)] [] := by
  have hinX12 : ∀ w ∈ wsX120, w ∈ wsX12_waits := fun w h => List.mem_cons_of_mem _ (List.mem_append_right _ h)
  intro x1 x2 x3 x4 x5 x6 g hv
  unfold vM_waits_115 at hv
  refine j_aload_n (i := 0) hC dX12_waits_115 rfl 0 rfl ?_
  refine j_get (C := RX12) (T := TX12) (N := 22) (v := .ref (ad 14)) hC hinX12 0 (wM_c0 ad cy _) rfl 18 (by decide) (mw 6 rfl) rfl rfl dX12_waits_116 ?_
  refine j_iload hC dX12_waits_119 6 rfl ?_
  have hb121 := hv.1
  have hv := hv.2
  refine j_iald (v := ((m_comes g) x6.toNatClampNeg)) hC 14 0 (wM_c14 ad cy _) rfl hb121 rfl dX12_waits_121 ?_
  refine j_iload hC dX12_waits_122 5 rfl ?_
  refine j_icmp_le (tgt := 137) hC dX12_waits_124 (by decide) (fun h_ => ?_) (fun h_ => ?_)
  · have hv := hv.1 h_
    refine j_iload hC dX12_waits_137 5 rfl ?_
    exact j_lv [0, 1, 2, 3, 4, 6] rfl (lM_waits_139 hC hQ hK55 _ _ _ _ _ _ _ hv)
  · have hv := hv.2 h_
    refine j_aload_n (i := 0) hC dX12_waits_127 rfl 0 rfl ?_
    refine j_get (C := RX12) (T := TX12) (N := 22) (v := .ref (ad 14)) hC hinX12 0 (wM_c0 ad cy _) rfl 18 (by decide) (mw 6 rfl) rfl rfl dX12_waits_128 ?_
    refine j_iload hC dX12_waits_131 6 rfl ?_
    have hb133 := hv.1
    have hv := hv.2
    refine j_iald (v := ((m_comes g) x6.toNatClampNeg)) hC 14 0 (wM_c14 ad cy _) rfl hb133 rfl dX12_waits_133 ?_
    refine j_goto (tgt := 139) hC dX12_waits_134 (by decide) ?_
    exact j_lv [0, 1, 2, 3, 4, 6] rfl (lM_waits_139 hC hQ hK55 _ _ _ _ _ _ _ hv)
set_option maxHeartbeats 4000000 in
set_option maxRecDepth 100000 in
theorem lM_waits_62 {Γ : jG} {l : Launch} {D : va_G} {ad : Nat → Nat} {cy : Nat → ClassId} {post : Int32 → GM → Prop} (hC : jC Γ l rM_waits D 8 RX12 cX12_waits wsX12_waits (tyM cy)) (hQ : jQi Γ D (wM ad cy) post (some .int) 0 0) {K55 : Int32 → Int32 → Int32 → Int32 → Int32 → GM → Prop} (hK55 : ∀ (x1 : Int32) (x2 : Int32) (x3 : Int32) (x4 : Int32) (x5 : Int32) (g : GM), K55 x1 x2 x3 x4 x5 g → J Γ D 8 0 0 (wM ad cy g) 55 [(0, .ref (ad 0)), (1, .int x1), (2, .int x2), (3, .int x3), (4, .int x4), (5, .int x5)] []) : ∀ (n_ : Nat) (x1 : Int32) (x2 : Int32) (x3 : Int32) (x4 : Int32) (x5 : Int32) (x6 : Int32) (x7 : Int32) (g : GM), vM_waits_62 post K55 n_ x1 x2 x3 x4 x5 x6 x7 g → J Γ D 8 0 0 (wM ad cy g) 62 [(0, .ref (ad 0)), (1, .int x1), (2, .int x2), (3, .int x3), (4, .int x4), (5, .int x5), (6, .int x6), (7, .int x7)] [] := by
  have hinX12 : ∀ w ∈ wsX120, w ∈ wsX12_waits := fun w h => List.mem_cons_of_mem _ (List.mem_append_right _ h)
  intro n_
  induction n_ with
  | zero => intro x1 x2 x3 x4 x5 x6 x7 g hv; exact False.elim hv
  | succ k_ ih =>
    intro x1 x2 x3 x4 x5 x6 x7 g hv
    unfold vM_waits_62 at hv
    refine j_iload hC dX12_waits_62 7 rfl ?_
    refine j_aload_n (i := 0) hC dX12_waits_64 rfl 0 rfl ?_
    refine j_get (C := RX12) (T := TX12) (N := 22) (v := .int (m_ships g)) hC hinX12 0 (wM_c0 ad cy _) rfl 17 (by decide) (mw 2 rfl) rfl rfl dX12_waits_65 ?_
    refine j_icmp_ge (tgt := 115) hC dX12_waits_68 (by decide) (fun h_ => ?_) (fun h_ => ?_)
    · have hv := hv.1 h_
      exact j_lv [0, 1, 2, 3, 4, 5, 6] rfl (lM_waits_115 hC hQ hK55 _ _ _ _ _ _ _ hv)
    · have hv := hv.2 h_
      refine j_iload hC dX12_waits_71 4 rfl ?_
      refine j_iload hC dX12_waits_73 7 rfl ?_
      refine j_ishr hC dX12_waits_75 ?_
      refine j_iconst (v := 1) hC dX12_waits_76 (by decide) ?_
      refine j_iand hC dX12_waits_77 ?_
      refine j_if_ne (tgt := 109) hC dX12_waits_78 (by decide) (fun h_ => ?_) (fun h_ => ?_)
      · have hv := hv.1 h_
        exact j_lv [0, 1, 2, 3, 4, 5, 6, 7] rfl (lM_waits_109 hC hQ hK55 (K62 := fun x1 x2 x3 x4 x5 x6 x7 g => vM_waits_62 post K55 k_ x1 x2 x3 x4 x5 x6 x7 g) (fun _ _ _ _ _ _ _ _ h_ => ih _ _ _ _ _ _ _ _ h_) _ _ _ _ _ _ _ _ hv)
      · have hv := hv.2 h_
        refine j_iload hC dX12_waits_81 6 rfl ?_
        refine j_ldc (v := -1000000) hC dX12_waits_83 (mw 5 rfl) ?_
        refine j_icmp_eq (tgt := 105) hC dX12_waits_85 (by decide) (fun h_ => ?_) (fun h_ => ?_)
        · have hv := hv.1 h_
          exact j_lv [0, 1, 2, 3, 4, 5, 7] rfl (lM_waits_105 hC hQ hK55 (K62 := fun x1 x2 x3 x4 x5 x6 x7 g => vM_waits_62 post K55 k_ x1 x2 x3 x4 x5 x6 x7 g) (fun _ _ _ _ _ _ _ _ h_ => ih _ _ _ _ _ _ _ _ h_) _ _ _ _ _ _ _ hv)
        · have hv := hv.2 h_
          refine j_aload_n (i := 0) hC dX12_waits_88 rfl 0 rfl ?_
          refine j_get (C := RX12) (T := TX12) (N := 22) (v := .ref (ad 14)) hC hinX12 0 (wM_c0 ad cy _) rfl 18 (by decide) (mw 6 rfl) rfl rfl dX12_waits_89 ?_
          refine j_iload hC dX12_waits_92 7 rfl ?_
          have hb94 := hv.1
          have hv := hv.2
          refine j_iald (v := ((m_comes g) x7.toNatClampNeg)) hC 14 0 (wM_c14 ad cy _) rfl hb94 rfl dX12_waits_94 ?_
          refine j_aload_n (i := 0) hC dX12_waits_95 rfl 0 rfl ?_
          refine j_get (C := RX12) (T := TX12) (N := 22) (v := .ref (ad 14)) hC hinX12 0 (wM_c0 ad cy _) rfl 18 (by decide) (mw 6 rfl) rfl rfl dX12_waits_96 ?_
          refine j_iload hC dX12_waits_99 6 rfl ?_
          have hb101 := hv.1
          have hv := hv.2
          refine j_iald (v := ((m_comes g) x6.toNatClampNeg)) hC 14 0 (wM_c14 ad cy _) rfl hb101 rfl dX12_waits_101 ?_
          refine j_icmp_ge (tgt := 109) hC dX12_waits_102 (by decide) (fun h_ => ?_) (fun h_ => ?_)
          · have hv := hv.1 h_
            exact j_lv [0, 1, 2, 3, 4, 5, 6, 7] rfl (lM_waits_109 hC hQ hK55 (K62 := fun x1 x2 x3 x4 x5 x6 x7 g => vM_waits_62 post K55 k_ x1 x2 x3 x4 x5 x6 x7 g) (fun _ _ _ _ _ _ _ _ h_ => ih _ _ _ _ _ _ _ _ h_) _ _ _ _ _ _ _ _ hv)
          · have hv := hv.2 h_
            exact j_lv [0, 1, 2, 3, 4, 5, 7] rfl (lM_waits_105 hC hQ hK55 (K62 := fun x1 x2 x3 x4 x5 x6 x7 g => vM_waits_62 post K55 k_ x1 x2 x3 x4 x5 x6 x7 g) (fun _ _ _ _ _ _ _ _ h_ => ih _ _ _ _ _ _ _ _ h_) _ _ _ _ _ _ _ hv)
set_option maxHeartbeats 4000000 in
set_option maxRecDepth 100000 in
theorem lM_waits_55 {Γ : jG} {l : Launch} {D : va_G} {ad : Nat → Nat} {cy : Nat → ClassId} {post : Int32 → GM → Prop} (hC : jC Γ l rM_waits D 8 RX12 cX12_waits wsX12_waits (tyM cy)) (hQ : jQi Γ D (wM ad cy) post (some .int) 0 0) : ∀ (n_ : Nat) (x1 : Int32) (x2 : Int32) (x3 : Int32) (x4 : Int32) (x5 : Int32) (g : GM), vM_waits_55 post n_ x1 x2 x3 x4 x5 g → J Γ D 8 0 0 (wM ad cy g) 55 [(0, .ref (ad 0)), (1, .int x1), (2, .int x2), (3, .int x3), (4, .int x4), (5, .int x5)] [] := by
  have hinX12 : ∀ w ∈ wsX120, w ∈ wsX12_waits := fun w h => List.mem_cons_of_mem _ (List.mem_append_right _ h)
  intro n_
  induction n_ with
  | zero => intro x1 x2 x3 x4 x5 g hv; exact False.elim hv
  | succ k_ ih =>
    intro x1 x2 x3 x4 x5 g hv
    unfold vM_waits_55 at hv
    refine j_ldc (v := -1000000) hC dX12_waits_55 (mw 5 rfl) ?_
    refine j_istore (lv' := [(6, .int (-1000000 : Int32)), (0, .ref (ad 0)), (1, .int x1), (2, .int x2), (3, .int x3), (4, .int x4), (5, .int x5)]) hC dX12_waits_57 (by decide) rfl ?_
    refine j_iconst (v := 0) hC dX12_waits_59 (by decide) ?_
    refine j_istore (lv' := [(7, .int (0 : Int32)), (6, .int (-1000000 : Int32)), (0, .ref (ad 0)), (1, .int x1), (2, .int x2), (3, .int x3), (4, .int x4), (5, .int x5)]) hC dX12_waits_60 (by decide) rfl ?_
    obtain ⟨n_, hv⟩ := hv
    exact j_lv [2, 3, 4, 5, 6, 7, 1, 0] rfl (lM_waits_62 hC hQ (K55 := fun x1 x2 x3 x4 x5 g => vM_waits_55 post k_ x1 x2 x3 x4 x5 g) (fun _ _ _ _ _ _ h_ => ih _ _ _ _ _ _ h_) n_ _ _ _ _ _ _ _ _ hv)
set_option maxHeartbeats 4000000 in
set_option maxRecDepth 100000 in
theorem cM_waits {l : Launch} {D : va_G} {ad : Nat → Nat} {cy : Nat → ClassId} {g : GM} {a1 : Int32} {a2 : Int32} {a3 : Int32} {post : Int32 → GM → Prop} (hv : vM_waits g a1 a2 a3 post) : jMi l yX12_waits wsX12_waits rM_waits D (tyM cy) [.ref (ad 0), .int a1, .int a2, .int a3] (wM ad cy g) (wM ad cy) post 0 0 := by
  refine j_meti (cc := cX12_waits) (nL := 8) (rt := (some .int)) (by decide) (Nat.le_of_ble_eq_true rfl) ?_
  intro Γ hC hQ _
  have hC : jC Γ l rM_waits D 8 RX12 cX12_waits wsX12_waits (tyM cy) := hC
  have hinX12 : ∀ w ∈ wsX120, w ∈ wsX12_waits := fun w h => List.mem_cons_of_mem _ (List.mem_append_right _ h)
  refine j_lv (lv' := [(0, .ref (ad 0)), (1, .int a1), (2, .int a2), (3, .int a3)]) [0, 1, 2, 3] rfl ?_
  unfold vM_waits at hv
  refine j_aload_n (i := 0) hC dX12_waits_0 rfl 0 rfl ?_
  refine j_iconst (v := 0) hC dX12_waits_1 (by decide) ?_
  refine j_put (C := RX12) (T := TX12) (N := 22) (ty := .int) hC hinX12 tyX12 tyX12_ok nmX12 0 (wM_c0 ad cy _) rfl 0 (by decide) (mw 1 rfl) rfl rfl fdX12_0 rfl rfl (Nat.le_of_ble_eq_true rfl) (wM_p_thrown ad cy _ _) dX12_waits_2 ?_
  refine j_iload_n (i := 1) hC dX12_waits_5 rfl 1 rfl ?_
  refine j_i2l hC dX12_waits_6 ?_
  refine j_lconst (v := 0) hC dX12_waits_7 (by decide) ?_
  refine j_aload_n (i := 0) hC dX12_waits_8 rfl 0 rfl ?_
  refine j_get (C := RX12) (T := TX12) (N := 22) (v := .int (m_ships g)) hC hinX12 0 (wM_c0 ad cy _) rfl 17 (by decide) (mw 2 rfl) rfl rfl dX12_waits_9 ?_
  refine j_iconst (v := 1) hC dX12_waits_12 (by decide) ?_
  refine j_isub hC dX12_waits_13 ?_
  refine j_i2l hC dX12_waits_14 ?_
  refine j_callS_i (As := [.long (a1.toInt64), .long (0 : Int64), .long (((m_ships g) - (1 : Int32)).toInt64)]) (rest := []) hC (cM_in hv) 3 gX12_waits_X12_in rfl rfl rfl ⟨Nat.le_of_ble_eq_true rfl, Nat.le_of_ble_eq_true rfl⟩ hdM_in.2 rfl rfl (Nat.le_of_ble_eq_true rfl) ⟨Nat.zero_le _, Nat.zero_le _⟩ dX12_waits_15 (fun r15 g15 hv => ?_)
  refine j_if_eq (tgt := 46) hC dX12_waits_18 (by decide) (fun h_ => ?_) (fun h_ => ?_)
  · have hv := hv.1 h_
    refine j_ldc (v := -1000001) hC dX12_waits_46 (mw 4 rfl) ?_
    exact j_iret hC hQ dX12_waits_48 rfl hv
  · have hv := hv.2 h_
    refine j_iload_n (i := 2) hC dX12_waits_21 rfl 2 rfl ?_
    refine j_i2l hC dX12_waits_22 ?_
    refine j_lconst (v := 0) hC dX12_waits_23 (by decide) ?_
    refine j_ldc2 (v := 100000) hC dX12_waits_24 (mw 3 rfl) ?_
    refine j_callS_i (As := [.long (a2.toInt64), .long (0 : Int64), .long (100000 : Int64)]) (rest := []) hC (cM_in hv) 3 gX12_waits_X12_in rfl rfl rfl ⟨Nat.le_of_ble_eq_true rfl, Nat.le_of_ble_eq_true rfl⟩ hdM_in.2 rfl rfl (Nat.le_of_ble_eq_true rfl) ⟨Nat.zero_le _, Nat.zero_le _⟩ dX12_waits_27 (fun r27 g27 hv => ?_)
    refine j_if_eq (tgt := 46) hC dX12_waits_30 (by decide) (fun h_ => ?_) (fun h_ => ?_)
    · have hv := hv.1 h_
      refine j_ldc (v := -1000001) hC dX12_waits_46 (mw 4 rfl) ?_
      exact j_iret hC hQ dX12_waits_48 rfl hv
    · have hv := hv.2 h_
      refine j_iload_n (i := 3) hC dX12_waits_33 rfl 3 rfl ?_
      refine j_i2l hC dX12_waits_34 ?_
      refine j_iload_n (i := 2) hC dX12_waits_35 rfl 2 rfl ?_
      refine j_i2l hC dX12_waits_36 ?_
      refine j_ldc2 (v := 100000) hC dX12_waits_37 (mw 3 rfl) ?_
      refine j_callS_i (As := [.long (a3.toInt64), .long (a2.toInt64), .long (100000 : Int64)]) (rest := []) hC (cM_in hv) 3 gX12_waits_X12_in rfl rfl rfl ⟨Nat.le_of_ble_eq_true rfl, Nat.le_of_ble_eq_true rfl⟩ hdM_in.2 rfl rfl (Nat.le_of_ble_eq_true rfl) ⟨Nat.zero_le _, Nat.zero_le _⟩ dX12_waits_40 (fun r40 g40 hv => ?_)
      refine j_if_ne (tgt := 49) hC dX12_waits_43 (by decide) (fun h_ => ?_) (fun h_ => ?_)
      · have hv := hv.1 h_
        refine j_iconst (v := 0) hC dX12_waits_49 (by decide) ?_
        refine j_istore (lv' := [(4, .int (0 : Int32)), (0, .ref (ad 0)), (1, .int a1), (2, .int a2), (3, .int a3)]) hC dX12_waits_50 (by decide) rfl ?_
        refine j_iconst (v := 0) hC dX12_waits_52 (by decide) ?_
        refine j_istore (lv' := [(5, .int (0 : Int32)), (4, .int (0 : Int32)), (0, .ref (ad 0)), (1, .int a1), (2, .int a2), (3, .int a3)]) hC dX12_waits_53 (by decide) rfl ?_
        obtain ⟨n_, hv⟩ := hv
        exact j_lv [2, 3, 4, 5, 1, 0] rfl (lM_waits_55 hC hQ n_ _ _ _ _ _ _ hv)
      · have hv := hv.2 h_
        refine j_ldc (v := -1000001) hC dX12_waits_46 (mw 4 rfl) ?_
        exact j_iret hC hQ dX12_waits_48 rfl hv
theorem hdM_closingsOf : yX12_closingsOf.cls = RX12 ∧ yX12_closingsOf.cls ≠ "java/lang/invoke/MethodHandle" ∧ yX12_closingsOf.cls ≠ "java/lang/invoke/VarHandle" ∧ (parseMethodDescriptor yX12_closingsOf.desc).map (fun d => d.parameters.length) = some 6 := by decide +kernel
abbrev rM_closingsOf : Room := { frames := 0, cells := 0, slots := 0, locals := 0 }
def vM_closingsOf_51 (post : Int32 → GM → Prop) (K6 : Int32 → Int32 → Int32 → Int32 → Int32 → Int32 → Int32 → Int32 → GM → Prop) (x1 : Int32) (x2 : Int32) (x3 : Int32) (x4 : Int32) (x5 : Int32) (x6 : Int32) (x8 : Int32) (t0 : Int32) (t1 : Int32) (g : GM) : Prop :=
  (K6 x1 x2 x3 x4 x5 x6 (t1 + t0) (x8 + (1 : Int32)) g)
def vM_closingsOf_6 (post : Int32 → GM → Prop) : Nat → Int32 → Int32 → Int32 → Int32 → Int32 → Int32 → Int32 → Int32 → GM → Prop
  | 0, _, _, _, _, _, _, _, _, _ => False
  | k_ + 1, x1, x2, x3, x4, x5, x6, x7, x8, g =>
  ((x3 ≤ x8 → post x7 g) ∧ (¬ x3 ≤ x8 → (vp_in ((((60 : Int32) * x1) + x2) + x8) 480 ∧ ((((((m_item g) ((((60 : Int32) * x1) + x2) + x8).toNatClampNeg).toInt64) + (((x6 * x4) / (10 : Int32)).toInt64)) ≤ (x5.toInt64) → (vM_closingsOf_51 post (fun x1 x2 x3 x4 x5 x6 x7 x8 g => vM_closingsOf_6 post k_ x1 x2 x3 x4 x5 x6 x7 x8 g) x1 x2 x3 x4 x5 x6 x8 (0 : Int32) x7 g)) ∧ (¬ ((((m_item g) ((((60 : Int32) * x1) + x2) + x8).toNatClampNeg).toInt64) + (((x6 * x4) / (10 : Int32)).toInt64)) ≤ (x5.toInt64) → (vM_closingsOf_51 post (fun x1 x2 x3 x4 x5 x6 x7 x8 g => vM_closingsOf_6 post k_ x1 x2 x3 x4 x5 x6 x7 x8 g) x1 x2 x3 x4 x5 x6 x8 (1 : Int32) x7 g))))))
def vM_closingsOf (g : GM) (a1 : Int32) (a2 : Int32) (a3 : Int32) (a4 : Int32) (a5 : Int32) (a6 : Int32) (post : Int32 → GM → Prop) : Prop :=
  (∃ n_ : Nat, vM_closingsOf_6 post n_ a1 a2 a3 a4 a5 a6 (0 : Int32) (0 : Int32) g)
set_option maxHeartbeats 4000000 in
set_option maxRecDepth 100000 in
theorem lM_closingsOf_51 {Γ : jG} {l : Launch} {D : va_G} {ad : Nat → Nat} {cy : Nat → ClassId} {post : Int32 → GM → Prop} (hC : jC Γ l rM_closingsOf D 9 RX12 cX12_closingsOf wsX12_closingsOf (tyM cy)) (hQ : jQi Γ D (wM ad cy) post (some .int) 0 0) {K6 : Int32 → Int32 → Int32 → Int32 → Int32 → Int32 → Int32 → Int32 → GM → Prop} (hK6 : ∀ (x1 : Int32) (x2 : Int32) (x3 : Int32) (x4 : Int32) (x5 : Int32) (x6 : Int32) (x7 : Int32) (x8 : Int32) (g : GM), K6 x1 x2 x3 x4 x5 x6 x7 x8 g → J Γ D 9 0 0 (wM ad cy g) 6 [(0, .ref (ad 0)), (1, .int x1), (2, .int x2), (3, .int x3), (4, .int x4), (5, .int x5), (6, .int x6), (7, .int x7), (8, .int x8)] []) : ∀ (x1 : Int32) (x2 : Int32) (x3 : Int32) (x4 : Int32) (x5 : Int32) (x6 : Int32) (x8 : Int32) (t0 : Int32) (t1 : Int32) (g : GM), vM_closingsOf_51 post K6 x1 x2 x3 x4 x5 x6 x8 t0 t1 g → J Γ D 9 0 0 (wM ad cy g) 51 [(0, .ref (ad 0)), (1, .int x1), (2, .int x2), (3, .int x3), (4, .int x4), (5, .int x5), (6, .int x6), (8, .int x8)] [.int t0, .int t1] := by
  have hinX12 : ∀ w ∈ wsX120, w ∈ wsX12_closingsOf := fun w h => List.mem_cons_of_mem _ (List.mem_append_right _ h)
  intro x1 x2 x3 x4 x5 x6 x8 t0 t1 g hv
  unfold vM_closingsOf_51 at hv
  refine j_iadd hC dX12_closingsOf_51 ?_
  refine j_istore (lv' := [(7, .int (t1 + t0)), (0, .ref (ad 0)), (1, .int x1), (2, .int x2), (3, .int x3), (4, .int x4), (5, .int x5), (6, .int x6), (8, .int x8)]) hC dX12_closingsOf_52 (by decide) rfl ?_
  refine j_iinc (k := 8) (v := (x8 + (1 : Int32))) (lv' := [(8, .int (x8 + (1 : Int32))), (7, .int (t1 + t0)), (0, .ref (ad 0)), (1, .int x1), (2, .int x2), (3, .int x3), (4, .int x4), (5, .int x5), (6, .int x6)]) hC dX12_closingsOf_54 rfl rfl (by decide) rfl ?_
  refine j_goto (tgt := 6) hC dX12_closingsOf_57 (by decide) ?_
  exact j_lv [2, 3, 4, 5, 6, 7, 8, 1, 0] rfl (hK6 _ _ _ _ _ _ _ _ _ hv)
set_option maxHeartbeats 4000000 in
set_option maxRecDepth 100000 in
theorem lM_closingsOf_6 {Γ : jG} {l : Launch} {D : va_G} {ad : Nat → Nat} {cy : Nat → ClassId} {post : Int32 → GM → Prop} (hC : jC Γ l rM_closingsOf D 9 RX12 cX12_closingsOf wsX12_closingsOf (tyM cy)) (hQ : jQi Γ D (wM ad cy) post (some .int) 0 0) : ∀ (n_ : Nat) (x1 : Int32) (x2 : Int32) (x3 : Int32) (x4 : Int32) (x5 : Int32) (x6 : Int32) (x7 : Int32) (x8 : Int32) (g : GM), vM_closingsOf_6 post n_ x1 x2 x3 x4 x5 x6 x7 x8 g → J Γ D 9 0 0 (wM ad cy g) 6 [(0, .ref (ad 0)), (1, .int x1), (2, .int x2), (3, .int x3), (4, .int x4), (5, .int x5), (6, .int x6), (7, .int x7), (8, .int x8)] [] := by
  have hinX12 : ∀ w ∈ wsX120, w ∈ wsX12_closingsOf := fun w h => List.mem_cons_of_mem _ (List.mem_append_right _ h)
  intro n_
  induction n_ with
  | zero => intro x1 x2 x3 x4 x5 x6 x7 x8 g hv; exact False.elim hv
  | succ k_ ih =>
    intro x1 x2 x3 x4 x5 x6 x7 x8 g hv
    unfold vM_closingsOf_6 at hv
    refine j_iload hC dX12_closingsOf_6 8 rfl ?_
    refine j_iload_n (i := 3) hC dX12_closingsOf_8 rfl 3 rfl ?_
    refine j_icmp_ge (tgt := 60) hC dX12_closingsOf_9 (by decide) (fun h_ => ?_) (fun h_ => ?_)
    · have hv := hv.1 h_
      refine j_iload hC dX12_closingsOf_60 7 rfl ?_
      exact j_iret hC hQ dX12_closingsOf_62 rfl hv
    · have hv := hv.2 h_
      refine j_iload hC dX12_closingsOf_12 7 rfl ?_
      refine j_aload_n (i := 0) hC dX12_closingsOf_14 rfl 0 rfl ?_
      refine j_get (C := RX12) (T := TX12) (N := 22) (v := .ref (ad 5)) hC hinX12 0 (wM_c0 ad cy _) rfl 6 (by decide) (mw 1 rfl) rfl rfl dX12_closingsOf_15 ?_
      refine j_bipush (v := 60) hC dX12_closingsOf_18 (by decide) ?_
      refine j_iload_n (i := 1) hC dX12_closingsOf_20 rfl 1 rfl ?_
      refine j_imul hC dX12_closingsOf_21 ?_
      refine j_iload_n (i := 2) hC dX12_closingsOf_22 rfl 2 rfl ?_
      refine j_iadd hC dX12_closingsOf_23 ?_
      refine j_iload hC dX12_closingsOf_24 8 rfl ?_
      refine j_iadd hC dX12_closingsOf_26 ?_
      have hb27 := hv.1
      have hv := hv.2
      refine j_iald (v := ((m_item g) ((((60 : Int32) * x1) + x2) + x8).toNatClampNeg)) hC 5 0 (wM_c5 ad cy _) rfl hb27 rfl dX12_closingsOf_27 ?_
      refine j_i2l hC dX12_closingsOf_28 ?_
      refine j_iload hC dX12_closingsOf_29 6 rfl ?_
      refine j_iload hC dX12_closingsOf_31 4 rfl ?_
      refine j_imul hC dX12_closingsOf_33 ?_
      refine j_bipush (v := 10) hC dX12_closingsOf_34 (by decide) ?_
      refine j_idiv hC dX12_closingsOf_36 (by decide) ?_
      refine j_i2l hC dX12_closingsOf_37 ?_
      refine j_ladd hC dX12_closingsOf_38 ?_
      refine j_iload hC dX12_closingsOf_39 5 rfl ?_
      refine j_i2l hC dX12_closingsOf_41 ?_
      refine j_lcmp_le (tgt := 50) hC dX12_closingsOf_42 dX12_closingsOf_43 (by decide) (fun h_ => ?_) (fun h_ => ?_)
      · have hv := hv.1 h_
        refine j_iconst (v := 0) hC dX12_closingsOf_50 (by decide) ?_
        exact j_lv [0, 1, 2, 3, 4, 5, 6, 8] rfl (lM_closingsOf_51 hC hQ (K6 := fun x1 x2 x3 x4 x5 x6 x7 x8 g => vM_closingsOf_6 post k_ x1 x2 x3 x4 x5 x6 x7 x8 g) (fun _ _ _ _ _ _ _ _ _ h_ => ih _ _ _ _ _ _ _ _ _ h_) _ _ _ _ _ _ _ _ _ _ hv)
      · have hv := hv.2 h_
        refine j_iconst (v := 1) hC dX12_closingsOf_46 (by decide) ?_
        refine j_goto (tgt := 51) hC dX12_closingsOf_47 (by decide) ?_
        exact j_lv [0, 1, 2, 3, 4, 5, 6, 8] rfl (lM_closingsOf_51 hC hQ (K6 := fun x1 x2 x3 x4 x5 x6 x7 x8 g => vM_closingsOf_6 post k_ x1 x2 x3 x4 x5 x6 x7 x8 g) (fun _ _ _ _ _ _ _ _ _ h_ => ih _ _ _ _ _ _ _ _ _ h_) _ _ _ _ _ _ _ _ _ _ hv)
set_option maxHeartbeats 4000000 in
set_option maxRecDepth 100000 in
theorem cM_closingsOf {l : Launch} {D : va_G} {ad : Nat → Nat} {cy : Nat → ClassId} {g : GM} {a1 : Int32} {a2 : Int32} {a3 : Int32} {a4 : Int32} {a5 : Int32} {a6 : Int32} {post : Int32 → GM → Prop} (hv : vM_closingsOf g a1 a2 a3 a4 a5 a6 post) : jMi l yX12_closingsOf wsX12_closingsOf rM_closingsOf D (tyM cy) [.ref (ad 0), .int a1, .int a2, .int a3, .int a4, .int a5, .int a6] (wM ad cy g) (wM ad cy) post 0 0 := by
  refine j_meti (cc := cX12_closingsOf) (nL := 9) (rt := (some .int)) (by decide) (Nat.le_of_ble_eq_true rfl) ?_
  intro Γ hC hQ _
  have hC : jC Γ l rM_closingsOf D 9 RX12 cX12_closingsOf wsX12_closingsOf (tyM cy) := hC
  have hinX12 : ∀ w ∈ wsX120, w ∈ wsX12_closingsOf := fun w h => List.mem_cons_of_mem _ (List.mem_append_right _ h)
  refine j_lv (lv' := [(0, .ref (ad 0)), (1, .int a1), (2, .int a2), (3, .int a3), (4, .int a4), (5, .int a5), (6, .int a6)]) [0, 1, 2, 3, 4, 5, 6] rfl ?_
  unfold vM_closingsOf at hv
  refine j_iconst (v := 0) hC dX12_closingsOf_0 (by decide) ?_
  refine j_istore (lv' := [(7, .int (0 : Int32)), (0, .ref (ad 0)), (1, .int a1), (2, .int a2), (3, .int a3), (4, .int a4), (5, .int a5), (6, .int a6)]) hC dX12_closingsOf_1 (by decide) rfl ?_
  refine j_iconst (v := 0) hC dX12_closingsOf_3 (by decide) ?_
  refine j_istore (lv' := [(8, .int (0 : Int32)), (7, .int (0 : Int32)), (0, .ref (ad 0)), (1, .int a1), (2, .int a2), (3, .int a3), (4, .int a4), (5, .int a5), (6, .int a6)]) hC dX12_closingsOf_4 (by decide) rfl ?_
  obtain ⟨n_, hv⟩ := hv
  exact j_lv [2, 3, 4, 5, 6, 7, 8, 1, 0] rfl (lM_closingsOf_6 hC hQ n_ _ _ _ _ _ _ _ _ _ hv)
theorem hdM_closings : yX12_closings.cls = RX12 ∧ yX12_closings.cls ≠ "java/lang/invoke/MethodHandle" ∧ yX12_closings.cls ≠ "java/lang/invoke/VarHandle" ∧ (parseMethodDescriptor yX12_closings.desc).map (fun d => d.parameters.length) = some 6 := by decide +kernel
abbrev rM_closings : Room := { frames := 2, cells := 0, slots := 0, locals := 45 }
def vM_closings_93 (post : Int32 → GM → Prop) (g : GM) : Prop :=
  (vM_found g (2 : Int32) (fun r95 g95 => post r95 g95))
def vM_closings (g : GM) (a1 : Int32) (a2 : Int32) (a3 : Int32) (a4 : Int32) (a5 : Int32) (a6 : Int32) (post : Int32 → GM → Prop) : Prop :=
  (vM_isSheet (sm_thrown g (0 : Int32)) a1 (fun r6 g6 => ((r6 = (0 : Int32) → post (-1000001 : Int32) g6) ∧ (¬ r6 = (0 : Int32) → (vM_in g6 (a3.toInt64) (1 : Int64) (60 : Int64) (fun r18 g18 => ((r18 = (0 : Int32) → post (-1000001 : Int32) g18) ∧ (¬ r18 = (0 : Int32) → (vM_in g18 (a6.toInt64) (0 : Int64) (300 : Int64) (fun r31 g31 => ((r31 = (0 : Int32) → post (-1000001 : Int32) g31) ∧ (¬ r31 = (0 : Int32) → (vM_in g31 (a4.toInt64) (0 : Int64) (100 : Int64) (fun r44 g44 => ((¬ r44 = (0 : Int32) → (vp_in a1 8 ∧ (((0 : Int32) ≤ ((m_lane g44) a1.toNatClampNeg) → ((a2 < (0 : Int32) → (vM_closings_93 post (sm_status g44 (0 : Int32)))) ∧ (¬ a2 < (0 : Int32) → (vp_in a1 8 ∧ ((((a2.toInt64) + (a3.toInt64)) ≤ (((m_many g44) a1.toNatClampNeg).toInt64) → (vM_closingsOf (sm_status g44 (0 : Int32)) a1 a2 a3 a4 a5 a6 (fun r109 g109 => post r109 g109))) ∧ (¬ ((a2.toInt64) + (a3.toInt64)) ≤ (((m_many g44) a1.toNatClampNeg).toInt64) → (vM_closings_93 post (sm_status g44 (0 : Int32))))))))) ∧ (¬ (0 : Int32) ≤ ((m_lane g44) a1.toNatClampNeg) → (vM_found (sm_status g44 (0 : Int32)) (1 : Int32) (fun r69 g69 => post r69 g69)))))) ∧ (r44 = (0 : Int32) → post (-1000001 : Int32) g44))))))))))))))))
set_option maxHeartbeats 4000000 in
set_option maxRecDepth 100000 in
theorem lM_closings_93 {Γ : jG} {l : Launch} {D : va_G} {ad : Nat → Nat} {cy : Nat → ClassId} {post : Int32 → GM → Prop} (hC : jC Γ l rM_closings D 7 RX12 cX12_closings wsX12_closings (tyM cy)) (hQ : jQi Γ D (wM ad cy) post (some .int) 0 0) : ∀ (g : GM), vM_closings_93 post g → J Γ D 7 0 0 (wM ad cy g) 93 [(0, .ref (ad 0))] [] := by
  have hinX12 : ∀ w ∈ wsX120, w ∈ wsX12_closings := fun w h => List.mem_cons_of_mem _ (List.mem_append_right _ h)
  intro g hv
  unfold vM_closings_93 at hv
  refine j_aload_n (i := 0) hC dX12_closings_93 rfl 0 rfl ?_
  refine j_iconst (v := 2) hC dX12_closings_94 (by decide) ?_
  refine j_callV_i (C := RX12) (As := [.int (2 : Int32)]) (rest := []) (b := (ad 0)) hC (cM_found hv) 1 gX12_closings_X12_found rfl rfl rfl ⟨Nat.le_of_ble_eq_true rfl, Nat.le_of_ble_eq_true rfl⟩ hdM_found rfl (wM_c0 ad cy _) rfl rfl (Nat.le_of_ble_eq_true rfl) ⟨Nat.zero_le _, Nat.zero_le _⟩ dX12_closings_95 (fun r95 g95 hv => ?_)
  exact j_iret hC hQ dX12_closings_98 rfl hv
set_option maxHeartbeats 4000000 in
set_option maxRecDepth 100000 in
theorem cM_closings {l : Launch} {D : va_G} {ad : Nat → Nat} {cy : Nat → ClassId} {g : GM} {a1 : Int32} {a2 : Int32} {a3 : Int32} {a4 : Int32} {a5 : Int32} {a6 : Int32} {post : Int32 → GM → Prop} (hv : vM_closings g a1 a2 a3 a4 a5 a6 post) : jMi l yX12_closings wsX12_closings rM_closings D (tyM cy) [.ref (ad 0), .int a1, .int a2, .int a3, .int a4, .int a5, .int a6] (wM ad cy g) (wM ad cy) post 0 0 := by
  refine j_meti (cc := cX12_closings) (nL := 7) (rt := (some .int)) (by decide) (Nat.le_of_ble_eq_true rfl) ?_
  intro Γ hC hQ _
  have hC : jC Γ l rM_closings D 7 RX12 cX12_closings wsX12_closings (tyM cy) := hC
  have hinX12 : ∀ w ∈ wsX120, w ∈ wsX12_closings := fun w h => List.mem_cons_of_mem _ (List.mem_append_right _ h)
  refine j_lv (lv' := [(0, .ref (ad 0)), (1, .int a1), (2, .int a2), (3, .int a3), (4, .int a4), (5, .int a5), (6, .int a6)]) [0, 1, 2, 3, 4, 5, 6] rfl ?_
  unfold vM_closings at hv
  refine j_aload_n (i := 0) hC dX12_closings_0 rfl 0 rfl ?_
  refine j_iconst (v := 0) hC dX12_closings_1 (by decide) ?_
  refine j_put (C := RX12) (T := TX12) (N := 22) (ty := .int) hC hinX12 tyX12 tyX12_ok nmX12 0 (wM_c0 ad cy _) rfl 0 (by decide) (mw 1 rfl) rfl rfl fdX12_0 rfl rfl (Nat.le_of_ble_eq_true rfl) (wM_p_thrown ad cy _ _) dX12_closings_2 ?_
  refine j_iload_n (i := 1) hC dX12_closings_5 rfl 1 rfl ?_
  refine j_callS_i (As := [.int a1]) (rest := []) hC (cM_isSheet hv) 1 gX12_closings_X12_isSheet rfl rfl rfl ⟨Nat.le_of_ble_eq_true rfl, Nat.le_of_ble_eq_true rfl⟩ hdM_isSheet.2 rfl rfl (Nat.le_of_ble_eq_true rfl) ⟨Nat.zero_le _, Nat.zero_le _⟩ dX12_closings_6 (fun r6 g6 hv => ?_)
  refine j_if_eq (tgt := 50) hC dX12_closings_9 (by decide) (fun h_ => ?_) (fun h_ => ?_)
  · have hv := hv.1 h_
    refine j_ldc (v := -1000001) hC dX12_closings_50 (mw 5 rfl) ?_
    exact j_iret hC hQ dX12_closings_52 rfl hv
  · have hv := hv.2 h_
    refine j_iload_n (i := 3) hC dX12_closings_12 rfl 3 rfl ?_
    refine j_i2l hC dX12_closings_13 ?_
    refine j_lconst (v := 1) hC dX12_closings_14 (by decide) ?_
    refine j_ldc2 (v := 60) hC dX12_closings_15 (mw 2 rfl) ?_
    refine j_callS_i (As := [.long (a3.toInt64), .long (1 : Int64), .long (60 : Int64)]) (rest := []) hC (cM_in hv) 3 gX12_closings_X12_in rfl rfl rfl ⟨Nat.le_of_ble_eq_true rfl, Nat.le_of_ble_eq_true rfl⟩ hdM_in.2 rfl rfl (Nat.le_of_ble_eq_true rfl) ⟨Nat.zero_le _, Nat.zero_le _⟩ dX12_closings_18 (fun r18 g18 hv => ?_)
    refine j_if_eq (tgt := 50) hC dX12_closings_21 (by decide) (fun h_ => ?_) (fun h_ => ?_)
    · have hv := hv.1 h_
      refine j_ldc (v := -1000001) hC dX12_closings_50 (mw 5 rfl) ?_
      exact j_iret hC hQ dX12_closings_52 rfl hv
    · have hv := hv.2 h_
      refine j_iload hC dX12_closings_24 6 rfl ?_
      refine j_i2l hC dX12_closings_26 ?_
      refine j_lconst (v := 0) hC dX12_closings_27 (by decide) ?_
      refine j_ldc2 (v := 300) hC dX12_closings_28 (mw 3 rfl) ?_
      refine j_callS_i (As := [.long (a6.toInt64), .long (0 : Int64), .long (300 : Int64)]) (rest := []) hC (cM_in hv) 3 gX12_closings_X12_in rfl rfl rfl ⟨Nat.le_of_ble_eq_true rfl, Nat.le_of_ble_eq_true rfl⟩ hdM_in.2 rfl rfl (Nat.le_of_ble_eq_true rfl) ⟨Nat.zero_le _, Nat.zero_le _⟩ dX12_closings_31 (fun r31 g31 hv => ?_)
      refine j_if_eq (tgt := 50) hC dX12_closings_34 (by decide) (fun h_ => ?_) (fun h_ => ?_)
      · have hv := hv.1 h_
        refine j_ldc (v := -1000001) hC dX12_closings_50 (mw 5 rfl) ?_
        exact j_iret hC hQ dX12_closings_52 rfl hv
      · have hv := hv.2 h_
        refine j_iload hC dX12_closings_37 4 rfl ?_
        refine j_i2l hC dX12_closings_39 ?_
        refine j_lconst (v := 0) hC dX12_closings_40 (by decide) ?_
        refine j_ldc2 (v := 100) hC dX12_closings_41 (mw 4 rfl) ?_
        refine j_callS_i (As := [.long (a4.toInt64), .long (0 : Int64), .long (100 : Int64)]) (rest := []) hC (cM_in hv) 3 gX12_closings_X12_in rfl rfl rfl ⟨Nat.le_of_ble_eq_true rfl, Nat.le_of_ble_eq_true rfl⟩ hdM_in.2 rfl rfl (Nat.le_of_ble_eq_true rfl) ⟨Nat.zero_le _, Nat.zero_le _⟩ dX12_closings_44 (fun r44 g44 hv => ?_)
        refine j_if_ne (tgt := 53) hC dX12_closings_47 (by decide) (fun h_ => ?_) (fun h_ => ?_)
        · have hv := hv.1 h_
          refine j_aload_n (i := 0) hC dX12_closings_53 rfl 0 rfl ?_
          refine j_iconst (v := 0) hC dX12_closings_54 (by decide) ?_
          refine j_put (C := RX12) (T := TX12) (N := 22) (ty := .int) hC hinX12 tyX12 tyX12_ok nmX12 0 (wM_c0 ad cy _) rfl 1 (by decide) (mw 6 rfl) rfl rfl fdX12_1 rfl rfl (Nat.le_of_ble_eq_true rfl) (wM_p_status ad cy _ _) dX12_closings_55 ?_
          refine j_aload_n (i := 0) hC dX12_closings_58 rfl 0 rfl ?_
          refine j_get (C := RX12) (T := TX12) (N := 22) (v := .ref (ad 3)) hC hinX12 0 (wM_c0 ad cy _) rfl 4 (by decide) (mw 7 rfl) rfl rfl dX12_closings_59 ?_
          refine j_iload_n (i := 1) hC dX12_closings_62 rfl 1 rfl ?_
          have hb63 := hv.1
          have hv := hv.2
          refine j_iald (v := ((m_lane g44) a1.toNatClampNeg)) hC 3 0 (wM_c3 ad cy _) rfl hb63 rfl dX12_closings_63 ?_
          refine j_if_ge (tgt := 73) hC dX12_closings_64 (by decide) (fun h_ => ?_) (fun h_ => ?_)
          · have hv := hv.1 h_
            refine j_iload_n (i := 2) hC dX12_closings_73 rfl 2 rfl ?_
            refine j_if_lt (tgt := 93) hC dX12_closings_74 (by decide) (fun h_ => ?_) (fun h_ => ?_)
            · have hv := hv.1 h_
              exact j_lv [0] rfl (lM_closings_93 hC hQ _ hv)
            · have hv := hv.2 h_
              refine j_iload_n (i := 2) hC dX12_closings_77 rfl 2 rfl ?_
              refine j_i2l hC dX12_closings_78 ?_
              refine j_iload_n (i := 3) hC dX12_closings_79 rfl 3 rfl ?_
              refine j_i2l hC dX12_closings_80 ?_
              refine j_ladd hC dX12_closings_81 ?_
              refine j_aload_n (i := 0) hC dX12_closings_82 rfl 0 rfl ?_
              refine j_get (C := RX12) (T := TX12) (N := 22) (v := .ref (ad 4)) hC hinX12 0 (wM_c0 ad cy _) rfl 5 (by decide) (mw 8 rfl) rfl rfl dX12_closings_83 ?_
              refine j_iload_n (i := 1) hC dX12_closings_86 rfl 1 rfl ?_
              have hb87 := hv.1
              have hv := hv.2
              refine j_iald (v := ((m_many g44) a1.toNatClampNeg)) hC 4 0 (wM_c4 ad cy _) rfl hb87 rfl dX12_closings_87 ?_
              refine j_i2l hC dX12_closings_88 ?_
              refine j_lcmp_le (tgt := 99) hC dX12_closings_89 dX12_closings_90 (by decide) (fun h_ => ?_) (fun h_ => ?_)
              · have hv := hv.1 h_
                refine j_aload_n (i := 0) hC dX12_closings_99 rfl 0 rfl ?_
                refine j_iload_n (i := 1) hC dX12_closings_100 rfl 1 rfl ?_
                refine j_iload_n (i := 2) hC dX12_closings_101 rfl 2 rfl ?_
                refine j_iload_n (i := 3) hC dX12_closings_102 rfl 3 rfl ?_
                refine j_iload hC dX12_closings_103 4 rfl ?_
                refine j_iload hC dX12_closings_105 5 rfl ?_
                refine j_iload hC dX12_closings_107 6 rfl ?_
                refine j_callV_i (C := RX12) (As := [.int a1, .int a2, .int a3, .int a4, .int a5, .int a6]) (rest := []) (b := (ad 0)) hC (cM_closingsOf hv) 6 gX12_closings_X12_closingsOf rfl rfl rfl ⟨Nat.le_of_ble_eq_true rfl, Nat.le_of_ble_eq_true rfl⟩ hdM_closingsOf rfl (wM_c0 ad cy _) rfl rfl (Nat.le_of_ble_eq_true rfl) ⟨Nat.zero_le _, Nat.zero_le _⟩ dX12_closings_109 (fun r109 g109 hv => ?_)
                exact j_iret hC hQ dX12_closings_112 rfl hv
              · have hv := hv.2 h_
                exact j_lv [0] rfl (lM_closings_93 hC hQ _ hv)
          · have hv := hv.2 h_
            refine j_aload_n (i := 0) hC dX12_closings_67 rfl 0 rfl ?_
            refine j_iconst (v := 1) hC dX12_closings_68 (by decide) ?_
            refine j_callV_i (C := RX12) (As := [.int (1 : Int32)]) (rest := []) (b := (ad 0)) hC (cM_found hv) 1 gX12_closings_X12_found rfl rfl rfl ⟨Nat.le_of_ble_eq_true rfl, Nat.le_of_ble_eq_true rfl⟩ hdM_found rfl (wM_c0 ad cy _) rfl rfl (Nat.le_of_ble_eq_true rfl) ⟨Nat.zero_le _, Nat.zero_le _⟩ dX12_closings_69 (fun r69 g69 hv => ?_)
            exact j_iret hC hQ dX12_closings_72 rfl hv
        · have hv := hv.2 h_
          refine j_ldc (v := -1000001) hC dX12_closings_50 (mw 5 rfl) ?_
          exact j_iret hC hQ dX12_closings_52 rfl hv
theorem hdM_tooMany : yX12_tooMany.cls = RX12 ∧ yX12_tooMany.cls ≠ "java/lang/invoke/MethodHandle" ∧ yX12_tooMany.cls ≠ "java/lang/invoke/VarHandle" ∧ (parseMethodDescriptor yX12_tooMany.desc).map (fun d => d.parameters.length) = some 6 := by decide +kernel
abbrev rM_tooMany : Room := { frames := 2, cells := 0, slots := 0, locals := 45 }
def vM_tooMany_85 (post : Int32 → GM → Prop) (g : GM) : Prop :=
  (vM_found g (2 : Int32) (fun r87 g87 => post r87 g87))
def vM_tooMany_94 (post : Int32 → GM → Prop) : Nat → Int32 → Int32 → Int32 → Int32 → Int32 → Int32 → Int32 → GM → Prop
  | 0, _, _, _, _, _, _, _, _ => False
  | k_ + 1, x1, x2, x3, x4, x5, x6, x7, g =>
  (((300 : Int32) < x7 → post (-1000000 : Int32) g) ∧ (¬ (300 : Int32) < x7 → (vM_closingsOf g x1 x2 x3 x4 x5 x7 (fun r112 g112 => ((r112 ≤ x6 → (vM_tooMany_94 post k_ x1 x2 x3 x4 x5 x6 (x7 + (1 : Int32)) g112)) ∧ (¬ r112 ≤ x6 → post x7 g112))))))
def vM_tooMany (g : GM) (a1 : Int32) (a2 : Int32) (a3 : Int32) (a4 : Int32) (a5 : Int32) (a6 : Int32) (post : Int32 → GM → Prop) : Prop :=
  (vM_isSheet (sm_thrown g (0 : Int32)) a1 (fun r6 g6 => ((r6 = (0 : Int32) → post (-1000001 : Int32) g6) ∧ (¬ r6 = (0 : Int32) → (vM_in g6 (a3.toInt64) (1 : Int64) (60 : Int64) (fun r18 g18 => ((r18 = (0 : Int32) → post (-1000001 : Int32) g18) ∧ (¬ r18 = (0 : Int32) → (vM_in g18 (a4.toInt64) (0 : Int64) (100 : Int64) (fun r31 g31 => ((r31 = (0 : Int32) → post (-1000001 : Int32) g31) ∧ (¬ r31 = (0 : Int32) → (((0 : Int32) ≤ a6 → (vp_in a1 8 ∧ (((0 : Int32) ≤ ((m_lane g31) a1.toNatClampNeg) → ((a2 < (0 : Int32) → (vM_tooMany_85 post (sm_status g31 (0 : Int32)))) ∧ (¬ a2 < (0 : Int32) → (vp_in a1 8 ∧ ((((a2.toInt64) + (a3.toInt64)) ≤ (((m_many g31) a1.toNatClampNeg).toInt64) → (∃ n_ : Nat, vM_tooMany_94 post n_ a1 a2 a3 a4 a5 a6 (0 : Int32) (sm_status g31 (0 : Int32)))) ∧ (¬ ((a2.toInt64) + (a3.toInt64)) ≤ (((m_many g31) a1.toNatClampNeg).toInt64) → (vM_tooMany_85 post (sm_status g31 (0 : Int32))))))))) ∧ (¬ (0 : Int32) ≤ ((m_lane g31) a1.toNatClampNeg) → (vM_found (sm_status g31 (0 : Int32)) (1 : Int32) (fun r61 g61 => post r61 g61)))))) ∧ (¬ (0 : Int32) ≤ a6 → post (-1000001 : Int32) g31))))))))))))))
set_option maxHeartbeats 4000000 in
set_option maxRecDepth 100000 in
theorem lM_tooMany_85 {Γ : jG} {l : Launch} {D : va_G} {ad : Nat → Nat} {cy : Nat → ClassId} {post : Int32 → GM → Prop} (hC : jC Γ l rM_tooMany D 8 RX12 cX12_tooMany wsX12_tooMany (tyM cy)) (hQ : jQi Γ D (wM ad cy) post (some .int) 0 0) : ∀ (g : GM), vM_tooMany_85 post g → J Γ D 8 0 0 (wM ad cy g) 85 [(0, .ref (ad 0))] [] := by
  have hinX12 : ∀ w ∈ wsX120, w ∈ wsX12_tooMany := fun w h => List.mem_cons_of_mem _ (List.mem_append_right _ h)
  intro g hv
  unfold vM_tooMany_85 at hv
  refine j_aload_n (i := 0) hC dX12_tooMany_85 rfl 0 rfl ?_
  refine j_iconst (v := 2) hC dX12_tooMany_86 (by decide) ?_
  refine j_callV_i (C := RX12) (As := [.int (2 : Int32)]) (rest := []) (b := (ad 0)) hC (cM_found hv) 1 gX12_tooMany_X12_found rfl rfl rfl ⟨Nat.le_of_ble_eq_true rfl, Nat.le_of_ble_eq_true rfl⟩ hdM_found rfl (wM_c0 ad cy _) rfl rfl (Nat.le_of_ble_eq_true rfl) ⟨Nat.zero_le _, Nat.zero_le _⟩ dX12_tooMany_87 (fun r87 g87 hv => ?_)
  exact j_iret hC hQ dX12_tooMany_90 rfl hv
set_option maxHeartbeats 4000000 in
set_option maxRecDepth 100000 in
theorem lM_tooMany_94 {Γ : jG} {l : Launch} {D : va_G} {ad : Nat → Nat} {cy : Nat → ClassId} {post : Int32 → GM → Prop} (hC : jC Γ l rM_tooMany D 8 RX12 cX12_tooMany wsX12_tooMany (tyM cy)) (hQ : jQi Γ D (wM ad cy) post (some .int) 0 0) : ∀ (n_ : Nat) (x1 : Int32) (x2 : Int32) (x3 : Int32) (x4 : Int32) (x5 : Int32) (x6 : Int32) (x7 : Int32) (g : GM), vM_tooMany_94 post n_ x1 x2 x3 x4 x5 x6 x7 g → J Γ D 8 0 0 (wM ad cy g) 94 [(0, .ref (ad 0)), (1, .int x1), (2, .int x2), (3, .int x3), (4, .int x4), (5, .int x5), (6, .int x6), (7, .int x7)] [] := by
  have hinX12 : ∀ w ∈ wsX120, w ∈ wsX12_tooMany := fun w h => List.mem_cons_of_mem _ (List.mem_append_right _ h)
  intro n_
  induction n_ with
  | zero => intro x1 x2 x3 x4 x5 x6 x7 g hv; exact False.elim hv
  | succ k_ ih =>
    intro x1 x2 x3 x4 x5 x6 x7 g hv
    unfold vM_tooMany_94 at hv
    refine j_iload hC dX12_tooMany_94 7 rfl ?_
    refine j_sipush (v := 300) hC dX12_tooMany_96 (by decide) ?_
    refine j_icmp_gt (tgt := 129) hC dX12_tooMany_99 (by decide) (fun h_ => ?_) (fun h_ => ?_)
    · have hv := hv.1 h_
      refine j_ldc (v := -1000000) hC dX12_tooMany_129 (mw 8 rfl) ?_
      exact j_iret hC hQ dX12_tooMany_131 rfl hv
    · have hv := hv.2 h_
      refine j_aload_n (i := 0) hC dX12_tooMany_102 rfl 0 rfl ?_
      refine j_iload_n (i := 1) hC dX12_tooMany_103 rfl 1 rfl ?_
      refine j_iload_n (i := 2) hC dX12_tooMany_104 rfl 2 rfl ?_
      refine j_iload_n (i := 3) hC dX12_tooMany_105 rfl 3 rfl ?_
      refine j_iload hC dX12_tooMany_106 4 rfl ?_
      refine j_iload hC dX12_tooMany_108 5 rfl ?_
      refine j_iload hC dX12_tooMany_110 7 rfl ?_
      refine j_callV_i (C := RX12) (As := [.int x1, .int x2, .int x3, .int x4, .int x5, .int x7]) (rest := []) (b := (ad 0)) hC (cM_closingsOf hv) 6 gX12_tooMany_X12_closingsOf rfl rfl rfl ⟨Nat.le_of_ble_eq_true rfl, Nat.le_of_ble_eq_true rfl⟩ hdM_closingsOf rfl (wM_c0 ad cy _) rfl rfl (Nat.le_of_ble_eq_true rfl) ⟨Nat.zero_le _, Nat.zero_le _⟩ dX12_tooMany_112 (fun r112 g112 hv => ?_)
      refine j_iload hC dX12_tooMany_115 6 rfl ?_
      refine j_icmp_le (tgt := 123) hC dX12_tooMany_117 (by decide) (fun h_ => ?_) (fun h_ => ?_)
      · have hv := hv.1 h_
        refine j_iinc (k := 7) (v := (x7 + (1 : Int32))) (lv' := [(7, .int (x7 + (1 : Int32))), (0, .ref (ad 0)), (1, .int x1), (2, .int x2), (3, .int x3), (4, .int x4), (5, .int x5), (6, .int x6)]) hC dX12_tooMany_123 rfl rfl (by decide) rfl ?_
        refine j_goto (tgt := 94) hC dX12_tooMany_126 (by decide) ?_
        exact j_lv [1, 2, 3, 4, 5, 6, 7, 0] rfl (ih _ _ _ _ _ _ _ _ hv)
      · have hv := hv.2 h_
        refine j_iload hC dX12_tooMany_120 7 rfl ?_
        exact j_iret hC hQ dX12_tooMany_122 rfl hv
set_option maxHeartbeats 4000000 in
set_option maxRecDepth 100000 in
theorem cM_tooMany {l : Launch} {D : va_G} {ad : Nat → Nat} {cy : Nat → ClassId} {g : GM} {a1 : Int32} {a2 : Int32} {a3 : Int32} {a4 : Int32} {a5 : Int32} {a6 : Int32} {post : Int32 → GM → Prop} (hv : vM_tooMany g a1 a2 a3 a4 a5 a6 post) : jMi l yX12_tooMany wsX12_tooMany rM_tooMany D (tyM cy) [.ref (ad 0), .int a1, .int a2, .int a3, .int a4, .int a5, .int a6] (wM ad cy g) (wM ad cy) post 0 0 := by
  refine j_meti (cc := cX12_tooMany) (nL := 8) (rt := (some .int)) (by decide) (Nat.le_of_ble_eq_true rfl) ?_
  intro Γ hC hQ _
  have hC : jC Γ l rM_tooMany D 8 RX12 cX12_tooMany wsX12_tooMany (tyM cy) := hC
  have hinX12 : ∀ w ∈ wsX120, w ∈ wsX12_tooMany := fun w h => List.mem_cons_of_mem _ (List.mem_append_right _ h)
  refine j_lv (lv' := [(0, .ref (ad 0)), (1, .int a1), (2, .int a2), (3, .int a3), (4, .int a4), (5, .int a5), (6, .int a6)]) [0, 1, 2, 3, 4, 5, 6] rfl ?_
  unfold vM_tooMany at hv
  refine j_aload_n (i := 0) hC dX12_tooMany_0 rfl 0 rfl ?_
  refine j_iconst (v := 0) hC dX12_tooMany_1 (by decide) ?_
  refine j_put (C := RX12) (T := TX12) (N := 22) (ty := .int) hC hinX12 tyX12 tyX12_ok nmX12 0 (wM_c0 ad cy _) rfl 0 (by decide) (mw 1 rfl) rfl rfl fdX12_0 rfl rfl (Nat.le_of_ble_eq_true rfl) (wM_p_thrown ad cy _ _) dX12_tooMany_2 ?_
  refine j_iload_n (i := 1) hC dX12_tooMany_5 rfl 1 rfl ?_
  refine j_callS_i (As := [.int a1]) (rest := []) hC (cM_isSheet hv) 1 gX12_tooMany_X12_isSheet rfl rfl rfl ⟨Nat.le_of_ble_eq_true rfl, Nat.le_of_ble_eq_true rfl⟩ hdM_isSheet.2 rfl rfl (Nat.le_of_ble_eq_true rfl) ⟨Nat.zero_le _, Nat.zero_le _⟩ dX12_tooMany_6 (fun r6 g6 hv => ?_)
  refine j_if_eq (tgt := 42) hC dX12_tooMany_9 (by decide) (fun h_ => ?_) (fun h_ => ?_)
  · have hv := hv.1 h_
    refine j_ldc (v := -1000001) hC dX12_tooMany_42 (mw 4 rfl) ?_
    exact j_iret hC hQ dX12_tooMany_44 rfl hv
  · have hv := hv.2 h_
    refine j_iload_n (i := 3) hC dX12_tooMany_12 rfl 3 rfl ?_
    refine j_i2l hC dX12_tooMany_13 ?_
    refine j_lconst (v := 1) hC dX12_tooMany_14 (by decide) ?_
    refine j_ldc2 (v := 60) hC dX12_tooMany_15 (mw 2 rfl) ?_
    refine j_callS_i (As := [.long (a3.toInt64), .long (1 : Int64), .long (60 : Int64)]) (rest := []) hC (cM_in hv) 3 gX12_tooMany_X12_in rfl rfl rfl ⟨Nat.le_of_ble_eq_true rfl, Nat.le_of_ble_eq_true rfl⟩ hdM_in.2 rfl rfl (Nat.le_of_ble_eq_true rfl) ⟨Nat.zero_le _, Nat.zero_le _⟩ dX12_tooMany_18 (fun r18 g18 hv => ?_)
    refine j_if_eq (tgt := 42) hC dX12_tooMany_21 (by decide) (fun h_ => ?_) (fun h_ => ?_)
    · have hv := hv.1 h_
      refine j_ldc (v := -1000001) hC dX12_tooMany_42 (mw 4 rfl) ?_
      exact j_iret hC hQ dX12_tooMany_44 rfl hv
    · have hv := hv.2 h_
      refine j_iload hC dX12_tooMany_24 4 rfl ?_
      refine j_i2l hC dX12_tooMany_26 ?_
      refine j_lconst (v := 0) hC dX12_tooMany_27 (by decide) ?_
      refine j_ldc2 (v := 100) hC dX12_tooMany_28 (mw 3 rfl) ?_
      refine j_callS_i (As := [.long (a4.toInt64), .long (0 : Int64), .long (100 : Int64)]) (rest := []) hC (cM_in hv) 3 gX12_tooMany_X12_in rfl rfl rfl ⟨Nat.le_of_ble_eq_true rfl, Nat.le_of_ble_eq_true rfl⟩ hdM_in.2 rfl rfl (Nat.le_of_ble_eq_true rfl) ⟨Nat.zero_le _, Nat.zero_le _⟩ dX12_tooMany_31 (fun r31 g31 hv => ?_)
      refine j_if_eq (tgt := 42) hC dX12_tooMany_34 (by decide) (fun h_ => ?_) (fun h_ => ?_)
      · have hv := hv.1 h_
        refine j_ldc (v := -1000001) hC dX12_tooMany_42 (mw 4 rfl) ?_
        exact j_iret hC hQ dX12_tooMany_44 rfl hv
      · have hv := hv.2 h_
        refine j_iload hC dX12_tooMany_37 6 rfl ?_
        refine j_if_ge (tgt := 45) hC dX12_tooMany_39 (by decide) (fun h_ => ?_) (fun h_ => ?_)
        · have hv := hv.1 h_
          refine j_aload_n (i := 0) hC dX12_tooMany_45 rfl 0 rfl ?_
          refine j_iconst (v := 0) hC dX12_tooMany_46 (by decide) ?_
          refine j_put (C := RX12) (T := TX12) (N := 22) (ty := .int) hC hinX12 tyX12 tyX12_ok nmX12 0 (wM_c0 ad cy _) rfl 1 (by decide) (mw 5 rfl) rfl rfl fdX12_1 rfl rfl (Nat.le_of_ble_eq_true rfl) (wM_p_status ad cy _ _) dX12_tooMany_47 ?_
          refine j_aload_n (i := 0) hC dX12_tooMany_50 rfl 0 rfl ?_
          refine j_get (C := RX12) (T := TX12) (N := 22) (v := .ref (ad 3)) hC hinX12 0 (wM_c0 ad cy _) rfl 4 (by decide) (mw 6 rfl) rfl rfl dX12_tooMany_51 ?_
          refine j_iload_n (i := 1) hC dX12_tooMany_54 rfl 1 rfl ?_
          have hb55 := hv.1
          have hv := hv.2
          refine j_iald (v := ((m_lane g31) a1.toNatClampNeg)) hC 3 0 (wM_c3 ad cy _) rfl hb55 rfl dX12_tooMany_55 ?_
          refine j_if_ge (tgt := 65) hC dX12_tooMany_56 (by decide) (fun h_ => ?_) (fun h_ => ?_)
          · have hv := hv.1 h_
            refine j_iload_n (i := 2) hC dX12_tooMany_65 rfl 2 rfl ?_
            refine j_if_lt (tgt := 85) hC dX12_tooMany_66 (by decide) (fun h_ => ?_) (fun h_ => ?_)
            · have hv := hv.1 h_
              exact j_lv [0] rfl (lM_tooMany_85 hC hQ _ hv)
            · have hv := hv.2 h_
              refine j_iload_n (i := 2) hC dX12_tooMany_69 rfl 2 rfl ?_
              refine j_i2l hC dX12_tooMany_70 ?_
              refine j_iload_n (i := 3) hC dX12_tooMany_71 rfl 3 rfl ?_
              refine j_i2l hC dX12_tooMany_72 ?_
              refine j_ladd hC dX12_tooMany_73 ?_
              refine j_aload_n (i := 0) hC dX12_tooMany_74 rfl 0 rfl ?_
              refine j_get (C := RX12) (T := TX12) (N := 22) (v := .ref (ad 4)) hC hinX12 0 (wM_c0 ad cy _) rfl 5 (by decide) (mw 7 rfl) rfl rfl dX12_tooMany_75 ?_
              refine j_iload_n (i := 1) hC dX12_tooMany_78 rfl 1 rfl ?_
              have hb79 := hv.1
              have hv := hv.2
              refine j_iald (v := ((m_many g31) a1.toNatClampNeg)) hC 4 0 (wM_c4 ad cy _) rfl hb79 rfl dX12_tooMany_79 ?_
              refine j_i2l hC dX12_tooMany_80 ?_
              refine j_lcmp_le (tgt := 91) hC dX12_tooMany_81 dX12_tooMany_82 (by decide) (fun h_ => ?_) (fun h_ => ?_)
              · have hv := hv.1 h_
                refine j_iconst (v := 0) hC dX12_tooMany_91 (by decide) ?_
                refine j_istore (lv' := [(7, .int (0 : Int32)), (0, .ref (ad 0)), (1, .int a1), (2, .int a2), (3, .int a3), (4, .int a4), (5, .int a5), (6, .int a6)]) hC dX12_tooMany_92 (by decide) rfl ?_
                obtain ⟨n_, hv⟩ := hv
                exact j_lv [1, 2, 3, 4, 5, 6, 7, 0] rfl (lM_tooMany_94 hC hQ n_ _ _ _ _ _ _ _ _ hv)
              · have hv := hv.2 h_
                exact j_lv [0] rfl (lM_tooMany_85 hC hQ _ hv)
          · have hv := hv.2 h_
            refine j_aload_n (i := 0) hC dX12_tooMany_59 rfl 0 rfl ?_
            refine j_iconst (v := 1) hC dX12_tooMany_60 (by decide) ?_
            refine j_callV_i (C := RX12) (As := [.int (1 : Int32)]) (rest := []) (b := (ad 0)) hC (cM_found hv) 1 gX12_tooMany_X12_found rfl rfl rfl ⟨Nat.le_of_ble_eq_true rfl, Nat.le_of_ble_eq_true rfl⟩ hdM_found rfl (wM_c0 ad cy _) rfl rfl (Nat.le_of_ble_eq_true rfl) ⟨Nat.zero_le _, Nat.zero_le _⟩ dX12_tooMany_61 (fun r61 g61 hv => ?_)
            exact j_iret hC hQ dX12_tooMany_64 rfl hv
        · have hv := hv.2 h_
          refine j_ldc (v := -1000001) hC dX12_tooMany_42 (mw 4 rfl) ?_
          exact j_iret hC hQ dX12_tooMany_44 rfl hv
theorem hdM_kindOf : yX12_kindOf.cls = RX12 ∧ yX12_kindOf.cls ≠ "java/lang/invoke/MethodHandle" ∧ yX12_kindOf.cls ≠ "java/lang/invoke/VarHandle" ∧ (parseMethodDescriptor yX12_kindOf.desc).map (fun d => d.parameters.length) = some 1 := by decide +kernel
abbrev rM_kindOf : Room := { frames := 0, cells := 0, slots := 0, locals := 0 }
def vM_kindOf (g : GM) (a1 : Int32) (post : Int32 → GM → Prop) : Prop :=
  (vp_in a1 6 ∧ ((((m_hand g) a1.toNatClampNeg) ≤ (0 : Int32) → (vp_in a1 6 ∧ ((((m_minutes g) a1.toNatClampNeg) < (200 : Int32) → post (0 : Int32) g) ∧ (¬ ((m_minutes g) a1.toNatClampNeg) < (200 : Int32) → post (3 : Int32) g)))) ∧ (¬ ((m_hand g) a1.toNatClampNeg) ≤ (0 : Int32) → (vp_in a1 6 ∧ (vp_in a1 6 ∧ ((((m_minutes g) a1.toNatClampNeg) < ((m_hand g) a1.toNatClampNeg) → post (1 : Int32) g) ∧ (¬ ((m_minutes g) a1.toNatClampNeg) < ((m_hand g) a1.toNatClampNeg) → post (2 : Int32) g)))))))
set_option maxHeartbeats 4000000 in
set_option maxRecDepth 100000 in
theorem cM_kindOf {l : Launch} {D : va_G} {ad : Nat → Nat} {cy : Nat → ClassId} {g : GM} {a1 : Int32} {post : Int32 → GM → Prop} (hv : vM_kindOf g a1 post) : jMi l yX12_kindOf wsX12_kindOf rM_kindOf D (tyM cy) [.ref (ad 0), .int a1] (wM ad cy g) (wM ad cy) post 0 0 := by
  refine j_meti (cc := cX12_kindOf) (nL := 2) (rt := (some .int)) (by decide) (Nat.le_of_ble_eq_true rfl) ?_
  intro Γ hC hQ _
  have hC : jC Γ l rM_kindOf D 2 RX12 cX12_kindOf wsX12_kindOf (tyM cy) := hC
  have hinX12 : ∀ w ∈ wsX120, w ∈ wsX12_kindOf := fun w h => List.mem_cons_of_mem _ (List.mem_append_right _ h)
  refine j_lv (lv' := [(0, .ref (ad 0)), (1, .int a1)]) [0, 1] rfl ?_
  unfold vM_kindOf at hv
  refine j_aload_n (i := 0) hC dX12_kindOf_0 rfl 0 rfl ?_
  refine j_get (C := RX12) (T := TX12) (N := 22) (v := .ref (ad 11)) hC hinX12 0 (wM_c0 ad cy _) rfl 14 (by decide) (mw 1 rfl) rfl rfl dX12_kindOf_1 ?_
  refine j_iload_n (i := 1) hC dX12_kindOf_4 rfl 1 rfl ?_
  have hb5 := hv.1
  have hv := hv.2
  refine j_iald (v := ((m_hand g) a1.toNatClampNeg)) hC 11 0 (wM_c11 ad cy _) rfl hb5 rfl dX12_kindOf_5 ?_
  refine j_if_le (tgt := 32) hC dX12_kindOf_6 (by decide) (fun h_ => ?_) (fun h_ => ?_)
  · have hv := hv.1 h_
    refine j_aload_n (i := 0) hC dX12_kindOf_32 rfl 0 rfl ?_
    refine j_get (C := RX12) (T := TX12) (N := 22) (v := .ref (ad 10)) hC hinX12 0 (wM_c0 ad cy _) rfl 13 (by decide) (mw 2 rfl) rfl rfl dX12_kindOf_33 ?_
    refine j_iload_n (i := 1) hC dX12_kindOf_36 rfl 1 rfl ?_
    have hb37 := hv.1
    have hv := hv.2
    refine j_iald (v := ((m_minutes g) a1.toNatClampNeg)) hC 10 0 (wM_c10 ad cy _) rfl hb37 rfl dX12_kindOf_37 ?_
    refine j_sipush (v := 200) hC dX12_kindOf_38 (by decide) ?_
    refine j_icmp_lt (tgt := 48) hC dX12_kindOf_41 (by decide) (fun h_ => ?_) (fun h_ => ?_)
    · have hv := hv.1 h_
      refine j_iconst (v := 0) hC dX12_kindOf_48 (by decide) ?_
      exact j_iret hC hQ dX12_kindOf_49 rfl hv
    · have hv := hv.2 h_
      refine j_iconst (v := 3) hC dX12_kindOf_44 (by decide) ?_
      refine j_goto (tgt := 49) hC dX12_kindOf_45 (by decide) ?_
      exact j_iret hC hQ dX12_kindOf_49 rfl hv
  · have hv := hv.2 h_
    refine j_aload_n (i := 0) hC dX12_kindOf_9 rfl 0 rfl ?_
    refine j_get (C := RX12) (T := TX12) (N := 22) (v := .ref (ad 11)) hC hinX12 0 (wM_c0 ad cy _) rfl 14 (by decide) (mw 1 rfl) rfl rfl dX12_kindOf_10 ?_
    refine j_iload_n (i := 1) hC dX12_kindOf_13 rfl 1 rfl ?_
    have hb14 := hv.1
    have hv := hv.2
    refine j_iald (v := ((m_hand g) a1.toNatClampNeg)) hC 11 0 (wM_c11 ad cy _) rfl hb14 rfl dX12_kindOf_14 ?_
    refine j_aload_n (i := 0) hC dX12_kindOf_15 rfl 0 rfl ?_
    refine j_get (C := RX12) (T := TX12) (N := 22) (v := .ref (ad 10)) hC hinX12 0 (wM_c0 ad cy _) rfl 13 (by decide) (mw 2 rfl) rfl rfl dX12_kindOf_16 ?_
    refine j_iload_n (i := 1) hC dX12_kindOf_19 rfl 1 rfl ?_
    have hb20 := hv.1
    have hv := hv.2
    refine j_iald (v := ((m_minutes g) a1.toNatClampNeg)) hC 10 0 (wM_c10 ad cy _) rfl hb20 rfl dX12_kindOf_20 ?_
    refine j_icmp_gt (tgt := 28) hC dX12_kindOf_21 (by decide) (fun h_ => ?_) (fun h_ => ?_)
    · have hv := hv.1 h_
      refine j_iconst (v := 1) hC dX12_kindOf_28 (by decide) ?_
      refine j_goto (tgt := 49) hC dX12_kindOf_29 (by decide) ?_
      exact j_iret hC hQ dX12_kindOf_49 rfl hv
    · have hv := hv.2 h_
      refine j_iconst (v := 2) hC dX12_kindOf_24 (by decide) ?_
      refine j_goto (tgt := 49) hC dX12_kindOf_25 (by decide) ?_
      exact j_iret hC hQ dX12_kindOf_49 rfl hv
theorem hdM_kind : yX12_kind.cls = RX12 ∧ yX12_kind.cls ≠ "java/lang/invoke/MethodHandle" ∧ yX12_kind.cls ≠ "java/lang/invoke/VarHandle" ∧ (parseMethodDescriptor yX12_kind.desc).map (fun d => d.parameters.length) = some 1 := by decide +kernel
abbrev rM_kind : Room := { frames := 2, cells := 0, slots := 0, locals := 46 }
def vM_kind (g : GM) (a1 : Int32) (post : Int32 → GM → Prop) : Prop :=
  (vM_isGate (sm_thrown g (0 : Int32)) a1 (fun r7 g7 => ((r7 = (0 : Int32) → post (-1000001 : Int32) g7) ∧ (¬ r7 = (0 : Int32) → (vM_kindOf g7 a1 (fun r15 g15 => post r15 g15))))))
set_option maxHeartbeats 4000000 in
set_option maxRecDepth 100000 in
theorem cM_kind {l : Launch} {D : va_G} {ad : Nat → Nat} {cy : Nat → ClassId} {g : GM} {a1 : Int32} {post : Int32 → GM → Prop} (hv : vM_kind g a1 post) : jMi l yX12_kind wsX12_kind rM_kind D (tyM cy) [.ref (ad 0), .int a1] (wM ad cy g) (wM ad cy) post 0 0 := by
  refine j_meti (cc := cX12_kind) (nL := 2) (rt := (some .int)) (by decide) (Nat.le_of_ble_eq_true rfl) ?_
  intro Γ hC hQ _
  have hC : jC Γ l rM_kind D 2 RX12 cX12_kind wsX12_kind (tyM cy) := hC
  have hinX12 : ∀ w ∈ wsX120, w ∈ wsX12_kind := fun w h => List.mem_cons_of_mem _ (List.mem_append_right _ h)
  refine j_lv (lv' := [(0, .ref (ad 0)), (1, .int a1)]) [0, 1] rfl ?_
  unfold vM_kind at hv
  refine j_aload_n (i := 0) hC dX12_kind_0 rfl 0 rfl ?_
  refine j_iconst (v := 0) hC dX12_kind_1 (by decide) ?_
  refine j_put (C := RX12) (T := TX12) (N := 22) (ty := .int) hC hinX12 tyX12 tyX12_ok nmX12 0 (wM_c0 ad cy _) rfl 0 (by decide) (mw 1 rfl) rfl rfl fdX12_0 rfl rfl (Nat.le_of_ble_eq_true rfl) (wM_p_thrown ad cy _ _) dX12_kind_2 ?_
  refine j_aload_n (i := 0) hC dX12_kind_5 rfl 0 rfl ?_
  refine j_iload_n (i := 1) hC dX12_kind_6 rfl 1 rfl ?_
  refine j_callV_i (C := RX12) (As := [.int a1]) (rest := []) (b := (ad 0)) hC (cM_isGate hv) 1 gX12_kind_X12_isGate rfl rfl rfl ⟨Nat.le_of_ble_eq_true rfl, Nat.le_of_ble_eq_true rfl⟩ hdM_isGate rfl (wM_c0 ad cy _) rfl rfl (Nat.le_of_ble_eq_true rfl) ⟨Nat.zero_le _, Nat.zero_le _⟩ dX12_kind_7 (fun r7 g7 hv => ?_)
  refine j_if_eq (tgt := 21) hC dX12_kind_10 (by decide) (fun h_ => ?_) (fun h_ => ?_)
  · have hv := hv.1 h_
    refine j_ldc (v := -1000001) hC dX12_kind_21 (mw 2 rfl) ?_
    exact j_iret hC hQ dX12_kind_23 rfl hv
  · have hv := hv.2 h_
    refine j_aload_n (i := 0) hC dX12_kind_13 rfl 0 rfl ?_
    refine j_iload_n (i := 1) hC dX12_kind_14 rfl 1 rfl ?_
    refine j_callV_i (C := RX12) (As := [.int a1]) (rest := []) (b := (ad 0)) hC (cM_kindOf hv) 1 gX12_kind_X12_kindOf rfl rfl rfl ⟨Nat.le_of_ble_eq_true rfl, Nat.le_of_ble_eq_true rfl⟩ hdM_kindOf rfl (wM_c0 ad cy _) rfl rfl (Nat.le_of_ble_eq_true rfl) ⟨Nat.zero_le _, Nat.zero_le _⟩ dX12_kind_15 (fun r15 g15 hv => ?_)
    refine j_goto (tgt := 23) hC dX12_kind_18 (by decide) ?_
    exact j_iret hC hQ dX12_kind_23 rfl hv
theorem hdM_as : yX12_as.cls = RX12 ∧ yX12_as.cls ≠ "java/lang/invoke/MethodHandle" ∧ yX12_as.cls ≠ "java/lang/invoke/VarHandle" ∧ (parseMethodDescriptor yX12_as.desc).map (fun d => d.parameters.length) = some 2 := by decide +kernel
abbrev rM_as : Room := { frames := 2, cells := 0, slots := 0, locals := 46 }
def vM_as_58 (post : Int32 → GM → Prop) (x1 : Int32) (g : GM) : Prop :=
  (vp_in x1 6 ∧ post ((m_minutes g) x1.toNatClampNeg) g)
def vM_as_67 (post : Int32 → GM → Prop) (g : GM) : Prop :=
  (vM_found g (3 : Int32) (fun r69 g69 => post r69 g69))
def vM_as (g : GM) (a1 : Int32) (a2 : Int32) (post : Int32 → GM → Prop) : Prop :=
  (vM_isGate (sm_thrown g (0 : Int32)) a1 (fun r7 g7 => ((r7 = (0 : Int32) → post (-1000001 : Int32) g7) ∧ (¬ r7 = (0 : Int32) → (vM_in g7 (a2.toInt64) (0 : Int64) (3 : Int64) (fun r19 g19 => ((¬ r19 = (0 : Int32) → (vM_kindOf (sm_status g19 (0 : Int32)) a1 (fun r35 g35 => ((a2 = (0 : Int32) → (vM_as_58 post a1 g35)) ∧ (¬ a2 = (0 : Int32) → ((r35 = a2 → (vM_as_58 post a1 g35)) ∧ (¬ r35 = a2 → ((¬ a2 = (1 : Int32) → (vM_as_67 post g35)) ∧ (a2 = (1 : Int32) → ((¬ r35 = (2 : Int32) → (vM_as_67 post g35)) ∧ (r35 = (2 : Int32) → (vM_as_58 post a1 g35)))))))))))) ∧ (r19 = (0 : Int32) → post (-1000001 : Int32) g19))))))))
set_option maxHeartbeats 4000000 in
set_option maxRecDepth 100000 in
theorem lM_as_58 {Γ : jG} {l : Launch} {D : va_G} {ad : Nat → Nat} {cy : Nat → ClassId} {post : Int32 → GM → Prop} (hC : jC Γ l rM_as D 4 RX12 cX12_as wsX12_as (tyM cy)) (hQ : jQi Γ D (wM ad cy) post (some .int) 0 0) : ∀ (x1 : Int32) (g : GM), vM_as_58 post x1 g → J Γ D 4 0 0 (wM ad cy g) 58 [(0, .ref (ad 0)), (1, .int x1)] [] := by
  have hinX12 : ∀ w ∈ wsX120, w ∈ wsX12_as := fun w h => List.mem_cons_of_mem _ (List.mem_append_right _ h)
  intro x1 g hv
  unfold vM_as_58 at hv
  refine j_aload_n (i := 0) hC dX12_as_58 rfl 0 rfl ?_
  refine j_get (C := RX12) (T := TX12) (N := 22) (v := .ref (ad 10)) hC hinX12 0 (wM_c0 ad cy _) rfl 13 (by decide) (mw 5 rfl) rfl rfl dX12_as_59 ?_
  refine j_iload_n (i := 1) hC dX12_as_62 rfl 1 rfl ?_
  have hb63 := hv.1
  have hv := hv.2
  refine j_iald (v := ((m_minutes g) x1.toNatClampNeg)) hC 10 0 (wM_c10 ad cy _) rfl hb63 rfl dX12_as_63 ?_
  refine j_goto (tgt := 72) hC dX12_as_64 (by decide) ?_
  exact j_iret hC hQ dX12_as_72 rfl hv
set_option maxHeartbeats 4000000 in
set_option maxRecDepth 100000 in
theorem lM_as_67 {Γ : jG} {l : Launch} {D : va_G} {ad : Nat → Nat} {cy : Nat → ClassId} {post : Int32 → GM → Prop} (hC : jC Γ l rM_as D 4 RX12 cX12_as wsX12_as (tyM cy)) (hQ : jQi Γ D (wM ad cy) post (some .int) 0 0) : ∀ (g : GM), vM_as_67 post g → J Γ D 4 0 0 (wM ad cy g) 67 [(0, .ref (ad 0))] [] := by
  have hinX12 : ∀ w ∈ wsX120, w ∈ wsX12_as := fun w h => List.mem_cons_of_mem _ (List.mem_append_right _ h)
  intro g hv
  unfold vM_as_67 at hv
  refine j_aload_n (i := 0) hC dX12_as_67 rfl 0 rfl ?_
  refine j_iconst (v := 3) hC dX12_as_68 (by decide) ?_
  refine j_callV_i (C := RX12) (As := [.int (3 : Int32)]) (rest := []) (b := (ad 0)) hC (cM_found hv) 1 gX12_as_X12_found rfl rfl rfl ⟨Nat.le_of_ble_eq_true rfl, Nat.le_of_ble_eq_true rfl⟩ hdM_found rfl (wM_c0 ad cy _) rfl rfl (Nat.le_of_ble_eq_true rfl) ⟨Nat.zero_le _, Nat.zero_le _⟩ dX12_as_69 (fun r69 g69 hv => ?_)
  exact j_iret hC hQ dX12_as_72 rfl hv
set_option maxHeartbeats 4000000 in
set_option maxRecDepth 100000 in
theorem cM_as {l : Launch} {D : va_G} {ad : Nat → Nat} {cy : Nat → ClassId} {g : GM} {a1 : Int32} {a2 : Int32} {post : Int32 → GM → Prop} (hv : vM_as g a1 a2 post) : jMi l yX12_as wsX12_as rM_as D (tyM cy) [.ref (ad 0), .int a1, .int a2] (wM ad cy g) (wM ad cy) post 0 0 := by
  refine j_meti (cc := cX12_as) (nL := 4) (rt := (some .int)) (by decide) (Nat.le_of_ble_eq_true rfl) ?_
  intro Γ hC hQ _
  have hC : jC Γ l rM_as D 4 RX12 cX12_as wsX12_as (tyM cy) := hC
  have hinX12 : ∀ w ∈ wsX120, w ∈ wsX12_as := fun w h => List.mem_cons_of_mem _ (List.mem_append_right _ h)
  refine j_lv (lv' := [(0, .ref (ad 0)), (1, .int a1), (2, .int a2)]) [0, 1, 2] rfl ?_
  unfold vM_as at hv
  refine j_aload_n (i := 0) hC dX12_as_0 rfl 0 rfl ?_
  refine j_iconst (v := 0) hC dX12_as_1 (by decide) ?_
  refine j_put (C := RX12) (T := TX12) (N := 22) (ty := .int) hC hinX12 tyX12 tyX12_ok nmX12 0 (wM_c0 ad cy _) rfl 0 (by decide) (mw 1 rfl) rfl rfl fdX12_0 rfl rfl (Nat.le_of_ble_eq_true rfl) (wM_p_thrown ad cy _ _) dX12_as_2 ?_
  refine j_aload_n (i := 0) hC dX12_as_5 rfl 0 rfl ?_
  refine j_iload_n (i := 1) hC dX12_as_6 rfl 1 rfl ?_
  refine j_callV_i (C := RX12) (As := [.int a1]) (rest := []) (b := (ad 0)) hC (cM_isGate hv) 1 gX12_as_X12_isGate rfl rfl rfl ⟨Nat.le_of_ble_eq_true rfl, Nat.le_of_ble_eq_true rfl⟩ hdM_isGate rfl (wM_c0 ad cy _) rfl rfl (Nat.le_of_ble_eq_true rfl) ⟨Nat.zero_le _, Nat.zero_le _⟩ dX12_as_7 (fun r7 g7 hv => ?_)
  refine j_if_eq (tgt := 25) hC dX12_as_10 (by decide) (fun h_ => ?_) (fun h_ => ?_)
  · have hv := hv.1 h_
    refine j_ldc (v := -1000001) hC dX12_as_25 (mw 3 rfl) ?_
    exact j_iret hC hQ dX12_as_27 rfl hv
  · have hv := hv.2 h_
    refine j_iload_n (i := 2) hC dX12_as_13 rfl 2 rfl ?_
    refine j_i2l hC dX12_as_14 ?_
    refine j_lconst (v := 0) hC dX12_as_15 (by decide) ?_
    refine j_ldc2 (v := 3) hC dX12_as_16 (mw 2 rfl) ?_
    refine j_callS_i (As := [.long (a2.toInt64), .long (0 : Int64), .long (3 : Int64)]) (rest := []) hC (cM_in hv) 3 gX12_as_X12_in rfl rfl rfl ⟨Nat.le_of_ble_eq_true rfl, Nat.le_of_ble_eq_true rfl⟩ hdM_in.2 rfl rfl (Nat.le_of_ble_eq_true rfl) ⟨Nat.zero_le _, Nat.zero_le _⟩ dX12_as_19 (fun r19 g19 hv => ?_)
    refine j_if_ne (tgt := 28) hC dX12_as_22 (by decide) (fun h_ => ?_) (fun h_ => ?_)
    · have hv := hv.1 h_
      refine j_aload_n (i := 0) hC dX12_as_28 rfl 0 rfl ?_
      refine j_iconst (v := 0) hC dX12_as_29 (by decide) ?_
      refine j_put (C := RX12) (T := TX12) (N := 22) (ty := .int) hC hinX12 tyX12 tyX12_ok nmX12 0 (wM_c0 ad cy _) rfl 1 (by decide) (mw 4 rfl) rfl rfl fdX12_1 rfl rfl (Nat.le_of_ble_eq_true rfl) (wM_p_status ad cy _ _) dX12_as_30 ?_
      refine j_aload_n (i := 0) hC dX12_as_33 rfl 0 rfl ?_
      refine j_iload_n (i := 1) hC dX12_as_34 rfl 1 rfl ?_
      refine j_callV_i (C := RX12) (As := [.int a1]) (rest := []) (b := (ad 0)) hC (cM_kindOf hv) 1 gX12_as_X12_kindOf rfl rfl rfl ⟨Nat.le_of_ble_eq_true rfl, Nat.le_of_ble_eq_true rfl⟩ hdM_kindOf rfl (wM_c0 ad cy _) rfl rfl (Nat.le_of_ble_eq_true rfl) ⟨Nat.zero_le _, Nat.zero_le _⟩ dX12_as_35 (fun r35 g35 hv => ?_)
      refine j_istore_n (i := 3) (lv' := [(3, .int r35), (0, .ref (ad 0)), (1, .int a1), (2, .int a2)]) hC dX12_as_38 rfl (by decide) rfl ?_
      refine j_iload_n (i := 2) hC dX12_as_39 rfl 3 rfl ?_
      refine j_if_eq (tgt := 58) hC dX12_as_40 (by decide) (fun h_ => ?_) (fun h_ => ?_)
      · have hv := hv.1 h_
        exact j_lv [1, 2] rfl (lM_as_58 hC hQ _ _ hv)
      · have hv := hv.2 h_
        refine j_iload_n (i := 3) hC dX12_as_43 rfl 0 rfl ?_
        refine j_iload_n (i := 2) hC dX12_as_44 rfl 3 rfl ?_
        refine j_icmp_eq (tgt := 58) hC dX12_as_45 (by decide) (fun h_ => ?_) (fun h_ => ?_)
        · have hv := hv.1 h_
          exact j_lv [1, 2] rfl (lM_as_58 hC hQ _ _ hv)
        · have hv := hv.2 h_
          refine j_iload_n (i := 2) hC dX12_as_48 rfl 3 rfl ?_
          refine j_iconst (v := 1) hC dX12_as_49 (by decide) ?_
          refine j_icmp_ne (tgt := 67) hC dX12_as_50 (by decide) (fun h_ => ?_) (fun h_ => ?_)
          · have hv := hv.1 h_
            exact j_lv [1] rfl (lM_as_67 hC hQ _ hv)
          · have hv := hv.2 h_
            refine j_iload_n (i := 3) hC dX12_as_53 rfl 0 rfl ?_
            refine j_iconst (v := 2) hC dX12_as_54 (by decide) ?_
            refine j_icmp_ne (tgt := 67) hC dX12_as_55 (by decide) (fun h_ => ?_) (fun h_ => ?_)
            · have hv := hv.1 h_
              exact j_lv [1] rfl (lM_as_67 hC hQ _ hv)
            · have hv := hv.2 h_
              exact j_lv [1, 2] rfl (lM_as_58 hC hQ _ _ hv)
    · have hv := hv.2 h_
      refine j_ldc (v := -1000001) hC dX12_as_25 (mw 3 rfl) ?_
      exact j_iret hC hQ dX12_as_27 rfl hv
theorem hdM_began : yX12_began.cls = RX12 ∧ yX12_began.cls ≠ "java/lang/invoke/MethodHandle" ∧ yX12_began.cls ≠ "java/lang/invoke/VarHandle" ∧ (parseMethodDescriptor yX12_began.desc).map (fun d => d.parameters.length) = some 1 := by decide +kernel
abbrev rM_began : Room := { frames := 0, cells := 0, slots := 0, locals := 0 }
def vM_began (g : GM) (a1 : Int32) (post : GM → Prop) : Prop :=
  (((16 : Int32) ≤ (m_traced g) → post g) ∧ (¬ (16 : Int32) ≤ (m_traced g) → (vp_in (m_traced g) 16 ∧ post (sm_traced (sm_trace g (upd (m_trace g) (m_traced g).toNatClampNeg a1)) ((m_traced g) + (1 : Int32))))))
set_option maxHeartbeats 4000000 in
set_option maxRecDepth 100000 in
theorem cM_began {l : Launch} {D : va_G} {ad : Nat → Nat} {cy : Nat → ClassId} {g : GM} {a1 : Int32} {post : GM → Prop} (hv : vM_began g a1 post) : jMv l yX12_began wsX12_began rM_began D (tyM cy) [.ref (ad 0), .int a1] (wM ad cy g) (wM ad cy) post 0 0 := by
  refine j_metv (cc := cX12_began) (nL := 2) (rt := none) (by decide) (Nat.le_of_ble_eq_true rfl) ?_
  intro Γ hC hQ _
  have hC : jC Γ l rM_began D 2 RX12 cX12_began wsX12_began (tyM cy) := hC
  have hinX12 : ∀ w ∈ wsX120, w ∈ wsX12_began := fun w h => List.mem_cons_of_mem _ (List.mem_append_right _ h)
  refine j_lv (lv' := [(0, .ref (ad 0)), (1, .int a1)]) [0, 1] rfl ?_
  unfold vM_began at hv
  refine j_aload_n (i := 0) hC dX12_began_0 rfl 0 rfl ?_
  refine j_get (C := RX12) (T := TX12) (N := 22) (v := .int (m_traced g)) hC hinX12 0 (wM_c0 ad cy _) rfl 21 (by decide) (mw 1 rfl) rfl rfl dX12_began_1 ?_
  refine j_bipush (v := 16) hC dX12_began_4 (by decide) ?_
  refine j_icmp_ge (tgt := 29) hC dX12_began_6 (by decide) (fun h_ => ?_) (fun h_ => ?_)
  · have hv := hv.1 h_
    exact j_vret hC hQ dX12_began_29 rfl hv
  · have hv := hv.2 h_
    refine j_aload_n (i := 0) hC dX12_began_9 rfl 0 rfl ?_
    refine j_get (C := RX12) (T := TX12) (N := 22) (v := .ref (ad 16)) hC hinX12 0 (wM_c0 ad cy _) rfl 20 (by decide) (mw 2 rfl) rfl rfl dX12_began_10 ?_
    refine j_aload_n (i := 0) hC dX12_began_13 rfl 0 rfl ?_
    refine j_get (C := RX12) (T := TX12) (N := 22) (v := .int (m_traced g)) hC hinX12 0 (wM_c0 ad cy _) rfl 21 (by decide) (mw 1 rfl) rfl rfl dX12_began_14 ?_
    refine j_iload_n (i := 1) hC dX12_began_17 rfl 1 rfl ?_
    have hb18 := hv.1
    have hv := hv.2
    refine j_iast hC 16 0 (wM_c16 ad cy _) rfl hb18 (wM_s_trace ad cy _ _) dX12_began_18 ?_
    refine j_aload_n (i := 0) hC dX12_began_19 rfl 0 rfl ?_
    refine j_dup hC dX12_began_20 rfl ?_
    refine j_get (C := RX12) (T := TX12) (N := 22) (v := .int (m_traced g)) hC hinX12 0 (wM_c0 ad cy _) rfl 21 (by decide) (mw 1 rfl) rfl rfl dX12_began_21 ?_
    refine j_iconst (v := 1) hC dX12_began_24 (by decide) ?_
    refine j_iadd hC dX12_began_25 ?_
    refine j_put (C := RX12) (T := TX12) (N := 22) (ty := .int) hC hinX12 tyX12 tyX12_ok nmX12 0 (wM_c0 ad cy _) rfl 21 (by decide) (mw 1 rfl) rfl rfl fdX12_21 rfl rfl (Nat.le_of_ble_eq_true rfl) (wM_p_traced ad cy _ _) dX12_began_26 ?_
    exact j_vret hC hQ dX12_began_29 rfl hv
theorem hdM_cost : yX12_cost.cls = RX12 ∧ yX12_cost.cls ≠ "java/lang/invoke/MethodHandle" ∧ yX12_cost.cls ≠ "java/lang/invoke/VarHandle" ∧ (parseMethodDescriptor yX12_cost.desc).map (fun d => d.parameters.length) = some 1 := by decide +kernel
abbrev rM_cost : Room := { frames := 1, cells := 0, slots := 0, locals := 21 }
def vM_cost_80 (post : Int32 → GM → Prop) (x2 : Int32) (t0 : Int32) (t1 : Int32) (g : GM) : Prop :=
  ((¬ x2 = (3 : Int32) → ((¬ x2 = (2 : Int32) → post (t1 + t0) g) ∧ (x2 = (2 : Int32) → post ((t1 + t0) / (2 : Int32)) g))) ∧ (x2 = (3 : Int32) → post ((t1 + t0) + (1000 : Int32)) g))
def vM_cost_54 (post : Int32 → GM → Prop) (x1 : Int32) (x2 : Int32) (x3 : Int32) (g : GM) : Prop :=
  (vM_began g (10 : Int32) (fun g57 => (vp_in x1 6 ∧ ((x3 = (0 : Int32) → (vM_cost_80 post x2 (0 : Int32) ((m_minutes g57) x1.toNatClampNeg) g57)) ∧ (¬ x3 = (0 : Int32) → (vp_in x1 6 ∧ (vM_cost_80 post x2 ((m_hand g57) x1.toNatClampNeg) ((m_minutes g57) x1.toNatClampNeg) g57)))))))
def vM_cost_44 (post : Int32 → GM → Prop) (x1 : Int32) (x2 : Int32) (x3 : Int32) (g : GM) : Prop :=
  ((x3 = (0 : Int32) → (vM_cost_54 post x1 x2 x3 g)) ∧ (¬ x3 = (0 : Int32) → (vM_began g (11 : Int32) (fun g51 => (vM_cost_54 post x1 x2 x3 g51)))))
def vM_cost_33 (post : Int32 → GM → Prop) (x1 : Int32) (x2 : Int32) (x3 : Int32) (g : GM) : Prop :=
  ((¬ x2 = (2 : Int32) → (vM_cost_44 post x1 x2 x3 g)) ∧ (x2 = (2 : Int32) → (vM_began g (12 : Int32) (fun g41 => (vM_cost_44 post x1 x2 x3 g41)))))
def vM_cost_21 (post : Int32 → GM → Prop) (x1 : Int32) (x2 : Int32) (t0 : Int32) (g : GM) : Prop :=
  ((¬ x2 = (3 : Int32) → (vM_cost_33 post x1 x2 t0 g)) ∧ (x2 = (3 : Int32) → (vM_began g (13 : Int32) (fun g30 => (vM_cost_33 post x1 x2 t0 g30)))))
def vM_cost_16 (post : Int32 → GM → Prop) (x1 : Int32) (x2 : Int32) (g : GM) : Prop :=
  (vM_cost_21 post x1 x2 (1 : Int32) g)
def vM_cost (g : GM) (a1 : Int32) (post : Int32 → GM → Prop) : Prop :=
  (vM_kindOf g a1 (fun r2 g2 => ((r2 = (1 : Int32) → (vM_cost_16 post a1 r2 g2)) ∧ (¬ r2 = (1 : Int32) → ((¬ r2 = (2 : Int32) → (vM_cost_21 post a1 r2 (0 : Int32) g2)) ∧ (r2 = (2 : Int32) → (vM_cost_16 post a1 r2 g2)))))))
set_option maxHeartbeats 4000000 in
set_option maxRecDepth 100000 in
theorem lM_cost_80 {Γ : jG} {l : Launch} {D : va_G} {ad : Nat → Nat} {cy : Nat → ClassId} {post : Int32 → GM → Prop} (hC : jC Γ l rM_cost D 5 RX12 cX12_cost wsX12_cost (tyM cy)) (hQ : jQi Γ D (wM ad cy) post (some .int) 0 0) : ∀ (x2 : Int32) (t0 : Int32) (t1 : Int32) (g : GM), vM_cost_80 post x2 t0 t1 g → J Γ D 5 0 0 (wM ad cy g) 80 [(2, .int x2)] [.int t0, .int t1] := by
  have hinX12 : ∀ w ∈ wsX120, w ∈ wsX12_cost := fun w h => List.mem_cons_of_mem _ (List.mem_append_right _ h)
  intro x2 t0 t1 g hv
  unfold vM_cost_80 at hv
  refine j_iadd hC dX12_cost_80 ?_
  refine j_istore (lv' := [(4, .int (t1 + t0)), (2, .int x2)]) hC dX12_cost_81 (by decide) rfl ?_
  refine j_iload_n (i := 2) hC dX12_cost_83 rfl 1 rfl ?_
  refine j_iconst (v := 3) hC dX12_cost_84 (by decide) ?_
  refine j_icmp_ne (tgt := 97) hC dX12_cost_85 (by decide) (fun h_ => ?_) (fun h_ => ?_)
  · have hv := hv.1 h_
    refine j_iload_n (i := 2) hC dX12_cost_97 rfl 1 rfl ?_
    refine j_iconst (v := 2) hC dX12_cost_98 (by decide) ?_
    refine j_icmp_ne (tgt := 109) hC dX12_cost_99 (by decide) (fun h_ => ?_) (fun h_ => ?_)
    · have hv := hv.1 h_
      refine j_iload hC dX12_cost_109 0 rfl ?_
      exact j_iret hC hQ dX12_cost_111 rfl hv
    · have hv := hv.2 h_
      refine j_iload hC dX12_cost_102 0 rfl ?_
      refine j_iconst (v := 2) hC dX12_cost_104 (by decide) ?_
      refine j_idiv hC dX12_cost_105 (by decide) ?_
      refine j_goto (tgt := 111) hC dX12_cost_106 (by decide) ?_
      exact j_iret hC hQ dX12_cost_111 rfl hv
  · have hv := hv.2 h_
    refine j_iload hC dX12_cost_88 0 rfl ?_
    refine j_sipush (v := 1000) hC dX12_cost_90 (by decide) ?_
    refine j_iadd hC dX12_cost_93 ?_
    refine j_goto (tgt := 111) hC dX12_cost_94 (by decide) ?_
    exact j_iret hC hQ dX12_cost_111 rfl hv
set_option maxHeartbeats 4000000 in
set_option maxRecDepth 100000 in
theorem lM_cost_54 {Γ : jG} {l : Launch} {D : va_G} {ad : Nat → Nat} {cy : Nat → ClassId} {post : Int32 → GM → Prop} (hC : jC Γ l rM_cost D 5 RX12 cX12_cost wsX12_cost (tyM cy)) (hQ : jQi Γ D (wM ad cy) post (some .int) 0 0) : ∀ (x1 : Int32) (x2 : Int32) (x3 : Int32) (g : GM), vM_cost_54 post x1 x2 x3 g → J Γ D 5 0 0 (wM ad cy g) 54 [(0, .ref (ad 0)), (1, .int x1), (2, .int x2), (3, .int x3)] [] := by
  have hinX12 : ∀ w ∈ wsX120, w ∈ wsX12_cost := fun w h => List.mem_cons_of_mem _ (List.mem_append_right _ h)
  intro x1 x2 x3 g hv
  unfold vM_cost_54 at hv
  refine j_aload_n (i := 0) hC dX12_cost_54 rfl 0 rfl ?_
  refine j_bipush (v := 10) hC dX12_cost_55 (by decide) ?_
  refine j_callV_v (C := RX12) (As := [.int (10 : Int32)]) (rest := []) (b := (ad 0)) hC (cM_began hv) 1 gX12_cost_X12_began rfl rfl rfl ⟨Nat.le_of_ble_eq_true rfl, Nat.le_of_ble_eq_true rfl⟩ hdM_began rfl (wM_c0 ad cy _) rfl rfl (Nat.le_of_ble_eq_true rfl) ⟨Nat.zero_le _, Nat.zero_le _⟩ dX12_cost_57 (fun g57 hv => ?_)
  refine j_aload_n (i := 0) hC dX12_cost_60 rfl 0 rfl ?_
  refine j_get (C := RX12) (T := TX12) (N := 22) (v := .ref (ad 10)) hC hinX12 0 (wM_c0 ad cy _) rfl 13 (by decide) (mw 1 rfl) rfl rfl dX12_cost_61 ?_
  refine j_iload_n (i := 1) hC dX12_cost_64 rfl 1 rfl ?_
  have hb65 := hv.1
  have hv := hv.2
  refine j_iald (v := ((m_minutes g57) x1.toNatClampNeg)) hC 10 0 (wM_c10 ad cy _) rfl hb65 rfl dX12_cost_65 ?_
  refine j_iload_n (i := 3) hC dX12_cost_66 rfl 3 rfl ?_
  refine j_if_eq (tgt := 79) hC dX12_cost_67 (by decide) (fun h_ => ?_) (fun h_ => ?_)
  · have hv := hv.1 h_
    refine j_iconst (v := 0) hC dX12_cost_79 (by decide) ?_
    exact j_lv [2] rfl (lM_cost_80 hC hQ _ _ _ _ hv)
  · have hv := hv.2 h_
    refine j_aload_n (i := 0) hC dX12_cost_70 rfl 0 rfl ?_
    refine j_get (C := RX12) (T := TX12) (N := 22) (v := .ref (ad 11)) hC hinX12 0 (wM_c0 ad cy _) rfl 14 (by decide) (mw 2 rfl) rfl rfl dX12_cost_71 ?_
    refine j_iload_n (i := 1) hC dX12_cost_74 rfl 1 rfl ?_
    have hb75 := hv.1
    have hv := hv.2
    refine j_iald (v := ((m_hand g57) x1.toNatClampNeg)) hC 11 0 (wM_c11 ad cy _) rfl hb75 rfl dX12_cost_75 ?_
    refine j_goto (tgt := 80) hC dX12_cost_76 (by decide) ?_
    exact j_lv [2] rfl (lM_cost_80 hC hQ _ _ _ _ hv)
set_option maxHeartbeats 4000000 in
set_option maxRecDepth 100000 in
theorem lM_cost_44 {Γ : jG} {l : Launch} {D : va_G} {ad : Nat → Nat} {cy : Nat → ClassId} {post : Int32 → GM → Prop} (hC : jC Γ l rM_cost D 5 RX12 cX12_cost wsX12_cost (tyM cy)) (hQ : jQi Γ D (wM ad cy) post (some .int) 0 0) : ∀ (x1 : Int32) (x2 : Int32) (x3 : Int32) (g : GM), vM_cost_44 post x1 x2 x3 g → J Γ D 5 0 0 (wM ad cy g) 44 [(0, .ref (ad 0)), (1, .int x1), (2, .int x2), (3, .int x3)] [] := by
  have hinX12 : ∀ w ∈ wsX120, w ∈ wsX12_cost := fun w h => List.mem_cons_of_mem _ (List.mem_append_right _ h)
  intro x1 x2 x3 g hv
  unfold vM_cost_44 at hv
  refine j_iload_n (i := 3) hC dX12_cost_44 rfl 3 rfl ?_
  refine j_if_eq (tgt := 54) hC dX12_cost_45 (by decide) (fun h_ => ?_) (fun h_ => ?_)
  · have hv := hv.1 h_
    exact j_lv [0, 1, 2, 3] rfl (lM_cost_54 hC hQ _ _ _ _ hv)
  · have hv := hv.2 h_
    refine j_aload_n (i := 0) hC dX12_cost_48 rfl 0 rfl ?_
    refine j_bipush (v := 11) hC dX12_cost_49 (by decide) ?_
    refine j_callV_v (C := RX12) (As := [.int (11 : Int32)]) (rest := []) (b := (ad 0)) hC (cM_began hv) 1 gX12_cost_X12_began rfl rfl rfl ⟨Nat.le_of_ble_eq_true rfl, Nat.le_of_ble_eq_true rfl⟩ hdM_began rfl (wM_c0 ad cy _) rfl rfl (Nat.le_of_ble_eq_true rfl) ⟨Nat.zero_le _, Nat.zero_le _⟩ dX12_cost_51 (fun g51 hv => ?_)
    exact j_lv [0, 1, 2, 3] rfl (lM_cost_54 hC hQ _ _ _ _ hv)
set_option maxHeartbeats 4000000 in
set_option maxRecDepth 100000 in
theorem lM_cost_33 {Γ : jG} {l : Launch} {D : va_G} {ad : Nat → Nat} {cy : Nat → ClassId} {post : Int32 → GM → Prop} (hC : jC Γ l rM_cost D 5 RX12 cX12_cost wsX12_cost (tyM cy)) (hQ : jQi Γ D (wM ad cy) post (some .int) 0 0) : ∀ (x1 : Int32) (x2 : Int32) (x3 : Int32) (g : GM), vM_cost_33 post x1 x2 x3 g → J Γ D 5 0 0 (wM ad cy g) 33 [(0, .ref (ad 0)), (1, .int x1), (2, .int x2), (3, .int x3)] [] := by
  have hinX12 : ∀ w ∈ wsX120, w ∈ wsX12_cost := fun w h => List.mem_cons_of_mem _ (List.mem_append_right _ h)
  intro x1 x2 x3 g hv
  unfold vM_cost_33 at hv
  refine j_iload_n (i := 2) hC dX12_cost_33 rfl 2 rfl ?_
  refine j_iconst (v := 2) hC dX12_cost_34 (by decide) ?_
  refine j_icmp_ne (tgt := 44) hC dX12_cost_35 (by decide) (fun h_ => ?_) (fun h_ => ?_)
  · have hv := hv.1 h_
    exact j_lv [0, 1, 2, 3] rfl (lM_cost_44 hC hQ _ _ _ _ hv)
  · have hv := hv.2 h_
    refine j_aload_n (i := 0) hC dX12_cost_38 rfl 0 rfl ?_
    refine j_bipush (v := 12) hC dX12_cost_39 (by decide) ?_
    refine j_callV_v (C := RX12) (As := [.int (12 : Int32)]) (rest := []) (b := (ad 0)) hC (cM_began hv) 1 gX12_cost_X12_began rfl rfl rfl ⟨Nat.le_of_ble_eq_true rfl, Nat.le_of_ble_eq_true rfl⟩ hdM_began rfl (wM_c0 ad cy _) rfl rfl (Nat.le_of_ble_eq_true rfl) ⟨Nat.zero_le _, Nat.zero_le _⟩ dX12_cost_41 (fun g41 hv => ?_)
    exact j_lv [0, 1, 2, 3] rfl (lM_cost_44 hC hQ _ _ _ _ hv)
set_option maxHeartbeats 4000000 in
set_option maxRecDepth 100000 in
theorem lM_cost_21 {Γ : jG} {l : Launch} {D : va_G} {ad : Nat → Nat} {cy : Nat → ClassId} {post : Int32 → GM → Prop} (hC : jC Γ l rM_cost D 5 RX12 cX12_cost wsX12_cost (tyM cy)) (hQ : jQi Γ D (wM ad cy) post (some .int) 0 0) : ∀ (x1 : Int32) (x2 : Int32) (t0 : Int32) (g : GM), vM_cost_21 post x1 x2 t0 g → J Γ D 5 0 0 (wM ad cy g) 21 [(0, .ref (ad 0)), (1, .int x1), (2, .int x2)] [.int t0] := by
  have hinX12 : ∀ w ∈ wsX120, w ∈ wsX12_cost := fun w h => List.mem_cons_of_mem _ (List.mem_append_right _ h)
  intro x1 x2 t0 g hv
  unfold vM_cost_21 at hv
  refine j_istore_n (i := 3) (lv' := [(3, .int t0), (0, .ref (ad 0)), (1, .int x1), (2, .int x2)]) hC dX12_cost_21 rfl (by decide) rfl ?_
  refine j_iload_n (i := 2) hC dX12_cost_22 rfl 3 rfl ?_
  refine j_iconst (v := 3) hC dX12_cost_23 (by decide) ?_
  refine j_icmp_ne (tgt := 33) hC dX12_cost_24 (by decide) (fun h_ => ?_) (fun h_ => ?_)
  · have hv := hv.1 h_
    exact j_lv [1, 2, 3, 0] rfl (lM_cost_33 hC hQ _ _ _ _ hv)
  · have hv := hv.2 h_
    refine j_aload_n (i := 0) hC dX12_cost_27 rfl 1 rfl ?_
    refine j_bipush (v := 13) hC dX12_cost_28 (by decide) ?_
    refine j_callV_v (C := RX12) (As := [.int (13 : Int32)]) (rest := []) (b := (ad 0)) hC (cM_began hv) 1 gX12_cost_X12_began rfl rfl rfl ⟨Nat.le_of_ble_eq_true rfl, Nat.le_of_ble_eq_true rfl⟩ hdM_began rfl (wM_c0 ad cy _) rfl rfl (Nat.le_of_ble_eq_true rfl) ⟨Nat.zero_le _, Nat.zero_le _⟩ dX12_cost_30 (fun g30 hv => ?_)
    exact j_lv [1, 2, 3, 0] rfl (lM_cost_33 hC hQ _ _ _ _ hv)
set_option maxHeartbeats 4000000 in
set_option maxRecDepth 100000 in
theorem lM_cost_16 {Γ : jG} {l : Launch} {D : va_G} {ad : Nat → Nat} {cy : Nat → ClassId} {post : Int32 → GM → Prop} (hC : jC Γ l rM_cost D 5 RX12 cX12_cost wsX12_cost (tyM cy)) (hQ : jQi Γ D (wM ad cy) post (some .int) 0 0) : ∀ (x1 : Int32) (x2 : Int32) (g : GM), vM_cost_16 post x1 x2 g → J Γ D 5 0 0 (wM ad cy g) 16 [(0, .ref (ad 0)), (1, .int x1), (2, .int x2)] [] := by
  have hinX12 : ∀ w ∈ wsX120, w ∈ wsX12_cost := fun w h => List.mem_cons_of_mem _ (List.mem_append_right _ h)
  intro x1 x2 g hv
  unfold vM_cost_16 at hv
  refine j_iconst (v := 1) hC dX12_cost_16 (by decide) ?_
  refine j_goto (tgt := 21) hC dX12_cost_17 (by decide) ?_
  exact j_lv [0, 1, 2] rfl (lM_cost_21 hC hQ _ _ _ _ hv)
set_option maxHeartbeats 4000000 in
set_option maxRecDepth 100000 in
theorem cM_cost {l : Launch} {D : va_G} {ad : Nat → Nat} {cy : Nat → ClassId} {g : GM} {a1 : Int32} {post : Int32 → GM → Prop} (hv : vM_cost g a1 post) : jMi l yX12_cost wsX12_cost rM_cost D (tyM cy) [.ref (ad 0), .int a1] (wM ad cy g) (wM ad cy) post 0 0 := by
  refine j_meti (cc := cX12_cost) (nL := 5) (rt := (some .int)) (by decide) (Nat.le_of_ble_eq_true rfl) ?_
  intro Γ hC hQ _
  have hC : jC Γ l rM_cost D 5 RX12 cX12_cost wsX12_cost (tyM cy) := hC
  have hinX12 : ∀ w ∈ wsX120, w ∈ wsX12_cost := fun w h => List.mem_cons_of_mem _ (List.mem_append_right _ h)
  refine j_lv (lv' := [(0, .ref (ad 0)), (1, .int a1)]) [0, 1] rfl ?_
  unfold vM_cost at hv
  refine j_aload_n (i := 0) hC dX12_cost_0 rfl 0 rfl ?_
  refine j_iload_n (i := 1) hC dX12_cost_1 rfl 1 rfl ?_
  refine j_callV_i (C := RX12) (As := [.int a1]) (rest := []) (b := (ad 0)) hC (cM_kindOf hv) 1 gX12_cost_X12_kindOf rfl rfl rfl ⟨Nat.le_of_ble_eq_true rfl, Nat.le_of_ble_eq_true rfl⟩ hdM_kindOf rfl (wM_c0 ad cy _) rfl rfl (Nat.le_of_ble_eq_true rfl) ⟨Nat.zero_le _, Nat.zero_le _⟩ dX12_cost_2 (fun r2 g2 hv => ?_)
  refine j_istore_n (i := 2) (lv' := [(2, .int r2), (0, .ref (ad 0)), (1, .int a1)]) hC dX12_cost_5 rfl (by decide) rfl ?_
  refine j_iload_n (i := 2) hC dX12_cost_6 rfl 0 rfl ?_
  refine j_iconst (v := 1) hC dX12_cost_7 (by decide) ?_
  refine j_icmp_eq (tgt := 16) hC dX12_cost_8 (by decide) (fun h_ => ?_) (fun h_ => ?_)
  · have hv := hv.1 h_
    exact j_lv [1, 2, 0] rfl (lM_cost_16 hC hQ _ _ _ hv)
  · have hv := hv.2 h_
    refine j_iload_n (i := 2) hC dX12_cost_11 rfl 0 rfl ?_
    refine j_iconst (v := 2) hC dX12_cost_12 (by decide) ?_
    refine j_icmp_ne (tgt := 20) hC dX12_cost_13 (by decide) (fun h_ => ?_) (fun h_ => ?_)
    · have hv := hv.1 h_
      refine j_iconst (v := 0) hC dX12_cost_20 (by decide) ?_
      exact j_lv [1, 2, 0] rfl (lM_cost_21 hC hQ _ _ _ _ hv)
    · have hv := hv.2 h_
      exact j_lv [1, 2, 0] rfl (lM_cost_16 hC hQ _ _ _ hv)
theorem hdM_marked : yX12_marked.cls = RX12 ∧ yX12_marked.cls ≠ "java/lang/invoke/MethodHandle" ∧ yX12_marked.cls ≠ "java/lang/invoke/VarHandle" ∧ (parseMethodDescriptor yX12_marked.desc).map (fun d => d.parameters.length) = some 1 := by decide +kernel
abbrev rM_marked : Room := { frames := 2, cells := 0, slots := 0, locals := 45 }
def vM_marked_63 (post : Int32 → GM → Prop) (x1 : Int32) (x2 : Int32) (x3 : Int32) (t0 : Int32) (g : GM) : Prop :=
  ((¬ x2 = (3 : Int32) → ((x3 = (0 : Int32) → post t0 g) ∧ (¬ x3 = (0 : Int32) → (vM_cost g x1 (fun r89 g89 => post (t0 + r89) g89))))) ∧ (x2 = (3 : Int32) → (vM_cost g x1 (fun r74 g74 => post (t0 - r74) g74))))
def vM_marked_43 (post : Int32 → GM → Prop) (x1 : Int32) (x2 : Int32) (x3 : Int32) (g : GM) : Prop :=
  (vM_began g (20 : Int32) (fun g46 => (vp_in x1 6 ∧ ((((m_hasFailed g46) x1.toNatClampNeg) = (0 : Int32) → (vM_marked_63 post x1 x2 x3 (0 : Int32) g46)) ∧ (¬ ((m_hasFailed g46) x1.toNatClampNeg) = (0 : Int32) → (vM_marked_63 post x1 x2 x3 (1 : Int32) g46))))))
def vM_marked_33 (post : Int32 → GM → Prop) (x1 : Int32) (x2 : Int32) (x3 : Int32) (g : GM) : Prop :=
  ((x3 = (0 : Int32) → (vM_marked_43 post x1 x2 x3 g)) ∧ (¬ x3 = (0 : Int32) → (vM_began g (21 : Int32) (fun g40 => (vM_marked_43 post x1 x2 x3 g40)))))
def vM_marked_21 (post : Int32 → GM → Prop) (x1 : Int32) (x2 : Int32) (t0 : Int32) (g : GM) : Prop :=
  ((¬ x2 = (3 : Int32) → (vM_marked_33 post x1 x2 t0 g)) ∧ (x2 = (3 : Int32) → (vM_began g (22 : Int32) (fun g30 => (vM_marked_33 post x1 x2 t0 g30)))))
def vM_marked_16 (post : Int32 → GM → Prop) (x1 : Int32) (x2 : Int32) (g : GM) : Prop :=
  (vM_marked_21 post x1 x2 (1 : Int32) g)
def vM_marked (g : GM) (a1 : Int32) (post : Int32 → GM → Prop) : Prop :=
  (vM_kindOf g a1 (fun r2 g2 => ((r2 = (1 : Int32) → (vM_marked_16 post a1 r2 g2)) ∧ (¬ r2 = (1 : Int32) → ((¬ r2 = (2 : Int32) → (vM_marked_21 post a1 r2 (0 : Int32) g2)) ∧ (r2 = (2 : Int32) → (vM_marked_16 post a1 r2 g2)))))))
set_option maxHeartbeats 4000000 in
set_option maxRecDepth 100000 in
theorem lM_marked_63 {Γ : jG} {l : Launch} {D : va_G} {ad : Nat → Nat} {cy : Nat → ClassId} {post : Int32 → GM → Prop} (hC : jC Γ l rM_marked D 5 RX12 cX12_marked wsX12_marked (tyM cy)) (hQ : jQi Γ D (wM ad cy) post (some .int) 0 0) : ∀ (x1 : Int32) (x2 : Int32) (x3 : Int32) (t0 : Int32) (g : GM), vM_marked_63 post x1 x2 x3 t0 g → J Γ D 5 0 0 (wM ad cy g) 63 [(0, .ref (ad 0)), (1, .int x1), (2, .int x2), (3, .int x3)] [.int t0] := by
  have hinX12 : ∀ w ∈ wsX120, w ∈ wsX12_marked := fun w h => List.mem_cons_of_mem _ (List.mem_append_right _ h)
  intro x1 x2 x3 t0 g hv
  unfold vM_marked_63 at hv
  refine j_istore (lv' := [(4, .int t0), (0, .ref (ad 0)), (1, .int x1), (2, .int x2), (3, .int x3)]) hC dX12_marked_63 (by decide) rfl ?_
  refine j_iload_n (i := 2) hC dX12_marked_65 rfl 3 rfl ?_
  refine j_iconst (v := 3) hC dX12_marked_66 (by decide) ?_
  refine j_icmp_ne (tgt := 81) hC dX12_marked_67 (by decide) (fun h_ => ?_) (fun h_ => ?_)
  · have hv := hv.1 h_
    refine j_iload_n (i := 3) hC dX12_marked_81 rfl 4 rfl ?_
    refine j_if_eq (tgt := 96) hC dX12_marked_82 (by decide) (fun h_ => ?_) (fun h_ => ?_)
    · have hv := hv.1 h_
      refine j_iload hC dX12_marked_96 0 rfl ?_
      exact j_iret hC hQ dX12_marked_98 rfl hv
    · have hv := hv.2 h_
      refine j_iload hC dX12_marked_85 0 rfl ?_
      refine j_aload_n (i := 0) hC dX12_marked_87 rfl 1 rfl ?_
      refine j_iload_n (i := 1) hC dX12_marked_88 rfl 2 rfl ?_
      refine j_callV_i (C := RX12) (As := [.int x1]) (rest := [.int t0]) (b := (ad 0)) hC (cM_cost hv) 1 gX12_marked_X12_cost rfl rfl rfl ⟨Nat.le_of_ble_eq_true rfl, Nat.le_of_ble_eq_true rfl⟩ hdM_cost rfl (wM_c0 ad cy _) rfl rfl (Nat.le_of_ble_eq_true rfl) ⟨Nat.zero_le _, Nat.zero_le _⟩ dX12_marked_89 (fun r89 g89 hv => ?_)
      refine j_iadd hC dX12_marked_92 ?_
      refine j_goto (tgt := 98) hC dX12_marked_93 (by decide) ?_
      exact j_iret hC hQ dX12_marked_98 rfl hv
  · have hv := hv.2 h_
    refine j_iload hC dX12_marked_70 0 rfl ?_
    refine j_aload_n (i := 0) hC dX12_marked_72 rfl 1 rfl ?_
    refine j_iload_n (i := 1) hC dX12_marked_73 rfl 2 rfl ?_
    refine j_callV_i (C := RX12) (As := [.int x1]) (rest := [.int t0]) (b := (ad 0)) hC (cM_cost hv) 1 gX12_marked_X12_cost rfl rfl rfl ⟨Nat.le_of_ble_eq_true rfl, Nat.le_of_ble_eq_true rfl⟩ hdM_cost rfl (wM_c0 ad cy _) rfl rfl (Nat.le_of_ble_eq_true rfl) ⟨Nat.zero_le _, Nat.zero_le _⟩ dX12_marked_74 (fun r74 g74 hv => ?_)
    refine j_isub hC dX12_marked_77 ?_
    refine j_goto (tgt := 98) hC dX12_marked_78 (by decide) ?_
    exact j_iret hC hQ dX12_marked_98 rfl hv
set_option maxHeartbeats 4000000 in
set_option maxRecDepth 100000 in
theorem lM_marked_43 {Γ : jG} {l : Launch} {D : va_G} {ad : Nat → Nat} {cy : Nat → ClassId} {post : Int32 → GM → Prop} (hC : jC Γ l rM_marked D 5 RX12 cX12_marked wsX12_marked (tyM cy)) (hQ : jQi Γ D (wM ad cy) post (some .int) 0 0) : ∀ (x1 : Int32) (x2 : Int32) (x3 : Int32) (g : GM), vM_marked_43 post x1 x2 x3 g → J Γ D 5 0 0 (wM ad cy g) 43 [(0, .ref (ad 0)), (1, .int x1), (2, .int x2), (3, .int x3)] [] := by
  have hinX12 : ∀ w ∈ wsX120, w ∈ wsX12_marked := fun w h => List.mem_cons_of_mem _ (List.mem_append_right _ h)
  intro x1 x2 x3 g hv
  unfold vM_marked_43 at hv
  refine j_aload_n (i := 0) hC dX12_marked_43 rfl 0 rfl ?_
  refine j_bipush (v := 20) hC dX12_marked_44 (by decide) ?_
  refine j_callV_v (C := RX12) (As := [.int (20 : Int32)]) (rest := []) (b := (ad 0)) hC (cM_began hv) 1 gX12_marked_X12_began rfl rfl rfl ⟨Nat.le_of_ble_eq_true rfl, Nat.le_of_ble_eq_true rfl⟩ hdM_began rfl (wM_c0 ad cy _) rfl rfl (Nat.le_of_ble_eq_true rfl) ⟨Nat.zero_le _, Nat.zero_le _⟩ dX12_marked_46 (fun g46 hv => ?_)
  refine j_aload_n (i := 0) hC dX12_marked_49 rfl 0 rfl ?_
  refine j_get (C := RX12) (T := TX12) (N := 22) (v := .ref (ad 12)) hC hinX12 0 (wM_c0 ad cy _) rfl 15 (by decide) (mw 1 rfl) rfl rfl dX12_marked_50 ?_
  refine j_iload_n (i := 1) hC dX12_marked_53 rfl 1 rfl ?_
  have hb54 := hv.1
  have hv := hv.2
  refine j_zald (v := ((m_hasFailed g46) x1.toNatClampNeg)) hC 12 2 (wM_c12 ad cy _) rfl hb54 rfl dX12_marked_54 ?_
  refine j_if_eq (tgt := 62) hC dX12_marked_55 (by decide) (fun h_ => ?_) (fun h_ => ?_)
  · have hv := hv.1 h_
    refine j_iconst (v := 0) hC dX12_marked_62 (by decide) ?_
    exact j_lv [0, 1, 2, 3] rfl (lM_marked_63 hC hQ _ _ _ _ _ hv)
  · have hv := hv.2 h_
    refine j_iconst (v := 1) hC dX12_marked_58 (by decide) ?_
    refine j_goto (tgt := 63) hC dX12_marked_59 (by decide) ?_
    exact j_lv [0, 1, 2, 3] rfl (lM_marked_63 hC hQ _ _ _ _ _ hv)
set_option maxHeartbeats 4000000 in
set_option maxRecDepth 100000 in
theorem lM_marked_33 {Γ : jG} {l : Launch} {D : va_G} {ad : Nat → Nat} {cy : Nat → ClassId} {post : Int32 → GM → Prop} (hC : jC Γ l rM_marked D 5 RX12 cX12_marked wsX12_marked (tyM cy)) (hQ : jQi Γ D (wM ad cy) post (some .int) 0 0) : ∀ (x1 : Int32) (x2 : Int32) (x3 : Int32) (g : GM), vM_marked_33 post x1 x2 x3 g → J Γ D 5 0 0 (wM ad cy g) 33 [(0, .ref (ad 0)), (1, .int x1), (2, .int x2), (3, .int x3)] [] := by
  have hinX12 : ∀ w ∈ wsX120, w ∈ wsX12_marked := fun w h => List.mem_cons_of_mem _ (List.mem_append_right _ h)
  intro x1 x2 x3 g hv
  unfold vM_marked_33 at hv
  refine j_iload_n (i := 3) hC dX12_marked_33 rfl 3 rfl ?_
  refine j_if_eq (tgt := 43) hC dX12_marked_34 (by decide) (fun h_ => ?_) (fun h_ => ?_)
  · have hv := hv.1 h_
    exact j_lv [0, 1, 2, 3] rfl (lM_marked_43 hC hQ _ _ _ _ hv)
  · have hv := hv.2 h_
    refine j_aload_n (i := 0) hC dX12_marked_37 rfl 0 rfl ?_
    refine j_bipush (v := 21) hC dX12_marked_38 (by decide) ?_
    refine j_callV_v (C := RX12) (As := [.int (21 : Int32)]) (rest := []) (b := (ad 0)) hC (cM_began hv) 1 gX12_marked_X12_began rfl rfl rfl ⟨Nat.le_of_ble_eq_true rfl, Nat.le_of_ble_eq_true rfl⟩ hdM_began rfl (wM_c0 ad cy _) rfl rfl (Nat.le_of_ble_eq_true rfl) ⟨Nat.zero_le _, Nat.zero_le _⟩ dX12_marked_40 (fun g40 hv => ?_)
    exact j_lv [0, 1, 2, 3] rfl (lM_marked_43 hC hQ _ _ _ _ hv)
set_option maxHeartbeats 4000000 in
set_option maxRecDepth 100000 in
theorem lM_marked_21 {Γ : jG} {l : Launch} {D : va_G} {ad : Nat → Nat} {cy : Nat → ClassId} {post : Int32 → GM → Prop} (hC : jC Γ l rM_marked D 5 RX12 cX12_marked wsX12_marked (tyM cy)) (hQ : jQi Γ D (wM ad cy) post (some .int) 0 0) : ∀ (x1 : Int32) (x2 : Int32) (t0 : Int32) (g : GM), vM_marked_21 post x1 x2 t0 g → J Γ D 5 0 0 (wM ad cy g) 21 [(0, .ref (ad 0)), (1, .int x1), (2, .int x2)] [.int t0] := by
  have hinX12 : ∀ w ∈ wsX120, w ∈ wsX12_marked := fun w h => List.mem_cons_of_mem _ (List.mem_append_right _ h)
  intro x1 x2 t0 g hv
  unfold vM_marked_21 at hv
  refine j_istore_n (i := 3) (lv' := [(3, .int t0), (0, .ref (ad 0)), (1, .int x1), (2, .int x2)]) hC dX12_marked_21 rfl (by decide) rfl ?_
  refine j_iload_n (i := 2) hC dX12_marked_22 rfl 3 rfl ?_
  refine j_iconst (v := 3) hC dX12_marked_23 (by decide) ?_
  refine j_icmp_ne (tgt := 33) hC dX12_marked_24 (by decide) (fun h_ => ?_) (fun h_ => ?_)
  · have hv := hv.1 h_
    exact j_lv [1, 2, 3, 0] rfl (lM_marked_33 hC hQ _ _ _ _ hv)
  · have hv := hv.2 h_
    refine j_aload_n (i := 0) hC dX12_marked_27 rfl 1 rfl ?_
    refine j_bipush (v := 22) hC dX12_marked_28 (by decide) ?_
    refine j_callV_v (C := RX12) (As := [.int (22 : Int32)]) (rest := []) (b := (ad 0)) hC (cM_began hv) 1 gX12_marked_X12_began rfl rfl rfl ⟨Nat.le_of_ble_eq_true rfl, Nat.le_of_ble_eq_true rfl⟩ hdM_began rfl (wM_c0 ad cy _) rfl rfl (Nat.le_of_ble_eq_true rfl) ⟨Nat.zero_le _, Nat.zero_le _⟩ dX12_marked_30 (fun g30 hv => ?_)
    exact j_lv [1, 2, 3, 0] rfl (lM_marked_33 hC hQ _ _ _ _ hv)
set_option maxHeartbeats 4000000 in
set_option maxRecDepth 100000 in
theorem lM_marked_16 {Γ : jG} {l : Launch} {D : va_G} {ad : Nat → Nat} {cy : Nat → ClassId} {post : Int32 → GM → Prop} (hC : jC Γ l rM_marked D 5 RX12 cX12_marked wsX12_marked (tyM cy)) (hQ : jQi Γ D (wM ad cy) post (some .int) 0 0) : ∀ (x1 : Int32) (x2 : Int32) (g : GM), vM_marked_16 post x1 x2 g → J Γ D 5 0 0 (wM ad cy g) 16 [(0, .ref (ad 0)), (1, .int x1), (2, .int x2)] [] := by
  have hinX12 : ∀ w ∈ wsX120, w ∈ wsX12_marked := fun w h => List.mem_cons_of_mem _ (List.mem_append_right _ h)
  intro x1 x2 g hv
  unfold vM_marked_16 at hv
  refine j_iconst (v := 1) hC dX12_marked_16 (by decide) ?_
  refine j_goto (tgt := 21) hC dX12_marked_17 (by decide) ?_
  exact j_lv [0, 1, 2] rfl (lM_marked_21 hC hQ _ _ _ _ hv)
set_option maxHeartbeats 4000000 in
set_option maxRecDepth 100000 in
theorem cM_marked {l : Launch} {D : va_G} {ad : Nat → Nat} {cy : Nat → ClassId} {g : GM} {a1 : Int32} {post : Int32 → GM → Prop} (hv : vM_marked g a1 post) : jMi l yX12_marked wsX12_marked rM_marked D (tyM cy) [.ref (ad 0), .int a1] (wM ad cy g) (wM ad cy) post 0 0 := by
  refine j_meti (cc := cX12_marked) (nL := 5) (rt := (some .int)) (by decide) (Nat.le_of_ble_eq_true rfl) ?_
  intro Γ hC hQ _
  have hC : jC Γ l rM_marked D 5 RX12 cX12_marked wsX12_marked (tyM cy) := hC
  have hinX12 : ∀ w ∈ wsX120, w ∈ wsX12_marked := fun w h => List.mem_cons_of_mem _ (List.mem_append_right _ h)
  refine j_lv (lv' := [(0, .ref (ad 0)), (1, .int a1)]) [0, 1] rfl ?_
  unfold vM_marked at hv
  refine j_aload_n (i := 0) hC dX12_marked_0 rfl 0 rfl ?_
  refine j_iload_n (i := 1) hC dX12_marked_1 rfl 1 rfl ?_
  refine j_callV_i (C := RX12) (As := [.int a1]) (rest := []) (b := (ad 0)) hC (cM_kindOf hv) 1 gX12_marked_X12_kindOf rfl rfl rfl ⟨Nat.le_of_ble_eq_true rfl, Nat.le_of_ble_eq_true rfl⟩ hdM_kindOf rfl (wM_c0 ad cy _) rfl rfl (Nat.le_of_ble_eq_true rfl) ⟨Nat.zero_le _, Nat.zero_le _⟩ dX12_marked_2 (fun r2 g2 hv => ?_)
  refine j_istore_n (i := 2) (lv' := [(2, .int r2), (0, .ref (ad 0)), (1, .int a1)]) hC dX12_marked_5 rfl (by decide) rfl ?_
  refine j_iload_n (i := 2) hC dX12_marked_6 rfl 0 rfl ?_
  refine j_iconst (v := 1) hC dX12_marked_7 (by decide) ?_
  refine j_icmp_eq (tgt := 16) hC dX12_marked_8 (by decide) (fun h_ => ?_) (fun h_ => ?_)
  · have hv := hv.1 h_
    exact j_lv [1, 2, 0] rfl (lM_marked_16 hC hQ _ _ _ hv)
  · have hv := hv.2 h_
    refine j_iload_n (i := 2) hC dX12_marked_11 rfl 0 rfl ?_
    refine j_iconst (v := 2) hC dX12_marked_12 (by decide) ?_
    refine j_icmp_ne (tgt := 20) hC dX12_marked_13 (by decide) (fun h_ => ?_) (fun h_ => ?_)
    · have hv := hv.1 h_
      refine j_iconst (v := 0) hC dX12_marked_20 (by decide) ?_
      exact j_lv [1, 2, 0] rfl (lM_marked_21 hC hQ _ _ _ _ hv)
    · have hv := hv.2 h_
      exact j_lv [1, 2, 0] rfl (lM_marked_16 hC hQ _ _ _ hv)
theorem hdM_ask : yX12_ask.cls = RX12 ∧ yX12_ask.cls ≠ "java/lang/invoke/MethodHandle" ∧ yX12_ask.cls ≠ "java/lang/invoke/VarHandle" ∧ (parseMethodDescriptor yX12_ask.desc).map (fun d => d.parameters.length) = some 2 := by decide +kernel
abbrev rM_ask : Room := { frames := 3, cells := 0, slots := 0, locals := 69 }
def vM_ask (g : GM) (a1 : Int32) (a2 : Int32) (post : Int32 → GM → Prop) : Prop :=
  (vM_isGate (sm_thrown g (0 : Int32)) a1 (fun r7 g7 => ((r7 = (0 : Int32) → post (-1000001 : Int32) g7) ∧ (¬ r7 = (0 : Int32) → (vM_in g7 (a2.toInt64) (0 : Int64) (1 : Int64) (fun r17 g17 => ((¬ r17 = (0 : Int32) → ((¬ a2 = (0 : Int32) → (vM_marked (sm_traced g17 (0 : Int32)) a1 (fun r45 g45 => post r45 g45))) ∧ (a2 = (0 : Int32) → (vM_cost (sm_traced g17 (0 : Int32)) a1 (fun r37 g37 => post r37 g37))))) ∧ (r17 = (0 : Int32) → post (-1000001 : Int32) g17))))))))
set_option maxHeartbeats 4000000 in
set_option maxRecDepth 100000 in
theorem cM_ask {l : Launch} {D : va_G} {ad : Nat → Nat} {cy : Nat → ClassId} {g : GM} {a1 : Int32} {a2 : Int32} {post : Int32 → GM → Prop} (hv : vM_ask g a1 a2 post) : jMi l yX12_ask wsX12_ask rM_ask D (tyM cy) [.ref (ad 0), .int a1, .int a2] (wM ad cy g) (wM ad cy) post 0 0 := by
  refine j_meti (cc := cX12_ask) (nL := 3) (rt := (some .int)) (by decide) (Nat.le_of_ble_eq_true rfl) ?_
  intro Γ hC hQ _
  have hC : jC Γ l rM_ask D 3 RX12 cX12_ask wsX12_ask (tyM cy) := hC
  have hinX12 : ∀ w ∈ wsX120, w ∈ wsX12_ask := fun w h => List.mem_cons_of_mem _ (List.mem_append_right _ h)
  refine j_lv (lv' := [(0, .ref (ad 0)), (1, .int a1), (2, .int a2)]) [0, 1, 2] rfl ?_
  unfold vM_ask at hv
  refine j_aload_n (i := 0) hC dX12_ask_0 rfl 0 rfl ?_
  refine j_iconst (v := 0) hC dX12_ask_1 (by decide) ?_
  refine j_put (C := RX12) (T := TX12) (N := 22) (ty := .int) hC hinX12 tyX12 tyX12_ok nmX12 0 (wM_c0 ad cy _) rfl 0 (by decide) (mw 1 rfl) rfl rfl fdX12_0 rfl rfl (Nat.le_of_ble_eq_true rfl) (wM_p_thrown ad cy _ _) dX12_ask_2 ?_
  refine j_aload_n (i := 0) hC dX12_ask_5 rfl 0 rfl ?_
  refine j_iload_n (i := 1) hC dX12_ask_6 rfl 1 rfl ?_
  refine j_callV_i (C := RX12) (As := [.int a1]) (rest := []) (b := (ad 0)) hC (cM_isGate hv) 1 gX12_ask_X12_isGate rfl rfl rfl ⟨Nat.le_of_ble_eq_true rfl, Nat.le_of_ble_eq_true rfl⟩ hdM_isGate rfl (wM_c0 ad cy _) rfl rfl (Nat.le_of_ble_eq_true rfl) ⟨Nat.zero_le _, Nat.zero_le _⟩ dX12_ask_7 (fun r7 g7 hv => ?_)
  refine j_if_eq (tgt := 23) hC dX12_ask_10 (by decide) (fun h_ => ?_) (fun h_ => ?_)
  · have hv := hv.1 h_
    refine j_ldc (v := -1000001) hC dX12_ask_23 (mw 2 rfl) ?_
    exact j_iret hC hQ dX12_ask_25 rfl hv
  · have hv := hv.2 h_
    refine j_iload_n (i := 2) hC dX12_ask_13 rfl 2 rfl ?_
    refine j_i2l hC dX12_ask_14 ?_
    refine j_lconst (v := 0) hC dX12_ask_15 (by decide) ?_
    refine j_lconst (v := 1) hC dX12_ask_16 (by decide) ?_
    refine j_callS_i (As := [.long (a2.toInt64), .long (0 : Int64), .long (1 : Int64)]) (rest := []) hC (cM_in hv) 3 gX12_ask_X12_in rfl rfl rfl ⟨Nat.le_of_ble_eq_true rfl, Nat.le_of_ble_eq_true rfl⟩ hdM_in.2 rfl rfl (Nat.le_of_ble_eq_true rfl) ⟨Nat.zero_le _, Nat.zero_le _⟩ dX12_ask_17 (fun r17 g17 hv => ?_)
    refine j_if_ne (tgt := 26) hC dX12_ask_20 (by decide) (fun h_ => ?_) (fun h_ => ?_)
    · have hv := hv.1 h_
      refine j_aload_n (i := 0) hC dX12_ask_26 rfl 0 rfl ?_
      refine j_iconst (v := 0) hC dX12_ask_27 (by decide) ?_
      refine j_put (C := RX12) (T := TX12) (N := 22) (ty := .int) hC hinX12 tyX12 tyX12_ok nmX12 0 (wM_c0 ad cy _) rfl 21 (by decide) (mw 3 rfl) rfl rfl fdX12_21 rfl rfl (Nat.le_of_ble_eq_true rfl) (wM_p_traced ad cy _ _) dX12_ask_28 ?_
      refine j_iload_n (i := 2) hC dX12_ask_31 rfl 2 rfl ?_
      refine j_if_ne (tgt := 43) hC dX12_ask_32 (by decide) (fun h_ => ?_) (fun h_ => ?_)
      · have hv := hv.1 h_
        refine j_aload_n (i := 0) hC dX12_ask_43 rfl 0 rfl ?_
        refine j_iload_n (i := 1) hC dX12_ask_44 rfl 1 rfl ?_
        refine j_callV_i (C := RX12) (As := [.int a1]) (rest := []) (b := (ad 0)) hC (cM_marked hv) 1 gX12_ask_X12_marked rfl rfl rfl ⟨Nat.le_of_ble_eq_true rfl, Nat.le_of_ble_eq_true rfl⟩ hdM_marked rfl (wM_c0 ad cy _) rfl rfl (Nat.le_of_ble_eq_true rfl) ⟨Nat.zero_le _, Nat.zero_le _⟩ dX12_ask_45 (fun r45 g45 hv => ?_)
        exact j_iret hC hQ dX12_ask_48 rfl hv
      · have hv := hv.2 h_
        refine j_aload_n (i := 0) hC dX12_ask_35 rfl 0 rfl ?_
        refine j_iload_n (i := 1) hC dX12_ask_36 rfl 1 rfl ?_
        refine j_callV_i (C := RX12) (As := [.int a1]) (rest := []) (b := (ad 0)) hC (cM_cost hv) 1 gX12_ask_X12_cost rfl rfl rfl ⟨Nat.le_of_ble_eq_true rfl, Nat.le_of_ble_eq_true rfl⟩ hdM_cost rfl (wM_c0 ad cy _) rfl rfl (Nat.le_of_ble_eq_true rfl) ⟨Nat.zero_le _, Nat.zero_le _⟩ dX12_ask_37 (fun r37 g37 hv => ?_)
        refine j_goto (tgt := 48) hC dX12_ask_40 (by decide) ?_
        exact j_iret hC hQ dX12_ask_48 rfl hv
    · have hv := hv.2 h_
      refine j_ldc (v := -1000001) hC dX12_ask_23 (mw 2 rfl) ?_
      exact j_iret hC hQ dX12_ask_25 rfl hv
theorem hdM_trace : yX12_trace.cls = RX12 ∧ yX12_trace.cls ≠ "java/lang/invoke/MethodHandle" ∧ yX12_trace.cls ≠ "java/lang/invoke/VarHandle" ∧ (parseMethodDescriptor yX12_trace.desc).map (fun d => d.parameters.length) = some 1 := by decide +kernel
abbrev rM_trace : Room := { frames := 1, cells := 0, slots := 0, locals := 25 }
def vM_trace (g : GM) (a1 : Int32) (post : Int32 → GM → Prop) : Prop :=
  (vM_in (sm_thrown g (0 : Int32)) (a1.toInt64) (0 : Int64) (((m_traced g) - (1 : Int32)).toInt64) (fun r15 g15 => ((r15 = (0 : Int32) → post (-1000000 : Int32) g15) ∧ (¬ r15 = (0 : Int32) → (vp_in a1 16 ∧ post ((m_trace g15) a1.toNatClampNeg) g15)))))
set_option maxHeartbeats 4000000 in
set_option maxRecDepth 100000 in
theorem cM_trace {l : Launch} {D : va_G} {ad : Nat → Nat} {cy : Nat → ClassId} {g : GM} {a1 : Int32} {post : Int32 → GM → Prop} (hv : vM_trace g a1 post) : jMi l yX12_trace wsX12_trace rM_trace D (tyM cy) [.ref (ad 0), .int a1] (wM ad cy g) (wM ad cy) post 0 0 := by
  refine j_meti (cc := cX12_trace) (nL := 2) (rt := (some .int)) (by decide) (Nat.le_of_ble_eq_true rfl) ?_
  intro Γ hC hQ _
  have hC : jC Γ l rM_trace D 2 RX12 cX12_trace wsX12_trace (tyM cy) := hC
  have hinX12 : ∀ w ∈ wsX120, w ∈ wsX12_trace := fun w h => List.mem_cons_of_mem _ (List.mem_append_right _ h)
  refine j_lv (lv' := [(0, .ref (ad 0)), (1, .int a1)]) [0, 1] rfl ?_
  unfold vM_trace at hv
  refine j_aload_n (i := 0) hC dX12_trace_0 rfl 0 rfl ?_
  refine j_iconst (v := 0) hC dX12_trace_1 (by decide) ?_
  refine j_put (C := RX12) (T := TX12) (N := 22) (ty := .int) hC hinX12 tyX12 tyX12_ok nmX12 0 (wM_c0 ad cy _) rfl 0 (by decide) (mw 1 rfl) rfl rfl fdX12_0 rfl rfl (Nat.le_of_ble_eq_true rfl) (wM_p_thrown ad cy _ _) dX12_trace_2 ?_
  refine j_iload_n (i := 1) hC dX12_trace_5 rfl 1 rfl ?_
  refine j_i2l hC dX12_trace_6 ?_
  refine j_lconst (v := 0) hC dX12_trace_7 (by decide) ?_
  refine j_aload_n (i := 0) hC dX12_trace_8 rfl 0 rfl ?_
  refine j_get (C := RX12) (T := TX12) (N := 22) (v := .int (m_traced g)) hC hinX12 0 (wM_c0 ad cy _) rfl 21 (by decide) (mw 2 rfl) rfl rfl dX12_trace_9 ?_
  refine j_iconst (v := 1) hC dX12_trace_12 (by decide) ?_
  refine j_isub hC dX12_trace_13 ?_
  refine j_i2l hC dX12_trace_14 ?_
  refine j_callS_i (As := [.long (a1.toInt64), .long (0 : Int64), .long (((m_traced g) - (1 : Int32)).toInt64)]) (rest := []) hC (cM_in hv) 3 gX12_trace_X12_in rfl rfl rfl ⟨Nat.le_of_ble_eq_true rfl, Nat.le_of_ble_eq_true rfl⟩ hdM_in.2 rfl rfl (Nat.le_of_ble_eq_true rfl) ⟨Nat.zero_le _, Nat.zero_le _⟩ dX12_trace_15 (fun r15 g15 hv => ?_)
  refine j_if_eq (tgt := 30) hC dX12_trace_18 (by decide) (fun h_ => ?_) (fun h_ => ?_)
  · have hv := hv.1 h_
    refine j_ldc (v := -1000000) hC dX12_trace_30 (mw 4 rfl) ?_
    exact j_iret hC hQ dX12_trace_32 rfl hv
  · have hv := hv.2 h_
    refine j_aload_n (i := 0) hC dX12_trace_21 rfl 0 rfl ?_
    refine j_get (C := RX12) (T := TX12) (N := 22) (v := .ref (ad 16)) hC hinX12 0 (wM_c0 ad cy _) rfl 20 (by decide) (mw 3 rfl) rfl rfl dX12_trace_22 ?_
    refine j_iload_n (i := 1) hC dX12_trace_25 rfl 1 rfl ?_
    have hb26 := hv.1
    have hv := hv.2
    refine j_iald (v := ((m_trace g15) a1.toNatClampNeg)) hC 16 0 (wM_c16 ad cy _) rfl hb26 rfl dX12_trace_26 ?_
    refine j_goto (tgt := 32) hC dX12_trace_27 (by decide) ?_
    exact j_iret hC hQ dX12_trace_32 rfl hv
theorem hdM_count : yX12_count.cls = RX12 ∧ yX12_count.cls ≠ "java/lang/invoke/MethodHandle" ∧ yX12_count.cls ≠ "java/lang/invoke/VarHandle" ∧ (parseMethodDescriptor yX12_count.desc).map (fun d => d.parameters.length) = some 1 := by decide +kernel
abbrev rM_count : Room := { frames := 0, cells := 0, slots := 0, locals := 0 }
def vM_count_71 (post : Int32 → GM → Prop) (K50 : Int32 → Int32 → GM → Prop) (x3 : Int32) (t0 : Int32) (t1 : Int32) (g : GM) : Prop :=
  (K50 (t1 + t0) (x3 + (1 : Int32)) g)
def vM_count_50 (post : Int32 → GM → Prop) : Nat → Int32 → Int32 → GM → Prop
  | 0, _, _, _ => False
  | k_ + 1, x2, x3, g =>
  (((8 : Int32) ≤ x3 → post x2 g) ∧ (¬ (8 : Int32) ≤ x3 → (vp_in x3 8 ∧ ((((m_lane g) x3.toNatClampNeg) < (0 : Int32) → (vM_count_71 post (fun x2 x3 g => vM_count_50 post k_ x2 x3 g) x3 (0 : Int32) x2 g)) ∧ (¬ ((m_lane g) x3.toNatClampNeg) < (0 : Int32) → (vM_count_71 post (fun x2 x3 g => vM_count_50 post k_ x2 x3 g) x3 (1 : Int32) x2 g))))))
def vM_count_88 (post : Int32 → GM → Prop) : Nat → Int32 → Int32 → GM → Prop
  | 0, _, _, _ => False
  | k_ + 1, x2, x3, g =>
  (((m_worlds g) ≤ x3 → post x2 g) ∧ (¬ (m_worlds g) ≤ x3 → (vp_in x3 8 ∧ (vM_count_88 post k_ (x2 + ((m_weight g) x3.toNatClampNeg)) (x3 + (1 : Int32)) g))))
def vM_count_143 (post : Int32 → GM → Prop) (K120 : Int32 → Int32 → GM → Prop) (x3 : Int32) (t0 : Int32) (t1 : Int32) (g : GM) : Prop :=
  (K120 (t1 + t0) (x3 + (1 : Int32)) g)
def vM_count_120 (post : Int32 → GM → Prop) : Nat → Int32 → Int32 → GM → Prop
  | 0, _, _, _ => False
  | k_ + 1, x2, x3, g =>
  (((m_gates g) ≤ x3 → post x2 g) ∧ (¬ (m_gates g) ≤ x3 → (vp_in x3 6 ∧ ((((m_hasFailed g) x3.toNatClampNeg) = (0 : Int32) → (vM_count_143 post (fun x2 x3 g => vM_count_120 post k_ x2 x3 g) x3 (0 : Int32) x2 g)) ∧ (¬ ((m_hasFailed g) x3.toNatClampNeg) = (0 : Int32) → (vM_count_143 post (fun x2 x3 g => vM_count_120 post k_ x2 x3 g) x3 (1 : Int32) x2 g))))))
def vM_count (g : GM) (a1 : Int32) (post : Int32 → GM → Prop) : Prop :=
  (((∀ j_ : Nat, 0 ≤ j_ → j_ ≤ 5 → ¬ a1 = nI j_) → post (-1000001 : Int32) (sm_thrown g (0 : Int32))) ∧ (a1 = nI 0 → (∃ n_ : Nat, vM_count_50 post n_ (0 : Int32) (0 : Int32) (sm_thrown g (0 : Int32)))) ∧ (a1 = nI 1 → post (m_worlds g) (sm_thrown g (0 : Int32))) ∧ (a1 = nI 2 → (∃ n_ : Nat, vM_count_88 post n_ (0 : Int32) (0 : Int32) (sm_thrown g (0 : Int32)))) ∧ (a1 = nI 3 → post (m_gates g) (sm_thrown g (0 : Int32))) ∧ (a1 = nI 4 → (∃ n_ : Nat, vM_count_120 post n_ (0 : Int32) (0 : Int32) (sm_thrown g (0 : Int32)))) ∧ (a1 = nI 5 → post (m_ships g) (sm_thrown g (0 : Int32))))
set_option maxHeartbeats 4000000 in
set_option maxRecDepth 100000 in
theorem lM_count_71 {Γ : jG} {l : Launch} {D : va_G} {ad : Nat → Nat} {cy : Nat → ClassId} {post : Int32 → GM → Prop} (hC : jC Γ l rM_count D 4 RX12 cX12_count wsX12_count (tyM cy)) (hQ : jQi Γ D (wM ad cy) post (some .int) 0 0) {K50 : Int32 → Int32 → GM → Prop} (hK50 : ∀ (x2 : Int32) (x3 : Int32) (g : GM), K50 x2 x3 g → J Γ D 4 0 0 (wM ad cy g) 50 [(0, .ref (ad 0)), (2, .int x2), (3, .int x3)] []) : ∀ (x3 : Int32) (t0 : Int32) (t1 : Int32) (g : GM), vM_count_71 post K50 x3 t0 t1 g → J Γ D 4 0 0 (wM ad cy g) 71 [(0, .ref (ad 0)), (3, .int x3)] [.int t0, .int t1] := by
  have hinX12 : ∀ w ∈ wsX120, w ∈ wsX12_count := fun w h => List.mem_cons_of_mem _ (List.mem_append_right _ h)
  intro x3 t0 t1 g hv
  unfold vM_count_71 at hv
  refine j_iadd hC dX12_count_71 ?_
  refine j_istore_n (i := 2) (lv' := [(2, .int (t1 + t0)), (0, .ref (ad 0)), (3, .int x3)]) hC dX12_count_72 rfl (by decide) rfl ?_
  refine j_iinc (k := 2) (v := (x3 + (1 : Int32))) (lv' := [(3, .int (x3 + (1 : Int32))), (2, .int (t1 + t0)), (0, .ref (ad 0))]) hC dX12_count_73 rfl rfl (by decide) rfl ?_
  refine j_goto (tgt := 50) hC dX12_count_76 (by decide) ?_
  exact j_lv [2, 1, 0] rfl (hK50 _ _ _ hv)
set_option maxHeartbeats 4000000 in
set_option maxRecDepth 100000 in
theorem lM_count_50 {Γ : jG} {l : Launch} {D : va_G} {ad : Nat → Nat} {cy : Nat → ClassId} {post : Int32 → GM → Prop} (hC : jC Γ l rM_count D 4 RX12 cX12_count wsX12_count (tyM cy)) (hQ : jQi Γ D (wM ad cy) post (some .int) 0 0) : ∀ (n_ : Nat) (x2 : Int32) (x3 : Int32) (g : GM), vM_count_50 post n_ x2 x3 g → J Γ D 4 0 0 (wM ad cy g) 50 [(0, .ref (ad 0)), (2, .int x2), (3, .int x3)] [] := by
  have hinX12 : ∀ w ∈ wsX120, w ∈ wsX12_count := fun w h => List.mem_cons_of_mem _ (List.mem_append_right _ h)
  intro n_
  induction n_ with
  | zero => intro x2 x3 g hv; exact False.elim hv
  | succ k_ ih =>
    intro x2 x3 g hv
    unfold vM_count_50 at hv
    refine j_iload_n (i := 3) hC dX12_count_50 rfl 2 rfl ?_
    refine j_bipush (v := 8) hC dX12_count_51 (by decide) ?_
    refine j_icmp_ge (tgt := 79) hC dX12_count_53 (by decide) (fun h_ => ?_) (fun h_ => ?_)
    · have hv := hv.1 h_
      refine j_iload_n (i := 2) hC dX12_count_79 rfl 1 rfl ?_
      exact j_iret hC hQ dX12_count_80 rfl hv
    · have hv := hv.2 h_
      refine j_iload_n (i := 2) hC dX12_count_56 rfl 1 rfl ?_
      refine j_aload_n (i := 0) hC dX12_count_57 rfl 0 rfl ?_
      refine j_get (C := RX12) (T := TX12) (N := 22) (v := .ref (ad 3)) hC hinX12 0 (wM_c0 ad cy _) rfl 4 (by decide) (mw 2 rfl) rfl rfl dX12_count_58 ?_
      refine j_iload_n (i := 3) hC dX12_count_61 rfl 2 rfl ?_
      have hb62 := hv.1
      have hv := hv.2
      refine j_iald (v := ((m_lane g) x3.toNatClampNeg)) hC 3 0 (wM_c3 ad cy _) rfl hb62 rfl dX12_count_62 ?_
      refine j_if_lt (tgt := 70) hC dX12_count_63 (by decide) (fun h_ => ?_) (fun h_ => ?_)
      · have hv := hv.1 h_
        refine j_iconst (v := 0) hC dX12_count_70 (by decide) ?_
        exact j_lv [0, 2] rfl (lM_count_71 hC hQ (K50 := fun x2 x3 g => vM_count_50 post k_ x2 x3 g) (fun _ _ _ h_ => ih _ _ _ h_) _ _ _ _ hv)
      · have hv := hv.2 h_
        refine j_iconst (v := 1) hC dX12_count_66 (by decide) ?_
        refine j_goto (tgt := 71) hC dX12_count_67 (by decide) ?_
        exact j_lv [0, 2] rfl (lM_count_71 hC hQ (K50 := fun x2 x3 g => vM_count_50 post k_ x2 x3 g) (fun _ _ _ h_ => ih _ _ _ h_) _ _ _ _ hv)
set_option maxHeartbeats 4000000 in
set_option maxRecDepth 100000 in
theorem lM_count_88 {Γ : jG} {l : Launch} {D : va_G} {ad : Nat → Nat} {cy : Nat → ClassId} {post : Int32 → GM → Prop} (hC : jC Γ l rM_count D 4 RX12 cX12_count wsX12_count (tyM cy)) (hQ : jQi Γ D (wM ad cy) post (some .int) 0 0) : ∀ (n_ : Nat) (x2 : Int32) (x3 : Int32) (g : GM), vM_count_88 post n_ x2 x3 g → J Γ D 4 0 0 (wM ad cy g) 88 [(0, .ref (ad 0)), (2, .int x2), (3, .int x3)] [] := by
  have hinX12 : ∀ w ∈ wsX120, w ∈ wsX12_count := fun w h => List.mem_cons_of_mem _ (List.mem_append_right _ h)
  intro n_
  induction n_ with
  | zero => intro x2 x3 g hv; exact False.elim hv
  | succ k_ ih =>
    intro x2 x3 g hv
    unfold vM_count_88 at hv
    refine j_iload_n (i := 3) hC dX12_count_88 rfl 2 rfl ?_
    refine j_aload_n (i := 0) hC dX12_count_89 rfl 0 rfl ?_
    refine j_get (C := RX12) (T := TX12) (N := 22) (v := .int (m_worlds g)) hC hinX12 0 (wM_c0 ad cy _) rfl 7 (by decide) (mw 3 rfl) rfl rfl dX12_count_90 ?_
    refine j_icmp_ge (tgt := 111) hC dX12_count_93 (by decide) (fun h_ => ?_) (fun h_ => ?_)
    · have hv := hv.1 h_
      refine j_iload_n (i := 2) hC dX12_count_111 rfl 1 rfl ?_
      exact j_iret hC hQ dX12_count_112 rfl hv
    · have hv := hv.2 h_
      refine j_iload_n (i := 2) hC dX12_count_96 rfl 1 rfl ?_
      refine j_aload_n (i := 0) hC dX12_count_97 rfl 0 rfl ?_
      refine j_get (C := RX12) (T := TX12) (N := 22) (v := .ref (ad 6)) hC hinX12 0 (wM_c0 ad cy _) rfl 8 (by decide) (mw 4 rfl) rfl rfl dX12_count_98 ?_
      refine j_iload_n (i := 3) hC dX12_count_101 rfl 2 rfl ?_
      have hb102 := hv.1
      have hv := hv.2
      refine j_iald (v := ((m_weight g) x3.toNatClampNeg)) hC 6 0 (wM_c6 ad cy _) rfl hb102 rfl dX12_count_102 ?_
      refine j_iadd hC dX12_count_103 ?_
      refine j_istore_n (i := 2) (lv' := [(2, .int (x2 + ((m_weight g) x3.toNatClampNeg))), (0, .ref (ad 0)), (3, .int x3)]) hC dX12_count_104 rfl (by decide) rfl ?_
      refine j_iinc (k := 2) (v := (x3 + (1 : Int32))) (lv' := [(3, .int (x3 + (1 : Int32))), (2, .int (x2 + ((m_weight g) x3.toNatClampNeg))), (0, .ref (ad 0))]) hC dX12_count_105 rfl rfl (by decide) rfl ?_
      refine j_goto (tgt := 88) hC dX12_count_108 (by decide) ?_
      exact j_lv [2, 1, 0] rfl (ih _ _ _ hv)
set_option maxHeartbeats 4000000 in
set_option maxRecDepth 100000 in
theorem lM_count_143 {Γ : jG} {l : Launch} {D : va_G} {ad : Nat → Nat} {cy : Nat → ClassId} {post : Int32 → GM → Prop} (hC : jC Γ l rM_count D 4 RX12 cX12_count wsX12_count (tyM cy)) (hQ : jQi Γ D (wM ad cy) post (some .int) 0 0) {K120 : Int32 → Int32 → GM → Prop} (hK120 : ∀ (x2 : Int32) (x3 : Int32) (g : GM), K120 x2 x3 g → J Γ D 4 0 0 (wM ad cy g) 120 [(0, .ref (ad 0)), (2, .int x2), (3, .int x3)] []) : ∀ (x3 : Int32) (t0 : Int32) (t1 : Int32) (g : GM), vM_count_143 post K120 x3 t0 t1 g → J Γ D 4 0 0 (wM ad cy g) 143 [(0, .ref (ad 0)), (3, .int x3)] [.int t0, .int t1] := by
  have hinX12 : ∀ w ∈ wsX120, w ∈ wsX12_count := fun w h => List.mem_cons_of_mem _ (List.mem_append_right _ h)
  intro x3 t0 t1 g hv
  unfold vM_count_143 at hv
  refine j_iadd hC dX12_count_143 ?_
  refine j_istore_n (i := 2) (lv' := [(2, .int (t1 + t0)), (0, .ref (ad 0)), (3, .int x3)]) hC dX12_count_144 rfl (by decide) rfl ?_
  refine j_iinc (k := 2) (v := (x3 + (1 : Int32))) (lv' := [(3, .int (x3 + (1 : Int32))), (2, .int (t1 + t0)), (0, .ref (ad 0))]) hC dX12_count_145 rfl rfl (by decide) rfl ?_
  refine j_goto (tgt := 120) hC dX12_count_148 (by decide) ?_
  exact j_lv [2, 1, 0] rfl (hK120 _ _ _ hv)
set_option maxHeartbeats 4000000 in
set_option maxRecDepth 100000 in
theorem lM_count_120 {Γ : jG} {l : Launch} {D : va_G} {ad : Nat → Nat} {cy : Nat → ClassId} {post : Int32 → GM → Prop} (hC : jC Γ l rM_count D 4 RX12 cX12_count wsX12_count (tyM cy)) (hQ : jQi Γ D (wM ad cy) post (some .int) 0 0) : ∀ (n_ : Nat) (x2 : Int32) (x3 : Int32) (g : GM), vM_count_120 post n_ x2 x3 g → J Γ D 4 0 0 (wM ad cy g) 120 [(0, .ref (ad 0)), (2, .int x2), (3, .int x3)] [] := by
  have hinX12 : ∀ w ∈ wsX120, w ∈ wsX12_count := fun w h => List.mem_cons_of_mem _ (List.mem_append_right _ h)
  intro n_
  induction n_ with
  | zero => intro x2 x3 g hv; exact False.elim hv
  | succ k_ ih =>
    intro x2 x3 g hv
    unfold vM_count_120 at hv
    refine j_iload_n (i := 3) hC dX12_count_120 rfl 2 rfl ?_
    refine j_aload_n (i := 0) hC dX12_count_121 rfl 0 rfl ?_
    refine j_get (C := RX12) (T := TX12) (N := 22) (v := .int (m_gates g)) hC hinX12 0 (wM_c0 ad cy _) rfl 12 (by decide) (mw 5 rfl) rfl rfl dX12_count_122 ?_
    refine j_icmp_ge (tgt := 151) hC dX12_count_125 (by decide) (fun h_ => ?_) (fun h_ => ?_)
    · have hv := hv.1 h_
      refine j_iload_n (i := 2) hC dX12_count_151 rfl 1 rfl ?_
      exact j_iret hC hQ dX12_count_152 rfl hv
    · have hv := hv.2 h_
      refine j_iload_n (i := 2) hC dX12_count_128 rfl 1 rfl ?_
      refine j_aload_n (i := 0) hC dX12_count_129 rfl 0 rfl ?_
      refine j_get (C := RX12) (T := TX12) (N := 22) (v := .ref (ad 12)) hC hinX12 0 (wM_c0 ad cy _) rfl 15 (by decide) (mw 6 rfl) rfl rfl dX12_count_130 ?_
      refine j_iload_n (i := 3) hC dX12_count_133 rfl 2 rfl ?_
      have hb134 := hv.1
      have hv := hv.2
      refine j_zald (v := ((m_hasFailed g) x3.toNatClampNeg)) hC 12 2 (wM_c12 ad cy _) rfl hb134 rfl dX12_count_134 ?_
      refine j_if_eq (tgt := 142) hC dX12_count_135 (by decide) (fun h_ => ?_) (fun h_ => ?_)
      · have hv := hv.1 h_
        refine j_iconst (v := 0) hC dX12_count_142 (by decide) ?_
        exact j_lv [0, 2] rfl (lM_count_143 hC hQ (K120 := fun x2 x3 g => vM_count_120 post k_ x2 x3 g) (fun _ _ _ h_ => ih _ _ _ h_) _ _ _ _ hv)
      · have hv := hv.2 h_
        refine j_iconst (v := 1) hC dX12_count_138 (by decide) ?_
        refine j_goto (tgt := 143) hC dX12_count_139 (by decide) ?_
        exact j_lv [0, 2] rfl (lM_count_143 hC hQ (K120 := fun x2 x3 g => vM_count_120 post k_ x2 x3 g) (fun _ _ _ h_ => ih _ _ _ h_) _ _ _ _ hv)
set_option maxHeartbeats 4000000 in
set_option maxRecDepth 100000 in
theorem cM_count {l : Launch} {D : va_G} {ad : Nat → Nat} {cy : Nat → ClassId} {g : GM} {a1 : Int32} {post : Int32 → GM → Prop} (hv : vM_count g a1 post) : jMi l yX12_count wsX12_count rM_count D (tyM cy) [.ref (ad 0), .int a1] (wM ad cy g) (wM ad cy) post 0 0 := by
  refine j_meti (cc := cX12_count) (nL := 4) (rt := (some .int)) (by decide) (Nat.le_of_ble_eq_true rfl) ?_
  intro Γ hC hQ _
  have hC : jC Γ l rM_count D 4 RX12 cX12_count wsX12_count (tyM cy) := hC
  have hinX12 : ∀ w ∈ wsX120, w ∈ wsX12_count := fun w h => List.mem_cons_of_mem _ (List.mem_append_right _ h)
  refine j_lv (lv' := [(0, .ref (ad 0)), (1, .int a1)]) [0, 1] rfl ?_
  unfold vM_count at hv
  refine j_aload_n (i := 0) hC dX12_count_0 rfl 0 rfl ?_
  refine j_iconst (v := 0) hC dX12_count_1 (by decide) ?_
  refine j_put (C := RX12) (T := TX12) (N := 22) (ty := .int) hC hinX12 tyX12 tyX12_ok nmX12 0 (wM_c0 ad cy _) rfl 0 (by decide) (mw 1 rfl) rfl rfl fdX12_0 rfl rfl (Nat.le_of_ble_eq_true rfl) (wM_p_thrown ad cy _ _) dX12_count_2 ?_
  refine j_iconst (v := 0) hC dX12_count_5 (by decide) ?_
  refine j_istore_n (i := 2) (lv' := [(2, .int (0 : Int32)), (0, .ref (ad 0)), (1, .int a1)]) hC dX12_count_6 rfl (by decide) rfl ?_
  refine j_iload_n (i := 1) hC dX12_count_7 rfl 2 rfl ?_
  rcases jsw a1 0 5 with h_ | h_
  · have hv := hv.1 h_
    refine j_tableOut (tgt := 158) hC dX12_count_8 (jsw_out (a := 0) (n := 5) h_ rfl rfl) (by decide) ?_
    refine j_ldc (v := -1000001) hC dX12_count_158 (mw 8 rfl) ?_
    exact j_iret hC hQ dX12_count_160 rfl hv
  · have hv := hv.2
    obtain ⟨j_, hi_, hj_, h_⟩ := h_
    match j_, hi_, hj_, h_ with
    | 0, _, _, h_ =>
      have hv := hv.1 h_
      refine j_tableIn (tgt := 48) (off := 40) hC dX12_count_8 (by rw [h_]; decide) (by rw [h_]; decide) (by rw [h_]; rfl) (by decide) ?_
      refine j_iconst (v := 0) hC dX12_count_48 (by decide) ?_
      refine j_istore_n (i := 3) (lv' := [(3, .int (0 : Int32)), (2, .int (0 : Int32)), (0, .ref (ad 0)), (1, .int a1)]) hC dX12_count_49 rfl (by decide) rfl ?_
      obtain ⟨n_, hv⟩ := hv
      exact j_lv [2, 1, 0] rfl (lM_count_50 hC hQ n_ _ _ _ hv)
    | 1, _, _, h_ =>
      have hv := hv.2.1 h_
      refine j_tableIn (tgt := 81) (off := 73) hC dX12_count_8 (by rw [h_]; decide) (by rw [h_]; decide) (by rw [h_]; rfl) (by decide) ?_
      refine j_aload_n (i := 0) hC dX12_count_81 rfl 1 rfl ?_
      refine j_get (C := RX12) (T := TX12) (N := 22) (v := .int (m_worlds g)) hC hinX12 0 (wM_c0 ad cy _) rfl 7 (by decide) (mw 3 rfl) rfl rfl dX12_count_82 ?_
      exact j_iret hC hQ dX12_count_85 rfl hv
    | 2, _, _, h_ =>
      have hv := hv.2.2.1 h_
      refine j_tableIn (tgt := 86) (off := 78) hC dX12_count_8 (by rw [h_]; decide) (by rw [h_]; decide) (by rw [h_]; rfl) (by decide) ?_
      refine j_iconst (v := 0) hC dX12_count_86 (by decide) ?_
      refine j_istore_n (i := 3) (lv' := [(3, .int (0 : Int32)), (2, .int (0 : Int32)), (0, .ref (ad 0)), (1, .int a1)]) hC dX12_count_87 rfl (by decide) rfl ?_
      obtain ⟨n_, hv⟩ := hv
      exact j_lv [2, 1, 0] rfl (lM_count_88 hC hQ n_ _ _ _ hv)
    | 3, _, _, h_ =>
      have hv := hv.2.2.2.1 h_
      refine j_tableIn (tgt := 113) (off := 105) hC dX12_count_8 (by rw [h_]; decide) (by rw [h_]; decide) (by rw [h_]; rfl) (by decide) ?_
      refine j_aload_n (i := 0) hC dX12_count_113 rfl 1 rfl ?_
      refine j_get (C := RX12) (T := TX12) (N := 22) (v := .int (m_gates g)) hC hinX12 0 (wM_c0 ad cy _) rfl 12 (by decide) (mw 5 rfl) rfl rfl dX12_count_114 ?_
      exact j_iret hC hQ dX12_count_117 rfl hv
    | 4, _, _, h_ =>
      have hv := hv.2.2.2.2.1 h_
      refine j_tableIn (tgt := 118) (off := 110) hC dX12_count_8 (by rw [h_]; decide) (by rw [h_]; decide) (by rw [h_]; rfl) (by decide) ?_
      refine j_iconst (v := 0) hC dX12_count_118 (by decide) ?_
      refine j_istore_n (i := 3) (lv' := [(3, .int (0 : Int32)), (2, .int (0 : Int32)), (0, .ref (ad 0)), (1, .int a1)]) hC dX12_count_119 rfl (by decide) rfl ?_
      obtain ⟨n_, hv⟩ := hv
      exact j_lv [2, 1, 0] rfl (lM_count_120 hC hQ n_ _ _ _ hv)
    | 5, _, _, h_ =>
      have hv := hv.2.2.2.2.2 h_
      refine j_tableIn (tgt := 153) (off := 145) hC dX12_count_8 (by rw [h_]; decide) (by rw [h_]; decide) (by rw [h_]; rfl) (by decide) ?_
      refine j_aload_n (i := 0) hC dX12_count_153 rfl 1 rfl ?_
      refine j_get (C := RX12) (T := TX12) (N := 22) (v := .int (m_ships g)) hC hinX12 0 (wM_c0 ad cy _) rfl 17 (by decide) (mw 7 rfl) rfl rfl dX12_count_154 ?_
      exact j_iret hC hQ dX12_count_157 rfl hv
    | j_ + 6, _, hj_, _ => exact absurd hj_ (by omega)
theorem hdM_status : yX12_status.cls = RX12 ∧ yX12_status.cls ≠ "java/lang/invoke/MethodHandle" ∧ yX12_status.cls ≠ "java/lang/invoke/VarHandle" ∧ (parseMethodDescriptor yX12_status.desc).map (fun d => d.parameters.length) = some 0 := by decide +kernel
abbrev rM_status : Room := { frames := 0, cells := 0, slots := 0, locals := 0 }
def vM_status (g : GM) (post : Int32 → GM → Prop) : Prop :=
  post (m_status g) (sm_thrown g (0 : Int32))
set_option maxHeartbeats 4000000 in
set_option maxRecDepth 100000 in
theorem cM_status {l : Launch} {D : va_G} {ad : Nat → Nat} {cy : Nat → ClassId} {g : GM} {post : Int32 → GM → Prop} (hv : vM_status g post) : jMi l yX12_status wsX12_status rM_status D (tyM cy) [.ref (ad 0)] (wM ad cy g) (wM ad cy) post 0 0 := by
  refine j_meti (cc := cX12_status) (nL := 1) (rt := (some .int)) (by decide) (Nat.le_of_ble_eq_true rfl) ?_
  intro Γ hC hQ _
  have hC : jC Γ l rM_status D 1 RX12 cX12_status wsX12_status (tyM cy) := hC
  have hinX12 : ∀ w ∈ wsX120, w ∈ wsX12_status := fun w h => List.mem_cons_of_mem _ (List.mem_append_right _ h)
  refine j_lv (lv' := [(0, .ref (ad 0))]) [0] rfl ?_
  unfold vM_status at hv
  refine j_aload_n (i := 0) hC dX12_status_0 rfl 0 rfl ?_
  refine j_iconst (v := 0) hC dX12_status_1 (by decide) ?_
  refine j_put (C := RX12) (T := TX12) (N := 22) (ty := .int) hC hinX12 tyX12 tyX12_ok nmX12 0 (wM_c0 ad cy _) rfl 0 (by decide) (mw 1 rfl) rfl rfl fdX12_0 rfl rfl (Nat.le_of_ble_eq_true rfl) (wM_p_thrown ad cy _ _) dX12_status_2 ?_
  refine j_aload_n (i := 0) hC dX12_status_5 rfl 0 rfl ?_
  refine j_get (C := RX12) (T := TX12) (N := 22) (v := .int (m_status g)) hC hinX12 0 (wM_c0 ad cy _) rfl 1 (by decide) (mw 2 rfl) rfl rfl dX12_status_6 ?_
  exact j_iret hC hQ dX12_status_9 rfl hv
