set_option maxHeartbeats 4000000 in
set_option maxRecDepth 100000 in
theorem law_best {Γ : jG} {l : Launch} {D : va_G} {cy : Nat → ClassId} {ad am : Nat → Nat} {g : GS} {m : GM} {b L cs sl : Nat} {xs : Nat → Int32} {i : Int32} (hC : jC Γ l room_1 D 4 RL cL_law wsL_law (tyA cy)) (hX : lX Γ b L xs) (hin : lIn i L) (hcs : cs + 1 ≤ 600000) (hsl : sl + 3 ≤ 7302250) (h : R g m) (kk : ∀ (ad2 : Nat → Nat) (g2 : GS) (m2 : GM), ad2 0 = ad 0 → R g2 m2 → J Γ D 4 (cs + 1) (sl + 3) (wS ad2 cy g2 ++ wM am cy m2) 1036 [(0, .ref b), (1, .ref (ad 0)), (2, .ref (am 0)), (3, .int i)] []) : J Γ D 4 cs sl (wS ad cy g ++ wM am cy m) 433 [(0, .ref b), (1, .ref (ad 0)), (2, .ref (am 0)), (3, .int i)] [] := by
  refine j_aload_n (i := 1) hC dL_law_433 rfl 1 rfl ?_
  refine j_callVf_l (w1 := wS ad cy g) (fr := wM am cy m) (As := []) (rest := []) [0, 1, 3, 4, 5] rfl hC (cSG_best (sim_best h )) 0 gL_law_X11_best rfl rfl rfl ⟨Nat.le_of_ble_eq_true rfl, Nat.le_of_ble_eq_true rfl⟩ hdSG_best rfl (wS_c0 ad cy g) rfl rfl (Nat.le_of_ble_eq_true rfl) ⟨by show cs + 0 ≤ 600000; omega, by show sl + 0 ≤ 7302250; omega⟩ dL_law_434 (fun r u hv => ?_)
  refine j_aload_n (i := 2) hC dL_law_437 rfl 2 rfl ?_
  refine j_comm ?_
  refine j_callVf_l (w1 := wM am cy m) (As := []) (rest := [.long r]) [0, 1, 2] rfl hC (cM_best hv) 0 gL_law_X12_best rfl rfl rfl ⟨Nat.le_of_ble_eq_true rfl, Nat.le_of_ble_eq_true rfl⟩ hdM_best rfl (wM_c0 am cy m) rfl rfl (Nat.le_of_ble_eq_true rfl) ⟨by show cs + 0 + 0 ≤ 600000; omega, by show sl + 0 + 0 ≤ 7302250; omega⟩ dL_law_438 (fun r2 u2 hv2 => ?_)
  refine j_comm ?_
  refine j_lcmp_eq (tgt := 1036) hC dL_law_441 dL_law_442 (by decide) (fun _ => ?_) (fun q => absurd hv2.1 q)
  exact j_widen (by omega) (by omega) (kk ad u u2 rfl hv2.2)
set_option maxHeartbeats 4000000 in
set_option maxRecDepth 100000 in
theorem law_hour {Γ : jG} {l : Launch} {D : va_G} {cy : Nat → ClassId} {ad am : Nat → Nat} {g : GS} {m : GM} {b L cs sl : Nat} {xs : Nat → Int32} {i : Int32} (hC : jC Γ l room_1 D 4 RL cL_law wsL_law (tyA cy)) (hX : lX Γ b L xs) (hin : lIn i L) (hcs : cs + 1 ≤ 600000) (hsl : sl + 3 ≤ 7302250) (h : R g m) (kk : ∀ (ad2 : Nat → Nat) (g2 : GS) (m2 : GM), ad2 0 = ad 0 → R g2 m2 → J Γ D 4 (cs + 1) (sl + 3) (wS ad2 cy g2 ++ wM am cy m2) 1036 [(0, .ref b), (1, .ref (ad 0)), (2, .ref (am 0)), (3, .int i)] []) : J Γ D 4 cs sl (wS ad cy g ++ wM am cy m) 447 [(0, .ref b), (1, .ref (ad 0)), (2, .ref (am 0)), (3, .int i)] [] := by
  refine j_aload_n (i := 1) hC dL_law_447 rfl 1 rfl ?_
  refine j_aload_n (i := 0) hC dL_law_448 rfl 0 rfl ?_
  refine j_iload_n (i := 3) hC dL_law_449 rfl 3 rfl ?_
  refine j_iconst (v := 1) hC dL_law_450 (by decide) ?_
  refine j_iadd hC dL_law_451 ?_
  refine j_sld hC hX hin.2.1 dL_law_452 ?_
  refine j_aload_n (i := 0) hC dL_law_453 rfl 0 rfl ?_
  refine j_iload_n (i := 3) hC dL_law_454 rfl 3 rfl ?_
  refine j_iconst (v := 2) hC dL_law_455 (by decide) ?_
  refine j_iadd hC dL_law_456 ?_
  refine j_sld hC hX hin.2.2.1 dL_law_457 ?_
  refine j_aload_n (i := 0) hC dL_law_458 rfl 0 rfl ?_
  refine j_iload_n (i := 3) hC dL_law_459 rfl 3 rfl ?_
  refine j_iconst (v := 3) hC dL_law_460 (by decide) ?_
  refine j_iadd hC dL_law_461 ?_
  refine j_sld hC hX hin.2.2.2.1 dL_law_462 ?_
  refine j_callVf_i (w1 := wS ad cy g) (fr := wM am cy m) (As := [.int (xs (i + 1).toNatClampNeg), .int (xs (i + 2).toNatClampNeg), .int (xs (i + 3).toNatClampNeg)]) (rest := []) [0, 1, 3, 4, 5] rfl hC (cSG_hour (sim_hour h _ _ _)) 3 gL_law_X11_hour rfl rfl rfl ⟨Nat.le_of_ble_eq_true rfl, Nat.le_of_ble_eq_true rfl⟩ hdSG_hour rfl (wS_c0 ad cy g) rfl rfl (Nat.le_of_ble_eq_true rfl) ⟨by show cs + 0 ≤ 600000; omega, by show sl + 0 ≤ 7302250; omega⟩ dL_law_463 (fun r u hv => ?_)
  refine j_aload_n (i := 2) hC dL_law_466 rfl 2 rfl ?_
  refine j_aload_n (i := 0) hC dL_law_467 rfl 0 rfl ?_
  refine j_iload_n (i := 3) hC dL_law_468 rfl 3 rfl ?_
  refine j_iconst (v := 1) hC dL_law_469 (by decide) ?_
  refine j_iadd hC dL_law_470 ?_
  refine j_sld hC hX hin.2.1 dL_law_471 ?_
  refine j_aload_n (i := 0) hC dL_law_472 rfl 0 rfl ?_
  refine j_iload_n (i := 3) hC dL_law_473 rfl 3 rfl ?_
  refine j_iconst (v := 2) hC dL_law_474 (by decide) ?_
  refine j_iadd hC dL_law_475 ?_
  refine j_sld hC hX hin.2.2.1 dL_law_476 ?_
  refine j_aload_n (i := 0) hC dL_law_477 rfl 0 rfl ?_
  refine j_iload_n (i := 3) hC dL_law_478 rfl 3 rfl ?_
  refine j_iconst (v := 3) hC dL_law_479 (by decide) ?_
  refine j_iadd hC dL_law_480 ?_
  refine j_sld hC hX hin.2.2.2.1 dL_law_481 ?_
  refine j_comm ?_
  refine j_callVf_i (w1 := wM am cy m) (As := [.int (xs (i + 1).toNatClampNeg), .int (xs (i + 2).toNatClampNeg), .int (xs (i + 3).toNatClampNeg)]) (rest := [.int r]) [0, 1, 2] rfl hC (cM_hour hv) 3 gL_law_X12_hour rfl rfl rfl ⟨Nat.le_of_ble_eq_true rfl, Nat.le_of_ble_eq_true rfl⟩ hdM_hour rfl (wM_c0 am cy m) rfl rfl (Nat.le_of_ble_eq_true rfl) ⟨by show cs + 0 + 0 ≤ 600000; omega, by show sl + 0 + 0 ≤ 7302250; omega⟩ dL_law_482 (fun r2 u2 hv2 => ?_)
  refine j_comm ?_
  refine j_icmp_eq (tgt := 1036) hC dL_law_485 (by decide) (fun _ => ?_) (fun q => absurd hv2.1 q)
  exact j_widen (by omega) (by omega) (kk ad u u2 rfl hv2.2)
set_option maxHeartbeats 4000000 in
set_option maxRecDepth 100000 in
theorem law_shutAt {Γ : jG} {l : Launch} {D : va_G} {cy : Nat → ClassId} {ad am : Nat → Nat} {g : GS} {m : GM} {b L cs sl : Nat} {xs : Nat → Int32} {i : Int32} (hC : jC Γ l room_1 D 4 RL cL_law wsL_law (tyA cy)) (hX : lX Γ b L xs) (hin : lIn i L) (hcs : cs + 1 ≤ 600000) (hsl : sl + 3 ≤ 7302250) (h : R g m) (kk : ∀ (ad2 : Nat → Nat) (g2 : GS) (m2 : GM), ad2 0 = ad 0 → R g2 m2 → J Γ D 4 (cs + 1) (sl + 3) (wS ad2 cy g2 ++ wM am cy m2) 1036 [(0, .ref b), (1, .ref (ad 0)), (2, .ref (am 0)), (3, .int i)] []) : J Γ D 4 cs sl (wS ad cy g ++ wM am cy m) 490 [(0, .ref b), (1, .ref (ad 0)), (2, .ref (am 0)), (3, .int i)] [] := by
  refine j_aload_n (i := 1) hC dL_law_490 rfl 1 rfl ?_
  refine j_aload_n (i := 0) hC dL_law_491 rfl 0 rfl ?_
  refine j_iload_n (i := 3) hC dL_law_492 rfl 3 rfl ?_
  refine j_iconst (v := 1) hC dL_law_493 (by decide) ?_
  refine j_iadd hC dL_law_494 ?_
  refine j_sld hC hX hin.2.1 dL_law_495 ?_
  refine j_callVf_l (w1 := wS ad cy g) (fr := wM am cy m) (As := [.int (xs (i + 1).toNatClampNeg)]) (rest := []) [0, 1, 3, 4, 5] rfl hC (cSG_shutAt (sim_shutAt h _)) 1 gL_law_X11_shutAt rfl rfl rfl ⟨Nat.le_of_ble_eq_true rfl, Nat.le_of_ble_eq_true rfl⟩ hdSG_shutAt rfl (wS_c0 ad cy g) rfl rfl (Nat.le_of_ble_eq_true rfl) ⟨by show cs + 0 ≤ 600000; omega, by show sl + 0 ≤ 7302250; omega⟩ dL_law_496 (fun r u hv => ?_)
  refine j_aload_n (i := 2) hC dL_law_499 rfl 2 rfl ?_
  refine j_aload_n (i := 0) hC dL_law_500 rfl 0 rfl ?_
  refine j_iload_n (i := 3) hC dL_law_501 rfl 3 rfl ?_
  refine j_iconst (v := 1) hC dL_law_502 (by decide) ?_
  refine j_iadd hC dL_law_503 ?_
  refine j_sld hC hX hin.2.1 dL_law_504 ?_
  refine j_comm ?_
  refine j_callVf_l (w1 := wM am cy m) (As := [.int (xs (i + 1).toNatClampNeg)]) (rest := [.long r]) [0, 1, 2] rfl hC (cM_shutAt hv) 1 gL_law_X12_shutAt rfl rfl rfl ⟨Nat.le_of_ble_eq_true rfl, Nat.le_of_ble_eq_true rfl⟩ hdM_shutAt rfl (wM_c0 am cy m) rfl rfl (Nat.le_of_ble_eq_true rfl) ⟨by show cs + 0 + 0 ≤ 600000; omega, by show sl + 0 + 0 ≤ 7302250; omega⟩ dL_law_505 (fun r2 u2 hv2 => ?_)
  refine j_comm ?_
  refine j_lcmp_eq (tgt := 1036) hC dL_law_508 dL_law_509 (by decide) (fun _ => ?_) (fun q => absurd hv2.1 q)
  exact j_widen (by omega) (by omega) (kk ad u u2 rfl hv2.2)
set_option maxHeartbeats 4000000 in
set_option maxRecDepth 100000 in
theorem law_alarm {Γ : jG} {l : Launch} {D : va_G} {cy : Nat → ClassId} {ad am : Nat → Nat} {g : GS} {m : GM} {b L cs sl : Nat} {xs : Nat → Int32} {i : Int32} (hC : jC Γ l room_1 D 4 RL cL_law wsL_law (tyA cy)) (hX : lX Γ b L xs) (hin : lIn i L) (hcs : cs + 1 ≤ 600000) (hsl : sl + 3 ≤ 7302250) (h : R g m) (kk : ∀ (ad2 : Nat → Nat) (g2 : GS) (m2 : GM), ad2 0 = ad 0 → R g2 m2 → J Γ D 4 (cs + 1) (sl + 3) (wS ad2 cy g2 ++ wM am cy m2) 1036 [(0, .ref b), (1, .ref (ad 0)), (2, .ref (am 0)), (3, .int i)] []) : J Γ D 4 cs sl (wS ad cy g ++ wM am cy m) 514 [(0, .ref b), (1, .ref (ad 0)), (2, .ref (am 0)), (3, .int i)] [] := by
  refine j_aload_n (i := 1) hC dL_law_514 rfl 1 rfl ?_
  refine j_callVf_i (w1 := wS ad cy g) (fr := wM am cy m) (As := []) (rest := []) [0, 1, 3, 4, 5] rfl hC (cSG_alarm (sim_alarm h )) 0 gL_law_X11_alarm rfl rfl rfl ⟨Nat.le_of_ble_eq_true rfl, Nat.le_of_ble_eq_true rfl⟩ hdSG_alarm rfl (wS_c0 ad cy g) rfl rfl (Nat.le_of_ble_eq_true rfl) ⟨by show cs + 0 ≤ 600000; omega, by show sl + 0 ≤ 7302250; omega⟩ dL_law_515 (fun r u hv => ?_)
  refine j_aload_n (i := 2) hC dL_law_518 rfl 2 rfl ?_
  refine j_comm ?_
  refine j_callVf_i (w1 := wM am cy m) (As := []) (rest := [.int r]) [0, 1, 2] rfl hC (cM_alarm hv) 0 gL_law_X12_alarm rfl rfl rfl ⟨Nat.le_of_ble_eq_true rfl, Nat.le_of_ble_eq_true rfl⟩ hdM_alarm rfl (wM_c0 am cy m) rfl rfl (Nat.le_of_ble_eq_true rfl) ⟨by show cs + 0 + 0 ≤ 600000; omega, by show sl + 0 + 0 ≤ 7302250; omega⟩ dL_law_519 (fun r2 u2 hv2 => ?_)
  refine j_comm ?_
  refine j_icmp_eq (tgt := 1036) hC dL_law_522 (by decide) (fun _ => ?_) (fun q => absurd hv2.1 q)
  exact j_widen (by omega) (by omega) (kk ad u u2 rfl hv2.2)
set_option maxHeartbeats 4000000 in
set_option maxRecDepth 100000 in
theorem law_groups {Γ : jG} {l : Launch} {D : va_G} {cy : Nat → ClassId} {ad am : Nat → Nat} {g : GS} {m : GM} {b L cs sl : Nat} {xs : Nat → Int32} {i : Int32} (hC : jC Γ l room_1 D 4 RL cL_law wsL_law (tyA cy)) (hX : lX Γ b L xs) (hin : lIn i L) (hcs : cs + 1 ≤ 600000) (hsl : sl + 3 ≤ 7302250) (h : R g m) (kk : ∀ (ad2 : Nat → Nat) (g2 : GS) (m2 : GM), ad2 0 = ad 0 → R g2 m2 → J Γ D 4 (cs + 1) (sl + 3) (wS ad2 cy g2 ++ wM am cy m2) 1036 [(0, .ref b), (1, .ref (ad 0)), (2, .ref (am 0)), (3, .int i)] []) : J Γ D 4 cs sl (wS ad cy g ++ wM am cy m) 527 [(0, .ref b), (1, .ref (ad 0)), (2, .ref (am 0)), (3, .int i)] [] := by
  refine j_aload_n (i := 1) hC dL_law_527 rfl 1 rfl ?_
  refine j_aload_n (i := 0) hC dL_law_528 rfl 0 rfl ?_
  refine j_iload_n (i := 3) hC dL_law_529 rfl 3 rfl ?_
  refine j_iconst (v := 1) hC dL_law_530 (by decide) ?_
  refine j_iadd hC dL_law_531 ?_
  refine j_sld hC hX hin.2.1 dL_law_532 ?_
  refine j_callVf_i (w1 := wS ad cy g) (fr := wM am cy m) (As := [.int (xs (i + 1).toNatClampNeg)]) (rest := []) [0, 1, 3, 4, 5] rfl hC (cSG_groups (sim_groups h _)) 1 gL_law_X11_groups rfl rfl rfl ⟨Nat.le_of_ble_eq_true rfl, Nat.le_of_ble_eq_true rfl⟩ hdSG_groups rfl (wS_c0 ad cy g) rfl rfl (Nat.le_of_ble_eq_true rfl) ⟨by show cs + 0 ≤ 600000; omega, by show sl + 0 ≤ 7302250; omega⟩ dL_law_533 (fun r u hv => ?_)
  refine j_aload_n (i := 2) hC dL_law_536 rfl 2 rfl ?_
  refine j_aload_n (i := 0) hC dL_law_537 rfl 0 rfl ?_
  refine j_iload_n (i := 3) hC dL_law_538 rfl 3 rfl ?_
  refine j_iconst (v := 1) hC dL_law_539 (by decide) ?_
  refine j_iadd hC dL_law_540 ?_
  refine j_sld hC hX hin.2.1 dL_law_541 ?_
  refine j_comm ?_
  refine j_callVf_i (w1 := wM am cy m) (As := [.int (xs (i + 1).toNatClampNeg)]) (rest := [.int r]) [0, 1, 2] rfl hC (cM_groups hv) 1 gL_law_X12_groups rfl rfl rfl ⟨Nat.le_of_ble_eq_true rfl, Nat.le_of_ble_eq_true rfl⟩ hdM_groups rfl (wM_c0 am cy m) rfl rfl (Nat.le_of_ble_eq_true rfl) ⟨by show cs + 0 + 0 ≤ 600000; omega, by show sl + 0 + 0 ≤ 7302250; omega⟩ dL_law_542 (fun r2 u2 hv2 => ?_)
  refine j_comm ?_
  refine j_icmp_eq (tgt := 1036) hC dL_law_545 (by decide) (fun _ => ?_) (fun q => absurd hv2.1 q)
  exact j_widen (by omega) (by omega) (kk ad u u2 rfl hv2.2)
theorem hdSG_gate : yX11_gate.cls = RX11 ∧ yX11_gate.cls ≠ "java/lang/invoke/MethodHandle" ∧ yX11_gate.cls ≠ "java/lang/invoke/VarHandle" ∧ (parseMethodDescriptor yX11_gate.desc).map (fun d => d.parameters.length) = some 2 := by decide +kernel
set_option maxHeartbeats 4000000 in
set_option maxRecDepth 100000 in
theorem law_gate {Γ : jG} {l : Launch} {D : va_G} {cy : Nat → ClassId} {ad am : Nat → Nat} {g : GS} {m : GM} {b L cs sl : Nat} {xs : Nat → Int32} {i : Int32} (hC : jC Γ l room_1 D 4 RL cL_law wsL_law (tyA cy)) (hX : lX Γ b L xs) (hin : lIn i L) (hcs : cs + 1 ≤ 600000) (hsl : sl + 3 ≤ 7302250) (h : R g m) (kk : ∀ (ad2 : Nat → Nat) (g2 : GS) (m2 : GM), ad2 0 = ad 0 → R g2 m2 → J Γ D 4 (cs + 1) (sl + 3) (wS ad2 cy g2 ++ wM am cy m2) 1036 [(0, .ref b), (1, .ref (ad 0)), (2, .ref (am 0)), (3, .int i)] []) : J Γ D 4 cs sl (wS ad cy g ++ wM am cy m) 550 [(0, .ref b), (1, .ref (ad 0)), (2, .ref (am 0)), (3, .int i)] [] := by
  refine j_aload_n (i := 1) hC dL_law_550 rfl 1 rfl ?_
  refine j_aload_n (i := 0) hC dL_law_551 rfl 0 rfl ?_
  refine j_iload_n (i := 3) hC dL_law_552 rfl 3 rfl ?_
  refine j_iconst (v := 1) hC dL_law_553 (by decide) ?_
  refine j_iadd hC dL_law_554 ?_
  refine j_sld hC hX hin.2.1 dL_law_555 ?_
  refine j_aload_n (i := 0) hC dL_law_556 rfl 0 rfl ?_
  refine j_iload_n (i := 3) hC dL_law_557 rfl 3 rfl ?_
  refine j_iconst (v := 2) hC dL_law_558 (by decide) ?_
  refine j_iadd hC dL_law_559 ?_
  refine j_sld hC hX hin.2.2.1 dL_law_560 ?_
  refine j_callVf_i (w1 := wS ad cy g) (fr := wM am cy m) (As := [.int (xs (i + 1).toNatClampNeg), .int (xs (i + 2).toNatClampNeg)]) (rest := []) [0, 1, 3, 4, 5] rfl hC (cSG_gate (sim_gate h _ _)) 2 gL_law_X11_gate rfl rfl rfl ⟨Nat.le_of_ble_eq_true rfl, Nat.le_of_ble_eq_true rfl⟩ hdSG_gate rfl (wS_c0 ad cy g) rfl rfl (Nat.le_of_ble_eq_true rfl) ⟨by show cs + 1 ≤ 600000; omega, by show sl + 3 ≤ 7302250; omega⟩ dL_law_561 (fun r u hv => ?_)
  obtain ⟨a2, u⟩ := u
  obtain ⟨ha2, hv⟩ := hv
  dsimp only at ha2 hv ⊢
  refine j_aload_n (i := 2) hC dL_law_564 rfl 2 rfl ?_
  refine j_aload_n (i := 0) hC dL_law_565 rfl 0 rfl ?_
  refine j_iload_n (i := 3) hC dL_law_566 rfl 3 rfl ?_
  refine j_iconst (v := 1) hC dL_law_567 (by decide) ?_
  refine j_iadd hC dL_law_568 ?_
  refine j_sld hC hX hin.2.1 dL_law_569 ?_
  refine j_aload_n (i := 0) hC dL_law_570 rfl 0 rfl ?_
  refine j_iload_n (i := 3) hC dL_law_571 rfl 3 rfl ?_
  refine j_iconst (v := 2) hC dL_law_572 (by decide) ?_
  refine j_iadd hC dL_law_573 ?_
  refine j_sld hC hX hin.2.2.1 dL_law_574 ?_
  refine j_comm ?_
  refine j_callVf_i (w1 := wM am cy m) (As := [.int (xs (i + 1).toNatClampNeg), .int (xs (i + 2).toNatClampNeg)]) (rest := [.int r]) [0, 1, 2] rfl hC (cM_gate hv) 2 gL_law_X12_gate rfl rfl rfl ⟨Nat.le_of_ble_eq_true rfl, Nat.le_of_ble_eq_true rfl⟩ hdM_gate rfl (wM_c0 am cy m) rfl rfl (Nat.le_of_ble_eq_true rfl) ⟨by show cs + 1 + 0 ≤ 600000; omega, by show sl + 3 + 0 ≤ 7302250; omega⟩ dL_law_575 (fun r2 u2 hv2 => ?_)
  refine j_comm ?_
  refine j_icmp_eq (tgt := 1036) hC dL_law_578 (by decide) (fun _ => ?_) (fun q => absurd hv2.1 q)
  exact j_widen (by omega) (by omega) (kk a2 u u2 ha2 hv2.2)
set_option maxHeartbeats 4000000 in
set_option maxRecDepth 100000 in
theorem law_fail {Γ : jG} {l : Launch} {D : va_G} {cy : Nat → ClassId} {ad am : Nat → Nat} {g : GS} {m : GM} {b L cs sl : Nat} {xs : Nat → Int32} {i : Int32} (hC : jC Γ l room_1 D 4 RL cL_law wsL_law (tyA cy)) (hX : lX Γ b L xs) (hin : lIn i L) (hcs : cs + 1 ≤ 600000) (hsl : sl + 3 ≤ 7302250) (h : R g m) (kk : ∀ (ad2 : Nat → Nat) (g2 : GS) (m2 : GM), ad2 0 = ad 0 → R g2 m2 → J Γ D 4 (cs + 1) (sl + 3) (wS ad2 cy g2 ++ wM am cy m2) 1036 [(0, .ref b), (1, .ref (ad 0)), (2, .ref (am 0)), (3, .int i)] []) : J Γ D 4 cs sl (wS ad cy g ++ wM am cy m) 583 [(0, .ref b), (1, .ref (ad 0)), (2, .ref (am 0)), (3, .int i)] [] := by
  refine j_aload_n (i := 1) hC dL_law_583 rfl 1 rfl ?_
  refine j_aload_n (i := 0) hC dL_law_584 rfl 0 rfl ?_
  refine j_iload_n (i := 3) hC dL_law_585 rfl 3 rfl ?_
  refine j_iconst (v := 1) hC dL_law_586 (by decide) ?_
  refine j_iadd hC dL_law_587 ?_
  refine j_sld hC hX hin.2.1 dL_law_588 ?_
  refine j_callVf_i (w1 := wS ad cy g) (fr := wM am cy m) (As := [.int (xs (i + 1).toNatClampNeg)]) (rest := []) [0, 1, 3, 4, 5] rfl hC (cSG_fail (sim_fail h _)) 1 gL_law_X11_fail rfl rfl rfl ⟨Nat.le_of_ble_eq_true rfl, Nat.le_of_ble_eq_true rfl⟩ hdSG_fail rfl (wS_c0 ad cy g) rfl rfl (Nat.le_of_ble_eq_true rfl) ⟨by show cs + 0 ≤ 600000; omega, by show sl + 0 ≤ 7302250; omega⟩ dL_law_589 (fun r u hv => ?_)
  refine j_aload_n (i := 2) hC dL_law_592 rfl 2 rfl ?_
  refine j_aload_n (i := 0) hC dL_law_593 rfl 0 rfl ?_
  refine j_iload_n (i := 3) hC dL_law_594 rfl 3 rfl ?_
  refine j_iconst (v := 1) hC dL_law_595 (by decide) ?_
  refine j_iadd hC dL_law_596 ?_
  refine j_sld hC hX hin.2.1 dL_law_597 ?_
  refine j_comm ?_
  refine j_callVf_i (w1 := wM am cy m) (As := [.int (xs (i + 1).toNatClampNeg)]) (rest := [.int r]) [0, 1, 2] rfl hC (cM_fail hv) 1 gL_law_X12_fail rfl rfl rfl ⟨Nat.le_of_ble_eq_true rfl, Nat.le_of_ble_eq_true rfl⟩ hdM_fail rfl (wM_c0 am cy m) rfl rfl (Nat.le_of_ble_eq_true rfl) ⟨by show cs + 0 + 0 ≤ 600000; omega, by show sl + 0 + 0 ≤ 7302250; omega⟩ dL_law_598 (fun r2 u2 hv2 => ?_)
  refine j_comm ?_
  refine j_icmp_eq (tgt := 1036) hC dL_law_601 (by decide) (fun _ => ?_) (fun q => absurd hv2.1 q)
  exact j_widen (by omega) (by omega) (kk ad u u2 rfl hv2.2)
