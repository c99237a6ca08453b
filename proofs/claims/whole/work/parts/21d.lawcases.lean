set_option maxHeartbeats 4000000 in
set_option maxRecDepth 100000 in
theorem law_mend {Γ : jG} {l : Launch} {D : va_G} {cy : Nat → ClassId} {ad am : Nat → Nat} {g : GS} {m : GM} {b L cs sl : Nat} {xs : Nat → Int32} {i : Int32} (hC : jC Γ l room_1 D 4 RL cL_law wsL_law (tyA cy)) (hX : lX Γ b L xs) (hin : lIn i L) (hcs : cs + 1 ≤ 600000) (hsl : sl + 3 ≤ 7302250) (h : R g m) (kk : ∀ (ad2 : Nat → Nat) (g2 : GS) (m2 : GM), ad2 0 = ad 0 → R g2 m2 → J Γ D 4 (cs + 1) (sl + 3) (wS ad2 cy g2 ++ wM am cy m2) 1036 [(0, .ref b), (1, .ref (ad 0)), (2, .ref (am 0)), (3, .int i)] []) : J Γ D 4 cs sl (wS ad cy g ++ wM am cy m) 606 [(0, .ref b), (1, .ref (ad 0)), (2, .ref (am 0)), (3, .int i)] [] := by
  refine j_aload_n (i := 1) hC dL_law_606 rfl 1 rfl ?_
  refine j_aload_n (i := 0) hC dL_law_607 rfl 0 rfl ?_
  refine j_iload_n (i := 3) hC dL_law_608 rfl 3 rfl ?_
  refine j_iconst (v := 1) hC dL_law_609 (by decide) ?_
  refine j_iadd hC dL_law_610 ?_
  refine j_sld hC hX hin.2.1 dL_law_611 ?_
  refine j_callVf_i (w1 := wS ad cy g) (fr := wM am cy m) (As := [.int (xs (i + 1).toNatClampNeg)]) (rest := []) [0, 1, 3, 4, 5] rfl hC (cSG_mend (sim_mend h _)) 1 gL_law_X11_mend rfl rfl rfl ⟨Nat.le_of_ble_eq_true rfl, Nat.le_of_ble_eq_true rfl⟩ hdSG_mend rfl (wS_c0 ad cy g) rfl rfl (Nat.le_of_ble_eq_true rfl) ⟨by show cs + 0 ≤ 600000; omega, by show sl + 0 ≤ 7302250; omega⟩ dL_law_612 (fun r u hv => ?_)
  refine j_aload_n (i := 2) hC dL_law_615 rfl 2 rfl ?_
  refine j_aload_n (i := 0) hC dL_law_616 rfl 0 rfl ?_
  refine j_iload_n (i := 3) hC dL_law_617 rfl 3 rfl ?_
  refine j_iconst (v := 1) hC dL_law_618 (by decide) ?_
  refine j_iadd hC dL_law_619 ?_
  refine j_sld hC hX hin.2.1 dL_law_620 ?_
  refine j_comm ?_
  refine j_callVf_i (w1 := wM am cy m) (As := [.int (xs (i + 1).toNatClampNeg)]) (rest := [.int r]) [0, 1, 2] rfl hC (cM_mend hv) 1 gL_law_X12_mend rfl rfl rfl ⟨Nat.le_of_ble_eq_true rfl, Nat.le_of_ble_eq_true rfl⟩ hdM_mend rfl (wM_c0 am cy m) rfl rfl (Nat.le_of_ble_eq_true rfl) ⟨by show cs + 0 + 0 ≤ 600000; omega, by show sl + 0 + 0 ≤ 7302250; omega⟩ dL_law_621 (fun r2 u2 hv2 => ?_)
  refine j_comm ?_
  refine j_icmp_eq (tgt := 1036) hC dL_law_624 (by decide) (fun _ => ?_) (fun q => absurd hv2.1 q)
  exact j_widen (by omega) (by omega) (kk ad u u2 rfl hv2.2)
set_option maxHeartbeats 4000000 in
set_option maxRecDepth 100000 in
theorem law_time {Γ : jG} {l : Launch} {D : va_G} {cy : Nat → ClassId} {ad am : Nat → Nat} {g : GS} {m : GM} {b L cs sl : Nat} {xs : Nat → Int32} {i : Int32} (hC : jC Γ l room_1 D 4 RL cL_law wsL_law (tyA cy)) (hX : lX Γ b L xs) (hin : lIn i L) (hcs : cs + 1 ≤ 600000) (hsl : sl + 3 ≤ 7302250) (h : R g m) (kk : ∀ (ad2 : Nat → Nat) (g2 : GS) (m2 : GM), ad2 0 = ad 0 → R g2 m2 → J Γ D 4 (cs + 1) (sl + 3) (wS ad2 cy g2 ++ wM am cy m2) 1036 [(0, .ref b), (1, .ref (ad 0)), (2, .ref (am 0)), (3, .int i)] []) : J Γ D 4 cs sl (wS ad cy g ++ wM am cy m) 629 [(0, .ref b), (1, .ref (ad 0)), (2, .ref (am 0)), (3, .int i)] [] := by
  refine j_aload_n (i := 1) hC dL_law_629 rfl 1 rfl ?_
  refine j_aload_n (i := 0) hC dL_law_630 rfl 0 rfl ?_
  refine j_iload_n (i := 3) hC dL_law_631 rfl 3 rfl ?_
  refine j_iconst (v := 1) hC dL_law_632 (by decide) ?_
  refine j_iadd hC dL_law_633 ?_
  refine j_sld hC hX hin.2.1 dL_law_634 ?_
  refine j_aload_n (i := 0) hC dL_law_635 rfl 0 rfl ?_
  refine j_iload_n (i := 3) hC dL_law_636 rfl 3 rfl ?_
  refine j_iconst (v := 2) hC dL_law_637 (by decide) ?_
  refine j_iadd hC dL_law_638 ?_
  refine j_sld hC hX hin.2.2.1 dL_law_639 ?_
  refine j_callVf_i (w1 := wS ad cy g) (fr := wM am cy m) (As := [.int (xs (i + 1).toNatClampNeg), .int (xs (i + 2).toNatClampNeg)]) (rest := []) [0, 1, 3, 4, 5] rfl hC (cSG_time (sim_time h _ _)) 2 gL_law_X11_time rfl rfl rfl ⟨Nat.le_of_ble_eq_true rfl, Nat.le_of_ble_eq_true rfl⟩ hdSG_time rfl (wS_c0 ad cy g) rfl rfl (Nat.le_of_ble_eq_true rfl) ⟨by show cs + 0 ≤ 600000; omega, by show sl + 0 ≤ 7302250; omega⟩ dL_law_640 (fun r u hv => ?_)
  refine j_aload_n (i := 2) hC dL_law_643 rfl 2 rfl ?_
  refine j_aload_n (i := 0) hC dL_law_644 rfl 0 rfl ?_
  refine j_iload_n (i := 3) hC dL_law_645 rfl 3 rfl ?_
  refine j_iconst (v := 1) hC dL_law_646 (by decide) ?_
  refine j_iadd hC dL_law_647 ?_
  refine j_sld hC hX hin.2.1 dL_law_648 ?_
  refine j_aload_n (i := 0) hC dL_law_649 rfl 0 rfl ?_
  refine j_iload_n (i := 3) hC dL_law_650 rfl 3 rfl ?_
  refine j_iconst (v := 2) hC dL_law_651 (by decide) ?_
  refine j_iadd hC dL_law_652 ?_
  refine j_sld hC hX hin.2.2.1 dL_law_653 ?_
  refine j_comm ?_
  refine j_callVf_i (w1 := wM am cy m) (As := [.int (xs (i + 1).toNatClampNeg), .int (xs (i + 2).toNatClampNeg)]) (rest := [.int r]) [0, 1, 2] rfl hC (cM_time hv) 2 gL_law_X12_time rfl rfl rfl ⟨Nat.le_of_ble_eq_true rfl, Nat.le_of_ble_eq_true rfl⟩ hdM_time rfl (wM_c0 am cy m) rfl rfl (Nat.le_of_ble_eq_true rfl) ⟨by show cs + 0 + 0 ≤ 600000; omega, by show sl + 0 + 0 ≤ 7302250; omega⟩ dL_law_654 (fun r2 u2 hv2 => ?_)
  refine j_comm ?_
  refine j_icmp_eq (tgt := 1036) hC dL_law_657 (by decide) (fun _ => ?_) (fun q => absurd hv2.1 q)
  exact j_widen (by omega) (by omega) (kk ad u u2 rfl hv2.2)
set_option maxHeartbeats 4000000 in
set_option maxRecDepth 100000 in
theorem law_ship {Γ : jG} {l : Launch} {D : va_G} {cy : Nat → ClassId} {ad am : Nat → Nat} {g : GS} {m : GM} {b L cs sl : Nat} {xs : Nat → Int32} {i : Int32} (hC : jC Γ l room_1 D 4 RL cL_law wsL_law (tyA cy)) (hX : lX Γ b L xs) (hin : lIn i L) (hcs : cs + 1 ≤ 600000) (hsl : sl + 3 ≤ 7302250) (h : R g m) (kk : ∀ (ad2 : Nat → Nat) (g2 : GS) (m2 : GM), ad2 0 = ad 0 → R g2 m2 → J Γ D 4 (cs + 1) (sl + 3) (wS ad2 cy g2 ++ wM am cy m2) 1036 [(0, .ref b), (1, .ref (ad 0)), (2, .ref (am 0)), (3, .int i)] []) : J Γ D 4 cs sl (wS ad cy g ++ wM am cy m) 662 [(0, .ref b), (1, .ref (ad 0)), (2, .ref (am 0)), (3, .int i)] [] := by
  refine j_aload_n (i := 1) hC dL_law_662 rfl 1 rfl ?_
  refine j_aload_n (i := 0) hC dL_law_663 rfl 0 rfl ?_
  refine j_iload_n (i := 3) hC dL_law_664 rfl 3 rfl ?_
  refine j_iconst (v := 1) hC dL_law_665 (by decide) ?_
  refine j_iadd hC dL_law_666 ?_
  refine j_sld hC hX hin.2.1 dL_law_667 ?_
  refine j_aload_n (i := 0) hC dL_law_668 rfl 0 rfl ?_
  refine j_iload_n (i := 3) hC dL_law_669 rfl 3 rfl ?_
  refine j_iconst (v := 2) hC dL_law_670 (by decide) ?_
  refine j_iadd hC dL_law_671 ?_
  refine j_sld hC hX hin.2.2.1 dL_law_672 ?_
  refine j_callVf_i (w1 := wS ad cy g) (fr := wM am cy m) (As := [.int (xs (i + 1).toNatClampNeg), .int (xs (i + 2).toNatClampNeg)]) (rest := []) [0, 1, 3, 4, 5] rfl hC (cSG_ship (sim_ship h _ _)) 2 gL_law_X11_ship rfl rfl rfl ⟨Nat.le_of_ble_eq_true rfl, Nat.le_of_ble_eq_true rfl⟩ hdSG_ship rfl (wS_c0 ad cy g) rfl rfl (Nat.le_of_ble_eq_true rfl) ⟨by show cs + 0 ≤ 600000; omega, by show sl + 0 ≤ 7302250; omega⟩ dL_law_673 (fun r u hv => ?_)
  refine j_aload_n (i := 2) hC dL_law_676 rfl 2 rfl ?_
  refine j_aload_n (i := 0) hC dL_law_677 rfl 0 rfl ?_
  refine j_iload_n (i := 3) hC dL_law_678 rfl 3 rfl ?_
  refine j_iconst (v := 1) hC dL_law_679 (by decide) ?_
  refine j_iadd hC dL_law_680 ?_
  refine j_sld hC hX hin.2.1 dL_law_681 ?_
  refine j_aload_n (i := 0) hC dL_law_682 rfl 0 rfl ?_
  refine j_iload_n (i := 3) hC dL_law_683 rfl 3 rfl ?_
  refine j_iconst (v := 2) hC dL_law_684 (by decide) ?_
  refine j_iadd hC dL_law_685 ?_
  refine j_sld hC hX hin.2.2.1 dL_law_686 ?_
  refine j_comm ?_
  refine j_callVf_i (w1 := wM am cy m) (As := [.int (xs (i + 1).toNatClampNeg), .int (xs (i + 2).toNatClampNeg)]) (rest := [.int r]) [0, 1, 2] rfl hC (cM_ship hv) 2 gL_law_X12_ship rfl rfl rfl ⟨Nat.le_of_ble_eq_true rfl, Nat.le_of_ble_eq_true rfl⟩ hdM_ship rfl (wM_c0 am cy m) rfl rfl (Nat.le_of_ble_eq_true rfl) ⟨by show cs + 0 + 0 ≤ 600000; omega, by show sl + 0 + 0 ≤ 7302250; omega⟩ dL_law_687 (fun r2 u2 hv2 => ?_)
  refine j_comm ?_
  refine j_icmp_eq (tgt := 1036) hC dL_law_690 (by decide) (fun _ => ?_) (fun q => absurd hv2.1 q)
  exact j_widen (by omega) (by omega) (kk ad u u2 rfl hv2.2)
set_option maxHeartbeats 4000000 in
set_option maxRecDepth 100000 in
theorem law_waits {Γ : jG} {l : Launch} {D : va_G} {cy : Nat → ClassId} {ad am : Nat → Nat} {g : GS} {m : GM} {b L cs sl : Nat} {xs : Nat → Int32} {i : Int32} (hC : jC Γ l room_1 D 4 RL cL_law wsL_law (tyA cy)) (hX : lX Γ b L xs) (hin : lIn i L) (hcs : cs + 1 ≤ 600000) (hsl : sl + 3 ≤ 7302250) (h : R g m) (kk : ∀ (ad2 : Nat → Nat) (g2 : GS) (m2 : GM), ad2 0 = ad 0 → R g2 m2 → J Γ D 4 (cs + 1) (sl + 3) (wS ad2 cy g2 ++ wM am cy m2) 1036 [(0, .ref b), (1, .ref (ad 0)), (2, .ref (am 0)), (3, .int i)] []) : J Γ D 4 cs sl (wS ad cy g ++ wM am cy m) 695 [(0, .ref b), (1, .ref (ad 0)), (2, .ref (am 0)), (3, .int i)] [] := by
  refine j_aload_n (i := 1) hC dL_law_695 rfl 1 rfl ?_
  refine j_aload_n (i := 0) hC dL_law_696 rfl 0 rfl ?_
  refine j_iload_n (i := 3) hC dL_law_697 rfl 3 rfl ?_
  refine j_iconst (v := 1) hC dL_law_698 (by decide) ?_
  refine j_iadd hC dL_law_699 ?_
  refine j_sld hC hX hin.2.1 dL_law_700 ?_
  refine j_aload_n (i := 0) hC dL_law_701 rfl 0 rfl ?_
  refine j_iload_n (i := 3) hC dL_law_702 rfl 3 rfl ?_
  refine j_iconst (v := 2) hC dL_law_703 (by decide) ?_
  refine j_iadd hC dL_law_704 ?_
  refine j_sld hC hX hin.2.2.1 dL_law_705 ?_
  refine j_aload_n (i := 0) hC dL_law_706 rfl 0 rfl ?_
  refine j_iload_n (i := 3) hC dL_law_707 rfl 3 rfl ?_
  refine j_iconst (v := 3) hC dL_law_708 (by decide) ?_
  refine j_iadd hC dL_law_709 ?_
  refine j_sld hC hX hin.2.2.2.1 dL_law_710 ?_
  refine j_callVf_i (w1 := wS ad cy g) (fr := wM am cy m) (As := [.int (xs (i + 1).toNatClampNeg), .int (xs (i + 2).toNatClampNeg), .int (xs (i + 3).toNatClampNeg)]) (rest := []) [0, 1, 3, 4, 5] rfl hC (cSG_waits (sim_waits h _ _ _)) 3 gL_law_X11_waits rfl rfl rfl ⟨Nat.le_of_ble_eq_true rfl, Nat.le_of_ble_eq_true rfl⟩ hdSG_waits rfl (wS_c0 ad cy g) rfl rfl (Nat.le_of_ble_eq_true rfl) ⟨by show cs + 0 ≤ 600000; omega, by show sl + 0 ≤ 7302250; omega⟩ dL_law_711 (fun r u hv => ?_)
  refine j_aload_n (i := 2) hC dL_law_714 rfl 2 rfl ?_
  refine j_aload_n (i := 0) hC dL_law_715 rfl 0 rfl ?_
  refine j_iload_n (i := 3) hC dL_law_716 rfl 3 rfl ?_
  refine j_iconst (v := 1) hC dL_law_717 (by decide) ?_
  refine j_iadd hC dL_law_718 ?_
  refine j_sld hC hX hin.2.1 dL_law_719 ?_
  refine j_aload_n (i := 0) hC dL_law_720 rfl 0 rfl ?_
  refine j_iload_n (i := 3) hC dL_law_721 rfl 3 rfl ?_
  refine j_iconst (v := 2) hC dL_law_722 (by decide) ?_
  refine j_iadd hC dL_law_723 ?_
  refine j_sld hC hX hin.2.2.1 dL_law_724 ?_
  refine j_aload_n (i := 0) hC dL_law_725 rfl 0 rfl ?_
  refine j_iload_n (i := 3) hC dL_law_726 rfl 3 rfl ?_
  refine j_iconst (v := 3) hC dL_law_727 (by decide) ?_
  refine j_iadd hC dL_law_728 ?_
  refine j_sld hC hX hin.2.2.2.1 dL_law_729 ?_
  refine j_comm ?_
  refine j_callVf_i (w1 := wM am cy m) (As := [.int (xs (i + 1).toNatClampNeg), .int (xs (i + 2).toNatClampNeg), .int (xs (i + 3).toNatClampNeg)]) (rest := [.int r]) [0, 1, 2] rfl hC (cM_waits hv) 3 gL_law_X12_waits rfl rfl rfl ⟨Nat.le_of_ble_eq_true rfl, Nat.le_of_ble_eq_true rfl⟩ hdM_waits rfl (wM_c0 am cy m) rfl rfl (Nat.le_of_ble_eq_true rfl) ⟨by show cs + 0 + 0 ≤ 600000; omega, by show sl + 0 + 0 ≤ 7302250; omega⟩ dL_law_730 (fun r2 u2 hv2 => ?_)
  refine j_comm ?_
  refine j_icmp_eq (tgt := 1036) hC dL_law_733 (by decide) (fun _ => ?_) (fun q => absurd hv2.1 q)
  exact j_widen (by omega) (by omega) (kk ad u u2 rfl hv2.2)
set_option maxHeartbeats 4000000 in
set_option maxRecDepth 100000 in
theorem law_closings {Γ : jG} {l : Launch} {D : va_G} {cy : Nat → ClassId} {ad am : Nat → Nat} {g : GS} {m : GM} {b L cs sl : Nat} {xs : Nat → Int32} {i : Int32} (hC : jC Γ l room_1 D 4 RL cL_law wsL_law (tyA cy)) (hX : lX Γ b L xs) (hin : lIn i L) (hcs : cs + 1 ≤ 600000) (hsl : sl + 3 ≤ 7302250) (h : R g m) (kk : ∀ (ad2 : Nat → Nat) (g2 : GS) (m2 : GM), ad2 0 = ad 0 → R g2 m2 → J Γ D 4 (cs + 1) (sl + 3) (wS ad2 cy g2 ++ wM am cy m2) 1036 [(0, .ref b), (1, .ref (ad 0)), (2, .ref (am 0)), (3, .int i)] []) : J Γ D 4 cs sl (wS ad cy g ++ wM am cy m) 738 [(0, .ref b), (1, .ref (ad 0)), (2, .ref (am 0)), (3, .int i)] [] := by
  refine j_aload_n (i := 1) hC dL_law_738 rfl 1 rfl ?_
  refine j_aload_n (i := 0) hC dL_law_739 rfl 0 rfl ?_
  refine j_iload_n (i := 3) hC dL_law_740 rfl 3 rfl ?_
  refine j_iconst (v := 1) hC dL_law_741 (by decide) ?_
  refine j_iadd hC dL_law_742 ?_
  refine j_sld hC hX hin.2.1 dL_law_743 ?_
  refine j_aload_n (i := 0) hC dL_law_744 rfl 0 rfl ?_
  refine j_iload_n (i := 3) hC dL_law_745 rfl 3 rfl ?_
  refine j_iconst (v := 2) hC dL_law_746 (by decide) ?_
  refine j_iadd hC dL_law_747 ?_
  refine j_sld hC hX hin.2.2.1 dL_law_748 ?_
  refine j_aload_n (i := 0) hC dL_law_749 rfl 0 rfl ?_
  refine j_iload_n (i := 3) hC dL_law_750 rfl 3 rfl ?_
  refine j_iconst (v := 3) hC dL_law_751 (by decide) ?_
  refine j_iadd hC dL_law_752 ?_
  refine j_sld hC hX hin.2.2.2.1 dL_law_753 ?_
  refine j_aload_n (i := 0) hC dL_law_754 rfl 0 rfl ?_
  refine j_iload_n (i := 3) hC dL_law_755 rfl 3 rfl ?_
  refine j_iconst (v := 4) hC dL_law_756 (by decide) ?_
  refine j_iadd hC dL_law_757 ?_
  refine j_sld hC hX hin.2.2.2.2.1 dL_law_758 ?_
  refine j_aload_n (i := 0) hC dL_law_759 rfl 0 rfl ?_
  refine j_iload_n (i := 3) hC dL_law_760 rfl 3 rfl ?_
  refine j_iconst (v := 5) hC dL_law_761 (by decide) ?_
  refine j_iadd hC dL_law_762 ?_
  refine j_sld hC hX hin.2.2.2.2.2.1 dL_law_763 ?_
  refine j_aload_n (i := 0) hC dL_law_764 rfl 0 rfl ?_
  refine j_iload_n (i := 3) hC dL_law_765 rfl 3 rfl ?_
  refine j_bipush (v := 6) hC dL_law_766 (by decide) ?_
  refine j_iadd hC dL_law_768 ?_
  refine j_sld hC hX hin.2.2.2.2.2.2 dL_law_769 ?_
  refine j_callVf_i (w1 := wS ad cy g) (fr := wM am cy m) (As := [.int (xs (i + 1).toNatClampNeg), .int (xs (i + 2).toNatClampNeg), .int (xs (i + 3).toNatClampNeg), .int (xs (i + 4).toNatClampNeg), .int (xs (i + 5).toNatClampNeg), .int (xs (i + 6).toNatClampNeg)]) (rest := []) [0, 1, 3, 4, 5] rfl hC (cSG_closings (sim_closings h _ _ _ _ _ _)) 6 gL_law_X11_closings rfl rfl rfl ⟨Nat.le_of_ble_eq_true rfl, Nat.le_of_ble_eq_true rfl⟩ hdSG_closings rfl (wS_c0 ad cy g) rfl rfl (Nat.le_of_ble_eq_true rfl) ⟨by show cs + 0 ≤ 600000; omega, by show sl + 0 ≤ 7302250; omega⟩ dL_law_770 (fun r u hv => ?_)
  refine j_aload_n (i := 2) hC dL_law_773 rfl 2 rfl ?_
  refine j_aload_n (i := 0) hC dL_law_774 rfl 0 rfl ?_
  refine j_iload_n (i := 3) hC dL_law_775 rfl 3 rfl ?_
  refine j_iconst (v := 1) hC dL_law_776 (by decide) ?_
  refine j_iadd hC dL_law_777 ?_
  refine j_sld hC hX hin.2.1 dL_law_778 ?_
  refine j_aload_n (i := 0) hC dL_law_779 rfl 0 rfl ?_
  refine j_iload_n (i := 3) hC dL_law_780 rfl 3 rfl ?_
  refine j_iconst (v := 2) hC dL_law_781 (by decide) ?_
  refine j_iadd hC dL_law_782 ?_
  refine j_sld hC hX hin.2.2.1 dL_law_783 ?_
  refine j_aload_n (i := 0) hC dL_law_784 rfl 0 rfl ?_
  refine j_iload_n (i := 3) hC dL_law_785 rfl 3 rfl ?_
  refine j_iconst (v := 3) hC dL_law_786 (by decide) ?_
  refine j_iadd hC dL_law_787 ?_
  refine j_sld hC hX hin.2.2.2.1 dL_law_788 ?_
  refine j_aload_n (i := 0) hC dL_law_789 rfl 0 rfl ?_
  refine j_iload_n (i := 3) hC dL_law_790 rfl 3 rfl ?_
  refine j_iconst (v := 4) hC dL_law_791 (by decide) ?_
  refine j_iadd hC dL_law_792 ?_
  refine j_sld hC hX hin.2.2.2.2.1 dL_law_793 ?_
  refine j_aload_n (i := 0) hC dL_law_794 rfl 0 rfl ?_
  refine j_iload_n (i := 3) hC dL_law_795 rfl 3 rfl ?_
  refine j_iconst (v := 5) hC dL_law_796 (by decide) ?_
  refine j_iadd hC dL_law_797 ?_
  refine j_sld hC hX hin.2.2.2.2.2.1 dL_law_798 ?_
  refine j_aload_n (i := 0) hC dL_law_799 rfl 0 rfl ?_
  refine j_iload_n (i := 3) hC dL_law_800 rfl 3 rfl ?_
  refine j_bipush (v := 6) hC dL_law_801 (by decide) ?_
  refine j_iadd hC dL_law_803 ?_
  refine j_sld hC hX hin.2.2.2.2.2.2 dL_law_804 ?_
  refine j_comm ?_
  refine j_callVf_i (w1 := wM am cy m) (As := [.int (xs (i + 1).toNatClampNeg), .int (xs (i + 2).toNatClampNeg), .int (xs (i + 3).toNatClampNeg), .int (xs (i + 4).toNatClampNeg), .int (xs (i + 5).toNatClampNeg), .int (xs (i + 6).toNatClampNeg)]) (rest := [.int r]) [0, 1, 2] rfl hC (cM_closings hv) 6 gL_law_X12_closings rfl rfl rfl ⟨Nat.le_of_ble_eq_true rfl, Nat.le_of_ble_eq_true rfl⟩ hdM_closings rfl (wM_c0 am cy m) rfl rfl (Nat.le_of_ble_eq_true rfl) ⟨by show cs + 0 + 0 ≤ 600000; omega, by show sl + 0 + 0 ≤ 7302250; omega⟩ dL_law_805 (fun r2 u2 hv2 => ?_)
  refine j_comm ?_
  refine j_icmp_eq (tgt := 1036) hC dL_law_808 (by decide) (fun _ => ?_) (fun q => absurd hv2.1 q)
  exact j_widen (by omega) (by omega) (kk ad u u2 rfl hv2.2)
set_option maxHeartbeats 4000000 in
set_option maxRecDepth 100000 in
theorem law_tooMany {Γ : jG} {l : Launch} {D : va_G} {cy : Nat → ClassId} {ad am : Nat → Nat} {g : GS} {m : GM} {b L cs sl : Nat} {xs : Nat → Int32} {i : Int32} (hC : jC Γ l room_1 D 4 RL cL_law wsL_law (tyA cy)) (hX : lX Γ b L xs) (hin : lIn i L) (hcs : cs + 1 ≤ 600000) (hsl : sl + 3 ≤ 7302250) (h : R g m) (kk : ∀ (ad2 : Nat → Nat) (g2 : GS) (m2 : GM), ad2 0 = ad 0 → R g2 m2 → J Γ D 4 (cs + 1) (sl + 3) (wS ad2 cy g2 ++ wM am cy m2) 1036 [(0, .ref b), (1, .ref (ad 0)), (2, .ref (am 0)), (3, .int i)] []) : J Γ D 4 cs sl (wS ad cy g ++ wM am cy m) 813 [(0, .ref b), (1, .ref (ad 0)), (2, .ref (am 0)), (3, .int i)] [] := by
  refine j_aload_n (i := 1) hC dL_law_813 rfl 1 rfl ?_
  refine j_aload_n (i := 0) hC dL_law_814 rfl 0 rfl ?_
  refine j_iload_n (i := 3) hC dL_law_815 rfl 3 rfl ?_
  refine j_iconst (v := 1) hC dL_law_816 (by decide) ?_
  refine j_iadd hC dL_law_817 ?_
  refine j_sld hC hX hin.2.1 dL_law_818 ?_
  refine j_aload_n (i := 0) hC dL_law_819 rfl 0 rfl ?_
  refine j_iload_n (i := 3) hC dL_law_820 rfl 3 rfl ?_
  refine j_iconst (v := 2) hC dL_law_821 (by decide) ?_
  refine j_iadd hC dL_law_822 ?_
  refine j_sld hC hX hin.2.2.1 dL_law_823 ?_
  refine j_aload_n (i := 0) hC dL_law_824 rfl 0 rfl ?_
  refine j_iload_n (i := 3) hC dL_law_825 rfl 3 rfl ?_
  refine j_iconst (v := 3) hC dL_law_826 (by decide) ?_
  refine j_iadd hC dL_law_827 ?_
  refine j_sld hC hX hin.2.2.2.1 dL_law_828 ?_
  refine j_aload_n (i := 0) hC dL_law_829 rfl 0 rfl ?_
  refine j_iload_n (i := 3) hC dL_law_830 rfl 3 rfl ?_
  refine j_iconst (v := 4) hC dL_law_831 (by decide) ?_
  refine j_iadd hC dL_law_832 ?_
  refine j_sld hC hX hin.2.2.2.2.1 dL_law_833 ?_
  refine j_aload_n (i := 0) hC dL_law_834 rfl 0 rfl ?_
  refine j_iload_n (i := 3) hC dL_law_835 rfl 3 rfl ?_
  refine j_iconst (v := 5) hC dL_law_836 (by decide) ?_
  refine j_iadd hC dL_law_837 ?_
  refine j_sld hC hX hin.2.2.2.2.2.1 dL_law_838 ?_
  refine j_aload_n (i := 0) hC dL_law_839 rfl 0 rfl ?_
  refine j_iload_n (i := 3) hC dL_law_840 rfl 3 rfl ?_
  refine j_bipush (v := 6) hC dL_law_841 (by decide) ?_
  refine j_iadd hC dL_law_843 ?_
  refine j_sld hC hX hin.2.2.2.2.2.2 dL_law_844 ?_
  refine j_callVf_i (w1 := wS ad cy g) (fr := wM am cy m) (As := [.int (xs (i + 1).toNatClampNeg), .int (xs (i + 2).toNatClampNeg), .int (xs (i + 3).toNatClampNeg), .int (xs (i + 4).toNatClampNeg), .int (xs (i + 5).toNatClampNeg), .int (xs (i + 6).toNatClampNeg)]) (rest := []) [0, 1, 3, 4, 5] rfl hC (cSG_tooMany (sim_tooMany h _ _ _ _ _ _)) 6 gL_law_X11_tooMany rfl rfl rfl ⟨Nat.le_of_ble_eq_true rfl, Nat.le_of_ble_eq_true rfl⟩ hdSG_tooMany rfl (wS_c0 ad cy g) rfl rfl (Nat.le_of_ble_eq_true rfl) ⟨by show cs + 0 ≤ 600000; omega, by show sl + 0 ≤ 7302250; omega⟩ dL_law_845 (fun r u hv => ?_)
  refine j_aload_n (i := 2) hC dL_law_848 rfl 2 rfl ?_
  refine j_aload_n (i := 0) hC dL_law_849 rfl 0 rfl ?_
  refine j_iload_n (i := 3) hC dL_law_850 rfl 3 rfl ?_
  refine j_iconst (v := 1) hC dL_law_851 (by decide) ?_
  refine j_iadd hC dL_law_852 ?_
  refine j_sld hC hX hin.2.1 dL_law_853 ?_
  refine j_aload_n (i := 0) hC dL_law_854 rfl 0 rfl ?_
  refine j_iload_n (i := 3) hC dL_law_855 rfl 3 rfl ?_
  refine j_iconst (v := 2) hC dL_law_856 (by decide) ?_
  refine j_iadd hC dL_law_857 ?_
  refine j_sld hC hX hin.2.2.1 dL_law_858 ?_
  refine j_aload_n (i := 0) hC dL_law_859 rfl 0 rfl ?_
  refine j_iload_n (i := 3) hC dL_law_860 rfl 3 rfl ?_
  refine j_iconst (v := 3) hC dL_law_861 (by decide) ?_
  refine j_iadd hC dL_law_862 ?_
  refine j_sld hC hX hin.2.2.2.1 dL_law_863 ?_
  refine j_aload_n (i := 0) hC dL_law_864 rfl 0 rfl ?_
  refine j_iload_n (i := 3) hC dL_law_865 rfl 3 rfl ?_
  refine j_iconst (v := 4) hC dL_law_866 (by decide) ?_
  refine j_iadd hC dL_law_867 ?_
  refine j_sld hC hX hin.2.2.2.2.1 dL_law_868 ?_
  refine j_aload_n (i := 0) hC dL_law_869 rfl 0 rfl ?_
  refine j_iload_n (i := 3) hC dL_law_870 rfl 3 rfl ?_
  refine j_iconst (v := 5) hC dL_law_871 (by decide) ?_
  refine j_iadd hC dL_law_872 ?_
  refine j_sld hC hX hin.2.2.2.2.2.1 dL_law_873 ?_
  refine j_aload_n (i := 0) hC dL_law_874 rfl 0 rfl ?_
  refine j_iload_n (i := 3) hC dL_law_875 rfl 3 rfl ?_
  refine j_bipush (v := 6) hC dL_law_876 (by decide) ?_
  refine j_iadd hC dL_law_878 ?_
  refine j_sld hC hX hin.2.2.2.2.2.2 dL_law_879 ?_
  refine j_comm ?_
  refine j_callVf_i (w1 := wM am cy m) (As := [.int (xs (i + 1).toNatClampNeg), .int (xs (i + 2).toNatClampNeg), .int (xs (i + 3).toNatClampNeg), .int (xs (i + 4).toNatClampNeg), .int (xs (i + 5).toNatClampNeg), .int (xs (i + 6).toNatClampNeg)]) (rest := [.int r]) [0, 1, 2] rfl hC (cM_tooMany hv) 6 gL_law_X12_tooMany rfl rfl rfl ⟨Nat.le_of_ble_eq_true rfl, Nat.le_of_ble_eq_true rfl⟩ hdM_tooMany rfl (wM_c0 am cy m) rfl rfl (Nat.le_of_ble_eq_true rfl) ⟨by show cs + 0 + 0 ≤ 600000; omega, by show sl + 0 + 0 ≤ 7302250; omega⟩ dL_law_880 (fun r2 u2 hv2 => ?_)
  refine j_comm ?_
  refine j_icmp_eq (tgt := 1036) hC dL_law_883 (by decide) (fun _ => ?_) (fun q => absurd hv2.1 q)
  exact j_widen (by omega) (by omega) (kk ad u u2 rfl hv2.2)
