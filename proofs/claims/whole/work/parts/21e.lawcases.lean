set_option maxHeartbeats 4000000 in
set_option maxRecDepth 100000 in
theorem law_kind {Γ : jG} {l : Launch} {D : va_G} {cy : Nat → ClassId} {ad am : Nat → Nat} {g : GS} {m : GM} {b L cs sl : Nat} {xs : Nat → Int32} {i : Int32} (hC : jC Γ l room_1 D 4 RL cL_law wsL_law (tyA cy)) (hX : lX Γ b L xs) (hin : lIn i L) (hcs : cs + 1 ≤ 600000) (hsl : sl + 3 ≤ 7302250) (h : R g m) (kk : ∀ (ad2 : Nat → Nat) (g2 : GS) (m2 : GM), ad2 0 = ad 0 → R g2 m2 → J Γ D 4 (cs + 1) (sl + 3) (wS ad2 cy g2 ++ wM am cy m2) 1036 [(0, .ref b), (1, .ref (ad 0)), (2, .ref (am 0)), (3, .int i)] []) : J Γ D 4 cs sl (wS ad cy g ++ wM am cy m) 888 [(0, .ref b), (1, .ref (ad 0)), (2, .ref (am 0)), (3, .int i)] [] := by
  refine j_aload_n (i := 1) hC dL_law_888 rfl 1 rfl ?_
  refine j_aload_n (i := 0) hC dL_law_889 rfl 0 rfl ?_
  refine j_iload_n (i := 3) hC dL_law_890 rfl 3 rfl ?_
  refine j_iconst (v := 1) hC dL_law_891 (by decide) ?_
  refine j_iadd hC dL_law_892 ?_
  refine j_sld hC hX hin.2.1 dL_law_893 ?_
  refine j_callVf_i (w1 := wS ad cy g) (fr := wM am cy m) (As := [.int (xs (i + 1).toNatClampNeg)]) (rest := []) [0, 1, 3, 4, 5] rfl hC (cSG_kind (sim_kind h _)) 1 gL_law_X11_kind rfl rfl rfl ⟨Nat.le_of_ble_eq_true rfl, Nat.le_of_ble_eq_true rfl⟩ hdSG_kind rfl (wS_c0 ad cy g) rfl rfl (Nat.le_of_ble_eq_true rfl) ⟨by show cs + 0 ≤ 600000; omega, by show sl + 0 ≤ 7302250; omega⟩ dL_law_894 (fun r u hv => ?_)
  refine j_aload_n (i := 2) hC dL_law_897 rfl 2 rfl ?_
  refine j_aload_n (i := 0) hC dL_law_898 rfl 0 rfl ?_
  refine j_iload_n (i := 3) hC dL_law_899 rfl 3 rfl ?_
  refine j_iconst (v := 1) hC dL_law_900 (by decide) ?_
  refine j_iadd hC dL_law_901 ?_
  refine j_sld hC hX hin.2.1 dL_law_902 ?_
  refine j_comm ?_
  refine j_callVf_i (w1 := wM am cy m) (As := [.int (xs (i + 1).toNatClampNeg)]) (rest := [.int r]) [0, 1, 2] rfl hC (cM_kind hv) 1 gL_law_X12_kind rfl rfl rfl ⟨Nat.le_of_ble_eq_true rfl, Nat.le_of_ble_eq_true rfl⟩ hdM_kind rfl (wM_c0 am cy m) rfl rfl (Nat.le_of_ble_eq_true rfl) ⟨by show cs + 0 + 0 ≤ 600000; omega, by show sl + 0 + 0 ≤ 7302250; omega⟩ dL_law_903 (fun r2 u2 hv2 => ?_)
  refine j_comm ?_
  refine j_icmp_eq (tgt := 1036) hC dL_law_906 (by decide) (fun _ => ?_) (fun q => absurd hv2.1 q)
  exact j_widen (by omega) (by omega) (kk ad u u2 rfl hv2.2)
set_option maxHeartbeats 4000000 in
set_option maxRecDepth 100000 in
theorem law_as {Γ : jG} {l : Launch} {D : va_G} {cy : Nat → ClassId} {ad am : Nat → Nat} {g : GS} {m : GM} {b L cs sl : Nat} {xs : Nat → Int32} {i : Int32} (hC : jC Γ l room_1 D 4 RL cL_law wsL_law (tyA cy)) (hX : lX Γ b L xs) (hin : lIn i L) (hcs : cs + 1 ≤ 600000) (hsl : sl + 3 ≤ 7302250) (h : R g m) (kk : ∀ (ad2 : Nat → Nat) (g2 : GS) (m2 : GM), ad2 0 = ad 0 → R g2 m2 → J Γ D 4 (cs + 1) (sl + 3) (wS ad2 cy g2 ++ wM am cy m2) 1036 [(0, .ref b), (1, .ref (ad 0)), (2, .ref (am 0)), (3, .int i)] []) : J Γ D 4 cs sl (wS ad cy g ++ wM am cy m) 911 [(0, .ref b), (1, .ref (ad 0)), (2, .ref (am 0)), (3, .int i)] [] := by
  refine j_aload_n (i := 1) hC dL_law_911 rfl 1 rfl ?_
  refine j_aload_n (i := 0) hC dL_law_912 rfl 0 rfl ?_
  refine j_iload_n (i := 3) hC dL_law_913 rfl 3 rfl ?_
  refine j_iconst (v := 1) hC dL_law_914 (by decide) ?_
  refine j_iadd hC dL_law_915 ?_
  refine j_sld hC hX hin.2.1 dL_law_916 ?_
  refine j_aload_n (i := 0) hC dL_law_917 rfl 0 rfl ?_
  refine j_iload_n (i := 3) hC dL_law_918 rfl 3 rfl ?_
  refine j_iconst (v := 2) hC dL_law_919 (by decide) ?_
  refine j_iadd hC dL_law_920 ?_
  refine j_sld hC hX hin.2.2.1 dL_law_921 ?_
  refine j_callVf_i (w1 := wS ad cy g) (fr := wM am cy m) (As := [.int (xs (i + 1).toNatClampNeg), .int (xs (i + 2).toNatClampNeg)]) (rest := []) [0, 1, 3, 4, 5] rfl hC (cSG_as (sim_as h _ _)) 2 gL_law_X11_as rfl rfl rfl ⟨Nat.le_of_ble_eq_true rfl, Nat.le_of_ble_eq_true rfl⟩ hdSG_as rfl (wS_c0 ad cy g) rfl rfl (Nat.le_of_ble_eq_true rfl) ⟨by show cs + 0 ≤ 600000; omega, by show sl + 0 ≤ 7302250; omega⟩ dL_law_922 (fun r u hv => ?_)
  refine j_aload_n (i := 2) hC dL_law_925 rfl 2 rfl ?_
  refine j_aload_n (i := 0) hC dL_law_926 rfl 0 rfl ?_
  refine j_iload_n (i := 3) hC dL_law_927 rfl 3 rfl ?_
  refine j_iconst (v := 1) hC dL_law_928 (by decide) ?_
  refine j_iadd hC dL_law_929 ?_
  refine j_sld hC hX hin.2.1 dL_law_930 ?_
  refine j_aload_n (i := 0) hC dL_law_931 rfl 0 rfl ?_
  refine j_iload_n (i := 3) hC dL_law_932 rfl 3 rfl ?_
  refine j_iconst (v := 2) hC dL_law_933 (by decide) ?_
  refine j_iadd hC dL_law_934 ?_
  refine j_sld hC hX hin.2.2.1 dL_law_935 ?_
  refine j_comm ?_
  refine j_callVf_i (w1 := wM am cy m) (As := [.int (xs (i + 1).toNatClampNeg), .int (xs (i + 2).toNatClampNeg)]) (rest := [.int r]) [0, 1, 2] rfl hC (cM_as hv) 2 gL_law_X12_as rfl rfl rfl ⟨Nat.le_of_ble_eq_true rfl, Nat.le_of_ble_eq_true rfl⟩ hdM_as rfl (wM_c0 am cy m) rfl rfl (Nat.le_of_ble_eq_true rfl) ⟨by show cs + 0 + 0 ≤ 600000; omega, by show sl + 0 + 0 ≤ 7302250; omega⟩ dL_law_936 (fun r2 u2 hv2 => ?_)
  refine j_comm ?_
  refine j_icmp_eq (tgt := 1036) hC dL_law_939 (by decide) (fun _ => ?_) (fun q => absurd hv2.1 q)
  exact j_widen (by omega) (by omega) (kk ad u u2 rfl hv2.2)
set_option maxHeartbeats 4000000 in
set_option maxRecDepth 100000 in
theorem law_ask {Γ : jG} {l : Launch} {D : va_G} {cy : Nat → ClassId} {ad am : Nat → Nat} {g : GS} {m : GM} {b L cs sl : Nat} {xs : Nat → Int32} {i : Int32} (hC : jC Γ l room_1 D 4 RL cL_law wsL_law (tyA cy)) (hX : lX Γ b L xs) (hin : lIn i L) (hcs : cs + 1 ≤ 600000) (hsl : sl + 3 ≤ 7302250) (h : R g m) (kk : ∀ (ad2 : Nat → Nat) (g2 : GS) (m2 : GM), ad2 0 = ad 0 → R g2 m2 → J Γ D 4 (cs + 1) (sl + 3) (wS ad2 cy g2 ++ wM am cy m2) 1036 [(0, .ref b), (1, .ref (ad 0)), (2, .ref (am 0)), (3, .int i)] []) : J Γ D 4 cs sl (wS ad cy g ++ wM am cy m) 944 [(0, .ref b), (1, .ref (ad 0)), (2, .ref (am 0)), (3, .int i)] [] := by
  refine j_aload_n (i := 1) hC dL_law_944 rfl 1 rfl ?_
  refine j_aload_n (i := 0) hC dL_law_945 rfl 0 rfl ?_
  refine j_iload_n (i := 3) hC dL_law_946 rfl 3 rfl ?_
  refine j_iconst (v := 1) hC dL_law_947 (by decide) ?_
  refine j_iadd hC dL_law_948 ?_
  refine j_sld hC hX hin.2.1 dL_law_949 ?_
  refine j_aload_n (i := 0) hC dL_law_950 rfl 0 rfl ?_
  refine j_iload_n (i := 3) hC dL_law_951 rfl 3 rfl ?_
  refine j_iconst (v := 2) hC dL_law_952 (by decide) ?_
  refine j_iadd hC dL_law_953 ?_
  refine j_sld hC hX hin.2.2.1 dL_law_954 ?_
  refine j_callVf_i (w1 := wS ad cy g) (fr := wM am cy m) (As := [.int (xs (i + 1).toNatClampNeg), .int (xs (i + 2).toNatClampNeg)]) (rest := []) [0, 1, 3, 4, 5] rfl hC (cSG_ask (sim_ask h _ _)) 2 gL_law_X11_ask rfl rfl rfl ⟨Nat.le_of_ble_eq_true rfl, Nat.le_of_ble_eq_true rfl⟩ hdSG_ask rfl (wS_c0 ad cy g) rfl rfl (Nat.le_of_ble_eq_true rfl) ⟨by show cs + 0 ≤ 600000; omega, by show sl + 0 ≤ 7302250; omega⟩ dL_law_955 (fun r u hv => ?_)
  refine j_aload_n (i := 2) hC dL_law_958 rfl 2 rfl ?_
  refine j_aload_n (i := 0) hC dL_law_959 rfl 0 rfl ?_
  refine j_iload_n (i := 3) hC dL_law_960 rfl 3 rfl ?_
  refine j_iconst (v := 1) hC dL_law_961 (by decide) ?_
  refine j_iadd hC dL_law_962 ?_
  refine j_sld hC hX hin.2.1 dL_law_963 ?_
  refine j_aload_n (i := 0) hC dL_law_964 rfl 0 rfl ?_
  refine j_iload_n (i := 3) hC dL_law_965 rfl 3 rfl ?_
  refine j_iconst (v := 2) hC dL_law_966 (by decide) ?_
  refine j_iadd hC dL_law_967 ?_
  refine j_sld hC hX hin.2.2.1 dL_law_968 ?_
  refine j_comm ?_
  refine j_callVf_i (w1 := wM am cy m) (As := [.int (xs (i + 1).toNatClampNeg), .int (xs (i + 2).toNatClampNeg)]) (rest := [.int r]) [0, 1, 2] rfl hC (cM_ask hv) 2 gL_law_X12_ask rfl rfl rfl ⟨Nat.le_of_ble_eq_true rfl, Nat.le_of_ble_eq_true rfl⟩ hdM_ask rfl (wM_c0 am cy m) rfl rfl (Nat.le_of_ble_eq_true rfl) ⟨by show cs + 0 + 0 ≤ 600000; omega, by show sl + 0 + 0 ≤ 7302250; omega⟩ dL_law_969 (fun r2 u2 hv2 => ?_)
  refine j_comm ?_
  refine j_icmp_eq (tgt := 1036) hC dL_law_972 (by decide) (fun _ => ?_) (fun q => absurd hv2.1 q)
  exact j_widen (by omega) (by omega) (kk ad u u2 rfl hv2.2)
set_option maxHeartbeats 4000000 in
set_option maxRecDepth 100000 in
theorem law_trace {Γ : jG} {l : Launch} {D : va_G} {cy : Nat → ClassId} {ad am : Nat → Nat} {g : GS} {m : GM} {b L cs sl : Nat} {xs : Nat → Int32} {i : Int32} (hC : jC Γ l room_1 D 4 RL cL_law wsL_law (tyA cy)) (hX : lX Γ b L xs) (hin : lIn i L) (hcs : cs + 1 ≤ 600000) (hsl : sl + 3 ≤ 7302250) (h : R g m) (kk : ∀ (ad2 : Nat → Nat) (g2 : GS) (m2 : GM), ad2 0 = ad 0 → R g2 m2 → J Γ D 4 (cs + 1) (sl + 3) (wS ad2 cy g2 ++ wM am cy m2) 1036 [(0, .ref b), (1, .ref (ad 0)), (2, .ref (am 0)), (3, .int i)] []) : J Γ D 4 cs sl (wS ad cy g ++ wM am cy m) 977 [(0, .ref b), (1, .ref (ad 0)), (2, .ref (am 0)), (3, .int i)] [] := by
  refine j_aload_n (i := 1) hC dL_law_977 rfl 1 rfl ?_
  refine j_aload_n (i := 0) hC dL_law_978 rfl 0 rfl ?_
  refine j_iload_n (i := 3) hC dL_law_979 rfl 3 rfl ?_
  refine j_iconst (v := 1) hC dL_law_980 (by decide) ?_
  refine j_iadd hC dL_law_981 ?_
  refine j_sld hC hX hin.2.1 dL_law_982 ?_
  refine j_callVf_i (w1 := wS ad cy g) (fr := wM am cy m) (As := [.int (xs (i + 1).toNatClampNeg)]) (rest := []) [0, 1, 3, 4, 5] rfl hC (cSG_trace (sim_trace h _)) 1 gL_law_X11_trace rfl rfl rfl ⟨Nat.le_of_ble_eq_true rfl, Nat.le_of_ble_eq_true rfl⟩ hdSG_trace rfl (wS_c0 ad cy g) rfl rfl (Nat.le_of_ble_eq_true rfl) ⟨by show cs + 0 ≤ 600000; omega, by show sl + 0 ≤ 7302250; omega⟩ dL_law_983 (fun r u hv => ?_)
  refine j_aload_n (i := 2) hC dL_law_986 rfl 2 rfl ?_
  refine j_aload_n (i := 0) hC dL_law_987 rfl 0 rfl ?_
  refine j_iload_n (i := 3) hC dL_law_988 rfl 3 rfl ?_
  refine j_iconst (v := 1) hC dL_law_989 (by decide) ?_
  refine j_iadd hC dL_law_990 ?_
  refine j_sld hC hX hin.2.1 dL_law_991 ?_
  refine j_comm ?_
  refine j_callVf_i (w1 := wM am cy m) (As := [.int (xs (i + 1).toNatClampNeg)]) (rest := [.int r]) [0, 1, 2] rfl hC (cM_trace hv) 1 gL_law_X12_trace rfl rfl rfl ⟨Nat.le_of_ble_eq_true rfl, Nat.le_of_ble_eq_true rfl⟩ hdM_trace rfl (wM_c0 am cy m) rfl rfl (Nat.le_of_ble_eq_true rfl) ⟨by show cs + 0 + 0 ≤ 600000; omega, by show sl + 0 + 0 ≤ 7302250; omega⟩ dL_law_992 (fun r2 u2 hv2 => ?_)
  refine j_comm ?_
  refine j_icmp_eq (tgt := 1036) hC dL_law_995 (by decide) (fun _ => ?_) (fun q => absurd hv2.1 q)
  exact j_widen (by omega) (by omega) (kk ad u u2 rfl hv2.2)
set_option maxHeartbeats 4000000 in
set_option maxRecDepth 100000 in
theorem law_count {Γ : jG} {l : Launch} {D : va_G} {cy : Nat → ClassId} {ad am : Nat → Nat} {g : GS} {m : GM} {b L cs sl : Nat} {xs : Nat → Int32} {i : Int32} (hC : jC Γ l room_1 D 4 RL cL_law wsL_law (tyA cy)) (hX : lX Γ b L xs) (hin : lIn i L) (hcs : cs + 1 ≤ 600000) (hsl : sl + 3 ≤ 7302250) (h : R g m) (kk : ∀ (ad2 : Nat → Nat) (g2 : GS) (m2 : GM), ad2 0 = ad 0 → R g2 m2 → J Γ D 4 (cs + 1) (sl + 3) (wS ad2 cy g2 ++ wM am cy m2) 1036 [(0, .ref b), (1, .ref (ad 0)), (2, .ref (am 0)), (3, .int i)] []) : J Γ D 4 cs sl (wS ad cy g ++ wM am cy m) 1000 [(0, .ref b), (1, .ref (ad 0)), (2, .ref (am 0)), (3, .int i)] [] := by
  refine j_aload_n (i := 1) hC dL_law_1000 rfl 1 rfl ?_
  refine j_aload_n (i := 0) hC dL_law_1001 rfl 0 rfl ?_
  refine j_iload_n (i := 3) hC dL_law_1002 rfl 3 rfl ?_
  refine j_iconst (v := 1) hC dL_law_1003 (by decide) ?_
  refine j_iadd hC dL_law_1004 ?_
  refine j_sld hC hX hin.2.1 dL_law_1005 ?_
  refine j_callVf_i (w1 := wS ad cy g) (fr := wM am cy m) (As := [.int (xs (i + 1).toNatClampNeg)]) (rest := []) [0, 1, 3, 4, 5] rfl hC (cSG_count (sim_count h _)) 1 gL_law_X11_count rfl rfl rfl ⟨Nat.le_of_ble_eq_true rfl, Nat.le_of_ble_eq_true rfl⟩ hdSG_count rfl (wS_c0 ad cy g) rfl rfl (Nat.le_of_ble_eq_true rfl) ⟨by show cs + 0 ≤ 600000; omega, by show sl + 0 ≤ 7302250; omega⟩ dL_law_1006 (fun r u hv => ?_)
  refine j_aload_n (i := 2) hC dL_law_1009 rfl 2 rfl ?_
  refine j_aload_n (i := 0) hC dL_law_1010 rfl 0 rfl ?_
  refine j_iload_n (i := 3) hC dL_law_1011 rfl 3 rfl ?_
  refine j_iconst (v := 1) hC dL_law_1012 (by decide) ?_
  refine j_iadd hC dL_law_1013 ?_
  refine j_sld hC hX hin.2.1 dL_law_1014 ?_
  refine j_comm ?_
  refine j_callVf_i (w1 := wM am cy m) (As := [.int (xs (i + 1).toNatClampNeg)]) (rest := [.int r]) [0, 1, 2] rfl hC (cM_count hv) 1 gL_law_X12_count rfl rfl rfl ⟨Nat.le_of_ble_eq_true rfl, Nat.le_of_ble_eq_true rfl⟩ hdM_count rfl (wM_c0 am cy m) rfl rfl (Nat.le_of_ble_eq_true rfl) ⟨by show cs + 0 + 0 ≤ 600000; omega, by show sl + 0 + 0 ≤ 7302250; omega⟩ dL_law_1015 (fun r2 u2 hv2 => ?_)
  refine j_comm ?_
  refine j_icmp_eq (tgt := 1036) hC dL_law_1018 (by decide) (fun _ => ?_) (fun q => absurd hv2.1 q)
  exact j_widen (by omega) (by omega) (kk ad u u2 rfl hv2.2)
set_option maxHeartbeats 4000000 in
set_option maxRecDepth 100000 in
theorem law_status {Γ : jG} {l : Launch} {D : va_G} {cy : Nat → ClassId} {ad am : Nat → Nat} {g : GS} {m : GM} {b L cs sl : Nat} {xs : Nat → Int32} {i : Int32} (hC : jC Γ l room_1 D 4 RL cL_law wsL_law (tyA cy)) (hX : lX Γ b L xs) (hin : lIn i L) (hcs : cs + 1 ≤ 600000) (hsl : sl + 3 ≤ 7302250) (h : R g m) (kk : ∀ (ad2 : Nat → Nat) (g2 : GS) (m2 : GM), ad2 0 = ad 0 → R g2 m2 → J Γ D 4 (cs + 1) (sl + 3) (wS ad2 cy g2 ++ wM am cy m2) 1036 [(0, .ref b), (1, .ref (ad 0)), (2, .ref (am 0)), (3, .int i)] []) : J Γ D 4 cs sl (wS ad cy g ++ wM am cy m) 1023 [(0, .ref b), (1, .ref (ad 0)), (2, .ref (am 0)), (3, .int i)] [] := by
  refine j_aload_n (i := 1) hC dL_law_1023 rfl 1 rfl ?_
  refine j_callVf_i (w1 := wS ad cy g) (fr := wM am cy m) (As := []) (rest := []) [0, 1, 3, 4, 5] rfl hC (cSG_status (sim_status h )) 0 gL_law_X11_status rfl rfl rfl ⟨Nat.le_of_ble_eq_true rfl, Nat.le_of_ble_eq_true rfl⟩ hdSG_status rfl (wS_c0 ad cy g) rfl rfl (Nat.le_of_ble_eq_true rfl) ⟨by show cs + 0 ≤ 600000; omega, by show sl + 0 ≤ 7302250; omega⟩ dL_law_1024 (fun r u hv => ?_)
  refine j_aload_n (i := 2) hC dL_law_1027 rfl 2 rfl ?_
  refine j_comm ?_
  refine j_callVf_i (w1 := wM am cy m) (As := []) (rest := [.int r]) [0, 1, 2] rfl hC (cM_status hv) 0 gL_law_X12_status rfl rfl rfl ⟨Nat.le_of_ble_eq_true rfl, Nat.le_of_ble_eq_true rfl⟩ hdM_status rfl (wM_c0 am cy m) rfl rfl (Nat.le_of_ble_eq_true rfl) ⟨by show cs + 0 + 0 ≤ 600000; omega, by show sl + 0 + 0 ≤ 7302250; omega⟩ dL_law_1028 (fun r2 u2 hv2 => ?_)
  refine j_comm ?_
  refine j_icmp_eq (tgt := 1036) hC dL_law_1031 (by decide) (fun _ => ?_) (fun q => absurd hv2.1 q)
  exact j_widen (by omega) (by omega) (kk ad u u2 rfl hv2.2)
