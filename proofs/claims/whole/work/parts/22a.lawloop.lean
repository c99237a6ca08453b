/-! ===== the switch ===== -/
set_option maxHeartbeats 4000000 in
set_option maxRecDepth 100000 in
theorem law_switch {Γ : jG} {l : Launch} {D : va_G} {cy : Nat → ClassId} {ad am : Nat → Nat} {g : GS} {m : GM} {b L cs sl : Nat} {xs : Nat → Int32} {i x : Int32} (hC : jC Γ l room_1 D 4 RL cL_law wsL_law (tyA cy)) (hX : lX Γ b L xs) (hin : lIn i L) (hcs : cs + 1 ≤ 600000) (hsl : sl + 3 ≤ 7302250) (h : R g m) (hx : 0 ≤ x.toInt ∧ x.toInt < 32) (kk : ∀ (ad2 : Nat → Nat) (g2 : GS) (m2 : GM), ad2 0 = ad 0 → R g2 m2 → J Γ D 4 (cs + 1) (sl + 3) (wS ad2 cy g2 ++ wM am cy m2) 1036 [(0, .ref b), (1, .ref (ad 0)), (2, .ref (am 0)), (3, .int i)] []) : J Γ D 4 cs sl (wS ad cy g ++ wM am cy m) 33 [(0, .ref b), (1, .ref (ad 0)), (2, .ref (am 0)), (3, .int i)] [.int x] := by
  obtain ⟨j, hj⟩ : ∃ j : Nat, x.toInt = (j : Int) := ⟨x.toInt.toNat, by omega⟩
  by_cases h26 : 26 ≤ j
  · refine j_tableOut (tgt := 1036) hC dL_law_33 (Or.inr (by rw [hj]; omega)) (by decide) ?_
    exact j_widen (by omega) (by omega) (kk ad g m rfl h)
  · rcases (show j = 0 ∨ j = 1 ∨ j = 2 ∨ j = 3 ∨ j = 4 ∨ j = 5 ∨ j = 6 ∨ j = 7 ∨ j = 8 ∨ j = 9 ∨ j = 10 ∨ j = 11 ∨ j = 12 ∨ j = 13 ∨ j = 14 ∨ j = 15 ∨ j = 16 ∨ j = 17 ∨ j = 18 ∨ j = 19 ∨ j = 20 ∨ j = 21 ∨ j = 22 ∨ j = 23 ∨ j = 24 ∨ j = 25 by omega) with rfl | rfl | rfl | rfl | rfl | rfl | rfl | rfl | rfl | rfl | rfl | rfl | rfl | rfl | rfl | rfl | rfl | rfl | rfl | rfl | rfl | rfl | rfl | rfl | rfl | rfl
    · exact j_tableIn (off := 119) (tgt := 152) hC dL_law_33 (by rw [hj]; decide) (by rw [hj]; decide) (by rw [hj]; rfl) (by decide) (law_sheet hC hX hin hcs hsl h kk)
    · exact j_tableIn (off := 162) (tgt := 195) hC dL_law_33 (by rw [hj]; decide) (by rw [hj]; decide) (by rw [hj]; rfl) (by decide) (law_set hC hX hin hcs hsl h kk)
    · exact j_tableIn (off := 205) (tgt := 238) hC dL_law_33 (by rw [hj]; decide) (by rw [hj]; decide) (by rw [hj]; rfl) (by decide) (law_copy hC hX hin hcs hsl h kk)
    · exact j_tableIn (off := 268) (tgt := 301) hC dL_law_33 (by rw [hj]; decide) (by rw [hj]; decide) (by rw [hj]; rfl) (by decide) (law_drop hC hX hin hcs hsl h kk)
    · exact j_tableIn (off := 291) (tgt := 324) hC dL_law_33 (by rw [hj]; decide) (by rw [hj]; decide) (by rw [hj]; rfl) (by decide) (law_world hC hX hin hcs hsl h kk)
    · exact j_tableIn (off := 334) (tgt := 367) hC dL_law_33 (by rw [hj]; decide) (by rw [hj]; decide) (by rw [hj]; rfl) (by decide) (law_river hC hX hin hcs hsl h kk)
    · exact j_tableIn (off := 367) (tgt := 400) hC dL_law_33 (by rw [hj]; decide) (by rw [hj]; decide) (by rw [hj]; rfl) (by decide) (law_rule hC hX hin hcs hsl h kk)
    · exact j_tableIn (off := 400) (tgt := 433) hC dL_law_33 (by rw [hj]; decide) (by rw [hj]; decide) (by rw [hj]; rfl) (by decide) (law_best hC hX hin hcs hsl h kk)
    · exact j_tableIn (off := 414) (tgt := 447) hC dL_law_33 (by rw [hj]; decide) (by rw [hj]; decide) (by rw [hj]; rfl) (by decide) (law_hour hC hX hin hcs hsl h kk)
    · exact j_tableIn (off := 457) (tgt := 490) hC dL_law_33 (by rw [hj]; decide) (by rw [hj]; decide) (by rw [hj]; rfl) (by decide) (law_shutAt hC hX hin hcs hsl h kk)
    · exact j_tableIn (off := 481) (tgt := 514) hC dL_law_33 (by rw [hj]; decide) (by rw [hj]; decide) (by rw [hj]; rfl) (by decide) (law_alarm hC hX hin hcs hsl h kk)
    · exact j_tableIn (off := 494) (tgt := 527) hC dL_law_33 (by rw [hj]; decide) (by rw [hj]; decide) (by rw [hj]; rfl) (by decide) (law_groups hC hX hin hcs hsl h kk)
    · exact j_tableIn (off := 517) (tgt := 550) hC dL_law_33 (by rw [hj]; decide) (by rw [hj]; decide) (by rw [hj]; rfl) (by decide) (law_gate hC hX hin hcs hsl h kk)
    · exact j_tableIn (off := 550) (tgt := 583) hC dL_law_33 (by rw [hj]; decide) (by rw [hj]; decide) (by rw [hj]; rfl) (by decide) (law_fail hC hX hin hcs hsl h kk)
    · exact j_tableIn (off := 573) (tgt := 606) hC dL_law_33 (by rw [hj]; decide) (by rw [hj]; decide) (by rw [hj]; rfl) (by decide) (law_mend hC hX hin hcs hsl h kk)
    · exact j_tableIn (off := 596) (tgt := 629) hC dL_law_33 (by rw [hj]; decide) (by rw [hj]; decide) (by rw [hj]; rfl) (by decide) (law_time hC hX hin hcs hsl h kk)
    · exact j_tableIn (off := 629) (tgt := 662) hC dL_law_33 (by rw [hj]; decide) (by rw [hj]; decide) (by rw [hj]; rfl) (by decide) (law_ship hC hX hin hcs hsl h kk)
    · exact j_tableIn (off := 662) (tgt := 695) hC dL_law_33 (by rw [hj]; decide) (by rw [hj]; decide) (by rw [hj]; rfl) (by decide) (law_waits hC hX hin hcs hsl h kk)
    · exact j_tableIn (off := 705) (tgt := 738) hC dL_law_33 (by rw [hj]; decide) (by rw [hj]; decide) (by rw [hj]; rfl) (by decide) (law_closings hC hX hin hcs hsl h kk)
    · exact j_tableIn (off := 780) (tgt := 813) hC dL_law_33 (by rw [hj]; decide) (by rw [hj]; decide) (by rw [hj]; rfl) (by decide) (law_tooMany hC hX hin hcs hsl h kk)
    · exact j_tableIn (off := 855) (tgt := 888) hC dL_law_33 (by rw [hj]; decide) (by rw [hj]; decide) (by rw [hj]; rfl) (by decide) (law_kind hC hX hin hcs hsl h kk)
    · exact j_tableIn (off := 878) (tgt := 911) hC dL_law_33 (by rw [hj]; decide) (by rw [hj]; decide) (by rw [hj]; rfl) (by decide) (law_as hC hX hin hcs hsl h kk)
    · exact j_tableIn (off := 911) (tgt := 944) hC dL_law_33 (by rw [hj]; decide) (by rw [hj]; decide) (by rw [hj]; rfl) (by decide) (law_ask hC hX hin hcs hsl h kk)
    · exact j_tableIn (off := 944) (tgt := 977) hC dL_law_33 (by rw [hj]; decide) (by rw [hj]; decide) (by rw [hj]; rfl) (by decide) (law_trace hC hX hin hcs hsl h kk)
    · exact j_tableIn (off := 967) (tgt := 1000) hC dL_law_33 (by rw [hj]; decide) (by rw [hj]; decide) (by rw [hj]; rfl) (by decide) (law_count hC hX hin hcs hsl h kk)
    · exact j_tableIn (off := 990) (tgt := 1023) hC dL_law_33 (by rw [hj]; decide) (by rw [hj]; decide) (by rw [hj]; rfl) (by decide) (law_status hC hX hin hcs hsl h kk)
/-! ===== the loop ===== -/
set_option maxHeartbeats 4000000 in
set_option maxRecDepth 100000 in
theorem law_loop {Γ : jG} {l : Launch} {D : va_G} {cy : Nat → ClassId} {am : Nat → Nat} {b L : Nat} {xs : Nat → Int32} (hC : jC Γ l room_1 D 4 RL cL_law wsL_law (tyA cy)) (hX : lX Γ b L xs) (hL : L ≤ 3584) : ∀ (n k cs sl : Nat) (ad : Nat → Nat) (g : GS) (m : GM), 7 * k ≤ L → L < 7 * (k + n) → cs + n ≤ 600000 → sl + 3 * n ≤ 7302250 → R g m → J Γ D 4 cs sl (wS ad cy g ++ wM am cy m) 18 [(0, .ref b), (1, .ref (ad 0)), (2, .ref (am 0)), (3, .int (nI (7 * k)))] [] := by
  intro n
  induction n with
  | zero => intro k cs sl ad g m h1 h2; exact absurd h1 (by omega)
  | succ n ih =>
    intro k cs sl ad g m hk hn hcs hsl h
    refine j_iload_n (i := 3) hC dL_law_18 rfl 3 rfl ?_
    refine j_aload_n (i := 0) hC dL_law_19 rfl 0 rfl ?_
    refine j_slen hC hX dL_law_20 ?_
    refine j_bipush (v := 7) hC dL_law_21 (by decide) ?_
    refine j_isub hC dL_law_23 ?_
    refine j_icmp_gt (tgt := 1042) hC dL_law_24 (by decide) (fun q => ?_) (fun q => ?_)
    · refine j_iconst (v := 1) hC dL_law_1042 (by decide) ?_
      exact j_lwret hC hX (by omega) (by omega) dL_law_1043
    · have h7 := lw_end (by omega) hL q
      have hin := lIn_nI h7 hL
      refine j_aload_n (i := 0) hC dL_law_27 rfl 0 rfl ?_
      refine j_iload_n (i := 3) hC dL_law_28 rfl 3 rfl ?_
      refine j_sld hC hX hin.1 dL_law_29 ?_
      refine j_bipush (v := 31) hC dL_law_30 (by decide) ?_
      refine j_iand hC dL_law_32 ?_
      refine law_switch hC hX hin (by omega) (by omega) h (lw_and _) (fun ad2 g2 m2 he hr => ?_)
      refine j_iinc (v := nI (7 * (k + 1))) (k := 3) (lv' := [(3, .int (nI (7 * (k + 1)))), (0, .ref b), (1, .ref (ad 0)), (2, .ref (am 0))]) hC dL_law_1036 rfl (show nI (7 * k) + nI 7 = nI (7 * k + 7) from nI_add _ _) (by decide) rfl ?_
      refine j_goto (tgt := 18) hC dL_law_1039 (by decide) ?_
      refine j_lv (lv' := [(0, .ref b), (1, .ref (ad 0)), (2, .ref (am 0)), (3, .int (nI (7 * (k + 1))))]) [1, 2, 3, 0] rfl ?_
      rw [← he]
      exact ih (k + 1) (cs + 1) (sl + 3) ad2 g2 m2 (by omega) (by omega) (by omega) (by omega) hr
