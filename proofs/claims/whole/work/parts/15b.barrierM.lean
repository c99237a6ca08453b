/-! ===== the reference's barrier in one hour ===== -/
def hw (std : Nat) : Nat := if std = 0 then 0 else if 7 ≤ std then 2 else if 4 ≤ std then 3 else 1
theorem q_how {post : Int32 → GS → Prop} {g : GS} {std : Nat} (hst : std < 2 ^ 31) (hp : post (nI (hw std)) g) : vBarrier_how g (nI std) post := by
  unfold vBarrier_how
  unfold hw at hp
  rw [show (0 : Int32) = nI 0 from rfl, nIk 0 hst (by decide), show (7 : Int32) = nI 7 from rfl, nIt hst (by decide), show (4 : Int32) = nI 4 from rfl, nIl (by decide) hst]
  refine ⟨fun q => ⟨fun q2 => ⟨fun q3 => ?_, fun q3 => ?_⟩, fun q2 => ?_⟩, fun q => ?_⟩
  · rw [if_neg q, if_neg (by omega), if_pos q3] at hp
    exact hp
  · rw [if_neg q, if_neg (by omega), if_neg q3] at hp
    exact hp
  · rw [if_neg q, if_pos (by omega)] at hp
    exact hp
  · rw [if_pos q] at hp
    exact hp
theorem mst_lo {st : Nat} (h : st < 7) : mst st = st := if_pos h
theorem mst_hi {st : Nat} (h : 7 ≤ st) : mst st = st + 2 := if_neg (by omega)
theorem q_stateIn {post : Int32 → GM → Prop} {m : GM} {a0 a1 st : Nat} {told : Bool} (ha0 : 1 ≤ a0 ∧ a0 ≤ 3) (ha1 : 1 ≤ a1 ∧ a1 ≤ 3) (hg : gd st) (hst : st < 15) (ht : told = true → may st = true) (hp : post (nI (hw (stn a0 a1 st told))) m) : vM_stateIn m (nI (mst st)) (bI told) post := by
  have hlt : mst st < 2 ^ 31 := by unfold mst; split <;> omega
  unfold gd at hg
  unfold vM_stateIn
  rw [show (0 : Int32) = nI 0 from rfl, nIk 0 hlt (by decide), show (3 : Int32) = nI 3 from rfl, nIl (by decide) hlt, show (6 : Int32) = nI 6 from rfl, nIl (by decide) hlt]
  have L : ∀ X, hw (stn a0 a1 st told) = X → post (nI X) m := fun X e => by
    rw [e] at hp
    exact hp
  cases told with
  | true =>
    have hm := may_iff.mp (ht rfl)
    refine ⟨fun q => ⟨fun q2 => ⟨fun q3 => ⟨fun q4 => absurd q4 (by decide), fun _ => L 3 ?_⟩, fun q3 => ?_⟩, fun q2 => ?_⟩, fun q => ⟨fun q4 => absurd q4 (by decide), fun _ => L 1 ?_⟩⟩
    · have c : ¬ st = 0 := fun e => by
        rw [e] at q
        exact q rfl
      rw [stn_t c]
      unfold hw
      rw [if_neg (by omega), if_neg (by omega), if_pos (by omega)]
    · unfold mst at q3
      split at q3
      · have e : st = 0 := by omega
        rw [e] at q
        exact absurd rfl q
      · omega
    · unfold mst at q2
      split at q2
      · have e : st = 0 := by omega
        rw [e] at q
        exact absurd rfl q
      · omega
    · have e : st = 0 := by
        unfold mst at q
        split at q <;> omega
      rw [e, stn_t0]
      unfold hw
      rw [if_neg (by omega), if_neg (by omega), if_neg (by omega)]
  | false =>
    rw [stn_f] at L
    unfold hw at L
    unfold mst
    refine ⟨fun q => ⟨fun q2 => ⟨fun q3 => ⟨fun _ => L 2 ?_, fun q4 => absurd rfl q4⟩, fun q3 => L 3 ?_⟩, fun q2 => L 1 ?_⟩, fun q => ⟨fun _ => L 0 ?_, fun q4 => absurd rfl q4⟩⟩
    · have e : 7 ≤ st := by
        split at q3 <;> omega
      rw [if_neg (by omega), if_pos e]
    · have e : 4 ≤ st ∧ st ≤ 5 := by
        split at q3 <;> split at q2 <;> omega
      rw [if_neg (by omega), if_neg (by omega), if_pos (by omega)]
    · have e : 1 ≤ st ∧ st ≤ 2 := by
        split at q2 <;> split at q <;> omega
      rw [if_neg (by omega), if_neg (by omega), if_neg (by omega)]
    · have e : st = 0 := by
        split at q <;> omega
      rw [if_pos e]
theorem q_after {post : Int32 → GM → Prop} {m : GM} {a0 a1 st h : Nat} {told : Bool} (h0 : m_rule m 0 = nI a0) (h1 : m_rule m 1 = nI a1) (ha0 : 1 ≤ a0 ∧ a0 ≤ 3) (ha1 : 1 ≤ a1 ∧ a1 ≤ 3) (hg : gd st) (hst : st < 15) (hh : h < 8) (ht : told = true → may st = true) (hp : post (nI (mst (nxt (stn a0 a1 st told) h))) m) : vM_after m (nI (mst st)) (bI told) (nI h) post := by
  have hlt : mst st < 2 ^ 31 := by unfold mst; split <;> omega
  unfold gd at hg
  have L : ∀ X, mst (nxt (stn a0 a1 st told) h) = X → post (nI X) m := fun X e => by
    rw [e] at hp
    exact hp
  have v1 : (8 : Int32) + nI h + 1 = nI (9 + h) := by
    rw [show (8 : Int32) = nI 8 from rfl, nI_add, nI_1, show 8 + h + 1 = 9 + h by omega]
  have v2 : (3 : Int32) + nI a1 - 1 = nI (2 + a1) := by
    rw [show (3 : Int32) = nI 3 from rfl, nI_add, show 3 + a1 = (2 + a1) + 1 by omega, nI_pred]
  have v3 : (0 : Int32) + nI a0 - 1 = nI (a0 - 1) := by
    rw [show (0 : Int32) = nI 0 from rfl, nI_add, show 0 + a0 = (a0 - 1) + 1 by omega, nI_pred]
  have v4 : ∀ s, 1 ≤ s → nI s - 1 = nI (s - 1) := fun s hs => pk_sub (b := 1) hs
  unfold vM_after
  rw [h0, h1, v1, v2, v3]
  cases told with
  | true =>
    have hm := may_iff.mp (ht rfl)
    rcases hm with e | e
    · subst e
      rw [stn_t0] at L
      refine ⟨fun q => absurd rfl q, fun _ => ⟨fun _ => ⟨fun q2 => L _ ?_, fun q2 => L _ ?_⟩, fun q2 => absurd q2 (by decide)⟩⟩
      · have c : ¬ a0 = 1 := fun z => q2 (by rw [z]; rfl)
        unfold nxt
        rw [if_neg c, if_neg (by omega), if_neg (by omega), mst_lo (by omega)]
      · have c : a0 = 1 := nI_inj (b := 1) (by omega) (by decide) q2
        unfold nxt
        rw [if_pos c, mst_hi (by omega)]
        omega
    · rw [mst_hi e, show (0 : Int32) = nI 0 from rfl, nIk (a := st + 2) 0 (by omega) (by decide), show (3 : Int32) = nI 3 from rfl, nIl (b := st + 2) (by decide) (by omega), show (6 : Int32) = nI 6 from rfl, nIl (b := st + 2) (by decide) (by omega)]
      rw [stn_t (by omega)] at L
      refine ⟨fun _ => ⟨fun _ => ⟨fun _ => ⟨fun _ => ⟨fun q2 => L _ ?_, fun q2 => L 0 ?_⟩, fun q2 => absurd q2 (by decide)⟩, fun q => by omega⟩, fun q => by omega⟩, fun q => by omega⟩
      · have c : ¬ a1 = 1 := fun z => q2 (by rw [z]; rfl)
        unfold nxt
        rw [if_neg (by omega), if_neg (by omega), if_neg (by omega), mst_lo (by omega)]
        omega
      · have c : a1 = 1 := nI_inj (b := 1) (by omega) (by decide) q2
        unfold nxt
        rw [if_neg (by omega), if_pos (by omega)]
        rfl
  | false =>
    rw [stn_f] at L
    rcases hg with e | e | e | e
    · subst e
      exact ⟨fun q => absurd rfl q, fun _ => ⟨fun q => absurd rfl q, fun _ => L 0 rfl⟩⟩
    · rw [mst_lo (by omega), v4 st (by omega), show (0 : Int32) = nI 0 from rfl, nIk (a := st) 0 (by omega) (by decide), show (3 : Int32) = nI 3 from rfl, nIl (b := st) (by decide) (by omega), show (1 : Int32) = nI 1 from rfl, nIk (a := st) 1 (by omega) (by decide)]
      refine ⟨fun _ => ⟨fun q => by omega, fun _ => ⟨fun q => L _ ?_, fun q => L _ ?_⟩⟩, fun q => by omega⟩
      · unfold nxt
        rw [if_neg q, if_neg (by omega), if_neg (by omega), mst_lo (by omega)]
      · unfold nxt
        rw [if_pos q, mst_hi (by omega)]
        omega
    · rw [mst_lo (by omega), v4 st (by omega), show (0 : Int32) = nI 0 from rfl, nIk (a := st) 0 (by omega) (by decide), show (3 : Int32) = nI 3 from rfl, nIl (b := st) (by decide) (by omega), show (6 : Int32) = nI 6 from rfl, nIl (b := st) (by decide) (by omega), show (4 : Int32) = nI 4 from rfl, nIk (a := st) 4 (by omega) (by decide)]
      refine ⟨fun _ => ⟨fun _ => ⟨fun q => by omega, fun _ => ⟨fun q => L _ ?_, fun q => L 0 ?_⟩⟩, fun q => by omega⟩, fun q => by omega⟩
      · unfold nxt
        rw [if_neg (by omega), if_neg q, if_neg (by omega), mst_lo (by omega)]
      · unfold nxt
        rw [if_neg (by omega), if_pos q]
        rfl
    · rw [mst_hi e, show (0 : Int32) = nI 0 from rfl, nIk (a := st + 2) 0 (by omega) (by decide), show (3 : Int32) = nI 3 from rfl, nIl (b := st + 2) (by decide) (by omega), show (6 : Int32) = nI 6 from rfl, nIl (b := st + 2) (by decide) (by omega)]
      refine ⟨fun _ => ⟨fun _ => ⟨fun _ => ⟨fun q => absurd rfl q, fun _ => L _ ?_⟩, fun q => by omega⟩, fun q => by omega⟩, fun q => by omega⟩
      unfold nxt
      rw [if_neg (by omega), if_neg (by omega), if_pos (by omega), mst_hi e]
theorem lp_waterIn {post : Int32 → GM → Prop} {m : GM} {h f N : Nat} {v : Int32} {riv : Nat → Int32} (hr : ∀ i, i < 8 → m_river m i = riv i) (hh : h < 8) (hN : f + N = h + 1) (hp : post (v + rsum riv f N) m) : ∀ d k : Nat, k + d = N → vM_waterIn_48 post (d + 1) (nI h) (v + rsum riv f k) (nI (f + k)) m := by
  intro d
  induction d with
  | zero =>
    intro k hk
    have e : k = N := by omega
    subst e
    unfold vM_waterIn_48
    exact ⟨fun _ => hp, fun q => absurd (nI_lt (show h < f + k by omega) (by omega)) q⟩
  | succ d ih =>
    intro k hk
    have ih := ih (k + 1) (by omega)
    unfold rsum at ih
    unfold vM_waterIn_48
    rw [nI_clamp (show f + k < 2 ^ 31 by omega), nI_1, nIt (by omega) (by omega), Int32.add_assoc, hr (f + k) (by omega)]
    exact ⟨fun q => by omega, fun _ => ⟨vp_in_nI (by omega) (by decide), ih⟩⟩
theorem hw_2 {std : Nat} : hw std = 2 ↔ 7 ≤ std := by
  unfold hw
  repeat' split
  all_goals omega
theorem hw_lt (std : Nat) : hw std < 4 := by
  unfold hw
  repeat' split
  all_goals omega
theorem stn_7 {a0 a1 st : Nat} {told : Bool} (ha0 : 1 ≤ a0 ∧ a0 ≤ 3) (ha1 : 1 ≤ a1 ∧ a1 ≤ 3) (h : 7 ≤ stn a0 a1 st told) : told = false ∧ 7 ≤ st := by
  unfold stn at h
  cases told with
  | true =>
    rw [if_pos rfl] at h
    split at h <;> omega
  | false => exact ⟨rfl, h⟩
theorem q_waterIn {post : Int32 → GM → Prop} {m : GM} {a0 a1 w h st : Nat} {told : Bool} {L : Nat → Nat → Int32} {riv : Nat → Int32} (hr : ∀ i, i < 8 → m_river m i = riv i) (hL : ∀ k, k < 8 → m_sea m (8 * w + k) = L w k) (ha0 : 1 ≤ a0 ∧ a0 ≤ 3) (ha1 : 1 ≤ a1 ∧ a1 ≤ 3) (hg : gd st) (ht : told = true → may st = true) (hw8 : w < 8) (hh : h < 8) (hs : st < 7 + h) (hp : post (wat L riv w h (stn a0 a1 st told)) m) : vM_waterIn m (nI w) (nI (mst st)) (bI told) (nI h) post := by
  unfold vM_waterIn
  refine q_stateIn ha0 ha1 hg (by omega) ht ?_
  have hlt := stn_lt (told := told) ha0 ha1 hs
  have h4 := hw_lt (stn a0 a1 st told)
  unfold wat at hp
  rw [show (2 : Int32) = nI 2 from rfl, nIk 2 (by omega) (by decide), hw_2]
  refine ⟨fun c => ?_, fun c => ?_⟩
  · obtain ⟨e1, e2⟩ := stn_7 ha0 ha1 c
    rw [if_neg (by omega)] at hp
    rw [e1, stn_f] at hp
    have ei : (8 : Int32) * nI w + (nI (mst st) - 8) - 1 = nI (8 * w + (st - 7)) := by
      rw [mst_hi e2, show nI (st + 2) - 8 = nI (st + 2 - 8) from pk_sub (b := 8) (by omega), nI8b, show 8 * w + (st + 2 - 8) = (8 * w + (st - 7)) + 1 by omega, nI_pred]
    have ej : nI (mst st) - 8 = nI (st - 6) := by
      rw [mst_hi e2, show nI (st + 2) - 8 = nI (st + 2 - 8) from pk_sub (b := 8) (by omega), show st + 2 - 8 = st - 6 by omega]
    rw [ei, ej, nI_clamp (show 8 * w + (st - 7) < 2 ^ 31 by omega), hL (st - 7) (by omega)]
    refine ⟨vp_in_nI (by omega) (by decide), (h + 7 - st) + 1, ?_⟩
    have hl := lp_waterIn (m := m) (f := st - 6) (N := h + 7 - st) (v := L w (st - 7)) hr hh (by omega) hp (h + 7 - st) 0 (by omega)
    unfold rsum at hl
    rw [Int32.add_zero, Nat.add_zero] at hl
    exact hl
  · rw [if_pos (by omega)] at hp
    rw [nI8b, nI_clamp (show 8 * w + h < 2 ^ 31 by omega), hL h hh]
    exact ⟨vp_in_nI (by omega) (by decide), hp⟩
theorem mx0_le {a b : Nat} (ha : a < 2 ^ 30) (hb : b < 2 ^ 30) : mx0 (nI a - nI b) = if nI a ≤ nI b then 0 else nI a - nI b := by
  unfold mx0
  have e : (0 < nI a - nI b) ↔ ¬ a ≤ b := by
    rw [Int32.lt_iff_toInt_lt, pk_sub_toInt ha hb, show (0 : Int32).toInt = 0 from rfl]
    omega
  by_cases c : a ≤ b
  · rw [if_neg (fun q => e.mp q c), if_pos (nI_le c (by omega))]
  · rw [if_pos (e.mpr c), if_neg (nI_ge (by omega) (by omega))]
theorem rsum_nI {riv : Nat → Int32} {f : Nat} : ∀ n, f + n ≤ 8 → (∀ i, i < 8 → ∃ a : Nat, a ≤ 100 ∧ riv i = nI a) → ∃ b : Nat, b ≤ 100 * n ∧ rsum riv f n = nI b
  | 0, _, _ => ⟨0, by omega, rfl⟩
  | n + 1, h, hr => by
    obtain ⟨b, h1, h2⟩ := rsum_nI (f := f) n (by omega) hr
    obtain ⟨a, h3, h4⟩ := hr (f + n) (by omega)
    refine ⟨b + a, by omega, ?_⟩
    unfold rsum
    rw [h2, h4, nI_add]
theorem wat_nI {L : Nat → Nat → Int32} {riv : Nat → Int32} {w h std : Nat} (hL : ∀ k, k < 8 → ∃ a : Nat, a ≤ 1000 ∧ L w k = nI a) (hr : ∀ i, i < 8 → ∃ a : Nat, a ≤ 100 ∧ riv i = nI a) (hh : h < 8) (hs : std < 7 + h ∨ std < 7) : ∃ a : Nat, a ≤ 2000 ∧ wat L riv w h std = nI a := by
  unfold wat
  by_cases c : std < 7
  · rw [if_pos c]
    obtain ⟨a, h1, h2⟩ := hL h hh
    exact ⟨a, by omega, h2⟩
  · rw [if_neg c]
    obtain ⟨a, h1, h2⟩ := hL (std - 7) (by omega)
    obtain ⟨b, h3, h4⟩ := rsum_nI (riv := riv) (f := std - 6) (h + 7 - std) (by omega) hr
    exact ⟨a + b, by omega, by rw [h2, h4, nI_add]⟩
theorem q_lostIn {post : Int32 → GM → Prop} {m : GM} {a0 a1 w h st : Nat} {told : Bool} {L : Nat → Nat → Int32} {rul riv : Nat → Int32} (hru : ∀ i, i < 8 → m_rule m i = rul i) (hr : ∀ i, i < 8 → m_river m i = riv i) (hL : ∀ k, k < 8 → m_sea m (8 * w + k) = L w k) (hLb : ∀ k, k < 8 → ∃ a : Nat, a ≤ 1000 ∧ L w k = nI a) (hrb : ∀ i, i < 8 → ∃ a : Nat, a ≤ 100 ∧ riv i = nI a) (hrub : ∀ i, i < 8 → ∃ a : Nat, a ≤ 1000 ∧ rul i = nI a) (h0 : rul 0 = nI a0) (h1 : rul 1 = nI a1) (ha0 : 1 ≤ a0 ∧ a0 ≤ 3) (ha1 : 1 ≤ a1 ∧ a1 ≤ 3) (hg : gd st) (ht : told = true → may st = true) (hw8 : w < 8) (hh : h < 8) (hs : st < 7 + h) (hp : post (lostF L rul riv w h st told) m) : vM_lostIn m (nI w) (nI (mst st)) (bI told) (nI h) post := by
  have hlt := stn_lt (told := told) ha0 ha1 hs
  have h4 := hw_lt (stn a0 a1 st told)
  unfold lostF at hp
  rw [stnd_n h0 h1 ha0.2 ha1.2] at hp
  have key : ∀ t0 : Int32, t0 = (if told = true ∧ st = 0 then rul 4 else 0) → vM_lostIn_18 post (nI w) (nI (mst st)) (bI told) (nI h) t0 m := by
    intro t0 ht0
    unfold vM_lostIn_18
    refine q_stateIn ha0 ha1 hg (by omega) ht ?_
    rw [show (2 : Int32) = nI 2 from rfl, nIk 2 (by omega) (by decide), hw_2, nI8b, nI_clamp (show 8 * w + h < 2 ^ 31 by omega), hL h hh, hru 2 (by decide), hru 6 (by decide)]
    refine ⟨fun c => ⟨vp_in_nI (by omega) (by decide), ?_⟩, fun c => ?_⟩
    · rw [if_neg (by omega), ← ht0] at hp
      obtain ⟨a, b1, b2⟩ := hLb h hh
      obtain ⟨b, b3, b4⟩ := hrub 2 (by decide)
      rw [b2, b4, mx0_le (by omega) (by omega)] at hp
      rw [b2, b4]
      refine ⟨fun q => ?_, fun q => ?_⟩
      · rw [if_pos q, Int32.mul_zero] at hp
        exact hp
      · rw [if_neg q] at hp
        exact hp
    · obtain ⟨e1, e2⟩ := stn_7 ha0 ha1 c
      rw [if_pos (by omega)] at hp
      refine q_waterIn hr hL ha0 ha1 hg ht hw8 hh hs ?_
      obtain ⟨a, b1, b2⟩ := wat_nI (w := w) (std := stn a0 a1 st told) hLb hrb hh (Or.inl hlt)
      obtain ⟨b, b3, b4⟩ := hrub 3 (by decide)
      have e0 : t0 = 0 := by
        rw [ht0, if_neg (fun z => by omega)]
      rw [b2, b4, mx0_le (by omega) (by omega)] at hp
      rw [b2, hru 3 (by decide), hru 5 (by decide), hru 7 (by decide), b4, e0, Int32.zero_add]
      refine ⟨fun q => ?_, fun q => ?_⟩
      · rw [if_pos q, Int32.mul_zero] at hp
        exact hp
      · rw [if_neg q] at hp
        exact hp
  have em : nI (mst st) = 0 ↔ st = 0 := by
    rw [show (0 : Int32) = nI 0 from rfl, nI_eq (by unfold mst; split <;> omega) (by decide)]
    unfold mst
    split <;> omega
  unfold vM_lostIn vM_lostIn_17
  rw [em, hru 4 (by decide)]
  refine ⟨fun q => key 0 (by rw [if_neg (fun z => q z.2)]), fun q => ⟨fun q2 => key 0 ?_, fun q2 => key _ ?_⟩⟩
  · have e : told = false := by
      cases told with
      | false => rfl
      | true => exact absurd q2 (by decide)
    rw [if_neg (fun z => by rw [e] at z; exact absurd z.1 (by decide))]
  · have e : told = true := by
      cases told with
      | true => rfl
      | false => exact absurd rfl q2
    rw [if_pos ⟨e, q⟩]
