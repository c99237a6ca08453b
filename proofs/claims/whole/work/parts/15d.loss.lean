/-! ===== what a group loses from an hour on ===== -/
theorem wat_al {lev : Nat → Nat → Int32} {riv : Nat → Int32} {v w h std : Nat} (he : ∀ k, k ≤ h → lev v k = lev w k) (hs : std < 7 + h ∨ std < 7) : wat lev riv v h std = wat lev riv w h std := by
  unfold wat
  by_cases c : std < 7
  · rw [if_pos c, if_pos c, he h (Nat.le_refl h)]
  · rw [if_neg c, if_neg c, he (std - 7) (by omega)]
theorem lostF_al {lev : Nat → Nat → Int32} {rul riv : Nat → Int32} {v w h st : Nat} {told : Bool} (he : ∀ k, k ≤ h → lev v k = lev w k) (hs : stnd rul st told < 7 + h ∨ stnd rul st told < 7) : lostF lev rul riv v h st told = lostF lev rul riv w h st told := by
  unfold lostF
  rw [wat_al he hs, he h (Nat.le_refl h)]
/-- the weight of a group, of the first k worlds -/
def wGr (wgt : Nat → Int32) (lev : Nat → Nat → Int32) (h w : Nat) : Nat → Int32
  | 0 => 0
  | k + 1 => if grp lev k h = w then wGr wgt lev h w k + wgt k else wGr wgt lev h w k
theorem wid_add {a b : Nat} (ha : a < 2 ^ 30) (hb : b < 2 ^ 30) : (nI a + nI b).toInt64 = (nI a).toInt64 + (nI b).toInt64 := by
  refine Int64.toInt_inj.mp ?_
  rw [add64, nI_add, Int32.toInt_toInt64, nI_toInt (by omega), nI_toInt (by omega), nI_toInt (by omega)]
  omega
theorem wGr_le {wgt : Nat → Int32} {lev : Nat → Nat → Int32} {h w n : Nat} (hw : ∀ v, v < n → ∃ a : Nat, a ≤ 20 ∧ wgt v = nI a) : ∀ k, k ≤ n → k ≤ 8 → ∃ a : Nat, a ≤ 20 * k ∧ wGr wgt lev h w k = nI a
  | 0, _, _ => ⟨0, by omega, rfl⟩
  | k + 1, h1, h2 => by
    obtain ⟨a, b1, b2⟩ := wGr_le (lev := lev) (h := h) (w := w) hw k (by omega) (by omega)
    obtain ⟨b, b3, b4⟩ := hw k (by omega)
    unfold wGr
    by_cases c : grp lev k h = w
    · rw [if_pos c, b2, b4, nI_add]
      exact ⟨a + b, by omega, rfl⟩
    · rw [if_neg c]
      exact ⟨a, by omega, b2⟩
def tGr (P : Nat → Bool) (V : Nat → Int64) : Nat → Int64
  | 0 => 0
  | k + 1 => if P k = true then tGr P V k + V k else tGr P V k
theorem i64_mix (A a l T t : Int64) : (A + a) * l + (T + t) = (A * l + T) + (a * l + t) := by
  rw [Int64.add_mul, Int64.add_assoc, Int64.add_assoc, ← Int64.add_assoc (a * l) T t, Int64.add_comm (a * l) T, Int64.add_assoc T]
theorem i64_mix0 (A a l T : Int64) : (A + a) * l + T = (A * l + T) + (a * l + 0) := by
  have h := i64_mix A a l T 0
  rw [Int64.add_zero] at h
  exact h
def goes (lev : Nat → Nat → Int32) (h w v : Nat) : Bool := decide (grp lev v h = w ∧ h < 7 ∧ grp lev v (h + 1) = v)
theorem sm_mix {n : Nat} {wgt : Nat → Int32} {lev : Nat → Nat → Int32} {h w : Nat} {lo : Nat → Int64} {l : Int64} {V : Nat → Int64} (hn : n ≤ 8) (hw : ∀ v, v < n → ∃ a : Nat, a ≤ 20 ∧ wgt v = nI a) (hl : ∀ v, v < n → grp lev v h = w → lo v = l) : ∀ k, k ≤ n → sm64 (fun v => if grp lev v h = w then (wgt v).toInt64 * lo v + (if h < 7 ∧ grp lev v (h + 1) = v then V v else 0) else 0) k = (wGr wgt lev h w k).toInt64 * l + tGr (goes lev h w) V k
  | 0, _ => by
    show (0 : Int64) = (0 : Int32).toInt64 * l + 0
    rw [show (0 : Int32).toInt64 = 0 from rfl, Int64.zero_mul]
    rfl
  | k + 1, hk => by
    have ih := sm_mix (V := V) hn hw hl k (by omega)
    obtain ⟨a, b1, b2⟩ := wGr_le (lev := lev) (h := h) (w := w) hw k (by omega) (by omega)
    obtain ⟨b, b3, b4⟩ := hw k (by omega)
    unfold sm64 wGr tGr
    rw [ih]
    by_cases c : grp lev k h = w
    · rw [if_pos c, if_pos c, hl k (by omega) c]
      have e : (wGr wgt lev h w k + wgt k).toInt64 = (wGr wgt lev h w k).toInt64 + (wgt k).toInt64 := by
        rw [b2, b4]
        exact wid_add (by omega) (by omega)
      rw [e]
      by_cases c2 : h < 7 ∧ grp lev k (h + 1) = k
      · rw [if_pos c2, if_pos (show goes lev h w k = true from decide_eq_true ⟨c, c2⟩)]
        exact (i64_mix _ _ _ _ _).symm
      · rw [if_neg c2, if_neg (show ¬ goes lev h w k = true from fun z => c2 (of_decide_eq_true z).2)]
        exact (i64_mix0 _ _ _ _).symm
    · rw [if_neg c, if_neg c, if_neg (show ¬ goes lev h w k = true from fun z => c (of_decide_eq_true z).1), Int64.add_zero]
theorem grp_le (L : Nat → Nat → Int32) (v h : Nat) : grp L v h ≤ v := (grp_spec L v h).2.1
theorem wGr_0 {wgt : Nat → Int32} {lev : Nat → Nat → Int32} {h w : Nat} : ∀ k, k ≤ w → wGr wgt lev h w k = 0
  | 0, _ => rfl
  | k + 1, hk => by
    unfold wGr
    rw [if_neg (fun e => by have := grp_le lev k h; omega)]
    exact wGr_0 k (by omega)
theorem tGr_0 {lev : Nat → Nat → Int32} {h w : Nat} {V : Nat → Int64} : ∀ k, k ≤ w → tGr (goes lev h w) V k = 0
  | 0, _ => rfl
  | k + 1, hk => by
    unfold tGr
    rw [if_neg (fun e => by have := grp_le lev k h; have := (of_decide_eq_true e).1; omega)]
    exact tGr_0 k (by omega)
def SeaS (g : GS) (n : Nat) : Prop := n ≤ 8 ∧ z_ssize g = nI n ∧ (∀ w, w < n → ∃ a : Nat, a ≤ 20 ∧ z_weights g w = nI a) ∧ (∀ h w, h < 8 → w < n → z_heads g h w = nI (grp (z_levels g) w h))
theorem lp_wog {post : Int32 → GS → Prop} {g : GS} {n h w : Nat} (hS : SeaS g n) (hw : w < n) (hh : h < 8) (hp : post (wGr (z_weights g) (z_levels g) h w n) g) : ∀ d k : Nat, k + d = n → vSea_weightOfGroup_5 post (d + 1) (nI h) (nI w) (wGr (z_weights g) (z_levels g) h w k) (nI k) g := by
  obtain ⟨hn, en, hwt, hhd⟩ := hS
  intro d
  induction d with
  | zero =>
    intro k hk
    have e : k = n := by omega
    subst e
    unfold vSea_weightOfGroup_5
    rw [en]
    exact ⟨fun _ => hp, fun q => absurd (nI_le (Nat.le_refl k) (by omega)) q⟩
  | succ d ih =>
    intro k hk
    have ih := ih (k + 1) (by omega)
    unfold wGr at ih
    have hle := grp_le (z_levels g) k h
    unfold vSea_weightOfGroup_5 vSea_weightOfGroup_37
    rw [en, nI_1, nI_clamp (show h < 2 ^ 31 by omega), nI_clamp (show k < 2 ^ 31 by omega), hhd h k hh (by omega), nIk w (by omega) (by omega)]
    have hin : vp_in (nI k) 8 := vp_in_nI (by omega) (by decide)
    refine ⟨fun q => absurd q (nI_ge (show k < n by omega) (by omega)), fun _ => ⟨vp_in_nI hh (by decide), hin, fun q => ?_, fun q => ⟨hin, ?_⟩⟩⟩
    · rw [if_neg q] at ih
      exact ih
    · rw [if_pos q] at ih
      exact ih
theorem q_wog {post : Int32 → GS → Prop} {g : GS} {n h w : Nat} (hS : SeaS g n) (hw : w < n) (hh : h < 8) (hp : post (wGr (z_weights g) (z_levels g) h w n) g) : vSea_weightOfGroup g (nI h) (nI w) post := by
  unfold vSea_weightOfGroup
  have hl := lp_wog hS hw hh hp (n - w) w (by omega)
  rw [wGr_0 w (Nat.le_refl w)] at hl
  exact ⟨_, hl⟩
theorem lp_lf48 {post : Int64 → GS → Prop} {g : GS} {n h w st : Nat} {A : Int64} (hS : SeaS g n) (hw : w < n) (hh : h < 7) (hst : st < 15) (hp : post (A + tGr (goes (z_levels g) h w) (fun v => z_then g v st) n) g) : ∀ d k : Nat, k + d = n → vPlan_lossFrom_48 post (d + 1) (nI h) (nI w) (A + tGr (goes (z_levels g) h w) (fun v => z_then g v st) k) (nI st) (nI k) g := by
  obtain ⟨hn, en, hwt, hhd⟩ := hS
  intro d
  induction d with
  | zero =>
    intro k hk
    have e : k = n := by omega
    subst e
    unfold vPlan_lossFrom_48
    rw [en]
    exact ⟨fun _ => hp, fun q => absurd (nI_le (Nat.le_refl k) (by omega)) q⟩
  | succ d ih =>
    intro k hk
    have ih := ih (k + 1) (by omega)
    unfold tGr at ih
    have hle := grp_le (z_levels g) k h
    have hle2 := grp_le (z_levels g) k (h + 1)
    unfold vPlan_lossFrom_48 vPlan_lossFrom_110
    rw [en, nI_1, nI_1, nI_clamp (show h < 2 ^ 31 by omega), nI_clamp (show k < 2 ^ 31 by omega), nI_clamp (show h + 1 < 2 ^ 31 by omega), nI_clamp (show st < 2 ^ 31 by omega), hhd h k (by omega) (by omega), hhd (h + 1) k (by omega) (by omega), nIk w (by omega) (by omega), nIk k (by omega) (by omega)]
    have hin : vp_in (nI k) 8 := vp_in_nI (by omega) (by decide)
    refine ⟨fun q => absurd q (nI_ge (show k < n by omega) (by omega)), fun _ => ⟨vp_in_nI (by omega) (by decide), hin, fun q => ?_, fun q => ⟨vp_in_nI (by omega) (by decide), hin, fun q2 => ?_, fun q2 => ⟨hin, vp_in_nI hst (by decide), ?_⟩⟩⟩⟩
    · rw [if_neg (show ¬ goes (z_levels g) h w k = true from fun z => q (of_decide_eq_true z).1)] at ih
      exact ih
    · rw [if_neg (show ¬ goes (z_levels g) h w k = true from fun z => q2 (of_decide_eq_true z).2.2)] at ih
      exact ih
    · rw [if_pos (show goes (z_levels g) h w k = true from decide_eq_true ⟨q, hh, q2⟩), ← Int64.add_assoc] at ih
      exact ih
theorem tGr_cong {P : Nat → Bool} {V V' : Nat → Int64} : ∀ k, (∀ v, v < k → P v = true → V v = V' v) → tGr P V k = tGr P V' k
  | 0, _ => rfl
  | k + 1, h => by
    unfold tGr
    rw [tGr_cong k (fun v hv => h v (by omega))]
    by_cases c : P k = true
    · rw [if_pos c, if_pos c, h k (by omega) c]
    · rw [if_neg c, if_neg c]
theorem tGr_none {P : Nat → Bool} {V : Nat → Int64} : ∀ k, (∀ v, v < k → ¬ P v = true) → tGr P V k = 0
  | 0, _ => rfl
  | k + 1, h => by
    unfold tGr
    rw [tGr_none k (fun v hv => h v (by omega)), if_neg (h k (by omega))]
theorem lossL_eq {n : Nat} {wgt : Nat → Int32} {lev : Nat → Nat → Int32} {rul riv : Nat → Int32} {V : Nat → Nat → Int64} {h w st : Nat} {told : Bool} (hn : n ≤ 8) (hw : ∀ v, v < n → ∃ a : Nat, a ≤ 20 ∧ wgt v = nI a) (hs : stnd rul st told < 7 + h ∨ stnd rul st told < 7) : lossL n wgt lev rul riv V h w st told = (wGr wgt lev h w n).toInt64 * (lostF lev rul riv w h st told).toInt64 + tGr (goes lev h w) (fun v => V v (nxt (stnd rul st told) h)) n := by
  unfold lossL
  exact sm_mix (lo := fun v => (lostF lev rul riv v h st told).toInt64) (V := fun v => V v (nxt (stnd rul st told) h)) hn hw (fun v hv e => by
    have ha := (grp_spec lev v h).1
    rw [e, alike_iff] at ha
    show (lostF lev rul riv v h st told).toInt64 = _
    rw [lostF_al (fun k hk => (ha k hk).symm) hs]) n (Nat.le_refl n)
theorem q_lossFrom {post : Int64 → GS → Prop} {g : GS} {n a0 a1 h w st : Nat} {told : Bool} {V : Nat → Nat → Int64} (hS : SeaS g n) (h0 : z_rules g 0 = nI a0) (h1 : z_rules g 1 = nI a1) (ha0 : 1 ≤ a0 ∧ a0 ≤ 3) (ha1 : 1 ≤ a1 ∧ a1 ≤ 3) (hw : w < n) (hh : h < 8) (hs : st < 7 + h) (hV : h < 7 → ∀ v, v < n → grp (z_levels g) v (h + 1) = v → ∀ s, s < 7 + (h + 1) → z_then g v s = V v s) (hp : post (lossL n (z_weights g) (z_levels g) (z_rules g) (z_rivers g) V h w st told) g) : vPlan_lossFrom g (nI h) (nI w) (wGr (z_weights g) (z_levels g) h w n) (nI st) (bI told) post := by
  have hlt := stn_lt (told := told) ha0 ha1 hs
  have hnx := nxt_lt hlt
  have en := stnd_n h0 h1 ha0.2 ha1.2 st told
  have hn := hS.1
  rw [lossL_eq hS.1 hS.2.2.1 (by rw [en]; exact Or.inl hlt), en] at hp
  unfold vPlan_lossFrom
  refine q_lost h0 h1 ha0 ha1 (by omega) hh hs ?_
  rw [show (7 : Int32) = nI 7 from rfl, nIk 7 (by omega) (by decide)]
  refine ⟨fun c => q_stands h0 h1 (by omega) (q_next (by omega) hh ?_), fun c => ?_⟩
  · have hp2 : post ((wGr (z_weights g) (z_levels g) h w n).toInt64 * (lostF (z_levels g) (z_rules g) (z_rivers g) w h st told).toInt64 + tGr (goes (z_levels g) h w) (fun v => z_then g v (nxt (stn a0 a1 st told) h)) n) g := by
      rw [tGr_cong n (fun v hv e => hV (by omega) v hv (of_decide_eq_true e).2.2 _ hnx)]
      exact hp
    have hl := lp_lf48 hS hw (show h < 7 by omega) (by omega) hp2 (n - w) w (by omega)
    rw [tGr_0 w (Nat.le_refl w), Int64.add_zero] at hl
    exact ⟨_, hl⟩
  · rw [tGr_none n (fun v _ e => by have := (of_decide_eq_true e).2.1; omega), Int64.add_zero] at hp
    exact hp
