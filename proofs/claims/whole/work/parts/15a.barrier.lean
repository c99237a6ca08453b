/-! ===== the barrier in one hour ===== -/
def bI (b : Bool) : Int32 := if b = true then 1 else 0
theorem bI_t : bI true = 1 := rfl
theorem bI_f : bI false = 0 := rfl
def gd (st : Nat) : Prop := st = 0 ∨ (1 ≤ st ∧ st ≤ 2) ∨ (4 ≤ st ∧ st ≤ 5) ∨ 7 ≤ st
def mst (st : Nat) : Nat := if st < 7 then st else st + 2
def stn (a0 a1 st : Nat) (told : Bool) : Nat := if told = true then (if st = 0 then a0 else 3 + a1) else st
theorem stn_t0 (a0 a1 : Nat) : stn a0 a1 0 true = a0 := rfl
theorem stn_t {a0 a1 st : Nat} (h : ¬ st = 0) : stn a0 a1 st true = 3 + a1 := by unfold stn; rw [if_pos rfl, if_neg h]
theorem stn_f (a0 a1 st : Nat) : stn a0 a1 st false = st := rfl
theorem stnd_n {rul : Nat → Int32} {a0 a1 : Nat} (h0 : rul 0 = nI a0) (h1 : rul 1 = nI a1) (ha0 : a0 ≤ 3) (ha1 : a1 ≤ 3) (st : Nat) (told : Bool) : stnd rul st told = stn a0 a1 st told := by
  unfold stnd stn
  rw [h0, h1, nI_clamp (show a0 < 2 ^ 31 by omega), nI_clamp (show a1 < 2 ^ 31 by omega)]
theorem may_iff {st : Nat} : may st = true ↔ (st = 0 ∨ 7 ≤ st) := by
  unfold may
  exact decide_eq_true_iff
theorem nIk {a : Nat} (k : Nat) (ha : a < 2 ^ 31) (hk : k < 2 ^ 31) : (nI a = nI k) = (a = k) := propext (nI_eq ha hk)
theorem nIl {a b : Nat} (ha : a < 2 ^ 31) (hb : b < 2 ^ 31) : (nI a ≤ nI b) = (a ≤ b) := propext (nI_leI ha hb)
theorem nIt {a b : Nat} (ha : a < 2 ^ 31) (hb : b < 2 ^ 31) : (nI a < nI b) = (a < b) := propext (nI_ltI ha hb)
theorem nxt_lt {std h : Nat} (hs : std < 7 + h) : nxt std h < 7 + (h + 1) := by
  unfold nxt
  split
  · omega
  · split
    · omega
    · split <;> omega
theorem nxt_gd {a0 a1 st h : Nat} {told : Bool} (ha0 : 1 ≤ a0 ∧ a0 ≤ 3) (ha1 : 1 ≤ a1 ∧ a1 ≤ 3) (hg : gd st) : gd (nxt (stn a0 a1 st told) h) := by
  unfold gd at hg ⊢
  unfold nxt
  cases told with
  | true =>
    by_cases c : st = 0
    · subst c
      rw [stn_t0]
      repeat' split
      all_goals omega
    · rw [stn_t c]
      repeat' split
      all_goals omega
  | false =>
    rw [stn_f]
    repeat' split
    all_goals omega
theorem stn_lt {a0 a1 st h : Nat} {told : Bool} (ha0 : 1 ≤ a0 ∧ a0 ≤ 3) (ha1 : 1 ≤ a1 ∧ a1 ≤ 3) (hs : st < 7 + h) : stn a0 a1 st told < 7 + h := by
  unfold stn
  repeat' split
  all_goals omega
-- the class
theorem q_stands {post : Int32 → GS → Prop} {g : GS} {a0 a1 st : Nat} {told : Bool} (h0 : z_rules g 0 = nI a0) (h1 : z_rules g 1 = nI a1) (hst : st < 2 ^ 31) (hp : post (nI (stn a0 a1 st told)) g) : vBarrier_stands g (nI st) (bI told) post := by
  unfold vBarrier_stands
  rw [h0, h1, show (0 : Int32) = nI 0 from rfl, nIk 0 hst (by decide)]
  cases told with
  | true =>
    refine ⟨fun _ => ⟨fun q => ?_, fun q => ?_⟩, fun q => absurd q (by decide)⟩
    · rw [stn_t q] at hp
      rw [show (4 : Int32) = nI 4 from rfl, nI_add, show 4 + a1 = (3 + a1) + 1 by omega, nI_pred]
      exact hp
    · subst q
      rw [show (1 : Int32) = nI 1 from rfl, nI_add, Nat.add_comm 1 a0]
      rw [stn_t0] at hp
      have e := nI_pred a0
      rw [show (1 : Int32) = nI 1 from rfl] at e
      rw [e]
      exact hp
  | false => exact ⟨fun q => absurd rfl q, fun _ => hp⟩
theorem q_may {post : Int32 → GS → Prop} {g : GS} {st : Nat} (hst : st < 2 ^ 31) (hp : post (bI (may st)) g) : vBarrier_mayBeTold g (nI st) post := by
  unfold vBarrier_mayBeTold vBarrier_mayBeTold_10
  rw [show (0 : Int32) = nI 0 from rfl, nIk 0 hst (by decide), show (7 : Int32) = nI 7 from rfl, nIt hst (by decide)]
  have ht : (st = 0 ∨ 7 ≤ st) → post 1 g := fun q => by
    rw [may_iff.mpr q] at hp
    exact hp
  refine ⟨fun q => ht (Or.inl q), fun q => ⟨fun q2 => ?_, fun q2 => ht (Or.inr (by omega))⟩⟩
  have e : may st = false := by
    cases c : may st with
    | false => rfl
    | true => have := may_iff.mp c; omega
  rw [e] at hp
  exact hp
theorem q_next {post : Int32 → GS → Prop} {g : GS} {std h : Nat} (hst : std < 2 ^ 30) (hh : h < 8) (hp : post (nI (nxt std h)) g) : vBarrier_next g (nI std) (nI h) post := by
  unfold vBarrier_next
  rw [show (1 : Int32) = nI 1 from rfl, nIk 1 (by omega) (by decide), show (4 : Int32) = nI 4 from rfl, nIk 4 (by omega) (by decide), show (7 : Int32) = nI 7 from rfl, nI_add]
  unfold nxt at hp
  refine ⟨fun c1 => ⟨fun c2 => q_may (by omega) ⟨fun c3 => ?_, fun c3 => ?_⟩, fun c2 => ?_⟩, fun c1 => ?_⟩
  · rw [if_neg c1, if_neg c2] at hp
    have e : ¬ (std = 0 ∨ 7 ≤ std) := fun q => by
      rw [may_iff.mpr q] at c3
      exact absurd c3 (by decide)
    rw [if_neg e] at hp
    rw [pk_sub (by omega)]
    exact hp
  · rw [if_neg c1, if_neg c2] at hp
    have e : std = 0 ∨ 7 ≤ std := by
      refine may_iff.mp ?_
      cases c : may std with
      | true => rfl
      | false =>
        rw [c] at c3
        exact absurd rfl c3
    rw [if_pos e] at hp
    exact hp
  · rw [if_neg c1, if_pos c2] at hp
    exact hp
  · rw [if_pos c1] at hp
    exact hp
theorem lp_water {post : Int32 → GS → Prop} {g : GS} {h f N : Nat} {v : Int32} (hh : h < 8) (hN : f + N = h + 1) (hp : post (v + rsum (z_rivers g) f N) g) : ∀ d k : Nat, k + d = N → vBarrier_water_48 post (d + 1) (nI h) (v + rsum (z_rivers g) f k) (nI (f + k)) g := by
  intro d
  induction d with
  | zero =>
    intro k hk
    have e : k = N := by omega
    subst e
    unfold vBarrier_water_48
    exact ⟨fun _ => hp, fun q => absurd (nI_lt (show h < f + k by omega) (by omega)) q⟩
  | succ d ih =>
    intro k hk
    have ih := ih (k + 1) (by omega)
    unfold rsum at ih
    unfold vBarrier_water_48
    rw [nI_clamp (show f + k < 2 ^ 31 by omega), nI_1, nIt (by omega) (by omega), Int32.add_assoc]
    exact ⟨fun q => by omega, fun _ => ⟨vp_in_nI (by omega) (by decide), ih⟩⟩
theorem q_water {post : Int32 → GS → Prop} {g : GS} {w h std : Nat} (hw : w < 8) (hh : h < 8) (hs : std < 7 + h ∨ std < 7) (hp : post (wat (z_levels g) (z_rivers g) w h std) g) : vBarrier_water g (nI w) (nI h) (nI std) post := by
  unfold vBarrier_water
  unfold wat at hp
  have hin : vp_in (nI w) 8 := vp_in_nI hw (by decide)
  rw [show (7 : Int32) = nI 7 from rfl, nIl (by decide) (by omega)]
  refine ⟨fun c => ?_, fun c => ?_⟩
  · rw [if_neg (by omega)] at hp
    rw [pk_sub c, if_neg (Int32.not_lt.mpr (nI_le (show std - 7 ≤ h by omega) (by omega))), nI_clamp (show w < 2 ^ 31 by omega), nI_clamp (show std - 7 < 2 ^ 31 by omega), nI_1]
    refine ⟨hin, vp_in_nI (by omega) (by decide), (h + 7 - std) + 1, ?_⟩
    have hl := lp_water (g := g) (f := std - 6) (N := h + 7 - std) (v := z_levels g w (std - 7)) hh (by omega) hp (h + 7 - std) 0 (by omega)
    unfold rsum at hl
    rw [Int32.add_zero, Nat.add_zero, show std - 6 = std - 7 + 1 by omega] at hl
    exact hl
  · rw [if_pos (by omega)] at hp
    rw [nI_clamp (show w < 2 ^ 31 by omega), nI_clamp (show h < 2 ^ 31 by omega)]
    exact ⟨hin, vp_in_nI hh (by decide), hp⟩
theorem q_lost {post : Int32 → GS → Prop} {g : GS} {a0 a1 w h st : Nat} {told : Bool} (h0 : z_rules g 0 = nI a0) (h1 : z_rules g 1 = nI a1) (ha0 : 1 ≤ a0 ∧ a0 ≤ 3) (ha1 : 1 ≤ a1 ∧ a1 ≤ 3) (hw : w < 8) (hh : h < 8) (hs : st < 7 + h) (hp : post (lostF (z_levels g) (z_rules g) (z_rivers g) w h st told) g) : vBarrier_lost g (nI w) (nI h) (nI st) (bI told) post := by
  unfold vBarrier_lost
  have hlt := stn_lt (told := told) ha0 ha1 hs
  refine q_stands h0 h1 (by omega) (q_water hw hh (Or.inl hlt) ?_)
  unfold lostF at hp
  rw [stnd_n h0 h1 ha0.2 ha1.2] at hp
  unfold vBarrier_lost_73 vBarrier_lost_74
  rw [show (7 : Int32) = nI 7 from rfl, nIt (by omega) (by decide)]
  refine ⟨fun c => ?_, fun c => ?_⟩
  · rw [if_neg (by omega)] at hp
    have ew : wat (z_levels g) (z_rivers g) w h (stn a0 a1 st told) = z_levels g w h := by
      unfold wat
      rw [if_pos c]
    rw [ew]
    rw [show (0 : Int32) = nI 0 from rfl, nIk (a := st) 0 (by omega) (by decide)]
    refine ⟨fun q => ?_, fun q => ⟨fun q2 => ?_, fun q2 => ?_⟩⟩
    · have e : told = false := by
        cases told with
        | false => rfl
        | true => exact absurd q (by decide)
      rw [if_neg (fun z => by rw [e] at z; exact absurd z.1 (by decide))] at hp
      exact hp
    · rw [if_neg (fun z => q2 z.2)] at hp
      exact hp
    · have e : told = true := by
        cases told with
        | true => rfl
        | false => exact absurd rfl q
      rw [if_pos ⟨e, q2⟩] at hp
      exact hp
  · rw [if_pos (by omega)] at hp
    exact hp
