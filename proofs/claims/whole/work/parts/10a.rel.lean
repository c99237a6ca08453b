/-! ===== the relation between the class's record (GS) and the reference's (GM) ===== -/
-- numbers
theorem i10 : ((1 : Int32) = 0) = False := by decide
theorem i00 : ((0 : Int32) = 0) = True := by decide
theorem i20 : ((2 : Int32) = 0) = False := by decide
theorem i50 : ((5 : Int32) = 0) = False := by decide
theorem fa_wide_lt (a b : Int32) : a.toInt64 < b.toInt64 ↔ a < b := by
  rw [Int64.lt_iff_toInt_lt, Int32.lt_iff_toInt_lt, Int32.toInt_toInt64, Int32.toInt_toInt64]
theorem fa_wide_le (a b : Int32) : a.toInt64 ≤ b.toInt64 ↔ a ≤ b := by
  rw [Int64.le_iff_toInt_le, Int32.le_iff_toInt_le, Int32.toInt_toInt64, Int32.toInt_toInt64]
theorem nlt_iff {a b : Int32} : ¬ a < b ↔ b ≤ a := Int32.not_lt
theorem nle_iff {a b : Int32} : ¬ a ≤ b ↔ b < a := Int32.not_le
theorem nI_inj {a b : Nat} (ha : a < 2 ^ 31) (hb : b < 2 ^ 31) (h : nI a = nI b) : a = b := (nI_eq ha hb).mp h
theorem nI_nm1 {n : Nat} (h : n < 2 ^ 31) : ¬ nI n = -1 := fun e => by
  have h1 := congrArg Int32.toInt e
  rw [nI_toInt h] at h1
  have h2 : (-1 : Int32).toInt = -1 := by decide
  rw [h2] at h1
  omega
theorem nI_n0 {n : Nat} (h : n < 2 ^ 31) : ¬ nI n < 0 := nI_pos h
theorem nI_p0 {n : Nat} (h : n < 2 ^ 31) : (0 : Int32) ≤ nI n := nI_pos' h
theorem ix8 (x : Int32) : (¬ (0 ≤ x ∧ x ≤ 7)) ∨ ∃ j : Nat, j < 8 ∧ x = nI j ∧ (0 ≤ x ∧ x ≤ 7) := by
  by_cases h : 0 ≤ x ∧ x ≤ 7
  · obtain ⟨j, hj, e⟩ := nI_of2 (x := x) (M := 7) (n := 7) (by decide) (by rw [Int32.not_lt]; exact h.1) h.2
    exact Or.inr ⟨j, by omega, e, h⟩
  · exact Or.inl h
theorem ixn (x : Int32) (n : Nat) (hn : n < 2 ^ 31) : (¬ (0 ≤ x ∧ x < nI n)) ∨ ∃ j : Nat, j < n ∧ x = nI j := by
  by_cases h : 0 ≤ x ∧ x < nI n
  · obtain ⟨j, hj, rfl⟩ := nI_of (x := x) (by rw [Int32.not_lt]; exact h.1)
    exact Or.inr ⟨j, (nI_ltI hj hn).mp h.2, rfl⟩
  · exact Or.inl h
-- the small ones: what they answer
theorem q_within {g : GS} {v lo hi : Int32} {post : Int32 → GS → Prop} : vSG_within g v lo hi post ↔ (if lo ≤ v ∧ v ≤ hi then post 1 g else post 0 g) := by
  unfold vSG_within
  by_cases h1 : v < lo
  · rw [if_neg (fun h => (Int32.not_le.mpr h1) h.1)]
    exact ⟨fun h => h.1 h1, fun h => ⟨fun _ => h, fun q => absurd h1 q⟩⟩
  · by_cases h2 : hi < v
    · rw [if_neg (fun h => (Int32.not_le.mpr h2) h.2)]
      exact ⟨fun h => (h.2 h1).1 h2, fun h => ⟨fun q => absurd q h1, fun _ => ⟨fun _ => h, fun q => absurd h2 q⟩⟩⟩
    · rw [if_pos ⟨Int32.not_lt.mp h1, Int32.not_lt.mp h2⟩]
      exact ⟨fun h => (h.2 h1).2 h2, fun h => ⟨fun q => absurd q h1, fun _ => ⟨fun q => absurd q h2, fun _ => h⟩⟩⟩
theorem q_in {g : GM} {v lo hi : Int32} {post : Int32 → GM → Prop} : vM_in g v.toInt64 lo.toInt64 hi.toInt64 post ↔ (if lo ≤ v ∧ v ≤ hi then post 1 g else post 0 g) := by
  unfold vM_in
  rw [fa_wide_lt, fa_wide_lt]
  by_cases h1 : v < lo
  · rw [if_neg (fun h => (Int32.not_le.mpr h1) h.1)]
    exact ⟨fun h => h.1 h1, fun h => ⟨fun _ => h, fun q => absurd h1 q⟩⟩
  · by_cases h2 : hi < v
    · rw [if_neg (fun h => (Int32.not_le.mpr h2) h.2)]
      exact ⟨fun h => (h.2 h1).1 h2, fun h => ⟨fun q => absurd q h1, fun _ => ⟨fun _ => h, fun q => absurd h2 q⟩⟩⟩
    · rw [if_pos ⟨Int32.not_lt.mp h1, Int32.not_lt.mp h2⟩]
      exact ⟨fun h => (h.2 h1).2 h2, fun h => ⟨fun q => absurd q h1, fun _ => ⟨fun q => absurd q h2, fun _ => h⟩⟩⟩
theorem q_in0 (n : Nat) (N : Int64) (hN : (nI n).toInt64 = N) {g : GM} {v : Int32} {post : Int32 → GM → Prop} : vM_in g v.toInt64 0 N post ↔ (if 0 ≤ v ∧ v ≤ nI n then post 1 g else post 0 g) := by
  have h := @q_in g v 0 (nI n) post
  rw [hN] at h
  exact h
theorem q_isSheet {g : GM} {v : Int32} {post : Int32 → GM → Prop} : vM_isSheet g v post ↔ (if 0 ≤ v ∧ v ≤ 7 then post 1 g else post 0 g) := by
  unfold vM_isSheet
  rw [q_in0 7 7 rfl]
  have e1 : jz 1 := Or.inr rfl
  have e0 : jz 0 := Or.inl rfl
  simp only [e1, e0, true_and]
  rfl
-- worlds with like levels
def alike (L : Nat → Nat → Int32) (v w h : Nat) : Bool := (List.range (h + 1)).all (fun k => L v k == L w k)
theorem alike_iff {L : Nat → Nat → Int32} {v w h : Nat} : alike L v w h = true ↔ ∀ k, k ≤ h → L v k = L w k := by
  unfold alike
  rw [List.all_eq_true]
  constructor
  · intro q k hk
    exact beq_iff_eq.mp (q k (List.mem_range.mpr (by omega)))
  · intro q k hk
    exact beq_iff_eq.mpr (q k (by have := List.mem_range.mp hk; omega))
/-- the least world of the same group, from v on -/
def grS (L : Nat → Nat → Int32) (w h : Nat) : Nat → Nat → Nat
  | 0, v => v
  | f + 1, v => if v < w ∧ alike L v w h = false then grS L w h f (v + 1) else v
def grp (L : Nat → Nat → Int32) (w h : Nat) : Nat := grS L w h w 0
theorem grS_spec {L : Nat → Nat → Int32} {w h : Nat} : ∀ f v, v + f = w → (∀ u, u < v → alike L u w h = false) → alike L (grS L w h f v) w h = true ∧ grS L w h f v ≤ w ∧ ∀ u, u < grS L w h f v → alike L u w h = false
  | 0, v, e, hu => by
    have e2 : v = w := by omega
    subst e2
    exact ⟨alike_iff.mpr (fun _ _ => rfl), Nat.le_refl _, hu⟩
  | f + 1, v, e, hu => by
    unfold grS
    by_cases c : v < w ∧ alike L v w h = false
    · rw [if_pos c]
      exact grS_spec f (v + 1) (by omega) (fun u hu2 => by
        rcases Nat.lt_or_ge u v with q | q
        · exact hu u q
        · have : u = v := by omega
          subst this
          exact c.2)
    · rw [if_neg c]
      have c2 : alike L v w h = true := by
        cases q : alike L v w h with
        | true => rfl
        | false => exact absurd ⟨by omega, q⟩ c
      exact ⟨c2, by omega, hu⟩
theorem grp_spec (L : Nat → Nat → Int32) (w h : Nat) : alike L (grp L w h) w h = true ∧ grp L w h ≤ w ∧ ∀ u, u < grp L w h → alike L u w h = false := grS_spec w 0 (by omega) (fun u hu => absurd hu (Nat.not_lt_zero u))
theorem grp_eq {L : Nat → Nat → Int32} {w h a : Nat} (h1 : alike L a w h = true) (h3 : ∀ u, u < a → alike L u w h = false) : grp L w h = a := by
  obtain ⟨q1, -, q3⟩ := grp_spec L w h
  rcases Nat.lt_trichotomy (grp L w h) a with e | e | e
  · rw [h3 _ e] at q1
    cases q1
  · exact e
  · rw [q3 _ e] at h1
    cases h1
theorem alike_cong {L L' : Nat → Nat → Int32} {v w h : Nat} (hv : ∀ k, k ≤ h → L v k = L' v k) (hw : ∀ k, k ≤ h → L w k = L' w k) : alike L v w h = alike L' v w h := by
  have e : alike L v w h = true ↔ alike L' v w h = true := by
    rw [alike_iff, alike_iff]
    constructor
    · intro q k hk
      rw [← hv k hk, ← hw k hk]
      exact q k hk
    · intro q k hk
      rw [hv k hk, hw k hk]
      exact q k hk
  cases a : alike L v w h <;> cases b : alike L' v w h <;> simp_all
theorem grp_cong {L L' : Nat → Nat → Int32} {w h : Nat} (hl : ∀ v, v ≤ w → ∀ k, k ≤ h → L v k = L' v k) : grp L w h = grp L' w h := by
  obtain ⟨q1, q2, q3⟩ := grp_spec L' w h
  exact grp_eq (by rw [alike_cong (hl _ q2) (hl w (Nat.le_refl w))]; exact q1) (fun u hu => by rw [alike_cong (hl u (by omega)) (hl w (Nat.le_refl w))]; exact q3 u hu)
-- the barrier, by the class's numbers of its states
def stnd (rul : Nat → Int32) (st : Nat) (told : Bool) : Nat := if told = true then (if st = 0 then (rul 0).toNatClampNeg else 3 + (rul 1).toNatClampNeg) else st
def nxt (std h : Nat) : Nat := if std = 1 then 7 + h else if std = 4 then 0 else if std = 0 ∨ 7 ≤ std then std else std - 1
def rsum (riv : Nat → Int32) (f : Nat) : Nat → Int32
  | 0 => 0
  | n + 1 => rsum riv f n + riv (f + n)
def wat (lev : Nat → Nat → Int32) (riv : Nat → Int32) (w h std : Nat) : Int32 := if std < 7 then lev w h else lev w (std - 7) + rsum riv (std - 6) (h + 7 - std)
def mx0 (x : Int32) : Int32 := if 0 < x then x else 0
def lostF (lev : Nat → Nat → Int32) (rul riv : Nat → Int32) (w h st : Nat) (told : Bool) : Int32 :=
  if 7 ≤ stnd rul st told then rul 5 + rul 7 * mx0 (wat lev riv w h (stnd rul st told) - rul 3) else (if told = true ∧ st = 0 then rul 4 else 0) + rul 6 * mx0 (lev w h - rul 2)
def may (st : Nat) : Bool := decide (st = 0 ∨ 7 ≤ st)
def sm64 (f : Nat → Int64) : Nat → Int64
  | 0 => 0
  | n + 1 => sm64 f n + f n
/-- what is lost by the group of head w from hour h on, V: what the hours behind it cost at least -/
def lossL (n : Nat) (wgt : Nat → Int32) (lev : Nat → Nat → Int32) (rul riv : Nat → Int32) (V : Nat → Nat → Int64) (h w st : Nat) (told : Bool) : Int64 :=
  sm64 (fun v => if grp lev v h = w then (wgt v).toInt64 * (lostF lev rul riv v h st told).toInt64 + (if h < 7 ∧ grp lev v (h + 1) = v then V v (nxt (stnd rul st told) h) else 0) else 0) n
def tolB (n : Nat) (wgt : Nat → Int32) (lev : Nat → Nat → Int32) (rul riv : Nat → Int32) (V : Nat → Nat → Int64) (h w st : Nat) : Bool :=
  may st && decide (lossL n wgt lev rul riv V h w st true < lossL n wgt lev rul riv V h w st false)
/-- the least loss from hour 8 - d on -/
def Vd (n : Nat) (wgt : Nat → Int32) (lev : Nat → Nat → Int32) (rul riv : Nat → Int32) : Nat → Nat → Nat → Int64
  | 0 => fun _ _ => 0
  | d + 1 => fun w st => lossL n wgt lev rul riv (Vd n wgt lev rul riv d) (7 - d) w st (tolB n wgt lev rul riv (Vd n wgt lev rul riv d) (7 - d) w st)
def tol (n : Nat) (wgt : Nat → Int32) (lev : Nat → Nat → Int32) (rul riv : Nat → Int32) (h w st : Nat) : Bool := tolB n wgt lev rul riv (Vd n wgt lev rul riv (7 - h)) h w st
def bestF (n : Nat) (wgt : Nat → Int32) (lev : Nat → Nat → Int32) (rul riv : Nat → Int32) : Int64 := sm64 (fun v => if grp lev v 0 = v then Vd n wgt lev rul riv 8 v 0 else 0) n
-- the relation
def RSh (items : Nat → Nat → Int32) (lanes sizes lane many item : Nat → Int32) : Prop :=
  (∀ s, s < 8 → (sizes s = -1 ∧ lane s = -1) ∨ ∃ n l : Nat, n ≤ 60 ∧ l ≤ 2 ∧ sizes s = nI n ∧ many s = nI n ∧ lanes s = nI l ∧ lane s = nI l) ∧ ∀ s k, s < 8 → k < 60 → items s k = item (60 * s + k)
def RWo (weights : Nat → Int32) (levels heads : Nat → Nat → Int32) (ssize worlds : Int32) (weight sea : Nat → Int32) : Prop :=
  ∃ n : Nat, n ≤ 8 ∧ ssize = nI n ∧ worlds = nI n ∧ (∀ w, w < n → ∃ a : Nat, 1 ≤ a ∧ a ≤ 20 ∧ weights w = nI a ∧ weight w = nI a) ∧ (∀ w h, w < n → h < 8 → ∃ a : Nat, a ≤ 1000 ∧ levels w h = nI a ∧ sea (8 * w + h) = nI a) ∧ (∀ h w, h < 8 → w < n → heads h w = nI (grp levels w h))
def RRu (rules rivers rule river : Nat → Int32) : Prop := (∀ i, i < 8 → ∃ a : Nat, a ≤ 1000 ∧ (i < 2 → 1 ≤ a ∧ a ≤ 3) ∧ rules i = nI a ∧ rule i = nI a) ∧ ∀ i, i < 8 → ∃ a : Nat, a ≤ 100 ∧ rivers i = nI a ∧ river i = nI a
def RPl (weights : Nat → Int32) (levels : Nat → Nat → Int32) (ssize : Int32) (rules rivers : Nat → Int32) (orders : Nat → Nat → Int32) (loss : Int64) (stale : Int32) : Prop :=
  (stale = 0 ∨ stale = 1) ∧ (stale = 0 → loss = bestF ssize.toNatClampNeg weights levels rules rivers ∧ ∀ h w, h < 8 → w < ssize.toNatClampNeg → grp levels w h = w → ∀ st, st < 7 + h → (((orders h w) >>> (nI st &&& 31)) &&& 1 = 1 ↔ tol ssize.toNatClampNeg weights levels rules rivers h w st = true))
def RGa (ga : Nat → Option Nat) (rsize : Int32) (gk : Nat → Nat) (gm gh gf : Nat → Int32) (gn : Nat) (gates : Int32) (minutes hand hasFailed : Nat → Int32) : Prop :=
  gn ≤ 6 ∧ rsize = nI gn ∧ gates = nI gn ∧ (∀ j, ga j = if j < gn then some j else none) ∧ (∀ j, j < gn → ∃ a b : Nat, 1 ≤ a ∧ a ≤ 500 ∧ b ≤ 2000 ∧ gm j = nI a ∧ minutes j = nI a ∧ gh j = nI b ∧ hand j = nI b ∧ gk j = kd (nI a) (nI b) ∧ gf j = hasFailed j ∧ jz (gf j)) ∧ ∀ j, gn ≤ j → j < 6 → hasFailed j = 0
def RSp (fmin fpass inTurn : Nat → Int32) (fsize ships : Int32) (comes takes : Nat → Int32) : Prop :=
  ∃ (n : Nat) (p a b : Nat → Nat), n ≤ 20 ∧ fsize = nI n ∧ ships = nI n ∧ (∀ j, j < n → a j ≤ 100000 ∧ 1 ≤ b j ∧ b j ≤ 500 ∧ fmin j = nI (a j) ∧ comes j = nI (a j) ∧ fpass j = nI (b j) ∧ takes j = nI (b j)) ∧ (∀ j, j < n → p j < n ∧ inTurn j = nI (p j)) ∧ (∀ i j, i < j → j < n → a (p i) < a (p j) ∨ (a (p i) = a (p j) ∧ p i < p j)) ∧ (∀ w, w < n → ∃ k, k < n ∧ p k = w)
def RTr (numbers : Nat → Int32) (tlen : Int32) (trace : Nat → Int32) (traced : Int32) : Prop := ∃ t : Nat, t ≤ 16 ∧ tlen = nI t ∧ traced = nI t ∧ ∀ j, j < t → numbers j = trace j
def R1 (x : (Nat → Nat → Int32) × (Nat → Int32) × (Nat → Int32)) (y : (Nat → Int32) × (Nat → Int32) × (Nat → Int32)) : Prop := RSh x.1 x.2.1 x.2.2 y.1 y.2.1 y.2.2
def R2 (x : (Nat → Int32) × (Nat → Nat → Int32) × (Nat → Nat → Int32) × Int32 × (Nat → Int32) × (Nat → Int32) × (Nat → Nat → Int32) × Int64 × Int32) (y : Int32 × (Nat → Int32) × (Nat → Int32) × (Nat → Int32) × (Nat → Int32)) : Prop := RWo x.1 x.2.1 x.2.2.1 x.2.2.2.1 y.1 y.2.1 y.2.2.1 ∧ RRu x.2.2.2.2.1 x.2.2.2.2.2.1 y.2.2.2.1 y.2.2.2.2 ∧ RPl x.1 x.2.1 x.2.2.2.1 x.2.2.2.2.1 x.2.2.2.2.2.1 x.2.2.2.2.2.2.1 x.2.2.2.2.2.2.2.1 x.2.2.2.2.2.2.2.2
def R3 (x : (Nat → Option Nat) × Int32 × (Nat → Nat) × (Nat → Int32) × (Nat → Int32) × (Nat → Int32) × Nat) (y : Int32 × (Nat → Int32) × (Nat → Int32) × (Nat → Int32)) : Prop := RGa x.1 x.2.1 x.2.2.1 x.2.2.2.1 x.2.2.2.2.1 x.2.2.2.2.2.1 x.2.2.2.2.2.2 y.1 y.2.1 y.2.2.1 y.2.2.2
def R4 (x : (Nat → Int32) × (Nat → Int32) × (Nat → Int32) × Int32) (y : Int32 × (Nat → Int32) × (Nat → Int32)) : Prop := RSp x.1 x.2.1 x.2.2.1 x.2.2.2 y.1 y.2.1 y.2.2
def R5 (x : (Nat → Int32) × Int32) (y : (Nat → Int32) × Int32) : Prop := RTr x.1 x.2 y.1 y.2
def R (g : GS) (m : GM) : Prop := R1 (vSh g) (uSh m) ∧ z_finding g = m_status m ∧ R2 (vSea g) (uSea m) ∧ R3 (vGa g) (uGa m) ∧ R4 (vSp g) (uSp m) ∧ R5 (vTr g) (uTr m)
theorem R.sh {g : GS} {m : GM} (h : R g m) : RSh (z_items g) (z_lanes g) (z_sizes g) (m_lane m) (m_many m) (m_item m) := h.1
theorem R.wo {g : GS} {m : GM} (h : R g m) : RWo (z_weights g) (z_levels g) (z_heads g) (z_ssize g) (m_worlds m) (m_weight m) (m_sea m) := h.2.2.1.1
theorem R.ru {g : GS} {m : GM} (h : R g m) : RRu (z_rules g) (z_rivers g) (m_rule m) (m_river m) := h.2.2.1.2.1
theorem R.pl {g : GS} {m : GM} (h : R g m) : RPl (z_weights g) (z_levels g) (z_ssize g) (z_rules g) (z_rivers g) (z_orders g) (z_loss g) (z_stale g) := h.2.2.1.2.2
theorem R.ga {g : GS} {m : GM} (h : R g m) : RGa (z_ga g) (z_rsize g) (z_gk g) (z_gm g) (z_gh g) (z_gf g) (z_gn g) (m_gates m) (m_minutes m) (m_hand m) (m_hasFailed m) := h.2.2.2.1
theorem R.sp {g : GS} {m : GM} (h : R g m) : RSp (z_fmin g) (z_fpass g) (z_inTurn g) (z_fsize g) (m_ships m) (m_comes m) (m_takes m) := h.2.2.2.2.1
theorem R.tr {g : GS} {m : GM} (h : R g m) : RTr (z_numbers g) (z_tlen g) (m_trace m) (m_traced m) := h.2.2.2.2.2
