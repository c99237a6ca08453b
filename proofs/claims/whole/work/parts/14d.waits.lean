/-! ===== waits ===== -/
def bit (x : Int32) (i : Nat) : Bool := x.toBitVec.getLsbD i
theorem bit_sh : ∀ n, n < 32 → ((nI n &&& 31).toBitVec.smod 32).toNat = n := by decide +kernel
theorem bit_one : ∀ i, i < 32 → bit 1 i = decide (i = 0) := by decide +kernel
theorem bit_pow : ∀ b, b < 32 → ∀ i, i < 32 → bit ((1 : Int32) <<< (nI b &&& 31)) i = decide (i = b) := by decide +kernel
theorem bit_and (x y : Int32) (i : Nat) : bit (x &&& y) i = (bit x i && bit y i) := by
  unfold bit
  rw [Int32.toBitVec_and, BitVec.getLsbD_and]
theorem bit_or (x y : Int32) (i : Nat) : bit (x ||| y) i = (bit x i || bit y i) := by
  unfold bit
  rw [Int32.toBitVec_or, BitVec.getLsbD_or]
theorem bit_eq {x y : Int32} (h : ∀ i, i < 32 → bit x i = bit y i) : x = y := Int32.toBitVec_inj.mp (BitVec.eq_of_getLsbD_eq (fun i hi => h i hi))
theorem bit_shr {n : Nat} (hn : n < 32) (x : Int32) : bit (x >>> (nI n &&& 31)) 0 = bit x n := by
  show (BitVec.sshiftRight x.toBitVec ((nI n &&& 31).toBitVec.smod 32).toNat).getLsbD 0 = x.toBitVec.getLsbD n
  rw [bit_sh n hn, BitVec.getLsbD_sshiftRight]
  simp [hn]
theorem bit_t0 {n : Nat} (hn : n < 32) (x : Int32) : ((x >>> (nI n &&& 31)) &&& 1) = 0 ↔ bit x n = false := by
  rw [← bit_shr hn x]
  generalize x >>> (nI n &&& 31) = y
  constructor
  · intro h
    have h1 := congrArg (fun z => bit z 0) h
    rw [bit_and, show bit 1 0 = true from rfl, Bool.and_true] at h1
    exact h1
  · intro h
    refine bit_eq (fun i hi => ?_)
    rw [bit_and, bit_one i hi]
    by_cases e : i = 0
    · rw [e, h]
      rfl
    · rw [decide_eq_false e, Bool.and_false]
      exact BitVec.getLsbD_zero.symm
theorem bit_t1 {n : Nat} (hn : n < 32) (x : Int32) : ((x >>> (nI n &&& 31)) &&& 1) = 1 ↔ bit x n = true := by
  rw [← bit_shr hn x]
  generalize x >>> (nI n &&& 31) = y
  constructor
  · intro h
    have h1 := congrArg (fun z => bit z 0) h
    rw [bit_and, show bit 1 0 = true from rfl, Bool.and_true] at h1
    exact h1
  · intro h
    refine bit_eq (fun i hi => ?_)
    rw [bit_and, bit_one i hi]
    by_cases e : i = 0
    · rw [e, h]
      rfl
    · rw [decide_eq_false e, Bool.and_false]
def stt (x2 x3 t cm : Int32) : Int32 := if (if t < cm then cm else t) < x2 then (if t < cm then cm else t) else if x3 ≤ (if t < cm then cm else t) then (if t < cm then cm else t) else x3
def clk (x2 x3 : Int32) (cm tk : Nat → Int32) (p : Nat → Nat) : Nat → Int32
  | 0 => 0
  | k + 1 => stt x2 x3 (clk x2 x3 cm tk p k) (cm (p k)) + tk (p k)
theorem lp_waitOf {post : Int32 → GS → Prop} {g : GS} {n w k0 : Nat} {p : Nat → Nat} {x2 x3 : Int32} (en : z_fsize g = nI n) (hn : n ≤ 20) (hT : ∀ j, j < n → p j < n ∧ z_inTurn g j = nI (p j)) (hk0 : k0 < n) (hw : p k0 = w) (hinj : ∀ j, j < n → p j = w → j = k0) (hp : post (stt x2 x3 (clk x2 x3 (z_fmin g) (z_fpass g) p k0) (z_fmin g w) - z_fmin g w) g) : ∀ (d k : Nat) (x4 : Int32), k + d = n → (k0 < k → x4 = stt x2 x3 (clk x2 x3 (z_fmin g) (z_fpass g) p k0) (z_fmin g w) - z_fmin g w) → vFairway_waitOf_9 post (d + 1) (nI w) x2 x3 x4 (clk x2 x3 (z_fmin g) (z_fpass g) p k) (nI k) g := by
  intro d
  induction d with
  | zero =>
    intro k x4 hk hx
    unfold vFairway_waitOf_9
    rw [en]
    refine ⟨fun _ => ?_, fun q => absurd (nI_le (show n ≤ k by omega) (by omega)) q⟩
    rw [hx (by omega)]
    exact hp
  | succ d ih =>
    intro k x4 hk hx
    obtain ⟨t1, t2⟩ := hT k (by omega)
    have hin : vp_in (nI (p k)) 20 := vp_in_nI (by omega) (by decide)
    have hwn : w < n := by
      rw [← hw]
      exact (hT k0 hk0).1
    have key : vFairway_waitOf_56 post (fun x1 x2 x3 x4 x5 x6 g => vFairway_waitOf_9 post (d + 1) x1 x2 x3 x4 x5 x6 g) (nI w) x2 x3 x4 (nI k) (nI (p k)) (stt x2 x3 (clk x2 x3 (z_fmin g) (z_fpass g) p k) (z_fmin g (p k))) g := by
      unfold vFairway_waitOf_56 vFairway_waitOf_74
      rw [nI_clamp (show p k < 2 ^ 31 by omega), nI_1]
      refine ⟨fun q => ⟨hin, ih (k + 1) x4 (by omega) (fun z => ?_)⟩, fun q => ⟨hin, hin, ih (k + 1) _ (by omega) (fun z => ?_)⟩⟩
      · refine hx ?_
        rcases Nat.lt_or_ge k0 k with e | e
        · exact e
        · have e2 : k = k0 := by omega
          exact absurd (by rw [e2, hw]) q
      · have e1 : p k = w := nI_inj (by omega) (by omega) q
        have e2 : k = k0 := hinj k (by omega) e1
        rw [e2, hw]
    unfold vFairway_waitOf_9
    rw [en, nI_clamp (show k < 2 ^ 31 by omega), t2, nI_clamp (show p k < 2 ^ 31 by omega)]
    unfold stt at key
    refine ⟨fun q => absurd q (nI_ge (show k < n by omega) (by omega)), fun _ => ⟨vp_in_nI (by omega) (by decide), hin, fun q => ?_, fun q => ⟨fun q2 => ?_, fun q2 => ?_⟩⟩⟩
    · rw [if_pos q] at key
      exact key
    · rw [if_neg q, if_pos q2] at key
      exact key
    · rw [if_neg q, if_neg q2] at key
      exact key
theorem lp_M_sel {post : Int32 → GM → Prop} {K : Int32 → Int32 → Int32 → Int32 → Int32 → GM → Prop} {m : GM} {n k : Nat} {p a : Nat → Nat} {x1 x2 x3 x4 x5 : Int32} (en : m_ships m = nI n) (hn : n ≤ 20) (hk : k < n) (hT : ∀ j, j < n → p j < n) (ha : ∀ j, j < n → a j ≤ 100000 ∧ m_comes m j = nI (a j)) (hso : ∀ i j, i < j → j < n → a (p i) < a (p j) ∨ (a (p i) = a (p j) ∧ p i < p j)) (hg : ∀ j, j < n → (bit x4 j = false ↔ ∃ q, k ≤ q ∧ q < n ∧ p q = j)) (hp : vM_waits_115 post K x1 x2 x3 x4 x5 (nI (p k)) m) : ∀ (d j : Nat) (x6 : Int32), j + d = n → ((x6 = -1000000 ∧ ∀ i, i < j → bit x4 i = true) ∨ ∃ b, b < j ∧ x6 = nI b ∧ bit x4 b = false ∧ ∀ i, i < j → bit x4 i = false → a b < a i ∨ (a b = a i ∧ b ≤ i)) → vM_waits_62 post K (d + 1) x1 x2 x3 x4 x5 x6 (nI j) m := by
  intro d
  induction d with
  | zero =>
    intro j x6 hj hx
    have e : j = n := by omega
    subst e
    unfold vM_waits_62
    rw [en]
    refine ⟨fun _ => ?_, fun q => absurd (nI_le (Nat.le_refl j) (by omega)) q⟩
    have hf : bit x4 (p k) = false := (hg (p k) (hT k hk)).mpr ⟨k, Nat.le_refl k, hk, rfl⟩
    rcases hx with ⟨-, hx⟩ | ⟨b, hb, rfl, hb2, hx⟩
    · rw [hx (p k) (hT k hk)] at hf
      cases hf
    · obtain ⟨q, q1, q2, q3⟩ := (hg b hb).mp hb2
      have e : q = k := by
        rcases Nat.lt_or_ge k q with e | e
        · have s1 := hso k q e q2
          have s2 := hx (p k) (hT k hk) hf
          rw [q3] at s1
          omega
        · omega
      rw [← q3, e]
      exact hp
  | succ d ih =>
    intro j x6 hj hx
    unfold vM_waits_62 vM_waits_109 vM_waits_105 vM_waits_109
    rw [en, nI_1, bit_t0 (show j < 32 by omega), nI_clamp (show j < 2 ^ 31 by omega), (ha j (by omega)).2]
    have hnew : bit x4 j = false → (∀ i, i < j → bit x4 i = false → a j < a i) → vM_waits_62 post K (d + 1) x1 x2 x3 x4 x5 (nI j) (nI (j + 1)) m := fun hf hi => ih (j + 1) (nI j) (by omega) (Or.inr ⟨j, by omega, rfl, hf, fun i hi2 hi3 => by
      rcases Nat.lt_or_ge i j with e | e
      · exact Or.inl (hi i e hi3)
      · have e2 : i = j := by omega
        rw [e2]
        exact Or.inr ⟨rfl, Nat.le_refl j⟩⟩)
    refine ⟨fun q => absurd q (nI_ge (show j < n by omega) (by omega)), fun _ => ⟨fun q => ?_, fun q => ⟨fun q2 => ?_, fun q2 => ⟨vp_in_nI (by omega) (by decide), ?_⟩⟩⟩⟩
    · have hb : bit x4 j = true := by
        cases e : bit x4 j with
        | true => rfl
        | false => exact absurd e q
      refine ih (j + 1) x6 (by omega) ?_
      rcases hx with ⟨h1, h2⟩ | ⟨b, h1, h2, h3, h4⟩
      · refine Or.inl ⟨h1, fun i hi => ?_⟩
        rcases Nat.lt_or_ge i j with e | e
        · exact h2 i e
        · have e2 : i = j := by omega
          rw [e2]
          exact hb
      · refine Or.inr ⟨b, by omega, h2, h3, fun i hi hi2 => ?_⟩
        rcases Nat.lt_or_ge i j with e | e
        · exact h4 i e hi2
        · have e2 : i = j := by omega
          rw [e2, hb] at hi2
          cases hi2
    · rcases hx with ⟨h1, h2⟩ | ⟨b, h1, h2, h3, h4⟩
      · exact hnew q (fun i hi hi2 => by rw [h2 i hi] at hi2; cases hi2)
      · rw [h2] at q2
        exact absurd (show (-1000000 : Int32) < 0 by decide) (by rw [← q2]; exact nI_n0 (by omega))
    · rcases hx with ⟨h1, h2⟩ | ⟨b, h1, rfl, h3, h4⟩
      · exact absurd h1 q2
      · rw [nI_clamp (show b < 2 ^ 31 by omega), (ha b (by omega)).2, nI_leI (by have := (ha b (by omega)).1; omega) (by have := (ha j (by omega)).1; omega)]
        refine ⟨vp_in_nI (by omega) (by decide), fun q3 => ih (j + 1) _ (by omega) (Or.inr ⟨b, by omega, rfl, h3, fun i hi hi2 => ?_⟩), fun q3 => hnew q (fun i hi hi2 => ?_)⟩
        · rcases Nat.lt_or_ge i j with e | e
          · exact h4 i e hi2
          · have e2 : i = j := by omega
            rw [e2]
            omega
        · have := h4 i hi hi2
          omega
theorem lp_M_waits {post : Int32 → GM → Prop} {m : GM} {n w k0 : Nat} {p a : Nat → Nat} {x2 x3 : Int32} (en : m_ships m = nI n) (hn : n ≤ 20) (hk0 : k0 < n) (hw : p k0 = w) (hT : ∀ j, j < n → p j < n) (ha : ∀ j, j < n → a j ≤ 100000 ∧ m_comes m j = nI (a j)) (hso : ∀ i j, i < j → j < n → a (p i) < a (p j) ∨ (a (p i) = a (p j) ∧ p i < p j)) (hp : post (stt x2 x3 (clk x2 x3 (m_comes m) (m_takes m) p k0) (m_comes m w) - m_comes m w) m) : ∀ (d k : Nat) (x4 : Int32), k + d = k0 → (∀ j, j < n → (bit x4 j = false ↔ ∃ q, k ≤ q ∧ q < n ∧ p q = j)) → vM_waits_55 post (d + 1) (nI w) x2 x3 x4 (clk x2 x3 (m_comes m) (m_takes m) p k) m := by
  have hne : ∀ i j, i < j → j < n → ¬ p i = p j := fun i j h1 h2 h3 => by
    have := hso i j h1 h2
    rw [h3] at this
    omega
  intro d
  induction d with
  | zero =>
    intro k x4 hk hg
    have e : k = k0 := by omega
    subst e
    unfold vM_waits_55
    refine ⟨n + 1, lp_M_sel en hn hk0 hT ha hso hg ?_ n 0 (-1000000) (by omega) (Or.inl ⟨rfl, fun i hi => absurd hi (Nat.not_lt_zero i)⟩)⟩
    have hwn : w < n := by
      rw [← hw]
      exact hT k hk0
    have hin : vp_in (nI w) 20 := vp_in_nI (by omega) (by decide)
    rw [hw]
    have key : ∀ s, s = stt x2 x3 (clk x2 x3 (m_comes m) (m_takes m) p k) (m_comes m w) → vM_waits_159 post (fun x1 x2 x3 x4 x5 g => vM_waits_55 post 0 x1 x2 x3 x4 x5 g) (nI w) x2 x3 x4 (nI w) s m := by
      intro s hs
      unfold vM_waits_159 vM_waits_167
      rw [nI_clamp (show w < 2 ^ 31 by omega), hs]
      exact ⟨fun q => absurd rfl q, fun _ => ⟨hin, hp⟩⟩
    unfold stt at key
    unfold vM_waits_115 vM_waits_139 vM_waits_157
    rw [nI_clamp (show w < 2 ^ 31 by omega)]
    refine ⟨hin, fun q => ?_, fun q => ⟨hin, ?_⟩⟩
    · rw [if_neg (Int32.not_lt.mpr q)] at key
      exact ⟨fun q2 => key _ (by rw [if_pos q2]), fun q2 => ⟨fun q3 => key _ (by rw [if_neg q2, if_pos q3]), fun q3 => key _ (by rw [if_neg q2, if_neg q3])⟩⟩
    · rw [if_pos (Int32.not_le.mp q)] at key
      exact ⟨fun q2 => key _ (by rw [if_pos q2]), fun q2 => ⟨fun q3 => key _ (by rw [if_neg q2, if_pos q3]), fun q3 => key _ (by rw [if_neg q2, if_neg q3])⟩⟩
  | succ d ih =>
    intro k x4 hk hg
    unfold vM_waits_55
    refine ⟨n + 1, lp_M_sel en hn (show k < n by omega) hT ha hso hg ?_ n 0 (-1000000) (by omega) (Or.inl ⟨rfl, fun i hi => absurd hi (Nat.not_lt_zero i)⟩)⟩
    have hwn : w < n := by
      rw [← hw]
      exact hT k0 hk0
    have hkn := hT k (by omega)
    have hin : vp_in (nI (p k)) 20 := vp_in_nI (by omega) (by decide)
    have key : ∀ s, s = stt x2 x3 (clk x2 x3 (m_comes m) (m_takes m) p k) (m_comes m (p k)) → vM_waits_159 post (fun x1 x2 x3 x4 x5 g => vM_waits_55 post (d + 1) x1 x2 x3 x4 x5 g) (nI w) x2 x3 x4 (nI (p k)) s m := by
      intro s hs
      unfold vM_waits_159
      rw [nI_clamp (show p k < 2 ^ 31 by omega), hs]
      refine ⟨fun q => ⟨hin, ih (k + 1) _ (by omega) (fun j hj => ?_)⟩, fun q => ?_⟩
      · rw [bit_or, bit_pow (p k) (by omega) j (by omega), Bool.or_eq_false_iff, hg j hj, decide_eq_false_iff_not]
        constructor
        · rintro ⟨⟨q1, h1, h2, h3⟩, h4⟩
          refine ⟨q1, ?_, h2, h3⟩
          rcases Nat.lt_or_ge k q1 with e | e
          · exact e
          · have e2 : q1 = k := by omega
            rw [e2] at h3
            exact absurd h3.symm h4
        · rintro ⟨q1, h1, h2, h3⟩
          exact ⟨⟨q1, by omega, h2, h3⟩, fun e => hne k q1 (by omega) h2 (by rw [h3, e])⟩
      · have e := nI_inj (by omega) (by omega) q
        rw [← hw] at e
        exact absurd e (hne k k0 (by omega) hk0)
    unfold stt at key
    unfold vM_waits_115 vM_waits_139 vM_waits_157
    rw [nI_clamp (show p k < 2 ^ 31 by omega)]
    refine ⟨hin, fun q => ?_, fun q => ⟨hin, ?_⟩⟩
    · rw [if_neg (Int32.not_lt.mpr q)] at key
      exact ⟨fun q2 => key _ (by rw [if_pos q2]), fun q2 => ⟨fun q3 => key _ (by rw [if_neg q2, if_pos q3]), fun q3 => key _ (by rw [if_neg q2, if_neg q3])⟩⟩
    · rw [if_pos (Int32.not_le.mp q)] at key
      exact ⟨fun q2 => key _ (by rw [if_pos q2]), fun q2 => ⟨fun q3 => key _ (by rw [if_neg q2, if_pos q3]), fun q3 => key _ (by rw [if_neg q2, if_neg q3])⟩⟩
theorem clk_cong {x2 x3 : Int32} {cm tk cm' tk' : Nat → Int32} {p : Nat → Nat} : ∀ k, (∀ j, j < k → cm (p j) = cm' (p j) ∧ tk (p j) = tk' (p j)) → clk x2 x3 cm tk p k = clk x2 x3 cm' tk' p k
  | 0, _ => rfl
  | k + 1, h => by
    unfold clk
    rw [clk_cong k (fun j hj => h j (by omega)), (h k (by omega)).1, (h k (by omega)).2]
theorem sim_waits {g : GS} {m : GM} (h : R g m) (a1 a2 a3 : Int32) : vSG_waits g a1 a2 a3 (fun r g' => vM_waits m a1 a2 a3 (fun r' m' => r = r' ∧ R g' m')) := by
  have hR : R g (sm_thrown m 0) := by
    simp only [R, mm_thrown_thrown, mm_status_thrown, mm_rule_thrown, mm_river_thrown, mm_lane_thrown, mm_many_thrown, mm_item_thrown, mm_worlds_thrown, mm_weight_thrown, mm_sea_thrown, mm_least_thrown, mm_isTold_thrown, mm_gates_thrown, mm_minutes_thrown, mm_hand_thrown, mm_hasFailed_thrown, mm_crew_thrown, mm_ships_thrown, mm_comes_thrown, mm_takes_thrown, mm_trace_thrown, mm_traced_thrown, uSh_thrown, uSea_thrown, uGa_thrown, uSp_thrown, uTr_thrown]
    exact h
  obtain ⟨n, p, a, b, hn, en1, en2, hab, hpp, hso, hsu⟩ := h.sp
  have hq3 : ∀ (g' : GM) (P : Int32 → GM → Prop), vM_in g' a3.toInt64 a2.toInt64 100000 P ↔ (if a2 ≤ a3 ∧ a3 ≤ 100000 then P 1 g' else P 0 g') := fun g' P => by
    have := @q_in g' a3 a2 (nI 100000) P
    rw [k100a, k100b] at this
    exact this
  unfold vSG_waits
  by_cases hall : (0 ≤ a1 ∧ a1 ≤ nI n - 1) ∧ (0 ≤ a2 ∧ a2 ≤ 100000) ∧ (a2 ≤ a3 ∧ a3 ≤ 100000)
  rotate_left
  · have hM : vM_waits m a1 a2 a3 (fun r' m' => (-1000001 : Int32) = r' ∧ R g m') := by
      unfold vM_waits
      simp only [en2, q_in00, q_in0 100000 100000 k100a, k100b, hq3]
      by_cases c1 : 0 ≤ a1 ∧ a1 ≤ nI n - 1
      rotate_left
      · simp only [if_neg c1, true_implies, not_true_eq_false, not_false_eq_true, false_implies, and_true, true_and, i10, i00]
        exact hR
      by_cases c2 : 0 ≤ a2 ∧ a2 ≤ 100000
      rotate_left
      · simp only [if_pos c1, if_neg c2, true_implies, not_true_eq_false, not_false_eq_true, false_implies, and_true, true_and, i10, i00]
        exact hR
      by_cases c3 : a2 ≤ a3 ∧ a3 ≤ 100000
      rotate_left
      · simp only [if_pos c1, if_pos c2, if_neg c3, true_implies, not_true_eq_false, not_false_eq_true, false_implies, and_true, true_and, i10, i00]
        exact hR
      exact absurd ⟨c1, c2, c3⟩ hall
    simp only [q_within, en1]
    by_cases c1 : 0 ≤ a1 ∧ a1 ≤ nI n - 1
    rotate_left
    · simp only [if_neg c1, true_implies, not_true_eq_false, not_false_eq_true, false_implies, and_true, true_and, i10, i00]
      exact hM
    by_cases c2 : 0 ≤ a2 ∧ a2 ≤ 100000
    rotate_left
    · simp only [if_pos c1, if_neg c2, true_implies, not_true_eq_false, not_false_eq_true, false_implies, and_true, true_and, i10, i00]
      exact hM
    by_cases c3 : a2 ≤ a3 ∧ a3 ≤ 100000
    rotate_left
    · simp only [if_pos c1, if_pos c2, if_neg c3, true_implies, not_true_eq_false, not_false_eq_true, false_implies, and_true, true_and, i10, i00]
      exact hM
    exact absurd ⟨c1, c2, c3⟩ hall
  obtain ⟨c1, c2, c3⟩ := hall
  simp only [q_within, en1, if_pos c1, if_pos c2, if_pos c3, true_implies, not_true_eq_false, not_false_eq_true, false_implies, and_true, true_and, i10, i00]
  have hn0 : 1 ≤ n := by
    rcases Nat.eq_zero_or_pos n with e | e
    · rw [e] at c1
      exact absurd (Int32.le_trans c1.1 c1.2) (by decide)
    · exact e
  obtain ⟨n', rfl⟩ : ∃ n', n = n' + 1 := ⟨n - 1, by omega⟩
  obtain ⟨w, hw, rfl⟩ := nI_of2 (x := a1) (M := nI n') (n := n') (nI_toInt (by omega)) (Int32.not_lt.mpr c1.1) (by have := c1.2; rw [nI_pred] at this; exact this)
  obtain ⟨k0, hk0, hk1⟩ := hsu w (by omega)
  have hne : ∀ i j, i < j → j < n' + 1 → ¬ p i = p j := fun i j h1 h2 h3 => by
    have := hso i j h1 h2
    rw [h3] at this
    omega
  have hinj : ∀ j, j < n' + 1 → p j = w → j = k0 := fun j hj e => by
    rcases Nat.lt_trichotomy j k0 with q | q | q
    · exact absurd (e.trans hk1.symm) (hne j k0 q hk0)
    · exact q
    · exact absurd (hk1.trans e.symm) (hne k0 j q hj)
  unfold vFairway_waitOf
  refine ⟨n' + 1 + 1, lp_waitOf en1 hn hpp hk0 hk1 hinj ?_ (n' + 1) 0 0 (by omega) (fun z => absurd z (Nat.not_lt_zero k0))⟩
  unfold vM_waits
  simp only [en2, q_in00, q_in0 100000 100000 k100a, k100b, hq3, if_pos c1, if_pos c2, if_pos c3, true_implies, not_true_eq_false, not_false_eq_true, false_implies, and_true, true_and, i10, i00]
  have e1 : ∀ j, j < n' + 1 → z_fmin g j = m_comes m j ∧ z_fpass g j = m_takes m j := fun j hj => by
    obtain ⟨-, -, -, v1, v2, v3, v4⟩ := hab j hj
    exact ⟨v1.trans v2.symm, v3.trans v4.symm⟩
  have hbit : ∀ j, j < n' + 1 → (bit 0 j = false ↔ ∃ q, 0 ≤ q ∧ q < n' + 1 ∧ p q = j) := fun j hj => by
    refine ⟨fun _ => ?_, fun _ => BitVec.getLsbD_zero⟩
    obtain ⟨q, hq, hq2⟩ := hsu j hj
    exact ⟨q, Nat.zero_le q, hq, hq2⟩
  rw [clk_cong k0 (fun j hj => e1 (p j) (hpp j (by omega)).1), (e1 w (by omega)).1]
  exact ⟨k0 + 1, lp_M_waits (m := sm_thrown m 0) (a := a) en2 hn hk0 hk1 (fun j hj => (hpp j hj).1) (fun j hj => ⟨(hab j hj).1, (hab j hj).2.2.2.2.1⟩) hso ⟨rfl, hR⟩ k0 0 0 (by omega) hbit⟩
