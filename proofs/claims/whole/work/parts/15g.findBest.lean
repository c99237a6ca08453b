/-! ===== the reference's plan ===== -/
def mq (m : GM) (le : Nat → Int64) (it : Nat → Int32) : GM := sm_isTold (sm_least m le) it
theorem mq_least (m : GM) (le : Nat → Int64) (it : Nat → Int32) : m_least (mq m le it) = le := rfl
theorem mq_isTold (m : GM) (le : Nat → Int64) (it : Nat → Int32) : m_isTold (mq m le it) = it := rfl
theorem mq_worlds (m : GM) (le : Nat → Int64) (it : Nat → Int32) : m_worlds (mq m le it) = m_worlds m := rfl
theorem mq_weight (m : GM) (le : Nat → Int64) (it : Nat → Int32) : m_weight (mq m le it) = m_weight m := rfl
theorem mq_sea (m : GM) (le : Nat → Int64) (it : Nat → Int32) : m_sea (mq m le it) = m_sea m := rfl
theorem mq_rule (m : GM) (le : Nat → Int64) (it : Nat → Int32) : m_rule (mq m le it) = m_rule m := rfl
theorem mq_river (m : GM) (le : Nat → Int64) (it : Nat → Int32) : m_river (mq m le it) = m_river m := rfl
theorem mq_set (m : GM) (le le2 : Nat → Int64) (it it2 : Nat → Int32) : sm_isTold (sm_least (mq m le it) le2) it2 = mq m le2 it2 := rfl
theorem mq_id (m : GM) : mq m (m_least m) (m_isTold m) = m := rfl
theorem mq_SeaM {m : GM} {n : Nat} {wgt : Nat → Int32} {L : Nat → Nat → Int32} {rul riv : Nat → Int32} (h : SeaM m n wgt L rul riv) (le : Nat → Int64) (it : Nat → Int32) : SeaM (mq m le it) n wgt L rul riv := by
  unfold SeaM at h ⊢
  rw [mq_worlds, mq_weight, mq_sea, mq_rule, mq_river]
  exact h
theorem nI_ix (h v s : Nat) : (128 : Int32) * nI h + 16 * nI v + nI s = nI (128 * h + 16 * v + s) := by
  rw [show (128 : Int32) = nI 128 from rfl, show (16 : Int32) = nI 16 from rfl, pk_mul, pk_mul, nI_add, nI_add]
/-- the bounds of what the sea holds -/
def SeaB (n : Nat) (L : Nat → Nat → Int32) (rul riv : Nat → Int32) (a0 a1 : Nat) : Prop := (∀ w k, w < n → k < 8 → ∃ a : Nat, a ≤ 1000 ∧ L w k = nI a) ∧ (∀ i, i < 8 → ∃ a : Nat, a ≤ 100 ∧ riv i = nI a) ∧ (∀ i, i < 8 → ∃ a : Nat, a ≤ 1000 ∧ rul i = nI a) ∧ rul 0 = nI a0 ∧ rul 1 = nI a1 ∧ (1 ≤ a0 ∧ a0 ≤ 3) ∧ (1 ≤ a1 ∧ a1 ≤ 3)
theorem mst_lt {st h : Nat} (hs : st < 7 + h) (hh : h ≤ 7) : mst st < 16 := by
  unfold mst
  split <;> omega
theorem lp_lossBy {post : Int64 → GM → Prop} {m : GM} {n a0 a1 h w st : Nat} {told : Bool} {wgt : Nat → Int32} {L : Nat → Nat → Int32} {rul riv : Nat → Int32} {V : Nat → Nat → Int64} (hS : SeaM m n wgt L rul riv) (hB : SeaB n L rul riv a0 a1) (hg : gd st) (ht : told = true → may st = true) (hw : w < n) (hh : h < 8) (hs : st < 7 + h) (hV : h < 7 → ∀ v, v < n → grp L v (h + 1) = v → ∀ s, gd s → s < 7 + (h + 1) → m_least m (128 * (h + 1) + 16 * v + mst s) = V v s) (hp : post (lossL n wgt L rul riv V h w st told) m) : ∀ d k : Nat, k + d = n → vM_lossBy_16 post (d + 1) (nI w) (nI (mst st)) (bI told) (nI h) (sm64 (fun v => if grp L v h = w then (wgt v).toInt64 * (lostF L rul riv v h st told).toInt64 + (if h < 7 ∧ grp L v (h + 1) = v then V v (nxt (stnd rul st told) h) else 0) else 0) k) (nI (mst (nxt (stn a0 a1 st told) h))) (nI k) m := by
  obtain ⟨hn, en, s1, s2, s3, s4⟩ := hS
  obtain ⟨b1, b2, b3, h0, h1, ha0, ha1⟩ := hB
  have hlt := stn_lt (told := told) ha0 ha1 hs
  have hnx := nxt_lt hlt
  have es := stnd_n h0 h1 ha0.2 ha1.2 st told
  intro d
  induction d with
  | zero =>
    intro k hk
    have e : k = n := by omega
    subst e
    unfold vM_lossBy_16
    rw [en]
    exact ⟨fun _ => hp, fun q => absurd (nI_le (Nat.le_refl k) (by omega)) q⟩
  | succ d ih =>
    intro k hk
    have ih := ih (k + 1) (by omega)
    unfold sm64 at ih
    have hle := grp_le L k h
    have hle2 := grp_le L k (h + 1)
    have hin : vp_in (nI k) 8 := vp_in_nI (by omega) (by decide)
    unfold vM_lossBy_16 vM_lossBy_115 vM_lossBy_111 vM_lossBy_112 vM_lossBy_115
    rw [en]
    refine ⟨fun q => absurd q (nI_ge (show k < n by omega) (by omega)), fun _ => q_groupOf (L := L) (fun u j hu hj => s2 u j (by omega) (by omega)) (by omega) hh ?_⟩
    rw [nI_1, nI_1, nIk w (by omega) (by omega), nI_clamp (show k < 2 ^ 31 by omega), s1 k (by omega)]
    refine ⟨fun q => ?_, fun q => ⟨hin, q_lostIn s3 s4 (fun j hj => s2 k j (by omega) hj) (fun j hj => b1 k j (by omega) hj) b2 b3 h0 h1 ha0 ha1 hg ht (by omega) hh hs ?_⟩⟩
    · rw [if_neg q, Int64.add_zero] at ih
      exact ih
    · rw [if_pos q, ← Int64.add_assoc] at ih
      rw [show (7 : Int32) = nI 7 from rfl, nIl (by decide) (by omega)]
      refine ⟨fun c => ?_, fun c => q_groupOf (L := L) (fun u j hu hj => s2 u j (by omega) (by omega)) (by omega) (by omega) ?_⟩
      · rw [if_neg (fun z => by omega)] at ih
        exact ih
      · rw [nIk k (by omega) (by omega), nI_ix, nI_clamp (show 128 * (h + 1) + 16 * k + mst (nxt (stn a0 a1 st told) h) < 2 ^ 31 by have := mst_lt hnx (by omega); omega)]
        refine ⟨fun q2 => ?_, fun q2 => ⟨vp_in_nI (by have := mst_lt hnx (by omega); omega) (by decide), ?_⟩⟩
        · rw [if_neg (fun z => q2 z.2)] at ih
          exact ih
        · rw [if_pos ⟨by omega, q2⟩, es] at ih
          rw [hV (by omega) k (by omega) q2 _ (nxt_gd ha0 ha1 hg) hnx, es]
          exact ih
theorem sm64_0 {f : Nat → Int64} : ∀ k, (∀ v, v < k → f v = 0) → sm64 f k = 0
  | 0, _ => rfl
  | k + 1, h => by
    unfold sm64
    rw [sm64_0 k (fun v hv => h v (by omega)), h k (by omega)]
    rfl
theorem q_lossBy {post : Int64 → GM → Prop} {m : GM} {n a0 a1 h w st : Nat} {told : Bool} {wgt : Nat → Int32} {L : Nat → Nat → Int32} {rul riv : Nat → Int32} {V : Nat → Nat → Int64} (hS : SeaM m n wgt L rul riv) (hB : SeaB n L rul riv a0 a1) (hg : gd st) (ht : told = true → may st = true) (hw : w < n) (hh : h < 8) (hs : st < 7 + h) (hV : h < 7 → ∀ v, v < n → grp L v (h + 1) = v → ∀ s, gd s → s < 7 + (h + 1) → m_least m (128 * (h + 1) + 16 * v + mst s) = V v s) (hp : post (lossL n wgt L rul riv V h w st told) m) : vM_lossBy m (nI w) (nI (mst st)) (bI told) (nI h) post := by
  unfold vM_lossBy
  have hl := lp_lossBy hS hB hg ht hw hh hs hV hp (n - w) w (by omega)
  rw [sm64_0 w (fun v hv => by
    rw [if_neg (fun e => by have := grp_le L v h; omega)])] at hl
  obtain ⟨hn, en, s1, s2, s3, s4⟩ := hS
  obtain ⟨b1, b2, b3, h0, h1, ha0, ha1⟩ := hB
  exact q_after ((s3 0 (by decide)).trans h0) ((s3 1 (by decide)).trans h1) ha0 ha1 hg (by omega) hh ht ⟨_, hl⟩
def okM (n : Nat) (wgt : Nat → Int32) (L : Nat → Nat → Int32) (rul riv : Nat → Int32) (le : Nat → Int64) (it : Nat → Int32) (h v st : Nat) : Prop := le (128 * h + 16 * v + mst st) = Vd n wgt L rul riv (8 - h) v st ∧ it (128 * h + 16 * v + mst st) = bI (tol n wgt L rul riv h v st)
def prc (h w s h' v t : Nat) : Prop := h < h' ∨ (h' = h ∧ (v < w ∨ (v = w ∧ t < s)))
def invM (n : Nat) (wgt : Nat → Int32) (L : Nat → Nat → Int32) (rul riv : Nat → Int32) (le : Nat → Int64) (it : Nat → Int32) (h w s : Nat) : Prop := ∀ h' v st, h' < 8 → v < n → grp L v h' = v → gd st → st < 7 + h' → prc h w s h' v (mst st) → okM n wgt L rul riv le it h' v st
theorem inv_keep {n : Nat} {wgt : Nat → Int32} {L : Nat → Nat → Int32} {rul riv : Nat → Int32} {le le' : Nat → Int64} {it it' : Nat → Int32} {h w s : Nat} (hn : n ≤ 8) (hw : w < n) (hs : s < 16) (hi : invM n wgt L rul riv le it h w s) (hl : ∀ j, ¬ j = 128 * h + 16 * w + s → le' j = le j ∧ it' j = it j) : invM n wgt L rul riv le' it' h w s := by
  intro h' v st q1 q2 q3 q4 q5 q6
  have q7 := hi h' v st q1 q2 q3 q4 q5 q6
  have hm := mst_lt q5 (by omega)
  have hne : ¬ 128 * h' + 16 * v + mst st = 128 * h + 16 * w + s := by
    unfold prc at q6
    omega
  unfold okM at q7 ⊢
  rw [(hl _ hne).1, (hl _ hne).2]
  exact q7
theorem mst_inj {a b : Nat} (h : mst a = mst b) : a = b := by
  unfold mst at h
  split at h <;> split at h <;> omega
theorem inv_next {n : Nat} {wgt : Nat → Int32} {L : Nat → Nat → Int32} {rul riv : Nat → Int32} {le : Nat → Int64} {it : Nat → Int32} {h w s : Nat} (hi : invM n wgt L rul riv le it h w s) (hx : ∀ st, mst st = s → gd st → st < 7 + h → grp L w h = w → okM n wgt L rul riv le it h w st) : invM n wgt L rul riv le it h w (s + 1) := by
  intro h' v st q1 q2 q3 q4 q5 q6
  by_cases c : h' = h ∧ v = w ∧ mst st = s
  · obtain ⟨c1, c2, c3⟩ := c
    subst c1 c2
    exact hx st c3 q4 q5 q3
  · refine hi h' v st q1 q2 q3 q4 q5 ?_
    unfold prc at q6 ⊢
    omega
theorem lp_fb19 {post : GM → Prop} {K3 : Int32 → GM → Prop} {K9 : Int32 → Int32 → GM → Prop} {m : GM} {n a0 a1 h w : Nat} {wgt : Nat → Int32} {L : Nat → Nat → Int32} {rul riv : Nat → Int32} (hS : SeaM m n wgt L rul riv) (hB : SeaB n L rul riv a0 a1) (hw : w < n) (hh : h < 8) (hp : ∀ le it, invM n wgt L rul riv le it h w 16 → K9 (nI h) (nI (w + 1)) (mq m le it)) : ∀ (d s : Nat) (le : Nat → Int64) (it : Nat → Int32), s + d = 16 → invM n wgt L rul riv le it h w s → vM_findBest_19 post K3 K9 (d + 1) (nI h) (nI w) (nI s) (mq m le it) := by
  have hn := hS.1
  intro d
  induction d with
  | zero =>
    intro s le it hs hi
    have e : s = 16 := by omega
    subst e
    unfold vM_findBest_19 vM_findBest_179
    rw [nI_1]
    exact ⟨fun _ => hp le it hi, fun q => absurd (show (16 : Int32) ≤ nI 16 by decide) q⟩
  | succ d ih =>
    intro s le it hs hi
    have hskip : (∀ st, mst st = s → gd st → st < 7 + h → grp L w h = w → False) → vM_findBest_173 post K3 K9 (fun x1 x2 x3 g => vM_findBest_19 post K3 K9 (d + 1) x1 x2 x3 g) (nI h) (nI w) (nI s) (mq m le it) := fun hx => by
      unfold vM_findBest_173
      rw [nI_1]
      exact ih (s + 1) le it (by omega) (inv_next hi (fun st a b c e => (hx st a b c e).elim))
    have hno : (∀ st, mst st = s → gd st → st < 7 + h → False) → vM_findBest_58 post K3 K9 (fun x1 x2 x3 g => vM_findBest_19 post K3 K9 (d + 1) x1 x2 x3 g) (nI h) (nI w) (nI s) (mq m le it) := fun hx => by
      unfold vM_findBest_58 vM_findBest_59
      exact ⟨fun _ => hskip (fun st a b c _ => hx st a b c), fun q => absurd rfl q⟩
    have hyes : ∀ st, mst st = s → gd st → st < 7 + h → vM_findBest_54 post K3 K9 (fun x1 x2 x3 g => vM_findBest_19 post K3 K9 (d + 1) x1 x2 x3 g) (nI h) (nI w) (nI s) (mq m le it) := by
      intro st es hg hst
      have hle := grp_le L w h
      unfold vM_findBest_54 vM_findBest_59
      refine ⟨fun q => absurd q (by decide), fun _ => q_groupOf (L := L) (fun u j hu hj => by rw [mq_sea]; exact hS.2.2.2.1 u j (by omega) (by omega)) (by omega) hh ?_⟩
      rw [nIk w (by omega) (by omega)]
      refine ⟨fun q => hskip (fun _ _ _ _ z => q z), fun q => ?_⟩
      have hLB : ∀ (le' : Nat → Int64) (it' : Nat → Int32) (told : Bool) (P : Int64 → GM → Prop), invM n wgt L rul riv le' it' h w s → (told = true → may st = true) → P (lossL n wgt L rul riv (Vd n wgt L rul riv (7 - h)) h w st told) (mq m le' it') → vM_lossBy (mq m le' it') (nI w) (nI s) (bI told) (nI h) P := by
        intro le' it' told P hi' ht hP
        rw [← es]
        refine q_lossBy (mq_SeaM hS le' it') hB hg ht hw hh hst (fun c v hv hgv s' hs1 hs2 => ?_) hP
        rw [mq_least]
        have := (hi' (h + 1) v s' (by omega) hv hgv hs1 hs2 (Or.inl (by omega))).1
        rw [show 8 - (h + 1) = 7 - h by omega] at this
        exact this
      refine hLB le it false _ hi (fun z => absurd z (by decide)) ?_
      generalize hr0 : lossL n wgt L rul riv (Vd n wgt L rul riv (7 - h)) h w st false = r0
      have hix : vp_in (nI (128 * h + 16 * w + s)) 1152 := vp_in_nI (by omega) (by decide)
      rw [nI_ix, nI_clamp (show 128 * h + 16 * w + s < 2 ^ 31 by omega), mq_least, mq_isTold, mq_set, nar0, pk_uLs]
      generalize hle1 : vp_updL le (128 * h + 16 * w + s) r0 = le1
      generalize hit1 : upd it (128 * h + 16 * w + s) 0 = it1
      have el1 : le1 (128 * h + 16 * w + s) = r0 := by rw [← hle1, pk_uLs]
      have ei1 : it1 (128 * h + 16 * w + s) = 0 := by rw [← hit1, pk_us]
      have hk1 : ∀ j, ¬ j = 128 * h + 16 * w + s → le1 j = le j ∧ it1 j = it j := fun j hj => by
        rw [← hle1, ← hit1, pk_uLn hj, pk_un hj]
        exact ⟨rfl, rfl⟩
      have hi1 : invM n wgt L rul riv le1 it1 h w s := inv_keep hn hw (by omega) hi hk1
      have hfin : ∀ le2 it2, (∀ j, ¬ j = 128 * h + 16 * w + s → le2 j = le1 j ∧ it2 j = it1 j) → okM n wgt L rul riv le2 it2 h w st → vM_findBest_173 post K3 K9 (fun x1 x2 x3 g => vM_findBest_19 post K3 K9 (d + 1) x1 x2 x3 g) (nI h) (nI w) (nI s) (mq m le2 it2) := by
        intro le2 it2 hk2 hok
        unfold vM_findBest_173
        rw [nI_1]
        refine ih (s + 1) le2 it2 (by omega) (inv_next (inv_keep hn hw (by omega) hi1 hk2) (fun st' a _ _ _ => ?_))
        have e : st' = st := mst_inj (a.trans es.symm)
        rw [e]
        exact hok
      have hok0 : tol n wgt L rul riv h w st = false → okM n wgt L rul riv le1 it1 h w st := fun et => by
        unfold okM
        rw [es, el1, ei1, Vd_s hh, et, hr0]
        exact ⟨rfl, rfl⟩
      have h123 : may st = true → vM_findBest_123 post K3 K9 (fun x1 x2 x3 g => vM_findBest_19 post K3 K9 (d + 1) x1 x2 x3 g) (nI h) (nI w) (nI s) (nI (128 * h + 16 * w + s)) (mq m le1 it1) := by
        intro hm
        unfold vM_findBest_123
        refine hLB le1 it1 true _ hi1 (fun _ => hm) ?_
        unfold vM_findBest_141
        rw [mq_least, mq_isTold, mq_set, nar1, nI_clamp (show 128 * h + 16 * w + s < 2 ^ 31 by omega), el1]
        refine ⟨hix, fun q2 => hfin le1 it1 (fun _ _ => ⟨rfl, rfl⟩) (hok0 ?_), fun q2 => ⟨hix, hix, hfin _ _ (fun j hj => ?_) ?_⟩⟩
        · unfold tol tolB
          rw [hr0, decide_eq_false (Int64.not_lt.mpr q2), Bool.and_false]
        · rw [pk_uLn hj, pk_un hj]
          exact ⟨rfl, rfl⟩
        · have et : tol n wgt L rul riv h w st = true := by
            unfold tol tolB
            rw [hr0, hm, decide_eq_true (Int64.not_le.mp q2)]
            rfl
          unfold okM
          rw [es, pk_uLs, pk_us, Vd_s hh, et]
          exact ⟨rfl, rfl⟩
      refine ⟨hix, hix, fun q2 => h123 ?_, fun q2 => ⟨fun q3 => ⟨hix, ?_⟩, fun q3 => h123 ?_⟩⟩
      · refine may_iff.mpr (Or.inl ?_)
        have e0 : s = 0 := nI_inj (b := 0) (by omega) (by decide) q2
        exact mst_inj (b := 0) (es.trans e0)
      · unfold vM_findBest_141
        rw [mq_least, nI_clamp (show 128 * h + 16 * w + s < 2 ^ 31 by omega), el1]
        refine ⟨hix, fun _ => hfin le1 it1 (fun _ _ => ⟨rfl, rfl⟩) (hok0 ?_), fun q4 => absurd (Int64.le_refl r0) q4⟩
        have hm : may st = false := by
          cases c : may st with
          | false => rfl
          | true =>
            rcases may_iff.mp c with e | e
            · rw [e] at es
              exact absurd (show nI s = 0 by rw [← es]; rfl) q2
            · rw [mst_hi e] at es
              exact absurd q3 (nI_ge (b := s) (a := 8) (by omega) (by omega))
        unfold tol tolB
        rw [hm, Bool.false_and]
      · refine may_iff.mpr (Or.inr ?_)
        have q4 : ¬ s ≤ 8 := fun z => q3 (nI_le z (by decide))
        unfold mst at es
        split at es <;> omega
    have e8 : (8 : Int32) + nI h = nI (8 + h) := nI_add 8 h
    unfold vM_findBest_19
    rw [e8, show (16 : Int32) = nI 16 from rfl, nIl (by decide) (by omega), show (3 : Int32) = nI 3 from rfl, nIt (by omega) (by decide), show (4 : Int32) = nI 4 from rfl, nIk 4 (by omega) (by decide), show (5 : Int32) = nI 5 from rfl, nIk 5 (by omega) (by decide), show (8 : Int32) = nI 8 from rfl, nIl (a := s) (b := 8) (by omega) (by decide), nIt (by omega) (by omega)]
    refine ⟨fun q => by omega, fun _ => ⟨fun q => hyes s (mst_lo (by omega)) (by unfold gd; omega) (by omega), fun q => ⟨fun q2 => hyes s (mst_lo (by omega)) (by unfold gd; omega) (by omega), fun q2 => ⟨fun q3 => hyes s (mst_lo (by omega)) (by unfold gd; omega) (by omega), fun q3 => ⟨fun q4 => hno (fun st a b c => ?_), fun q4 => ⟨fun q5 => hno (fun st a b c => ?_), fun q5 => hyes (s - 2) ?_ (by unfold gd; omega) (by omega)⟩⟩⟩⟩⟩⟩
    · unfold gd at b
      unfold mst at a
      split at a <;> omega
    · unfold mst at a
      split at a <;> omega
    · rw [mst_hi (by omega)]
      omega
theorem lp_fb9 {post : GM → Prop} {K3 : Int32 → GM → Prop} {m : GM} {n a0 a1 h : Nat} {wgt : Nat → Int32} {L : Nat → Nat → Int32} {rul riv : Nat → Int32} (hS : SeaM m n wgt L rul riv) (hB : SeaB n L rul riv a0 a1) (hh : h < 8) (hp : ∀ le it, invM n wgt L rul riv le it h n 0 → K3 (nI h + -1) (mq m le it)) : ∀ (d w : Nat) (le : Nat → Int64) (it : Nat → Int32), w + d = n → invM n wgt L rul riv le it h w 0 → vM_findBest_9 post K3 (d + 1) (nI h) (nI w) (mq m le it) := by
  have hn := hS.1
  intro d
  induction d with
  | zero =>
    intro w le it hw hi
    have e : w = n := by omega
    subst e
    unfold vM_findBest_9 vM_findBest_185
    rw [mq_worlds, hS.2.1]
    exact ⟨fun _ => hp le it hi, fun q => absurd (nI_le (Nat.le_refl w) (by omega)) q⟩
  | succ d ih =>
    intro w le it hw hi
    unfold vM_findBest_9
    rw [mq_worlds, hS.2.1]
    refine ⟨fun q => absurd q (nI_ge (show w < n by omega) (by omega)), fun _ => ⟨17, lp_fb19 hS hB (by omega) hh (fun le2 it2 hi2 => ih (w + 1) le2 it2 (by omega) (fun h' v st q1 q2 q3 q4 q5 q6 => ?_)) 16 0 le it (by omega) hi⟩⟩
    refine hi2 h' v st q1 q2 q3 q4 q5 ?_
    have := mst_lt q5 (by omega)
    unfold prc at q6 ⊢
    omega
theorem lp_fb3 {post : GM → Prop} {m : GM} {n a0 a1 : Nat} {wgt : Nat → Int32} {L : Nat → Nat → Int32} {rul riv : Nat → Int32} (hS : SeaM m n wgt L rul riv) (hB : SeaB n L rul riv a0 a1) (hp : ∀ le it, (∀ h v st, h < 8 → v < n → grp L v h = v → gd st → st < 7 + h → okM n wgt L rul riv le it h v st) → post (mq m le it)) : ∀ (h : Nat) (le : Nat → Int64) (it : Nat → Int32), h < 8 → invM n wgt L rul riv le it h 0 0 → vM_findBest_3 post (h + 2) (nI h) (mq m le it) := by
  intro h
  induction h with
  | zero =>
    intro le it hh hi
    unfold vM_findBest_3
    refine ⟨fun q => absurd q (by decide), fun _ => ⟨n + 1, lp_fb9 hS hB hh (fun le2 it2 hi2 => ?_) n 0 le it (by omega) hi⟩⟩
    unfold vM_findBest_3
    refine ⟨fun _ => hp le2 it2 (fun h v st q1 q2 q3 q4 q5 => hi2 h v st q1 q2 q3 q4 q5 ?_), fun q => absurd (show nI 0 + -1 < (0 : Int32) by decide) q⟩
    unfold prc
    omega
  | succ h ih =>
    intro le it hh hi
    unfold vM_findBest_3
    refine ⟨fun q => absurd q (nI_n0 (by omega)), fun _ => ⟨n + 1, lp_fb9 hS hB hh (fun le2 it2 hi2 => ?_) n 0 le it (by omega) hi⟩⟩
    rw [nI_dec]
    refine ih le2 it2 (by omega) (fun h' v st q1 q2 q3 q4 q5 q6 => hi2 h' v st q1 q2 q3 q4 q5 ?_)
    unfold prc at q6 ⊢
    omega
theorem q_findBest {post : GM → Prop} {m : GM} {n a0 a1 : Nat} {wgt : Nat → Int32} {L : Nat → Nat → Int32} {rul riv : Nat → Int32} (hS : SeaM m n wgt L rul riv) (hB : SeaB n L rul riv a0 a1) (hp : ∀ le it, (∀ h v st, h < 8 → v < n → grp L v h = v → gd st → st < 7 + h → okM n wgt L rul riv le it h v st) → post (mq m le it)) : vM_findBest m post := by
  unfold vM_findBest
  have hl := lp_fb3 (post := post) hS hB hp 7 (m_least m) (m_isTold m) (by decide) (fun h' v st q1 q2 q3 q4 q5 q6 => by
    unfold prc at q6
    omega)
  rw [mq_id] at hl
  exact ⟨9, hl⟩
