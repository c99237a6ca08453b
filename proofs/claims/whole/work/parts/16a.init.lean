/-! ===== both records when they are new ===== -/
def rul0 : Nat → Int32 := upd (upd (upd (upd (upd (upd (upd (upd (fun _ => 0) (Int32.toNatClampNeg 0) (1)) (Int32.toNatClampNeg 1) (1)) (Int32.toNatClampNeg 2) (300)) (Int32.toNatClampNeg 3) (200)) (Int32.toNatClampNeg 4) (50)) (Int32.toNatClampNeg 5) (5)) (Int32.toNatClampNeg 6) (10)) (Int32.toNatClampNeg 7) (3)
def riv0 : Nat → Int32 := upd (upd (upd (upd (upd (upd (upd (upd (fun _ => 0) (Int32.toNatClampNeg 0) (10)) (Int32.toNatClampNeg 1) (10)) (Int32.toNatClampNeg 2) (10)) (Int32.toNatClampNeg 3) (10)) (Int32.toNatClampNeg 4) (10)) (Int32.toNatClampNeg 5) (10)) (Int32.toNatClampNeg 6) (10)) (Int32.toNatClampNeg 7) (10)
def lan0 : Nat → Int32 := upd (upd (upd (upd (upd (upd (upd (upd (fun _ => 0) (Int32.toNatClampNeg 0) (-1)) (Int32.toNatClampNeg 1) (-1)) (Int32.toNatClampNeg 2) (-1)) (Int32.toNatClampNeg 3) (-1)) (Int32.toNatClampNeg 4) (-1)) (Int32.toNatClampNeg 5) (-1)) (Int32.toNatClampNeg 6) (-1)) (Int32.toNatClampNeg 7) (-1)
def gS0 : GS := (0, (fun _ _ => 0), (fun _ => 0), jfill 8 (-1) (fun _ => 0), (fun _ => 0), (fun _ _ => 0), (fun _ _ => 0), 0, rul0, riv0, (fun _ _ => 0), (fun _ _ => 0), (fun _ _ => 0), 0, 0, (fun _ => none), (fun _ => 0), 0, (fun _ => 0), (fun _ => 0), (fun _ => 0), 0, (fun _ => 0), 0, (fun _ => 0), (fun _ => 0), (fun _ => 0), (fun _ => 0), 0)
def gM0 : GM := (0, 0, rul0, riv0, lan0, (fun _ => 0), (fun _ => 0), 0, (fun _ => 0), (fun _ => 0), (fun _ => 0), (fun _ => 0), 0, (fun _ => 0), (fun _ => 0), (fun _ => 0), (fun _ => 0), 0, (fun _ => 0), (fun _ => 0), (fun _ => 0), 0)
theorem lan0_at : ∀ s, s < 8 → lan0 s = -1 := by decide
theorem rul0_at : ∀ i, i < 8 → ∃ a : Nat, a ≤ 1000 ∧ (i < 2 → 1 ≤ a ∧ a ≤ 3) ∧ rul0 i = nI a ∧ rul0 i = nI a := by
  intro i hi
  rcases (show i = 0 ∨ i = 1 ∨ i = 2 ∨ i = 3 ∨ i = 4 ∨ i = 5 ∨ i = 6 ∨ i = 7 by omega) with rfl | rfl | rfl | rfl | rfl | rfl | rfl | rfl
  · exact ⟨1, by omega, fun _ => by omega, by decide, by decide⟩
  · exact ⟨1, by omega, fun _ => by omega, by decide, by decide⟩
  · exact ⟨300, by omega, fun q => by omega, by decide, by decide⟩
  · exact ⟨200, by omega, fun q => by omega, by decide, by decide⟩
  · exact ⟨50, by omega, fun q => by omega, by decide, by decide⟩
  · exact ⟨5, by omega, fun q => by omega, by decide, by decide⟩
  · exact ⟨10, by omega, fun q => by omega, by decide, by decide⟩
  · exact ⟨3, by omega, fun q => by omega, by decide, by decide⟩
theorem riv0_at : ∀ i, i < 8 → riv0 i = nI 10 := by decide
theorem R_new : R gS0 gM0 := by
  refine ⟨⟨fun s hs => Or.inl ⟨?_, lan0_at s hs⟩, fun _ _ _ _ => rfl⟩, rfl, ⟨⟨0, by omega, rfl, rfl, fun w hw => absurd hw (Nat.not_lt_zero w), fun w _ hw => absurd hw (Nat.not_lt_zero w), fun _ w _ hw => absurd hw (Nat.not_lt_zero w)⟩, ⟨rul0_at, fun i hi => ⟨10, by omega, riv0_at i hi, riv0_at i hi⟩⟩, Or.inl rfl, fun _ => ⟨rfl, fun _ w _ hw => absurd hw (Nat.not_lt_zero w)⟩⟩, ⟨Nat.zero_le 6, rfl, rfl, fun j => rfl, fun j hj => absurd hj (Nat.not_lt_zero j), fun _ _ _ => rfl⟩, ?_, ⟨0, by omega, rfl, rfl, fun j hj => absurd hj (Nat.not_lt_zero j)⟩⟩
  · show jfill 8 (-1) (fun _ => 0) s = -1
    unfold jfill
    rw [if_pos hs]
  · exact ⟨0, fun _ => 0, fun _ => 0, fun _ => 0, by omega, rfl, rfl, fun j hj => absurd hj (Nat.not_lt_zero j), fun j hj => absurd hj (Nat.not_lt_zero j), fun _ j _ hj => absurd hj (Nat.not_lt_zero j), fun w hw => absurd hw (Nat.not_lt_zero w)⟩
