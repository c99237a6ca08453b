/-! ===== a world, seen in another order or in part ===== -/
theorem fm_some {α : Type} : ∀ l : List α, (l.map some).filterMap id = l
  | [] => rfl
  | a :: l => by
    rw [List.map_cons, List.filterMap_cons]
    show a :: (l.map some).filterMap id = a :: l
    rw [fm_some l]
theorem fm_of {ws ws' : va_W} {is : List Nat} (hs : is.map (fun i => ws[i]?) = ws'.map some) : is.filterMap (fun i => ws[i]?) = ws' := by
  have h : is.filterMap (fun i => ws[i]?) = (is.map (fun i => ws[i]?)).filterMap id := by
    rw [List.filterMap_map]
    rfl
  rw [h, hs, fm_some]
theorem j_sub {Γ : jG} {D : va_G} {nL cs sl pc : Nat} {ws ws' : va_W} {lv : List (Nat × Value)} {st : List Value} (is : List Nat) (hn : va_nd is = true) (hs : is.map (fun i => ws[i]?) = ws'.map some) (kk : J Γ D nL cs sl ws' pc lv st) : J Γ D nL cs sl ws pc lv st := by
  obtain ⟨p, l, e, R, s, m, args, below, meth, c, A, Q⟩ := Γ
  intro H locs ls hP hD hS hl
  exact kk H locs ls (hP.sub is (fm_of hs)) (hD.sub is hn hs) hS hl
