/-! ===== calls with a frame ===== -/
theorem j_comm {Γ : jG} {D : va_G} {nL cs sl pc : Nat} {a b : va_W} {lv : List (Nat × Value)} {st : List Value} (kk : J Γ D nL cs sl (b ++ a) pc lv st) : J Γ D nL cs sl (a ++ b) pc lv st := by
  obtain ⟨p, l, e, R, s, m, args, below, meth, c, A, Q⟩ := Γ
  intro H locs ls hP hD hS hl
  exact kk H locs ls (va_P.swap (a := []) (b := a) (c := b) hP) (va_D.swap (a := []) (b := a) (c := b) hD) hS hl
theorem ap_l {a b : va_W} {k : Nat} {q : Nat × va_E} (h : a[k]? = some q) : (a ++ b)[k]? = some q := by
  rw [List.getElem?_append_left (List.getElem?_eq_some_iff.mp h).1]
  exact h
theorem ap_r {a b : va_W} {k : Nat} {q : Nat × va_E} (h : b[k]? = some q) : (a ++ b)[a.length + k]? = some q := by
  rw [List.getElem?_append_right (Nat.le_add_right _ _), Nat.add_sub_cancel_left]
  exact h
theorem P_l {D : va_G} {cl : List vw_C} {a b : va_W} {H : Heap} (h : va_P D cl (a ++ b) H) : va_P D cl a H := fun k q hk => h k q (ap_l hk)
theorem P_r {D : va_G} {cl : List vw_C} {a b : va_W} {H : Heap} (h : va_P D cl (a ++ b) H) : va_P D cl b H := fun _ q hk => h _ q (ap_r hk)
theorem D_l {A : Nat → Prop} {a b : va_W} (h : va_D A (a ++ b)) : va_D A a := ⟨fun i j p q hi hj e => h.1 i j p q (ap_l hi) (ap_l hj) e, fun k q hk => h.2 k q (ap_l hk)⟩
theorem D_r {A : Nat → Prop} {a b : va_W} (h : va_D A (a ++ b)) : va_D A b := ⟨fun i j p q hi hj e => by
  have := h.1 _ _ p q (ap_r hi) (ap_r hj) e
  omega, fun _ q hk => h.2 _ q (ap_r hk)⟩
theorem D_x {A : Nat → Prop} {a b : va_W} (h : va_D A (a ++ b)) {i j : Nat} {p q : Nat × va_E} (hi : a[i]? = some p) (hj : b[j]? = some q) : p.1 ≠ q.1 := fun e => by
  have h1 := h.1 _ _ p q (ap_l hi) (ap_r hj) e
  have h2 := (List.getElem?_eq_some_iff.mp hi).1
  omega
/-- the frame's cells are no cells of the call's -/
theorem fr_out {D : va_G} {A : Nat → Prop} {a b : va_W} {H : Heap} (hP : va_P D vwCl (a ++ b) H) (hD : va_D A (a ++ b)) {j : Nat} {q : Nat × va_E} (hj : b[j]? = some q) : ¬ va_A a H.size q.1 := by
  intro z
  rcases z with ⟨k, e, hk⟩ | z
  · exact D_x hD hk hj rfl
  · have := (P_r hP j q hj).lt
    omega
/-- the worlds after the call -/
theorem fr_P {D : va_G} {A : Nat → Prop} {a b a' : va_W} {H H1 : Heap} (hP : va_P D vwCl (a ++ b) H) (hD : va_D A (a ++ b)) (hk : ∀ q : Nat, q < H.size → ¬ va_A a H.size q → H1[q]? = H[q]?) (hB : va_P D vwCl a' H1) : va_P D vwCl (a' ++ b) H1 :=
  va_P.app hB ((P_r hP).kept (fun j q hj => hk q.1 (P_r hP j q hj).lt (fr_out hP hD hj)))
theorem fr_D {D : va_G} {A : Nat → Prop} {a b a' : va_W} {H : Heap} (hP : va_P D vwCl (a ++ b) H) (hD : va_D A (a ++ b)) (hF : ∀ q, va_A a H.size q → A q) (hB : va_D (va_A a H.size) a') : va_D A (a' ++ b) :=
  va_D.app (hB.weaken (fun _ q _ h => hF _ h)) (D_r hD) (fun i j p q hi hj e => fr_out hP hD hj (by rw [← e]; exact hB.2 i p hi))
