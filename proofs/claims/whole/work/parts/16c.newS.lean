/-! ===== the new object's cells, in the order of the record ===== -/
def adS (l : List Nat) (r1 r2 r3 r4 r5 r6 : Nat → Nat) : Nat → Nat := fun i => if i < 25 then l.getD i 0 else if i < 33 then r1 (i - 25) else if i < 41 then r2 (i - 33) else if i < 49 then r3 (i - 41) else if i < 57 then r4 (i - 49) else if i < 65 then r5 (i - 57) else r6 (i - 65)
theorem adS_25 (l : List Nat) (r1 r2 r3 r4 r5 r6 : Nat → Nat) {j : Nat} (h : j < 8) : adS l r1 r2 r3 r4 r5 r6 (25 + j) = r1 j := by
  unfold adS
  rw [if_neg (by omega), if_pos (by omega), Nat.add_sub_cancel_left]
theorem adF_25 (l : List Nat) (r1 r2 r3 r4 r5 r6 : Nat → Nat) : (fun j => if j < 8 then some (adS l r1 r2 r3 r4 r5 r6 (25 + j)) else none) = (fun i => if i < 8 then some (r1 i) else none) := funext fun j => by
  by_cases c : j < 8
  · rw [if_pos c, if_pos c, adS_25 _ _ _ _ _ _ _ c]
  · rw [if_neg c, if_neg c]
theorem adS_33 (l : List Nat) (r1 r2 r3 r4 r5 r6 : Nat → Nat) {j : Nat} (h : j < 8) : adS l r1 r2 r3 r4 r5 r6 (33 + j) = r2 j := by
  unfold adS
  rw [if_neg (by omega), if_neg (by omega), if_pos (by omega), Nat.add_sub_cancel_left]
theorem adF_33 (l : List Nat) (r1 r2 r3 r4 r5 r6 : Nat → Nat) : (fun j => if j < 8 then some (adS l r1 r2 r3 r4 r5 r6 (33 + j)) else none) = (fun i => if i < 8 then some (r2 i) else none) := funext fun j => by
  by_cases c : j < 8
  · rw [if_pos c, if_pos c, adS_33 _ _ _ _ _ _ _ c]
  · rw [if_neg c, if_neg c]
theorem adS_41 (l : List Nat) (r1 r2 r3 r4 r5 r6 : Nat → Nat) {j : Nat} (h : j < 8) : adS l r1 r2 r3 r4 r5 r6 (41 + j) = r3 j := by
  unfold adS
  rw [if_neg (by omega), if_neg (by omega), if_neg (by omega), if_pos (by omega), Nat.add_sub_cancel_left]
theorem adF_41 (l : List Nat) (r1 r2 r3 r4 r5 r6 : Nat → Nat) : (fun j => if j < 8 then some (adS l r1 r2 r3 r4 r5 r6 (41 + j)) else none) = (fun i => if i < 8 then some (r3 i) else none) := funext fun j => by
  by_cases c : j < 8
  · rw [if_pos c, if_pos c, adS_41 _ _ _ _ _ _ _ c]
  · rw [if_neg c, if_neg c]
theorem adS_49 (l : List Nat) (r1 r2 r3 r4 r5 r6 : Nat → Nat) {j : Nat} (h : j < 8) : adS l r1 r2 r3 r4 r5 r6 (49 + j) = r4 j := by
  unfold adS
  rw [if_neg (by omega), if_neg (by omega), if_neg (by omega), if_neg (by omega), if_pos (by omega), Nat.add_sub_cancel_left]
theorem adF_49 (l : List Nat) (r1 r2 r3 r4 r5 r6 : Nat → Nat) : (fun j => if j < 8 then some (adS l r1 r2 r3 r4 r5 r6 (49 + j)) else none) = (fun i => if i < 8 then some (r4 i) else none) := funext fun j => by
  by_cases c : j < 8
  · rw [if_pos c, if_pos c, adS_49 _ _ _ _ _ _ _ c]
  · rw [if_neg c, if_neg c]
theorem adS_57 (l : List Nat) (r1 r2 r3 r4 r5 r6 : Nat → Nat) {j : Nat} (h : j < 8) : adS l r1 r2 r3 r4 r5 r6 (57 + j) = r5 j := by
  unfold adS
  rw [if_neg (by omega), if_neg (by omega), if_neg (by omega), if_neg (by omega), if_neg (by omega), if_pos (by omega), Nat.add_sub_cancel_left]
theorem adF_57 (l : List Nat) (r1 r2 r3 r4 r5 r6 : Nat → Nat) : (fun j => if j < 8 then some (adS l r1 r2 r3 r4 r5 r6 (57 + j)) else none) = (fun i => if i < 8 then some (r5 i) else none) := funext fun j => by
  by_cases c : j < 8
  · rw [if_pos c, if_pos c, adS_57 _ _ _ _ _ _ _ c]
  · rw [if_neg c, if_neg c]
theorem adS_65 (l : List Nat) (r1 r2 r3 r4 r5 r6 : Nat → Nat) {j : Nat} (h : j < 8) : adS l r1 r2 r3 r4 r5 r6 (65 + j) = r6 j := by
  unfold adS
  rw [if_neg (by omega), if_neg (by omega), if_neg (by omega), if_neg (by omega), if_neg (by omega), if_neg (by omega), Nat.add_sub_cancel_left]
theorem adF_65 (l : List Nat) (r1 r2 r3 r4 r5 r6 : Nat → Nat) : (fun j => if j < 8 then some (adS l r1 r2 r3 r4 r5 r6 (65 + j)) else none) = (fun i => if i < 8 then some (r6 i) else none) := funext fun j => by
  by_cases c : j < 8
  · rw [if_pos c, if_pos c, adS_65 _ _ _ _ _ _ _ c]
  · rw [if_neg c, if_neg c]
def newS (cy : Nat → ClassId) (x0 x1 x2 x3 x4 x5 x6 x7 x8 x9 x10 x11 x12 x13 x14 x15 x16 x17 x18 x19 x20 x21 x22 x23 x24 : Nat) (r1 r2 r3 r4 r5 r6 : Nat → Nat) : va_W := [(x0, .inr (11, [.ref x1, .ref x5, .ref x9, .ref x12, .ref x16, .ref x19, .ref x23, .int 0])), (x1, .inr (7, [.ref x2, .ref x3, .ref x4])), (x2, .inl (cy 4, 8, .inr (.inr (.inr (.inr (fun i => if i < 8 then some (r1 i) else none)))))), (x3, .inl (cy 0, 8, .inl (fun _ => 0))), (x4, .inl (cy 0, 8, .inl (jfill 8 (-1) (fun _ => 0)))), (x5, .inr (6, [.ref x6, .ref x7, .ref x8, .int 0])), (x6, .inl (cy 0, 8, .inl (fun _ => 0))), (x7, .inl (cy 4, 8, .inr (.inr (.inr (.inr (fun i => if i < 8 then some (r2 i) else none)))))), (x8, .inl (cy 4, 8, .inr (.inr (.inr (.inr (fun i => if i < 8 then some (r3 i) else none)))))), (x9, .inr (0, [.ref x10, .ref x11, .ref x5])), (x10, .inl (cy 0, 8, .inl (rul0))), (x11, .inl (cy 0, 8, .inl (riv0))), (x12, .inr (4, [.ref x5, .ref x9, .ref x13, .ref x14, .ref x15, .long 0, .int 0])), (x13, .inl (cy 4, 8, .inr (.inr (.inr (.inr (fun i => if i < 8 then some (r4 i) else none)))))), (x14, .inl (cy 5, 8, .inr (.inr (.inr (.inr (fun i => if i < 8 then some (r5 i) else none)))))), (x15, .inl (cy 5, 8, .inr (.inr (.inr (.inr (fun i => if i < 8 then some (r6 i) else none)))))), (x16, .inr (5, [.ref x17, .ref x18, .int 0])), (x17, .inl (cy 3, 6, .inr (.inr (.inr (.inr (fun _ => none)))))), (x18, .inl (cy 0, 3, .inl (fun _ => 0))), (x19, .inr (1, [.ref x20, .ref x21, .ref x22, .int 0])), (x20, .inl (cy 0, 20, .inl (fun _ => 0))), (x21, .inl (cy 0, 20, .inl (fun _ => 0))), (x22, .inl (cy 0, 20, .inl (fun _ => 0))), (x23, .inr (9, [.ref x24, .int 0])), (x24, .inl (cy 0, 16, .inl (fun _ => 0))), (r1 0, .inl (cy 0, 60, .inl (fun _ => 0))), (r1 1, .inl (cy 0, 60, .inl (fun _ => 0))), (r1 2, .inl (cy 0, 60, .inl (fun _ => 0))), (r1 3, .inl (cy 0, 60, .inl (fun _ => 0))), (r1 4, .inl (cy 0, 60, .inl (fun _ => 0))), (r1 5, .inl (cy 0, 60, .inl (fun _ => 0))), (r1 6, .inl (cy 0, 60, .inl (fun _ => 0))), (r1 7, .inl (cy 0, 60, .inl (fun _ => 0))), (r2 0, .inl (cy 0, 8, .inl (fun _ => 0))), (r2 1, .inl (cy 0, 8, .inl (fun _ => 0))), (r2 2, .inl (cy 0, 8, .inl (fun _ => 0))), (r2 3, .inl (cy 0, 8, .inl (fun _ => 0))), (r2 4, .inl (cy 0, 8, .inl (fun _ => 0))), (r2 5, .inl (cy 0, 8, .inl (fun _ => 0))), (r2 6, .inl (cy 0, 8, .inl (fun _ => 0))), (r2 7, .inl (cy 0, 8, .inl (fun _ => 0))), (r3 0, .inl (cy 0, 8, .inl (fun _ => 0))), (r3 1, .inl (cy 0, 8, .inl (fun _ => 0))), (r3 2, .inl (cy 0, 8, .inl (fun _ => 0))), (r3 3, .inl (cy 0, 8, .inl (fun _ => 0))), (r3 4, .inl (cy 0, 8, .inl (fun _ => 0))), (r3 5, .inl (cy 0, 8, .inl (fun _ => 0))), (r3 6, .inl (cy 0, 8, .inl (fun _ => 0))), (r3 7, .inl (cy 0, 8, .inl (fun _ => 0))), (r4 0, .inl (cy 0, 8, .inl (fun _ => 0))), (r4 1, .inl (cy 0, 8, .inl (fun _ => 0))), (r4 2, .inl (cy 0, 8, .inl (fun _ => 0))), (r4 3, .inl (cy 0, 8, .inl (fun _ => 0))), (r4 4, .inl (cy 0, 8, .inl (fun _ => 0))), (r4 5, .inl (cy 0, 8, .inl (fun _ => 0))), (r4 6, .inl (cy 0, 8, .inl (fun _ => 0))), (r4 7, .inl (cy 0, 8, .inl (fun _ => 0))), (r5 0, .inl (cy 1, 15, .inr (.inl (fun _ => 0)))), (r5 1, .inl (cy 1, 15, .inr (.inl (fun _ => 0)))), (r5 2, .inl (cy 1, 15, .inr (.inl (fun _ => 0)))), (r5 3, .inl (cy 1, 15, .inr (.inl (fun _ => 0)))), (r5 4, .inl (cy 1, 15, .inr (.inl (fun _ => 0)))), (r5 5, .inl (cy 1, 15, .inr (.inl (fun _ => 0)))), (r5 6, .inl (cy 1, 15, .inr (.inl (fun _ => 0)))), (r5 7, .inl (cy 1, 15, .inr (.inl (fun _ => 0)))), (r6 0, .inl (cy 1, 15, .inr (.inl (fun _ => 0)))), (r6 1, .inl (cy 1, 15, .inr (.inl (fun _ => 0)))), (r6 2, .inl (cy 1, 15, .inr (.inl (fun _ => 0)))), (r6 3, .inl (cy 1, 15, .inr (.inl (fun _ => 0)))), (r6 4, .inl (cy 1, 15, .inr (.inl (fun _ => 0)))), (r6 5, .inl (cy 1, 15, .inr (.inl (fun _ => 0)))), (r6 6, .inl (cy 1, 15, .inr (.inl (fun _ => 0)))), (r6 7, .inl (cy 1, 15, .inr (.inl (fun _ => 0))))]
theorem wS_new (cy : Nat → ClassId) (x0 x1 x2 x3 x4 x5 x6 x7 x8 x9 x10 x11 x12 x13 x14 x15 x16 x17 x18 x19 x20 x21 x22 x23 x24 : Nat) (r1 r2 r3 r4 r5 r6 : Nat → Nat) : wS (adS [x0, x1, x2, x3, x4, x5, x6, x7, x8, x9, x10, x11, x12, x13, x14, x15, x16, x17, x18, x19, x20, x21, x22, x23, x24] r1 r2 r3 r4 r5 r6) cy gS0 = newS cy x0 x1 x2 x3 x4 x5 x6 x7 x8 x9 x10 x11 x12 x13 x14 x15 x16 x17 x18 x19 x20 x21 x22 x23 x24 r1 r2 r3 r4 r5 r6 := by
  unfold wS fS
  rw [adF_25, adF_33, adF_41, adF_49, adF_57, adF_65]
  rfl
