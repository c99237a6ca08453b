section
-- ===== PART A: goes FIRST, ahead of the names: the tables' words, and 'selects' of the private methods out of them =====
/-- a private method of a class that the tables say can be made, by its rows of tables_1 -/
def lw_okq (q : MethodName × Nat) : Prop := (q.1.cls ≠ "java/lang/invoke/MethodHandle" ∧ q.1.cls ≠ "java/lang/invoke/VarHandle") ∧ Cond.instantiable q.1.cls q.2 ∈ tables_1 ∧ Cond.privateMethod q.1 ∈ tables_1 ∧ Cond.instanceMethod q.1 ∈ tables_1
theorem lw_p0 : lw_okq (⟨"SeaGates", "found", "(I)I"⟩, 8) := ⟨⟨by decide +kernel, by decide +kernel⟩, List.mem_of_getElem? (i := 18) (by decide +kernel), List.mem_of_getElem? (i := 214) (by decide +kernel), List.mem_of_getElem? (i := 215) (by decide +kernel)⟩
theorem lw_p1 : lw_okq (⟨"SeaGates", "fine", "(I)I"⟩, 8) := ⟨⟨by decide +kernel, by decide +kernel⟩, List.mem_of_getElem? (i := 18) (by decide +kernel), List.mem_of_getElem? (i := 223) (by decide +kernel), List.mem_of_getElem? (i := 224) (by decide +kernel)⟩
theorem lw_p2 : lw_okq (⟨"SeaGates$Sheets", "hasPlaces", "(III)Z"⟩, 3) := ⟨⟨by decide +kernel, by decide +kernel⟩, List.mem_of_getElem? (i := 26) (by decide +kernel), List.mem_of_getElem? (i := 239) (by decide +kernel), List.mem_of_getElem? (i := 240) (by decide +kernel)⟩
theorem lw_p3 : lw_okq (⟨"SeaGates$Sea", "headOf", "(II)I"⟩, 4) := ⟨⟨by decide +kernel, by decide +kernel⟩, List.mem_of_getElem? (i := 49) (by decide +kernel), List.mem_of_getElem? (i := 289) (by decide +kernel), List.mem_of_getElem? (i := 290) (by decide +kernel)⟩
theorem lw_p4 : lw_okq (⟨"SeaGates$Sea", "areAlike", "(III)Z"⟩, 4) := ⟨⟨by decide +kernel, by decide +kernel⟩, List.mem_of_getElem? (i := 49) (by decide +kernel), List.mem_of_getElem? (i := 293) (by decide +kernel), List.mem_of_getElem? (i := 294) (by decide +kernel)⟩
theorem lw_p5 : lw_okq (⟨"SeaGates$Plan", "decideHour", "(I)V"⟩, 7) := ⟨⟨by decide +kernel, by decide +kernel⟩, List.mem_of_getElem? (i := 93) (by decide +kernel), List.mem_of_getElem? (i := 316) (by decide +kernel), List.mem_of_getElem? (i := 317) (by decide +kernel)⟩
theorem lw_p6 : lw_okq (⟨"SeaGates$Plan", "decideGroup", "(II)V"⟩, 7) := ⟨⟨by decide +kernel, by decide +kernel⟩, List.mem_of_getElem? (i := 93) (by decide +kernel), List.mem_of_getElem? (i := 321) (by decide +kernel), List.mem_of_getElem? (i := 322) (by decide +kernel)⟩
theorem lw_p7 : lw_okq (⟨"SeaGates$Plan", "lossFrom", "(IIIIZ)J"⟩, 7) := ⟨⟨by decide +kernel, by decide +kernel⟩, List.mem_of_getElem? (i := 93) (by decide +kernel), List.mem_of_getElem? (i := 329) (by decide +kernel), List.mem_of_getElem? (i := 330) (by decide +kernel)⟩
theorem lw_p8 : lw_okq (⟨"SeaGates", "becomes", "(IZ)I"⟩, 8) := ⟨⟨by decide +kernel, by decide +kernel⟩, List.mem_of_getElem? (i := 18) (by decide +kernel), List.mem_of_getElem? (i := 477) (by decide +kernel), List.mem_of_getElem? (i := 478) (by decide +kernel)⟩
theorem lw_p9 : lw_okq (⟨"SeaGates$Row", "endByHand", "(II)I"⟩, 3) := ⟨⟨by decide +kernel, by decide +kernel⟩, List.mem_of_getElem? (i := 127) (by decide +kernel), List.mem_of_getElem? (i := 500) (by decide +kernel), List.mem_of_getElem? (i := 501) (by decide +kernel)⟩
theorem lw_p10 : lw_okq (⟨"SeaGatesModel", "found", "(I)I"⟩, 22) := ⟨⟨by decide +kernel, by decide +kernel⟩, List.mem_of_getElem? (i := 640) (by decide +kernel), List.mem_of_getElem? (i := 727) (by decide +kernel), List.mem_of_getElem? (i := 728) (by decide +kernel)⟩
theorem lw_p11 : lw_okq (⟨"SeaGatesModel", "findBest", "()V"⟩, 22) := ⟨⟨by decide +kernel, by decide +kernel⟩, List.mem_of_getElem? (i := 640) (by decide +kernel), List.mem_of_getElem? (i := 766) (by decide +kernel), List.mem_of_getElem? (i := 767) (by decide +kernel)⟩
theorem lw_p12 : lw_okq (⟨"SeaGatesModel", "groupOf", "(II)I"⟩, 22) := ⟨⟨by decide +kernel, by decide +kernel⟩, List.mem_of_getElem? (i := 640) (by decide +kernel), List.mem_of_getElem? (i := 770) (by decide +kernel), List.mem_of_getElem? (i := 771) (by decide +kernel)⟩
theorem lw_p13 : lw_okq (⟨"SeaGatesModel", "lossBy", "(IIZI)J"⟩, 22) := ⟨⟨by decide +kernel, by decide +kernel⟩, List.mem_of_getElem? (i := 640) (by decide +kernel), List.mem_of_getElem? (i := 774) (by decide +kernel), List.mem_of_getElem? (i := 775) (by decide +kernel)⟩
theorem lw_p14 : lw_okq (⟨"SeaGatesModel", "after", "(IZI)I"⟩, 22) := ⟨⟨by decide +kernel, by decide +kernel⟩, List.mem_of_getElem? (i := 640) (by decide +kernel), List.mem_of_getElem? (i := 778) (by decide +kernel), List.mem_of_getElem? (i := 779) (by decide +kernel)⟩
theorem lw_p15 : lw_okq (⟨"SeaGatesModel", "lostIn", "(IIZI)I"⟩, 22) := ⟨⟨by decide +kernel, by decide +kernel⟩, List.mem_of_getElem? (i := 640) (by decide +kernel), List.mem_of_getElem? (i := 782) (by decide +kernel), List.mem_of_getElem? (i := 783) (by decide +kernel)⟩
def lw_privs_1 : List (MethodName × Nat) := [(⟨"SeaGates", "found", "(I)I"⟩, 8), (⟨"SeaGates", "fine", "(I)I"⟩, 8), (⟨"SeaGates$Sheets", "hasPlaces", "(III)Z"⟩, 3), (⟨"SeaGates$Sea", "headOf", "(II)I"⟩, 4), (⟨"SeaGates$Sea", "areAlike", "(III)Z"⟩, 4), (⟨"SeaGates$Plan", "decideHour", "(I)V"⟩, 7), (⟨"SeaGates$Plan", "decideGroup", "(II)V"⟩, 7), (⟨"SeaGates$Plan", "lossFrom", "(IIIIZ)J"⟩, 7), (⟨"SeaGates", "becomes", "(IZ)I"⟩, 8), (⟨"SeaGates$Row", "endByHand", "(II)I"⟩, 3), (⟨"SeaGatesModel", "found", "(I)I"⟩, 22), (⟨"SeaGatesModel", "findBest", "()V"⟩, 22), (⟨"SeaGatesModel", "groupOf", "(II)I"⟩, 22), (⟨"SeaGatesModel", "lossBy", "(IIZI)J"⟩, 22), (⟨"SeaGatesModel", "after", "(IZI)I"⟩, 22), (⟨"SeaGatesModel", "lostIn", "(IIZI)I"⟩, 22)]
theorem lw_r1 : ∀ q ∈ lw_privs_1, lw_okq q := List.forall_mem_cons.mpr ⟨lw_p0, List.forall_mem_cons.mpr ⟨lw_p1, List.forall_mem_cons.mpr ⟨lw_p2, List.forall_mem_cons.mpr ⟨lw_p3, List.forall_mem_cons.mpr ⟨lw_p4, List.forall_mem_cons.mpr ⟨lw_p5, List.forall_mem_cons.mpr ⟨lw_p6, List.forall_mem_cons.mpr ⟨lw_p7, List.forall_mem_cons.mpr ⟨lw_p8, List.forall_mem_cons.mpr ⟨lw_p9, List.forall_mem_cons.mpr ⟨lw_p10, List.forall_mem_cons.mpr ⟨lw_p11, List.forall_mem_cons.mpr ⟨lw_p12, List.forall_mem_cons.mpr ⟨lw_p13, List.forall_mem_cons.mpr ⟨lw_p14, List.forall_mem_cons.mpr ⟨lw_p15, fun _ h => absurd h List.not_mem_nil⟩⟩⟩⟩⟩⟩⟩⟩⟩⟩⟩⟩⟩⟩⟩⟩
theorem lw_p16 : lw_okq (⟨"SeaGatesModel", "waterIn", "(IIZI)I"⟩, 22) := ⟨⟨by decide +kernel, by decide +kernel⟩, List.mem_of_getElem? (i := 640) (by decide +kernel), List.mem_of_getElem? (i := 789) (by decide +kernel), List.mem_of_getElem? (i := 790) (by decide +kernel)⟩
theorem lw_p17 : lw_okq (⟨"SeaGatesModel", "isGate", "(I)Z"⟩, 22) := ⟨⟨by decide +kernel, by decide +kernel⟩, List.mem_of_getElem? (i := 640) (by decide +kernel), List.mem_of_getElem? (i := 821) (by decide +kernel), List.mem_of_getElem? (i := 822) (by decide +kernel)⟩
theorem lw_p18 : lw_okq (⟨"SeaGatesModel", "timeBy", "(II)I"⟩, 22) := ⟨⟨by decide +kernel, by decide +kernel⟩, List.mem_of_getElem? (i := 640) (by decide +kernel), List.mem_of_getElem? (i := 833) (by decide +kernel), List.mem_of_getElem? (i := 834) (by decide +kernel)⟩
theorem lw_p19 : lw_okq (⟨"SeaGatesModel", "closingsOf", "(IIIIII)I"⟩, 22) := ⟨⟨by decide +kernel, by decide +kernel⟩, List.mem_of_getElem? (i := 640) (by decide +kernel), List.mem_of_getElem? (i := 852) (by decide +kernel), List.mem_of_getElem? (i := 853) (by decide +kernel)⟩
theorem lw_p20 : lw_okq (⟨"SeaGatesModel", "kindOf", "(I)I"⟩, 22) := ⟨⟨by decide +kernel, by decide +kernel⟩, List.mem_of_getElem? (i := 640) (by decide +kernel), List.mem_of_getElem? (i := 864) (by decide +kernel), List.mem_of_getElem? (i := 865) (by decide +kernel)⟩
theorem lw_p21 : lw_okq (⟨"SeaGatesModel", "cost", "(I)I"⟩, 22) := ⟨⟨by decide +kernel, by decide +kernel⟩, List.mem_of_getElem? (i := 640) (by decide +kernel), List.mem_of_getElem? (i := 876) (by decide +kernel), List.mem_of_getElem? (i := 877) (by decide +kernel)⟩
theorem lw_p22 : lw_okq (⟨"SeaGatesModel", "began", "(I)V"⟩, 22) := ⟨⟨by decide +kernel, by decide +kernel⟩, List.mem_of_getElem? (i := 640) (by decide +kernel), List.mem_of_getElem? (i := 880) (by decide +kernel), List.mem_of_getElem? (i := 881) (by decide +kernel)⟩
theorem lw_p23 : lw_okq (⟨"SeaGatesModel", "marked", "(I)I"⟩, 22) := ⟨⟨by decide +kernel, by decide +kernel⟩, List.mem_of_getElem? (i := 640) (by decide +kernel), List.mem_of_getElem? (i := 884) (by decide +kernel), List.mem_of_getElem? (i := 885) (by decide +kernel)⟩
def lw_privs_2 : List (MethodName × Nat) := [(⟨"SeaGatesModel", "waterIn", "(IIZI)I"⟩, 22), (⟨"SeaGatesModel", "isGate", "(I)Z"⟩, 22), (⟨"SeaGatesModel", "timeBy", "(II)I"⟩, 22), (⟨"SeaGatesModel", "closingsOf", "(IIIIII)I"⟩, 22), (⟨"SeaGatesModel", "kindOf", "(I)I"⟩, 22), (⟨"SeaGatesModel", "cost", "(I)I"⟩, 22), (⟨"SeaGatesModel", "began", "(I)V"⟩, 22), (⟨"SeaGatesModel", "marked", "(I)I"⟩, 22)]
theorem lw_r2 : ∀ q ∈ lw_privs_2, lw_okq q := List.forall_mem_cons.mpr ⟨lw_p16, List.forall_mem_cons.mpr ⟨lw_p17, List.forall_mem_cons.mpr ⟨lw_p18, List.forall_mem_cons.mpr ⟨lw_p19, List.forall_mem_cons.mpr ⟨lw_p20, List.forall_mem_cons.mpr ⟨lw_p21, List.forall_mem_cons.mpr ⟨lw_p22, List.forall_mem_cons.mpr ⟨lw_p23, fun _ h => absurd h List.not_mem_nil⟩⟩⟩⟩⟩⟩⟩⟩
def lw_privs : List (MethodName × Nat) := lw_privs_1 ++ (lw_privs_2)
def lw_tbl : List Cond := k2_sels lw_privs ++ tables_1
theorem lw_privs_ok : ∀ q ∈ lw_privs, lw_okq q := by
  show ∀ q ∈ lw_privs_1 ++ (lw_privs_2), lw_okq q
  exact List.forall_mem_append.mpr ⟨lw_r1, lw_r2⟩
-- ===== end of PART A; then your names; then what follows =====
end
section
/-! ===== BEGIN words of one list among another's, by their places ===== -/
theorem goodIn_r {big : List Cond} (ws : List Cond) (ps : List Nat) (hp : ws = ps.filterMap (fun i => big[i]?)) (h : ws.all goodWord = true) : GoodIn big ws := by
  intro w hw
  have h1 := List.all_eq_true.mp h w hw
  rw [hp] at hw
  obtain ⟨i, -, hi⟩ := List.mem_filterMap.mp hw
  have hm : w ∈ big := by first | exact List.mem_of_getElem? hi | exact List.getElem?_mem hi
  exact ⟨hm, good_of_word h1⟩
theorem goodIn_app {big a b : List Cond} (ha : GoodIn big a) (hb : GoodIn big b) : GoodIn big (a ++ b) := fun w h => (List.mem_append.mp h).elim (ha w) (hb w)
theorem goodIn_ca {big a b : List Cond} {c : Cond} (ha : GoodIn big (c :: a)) (hb : GoodIn big b) : GoodIn big (c :: (a ++ b)) := fun w h => (List.mem_cons.mp h).elim (fun e => ha w (List.mem_cons.mpr (Or.inl e))) (fun h => (List.mem_append.mp h).elim (fun h => ha w (List.mem_cons.mpr (Or.inr h))) (hb w))
theorem goodIn_sub {big ws : List Cond} (hm : ∀ w ∈ ws, w ∈ big) (h : ws.all goodWord = true) : GoodIn big ws := fun w hw => ⟨hm w hw, good_of_word (List.all_eq_true.mp h w hw)⟩
/-! ===== END ===== -/

/-! ===== BEGIN new T[n][m]: the outer array a place, the inner ones among the pooled ===== -/
/-- f, but v at every address of l -/
def vr_up {α : Type} (f : Nat → α) (l : List Nat) (v : α) : Nat → α := fun a => if a ∈ l then v else f a
theorem vr_up_in {α : Type} {f : Nat → α} {l : List Nat} {v : α} {a : Nat} (h : a ∈ l) : vr_up f l v a = v := if_pos h
theorem vr_up_ne {α : Type} {f : Nat → α} {l : List Nat} {v : α} {a : Nat} (h : a ∉ l) : vr_up f l v a = f a := if_neg h
theorem vr_rows {L l : List Nat} {f : Nat → va_E} {e : va_E} (h : ∀ a, a ∈ l → a ∉ L) : va_pl L f ++ l.map (fun a => (a, e)) = va_pl (L ++ l) (vr_up f l e) := by
  unfold va_pl
  rw [List.map_append]
  congr 1
  · apply List.map_congr_left
    intro a ha
    rw [vr_up_ne (fun q => h a q ha)]
  · apply List.map_congr_left
    intro a ha
    rw [vr_up_in ha]
theorem vr_lay {X rows : va_W} {x : Nat × va_E} {pl : va_W} {D : va_G} {cl : List vw_C} {H : Heap} (hP : va_P D cl (((X ++ pl) ++ [x]) ++ rows) H) : va_P D cl ((X ++ [x]) ++ (pl ++ rows)) H := by
  rw [List.append_assoc (X ++ pl)] at hP
  have h := va_P.swap hP
  rw [← List.append_assoc X] at h
  have h2 := va_P.swap h
  rw [List.append_assoc (X ++ [x])] at h2
  exact h2
theorem vr_layD {X rows : va_W} {x : Nat × va_E} {pl : va_W} {A : Nat → Prop} (hD : va_D A (((X ++ pl) ++ [x]) ++ rows)) : va_D A ((X ++ [x]) ++ (pl ++ rows)) := by
  rw [List.append_assoc (X ++ pl)] at hD
  have h := va_D.swap hD
  rw [← List.append_assoc X] at h
  have h2 := va_D.swap h
  rw [List.append_assoc (X ++ [x])] at h2
  exact h2
theorem vr_outer (c : ClassId) (N h0 : Nat) : ∀ i : Nat, Jvm.Free.Multi.outerC c N h0 i = arrV c N (fun j => va_rf (if j < i then some (h0 + 1 + j) else none))
  | 0 => by
    show ({ cls := c, slots := Array.replicate N .null, vm := .none } : Cell) = _
    rw [arrV_new]
    refine congrArg (arrV c N) (funext fun j => ?_)
    simp [va_rf]
  | i + 1 => by
    show (Jvm.Free.Multi.outerC c N h0 i).setSlot i (.ref (h0 + 1 + i)) = _
    rw [vr_outer c N h0 i, arrV_store]
    refine congrArg (arrV c N) (funext fun j => ?_)
    by_cases e : j = i
    · subst e
      simp [updV, va_rf]
    · by_cases h : j < i
      · simp [updV, e, h, Nat.lt_succ_of_lt h]
      · simp [updV, e, h, show ¬ j < i + 1 by omega]
section VGM
variable {p : Program} {l : Launch} {e : Env} {R : Room} {s : State} {m : MethodId} {args : Array Value} {below : List Frame} {meth : Method} {c : Code} {H : Heap} {locs : List Loc} {cells slots : Nat} {Q : State → Prop}
variable {cc : ByteArray} {pc : Nat} {ls : Array Slot} {rest : List Value} {D : va_G} {cl : List vw_C} {A : Nat → Prop} {a : Nat} {tys : List (ClassId × FieldType)} {ws : va_W} {H0 : Heap}
theorem va_mna {X : va_W} {L : List Nat} {f : Nat → va_E} {cc : ByteArray} (hexec : p.tables.exec = Jvm.exec) (hb : c.code = cc) {own : String} {index : Nat} {ty : FieldType} {cy : ClassId} (hown : s.vm.findClass own = some m.cls) (hclink : (Cond.classLink own index ("[" ++ (FieldType.array ty).toString)).before args s = true) (hover : va_AOA ty s) (harr : (Cond.arrayClass ty).before args s = true) (hcy : s.vm.findClass (FieldType.array ty).toString = some cy)
    (hK : va_K D cl tys s) (hP : va_P D cl (X ++ va_pl L f) H) (hD : va_D A (X ++ va_pl L f)) (hS : va_S A H0 H locs) (hA : ∀ q, H0.size ≤ q → A q) {n k : Int32} {N' K' : Nat} {z : vp_A} (hn : ¬ n < 0) (hk : ¬ k < 0) (hN : n.toNatClampNeg = N') (hM : k.toNatClampNeg = K')
    (hb1 : N' * 4 ≤ 536870912) (hb2 : K' * componentBytes ty ≤ 536870912) (hb3 : K' ≤ 536870912) (hdf : fits ty (defaultValue ty) = true) (hdd : (defaultValue ty).isDefault = true) (hcells : cells + (1 + N') ≤ R.cells) (hslots : slots + (N' + N' * K') ≤ R.slots) (hz : ∀ c : ClassId, Jvm.Free.Multi.innerC c K' (defaultValue ty) = vp_cell c z) (hdg : decode cc pc = .ok (.multianewarray index 2, 4))
    (kk : ∀ (q : Nat) (r : Nat → Nat) (cA : ClassId) (H1 : Heap), (∀ i j : Nat, i < N' → j < N' → r i = r j → i = j) → (∀ i : Nat, i < N' → r i ∉ L) → va_K D cl (tys ++ [(cA, .array ty)]) s →
      va_P D cl ((X ++ [(q, .inl (cA, N', .inr (.inr (.inr (.inr (fun i => if i < N' then some (r i) else none))))))]) ++ va_pl (L ++ (List.range N').map r) (vr_up f ((List.range N').map r) (.inl (cy, z)))) H1 → va_D A ((X ++ [(q, .inl (cA, N', .inr (.inr (.inr (.inr (fun i => if i < N' then some (r i) else none))))))]) ++ va_pl (L ++ (List.range N').map r) (vr_up f ((List.range N').map r) (.inl (cy, z)))) → va_S A H0 H1 locs →
      W p l e R s m args below meth c H1 locs (cells + 1 + N') (slots + N' + N' * K') Q (F0 m (pc + 4) ls (.ref q :: rest))) : W p l e R s m args below meth c H locs cells slots Q (F0 m pc ls (.int k :: .int n :: rest)) := by
  subst hN
  subst hM
  intro T hT Xs
  obtain ⟨vm₁, cA, comp, -, fA, fC, hO, -, X', step⟩ := Xs.multianewarray2F hexec hown hclink (va_AOA.use hover) harr (g := F0 m pc ls (.int k :: .int n :: rest)) rfl (by rw [hb]; exact hdg) rfl hn hk hb1 hb2 hb3 hdf hdd hcells hslots
  have ec : some cy = some comp := hcy.symm.trans fC
  cases ec
  generalize hF : Jvm.Free.Multi.fill (T.setVm vm₁) cA cy n.toNatClampNeg k.toNatClampNeg (defaultValue ty) n.toNatClampNeg = F at X' step
  have hTh : (T.setVm vm₁).heap = H := hT
  obtain ⟨f1, f2, -, -⟩ := Jvm.Free.Multi.fill_facts (T.setVm vm₁) cA cy n.toNatClampNeg k.toNatClampNeg (defaultValue ty) n.toNatClampNeg
  rw [hF, hTh] at f1 f2
  have hold : ∀ x : Nat, x < H.size → F.heap[x]? = H[x]? := fun x hx => by
    have := Jvm.Free.Multi.fill_old (T.setVm vm₁) cA cy n.toNatClampNeg k.toNatClampNeg (defaultValue ty) (a := x) (by rw [hTh]; exact hx) n.toNatClampNeg
    rw [hF, hTh] at this
    exact this
  have hrow : ∀ j : Nat, j < n.toNatClampNeg → F.heap[H.size + 1 + j]? = some (vp_cell cy z) := fun j hj => by
    have := Jvm.Free.Multi.fill_inner (T.setVm vm₁) cA cy n.toNatClampNeg k.toNatClampNeg (defaultValue ty) n.toNatClampNeg j hj
    rw [hF, hTh, hz] at this
    exact this
  have hout : Jvm.Free.Multi.outerC cA n.toNatClampNeg H.size n.toNatClampNeg = vp_cell cA (n.toNatClampNeg, .inr (.inr (.inr (.inr (fun i => if i < n.toNatClampNeg then some (H.size + 1 + i) else none))))) := by
    rw [vp_cell_q]
    exact vr_outer cA n.toNatClampNeg H.size n.toNatClampNeg
  rw [hout] at f2
  have hlt : ∀ a, a ∈ L → a < H.size := fun a ha => by
    obtain ⟨k9, hk9⟩ := va_pl_get (X := X) (f := f) ha
    exact (hP k9 _ hk9).lt
  have hnl : ∀ i : Nat, i < n.toNatClampNeg → H.size + 1 + i ∉ L := fun i _ h => by
    have := hlt _ h
    omega
  have hnm : ∀ a, a ∈ (List.range n.toNatClampNeg).map (fun i => H.size + 1 + i) → a ∉ L := fun a ha h => by
    obtain ⟨i, -, rfl⟩ := List.mem_map.mp ha
    have := hlt _ h
    omega
  have hP0 : va_P D cl (X ++ va_pl L f) F.heap := hP.kept (fun k9 x hx => hold x.1 ((hP k9 x hx).lt))
  have hP1 : va_P D cl ((X ++ va_pl L f) ++ [(H.size, .inl (cA, n.toNatClampNeg, .inr (.inr (.inr (.inr (fun i => if i < n.toNatClampNeg then some (H.size + 1 + i) else none))))))]) F.heap := hP0.app (fun k9 x hx => by
    have h0 : k9 < 1 := (List.getElem?_eq_some_iff.mp hx).1
    rw [show k9 = 0 by omega] at hx
    cases hx
    exact f2)
  have hP2 : va_P D cl (((X ++ va_pl L f) ++ [(H.size, .inl (cA, n.toNatClampNeg, .inr (.inr (.inr (.inr (fun i => if i < n.toNatClampNeg then some (H.size + 1 + i) else none))))))]) ++ ((List.range n.toNatClampNeg).map (fun i => H.size + 1 + i)).map (fun a => (a, .inl (cy, z)))) F.heap := hP1.app (fun k9 x hx => by
    obtain ⟨a, ha, rfl⟩ := List.mem_map.mp (List.mem_of_getElem? hx)
    obtain ⟨i, hi, rfl⟩ := List.mem_map.mp ha
    exact hrow i (List.mem_range.mp hi))
  have hD2 : va_D A (((X ++ va_pl L f) ++ [(H.size, .inl (cA, n.toNatClampNeg, .inr (.inr (.inr (.inr (fun i => if i < n.toNatClampNeg then some (H.size + 1 + i) else none))))))]) ++ ((List.range n.toNatClampNeg).map (fun i => H.size + 1 + i)).map (fun a => (a, .inl (cy, z)))) := by
    have hD1 := hD.push (e := .inl (cA, n.toNatClampNeg, .inr (.inr (.inr (.inr (fun i => if i < n.toNatClampNeg then some (H.size + 1 + i) else none)))))) hP rfl (hA _ hS.1)
    generalize hW1 : (X ++ va_pl L f) ++ [(H.size, .inl (cA, n.toNatClampNeg, .inr (.inr (.inr (.inr (fun i => if i < n.toNatClampNeg then some (H.size + 1 + i) else none))))))] = W1 at hD1 hP1 ⊢
    have hle : ∀ (k9 : Nat) (x : Nat × va_E), W1[k9]? = some x → x.1 ≤ H.size := fun k9 x hx => by
      rw [← hW1] at hx
      by_cases hl : k9 < (X ++ va_pl L f).length
      · rw [List.getElem?_append_left hl] at hx
        exact Nat.le_of_lt ((hP k9 x hx).lt)
      · rw [List.getElem?_append_right (by omega)] at hx
        have h0 : k9 - (X ++ va_pl L f).length < 1 := (List.getElem?_eq_some_iff.mp hx).1
        rw [show k9 - (X ++ va_pl L f).length = 0 by omega] at hx
        cases hx
        exact Nat.le_refl _
    have hr : ∀ (k9 : Nat) (x : Nat × va_E), (((List.range n.toNatClampNeg).map (fun i => H.size + 1 + i)).map (fun a => ((a, .inl (cy, z)) : Nat × va_E)))[k9]? = some x → x.1 = H.size + 1 + k9 := fun k9 x hx => by
      rw [List.getElem?_map, List.getElem?_map] at hx
      by_cases h9 : k9 < n.toNatClampNeg
      · rw [List.getElem?_range h9] at hx
        cases hx
        rfl
      · have hn0 : (List.range n.toNatClampNeg)[k9]? = none := List.getElem?_eq_none (by rw [List.length_range]; omega)
        rw [hn0] at hx
        cases hx
    refine ⟨fun i j x y hi hj hxy => ?_, fun k9 x hx => ?_⟩
    · by_cases h1 : i < W1.length <;> by_cases h2 : j < W1.length
      · rw [List.getElem?_append_left h1] at hi
        rw [List.getElem?_append_left h2] at hj
        exact hD1.1 i j x y hi hj hxy
      · rw [List.getElem?_append_left h1] at hi
        rw [List.getElem?_append_right (by omega)] at hj
        have := hle _ _ hi
        have := hr _ _ hj
        omega
      · rw [List.getElem?_append_right (by omega)] at hi
        rw [List.getElem?_append_left h2] at hj
        have := hle _ _ hj
        have := hr _ _ hi
        omega
      · rw [List.getElem?_append_right (by omega)] at hi hj
        have := hr _ _ hi
        have := hr _ _ hj
        omega
    · by_cases h1 : k9 < W1.length
      · rw [List.getElem?_append_left h1] at hx
        exact hD1.2 k9 x hx
      · rw [List.getElem?_append_right (by omega)] at hx
        have := hr _ _ hx
        exact hA _ (by have := hS.1; omega)
  have hAr : ArrOfT s cA (.array ty) := fun N9 z9 => by
    obtain ⟨-, k9, hk9, cm9, hkk9⟩ := (hO 0 0 0).1
    exact ⟨(fun q hq => by cases hq), k9, hk9, cm9, hkk9⟩
  have hK2 : va_K D cl (tys ++ [(cA, .array ty)]) s := ⟨hK.1, fun k9 x hx => by
    by_cases hl : k9 < tys.length
    · rw [List.getElem?_append_left hl] at hx
      exact hK.2 k9 x hx
    · rw [List.getElem?_append_right (by omega)] at hx
      have h0 : k9 - tys.length < 1 := (List.getElem?_eq_some_iff.mp hx).1
      rw [show k9 - tys.length = 0 by omega] at hx
      cases hx
      exact ⟨hAr, fA⟩⟩
  obtain ⟨t, a1, b1⟩ := kk H.size (fun i => H.size + 1 + i) cA F.heap (fun i j _ _ h => by have h9 : H.size + 1 + i = H.size + 1 + j := h; omega) hnl hK2 (by rw [← vr_rows hnm]; exact vr_lay hP2) (by rw [← vr_rows hnm]; exact vr_layD hD2) ⟨by rw [f1]; have := hS.1; omega, fun x h1 h2 => (hold x (Nat.lt_of_lt_of_le h1 hS.1)).trans (hS.2.1 x h1 h2), hS.2.2⟩ F rfl X'
  refine ⟨t, step t ?_, b1⟩
  have e : T.heap.size = H.size := by rw [hT]
  rw [e]
  exact a1
end VGM
/-! ===== END ===== -/

/-! ===== BEGIN printed: names, fields, word lists, decode rows ===== -/
def RX0 : String := "SeaGates$Barrier"
def TX0 : u_T := fun k => match k with
  | 0 => ("SeaGates$Barrier", "rules", "[I", true)
  | 1 => ("SeaGates$Barrier", "rivers", "[I", true)
  | _ => ("SeaGates$Barrier", "sea", "LSeaGates$Sea;", true)
def tyX0 : Nat → FieldType := fun k => match k with
  | 0 => .array .int
  | 1 => .array .int
  | _ => .object "SeaGates$Sea"
abbrev wsX00 : List Cond := u_ws RX0 TX0 3
theorem nmX0 : ∀ a, a < 3 → ∀ b, b < 3 → a ≠ b → (TX0 a).2.1 ≠ (TX0 b).2.1 := by decide +kernel
theorem tyX0_ok : ∀ k, k < 3 → parseFieldDescriptor (TX0 k).2.2.1 = some (tyX0 k) := by decide +kernel
abbrev cX0_init : ByteArray := prog_2_method_1_code
def yX0_init : MethodName := ⟨RX0, "<init>", "(LSeaGates$Sea;)V"⟩
abbrev cX0_mayBeTold : ByteArray := prog_2_method_2_code
def yX0_mayBeTold : MethodName := ⟨RX0, "mayBeTold", "(I)Z"⟩
abbrev cX0_order : ByteArray := prog_2_method_3_code
def yX0_order : MethodName := ⟨RX0, "order", "(IZ)I"⟩
abbrev cX0_how : ByteArray := prog_2_method_4_code
def yX0_how : MethodName := ⟨RX0, "how", "(I)I"⟩
abbrev cX0_stands : ByteArray := prog_2_method_5_code
def yX0_stands : MethodName := ⟨RX0, "stands", "(IZ)I"⟩
abbrev cX0_next : ByteArray := prog_2_method_6_code
def yX0_next : MethodName := ⟨RX0, "next", "(II)I"⟩
abbrev cX0_water : ByteArray := prog_2_method_7_code
def yX0_water : MethodName := ⟨RX0, "water", "(III)I"⟩
abbrev cX0_lost : ByteArray := prog_2_method_8_code
def yX0_lost : MethodName := ⟨RX0, "lost", "(IIIZ)I"⟩
abbrev cX0_lossOfOneOrder : ByteArray := prog_2_method_9_code
def yX0_lossOfOneOrder : MethodName := ⟨RX0, "lossOfOneOrder", "(I)J"⟩
def RX1 : String := "SeaGates$Fairway"
def TX1 : u_T := fun k => match k with
  | 0 => ("SeaGates$Fairway", "minutes", "[I", true)
  | 1 => ("SeaGates$Fairway", "passing", "[I", true)
  | 2 => ("SeaGates$Fairway", "inTurn", "[I", true)
  | _ => ("SeaGates$Fairway", "size", "I", false)
def tyX1 : Nat → FieldType := fun k => match k with
  | 0 => .array .int
  | 1 => .array .int
  | 2 => .array .int
  | _ => .int
abbrev wsX10 : List Cond := u_ws RX1 TX1 4
theorem nmX1 : ∀ a, a < 4 → ∀ b, b < 4 → a ≠ b → (TX1 a).2.1 ≠ (TX1 b).2.1 := by decide +kernel
theorem tyX1_ok : ∀ k, k < 4 → parseFieldDescriptor (TX1 k).2.2.1 = some (tyX1 k) := by decide +kernel
abbrev cX1_init : ByteArray := prog_3_method_1_code
def yX1_init : MethodName := ⟨RX1, "<init>", "()V"⟩
abbrev cX1_add : ByteArray := prog_3_method_2_code
def yX1_add : MethodName := ⟨RX1, "add", "(II)I"⟩
abbrev cX1_waitOf : ByteArray := prog_3_method_3_code
def yX1_waitOf : MethodName := ⟨RX1, "waitOf", "(III)I"⟩
def RX2 : String := "SeaGates$Gate"
def TX2 : u_T := fun k => match k with
  | 0 => ("SeaGates$Gate", "minutes", "I", true)
  | 1 => ("SeaGates$Gate", "hand", "I", true)
  | _ => ("SeaGates$Gate", "failed", "Z", false)
def tyX2 : Nat → FieldType := fun k => match k with
  | 0 => .int
  | 1 => .int
  | _ => .boolean
abbrev wsX20 : List Cond := u_ws RX2 TX2 3
theorem nmX2 : ∀ a, a < 3 → ∀ b, b < 3 → a ≠ b → (TX2 a).2.1 ≠ (TX2 b).2.1 := by decide +kernel
theorem tyX2_ok : ∀ k, k < 3 → parseFieldDescriptor (TX2 k).2.2.1 = some (tyX2 k) := by decide +kernel
abbrev cX2_init : ByteArray := prog_4_method_1_code
def yX2_init : MethodName := ⟨RX2, "<init>", "(II)V"⟩
abbrev cX2_toldAs : ByteArray := prog_4_method_2_code
def yX2_toldAs : MethodName := ⟨RX2, "toldAs", "()I"⟩
abbrev cX2_cost : ByteArray := prog_4_method_3_code
def yX2_cost : MethodName := ⟨RX2, "cost", "(LSeaGates$Trace;)I"⟩
abbrev cX2_mark : ByteArray := prog_4_method_4_code
def yX2_mark : MethodName := ⟨RX2, "mark", "(LSeaGates$Trace;)I"⟩
def RX3 : String := "SeaGates$Handed"
def TX3 : u_T := fun k => match k with
  | 0 => ("SeaGates$Gate", "minutes", "I", true)
  | 1 => ("SeaGates$Gate", "hand", "I", true)
  | _ => ("SeaGates$Gate", "failed", "Z", false)
def tyX3 : Nat → FieldType := fun k => match k with
  | 0 => .int
  | 1 => .int
  | _ => .boolean
abbrev wsX30 : List Cond := u_ws RX3 TX3 3
theorem nmX3 : ∀ a, a < 3 → ∀ b, b < 3 → a ≠ b → (TX3 a).2.1 ≠ (TX3 b).2.1 := by decide +kernel
theorem tyX3_ok : ∀ k, k < 3 → parseFieldDescriptor (TX3 k).2.2.1 = some (tyX3 k) := by decide +kernel
abbrev cX3_init : ByteArray := prog_5_method_1_code
def yX3_init : MethodName := ⟨RX3, "<init>", "(II)V"⟩
abbrev cX3_toldAs : ByteArray := prog_5_method_2_code
def yX3_toldAs : MethodName := ⟨RX3, "toldAs", "()I"⟩
abbrev cX3_cost : ByteArray := prog_5_method_3_code
def yX3_cost : MethodName := ⟨RX3, "cost", "(LSeaGates$Trace;)I"⟩
abbrev cX3_mark : ByteArray := prog_5_method_4_code
def yX3_mark : MethodName := ⟨RX3, "mark", "(LSeaGates$Trace;)I"⟩
def RX4 : String := "SeaGates$Plan"
def TX4 : u_T := fun k => match k with
  | 0 => ("SeaGates$Plan", "sea", "LSeaGates$Sea;", true)
  | 1 => ("SeaGates$Plan", "barrier", "LSeaGates$Barrier;", true)
  | 2 => ("SeaGates$Plan", "orders", "[[I", true)
  | 3 => ("SeaGates$Plan", "now", "[[J", true)
  | 4 => ("SeaGates$Plan", "then", "[[J", true)
  | 5 => ("SeaGates$Plan", "loss", "J", false)
  | _ => ("SeaGates$Plan", "stale", "Z", false)
def tyX4 : Nat → FieldType := fun k => match k with
  | 0 => .object "SeaGates$Sea"
  | 1 => .object "SeaGates$Barrier"
  | 2 => .array (.array .int)
  | 3 => .array (.array .long)
  | 4 => .array (.array .long)
  | 5 => .long
  | _ => .boolean
abbrev wsX40 : List Cond := u_ws RX4 TX4 7
theorem nmX4 : ∀ a, a < 7 → ∀ b, b < 7 → a ≠ b → (TX4 a).2.1 ≠ (TX4 b).2.1 := by decide +kernel
theorem tyX4_ok : ∀ k, k < 7 → parseFieldDescriptor (TX4 k).2.2.1 = some (tyX4 k) := by decide +kernel
abbrev cX4_init : ByteArray := prog_6_method_1_code
def yX4_init : MethodName := ⟨RX4, "<init>", "(LSeaGates$Sea;LSeaGates$Barrier;)V"⟩
abbrev cX4_refresh : ByteArray := prog_6_method_2_code
def yX4_refresh : MethodName := ⟨RX4, "refresh", "()V"⟩
abbrev cX4_decideHour : ByteArray := prog_6_method_3_code
def yX4_decideHour : MethodName := ⟨RX4, "decideHour", "(I)V"⟩
abbrev cX4_decideGroup : ByteArray := prog_6_method_4_code
def yX4_decideGroup : MethodName := ⟨RX4, "decideGroup", "(II)V"⟩
abbrev cX4_lossFrom : ByteArray := prog_6_method_5_code
def yX4_lossFrom : MethodName := ⟨RX4, "lossFrom", "(IIIIZ)J"⟩
abbrev cX4_tells : ByteArray := prog_6_method_6_code
def yX4_tells : MethodName := ⟨RX4, "tells", "(III)Z"⟩
abbrev cX4_stateAt : ByteArray := prog_6_method_7_code
def yX4_stateAt : MethodName := ⟨RX4, "stateAt", "(II)I"⟩
def RX5 : String := "SeaGates$Row"
def TX5 : u_T := fun k => match k with
  | 0 => ("SeaGates$Row", "gates", "[LSeaGates$Gate;", true)
  | 1 => ("SeaGates$Row", "free", "[I", true)
  | _ => ("SeaGates$Row", "size", "I", false)
def tyX5 : Nat → FieldType := fun k => match k with
  | 0 => .array (.object "SeaGates$Gate")
  | 1 => .array .int
  | _ => .int
abbrev wsX50 : List Cond := u_ws RX5 TX5 3
theorem nmX5 : ∀ a, a < 3 → ∀ b, b < 3 → a ≠ b → (TX5 a).2.1 ≠ (TX5 b).2.1 := by decide +kernel
theorem tyX5_ok : ∀ k, k < 3 → parseFieldDescriptor (TX5 k).2.2.1 = some (tyX5 k) := by decide +kernel
abbrev cX5_init : ByteArray := prog_7_method_1_code
def yX5_init : MethodName := ⟨RX5, "<init>", "()V"⟩
abbrev cX5_add : ByteArray := prog_7_method_2_code
def yX5_add : MethodName := ⟨RX5, "add", "(LSeaGates$Gate;)I"⟩
abbrev cX5_at : ByteArray := prog_7_method_3_code
def yX5_at : MethodName := ⟨RX5, "at", "(I)LSeaGates$Gate;"⟩
abbrev cX5_failedOnes : ByteArray := prog_7_method_4_code
def yX5_failedOnes : MethodName := ⟨RX5, "failedOnes", "()I"⟩
abbrev cX5_timeToShut : ByteArray := prog_7_method_5_code
def yX5_timeToShut : MethodName := ⟨RX5, "timeToShut", "(II)I"⟩
abbrev cX5_endByHand : ByteArray := prog_7_method_6_code
def yX5_endByHand : MethodName := ⟨RX5, "endByHand", "(II)I"⟩
abbrev cX5_worstTime : ByteArray := prog_7_method_7_code
def yX5_worstTime : MethodName := ⟨RX5, "worstTime", "(I)I"⟩
def RX6 : String := "SeaGates$Sea"
def TX6 : u_T := fun k => match k with
  | 0 => ("SeaGates$Sea", "weights", "[I", true)
  | 1 => ("SeaGates$Sea", "levels", "[[I", true)
  | 2 => ("SeaGates$Sea", "heads", "[[I", true)
  | _ => ("SeaGates$Sea", "size", "I", false)
def tyX6 : Nat → FieldType := fun k => match k with
  | 0 => .array .int
  | 1 => .array (.array .int)
  | 2 => .array (.array .int)
  | _ => .int
abbrev wsX60 : List Cond := u_ws RX6 TX6 4
theorem nmX6 : ∀ a, a < 4 → ∀ b, b < 4 → a ≠ b → (TX6 a).2.1 ≠ (TX6 b).2.1 := by decide +kernel
theorem tyX6_ok : ∀ k, k < 4 → parseFieldDescriptor (TX6 k).2.2.1 = some (tyX6 k) := by decide +kernel
abbrev cX6_init : ByteArray := prog_8_method_1_code
def yX6_init : MethodName := ⟨RX6, "<init>", "()V"⟩
abbrev cX6_add : ByteArray := prog_8_method_2_code
def yX6_add : MethodName := ⟨RX6, "add", "(I[II)I"⟩
abbrev cX6_headOf : ByteArray := prog_8_method_3_code
def yX6_headOf : MethodName := ⟨RX6, "headOf", "(II)I"⟩
abbrev cX6_areAlike : ByteArray := prog_8_method_4_code
def yX6_areAlike : MethodName := ⟨RX6, "areAlike", "(III)Z"⟩
abbrev cX6_groupsAt : ByteArray := prog_8_method_5_code
def yX6_groupsAt : MethodName := ⟨RX6, "groupsAt", "(I)I"⟩
abbrev cX6_weightOfGroup : ByteArray := prog_8_method_6_code
def yX6_weightOfGroup : MethodName := ⟨RX6, "weightOfGroup", "(II)I"⟩
abbrev cX6_allWeights : ByteArray := prog_8_method_7_code
def yX6_allWeights : MethodName := ⟨RX6, "allWeights", "()I"⟩
abbrev cX6_firstAbove : ByteArray := prog_8_method_8_code
def yX6_firstAbove : MethodName := ⟨RX6, "firstAbove", "(I)I"⟩
def RX7 : String := "SeaGates$Sheets"
def TX7 : u_T := fun k => match k with
  | 0 => ("SeaGates$Sheets", "items", "[[I", true)
  | 1 => ("SeaGates$Sheets", "lanes", "[I", true)
  | _ => ("SeaGates$Sheets", "sizes", "[I", true)
def tyX7 : Nat → FieldType := fun k => match k with
  | 0 => .array (.array .int)
  | 1 => .array .int
  | _ => .array .int
abbrev wsX70 : List Cond := u_ws RX7 TX7 3
theorem nmX7 : ∀ a, a < 3 → ∀ b, b < 3 → a ≠ b → (TX7 a).2.1 ≠ (TX7 b).2.1 := by decide +kernel
theorem tyX7_ok : ∀ k, k < 3 → parseFieldDescriptor (TX7 k).2.2.1 = some (tyX7 k) := by decide +kernel
abbrev cX7_init : ByteArray := prog_9_method_1_code
def yX7_init : MethodName := ⟨RX7, "<init>", "()V"⟩
abbrev cX7_isMissing : ByteArray := prog_9_method_2_code
def yX7_isMissing : MethodName := ⟨RX7, "isMissing", "(I)Z"⟩
abbrev cX7_lay : ByteArray := prog_9_method_3_code
def yX7_lay : MethodName := ⟨RX7, "lay", "(III)V"⟩
abbrev cX7_takeAway : ByteArray := prog_9_method_4_code
def yX7_takeAway : MethodName := ⟨RX7, "takeAway", "(I)I"⟩
abbrev cX7_look : ByteArray := prog_9_method_5_code
def yX7_look : MethodName := ⟨RX7, "look", "(III)I"⟩
abbrev cX7_lookAtBoth : ByteArray := prog_9_method_6_code
def yX7_lookAtBoth : MethodName := ⟨RX7, "lookAtBoth", "(IIIII)I"⟩
abbrev cX7_hasPlaces : ByteArray := prog_9_method_7_code
def yX7_hasPlaces : MethodName := ⟨RX7, "hasPlaces", "(III)Z"⟩
abbrev cX7_put : ByteArray := prog_9_method_8_code
def yX7_put : MethodName := ⟨RX7, "put", "(III)I"⟩
abbrev cX7_narrowed : ByteArray := prog_9_method_9_code
def yX7_narrowed : MethodName := ⟨RX7, "narrowed", "(II)I"⟩
abbrev cX7_move : ByteArray := prog_9_method_10_code
def yX7_move : MethodName := ⟨RX7, "move", "(IIIII)V"⟩
abbrev cX7_areWithin : ByteArray := prog_9_method_11_code
def yX7_areWithin : MethodName := ⟨RX7, "areWithin", "(IIII)Z"⟩
abbrev cX7_above : ByteArray := prog_9_method_12_code
def yX7_above : MethodName := ⟨RX7, "above", "(IIIJ)I"⟩
abbrev cX7_present : ByteArray := prog_9_method_13_code
def yX7_present : MethodName := ⟨RX7, "present", "()I"⟩
def RX8 : String := "SeaGates$Slow"
def TX8 : u_T := fun k => match k with
  | 0 => ("SeaGates$Gate", "minutes", "I", true)
  | 1 => ("SeaGates$Gate", "hand", "I", true)
  | _ => ("SeaGates$Gate", "failed", "Z", false)
def tyX8 : Nat → FieldType := fun k => match k with
  | 0 => .int
  | 1 => .int
  | _ => .boolean
abbrev wsX80 : List Cond := u_ws RX8 TX8 3
theorem nmX8 : ∀ a, a < 3 → ∀ b, b < 3 → a ≠ b → (TX8 a).2.1 ≠ (TX8 b).2.1 := by decide +kernel
theorem tyX8_ok : ∀ k, k < 3 → parseFieldDescriptor (TX8 k).2.2.1 = some (tyX8 k) := by decide +kernel
abbrev cX8_init : ByteArray := prog_10_method_1_code
def yX8_init : MethodName := ⟨RX8, "<init>", "(I)V"⟩
abbrev cX8_toldAs : ByteArray := prog_10_method_2_code
def yX8_toldAs : MethodName := ⟨RX8, "toldAs", "()I"⟩
abbrev cX8_cost : ByteArray := prog_10_method_3_code
def yX8_cost : MethodName := ⟨RX8, "cost", "(LSeaGates$Trace;)I"⟩
abbrev cX8_mark : ByteArray := prog_10_method_4_code
def yX8_mark : MethodName := ⟨RX8, "mark", "(LSeaGates$Trace;)I"⟩
def RX9 : String := "SeaGates$Trace"
def TX9 : u_T := fun k => match k with
  | 0 => ("SeaGates$Trace", "numbers", "[I", true)
  | _ => ("SeaGates$Trace", "length", "I", false)
def tyX9 : Nat → FieldType := fun k => match k with
  | 0 => .array .int
  | _ => .int
abbrev wsX90 : List Cond := u_ws RX9 TX9 2
theorem nmX9 : ∀ a, a < 2 → ∀ b, b < 2 → a ≠ b → (TX9 a).2.1 ≠ (TX9 b).2.1 := by decide +kernel
theorem tyX9_ok : ∀ k, k < 2 → parseFieldDescriptor (TX9 k).2.2.1 = some (tyX9 k) := by decide +kernel
abbrev cX9_init : ByteArray := prog_11_method_1_code
def yX9_init : MethodName := ⟨RX9, "<init>", "()V"⟩
abbrev cX9_leave : ByteArray := prog_11_method_2_code
def yX9_leave : MethodName := ⟨RX9, "leave", "(I)V"⟩
def RX10 : String := "SeaGates$Twin"
def TX10 : u_T := fun k => match k with
  | 0 => ("SeaGates$Gate", "minutes", "I", true)
  | 1 => ("SeaGates$Gate", "hand", "I", true)
  | _ => ("SeaGates$Gate", "failed", "Z", false)
def tyX10 : Nat → FieldType := fun k => match k with
  | 0 => .int
  | 1 => .int
  | _ => .boolean
abbrev wsX100 : List Cond := u_ws RX10 TX10 3
theorem nmX10 : ∀ a, a < 3 → ∀ b, b < 3 → a ≠ b → (TX10 a).2.1 ≠ (TX10 b).2.1 := by decide +kernel
theorem tyX10_ok : ∀ k, k < 3 → parseFieldDescriptor (TX10 k).2.2.1 = some (tyX10 k) := by decide +kernel
abbrev cX10_init : ByteArray := prog_12_method_1_code
def yX10_init : MethodName := ⟨RX10, "<init>", "(II)V"⟩
abbrev cX10_toldAs : ByteArray := prog_12_method_2_code
def yX10_toldAs : MethodName := ⟨RX10, "toldAs", "()I"⟩
abbrev cX10_cost : ByteArray := prog_12_method_3_code
def yX10_cost : MethodName := ⟨RX10, "cost", "(LSeaGates$Trace;)I"⟩
def RX11 : String := "SeaGates"
def TX11 : u_T := fun k => match k with
  | 0 => ("SeaGates", "sheets", "LSeaGates$Sheets;", true)
  | 1 => ("SeaGates", "sea", "LSeaGates$Sea;", true)
  | 2 => ("SeaGates", "barrier", "LSeaGates$Barrier;", true)
  | 3 => ("SeaGates", "plan", "LSeaGates$Plan;", true)
  | 4 => ("SeaGates", "row", "LSeaGates$Row;", true)
  | 5 => ("SeaGates", "fairway", "LSeaGates$Fairway;", true)
  | 6 => ("SeaGates", "bodies", "LSeaGates$Trace;", true)
  | _ => ("SeaGates", "finding", "I", false)
def tyX11 : Nat → FieldType := fun k => match k with
  | 0 => .object "SeaGates$Sheets"
  | 1 => .object "SeaGates$Sea"
  | 2 => .object "SeaGates$Barrier"
  | 3 => .object "SeaGates$Plan"
  | 4 => .object "SeaGates$Row"
  | 5 => .object "SeaGates$Fairway"
  | 6 => .object "SeaGates$Trace"
  | _ => .int
abbrev wsX110 : List Cond := u_ws RX11 TX11 8
theorem nmX11 : ∀ a, a < 8 → ∀ b, b < 8 → a ≠ b → (TX11 a).2.1 ≠ (TX11 b).2.1 := by decide +kernel
theorem tyX11_ok : ∀ k, k < 8 → parseFieldDescriptor (TX11 k).2.2.1 = some (tyX11 k) := by decide +kernel
abbrev cX11_init : ByteArray := prog_1_method_1_code
def yX11_init : MethodName := ⟨RX11, "<init>", "()V"⟩
abbrev cX11_sheet : ByteArray := prog_1_method_2_code
def yX11_sheet : MethodName := ⟨RX11, "sheet", "(III)I"⟩
abbrev cX11_set : ByteArray := prog_1_method_3_code
def yX11_set : MethodName := ⟨RX11, "set", "(III)I"⟩
abbrev cX11_copy : ByteArray := prog_1_method_4_code
def yX11_copy : MethodName := ⟨RX11, "copy", "(IIIII)I"⟩
abbrev cX11_drop : ByteArray := prog_1_method_5_code
def yX11_drop : MethodName := ⟨RX11, "drop", "(I)I"⟩
abbrev cX11_world : ByteArray := prog_1_method_6_code
def yX11_world : MethodName := ⟨RX11, "world", "(III)I"⟩
abbrev cX11_river : ByteArray := prog_1_method_7_code
def yX11_river : MethodName := ⟨RX11, "river", "(II)I"⟩
abbrev cX11_rule : ByteArray := prog_1_method_8_code
def yX11_rule : MethodName := ⟨RX11, "rule", "(II)I"⟩
abbrev cX11_mayBeRule : ByteArray := prog_1_method_9_code
def yX11_mayBeRule : MethodName := ⟨RX11, "mayBeRule", "(II)Z"⟩
abbrev cX11_best : ByteArray := prog_1_method_10_code
def yX11_best : MethodName := ⟨RX11, "best", "()J"⟩
abbrev cX11_hour : ByteArray := prog_1_method_11_code
def yX11_hour : MethodName := ⟨RX11, "hour", "(III)I"⟩
abbrev cX11_shutAt : ByteArray := prog_1_method_12_code
def yX11_shutAt : MethodName := ⟨RX11, "shutAt", "(I)J"⟩
abbrev cX11_alarm : ByteArray := prog_1_method_13_code
def yX11_alarm : MethodName := ⟨RX11, "alarm", "()I"⟩
abbrev cX11_groups : ByteArray := prog_1_method_14_code
def yX11_groups : MethodName := ⟨RX11, "groups", "(I)I"⟩
abbrev cX11_gate : ByteArray := prog_1_method_15_code
def yX11_gate : MethodName := ⟨RX11, "gate", "(II)I"⟩
abbrev cX11_gateOf : ByteArray := prog_1_method_16_code
def yX11_gateOf : MethodName := ⟨RX11, "gateOf", "(II)LSeaGates$Gate;"⟩
abbrev cX11_fail : ByteArray := prog_1_method_17_code
def yX11_fail : MethodName := ⟨RX11, "fail", "(I)I"⟩
abbrev cX11_mend : ByteArray := prog_1_method_18_code
def yX11_mend : MethodName := ⟨RX11, "mend", "(I)I"⟩
abbrev cX11_becomes : ByteArray := prog_1_method_19_code
def yX11_becomes : MethodName := ⟨RX11, "becomes", "(IZ)I"⟩
abbrev cX11_time : ByteArray := prog_1_method_20_code
def yX11_time : MethodName := ⟨RX11, "time", "(II)I"⟩
abbrev cX11_ship : ByteArray := prog_1_method_21_code
def yX11_ship : MethodName := ⟨RX11, "ship", "(II)I"⟩
abbrev cX11_waits : ByteArray := prog_1_method_22_code
def yX11_waits : MethodName := ⟨RX11, "waits", "(III)I"⟩
abbrev cX11_closings : ByteArray := prog_1_method_23_code
def yX11_closings : MethodName := ⟨RX11, "closings", "(IIIIII)I"⟩
abbrev cX11_tooMany : ByteArray := prog_1_method_24_code
def yX11_tooMany : MethodName := ⟨RX11, "tooMany", "(IIIIII)I"⟩
abbrev cX11_arePeaks : ByteArray := prog_1_method_25_code
def yX11_arePeaks : MethodName := ⟨RX11, "arePeaks", "(III)Z"⟩
abbrev cX11_levelIn : ByteArray := prog_1_method_26_code
def yX11_levelIn : MethodName := ⟨RX11, "levelIn", "(III)J"⟩
abbrev cX11_kind : ByteArray := prog_1_method_27_code
def yX11_kind : MethodName := ⟨RX11, "kind", "(I)I"⟩
abbrev cX11_as : ByteArray := prog_1_method_28_code
def yX11_as : MethodName := ⟨RX11, "as", "(II)I"⟩
abbrev cX11_isOf : ByteArray := prog_1_method_29_code
def yX11_isOf : MethodName := ⟨RX11, "isOf", "(LSeaGates$Gate;I)Z"⟩
abbrev cX11_ask : ByteArray := prog_1_method_30_code
def yX11_ask : MethodName := ⟨RX11, "ask", "(II)I"⟩
abbrev cX11_trace : ByteArray := prog_1_method_31_code
def yX11_trace : MethodName := ⟨RX11, "trace", "(I)I"⟩
abbrev cX11_count : ByteArray := prog_1_method_32_code
def yX11_count : MethodName := ⟨RX11, "count", "(I)I"⟩
abbrev cX11_status : ByteArray := prog_1_method_33_code
def yX11_status : MethodName := ⟨RX11, "status", "()I"⟩
abbrev cX11_found : ByteArray := prog_1_method_34_code
def yX11_found : MethodName := ⟨RX11, "found", "(I)I"⟩
abbrev cX11_fine : ByteArray := prog_1_method_35_code
def yX11_fine : MethodName := ⟨RX11, "fine", "(I)I"⟩
abbrev cX11_within : ByteArray := prog_1_method_36_code
def yX11_within : MethodName := ⟨RX11, "within", "(III)Z"⟩
def RX12 : String := "SeaGatesModel"
def TX12 : u_T := fun k => match k with
  | 0 => ("SeaGatesModel", "thrown", "I", false)
  | 1 => ("SeaGatesModel", "status", "I", false)
  | 2 => ("SeaGatesModel", "rule", "[I", true)
  | 3 => ("SeaGatesModel", "river", "[I", true)
  | 4 => ("SeaGatesModel", "lane", "[I", true)
  | 5 => ("SeaGatesModel", "many", "[I", true)
  | 6 => ("SeaGatesModel", "item", "[I", true)
  | 7 => ("SeaGatesModel", "worlds", "I", false)
  | 8 => ("SeaGatesModel", "weight", "[I", true)
  | 9 => ("SeaGatesModel", "sea", "[I", true)
  | 10 => ("SeaGatesModel", "least", "[J", true)
  | 11 => ("SeaGatesModel", "isTold", "[Z", true)
  | 12 => ("SeaGatesModel", "gates", "I", false)
  | 13 => ("SeaGatesModel", "minutes", "[I", true)
  | 14 => ("SeaGatesModel", "hand", "[I", true)
  | 15 => ("SeaGatesModel", "hasFailed", "[Z", true)
  | 16 => ("SeaGatesModel", "crew", "[I", true)
  | 17 => ("SeaGatesModel", "ships", "I", false)
  | 18 => ("SeaGatesModel", "comes", "[I", true)
  | 19 => ("SeaGatesModel", "takes", "[I", true)
  | 20 => ("SeaGatesModel", "trace", "[I", true)
  | _ => ("SeaGatesModel", "traced", "I", false)
def tyX12 : Nat → FieldType := fun k => match k with
  | 0 => .int
  | 1 => .int
  | 2 => .array .int
  | 3 => .array .int
  | 4 => .array .int
  | 5 => .array .int
  | 6 => .array .int
  | 7 => .int
  | 8 => .array .int
  | 9 => .array .int
  | 10 => .array .long
  | 11 => .array .boolean
  | 12 => .int
  | 13 => .array .int
  | 14 => .array .int
  | 15 => .array .boolean
  | 16 => .array .int
  | 17 => .int
  | 18 => .array .int
  | 19 => .array .int
  | 20 => .array .int
  | _ => .int
abbrev wsX120 : List Cond := u_ws RX12 TX12 22
theorem nmX12 : ∀ a, a < 22 → ∀ b, b < 22 → a ≠ b → (TX12 a).2.1 ≠ (TX12 b).2.1 := by decide +kernel
theorem tyX12_ok : ∀ k, k < 22 → parseFieldDescriptor (TX12 k).2.2.1 = some (tyX12 k) := by decide +kernel
abbrev cX12_init : ByteArray := prog_14_method_1_code
def yX12_init : MethodName := ⟨RX12, "<init>", "()V"⟩
abbrev cX12_in : ByteArray := prog_14_method_3_code
def yX12_in : MethodName := ⟨RX12, "in", "(JJJ)Z"⟩
abbrev cX12_found : ByteArray := prog_14_method_4_code
def yX12_found : MethodName := ⟨RX12, "found", "(I)I"⟩
abbrev cX12_isSheet : ByteArray := prog_14_method_5_code
def yX12_isSheet : MethodName := ⟨RX12, "isSheet", "(I)Z"⟩
abbrev cX12_sheet : ByteArray := prog_14_method_6_code
def yX12_sheet : MethodName := ⟨RX12, "sheet", "(III)I"⟩
abbrev cX12_set : ByteArray := prog_14_method_7_code
def yX12_set : MethodName := ⟨RX12, "set", "(III)I"⟩
abbrev cX12_copy : ByteArray := prog_14_method_8_code
def yX12_copy : MethodName := ⟨RX12, "copy", "(IIIII)I"⟩
abbrev cX12_drop : ByteArray := prog_14_method_9_code
def yX12_drop : MethodName := ⟨RX12, "drop", "(I)I"⟩
abbrev cX12_world : ByteArray := prog_14_method_10_code
def yX12_world : MethodName := ⟨RX12, "world", "(III)I"⟩
abbrev cX12_river : ByteArray := prog_14_method_11_code
def yX12_river : MethodName := ⟨RX12, "river", "(II)I"⟩
abbrev cX12_rule : ByteArray := prog_14_method_12_code
def yX12_rule : MethodName := ⟨RX12, "rule", "(II)I"⟩
abbrev cX12_groupOf : ByteArray := prog_14_method_13_code
def yX12_groupOf : MethodName := ⟨RX12, "groupOf", "(II)I"⟩
abbrev cX12_stateIn : ByteArray := prog_14_method_14_code
def yX12_stateIn : MethodName := ⟨RX12, "stateIn", "(IZ)I"⟩
abbrev cX12_after : ByteArray := prog_14_method_15_code
def yX12_after : MethodName := ⟨RX12, "after", "(IZI)I"⟩
abbrev cX12_waterIn : ByteArray := prog_14_method_16_code
def yX12_waterIn : MethodName := ⟨RX12, "waterIn", "(IIZI)I"⟩
abbrev cX12_lostIn : ByteArray := prog_14_method_17_code
def yX12_lostIn : MethodName := ⟨RX12, "lostIn", "(IIZI)I"⟩
abbrev cX12_lossBy : ByteArray := prog_14_method_18_code
def yX12_lossBy : MethodName := ⟨RX12, "lossBy", "(IIZI)J"⟩
abbrev cX12_findBest : ByteArray := prog_14_method_19_code
def yX12_findBest : MethodName := ⟨RX12, "findBest", "()V"⟩
abbrev cX12_best : ByteArray := prog_14_method_20_code
def yX12_best : MethodName := ⟨RX12, "best", "()J"⟩
abbrev cX12_hour : ByteArray := prog_14_method_21_code
def yX12_hour : MethodName := ⟨RX12, "hour", "(III)I"⟩
abbrev cX12_shutAt : ByteArray := prog_14_method_22_code
def yX12_shutAt : MethodName := ⟨RX12, "shutAt", "(I)J"⟩
abbrev cX12_alarm : ByteArray := prog_14_method_23_code
def yX12_alarm : MethodName := ⟨RX12, "alarm", "()I"⟩
abbrev cX12_groups : ByteArray := prog_14_method_24_code
def yX12_groups : MethodName := ⟨RX12, "groups", "(I)I"⟩
abbrev cX12_isGate : ByteArray := prog_14_method_25_code
def yX12_isGate : MethodName := ⟨RX12, "isGate", "(I)Z"⟩
abbrev cX12_gate : ByteArray := prog_14_method_26_code
def yX12_gate : MethodName := ⟨RX12, "gate", "(II)I"⟩
abbrev cX12_fail : ByteArray := prog_14_method_27_code
def yX12_fail : MethodName := ⟨RX12, "fail", "(I)I"⟩
abbrev cX12_mend : ByteArray := prog_14_method_28_code
def yX12_mend : MethodName := ⟨RX12, "mend", "(I)I"⟩
abbrev cX12_timeBy : ByteArray := prog_14_method_29_code
def yX12_timeBy : MethodName := ⟨RX12, "timeBy", "(II)I"⟩
abbrev cX12_time : ByteArray := prog_14_method_30_code
def yX12_time : MethodName := ⟨RX12, "time", "(II)I"⟩
abbrev cX12_ship : ByteArray := prog_14_method_31_code
def yX12_ship : MethodName := ⟨RX12, "ship", "(II)I"⟩
abbrev cX12_waits : ByteArray := prog_14_method_32_code
def yX12_waits : MethodName := ⟨RX12, "waits", "(III)I"⟩
abbrev cX12_closingsOf : ByteArray := prog_14_method_33_code
def yX12_closingsOf : MethodName := ⟨RX12, "closingsOf", "(IIIIII)I"⟩
abbrev cX12_closings : ByteArray := prog_14_method_34_code
def yX12_closings : MethodName := ⟨RX12, "closings", "(IIIIII)I"⟩
abbrev cX12_tooMany : ByteArray := prog_14_method_35_code
def yX12_tooMany : MethodName := ⟨RX12, "tooMany", "(IIIIII)I"⟩
abbrev cX12_kindOf : ByteArray := prog_14_method_36_code
def yX12_kindOf : MethodName := ⟨RX12, "kindOf", "(I)I"⟩
abbrev cX12_kind : ByteArray := prog_14_method_37_code
def yX12_kind : MethodName := ⟨RX12, "kind", "(I)I"⟩
abbrev cX12_as : ByteArray := prog_14_method_38_code
def yX12_as : MethodName := ⟨RX12, "as", "(II)I"⟩
abbrev cX12_began : ByteArray := prog_14_method_39_code
def yX12_began : MethodName := ⟨RX12, "began", "(I)V"⟩
abbrev cX12_cost : ByteArray := prog_14_method_40_code
def yX12_cost : MethodName := ⟨RX12, "cost", "(I)I"⟩
abbrev cX12_marked : ByteArray := prog_14_method_41_code
def yX12_marked : MethodName := ⟨RX12, "marked", "(I)I"⟩
abbrev cX12_ask : ByteArray := prog_14_method_42_code
def yX12_ask : MethodName := ⟨RX12, "ask", "(II)I"⟩
abbrev cX12_trace : ByteArray := prog_14_method_43_code
def yX12_trace : MethodName := ⟨RX12, "trace", "(I)I"⟩
abbrev cX12_count : ByteArray := prog_14_method_44_code
def yX12_count : MethodName := ⟨RX12, "count", "(I)I"⟩
abbrev cX12_status : ByteArray := prog_14_method_45_code
def yX12_status : MethodName := ⟨RX12, "status", "()I"⟩
def RJ9 : String := "java/lang/Math"
def TJ9 : u_T := fun k => match k with
  | _ => ("", "", "", false)
def tyJ9 : Nat → FieldType := fun k => match k with
  | _ => .int
abbrev wsJ90 : List Cond := u_ws RJ9 TJ9 0
theorem nmJ9 : ∀ a, a < 0 → ∀ b, b < 0 → a ≠ b → (TJ9 a).2.1 ≠ (TJ9 b).2.1 := by decide +kernel
theorem tyJ9_ok : ∀ k, k < 0 → parseFieldDescriptor (TJ9 k).2.2.1 = some (tyJ9 k) := by decide +kernel
abbrev cJ9_max_7cf53 : ByteArray := prog_15_method_65_code
def yJ9_max_7cf53 : MethodName := ⟨RJ9, "max", "(II)I"⟩
abbrev cJ9_min_7cf53 : ByteArray := prog_15_method_69_code
def yJ9_min_7cf53 : MethodName := ⟨RJ9, "min", "(II)I"⟩
def RJ10 : String := "java/lang/System"
def TJ10 : u_T := fun k => match k with
  | _ => ("", "", "", false)
def tyJ10 : Nat → FieldType := fun k => match k with
  | _ => .int
abbrev wsJ100 : List Cond := u_ws RJ10 TJ10 0
theorem nmJ10 : ∀ a, a < 0 → ∀ b, b < 0 → a ≠ b → (TJ10 a).2.1 ≠ (TJ10 b).2.1 := by decide +kernel
theorem tyJ10_ok : ∀ k, k < 0 → parseFieldDescriptor (TJ10 k).2.2.1 = some (tyJ10 k) := by decide +kernel
def RJ7 : String := "java/util/Arrays"
def TJ7 : u_T := fun k => match k with
  | _ => ("", "", "", false)
def tyJ7 : Nat → FieldType := fun k => match k with
  | _ => .int
abbrev wsJ70 : List Cond := u_ws RJ7 TJ7 0
theorem nmJ7 : ∀ a, a < 0 → ∀ b, b < 0 → a ≠ b → (TJ7 a).2.1 ≠ (TJ7 b).2.1 := by decide +kernel
theorem tyJ7_ok : ∀ k, k < 0 → parseFieldDescriptor (TJ7 k).2.2.1 = some (tyJ7 k) := by decide +kernel
abbrev cJ7_fill_53178 : ByteArray := prog_17_method_103_code
def yJ7_fill_53178 : MethodName := ⟨RJ7, "fill", "([II)V"⟩
def RL : String := "SeaGatesLaw"
abbrev cL_law : ByteArray := code
def yL_law : MethodName := ⟨RL, "law", "([I)Z"⟩
def wsX0_init : List Cond := .code yX0_init cX0_init 2 none :: ([.methodLink RX0 3 objectInit, .instanceMethod objectInit, .code objectInit ⟨#[0xb1]⟩ 1 none, .arrayClass .int, .fieldLink RX0 9 "SeaGates$Barrier" "rules" "[I", .fieldLink RX0 15 "SeaGates$Barrier" "rivers" "[I", .fieldLink RX0 18 "SeaGates$Barrier" "sea" "LSeaGates$Sea;"] ++ wsX00)
def wsX0_mayBeTold : List Cond := .code yX0_mayBeTold cX0_mayBeTold 1 (some .boolean) :: ([])
def wsX0_order : List Cond := .code yX0_order cX0_order 2 (some .int) :: ([])
def wsX0_how : List Cond := .code yX0_how cX0_how 1 (some .int) :: ([])
def wsX0_stands : List Cond := .code yX0_stands cX0_stands 3 (some .int) :: ([.fieldLink RX0 9 "SeaGates$Barrier" "rules" "[I"] ++ wsX00)
def wsX0_next : List Cond := .code yX0_next cX0_next 2 (some .int) :: ([.methodLink RX0 22 yX0_mayBeTold, .static yX0_mayBeTold, .initialized RX0, .code yX0_mayBeTold cX0_mayBeTold 1 (some .boolean)])
def wsX0_water : List Cond := .code yX0_water cX0_water 7 (some .int) :: ([.fieldLink RX0 18 "SeaGates$Barrier" "sea" "LSeaGates$Sea;", .fieldLink RX0 26 "SeaGates$Sea" "levels" "[[I", .methodLink RX0 32 Lib.Math.min.name, .static Lib.Math.min.name, .initialized "java/lang/Math", .code Lib.Math.min.name Lib.Math.min.code 2 (some .int), .fieldLink RX0 15 "SeaGates$Barrier" "rivers" "[I"] ++ wsX00 ++ wsX60)
def wsX0_lost : List Cond := .code yX0_lost cX0_lost 8 (some .int) :: ([.fieldLink RX0 9 "SeaGates$Barrier" "rules" "[I", .methodLink RX0 46 Lib.Math.max.name, .static Lib.Math.max.name, .initialized "java/lang/Math", .code Lib.Math.max.name Lib.Math.max.code 2 (some .int), .methodLink RX0 38 yX0_stands, .instanceMethod yX0_stands, .selects RX0 yX0_stands yX0_stands, .initialized RX0, .code yX0_stands cX0_stands 3 (some .int), .methodLink RX0 42 yX0_water, .instanceMethod yX0_water, .selects RX0 yX0_water yX0_water, .code yX0_water cX0_water 7 (some .int), .fieldLink RX0 18 "SeaGates$Barrier" "sea" "LSeaGates$Sea;", .fieldLink RX0 26 "SeaGates$Sea" "levels" "[[I", .methodLink RX0 32 Lib.Math.min.name, .static Lib.Math.min.name, .code Lib.Math.min.name Lib.Math.min.code 2 (some .int), .fieldLink RX0 15 "SeaGates$Barrier" "rivers" "[I"] ++ wsX00 ++ wsX60)
def wsX0_lossOfOneOrder_r1 : List Cond := [Cond.fieldLink RX0 18 "SeaGates$Barrier" "sea" "LSeaGates$Sea;", Cond.fieldLink RX0 49 "SeaGates$Sea" "size" "I", Cond.fieldLink RX0 53 "SeaGates$Sea" "weights" "[I", Cond.methodLink RX0 56 yX0_lost, Cond.instanceMethod yX0_lost, Cond.selects RX0 yX0_lost yX0_lost, Cond.initialized RX0, Cond.code yX0_lost cX0_lost 8 (some .int), Cond.fieldLink RX0 9 "SeaGates$Barrier" "rules" "[I", Cond.methodLink RX0 46 Lib.Math.max.name, Cond.static Lib.Math.max.name, Cond.initialized "java/lang/Math", Cond.code Lib.Math.max.name Lib.Math.max.code 2 (some .int), Cond.methodLink RX0 38 yX0_stands, Cond.instanceMethod yX0_stands, Cond.selects RX0 yX0_stands yX0_stands, Cond.code yX0_stands cX0_stands 3 (some .int), Cond.methodLink RX0 42 yX0_water, Cond.instanceMethod yX0_water, Cond.selects RX0 yX0_water yX0_water, Cond.code yX0_water cX0_water 7 (some .int), Cond.fieldLink RX0 26 "SeaGates$Sea" "levels" "[[I", Cond.methodLink RX0 32 Lib.Math.min.name, Cond.static Lib.Math.min.name]
def wsX0_lossOfOneOrder_r2 : List Cond := [Cond.code Lib.Math.min.name Lib.Math.min.code 2 (some .int), Cond.fieldLink RX0 15 "SeaGates$Barrier" "rivers" "[I", Cond.methodLink RX0 60 yX0_next, Cond.static yX0_next, Cond.code yX0_next cX0_next 2 (some .int), Cond.methodLink RX0 22 yX0_mayBeTold, Cond.static yX0_mayBeTold, Cond.code yX0_mayBeTold cX0_mayBeTold 1 (some .boolean)]
def wsX0_lossOfOneOrder : List Cond := .code yX0_lossOfOneOrder cX0_lossOfOneOrder 8 (some .long) :: ((wsX0_lossOfOneOrder_r1 ++ wsX0_lossOfOneOrder_r2) ++ wsX00 ++ wsX60)
def wsX1_init : List Cond := .code yX1_init cX1_init 1 none :: ([.methodLink RX1 3 objectInit, .instanceMethod objectInit, .code objectInit ⟨#[0xb1]⟩ 1 none, .arrayClass .int, .fieldLink RX1 9 "SeaGates$Fairway" "minutes" "[I", .fieldLink RX1 15 "SeaGates$Fairway" "passing" "[I", .fieldLink RX1 18 "SeaGates$Fairway" "inTurn" "[I", .fieldLink RX1 21 "SeaGates$Fairway" "size" "I"] ++ wsX10)
def wsX1_add : List Cond := .code yX1_add cX1_add 5 (some .int) :: ([.fieldLink RX1 21 "SeaGates$Fairway" "size" "I", .fieldLink RX1 9 "SeaGates$Fairway" "minutes" "[I", .fieldLink RX1 15 "SeaGates$Fairway" "passing" "[I", .fieldLink RX1 18 "SeaGates$Fairway" "inTurn" "[I"] ++ wsX10)
def wsX1_waitOf : List Cond := .code yX1_waitOf cX1_waitOf 9 (some .int) :: ([.fieldLink RX1 21 "SeaGates$Fairway" "size" "I", .fieldLink RX1 18 "SeaGates$Fairway" "inTurn" "[I", .fieldLink RX1 9 "SeaGates$Fairway" "minutes" "[I", .methodLink RX1 25 Lib.Math.max.name, .static Lib.Math.max.name, .initialized "java/lang/Math", .code Lib.Math.max.name Lib.Math.max.code 2 (some .int), .fieldLink RX1 15 "SeaGates$Fairway" "passing" "[I"] ++ wsX10)
def wsX2_init : List Cond := .code yX2_init cX2_init 3 none :: ([.methodLink RX2 3 objectInit, .instanceMethod objectInit, .code objectInit ⟨#[0xb1]⟩ 1 none, .fieldLink RX2 9 "SeaGates$Gate" "failed" "Z", .fieldLink RX2 15 "SeaGates$Gate" "minutes" "I", .fieldLink RX2 19 "SeaGates$Gate" "hand" "I"] ++ wsX20 ++ wsX30 ++ wsX80 ++ wsX100)
def wsX2_toldAs : List Cond := .code yX2_toldAs cX2_toldAs 1 (some .int) :: ([])
def wsX9_leave : List Cond := .code yX9_leave cX9_leave 2 none :: ([.fieldLink RX9 15 "SeaGates$Trace" "length" "I", .fieldLink RX9 9 "SeaGates$Trace" "numbers" "[I"] ++ wsX90)
def wsX2_cost : List Cond := .code yX2_cost cX2_cost 2 (some .int) :: ([.fieldLink RX2 15 "SeaGates$Gate" "minutes" "I", .methodLink RX2 22 yX9_leave, .instanceMethod yX9_leave, .selects RX9 yX9_leave yX9_leave, .initialized RX9, .code yX9_leave cX9_leave 2 none, .fieldLink RX9 15 "SeaGates$Trace" "length" "I", .fieldLink RX9 9 "SeaGates$Trace" "numbers" "[I"] ++ wsX20 ++ wsX30 ++ wsX80 ++ wsX100 ++ wsX90)
def wsX2_mark : List Cond := .code yX2_mark cX2_mark 2 (some .int) :: ([.fieldLink RX2 9 "SeaGates$Gate" "failed" "Z", .methodLink RX2 22 yX9_leave, .instanceMethod yX9_leave, .selects RX9 yX9_leave yX9_leave, .initialized RX9, .code yX9_leave cX9_leave 2 none, .fieldLink RX9 15 "SeaGates$Trace" "length" "I", .fieldLink RX9 9 "SeaGates$Trace" "numbers" "[I"] ++ wsX20 ++ wsX30 ++ wsX80 ++ wsX100 ++ wsX90)
def wsX3_init : List Cond := .code yX3_init cX3_init 3 none :: ([.methodLink RX3 3 yX2_init, .instanceMethod yX2_init, .initialized RX2, .code yX2_init cX2_init 3 none, .methodLink RX2 3 objectInit, .instanceMethod objectInit, .code objectInit ⟨#[0xb1]⟩ 1 none, .fieldLink RX2 9 "SeaGates$Gate" "failed" "Z", .fieldLink RX2 15 "SeaGates$Gate" "minutes" "I", .fieldLink RX2 19 "SeaGates$Gate" "hand" "I"] ++ wsX20 ++ wsX30 ++ wsX80 ++ wsX100)
def wsX3_toldAs : List Cond := .code yX3_toldAs cX3_toldAs 1 (some .int) :: ([])
def wsX3_cost : List Cond := .code yX3_cost cX3_cost 2 (some .int) :: ([.fieldLink RX3 19 "SeaGates$Handed" "hand" "I", .sameField "SeaGates$Handed" "SeaGates$Gate" "hand" "I", .methodLink RX3 9 yX9_leave, .instanceMethod yX9_leave, .selects RX9 yX9_leave yX9_leave, .initialized RX9, .code yX9_leave cX9_leave 2 none, .fieldLink RX9 15 "SeaGates$Trace" "length" "I", .fieldLink RX9 9 "SeaGates$Trace" "numbers" "[I", .methodLink RX3 15 yX2_cost, .sameMethod "SeaGates$Gate" "SeaGates$Gate" "cost" "(LSeaGates$Trace;)I", .superclass RX3 RX2, .instanceMethod yX2_cost, .initialized RX2, .code yX2_cost cX2_cost 2 (some .int), .fieldLink RX2 15 "SeaGates$Gate" "minutes" "I", .methodLink RX2 22 yX9_leave] ++ wsX20 ++ wsX30 ++ wsX80 ++ wsX100 ++ wsX90)
def wsX10_cost : List Cond := .code yX10_cost cX10_cost 2 (some .int) :: ([.methodLink RX10 9 yX9_leave, .instanceMethod yX9_leave, .selects RX9 yX9_leave yX9_leave, .initialized RX9, .code yX9_leave cX9_leave 2 none, .fieldLink RX9 15 "SeaGates$Trace" "length" "I", .fieldLink RX9 9 "SeaGates$Trace" "numbers" "[I", .methodLink RX10 15 yX3_cost, .sameMethod "SeaGates$Handed" "SeaGates$Handed" "cost" "(LSeaGates$Trace;)I", .superclass RX10 RX3, .instanceMethod yX3_cost, .initialized RX3, .code yX3_cost cX3_cost 2 (some .int), .fieldLink RX3 19 "SeaGates$Handed" "hand" "I", .sameField "SeaGates$Handed" "SeaGates$Gate" "hand" "I", .methodLink RX3 9 yX9_leave, .methodLink RX3 15 yX2_cost, .sameMethod "SeaGates$Gate" "SeaGates$Gate" "cost" "(LSeaGates$Trace;)I", .superclass RX3 RX2, .instanceMethod yX2_cost, .initialized RX2, .code yX2_cost cX2_cost 2 (some .int), .fieldLink RX2 15 "SeaGates$Gate" "minutes" "I", .methodLink RX2 22 yX9_leave] ++ wsX90 ++ wsX20 ++ wsX30 ++ wsX80 ++ wsX100)
def wsX3_mark_r1 : List Cond := [Cond.methodLink RX3 9 yX9_leave, Cond.instanceMethod yX9_leave, Cond.selects RX9 yX9_leave yX9_leave, Cond.initialized RX9, Cond.code yX9_leave cX9_leave 2 none, Cond.fieldLink RX9 15 "SeaGates$Trace" "length" "I", Cond.fieldLink RX9 9 "SeaGates$Trace" "numbers" "[I", Cond.methodLink RX3 25 yX2_mark, Cond.sameMethod "SeaGates$Gate" "SeaGates$Gate" "mark" "(LSeaGates$Trace;)I", Cond.superclass RX3 RX2, Cond.instanceMethod yX2_mark, Cond.initialized RX2, Cond.code yX2_mark cX2_mark 2 (some .int), Cond.fieldLink RX2 9 "SeaGates$Gate" "failed" "Z", Cond.methodLink RX2 22 yX9_leave, Cond.methodLink RX3 28 yX3_cost, Cond.instanceMethod yX3_cost, Cond.selects RX3 yX3_cost yX3_cost, Cond.initialized RX3, Cond.code yX3_cost cX3_cost 2 (some .int), Cond.fieldLink RX3 19 "SeaGates$Handed" "hand" "I", Cond.sameField "SeaGates$Handed" "SeaGates$Gate" "hand" "I", Cond.methodLink RX3 15 yX2_cost, Cond.sameMethod "SeaGates$Gate" "SeaGates$Gate" "cost" "(LSeaGates$Trace;)I"]
def wsX3_mark_r2 : List Cond := [Cond.instanceMethod yX2_cost, Cond.code yX2_cost cX2_cost 2 (some .int), Cond.fieldLink RX2 15 "SeaGates$Gate" "minutes" "I", Cond.methodLink RX3 28 ⟨"SeaGates$Handed", "cost", "(LSeaGates$Trace;)I"⟩, Cond.sameMethod "SeaGates$Handed" "SeaGates$Handed" "cost" "(LSeaGates$Trace;)I", Cond.instanceMethod ⟨"SeaGates$Handed", "cost", "(LSeaGates$Trace;)I"⟩, Cond.selects RX10 ⟨"SeaGates$Handed", "cost", "(LSeaGates$Trace;)I"⟩ yX10_cost, Cond.instanceMethod yX10_cost, Cond.initialized RX10, Cond.code yX10_cost cX10_cost 2 (some .int), Cond.methodLink RX10 9 yX9_leave, Cond.methodLink RX10 15 yX3_cost, Cond.superclass RX10 RX3]
def wsX3_mark : List Cond := .code yX3_mark cX3_mark 2 (some .int) :: ((wsX3_mark_r1 ++ wsX3_mark_r2) ++ wsX90 ++ wsX20 ++ wsX30 ++ wsX80 ++ wsX100)
def wsX4_init : List Cond := .code yX4_init cX4_init 3 none :: ([.methodLink RX4 3 objectInit, .instanceMethod objectInit, .code objectInit ⟨#[0xb1]⟩ 1 none, .classLink RX4 9 "[[I", .arrayClass .int, .fieldLink RX4 11 "SeaGates$Plan" "orders" "[[I", .classLink RX4 16 "[[J", .arrayClass .long, .fieldLink RX4 18 "SeaGates$Plan" "now" "[[J", .fieldLink RX4 21 "SeaGates$Plan" "then" "[[J", .fieldLink RX4 24 "SeaGates$Plan" "loss" "J", .fieldLink RX4 28 "SeaGates$Plan" "stale" "Z", .fieldLink RX4 32 "SeaGates$Plan" "sea" "LSeaGates$Sea;", .fieldLink RX4 36 "SeaGates$Plan" "barrier" "LSeaGates$Barrier;"] ++ wsX40)
def wsX6_weightOfGroup : List Cond := .code yX6_weightOfGroup cX6_weightOfGroup 5 (some .int) :: ([.fieldLink RX6 23 "SeaGates$Sea" "size" "I", .fieldLink RX6 20 "SeaGates$Sea" "heads" "[[I", .fieldLink RX6 9 "SeaGates$Sea" "weights" "[I"] ++ wsX60)
def wsX4_lossFrom_r1 : List Cond := [Cond.fieldLink RX4 36 "SeaGates$Plan" "barrier" "LSeaGates$Barrier;", Cond.fieldLink RX4 32 "SeaGates$Plan" "sea" "LSeaGates$Sea;", Cond.fieldLink RX4 44 "SeaGates$Sea" "size" "I", Cond.fieldLink RX4 50 "SeaGates$Sea" "heads" "[[I", Cond.fieldLink RX4 21 "SeaGates$Plan" "then" "[[J", Cond.methodLink RX4 77 yX0_lost, Cond.instanceMethod yX0_lost, Cond.selects RX0 yX0_lost yX0_lost, Cond.initialized RX0, Cond.code yX0_lost cX0_lost 8 (some .int), Cond.fieldLink RX0 9 "SeaGates$Barrier" "rules" "[I", Cond.methodLink RX0 46 Lib.Math.max.name, Cond.static Lib.Math.max.name, Cond.initialized "java/lang/Math", Cond.code Lib.Math.max.name Lib.Math.max.code 2 (some .int), Cond.methodLink RX0 38 yX0_stands, Cond.instanceMethod yX0_stands, Cond.selects RX0 yX0_stands yX0_stands, Cond.code yX0_stands cX0_stands 3 (some .int), Cond.methodLink RX0 42 yX0_water, Cond.instanceMethod yX0_water, Cond.selects RX0 yX0_water yX0_water, Cond.code yX0_water cX0_water 7 (some .int), Cond.fieldLink RX0 18 "SeaGates$Barrier" "sea" "LSeaGates$Sea;"]
def wsX4_lossFrom_r2 : List Cond := [Cond.fieldLink RX0 26 "SeaGates$Sea" "levels" "[[I", Cond.methodLink RX0 32 Lib.Math.min.name, Cond.static Lib.Math.min.name, Cond.code Lib.Math.min.name Lib.Math.min.code 2 (some .int), Cond.fieldLink RX0 15 "SeaGates$Barrier" "rivers" "[I", Cond.methodLink RX4 81 yX0_stands, Cond.methodLink RX4 85 yX0_next, Cond.static yX0_next, Cond.code yX0_next cX0_next 2 (some .int), Cond.methodLink RX0 22 yX0_mayBeTold, Cond.static yX0_mayBeTold, Cond.code yX0_mayBeTold cX0_mayBeTold 1 (some .boolean)]
def wsX4_lossFrom : List Cond := .code yX4_lossFrom cX4_lossFrom 10 (some .long) :: ((wsX4_lossFrom_r1 ++ wsX4_lossFrom_r2) ++ wsX40 ++ wsX60 ++ wsX00)
def wsX4_decideGroup_r1 : List Cond := [Cond.fieldLink RX4 32 "SeaGates$Plan" "sea" "LSeaGates$Sea;", Cond.fieldLink RX4 11 "SeaGates$Plan" "orders" "[[I", Cond.fieldLink RX4 18 "SeaGates$Plan" "now" "[[J", Cond.methodLink RX4 63 yX6_weightOfGroup, Cond.instanceMethod yX6_weightOfGroup, Cond.selects RX6 yX6_weightOfGroup yX6_weightOfGroup, Cond.initialized RX6, Cond.code yX6_weightOfGroup cX6_weightOfGroup 5 (some .int), Cond.fieldLink RX6 23 "SeaGates$Sea" "size" "I", Cond.fieldLink RX6 20 "SeaGates$Sea" "heads" "[[I", Cond.fieldLink RX6 9 "SeaGates$Sea" "weights" "[I", Cond.methodLink RX4 67 yX4_lossFrom, Cond.instanceMethod yX4_lossFrom, Cond.selects RX4 yX4_lossFrom yX4_lossFrom, Cond.initialized RX4, Cond.code yX4_lossFrom cX4_lossFrom 10 (some .long), Cond.fieldLink RX4 36 "SeaGates$Plan" "barrier" "LSeaGates$Barrier;", Cond.fieldLink RX4 44 "SeaGates$Sea" "size" "I", Cond.fieldLink RX4 50 "SeaGates$Sea" "heads" "[[I", Cond.fieldLink RX4 21 "SeaGates$Plan" "then" "[[J", Cond.methodLink RX4 77 yX0_lost, Cond.instanceMethod yX0_lost, Cond.selects RX0 yX0_lost yX0_lost, Cond.initialized RX0]
def wsX4_decideGroup_r2 : List Cond := [Cond.code yX0_lost cX0_lost 8 (some .int), Cond.fieldLink RX0 9 "SeaGates$Barrier" "rules" "[I", Cond.methodLink RX0 46 Lib.Math.max.name, Cond.static Lib.Math.max.name, Cond.initialized "java/lang/Math", Cond.code Lib.Math.max.name Lib.Math.max.code 2 (some .int), Cond.methodLink RX0 38 yX0_stands, Cond.instanceMethod yX0_stands, Cond.selects RX0 yX0_stands yX0_stands, Cond.code yX0_stands cX0_stands 3 (some .int), Cond.methodLink RX0 42 yX0_water, Cond.instanceMethod yX0_water, Cond.selects RX0 yX0_water yX0_water, Cond.code yX0_water cX0_water 7 (some .int), Cond.fieldLink RX0 18 "SeaGates$Barrier" "sea" "LSeaGates$Sea;", Cond.fieldLink RX0 26 "SeaGates$Sea" "levels" "[[I", Cond.methodLink RX0 32 Lib.Math.min.name, Cond.static Lib.Math.min.name, Cond.code Lib.Math.min.name Lib.Math.min.code 2 (some .int), Cond.fieldLink RX0 15 "SeaGates$Barrier" "rivers" "[I", Cond.methodLink RX4 81 yX0_stands, Cond.methodLink RX4 85 yX0_next, Cond.static yX0_next, Cond.code yX0_next cX0_next 2 (some .int)]
def wsX4_decideGroup_r3 : List Cond := [Cond.methodLink RX0 22 yX0_mayBeTold, Cond.static yX0_mayBeTold, Cond.code yX0_mayBeTold cX0_mayBeTold 1 (some .boolean), Cond.methodLink RX4 71 yX0_mayBeTold]
def wsX4_decideGroup : List Cond := .code yX4_decideGroup cX4_decideGroup 9 none :: ((wsX4_decideGroup_r1 ++ (wsX4_decideGroup_r2 ++ wsX4_decideGroup_r3)) ++ wsX40 ++ wsX60 ++ wsX00)
def wsX4_decideHour_r1 : List Cond := [Cond.fieldLink RX4 32 "SeaGates$Plan" "sea" "LSeaGates$Sea;", Cond.fieldLink RX4 44 "SeaGates$Sea" "size" "I", Cond.fieldLink RX4 18 "SeaGates$Plan" "now" "[[J", Cond.fieldLink RX4 21 "SeaGates$Plan" "then" "[[J", Cond.methodLink RX4 53 arraycopyName, Cond.native arraycopyName, Cond.static arraycopyName, Cond.initialized "java/lang/System", Cond.fieldLink RX4 11 "SeaGates$Plan" "orders" "[[I", Cond.fieldLink RX4 50 "SeaGates$Sea" "heads" "[[I", Cond.methodLink RX4 59 yX4_decideGroup, Cond.instanceMethod yX4_decideGroup, Cond.selects RX4 yX4_decideGroup yX4_decideGroup, Cond.initialized RX4, Cond.code yX4_decideGroup cX4_decideGroup 9 none, Cond.methodLink RX4 63 yX6_weightOfGroup, Cond.instanceMethod yX6_weightOfGroup, Cond.selects RX6 yX6_weightOfGroup yX6_weightOfGroup, Cond.initialized RX6, Cond.code yX6_weightOfGroup cX6_weightOfGroup 5 (some .int), Cond.fieldLink RX6 23 "SeaGates$Sea" "size" "I", Cond.fieldLink RX6 20 "SeaGates$Sea" "heads" "[[I", Cond.fieldLink RX6 9 "SeaGates$Sea" "weights" "[I", Cond.methodLink RX4 67 yX4_lossFrom]
def wsX4_decideHour_r2 : List Cond := [Cond.instanceMethod yX4_lossFrom, Cond.selects RX4 yX4_lossFrom yX4_lossFrom, Cond.code yX4_lossFrom cX4_lossFrom 10 (some .long), Cond.fieldLink RX4 36 "SeaGates$Plan" "barrier" "LSeaGates$Barrier;", Cond.methodLink RX4 77 yX0_lost, Cond.instanceMethod yX0_lost, Cond.selects RX0 yX0_lost yX0_lost, Cond.initialized RX0, Cond.code yX0_lost cX0_lost 8 (some .int), Cond.fieldLink RX0 9 "SeaGates$Barrier" "rules" "[I", Cond.methodLink RX0 46 Lib.Math.max.name, Cond.static Lib.Math.max.name, Cond.initialized "java/lang/Math", Cond.code Lib.Math.max.name Lib.Math.max.code 2 (some .int), Cond.methodLink RX0 38 yX0_stands, Cond.instanceMethod yX0_stands, Cond.selects RX0 yX0_stands yX0_stands, Cond.code yX0_stands cX0_stands 3 (some .int), Cond.methodLink RX0 42 yX0_water, Cond.instanceMethod yX0_water, Cond.selects RX0 yX0_water yX0_water, Cond.code yX0_water cX0_water 7 (some .int), Cond.fieldLink RX0 18 "SeaGates$Barrier" "sea" "LSeaGates$Sea;", Cond.fieldLink RX0 26 "SeaGates$Sea" "levels" "[[I"]
def wsX4_decideHour_r3 : List Cond := [Cond.methodLink RX0 32 Lib.Math.min.name, Cond.static Lib.Math.min.name, Cond.code Lib.Math.min.name Lib.Math.min.code 2 (some .int), Cond.fieldLink RX0 15 "SeaGates$Barrier" "rivers" "[I", Cond.methodLink RX4 81 yX0_stands, Cond.methodLink RX4 85 yX0_next, Cond.static yX0_next, Cond.code yX0_next cX0_next 2 (some .int), Cond.methodLink RX0 22 yX0_mayBeTold, Cond.static yX0_mayBeTold, Cond.code yX0_mayBeTold cX0_mayBeTold 1 (some .boolean), Cond.methodLink RX4 71 yX0_mayBeTold]
def wsX4_decideHour : List Cond := .code yX4_decideHour cX4_decideHour 3 none :: ((wsX4_decideHour_r1 ++ (wsX4_decideHour_r2 ++ wsX4_decideHour_r3)) ++ wsX40 ++ wsX60 ++ wsX00)
def wsX4_refresh_r1 : List Cond := [Cond.fieldLink RX4 28 "SeaGates$Plan" "stale" "Z", Cond.fieldLink RX4 24 "SeaGates$Plan" "loss" "J", Cond.fieldLink RX4 32 "SeaGates$Plan" "sea" "LSeaGates$Sea;", Cond.fieldLink RX4 44 "SeaGates$Sea" "size" "I", Cond.fieldLink RX4 50 "SeaGates$Sea" "heads" "[[I", Cond.fieldLink RX4 18 "SeaGates$Plan" "now" "[[J", Cond.methodLink RX4 40 yX4_decideHour, Cond.instanceMethod yX4_decideHour, Cond.selects RX4 yX4_decideHour yX4_decideHour, Cond.initialized RX4, Cond.code yX4_decideHour cX4_decideHour 3 none, Cond.fieldLink RX4 21 "SeaGates$Plan" "then" "[[J", Cond.methodLink RX4 53 arraycopyName, Cond.native arraycopyName, Cond.static arraycopyName, Cond.initialized "java/lang/System", Cond.fieldLink RX4 11 "SeaGates$Plan" "orders" "[[I", Cond.methodLink RX4 59 yX4_decideGroup, Cond.instanceMethod yX4_decideGroup, Cond.selects RX4 yX4_decideGroup yX4_decideGroup, Cond.code yX4_decideGroup cX4_decideGroup 9 none, Cond.methodLink RX4 63 yX6_weightOfGroup, Cond.instanceMethod yX6_weightOfGroup, Cond.selects RX6 yX6_weightOfGroup yX6_weightOfGroup]
def wsX4_refresh_r2 : List Cond := [Cond.initialized RX6, Cond.code yX6_weightOfGroup cX6_weightOfGroup 5 (some .int), Cond.fieldLink RX6 23 "SeaGates$Sea" "size" "I", Cond.fieldLink RX6 20 "SeaGates$Sea" "heads" "[[I", Cond.fieldLink RX6 9 "SeaGates$Sea" "weights" "[I", Cond.methodLink RX4 67 yX4_lossFrom, Cond.instanceMethod yX4_lossFrom, Cond.selects RX4 yX4_lossFrom yX4_lossFrom, Cond.code yX4_lossFrom cX4_lossFrom 10 (some .long), Cond.fieldLink RX4 36 "SeaGates$Plan" "barrier" "LSeaGates$Barrier;", Cond.methodLink RX4 77 yX0_lost, Cond.instanceMethod yX0_lost, Cond.selects RX0 yX0_lost yX0_lost, Cond.initialized RX0, Cond.code yX0_lost cX0_lost 8 (some .int), Cond.fieldLink RX0 9 "SeaGates$Barrier" "rules" "[I", Cond.methodLink RX0 46 Lib.Math.max.name, Cond.static Lib.Math.max.name, Cond.initialized "java/lang/Math", Cond.code Lib.Math.max.name Lib.Math.max.code 2 (some .int), Cond.methodLink RX0 38 yX0_stands, Cond.instanceMethod yX0_stands, Cond.selects RX0 yX0_stands yX0_stands, Cond.code yX0_stands cX0_stands 3 (some .int)]
def wsX4_refresh_r3 : List Cond := [Cond.methodLink RX0 42 yX0_water, Cond.instanceMethod yX0_water, Cond.selects RX0 yX0_water yX0_water, Cond.code yX0_water cX0_water 7 (some .int), Cond.fieldLink RX0 18 "SeaGates$Barrier" "sea" "LSeaGates$Sea;", Cond.fieldLink RX0 26 "SeaGates$Sea" "levels" "[[I", Cond.methodLink RX0 32 Lib.Math.min.name, Cond.static Lib.Math.min.name, Cond.code Lib.Math.min.name Lib.Math.min.code 2 (some .int), Cond.fieldLink RX0 15 "SeaGates$Barrier" "rivers" "[I", Cond.methodLink RX4 81 yX0_stands, Cond.methodLink RX4 85 yX0_next, Cond.static yX0_next, Cond.code yX0_next cX0_next 2 (some .int), Cond.methodLink RX0 22 yX0_mayBeTold, Cond.static yX0_mayBeTold, Cond.code yX0_mayBeTold cX0_mayBeTold 1 (some .boolean), Cond.methodLink RX4 71 yX0_mayBeTold]
def wsX4_refresh : List Cond := .code yX4_refresh cX4_refresh 2 none :: ((wsX4_refresh_r1 ++ (wsX4_refresh_r2 ++ wsX4_refresh_r3)) ++ wsX40 ++ wsX60 ++ wsX00)
def wsX4_tells : List Cond := .code yX4_tells cX4_tells 4 (some .boolean) :: ([.fieldLink RX4 11 "SeaGates$Plan" "orders" "[[I", .fieldLink RX4 32 "SeaGates$Plan" "sea" "LSeaGates$Sea;", .fieldLink RX4 50 "SeaGates$Sea" "heads" "[[I"] ++ wsX40 ++ wsX60)
def wsX4_stateAt : List Cond := .code yX4_stateAt cX4_stateAt 5 (some .int) :: ([.fieldLink RX4 36 "SeaGates$Plan" "barrier" "LSeaGates$Barrier;", .methodLink RX4 88 yX4_tells, .instanceMethod yX4_tells, .selects RX4 yX4_tells yX4_tells, .initialized RX4, .code yX4_tells cX4_tells 4 (some .boolean), .fieldLink RX4 11 "SeaGates$Plan" "orders" "[[I", .fieldLink RX4 32 "SeaGates$Plan" "sea" "LSeaGates$Sea;", .fieldLink RX4 50 "SeaGates$Sea" "heads" "[[I", .methodLink RX4 81 yX0_stands, .instanceMethod yX0_stands, .selects RX0 yX0_stands yX0_stands, .initialized RX0, .code yX0_stands cX0_stands 3 (some .int), .fieldLink RX0 9 "SeaGates$Barrier" "rules" "[I", .methodLink RX4 85 yX0_next, .static yX0_next, .code yX0_next cX0_next 2 (some .int), .methodLink RX0 22 yX0_mayBeTold, .static yX0_mayBeTold, .code yX0_mayBeTold cX0_mayBeTold 1 (some .boolean)] ++ wsX40 ++ wsX60 ++ wsX00)
def wsX5_init : List Cond := .code yX5_init cX5_init 1 none :: ([.methodLink RX5 3 objectInit, .instanceMethod objectInit, .code objectInit ⟨#[0xb1]⟩ 1 none, .classLink RX5 9 RX2, .fieldLink RX5 11 "SeaGates$Row" "gates" "[LSeaGates$Gate;", .arrayClass .int, .fieldLink RX5 17 "SeaGates$Row" "free" "[I", .fieldLink RX5 21 "SeaGates$Row" "size" "I"] ++ wsX50)
def wsX5_add : List Cond := .code yX5_add cX5_add 2 (some .int) :: ([.fieldLink RX5 11 "SeaGates$Row" "gates" "[LSeaGates$Gate;", .fieldLink RX5 21 "SeaGates$Row" "size" "I"] ++ wsX50)
def wsX11_within : List Cond := .code yX11_within cX11_within 3 (some .boolean) :: ([])
def wsX5_at : List Cond := .code yX5_at cX5_at 2 (some (.object "SeaGates$Gate")) :: ([.fieldLink RX5 21 "SeaGates$Row" "size" "I", .fieldLink RX5 11 "SeaGates$Row" "gates" "[LSeaGates$Gate;", .static yX11_within, .initialized RX11, .code yX11_within cX11_within 3 (some .boolean)] ++ wsX50)
def wsX5_failedOnes : List Cond := .code yX5_failedOnes cX5_failedOnes 6 (some .int) :: ([.fieldLink RX5 11 "SeaGates$Row" "gates" "[LSeaGates$Gate;", .fieldLink RX5 29 "SeaGates$Gate" "failed" "Z"] ++ wsX50 ++ wsX20 ++ wsX30 ++ wsX80 ++ wsX100)
def wsJ7_fill_53178 : List Cond := .code yJ7_fill_53178 cJ7_fill_53178 4 none :: ([])
def wsX5_endByHand : List Cond := .code yX5_endByHand cX5_endByHand 5 (some .int) :: ([.fieldLink RX5 17 "SeaGates$Row" "free" "[I"] ++ wsX50)
def wsX5_timeToShut : List Cond := .code yX5_timeToShut cX5_timeToShut 7 (some .int) :: ([.fieldLink RX5 17 "SeaGates$Row" "free" "[I", .fieldLink RX5 11 "SeaGates$Row" "gates" "[LSeaGates$Gate;", .fieldLink RX5 39 "SeaGates$Gate" "minutes" "I", .fieldLink RX5 29 "SeaGates$Gate" "failed" "Z", .fieldLink RX5 42 "SeaGates$Gate" "hand" "I", .constant RX5 45 (-1000000), .methodLink RX5 50 Lib.Math.max.name, .static Lib.Math.max.name, .initialized "java/lang/Math", .code Lib.Math.max.name Lib.Math.max.code 2 (some .int), .methodLink RX5 33 yJ7_fill_53178, .static yJ7_fill_53178, .initialized RJ7, .code yJ7_fill_53178 cJ7_fill_53178 4 none, .methodLink RX5 46 yX5_endByHand, .instanceMethod yX5_endByHand, .selects RX5 yX5_endByHand yX5_endByHand, .initialized RX5, .code yX5_endByHand cX5_endByHand 5 (some .int)] ++ wsX50 ++ wsX20 ++ wsX30 ++ wsX80 ++ wsX100)
def wsX5_worstTime_r1 : List Cond := [Cond.fieldLink RX5 21 "SeaGates$Row" "size" "I", Cond.constant RX5 45 (-1000000), Cond.fieldLink RX5 11 "SeaGates$Row" "gates" "[LSeaGates$Gate;", Cond.fieldLink RX5 29 "SeaGates$Gate" "failed" "Z", Cond.methodLink RX5 50 Lib.Math.max.name, Cond.static Lib.Math.max.name, Cond.initialized "java/lang/Math", Cond.code Lib.Math.max.name Lib.Math.max.code 2 (some .int), Cond.methodLink RX5 55 yX5_failedOnes, Cond.instanceMethod yX5_failedOnes, Cond.selects RX5 yX5_failedOnes yX5_failedOnes, Cond.initialized RX5, Cond.code yX5_failedOnes cX5_failedOnes 6 (some .int), Cond.methodLink RX5 59 yX5_timeToShut, Cond.instanceMethod yX5_timeToShut, Cond.selects RX5 yX5_timeToShut yX5_timeToShut, Cond.code yX5_timeToShut cX5_timeToShut 7 (some .int), Cond.fieldLink RX5 17 "SeaGates$Row" "free" "[I", Cond.fieldLink RX5 39 "SeaGates$Gate" "minutes" "I", Cond.fieldLink RX5 42 "SeaGates$Gate" "hand" "I", Cond.methodLink RX5 33 yJ7_fill_53178, Cond.static yJ7_fill_53178, Cond.initialized RJ7, Cond.code yJ7_fill_53178 cJ7_fill_53178 4 none]
def wsX5_worstTime_r2 : List Cond := [Cond.methodLink RX5 46 yX5_endByHand, Cond.instanceMethod yX5_endByHand, Cond.selects RX5 yX5_endByHand yX5_endByHand, Cond.code yX5_endByHand cX5_endByHand 5 (some .int)]
def wsX5_worstTime : List Cond := .code yX5_worstTime cX5_worstTime 6 (some .int) :: ((wsX5_worstTime_r1 ++ wsX5_worstTime_r2) ++ wsX50 ++ wsX20 ++ wsX30 ++ wsX80 ++ wsX100)
def wsX6_init : List Cond := .code yX6_init cX6_init 1 none :: ([.methodLink RX6 3 objectInit, .instanceMethod objectInit, .code objectInit ⟨#[0xb1]⟩ 1 none, .arrayClass .int, .fieldLink RX6 9 "SeaGates$Sea" "weights" "[I", .classLink RX6 15 "[[I", .fieldLink RX6 17 "SeaGates$Sea" "levels" "[[I", .fieldLink RX6 20 "SeaGates$Sea" "heads" "[[I", .fieldLink RX6 23 "SeaGates$Sea" "size" "I"] ++ wsX60)
def wsX6_areAlike : List Cond := .code yX6_areAlike cX6_areAlike 5 (some .boolean) :: ([.fieldLink RX6 17 "SeaGates$Sea" "levels" "[[I"] ++ wsX60)
def wsX6_headOf : List Cond := .code yX6_headOf cX6_headOf 4 (some .int) :: ([.methodLink RX6 37 yX6_areAlike, .instanceMethod yX6_areAlike, .selects RX6 yX6_areAlike yX6_areAlike, .initialized RX6, .code yX6_areAlike cX6_areAlike 5 (some .boolean), .fieldLink RX6 17 "SeaGates$Sea" "levels" "[[I"] ++ wsX60)
def wsX6_add : List Cond := .code yX6_add cX6_add 6 (some .int) :: ([.fieldLink RX6 23 "SeaGates$Sea" "size" "I", .fieldLink RX6 17 "SeaGates$Sea" "levels" "[[I", .methodLink RX6 27 arraycopyName, .native arraycopyName, .static arraycopyName, .initialized "java/lang/System", .fieldLink RX6 9 "SeaGates$Sea" "weights" "[I", .fieldLink RX6 20 "SeaGates$Sea" "heads" "[[I", .methodLink RX6 33 yX6_headOf, .instanceMethod yX6_headOf, .selects RX6 yX6_headOf yX6_headOf, .initialized RX6, .code yX6_headOf cX6_headOf 4 (some .int), .methodLink RX6 37 yX6_areAlike, .instanceMethod yX6_areAlike, .selects RX6 yX6_areAlike yX6_areAlike, .code yX6_areAlike cX6_areAlike 5 (some .boolean)] ++ wsX60)
def wsX6_groupsAt : List Cond := .code yX6_groupsAt cX6_groupsAt 4 (some .int) :: ([.fieldLink RX6 23 "SeaGates$Sea" "size" "I", .fieldLink RX6 20 "SeaGates$Sea" "heads" "[[I"] ++ wsX60)
def wsX6_allWeights : List Cond := .code yX6_allWeights cX6_allWeights 3 (some .int) :: ([.fieldLink RX6 23 "SeaGates$Sea" "size" "I", .fieldLink RX6 9 "SeaGates$Sea" "weights" "[I"] ++ wsX60)
def wsX6_firstAbove : List Cond := .code yX6_firstAbove cX6_firstAbove 4 (some .int) :: ([.fieldLink RX6 23 "SeaGates$Sea" "size" "I", .fieldLink RX6 17 "SeaGates$Sea" "levels" "[[I"] ++ wsX60)
def wsX7_init : List Cond := .code yX7_init cX7_init 1 none :: ([.methodLink RX7 3 objectInit, .instanceMethod objectInit, .code objectInit ⟨#[0xb1]⟩ 1 none, .classLink RX7 9 "[[I", .arrayClass .int, .fieldLink RX7 11 "SeaGates$Sheets" "items" "[[I", .fieldLink RX7 16 "SeaGates$Sheets" "lanes" "[I", .fieldLink RX7 20 "SeaGates$Sheets" "sizes" "[I", .methodLink RX7 23 yJ7_fill_53178, .static yJ7_fill_53178, .initialized RJ7, .code yJ7_fill_53178 cJ7_fill_53178 4 none] ++ wsX70)
def wsX7_isMissing : List Cond := .code yX7_isMissing cX7_isMissing 2 (some .boolean) :: ([.fieldLink RX7 20 "SeaGates$Sheets" "sizes" "[I"] ++ wsX70)
def wsX7_lay : List Cond := .code yX7_lay cX7_lay 4 none :: ([.fieldLink RX7 16 "SeaGates$Sheets" "lanes" "[I", .fieldLink RX7 20 "SeaGates$Sheets" "sizes" "[I", .fieldLink RX7 11 "SeaGates$Sheets" "items" "[[I", .methodLink RX7 23 yJ7_fill_53178, .static yJ7_fill_53178, .initialized RJ7, .code yJ7_fill_53178 cJ7_fill_53178 4 none] ++ wsX70)
def wsX7_takeAway : List Cond := .code yX7_takeAway cX7_takeAway 3 (some .int) :: ([.fieldLink RX7 20 "SeaGates$Sheets" "sizes" "[I"] ++ wsX70)
def wsX7_hasPlaces : List Cond := .code yX7_hasPlaces cX7_hasPlaces 4 (some .boolean) :: ([.fieldLink RX7 20 "SeaGates$Sheets" "sizes" "[I"] ++ wsX70)
def wsX7_look : List Cond := .code yX7_look cX7_look 4 (some .int) :: ([.methodLink RX7 29 yX7_isMissing, .instanceMethod yX7_isMissing, .selects RX7 yX7_isMissing yX7_isMissing, .initialized RX7, .code yX7_isMissing cX7_isMissing 2 (some .boolean), .fieldLink RX7 20 "SeaGates$Sheets" "sizes" "[I", .methodLink RX7 33 yX7_hasPlaces, .instanceMethod yX7_hasPlaces, .selects RX7 yX7_hasPlaces yX7_hasPlaces, .code yX7_hasPlaces cX7_hasPlaces 4 (some .boolean)] ++ wsX70)
def wsX7_lookAtBoth : List Cond := .code yX7_lookAtBoth cX7_lookAtBoth 6 (some .int) :: ([.fieldLink RX7 16 "SeaGates$Sheets" "lanes" "[I", .methodLink RX7 29 yX7_isMissing, .instanceMethod yX7_isMissing, .selects RX7 yX7_isMissing yX7_isMissing, .initialized RX7, .code yX7_isMissing cX7_isMissing 2 (some .boolean), .fieldLink RX7 20 "SeaGates$Sheets" "sizes" "[I", .methodLink RX7 33 yX7_hasPlaces, .instanceMethod yX7_hasPlaces, .selects RX7 yX7_hasPlaces yX7_hasPlaces, .code yX7_hasPlaces cX7_hasPlaces 4 (some .boolean)] ++ wsX70)
def wsX7_narrowed : List Cond := .code yX7_narrowed cX7_narrowed 2 (some .int) :: ([])
def wsX7_put : List Cond := .code yX7_put cX7_put 4 (some .int) :: ([.fieldLink RX7 11 "SeaGates$Sheets" "items" "[[I", .fieldLink RX7 16 "SeaGates$Sheets" "lanes" "[I", .methodLink RX7 37 yX7_narrowed, .static yX7_narrowed, .initialized RX7, .code yX7_narrowed cX7_narrowed 2 (some .int)] ++ wsX70)
def wsX7_move : List Cond := .code yX7_move cX7_move 6 none :: ([.fieldLink RX7 11 "SeaGates$Sheets" "items" "[[I", .methodLink RX7 41 arraycopyName, .native arraycopyName, .static arraycopyName, .initialized "java/lang/System"] ++ wsX70)
def wsX7_areWithin : List Cond := .code yX7_areWithin cX7_areWithin 6 (some .boolean) :: ([.fieldLink RX7 11 "SeaGates$Sheets" "items" "[[I", .static yX11_within, .initialized RX11, .code yX11_within cX11_within 3 (some .boolean)] ++ wsX70)
def wsX7_above : List Cond := .code yX7_above cX7_above 8 (some .int) :: ([.fieldLink RX7 11 "SeaGates$Sheets" "items" "[[I"] ++ wsX70)
def wsX7_present : List Cond := .code yX7_present cX7_present 3 (some .int) :: ([.methodLink RX7 29 yX7_isMissing, .instanceMethod yX7_isMissing, .selects RX7 yX7_isMissing yX7_isMissing, .initialized RX7, .code yX7_isMissing cX7_isMissing 2 (some .boolean), .fieldLink RX7 20 "SeaGates$Sheets" "sizes" "[I"] ++ wsX70)
def wsX8_init : List Cond := .code yX8_init cX8_init 2 none :: ([.methodLink RX8 3 yX2_init, .instanceMethod yX2_init, .initialized RX2, .code yX2_init cX2_init 3 none, .methodLink RX2 3 objectInit, .instanceMethod objectInit, .code objectInit ⟨#[0xb1]⟩ 1 none, .fieldLink RX2 9 "SeaGates$Gate" "failed" "Z", .fieldLink RX2 15 "SeaGates$Gate" "minutes" "I", .fieldLink RX2 19 "SeaGates$Gate" "hand" "I"] ++ wsX20 ++ wsX30 ++ wsX80 ++ wsX100)
def wsX8_toldAs : List Cond := .code yX8_toldAs cX8_toldAs 1 (some .int) :: ([])
def wsX8_cost : List Cond := .code yX8_cost cX8_cost 2 (some .int) :: ([.methodLink RX8 9 yX9_leave, .instanceMethod yX9_leave, .selects RX9 yX9_leave yX9_leave, .initialized RX9, .code yX9_leave cX9_leave 2 none, .fieldLink RX9 15 "SeaGates$Trace" "length" "I", .fieldLink RX9 9 "SeaGates$Trace" "numbers" "[I", .methodLink RX8 15 yX2_cost, .sameMethod "SeaGates$Gate" "SeaGates$Gate" "cost" "(LSeaGates$Trace;)I", .superclass RX8 RX2, .instanceMethod yX2_cost, .initialized RX2, .code yX2_cost cX2_cost 2 (some .int), .fieldLink RX2 15 "SeaGates$Gate" "minutes" "I", .methodLink RX2 22 yX9_leave] ++ wsX90 ++ wsX20 ++ wsX30 ++ wsX80 ++ wsX100)
def wsX8_mark_r1 : List Cond := [Cond.methodLink RX8 9 yX9_leave, Cond.instanceMethod yX9_leave, Cond.selects RX9 yX9_leave yX9_leave, Cond.initialized RX9, Cond.code yX9_leave cX9_leave 2 none, Cond.fieldLink RX9 15 "SeaGates$Trace" "length" "I", Cond.fieldLink RX9 9 "SeaGates$Trace" "numbers" "[I", Cond.methodLink RX8 19 yX2_mark, Cond.sameMethod "SeaGates$Gate" "SeaGates$Gate" "mark" "(LSeaGates$Trace;)I", Cond.superclass RX8 RX2, Cond.instanceMethod yX2_mark, Cond.initialized RX2, Cond.code yX2_mark cX2_mark 2 (some .int), Cond.fieldLink RX2 9 "SeaGates$Gate" "failed" "Z", Cond.methodLink RX2 22 yX9_leave, Cond.methodLink RX8 22 yX8_cost, Cond.instanceMethod yX8_cost, Cond.selects RX8 yX8_cost yX8_cost, Cond.initialized RX8, Cond.code yX8_cost cX8_cost 2 (some .int), Cond.methodLink RX8 15 yX2_cost, Cond.sameMethod "SeaGates$Gate" "SeaGates$Gate" "cost" "(LSeaGates$Trace;)I", Cond.instanceMethod yX2_cost, Cond.code yX2_cost cX2_cost 2 (some .int)]
def wsX8_mark_r2 : List Cond := [Cond.fieldLink RX2 15 "SeaGates$Gate" "minutes" "I"]
def wsX8_mark : List Cond := .code yX8_mark cX8_mark 2 (some .int) :: ((wsX8_mark_r1 ++ wsX8_mark_r2) ++ wsX90 ++ wsX20 ++ wsX30 ++ wsX80 ++ wsX100)
def wsX9_init : List Cond := .code yX9_init cX9_init 1 none :: ([.methodLink RX9 3 objectInit, .instanceMethod objectInit, .code objectInit ⟨#[0xb1]⟩ 1 none, .arrayClass .int, .fieldLink RX9 9 "SeaGates$Trace" "numbers" "[I", .fieldLink RX9 15 "SeaGates$Trace" "length" "I"] ++ wsX90)
def wsX10_init : List Cond := .code yX10_init cX10_init 3 none :: ([.methodLink RX10 3 yX3_init, .instanceMethod yX3_init, .initialized RX3, .code yX3_init cX3_init 3 none, .methodLink RX3 3 yX2_init, .instanceMethod yX2_init, .initialized RX2, .code yX2_init cX2_init 3 none, .methodLink RX2 3 objectInit, .instanceMethod objectInit, .code objectInit ⟨#[0xb1]⟩ 1 none, .fieldLink RX2 9 "SeaGates$Gate" "failed" "Z", .fieldLink RX2 15 "SeaGates$Gate" "minutes" "I", .fieldLink RX2 19 "SeaGates$Gate" "hand" "I"] ++ wsX20 ++ wsX30 ++ wsX80 ++ wsX100)
def wsX10_toldAs : List Cond := .code yX10_toldAs cX10_toldAs 1 (some .int) :: ([])
def wsX11_init_r1 : List Cond := [Cond.methodLink RX11 3 objectInit, Cond.instanceMethod objectInit, Cond.code objectInit ⟨#[0xb1]⟩ 1 none, Cond.classLink RX11 9 RX7, Cond.instantiable RX7 3, Cond.initialized RX7, Cond.fieldLink RX11 12 "SeaGates" "sheets" "LSeaGates$Sheets;", Cond.classLink RX11 16 RX6, Cond.instantiable RX6 4, Cond.initialized RX6, Cond.fieldLink RX11 19 "SeaGates" "sea" "LSeaGates$Sea;", Cond.classLink RX11 23 RX0, Cond.instantiable RX0 3, Cond.initialized RX0, Cond.fieldLink RX11 28 "SeaGates" "barrier" "LSeaGates$Barrier;", Cond.classLink RX11 32 RX4, Cond.instantiable RX4 7, Cond.initialized RX4, Cond.fieldLink RX11 37 "SeaGates" "plan" "LSeaGates$Plan;", Cond.classLink RX11 41 RX5, Cond.instantiable RX5 3, Cond.initialized RX5, Cond.fieldLink RX11 44 "SeaGates" "row" "LSeaGates$Row;", Cond.classLink RX11 48 RX1]
def wsX11_init_r2 : List Cond := [Cond.instantiable RX1 4, Cond.initialized RX1, Cond.fieldLink RX11 51 "SeaGates" "fairway" "LSeaGates$Fairway;", Cond.classLink RX11 55 RX9, Cond.instantiable RX9 2, Cond.initialized RX9, Cond.fieldLink RX11 58 "SeaGates" "bodies" "LSeaGates$Trace;", Cond.fieldLink RX11 62 "SeaGates" "finding" "I", Cond.methodLink RX11 11 yX7_init, Cond.instanceMethod yX7_init, Cond.code yX7_init cX7_init 1 none, Cond.methodLink RX7 3 objectInit, Cond.classLink RX7 9 "[[I", Cond.arrayClass .int, Cond.fieldLink RX7 11 "SeaGates$Sheets" "items" "[[I", Cond.fieldLink RX7 16 "SeaGates$Sheets" "lanes" "[I", Cond.fieldLink RX7 20 "SeaGates$Sheets" "sizes" "[I", Cond.methodLink RX7 23 yJ7_fill_53178, Cond.static yJ7_fill_53178, Cond.initialized RJ7, Cond.code yJ7_fill_53178 cJ7_fill_53178 4 none, Cond.instanceMethod yX6_init, Cond.code yX6_init cX6_init 1 none, Cond.methodLink RX6 3 objectInit]
def wsX11_init_r3 : List Cond := [Cond.fieldLink RX6 9 "SeaGates$Sea" "weights" "[I", Cond.classLink RX6 15 "[[I", Cond.fieldLink RX6 17 "SeaGates$Sea" "levels" "[[I", Cond.fieldLink RX6 20 "SeaGates$Sea" "heads" "[[I", Cond.fieldLink RX6 23 "SeaGates$Sea" "size" "I", Cond.methodLink RX11 25 yX0_init, Cond.instanceMethod yX0_init, Cond.code yX0_init cX0_init 2 none, Cond.methodLink RX0 3 objectInit, Cond.fieldLink RX0 9 "SeaGates$Barrier" "rules" "[I", Cond.fieldLink RX0 15 "SeaGates$Barrier" "rivers" "[I", Cond.fieldLink RX0 18 "SeaGates$Barrier" "sea" "LSeaGates$Sea;", Cond.methodLink RX11 34 yX4_init, Cond.instanceMethod yX4_init, Cond.code yX4_init cX4_init 3 none, Cond.methodLink RX4 3 objectInit, Cond.classLink RX4 9 "[[I", Cond.fieldLink RX4 11 "SeaGates$Plan" "orders" "[[I", Cond.classLink RX4 16 "[[J", Cond.arrayClass .long, Cond.fieldLink RX4 18 "SeaGates$Plan" "now" "[[J", Cond.fieldLink RX4 21 "SeaGates$Plan" "then" "[[J", Cond.fieldLink RX4 24 "SeaGates$Plan" "loss" "J", Cond.fieldLink RX4 28 "SeaGates$Plan" "stale" "Z"]
def wsX11_init_r4 : List Cond := [Cond.fieldLink RX4 32 "SeaGates$Plan" "sea" "LSeaGates$Sea;", Cond.fieldLink RX4 36 "SeaGates$Plan" "barrier" "LSeaGates$Barrier;", Cond.instanceMethod yX5_init, Cond.code yX5_init cX5_init 1 none, Cond.methodLink RX5 3 objectInit, Cond.classLink RX5 9 RX2, Cond.fieldLink RX5 11 "SeaGates$Row" "gates" "[LSeaGates$Gate;", Cond.fieldLink RX5 17 "SeaGates$Row" "free" "[I", Cond.fieldLink RX5 21 "SeaGates$Row" "size" "I", Cond.instanceMethod yX1_init, Cond.code yX1_init cX1_init 1 none, Cond.methodLink RX1 3 objectInit, Cond.fieldLink RX1 9 "SeaGates$Fairway" "minutes" "[I", Cond.fieldLink RX1 15 "SeaGates$Fairway" "passing" "[I", Cond.fieldLink RX1 18 "SeaGates$Fairway" "inTurn" "[I", Cond.fieldLink RX1 21 "SeaGates$Fairway" "size" "I", Cond.instanceMethod yX9_init, Cond.code yX9_init cX9_init 1 none, Cond.methodLink RX9 3 objectInit, Cond.fieldLink RX9 9 "SeaGates$Trace" "numbers" "[I", Cond.fieldLink RX9 15 "SeaGates$Trace" "length" "I"]
def wsX11_init : List Cond := .code yX11_init cX11_init 1 none :: ((wsX11_init_r1 ++ (wsX11_init_r2 ++ (wsX11_init_r3 ++ wsX11_init_r4))) ++ wsX70 ++ wsX110 ++ wsX60 ++ wsX00 ++ wsX40 ++ wsX50 ++ wsX10 ++ wsX90)
def wsX11_found : List Cond := .code yX11_found cX11_found 2 (some .int) :: ([.fieldLink RX11 62 "SeaGates" "finding" "I", .constant RX11 270 (-1000010)] ++ wsX110)
def wsX11_fine : List Cond := .code yX11_fine cX11_fine 2 (some .int) :: ([.fieldLink RX11 62 "SeaGates" "finding" "I"] ++ wsX110)
def wsX11_sheet_r1 : List Cond := [Cond.constant RX11 70 (-1000001), Cond.fieldLink RX11 12 "SeaGates" "sheets" "LSeaGates$Sheets;", Cond.methodLink RX11 66 yX11_within, Cond.static yX11_within, Cond.initialized RX11, Cond.code yX11_within cX11_within 3 (some .boolean), Cond.methodLink RX11 71 yX11_found, Cond.instanceMethod yX11_found, Cond.selects RX11 yX11_found yX11_found, Cond.code yX11_found cX11_found 2 (some .int), Cond.fieldLink RX11 62 "SeaGates" "finding" "I", Cond.constant RX11 270 (-1000010), Cond.methodLink RX11 75 yX7_lay, Cond.instanceMethod yX7_lay, Cond.selects RX7 yX7_lay yX7_lay, Cond.initialized RX7, Cond.code yX7_lay cX7_lay 4 none, Cond.fieldLink RX7 16 "SeaGates$Sheets" "lanes" "[I", Cond.fieldLink RX7 20 "SeaGates$Sheets" "sizes" "[I", Cond.fieldLink RX7 11 "SeaGates$Sheets" "items" "[[I", Cond.methodLink RX7 23 yJ7_fill_53178, Cond.static yJ7_fill_53178, Cond.initialized RJ7, Cond.code yJ7_fill_53178 cJ7_fill_53178 4 none]
def wsX11_sheet_r2 : List Cond := [Cond.methodLink RX11 79 yX11_fine, Cond.instanceMethod yX11_fine, Cond.selects RX11 yX11_fine yX11_fine, Cond.code yX11_fine cX11_fine 2 (some .int)]
def wsX11_sheet : List Cond := .code yX11_sheet cX11_sheet 4 (some .int) :: ((wsX11_sheet_r1 ++ wsX11_sheet_r2) ++ wsX110 ++ wsX70)
def wsX11_set_r1 : List Cond := [Cond.constant RX11 70 (-1000001), Cond.fieldLink RX11 12 "SeaGates" "sheets" "LSeaGates$Sheets;", Cond.methodLink RX11 66 yX11_within, Cond.static yX11_within, Cond.initialized RX11, Cond.code yX11_within cX11_within 3 (some .boolean), Cond.methodLink RX11 82 yX7_look, Cond.instanceMethod yX7_look, Cond.selects RX7 yX7_look yX7_look, Cond.initialized RX7, Cond.code yX7_look cX7_look 4 (some .int), Cond.methodLink RX7 29 yX7_isMissing, Cond.instanceMethod yX7_isMissing, Cond.selects RX7 yX7_isMissing yX7_isMissing, Cond.code yX7_isMissing cX7_isMissing 2 (some .boolean), Cond.fieldLink RX7 20 "SeaGates$Sheets" "sizes" "[I", Cond.methodLink RX7 33 yX7_hasPlaces, Cond.instanceMethod yX7_hasPlaces, Cond.selects RX7 yX7_hasPlaces yX7_hasPlaces, Cond.code yX7_hasPlaces cX7_hasPlaces 4 (some .boolean), Cond.methodLink RX11 71 yX11_found, Cond.instanceMethod yX11_found, Cond.selects RX11 yX11_found yX11_found, Cond.code yX11_found cX11_found 2 (some .int)]
def wsX11_set_r2 : List Cond := [Cond.fieldLink RX11 62 "SeaGates" "finding" "I", Cond.constant RX11 270 (-1000010), Cond.methodLink RX11 86 yX7_put, Cond.instanceMethod yX7_put, Cond.selects RX7 yX7_put yX7_put, Cond.code yX7_put cX7_put 4 (some .int), Cond.fieldLink RX7 11 "SeaGates$Sheets" "items" "[[I", Cond.fieldLink RX7 16 "SeaGates$Sheets" "lanes" "[I", Cond.methodLink RX7 37 yX7_narrowed, Cond.static yX7_narrowed, Cond.code yX7_narrowed cX7_narrowed 2 (some .int), Cond.methodLink RX11 79 yX11_fine, Cond.instanceMethod yX11_fine, Cond.selects RX11 yX11_fine yX11_fine, Cond.code yX11_fine cX11_fine 2 (some .int)]
def wsX11_set : List Cond := .code yX11_set cX11_set 5 (some .int) :: ((wsX11_set_r1 ++ wsX11_set_r2) ++ wsX110 ++ wsX70)
def wsX11_copy_r1 : List Cond := [Cond.constant RX11 70 (-1000001), Cond.fieldLink RX11 12 "SeaGates" "sheets" "LSeaGates$Sheets;", Cond.methodLink RX11 66 yX11_within, Cond.static yX11_within, Cond.initialized RX11, Cond.code yX11_within cX11_within 3 (some .boolean), Cond.methodLink RX11 89 yX7_lookAtBoth, Cond.instanceMethod yX7_lookAtBoth, Cond.selects RX7 yX7_lookAtBoth yX7_lookAtBoth, Cond.initialized RX7, Cond.code yX7_lookAtBoth cX7_lookAtBoth 6 (some .int), Cond.fieldLink RX7 16 "SeaGates$Sheets" "lanes" "[I", Cond.methodLink RX7 29 yX7_isMissing, Cond.instanceMethod yX7_isMissing, Cond.selects RX7 yX7_isMissing yX7_isMissing, Cond.code yX7_isMissing cX7_isMissing 2 (some .boolean), Cond.fieldLink RX7 20 "SeaGates$Sheets" "sizes" "[I", Cond.methodLink RX7 33 yX7_hasPlaces, Cond.instanceMethod yX7_hasPlaces, Cond.selects RX7 yX7_hasPlaces yX7_hasPlaces, Cond.code yX7_hasPlaces cX7_hasPlaces 4 (some .boolean), Cond.methodLink RX11 71 yX11_found, Cond.instanceMethod yX11_found, Cond.selects RX11 yX11_found yX11_found]
def wsX11_copy_r2 : List Cond := [Cond.code yX11_found cX11_found 2 (some .int), Cond.fieldLink RX11 62 "SeaGates" "finding" "I", Cond.constant RX11 270 (-1000010), Cond.methodLink RX11 93 yX7_move, Cond.instanceMethod yX7_move, Cond.selects RX7 yX7_move yX7_move, Cond.code yX7_move cX7_move 6 none, Cond.fieldLink RX7 11 "SeaGates$Sheets" "items" "[[I", Cond.methodLink RX7 41 arraycopyName, Cond.native arraycopyName, Cond.static arraycopyName, Cond.initialized "java/lang/System", Cond.methodLink RX11 79 yX11_fine, Cond.instanceMethod yX11_fine, Cond.selects RX11 yX11_fine yX11_fine, Cond.code yX11_fine cX11_fine 2 (some .int)]
def wsX11_copy : List Cond := .code yX11_copy cX11_copy 7 (some .int) :: ((wsX11_copy_r1 ++ wsX11_copy_r2) ++ wsX110 ++ wsX70)
def wsX11_drop_r1 : List Cond := [Cond.constant RX11 70 (-1000001), Cond.fieldLink RX11 12 "SeaGates" "sheets" "LSeaGates$Sheets;", Cond.methodLink RX11 66 yX11_within, Cond.static yX11_within, Cond.initialized RX11, Cond.code yX11_within cX11_within 3 (some .boolean), Cond.methodLink RX11 97 yX7_isMissing, Cond.instanceMethod yX7_isMissing, Cond.selects RX7 yX7_isMissing yX7_isMissing, Cond.initialized RX7, Cond.code yX7_isMissing cX7_isMissing 2 (some .boolean), Cond.fieldLink RX7 20 "SeaGates$Sheets" "sizes" "[I", Cond.methodLink RX11 71 yX11_found, Cond.instanceMethod yX11_found, Cond.selects RX11 yX11_found yX11_found, Cond.code yX11_found cX11_found 2 (some .int), Cond.fieldLink RX11 62 "SeaGates" "finding" "I", Cond.constant RX11 270 (-1000010), Cond.methodLink RX11 101 yX7_takeAway, Cond.instanceMethod yX7_takeAway, Cond.selects RX7 yX7_takeAway yX7_takeAway, Cond.code yX7_takeAway cX7_takeAway 3 (some .int), Cond.methodLink RX11 79 yX11_fine, Cond.instanceMethod yX11_fine]
def wsX11_drop_r2 : List Cond := [Cond.selects RX11 yX11_fine yX11_fine, Cond.code yX11_fine cX11_fine 2 (some .int)]
def wsX11_drop : List Cond := .code yX11_drop cX11_drop 2 (some .int) :: ((wsX11_drop_r1 ++ wsX11_drop_r2) ++ wsX110 ++ wsX70)
def wsX11_world_r1 : List Cond := [Cond.constant RX11 70 (-1000001), Cond.fieldLink RX11 19 "SeaGates" "sea" "LSeaGates$Sea;", Cond.fieldLink RX11 104 "SeaGates$Sea" "size" "I", Cond.constant RX11 107 (-1000003), Cond.fieldLink RX11 12 "SeaGates" "sheets" "LSeaGates$Sheets;", Cond.fieldLink RX11 37 "SeaGates" "plan" "LSeaGates$Plan;", Cond.fieldLink RX11 112 "SeaGates$Plan" "stale" "Z", Cond.fieldLink RX11 116 "SeaGates$Sheets" "items" "[[I", Cond.methodLink RX11 66 yX11_within, Cond.static yX11_within, Cond.initialized RX11, Cond.code yX11_within cX11_within 3 (some .boolean), Cond.methodLink RX11 82 yX7_look, Cond.instanceMethod yX7_look, Cond.selects RX7 yX7_look yX7_look, Cond.initialized RX7, Cond.code yX7_look cX7_look 4 (some .int), Cond.methodLink RX7 29 yX7_isMissing, Cond.instanceMethod yX7_isMissing, Cond.selects RX7 yX7_isMissing yX7_isMissing, Cond.code yX7_isMissing cX7_isMissing 2 (some .boolean), Cond.fieldLink RX7 20 "SeaGates$Sheets" "sizes" "[I", Cond.methodLink RX7 33 yX7_hasPlaces, Cond.instanceMethod yX7_hasPlaces]
def wsX11_world_r2 : List Cond := [Cond.selects RX7 yX7_hasPlaces yX7_hasPlaces, Cond.code yX7_hasPlaces cX7_hasPlaces 4 (some .boolean), Cond.methodLink RX11 71 yX11_found, Cond.instanceMethod yX11_found, Cond.selects RX11 yX11_found yX11_found, Cond.code yX11_found cX11_found 2 (some .int), Cond.fieldLink RX11 62 "SeaGates" "finding" "I", Cond.constant RX11 270 (-1000010), Cond.methodLink RX11 108 yX7_areWithin, Cond.instanceMethod yX7_areWithin, Cond.selects RX7 yX7_areWithin yX7_areWithin, Cond.code yX7_areWithin cX7_areWithin 6 (some .boolean), Cond.fieldLink RX7 11 "SeaGates$Sheets" "items" "[[I", Cond.methodLink RX11 120 yX6_add, Cond.instanceMethod yX6_add, Cond.selects RX6 yX6_add yX6_add, Cond.initialized RX6, Cond.code yX6_add cX6_add 6 (some .int), Cond.fieldLink RX6 23 "SeaGates$Sea" "size" "I", Cond.fieldLink RX6 17 "SeaGates$Sea" "levels" "[[I", Cond.methodLink RX6 27 arraycopyName, Cond.native arraycopyName, Cond.static arraycopyName, Cond.initialized "java/lang/System"]
def wsX11_world_r3 : List Cond := [Cond.fieldLink RX6 9 "SeaGates$Sea" "weights" "[I", Cond.fieldLink RX6 20 "SeaGates$Sea" "heads" "[[I", Cond.methodLink RX6 33 yX6_headOf, Cond.instanceMethod yX6_headOf, Cond.selects RX6 yX6_headOf yX6_headOf, Cond.code yX6_headOf cX6_headOf 4 (some .int), Cond.methodLink RX6 37 yX6_areAlike, Cond.instanceMethod yX6_areAlike, Cond.selects RX6 yX6_areAlike yX6_areAlike, Cond.code yX6_areAlike cX6_areAlike 5 (some .boolean), Cond.methodLink RX11 79 yX11_fine, Cond.instanceMethod yX11_fine, Cond.selects RX11 yX11_fine yX11_fine, Cond.code yX11_fine cX11_fine 2 (some .int)]
def wsX11_world : List Cond := .code yX11_world cX11_world 5 (some .int) :: ((wsX11_world_r1 ++ (wsX11_world_r2 ++ wsX11_world_r3)) ++ wsX110 ++ wsX60 ++ wsX40 ++ wsX70)
def wsX11_river : List Cond := .code yX11_river cX11_river 4 (some .int) :: ([.constant RX11 70 (-1000001), .fieldLink RX11 28 "SeaGates" "barrier" "LSeaGates$Barrier;", .fieldLink RX11 124 "SeaGates$Barrier" "rivers" "[I", .fieldLink RX11 37 "SeaGates" "plan" "LSeaGates$Plan;", .fieldLink RX11 112 "SeaGates$Plan" "stale" "Z", .methodLink RX11 66 yX11_within, .static yX11_within, .initialized RX11, .code yX11_within cX11_within 3 (some .boolean)] ++ wsX110 ++ wsX00 ++ wsX40)
def wsX11_mayBeRule : List Cond := .code yX11_mayBeRule cX11_mayBeRule 2 (some .boolean) :: ([.methodLink RX11 66 yX11_within, .static yX11_within, .initialized RX11, .code yX11_within cX11_within 3 (some .boolean)])
def wsX11_rule : List Cond := .code yX11_rule cX11_rule 4 (some .int) :: ([.constant RX11 70 (-1000001), .fieldLink RX11 28 "SeaGates" "barrier" "LSeaGates$Barrier;", .fieldLink RX11 132 "SeaGates$Barrier" "rules" "[I", .fieldLink RX11 37 "SeaGates" "plan" "LSeaGates$Plan;", .fieldLink RX11 112 "SeaGates$Plan" "stale" "Z", .methodLink RX11 66 yX11_within, .static yX11_within, .initialized RX11, .code yX11_within cX11_within 3 (some .boolean), .methodLink RX11 128 yX11_mayBeRule, .static yX11_mayBeRule, .code yX11_mayBeRule cX11_mayBeRule 2 (some .boolean)] ++ wsX110 ++ wsX00 ++ wsX40)
def wsX11_best_r1 : List Cond := [Cond.fieldLink RX11 37 "SeaGates" "plan" "LSeaGates$Plan;", Cond.fieldLink RX11 138 "SeaGates$Plan" "loss" "J", Cond.methodLink RX11 135 yX4_refresh, Cond.instanceMethod yX4_refresh, Cond.selects RX4 yX4_refresh yX4_refresh, Cond.initialized RX4, Cond.code yX4_refresh cX4_refresh 2 none, Cond.fieldLink RX4 28 "SeaGates$Plan" "stale" "Z", Cond.fieldLink RX4 24 "SeaGates$Plan" "loss" "J", Cond.fieldLink RX4 32 "SeaGates$Plan" "sea" "LSeaGates$Sea;", Cond.fieldLink RX4 44 "SeaGates$Sea" "size" "I", Cond.fieldLink RX4 50 "SeaGates$Sea" "heads" "[[I", Cond.fieldLink RX4 18 "SeaGates$Plan" "now" "[[J", Cond.methodLink RX4 40 yX4_decideHour, Cond.instanceMethod yX4_decideHour, Cond.selects RX4 yX4_decideHour yX4_decideHour, Cond.code yX4_decideHour cX4_decideHour 3 none, Cond.fieldLink RX4 21 "SeaGates$Plan" "then" "[[J", Cond.methodLink RX4 53 arraycopyName, Cond.native arraycopyName, Cond.static arraycopyName, Cond.initialized "java/lang/System", Cond.fieldLink RX4 11 "SeaGates$Plan" "orders" "[[I", Cond.methodLink RX4 59 yX4_decideGroup]
def wsX11_best_r2 : List Cond := [Cond.instanceMethod yX4_decideGroup, Cond.selects RX4 yX4_decideGroup yX4_decideGroup, Cond.code yX4_decideGroup cX4_decideGroup 9 none, Cond.methodLink RX4 63 yX6_weightOfGroup, Cond.instanceMethod yX6_weightOfGroup, Cond.selects RX6 yX6_weightOfGroup yX6_weightOfGroup, Cond.initialized RX6, Cond.code yX6_weightOfGroup cX6_weightOfGroup 5 (some .int), Cond.fieldLink RX6 23 "SeaGates$Sea" "size" "I", Cond.fieldLink RX6 20 "SeaGates$Sea" "heads" "[[I", Cond.fieldLink RX6 9 "SeaGates$Sea" "weights" "[I", Cond.methodLink RX4 67 yX4_lossFrom, Cond.instanceMethod yX4_lossFrom, Cond.selects RX4 yX4_lossFrom yX4_lossFrom, Cond.code yX4_lossFrom cX4_lossFrom 10 (some .long), Cond.fieldLink RX4 36 "SeaGates$Plan" "barrier" "LSeaGates$Barrier;", Cond.methodLink RX4 77 yX0_lost, Cond.instanceMethod yX0_lost, Cond.selects RX0 yX0_lost yX0_lost, Cond.initialized RX0, Cond.code yX0_lost cX0_lost 8 (some .int), Cond.fieldLink RX0 9 "SeaGates$Barrier" "rules" "[I", Cond.methodLink RX0 46 Lib.Math.max.name, Cond.static Lib.Math.max.name]
def wsX11_best_r3 : List Cond := [Cond.initialized "java/lang/Math", Cond.code Lib.Math.max.name Lib.Math.max.code 2 (some .int), Cond.methodLink RX0 38 yX0_stands, Cond.instanceMethod yX0_stands, Cond.selects RX0 yX0_stands yX0_stands, Cond.code yX0_stands cX0_stands 3 (some .int), Cond.methodLink RX0 42 yX0_water, Cond.instanceMethod yX0_water, Cond.selects RX0 yX0_water yX0_water, Cond.code yX0_water cX0_water 7 (some .int), Cond.fieldLink RX0 18 "SeaGates$Barrier" "sea" "LSeaGates$Sea;", Cond.fieldLink RX0 26 "SeaGates$Sea" "levels" "[[I", Cond.methodLink RX0 32 Lib.Math.min.name, Cond.static Lib.Math.min.name, Cond.code Lib.Math.min.name Lib.Math.min.code 2 (some .int), Cond.fieldLink RX0 15 "SeaGates$Barrier" "rivers" "[I", Cond.methodLink RX4 81 yX0_stands, Cond.methodLink RX4 85 yX0_next, Cond.static yX0_next, Cond.code yX0_next cX0_next 2 (some .int), Cond.methodLink RX0 22 yX0_mayBeTold, Cond.static yX0_mayBeTold, Cond.code yX0_mayBeTold cX0_mayBeTold 1 (some .boolean), Cond.methodLink RX4 71 yX0_mayBeTold]
def wsX11_best : List Cond := .code yX11_best cX11_best 1 (some .long) :: ((wsX11_best_r1 ++ (wsX11_best_r2 ++ wsX11_best_r3)) ++ wsX110 ++ wsX40 ++ wsX60 ++ wsX00)
def wsX11_hour_r1 : List Cond := [Cond.fieldLink RX11 19 "SeaGates" "sea" "LSeaGates$Sea;", Cond.fieldLink RX11 104 "SeaGates$Sea" "size" "I", Cond.constant RX11 70 (-1000001), Cond.fieldLink RX11 37 "SeaGates" "plan" "LSeaGates$Plan;", Cond.fieldLink RX11 28 "SeaGates" "barrier" "LSeaGates$Barrier;", Cond.methodLink RX11 66 yX11_within, Cond.static yX11_within, Cond.initialized RX11, Cond.code yX11_within cX11_within 3 (some .boolean), Cond.methodLink RX11 135 yX4_refresh, Cond.instanceMethod yX4_refresh, Cond.selects RX4 yX4_refresh yX4_refresh, Cond.initialized RX4, Cond.code yX4_refresh cX4_refresh 2 none, Cond.fieldLink RX4 28 "SeaGates$Plan" "stale" "Z", Cond.fieldLink RX4 24 "SeaGates$Plan" "loss" "J", Cond.fieldLink RX4 32 "SeaGates$Plan" "sea" "LSeaGates$Sea;", Cond.fieldLink RX4 44 "SeaGates$Sea" "size" "I", Cond.fieldLink RX4 50 "SeaGates$Sea" "heads" "[[I", Cond.fieldLink RX4 18 "SeaGates$Plan" "now" "[[J", Cond.methodLink RX4 40 yX4_decideHour, Cond.instanceMethod yX4_decideHour, Cond.selects RX4 yX4_decideHour yX4_decideHour, Cond.code yX4_decideHour cX4_decideHour 3 none]
def wsX11_hour_r2 : List Cond := [Cond.fieldLink RX4 21 "SeaGates$Plan" "then" "[[J", Cond.methodLink RX4 53 arraycopyName, Cond.native arraycopyName, Cond.static arraycopyName, Cond.initialized "java/lang/System", Cond.fieldLink RX4 11 "SeaGates$Plan" "orders" "[[I", Cond.methodLink RX4 59 yX4_decideGroup, Cond.instanceMethod yX4_decideGroup, Cond.selects RX4 yX4_decideGroup yX4_decideGroup, Cond.code yX4_decideGroup cX4_decideGroup 9 none, Cond.methodLink RX4 63 yX6_weightOfGroup, Cond.instanceMethod yX6_weightOfGroup, Cond.selects RX6 yX6_weightOfGroup yX6_weightOfGroup, Cond.initialized RX6, Cond.code yX6_weightOfGroup cX6_weightOfGroup 5 (some .int), Cond.fieldLink RX6 23 "SeaGates$Sea" "size" "I", Cond.fieldLink RX6 20 "SeaGates$Sea" "heads" "[[I", Cond.fieldLink RX6 9 "SeaGates$Sea" "weights" "[I", Cond.methodLink RX4 67 yX4_lossFrom, Cond.instanceMethod yX4_lossFrom, Cond.selects RX4 yX4_lossFrom yX4_lossFrom, Cond.code yX4_lossFrom cX4_lossFrom 10 (some .long), Cond.fieldLink RX4 36 "SeaGates$Plan" "barrier" "LSeaGates$Barrier;", Cond.methodLink RX4 77 yX0_lost]
def wsX11_hour_r3 : List Cond := [Cond.instanceMethod yX0_lost, Cond.selects RX0 yX0_lost yX0_lost, Cond.initialized RX0, Cond.code yX0_lost cX0_lost 8 (some .int), Cond.fieldLink RX0 9 "SeaGates$Barrier" "rules" "[I", Cond.methodLink RX0 46 Lib.Math.max.name, Cond.static Lib.Math.max.name, Cond.initialized "java/lang/Math", Cond.code Lib.Math.max.name Lib.Math.max.code 2 (some .int), Cond.methodLink RX0 38 yX0_stands, Cond.instanceMethod yX0_stands, Cond.selects RX0 yX0_stands yX0_stands, Cond.code yX0_stands cX0_stands 3 (some .int), Cond.methodLink RX0 42 yX0_water, Cond.instanceMethod yX0_water, Cond.selects RX0 yX0_water yX0_water, Cond.code yX0_water cX0_water 7 (some .int), Cond.fieldLink RX0 18 "SeaGates$Barrier" "sea" "LSeaGates$Sea;", Cond.fieldLink RX0 26 "SeaGates$Sea" "levels" "[[I", Cond.methodLink RX0 32 Lib.Math.min.name, Cond.static Lib.Math.min.name, Cond.code Lib.Math.min.name Lib.Math.min.code 2 (some .int), Cond.fieldLink RX0 15 "SeaGates$Barrier" "rivers" "[I", Cond.methodLink RX4 81 yX0_stands]
def wsX11_hour_r4 : List Cond := [Cond.methodLink RX4 85 yX0_next, Cond.static yX0_next, Cond.code yX0_next cX0_next 2 (some .int), Cond.methodLink RX0 22 yX0_mayBeTold, Cond.static yX0_mayBeTold, Cond.code yX0_mayBeTold cX0_mayBeTold 1 (some .boolean), Cond.methodLink RX4 71 yX0_mayBeTold, Cond.methodLink RX11 142 yX4_stateAt, Cond.instanceMethod yX4_stateAt, Cond.selects RX4 yX4_stateAt yX4_stateAt, Cond.code yX4_stateAt cX4_stateAt 5 (some .int), Cond.methodLink RX4 88 yX4_tells, Cond.instanceMethod yX4_tells, Cond.selects RX4 yX4_tells yX4_tells, Cond.code yX4_tells cX4_tells 4 (some .boolean), Cond.methodLink RX11 146 yX4_tells, Cond.methodLink RX11 149 yX0_order, Cond.static yX0_order, Cond.code yX0_order cX0_order 2 (some .int), Cond.methodLink RX11 153 yX0_stands, Cond.methodLink RX11 156 yX0_how, Cond.static yX0_how, Cond.code yX0_how cX0_how 1 (some .int), Cond.methodLink RX11 159 yX0_water]
def wsX11_hour_r5 : List Cond := [Cond.methodLink RX11 162 yX0_lost]
def wsX11_hour : List Cond := .code yX11_hour cX11_hour 6 (some .int) :: ((wsX11_hour_r1 ++ (wsX11_hour_r2 ++ (wsX11_hour_r3 ++ (wsX11_hour_r4 ++ wsX11_hour_r5)))) ++ wsX110 ++ wsX60 ++ wsX40 ++ wsX00)
def wsX11_shutAt_r1 : List Cond := [Cond.fieldLink RX11 28 "SeaGates" "barrier" "LSeaGates$Barrier;", Cond.constantLong RX11 170 (-1000001), Cond.methodLink RX11 66 yX11_within, Cond.static yX11_within, Cond.initialized RX11, Cond.code yX11_within cX11_within 3 (some .boolean), Cond.methodLink RX11 166 yX0_lossOfOneOrder, Cond.instanceMethod yX0_lossOfOneOrder, Cond.selects RX0 yX0_lossOfOneOrder yX0_lossOfOneOrder, Cond.initialized RX0, Cond.code yX0_lossOfOneOrder cX0_lossOfOneOrder 8 (some .long), Cond.fieldLink RX0 18 "SeaGates$Barrier" "sea" "LSeaGates$Sea;", Cond.fieldLink RX0 49 "SeaGates$Sea" "size" "I", Cond.fieldLink RX0 53 "SeaGates$Sea" "weights" "[I", Cond.methodLink RX0 56 yX0_lost, Cond.instanceMethod yX0_lost, Cond.selects RX0 yX0_lost yX0_lost, Cond.code yX0_lost cX0_lost 8 (some .int), Cond.fieldLink RX0 9 "SeaGates$Barrier" "rules" "[I", Cond.methodLink RX0 46 Lib.Math.max.name, Cond.static Lib.Math.max.name, Cond.initialized "java/lang/Math", Cond.code Lib.Math.max.name Lib.Math.max.code 2 (some .int), Cond.methodLink RX0 38 yX0_stands]
def wsX11_shutAt_r2 : List Cond := [Cond.instanceMethod yX0_stands, Cond.selects RX0 yX0_stands yX0_stands, Cond.code yX0_stands cX0_stands 3 (some .int), Cond.methodLink RX0 42 yX0_water, Cond.instanceMethod yX0_water, Cond.selects RX0 yX0_water yX0_water, Cond.code yX0_water cX0_water 7 (some .int), Cond.fieldLink RX0 26 "SeaGates$Sea" "levels" "[[I", Cond.methodLink RX0 32 Lib.Math.min.name, Cond.static Lib.Math.min.name, Cond.code Lib.Math.min.name Lib.Math.min.code 2 (some .int), Cond.fieldLink RX0 15 "SeaGates$Barrier" "rivers" "[I", Cond.methodLink RX0 60 yX0_next, Cond.static yX0_next, Cond.code yX0_next cX0_next 2 (some .int), Cond.methodLink RX0 22 yX0_mayBeTold, Cond.static yX0_mayBeTold, Cond.code yX0_mayBeTold cX0_mayBeTold 1 (some .boolean)]
def wsX11_shutAt : List Cond := .code yX11_shutAt cX11_shutAt 2 (some .long) :: ((wsX11_shutAt_r1 ++ wsX11_shutAt_r2) ++ wsX110 ++ wsX00 ++ wsX60)
def wsX11_alarm : List Cond := .code yX11_alarm cX11_alarm 3 (some .int) :: ([.fieldLink RX11 19 "SeaGates" "sea" "LSeaGates$Sea;", .fieldLink RX11 28 "SeaGates" "barrier" "LSeaGates$Barrier;", .fieldLink RX11 132 "SeaGates$Barrier" "rules" "[I", .constant RX11 175 (-1000000), .methodLink RX11 172 yX6_firstAbove, .instanceMethod yX6_firstAbove, .selects RX6 yX6_firstAbove yX6_firstAbove, .initialized RX6, .code yX6_firstAbove cX6_firstAbove 4 (some .int), .fieldLink RX6 23 "SeaGates$Sea" "size" "I", .fieldLink RX6 17 "SeaGates$Sea" "levels" "[[I"] ++ wsX110 ++ wsX00 ++ wsX60)
def wsX11_groups : List Cond := .code yX11_groups cX11_groups 2 (some .int) :: ([.fieldLink RX11 19 "SeaGates" "sea" "LSeaGates$Sea;", .constant RX11 70 (-1000001), .methodLink RX11 66 yX11_within, .static yX11_within, .initialized RX11, .code yX11_within cX11_within 3 (some .boolean), .methodLink RX11 176 yX6_groupsAt, .instanceMethod yX6_groupsAt, .selects RX6 yX6_groupsAt yX6_groupsAt, .initialized RX6, .code yX6_groupsAt cX6_groupsAt 4 (some .int), .fieldLink RX6 23 "SeaGates$Sea" "size" "I", .fieldLink RX6 20 "SeaGates$Sea" "heads" "[[I"] ++ wsX110 ++ wsX60)
def wsX11_gateOf_r1 : List Cond := [Cond.classLink RX11 187 RX10, Cond.instantiable RX10 3, Cond.initialized RX10, Cond.classLink RX11 192 RX3, Cond.instantiable RX3 3, Cond.initialized RX3, Cond.classLink RX11 195 RX8, Cond.instantiable RX8 3, Cond.initialized RX8, Cond.classLink RX11 200 RX2, Cond.instantiable RX2 3, Cond.initialized RX2, Cond.methodLink RX11 189 yX10_init, Cond.instanceMethod yX10_init, Cond.code yX10_init cX10_init 3 none, Cond.methodLink RX10 3 yX3_init, Cond.instanceMethod yX3_init, Cond.code yX3_init cX3_init 3 none, Cond.methodLink RX3 3 yX2_init, Cond.instanceMethod yX2_init, Cond.code yX2_init cX2_init 3 none, Cond.methodLink RX2 3 objectInit, Cond.instanceMethod objectInit, Cond.code objectInit ⟨#[0xb1]⟩ 1 none]
def wsX11_gateOf_r2 : List Cond := [Cond.fieldLink RX2 9 "SeaGates$Gate" "failed" "Z", Cond.fieldLink RX2 15 "SeaGates$Gate" "minutes" "I", Cond.fieldLink RX2 19 "SeaGates$Gate" "hand" "I", Cond.methodLink RX11 194 yX3_init, Cond.methodLink RX11 197 yX8_init, Cond.instanceMethod yX8_init, Cond.code yX8_init cX8_init 2 none, Cond.methodLink RX8 3 yX2_init, Cond.methodLink RX11 202 yX2_init]
def wsX11_gateOf : List Cond := .code yX11_gateOf cX11_gateOf 2 (some (.object "SeaGates$Gate")) :: ((wsX11_gateOf_r1 ++ wsX11_gateOf_r2) ++ wsX100 ++ wsX30 ++ wsX80 ++ wsX20)
def wsX11_gate_r1 : List Cond := [Cond.constant RX11 70 (-1000001), Cond.fieldLink RX11 44 "SeaGates" "row" "LSeaGates$Row;", Cond.fieldLink RX11 179 "SeaGates$Row" "size" "I", Cond.constant RX11 107 (-1000003), Cond.methodLink RX11 66 yX11_within, Cond.static yX11_within, Cond.initialized RX11, Cond.code yX11_within cX11_within 3 (some .boolean), Cond.methodLink RX11 180 yX11_gateOf, Cond.static yX11_gateOf, Cond.code yX11_gateOf cX11_gateOf 2 (some (.object "SeaGates$Gate")), Cond.classLink RX11 187 RX10, Cond.instantiable RX10 3, Cond.initialized RX10, Cond.classLink RX11 192 RX3, Cond.instantiable RX3 3, Cond.initialized RX3, Cond.classLink RX11 195 RX8, Cond.instantiable RX8 3, Cond.initialized RX8, Cond.classLink RX11 200 RX2, Cond.instantiable RX2 3, Cond.initialized RX2, Cond.methodLink RX11 189 yX10_init]
def wsX11_gate_r2 : List Cond := [Cond.instanceMethod yX10_init, Cond.code yX10_init cX10_init 3 none, Cond.methodLink RX10 3 yX3_init, Cond.instanceMethod yX3_init, Cond.code yX3_init cX3_init 3 none, Cond.methodLink RX3 3 yX2_init, Cond.instanceMethod yX2_init, Cond.code yX2_init cX2_init 3 none, Cond.methodLink RX2 3 objectInit, Cond.instanceMethod objectInit, Cond.code objectInit ⟨#[0xb1]⟩ 1 none, Cond.fieldLink RX2 9 "SeaGates$Gate" "failed" "Z", Cond.fieldLink RX2 15 "SeaGates$Gate" "minutes" "I", Cond.fieldLink RX2 19 "SeaGates$Gate" "hand" "I", Cond.methodLink RX11 194 yX3_init, Cond.methodLink RX11 197 yX8_init, Cond.instanceMethod yX8_init, Cond.code yX8_init cX8_init 2 none, Cond.methodLink RX8 3 yX2_init, Cond.methodLink RX11 202 yX2_init, Cond.methodLink RX11 184 yX5_add, Cond.instanceMethod yX5_add, Cond.selects RX5 yX5_add yX5_add, Cond.initialized RX5]
def wsX11_gate_r3 : List Cond := [Cond.code yX5_add cX5_add 2 (some .int), Cond.fieldLink RX5 11 "SeaGates$Row" "gates" "[LSeaGates$Gate;", Cond.fieldLink RX5 21 "SeaGates$Row" "size" "I"]
def wsX11_gate : List Cond := .code yX11_gate cX11_gate 3 (some .int) :: ((wsX11_gate_r1 ++ (wsX11_gate_r2 ++ wsX11_gate_r3)) ++ wsX110 ++ wsX50 ++ wsX100 ++ wsX30 ++ wsX80 ++ wsX20)
def wsX11_becomes : List Cond := .code yX11_becomes cX11_becomes 5 (some .int) :: ([.fieldLink RX11 44 "SeaGates" "row" "LSeaGates$Row;", .constant RX11 70 (-1000001), .fieldLink RX11 210 "SeaGates$Gate" "failed" "Z", .methodLink RX11 206 yX5_at, .instanceMethod yX5_at, .selects RX5 yX5_at yX5_at, .initialized RX5, .code yX5_at cX5_at 2 (some (.object "SeaGates$Gate")), .fieldLink RX5 21 "SeaGates$Row" "size" "I", .fieldLink RX5 11 "SeaGates$Row" "gates" "[LSeaGates$Gate;", .static yX11_within, .initialized RX11, .code yX11_within cX11_within 3 (some .boolean)] ++ wsX110 ++ wsX20 ++ wsX30 ++ wsX80 ++ wsX100 ++ wsX50)
def wsX11_fail : List Cond := .code yX11_fail cX11_fail 2 (some .int) :: ([.methodLink RX11 203 yX11_becomes, .instanceMethod yX11_becomes, .selects RX11 yX11_becomes yX11_becomes, .initialized RX11, .code yX11_becomes cX11_becomes 5 (some .int), .fieldLink RX11 44 "SeaGates" "row" "LSeaGates$Row;", .constant RX11 70 (-1000001), .fieldLink RX11 210 "SeaGates$Gate" "failed" "Z", .methodLink RX11 206 yX5_at, .instanceMethod yX5_at, .selects RX5 yX5_at yX5_at, .initialized RX5, .code yX5_at cX5_at 2 (some (.object "SeaGates$Gate")), .fieldLink RX5 21 "SeaGates$Row" "size" "I", .fieldLink RX5 11 "SeaGates$Row" "gates" "[LSeaGates$Gate;", .static yX11_within, .code yX11_within cX11_within 3 (some .boolean)] ++ wsX110 ++ wsX20 ++ wsX30 ++ wsX80 ++ wsX100 ++ wsX50)
def wsX11_mend : List Cond := .code yX11_mend cX11_mend 2 (some .int) :: ([.methodLink RX11 203 yX11_becomes, .instanceMethod yX11_becomes, .selects RX11 yX11_becomes yX11_becomes, .initialized RX11, .code yX11_becomes cX11_becomes 5 (some .int), .fieldLink RX11 44 "SeaGates" "row" "LSeaGates$Row;", .constant RX11 70 (-1000001), .fieldLink RX11 210 "SeaGates$Gate" "failed" "Z", .methodLink RX11 206 yX5_at, .instanceMethod yX5_at, .selects RX5 yX5_at yX5_at, .initialized RX5, .code yX5_at cX5_at 2 (some (.object "SeaGates$Gate")), .fieldLink RX5 21 "SeaGates$Row" "size" "I", .fieldLink RX5 11 "SeaGates$Row" "gates" "[LSeaGates$Gate;", .static yX11_within, .code yX11_within cX11_within 3 (some .boolean)] ++ wsX110 ++ wsX20 ++ wsX30 ++ wsX80 ++ wsX100 ++ wsX50)
def wsX11_time_r1 : List Cond := [Cond.constant RX11 70 (-1000001), Cond.fieldLink RX11 44 "SeaGates" "row" "LSeaGates$Row;", Cond.constant RX11 175 (-1000000), Cond.methodLink RX11 66 yX11_within, Cond.static yX11_within, Cond.initialized RX11, Cond.code yX11_within cX11_within 3 (some .boolean), Cond.methodLink RX11 213 yX5_timeToShut, Cond.instanceMethod yX5_timeToShut, Cond.selects RX5 yX5_timeToShut yX5_timeToShut, Cond.initialized RX5, Cond.code yX5_timeToShut cX5_timeToShut 7 (some .int), Cond.fieldLink RX5 17 "SeaGates$Row" "free" "[I", Cond.fieldLink RX5 11 "SeaGates$Row" "gates" "[LSeaGates$Gate;", Cond.fieldLink RX5 39 "SeaGates$Gate" "minutes" "I", Cond.fieldLink RX5 29 "SeaGates$Gate" "failed" "Z", Cond.fieldLink RX5 42 "SeaGates$Gate" "hand" "I", Cond.constant RX5 45 (-1000000), Cond.methodLink RX5 50 Lib.Math.max.name, Cond.static Lib.Math.max.name, Cond.initialized "java/lang/Math", Cond.code Lib.Math.max.name Lib.Math.max.code 2 (some .int), Cond.methodLink RX5 33 yJ7_fill_53178, Cond.static yJ7_fill_53178]
def wsX11_time_r2 : List Cond := [Cond.initialized RJ7, Cond.code yJ7_fill_53178 cJ7_fill_53178 4 none, Cond.methodLink RX5 46 yX5_endByHand, Cond.instanceMethod yX5_endByHand, Cond.selects RX5 yX5_endByHand yX5_endByHand, Cond.code yX5_endByHand cX5_endByHand 5 (some .int), Cond.methodLink RX11 216 yX5_worstTime, Cond.instanceMethod yX5_worstTime, Cond.selects RX5 yX5_worstTime yX5_worstTime, Cond.code yX5_worstTime cX5_worstTime 6 (some .int), Cond.fieldLink RX5 21 "SeaGates$Row" "size" "I", Cond.methodLink RX5 55 yX5_failedOnes, Cond.instanceMethod yX5_failedOnes, Cond.selects RX5 yX5_failedOnes yX5_failedOnes, Cond.code yX5_failedOnes cX5_failedOnes 6 (some .int), Cond.methodLink RX5 59 yX5_timeToShut]
def wsX11_time : List Cond := .code yX11_time cX11_time 3 (some .int) :: ((wsX11_time_r1 ++ wsX11_time_r2) ++ wsX110 ++ wsX50 ++ wsX20 ++ wsX30 ++ wsX80 ++ wsX100)
def wsX11_ship : List Cond := .code yX11_ship cX11_ship 3 (some .int) :: ([.constant RX11 219 (100000), .constant RX11 70 (-1000001), .fieldLink RX11 51 "SeaGates" "fairway" "LSeaGates$Fairway;", .fieldLink RX11 220 "SeaGates$Fairway" "size" "I", .constant RX11 107 (-1000003), .methodLink RX11 66 yX11_within, .static yX11_within, .initialized RX11, .code yX11_within cX11_within 3 (some .boolean), .methodLink RX11 221 yX1_add, .instanceMethod yX1_add, .selects RX1 yX1_add yX1_add, .initialized RX1, .code yX1_add cX1_add 5 (some .int), .fieldLink RX1 21 "SeaGates$Fairway" "size" "I", .fieldLink RX1 9 "SeaGates$Fairway" "minutes" "[I", .fieldLink RX1 15 "SeaGates$Fairway" "passing" "[I", .fieldLink RX1 18 "SeaGates$Fairway" "inTurn" "[I"] ++ wsX110 ++ wsX10)
def wsX11_waits : List Cond := .code yX11_waits cX11_waits 4 (some .int) :: ([.fieldLink RX11 51 "SeaGates" "fairway" "LSeaGates$Fairway;", .fieldLink RX11 220 "SeaGates$Fairway" "size" "I", .constant RX11 219 (100000), .constant RX11 70 (-1000001), .methodLink RX11 66 yX11_within, .static yX11_within, .initialized RX11, .code yX11_within cX11_within 3 (some .boolean), .methodLink RX11 223 yX1_waitOf, .instanceMethod yX1_waitOf, .selects RX1 yX1_waitOf yX1_waitOf, .initialized RX1, .code yX1_waitOf cX1_waitOf 9 (some .int), .fieldLink RX1 21 "SeaGates$Fairway" "size" "I", .fieldLink RX1 18 "SeaGates$Fairway" "inTurn" "[I", .fieldLink RX1 9 "SeaGates$Fairway" "minutes" "[I", .methodLink RX1 25 Lib.Math.max.name, .static Lib.Math.max.name, .initialized "java/lang/Math", .code Lib.Math.max.name Lib.Math.max.code 2 (some .int), .fieldLink RX1 15 "SeaGates$Fairway" "passing" "[I"] ++ wsX110 ++ wsX10)
def wsX11_arePeaks : List Cond := .code yX11_arePeaks cX11_arePeaks 3 (some .boolean) :: ([.methodLink RX11 66 yX11_within, .static yX11_within, .initialized RX11, .code yX11_within cX11_within 3 (some .boolean)])
def wsX11_levelIn : List Cond := .code yX11_levelIn cX11_levelIn 3 (some .long) :: ([])
def wsX11_closings_r1 : List Cond := [Cond.constant RX11 70 (-1000001), Cond.fieldLink RX11 12 "SeaGates" "sheets" "LSeaGates$Sheets;", Cond.methodLink RX11 226 yX11_arePeaks, Cond.static yX11_arePeaks, Cond.initialized RX11, Cond.code yX11_arePeaks cX11_arePeaks 3 (some .boolean), Cond.methodLink RX11 66 yX11_within, Cond.static yX11_within, Cond.code yX11_within cX11_within 3 (some .boolean), Cond.methodLink RX11 82 yX7_look, Cond.instanceMethod yX7_look, Cond.selects RX7 yX7_look yX7_look, Cond.initialized RX7, Cond.code yX7_look cX7_look 4 (some .int), Cond.methodLink RX7 29 yX7_isMissing, Cond.instanceMethod yX7_isMissing, Cond.selects RX7 yX7_isMissing yX7_isMissing, Cond.code yX7_isMissing cX7_isMissing 2 (some .boolean), Cond.fieldLink RX7 20 "SeaGates$Sheets" "sizes" "[I", Cond.methodLink RX7 33 yX7_hasPlaces, Cond.instanceMethod yX7_hasPlaces, Cond.selects RX7 yX7_hasPlaces yX7_hasPlaces, Cond.code yX7_hasPlaces cX7_hasPlaces 4 (some .boolean), Cond.methodLink RX11 71 yX11_found]
def wsX11_closings_r2 : List Cond := [Cond.instanceMethod yX11_found, Cond.selects RX11 yX11_found yX11_found, Cond.code yX11_found cX11_found 2 (some .int), Cond.fieldLink RX11 62 "SeaGates" "finding" "I", Cond.constant RX11 270 (-1000010), Cond.methodLink RX11 229 yX11_levelIn, Cond.static yX11_levelIn, Cond.code yX11_levelIn cX11_levelIn 3 (some .long), Cond.methodLink RX11 233 yX7_above, Cond.instanceMethod yX7_above, Cond.selects RX7 yX7_above yX7_above, Cond.code yX7_above cX7_above 8 (some .int), Cond.fieldLink RX7 11 "SeaGates$Sheets" "items" "[[I", Cond.methodLink RX11 79 yX11_fine, Cond.instanceMethod yX11_fine, Cond.selects RX11 yX11_fine yX11_fine, Cond.code yX11_fine cX11_fine 2 (some .int)]
def wsX11_closings : List Cond := .code yX11_closings cX11_closings 8 (some .int) :: ((wsX11_closings_r1 ++ wsX11_closings_r2) ++ wsX110 ++ wsX70)
def wsX11_tooMany_r1 : List Cond := [Cond.constant RX11 70 (-1000001), Cond.fieldLink RX11 12 "SeaGates" "sheets" "LSeaGates$Sheets;", Cond.constant RX11 175 (-1000000), Cond.methodLink RX11 226 yX11_arePeaks, Cond.static yX11_arePeaks, Cond.initialized RX11, Cond.code yX11_arePeaks cX11_arePeaks 3 (some .boolean), Cond.methodLink RX11 66 yX11_within, Cond.static yX11_within, Cond.code yX11_within cX11_within 3 (some .boolean), Cond.methodLink RX11 82 yX7_look, Cond.instanceMethod yX7_look, Cond.selects RX7 yX7_look yX7_look, Cond.initialized RX7, Cond.code yX7_look cX7_look 4 (some .int), Cond.methodLink RX7 29 yX7_isMissing, Cond.instanceMethod yX7_isMissing, Cond.selects RX7 yX7_isMissing yX7_isMissing, Cond.code yX7_isMissing cX7_isMissing 2 (some .boolean), Cond.fieldLink RX7 20 "SeaGates$Sheets" "sizes" "[I", Cond.methodLink RX7 33 yX7_hasPlaces, Cond.instanceMethod yX7_hasPlaces, Cond.selects RX7 yX7_hasPlaces yX7_hasPlaces, Cond.code yX7_hasPlaces cX7_hasPlaces 4 (some .boolean)]
def wsX11_tooMany_r2 : List Cond := [Cond.methodLink RX11 71 yX11_found, Cond.instanceMethod yX11_found, Cond.selects RX11 yX11_found yX11_found, Cond.code yX11_found cX11_found 2 (some .int), Cond.fieldLink RX11 62 "SeaGates" "finding" "I", Cond.constant RX11 270 (-1000010), Cond.methodLink RX11 229 yX11_levelIn, Cond.static yX11_levelIn, Cond.code yX11_levelIn cX11_levelIn 3 (some .long), Cond.methodLink RX11 233 yX7_above, Cond.instanceMethod yX7_above, Cond.selects RX7 yX7_above yX7_above, Cond.code yX7_above cX7_above 8 (some .int), Cond.fieldLink RX7 11 "SeaGates$Sheets" "items" "[[I", Cond.methodLink RX11 79 yX11_fine, Cond.instanceMethod yX11_fine, Cond.selects RX11 yX11_fine yX11_fine, Cond.code yX11_fine cX11_fine 2 (some .int)]
def wsX11_tooMany : List Cond := .code yX11_tooMany cX11_tooMany 12 (some .int) :: ((wsX11_tooMany_r1 ++ wsX11_tooMany_r2) ++ wsX110 ++ wsX70)
def wsX11_kind_r1 : List Cond := [Cond.fieldLink RX11 44 "SeaGates" "row" "LSeaGates$Row;", Cond.constant RX11 70 (-1000001), Cond.methodLink RX11 206 yX5_at, Cond.instanceMethod yX5_at, Cond.selects RX5 yX5_at yX5_at, Cond.initialized RX5, Cond.code yX5_at cX5_at 2 (some (.object "SeaGates$Gate")), Cond.fieldLink RX5 21 "SeaGates$Row" "size" "I", Cond.fieldLink RX5 11 "SeaGates$Row" "gates" "[LSeaGates$Gate;", Cond.static yX11_within, Cond.initialized RX11, Cond.code yX11_within cX11_within 3 (some .boolean), Cond.methodLink RX11 237 yX2_toldAs, Cond.instanceMethod yX2_toldAs, Cond.selects RX2 yX2_toldAs yX2_toldAs, Cond.initialized RX2, Cond.code yX2_toldAs cX2_toldAs 1 (some .int), Cond.methodLink RX11 237 ⟨"SeaGates$Gate", "toldAs", "()I"⟩, Cond.sameMethod "SeaGates$Gate" "SeaGates$Gate" "toldAs" "()I", Cond.instanceMethod ⟨"SeaGates$Gate", "toldAs", "()I"⟩, Cond.selects RX3 ⟨"SeaGates$Gate", "toldAs", "()I"⟩ yX3_toldAs, Cond.instanceMethod yX3_toldAs, Cond.initialized RX3, Cond.code yX3_toldAs cX3_toldAs 1 (some .int)]
def wsX11_kind_r2 : List Cond := [Cond.selects RX8 ⟨"SeaGates$Gate", "toldAs", "()I"⟩ yX8_toldAs, Cond.instanceMethod yX8_toldAs, Cond.initialized RX8, Cond.code yX8_toldAs cX8_toldAs 1 (some .int), Cond.selects RX10 ⟨"SeaGates$Gate", "toldAs", "()I"⟩ yX10_toldAs, Cond.instanceMethod yX10_toldAs, Cond.initialized RX10, Cond.code yX10_toldAs cX10_toldAs 1 (some .int)]
def wsX11_kind : List Cond := .code yX11_kind cX11_kind 3 (some .int) :: ((wsX11_kind_r1 ++ wsX11_kind_r2) ++ wsX110 ++ wsX50)
def wsX11_isOf : List Cond := .code yX11_isOf cX11_isOf 2 (some .boolean) :: ([.classLink RX11 192 "SeaGates$Handed", .classLink RX11 187 "SeaGates$Twin", .classLink RX11 195 "SeaGates$Slow"])
def wsX11_as_r1 : List Cond := [Cond.fieldLink RX11 44 "SeaGates" "row" "LSeaGates$Row;", Cond.constant RX11 70 (-1000001), Cond.fieldLink RX11 245 "SeaGates$Gate" "minutes" "I", Cond.methodLink RX11 206 yX5_at, Cond.instanceMethod yX5_at, Cond.selects RX5 yX5_at yX5_at, Cond.initialized RX5, Cond.code yX5_at cX5_at 2 (some (.object "SeaGates$Gate")), Cond.fieldLink RX5 21 "SeaGates$Row" "size" "I", Cond.fieldLink RX5 11 "SeaGates$Row" "gates" "[LSeaGates$Gate;", Cond.static yX11_within, Cond.initialized RX11, Cond.code yX11_within cX11_within 3 (some .boolean), Cond.methodLink RX11 66 yX11_within, Cond.methodLink RX11 241 yX11_isOf, Cond.static yX11_isOf, Cond.code yX11_isOf cX11_isOf 2 (some .boolean), Cond.classLink RX11 192 "SeaGates$Handed", Cond.classLink RX11 187 "SeaGates$Twin", Cond.classLink RX11 195 "SeaGates$Slow", Cond.methodLink RX11 79 yX11_fine, Cond.instanceMethod yX11_fine, Cond.selects RX11 yX11_fine yX11_fine, Cond.code yX11_fine cX11_fine 2 (some .int)]
def wsX11_as_r2 : List Cond := [Cond.fieldLink RX11 62 "SeaGates" "finding" "I", Cond.methodLink RX11 71 yX11_found, Cond.instanceMethod yX11_found, Cond.selects RX11 yX11_found yX11_found, Cond.code yX11_found cX11_found 2 (some .int), Cond.constant RX11 270 (-1000010)]
def wsX11_as : List Cond := .code yX11_as cX11_as 4 (some .int) :: ((wsX11_as_r1 ++ wsX11_as_r2) ++ wsX110 ++ wsX20 ++ wsX30 ++ wsX80 ++ wsX100 ++ wsX50)
def wsX11_ask_r1 : List Cond := [Cond.fieldLink RX11 44 "SeaGates" "row" "LSeaGates$Row;", Cond.constant RX11 70 (-1000001), Cond.fieldLink RX11 58 "SeaGates" "bodies" "LSeaGates$Trace;", Cond.fieldLink RX11 248 "SeaGates$Trace" "length" "I", Cond.methodLink RX11 206 yX5_at, Cond.instanceMethod yX5_at, Cond.selects RX5 yX5_at yX5_at, Cond.initialized RX5, Cond.code yX5_at cX5_at 2 (some (.object "SeaGates$Gate")), Cond.fieldLink RX5 21 "SeaGates$Row" "size" "I", Cond.fieldLink RX5 11 "SeaGates$Row" "gates" "[LSeaGates$Gate;", Cond.static yX11_within, Cond.initialized RX11, Cond.code yX11_within cX11_within 3 (some .boolean), Cond.methodLink RX11 66 yX11_within, Cond.methodLink RX11 251 yX2_cost, Cond.instanceMethod yX2_cost, Cond.selects RX2 yX2_cost yX2_cost, Cond.initialized RX2, Cond.code yX2_cost cX2_cost 2 (some .int), Cond.fieldLink RX2 15 "SeaGates$Gate" "minutes" "I", Cond.methodLink RX2 22 yX9_leave, Cond.instanceMethod yX9_leave, Cond.selects RX9 yX9_leave yX9_leave]
def wsX11_ask_r2 : List Cond := [Cond.initialized RX9, Cond.code yX9_leave cX9_leave 2 none, Cond.fieldLink RX9 15 "SeaGates$Trace" "length" "I", Cond.fieldLink RX9 9 "SeaGates$Trace" "numbers" "[I", Cond.methodLink RX11 251 ⟨"SeaGates$Gate", "cost", "(LSeaGates$Trace;)I"⟩, Cond.sameMethod "SeaGates$Gate" "SeaGates$Gate" "cost" "(LSeaGates$Trace;)I", Cond.instanceMethod ⟨"SeaGates$Gate", "cost", "(LSeaGates$Trace;)I"⟩, Cond.selects RX3 ⟨"SeaGates$Gate", "cost", "(LSeaGates$Trace;)I"⟩ yX3_cost, Cond.instanceMethod yX3_cost, Cond.initialized RX3, Cond.code yX3_cost cX3_cost 2 (some .int), Cond.fieldLink RX3 19 "SeaGates$Handed" "hand" "I", Cond.sameField "SeaGates$Handed" "SeaGates$Gate" "hand" "I", Cond.methodLink RX3 9 yX9_leave, Cond.methodLink RX3 15 yX2_cost, Cond.superclass RX3 RX2, Cond.selects RX8 ⟨"SeaGates$Gate", "cost", "(LSeaGates$Trace;)I"⟩ yX8_cost, Cond.instanceMethod yX8_cost, Cond.initialized RX8, Cond.code yX8_cost cX8_cost 2 (some .int), Cond.methodLink RX8 9 yX9_leave, Cond.methodLink RX8 15 yX2_cost, Cond.superclass RX8 RX2, Cond.selects RX10 ⟨"SeaGates$Gate", "cost", "(LSeaGates$Trace;)I"⟩ yX10_cost]
def wsX11_ask_r3 : List Cond := [Cond.instanceMethod yX10_cost, Cond.initialized RX10, Cond.code yX10_cost cX10_cost 2 (some .int), Cond.methodLink RX10 9 yX9_leave, Cond.methodLink RX10 15 yX3_cost, Cond.sameMethod "SeaGates$Handed" "SeaGates$Handed" "cost" "(LSeaGates$Trace;)I", Cond.superclass RX10 RX3, Cond.methodLink RX11 255 yX2_mark, Cond.instanceMethod yX2_mark, Cond.selects RX2 yX2_mark yX2_mark, Cond.code yX2_mark cX2_mark 2 (some .int), Cond.fieldLink RX2 9 "SeaGates$Gate" "failed" "Z", Cond.methodLink RX11 255 ⟨"SeaGates$Gate", "mark", "(LSeaGates$Trace;)I"⟩, Cond.sameMethod "SeaGates$Gate" "SeaGates$Gate" "mark" "(LSeaGates$Trace;)I", Cond.instanceMethod ⟨"SeaGates$Gate", "mark", "(LSeaGates$Trace;)I"⟩, Cond.selects RX3 ⟨"SeaGates$Gate", "mark", "(LSeaGates$Trace;)I"⟩ yX3_mark, Cond.instanceMethod yX3_mark, Cond.code yX3_mark cX3_mark 2 (some .int), Cond.methodLink RX3 25 yX2_mark, Cond.methodLink RX3 28 yX3_cost, Cond.selects RX3 yX3_cost yX3_cost, Cond.methodLink RX3 28 ⟨"SeaGates$Handed", "cost", "(LSeaGates$Trace;)I"⟩, Cond.instanceMethod ⟨"SeaGates$Handed", "cost", "(LSeaGates$Trace;)I"⟩, Cond.selects RX10 ⟨"SeaGates$Handed", "cost", "(LSeaGates$Trace;)I"⟩ yX10_cost]
def wsX11_ask_r4 : List Cond := [Cond.selects RX8 ⟨"SeaGates$Gate", "mark", "(LSeaGates$Trace;)I"⟩ yX8_mark, Cond.instanceMethod yX8_mark, Cond.code yX8_mark cX8_mark 2 (some .int), Cond.methodLink RX8 19 yX2_mark, Cond.methodLink RX8 22 yX8_cost, Cond.selects RX8 yX8_cost yX8_cost, Cond.selects RX10 ⟨"SeaGates$Gate", "mark", "(LSeaGates$Trace;)I"⟩ yX3_mark]
def wsX11_ask : List Cond := .code yX11_ask cX11_ask 4 (some .int) :: ((wsX11_ask_r1 ++ (wsX11_ask_r2 ++ (wsX11_ask_r3 ++ wsX11_ask_r4))) ++ wsX110 ++ wsX90 ++ wsX50 ++ wsX20 ++ wsX30 ++ wsX80 ++ wsX100)
def wsX11_trace : List Cond := .code yX11_trace cX11_trace 2 (some .int) :: ([.fieldLink RX11 58 "SeaGates" "bodies" "LSeaGates$Trace;", .fieldLink RX11 248 "SeaGates$Trace" "length" "I", .fieldLink RX11 258 "SeaGates$Trace" "numbers" "[I", .constant RX11 175 (-1000000), .methodLink RX11 66 yX11_within, .static yX11_within, .initialized RX11, .code yX11_within cX11_within 3 (some .boolean)] ++ wsX110 ++ wsX90)
def wsX11_count_r1 : List Cond := [Cond.fieldLink RX11 12 "SeaGates" "sheets" "LSeaGates$Sheets;", Cond.fieldLink RX11 19 "SeaGates" "sea" "LSeaGates$Sea;", Cond.fieldLink RX11 104 "SeaGates$Sea" "size" "I", Cond.fieldLink RX11 44 "SeaGates" "row" "LSeaGates$Row;", Cond.fieldLink RX11 179 "SeaGates$Row" "size" "I", Cond.fieldLink RX11 51 "SeaGates" "fairway" "LSeaGates$Fairway;", Cond.fieldLink RX11 220 "SeaGates$Fairway" "size" "I", Cond.constant RX11 70 (-1000001), Cond.methodLink RX11 261 yX7_present, Cond.instanceMethod yX7_present, Cond.selects RX7 yX7_present yX7_present, Cond.initialized RX7, Cond.code yX7_present cX7_present 3 (some .int), Cond.methodLink RX7 29 yX7_isMissing, Cond.instanceMethod yX7_isMissing, Cond.selects RX7 yX7_isMissing yX7_isMissing, Cond.code yX7_isMissing cX7_isMissing 2 (some .boolean), Cond.fieldLink RX7 20 "SeaGates$Sheets" "sizes" "[I", Cond.methodLink RX11 264 yX6_allWeights, Cond.instanceMethod yX6_allWeights, Cond.selects RX6 yX6_allWeights yX6_allWeights, Cond.initialized RX6, Cond.code yX6_allWeights cX6_allWeights 3 (some .int), Cond.fieldLink RX6 23 "SeaGates$Sea" "size" "I"]
def wsX11_count_r2 : List Cond := [Cond.fieldLink RX6 9 "SeaGates$Sea" "weights" "[I", Cond.methodLink RX11 267 yX5_failedOnes, Cond.instanceMethod yX5_failedOnes, Cond.selects RX5 yX5_failedOnes yX5_failedOnes, Cond.initialized RX5, Cond.code yX5_failedOnes cX5_failedOnes 6 (some .int), Cond.fieldLink RX5 11 "SeaGates$Row" "gates" "[LSeaGates$Gate;", Cond.fieldLink RX5 29 "SeaGates$Gate" "failed" "Z"]
def wsX11_count : List Cond := .code yX11_count cX11_count 2 (some .int) :: ((wsX11_count_r1 ++ wsX11_count_r2) ++ wsX110 ++ wsX60 ++ wsX50 ++ wsX10 ++ wsX70 ++ wsX20 ++ wsX30 ++ wsX80 ++ wsX100)
def wsX11_status : List Cond := .code yX11_status cX11_status 1 (some .int) :: ([.fieldLink RX11 62 "SeaGates" "finding" "I"] ++ wsX110)
def wsX12_init : List Cond := .code yX12_init cX12_init 1 none :: ([.methodLink RX12 1 objectInit, .instanceMethod objectInit, .code objectInit ⟨#[0xb1]⟩ 1 none, .arrayClass .int, .fieldLink RX12 7 "SeaGatesModel" "rule" "[I", .fieldLink RX12 13 "SeaGatesModel" "river" "[I", .fieldLink RX12 16 "SeaGatesModel" "lane" "[I", .fieldLink RX12 19 "SeaGatesModel" "many" "[I", .fieldLink RX12 22 "SeaGatesModel" "item" "[I", .fieldLink RX12 25 "SeaGatesModel" "weight" "[I", .fieldLink RX12 28 "SeaGatesModel" "sea" "[I", .arrayClass .long, .fieldLink RX12 31 "SeaGatesModel" "least" "[J", .arrayClass .boolean, .fieldLink RX12 35 "SeaGatesModel" "isTold" "[Z", .fieldLink RX12 39 "SeaGatesModel" "minutes" "[I", .fieldLink RX12 42 "SeaGatesModel" "hand" "[I", .fieldLink RX12 45 "SeaGatesModel" "hasFailed" "[Z", .fieldLink RX12 48 "SeaGatesModel" "crew" "[I", .fieldLink RX12 51 "SeaGatesModel" "comes" "[I", .fieldLink RX12 54 "SeaGatesModel" "takes" "[I", .fieldLink RX12 57 "SeaGatesModel" "trace" "[I"] ++ wsX120)
def wsX12_in : List Cond := .code yX12_in cX12_in 6 (some .boolean) :: ([])
def wsX12_found : List Cond := .code yX12_found cX12_found 2 (some .int) :: ([.fieldLink RX12 64 "SeaGatesModel" "status" "I", .constant RX12 67 (-1000010)] ++ wsX120)
def wsX12_isSheet : List Cond := .code yX12_isSheet cX12_isSheet 1 (some .boolean) :: ([.constantLong RX12 68 (7), .methodLink RX12 70 yX12_in, .static yX12_in, .initialized RX12, .code yX12_in cX12_in 6 (some .boolean)])
def wsX12_sheet : List Cond := .code yX12_sheet cX12_sheet 5 (some .int) :: ([.fieldLink RX12 60 "SeaGatesModel" "thrown" "I", .constantLong RX12 78 (2), .constant RX12 80 (-1000001), .fieldLink RX12 64 "SeaGatesModel" "status" "I", .fieldLink RX12 16 "SeaGatesModel" "lane" "[I", .fieldLink RX12 19 "SeaGatesModel" "many" "[I", .fieldLink RX12 22 "SeaGatesModel" "item" "[I", .methodLink RX12 74 yX12_isSheet, .static yX12_isSheet, .initialized RX12, .code yX12_isSheet cX12_isSheet 1 (some .boolean), .constantLong RX12 68 (7), .methodLink RX12 70 yX12_in, .static yX12_in, .code yX12_in cX12_in 6 (some .boolean), .methodLink RX12 81 yX12_found, .instanceMethod yX12_found, .selects RX12 yX12_found yX12_found, .code yX12_found cX12_found 2 (some .int), .constant RX12 67 (-1000010)] ++ wsX120)
def wsX12_set : List Cond := .code yX12_set cX12_set 4 (some .int) :: ([.fieldLink RX12 60 "SeaGatesModel" "thrown" "I", .constant RX12 80 (-1000001), .fieldLink RX12 64 "SeaGatesModel" "status" "I", .fieldLink RX12 16 "SeaGatesModel" "lane" "[I", .fieldLink RX12 19 "SeaGatesModel" "many" "[I", .fieldLink RX12 22 "SeaGatesModel" "item" "[I", .methodLink RX12 74 yX12_isSheet, .static yX12_isSheet, .initialized RX12, .code yX12_isSheet cX12_isSheet 1 (some .boolean), .constantLong RX12 68 (7), .methodLink RX12 70 yX12_in, .static yX12_in, .code yX12_in cX12_in 6 (some .boolean), .methodLink RX12 81 yX12_found, .instanceMethod yX12_found, .selects RX12 yX12_found yX12_found, .code yX12_found cX12_found 2 (some .int), .constant RX12 67 (-1000010)] ++ wsX120)
def wsX12_copy : List Cond := .code yX12_copy cX12_copy 9 (some .int) :: ([.fieldLink RX12 60 "SeaGatesModel" "thrown" "I", .constant RX12 80 (-1000001), .fieldLink RX12 64 "SeaGatesModel" "status" "I", .fieldLink RX12 16 "SeaGatesModel" "lane" "[I", .fieldLink RX12 19 "SeaGatesModel" "many" "[I", .fieldLink RX12 22 "SeaGatesModel" "item" "[I", .methodLink RX12 74 yX12_isSheet, .static yX12_isSheet, .initialized RX12, .code yX12_isSheet cX12_isSheet 1 (some .boolean), .constantLong RX12 68 (7), .methodLink RX12 70 yX12_in, .static yX12_in, .code yX12_in cX12_in 6 (some .boolean), .methodLink RX12 81 yX12_found, .instanceMethod yX12_found, .selects RX12 yX12_found yX12_found, .code yX12_found cX12_found 2 (some .int), .constant RX12 67 (-1000010)] ++ wsX120)
def wsX12_drop : List Cond := .code yX12_drop cX12_drop 2 (some .int) :: ([.fieldLink RX12 60 "SeaGatesModel" "thrown" "I", .constant RX12 80 (-1000001), .fieldLink RX12 64 "SeaGatesModel" "status" "I", .fieldLink RX12 16 "SeaGatesModel" "lane" "[I", .fieldLink RX12 19 "SeaGatesModel" "many" "[I", .methodLink RX12 74 yX12_isSheet, .static yX12_isSheet, .initialized RX12, .code yX12_isSheet cX12_isSheet 1 (some .boolean), .constantLong RX12 68 (7), .methodLink RX12 70 yX12_in, .static yX12_in, .code yX12_in cX12_in 6 (some .boolean), .methodLink RX12 81 yX12_found, .instanceMethod yX12_found, .selects RX12 yX12_found yX12_found, .code yX12_found cX12_found 2 (some .int), .constant RX12 67 (-1000010)] ++ wsX120)
def wsX12_world_r1 : List Cond := [Cond.fieldLink RX12 60 "SeaGatesModel" "thrown" "I", Cond.constantLong RX12 85 (20), Cond.constant RX12 80 (-1000001), Cond.fieldLink RX12 87 "SeaGatesModel" "worlds" "I", Cond.constant RX12 90 (-1000003), Cond.fieldLink RX12 16 "SeaGatesModel" "lane" "[I", Cond.constantLong RX12 91 (8), Cond.fieldLink RX12 19 "SeaGatesModel" "many" "[I", Cond.fieldLink RX12 22 "SeaGatesModel" "item" "[I", Cond.constantLong RX12 93 (1000), Cond.fieldLink RX12 64 "SeaGatesModel" "status" "I", Cond.fieldLink RX12 28 "SeaGatesModel" "sea" "[I", Cond.fieldLink RX12 25 "SeaGatesModel" "weight" "[I", Cond.methodLink RX12 70 yX12_in, Cond.static yX12_in, Cond.initialized RX12, Cond.code yX12_in cX12_in 6 (some .boolean), Cond.methodLink RX12 74 yX12_isSheet, Cond.static yX12_isSheet, Cond.code yX12_isSheet cX12_isSheet 1 (some .boolean), Cond.constantLong RX12 68 (7), Cond.methodLink RX12 81 yX12_found, Cond.instanceMethod yX12_found, Cond.selects RX12 yX12_found yX12_found]
def wsX12_world_r2 : List Cond := [Cond.code yX12_found cX12_found 2 (some .int), Cond.constant RX12 67 (-1000010)]
def wsX12_world : List Cond := .code yX12_world cX12_world 5 (some .int) :: ((wsX12_world_r1 ++ wsX12_world_r2) ++ wsX120)
def wsX12_river : List Cond := .code yX12_river cX12_river 4 (some .int) :: ([.fieldLink RX12 60 "SeaGatesModel" "thrown" "I", .constantLong RX12 68 (7), .constantLong RX12 95 (100), .constant RX12 80 (-1000001), .fieldLink RX12 13 "SeaGatesModel" "river" "[I", .methodLink RX12 70 yX12_in, .static yX12_in, .initialized RX12, .code yX12_in cX12_in 6 (some .boolean)] ++ wsX120)
def wsX12_rule : List Cond := .code yX12_rule cX12_rule 4 (some .int) :: ([.fieldLink RX12 60 "SeaGatesModel" "thrown" "I", .constantLong RX12 68 (7), .constantLong RX12 97 (3), .constantLong RX12 93 (1000), .constant RX12 80 (-1000001), .fieldLink RX12 7 "SeaGatesModel" "rule" "[I", .methodLink RX12 70 yX12_in, .static yX12_in, .initialized RX12, .code yX12_in cX12_in 6 (some .boolean)] ++ wsX120)
def wsX12_groupOf : List Cond := .code yX12_groupOf cX12_groupOf 6 (some .int) :: ([.fieldLink RX12 28 "SeaGatesModel" "sea" "[I"] ++ wsX120)
def wsX12_stateIn : List Cond := .code yX12_stateIn cX12_stateIn 2 (some .int) :: ([])
def wsX12_after : List Cond := .code yX12_after cX12_after 4 (some .int) :: ([.fieldLink RX12 7 "SeaGatesModel" "rule" "[I"] ++ wsX120)
def wsX12_waterIn : List Cond := .code yX12_waterIn cX12_waterIn 8 (some .int) :: ([.fieldLink RX12 28 "SeaGatesModel" "sea" "[I", .fieldLink RX12 13 "SeaGatesModel" "river" "[I", .methodLink RX12 99 yX12_stateIn, .static yX12_stateIn, .initialized RX12, .code yX12_stateIn cX12_stateIn 2 (some .int)] ++ wsX120)
def wsX12_lostIn : List Cond := .code yX12_lostIn cX12_lostIn 7 (some .int) :: ([.fieldLink RX12 7 "SeaGatesModel" "rule" "[I", .fieldLink RX12 28 "SeaGatesModel" "sea" "[I", .methodLink RX12 99 yX12_stateIn, .static yX12_stateIn, .initialized RX12, .code yX12_stateIn cX12_stateIn 2 (some .int), .methodLink RX12 103 yX12_waterIn, .instanceMethod yX12_waterIn, .selects RX12 yX12_waterIn yX12_waterIn, .code yX12_waterIn cX12_waterIn 8 (some .int), .fieldLink RX12 13 "SeaGatesModel" "river" "[I"] ++ wsX120)
def wsX12_lossBy_r1 : List Cond := [Cond.fieldLink RX12 87 "SeaGatesModel" "worlds" "I", Cond.fieldLink RX12 25 "SeaGatesModel" "weight" "[I", Cond.fieldLink RX12 31 "SeaGatesModel" "least" "[J", Cond.methodLink RX12 107 yX12_after, Cond.instanceMethod yX12_after, Cond.selects RX12 yX12_after yX12_after, Cond.initialized RX12, Cond.code yX12_after cX12_after 4 (some .int), Cond.fieldLink RX12 7 "SeaGatesModel" "rule" "[I", Cond.methodLink RX12 111 yX12_groupOf, Cond.instanceMethod yX12_groupOf, Cond.selects RX12 yX12_groupOf yX12_groupOf, Cond.code yX12_groupOf cX12_groupOf 6 (some .int), Cond.fieldLink RX12 28 "SeaGatesModel" "sea" "[I", Cond.methodLink RX12 115 yX12_lostIn, Cond.instanceMethod yX12_lostIn, Cond.selects RX12 yX12_lostIn yX12_lostIn, Cond.code yX12_lostIn cX12_lostIn 7 (some .int), Cond.methodLink RX12 99 yX12_stateIn, Cond.static yX12_stateIn, Cond.code yX12_stateIn cX12_stateIn 2 (some .int), Cond.methodLink RX12 103 yX12_waterIn, Cond.instanceMethod yX12_waterIn, Cond.selects RX12 yX12_waterIn yX12_waterIn]
def wsX12_lossBy_r2 : List Cond := [Cond.code yX12_waterIn cX12_waterIn 8 (some .int), Cond.fieldLink RX12 13 "SeaGatesModel" "river" "[I"]
def wsX12_lossBy : List Cond := .code yX12_lossBy cX12_lossBy 9 (some .long) :: ((wsX12_lossBy_r1 ++ wsX12_lossBy_r2) ++ wsX120)
def wsX12_findBest_r1 : List Cond := [Cond.fieldLink RX12 87 "SeaGatesModel" "worlds" "I", Cond.fieldLink RX12 31 "SeaGatesModel" "least" "[J", Cond.fieldLink RX12 35 "SeaGatesModel" "isTold" "[Z", Cond.methodLink RX12 111 yX12_groupOf, Cond.instanceMethod yX12_groupOf, Cond.selects RX12 yX12_groupOf yX12_groupOf, Cond.initialized RX12, Cond.code yX12_groupOf cX12_groupOf 6 (some .int), Cond.fieldLink RX12 28 "SeaGatesModel" "sea" "[I", Cond.methodLink RX12 118 yX12_lossBy, Cond.instanceMethod yX12_lossBy, Cond.selects RX12 yX12_lossBy yX12_lossBy, Cond.code yX12_lossBy cX12_lossBy 9 (some .long), Cond.fieldLink RX12 25 "SeaGatesModel" "weight" "[I", Cond.methodLink RX12 107 yX12_after, Cond.instanceMethod yX12_after, Cond.selects RX12 yX12_after yX12_after, Cond.code yX12_after cX12_after 4 (some .int), Cond.fieldLink RX12 7 "SeaGatesModel" "rule" "[I", Cond.methodLink RX12 115 yX12_lostIn, Cond.instanceMethod yX12_lostIn, Cond.selects RX12 yX12_lostIn yX12_lostIn, Cond.code yX12_lostIn cX12_lostIn 7 (some .int), Cond.methodLink RX12 99 yX12_stateIn]
def wsX12_findBest_r2 : List Cond := [Cond.static yX12_stateIn, Cond.code yX12_stateIn cX12_stateIn 2 (some .int), Cond.methodLink RX12 103 yX12_waterIn, Cond.instanceMethod yX12_waterIn, Cond.selects RX12 yX12_waterIn yX12_waterIn, Cond.code yX12_waterIn cX12_waterIn 8 (some .int), Cond.fieldLink RX12 13 "SeaGatesModel" "river" "[I"]
def wsX12_findBest : List Cond := .code yX12_findBest cX12_findBest 8 none :: ((wsX12_findBest_r1 ++ wsX12_findBest_r2) ++ wsX120)
def wsX12_best_r1 : List Cond := [Cond.fieldLink RX12 60 "SeaGatesModel" "thrown" "I", Cond.fieldLink RX12 87 "SeaGatesModel" "worlds" "I", Cond.fieldLink RX12 31 "SeaGatesModel" "least" "[J", Cond.methodLink RX12 122 yX12_findBest, Cond.instanceMethod yX12_findBest, Cond.selects RX12 yX12_findBest yX12_findBest, Cond.initialized RX12, Cond.code yX12_findBest cX12_findBest 8 none, Cond.fieldLink RX12 35 "SeaGatesModel" "isTold" "[Z", Cond.methodLink RX12 111 yX12_groupOf, Cond.instanceMethod yX12_groupOf, Cond.selects RX12 yX12_groupOf yX12_groupOf, Cond.code yX12_groupOf cX12_groupOf 6 (some .int), Cond.fieldLink RX12 28 "SeaGatesModel" "sea" "[I", Cond.methodLink RX12 118 yX12_lossBy, Cond.instanceMethod yX12_lossBy, Cond.selects RX12 yX12_lossBy yX12_lossBy, Cond.code yX12_lossBy cX12_lossBy 9 (some .long), Cond.fieldLink RX12 25 "SeaGatesModel" "weight" "[I", Cond.methodLink RX12 107 yX12_after, Cond.instanceMethod yX12_after, Cond.selects RX12 yX12_after yX12_after, Cond.code yX12_after cX12_after 4 (some .int), Cond.fieldLink RX12 7 "SeaGatesModel" "rule" "[I"]
def wsX12_best_r2 : List Cond := [Cond.methodLink RX12 115 yX12_lostIn, Cond.instanceMethod yX12_lostIn, Cond.selects RX12 yX12_lostIn yX12_lostIn, Cond.code yX12_lostIn cX12_lostIn 7 (some .int), Cond.methodLink RX12 99 yX12_stateIn, Cond.static yX12_stateIn, Cond.code yX12_stateIn cX12_stateIn 2 (some .int), Cond.methodLink RX12 103 yX12_waterIn, Cond.instanceMethod yX12_waterIn, Cond.selects RX12 yX12_waterIn yX12_waterIn, Cond.code yX12_waterIn cX12_waterIn 8 (some .int), Cond.fieldLink RX12 13 "SeaGatesModel" "river" "[I"]
def wsX12_best : List Cond := .code yX12_best cX12_best 4 (some .long) :: ((wsX12_best_r1 ++ wsX12_best_r2) ++ wsX120)
def wsX12_hour_r1 : List Cond := [Cond.fieldLink RX12 60 "SeaGatesModel" "thrown" "I", Cond.fieldLink RX12 87 "SeaGatesModel" "worlds" "I", Cond.constantLong RX12 68 (7), Cond.constantLong RX12 97 (3), Cond.constant RX12 80 (-1000001), Cond.fieldLink RX12 35 "SeaGatesModel" "isTold" "[Z", Cond.methodLink RX12 70 yX12_in, Cond.static yX12_in, Cond.initialized RX12, Cond.code yX12_in cX12_in 6 (some .boolean), Cond.methodLink RX12 122 yX12_findBest, Cond.instanceMethod yX12_findBest, Cond.selects RX12 yX12_findBest yX12_findBest, Cond.code yX12_findBest cX12_findBest 8 none, Cond.fieldLink RX12 31 "SeaGatesModel" "least" "[J", Cond.methodLink RX12 111 yX12_groupOf, Cond.instanceMethod yX12_groupOf, Cond.selects RX12 yX12_groupOf yX12_groupOf, Cond.code yX12_groupOf cX12_groupOf 6 (some .int), Cond.fieldLink RX12 28 "SeaGatesModel" "sea" "[I", Cond.methodLink RX12 118 yX12_lossBy, Cond.instanceMethod yX12_lossBy, Cond.selects RX12 yX12_lossBy yX12_lossBy, Cond.code yX12_lossBy cX12_lossBy 9 (some .long)]
def wsX12_hour_r2 : List Cond := [Cond.fieldLink RX12 25 "SeaGatesModel" "weight" "[I", Cond.methodLink RX12 107 yX12_after, Cond.instanceMethod yX12_after, Cond.selects RX12 yX12_after yX12_after, Cond.code yX12_after cX12_after 4 (some .int), Cond.fieldLink RX12 7 "SeaGatesModel" "rule" "[I", Cond.methodLink RX12 115 yX12_lostIn, Cond.instanceMethod yX12_lostIn, Cond.selects RX12 yX12_lostIn yX12_lostIn, Cond.code yX12_lostIn cX12_lostIn 7 (some .int), Cond.methodLink RX12 99 yX12_stateIn, Cond.static yX12_stateIn, Cond.code yX12_stateIn cX12_stateIn 2 (some .int), Cond.methodLink RX12 103 yX12_waterIn, Cond.instanceMethod yX12_waterIn, Cond.selects RX12 yX12_waterIn yX12_waterIn, Cond.code yX12_waterIn cX12_waterIn 8 (some .int), Cond.fieldLink RX12 13 "SeaGatesModel" "river" "[I"]
def wsX12_hour : List Cond := .code yX12_hour cX12_hour 6 (some .int) :: ((wsX12_hour_r1 ++ wsX12_hour_r2) ++ wsX120)
def wsX12_shutAt_r1 : List Cond := [Cond.fieldLink RX12 60 "SeaGatesModel" "thrown" "I", Cond.constantLong RX12 91 (8), Cond.constantLong RX12 125 (-1000001), Cond.fieldLink RX12 87 "SeaGatesModel" "worlds" "I", Cond.fieldLink RX12 25 "SeaGatesModel" "weight" "[I", Cond.methodLink RX12 70 yX12_in, Cond.static yX12_in, Cond.initialized RX12, Cond.code yX12_in cX12_in 6 (some .boolean), Cond.methodLink RX12 115 yX12_lostIn, Cond.instanceMethod yX12_lostIn, Cond.selects RX12 yX12_lostIn yX12_lostIn, Cond.code yX12_lostIn cX12_lostIn 7 (some .int), Cond.fieldLink RX12 7 "SeaGatesModel" "rule" "[I", Cond.fieldLink RX12 28 "SeaGatesModel" "sea" "[I", Cond.methodLink RX12 99 yX12_stateIn, Cond.static yX12_stateIn, Cond.code yX12_stateIn cX12_stateIn 2 (some .int), Cond.methodLink RX12 103 yX12_waterIn, Cond.instanceMethod yX12_waterIn, Cond.selects RX12 yX12_waterIn yX12_waterIn, Cond.code yX12_waterIn cX12_waterIn 8 (some .int), Cond.fieldLink RX12 13 "SeaGatesModel" "river" "[I", Cond.methodLink RX12 107 yX12_after]
def wsX12_shutAt_r2 : List Cond := [Cond.instanceMethod yX12_after, Cond.selects RX12 yX12_after yX12_after, Cond.code yX12_after cX12_after 4 (some .int)]
def wsX12_shutAt : List Cond := .code yX12_shutAt cX12_shutAt 7 (some .long) :: ((wsX12_shutAt_r1 ++ wsX12_shutAt_r2) ++ wsX120)
def wsX12_alarm : List Cond := .code yX12_alarm cX12_alarm 3 (some .int) :: ([.fieldLink RX12 60 "SeaGatesModel" "thrown" "I", .fieldLink RX12 87 "SeaGatesModel" "worlds" "I", .fieldLink RX12 28 "SeaGatesModel" "sea" "[I", .fieldLink RX12 7 "SeaGatesModel" "rule" "[I", .constant RX12 127 (-1000000)] ++ wsX120)
def wsX12_groups : List Cond := .code yX12_groups cX12_groups 4 (some .int) :: ([.fieldLink RX12 60 "SeaGatesModel" "thrown" "I", .constantLong RX12 68 (7), .constant RX12 80 (-1000001), .fieldLink RX12 87 "SeaGatesModel" "worlds" "I", .methodLink RX12 70 yX12_in, .static yX12_in, .initialized RX12, .code yX12_in cX12_in 6 (some .boolean), .methodLink RX12 111 yX12_groupOf, .instanceMethod yX12_groupOf, .selects RX12 yX12_groupOf yX12_groupOf, .code yX12_groupOf cX12_groupOf 6 (some .int), .fieldLink RX12 28 "SeaGatesModel" "sea" "[I"] ++ wsX120)
def wsX12_isGate : List Cond := .code yX12_isGate cX12_isGate 2 (some .boolean) :: ([.fieldLink RX12 128 "SeaGatesModel" "gates" "I", .methodLink RX12 70 yX12_in, .static yX12_in, .initialized RX12, .code yX12_in cX12_in 6 (some .boolean)] ++ wsX120)
def wsX12_gate : List Cond := .code yX12_gate cX12_gate 3 (some .int) :: ([.fieldLink RX12 60 "SeaGatesModel" "thrown" "I", .constantLong RX12 131 (500), .constantLong RX12 133 (2000), .constant RX12 80 (-1000001), .fieldLink RX12 128 "SeaGatesModel" "gates" "I", .constant RX12 90 (-1000003), .fieldLink RX12 39 "SeaGatesModel" "minutes" "[I", .fieldLink RX12 42 "SeaGatesModel" "hand" "[I", .methodLink RX12 70 yX12_in, .static yX12_in, .initialized RX12, .code yX12_in cX12_in 6 (some .boolean)] ++ wsX120)
def wsX12_fail : List Cond := .code yX12_fail cX12_fail 3 (some .int) :: ([.fieldLink RX12 60 "SeaGatesModel" "thrown" "I", .constant RX12 80 (-1000001), .fieldLink RX12 45 "SeaGatesModel" "hasFailed" "[Z", .methodLink RX12 135 yX12_isGate, .instanceMethod yX12_isGate, .selects RX12 yX12_isGate yX12_isGate, .initialized RX12, .code yX12_isGate cX12_isGate 2 (some .boolean), .fieldLink RX12 128 "SeaGatesModel" "gates" "I", .methodLink RX12 70 yX12_in, .static yX12_in, .code yX12_in cX12_in 6 (some .boolean)] ++ wsX120)
def wsX12_mend : List Cond := .code yX12_mend cX12_mend 3 (some .int) :: ([.fieldLink RX12 60 "SeaGatesModel" "thrown" "I", .constant RX12 80 (-1000001), .fieldLink RX12 45 "SeaGatesModel" "hasFailed" "[Z", .methodLink RX12 135 yX12_isGate, .instanceMethod yX12_isGate, .selects RX12 yX12_isGate yX12_isGate, .initialized RX12, .code yX12_isGate cX12_isGate 2 (some .boolean), .fieldLink RX12 128 "SeaGatesModel" "gates" "I", .methodLink RX12 70 yX12_in, .static yX12_in, .code yX12_in cX12_in 6 (some .boolean)] ++ wsX120)
def wsX12_timeBy : List Cond := .code yX12_timeBy cX12_timeBy 7 (some .int) :: ([.fieldLink RX12 48 "SeaGatesModel" "crew" "[I", .fieldLink RX12 128 "SeaGatesModel" "gates" "I", .fieldLink RX12 45 "SeaGatesModel" "hasFailed" "[Z", .fieldLink RX12 42 "SeaGatesModel" "hand" "[I", .constant RX12 127 (-1000000), .fieldLink RX12 39 "SeaGatesModel" "minutes" "[I"] ++ wsX120)
def wsX12_time : List Cond := .code yX12_time cX12_time 7 (some .int) :: ([.fieldLink RX12 60 "SeaGatesModel" "thrown" "I", .constantLong RX12 97 (3), .constant RX12 80 (-1000001), .constant RX12 127 (-1000000), .fieldLink RX12 128 "SeaGatesModel" "gates" "I", .fieldLink RX12 45 "SeaGatesModel" "hasFailed" "[Z", .methodLink RX12 70 yX12_in, .static yX12_in, .initialized RX12, .code yX12_in cX12_in 6 (some .boolean), .methodLink RX12 138 yX12_timeBy, .instanceMethod yX12_timeBy, .selects RX12 yX12_timeBy yX12_timeBy, .code yX12_timeBy cX12_timeBy 7 (some .int), .fieldLink RX12 48 "SeaGatesModel" "crew" "[I", .fieldLink RX12 42 "SeaGatesModel" "hand" "[I", .fieldLink RX12 39 "SeaGatesModel" "minutes" "[I"] ++ wsX120)
def wsX12_ship : List Cond := .code yX12_ship cX12_ship 3 (some .int) :: ([.fieldLink RX12 60 "SeaGatesModel" "thrown" "I", .constantLong RX12 141 (100000), .constantLong RX12 131 (500), .constant RX12 80 (-1000001), .fieldLink RX12 143 "SeaGatesModel" "ships" "I", .constant RX12 90 (-1000003), .fieldLink RX12 51 "SeaGatesModel" "comes" "[I", .fieldLink RX12 54 "SeaGatesModel" "takes" "[I", .methodLink RX12 70 yX12_in, .static yX12_in, .initialized RX12, .code yX12_in cX12_in 6 (some .boolean)] ++ wsX120)
def wsX12_waits : List Cond := .code yX12_waits cX12_waits 8 (some .int) :: ([.fieldLink RX12 60 "SeaGatesModel" "thrown" "I", .fieldLink RX12 143 "SeaGatesModel" "ships" "I", .constantLong RX12 141 (100000), .constant RX12 80 (-1000001), .constant RX12 127 (-1000000), .fieldLink RX12 51 "SeaGatesModel" "comes" "[I", .fieldLink RX12 54 "SeaGatesModel" "takes" "[I", .methodLink RX12 70 yX12_in, .static yX12_in, .initialized RX12, .code yX12_in cX12_in 6 (some .boolean)] ++ wsX120)
def wsX12_closingsOf : List Cond := .code yX12_closingsOf cX12_closingsOf 9 (some .int) :: ([.fieldLink RX12 22 "SeaGatesModel" "item" "[I"] ++ wsX120)
def wsX12_closings_r1 : List Cond := [Cond.fieldLink RX12 60 "SeaGatesModel" "thrown" "I", Cond.constantLong RX12 146 (60), Cond.constantLong RX12 148 (300), Cond.constantLong RX12 95 (100), Cond.constant RX12 80 (-1000001), Cond.fieldLink RX12 64 "SeaGatesModel" "status" "I", Cond.fieldLink RX12 16 "SeaGatesModel" "lane" "[I", Cond.fieldLink RX12 19 "SeaGatesModel" "many" "[I", Cond.methodLink RX12 74 yX12_isSheet, Cond.static yX12_isSheet, Cond.initialized RX12, Cond.code yX12_isSheet cX12_isSheet 1 (some .boolean), Cond.constantLong RX12 68 (7), Cond.methodLink RX12 70 yX12_in, Cond.static yX12_in, Cond.code yX12_in cX12_in 6 (some .boolean), Cond.methodLink RX12 81 yX12_found, Cond.instanceMethod yX12_found, Cond.selects RX12 yX12_found yX12_found, Cond.code yX12_found cX12_found 2 (some .int), Cond.constant RX12 67 (-1000010), Cond.methodLink RX12 150 yX12_closingsOf, Cond.instanceMethod yX12_closingsOf, Cond.selects RX12 yX12_closingsOf yX12_closingsOf]
def wsX12_closings_r2 : List Cond := [Cond.code yX12_closingsOf cX12_closingsOf 9 (some .int), Cond.fieldLink RX12 22 "SeaGatesModel" "item" "[I"]
def wsX12_closings : List Cond := .code yX12_closings cX12_closings 7 (some .int) :: ((wsX12_closings_r1 ++ wsX12_closings_r2) ++ wsX120)
def wsX12_tooMany_r1 : List Cond := [Cond.fieldLink RX12 60 "SeaGatesModel" "thrown" "I", Cond.constantLong RX12 146 (60), Cond.constantLong RX12 95 (100), Cond.constant RX12 80 (-1000001), Cond.fieldLink RX12 64 "SeaGatesModel" "status" "I", Cond.fieldLink RX12 16 "SeaGatesModel" "lane" "[I", Cond.fieldLink RX12 19 "SeaGatesModel" "many" "[I", Cond.constant RX12 127 (-1000000), Cond.methodLink RX12 74 yX12_isSheet, Cond.static yX12_isSheet, Cond.initialized RX12, Cond.code yX12_isSheet cX12_isSheet 1 (some .boolean), Cond.constantLong RX12 68 (7), Cond.methodLink RX12 70 yX12_in, Cond.static yX12_in, Cond.code yX12_in cX12_in 6 (some .boolean), Cond.methodLink RX12 81 yX12_found, Cond.instanceMethod yX12_found, Cond.selects RX12 yX12_found yX12_found, Cond.code yX12_found cX12_found 2 (some .int), Cond.constant RX12 67 (-1000010), Cond.methodLink RX12 150 yX12_closingsOf, Cond.instanceMethod yX12_closingsOf, Cond.selects RX12 yX12_closingsOf yX12_closingsOf]
def wsX12_tooMany_r2 : List Cond := [Cond.code yX12_closingsOf cX12_closingsOf 9 (some .int), Cond.fieldLink RX12 22 "SeaGatesModel" "item" "[I"]
def wsX12_tooMany : List Cond := .code yX12_tooMany cX12_tooMany 8 (some .int) :: ((wsX12_tooMany_r1 ++ wsX12_tooMany_r2) ++ wsX120)
def wsX12_kindOf : List Cond := .code yX12_kindOf cX12_kindOf 2 (some .int) :: ([.fieldLink RX12 42 "SeaGatesModel" "hand" "[I", .fieldLink RX12 39 "SeaGatesModel" "minutes" "[I"] ++ wsX120)
def wsX12_kind : List Cond := .code yX12_kind cX12_kind 2 (some .int) :: ([.fieldLink RX12 60 "SeaGatesModel" "thrown" "I", .constant RX12 80 (-1000001), .methodLink RX12 135 yX12_isGate, .instanceMethod yX12_isGate, .selects RX12 yX12_isGate yX12_isGate, .initialized RX12, .code yX12_isGate cX12_isGate 2 (some .boolean), .fieldLink RX12 128 "SeaGatesModel" "gates" "I", .methodLink RX12 70 yX12_in, .static yX12_in, .code yX12_in cX12_in 6 (some .boolean), .methodLink RX12 154 yX12_kindOf, .instanceMethod yX12_kindOf, .selects RX12 yX12_kindOf yX12_kindOf, .code yX12_kindOf cX12_kindOf 2 (some .int), .fieldLink RX12 42 "SeaGatesModel" "hand" "[I", .fieldLink RX12 39 "SeaGatesModel" "minutes" "[I"] ++ wsX120)
def wsX12_as : List Cond := .code yX12_as cX12_as 4 (some .int) :: ([.fieldLink RX12 60 "SeaGatesModel" "thrown" "I", .constantLong RX12 97 (3), .constant RX12 80 (-1000001), .fieldLink RX12 64 "SeaGatesModel" "status" "I", .fieldLink RX12 39 "SeaGatesModel" "minutes" "[I", .methodLink RX12 135 yX12_isGate, .instanceMethod yX12_isGate, .selects RX12 yX12_isGate yX12_isGate, .initialized RX12, .code yX12_isGate cX12_isGate 2 (some .boolean), .fieldLink RX12 128 "SeaGatesModel" "gates" "I", .methodLink RX12 70 yX12_in, .static yX12_in, .code yX12_in cX12_in 6 (some .boolean), .methodLink RX12 154 yX12_kindOf, .instanceMethod yX12_kindOf, .selects RX12 yX12_kindOf yX12_kindOf, .code yX12_kindOf cX12_kindOf 2 (some .int), .fieldLink RX12 42 "SeaGatesModel" "hand" "[I", .methodLink RX12 81 yX12_found, .instanceMethod yX12_found, .selects RX12 yX12_found yX12_found, .code yX12_found cX12_found 2 (some .int), .constant RX12 67 (-1000010)] ++ wsX120)
def wsX12_began : List Cond := .code yX12_began cX12_began 2 none :: ([.fieldLink RX12 157 "SeaGatesModel" "traced" "I", .fieldLink RX12 57 "SeaGatesModel" "trace" "[I"] ++ wsX120)
def wsX12_cost : List Cond := .code yX12_cost cX12_cost 5 (some .int) :: ([.fieldLink RX12 39 "SeaGatesModel" "minutes" "[I", .fieldLink RX12 42 "SeaGatesModel" "hand" "[I", .methodLink RX12 154 yX12_kindOf, .instanceMethod yX12_kindOf, .selects RX12 yX12_kindOf yX12_kindOf, .initialized RX12, .code yX12_kindOf cX12_kindOf 2 (some .int), .methodLink RX12 160 yX12_began, .instanceMethod yX12_began, .selects RX12 yX12_began yX12_began, .code yX12_began cX12_began 2 none, .fieldLink RX12 157 "SeaGatesModel" "traced" "I", .fieldLink RX12 57 "SeaGatesModel" "trace" "[I"] ++ wsX120)
def wsX12_marked : List Cond := .code yX12_marked cX12_marked 5 (some .int) :: ([.fieldLink RX12 45 "SeaGatesModel" "hasFailed" "[Z", .methodLink RX12 154 yX12_kindOf, .instanceMethod yX12_kindOf, .selects RX12 yX12_kindOf yX12_kindOf, .initialized RX12, .code yX12_kindOf cX12_kindOf 2 (some .int), .fieldLink RX12 42 "SeaGatesModel" "hand" "[I", .fieldLink RX12 39 "SeaGatesModel" "minutes" "[I", .methodLink RX12 160 yX12_began, .instanceMethod yX12_began, .selects RX12 yX12_began yX12_began, .code yX12_began cX12_began 2 none, .fieldLink RX12 157 "SeaGatesModel" "traced" "I", .fieldLink RX12 57 "SeaGatesModel" "trace" "[I", .methodLink RX12 164 yX12_cost, .instanceMethod yX12_cost, .selects RX12 yX12_cost yX12_cost, .code yX12_cost cX12_cost 5 (some .int)] ++ wsX120)
def wsX12_ask_r1 : List Cond := [Cond.fieldLink RX12 60 "SeaGatesModel" "thrown" "I", Cond.constant RX12 80 (-1000001), Cond.fieldLink RX12 157 "SeaGatesModel" "traced" "I", Cond.methodLink RX12 135 yX12_isGate, Cond.instanceMethod yX12_isGate, Cond.selects RX12 yX12_isGate yX12_isGate, Cond.initialized RX12, Cond.code yX12_isGate cX12_isGate 2 (some .boolean), Cond.fieldLink RX12 128 "SeaGatesModel" "gates" "I", Cond.methodLink RX12 70 yX12_in, Cond.static yX12_in, Cond.code yX12_in cX12_in 6 (some .boolean), Cond.methodLink RX12 164 yX12_cost, Cond.instanceMethod yX12_cost, Cond.selects RX12 yX12_cost yX12_cost, Cond.code yX12_cost cX12_cost 5 (some .int), Cond.fieldLink RX12 39 "SeaGatesModel" "minutes" "[I", Cond.fieldLink RX12 42 "SeaGatesModel" "hand" "[I", Cond.methodLink RX12 154 yX12_kindOf, Cond.instanceMethod yX12_kindOf, Cond.selects RX12 yX12_kindOf yX12_kindOf, Cond.code yX12_kindOf cX12_kindOf 2 (some .int), Cond.methodLink RX12 160 yX12_began, Cond.instanceMethod yX12_began]
def wsX12_ask_r2 : List Cond := [Cond.selects RX12 yX12_began yX12_began, Cond.code yX12_began cX12_began 2 none, Cond.fieldLink RX12 57 "SeaGatesModel" "trace" "[I", Cond.methodLink RX12 167 yX12_marked, Cond.instanceMethod yX12_marked, Cond.selects RX12 yX12_marked yX12_marked, Cond.code yX12_marked cX12_marked 5 (some .int), Cond.fieldLink RX12 45 "SeaGatesModel" "hasFailed" "[Z"]
def wsX12_ask : List Cond := .code yX12_ask cX12_ask 3 (some .int) :: ((wsX12_ask_r1 ++ wsX12_ask_r2) ++ wsX120)
def wsX12_trace : List Cond := .code yX12_trace cX12_trace 2 (some .int) :: ([.fieldLink RX12 60 "SeaGatesModel" "thrown" "I", .fieldLink RX12 157 "SeaGatesModel" "traced" "I", .fieldLink RX12 57 "SeaGatesModel" "trace" "[I", .constant RX12 127 (-1000000), .methodLink RX12 70 yX12_in, .static yX12_in, .initialized RX12, .code yX12_in cX12_in 6 (some .boolean)] ++ wsX120)
def wsX12_count : List Cond := .code yX12_count cX12_count 4 (some .int) :: ([.fieldLink RX12 60 "SeaGatesModel" "thrown" "I", .fieldLink RX12 16 "SeaGatesModel" "lane" "[I", .fieldLink RX12 87 "SeaGatesModel" "worlds" "I", .fieldLink RX12 25 "SeaGatesModel" "weight" "[I", .fieldLink RX12 128 "SeaGatesModel" "gates" "I", .fieldLink RX12 45 "SeaGatesModel" "hasFailed" "[Z", .fieldLink RX12 143 "SeaGatesModel" "ships" "I", .constant RX12 80 (-1000001)] ++ wsX120)
def wsX12_status : List Cond := .code yX12_status cX12_status 1 (some .int) :: ([.fieldLink RX12 60 "SeaGatesModel" "thrown" "I", .fieldLink RX12 64 "SeaGatesModel" "status" "I"] ++ wsX120)
def wsJ9_max_7cf53 : List Cond := .code yJ9_max_7cf53 cJ9_max_7cf53 2 (some .int) :: ([])
def wsJ9_min_7cf53 : List Cond := .code yJ9_min_7cf53 cJ9_min_7cf53 2 (some .int) :: ([])
def wsL_law_r1 : List Cond := [Cond.classLink RL 7 RX11, Cond.instantiable RX11 8, Cond.initialized RX11, Cond.classLink RL 10 RX12, Cond.instantiable RX12 22, Cond.initialized RX12, Cond.methodLink RL 9 yX11_init, Cond.instanceMethod yX11_init, Cond.code yX11_init cX11_init 1 none, Cond.methodLink RX11 3 objectInit, Cond.instanceMethod objectInit, Cond.code objectInit ⟨#[0xb1]⟩ 1 none, Cond.classLink RX11 9 RX7, Cond.instantiable RX7 3, Cond.initialized RX7, Cond.fieldLink RX11 12 "SeaGates" "sheets" "LSeaGates$Sheets;", Cond.classLink RX11 16 RX6, Cond.instantiable RX6 4, Cond.initialized RX6, Cond.fieldLink RX11 19 "SeaGates" "sea" "LSeaGates$Sea;", Cond.classLink RX11 23 RX0, Cond.instantiable RX0 3, Cond.initialized RX0, Cond.fieldLink RX11 28 "SeaGates" "barrier" "LSeaGates$Barrier;"]
def wsL_law_r2 : List Cond := [Cond.classLink RX11 32 RX4, Cond.instantiable RX4 7, Cond.initialized RX4, Cond.fieldLink RX11 37 "SeaGates" "plan" "LSeaGates$Plan;", Cond.classLink RX11 41 RX5, Cond.instantiable RX5 3, Cond.initialized RX5, Cond.fieldLink RX11 44 "SeaGates" "row" "LSeaGates$Row;", Cond.classLink RX11 48 RX1, Cond.instantiable RX1 4, Cond.initialized RX1, Cond.fieldLink RX11 51 "SeaGates" "fairway" "LSeaGates$Fairway;", Cond.classLink RX11 55 RX9, Cond.instantiable RX9 2, Cond.initialized RX9, Cond.fieldLink RX11 58 "SeaGates" "bodies" "LSeaGates$Trace;", Cond.fieldLink RX11 62 "SeaGates" "finding" "I", Cond.methodLink RX11 11 yX7_init, Cond.instanceMethod yX7_init, Cond.code yX7_init cX7_init 1 none, Cond.methodLink RX7 3 objectInit, Cond.classLink RX7 9 "[[I", Cond.arrayClass .int, Cond.fieldLink RX7 11 "SeaGates$Sheets" "items" "[[I"]
def wsL_law_r3 : List Cond := [Cond.fieldLink RX7 16 "SeaGates$Sheets" "lanes" "[I", Cond.fieldLink RX7 20 "SeaGates$Sheets" "sizes" "[I", Cond.methodLink RX7 23 yJ7_fill_53178, Cond.static yJ7_fill_53178, Cond.initialized RJ7, Cond.code yJ7_fill_53178 cJ7_fill_53178 4 none, Cond.instanceMethod yX6_init, Cond.code yX6_init cX6_init 1 none, Cond.methodLink RX6 3 objectInit, Cond.fieldLink RX6 9 "SeaGates$Sea" "weights" "[I", Cond.classLink RX6 15 "[[I", Cond.fieldLink RX6 17 "SeaGates$Sea" "levels" "[[I", Cond.fieldLink RX6 20 "SeaGates$Sea" "heads" "[[I", Cond.fieldLink RX6 23 "SeaGates$Sea" "size" "I", Cond.methodLink RX11 25 yX0_init, Cond.instanceMethod yX0_init, Cond.code yX0_init cX0_init 2 none, Cond.methodLink RX0 3 objectInit, Cond.fieldLink RX0 9 "SeaGates$Barrier" "rules" "[I", Cond.fieldLink RX0 15 "SeaGates$Barrier" "rivers" "[I", Cond.fieldLink RX0 18 "SeaGates$Barrier" "sea" "LSeaGates$Sea;", Cond.methodLink RX11 34 yX4_init, Cond.instanceMethod yX4_init, Cond.code yX4_init cX4_init 3 none]
def wsL_law_r4 : List Cond := [Cond.methodLink RX4 3 objectInit, Cond.classLink RX4 9 "[[I", Cond.fieldLink RX4 11 "SeaGates$Plan" "orders" "[[I", Cond.classLink RX4 16 "[[J", Cond.arrayClass .long, Cond.fieldLink RX4 18 "SeaGates$Plan" "now" "[[J", Cond.fieldLink RX4 21 "SeaGates$Plan" "then" "[[J", Cond.fieldLink RX4 24 "SeaGates$Plan" "loss" "J", Cond.fieldLink RX4 28 "SeaGates$Plan" "stale" "Z", Cond.fieldLink RX4 32 "SeaGates$Plan" "sea" "LSeaGates$Sea;", Cond.fieldLink RX4 36 "SeaGates$Plan" "barrier" "LSeaGates$Barrier;", Cond.instanceMethod yX5_init, Cond.code yX5_init cX5_init 1 none, Cond.methodLink RX5 3 objectInit, Cond.classLink RX5 9 RX2, Cond.fieldLink RX5 11 "SeaGates$Row" "gates" "[LSeaGates$Gate;", Cond.fieldLink RX5 17 "SeaGates$Row" "free" "[I", Cond.fieldLink RX5 21 "SeaGates$Row" "size" "I", Cond.instanceMethod yX1_init, Cond.code yX1_init cX1_init 1 none, Cond.methodLink RX1 3 objectInit, Cond.fieldLink RX1 9 "SeaGates$Fairway" "minutes" "[I", Cond.fieldLink RX1 15 "SeaGates$Fairway" "passing" "[I", Cond.fieldLink RX1 18 "SeaGates$Fairway" "inTurn" "[I"]
def wsL_law_r5 : List Cond := [Cond.fieldLink RX1 21 "SeaGates$Fairway" "size" "I", Cond.instanceMethod yX9_init, Cond.code yX9_init cX9_init 1 none, Cond.methodLink RX9 3 objectInit, Cond.fieldLink RX9 9 "SeaGates$Trace" "numbers" "[I", Cond.fieldLink RX9 15 "SeaGates$Trace" "length" "I", Cond.methodLink RL 12 yX12_init, Cond.instanceMethod yX12_init, Cond.code yX12_init cX12_init 1 none, Cond.methodLink RX12 1 objectInit, Cond.fieldLink RX12 7 "SeaGatesModel" "rule" "[I", Cond.fieldLink RX12 13 "SeaGatesModel" "river" "[I", Cond.fieldLink RX12 16 "SeaGatesModel" "lane" "[I", Cond.fieldLink RX12 19 "SeaGatesModel" "many" "[I", Cond.fieldLink RX12 22 "SeaGatesModel" "item" "[I", Cond.fieldLink RX12 25 "SeaGatesModel" "weight" "[I", Cond.fieldLink RX12 28 "SeaGatesModel" "sea" "[I", Cond.fieldLink RX12 31 "SeaGatesModel" "least" "[J", Cond.arrayClass .boolean, Cond.fieldLink RX12 35 "SeaGatesModel" "isTold" "[Z", Cond.fieldLink RX12 39 "SeaGatesModel" "minutes" "[I", Cond.fieldLink RX12 42 "SeaGatesModel" "hand" "[I", Cond.fieldLink RX12 45 "SeaGatesModel" "hasFailed" "[Z", Cond.fieldLink RX12 48 "SeaGatesModel" "crew" "[I"]
def wsL_law_r6 : List Cond := [Cond.fieldLink RX12 51 "SeaGatesModel" "comes" "[I", Cond.fieldLink RX12 54 "SeaGatesModel" "takes" "[I", Cond.fieldLink RX12 57 "SeaGatesModel" "trace" "[I", Cond.methodLink RL 13 yX11_sheet, Cond.instanceMethod yX11_sheet, Cond.selects RX11 yX11_sheet yX11_sheet, Cond.code yX11_sheet cX11_sheet 4 (some .int), Cond.constant RX11 70 (-1000001), Cond.methodLink RX11 66 yX11_within, Cond.static yX11_within, Cond.code yX11_within cX11_within 3 (some .boolean), Cond.methodLink RX11 71 yX11_found, Cond.instanceMethod yX11_found, Cond.selects RX11 yX11_found yX11_found, Cond.code yX11_found cX11_found 2 (some .int), Cond.constant RX11 270 (-1000010), Cond.methodLink RX11 75 yX7_lay, Cond.instanceMethod yX7_lay, Cond.selects RX7 yX7_lay yX7_lay, Cond.code yX7_lay cX7_lay 4 none, Cond.methodLink RX11 79 yX11_fine, Cond.instanceMethod yX11_fine, Cond.selects RX11 yX11_fine yX11_fine, Cond.code yX11_fine cX11_fine 2 (some .int)]
def wsL_law_r7 : List Cond := [Cond.methodLink RL 17 yX12_sheet, Cond.instanceMethod yX12_sheet, Cond.selects RX12 yX12_sheet yX12_sheet, Cond.code yX12_sheet cX12_sheet 5 (some .int), Cond.fieldLink RX12 60 "SeaGatesModel" "thrown" "I", Cond.constantLong RX12 78 (2), Cond.constant RX12 80 (-1000001), Cond.fieldLink RX12 64 "SeaGatesModel" "status" "I", Cond.methodLink RX12 74 yX12_isSheet, Cond.static yX12_isSheet, Cond.code yX12_isSheet cX12_isSheet 1 (some .boolean), Cond.constantLong RX12 68 (7), Cond.methodLink RX12 70 yX12_in, Cond.static yX12_in, Cond.code yX12_in cX12_in 6 (some .boolean), Cond.methodLink RX12 81 yX12_found, Cond.instanceMethod yX12_found, Cond.selects RX12 yX12_found yX12_found, Cond.code yX12_found cX12_found 2 (some .int), Cond.constant RX12 67 (-1000010), Cond.methodLink RL 18 yX11_set, Cond.instanceMethod yX11_set, Cond.selects RX11 yX11_set yX11_set, Cond.code yX11_set cX11_set 5 (some .int)]
def wsL_law_r8 : List Cond := [Cond.methodLink RX11 82 yX7_look, Cond.instanceMethod yX7_look, Cond.selects RX7 yX7_look yX7_look, Cond.code yX7_look cX7_look 4 (some .int), Cond.methodLink RX7 29 yX7_isMissing, Cond.instanceMethod yX7_isMissing, Cond.selects RX7 yX7_isMissing yX7_isMissing, Cond.code yX7_isMissing cX7_isMissing 2 (some .boolean), Cond.methodLink RX7 33 yX7_hasPlaces, Cond.instanceMethod yX7_hasPlaces, Cond.selects RX7 yX7_hasPlaces yX7_hasPlaces, Cond.code yX7_hasPlaces cX7_hasPlaces 4 (some .boolean), Cond.methodLink RX11 86 yX7_put, Cond.instanceMethod yX7_put, Cond.selects RX7 yX7_put yX7_put, Cond.code yX7_put cX7_put 4 (some .int), Cond.methodLink RX7 37 yX7_narrowed, Cond.static yX7_narrowed, Cond.code yX7_narrowed cX7_narrowed 2 (some .int), Cond.methodLink RL 21 yX12_set, Cond.instanceMethod yX12_set, Cond.selects RX12 yX12_set yX12_set, Cond.code yX12_set cX12_set 4 (some .int), Cond.methodLink RL 22 yX11_copy]
def wsL_law_r9 : List Cond := [Cond.instanceMethod yX11_copy, Cond.selects RX11 yX11_copy yX11_copy, Cond.code yX11_copy cX11_copy 7 (some .int), Cond.methodLink RX11 89 yX7_lookAtBoth, Cond.instanceMethod yX7_lookAtBoth, Cond.selects RX7 yX7_lookAtBoth yX7_lookAtBoth, Cond.code yX7_lookAtBoth cX7_lookAtBoth 6 (some .int), Cond.methodLink RX11 93 yX7_move, Cond.instanceMethod yX7_move, Cond.selects RX7 yX7_move yX7_move, Cond.code yX7_move cX7_move 6 none, Cond.methodLink RX7 41 arraycopyName, Cond.native arraycopyName, Cond.static arraycopyName, Cond.initialized "java/lang/System", Cond.methodLink RL 26 yX12_copy, Cond.instanceMethod yX12_copy, Cond.selects RX12 yX12_copy yX12_copy, Cond.code yX12_copy cX12_copy 9 (some .int), Cond.methodLink RL 27 yX11_drop, Cond.instanceMethod yX11_drop, Cond.selects RX11 yX11_drop yX11_drop, Cond.code yX11_drop cX11_drop 2 (some .int), Cond.methodLink RX11 97 yX7_isMissing]
def wsL_law_r10 : List Cond := [Cond.methodLink RX11 101 yX7_takeAway, Cond.instanceMethod yX7_takeAway, Cond.selects RX7 yX7_takeAway yX7_takeAway, Cond.code yX7_takeAway cX7_takeAway 3 (some .int), Cond.methodLink RL 31 yX12_drop, Cond.instanceMethod yX12_drop, Cond.selects RX12 yX12_drop yX12_drop, Cond.code yX12_drop cX12_drop 2 (some .int), Cond.methodLink RL 32 yX11_world, Cond.instanceMethod yX11_world, Cond.selects RX11 yX11_world yX11_world, Cond.code yX11_world cX11_world 5 (some .int), Cond.fieldLink RX11 104 "SeaGates$Sea" "size" "I", Cond.constant RX11 107 (-1000003), Cond.fieldLink RX11 112 "SeaGates$Plan" "stale" "Z", Cond.fieldLink RX11 116 "SeaGates$Sheets" "items" "[[I", Cond.methodLink RX11 108 yX7_areWithin, Cond.instanceMethod yX7_areWithin, Cond.selects RX7 yX7_areWithin yX7_areWithin, Cond.code yX7_areWithin cX7_areWithin 6 (some .boolean), Cond.methodLink RX11 120 yX6_add, Cond.instanceMethod yX6_add, Cond.selects RX6 yX6_add yX6_add, Cond.code yX6_add cX6_add 6 (some .int)]
def wsL_law_r11 : List Cond := [Cond.methodLink RX6 27 arraycopyName, Cond.methodLink RX6 33 yX6_headOf, Cond.instanceMethod yX6_headOf, Cond.selects RX6 yX6_headOf yX6_headOf, Cond.code yX6_headOf cX6_headOf 4 (some .int), Cond.methodLink RX6 37 yX6_areAlike, Cond.instanceMethod yX6_areAlike, Cond.selects RX6 yX6_areAlike yX6_areAlike, Cond.code yX6_areAlike cX6_areAlike 5 (some .boolean), Cond.methodLink RL 35 yX12_world, Cond.instanceMethod yX12_world, Cond.selects RX12 yX12_world yX12_world, Cond.code yX12_world cX12_world 5 (some .int), Cond.constantLong RX12 85 (20), Cond.fieldLink RX12 87 "SeaGatesModel" "worlds" "I", Cond.constant RX12 90 (-1000003), Cond.constantLong RX12 91 (8), Cond.constantLong RX12 93 (1000), Cond.methodLink RL 36 yX11_river, Cond.instanceMethod yX11_river, Cond.selects RX11 yX11_river yX11_river, Cond.code yX11_river cX11_river 4 (some .int), Cond.fieldLink RX11 124 "SeaGates$Barrier" "rivers" "[I", Cond.methodLink RL 40 yX12_river]
def wsL_law_r12 : List Cond := [Cond.instanceMethod yX12_river, Cond.selects RX12 yX12_river yX12_river, Cond.code yX12_river cX12_river 4 (some .int), Cond.constantLong RX12 95 (100), Cond.methodLink RL 41 yX11_rule, Cond.instanceMethod yX11_rule, Cond.selects RX11 yX11_rule yX11_rule, Cond.code yX11_rule cX11_rule 4 (some .int), Cond.fieldLink RX11 132 "SeaGates$Barrier" "rules" "[I", Cond.methodLink RX11 128 yX11_mayBeRule, Cond.static yX11_mayBeRule, Cond.code yX11_mayBeRule cX11_mayBeRule 2 (some .boolean), Cond.methodLink RL 44 yX12_rule, Cond.instanceMethod yX12_rule, Cond.selects RX12 yX12_rule yX12_rule, Cond.code yX12_rule cX12_rule 4 (some .int), Cond.constantLong RX12 97 (3), Cond.methodLink RL 45 yX11_best, Cond.instanceMethod yX11_best, Cond.selects RX11 yX11_best yX11_best, Cond.code yX11_best cX11_best 1 (some .long), Cond.fieldLink RX11 138 "SeaGates$Plan" "loss" "J", Cond.methodLink RX11 135 yX4_refresh, Cond.instanceMethod yX4_refresh]
def wsL_law_r13 : List Cond := [Cond.selects RX4 yX4_refresh yX4_refresh, Cond.code yX4_refresh cX4_refresh 2 none, Cond.fieldLink RX4 44 "SeaGates$Sea" "size" "I", Cond.fieldLink RX4 50 "SeaGates$Sea" "heads" "[[I", Cond.methodLink RX4 40 yX4_decideHour, Cond.instanceMethod yX4_decideHour, Cond.selects RX4 yX4_decideHour yX4_decideHour, Cond.code yX4_decideHour cX4_decideHour 3 none, Cond.methodLink RX4 53 arraycopyName, Cond.methodLink RX4 59 yX4_decideGroup, Cond.instanceMethod yX4_decideGroup, Cond.selects RX4 yX4_decideGroup yX4_decideGroup, Cond.code yX4_decideGroup cX4_decideGroup 9 none, Cond.methodLink RX4 63 yX6_weightOfGroup, Cond.instanceMethod yX6_weightOfGroup, Cond.selects RX6 yX6_weightOfGroup yX6_weightOfGroup, Cond.code yX6_weightOfGroup cX6_weightOfGroup 5 (some .int), Cond.methodLink RX4 67 yX4_lossFrom, Cond.instanceMethod yX4_lossFrom, Cond.selects RX4 yX4_lossFrom yX4_lossFrom, Cond.code yX4_lossFrom cX4_lossFrom 10 (some .long), Cond.methodLink RX4 77 yX0_lost, Cond.instanceMethod yX0_lost, Cond.selects RX0 yX0_lost yX0_lost]
def wsL_law_r14 : List Cond := [Cond.code yX0_lost cX0_lost 8 (some .int), Cond.methodLink RX0 46 Lib.Math.max.name, Cond.static Lib.Math.max.name, Cond.initialized "java/lang/Math", Cond.code Lib.Math.max.name Lib.Math.max.code 2 (some .int), Cond.methodLink RX0 38 yX0_stands, Cond.instanceMethod yX0_stands, Cond.selects RX0 yX0_stands yX0_stands, Cond.code yX0_stands cX0_stands 3 (some .int), Cond.methodLink RX0 42 yX0_water, Cond.instanceMethod yX0_water, Cond.selects RX0 yX0_water yX0_water, Cond.code yX0_water cX0_water 7 (some .int), Cond.fieldLink RX0 26 "SeaGates$Sea" "levels" "[[I", Cond.methodLink RX0 32 Lib.Math.min.name, Cond.static Lib.Math.min.name, Cond.code Lib.Math.min.name Lib.Math.min.code 2 (some .int), Cond.methodLink RX4 81 yX0_stands, Cond.methodLink RX4 85 yX0_next, Cond.static yX0_next, Cond.code yX0_next cX0_next 2 (some .int), Cond.methodLink RX0 22 yX0_mayBeTold, Cond.static yX0_mayBeTold, Cond.code yX0_mayBeTold cX0_mayBeTold 1 (some .boolean)]
def wsL_law_r15 : List Cond := [Cond.methodLink RX4 71 yX0_mayBeTold, Cond.methodLink RL 49 yX12_best, Cond.instanceMethod yX12_best, Cond.selects RX12 yX12_best yX12_best, Cond.code yX12_best cX12_best 4 (some .long), Cond.methodLink RX12 122 yX12_findBest, Cond.instanceMethod yX12_findBest, Cond.selects RX12 yX12_findBest yX12_findBest, Cond.code yX12_findBest cX12_findBest 8 none, Cond.methodLink RX12 111 yX12_groupOf, Cond.instanceMethod yX12_groupOf, Cond.selects RX12 yX12_groupOf yX12_groupOf, Cond.code yX12_groupOf cX12_groupOf 6 (some .int), Cond.methodLink RX12 118 yX12_lossBy, Cond.instanceMethod yX12_lossBy, Cond.selects RX12 yX12_lossBy yX12_lossBy, Cond.code yX12_lossBy cX12_lossBy 9 (some .long), Cond.methodLink RX12 107 yX12_after, Cond.instanceMethod yX12_after, Cond.selects RX12 yX12_after yX12_after, Cond.code yX12_after cX12_after 4 (some .int), Cond.methodLink RX12 115 yX12_lostIn, Cond.instanceMethod yX12_lostIn, Cond.selects RX12 yX12_lostIn yX12_lostIn]
def wsL_law_r16 : List Cond := [Cond.code yX12_lostIn cX12_lostIn 7 (some .int), Cond.methodLink RX12 99 yX12_stateIn, Cond.static yX12_stateIn, Cond.code yX12_stateIn cX12_stateIn 2 (some .int), Cond.methodLink RX12 103 yX12_waterIn, Cond.instanceMethod yX12_waterIn, Cond.selects RX12 yX12_waterIn yX12_waterIn, Cond.code yX12_waterIn cX12_waterIn 8 (some .int), Cond.methodLink RL 50 yX11_hour, Cond.instanceMethod yX11_hour, Cond.selects RX11 yX11_hour yX11_hour, Cond.code yX11_hour cX11_hour 6 (some .int), Cond.methodLink RX11 142 yX4_stateAt, Cond.instanceMethod yX4_stateAt, Cond.selects RX4 yX4_stateAt yX4_stateAt, Cond.code yX4_stateAt cX4_stateAt 5 (some .int), Cond.methodLink RX4 88 yX4_tells, Cond.instanceMethod yX4_tells, Cond.selects RX4 yX4_tells yX4_tells, Cond.code yX4_tells cX4_tells 4 (some .boolean), Cond.methodLink RX11 146 yX4_tells, Cond.methodLink RX11 149 yX0_order, Cond.static yX0_order, Cond.code yX0_order cX0_order 2 (some .int)]
def wsL_law_r17 : List Cond := [Cond.methodLink RX11 153 yX0_stands, Cond.methodLink RX11 156 yX0_how, Cond.static yX0_how, Cond.code yX0_how cX0_how 1 (some .int), Cond.methodLink RX11 159 yX0_water, Cond.methodLink RX11 162 yX0_lost, Cond.methodLink RL 53 yX12_hour, Cond.instanceMethod yX12_hour, Cond.selects RX12 yX12_hour yX12_hour, Cond.code yX12_hour cX12_hour 6 (some .int), Cond.methodLink RL 54 yX11_shutAt, Cond.instanceMethod yX11_shutAt, Cond.selects RX11 yX11_shutAt yX11_shutAt, Cond.code yX11_shutAt cX11_shutAt 2 (some .long), Cond.constantLong RX11 170 (-1000001), Cond.methodLink RX11 166 yX0_lossOfOneOrder, Cond.instanceMethod yX0_lossOfOneOrder, Cond.selects RX0 yX0_lossOfOneOrder yX0_lossOfOneOrder, Cond.code yX0_lossOfOneOrder cX0_lossOfOneOrder 8 (some .long), Cond.fieldLink RX0 49 "SeaGates$Sea" "size" "I", Cond.fieldLink RX0 53 "SeaGates$Sea" "weights" "[I", Cond.methodLink RX0 56 yX0_lost, Cond.methodLink RX0 60 yX0_next, Cond.methodLink RL 58 yX12_shutAt]
def wsL_law_r18 : List Cond := [Cond.instanceMethod yX12_shutAt, Cond.selects RX12 yX12_shutAt yX12_shutAt, Cond.code yX12_shutAt cX12_shutAt 7 (some .long), Cond.constantLong RX12 125 (-1000001), Cond.methodLink RL 59 yX11_alarm, Cond.instanceMethod yX11_alarm, Cond.selects RX11 yX11_alarm yX11_alarm, Cond.code yX11_alarm cX11_alarm 3 (some .int), Cond.constant RX11 175 (-1000000), Cond.methodLink RX11 172 yX6_firstAbove, Cond.instanceMethod yX6_firstAbove, Cond.selects RX6 yX6_firstAbove yX6_firstAbove, Cond.code yX6_firstAbove cX6_firstAbove 4 (some .int), Cond.methodLink RL 63 yX12_alarm, Cond.instanceMethod yX12_alarm, Cond.selects RX12 yX12_alarm yX12_alarm, Cond.code yX12_alarm cX12_alarm 3 (some .int), Cond.constant RX12 127 (-1000000), Cond.methodLink RL 64 yX11_groups, Cond.instanceMethod yX11_groups, Cond.selects RX11 yX11_groups yX11_groups, Cond.code yX11_groups cX11_groups 2 (some .int), Cond.methodLink RX11 176 yX6_groupsAt, Cond.instanceMethod yX6_groupsAt]
def wsL_law_r19 : List Cond := [Cond.selects RX6 yX6_groupsAt yX6_groupsAt, Cond.code yX6_groupsAt cX6_groupsAt 4 (some .int), Cond.methodLink RL 67 yX12_groups, Cond.instanceMethod yX12_groups, Cond.selects RX12 yX12_groups yX12_groups, Cond.code yX12_groups cX12_groups 4 (some .int), Cond.methodLink RL 68 yX11_gate, Cond.instanceMethod yX11_gate, Cond.selects RX11 yX11_gate yX11_gate, Cond.code yX11_gate cX11_gate 3 (some .int), Cond.fieldLink RX11 179 "SeaGates$Row" "size" "I", Cond.methodLink RX11 180 yX11_gateOf, Cond.static yX11_gateOf, Cond.code yX11_gateOf cX11_gateOf 2 (some (.object "SeaGates$Gate")), Cond.classLink RX11 187 RX10, Cond.instantiable RX10 3, Cond.initialized RX10, Cond.classLink RX11 192 RX3, Cond.instantiable RX3 3, Cond.initialized RX3, Cond.classLink RX11 195 RX8, Cond.instantiable RX8 3, Cond.initialized RX8, Cond.classLink RX11 200 RX2]
def wsL_law_r20 : List Cond := [Cond.instantiable RX2 3, Cond.initialized RX2, Cond.methodLink RX11 189 yX10_init, Cond.instanceMethod yX10_init, Cond.code yX10_init cX10_init 3 none, Cond.methodLink RX10 3 yX3_init, Cond.instanceMethod yX3_init, Cond.code yX3_init cX3_init 3 none, Cond.methodLink RX3 3 yX2_init, Cond.instanceMethod yX2_init, Cond.code yX2_init cX2_init 3 none, Cond.methodLink RX2 3 objectInit, Cond.fieldLink RX2 9 "SeaGates$Gate" "failed" "Z", Cond.fieldLink RX2 15 "SeaGates$Gate" "minutes" "I", Cond.fieldLink RX2 19 "SeaGates$Gate" "hand" "I", Cond.methodLink RX11 194 yX3_init, Cond.methodLink RX11 197 yX8_init, Cond.instanceMethod yX8_init, Cond.code yX8_init cX8_init 2 none, Cond.methodLink RX8 3 yX2_init, Cond.methodLink RX11 202 yX2_init, Cond.methodLink RX11 184 yX5_add, Cond.instanceMethod yX5_add, Cond.selects RX5 yX5_add yX5_add]
def wsL_law_r21 : List Cond := [Cond.code yX5_add cX5_add 2 (some .int), Cond.methodLink RL 71 yX12_gate, Cond.instanceMethod yX12_gate, Cond.selects RX12 yX12_gate yX12_gate, Cond.code yX12_gate cX12_gate 3 (some .int), Cond.constantLong RX12 131 (500), Cond.constantLong RX12 133 (2000), Cond.fieldLink RX12 128 "SeaGatesModel" "gates" "I", Cond.methodLink RL 72 yX11_fail, Cond.instanceMethod yX11_fail, Cond.selects RX11 yX11_fail yX11_fail, Cond.code yX11_fail cX11_fail 2 (some .int), Cond.methodLink RX11 203 yX11_becomes, Cond.instanceMethod yX11_becomes, Cond.selects RX11 yX11_becomes yX11_becomes, Cond.code yX11_becomes cX11_becomes 5 (some .int), Cond.fieldLink RX11 210 "SeaGates$Gate" "failed" "Z", Cond.methodLink RX11 206 yX5_at, Cond.instanceMethod yX5_at, Cond.selects RX5 yX5_at yX5_at, Cond.code yX5_at cX5_at 2 (some (.object "SeaGates$Gate")), Cond.methodLink RL 75 yX12_fail, Cond.instanceMethod yX12_fail, Cond.selects RX12 yX12_fail yX12_fail]
def wsL_law_r22 : List Cond := [Cond.code yX12_fail cX12_fail 3 (some .int), Cond.methodLink RX12 135 yX12_isGate, Cond.instanceMethod yX12_isGate, Cond.selects RX12 yX12_isGate yX12_isGate, Cond.code yX12_isGate cX12_isGate 2 (some .boolean), Cond.methodLink RL 76 yX11_mend, Cond.instanceMethod yX11_mend, Cond.selects RX11 yX11_mend yX11_mend, Cond.code yX11_mend cX11_mend 2 (some .int), Cond.methodLink RL 79 yX12_mend, Cond.instanceMethod yX12_mend, Cond.selects RX12 yX12_mend yX12_mend, Cond.code yX12_mend cX12_mend 3 (some .int), Cond.methodLink RL 80 yX11_time, Cond.instanceMethod yX11_time, Cond.selects RX11 yX11_time yX11_time, Cond.code yX11_time cX11_time 3 (some .int), Cond.methodLink RX11 213 yX5_timeToShut, Cond.instanceMethod yX5_timeToShut, Cond.selects RX5 yX5_timeToShut yX5_timeToShut, Cond.code yX5_timeToShut cX5_timeToShut 7 (some .int), Cond.fieldLink RX5 39 "SeaGates$Gate" "minutes" "I", Cond.fieldLink RX5 29 "SeaGates$Gate" "failed" "Z", Cond.fieldLink RX5 42 "SeaGates$Gate" "hand" "I"]
def wsL_law_r23 : List Cond := [Cond.constant RX5 45 (-1000000), Cond.methodLink RX5 50 Lib.Math.max.name, Cond.methodLink RX5 33 yJ7_fill_53178, Cond.methodLink RX5 46 yX5_endByHand, Cond.instanceMethod yX5_endByHand, Cond.selects RX5 yX5_endByHand yX5_endByHand, Cond.code yX5_endByHand cX5_endByHand 5 (some .int), Cond.methodLink RX11 216 yX5_worstTime, Cond.instanceMethod yX5_worstTime, Cond.selects RX5 yX5_worstTime yX5_worstTime, Cond.code yX5_worstTime cX5_worstTime 6 (some .int), Cond.methodLink RX5 55 yX5_failedOnes, Cond.instanceMethod yX5_failedOnes, Cond.selects RX5 yX5_failedOnes yX5_failedOnes, Cond.code yX5_failedOnes cX5_failedOnes 6 (some .int), Cond.methodLink RX5 59 yX5_timeToShut, Cond.methodLink RL 83 yX12_time, Cond.instanceMethod yX12_time, Cond.selects RX12 yX12_time yX12_time, Cond.code yX12_time cX12_time 7 (some .int), Cond.methodLink RX12 138 yX12_timeBy, Cond.instanceMethod yX12_timeBy, Cond.selects RX12 yX12_timeBy yX12_timeBy, Cond.code yX12_timeBy cX12_timeBy 7 (some .int)]
def wsL_law_r24 : List Cond := [Cond.methodLink RL 84 yX11_ship, Cond.instanceMethod yX11_ship, Cond.selects RX11 yX11_ship yX11_ship, Cond.code yX11_ship cX11_ship 3 (some .int), Cond.constant RX11 219 (100000), Cond.fieldLink RX11 220 "SeaGates$Fairway" "size" "I", Cond.methodLink RX11 221 yX1_add, Cond.instanceMethod yX1_add, Cond.selects RX1 yX1_add yX1_add, Cond.code yX1_add cX1_add 5 (some .int), Cond.methodLink RL 87 yX12_ship, Cond.instanceMethod yX12_ship, Cond.selects RX12 yX12_ship yX12_ship, Cond.code yX12_ship cX12_ship 3 (some .int), Cond.constantLong RX12 141 (100000), Cond.fieldLink RX12 143 "SeaGatesModel" "ships" "I", Cond.methodLink RL 88 yX11_waits, Cond.instanceMethod yX11_waits, Cond.selects RX11 yX11_waits yX11_waits, Cond.code yX11_waits cX11_waits 4 (some .int), Cond.methodLink RX11 223 yX1_waitOf, Cond.instanceMethod yX1_waitOf, Cond.selects RX1 yX1_waitOf yX1_waitOf, Cond.code yX1_waitOf cX1_waitOf 9 (some .int)]
def wsL_law_r25 : List Cond := [Cond.methodLink RX1 25 Lib.Math.max.name, Cond.methodLink RL 91 yX12_waits, Cond.instanceMethod yX12_waits, Cond.selects RX12 yX12_waits yX12_waits, Cond.code yX12_waits cX12_waits 8 (some .int), Cond.methodLink RL 92 yX11_closings, Cond.instanceMethod yX11_closings, Cond.selects RX11 yX11_closings yX11_closings, Cond.code yX11_closings cX11_closings 8 (some .int), Cond.methodLink RX11 226 yX11_arePeaks, Cond.static yX11_arePeaks, Cond.code yX11_arePeaks cX11_arePeaks 3 (some .boolean), Cond.methodLink RX11 229 yX11_levelIn, Cond.static yX11_levelIn, Cond.code yX11_levelIn cX11_levelIn 3 (some .long), Cond.methodLink RX11 233 yX7_above, Cond.instanceMethod yX7_above, Cond.selects RX7 yX7_above yX7_above, Cond.code yX7_above cX7_above 8 (some .int), Cond.methodLink RL 96 yX12_closings, Cond.instanceMethod yX12_closings, Cond.selects RX12 yX12_closings yX12_closings, Cond.code yX12_closings cX12_closings 7 (some .int), Cond.constantLong RX12 146 (60)]
def wsL_law_r26 : List Cond := [Cond.constantLong RX12 148 (300), Cond.methodLink RX12 150 yX12_closingsOf, Cond.instanceMethod yX12_closingsOf, Cond.selects RX12 yX12_closingsOf yX12_closingsOf, Cond.code yX12_closingsOf cX12_closingsOf 9 (some .int), Cond.methodLink RL 97 yX11_tooMany, Cond.instanceMethod yX11_tooMany, Cond.selects RX11 yX11_tooMany yX11_tooMany, Cond.code yX11_tooMany cX11_tooMany 12 (some .int), Cond.methodLink RL 100 yX12_tooMany, Cond.instanceMethod yX12_tooMany, Cond.selects RX12 yX12_tooMany yX12_tooMany, Cond.code yX12_tooMany cX12_tooMany 8 (some .int), Cond.methodLink RL 101 yX11_kind, Cond.instanceMethod yX11_kind, Cond.selects RX11 yX11_kind yX11_kind, Cond.code yX11_kind cX11_kind 3 (some .int), Cond.methodLink RX11 237 yX2_toldAs, Cond.instanceMethod yX2_toldAs, Cond.selects RX2 yX2_toldAs yX2_toldAs, Cond.code yX2_toldAs cX2_toldAs 1 (some .int), Cond.methodLink RX11 237 ⟨"SeaGates$Gate", "toldAs", "()I"⟩, Cond.sameMethod "SeaGates$Gate" "SeaGates$Gate" "toldAs" "()I", Cond.instanceMethod ⟨"SeaGates$Gate", "toldAs", "()I"⟩]
def wsL_law_r27 : List Cond := [Cond.selects RX3 ⟨"SeaGates$Gate", "toldAs", "()I"⟩ yX3_toldAs, Cond.instanceMethod yX3_toldAs, Cond.code yX3_toldAs cX3_toldAs 1 (some .int), Cond.selects RX8 ⟨"SeaGates$Gate", "toldAs", "()I"⟩ yX8_toldAs, Cond.instanceMethod yX8_toldAs, Cond.code yX8_toldAs cX8_toldAs 1 (some .int), Cond.selects RX10 ⟨"SeaGates$Gate", "toldAs", "()I"⟩ yX10_toldAs, Cond.instanceMethod yX10_toldAs, Cond.code yX10_toldAs cX10_toldAs 1 (some .int), Cond.methodLink RL 104 yX12_kind, Cond.instanceMethod yX12_kind, Cond.selects RX12 yX12_kind yX12_kind, Cond.code yX12_kind cX12_kind 2 (some .int), Cond.methodLink RX12 154 yX12_kindOf, Cond.instanceMethod yX12_kindOf, Cond.selects RX12 yX12_kindOf yX12_kindOf, Cond.code yX12_kindOf cX12_kindOf 2 (some .int), Cond.methodLink RL 105 yX11_as, Cond.instanceMethod yX11_as, Cond.selects RX11 yX11_as yX11_as, Cond.code yX11_as cX11_as 4 (some .int), Cond.fieldLink RX11 245 "SeaGates$Gate" "minutes" "I", Cond.methodLink RX11 241 yX11_isOf, Cond.static yX11_isOf]
def wsL_law_r28 : List Cond := [Cond.code yX11_isOf cX11_isOf 2 (some .boolean), Cond.classLink RX11 192 "SeaGates$Handed", Cond.classLink RX11 187 "SeaGates$Twin", Cond.classLink RX11 195 "SeaGates$Slow", Cond.methodLink RL 108 yX12_as, Cond.instanceMethod yX12_as, Cond.selects RX12 yX12_as yX12_as, Cond.code yX12_as cX12_as 4 (some .int), Cond.methodLink RL 109 yX11_ask, Cond.instanceMethod yX11_ask, Cond.selects RX11 yX11_ask yX11_ask, Cond.code yX11_ask cX11_ask 4 (some .int), Cond.fieldLink RX11 248 "SeaGates$Trace" "length" "I", Cond.methodLink RX11 251 yX2_cost, Cond.instanceMethod yX2_cost, Cond.selects RX2 yX2_cost yX2_cost, Cond.code yX2_cost cX2_cost 2 (some .int), Cond.methodLink RX2 22 yX9_leave, Cond.instanceMethod yX9_leave, Cond.selects RX9 yX9_leave yX9_leave, Cond.code yX9_leave cX9_leave 2 none, Cond.methodLink RX11 251 ⟨"SeaGates$Gate", "cost", "(LSeaGates$Trace;)I"⟩, Cond.sameMethod "SeaGates$Gate" "SeaGates$Gate" "cost" "(LSeaGates$Trace;)I", Cond.instanceMethod ⟨"SeaGates$Gate", "cost", "(LSeaGates$Trace;)I"⟩]
def wsL_law_r29 : List Cond := [Cond.selects RX3 ⟨"SeaGates$Gate", "cost", "(LSeaGates$Trace;)I"⟩ yX3_cost, Cond.instanceMethod yX3_cost, Cond.code yX3_cost cX3_cost 2 (some .int), Cond.fieldLink RX3 19 "SeaGates$Handed" "hand" "I", Cond.sameField "SeaGates$Handed" "SeaGates$Gate" "hand" "I", Cond.methodLink RX3 9 yX9_leave, Cond.methodLink RX3 15 yX2_cost, Cond.superclass RX3 RX2, Cond.selects RX8 ⟨"SeaGates$Gate", "cost", "(LSeaGates$Trace;)I"⟩ yX8_cost, Cond.instanceMethod yX8_cost, Cond.code yX8_cost cX8_cost 2 (some .int), Cond.methodLink RX8 9 yX9_leave, Cond.methodLink RX8 15 yX2_cost, Cond.superclass RX8 RX2, Cond.selects RX10 ⟨"SeaGates$Gate", "cost", "(LSeaGates$Trace;)I"⟩ yX10_cost, Cond.instanceMethod yX10_cost, Cond.code yX10_cost cX10_cost 2 (some .int), Cond.methodLink RX10 9 yX9_leave, Cond.methodLink RX10 15 yX3_cost, Cond.sameMethod "SeaGates$Handed" "SeaGates$Handed" "cost" "(LSeaGates$Trace;)I", Cond.superclass RX10 RX3, Cond.methodLink RX11 255 yX2_mark, Cond.instanceMethod yX2_mark, Cond.selects RX2 yX2_mark yX2_mark]
def wsL_law_r30 : List Cond := [Cond.code yX2_mark cX2_mark 2 (some .int), Cond.methodLink RX11 255 ⟨"SeaGates$Gate", "mark", "(LSeaGates$Trace;)I"⟩, Cond.sameMethod "SeaGates$Gate" "SeaGates$Gate" "mark" "(LSeaGates$Trace;)I", Cond.instanceMethod ⟨"SeaGates$Gate", "mark", "(LSeaGates$Trace;)I"⟩, Cond.selects RX3 ⟨"SeaGates$Gate", "mark", "(LSeaGates$Trace;)I"⟩ yX3_mark, Cond.instanceMethod yX3_mark, Cond.code yX3_mark cX3_mark 2 (some .int), Cond.methodLink RX3 25 yX2_mark, Cond.methodLink RX3 28 yX3_cost, Cond.selects RX3 yX3_cost yX3_cost, Cond.methodLink RX3 28 ⟨"SeaGates$Handed", "cost", "(LSeaGates$Trace;)I"⟩, Cond.instanceMethod ⟨"SeaGates$Handed", "cost", "(LSeaGates$Trace;)I"⟩, Cond.selects RX10 ⟨"SeaGates$Handed", "cost", "(LSeaGates$Trace;)I"⟩ yX10_cost, Cond.selects RX8 ⟨"SeaGates$Gate", "mark", "(LSeaGates$Trace;)I"⟩ yX8_mark, Cond.instanceMethod yX8_mark, Cond.code yX8_mark cX8_mark 2 (some .int), Cond.methodLink RX8 19 yX2_mark, Cond.methodLink RX8 22 yX8_cost, Cond.selects RX8 yX8_cost yX8_cost, Cond.selects RX10 ⟨"SeaGates$Gate", "mark", "(LSeaGates$Trace;)I"⟩ yX3_mark, Cond.methodLink RL 112 yX12_ask, Cond.instanceMethod yX12_ask, Cond.selects RX12 yX12_ask yX12_ask, Cond.code yX12_ask cX12_ask 3 (some .int)]
def wsL_law_r31 : List Cond := [Cond.fieldLink RX12 157 "SeaGatesModel" "traced" "I", Cond.methodLink RX12 164 yX12_cost, Cond.instanceMethod yX12_cost, Cond.selects RX12 yX12_cost yX12_cost, Cond.code yX12_cost cX12_cost 5 (some .int), Cond.methodLink RX12 160 yX12_began, Cond.instanceMethod yX12_began, Cond.selects RX12 yX12_began yX12_began, Cond.code yX12_began cX12_began 2 none, Cond.methodLink RX12 167 yX12_marked, Cond.instanceMethod yX12_marked, Cond.selects RX12 yX12_marked yX12_marked, Cond.code yX12_marked cX12_marked 5 (some .int), Cond.methodLink RL 113 yX11_trace, Cond.instanceMethod yX11_trace, Cond.selects RX11 yX11_trace yX11_trace, Cond.code yX11_trace cX11_trace 2 (some .int), Cond.fieldLink RX11 258 "SeaGates$Trace" "numbers" "[I", Cond.methodLink RL 116 yX12_trace, Cond.instanceMethod yX12_trace, Cond.selects RX12 yX12_trace yX12_trace, Cond.code yX12_trace cX12_trace 2 (some .int), Cond.methodLink RL 117 yX11_count, Cond.instanceMethod yX11_count]
def wsL_law_r32 : List Cond := [Cond.selects RX11 yX11_count yX11_count, Cond.code yX11_count cX11_count 2 (some .int), Cond.methodLink RX11 261 yX7_present, Cond.instanceMethod yX7_present, Cond.selects RX7 yX7_present yX7_present, Cond.code yX7_present cX7_present 3 (some .int), Cond.methodLink RX11 264 yX6_allWeights, Cond.instanceMethod yX6_allWeights, Cond.selects RX6 yX6_allWeights yX6_allWeights, Cond.code yX6_allWeights cX6_allWeights 3 (some .int), Cond.methodLink RX11 267 yX5_failedOnes, Cond.methodLink RL 120 yX12_count, Cond.instanceMethod yX12_count, Cond.selects RX12 yX12_count yX12_count, Cond.code yX12_count cX12_count 4 (some .int), Cond.methodLink RL 121 yX11_status, Cond.instanceMethod yX11_status, Cond.selects RX11 yX11_status yX11_status, Cond.code yX11_status cX11_status 1 (some .int), Cond.methodLink RL 124 yX12_status, Cond.instanceMethod yX12_status, Cond.selects RX12 yX12_status yX12_status, Cond.code yX12_status cX12_status 1 (some .int)]
def wsL_law : List Cond := (wsL_law_r1 ++ (wsL_law_r2 ++ (wsL_law_r3 ++ (wsL_law_r4 ++ (wsL_law_r5 ++ (wsL_law_r6 ++ (wsL_law_r7 ++ (wsL_law_r8 ++ (wsL_law_r9 ++ (wsL_law_r10 ++ (wsL_law_r11 ++ (wsL_law_r12 ++ (wsL_law_r13 ++ (wsL_law_r14 ++ (wsL_law_r15 ++ (wsL_law_r16 ++ (wsL_law_r17 ++ (wsL_law_r18 ++ (wsL_law_r19 ++ (wsL_law_r20 ++ (wsL_law_r21 ++ (wsL_law_r22 ++ (wsL_law_r23 ++ (wsL_law_r24 ++ (wsL_law_r25 ++ (wsL_law_r26 ++ (wsL_law_r27 ++ (wsL_law_r28 ++ (wsL_law_r29 ++ (wsL_law_r30 ++ (wsL_law_r31 ++ wsL_law_r32))))))))))))))))))))))))))))))) ++ wsX110 ++ wsX120 ++ wsX70 ++ wsX60 ++ wsX00 ++ wsX40 ++ wsX50 ++ wsX10 ++ wsX90 ++ wsX100 ++ wsX30 ++ wsX80 ++ wsX20 ++ ([] : List Cond)
set_option maxRecDepth 20000 in
theorem wsL_law_in : ∀ w ∈ wsL_law, w ∈ lw_tbl := fun w h => (goodIn_p wsL_law [45, 48, 53, 59, 76, 102, 120, 154, 173, 193, 667, 232, 235, 240, 245, 249, 740, 743, 747, 753, 253, 257, 261, 265, 269, 272, 758, 276, 280, 284, 762, 291, 296, 766, 300, 305, 310, 315, 319, 770, 323, 778, 327, 330, 783, 334, 338, 342, 347, 351, 355, 359, 373, 363, 367, 370, 377, 380, 788, 792, 796, 800, 804, 808, 811, 815, 385, 389, 393, 397, 401, 819, 407, 411, 823, 418, 422, 828, 427, 431, 833, 435, 438, 443, 446, 449, 479, 495, 837, 499, 503, 507, 843, 847, 512, 851, 516, 520, 526, 531, 535, 855, 859, 540, 545, 863, 549, 553, 868, 558, 561, 564, 568, 872, 878, 572, 882, 576, 590, 583, 586, 589, 886, 890, 594, 597, 894, 601, 624, 612, 608, 616, 621, 641, 632, 637, 898, 902, 906, 910, 645, 914, 649, 653, 657, 918, 662, 922] (by decide +kernel) (by decide +kernel) w h).1
theorem inlX0 : ∀ w ∈ wsX00, w ∈ wsL_law := fun _ h => List.mem_append_left _ (List.mem_append_left _ (List.mem_append_left _ (List.mem_append_left _ (List.mem_append_left _ (List.mem_append_left _ (List.mem_append_left _ (List.mem_append_left _ (List.mem_append_left _ (List.mem_append_right _ h)))))))))
theorem inX0 : ∀ w ∈ wsX00, w ∈ lw_tbl := fun w h => wsL_law_in w (inlX0 w h)
theorem inlX1 : ∀ w ∈ wsX10, w ∈ wsL_law := fun _ h => List.mem_append_left _ (List.mem_append_left _ (List.mem_append_left _ (List.mem_append_left _ (List.mem_append_left _ (List.mem_append_left _ (List.mem_append_right _ h))))))
theorem inX1 : ∀ w ∈ wsX10, w ∈ lw_tbl := fun w h => wsL_law_in w (inlX1 w h)
theorem inlX2 : ∀ w ∈ wsX20, w ∈ wsL_law := fun _ h => List.mem_append_left _ (List.mem_append_right _ h)
theorem inX2 : ∀ w ∈ wsX20, w ∈ lw_tbl := fun w h => wsL_law_in w (inlX2 w h)
theorem inlX3 : ∀ w ∈ wsX30, w ∈ wsL_law := fun _ h => List.mem_append_left _ (List.mem_append_left _ (List.mem_append_left _ (List.mem_append_right _ h)))
theorem inX3 : ∀ w ∈ wsX30, w ∈ lw_tbl := fun w h => wsL_law_in w (inlX3 w h)
theorem inlX4 : ∀ w ∈ wsX40, w ∈ wsL_law := fun _ h => List.mem_append_left _ (List.mem_append_left _ (List.mem_append_left _ (List.mem_append_left _ (List.mem_append_left _ (List.mem_append_left _ (List.mem_append_left _ (List.mem_append_left _ (List.mem_append_right _ h))))))))
theorem inX4 : ∀ w ∈ wsX40, w ∈ lw_tbl := fun w h => wsL_law_in w (inlX4 w h)
theorem inlX5 : ∀ w ∈ wsX50, w ∈ wsL_law := fun _ h => List.mem_append_left _ (List.mem_append_left _ (List.mem_append_left _ (List.mem_append_left _ (List.mem_append_left _ (List.mem_append_left _ (List.mem_append_left _ (List.mem_append_right _ h)))))))
theorem inX5 : ∀ w ∈ wsX50, w ∈ lw_tbl := fun w h => wsL_law_in w (inlX5 w h)
theorem inlX6 : ∀ w ∈ wsX60, w ∈ wsL_law := fun _ h => List.mem_append_left _ (List.mem_append_left _ (List.mem_append_left _ (List.mem_append_left _ (List.mem_append_left _ (List.mem_append_left _ (List.mem_append_left _ (List.mem_append_left _ (List.mem_append_left _ (List.mem_append_left _ (List.mem_append_right _ h))))))))))
theorem inX6 : ∀ w ∈ wsX60, w ∈ lw_tbl := fun w h => wsL_law_in w (inlX6 w h)
theorem inlX7 : ∀ w ∈ wsX70, w ∈ wsL_law := fun _ h => List.mem_append_left _ (List.mem_append_left _ (List.mem_append_left _ (List.mem_append_left _ (List.mem_append_left _ (List.mem_append_left _ (List.mem_append_left _ (List.mem_append_left _ (List.mem_append_left _ (List.mem_append_left _ (List.mem_append_left _ (List.mem_append_right _ h)))))))))))
theorem inX7 : ∀ w ∈ wsX70, w ∈ lw_tbl := fun w h => wsL_law_in w (inlX7 w h)
theorem inlX8 : ∀ w ∈ wsX80, w ∈ wsL_law := fun _ h => List.mem_append_left _ (List.mem_append_left _ (List.mem_append_right _ h))
theorem inX8 : ∀ w ∈ wsX80, w ∈ lw_tbl := fun w h => wsL_law_in w (inlX8 w h)
theorem inlX9 : ∀ w ∈ wsX90, w ∈ wsL_law := fun _ h => List.mem_append_left _ (List.mem_append_left _ (List.mem_append_left _ (List.mem_append_left _ (List.mem_append_left _ (List.mem_append_right _ h)))))
theorem inX9 : ∀ w ∈ wsX90, w ∈ lw_tbl := fun w h => wsL_law_in w (inlX9 w h)
theorem inlX10 : ∀ w ∈ wsX100, w ∈ wsL_law := fun _ h => List.mem_append_left _ (List.mem_append_left _ (List.mem_append_left _ (List.mem_append_left _ (List.mem_append_right _ h))))
theorem inX10 : ∀ w ∈ wsX100, w ∈ lw_tbl := fun w h => wsL_law_in w (inlX10 w h)
theorem inlX11 : ∀ w ∈ wsX110, w ∈ wsL_law := fun _ h => List.mem_append_left _ (List.mem_append_left _ (List.mem_append_left _ (List.mem_append_left _ (List.mem_append_left _ (List.mem_append_left _ (List.mem_append_left _ (List.mem_append_left _ (List.mem_append_left _ (List.mem_append_left _ (List.mem_append_left _ (List.mem_append_left _ (List.mem_append_left _ (List.mem_append_right _ h)))))))))))))
theorem inX11 : ∀ w ∈ wsX110, w ∈ lw_tbl := fun w h => wsL_law_in w (inlX11 w h)
theorem inlX12 : ∀ w ∈ wsX120, w ∈ wsL_law := fun _ h => List.mem_append_left _ (List.mem_append_left _ (List.mem_append_left _ (List.mem_append_left _ (List.mem_append_left _ (List.mem_append_left _ (List.mem_append_left _ (List.mem_append_left _ (List.mem_append_left _ (List.mem_append_left _ (List.mem_append_left _ (List.mem_append_left _ (List.mem_append_right _ h))))))))))))
theorem inX12 : ∀ w ∈ wsX120, w ∈ lw_tbl := fun w h => wsL_law_in w (inlX12 w h)
theorem inJ9 : ∀ w ∈ wsJ90, w ∈ lw_tbl := by decide +kernel
theorem inJ10 : ∀ w ∈ wsJ100, w ∈ lw_tbl := by decide +kernel
theorem inJ7 : ∀ w ∈ wsJ70, w ∈ lw_tbl := by decide +kernel
abbrev vwCl : List vw_C := [(RX0, TX0, 3), (RX1, TX1, 4), (RX2, TX2, 3), (RX3, TX3, 3), (RX4, TX4, 7), (RX5, TX5, 3), (RX6, TX6, 4), (RX7, TX7, 3), (RX8, TX8, 3), (RX9, TX9, 2), (RX10, TX10, 3), (RX11, TX11, 8), (RX12, TX12, 22)]
end
section
theorem dX0_init_0 : decode cX0_init 0 = .ok (.aload_n 0, 1) := by decide +kernel
theorem dX0_init_1 : decode cX0_init 1 = .ok (.invokespecial 3, 3) := by decide +kernel
theorem dX0_init_4 : decode cX0_init 4 = .ok (.aload_n 0, 1) := by decide +kernel
theorem dX0_init_5 : decode cX0_init 5 = .ok (.bipush 8, 2) := by decide +kernel
theorem dX0_init_7 : decode cX0_init 7 = .ok (.newarray .int, 2) := by decide +kernel
theorem dX0_init_9 : decode cX0_init 9 = .ok (.dup, 1) := by decide +kernel
theorem dX0_init_10 : decode cX0_init 10 = .ok (.iconst 0, 1) := by decide +kernel
theorem dX0_init_11 : decode cX0_init 11 = .ok (.iconst 1, 1) := by decide +kernel
theorem dX0_init_12 : decode cX0_init 12 = .ok (.iastore, 1) := by decide +kernel
theorem dX0_init_13 : decode cX0_init 13 = .ok (.dup, 1) := by decide +kernel
theorem dX0_init_14 : decode cX0_init 14 = .ok (.iconst 1, 1) := by decide +kernel
theorem dX0_init_15 : decode cX0_init 15 = .ok (.iconst 1, 1) := by decide +kernel
theorem dX0_init_16 : decode cX0_init 16 = .ok (.iastore, 1) := by decide +kernel
theorem dX0_init_17 : decode cX0_init 17 = .ok (.dup, 1) := by decide +kernel
theorem dX0_init_18 : decode cX0_init 18 = .ok (.iconst 2, 1) := by decide +kernel
theorem dX0_init_19 : decode cX0_init 19 = .ok (.sipush 300, 3) := by decide +kernel
theorem dX0_init_22 : decode cX0_init 22 = .ok (.iastore, 1) := by decide +kernel
theorem dX0_init_23 : decode cX0_init 23 = .ok (.dup, 1) := by decide +kernel
theorem dX0_init_24 : decode cX0_init 24 = .ok (.iconst 3, 1) := by decide +kernel
theorem dX0_init_25 : decode cX0_init 25 = .ok (.sipush 200, 3) := by decide +kernel
theorem dX0_init_28 : decode cX0_init 28 = .ok (.iastore, 1) := by decide +kernel
theorem dX0_init_29 : decode cX0_init 29 = .ok (.dup, 1) := by decide +kernel
theorem dX0_init_30 : decode cX0_init 30 = .ok (.iconst 4, 1) := by decide +kernel
theorem dX0_init_31 : decode cX0_init 31 = .ok (.bipush 50, 2) := by decide +kernel
theorem dX0_init_33 : decode cX0_init 33 = .ok (.iastore, 1) := by decide +kernel
theorem dX0_init_34 : decode cX0_init 34 = .ok (.dup, 1) := by decide +kernel
theorem dX0_init_35 : decode cX0_init 35 = .ok (.iconst 5, 1) := by decide +kernel
theorem dX0_init_36 : decode cX0_init 36 = .ok (.iconst 5, 1) := by decide +kernel
theorem dX0_init_37 : decode cX0_init 37 = .ok (.iastore, 1) := by decide +kernel
theorem dX0_init_38 : decode cX0_init 38 = .ok (.dup, 1) := by decide +kernel
theorem dX0_init_39 : decode cX0_init 39 = .ok (.bipush 6, 2) := by decide +kernel
theorem dX0_init_41 : decode cX0_init 41 = .ok (.bipush 10, 2) := by decide +kernel
theorem dX0_init_43 : decode cX0_init 43 = .ok (.iastore, 1) := by decide +kernel
theorem dX0_init_44 : decode cX0_init 44 = .ok (.dup, 1) := by decide +kernel
theorem dX0_init_45 : decode cX0_init 45 = .ok (.bipush 7, 2) := by decide +kernel
theorem dX0_init_47 : decode cX0_init 47 = .ok (.iconst 3, 1) := by decide +kernel
theorem dX0_init_48 : decode cX0_init 48 = .ok (.iastore, 1) := by decide +kernel
theorem dX0_init_49 : decode cX0_init 49 = .ok (.putfield 9, 3) := by decide +kernel
theorem dX0_init_52 : decode cX0_init 52 = .ok (.aload_n 0, 1) := by decide +kernel
theorem dX0_init_53 : decode cX0_init 53 = .ok (.bipush 8, 2) := by decide +kernel
theorem dX0_init_55 : decode cX0_init 55 = .ok (.newarray .int, 2) := by decide +kernel
theorem dX0_init_57 : decode cX0_init 57 = .ok (.dup, 1) := by decide +kernel
theorem dX0_init_58 : decode cX0_init 58 = .ok (.iconst 0, 1) := by decide +kernel
theorem dX0_init_59 : decode cX0_init 59 = .ok (.bipush 10, 2) := by decide +kernel
theorem dX0_init_61 : decode cX0_init 61 = .ok (.iastore, 1) := by decide +kernel
theorem dX0_init_62 : decode cX0_init 62 = .ok (.dup, 1) := by decide +kernel
theorem dX0_init_63 : decode cX0_init 63 = .ok (.iconst 1, 1) := by decide +kernel
theorem dX0_init_64 : decode cX0_init 64 = .ok (.bipush 10, 2) := by decide +kernel
theorem dX0_init_66 : decode cX0_init 66 = .ok (.iastore, 1) := by decide +kernel
theorem dX0_init_67 : decode cX0_init 67 = .ok (.dup, 1) := by decide +kernel
theorem dX0_init_68 : decode cX0_init 68 = .ok (.iconst 2, 1) := by decide +kernel
theorem dX0_init_69 : decode cX0_init 69 = .ok (.bipush 10, 2) := by decide +kernel
theorem dX0_init_71 : decode cX0_init 71 = .ok (.iastore, 1) := by decide +kernel
theorem dX0_init_72 : decode cX0_init 72 = .ok (.dup, 1) := by decide +kernel
theorem dX0_init_73 : decode cX0_init 73 = .ok (.iconst 3, 1) := by decide +kernel
theorem dX0_init_74 : decode cX0_init 74 = .ok (.bipush 10, 2) := by decide +kernel
theorem dX0_init_76 : decode cX0_init 76 = .ok (.iastore, 1) := by decide +kernel
theorem dX0_init_77 : decode cX0_init 77 = .ok (.dup, 1) := by decide +kernel
theorem dX0_init_78 : decode cX0_init 78 = .ok (.iconst 4, 1) := by decide +kernel
theorem dX0_init_79 : decode cX0_init 79 = .ok (.bipush 10, 2) := by decide +kernel
theorem dX0_init_81 : decode cX0_init 81 = .ok (.iastore, 1) := by decide +kernel
theorem dX0_init_82 : decode cX0_init 82 = .ok (.dup, 1) := by decide +kernel
theorem dX0_init_83 : decode cX0_init 83 = .ok (.iconst 5, 1) := by decide +kernel
theorem dX0_init_84 : decode cX0_init 84 = .ok (.bipush 10, 2) := by decide +kernel
theorem dX0_init_86 : decode cX0_init 86 = .ok (.iastore, 1) := by decide +kernel
theorem dX0_init_87 : decode cX0_init 87 = .ok (.dup, 1) := by decide +kernel
theorem dX0_init_88 : decode cX0_init 88 = .ok (.bipush 6, 2) := by decide +kernel
theorem dX0_init_90 : decode cX0_init 90 = .ok (.bipush 10, 2) := by decide +kernel
theorem dX0_init_92 : decode cX0_init 92 = .ok (.iastore, 1) := by decide +kernel
theorem dX0_init_93 : decode cX0_init 93 = .ok (.dup, 1) := by decide +kernel
theorem dX0_init_94 : decode cX0_init 94 = .ok (.bipush 7, 2) := by decide +kernel
theorem dX0_init_96 : decode cX0_init 96 = .ok (.bipush 10, 2) := by decide +kernel
theorem dX0_init_98 : decode cX0_init 98 = .ok (.iastore, 1) := by decide +kernel
theorem dX0_init_99 : decode cX0_init 99 = .ok (.putfield 15, 3) := by decide +kernel
theorem dX0_init_102 : decode cX0_init 102 = .ok (.aload_n 0, 1) := by decide +kernel
theorem dX0_init_103 : decode cX0_init 103 = .ok (.aload_n 1, 1) := by decide +kernel
theorem dX0_init_104 : decode cX0_init 104 = .ok (.putfield 18, 3) := by decide +kernel
theorem dX0_init_107 : decode cX0_init 107 = .ok (.return_, 1) := by decide +kernel
theorem dX0_mayBeTold_0 : decode cX0_mayBeTold 0 = .ok (.iload_n 0, 1) := by decide +kernel
theorem dX0_mayBeTold_1 : decode cX0_mayBeTold 1 = .ok (.ifCond .eq 9, 3) := by decide +kernel
theorem dX0_mayBeTold_4 : decode cX0_mayBeTold 4 = .ok (.iload_n 0, 1) := by decide +kernel
theorem dX0_mayBeTold_5 : decode cX0_mayBeTold 5 = .ok (.bipush 7, 2) := by decide +kernel
theorem dX0_mayBeTold_7 : decode cX0_mayBeTold 7 = .ok (.if_icmp .lt 7, 3) := by decide +kernel
theorem dX0_mayBeTold_10 : decode cX0_mayBeTold 10 = .ok (.iconst 1, 1) := by decide +kernel
theorem dX0_mayBeTold_11 : decode cX0_mayBeTold 11 = .ok (.goto 4, 3) := by decide +kernel
theorem dX0_mayBeTold_14 : decode cX0_mayBeTold 14 = .ok (.iconst 0, 1) := by decide +kernel
theorem dX0_mayBeTold_15 : decode cX0_mayBeTold 15 = .ok (.ireturn, 1) := by decide +kernel
theorem dX0_order_0 : decode cX0_order 0 = .ok (.iload_n 1, 1) := by decide +kernel
theorem dX0_order_1 : decode cX0_order 1 = .ok (.ifCond .ne 5, 3) := by decide +kernel
theorem dX0_order_4 : decode cX0_order 4 = .ok (.iconst 0, 1) := by decide +kernel
theorem dX0_order_5 : decode cX0_order 5 = .ok (.ireturn, 1) := by decide +kernel
theorem dX0_order_6 : decode cX0_order 6 = .ok (.iload_n 0, 1) := by decide +kernel
theorem dX0_order_7 : decode cX0_order 7 = .ok (.ifCond .ne 7, 3) := by decide +kernel
theorem dX0_order_10 : decode cX0_order 10 = .ok (.iconst 1, 1) := by decide +kernel
theorem dX0_order_11 : decode cX0_order 11 = .ok (.goto 4, 3) := by decide +kernel
theorem dX0_order_14 : decode cX0_order 14 = .ok (.iconst 2, 1) := by decide +kernel
theorem dX0_order_15 : decode cX0_order 15 = .ok (.ireturn, 1) := by decide +kernel
theorem dX0_how_0 : decode cX0_how 0 = .ok (.iload_n 0, 1) := by decide +kernel
theorem dX0_how_1 : decode cX0_how 1 = .ok (.ifCond .ne 5, 3) := by decide +kernel
theorem dX0_how_4 : decode cX0_how 4 = .ok (.iconst 0, 1) := by decide +kernel
theorem dX0_how_5 : decode cX0_how 5 = .ok (.ireturn, 1) := by decide +kernel
theorem dX0_how_6 : decode cX0_how 6 = .ok (.iload_n 0, 1) := by decide +kernel
theorem dX0_how_7 : decode cX0_how 7 = .ok (.bipush 7, 2) := by decide +kernel
theorem dX0_how_9 : decode cX0_how 9 = .ok (.if_icmp .lt 5, 3) := by decide +kernel
theorem dX0_how_12 : decode cX0_how 12 = .ok (.iconst 2, 1) := by decide +kernel
theorem dX0_how_13 : decode cX0_how 13 = .ok (.ireturn, 1) := by decide +kernel
theorem dX0_how_14 : decode cX0_how 14 = .ok (.iload_n 0, 1) := by decide +kernel
theorem dX0_how_15 : decode cX0_how 15 = .ok (.iconst 4, 1) := by decide +kernel
theorem dX0_how_16 : decode cX0_how 16 = .ok (.if_icmp .ge 7, 3) := by decide +kernel
theorem dX0_how_19 : decode cX0_how 19 = .ok (.iconst 1, 1) := by decide +kernel
theorem dX0_how_20 : decode cX0_how 20 = .ok (.goto 4, 3) := by decide +kernel
theorem dX0_how_23 : decode cX0_how 23 = .ok (.iconst 3, 1) := by decide +kernel
theorem dX0_how_24 : decode cX0_how 24 = .ok (.ireturn, 1) := by decide +kernel
theorem dX0_stands_0 : decode cX0_stands 0 = .ok (.iload_n 2, 1) := by decide +kernel
theorem dX0_stands_1 : decode cX0_stands 1 = .ok (.ifCond .ne 5, 3) := by decide +kernel
theorem dX0_stands_4 : decode cX0_stands 4 = .ok (.iload_n 1, 1) := by decide +kernel
theorem dX0_stands_5 : decode cX0_stands 5 = .ok (.ireturn, 1) := by decide +kernel
theorem dX0_stands_6 : decode cX0_stands 6 = .ok (.iload_n 1, 1) := by decide +kernel
theorem dX0_stands_7 : decode cX0_stands 7 = .ok (.ifCond .ne 16, 3) := by decide +kernel
theorem dX0_stands_10 : decode cX0_stands 10 = .ok (.iconst 1, 1) := by decide +kernel
theorem dX0_stands_11 : decode cX0_stands 11 = .ok (.aload_n 0, 1) := by decide +kernel
theorem dX0_stands_12 : decode cX0_stands 12 = .ok (.getfield 9, 3) := by decide +kernel
theorem dX0_stands_15 : decode cX0_stands 15 = .ok (.iconst 0, 1) := by decide +kernel
theorem dX0_stands_16 : decode cX0_stands 16 = .ok (.iaload, 1) := by decide +kernel
theorem dX0_stands_17 : decode cX0_stands 17 = .ok (.iadd, 1) := by decide +kernel
theorem dX0_stands_18 : decode cX0_stands 18 = .ok (.iconst 1, 1) := by decide +kernel
theorem dX0_stands_19 : decode cX0_stands 19 = .ok (.isub, 1) := by decide +kernel
theorem dX0_stands_20 : decode cX0_stands 20 = .ok (.goto 13, 3) := by decide +kernel
theorem dX0_stands_23 : decode cX0_stands 23 = .ok (.iconst 4, 1) := by decide +kernel
theorem dX0_stands_24 : decode cX0_stands 24 = .ok (.aload_n 0, 1) := by decide +kernel
theorem dX0_stands_25 : decode cX0_stands 25 = .ok (.getfield 9, 3) := by decide +kernel
theorem dX0_stands_28 : decode cX0_stands 28 = .ok (.iconst 1, 1) := by decide +kernel
theorem dX0_stands_29 : decode cX0_stands 29 = .ok (.iaload, 1) := by decide +kernel
theorem dX0_stands_30 : decode cX0_stands 30 = .ok (.iadd, 1) := by decide +kernel
theorem dX0_stands_31 : decode cX0_stands 31 = .ok (.iconst 1, 1) := by decide +kernel
theorem dX0_stands_32 : decode cX0_stands 32 = .ok (.isub, 1) := by decide +kernel
theorem dX0_stands_33 : decode cX0_stands 33 = .ok (.ireturn, 1) := by decide +kernel
set_option maxRecDepth 20000 in
theorem ggX0_next_X0_mayBeTold : GoodIn wsX0_next wsX0_mayBeTold := goodIn_r _ [4] (by decide +kernel) (by decide +kernel)
set_option maxRecDepth 20000 in
theorem gX0_next_X0_mayBeTold : GoodIn wsX0_next (va_wsS RX0 22 yX0_mayBeTold wsX0_mayBeTold) := goodIn_app (goodIn_of _ (by decide +kernel)) ggX0_next_X0_mayBeTold
theorem dX0_next_0 : decode cX0_next 0 = .ok (.iload_n 0, 1) := by decide +kernel
theorem dX0_next_1 : decode cX0_next 1 = .ok (.iconst 1, 1) := by decide +kernel
theorem dX0_next_2 : decode cX0_next 2 = .ok (.if_icmp .ne 8, 3) := by decide +kernel
theorem dX0_next_5 : decode cX0_next 5 = .ok (.bipush 7, 2) := by decide +kernel
theorem dX0_next_7 : decode cX0_next 7 = .ok (.iload_n 1, 1) := by decide +kernel
theorem dX0_next_8 : decode cX0_next 8 = .ok (.iadd, 1) := by decide +kernel
theorem dX0_next_9 : decode cX0_next 9 = .ok (.ireturn, 1) := by decide +kernel
theorem dX0_next_10 : decode cX0_next 10 = .ok (.iload_n 0, 1) := by decide +kernel
theorem dX0_next_11 : decode cX0_next 11 = .ok (.iconst 4, 1) := by decide +kernel
theorem dX0_next_12 : decode cX0_next 12 = .ok (.if_icmp .ne 5, 3) := by decide +kernel
theorem dX0_next_15 : decode cX0_next 15 = .ok (.iconst 0, 1) := by decide +kernel
theorem dX0_next_16 : decode cX0_next 16 = .ok (.ireturn, 1) := by decide +kernel
theorem dX0_next_17 : decode cX0_next 17 = .ok (.iload_n 0, 1) := by decide +kernel
theorem dX0_next_18 : decode cX0_next 18 = .ok (.invokestatic 22, 3) := by decide +kernel
theorem dX0_next_21 : decode cX0_next 21 = .ok (.ifCond .eq 7, 3) := by decide +kernel
theorem dX0_next_24 : decode cX0_next 24 = .ok (.iload_n 0, 1) := by decide +kernel
theorem dX0_next_25 : decode cX0_next 25 = .ok (.goto 6, 3) := by decide +kernel
theorem dX0_next_28 : decode cX0_next 28 = .ok (.iload_n 0, 1) := by decide +kernel
theorem dX0_next_29 : decode cX0_next 29 = .ok (.iconst 1, 1) := by decide +kernel
theorem dX0_next_30 : decode cX0_next 30 = .ok (.isub, 1) := by decide +kernel
theorem dX0_next_31 : decode cX0_next 31 = .ok (.ireturn, 1) := by decide +kernel
theorem dX0_water_0 : decode cX0_water 0 = .ok (.iload_n 3, 1) := by decide +kernel
theorem dX0_water_1 : decode cX0_water 1 = .ok (.bipush 7, 2) := by decide +kernel
theorem dX0_water_3 : decode cX0_water 3 = .ok (.if_icmp .ge 15, 3) := by decide +kernel
theorem dX0_water_6 : decode cX0_water 6 = .ok (.aload_n 0, 1) := by decide +kernel
theorem dX0_water_7 : decode cX0_water 7 = .ok (.getfield 18, 3) := by decide +kernel
theorem dX0_water_10 : decode cX0_water 10 = .ok (.getfield 26, 3) := by decide +kernel
theorem dX0_water_13 : decode cX0_water 13 = .ok (.iload_n 1, 1) := by decide +kernel
theorem dX0_water_14 : decode cX0_water 14 = .ok (.aaload, 1) := by decide +kernel
theorem dX0_water_15 : decode cX0_water 15 = .ok (.iload_n 2, 1) := by decide +kernel
theorem dX0_water_16 : decode cX0_water 16 = .ok (.iaload, 1) := by decide +kernel
theorem dX0_water_17 : decode cX0_water 17 = .ok (.ireturn, 1) := by decide +kernel
theorem dX0_water_18 : decode cX0_water 18 = .ok (.iload_n 3, 1) := by decide +kernel
theorem dX0_water_19 : decode cX0_water 19 = .ok (.bipush 7, 2) := by decide +kernel
theorem dX0_water_21 : decode cX0_water 21 = .ok (.isub, 1) := by decide +kernel
theorem dX0_water_22 : decode cX0_water 22 = .ok (.iload_n 2, 1) := by decide +kernel
theorem dX0_water_23 : decode cX0_water 23 = .ok (.invokestatic 32, 3) := by decide +kernel
theorem dX0_water_26 : decode cX0_water 26 = .ok (.istore 4, 2) := by decide +kernel
theorem dX0_water_28 : decode cX0_water 28 = .ok (.aload_n 0, 1) := by decide +kernel
theorem dX0_water_29 : decode cX0_water 29 = .ok (.getfield 18, 3) := by decide +kernel
theorem dX0_water_32 : decode cX0_water 32 = .ok (.getfield 26, 3) := by decide +kernel
theorem dX0_water_35 : decode cX0_water 35 = .ok (.iload_n 1, 1) := by decide +kernel
theorem dX0_water_36 : decode cX0_water 36 = .ok (.aaload, 1) := by decide +kernel
theorem dX0_water_37 : decode cX0_water 37 = .ok (.iload 4, 2) := by decide +kernel
theorem dX0_water_39 : decode cX0_water 39 = .ok (.iaload, 1) := by decide +kernel
theorem dX0_water_40 : decode cX0_water 40 = .ok (.istore 5, 2) := by decide +kernel
theorem dX0_water_42 : decode cX0_water 42 = .ok (.iload 4, 2) := by decide +kernel
theorem dX0_water_44 : decode cX0_water 44 = .ok (.iconst 1, 1) := by decide +kernel
theorem dX0_water_45 : decode cX0_water 45 = .ok (.iadd, 1) := by decide +kernel
theorem dX0_water_46 : decode cX0_water 46 = .ok (.istore 6, 2) := by decide +kernel
theorem dX0_water_48 : decode cX0_water 48 = .ok (.iload 6, 2) := by decide +kernel
theorem dX0_water_50 : decode cX0_water 50 = .ok (.iload_n 2, 1) := by decide +kernel
theorem dX0_water_51 : decode cX0_water 51 = .ok (.if_icmp .gt 21, 3) := by decide +kernel
theorem dX0_water_54 : decode cX0_water 54 = .ok (.iload 5, 2) := by decide +kernel
theorem dX0_water_56 : decode cX0_water 56 = .ok (.aload_n 0, 1) := by decide +kernel
theorem dX0_water_57 : decode cX0_water 57 = .ok (.getfield 15, 3) := by decide +kernel
theorem dX0_water_60 : decode cX0_water 60 = .ok (.iload 6, 2) := by decide +kernel
theorem dX0_water_62 : decode cX0_water 62 = .ok (.iaload, 1) := by decide +kernel
theorem dX0_water_63 : decode cX0_water 63 = .ok (.iadd, 1) := by decide +kernel
theorem dX0_water_64 : decode cX0_water 64 = .ok (.istore 5, 2) := by decide +kernel
theorem dX0_water_66 : decode cX0_water 66 = .ok (.iinc 6 1, 3) := by decide +kernel
theorem dX0_water_69 : decode cX0_water 69 = .ok (.goto (-21), 3) := by decide +kernel
theorem dX0_water_72 : decode cX0_water 72 = .ok (.iload 5, 2) := by decide +kernel
theorem dX0_water_74 : decode cX0_water 74 = .ok (.ireturn, 1) := by decide +kernel
set_option maxRecDepth 20000 in
theorem ggX0_lost_X0_stands : GoodIn wsX0_lost wsX0_stands := goodIn_r _ [10, 1, 21, 22, 23] (by decide +kernel) (by decide +kernel)
set_option maxRecDepth 20000 in
theorem gX0_lost_X0_stands : GoodIn wsX0_lost (wsV RX0 38 RX0 yX0_stands wsX0_stands) := goodIn_app (goodIn_of _ (by decide +kernel)) ggX0_lost_X0_stands
set_option maxRecDepth 20000 in
theorem ggX0_lost_X0_water : GoodIn wsX0_lost wsX0_water := goodIn_r _ [14, 15, 16, 17, 18, 4, 19, 20, 21, 22, 23, 24, 25, 26, 27] (by decide +kernel) (by decide +kernel)
set_option maxRecDepth 20000 in
theorem gX0_lost_X0_water : GoodIn wsX0_lost (wsV RX0 42 RX0 yX0_water wsX0_water) := goodIn_app (goodIn_of _ (by decide +kernel)) ggX0_lost_X0_water
theorem dX0_lost_0 : decode cX0_lost 0 = .ok (.aload_n 0, 1) := by decide +kernel
theorem dX0_lost_1 : decode cX0_lost 1 = .ok (.iload_n 3, 1) := by decide +kernel
theorem dX0_lost_2 : decode cX0_lost 2 = .ok (.iload 4, 2) := by decide +kernel
theorem dX0_lost_4 : decode cX0_lost 4 = .ok (.invokevirtual 38, 3) := by decide +kernel
theorem dX0_lost_7 : decode cX0_lost 7 = .ok (.istore 5, 2) := by decide +kernel
theorem dX0_lost_9 : decode cX0_lost 9 = .ok (.aload_n 0, 1) := by decide +kernel
theorem dX0_lost_10 : decode cX0_lost 10 = .ok (.iload_n 1, 1) := by decide +kernel
theorem dX0_lost_11 : decode cX0_lost 11 = .ok (.iload_n 2, 1) := by decide +kernel
theorem dX0_lost_12 : decode cX0_lost 12 = .ok (.iload 5, 2) := by decide +kernel
theorem dX0_lost_14 : decode cX0_lost 14 = .ok (.invokevirtual 42, 3) := by decide +kernel
theorem dX0_lost_17 : decode cX0_lost 17 = .ok (.istore 6, 2) := by decide +kernel
theorem dX0_lost_19 : decode cX0_lost 19 = .ok (.iload 5, 2) := by decide +kernel
theorem dX0_lost_21 : decode cX0_lost 21 = .ok (.bipush 7, 2) := by decide +kernel
theorem dX0_lost_23 : decode cX0_lost 23 = .ok (.if_icmp .lt 32, 3) := by decide +kernel
theorem dX0_lost_26 : decode cX0_lost 26 = .ok (.aload_n 0, 1) := by decide +kernel
theorem dX0_lost_27 : decode cX0_lost 27 = .ok (.getfield 9, 3) := by decide +kernel
theorem dX0_lost_30 : decode cX0_lost 30 = .ok (.iconst 5, 1) := by decide +kernel
theorem dX0_lost_31 : decode cX0_lost 31 = .ok (.iaload, 1) := by decide +kernel
theorem dX0_lost_32 : decode cX0_lost 32 = .ok (.aload_n 0, 1) := by decide +kernel
theorem dX0_lost_33 : decode cX0_lost 33 = .ok (.getfield 9, 3) := by decide +kernel
theorem dX0_lost_36 : decode cX0_lost 36 = .ok (.bipush 7, 2) := by decide +kernel
theorem dX0_lost_38 : decode cX0_lost 38 = .ok (.iaload, 1) := by decide +kernel
theorem dX0_lost_39 : decode cX0_lost 39 = .ok (.iconst 0, 1) := by decide +kernel
theorem dX0_lost_40 : decode cX0_lost 40 = .ok (.iload 6, 2) := by decide +kernel
theorem dX0_lost_42 : decode cX0_lost 42 = .ok (.aload_n 0, 1) := by decide +kernel
theorem dX0_lost_43 : decode cX0_lost 43 = .ok (.getfield 9, 3) := by decide +kernel
theorem dX0_lost_46 : decode cX0_lost 46 = .ok (.iconst 3, 1) := by decide +kernel
theorem dX0_lost_47 : decode cX0_lost 47 = .ok (.iaload, 1) := by decide +kernel
theorem dX0_lost_48 : decode cX0_lost 48 = .ok (.isub, 1) := by decide +kernel
theorem dX0_lost_49 : decode cX0_lost 49 = .ok (.invokestatic 46, 3) := by decide +kernel
theorem dX0_lost_52 : decode cX0_lost 52 = .ok (.imul, 1) := by decide +kernel
theorem dX0_lost_53 : decode cX0_lost 53 = .ok (.iadd, 1) := by decide +kernel
theorem dX0_lost_54 : decode cX0_lost 54 = .ok (.ireturn, 1) := by decide +kernel
theorem dX0_lost_55 : decode cX0_lost 55 = .ok (.iload 4, 2) := by decide +kernel
theorem dX0_lost_57 : decode cX0_lost 57 = .ok (.ifCond .eq 16, 3) := by decide +kernel
theorem dX0_lost_60 : decode cX0_lost 60 = .ok (.iload_n 3, 1) := by decide +kernel
theorem dX0_lost_61 : decode cX0_lost 61 = .ok (.ifCond .ne 12, 3) := by decide +kernel
theorem dX0_lost_64 : decode cX0_lost 64 = .ok (.aload_n 0, 1) := by decide +kernel
theorem dX0_lost_65 : decode cX0_lost 65 = .ok (.getfield 9, 3) := by decide +kernel
theorem dX0_lost_68 : decode cX0_lost 68 = .ok (.iconst 4, 1) := by decide +kernel
theorem dX0_lost_69 : decode cX0_lost 69 = .ok (.iaload, 1) := by decide +kernel
theorem dX0_lost_70 : decode cX0_lost 70 = .ok (.goto 4, 3) := by decide +kernel
theorem dX0_lost_73 : decode cX0_lost 73 = .ok (.iconst 0, 1) := by decide +kernel
theorem dX0_lost_74 : decode cX0_lost 74 = .ok (.istore 7, 2) := by decide +kernel
theorem dX0_lost_76 : decode cX0_lost 76 = .ok (.iload 7, 2) := by decide +kernel
theorem dX0_lost_78 : decode cX0_lost 78 = .ok (.aload_n 0, 1) := by decide +kernel
theorem dX0_lost_79 : decode cX0_lost 79 = .ok (.getfield 9, 3) := by decide +kernel
theorem dX0_lost_82 : decode cX0_lost 82 = .ok (.bipush 6, 2) := by decide +kernel
theorem dX0_lost_84 : decode cX0_lost 84 = .ok (.iaload, 1) := by decide +kernel
theorem dX0_lost_85 : decode cX0_lost 85 = .ok (.iconst 0, 1) := by decide +kernel
theorem dX0_lost_86 : decode cX0_lost 86 = .ok (.iload 6, 2) := by decide +kernel
theorem dX0_lost_88 : decode cX0_lost 88 = .ok (.aload_n 0, 1) := by decide +kernel
theorem dX0_lost_89 : decode cX0_lost 89 = .ok (.getfield 9, 3) := by decide +kernel
theorem dX0_lost_92 : decode cX0_lost 92 = .ok (.iconst 2, 1) := by decide +kernel
theorem dX0_lost_93 : decode cX0_lost 93 = .ok (.iaload, 1) := by decide +kernel
theorem dX0_lost_94 : decode cX0_lost 94 = .ok (.isub, 1) := by decide +kernel
theorem dX0_lost_95 : decode cX0_lost 95 = .ok (.invokestatic 46, 3) := by decide +kernel
theorem dX0_lost_98 : decode cX0_lost 98 = .ok (.imul, 1) := by decide +kernel
theorem dX0_lost_99 : decode cX0_lost 99 = .ok (.iadd, 1) := by decide +kernel
theorem dX0_lost_100 : decode cX0_lost 100 = .ok (.ireturn, 1) := by decide +kernel
set_option maxRecDepth 20000 in
theorem ggX0_lossOfOneOrder_X0_lost : GoodIn wsX0_lossOfOneOrder wsX0_lost := goodIn_r _ [8, 9, 10, 11, 12, 13, 14, 15, 16, 7, 17, 18, 19, 20, 21, 1, 22, 23, 24, 25, 26, 33, 34, 35, 36, 37, 38, 39] (by decide +kernel) (by decide +kernel)
set_option maxRecDepth 20000 in
theorem gX0_lossOfOneOrder_X0_lost : GoodIn wsX0_lossOfOneOrder (wsV RX0 56 RX0 yX0_lost wsX0_lost) := goodIn_app (goodIn_of _ (by decide +kernel)) ggX0_lossOfOneOrder_X0_lost
set_option maxRecDepth 20000 in
theorem ggX0_lossOfOneOrder_X0_stands : GoodIn wsX0_lossOfOneOrder wsX0_stands := goodIn_r _ [17, 9, 33, 34, 35] (by decide +kernel) (by decide +kernel)
set_option maxRecDepth 20000 in
theorem gX0_lossOfOneOrder_X0_stands : GoodIn wsX0_lossOfOneOrder (wsV RX0 38 RX0 yX0_stands wsX0_stands) := goodIn_app (goodIn_of _ (by decide +kernel)) ggX0_lossOfOneOrder_X0_stands
set_option maxRecDepth 20000 in
theorem ggX0_lossOfOneOrder_X0_next : GoodIn wsX0_lossOfOneOrder wsX0_next := goodIn_r _ [29, 30, 31, 7, 32] (by decide +kernel) (by decide +kernel)
set_option maxRecDepth 20000 in
theorem gX0_lossOfOneOrder_X0_next : GoodIn wsX0_lossOfOneOrder (va_wsS RX0 60 yX0_next wsX0_next) := goodIn_app (goodIn_of _ (by decide +kernel)) ggX0_lossOfOneOrder_X0_next
theorem dX0_lossOfOneOrder_0 : decode cX0_lossOfOneOrder 0 = .ok (.lconst 0, 1) := by decide +kernel
theorem dX0_lossOfOneOrder_1 : decode cX0_lossOfOneOrder 1 = .ok (.lstore_n 2, 1) := by decide +kernel
theorem dX0_lossOfOneOrder_2 : decode cX0_lossOfOneOrder 2 = .ok (.iconst 0, 1) := by decide +kernel
theorem dX0_lossOfOneOrder_3 : decode cX0_lossOfOneOrder 3 = .ok (.istore 4, 2) := by decide +kernel
theorem dX0_lossOfOneOrder_5 : decode cX0_lossOfOneOrder 5 = .ok (.iload 4, 2) := by decide +kernel
theorem dX0_lossOfOneOrder_7 : decode cX0_lossOfOneOrder 7 = .ok (.aload_n 0, 1) := by decide +kernel
theorem dX0_lossOfOneOrder_8 : decode cX0_lossOfOneOrder 8 = .ok (.getfield 18, 3) := by decide +kernel
theorem dX0_lossOfOneOrder_11 : decode cX0_lossOfOneOrder 11 = .ok (.getfield 49, 3) := by decide +kernel
theorem dX0_lossOfOneOrder_14 : decode cX0_lossOfOneOrder 14 = .ok (.if_icmp .ge 84, 3) := by decide +kernel
theorem dX0_lossOfOneOrder_17 : decode cX0_lossOfOneOrder 17 = .ok (.iconst 0, 1) := by decide +kernel
theorem dX0_lossOfOneOrder_18 : decode cX0_lossOfOneOrder 18 = .ok (.istore 5, 2) := by decide +kernel
theorem dX0_lossOfOneOrder_20 : decode cX0_lossOfOneOrder 20 = .ok (.iconst 0, 1) := by decide +kernel
theorem dX0_lossOfOneOrder_21 : decode cX0_lossOfOneOrder 21 = .ok (.istore 6, 2) := by decide +kernel
theorem dX0_lossOfOneOrder_23 : decode cX0_lossOfOneOrder 23 = .ok (.iload 6, 2) := by decide +kernel
theorem dX0_lossOfOneOrder_25 : decode cX0_lossOfOneOrder 25 = .ok (.bipush 8, 2) := by decide +kernel
theorem dX0_lossOfOneOrder_27 : decode cX0_lossOfOneOrder 27 = .ok (.if_icmp .ge 65, 3) := by decide +kernel
theorem dX0_lossOfOneOrder_30 : decode cX0_lossOfOneOrder 30 = .ok (.iload 6, 2) := by decide +kernel
theorem dX0_lossOfOneOrder_32 : decode cX0_lossOfOneOrder 32 = .ok (.iload_n 1, 1) := by decide +kernel
theorem dX0_lossOfOneOrder_33 : decode cX0_lossOfOneOrder 33 = .ok (.if_icmp .ne 7, 3) := by decide +kernel
theorem dX0_lossOfOneOrder_36 : decode cX0_lossOfOneOrder 36 = .ok (.iconst 1, 1) := by decide +kernel
theorem dX0_lossOfOneOrder_37 : decode cX0_lossOfOneOrder 37 = .ok (.goto 4, 3) := by decide +kernel
theorem dX0_lossOfOneOrder_40 : decode cX0_lossOfOneOrder 40 = .ok (.iconst 0, 1) := by decide +kernel
theorem dX0_lossOfOneOrder_41 : decode cX0_lossOfOneOrder 41 = .ok (.istore 7, 2) := by decide +kernel
theorem dX0_lossOfOneOrder_43 : decode cX0_lossOfOneOrder 43 = .ok (.lload_n 2, 1) := by decide +kernel
theorem dX0_lossOfOneOrder_44 : decode cX0_lossOfOneOrder 44 = .ok (.aload_n 0, 1) := by decide +kernel
theorem dX0_lossOfOneOrder_45 : decode cX0_lossOfOneOrder 45 = .ok (.getfield 18, 3) := by decide +kernel
theorem dX0_lossOfOneOrder_48 : decode cX0_lossOfOneOrder 48 = .ok (.getfield 53, 3) := by decide +kernel
theorem dX0_lossOfOneOrder_51 : decode cX0_lossOfOneOrder 51 = .ok (.iload 4, 2) := by decide +kernel
theorem dX0_lossOfOneOrder_53 : decode cX0_lossOfOneOrder 53 = .ok (.iaload, 1) := by decide +kernel
theorem dX0_lossOfOneOrder_54 : decode cX0_lossOfOneOrder 54 = .ok (.i2l, 1) := by decide +kernel
theorem dX0_lossOfOneOrder_55 : decode cX0_lossOfOneOrder 55 = .ok (.aload_n 0, 1) := by decide +kernel
theorem dX0_lossOfOneOrder_56 : decode cX0_lossOfOneOrder 56 = .ok (.iload 4, 2) := by decide +kernel
theorem dX0_lossOfOneOrder_58 : decode cX0_lossOfOneOrder 58 = .ok (.iload 6, 2) := by decide +kernel
theorem dX0_lossOfOneOrder_60 : decode cX0_lossOfOneOrder 60 = .ok (.iload 5, 2) := by decide +kernel
theorem dX0_lossOfOneOrder_62 : decode cX0_lossOfOneOrder 62 = .ok (.iload 7, 2) := by decide +kernel
theorem dX0_lossOfOneOrder_64 : decode cX0_lossOfOneOrder 64 = .ok (.invokevirtual 56, 3) := by decide +kernel
theorem dX0_lossOfOneOrder_67 : decode cX0_lossOfOneOrder 67 = .ok (.i2l, 1) := by decide +kernel
theorem dX0_lossOfOneOrder_68 : decode cX0_lossOfOneOrder 68 = .ok (.lmul, 1) := by decide +kernel
theorem dX0_lossOfOneOrder_69 : decode cX0_lossOfOneOrder 69 = .ok (.ladd, 1) := by decide +kernel
theorem dX0_lossOfOneOrder_70 : decode cX0_lossOfOneOrder 70 = .ok (.lstore_n 2, 1) := by decide +kernel
theorem dX0_lossOfOneOrder_71 : decode cX0_lossOfOneOrder 71 = .ok (.aload_n 0, 1) := by decide +kernel
theorem dX0_lossOfOneOrder_72 : decode cX0_lossOfOneOrder 72 = .ok (.iload 5, 2) := by decide +kernel
theorem dX0_lossOfOneOrder_74 : decode cX0_lossOfOneOrder 74 = .ok (.iload 7, 2) := by decide +kernel
theorem dX0_lossOfOneOrder_76 : decode cX0_lossOfOneOrder 76 = .ok (.invokevirtual 38, 3) := by decide +kernel
theorem dX0_lossOfOneOrder_79 : decode cX0_lossOfOneOrder 79 = .ok (.iload 6, 2) := by decide +kernel
theorem dX0_lossOfOneOrder_81 : decode cX0_lossOfOneOrder 81 = .ok (.invokestatic 60, 3) := by decide +kernel
theorem dX0_lossOfOneOrder_84 : decode cX0_lossOfOneOrder 84 = .ok (.istore 5, 2) := by decide +kernel
theorem dX0_lossOfOneOrder_86 : decode cX0_lossOfOneOrder 86 = .ok (.iinc 6 1, 3) := by decide +kernel
theorem dX0_lossOfOneOrder_89 : decode cX0_lossOfOneOrder 89 = .ok (.goto (-66), 3) := by decide +kernel
theorem dX0_lossOfOneOrder_92 : decode cX0_lossOfOneOrder 92 = .ok (.iinc 4 1, 3) := by decide +kernel
theorem dX0_lossOfOneOrder_95 : decode cX0_lossOfOneOrder 95 = .ok (.goto (-90), 3) := by decide +kernel
theorem dX0_lossOfOneOrder_98 : decode cX0_lossOfOneOrder 98 = .ok (.lload_n 2, 1) := by decide +kernel
theorem dX0_lossOfOneOrder_99 : decode cX0_lossOfOneOrder 99 = .ok (.lreturn, 1) := by decide +kernel
theorem dX1_init_0 : decode cX1_init 0 = .ok (.aload_n 0, 1) := by decide +kernel
theorem dX1_init_1 : decode cX1_init 1 = .ok (.invokespecial 3, 3) := by decide +kernel
theorem dX1_init_4 : decode cX1_init 4 = .ok (.aload_n 0, 1) := by decide +kernel
theorem dX1_init_5 : decode cX1_init 5 = .ok (.bipush 20, 2) := by decide +kernel
theorem dX1_init_7 : decode cX1_init 7 = .ok (.newarray .int, 2) := by decide +kernel
theorem dX1_init_9 : decode cX1_init 9 = .ok (.putfield 9, 3) := by decide +kernel
theorem dX1_init_12 : decode cX1_init 12 = .ok (.aload_n 0, 1) := by decide +kernel
theorem dX1_init_13 : decode cX1_init 13 = .ok (.bipush 20, 2) := by decide +kernel
theorem dX1_init_15 : decode cX1_init 15 = .ok (.newarray .int, 2) := by decide +kernel
theorem dX1_init_17 : decode cX1_init 17 = .ok (.putfield 15, 3) := by decide +kernel
theorem dX1_init_20 : decode cX1_init 20 = .ok (.aload_n 0, 1) := by decide +kernel
theorem dX1_init_21 : decode cX1_init 21 = .ok (.bipush 20, 2) := by decide +kernel
theorem dX1_init_23 : decode cX1_init 23 = .ok (.newarray .int, 2) := by decide +kernel
theorem dX1_init_25 : decode cX1_init 25 = .ok (.putfield 18, 3) := by decide +kernel
theorem dX1_init_28 : decode cX1_init 28 = .ok (.aload_n 0, 1) := by decide +kernel
theorem dX1_init_29 : decode cX1_init 29 = .ok (.iconst 0, 1) := by decide +kernel
theorem dX1_init_30 : decode cX1_init 30 = .ok (.putfield 21, 3) := by decide +kernel
theorem dX1_init_33 : decode cX1_init 33 = .ok (.return_, 1) := by decide +kernel
theorem dX1_add_0 : decode cX1_add 0 = .ok (.aload_n 0, 1) := by decide +kernel
theorem dX1_add_1 : decode cX1_add 1 = .ok (.getfield 21, 3) := by decide +kernel
theorem dX1_add_4 : decode cX1_add 4 = .ok (.istore_n 3, 1) := by decide +kernel
theorem dX1_add_5 : decode cX1_add 5 = .ok (.aload_n 0, 1) := by decide +kernel
theorem dX1_add_6 : decode cX1_add 6 = .ok (.getfield 9, 3) := by decide +kernel
theorem dX1_add_9 : decode cX1_add 9 = .ok (.iload_n 3, 1) := by decide +kernel
theorem dX1_add_10 : decode cX1_add 10 = .ok (.iload_n 1, 1) := by decide +kernel
theorem dX1_add_11 : decode cX1_add 11 = .ok (.iastore, 1) := by decide +kernel
theorem dX1_add_12 : decode cX1_add 12 = .ok (.aload_n 0, 1) := by decide +kernel
theorem dX1_add_13 : decode cX1_add 13 = .ok (.getfield 15, 3) := by decide +kernel
theorem dX1_add_16 : decode cX1_add 16 = .ok (.iload_n 3, 1) := by decide +kernel
theorem dX1_add_17 : decode cX1_add 17 = .ok (.iload_n 2, 1) := by decide +kernel
theorem dX1_add_18 : decode cX1_add 18 = .ok (.iastore, 1) := by decide +kernel
theorem dX1_add_19 : decode cX1_add 19 = .ok (.iload_n 3, 1) := by decide +kernel
theorem dX1_add_20 : decode cX1_add 20 = .ok (.istore 4, 2) := by decide +kernel
theorem dX1_add_22 : decode cX1_add 22 = .ok (.iload 4, 2) := by decide +kernel
theorem dX1_add_24 : decode cX1_add 24 = .ok (.ifCond .le 43, 3) := by decide +kernel
theorem dX1_add_27 : decode cX1_add 27 = .ok (.aload_n 0, 1) := by decide +kernel
theorem dX1_add_28 : decode cX1_add 28 = .ok (.getfield 9, 3) := by decide +kernel
theorem dX1_add_31 : decode cX1_add 31 = .ok (.aload_n 0, 1) := by decide +kernel
theorem dX1_add_32 : decode cX1_add 32 = .ok (.getfield 18, 3) := by decide +kernel
theorem dX1_add_35 : decode cX1_add 35 = .ok (.iload 4, 2) := by decide +kernel
theorem dX1_add_37 : decode cX1_add 37 = .ok (.iconst 1, 1) := by decide +kernel
theorem dX1_add_38 : decode cX1_add 38 = .ok (.isub, 1) := by decide +kernel
theorem dX1_add_39 : decode cX1_add 39 = .ok (.iaload, 1) := by decide +kernel
theorem dX1_add_40 : decode cX1_add 40 = .ok (.iaload, 1) := by decide +kernel
theorem dX1_add_41 : decode cX1_add 41 = .ok (.iload_n 1, 1) := by decide +kernel
theorem dX1_add_42 : decode cX1_add 42 = .ok (.if_icmp .le 25, 3) := by decide +kernel
theorem dX1_add_45 : decode cX1_add 45 = .ok (.aload_n 0, 1) := by decide +kernel
theorem dX1_add_46 : decode cX1_add 46 = .ok (.getfield 18, 3) := by decide +kernel
theorem dX1_add_49 : decode cX1_add 49 = .ok (.iload 4, 2) := by decide +kernel
theorem dX1_add_51 : decode cX1_add 51 = .ok (.aload_n 0, 1) := by decide +kernel
theorem dX1_add_52 : decode cX1_add 52 = .ok (.getfield 18, 3) := by decide +kernel
theorem dX1_add_55 : decode cX1_add 55 = .ok (.iload 4, 2) := by decide +kernel
theorem dX1_add_57 : decode cX1_add 57 = .ok (.iconst 1, 1) := by decide +kernel
theorem dX1_add_58 : decode cX1_add 58 = .ok (.isub, 1) := by decide +kernel
theorem dX1_add_59 : decode cX1_add 59 = .ok (.iaload, 1) := by decide +kernel
theorem dX1_add_60 : decode cX1_add 60 = .ok (.iastore, 1) := by decide +kernel
theorem dX1_add_61 : decode cX1_add 61 = .ok (.iinc 4 (-1), 3) := by decide +kernel
theorem dX1_add_64 : decode cX1_add 64 = .ok (.goto (-42), 3) := by decide +kernel
theorem dX1_add_67 : decode cX1_add 67 = .ok (.aload_n 0, 1) := by decide +kernel
theorem dX1_add_68 : decode cX1_add 68 = .ok (.getfield 18, 3) := by decide +kernel
theorem dX1_add_71 : decode cX1_add 71 = .ok (.iload 4, 2) := by decide +kernel
theorem dX1_add_73 : decode cX1_add 73 = .ok (.iload_n 3, 1) := by decide +kernel
theorem dX1_add_74 : decode cX1_add 74 = .ok (.iastore, 1) := by decide +kernel
theorem dX1_add_75 : decode cX1_add 75 = .ok (.aload_n 0, 1) := by decide +kernel
theorem dX1_add_76 : decode cX1_add 76 = .ok (.dup, 1) := by decide +kernel
theorem dX1_add_77 : decode cX1_add 77 = .ok (.getfield 21, 3) := by decide +kernel
theorem dX1_add_80 : decode cX1_add 80 = .ok (.iconst 1, 1) := by decide +kernel
theorem dX1_add_81 : decode cX1_add 81 = .ok (.iadd, 1) := by decide +kernel
theorem dX1_add_82 : decode cX1_add 82 = .ok (.putfield 21, 3) := by decide +kernel
theorem dX1_add_85 : decode cX1_add 85 = .ok (.iload_n 3, 1) := by decide +kernel
theorem dX1_add_86 : decode cX1_add 86 = .ok (.ireturn, 1) := by decide +kernel
theorem dX1_waitOf_0 : decode cX1_waitOf 0 = .ok (.iconst 0, 1) := by decide +kernel
theorem dX1_waitOf_1 : decode cX1_waitOf 1 = .ok (.istore 4, 2) := by decide +kernel
theorem dX1_waitOf_3 : decode cX1_waitOf 3 = .ok (.iconst 0, 1) := by decide +kernel
theorem dX1_waitOf_4 : decode cX1_waitOf 4 = .ok (.istore 5, 2) := by decide +kernel
theorem dX1_waitOf_6 : decode cX1_waitOf 6 = .ok (.iconst 0, 1) := by decide +kernel
theorem dX1_waitOf_7 : decode cX1_waitOf 7 = .ok (.istore 6, 2) := by decide +kernel
theorem dX1_waitOf_9 : decode cX1_waitOf 9 = .ok (.iload 6, 2) := by decide +kernel
theorem dX1_waitOf_11 : decode cX1_waitOf 11 = .ok (.aload_n 0, 1) := by decide +kernel
theorem dX1_waitOf_12 : decode cX1_waitOf 12 = .ok (.getfield 21, 3) := by decide +kernel
theorem dX1_waitOf_15 : decode cX1_waitOf 15 = .ok (.if_icmp .ge 77, 3) := by decide +kernel
theorem dX1_waitOf_18 : decode cX1_waitOf 18 = .ok (.aload_n 0, 1) := by decide +kernel
theorem dX1_waitOf_19 : decode cX1_waitOf 19 = .ok (.getfield 18, 3) := by decide +kernel
theorem dX1_waitOf_22 : decode cX1_waitOf 22 = .ok (.iload 6, 2) := by decide +kernel
theorem dX1_waitOf_24 : decode cX1_waitOf 24 = .ok (.iaload, 1) := by decide +kernel
theorem dX1_waitOf_25 : decode cX1_waitOf 25 = .ok (.istore 7, 2) := by decide +kernel
theorem dX1_waitOf_27 : decode cX1_waitOf 27 = .ok (.iload 5, 2) := by decide +kernel
theorem dX1_waitOf_29 : decode cX1_waitOf 29 = .ok (.aload_n 0, 1) := by decide +kernel
theorem dX1_waitOf_30 : decode cX1_waitOf 30 = .ok (.getfield 9, 3) := by decide +kernel
theorem dX1_waitOf_33 : decode cX1_waitOf 33 = .ok (.iload 7, 2) := by decide +kernel
theorem dX1_waitOf_35 : decode cX1_waitOf 35 = .ok (.iaload, 1) := by decide +kernel
theorem dX1_waitOf_36 : decode cX1_waitOf 36 = .ok (.invokestatic 25, 3) := by decide +kernel
theorem dX1_waitOf_39 : decode cX1_waitOf 39 = .ok (.istore 8, 2) := by decide +kernel
theorem dX1_waitOf_41 : decode cX1_waitOf 41 = .ok (.iload_n 2, 1) := by decide +kernel
theorem dX1_waitOf_42 : decode cX1_waitOf 42 = .ok (.iload 8, 2) := by decide +kernel
theorem dX1_waitOf_44 : decode cX1_waitOf 44 = .ok (.if_icmp .gt 12, 3) := by decide +kernel
theorem dX1_waitOf_47 : decode cX1_waitOf 47 = .ok (.iload 8, 2) := by decide +kernel
theorem dX1_waitOf_49 : decode cX1_waitOf 49 = .ok (.iload_n 3, 1) := by decide +kernel
theorem dX1_waitOf_50 : decode cX1_waitOf 50 = .ok (.if_icmp .ge 6, 3) := by decide +kernel
theorem dX1_waitOf_53 : decode cX1_waitOf 53 = .ok (.iload_n 3, 1) := by decide +kernel
theorem dX1_waitOf_54 : decode cX1_waitOf 54 = .ok (.istore 8, 2) := by decide +kernel
theorem dX1_waitOf_56 : decode cX1_waitOf 56 = .ok (.iload 7, 2) := by decide +kernel
theorem dX1_waitOf_58 : decode cX1_waitOf 58 = .ok (.iload_n 1, 1) := by decide +kernel
theorem dX1_waitOf_59 : decode cX1_waitOf 59 = .ok (.if_icmp .ne 15, 3) := by decide +kernel
theorem dX1_waitOf_62 : decode cX1_waitOf 62 = .ok (.iload 8, 2) := by decide +kernel
theorem dX1_waitOf_64 : decode cX1_waitOf 64 = .ok (.aload_n 0, 1) := by decide +kernel
theorem dX1_waitOf_65 : decode cX1_waitOf 65 = .ok (.getfield 9, 3) := by decide +kernel
theorem dX1_waitOf_68 : decode cX1_waitOf 68 = .ok (.iload 7, 2) := by decide +kernel
theorem dX1_waitOf_70 : decode cX1_waitOf 70 = .ok (.iaload, 1) := by decide +kernel
theorem dX1_waitOf_71 : decode cX1_waitOf 71 = .ok (.isub, 1) := by decide +kernel
theorem dX1_waitOf_72 : decode cX1_waitOf 72 = .ok (.istore 4, 2) := by decide +kernel
theorem dX1_waitOf_74 : decode cX1_waitOf 74 = .ok (.iload 8, 2) := by decide +kernel
theorem dX1_waitOf_76 : decode cX1_waitOf 76 = .ok (.aload_n 0, 1) := by decide +kernel
theorem dX1_waitOf_77 : decode cX1_waitOf 77 = .ok (.getfield 15, 3) := by decide +kernel
theorem dX1_waitOf_80 : decode cX1_waitOf 80 = .ok (.iload 7, 2) := by decide +kernel
theorem dX1_waitOf_82 : decode cX1_waitOf 82 = .ok (.iaload, 1) := by decide +kernel
theorem dX1_waitOf_83 : decode cX1_waitOf 83 = .ok (.iadd, 1) := by decide +kernel
theorem dX1_waitOf_84 : decode cX1_waitOf 84 = .ok (.istore 5, 2) := by decide +kernel
theorem dX1_waitOf_86 : decode cX1_waitOf 86 = .ok (.iinc 6 1, 3) := by decide +kernel
theorem dX1_waitOf_89 : decode cX1_waitOf 89 = .ok (.goto (-80), 3) := by decide +kernel
theorem dX1_waitOf_92 : decode cX1_waitOf 92 = .ok (.iload 4, 2) := by decide +kernel
theorem dX1_waitOf_94 : decode cX1_waitOf 94 = .ok (.ireturn, 1) := by decide +kernel
theorem dX2_init_0 : decode cX2_init 0 = .ok (.aload_n 0, 1) := by decide +kernel
theorem dX2_init_1 : decode cX2_init 1 = .ok (.invokespecial 3, 3) := by decide +kernel
theorem dX2_init_4 : decode cX2_init 4 = .ok (.aload_n 0, 1) := by decide +kernel
theorem dX2_init_5 : decode cX2_init 5 = .ok (.iconst 0, 1) := by decide +kernel
theorem dX2_init_6 : decode cX2_init 6 = .ok (.putfield 9, 3) := by decide +kernel
theorem dX2_init_9 : decode cX2_init 9 = .ok (.aload_n 0, 1) := by decide +kernel
theorem dX2_init_10 : decode cX2_init 10 = .ok (.iload_n 1, 1) := by decide +kernel
theorem dX2_init_11 : decode cX2_init 11 = .ok (.putfield 15, 3) := by decide +kernel
theorem dX2_init_14 : decode cX2_init 14 = .ok (.aload_n 0, 1) := by decide +kernel
theorem dX2_init_15 : decode cX2_init 15 = .ok (.iload_n 2, 1) := by decide +kernel
theorem dX2_init_16 : decode cX2_init 16 = .ok (.putfield 19, 3) := by decide +kernel
theorem dX2_init_19 : decode cX2_init 19 = .ok (.return_, 1) := by decide +kernel
theorem dX2_toldAs_0 : decode cX2_toldAs 0 = .ok (.iconst 0, 1) := by decide +kernel
theorem dX2_toldAs_1 : decode cX2_toldAs 1 = .ok (.ireturn, 1) := by decide +kernel
set_option maxRecDepth 20000 in
theorem ggX2_cost_X9_leave : GoodIn wsX2_cost wsX9_leave := goodIn_r _ [6, 7, 8, 21, 22] (by decide +kernel) (by decide +kernel)
set_option maxRecDepth 20000 in
theorem gX2_cost_X9_leave : GoodIn wsX2_cost (wsV RX2 22 RX9 yX9_leave wsX9_leave) := goodIn_app (goodIn_of _ (by decide +kernel)) ggX2_cost_X9_leave
theorem dX2_cost_0 : decode cX2_cost 0 = .ok (.aload_n 1, 1) := by decide +kernel
theorem dX2_cost_1 : decode cX2_cost 1 = .ok (.bipush 10, 2) := by decide +kernel
theorem dX2_cost_3 : decode cX2_cost 3 = .ok (.invokevirtual 22, 3) := by decide +kernel
theorem dX2_cost_6 : decode cX2_cost 6 = .ok (.aload_n 0, 1) := by decide +kernel
theorem dX2_cost_7 : decode cX2_cost 7 = .ok (.getfield 15, 3) := by decide +kernel
theorem dX2_cost_10 : decode cX2_cost 10 = .ok (.ireturn, 1) := by decide +kernel
set_option maxRecDepth 20000 in
theorem ggX2_mark_X9_leave : GoodIn wsX2_mark wsX9_leave := goodIn_r _ [6, 7, 8, 21, 22] (by decide +kernel) (by decide +kernel)
set_option maxRecDepth 20000 in
theorem gX2_mark_X9_leave : GoodIn wsX2_mark (wsV RX2 22 RX9 yX9_leave wsX9_leave) := goodIn_app (goodIn_of _ (by decide +kernel)) ggX2_mark_X9_leave
theorem dX2_mark_0 : decode cX2_mark 0 = .ok (.aload_n 1, 1) := by decide +kernel
theorem dX2_mark_1 : decode cX2_mark 1 = .ok (.bipush 20, 2) := by decide +kernel
theorem dX2_mark_3 : decode cX2_mark 3 = .ok (.invokevirtual 22, 3) := by decide +kernel
theorem dX2_mark_6 : decode cX2_mark 6 = .ok (.aload_n 0, 1) := by decide +kernel
theorem dX2_mark_7 : decode cX2_mark 7 = .ok (.getfield 9, 3) := by decide +kernel
theorem dX2_mark_10 : decode cX2_mark 10 = .ok (.ifCond .eq 7, 3) := by decide +kernel
theorem dX2_mark_13 : decode cX2_mark 13 = .ok (.iconst 1, 1) := by decide +kernel
theorem dX2_mark_14 : decode cX2_mark 14 = .ok (.goto 4, 3) := by decide +kernel
theorem dX2_mark_17 : decode cX2_mark 17 = .ok (.iconst 0, 1) := by decide +kernel
theorem dX2_mark_18 : decode cX2_mark 18 = .ok (.ireturn, 1) := by decide +kernel
set_option maxRecDepth 20000 in
theorem ggX3_init_X2_init : GoodIn wsX3_init wsX2_init := goodIn_r _ [4, 5, 6, 7, 8, 9, 10, 11, 12, 13, 14, 15, 16, 17, 18, 19, 20, 21, 22] (by decide +kernel) (by decide +kernel)
set_option maxRecDepth 20000 in
theorem gX3_init_X2_init : GoodIn wsX3_init (wsX2_init) := ggX3_init_X2_init
theorem dX3_init_0 : decode cX3_init 0 = .ok (.aload_n 0, 1) := by decide +kernel
theorem dX3_init_1 : decode cX3_init 1 = .ok (.iload_n 1, 1) := by decide +kernel
theorem dX3_init_2 : decode cX3_init 2 = .ok (.iload_n 2, 1) := by decide +kernel
theorem dX3_init_3 : decode cX3_init 3 = .ok (.invokespecial 3, 3) := by decide +kernel
theorem dX3_init_6 : decode cX3_init 6 = .ok (.return_, 1) := by decide +kernel
theorem dX3_toldAs_0 : decode cX3_toldAs 0 = .ok (.iconst 1, 1) := by decide +kernel
theorem dX3_toldAs_1 : decode cX3_toldAs 1 = .ok (.ireturn, 1) := by decide +kernel
set_option maxRecDepth 20000 in
theorem ggX3_cost_X9_leave : GoodIn wsX3_cost wsX9_leave := goodIn_r _ [7, 8, 9, 30, 31] (by decide +kernel) (by decide +kernel)
set_option maxRecDepth 20000 in
theorem gX3_cost_X9_leave : GoodIn wsX3_cost (wsV RX3 9 RX9 yX9_leave wsX9_leave) := goodIn_app (goodIn_of _ (by decide +kernel)) ggX3_cost_X9_leave
set_option maxRecDepth 20000 in
theorem ggX3_cost_X2_cost : GoodIn wsX3_cost wsX2_cost := goodIn_r _ [15, 16, 17, 4, 5, 6, 7, 8, 9, 18, 19, 20, 21, 22, 23, 24, 25, 26, 27, 28, 29, 30, 31] (by decide +kernel) (by decide +kernel)
set_option maxRecDepth 20000 in
theorem gX3_cost_X2_cost_s15 : GoodIn wsX3_cost (va_wsSU RX3 15 yX2_cost wsX2_cost) := goodIn_app (goodIn_of _ (by decide +kernel)) ggX3_cost_X2_cost
theorem dX3_cost_0 : decode cX3_cost 0 = .ok (.aload_n 1, 1) := by decide +kernel
theorem dX3_cost_1 : decode cX3_cost 1 = .ok (.bipush 11, 2) := by decide +kernel
theorem dX3_cost_3 : decode cX3_cost 3 = .ok (.invokevirtual 9, 3) := by decide +kernel
theorem dX3_cost_6 : decode cX3_cost 6 = .ok (.aload_n 0, 1) := by decide +kernel
theorem dX3_cost_7 : decode cX3_cost 7 = .ok (.aload_n 1, 1) := by decide +kernel
theorem dX3_cost_8 : decode cX3_cost 8 = .ok (.invokespecial 15, 3) := by decide +kernel
theorem dX3_cost_11 : decode cX3_cost 11 = .ok (.aload_n 0, 1) := by decide +kernel
theorem dX3_cost_12 : decode cX3_cost 12 = .ok (.getfield 19, 3) := by decide +kernel
theorem dX3_cost_15 : decode cX3_cost 15 = .ok (.iadd, 1) := by decide +kernel
theorem dX3_cost_16 : decode cX3_cost 16 = .ok (.ireturn, 1) := by decide +kernel
set_option maxRecDepth 20000 in
theorem ggX3_mark_X9_leave : GoodIn wsX3_mark wsX9_leave := goodIn_r _ [5, 6, 7, 38, 39] (by decide +kernel) (by decide +kernel)
set_option maxRecDepth 20000 in
theorem gX3_mark_X9_leave : GoodIn wsX3_mark (wsV RX3 9 RX9 yX9_leave wsX9_leave) := goodIn_app (goodIn_of _ (by decide +kernel)) ggX3_mark_X9_leave
set_option maxRecDepth 20000 in
theorem ggX3_mark_X2_mark : GoodIn wsX3_mark wsX2_mark := goodIn_r _ [13, 14, 15, 2, 3, 4, 5, 6, 7, 40, 41, 42, 43, 44, 45, 46, 47, 48, 49, 50, 51, 38, 39] (by decide +kernel) (by decide +kernel)
set_option maxRecDepth 20000 in
theorem gX3_mark_X2_mark_s25 : GoodIn wsX3_mark (va_wsSU RX3 25 yX2_mark wsX2_mark) := goodIn_app (goodIn_of _ (by decide +kernel)) ggX3_mark_X2_mark
set_option maxRecDepth 20000 in
theorem ggX3_mark_X3_cost : GoodIn wsX3_mark wsX3_cost := goodIn_r _ [20, 21, 22, 1, 2, 3, 4, 5, 6, 7, 23, 24, 10, 25, 12, 26, 27, 15, 40, 41, 42, 43, 44, 45, 46, 47, 48, 49, 50, 51, 38, 39] (by decide +kernel) (by decide +kernel)
set_option maxRecDepth 20000 in
theorem gX3_mark_X3_cost : GoodIn wsX3_mark (wsV RX3 28 RX3 yX3_cost wsX3_cost) := goodIn_app (goodIn_of _ (by decide +kernel)) ggX3_mark_X3_cost
set_option maxRecDepth 20000 in
theorem ggX3_mark_X10_cost : GoodIn wsX3_mark wsX10_cost := goodIn_r _ [34, 35, 2, 3, 4, 5, 6, 7, 36, 29, 37, 17, 19, 20, 21, 22, 1, 23, 24, 10, 25, 12, 26, 27, 15, 38, 39, 40, 41, 42, 43, 44, 45, 46, 47, 48, 49, 50, 51] (by decide +kernel) (by decide +kernel)
set_option maxRecDepth 20000 in
theorem gX3_mark_X10_cost_u28X10 : GoodIn wsX3_mark (va_wsO RX3 28 RX10 "SeaGates$Handed" ⟨"SeaGates$Handed", "cost", "(LSeaGates$Trace;)I"⟩ yX10_cost wsX10_cost) := goodIn_app (goodIn_of _ (by decide +kernel)) ggX3_mark_X10_cost
theorem dX3_mark_0 : decode cX3_mark 0 = .ok (.aload_n 1, 1) := by decide +kernel
theorem dX3_mark_1 : decode cX3_mark 1 = .ok (.bipush 21, 2) := by decide +kernel
theorem dX3_mark_3 : decode cX3_mark 3 = .ok (.invokevirtual 9, 3) := by decide +kernel
theorem dX3_mark_6 : decode cX3_mark 6 = .ok (.aload_n 0, 1) := by decide +kernel
theorem dX3_mark_7 : decode cX3_mark 7 = .ok (.aload_n 1, 1) := by decide +kernel
theorem dX3_mark_8 : decode cX3_mark 8 = .ok (.invokespecial 25, 3) := by decide +kernel
theorem dX3_mark_11 : decode cX3_mark 11 = .ok (.aload_n 0, 1) := by decide +kernel
theorem dX3_mark_12 : decode cX3_mark 12 = .ok (.aload_n 1, 1) := by decide +kernel
theorem dX3_mark_13 : decode cX3_mark 13 = .ok (.invokevirtual 28, 3) := by decide +kernel
theorem dX3_mark_16 : decode cX3_mark 16 = .ok (.iadd, 1) := by decide +kernel
theorem dX3_mark_17 : decode cX3_mark 17 = .ok (.ireturn, 1) := by decide +kernel
theorem dX4_init_0 : decode cX4_init 0 = .ok (.aload_n 0, 1) := by decide +kernel
theorem dX4_init_1 : decode cX4_init 1 = .ok (.invokespecial 3, 3) := by decide +kernel
theorem dX4_init_4 : decode cX4_init 4 = .ok (.aload_n 0, 1) := by decide +kernel
theorem dX4_init_5 : decode cX4_init 5 = .ok (.bipush 8, 2) := by decide +kernel
theorem dX4_init_7 : decode cX4_init 7 = .ok (.bipush 8, 2) := by decide +kernel
theorem dX4_init_9 : decode cX4_init 9 = .ok (.multianewarray 9 2, 4) := by decide +kernel
theorem dX4_init_13 : decode cX4_init 13 = .ok (.putfield 11, 3) := by decide +kernel
theorem dX4_init_16 : decode cX4_init 16 = .ok (.aload_n 0, 1) := by decide +kernel
theorem dX4_init_17 : decode cX4_init 17 = .ok (.bipush 8, 2) := by decide +kernel
theorem dX4_init_19 : decode cX4_init 19 = .ok (.bipush 15, 2) := by decide +kernel
theorem dX4_init_21 : decode cX4_init 21 = .ok (.multianewarray 16 2, 4) := by decide +kernel
theorem dX4_init_25 : decode cX4_init 25 = .ok (.putfield 18, 3) := by decide +kernel
theorem dX4_init_28 : decode cX4_init 28 = .ok (.aload_n 0, 1) := by decide +kernel
theorem dX4_init_29 : decode cX4_init 29 = .ok (.bipush 8, 2) := by decide +kernel
theorem dX4_init_31 : decode cX4_init 31 = .ok (.bipush 15, 2) := by decide +kernel
theorem dX4_init_33 : decode cX4_init 33 = .ok (.multianewarray 16 2, 4) := by decide +kernel
theorem dX4_init_37 : decode cX4_init 37 = .ok (.putfield 21, 3) := by decide +kernel
theorem dX4_init_40 : decode cX4_init 40 = .ok (.aload_n 0, 1) := by decide +kernel
theorem dX4_init_41 : decode cX4_init 41 = .ok (.lconst 0, 1) := by decide +kernel
theorem dX4_init_42 : decode cX4_init 42 = .ok (.putfield 24, 3) := by decide +kernel
theorem dX4_init_45 : decode cX4_init 45 = .ok (.aload_n 0, 1) := by decide +kernel
theorem dX4_init_46 : decode cX4_init 46 = .ok (.iconst 0, 1) := by decide +kernel
theorem dX4_init_47 : decode cX4_init 47 = .ok (.putfield 28, 3) := by decide +kernel
theorem dX4_init_50 : decode cX4_init 50 = .ok (.aload_n 0, 1) := by decide +kernel
theorem dX4_init_51 : decode cX4_init 51 = .ok (.aload_n 1, 1) := by decide +kernel
theorem dX4_init_52 : decode cX4_init 52 = .ok (.putfield 32, 3) := by decide +kernel
theorem dX4_init_55 : decode cX4_init 55 = .ok (.aload_n 0, 1) := by decide +kernel
theorem dX4_init_56 : decode cX4_init 56 = .ok (.aload_n 2, 1) := by decide +kernel
theorem dX4_init_57 : decode cX4_init 57 = .ok (.putfield 36, 3) := by decide +kernel
theorem dX4_init_60 : decode cX4_init 60 = .ok (.return_, 1) := by decide +kernel
set_option maxRecDepth 20000 in
theorem ggX4_refresh_X4_decideHour : GoodIn wsX4_refresh wsX4_decideHour := goodIn_r _ [11, 3, 4, 6, 12, 13, 14, 15, 16, 17, 5, 18, 19, 20, 10, 21, 22, 23, 24, 25, 26, 27, 28, 29, 30, 31, 32, 33, 34, 35, 36, 37, 38, 39, 40, 41, 42, 43, 44, 45, 46, 47, 48, 49, 50, 51, 52, 53, 54, 55, 56, 57, 58, 59, 60, 61, 62, 63, 64, 65, 66, 67, 68, 69, 70, 71, 72, 73, 74, 75, 76, 77, 78, 79, 80] (by decide +kernel) (by decide +kernel)
set_option maxRecDepth 20000 in
theorem gX4_refresh_X4_decideHour : GoodIn wsX4_refresh (wsV RX4 40 RX4 yX4_decideHour wsX4_decideHour) := goodIn_app (goodIn_of _ (by decide +kernel)) ggX4_refresh_X4_decideHour
theorem dX4_refresh_0 : decode cX4_refresh 0 = .ok (.aload_n 0, 1) := by decide +kernel
theorem dX4_refresh_1 : decode cX4_refresh 1 = .ok (.getfield 28, 3) := by decide +kernel
theorem dX4_refresh_4 : decode cX4_refresh 4 = .ok (.ifCond .ne 4, 3) := by decide +kernel
theorem dX4_refresh_7 : decode cX4_refresh 7 = .ok (.return_, 1) := by decide +kernel
theorem dX4_refresh_8 : decode cX4_refresh 8 = .ok (.bipush 7, 2) := by decide +kernel
theorem dX4_refresh_10 : decode cX4_refresh 10 = .ok (.istore_n 1, 1) := by decide +kernel
theorem dX4_refresh_11 : decode cX4_refresh 11 = .ok (.iload_n 1, 1) := by decide +kernel
theorem dX4_refresh_12 : decode cX4_refresh 12 = .ok (.ifCond .lt 14, 3) := by decide +kernel
theorem dX4_refresh_15 : decode cX4_refresh 15 = .ok (.aload_n 0, 1) := by decide +kernel
theorem dX4_refresh_16 : decode cX4_refresh 16 = .ok (.iload_n 1, 1) := by decide +kernel
theorem dX4_refresh_17 : decode cX4_refresh 17 = .ok (.invokevirtual 40, 3) := by decide +kernel
theorem dX4_refresh_20 : decode cX4_refresh 20 = .ok (.iinc 1 (-1), 3) := by decide +kernel
theorem dX4_refresh_23 : decode cX4_refresh 23 = .ok (.goto (-12), 3) := by decide +kernel
theorem dX4_refresh_26 : decode cX4_refresh 26 = .ok (.aload_n 0, 1) := by decide +kernel
theorem dX4_refresh_27 : decode cX4_refresh 27 = .ok (.lconst 0, 1) := by decide +kernel
theorem dX4_refresh_28 : decode cX4_refresh 28 = .ok (.putfield 24, 3) := by decide +kernel
theorem dX4_refresh_31 : decode cX4_refresh 31 = .ok (.iconst 0, 1) := by decide +kernel
theorem dX4_refresh_32 : decode cX4_refresh 32 = .ok (.istore_n 1, 1) := by decide +kernel
theorem dX4_refresh_33 : decode cX4_refresh 33 = .ok (.iload_n 1, 1) := by decide +kernel
theorem dX4_refresh_34 : decode cX4_refresh 34 = .ok (.aload_n 0, 1) := by decide +kernel
theorem dX4_refresh_35 : decode cX4_refresh 35 = .ok (.getfield 32, 3) := by decide +kernel
theorem dX4_refresh_38 : decode cX4_refresh 38 = .ok (.getfield 44, 3) := by decide +kernel
theorem dX4_refresh_41 : decode cX4_refresh 41 = .ok (.if_icmp .ge 41, 3) := by decide +kernel
theorem dX4_refresh_44 : decode cX4_refresh 44 = .ok (.aload_n 0, 1) := by decide +kernel
theorem dX4_refresh_45 : decode cX4_refresh 45 = .ok (.getfield 32, 3) := by decide +kernel
theorem dX4_refresh_48 : decode cX4_refresh 48 = .ok (.getfield 50, 3) := by decide +kernel
theorem dX4_refresh_51 : decode cX4_refresh 51 = .ok (.iconst 0, 1) := by decide +kernel
theorem dX4_refresh_52 : decode cX4_refresh 52 = .ok (.aaload, 1) := by decide +kernel
theorem dX4_refresh_53 : decode cX4_refresh 53 = .ok (.iload_n 1, 1) := by decide +kernel
theorem dX4_refresh_54 : decode cX4_refresh 54 = .ok (.iaload, 1) := by decide +kernel
theorem dX4_refresh_55 : decode cX4_refresh 55 = .ok (.iload_n 1, 1) := by decide +kernel
theorem dX4_refresh_56 : decode cX4_refresh 56 = .ok (.if_icmp .ne 20, 3) := by decide +kernel
theorem dX4_refresh_59 : decode cX4_refresh 59 = .ok (.aload_n 0, 1) := by decide +kernel
theorem dX4_refresh_60 : decode cX4_refresh 60 = .ok (.dup, 1) := by decide +kernel
theorem dX4_refresh_61 : decode cX4_refresh 61 = .ok (.getfield 24, 3) := by decide +kernel
theorem dX4_refresh_64 : decode cX4_refresh 64 = .ok (.aload_n 0, 1) := by decide +kernel
theorem dX4_refresh_65 : decode cX4_refresh 65 = .ok (.getfield 18, 3) := by decide +kernel
theorem dX4_refresh_68 : decode cX4_refresh 68 = .ok (.iload_n 1, 1) := by decide +kernel
theorem dX4_refresh_69 : decode cX4_refresh 69 = .ok (.aaload, 1) := by decide +kernel
theorem dX4_refresh_70 : decode cX4_refresh 70 = .ok (.iconst 0, 1) := by decide +kernel
theorem dX4_refresh_71 : decode cX4_refresh 71 = .ok (.laload, 1) := by decide +kernel
theorem dX4_refresh_72 : decode cX4_refresh 72 = .ok (.ladd, 1) := by decide +kernel
theorem dX4_refresh_73 : decode cX4_refresh 73 = .ok (.putfield 24, 3) := by decide +kernel
theorem dX4_refresh_76 : decode cX4_refresh 76 = .ok (.iinc 1 1, 3) := by decide +kernel
theorem dX4_refresh_79 : decode cX4_refresh 79 = .ok (.goto (-46), 3) := by decide +kernel
theorem dX4_refresh_82 : decode cX4_refresh 82 = .ok (.aload_n 0, 1) := by decide +kernel
theorem dX4_refresh_83 : decode cX4_refresh 83 = .ok (.iconst 0, 1) := by decide +kernel
theorem dX4_refresh_84 : decode cX4_refresh 84 = .ok (.putfield 28, 3) := by decide +kernel
theorem dX4_refresh_87 : decode cX4_refresh 87 = .ok (.return_, 1) := by decide +kernel
set_option maxRecDepth 20000 in
theorem ggX4_decideHour_X4_decideGroup : GoodIn wsX4_decideHour wsX4_decideGroup := goodIn_r _ [15, 1, 9, 3, 16, 17, 18, 19, 20, 21, 22, 23, 24, 25, 26, 14, 27, 28, 2, 10, 4, 29, 30, 31, 32, 33, 34, 35, 36, 37, 38, 39, 40, 41, 42, 43, 44, 45, 46, 47, 48, 49, 50, 51, 52, 53, 54, 55, 56, 57, 58, 59, 60, 61, 62, 63, 64, 65, 66, 67, 68, 69, 70, 71, 72, 73, 74] (by decide +kernel) (by decide +kernel)
set_option maxRecDepth 20000 in
theorem gX4_decideHour_X4_decideGroup : GoodIn wsX4_decideHour (wsV RX4 59 RX4 yX4_decideGroup wsX4_decideGroup) := goodIn_app (goodIn_of _ (by decide +kernel)) ggX4_decideHour_X4_decideGroup
theorem dX4_decideHour_0 : decode cX4_decideHour 0 = .ok (.iconst 0, 1) := by decide +kernel
theorem dX4_decideHour_1 : decode cX4_decideHour 1 = .ok (.istore_n 2, 1) := by decide +kernel
theorem dX4_decideHour_2 : decode cX4_decideHour 2 = .ok (.iload_n 2, 1) := by decide +kernel
theorem dX4_decideHour_3 : decode cX4_decideHour 3 = .ok (.aload_n 0, 1) := by decide +kernel
theorem dX4_decideHour_4 : decode cX4_decideHour 4 = .ok (.getfield 32, 3) := by decide +kernel
theorem dX4_decideHour_7 : decode cX4_decideHour 7 = .ok (.getfield 44, 3) := by decide +kernel
theorem dX4_decideHour_10 : decode cX4_decideHour 10 = .ok (.if_icmp .ge 28, 3) := by decide +kernel
theorem dX4_decideHour_13 : decode cX4_decideHour 13 = .ok (.aload_n 0, 1) := by decide +kernel
theorem dX4_decideHour_14 : decode cX4_decideHour 14 = .ok (.getfield 18, 3) := by decide +kernel
theorem dX4_decideHour_17 : decode cX4_decideHour 17 = .ok (.iload_n 2, 1) := by decide +kernel
theorem dX4_decideHour_18 : decode cX4_decideHour 18 = .ok (.aaload, 1) := by decide +kernel
theorem dX4_decideHour_19 : decode cX4_decideHour 19 = .ok (.iconst 0, 1) := by decide +kernel
theorem dX4_decideHour_20 : decode cX4_decideHour 20 = .ok (.aload_n 0, 1) := by decide +kernel
theorem dX4_decideHour_21 : decode cX4_decideHour 21 = .ok (.getfield 21, 3) := by decide +kernel
theorem dX4_decideHour_24 : decode cX4_decideHour 24 = .ok (.iload_n 2, 1) := by decide +kernel
theorem dX4_decideHour_25 : decode cX4_decideHour 25 = .ok (.aaload, 1) := by decide +kernel
theorem dX4_decideHour_26 : decode cX4_decideHour 26 = .ok (.iconst 0, 1) := by decide +kernel
theorem dX4_decideHour_27 : decode cX4_decideHour 27 = .ok (.bipush 15, 2) := by decide +kernel
theorem dX4_decideHour_29 : decode cX4_decideHour 29 = .ok (.invokestatic 53, 3) := by decide +kernel
theorem dX4_decideHour_32 : decode cX4_decideHour 32 = .ok (.iinc 2 1, 3) := by decide +kernel
theorem dX4_decideHour_35 : decode cX4_decideHour 35 = .ok (.goto (-33), 3) := by decide +kernel
theorem dX4_decideHour_38 : decode cX4_decideHour 38 = .ok (.iconst 0, 1) := by decide +kernel
theorem dX4_decideHour_39 : decode cX4_decideHour 39 = .ok (.istore_n 2, 1) := by decide +kernel
theorem dX4_decideHour_40 : decode cX4_decideHour 40 = .ok (.iload_n 2, 1) := by decide +kernel
theorem dX4_decideHour_41 : decode cX4_decideHour 41 = .ok (.aload_n 0, 1) := by decide +kernel
theorem dX4_decideHour_42 : decode cX4_decideHour 42 = .ok (.getfield 32, 3) := by decide +kernel
theorem dX4_decideHour_45 : decode cX4_decideHour 45 = .ok (.getfield 44, 3) := by decide +kernel
theorem dX4_decideHour_48 : decode cX4_decideHour 48 = .ok (.if_icmp .ge 39, 3) := by decide +kernel
theorem dX4_decideHour_51 : decode cX4_decideHour 51 = .ok (.aload_n 0, 1) := by decide +kernel
theorem dX4_decideHour_52 : decode cX4_decideHour 52 = .ok (.getfield 11, 3) := by decide +kernel
theorem dX4_decideHour_55 : decode cX4_decideHour 55 = .ok (.iload_n 1, 1) := by decide +kernel
theorem dX4_decideHour_56 : decode cX4_decideHour 56 = .ok (.aaload, 1) := by decide +kernel
theorem dX4_decideHour_57 : decode cX4_decideHour 57 = .ok (.iload_n 2, 1) := by decide +kernel
theorem dX4_decideHour_58 : decode cX4_decideHour 58 = .ok (.iconst 0, 1) := by decide +kernel
theorem dX4_decideHour_59 : decode cX4_decideHour 59 = .ok (.iastore, 1) := by decide +kernel
theorem dX4_decideHour_60 : decode cX4_decideHour 60 = .ok (.aload_n 0, 1) := by decide +kernel
theorem dX4_decideHour_61 : decode cX4_decideHour 61 = .ok (.getfield 32, 3) := by decide +kernel
theorem dX4_decideHour_64 : decode cX4_decideHour 64 = .ok (.getfield 50, 3) := by decide +kernel
theorem dX4_decideHour_67 : decode cX4_decideHour 67 = .ok (.iload_n 1, 1) := by decide +kernel
theorem dX4_decideHour_68 : decode cX4_decideHour 68 = .ok (.aaload, 1) := by decide +kernel
theorem dX4_decideHour_69 : decode cX4_decideHour 69 = .ok (.iload_n 2, 1) := by decide +kernel
theorem dX4_decideHour_70 : decode cX4_decideHour 70 = .ok (.iaload, 1) := by decide +kernel
theorem dX4_decideHour_71 : decode cX4_decideHour 71 = .ok (.iload_n 2, 1) := by decide +kernel
theorem dX4_decideHour_72 : decode cX4_decideHour 72 = .ok (.if_icmp .ne 9, 3) := by decide +kernel
theorem dX4_decideHour_75 : decode cX4_decideHour 75 = .ok (.aload_n 0, 1) := by decide +kernel
theorem dX4_decideHour_76 : decode cX4_decideHour 76 = .ok (.iload_n 1, 1) := by decide +kernel
theorem dX4_decideHour_77 : decode cX4_decideHour 77 = .ok (.iload_n 2, 1) := by decide +kernel
theorem dX4_decideHour_78 : decode cX4_decideHour 78 = .ok (.invokevirtual 59, 3) := by decide +kernel
theorem dX4_decideHour_81 : decode cX4_decideHour 81 = .ok (.iinc 2 1, 3) := by decide +kernel
theorem dX4_decideHour_84 : decode cX4_decideHour 84 = .ok (.goto (-44), 3) := by decide +kernel
theorem dX4_decideHour_87 : decode cX4_decideHour 87 = .ok (.return_, 1) := by decide +kernel
set_option maxRecDepth 20000 in
theorem ggX4_decideGroup_X6_weightOfGroup : GoodIn wsX4_decideGroup wsX6_weightOfGroup := goodIn_r _ [8, 9, 10, 11, 60, 61, 62, 63] (by decide +kernel) (by decide +kernel)
set_option maxRecDepth 20000 in
theorem gX4_decideGroup_X6_weightOfGroup : GoodIn wsX4_decideGroup (wsV RX4 63 RX6 yX6_weightOfGroup wsX6_weightOfGroup) := goodIn_app (goodIn_of _ (by decide +kernel)) ggX4_decideGroup_X6_weightOfGroup
set_option maxRecDepth 20000 in
theorem ggX4_decideGroup_X4_lossFrom : GoodIn wsX4_decideGroup wsX4_lossFrom := goodIn_r _ [16, 17, 1, 18, 19, 20, 21, 22, 23, 24, 25, 26, 27, 28, 29, 30, 31, 32, 33, 34, 35, 36, 37, 38, 39, 40, 41, 42, 43, 44, 45, 46, 47, 48, 49, 50, 51, 53, 54, 55, 56, 57, 58, 59, 60, 61, 62, 63, 64, 65, 66] (by decide +kernel) (by decide +kernel)
set_option maxRecDepth 20000 in
theorem gX4_decideGroup_X4_lossFrom : GoodIn wsX4_decideGroup (wsV RX4 67 RX4 yX4_lossFrom wsX4_lossFrom) := goodIn_app (goodIn_of _ (by decide +kernel)) ggX4_decideGroup_X4_lossFrom
set_option maxRecDepth 20000 in
theorem ggX4_decideGroup_X0_mayBeTold : GoodIn wsX4_decideGroup wsX0_mayBeTold := goodIn_r _ [51] (by decide +kernel) (by decide +kernel)
set_option maxRecDepth 20000 in
theorem gX4_decideGroup_X0_mayBeTold : GoodIn wsX4_decideGroup (va_wsS RX4 71 yX0_mayBeTold wsX0_mayBeTold) := goodIn_app (goodIn_of _ (by decide +kernel)) ggX4_decideGroup_X0_mayBeTold
theorem dX4_decideGroup_0 : decode cX4_decideGroup 0 = .ok (.aload_n 0, 1) := by decide +kernel
theorem dX4_decideGroup_1 : decode cX4_decideGroup 1 = .ok (.getfield 32, 3) := by decide +kernel
theorem dX4_decideGroup_4 : decode cX4_decideGroup 4 = .ok (.iload_n 1, 1) := by decide +kernel
theorem dX4_decideGroup_5 : decode cX4_decideGroup 5 = .ok (.iload_n 2, 1) := by decide +kernel
theorem dX4_decideGroup_6 : decode cX4_decideGroup 6 = .ok (.invokevirtual 63, 3) := by decide +kernel
theorem dX4_decideGroup_9 : decode cX4_decideGroup 9 = .ok (.istore_n 3, 1) := by decide +kernel
theorem dX4_decideGroup_10 : decode cX4_decideGroup 10 = .ok (.iconst 0, 1) := by decide +kernel
theorem dX4_decideGroup_11 : decode cX4_decideGroup 11 = .ok (.istore 4, 2) := by decide +kernel
theorem dX4_decideGroup_13 : decode cX4_decideGroup 13 = .ok (.iload 4, 2) := by decide +kernel
theorem dX4_decideGroup_15 : decode cX4_decideGroup 15 = .ok (.bipush 7, 2) := by decide +kernel
theorem dX4_decideGroup_17 : decode cX4_decideGroup 17 = .ok (.iload_n 1, 1) := by decide +kernel
theorem dX4_decideGroup_18 : decode cX4_decideGroup 18 = .ok (.iadd, 1) := by decide +kernel
theorem dX4_decideGroup_19 : decode cX4_decideGroup 19 = .ok (.if_icmp .ge 79, 3) := by decide +kernel
theorem dX4_decideGroup_22 : decode cX4_decideGroup 22 = .ok (.aload_n 0, 1) := by decide +kernel
theorem dX4_decideGroup_23 : decode cX4_decideGroup 23 = .ok (.iload_n 1, 1) := by decide +kernel
theorem dX4_decideGroup_24 : decode cX4_decideGroup 24 = .ok (.iload_n 2, 1) := by decide +kernel
theorem dX4_decideGroup_25 : decode cX4_decideGroup 25 = .ok (.iload_n 3, 1) := by decide +kernel
theorem dX4_decideGroup_26 : decode cX4_decideGroup 26 = .ok (.iload 4, 2) := by decide +kernel
theorem dX4_decideGroup_28 : decode cX4_decideGroup 28 = .ok (.iconst 0, 1) := by decide +kernel
theorem dX4_decideGroup_29 : decode cX4_decideGroup 29 = .ok (.invokevirtual 67, 3) := by decide +kernel
theorem dX4_decideGroup_32 : decode cX4_decideGroup 32 = .ok (.lstore 5, 2) := by decide +kernel
theorem dX4_decideGroup_34 : decode cX4_decideGroup 34 = .ok (.iload 4, 2) := by decide +kernel
theorem dX4_decideGroup_36 : decode cX4_decideGroup 36 = .ok (.invokestatic 71, 3) := by decide +kernel
theorem dX4_decideGroup_39 : decode cX4_decideGroup 39 = .ok (.ifCond .eq 42, 3) := by decide +kernel
theorem dX4_decideGroup_42 : decode cX4_decideGroup 42 = .ok (.aload_n 0, 1) := by decide +kernel
theorem dX4_decideGroup_43 : decode cX4_decideGroup 43 = .ok (.iload_n 1, 1) := by decide +kernel
theorem dX4_decideGroup_44 : decode cX4_decideGroup 44 = .ok (.iload_n 2, 1) := by decide +kernel
theorem dX4_decideGroup_45 : decode cX4_decideGroup 45 = .ok (.iload_n 3, 1) := by decide +kernel
theorem dX4_decideGroup_46 : decode cX4_decideGroup 46 = .ok (.iload 4, 2) := by decide +kernel
theorem dX4_decideGroup_48 : decode cX4_decideGroup 48 = .ok (.iconst 1, 1) := by decide +kernel
theorem dX4_decideGroup_49 : decode cX4_decideGroup 49 = .ok (.invokevirtual 67, 3) := by decide +kernel
theorem dX4_decideGroup_52 : decode cX4_decideGroup 52 = .ok (.lstore 7, 2) := by decide +kernel
theorem dX4_decideGroup_54 : decode cX4_decideGroup 54 = .ok (.lload 7, 2) := by decide +kernel
theorem dX4_decideGroup_56 : decode cX4_decideGroup 56 = .ok (.lload 5, 2) := by decide +kernel
theorem dX4_decideGroup_58 : decode cX4_decideGroup 58 = .ok (.lcmp, 1) := by decide +kernel
theorem dX4_decideGroup_59 : decode cX4_decideGroup 59 = .ok (.ifCond .ge 22, 3) := by decide +kernel
theorem dX4_decideGroup_62 : decode cX4_decideGroup 62 = .ok (.lload 7, 2) := by decide +kernel
theorem dX4_decideGroup_64 : decode cX4_decideGroup 64 = .ok (.lstore 5, 2) := by decide +kernel
theorem dX4_decideGroup_66 : decode cX4_decideGroup 66 = .ok (.aload_n 0, 1) := by decide +kernel
theorem dX4_decideGroup_67 : decode cX4_decideGroup 67 = .ok (.getfield 11, 3) := by decide +kernel
theorem dX4_decideGroup_70 : decode cX4_decideGroup 70 = .ok (.iload_n 1, 1) := by decide +kernel
theorem dX4_decideGroup_71 : decode cX4_decideGroup 71 = .ok (.aaload, 1) := by decide +kernel
theorem dX4_decideGroup_72 : decode cX4_decideGroup 72 = .ok (.iload_n 2, 1) := by decide +kernel
theorem dX4_decideGroup_73 : decode cX4_decideGroup 73 = .ok (.dup2, 1) := by decide +kernel
theorem dX4_decideGroup_74 : decode cX4_decideGroup 74 = .ok (.iaload, 1) := by decide +kernel
theorem dX4_decideGroup_75 : decode cX4_decideGroup 75 = .ok (.iconst 1, 1) := by decide +kernel
theorem dX4_decideGroup_76 : decode cX4_decideGroup 76 = .ok (.iload 4, 2) := by decide +kernel
theorem dX4_decideGroup_78 : decode cX4_decideGroup 78 = .ok (.ishl, 1) := by decide +kernel
theorem dX4_decideGroup_79 : decode cX4_decideGroup 79 = .ok (.ior, 1) := by decide +kernel
theorem dX4_decideGroup_80 : decode cX4_decideGroup 80 = .ok (.iastore, 1) := by decide +kernel
theorem dX4_decideGroup_81 : decode cX4_decideGroup 81 = .ok (.aload_n 0, 1) := by decide +kernel
theorem dX4_decideGroup_82 : decode cX4_decideGroup 82 = .ok (.getfield 18, 3) := by decide +kernel
theorem dX4_decideGroup_85 : decode cX4_decideGroup 85 = .ok (.iload_n 2, 1) := by decide +kernel
theorem dX4_decideGroup_86 : decode cX4_decideGroup 86 = .ok (.aaload, 1) := by decide +kernel
theorem dX4_decideGroup_87 : decode cX4_decideGroup 87 = .ok (.iload 4, 2) := by decide +kernel
theorem dX4_decideGroup_89 : decode cX4_decideGroup 89 = .ok (.lload 5, 2) := by decide +kernel
theorem dX4_decideGroup_91 : decode cX4_decideGroup 91 = .ok (.lastore, 1) := by decide +kernel
theorem dX4_decideGroup_92 : decode cX4_decideGroup 92 = .ok (.iinc 4 1, 3) := by decide +kernel
theorem dX4_decideGroup_95 : decode cX4_decideGroup 95 = .ok (.goto (-82), 3) := by decide +kernel
theorem dX4_decideGroup_98 : decode cX4_decideGroup 98 = .ok (.return_, 1) := by decide +kernel
set_option maxRecDepth 20000 in
theorem ggX4_lossFrom_X0_lost : GoodIn wsX4_lossFrom wsX0_lost := goodIn_r _ [10, 11, 12, 13, 14, 15, 16, 17, 18, 9, 19, 20, 21, 22, 23, 24, 25, 26, 27, 28, 29, 48, 49, 50, 44, 45, 46, 47] (by decide +kernel) (by decide +kernel)
set_option maxRecDepth 20000 in
theorem gX4_lossFrom_X0_lost : GoodIn wsX4_lossFrom (wsV RX4 77 RX0 yX0_lost wsX0_lost) := goodIn_app (goodIn_of _ (by decide +kernel)) ggX4_lossFrom_X0_lost
set_option maxRecDepth 20000 in
theorem ggX4_lossFrom_X0_stands : GoodIn wsX4_lossFrom wsX0_stands := goodIn_r _ [19, 11, 48, 49, 50] (by decide +kernel) (by decide +kernel)
set_option maxRecDepth 20000 in
theorem gX4_lossFrom_X0_stands : GoodIn wsX4_lossFrom (wsV RX4 81 RX0 yX0_stands wsX0_stands) := goodIn_app (goodIn_of _ (by decide +kernel)) ggX4_lossFrom_X0_stands
set_option maxRecDepth 20000 in
theorem ggX4_lossFrom_X0_next : GoodIn wsX4_lossFrom wsX0_next := goodIn_r _ [33, 34, 35, 9, 36] (by decide +kernel) (by decide +kernel)
set_option maxRecDepth 20000 in
theorem gX4_lossFrom_X0_next : GoodIn wsX4_lossFrom (va_wsS RX4 85 yX0_next wsX0_next) := goodIn_app (goodIn_of _ (by decide +kernel)) ggX4_lossFrom_X0_next
theorem dX4_lossFrom_0 : decode cX4_lossFrom 0 = .ok (.iload_n 3, 1) := by decide +kernel
theorem dX4_lossFrom_1 : decode cX4_lossFrom 1 = .ok (.i2l, 1) := by decide +kernel
theorem dX4_lossFrom_2 : decode cX4_lossFrom 2 = .ok (.aload_n 0, 1) := by decide +kernel
theorem dX4_lossFrom_3 : decode cX4_lossFrom 3 = .ok (.getfield 36, 3) := by decide +kernel
theorem dX4_lossFrom_6 : decode cX4_lossFrom 6 = .ok (.iload_n 2, 1) := by decide +kernel
theorem dX4_lossFrom_7 : decode cX4_lossFrom 7 = .ok (.iload_n 1, 1) := by decide +kernel
theorem dX4_lossFrom_8 : decode cX4_lossFrom 8 = .ok (.iload 4, 2) := by decide +kernel
theorem dX4_lossFrom_10 : decode cX4_lossFrom 10 = .ok (.iload 5, 2) := by decide +kernel
theorem dX4_lossFrom_12 : decode cX4_lossFrom 12 = .ok (.invokevirtual 77, 3) := by decide +kernel
theorem dX4_lossFrom_15 : decode cX4_lossFrom 15 = .ok (.i2l, 1) := by decide +kernel
theorem dX4_lossFrom_16 : decode cX4_lossFrom 16 = .ok (.lmul, 1) := by decide +kernel
theorem dX4_lossFrom_17 : decode cX4_lossFrom 17 = .ok (.lstore 6, 2) := by decide +kernel
theorem dX4_lossFrom_19 : decode cX4_lossFrom 19 = .ok (.iload_n 1, 1) := by decide +kernel
theorem dX4_lossFrom_20 : decode cX4_lossFrom 20 = .ok (.bipush 7, 2) := by decide +kernel
theorem dX4_lossFrom_22 : decode cX4_lossFrom 22 = .ok (.if_icmp .ne 6, 3) := by decide +kernel
theorem dX4_lossFrom_25 : decode cX4_lossFrom 25 = .ok (.lload 6, 2) := by decide +kernel
theorem dX4_lossFrom_27 : decode cX4_lossFrom 27 = .ok (.lreturn, 1) := by decide +kernel
theorem dX4_lossFrom_28 : decode cX4_lossFrom 28 = .ok (.aload_n 0, 1) := by decide +kernel
theorem dX4_lossFrom_29 : decode cX4_lossFrom 29 = .ok (.getfield 36, 3) := by decide +kernel
theorem dX4_lossFrom_32 : decode cX4_lossFrom 32 = .ok (.iload 4, 2) := by decide +kernel
theorem dX4_lossFrom_34 : decode cX4_lossFrom 34 = .ok (.iload 5, 2) := by decide +kernel
theorem dX4_lossFrom_36 : decode cX4_lossFrom 36 = .ok (.invokevirtual 81, 3) := by decide +kernel
theorem dX4_lossFrom_39 : decode cX4_lossFrom 39 = .ok (.iload_n 1, 1) := by decide +kernel
theorem dX4_lossFrom_40 : decode cX4_lossFrom 40 = .ok (.invokestatic 85, 3) := by decide +kernel
theorem dX4_lossFrom_43 : decode cX4_lossFrom 43 = .ok (.istore 8, 2) := by decide +kernel
theorem dX4_lossFrom_45 : decode cX4_lossFrom 45 = .ok (.iload_n 2, 1) := by decide +kernel
theorem dX4_lossFrom_46 : decode cX4_lossFrom 46 = .ok (.istore 9, 2) := by decide +kernel
theorem dX4_lossFrom_48 : decode cX4_lossFrom 48 = .ok (.iload 9, 2) := by decide +kernel
theorem dX4_lossFrom_50 : decode cX4_lossFrom 50 = .ok (.aload_n 0, 1) := by decide +kernel
theorem dX4_lossFrom_51 : decode cX4_lossFrom 51 = .ok (.getfield 32, 3) := by decide +kernel
theorem dX4_lossFrom_54 : decode cX4_lossFrom 54 = .ok (.getfield 44, 3) := by decide +kernel
theorem dX4_lossFrom_57 : decode cX4_lossFrom 57 = .ok (.if_icmp .ge 59, 3) := by decide +kernel
theorem dX4_lossFrom_60 : decode cX4_lossFrom 60 = .ok (.aload_n 0, 1) := by decide +kernel
theorem dX4_lossFrom_61 : decode cX4_lossFrom 61 = .ok (.getfield 32, 3) := by decide +kernel
theorem dX4_lossFrom_64 : decode cX4_lossFrom 64 = .ok (.getfield 50, 3) := by decide +kernel
theorem dX4_lossFrom_67 : decode cX4_lossFrom 67 = .ok (.iload_n 1, 1) := by decide +kernel
theorem dX4_lossFrom_68 : decode cX4_lossFrom 68 = .ok (.aaload, 1) := by decide +kernel
theorem dX4_lossFrom_69 : decode cX4_lossFrom 69 = .ok (.iload 9, 2) := by decide +kernel
theorem dX4_lossFrom_71 : decode cX4_lossFrom 71 = .ok (.iaload, 1) := by decide +kernel
theorem dX4_lossFrom_72 : decode cX4_lossFrom 72 = .ok (.iload_n 2, 1) := by decide +kernel
theorem dX4_lossFrom_73 : decode cX4_lossFrom 73 = .ok (.if_icmp .ne 37, 3) := by decide +kernel
theorem dX4_lossFrom_76 : decode cX4_lossFrom 76 = .ok (.aload_n 0, 1) := by decide +kernel
theorem dX4_lossFrom_77 : decode cX4_lossFrom 77 = .ok (.getfield 32, 3) := by decide +kernel
theorem dX4_lossFrom_80 : decode cX4_lossFrom 80 = .ok (.getfield 50, 3) := by decide +kernel
theorem dX4_lossFrom_83 : decode cX4_lossFrom 83 = .ok (.iload_n 1, 1) := by decide +kernel
theorem dX4_lossFrom_84 : decode cX4_lossFrom 84 = .ok (.iconst 1, 1) := by decide +kernel
theorem dX4_lossFrom_85 : decode cX4_lossFrom 85 = .ok (.iadd, 1) := by decide +kernel
theorem dX4_lossFrom_86 : decode cX4_lossFrom 86 = .ok (.aaload, 1) := by decide +kernel
theorem dX4_lossFrom_87 : decode cX4_lossFrom 87 = .ok (.iload 9, 2) := by decide +kernel
theorem dX4_lossFrom_89 : decode cX4_lossFrom 89 = .ok (.iaload, 1) := by decide +kernel
theorem dX4_lossFrom_90 : decode cX4_lossFrom 90 = .ok (.iload 9, 2) := by decide +kernel
theorem dX4_lossFrom_92 : decode cX4_lossFrom 92 = .ok (.if_icmp .ne 18, 3) := by decide +kernel
theorem dX4_lossFrom_95 : decode cX4_lossFrom 95 = .ok (.lload 6, 2) := by decide +kernel
theorem dX4_lossFrom_97 : decode cX4_lossFrom 97 = .ok (.aload_n 0, 1) := by decide +kernel
theorem dX4_lossFrom_98 : decode cX4_lossFrom 98 = .ok (.getfield 21, 3) := by decide +kernel
theorem dX4_lossFrom_101 : decode cX4_lossFrom 101 = .ok (.iload 9, 2) := by decide +kernel
theorem dX4_lossFrom_103 : decode cX4_lossFrom 103 = .ok (.aaload, 1) := by decide +kernel
theorem dX4_lossFrom_104 : decode cX4_lossFrom 104 = .ok (.iload 8, 2) := by decide +kernel
theorem dX4_lossFrom_106 : decode cX4_lossFrom 106 = .ok (.laload, 1) := by decide +kernel
theorem dX4_lossFrom_107 : decode cX4_lossFrom 107 = .ok (.ladd, 1) := by decide +kernel
theorem dX4_lossFrom_108 : decode cX4_lossFrom 108 = .ok (.lstore 6, 2) := by decide +kernel
theorem dX4_lossFrom_110 : decode cX4_lossFrom 110 = .ok (.iinc 9 1, 3) := by decide +kernel
theorem dX4_lossFrom_113 : decode cX4_lossFrom 113 = .ok (.goto (-65), 3) := by decide +kernel
theorem dX4_lossFrom_116 : decode cX4_lossFrom 116 = .ok (.lload 6, 2) := by decide +kernel
theorem dX4_lossFrom_118 : decode cX4_lossFrom 118 = .ok (.lreturn, 1) := by decide +kernel
theorem dX4_tells_0 : decode cX4_tells 0 = .ok (.aload_n 0, 1) := by decide +kernel
theorem dX4_tells_1 : decode cX4_tells 1 = .ok (.getfield 11, 3) := by decide +kernel
theorem dX4_tells_4 : decode cX4_tells 4 = .ok (.iload_n 1, 1) := by decide +kernel
theorem dX4_tells_5 : decode cX4_tells 5 = .ok (.aaload, 1) := by decide +kernel
theorem dX4_tells_6 : decode cX4_tells 6 = .ok (.aload_n 0, 1) := by decide +kernel
theorem dX4_tells_7 : decode cX4_tells 7 = .ok (.getfield 32, 3) := by decide +kernel
theorem dX4_tells_10 : decode cX4_tells 10 = .ok (.getfield 50, 3) := by decide +kernel
theorem dX4_tells_13 : decode cX4_tells 13 = .ok (.iload_n 1, 1) := by decide +kernel
theorem dX4_tells_14 : decode cX4_tells 14 = .ok (.aaload, 1) := by decide +kernel
theorem dX4_tells_15 : decode cX4_tells 15 = .ok (.iload_n 2, 1) := by decide +kernel
theorem dX4_tells_16 : decode cX4_tells 16 = .ok (.iaload, 1) := by decide +kernel
theorem dX4_tells_17 : decode cX4_tells 17 = .ok (.iaload, 1) := by decide +kernel
theorem dX4_tells_18 : decode cX4_tells 18 = .ok (.iload_n 3, 1) := by decide +kernel
theorem dX4_tells_19 : decode cX4_tells 19 = .ok (.ishr, 1) := by decide +kernel
theorem dX4_tells_20 : decode cX4_tells 20 = .ok (.iconst 1, 1) := by decide +kernel
theorem dX4_tells_21 : decode cX4_tells 21 = .ok (.iand, 1) := by decide +kernel
theorem dX4_tells_22 : decode cX4_tells 22 = .ok (.iconst 1, 1) := by decide +kernel
theorem dX4_tells_23 : decode cX4_tells 23 = .ok (.if_icmp .ne 7, 3) := by decide +kernel
theorem dX4_tells_26 : decode cX4_tells 26 = .ok (.iconst 1, 1) := by decide +kernel
theorem dX4_tells_27 : decode cX4_tells 27 = .ok (.goto 4, 3) := by decide +kernel
theorem dX4_tells_30 : decode cX4_tells 30 = .ok (.iconst 0, 1) := by decide +kernel
theorem dX4_tells_31 : decode cX4_tells 31 = .ok (.ireturn, 1) := by decide +kernel
set_option maxRecDepth 20000 in
theorem ggX4_stateAt_X4_tells : GoodIn wsX4_stateAt wsX4_tells := goodIn_r _ [6, 7, 8, 9, 22, 23, 24, 25, 26, 27, 28, 29, 30, 31, 32] (by decide +kernel) (by decide +kernel)
set_option maxRecDepth 20000 in
theorem gX4_stateAt_X4_tells : GoodIn wsX4_stateAt (wsV RX4 88 RX4 yX4_tells wsX4_tells) := goodIn_app (goodIn_of _ (by decide +kernel)) ggX4_stateAt_X4_tells
set_option maxRecDepth 20000 in
theorem ggX4_stateAt_X0_stands : GoodIn wsX4_stateAt wsX0_stands := goodIn_r _ [14, 15, 33, 34, 35] (by decide +kernel) (by decide +kernel)
set_option maxRecDepth 20000 in
theorem gX4_stateAt_X0_stands : GoodIn wsX4_stateAt (wsV RX4 81 RX0 yX0_stands wsX0_stands) := goodIn_app (goodIn_of _ (by decide +kernel)) ggX4_stateAt_X0_stands
set_option maxRecDepth 20000 in
theorem ggX4_stateAt_X0_next : GoodIn wsX4_stateAt wsX0_next := goodIn_r _ [18, 19, 20, 13, 21] (by decide +kernel) (by decide +kernel)
set_option maxRecDepth 20000 in
theorem gX4_stateAt_X0_next : GoodIn wsX4_stateAt (va_wsS RX4 85 yX0_next wsX0_next) := goodIn_app (goodIn_of _ (by decide +kernel)) ggX4_stateAt_X0_next
theorem dX4_stateAt_0 : decode cX4_stateAt 0 = .ok (.iconst 0, 1) := by decide +kernel
theorem dX4_stateAt_1 : decode cX4_stateAt 1 = .ok (.istore_n 3, 1) := by decide +kernel
theorem dX4_stateAt_2 : decode cX4_stateAt 2 = .ok (.iconst 0, 1) := by decide +kernel
theorem dX4_stateAt_3 : decode cX4_stateAt 3 = .ok (.istore 4, 2) := by decide +kernel
theorem dX4_stateAt_5 : decode cX4_stateAt 5 = .ok (.iload 4, 2) := by decide +kernel
theorem dX4_stateAt_7 : decode cX4_stateAt 7 = .ok (.iload_n 2, 1) := by decide +kernel
theorem dX4_stateAt_8 : decode cX4_stateAt 8 = .ok (.if_icmp .ge 31, 3) := by decide +kernel
theorem dX4_stateAt_11 : decode cX4_stateAt 11 = .ok (.aload_n 0, 1) := by decide +kernel
theorem dX4_stateAt_12 : decode cX4_stateAt 12 = .ok (.getfield 36, 3) := by decide +kernel
theorem dX4_stateAt_15 : decode cX4_stateAt 15 = .ok (.iload_n 3, 1) := by decide +kernel
theorem dX4_stateAt_16 : decode cX4_stateAt 16 = .ok (.aload_n 0, 1) := by decide +kernel
theorem dX4_stateAt_17 : decode cX4_stateAt 17 = .ok (.iload 4, 2) := by decide +kernel
theorem dX4_stateAt_19 : decode cX4_stateAt 19 = .ok (.iload_n 1, 1) := by decide +kernel
theorem dX4_stateAt_20 : decode cX4_stateAt 20 = .ok (.iload_n 3, 1) := by decide +kernel
theorem dX4_stateAt_21 : decode cX4_stateAt 21 = .ok (.invokevirtual 88, 3) := by decide +kernel
theorem dX4_stateAt_24 : decode cX4_stateAt 24 = .ok (.invokevirtual 81, 3) := by decide +kernel
theorem dX4_stateAt_27 : decode cX4_stateAt 27 = .ok (.iload 4, 2) := by decide +kernel
theorem dX4_stateAt_29 : decode cX4_stateAt 29 = .ok (.invokestatic 85, 3) := by decide +kernel
theorem dX4_stateAt_32 : decode cX4_stateAt 32 = .ok (.istore_n 3, 1) := by decide +kernel
theorem dX4_stateAt_33 : decode cX4_stateAt 33 = .ok (.iinc 4 1, 3) := by decide +kernel
theorem dX4_stateAt_36 : decode cX4_stateAt 36 = .ok (.goto (-31), 3) := by decide +kernel
theorem dX4_stateAt_39 : decode cX4_stateAt 39 = .ok (.iload_n 3, 1) := by decide +kernel
theorem dX4_stateAt_40 : decode cX4_stateAt 40 = .ok (.ireturn, 1) := by decide +kernel
theorem dX5_init_0 : decode cX5_init 0 = .ok (.aload_n 0, 1) := by decide +kernel
theorem dX5_init_1 : decode cX5_init 1 = .ok (.invokespecial 3, 3) := by decide +kernel
theorem dX5_init_4 : decode cX5_init 4 = .ok (.aload_n 0, 1) := by decide +kernel
theorem dX5_init_5 : decode cX5_init 5 = .ok (.bipush 6, 2) := by decide +kernel
theorem dX5_init_7 : decode cX5_init 7 = .ok (.anewarray 9, 3) := by decide +kernel
theorem dX5_init_10 : decode cX5_init 10 = .ok (.putfield 11, 3) := by decide +kernel
theorem dX5_init_13 : decode cX5_init 13 = .ok (.aload_n 0, 1) := by decide +kernel
theorem dX5_init_14 : decode cX5_init 14 = .ok (.iconst 3, 1) := by decide +kernel
theorem dX5_init_15 : decode cX5_init 15 = .ok (.newarray .int, 2) := by decide +kernel
theorem dX5_init_17 : decode cX5_init 17 = .ok (.putfield 17, 3) := by decide +kernel
theorem dX5_init_20 : decode cX5_init 20 = .ok (.aload_n 0, 1) := by decide +kernel
theorem dX5_init_21 : decode cX5_init 21 = .ok (.iconst 0, 1) := by decide +kernel
theorem dX5_init_22 : decode cX5_init 22 = .ok (.putfield 21, 3) := by decide +kernel
theorem dX5_init_25 : decode cX5_init 25 = .ok (.return_, 1) := by decide +kernel
theorem dX5_add_0 : decode cX5_add 0 = .ok (.aload_n 0, 1) := by decide +kernel
theorem dX5_add_1 : decode cX5_add 1 = .ok (.getfield 11, 3) := by decide +kernel
theorem dX5_add_4 : decode cX5_add 4 = .ok (.aload_n 0, 1) := by decide +kernel
theorem dX5_add_5 : decode cX5_add 5 = .ok (.getfield 21, 3) := by decide +kernel
theorem dX5_add_8 : decode cX5_add 8 = .ok (.aload_n 1, 1) := by decide +kernel
theorem dX5_add_9 : decode cX5_add 9 = .ok (.aastore, 1) := by decide +kernel
theorem dX5_add_10 : decode cX5_add 10 = .ok (.aload_n 0, 1) := by decide +kernel
theorem dX5_add_11 : decode cX5_add 11 = .ok (.dup, 1) := by decide +kernel
theorem dX5_add_12 : decode cX5_add 12 = .ok (.getfield 21, 3) := by decide +kernel
theorem dX5_add_15 : decode cX5_add 15 = .ok (.iconst 1, 1) := by decide +kernel
theorem dX5_add_16 : decode cX5_add 16 = .ok (.iadd, 1) := by decide +kernel
theorem dX5_add_17 : decode cX5_add 17 = .ok (.putfield 21, 3) := by decide +kernel
theorem dX5_add_20 : decode cX5_add 20 = .ok (.aload_n 0, 1) := by decide +kernel
theorem dX5_add_21 : decode cX5_add 21 = .ok (.getfield 21, 3) := by decide +kernel
theorem dX5_add_24 : decode cX5_add 24 = .ok (.iconst 1, 1) := by decide +kernel
theorem dX5_add_25 : decode cX5_add 25 = .ok (.isub, 1) := by decide +kernel
theorem dX5_add_26 : decode cX5_add 26 = .ok (.ireturn, 1) := by decide +kernel
set_option maxRecDepth 20000 in
theorem ggX5_at_X11_within : GoodIn wsX5_at wsX11_within := goodIn_r _ [5] (by decide +kernel) (by decide +kernel)
set_option maxRecDepth 20000 in
theorem gX5_at_X11_within_n25 : GoodIn wsX5_at (wsX11_within) := ggX5_at_X11_within
theorem dX5_at_0 : decode cX5_at 0 = .ok (.iload_n 1, 1) := by decide +kernel
theorem dX5_at_1 : decode cX5_at 1 = .ok (.iconst 0, 1) := by decide +kernel
theorem dX5_at_2 : decode cX5_at 2 = .ok (.aload_n 0, 1) := by decide +kernel
theorem dX5_at_3 : decode cX5_at 3 = .ok (.getfield 21, 3) := by decide +kernel
theorem dX5_at_6 : decode cX5_at 6 = .ok (.iconst 1, 1) := by decide +kernel
theorem dX5_at_7 : decode cX5_at 7 = .ok (.isub, 1) := by decide +kernel
theorem dX5_at_8 : decode cX5_at 8 = .ok (.invokestatic 25, 3) := by decide +kernel
theorem dX5_at_11 : decode cX5_at 11 = .ok (.ifCond .eq 12, 3) := by decide +kernel
theorem dX5_at_14 : decode cX5_at 14 = .ok (.aload_n 0, 1) := by decide +kernel
theorem dX5_at_15 : decode cX5_at 15 = .ok (.getfield 11, 3) := by decide +kernel
theorem dX5_at_18 : decode cX5_at 18 = .ok (.iload_n 1, 1) := by decide +kernel
theorem dX5_at_19 : decode cX5_at 19 = .ok (.aaload, 1) := by decide +kernel
theorem dX5_at_20 : decode cX5_at 20 = .ok (.goto 4, 3) := by decide +kernel
theorem dX5_at_23 : decode cX5_at 23 = .ok (.aconst_null, 1) := by decide +kernel
theorem dX5_at_24 : decode cX5_at 24 = .ok (.areturn, 1) := by decide +kernel
theorem dX5_failedOnes_0 : decode cX5_failedOnes 0 = .ok (.iconst 0, 1) := by decide +kernel
theorem dX5_failedOnes_1 : decode cX5_failedOnes 1 = .ok (.istore_n 1, 1) := by decide +kernel
theorem dX5_failedOnes_2 : decode cX5_failedOnes 2 = .ok (.aload_n 0, 1) := by decide +kernel
theorem dX5_failedOnes_3 : decode cX5_failedOnes 3 = .ok (.getfield 11, 3) := by decide +kernel
theorem dX5_failedOnes_6 : decode cX5_failedOnes 6 = .ok (.astore_n 2, 1) := by decide +kernel
theorem dX5_failedOnes_7 : decode cX5_failedOnes 7 = .ok (.aload_n 2, 1) := by decide +kernel
theorem dX5_failedOnes_8 : decode cX5_failedOnes 8 = .ok (.arraylength, 1) := by decide +kernel
theorem dX5_failedOnes_9 : decode cX5_failedOnes 9 = .ok (.istore_n 3, 1) := by decide +kernel
theorem dX5_failedOnes_10 : decode cX5_failedOnes 10 = .ok (.iconst 0, 1) := by decide +kernel
theorem dX5_failedOnes_11 : decode cX5_failedOnes 11 = .ok (.istore 4, 2) := by decide +kernel
theorem dX5_failedOnes_13 : decode cX5_failedOnes 13 = .ok (.iload 4, 2) := by decide +kernel
theorem dX5_failedOnes_15 : decode cX5_failedOnes 15 = .ok (.iload_n 3, 1) := by decide +kernel
theorem dX5_failedOnes_16 : decode cX5_failedOnes 16 = .ok (.if_icmp .ge 31, 3) := by decide +kernel
theorem dX5_failedOnes_19 : decode cX5_failedOnes 19 = .ok (.aload_n 2, 1) := by decide +kernel
theorem dX5_failedOnes_20 : decode cX5_failedOnes 20 = .ok (.iload 4, 2) := by decide +kernel
theorem dX5_failedOnes_22 : decode cX5_failedOnes 22 = .ok (.aaload, 1) := by decide +kernel
theorem dX5_failedOnes_23 : decode cX5_failedOnes 23 = .ok (.astore 5, 2) := by decide +kernel
theorem dX5_failedOnes_25 : decode cX5_failedOnes 25 = .ok (.aload 5, 2) := by decide +kernel
theorem dX5_failedOnes_27 : decode cX5_failedOnes 27 = .ok (.ifnull 14, 3) := by decide +kernel
theorem dX5_failedOnes_30 : decode cX5_failedOnes 30 = .ok (.aload 5, 2) := by decide +kernel
theorem dX5_failedOnes_32 : decode cX5_failedOnes 32 = .ok (.getfield 29, 3) := by decide +kernel
theorem dX5_failedOnes_35 : decode cX5_failedOnes 35 = .ok (.ifCond .eq 6, 3) := by decide +kernel
theorem dX5_failedOnes_38 : decode cX5_failedOnes 38 = .ok (.iinc 1 1, 3) := by decide +kernel
theorem dX5_failedOnes_41 : decode cX5_failedOnes 41 = .ok (.iinc 4 1, 3) := by decide +kernel
theorem dX5_failedOnes_44 : decode cX5_failedOnes 44 = .ok (.goto (-31), 3) := by decide +kernel
theorem dX5_failedOnes_47 : decode cX5_failedOnes 47 = .ok (.iload_n 1, 1) := by decide +kernel
theorem dX5_failedOnes_48 : decode cX5_failedOnes 48 = .ok (.ireturn, 1) := by decide +kernel
set_option maxRecDepth 20000 in
theorem ggX5_timeToShut_J7_fill_53178 : GoodIn wsX5_timeToShut wsJ7_fill_53178 := goodIn_r _ [14] (by decide +kernel) (by decide +kernel)
set_option maxRecDepth 20000 in
theorem gX5_timeToShut_J7_fill_53178 : GoodIn wsX5_timeToShut (va_wsS RX5 33 yJ7_fill_53178 wsJ7_fill_53178) := goodIn_app (goodIn_of _ (by decide +kernel)) ggX5_timeToShut_J7_fill_53178
set_option maxRecDepth 20000 in
theorem ggX5_timeToShut_X5_endByHand : GoodIn wsX5_timeToShut wsX5_endByHand := goodIn_r _ [19, 1, 20, 21, 22] (by decide +kernel) (by decide +kernel)
set_option maxRecDepth 20000 in
theorem gX5_timeToShut_X5_endByHand : GoodIn wsX5_timeToShut (wsV RX5 46 RX5 yX5_endByHand wsX5_endByHand) := goodIn_app (goodIn_of _ (by decide +kernel)) ggX5_timeToShut_X5_endByHand
theorem dX5_timeToShut_0 : decode cX5_timeToShut 0 = .ok (.aload_n 0, 1) := by decide +kernel
theorem dX5_timeToShut_1 : decode cX5_timeToShut 1 = .ok (.getfield 17, 3) := by decide +kernel
theorem dX5_timeToShut_4 : decode cX5_timeToShut 4 = .ok (.iconst 0, 1) := by decide +kernel
theorem dX5_timeToShut_5 : decode cX5_timeToShut 5 = .ok (.invokestatic 33, 3) := by decide +kernel
theorem dX5_timeToShut_8 : decode cX5_timeToShut 8 = .ok (.iconst 0, 1) := by decide +kernel
theorem dX5_timeToShut_9 : decode cX5_timeToShut 9 = .ok (.istore_n 3, 1) := by decide +kernel
theorem dX5_timeToShut_10 : decode cX5_timeToShut 10 = .ok (.iconst 0, 1) := by decide +kernel
theorem dX5_timeToShut_11 : decode cX5_timeToShut 11 = .ok (.istore 4, 2) := by decide +kernel
theorem dX5_timeToShut_13 : decode cX5_timeToShut 13 = .ok (.iload 4, 2) := by decide +kernel
theorem dX5_timeToShut_15 : decode cX5_timeToShut 15 = .ok (.bipush 6, 2) := by decide +kernel
theorem dX5_timeToShut_17 : decode cX5_timeToShut 17 = .ok (.if_icmp .ge 77, 3) := by decide +kernel
theorem dX5_timeToShut_20 : decode cX5_timeToShut 20 = .ok (.aload_n 0, 1) := by decide +kernel
theorem dX5_timeToShut_21 : decode cX5_timeToShut 21 = .ok (.getfield 11, 3) := by decide +kernel
theorem dX5_timeToShut_24 : decode cX5_timeToShut 24 = .ok (.iload 4, 2) := by decide +kernel
theorem dX5_timeToShut_26 : decode cX5_timeToShut 26 = .ok (.aaload, 1) := by decide +kernel
theorem dX5_timeToShut_27 : decode cX5_timeToShut 27 = .ok (.astore 5, 2) := by decide +kernel
theorem dX5_timeToShut_29 : decode cX5_timeToShut 29 = .ok (.aload 5, 2) := by decide +kernel
theorem dX5_timeToShut_31 : decode cX5_timeToShut 31 = .ok (.ifnonnull 6, 3) := by decide +kernel
theorem dX5_timeToShut_34 : decode cX5_timeToShut 34 = .ok (.goto 54, 3) := by decide +kernel
theorem dX5_timeToShut_37 : decode cX5_timeToShut 37 = .ok (.aload 5, 2) := by decide +kernel
theorem dX5_timeToShut_39 : decode cX5_timeToShut 39 = .ok (.getfield 39, 3) := by decide +kernel
theorem dX5_timeToShut_42 : decode cX5_timeToShut 42 = .ok (.istore 6, 2) := by decide +kernel
theorem dX5_timeToShut_44 : decode cX5_timeToShut 44 = .ok (.aload 5, 2) := by decide +kernel
theorem dX5_timeToShut_46 : decode cX5_timeToShut 46 = .ok (.getfield 29, 3) := by decide +kernel
theorem dX5_timeToShut_49 : decode cX5_timeToShut 49 = .ok (.ifCond .ne 9, 3) := by decide +kernel
theorem dX5_timeToShut_52 : decode cX5_timeToShut 52 = .ok (.iload 4, 2) := by decide +kernel
theorem dX5_timeToShut_54 : decode cX5_timeToShut 54 = .ok (.iload_n 2, 1) := by decide +kernel
theorem dX5_timeToShut_55 : decode cX5_timeToShut 55 = .ok (.if_icmp .ne 26, 3) := by decide +kernel
theorem dX5_timeToShut_58 : decode cX5_timeToShut 58 = .ok (.aload 5, 2) := by decide +kernel
theorem dX5_timeToShut_60 : decode cX5_timeToShut 60 = .ok (.getfield 42, 3) := by decide +kernel
theorem dX5_timeToShut_63 : decode cX5_timeToShut 63 = .ok (.ifCond .ne 6, 3) := by decide +kernel
theorem dX5_timeToShut_66 : decode cX5_timeToShut 66 = .ok (.ldc 45, 2) := by decide +kernel
theorem dX5_timeToShut_68 : decode cX5_timeToShut 68 = .ok (.ireturn, 1) := by decide +kernel
theorem dX5_timeToShut_69 : decode cX5_timeToShut 69 = .ok (.aload_n 0, 1) := by decide +kernel
theorem dX5_timeToShut_70 : decode cX5_timeToShut 70 = .ok (.iload_n 1, 1) := by decide +kernel
theorem dX5_timeToShut_71 : decode cX5_timeToShut 71 = .ok (.aload 5, 2) := by decide +kernel
theorem dX5_timeToShut_73 : decode cX5_timeToShut 73 = .ok (.getfield 42, 3) := by decide +kernel
theorem dX5_timeToShut_76 : decode cX5_timeToShut 76 = .ok (.invokevirtual 46, 3) := by decide +kernel
theorem dX5_timeToShut_79 : decode cX5_timeToShut 79 = .ok (.istore 6, 2) := by decide +kernel
theorem dX5_timeToShut_81 : decode cX5_timeToShut 81 = .ok (.iload_n 3, 1) := by decide +kernel
theorem dX5_timeToShut_82 : decode cX5_timeToShut 82 = .ok (.iload 6, 2) := by decide +kernel
theorem dX5_timeToShut_84 : decode cX5_timeToShut 84 = .ok (.invokestatic 50, 3) := by decide +kernel
theorem dX5_timeToShut_87 : decode cX5_timeToShut 87 = .ok (.istore_n 3, 1) := by decide +kernel
theorem dX5_timeToShut_88 : decode cX5_timeToShut 88 = .ok (.iinc 4 1, 3) := by decide +kernel
theorem dX5_timeToShut_91 : decode cX5_timeToShut 91 = .ok (.goto (-78), 3) := by decide +kernel
theorem dX5_timeToShut_94 : decode cX5_timeToShut 94 = .ok (.iload_n 3, 1) := by decide +kernel
theorem dX5_timeToShut_95 : decode cX5_timeToShut 95 = .ok (.ireturn, 1) := by decide +kernel
theorem dX5_endByHand_0 : decode cX5_endByHand 0 = .ok (.iconst 0, 1) := by decide +kernel
theorem dX5_endByHand_1 : decode cX5_endByHand 1 = .ok (.istore_n 3, 1) := by decide +kernel
theorem dX5_endByHand_2 : decode cX5_endByHand 2 = .ok (.iconst 1, 1) := by decide +kernel
theorem dX5_endByHand_3 : decode cX5_endByHand 3 = .ok (.istore 4, 2) := by decide +kernel
theorem dX5_endByHand_5 : decode cX5_endByHand 5 = .ok (.iload 4, 2) := by decide +kernel
theorem dX5_endByHand_7 : decode cX5_endByHand 7 = .ok (.iload_n 1, 1) := by decide +kernel
theorem dX5_endByHand_8 : decode cX5_endByHand 8 = .ok (.if_icmp .ge 28, 3) := by decide +kernel
theorem dX5_endByHand_11 : decode cX5_endByHand 11 = .ok (.aload_n 0, 1) := by decide +kernel
theorem dX5_endByHand_12 : decode cX5_endByHand 12 = .ok (.getfield 17, 3) := by decide +kernel
theorem dX5_endByHand_15 : decode cX5_endByHand 15 = .ok (.iload 4, 2) := by decide +kernel
theorem dX5_endByHand_17 : decode cX5_endByHand 17 = .ok (.iaload, 1) := by decide +kernel
theorem dX5_endByHand_18 : decode cX5_endByHand 18 = .ok (.aload_n 0, 1) := by decide +kernel
theorem dX5_endByHand_19 : decode cX5_endByHand 19 = .ok (.getfield 17, 3) := by decide +kernel
theorem dX5_endByHand_22 : decode cX5_endByHand 22 = .ok (.iload_n 3, 1) := by decide +kernel
theorem dX5_endByHand_23 : decode cX5_endByHand 23 = .ok (.iaload, 1) := by decide +kernel
theorem dX5_endByHand_24 : decode cX5_endByHand 24 = .ok (.if_icmp .ge 6, 3) := by decide +kernel
theorem dX5_endByHand_27 : decode cX5_endByHand 27 = .ok (.iload 4, 2) := by decide +kernel
theorem dX5_endByHand_29 : decode cX5_endByHand 29 = .ok (.istore_n 3, 1) := by decide +kernel
theorem dX5_endByHand_30 : decode cX5_endByHand 30 = .ok (.iinc 4 1, 3) := by decide +kernel
theorem dX5_endByHand_33 : decode cX5_endByHand 33 = .ok (.goto (-28), 3) := by decide +kernel
theorem dX5_endByHand_36 : decode cX5_endByHand 36 = .ok (.aload_n 0, 1) := by decide +kernel
theorem dX5_endByHand_37 : decode cX5_endByHand 37 = .ok (.getfield 17, 3) := by decide +kernel
theorem dX5_endByHand_40 : decode cX5_endByHand 40 = .ok (.iload_n 3, 1) := by decide +kernel
theorem dX5_endByHand_41 : decode cX5_endByHand 41 = .ok (.dup2, 1) := by decide +kernel
theorem dX5_endByHand_42 : decode cX5_endByHand 42 = .ok (.iaload, 1) := by decide +kernel
theorem dX5_endByHand_43 : decode cX5_endByHand 43 = .ok (.iload_n 2, 1) := by decide +kernel
theorem dX5_endByHand_44 : decode cX5_endByHand 44 = .ok (.iadd, 1) := by decide +kernel
theorem dX5_endByHand_45 : decode cX5_endByHand 45 = .ok (.iastore, 1) := by decide +kernel
end
section
theorem dX5_endByHand_46 : decode cX5_endByHand 46 = .ok (.aload_n 0, 1) := by decide +kernel
theorem dX5_endByHand_47 : decode cX5_endByHand 47 = .ok (.getfield 17, 3) := by decide +kernel
theorem dX5_endByHand_50 : decode cX5_endByHand 50 = .ok (.iload_n 3, 1) := by decide +kernel
theorem dX5_endByHand_51 : decode cX5_endByHand 51 = .ok (.iaload, 1) := by decide +kernel
theorem dX5_endByHand_52 : decode cX5_endByHand 52 = .ok (.ireturn, 1) := by decide +kernel
set_option maxRecDepth 20000 in
theorem ggX5_worstTime_X5_failedOnes : GoodIn wsX5_worstTime wsX5_failedOnes := goodIn_r _ [13, 3, 4, 29, 30, 31, 32, 33, 34, 35, 36, 37, 38, 39, 40, 41, 42, 43] (by decide +kernel) (by decide +kernel)
set_option maxRecDepth 20000 in
theorem gX5_worstTime_X5_failedOnes : GoodIn wsX5_worstTime (wsV RX5 55 RX5 yX5_failedOnes wsX5_failedOnes) := goodIn_app (goodIn_of _ (by decide +kernel)) ggX5_worstTime_X5_failedOnes
set_option maxRecDepth 20000 in
theorem ggX5_worstTime_X5_timeToShut : GoodIn wsX5_worstTime wsX5_timeToShut := goodIn_r _ [17, 18, 3, 19, 4, 20, 2, 5, 6, 7, 8, 21, 22, 23, 24, 25, 26, 27, 12, 28, 29, 30, 31, 32, 33, 34, 35, 36, 37, 38, 39, 40, 41, 42, 43] (by decide +kernel) (by decide +kernel)
set_option maxRecDepth 20000 in
theorem gX5_worstTime_X5_timeToShut : GoodIn wsX5_worstTime (wsV RX5 59 RX5 yX5_timeToShut wsX5_timeToShut) := goodIn_app (goodIn_of _ (by decide +kernel)) ggX5_worstTime_X5_timeToShut
theorem dX5_worstTime_0 : decode cX5_worstTime 0 = .ok (.aload_n 0, 1) := by decide +kernel
theorem dX5_worstTime_1 : decode cX5_worstTime 1 = .ok (.invokevirtual 55, 3) := by decide +kernel
theorem dX5_worstTime_4 : decode cX5_worstTime 4 = .ok (.aload_n 0, 1) := by decide +kernel
theorem dX5_worstTime_5 : decode cX5_worstTime 5 = .ok (.getfield 21, 3) := by decide +kernel
theorem dX5_worstTime_8 : decode cX5_worstTime 8 = .ok (.if_icmp .ne 11, 3) := by decide +kernel
theorem dX5_worstTime_11 : decode cX5_worstTime 11 = .ok (.aload_n 0, 1) := by decide +kernel
theorem dX5_worstTime_12 : decode cX5_worstTime 12 = .ok (.iload_n 1, 1) := by decide +kernel
theorem dX5_worstTime_13 : decode cX5_worstTime 13 = .ok (.ldc 45, 2) := by decide +kernel
theorem dX5_worstTime_15 : decode cX5_worstTime 15 = .ok (.invokevirtual 59, 3) := by decide +kernel
theorem dX5_worstTime_18 : decode cX5_worstTime 18 = .ok (.ireturn, 1) := by decide +kernel
theorem dX5_worstTime_19 : decode cX5_worstTime 19 = .ok (.iconst 0, 1) := by decide +kernel
theorem dX5_worstTime_20 : decode cX5_worstTime 20 = .ok (.istore_n 2, 1) := by decide +kernel
theorem dX5_worstTime_21 : decode cX5_worstTime 21 = .ok (.iconst 0, 1) := by decide +kernel
theorem dX5_worstTime_22 : decode cX5_worstTime 22 = .ok (.istore_n 3, 1) := by decide +kernel
theorem dX5_worstTime_23 : decode cX5_worstTime 23 = .ok (.iload_n 3, 1) := by decide +kernel
theorem dX5_worstTime_24 : decode cX5_worstTime 24 = .ok (.bipush 6, 2) := by decide +kernel
theorem dX5_worstTime_26 : decode cX5_worstTime 26 = .ok (.if_icmp .ge 58, 3) := by decide +kernel
theorem dX5_worstTime_29 : decode cX5_worstTime 29 = .ok (.aload_n 0, 1) := by decide +kernel
theorem dX5_worstTime_30 : decode cX5_worstTime 30 = .ok (.getfield 11, 3) := by decide +kernel
theorem dX5_worstTime_33 : decode cX5_worstTime 33 = .ok (.iload_n 3, 1) := by decide +kernel
theorem dX5_worstTime_34 : decode cX5_worstTime 34 = .ok (.aaload, 1) := by decide +kernel
theorem dX5_worstTime_35 : decode cX5_worstTime 35 = .ok (.astore 4, 2) := by decide +kernel
theorem dX5_worstTime_37 : decode cX5_worstTime 37 = .ok (.aload 4, 2) := by decide +kernel
theorem dX5_worstTime_39 : decode cX5_worstTime 39 = .ok (.ifnull 39, 3) := by decide +kernel
theorem dX5_worstTime_42 : decode cX5_worstTime 42 = .ok (.aload 4, 2) := by decide +kernel
theorem dX5_worstTime_44 : decode cX5_worstTime 44 = .ok (.getfield 29, 3) := by decide +kernel
theorem dX5_worstTime_47 : decode cX5_worstTime 47 = .ok (.ifCond .eq 6, 3) := by decide +kernel
theorem dX5_worstTime_50 : decode cX5_worstTime 50 = .ok (.goto 28, 3) := by decide +kernel
theorem dX5_worstTime_53 : decode cX5_worstTime 53 = .ok (.aload_n 0, 1) := by decide +kernel
theorem dX5_worstTime_54 : decode cX5_worstTime 54 = .ok (.iload_n 1, 1) := by decide +kernel
theorem dX5_worstTime_55 : decode cX5_worstTime 55 = .ok (.iload_n 3, 1) := by decide +kernel
theorem dX5_worstTime_56 : decode cX5_worstTime 56 = .ok (.invokevirtual 59, 3) := by decide +kernel
theorem dX5_worstTime_59 : decode cX5_worstTime 59 = .ok (.istore 5, 2) := by decide +kernel
theorem dX5_worstTime_61 : decode cX5_worstTime 61 = .ok (.iload 5, 2) := by decide +kernel
theorem dX5_worstTime_63 : decode cX5_worstTime 63 = .ok (.ldc 45, 2) := by decide +kernel
theorem dX5_worstTime_65 : decode cX5_worstTime 65 = .ok (.if_icmp .ne 6, 3) := by decide +kernel
theorem dX5_worstTime_68 : decode cX5_worstTime 68 = .ok (.ldc 45, 2) := by decide +kernel
theorem dX5_worstTime_70 : decode cX5_worstTime 70 = .ok (.ireturn, 1) := by decide +kernel
theorem dX5_worstTime_71 : decode cX5_worstTime 71 = .ok (.iload_n 2, 1) := by decide +kernel
theorem dX5_worstTime_72 : decode cX5_worstTime 72 = .ok (.iload 5, 2) := by decide +kernel
theorem dX5_worstTime_74 : decode cX5_worstTime 74 = .ok (.invokestatic 50, 3) := by decide +kernel
theorem dX5_worstTime_77 : decode cX5_worstTime 77 = .ok (.istore_n 2, 1) := by decide +kernel
theorem dX5_worstTime_78 : decode cX5_worstTime 78 = .ok (.iinc 3 1, 3) := by decide +kernel
theorem dX5_worstTime_81 : decode cX5_worstTime 81 = .ok (.goto (-58), 3) := by decide +kernel
theorem dX5_worstTime_84 : decode cX5_worstTime 84 = .ok (.iload_n 2, 1) := by decide +kernel
theorem dX5_worstTime_85 : decode cX5_worstTime 85 = .ok (.ireturn, 1) := by decide +kernel
theorem dX6_init_0 : decode cX6_init 0 = .ok (.aload_n 0, 1) := by decide +kernel
theorem dX6_init_1 : decode cX6_init 1 = .ok (.invokespecial 3, 3) := by decide +kernel
theorem dX6_init_4 : decode cX6_init 4 = .ok (.aload_n 0, 1) := by decide +kernel
theorem dX6_init_5 : decode cX6_init 5 = .ok (.bipush 8, 2) := by decide +kernel
theorem dX6_init_7 : decode cX6_init 7 = .ok (.newarray .int, 2) := by decide +kernel
theorem dX6_init_9 : decode cX6_init 9 = .ok (.putfield 9, 3) := by decide +kernel
theorem dX6_init_12 : decode cX6_init 12 = .ok (.aload_n 0, 1) := by decide +kernel
theorem dX6_init_13 : decode cX6_init 13 = .ok (.bipush 8, 2) := by decide +kernel
theorem dX6_init_15 : decode cX6_init 15 = .ok (.bipush 8, 2) := by decide +kernel
theorem dX6_init_17 : decode cX6_init 17 = .ok (.multianewarray 15 2, 4) := by decide +kernel
theorem dX6_init_21 : decode cX6_init 21 = .ok (.putfield 17, 3) := by decide +kernel
theorem dX6_init_24 : decode cX6_init 24 = .ok (.aload_n 0, 1) := by decide +kernel
theorem dX6_init_25 : decode cX6_init 25 = .ok (.bipush 8, 2) := by decide +kernel
theorem dX6_init_27 : decode cX6_init 27 = .ok (.bipush 8, 2) := by decide +kernel
theorem dX6_init_29 : decode cX6_init 29 = .ok (.multianewarray 15 2, 4) := by decide +kernel
theorem dX6_init_33 : decode cX6_init 33 = .ok (.putfield 20, 3) := by decide +kernel
theorem dX6_init_36 : decode cX6_init 36 = .ok (.aload_n 0, 1) := by decide +kernel
theorem dX6_init_37 : decode cX6_init 37 = .ok (.iconst 0, 1) := by decide +kernel
theorem dX6_init_38 : decode cX6_init 38 = .ok (.putfield 23, 3) := by decide +kernel
theorem dX6_init_41 : decode cX6_init 41 = .ok (.return_, 1) := by decide +kernel
set_option maxRecDepth 20000 in
theorem ggX6_add_X6_headOf : GoodIn wsX6_add wsX6_headOf := goodIn_r _ [13, 14, 15, 16, 12, 17, 2, 18, 19, 20, 21] (by decide +kernel) (by decide +kernel)
set_option maxRecDepth 20000 in
theorem gX6_add_X6_headOf : GoodIn wsX6_add (wsV RX6 33 RX6 yX6_headOf wsX6_headOf) := goodIn_app (goodIn_of _ (by decide +kernel)) ggX6_add_X6_headOf
theorem dX6_add_0 : decode cX6_add 0 = .ok (.aload_n 0, 1) := by decide +kernel
theorem dX6_add_1 : decode cX6_add 1 = .ok (.getfield 23, 3) := by decide +kernel
theorem dX6_add_4 : decode cX6_add 4 = .ok (.istore 4, 2) := by decide +kernel
theorem dX6_add_6 : decode cX6_add 6 = .ok (.aload_n 2, 1) := by decide +kernel
theorem dX6_add_7 : decode cX6_add 7 = .ok (.iload_n 3, 1) := by decide +kernel
theorem dX6_add_8 : decode cX6_add 8 = .ok (.aload_n 0, 1) := by decide +kernel
theorem dX6_add_9 : decode cX6_add 9 = .ok (.getfield 17, 3) := by decide +kernel
theorem dX6_add_12 : decode cX6_add 12 = .ok (.iload 4, 2) := by decide +kernel
theorem dX6_add_14 : decode cX6_add 14 = .ok (.aaload, 1) := by decide +kernel
theorem dX6_add_15 : decode cX6_add 15 = .ok (.iconst 0, 1) := by decide +kernel
theorem dX6_add_16 : decode cX6_add 16 = .ok (.bipush 8, 2) := by decide +kernel
theorem dX6_add_18 : decode cX6_add 18 = .ok (.invokestatic 27, 3) := by decide +kernel
theorem dX6_add_21 : decode cX6_add 21 = .ok (.aload_n 0, 1) := by decide +kernel
theorem dX6_add_22 : decode cX6_add 22 = .ok (.getfield 9, 3) := by decide +kernel
theorem dX6_add_25 : decode cX6_add 25 = .ok (.iload 4, 2) := by decide +kernel
theorem dX6_add_27 : decode cX6_add 27 = .ok (.iload_n 1, 1) := by decide +kernel
theorem dX6_add_28 : decode cX6_add 28 = .ok (.iastore, 1) := by decide +kernel
theorem dX6_add_29 : decode cX6_add 29 = .ok (.iconst 0, 1) := by decide +kernel
theorem dX6_add_30 : decode cX6_add 30 = .ok (.istore 5, 2) := by decide +kernel
theorem dX6_add_32 : decode cX6_add 32 = .ok (.iload 5, 2) := by decide +kernel
theorem dX6_add_34 : decode cX6_add 34 = .ok (.bipush 8, 2) := by decide +kernel
theorem dX6_add_36 : decode cX6_add 36 = .ok (.if_icmp .ge 27, 3) := by decide +kernel
theorem dX6_add_39 : decode cX6_add 39 = .ok (.aload_n 0, 1) := by decide +kernel
theorem dX6_add_40 : decode cX6_add 40 = .ok (.getfield 20, 3) := by decide +kernel
theorem dX6_add_43 : decode cX6_add 43 = .ok (.iload 5, 2) := by decide +kernel
theorem dX6_add_45 : decode cX6_add 45 = .ok (.aaload, 1) := by decide +kernel
theorem dX6_add_46 : decode cX6_add 46 = .ok (.iload 4, 2) := by decide +kernel
theorem dX6_add_48 : decode cX6_add 48 = .ok (.aload_n 0, 1) := by decide +kernel
theorem dX6_add_49 : decode cX6_add 49 = .ok (.iload 4, 2) := by decide +kernel
theorem dX6_add_51 : decode cX6_add 51 = .ok (.iload 5, 2) := by decide +kernel
theorem dX6_add_53 : decode cX6_add 53 = .ok (.invokevirtual 33, 3) := by decide +kernel
theorem dX6_add_56 : decode cX6_add 56 = .ok (.iastore, 1) := by decide +kernel
theorem dX6_add_57 : decode cX6_add 57 = .ok (.iinc 5 1, 3) := by decide +kernel
theorem dX6_add_60 : decode cX6_add 60 = .ok (.goto (-28), 3) := by decide +kernel
theorem dX6_add_63 : decode cX6_add 63 = .ok (.aload_n 0, 1) := by decide +kernel
theorem dX6_add_64 : decode cX6_add 64 = .ok (.dup, 1) := by decide +kernel
theorem dX6_add_65 : decode cX6_add 65 = .ok (.getfield 23, 3) := by decide +kernel
theorem dX6_add_68 : decode cX6_add 68 = .ok (.iconst 1, 1) := by decide +kernel
theorem dX6_add_69 : decode cX6_add 69 = .ok (.iadd, 1) := by decide +kernel
theorem dX6_add_70 : decode cX6_add 70 = .ok (.putfield 23, 3) := by decide +kernel
theorem dX6_add_73 : decode cX6_add 73 = .ok (.iload 4, 2) := by decide +kernel
theorem dX6_add_75 : decode cX6_add 75 = .ok (.ireturn, 1) := by decide +kernel
set_option maxRecDepth 20000 in
theorem ggX6_headOf_X6_areAlike : GoodIn wsX6_headOf wsX6_areAlike := goodIn_r _ [5, 6, 7, 8, 9, 10] (by decide +kernel) (by decide +kernel)
set_option maxRecDepth 20000 in
theorem gX6_headOf_X6_areAlike : GoodIn wsX6_headOf (wsV RX6 37 RX6 yX6_areAlike wsX6_areAlike) := goodIn_app (goodIn_of _ (by decide +kernel)) ggX6_headOf_X6_areAlike
theorem dX6_headOf_0 : decode cX6_headOf 0 = .ok (.iconst 0, 1) := by decide +kernel
theorem dX6_headOf_1 : decode cX6_headOf 1 = .ok (.istore_n 3, 1) := by decide +kernel
theorem dX6_headOf_2 : decode cX6_headOf 2 = .ok (.iload_n 3, 1) := by decide +kernel
theorem dX6_headOf_3 : decode cX6_headOf 3 = .ok (.iload_n 1, 1) := by decide +kernel
theorem dX6_headOf_4 : decode cX6_headOf 4 = .ok (.if_icmp .ge 19, 3) := by decide +kernel
theorem dX6_headOf_7 : decode cX6_headOf 7 = .ok (.aload_n 0, 1) := by decide +kernel
theorem dX6_headOf_8 : decode cX6_headOf 8 = .ok (.iload_n 3, 1) := by decide +kernel
theorem dX6_headOf_9 : decode cX6_headOf 9 = .ok (.iload_n 1, 1) := by decide +kernel
theorem dX6_headOf_10 : decode cX6_headOf 10 = .ok (.iload_n 2, 1) := by decide +kernel
theorem dX6_headOf_11 : decode cX6_headOf 11 = .ok (.invokevirtual 37, 3) := by decide +kernel
theorem dX6_headOf_14 : decode cX6_headOf 14 = .ok (.ifCond .ne 9, 3) := by decide +kernel
theorem dX6_headOf_17 : decode cX6_headOf 17 = .ok (.iinc 3 1, 3) := by decide +kernel
theorem dX6_headOf_20 : decode cX6_headOf 20 = .ok (.goto (-18), 3) := by decide +kernel
theorem dX6_headOf_23 : decode cX6_headOf 23 = .ok (.iload_n 3, 1) := by decide +kernel
theorem dX6_headOf_24 : decode cX6_headOf 24 = .ok (.ireturn, 1) := by decide +kernel
theorem dX6_areAlike_0 : decode cX6_areAlike 0 = .ok (.iconst 0, 1) := by decide +kernel
theorem dX6_areAlike_1 : decode cX6_areAlike 1 = .ok (.istore 4, 2) := by decide +kernel
theorem dX6_areAlike_3 : decode cX6_areAlike 3 = .ok (.iload 4, 2) := by decide +kernel
theorem dX6_areAlike_5 : decode cX6_areAlike 5 = .ok (.iload_n 3, 1) := by decide +kernel
theorem dX6_areAlike_6 : decode cX6_areAlike 6 = .ok (.if_icmp .gt 32, 3) := by decide +kernel
theorem dX6_areAlike_9 : decode cX6_areAlike 9 = .ok (.aload_n 0, 1) := by decide +kernel
theorem dX6_areAlike_10 : decode cX6_areAlike 10 = .ok (.getfield 17, 3) := by decide +kernel
theorem dX6_areAlike_13 : decode cX6_areAlike 13 = .ok (.iload_n 1, 1) := by decide +kernel
theorem dX6_areAlike_14 : decode cX6_areAlike 14 = .ok (.aaload, 1) := by decide +kernel
theorem dX6_areAlike_15 : decode cX6_areAlike 15 = .ok (.iload 4, 2) := by decide +kernel
theorem dX6_areAlike_17 : decode cX6_areAlike 17 = .ok (.iaload, 1) := by decide +kernel
theorem dX6_areAlike_18 : decode cX6_areAlike 18 = .ok (.aload_n 0, 1) := by decide +kernel
theorem dX6_areAlike_19 : decode cX6_areAlike 19 = .ok (.getfield 17, 3) := by decide +kernel
theorem dX6_areAlike_22 : decode cX6_areAlike 22 = .ok (.iload_n 2, 1) := by decide +kernel
theorem dX6_areAlike_23 : decode cX6_areAlike 23 = .ok (.aaload, 1) := by decide +kernel
theorem dX6_areAlike_24 : decode cX6_areAlike 24 = .ok (.iload 4, 2) := by decide +kernel
theorem dX6_areAlike_26 : decode cX6_areAlike 26 = .ok (.iaload, 1) := by decide +kernel
theorem dX6_areAlike_27 : decode cX6_areAlike 27 = .ok (.if_icmp .eq 5, 3) := by decide +kernel
theorem dX6_areAlike_30 : decode cX6_areAlike 30 = .ok (.iconst 0, 1) := by decide +kernel
theorem dX6_areAlike_31 : decode cX6_areAlike 31 = .ok (.ireturn, 1) := by decide +kernel
theorem dX6_areAlike_32 : decode cX6_areAlike 32 = .ok (.iinc 4 1, 3) := by decide +kernel
theorem dX6_areAlike_35 : decode cX6_areAlike 35 = .ok (.goto (-32), 3) := by decide +kernel
theorem dX6_areAlike_38 : decode cX6_areAlike 38 = .ok (.iconst 1, 1) := by decide +kernel
theorem dX6_areAlike_39 : decode cX6_areAlike 39 = .ok (.ireturn, 1) := by decide +kernel
theorem dX6_groupsAt_0 : decode cX6_groupsAt 0 = .ok (.iconst 0, 1) := by decide +kernel
theorem dX6_groupsAt_1 : decode cX6_groupsAt 1 = .ok (.istore_n 2, 1) := by decide +kernel
theorem dX6_groupsAt_2 : decode cX6_groupsAt 2 = .ok (.iconst 0, 1) := by decide +kernel
theorem dX6_groupsAt_3 : decode cX6_groupsAt 3 = .ok (.istore_n 3, 1) := by decide +kernel
theorem dX6_groupsAt_4 : decode cX6_groupsAt 4 = .ok (.iload_n 3, 1) := by decide +kernel
theorem dX6_groupsAt_5 : decode cX6_groupsAt 5 = .ok (.aload_n 0, 1) := by decide +kernel
theorem dX6_groupsAt_6 : decode cX6_groupsAt 6 = .ok (.getfield 23, 3) := by decide +kernel
theorem dX6_groupsAt_9 : decode cX6_groupsAt 9 = .ok (.if_icmp .ge 24, 3) := by decide +kernel
theorem dX6_groupsAt_12 : decode cX6_groupsAt 12 = .ok (.aload_n 0, 1) := by decide +kernel
theorem dX6_groupsAt_13 : decode cX6_groupsAt 13 = .ok (.getfield 20, 3) := by decide +kernel
theorem dX6_groupsAt_16 : decode cX6_groupsAt 16 = .ok (.iload_n 1, 1) := by decide +kernel
theorem dX6_groupsAt_17 : decode cX6_groupsAt 17 = .ok (.aaload, 1) := by decide +kernel
theorem dX6_groupsAt_18 : decode cX6_groupsAt 18 = .ok (.iload_n 3, 1) := by decide +kernel
theorem dX6_groupsAt_19 : decode cX6_groupsAt 19 = .ok (.iaload, 1) := by decide +kernel
theorem dX6_groupsAt_20 : decode cX6_groupsAt 20 = .ok (.iload_n 3, 1) := by decide +kernel
theorem dX6_groupsAt_21 : decode cX6_groupsAt 21 = .ok (.if_icmp .ne 6, 3) := by decide +kernel
theorem dX6_groupsAt_24 : decode cX6_groupsAt 24 = .ok (.iinc 2 1, 3) := by decide +kernel
theorem dX6_groupsAt_27 : decode cX6_groupsAt 27 = .ok (.iinc 3 1, 3) := by decide +kernel
theorem dX6_groupsAt_30 : decode cX6_groupsAt 30 = .ok (.goto (-26), 3) := by decide +kernel
theorem dX6_groupsAt_33 : decode cX6_groupsAt 33 = .ok (.iload_n 2, 1) := by decide +kernel
theorem dX6_groupsAt_34 : decode cX6_groupsAt 34 = .ok (.ireturn, 1) := by decide +kernel
theorem dX6_weightOfGroup_0 : decode cX6_weightOfGroup 0 = .ok (.iconst 0, 1) := by decide +kernel
theorem dX6_weightOfGroup_1 : decode cX6_weightOfGroup 1 = .ok (.istore_n 3, 1) := by decide +kernel
theorem dX6_weightOfGroup_2 : decode cX6_weightOfGroup 2 = .ok (.iload_n 2, 1) := by decide +kernel
theorem dX6_weightOfGroup_3 : decode cX6_weightOfGroup 3 = .ok (.istore 4, 2) := by decide +kernel
theorem dX6_weightOfGroup_5 : decode cX6_weightOfGroup 5 = .ok (.iload 4, 2) := by decide +kernel
theorem dX6_weightOfGroup_7 : decode cX6_weightOfGroup 7 = .ok (.aload_n 0, 1) := by decide +kernel
theorem dX6_weightOfGroup_8 : decode cX6_weightOfGroup 8 = .ok (.getfield 23, 3) := by decide +kernel
theorem dX6_weightOfGroup_11 : decode cX6_weightOfGroup 11 = .ok (.if_icmp .ge 32, 3) := by decide +kernel
theorem dX6_weightOfGroup_14 : decode cX6_weightOfGroup 14 = .ok (.aload_n 0, 1) := by decide +kernel
theorem dX6_weightOfGroup_15 : decode cX6_weightOfGroup 15 = .ok (.getfield 20, 3) := by decide +kernel
theorem dX6_weightOfGroup_18 : decode cX6_weightOfGroup 18 = .ok (.iload_n 1, 1) := by decide +kernel
theorem dX6_weightOfGroup_19 : decode cX6_weightOfGroup 19 = .ok (.aaload, 1) := by decide +kernel
theorem dX6_weightOfGroup_20 : decode cX6_weightOfGroup 20 = .ok (.iload 4, 2) := by decide +kernel
theorem dX6_weightOfGroup_22 : decode cX6_weightOfGroup 22 = .ok (.iaload, 1) := by decide +kernel
theorem dX6_weightOfGroup_23 : decode cX6_weightOfGroup 23 = .ok (.iload_n 2, 1) := by decide +kernel
theorem dX6_weightOfGroup_24 : decode cX6_weightOfGroup 24 = .ok (.if_icmp .ne 13, 3) := by decide +kernel
theorem dX6_weightOfGroup_27 : decode cX6_weightOfGroup 27 = .ok (.iload_n 3, 1) := by decide +kernel
theorem dX6_weightOfGroup_28 : decode cX6_weightOfGroup 28 = .ok (.aload_n 0, 1) := by decide +kernel
theorem dX6_weightOfGroup_29 : decode cX6_weightOfGroup 29 = .ok (.getfield 9, 3) := by decide +kernel
theorem dX6_weightOfGroup_32 : decode cX6_weightOfGroup 32 = .ok (.iload 4, 2) := by decide +kernel
theorem dX6_weightOfGroup_34 : decode cX6_weightOfGroup 34 = .ok (.iaload, 1) := by decide +kernel
theorem dX6_weightOfGroup_35 : decode cX6_weightOfGroup 35 = .ok (.iadd, 1) := by decide +kernel
theorem dX6_weightOfGroup_36 : decode cX6_weightOfGroup 36 = .ok (.istore_n 3, 1) := by decide +kernel
theorem dX6_weightOfGroup_37 : decode cX6_weightOfGroup 37 = .ok (.iinc 4 1, 3) := by decide +kernel
theorem dX6_weightOfGroup_40 : decode cX6_weightOfGroup 40 = .ok (.goto (-35), 3) := by decide +kernel
theorem dX6_weightOfGroup_43 : decode cX6_weightOfGroup 43 = .ok (.iload_n 3, 1) := by decide +kernel
theorem dX6_weightOfGroup_44 : decode cX6_weightOfGroup 44 = .ok (.ireturn, 1) := by decide +kernel
theorem dX6_allWeights_0 : decode cX6_allWeights 0 = .ok (.iconst 0, 1) := by decide +kernel
theorem dX6_allWeights_1 : decode cX6_allWeights 1 = .ok (.istore_n 1, 1) := by decide +kernel
theorem dX6_allWeights_2 : decode cX6_allWeights 2 = .ok (.iconst 0, 1) := by decide +kernel
theorem dX6_allWeights_3 : decode cX6_allWeights 3 = .ok (.istore_n 2, 1) := by decide +kernel
theorem dX6_allWeights_4 : decode cX6_allWeights 4 = .ok (.iload_n 2, 1) := by decide +kernel
theorem dX6_allWeights_5 : decode cX6_allWeights 5 = .ok (.aload_n 0, 1) := by decide +kernel
theorem dX6_allWeights_6 : decode cX6_allWeights 6 = .ok (.getfield 23, 3) := by decide +kernel
theorem dX6_allWeights_9 : decode cX6_allWeights 9 = .ok (.if_icmp .ge 18, 3) := by decide +kernel
theorem dX6_allWeights_12 : decode cX6_allWeights 12 = .ok (.iload_n 1, 1) := by decide +kernel
theorem dX6_allWeights_13 : decode cX6_allWeights 13 = .ok (.aload_n 0, 1) := by decide +kernel
theorem dX6_allWeights_14 : decode cX6_allWeights 14 = .ok (.getfield 9, 3) := by decide +kernel
theorem dX6_allWeights_17 : decode cX6_allWeights 17 = .ok (.iload_n 2, 1) := by decide +kernel
theorem dX6_allWeights_18 : decode cX6_allWeights 18 = .ok (.iaload, 1) := by decide +kernel
theorem dX6_allWeights_19 : decode cX6_allWeights 19 = .ok (.iadd, 1) := by decide +kernel
theorem dX6_allWeights_20 : decode cX6_allWeights 20 = .ok (.istore_n 1, 1) := by decide +kernel
theorem dX6_allWeights_21 : decode cX6_allWeights 21 = .ok (.iinc 2 1, 3) := by decide +kernel
theorem dX6_allWeights_24 : decode cX6_allWeights 24 = .ok (.goto (-20), 3) := by decide +kernel
theorem dX6_allWeights_27 : decode cX6_allWeights 27 = .ok (.iload_n 1, 1) := by decide +kernel
theorem dX6_allWeights_28 : decode cX6_allWeights 28 = .ok (.ireturn, 1) := by decide +kernel
theorem dX6_firstAbove_0 : decode cX6_firstAbove 0 = .ok (.iconst 0, 1) := by decide +kernel
theorem dX6_firstAbove_1 : decode cX6_firstAbove 1 = .ok (.istore_n 2, 1) := by decide +kernel
theorem dX6_firstAbove_2 : decode cX6_firstAbove 2 = .ok (.iload_n 2, 1) := by decide +kernel
theorem dX6_firstAbove_3 : decode cX6_firstAbove 3 = .ok (.bipush 8, 2) := by decide +kernel
theorem dX6_firstAbove_5 : decode cX6_firstAbove 5 = .ok (.if_icmp .ge 39, 3) := by decide +kernel
theorem dX6_firstAbove_8 : decode cX6_firstAbove 8 = .ok (.iconst 0, 1) := by decide +kernel
theorem dX6_firstAbove_9 : decode cX6_firstAbove 9 = .ok (.istore_n 3, 1) := by decide +kernel
theorem dX6_firstAbove_10 : decode cX6_firstAbove 10 = .ok (.iload_n 3, 1) := by decide +kernel
theorem dX6_firstAbove_11 : decode cX6_firstAbove 11 = .ok (.aload_n 0, 1) := by decide +kernel
theorem dX6_firstAbove_12 : decode cX6_firstAbove 12 = .ok (.getfield 23, 3) := by decide +kernel
theorem dX6_firstAbove_15 : decode cX6_firstAbove 15 = .ok (.if_icmp .ge 23, 3) := by decide +kernel
theorem dX6_firstAbove_18 : decode cX6_firstAbove 18 = .ok (.aload_n 0, 1) := by decide +kernel
theorem dX6_firstAbove_19 : decode cX6_firstAbove 19 = .ok (.getfield 17, 3) := by decide +kernel
theorem dX6_firstAbove_22 : decode cX6_firstAbove 22 = .ok (.iload_n 3, 1) := by decide +kernel
theorem dX6_firstAbove_23 : decode cX6_firstAbove 23 = .ok (.aaload, 1) := by decide +kernel
theorem dX6_firstAbove_24 : decode cX6_firstAbove 24 = .ok (.iload_n 2, 1) := by decide +kernel
theorem dX6_firstAbove_25 : decode cX6_firstAbove 25 = .ok (.iaload, 1) := by decide +kernel
theorem dX6_firstAbove_26 : decode cX6_firstAbove 26 = .ok (.iload_n 1, 1) := by decide +kernel
theorem dX6_firstAbove_27 : decode cX6_firstAbove 27 = .ok (.if_icmp .le 5, 3) := by decide +kernel
theorem dX6_firstAbove_30 : decode cX6_firstAbove 30 = .ok (.iload_n 2, 1) := by decide +kernel
theorem dX6_firstAbove_31 : decode cX6_firstAbove 31 = .ok (.ireturn, 1) := by decide +kernel
theorem dX6_firstAbove_32 : decode cX6_firstAbove 32 = .ok (.iinc 3 1, 3) := by decide +kernel
theorem dX6_firstAbove_35 : decode cX6_firstAbove 35 = .ok (.goto (-25), 3) := by decide +kernel
theorem dX6_firstAbove_38 : decode cX6_firstAbove 38 = .ok (.iinc 2 1, 3) := by decide +kernel
theorem dX6_firstAbove_41 : decode cX6_firstAbove 41 = .ok (.goto (-39), 3) := by decide +kernel
theorem dX6_firstAbove_44 : decode cX6_firstAbove 44 = .ok (.bipush 8, 2) := by decide +kernel
theorem dX6_firstAbove_46 : decode cX6_firstAbove 46 = .ok (.ireturn, 1) := by decide +kernel
set_option maxRecDepth 20000 in
theorem ggX7_init_J7_fill_53178 : GoodIn wsX7_init wsJ7_fill_53178 := goodIn_r _ [12] (by decide +kernel) (by decide +kernel)
set_option maxRecDepth 20000 in
theorem gX7_init_J7_fill_53178 : GoodIn wsX7_init (va_wsS RX7 23 yJ7_fill_53178 wsJ7_fill_53178) := goodIn_app (goodIn_of _ (by decide +kernel)) ggX7_init_J7_fill_53178
theorem dX7_init_0 : decode cX7_init 0 = .ok (.aload_n 0, 1) := by decide +kernel
theorem dX7_init_1 : decode cX7_init 1 = .ok (.invokespecial 3, 3) := by decide +kernel
theorem dX7_init_4 : decode cX7_init 4 = .ok (.aload_n 0, 1) := by decide +kernel
theorem dX7_init_5 : decode cX7_init 5 = .ok (.bipush 8, 2) := by decide +kernel
theorem dX7_init_7 : decode cX7_init 7 = .ok (.bipush 60, 2) := by decide +kernel
theorem dX7_init_9 : decode cX7_init 9 = .ok (.multianewarray 9 2, 4) := by decide +kernel
theorem dX7_init_13 : decode cX7_init 13 = .ok (.putfield 11, 3) := by decide +kernel
theorem dX7_init_16 : decode cX7_init 16 = .ok (.aload_n 0, 1) := by decide +kernel
theorem dX7_init_17 : decode cX7_init 17 = .ok (.bipush 8, 2) := by decide +kernel
theorem dX7_init_19 : decode cX7_init 19 = .ok (.newarray .int, 2) := by decide +kernel
theorem dX7_init_21 : decode cX7_init 21 = .ok (.putfield 16, 3) := by decide +kernel
theorem dX7_init_24 : decode cX7_init 24 = .ok (.aload_n 0, 1) := by decide +kernel
theorem dX7_init_25 : decode cX7_init 25 = .ok (.bipush 8, 2) := by decide +kernel
theorem dX7_init_27 : decode cX7_init 27 = .ok (.newarray .int, 2) := by decide +kernel
theorem dX7_init_29 : decode cX7_init 29 = .ok (.putfield 20, 3) := by decide +kernel
theorem dX7_init_32 : decode cX7_init 32 = .ok (.aload_n 0, 1) := by decide +kernel
theorem dX7_init_33 : decode cX7_init 33 = .ok (.getfield 20, 3) := by decide +kernel
theorem dX7_init_36 : decode cX7_init 36 = .ok (.iconst (-1), 1) := by decide +kernel
theorem dX7_init_37 : decode cX7_init 37 = .ok (.invokestatic 23, 3) := by decide +kernel
theorem dX7_init_40 : decode cX7_init 40 = .ok (.return_, 1) := by decide +kernel
theorem dX7_isMissing_0 : decode cX7_isMissing 0 = .ok (.aload_n 0, 1) := by decide +kernel
theorem dX7_isMissing_1 : decode cX7_isMissing 1 = .ok (.getfield 20, 3) := by decide +kernel
theorem dX7_isMissing_4 : decode cX7_isMissing 4 = .ok (.iload_n 1, 1) := by decide +kernel
theorem dX7_isMissing_5 : decode cX7_isMissing 5 = .ok (.iaload, 1) := by decide +kernel
theorem dX7_isMissing_6 : decode cX7_isMissing 6 = .ok (.iconst (-1), 1) := by decide +kernel
theorem dX7_isMissing_7 : decode cX7_isMissing 7 = .ok (.if_icmp .ne 7, 3) := by decide +kernel
theorem dX7_isMissing_10 : decode cX7_isMissing 10 = .ok (.iconst 1, 1) := by decide +kernel
theorem dX7_isMissing_11 : decode cX7_isMissing 11 = .ok (.goto 4, 3) := by decide +kernel
theorem dX7_isMissing_14 : decode cX7_isMissing 14 = .ok (.iconst 0, 1) := by decide +kernel
theorem dX7_isMissing_15 : decode cX7_isMissing 15 = .ok (.ireturn, 1) := by decide +kernel
set_option maxRecDepth 20000 in
theorem ggX7_lay_J7_fill_53178 : GoodIn wsX7_lay wsJ7_fill_53178 := goodIn_r _ [7] (by decide +kernel) (by decide +kernel)
set_option maxRecDepth 20000 in
theorem gX7_lay_J7_fill_53178 : GoodIn wsX7_lay (va_wsS RX7 23 yJ7_fill_53178 wsJ7_fill_53178) := goodIn_app (goodIn_of _ (by decide +kernel)) ggX7_lay_J7_fill_53178
theorem dX7_lay_0 : decode cX7_lay 0 = .ok (.aload_n 0, 1) := by decide +kernel
theorem dX7_lay_1 : decode cX7_lay 1 = .ok (.getfield 16, 3) := by decide +kernel
theorem dX7_lay_4 : decode cX7_lay 4 = .ok (.iload_n 1, 1) := by decide +kernel
theorem dX7_lay_5 : decode cX7_lay 5 = .ok (.iload_n 2, 1) := by decide +kernel
theorem dX7_lay_6 : decode cX7_lay 6 = .ok (.iastore, 1) := by decide +kernel
theorem dX7_lay_7 : decode cX7_lay 7 = .ok (.aload_n 0, 1) := by decide +kernel
theorem dX7_lay_8 : decode cX7_lay 8 = .ok (.getfield 20, 3) := by decide +kernel
theorem dX7_lay_11 : decode cX7_lay 11 = .ok (.iload_n 1, 1) := by decide +kernel
theorem dX7_lay_12 : decode cX7_lay 12 = .ok (.iload_n 3, 1) := by decide +kernel
theorem dX7_lay_13 : decode cX7_lay 13 = .ok (.iastore, 1) := by decide +kernel
theorem dX7_lay_14 : decode cX7_lay 14 = .ok (.aload_n 0, 1) := by decide +kernel
theorem dX7_lay_15 : decode cX7_lay 15 = .ok (.getfield 11, 3) := by decide +kernel
theorem dX7_lay_18 : decode cX7_lay 18 = .ok (.iload_n 1, 1) := by decide +kernel
theorem dX7_lay_19 : decode cX7_lay 19 = .ok (.aaload, 1) := by decide +kernel
theorem dX7_lay_20 : decode cX7_lay 20 = .ok (.iconst 0, 1) := by decide +kernel
theorem dX7_lay_21 : decode cX7_lay 21 = .ok (.invokestatic 23, 3) := by decide +kernel
theorem dX7_lay_24 : decode cX7_lay 24 = .ok (.return_, 1) := by decide +kernel
theorem dX7_takeAway_0 : decode cX7_takeAway 0 = .ok (.aload_n 0, 1) := by decide +kernel
theorem dX7_takeAway_1 : decode cX7_takeAway 1 = .ok (.getfield 20, 3) := by decide +kernel
theorem dX7_takeAway_4 : decode cX7_takeAway 4 = .ok (.iload_n 1, 1) := by decide +kernel
theorem dX7_takeAway_5 : decode cX7_takeAway 5 = .ok (.iaload, 1) := by decide +kernel
theorem dX7_takeAway_6 : decode cX7_takeAway 6 = .ok (.istore_n 2, 1) := by decide +kernel
theorem dX7_takeAway_7 : decode cX7_takeAway 7 = .ok (.aload_n 0, 1) := by decide +kernel
theorem dX7_takeAway_8 : decode cX7_takeAway 8 = .ok (.getfield 20, 3) := by decide +kernel
theorem dX7_takeAway_11 : decode cX7_takeAway 11 = .ok (.iload_n 1, 1) := by decide +kernel
theorem dX7_takeAway_12 : decode cX7_takeAway 12 = .ok (.iconst (-1), 1) := by decide +kernel
theorem dX7_takeAway_13 : decode cX7_takeAway 13 = .ok (.iastore, 1) := by decide +kernel
theorem dX7_takeAway_14 : decode cX7_takeAway 14 = .ok (.iload_n 2, 1) := by decide +kernel
theorem dX7_takeAway_15 : decode cX7_takeAway 15 = .ok (.ireturn, 1) := by decide +kernel
set_option maxRecDepth 20000 in
theorem ggX7_look_X7_isMissing : GoodIn wsX7_look wsX7_isMissing := goodIn_r _ [5, 6, 11, 12, 13] (by decide +kernel) (by decide +kernel)
set_option maxRecDepth 20000 in
theorem gX7_look_X7_isMissing : GoodIn wsX7_look (wsV RX7 29 RX7 yX7_isMissing wsX7_isMissing) := goodIn_app (goodIn_of _ (by decide +kernel)) ggX7_look_X7_isMissing
set_option maxRecDepth 20000 in
theorem ggX7_look_X7_hasPlaces : GoodIn wsX7_look wsX7_hasPlaces := goodIn_r _ [10, 6, 11, 12, 13] (by decide +kernel) (by decide +kernel)
set_option maxRecDepth 20000 in
theorem gX7_look_X7_hasPlaces : GoodIn wsX7_look (wsV RX7 33 RX7 yX7_hasPlaces wsX7_hasPlaces) := goodIn_app (goodIn_of _ (by decide +kernel)) ggX7_look_X7_hasPlaces
theorem dX7_look_0 : decode cX7_look 0 = .ok (.aload_n 0, 1) := by decide +kernel
theorem dX7_look_1 : decode cX7_look 1 = .ok (.iload_n 1, 1) := by decide +kernel
theorem dX7_look_2 : decode cX7_look 2 = .ok (.invokevirtual 29, 3) := by decide +kernel
theorem dX7_look_5 : decode cX7_look 5 = .ok (.ifCond .eq 5, 3) := by decide +kernel
theorem dX7_look_8 : decode cX7_look 8 = .ok (.iconst 1, 1) := by decide +kernel
theorem dX7_look_9 : decode cX7_look 9 = .ok (.ireturn, 1) := by decide +kernel
theorem dX7_look_10 : decode cX7_look 10 = .ok (.aload_n 0, 1) := by decide +kernel
theorem dX7_look_11 : decode cX7_look 11 = .ok (.iload_n 1, 1) := by decide +kernel
theorem dX7_look_12 : decode cX7_look 12 = .ok (.iload_n 2, 1) := by decide +kernel
theorem dX7_look_13 : decode cX7_look 13 = .ok (.iload_n 3, 1) := by decide +kernel
theorem dX7_look_14 : decode cX7_look 14 = .ok (.invokevirtual 33, 3) := by decide +kernel
theorem dX7_look_17 : decode cX7_look 17 = .ok (.ifCond .eq 7, 3) := by decide +kernel
theorem dX7_look_20 : decode cX7_look 20 = .ok (.iconst 0, 1) := by decide +kernel
theorem dX7_look_21 : decode cX7_look 21 = .ok (.goto 4, 3) := by decide +kernel
theorem dX7_look_24 : decode cX7_look 24 = .ok (.iconst 2, 1) := by decide +kernel
theorem dX7_look_25 : decode cX7_look 25 = .ok (.ireturn, 1) := by decide +kernel
set_option maxRecDepth 20000 in
theorem ggX7_lookAtBoth_X7_isMissing : GoodIn wsX7_lookAtBoth wsX7_isMissing := goodIn_r _ [6, 7, 12, 13, 14] (by decide +kernel) (by decide +kernel)
set_option maxRecDepth 20000 in
theorem gX7_lookAtBoth_X7_isMissing : GoodIn wsX7_lookAtBoth (wsV RX7 29 RX7 yX7_isMissing wsX7_isMissing) := goodIn_app (goodIn_of _ (by decide +kernel)) ggX7_lookAtBoth_X7_isMissing
set_option maxRecDepth 20000 in
theorem ggX7_lookAtBoth_X7_hasPlaces : GoodIn wsX7_lookAtBoth wsX7_hasPlaces := goodIn_r _ [11, 7, 12, 13, 14] (by decide +kernel) (by decide +kernel)
set_option maxRecDepth 20000 in
theorem gX7_lookAtBoth_X7_hasPlaces : GoodIn wsX7_lookAtBoth (wsV RX7 33 RX7 yX7_hasPlaces wsX7_hasPlaces) := goodIn_app (goodIn_of _ (by decide +kernel)) ggX7_lookAtBoth_X7_hasPlaces
theorem dX7_lookAtBoth_0 : decode cX7_lookAtBoth 0 = .ok (.aload_n 0, 1) := by decide +kernel
theorem dX7_lookAtBoth_1 : decode cX7_lookAtBoth 1 = .ok (.iload_n 1, 1) := by decide +kernel
theorem dX7_lookAtBoth_2 : decode cX7_lookAtBoth 2 = .ok (.invokevirtual 29, 3) := by decide +kernel
theorem dX7_lookAtBoth_5 : decode cX7_lookAtBoth 5 = .ok (.ifCond .ne 11, 3) := by decide +kernel
theorem dX7_lookAtBoth_8 : decode cX7_lookAtBoth 8 = .ok (.aload_n 0, 1) := by decide +kernel
theorem dX7_lookAtBoth_9 : decode cX7_lookAtBoth 9 = .ok (.iload_n 3, 1) := by decide +kernel
theorem dX7_lookAtBoth_10 : decode cX7_lookAtBoth 10 = .ok (.invokevirtual 29, 3) := by decide +kernel
theorem dX7_lookAtBoth_13 : decode cX7_lookAtBoth 13 = .ok (.ifCond .eq 5, 3) := by decide +kernel
theorem dX7_lookAtBoth_16 : decode cX7_lookAtBoth 16 = .ok (.iconst 1, 1) := by decide +kernel
theorem dX7_lookAtBoth_17 : decode cX7_lookAtBoth 17 = .ok (.ireturn, 1) := by decide +kernel
theorem dX7_lookAtBoth_18 : decode cX7_lookAtBoth 18 = .ok (.aload_n 0, 1) := by decide +kernel
theorem dX7_lookAtBoth_19 : decode cX7_lookAtBoth 19 = .ok (.getfield 16, 3) := by decide +kernel
theorem dX7_lookAtBoth_22 : decode cX7_lookAtBoth 22 = .ok (.iload_n 1, 1) := by decide +kernel
theorem dX7_lookAtBoth_23 : decode cX7_lookAtBoth 23 = .ok (.iaload, 1) := by decide +kernel
theorem dX7_lookAtBoth_24 : decode cX7_lookAtBoth 24 = .ok (.aload_n 0, 1) := by decide +kernel
theorem dX7_lookAtBoth_25 : decode cX7_lookAtBoth 25 = .ok (.getfield 16, 3) := by decide +kernel
theorem dX7_lookAtBoth_28 : decode cX7_lookAtBoth 28 = .ok (.iload_n 3, 1) := by decide +kernel
theorem dX7_lookAtBoth_29 : decode cX7_lookAtBoth 29 = .ok (.iaload, 1) := by decide +kernel
theorem dX7_lookAtBoth_30 : decode cX7_lookAtBoth 30 = .ok (.if_icmp .eq 5, 3) := by decide +kernel
theorem dX7_lookAtBoth_33 : decode cX7_lookAtBoth 33 = .ok (.iconst 5, 1) := by decide +kernel
theorem dX7_lookAtBoth_34 : decode cX7_lookAtBoth 34 = .ok (.ireturn, 1) := by decide +kernel
theorem dX7_lookAtBoth_35 : decode cX7_lookAtBoth 35 = .ok (.aload_n 0, 1) := by decide +kernel
theorem dX7_lookAtBoth_36 : decode cX7_lookAtBoth 36 = .ok (.iload_n 1, 1) := by decide +kernel
theorem dX7_lookAtBoth_37 : decode cX7_lookAtBoth 37 = .ok (.iload_n 2, 1) := by decide +kernel
theorem dX7_lookAtBoth_38 : decode cX7_lookAtBoth 38 = .ok (.iload 5, 2) := by decide +kernel
theorem dX7_lookAtBoth_40 : decode cX7_lookAtBoth 40 = .ok (.invokevirtual 33, 3) := by decide +kernel
theorem dX7_lookAtBoth_43 : decode cX7_lookAtBoth 43 = .ok (.ifCond .eq 19, 3) := by decide +kernel
theorem dX7_lookAtBoth_46 : decode cX7_lookAtBoth 46 = .ok (.aload_n 0, 1) := by decide +kernel
theorem dX7_lookAtBoth_47 : decode cX7_lookAtBoth 47 = .ok (.iload_n 3, 1) := by decide +kernel
theorem dX7_lookAtBoth_48 : decode cX7_lookAtBoth 48 = .ok (.iload 4, 2) := by decide +kernel
theorem dX7_lookAtBoth_50 : decode cX7_lookAtBoth 50 = .ok (.iload 5, 2) := by decide +kernel
theorem dX7_lookAtBoth_52 : decode cX7_lookAtBoth 52 = .ok (.invokevirtual 33, 3) := by decide +kernel
theorem dX7_lookAtBoth_55 : decode cX7_lookAtBoth 55 = .ok (.ifCond .eq 7, 3) := by decide +kernel
theorem dX7_lookAtBoth_58 : decode cX7_lookAtBoth 58 = .ok (.iconst 0, 1) := by decide +kernel
theorem dX7_lookAtBoth_59 : decode cX7_lookAtBoth 59 = .ok (.goto 4, 3) := by decide +kernel
theorem dX7_lookAtBoth_62 : decode cX7_lookAtBoth 62 = .ok (.iconst 2, 1) := by decide +kernel
theorem dX7_lookAtBoth_63 : decode cX7_lookAtBoth 63 = .ok (.ireturn, 1) := by decide +kernel
theorem dX7_hasPlaces_0 : decode cX7_hasPlaces 0 = .ok (.iload_n 3, 1) := by decide +kernel
theorem dX7_hasPlaces_1 : decode cX7_hasPlaces 1 = .ok (.ifCond .lt 23, 3) := by decide +kernel
theorem dX7_hasPlaces_4 : decode cX7_hasPlaces 4 = .ok (.iload_n 2, 1) := by decide +kernel
theorem dX7_hasPlaces_5 : decode cX7_hasPlaces 5 = .ok (.ifCond .lt 19, 3) := by decide +kernel
theorem dX7_hasPlaces_8 : decode cX7_hasPlaces 8 = .ok (.iload_n 2, 1) := by decide +kernel
theorem dX7_hasPlaces_9 : decode cX7_hasPlaces 9 = .ok (.aload_n 0, 1) := by decide +kernel
theorem dX7_hasPlaces_10 : decode cX7_hasPlaces 10 = .ok (.getfield 20, 3) := by decide +kernel
theorem dX7_hasPlaces_13 : decode cX7_hasPlaces 13 = .ok (.iload_n 1, 1) := by decide +kernel
theorem dX7_hasPlaces_14 : decode cX7_hasPlaces 14 = .ok (.iaload, 1) := by decide +kernel
theorem dX7_hasPlaces_15 : decode cX7_hasPlaces 15 = .ok (.iload_n 3, 1) := by decide +kernel
theorem dX7_hasPlaces_16 : decode cX7_hasPlaces 16 = .ok (.isub, 1) := by decide +kernel
theorem dX7_hasPlaces_17 : decode cX7_hasPlaces 17 = .ok (.if_icmp .gt 7, 3) := by decide +kernel
theorem dX7_hasPlaces_20 : decode cX7_hasPlaces 20 = .ok (.iconst 1, 1) := by decide +kernel
theorem dX7_hasPlaces_21 : decode cX7_hasPlaces 21 = .ok (.goto 4, 3) := by decide +kernel
theorem dX7_hasPlaces_24 : decode cX7_hasPlaces 24 = .ok (.iconst 0, 1) := by decide +kernel
theorem dX7_hasPlaces_25 : decode cX7_hasPlaces 25 = .ok (.ireturn, 1) := by decide +kernel
set_option maxRecDepth 20000 in
theorem ggX7_put_X7_narrowed : GoodIn wsX7_put wsX7_narrowed := goodIn_r _ [6] (by decide +kernel) (by decide +kernel)
set_option maxRecDepth 20000 in
theorem gX7_put_X7_narrowed : GoodIn wsX7_put (va_wsS RX7 37 yX7_narrowed wsX7_narrowed) := goodIn_app (goodIn_of _ (by decide +kernel)) ggX7_put_X7_narrowed
theorem dX7_put_0 : decode cX7_put 0 = .ok (.aload_n 0, 1) := by decide +kernel
theorem dX7_put_1 : decode cX7_put 1 = .ok (.getfield 11, 3) := by decide +kernel
theorem dX7_put_4 : decode cX7_put 4 = .ok (.iload_n 1, 1) := by decide +kernel
theorem dX7_put_5 : decode cX7_put 5 = .ok (.aaload, 1) := by decide +kernel
theorem dX7_put_6 : decode cX7_put 6 = .ok (.iload_n 2, 1) := by decide +kernel
theorem dX7_put_7 : decode cX7_put 7 = .ok (.aload_n 0, 1) := by decide +kernel
theorem dX7_put_8 : decode cX7_put 8 = .ok (.getfield 16, 3) := by decide +kernel
theorem dX7_put_11 : decode cX7_put 11 = .ok (.iload_n 1, 1) := by decide +kernel
theorem dX7_put_12 : decode cX7_put 12 = .ok (.iaload, 1) := by decide +kernel
theorem dX7_put_13 : decode cX7_put 13 = .ok (.iload_n 3, 1) := by decide +kernel
theorem dX7_put_14 : decode cX7_put 14 = .ok (.invokestatic 37, 3) := by decide +kernel
theorem dX7_put_17 : decode cX7_put 17 = .ok (.iastore, 1) := by decide +kernel
theorem dX7_put_18 : decode cX7_put 18 = .ok (.aload_n 0, 1) := by decide +kernel
theorem dX7_put_19 : decode cX7_put 19 = .ok (.getfield 11, 3) := by decide +kernel
theorem dX7_put_22 : decode cX7_put 22 = .ok (.iload_n 1, 1) := by decide +kernel
theorem dX7_put_23 : decode cX7_put 23 = .ok (.aaload, 1) := by decide +kernel
theorem dX7_put_24 : decode cX7_put 24 = .ok (.iload_n 2, 1) := by decide +kernel
theorem dX7_put_25 : decode cX7_put 25 = .ok (.iaload, 1) := by decide +kernel
theorem dX7_put_26 : decode cX7_put 26 = .ok (.ireturn, 1) := by decide +kernel
theorem dX7_narrowed_0 : decode cX7_narrowed 0 = .ok (.iload_n 0, 1) := by decide +kernel
theorem dX7_narrowed_1 : decode cX7_narrowed 1 = .ok (.ifCond .ne 6, 3) := by decide +kernel
theorem dX7_narrowed_4 : decode cX7_narrowed 4 = .ok (.iload_n 1, 1) := by decide +kernel
theorem dX7_narrowed_5 : decode cX7_narrowed 5 = .ok (.i2b, 1) := by decide +kernel
theorem dX7_narrowed_6 : decode cX7_narrowed 6 = .ok (.ireturn, 1) := by decide +kernel
theorem dX7_narrowed_7 : decode cX7_narrowed 7 = .ok (.iload_n 0, 1) := by decide +kernel
theorem dX7_narrowed_8 : decode cX7_narrowed 8 = .ok (.iconst 1, 1) := by decide +kernel
theorem dX7_narrowed_9 : decode cX7_narrowed 9 = .ok (.if_icmp .ne 8, 3) := by decide +kernel
theorem dX7_narrowed_12 : decode cX7_narrowed 12 = .ok (.iload_n 1, 1) := by decide +kernel
theorem dX7_narrowed_13 : decode cX7_narrowed 13 = .ok (.i2s, 1) := by decide +kernel
theorem dX7_narrowed_14 : decode cX7_narrowed 14 = .ok (.goto 4, 3) := by decide +kernel
theorem dX7_narrowed_17 : decode cX7_narrowed 17 = .ok (.iload_n 1, 1) := by decide +kernel
theorem dX7_narrowed_18 : decode cX7_narrowed 18 = .ok (.ireturn, 1) := by decide +kernel
theorem dX7_move_0 : decode cX7_move 0 = .ok (.aload_n 0, 1) := by decide +kernel
theorem dX7_move_1 : decode cX7_move 1 = .ok (.getfield 11, 3) := by decide +kernel
theorem dX7_move_4 : decode cX7_move 4 = .ok (.iload_n 1, 1) := by decide +kernel
theorem dX7_move_5 : decode cX7_move 5 = .ok (.aaload, 1) := by decide +kernel
theorem dX7_move_6 : decode cX7_move 6 = .ok (.iload_n 2, 1) := by decide +kernel
theorem dX7_move_7 : decode cX7_move 7 = .ok (.aload_n 0, 1) := by decide +kernel
theorem dX7_move_8 : decode cX7_move 8 = .ok (.getfield 11, 3) := by decide +kernel
theorem dX7_move_11 : decode cX7_move 11 = .ok (.iload_n 3, 1) := by decide +kernel
theorem dX7_move_12 : decode cX7_move 12 = .ok (.aaload, 1) := by decide +kernel
theorem dX7_move_13 : decode cX7_move 13 = .ok (.iload 4, 2) := by decide +kernel
theorem dX7_move_15 : decode cX7_move 15 = .ok (.iload 5, 2) := by decide +kernel
theorem dX7_move_17 : decode cX7_move 17 = .ok (.invokestatic 41, 3) := by decide +kernel
theorem dX7_move_20 : decode cX7_move 20 = .ok (.return_, 1) := by decide +kernel
set_option maxRecDepth 20000 in
theorem ggX7_areWithin_X11_within : GoodIn wsX7_areWithin wsX11_within := goodIn_r _ [4] (by decide +kernel) (by decide +kernel)
set_option maxRecDepth 20000 in
theorem gX7_areWithin_X11_within_n47 : GoodIn wsX7_areWithin (wsX11_within) := ggX7_areWithin_X11_within
theorem dX7_areWithin_0 : decode cX7_areWithin 0 = .ok (.iload_n 2, 1) := by decide +kernel
theorem dX7_areWithin_1 : decode cX7_areWithin 1 = .ok (.istore 5, 2) := by decide +kernel
theorem dX7_areWithin_3 : decode cX7_areWithin 3 = .ok (.iload 5, 2) := by decide +kernel
theorem dX7_areWithin_5 : decode cX7_areWithin 5 = .ok (.iload_n 2, 1) := by decide +kernel
theorem dX7_areWithin_6 : decode cX7_areWithin 6 = .ok (.iload_n 3, 1) := by decide +kernel
theorem dX7_areWithin_7 : decode cX7_areWithin 7 = .ok (.iadd, 1) := by decide +kernel
theorem dX7_areWithin_8 : decode cX7_areWithin 8 = .ok (.if_icmp .ge 29, 3) := by decide +kernel
theorem dX7_areWithin_11 : decode cX7_areWithin 11 = .ok (.aload_n 0, 1) := by decide +kernel
theorem dX7_areWithin_12 : decode cX7_areWithin 12 = .ok (.getfield 11, 3) := by decide +kernel
theorem dX7_areWithin_15 : decode cX7_areWithin 15 = .ok (.iload_n 1, 1) := by decide +kernel
theorem dX7_areWithin_16 : decode cX7_areWithin 16 = .ok (.aaload, 1) := by decide +kernel
theorem dX7_areWithin_17 : decode cX7_areWithin 17 = .ok (.iload 5, 2) := by decide +kernel
theorem dX7_areWithin_19 : decode cX7_areWithin 19 = .ok (.iaload, 1) := by decide +kernel
theorem dX7_areWithin_20 : decode cX7_areWithin 20 = .ok (.iconst 0, 1) := by decide +kernel
theorem dX7_areWithin_21 : decode cX7_areWithin 21 = .ok (.iload 4, 2) := by decide +kernel
theorem dX7_areWithin_23 : decode cX7_areWithin 23 = .ok (.invokestatic 47, 3) := by decide +kernel
theorem dX7_areWithin_26 : decode cX7_areWithin 26 = .ok (.ifCond .ne 5, 3) := by decide +kernel
theorem dX7_areWithin_29 : decode cX7_areWithin 29 = .ok (.iconst 0, 1) := by decide +kernel
theorem dX7_areWithin_30 : decode cX7_areWithin 30 = .ok (.ireturn, 1) := by decide +kernel
theorem dX7_areWithin_31 : decode cX7_areWithin 31 = .ok (.iinc 5 1, 3) := by decide +kernel
theorem dX7_areWithin_34 : decode cX7_areWithin 34 = .ok (.goto (-31), 3) := by decide +kernel
theorem dX7_areWithin_37 : decode cX7_areWithin 37 = .ok (.iconst 1, 1) := by decide +kernel
theorem dX7_areWithin_38 : decode cX7_areWithin 38 = .ok (.ireturn, 1) := by decide +kernel
theorem dX7_above_0 : decode cX7_above 0 = .ok (.iconst 0, 1) := by decide +kernel
theorem dX7_above_1 : decode cX7_above 1 = .ok (.istore 6, 2) := by decide +kernel
theorem dX7_above_3 : decode cX7_above 3 = .ok (.iload_n 2, 1) := by decide +kernel
theorem dX7_above_4 : decode cX7_above 4 = .ok (.istore 7, 2) := by decide +kernel
theorem dX7_above_6 : decode cX7_above 6 = .ok (.iload 7, 2) := by decide +kernel
theorem dX7_above_8 : decode cX7_above 8 = .ok (.iload_n 2, 1) := by decide +kernel
theorem dX7_above_9 : decode cX7_above 9 = .ok (.iload_n 3, 1) := by decide +kernel
theorem dX7_above_10 : decode cX7_above 10 = .ok (.iadd, 1) := by decide +kernel
theorem dX7_above_11 : decode cX7_above 11 = .ok (.if_icmp .ge 28, 3) := by decide +kernel
theorem dX7_above_14 : decode cX7_above 14 = .ok (.aload_n 0, 1) := by decide +kernel
theorem dX7_above_15 : decode cX7_above 15 = .ok (.getfield 11, 3) := by decide +kernel
theorem dX7_above_18 : decode cX7_above 18 = .ok (.iload_n 1, 1) := by decide +kernel
theorem dX7_above_19 : decode cX7_above 19 = .ok (.aaload, 1) := by decide +kernel
theorem dX7_above_20 : decode cX7_above 20 = .ok (.iload 7, 2) := by decide +kernel
theorem dX7_above_22 : decode cX7_above 22 = .ok (.iaload, 1) := by decide +kernel
theorem dX7_above_23 : decode cX7_above 23 = .ok (.i2l, 1) := by decide +kernel
theorem dX7_above_24 : decode cX7_above 24 = .ok (.lload 4, 2) := by decide +kernel
theorem dX7_above_26 : decode cX7_above 26 = .ok (.lcmp, 1) := by decide +kernel
theorem dX7_above_27 : decode cX7_above 27 = .ok (.ifCond .le 6, 3) := by decide +kernel
theorem dX7_above_30 : decode cX7_above 30 = .ok (.iinc 6 1, 3) := by decide +kernel
theorem dX7_above_33 : decode cX7_above 33 = .ok (.iinc 7 1, 3) := by decide +kernel
theorem dX7_above_36 : decode cX7_above 36 = .ok (.goto (-30), 3) := by decide +kernel
theorem dX7_above_39 : decode cX7_above 39 = .ok (.iload 6, 2) := by decide +kernel
theorem dX7_above_41 : decode cX7_above 41 = .ok (.ireturn, 1) := by decide +kernel
set_option maxRecDepth 20000 in
theorem ggX7_present_X7_isMissing : GoodIn wsX7_present wsX7_isMissing := goodIn_r _ [5, 6, 7, 8, 9] (by decide +kernel) (by decide +kernel)
set_option maxRecDepth 20000 in
theorem gX7_present_X7_isMissing : GoodIn wsX7_present (wsV RX7 29 RX7 yX7_isMissing wsX7_isMissing) := goodIn_app (goodIn_of _ (by decide +kernel)) ggX7_present_X7_isMissing
theorem dX7_present_0 : decode cX7_present 0 = .ok (.iconst 0, 1) := by decide +kernel
theorem dX7_present_1 : decode cX7_present 1 = .ok (.istore_n 1, 1) := by decide +kernel
theorem dX7_present_2 : decode cX7_present 2 = .ok (.iconst 0, 1) := by decide +kernel
theorem dX7_present_3 : decode cX7_present 3 = .ok (.istore_n 2, 1) := by decide +kernel
theorem dX7_present_4 : decode cX7_present 4 = .ok (.iload_n 2, 1) := by decide +kernel
theorem dX7_present_5 : decode cX7_present 5 = .ok (.bipush 8, 2) := by decide +kernel
theorem dX7_present_7 : decode cX7_present 7 = .ok (.if_icmp .ge 20, 3) := by decide +kernel
theorem dX7_present_10 : decode cX7_present 10 = .ok (.aload_n 0, 1) := by decide +kernel
theorem dX7_present_11 : decode cX7_present 11 = .ok (.iload_n 2, 1) := by decide +kernel
theorem dX7_present_12 : decode cX7_present 12 = .ok (.invokevirtual 29, 3) := by decide +kernel
theorem dX7_present_15 : decode cX7_present 15 = .ok (.ifCond .ne 6, 3) := by decide +kernel
theorem dX7_present_18 : decode cX7_present 18 = .ok (.iinc 1 1, 3) := by decide +kernel
theorem dX7_present_21 : decode cX7_present 21 = .ok (.iinc 2 1, 3) := by decide +kernel
theorem dX7_present_24 : decode cX7_present 24 = .ok (.goto (-20), 3) := by decide +kernel
theorem dX7_present_27 : decode cX7_present 27 = .ok (.iload_n 1, 1) := by decide +kernel
theorem dX7_present_28 : decode cX7_present 28 = .ok (.ireturn, 1) := by decide +kernel
set_option maxRecDepth 20000 in
theorem ggX8_init_X2_init : GoodIn wsX8_init wsX2_init := goodIn_r _ [4, 5, 6, 7, 8, 9, 10, 11, 12, 13, 14, 15, 16, 17, 18, 19, 20, 21, 22] (by decide +kernel) (by decide +kernel)
set_option maxRecDepth 20000 in
theorem gX8_init_X2_init : GoodIn wsX8_init (wsX2_init) := ggX8_init_X2_init
theorem dX8_init_0 : decode cX8_init 0 = .ok (.aload_n 0, 1) := by decide +kernel
theorem dX8_init_1 : decode cX8_init 1 = .ok (.iload_n 1, 1) := by decide +kernel
theorem dX8_init_2 : decode cX8_init 2 = .ok (.iconst 0, 1) := by decide +kernel
theorem dX8_init_3 : decode cX8_init 3 = .ok (.invokespecial 3, 3) := by decide +kernel
theorem dX8_init_6 : decode cX8_init 6 = .ok (.return_, 1) := by decide +kernel
theorem dX8_toldAs_0 : decode cX8_toldAs 0 = .ok (.iconst 3, 1) := by decide +kernel
theorem dX8_toldAs_1 : decode cX8_toldAs 1 = .ok (.ireturn, 1) := by decide +kernel
set_option maxRecDepth 20000 in
theorem ggX8_cost_X9_leave : GoodIn wsX8_cost wsX9_leave := goodIn_r _ [5, 6, 7, 16, 17] (by decide +kernel) (by decide +kernel)
set_option maxRecDepth 20000 in
theorem gX8_cost_X9_leave : GoodIn wsX8_cost (wsV RX8 9 RX9 yX9_leave wsX9_leave) := goodIn_app (goodIn_of _ (by decide +kernel)) ggX8_cost_X9_leave
set_option maxRecDepth 20000 in
theorem ggX8_cost_X2_cost : GoodIn wsX8_cost wsX2_cost := goodIn_r _ [13, 14, 15, 2, 3, 4, 5, 6, 7, 18, 19, 20, 21, 22, 23, 24, 25, 26, 27, 28, 29, 16, 17] (by decide +kernel) (by decide +kernel)
set_option maxRecDepth 20000 in
theorem gX8_cost_X2_cost_s15 : GoodIn wsX8_cost (va_wsSU RX8 15 yX2_cost wsX2_cost) := goodIn_app (goodIn_of _ (by decide +kernel)) ggX8_cost_X2_cost
theorem dX8_cost_0 : decode cX8_cost 0 = .ok (.aload_n 1, 1) := by decide +kernel
theorem dX8_cost_1 : decode cX8_cost 1 = .ok (.bipush 13, 2) := by decide +kernel
theorem dX8_cost_3 : decode cX8_cost 3 = .ok (.invokevirtual 9, 3) := by decide +kernel
theorem dX8_cost_6 : decode cX8_cost 6 = .ok (.aload_n 0, 1) := by decide +kernel
theorem dX8_cost_7 : decode cX8_cost 7 = .ok (.aload_n 1, 1) := by decide +kernel
theorem dX8_cost_8 : decode cX8_cost 8 = .ok (.invokespecial 15, 3) := by decide +kernel
theorem dX8_cost_11 : decode cX8_cost 11 = .ok (.sipush 1000, 3) := by decide +kernel
theorem dX8_cost_14 : decode cX8_cost 14 = .ok (.iadd, 1) := by decide +kernel
theorem dX8_cost_15 : decode cX8_cost 15 = .ok (.ireturn, 1) := by decide +kernel
set_option maxRecDepth 20000 in
theorem ggX8_mark_X9_leave : GoodIn wsX8_mark wsX9_leave := goodIn_r _ [5, 6, 7, 26, 27] (by decide +kernel) (by decide +kernel)
set_option maxRecDepth 20000 in
theorem gX8_mark_X9_leave : GoodIn wsX8_mark (wsV RX8 9 RX9 yX9_leave wsX9_leave) := goodIn_app (goodIn_of _ (by decide +kernel)) ggX8_mark_X9_leave
set_option maxRecDepth 20000 in
theorem ggX8_mark_X2_mark : GoodIn wsX8_mark wsX2_mark := goodIn_r _ [13, 14, 15, 2, 3, 4, 5, 6, 7, 28, 29, 30, 31, 32, 33, 34, 35, 36, 37, 38, 39, 26, 27] (by decide +kernel) (by decide +kernel)
set_option maxRecDepth 20000 in
theorem gX8_mark_X2_mark_s19 : GoodIn wsX8_mark (va_wsSU RX8 19 yX2_mark wsX2_mark) := goodIn_app (goodIn_of _ (by decide +kernel)) ggX8_mark_X2_mark
set_option maxRecDepth 20000 in
theorem ggX8_mark_X8_cost : GoodIn wsX8_mark wsX8_cost := goodIn_r _ [20, 1, 2, 3, 4, 5, 6, 7, 21, 22, 10, 23, 12, 24, 25, 15, 26, 27, 28, 29, 30, 31, 32, 33, 34, 35, 36, 37, 38, 39] (by decide +kernel) (by decide +kernel)
set_option maxRecDepth 20000 in
theorem gX8_mark_X8_cost : GoodIn wsX8_mark (wsV RX8 22 RX8 yX8_cost wsX8_cost) := goodIn_app (goodIn_of _ (by decide +kernel)) ggX8_mark_X8_cost
theorem dX8_mark_0 : decode cX8_mark 0 = .ok (.aload_n 1, 1) := by decide +kernel
theorem dX8_mark_1 : decode cX8_mark 1 = .ok (.bipush 22, 2) := by decide +kernel
theorem dX8_mark_3 : decode cX8_mark 3 = .ok (.invokevirtual 9, 3) := by decide +kernel
theorem dX8_mark_6 : decode cX8_mark 6 = .ok (.aload_n 0, 1) := by decide +kernel
theorem dX8_mark_7 : decode cX8_mark 7 = .ok (.aload_n 1, 1) := by decide +kernel
theorem dX8_mark_8 : decode cX8_mark 8 = .ok (.invokespecial 19, 3) := by decide +kernel
theorem dX8_mark_11 : decode cX8_mark 11 = .ok (.aload_n 0, 1) := by decide +kernel
theorem dX8_mark_12 : decode cX8_mark 12 = .ok (.aload_n 1, 1) := by decide +kernel
theorem dX8_mark_13 : decode cX8_mark 13 = .ok (.invokevirtual 22, 3) := by decide +kernel
theorem dX8_mark_16 : decode cX8_mark 16 = .ok (.isub, 1) := by decide +kernel
theorem dX8_mark_17 : decode cX8_mark 17 = .ok (.ireturn, 1) := by decide +kernel
theorem dX9_init_0 : decode cX9_init 0 = .ok (.aload_n 0, 1) := by decide +kernel
theorem dX9_init_1 : decode cX9_init 1 = .ok (.invokespecial 3, 3) := by decide +kernel
theorem dX9_init_4 : decode cX9_init 4 = .ok (.aload_n 0, 1) := by decide +kernel
theorem dX9_init_5 : decode cX9_init 5 = .ok (.bipush 16, 2) := by decide +kernel
theorem dX9_init_7 : decode cX9_init 7 = .ok (.newarray .int, 2) := by decide +kernel
theorem dX9_init_9 : decode cX9_init 9 = .ok (.putfield 9, 3) := by decide +kernel
theorem dX9_init_12 : decode cX9_init 12 = .ok (.aload_n 0, 1) := by decide +kernel
theorem dX9_init_13 : decode cX9_init 13 = .ok (.iconst 0, 1) := by decide +kernel
theorem dX9_init_14 : decode cX9_init 14 = .ok (.putfield 15, 3) := by decide +kernel
theorem dX9_init_17 : decode cX9_init 17 = .ok (.return_, 1) := by decide +kernel
theorem dX9_leave_0 : decode cX9_leave 0 = .ok (.aload_n 0, 1) := by decide +kernel
theorem dX9_leave_1 : decode cX9_leave 1 = .ok (.getfield 15, 3) := by decide +kernel
theorem dX9_leave_4 : decode cX9_leave 4 = .ok (.bipush 16, 2) := by decide +kernel
theorem dX9_leave_6 : decode cX9_leave 6 = .ok (.if_icmp .ge 23, 3) := by decide +kernel
theorem dX9_leave_9 : decode cX9_leave 9 = .ok (.aload_n 0, 1) := by decide +kernel
theorem dX9_leave_10 : decode cX9_leave 10 = .ok (.getfield 9, 3) := by decide +kernel
theorem dX9_leave_13 : decode cX9_leave 13 = .ok (.aload_n 0, 1) := by decide +kernel
theorem dX9_leave_14 : decode cX9_leave 14 = .ok (.getfield 15, 3) := by decide +kernel
theorem dX9_leave_17 : decode cX9_leave 17 = .ok (.iload_n 1, 1) := by decide +kernel
theorem dX9_leave_18 : decode cX9_leave 18 = .ok (.iastore, 1) := by decide +kernel
theorem dX9_leave_19 : decode cX9_leave 19 = .ok (.aload_n 0, 1) := by decide +kernel
theorem dX9_leave_20 : decode cX9_leave 20 = .ok (.dup, 1) := by decide +kernel
theorem dX9_leave_21 : decode cX9_leave 21 = .ok (.getfield 15, 3) := by decide +kernel
theorem dX9_leave_24 : decode cX9_leave 24 = .ok (.iconst 1, 1) := by decide +kernel
theorem dX9_leave_25 : decode cX9_leave 25 = .ok (.iadd, 1) := by decide +kernel
theorem dX9_leave_26 : decode cX9_leave 26 = .ok (.putfield 15, 3) := by decide +kernel
theorem dX9_leave_29 : decode cX9_leave 29 = .ok (.return_, 1) := by decide +kernel
set_option maxRecDepth 20000 in
theorem ggX10_init_X3_init : GoodIn wsX10_init wsX3_init := goodIn_r _ [4, 5, 6, 7, 8, 9, 10, 11, 12, 13, 14, 15, 16, 17, 18, 19, 20, 21, 22, 23, 24, 25, 26] (by decide +kernel) (by decide +kernel)
set_option maxRecDepth 20000 in
theorem gX10_init_X3_init : GoodIn wsX10_init (wsX3_init) := ggX10_init_X3_init
theorem dX10_init_0 : decode cX10_init 0 = .ok (.aload_n 0, 1) := by decide +kernel
theorem dX10_init_1 : decode cX10_init 1 = .ok (.iload_n 1, 1) := by decide +kernel
theorem dX10_init_2 : decode cX10_init 2 = .ok (.iload_n 2, 1) := by decide +kernel
theorem dX10_init_3 : decode cX10_init 3 = .ok (.invokespecial 3, 3) := by decide +kernel
theorem dX10_init_6 : decode cX10_init 6 = .ok (.return_, 1) := by decide +kernel
theorem dX10_toldAs_0 : decode cX10_toldAs 0 = .ok (.iconst 2, 1) := by decide +kernel
theorem dX10_toldAs_1 : decode cX10_toldAs 1 = .ok (.ireturn, 1) := by decide +kernel
set_option maxRecDepth 20000 in
theorem ggX10_cost_X9_leave : GoodIn wsX10_cost wsX9_leave := goodIn_r _ [5, 6, 7, 25, 26] (by decide +kernel) (by decide +kernel)
set_option maxRecDepth 20000 in
theorem gX10_cost_X9_leave : GoodIn wsX10_cost (wsV RX10 9 RX9 yX9_leave wsX9_leave) := goodIn_app (goodIn_of _ (by decide +kernel)) ggX10_cost_X9_leave
set_option maxRecDepth 20000 in
theorem ggX10_cost_X3_cost : GoodIn wsX10_cost wsX3_cost := goodIn_r _ [13, 14, 15, 16, 2, 3, 4, 5, 6, 7, 17, 18, 19, 20, 21, 22, 23, 24, 27, 28, 29, 30, 31, 32, 33, 34, 35, 36, 37, 38, 25, 26] (by decide +kernel) (by decide +kernel)
set_option maxRecDepth 20000 in
theorem gX10_cost_X3_cost_s15 : GoodIn wsX10_cost (va_wsSU RX10 15 yX3_cost wsX3_cost) := goodIn_app (goodIn_of _ (by decide +kernel)) ggX10_cost_X3_cost
theorem dX10_cost_0 : decode cX10_cost 0 = .ok (.aload_n 1, 1) := by decide +kernel
theorem dX10_cost_1 : decode cX10_cost 1 = .ok (.bipush 12, 2) := by decide +kernel
theorem dX10_cost_3 : decode cX10_cost 3 = .ok (.invokevirtual 9, 3) := by decide +kernel
theorem dX10_cost_6 : decode cX10_cost 6 = .ok (.aload_n 0, 1) := by decide +kernel
theorem dX10_cost_7 : decode cX10_cost 7 = .ok (.aload_n 1, 1) := by decide +kernel
theorem dX10_cost_8 : decode cX10_cost 8 = .ok (.invokespecial 15, 3) := by decide +kernel
theorem dX10_cost_11 : decode cX10_cost 11 = .ok (.iconst 2, 1) := by decide +kernel
theorem dX10_cost_12 : decode cX10_cost 12 = .ok (.idiv, 1) := by decide +kernel
theorem dX10_cost_13 : decode cX10_cost 13 = .ok (.ireturn, 1) := by decide +kernel
set_option maxRecDepth 20000 in
theorem ggX11_init_X7_init : GoodIn wsX11_init wsX7_init := goodIn_r _ [35, 36, 2, 3, 37, 38, 39, 40, 41, 42, 43, 44, 45, 94, 95, 96] (by decide +kernel) (by decide +kernel)
set_option maxRecDepth 20000 in
theorem gX11_init_X7_init : GoodIn wsX11_init (wsX7_init) := ggX11_init_X7_init
set_option maxRecDepth 20000 in
theorem ggX11_init_X6_init : GoodIn wsX11_init wsX6_init := goodIn_r _ [47, 48, 2, 3, 38, 49, 50, 51, 52, 53, 105, 106, 107, 108] (by decide +kernel) (by decide +kernel)
set_option maxRecDepth 20000 in
theorem gX11_init_X6_init_n18 : GoodIn wsX11_init (wsX6_init) := ggX11_init_X6_init
set_option maxRecDepth 20000 in
theorem ggX11_init_X0_init : GoodIn wsX11_init wsX0_init := goodIn_r _ [56, 57, 2, 3, 38, 58, 59, 60, 109, 110, 111] (by decide +kernel) (by decide +kernel)
set_option maxRecDepth 20000 in
theorem gX11_init_X0_init : GoodIn wsX11_init (wsX0_init) := ggX11_init_X0_init
set_option maxRecDepth 20000 in
theorem ggX11_init_X4_init : GoodIn wsX11_init wsX4_init := goodIn_r _ [63, 64, 2, 3, 65, 38, 66, 67, 68, 69, 70, 71, 72, 73, 74, 112, 113, 114, 115, 116, 117, 118] (by decide +kernel) (by decide +kernel)
set_option maxRecDepth 20000 in
theorem gX11_init_X4_init : GoodIn wsX11_init (wsX4_init) := ggX11_init_X4_init
set_option maxRecDepth 20000 in
theorem ggX11_init_X5_init : GoodIn wsX11_init wsX5_init := goodIn_r _ [76, 77, 2, 3, 78, 79, 38, 80, 81, 119, 120, 121] (by decide +kernel) (by decide +kernel)
set_option maxRecDepth 20000 in
theorem gX11_init_X5_init_n43 : GoodIn wsX11_init (wsX5_init) := ggX11_init_X5_init
set_option maxRecDepth 20000 in
theorem ggX11_init_X1_init : GoodIn wsX11_init wsX1_init := goodIn_r _ [83, 84, 2, 3, 38, 85, 86, 87, 88, 122, 123, 124, 125] (by decide +kernel) (by decide +kernel)
set_option maxRecDepth 20000 in
theorem gX11_init_X1_init_n50 : GoodIn wsX11_init (wsX1_init) := ggX11_init_X1_init
set_option maxRecDepth 20000 in
theorem ggX11_init_X9_init : GoodIn wsX11_init wsX9_init := goodIn_r _ [90, 91, 2, 3, 38, 92, 93, 126, 127] (by decide +kernel) (by decide +kernel)
set_option maxRecDepth 20000 in
theorem gX11_init_X9_init_n57 : GoodIn wsX11_init (wsX9_init) := ggX11_init_X9_init
theorem dX11_init_0 : decode cX11_init 0 = .ok (.aload_n 0, 1) := by decide +kernel
theorem dX11_init_1 : decode cX11_init 1 = .ok (.invokespecial 3, 3) := by decide +kernel
theorem dX11_init_4 : decode cX11_init 4 = .ok (.aload_n 0, 1) := by decide +kernel
theorem dX11_init_5 : decode cX11_init 5 = .ok (.new 9, 3) := by decide +kernel
theorem dX11_init_8 : decode cX11_init 8 = .ok (.dup, 1) := by decide +kernel
theorem dX11_init_9 : decode cX11_init 9 = .ok (.invokespecial 11, 3) := by decide +kernel
theorem dX11_init_12 : decode cX11_init 12 = .ok (.putfield 12, 3) := by decide +kernel
theorem dX11_init_15 : decode cX11_init 15 = .ok (.aload_n 0, 1) := by decide +kernel
theorem dX11_init_16 : decode cX11_init 16 = .ok (.new 16, 3) := by decide +kernel
theorem dX11_init_19 : decode cX11_init 19 = .ok (.dup, 1) := by decide +kernel
theorem dX11_init_20 : decode cX11_init 20 = .ok (.invokespecial 18, 3) := by decide +kernel
theorem dX11_init_23 : decode cX11_init 23 = .ok (.putfield 19, 3) := by decide +kernel
theorem dX11_init_26 : decode cX11_init 26 = .ok (.aload_n 0, 1) := by decide +kernel
theorem dX11_init_27 : decode cX11_init 27 = .ok (.new 23, 3) := by decide +kernel
theorem dX11_init_30 : decode cX11_init 30 = .ok (.dup, 1) := by decide +kernel
theorem dX11_init_31 : decode cX11_init 31 = .ok (.aload_n 0, 1) := by decide +kernel
theorem dX11_init_32 : decode cX11_init 32 = .ok (.getfield 19, 3) := by decide +kernel
theorem dX11_init_35 : decode cX11_init 35 = .ok (.invokespecial 25, 3) := by decide +kernel
theorem dX11_init_38 : decode cX11_init 38 = .ok (.putfield 28, 3) := by decide +kernel
theorem dX11_init_41 : decode cX11_init 41 = .ok (.aload_n 0, 1) := by decide +kernel
theorem dX11_init_42 : decode cX11_init 42 = .ok (.new 32, 3) := by decide +kernel
theorem dX11_init_45 : decode cX11_init 45 = .ok (.dup, 1) := by decide +kernel
theorem dX11_init_46 : decode cX11_init 46 = .ok (.aload_n 0, 1) := by decide +kernel
theorem dX11_init_47 : decode cX11_init 47 = .ok (.getfield 19, 3) := by decide +kernel
theorem dX11_init_50 : decode cX11_init 50 = .ok (.aload_n 0, 1) := by decide +kernel
theorem dX11_init_51 : decode cX11_init 51 = .ok (.getfield 28, 3) := by decide +kernel
theorem dX11_init_54 : decode cX11_init 54 = .ok (.invokespecial 34, 3) := by decide +kernel
theorem dX11_init_57 : decode cX11_init 57 = .ok (.putfield 37, 3) := by decide +kernel
theorem dX11_init_60 : decode cX11_init 60 = .ok (.aload_n 0, 1) := by decide +kernel
theorem dX11_init_61 : decode cX11_init 61 = .ok (.new 41, 3) := by decide +kernel
theorem dX11_init_64 : decode cX11_init 64 = .ok (.dup, 1) := by decide +kernel
theorem dX11_init_65 : decode cX11_init 65 = .ok (.invokespecial 43, 3) := by decide +kernel
theorem dX11_init_68 : decode cX11_init 68 = .ok (.putfield 44, 3) := by decide +kernel
theorem dX11_init_71 : decode cX11_init 71 = .ok (.aload_n 0, 1) := by decide +kernel
theorem dX11_init_72 : decode cX11_init 72 = .ok (.new 48, 3) := by decide +kernel
theorem dX11_init_75 : decode cX11_init 75 = .ok (.dup, 1) := by decide +kernel
theorem dX11_init_76 : decode cX11_init 76 = .ok (.invokespecial 50, 3) := by decide +kernel
theorem dX11_init_79 : decode cX11_init 79 = .ok (.putfield 51, 3) := by decide +kernel
theorem dX11_init_82 : decode cX11_init 82 = .ok (.aload_n 0, 1) := by decide +kernel
theorem dX11_init_83 : decode cX11_init 83 = .ok (.new 55, 3) := by decide +kernel
theorem dX11_init_86 : decode cX11_init 86 = .ok (.dup, 1) := by decide +kernel
theorem dX11_init_87 : decode cX11_init 87 = .ok (.invokespecial 57, 3) := by decide +kernel
theorem dX11_init_90 : decode cX11_init 90 = .ok (.putfield 58, 3) := by decide +kernel
theorem dX11_init_93 : decode cX11_init 93 = .ok (.aload_n 0, 1) := by decide +kernel
theorem dX11_init_94 : decode cX11_init 94 = .ok (.iconst 0, 1) := by decide +kernel
theorem dX11_init_95 : decode cX11_init 95 = .ok (.putfield 62, 3) := by decide +kernel
theorem dX11_init_98 : decode cX11_init 98 = .ok (.return_, 1) := by decide +kernel
set_option maxRecDepth 20000 in
theorem ggX11_sheet_X11_within : GoodIn wsX11_sheet wsX11_within := goodIn_r _ [6] (by decide +kernel) (by decide +kernel)
set_option maxRecDepth 20000 in
theorem gX11_sheet_X11_within : GoodIn wsX11_sheet (va_wsS RX11 66 yX11_within wsX11_within) := goodIn_app (goodIn_of _ (by decide +kernel)) ggX11_sheet_X11_within
set_option maxRecDepth 20000 in
theorem ggX11_sheet_X11_found : GoodIn wsX11_sheet wsX11_found := goodIn_r _ [10, 11, 12, 29, 30, 31, 32, 33, 34, 35, 36] (by decide +kernel) (by decide +kernel)
set_option maxRecDepth 20000 in
theorem gX11_sheet_X11_found : GoodIn wsX11_sheet (wsV RX11 71 RX11 yX11_found wsX11_found) := goodIn_app (goodIn_of _ (by decide +kernel)) ggX11_sheet_X11_found
set_option maxRecDepth 20000 in
theorem ggX11_sheet_X7_lay : GoodIn wsX11_sheet wsX7_lay := goodIn_r _ [17, 18, 19, 20, 21, 22, 23, 24, 37, 38, 39] (by decide +kernel) (by decide +kernel)
set_option maxRecDepth 20000 in
theorem gX11_sheet_X7_lay : GoodIn wsX11_sheet (wsV RX11 75 RX7 yX7_lay wsX7_lay) := goodIn_app (goodIn_of _ (by decide +kernel)) ggX11_sheet_X7_lay
set_option maxRecDepth 20000 in
theorem ggX11_sheet_X11_fine : GoodIn wsX11_sheet wsX11_fine := goodIn_r _ [28, 11, 29, 30, 31, 32, 33, 34, 35, 36] (by decide +kernel) (by decide +kernel)
set_option maxRecDepth 20000 in
theorem gX11_sheet_X11_fine : GoodIn wsX11_sheet (wsV RX11 79 RX11 yX11_fine wsX11_fine) := goodIn_app (goodIn_of _ (by decide +kernel)) ggX11_sheet_X11_fine
theorem dX11_sheet_0 : decode cX11_sheet 0 = .ok (.iload_n 1, 1) := by decide +kernel
theorem dX11_sheet_1 : decode cX11_sheet 1 = .ok (.iconst 0, 1) := by decide +kernel
theorem dX11_sheet_2 : decode cX11_sheet 2 = .ok (.bipush 7, 2) := by decide +kernel
theorem dX11_sheet_4 : decode cX11_sheet 4 = .ok (.invokestatic 66, 3) := by decide +kernel
theorem dX11_sheet_7 : decode cX11_sheet 7 = .ok (.ifCond .eq 18, 3) := by decide +kernel
theorem dX11_sheet_10 : decode cX11_sheet 10 = .ok (.iload_n 2, 1) := by decide +kernel
theorem dX11_sheet_11 : decode cX11_sheet 11 = .ok (.iconst 0, 1) := by decide +kernel
theorem dX11_sheet_12 : decode cX11_sheet 12 = .ok (.iconst 2, 1) := by decide +kernel
theorem dX11_sheet_13 : decode cX11_sheet 13 = .ok (.invokestatic 66, 3) := by decide +kernel
theorem dX11_sheet_16 : decode cX11_sheet 16 = .ok (.ifCond .eq 9, 3) := by decide +kernel
theorem dX11_sheet_19 : decode cX11_sheet 19 = .ok (.iload_n 3, 1) := by decide +kernel
theorem dX11_sheet_20 : decode cX11_sheet 20 = .ok (.bipush 60, 2) := by decide +kernel
theorem dX11_sheet_22 : decode cX11_sheet 22 = .ok (.if_icmp .le 6, 3) := by decide +kernel
theorem dX11_sheet_25 : decode cX11_sheet 25 = .ok (.ldc 70, 2) := by decide +kernel
theorem dX11_sheet_27 : decode cX11_sheet 27 = .ok (.ireturn, 1) := by decide +kernel
theorem dX11_sheet_28 : decode cX11_sheet 28 = .ok (.iload_n 3, 1) := by decide +kernel
theorem dX11_sheet_29 : decode cX11_sheet 29 = .ok (.ifCond .ge 9, 3) := by decide +kernel
theorem dX11_sheet_32 : decode cX11_sheet 32 = .ok (.aload_n 0, 1) := by decide +kernel
theorem dX11_sheet_33 : decode cX11_sheet 33 = .ok (.iconst 4, 1) := by decide +kernel
theorem dX11_sheet_34 : decode cX11_sheet 34 = .ok (.invokevirtual 71, 3) := by decide +kernel
theorem dX11_sheet_37 : decode cX11_sheet 37 = .ok (.ireturn, 1) := by decide +kernel
theorem dX11_sheet_38 : decode cX11_sheet 38 = .ok (.aload_n 0, 1) := by decide +kernel
theorem dX11_sheet_39 : decode cX11_sheet 39 = .ok (.getfield 12, 3) := by decide +kernel
theorem dX11_sheet_42 : decode cX11_sheet 42 = .ok (.iload_n 1, 1) := by decide +kernel
theorem dX11_sheet_43 : decode cX11_sheet 43 = .ok (.iload_n 2, 1) := by decide +kernel
theorem dX11_sheet_44 : decode cX11_sheet 44 = .ok (.iload_n 3, 1) := by decide +kernel
theorem dX11_sheet_45 : decode cX11_sheet 45 = .ok (.invokevirtual 75, 3) := by decide +kernel
theorem dX11_sheet_48 : decode cX11_sheet 48 = .ok (.aload_n 0, 1) := by decide +kernel
theorem dX11_sheet_49 : decode cX11_sheet 49 = .ok (.iload_n 3, 1) := by decide +kernel
theorem dX11_sheet_50 : decode cX11_sheet 50 = .ok (.invokevirtual 79, 3) := by decide +kernel
theorem dX11_sheet_53 : decode cX11_sheet 53 = .ok (.ireturn, 1) := by decide +kernel
set_option maxRecDepth 20000 in
theorem ggX11_set_X11_within : GoodIn wsX11_set wsX11_within := goodIn_r _ [6] (by decide +kernel) (by decide +kernel)
set_option maxRecDepth 20000 in
theorem gX11_set_X11_within : GoodIn wsX11_set (va_wsS RX11 66 yX11_within wsX11_within) := goodIn_app (goodIn_of _ (by decide +kernel)) ggX11_set_X11_within
set_option maxRecDepth 20000 in
theorem ggX11_set_X7_look : GoodIn wsX11_set wsX7_look := goodIn_r _ [11, 12, 13, 14, 10, 15, 16, 17, 18, 19, 20, 48, 49, 50] (by decide +kernel) (by decide +kernel)
set_option maxRecDepth 20000 in
theorem gX11_set_X7_look : GoodIn wsX11_set (wsV RX11 82 RX7 yX7_look wsX7_look) := goodIn_app (goodIn_of _ (by decide +kernel)) ggX11_set_X7_look
set_option maxRecDepth 20000 in
theorem ggX11_set_X11_found : GoodIn wsX11_set wsX11_found := goodIn_r _ [24, 25, 26, 40, 41, 42, 43, 44, 45, 46, 47] (by decide +kernel) (by decide +kernel)
set_option maxRecDepth 20000 in
theorem gX11_set_X11_found : GoodIn wsX11_set (wsV RX11 71 RX11 yX11_found wsX11_found) := goodIn_app (goodIn_of _ (by decide +kernel)) ggX11_set_X11_found
set_option maxRecDepth 20000 in
theorem ggX11_set_X7_put : GoodIn wsX11_set wsX7_put := goodIn_r _ [30, 31, 32, 33, 34, 10, 35, 48, 49, 50] (by decide +kernel) (by decide +kernel)
set_option maxRecDepth 20000 in
theorem gX11_set_X7_put : GoodIn wsX11_set (wsV RX11 86 RX7 yX7_put wsX7_put) := goodIn_app (goodIn_of _ (by decide +kernel)) ggX11_set_X7_put
set_option maxRecDepth 20000 in
theorem ggX11_set_X11_fine : GoodIn wsX11_set wsX11_fine := goodIn_r _ [39, 25, 40, 41, 42, 43, 44, 45, 46, 47] (by decide +kernel) (by decide +kernel)
set_option maxRecDepth 20000 in
theorem gX11_set_X11_fine : GoodIn wsX11_set (wsV RX11 79 RX11 yX11_fine wsX11_fine) := goodIn_app (goodIn_of _ (by decide +kernel)) ggX11_set_X11_fine
theorem dX11_set_0 : decode cX11_set 0 = .ok (.iload_n 1, 1) := by decide +kernel
theorem dX11_set_1 : decode cX11_set 1 = .ok (.iconst 0, 1) := by decide +kernel
theorem dX11_set_2 : decode cX11_set 2 = .ok (.bipush 7, 2) := by decide +kernel
theorem dX11_set_4 : decode cX11_set 4 = .ok (.invokestatic 66, 3) := by decide +kernel
theorem dX11_set_7 : decode cX11_set 7 = .ok (.ifCond .ne 6, 3) := by decide +kernel
theorem dX11_set_10 : decode cX11_set 10 = .ok (.ldc 70, 2) := by decide +kernel
theorem dX11_set_12 : decode cX11_set 12 = .ok (.ireturn, 1) := by decide +kernel
theorem dX11_set_13 : decode cX11_set 13 = .ok (.aload_n 0, 1) := by decide +kernel
theorem dX11_set_14 : decode cX11_set 14 = .ok (.getfield 12, 3) := by decide +kernel
theorem dX11_set_17 : decode cX11_set 17 = .ok (.iload_n 1, 1) := by decide +kernel
theorem dX11_set_18 : decode cX11_set 18 = .ok (.iload_n 2, 1) := by decide +kernel
theorem dX11_set_19 : decode cX11_set 19 = .ok (.iconst 1, 1) := by decide +kernel
theorem dX11_set_20 : decode cX11_set 20 = .ok (.invokevirtual 82, 3) := by decide +kernel
theorem dX11_set_23 : decode cX11_set 23 = .ok (.istore 4, 2) := by decide +kernel
theorem dX11_set_25 : decode cX11_set 25 = .ok (.iload 4, 2) := by decide +kernel
theorem dX11_set_27 : decode cX11_set 27 = .ok (.ifCond .eq 12, 3) := by decide +kernel
theorem dX11_set_30 : decode cX11_set 30 = .ok (.aload_n 0, 1) := by decide +kernel
theorem dX11_set_31 : decode cX11_set 31 = .ok (.iload 4, 2) := by decide +kernel
theorem dX11_set_33 : decode cX11_set 33 = .ok (.invokevirtual 71, 3) := by decide +kernel
theorem dX11_set_36 : decode cX11_set 36 = .ok (.goto 17, 3) := by decide +kernel
theorem dX11_set_39 : decode cX11_set 39 = .ok (.aload_n 0, 1) := by decide +kernel
theorem dX11_set_40 : decode cX11_set 40 = .ok (.aload_n 0, 1) := by decide +kernel
theorem dX11_set_41 : decode cX11_set 41 = .ok (.getfield 12, 3) := by decide +kernel
theorem dX11_set_44 : decode cX11_set 44 = .ok (.iload_n 1, 1) := by decide +kernel
theorem dX11_set_45 : decode cX11_set 45 = .ok (.iload_n 2, 1) := by decide +kernel
theorem dX11_set_46 : decode cX11_set 46 = .ok (.iload_n 3, 1) := by decide +kernel
theorem dX11_set_47 : decode cX11_set 47 = .ok (.invokevirtual 86, 3) := by decide +kernel
theorem dX11_set_50 : decode cX11_set 50 = .ok (.invokevirtual 79, 3) := by decide +kernel
theorem dX11_set_53 : decode cX11_set 53 = .ok (.ireturn, 1) := by decide +kernel
set_option maxRecDepth 20000 in
theorem ggX11_copy_X11_within : GoodIn wsX11_copy wsX11_within := goodIn_r _ [6] (by decide +kernel) (by decide +kernel)
set_option maxRecDepth 20000 in
theorem gX11_copy_X11_within : GoodIn wsX11_copy (va_wsS RX11 66 yX11_within wsX11_within) := goodIn_app (goodIn_of _ (by decide +kernel)) ggX11_copy_X11_within
set_option maxRecDepth 20000 in
theorem ggX11_copy_X7_lookAtBoth : GoodIn wsX11_copy wsX7_lookAtBoth := goodIn_r _ [11, 12, 13, 14, 15, 10, 16, 17, 18, 19, 20, 21, 49, 50, 51] (by decide +kernel) (by decide +kernel)
set_option maxRecDepth 20000 in
theorem gX11_copy_X7_lookAtBoth : GoodIn wsX11_copy (wsV RX11 89 RX7 yX7_lookAtBoth wsX7_lookAtBoth) := goodIn_app (goodIn_of _ (by decide +kernel)) ggX11_copy_X7_lookAtBoth
set_option maxRecDepth 20000 in
theorem ggX11_copy_X11_found : GoodIn wsX11_copy wsX11_found := goodIn_r _ [25, 26, 27, 41, 42, 43, 44, 45, 46, 47, 48] (by decide +kernel) (by decide +kernel)
set_option maxRecDepth 20000 in
theorem gX11_copy_X11_found : GoodIn wsX11_copy (wsV RX11 71 RX11 yX11_found wsX11_found) := goodIn_app (goodIn_of _ (by decide +kernel)) ggX11_copy_X11_found
set_option maxRecDepth 20000 in
theorem ggX11_copy_X7_move : GoodIn wsX11_copy wsX7_move := goodIn_r _ [31, 32, 33, 34, 35, 36, 49, 50, 51] (by decide +kernel) (by decide +kernel)
set_option maxRecDepth 20000 in
theorem gX11_copy_X7_move : GoodIn wsX11_copy (wsV RX11 93 RX7 yX7_move wsX7_move) := goodIn_app (goodIn_of _ (by decide +kernel)) ggX11_copy_X7_move
set_option maxRecDepth 20000 in
theorem ggX11_copy_X11_fine : GoodIn wsX11_copy wsX11_fine := goodIn_r _ [40, 26, 41, 42, 43, 44, 45, 46, 47, 48] (by decide +kernel) (by decide +kernel)
set_option maxRecDepth 20000 in
theorem gX11_copy_X11_fine : GoodIn wsX11_copy (wsV RX11 79 RX11 yX11_fine wsX11_fine) := goodIn_app (goodIn_of _ (by decide +kernel)) ggX11_copy_X11_fine
theorem dX11_copy_0 : decode cX11_copy 0 = .ok (.iload_n 1, 1) := by decide +kernel
theorem dX11_copy_1 : decode cX11_copy 1 = .ok (.iconst 0, 1) := by decide +kernel
theorem dX11_copy_2 : decode cX11_copy 2 = .ok (.bipush 7, 2) := by decide +kernel
theorem dX11_copy_4 : decode cX11_copy 4 = .ok (.invokestatic 66, 3) := by decide +kernel
theorem dX11_copy_7 : decode cX11_copy 7 = .ok (.ifCond .eq 13, 3) := by decide +kernel
theorem dX11_copy_10 : decode cX11_copy 10 = .ok (.iload_n 3, 1) := by decide +kernel
theorem dX11_copy_11 : decode cX11_copy 11 = .ok (.iconst 0, 1) := by decide +kernel
theorem dX11_copy_12 : decode cX11_copy 12 = .ok (.bipush 7, 2) := by decide +kernel
theorem dX11_copy_14 : decode cX11_copy 14 = .ok (.invokestatic 66, 3) := by decide +kernel
theorem dX11_copy_17 : decode cX11_copy 17 = .ok (.ifCond .ne 6, 3) := by decide +kernel
theorem dX11_copy_20 : decode cX11_copy 20 = .ok (.ldc 70, 2) := by decide +kernel
theorem dX11_copy_22 : decode cX11_copy 22 = .ok (.ireturn, 1) := by decide +kernel
theorem dX11_copy_23 : decode cX11_copy 23 = .ok (.aload_n 0, 1) := by decide +kernel
theorem dX11_copy_24 : decode cX11_copy 24 = .ok (.getfield 12, 3) := by decide +kernel
theorem dX11_copy_27 : decode cX11_copy 27 = .ok (.iload_n 1, 1) := by decide +kernel
theorem dX11_copy_28 : decode cX11_copy 28 = .ok (.iload_n 2, 1) := by decide +kernel
theorem dX11_copy_29 : decode cX11_copy 29 = .ok (.iload_n 3, 1) := by decide +kernel
theorem dX11_copy_30 : decode cX11_copy 30 = .ok (.iload 4, 2) := by decide +kernel
theorem dX11_copy_32 : decode cX11_copy 32 = .ok (.iload 5, 2) := by decide +kernel
theorem dX11_copy_34 : decode cX11_copy 34 = .ok (.invokevirtual 89, 3) := by decide +kernel
theorem dX11_copy_37 : decode cX11_copy 37 = .ok (.istore 6, 2) := by decide +kernel
theorem dX11_copy_39 : decode cX11_copy 39 = .ok (.iload 6, 2) := by decide +kernel
theorem dX11_copy_41 : decode cX11_copy 41 = .ok (.ifCond .eq 10, 3) := by decide +kernel
theorem dX11_copy_44 : decode cX11_copy 44 = .ok (.aload_n 0, 1) := by decide +kernel
theorem dX11_copy_45 : decode cX11_copy 45 = .ok (.iload 6, 2) := by decide +kernel
theorem dX11_copy_47 : decode cX11_copy 47 = .ok (.invokevirtual 71, 3) := by decide +kernel
theorem dX11_copy_50 : decode cX11_copy 50 = .ok (.ireturn, 1) := by decide +kernel
theorem dX11_copy_51 : decode cX11_copy 51 = .ok (.aload_n 0, 1) := by decide +kernel
theorem dX11_copy_52 : decode cX11_copy 52 = .ok (.getfield 12, 3) := by decide +kernel
theorem dX11_copy_55 : decode cX11_copy 55 = .ok (.iload_n 1, 1) := by decide +kernel
theorem dX11_copy_56 : decode cX11_copy 56 = .ok (.iload_n 2, 1) := by decide +kernel
theorem dX11_copy_57 : decode cX11_copy 57 = .ok (.iload_n 3, 1) := by decide +kernel
theorem dX11_copy_58 : decode cX11_copy 58 = .ok (.iload 4, 2) := by decide +kernel
theorem dX11_copy_60 : decode cX11_copy 60 = .ok (.iload 5, 2) := by decide +kernel
theorem dX11_copy_62 : decode cX11_copy 62 = .ok (.invokevirtual 93, 3) := by decide +kernel
theorem dX11_copy_65 : decode cX11_copy 65 = .ok (.aload_n 0, 1) := by decide +kernel
theorem dX11_copy_66 : decode cX11_copy 66 = .ok (.iload 5, 2) := by decide +kernel
theorem dX11_copy_68 : decode cX11_copy 68 = .ok (.invokevirtual 79, 3) := by decide +kernel
theorem dX11_copy_71 : decode cX11_copy 71 = .ok (.ireturn, 1) := by decide +kernel
set_option maxRecDepth 20000 in
theorem ggX11_drop_X11_within : GoodIn wsX11_drop wsX11_within := goodIn_r _ [6] (by decide +kernel) (by decide +kernel)
set_option maxRecDepth 20000 in
theorem gX11_drop_X11_within : GoodIn wsX11_drop (va_wsS RX11 66 yX11_within wsX11_within) := goodIn_app (goodIn_of _ (by decide +kernel)) ggX11_drop_X11_within
set_option maxRecDepth 20000 in
theorem ggX11_drop_X7_isMissing : GoodIn wsX11_drop wsX7_isMissing := goodIn_r _ [11, 12, 35, 36, 37] (by decide +kernel) (by decide +kernel)
set_option maxRecDepth 20000 in
theorem gX11_drop_X7_isMissing : GoodIn wsX11_drop (wsV RX11 97 RX7 yX7_isMissing wsX7_isMissing) := goodIn_app (goodIn_of _ (by decide +kernel)) ggX11_drop_X7_isMissing
set_option maxRecDepth 20000 in
theorem ggX11_drop_X11_found : GoodIn wsX11_drop wsX11_found := goodIn_r _ [16, 17, 18, 27, 28, 29, 30, 31, 32, 33, 34] (by decide +kernel) (by decide +kernel)
set_option maxRecDepth 20000 in
theorem gX11_drop_X11_found : GoodIn wsX11_drop (wsV RX11 71 RX11 yX11_found wsX11_found) := goodIn_app (goodIn_of _ (by decide +kernel)) ggX11_drop_X11_found
set_option maxRecDepth 20000 in
theorem ggX11_drop_X7_takeAway : GoodIn wsX11_drop wsX7_takeAway := goodIn_r _ [22, 12, 35, 36, 37] (by decide +kernel) (by decide +kernel)
set_option maxRecDepth 20000 in
theorem gX11_drop_X7_takeAway : GoodIn wsX11_drop (wsV RX11 101 RX7 yX7_takeAway wsX7_takeAway) := goodIn_app (goodIn_of _ (by decide +kernel)) ggX11_drop_X7_takeAway
set_option maxRecDepth 20000 in
theorem ggX11_drop_X11_fine : GoodIn wsX11_drop wsX11_fine := goodIn_r _ [26, 17, 27, 28, 29, 30, 31, 32, 33, 34] (by decide +kernel) (by decide +kernel)
set_option maxRecDepth 20000 in
theorem gX11_drop_X11_fine : GoodIn wsX11_drop (wsV RX11 79 RX11 yX11_fine wsX11_fine) := goodIn_app (goodIn_of _ (by decide +kernel)) ggX11_drop_X11_fine
theorem dX11_drop_0 : decode cX11_drop 0 = .ok (.iload_n 1, 1) := by decide +kernel
theorem dX11_drop_1 : decode cX11_drop 1 = .ok (.iconst 0, 1) := by decide +kernel
theorem dX11_drop_2 : decode cX11_drop 2 = .ok (.bipush 7, 2) := by decide +kernel
theorem dX11_drop_4 : decode cX11_drop 4 = .ok (.invokestatic 66, 3) := by decide +kernel
theorem dX11_drop_7 : decode cX11_drop 7 = .ok (.ifCond .ne 6, 3) := by decide +kernel
theorem dX11_drop_10 : decode cX11_drop 10 = .ok (.ldc 70, 2) := by decide +kernel
theorem dX11_drop_12 : decode cX11_drop 12 = .ok (.ireturn, 1) := by decide +kernel
theorem dX11_drop_13 : decode cX11_drop 13 = .ok (.aload_n 0, 1) := by decide +kernel
theorem dX11_drop_14 : decode cX11_drop 14 = .ok (.getfield 12, 3) := by decide +kernel
theorem dX11_drop_17 : decode cX11_drop 17 = .ok (.iload_n 1, 1) := by decide +kernel
theorem dX11_drop_18 : decode cX11_drop 18 = .ok (.invokevirtual 97, 3) := by decide +kernel
theorem dX11_drop_21 : decode cX11_drop 21 = .ok (.ifCond .eq 11, 3) := by decide +kernel
theorem dX11_drop_24 : decode cX11_drop 24 = .ok (.aload_n 0, 1) := by decide +kernel
theorem dX11_drop_25 : decode cX11_drop 25 = .ok (.iconst 1, 1) := by decide +kernel
theorem dX11_drop_26 : decode cX11_drop 26 = .ok (.invokevirtual 71, 3) := by decide +kernel
theorem dX11_drop_29 : decode cX11_drop 29 = .ok (.goto 15, 3) := by decide +kernel
theorem dX11_drop_32 : decode cX11_drop 32 = .ok (.aload_n 0, 1) := by decide +kernel
theorem dX11_drop_33 : decode cX11_drop 33 = .ok (.aload_n 0, 1) := by decide +kernel
theorem dX11_drop_34 : decode cX11_drop 34 = .ok (.getfield 12, 3) := by decide +kernel
theorem dX11_drop_37 : decode cX11_drop 37 = .ok (.iload_n 1, 1) := by decide +kernel
theorem dX11_drop_38 : decode cX11_drop 38 = .ok (.invokevirtual 101, 3) := by decide +kernel
theorem dX11_drop_41 : decode cX11_drop 41 = .ok (.invokevirtual 79, 3) := by decide +kernel
theorem dX11_drop_44 : decode cX11_drop 44 = .ok (.ireturn, 1) := by decide +kernel
set_option maxRecDepth 20000 in
theorem ggX11_world_X11_within : GoodIn wsX11_world wsX11_within := goodIn_r _ [12] (by decide +kernel) (by decide +kernel)
set_option maxRecDepth 20000 in
theorem gX11_world_X11_within : GoodIn wsX11_world (va_wsS RX11 66 yX11_within wsX11_within) := goodIn_app (goodIn_of _ (by decide +kernel)) ggX11_world_X11_within
set_option maxRecDepth 20000 in
theorem ggX11_world_X7_look : GoodIn wsX11_world wsX7_look := goodIn_r _ [17, 18, 19, 20, 16, 21, 22, 23, 24, 25, 26, 82, 83, 84] (by decide +kernel) (by decide +kernel)
set_option maxRecDepth 20000 in
theorem gX11_world_X7_look : GoodIn wsX11_world (wsV RX11 82 RX7 yX7_look wsX7_look) := goodIn_app (goodIn_of _ (by decide +kernel)) ggX11_world_X7_look
set_option maxRecDepth 20000 in
theorem ggX11_world_X11_found : GoodIn wsX11_world wsX11_found := goodIn_r _ [30, 31, 32, 63, 64, 65, 66, 67, 68, 69, 70] (by decide +kernel) (by decide +kernel)
set_option maxRecDepth 20000 in
theorem gX11_world_X11_found : GoodIn wsX11_world (wsV RX11 71 RX11 yX11_found wsX11_found) := goodIn_app (goodIn_of _ (by decide +kernel)) ggX11_world_X11_found
set_option maxRecDepth 20000 in
theorem ggX11_world_X7_areWithin : GoodIn wsX11_world wsX7_areWithin := goodIn_r _ [36, 37, 10, 11, 12, 82, 83, 84] (by decide +kernel) (by decide +kernel)
set_option maxRecDepth 20000 in
theorem gX11_world_X7_areWithin : GoodIn wsX11_world (wsV RX11 108 RX7 yX7_areWithin wsX7_areWithin) := goodIn_app (goodIn_of _ (by decide +kernel)) ggX11_world_X7_areWithin
set_option maxRecDepth 20000 in
theorem ggX11_world_X6_add : GoodIn wsX11_world wsX6_add := goodIn_r _ [42, 43, 44, 45, 46, 47, 48, 49, 50, 51, 52, 53, 41, 54, 55, 56, 57, 58, 71, 72, 73, 74] (by decide +kernel) (by decide +kernel)
set_option maxRecDepth 20000 in
theorem gX11_world_X6_add : GoodIn wsX11_world (wsV RX11 120 RX6 yX6_add wsX6_add) := goodIn_app (goodIn_of _ (by decide +kernel)) ggX11_world_X6_add
set_option maxRecDepth 20000 in
theorem ggX11_world_X11_fine : GoodIn wsX11_world wsX11_fine := goodIn_r _ [62, 31, 63, 64, 65, 66, 67, 68, 69, 70] (by decide +kernel) (by decide +kernel)
set_option maxRecDepth 20000 in
theorem gX11_world_X11_fine : GoodIn wsX11_world (wsV RX11 79 RX11 yX11_fine wsX11_fine) := goodIn_app (goodIn_of _ (by decide +kernel)) ggX11_world_X11_fine
theorem dX11_world_0 : decode cX11_world 0 = .ok (.iload_n 1, 1) := by decide +kernel
theorem dX11_world_1 : decode cX11_world 1 = .ok (.iconst 1, 1) := by decide +kernel
theorem dX11_world_2 : decode cX11_world 2 = .ok (.bipush 20, 2) := by decide +kernel
theorem dX11_world_4 : decode cX11_world 4 = .ok (.invokestatic 66, 3) := by decide +kernel
theorem dX11_world_7 : decode cX11_world 7 = .ok (.ifCond .eq 13, 3) := by decide +kernel
theorem dX11_world_10 : decode cX11_world 10 = .ok (.iload_n 2, 1) := by decide +kernel
theorem dX11_world_11 : decode cX11_world 11 = .ok (.iconst 0, 1) := by decide +kernel
theorem dX11_world_12 : decode cX11_world 12 = .ok (.bipush 7, 2) := by decide +kernel
theorem dX11_world_14 : decode cX11_world 14 = .ok (.invokestatic 66, 3) := by decide +kernel
theorem dX11_world_17 : decode cX11_world 17 = .ok (.ifCond .ne 6, 3) := by decide +kernel
theorem dX11_world_20 : decode cX11_world 20 = .ok (.ldc 70, 2) := by decide +kernel
theorem dX11_world_22 : decode cX11_world 22 = .ok (.ireturn, 1) := by decide +kernel
theorem dX11_world_23 : decode cX11_world 23 = .ok (.aload_n 0, 1) := by decide +kernel
theorem dX11_world_24 : decode cX11_world 24 = .ok (.getfield 19, 3) := by decide +kernel
theorem dX11_world_27 : decode cX11_world 27 = .ok (.getfield 104, 3) := by decide +kernel
theorem dX11_world_30 : decode cX11_world 30 = .ok (.bipush 8, 2) := by decide +kernel
theorem dX11_world_32 : decode cX11_world 32 = .ok (.if_icmp .lt 6, 3) := by decide +kernel
theorem dX11_world_35 : decode cX11_world 35 = .ok (.ldc 107, 2) := by decide +kernel
theorem dX11_world_37 : decode cX11_world 37 = .ok (.ireturn, 1) := by decide +kernel
theorem dX11_world_38 : decode cX11_world 38 = .ok (.aload_n 0, 1) := by decide +kernel
theorem dX11_world_39 : decode cX11_world 39 = .ok (.getfield 12, 3) := by decide +kernel
theorem dX11_world_42 : decode cX11_world 42 = .ok (.iload_n 2, 1) := by decide +kernel
theorem dX11_world_43 : decode cX11_world 43 = .ok (.iload_n 3, 1) := by decide +kernel
theorem dX11_world_44 : decode cX11_world 44 = .ok (.bipush 8, 2) := by decide +kernel
theorem dX11_world_46 : decode cX11_world 46 = .ok (.invokevirtual 82, 3) := by decide +kernel
theorem dX11_world_49 : decode cX11_world 49 = .ok (.istore 4, 2) := by decide +kernel
theorem dX11_world_51 : decode cX11_world 51 = .ok (.iload 4, 2) := by decide +kernel
theorem dX11_world_53 : decode cX11_world 53 = .ok (.ifCond .eq 10, 3) := by decide +kernel
theorem dX11_world_56 : decode cX11_world 56 = .ok (.aload_n 0, 1) := by decide +kernel
theorem dX11_world_57 : decode cX11_world 57 = .ok (.iload 4, 2) := by decide +kernel
theorem dX11_world_59 : decode cX11_world 59 = .ok (.invokevirtual 71, 3) := by decide +kernel
theorem dX11_world_62 : decode cX11_world 62 = .ok (.ireturn, 1) := by decide +kernel
theorem dX11_world_63 : decode cX11_world 63 = .ok (.aload_n 0, 1) := by decide +kernel
theorem dX11_world_64 : decode cX11_world 64 = .ok (.getfield 12, 3) := by decide +kernel
theorem dX11_world_67 : decode cX11_world 67 = .ok (.iload_n 2, 1) := by decide +kernel
theorem dX11_world_68 : decode cX11_world 68 = .ok (.iload_n 3, 1) := by decide +kernel
theorem dX11_world_69 : decode cX11_world 69 = .ok (.bipush 8, 2) := by decide +kernel
theorem dX11_world_71 : decode cX11_world 71 = .ok (.sipush 1000, 3) := by decide +kernel
theorem dX11_world_74 : decode cX11_world 74 = .ok (.invokevirtual 108, 3) := by decide +kernel
theorem dX11_world_77 : decode cX11_world 77 = .ok (.ifCond .ne 6, 3) := by decide +kernel
theorem dX11_world_80 : decode cX11_world 80 = .ok (.ldc 70, 2) := by decide +kernel
theorem dX11_world_82 : decode cX11_world 82 = .ok (.ireturn, 1) := by decide +kernel
theorem dX11_world_83 : decode cX11_world 83 = .ok (.aload_n 0, 1) := by decide +kernel
theorem dX11_world_84 : decode cX11_world 84 = .ok (.getfield 37, 3) := by decide +kernel
theorem dX11_world_87 : decode cX11_world 87 = .ok (.iconst 1, 1) := by decide +kernel
theorem dX11_world_88 : decode cX11_world 88 = .ok (.putfield 112, 3) := by decide +kernel
theorem dX11_world_91 : decode cX11_world 91 = .ok (.aload_n 0, 1) := by decide +kernel
theorem dX11_world_92 : decode cX11_world 92 = .ok (.aload_n 0, 1) := by decide +kernel
theorem dX11_world_93 : decode cX11_world 93 = .ok (.getfield 19, 3) := by decide +kernel
theorem dX11_world_96 : decode cX11_world 96 = .ok (.iload_n 1, 1) := by decide +kernel
theorem dX11_world_97 : decode cX11_world 97 = .ok (.aload_n 0, 1) := by decide +kernel
theorem dX11_world_98 : decode cX11_world 98 = .ok (.getfield 12, 3) := by decide +kernel
theorem dX11_world_101 : decode cX11_world 101 = .ok (.getfield 116, 3) := by decide +kernel
theorem dX11_world_104 : decode cX11_world 104 = .ok (.iload_n 2, 1) := by decide +kernel
theorem dX11_world_105 : decode cX11_world 105 = .ok (.aaload, 1) := by decide +kernel
theorem dX11_world_106 : decode cX11_world 106 = .ok (.iload_n 3, 1) := by decide +kernel
theorem dX11_world_107 : decode cX11_world 107 = .ok (.invokevirtual 120, 3) := by decide +kernel
theorem dX11_world_110 : decode cX11_world 110 = .ok (.invokevirtual 79, 3) := by decide +kernel
theorem dX11_world_113 : decode cX11_world 113 = .ok (.ireturn, 1) := by decide +kernel
set_option maxRecDepth 20000 in
theorem ggX11_river_X11_within : GoodIn wsX11_river wsX11_within := goodIn_r _ [9] (by decide +kernel) (by decide +kernel)
set_option maxRecDepth 20000 in
theorem gX11_river_X11_within : GoodIn wsX11_river (va_wsS RX11 66 yX11_within wsX11_within) := goodIn_app (goodIn_of _ (by decide +kernel)) ggX11_river_X11_within
theorem dX11_river_0 : decode cX11_river 0 = .ok (.iload_n 1, 1) := by decide +kernel
theorem dX11_river_1 : decode cX11_river 1 = .ok (.iconst 0, 1) := by decide +kernel
theorem dX11_river_2 : decode cX11_river 2 = .ok (.bipush 7, 2) := by decide +kernel
theorem dX11_river_4 : decode cX11_river 4 = .ok (.invokestatic 66, 3) := by decide +kernel
theorem dX11_river_7 : decode cX11_river 7 = .ok (.ifCond .eq 13, 3) := by decide +kernel
theorem dX11_river_10 : decode cX11_river 10 = .ok (.iload_n 2, 1) := by decide +kernel
theorem dX11_river_11 : decode cX11_river 11 = .ok (.iconst 0, 1) := by decide +kernel
theorem dX11_river_12 : decode cX11_river 12 = .ok (.bipush 100, 2) := by decide +kernel
theorem dX11_river_14 : decode cX11_river 14 = .ok (.invokestatic 66, 3) := by decide +kernel
theorem dX11_river_17 : decode cX11_river 17 = .ok (.ifCond .ne 6, 3) := by decide +kernel
theorem dX11_river_20 : decode cX11_river 20 = .ok (.ldc 70, 2) := by decide +kernel
theorem dX11_river_22 : decode cX11_river 22 = .ok (.ireturn, 1) := by decide +kernel
theorem dX11_river_23 : decode cX11_river 23 = .ok (.aload_n 0, 1) := by decide +kernel
theorem dX11_river_24 : decode cX11_river 24 = .ok (.getfield 28, 3) := by decide +kernel
theorem dX11_river_27 : decode cX11_river 27 = .ok (.getfield 124, 3) := by decide +kernel
theorem dX11_river_30 : decode cX11_river 30 = .ok (.iload_n 1, 1) := by decide +kernel
theorem dX11_river_31 : decode cX11_river 31 = .ok (.iaload, 1) := by decide +kernel
theorem dX11_river_32 : decode cX11_river 32 = .ok (.istore_n 3, 1) := by decide +kernel
theorem dX11_river_33 : decode cX11_river 33 = .ok (.aload_n 0, 1) := by decide +kernel
theorem dX11_river_34 : decode cX11_river 34 = .ok (.getfield 28, 3) := by decide +kernel
theorem dX11_river_37 : decode cX11_river 37 = .ok (.getfield 124, 3) := by decide +kernel
theorem dX11_river_40 : decode cX11_river 40 = .ok (.iload_n 1, 1) := by decide +kernel
theorem dX11_river_41 : decode cX11_river 41 = .ok (.iload_n 2, 1) := by decide +kernel
theorem dX11_river_42 : decode cX11_river 42 = .ok (.iastore, 1) := by decide +kernel
theorem dX11_river_43 : decode cX11_river 43 = .ok (.aload_n 0, 1) := by decide +kernel
theorem dX11_river_44 : decode cX11_river 44 = .ok (.getfield 37, 3) := by decide +kernel
theorem dX11_river_47 : decode cX11_river 47 = .ok (.iconst 1, 1) := by decide +kernel
theorem dX11_river_48 : decode cX11_river 48 = .ok (.putfield 112, 3) := by decide +kernel
theorem dX11_river_51 : decode cX11_river 51 = .ok (.iload_n 3, 1) := by decide +kernel
theorem dX11_river_52 : decode cX11_river 52 = .ok (.ireturn, 1) := by decide +kernel
set_option maxRecDepth 20000 in
theorem ggX11_rule_X11_within : GoodIn wsX11_rule wsX11_within := goodIn_r _ [9] (by decide +kernel) (by decide +kernel)
set_option maxRecDepth 20000 in
theorem gX11_rule_X11_within : GoodIn wsX11_rule (va_wsS RX11 66 yX11_within wsX11_within) := goodIn_app (goodIn_of _ (by decide +kernel)) ggX11_rule_X11_within
set_option maxRecDepth 20000 in
theorem ggX11_rule_X11_mayBeRule : GoodIn wsX11_rule wsX11_mayBeRule := goodIn_r _ [12, 6, 7, 8, 9] (by decide +kernel) (by decide +kernel)
set_option maxRecDepth 20000 in
theorem gX11_rule_X11_mayBeRule : GoodIn wsX11_rule (va_wsS RX11 128 yX11_mayBeRule wsX11_mayBeRule) := goodIn_app (goodIn_of _ (by decide +kernel)) ggX11_rule_X11_mayBeRule
theorem dX11_rule_0 : decode cX11_rule 0 = .ok (.iload_n 1, 1) := by decide +kernel
theorem dX11_rule_1 : decode cX11_rule 1 = .ok (.iconst 0, 1) := by decide +kernel
theorem dX11_rule_2 : decode cX11_rule 2 = .ok (.bipush 7, 2) := by decide +kernel
theorem dX11_rule_4 : decode cX11_rule 4 = .ok (.invokestatic 66, 3) := by decide +kernel
theorem dX11_rule_7 : decode cX11_rule 7 = .ok (.ifCond .eq 11, 3) := by decide +kernel
theorem dX11_rule_10 : decode cX11_rule 10 = .ok (.iload_n 1, 1) := by decide +kernel
theorem dX11_rule_11 : decode cX11_rule 11 = .ok (.iload_n 2, 1) := by decide +kernel
theorem dX11_rule_12 : decode cX11_rule 12 = .ok (.invokestatic 128, 3) := by decide +kernel
theorem dX11_rule_15 : decode cX11_rule 15 = .ok (.ifCond .ne 6, 3) := by decide +kernel
theorem dX11_rule_18 : decode cX11_rule 18 = .ok (.ldc 70, 2) := by decide +kernel
theorem dX11_rule_20 : decode cX11_rule 20 = .ok (.ireturn, 1) := by decide +kernel
theorem dX11_rule_21 : decode cX11_rule 21 = .ok (.aload_n 0, 1) := by decide +kernel
theorem dX11_rule_22 : decode cX11_rule 22 = .ok (.getfield 28, 3) := by decide +kernel
theorem dX11_rule_25 : decode cX11_rule 25 = .ok (.getfield 132, 3) := by decide +kernel
theorem dX11_rule_28 : decode cX11_rule 28 = .ok (.iload_n 1, 1) := by decide +kernel
theorem dX11_rule_29 : decode cX11_rule 29 = .ok (.iaload, 1) := by decide +kernel
theorem dX11_rule_30 : decode cX11_rule 30 = .ok (.istore_n 3, 1) := by decide +kernel
theorem dX11_rule_31 : decode cX11_rule 31 = .ok (.aload_n 0, 1) := by decide +kernel
theorem dX11_rule_32 : decode cX11_rule 32 = .ok (.getfield 28, 3) := by decide +kernel
theorem dX11_rule_35 : decode cX11_rule 35 = .ok (.getfield 132, 3) := by decide +kernel
theorem dX11_rule_38 : decode cX11_rule 38 = .ok (.iload_n 1, 1) := by decide +kernel
theorem dX11_rule_39 : decode cX11_rule 39 = .ok (.iload_n 2, 1) := by decide +kernel
theorem dX11_rule_40 : decode cX11_rule 40 = .ok (.iastore, 1) := by decide +kernel
theorem dX11_rule_41 : decode cX11_rule 41 = .ok (.aload_n 0, 1) := by decide +kernel
theorem dX11_rule_42 : decode cX11_rule 42 = .ok (.getfield 37, 3) := by decide +kernel
theorem dX11_rule_45 : decode cX11_rule 45 = .ok (.iconst 1, 1) := by decide +kernel
theorem dX11_rule_46 : decode cX11_rule 46 = .ok (.putfield 112, 3) := by decide +kernel
theorem dX11_rule_49 : decode cX11_rule 49 = .ok (.iload_n 3, 1) := by decide +kernel
theorem dX11_rule_50 : decode cX11_rule 50 = .ok (.ireturn, 1) := by decide +kernel
set_option maxRecDepth 20000 in
theorem ggX11_mayBeRule_X11_within : GoodIn wsX11_mayBeRule wsX11_within := goodIn_r _ [4] (by decide +kernel) (by decide +kernel)
set_option maxRecDepth 20000 in
theorem gX11_mayBeRule_X11_within : GoodIn wsX11_mayBeRule (va_wsS RX11 66 yX11_within wsX11_within) := goodIn_app (goodIn_of _ (by decide +kernel)) ggX11_mayBeRule_X11_within
theorem dX11_mayBeRule_0 : decode cX11_mayBeRule 0 = .ok (.iload_n 0, 1) := by decide +kernel
theorem dX11_mayBeRule_1 : decode cX11_mayBeRule 1 = .ok (.ifCond .eq 8, 3) := by decide +kernel
theorem dX11_mayBeRule_4 : decode cX11_mayBeRule 4 = .ok (.iload_n 0, 1) := by decide +kernel
theorem dX11_mayBeRule_5 : decode cX11_mayBeRule 5 = .ok (.iconst 1, 1) := by decide +kernel
theorem dX11_mayBeRule_6 : decode cX11_mayBeRule 6 = .ok (.if_icmp .ne 12, 3) := by decide +kernel
theorem dX11_mayBeRule_9 : decode cX11_mayBeRule 9 = .ok (.iload_n 1, 1) := by decide +kernel
theorem dX11_mayBeRule_10 : decode cX11_mayBeRule 10 = .ok (.iconst 1, 1) := by decide +kernel
theorem dX11_mayBeRule_11 : decode cX11_mayBeRule 11 = .ok (.iconst 3, 1) := by decide +kernel
theorem dX11_mayBeRule_12 : decode cX11_mayBeRule 12 = .ok (.invokestatic 66, 3) := by decide +kernel
theorem dX11_mayBeRule_15 : decode cX11_mayBeRule 15 = .ok (.goto 11, 3) := by decide +kernel
theorem dX11_mayBeRule_18 : decode cX11_mayBeRule 18 = .ok (.iload_n 1, 1) := by decide +kernel
theorem dX11_mayBeRule_19 : decode cX11_mayBeRule 19 = .ok (.iconst 0, 1) := by decide +kernel
theorem dX11_mayBeRule_20 : decode cX11_mayBeRule 20 = .ok (.sipush 1000, 3) := by decide +kernel
theorem dX11_mayBeRule_23 : decode cX11_mayBeRule 23 = .ok (.invokestatic 66, 3) := by decide +kernel
theorem dX11_mayBeRule_26 : decode cX11_mayBeRule 26 = .ok (.ireturn, 1) := by decide +kernel
set_option maxRecDepth 20000 in
theorem ggX11_best_X4_refresh : GoodIn wsX11_best wsX4_refresh := goodIn_r _ [7, 8, 9, 10, 11, 12, 13, 14, 15, 16, 6, 17, 18, 19, 20, 21, 22, 23, 24, 25, 26, 27, 28, 29, 30, 31, 32, 33, 34, 35, 36, 37, 38, 39, 40, 41, 42, 43, 44, 45, 46, 47, 48, 49, 50, 51, 52, 53, 54, 55, 56, 57, 58, 59, 60, 61, 62, 63, 64, 65, 66, 67, 68, 69, 70, 71, 72, 81, 82, 83, 84, 85, 86, 87, 88, 89, 90, 91, 92, 93, 94] (by decide +kernel) (by decide +kernel)
set_option maxRecDepth 20000 in
theorem gX11_best_X4_refresh : GoodIn wsX11_best (wsV RX11 135 RX4 yX4_refresh wsX4_refresh) := goodIn_app (goodIn_of _ (by decide +kernel)) ggX11_best_X4_refresh
theorem dX11_best_0 : decode cX11_best 0 = .ok (.aload_n 0, 1) := by decide +kernel
theorem dX11_best_1 : decode cX11_best 1 = .ok (.getfield 37, 3) := by decide +kernel
theorem dX11_best_4 : decode cX11_best 4 = .ok (.invokevirtual 135, 3) := by decide +kernel
theorem dX11_best_7 : decode cX11_best 7 = .ok (.aload_n 0, 1) := by decide +kernel
theorem dX11_best_8 : decode cX11_best 8 = .ok (.getfield 37, 3) := by decide +kernel
theorem dX11_best_11 : decode cX11_best 11 = .ok (.getfield 138, 3) := by decide +kernel
theorem dX11_best_14 : decode cX11_best 14 = .ok (.lreturn, 1) := by decide +kernel
set_option maxRecDepth 20000 in
theorem ggX11_hour_X11_within : GoodIn wsX11_hour wsX11_within := goodIn_r _ [9] (by decide +kernel) (by decide +kernel)
set_option maxRecDepth 20000 in
theorem gX11_hour_X11_within : GoodIn wsX11_hour (va_wsS RX11 66 yX11_within wsX11_within) := goodIn_app (goodIn_of _ (by decide +kernel)) ggX11_hour_X11_within
set_option maxRecDepth 20000 in
theorem ggX11_hour_X4_refresh : GoodIn wsX11_hour wsX4_refresh := goodIn_r _ [14, 15, 16, 17, 18, 19, 20, 21, 22, 23, 13, 24, 25, 26, 27, 28, 29, 30, 31, 32, 33, 34, 35, 36, 37, 38, 39, 40, 41, 42, 43, 44, 45, 46, 47, 48, 49, 50, 51, 52, 53, 54, 55, 56, 57, 58, 59, 60, 61, 62, 63, 64, 65, 66, 67, 68, 69, 70, 71, 72, 73, 74, 75, 76, 77, 78, 79, 110, 111, 112, 113, 114, 115, 116, 106, 107, 108, 109, 117, 118, 119] (by decide +kernel) (by decide +kernel)
set_option maxRecDepth 20000 in
theorem gX11_hour_X4_refresh : GoodIn wsX11_hour (wsV RX11 135 RX4 yX4_refresh wsX4_refresh) := goodIn_app (goodIn_of _ (by decide +kernel)) ggX11_hour_X4_refresh
set_option maxRecDepth 20000 in
theorem ggX11_hour_X4_stateAt : GoodIn wsX11_hour wsX4_stateAt := goodIn_r _ [83, 47, 84, 85, 86, 13, 87, 30, 17, 19, 72, 59, 60, 51, 61, 53, 73, 74, 75, 76, 77, 78, 110, 111, 112, 113, 114, 115, 116, 106, 107, 108, 109, 117, 118, 119] (by decide +kernel) (by decide +kernel)
set_option maxRecDepth 20000 in
theorem gX11_hour_X4_stateAt : GoodIn wsX11_hour (wsV RX11 142 RX4 yX4_stateAt wsX4_stateAt) := goodIn_app (goodIn_of _ (by decide +kernel)) ggX11_hour_X4_stateAt
set_option maxRecDepth 20000 in
theorem ggX11_hour_X4_tells : GoodIn wsX11_hour wsX4_tells := goodIn_r _ [87, 30, 17, 19, 110, 111, 112, 113, 114, 115, 116, 106, 107, 108, 109] (by decide +kernel) (by decide +kernel)
set_option maxRecDepth 20000 in
theorem gX11_hour_X4_tells : GoodIn wsX11_hour (wsV RX11 146 RX4 yX4_tells wsX4_tells) := goodIn_app (goodIn_of _ (by decide +kernel)) ggX11_hour_X4_tells
set_option maxRecDepth 20000 in
theorem ggX11_hour_X0_order : GoodIn wsX11_hour wsX0_order := goodIn_r _ [91] (by decide +kernel) (by decide +kernel)
set_option maxRecDepth 20000 in
theorem gX11_hour_X0_order : GoodIn wsX11_hour (va_wsS RX11 149 yX0_order wsX0_order) := goodIn_app (goodIn_of _ (by decide +kernel)) ggX11_hour_X0_order
set_option maxRecDepth 20000 in
theorem ggX11_hour_X0_stands : GoodIn wsX11_hour wsX0_stands := goodIn_r _ [61, 53, 117, 118, 119] (by decide +kernel) (by decide +kernel)
set_option maxRecDepth 20000 in
theorem gX11_hour_X0_stands : GoodIn wsX11_hour (wsV RX11 153 RX0 yX0_stands wsX0_stands) := goodIn_app (goodIn_of _ (by decide +kernel)) ggX11_hour_X0_stands
set_option maxRecDepth 20000 in
theorem ggX11_hour_X0_how : GoodIn wsX11_hour wsX0_how := goodIn_r _ [95] (by decide +kernel) (by decide +kernel)
set_option maxRecDepth 20000 in
theorem gX11_hour_X0_how : GoodIn wsX11_hour (va_wsS RX11 156 yX0_how wsX0_how) := goodIn_app (goodIn_of _ (by decide +kernel)) ggX11_hour_X0_how
set_option maxRecDepth 20000 in
theorem ggX11_hour_X0_water : GoodIn wsX11_hour wsX0_water := goodIn_r _ [65, 66, 67, 68, 69, 56, 70, 71, 117, 118, 119, 106, 107, 108, 109] (by decide +kernel) (by decide +kernel)
set_option maxRecDepth 20000 in
theorem gX11_hour_X0_water : GoodIn wsX11_hour (wsV RX11 159 RX0 yX0_water wsX0_water) := goodIn_app (goodIn_of _ (by decide +kernel)) ggX11_hour_X0_water
set_option maxRecDepth 20000 in
theorem ggX11_hour_X0_lost : GoodIn wsX11_hour wsX0_lost := goodIn_r _ [52, 53, 54, 55, 56, 57, 58, 59, 60, 51, 61, 62, 63, 64, 65, 66, 67, 68, 69, 70, 71, 117, 118, 119, 106, 107, 108, 109] (by decide +kernel) (by decide +kernel)
set_option maxRecDepth 20000 in
theorem gX11_hour_X0_lost : GoodIn wsX11_hour (wsV RX11 162 RX0 yX0_lost wsX0_lost) := goodIn_app (goodIn_of _ (by decide +kernel)) ggX11_hour_X0_lost
theorem dX11_hour_0 : decode cX11_hour 0 = .ok (.iload_n 1, 1) := by decide +kernel
theorem dX11_hour_1 : decode cX11_hour 1 = .ok (.iconst 0, 1) := by decide +kernel
theorem dX11_hour_2 : decode cX11_hour 2 = .ok (.aload_n 0, 1) := by decide +kernel
end
section
theorem dX11_hour_3 : decode cX11_hour 3 = .ok (.getfield 19, 3) := by decide +kernel
theorem dX11_hour_6 : decode cX11_hour 6 = .ok (.getfield 104, 3) := by decide +kernel
theorem dX11_hour_9 : decode cX11_hour 9 = .ok (.iconst 1, 1) := by decide +kernel
theorem dX11_hour_10 : decode cX11_hour 10 = .ok (.isub, 1) := by decide +kernel
theorem dX11_hour_11 : decode cX11_hour 11 = .ok (.invokestatic 66, 3) := by decide +kernel
theorem dX11_hour_14 : decode cX11_hour 14 = .ok (.ifCond .eq 13, 3) := by decide +kernel
theorem dX11_hour_17 : decode cX11_hour 17 = .ok (.iload_n 2, 1) := by decide +kernel
theorem dX11_hour_18 : decode cX11_hour 18 = .ok (.iconst 0, 1) := by decide +kernel
theorem dX11_hour_19 : decode cX11_hour 19 = .ok (.bipush 7, 2) := by decide +kernel
theorem dX11_hour_21 : decode cX11_hour 21 = .ok (.invokestatic 66, 3) := by decide +kernel
theorem dX11_hour_24 : decode cX11_hour 24 = .ok (.ifCond .ne 6, 3) := by decide +kernel
theorem dX11_hour_27 : decode cX11_hour 27 = .ok (.ldc 70, 2) := by decide +kernel
theorem dX11_hour_29 : decode cX11_hour 29 = .ok (.ireturn, 1) := by decide +kernel
theorem dX11_hour_30 : decode cX11_hour 30 = .ok (.aload_n 0, 1) := by decide +kernel
theorem dX11_hour_31 : decode cX11_hour 31 = .ok (.getfield 37, 3) := by decide +kernel
theorem dX11_hour_34 : decode cX11_hour 34 = .ok (.invokevirtual 135, 3) := by decide +kernel
theorem dX11_hour_37 : decode cX11_hour 37 = .ok (.aload_n 0, 1) := by decide +kernel
theorem dX11_hour_38 : decode cX11_hour 38 = .ok (.getfield 37, 3) := by decide +kernel
theorem dX11_hour_41 : decode cX11_hour 41 = .ok (.iload_n 1, 1) := by decide +kernel
theorem dX11_hour_42 : decode cX11_hour 42 = .ok (.iload_n 2, 1) := by decide +kernel
theorem dX11_hour_43 : decode cX11_hour 43 = .ok (.invokevirtual 142, 3) := by decide +kernel
theorem dX11_hour_46 : decode cX11_hour 46 = .ok (.istore 4, 2) := by decide +kernel
theorem dX11_hour_48 : decode cX11_hour 48 = .ok (.aload_n 0, 1) := by decide +kernel
theorem dX11_hour_49 : decode cX11_hour 49 = .ok (.getfield 37, 3) := by decide +kernel
theorem dX11_hour_52 : decode cX11_hour 52 = .ok (.iload_n 2, 1) := by decide +kernel
theorem dX11_hour_53 : decode cX11_hour 53 = .ok (.iload_n 1, 1) := by decide +kernel
theorem dX11_hour_54 : decode cX11_hour 54 = .ok (.iload 4, 2) := by decide +kernel
theorem dX11_hour_56 : decode cX11_hour 56 = .ok (.invokevirtual 146, 3) := by decide +kernel
theorem dX11_hour_59 : decode cX11_hour 59 = .ok (.istore 5, 2) := by decide +kernel
theorem dX11_hour_61 : decode cX11_hour 61 = .ok (.iload_n 3, 1) := by decide +kernel
theorem dX11_hour_62 : decode cX11_hour 62 = .ok (.tableswitch 88 0 3 #[30, 38, 53, 74], 30) := by decide +kernel
theorem dX11_hour_92 : decode cX11_hour 92 = .ok (.iload 4, 2) := by decide +kernel
theorem dX11_hour_94 : decode cX11_hour 94 = .ok (.iload 5, 2) := by decide +kernel
theorem dX11_hour_96 : decode cX11_hour 96 = .ok (.invokestatic 149, 3) := by decide +kernel
theorem dX11_hour_99 : decode cX11_hour 99 = .ok (.ireturn, 1) := by decide +kernel
theorem dX11_hour_100 : decode cX11_hour 100 = .ok (.aload_n 0, 1) := by decide +kernel
theorem dX11_hour_101 : decode cX11_hour 101 = .ok (.getfield 28, 3) := by decide +kernel
theorem dX11_hour_104 : decode cX11_hour 104 = .ok (.iload 4, 2) := by decide +kernel
theorem dX11_hour_106 : decode cX11_hour 106 = .ok (.iload 5, 2) := by decide +kernel
theorem dX11_hour_108 : decode cX11_hour 108 = .ok (.invokevirtual 153, 3) := by decide +kernel
theorem dX11_hour_111 : decode cX11_hour 111 = .ok (.invokestatic 156, 3) := by decide +kernel
theorem dX11_hour_114 : decode cX11_hour 114 = .ok (.ireturn, 1) := by decide +kernel
theorem dX11_hour_115 : decode cX11_hour 115 = .ok (.aload_n 0, 1) := by decide +kernel
theorem dX11_hour_116 : decode cX11_hour 116 = .ok (.getfield 28, 3) := by decide +kernel
theorem dX11_hour_119 : decode cX11_hour 119 = .ok (.iload_n 1, 1) := by decide +kernel
theorem dX11_hour_120 : decode cX11_hour 120 = .ok (.iload_n 2, 1) := by decide +kernel
theorem dX11_hour_121 : decode cX11_hour 121 = .ok (.aload_n 0, 1) := by decide +kernel
theorem dX11_hour_122 : decode cX11_hour 122 = .ok (.getfield 28, 3) := by decide +kernel
theorem dX11_hour_125 : decode cX11_hour 125 = .ok (.iload 4, 2) := by decide +kernel
theorem dX11_hour_127 : decode cX11_hour 127 = .ok (.iload 5, 2) := by decide +kernel
theorem dX11_hour_129 : decode cX11_hour 129 = .ok (.invokevirtual 153, 3) := by decide +kernel
theorem dX11_hour_132 : decode cX11_hour 132 = .ok (.invokevirtual 159, 3) := by decide +kernel
theorem dX11_hour_135 : decode cX11_hour 135 = .ok (.ireturn, 1) := by decide +kernel
theorem dX11_hour_136 : decode cX11_hour 136 = .ok (.aload_n 0, 1) := by decide +kernel
theorem dX11_hour_137 : decode cX11_hour 137 = .ok (.getfield 28, 3) := by decide +kernel
theorem dX11_hour_140 : decode cX11_hour 140 = .ok (.iload_n 1, 1) := by decide +kernel
theorem dX11_hour_141 : decode cX11_hour 141 = .ok (.iload_n 2, 1) := by decide +kernel
theorem dX11_hour_142 : decode cX11_hour 142 = .ok (.iload 4, 2) := by decide +kernel
theorem dX11_hour_144 : decode cX11_hour 144 = .ok (.iload 5, 2) := by decide +kernel
theorem dX11_hour_146 : decode cX11_hour 146 = .ok (.invokevirtual 162, 3) := by decide +kernel
theorem dX11_hour_149 : decode cX11_hour 149 = .ok (.ireturn, 1) := by decide +kernel
theorem dX11_hour_150 : decode cX11_hour 150 = .ok (.ldc 70, 2) := by decide +kernel
theorem dX11_hour_152 : decode cX11_hour 152 = .ok (.ireturn, 1) := by decide +kernel
set_option maxRecDepth 20000 in
theorem ggX11_shutAt_X11_within : GoodIn wsX11_shutAt wsX11_within := goodIn_r _ [6] (by decide +kernel) (by decide +kernel)
set_option maxRecDepth 20000 in
theorem gX11_shutAt_X11_within : GoodIn wsX11_shutAt (va_wsS RX11 66 yX11_within wsX11_within) := goodIn_app (goodIn_of _ (by decide +kernel)) ggX11_shutAt_X11_within
set_option maxRecDepth 20000 in
theorem ggX11_shutAt_X0_lossOfOneOrder : GoodIn wsX11_shutAt wsX0_lossOfOneOrder := goodIn_r _ [11, 12, 13, 14, 15, 16, 17, 10, 18, 19, 20, 21, 22, 23, 24, 25, 26, 27, 28, 29, 30, 31, 32, 33, 34, 35, 36, 37, 38, 39, 40, 41, 42, 51, 52, 53, 54, 55, 56, 57] (by decide +kernel) (by decide +kernel)
set_option maxRecDepth 20000 in
theorem gX11_shutAt_X0_lossOfOneOrder : GoodIn wsX11_shutAt (wsV RX11 166 RX0 yX0_lossOfOneOrder wsX0_lossOfOneOrder) := goodIn_app (goodIn_of _ (by decide +kernel)) ggX11_shutAt_X0_lossOfOneOrder
theorem dX11_shutAt_0 : decode cX11_shutAt 0 = .ok (.iload_n 1, 1) := by decide +kernel
theorem dX11_shutAt_1 : decode cX11_shutAt 1 = .ok (.iconst 0, 1) := by decide +kernel
theorem dX11_shutAt_2 : decode cX11_shutAt 2 = .ok (.bipush 8, 2) := by decide +kernel
theorem dX11_shutAt_4 : decode cX11_shutAt 4 = .ok (.invokestatic 66, 3) := by decide +kernel
theorem dX11_shutAt_7 : decode cX11_shutAt 7 = .ok (.ifCond .eq 14, 3) := by decide +kernel
theorem dX11_shutAt_10 : decode cX11_shutAt 10 = .ok (.aload_n 0, 1) := by decide +kernel
theorem dX11_shutAt_11 : decode cX11_shutAt 11 = .ok (.getfield 28, 3) := by decide +kernel
theorem dX11_shutAt_14 : decode cX11_shutAt 14 = .ok (.iload_n 1, 1) := by decide +kernel
theorem dX11_shutAt_15 : decode cX11_shutAt 15 = .ok (.invokevirtual 166, 3) := by decide +kernel
theorem dX11_shutAt_18 : decode cX11_shutAt 18 = .ok (.goto 6, 3) := by decide +kernel
theorem dX11_shutAt_21 : decode cX11_shutAt 21 = .ok (.ldc2_w 170, 3) := by decide +kernel
theorem dX11_shutAt_24 : decode cX11_shutAt 24 = .ok (.lreturn, 1) := by decide +kernel
set_option maxRecDepth 20000 in
theorem ggX11_alarm_X6_firstAbove : GoodIn wsX11_alarm wsX6_firstAbove := goodIn_r _ [9, 10, 11, 23, 24, 25, 26] (by decide +kernel) (by decide +kernel)
set_option maxRecDepth 20000 in
theorem gX11_alarm_X6_firstAbove : GoodIn wsX11_alarm (wsV RX11 172 RX6 yX6_firstAbove wsX6_firstAbove) := goodIn_app (goodIn_of _ (by decide +kernel)) ggX11_alarm_X6_firstAbove
theorem dX11_alarm_0 : decode cX11_alarm 0 = .ok (.aload_n 0, 1) := by decide +kernel
theorem dX11_alarm_1 : decode cX11_alarm 1 = .ok (.getfield 19, 3) := by decide +kernel
theorem dX11_alarm_4 : decode cX11_alarm 4 = .ok (.aload_n 0, 1) := by decide +kernel
theorem dX11_alarm_5 : decode cX11_alarm 5 = .ok (.getfield 28, 3) := by decide +kernel
theorem dX11_alarm_8 : decode cX11_alarm 8 = .ok (.getfield 132, 3) := by decide +kernel
theorem dX11_alarm_11 : decode cX11_alarm 11 = .ok (.iconst 2, 1) := by decide +kernel
theorem dX11_alarm_12 : decode cX11_alarm 12 = .ok (.iaload, 1) := by decide +kernel
theorem dX11_alarm_13 : decode cX11_alarm 13 = .ok (.invokevirtual 172, 3) := by decide +kernel
theorem dX11_alarm_16 : decode cX11_alarm 16 = .ok (.istore_n 1, 1) := by decide +kernel
theorem dX11_alarm_17 : decode cX11_alarm 17 = .ok (.iload_n 1, 1) := by decide +kernel
theorem dX11_alarm_18 : decode cX11_alarm 18 = .ok (.bipush 8, 2) := by decide +kernel
theorem dX11_alarm_20 : decode cX11_alarm 20 = .ok (.if_icmp .ne 6, 3) := by decide +kernel
theorem dX11_alarm_23 : decode cX11_alarm 23 = .ok (.bipush 8, 2) := by decide +kernel
theorem dX11_alarm_25 : decode cX11_alarm 25 = .ok (.ireturn, 1) := by decide +kernel
theorem dX11_alarm_26 : decode cX11_alarm 26 = .ok (.iload_n 1, 1) := by decide +kernel
theorem dX11_alarm_27 : decode cX11_alarm 27 = .ok (.aload_n 0, 1) := by decide +kernel
theorem dX11_alarm_28 : decode cX11_alarm 28 = .ok (.getfield 28, 3) := by decide +kernel
theorem dX11_alarm_31 : decode cX11_alarm 31 = .ok (.getfield 132, 3) := by decide +kernel
theorem dX11_alarm_34 : decode cX11_alarm 34 = .ok (.iconst 0, 1) := by decide +kernel
theorem dX11_alarm_35 : decode cX11_alarm 35 = .ok (.iaload, 1) := by decide +kernel
theorem dX11_alarm_36 : decode cX11_alarm 36 = .ok (.isub, 1) := by decide +kernel
theorem dX11_alarm_37 : decode cX11_alarm 37 = .ok (.istore_n 2, 1) := by decide +kernel
theorem dX11_alarm_38 : decode cX11_alarm 38 = .ok (.iload_n 2, 1) := by decide +kernel
theorem dX11_alarm_39 : decode cX11_alarm 39 = .ok (.ifCond .ge 8, 3) := by decide +kernel
theorem dX11_alarm_42 : decode cX11_alarm 42 = .ok (.ldc 175, 2) := by decide +kernel
theorem dX11_alarm_44 : decode cX11_alarm 44 = .ok (.goto 4, 3) := by decide +kernel
theorem dX11_alarm_47 : decode cX11_alarm 47 = .ok (.iload_n 2, 1) := by decide +kernel
theorem dX11_alarm_48 : decode cX11_alarm 48 = .ok (.ireturn, 1) := by decide +kernel
set_option maxRecDepth 20000 in
theorem ggX11_groups_X11_within : GoodIn wsX11_groups wsX11_within := goodIn_r _ [6] (by decide +kernel) (by decide +kernel)
set_option maxRecDepth 20000 in
theorem gX11_groups_X11_within : GoodIn wsX11_groups (va_wsS RX11 66 yX11_within wsX11_within) := goodIn_app (goodIn_of _ (by decide +kernel)) ggX11_groups_X11_within
set_option maxRecDepth 20000 in
theorem ggX11_groups_X6_groupsAt : GoodIn wsX11_groups wsX6_groupsAt := goodIn_r _ [11, 12, 13, 22, 23, 24, 25] (by decide +kernel) (by decide +kernel)
set_option maxRecDepth 20000 in
theorem gX11_groups_X6_groupsAt : GoodIn wsX11_groups (wsV RX11 176 RX6 yX6_groupsAt wsX6_groupsAt) := goodIn_app (goodIn_of _ (by decide +kernel)) ggX11_groups_X6_groupsAt
theorem dX11_groups_0 : decode cX11_groups 0 = .ok (.iload_n 1, 1) := by decide +kernel
theorem dX11_groups_1 : decode cX11_groups 1 = .ok (.iconst 0, 1) := by decide +kernel
theorem dX11_groups_2 : decode cX11_groups 2 = .ok (.bipush 7, 2) := by decide +kernel
theorem dX11_groups_4 : decode cX11_groups 4 = .ok (.invokestatic 66, 3) := by decide +kernel
theorem dX11_groups_7 : decode cX11_groups 7 = .ok (.ifCond .eq 14, 3) := by decide +kernel
theorem dX11_groups_10 : decode cX11_groups 10 = .ok (.aload_n 0, 1) := by decide +kernel
theorem dX11_groups_11 : decode cX11_groups 11 = .ok (.getfield 19, 3) := by decide +kernel
theorem dX11_groups_14 : decode cX11_groups 14 = .ok (.iload_n 1, 1) := by decide +kernel
theorem dX11_groups_15 : decode cX11_groups 15 = .ok (.invokevirtual 176, 3) := by decide +kernel
theorem dX11_groups_18 : decode cX11_groups 18 = .ok (.goto 5, 3) := by decide +kernel
theorem dX11_groups_21 : decode cX11_groups 21 = .ok (.ldc 70, 2) := by decide +kernel
theorem dX11_groups_23 : decode cX11_groups 23 = .ok (.ireturn, 1) := by decide +kernel
set_option maxRecDepth 20000 in
theorem ggX11_gate_X11_within : GoodIn wsX11_gate wsX11_within := goodIn_r _ [8] (by decide +kernel) (by decide +kernel)
set_option maxRecDepth 20000 in
theorem gX11_gate_X11_within : GoodIn wsX11_gate (va_wsS RX11 66 yX11_within wsX11_within) := goodIn_app (goodIn_of _ (by decide +kernel)) ggX11_gate_X11_within
set_option maxRecDepth 20000 in
theorem ggX11_gate_X11_gateOf : GoodIn wsX11_gate wsX11_gateOf := goodIn_r _ [11, 12, 13, 14, 15, 16, 17, 18, 19, 20, 21, 22, 23, 24, 25, 26, 27, 28, 29, 30, 31, 32, 33, 34, 35, 36, 37, 38, 39, 40, 41, 42, 43, 44, 63, 64, 65, 66, 67, 68, 69, 70, 71, 72, 73, 74] (by decide +kernel) (by decide +kernel)
set_option maxRecDepth 20000 in
theorem gX11_gate_X11_gateOf : GoodIn wsX11_gate (va_wsS RX11 180 yX11_gateOf wsX11_gateOf) := goodIn_app (goodIn_of _ (by decide +kernel)) ggX11_gate_X11_gateOf
set_option maxRecDepth 20000 in
theorem ggX11_gate_X5_add : GoodIn wsX11_gate wsX5_add := goodIn_r _ [49, 50, 51, 60, 61, 62] (by decide +kernel) (by decide +kernel)
set_option maxRecDepth 20000 in
theorem gX11_gate_X5_add : GoodIn wsX11_gate (wsV RX11 184 RX5 yX5_add wsX5_add) := goodIn_app (goodIn_of _ (by decide +kernel)) ggX11_gate_X5_add
theorem dX11_gate_0 : decode cX11_gate 0 = .ok (.iload_n 1, 1) := by decide +kernel
theorem dX11_gate_1 : decode cX11_gate 1 = .ok (.iconst 1, 1) := by decide +kernel
theorem dX11_gate_2 : decode cX11_gate 2 = .ok (.sipush 500, 3) := by decide +kernel
theorem dX11_gate_5 : decode cX11_gate 5 = .ok (.invokestatic 66, 3) := by decide +kernel
theorem dX11_gate_8 : decode cX11_gate 8 = .ok (.ifCond .eq 14, 3) := by decide +kernel
theorem dX11_gate_11 : decode cX11_gate 11 = .ok (.iload_n 2, 1) := by decide +kernel
theorem dX11_gate_12 : decode cX11_gate 12 = .ok (.iconst 0, 1) := by decide +kernel
theorem dX11_gate_13 : decode cX11_gate 13 = .ok (.sipush 2000, 3) := by decide +kernel
theorem dX11_gate_16 : decode cX11_gate 16 = .ok (.invokestatic 66, 3) := by decide +kernel
theorem dX11_gate_19 : decode cX11_gate 19 = .ok (.ifCond .ne 6, 3) := by decide +kernel
theorem dX11_gate_22 : decode cX11_gate 22 = .ok (.ldc 70, 2) := by decide +kernel
theorem dX11_gate_24 : decode cX11_gate 24 = .ok (.ireturn, 1) := by decide +kernel
theorem dX11_gate_25 : decode cX11_gate 25 = .ok (.aload_n 0, 1) := by decide +kernel
theorem dX11_gate_26 : decode cX11_gate 26 = .ok (.getfield 44, 3) := by decide +kernel
theorem dX11_gate_29 : decode cX11_gate 29 = .ok (.getfield 179, 3) := by decide +kernel
theorem dX11_gate_32 : decode cX11_gate 32 = .ok (.bipush 6, 2) := by decide +kernel
theorem dX11_gate_34 : decode cX11_gate 34 = .ok (.if_icmp .lt 8, 3) := by decide +kernel
theorem dX11_gate_37 : decode cX11_gate 37 = .ok (.ldc 107, 2) := by decide +kernel
theorem dX11_gate_39 : decode cX11_gate 39 = .ok (.goto 15, 3) := by decide +kernel
theorem dX11_gate_42 : decode cX11_gate 42 = .ok (.aload_n 0, 1) := by decide +kernel
theorem dX11_gate_43 : decode cX11_gate 43 = .ok (.getfield 44, 3) := by decide +kernel
theorem dX11_gate_46 : decode cX11_gate 46 = .ok (.iload_n 1, 1) := by decide +kernel
theorem dX11_gate_47 : decode cX11_gate 47 = .ok (.iload_n 2, 1) := by decide +kernel
theorem dX11_gate_48 : decode cX11_gate 48 = .ok (.invokestatic 180, 3) := by decide +kernel
theorem dX11_gate_51 : decode cX11_gate 51 = .ok (.invokevirtual 184, 3) := by decide +kernel
theorem dX11_gate_54 : decode cX11_gate 54 = .ok (.ireturn, 1) := by decide +kernel
set_option maxRecDepth 20000 in
theorem ggX11_gateOf_X10_init : GoodIn wsX11_gateOf wsX10_init := goodIn_r _ [15, 16, 17, 6, 18, 19, 20, 12, 21, 22, 23, 24, 25, 26, 27, 43, 44, 45, 37, 38, 39, 40, 41, 42, 34, 35, 36] (by decide +kernel) (by decide +kernel)
set_option maxRecDepth 20000 in
theorem gX11_gateOf_X10_init : GoodIn wsX11_gateOf (wsX10_init) := ggX11_gateOf_X10_init
set_option maxRecDepth 20000 in
theorem ggX11_gateOf_X3_init : GoodIn wsX11_gateOf wsX3_init := goodIn_r _ [18, 19, 20, 12, 21, 22, 23, 24, 25, 26, 27, 43, 44, 45, 37, 38, 39, 40, 41, 42, 34, 35, 36] (by decide +kernel) (by decide +kernel)
set_option maxRecDepth 20000 in
theorem gX11_gateOf_X3_init : GoodIn wsX11_gateOf (wsX3_init) := ggX11_gateOf_X3_init
set_option maxRecDepth 20000 in
theorem ggX11_gateOf_X8_init : GoodIn wsX11_gateOf wsX8_init := goodIn_r _ [31, 32, 20, 12, 21, 22, 23, 24, 25, 26, 27, 43, 44, 45, 37, 38, 39, 40, 41, 42, 34, 35, 36] (by decide +kernel) (by decide +kernel)
set_option maxRecDepth 20000 in
theorem gX11_gateOf_X8_init : GoodIn wsX11_gateOf (wsX8_init) := ggX11_gateOf_X8_init
set_option maxRecDepth 20000 in
theorem ggX11_gateOf_X2_init : GoodIn wsX11_gateOf wsX2_init := goodIn_r _ [21, 22, 23, 24, 25, 26, 27, 43, 44, 45, 37, 38, 39, 40, 41, 42, 34, 35, 36] (by decide +kernel) (by decide +kernel)
set_option maxRecDepth 20000 in
theorem gX11_gateOf_X2_init : GoodIn wsX11_gateOf (wsX2_init) := ggX11_gateOf_X2_init
theorem dX11_gateOf_0 : decode cX11_gateOf 0 = .ok (.iload_n 1, 1) := by decide +kernel
theorem dX11_gateOf_1 : decode cX11_gateOf 1 = .ok (.ifCond .le 30, 3) := by decide +kernel
theorem dX11_gateOf_4 : decode cX11_gateOf 4 = .ok (.iload_n 1, 1) := by decide +kernel
theorem dX11_gateOf_5 : decode cX11_gateOf 5 = .ok (.iload_n 0, 1) := by decide +kernel
theorem dX11_gateOf_6 : decode cX11_gateOf 6 = .ok (.if_icmp .gt 15, 3) := by decide +kernel
theorem dX11_gateOf_9 : decode cX11_gateOf 9 = .ok (.new 187, 3) := by decide +kernel
theorem dX11_gateOf_12 : decode cX11_gateOf 12 = .ok (.dup, 1) := by decide +kernel
theorem dX11_gateOf_13 : decode cX11_gateOf 13 = .ok (.iload_n 0, 1) := by decide +kernel
theorem dX11_gateOf_14 : decode cX11_gateOf 14 = .ok (.iload_n 1, 1) := by decide +kernel
theorem dX11_gateOf_15 : decode cX11_gateOf 15 = .ok (.invokespecial 189, 3) := by decide +kernel
theorem dX11_gateOf_18 : decode cX11_gateOf 18 = .ok (.goto 12, 3) := by decide +kernel
theorem dX11_gateOf_21 : decode cX11_gateOf 21 = .ok (.new 192, 3) := by decide +kernel
theorem dX11_gateOf_24 : decode cX11_gateOf 24 = .ok (.dup, 1) := by decide +kernel
theorem dX11_gateOf_25 : decode cX11_gateOf 25 = .ok (.iload_n 0, 1) := by decide +kernel
theorem dX11_gateOf_26 : decode cX11_gateOf 26 = .ok (.iload_n 1, 1) := by decide +kernel
theorem dX11_gateOf_27 : decode cX11_gateOf 27 = .ok (.invokespecial 194, 3) := by decide +kernel
theorem dX11_gateOf_30 : decode cX11_gateOf 30 = .ok (.areturn, 1) := by decide +kernel
theorem dX11_gateOf_31 : decode cX11_gateOf 31 = .ok (.iload_n 0, 1) := by decide +kernel
theorem dX11_gateOf_32 : decode cX11_gateOf 32 = .ok (.sipush 200, 3) := by decide +kernel
theorem dX11_gateOf_35 : decode cX11_gateOf 35 = .ok (.if_icmp .lt 14, 3) := by decide +kernel
theorem dX11_gateOf_38 : decode cX11_gateOf 38 = .ok (.new 195, 3) := by decide +kernel
theorem dX11_gateOf_41 : decode cX11_gateOf 41 = .ok (.dup, 1) := by decide +kernel
theorem dX11_gateOf_42 : decode cX11_gateOf 42 = .ok (.iload_n 0, 1) := by decide +kernel
theorem dX11_gateOf_43 : decode cX11_gateOf 43 = .ok (.invokespecial 197, 3) := by decide +kernel
theorem dX11_gateOf_46 : decode cX11_gateOf 46 = .ok (.goto 12, 3) := by decide +kernel
theorem dX11_gateOf_49 : decode cX11_gateOf 49 = .ok (.new 200, 3) := by decide +kernel
theorem dX11_gateOf_52 : decode cX11_gateOf 52 = .ok (.dup, 1) := by decide +kernel
theorem dX11_gateOf_53 : decode cX11_gateOf 53 = .ok (.iload_n 0, 1) := by decide +kernel
theorem dX11_gateOf_54 : decode cX11_gateOf 54 = .ok (.iload_n 1, 1) := by decide +kernel
theorem dX11_gateOf_55 : decode cX11_gateOf 55 = .ok (.invokespecial 202, 3) := by decide +kernel
theorem dX11_gateOf_58 : decode cX11_gateOf 58 = .ok (.areturn, 1) := by decide +kernel
set_option maxRecDepth 20000 in
theorem ggX11_fail_X11_becomes : GoodIn wsX11_fail wsX11_becomes := goodIn_r _ [5, 6, 7, 8, 9, 10, 11, 12, 13, 14, 15, 16, 4, 17, 18, 19, 20, 21, 22, 23, 24, 25, 26, 27, 28, 29, 30, 31, 32, 33, 34, 35, 36, 37, 38, 39, 40] (by decide +kernel) (by decide +kernel)
set_option maxRecDepth 20000 in
theorem gX11_fail_X11_becomes : GoodIn wsX11_fail (wsV RX11 203 RX11 yX11_becomes wsX11_becomes) := goodIn_app (goodIn_of _ (by decide +kernel)) ggX11_fail_X11_becomes
theorem dX11_fail_0 : decode cX11_fail 0 = .ok (.aload_n 0, 1) := by decide +kernel
theorem dX11_fail_1 : decode cX11_fail 1 = .ok (.iload_n 1, 1) := by decide +kernel
theorem dX11_fail_2 : decode cX11_fail 2 = .ok (.iconst 1, 1) := by decide +kernel
theorem dX11_fail_3 : decode cX11_fail 3 = .ok (.invokevirtual 203, 3) := by decide +kernel
theorem dX11_fail_6 : decode cX11_fail 6 = .ok (.ireturn, 1) := by decide +kernel
set_option maxRecDepth 20000 in
theorem ggX11_mend_X11_becomes : GoodIn wsX11_mend wsX11_becomes := goodIn_r _ [5, 6, 7, 8, 9, 10, 11, 12, 13, 14, 15, 16, 4, 17, 18, 19, 20, 21, 22, 23, 24, 25, 26, 27, 28, 29, 30, 31, 32, 33, 34, 35, 36, 37, 38, 39, 40] (by decide +kernel) (by decide +kernel)
set_option maxRecDepth 20000 in
theorem gX11_mend_X11_becomes : GoodIn wsX11_mend (wsV RX11 203 RX11 yX11_becomes wsX11_becomes) := goodIn_app (goodIn_of _ (by decide +kernel)) ggX11_mend_X11_becomes
theorem dX11_mend_0 : decode cX11_mend 0 = .ok (.aload_n 0, 1) := by decide +kernel
theorem dX11_mend_1 : decode cX11_mend 1 = .ok (.iload_n 1, 1) := by decide +kernel
theorem dX11_mend_2 : decode cX11_mend 2 = .ok (.iconst 0, 1) := by decide +kernel
theorem dX11_mend_3 : decode cX11_mend 3 = .ok (.invokevirtual 203, 3) := by decide +kernel
theorem dX11_mend_6 : decode cX11_mend 6 = .ok (.ireturn, 1) := by decide +kernel
set_option maxRecDepth 20000 in
theorem ggX11_becomes_X5_at : GoodIn wsX11_becomes wsX5_at := goodIn_r _ [8, 9, 10, 11, 12, 13, 34, 35, 36] (by decide +kernel) (by decide +kernel)
set_option maxRecDepth 20000 in
theorem gX11_becomes_X5_at : GoodIn wsX11_becomes (wsV RX11 206 RX5 yX5_at wsX5_at) := goodIn_app (goodIn_of _ (by decide +kernel)) ggX11_becomes_X5_at
theorem dX11_becomes_0 : decode cX11_becomes 0 = .ok (.aload_n 0, 1) := by decide +kernel
theorem dX11_becomes_1 : decode cX11_becomes 1 = .ok (.getfield 44, 3) := by decide +kernel
theorem dX11_becomes_4 : decode cX11_becomes 4 = .ok (.iload_n 1, 1) := by decide +kernel
theorem dX11_becomes_5 : decode cX11_becomes 5 = .ok (.invokevirtual 206, 3) := by decide +kernel
theorem dX11_becomes_8 : decode cX11_becomes 8 = .ok (.astore_n 3, 1) := by decide +kernel
theorem dX11_becomes_9 : decode cX11_becomes 9 = .ok (.aload_n 3, 1) := by decide +kernel
theorem dX11_becomes_10 : decode cX11_becomes 10 = .ok (.ifnonnull 6, 3) := by decide +kernel
theorem dX11_becomes_13 : decode cX11_becomes 13 = .ok (.ldc 70, 2) := by decide +kernel
theorem dX11_becomes_15 : decode cX11_becomes 15 = .ok (.ireturn, 1) := by decide +kernel
theorem dX11_becomes_16 : decode cX11_becomes 16 = .ok (.aload_n 3, 1) := by decide +kernel
theorem dX11_becomes_17 : decode cX11_becomes 17 = .ok (.getfield 210, 3) := by decide +kernel
theorem dX11_becomes_20 : decode cX11_becomes 20 = .ok (.iload_n 2, 1) := by decide +kernel
theorem dX11_becomes_21 : decode cX11_becomes 21 = .ok (.if_icmp .ne 7, 3) := by decide +kernel
theorem dX11_becomes_24 : decode cX11_becomes 24 = .ok (.iconst 0, 1) := by decide +kernel
theorem dX11_becomes_25 : decode cX11_becomes 25 = .ok (.goto 4, 3) := by decide +kernel
theorem dX11_becomes_28 : decode cX11_becomes 28 = .ok (.iconst 1, 1) := by decide +kernel
theorem dX11_becomes_29 : decode cX11_becomes 29 = .ok (.istore 4, 2) := by decide +kernel
theorem dX11_becomes_31 : decode cX11_becomes 31 = .ok (.aload_n 3, 1) := by decide +kernel
theorem dX11_becomes_32 : decode cX11_becomes 32 = .ok (.iload_n 2, 1) := by decide +kernel
theorem dX11_becomes_33 : decode cX11_becomes 33 = .ok (.putfield 210, 3) := by decide +kernel
theorem dX11_becomes_36 : decode cX11_becomes 36 = .ok (.iload 4, 2) := by decide +kernel
theorem dX11_becomes_38 : decode cX11_becomes 38 = .ok (.ireturn, 1) := by decide +kernel
set_option maxRecDepth 20000 in
theorem ggX11_time_X11_within : GoodIn wsX11_time wsX11_within := goodIn_r _ [7] (by decide +kernel) (by decide +kernel)
set_option maxRecDepth 20000 in
theorem gX11_time_X11_within : GoodIn wsX11_time (va_wsS RX11 66 yX11_within wsX11_within) := goodIn_app (goodIn_of _ (by decide +kernel)) ggX11_time_X11_within
set_option maxRecDepth 20000 in
theorem ggX11_time_X5_timeToShut : GoodIn wsX11_time wsX5_timeToShut := goodIn_r _ [12, 13, 14, 15, 16, 17, 18, 19, 20, 21, 22, 23, 24, 25, 26, 27, 28, 29, 11, 30, 49, 50, 51, 52, 53, 54, 55, 56, 57, 58, 59, 60, 61, 62, 63] (by decide +kernel) (by decide +kernel)
set_option maxRecDepth 20000 in
theorem gX11_time_X5_timeToShut : GoodIn wsX11_time (wsV RX11 213 RX5 yX5_timeToShut wsX5_timeToShut) := goodIn_app (goodIn_of _ (by decide +kernel)) ggX11_time_X5_timeToShut
set_option maxRecDepth 20000 in
theorem ggX11_time_X5_worstTime : GoodIn wsX11_time wsX5_worstTime := goodIn_r _ [34, 35, 18, 14, 16, 19, 20, 21, 22, 36, 37, 38, 11, 39, 40, 9, 10, 12, 13, 15, 17, 23, 24, 25, 26, 27, 28, 29, 30, 49, 50, 51, 52, 53, 54, 55, 56, 57, 58, 59, 60, 61, 62, 63] (by decide +kernel) (by decide +kernel)
set_option maxRecDepth 20000 in
theorem gX11_time_X5_worstTime : GoodIn wsX11_time (wsV RX11 216 RX5 yX5_worstTime wsX5_worstTime) := goodIn_app (goodIn_of _ (by decide +kernel)) ggX11_time_X5_worstTime
theorem dX11_time_0 : decode cX11_time 0 = .ok (.iload_n 1, 1) := by decide +kernel
theorem dX11_time_1 : decode cX11_time 1 = .ok (.iconst 1, 1) := by decide +kernel
theorem dX11_time_2 : decode cX11_time 2 = .ok (.iconst 3, 1) := by decide +kernel
theorem dX11_time_3 : decode cX11_time 3 = .ok (.invokestatic 66, 3) := by decide +kernel
theorem dX11_time_6 : decode cX11_time 6 = .ok (.ifCond .eq 12, 3) := by decide +kernel
theorem dX11_time_9 : decode cX11_time 9 = .ok (.iload_n 2, 1) := by decide +kernel
theorem dX11_time_10 : decode cX11_time 10 = .ok (.iconst 0, 1) := by decide +kernel
theorem dX11_time_11 : decode cX11_time 11 = .ok (.iconst 1, 1) := by decide +kernel
theorem dX11_time_12 : decode cX11_time 12 = .ok (.invokestatic 66, 3) := by decide +kernel
theorem dX11_time_15 : decode cX11_time 15 = .ok (.ifCond .ne 6, 3) := by decide +kernel
theorem dX11_time_18 : decode cX11_time 18 = .ok (.ldc 70, 2) := by decide +kernel
theorem dX11_time_20 : decode cX11_time 20 = .ok (.ireturn, 1) := by decide +kernel
theorem dX11_time_21 : decode cX11_time 21 = .ok (.iload_n 2, 1) := by decide +kernel
theorem dX11_time_22 : decode cX11_time 22 = .ok (.ifCond .ne 16, 3) := by decide +kernel
theorem dX11_time_25 : decode cX11_time 25 = .ok (.aload_n 0, 1) := by decide +kernel
theorem dX11_time_26 : decode cX11_time 26 = .ok (.getfield 44, 3) := by decide +kernel
theorem dX11_time_29 : decode cX11_time 29 = .ok (.iload_n 1, 1) := by decide +kernel
theorem dX11_time_30 : decode cX11_time 30 = .ok (.ldc 175, 2) := by decide +kernel
theorem dX11_time_32 : decode cX11_time 32 = .ok (.invokevirtual 213, 3) := by decide +kernel
theorem dX11_time_35 : decode cX11_time 35 = .ok (.goto 11, 3) := by decide +kernel
theorem dX11_time_38 : decode cX11_time 38 = .ok (.aload_n 0, 1) := by decide +kernel
theorem dX11_time_39 : decode cX11_time 39 = .ok (.getfield 44, 3) := by decide +kernel
theorem dX11_time_42 : decode cX11_time 42 = .ok (.iload_n 1, 1) := by decide +kernel
theorem dX11_time_43 : decode cX11_time 43 = .ok (.invokevirtual 216, 3) := by decide +kernel
theorem dX11_time_46 : decode cX11_time 46 = .ok (.ireturn, 1) := by decide +kernel
set_option maxRecDepth 20000 in
theorem ggX11_ship_X11_within : GoodIn wsX11_ship wsX11_within := goodIn_r _ [9] (by decide +kernel) (by decide +kernel)
set_option maxRecDepth 20000 in
theorem gX11_ship_X11_within : GoodIn wsX11_ship (va_wsS RX11 66 yX11_within wsX11_within) := goodIn_app (goodIn_of _ (by decide +kernel)) ggX11_ship_X11_within
set_option maxRecDepth 20000 in
theorem ggX11_ship_X1_add : GoodIn wsX11_ship wsX1_add := goodIn_r _ [14, 15, 16, 17, 18, 27, 28, 29, 30] (by decide +kernel) (by decide +kernel)
set_option maxRecDepth 20000 in
theorem gX11_ship_X1_add : GoodIn wsX11_ship (wsV RX11 221 RX1 yX1_add wsX1_add) := goodIn_app (goodIn_of _ (by decide +kernel)) ggX11_ship_X1_add
theorem dX11_ship_0 : decode cX11_ship 0 = .ok (.iload_n 1, 1) := by decide +kernel
theorem dX11_ship_1 : decode cX11_ship 1 = .ok (.iconst 0, 1) := by decide +kernel
theorem dX11_ship_2 : decode cX11_ship 2 = .ok (.ldc 219, 2) := by decide +kernel
theorem dX11_ship_4 : decode cX11_ship 4 = .ok (.invokestatic 66, 3) := by decide +kernel
theorem dX11_ship_7 : decode cX11_ship 7 = .ok (.ifCond .eq 14, 3) := by decide +kernel
theorem dX11_ship_10 : decode cX11_ship 10 = .ok (.iload_n 2, 1) := by decide +kernel
theorem dX11_ship_11 : decode cX11_ship 11 = .ok (.iconst 1, 1) := by decide +kernel
theorem dX11_ship_12 : decode cX11_ship 12 = .ok (.sipush 500, 3) := by decide +kernel
theorem dX11_ship_15 : decode cX11_ship 15 = .ok (.invokestatic 66, 3) := by decide +kernel
theorem dX11_ship_18 : decode cX11_ship 18 = .ok (.ifCond .ne 6, 3) := by decide +kernel
theorem dX11_ship_21 : decode cX11_ship 21 = .ok (.ldc 70, 2) := by decide +kernel
theorem dX11_ship_23 : decode cX11_ship 23 = .ok (.ireturn, 1) := by decide +kernel
theorem dX11_ship_24 : decode cX11_ship 24 = .ok (.aload_n 0, 1) := by decide +kernel
theorem dX11_ship_25 : decode cX11_ship 25 = .ok (.getfield 51, 3) := by decide +kernel
theorem dX11_ship_28 : decode cX11_ship 28 = .ok (.getfield 220, 3) := by decide +kernel
theorem dX11_ship_31 : decode cX11_ship 31 = .ok (.bipush 20, 2) := by decide +kernel
theorem dX11_ship_33 : decode cX11_ship 33 = .ok (.if_icmp .lt 8, 3) := by decide +kernel
theorem dX11_ship_36 : decode cX11_ship 36 = .ok (.ldc 107, 2) := by decide +kernel
theorem dX11_ship_38 : decode cX11_ship 38 = .ok (.goto 12, 3) := by decide +kernel
theorem dX11_ship_41 : decode cX11_ship 41 = .ok (.aload_n 0, 1) := by decide +kernel
theorem dX11_ship_42 : decode cX11_ship 42 = .ok (.getfield 51, 3) := by decide +kernel
theorem dX11_ship_45 : decode cX11_ship 45 = .ok (.iload_n 1, 1) := by decide +kernel
theorem dX11_ship_46 : decode cX11_ship 46 = .ok (.iload_n 2, 1) := by decide +kernel
theorem dX11_ship_47 : decode cX11_ship 47 = .ok (.invokevirtual 221, 3) := by decide +kernel
theorem dX11_ship_50 : decode cX11_ship 50 = .ok (.ireturn, 1) := by decide +kernel
set_option maxRecDepth 20000 in
theorem ggX11_waits_X11_within : GoodIn wsX11_waits wsX11_within := goodIn_r _ [8] (by decide +kernel) (by decide +kernel)
set_option maxRecDepth 20000 in
theorem gX11_waits_X11_within : GoodIn wsX11_waits (va_wsS RX11 66 yX11_within wsX11_within) := goodIn_app (goodIn_of _ (by decide +kernel)) ggX11_waits_X11_within
set_option maxRecDepth 20000 in
theorem ggX11_waits_X1_waitOf : GoodIn wsX11_waits wsX1_waitOf := goodIn_r _ [13, 14, 15, 16, 17, 18, 19, 20, 21, 30, 31, 32, 33] (by decide +kernel) (by decide +kernel)
set_option maxRecDepth 20000 in
theorem gX11_waits_X1_waitOf : GoodIn wsX11_waits (wsV RX11 223 RX1 yX1_waitOf wsX1_waitOf) := goodIn_app (goodIn_of _ (by decide +kernel)) ggX11_waits_X1_waitOf
theorem dX11_waits_0 : decode cX11_waits 0 = .ok (.iload_n 1, 1) := by decide +kernel
theorem dX11_waits_1 : decode cX11_waits 1 = .ok (.iconst 0, 1) := by decide +kernel
theorem dX11_waits_2 : decode cX11_waits 2 = .ok (.aload_n 0, 1) := by decide +kernel
theorem dX11_waits_3 : decode cX11_waits 3 = .ok (.getfield 51, 3) := by decide +kernel
theorem dX11_waits_6 : decode cX11_waits 6 = .ok (.getfield 220, 3) := by decide +kernel
theorem dX11_waits_9 : decode cX11_waits 9 = .ok (.iconst 1, 1) := by decide +kernel
theorem dX11_waits_10 : decode cX11_waits 10 = .ok (.isub, 1) := by decide +kernel
theorem dX11_waits_11 : decode cX11_waits 11 = .ok (.invokestatic 66, 3) := by decide +kernel
theorem dX11_waits_14 : decode cX11_waits 14 = .ok (.ifCond .eq 23, 3) := by decide +kernel
theorem dX11_waits_17 : decode cX11_waits 17 = .ok (.iload_n 2, 1) := by decide +kernel
theorem dX11_waits_18 : decode cX11_waits 18 = .ok (.iconst 0, 1) := by decide +kernel
theorem dX11_waits_19 : decode cX11_waits 19 = .ok (.ldc 219, 2) := by decide +kernel
theorem dX11_waits_21 : decode cX11_waits 21 = .ok (.invokestatic 66, 3) := by decide +kernel
theorem dX11_waits_24 : decode cX11_waits 24 = .ok (.ifCond .eq 13, 3) := by decide +kernel
theorem dX11_waits_27 : decode cX11_waits 27 = .ok (.iload_n 3, 1) := by decide +kernel
theorem dX11_waits_28 : decode cX11_waits 28 = .ok (.iload_n 2, 1) := by decide +kernel
theorem dX11_waits_29 : decode cX11_waits 29 = .ok (.ldc 219, 2) := by decide +kernel
theorem dX11_waits_31 : decode cX11_waits 31 = .ok (.invokestatic 66, 3) := by decide +kernel
theorem dX11_waits_34 : decode cX11_waits 34 = .ok (.ifCond .ne 6, 3) := by decide +kernel
theorem dX11_waits_37 : decode cX11_waits 37 = .ok (.ldc 70, 2) := by decide +kernel
theorem dX11_waits_39 : decode cX11_waits 39 = .ok (.ireturn, 1) := by decide +kernel
theorem dX11_waits_40 : decode cX11_waits 40 = .ok (.aload_n 0, 1) := by decide +kernel
theorem dX11_waits_41 : decode cX11_waits 41 = .ok (.getfield 51, 3) := by decide +kernel
theorem dX11_waits_44 : decode cX11_waits 44 = .ok (.iload_n 1, 1) := by decide +kernel
theorem dX11_waits_45 : decode cX11_waits 45 = .ok (.iload_n 2, 1) := by decide +kernel
theorem dX11_waits_46 : decode cX11_waits 46 = .ok (.iload_n 3, 1) := by decide +kernel
theorem dX11_waits_47 : decode cX11_waits 47 = .ok (.invokevirtual 223, 3) := by decide +kernel
theorem dX11_waits_50 : decode cX11_waits 50 = .ok (.ireturn, 1) := by decide +kernel
set_option maxRecDepth 20000 in
theorem ggX11_closings_X11_arePeaks : GoodIn wsX11_closings wsX11_arePeaks := goodIn_r _ [6, 7, 8, 5, 9] (by decide +kernel) (by decide +kernel)
set_option maxRecDepth 20000 in
theorem gX11_closings_X11_arePeaks : GoodIn wsX11_closings (va_wsS RX11 226 yX11_arePeaks wsX11_arePeaks) := goodIn_app (goodIn_of _ (by decide +kernel)) ggX11_closings_X11_arePeaks
set_option maxRecDepth 20000 in
theorem ggX11_closings_X11_within : GoodIn wsX11_closings wsX11_within := goodIn_r _ [9] (by decide +kernel) (by decide +kernel)
set_option maxRecDepth 20000 in
theorem gX11_closings_X11_within : GoodIn wsX11_closings (va_wsS RX11 66 yX11_within wsX11_within) := goodIn_app (goodIn_of _ (by decide +kernel)) ggX11_closings_X11_within
set_option maxRecDepth 20000 in
theorem ggX11_closings_X7_look : GoodIn wsX11_closings wsX7_look := goodIn_r _ [14, 15, 16, 17, 13, 18, 19, 20, 21, 22, 23, 50, 51, 52] (by decide +kernel) (by decide +kernel)
set_option maxRecDepth 20000 in
theorem gX11_closings_X7_look : GoodIn wsX11_closings (wsV RX11 82 RX7 yX7_look wsX7_look) := goodIn_app (goodIn_of _ (by decide +kernel)) ggX11_closings_X7_look
set_option maxRecDepth 20000 in
theorem ggX11_closings_X11_found : GoodIn wsX11_closings wsX11_found := goodIn_r _ [27, 28, 29, 42, 43, 44, 45, 46, 47, 48, 49] (by decide +kernel) (by decide +kernel)
set_option maxRecDepth 20000 in
theorem gX11_closings_X11_found : GoodIn wsX11_closings (wsV RX11 71 RX11 yX11_found wsX11_found) := goodIn_app (goodIn_of _ (by decide +kernel)) ggX11_closings_X11_found
set_option maxRecDepth 20000 in
theorem ggX11_closings_X11_levelIn : GoodIn wsX11_closings wsX11_levelIn := goodIn_r _ [32] (by decide +kernel) (by decide +kernel)
set_option maxRecDepth 20000 in
theorem gX11_closings_X11_levelIn : GoodIn wsX11_closings (va_wsS RX11 229 yX11_levelIn wsX11_levelIn) := goodIn_app (goodIn_of _ (by decide +kernel)) ggX11_closings_X11_levelIn
set_option maxRecDepth 20000 in
theorem ggX11_closings_X7_above : GoodIn wsX11_closings wsX7_above := goodIn_r _ [36, 37, 50, 51, 52] (by decide +kernel) (by decide +kernel)
set_option maxRecDepth 20000 in
theorem gX11_closings_X7_above : GoodIn wsX11_closings (wsV RX11 233 RX7 yX7_above wsX7_above) := goodIn_app (goodIn_of _ (by decide +kernel)) ggX11_closings_X7_above
set_option maxRecDepth 20000 in
theorem ggX11_closings_X11_fine : GoodIn wsX11_closings wsX11_fine := goodIn_r _ [41, 28, 42, 43, 44, 45, 46, 47, 48, 49] (by decide +kernel) (by decide +kernel)
set_option maxRecDepth 20000 in
theorem gX11_closings_X11_fine : GoodIn wsX11_closings (wsV RX11 79 RX11 yX11_fine wsX11_fine) := goodIn_app (goodIn_of _ (by decide +kernel)) ggX11_closings_X11_fine
theorem dX11_closings_0 : decode cX11_closings 0 = .ok (.iload_n 1, 1) := by decide +kernel
theorem dX11_closings_1 : decode cX11_closings 1 = .ok (.iload_n 3, 1) := by decide +kernel
theorem dX11_closings_2 : decode cX11_closings 2 = .ok (.iload 4, 2) := by decide +kernel
theorem dX11_closings_4 : decode cX11_closings 4 = .ok (.invokestatic 226, 3) := by decide +kernel
theorem dX11_closings_7 : decode cX11_closings 7 = .ok (.ifCond .eq 15, 3) := by decide +kernel
theorem dX11_closings_10 : decode cX11_closings 10 = .ok (.iload 6, 2) := by decide +kernel
theorem dX11_closings_12 : decode cX11_closings 12 = .ok (.iconst 0, 1) := by decide +kernel
theorem dX11_closings_13 : decode cX11_closings 13 = .ok (.sipush 300, 3) := by decide +kernel
theorem dX11_closings_16 : decode cX11_closings 16 = .ok (.invokestatic 66, 3) := by decide +kernel
theorem dX11_closings_19 : decode cX11_closings 19 = .ok (.ifCond .ne 6, 3) := by decide +kernel
theorem dX11_closings_22 : decode cX11_closings 22 = .ok (.ldc 70, 2) := by decide +kernel
theorem dX11_closings_24 : decode cX11_closings 24 = .ok (.ireturn, 1) := by decide +kernel
theorem dX11_closings_25 : decode cX11_closings 25 = .ok (.aload_n 0, 1) := by decide +kernel
theorem dX11_closings_26 : decode cX11_closings 26 = .ok (.getfield 12, 3) := by decide +kernel
theorem dX11_closings_29 : decode cX11_closings 29 = .ok (.iload_n 1, 1) := by decide +kernel
theorem dX11_closings_30 : decode cX11_closings 30 = .ok (.iload_n 2, 1) := by decide +kernel
theorem dX11_closings_31 : decode cX11_closings 31 = .ok (.iload_n 3, 1) := by decide +kernel
theorem dX11_closings_32 : decode cX11_closings 32 = .ok (.invokevirtual 82, 3) := by decide +kernel
theorem dX11_closings_35 : decode cX11_closings 35 = .ok (.istore 7, 2) := by decide +kernel
theorem dX11_closings_37 : decode cX11_closings 37 = .ok (.iload 7, 2) := by decide +kernel
theorem dX11_closings_39 : decode cX11_closings 39 = .ok (.ifCond .eq 12, 3) := by decide +kernel
theorem dX11_closings_42 : decode cX11_closings 42 = .ok (.aload_n 0, 1) := by decide +kernel
theorem dX11_closings_43 : decode cX11_closings 43 = .ok (.iload 7, 2) := by decide +kernel
theorem dX11_closings_45 : decode cX11_closings 45 = .ok (.invokevirtual 71, 3) := by decide +kernel
theorem dX11_closings_48 : decode cX11_closings 48 = .ok (.goto 26, 3) := by decide +kernel
theorem dX11_closings_51 : decode cX11_closings 51 = .ok (.aload_n 0, 1) := by decide +kernel
theorem dX11_closings_52 : decode cX11_closings 52 = .ok (.aload_n 0, 1) := by decide +kernel
theorem dX11_closings_53 : decode cX11_closings 53 = .ok (.getfield 12, 3) := by decide +kernel
theorem dX11_closings_56 : decode cX11_closings 56 = .ok (.iload_n 1, 1) := by decide +kernel
theorem dX11_closings_57 : decode cX11_closings 57 = .ok (.iload_n 2, 1) := by decide +kernel
theorem dX11_closings_58 : decode cX11_closings 58 = .ok (.iload_n 3, 1) := by decide +kernel
theorem dX11_closings_59 : decode cX11_closings 59 = .ok (.iload 6, 2) := by decide +kernel
theorem dX11_closings_61 : decode cX11_closings 61 = .ok (.iload 4, 2) := by decide +kernel
theorem dX11_closings_63 : decode cX11_closings 63 = .ok (.iload 5, 2) := by decide +kernel
theorem dX11_closings_65 : decode cX11_closings 65 = .ok (.invokestatic 229, 3) := by decide +kernel
theorem dX11_closings_68 : decode cX11_closings 68 = .ok (.invokevirtual 233, 3) := by decide +kernel
theorem dX11_closings_71 : decode cX11_closings 71 = .ok (.invokevirtual 79, 3) := by decide +kernel
theorem dX11_closings_74 : decode cX11_closings 74 = .ok (.ireturn, 1) := by decide +kernel
set_option maxRecDepth 20000 in
theorem ggX11_tooMany_X11_arePeaks : GoodIn wsX11_tooMany wsX11_arePeaks := goodIn_r _ [7, 8, 9, 6, 10] (by decide +kernel) (by decide +kernel)
set_option maxRecDepth 20000 in
theorem gX11_tooMany_X11_arePeaks : GoodIn wsX11_tooMany (va_wsS RX11 226 yX11_arePeaks wsX11_arePeaks) := goodIn_app (goodIn_of _ (by decide +kernel)) ggX11_tooMany_X11_arePeaks
set_option maxRecDepth 20000 in
theorem ggX11_tooMany_X7_look : GoodIn wsX11_tooMany wsX7_look := goodIn_r _ [15, 16, 17, 18, 14, 19, 20, 21, 22, 23, 24, 51, 52, 53] (by decide +kernel) (by decide +kernel)
set_option maxRecDepth 20000 in
theorem gX11_tooMany_X7_look : GoodIn wsX11_tooMany (wsV RX11 82 RX7 yX7_look wsX7_look) := goodIn_app (goodIn_of _ (by decide +kernel)) ggX11_tooMany_X7_look
set_option maxRecDepth 20000 in
theorem ggX11_tooMany_X11_found : GoodIn wsX11_tooMany wsX11_found := goodIn_r _ [28, 29, 30, 43, 44, 45, 46, 47, 48, 49, 50] (by decide +kernel) (by decide +kernel)
set_option maxRecDepth 20000 in
theorem gX11_tooMany_X11_found : GoodIn wsX11_tooMany (wsV RX11 71 RX11 yX11_found wsX11_found) := goodIn_app (goodIn_of _ (by decide +kernel)) ggX11_tooMany_X11_found
set_option maxRecDepth 20000 in
theorem ggX11_tooMany_X11_levelIn : GoodIn wsX11_tooMany wsX11_levelIn := goodIn_r _ [33] (by decide +kernel) (by decide +kernel)
set_option maxRecDepth 20000 in
theorem gX11_tooMany_X11_levelIn : GoodIn wsX11_tooMany (va_wsS RX11 229 yX11_levelIn wsX11_levelIn) := goodIn_app (goodIn_of _ (by decide +kernel)) ggX11_tooMany_X11_levelIn
set_option maxRecDepth 20000 in
theorem ggX11_tooMany_X7_above : GoodIn wsX11_tooMany wsX7_above := goodIn_r _ [37, 38, 51, 52, 53] (by decide +kernel) (by decide +kernel)
set_option maxRecDepth 20000 in
theorem gX11_tooMany_X7_above : GoodIn wsX11_tooMany (wsV RX11 233 RX7 yX7_above wsX7_above) := goodIn_app (goodIn_of _ (by decide +kernel)) ggX11_tooMany_X7_above
set_option maxRecDepth 20000 in
theorem ggX11_tooMany_X11_fine : GoodIn wsX11_tooMany wsX11_fine := goodIn_r _ [42, 29, 43, 44, 45, 46, 47, 48, 49, 50] (by decide +kernel) (by decide +kernel)
set_option maxRecDepth 20000 in
theorem gX11_tooMany_X11_fine : GoodIn wsX11_tooMany (wsV RX11 79 RX11 yX11_fine wsX11_fine) := goodIn_app (goodIn_of _ (by decide +kernel)) ggX11_tooMany_X11_fine
theorem dX11_tooMany_0 : decode cX11_tooMany 0 = .ok (.iload_n 1, 1) := by decide +kernel
theorem dX11_tooMany_1 : decode cX11_tooMany 1 = .ok (.iload_n 3, 1) := by decide +kernel
theorem dX11_tooMany_2 : decode cX11_tooMany 2 = .ok (.iload 4, 2) := by decide +kernel
theorem dX11_tooMany_4 : decode cX11_tooMany 4 = .ok (.invokestatic 226, 3) := by decide +kernel
theorem dX11_tooMany_7 : decode cX11_tooMany 7 = .ok (.ifCond .eq 8, 3) := by decide +kernel
theorem dX11_tooMany_10 : decode cX11_tooMany 10 = .ok (.iload 6, 2) := by decide +kernel
theorem dX11_tooMany_12 : decode cX11_tooMany 12 = .ok (.ifCond .ge 6, 3) := by decide +kernel
theorem dX11_tooMany_15 : decode cX11_tooMany 15 = .ok (.ldc 70, 2) := by decide +kernel
theorem dX11_tooMany_17 : decode cX11_tooMany 17 = .ok (.ireturn, 1) := by decide +kernel
theorem dX11_tooMany_18 : decode cX11_tooMany 18 = .ok (.aload_n 0, 1) := by decide +kernel
theorem dX11_tooMany_19 : decode cX11_tooMany 19 = .ok (.getfield 12, 3) := by decide +kernel
theorem dX11_tooMany_22 : decode cX11_tooMany 22 = .ok (.iload_n 1, 1) := by decide +kernel
theorem dX11_tooMany_23 : decode cX11_tooMany 23 = .ok (.iload_n 2, 1) := by decide +kernel
theorem dX11_tooMany_24 : decode cX11_tooMany 24 = .ok (.iload_n 3, 1) := by decide +kernel
theorem dX11_tooMany_25 : decode cX11_tooMany 25 = .ok (.invokevirtual 82, 3) := by decide +kernel
theorem dX11_tooMany_28 : decode cX11_tooMany 28 = .ok (.istore 7, 2) := by decide +kernel
theorem dX11_tooMany_30 : decode cX11_tooMany 30 = .ok (.iload 7, 2) := by decide +kernel
theorem dX11_tooMany_32 : decode cX11_tooMany 32 = .ok (.ifCond .eq 10, 3) := by decide +kernel
theorem dX11_tooMany_35 : decode cX11_tooMany 35 = .ok (.aload_n 0, 1) := by decide +kernel
theorem dX11_tooMany_36 : decode cX11_tooMany 36 = .ok (.iload 7, 2) := by decide +kernel
theorem dX11_tooMany_38 : decode cX11_tooMany 38 = .ok (.invokevirtual 71, 3) := by decide +kernel
theorem dX11_tooMany_41 : decode cX11_tooMany 41 = .ok (.ireturn, 1) := by decide +kernel
theorem dX11_tooMany_42 : decode cX11_tooMany 42 = .ok (.iconst 0, 1) := by decide +kernel
theorem dX11_tooMany_43 : decode cX11_tooMany 43 = .ok (.istore 8, 2) := by decide +kernel
theorem dX11_tooMany_45 : decode cX11_tooMany 45 = .ok (.sipush 301, 3) := by decide +kernel
theorem dX11_tooMany_48 : decode cX11_tooMany 48 = .ok (.istore 9, 2) := by decide +kernel
theorem dX11_tooMany_50 : decode cX11_tooMany 50 = .ok (.iconst 0, 1) := by decide +kernel
theorem dX11_tooMany_51 : decode cX11_tooMany 51 = .ok (.istore 10, 2) := by decide +kernel
theorem dX11_tooMany_53 : decode cX11_tooMany 53 = .ok (.iload 10, 2) := by decide +kernel
theorem dX11_tooMany_55 : decode cX11_tooMany 55 = .ok (.sipush 300, 3) := by decide +kernel
theorem dX11_tooMany_58 : decode cX11_tooMany 58 = .ok (.if_icmp .ge 62, 3) := by decide +kernel
theorem dX11_tooMany_61 : decode cX11_tooMany 61 = .ok (.iload 8, 2) := by decide +kernel
theorem dX11_tooMany_63 : decode cX11_tooMany 63 = .ok (.iload 9, 2) := by decide +kernel
theorem dX11_tooMany_65 : decode cX11_tooMany 65 = .ok (.if_icmp .ge 55, 3) := by decide +kernel
theorem dX11_tooMany_68 : decode cX11_tooMany 68 = .ok (.iload 8, 2) := by decide +kernel
theorem dX11_tooMany_70 : decode cX11_tooMany 70 = .ok (.iload 9, 2) := by decide +kernel
theorem dX11_tooMany_72 : decode cX11_tooMany 72 = .ok (.iadd, 1) := by decide +kernel
theorem dX11_tooMany_73 : decode cX11_tooMany 73 = .ok (.iconst 2, 1) := by decide +kernel
theorem dX11_tooMany_74 : decode cX11_tooMany 74 = .ok (.idiv, 1) := by decide +kernel
theorem dX11_tooMany_75 : decode cX11_tooMany 75 = .ok (.istore 11, 2) := by decide +kernel
theorem dX11_tooMany_77 : decode cX11_tooMany 77 = .ok (.aload_n 0, 1) := by decide +kernel
theorem dX11_tooMany_78 : decode cX11_tooMany 78 = .ok (.getfield 12, 3) := by decide +kernel
theorem dX11_tooMany_81 : decode cX11_tooMany 81 = .ok (.iload_n 1, 1) := by decide +kernel
theorem dX11_tooMany_82 : decode cX11_tooMany 82 = .ok (.iload_n 2, 1) := by decide +kernel
theorem dX11_tooMany_83 : decode cX11_tooMany 83 = .ok (.iload_n 3, 1) := by decide +kernel
theorem dX11_tooMany_84 : decode cX11_tooMany 84 = .ok (.iload 11, 2) := by decide +kernel
theorem dX11_tooMany_86 : decode cX11_tooMany 86 = .ok (.iload 4, 2) := by decide +kernel
theorem dX11_tooMany_88 : decode cX11_tooMany 88 = .ok (.iload 5, 2) := by decide +kernel
theorem dX11_tooMany_90 : decode cX11_tooMany 90 = .ok (.invokestatic 229, 3) := by decide +kernel
theorem dX11_tooMany_93 : decode cX11_tooMany 93 = .ok (.invokevirtual 233, 3) := by decide +kernel
theorem dX11_tooMany_96 : decode cX11_tooMany 96 = .ok (.iload 6, 2) := by decide +kernel
theorem dX11_tooMany_98 : decode cX11_tooMany 98 = .ok (.if_icmp .le 10, 3) := by decide +kernel
theorem dX11_tooMany_101 : decode cX11_tooMany 101 = .ok (.iload 11, 2) := by decide +kernel
theorem dX11_tooMany_103 : decode cX11_tooMany 103 = .ok (.istore 9, 2) := by decide +kernel
theorem dX11_tooMany_105 : decode cX11_tooMany 105 = .ok (.goto 9, 3) := by decide +kernel
theorem dX11_tooMany_108 : decode cX11_tooMany 108 = .ok (.iload 11, 2) := by decide +kernel
theorem dX11_tooMany_110 : decode cX11_tooMany 110 = .ok (.iconst 1, 1) := by decide +kernel
theorem dX11_tooMany_111 : decode cX11_tooMany 111 = .ok (.iadd, 1) := by decide +kernel
theorem dX11_tooMany_112 : decode cX11_tooMany 112 = .ok (.istore 8, 2) := by decide +kernel
theorem dX11_tooMany_114 : decode cX11_tooMany 114 = .ok (.iinc 10 1, 3) := by decide +kernel
theorem dX11_tooMany_117 : decode cX11_tooMany 117 = .ok (.goto (-64), 3) := by decide +kernel
theorem dX11_tooMany_120 : decode cX11_tooMany 120 = .ok (.aload_n 0, 1) := by decide +kernel
theorem dX11_tooMany_121 : decode cX11_tooMany 121 = .ok (.iload 8, 2) := by decide +kernel
theorem dX11_tooMany_123 : decode cX11_tooMany 123 = .ok (.sipush 300, 3) := by decide +kernel
theorem dX11_tooMany_126 : decode cX11_tooMany 126 = .ok (.if_icmp .le 8, 3) := by decide +kernel
theorem dX11_tooMany_129 : decode cX11_tooMany 129 = .ok (.ldc 175, 2) := by decide +kernel
theorem dX11_tooMany_131 : decode cX11_tooMany 131 = .ok (.goto 5, 3) := by decide +kernel
theorem dX11_tooMany_134 : decode cX11_tooMany 134 = .ok (.iload 8, 2) := by decide +kernel
theorem dX11_tooMany_136 : decode cX11_tooMany 136 = .ok (.invokevirtual 79, 3) := by decide +kernel
theorem dX11_tooMany_139 : decode cX11_tooMany 139 = .ok (.ireturn, 1) := by decide +kernel
set_option maxRecDepth 20000 in
theorem ggX11_arePeaks_X11_within : GoodIn wsX11_arePeaks wsX11_within := goodIn_r _ [4] (by decide +kernel) (by decide +kernel)
set_option maxRecDepth 20000 in
theorem gX11_arePeaks_X11_within : GoodIn wsX11_arePeaks (va_wsS RX11 66 yX11_within wsX11_within) := goodIn_app (goodIn_of _ (by decide +kernel)) ggX11_arePeaks_X11_within
theorem dX11_arePeaks_0 : decode cX11_arePeaks 0 = .ok (.iload_n 0, 1) := by decide +kernel
theorem dX11_arePeaks_1 : decode cX11_arePeaks 1 = .ok (.iconst 0, 1) := by decide +kernel
theorem dX11_arePeaks_2 : decode cX11_arePeaks 2 = .ok (.bipush 7, 2) := by decide +kernel
theorem dX11_arePeaks_4 : decode cX11_arePeaks 4 = .ok (.invokestatic 66, 3) := by decide +kernel
theorem dX11_arePeaks_7 : decode cX11_arePeaks 7 = .ok (.ifCond .eq 27, 3) := by decide +kernel
theorem dX11_arePeaks_10 : decode cX11_arePeaks 10 = .ok (.iload_n 1, 1) := by decide +kernel
theorem dX11_arePeaks_11 : decode cX11_arePeaks 11 = .ok (.iconst 1, 1) := by decide +kernel
theorem dX11_arePeaks_12 : decode cX11_arePeaks 12 = .ok (.bipush 60, 2) := by decide +kernel
theorem dX11_arePeaks_14 : decode cX11_arePeaks 14 = .ok (.invokestatic 66, 3) := by decide +kernel
theorem dX11_arePeaks_17 : decode cX11_arePeaks 17 = .ok (.ifCond .eq 17, 3) := by decide +kernel
theorem dX11_arePeaks_20 : decode cX11_arePeaks 20 = .ok (.iload_n 2, 1) := by decide +kernel
theorem dX11_arePeaks_21 : decode cX11_arePeaks 21 = .ok (.iconst 0, 1) := by decide +kernel
theorem dX11_arePeaks_22 : decode cX11_arePeaks 22 = .ok (.bipush 100, 2) := by decide +kernel
theorem dX11_arePeaks_24 : decode cX11_arePeaks 24 = .ok (.invokestatic 66, 3) := by decide +kernel
theorem dX11_arePeaks_27 : decode cX11_arePeaks 27 = .ok (.ifCond .eq 7, 3) := by decide +kernel
theorem dX11_arePeaks_30 : decode cX11_arePeaks 30 = .ok (.iconst 1, 1) := by decide +kernel
theorem dX11_arePeaks_31 : decode cX11_arePeaks 31 = .ok (.goto 4, 3) := by decide +kernel
theorem dX11_arePeaks_34 : decode cX11_arePeaks 34 = .ok (.iconst 0, 1) := by decide +kernel
theorem dX11_arePeaks_35 : decode cX11_arePeaks 35 = .ok (.ireturn, 1) := by decide +kernel
theorem dX11_levelIn_0 : decode cX11_levelIn 0 = .ok (.iload_n 2, 1) := by decide +kernel
theorem dX11_levelIn_1 : decode cX11_levelIn 1 = .ok (.i2l, 1) := by decide +kernel
theorem dX11_levelIn_2 : decode cX11_levelIn 2 = .ok (.iload_n 0, 1) := by decide +kernel
theorem dX11_levelIn_3 : decode cX11_levelIn 3 = .ok (.iload_n 1, 1) := by decide +kernel
theorem dX11_levelIn_4 : decode cX11_levelIn 4 = .ok (.imul, 1) := by decide +kernel
theorem dX11_levelIn_5 : decode cX11_levelIn 5 = .ok (.bipush 10, 2) := by decide +kernel
theorem dX11_levelIn_7 : decode cX11_levelIn 7 = .ok (.idiv, 1) := by decide +kernel
theorem dX11_levelIn_8 : decode cX11_levelIn 8 = .ok (.i2l, 1) := by decide +kernel
theorem dX11_levelIn_9 : decode cX11_levelIn 9 = .ok (.lsub, 1) := by decide +kernel
theorem dX11_levelIn_10 : decode cX11_levelIn 10 = .ok (.lreturn, 1) := by decide +kernel
set_option maxRecDepth 20000 in
theorem ggX11_kind_X5_at : GoodIn wsX11_kind wsX5_at := goodIn_r _ [7, 8, 9, 10, 11, 12, 41, 42, 43] (by decide +kernel) (by decide +kernel)
set_option maxRecDepth 20000 in
theorem gX11_kind_X5_at : GoodIn wsX11_kind (wsV RX11 206 RX5 yX5_at wsX5_at) := goodIn_app (goodIn_of _ (by decide +kernel)) ggX11_kind_X5_at
set_option maxRecDepth 20000 in
theorem ggX11_kind_X2_toldAs : GoodIn wsX11_kind wsX2_toldAs := goodIn_r _ [17] (by decide +kernel) (by decide +kernel)
set_option maxRecDepth 20000 in
theorem gX11_kind_X2_toldAs : GoodIn wsX11_kind (wsV RX11 237 RX2 yX2_toldAs wsX2_toldAs) := goodIn_app (goodIn_of _ (by decide +kernel)) ggX11_kind_X2_toldAs
set_option maxRecDepth 20000 in
theorem ggX11_kind_X3_toldAs : GoodIn wsX11_kind wsX3_toldAs := goodIn_r _ [24] (by decide +kernel) (by decide +kernel)
set_option maxRecDepth 20000 in
theorem gX11_kind_X3_toldAs_u237X3 : GoodIn wsX11_kind (va_wsO RX11 237 RX3 "SeaGates$Gate" ⟨"SeaGates$Gate", "toldAs", "()I"⟩ yX3_toldAs wsX3_toldAs) := goodIn_app (goodIn_of _ (by decide +kernel)) ggX11_kind_X3_toldAs
set_option maxRecDepth 20000 in
theorem ggX11_kind_X8_toldAs : GoodIn wsX11_kind wsX8_toldAs := goodIn_r _ [28] (by decide +kernel) (by decide +kernel)
set_option maxRecDepth 20000 in
theorem gX11_kind_X8_toldAs_u237X8 : GoodIn wsX11_kind (va_wsO RX11 237 RX8 "SeaGates$Gate" ⟨"SeaGates$Gate", "toldAs", "()I"⟩ yX8_toldAs wsX8_toldAs) := goodIn_app (goodIn_of _ (by decide +kernel)) ggX11_kind_X8_toldAs
set_option maxRecDepth 20000 in
theorem ggX11_kind_X10_toldAs : GoodIn wsX11_kind wsX10_toldAs := goodIn_r _ [32] (by decide +kernel) (by decide +kernel)
set_option maxRecDepth 20000 in
theorem gX11_kind_X10_toldAs_u237X10 : GoodIn wsX11_kind (va_wsO RX11 237 RX10 "SeaGates$Gate" ⟨"SeaGates$Gate", "toldAs", "()I"⟩ yX10_toldAs wsX10_toldAs) := goodIn_app (goodIn_of _ (by decide +kernel)) ggX11_kind_X10_toldAs
theorem dX11_kind_0 : decode cX11_kind 0 = .ok (.aload_n 0, 1) := by decide +kernel
theorem dX11_kind_1 : decode cX11_kind 1 = .ok (.getfield 44, 3) := by decide +kernel
theorem dX11_kind_4 : decode cX11_kind 4 = .ok (.iload_n 1, 1) := by decide +kernel
theorem dX11_kind_5 : decode cX11_kind 5 = .ok (.invokevirtual 206, 3) := by decide +kernel
theorem dX11_kind_8 : decode cX11_kind 8 = .ok (.astore_n 2, 1) := by decide +kernel
theorem dX11_kind_9 : decode cX11_kind 9 = .ok (.aload_n 2, 1) := by decide +kernel
theorem dX11_kind_10 : decode cX11_kind 10 = .ok (.ifnonnull 8, 3) := by decide +kernel
theorem dX11_kind_13 : decode cX11_kind 13 = .ok (.ldc 70, 2) := by decide +kernel
theorem dX11_kind_15 : decode cX11_kind 15 = .ok (.goto 7, 3) := by decide +kernel
theorem dX11_kind_18 : decode cX11_kind 18 = .ok (.aload_n 2, 1) := by decide +kernel
theorem dX11_kind_19 : decode cX11_kind 19 = .ok (.invokevirtual 237, 3) := by decide +kernel
theorem dX11_kind_22 : decode cX11_kind 22 = .ok (.ireturn, 1) := by decide +kernel
set_option maxRecDepth 20000 in
theorem ggX11_as_X5_at : GoodIn wsX11_as wsX5_at := goodIn_r _ [8, 9, 10, 11, 12, 13, 51, 52, 53] (by decide +kernel) (by decide +kernel)
set_option maxRecDepth 20000 in
theorem gX11_as_X5_at : GoodIn wsX11_as (wsV RX11 206 RX5 yX5_at wsX5_at) := goodIn_app (goodIn_of _ (by decide +kernel)) ggX11_as_X5_at
set_option maxRecDepth 20000 in
theorem ggX11_as_X11_within : GoodIn wsX11_as wsX11_within := goodIn_r _ [13] (by decide +kernel) (by decide +kernel)
set_option maxRecDepth 20000 in
theorem gX11_as_X11_within : GoodIn wsX11_as (va_wsS RX11 66 yX11_within wsX11_within) := goodIn_app (goodIn_of _ (by decide +kernel)) ggX11_as_X11_within
set_option maxRecDepth 20000 in
theorem ggX11_as_X11_isOf : GoodIn wsX11_as wsX11_isOf := goodIn_r _ [17, 18, 19, 20] (by decide +kernel) (by decide +kernel)
set_option maxRecDepth 20000 in
theorem gX11_as_X11_isOf : GoodIn wsX11_as (va_wsS RX11 241 yX11_isOf wsX11_isOf) := goodIn_app (goodIn_of _ (by decide +kernel)) ggX11_as_X11_isOf
set_option maxRecDepth 20000 in
theorem ggX11_as_X11_fine : GoodIn wsX11_as wsX11_fine := goodIn_r _ [24, 25, 31, 32, 33, 34, 35, 36, 37, 38] (by decide +kernel) (by decide +kernel)
set_option maxRecDepth 20000 in
theorem gX11_as_X11_fine : GoodIn wsX11_as (wsV RX11 79 RX11 yX11_fine wsX11_fine) := goodIn_app (goodIn_of _ (by decide +kernel)) ggX11_as_X11_fine
set_option maxRecDepth 20000 in
theorem ggX11_as_X11_found : GoodIn wsX11_as wsX11_found := goodIn_r _ [29, 25, 30, 31, 32, 33, 34, 35, 36, 37, 38] (by decide +kernel) (by decide +kernel)
set_option maxRecDepth 20000 in
theorem gX11_as_X11_found : GoodIn wsX11_as (wsV RX11 71 RX11 yX11_found wsX11_found) := goodIn_app (goodIn_of _ (by decide +kernel)) ggX11_as_X11_found
theorem dX11_as_0 : decode cX11_as 0 = .ok (.aload_n 0, 1) := by decide +kernel
theorem dX11_as_1 : decode cX11_as 1 = .ok (.getfield 44, 3) := by decide +kernel
theorem dX11_as_4 : decode cX11_as 4 = .ok (.iload_n 1, 1) := by decide +kernel
theorem dX11_as_5 : decode cX11_as 5 = .ok (.invokevirtual 206, 3) := by decide +kernel
theorem dX11_as_8 : decode cX11_as 8 = .ok (.astore_n 3, 1) := by decide +kernel
theorem dX11_as_9 : decode cX11_as 9 = .ok (.aload_n 3, 1) := by decide +kernel
theorem dX11_as_10 : decode cX11_as 10 = .ok (.ifnull 12, 3) := by decide +kernel
theorem dX11_as_13 : decode cX11_as 13 = .ok (.iload_n 2, 1) := by decide +kernel
theorem dX11_as_14 : decode cX11_as 14 = .ok (.iconst 0, 1) := by decide +kernel
theorem dX11_as_15 : decode cX11_as 15 = .ok (.iconst 3, 1) := by decide +kernel
theorem dX11_as_16 : decode cX11_as 16 = .ok (.invokestatic 66, 3) := by decide +kernel
theorem dX11_as_19 : decode cX11_as 19 = .ok (.ifCond .ne 6, 3) := by decide +kernel
theorem dX11_as_22 : decode cX11_as 22 = .ok (.ldc 70, 2) := by decide +kernel
theorem dX11_as_24 : decode cX11_as 24 = .ok (.ireturn, 1) := by decide +kernel
theorem dX11_as_25 : decode cX11_as 25 = .ok (.aload_n 3, 1) := by decide +kernel
theorem dX11_as_26 : decode cX11_as 26 = .ok (.iload_n 2, 1) := by decide +kernel
theorem dX11_as_27 : decode cX11_as 27 = .ok (.invokestatic 241, 3) := by decide +kernel
theorem dX11_as_30 : decode cX11_as 30 = .ok (.ifCond .eq 14, 3) := by decide +kernel
theorem dX11_as_33 : decode cX11_as 33 = .ok (.aload_n 0, 1) := by decide +kernel
theorem dX11_as_34 : decode cX11_as 34 = .ok (.aload_n 3, 1) := by decide +kernel
theorem dX11_as_35 : decode cX11_as 35 = .ok (.getfield 245, 3) := by decide +kernel
theorem dX11_as_38 : decode cX11_as 38 = .ok (.invokevirtual 79, 3) := by decide +kernel
theorem dX11_as_41 : decode cX11_as 41 = .ok (.goto 8, 3) := by decide +kernel
theorem dX11_as_44 : decode cX11_as 44 = .ok (.aload_n 0, 1) := by decide +kernel
theorem dX11_as_45 : decode cX11_as 45 = .ok (.iconst 3, 1) := by decide +kernel
theorem dX11_as_46 : decode cX11_as 46 = .ok (.invokevirtual 71, 3) := by decide +kernel
theorem dX11_as_49 : decode cX11_as 49 = .ok (.ireturn, 1) := by decide +kernel
theorem dX11_isOf_0 : decode cX11_isOf 0 = .ok (.iload_n 1, 1) := by decide +kernel
theorem dX11_isOf_1 : decode cX11_isOf 1 = .ok (.tableswitch 42 1 3 #[27, 32, 37], 27) := by decide +kernel
theorem dX11_isOf_28 : decode cX11_isOf 28 = .ok (.aload_n 0, 1) := by decide +kernel
theorem dX11_isOf_29 : decode cX11_isOf 29 = .ok (.instanceof 192, 3) := by decide +kernel
theorem dX11_isOf_32 : decode cX11_isOf 32 = .ok (.ireturn, 1) := by decide +kernel
theorem dX11_isOf_33 : decode cX11_isOf 33 = .ok (.aload_n 0, 1) := by decide +kernel
theorem dX11_isOf_34 : decode cX11_isOf 34 = .ok (.instanceof 187, 3) := by decide +kernel
theorem dX11_isOf_37 : decode cX11_isOf 37 = .ok (.ireturn, 1) := by decide +kernel
theorem dX11_isOf_38 : decode cX11_isOf 38 = .ok (.aload_n 0, 1) := by decide +kernel
theorem dX11_isOf_39 : decode cX11_isOf 39 = .ok (.instanceof 195, 3) := by decide +kernel
theorem dX11_isOf_42 : decode cX11_isOf 42 = .ok (.ireturn, 1) := by decide +kernel
theorem dX11_isOf_43 : decode cX11_isOf 43 = .ok (.iconst 1, 1) := by decide +kernel
theorem dX11_isOf_44 : decode cX11_isOf 44 = .ok (.ireturn, 1) := by decide +kernel
set_option maxRecDepth 20000 in
theorem ggX11_ask_X5_at : GoodIn wsX11_ask wsX5_at := goodIn_r _ [9, 10, 11, 12, 13, 14, 90, 91, 92] (by decide +kernel) (by decide +kernel)
set_option maxRecDepth 20000 in
theorem gX11_ask_X5_at : GoodIn wsX11_ask (wsV RX11 206 RX5 yX5_at wsX5_at) := goodIn_app (goodIn_of _ (by decide +kernel)) ggX11_ask_X5_at
set_option maxRecDepth 20000 in
theorem ggX11_ask_X11_within : GoodIn wsX11_ask wsX11_within := goodIn_r _ [14] (by decide +kernel) (by decide +kernel)
set_option maxRecDepth 20000 in
theorem gX11_ask_X11_within : GoodIn wsX11_ask (va_wsS RX11 66 yX11_within wsX11_within) := goodIn_app (goodIn_of _ (by decide +kernel)) ggX11_ask_X11_within
set_option maxRecDepth 20000 in
theorem ggX11_ask_X2_cost : GoodIn wsX11_ask wsX2_cost := goodIn_r _ [20, 21, 22, 23, 24, 25, 26, 27, 28, 93, 94, 95, 96, 97, 98, 99, 100, 101, 102, 103, 104, 88, 89] (by decide +kernel) (by decide +kernel)
set_option maxRecDepth 20000 in
theorem gX11_ask_X2_cost : GoodIn wsX11_ask (wsV RX11 251 RX2 yX2_cost wsX2_cost) := goodIn_app (goodIn_of _ (by decide +kernel)) ggX11_ask_X2_cost
set_option maxRecDepth 20000 in
theorem ggX11_ask_X3_cost : GoodIn wsX11_ask wsX3_cost := goodIn_r _ [35, 36, 37, 38, 23, 24, 25, 26, 27, 28, 39, 30, 40, 17, 19, 20, 21, 22, 93, 94, 95, 96, 97, 98, 99, 100, 101, 102, 103, 104, 88, 89] (by decide +kernel) (by decide +kernel)
set_option maxRecDepth 20000 in
theorem gX11_ask_X3_cost_u251X3 : GoodIn wsX11_ask (va_wsO RX11 251 RX3 "SeaGates$Gate" ⟨"SeaGates$Gate", "cost", "(LSeaGates$Trace;)I"⟩ yX3_cost wsX3_cost) := goodIn_app (goodIn_of _ (by decide +kernel)) ggX11_ask_X3_cost
set_option maxRecDepth 20000 in
theorem ggX11_ask_X8_cost : GoodIn wsX11_ask wsX8_cost := goodIn_r _ [44, 45, 23, 24, 25, 26, 27, 28, 46, 30, 47, 17, 19, 20, 21, 22, 88, 89, 93, 94, 95, 96, 97, 98, 99, 100, 101, 102, 103, 104] (by decide +kernel) (by decide +kernel)
set_option maxRecDepth 20000 in
theorem gX11_ask_X8_cost_u251X8 : GoodIn wsX11_ask (va_wsO RX11 251 RX8 "SeaGates$Gate" ⟨"SeaGates$Gate", "cost", "(LSeaGates$Trace;)I"⟩ yX8_cost wsX8_cost) := goodIn_app (goodIn_of _ (by decide +kernel)) ggX11_ask_X8_cost
set_option maxRecDepth 20000 in
theorem ggX11_ask_X10_cost : GoodIn wsX11_ask wsX10_cost := goodIn_r _ [51, 52, 23, 24, 25, 26, 27, 28, 53, 54, 55, 33, 34, 35, 36, 37, 38, 39, 30, 40, 17, 19, 20, 21, 22, 88, 89, 93, 94, 95, 96, 97, 98, 99, 100, 101, 102, 103, 104] (by decide +kernel) (by decide +kernel)
set_option maxRecDepth 20000 in
theorem gX11_ask_X10_cost_u251X10 : GoodIn wsX11_ask (va_wsO RX11 251 RX10 "SeaGates$Gate" ⟨"SeaGates$Gate", "cost", "(LSeaGates$Trace;)I"⟩ yX10_cost wsX10_cost) := goodIn_app (goodIn_of _ (by decide +kernel)) ggX11_ask_X10_cost
set_option maxRecDepth 20000 in
theorem ggX11_ask_X2_mark : GoodIn wsX11_ask wsX2_mark := goodIn_r _ [59, 60, 22, 23, 24, 25, 26, 27, 28, 93, 94, 95, 96, 97, 98, 99, 100, 101, 102, 103, 104, 88, 89] (by decide +kernel) (by decide +kernel)
set_option maxRecDepth 20000 in
theorem gX11_ask_X2_mark : GoodIn wsX11_ask (wsV RX11 255 RX2 yX2_mark wsX2_mark) := goodIn_app (goodIn_of _ (by decide +kernel)) ggX11_ask_X2_mark
set_option maxRecDepth 20000 in
theorem ggX11_ask_X3_mark : GoodIn wsX11_ask wsX3_mark := goodIn_r _ [66, 38, 23, 24, 25, 26, 27, 28, 67, 62, 40, 57, 19, 59, 60, 22, 68, 33, 69, 34, 35, 36, 37, 39, 30, 17, 20, 21, 70, 54, 71, 72, 49, 50, 51, 52, 53, 55, 88, 89, 93, 94, 95, 96, 97, 98, 99, 100, 101, 102, 103, 104] (by decide +kernel) (by decide +kernel)
set_option maxRecDepth 20000 in
theorem gX11_ask_X3_mark_u255X3 : GoodIn wsX11_ask (va_wsO RX11 255 RX3 "SeaGates$Gate" ⟨"SeaGates$Gate", "mark", "(LSeaGates$Trace;)I"⟩ yX3_mark wsX3_mark) := goodIn_app (goodIn_of _ (by decide +kernel)) ggX11_ask_X3_mark
set_option maxRecDepth 20000 in
theorem ggX11_ask_X8_mark : GoodIn wsX11_ask wsX8_mark := goodIn_r _ [75, 45, 23, 24, 25, 26, 27, 28, 76, 62, 47, 57, 19, 59, 60, 22, 77, 42, 78, 43, 44, 46, 30, 17, 20, 21, 88, 89, 93, 94, 95, 96, 97, 98, 99, 100, 101, 102, 103, 104] (by decide +kernel) (by decide +kernel)
set_option maxRecDepth 20000 in
theorem gX11_ask_X8_mark_u255X8 : GoodIn wsX11_ask (va_wsO RX11 255 RX8 "SeaGates$Gate" ⟨"SeaGates$Gate", "mark", "(LSeaGates$Trace;)I"⟩ yX8_mark wsX8_mark) := goodIn_app (goodIn_of _ (by decide +kernel)) ggX11_ask_X8_mark
set_option maxRecDepth 20000 in
theorem gX11_ask_X3_mark_u255X10 : GoodIn wsX11_ask (va_wsO RX11 255 RX10 "SeaGates$Gate" ⟨"SeaGates$Gate", "mark", "(LSeaGates$Trace;)I"⟩ yX3_mark wsX3_mark) := goodIn_app (goodIn_of _ (by decide +kernel)) ggX11_ask_X3_mark
theorem dX11_ask_0 : decode cX11_ask 0 = .ok (.aload_n 0, 1) := by decide +kernel
theorem dX11_ask_1 : decode cX11_ask 1 = .ok (.getfield 44, 3) := by decide +kernel
theorem dX11_ask_4 : decode cX11_ask 4 = .ok (.iload_n 1, 1) := by decide +kernel
theorem dX11_ask_5 : decode cX11_ask 5 = .ok (.invokevirtual 206, 3) := by decide +kernel
theorem dX11_ask_8 : decode cX11_ask 8 = .ok (.astore_n 3, 1) := by decide +kernel
theorem dX11_ask_9 : decode cX11_ask 9 = .ok (.aload_n 3, 1) := by decide +kernel
theorem dX11_ask_10 : decode cX11_ask 10 = .ok (.ifnull 12, 3) := by decide +kernel
theorem dX11_ask_13 : decode cX11_ask 13 = .ok (.iload_n 2, 1) := by decide +kernel
theorem dX11_ask_14 : decode cX11_ask 14 = .ok (.iconst 0, 1) := by decide +kernel
theorem dX11_ask_15 : decode cX11_ask 15 = .ok (.iconst 1, 1) := by decide +kernel
theorem dX11_ask_16 : decode cX11_ask 16 = .ok (.invokestatic 66, 3) := by decide +kernel
theorem dX11_ask_19 : decode cX11_ask 19 = .ok (.ifCond .ne 6, 3) := by decide +kernel
theorem dX11_ask_22 : decode cX11_ask 22 = .ok (.ldc 70, 2) := by decide +kernel
theorem dX11_ask_24 : decode cX11_ask 24 = .ok (.ireturn, 1) := by decide +kernel
theorem dX11_ask_25 : decode cX11_ask 25 = .ok (.aload_n 0, 1) := by decide +kernel
theorem dX11_ask_26 : decode cX11_ask 26 = .ok (.getfield 58, 3) := by decide +kernel
theorem dX11_ask_29 : decode cX11_ask 29 = .ok (.iconst 0, 1) := by decide +kernel
theorem dX11_ask_30 : decode cX11_ask 30 = .ok (.putfield 248, 3) := by decide +kernel
theorem dX11_ask_33 : decode cX11_ask 33 = .ok (.iload_n 2, 1) := by decide +kernel
theorem dX11_ask_34 : decode cX11_ask 34 = .ok (.ifCond .ne 14, 3) := by decide +kernel
theorem dX11_ask_37 : decode cX11_ask 37 = .ok (.aload_n 3, 1) := by decide +kernel
theorem dX11_ask_38 : decode cX11_ask 38 = .ok (.aload_n 0, 1) := by decide +kernel
theorem dX11_ask_39 : decode cX11_ask 39 = .ok (.getfield 58, 3) := by decide +kernel
theorem dX11_ask_42 : decode cX11_ask 42 = .ok (.invokevirtual 251, 3) := by decide +kernel
theorem dX11_ask_45 : decode cX11_ask 45 = .ok (.goto 11, 3) := by decide +kernel
theorem dX11_ask_48 : decode cX11_ask 48 = .ok (.aload_n 3, 1) := by decide +kernel
theorem dX11_ask_49 : decode cX11_ask 49 = .ok (.aload_n 0, 1) := by decide +kernel
theorem dX11_ask_50 : decode cX11_ask 50 = .ok (.getfield 58, 3) := by decide +kernel
theorem dX11_ask_53 : decode cX11_ask 53 = .ok (.invokevirtual 255, 3) := by decide +kernel
theorem dX11_ask_56 : decode cX11_ask 56 = .ok (.ireturn, 1) := by decide +kernel
set_option maxRecDepth 20000 in
theorem ggX11_trace_X11_within : GoodIn wsX11_trace wsX11_within := goodIn_r _ [8] (by decide +kernel) (by decide +kernel)
set_option maxRecDepth 20000 in
theorem gX11_trace_X11_within : GoodIn wsX11_trace (va_wsS RX11 66 yX11_within wsX11_within) := goodIn_app (goodIn_of _ (by decide +kernel)) ggX11_trace_X11_within
theorem dX11_trace_0 : decode cX11_trace 0 = .ok (.iload_n 1, 1) := by decide +kernel
theorem dX11_trace_1 : decode cX11_trace 1 = .ok (.iconst 0, 1) := by decide +kernel
theorem dX11_trace_2 : decode cX11_trace 2 = .ok (.aload_n 0, 1) := by decide +kernel
theorem dX11_trace_3 : decode cX11_trace 3 = .ok (.getfield 58, 3) := by decide +kernel
theorem dX11_trace_6 : decode cX11_trace 6 = .ok (.getfield 248, 3) := by decide +kernel
theorem dX11_trace_9 : decode cX11_trace 9 = .ok (.iconst 1, 1) := by decide +kernel
theorem dX11_trace_10 : decode cX11_trace 10 = .ok (.isub, 1) := by decide +kernel
theorem dX11_trace_11 : decode cX11_trace 11 = .ok (.invokestatic 66, 3) := by decide +kernel
theorem dX11_trace_14 : decode cX11_trace 14 = .ok (.ifCond .eq 15, 3) := by decide +kernel
theorem dX11_trace_17 : decode cX11_trace 17 = .ok (.aload_n 0, 1) := by decide +kernel
theorem dX11_trace_18 : decode cX11_trace 18 = .ok (.getfield 58, 3) := by decide +kernel
theorem dX11_trace_21 : decode cX11_trace 21 = .ok (.getfield 258, 3) := by decide +kernel
theorem dX11_trace_24 : decode cX11_trace 24 = .ok (.iload_n 1, 1) := by decide +kernel
theorem dX11_trace_25 : decode cX11_trace 25 = .ok (.iaload, 1) := by decide +kernel
theorem dX11_trace_26 : decode cX11_trace 26 = .ok (.goto 5, 3) := by decide +kernel
theorem dX11_trace_29 : decode cX11_trace 29 = .ok (.ldc 175, 2) := by decide +kernel
theorem dX11_trace_31 : decode cX11_trace 31 = .ok (.ireturn, 1) := by decide +kernel
set_option maxRecDepth 20000 in
theorem ggX11_count_X7_present : GoodIn wsX11_count wsX7_present := goodIn_r _ [13, 14, 15, 16, 12, 17, 18, 52, 53, 54] (by decide +kernel) (by decide +kernel)
set_option maxRecDepth 20000 in
theorem gX11_count_X7_present : GoodIn wsX11_count (wsV RX11 261 RX7 yX7_present wsX7_present) := goodIn_app (goodIn_of _ (by decide +kernel)) ggX11_count_X7_present
set_option maxRecDepth 20000 in
theorem ggX11_count_X6_allWeights : GoodIn wsX11_count wsX6_allWeights := goodIn_r _ [23, 24, 25, 41, 42, 43, 44] (by decide +kernel) (by decide +kernel)
set_option maxRecDepth 20000 in
theorem gX11_count_X6_allWeights : GoodIn wsX11_count (wsV RX11 264 RX6 yX6_allWeights wsX6_allWeights) := goodIn_app (goodIn_of _ (by decide +kernel)) ggX11_count_X6_allWeights
set_option maxRecDepth 20000 in
theorem ggX11_count_X5_failedOnes : GoodIn wsX11_count wsX5_failedOnes := goodIn_r _ [30, 31, 32, 45, 46, 47, 55, 56, 57, 58, 59, 60, 61, 62, 63, 64, 65, 66] (by decide +kernel) (by decide +kernel)
set_option maxRecDepth 20000 in
theorem gX11_count_X5_failedOnes : GoodIn wsX11_count (wsV RX11 267 RX5 yX5_failedOnes wsX5_failedOnes) := goodIn_app (goodIn_of _ (by decide +kernel)) ggX11_count_X5_failedOnes
theorem dX11_count_0 : decode cX11_count 0 = .ok (.iload_n 1, 1) := by decide +kernel
theorem dX11_count_1 : decode cX11_count 1 = .ok (.tableswitch 87 0 5 #[39, 47, 55, 63, 71, 79], 39) := by decide +kernel
theorem dX11_count_40 : decode cX11_count 40 = .ok (.aload_n 0, 1) := by decide +kernel
theorem dX11_count_41 : decode cX11_count 41 = .ok (.getfield 12, 3) := by decide +kernel
theorem dX11_count_44 : decode cX11_count 44 = .ok (.invokevirtual 261, 3) := by decide +kernel
theorem dX11_count_47 : decode cX11_count 47 = .ok (.ireturn, 1) := by decide +kernel
theorem dX11_count_48 : decode cX11_count 48 = .ok (.aload_n 0, 1) := by decide +kernel
theorem dX11_count_49 : decode cX11_count 49 = .ok (.getfield 19, 3) := by decide +kernel
theorem dX11_count_52 : decode cX11_count 52 = .ok (.getfield 104, 3) := by decide +kernel
theorem dX11_count_55 : decode cX11_count 55 = .ok (.ireturn, 1) := by decide +kernel
theorem dX11_count_56 : decode cX11_count 56 = .ok (.aload_n 0, 1) := by decide +kernel
theorem dX11_count_57 : decode cX11_count 57 = .ok (.getfield 19, 3) := by decide +kernel
theorem dX11_count_60 : decode cX11_count 60 = .ok (.invokevirtual 264, 3) := by decide +kernel
theorem dX11_count_63 : decode cX11_count 63 = .ok (.ireturn, 1) := by decide +kernel
theorem dX11_count_64 : decode cX11_count 64 = .ok (.aload_n 0, 1) := by decide +kernel
theorem dX11_count_65 : decode cX11_count 65 = .ok (.getfield 44, 3) := by decide +kernel
theorem dX11_count_68 : decode cX11_count 68 = .ok (.getfield 179, 3) := by decide +kernel
theorem dX11_count_71 : decode cX11_count 71 = .ok (.ireturn, 1) := by decide +kernel
theorem dX11_count_72 : decode cX11_count 72 = .ok (.aload_n 0, 1) := by decide +kernel
theorem dX11_count_73 : decode cX11_count 73 = .ok (.getfield 44, 3) := by decide +kernel
theorem dX11_count_76 : decode cX11_count 76 = .ok (.invokevirtual 267, 3) := by decide +kernel
theorem dX11_count_79 : decode cX11_count 79 = .ok (.ireturn, 1) := by decide +kernel
theorem dX11_count_80 : decode cX11_count 80 = .ok (.aload_n 0, 1) := by decide +kernel
theorem dX11_count_81 : decode cX11_count 81 = .ok (.getfield 51, 3) := by decide +kernel
theorem dX11_count_84 : decode cX11_count 84 = .ok (.getfield 220, 3) := by decide +kernel
theorem dX11_count_87 : decode cX11_count 87 = .ok (.ireturn, 1) := by decide +kernel
theorem dX11_count_88 : decode cX11_count 88 = .ok (.ldc 70, 2) := by decide +kernel
theorem dX11_count_90 : decode cX11_count 90 = .ok (.ireturn, 1) := by decide +kernel
theorem dX11_status_0 : decode cX11_status 0 = .ok (.aload_n 0, 1) := by decide +kernel
theorem dX11_status_1 : decode cX11_status 1 = .ok (.getfield 62, 3) := by decide +kernel
theorem dX11_status_4 : decode cX11_status 4 = .ok (.ireturn, 1) := by decide +kernel
theorem dX11_found_0 : decode cX11_found 0 = .ok (.aload_n 0, 1) := by decide +kernel
theorem dX11_found_1 : decode cX11_found 1 = .ok (.iload_n 1, 1) := by decide +kernel
theorem dX11_found_2 : decode cX11_found 2 = .ok (.putfield 62, 3) := by decide +kernel
theorem dX11_found_5 : decode cX11_found 5 = .ok (.ldc_w 270, 3) := by decide +kernel
theorem dX11_found_8 : decode cX11_found 8 = .ok (.iload_n 1, 1) := by decide +kernel
theorem dX11_found_9 : decode cX11_found 9 = .ok (.isub, 1) := by decide +kernel
theorem dX11_found_10 : decode cX11_found 10 = .ok (.ireturn, 1) := by decide +kernel
theorem dX11_fine_0 : decode cX11_fine 0 = .ok (.aload_n 0, 1) := by decide +kernel
theorem dX11_fine_1 : decode cX11_fine 1 = .ok (.iconst 0, 1) := by decide +kernel
theorem dX11_fine_2 : decode cX11_fine 2 = .ok (.putfield 62, 3) := by decide +kernel
theorem dX11_fine_5 : decode cX11_fine 5 = .ok (.iload_n 1, 1) := by decide +kernel
theorem dX11_fine_6 : decode cX11_fine 6 = .ok (.ireturn, 1) := by decide +kernel
theorem dX11_within_0 : decode cX11_within 0 = .ok (.iload_n 1, 1) := by decide +kernel
theorem dX11_within_1 : decode cX11_within 1 = .ok (.iload_n 0, 1) := by decide +kernel
theorem dX11_within_2 : decode cX11_within 2 = .ok (.if_icmp .gt 12, 3) := by decide +kernel
theorem dX11_within_5 : decode cX11_within 5 = .ok (.iload_n 0, 1) := by decide +kernel
theorem dX11_within_6 : decode cX11_within 6 = .ok (.iload_n 2, 1) := by decide +kernel
theorem dX11_within_7 : decode cX11_within 7 = .ok (.if_icmp .gt 7, 3) := by decide +kernel
theorem dX11_within_10 : decode cX11_within 10 = .ok (.iconst 1, 1) := by decide +kernel
theorem dX11_within_11 : decode cX11_within 11 = .ok (.goto 4, 3) := by decide +kernel
theorem dX11_within_14 : decode cX11_within 14 = .ok (.iconst 0, 1) := by decide +kernel
theorem dX11_within_15 : decode cX11_within 15 = .ok (.ireturn, 1) := by decide +kernel
theorem dX12_init_0 : decode cX12_init 0 = .ok (.aload_n 0, 1) := by decide +kernel
theorem dX12_init_1 : decode cX12_init 1 = .ok (.invokespecial 1, 3) := by decide +kernel
theorem dX12_init_4 : decode cX12_init 4 = .ok (.aload_n 0, 1) := by decide +kernel
theorem dX12_init_5 : decode cX12_init 5 = .ok (.bipush 8, 2) := by decide +kernel
theorem dX12_init_7 : decode cX12_init 7 = .ok (.newarray .int, 2) := by decide +kernel
theorem dX12_init_9 : decode cX12_init 9 = .ok (.dup, 1) := by decide +kernel
theorem dX12_init_10 : decode cX12_init 10 = .ok (.iconst 0, 1) := by decide +kernel
theorem dX12_init_11 : decode cX12_init 11 = .ok (.iconst 1, 1) := by decide +kernel
theorem dX12_init_12 : decode cX12_init 12 = .ok (.iastore, 1) := by decide +kernel
theorem dX12_init_13 : decode cX12_init 13 = .ok (.dup, 1) := by decide +kernel
theorem dX12_init_14 : decode cX12_init 14 = .ok (.iconst 1, 1) := by decide +kernel
theorem dX12_init_15 : decode cX12_init 15 = .ok (.iconst 1, 1) := by decide +kernel
theorem dX12_init_16 : decode cX12_init 16 = .ok (.iastore, 1) := by decide +kernel
theorem dX12_init_17 : decode cX12_init 17 = .ok (.dup, 1) := by decide +kernel
theorem dX12_init_18 : decode cX12_init 18 = .ok (.iconst 2, 1) := by decide +kernel
theorem dX12_init_19 : decode cX12_init 19 = .ok (.sipush 300, 3) := by decide +kernel
theorem dX12_init_22 : decode cX12_init 22 = .ok (.iastore, 1) := by decide +kernel
theorem dX12_init_23 : decode cX12_init 23 = .ok (.dup, 1) := by decide +kernel
theorem dX12_init_24 : decode cX12_init 24 = .ok (.iconst 3, 1) := by decide +kernel
theorem dX12_init_25 : decode cX12_init 25 = .ok (.sipush 200, 3) := by decide +kernel
theorem dX12_init_28 : decode cX12_init 28 = .ok (.iastore, 1) := by decide +kernel
theorem dX12_init_29 : decode cX12_init 29 = .ok (.dup, 1) := by decide +kernel
theorem dX12_init_30 : decode cX12_init 30 = .ok (.iconst 4, 1) := by decide +kernel
theorem dX12_init_31 : decode cX12_init 31 = .ok (.bipush 50, 2) := by decide +kernel
theorem dX12_init_33 : decode cX12_init 33 = .ok (.iastore, 1) := by decide +kernel
theorem dX12_init_34 : decode cX12_init 34 = .ok (.dup, 1) := by decide +kernel
theorem dX12_init_35 : decode cX12_init 35 = .ok (.iconst 5, 1) := by decide +kernel
theorem dX12_init_36 : decode cX12_init 36 = .ok (.iconst 5, 1) := by decide +kernel
theorem dX12_init_37 : decode cX12_init 37 = .ok (.iastore, 1) := by decide +kernel
theorem dX12_init_38 : decode cX12_init 38 = .ok (.dup, 1) := by decide +kernel
theorem dX12_init_39 : decode cX12_init 39 = .ok (.bipush 6, 2) := by decide +kernel
theorem dX12_init_41 : decode cX12_init 41 = .ok (.bipush 10, 2) := by decide +kernel
theorem dX12_init_43 : decode cX12_init 43 = .ok (.iastore, 1) := by decide +kernel
theorem dX12_init_44 : decode cX12_init 44 = .ok (.dup, 1) := by decide +kernel
theorem dX12_init_45 : decode cX12_init 45 = .ok (.bipush 7, 2) := by decide +kernel
theorem dX12_init_47 : decode cX12_init 47 = .ok (.iconst 3, 1) := by decide +kernel
theorem dX12_init_48 : decode cX12_init 48 = .ok (.iastore, 1) := by decide +kernel
theorem dX12_init_49 : decode cX12_init 49 = .ok (.putfield 7, 3) := by decide +kernel
theorem dX12_init_52 : decode cX12_init 52 = .ok (.aload_n 0, 1) := by decide +kernel
theorem dX12_init_53 : decode cX12_init 53 = .ok (.bipush 8, 2) := by decide +kernel
theorem dX12_init_55 : decode cX12_init 55 = .ok (.newarray .int, 2) := by decide +kernel
theorem dX12_init_57 : decode cX12_init 57 = .ok (.dup, 1) := by decide +kernel
theorem dX12_init_58 : decode cX12_init 58 = .ok (.iconst 0, 1) := by decide +kernel
theorem dX12_init_59 : decode cX12_init 59 = .ok (.bipush 10, 2) := by decide +kernel
theorem dX12_init_61 : decode cX12_init 61 = .ok (.iastore, 1) := by decide +kernel
theorem dX12_init_62 : decode cX12_init 62 = .ok (.dup, 1) := by decide +kernel
theorem dX12_init_63 : decode cX12_init 63 = .ok (.iconst 1, 1) := by decide +kernel
theorem dX12_init_64 : decode cX12_init 64 = .ok (.bipush 10, 2) := by decide +kernel
theorem dX12_init_66 : decode cX12_init 66 = .ok (.iastore, 1) := by decide +kernel
theorem dX12_init_67 : decode cX12_init 67 = .ok (.dup, 1) := by decide +kernel
theorem dX12_init_68 : decode cX12_init 68 = .ok (.iconst 2, 1) := by decide +kernel
theorem dX12_init_69 : decode cX12_init 69 = .ok (.bipush 10, 2) := by decide +kernel
theorem dX12_init_71 : decode cX12_init 71 = .ok (.iastore, 1) := by decide +kernel
theorem dX12_init_72 : decode cX12_init 72 = .ok (.dup, 1) := by decide +kernel
theorem dX12_init_73 : decode cX12_init 73 = .ok (.iconst 3, 1) := by decide +kernel
theorem dX12_init_74 : decode cX12_init 74 = .ok (.bipush 10, 2) := by decide +kernel
theorem dX12_init_76 : decode cX12_init 76 = .ok (.iastore, 1) := by decide +kernel
theorem dX12_init_77 : decode cX12_init 77 = .ok (.dup, 1) := by decide +kernel
theorem dX12_init_78 : decode cX12_init 78 = .ok (.iconst 4, 1) := by decide +kernel
theorem dX12_init_79 : decode cX12_init 79 = .ok (.bipush 10, 2) := by decide +kernel
theorem dX12_init_81 : decode cX12_init 81 = .ok (.iastore, 1) := by decide +kernel
theorem dX12_init_82 : decode cX12_init 82 = .ok (.dup, 1) := by decide +kernel
theorem dX12_init_83 : decode cX12_init 83 = .ok (.iconst 5, 1) := by decide +kernel
theorem dX12_init_84 : decode cX12_init 84 = .ok (.bipush 10, 2) := by decide +kernel
theorem dX12_init_86 : decode cX12_init 86 = .ok (.iastore, 1) := by decide +kernel
theorem dX12_init_87 : decode cX12_init 87 = .ok (.dup, 1) := by decide +kernel
theorem dX12_init_88 : decode cX12_init 88 = .ok (.bipush 6, 2) := by decide +kernel
theorem dX12_init_90 : decode cX12_init 90 = .ok (.bipush 10, 2) := by decide +kernel
theorem dX12_init_92 : decode cX12_init 92 = .ok (.iastore, 1) := by decide +kernel
theorem dX12_init_93 : decode cX12_init 93 = .ok (.dup, 1) := by decide +kernel
theorem dX12_init_94 : decode cX12_init 94 = .ok (.bipush 7, 2) := by decide +kernel
theorem dX12_init_96 : decode cX12_init 96 = .ok (.bipush 10, 2) := by decide +kernel
theorem dX12_init_98 : decode cX12_init 98 = .ok (.iastore, 1) := by decide +kernel
theorem dX12_init_99 : decode cX12_init 99 = .ok (.putfield 13, 3) := by decide +kernel
theorem dX12_init_102 : decode cX12_init 102 = .ok (.aload_n 0, 1) := by decide +kernel
theorem dX12_init_103 : decode cX12_init 103 = .ok (.bipush 8, 2) := by decide +kernel
theorem dX12_init_105 : decode cX12_init 105 = .ok (.newarray .int, 2) := by decide +kernel
theorem dX12_init_107 : decode cX12_init 107 = .ok (.dup, 1) := by decide +kernel
theorem dX12_init_108 : decode cX12_init 108 = .ok (.iconst 0, 1) := by decide +kernel
theorem dX12_init_109 : decode cX12_init 109 = .ok (.iconst (-1), 1) := by decide +kernel
theorem dX12_init_110 : decode cX12_init 110 = .ok (.iastore, 1) := by decide +kernel
theorem dX12_init_111 : decode cX12_init 111 = .ok (.dup, 1) := by decide +kernel
theorem dX12_init_112 : decode cX12_init 112 = .ok (.iconst 1, 1) := by decide +kernel
theorem dX12_init_113 : decode cX12_init 113 = .ok (.iconst (-1), 1) := by decide +kernel
theorem dX12_init_114 : decode cX12_init 114 = .ok (.iastore, 1) := by decide +kernel
theorem dX12_init_115 : decode cX12_init 115 = .ok (.dup, 1) := by decide +kernel
theorem dX12_init_116 : decode cX12_init 116 = .ok (.iconst 2, 1) := by decide +kernel
theorem dX12_init_117 : decode cX12_init 117 = .ok (.iconst (-1), 1) := by decide +kernel
theorem dX12_init_118 : decode cX12_init 118 = .ok (.iastore, 1) := by decide +kernel
theorem dX12_init_119 : decode cX12_init 119 = .ok (.dup, 1) := by decide +kernel
theorem dX12_init_120 : decode cX12_init 120 = .ok (.iconst 3, 1) := by decide +kernel
theorem dX12_init_121 : decode cX12_init 121 = .ok (.iconst (-1), 1) := by decide +kernel
theorem dX12_init_122 : decode cX12_init 122 = .ok (.iastore, 1) := by decide +kernel
theorem dX12_init_123 : decode cX12_init 123 = .ok (.dup, 1) := by decide +kernel
theorem dX12_init_124 : decode cX12_init 124 = .ok (.iconst 4, 1) := by decide +kernel
theorem dX12_init_125 : decode cX12_init 125 = .ok (.iconst (-1), 1) := by decide +kernel
theorem dX12_init_126 : decode cX12_init 126 = .ok (.iastore, 1) := by decide +kernel
theorem dX12_init_127 : decode cX12_init 127 = .ok (.dup, 1) := by decide +kernel
theorem dX12_init_128 : decode cX12_init 128 = .ok (.iconst 5, 1) := by decide +kernel
theorem dX12_init_129 : decode cX12_init 129 = .ok (.iconst (-1), 1) := by decide +kernel
theorem dX12_init_130 : decode cX12_init 130 = .ok (.iastore, 1) := by decide +kernel
theorem dX12_init_131 : decode cX12_init 131 = .ok (.dup, 1) := by decide +kernel
theorem dX12_init_132 : decode cX12_init 132 = .ok (.bipush 6, 2) := by decide +kernel
theorem dX12_init_134 : decode cX12_init 134 = .ok (.iconst (-1), 1) := by decide +kernel
theorem dX12_init_135 : decode cX12_init 135 = .ok (.iastore, 1) := by decide +kernel
theorem dX12_init_136 : decode cX12_init 136 = .ok (.dup, 1) := by decide +kernel
theorem dX12_init_137 : decode cX12_init 137 = .ok (.bipush 7, 2) := by decide +kernel
theorem dX12_init_139 : decode cX12_init 139 = .ok (.iconst (-1), 1) := by decide +kernel
theorem dX12_init_140 : decode cX12_init 140 = .ok (.iastore, 1) := by decide +kernel
theorem dX12_init_141 : decode cX12_init 141 = .ok (.putfield 16, 3) := by decide +kernel
theorem dX12_init_144 : decode cX12_init 144 = .ok (.aload_n 0, 1) := by decide +kernel
theorem dX12_init_145 : decode cX12_init 145 = .ok (.bipush 8, 2) := by decide +kernel
theorem dX12_init_147 : decode cX12_init 147 = .ok (.newarray .int, 2) := by decide +kernel
theorem dX12_init_149 : decode cX12_init 149 = .ok (.putfield 19, 3) := by decide +kernel
theorem dX12_init_152 : decode cX12_init 152 = .ok (.aload_n 0, 1) := by decide +kernel
theorem dX12_init_153 : decode cX12_init 153 = .ok (.sipush 480, 3) := by decide +kernel
theorem dX12_init_156 : decode cX12_init 156 = .ok (.newarray .int, 2) := by decide +kernel
theorem dX12_init_158 : decode cX12_init 158 = .ok (.putfield 22, 3) := by decide +kernel
theorem dX12_init_161 : decode cX12_init 161 = .ok (.aload_n 0, 1) := by decide +kernel
theorem dX12_init_162 : decode cX12_init 162 = .ok (.bipush 8, 2) := by decide +kernel
theorem dX12_init_164 : decode cX12_init 164 = .ok (.newarray .int, 2) := by decide +kernel
theorem dX12_init_166 : decode cX12_init 166 = .ok (.putfield 25, 3) := by decide +kernel
theorem dX12_init_169 : decode cX12_init 169 = .ok (.aload_n 0, 1) := by decide +kernel
theorem dX12_init_170 : decode cX12_init 170 = .ok (.bipush 64, 2) := by decide +kernel
theorem dX12_init_172 : decode cX12_init 172 = .ok (.newarray .int, 2) := by decide +kernel
theorem dX12_init_174 : decode cX12_init 174 = .ok (.putfield 28, 3) := by decide +kernel
theorem dX12_init_177 : decode cX12_init 177 = .ok (.aload_n 0, 1) := by decide +kernel
theorem dX12_init_178 : decode cX12_init 178 = .ok (.sipush 1152, 3) := by decide +kernel
theorem dX12_init_181 : decode cX12_init 181 = .ok (.newarray .long, 2) := by decide +kernel
theorem dX12_init_183 : decode cX12_init 183 = .ok (.putfield 31, 3) := by decide +kernel
theorem dX12_init_186 : decode cX12_init 186 = .ok (.aload_n 0, 1) := by decide +kernel
theorem dX12_init_187 : decode cX12_init 187 = .ok (.sipush 1152, 3) := by decide +kernel
theorem dX12_init_190 : decode cX12_init 190 = .ok (.newarray .boolean, 2) := by decide +kernel
theorem dX12_init_192 : decode cX12_init 192 = .ok (.putfield 35, 3) := by decide +kernel
theorem dX12_init_195 : decode cX12_init 195 = .ok (.aload_n 0, 1) := by decide +kernel
theorem dX12_init_196 : decode cX12_init 196 = .ok (.bipush 6, 2) := by decide +kernel
theorem dX12_init_198 : decode cX12_init 198 = .ok (.newarray .int, 2) := by decide +kernel
theorem dX12_init_200 : decode cX12_init 200 = .ok (.putfield 39, 3) := by decide +kernel
theorem dX12_init_203 : decode cX12_init 203 = .ok (.aload_n 0, 1) := by decide +kernel
theorem dX12_init_204 : decode cX12_init 204 = .ok (.bipush 6, 2) := by decide +kernel
theorem dX12_init_206 : decode cX12_init 206 = .ok (.newarray .int, 2) := by decide +kernel
theorem dX12_init_208 : decode cX12_init 208 = .ok (.putfield 42, 3) := by decide +kernel
theorem dX12_init_211 : decode cX12_init 211 = .ok (.aload_n 0, 1) := by decide +kernel
theorem dX12_init_212 : decode cX12_init 212 = .ok (.bipush 6, 2) := by decide +kernel
theorem dX12_init_214 : decode cX12_init 214 = .ok (.newarray .boolean, 2) := by decide +kernel
theorem dX12_init_216 : decode cX12_init 216 = .ok (.putfield 45, 3) := by decide +kernel
theorem dX12_init_219 : decode cX12_init 219 = .ok (.aload_n 0, 1) := by decide +kernel
theorem dX12_init_220 : decode cX12_init 220 = .ok (.iconst 3, 1) := by decide +kernel
theorem dX12_init_221 : decode cX12_init 221 = .ok (.newarray .int, 2) := by decide +kernel
theorem dX12_init_223 : decode cX12_init 223 = .ok (.putfield 48, 3) := by decide +kernel
theorem dX12_init_226 : decode cX12_init 226 = .ok (.aload_n 0, 1) := by decide +kernel
theorem dX12_init_227 : decode cX12_init 227 = .ok (.bipush 20, 2) := by decide +kernel
theorem dX12_init_229 : decode cX12_init 229 = .ok (.newarray .int, 2) := by decide +kernel
theorem dX12_init_231 : decode cX12_init 231 = .ok (.putfield 51, 3) := by decide +kernel
theorem dX12_init_234 : decode cX12_init 234 = .ok (.aload_n 0, 1) := by decide +kernel
theorem dX12_init_235 : decode cX12_init 235 = .ok (.bipush 20, 2) := by decide +kernel
theorem dX12_init_237 : decode cX12_init 237 = .ok (.newarray .int, 2) := by decide +kernel
theorem dX12_init_239 : decode cX12_init 239 = .ok (.putfield 54, 3) := by decide +kernel
theorem dX12_init_242 : decode cX12_init 242 = .ok (.aload_n 0, 1) := by decide +kernel
theorem dX12_init_243 : decode cX12_init 243 = .ok (.bipush 16, 2) := by decide +kernel
theorem dX12_init_245 : decode cX12_init 245 = .ok (.newarray .int, 2) := by decide +kernel
theorem dX12_init_247 : decode cX12_init 247 = .ok (.putfield 57, 3) := by decide +kernel
theorem dX12_init_250 : decode cX12_init 250 = .ok (.return_, 1) := by decide +kernel
theorem dX12_in_0 : decode cX12_in 0 = .ok (.lload_n 0, 1) := by decide +kernel
theorem dX12_in_1 : decode cX12_in 1 = .ok (.lload_n 2, 1) := by decide +kernel
theorem dX12_in_2 : decode cX12_in 2 = .ok (.lcmp, 1) := by decide +kernel
theorem dX12_in_3 : decode cX12_in 3 = .ok (.ifCond .lt 14, 3) := by decide +kernel
theorem dX12_in_6 : decode cX12_in 6 = .ok (.lload_n 0, 1) := by decide +kernel
theorem dX12_in_7 : decode cX12_in 7 = .ok (.lload 4, 2) := by decide +kernel
theorem dX12_in_9 : decode cX12_in 9 = .ok (.lcmp, 1) := by decide +kernel
theorem dX12_in_10 : decode cX12_in 10 = .ok (.ifCond .gt 7, 3) := by decide +kernel
theorem dX12_in_13 : decode cX12_in 13 = .ok (.iconst 1, 1) := by decide +kernel
theorem dX12_in_14 : decode cX12_in 14 = .ok (.goto 4, 3) := by decide +kernel
theorem dX12_in_17 : decode cX12_in 17 = .ok (.iconst 0, 1) := by decide +kernel
theorem dX12_in_18 : decode cX12_in 18 = .ok (.ireturn, 1) := by decide +kernel
theorem dX12_found_0 : decode cX12_found 0 = .ok (.aload_n 0, 1) := by decide +kernel
theorem dX12_found_1 : decode cX12_found 1 = .ok (.iload_n 1, 1) := by decide +kernel
theorem dX12_found_2 : decode cX12_found 2 = .ok (.putfield 64, 3) := by decide +kernel
theorem dX12_found_5 : decode cX12_found 5 = .ok (.ldc 67, 2) := by decide +kernel
theorem dX12_found_7 : decode cX12_found 7 = .ok (.iload_n 1, 1) := by decide +kernel
theorem dX12_found_8 : decode cX12_found 8 = .ok (.isub, 1) := by decide +kernel
theorem dX12_found_9 : decode cX12_found 9 = .ok (.ireturn, 1) := by decide +kernel
set_option maxRecDepth 20000 in
theorem ggX12_isSheet_X12_in : GoodIn wsX12_isSheet wsX12_in := goodIn_r _ [5] (by decide +kernel) (by decide +kernel)
set_option maxRecDepth 20000 in
theorem gX12_isSheet_X12_in : GoodIn wsX12_isSheet (va_wsS RX12 70 yX12_in wsX12_in) := goodIn_app (goodIn_of _ (by decide +kernel)) ggX12_isSheet_X12_in
theorem dX12_isSheet_0 : decode cX12_isSheet 0 = .ok (.iload_n 0, 1) := by decide +kernel
theorem dX12_isSheet_1 : decode cX12_isSheet 1 = .ok (.i2l, 1) := by decide +kernel
theorem dX12_isSheet_2 : decode cX12_isSheet 2 = .ok (.lconst 0, 1) := by decide +kernel
theorem dX12_isSheet_3 : decode cX12_isSheet 3 = .ok (.ldc2_w 68, 3) := by decide +kernel
theorem dX12_isSheet_6 : decode cX12_isSheet 6 = .ok (.invokestatic 70, 3) := by decide +kernel
theorem dX12_isSheet_9 : decode cX12_isSheet 9 = .ok (.ireturn, 1) := by decide +kernel
set_option maxRecDepth 20000 in
theorem ggX12_sheet_X12_isSheet : GoodIn wsX12_sheet wsX12_isSheet := goodIn_r _ [11, 12, 13, 14, 10, 15] (by decide +kernel) (by decide +kernel)
set_option maxRecDepth 20000 in
theorem gX12_sheet_X12_isSheet : GoodIn wsX12_sheet (va_wsS RX12 74 yX12_isSheet wsX12_isSheet) := goodIn_app (goodIn_of _ (by decide +kernel)) ggX12_sheet_X12_isSheet
set_option maxRecDepth 20000 in
theorem ggX12_sheet_X12_in : GoodIn wsX12_sheet wsX12_in := goodIn_r _ [15] (by decide +kernel) (by decide +kernel)
set_option maxRecDepth 20000 in
theorem gX12_sheet_X12_in : GoodIn wsX12_sheet (va_wsS RX12 70 yX12_in wsX12_in) := goodIn_app (goodIn_of _ (by decide +kernel)) ggX12_sheet_X12_in
set_option maxRecDepth 20000 in
theorem ggX12_sheet_X12_found : GoodIn wsX12_sheet wsX12_found := goodIn_r _ [19, 4, 20, 21, 22, 23, 24, 25, 26, 27, 28, 29, 30, 31, 32, 33, 34, 35, 36, 37, 38, 39, 40, 41, 42] (by decide +kernel) (by decide +kernel)
set_option maxRecDepth 20000 in
theorem gX12_sheet_X12_found : GoodIn wsX12_sheet (wsV RX12 81 RX12 yX12_found wsX12_found) := goodIn_app (goodIn_of _ (by decide +kernel)) ggX12_sheet_X12_found
theorem dX12_sheet_0 : decode cX12_sheet 0 = .ok (.aload_n 0, 1) := by decide +kernel
theorem dX12_sheet_1 : decode cX12_sheet 1 = .ok (.iconst 0, 1) := by decide +kernel
theorem dX12_sheet_2 : decode cX12_sheet 2 = .ok (.putfield 60, 3) := by decide +kernel
theorem dX12_sheet_5 : decode cX12_sheet 5 = .ok (.iload_n 1, 1) := by decide +kernel
theorem dX12_sheet_6 : decode cX12_sheet 6 = .ok (.invokestatic 74, 3) := by decide +kernel
theorem dX12_sheet_9 : decode cX12_sheet 9 = .ok (.ifCond .eq 21, 3) := by decide +kernel
theorem dX12_sheet_12 : decode cX12_sheet 12 = .ok (.iload_n 2, 1) := by decide +kernel
theorem dX12_sheet_13 : decode cX12_sheet 13 = .ok (.i2l, 1) := by decide +kernel
theorem dX12_sheet_14 : decode cX12_sheet 14 = .ok (.lconst 0, 1) := by decide +kernel
theorem dX12_sheet_15 : decode cX12_sheet 15 = .ok (.ldc2_w 78, 3) := by decide +kernel
theorem dX12_sheet_18 : decode cX12_sheet 18 = .ok (.invokestatic 70, 3) := by decide +kernel
theorem dX12_sheet_21 : decode cX12_sheet 21 = .ok (.ifCond .eq 9, 3) := by decide +kernel
theorem dX12_sheet_24 : decode cX12_sheet 24 = .ok (.iload_n 3, 1) := by decide +kernel
theorem dX12_sheet_25 : decode cX12_sheet 25 = .ok (.bipush 60, 2) := by decide +kernel
theorem dX12_sheet_27 : decode cX12_sheet 27 = .ok (.if_icmp .le 6, 3) := by decide +kernel
theorem dX12_sheet_30 : decode cX12_sheet 30 = .ok (.ldc 80, 2) := by decide +kernel
theorem dX12_sheet_32 : decode cX12_sheet 32 = .ok (.ireturn, 1) := by decide +kernel
theorem dX12_sheet_33 : decode cX12_sheet 33 = .ok (.aload_n 0, 1) := by decide +kernel
theorem dX12_sheet_34 : decode cX12_sheet 34 = .ok (.iconst 0, 1) := by decide +kernel
theorem dX12_sheet_35 : decode cX12_sheet 35 = .ok (.putfield 64, 3) := by decide +kernel
theorem dX12_sheet_38 : decode cX12_sheet 38 = .ok (.iload_n 3, 1) := by decide +kernel
theorem dX12_sheet_39 : decode cX12_sheet 39 = .ok (.ifCond .ge 9, 3) := by decide +kernel
theorem dX12_sheet_42 : decode cX12_sheet 42 = .ok (.aload_n 0, 1) := by decide +kernel
theorem dX12_sheet_43 : decode cX12_sheet 43 = .ok (.iconst 4, 1) := by decide +kernel
theorem dX12_sheet_44 : decode cX12_sheet 44 = .ok (.invokevirtual 81, 3) := by decide +kernel
theorem dX12_sheet_47 : decode cX12_sheet 47 = .ok (.ireturn, 1) := by decide +kernel
theorem dX12_sheet_48 : decode cX12_sheet 48 = .ok (.aload_n 0, 1) := by decide +kernel
theorem dX12_sheet_49 : decode cX12_sheet 49 = .ok (.getfield 16, 3) := by decide +kernel
theorem dX12_sheet_52 : decode cX12_sheet 52 = .ok (.iload_n 1, 1) := by decide +kernel
theorem dX12_sheet_53 : decode cX12_sheet 53 = .ok (.iload_n 2, 1) := by decide +kernel
theorem dX12_sheet_54 : decode cX12_sheet 54 = .ok (.iastore, 1) := by decide +kernel
theorem dX12_sheet_55 : decode cX12_sheet 55 = .ok (.aload_n 0, 1) := by decide +kernel
theorem dX12_sheet_56 : decode cX12_sheet 56 = .ok (.getfield 19, 3) := by decide +kernel
theorem dX12_sheet_59 : decode cX12_sheet 59 = .ok (.iload_n 1, 1) := by decide +kernel
theorem dX12_sheet_60 : decode cX12_sheet 60 = .ok (.iload_n 3, 1) := by decide +kernel
theorem dX12_sheet_61 : decode cX12_sheet 61 = .ok (.iastore, 1) := by decide +kernel
theorem dX12_sheet_62 : decode cX12_sheet 62 = .ok (.iconst 0, 1) := by decide +kernel
theorem dX12_sheet_63 : decode cX12_sheet 63 = .ok (.istore 4, 2) := by decide +kernel
theorem dX12_sheet_65 : decode cX12_sheet 65 = .ok (.iload 4, 2) := by decide +kernel
theorem dX12_sheet_67 : decode cX12_sheet 67 = .ok (.bipush 60, 2) := by decide +kernel
theorem dX12_sheet_69 : decode cX12_sheet 69 = .ok (.if_icmp .ge 22, 3) := by decide +kernel
theorem dX12_sheet_72 : decode cX12_sheet 72 = .ok (.aload_n 0, 1) := by decide +kernel
theorem dX12_sheet_73 : decode cX12_sheet 73 = .ok (.getfield 22, 3) := by decide +kernel
theorem dX12_sheet_76 : decode cX12_sheet 76 = .ok (.bipush 60, 2) := by decide +kernel
theorem dX12_sheet_78 : decode cX12_sheet 78 = .ok (.iload_n 1, 1) := by decide +kernel
theorem dX12_sheet_79 : decode cX12_sheet 79 = .ok (.imul, 1) := by decide +kernel
theorem dX12_sheet_80 : decode cX12_sheet 80 = .ok (.iload 4, 2) := by decide +kernel
theorem dX12_sheet_82 : decode cX12_sheet 82 = .ok (.iadd, 1) := by decide +kernel
theorem dX12_sheet_83 : decode cX12_sheet 83 = .ok (.iconst 0, 1) := by decide +kernel
theorem dX12_sheet_84 : decode cX12_sheet 84 = .ok (.iastore, 1) := by decide +kernel
theorem dX12_sheet_85 : decode cX12_sheet 85 = .ok (.iinc 4 1, 3) := by decide +kernel
theorem dX12_sheet_88 : decode cX12_sheet 88 = .ok (.goto (-23), 3) := by decide +kernel
theorem dX12_sheet_91 : decode cX12_sheet 91 = .ok (.iload_n 3, 1) := by decide +kernel
theorem dX12_sheet_92 : decode cX12_sheet 92 = .ok (.ireturn, 1) := by decide +kernel
set_option maxRecDepth 20000 in
theorem ggX12_set_X12_isSheet : GoodIn wsX12_set wsX12_isSheet := goodIn_r _ [10, 11, 12, 13, 9, 14] (by decide +kernel) (by decide +kernel)
set_option maxRecDepth 20000 in
theorem gX12_set_X12_isSheet : GoodIn wsX12_set (va_wsS RX12 74 yX12_isSheet wsX12_isSheet) := goodIn_app (goodIn_of _ (by decide +kernel)) ggX12_set_X12_isSheet
set_option maxRecDepth 20000 in
theorem ggX12_set_X12_found : GoodIn wsX12_set wsX12_found := goodIn_r _ [18, 3, 19, 20, 21, 22, 23, 24, 25, 26, 27, 28, 29, 30, 31, 32, 33, 34, 35, 36, 37, 38, 39, 40, 41] (by decide +kernel) (by decide +kernel)
set_option maxRecDepth 20000 in
theorem gX12_set_X12_found : GoodIn wsX12_set (wsV RX12 81 RX12 yX12_found wsX12_found) := goodIn_app (goodIn_of _ (by decide +kernel)) ggX12_set_X12_found
set_option maxRecDepth 20000 in
theorem ggX12_set_X12_in : GoodIn wsX12_set wsX12_in := goodIn_r _ [14] (by decide +kernel) (by decide +kernel)
set_option maxRecDepth 20000 in
theorem gX12_set_X12_in : GoodIn wsX12_set (va_wsS RX12 70 yX12_in wsX12_in) := goodIn_app (goodIn_of _ (by decide +kernel)) ggX12_set_X12_in
theorem dX12_set_0 : decode cX12_set 0 = .ok (.aload_n 0, 1) := by decide +kernel
theorem dX12_set_1 : decode cX12_set 1 = .ok (.iconst 0, 1) := by decide +kernel
theorem dX12_set_2 : decode cX12_set 2 = .ok (.putfield 60, 3) := by decide +kernel
theorem dX12_set_5 : decode cX12_set 5 = .ok (.iload_n 1, 1) := by decide +kernel
theorem dX12_set_6 : decode cX12_set 6 = .ok (.invokestatic 74, 3) := by decide +kernel
theorem dX12_set_9 : decode cX12_set 9 = .ok (.ifCond .ne 6, 3) := by decide +kernel
theorem dX12_set_12 : decode cX12_set 12 = .ok (.ldc 80, 2) := by decide +kernel
theorem dX12_set_14 : decode cX12_set 14 = .ok (.ireturn, 1) := by decide +kernel
theorem dX12_set_15 : decode cX12_set 15 = .ok (.aload_n 0, 1) := by decide +kernel
theorem dX12_set_16 : decode cX12_set 16 = .ok (.iconst 0, 1) := by decide +kernel
theorem dX12_set_17 : decode cX12_set 17 = .ok (.putfield 64, 3) := by decide +kernel
theorem dX12_set_20 : decode cX12_set 20 = .ok (.aload_n 0, 1) := by decide +kernel
theorem dX12_set_21 : decode cX12_set 21 = .ok (.getfield 16, 3) := by decide +kernel
theorem dX12_set_24 : decode cX12_set 24 = .ok (.iload_n 1, 1) := by decide +kernel
theorem dX12_set_25 : decode cX12_set 25 = .ok (.iaload, 1) := by decide +kernel
theorem dX12_set_26 : decode cX12_set 26 = .ok (.ifCond .ge 9, 3) := by decide +kernel
theorem dX12_set_29 : decode cX12_set 29 = .ok (.aload_n 0, 1) := by decide +kernel
theorem dX12_set_30 : decode cX12_set 30 = .ok (.iconst 1, 1) := by decide +kernel
theorem dX12_set_31 : decode cX12_set 31 = .ok (.invokevirtual 81, 3) := by decide +kernel
theorem dX12_set_34 : decode cX12_set 34 = .ok (.ireturn, 1) := by decide +kernel
theorem dX12_set_35 : decode cX12_set 35 = .ok (.iload_n 2, 1) := by decide +kernel
theorem dX12_set_36 : decode cX12_set 36 = .ok (.i2l, 1) := by decide +kernel
theorem dX12_set_37 : decode cX12_set 37 = .ok (.lconst 0, 1) := by decide +kernel
theorem dX12_set_38 : decode cX12_set 38 = .ok (.aload_n 0, 1) := by decide +kernel
theorem dX12_set_39 : decode cX12_set 39 = .ok (.getfield 19, 3) := by decide +kernel
theorem dX12_set_42 : decode cX12_set 42 = .ok (.iload_n 1, 1) := by decide +kernel
theorem dX12_set_43 : decode cX12_set 43 = .ok (.iaload, 1) := by decide +kernel
theorem dX12_set_44 : decode cX12_set 44 = .ok (.iconst 1, 1) := by decide +kernel
theorem dX12_set_45 : decode cX12_set 45 = .ok (.isub, 1) := by decide +kernel
theorem dX12_set_46 : decode cX12_set 46 = .ok (.i2l, 1) := by decide +kernel
theorem dX12_set_47 : decode cX12_set 47 = .ok (.invokestatic 70, 3) := by decide +kernel
theorem dX12_set_50 : decode cX12_set 50 = .ok (.ifCond .ne 9, 3) := by decide +kernel
theorem dX12_set_53 : decode cX12_set 53 = .ok (.aload_n 0, 1) := by decide +kernel
theorem dX12_set_54 : decode cX12_set 54 = .ok (.iconst 2, 1) := by decide +kernel
theorem dX12_set_55 : decode cX12_set 55 = .ok (.invokevirtual 81, 3) := by decide +kernel
theorem dX12_set_58 : decode cX12_set 58 = .ok (.ireturn, 1) := by decide +kernel
theorem dX12_set_59 : decode cX12_set 59 = .ok (.aload_n 0, 1) := by decide +kernel
theorem dX12_set_60 : decode cX12_set 60 = .ok (.getfield 22, 3) := by decide +kernel
theorem dX12_set_63 : decode cX12_set 63 = .ok (.bipush 60, 2) := by decide +kernel
theorem dX12_set_65 : decode cX12_set 65 = .ok (.iload_n 1, 1) := by decide +kernel
theorem dX12_set_66 : decode cX12_set 66 = .ok (.imul, 1) := by decide +kernel
theorem dX12_set_67 : decode cX12_set 67 = .ok (.iload_n 2, 1) := by decide +kernel
theorem dX12_set_68 : decode cX12_set 68 = .ok (.iadd, 1) := by decide +kernel
theorem dX12_set_69 : decode cX12_set 69 = .ok (.aload_n 0, 1) := by decide +kernel
theorem dX12_set_70 : decode cX12_set 70 = .ok (.getfield 16, 3) := by decide +kernel
theorem dX12_set_73 : decode cX12_set 73 = .ok (.iload_n 1, 1) := by decide +kernel
theorem dX12_set_74 : decode cX12_set 74 = .ok (.iaload, 1) := by decide +kernel
theorem dX12_set_75 : decode cX12_set 75 = .ok (.ifCond .ne 8, 3) := by decide +kernel
theorem dX12_set_78 : decode cX12_set 78 = .ok (.iload_n 3, 1) := by decide +kernel
theorem dX12_set_79 : decode cX12_set 79 = .ok (.i2b, 1) := by decide +kernel
theorem dX12_set_80 : decode cX12_set 80 = .ok (.goto 19, 3) := by decide +kernel
theorem dX12_set_83 : decode cX12_set 83 = .ok (.aload_n 0, 1) := by decide +kernel
theorem dX12_set_84 : decode cX12_set 84 = .ok (.getfield 16, 3) := by decide +kernel
theorem dX12_set_87 : decode cX12_set 87 = .ok (.iload_n 1, 1) := by decide +kernel
end
section
theorem dX12_set_88 : decode cX12_set 88 = .ok (.iaload, 1) := by decide +kernel
theorem dX12_set_89 : decode cX12_set 89 = .ok (.iconst 1, 1) := by decide +kernel
theorem dX12_set_90 : decode cX12_set 90 = .ok (.if_icmp .ne 8, 3) := by decide +kernel
theorem dX12_set_93 : decode cX12_set 93 = .ok (.iload_n 3, 1) := by decide +kernel
theorem dX12_set_94 : decode cX12_set 94 = .ok (.i2s, 1) := by decide +kernel
theorem dX12_set_95 : decode cX12_set 95 = .ok (.goto 4, 3) := by decide +kernel
theorem dX12_set_98 : decode cX12_set 98 = .ok (.iload_n 3, 1) := by decide +kernel
theorem dX12_set_99 : decode cX12_set 99 = .ok (.iastore, 1) := by decide +kernel
theorem dX12_set_100 : decode cX12_set 100 = .ok (.aload_n 0, 1) := by decide +kernel
theorem dX12_set_101 : decode cX12_set 101 = .ok (.getfield 22, 3) := by decide +kernel
theorem dX12_set_104 : decode cX12_set 104 = .ok (.bipush 60, 2) := by decide +kernel
theorem dX12_set_106 : decode cX12_set 106 = .ok (.iload_n 1, 1) := by decide +kernel
theorem dX12_set_107 : decode cX12_set 107 = .ok (.imul, 1) := by decide +kernel
theorem dX12_set_108 : decode cX12_set 108 = .ok (.iload_n 2, 1) := by decide +kernel
theorem dX12_set_109 : decode cX12_set 109 = .ok (.iadd, 1) := by decide +kernel
theorem dX12_set_110 : decode cX12_set 110 = .ok (.iaload, 1) := by decide +kernel
theorem dX12_set_111 : decode cX12_set 111 = .ok (.ireturn, 1) := by decide +kernel
set_option maxRecDepth 20000 in
theorem ggX12_copy_X12_isSheet : GoodIn wsX12_copy wsX12_isSheet := goodIn_r _ [10, 11, 12, 13, 9, 14] (by decide +kernel) (by decide +kernel)
set_option maxRecDepth 20000 in
theorem gX12_copy_X12_isSheet : GoodIn wsX12_copy (va_wsS RX12 74 yX12_isSheet wsX12_isSheet) := goodIn_app (goodIn_of _ (by decide +kernel)) ggX12_copy_X12_isSheet
set_option maxRecDepth 20000 in
theorem ggX12_copy_X12_found : GoodIn wsX12_copy wsX12_found := goodIn_r _ [18, 3, 19, 20, 21, 22, 23, 24, 25, 26, 27, 28, 29, 30, 31, 32, 33, 34, 35, 36, 37, 38, 39, 40, 41] (by decide +kernel) (by decide +kernel)
set_option maxRecDepth 20000 in
theorem gX12_copy_X12_found : GoodIn wsX12_copy (wsV RX12 81 RX12 yX12_found wsX12_found) := goodIn_app (goodIn_of _ (by decide +kernel)) ggX12_copy_X12_found
theorem dX12_copy_0 : decode cX12_copy 0 = .ok (.aload_n 0, 1) := by decide +kernel
theorem dX12_copy_1 : decode cX12_copy 1 = .ok (.iconst 0, 1) := by decide +kernel
theorem dX12_copy_2 : decode cX12_copy 2 = .ok (.putfield 60, 3) := by decide +kernel
theorem dX12_copy_5 : decode cX12_copy 5 = .ok (.iload_n 1, 1) := by decide +kernel
theorem dX12_copy_6 : decode cX12_copy 6 = .ok (.invokestatic 74, 3) := by decide +kernel
theorem dX12_copy_9 : decode cX12_copy 9 = .ok (.ifCond .eq 10, 3) := by decide +kernel
theorem dX12_copy_12 : decode cX12_copy 12 = .ok (.iload_n 3, 1) := by decide +kernel
theorem dX12_copy_13 : decode cX12_copy 13 = .ok (.invokestatic 74, 3) := by decide +kernel
theorem dX12_copy_16 : decode cX12_copy 16 = .ok (.ifCond .ne 6, 3) := by decide +kernel
theorem dX12_copy_19 : decode cX12_copy 19 = .ok (.ldc 80, 2) := by decide +kernel
theorem dX12_copy_21 : decode cX12_copy 21 = .ok (.ireturn, 1) := by decide +kernel
theorem dX12_copy_22 : decode cX12_copy 22 = .ok (.aload_n 0, 1) := by decide +kernel
theorem dX12_copy_23 : decode cX12_copy 23 = .ok (.iconst 0, 1) := by decide +kernel
theorem dX12_copy_24 : decode cX12_copy 24 = .ok (.putfield 64, 3) := by decide +kernel
theorem dX12_copy_27 : decode cX12_copy 27 = .ok (.aload_n 0, 1) := by decide +kernel
theorem dX12_copy_28 : decode cX12_copy 28 = .ok (.getfield 16, 3) := by decide +kernel
theorem dX12_copy_31 : decode cX12_copy 31 = .ok (.iload_n 1, 1) := by decide +kernel
theorem dX12_copy_32 : decode cX12_copy 32 = .ok (.iaload, 1) := by decide +kernel
theorem dX12_copy_33 : decode cX12_copy 33 = .ok (.ifCond .lt 12, 3) := by decide +kernel
theorem dX12_copy_36 : decode cX12_copy 36 = .ok (.aload_n 0, 1) := by decide +kernel
theorem dX12_copy_37 : decode cX12_copy 37 = .ok (.getfield 16, 3) := by decide +kernel
theorem dX12_copy_40 : decode cX12_copy 40 = .ok (.iload_n 3, 1) := by decide +kernel
theorem dX12_copy_41 : decode cX12_copy 41 = .ok (.iaload, 1) := by decide +kernel
theorem dX12_copy_42 : decode cX12_copy 42 = .ok (.ifCond .ge 9, 3) := by decide +kernel
theorem dX12_copy_45 : decode cX12_copy 45 = .ok (.aload_n 0, 1) := by decide +kernel
theorem dX12_copy_46 : decode cX12_copy 46 = .ok (.iconst 1, 1) := by decide +kernel
theorem dX12_copy_47 : decode cX12_copy 47 = .ok (.invokevirtual 81, 3) := by decide +kernel
theorem dX12_copy_50 : decode cX12_copy 50 = .ok (.ireturn, 1) := by decide +kernel
theorem dX12_copy_51 : decode cX12_copy 51 = .ok (.aload_n 0, 1) := by decide +kernel
theorem dX12_copy_52 : decode cX12_copy 52 = .ok (.getfield 16, 3) := by decide +kernel
theorem dX12_copy_55 : decode cX12_copy 55 = .ok (.iload_n 1, 1) := by decide +kernel
theorem dX12_copy_56 : decode cX12_copy 56 = .ok (.iaload, 1) := by decide +kernel
theorem dX12_copy_57 : decode cX12_copy 57 = .ok (.aload_n 0, 1) := by decide +kernel
theorem dX12_copy_58 : decode cX12_copy 58 = .ok (.getfield 16, 3) := by decide +kernel
theorem dX12_copy_61 : decode cX12_copy 61 = .ok (.iload_n 3, 1) := by decide +kernel
theorem dX12_copy_62 : decode cX12_copy 62 = .ok (.iaload, 1) := by decide +kernel
theorem dX12_copy_63 : decode cX12_copy 63 = .ok (.if_icmp .eq 9, 3) := by decide +kernel
theorem dX12_copy_66 : decode cX12_copy 66 = .ok (.aload_n 0, 1) := by decide +kernel
theorem dX12_copy_67 : decode cX12_copy 67 = .ok (.iconst 5, 1) := by decide +kernel
theorem dX12_copy_68 : decode cX12_copy 68 = .ok (.invokevirtual 81, 3) := by decide +kernel
theorem dX12_copy_71 : decode cX12_copy 71 = .ok (.ireturn, 1) := by decide +kernel
theorem dX12_copy_72 : decode cX12_copy 72 = .ok (.iload_n 2, 1) := by decide +kernel
theorem dX12_copy_73 : decode cX12_copy 73 = .ok (.ifCond .lt 48, 3) := by decide +kernel
theorem dX12_copy_76 : decode cX12_copy 76 = .ok (.iload 4, 2) := by decide +kernel
theorem dX12_copy_78 : decode cX12_copy 78 = .ok (.ifCond .lt 43, 3) := by decide +kernel
theorem dX12_copy_81 : decode cX12_copy 81 = .ok (.iload 5, 2) := by decide +kernel
theorem dX12_copy_83 : decode cX12_copy 83 = .ok (.ifCond .lt 38, 3) := by decide +kernel
theorem dX12_copy_86 : decode cX12_copy 86 = .ok (.iload_n 2, 1) := by decide +kernel
theorem dX12_copy_87 : decode cX12_copy 87 = .ok (.i2l, 1) := by decide +kernel
theorem dX12_copy_88 : decode cX12_copy 88 = .ok (.iload 5, 2) := by decide +kernel
theorem dX12_copy_90 : decode cX12_copy 90 = .ok (.i2l, 1) := by decide +kernel
theorem dX12_copy_91 : decode cX12_copy 91 = .ok (.ladd, 1) := by decide +kernel
theorem dX12_copy_92 : decode cX12_copy 92 = .ok (.aload_n 0, 1) := by decide +kernel
theorem dX12_copy_93 : decode cX12_copy 93 = .ok (.getfield 19, 3) := by decide +kernel
theorem dX12_copy_96 : decode cX12_copy 96 = .ok (.iload_n 1, 1) := by decide +kernel
theorem dX12_copy_97 : decode cX12_copy 97 = .ok (.iaload, 1) := by decide +kernel
theorem dX12_copy_98 : decode cX12_copy 98 = .ok (.i2l, 1) := by decide +kernel
theorem dX12_copy_99 : decode cX12_copy 99 = .ok (.lcmp, 1) := by decide +kernel
theorem dX12_copy_100 : decode cX12_copy 100 = .ok (.ifCond .gt 21, 3) := by decide +kernel
theorem dX12_copy_103 : decode cX12_copy 103 = .ok (.iload 4, 2) := by decide +kernel
theorem dX12_copy_105 : decode cX12_copy 105 = .ok (.i2l, 1) := by decide +kernel
theorem dX12_copy_106 : decode cX12_copy 106 = .ok (.iload 5, 2) := by decide +kernel
theorem dX12_copy_108 : decode cX12_copy 108 = .ok (.i2l, 1) := by decide +kernel
theorem dX12_copy_109 : decode cX12_copy 109 = .ok (.ladd, 1) := by decide +kernel
theorem dX12_copy_110 : decode cX12_copy 110 = .ok (.aload_n 0, 1) := by decide +kernel
theorem dX12_copy_111 : decode cX12_copy 111 = .ok (.getfield 19, 3) := by decide +kernel
theorem dX12_copy_114 : decode cX12_copy 114 = .ok (.iload_n 3, 1) := by decide +kernel
theorem dX12_copy_115 : decode cX12_copy 115 = .ok (.iaload, 1) := by decide +kernel
theorem dX12_copy_116 : decode cX12_copy 116 = .ok (.i2l, 1) := by decide +kernel
theorem dX12_copy_117 : decode cX12_copy 117 = .ok (.lcmp, 1) := by decide +kernel
theorem dX12_copy_118 : decode cX12_copy 118 = .ok (.ifCond .le 9, 3) := by decide +kernel
theorem dX12_copy_121 : decode cX12_copy 121 = .ok (.aload_n 0, 1) := by decide +kernel
theorem dX12_copy_122 : decode cX12_copy 122 = .ok (.iconst 2, 1) := by decide +kernel
theorem dX12_copy_123 : decode cX12_copy 123 = .ok (.invokevirtual 81, 3) := by decide +kernel
theorem dX12_copy_126 : decode cX12_copy 126 = .ok (.ireturn, 1) := by decide +kernel
theorem dX12_copy_127 : decode cX12_copy 127 = .ok (.iload_n 2, 1) := by decide +kernel
theorem dX12_copy_128 : decode cX12_copy 128 = .ok (.iload 4, 2) := by decide +kernel
theorem dX12_copy_130 : decode cX12_copy 130 = .ok (.if_icmp .lt 7, 3) := by decide +kernel
theorem dX12_copy_133 : decode cX12_copy 133 = .ok (.iconst 1, 1) := by decide +kernel
theorem dX12_copy_134 : decode cX12_copy 134 = .ok (.goto 4, 3) := by decide +kernel
theorem dX12_copy_137 : decode cX12_copy 137 = .ok (.iconst 0, 1) := by decide +kernel
theorem dX12_copy_138 : decode cX12_copy 138 = .ok (.istore 6, 2) := by decide +kernel
theorem dX12_copy_140 : decode cX12_copy 140 = .ok (.iconst 0, 1) := by decide +kernel
theorem dX12_copy_141 : decode cX12_copy 141 = .ok (.istore 7, 2) := by decide +kernel
theorem dX12_copy_143 : decode cX12_copy 143 = .ok (.iload 7, 2) := by decide +kernel
theorem dX12_copy_145 : decode cX12_copy 145 = .ok (.iload 5, 2) := by decide +kernel
theorem dX12_copy_147 : decode cX12_copy 147 = .ok (.if_icmp .ge 57, 3) := by decide +kernel
theorem dX12_copy_150 : decode cX12_copy 150 = .ok (.iload 6, 2) := by decide +kernel
theorem dX12_copy_152 : decode cX12_copy 152 = .ok (.ifCond .eq 8, 3) := by decide +kernel
theorem dX12_copy_155 : decode cX12_copy 155 = .ok (.iload 7, 2) := by decide +kernel
theorem dX12_copy_157 : decode cX12_copy 157 = .ok (.goto 10, 3) := by decide +kernel
theorem dX12_copy_160 : decode cX12_copy 160 = .ok (.iload 5, 2) := by decide +kernel
theorem dX12_copy_162 : decode cX12_copy 162 = .ok (.iconst 1, 1) := by decide +kernel
theorem dX12_copy_163 : decode cX12_copy 163 = .ok (.isub, 1) := by decide +kernel
theorem dX12_copy_164 : decode cX12_copy 164 = .ok (.iload 7, 2) := by decide +kernel
theorem dX12_copy_166 : decode cX12_copy 166 = .ok (.isub, 1) := by decide +kernel
theorem dX12_copy_167 : decode cX12_copy 167 = .ok (.istore 8, 2) := by decide +kernel
theorem dX12_copy_169 : decode cX12_copy 169 = .ok (.aload_n 0, 1) := by decide +kernel
theorem dX12_copy_170 : decode cX12_copy 170 = .ok (.getfield 22, 3) := by decide +kernel
theorem dX12_copy_173 : decode cX12_copy 173 = .ok (.bipush 60, 2) := by decide +kernel
theorem dX12_copy_175 : decode cX12_copy 175 = .ok (.iload_n 3, 1) := by decide +kernel
theorem dX12_copy_176 : decode cX12_copy 176 = .ok (.imul, 1) := by decide +kernel
theorem dX12_copy_177 : decode cX12_copy 177 = .ok (.iload 4, 2) := by decide +kernel
theorem dX12_copy_179 : decode cX12_copy 179 = .ok (.iadd, 1) := by decide +kernel
theorem dX12_copy_180 : decode cX12_copy 180 = .ok (.iload 8, 2) := by decide +kernel
theorem dX12_copy_182 : decode cX12_copy 182 = .ok (.iadd, 1) := by decide +kernel
theorem dX12_copy_183 : decode cX12_copy 183 = .ok (.aload_n 0, 1) := by decide +kernel
theorem dX12_copy_184 : decode cX12_copy 184 = .ok (.getfield 22, 3) := by decide +kernel
theorem dX12_copy_187 : decode cX12_copy 187 = .ok (.bipush 60, 2) := by decide +kernel
theorem dX12_copy_189 : decode cX12_copy 189 = .ok (.iload_n 1, 1) := by decide +kernel
theorem dX12_copy_190 : decode cX12_copy 190 = .ok (.imul, 1) := by decide +kernel
theorem dX12_copy_191 : decode cX12_copy 191 = .ok (.iload_n 2, 1) := by decide +kernel
theorem dX12_copy_192 : decode cX12_copy 192 = .ok (.iadd, 1) := by decide +kernel
theorem dX12_copy_193 : decode cX12_copy 193 = .ok (.iload 8, 2) := by decide +kernel
theorem dX12_copy_195 : decode cX12_copy 195 = .ok (.iadd, 1) := by decide +kernel
theorem dX12_copy_196 : decode cX12_copy 196 = .ok (.iaload, 1) := by decide +kernel
theorem dX12_copy_197 : decode cX12_copy 197 = .ok (.iastore, 1) := by decide +kernel
theorem dX12_copy_198 : decode cX12_copy 198 = .ok (.iinc 7 1, 3) := by decide +kernel
theorem dX12_copy_201 : decode cX12_copy 201 = .ok (.goto (-58), 3) := by decide +kernel
theorem dX12_copy_204 : decode cX12_copy 204 = .ok (.iload 5, 2) := by decide +kernel
theorem dX12_copy_206 : decode cX12_copy 206 = .ok (.ireturn, 1) := by decide +kernel
set_option maxRecDepth 20000 in
theorem ggX12_drop_X12_isSheet : GoodIn wsX12_drop wsX12_isSheet := goodIn_r _ [9, 10, 11, 12, 8, 13] (by decide +kernel) (by decide +kernel)
set_option maxRecDepth 20000 in
theorem gX12_drop_X12_isSheet : GoodIn wsX12_drop (va_wsS RX12 74 yX12_isSheet wsX12_isSheet) := goodIn_app (goodIn_of _ (by decide +kernel)) ggX12_drop_X12_isSheet
set_option maxRecDepth 20000 in
theorem ggX12_drop_X12_found : GoodIn wsX12_drop wsX12_found := goodIn_r _ [17, 3, 18, 19, 20, 21, 22, 23, 24, 25, 26, 27, 28, 29, 30, 31, 32, 33, 34, 35, 36, 37, 38, 39, 40] (by decide +kernel) (by decide +kernel)
set_option maxRecDepth 20000 in
theorem gX12_drop_X12_found : GoodIn wsX12_drop (wsV RX12 81 RX12 yX12_found wsX12_found) := goodIn_app (goodIn_of _ (by decide +kernel)) ggX12_drop_X12_found
theorem dX12_drop_0 : decode cX12_drop 0 = .ok (.aload_n 0, 1) := by decide +kernel
theorem dX12_drop_1 : decode cX12_drop 1 = .ok (.iconst 0, 1) := by decide +kernel
theorem dX12_drop_2 : decode cX12_drop 2 = .ok (.putfield 60, 3) := by decide +kernel
theorem dX12_drop_5 : decode cX12_drop 5 = .ok (.iload_n 1, 1) := by decide +kernel
theorem dX12_drop_6 : decode cX12_drop 6 = .ok (.invokestatic 74, 3) := by decide +kernel
theorem dX12_drop_9 : decode cX12_drop 9 = .ok (.ifCond .ne 6, 3) := by decide +kernel
theorem dX12_drop_12 : decode cX12_drop 12 = .ok (.ldc 80, 2) := by decide +kernel
theorem dX12_drop_14 : decode cX12_drop 14 = .ok (.ireturn, 1) := by decide +kernel
theorem dX12_drop_15 : decode cX12_drop 15 = .ok (.aload_n 0, 1) := by decide +kernel
theorem dX12_drop_16 : decode cX12_drop 16 = .ok (.iconst 0, 1) := by decide +kernel
theorem dX12_drop_17 : decode cX12_drop 17 = .ok (.putfield 64, 3) := by decide +kernel
theorem dX12_drop_20 : decode cX12_drop 20 = .ok (.aload_n 0, 1) := by decide +kernel
theorem dX12_drop_21 : decode cX12_drop 21 = .ok (.getfield 16, 3) := by decide +kernel
theorem dX12_drop_24 : decode cX12_drop 24 = .ok (.iload_n 1, 1) := by decide +kernel
theorem dX12_drop_25 : decode cX12_drop 25 = .ok (.iaload, 1) := by decide +kernel
theorem dX12_drop_26 : decode cX12_drop 26 = .ok (.ifCond .ge 9, 3) := by decide +kernel
theorem dX12_drop_29 : decode cX12_drop 29 = .ok (.aload_n 0, 1) := by decide +kernel
theorem dX12_drop_30 : decode cX12_drop 30 = .ok (.iconst 1, 1) := by decide +kernel
theorem dX12_drop_31 : decode cX12_drop 31 = .ok (.invokevirtual 81, 3) := by decide +kernel
theorem dX12_drop_34 : decode cX12_drop 34 = .ok (.ireturn, 1) := by decide +kernel
theorem dX12_drop_35 : decode cX12_drop 35 = .ok (.aload_n 0, 1) := by decide +kernel
theorem dX12_drop_36 : decode cX12_drop 36 = .ok (.getfield 16, 3) := by decide +kernel
theorem dX12_drop_39 : decode cX12_drop 39 = .ok (.iload_n 1, 1) := by decide +kernel
theorem dX12_drop_40 : decode cX12_drop 40 = .ok (.iconst (-1), 1) := by decide +kernel
theorem dX12_drop_41 : decode cX12_drop 41 = .ok (.iastore, 1) := by decide +kernel
theorem dX12_drop_42 : decode cX12_drop 42 = .ok (.aload_n 0, 1) := by decide +kernel
theorem dX12_drop_43 : decode cX12_drop 43 = .ok (.getfield 19, 3) := by decide +kernel
theorem dX12_drop_46 : decode cX12_drop 46 = .ok (.iload_n 1, 1) := by decide +kernel
theorem dX12_drop_47 : decode cX12_drop 47 = .ok (.iaload, 1) := by decide +kernel
theorem dX12_drop_48 : decode cX12_drop 48 = .ok (.ireturn, 1) := by decide +kernel
set_option maxRecDepth 20000 in
theorem ggX12_world_X12_in : GoodIn wsX12_world wsX12_in := goodIn_r _ [17] (by decide +kernel) (by decide +kernel)
set_option maxRecDepth 20000 in
theorem gX12_world_X12_in : GoodIn wsX12_world (va_wsS RX12 70 yX12_in wsX12_in) := goodIn_app (goodIn_of _ (by decide +kernel)) ggX12_world_X12_in
set_option maxRecDepth 20000 in
theorem ggX12_world_X12_isSheet : GoodIn wsX12_world wsX12_isSheet := goodIn_r _ [20, 21, 14, 15, 16, 17] (by decide +kernel) (by decide +kernel)
set_option maxRecDepth 20000 in
theorem gX12_world_X12_isSheet : GoodIn wsX12_world (va_wsS RX12 74 yX12_isSheet wsX12_isSheet) := goodIn_app (goodIn_of _ (by decide +kernel)) ggX12_world_X12_isSheet
set_option maxRecDepth 20000 in
theorem ggX12_world_X12_found : GoodIn wsX12_world wsX12_found := goodIn_r _ [25, 11, 26, 27, 28, 29, 30, 31, 32, 33, 34, 35, 36, 37, 38, 39, 40, 41, 42, 43, 44, 45, 46, 47, 48] (by decide +kernel) (by decide +kernel)
set_option maxRecDepth 20000 in
theorem gX12_world_X12_found : GoodIn wsX12_world (wsV RX12 81 RX12 yX12_found wsX12_found) := goodIn_app (goodIn_of _ (by decide +kernel)) ggX12_world_X12_found
theorem dX12_world_0 : decode cX12_world 0 = .ok (.aload_n 0, 1) := by decide +kernel
theorem dX12_world_1 : decode cX12_world 1 = .ok (.iconst 0, 1) := by decide +kernel
theorem dX12_world_2 : decode cX12_world 2 = .ok (.putfield 60, 3) := by decide +kernel
theorem dX12_world_5 : decode cX12_world 5 = .ok (.iload_n 1, 1) := by decide +kernel
theorem dX12_world_6 : decode cX12_world 6 = .ok (.i2l, 1) := by decide +kernel
theorem dX12_world_7 : decode cX12_world 7 = .ok (.lconst 1, 1) := by decide +kernel
theorem dX12_world_8 : decode cX12_world 8 = .ok (.ldc2_w 85, 3) := by decide +kernel
theorem dX12_world_11 : decode cX12_world 11 = .ok (.invokestatic 70, 3) := by decide +kernel
theorem dX12_world_14 : decode cX12_world 14 = .ok (.ifCond .eq 10, 3) := by decide +kernel
theorem dX12_world_17 : decode cX12_world 17 = .ok (.iload_n 2, 1) := by decide +kernel
theorem dX12_world_18 : decode cX12_world 18 = .ok (.invokestatic 74, 3) := by decide +kernel
theorem dX12_world_21 : decode cX12_world 21 = .ok (.ifCond .ne 6, 3) := by decide +kernel
theorem dX12_world_24 : decode cX12_world 24 = .ok (.ldc 80, 2) := by decide +kernel
theorem dX12_world_26 : decode cX12_world 26 = .ok (.ireturn, 1) := by decide +kernel
theorem dX12_world_27 : decode cX12_world 27 = .ok (.aload_n 0, 1) := by decide +kernel
theorem dX12_world_28 : decode cX12_world 28 = .ok (.getfield 87, 3) := by decide +kernel
theorem dX12_world_31 : decode cX12_world 31 = .ok (.bipush 8, 2) := by decide +kernel
theorem dX12_world_33 : decode cX12_world 33 = .ok (.if_icmp .ne 6, 3) := by decide +kernel
theorem dX12_world_36 : decode cX12_world 36 = .ok (.ldc 90, 2) := by decide +kernel
theorem dX12_world_38 : decode cX12_world 38 = .ok (.ireturn, 1) := by decide +kernel
theorem dX12_world_39 : decode cX12_world 39 = .ok (.aload_n 0, 1) := by decide +kernel
theorem dX12_world_40 : decode cX12_world 40 = .ok (.getfield 16, 3) := by decide +kernel
theorem dX12_world_43 : decode cX12_world 43 = .ok (.iload_n 2, 1) := by decide +kernel
theorem dX12_world_44 : decode cX12_world 44 = .ok (.iaload, 1) := by decide +kernel
theorem dX12_world_45 : decode cX12_world 45 = .ok (.ifCond .ge 9, 3) := by decide +kernel
theorem dX12_world_48 : decode cX12_world 48 = .ok (.aload_n 0, 1) := by decide +kernel
theorem dX12_world_49 : decode cX12_world 49 = .ok (.iconst 1, 1) := by decide +kernel
theorem dX12_world_50 : decode cX12_world 50 = .ok (.invokevirtual 81, 3) := by decide +kernel
theorem dX12_world_53 : decode cX12_world 53 = .ok (.ireturn, 1) := by decide +kernel
theorem dX12_world_54 : decode cX12_world 54 = .ok (.iload_n 3, 1) := by decide +kernel
theorem dX12_world_55 : decode cX12_world 55 = .ok (.ifCond .lt 20, 3) := by decide +kernel
theorem dX12_world_58 : decode cX12_world 58 = .ok (.iload_n 3, 1) := by decide +kernel
theorem dX12_world_59 : decode cX12_world 59 = .ok (.i2l, 1) := by decide +kernel
theorem dX12_world_60 : decode cX12_world 60 = .ok (.ldc2_w 91, 3) := by decide +kernel
theorem dX12_world_63 : decode cX12_world 63 = .ok (.ladd, 1) := by decide +kernel
theorem dX12_world_64 : decode cX12_world 64 = .ok (.aload_n 0, 1) := by decide +kernel
theorem dX12_world_65 : decode cX12_world 65 = .ok (.getfield 19, 3) := by decide +kernel
theorem dX12_world_68 : decode cX12_world 68 = .ok (.iload_n 2, 1) := by decide +kernel
theorem dX12_world_69 : decode cX12_world 69 = .ok (.iaload, 1) := by decide +kernel
theorem dX12_world_70 : decode cX12_world 70 = .ok (.i2l, 1) := by decide +kernel
theorem dX12_world_71 : decode cX12_world 71 = .ok (.lcmp, 1) := by decide +kernel
theorem dX12_world_72 : decode cX12_world 72 = .ok (.ifCond .le 9, 3) := by decide +kernel
theorem dX12_world_75 : decode cX12_world 75 = .ok (.aload_n 0, 1) := by decide +kernel
theorem dX12_world_76 : decode cX12_world 76 = .ok (.iconst 2, 1) := by decide +kernel
theorem dX12_world_77 : decode cX12_world 77 = .ok (.invokevirtual 81, 3) := by decide +kernel
theorem dX12_world_80 : decode cX12_world 80 = .ok (.ireturn, 1) := by decide +kernel
theorem dX12_world_81 : decode cX12_world 81 = .ok (.iconst 0, 1) := by decide +kernel
theorem dX12_world_82 : decode cX12_world 82 = .ok (.istore 4, 2) := by decide +kernel
theorem dX12_world_84 : decode cX12_world 84 = .ok (.iload 4, 2) := by decide +kernel
theorem dX12_world_86 : decode cX12_world 86 = .ok (.bipush 8, 2) := by decide +kernel
theorem dX12_world_88 : decode cX12_world 88 = .ok (.if_icmp .ge 37, 3) := by decide +kernel
theorem dX12_world_91 : decode cX12_world 91 = .ok (.aload_n 0, 1) := by decide +kernel
theorem dX12_world_92 : decode cX12_world 92 = .ok (.getfield 22, 3) := by decide +kernel
theorem dX12_world_95 : decode cX12_world 95 = .ok (.bipush 60, 2) := by decide +kernel
theorem dX12_world_97 : decode cX12_world 97 = .ok (.iload_n 2, 1) := by decide +kernel
theorem dX12_world_98 : decode cX12_world 98 = .ok (.imul, 1) := by decide +kernel
theorem dX12_world_99 : decode cX12_world 99 = .ok (.iload_n 3, 1) := by decide +kernel
theorem dX12_world_100 : decode cX12_world 100 = .ok (.iadd, 1) := by decide +kernel
theorem dX12_world_101 : decode cX12_world 101 = .ok (.iload 4, 2) := by decide +kernel
theorem dX12_world_103 : decode cX12_world 103 = .ok (.iadd, 1) := by decide +kernel
theorem dX12_world_104 : decode cX12_world 104 = .ok (.iaload, 1) := by decide +kernel
theorem dX12_world_105 : decode cX12_world 105 = .ok (.i2l, 1) := by decide +kernel
theorem dX12_world_106 : decode cX12_world 106 = .ok (.lconst 0, 1) := by decide +kernel
theorem dX12_world_107 : decode cX12_world 107 = .ok (.ldc2_w 93, 3) := by decide +kernel
theorem dX12_world_110 : decode cX12_world 110 = .ok (.invokestatic 70, 3) := by decide +kernel
theorem dX12_world_113 : decode cX12_world 113 = .ok (.ifCond .ne 6, 3) := by decide +kernel
theorem dX12_world_116 : decode cX12_world 116 = .ok (.ldc 80, 2) := by decide +kernel
theorem dX12_world_118 : decode cX12_world 118 = .ok (.ireturn, 1) := by decide +kernel
theorem dX12_world_119 : decode cX12_world 119 = .ok (.iinc 4 1, 3) := by decide +kernel
theorem dX12_world_122 : decode cX12_world 122 = .ok (.goto (-38), 3) := by decide +kernel
theorem dX12_world_125 : decode cX12_world 125 = .ok (.aload_n 0, 1) := by decide +kernel
theorem dX12_world_126 : decode cX12_world 126 = .ok (.iconst 0, 1) := by decide +kernel
theorem dX12_world_127 : decode cX12_world 127 = .ok (.putfield 64, 3) := by decide +kernel
theorem dX12_world_130 : decode cX12_world 130 = .ok (.iconst 0, 1) := by decide +kernel
theorem dX12_world_131 : decode cX12_world 131 = .ok (.istore 4, 2) := by decide +kernel
theorem dX12_world_133 : decode cX12_world 133 = .ok (.iload 4, 2) := by decide +kernel
theorem dX12_world_135 : decode cX12_world 135 = .ok (.bipush 8, 2) := by decide +kernel
theorem dX12_world_137 : decode cX12_world 137 = .ok (.if_icmp .ge 38, 3) := by decide +kernel
theorem dX12_world_140 : decode cX12_world 140 = .ok (.aload_n 0, 1) := by decide +kernel
theorem dX12_world_141 : decode cX12_world 141 = .ok (.getfield 28, 3) := by decide +kernel
theorem dX12_world_144 : decode cX12_world 144 = .ok (.bipush 8, 2) := by decide +kernel
theorem dX12_world_146 : decode cX12_world 146 = .ok (.aload_n 0, 1) := by decide +kernel
theorem dX12_world_147 : decode cX12_world 147 = .ok (.getfield 87, 3) := by decide +kernel
theorem dX12_world_150 : decode cX12_world 150 = .ok (.imul, 1) := by decide +kernel
theorem dX12_world_151 : decode cX12_world 151 = .ok (.iload 4, 2) := by decide +kernel
theorem dX12_world_153 : decode cX12_world 153 = .ok (.iadd, 1) := by decide +kernel
theorem dX12_world_154 : decode cX12_world 154 = .ok (.aload_n 0, 1) := by decide +kernel
theorem dX12_world_155 : decode cX12_world 155 = .ok (.getfield 22, 3) := by decide +kernel
theorem dX12_world_158 : decode cX12_world 158 = .ok (.bipush 60, 2) := by decide +kernel
theorem dX12_world_160 : decode cX12_world 160 = .ok (.iload_n 2, 1) := by decide +kernel
theorem dX12_world_161 : decode cX12_world 161 = .ok (.imul, 1) := by decide +kernel
theorem dX12_world_162 : decode cX12_world 162 = .ok (.iload_n 3, 1) := by decide +kernel
theorem dX12_world_163 : decode cX12_world 163 = .ok (.iadd, 1) := by decide +kernel
theorem dX12_world_164 : decode cX12_world 164 = .ok (.iload 4, 2) := by decide +kernel
theorem dX12_world_166 : decode cX12_world 166 = .ok (.iadd, 1) := by decide +kernel
theorem dX12_world_167 : decode cX12_world 167 = .ok (.iaload, 1) := by decide +kernel
theorem dX12_world_168 : decode cX12_world 168 = .ok (.iastore, 1) := by decide +kernel
theorem dX12_world_169 : decode cX12_world 169 = .ok (.iinc 4 1, 3) := by decide +kernel
theorem dX12_world_172 : decode cX12_world 172 = .ok (.goto (-39), 3) := by decide +kernel
theorem dX12_world_175 : decode cX12_world 175 = .ok (.aload_n 0, 1) := by decide +kernel
theorem dX12_world_176 : decode cX12_world 176 = .ok (.getfield 25, 3) := by decide +kernel
theorem dX12_world_179 : decode cX12_world 179 = .ok (.aload_n 0, 1) := by decide +kernel
theorem dX12_world_180 : decode cX12_world 180 = .ok (.getfield 87, 3) := by decide +kernel
theorem dX12_world_183 : decode cX12_world 183 = .ok (.iload_n 1, 1) := by decide +kernel
theorem dX12_world_184 : decode cX12_world 184 = .ok (.iastore, 1) := by decide +kernel
theorem dX12_world_185 : decode cX12_world 185 = .ok (.aload_n 0, 1) := by decide +kernel
theorem dX12_world_186 : decode cX12_world 186 = .ok (.dup, 1) := by decide +kernel
theorem dX12_world_187 : decode cX12_world 187 = .ok (.getfield 87, 3) := by decide +kernel
theorem dX12_world_190 : decode cX12_world 190 = .ok (.iconst 1, 1) := by decide +kernel
theorem dX12_world_191 : decode cX12_world 191 = .ok (.iadd, 1) := by decide +kernel
theorem dX12_world_192 : decode cX12_world 192 = .ok (.putfield 87, 3) := by decide +kernel
theorem dX12_world_195 : decode cX12_world 195 = .ok (.aload_n 0, 1) := by decide +kernel
theorem dX12_world_196 : decode cX12_world 196 = .ok (.getfield 87, 3) := by decide +kernel
theorem dX12_world_199 : decode cX12_world 199 = .ok (.iconst 1, 1) := by decide +kernel
theorem dX12_world_200 : decode cX12_world 200 = .ok (.isub, 1) := by decide +kernel
theorem dX12_world_201 : decode cX12_world 201 = .ok (.ireturn, 1) := by decide +kernel
set_option maxRecDepth 20000 in
theorem ggX12_river_X12_in : GoodIn wsX12_river wsX12_in := goodIn_r _ [9] (by decide +kernel) (by decide +kernel)
set_option maxRecDepth 20000 in
theorem gX12_river_X12_in : GoodIn wsX12_river (va_wsS RX12 70 yX12_in wsX12_in) := goodIn_app (goodIn_of _ (by decide +kernel)) ggX12_river_X12_in
theorem dX12_river_0 : decode cX12_river 0 = .ok (.aload_n 0, 1) := by decide +kernel
theorem dX12_river_1 : decode cX12_river 1 = .ok (.iconst 0, 1) := by decide +kernel
theorem dX12_river_2 : decode cX12_river 2 = .ok (.putfield 60, 3) := by decide +kernel
theorem dX12_river_5 : decode cX12_river 5 = .ok (.iload_n 1, 1) := by decide +kernel
theorem dX12_river_6 : decode cX12_river 6 = .ok (.i2l, 1) := by decide +kernel
theorem dX12_river_7 : decode cX12_river 7 = .ok (.lconst 0, 1) := by decide +kernel
theorem dX12_river_8 : decode cX12_river 8 = .ok (.ldc2_w 68, 3) := by decide +kernel
theorem dX12_river_11 : decode cX12_river 11 = .ok (.invokestatic 70, 3) := by decide +kernel
theorem dX12_river_14 : decode cX12_river 14 = .ok (.ifCond .eq 15, 3) := by decide +kernel
theorem dX12_river_17 : decode cX12_river 17 = .ok (.iload_n 2, 1) := by decide +kernel
theorem dX12_river_18 : decode cX12_river 18 = .ok (.i2l, 1) := by decide +kernel
theorem dX12_river_19 : decode cX12_river 19 = .ok (.lconst 0, 1) := by decide +kernel
theorem dX12_river_20 : decode cX12_river 20 = .ok (.ldc2_w 95, 3) := by decide +kernel
theorem dX12_river_23 : decode cX12_river 23 = .ok (.invokestatic 70, 3) := by decide +kernel
theorem dX12_river_26 : decode cX12_river 26 = .ok (.ifCond .ne 6, 3) := by decide +kernel
theorem dX12_river_29 : decode cX12_river 29 = .ok (.ldc 80, 2) := by decide +kernel
theorem dX12_river_31 : decode cX12_river 31 = .ok (.ireturn, 1) := by decide +kernel
theorem dX12_river_32 : decode cX12_river 32 = .ok (.aload_n 0, 1) := by decide +kernel
theorem dX12_river_33 : decode cX12_river 33 = .ok (.getfield 13, 3) := by decide +kernel
theorem dX12_river_36 : decode cX12_river 36 = .ok (.iload_n 1, 1) := by decide +kernel
theorem dX12_river_37 : decode cX12_river 37 = .ok (.iaload, 1) := by decide +kernel
theorem dX12_river_38 : decode cX12_river 38 = .ok (.istore_n 3, 1) := by decide +kernel
theorem dX12_river_39 : decode cX12_river 39 = .ok (.aload_n 0, 1) := by decide +kernel
theorem dX12_river_40 : decode cX12_river 40 = .ok (.getfield 13, 3) := by decide +kernel
theorem dX12_river_43 : decode cX12_river 43 = .ok (.iload_n 1, 1) := by decide +kernel
theorem dX12_river_44 : decode cX12_river 44 = .ok (.iload_n 2, 1) := by decide +kernel
theorem dX12_river_45 : decode cX12_river 45 = .ok (.iastore, 1) := by decide +kernel
theorem dX12_river_46 : decode cX12_river 46 = .ok (.iload_n 3, 1) := by decide +kernel
theorem dX12_river_47 : decode cX12_river 47 = .ok (.ireturn, 1) := by decide +kernel
set_option maxRecDepth 20000 in
theorem ggX12_rule_X12_in : GoodIn wsX12_rule wsX12_in := goodIn_r _ [10] (by decide +kernel) (by decide +kernel)
set_option maxRecDepth 20000 in
theorem gX12_rule_X12_in : GoodIn wsX12_rule (va_wsS RX12 70 yX12_in wsX12_in) := goodIn_app (goodIn_of _ (by decide +kernel)) ggX12_rule_X12_in
theorem dX12_rule_0 : decode cX12_rule 0 = .ok (.aload_n 0, 1) := by decide +kernel
theorem dX12_rule_1 : decode cX12_rule 1 = .ok (.iconst 0, 1) := by decide +kernel
theorem dX12_rule_2 : decode cX12_rule 2 = .ok (.putfield 60, 3) := by decide +kernel
theorem dX12_rule_5 : decode cX12_rule 5 = .ok (.iload_n 1, 1) := by decide +kernel
theorem dX12_rule_6 : decode cX12_rule 6 = .ok (.i2l, 1) := by decide +kernel
theorem dX12_rule_7 : decode cX12_rule 7 = .ok (.lconst 0, 1) := by decide +kernel
theorem dX12_rule_8 : decode cX12_rule 8 = .ok (.ldc2_w 68, 3) := by decide +kernel
theorem dX12_rule_11 : decode cX12_rule 11 = .ok (.invokestatic 70, 3) := by decide +kernel
theorem dX12_rule_14 : decode cX12_rule 14 = .ok (.ifCond .eq 35, 3) := by decide +kernel
theorem dX12_rule_17 : decode cX12_rule 17 = .ok (.iload_n 1, 1) := by decide +kernel
theorem dX12_rule_18 : decode cX12_rule 18 = .ok (.iconst 2, 1) := by decide +kernel
theorem dX12_rule_19 : decode cX12_rule 19 = .ok (.if_icmp .ge 18, 3) := by decide +kernel
theorem dX12_rule_22 : decode cX12_rule 22 = .ok (.iload_n 2, 1) := by decide +kernel
theorem dX12_rule_23 : decode cX12_rule 23 = .ok (.i2l, 1) := by decide +kernel
theorem dX12_rule_24 : decode cX12_rule 24 = .ok (.lconst 1, 1) := by decide +kernel
theorem dX12_rule_25 : decode cX12_rule 25 = .ok (.ldc2_w 97, 3) := by decide +kernel
theorem dX12_rule_28 : decode cX12_rule 28 = .ok (.invokestatic 70, 3) := by decide +kernel
theorem dX12_rule_31 : decode cX12_rule 31 = .ok (.ifCond .ne 21, 3) := by decide +kernel
theorem dX12_rule_34 : decode cX12_rule 34 = .ok (.goto 15, 3) := by decide +kernel
theorem dX12_rule_37 : decode cX12_rule 37 = .ok (.iload_n 2, 1) := by decide +kernel
theorem dX12_rule_38 : decode cX12_rule 38 = .ok (.i2l, 1) := by decide +kernel
theorem dX12_rule_39 : decode cX12_rule 39 = .ok (.lconst 0, 1) := by decide +kernel
theorem dX12_rule_40 : decode cX12_rule 40 = .ok (.ldc2_w 93, 3) := by decide +kernel
theorem dX12_rule_43 : decode cX12_rule 43 = .ok (.invokestatic 70, 3) := by decide +kernel
theorem dX12_rule_46 : decode cX12_rule 46 = .ok (.ifCond .ne 6, 3) := by decide +kernel
theorem dX12_rule_49 : decode cX12_rule 49 = .ok (.ldc 80, 2) := by decide +kernel
theorem dX12_rule_51 : decode cX12_rule 51 = .ok (.ireturn, 1) := by decide +kernel
theorem dX12_rule_52 : decode cX12_rule 52 = .ok (.aload_n 0, 1) := by decide +kernel
theorem dX12_rule_53 : decode cX12_rule 53 = .ok (.getfield 7, 3) := by decide +kernel
theorem dX12_rule_56 : decode cX12_rule 56 = .ok (.iload_n 1, 1) := by decide +kernel
theorem dX12_rule_57 : decode cX12_rule 57 = .ok (.iaload, 1) := by decide +kernel
theorem dX12_rule_58 : decode cX12_rule 58 = .ok (.istore_n 3, 1) := by decide +kernel
theorem dX12_rule_59 : decode cX12_rule 59 = .ok (.aload_n 0, 1) := by decide +kernel
theorem dX12_rule_60 : decode cX12_rule 60 = .ok (.getfield 7, 3) := by decide +kernel
theorem dX12_rule_63 : decode cX12_rule 63 = .ok (.iload_n 1, 1) := by decide +kernel
theorem dX12_rule_64 : decode cX12_rule 64 = .ok (.iload_n 2, 1) := by decide +kernel
theorem dX12_rule_65 : decode cX12_rule 65 = .ok (.iastore, 1) := by decide +kernel
theorem dX12_rule_66 : decode cX12_rule 66 = .ok (.iload_n 3, 1) := by decide +kernel
theorem dX12_rule_67 : decode cX12_rule 67 = .ok (.ireturn, 1) := by decide +kernel
theorem dX12_groupOf_0 : decode cX12_groupOf 0 = .ok (.iconst 0, 1) := by decide +kernel
theorem dX12_groupOf_1 : decode cX12_groupOf 1 = .ok (.istore_n 3, 1) := by decide +kernel
theorem dX12_groupOf_2 : decode cX12_groupOf 2 = .ok (.iload_n 3, 1) := by decide +kernel
theorem dX12_groupOf_3 : decode cX12_groupOf 3 = .ok (.iload_n 1, 1) := by decide +kernel
theorem dX12_groupOf_4 : decode cX12_groupOf 4 = .ok (.if_icmp .ge 73, 3) := by decide +kernel
theorem dX12_groupOf_7 : decode cX12_groupOf 7 = .ok (.iconst 1, 1) := by decide +kernel
theorem dX12_groupOf_8 : decode cX12_groupOf 8 = .ok (.istore 4, 2) := by decide +kernel
theorem dX12_groupOf_10 : decode cX12_groupOf 10 = .ok (.iconst 0, 1) := by decide +kernel
theorem dX12_groupOf_11 : decode cX12_groupOf 11 = .ok (.istore 5, 2) := by decide +kernel
theorem dX12_groupOf_13 : decode cX12_groupOf 13 = .ok (.iload 5, 2) := by decide +kernel
theorem dX12_groupOf_15 : decode cX12_groupOf 15 = .ok (.iload_n 2, 1) := by decide +kernel
theorem dX12_groupOf_16 : decode cX12_groupOf 16 = .ok (.if_icmp .gt 48, 3) := by decide +kernel
theorem dX12_groupOf_19 : decode cX12_groupOf 19 = .ok (.iload 4, 2) := by decide +kernel
theorem dX12_groupOf_21 : decode cX12_groupOf 21 = .ok (.ifCond .eq 34, 3) := by decide +kernel
theorem dX12_groupOf_24 : decode cX12_groupOf 24 = .ok (.aload_n 0, 1) := by decide +kernel
theorem dX12_groupOf_25 : decode cX12_groupOf 25 = .ok (.getfield 28, 3) := by decide +kernel
theorem dX12_groupOf_28 : decode cX12_groupOf 28 = .ok (.bipush 8, 2) := by decide +kernel
theorem dX12_groupOf_30 : decode cX12_groupOf 30 = .ok (.iload_n 3, 1) := by decide +kernel
theorem dX12_groupOf_31 : decode cX12_groupOf 31 = .ok (.imul, 1) := by decide +kernel
theorem dX12_groupOf_32 : decode cX12_groupOf 32 = .ok (.iload 5, 2) := by decide +kernel
theorem dX12_groupOf_34 : decode cX12_groupOf 34 = .ok (.iadd, 1) := by decide +kernel
theorem dX12_groupOf_35 : decode cX12_groupOf 35 = .ok (.iaload, 1) := by decide +kernel
theorem dX12_groupOf_36 : decode cX12_groupOf 36 = .ok (.aload_n 0, 1) := by decide +kernel
theorem dX12_groupOf_37 : decode cX12_groupOf 37 = .ok (.getfield 28, 3) := by decide +kernel
theorem dX12_groupOf_40 : decode cX12_groupOf 40 = .ok (.bipush 8, 2) := by decide +kernel
theorem dX12_groupOf_42 : decode cX12_groupOf 42 = .ok (.iload_n 1, 1) := by decide +kernel
theorem dX12_groupOf_43 : decode cX12_groupOf 43 = .ok (.imul, 1) := by decide +kernel
theorem dX12_groupOf_44 : decode cX12_groupOf 44 = .ok (.iload 5, 2) := by decide +kernel
theorem dX12_groupOf_46 : decode cX12_groupOf 46 = .ok (.iadd, 1) := by decide +kernel
theorem dX12_groupOf_47 : decode cX12_groupOf 47 = .ok (.iaload, 1) := by decide +kernel
theorem dX12_groupOf_48 : decode cX12_groupOf 48 = .ok (.if_icmp .ne 7, 3) := by decide +kernel
theorem dX12_groupOf_51 : decode cX12_groupOf 51 = .ok (.iconst 1, 1) := by decide +kernel
theorem dX12_groupOf_52 : decode cX12_groupOf 52 = .ok (.goto 4, 3) := by decide +kernel
theorem dX12_groupOf_55 : decode cX12_groupOf 55 = .ok (.iconst 0, 1) := by decide +kernel
theorem dX12_groupOf_56 : decode cX12_groupOf 56 = .ok (.istore 4, 2) := by decide +kernel
theorem dX12_groupOf_58 : decode cX12_groupOf 58 = .ok (.iinc 5 1, 3) := by decide +kernel
theorem dX12_groupOf_61 : decode cX12_groupOf 61 = .ok (.goto (-48), 3) := by decide +kernel
theorem dX12_groupOf_64 : decode cX12_groupOf 64 = .ok (.iload 4, 2) := by decide +kernel
theorem dX12_groupOf_66 : decode cX12_groupOf 66 = .ok (.ifCond .eq 5, 3) := by decide +kernel
theorem dX12_groupOf_69 : decode cX12_groupOf 69 = .ok (.iload_n 3, 1) := by decide +kernel
theorem dX12_groupOf_70 : decode cX12_groupOf 70 = .ok (.ireturn, 1) := by decide +kernel
theorem dX12_groupOf_71 : decode cX12_groupOf 71 = .ok (.iinc 3 1, 3) := by decide +kernel
theorem dX12_groupOf_74 : decode cX12_groupOf 74 = .ok (.goto (-72), 3) := by decide +kernel
theorem dX12_groupOf_77 : decode cX12_groupOf 77 = .ok (.iload_n 1, 1) := by decide +kernel
theorem dX12_groupOf_78 : decode cX12_groupOf 78 = .ok (.ireturn, 1) := by decide +kernel
theorem dX12_stateIn_0 : decode cX12_stateIn 0 = .ok (.iload_n 0, 1) := by decide +kernel
theorem dX12_stateIn_1 : decode cX12_stateIn 1 = .ok (.ifCond .ne 13, 3) := by decide +kernel
theorem dX12_stateIn_4 : decode cX12_stateIn 4 = .ok (.iload_n 1, 1) := by decide +kernel
theorem dX12_stateIn_5 : decode cX12_stateIn 5 = .ok (.ifCond .eq 7, 3) := by decide +kernel
theorem dX12_stateIn_8 : decode cX12_stateIn 8 = .ok (.iconst 1, 1) := by decide +kernel
theorem dX12_stateIn_9 : decode cX12_stateIn 9 = .ok (.goto 4, 3) := by decide +kernel
theorem dX12_stateIn_12 : decode cX12_stateIn 12 = .ok (.iconst 0, 1) := by decide +kernel
theorem dX12_stateIn_13 : decode cX12_stateIn 13 = .ok (.ireturn, 1) := by decide +kernel
theorem dX12_stateIn_14 : decode cX12_stateIn 14 = .ok (.iload_n 0, 1) := by decide +kernel
theorem dX12_stateIn_15 : decode cX12_stateIn 15 = .ok (.iconst 3, 1) := by decide +kernel
theorem dX12_stateIn_16 : decode cX12_stateIn 16 = .ok (.if_icmp .ge 7, 3) := by decide +kernel
theorem dX12_stateIn_19 : decode cX12_stateIn 19 = .ok (.iconst 1, 1) := by decide +kernel
theorem dX12_stateIn_20 : decode cX12_stateIn 20 = .ok (.goto 22, 3) := by decide +kernel
theorem dX12_stateIn_23 : decode cX12_stateIn 23 = .ok (.iload_n 0, 1) := by decide +kernel
theorem dX12_stateIn_24 : decode cX12_stateIn 24 = .ok (.bipush 6, 2) := by decide +kernel
theorem dX12_stateIn_26 : decode cX12_stateIn 26 = .ok (.if_icmp .ge 7, 3) := by decide +kernel
theorem dX12_stateIn_29 : decode cX12_stateIn 29 = .ok (.iconst 3, 1) := by decide +kernel
theorem dX12_stateIn_30 : decode cX12_stateIn 30 = .ok (.goto 12, 3) := by decide +kernel
theorem dX12_stateIn_33 : decode cX12_stateIn 33 = .ok (.iload_n 1, 1) := by decide +kernel
theorem dX12_stateIn_34 : decode cX12_stateIn 34 = .ok (.ifCond .eq 7, 3) := by decide +kernel
theorem dX12_stateIn_37 : decode cX12_stateIn 37 = .ok (.iconst 3, 1) := by decide +kernel
theorem dX12_stateIn_38 : decode cX12_stateIn 38 = .ok (.goto 4, 3) := by decide +kernel
theorem dX12_stateIn_41 : decode cX12_stateIn 41 = .ok (.iconst 2, 1) := by decide +kernel
theorem dX12_stateIn_42 : decode cX12_stateIn 42 = .ok (.ireturn, 1) := by decide +kernel
theorem dX12_after_0 : decode cX12_after 0 = .ok (.iload_n 1, 1) := by decide +kernel
theorem dX12_after_1 : decode cX12_after 1 = .ok (.ifCond .ne 41, 3) := by decide +kernel
theorem dX12_after_4 : decode cX12_after 4 = .ok (.iload_n 2, 1) := by decide +kernel
theorem dX12_after_5 : decode cX12_after 5 = .ok (.ifCond .ne 7, 3) := by decide +kernel
theorem dX12_after_8 : decode cX12_after 8 = .ok (.iconst 0, 1) := by decide +kernel
theorem dX12_after_9 : decode cX12_after 9 = .ok (.goto 32, 3) := by decide +kernel
theorem dX12_after_12 : decode cX12_after 12 = .ok (.aload_n 0, 1) := by decide +kernel
theorem dX12_after_13 : decode cX12_after 13 = .ok (.getfield 7, 3) := by decide +kernel
theorem dX12_after_16 : decode cX12_after 16 = .ok (.iconst 0, 1) := by decide +kernel
theorem dX12_after_17 : decode cX12_after 17 = .ok (.iaload, 1) := by decide +kernel
theorem dX12_after_18 : decode cX12_after 18 = .ok (.iconst 1, 1) := by decide +kernel
theorem dX12_after_19 : decode cX12_after 19 = .ok (.if_icmp .ne 12, 3) := by decide +kernel
theorem dX12_after_22 : decode cX12_after 22 = .ok (.bipush 8, 2) := by decide +kernel
theorem dX12_after_24 : decode cX12_after 24 = .ok (.iload_n 3, 1) := by decide +kernel
theorem dX12_after_25 : decode cX12_after 25 = .ok (.iadd, 1) := by decide +kernel
theorem dX12_after_26 : decode cX12_after 26 = .ok (.iconst 1, 1) := by decide +kernel
theorem dX12_after_27 : decode cX12_after 27 = .ok (.iadd, 1) := by decide +kernel
theorem dX12_after_28 : decode cX12_after 28 = .ok (.goto 13, 3) := by decide +kernel
theorem dX12_after_31 : decode cX12_after 31 = .ok (.iconst 0, 1) := by decide +kernel
theorem dX12_after_32 : decode cX12_after 32 = .ok (.aload_n 0, 1) := by decide +kernel
theorem dX12_after_33 : decode cX12_after 33 = .ok (.getfield 7, 3) := by decide +kernel
theorem dX12_after_36 : decode cX12_after 36 = .ok (.iconst 0, 1) := by decide +kernel
theorem dX12_after_37 : decode cX12_after 37 = .ok (.iaload, 1) := by decide +kernel
theorem dX12_after_38 : decode cX12_after 38 = .ok (.iadd, 1) := by decide +kernel
theorem dX12_after_39 : decode cX12_after 39 = .ok (.iconst 1, 1) := by decide +kernel
theorem dX12_after_40 : decode cX12_after 40 = .ok (.isub, 1) := by decide +kernel
theorem dX12_after_41 : decode cX12_after 41 = .ok (.ireturn, 1) := by decide +kernel
theorem dX12_after_42 : decode cX12_after 42 = .ok (.iload_n 1, 1) := by decide +kernel
theorem dX12_after_43 : decode cX12_after 43 = .ok (.iconst 3, 1) := by decide +kernel
theorem dX12_after_44 : decode cX12_after 44 = .ok (.if_icmp .ge 21, 3) := by decide +kernel
theorem dX12_after_47 : decode cX12_after 47 = .ok (.iload_n 1, 1) := by decide +kernel
theorem dX12_after_48 : decode cX12_after 48 = .ok (.iconst 1, 1) := by decide +kernel
theorem dX12_after_49 : decode cX12_after 49 = .ok (.if_icmp .ne 12, 3) := by decide +kernel
theorem dX12_after_52 : decode cX12_after 52 = .ok (.bipush 8, 2) := by decide +kernel
theorem dX12_after_54 : decode cX12_after 54 = .ok (.iload_n 3, 1) := by decide +kernel
theorem dX12_after_55 : decode cX12_after 55 = .ok (.iadd, 1) := by decide +kernel
theorem dX12_after_56 : decode cX12_after 56 = .ok (.iconst 1, 1) := by decide +kernel
theorem dX12_after_57 : decode cX12_after 57 = .ok (.iadd, 1) := by decide +kernel
theorem dX12_after_58 : decode cX12_after 58 = .ok (.goto 6, 3) := by decide +kernel
theorem dX12_after_61 : decode cX12_after 61 = .ok (.iload_n 1, 1) := by decide +kernel
theorem dX12_after_62 : decode cX12_after 62 = .ok (.iconst 1, 1) := by decide +kernel
theorem dX12_after_63 : decode cX12_after 63 = .ok (.isub, 1) := by decide +kernel
theorem dX12_after_64 : decode cX12_after 64 = .ok (.ireturn, 1) := by decide +kernel
theorem dX12_after_65 : decode cX12_after 65 = .ok (.iload_n 1, 1) := by decide +kernel
theorem dX12_after_66 : decode cX12_after 66 = .ok (.bipush 6, 2) := by decide +kernel
theorem dX12_after_68 : decode cX12_after 68 = .ok (.if_icmp .ge 16, 3) := by decide +kernel
theorem dX12_after_71 : decode cX12_after 71 = .ok (.iload_n 1, 1) := by decide +kernel
theorem dX12_after_72 : decode cX12_after 72 = .ok (.iconst 4, 1) := by decide +kernel
theorem dX12_after_73 : decode cX12_after 73 = .ok (.if_icmp .ne 7, 3) := by decide +kernel
theorem dX12_after_76 : decode cX12_after 76 = .ok (.iconst 0, 1) := by decide +kernel
theorem dX12_after_77 : decode cX12_after 77 = .ok (.goto 6, 3) := by decide +kernel
theorem dX12_after_80 : decode cX12_after 80 = .ok (.iload_n 1, 1) := by decide +kernel
theorem dX12_after_81 : decode cX12_after 81 = .ok (.iconst 1, 1) := by decide +kernel
theorem dX12_after_82 : decode cX12_after 82 = .ok (.isub, 1) := by decide +kernel
theorem dX12_after_83 : decode cX12_after 83 = .ok (.ireturn, 1) := by decide +kernel
theorem dX12_after_84 : decode cX12_after 84 = .ok (.iload_n 2, 1) := by decide +kernel
theorem dX12_after_85 : decode cX12_after 85 = .ok (.ifCond .ne 7, 3) := by decide +kernel
theorem dX12_after_88 : decode cX12_after 88 = .ok (.iload_n 1, 1) := by decide +kernel
theorem dX12_after_89 : decode cX12_after 89 = .ok (.goto 27, 3) := by decide +kernel
theorem dX12_after_92 : decode cX12_after 92 = .ok (.aload_n 0, 1) := by decide +kernel
theorem dX12_after_93 : decode cX12_after 93 = .ok (.getfield 7, 3) := by decide +kernel
theorem dX12_after_96 : decode cX12_after 96 = .ok (.iconst 1, 1) := by decide +kernel
theorem dX12_after_97 : decode cX12_after 97 = .ok (.iaload, 1) := by decide +kernel
theorem dX12_after_98 : decode cX12_after 98 = .ok (.iconst 1, 1) := by decide +kernel
theorem dX12_after_99 : decode cX12_after 99 = .ok (.if_icmp .ne 7, 3) := by decide +kernel
theorem dX12_after_102 : decode cX12_after 102 = .ok (.iconst 0, 1) := by decide +kernel
theorem dX12_after_103 : decode cX12_after 103 = .ok (.goto 13, 3) := by decide +kernel
theorem dX12_after_106 : decode cX12_after 106 = .ok (.iconst 3, 1) := by decide +kernel
theorem dX12_after_107 : decode cX12_after 107 = .ok (.aload_n 0, 1) := by decide +kernel
theorem dX12_after_108 : decode cX12_after 108 = .ok (.getfield 7, 3) := by decide +kernel
theorem dX12_after_111 : decode cX12_after 111 = .ok (.iconst 1, 1) := by decide +kernel
theorem dX12_after_112 : decode cX12_after 112 = .ok (.iaload, 1) := by decide +kernel
theorem dX12_after_113 : decode cX12_after 113 = .ok (.iadd, 1) := by decide +kernel
theorem dX12_after_114 : decode cX12_after 114 = .ok (.iconst 1, 1) := by decide +kernel
theorem dX12_after_115 : decode cX12_after 115 = .ok (.isub, 1) := by decide +kernel
theorem dX12_after_116 : decode cX12_after 116 = .ok (.ireturn, 1) := by decide +kernel
set_option maxRecDepth 20000 in
theorem ggX12_waterIn_X12_stateIn : GoodIn wsX12_waterIn wsX12_stateIn := goodIn_r _ [6] (by decide +kernel) (by decide +kernel)
set_option maxRecDepth 20000 in
theorem gX12_waterIn_X12_stateIn : GoodIn wsX12_waterIn (va_wsS RX12 99 yX12_stateIn wsX12_stateIn) := goodIn_app (goodIn_of _ (by decide +kernel)) ggX12_waterIn_X12_stateIn
theorem dX12_waterIn_0 : decode cX12_waterIn 0 = .ok (.iload_n 2, 1) := by decide +kernel
theorem dX12_waterIn_1 : decode cX12_waterIn 1 = .ok (.iload_n 3, 1) := by decide +kernel
theorem dX12_waterIn_2 : decode cX12_waterIn 2 = .ok (.invokestatic 99, 3) := by decide +kernel
theorem dX12_waterIn_5 : decode cX12_waterIn 5 = .ok (.iconst 2, 1) := by decide +kernel
theorem dX12_waterIn_6 : decode cX12_waterIn 6 = .ok (.if_icmp .eq 16, 3) := by decide +kernel
theorem dX12_waterIn_9 : decode cX12_waterIn 9 = .ok (.aload_n 0, 1) := by decide +kernel
theorem dX12_waterIn_10 : decode cX12_waterIn 10 = .ok (.getfield 28, 3) := by decide +kernel
theorem dX12_waterIn_13 : decode cX12_waterIn 13 = .ok (.bipush 8, 2) := by decide +kernel
theorem dX12_waterIn_15 : decode cX12_waterIn 15 = .ok (.iload_n 1, 1) := by decide +kernel
theorem dX12_waterIn_16 : decode cX12_waterIn 16 = .ok (.imul, 1) := by decide +kernel
theorem dX12_waterIn_17 : decode cX12_waterIn 17 = .ok (.iload 4, 2) := by decide +kernel
theorem dX12_waterIn_19 : decode cX12_waterIn 19 = .ok (.iadd, 1) := by decide +kernel
theorem dX12_waterIn_20 : decode cX12_waterIn 20 = .ok (.iaload, 1) := by decide +kernel
theorem dX12_waterIn_21 : decode cX12_waterIn 21 = .ok (.ireturn, 1) := by decide +kernel
theorem dX12_waterIn_22 : decode cX12_waterIn 22 = .ok (.iload_n 2, 1) := by decide +kernel
theorem dX12_waterIn_23 : decode cX12_waterIn 23 = .ok (.bipush 8, 2) := by decide +kernel
theorem dX12_waterIn_25 : decode cX12_waterIn 25 = .ok (.isub, 1) := by decide +kernel
theorem dX12_waterIn_26 : decode cX12_waterIn 26 = .ok (.istore 5, 2) := by decide +kernel
theorem dX12_waterIn_28 : decode cX12_waterIn 28 = .ok (.aload_n 0, 1) := by decide +kernel
theorem dX12_waterIn_29 : decode cX12_waterIn 29 = .ok (.getfield 28, 3) := by decide +kernel
theorem dX12_waterIn_32 : decode cX12_waterIn 32 = .ok (.bipush 8, 2) := by decide +kernel
theorem dX12_waterIn_34 : decode cX12_waterIn 34 = .ok (.iload_n 1, 1) := by decide +kernel
theorem dX12_waterIn_35 : decode cX12_waterIn 35 = .ok (.imul, 1) := by decide +kernel
theorem dX12_waterIn_36 : decode cX12_waterIn 36 = .ok (.iload 5, 2) := by decide +kernel
theorem dX12_waterIn_38 : decode cX12_waterIn 38 = .ok (.iadd, 1) := by decide +kernel
theorem dX12_waterIn_39 : decode cX12_waterIn 39 = .ok (.iconst 1, 1) := by decide +kernel
theorem dX12_waterIn_40 : decode cX12_waterIn 40 = .ok (.isub, 1) := by decide +kernel
theorem dX12_waterIn_41 : decode cX12_waterIn 41 = .ok (.iaload, 1) := by decide +kernel
theorem dX12_waterIn_42 : decode cX12_waterIn 42 = .ok (.istore 6, 2) := by decide +kernel
theorem dX12_waterIn_44 : decode cX12_waterIn 44 = .ok (.iload 5, 2) := by decide +kernel
theorem dX12_waterIn_46 : decode cX12_waterIn 46 = .ok (.istore 7, 2) := by decide +kernel
theorem dX12_waterIn_48 : decode cX12_waterIn 48 = .ok (.iload 7, 2) := by decide +kernel
theorem dX12_waterIn_50 : decode cX12_waterIn 50 = .ok (.iload 4, 2) := by decide +kernel
theorem dX12_waterIn_52 : decode cX12_waterIn 52 = .ok (.if_icmp .gt 21, 3) := by decide +kernel
theorem dX12_waterIn_55 : decode cX12_waterIn 55 = .ok (.iload 6, 2) := by decide +kernel
theorem dX12_waterIn_57 : decode cX12_waterIn 57 = .ok (.aload_n 0, 1) := by decide +kernel
theorem dX12_waterIn_58 : decode cX12_waterIn 58 = .ok (.getfield 13, 3) := by decide +kernel
theorem dX12_waterIn_61 : decode cX12_waterIn 61 = .ok (.iload 7, 2) := by decide +kernel
theorem dX12_waterIn_63 : decode cX12_waterIn 63 = .ok (.iaload, 1) := by decide +kernel
theorem dX12_waterIn_64 : decode cX12_waterIn 64 = .ok (.iadd, 1) := by decide +kernel
theorem dX12_waterIn_65 : decode cX12_waterIn 65 = .ok (.istore 6, 2) := by decide +kernel
theorem dX12_waterIn_67 : decode cX12_waterIn 67 = .ok (.iinc 7 1, 3) := by decide +kernel
theorem dX12_waterIn_70 : decode cX12_waterIn 70 = .ok (.goto (-22), 3) := by decide +kernel
theorem dX12_waterIn_73 : decode cX12_waterIn 73 = .ok (.iload 6, 2) := by decide +kernel
theorem dX12_waterIn_75 : decode cX12_waterIn 75 = .ok (.ireturn, 1) := by decide +kernel
set_option maxRecDepth 20000 in
theorem ggX12_lostIn_X12_stateIn : GoodIn wsX12_lostIn wsX12_stateIn := goodIn_r _ [6] (by decide +kernel) (by decide +kernel)
set_option maxRecDepth 20000 in
theorem gX12_lostIn_X12_stateIn : GoodIn wsX12_lostIn (va_wsS RX12 99 yX12_stateIn wsX12_stateIn) := goodIn_app (goodIn_of _ (by decide +kernel)) ggX12_lostIn_X12_stateIn
set_option maxRecDepth 20000 in
theorem ggX12_lostIn_X12_waterIn : GoodIn wsX12_lostIn wsX12_waterIn := goodIn_r _ [10, 2, 11, 3, 4, 5, 6, 12, 13, 14, 15, 16, 17, 18, 19, 20, 21, 22, 23, 24, 25, 26, 27, 28, 29, 30, 31, 32, 33] (by decide +kernel) (by decide +kernel)
set_option maxRecDepth 20000 in
theorem gX12_lostIn_X12_waterIn : GoodIn wsX12_lostIn (wsV RX12 103 RX12 yX12_waterIn wsX12_waterIn) := goodIn_app (goodIn_of _ (by decide +kernel)) ggX12_lostIn_X12_waterIn
theorem dX12_lostIn_0 : decode cX12_lostIn 0 = .ok (.iload_n 2, 1) := by decide +kernel
theorem dX12_lostIn_1 : decode cX12_lostIn 1 = .ok (.ifCond .ne 16, 3) := by decide +kernel
theorem dX12_lostIn_4 : decode cX12_lostIn 4 = .ok (.iload_n 3, 1) := by decide +kernel
theorem dX12_lostIn_5 : decode cX12_lostIn 5 = .ok (.ifCond .eq 12, 3) := by decide +kernel
theorem dX12_lostIn_8 : decode cX12_lostIn 8 = .ok (.aload_n 0, 1) := by decide +kernel
theorem dX12_lostIn_9 : decode cX12_lostIn 9 = .ok (.getfield 7, 3) := by decide +kernel
theorem dX12_lostIn_12 : decode cX12_lostIn 12 = .ok (.iconst 4, 1) := by decide +kernel
theorem dX12_lostIn_13 : decode cX12_lostIn 13 = .ok (.iaload, 1) := by decide +kernel
theorem dX12_lostIn_14 : decode cX12_lostIn 14 = .ok (.goto 4, 3) := by decide +kernel
theorem dX12_lostIn_17 : decode cX12_lostIn 17 = .ok (.iconst 0, 1) := by decide +kernel
theorem dX12_lostIn_18 : decode cX12_lostIn 18 = .ok (.istore 5, 2) := by decide +kernel
theorem dX12_lostIn_20 : decode cX12_lostIn 20 = .ok (.iload_n 2, 1) := by decide +kernel
theorem dX12_lostIn_21 : decode cX12_lostIn 21 = .ok (.iload_n 3, 1) := by decide +kernel
theorem dX12_lostIn_22 : decode cX12_lostIn 22 = .ok (.invokestatic 99, 3) := by decide +kernel
theorem dX12_lostIn_25 : decode cX12_lostIn 25 = .ok (.iconst 2, 1) := by decide +kernel
theorem dX12_lostIn_26 : decode cX12_lostIn 26 = .ok (.if_icmp .ne 57, 3) := by decide +kernel
theorem dX12_lostIn_29 : decode cX12_lostIn 29 = .ok (.aload_n 0, 1) := by decide +kernel
theorem dX12_lostIn_30 : decode cX12_lostIn 30 = .ok (.iload_n 1, 1) := by decide +kernel
theorem dX12_lostIn_31 : decode cX12_lostIn 31 = .ok (.iload_n 2, 1) := by decide +kernel
theorem dX12_lostIn_32 : decode cX12_lostIn 32 = .ok (.iload_n 3, 1) := by decide +kernel
theorem dX12_lostIn_33 : decode cX12_lostIn 33 = .ok (.iload 4, 2) := by decide +kernel
theorem dX12_lostIn_35 : decode cX12_lostIn 35 = .ok (.invokevirtual 103, 3) := by decide +kernel
theorem dX12_lostIn_38 : decode cX12_lostIn 38 = .ok (.istore 6, 2) := by decide +kernel
theorem dX12_lostIn_40 : decode cX12_lostIn 40 = .ok (.iload 5, 2) := by decide +kernel
theorem dX12_lostIn_42 : decode cX12_lostIn 42 = .ok (.aload_n 0, 1) := by decide +kernel
theorem dX12_lostIn_43 : decode cX12_lostIn 43 = .ok (.getfield 7, 3) := by decide +kernel
theorem dX12_lostIn_46 : decode cX12_lostIn 46 = .ok (.iconst 5, 1) := by decide +kernel
theorem dX12_lostIn_47 : decode cX12_lostIn 47 = .ok (.iaload, 1) := by decide +kernel
theorem dX12_lostIn_48 : decode cX12_lostIn 48 = .ok (.iadd, 1) := by decide +kernel
theorem dX12_lostIn_49 : decode cX12_lostIn 49 = .ok (.iload 6, 2) := by decide +kernel
theorem dX12_lostIn_51 : decode cX12_lostIn 51 = .ok (.aload_n 0, 1) := by decide +kernel
theorem dX12_lostIn_52 : decode cX12_lostIn 52 = .ok (.getfield 7, 3) := by decide +kernel
theorem dX12_lostIn_55 : decode cX12_lostIn 55 = .ok (.iconst 3, 1) := by decide +kernel
theorem dX12_lostIn_56 : decode cX12_lostIn 56 = .ok (.iaload, 1) := by decide +kernel
theorem dX12_lostIn_57 : decode cX12_lostIn 57 = .ok (.if_icmp .le 23, 3) := by decide +kernel
theorem dX12_lostIn_60 : decode cX12_lostIn 60 = .ok (.aload_n 0, 1) := by decide +kernel
theorem dX12_lostIn_61 : decode cX12_lostIn 61 = .ok (.getfield 7, 3) := by decide +kernel
theorem dX12_lostIn_64 : decode cX12_lostIn 64 = .ok (.bipush 7, 2) := by decide +kernel
theorem dX12_lostIn_66 : decode cX12_lostIn 66 = .ok (.iaload, 1) := by decide +kernel
theorem dX12_lostIn_67 : decode cX12_lostIn 67 = .ok (.iload 6, 2) := by decide +kernel
theorem dX12_lostIn_69 : decode cX12_lostIn 69 = .ok (.aload_n 0, 1) := by decide +kernel
theorem dX12_lostIn_70 : decode cX12_lostIn 70 = .ok (.getfield 7, 3) := by decide +kernel
theorem dX12_lostIn_73 : decode cX12_lostIn 73 = .ok (.iconst 3, 1) := by decide +kernel
theorem dX12_lostIn_74 : decode cX12_lostIn 74 = .ok (.iaload, 1) := by decide +kernel
theorem dX12_lostIn_75 : decode cX12_lostIn 75 = .ok (.isub, 1) := by decide +kernel
theorem dX12_lostIn_76 : decode cX12_lostIn 76 = .ok (.imul, 1) := by decide +kernel
theorem dX12_lostIn_77 : decode cX12_lostIn 77 = .ok (.goto 4, 3) := by decide +kernel
theorem dX12_lostIn_80 : decode cX12_lostIn 80 = .ok (.iconst 0, 1) := by decide +kernel
theorem dX12_lostIn_81 : decode cX12_lostIn 81 = .ok (.iadd, 1) := by decide +kernel
theorem dX12_lostIn_82 : decode cX12_lostIn 82 = .ok (.ireturn, 1) := by decide +kernel
theorem dX12_lostIn_83 : decode cX12_lostIn 83 = .ok (.aload_n 0, 1) := by decide +kernel
theorem dX12_lostIn_84 : decode cX12_lostIn 84 = .ok (.getfield 28, 3) := by decide +kernel
theorem dX12_lostIn_87 : decode cX12_lostIn 87 = .ok (.bipush 8, 2) := by decide +kernel
theorem dX12_lostIn_89 : decode cX12_lostIn 89 = .ok (.iload_n 1, 1) := by decide +kernel
theorem dX12_lostIn_90 : decode cX12_lostIn 90 = .ok (.imul, 1) := by decide +kernel
theorem dX12_lostIn_91 : decode cX12_lostIn 91 = .ok (.iload 4, 2) := by decide +kernel
theorem dX12_lostIn_93 : decode cX12_lostIn 93 = .ok (.iadd, 1) := by decide +kernel
theorem dX12_lostIn_94 : decode cX12_lostIn 94 = .ok (.iaload, 1) := by decide +kernel
theorem dX12_lostIn_95 : decode cX12_lostIn 95 = .ok (.istore 6, 2) := by decide +kernel
theorem dX12_lostIn_97 : decode cX12_lostIn 97 = .ok (.iload 5, 2) := by decide +kernel
theorem dX12_lostIn_99 : decode cX12_lostIn 99 = .ok (.iload 6, 2) := by decide +kernel
theorem dX12_lostIn_101 : decode cX12_lostIn 101 = .ok (.aload_n 0, 1) := by decide +kernel
theorem dX12_lostIn_102 : decode cX12_lostIn 102 = .ok (.getfield 7, 3) := by decide +kernel
theorem dX12_lostIn_105 : decode cX12_lostIn 105 = .ok (.iconst 2, 1) := by decide +kernel
theorem dX12_lostIn_106 : decode cX12_lostIn 106 = .ok (.iaload, 1) := by decide +kernel
theorem dX12_lostIn_107 : decode cX12_lostIn 107 = .ok (.if_icmp .le 23, 3) := by decide +kernel
theorem dX12_lostIn_110 : decode cX12_lostIn 110 = .ok (.aload_n 0, 1) := by decide +kernel
theorem dX12_lostIn_111 : decode cX12_lostIn 111 = .ok (.getfield 7, 3) := by decide +kernel
theorem dX12_lostIn_114 : decode cX12_lostIn 114 = .ok (.bipush 6, 2) := by decide +kernel
theorem dX12_lostIn_116 : decode cX12_lostIn 116 = .ok (.iaload, 1) := by decide +kernel
theorem dX12_lostIn_117 : decode cX12_lostIn 117 = .ok (.iload 6, 2) := by decide +kernel
theorem dX12_lostIn_119 : decode cX12_lostIn 119 = .ok (.aload_n 0, 1) := by decide +kernel
theorem dX12_lostIn_120 : decode cX12_lostIn 120 = .ok (.getfield 7, 3) := by decide +kernel
theorem dX12_lostIn_123 : decode cX12_lostIn 123 = .ok (.iconst 2, 1) := by decide +kernel
theorem dX12_lostIn_124 : decode cX12_lostIn 124 = .ok (.iaload, 1) := by decide +kernel
theorem dX12_lostIn_125 : decode cX12_lostIn 125 = .ok (.isub, 1) := by decide +kernel
theorem dX12_lostIn_126 : decode cX12_lostIn 126 = .ok (.imul, 1) := by decide +kernel
theorem dX12_lostIn_127 : decode cX12_lostIn 127 = .ok (.goto 4, 3) := by decide +kernel
theorem dX12_lostIn_130 : decode cX12_lostIn 130 = .ok (.iconst 0, 1) := by decide +kernel
theorem dX12_lostIn_131 : decode cX12_lostIn 131 = .ok (.iadd, 1) := by decide +kernel
theorem dX12_lostIn_132 : decode cX12_lostIn 132 = .ok (.ireturn, 1) := by decide +kernel
set_option maxRecDepth 20000 in
theorem ggX12_lossBy_X12_after : GoodIn wsX12_lossBy wsX12_after := goodIn_r _ [8, 9, 27, 28, 29, 30, 31, 32, 33, 34, 35, 36, 37, 38, 39, 40, 41, 42, 43, 44, 45, 46, 47, 48] (by decide +kernel) (by decide +kernel)
set_option maxRecDepth 20000 in
theorem gX12_lossBy_X12_after : GoodIn wsX12_lossBy (wsV RX12 107 RX12 yX12_after wsX12_after) := goodIn_app (goodIn_of _ (by decide +kernel)) ggX12_lossBy_X12_after
set_option maxRecDepth 20000 in
theorem ggX12_lossBy_X12_groupOf : GoodIn wsX12_lossBy wsX12_groupOf := goodIn_r _ [13, 14, 27, 28, 29, 30, 31, 32, 33, 34, 35, 36, 37, 38, 39, 40, 41, 42, 43, 44, 45, 46, 47, 48] (by decide +kernel) (by decide +kernel)
set_option maxRecDepth 20000 in
theorem gX12_lossBy_X12_groupOf : GoodIn wsX12_lossBy (wsV RX12 111 RX12 yX12_groupOf wsX12_groupOf) := goodIn_app (goodIn_of _ (by decide +kernel)) ggX12_lossBy_X12_groupOf
set_option maxRecDepth 20000 in
theorem ggX12_lossBy_X12_lostIn : GoodIn wsX12_lossBy wsX12_lostIn := goodIn_r _ [18, 9, 14, 19, 20, 7, 21, 22, 23, 24, 25, 26, 27, 28, 29, 30, 31, 32, 33, 34, 35, 36, 37, 38, 39, 40, 41, 42, 43, 44, 45, 46, 47, 48] (by decide +kernel) (by decide +kernel)
set_option maxRecDepth 20000 in
theorem gX12_lossBy_X12_lostIn : GoodIn wsX12_lossBy (wsV RX12 115 RX12 yX12_lostIn wsX12_lostIn) := goodIn_app (goodIn_of _ (by decide +kernel)) ggX12_lossBy_X12_lostIn
theorem dX12_lossBy_0 : decode cX12_lossBy 0 = .ok (.lconst 0, 1) := by decide +kernel
theorem dX12_lossBy_1 : decode cX12_lossBy 1 = .ok (.lstore 5, 2) := by decide +kernel
theorem dX12_lossBy_3 : decode cX12_lossBy 3 = .ok (.aload_n 0, 1) := by decide +kernel
theorem dX12_lossBy_4 : decode cX12_lossBy 4 = .ok (.iload_n 2, 1) := by decide +kernel
theorem dX12_lossBy_5 : decode cX12_lossBy 5 = .ok (.iload_n 3, 1) := by decide +kernel
theorem dX12_lossBy_6 : decode cX12_lossBy 6 = .ok (.iload 4, 2) := by decide +kernel
theorem dX12_lossBy_8 : decode cX12_lossBy 8 = .ok (.invokevirtual 107, 3) := by decide +kernel
theorem dX12_lossBy_11 : decode cX12_lossBy 11 = .ok (.istore 7, 2) := by decide +kernel
theorem dX12_lossBy_13 : decode cX12_lossBy 13 = .ok (.iload_n 1, 1) := by decide +kernel
theorem dX12_lossBy_14 : decode cX12_lossBy 14 = .ok (.istore 8, 2) := by decide +kernel
theorem dX12_lossBy_16 : decode cX12_lossBy 16 = .ok (.iload 8, 2) := by decide +kernel
theorem dX12_lossBy_18 : decode cX12_lossBy 18 = .ok (.aload_n 0, 1) := by decide +kernel
theorem dX12_lossBy_19 : decode cX12_lossBy 19 = .ok (.getfield 87, 3) := by decide +kernel
theorem dX12_lossBy_22 : decode cX12_lossBy 22 = .ok (.if_icmp .ge 99, 3) := by decide +kernel
theorem dX12_lossBy_25 : decode cX12_lossBy 25 = .ok (.aload_n 0, 1) := by decide +kernel
theorem dX12_lossBy_26 : decode cX12_lossBy 26 = .ok (.iload 8, 2) := by decide +kernel
theorem dX12_lossBy_28 : decode cX12_lossBy 28 = .ok (.iload 4, 2) := by decide +kernel
theorem dX12_lossBy_30 : decode cX12_lossBy 30 = .ok (.invokevirtual 111, 3) := by decide +kernel
theorem dX12_lossBy_33 : decode cX12_lossBy 33 = .ok (.iload_n 1, 1) := by decide +kernel
theorem dX12_lossBy_34 : decode cX12_lossBy 34 = .ok (.if_icmp .ne 81, 3) := by decide +kernel
theorem dX12_lossBy_37 : decode cX12_lossBy 37 = .ok (.lload 5, 2) := by decide +kernel
theorem dX12_lossBy_39 : decode cX12_lossBy 39 = .ok (.aload_n 0, 1) := by decide +kernel
theorem dX12_lossBy_40 : decode cX12_lossBy 40 = .ok (.getfield 25, 3) := by decide +kernel
theorem dX12_lossBy_43 : decode cX12_lossBy 43 = .ok (.iload 8, 2) := by decide +kernel
theorem dX12_lossBy_45 : decode cX12_lossBy 45 = .ok (.iaload, 1) := by decide +kernel
theorem dX12_lossBy_46 : decode cX12_lossBy 46 = .ok (.i2l, 1) := by decide +kernel
theorem dX12_lossBy_47 : decode cX12_lossBy 47 = .ok (.aload_n 0, 1) := by decide +kernel
theorem dX12_lossBy_48 : decode cX12_lossBy 48 = .ok (.iload 8, 2) := by decide +kernel
theorem dX12_lossBy_50 : decode cX12_lossBy 50 = .ok (.iload_n 2, 1) := by decide +kernel
theorem dX12_lossBy_51 : decode cX12_lossBy 51 = .ok (.iload_n 3, 1) := by decide +kernel
theorem dX12_lossBy_52 : decode cX12_lossBy 52 = .ok (.iload 4, 2) := by decide +kernel
theorem dX12_lossBy_54 : decode cX12_lossBy 54 = .ok (.invokevirtual 115, 3) := by decide +kernel
theorem dX12_lossBy_57 : decode cX12_lossBy 57 = .ok (.i2l, 1) := by decide +kernel
theorem dX12_lossBy_58 : decode cX12_lossBy 58 = .ok (.lmul, 1) := by decide +kernel
theorem dX12_lossBy_59 : decode cX12_lossBy 59 = .ok (.ladd, 1) := by decide +kernel
theorem dX12_lossBy_60 : decode cX12_lossBy 60 = .ok (.lstore 5, 2) := by decide +kernel
theorem dX12_lossBy_62 : decode cX12_lossBy 62 = .ok (.lload 5, 2) := by decide +kernel
theorem dX12_lossBy_64 : decode cX12_lossBy 64 = .ok (.iload 4, 2) := by decide +kernel
theorem dX12_lossBy_66 : decode cX12_lossBy 66 = .ok (.bipush 7, 2) := by decide +kernel
theorem dX12_lossBy_68 : decode cX12_lossBy 68 = .ok (.if_icmp .ge 43, 3) := by decide +kernel
theorem dX12_lossBy_71 : decode cX12_lossBy 71 = .ok (.aload_n 0, 1) := by decide +kernel
theorem dX12_lossBy_72 : decode cX12_lossBy 72 = .ok (.iload 8, 2) := by decide +kernel
theorem dX12_lossBy_74 : decode cX12_lossBy 74 = .ok (.iload 4, 2) := by decide +kernel
theorem dX12_lossBy_76 : decode cX12_lossBy 76 = .ok (.iconst 1, 1) := by decide +kernel
theorem dX12_lossBy_77 : decode cX12_lossBy 77 = .ok (.iadd, 1) := by decide +kernel
theorem dX12_lossBy_78 : decode cX12_lossBy 78 = .ok (.invokevirtual 111, 3) := by decide +kernel
theorem dX12_lossBy_81 : decode cX12_lossBy 81 = .ok (.iload 8, 2) := by decide +kernel
theorem dX12_lossBy_83 : decode cX12_lossBy 83 = .ok (.if_icmp .ne 28, 3) := by decide +kernel
theorem dX12_lossBy_86 : decode cX12_lossBy 86 = .ok (.aload_n 0, 1) := by decide +kernel
theorem dX12_lossBy_87 : decode cX12_lossBy 87 = .ok (.getfield 31, 3) := by decide +kernel
theorem dX12_lossBy_90 : decode cX12_lossBy 90 = .ok (.sipush 128, 3) := by decide +kernel
theorem dX12_lossBy_93 : decode cX12_lossBy 93 = .ok (.iload 4, 2) := by decide +kernel
theorem dX12_lossBy_95 : decode cX12_lossBy 95 = .ok (.iconst 1, 1) := by decide +kernel
theorem dX12_lossBy_96 : decode cX12_lossBy 96 = .ok (.iadd, 1) := by decide +kernel
theorem dX12_lossBy_97 : decode cX12_lossBy 97 = .ok (.imul, 1) := by decide +kernel
theorem dX12_lossBy_98 : decode cX12_lossBy 98 = .ok (.bipush 16, 2) := by decide +kernel
theorem dX12_lossBy_100 : decode cX12_lossBy 100 = .ok (.iload 8, 2) := by decide +kernel
theorem dX12_lossBy_102 : decode cX12_lossBy 102 = .ok (.imul, 1) := by decide +kernel
theorem dX12_lossBy_103 : decode cX12_lossBy 103 = .ok (.iadd, 1) := by decide +kernel
theorem dX12_lossBy_104 : decode cX12_lossBy 104 = .ok (.iload 7, 2) := by decide +kernel
theorem dX12_lossBy_106 : decode cX12_lossBy 106 = .ok (.iadd, 1) := by decide +kernel
theorem dX12_lossBy_107 : decode cX12_lossBy 107 = .ok (.laload, 1) := by decide +kernel
theorem dX12_lossBy_108 : decode cX12_lossBy 108 = .ok (.goto 4, 3) := by decide +kernel
theorem dX12_lossBy_111 : decode cX12_lossBy 111 = .ok (.lconst 0, 1) := by decide +kernel
theorem dX12_lossBy_112 : decode cX12_lossBy 112 = .ok (.ladd, 1) := by decide +kernel
theorem dX12_lossBy_113 : decode cX12_lossBy 113 = .ok (.lstore 5, 2) := by decide +kernel
theorem dX12_lossBy_115 : decode cX12_lossBy 115 = .ok (.iinc 8 1, 3) := by decide +kernel
theorem dX12_lossBy_118 : decode cX12_lossBy 118 = .ok (.goto (-102), 3) := by decide +kernel
theorem dX12_lossBy_121 : decode cX12_lossBy 121 = .ok (.lload 5, 2) := by decide +kernel
theorem dX12_lossBy_123 : decode cX12_lossBy 123 = .ok (.lreturn, 1) := by decide +kernel
set_option maxRecDepth 20000 in
theorem ggX12_findBest_X12_groupOf : GoodIn wsX12_findBest wsX12_groupOf := goodIn_r _ [8, 9, 32, 33, 34, 35, 36, 37, 38, 39, 40, 41, 42, 43, 44, 45, 46, 47, 48, 49, 50, 51, 52, 53] (by decide +kernel) (by decide +kernel)
set_option maxRecDepth 20000 in
theorem gX12_findBest_X12_groupOf : GoodIn wsX12_findBest (wsV RX12 111 RX12 yX12_groupOf wsX12_groupOf) := goodIn_app (goodIn_of _ (by decide +kernel)) ggX12_findBest_X12_groupOf
set_option maxRecDepth 20000 in
theorem ggX12_findBest_X12_lossBy : GoodIn wsX12_findBest wsX12_lossBy := goodIn_r _ [13, 1, 14, 2, 15, 16, 17, 7, 18, 19, 4, 5, 6, 8, 9, 20, 21, 22, 23, 24, 25, 26, 27, 28, 29, 30, 31, 32, 33, 34, 35, 36, 37, 38, 39, 40, 41, 42, 43, 44, 45, 46, 47, 48, 49, 50, 51, 52, 53] (by decide +kernel) (by decide +kernel)
set_option maxRecDepth 20000 in
theorem gX12_findBest_X12_lossBy : GoodIn wsX12_findBest (wsV RX12 118 RX12 yX12_lossBy wsX12_lossBy) := goodIn_app (goodIn_of _ (by decide +kernel)) ggX12_findBest_X12_lossBy
theorem dX12_findBest_0 : decode cX12_findBest 0 = .ok (.bipush 7, 2) := by decide +kernel
theorem dX12_findBest_2 : decode cX12_findBest 2 = .ok (.istore_n 1, 1) := by decide +kernel
theorem dX12_findBest_3 : decode cX12_findBest 3 = .ok (.iload_n 1, 1) := by decide +kernel
theorem dX12_findBest_4 : decode cX12_findBest 4 = .ok (.ifCond .lt 187, 3) := by decide +kernel
theorem dX12_findBest_7 : decode cX12_findBest 7 = .ok (.iconst 0, 1) := by decide +kernel
theorem dX12_findBest_8 : decode cX12_findBest 8 = .ok (.istore_n 2, 1) := by decide +kernel
theorem dX12_findBest_9 : decode cX12_findBest 9 = .ok (.iload_n 2, 1) := by decide +kernel
theorem dX12_findBest_10 : decode cX12_findBest 10 = .ok (.aload_n 0, 1) := by decide +kernel
theorem dX12_findBest_11 : decode cX12_findBest 11 = .ok (.getfield 87, 3) := by decide +kernel
theorem dX12_findBest_14 : decode cX12_findBest 14 = .ok (.if_icmp .ge 171, 3) := by decide +kernel
theorem dX12_findBest_17 : decode cX12_findBest 17 = .ok (.iconst 0, 1) := by decide +kernel
theorem dX12_findBest_18 : decode cX12_findBest 18 = .ok (.istore_n 3, 1) := by decide +kernel
theorem dX12_findBest_19 : decode cX12_findBest 19 = .ok (.iload_n 3, 1) := by decide +kernel
theorem dX12_findBest_20 : decode cX12_findBest 20 = .ok (.bipush 16, 2) := by decide +kernel
theorem dX12_findBest_22 : decode cX12_findBest 22 = .ok (.if_icmp .ge 157, 3) := by decide +kernel
theorem dX12_findBest_25 : decode cX12_findBest 25 = .ok (.iload_n 3, 1) := by decide +kernel
theorem dX12_findBest_26 : decode cX12_findBest 26 = .ok (.iconst 3, 1) := by decide +kernel
theorem dX12_findBest_27 : decode cX12_findBest 27 = .ok (.if_icmp .lt 27, 3) := by decide +kernel
theorem dX12_findBest_30 : decode cX12_findBest 30 = .ok (.iload_n 3, 1) := by decide +kernel
theorem dX12_findBest_31 : decode cX12_findBest 31 = .ok (.iconst 4, 1) := by decide +kernel
theorem dX12_findBest_32 : decode cX12_findBest 32 = .ok (.if_icmp .eq 22, 3) := by decide +kernel
theorem dX12_findBest_35 : decode cX12_findBest 35 = .ok (.iload_n 3, 1) := by decide +kernel
theorem dX12_findBest_36 : decode cX12_findBest 36 = .ok (.iconst 5, 1) := by decide +kernel
theorem dX12_findBest_37 : decode cX12_findBest 37 = .ok (.if_icmp .eq 17, 3) := by decide +kernel
theorem dX12_findBest_40 : decode cX12_findBest 40 = .ok (.iload_n 3, 1) := by decide +kernel
theorem dX12_findBest_41 : decode cX12_findBest 41 = .ok (.bipush 8, 2) := by decide +kernel
theorem dX12_findBest_43 : decode cX12_findBest 43 = .ok (.if_icmp .le 15, 3) := by decide +kernel
theorem dX12_findBest_46 : decode cX12_findBest 46 = .ok (.iload_n 3, 1) := by decide +kernel
theorem dX12_findBest_47 : decode cX12_findBest 47 = .ok (.bipush 8, 2) := by decide +kernel
theorem dX12_findBest_49 : decode cX12_findBest 49 = .ok (.iload_n 1, 1) := by decide +kernel
theorem dX12_findBest_50 : decode cX12_findBest 50 = .ok (.iadd, 1) := by decide +kernel
theorem dX12_findBest_51 : decode cX12_findBest 51 = .ok (.if_icmp .gt 7, 3) := by decide +kernel
theorem dX12_findBest_54 : decode cX12_findBest 54 = .ok (.iconst 1, 1) := by decide +kernel
theorem dX12_findBest_55 : decode cX12_findBest 55 = .ok (.goto 4, 3) := by decide +kernel
theorem dX12_findBest_58 : decode cX12_findBest 58 = .ok (.iconst 0, 1) := by decide +kernel
theorem dX12_findBest_59 : decode cX12_findBest 59 = .ok (.istore 4, 2) := by decide +kernel
theorem dX12_findBest_61 : decode cX12_findBest 61 = .ok (.iload 4, 2) := by decide +kernel
theorem dX12_findBest_63 : decode cX12_findBest 63 = .ok (.ifCond .eq 110, 3) := by decide +kernel
theorem dX12_findBest_66 : decode cX12_findBest 66 = .ok (.aload_n 0, 1) := by decide +kernel
theorem dX12_findBest_67 : decode cX12_findBest 67 = .ok (.iload_n 2, 1) := by decide +kernel
theorem dX12_findBest_68 : decode cX12_findBest 68 = .ok (.iload_n 1, 1) := by decide +kernel
theorem dX12_findBest_69 : decode cX12_findBest 69 = .ok (.invokevirtual 111, 3) := by decide +kernel
theorem dX12_findBest_72 : decode cX12_findBest 72 = .ok (.iload_n 2, 1) := by decide +kernel
theorem dX12_findBest_73 : decode cX12_findBest 73 = .ok (.if_icmp .ne 100, 3) := by decide +kernel
theorem dX12_findBest_76 : decode cX12_findBest 76 = .ok (.sipush 128, 3) := by decide +kernel
theorem dX12_findBest_79 : decode cX12_findBest 79 = .ok (.iload_n 1, 1) := by decide +kernel
theorem dX12_findBest_80 : decode cX12_findBest 80 = .ok (.imul, 1) := by decide +kernel
theorem dX12_findBest_81 : decode cX12_findBest 81 = .ok (.bipush 16, 2) := by decide +kernel
theorem dX12_findBest_83 : decode cX12_findBest 83 = .ok (.iload_n 2, 1) := by decide +kernel
theorem dX12_findBest_84 : decode cX12_findBest 84 = .ok (.imul, 1) := by decide +kernel
theorem dX12_findBest_85 : decode cX12_findBest 85 = .ok (.iadd, 1) := by decide +kernel
theorem dX12_findBest_86 : decode cX12_findBest 86 = .ok (.iload_n 3, 1) := by decide +kernel
theorem dX12_findBest_87 : decode cX12_findBest 87 = .ok (.iadd, 1) := by decide +kernel
theorem dX12_findBest_88 : decode cX12_findBest 88 = .ok (.istore 5, 2) := by decide +kernel
theorem dX12_findBest_90 : decode cX12_findBest 90 = .ok (.aload_n 0, 1) := by decide +kernel
theorem dX12_findBest_91 : decode cX12_findBest 91 = .ok (.getfield 31, 3) := by decide +kernel
theorem dX12_findBest_94 : decode cX12_findBest 94 = .ok (.iload 5, 2) := by decide +kernel
theorem dX12_findBest_96 : decode cX12_findBest 96 = .ok (.aload_n 0, 1) := by decide +kernel
theorem dX12_findBest_97 : decode cX12_findBest 97 = .ok (.iload_n 2, 1) := by decide +kernel
theorem dX12_findBest_98 : decode cX12_findBest 98 = .ok (.iload_n 3, 1) := by decide +kernel
theorem dX12_findBest_99 : decode cX12_findBest 99 = .ok (.iconst 0, 1) := by decide +kernel
theorem dX12_findBest_100 : decode cX12_findBest 100 = .ok (.iload_n 1, 1) := by decide +kernel
theorem dX12_findBest_101 : decode cX12_findBest 101 = .ok (.invokevirtual 118, 3) := by decide +kernel
theorem dX12_findBest_104 : decode cX12_findBest 104 = .ok (.lastore, 1) := by decide +kernel
theorem dX12_findBest_105 : decode cX12_findBest 105 = .ok (.aload_n 0, 1) := by decide +kernel
theorem dX12_findBest_106 : decode cX12_findBest 106 = .ok (.getfield 35, 3) := by decide +kernel
theorem dX12_findBest_109 : decode cX12_findBest 109 = .ok (.iload 5, 2) := by decide +kernel
theorem dX12_findBest_111 : decode cX12_findBest 111 = .ok (.iconst 0, 1) := by decide +kernel
theorem dX12_findBest_112 : decode cX12_findBest 112 = .ok (.bastore, 1) := by decide +kernel
theorem dX12_findBest_113 : decode cX12_findBest 113 = .ok (.iload_n 3, 1) := by decide +kernel
theorem dX12_findBest_114 : decode cX12_findBest 114 = .ok (.ifCond .eq 9, 3) := by decide +kernel
theorem dX12_findBest_117 : decode cX12_findBest 117 = .ok (.iload_n 3, 1) := by decide +kernel
theorem dX12_findBest_118 : decode cX12_findBest 118 = .ok (.bipush 8, 2) := by decide +kernel
theorem dX12_findBest_120 : decode cX12_findBest 120 = .ok (.if_icmp .le 14, 3) := by decide +kernel
theorem dX12_findBest_123 : decode cX12_findBest 123 = .ok (.aload_n 0, 1) := by decide +kernel
theorem dX12_findBest_124 : decode cX12_findBest 124 = .ok (.iload_n 2, 1) := by decide +kernel
theorem dX12_findBest_125 : decode cX12_findBest 125 = .ok (.iload_n 3, 1) := by decide +kernel
theorem dX12_findBest_126 : decode cX12_findBest 126 = .ok (.iconst 1, 1) := by decide +kernel
theorem dX12_findBest_127 : decode cX12_findBest 127 = .ok (.iload_n 1, 1) := by decide +kernel
theorem dX12_findBest_128 : decode cX12_findBest 128 = .ok (.invokevirtual 118, 3) := by decide +kernel
theorem dX12_findBest_131 : decode cX12_findBest 131 = .ok (.goto 10, 3) := by decide +kernel
theorem dX12_findBest_134 : decode cX12_findBest 134 = .ok (.aload_n 0, 1) := by decide +kernel
theorem dX12_findBest_135 : decode cX12_findBest 135 = .ok (.getfield 31, 3) := by decide +kernel
theorem dX12_findBest_138 : decode cX12_findBest 138 = .ok (.iload 5, 2) := by decide +kernel
theorem dX12_findBest_140 : decode cX12_findBest 140 = .ok (.laload, 1) := by decide +kernel
theorem dX12_findBest_141 : decode cX12_findBest 141 = .ok (.lstore 6, 2) := by decide +kernel
theorem dX12_findBest_143 : decode cX12_findBest 143 = .ok (.lload 6, 2) := by decide +kernel
theorem dX12_findBest_145 : decode cX12_findBest 145 = .ok (.aload_n 0, 1) := by decide +kernel
theorem dX12_findBest_146 : decode cX12_findBest 146 = .ok (.getfield 31, 3) := by decide +kernel
theorem dX12_findBest_149 : decode cX12_findBest 149 = .ok (.iload 5, 2) := by decide +kernel
theorem dX12_findBest_151 : decode cX12_findBest 151 = .ok (.laload, 1) := by decide +kernel
theorem dX12_findBest_152 : decode cX12_findBest 152 = .ok (.lcmp, 1) := by decide +kernel
theorem dX12_findBest_153 : decode cX12_findBest 153 = .ok (.ifCond .ge 20, 3) := by decide +kernel
theorem dX12_findBest_156 : decode cX12_findBest 156 = .ok (.aload_n 0, 1) := by decide +kernel
theorem dX12_findBest_157 : decode cX12_findBest 157 = .ok (.getfield 31, 3) := by decide +kernel
theorem dX12_findBest_160 : decode cX12_findBest 160 = .ok (.iload 5, 2) := by decide +kernel
theorem dX12_findBest_162 : decode cX12_findBest 162 = .ok (.lload 6, 2) := by decide +kernel
theorem dX12_findBest_164 : decode cX12_findBest 164 = .ok (.lastore, 1) := by decide +kernel
theorem dX12_findBest_165 : decode cX12_findBest 165 = .ok (.aload_n 0, 1) := by decide +kernel
theorem dX12_findBest_166 : decode cX12_findBest 166 = .ok (.getfield 35, 3) := by decide +kernel
theorem dX12_findBest_169 : decode cX12_findBest 169 = .ok (.iload 5, 2) := by decide +kernel
theorem dX12_findBest_171 : decode cX12_findBest 171 = .ok (.iconst 1, 1) := by decide +kernel
theorem dX12_findBest_172 : decode cX12_findBest 172 = .ok (.bastore, 1) := by decide +kernel
theorem dX12_findBest_173 : decode cX12_findBest 173 = .ok (.iinc 3 1, 3) := by decide +kernel
theorem dX12_findBest_176 : decode cX12_findBest 176 = .ok (.goto (-157), 3) := by decide +kernel
theorem dX12_findBest_179 : decode cX12_findBest 179 = .ok (.iinc 2 1, 3) := by decide +kernel
theorem dX12_findBest_182 : decode cX12_findBest 182 = .ok (.goto (-173), 3) := by decide +kernel
theorem dX12_findBest_185 : decode cX12_findBest 185 = .ok (.iinc 1 (-1), 3) := by decide +kernel
theorem dX12_findBest_188 : decode cX12_findBest 188 = .ok (.goto (-185), 3) := by decide +kernel
theorem dX12_findBest_191 : decode cX12_findBest 191 = .ok (.return_, 1) := by decide +kernel
set_option maxRecDepth 20000 in
theorem ggX12_best_X12_findBest : GoodIn wsX12_best wsX12_findBest := goodIn_r _ [8, 2, 3, 9, 10, 11, 12, 7, 13, 14, 15, 16, 17, 18, 19, 20, 21, 22, 23, 24, 25, 26, 27, 28, 29, 30, 31, 32, 33, 34, 35, 36, 37, 38, 39, 40, 41, 42, 43, 44, 45, 46, 47, 48, 49, 50, 51, 52, 53, 54, 55, 56, 57, 58] (by decide +kernel) (by decide +kernel)
set_option maxRecDepth 20000 in
theorem gX12_best_X12_findBest : GoodIn wsX12_best (wsV RX12 122 RX12 yX12_findBest wsX12_findBest) := goodIn_app (goodIn_of _ (by decide +kernel)) ggX12_best_X12_findBest
set_option maxRecDepth 20000 in
theorem ggX12_best_X12_groupOf : GoodIn wsX12_best wsX12_groupOf := goodIn_r _ [13, 14, 37, 38, 39, 40, 41, 42, 43, 44, 45, 46, 47, 48, 49, 50, 51, 52, 53, 54, 55, 56, 57, 58] (by decide +kernel) (by decide +kernel)
set_option maxRecDepth 20000 in
theorem gX12_best_X12_groupOf : GoodIn wsX12_best (wsV RX12 111 RX12 yX12_groupOf wsX12_groupOf) := goodIn_app (goodIn_of _ (by decide +kernel)) ggX12_best_X12_groupOf
theorem dX12_best_0 : decode cX12_best 0 = .ok (.aload_n 0, 1) := by decide +kernel
theorem dX12_best_1 : decode cX12_best 1 = .ok (.iconst 0, 1) := by decide +kernel
theorem dX12_best_2 : decode cX12_best 2 = .ok (.putfield 60, 3) := by decide +kernel
theorem dX12_best_5 : decode cX12_best 5 = .ok (.aload_n 0, 1) := by decide +kernel
theorem dX12_best_6 : decode cX12_best 6 = .ok (.invokevirtual 122, 3) := by decide +kernel
theorem dX12_best_9 : decode cX12_best 9 = .ok (.lconst 0, 1) := by decide +kernel
theorem dX12_best_10 : decode cX12_best 10 = .ok (.lstore_n 1, 1) := by decide +kernel
theorem dX12_best_11 : decode cX12_best 11 = .ok (.iconst 0, 1) := by decide +kernel
theorem dX12_best_12 : decode cX12_best 12 = .ok (.istore_n 3, 1) := by decide +kernel
theorem dX12_best_13 : decode cX12_best 13 = .ok (.iload_n 3, 1) := by decide +kernel
theorem dX12_best_14 : decode cX12_best 14 = .ok (.aload_n 0, 1) := by decide +kernel
theorem dX12_best_15 : decode cX12_best 15 = .ok (.getfield 87, 3) := by decide +kernel
theorem dX12_best_18 : decode cX12_best 18 = .ok (.if_icmp .ge 35, 3) := by decide +kernel
theorem dX12_best_21 : decode cX12_best 21 = .ok (.lload_n 1, 1) := by decide +kernel
theorem dX12_best_22 : decode cX12_best 22 = .ok (.aload_n 0, 1) := by decide +kernel
theorem dX12_best_23 : decode cX12_best 23 = .ok (.iload_n 3, 1) := by decide +kernel
theorem dX12_best_24 : decode cX12_best 24 = .ok (.iconst 0, 1) := by decide +kernel
theorem dX12_best_25 : decode cX12_best 25 = .ok (.invokevirtual 111, 3) := by decide +kernel
theorem dX12_best_28 : decode cX12_best 28 = .ok (.iload_n 3, 1) := by decide +kernel
theorem dX12_best_29 : decode cX12_best 29 = .ok (.if_icmp .ne 15, 3) := by decide +kernel
theorem dX12_best_32 : decode cX12_best 32 = .ok (.aload_n 0, 1) := by decide +kernel
theorem dX12_best_33 : decode cX12_best 33 = .ok (.getfield 31, 3) := by decide +kernel
theorem dX12_best_36 : decode cX12_best 36 = .ok (.bipush 16, 2) := by decide +kernel
theorem dX12_best_38 : decode cX12_best 38 = .ok (.iload_n 3, 1) := by decide +kernel
theorem dX12_best_39 : decode cX12_best 39 = .ok (.imul, 1) := by decide +kernel
theorem dX12_best_40 : decode cX12_best 40 = .ok (.laload, 1) := by decide +kernel
theorem dX12_best_41 : decode cX12_best 41 = .ok (.goto 4, 3) := by decide +kernel
theorem dX12_best_44 : decode cX12_best 44 = .ok (.lconst 0, 1) := by decide +kernel
theorem dX12_best_45 : decode cX12_best 45 = .ok (.ladd, 1) := by decide +kernel
theorem dX12_best_46 : decode cX12_best 46 = .ok (.lstore_n 1, 1) := by decide +kernel
theorem dX12_best_47 : decode cX12_best 47 = .ok (.iinc 3 1, 3) := by decide +kernel
theorem dX12_best_50 : decode cX12_best 50 = .ok (.goto (-37), 3) := by decide +kernel
theorem dX12_best_53 : decode cX12_best 53 = .ok (.lload_n 1, 1) := by decide +kernel
theorem dX12_best_54 : decode cX12_best 54 = .ok (.lreturn, 1) := by decide +kernel
set_option maxRecDepth 20000 in
theorem ggX12_hour_X12_in : GoodIn wsX12_hour wsX12_in := goodIn_r _ [10] (by decide +kernel) (by decide +kernel)
set_option maxRecDepth 20000 in
theorem gX12_hour_X12_in : GoodIn wsX12_hour (va_wsS RX12 70 yX12_in wsX12_in) := goodIn_app (goodIn_of _ (by decide +kernel)) ggX12_hour_X12_in
set_option maxRecDepth 20000 in
theorem ggX12_hour_X12_findBest : GoodIn wsX12_hour wsX12_findBest := goodIn_r _ [14, 2, 15, 6, 16, 17, 18, 9, 19, 20, 21, 22, 23, 24, 25, 26, 27, 28, 29, 30, 31, 32, 33, 34, 35, 36, 37, 38, 39, 40, 41, 42, 43, 44, 45, 46, 47, 48, 49, 50, 51, 52, 53, 54, 55, 56, 57, 58, 59, 60, 61, 62, 63, 64] (by decide +kernel) (by decide +kernel)
set_option maxRecDepth 20000 in
theorem gX12_hour_X12_findBest : GoodIn wsX12_hour (wsV RX12 122 RX12 yX12_findBest wsX12_findBest) := goodIn_app (goodIn_of _ (by decide +kernel)) ggX12_hour_X12_findBest
set_option maxRecDepth 20000 in
theorem ggX12_hour_X12_groupOf : GoodIn wsX12_hour wsX12_groupOf := goodIn_r _ [19, 20, 43, 44, 45, 46, 47, 48, 49, 50, 51, 52, 53, 54, 55, 56, 57, 58, 59, 60, 61, 62, 63, 64] (by decide +kernel) (by decide +kernel)
set_option maxRecDepth 20000 in
theorem gX12_hour_X12_groupOf : GoodIn wsX12_hour (wsV RX12 111 RX12 yX12_groupOf wsX12_groupOf) := goodIn_app (goodIn_of _ (by decide +kernel)) ggX12_hour_X12_groupOf
set_option maxRecDepth 20000 in
theorem ggX12_hour_X12_after : GoodIn wsX12_hour wsX12_after := goodIn_r _ [29, 30, 43, 44, 45, 46, 47, 48, 49, 50, 51, 52, 53, 54, 55, 56, 57, 58, 59, 60, 61, 62, 63, 64] (by decide +kernel) (by decide +kernel)
set_option maxRecDepth 20000 in
theorem gX12_hour_X12_after : GoodIn wsX12_hour (wsV RX12 107 RX12 yX12_after wsX12_after) := goodIn_app (goodIn_of _ (by decide +kernel)) ggX12_hour_X12_after
set_option maxRecDepth 20000 in
theorem ggX12_hour_X12_stateIn : GoodIn wsX12_hour wsX12_stateIn := goodIn_r _ [37] (by decide +kernel) (by decide +kernel)
set_option maxRecDepth 20000 in
theorem gX12_hour_X12_stateIn : GoodIn wsX12_hour (va_wsS RX12 99 yX12_stateIn wsX12_stateIn) := goodIn_app (goodIn_of _ (by decide +kernel)) ggX12_hour_X12_stateIn
set_option maxRecDepth 20000 in
theorem ggX12_hour_X12_waterIn : GoodIn wsX12_hour wsX12_waterIn := goodIn_r _ [41, 20, 42, 35, 36, 9, 37, 43, 44, 45, 46, 47, 48, 49, 50, 51, 52, 53, 54, 55, 56, 57, 58, 59, 60, 61, 62, 63, 64] (by decide +kernel) (by decide +kernel)
set_option maxRecDepth 20000 in
theorem gX12_hour_X12_waterIn : GoodIn wsX12_hour (wsV RX12 103 RX12 yX12_waterIn wsX12_waterIn) := goodIn_app (goodIn_of _ (by decide +kernel)) ggX12_hour_X12_waterIn
set_option maxRecDepth 20000 in
theorem ggX12_hour_X12_lostIn : GoodIn wsX12_hour wsX12_lostIn := goodIn_r _ [34, 30, 20, 35, 36, 9, 37, 38, 39, 40, 41, 42, 43, 44, 45, 46, 47, 48, 49, 50, 51, 52, 53, 54, 55, 56, 57, 58, 59, 60, 61, 62, 63, 64] (by decide +kernel) (by decide +kernel)
set_option maxRecDepth 20000 in
theorem gX12_hour_X12_lostIn : GoodIn wsX12_hour (wsV RX12 115 RX12 yX12_lostIn wsX12_lostIn) := goodIn_app (goodIn_of _ (by decide +kernel)) ggX12_hour_X12_lostIn
theorem dX12_hour_0 : decode cX12_hour 0 = .ok (.aload_n 0, 1) := by decide +kernel
theorem dX12_hour_1 : decode cX12_hour 1 = .ok (.iconst 0, 1) := by decide +kernel
theorem dX12_hour_2 : decode cX12_hour 2 = .ok (.putfield 60, 3) := by decide +kernel
theorem dX12_hour_5 : decode cX12_hour 5 = .ok (.iload_n 1, 1) := by decide +kernel
theorem dX12_hour_6 : decode cX12_hour 6 = .ok (.i2l, 1) := by decide +kernel
theorem dX12_hour_7 : decode cX12_hour 7 = .ok (.lconst 0, 1) := by decide +kernel
theorem dX12_hour_8 : decode cX12_hour 8 = .ok (.aload_n 0, 1) := by decide +kernel
theorem dX12_hour_9 : decode cX12_hour 9 = .ok (.getfield 87, 3) := by decide +kernel
theorem dX12_hour_12 : decode cX12_hour 12 = .ok (.iconst 1, 1) := by decide +kernel
theorem dX12_hour_13 : decode cX12_hour 13 = .ok (.isub, 1) := by decide +kernel
theorem dX12_hour_14 : decode cX12_hour 14 = .ok (.i2l, 1) := by decide +kernel
theorem dX12_hour_15 : decode cX12_hour 15 = .ok (.invokestatic 70, 3) := by decide +kernel
theorem dX12_hour_18 : decode cX12_hour 18 = .ok (.ifCond .eq 27, 3) := by decide +kernel
theorem dX12_hour_21 : decode cX12_hour 21 = .ok (.iload_n 2, 1) := by decide +kernel
theorem dX12_hour_22 : decode cX12_hour 22 = .ok (.i2l, 1) := by decide +kernel
theorem dX12_hour_23 : decode cX12_hour 23 = .ok (.lconst 0, 1) := by decide +kernel
theorem dX12_hour_24 : decode cX12_hour 24 = .ok (.ldc2_w 68, 3) := by decide +kernel
theorem dX12_hour_27 : decode cX12_hour 27 = .ok (.invokestatic 70, 3) := by decide +kernel
theorem dX12_hour_30 : decode cX12_hour 30 = .ok (.ifCond .eq 15, 3) := by decide +kernel
theorem dX12_hour_33 : decode cX12_hour 33 = .ok (.iload_n 3, 1) := by decide +kernel
theorem dX12_hour_34 : decode cX12_hour 34 = .ok (.i2l, 1) := by decide +kernel
theorem dX12_hour_35 : decode cX12_hour 35 = .ok (.lconst 0, 1) := by decide +kernel
theorem dX12_hour_36 : decode cX12_hour 36 = .ok (.ldc2_w 97, 3) := by decide +kernel
theorem dX12_hour_39 : decode cX12_hour 39 = .ok (.invokestatic 70, 3) := by decide +kernel
theorem dX12_hour_42 : decode cX12_hour 42 = .ok (.ifCond .ne 6, 3) := by decide +kernel
theorem dX12_hour_45 : decode cX12_hour 45 = .ok (.ldc 80, 2) := by decide +kernel
theorem dX12_hour_47 : decode cX12_hour 47 = .ok (.ireturn, 1) := by decide +kernel
theorem dX12_hour_48 : decode cX12_hour 48 = .ok (.aload_n 0, 1) := by decide +kernel
theorem dX12_hour_49 : decode cX12_hour 49 = .ok (.invokevirtual 122, 3) := by decide +kernel
theorem dX12_hour_52 : decode cX12_hour 52 = .ok (.iconst 0, 1) := by decide +kernel
theorem dX12_hour_53 : decode cX12_hour 53 = .ok (.istore 4, 2) := by decide +kernel
theorem dX12_hour_55 : decode cX12_hour 55 = .ok (.iconst 0, 1) := by decide +kernel
theorem dX12_hour_56 : decode cX12_hour 56 = .ok (.istore 5, 2) := by decide +kernel
theorem dX12_hour_58 : decode cX12_hour 58 = .ok (.iload 5, 2) := by decide +kernel
theorem dX12_hour_60 : decode cX12_hour 60 = .ok (.iload_n 2, 1) := by decide +kernel
theorem dX12_hour_61 : decode cX12_hour 61 = .ok (.if_icmp .ge 44, 3) := by decide +kernel
theorem dX12_hour_64 : decode cX12_hour 64 = .ok (.aload_n 0, 1) := by decide +kernel
theorem dX12_hour_65 : decode cX12_hour 65 = .ok (.iload 4, 2) := by decide +kernel
theorem dX12_hour_67 : decode cX12_hour 67 = .ok (.aload_n 0, 1) := by decide +kernel
theorem dX12_hour_68 : decode cX12_hour 68 = .ok (.getfield 35, 3) := by decide +kernel
theorem dX12_hour_71 : decode cX12_hour 71 = .ok (.sipush 128, 3) := by decide +kernel
theorem dX12_hour_74 : decode cX12_hour 74 = .ok (.iload 5, 2) := by decide +kernel
theorem dX12_hour_76 : decode cX12_hour 76 = .ok (.imul, 1) := by decide +kernel
theorem dX12_hour_77 : decode cX12_hour 77 = .ok (.bipush 16, 2) := by decide +kernel
theorem dX12_hour_79 : decode cX12_hour 79 = .ok (.aload_n 0, 1) := by decide +kernel
theorem dX12_hour_80 : decode cX12_hour 80 = .ok (.iload_n 1, 1) := by decide +kernel
theorem dX12_hour_81 : decode cX12_hour 81 = .ok (.iload 5, 2) := by decide +kernel
theorem dX12_hour_83 : decode cX12_hour 83 = .ok (.invokevirtual 111, 3) := by decide +kernel
theorem dX12_hour_86 : decode cX12_hour 86 = .ok (.imul, 1) := by decide +kernel
theorem dX12_hour_87 : decode cX12_hour 87 = .ok (.iadd, 1) := by decide +kernel
theorem dX12_hour_88 : decode cX12_hour 88 = .ok (.iload 4, 2) := by decide +kernel
theorem dX12_hour_90 : decode cX12_hour 90 = .ok (.iadd, 1) := by decide +kernel
theorem dX12_hour_91 : decode cX12_hour 91 = .ok (.baload, 1) := by decide +kernel
theorem dX12_hour_92 : decode cX12_hour 92 = .ok (.iload 5, 2) := by decide +kernel
theorem dX12_hour_94 : decode cX12_hour 94 = .ok (.invokevirtual 107, 3) := by decide +kernel
theorem dX12_hour_97 : decode cX12_hour 97 = .ok (.istore 4, 2) := by decide +kernel
theorem dX12_hour_99 : decode cX12_hour 99 = .ok (.iinc 5 1, 3) := by decide +kernel
theorem dX12_hour_102 : decode cX12_hour 102 = .ok (.goto (-44), 3) := by decide +kernel
theorem dX12_hour_105 : decode cX12_hour 105 = .ok (.aload_n 0, 1) := by decide +kernel
theorem dX12_hour_106 : decode cX12_hour 106 = .ok (.getfield 35, 3) := by decide +kernel
theorem dX12_hour_109 : decode cX12_hour 109 = .ok (.sipush 128, 3) := by decide +kernel
theorem dX12_hour_112 : decode cX12_hour 112 = .ok (.iload_n 2, 1) := by decide +kernel
theorem dX12_hour_113 : decode cX12_hour 113 = .ok (.imul, 1) := by decide +kernel
theorem dX12_hour_114 : decode cX12_hour 114 = .ok (.bipush 16, 2) := by decide +kernel
theorem dX12_hour_116 : decode cX12_hour 116 = .ok (.aload_n 0, 1) := by decide +kernel
theorem dX12_hour_117 : decode cX12_hour 117 = .ok (.iload_n 1, 1) := by decide +kernel
theorem dX12_hour_118 : decode cX12_hour 118 = .ok (.iload_n 2, 1) := by decide +kernel
theorem dX12_hour_119 : decode cX12_hour 119 = .ok (.invokevirtual 111, 3) := by decide +kernel
theorem dX12_hour_122 : decode cX12_hour 122 = .ok (.imul, 1) := by decide +kernel
theorem dX12_hour_123 : decode cX12_hour 123 = .ok (.iadd, 1) := by decide +kernel
theorem dX12_hour_124 : decode cX12_hour 124 = .ok (.iload 4, 2) := by decide +kernel
theorem dX12_hour_126 : decode cX12_hour 126 = .ok (.iadd, 1) := by decide +kernel
theorem dX12_hour_127 : decode cX12_hour 127 = .ok (.baload, 1) := by decide +kernel
theorem dX12_hour_128 : decode cX12_hour 128 = .ok (.istore 5, 2) := by decide +kernel
theorem dX12_hour_130 : decode cX12_hour 130 = .ok (.iload_n 3, 1) := by decide +kernel
theorem dX12_hour_131 : decode cX12_hour 131 = .ok (.ifCond .ne 25, 3) := by decide +kernel
theorem dX12_hour_134 : decode cX12_hour 134 = .ok (.iload 5, 2) := by decide +kernel
theorem dX12_hour_136 : decode cX12_hour 136 = .ok (.ifCond .ne 7, 3) := by decide +kernel
theorem dX12_hour_139 : decode cX12_hour 139 = .ok (.iconst 0, 1) := by decide +kernel
theorem dX12_hour_140 : decode cX12_hour 140 = .ok (.goto 59, 3) := by decide +kernel
theorem dX12_hour_143 : decode cX12_hour 143 = .ok (.iload 4, 2) := by decide +kernel
theorem dX12_hour_145 : decode cX12_hour 145 = .ok (.ifCond .ne 7, 3) := by decide +kernel
theorem dX12_hour_148 : decode cX12_hour 148 = .ok (.iconst 1, 1) := by decide +kernel
theorem dX12_hour_149 : decode cX12_hour 149 = .ok (.goto 50, 3) := by decide +kernel
theorem dX12_hour_152 : decode cX12_hour 152 = .ok (.iconst 2, 1) := by decide +kernel
theorem dX12_hour_153 : decode cX12_hour 153 = .ok (.goto 46, 3) := by decide +kernel
theorem dX12_hour_156 : decode cX12_hour 156 = .ok (.iload_n 3, 1) := by decide +kernel
theorem dX12_hour_157 : decode cX12_hour 157 = .ok (.iconst 1, 1) := by decide +kernel
theorem dX12_hour_158 : decode cX12_hour 158 = .ok (.if_icmp .ne 13, 3) := by decide +kernel
theorem dX12_hour_161 : decode cX12_hour 161 = .ok (.iload 4, 2) := by decide +kernel
theorem dX12_hour_163 : decode cX12_hour 163 = .ok (.iload 5, 2) := by decide +kernel
theorem dX12_hour_165 : decode cX12_hour 165 = .ok (.invokestatic 99, 3) := by decide +kernel
theorem dX12_hour_168 : decode cX12_hour 168 = .ok (.goto 31, 3) := by decide +kernel
theorem dX12_hour_171 : decode cX12_hour 171 = .ok (.iload_n 3, 1) := by decide +kernel
theorem dX12_hour_172 : decode cX12_hour 172 = .ok (.iconst 2, 1) := by decide +kernel
theorem dX12_hour_173 : decode cX12_hour 173 = .ok (.if_icmp .ne 16, 3) := by decide +kernel
theorem dX12_hour_176 : decode cX12_hour 176 = .ok (.aload_n 0, 1) := by decide +kernel
theorem dX12_hour_177 : decode cX12_hour 177 = .ok (.iload_n 1, 1) := by decide +kernel
theorem dX12_hour_178 : decode cX12_hour 178 = .ok (.iload 4, 2) := by decide +kernel
theorem dX12_hour_180 : decode cX12_hour 180 = .ok (.iload 5, 2) := by decide +kernel
theorem dX12_hour_182 : decode cX12_hour 182 = .ok (.iload_n 2, 1) := by decide +kernel
theorem dX12_hour_183 : decode cX12_hour 183 = .ok (.invokevirtual 103, 3) := by decide +kernel
theorem dX12_hour_186 : decode cX12_hour 186 = .ok (.goto 13, 3) := by decide +kernel
theorem dX12_hour_189 : decode cX12_hour 189 = .ok (.aload_n 0, 1) := by decide +kernel
theorem dX12_hour_190 : decode cX12_hour 190 = .ok (.iload_n 1, 1) := by decide +kernel
theorem dX12_hour_191 : decode cX12_hour 191 = .ok (.iload 4, 2) := by decide +kernel
theorem dX12_hour_193 : decode cX12_hour 193 = .ok (.iload 5, 2) := by decide +kernel
theorem dX12_hour_195 : decode cX12_hour 195 = .ok (.iload_n 2, 1) := by decide +kernel
theorem dX12_hour_196 : decode cX12_hour 196 = .ok (.invokevirtual 115, 3) := by decide +kernel
theorem dX12_hour_199 : decode cX12_hour 199 = .ok (.ireturn, 1) := by decide +kernel
set_option maxRecDepth 20000 in
theorem ggX12_shutAt_X12_in : GoodIn wsX12_shutAt wsX12_in := goodIn_r _ [9] (by decide +kernel) (by decide +kernel)
end
section
set_option maxRecDepth 20000 in
theorem gX12_shutAt_X12_in : GoodIn wsX12_shutAt (va_wsS RX12 70 yX12_in wsX12_in) := goodIn_app (goodIn_of _ (by decide +kernel)) ggX12_shutAt_X12_in
set_option maxRecDepth 20000 in
theorem ggX12_shutAt_X12_lostIn : GoodIn wsX12_shutAt wsX12_lostIn := goodIn_r _ [13, 14, 15, 16, 17, 8, 18, 19, 20, 21, 22, 23, 28, 29, 30, 31, 32, 33, 34, 35, 36, 37, 38, 39, 40, 41, 42, 43, 44, 45, 46, 47, 48, 49] (by decide +kernel) (by decide +kernel)
set_option maxRecDepth 20000 in
theorem gX12_shutAt_X12_lostIn : GoodIn wsX12_shutAt (wsV RX12 115 RX12 yX12_lostIn wsX12_lostIn) := goodIn_app (goodIn_of _ (by decide +kernel)) ggX12_shutAt_X12_lostIn
set_option maxRecDepth 20000 in
theorem ggX12_shutAt_X12_after : GoodIn wsX12_shutAt wsX12_after := goodIn_r _ [27, 14, 28, 29, 30, 31, 32, 33, 34, 35, 36, 37, 38, 39, 40, 41, 42, 43, 44, 45, 46, 47, 48, 49] (by decide +kernel) (by decide +kernel)
set_option maxRecDepth 20000 in
theorem gX12_shutAt_X12_after : GoodIn wsX12_shutAt (wsV RX12 107 RX12 yX12_after wsX12_after) := goodIn_app (goodIn_of _ (by decide +kernel)) ggX12_shutAt_X12_after
theorem dX12_shutAt_0 : decode cX12_shutAt 0 = .ok (.aload_n 0, 1) := by decide +kernel
theorem dX12_shutAt_1 : decode cX12_shutAt 1 = .ok (.iconst 0, 1) := by decide +kernel
theorem dX12_shutAt_2 : decode cX12_shutAt 2 = .ok (.putfield 60, 3) := by decide +kernel
theorem dX12_shutAt_5 : decode cX12_shutAt 5 = .ok (.iload_n 1, 1) := by decide +kernel
theorem dX12_shutAt_6 : decode cX12_shutAt 6 = .ok (.i2l, 1) := by decide +kernel
theorem dX12_shutAt_7 : decode cX12_shutAt 7 = .ok (.lconst 0, 1) := by decide +kernel
theorem dX12_shutAt_8 : decode cX12_shutAt 8 = .ok (.ldc2_w 91, 3) := by decide +kernel
theorem dX12_shutAt_11 : decode cX12_shutAt 11 = .ok (.invokestatic 70, 3) := by decide +kernel
theorem dX12_shutAt_14 : decode cX12_shutAt 14 = .ok (.ifCond .ne 7, 3) := by decide +kernel
theorem dX12_shutAt_17 : decode cX12_shutAt 17 = .ok (.ldc2_w 125, 3) := by decide +kernel
theorem dX12_shutAt_20 : decode cX12_shutAt 20 = .ok (.lreturn, 1) := by decide +kernel
theorem dX12_shutAt_21 : decode cX12_shutAt 21 = .ok (.lconst 0, 1) := by decide +kernel
theorem dX12_shutAt_22 : decode cX12_shutAt 22 = .ok (.lstore_n 2, 1) := by decide +kernel
theorem dX12_shutAt_23 : decode cX12_shutAt 23 = .ok (.iconst 0, 1) := by decide +kernel
theorem dX12_shutAt_24 : decode cX12_shutAt 24 = .ok (.istore 4, 2) := by decide +kernel
theorem dX12_shutAt_26 : decode cX12_shutAt 26 = .ok (.iload 4, 2) := by decide +kernel
theorem dX12_shutAt_28 : decode cX12_shutAt 28 = .ok (.aload_n 0, 1) := by decide +kernel
theorem dX12_shutAt_29 : decode cX12_shutAt 29 = .ok (.getfield 87, 3) := by decide +kernel
theorem dX12_shutAt_32 : decode cX12_shutAt 32 = .ok (.if_icmp .ge 83, 3) := by decide +kernel
theorem dX12_shutAt_35 : decode cX12_shutAt 35 = .ok (.iconst 0, 1) := by decide +kernel
theorem dX12_shutAt_36 : decode cX12_shutAt 36 = .ok (.istore 5, 2) := by decide +kernel
theorem dX12_shutAt_38 : decode cX12_shutAt 38 = .ok (.iconst 0, 1) := by decide +kernel
theorem dX12_shutAt_39 : decode cX12_shutAt 39 = .ok (.istore 6, 2) := by decide +kernel
theorem dX12_shutAt_41 : decode cX12_shutAt 41 = .ok (.iload 6, 2) := by decide +kernel
theorem dX12_shutAt_43 : decode cX12_shutAt 43 = .ok (.bipush 8, 2) := by decide +kernel
theorem dX12_shutAt_45 : decode cX12_shutAt 45 = .ok (.if_icmp .ge 64, 3) := by decide +kernel
theorem dX12_shutAt_48 : decode cX12_shutAt 48 = .ok (.lload_n 2, 1) := by decide +kernel
theorem dX12_shutAt_49 : decode cX12_shutAt 49 = .ok (.aload_n 0, 1) := by decide +kernel
theorem dX12_shutAt_50 : decode cX12_shutAt 50 = .ok (.getfield 25, 3) := by decide +kernel
theorem dX12_shutAt_53 : decode cX12_shutAt 53 = .ok (.iload 4, 2) := by decide +kernel
theorem dX12_shutAt_55 : decode cX12_shutAt 55 = .ok (.iaload, 1) := by decide +kernel
theorem dX12_shutAt_56 : decode cX12_shutAt 56 = .ok (.i2l, 1) := by decide +kernel
theorem dX12_shutAt_57 : decode cX12_shutAt 57 = .ok (.aload_n 0, 1) := by decide +kernel
theorem dX12_shutAt_58 : decode cX12_shutAt 58 = .ok (.iload 4, 2) := by decide +kernel
theorem dX12_shutAt_60 : decode cX12_shutAt 60 = .ok (.iload 5, 2) := by decide +kernel
theorem dX12_shutAt_62 : decode cX12_shutAt 62 = .ok (.iload 6, 2) := by decide +kernel
theorem dX12_shutAt_64 : decode cX12_shutAt 64 = .ok (.iload_n 1, 1) := by decide +kernel
theorem dX12_shutAt_65 : decode cX12_shutAt 65 = .ok (.if_icmp .ne 7, 3) := by decide +kernel
theorem dX12_shutAt_68 : decode cX12_shutAt 68 = .ok (.iconst 1, 1) := by decide +kernel
theorem dX12_shutAt_69 : decode cX12_shutAt 69 = .ok (.goto 4, 3) := by decide +kernel
theorem dX12_shutAt_72 : decode cX12_shutAt 72 = .ok (.iconst 0, 1) := by decide +kernel
theorem dX12_shutAt_73 : decode cX12_shutAt 73 = .ok (.iload 6, 2) := by decide +kernel
theorem dX12_shutAt_75 : decode cX12_shutAt 75 = .ok (.invokevirtual 115, 3) := by decide +kernel
theorem dX12_shutAt_78 : decode cX12_shutAt 78 = .ok (.i2l, 1) := by decide +kernel
theorem dX12_shutAt_79 : decode cX12_shutAt 79 = .ok (.lmul, 1) := by decide +kernel
theorem dX12_shutAt_80 : decode cX12_shutAt 80 = .ok (.ladd, 1) := by decide +kernel
theorem dX12_shutAt_81 : decode cX12_shutAt 81 = .ok (.lstore_n 2, 1) := by decide +kernel
theorem dX12_shutAt_82 : decode cX12_shutAt 82 = .ok (.aload_n 0, 1) := by decide +kernel
theorem dX12_shutAt_83 : decode cX12_shutAt 83 = .ok (.iload 5, 2) := by decide +kernel
theorem dX12_shutAt_85 : decode cX12_shutAt 85 = .ok (.iload 6, 2) := by decide +kernel
theorem dX12_shutAt_87 : decode cX12_shutAt 87 = .ok (.iload_n 1, 1) := by decide +kernel
theorem dX12_shutAt_88 : decode cX12_shutAt 88 = .ok (.if_icmp .ne 7, 3) := by decide +kernel
theorem dX12_shutAt_91 : decode cX12_shutAt 91 = .ok (.iconst 1, 1) := by decide +kernel
theorem dX12_shutAt_92 : decode cX12_shutAt 92 = .ok (.goto 4, 3) := by decide +kernel
theorem dX12_shutAt_95 : decode cX12_shutAt 95 = .ok (.iconst 0, 1) := by decide +kernel
theorem dX12_shutAt_96 : decode cX12_shutAt 96 = .ok (.iload 6, 2) := by decide +kernel
theorem dX12_shutAt_98 : decode cX12_shutAt 98 = .ok (.invokevirtual 107, 3) := by decide +kernel
theorem dX12_shutAt_101 : decode cX12_shutAt 101 = .ok (.istore 5, 2) := by decide +kernel
theorem dX12_shutAt_103 : decode cX12_shutAt 103 = .ok (.iinc 6 1, 3) := by decide +kernel
theorem dX12_shutAt_106 : decode cX12_shutAt 106 = .ok (.goto (-65), 3) := by decide +kernel
theorem dX12_shutAt_109 : decode cX12_shutAt 109 = .ok (.iinc 4 1, 3) := by decide +kernel
theorem dX12_shutAt_112 : decode cX12_shutAt 112 = .ok (.goto (-86), 3) := by decide +kernel
theorem dX12_shutAt_115 : decode cX12_shutAt 115 = .ok (.lload_n 2, 1) := by decide +kernel
theorem dX12_shutAt_116 : decode cX12_shutAt 116 = .ok (.lreturn, 1) := by decide +kernel
theorem dX12_alarm_0 : decode cX12_alarm 0 = .ok (.aload_n 0, 1) := by decide +kernel
theorem dX12_alarm_1 : decode cX12_alarm 1 = .ok (.iconst 0, 1) := by decide +kernel
theorem dX12_alarm_2 : decode cX12_alarm 2 = .ok (.putfield 60, 3) := by decide +kernel
theorem dX12_alarm_5 : decode cX12_alarm 5 = .ok (.bipush 8, 2) := by decide +kernel
theorem dX12_alarm_7 : decode cX12_alarm 7 = .ok (.istore_n 1, 1) := by decide +kernel
theorem dX12_alarm_8 : decode cX12_alarm 8 = .ok (.iconst 0, 1) := by decide +kernel
theorem dX12_alarm_9 : decode cX12_alarm 9 = .ok (.istore_n 2, 1) := by decide +kernel
theorem dX12_alarm_10 : decode cX12_alarm 10 = .ok (.iload_n 2, 1) := by decide +kernel
theorem dX12_alarm_11 : decode cX12_alarm 11 = .ok (.bipush 8, 2) := by decide +kernel
theorem dX12_alarm_13 : decode cX12_alarm 13 = .ok (.aload_n 0, 1) := by decide +kernel
theorem dX12_alarm_14 : decode cX12_alarm 14 = .ok (.getfield 87, 3) := by decide +kernel
theorem dX12_alarm_17 : decode cX12_alarm 17 = .ok (.imul, 1) := by decide +kernel
theorem dX12_alarm_18 : decode cX12_alarm 18 = .ok (.if_icmp .ge 41, 3) := by decide +kernel
theorem dX12_alarm_21 : decode cX12_alarm 21 = .ok (.aload_n 0, 1) := by decide +kernel
theorem dX12_alarm_22 : decode cX12_alarm 22 = .ok (.getfield 28, 3) := by decide +kernel
theorem dX12_alarm_25 : decode cX12_alarm 25 = .ok (.iload_n 2, 1) := by decide +kernel
theorem dX12_alarm_26 : decode cX12_alarm 26 = .ok (.iaload, 1) := by decide +kernel
theorem dX12_alarm_27 : decode cX12_alarm 27 = .ok (.aload_n 0, 1) := by decide +kernel
theorem dX12_alarm_28 : decode cX12_alarm 28 = .ok (.getfield 7, 3) := by decide +kernel
theorem dX12_alarm_31 : decode cX12_alarm 31 = .ok (.iconst 2, 1) := by decide +kernel
theorem dX12_alarm_32 : decode cX12_alarm 32 = .ok (.iaload, 1) := by decide +kernel
theorem dX12_alarm_33 : decode cX12_alarm 33 = .ok (.if_icmp .le 18, 3) := by decide +kernel
theorem dX12_alarm_36 : decode cX12_alarm 36 = .ok (.iload_n 2, 1) := by decide +kernel
theorem dX12_alarm_37 : decode cX12_alarm 37 = .ok (.bipush 8, 2) := by decide +kernel
theorem dX12_alarm_39 : decode cX12_alarm 39 = .ok (.irem, 1) := by decide +kernel
theorem dX12_alarm_40 : decode cX12_alarm 40 = .ok (.iload_n 1, 1) := by decide +kernel
theorem dX12_alarm_41 : decode cX12_alarm 41 = .ok (.if_icmp .ge 10, 3) := by decide +kernel
theorem dX12_alarm_44 : decode cX12_alarm 44 = .ok (.iload_n 2, 1) := by decide +kernel
theorem dX12_alarm_45 : decode cX12_alarm 45 = .ok (.bipush 8, 2) := by decide +kernel
theorem dX12_alarm_47 : decode cX12_alarm 47 = .ok (.irem, 1) := by decide +kernel
theorem dX12_alarm_48 : decode cX12_alarm 48 = .ok (.goto 4, 3) := by decide +kernel
theorem dX12_alarm_51 : decode cX12_alarm 51 = .ok (.iload_n 1, 1) := by decide +kernel
theorem dX12_alarm_52 : decode cX12_alarm 52 = .ok (.istore_n 1, 1) := by decide +kernel
theorem dX12_alarm_53 : decode cX12_alarm 53 = .ok (.iinc 2 1, 3) := by decide +kernel
theorem dX12_alarm_56 : decode cX12_alarm 56 = .ok (.goto (-46), 3) := by decide +kernel
theorem dX12_alarm_59 : decode cX12_alarm 59 = .ok (.iload_n 1, 1) := by decide +kernel
theorem dX12_alarm_60 : decode cX12_alarm 60 = .ok (.bipush 8, 2) := by decide +kernel
theorem dX12_alarm_62 : decode cX12_alarm 62 = .ok (.if_icmp .ne 8, 3) := by decide +kernel
theorem dX12_alarm_65 : decode cX12_alarm 65 = .ok (.bipush 8, 2) := by decide +kernel
theorem dX12_alarm_67 : decode cX12_alarm 67 = .ok (.goto 26, 3) := by decide +kernel
theorem dX12_alarm_70 : decode cX12_alarm 70 = .ok (.iload_n 1, 1) := by decide +kernel
theorem dX12_alarm_71 : decode cX12_alarm 71 = .ok (.aload_n 0, 1) := by decide +kernel
theorem dX12_alarm_72 : decode cX12_alarm 72 = .ok (.getfield 7, 3) := by decide +kernel
theorem dX12_alarm_75 : decode cX12_alarm 75 = .ok (.iconst 0, 1) := by decide +kernel
theorem dX12_alarm_76 : decode cX12_alarm 76 = .ok (.iaload, 1) := by decide +kernel
theorem dX12_alarm_77 : decode cX12_alarm 77 = .ok (.if_icmp .ge 8, 3) := by decide +kernel
theorem dX12_alarm_80 : decode cX12_alarm 80 = .ok (.ldc 127, 2) := by decide +kernel
theorem dX12_alarm_82 : decode cX12_alarm 82 = .ok (.goto 11, 3) := by decide +kernel
theorem dX12_alarm_85 : decode cX12_alarm 85 = .ok (.iload_n 1, 1) := by decide +kernel
theorem dX12_alarm_86 : decode cX12_alarm 86 = .ok (.aload_n 0, 1) := by decide +kernel
theorem dX12_alarm_87 : decode cX12_alarm 87 = .ok (.getfield 7, 3) := by decide +kernel
theorem dX12_alarm_90 : decode cX12_alarm 90 = .ok (.iconst 0, 1) := by decide +kernel
theorem dX12_alarm_91 : decode cX12_alarm 91 = .ok (.iaload, 1) := by decide +kernel
theorem dX12_alarm_92 : decode cX12_alarm 92 = .ok (.isub, 1) := by decide +kernel
theorem dX12_alarm_93 : decode cX12_alarm 93 = .ok (.ireturn, 1) := by decide +kernel
set_option maxRecDepth 20000 in
theorem ggX12_groups_X12_in : GoodIn wsX12_groups wsX12_in := goodIn_r _ [8] (by decide +kernel) (by decide +kernel)
set_option maxRecDepth 20000 in
theorem gX12_groups_X12_in : GoodIn wsX12_groups (va_wsS RX12 70 yX12_in wsX12_in) := goodIn_app (goodIn_of _ (by decide +kernel)) ggX12_groups_X12_in
set_option maxRecDepth 20000 in
theorem ggX12_groups_X12_groupOf : GoodIn wsX12_groups wsX12_groupOf := goodIn_r _ [12, 13, 14, 15, 16, 17, 18, 19, 20, 21, 22, 23, 24, 25, 26, 27, 28, 29, 30, 31, 32, 33, 34, 35] (by decide +kernel) (by decide +kernel)
set_option maxRecDepth 20000 in
theorem gX12_groups_X12_groupOf : GoodIn wsX12_groups (wsV RX12 111 RX12 yX12_groupOf wsX12_groupOf) := goodIn_app (goodIn_of _ (by decide +kernel)) ggX12_groups_X12_groupOf
theorem dX12_groups_0 : decode cX12_groups 0 = .ok (.aload_n 0, 1) := by decide +kernel
theorem dX12_groups_1 : decode cX12_groups 1 = .ok (.iconst 0, 1) := by decide +kernel
theorem dX12_groups_2 : decode cX12_groups 2 = .ok (.putfield 60, 3) := by decide +kernel
theorem dX12_groups_5 : decode cX12_groups 5 = .ok (.iload_n 1, 1) := by decide +kernel
theorem dX12_groups_6 : decode cX12_groups 6 = .ok (.i2l, 1) := by decide +kernel
theorem dX12_groups_7 : decode cX12_groups 7 = .ok (.lconst 0, 1) := by decide +kernel
theorem dX12_groups_8 : decode cX12_groups 8 = .ok (.ldc2_w 68, 3) := by decide +kernel
theorem dX12_groups_11 : decode cX12_groups 11 = .ok (.invokestatic 70, 3) := by decide +kernel
theorem dX12_groups_14 : decode cX12_groups 14 = .ok (.ifCond .ne 6, 3) := by decide +kernel
theorem dX12_groups_17 : decode cX12_groups 17 = .ok (.ldc 80, 2) := by decide +kernel
theorem dX12_groups_19 : decode cX12_groups 19 = .ok (.ireturn, 1) := by decide +kernel
theorem dX12_groups_20 : decode cX12_groups 20 = .ok (.iconst 0, 1) := by decide +kernel
theorem dX12_groups_21 : decode cX12_groups 21 = .ok (.istore_n 2, 1) := by decide +kernel
theorem dX12_groups_22 : decode cX12_groups 22 = .ok (.iconst 0, 1) := by decide +kernel
theorem dX12_groups_23 : decode cX12_groups 23 = .ok (.istore_n 3, 1) := by decide +kernel
theorem dX12_groups_24 : decode cX12_groups 24 = .ok (.iload_n 3, 1) := by decide +kernel
theorem dX12_groups_25 : decode cX12_groups 25 = .ok (.aload_n 0, 1) := by decide +kernel
theorem dX12_groups_26 : decode cX12_groups 26 = .ok (.getfield 87, 3) := by decide +kernel
theorem dX12_groups_29 : decode cX12_groups 29 = .ok (.if_icmp .ge 27, 3) := by decide +kernel
theorem dX12_groups_32 : decode cX12_groups 32 = .ok (.iload_n 2, 1) := by decide +kernel
theorem dX12_groups_33 : decode cX12_groups 33 = .ok (.aload_n 0, 1) := by decide +kernel
theorem dX12_groups_34 : decode cX12_groups 34 = .ok (.iload_n 3, 1) := by decide +kernel
theorem dX12_groups_35 : decode cX12_groups 35 = .ok (.iload_n 1, 1) := by decide +kernel
theorem dX12_groups_36 : decode cX12_groups 36 = .ok (.invokevirtual 111, 3) := by decide +kernel
theorem dX12_groups_39 : decode cX12_groups 39 = .ok (.iload_n 3, 1) := by decide +kernel
theorem dX12_groups_40 : decode cX12_groups 40 = .ok (.if_icmp .ne 7, 3) := by decide +kernel
theorem dX12_groups_43 : decode cX12_groups 43 = .ok (.iconst 1, 1) := by decide +kernel
theorem dX12_groups_44 : decode cX12_groups 44 = .ok (.goto 4, 3) := by decide +kernel
theorem dX12_groups_47 : decode cX12_groups 47 = .ok (.iconst 0, 1) := by decide +kernel
theorem dX12_groups_48 : decode cX12_groups 48 = .ok (.iadd, 1) := by decide +kernel
theorem dX12_groups_49 : decode cX12_groups 49 = .ok (.istore_n 2, 1) := by decide +kernel
theorem dX12_groups_50 : decode cX12_groups 50 = .ok (.iinc 3 1, 3) := by decide +kernel
theorem dX12_groups_53 : decode cX12_groups 53 = .ok (.goto (-29), 3) := by decide +kernel
theorem dX12_groups_56 : decode cX12_groups 56 = .ok (.iload_n 2, 1) := by decide +kernel
theorem dX12_groups_57 : decode cX12_groups 57 = .ok (.ireturn, 1) := by decide +kernel
set_option maxRecDepth 20000 in
theorem ggX12_isGate_X12_in : GoodIn wsX12_isGate wsX12_in := goodIn_r _ [5] (by decide +kernel) (by decide +kernel)
set_option maxRecDepth 20000 in
theorem gX12_isGate_X12_in : GoodIn wsX12_isGate (va_wsS RX12 70 yX12_in wsX12_in) := goodIn_app (goodIn_of _ (by decide +kernel)) ggX12_isGate_X12_in
theorem dX12_isGate_0 : decode cX12_isGate 0 = .ok (.iload_n 1, 1) := by decide +kernel
theorem dX12_isGate_1 : decode cX12_isGate 1 = .ok (.i2l, 1) := by decide +kernel
theorem dX12_isGate_2 : decode cX12_isGate 2 = .ok (.lconst 0, 1) := by decide +kernel
theorem dX12_isGate_3 : decode cX12_isGate 3 = .ok (.aload_n 0, 1) := by decide +kernel
theorem dX12_isGate_4 : decode cX12_isGate 4 = .ok (.getfield 128, 3) := by decide +kernel
theorem dX12_isGate_7 : decode cX12_isGate 7 = .ok (.iconst 1, 1) := by decide +kernel
theorem dX12_isGate_8 : decode cX12_isGate 8 = .ok (.isub, 1) := by decide +kernel
theorem dX12_isGate_9 : decode cX12_isGate 9 = .ok (.i2l, 1) := by decide +kernel
theorem dX12_isGate_10 : decode cX12_isGate 10 = .ok (.invokestatic 70, 3) := by decide +kernel
theorem dX12_isGate_13 : decode cX12_isGate 13 = .ok (.ireturn, 1) := by decide +kernel
set_option maxRecDepth 20000 in
theorem ggX12_gate_X12_in : GoodIn wsX12_gate wsX12_in := goodIn_r _ [12] (by decide +kernel) (by decide +kernel)
set_option maxRecDepth 20000 in
theorem gX12_gate_X12_in : GoodIn wsX12_gate (va_wsS RX12 70 yX12_in wsX12_in) := goodIn_app (goodIn_of _ (by decide +kernel)) ggX12_gate_X12_in
theorem dX12_gate_0 : decode cX12_gate 0 = .ok (.aload_n 0, 1) := by decide +kernel
theorem dX12_gate_1 : decode cX12_gate 1 = .ok (.iconst 0, 1) := by decide +kernel
theorem dX12_gate_2 : decode cX12_gate 2 = .ok (.putfield 60, 3) := by decide +kernel
theorem dX12_gate_5 : decode cX12_gate 5 = .ok (.iload_n 1, 1) := by decide +kernel
theorem dX12_gate_6 : decode cX12_gate 6 = .ok (.i2l, 1) := by decide +kernel
theorem dX12_gate_7 : decode cX12_gate 7 = .ok (.lconst 1, 1) := by decide +kernel
theorem dX12_gate_8 : decode cX12_gate 8 = .ok (.ldc2_w 131, 3) := by decide +kernel
theorem dX12_gate_11 : decode cX12_gate 11 = .ok (.invokestatic 70, 3) := by decide +kernel
theorem dX12_gate_14 : decode cX12_gate 14 = .ok (.ifCond .eq 15, 3) := by decide +kernel
theorem dX12_gate_17 : decode cX12_gate 17 = .ok (.iload_n 2, 1) := by decide +kernel
theorem dX12_gate_18 : decode cX12_gate 18 = .ok (.i2l, 1) := by decide +kernel
theorem dX12_gate_19 : decode cX12_gate 19 = .ok (.lconst 0, 1) := by decide +kernel
theorem dX12_gate_20 : decode cX12_gate 20 = .ok (.ldc2_w 133, 3) := by decide +kernel
theorem dX12_gate_23 : decode cX12_gate 23 = .ok (.invokestatic 70, 3) := by decide +kernel
theorem dX12_gate_26 : decode cX12_gate 26 = .ok (.ifCond .ne 6, 3) := by decide +kernel
theorem dX12_gate_29 : decode cX12_gate 29 = .ok (.ldc 80, 2) := by decide +kernel
theorem dX12_gate_31 : decode cX12_gate 31 = .ok (.ireturn, 1) := by decide +kernel
theorem dX12_gate_32 : decode cX12_gate 32 = .ok (.aload_n 0, 1) := by decide +kernel
theorem dX12_gate_33 : decode cX12_gate 33 = .ok (.getfield 128, 3) := by decide +kernel
theorem dX12_gate_36 : decode cX12_gate 36 = .ok (.bipush 6, 2) := by decide +kernel
theorem dX12_gate_38 : decode cX12_gate 38 = .ok (.if_icmp .ne 6, 3) := by decide +kernel
theorem dX12_gate_41 : decode cX12_gate 41 = .ok (.ldc 90, 2) := by decide +kernel
theorem dX12_gate_43 : decode cX12_gate 43 = .ok (.ireturn, 1) := by decide +kernel
theorem dX12_gate_44 : decode cX12_gate 44 = .ok (.aload_n 0, 1) := by decide +kernel
theorem dX12_gate_45 : decode cX12_gate 45 = .ok (.getfield 39, 3) := by decide +kernel
theorem dX12_gate_48 : decode cX12_gate 48 = .ok (.aload_n 0, 1) := by decide +kernel
theorem dX12_gate_49 : decode cX12_gate 49 = .ok (.getfield 128, 3) := by decide +kernel
theorem dX12_gate_52 : decode cX12_gate 52 = .ok (.iload_n 1, 1) := by decide +kernel
theorem dX12_gate_53 : decode cX12_gate 53 = .ok (.iastore, 1) := by decide +kernel
theorem dX12_gate_54 : decode cX12_gate 54 = .ok (.aload_n 0, 1) := by decide +kernel
theorem dX12_gate_55 : decode cX12_gate 55 = .ok (.getfield 42, 3) := by decide +kernel
theorem dX12_gate_58 : decode cX12_gate 58 = .ok (.aload_n 0, 1) := by decide +kernel
theorem dX12_gate_59 : decode cX12_gate 59 = .ok (.getfield 128, 3) := by decide +kernel
theorem dX12_gate_62 : decode cX12_gate 62 = .ok (.iload_n 2, 1) := by decide +kernel
theorem dX12_gate_63 : decode cX12_gate 63 = .ok (.iastore, 1) := by decide +kernel
theorem dX12_gate_64 : decode cX12_gate 64 = .ok (.aload_n 0, 1) := by decide +kernel
theorem dX12_gate_65 : decode cX12_gate 65 = .ok (.dup, 1) := by decide +kernel
theorem dX12_gate_66 : decode cX12_gate 66 = .ok (.getfield 128, 3) := by decide +kernel
theorem dX12_gate_69 : decode cX12_gate 69 = .ok (.iconst 1, 1) := by decide +kernel
theorem dX12_gate_70 : decode cX12_gate 70 = .ok (.iadd, 1) := by decide +kernel
theorem dX12_gate_71 : decode cX12_gate 71 = .ok (.putfield 128, 3) := by decide +kernel
theorem dX12_gate_74 : decode cX12_gate 74 = .ok (.aload_n 0, 1) := by decide +kernel
theorem dX12_gate_75 : decode cX12_gate 75 = .ok (.getfield 128, 3) := by decide +kernel
theorem dX12_gate_78 : decode cX12_gate 78 = .ok (.iconst 1, 1) := by decide +kernel
theorem dX12_gate_79 : decode cX12_gate 79 = .ok (.isub, 1) := by decide +kernel
theorem dX12_gate_80 : decode cX12_gate 80 = .ok (.ireturn, 1) := by decide +kernel
set_option maxRecDepth 20000 in
theorem ggX12_fail_X12_isGate : GoodIn wsX12_fail wsX12_isGate := goodIn_r _ [8, 9, 10, 11, 7, 12, 13, 14, 15, 16, 17, 18, 19, 20, 21, 22, 23, 24, 25, 26, 27, 28, 29, 30, 31, 32, 33, 34] (by decide +kernel) (by decide +kernel)
set_option maxRecDepth 20000 in
theorem gX12_fail_X12_isGate : GoodIn wsX12_fail (wsV RX12 135 RX12 yX12_isGate wsX12_isGate) := goodIn_app (goodIn_of _ (by decide +kernel)) ggX12_fail_X12_isGate
theorem dX12_fail_0 : decode cX12_fail 0 = .ok (.aload_n 0, 1) := by decide +kernel
theorem dX12_fail_1 : decode cX12_fail 1 = .ok (.iconst 0, 1) := by decide +kernel
theorem dX12_fail_2 : decode cX12_fail 2 = .ok (.putfield 60, 3) := by decide +kernel
theorem dX12_fail_5 : decode cX12_fail 5 = .ok (.aload_n 0, 1) := by decide +kernel
theorem dX12_fail_6 : decode cX12_fail 6 = .ok (.iload_n 1, 1) := by decide +kernel
theorem dX12_fail_7 : decode cX12_fail 7 = .ok (.invokevirtual 135, 3) := by decide +kernel
theorem dX12_fail_10 : decode cX12_fail 10 = .ok (.ifCond .ne 6, 3) := by decide +kernel
theorem dX12_fail_13 : decode cX12_fail 13 = .ok (.ldc 80, 2) := by decide +kernel
theorem dX12_fail_15 : decode cX12_fail 15 = .ok (.ireturn, 1) := by decide +kernel
theorem dX12_fail_16 : decode cX12_fail 16 = .ok (.aload_n 0, 1) := by decide +kernel
theorem dX12_fail_17 : decode cX12_fail 17 = .ok (.getfield 45, 3) := by decide +kernel
theorem dX12_fail_20 : decode cX12_fail 20 = .ok (.iload_n 1, 1) := by decide +kernel
theorem dX12_fail_21 : decode cX12_fail 21 = .ok (.baload, 1) := by decide +kernel
theorem dX12_fail_22 : decode cX12_fail 22 = .ok (.istore_n 2, 1) := by decide +kernel
theorem dX12_fail_23 : decode cX12_fail 23 = .ok (.aload_n 0, 1) := by decide +kernel
theorem dX12_fail_24 : decode cX12_fail 24 = .ok (.getfield 45, 3) := by decide +kernel
theorem dX12_fail_27 : decode cX12_fail 27 = .ok (.iload_n 1, 1) := by decide +kernel
theorem dX12_fail_28 : decode cX12_fail 28 = .ok (.iconst 1, 1) := by decide +kernel
theorem dX12_fail_29 : decode cX12_fail 29 = .ok (.bastore, 1) := by decide +kernel
theorem dX12_fail_30 : decode cX12_fail 30 = .ok (.iload_n 2, 1) := by decide +kernel
theorem dX12_fail_31 : decode cX12_fail 31 = .ok (.ifCond .eq 7, 3) := by decide +kernel
theorem dX12_fail_34 : decode cX12_fail 34 = .ok (.iconst 0, 1) := by decide +kernel
theorem dX12_fail_35 : decode cX12_fail 35 = .ok (.goto 4, 3) := by decide +kernel
theorem dX12_fail_38 : decode cX12_fail 38 = .ok (.iconst 1, 1) := by decide +kernel
theorem dX12_fail_39 : decode cX12_fail 39 = .ok (.ireturn, 1) := by decide +kernel
set_option maxRecDepth 20000 in
theorem ggX12_mend_X12_isGate : GoodIn wsX12_mend wsX12_isGate := goodIn_r _ [8, 9, 10, 11, 7, 12, 13, 14, 15, 16, 17, 18, 19, 20, 21, 22, 23, 24, 25, 26, 27, 28, 29, 30, 31, 32, 33, 34] (by decide +kernel) (by decide +kernel)
set_option maxRecDepth 20000 in
theorem gX12_mend_X12_isGate : GoodIn wsX12_mend (wsV RX12 135 RX12 yX12_isGate wsX12_isGate) := goodIn_app (goodIn_of _ (by decide +kernel)) ggX12_mend_X12_isGate
theorem dX12_mend_0 : decode cX12_mend 0 = .ok (.aload_n 0, 1) := by decide +kernel
theorem dX12_mend_1 : decode cX12_mend 1 = .ok (.iconst 0, 1) := by decide +kernel
theorem dX12_mend_2 : decode cX12_mend 2 = .ok (.putfield 60, 3) := by decide +kernel
theorem dX12_mend_5 : decode cX12_mend 5 = .ok (.aload_n 0, 1) := by decide +kernel
theorem dX12_mend_6 : decode cX12_mend 6 = .ok (.iload_n 1, 1) := by decide +kernel
theorem dX12_mend_7 : decode cX12_mend 7 = .ok (.invokevirtual 135, 3) := by decide +kernel
theorem dX12_mend_10 : decode cX12_mend 10 = .ok (.ifCond .ne 6, 3) := by decide +kernel
theorem dX12_mend_13 : decode cX12_mend 13 = .ok (.ldc 80, 2) := by decide +kernel
theorem dX12_mend_15 : decode cX12_mend 15 = .ok (.ireturn, 1) := by decide +kernel
theorem dX12_mend_16 : decode cX12_mend 16 = .ok (.aload_n 0, 1) := by decide +kernel
theorem dX12_mend_17 : decode cX12_mend 17 = .ok (.getfield 45, 3) := by decide +kernel
theorem dX12_mend_20 : decode cX12_mend 20 = .ok (.iload_n 1, 1) := by decide +kernel
theorem dX12_mend_21 : decode cX12_mend 21 = .ok (.baload, 1) := by decide +kernel
theorem dX12_mend_22 : decode cX12_mend 22 = .ok (.istore_n 2, 1) := by decide +kernel
theorem dX12_mend_23 : decode cX12_mend 23 = .ok (.aload_n 0, 1) := by decide +kernel
theorem dX12_mend_24 : decode cX12_mend 24 = .ok (.getfield 45, 3) := by decide +kernel
theorem dX12_mend_27 : decode cX12_mend 27 = .ok (.iload_n 1, 1) := by decide +kernel
theorem dX12_mend_28 : decode cX12_mend 28 = .ok (.iconst 0, 1) := by decide +kernel
theorem dX12_mend_29 : decode cX12_mend 29 = .ok (.bastore, 1) := by decide +kernel
theorem dX12_mend_30 : decode cX12_mend 30 = .ok (.iload_n 2, 1) := by decide +kernel
theorem dX12_mend_31 : decode cX12_mend 31 = .ok (.ifCond .eq 7, 3) := by decide +kernel
theorem dX12_mend_34 : decode cX12_mend 34 = .ok (.iconst 1, 1) := by decide +kernel
theorem dX12_mend_35 : decode cX12_mend 35 = .ok (.goto 4, 3) := by decide +kernel
theorem dX12_mend_38 : decode cX12_mend 38 = .ok (.iconst 0, 1) := by decide +kernel
theorem dX12_mend_39 : decode cX12_mend 39 = .ok (.ireturn, 1) := by decide +kernel
theorem dX12_timeBy_0 : decode cX12_timeBy 0 = .ok (.iconst 0, 1) := by decide +kernel
theorem dX12_timeBy_1 : decode cX12_timeBy 1 = .ok (.istore_n 3, 1) := by decide +kernel
theorem dX12_timeBy_2 : decode cX12_timeBy 2 = .ok (.iload_n 3, 1) := by decide +kernel
theorem dX12_timeBy_3 : decode cX12_timeBy 3 = .ok (.iconst 3, 1) := by decide +kernel
theorem dX12_timeBy_4 : decode cX12_timeBy 4 = .ok (.if_icmp .ge 16, 3) := by decide +kernel
theorem dX12_timeBy_7 : decode cX12_timeBy 7 = .ok (.aload_n 0, 1) := by decide +kernel
theorem dX12_timeBy_8 : decode cX12_timeBy 8 = .ok (.getfield 48, 3) := by decide +kernel
theorem dX12_timeBy_11 : decode cX12_timeBy 11 = .ok (.iload_n 3, 1) := by decide +kernel
theorem dX12_timeBy_12 : decode cX12_timeBy 12 = .ok (.iconst 0, 1) := by decide +kernel
theorem dX12_timeBy_13 : decode cX12_timeBy 13 = .ok (.iastore, 1) := by decide +kernel
theorem dX12_timeBy_14 : decode cX12_timeBy 14 = .ok (.iinc 3 1, 3) := by decide +kernel
theorem dX12_timeBy_17 : decode cX12_timeBy 17 = .ok (.goto (-15), 3) := by decide +kernel
theorem dX12_timeBy_20 : decode cX12_timeBy 20 = .ok (.iconst 0, 1) := by decide +kernel
theorem dX12_timeBy_21 : decode cX12_timeBy 21 = .ok (.istore_n 3, 1) := by decide +kernel
theorem dX12_timeBy_22 : decode cX12_timeBy 22 = .ok (.iconst 0, 1) := by decide +kernel
theorem dX12_timeBy_23 : decode cX12_timeBy 23 = .ok (.istore 4, 2) := by decide +kernel
theorem dX12_timeBy_25 : decode cX12_timeBy 25 = .ok (.iload 4, 2) := by decide +kernel
theorem dX12_timeBy_27 : decode cX12_timeBy 27 = .ok (.aload_n 0, 1) := by decide +kernel
theorem dX12_timeBy_28 : decode cX12_timeBy 28 = .ok (.getfield 128, 3) := by decide +kernel
theorem dX12_timeBy_31 : decode cX12_timeBy 31 = .ok (.if_icmp .ge 148, 3) := by decide +kernel
theorem dX12_timeBy_34 : decode cX12_timeBy 34 = .ok (.aload_n 0, 1) := by decide +kernel
theorem dX12_timeBy_35 : decode cX12_timeBy 35 = .ok (.getfield 45, 3) := by decide +kernel
theorem dX12_timeBy_38 : decode cX12_timeBy 38 = .ok (.iload 4, 2) := by decide +kernel
theorem dX12_timeBy_40 : decode cX12_timeBy 40 = .ok (.baload, 1) := by decide +kernel
theorem dX12_timeBy_41 : decode cX12_timeBy 41 = .ok (.ifCond .ne 9, 3) := by decide +kernel
theorem dX12_timeBy_44 : decode cX12_timeBy 44 = .ok (.iload 4, 2) := by decide +kernel
theorem dX12_timeBy_46 : decode cX12_timeBy 46 = .ok (.iload_n 2, 1) := by decide +kernel
theorem dX12_timeBy_47 : decode cX12_timeBy 47 = .ok (.if_icmp .ne 103, 3) := by decide +kernel
theorem dX12_timeBy_50 : decode cX12_timeBy 50 = .ok (.aload_n 0, 1) := by decide +kernel
theorem dX12_timeBy_51 : decode cX12_timeBy 51 = .ok (.getfield 42, 3) := by decide +kernel
theorem dX12_timeBy_54 : decode cX12_timeBy 54 = .ok (.iload 4, 2) := by decide +kernel
theorem dX12_timeBy_56 : decode cX12_timeBy 56 = .ok (.iaload, 1) := by decide +kernel
theorem dX12_timeBy_57 : decode cX12_timeBy 57 = .ok (.ifCond .ne 6, 3) := by decide +kernel
theorem dX12_timeBy_60 : decode cX12_timeBy 60 = .ok (.ldc 127, 2) := by decide +kernel
theorem dX12_timeBy_62 : decode cX12_timeBy 62 = .ok (.ireturn, 1) := by decide +kernel
theorem dX12_timeBy_63 : decode cX12_timeBy 63 = .ok (.iconst 0, 1) := by decide +kernel
theorem dX12_timeBy_64 : decode cX12_timeBy 64 = .ok (.istore 5, 2) := by decide +kernel
theorem dX12_timeBy_66 : decode cX12_timeBy 66 = .ok (.iconst 1, 1) := by decide +kernel
theorem dX12_timeBy_67 : decode cX12_timeBy 67 = .ok (.istore 6, 2) := by decide +kernel
theorem dX12_timeBy_69 : decode cX12_timeBy 69 = .ok (.iload 6, 2) := by decide +kernel
theorem dX12_timeBy_71 : decode cX12_timeBy 71 = .ok (.iload_n 1, 1) := by decide +kernel
theorem dX12_timeBy_72 : decode cX12_timeBy 72 = .ok (.if_icmp .ge 35, 3) := by decide +kernel
theorem dX12_timeBy_75 : decode cX12_timeBy 75 = .ok (.aload_n 0, 1) := by decide +kernel
theorem dX12_timeBy_76 : decode cX12_timeBy 76 = .ok (.getfield 48, 3) := by decide +kernel
theorem dX12_timeBy_79 : decode cX12_timeBy 79 = .ok (.iload 6, 2) := by decide +kernel
theorem dX12_timeBy_81 : decode cX12_timeBy 81 = .ok (.iaload, 1) := by decide +kernel
theorem dX12_timeBy_82 : decode cX12_timeBy 82 = .ok (.aload_n 0, 1) := by decide +kernel
theorem dX12_timeBy_83 : decode cX12_timeBy 83 = .ok (.getfield 48, 3) := by decide +kernel
theorem dX12_timeBy_86 : decode cX12_timeBy 86 = .ok (.iload 5, 2) := by decide +kernel
theorem dX12_timeBy_88 : decode cX12_timeBy 88 = .ok (.iaload, 1) := by decide +kernel
theorem dX12_timeBy_89 : decode cX12_timeBy 89 = .ok (.if_icmp .ge 8, 3) := by decide +kernel
theorem dX12_timeBy_92 : decode cX12_timeBy 92 = .ok (.iload 6, 2) := by decide +kernel
theorem dX12_timeBy_94 : decode cX12_timeBy 94 = .ok (.goto 5, 3) := by decide +kernel
theorem dX12_timeBy_97 : decode cX12_timeBy 97 = .ok (.iload 5, 2) := by decide +kernel
theorem dX12_timeBy_99 : decode cX12_timeBy 99 = .ok (.istore 5, 2) := by decide +kernel
theorem dX12_timeBy_101 : decode cX12_timeBy 101 = .ok (.iinc 6 1, 3) := by decide +kernel
theorem dX12_timeBy_104 : decode cX12_timeBy 104 = .ok (.goto (-35), 3) := by decide +kernel
theorem dX12_timeBy_107 : decode cX12_timeBy 107 = .ok (.aload_n 0, 1) := by decide +kernel
theorem dX12_timeBy_108 : decode cX12_timeBy 108 = .ok (.getfield 48, 3) := by decide +kernel
theorem dX12_timeBy_111 : decode cX12_timeBy 111 = .ok (.iload 5, 2) := by decide +kernel
theorem dX12_timeBy_113 : decode cX12_timeBy 113 = .ok (.dup2, 1) := by decide +kernel
theorem dX12_timeBy_114 : decode cX12_timeBy 114 = .ok (.iaload, 1) := by decide +kernel
theorem dX12_timeBy_115 : decode cX12_timeBy 115 = .ok (.aload_n 0, 1) := by decide +kernel
theorem dX12_timeBy_116 : decode cX12_timeBy 116 = .ok (.getfield 42, 3) := by decide +kernel
theorem dX12_timeBy_119 : decode cX12_timeBy 119 = .ok (.iload 4, 2) := by decide +kernel
theorem dX12_timeBy_121 : decode cX12_timeBy 121 = .ok (.iaload, 1) := by decide +kernel
theorem dX12_timeBy_122 : decode cX12_timeBy 122 = .ok (.iadd, 1) := by decide +kernel
theorem dX12_timeBy_123 : decode cX12_timeBy 123 = .ok (.iastore, 1) := by decide +kernel
theorem dX12_timeBy_124 : decode cX12_timeBy 124 = .ok (.aload_n 0, 1) := by decide +kernel
theorem dX12_timeBy_125 : decode cX12_timeBy 125 = .ok (.getfield 48, 3) := by decide +kernel
theorem dX12_timeBy_128 : decode cX12_timeBy 128 = .ok (.iload 5, 2) := by decide +kernel
theorem dX12_timeBy_130 : decode cX12_timeBy 130 = .ok (.iaload, 1) := by decide +kernel
theorem dX12_timeBy_131 : decode cX12_timeBy 131 = .ok (.iload_n 3, 1) := by decide +kernel
theorem dX12_timeBy_132 : decode cX12_timeBy 132 = .ok (.if_icmp .le 13, 3) := by decide +kernel
theorem dX12_timeBy_135 : decode cX12_timeBy 135 = .ok (.aload_n 0, 1) := by decide +kernel
theorem dX12_timeBy_136 : decode cX12_timeBy 136 = .ok (.getfield 48, 3) := by decide +kernel
theorem dX12_timeBy_139 : decode cX12_timeBy 139 = .ok (.iload 5, 2) := by decide +kernel
theorem dX12_timeBy_141 : decode cX12_timeBy 141 = .ok (.iaload, 1) := by decide +kernel
theorem dX12_timeBy_142 : decode cX12_timeBy 142 = .ok (.goto 4, 3) := by decide +kernel
theorem dX12_timeBy_145 : decode cX12_timeBy 145 = .ok (.iload_n 3, 1) := by decide +kernel
theorem dX12_timeBy_146 : decode cX12_timeBy 146 = .ok (.istore_n 3, 1) := by decide +kernel
theorem dX12_timeBy_147 : decode cX12_timeBy 147 = .ok (.goto 26, 3) := by decide +kernel
theorem dX12_timeBy_150 : decode cX12_timeBy 150 = .ok (.aload_n 0, 1) := by decide +kernel
theorem dX12_timeBy_151 : decode cX12_timeBy 151 = .ok (.getfield 39, 3) := by decide +kernel
theorem dX12_timeBy_154 : decode cX12_timeBy 154 = .ok (.iload 4, 2) := by decide +kernel
theorem dX12_timeBy_156 : decode cX12_timeBy 156 = .ok (.iaload, 1) := by decide +kernel
theorem dX12_timeBy_157 : decode cX12_timeBy 157 = .ok (.iload_n 3, 1) := by decide +kernel
theorem dX12_timeBy_158 : decode cX12_timeBy 158 = .ok (.if_icmp .le 13, 3) := by decide +kernel
theorem dX12_timeBy_161 : decode cX12_timeBy 161 = .ok (.aload_n 0, 1) := by decide +kernel
theorem dX12_timeBy_162 : decode cX12_timeBy 162 = .ok (.getfield 39, 3) := by decide +kernel
theorem dX12_timeBy_165 : decode cX12_timeBy 165 = .ok (.iload 4, 2) := by decide +kernel
theorem dX12_timeBy_167 : decode cX12_timeBy 167 = .ok (.iaload, 1) := by decide +kernel
theorem dX12_timeBy_168 : decode cX12_timeBy 168 = .ok (.goto 4, 3) := by decide +kernel
theorem dX12_timeBy_171 : decode cX12_timeBy 171 = .ok (.iload_n 3, 1) := by decide +kernel
theorem dX12_timeBy_172 : decode cX12_timeBy 172 = .ok (.istore_n 3, 1) := by decide +kernel
theorem dX12_timeBy_173 : decode cX12_timeBy 173 = .ok (.iinc 4 1, 3) := by decide +kernel
theorem dX12_timeBy_176 : decode cX12_timeBy 176 = .ok (.goto (-151), 3) := by decide +kernel
theorem dX12_timeBy_179 : decode cX12_timeBy 179 = .ok (.iload_n 3, 1) := by decide +kernel
theorem dX12_timeBy_180 : decode cX12_timeBy 180 = .ok (.ireturn, 1) := by decide +kernel
set_option maxRecDepth 20000 in
theorem ggX12_time_X12_in : GoodIn wsX12_time wsX12_in := goodIn_r _ [10] (by decide +kernel) (by decide +kernel)
set_option maxRecDepth 20000 in
theorem gX12_time_X12_in : GoodIn wsX12_time (va_wsS RX12 70 yX12_in wsX12_in) := goodIn_app (goodIn_of _ (by decide +kernel)) ggX12_time_X12_in
set_option maxRecDepth 20000 in
theorem ggX12_time_X12_timeBy : GoodIn wsX12_time wsX12_timeBy := goodIn_r _ [14, 15, 5, 6, 16, 4, 17, 18, 19, 20, 21, 22, 23, 24, 25, 26, 27, 28, 29, 30, 31, 32, 33, 34, 35, 36, 37, 38, 39] (by decide +kernel) (by decide +kernel)
set_option maxRecDepth 20000 in
theorem gX12_time_X12_timeBy : GoodIn wsX12_time (wsV RX12 138 RX12 yX12_timeBy wsX12_timeBy) := goodIn_app (goodIn_of _ (by decide +kernel)) ggX12_time_X12_timeBy
theorem dX12_time_0 : decode cX12_time 0 = .ok (.aload_n 0, 1) := by decide +kernel
theorem dX12_time_1 : decode cX12_time 1 = .ok (.iconst 0, 1) := by decide +kernel
theorem dX12_time_2 : decode cX12_time 2 = .ok (.putfield 60, 3) := by decide +kernel
theorem dX12_time_5 : decode cX12_time 5 = .ok (.iload_n 1, 1) := by decide +kernel
theorem dX12_time_6 : decode cX12_time 6 = .ok (.i2l, 1) := by decide +kernel
theorem dX12_time_7 : decode cX12_time 7 = .ok (.lconst 1, 1) := by decide +kernel
theorem dX12_time_8 : decode cX12_time 8 = .ok (.ldc2_w 97, 3) := by decide +kernel
theorem dX12_time_11 : decode cX12_time 11 = .ok (.invokestatic 70, 3) := by decide +kernel
theorem dX12_time_14 : decode cX12_time 14 = .ok (.ifCond .eq 13, 3) := by decide +kernel
theorem dX12_time_17 : decode cX12_time 17 = .ok (.iload_n 2, 1) := by decide +kernel
theorem dX12_time_18 : decode cX12_time 18 = .ok (.i2l, 1) := by decide +kernel
theorem dX12_time_19 : decode cX12_time 19 = .ok (.lconst 0, 1) := by decide +kernel
theorem dX12_time_20 : decode cX12_time 20 = .ok (.lconst 1, 1) := by decide +kernel
theorem dX12_time_21 : decode cX12_time 21 = .ok (.invokestatic 70, 3) := by decide +kernel
theorem dX12_time_24 : decode cX12_time 24 = .ok (.ifCond .ne 6, 3) := by decide +kernel
theorem dX12_time_27 : decode cX12_time 27 = .ok (.ldc 80, 2) := by decide +kernel
theorem dX12_time_29 : decode cX12_time 29 = .ok (.ireturn, 1) := by decide +kernel
theorem dX12_time_30 : decode cX12_time 30 = .ok (.ldc 127, 2) := by decide +kernel
theorem dX12_time_32 : decode cX12_time 32 = .ok (.istore_n 3, 1) := by decide +kernel
theorem dX12_time_33 : decode cX12_time 33 = .ok (.iconst 0, 1) := by decide +kernel
theorem dX12_time_34 : decode cX12_time 34 = .ok (.istore 4, 2) := by decide +kernel
theorem dX12_time_36 : decode cX12_time 36 = .ok (.iconst 0, 1) := by decide +kernel
theorem dX12_time_37 : decode cX12_time 37 = .ok (.istore 5, 2) := by decide +kernel
theorem dX12_time_39 : decode cX12_time 39 = .ok (.iload 5, 2) := by decide +kernel
theorem dX12_time_41 : decode cX12_time 41 = .ok (.aload_n 0, 1) := by decide +kernel
theorem dX12_time_42 : decode cX12_time 42 = .ok (.getfield 128, 3) := by decide +kernel
theorem dX12_time_45 : decode cX12_time 45 = .ok (.if_icmp .ge 59, 3) := by decide +kernel
theorem dX12_time_48 : decode cX12_time 48 = .ok (.iload_n 2, 1) := by decide +kernel
theorem dX12_time_49 : decode cX12_time 49 = .ok (.iconst 1, 1) := by decide +kernel
theorem dX12_time_50 : decode cX12_time 50 = .ok (.if_icmp .ne 54, 3) := by decide +kernel
theorem dX12_time_53 : decode cX12_time 53 = .ok (.aload_n 0, 1) := by decide +kernel
theorem dX12_time_54 : decode cX12_time 54 = .ok (.getfield 45, 3) := by decide +kernel
theorem dX12_time_57 : decode cX12_time 57 = .ok (.iload 5, 2) := by decide +kernel
theorem dX12_time_59 : decode cX12_time 59 = .ok (.baload, 1) := by decide +kernel
theorem dX12_time_60 : decode cX12_time 60 = .ok (.ifCond .ne 38, 3) := by decide +kernel
theorem dX12_time_63 : decode cX12_time 63 = .ok (.aload_n 0, 1) := by decide +kernel
theorem dX12_time_64 : decode cX12_time 64 = .ok (.iload_n 1, 1) := by decide +kernel
theorem dX12_time_65 : decode cX12_time 65 = .ok (.iload 5, 2) := by decide +kernel
theorem dX12_time_67 : decode cX12_time 67 = .ok (.invokevirtual 138, 3) := by decide +kernel
theorem dX12_time_70 : decode cX12_time 70 = .ok (.istore 6, 2) := by decide +kernel
theorem dX12_time_72 : decode cX12_time 72 = .ok (.iload 6, 2) := by decide +kernel
theorem dX12_time_74 : decode cX12_time 74 = .ok (.ldc 127, 2) := by decide +kernel
theorem dX12_time_76 : decode cX12_time 76 = .ok (.if_icmp .ne 6, 3) := by decide +kernel
theorem dX12_time_79 : decode cX12_time 79 = .ok (.ldc 127, 2) := by decide +kernel
theorem dX12_time_81 : decode cX12_time 81 = .ok (.ireturn, 1) := by decide +kernel
theorem dX12_time_82 : decode cX12_time 82 = .ok (.iload 6, 2) := by decide +kernel
theorem dX12_time_84 : decode cX12_time 84 = .ok (.iload_n 3, 1) := by decide +kernel
theorem dX12_time_85 : decode cX12_time 85 = .ok (.if_icmp .le 8, 3) := by decide +kernel
theorem dX12_time_88 : decode cX12_time 88 = .ok (.iload 6, 2) := by decide +kernel
theorem dX12_time_90 : decode cX12_time 90 = .ok (.goto 4, 3) := by decide +kernel
theorem dX12_time_93 : decode cX12_time 93 = .ok (.iload_n 3, 1) := by decide +kernel
theorem dX12_time_94 : decode cX12_time 94 = .ok (.istore_n 3, 1) := by decide +kernel
theorem dX12_time_95 : decode cX12_time 95 = .ok (.iconst 1, 1) := by decide +kernel
theorem dX12_time_96 : decode cX12_time 96 = .ok (.istore 4, 2) := by decide +kernel
theorem dX12_time_98 : decode cX12_time 98 = .ok (.iinc 5 1, 3) := by decide +kernel
theorem dX12_time_101 : decode cX12_time 101 = .ok (.goto (-62), 3) := by decide +kernel
theorem dX12_time_104 : decode cX12_time 104 = .ok (.iload 4, 2) := by decide +kernel
theorem dX12_time_106 : decode cX12_time 106 = .ok (.ifCond .eq 7, 3) := by decide +kernel
theorem dX12_time_109 : decode cX12_time 109 = .ok (.iload_n 3, 1) := by decide +kernel
theorem dX12_time_110 : decode cX12_time 110 = .ok (.goto 9, 3) := by decide +kernel
theorem dX12_time_113 : decode cX12_time 113 = .ok (.aload_n 0, 1) := by decide +kernel
theorem dX12_time_114 : decode cX12_time 114 = .ok (.iload_n 1, 1) := by decide +kernel
theorem dX12_time_115 : decode cX12_time 115 = .ok (.iconst (-1), 1) := by decide +kernel
theorem dX12_time_116 : decode cX12_time 116 = .ok (.invokevirtual 138, 3) := by decide +kernel
theorem dX12_time_119 : decode cX12_time 119 = .ok (.ireturn, 1) := by decide +kernel
set_option maxRecDepth 20000 in
theorem ggX12_ship_X12_in : GoodIn wsX12_ship wsX12_in := goodIn_r _ [12] (by decide +kernel) (by decide +kernel)
set_option maxRecDepth 20000 in
theorem gX12_ship_X12_in : GoodIn wsX12_ship (va_wsS RX12 70 yX12_in wsX12_in) := goodIn_app (goodIn_of _ (by decide +kernel)) ggX12_ship_X12_in
theorem dX12_ship_0 : decode cX12_ship 0 = .ok (.aload_n 0, 1) := by decide +kernel
theorem dX12_ship_1 : decode cX12_ship 1 = .ok (.iconst 0, 1) := by decide +kernel
theorem dX12_ship_2 : decode cX12_ship 2 = .ok (.putfield 60, 3) := by decide +kernel
theorem dX12_ship_5 : decode cX12_ship 5 = .ok (.iload_n 1, 1) := by decide +kernel
theorem dX12_ship_6 : decode cX12_ship 6 = .ok (.i2l, 1) := by decide +kernel
theorem dX12_ship_7 : decode cX12_ship 7 = .ok (.lconst 0, 1) := by decide +kernel
theorem dX12_ship_8 : decode cX12_ship 8 = .ok (.ldc2_w 141, 3) := by decide +kernel
theorem dX12_ship_11 : decode cX12_ship 11 = .ok (.invokestatic 70, 3) := by decide +kernel
theorem dX12_ship_14 : decode cX12_ship 14 = .ok (.ifCond .eq 15, 3) := by decide +kernel
theorem dX12_ship_17 : decode cX12_ship 17 = .ok (.iload_n 2, 1) := by decide +kernel
theorem dX12_ship_18 : decode cX12_ship 18 = .ok (.i2l, 1) := by decide +kernel
theorem dX12_ship_19 : decode cX12_ship 19 = .ok (.lconst 1, 1) := by decide +kernel
theorem dX12_ship_20 : decode cX12_ship 20 = .ok (.ldc2_w 131, 3) := by decide +kernel
theorem dX12_ship_23 : decode cX12_ship 23 = .ok (.invokestatic 70, 3) := by decide +kernel
theorem dX12_ship_26 : decode cX12_ship 26 = .ok (.ifCond .ne 6, 3) := by decide +kernel
theorem dX12_ship_29 : decode cX12_ship 29 = .ok (.ldc 80, 2) := by decide +kernel
theorem dX12_ship_31 : decode cX12_ship 31 = .ok (.ireturn, 1) := by decide +kernel
theorem dX12_ship_32 : decode cX12_ship 32 = .ok (.aload_n 0, 1) := by decide +kernel
theorem dX12_ship_33 : decode cX12_ship 33 = .ok (.getfield 143, 3) := by decide +kernel
theorem dX12_ship_36 : decode cX12_ship 36 = .ok (.bipush 20, 2) := by decide +kernel
theorem dX12_ship_38 : decode cX12_ship 38 = .ok (.if_icmp .ne 6, 3) := by decide +kernel
theorem dX12_ship_41 : decode cX12_ship 41 = .ok (.ldc 90, 2) := by decide +kernel
theorem dX12_ship_43 : decode cX12_ship 43 = .ok (.ireturn, 1) := by decide +kernel
theorem dX12_ship_44 : decode cX12_ship 44 = .ok (.aload_n 0, 1) := by decide +kernel
theorem dX12_ship_45 : decode cX12_ship 45 = .ok (.getfield 51, 3) := by decide +kernel
theorem dX12_ship_48 : decode cX12_ship 48 = .ok (.aload_n 0, 1) := by decide +kernel
theorem dX12_ship_49 : decode cX12_ship 49 = .ok (.getfield 143, 3) := by decide +kernel
theorem dX12_ship_52 : decode cX12_ship 52 = .ok (.iload_n 1, 1) := by decide +kernel
theorem dX12_ship_53 : decode cX12_ship 53 = .ok (.iastore, 1) := by decide +kernel
theorem dX12_ship_54 : decode cX12_ship 54 = .ok (.aload_n 0, 1) := by decide +kernel
theorem dX12_ship_55 : decode cX12_ship 55 = .ok (.getfield 54, 3) := by decide +kernel
theorem dX12_ship_58 : decode cX12_ship 58 = .ok (.aload_n 0, 1) := by decide +kernel
theorem dX12_ship_59 : decode cX12_ship 59 = .ok (.getfield 143, 3) := by decide +kernel
theorem dX12_ship_62 : decode cX12_ship 62 = .ok (.iload_n 2, 1) := by decide +kernel
theorem dX12_ship_63 : decode cX12_ship 63 = .ok (.iastore, 1) := by decide +kernel
theorem dX12_ship_64 : decode cX12_ship 64 = .ok (.aload_n 0, 1) := by decide +kernel
theorem dX12_ship_65 : decode cX12_ship 65 = .ok (.dup, 1) := by decide +kernel
theorem dX12_ship_66 : decode cX12_ship 66 = .ok (.getfield 143, 3) := by decide +kernel
theorem dX12_ship_69 : decode cX12_ship 69 = .ok (.iconst 1, 1) := by decide +kernel
theorem dX12_ship_70 : decode cX12_ship 70 = .ok (.iadd, 1) := by decide +kernel
theorem dX12_ship_71 : decode cX12_ship 71 = .ok (.putfield 143, 3) := by decide +kernel
theorem dX12_ship_74 : decode cX12_ship 74 = .ok (.aload_n 0, 1) := by decide +kernel
theorem dX12_ship_75 : decode cX12_ship 75 = .ok (.getfield 143, 3) := by decide +kernel
theorem dX12_ship_78 : decode cX12_ship 78 = .ok (.iconst 1, 1) := by decide +kernel
theorem dX12_ship_79 : decode cX12_ship 79 = .ok (.isub, 1) := by decide +kernel
theorem dX12_ship_80 : decode cX12_ship 80 = .ok (.ireturn, 1) := by decide +kernel
set_option maxRecDepth 20000 in
theorem ggX12_waits_X12_in : GoodIn wsX12_waits wsX12_in := goodIn_r _ [11] (by decide +kernel) (by decide +kernel)
set_option maxRecDepth 20000 in
theorem gX12_waits_X12_in : GoodIn wsX12_waits (va_wsS RX12 70 yX12_in wsX12_in) := goodIn_app (goodIn_of _ (by decide +kernel)) ggX12_waits_X12_in
theorem dX12_waits_0 : decode cX12_waits 0 = .ok (.aload_n 0, 1) := by decide +kernel
theorem dX12_waits_1 : decode cX12_waits 1 = .ok (.iconst 0, 1) := by decide +kernel
theorem dX12_waits_2 : decode cX12_waits 2 = .ok (.putfield 60, 3) := by decide +kernel
theorem dX12_waits_5 : decode cX12_waits 5 = .ok (.iload_n 1, 1) := by decide +kernel
theorem dX12_waits_6 : decode cX12_waits 6 = .ok (.i2l, 1) := by decide +kernel
theorem dX12_waits_7 : decode cX12_waits 7 = .ok (.lconst 0, 1) := by decide +kernel
theorem dX12_waits_8 : decode cX12_waits 8 = .ok (.aload_n 0, 1) := by decide +kernel
theorem dX12_waits_9 : decode cX12_waits 9 = .ok (.getfield 143, 3) := by decide +kernel
theorem dX12_waits_12 : decode cX12_waits 12 = .ok (.iconst 1, 1) := by decide +kernel
theorem dX12_waits_13 : decode cX12_waits 13 = .ok (.isub, 1) := by decide +kernel
theorem dX12_waits_14 : decode cX12_waits 14 = .ok (.i2l, 1) := by decide +kernel
theorem dX12_waits_15 : decode cX12_waits 15 = .ok (.invokestatic 70, 3) := by decide +kernel
theorem dX12_waits_18 : decode cX12_waits 18 = .ok (.ifCond .eq 28, 3) := by decide +kernel
theorem dX12_waits_21 : decode cX12_waits 21 = .ok (.iload_n 2, 1) := by decide +kernel
theorem dX12_waits_22 : decode cX12_waits 22 = .ok (.i2l, 1) := by decide +kernel
theorem dX12_waits_23 : decode cX12_waits 23 = .ok (.lconst 0, 1) := by decide +kernel
theorem dX12_waits_24 : decode cX12_waits 24 = .ok (.ldc2_w 141, 3) := by decide +kernel
theorem dX12_waits_27 : decode cX12_waits 27 = .ok (.invokestatic 70, 3) := by decide +kernel
theorem dX12_waits_30 : decode cX12_waits 30 = .ok (.ifCond .eq 16, 3) := by decide +kernel
theorem dX12_waits_33 : decode cX12_waits 33 = .ok (.iload_n 3, 1) := by decide +kernel
theorem dX12_waits_34 : decode cX12_waits 34 = .ok (.i2l, 1) := by decide +kernel
theorem dX12_waits_35 : decode cX12_waits 35 = .ok (.iload_n 2, 1) := by decide +kernel
theorem dX12_waits_36 : decode cX12_waits 36 = .ok (.i2l, 1) := by decide +kernel
theorem dX12_waits_37 : decode cX12_waits 37 = .ok (.ldc2_w 141, 3) := by decide +kernel
theorem dX12_waits_40 : decode cX12_waits 40 = .ok (.invokestatic 70, 3) := by decide +kernel
theorem dX12_waits_43 : decode cX12_waits 43 = .ok (.ifCond .ne 6, 3) := by decide +kernel
theorem dX12_waits_46 : decode cX12_waits 46 = .ok (.ldc 80, 2) := by decide +kernel
theorem dX12_waits_48 : decode cX12_waits 48 = .ok (.ireturn, 1) := by decide +kernel
theorem dX12_waits_49 : decode cX12_waits 49 = .ok (.iconst 0, 1) := by decide +kernel
theorem dX12_waits_50 : decode cX12_waits 50 = .ok (.istore 4, 2) := by decide +kernel
theorem dX12_waits_52 : decode cX12_waits 52 = .ok (.iconst 0, 1) := by decide +kernel
theorem dX12_waits_53 : decode cX12_waits 53 = .ok (.istore 5, 2) := by decide +kernel
theorem dX12_waits_55 : decode cX12_waits 55 = .ok (.ldc 127, 2) := by decide +kernel
theorem dX12_waits_57 : decode cX12_waits 57 = .ok (.istore 6, 2) := by decide +kernel
theorem dX12_waits_59 : decode cX12_waits 59 = .ok (.iconst 0, 1) := by decide +kernel
theorem dX12_waits_60 : decode cX12_waits 60 = .ok (.istore 7, 2) := by decide +kernel
theorem dX12_waits_62 : decode cX12_waits 62 = .ok (.iload 7, 2) := by decide +kernel
theorem dX12_waits_64 : decode cX12_waits 64 = .ok (.aload_n 0, 1) := by decide +kernel
theorem dX12_waits_65 : decode cX12_waits 65 = .ok (.getfield 143, 3) := by decide +kernel
theorem dX12_waits_68 : decode cX12_waits 68 = .ok (.if_icmp .ge 47, 3) := by decide +kernel
theorem dX12_waits_71 : decode cX12_waits 71 = .ok (.iload 4, 2) := by decide +kernel
theorem dX12_waits_73 : decode cX12_waits 73 = .ok (.iload 7, 2) := by decide +kernel
theorem dX12_waits_75 : decode cX12_waits 75 = .ok (.ishr, 1) := by decide +kernel
theorem dX12_waits_76 : decode cX12_waits 76 = .ok (.iconst 1, 1) := by decide +kernel
theorem dX12_waits_77 : decode cX12_waits 77 = .ok (.iand, 1) := by decide +kernel
theorem dX12_waits_78 : decode cX12_waits 78 = .ok (.ifCond .ne 31, 3) := by decide +kernel
theorem dX12_waits_81 : decode cX12_waits 81 = .ok (.iload 6, 2) := by decide +kernel
theorem dX12_waits_83 : decode cX12_waits 83 = .ok (.ldc 127, 2) := by decide +kernel
theorem dX12_waits_85 : decode cX12_waits 85 = .ok (.if_icmp .eq 20, 3) := by decide +kernel
theorem dX12_waits_88 : decode cX12_waits 88 = .ok (.aload_n 0, 1) := by decide +kernel
theorem dX12_waits_89 : decode cX12_waits 89 = .ok (.getfield 51, 3) := by decide +kernel
theorem dX12_waits_92 : decode cX12_waits 92 = .ok (.iload 7, 2) := by decide +kernel
theorem dX12_waits_94 : decode cX12_waits 94 = .ok (.iaload, 1) := by decide +kernel
theorem dX12_waits_95 : decode cX12_waits 95 = .ok (.aload_n 0, 1) := by decide +kernel
theorem dX12_waits_96 : decode cX12_waits 96 = .ok (.getfield 51, 3) := by decide +kernel
theorem dX12_waits_99 : decode cX12_waits 99 = .ok (.iload 6, 2) := by decide +kernel
theorem dX12_waits_101 : decode cX12_waits 101 = .ok (.iaload, 1) := by decide +kernel
theorem dX12_waits_102 : decode cX12_waits 102 = .ok (.if_icmp .ge 7, 3) := by decide +kernel
theorem dX12_waits_105 : decode cX12_waits 105 = .ok (.iload 7, 2) := by decide +kernel
theorem dX12_waits_107 : decode cX12_waits 107 = .ok (.istore 6, 2) := by decide +kernel
theorem dX12_waits_109 : decode cX12_waits 109 = .ok (.iinc 7 1, 3) := by decide +kernel
theorem dX12_waits_112 : decode cX12_waits 112 = .ok (.goto (-50), 3) := by decide +kernel
theorem dX12_waits_115 : decode cX12_waits 115 = .ok (.aload_n 0, 1) := by decide +kernel
theorem dX12_waits_116 : decode cX12_waits 116 = .ok (.getfield 51, 3) := by decide +kernel
theorem dX12_waits_119 : decode cX12_waits 119 = .ok (.iload 6, 2) := by decide +kernel
theorem dX12_waits_121 : decode cX12_waits 121 = .ok (.iaload, 1) := by decide +kernel
theorem dX12_waits_122 : decode cX12_waits 122 = .ok (.iload 5, 2) := by decide +kernel
theorem dX12_waits_124 : decode cX12_waits 124 = .ok (.if_icmp .le 13, 3) := by decide +kernel
theorem dX12_waits_127 : decode cX12_waits 127 = .ok (.aload_n 0, 1) := by decide +kernel
theorem dX12_waits_128 : decode cX12_waits 128 = .ok (.getfield 51, 3) := by decide +kernel
theorem dX12_waits_131 : decode cX12_waits 131 = .ok (.iload 6, 2) := by decide +kernel
theorem dX12_waits_133 : decode cX12_waits 133 = .ok (.iaload, 1) := by decide +kernel
theorem dX12_waits_134 : decode cX12_waits 134 = .ok (.goto 5, 3) := by decide +kernel
theorem dX12_waits_137 : decode cX12_waits 137 = .ok (.iload 5, 2) := by decide +kernel
theorem dX12_waits_139 : decode cX12_waits 139 = .ok (.istore 7, 2) := by decide +kernel
theorem dX12_waits_141 : decode cX12_waits 141 = .ok (.iload 7, 2) := by decide +kernel
theorem dX12_waits_143 : decode cX12_waits 143 = .ok (.iload_n 2, 1) := by decide +kernel
theorem dX12_waits_144 : decode cX12_waits 144 = .ok (.if_icmp .lt 13, 3) := by decide +kernel
theorem dX12_waits_147 : decode cX12_waits 147 = .ok (.iload 7, 2) := by decide +kernel
theorem dX12_waits_149 : decode cX12_waits 149 = .ok (.iload_n 3, 1) := by decide +kernel
theorem dX12_waits_150 : decode cX12_waits 150 = .ok (.if_icmp .ge 7, 3) := by decide +kernel
theorem dX12_waits_153 : decode cX12_waits 153 = .ok (.iload_n 3, 1) := by decide +kernel
theorem dX12_waits_154 : decode cX12_waits 154 = .ok (.goto 5, 3) := by decide +kernel
theorem dX12_waits_157 : decode cX12_waits 157 = .ok (.iload 7, 2) := by decide +kernel
theorem dX12_waits_159 : decode cX12_waits 159 = .ok (.istore 7, 2) := by decide +kernel
theorem dX12_waits_161 : decode cX12_waits 161 = .ok (.iload 6, 2) := by decide +kernel
theorem dX12_waits_163 : decode cX12_waits 163 = .ok (.iload_n 1, 1) := by decide +kernel
theorem dX12_waits_164 : decode cX12_waits 164 = .ok (.if_icmp .ne 13, 3) := by decide +kernel
theorem dX12_waits_167 : decode cX12_waits 167 = .ok (.iload 7, 2) := by decide +kernel
theorem dX12_waits_169 : decode cX12_waits 169 = .ok (.aload_n 0, 1) := by decide +kernel
theorem dX12_waits_170 : decode cX12_waits 170 = .ok (.getfield 51, 3) := by decide +kernel
theorem dX12_waits_173 : decode cX12_waits 173 = .ok (.iload_n 1, 1) := by decide +kernel
theorem dX12_waits_174 : decode cX12_waits 174 = .ok (.iaload, 1) := by decide +kernel
theorem dX12_waits_175 : decode cX12_waits 175 = .ok (.isub, 1) := by decide +kernel
theorem dX12_waits_176 : decode cX12_waits 176 = .ok (.ireturn, 1) := by decide +kernel
theorem dX12_waits_177 : decode cX12_waits 177 = .ok (.iload 7, 2) := by decide +kernel
theorem dX12_waits_179 : decode cX12_waits 179 = .ok (.aload_n 0, 1) := by decide +kernel
theorem dX12_waits_180 : decode cX12_waits 180 = .ok (.getfield 54, 3) := by decide +kernel
theorem dX12_waits_183 : decode cX12_waits 183 = .ok (.iload 6, 2) := by decide +kernel
theorem dX12_waits_185 : decode cX12_waits 185 = .ok (.iaload, 1) := by decide +kernel
theorem dX12_waits_186 : decode cX12_waits 186 = .ok (.iadd, 1) := by decide +kernel
theorem dX12_waits_187 : decode cX12_waits 187 = .ok (.istore 5, 2) := by decide +kernel
theorem dX12_waits_189 : decode cX12_waits 189 = .ok (.iload 4, 2) := by decide +kernel
theorem dX12_waits_191 : decode cX12_waits 191 = .ok (.iconst 1, 1) := by decide +kernel
theorem dX12_waits_192 : decode cX12_waits 192 = .ok (.iload 6, 2) := by decide +kernel
theorem dX12_waits_194 : decode cX12_waits 194 = .ok (.ishl, 1) := by decide +kernel
theorem dX12_waits_195 : decode cX12_waits 195 = .ok (.ior, 1) := by decide +kernel
theorem dX12_waits_196 : decode cX12_waits 196 = .ok (.istore 4, 2) := by decide +kernel
theorem dX12_waits_198 : decode cX12_waits 198 = .ok (.goto (-143), 3) := by decide +kernel
theorem dX12_closingsOf_0 : decode cX12_closingsOf 0 = .ok (.iconst 0, 1) := by decide +kernel
theorem dX12_closingsOf_1 : decode cX12_closingsOf 1 = .ok (.istore 7, 2) := by decide +kernel
theorem dX12_closingsOf_3 : decode cX12_closingsOf 3 = .ok (.iconst 0, 1) := by decide +kernel
theorem dX12_closingsOf_4 : decode cX12_closingsOf 4 = .ok (.istore 8, 2) := by decide +kernel
theorem dX12_closingsOf_6 : decode cX12_closingsOf 6 = .ok (.iload 8, 2) := by decide +kernel
theorem dX12_closingsOf_8 : decode cX12_closingsOf 8 = .ok (.iload_n 3, 1) := by decide +kernel
theorem dX12_closingsOf_9 : decode cX12_closingsOf 9 = .ok (.if_icmp .ge 51, 3) := by decide +kernel
theorem dX12_closingsOf_12 : decode cX12_closingsOf 12 = .ok (.iload 7, 2) := by decide +kernel
theorem dX12_closingsOf_14 : decode cX12_closingsOf 14 = .ok (.aload_n 0, 1) := by decide +kernel
theorem dX12_closingsOf_15 : decode cX12_closingsOf 15 = .ok (.getfield 22, 3) := by decide +kernel
theorem dX12_closingsOf_18 : decode cX12_closingsOf 18 = .ok (.bipush 60, 2) := by decide +kernel
theorem dX12_closingsOf_20 : decode cX12_closingsOf 20 = .ok (.iload_n 1, 1) := by decide +kernel
theorem dX12_closingsOf_21 : decode cX12_closingsOf 21 = .ok (.imul, 1) := by decide +kernel
theorem dX12_closingsOf_22 : decode cX12_closingsOf 22 = .ok (.iload_n 2, 1) := by decide +kernel
theorem dX12_closingsOf_23 : decode cX12_closingsOf 23 = .ok (.iadd, 1) := by decide +kernel
theorem dX12_closingsOf_24 : decode cX12_closingsOf 24 = .ok (.iload 8, 2) := by decide +kernel
theorem dX12_closingsOf_26 : decode cX12_closingsOf 26 = .ok (.iadd, 1) := by decide +kernel
theorem dX12_closingsOf_27 : decode cX12_closingsOf 27 = .ok (.iaload, 1) := by decide +kernel
theorem dX12_closingsOf_28 : decode cX12_closingsOf 28 = .ok (.i2l, 1) := by decide +kernel
theorem dX12_closingsOf_29 : decode cX12_closingsOf 29 = .ok (.iload 6, 2) := by decide +kernel
theorem dX12_closingsOf_31 : decode cX12_closingsOf 31 = .ok (.iload 4, 2) := by decide +kernel
theorem dX12_closingsOf_33 : decode cX12_closingsOf 33 = .ok (.imul, 1) := by decide +kernel
theorem dX12_closingsOf_34 : decode cX12_closingsOf 34 = .ok (.bipush 10, 2) := by decide +kernel
theorem dX12_closingsOf_36 : decode cX12_closingsOf 36 = .ok (.idiv, 1) := by decide +kernel
theorem dX12_closingsOf_37 : decode cX12_closingsOf 37 = .ok (.i2l, 1) := by decide +kernel
theorem dX12_closingsOf_38 : decode cX12_closingsOf 38 = .ok (.ladd, 1) := by decide +kernel
theorem dX12_closingsOf_39 : decode cX12_closingsOf 39 = .ok (.iload 5, 2) := by decide +kernel
theorem dX12_closingsOf_41 : decode cX12_closingsOf 41 = .ok (.i2l, 1) := by decide +kernel
theorem dX12_closingsOf_42 : decode cX12_closingsOf 42 = .ok (.lcmp, 1) := by decide +kernel
theorem dX12_closingsOf_43 : decode cX12_closingsOf 43 = .ok (.ifCond .le 7, 3) := by decide +kernel
theorem dX12_closingsOf_46 : decode cX12_closingsOf 46 = .ok (.iconst 1, 1) := by decide +kernel
theorem dX12_closingsOf_47 : decode cX12_closingsOf 47 = .ok (.goto 4, 3) := by decide +kernel
theorem dX12_closingsOf_50 : decode cX12_closingsOf 50 = .ok (.iconst 0, 1) := by decide +kernel
theorem dX12_closingsOf_51 : decode cX12_closingsOf 51 = .ok (.iadd, 1) := by decide +kernel
theorem dX12_closingsOf_52 : decode cX12_closingsOf 52 = .ok (.istore 7, 2) := by decide +kernel
theorem dX12_closingsOf_54 : decode cX12_closingsOf 54 = .ok (.iinc 8 1, 3) := by decide +kernel
theorem dX12_closingsOf_57 : decode cX12_closingsOf 57 = .ok (.goto (-51), 3) := by decide +kernel
theorem dX12_closingsOf_60 : decode cX12_closingsOf 60 = .ok (.iload 7, 2) := by decide +kernel
theorem dX12_closingsOf_62 : decode cX12_closingsOf 62 = .ok (.ireturn, 1) := by decide +kernel
set_option maxRecDepth 20000 in
theorem ggX12_closings_X12_isSheet : GoodIn wsX12_closings wsX12_isSheet := goodIn_r _ [12, 13, 14, 15, 11, 16] (by decide +kernel) (by decide +kernel)
set_option maxRecDepth 20000 in
theorem gX12_closings_X12_isSheet : GoodIn wsX12_closings (va_wsS RX12 74 yX12_isSheet wsX12_isSheet) := goodIn_app (goodIn_of _ (by decide +kernel)) ggX12_closings_X12_isSheet
set_option maxRecDepth 20000 in
theorem ggX12_closings_X12_in : GoodIn wsX12_closings wsX12_in := goodIn_r _ [16] (by decide +kernel) (by decide +kernel)
set_option maxRecDepth 20000 in
theorem gX12_closings_X12_in : GoodIn wsX12_closings (va_wsS RX12 70 yX12_in wsX12_in) := goodIn_app (goodIn_of _ (by decide +kernel)) ggX12_closings_X12_in
set_option maxRecDepth 20000 in
theorem ggX12_closings_X12_found : GoodIn wsX12_closings wsX12_found := goodIn_r _ [20, 6, 21, 27, 28, 29, 30, 31, 32, 33, 34, 35, 36, 37, 38, 39, 40, 41, 42, 43, 44, 45, 46, 47, 48] (by decide +kernel) (by decide +kernel)
set_option maxRecDepth 20000 in
theorem gX12_closings_X12_found : GoodIn wsX12_closings (wsV RX12 81 RX12 yX12_found wsX12_found) := goodIn_app (goodIn_of _ (by decide +kernel)) ggX12_closings_X12_found
set_option maxRecDepth 20000 in
theorem ggX12_closings_X12_closingsOf : GoodIn wsX12_closings wsX12_closingsOf := goodIn_r _ [25, 26, 27, 28, 29, 30, 31, 32, 33, 34, 35, 36, 37, 38, 39, 40, 41, 42, 43, 44, 45, 46, 47, 48] (by decide +kernel) (by decide +kernel)
set_option maxRecDepth 20000 in
theorem gX12_closings_X12_closingsOf : GoodIn wsX12_closings (wsV RX12 150 RX12 yX12_closingsOf wsX12_closingsOf) := goodIn_app (goodIn_of _ (by decide +kernel)) ggX12_closings_X12_closingsOf
theorem dX12_closings_0 : decode cX12_closings 0 = .ok (.aload_n 0, 1) := by decide +kernel
theorem dX12_closings_1 : decode cX12_closings 1 = .ok (.iconst 0, 1) := by decide +kernel
theorem dX12_closings_2 : decode cX12_closings 2 = .ok (.putfield 60, 3) := by decide +kernel
theorem dX12_closings_5 : decode cX12_closings 5 = .ok (.iload_n 1, 1) := by decide +kernel
theorem dX12_closings_6 : decode cX12_closings 6 = .ok (.invokestatic 74, 3) := by decide +kernel
theorem dX12_closings_9 : decode cX12_closings 9 = .ok (.ifCond .eq 41, 3) := by decide +kernel
theorem dX12_closings_12 : decode cX12_closings 12 = .ok (.iload_n 3, 1) := by decide +kernel
theorem dX12_closings_13 : decode cX12_closings 13 = .ok (.i2l, 1) := by decide +kernel
theorem dX12_closings_14 : decode cX12_closings 14 = .ok (.lconst 1, 1) := by decide +kernel
theorem dX12_closings_15 : decode cX12_closings 15 = .ok (.ldc2_w 146, 3) := by decide +kernel
theorem dX12_closings_18 : decode cX12_closings 18 = .ok (.invokestatic 70, 3) := by decide +kernel
theorem dX12_closings_21 : decode cX12_closings 21 = .ok (.ifCond .eq 29, 3) := by decide +kernel
theorem dX12_closings_24 : decode cX12_closings 24 = .ok (.iload 6, 2) := by decide +kernel
theorem dX12_closings_26 : decode cX12_closings 26 = .ok (.i2l, 1) := by decide +kernel
theorem dX12_closings_27 : decode cX12_closings 27 = .ok (.lconst 0, 1) := by decide +kernel
theorem dX12_closings_28 : decode cX12_closings 28 = .ok (.ldc2_w 148, 3) := by decide +kernel
theorem dX12_closings_31 : decode cX12_closings 31 = .ok (.invokestatic 70, 3) := by decide +kernel
theorem dX12_closings_34 : decode cX12_closings 34 = .ok (.ifCond .eq 16, 3) := by decide +kernel
theorem dX12_closings_37 : decode cX12_closings 37 = .ok (.iload 4, 2) := by decide +kernel
theorem dX12_closings_39 : decode cX12_closings 39 = .ok (.i2l, 1) := by decide +kernel
theorem dX12_closings_40 : decode cX12_closings 40 = .ok (.lconst 0, 1) := by decide +kernel
theorem dX12_closings_41 : decode cX12_closings 41 = .ok (.ldc2_w 95, 3) := by decide +kernel
theorem dX12_closings_44 : decode cX12_closings 44 = .ok (.invokestatic 70, 3) := by decide +kernel
theorem dX12_closings_47 : decode cX12_closings 47 = .ok (.ifCond .ne 6, 3) := by decide +kernel
theorem dX12_closings_50 : decode cX12_closings 50 = .ok (.ldc 80, 2) := by decide +kernel
theorem dX12_closings_52 : decode cX12_closings 52 = .ok (.ireturn, 1) := by decide +kernel
theorem dX12_closings_53 : decode cX12_closings 53 = .ok (.aload_n 0, 1) := by decide +kernel
theorem dX12_closings_54 : decode cX12_closings 54 = .ok (.iconst 0, 1) := by decide +kernel
theorem dX12_closings_55 : decode cX12_closings 55 = .ok (.putfield 64, 3) := by decide +kernel
theorem dX12_closings_58 : decode cX12_closings 58 = .ok (.aload_n 0, 1) := by decide +kernel
theorem dX12_closings_59 : decode cX12_closings 59 = .ok (.getfield 16, 3) := by decide +kernel
theorem dX12_closings_62 : decode cX12_closings 62 = .ok (.iload_n 1, 1) := by decide +kernel
theorem dX12_closings_63 : decode cX12_closings 63 = .ok (.iaload, 1) := by decide +kernel
theorem dX12_closings_64 : decode cX12_closings 64 = .ok (.ifCond .ge 9, 3) := by decide +kernel
theorem dX12_closings_67 : decode cX12_closings 67 = .ok (.aload_n 0, 1) := by decide +kernel
theorem dX12_closings_68 : decode cX12_closings 68 = .ok (.iconst 1, 1) := by decide +kernel
theorem dX12_closings_69 : decode cX12_closings 69 = .ok (.invokevirtual 81, 3) := by decide +kernel
theorem dX12_closings_72 : decode cX12_closings 72 = .ok (.ireturn, 1) := by decide +kernel
theorem dX12_closings_73 : decode cX12_closings 73 = .ok (.iload_n 2, 1) := by decide +kernel
theorem dX12_closings_74 : decode cX12_closings 74 = .ok (.ifCond .lt 19, 3) := by decide +kernel
theorem dX12_closings_77 : decode cX12_closings 77 = .ok (.iload_n 2, 1) := by decide +kernel
theorem dX12_closings_78 : decode cX12_closings 78 = .ok (.i2l, 1) := by decide +kernel
theorem dX12_closings_79 : decode cX12_closings 79 = .ok (.iload_n 3, 1) := by decide +kernel
theorem dX12_closings_80 : decode cX12_closings 80 = .ok (.i2l, 1) := by decide +kernel
theorem dX12_closings_81 : decode cX12_closings 81 = .ok (.ladd, 1) := by decide +kernel
theorem dX12_closings_82 : decode cX12_closings 82 = .ok (.aload_n 0, 1) := by decide +kernel
theorem dX12_closings_83 : decode cX12_closings 83 = .ok (.getfield 19, 3) := by decide +kernel
theorem dX12_closings_86 : decode cX12_closings 86 = .ok (.iload_n 1, 1) := by decide +kernel
theorem dX12_closings_87 : decode cX12_closings 87 = .ok (.iaload, 1) := by decide +kernel
theorem dX12_closings_88 : decode cX12_closings 88 = .ok (.i2l, 1) := by decide +kernel
theorem dX12_closings_89 : decode cX12_closings 89 = .ok (.lcmp, 1) := by decide +kernel
theorem dX12_closings_90 : decode cX12_closings 90 = .ok (.ifCond .le 9, 3) := by decide +kernel
theorem dX12_closings_93 : decode cX12_closings 93 = .ok (.aload_n 0, 1) := by decide +kernel
theorem dX12_closings_94 : decode cX12_closings 94 = .ok (.iconst 2, 1) := by decide +kernel
theorem dX12_closings_95 : decode cX12_closings 95 = .ok (.invokevirtual 81, 3) := by decide +kernel
theorem dX12_closings_98 : decode cX12_closings 98 = .ok (.ireturn, 1) := by decide +kernel
theorem dX12_closings_99 : decode cX12_closings 99 = .ok (.aload_n 0, 1) := by decide +kernel
theorem dX12_closings_100 : decode cX12_closings 100 = .ok (.iload_n 1, 1) := by decide +kernel
theorem dX12_closings_101 : decode cX12_closings 101 = .ok (.iload_n 2, 1) := by decide +kernel
theorem dX12_closings_102 : decode cX12_closings 102 = .ok (.iload_n 3, 1) := by decide +kernel
theorem dX12_closings_103 : decode cX12_closings 103 = .ok (.iload 4, 2) := by decide +kernel
theorem dX12_closings_105 : decode cX12_closings 105 = .ok (.iload 5, 2) := by decide +kernel
theorem dX12_closings_107 : decode cX12_closings 107 = .ok (.iload 6, 2) := by decide +kernel
theorem dX12_closings_109 : decode cX12_closings 109 = .ok (.invokevirtual 150, 3) := by decide +kernel
theorem dX12_closings_112 : decode cX12_closings 112 = .ok (.ireturn, 1) := by decide +kernel
set_option maxRecDepth 20000 in
theorem ggX12_tooMany_X12_isSheet : GoodIn wsX12_tooMany wsX12_isSheet := goodIn_r _ [12, 13, 14, 15, 11, 16] (by decide +kernel) (by decide +kernel)
set_option maxRecDepth 20000 in
theorem gX12_tooMany_X12_isSheet : GoodIn wsX12_tooMany (va_wsS RX12 74 yX12_isSheet wsX12_isSheet) := goodIn_app (goodIn_of _ (by decide +kernel)) ggX12_tooMany_X12_isSheet
set_option maxRecDepth 20000 in
theorem ggX12_tooMany_X12_in : GoodIn wsX12_tooMany wsX12_in := goodIn_r _ [16] (by decide +kernel) (by decide +kernel)
set_option maxRecDepth 20000 in
theorem gX12_tooMany_X12_in : GoodIn wsX12_tooMany (va_wsS RX12 70 yX12_in wsX12_in) := goodIn_app (goodIn_of _ (by decide +kernel)) ggX12_tooMany_X12_in
set_option maxRecDepth 20000 in
theorem ggX12_tooMany_X12_found : GoodIn wsX12_tooMany wsX12_found := goodIn_r _ [20, 5, 21, 27, 28, 29, 30, 31, 32, 33, 34, 35, 36, 37, 38, 39, 40, 41, 42, 43, 44, 45, 46, 47, 48] (by decide +kernel) (by decide +kernel)
set_option maxRecDepth 20000 in
theorem gX12_tooMany_X12_found : GoodIn wsX12_tooMany (wsV RX12 81 RX12 yX12_found wsX12_found) := goodIn_app (goodIn_of _ (by decide +kernel)) ggX12_tooMany_X12_found
set_option maxRecDepth 20000 in
theorem ggX12_tooMany_X12_closingsOf : GoodIn wsX12_tooMany wsX12_closingsOf := goodIn_r _ [25, 26, 27, 28, 29, 30, 31, 32, 33, 34, 35, 36, 37, 38, 39, 40, 41, 42, 43, 44, 45, 46, 47, 48] (by decide +kernel) (by decide +kernel)
set_option maxRecDepth 20000 in
theorem gX12_tooMany_X12_closingsOf : GoodIn wsX12_tooMany (wsV RX12 150 RX12 yX12_closingsOf wsX12_closingsOf) := goodIn_app (goodIn_of _ (by decide +kernel)) ggX12_tooMany_X12_closingsOf
theorem dX12_tooMany_0 : decode cX12_tooMany 0 = .ok (.aload_n 0, 1) := by decide +kernel
theorem dX12_tooMany_1 : decode cX12_tooMany 1 = .ok (.iconst 0, 1) := by decide +kernel
theorem dX12_tooMany_2 : decode cX12_tooMany 2 = .ok (.putfield 60, 3) := by decide +kernel
theorem dX12_tooMany_5 : decode cX12_tooMany 5 = .ok (.iload_n 1, 1) := by decide +kernel
theorem dX12_tooMany_6 : decode cX12_tooMany 6 = .ok (.invokestatic 74, 3) := by decide +kernel
theorem dX12_tooMany_9 : decode cX12_tooMany 9 = .ok (.ifCond .eq 33, 3) := by decide +kernel
theorem dX12_tooMany_12 : decode cX12_tooMany 12 = .ok (.iload_n 3, 1) := by decide +kernel
theorem dX12_tooMany_13 : decode cX12_tooMany 13 = .ok (.i2l, 1) := by decide +kernel
theorem dX12_tooMany_14 : decode cX12_tooMany 14 = .ok (.lconst 1, 1) := by decide +kernel
theorem dX12_tooMany_15 : decode cX12_tooMany 15 = .ok (.ldc2_w 146, 3) := by decide +kernel
theorem dX12_tooMany_18 : decode cX12_tooMany 18 = .ok (.invokestatic 70, 3) := by decide +kernel
theorem dX12_tooMany_21 : decode cX12_tooMany 21 = .ok (.ifCond .eq 21, 3) := by decide +kernel
theorem dX12_tooMany_24 : decode cX12_tooMany 24 = .ok (.iload 4, 2) := by decide +kernel
theorem dX12_tooMany_26 : decode cX12_tooMany 26 = .ok (.i2l, 1) := by decide +kernel
theorem dX12_tooMany_27 : decode cX12_tooMany 27 = .ok (.lconst 0, 1) := by decide +kernel
theorem dX12_tooMany_28 : decode cX12_tooMany 28 = .ok (.ldc2_w 95, 3) := by decide +kernel
theorem dX12_tooMany_31 : decode cX12_tooMany 31 = .ok (.invokestatic 70, 3) := by decide +kernel
theorem dX12_tooMany_34 : decode cX12_tooMany 34 = .ok (.ifCond .eq 8, 3) := by decide +kernel
theorem dX12_tooMany_37 : decode cX12_tooMany 37 = .ok (.iload 6, 2) := by decide +kernel
theorem dX12_tooMany_39 : decode cX12_tooMany 39 = .ok (.ifCond .ge 6, 3) := by decide +kernel
theorem dX12_tooMany_42 : decode cX12_tooMany 42 = .ok (.ldc 80, 2) := by decide +kernel
theorem dX12_tooMany_44 : decode cX12_tooMany 44 = .ok (.ireturn, 1) := by decide +kernel
theorem dX12_tooMany_45 : decode cX12_tooMany 45 = .ok (.aload_n 0, 1) := by decide +kernel
theorem dX12_tooMany_46 : decode cX12_tooMany 46 = .ok (.iconst 0, 1) := by decide +kernel
theorem dX12_tooMany_47 : decode cX12_tooMany 47 = .ok (.putfield 64, 3) := by decide +kernel
theorem dX12_tooMany_50 : decode cX12_tooMany 50 = .ok (.aload_n 0, 1) := by decide +kernel
theorem dX12_tooMany_51 : decode cX12_tooMany 51 = .ok (.getfield 16, 3) := by decide +kernel
theorem dX12_tooMany_54 : decode cX12_tooMany 54 = .ok (.iload_n 1, 1) := by decide +kernel
theorem dX12_tooMany_55 : decode cX12_tooMany 55 = .ok (.iaload, 1) := by decide +kernel
theorem dX12_tooMany_56 : decode cX12_tooMany 56 = .ok (.ifCond .ge 9, 3) := by decide +kernel
theorem dX12_tooMany_59 : decode cX12_tooMany 59 = .ok (.aload_n 0, 1) := by decide +kernel
theorem dX12_tooMany_60 : decode cX12_tooMany 60 = .ok (.iconst 1, 1) := by decide +kernel
theorem dX12_tooMany_61 : decode cX12_tooMany 61 = .ok (.invokevirtual 81, 3) := by decide +kernel
theorem dX12_tooMany_64 : decode cX12_tooMany 64 = .ok (.ireturn, 1) := by decide +kernel
theorem dX12_tooMany_65 : decode cX12_tooMany 65 = .ok (.iload_n 2, 1) := by decide +kernel
theorem dX12_tooMany_66 : decode cX12_tooMany 66 = .ok (.ifCond .lt 19, 3) := by decide +kernel
theorem dX12_tooMany_69 : decode cX12_tooMany 69 = .ok (.iload_n 2, 1) := by decide +kernel
theorem dX12_tooMany_70 : decode cX12_tooMany 70 = .ok (.i2l, 1) := by decide +kernel
theorem dX12_tooMany_71 : decode cX12_tooMany 71 = .ok (.iload_n 3, 1) := by decide +kernel
theorem dX12_tooMany_72 : decode cX12_tooMany 72 = .ok (.i2l, 1) := by decide +kernel
theorem dX12_tooMany_73 : decode cX12_tooMany 73 = .ok (.ladd, 1) := by decide +kernel
theorem dX12_tooMany_74 : decode cX12_tooMany 74 = .ok (.aload_n 0, 1) := by decide +kernel
theorem dX12_tooMany_75 : decode cX12_tooMany 75 = .ok (.getfield 19, 3) := by decide +kernel
theorem dX12_tooMany_78 : decode cX12_tooMany 78 = .ok (.iload_n 1, 1) := by decide +kernel
theorem dX12_tooMany_79 : decode cX12_tooMany 79 = .ok (.iaload, 1) := by decide +kernel
theorem dX12_tooMany_80 : decode cX12_tooMany 80 = .ok (.i2l, 1) := by decide +kernel
theorem dX12_tooMany_81 : decode cX12_tooMany 81 = .ok (.lcmp, 1) := by decide +kernel
theorem dX12_tooMany_82 : decode cX12_tooMany 82 = .ok (.ifCond .le 9, 3) := by decide +kernel
theorem dX12_tooMany_85 : decode cX12_tooMany 85 = .ok (.aload_n 0, 1) := by decide +kernel
theorem dX12_tooMany_86 : decode cX12_tooMany 86 = .ok (.iconst 2, 1) := by decide +kernel
theorem dX12_tooMany_87 : decode cX12_tooMany 87 = .ok (.invokevirtual 81, 3) := by decide +kernel
theorem dX12_tooMany_90 : decode cX12_tooMany 90 = .ok (.ireturn, 1) := by decide +kernel
theorem dX12_tooMany_91 : decode cX12_tooMany 91 = .ok (.iconst 0, 1) := by decide +kernel
theorem dX12_tooMany_92 : decode cX12_tooMany 92 = .ok (.istore 7, 2) := by decide +kernel
theorem dX12_tooMany_94 : decode cX12_tooMany 94 = .ok (.iload 7, 2) := by decide +kernel
theorem dX12_tooMany_96 : decode cX12_tooMany 96 = .ok (.sipush 300, 3) := by decide +kernel
theorem dX12_tooMany_99 : decode cX12_tooMany 99 = .ok (.if_icmp .gt 30, 3) := by decide +kernel
theorem dX12_tooMany_102 : decode cX12_tooMany 102 = .ok (.aload_n 0, 1) := by decide +kernel
theorem dX12_tooMany_103 : decode cX12_tooMany 103 = .ok (.iload_n 1, 1) := by decide +kernel
theorem dX12_tooMany_104 : decode cX12_tooMany 104 = .ok (.iload_n 2, 1) := by decide +kernel
theorem dX12_tooMany_105 : decode cX12_tooMany 105 = .ok (.iload_n 3, 1) := by decide +kernel
theorem dX12_tooMany_106 : decode cX12_tooMany 106 = .ok (.iload 4, 2) := by decide +kernel
theorem dX12_tooMany_108 : decode cX12_tooMany 108 = .ok (.iload 5, 2) := by decide +kernel
theorem dX12_tooMany_110 : decode cX12_tooMany 110 = .ok (.iload 7, 2) := by decide +kernel
theorem dX12_tooMany_112 : decode cX12_tooMany 112 = .ok (.invokevirtual 150, 3) := by decide +kernel
theorem dX12_tooMany_115 : decode cX12_tooMany 115 = .ok (.iload 6, 2) := by decide +kernel
theorem dX12_tooMany_117 : decode cX12_tooMany 117 = .ok (.if_icmp .le 6, 3) := by decide +kernel
theorem dX12_tooMany_120 : decode cX12_tooMany 120 = .ok (.iload 7, 2) := by decide +kernel
theorem dX12_tooMany_122 : decode cX12_tooMany 122 = .ok (.ireturn, 1) := by decide +kernel
theorem dX12_tooMany_123 : decode cX12_tooMany 123 = .ok (.iinc 7 1, 3) := by decide +kernel
theorem dX12_tooMany_126 : decode cX12_tooMany 126 = .ok (.goto (-32), 3) := by decide +kernel
theorem dX12_tooMany_129 : decode cX12_tooMany 129 = .ok (.ldc 127, 2) := by decide +kernel
theorem dX12_tooMany_131 : decode cX12_tooMany 131 = .ok (.ireturn, 1) := by decide +kernel
theorem dX12_kindOf_0 : decode cX12_kindOf 0 = .ok (.aload_n 0, 1) := by decide +kernel
theorem dX12_kindOf_1 : decode cX12_kindOf 1 = .ok (.getfield 42, 3) := by decide +kernel
theorem dX12_kindOf_4 : decode cX12_kindOf 4 = .ok (.iload_n 1, 1) := by decide +kernel
theorem dX12_kindOf_5 : decode cX12_kindOf 5 = .ok (.iaload, 1) := by decide +kernel
theorem dX12_kindOf_6 : decode cX12_kindOf 6 = .ok (.ifCond .le 26, 3) := by decide +kernel
theorem dX12_kindOf_9 : decode cX12_kindOf 9 = .ok (.aload_n 0, 1) := by decide +kernel
theorem dX12_kindOf_10 : decode cX12_kindOf 10 = .ok (.getfield 42, 3) := by decide +kernel
theorem dX12_kindOf_13 : decode cX12_kindOf 13 = .ok (.iload_n 1, 1) := by decide +kernel
theorem dX12_kindOf_14 : decode cX12_kindOf 14 = .ok (.iaload, 1) := by decide +kernel
theorem dX12_kindOf_15 : decode cX12_kindOf 15 = .ok (.aload_n 0, 1) := by decide +kernel
theorem dX12_kindOf_16 : decode cX12_kindOf 16 = .ok (.getfield 39, 3) := by decide +kernel
theorem dX12_kindOf_19 : decode cX12_kindOf 19 = .ok (.iload_n 1, 1) := by decide +kernel
theorem dX12_kindOf_20 : decode cX12_kindOf 20 = .ok (.iaload, 1) := by decide +kernel
theorem dX12_kindOf_21 : decode cX12_kindOf 21 = .ok (.if_icmp .gt 7, 3) := by decide +kernel
theorem dX12_kindOf_24 : decode cX12_kindOf 24 = .ok (.iconst 2, 1) := by decide +kernel
theorem dX12_kindOf_25 : decode cX12_kindOf 25 = .ok (.goto 24, 3) := by decide +kernel
theorem dX12_kindOf_28 : decode cX12_kindOf 28 = .ok (.iconst 1, 1) := by decide +kernel
theorem dX12_kindOf_29 : decode cX12_kindOf 29 = .ok (.goto 20, 3) := by decide +kernel
theorem dX12_kindOf_32 : decode cX12_kindOf 32 = .ok (.aload_n 0, 1) := by decide +kernel
theorem dX12_kindOf_33 : decode cX12_kindOf 33 = .ok (.getfield 39, 3) := by decide +kernel
theorem dX12_kindOf_36 : decode cX12_kindOf 36 = .ok (.iload_n 1, 1) := by decide +kernel
theorem dX12_kindOf_37 : decode cX12_kindOf 37 = .ok (.iaload, 1) := by decide +kernel
theorem dX12_kindOf_38 : decode cX12_kindOf 38 = .ok (.sipush 200, 3) := by decide +kernel
theorem dX12_kindOf_41 : decode cX12_kindOf 41 = .ok (.if_icmp .lt 7, 3) := by decide +kernel
theorem dX12_kindOf_44 : decode cX12_kindOf 44 = .ok (.iconst 3, 1) := by decide +kernel
theorem dX12_kindOf_45 : decode cX12_kindOf 45 = .ok (.goto 4, 3) := by decide +kernel
theorem dX12_kindOf_48 : decode cX12_kindOf 48 = .ok (.iconst 0, 1) := by decide +kernel
theorem dX12_kindOf_49 : decode cX12_kindOf 49 = .ok (.ireturn, 1) := by decide +kernel
set_option maxRecDepth 20000 in
theorem ggX12_kind_X12_isGate : GoodIn wsX12_kind wsX12_isGate := goodIn_r _ [7, 8, 9, 10, 6, 11, 18, 19, 20, 21, 22, 23, 24, 25, 26, 27, 28, 29, 30, 31, 32, 33, 34, 35, 36, 37, 38, 39] (by decide +kernel) (by decide +kernel)
set_option maxRecDepth 20000 in
theorem gX12_kind_X12_isGate : GoodIn wsX12_kind (wsV RX12 135 RX12 yX12_isGate wsX12_isGate) := goodIn_app (goodIn_of _ (by decide +kernel)) ggX12_kind_X12_isGate
set_option maxRecDepth 20000 in
theorem ggX12_kind_X12_kindOf : GoodIn wsX12_kind wsX12_kindOf := goodIn_r _ [15, 16, 17, 18, 19, 20, 21, 22, 23, 24, 25, 26, 27, 28, 29, 30, 31, 32, 33, 34, 35, 36, 37, 38, 39] (by decide +kernel) (by decide +kernel)
set_option maxRecDepth 20000 in
theorem gX12_kind_X12_kindOf : GoodIn wsX12_kind (wsV RX12 154 RX12 yX12_kindOf wsX12_kindOf) := goodIn_app (goodIn_of _ (by decide +kernel)) ggX12_kind_X12_kindOf
theorem dX12_kind_0 : decode cX12_kind 0 = .ok (.aload_n 0, 1) := by decide +kernel
theorem dX12_kind_1 : decode cX12_kind 1 = .ok (.iconst 0, 1) := by decide +kernel
theorem dX12_kind_2 : decode cX12_kind 2 = .ok (.putfield 60, 3) := by decide +kernel
theorem dX12_kind_5 : decode cX12_kind 5 = .ok (.aload_n 0, 1) := by decide +kernel
theorem dX12_kind_6 : decode cX12_kind 6 = .ok (.iload_n 1, 1) := by decide +kernel
theorem dX12_kind_7 : decode cX12_kind 7 = .ok (.invokevirtual 135, 3) := by decide +kernel
theorem dX12_kind_10 : decode cX12_kind 10 = .ok (.ifCond .eq 11, 3) := by decide +kernel
theorem dX12_kind_13 : decode cX12_kind 13 = .ok (.aload_n 0, 1) := by decide +kernel
theorem dX12_kind_14 : decode cX12_kind 14 = .ok (.iload_n 1, 1) := by decide +kernel
theorem dX12_kind_15 : decode cX12_kind 15 = .ok (.invokevirtual 154, 3) := by decide +kernel
theorem dX12_kind_18 : decode cX12_kind 18 = .ok (.goto 5, 3) := by decide +kernel
theorem dX12_kind_21 : decode cX12_kind 21 = .ok (.ldc 80, 2) := by decide +kernel
theorem dX12_kind_23 : decode cX12_kind 23 = .ok (.ireturn, 1) := by decide +kernel
set_option maxRecDepth 20000 in
theorem ggX12_as_X12_isGate : GoodIn wsX12_as wsX12_isGate := goodIn_r _ [10, 11, 12, 13, 9, 14, 25, 26, 27, 28, 29, 30, 31, 32, 33, 34, 35, 36, 37, 38, 39, 40, 41, 42, 43, 44, 45, 46] (by decide +kernel) (by decide +kernel)
set_option maxRecDepth 20000 in
theorem gX12_as_X12_isGate : GoodIn wsX12_as (wsV RX12 135 RX12 yX12_isGate wsX12_isGate) := goodIn_app (goodIn_of _ (by decide +kernel)) ggX12_as_X12_isGate
set_option maxRecDepth 20000 in
theorem ggX12_as_X12_in : GoodIn wsX12_as wsX12_in := goodIn_r _ [14] (by decide +kernel) (by decide +kernel)
set_option maxRecDepth 20000 in
theorem gX12_as_X12_in : GoodIn wsX12_as (va_wsS RX12 70 yX12_in wsX12_in) := goodIn_app (goodIn_of _ (by decide +kernel)) ggX12_as_X12_in
set_option maxRecDepth 20000 in
theorem ggX12_as_X12_kindOf : GoodIn wsX12_as wsX12_kindOf := goodIn_r _ [18, 19, 5, 25, 26, 27, 28, 29, 30, 31, 32, 33, 34, 35, 36, 37, 38, 39, 40, 41, 42, 43, 44, 45, 46] (by decide +kernel) (by decide +kernel)
set_option maxRecDepth 20000 in
theorem gX12_as_X12_kindOf : GoodIn wsX12_as (wsV RX12 154 RX12 yX12_kindOf wsX12_kindOf) := goodIn_app (goodIn_of _ (by decide +kernel)) ggX12_as_X12_kindOf
set_option maxRecDepth 20000 in
theorem ggX12_as_X12_found : GoodIn wsX12_as wsX12_found := goodIn_r _ [23, 4, 24, 25, 26, 27, 28, 29, 30, 31, 32, 33, 34, 35, 36, 37, 38, 39, 40, 41, 42, 43, 44, 45, 46] (by decide +kernel) (by decide +kernel)
set_option maxRecDepth 20000 in
theorem gX12_as_X12_found : GoodIn wsX12_as (wsV RX12 81 RX12 yX12_found wsX12_found) := goodIn_app (goodIn_of _ (by decide +kernel)) ggX12_as_X12_found
theorem dX12_as_0 : decode cX12_as 0 = .ok (.aload_n 0, 1) := by decide +kernel
theorem dX12_as_1 : decode cX12_as 1 = .ok (.iconst 0, 1) := by decide +kernel
theorem dX12_as_2 : decode cX12_as 2 = .ok (.putfield 60, 3) := by decide +kernel
theorem dX12_as_5 : decode cX12_as 5 = .ok (.aload_n 0, 1) := by decide +kernel
theorem dX12_as_6 : decode cX12_as 6 = .ok (.iload_n 1, 1) := by decide +kernel
theorem dX12_as_7 : decode cX12_as 7 = .ok (.invokevirtual 135, 3) := by decide +kernel
theorem dX12_as_10 : decode cX12_as 10 = .ok (.ifCond .eq 15, 3) := by decide +kernel
theorem dX12_as_13 : decode cX12_as 13 = .ok (.iload_n 2, 1) := by decide +kernel
theorem dX12_as_14 : decode cX12_as 14 = .ok (.i2l, 1) := by decide +kernel
theorem dX12_as_15 : decode cX12_as 15 = .ok (.lconst 0, 1) := by decide +kernel
theorem dX12_as_16 : decode cX12_as 16 = .ok (.ldc2_w 97, 3) := by decide +kernel
theorem dX12_as_19 : decode cX12_as 19 = .ok (.invokestatic 70, 3) := by decide +kernel
theorem dX12_as_22 : decode cX12_as 22 = .ok (.ifCond .ne 6, 3) := by decide +kernel
theorem dX12_as_25 : decode cX12_as 25 = .ok (.ldc 80, 2) := by decide +kernel
theorem dX12_as_27 : decode cX12_as 27 = .ok (.ireturn, 1) := by decide +kernel
theorem dX12_as_28 : decode cX12_as 28 = .ok (.aload_n 0, 1) := by decide +kernel
theorem dX12_as_29 : decode cX12_as 29 = .ok (.iconst 0, 1) := by decide +kernel
theorem dX12_as_30 : decode cX12_as 30 = .ok (.putfield 64, 3) := by decide +kernel
theorem dX12_as_33 : decode cX12_as 33 = .ok (.aload_n 0, 1) := by decide +kernel
theorem dX12_as_34 : decode cX12_as 34 = .ok (.iload_n 1, 1) := by decide +kernel
theorem dX12_as_35 : decode cX12_as 35 = .ok (.invokevirtual 154, 3) := by decide +kernel
theorem dX12_as_38 : decode cX12_as 38 = .ok (.istore_n 3, 1) := by decide +kernel
theorem dX12_as_39 : decode cX12_as 39 = .ok (.iload_n 2, 1) := by decide +kernel
theorem dX12_as_40 : decode cX12_as 40 = .ok (.ifCond .eq 18, 3) := by decide +kernel
theorem dX12_as_43 : decode cX12_as 43 = .ok (.iload_n 3, 1) := by decide +kernel
theorem dX12_as_44 : decode cX12_as 44 = .ok (.iload_n 2, 1) := by decide +kernel
theorem dX12_as_45 : decode cX12_as 45 = .ok (.if_icmp .eq 13, 3) := by decide +kernel
theorem dX12_as_48 : decode cX12_as 48 = .ok (.iload_n 2, 1) := by decide +kernel
theorem dX12_as_49 : decode cX12_as 49 = .ok (.iconst 1, 1) := by decide +kernel
theorem dX12_as_50 : decode cX12_as 50 = .ok (.if_icmp .ne 17, 3) := by decide +kernel
theorem dX12_as_53 : decode cX12_as 53 = .ok (.iload_n 3, 1) := by decide +kernel
theorem dX12_as_54 : decode cX12_as 54 = .ok (.iconst 2, 1) := by decide +kernel
theorem dX12_as_55 : decode cX12_as 55 = .ok (.if_icmp .ne 12, 3) := by decide +kernel
theorem dX12_as_58 : decode cX12_as 58 = .ok (.aload_n 0, 1) := by decide +kernel
theorem dX12_as_59 : decode cX12_as 59 = .ok (.getfield 39, 3) := by decide +kernel
theorem dX12_as_62 : decode cX12_as 62 = .ok (.iload_n 1, 1) := by decide +kernel
theorem dX12_as_63 : decode cX12_as 63 = .ok (.iaload, 1) := by decide +kernel
theorem dX12_as_64 : decode cX12_as 64 = .ok (.goto 8, 3) := by decide +kernel
theorem dX12_as_67 : decode cX12_as 67 = .ok (.aload_n 0, 1) := by decide +kernel
theorem dX12_as_68 : decode cX12_as 68 = .ok (.iconst 3, 1) := by decide +kernel
theorem dX12_as_69 : decode cX12_as 69 = .ok (.invokevirtual 81, 3) := by decide +kernel
theorem dX12_as_72 : decode cX12_as 72 = .ok (.ireturn, 1) := by decide +kernel
theorem dX12_began_0 : decode cX12_began 0 = .ok (.aload_n 0, 1) := by decide +kernel
theorem dX12_began_1 : decode cX12_began 1 = .ok (.getfield 157, 3) := by decide +kernel
theorem dX12_began_4 : decode cX12_began 4 = .ok (.bipush 16, 2) := by decide +kernel
theorem dX12_began_6 : decode cX12_began 6 = .ok (.if_icmp .ge 23, 3) := by decide +kernel
theorem dX12_began_9 : decode cX12_began 9 = .ok (.aload_n 0, 1) := by decide +kernel
theorem dX12_began_10 : decode cX12_began 10 = .ok (.getfield 57, 3) := by decide +kernel
theorem dX12_began_13 : decode cX12_began 13 = .ok (.aload_n 0, 1) := by decide +kernel
theorem dX12_began_14 : decode cX12_began 14 = .ok (.getfield 157, 3) := by decide +kernel
theorem dX12_began_17 : decode cX12_began 17 = .ok (.iload_n 1, 1) := by decide +kernel
theorem dX12_began_18 : decode cX12_began 18 = .ok (.iastore, 1) := by decide +kernel
theorem dX12_began_19 : decode cX12_began 19 = .ok (.aload_n 0, 1) := by decide +kernel
theorem dX12_began_20 : decode cX12_began 20 = .ok (.dup, 1) := by decide +kernel
theorem dX12_began_21 : decode cX12_began 21 = .ok (.getfield 157, 3) := by decide +kernel
theorem dX12_began_24 : decode cX12_began 24 = .ok (.iconst 1, 1) := by decide +kernel
theorem dX12_began_25 : decode cX12_began 25 = .ok (.iadd, 1) := by decide +kernel
theorem dX12_began_26 : decode cX12_began 26 = .ok (.putfield 157, 3) := by decide +kernel
theorem dX12_began_29 : decode cX12_began 29 = .ok (.return_, 1) := by decide +kernel
set_option maxRecDepth 20000 in
theorem ggX12_cost_X12_kindOf : GoodIn wsX12_cost wsX12_kindOf := goodIn_r _ [7, 2, 1, 14, 15, 16, 17, 18, 19, 20, 21, 22, 23, 24, 25, 26, 27, 28, 29, 30, 31, 32, 33, 34, 35] (by decide +kernel) (by decide +kernel)
set_option maxRecDepth 20000 in
theorem gX12_cost_X12_kindOf : GoodIn wsX12_cost (wsV RX12 154 RX12 yX12_kindOf wsX12_kindOf) := goodIn_app (goodIn_of _ (by decide +kernel)) ggX12_cost_X12_kindOf
set_option maxRecDepth 20000 in
theorem ggX12_cost_X12_began : GoodIn wsX12_cost wsX12_began := goodIn_r _ [11, 12, 13, 14, 15, 16, 17, 18, 19, 20, 21, 22, 23, 24, 25, 26, 27, 28, 29, 30, 31, 32, 33, 34, 35] (by decide +kernel) (by decide +kernel)
set_option maxRecDepth 20000 in
theorem gX12_cost_X12_began : GoodIn wsX12_cost (wsV RX12 160 RX12 yX12_began wsX12_began) := goodIn_app (goodIn_of _ (by decide +kernel)) ggX12_cost_X12_began
theorem dX12_cost_0 : decode cX12_cost 0 = .ok (.aload_n 0, 1) := by decide +kernel
theorem dX12_cost_1 : decode cX12_cost 1 = .ok (.iload_n 1, 1) := by decide +kernel
theorem dX12_cost_2 : decode cX12_cost 2 = .ok (.invokevirtual 154, 3) := by decide +kernel
theorem dX12_cost_5 : decode cX12_cost 5 = .ok (.istore_n 2, 1) := by decide +kernel
theorem dX12_cost_6 : decode cX12_cost 6 = .ok (.iload_n 2, 1) := by decide +kernel
theorem dX12_cost_7 : decode cX12_cost 7 = .ok (.iconst 1, 1) := by decide +kernel
theorem dX12_cost_8 : decode cX12_cost 8 = .ok (.if_icmp .eq 8, 3) := by decide +kernel
theorem dX12_cost_11 : decode cX12_cost 11 = .ok (.iload_n 2, 1) := by decide +kernel
theorem dX12_cost_12 : decode cX12_cost 12 = .ok (.iconst 2, 1) := by decide +kernel
theorem dX12_cost_13 : decode cX12_cost 13 = .ok (.if_icmp .ne 7, 3) := by decide +kernel
theorem dX12_cost_16 : decode cX12_cost 16 = .ok (.iconst 1, 1) := by decide +kernel
theorem dX12_cost_17 : decode cX12_cost 17 = .ok (.goto 4, 3) := by decide +kernel
theorem dX12_cost_20 : decode cX12_cost 20 = .ok (.iconst 0, 1) := by decide +kernel
theorem dX12_cost_21 : decode cX12_cost 21 = .ok (.istore_n 3, 1) := by decide +kernel
theorem dX12_cost_22 : decode cX12_cost 22 = .ok (.iload_n 2, 1) := by decide +kernel
theorem dX12_cost_23 : decode cX12_cost 23 = .ok (.iconst 3, 1) := by decide +kernel
theorem dX12_cost_24 : decode cX12_cost 24 = .ok (.if_icmp .ne 9, 3) := by decide +kernel
theorem dX12_cost_27 : decode cX12_cost 27 = .ok (.aload_n 0, 1) := by decide +kernel
theorem dX12_cost_28 : decode cX12_cost 28 = .ok (.bipush 13, 2) := by decide +kernel
theorem dX12_cost_30 : decode cX12_cost 30 = .ok (.invokevirtual 160, 3) := by decide +kernel
theorem dX12_cost_33 : decode cX12_cost 33 = .ok (.iload_n 2, 1) := by decide +kernel
theorem dX12_cost_34 : decode cX12_cost 34 = .ok (.iconst 2, 1) := by decide +kernel
theorem dX12_cost_35 : decode cX12_cost 35 = .ok (.if_icmp .ne 9, 3) := by decide +kernel
theorem dX12_cost_38 : decode cX12_cost 38 = .ok (.aload_n 0, 1) := by decide +kernel
theorem dX12_cost_39 : decode cX12_cost 39 = .ok (.bipush 12, 2) := by decide +kernel
theorem dX12_cost_41 : decode cX12_cost 41 = .ok (.invokevirtual 160, 3) := by decide +kernel
theorem dX12_cost_44 : decode cX12_cost 44 = .ok (.iload_n 3, 1) := by decide +kernel
theorem dX12_cost_45 : decode cX12_cost 45 = .ok (.ifCond .eq 9, 3) := by decide +kernel
theorem dX12_cost_48 : decode cX12_cost 48 = .ok (.aload_n 0, 1) := by decide +kernel
theorem dX12_cost_49 : decode cX12_cost 49 = .ok (.bipush 11, 2) := by decide +kernel
theorem dX12_cost_51 : decode cX12_cost 51 = .ok (.invokevirtual 160, 3) := by decide +kernel
theorem dX12_cost_54 : decode cX12_cost 54 = .ok (.aload_n 0, 1) := by decide +kernel
theorem dX12_cost_55 : decode cX12_cost 55 = .ok (.bipush 10, 2) := by decide +kernel
theorem dX12_cost_57 : decode cX12_cost 57 = .ok (.invokevirtual 160, 3) := by decide +kernel
theorem dX12_cost_60 : decode cX12_cost 60 = .ok (.aload_n 0, 1) := by decide +kernel
theorem dX12_cost_61 : decode cX12_cost 61 = .ok (.getfield 39, 3) := by decide +kernel
theorem dX12_cost_64 : decode cX12_cost 64 = .ok (.iload_n 1, 1) := by decide +kernel
theorem dX12_cost_65 : decode cX12_cost 65 = .ok (.iaload, 1) := by decide +kernel
theorem dX12_cost_66 : decode cX12_cost 66 = .ok (.iload_n 3, 1) := by decide +kernel
theorem dX12_cost_67 : decode cX12_cost 67 = .ok (.ifCond .eq 12, 3) := by decide +kernel
theorem dX12_cost_70 : decode cX12_cost 70 = .ok (.aload_n 0, 1) := by decide +kernel
theorem dX12_cost_71 : decode cX12_cost 71 = .ok (.getfield 42, 3) := by decide +kernel
theorem dX12_cost_74 : decode cX12_cost 74 = .ok (.iload_n 1, 1) := by decide +kernel
theorem dX12_cost_75 : decode cX12_cost 75 = .ok (.iaload, 1) := by decide +kernel
theorem dX12_cost_76 : decode cX12_cost 76 = .ok (.goto 4, 3) := by decide +kernel
theorem dX12_cost_79 : decode cX12_cost 79 = .ok (.iconst 0, 1) := by decide +kernel
theorem dX12_cost_80 : decode cX12_cost 80 = .ok (.iadd, 1) := by decide +kernel
theorem dX12_cost_81 : decode cX12_cost 81 = .ok (.istore 4, 2) := by decide +kernel
theorem dX12_cost_83 : decode cX12_cost 83 = .ok (.iload_n 2, 1) := by decide +kernel
theorem dX12_cost_84 : decode cX12_cost 84 = .ok (.iconst 3, 1) := by decide +kernel
theorem dX12_cost_85 : decode cX12_cost 85 = .ok (.if_icmp .ne 12, 3) := by decide +kernel
theorem dX12_cost_88 : decode cX12_cost 88 = .ok (.iload 4, 2) := by decide +kernel
theorem dX12_cost_90 : decode cX12_cost 90 = .ok (.sipush 1000, 3) := by decide +kernel
theorem dX12_cost_93 : decode cX12_cost 93 = .ok (.iadd, 1) := by decide +kernel
theorem dX12_cost_94 : decode cX12_cost 94 = .ok (.goto 17, 3) := by decide +kernel
theorem dX12_cost_97 : decode cX12_cost 97 = .ok (.iload_n 2, 1) := by decide +kernel
theorem dX12_cost_98 : decode cX12_cost 98 = .ok (.iconst 2, 1) := by decide +kernel
theorem dX12_cost_99 : decode cX12_cost 99 = .ok (.if_icmp .ne 10, 3) := by decide +kernel
theorem dX12_cost_102 : decode cX12_cost 102 = .ok (.iload 4, 2) := by decide +kernel
theorem dX12_cost_104 : decode cX12_cost 104 = .ok (.iconst 2, 1) := by decide +kernel
theorem dX12_cost_105 : decode cX12_cost 105 = .ok (.idiv, 1) := by decide +kernel
theorem dX12_cost_106 : decode cX12_cost 106 = .ok (.goto 5, 3) := by decide +kernel
theorem dX12_cost_109 : decode cX12_cost 109 = .ok (.iload 4, 2) := by decide +kernel
theorem dX12_cost_111 : decode cX12_cost 111 = .ok (.ireturn, 1) := by decide +kernel
set_option maxRecDepth 20000 in
theorem ggX12_marked_X12_kindOf : GoodIn wsX12_marked wsX12_kindOf := goodIn_r _ [6, 7, 8, 19, 20, 21, 22, 23, 24, 25, 26, 27, 28, 29, 30, 31, 32, 33, 34, 35, 36, 37, 38, 39, 40] (by decide +kernel) (by decide +kernel)
set_option maxRecDepth 20000 in
theorem gX12_marked_X12_kindOf : GoodIn wsX12_marked (wsV RX12 154 RX12 yX12_kindOf wsX12_kindOf) := goodIn_app (goodIn_of _ (by decide +kernel)) ggX12_marked_X12_kindOf
set_option maxRecDepth 20000 in
theorem ggX12_marked_X12_began : GoodIn wsX12_marked wsX12_began := goodIn_r _ [12, 13, 14, 19, 20, 21, 22, 23, 24, 25, 26, 27, 28, 29, 30, 31, 32, 33, 34, 35, 36, 37, 38, 39, 40] (by decide +kernel) (by decide +kernel)
set_option maxRecDepth 20000 in
theorem gX12_marked_X12_began : GoodIn wsX12_marked (wsV RX12 160 RX12 yX12_began wsX12_began) := goodIn_app (goodIn_of _ (by decide +kernel)) ggX12_marked_X12_began
set_option maxRecDepth 20000 in
theorem ggX12_marked_X12_cost : GoodIn wsX12_marked wsX12_cost := goodIn_r _ [18, 8, 7, 2, 3, 4, 5, 6, 9, 10, 11, 12, 13, 14, 19, 20, 21, 22, 23, 24, 25, 26, 27, 28, 29, 30, 31, 32, 33, 34, 35, 36, 37, 38, 39, 40] (by decide +kernel) (by decide +kernel)
set_option maxRecDepth 20000 in
theorem gX12_marked_X12_cost : GoodIn wsX12_marked (wsV RX12 164 RX12 yX12_cost wsX12_cost) := goodIn_app (goodIn_of _ (by decide +kernel)) ggX12_marked_X12_cost
theorem dX12_marked_0 : decode cX12_marked 0 = .ok (.aload_n 0, 1) := by decide +kernel
theorem dX12_marked_1 : decode cX12_marked 1 = .ok (.iload_n 1, 1) := by decide +kernel
theorem dX12_marked_2 : decode cX12_marked 2 = .ok (.invokevirtual 154, 3) := by decide +kernel
theorem dX12_marked_5 : decode cX12_marked 5 = .ok (.istore_n 2, 1) := by decide +kernel
theorem dX12_marked_6 : decode cX12_marked 6 = .ok (.iload_n 2, 1) := by decide +kernel
theorem dX12_marked_7 : decode cX12_marked 7 = .ok (.iconst 1, 1) := by decide +kernel
theorem dX12_marked_8 : decode cX12_marked 8 = .ok (.if_icmp .eq 8, 3) := by decide +kernel
theorem dX12_marked_11 : decode cX12_marked 11 = .ok (.iload_n 2, 1) := by decide +kernel
theorem dX12_marked_12 : decode cX12_marked 12 = .ok (.iconst 2, 1) := by decide +kernel
theorem dX12_marked_13 : decode cX12_marked 13 = .ok (.if_icmp .ne 7, 3) := by decide +kernel
theorem dX12_marked_16 : decode cX12_marked 16 = .ok (.iconst 1, 1) := by decide +kernel
theorem dX12_marked_17 : decode cX12_marked 17 = .ok (.goto 4, 3) := by decide +kernel
theorem dX12_marked_20 : decode cX12_marked 20 = .ok (.iconst 0, 1) := by decide +kernel
theorem dX12_marked_21 : decode cX12_marked 21 = .ok (.istore_n 3, 1) := by decide +kernel
theorem dX12_marked_22 : decode cX12_marked 22 = .ok (.iload_n 2, 1) := by decide +kernel
theorem dX12_marked_23 : decode cX12_marked 23 = .ok (.iconst 3, 1) := by decide +kernel
theorem dX12_marked_24 : decode cX12_marked 24 = .ok (.if_icmp .ne 9, 3) := by decide +kernel
end
section
theorem dX12_marked_27 : decode cX12_marked 27 = .ok (.aload_n 0, 1) := by decide +kernel
theorem dX12_marked_28 : decode cX12_marked 28 = .ok (.bipush 22, 2) := by decide +kernel
theorem dX12_marked_30 : decode cX12_marked 30 = .ok (.invokevirtual 160, 3) := by decide +kernel
theorem dX12_marked_33 : decode cX12_marked 33 = .ok (.iload_n 3, 1) := by decide +kernel
theorem dX12_marked_34 : decode cX12_marked 34 = .ok (.ifCond .eq 9, 3) := by decide +kernel
theorem dX12_marked_37 : decode cX12_marked 37 = .ok (.aload_n 0, 1) := by decide +kernel
theorem dX12_marked_38 : decode cX12_marked 38 = .ok (.bipush 21, 2) := by decide +kernel
theorem dX12_marked_40 : decode cX12_marked 40 = .ok (.invokevirtual 160, 3) := by decide +kernel
theorem dX12_marked_43 : decode cX12_marked 43 = .ok (.aload_n 0, 1) := by decide +kernel
theorem dX12_marked_44 : decode cX12_marked 44 = .ok (.bipush 20, 2) := by decide +kernel
theorem dX12_marked_46 : decode cX12_marked 46 = .ok (.invokevirtual 160, 3) := by decide +kernel
theorem dX12_marked_49 : decode cX12_marked 49 = .ok (.aload_n 0, 1) := by decide +kernel
theorem dX12_marked_50 : decode cX12_marked 50 = .ok (.getfield 45, 3) := by decide +kernel
theorem dX12_marked_53 : decode cX12_marked 53 = .ok (.iload_n 1, 1) := by decide +kernel
theorem dX12_marked_54 : decode cX12_marked 54 = .ok (.baload, 1) := by decide +kernel
theorem dX12_marked_55 : decode cX12_marked 55 = .ok (.ifCond .eq 7, 3) := by decide +kernel
theorem dX12_marked_58 : decode cX12_marked 58 = .ok (.iconst 1, 1) := by decide +kernel
theorem dX12_marked_59 : decode cX12_marked 59 = .ok (.goto 4, 3) := by decide +kernel
theorem dX12_marked_62 : decode cX12_marked 62 = .ok (.iconst 0, 1) := by decide +kernel
theorem dX12_marked_63 : decode cX12_marked 63 = .ok (.istore 4, 2) := by decide +kernel
theorem dX12_marked_65 : decode cX12_marked 65 = .ok (.iload_n 2, 1) := by decide +kernel
theorem dX12_marked_66 : decode cX12_marked 66 = .ok (.iconst 3, 1) := by decide +kernel
theorem dX12_marked_67 : decode cX12_marked 67 = .ok (.if_icmp .ne 14, 3) := by decide +kernel
theorem dX12_marked_70 : decode cX12_marked 70 = .ok (.iload 4, 2) := by decide +kernel
theorem dX12_marked_72 : decode cX12_marked 72 = .ok (.aload_n 0, 1) := by decide +kernel
theorem dX12_marked_73 : decode cX12_marked 73 = .ok (.iload_n 1, 1) := by decide +kernel
theorem dX12_marked_74 : decode cX12_marked 74 = .ok (.invokevirtual 164, 3) := by decide +kernel
theorem dX12_marked_77 : decode cX12_marked 77 = .ok (.isub, 1) := by decide +kernel
theorem dX12_marked_78 : decode cX12_marked 78 = .ok (.goto 20, 3) := by decide +kernel
theorem dX12_marked_81 : decode cX12_marked 81 = .ok (.iload_n 3, 1) := by decide +kernel
theorem dX12_marked_82 : decode cX12_marked 82 = .ok (.ifCond .eq 14, 3) := by decide +kernel
theorem dX12_marked_85 : decode cX12_marked 85 = .ok (.iload 4, 2) := by decide +kernel
theorem dX12_marked_87 : decode cX12_marked 87 = .ok (.aload_n 0, 1) := by decide +kernel
theorem dX12_marked_88 : decode cX12_marked 88 = .ok (.iload_n 1, 1) := by decide +kernel
theorem dX12_marked_89 : decode cX12_marked 89 = .ok (.invokevirtual 164, 3) := by decide +kernel
theorem dX12_marked_92 : decode cX12_marked 92 = .ok (.iadd, 1) := by decide +kernel
theorem dX12_marked_93 : decode cX12_marked 93 = .ok (.goto 5, 3) := by decide +kernel
theorem dX12_marked_96 : decode cX12_marked 96 = .ok (.iload 4, 2) := by decide +kernel
theorem dX12_marked_98 : decode cX12_marked 98 = .ok (.ireturn, 1) := by decide +kernel
set_option maxRecDepth 20000 in
theorem ggX12_ask_X12_isGate : GoodIn wsX12_ask wsX12_isGate := goodIn_r _ [8, 9, 10, 11, 7, 12, 33, 34, 35, 36, 37, 38, 39, 40, 41, 42, 43, 44, 45, 46, 47, 48, 49, 50, 51, 52, 53, 54] (by decide +kernel) (by decide +kernel)
set_option maxRecDepth 20000 in
theorem gX12_ask_X12_isGate : GoodIn wsX12_ask (wsV RX12 135 RX12 yX12_isGate wsX12_isGate) := goodIn_app (goodIn_of _ (by decide +kernel)) ggX12_ask_X12_isGate
set_option maxRecDepth 20000 in
theorem ggX12_ask_X12_in : GoodIn wsX12_ask wsX12_in := goodIn_r _ [12] (by decide +kernel) (by decide +kernel)
set_option maxRecDepth 20000 in
theorem gX12_ask_X12_in : GoodIn wsX12_ask (va_wsS RX12 70 yX12_in wsX12_in) := goodIn_app (goodIn_of _ (by decide +kernel)) ggX12_ask_X12_in
set_option maxRecDepth 20000 in
theorem ggX12_ask_X12_cost : GoodIn wsX12_ask wsX12_cost := goodIn_r _ [16, 17, 18, 19, 20, 21, 7, 22, 23, 24, 25, 26, 3, 27, 33, 34, 35, 36, 37, 38, 39, 40, 41, 42, 43, 44, 45, 46, 47, 48, 49, 50, 51, 52, 53, 54] (by decide +kernel) (by decide +kernel)
set_option maxRecDepth 20000 in
theorem gX12_ask_X12_cost : GoodIn wsX12_ask (wsV RX12 164 RX12 yX12_cost wsX12_cost) := goodIn_app (goodIn_of _ (by decide +kernel)) ggX12_ask_X12_cost
set_option maxRecDepth 20000 in
theorem ggX12_ask_X12_marked : GoodIn wsX12_ask wsX12_marked := goodIn_r _ [31, 32, 19, 20, 21, 7, 22, 18, 17, 23, 24, 25, 26, 3, 27, 13, 14, 15, 16, 33, 34, 35, 36, 37, 38, 39, 40, 41, 42, 43, 44, 45, 46, 47, 48, 49, 50, 51, 52, 53, 54] (by decide +kernel) (by decide +kernel)
set_option maxRecDepth 20000 in
theorem gX12_ask_X12_marked : GoodIn wsX12_ask (wsV RX12 167 RX12 yX12_marked wsX12_marked) := goodIn_app (goodIn_of _ (by decide +kernel)) ggX12_ask_X12_marked
theorem dX12_ask_0 : decode cX12_ask 0 = .ok (.aload_n 0, 1) := by decide +kernel
theorem dX12_ask_1 : decode cX12_ask 1 = .ok (.iconst 0, 1) := by decide +kernel
theorem dX12_ask_2 : decode cX12_ask 2 = .ok (.putfield 60, 3) := by decide +kernel
theorem dX12_ask_5 : decode cX12_ask 5 = .ok (.aload_n 0, 1) := by decide +kernel
theorem dX12_ask_6 : decode cX12_ask 6 = .ok (.iload_n 1, 1) := by decide +kernel
theorem dX12_ask_7 : decode cX12_ask 7 = .ok (.invokevirtual 135, 3) := by decide +kernel
theorem dX12_ask_10 : decode cX12_ask 10 = .ok (.ifCond .eq 13, 3) := by decide +kernel
theorem dX12_ask_13 : decode cX12_ask 13 = .ok (.iload_n 2, 1) := by decide +kernel
theorem dX12_ask_14 : decode cX12_ask 14 = .ok (.i2l, 1) := by decide +kernel
theorem dX12_ask_15 : decode cX12_ask 15 = .ok (.lconst 0, 1) := by decide +kernel
theorem dX12_ask_16 : decode cX12_ask 16 = .ok (.lconst 1, 1) := by decide +kernel
theorem dX12_ask_17 : decode cX12_ask 17 = .ok (.invokestatic 70, 3) := by decide +kernel
theorem dX12_ask_20 : decode cX12_ask 20 = .ok (.ifCond .ne 6, 3) := by decide +kernel
theorem dX12_ask_23 : decode cX12_ask 23 = .ok (.ldc 80, 2) := by decide +kernel
theorem dX12_ask_25 : decode cX12_ask 25 = .ok (.ireturn, 1) := by decide +kernel
theorem dX12_ask_26 : decode cX12_ask 26 = .ok (.aload_n 0, 1) := by decide +kernel
theorem dX12_ask_27 : decode cX12_ask 27 = .ok (.iconst 0, 1) := by decide +kernel
theorem dX12_ask_28 : decode cX12_ask 28 = .ok (.putfield 157, 3) := by decide +kernel
theorem dX12_ask_31 : decode cX12_ask 31 = .ok (.iload_n 2, 1) := by decide +kernel
theorem dX12_ask_32 : decode cX12_ask 32 = .ok (.ifCond .ne 11, 3) := by decide +kernel
theorem dX12_ask_35 : decode cX12_ask 35 = .ok (.aload_n 0, 1) := by decide +kernel
theorem dX12_ask_36 : decode cX12_ask 36 = .ok (.iload_n 1, 1) := by decide +kernel
theorem dX12_ask_37 : decode cX12_ask 37 = .ok (.invokevirtual 164, 3) := by decide +kernel
theorem dX12_ask_40 : decode cX12_ask 40 = .ok (.goto 8, 3) := by decide +kernel
theorem dX12_ask_43 : decode cX12_ask 43 = .ok (.aload_n 0, 1) := by decide +kernel
theorem dX12_ask_44 : decode cX12_ask 44 = .ok (.iload_n 1, 1) := by decide +kernel
theorem dX12_ask_45 : decode cX12_ask 45 = .ok (.invokevirtual 167, 3) := by decide +kernel
theorem dX12_ask_48 : decode cX12_ask 48 = .ok (.ireturn, 1) := by decide +kernel
set_option maxRecDepth 20000 in
theorem ggX12_trace_X12_in : GoodIn wsX12_trace wsX12_in := goodIn_r _ [8] (by decide +kernel) (by decide +kernel)
set_option maxRecDepth 20000 in
theorem gX12_trace_X12_in : GoodIn wsX12_trace (va_wsS RX12 70 yX12_in wsX12_in) := goodIn_app (goodIn_of _ (by decide +kernel)) ggX12_trace_X12_in
theorem dX12_trace_0 : decode cX12_trace 0 = .ok (.aload_n 0, 1) := by decide +kernel
theorem dX12_trace_1 : decode cX12_trace 1 = .ok (.iconst 0, 1) := by decide +kernel
theorem dX12_trace_2 : decode cX12_trace 2 = .ok (.putfield 60, 3) := by decide +kernel
theorem dX12_trace_5 : decode cX12_trace 5 = .ok (.iload_n 1, 1) := by decide +kernel
theorem dX12_trace_6 : decode cX12_trace 6 = .ok (.i2l, 1) := by decide +kernel
theorem dX12_trace_7 : decode cX12_trace 7 = .ok (.lconst 0, 1) := by decide +kernel
theorem dX12_trace_8 : decode cX12_trace 8 = .ok (.aload_n 0, 1) := by decide +kernel
theorem dX12_trace_9 : decode cX12_trace 9 = .ok (.getfield 157, 3) := by decide +kernel
theorem dX12_trace_12 : decode cX12_trace 12 = .ok (.iconst 1, 1) := by decide +kernel
theorem dX12_trace_13 : decode cX12_trace 13 = .ok (.isub, 1) := by decide +kernel
theorem dX12_trace_14 : decode cX12_trace 14 = .ok (.i2l, 1) := by decide +kernel
theorem dX12_trace_15 : decode cX12_trace 15 = .ok (.invokestatic 70, 3) := by decide +kernel
theorem dX12_trace_18 : decode cX12_trace 18 = .ok (.ifCond .eq 12, 3) := by decide +kernel
theorem dX12_trace_21 : decode cX12_trace 21 = .ok (.aload_n 0, 1) := by decide +kernel
theorem dX12_trace_22 : decode cX12_trace 22 = .ok (.getfield 57, 3) := by decide +kernel
theorem dX12_trace_25 : decode cX12_trace 25 = .ok (.iload_n 1, 1) := by decide +kernel
theorem dX12_trace_26 : decode cX12_trace 26 = .ok (.iaload, 1) := by decide +kernel
theorem dX12_trace_27 : decode cX12_trace 27 = .ok (.goto 5, 3) := by decide +kernel
theorem dX12_trace_30 : decode cX12_trace 30 = .ok (.ldc 127, 2) := by decide +kernel
theorem dX12_trace_32 : decode cX12_trace 32 = .ok (.ireturn, 1) := by decide +kernel
theorem dX12_count_0 : decode cX12_count 0 = .ok (.aload_n 0, 1) := by decide +kernel
theorem dX12_count_1 : decode cX12_count 1 = .ok (.iconst 0, 1) := by decide +kernel
theorem dX12_count_2 : decode cX12_count 2 = .ok (.putfield 60, 3) := by decide +kernel
theorem dX12_count_5 : decode cX12_count 5 = .ok (.iconst 0, 1) := by decide +kernel
theorem dX12_count_6 : decode cX12_count 6 = .ok (.istore_n 2, 1) := by decide +kernel
theorem dX12_count_7 : decode cX12_count 7 = .ok (.iload_n 1, 1) := by decide +kernel
theorem dX12_count_8 : decode cX12_count 8 = .ok (.tableswitch 150 0 5 #[40, 73, 78, 105, 110, 145], 40) := by decide +kernel
theorem dX12_count_48 : decode cX12_count 48 = .ok (.iconst 0, 1) := by decide +kernel
theorem dX12_count_49 : decode cX12_count 49 = .ok (.istore_n 3, 1) := by decide +kernel
theorem dX12_count_50 : decode cX12_count 50 = .ok (.iload_n 3, 1) := by decide +kernel
theorem dX12_count_51 : decode cX12_count 51 = .ok (.bipush 8, 2) := by decide +kernel
theorem dX12_count_53 : decode cX12_count 53 = .ok (.if_icmp .ge 26, 3) := by decide +kernel
theorem dX12_count_56 : decode cX12_count 56 = .ok (.iload_n 2, 1) := by decide +kernel
theorem dX12_count_57 : decode cX12_count 57 = .ok (.aload_n 0, 1) := by decide +kernel
theorem dX12_count_58 : decode cX12_count 58 = .ok (.getfield 16, 3) := by decide +kernel
theorem dX12_count_61 : decode cX12_count 61 = .ok (.iload_n 3, 1) := by decide +kernel
theorem dX12_count_62 : decode cX12_count 62 = .ok (.iaload, 1) := by decide +kernel
theorem dX12_count_63 : decode cX12_count 63 = .ok (.ifCond .lt 7, 3) := by decide +kernel
theorem dX12_count_66 : decode cX12_count 66 = .ok (.iconst 1, 1) := by decide +kernel
theorem dX12_count_67 : decode cX12_count 67 = .ok (.goto 4, 3) := by decide +kernel
theorem dX12_count_70 : decode cX12_count 70 = .ok (.iconst 0, 1) := by decide +kernel
theorem dX12_count_71 : decode cX12_count 71 = .ok (.iadd, 1) := by decide +kernel
theorem dX12_count_72 : decode cX12_count 72 = .ok (.istore_n 2, 1) := by decide +kernel
theorem dX12_count_73 : decode cX12_count 73 = .ok (.iinc 3 1, 3) := by decide +kernel
theorem dX12_count_76 : decode cX12_count 76 = .ok (.goto (-26), 3) := by decide +kernel
theorem dX12_count_79 : decode cX12_count 79 = .ok (.iload_n 2, 1) := by decide +kernel
theorem dX12_count_80 : decode cX12_count 80 = .ok (.ireturn, 1) := by decide +kernel
theorem dX12_count_81 : decode cX12_count 81 = .ok (.aload_n 0, 1) := by decide +kernel
theorem dX12_count_82 : decode cX12_count 82 = .ok (.getfield 87, 3) := by decide +kernel
theorem dX12_count_85 : decode cX12_count 85 = .ok (.ireturn, 1) := by decide +kernel
theorem dX12_count_86 : decode cX12_count 86 = .ok (.iconst 0, 1) := by decide +kernel
theorem dX12_count_87 : decode cX12_count 87 = .ok (.istore_n 3, 1) := by decide +kernel
theorem dX12_count_88 : decode cX12_count 88 = .ok (.iload_n 3, 1) := by decide +kernel
theorem dX12_count_89 : decode cX12_count 89 = .ok (.aload_n 0, 1) := by decide +kernel
theorem dX12_count_90 : decode cX12_count 90 = .ok (.getfield 87, 3) := by decide +kernel
theorem dX12_count_93 : decode cX12_count 93 = .ok (.if_icmp .ge 18, 3) := by decide +kernel
theorem dX12_count_96 : decode cX12_count 96 = .ok (.iload_n 2, 1) := by decide +kernel
theorem dX12_count_97 : decode cX12_count 97 = .ok (.aload_n 0, 1) := by decide +kernel
theorem dX12_count_98 : decode cX12_count 98 = .ok (.getfield 25, 3) := by decide +kernel
theorem dX12_count_101 : decode cX12_count 101 = .ok (.iload_n 3, 1) := by decide +kernel
theorem dX12_count_102 : decode cX12_count 102 = .ok (.iaload, 1) := by decide +kernel
theorem dX12_count_103 : decode cX12_count 103 = .ok (.iadd, 1) := by decide +kernel
theorem dX12_count_104 : decode cX12_count 104 = .ok (.istore_n 2, 1) := by decide +kernel
theorem dX12_count_105 : decode cX12_count 105 = .ok (.iinc 3 1, 3) := by decide +kernel
theorem dX12_count_108 : decode cX12_count 108 = .ok (.goto (-20), 3) := by decide +kernel
theorem dX12_count_111 : decode cX12_count 111 = .ok (.iload_n 2, 1) := by decide +kernel
theorem dX12_count_112 : decode cX12_count 112 = .ok (.ireturn, 1) := by decide +kernel
theorem dX12_count_113 : decode cX12_count 113 = .ok (.aload_n 0, 1) := by decide +kernel
theorem dX12_count_114 : decode cX12_count 114 = .ok (.getfield 128, 3) := by decide +kernel
theorem dX12_count_117 : decode cX12_count 117 = .ok (.ireturn, 1) := by decide +kernel
theorem dX12_count_118 : decode cX12_count 118 = .ok (.iconst 0, 1) := by decide +kernel
theorem dX12_count_119 : decode cX12_count 119 = .ok (.istore_n 3, 1) := by decide +kernel
theorem dX12_count_120 : decode cX12_count 120 = .ok (.iload_n 3, 1) := by decide +kernel
theorem dX12_count_121 : decode cX12_count 121 = .ok (.aload_n 0, 1) := by decide +kernel
theorem dX12_count_122 : decode cX12_count 122 = .ok (.getfield 128, 3) := by decide +kernel
theorem dX12_count_125 : decode cX12_count 125 = .ok (.if_icmp .ge 26, 3) := by decide +kernel
theorem dX12_count_128 : decode cX12_count 128 = .ok (.iload_n 2, 1) := by decide +kernel
theorem dX12_count_129 : decode cX12_count 129 = .ok (.aload_n 0, 1) := by decide +kernel
theorem dX12_count_130 : decode cX12_count 130 = .ok (.getfield 45, 3) := by decide +kernel
theorem dX12_count_133 : decode cX12_count 133 = .ok (.iload_n 3, 1) := by decide +kernel
theorem dX12_count_134 : decode cX12_count 134 = .ok (.baload, 1) := by decide +kernel
theorem dX12_count_135 : decode cX12_count 135 = .ok (.ifCond .eq 7, 3) := by decide +kernel
theorem dX12_count_138 : decode cX12_count 138 = .ok (.iconst 1, 1) := by decide +kernel
theorem dX12_count_139 : decode cX12_count 139 = .ok (.goto 4, 3) := by decide +kernel
theorem dX12_count_142 : decode cX12_count 142 = .ok (.iconst 0, 1) := by decide +kernel
theorem dX12_count_143 : decode cX12_count 143 = .ok (.iadd, 1) := by decide +kernel
theorem dX12_count_144 : decode cX12_count 144 = .ok (.istore_n 2, 1) := by decide +kernel
theorem dX12_count_145 : decode cX12_count 145 = .ok (.iinc 3 1, 3) := by decide +kernel
theorem dX12_count_148 : decode cX12_count 148 = .ok (.goto (-28), 3) := by decide +kernel
theorem dX12_count_151 : decode cX12_count 151 = .ok (.iload_n 2, 1) := by decide +kernel
theorem dX12_count_152 : decode cX12_count 152 = .ok (.ireturn, 1) := by decide +kernel
theorem dX12_count_153 : decode cX12_count 153 = .ok (.aload_n 0, 1) := by decide +kernel
theorem dX12_count_154 : decode cX12_count 154 = .ok (.getfield 143, 3) := by decide +kernel
theorem dX12_count_157 : decode cX12_count 157 = .ok (.ireturn, 1) := by decide +kernel
theorem dX12_count_158 : decode cX12_count 158 = .ok (.ldc 80, 2) := by decide +kernel
theorem dX12_count_160 : decode cX12_count 160 = .ok (.ireturn, 1) := by decide +kernel
theorem dX12_status_0 : decode cX12_status 0 = .ok (.aload_n 0, 1) := by decide +kernel
theorem dX12_status_1 : decode cX12_status 1 = .ok (.iconst 0, 1) := by decide +kernel
theorem dX12_status_2 : decode cX12_status 2 = .ok (.putfield 60, 3) := by decide +kernel
theorem dX12_status_5 : decode cX12_status 5 = .ok (.aload_n 0, 1) := by decide +kernel
theorem dX12_status_6 : decode cX12_status 6 = .ok (.getfield 64, 3) := by decide +kernel
theorem dX12_status_9 : decode cX12_status 9 = .ok (.ireturn, 1) := by decide +kernel
theorem dJ9_max_7cf53_0 : decode cJ9_max_7cf53 0 = .ok (.iload_n 0, 1) := by decide +kernel
theorem dJ9_max_7cf53_1 : decode cJ9_max_7cf53 1 = .ok (.iload_n 1, 1) := by decide +kernel
theorem dJ9_max_7cf53_2 : decode cJ9_max_7cf53 2 = .ok (.if_icmp .lt 7, 3) := by decide +kernel
theorem dJ9_max_7cf53_5 : decode cJ9_max_7cf53 5 = .ok (.iload_n 0, 1) := by decide +kernel
theorem dJ9_max_7cf53_6 : decode cJ9_max_7cf53 6 = .ok (.goto 4, 3) := by decide +kernel
theorem dJ9_max_7cf53_9 : decode cJ9_max_7cf53 9 = .ok (.iload_n 1, 1) := by decide +kernel
theorem dJ9_max_7cf53_10 : decode cJ9_max_7cf53 10 = .ok (.ireturn, 1) := by decide +kernel
theorem dJ9_min_7cf53_0 : decode cJ9_min_7cf53 0 = .ok (.iload_n 0, 1) := by decide +kernel
theorem dJ9_min_7cf53_1 : decode cJ9_min_7cf53 1 = .ok (.iload_n 1, 1) := by decide +kernel
theorem dJ9_min_7cf53_2 : decode cJ9_min_7cf53 2 = .ok (.if_icmp .gt 7, 3) := by decide +kernel
theorem dJ9_min_7cf53_5 : decode cJ9_min_7cf53 5 = .ok (.iload_n 0, 1) := by decide +kernel
theorem dJ9_min_7cf53_6 : decode cJ9_min_7cf53 6 = .ok (.goto 4, 3) := by decide +kernel
theorem dJ9_min_7cf53_9 : decode cJ9_min_7cf53 9 = .ok (.iload_n 1, 1) := by decide +kernel
theorem dJ9_min_7cf53_10 : decode cJ9_min_7cf53 10 = .ok (.ireturn, 1) := by decide +kernel
theorem dJ7_fill_53178_0 : decode cJ7_fill_53178 0 = .ok (.iconst 0, 1) := by decide +kernel
theorem dJ7_fill_53178_1 : decode cJ7_fill_53178 1 = .ok (.istore_n 2, 1) := by decide +kernel
theorem dJ7_fill_53178_2 : decode cJ7_fill_53178 2 = .ok (.aload_n 0, 1) := by decide +kernel
theorem dJ7_fill_53178_3 : decode cJ7_fill_53178 3 = .ok (.arraylength, 1) := by decide +kernel
theorem dJ7_fill_53178_4 : decode cJ7_fill_53178 4 = .ok (.istore_n 3, 1) := by decide +kernel
theorem dJ7_fill_53178_5 : decode cJ7_fill_53178 5 = .ok (.iload_n 2, 1) := by decide +kernel
theorem dJ7_fill_53178_6 : decode cJ7_fill_53178 6 = .ok (.iload_n 3, 1) := by decide +kernel
theorem dJ7_fill_53178_7 : decode cJ7_fill_53178 7 = .ok (.if_icmp .ge 13, 3) := by decide +kernel
theorem dJ7_fill_53178_10 : decode cJ7_fill_53178 10 = .ok (.aload_n 0, 1) := by decide +kernel
theorem dJ7_fill_53178_11 : decode cJ7_fill_53178 11 = .ok (.iload_n 2, 1) := by decide +kernel
theorem dJ7_fill_53178_12 : decode cJ7_fill_53178 12 = .ok (.iload_n 1, 1) := by decide +kernel
theorem dJ7_fill_53178_13 : decode cJ7_fill_53178 13 = .ok (.iastore, 1) := by decide +kernel
theorem dJ7_fill_53178_14 : decode cJ7_fill_53178 14 = .ok (.iinc 2 1, 3) := by decide +kernel
theorem dJ7_fill_53178_17 : decode cJ7_fill_53178 17 = .ok (.goto (-12), 3) := by decide +kernel
theorem dJ7_fill_53178_20 : decode cJ7_fill_53178 20 = .ok (.return_, 1) := by decide +kernel
end
section
theorem zz_test : True := trivial
end
