/-! ===== the judgement of a method's walk: J; the worlds are lists of cells ===== -/
abbrev jG : Type := Program × Launch × Env × Room × State × MethodId × Array Value × List Frame × Method × Code × (Nat → Prop) × (State → Prop)
/-- words of the tables that go along with the world -/
def jNw : List Cond := [.methodLinkNest RX11 18 yX6_init RX11, .methodLinkNest RX11 43 yX5_init RX11, .methodLinkNest RX11 50 yX1_init RX11, .methodLinkNest RX11 57 yX9_init RX11, .methodLinkNest RX5 25 yX11_within RX11, .methodLinkNest RX7 47 yX11_within RX11]
def jCa : List (String × String) := [(RX3, RX2), (RX10, RX2), (RX8, RX2), (RX10, RX3)]
def jNc : List (String × String) := [(RX2, RX3), (RX8, RX3), (RX2, RX10), (RX3, RX10), (RX8, RX10), (RX2, RX8), (RX3, RX8), (RX10, RX8)]
def jAo : List FieldType := [.object "SeaGates$Gate", .array .int, .array .long]
def jK (D : va_G) (tys : List (ClassId × FieldType)) (U : State) : Prop := va_K D vwCl tys U ∧ (∀ w ∈ jNw, va_Nw w U) ∧ (∀ q ∈ jCa, va_Nw (.castable q.1 q.2) U) ∧ (∀ q ∈ jNc, va_Nc q.1 q.2 U) ∧ (∀ t ∈ jAo, va_Nw (.arrayOver t) U)
theorem jAo_alike {t : FieldType} (ht : t ∈ jAo) {s U : State} (hW : s.vm.Alike U.vm) (h : va_Nw (.arrayOver t) s) : va_Nw (.arrayOver t) U := by
  simp only [jAo, List.mem_cons, List.not_mem_nil, or_false] at ht
  rcases ht with rfl | rfl | rfl
  · exact va_AO.moved hW h
  · exact (show _ = _ from rfl : va_Nw (.arrayOver _) U = va_Nw (.arrayOver _) (s.setVm U.vm)).mpr ((Jvm.Cond.arrayOver_setVmC hW _).trans h)
  · exact (show _ = _ from rfl : va_Nw (.arrayOver _) U = va_Nw (.arrayOver _) (s.setVm U.vm)).mpr ((Jvm.Cond.arrayOver_setVmC hW _).trans h)
theorem jNw_warm {s U : State} (hW : s.WarmedH U.vm) (h : ∀ w ∈ jNw, va_Nw w s) : ∀ w ∈ jNw, va_Nw w U := by
  intro w hw
  have h9 := h w hw
  simp only [jNw, List.mem_cons, List.not_mem_nil, or_false] at hw
  rcases hw with rfl | rfl | rfl | rfl | rfl | rfl <;> exact va_Nw.warmM hW h9
theorem jNw_same {u U : State} (hv : u.vm = U.vm) (h : ∀ w ∈ jNw, va_Nw w u) : ∀ w ∈ jNw, va_Nw w U := by
  intro w hw
  have h9 := h w hw
  simp only [jNw, List.mem_cons, List.not_mem_nil, or_false] at hw
  rcases hw with rfl | rfl | rfl | rfl | rfl | rfl <;> exact va_Nw.same rfl hv h9
theorem va_Nc_alike {C T : String} {u U : State} (hv : u.vm.Alike U.vm) (h : va_Nc C T u) : va_Nc C T U := by
  obtain ⟨c, t, h1, h2, h3⟩ := h
  exact ⟨c, t, by rw [hv.findClass]; exact h1, by rw [hv.findClass]; exact h2, by rw [← h3]; exact hv.assignable c t⟩
theorem jK.warm {D : va_G} {tys : List (ClassId × FieldType)} {s U : State} (hW : s.WarmedH U.vm) (h : jK D tys s) : jK D tys U :=
  ⟨va_K.moved hW.alike h.1, jNw_warm hW h.2.1, fun q hq => va_Nw.warmC hW (h.2.2.1 q hq), fun q hq => va_Nc_alike hW.alike (h.2.2.2.1 q hq), fun t ht => jAo_alike ht hW.alike (h.2.2.2.2 t ht)⟩
theorem jK.blind {D : va_G} {tys : List (ClassId × FieldType)} {U : State} {g : JFrame} {mk : MethodId} {a : Array Value} (h : jK D tys U) : jK D tys (U.calling g mk a) :=
  ⟨va_K.moved (u := U) (U := U.calling g mk a) (Vm.Alike.refl U.vm) h.1, jNw_same (u := U) (U := U.calling g mk a) rfl h.2.1, fun q hq => va_Nw.same (u := U) (U := U.calling g mk a) rfl rfl (h.2.2.1 q hq), fun q hq => va_Nc_alike (u := U) (U := U.calling g mk a) (Vm.Alike.refl U.vm) (h.2.2.2.1 q hq), fun t ht => jAo_alike ht (s := U) (U := U.calling g mk a) (Vm.Alike.refl U.vm) (h.2.2.2.2 t ht)⟩
def J (Γ : jG) (D : va_G) (nL cs sl : Nat) (ws : va_W) (pc : Nat) (lv : List (Nat × Value)) (st : List Value) : Prop := match Γ with
  | (p, l, e, R, s, m, args, below, meth, c, A, Q) => ∀ (H : Heap) (locs : List Loc) (ls : Array Slot), va_P D vwCl ws H → va_D A ws → va_S A s.heap H locs → lv_has ls nL lv → W p l e R s m args below meth c H locs cs sl Q (F0 m pc ls st)
def jC (Γ : jG) (l0 : Launch) (rm : Room) (D : va_G) (nL : Nat) (own : String) (cc : ByteArray) (Ts : List Cond) (tys : List (ClassId × FieldType)) : Prop := match Γ with
  | (p, l, e, R, s, m, args, below, meth, c, A, Q) => l = l0 ∧ R = rm ∧ p.tables.exec = Jvm.exec ∧ c.code = cc ∧ c.maxLocals = nL ∧ s.vm.findClass own = some m.cls ∧ (∀ w ∈ Ts, w.before args s = true) ∧ jK D tys s ∧ (∀ q : Nat, s.heap.size ≤ q → A q) ∧ meth.locks = false
/-- a contract's start, its end -/
def jPre (D : va_G) (tys : List (ClassId × FieldType)) (av : List Value) (ws : va_W) (sz : Nat) : Array Value → State → Prop := va_Pc av (fun U => U.heap.size = sz ∧ va_P D vwCl ws U.heap ∧ jK D tys U ∧ va_D (fun _ => True) ws)
def jB {S : Type} (D : va_G) (wf : S → va_W) (A : Nat → Prop) : S → State → Prop := fun u t => va_P D vwCl (wf u) t.heap ∧ va_D A (wf u)

abbrev jMi {S : Type} (l : Launch) (y : MethodName) (ws : List Cond) (rm : Room) (D : va_G) (tys : List (ClassId × FieldType)) (av : List Value) (w0 : va_W) (wf : S → va_W) (post : Int32 → S → Prop) (mc ms : Nat) : Prop := ∀ sz : Nat, Met l y ws rm (jPre D tys av w0 sz) (va_Qi post (jB D wf (va_A w0 sz)) (va_A w0 sz)) mc ms (va_A w0 sz)
def jQi {S : Type} (Γ : jG) (D : va_G) (wf : S → va_W) (post : Int32 → S → Prop) (rt : Option FieldType) (mc ms : Nat) : Prop := match Γ with
  | (p, l, e, R, s, m, args, below, meth, c, A, Q) => Q = MQ below (va_Qi post (jB D wf A) A) args s mc ms A ∧ meth.sig.returnType = rt
theorem j_meti {S : Type} {l : Launch} {y : MethodName} {ws' : List Cond} {rm : Room} {D : va_G} {tys : List (ClassId × FieldType)} {av : List Value} {w0 : va_W} {wf : S → va_W} {post : Int32 → S → Prop} {mc ms : Nat} {cc : ByteArray} {nL : Nat} {rt : Option FieldType} (hy : plainName y.cls = true) (hn : (lg_sl av).length ≤ nL)
    (body : ∀ Γ : jG, jC Γ l rm D nL y.cls cc (.code y cc nL rt :: ws') tys → jQi Γ D wf post rt mc ms → (match Γ with | (_, _, _, _, _, _, _, _, meth, _, _, _) => meth.name = y.name) → J Γ D nL 0 0 w0 0 (lv_args 0 av) []) : jMi l y (.code y cc nL rt :: ws') rm D tys av w0 wf post mc ms := by
  intro sz
  refine Met.ofW (cc := cc) (maxL := nL) (ret := rt) hy rfl ?_
  intro p e s m args below meth c s₁ B hml hv
  obtain ⟨rfl, hsz, hP, hK, hD0⟩ := hv
  subst hsz
  have hts := atoms_spec (ws := .code y cc nL rt :: ws') B.pre
  have hown : s.vm.findClass y.cls = some m.cls := findClass_of_methodNamed B.named
  have hl := lv_entry av (n := nL) hn
  rw [lg_entry_eq]
  exact body (p, l, e, rm, s, m, av.toArray, below, meth, c, va_A w0 s.heap.size, _) ⟨rfl, rfl, B.exec, B.bytes, hml, hown, hts, hK, fun q h => Or.inr h, B.notSynchronized⟩ ⟨rfl, B.returns⟩ (name_of_methodNamed B.named B.method).1 s.heap [] _ hP (hD0.self (sz := s.heap.size)) va_S.rf hl

abbrev jMl {S : Type} (l : Launch) (y : MethodName) (ws : List Cond) (rm : Room) (D : va_G) (tys : List (ClassId × FieldType)) (av : List Value) (w0 : va_W) (wf : S → va_W) (post : Int64 → S → Prop) (mc ms : Nat) : Prop := ∀ sz : Nat, Met l y ws rm (jPre D tys av w0 sz) (va_Ql post (jB D wf (va_A w0 sz)) (va_A w0 sz)) mc ms (va_A w0 sz)
def jQl {S : Type} (Γ : jG) (D : va_G) (wf : S → va_W) (post : Int64 → S → Prop) (rt : Option FieldType) (mc ms : Nat) : Prop := match Γ with
  | (p, l, e, R, s, m, args, below, meth, c, A, Q) => Q = MQ below (va_Ql post (jB D wf A) A) args s mc ms A ∧ meth.sig.returnType = rt
theorem j_metl {S : Type} {l : Launch} {y : MethodName} {ws' : List Cond} {rm : Room} {D : va_G} {tys : List (ClassId × FieldType)} {av : List Value} {w0 : va_W} {wf : S → va_W} {post : Int64 → S → Prop} {mc ms : Nat} {cc : ByteArray} {nL : Nat} {rt : Option FieldType} (hy : plainName y.cls = true) (hn : (lg_sl av).length ≤ nL)
    (body : ∀ Γ : jG, jC Γ l rm D nL y.cls cc (.code y cc nL rt :: ws') tys → jQl Γ D wf post rt mc ms → (match Γ with | (_, _, _, _, _, _, _, _, meth, _, _, _) => meth.name = y.name) → J Γ D nL 0 0 w0 0 (lv_args 0 av) []) : jMl l y (.code y cc nL rt :: ws') rm D tys av w0 wf post mc ms := by
  intro sz
  refine Met.ofW (cc := cc) (maxL := nL) (ret := rt) hy rfl ?_
  intro p e s m args below meth c s₁ B hml hv
  obtain ⟨rfl, hsz, hP, hK, hD0⟩ := hv
  subst hsz
  have hts := atoms_spec (ws := .code y cc nL rt :: ws') B.pre
  have hown : s.vm.findClass y.cls = some m.cls := findClass_of_methodNamed B.named
  have hl := lv_entry av (n := nL) hn
  rw [lg_entry_eq]
  exact body (p, l, e, rm, s, m, av.toArray, below, meth, c, va_A w0 s.heap.size, _) ⟨rfl, rfl, B.exec, B.bytes, hml, hown, hts, hK, fun q h => Or.inr h, B.notSynchronized⟩ ⟨rfl, B.returns⟩ (name_of_methodNamed B.named B.method).1 s.heap [] _ hP (hD0.self (sz := s.heap.size)) va_S.rf hl

abbrev jMv {S : Type} (l : Launch) (y : MethodName) (ws : List Cond) (rm : Room) (D : va_G) (tys : List (ClassId × FieldType)) (av : List Value) (w0 : va_W) (wf : S → va_W) (post : S → Prop) (mc ms : Nat) : Prop := ∀ sz : Nat, Met l y ws rm (jPre D tys av w0 sz) (va_Qv post (jB D wf (va_A w0 sz)) (va_A w0 sz)) mc ms (va_A w0 sz)
def jQv {S : Type} (Γ : jG) (D : va_G) (wf : S → va_W) (post : S → Prop) (rt : Option FieldType) (mc ms : Nat) : Prop := match Γ with
  | (p, l, e, R, s, m, args, below, meth, c, A, Q) => Q = MQ below (va_Qv post (jB D wf A) A) args s mc ms A ∧ meth.sig.returnType = rt
theorem j_metv {S : Type} {l : Launch} {y : MethodName} {ws' : List Cond} {rm : Room} {D : va_G} {tys : List (ClassId × FieldType)} {av : List Value} {w0 : va_W} {wf : S → va_W} {post : S → Prop} {mc ms : Nat} {cc : ByteArray} {nL : Nat} {rt : Option FieldType} (hy : plainName y.cls = true) (hn : (lg_sl av).length ≤ nL)
    (body : ∀ Γ : jG, jC Γ l rm D nL y.cls cc (.code y cc nL rt :: ws') tys → jQv Γ D wf post rt mc ms → (match Γ with | (_, _, _, _, _, _, _, _, meth, _, _, _) => meth.name = y.name) → J Γ D nL 0 0 w0 0 (lv_args 0 av) []) : jMv l y (.code y cc nL rt :: ws') rm D tys av w0 wf post mc ms := by
  intro sz
  refine Met.ofW (cc := cc) (maxL := nL) (ret := rt) hy rfl ?_
  intro p e s m args below meth c s₁ B hml hv
  obtain ⟨rfl, hsz, hP, hK, hD0⟩ := hv
  subst hsz
  have hts := atoms_spec (ws := .code y cc nL rt :: ws') B.pre
  have hown : s.vm.findClass y.cls = some m.cls := findClass_of_methodNamed B.named
  have hl := lv_entry av (n := nL) hn
  rw [lg_entry_eq]
  exact body (p, l, e, rm, s, m, av.toArray, below, meth, c, va_A w0 s.heap.size, _) ⟨rfl, rfl, B.exec, B.bytes, hml, hown, hts, hK, fun q h => Or.inr h, B.notSynchronized⟩ ⟨rfl, B.returns⟩ (name_of_methodNamed B.named B.method).1 s.heap [] _ hP (hD0.self (sz := s.heap.size)) va_S.rf hl

abbrev jMq {S : Type} (l : Launch) (y : MethodName) (ws : List Cond) (rm : Room) (D : va_G) (tys : List (ClassId × FieldType)) (av : List Value) (w0 : va_W) (wf : S → va_W) (post : Option Nat → S → Prop) (mc ms : Nat) : Prop := ∀ sz : Nat, Met l y ws rm (jPre D tys av w0 sz) (va_Qq post (jB D wf (va_A w0 sz)) (va_A w0 sz)) mc ms (va_A w0 sz)
def jQq {S : Type} (Γ : jG) (D : va_G) (wf : S → va_W) (post : Option Nat → S → Prop) (rt : Option FieldType) (mc ms : Nat) : Prop := match Γ with
  | (p, l, e, R, s, m, args, below, meth, c, A, Q) => Q = MQ below (va_Qq post (jB D wf A) A) args s mc ms A ∧ meth.sig.returnType = rt
theorem j_metq {S : Type} {l : Launch} {y : MethodName} {ws' : List Cond} {rm : Room} {D : va_G} {tys : List (ClassId × FieldType)} {av : List Value} {w0 : va_W} {wf : S → va_W} {post : Option Nat → S → Prop} {mc ms : Nat} {cc : ByteArray} {nL : Nat} {rt : Option FieldType} (hy : plainName y.cls = true) (hn : (lg_sl av).length ≤ nL)
    (body : ∀ Γ : jG, jC Γ l rm D nL y.cls cc (.code y cc nL rt :: ws') tys → jQq Γ D wf post rt mc ms → (match Γ with | (_, _, _, _, _, _, _, _, meth, _, _, _) => meth.name = y.name) → J Γ D nL 0 0 w0 0 (lv_args 0 av) []) : jMq l y (.code y cc nL rt :: ws') rm D tys av w0 wf post mc ms := by
  intro sz
  refine Met.ofW (cc := cc) (maxL := nL) (ret := rt) hy rfl ?_
  intro p e s m args below meth c s₁ B hml hv
  obtain ⟨rfl, hsz, hP, hK, hD0⟩ := hv
  subst hsz
  have hts := atoms_spec (ws := .code y cc nL rt :: ws') B.pre
  have hown : s.vm.findClass y.cls = some m.cls := findClass_of_methodNamed B.named
  have hl := lv_entry av (n := nL) hn
  rw [lg_entry_eq]
  exact body (p, l, e, rm, s, m, av.toArray, below, meth, c, va_A w0 s.heap.size, _) ⟨rfl, rfl, B.exec, B.bytes, hml, hown, hts, hK, fun q h => Or.inr h, B.notSynchronized⟩ ⟨rfl, B.returns⟩ (name_of_methodNamed B.named B.method).1 s.heap [] _ hP (hD0.self (sz := s.heap.size)) va_S.rf hl


theorem jl_eq {x y : Int64} : lg_cmp x y = 0 ↔ x = y := by
  unfold lg_cmp
  by_cases h1 : y < x
  · rw [if_pos h1]; exact ⟨fun h => absurd h (by decide), fun h => absurd h1 (by rw [h]; exact Int64.lt_irrefl)⟩
  · rw [if_neg h1]
    by_cases h2 : x = y
    · simp [h2]
    · rw [if_neg h2]; exact ⟨fun h => absurd h (by decide), fun h => absurd h h2⟩
theorem jl_ne {x y : Int64} : ¬ lg_cmp x y = 0 ↔ ¬ x = y := not_congr jl_eq
theorem jl_gt {x y : Int64} : 0 < lg_cmp x y ↔ y < x := by
  unfold lg_cmp
  by_cases h1 : y < x
  · rw [if_pos h1]; exact ⟨fun _ => h1, fun _ => by decide⟩
  · rw [if_neg h1]
    by_cases h2 : x = y
    · rw [if_pos h2]; exact ⟨fun h => absurd h (by decide), fun h => absurd h h1⟩
    · rw [if_neg h2]; exact ⟨fun h => absurd h (by decide), fun h => absurd h h1⟩
theorem jl_le {x y : Int64} : lg_cmp x y ≤ 0 ↔ x ≤ y := by
  have h := @jl_gt x y
  rw [← Int32.not_lt, ← Int64.not_lt]
  exact not_congr h
theorem jl_lt {x y : Int64} : lg_cmp x y < 0 ↔ x < y := by
  unfold lg_cmp
  by_cases h1 : y < x
  · rw [if_pos h1]; exact ⟨fun h => absurd h (by decide), fun h => absurd (Int64.lt_trans h h1) Int64.lt_irrefl⟩
  · rw [if_neg h1]
    by_cases h2 : x = y
    · rw [if_pos h2]; exact ⟨fun h => absurd h (by decide), fun h => absurd h (by rw [h2]; exact Int64.lt_irrefl)⟩
    · rw [if_neg h2]; refine ⟨fun _ => ?_, fun _ => by decide⟩
      rw [Int64.lt_iff_toInt_lt]
      rw [Int64.lt_iff_toInt_lt] at h1
      have h3 : x.toInt ≠ y.toInt := fun h => h2 (Int64.toInt_inj.mp h)
      omega
theorem jl_ge {x y : Int64} : 0 ≤ lg_cmp x y ↔ y ≤ x := by
  have h := @jl_lt x y
  rw [← Int32.not_lt, ← Int64.not_lt]
  exact not_congr h
theorem mw {α : Type} {l : List α} {a : α} (i : Nat) (h : l[i]? = some a) : a ∈ l := List.mem_of_getElem? h
theorem jin_lit {i : Int32} {n : Nat} (h : 0 ≤ i.toInt ∧ i.toInt < (n : Int)) : vp_in i n := vp_in_iff.mpr h
def jz (v : Int32) : Prop := v = 0 ∨ v = 1
theorem jz_n {v : Int32} (h : jz v) : narrow .boolean (.int v) = .int v := by rcases h with rfl | rfl <;> rfl
theorem jz_f {v : Int32} (h : jz v) : fits .boolean (.int v) = true := by rcases h with rfl | rfl <;> rfl


theorem jm_inner_int (c : ClassId) (K : Nat) : Jvm.Free.Multi.innerC c K (defaultValue .int) = vp_cell c (K, .inl (fun _ => 0)) := by
  rw [vp_cell_i]
  exact arrV_new c K _
theorem jm_inner_long (c : ClassId) (K : Nat) : Jvm.Free.Multi.innerC c K (defaultValue .long) = vp_cell c (K, .inr (.inl (fun _ => 0))) := by
  rw [vp_cell_l]
  exact arrV_new c K _
theorem jm_pool {X : va_W} {N : Nat} {r : Nat → Nat} {f : Nat → va_E} {e : va_E} : X ++ va_pl ([] ++ (List.range N).map r) (vr_up f ((List.range N).map r) e) = X ++ (List.range N).map (fun j => (r j, e)) := by
  congr 1
  unfold va_pl
  rw [List.nil_append, List.map_map]
  apply List.map_congr_left
  intro j hj
  show (r j, vr_up f ((List.range N).map r) e (r j)) = (r j, e)
  rw [vr_up_in (List.mem_map.mpr ⟨j, hj, rfl⟩)]

section JR
variable {Γ : jG} {l0 : Launch} {rm : Room} {D : va_G} {nL cs sl : Nat} {own : String} {cc : ByteArray} {Ts : List Cond} {tys : List (ClassId × FieldType)} {ws : va_W} {pc : Nat} {lv : List (Nat × Value)} {st : List Value}
theorem j_iconst (hC : jC Γ l0 rm D nL own cc Ts tys) {n : Int} (hd : decode cc pc = .ok (.iconst n, 1)) {v : Int32} (hv : Int32.ofInt n = v) (kk : J Γ D nL cs sl ws (pc + 1) lv (.int v :: st)) : J Γ D nL cs sl ws pc lv (st) := by
  obtain ⟨p, l, e, R, s, m, args, below, meth, c, A, Q⟩ := Γ
  obtain ⟨rfl, rfl, hx, hb, hml, hown, hts, hK, hA, hlk⟩ := hC
  intro H locs ls hP hD hS hl
  exact lv_iconst hx hb hd hv (kk H locs ls hP hD hS hl)
theorem j_bipush (hC : jC Γ l0 rm D nL own cc Ts tys) {n : Int} (hd : decode cc pc = .ok (.bipush n, 2)) {v : Int32} (hv : (Int8.ofInt n).toInt32 = v) (kk : J Γ D nL cs sl ws (pc + 2) lv (.int v :: st)) : J Γ D nL cs sl ws pc lv (st) := by
  obtain ⟨p, l, e, R, s, m, args, below, meth, c, A, Q⟩ := Γ
  obtain ⟨rfl, rfl, hx, hb, hml, hown, hts, hK, hA, hlk⟩ := hC
  intro H locs ls hP hD hS hl
  exact lv_bipush hx hb hd hv (kk H locs ls hP hD hS hl)
theorem j_sipush (hC : jC Γ l0 rm D nL own cc Ts tys) {n : Int} (hd : decode cc pc = .ok (.sipush n, 3)) {v : Int32} (hv : (Int16.ofInt n).toInt32 = v) (kk : J Γ D nL cs sl ws (pc + 3) lv (.int v :: st)) : J Γ D nL cs sl ws pc lv (st) := by
  obtain ⟨p, l, e, R, s, m, args, below, meth, c, A, Q⟩ := Γ
  obtain ⟨rfl, rfl, hx, hb, hml, hown, hts, hK, hA, hlk⟩ := hC
  intro H locs ls hP hD hS hl
  exact lv_sipush hx hb hd hv (kk H locs ls hP hD hS hl)
theorem j_lconst (hC : jC Γ l0 rm D nL own cc Ts tys) {n : Fin 2} (hd : decode cc pc = .ok (.lconst n, 1)) {v : Int64} (hv : Int64.ofNat (n : Nat) = v) (kk : J Γ D nL cs sl ws (pc + 1) lv (.long v :: st)) : J Γ D nL cs sl ws pc lv (st) := by
  obtain ⟨p, l, e, R, s, m, args, below, meth, c, A, Q⟩ := Γ
  obtain ⟨rfl, rfl, hx, hb, hml, hown, hts, hK, hA, hlk⟩ := hC
  intro H locs ls hP hD hS hl
  exact lv_lconst hx hb hd hv (kk H locs ls hP hD hS hl)
theorem j_iload_n (hC : jC Γ l0 rm D nL own cc Ts tys) {k : Fin 4} (hd : decode cc pc = .ok (.iload_n k, 1)) {i : Nat} {x : Int32} (hi : (k : Nat) = i) (n : Nat) (h : lv[n]? = some (i, .int x)) (kk : J Γ D nL cs sl ws (pc + 1) lv (.int x :: st)) : J Γ D nL cs sl ws pc lv (st) := by
  obtain ⟨p, l, e, R, s, m, args, below, meth, c, A, Q⟩ := Γ
  obtain ⟨rfl, rfl, hx, hb, hml, hown, hts, hK, hA, hlk⟩ := hC
  intro H locs ls hP hD hS hl
  exact lv_iload_n hx hb hd hi (lv_at hl n h) (kk H locs ls hP hD hS hl)
theorem j_iload (hC : jC Γ l0 rm D nL own cc Ts tys) {i : Nat} (hd : decode cc pc = .ok (.iload i, 2)) {x : Int32} (n : Nat) (h : lv[n]? = some (i, .int x)) (kk : J Γ D nL cs sl ws (pc + 2) lv (.int x :: st)) : J Γ D nL cs sl ws pc lv (st) := by
  obtain ⟨p, l, e, R, s, m, args, below, meth, c, A, Q⟩ := Γ
  obtain ⟨rfl, rfl, hx, hb, hml, hown, hts, hK, hA, hlk⟩ := hC
  intro H locs ls hP hD hS hl
  exact lv_iload hx hb hd (lv_at hl n h) (kk H locs ls hP hD hS hl)
theorem j_lload_n (hC : jC Γ l0 rm D nL own cc Ts tys) {k : Fin 4} (hd : decode cc pc = .ok (.lload_n k, 1)) {i : Nat} {x : Int64} (hi : (k : Nat) = i) (n : Nat) (h : lv[n]? = some (i, .long x)) (kk : J Γ D nL cs sl ws (pc + 1) lv (.long x :: st)) : J Γ D nL cs sl ws pc lv (st) := by
  obtain ⟨p, l, e, R, s, m, args, below, meth, c, A, Q⟩ := Γ
  obtain ⟨rfl, rfl, hx, hb, hml, hown, hts, hK, hA, hlk⟩ := hC
  intro H locs ls hP hD hS hl
  exact lv_lload_n hx hb hd hi (lv_at hl n h) (kk H locs ls hP hD hS hl)
theorem j_lload (hC : jC Γ l0 rm D nL own cc Ts tys) {i : Nat} (hd : decode cc pc = .ok (.lload i, 2)) {x : Int64} (n : Nat) (h : lv[n]? = some (i, .long x)) (kk : J Γ D nL cs sl ws (pc + 2) lv (.long x :: st)) : J Γ D nL cs sl ws pc lv (st) := by
  obtain ⟨p, l, e, R, s, m, args, below, meth, c, A, Q⟩ := Γ
  obtain ⟨rfl, rfl, hx, hb, hml, hown, hts, hK, hA, hlk⟩ := hC
  intro H locs ls hP hD hS hl
  exact lv_lload hx hb hd (lv_at hl n h) (kk H locs ls hP hD hS hl)
theorem j_aload_n (hC : jC Γ l0 rm D nL own cc Ts tys) {k : Fin 4} (hd : decode cc pc = .ok (.aload_n k, 1)) {i : Nat} {x : Nat} (hi : (k : Nat) = i) (n : Nat) (h : lv[n]? = some (i, .ref x)) (kk : J Γ D nL cs sl ws (pc + 1) lv (.ref x :: st)) : J Γ D nL cs sl ws pc lv (st) := by
  obtain ⟨p, l, e, R, s, m, args, below, meth, c, A, Q⟩ := Γ
  obtain ⟨rfl, rfl, hx, hb, hml, hown, hts, hK, hA, hlk⟩ := hC
  intro H locs ls hP hD hS hl
  exact lv_aload_n hx hb hd hi (lv_at hl n h) (kk H locs ls hP hD hS hl)
theorem j_aload (hC : jC Γ l0 rm D nL own cc Ts tys) {i : Nat} (hd : decode cc pc = .ok (.aload i, 2)) {x : Nat} (n : Nat) (h : lv[n]? = some (i, .ref x)) (kk : J Γ D nL cs sl ws (pc + 2) lv (.ref x :: st)) : J Γ D nL cs sl ws pc lv (st) := by
  obtain ⟨p, l, e, R, s, m, args, below, meth, c, A, Q⟩ := Γ
  obtain ⟨rfl, rfl, hx, hb, hml, hown, hts, hK, hA, hlk⟩ := hC
  intro H locs ls hP hD hS hl
  exact lv_aload hx hb hd (lv_at hl n h) (kk H locs ls hP hD hS hl)
theorem j_aload_nN (hC : jC Γ l0 rm D nL own cc Ts tys) {k : Fin 4} (hd : decode cc pc = .ok (.aload_n k, 1)) {i : Nat} (hi : (k : Nat) = i) (n : Nat) (h : lv[n]? = some (i, .null)) (kk : J Γ D nL cs sl ws (pc + 1) lv (.null :: st)) : J Γ D nL cs sl ws pc lv (st) := by
  obtain ⟨p, l, e, R, s, m, args, below, meth, c, A, Q⟩ := Γ
  obtain ⟨rfl, rfl, hx, hb, hml, hown, hts, hK, hA, hlk⟩ := hC
  intro H locs ls hP hD hS hl
  exact lv_aload_nN hx hb hd hi (lv_at hl n h) (kk H locs ls hP hD hS hl)
theorem j_aloadN (hC : jC Γ l0 rm D nL own cc Ts tys) {i : Nat} (hd : decode cc pc = .ok (.aload i, 2)) (n : Nat) (h : lv[n]? = some (i, .null)) (kk : J Γ D nL cs sl ws (pc + 2) lv (.null :: st)) : J Γ D nL cs sl ws pc lv (st) := by
  obtain ⟨p, l, e, R, s, m, args, below, meth, c, A, Q⟩ := Γ
  obtain ⟨rfl, rfl, hx, hb, hml, hown, hts, hK, hA, hlk⟩ := hC
  intro H locs ls hP hD hS hl
  exact lv_aloadN hx hb hd (lv_at hl n h) (kk H locs ls hP hD hS hl)
theorem j_istore_n (hC : jC Γ l0 rm D nL own cc Ts tys) {k : Fin 4} {i : Nat} {lv' : List (Nat × Value)} {x : Int32} (hd : decode cc pc = .ok (.istore_n k, 1)) (hi : (k : Nat) = i) (hn : i < nL) (hf : (i, Value.int x) :: lv.filter (fun q => !(q.1 == i) && !(q.1 + 1 == i && q.2.category == 2)) = lv') (kk : J Γ D nL cs sl ws (pc + 1) lv' (st)) : J Γ D nL cs sl ws pc lv (.int x :: st) := by
  obtain ⟨p, l, e, R, s, m, args, below, meth, c, A, Q⟩ := Γ
  obtain ⟨rfl, rfl, hx, hb, hml, hown, hts, hK, hA, hlk⟩ := hC
  intro H locs ls hP hD hS hl
  exact lv_istore_n hx hb hd hi hl hn hf (fun ls hl => kk H locs ls hP hD hS hl)
theorem j_istore (hC : jC Γ l0 rm D nL own cc Ts tys) {i : Nat} {lv' : List (Nat × Value)} {x : Int32} (hd : decode cc pc = .ok (.istore i, 2)) (hn : i < nL) (hf : (i, Value.int x) :: lv.filter (fun q => !(q.1 == i) && !(q.1 + 1 == i && q.2.category == 2)) = lv') (kk : J Γ D nL cs sl ws (pc + 2) lv' (st)) : J Γ D nL cs sl ws pc lv (.int x :: st) := by
  obtain ⟨p, l, e, R, s, m, args, below, meth, c, A, Q⟩ := Γ
  obtain ⟨rfl, rfl, hx, hb, hml, hown, hts, hK, hA, hlk⟩ := hC
  intro H locs ls hP hD hS hl
  exact lv_istore hx hb hd hl hn hf (fun ls hl => kk H locs ls hP hD hS hl)
theorem j_lstore_n (hC : jC Γ l0 rm D nL own cc Ts tys) {k : Fin 4} {i : Nat} {lv' : List (Nat × Value)} {x : Int64} (hd : decode cc pc = .ok (.lstore_n k, 1)) (hi : (k : Nat) = i) (hn : i + 1 < nL) (hf : (i, Value.long x) :: lv.filter (fun q => !(q.1 == i) && (!(q.1 == i + 1) && !(q.1 + 1 == i && q.2.category == 2))) = lv') (kk : J Γ D nL cs sl ws (pc + 1) lv' (st)) : J Γ D nL cs sl ws pc lv (.long x :: st) := by
  obtain ⟨p, l, e, R, s, m, args, below, meth, c, A, Q⟩ := Γ
  obtain ⟨rfl, rfl, hx, hb, hml, hown, hts, hK, hA, hlk⟩ := hC
  intro H locs ls hP hD hS hl
  exact lv_lstore_n hx hb hd hi hl hn hf (fun ls hl => kk H locs ls hP hD hS hl)
theorem j_lstore (hC : jC Γ l0 rm D nL own cc Ts tys) {i : Nat} {lv' : List (Nat × Value)} {x : Int64} (hd : decode cc pc = .ok (.lstore i, 2)) (hn : i + 1 < nL) (hf : (i, Value.long x) :: lv.filter (fun q => !(q.1 == i) && (!(q.1 == i + 1) && !(q.1 + 1 == i && q.2.category == 2))) = lv') (kk : J Γ D nL cs sl ws (pc + 2) lv' (st)) : J Γ D nL cs sl ws pc lv (.long x :: st) := by
  obtain ⟨p, l, e, R, s, m, args, below, meth, c, A, Q⟩ := Γ
  obtain ⟨rfl, rfl, hx, hb, hml, hown, hts, hK, hA, hlk⟩ := hC
  intro H locs ls hP hD hS hl
  exact lv_lstore hx hb hd hl hn hf (fun ls hl => kk H locs ls hP hD hS hl)
theorem j_astore_n (hC : jC Γ l0 rm D nL own cc Ts tys) {k : Fin 4} {i : Nat} {lv' : List (Nat × Value)} {x : Nat} (hd : decode cc pc = .ok (.astore_n k, 1)) (hi : (k : Nat) = i) (hn : i < nL) (hf : (i, Value.ref x) :: lv.filter (fun q => !(q.1 == i) && !(q.1 + 1 == i && q.2.category == 2)) = lv') (kk : J Γ D nL cs sl ws (pc + 1) lv' (st)) : J Γ D nL cs sl ws pc lv (.ref x :: st) := by
  obtain ⟨p, l, e, R, s, m, args, below, meth, c, A, Q⟩ := Γ
  obtain ⟨rfl, rfl, hx, hb, hml, hown, hts, hK, hA, hlk⟩ := hC
  intro H locs ls hP hD hS hl
  exact lv_astore_n hx hb hd hi hl hn hf (fun ls hl => kk H locs ls hP hD hS hl)
theorem j_astore (hC : jC Γ l0 rm D nL own cc Ts tys) {i : Nat} {lv' : List (Nat × Value)} {x : Nat} (hd : decode cc pc = .ok (.astore i, 2)) (hn : i < nL) (hf : (i, Value.ref x) :: lv.filter (fun q => !(q.1 == i) && !(q.1 + 1 == i && q.2.category == 2)) = lv') (kk : J Γ D nL cs sl ws (pc + 2) lv' (st)) : J Γ D nL cs sl ws pc lv (.ref x :: st) := by
  obtain ⟨p, l, e, R, s, m, args, below, meth, c, A, Q⟩ := Γ
  obtain ⟨rfl, rfl, hx, hb, hml, hown, hts, hK, hA, hlk⟩ := hC
  intro H locs ls hP hD hS hl
  exact lv_astore hx hb hd hl hn hf (fun ls hl => kk H locs ls hP hD hS hl)
theorem j_astore_nN (hC : jC Γ l0 rm D nL own cc Ts tys) {k : Fin 4} {i : Nat} {lv' : List (Nat × Value)} (hd : decode cc pc = .ok (.astore_n k, 1)) (hi : (k : Nat) = i) (hn : i < nL) (hf : (i, Value.null) :: lv.filter (fun q => !(q.1 == i) && !(q.1 + 1 == i && q.2.category == 2)) = lv') (kk : J Γ D nL cs sl ws (pc + 1) lv' (st)) : J Γ D nL cs sl ws pc lv (.null :: st) := by
  obtain ⟨p, l, e, R, s, m, args, below, meth, c, A, Q⟩ := Γ
  obtain ⟨rfl, rfl, hx, hb, hml, hown, hts, hK, hA, hlk⟩ := hC
  intro H locs ls hP hD hS hl
  exact lv_astore_nN hx hb hd hi hl hn hf (fun ls hl => kk H locs ls hP hD hS hl)
theorem j_astoreN (hC : jC Γ l0 rm D nL own cc Ts tys) {i : Nat} {lv' : List (Nat × Value)} (hd : decode cc pc = .ok (.astore i, 2)) (hn : i < nL) (hf : (i, Value.null) :: lv.filter (fun q => !(q.1 == i) && !(q.1 + 1 == i && q.2.category == 2)) = lv') (kk : J Γ D nL cs sl ws (pc + 2) lv' (st)) : J Γ D nL cs sl ws pc lv (.null :: st) := by
  obtain ⟨p, l, e, R, s, m, args, below, meth, c, A, Q⟩ := Γ
  obtain ⟨rfl, rfl, hx, hb, hml, hown, hts, hK, hA, hlk⟩ := hC
  intro H locs ls hP hD hS hl
  exact lv_astoreN hx hb hd hl hn hf (fun ls hl => kk H locs ls hP hD hS hl)
theorem j_iinc (hC : jC Γ l0 rm D nL own cc Ts tys) {i k : Nat} {n : Int} {x v : Int32} {lv' : List (Nat × Value)} (hd : decode cc pc = .ok (.iinc i n, 3)) (hk : lv[k]? = some (i, .int x)) (hv : x + Int32.ofInt n = v) (hn : i < nL) (hf : (i, Value.int v) :: lv.filter (fun q => !(q.1 == i) && !(q.1 + 1 == i && q.2.category == 2)) = lv') (kk : J Γ D nL cs sl ws (pc + 3) lv' (st)) : J Γ D nL cs sl ws pc lv (st) := by
  obtain ⟨p, l, e, R, s, m, args, below, meth, c, A, Q⟩ := Γ
  obtain ⟨rfl, rfl, hx, hb, hml, hown, hts, hK, hA, hlk⟩ := hC
  intro H locs ls hP hD hS hl
  exact lv_iinc hx hb hd hl hk hv hn hf (fun ls hl => kk H locs ls hP hD hS hl)
theorem j_iadd (hC : jC Γ l0 rm D nL own cc Ts tys) {x y : Int32} (hd : decode cc pc = .ok (.iadd, 1))  (kk : J Γ D nL cs sl ws (pc + 1) lv (.int (x + y) :: st)) : J Γ D nL cs sl ws pc lv (.int y :: .int x :: st) := by
  obtain ⟨p, l, e, R, s, m, args, below, meth, c, A, Q⟩ := Γ
  obtain ⟨rfl, rfl, hx, hb, hml, hown, hts, hK, hA, hlk⟩ := hC
  intro H locs ls hP hD hS hl
  exact lv_iadd hx hb hd (kk H locs ls hP hD hS hl)
theorem j_isub (hC : jC Γ l0 rm D nL own cc Ts tys) {x y : Int32} (hd : decode cc pc = .ok (.isub, 1))  (kk : J Γ D nL cs sl ws (pc + 1) lv (.int (x - y) :: st)) : J Γ D nL cs sl ws pc lv (.int y :: .int x :: st) := by
  obtain ⟨p, l, e, R, s, m, args, below, meth, c, A, Q⟩ := Γ
  obtain ⟨rfl, rfl, hx, hb, hml, hown, hts, hK, hA, hlk⟩ := hC
  intro H locs ls hP hD hS hl
  exact lv_isub hx hb hd (kk H locs ls hP hD hS hl)
theorem j_imul (hC : jC Γ l0 rm D nL own cc Ts tys) {x y : Int32} (hd : decode cc pc = .ok (.imul, 1))  (kk : J Γ D nL cs sl ws (pc + 1) lv (.int (x * y) :: st)) : J Γ D nL cs sl ws pc lv (.int y :: .int x :: st) := by
  obtain ⟨p, l, e, R, s, m, args, below, meth, c, A, Q⟩ := Γ
  obtain ⟨rfl, rfl, hx, hb, hml, hown, hts, hK, hA, hlk⟩ := hC
  intro H locs ls hP hD hS hl
  exact lv_imul hx hb hd (kk H locs ls hP hD hS hl)
theorem j_iand (hC : jC Γ l0 rm D nL own cc Ts tys) {x y : Int32} (hd : decode cc pc = .ok (.iand, 1))  (kk : J Γ D nL cs sl ws (pc + 1) lv (.int (x &&& y) :: st)) : J Γ D nL cs sl ws pc lv (.int y :: .int x :: st) := by
  obtain ⟨p, l, e, R, s, m, args, below, meth, c, A, Q⟩ := Γ
  obtain ⟨rfl, rfl, hx, hb, hml, hown, hts, hK, hA, hlk⟩ := hC
  intro H locs ls hP hD hS hl
  exact lv_iand hx hb hd (kk H locs ls hP hD hS hl)
theorem j_ior (hC : jC Γ l0 rm D nL own cc Ts tys) {x y : Int32} (hd : decode cc pc = .ok (.ior, 1))  (kk : J Γ D nL cs sl ws (pc + 1) lv (.int (x ||| y) :: st)) : J Γ D nL cs sl ws pc lv (.int y :: .int x :: st) := by
  obtain ⟨p, l, e, R, s, m, args, below, meth, c, A, Q⟩ := Γ
  obtain ⟨rfl, rfl, hx, hb, hml, hown, hts, hK, hA, hlk⟩ := hC
  intro H locs ls hP hD hS hl
  exact lv_ior hx hb hd (kk H locs ls hP hD hS hl)
theorem j_ishl (hC : jC Γ l0 rm D nL own cc Ts tys) {x y : Int32} (hd : decode cc pc = .ok (.ishl, 1))  (kk : J Γ D nL cs sl ws (pc + 1) lv (.int (x <<< (y &&& 31)) :: st)) : J Γ D nL cs sl ws pc lv (.int y :: .int x :: st) := by
  obtain ⟨p, l, e, R, s, m, args, below, meth, c, A, Q⟩ := Γ
  obtain ⟨rfl, rfl, hx, hb, hml, hown, hts, hK, hA, hlk⟩ := hC
  intro H locs ls hP hD hS hl
  exact lv_ishl hx hb hd (kk H locs ls hP hD hS hl)
theorem j_ishr (hC : jC Γ l0 rm D nL own cc Ts tys) {x y : Int32} (hd : decode cc pc = .ok (.ishr, 1))  (kk : J Γ D nL cs sl ws (pc + 1) lv (.int (x >>> (y &&& 31)) :: st)) : J Γ D nL cs sl ws pc lv (.int y :: .int x :: st) := by
  obtain ⟨p, l, e, R, s, m, args, below, meth, c, A, Q⟩ := Γ
  obtain ⟨rfl, rfl, hx, hb, hml, hown, hts, hK, hA, hlk⟩ := hC
  intro H locs ls hP hD hS hl
  exact lv_ishr hx hb hd (kk H locs ls hP hD hS hl)
theorem j_idiv (hC : jC Γ l0 rm D nL own cc Ts tys) {x y : Int32} (hd : decode cc pc = .ok (.idiv, 1)) (hne : ¬ y = 0) (kk : J Γ D nL cs sl ws (pc + 1) lv (.int (x / y) :: st)) : J Γ D nL cs sl ws pc lv (.int y :: .int x :: st) := by
  obtain ⟨p, l, e, R, s, m, args, below, meth, c, A, Q⟩ := Γ
  obtain ⟨rfl, rfl, hx, hb, hml, hown, hts, hK, hA, hlk⟩ := hC
  intro H locs ls hP hD hS hl
  exact lv_idiv hx hb hd hne (kk H locs ls hP hD hS hl)
theorem j_irem (hC : jC Γ l0 rm D nL own cc Ts tys) {x y : Int32} (hd : decode cc pc = .ok (.irem, 1)) (hne : ¬ y = 0) (kk : J Γ D nL cs sl ws (pc + 1) lv (.int (x - x / y * y) :: st)) : J Γ D nL cs sl ws pc lv (.int y :: .int x :: st) := by
  obtain ⟨p, l, e, R, s, m, args, below, meth, c, A, Q⟩ := Γ
  obtain ⟨rfl, rfl, hx, hb, hml, hown, hts, hK, hA, hlk⟩ := hC
  intro H locs ls hP hD hS hl
  exact lv_irem hx hb hd hne (kk H locs ls hP hD hS hl)
theorem j_ladd (hC : jC Γ l0 rm D nL own cc Ts tys) {x y : Int64} (hd : decode cc pc = .ok (.ladd, 1))  (kk : J Γ D nL cs sl ws (pc + 1) lv (.long (x + y) :: st)) : J Γ D nL cs sl ws pc lv (.long y :: .long x :: st) := by
  obtain ⟨p, l, e, R, s, m, args, below, meth, c, A, Q⟩ := Γ
  obtain ⟨rfl, rfl, hx, hb, hml, hown, hts, hK, hA, hlk⟩ := hC
  intro H locs ls hP hD hS hl
  exact lv_ladd hx hb hd (kk H locs ls hP hD hS hl)
theorem j_lsub (hC : jC Γ l0 rm D nL own cc Ts tys) {x y : Int64} (hd : decode cc pc = .ok (.lsub, 1))  (kk : J Γ D nL cs sl ws (pc + 1) lv (.long (x - y) :: st)) : J Γ D nL cs sl ws pc lv (.long y :: .long x :: st) := by
  obtain ⟨p, l, e, R, s, m, args, below, meth, c, A, Q⟩ := Γ
  obtain ⟨rfl, rfl, hx, hb, hml, hown, hts, hK, hA, hlk⟩ := hC
  intro H locs ls hP hD hS hl
  exact lv_lsub hx hb hd (kk H locs ls hP hD hS hl)
theorem j_lmul (hC : jC Γ l0 rm D nL own cc Ts tys) {x y : Int64} (hd : decode cc pc = .ok (.lmul, 1))  (kk : J Γ D nL cs sl ws (pc + 1) lv (.long (x * y) :: st)) : J Γ D nL cs sl ws pc lv (.long y :: .long x :: st) := by
  obtain ⟨p, l, e, R, s, m, args, below, meth, c, A, Q⟩ := Γ
  obtain ⟨rfl, rfl, hx, hb, hml, hown, hts, hK, hA, hlk⟩ := hC
  intro H locs ls hP hD hS hl
  exact lv_lmul hx hb hd (kk H locs ls hP hD hS hl)
theorem j_i2l (hC : jC Γ l0 rm D nL own cc Ts tys) {x : Int32} (hd : decode cc pc = .ok (.i2l, 1))  (kk : J Γ D nL cs sl ws (pc + 1) lv (.long x.toInt64 :: st)) : J Γ D nL cs sl ws pc lv (.int x :: st) := by
  obtain ⟨p, l, e, R, s, m, args, below, meth, c, A, Q⟩ := Γ
  obtain ⟨rfl, rfl, hx, hb, hml, hown, hts, hK, hA, hlk⟩ := hC
  intro H locs ls hP hD hS hl
  exact lv_i2l hx hb hd rfl (kk H locs ls hP hD hS hl)
theorem j_i2b (hC : jC Γ l0 rm D nL own cc Ts tys) {x : Int32} (hd : decode cc pc = .ok (.i2b, 1))  (kk : J Γ D nL cs sl ws (pc + 1) lv (.int x.toInt8.toInt32 :: st)) : J Γ D nL cs sl ws pc lv (.int x :: st) := by
  obtain ⟨p, l, e, R, s, m, args, below, meth, c, A, Q⟩ := Γ
  obtain ⟨rfl, rfl, hx, hb, hml, hown, hts, hK, hA, hlk⟩ := hC
  intro H locs ls hP hD hS hl
  exact lv_i2b hx hb hd rfl (kk H locs ls hP hD hS hl)
theorem j_i2s (hC : jC Γ l0 rm D nL own cc Ts tys) {x : Int32} (hd : decode cc pc = .ok (.i2s, 1))  (kk : J Γ D nL cs sl ws (pc + 1) lv (.int x.toInt16.toInt32 :: st)) : J Γ D nL cs sl ws pc lv (.int x :: st) := by
  obtain ⟨p, l, e, R, s, m, args, below, meth, c, A, Q⟩ := Γ
  obtain ⟨rfl, rfl, hx, hb, hml, hown, hts, hK, hA, hlk⟩ := hC
  intro H locs ls hP hD hS hl
  exact lv_i2s hx hb hd rfl (kk H locs ls hP hD hS hl)
theorem j_lcmp (hC : jC Γ l0 rm D nL own cc Ts tys) {x y : Int64} (hd : decode cc pc = .ok (.lcmp, 1)) (kk : J Γ D nL cs sl ws (pc + 1) lv (.int (lg_cmp x y) :: st)) : J Γ D nL cs sl ws pc lv (.long y :: .long x :: st) := by
  obtain ⟨p, l, e, R, s, m, args, below, meth, c, A, Q⟩ := Γ
  obtain ⟨rfl, rfl, hx, hb, hml, hown, hts, hK, hA, hlk⟩ := hC
  intro H locs ls hP hD hS hl
  exact W.lcmp hx hb hd (kk H locs ls hP hD hS hl)
theorem j_dup (hC : jC Γ l0 rm D nL own cc Ts tys) {va : Value} (hd : decode cc pc = .ok (.dup, 1)) (hv : va.category = 1) (kk : J Γ D nL cs sl ws (pc + 1) lv (va :: va :: st)) : J Γ D nL cs sl ws pc lv (va :: st) := by
  obtain ⟨p, l, e, R, s, m, args, below, meth, c, A, Q⟩ := Γ
  obtain ⟨rfl, rfl, hx, hb, hml, hown, hts, hK, hA, hlk⟩ := hC
  intro H locs ls hP hD hS hl
  exact lv_dup hx hb hd hv (kk H locs ls hP hD hS hl)
theorem j_dup2_11 (hC : jC Γ l0 rm D nL own cc Ts tys) {va vb : Value} (hd : decode cc pc = .ok (.dup2, 1)) (hv : va.category = 1) (hw : vb.category = 1) (kk : J Γ D nL cs sl ws (pc + 1) lv (va :: vb :: va :: vb :: st)) : J Γ D nL cs sl ws pc lv (va :: vb :: st) := by
  obtain ⟨p, l, e, R, s, m, args, below, meth, c, A, Q⟩ := Γ
  obtain ⟨rfl, rfl, hx, hb, hml, hown, hts, hK, hA, hlk⟩ := hC
  intro H locs ls hP hD hS hl
  exact lv_dup2_11 hx hb hd hv hw (kk H locs ls hP hD hS hl)
theorem j_dup_x1 (hC : jC Γ l0 rm D nL own cc Ts tys) {va vb : Value} (hd : decode cc pc = .ok (.dup_x1, 1)) (hv : va.category = 1) (hw : vb.category = 1) (kk : J Γ D nL cs sl ws (pc + 1) lv (va :: vb :: va :: st)) : J Γ D nL cs sl ws pc lv (va :: vb :: st) := by
  obtain ⟨p, l, e, R, s, m, args, below, meth, c, A, Q⟩ := Γ
  obtain ⟨rfl, rfl, hx, hb, hml, hown, hts, hK, hA, hlk⟩ := hC
  intro H locs ls hP hD hS hl
  exact lv_dup_x1 hx hb hd hv hw (kk H locs ls hP hD hS hl)
theorem j_ldc (hC : jC Γ l0 rm D nL own cc Ts tys) {index : Nat} {v : Int32} (hd : decode cc pc = .ok (.ldc index, 2)) (hw : Cond.constant own index v ∈ Ts) (kk : J Γ D nL cs sl ws (pc + 2) lv (.int v :: st)) : J Γ D nL cs sl ws pc lv (st) := by
  obtain ⟨p, l, e, R, s, m, args, below, meth, c, A, Q⟩ := Γ
  obtain ⟨rfl, rfl, hx, hb, hml, hown, hts, hK, hA, hlk⟩ := hC
  intro H locs ls hP hD hS hl
  exact lv_ldc hx hb hown (hts _ hw) hd (kk H locs ls hP hD hS hl)
theorem j_ldc2 (hC : jC Γ l0 rm D nL own cc Ts tys) {index : Nat} {v : Int64} (hd : decode cc pc = .ok (.ldc2_w index, 3)) (hw : Cond.constantLong own index v ∈ Ts) (kk : J Γ D nL cs sl ws (pc + 3) lv (.long v :: st)) : J Γ D nL cs sl ws pc lv (st) := by
  obtain ⟨p, l, e, R, s, m, args, below, meth, c, A, Q⟩ := Γ
  obtain ⟨rfl, rfl, hx, hb, hml, hown, hts, hK, hA, hlk⟩ := hC
  intro H locs ls hP hD hS hl
  exact lv_ldc2 hx hb hown (hts _ hw) hd (kk H locs ls hP hD hS hl)
theorem j_if_eq (hC : jC Γ l0 rm D nL own cc Ts tys) {x : Int32} {off : Int} {tgt : Nat} (hd : decode cc pc = .ok (.ifCond .eq off, 3)) (ht : (pc : Int) + off = (tgt : Int)) (kt : x = 0 → J Γ D nL cs sl ws (tgt) lv (st)) (kf : ¬ x = 0 → J Γ D nL cs sl ws (pc + 3) lv (st)) : J Γ D nL cs sl ws pc lv (.int x :: st) := by
  obtain ⟨p, l, e, R, s, m, args, below, meth, c, A, Q⟩ := Γ
  obtain ⟨rfl, rfl, hx, hb, hml, hown, hts, hK, hA, hlk⟩ := hC
  intro H locs ls hP hD hS hl
  exact lv_if_eq hx hb hd ht (fun h9 => kt h9 H locs ls hP hD hS hl) (fun h9 => kf h9 H locs ls hP hD hS hl)
theorem j_icmp_eq (hC : jC Γ l0 rm D nL own cc Ts tys) {x y : Int32} {off : Int} {tgt : Nat} (hd : decode cc pc = .ok (.if_icmp .eq off, 3)) (ht : (pc : Int) + off = (tgt : Int)) (kt : x = y → J Γ D nL cs sl ws (tgt) lv (st)) (kf : ¬ x = y → J Γ D nL cs sl ws (pc + 3) lv (st)) : J Γ D nL cs sl ws pc lv (.int y :: .int x :: st) := by
  obtain ⟨p, l, e, R, s, m, args, below, meth, c, A, Q⟩ := Γ
  obtain ⟨rfl, rfl, hx, hb, hml, hown, hts, hK, hA, hlk⟩ := hC
  intro H locs ls hP hD hS hl
  exact lv_icmp_eq hx hb hd ht (fun h9 => kt h9 H locs ls hP hD hS hl) (fun h9 => kf h9 H locs ls hP hD hS hl)
theorem j_if_ne (hC : jC Γ l0 rm D nL own cc Ts tys) {x : Int32} {off : Int} {tgt : Nat} (hd : decode cc pc = .ok (.ifCond .ne off, 3)) (ht : (pc : Int) + off = (tgt : Int)) (kt : ¬ x = 0 → J Γ D nL cs sl ws (tgt) lv (st)) (kf : x = 0 → J Γ D nL cs sl ws (pc + 3) lv (st)) : J Γ D nL cs sl ws pc lv (.int x :: st) := by
  obtain ⟨p, l, e, R, s, m, args, below, meth, c, A, Q⟩ := Γ
  obtain ⟨rfl, rfl, hx, hb, hml, hown, hts, hK, hA, hlk⟩ := hC
  intro H locs ls hP hD hS hl
  exact lv_if_ne hx hb hd ht (fun h9 => kt h9 H locs ls hP hD hS hl) (fun h9 => kf h9 H locs ls hP hD hS hl)
theorem j_icmp_ne (hC : jC Γ l0 rm D nL own cc Ts tys) {x y : Int32} {off : Int} {tgt : Nat} (hd : decode cc pc = .ok (.if_icmp .ne off, 3)) (ht : (pc : Int) + off = (tgt : Int)) (kt : ¬ x = y → J Γ D nL cs sl ws (tgt) lv (st)) (kf : x = y → J Γ D nL cs sl ws (pc + 3) lv (st)) : J Γ D nL cs sl ws pc lv (.int y :: .int x :: st) := by
  obtain ⟨p, l, e, R, s, m, args, below, meth, c, A, Q⟩ := Γ
  obtain ⟨rfl, rfl, hx, hb, hml, hown, hts, hK, hA, hlk⟩ := hC
  intro H locs ls hP hD hS hl
  exact lv_icmp_ne hx hb hd ht (fun h9 => kt h9 H locs ls hP hD hS hl) (fun h9 => kf h9 H locs ls hP hD hS hl)
theorem j_if_lt (hC : jC Γ l0 rm D nL own cc Ts tys) {x : Int32} {off : Int} {tgt : Nat} (hd : decode cc pc = .ok (.ifCond .lt off, 3)) (ht : (pc : Int) + off = (tgt : Int)) (kt : x < 0 → J Γ D nL cs sl ws (tgt) lv (st)) (kf : ¬ x < 0 → J Γ D nL cs sl ws (pc + 3) lv (st)) : J Γ D nL cs sl ws pc lv (.int x :: st) := by
  obtain ⟨p, l, e, R, s, m, args, below, meth, c, A, Q⟩ := Γ
  obtain ⟨rfl, rfl, hx, hb, hml, hown, hts, hK, hA, hlk⟩ := hC
  intro H locs ls hP hD hS hl
  exact lv_if_lt hx hb hd ht (fun h9 => kt h9 H locs ls hP hD hS hl) (fun h9 => kf h9 H locs ls hP hD hS hl)
theorem j_icmp_lt (hC : jC Γ l0 rm D nL own cc Ts tys) {x y : Int32} {off : Int} {tgt : Nat} (hd : decode cc pc = .ok (.if_icmp .lt off, 3)) (ht : (pc : Int) + off = (tgt : Int)) (kt : x < y → J Γ D nL cs sl ws (tgt) lv (st)) (kf : ¬ x < y → J Γ D nL cs sl ws (pc + 3) lv (st)) : J Γ D nL cs sl ws pc lv (.int y :: .int x :: st) := by
  obtain ⟨p, l, e, R, s, m, args, below, meth, c, A, Q⟩ := Γ
  obtain ⟨rfl, rfl, hx, hb, hml, hown, hts, hK, hA, hlk⟩ := hC
  intro H locs ls hP hD hS hl
  exact lv_icmp_lt hx hb hd ht (fun h9 => kt h9 H locs ls hP hD hS hl) (fun h9 => kf h9 H locs ls hP hD hS hl)
theorem j_if_ge (hC : jC Γ l0 rm D nL own cc Ts tys) {x : Int32} {off : Int} {tgt : Nat} (hd : decode cc pc = .ok (.ifCond .ge off, 3)) (ht : (pc : Int) + off = (tgt : Int)) (kt : 0 ≤ x → J Γ D nL cs sl ws (tgt) lv (st)) (kf : ¬ 0 ≤ x → J Γ D nL cs sl ws (pc + 3) lv (st)) : J Γ D nL cs sl ws pc lv (.int x :: st) := by
  obtain ⟨p, l, e, R, s, m, args, below, meth, c, A, Q⟩ := Γ
  obtain ⟨rfl, rfl, hx, hb, hml, hown, hts, hK, hA, hlk⟩ := hC
  intro H locs ls hP hD hS hl
  exact lv_if_ge hx hb hd ht (fun h9 => kt h9 H locs ls hP hD hS hl) (fun h9 => kf h9 H locs ls hP hD hS hl)
theorem j_icmp_ge (hC : jC Γ l0 rm D nL own cc Ts tys) {x y : Int32} {off : Int} {tgt : Nat} (hd : decode cc pc = .ok (.if_icmp .ge off, 3)) (ht : (pc : Int) + off = (tgt : Int)) (kt : y ≤ x → J Γ D nL cs sl ws (tgt) lv (st)) (kf : ¬ y ≤ x → J Γ D nL cs sl ws (pc + 3) lv (st)) : J Γ D nL cs sl ws pc lv (.int y :: .int x :: st) := by
  obtain ⟨p, l, e, R, s, m, args, below, meth, c, A, Q⟩ := Γ
  obtain ⟨rfl, rfl, hx, hb, hml, hown, hts, hK, hA, hlk⟩ := hC
  intro H locs ls hP hD hS hl
  exact lv_icmp_ge hx hb hd ht (fun h9 => kt h9 H locs ls hP hD hS hl) (fun h9 => kf h9 H locs ls hP hD hS hl)
theorem j_if_gt (hC : jC Γ l0 rm D nL own cc Ts tys) {x : Int32} {off : Int} {tgt : Nat} (hd : decode cc pc = .ok (.ifCond .gt off, 3)) (ht : (pc : Int) + off = (tgt : Int)) (kt : 0 < x → J Γ D nL cs sl ws (tgt) lv (st)) (kf : ¬ 0 < x → J Γ D nL cs sl ws (pc + 3) lv (st)) : J Γ D nL cs sl ws pc lv (.int x :: st) := by
  obtain ⟨p, l, e, R, s, m, args, below, meth, c, A, Q⟩ := Γ
  obtain ⟨rfl, rfl, hx, hb, hml, hown, hts, hK, hA, hlk⟩ := hC
  intro H locs ls hP hD hS hl
  exact lv_if_gt hx hb hd ht (fun h9 => kt h9 H locs ls hP hD hS hl) (fun h9 => kf h9 H locs ls hP hD hS hl)
theorem j_icmp_gt (hC : jC Γ l0 rm D nL own cc Ts tys) {x y : Int32} {off : Int} {tgt : Nat} (hd : decode cc pc = .ok (.if_icmp .gt off, 3)) (ht : (pc : Int) + off = (tgt : Int)) (kt : y < x → J Γ D nL cs sl ws (tgt) lv (st)) (kf : ¬ y < x → J Γ D nL cs sl ws (pc + 3) lv (st)) : J Γ D nL cs sl ws pc lv (.int y :: .int x :: st) := by
  obtain ⟨p, l, e, R, s, m, args, below, meth, c, A, Q⟩ := Γ
  obtain ⟨rfl, rfl, hx, hb, hml, hown, hts, hK, hA, hlk⟩ := hC
  intro H locs ls hP hD hS hl
  exact lv_icmp_gt hx hb hd ht (fun h9 => kt h9 H locs ls hP hD hS hl) (fun h9 => kf h9 H locs ls hP hD hS hl)
theorem j_if_le (hC : jC Γ l0 rm D nL own cc Ts tys) {x : Int32} {off : Int} {tgt : Nat} (hd : decode cc pc = .ok (.ifCond .le off, 3)) (ht : (pc : Int) + off = (tgt : Int)) (kt : x ≤ 0 → J Γ D nL cs sl ws (tgt) lv (st)) (kf : ¬ x ≤ 0 → J Γ D nL cs sl ws (pc + 3) lv (st)) : J Γ D nL cs sl ws pc lv (.int x :: st) := by
  obtain ⟨p, l, e, R, s, m, args, below, meth, c, A, Q⟩ := Γ
  obtain ⟨rfl, rfl, hx, hb, hml, hown, hts, hK, hA, hlk⟩ := hC
  intro H locs ls hP hD hS hl
  exact lv_if_le hx hb hd ht (fun h9 => kt h9 H locs ls hP hD hS hl) (fun h9 => kf h9 H locs ls hP hD hS hl)
theorem j_icmp_le (hC : jC Γ l0 rm D nL own cc Ts tys) {x y : Int32} {off : Int} {tgt : Nat} (hd : decode cc pc = .ok (.if_icmp .le off, 3)) (ht : (pc : Int) + off = (tgt : Int)) (kt : x ≤ y → J Γ D nL cs sl ws (tgt) lv (st)) (kf : ¬ x ≤ y → J Γ D nL cs sl ws (pc + 3) lv (st)) : J Γ D nL cs sl ws pc lv (.int y :: .int x :: st) := by
  obtain ⟨p, l, e, R, s, m, args, below, meth, c, A, Q⟩ := Γ
  obtain ⟨rfl, rfl, hx, hb, hml, hown, hts, hK, hA, hlk⟩ := hC
  intro H locs ls hP hD hS hl
  exact lv_icmp_le hx hb hd ht (fun h9 => kt h9 H locs ls hP hD hS hl) (fun h9 => kf h9 H locs ls hP hD hS hl)
theorem j_goto (hC : jC Γ l0 rm D nL own cc Ts tys) {off : Int} {tgt : Nat} (hd : decode cc pc = .ok (.goto off, 3)) (ht : (pc : Int) + off = (tgt : Int)) (kk : J Γ D nL cs sl ws (tgt) lv (st)) : J Γ D nL cs sl ws pc lv (st) := by
  obtain ⟨p, l, e, R, s, m, args, below, meth, c, A, Q⟩ := Γ
  obtain ⟨rfl, rfl, hx, hb, hml, hown, hts, hK, hA, hlk⟩ := hC
  intro H locs ls hP hD hS hl
  exact lv_goto hx hb hd ht (kk H locs ls hP hD hS hl)
theorem j_tableIn (hC : jC Γ l0 rm D nL own cc Ts tys) {dflt lo hi : Int} {offs : Array Int} {len : Nat} {x : Int32} {off : Int} {tgt : Nat} (hd : decode cc pc = .ok (.tableswitch dflt lo hi offs, len)) (h1 : ¬ x.toInt < lo) (h2 : ¬ hi < x.toInt) (ho : offs[(x.toInt - lo).toNat]? = some off) (ht : (pc : Int) + off = (tgt : Int)) (kk : J Γ D nL cs sl ws (tgt) lv (st)) : J Γ D nL cs sl ws pc lv (.int x :: st) := by
  obtain ⟨p, l, e, R, s, m, args, below, meth, c, A, Q⟩ := Γ
  obtain ⟨rfl, rfl, hx, hb, hml, hown, hts, hK, hA, hlk⟩ := hC
  intro H locs ls hP hD hS hl
  exact lv_tableIn hx hb hd h1 h2 ho ht (kk H locs ls hP hD hS hl)
theorem j_tableOut (hC : jC Γ l0 rm D nL own cc Ts tys) {dflt lo hi : Int} {offs : Array Int} {len : Nat} {x : Int32} {tgt : Nat} (hd : decode cc pc = .ok (.tableswitch dflt lo hi offs, len)) (h : x.toInt < lo ∨ hi < x.toInt) (ht : (pc : Int) + dflt = (tgt : Int)) (kk : J Γ D nL cs sl ws (tgt) lv (st)) : J Γ D nL cs sl ws pc lv (.int x :: st) := by
  obtain ⟨p, l, e, R, s, m, args, below, meth, c, A, Q⟩ := Γ
  obtain ⟨rfl, rfl, hx, hb, hml, hown, hts, hK, hA, hlk⟩ := hC
  intro H locs ls hP hD hS hl
  exact lv_tableOut hx hb hd h ht (kk H locs ls hP hD hS hl)
theorem j_ifnull (hC : jC Γ l0 rm D nL own cc Ts tys) {a : Nat} {off : Int} (hd : decode cc pc = .ok (.ifnull off, 3)) (kk : J Γ D nL cs sl ws (pc + 3) lv (st)) : J Γ D nL cs sl ws pc lv (.ref a :: st) := by
  obtain ⟨p, l, e, R, s, m, args, below, meth, c, A, Q⟩ := Γ
  obtain ⟨rfl, rfl, hx, hb, hml, hown, hts, hK, hA, hlk⟩ := hC
  intro H locs ls hP hD hS hl
  exact lv_ifnull hx hb hd (kk H locs ls hP hD hS hl)
theorem j_ifnonnull (hC : jC Γ l0 rm D nL own cc Ts tys) {a tgt : Nat} {off : Int} (hd : decode cc pc = .ok (.ifnonnull off, 3)) (ht : (pc : Int) + off = (tgt : Int)) (kk : J Γ D nL cs sl ws (tgt) lv (st)) : J Γ D nL cs sl ws pc lv (.ref a :: st) := by
  obtain ⟨p, l, e, R, s, m, args, below, meth, c, A, Q⟩ := Γ
  obtain ⟨rfl, rfl, hx, hb, hml, hown, hts, hK, hA, hlk⟩ := hC
  intro H locs ls hP hD hS hl
  exact lv_ifnonnull hx hb hd ht (kk H locs ls hP hD hS hl)
theorem j_ifnullN (hC : jC Γ l0 rm D nL own cc Ts tys) {tgt : Nat} {off : Int} (hd : decode cc pc = .ok (.ifnull off, 3)) (ht : (pc : Int) + off = (tgt : Int)) (kk : J Γ D nL cs sl ws (tgt) lv (st)) : J Γ D nL cs sl ws pc lv (.null :: st) := by
  obtain ⟨p, l, e, R, s, m, args, below, meth, c, A, Q⟩ := Γ
  obtain ⟨rfl, rfl, hx, hb, hml, hown, hts, hK, hA, hlk⟩ := hC
  intro H locs ls hP hD hS hl
  exact lv_ifnullN hx hb hd ht (kk H locs ls hP hD hS hl)
theorem j_ifnonnullN (hC : jC Γ l0 rm D nL own cc Ts tys) {off : Int} (hd : decode cc pc = .ok (.ifnonnull off, 3)) (kk : J Γ D nL cs sl ws (pc + 3) lv (st)) : J Γ D nL cs sl ws pc lv (.null :: st) := by
  obtain ⟨p, l, e, R, s, m, args, below, meth, c, A, Q⟩ := Γ
  obtain ⟨rfl, rfl, hx, hb, hml, hown, hts, hK, hA, hlk⟩ := hC
  intro H locs ls hP hD hS hl
  exact lv_ifnonnullN hx hb hd (kk H locs ls hP hD hS hl)
theorem j_null (hC : jC Γ l0 rm D nL own cc Ts tys) (hd : decode cc pc = .ok (.aconst_null, 1)) (kk : J Γ D nL cs sl ws (pc + 1) lv (.null :: st)) : J Γ D nL cs sl ws pc lv (st) := by
  obtain ⟨p, l, e, R, s, m, args, below, meth, c, A, Q⟩ := Γ
  obtain ⟨rfl, rfl, hx, hb, hml, hown, hts, hK, hA, hlk⟩ := hC
  intro H locs ls hP hD hS hl
  exact lv_null hx hb hd (kk H locs ls hP hD hS hl)
theorem j_get (hC : jC Γ l0 rm D nL own cc Ts tys) {ref C : String} {T : u_T} {N ci index : Nat} {a : Nat} {fs : List Value} {v : Value} (hin : ∀ w ∈ u_ws C T N, w ∈ Ts) (q0 : Nat) (he : ws[q0]? = some (a, .inr (ci, fs))) (hc : vwCl[ci]? = some (C, T, N)) (k : Nat) (hk : k < N) (hw : Cond.fieldLink own index ref (T k).2.1 (T k).2.2.1 ∈ Ts) (hr : (T k).1 = ref) (hv : fs[k]? = some v) (hd : decode cc pc = .ok (.getfield index, 3)) (kk : J Γ D nL cs sl ws (pc + 3) lv (v :: st)) : J Γ D nL cs sl ws pc lv (.ref a :: st) := by
  obtain ⟨p, l, e, R, s, m, args, below, meth, c, A, Q⟩ := Γ
  obtain ⟨rfl, rfl, hx, hb, hml, hown, hts, hK, hA, hlk⟩ := hC
  intro H locs ls hP hD hS hl
  exact va_get hx hb hts hin hown hK.1 hP q0 he hc k hk (hts _ hw) (fun _ h9 => by rw [← hr]; exact h9) hv hd (kk H locs ls hP hD hS hl)
theorem j_put (hC : jC Γ l0 rm D nL own cc Ts tys) {ref C : String} {T : u_T} {N ci index : Nat} {a : Nat} {fs : List Value} {v : Value} {ty : FieldType} {ws' : va_W} (hin : ∀ w ∈ u_ws C T N, w ∈ Ts) (ty0 : Nat → FieldType) (hty : ∀ k, k < N → parseFieldDescriptor (T k).2.2.1 = some (ty0 k)) (hnm : ∀ a, a < N → ∀ b, b < N → a ≠ b → (T a).2.1 ≠ (T b).2.1) (q0 : Nat) (he : ws[q0]? = some (a, .inr (ci, fs))) (hc : vwCl[ci]? = some (C, T, N)) (k : Nat) (hk : k < N) (hw : Cond.fieldLink own index ref (T k).2.1 (T k).2.2.1 ∈ Ts) (hr : (T k).1 = ref) (hfin : (T k).2.2.2 = false) (hd0 : parseFieldDescriptor (T k).2.2.1 = some ty) (hn : narrow ty v = v) (hfit : fits ty v = true) (hl9 : k < fs.length) (hws : ws.set q0 (a, .inr (ci, fs.set k v)) = ws') (hd : decode cc pc = .ok (.putfield index, 3)) (kk : J Γ D nL cs sl ws' (pc + 3) lv (st)) : J Γ D nL cs sl ws pc lv (v :: .ref a :: st) := by
  obtain ⟨p, l, e, R, s, m, args, below, meth, c, A, Q⟩ := Γ
  obtain ⟨rfl, rfl, hx, hb, hml, hown, hts, hK, hA, hlk⟩ := hC
  intro H locs ls hP hD hS hl
  exact va_put hx hb hts hin ty0 hty hnm hown hK.1 hP hD hS q0 he hc k hk (hts _ hw) (fun _ h9 => by rw [← hr]; exact h9) hfin hd0 hn hfit hl9 hd (fun H locs hP hD hS => kk H locs ls (hws ▸ hP) (hws ▸ hD) hS hl)
theorem j_putF (hC : jC Γ l0 rm D nL own cc Ts tys) {ref C : String} {T : u_T} {N ci index : Nat} {a : Nat} {fs : List Value} {v : Value} {ty : FieldType} {ws' : va_W} (hin : ∀ w ∈ u_ws C T N, w ∈ Ts) (ty0 : Nat → FieldType) (hty : ∀ k, k < N → parseFieldDescriptor (T k).2.2.1 = some (ty0 k)) (hnm : ∀ a, a < N → ∀ b, b < N → a ≠ b → (T a).2.1 ≠ (T b).2.1) (q0 : Nat) (he : ws[q0]? = some (a, .inr (ci, fs))) (hc : vwCl[ci]? = some (C, T, N)) (k : Nat) (hk : k < N) (hw : Cond.fieldLink own index ref (T k).2.1 (T k).2.2.1 ∈ Ts) (hr : (T k).1 = ref) (hfin : (T k).2.2.2 = true) (hmn : match Γ with | (_, _, _, _, _, _, _, _, meth, _, _, _) => meth.name = "<init>") (hdecl : (T k).1 = own) (hd0 : parseFieldDescriptor (T k).2.2.1 = some ty) (hn : narrow ty v = v) (hfit : fits ty v = true) (hl9 : k < fs.length) (hws : ws.set q0 (a, .inr (ci, fs.set k v)) = ws') (hd : decode cc pc = .ok (.putfield index, 3)) (kk : J Γ D nL cs sl ws' (pc + 3) lv (st)) : J Γ D nL cs sl ws pc lv (v :: .ref a :: st) := by
  obtain ⟨p, l, e, R, s, m, args, below, meth, c, A, Q⟩ := Γ
  obtain ⟨rfl, rfl, hx, hb, hml, hown, hts, hK, hA, hlk⟩ := hC
  intro H locs ls hP hD hS hl
  exact va_putF hx hb hts hin ty0 hty hnm hown hK.1 hP hD hS q0 he hc k hk (hts _ hw) (fun _ h9 => by rw [← hr]; exact h9) hfin hmn hdecl hd0 hn hfit hl9 hd (fun H locs hP hD hS => kk H locs ls (hws ▸ hP) (hws ▸ hD) hS hl)
theorem j_iald (hC : jC Γ l0 rm D nL own cc Ts tys) {a n : Nat} {cA : ClassId} {f : Nat → Int32} {i : Int32} {v : Int32} (q0 t0 : Nat) (ha : ws[q0]? = some (a, .inl (cA, n, .inl f))) (ht : tys[t0]? = some (cA, .int)) (hin : vp_in i n) (hv : f i.toNatClampNeg = v) (hd : decode cc pc = .ok (.iaload, 1)) (kk : J Γ D nL cs sl ws (pc + 1) lv (.int v :: st)) : J Γ D nL cs sl ws pc lv (.int i :: .ref a :: st) := by
  obtain ⟨p, l, e, R, s, m, args, below, meth, c, A, Q⟩ := Γ
  obtain ⟨rfl, rfl, hx, hb, hml, hown, hts, hK, hA, hlk⟩ := hC
  intro H locs ls hP hD hS hl
  subst hv; exact va_iald hx hb hK.1 hP q0 t0 ha ht hin hd (kk H locs ls hP hD hS hl)
theorem j_zald (hC : jC Γ l0 rm D nL own cc Ts tys) {a n : Nat} {cA : ClassId} {f : Nat → Int32} {i : Int32} {v : Int32} (q0 t0 : Nat) (ha : ws[q0]? = some (a, .inl (cA, n, .inl f))) (ht : tys[t0]? = some (cA, .boolean)) (hin : vp_in i n) (hv : f i.toNatClampNeg = v) (hd : decode cc pc = .ok (.baload, 1)) (kk : J Γ D nL cs sl ws (pc + 1) lv (.int v :: st)) : J Γ D nL cs sl ws pc lv (.int i :: .ref a :: st) := by
  obtain ⟨p, l, e, R, s, m, args, below, meth, c, A, Q⟩ := Γ
  obtain ⟨rfl, rfl, hx, hb, hml, hown, hts, hK, hA, hlk⟩ := hC
  intro H locs ls hP hD hS hl
  subst hv; exact va_zald hx hb hK.1 hP q0 t0 ha ht hin hd (kk H locs ls hP hD hS hl)
theorem j_lald (hC : jC Γ l0 rm D nL own cc Ts tys) {a n : Nat} {cA : ClassId} {f : Nat → Int64} {i : Int32} {v : Int64} (q0 t0 : Nat) (ha : ws[q0]? = some (a, .inl (cA, n, .inr (.inl f)))) (ht : tys[t0]? = some (cA, .long)) (hin : vp_in i n) (hv : f i.toNatClampNeg = v) (hd : decode cc pc = .ok (.laload, 1)) (kk : J Γ D nL cs sl ws (pc + 1) lv (.long v :: st)) : J Γ D nL cs sl ws pc lv (.int i :: .ref a :: st) := by
  obtain ⟨p, l, e, R, s, m, args, below, meth, c, A, Q⟩ := Γ
  obtain ⟨rfl, rfl, hx, hb, hml, hown, hts, hK, hA, hlk⟩ := hC
  intro H locs ls hP hD hS hl
  subst hv; exact va_lald hx hb hK.1 hP q0 t0 ha ht hin hd (kk H locs ls hP hD hS hl)
theorem j_iast (hC : jC Γ l0 rm D nL own cc Ts tys) {a n : Nat} {cA : ClassId} {f : Nat → Int32} {i : Int32} {x : Int32} {ws' : va_W} (q0 t0 : Nat) (ha : ws[q0]? = some (a, .inl (cA, n, .inl f))) (ht : tys[t0]? = some (cA, .int)) (hin : vp_in i n) (hws : ws.set q0 (a, .inl (cA, n, .inl (upd f i.toNatClampNeg x))) = ws') (hd : decode cc pc = .ok (.iastore, 1)) (kk : J Γ D nL cs sl ws' (pc + 1) lv (st)) : J Γ D nL cs sl ws pc lv (.int x :: .int i :: .ref a :: st) := by
  obtain ⟨p, l, e, R, s, m, args, below, meth, c, A, Q⟩ := Γ
  obtain ⟨rfl, rfl, hx, hb, hml, hown, hts, hK, hA, hlk⟩ := hC
  intro H locs ls hP hD hS hl
  exact va_iast hx hb hK.1 hP hD hS q0 t0 ha ht hin hd (fun H locs hP hD hS => kk H locs ls (hws ▸ hP) (hws ▸ hD) hS hl)
theorem j_zast (hC : jC Γ l0 rm D nL own cc Ts tys) {a n : Nat} {cA : ClassId} {f : Nat → Int32} {i : Int32} {x : Int32} {ws' : va_W} (q0 t0 : Nat) (ha : ws[q0]? = some (a, .inl (cA, n, .inl f))) (ht : tys[t0]? = some (cA, .boolean)) (hin : vp_in i n) (hws : ws.set q0 (a, .inl (cA, n, .inl (upd f i.toNatClampNeg (vp_nar .boolean x)))) = ws') (hd : decode cc pc = .ok (.bastore, 1)) (kk : J Γ D nL cs sl ws' (pc + 1) lv (st)) : J Γ D nL cs sl ws pc lv (.int x :: .int i :: .ref a :: st) := by
  obtain ⟨p, l, e, R, s, m, args, below, meth, c, A, Q⟩ := Γ
  obtain ⟨rfl, rfl, hx, hb, hml, hown, hts, hK, hA, hlk⟩ := hC
  intro H locs ls hP hD hS hl
  exact va_zast hx hb hK.1 hP hD hS q0 t0 ha ht hin hd (fun H locs hP hD hS => kk H locs ls (hws ▸ hP) (hws ▸ hD) hS hl)
theorem j_last (hC : jC Γ l0 rm D nL own cc Ts tys) {a n : Nat} {cA : ClassId} {f : Nat → Int64} {i : Int32} {x : Int64} {ws' : va_W} (q0 t0 : Nat) (ha : ws[q0]? = some (a, .inl (cA, n, .inr (.inl f)))) (ht : tys[t0]? = some (cA, .long)) (hin : vp_in i n) (hws : ws.set q0 (a, .inl (cA, n, .inr (.inl (vp_updL f i.toNatClampNeg x)))) = ws') (hd : decode cc pc = .ok (.lastore, 1)) (kk : J Γ D nL cs sl ws' (pc + 1) lv (st)) : J Γ D nL cs sl ws pc lv (.long x :: .int i :: .ref a :: st) := by
  obtain ⟨p, l, e, R, s, m, args, below, meth, c, A, Q⟩ := Γ
  obtain ⟨rfl, rfl, hx, hb, hml, hown, hts, hK, hA, hlk⟩ := hC
  intro H locs ls hP hD hS hl
  exact va_last hx hb hK.1 hP hD hS q0 t0 ha ht hin hd (fun H locs hP hD hS => kk H locs ls (hws ▸ hP) (hws ▸ hD) hS hl)
theorem j_alen (hC : jC Γ l0 rm D nL own cc Ts tys) {a : Nat} {cA : ClassId} {x : vp_A} {ty : FieldType} {v : Int32} (q0 t0 : Nat) (ha : ws[q0]? = some (a, .inl (cA, x))) (ht : tys[t0]? = some (cA, ty)) (hv : Int32.ofNat x.1 = v) (hd : decode cc pc = .ok (.arraylength, 1)) (kk : J Γ D nL cs sl ws (pc + 1) lv (.int v :: st)) : J Γ D nL cs sl ws pc lv (.ref a :: st) := by
  obtain ⟨p, l, e, R, s, m, args, below, meth, c, A, Q⟩ := Γ
  obtain ⟨rfl, rfl, hx, hb, hml, hown, hts, hK, hA, hlk⟩ := hC
  intro H locs ls hP hD hS hl
  exact va_alen hx hb hK.1 hP q0 t0 ha ht hv hd (kk H locs ls hP hD hS hl)
theorem j_mmax (hC : jC Γ l0 rm D nL own cc Ts tys) {index : Nat} {x y : Int32} (hw1 : Cond.methodLink own index Lib.Math.max.name ∈ Ts) (hw2 : Cond.static Lib.Math.max.name ∈ Ts) (hw3 : Cond.initialized "java/lang/Math" ∈ Ts) (hw4 : Cond.code Lib.Math.max.name Lib.Math.max.code 2 (some .int) ∈ Ts) (hfr : 1 ≤ rm.frames) (hlo : (st.map fun v => v.category).sum + 13 ≤ rm.locals) (hcs : cs ≤ rm.cells) (hsl : sl ≤ rm.slots) (hd : decode cc pc = .ok (.invokestatic index, 3)) (kk : J Γ D nL cs sl ws (pc + 3) lv (.int (if x < y then y else x) :: st)) : J Γ D nL cs sl ws pc lv (.int y :: .int x :: st) := by
  obtain ⟨p, l, e, R, s, m, args, below, meth, c, A, Q⟩ := Γ
  obtain ⟨rfl, rfl, hx, hb, hml, hown, hts, hK, hA, hlk⟩ := hC
  intro H locs ls hP hD hS hl
  exact va_mmax hx hb (hml.trans hl.1.symm) hown (hts _ hw1) (hts _ hw2) (hts _ hw3) (hts _ hw4) hfr hlo hcs hsl hd (kk H locs ls hP hD hS hl)
theorem j_mmin (hC : jC Γ l0 rm D nL own cc Ts tys) {index : Nat} {x y : Int32} (hw1 : Cond.methodLink own index Lib.Math.min.name ∈ Ts) (hw2 : Cond.static Lib.Math.min.name ∈ Ts) (hw3 : Cond.initialized "java/lang/Math" ∈ Ts) (hw4 : Cond.code Lib.Math.min.name Lib.Math.min.code 2 (some .int) ∈ Ts) (hfr : 1 ≤ rm.frames) (hlo : (st.map fun v => v.category).sum + 13 ≤ rm.locals) (hcs : cs ≤ rm.cells) (hsl : sl ≤ rm.slots) (hd : decode cc pc = .ok (.invokestatic index, 3)) (kk : J Γ D nL cs sl ws (pc + 3) lv (.int (if y < x then y else x) :: st)) : J Γ D nL cs sl ws pc lv (.int y :: .int x :: st) := by
  obtain ⟨p, l, e, R, s, m, args, below, meth, c, A, Q⟩ := Γ
  obtain ⟨rfl, rfl, hx, hb, hml, hown, hts, hK, hA, hlk⟩ := hC
  intro H locs ls hP hD hS hl
  exact va_mmin hx hb (hml.trans hl.1.symm) hown (hts _ hw1) (hts _ hw2) (hts _ hw3) (hts _ hw4) hfr hlo hcs hsl hd (kk H locs ls hP hD hS hl)
theorem j_aald (hC : jC Γ l0 rm D nL own cc Ts tys) {a n : Nat} {cA : ClassId} {ty : FieldType} {f : Nat → Option Nat} {i : Int32} {v : Value} (q0 t0 : Nat) (ha : ws[q0]? = some (a, .inl (cA, n, .inr (.inr (.inr (.inr f)))))) (ht : tys[t0]? = some (cA, ty)) (hty : ty.isReference = true) (hin : vp_in i n) (hv : va_rf (f i.toNatClampNeg) = v) (hd : decode cc pc = .ok (.aaload, 1)) (kk : J Γ D nL cs sl ws (pc + 1) lv (v :: st)) : J Γ D nL cs sl ws pc lv (.int i :: .ref a :: st) := by
  obtain ⟨p, l, e, R, s, m, args, below, meth, c, A, Q⟩ := Γ
  obtain ⟨rfl, rfl, hx, hb, hml, hown, hts, hK, hA, hlk⟩ := hC
  intro H locs ls hP hD hS hl
  have hlt : i.toNatClampNeg < n := Nat.not_le.mp fun q => hin (Or.inr q)
  exact W.aald (v := v) (ty := ty) hx hb (hP q0 _ ha) ((hK.1.2 t0 _ ht).1 n (fun j => va_rf (f j))) hty (fun q => by cases q) (by show ¬ (i < 0 ∨ (arrV _ _ _).slots.size ≤ _); rw [arrV_size]; exact hin) (by show (arrV _ _ _).slots[_]? = _; rw [arrV_read _ _ hlt, hv]) rfl rfl hd (kk H locs ls hP hD hS hl)
theorem j_astqO (hC : jC Γ l0 rm D nL own cc Ts tys) {a n v : Nat} {cA : ClassId} {E : String} {r : vw_C} {vs : List Value} {f : Nat → Option Nat} {i : Int32} {ws' : va_W} (q0 t0 qk ci : Nat) (ha : ws[q0]? = some (a, .inl (cA, n, .inr (.inr (.inr (.inr f)))))) (ht : tys[t0]? = some (cA, .object E)) (hca : (r.1, E) ∈ jCa) (hv : ws[qk]? = some (v, .inr (ci, vs))) (hc : vwCl[ci]? = some r) (hin : vp_in i n) (hws : ws.set q0 (a, .inl (cA, n, .inr (.inr (.inr (.inr (va_up f i.toNatClampNeg (some v))))))) = ws') (hd : decode cc pc = .ok (.aastore, 1)) (kk : J Γ D nL cs sl ws' (pc + 1) lv (st)) : J Γ D nL cs sl ws pc lv (.ref v :: .int i :: .ref a :: st) := by
  obtain ⟨p, l, e, R, s, m, args, below, meth, c, A, Q⟩ := Γ
  obtain ⟨rfl, rfl, hx, hb, hml, hown, hts, hK, hA, hlk⟩ := hC
  intro H locs ls hP hD hS hl
  exact va_astqO hx hb hK.1 hP hD hS q0 t0 qk ci ha ht (hK.2.2.1 _ hca) hv hc hin hd (fun H locs hP hD hS => kk H locs ls (hws ▸ hP) (hws ▸ hD) hS hl)
theorem j_astqS (hC : jC Γ l0 rm D nL own cc Ts tys) {a n v : Nat} {cA : ClassId} {r : vw_C} {vs : List Value} {f : Nat → Option Nat} {i : Int32} {ws' : va_W} (q0 t0 qk ci : Nat) (ha : ws[q0]? = some (a, .inl (cA, n, .inr (.inr (.inr (.inr f)))))) (ht : tys[t0]? = some (cA, .object r.1)) (hv : ws[qk]? = some (v, .inr (ci, vs))) (hc : vwCl[ci]? = some r) (hin : vp_in i n) (hws : ws.set q0 (a, .inl (cA, n, .inr (.inr (.inr (.inr (va_up f i.toNatClampNeg (some v))))))) = ws') (hd : decode cc pc = .ok (.aastore, 1)) (kk : J Γ D nL cs sl ws' (pc + 1) lv (st)) : J Γ D nL cs sl ws pc lv (.ref v :: .int i :: .ref a :: st) := by
  obtain ⟨p, l, e, R, s, m, args, below, meth, c, A, Q⟩ := Γ
  obtain ⟨rfl, rfl, hx, hb, hml, hown, hts, hK, hA, hlk⟩ := hC
  intro H locs ls hP hD hS hl
  exact va_astq hx hb hK.1 hP hD hS q0 t0 qk ci ha ht hv hc hin hd (fun H locs hP hD hS => kk H locs ls (hws ▸ hP) (hws ▸ hD) hS hl)
theorem j_instY (hC : jC Γ l0 rm D nL own cc Ts tys) {a index : Nat} {r : vw_C} {nm : String} {vs : List Value} (qk ci : Nat) (hw : Cond.classLink own index nm ∈ Ts) (hca : (r.1, nm) ∈ jCa) (hv : ws[qk]? = some (a, .inr (ci, vs))) (hc : vwCl[ci]? = some r) (hd : decode cc pc = .ok (.instanceof index, 3)) (kk : J Γ D nL cs sl ws (pc + 3) lv (.int 1 :: st)) : J Γ D nL cs sl ws pc lv (.ref a :: st) := by
  obtain ⟨p, l, e, R, s, m, args, below, meth, c, A, Q⟩ := Γ
  obtain ⟨rfl, rfl, hx, hb, hml, hown, hts, hK, hA, hlk⟩ := hC
  intro H locs ls hP hD hS hl
  exact va_instY hx hb hown (hts _ hw) (hK.2.2.1 _ hca) (va_recv hK.1 hP hc hv) hd (kk H locs ls hP hD hS hl)
theorem j_instNo (hC : jC Γ l0 rm D nL own cc Ts tys) {a index : Nat} {r : vw_C} {nm : String} {vs : List Value} (qk ci : Nat) (hw : Cond.classLink own index nm ∈ Ts) (hca : (r.1, nm) ∈ jNc) (hv : ws[qk]? = some (a, .inr (ci, vs))) (hc : vwCl[ci]? = some r) (hd : decode cc pc = .ok (.instanceof index, 3)) (kk : J Γ D nL cs sl ws (pc + 3) lv (.int 0 :: st)) : J Γ D nL cs sl ws pc lv (.ref a :: st) := by
  obtain ⟨p, l, e, R, s, m, args, below, meth, c, A, Q⟩ := Γ
  obtain ⟨rfl, rfl, hx, hb, hml, hown, hts, hK, hA, hlk⟩ := hC
  intro H locs ls hP hD hS hl
  exact va_instNo hx hb hown (hts _ hw) (hK.2.2.2.1 _ hca) (va_recv hK.1 hP hc hv) hd (kk H locs ls hP hD hS hl)
theorem j_instS (hC : jC Γ l0 rm D nL own cc Ts tys) {a index : Nat} {r : vw_C} {vs : List Value} (qk ci : Nat) (hw : Cond.classLink own index r.1 ∈ Ts) (hv : ws[qk]? = some (a, .inr (ci, vs))) (hc : vwCl[ci]? = some r) (hd : decode cc pc = .ok (.instanceof index, 3)) (kk : J Γ D nL cs sl ws (pc + 3) lv (.int 1 :: st)) : J Γ D nL cs sl ws pc lv (.ref a :: st) := by
  obtain ⟨p, l, e, R, s, m, args, below, meth, c, A, Q⟩ := Γ
  obtain ⟨rfl, rfl, hx, hb, hml, hown, hts, hK, hA, hlk⟩ := hC
  intro H locs ls hP hD hS hl
  exact va_instS hx hb hown (hts _ hw) (hK.1.1 ci _ hc).2 (va_recv hK.1 hP hc hv) hd (kk H locs ls hP hD hS hl)
theorem j_copyi (hC : jC Γ l0 rm D nL own cc Ts tys) {index a a0 n0 n1 : Nat} {c0 c1 : ClassId} {f g : Nat → Int32} {ty : FieldType} {sp dp n : Int32} {ws' : va_W} (q0 q1 t0 t1 : Nat) (hw1 : Cond.methodLink own index arraycopyName ∈ Ts) (hw2 : Cond.native arraycopyName ∈ Ts) (hw3 : Cond.static arraycopyName ∈ Ts) (hw4 : Cond.initialized "java/lang/System" ∈ Ts) (ha0 : ws[q0]? = some (a0, .inl (c0, n0, .inl f))) (ha1 : ws[q1]? = some (a, .inl (c1, n1, .inl g))) (ht0 : tys[t0]? = some (c0, ty)) (ht1 : tys[t1]? = some (c1, ty)) (hprim : refKind ty = false) (h1 : ¬ sp < 0) (h2 : ¬ dp < 0) (h3 : ¬ n < 0) (h4 : sp.toNatClampNeg + n.toNatClampNeg ≤ n0) (h5 : dp.toNatClampNeg + n.toNatClampNeg ≤ n1) (hfit : ∀ x : Int32, fits ty (.int x) = true) (hfr : 1 ≤ rm.frames) (hlo : (st.map fun v => v.category).sum + (nativeFrameWords "java/lang/System" "arraycopy" 5 + 11) ≤ rm.locals) (hws : ws.set q1 (a, .inl (c1, n1, .inl (va_cpy f g sp.toNatClampNeg dp.toNatClampNeg n.toNatClampNeg))) = ws') (hd : decode cc pc = .ok (.invokestatic index, 3)) (kk : J Γ D nL cs sl ws' (pc + 3) lv (st)) : J Γ D nL cs sl ws pc lv (.int n :: .int dp :: .ref a :: .int sp :: .ref a0 :: st) := by
  obtain ⟨p, l, e, R, s, m, args, below, meth, c, A, Q⟩ := Γ
  obtain ⟨rfl, rfl, hx, hb, hml, hown, hts, hK, hA, hlk⟩ := hC
  intro H locs ls hP hD hS hl
  exact va_copyi hx hb (hml.trans hl.1.symm) hown (hts _ hw1) (hts _ hw2) (hts _ hw3) (hts _ hw4) hK.1 hP hD hS q0 q1 t0 t1 ha0 ha1 ht0 ht1 hprim h1 h2 h3 h4 h5 (fun i _ => hfit _) hfr hlo hd (fun H locs hP hD hS => kk H locs ls (hws ▸ hP) (hws ▸ hD) hS hl)
theorem j_copyl (hC : jC Γ l0 rm D nL own cc Ts tys) {index a a0 n0 n1 : Nat} {c0 c1 : ClassId} {f g : Nat → Int64} {ty : FieldType} {sp dp n : Int32} {ws' : va_W} (q0 q1 t0 t1 : Nat) (hw1 : Cond.methodLink own index arraycopyName ∈ Ts) (hw2 : Cond.native arraycopyName ∈ Ts) (hw3 : Cond.static arraycopyName ∈ Ts) (hw4 : Cond.initialized "java/lang/System" ∈ Ts) (ha0 : ws[q0]? = some (a0, .inl (c0, n0, .inr (.inl f)))) (ha1 : ws[q1]? = some (a, .inl (c1, n1, .inr (.inl g)))) (ht0 : tys[t0]? = some (c0, ty)) (ht1 : tys[t1]? = some (c1, ty)) (hprim : refKind ty = false) (h1 : ¬ sp < 0) (h2 : ¬ dp < 0) (h3 : ¬ n < 0) (h4 : sp.toNatClampNeg + n.toNatClampNeg ≤ n0) (h5 : dp.toNatClampNeg + n.toNatClampNeg ≤ n1) (hfit : ∀ x : Int64, fits ty (.long x) = true) (hfr : 1 ≤ rm.frames) (hlo : (st.map fun v => v.category).sum + (nativeFrameWords "java/lang/System" "arraycopy" 5 + 11) ≤ rm.locals) (hws : ws.set q1 (a, .inl (c1, n1, .inr (.inl (va_cpy f g sp.toNatClampNeg dp.toNatClampNeg n.toNatClampNeg)))) = ws') (hd : decode cc pc = .ok (.invokestatic index, 3)) (kk : J Γ D nL cs sl ws' (pc + 3) lv (st)) : J Γ D nL cs sl ws pc lv (.int n :: .int dp :: .ref a :: .int sp :: .ref a0 :: st) := by
  obtain ⟨p, l, e, R, s, m, args, below, meth, c, A, Q⟩ := Γ
  obtain ⟨rfl, rfl, hx, hb, hml, hown, hts, hK, hA, hlk⟩ := hC
  intro H locs ls hP hD hS hl
  exact va_copyl hx hb (hml.trans hl.1.symm) hown (hts _ hw1) (hts _ hw2) (hts _ hw3) (hts _ hw4) hK.1 hP hD hS q0 q1 t0 t1 ha0 ha1 ht0 ht1 hprim h1 h2 h3 h4 h5 (fun i _ => hfit _) hfr hlo hd (fun H locs hP hD hS => kk H locs ls (hws ▸ hP) (hws ▸ hD) hS hl)
theorem j_lcmp_eq (hC : jC Γ l0 rm D nL own cc Ts tys) {x y : Int64} {off : Int} {tgt : Nat} (hd : decode cc pc = .ok (.lcmp, 1)) (hd2 : decode cc (pc + 1) = .ok (.ifCond .eq off, 3)) (ht : ((pc + 1 : Nat) : Int) + off = (tgt : Int)) (kt : x = y → J Γ D nL cs sl ws (tgt) lv (st)) (kf : ¬ x = y → J Γ D nL cs sl ws (pc + 1 + 3) lv (st)) : J Γ D nL cs sl ws pc lv (.long y :: .long x :: st) :=
  j_lcmp hC hd (j_if_eq hC hd2 ht (fun h => kt (jl_eq.mp h)) (fun h => kf (fun q => h (jl_eq.mpr q))))
theorem j_lcmp_ne (hC : jC Γ l0 rm D nL own cc Ts tys) {x y : Int64} {off : Int} {tgt : Nat} (hd : decode cc pc = .ok (.lcmp, 1)) (hd2 : decode cc (pc + 1) = .ok (.ifCond .ne off, 3)) (ht : ((pc + 1 : Nat) : Int) + off = (tgt : Int)) (kt : ¬ x = y → J Γ D nL cs sl ws (tgt) lv (st)) (kf : x = y → J Γ D nL cs sl ws (pc + 1 + 3) lv (st)) : J Γ D nL cs sl ws pc lv (.long y :: .long x :: st) :=
  j_lcmp hC hd (j_if_ne hC hd2 ht (fun h => kt (jl_ne.mp h)) (fun h => kf (jl_eq.mp h)))
theorem j_lcmp_lt (hC : jC Γ l0 rm D nL own cc Ts tys) {x y : Int64} {off : Int} {tgt : Nat} (hd : decode cc pc = .ok (.lcmp, 1)) (hd2 : decode cc (pc + 1) = .ok (.ifCond .lt off, 3)) (ht : ((pc + 1 : Nat) : Int) + off = (tgt : Int)) (kt : x < y → J Γ D nL cs sl ws (tgt) lv (st)) (kf : ¬ x < y → J Γ D nL cs sl ws (pc + 1 + 3) lv (st)) : J Γ D nL cs sl ws pc lv (.long y :: .long x :: st) :=
  j_lcmp hC hd (j_if_lt hC hd2 ht (fun h => kt (jl_lt.mp h)) (fun h => kf (fun q => h (jl_lt.mpr q))))
theorem j_lcmp_ge (hC : jC Γ l0 rm D nL own cc Ts tys) {x y : Int64} {off : Int} {tgt : Nat} (hd : decode cc pc = .ok (.lcmp, 1)) (hd2 : decode cc (pc + 1) = .ok (.ifCond .ge off, 3)) (ht : ((pc + 1 : Nat) : Int) + off = (tgt : Int)) (kt : y ≤ x → J Γ D nL cs sl ws (tgt) lv (st)) (kf : ¬ y ≤ x → J Γ D nL cs sl ws (pc + 1 + 3) lv (st)) : J Γ D nL cs sl ws pc lv (.long y :: .long x :: st) :=
  j_lcmp hC hd (j_if_ge hC hd2 ht (fun h => kt (jl_ge.mp h)) (fun h => kf (fun q => h (jl_ge.mpr q))))
theorem j_lcmp_gt (hC : jC Γ l0 rm D nL own cc Ts tys) {x y : Int64} {off : Int} {tgt : Nat} (hd : decode cc pc = .ok (.lcmp, 1)) (hd2 : decode cc (pc + 1) = .ok (.ifCond .gt off, 3)) (ht : ((pc + 1 : Nat) : Int) + off = (tgt : Int)) (kt : y < x → J Γ D nL cs sl ws (tgt) lv (st)) (kf : ¬ y < x → J Γ D nL cs sl ws (pc + 1 + 3) lv (st)) : J Γ D nL cs sl ws pc lv (.long y :: .long x :: st) :=
  j_lcmp hC hd (j_if_gt hC hd2 ht (fun h => kt (jl_gt.mp h)) (fun h => kf (fun q => h (jl_gt.mpr q))))
theorem j_lcmp_le (hC : jC Γ l0 rm D nL own cc Ts tys) {x y : Int64} {off : Int} {tgt : Nat} (hd : decode cc pc = .ok (.lcmp, 1)) (hd2 : decode cc (pc + 1) = .ok (.ifCond .le off, 3)) (ht : ((pc + 1 : Nat) : Int) + off = (tgt : Int)) (kt : x ≤ y → J Γ D nL cs sl ws (tgt) lv (st)) (kf : ¬ x ≤ y → J Γ D nL cs sl ws (pc + 1 + 3) lv (st)) : J Γ D nL cs sl ws pc lv (.long y :: .long x :: st) :=
  j_lcmp hC hd (j_if_le hC hd2 ht (fun h => kt (jl_le.mp h)) (fun h => kf (fun q => h (jl_le.mpr q))))
theorem j_new (hC : jC Γ l0 rm D nL own cc Ts tys) {C : String} {T : u_T} {N ci index : Nat} {fs : List Value} (hin : ∀ w ∈ u_ws C T N, w ∈ Ts) (ty : Nat → FieldType) (hty : ∀ k, k < N → parseFieldDescriptor (T k).2.2.1 = some (ty k)) (hw1 : Cond.classLink own index C ∈ Ts) (hw2 : Cond.instantiable C N ∈ Ts) (hw3 : Cond.initialized C ∈ Ts) (hc : vwCl[ci]? = some (C, T, N)) (hfs : ∀ j, j < N → defaultValue (ty j) = vp_V fs j) (hcells : cs + 1 ≤ rm.cells) (hslots : sl + N ≤ rm.slots) (hd : decode cc pc = .ok (.new index, 3)) (kk : ∀ q : Nat, J Γ D nL (cs + 1) (sl + N) (ws ++ [(q, .inr (ci, fs))]) (pc + 3) lv (.ref q :: st)) : J Γ D nL cs sl ws pc lv (st) := by
  obtain ⟨p, l, e, R, s, m, args, below, meth, c, A, Q⟩ := Γ
  obtain ⟨rfl, rfl, hx, hb, hml, hown, hts, hK, hA, hlk⟩ := hC
  intro H locs ls hP hD hS hl
  exact va_new hx hb hts hin ty hty hown (hts _ hw1) (hts _ hw2) (hts _ hw3) hK.1 hP hD hS hA hc hfs hcells hslots hd (fun q H hP hD hS => kk q H locs ls hP hD hS hl)
theorem j_newa_int (hC : jC Γ l0 rm D nL own cc Ts tys) {cA : ClassId} {n : Int32} {N' : Nat} (t0 : Nat) (ht : tys[t0]? = some (cA, .int)) (hw : Cond.arrayClass .int ∈ Ts) (hn : ¬ n < 0) (hN : n.toNatClampNeg = N') (hbytes : N' * componentBytes .int ≤ 536870912) (hcells : cs + 1 ≤ rm.cells) (hslots : sl + N' ≤ rm.slots) (hd : decode cc pc = .ok (.newarray .int, 2)) (kk : ∀ q : Nat, J Γ D nL (cs + 1) (sl + N') (ws ++ [(q, .inl (cA, N', .inl (fun _ => 0)))]) (pc + 2) lv (.ref q :: st)) : J Γ D nL cs sl ws pc lv (.int n :: st) := by
  obtain ⟨p, l, e, R, s, m, args, below, meth, c, A, Q⟩ := Γ
  obtain ⟨rfl, rfl, hx, hb, hml, hown, hts, hK, hA, hlk⟩ := hC
  intro H locs ls hP hD hS hl
  refine va_newa (atype := .int) (ty := .int) (a0 := (N', .inl (fun _ => 0))) hx hb (hts _ hw) rfl hK.1 hP hD hS hA (fun _ => rfl) hn hN hbytes hcells hslots hd (fun q cA2 H hK2 hP hD hS => ?_)
  have h1 : s.vm.findClass ("[" ++ (FieldType.toString .int)) = some cA2 := (hK2.2 tys.length (cA2, .int) (by simp)).2
  have h2 : s.vm.findClass ("[" ++ (FieldType.toString .int)) = some cA := (hK.1.2 t0 _ ht).2
  have e9 : cA2 = cA := Option.some.inj (h1.symm.trans h2)
  subst e9
  exact kk q H locs ls hP hD hS hl
theorem j_newa_long (hC : jC Γ l0 rm D nL own cc Ts tys) {cA : ClassId} {n : Int32} {N' : Nat} (t0 : Nat) (ht : tys[t0]? = some (cA, .long)) (hw : Cond.arrayClass .long ∈ Ts) (hn : ¬ n < 0) (hN : n.toNatClampNeg = N') (hbytes : N' * componentBytes .long ≤ 536870912) (hcells : cs + 1 ≤ rm.cells) (hslots : sl + N' ≤ rm.slots) (hd : decode cc pc = .ok (.newarray .long, 2)) (kk : ∀ q : Nat, J Γ D nL (cs + 1) (sl + N') (ws ++ [(q, .inl (cA, N', .inr (.inl (fun _ => 0))))]) (pc + 2) lv (.ref q :: st)) : J Γ D nL cs sl ws pc lv (.int n :: st) := by
  obtain ⟨p, l, e, R, s, m, args, below, meth, c, A, Q⟩ := Γ
  obtain ⟨rfl, rfl, hx, hb, hml, hown, hts, hK, hA, hlk⟩ := hC
  intro H locs ls hP hD hS hl
  refine va_newa (atype := .long) (ty := .long) (a0 := (N', .inr (.inl (fun _ => 0)))) hx hb (hts _ hw) rfl hK.1 hP hD hS hA (fun _ => rfl) hn hN hbytes hcells hslots hd (fun q cA2 H hK2 hP hD hS => ?_)
  have h1 : s.vm.findClass ("[" ++ (FieldType.toString .long)) = some cA2 := (hK2.2 tys.length (cA2, .long) (by simp)).2
  have h2 : s.vm.findClass ("[" ++ (FieldType.toString .long)) = some cA := (hK.1.2 t0 _ ht).2
  have e9 : cA2 = cA := Option.some.inj (h1.symm.trans h2)
  subst e9
  exact kk q H locs ls hP hD hS hl
theorem j_newa_boolean (hC : jC Γ l0 rm D nL own cc Ts tys) {cA : ClassId} {n : Int32} {N' : Nat} (t0 : Nat) (ht : tys[t0]? = some (cA, .boolean)) (hw : Cond.arrayClass .boolean ∈ Ts) (hn : ¬ n < 0) (hN : n.toNatClampNeg = N') (hbytes : N' * componentBytes .boolean ≤ 536870912) (hcells : cs + 1 ≤ rm.cells) (hslots : sl + N' ≤ rm.slots) (hd : decode cc pc = .ok (.newarray .boolean, 2)) (kk : ∀ q : Nat, J Γ D nL (cs + 1) (sl + N') (ws ++ [(q, .inl (cA, N', .inl (fun _ => 0)))]) (pc + 2) lv (.ref q :: st)) : J Γ D nL cs sl ws pc lv (.int n :: st) := by
  obtain ⟨p, l, e, R, s, m, args, below, meth, c, A, Q⟩ := Γ
  obtain ⟨rfl, rfl, hx, hb, hml, hown, hts, hK, hA, hlk⟩ := hC
  intro H locs ls hP hD hS hl
  refine va_newa (atype := .boolean) (ty := .boolean) (a0 := (N', .inl (fun _ => 0))) hx hb (hts _ hw) rfl hK.1 hP hD hS hA (fun _ => rfl) hn hN hbytes hcells hslots hd (fun q cA2 H hK2 hP hD hS => ?_)
  have h1 : s.vm.findClass ("[" ++ (FieldType.toString .boolean)) = some cA2 := (hK2.2 tys.length (cA2, .boolean) (by simp)).2
  have h2 : s.vm.findClass ("[" ++ (FieldType.toString .boolean)) = some cA := (hK.1.2 t0 _ ht).2
  have e9 : cA2 = cA := Option.some.inj (h1.symm.trans h2)
  subst e9
  exact kk q H locs ls hP hD hS hl
theorem j_newq (hC : jC Γ l0 rm D nL own cc Ts tys) {C : String} {cA : ClassId} {n : Int32} {N' index : Nat} (t0 : Nat) (ht : tys[t0]? = some (cA, .object C)) (hw : Cond.classLink own index C ∈ Ts) (ho : FieldType.object C ∈ jAo) (hn : ¬ n < 0) (hN : n.toNatClampNeg = N') (hbytes : N' * 4 ≤ 536870912) (hcells : cs + 1 ≤ rm.cells) (hslots : sl + N' ≤ rm.slots) (hd : decode cc pc = .ok (.anewarray index, 3)) (kk : ∀ q : Nat, J Γ D nL (cs + 1) (sl + N') (ws ++ [(q, .inl (cA, N', .inr (.inr (.inr (.inr (fun _ => none))))))]) (pc + 3) lv (.ref q :: st)) : J Γ D nL cs sl ws pc lv (.int n :: st) := by
  obtain ⟨p, l, e, R, s, m, args, below, meth, c, A, Q⟩ := Γ
  obtain ⟨rfl, rfl, hx, hb, hml, hown, hts, hK, hA, hlk⟩ := hC
  intro H locs ls hP hD hS hl
  refine va_newq hx hb hown (hts _ hw) (va_AO.of (A := #[]) (hK.2.2.2.2 _ ho)) hK.1 hP hD hS hA hn hN hbytes hcells hslots hd (fun q cA2 H hK2 hP hD hS => ?_)
  obtain ⟨_, _, _, _, _, h1⟩ := (hK2.2 tys.length (cA2, .object C) (by simp)).2
  obtain ⟨_, _, _, _, _, h2⟩ := (hK.1.2 t0 _ ht).2
  have e9 : cA2 = cA := Option.some.inj (h1.symm.trans h2)
  subst e9
  exact kk q H locs ls hP hD hS hl
theorem j_mna_int (hC : jC Γ l0 rm D nL own cc Ts tys) {cA cB : ClassId} {n k : Int32} {N' K' index : Nat} (t0 t1 : Nat) (ht : tys[t0]? = some (cB, .int)) (ht1 : tys[t1]? = some (cA, .array .int)) (hw : Cond.classLink own index ("[" ++ (FieldType.array .int).toString) ∈ Ts) (hw2 : Cond.arrayClass .int ∈ Ts) (ho : FieldType.array .int ∈ jAo) (hn : ¬ n < 0) (hk : ¬ k < 0) (hN : n.toNatClampNeg = N') (hM : k.toNatClampNeg = K') (hb1 : N' * 4 ≤ 536870912) (hb2 : K' * componentBytes .int ≤ 536870912) (hb3 : K' ≤ 536870912) (hcells : cs + (1 + N') ≤ rm.cells) (hslots : sl + (N' + N' * K') ≤ rm.slots) (hd : decode cc pc = .ok (.multianewarray index 2, 4)) (kk : ∀ (q : Nat) (r : Nat → Nat), J Γ D nL (cs + 1 + N') (sl + N' + N' * K') ((ws ++ [(q, .inl (cA, N', .inr (.inr (.inr (.inr (fun i => if i < N' then some (r i) else none))))))]) ++ (List.range N').map (fun j => (r j, .inl (cB, K', .inl (fun _ => 0))))) (pc + 4) lv (.ref q :: st)) : J Γ D nL cs sl ws pc lv (.int k :: .int n :: st) := by
  obtain ⟨p, l, e, R, s, m, args, below, meth, c, A, Q⟩ := Γ
  obtain ⟨rfl, rfl, hx, hb, hml, hown, hts, hK, hA, hlk⟩ := hC
  intro H locs ls hP hD hS hl
  have hP0 : va_P D vwCl (ws ++ va_pl [] (fun _ => .inl (cB, 0, .inl (fun _ => 0)))) H := by rw [show va_pl [] (fun _ => (.inl (cB, 0, .inl (fun _ => 0)) : va_E)) = [] from rfl, List.append_nil]; exact hP
  have hD0 : va_D A (ws ++ va_pl [] (fun _ => .inl (cB, 0, .inl (fun _ => 0)))) := by rw [show va_pl [] (fun _ => (.inl (cB, 0, .inl (fun _ => 0)) : va_E)) = [] from rfl, List.append_nil]; exact hD
  refine va_mna (ty := .int) (cy := cB) (z := (K', .inl (fun _ => 0))) hx hb hown (hts _ hw) (hK.2.2.2.2 _ ho) (hts _ hw2) (hK.1.2 t0 _ ht).2 hK.1 hP0 hD0 hS hA hn hk hN hM hb1 hb2 hb3 rfl rfl hcells hslots (fun c9 => jm_inner_int c9 K') hd (fun q r cA2 H hinj hfr hK2 hP hD hS => ?_)
  have h1 : s.vm.findClass ("[" ++ (FieldType.array .int).toString) = some cA2 := (hK2.2 tys.length (cA2, .array .int) (by simp)).2
  have h2 : s.vm.findClass ("[" ++ (FieldType.array .int).toString) = some cA := (hK.1.2 t1 _ ht1).2
  have e9 : cA2 = cA := Option.some.inj (h1.symm.trans h2)
  subst e9
  rw [jm_pool] at hP hD
  exact kk q r H locs ls hP hD hS hl
theorem j_mna_long (hC : jC Γ l0 rm D nL own cc Ts tys) {cA cB : ClassId} {n k : Int32} {N' K' index : Nat} (t0 t1 : Nat) (ht : tys[t0]? = some (cB, .long)) (ht1 : tys[t1]? = some (cA, .array .long)) (hw : Cond.classLink own index ("[" ++ (FieldType.array .long).toString) ∈ Ts) (hw2 : Cond.arrayClass .long ∈ Ts) (ho : FieldType.array .long ∈ jAo) (hn : ¬ n < 0) (hk : ¬ k < 0) (hN : n.toNatClampNeg = N') (hM : k.toNatClampNeg = K') (hb1 : N' * 4 ≤ 536870912) (hb2 : K' * componentBytes .long ≤ 536870912) (hb3 : K' ≤ 536870912) (hcells : cs + (1 + N') ≤ rm.cells) (hslots : sl + (N' + N' * K') ≤ rm.slots) (hd : decode cc pc = .ok (.multianewarray index 2, 4)) (kk : ∀ (q : Nat) (r : Nat → Nat), J Γ D nL (cs + 1 + N') (sl + N' + N' * K') ((ws ++ [(q, .inl (cA, N', .inr (.inr (.inr (.inr (fun i => if i < N' then some (r i) else none))))))]) ++ (List.range N').map (fun j => (r j, .inl (cB, K', .inr (.inl (fun _ => 0)))))) (pc + 4) lv (.ref q :: st)) : J Γ D nL cs sl ws pc lv (.int k :: .int n :: st) := by
  obtain ⟨p, l, e, R, s, m, args, below, meth, c, A, Q⟩ := Γ
  obtain ⟨rfl, rfl, hx, hb, hml, hown, hts, hK, hA, hlk⟩ := hC
  intro H locs ls hP hD hS hl
  have hP0 : va_P D vwCl (ws ++ va_pl [] (fun _ => .inl (cB, 0, .inr (.inl (fun _ => 0))))) H := by rw [show va_pl [] (fun _ => (.inl (cB, 0, .inr (.inl (fun _ => 0))) : va_E)) = [] from rfl, List.append_nil]; exact hP
  have hD0 : va_D A (ws ++ va_pl [] (fun _ => .inl (cB, 0, .inr (.inl (fun _ => 0))))) := by rw [show va_pl [] (fun _ => (.inl (cB, 0, .inr (.inl (fun _ => 0))) : va_E)) = [] from rfl, List.append_nil]; exact hD
  refine va_mna (ty := .long) (cy := cB) (z := (K', .inr (.inl (fun _ => 0)))) hx hb hown (hts _ hw) (hK.2.2.2.2 _ ho) (hts _ hw2) (hK.1.2 t0 _ ht).2 hK.1 hP0 hD0 hS hA hn hk hN hM hb1 hb2 hb3 rfl rfl hcells hslots (fun c9 => jm_inner_long c9 K') hd (fun q r cA2 H hinj hfr hK2 hP hD hS => ?_)
  have h1 : s.vm.findClass ("[" ++ (FieldType.array .long).toString) = some cA2 := (hK2.2 tys.length (cA2, .array .long) (by simp)).2
  have h2 : s.vm.findClass ("[" ++ (FieldType.array .long).toString) = some cA := (hK.1.2 t1 _ ht1).2
  have e9 : cA2 = cA := Option.some.inj (h1.symm.trans h2)
  subst e9
  rw [jm_pool] at hP hD
  exact kk q r H locs ls hP hD hS hl
theorem j_objInit (hC : jC Γ l0 rm D nL own cc Ts tys) {a index : Nat} (hw1 : Cond.methodLink own index objectInit ∈ Ts) (hw2 : Cond.instanceMethod objectInit ∈ Ts) (hw3 : Cond.code objectInit ⟨#[0xb1]⟩ 1 none ∈ Ts) (hfr : 1 ≤ rm.frames) (hlo : (st.map fun v => v.category).sum + 12 ≤ rm.locals) (hd : decode cc pc = .ok (.invokespecial index, 3)) (kk : J Γ D nL cs sl ws (pc + 3) lv (st)) : J Γ D nL cs sl ws pc lv (.ref a :: st) := by
  obtain ⟨p, l, e, R, s, m, args, below, meth, c, A, Q⟩ := Γ
  obtain ⟨rfl, rfl, hx, hb, hml, hown, hts, hK, hA, hlk⟩ := hC
  intro H locs ls hP hD hS hl
  exact W.objInit hx hb hown (hts _ hw1) (hts _ hw2) (hts _ hw3) rfl (by rw [hml]; exact hl.1) rfl hd hfr (by show 2 * 0 + _ + 12 ≤ _; omega) (W.eq (g2 := F0 m (pc + 3) ls st) rfl (kk H locs ls hP hD hS hl))
theorem j_iret {S : Type} {wf : S → va_W} {post : Int32 → S → Prop} {v : Int32} {u : S} (hC : jC Γ l0 rm D nL own cc Ts tys) (hQ : jQi Γ D wf post (some .int) cs sl) (hd : decode cc pc = .ok (.ireturn, 1)) (hw : ws = wf u) (hp : post v u) : J Γ D nL cs sl ws pc lv [.int v] := by
  obtain ⟨p, l, e, R, s, m, args, below, meth, c, A, Q⟩ := Γ
  obtain ⟨rfl, rfl, hx, hb, hml, hown, hts, hK, hA, hlk⟩ := hC
  obtain ⟨rfl, hr⟩ := hQ
  subst hw
  intro H locs ls hP hD hS hl
  exact W.iret hx hb hr (fun t ht _ => ⟨⟨v, u, rfl, hp, by rw [ht]; exact hP, hD⟩, hS.F ht⟩) hS.2.2 hd
theorem j_zret {S : Type} {wf : S → va_W} {post : Int32 → S → Prop} {v : Int32} {u : S} (hC : jC Γ l0 rm D nL own cc Ts tys) (hQ : jQi Γ D wf post (some .boolean) cs sl) (hd : decode cc pc = .ok (.ireturn, 1)) (hw : ws = wf u) (hn : narrow .boolean (.int v) = .int v) (hp : post v u) : J Γ D nL cs sl ws pc lv [.int v] := by
  obtain ⟨p, l, e, R, s, m, args, below, meth, c, A, Q⟩ := Γ
  obtain ⟨rfl, rfl, hx, hb, hml, hown, hts, hK, hA, hlk⟩ := hC
  obtain ⟨rfl, hr⟩ := hQ
  subst hw
  intro H locs ls hP hD hS hl
  exact W.zret hx hb hr hn (fun t ht _ => ⟨⟨v, u, rfl, hp, by rw [ht]; exact hP, hD⟩, hS.F ht⟩) hS.2.2 hd
theorem j_lret {S : Type} {wf : S → va_W} {post : Int64 → S → Prop} {v : Int64} {u : S} (hC : jC Γ l0 rm D nL own cc Ts tys) (hQ : jQl Γ D wf post (some .long) cs sl) (hd : decode cc pc = .ok (.lreturn, 1)) (hw : ws = wf u) (hp : post v u) : J Γ D nL cs sl ws pc lv [.long v] := by
  obtain ⟨p, l, e, R, s, m, args, below, meth, c, A, Q⟩ := Γ
  obtain ⟨rfl, rfl, hx, hb, hml, hown, hts, hK, hA, hlk⟩ := hC
  obtain ⟨rfl, hr⟩ := hQ
  subst hw
  intro H locs ls hP hD hS hl
  exact W.lret hx hb hr (fun t ht _ => ⟨⟨v, u, rfl, hp, by rw [ht]; exact hP, hD⟩, hS.F ht⟩) hS.2.2 hd
theorem j_vret {S : Type} {wf : S → va_W} {post : S → Prop} {u : S} (hC : jC Γ l0 rm D nL own cc Ts tys) (hQ : jQv Γ D wf post none cs sl) (hd : decode cc pc = .ok (.return_, 1)) (hw : ws = wf u) (hp : post u) : J Γ D nL cs sl ws pc lv [] := by
  obtain ⟨p, l, e, R, s, m, args, below, meth, c, A, Q⟩ := Γ
  obtain ⟨rfl, rfl, hx, hb, hml, hown, hts, hK, hA, hlk⟩ := hC
  obtain ⟨rfl, hr⟩ := hQ
  subst hw
  intro H locs ls hP hD hS hl
  exact W.vret hx hb hr (fun t ht _ => ⟨⟨u, rfl, hp, by rw [ht]; exact hP, hD⟩, hS.F ht⟩) hS.2.2 hd
theorem j_qret {S : Type} {wf : S → va_W} {post : Option Nat → S → Prop} {v : Option Nat} {u : S} {C : String} (hC : jC Γ l0 rm D nL own cc Ts tys) (hQ : jQq Γ D wf post (some (.object C)) cs sl) (hd : decode cc pc = .ok (.areturn, 1)) (hw : ws = wf u) (hp : post v u) : J Γ D nL cs sl ws pc lv [va_rf v] := by
  obtain ⟨p, l, e, R, s, m, args, below, meth, c, A, Q⟩ := Γ
  obtain ⟨rfl, rfl, hx, hb, hml, hown, hts, hK, hA, hlk⟩ := hC
  obtain ⟨rfl, hr⟩ := hQ
  subst hw
  intro H locs ls hP hD hS hl
  exact W.aret hx hb hr (Or.inl ⟨C, rfl⟩) (by cases v with | none => exact Or.inl rfl | some a => exact Or.inr ⟨a, rfl⟩) (fun t ht _ => ⟨⟨v, u, rfl, hp, by rw [ht]; exact hP, hD⟩, hS.F ht⟩) hS.2.2 hd
theorem j_widen {k n : Nat} (h1 : cs ≤ k) (h2 : sl ≤ n) (kk : J Γ D nL k n ws pc lv st) : J Γ D nL cs sl ws pc lv st := by
  obtain ⟨p, l, e, R, s, m, args, below, meth, c, A, Q⟩ := Γ
  intro H locs ls hP hD hS hl
  exact W.widen h1 h2 (kk H locs ls hP hD hS hl)
theorem j_lv {lv' : List (Nat × Value)} (ks : List Nat) (hf : lv_pick lv ks = lv') (kk : J Γ D nL cs sl ws pc lv' st) : J Γ D nL cs sl ws pc lv st := by
  obtain ⟨p, l, e, R, s, m, args, below, meth, c, A, Q⟩ := Γ
  intro H locs ls hP hD hS hl
  exact kk H locs ls hP hD hS (lv_sub hl ks hf)

theorem jA_free {A0 : Nat → Prop} {ws : va_W} {H0 H : Heap} {locs : List Loc} (hD : va_D A0 ws) (hS : va_S A0 H0 H locs) (hA : ∀ q, H0.size ≤ q → A0 q) : ∀ q, va_A ws H.size q → A0 q := by
  intro q h
  rcases h with ⟨k, e, hk⟩ | h
  · exact hD.2 k _ hk
  · exact hA q (Nat.le_trans hS.1 h)
theorem jPre_blind {D : va_G} {tys : List (ClassId × FieldType)} {av : List Value} {w0 : va_W} {sz : Nat} : FrameBlind (jPre D tys av w0 sz) := fun a U g mk q => by
  obtain ⟨q0, q1, qP, qK, qD⟩ := q
  exact ⟨q0, q1, qP, qK.blind, qD⟩
theorem jPre_in {D : va_G} {tys : List (ClassId × FieldType)} {av : List Value} {w0 : va_W} {A : Nat → Prop} {s : State} {H : Heap} (hK : jK D tys s) (hP : va_P D vwCl w0 H) (hD : va_D A w0) : ∀ U : State, U.heap = H → s.WarmedH U.vm → jPre D tys av w0 H.size av.toArray U := fun U hU hW => ⟨rfl, by rw [hU], by rw [hU]; exact hP, hK.warm hW, hD.weaken (fun _ _ _ _ => trivial)⟩

theorem j_callV_i (hC : jC Γ l0 rm D nL own cc Ts tys) {S : Type} {wf : S → va_W} {post : Int32 → S → Prop} {y : MethodName} {wy wy' : List Cond} {ry : Room} {mc ms maxL index : Nat} {bytes : ByteArray} {rt : Option FieldType} {As rest : List Value} {b q0 ci : Nat} {fs : List Value} (hM : jMi l0 y wy ry D tys (.ref b :: As) ws wf post mc ms) {C : String} {T : u_T} {N : Nat} (n : Nat) (hG : GoodIn Ts (wsV own index C y wy)) (hwy : wy = Cond.code y bytes maxL rt :: wy') (hrc : ry.cells = mc) (hrs : ry.slots = ms) (hR : ry.frames + 1 ≤ rm.frames ∧ 8 + (maxL + 11) + ry.locals ≤ rm.locals) (hd0 : y.cls = C ∧ y.cls ≠ "java/lang/invoke/MethodHandle" ∧ y.cls ≠ "java/lang/invoke/VarHandle" ∧ (parseMethodDescriptor y.desc).map (fun d => d.parameters.length) = some n) (hn : As.length = n) (he : ws[q0]? = some (b, .inr (ci, fs))) (hc : vwCl[ci]? = some (C, T, N)) (hst : st = As.reverse ++ .ref b :: rest) (hlo : (rest.map fun v => v.category).sum ≤ 8) (hcc : cs + mc ≤ rm.cells ∧ sl + ms ≤ rm.slots) (hd : decode cc pc = .ok (.invokevirtual index, 3)) (kk : ∀ (r : Int32) (u : S), post r u → J Γ D nL (cs + mc) (sl + ms) (wf u) (pc + 3) lv (.int r :: rest)) : J Γ D nL cs sl ws pc lv st := by
  obtain ⟨p, l, e, R, s, m, args, below, meth, c, A, Q⟩ := Γ
  obtain ⟨rfl, rfl, hx, hb, hml, hown, hts, hK, hA, hlk⟩ := hC
  intro H locs ls hP hD hS hl
  subst hst
  have hF := jA_free hD hS hA
  exact va_calli (va_runV ⟨hx, hb, hml, hown, hts⟩ (hM H.size) (cwV n hts hG hwy hrc hrs hd0 hR) ⟨jPre_blind, va_recv hK.1 hP hc he, jPre_in hK hP hD⟩ rfl hn hl.1 rfl (lv_room hlo) hd hcc) hS (fun q _ h => hF q h) hF (fun r u t H1 locs ht hvm hw hB hz1 hk1 hS => kk r u hw H1 locs ls (ht ▸ hB.1) (hB.2.weaken (fun _ q _ h => hF _ h)) hS hl)
theorem j_callS_i (hC : jC Γ l0 rm D nL own cc Ts tys) {S : Type} {wf : S → va_W} {post : Int32 → S → Prop} {y : MethodName} {wy wy' : List Cond} {ry : Room} {mc ms maxL index : Nat} {bytes : ByteArray} {rt : Option FieldType} {As rest : List Value} (hM : jMi l0 y wy ry D tys As ws wf post mc ms) (n : Nat) (hG : GoodIn Ts (va_wsS own index y wy)) (hwy : wy = Cond.code y bytes maxL rt :: wy') (hrc : ry.cells = mc) (hrs : ry.slots = ms) (hR : ry.frames + 1 ≤ rm.frames ∧ 8 + (maxL + 11) + ry.locals ≤ rm.locals) (hd0 : y.cls ≠ "java/lang/invoke/MethodHandle" ∧ y.cls ≠ "java/lang/invoke/VarHandle" ∧ (parseMethodDescriptor y.desc).map (fun d => d.parameters.length) = some n) (hn : As.length = n) (hst : st = As.reverse ++ rest) (hlo : (rest.map fun v => v.category).sum ≤ 8) (hcc : cs + mc ≤ rm.cells ∧ sl + ms ≤ rm.slots) (hd : decode cc pc = .ok (.invokestatic index, 3)) (kk : ∀ (r : Int32) (u : S), post r u → J Γ D nL (cs + mc) (sl + ms) (wf u) (pc + 3) lv (.int r :: rest)) : J Γ D nL cs sl ws pc lv st := by
  obtain ⟨p, l, e, R, s, m, args, below, meth, c, A, Q⟩ := Γ
  obtain ⟨rfl, rfl, hx, hb, hml, hown, hts, hK, hA, hlk⟩ := hC
  intro H locs ls hP hD hS hl
  subst hst
  have hF := jA_free hD hS hA
  exact va_calli (va_runS ⟨hx, hb, hml, hown, hts⟩ (hM H.size) (va_cwS n hts hG hwy hrc hrs hd0 hR) ⟨jPre_blind, jPre_in hK hP hD⟩ rfl hn hl.1 rfl (lv_room hlo) hd hcc) hS (fun q _ h => hF q h) hF (fun r u t H1 locs ht hvm hw hB hz1 hk1 hS => kk r u hw H1 locs ls (ht ▸ hB.1) (hB.2.weaken (fun _ q _ h => hF _ h)) hS hl)
theorem j_callSN_i (hC : jC Γ l0 rm D nL own cc Ts tys) {S : Type} {wf : S → va_W} {post : Int32 → S → Prop} {y : MethodName} {wy wy' : List Cond} {ry : Room} {mc ms maxL index : Nat} {bytes : ByteArray} {rt : Option FieldType} {As rest : List Value} (hM : jMi l0 y wy ry D tys As ws wf post mc ms) {host : String} (n : Nat) (hG : GoodIn Ts wy) (hwy : wy = Cond.code y bytes maxL rt :: wy') (hrc : ry.cells = mc) (hrs : ry.slots = ms) (hR : ry.frames + 1 ≤ rm.frames ∧ 8 + (maxL + 11) + ry.locals ≤ rm.locals) (hnw : Cond.methodLinkNest own index y host ∈ jNw) (hws1 : Cond.initialized y.cls ∈ Ts) (hws2 : Cond.static y ∈ Ts) (hd0 : y.cls ≠ "java/lang/invoke/MethodHandle" ∧ y.cls ≠ "java/lang/invoke/VarHandle" ∧ (parseMethodDescriptor y.desc).map (fun d => d.parameters.length) = some n) (hn : As.length = n) (hst : st = As.reverse ++ rest) (hlo : (rest.map fun v => v.category).sum ≤ 8) (hcc : cs + mc ≤ rm.cells ∧ sl + ms ≤ rm.slots) (hd : decode cc pc = .ok (.invokestatic index, 3)) (kk : ∀ (r : Int32) (u : S), post r u → J Γ D nL (cs + mc) (sl + ms) (wf u) (pc + 3) lv (.int r :: rest)) : J Γ D nL cs sl ws pc lv st := by
  obtain ⟨p, l, e, R, s, m, args, below, meth, c, A, Q⟩ := Γ
  obtain ⟨rfl, rfl, hx, hb, hml, hown, hts, hK, hA, hlk⟩ := hC
  intro H locs ls hP hD hS hl
  subst hst
  have hF := jA_free hD hS hA
  exact va_calli (va_runSN ⟨hx, hb, hml, hown, hts⟩ (hM H.size) ⟨va_cnB n hts hG hwy hrc hrs (hK.2.1 _ hnw) (hts _ hws1) hd0 hR, hts _ hws2, trivial⟩ ⟨jPre_blind, jPre_in hK hP hD⟩ rfl hn hl.1 rfl (lv_room hlo) hd hcc) hS (fun q _ h => hF q h) hF (fun r u t H1 locs ht hvm hw hB hz1 hk1 hS => kk r u hw H1 locs ls (ht ▸ hB.1) (hB.2.weaken (fun _ q _ h => hF _ h)) hS hl)
theorem j_callVO_i (hC : jC Γ l0 rm D nL own cc Ts tys) {S : Type} {wf : S → va_W} {post : Int32 → S → Prop} {y : MethodName} {wy wy' : List Cond} {ry : Room} {mc ms maxL index : Nat} {bytes : ByteArray} {rt : Option FieldType} {As rest : List Value} {b q0 ci : Nat} {fs : List Value} (hM : jMi l0 y wy ry D tys (.ref b :: As) ws wf post mc ms) {C owner : String} {T : u_T} {N : Nat} {x : MethodName} {b0 : ByteArray} {m0 : Nat} {r0 : Option FieldType} (n : Nat) (hG : GoodIn Ts (va_wsO own index C owner x y wy)) (hwy : wy = Cond.code y bytes maxL rt :: wy') (hrc : ry.cells = mc) (hrs : ry.slots = ms) (hR : ry.frames + 1 ≤ rm.frames ∧ 8 + (maxL + 11) + ry.locals ≤ rm.locals) (h0 : Cond.code ⟨owner, x.name, x.desc⟩ b0 m0 r0 ∈ Ts) (hd0 : owner ≠ "java/lang/invoke/MethodHandle" ∧ owner ≠ "java/lang/invoke/VarHandle" ∧ (parseMethodDescriptor x.desc).map (fun d => d.parameters.length) = some n) (hn : As.length = n) (he : ws[q0]? = some (b, .inr (ci, fs))) (hc : vwCl[ci]? = some (C, T, N)) (hst : st = As.reverse ++ .ref b :: rest) (hlo : (rest.map fun v => v.category).sum ≤ 8) (hcc : cs + mc ≤ rm.cells ∧ sl + ms ≤ rm.slots) (hd : decode cc pc = .ok (.invokevirtual index, 3)) (kk : ∀ (r : Int32) (u : S), post r u → J Γ D nL (cs + mc) (sl + ms) (wf u) (pc + 3) lv (.int r :: rest)) : J Γ D nL cs sl ws pc lv st := by
  obtain ⟨p, l, e, R, s, m, args, below, meth, c, A, Q⟩ := Γ
  obtain ⟨rfl, rfl, hx, hb, hml, hown, hts, hK, hA, hlk⟩ := hC
  intro H locs ls hP hD hS hl
  subst hst
  have hF := jA_free hD hS hA
  exact va_calli (va_runU ⟨hx, hb, hml, hown, hts⟩ (hM H.size) (va_cwO n hts hG hwy hrc hrs h0 hd0 hR) ⟨jPre_blind, va_recv hK.1 hP hc he, jPre_in hK hP hD⟩ rfl hn hl.1 rfl (lv_room hlo) hd hcc) hS (fun q _ h => hF q h) hF (fun r u t H1 locs ht hvm hw hB hz1 hk1 hS => kk r u hw H1 locs ls (ht ▸ hB.1) (hB.2.weaken (fun _ q _ h => hF _ h)) hS hl)
theorem j_callSU_i (hC : jC Γ l0 rm D nL own cc Ts tys) {S : Type} {wf : S → va_W} {post : Int32 → S → Prop} {y : MethodName} {wy wy' : List Cond} {ry : Room} {mc ms maxL index : Nat} {bytes : ByteArray} {rt : Option FieldType} {As rest : List Value} {b q0 ci : Nat} {fs : List Value} (hM : jMi l0 y wy ry D tys (.ref b :: As) ws wf post mc ms) {C : String} {T : u_T} {N : Nat} (n : Nat) (hG : GoodIn Ts (va_wsSU own index y wy)) (hwy : wy = Cond.code y bytes maxL rt :: wy') (hrc : ry.cells = mc) (hrs : ry.slots = ms) (hR : ry.frames + 1 ≤ rm.frames ∧ 8 + (maxL + 11) + ry.locals ≤ rm.locals) (hd0 : y.name ≠ "<init>" ∧ (parseMethodDescriptor y.desc).map (fun d => d.parameters.length) = some n) (hn : As.length = n) (he : ws[q0]? = some (b, .inr (ci, fs))) (hc : vwCl[ci]? = some (C, T, N)) (hst : st = As.reverse ++ .ref b :: rest) (hlo : (rest.map fun v => v.category).sum ≤ 8) (hcc : cs + mc ≤ rm.cells ∧ sl + ms ≤ rm.slots) (hd : decode cc pc = .ok (.invokespecial index, 3)) (kk : ∀ (r : Int32) (u : S), post r u → J Γ D nL (cs + mc) (sl + ms) (wf u) (pc + 3) lv (.int r :: rest)) : J Γ D nL cs sl ws pc lv st := by
  obtain ⟨p, l, e, R, s, m, args, below, meth, c, A, Q⟩ := Γ
  obtain ⟨rfl, rfl, hx, hb, hml, hown, hts, hK, hA, hlk⟩ := hC
  intro H locs ls hP hD hS hl
  subst hst
  have hF := jA_free hD hS hA
  exact va_calli (va_runSU (hK.1.1 ci _ hc).2 ⟨hx, hb, hml, hown, hts⟩ (hM H.size) (va_cwSU n hts hG hwy hrc hrs hd0 hR) ⟨jPre_blind, va_recv hK.1 hP hc he, jPre_in hK hP hD⟩ rfl hn hl.1 rfl (lv_room hlo) hd hcc) hS (fun q _ h => hF q h) hF (fun r u t H1 locs ht hvm hw hB hz1 hk1 hS => kk r u hw H1 locs ls (ht ▸ hB.1) (hB.2.weaken (fun _ q _ h => hF _ h)) hS hl)
theorem j_callV_l (hC : jC Γ l0 rm D nL own cc Ts tys) {S : Type} {wf : S → va_W} {post : Int64 → S → Prop} {y : MethodName} {wy wy' : List Cond} {ry : Room} {mc ms maxL index : Nat} {bytes : ByteArray} {rt : Option FieldType} {As rest : List Value} {b q0 ci : Nat} {fs : List Value} (hM : jMl l0 y wy ry D tys (.ref b :: As) ws wf post mc ms) {C : String} {T : u_T} {N : Nat} (n : Nat) (hG : GoodIn Ts (wsV own index C y wy)) (hwy : wy = Cond.code y bytes maxL rt :: wy') (hrc : ry.cells = mc) (hrs : ry.slots = ms) (hR : ry.frames + 1 ≤ rm.frames ∧ 8 + (maxL + 11) + ry.locals ≤ rm.locals) (hd0 : y.cls = C ∧ y.cls ≠ "java/lang/invoke/MethodHandle" ∧ y.cls ≠ "java/lang/invoke/VarHandle" ∧ (parseMethodDescriptor y.desc).map (fun d => d.parameters.length) = some n) (hn : As.length = n) (he : ws[q0]? = some (b, .inr (ci, fs))) (hc : vwCl[ci]? = some (C, T, N)) (hst : st = As.reverse ++ .ref b :: rest) (hlo : (rest.map fun v => v.category).sum ≤ 8) (hcc : cs + mc ≤ rm.cells ∧ sl + ms ≤ rm.slots) (hd : decode cc pc = .ok (.invokevirtual index, 3)) (kk : ∀ (r : Int64) (u : S), post r u → J Γ D nL (cs + mc) (sl + ms) (wf u) (pc + 3) lv (.long r :: rest)) : J Γ D nL cs sl ws pc lv st := by
  obtain ⟨p, l, e, R, s, m, args, below, meth, c, A, Q⟩ := Γ
  obtain ⟨rfl, rfl, hx, hb, hml, hown, hts, hK, hA, hlk⟩ := hC
  intro H locs ls hP hD hS hl
  subst hst
  have hF := jA_free hD hS hA
  exact va_calll (va_runV ⟨hx, hb, hml, hown, hts⟩ (hM H.size) (cwV n hts hG hwy hrc hrs hd0 hR) ⟨jPre_blind, va_recv hK.1 hP hc he, jPre_in hK hP hD⟩ rfl hn hl.1 rfl (lv_room hlo) hd hcc) hS (fun q _ h => hF q h) hF (fun r u t H1 locs ht hvm hw hB hz1 hk1 hS => kk r u hw H1 locs ls (ht ▸ hB.1) (hB.2.weaken (fun _ q _ h => hF _ h)) hS hl)
theorem j_callS_l (hC : jC Γ l0 rm D nL own cc Ts tys) {S : Type} {wf : S → va_W} {post : Int64 → S → Prop} {y : MethodName} {wy wy' : List Cond} {ry : Room} {mc ms maxL index : Nat} {bytes : ByteArray} {rt : Option FieldType} {As rest : List Value} (hM : jMl l0 y wy ry D tys As ws wf post mc ms) (n : Nat) (hG : GoodIn Ts (va_wsS own index y wy)) (hwy : wy = Cond.code y bytes maxL rt :: wy') (hrc : ry.cells = mc) (hrs : ry.slots = ms) (hR : ry.frames + 1 ≤ rm.frames ∧ 8 + (maxL + 11) + ry.locals ≤ rm.locals) (hd0 : y.cls ≠ "java/lang/invoke/MethodHandle" ∧ y.cls ≠ "java/lang/invoke/VarHandle" ∧ (parseMethodDescriptor y.desc).map (fun d => d.parameters.length) = some n) (hn : As.length = n) (hst : st = As.reverse ++ rest) (hlo : (rest.map fun v => v.category).sum ≤ 8) (hcc : cs + mc ≤ rm.cells ∧ sl + ms ≤ rm.slots) (hd : decode cc pc = .ok (.invokestatic index, 3)) (kk : ∀ (r : Int64) (u : S), post r u → J Γ D nL (cs + mc) (sl + ms) (wf u) (pc + 3) lv (.long r :: rest)) : J Γ D nL cs sl ws pc lv st := by
  obtain ⟨p, l, e, R, s, m, args, below, meth, c, A, Q⟩ := Γ
  obtain ⟨rfl, rfl, hx, hb, hml, hown, hts, hK, hA, hlk⟩ := hC
  intro H locs ls hP hD hS hl
  subst hst
  have hF := jA_free hD hS hA
  exact va_calll (va_runS ⟨hx, hb, hml, hown, hts⟩ (hM H.size) (va_cwS n hts hG hwy hrc hrs hd0 hR) ⟨jPre_blind, jPre_in hK hP hD⟩ rfl hn hl.1 rfl (lv_room hlo) hd hcc) hS (fun q _ h => hF q h) hF (fun r u t H1 locs ht hvm hw hB hz1 hk1 hS => kk r u hw H1 locs ls (ht ▸ hB.1) (hB.2.weaken (fun _ q _ h => hF _ h)) hS hl)
theorem j_callSN_l (hC : jC Γ l0 rm D nL own cc Ts tys) {S : Type} {wf : S → va_W} {post : Int64 → S → Prop} {y : MethodName} {wy wy' : List Cond} {ry : Room} {mc ms maxL index : Nat} {bytes : ByteArray} {rt : Option FieldType} {As rest : List Value} (hM : jMl l0 y wy ry D tys As ws wf post mc ms) {host : String} (n : Nat) (hG : GoodIn Ts wy) (hwy : wy = Cond.code y bytes maxL rt :: wy') (hrc : ry.cells = mc) (hrs : ry.slots = ms) (hR : ry.frames + 1 ≤ rm.frames ∧ 8 + (maxL + 11) + ry.locals ≤ rm.locals) (hnw : Cond.methodLinkNest own index y host ∈ jNw) (hws1 : Cond.initialized y.cls ∈ Ts) (hws2 : Cond.static y ∈ Ts) (hd0 : y.cls ≠ "java/lang/invoke/MethodHandle" ∧ y.cls ≠ "java/lang/invoke/VarHandle" ∧ (parseMethodDescriptor y.desc).map (fun d => d.parameters.length) = some n) (hn : As.length = n) (hst : st = As.reverse ++ rest) (hlo : (rest.map fun v => v.category).sum ≤ 8) (hcc : cs + mc ≤ rm.cells ∧ sl + ms ≤ rm.slots) (hd : decode cc pc = .ok (.invokestatic index, 3)) (kk : ∀ (r : Int64) (u : S), post r u → J Γ D nL (cs + mc) (sl + ms) (wf u) (pc + 3) lv (.long r :: rest)) : J Γ D nL cs sl ws pc lv st := by
  obtain ⟨p, l, e, R, s, m, args, below, meth, c, A, Q⟩ := Γ
  obtain ⟨rfl, rfl, hx, hb, hml, hown, hts, hK, hA, hlk⟩ := hC
  intro H locs ls hP hD hS hl
  subst hst
  have hF := jA_free hD hS hA
  exact va_calll (va_runSN ⟨hx, hb, hml, hown, hts⟩ (hM H.size) ⟨va_cnB n hts hG hwy hrc hrs (hK.2.1 _ hnw) (hts _ hws1) hd0 hR, hts _ hws2, trivial⟩ ⟨jPre_blind, jPre_in hK hP hD⟩ rfl hn hl.1 rfl (lv_room hlo) hd hcc) hS (fun q _ h => hF q h) hF (fun r u t H1 locs ht hvm hw hB hz1 hk1 hS => kk r u hw H1 locs ls (ht ▸ hB.1) (hB.2.weaken (fun _ q _ h => hF _ h)) hS hl)
theorem j_callVO_l (hC : jC Γ l0 rm D nL own cc Ts tys) {S : Type} {wf : S → va_W} {post : Int64 → S → Prop} {y : MethodName} {wy wy' : List Cond} {ry : Room} {mc ms maxL index : Nat} {bytes : ByteArray} {rt : Option FieldType} {As rest : List Value} {b q0 ci : Nat} {fs : List Value} (hM : jMl l0 y wy ry D tys (.ref b :: As) ws wf post mc ms) {C owner : String} {T : u_T} {N : Nat} {x : MethodName} {b0 : ByteArray} {m0 : Nat} {r0 : Option FieldType} (n : Nat) (hG : GoodIn Ts (va_wsO own index C owner x y wy)) (hwy : wy = Cond.code y bytes maxL rt :: wy') (hrc : ry.cells = mc) (hrs : ry.slots = ms) (hR : ry.frames + 1 ≤ rm.frames ∧ 8 + (maxL + 11) + ry.locals ≤ rm.locals) (h0 : Cond.code ⟨owner, x.name, x.desc⟩ b0 m0 r0 ∈ Ts) (hd0 : owner ≠ "java/lang/invoke/MethodHandle" ∧ owner ≠ "java/lang/invoke/VarHandle" ∧ (parseMethodDescriptor x.desc).map (fun d => d.parameters.length) = some n) (hn : As.length = n) (he : ws[q0]? = some (b, .inr (ci, fs))) (hc : vwCl[ci]? = some (C, T, N)) (hst : st = As.reverse ++ .ref b :: rest) (hlo : (rest.map fun v => v.category).sum ≤ 8) (hcc : cs + mc ≤ rm.cells ∧ sl + ms ≤ rm.slots) (hd : decode cc pc = .ok (.invokevirtual index, 3)) (kk : ∀ (r : Int64) (u : S), post r u → J Γ D nL (cs + mc) (sl + ms) (wf u) (pc + 3) lv (.long r :: rest)) : J Γ D nL cs sl ws pc lv st := by
  obtain ⟨p, l, e, R, s, m, args, below, meth, c, A, Q⟩ := Γ
  obtain ⟨rfl, rfl, hx, hb, hml, hown, hts, hK, hA, hlk⟩ := hC
  intro H locs ls hP hD hS hl
  subst hst
  have hF := jA_free hD hS hA
  exact va_calll (va_runU ⟨hx, hb, hml, hown, hts⟩ (hM H.size) (va_cwO n hts hG hwy hrc hrs h0 hd0 hR) ⟨jPre_blind, va_recv hK.1 hP hc he, jPre_in hK hP hD⟩ rfl hn hl.1 rfl (lv_room hlo) hd hcc) hS (fun q _ h => hF q h) hF (fun r u t H1 locs ht hvm hw hB hz1 hk1 hS => kk r u hw H1 locs ls (ht ▸ hB.1) (hB.2.weaken (fun _ q _ h => hF _ h)) hS hl)
theorem j_callSU_l (hC : jC Γ l0 rm D nL own cc Ts tys) {S : Type} {wf : S → va_W} {post : Int64 → S → Prop} {y : MethodName} {wy wy' : List Cond} {ry : Room} {mc ms maxL index : Nat} {bytes : ByteArray} {rt : Option FieldType} {As rest : List Value} {b q0 ci : Nat} {fs : List Value} (hM : jMl l0 y wy ry D tys (.ref b :: As) ws wf post mc ms) {C : String} {T : u_T} {N : Nat} (n : Nat) (hG : GoodIn Ts (va_wsSU own index y wy)) (hwy : wy = Cond.code y bytes maxL rt :: wy') (hrc : ry.cells = mc) (hrs : ry.slots = ms) (hR : ry.frames + 1 ≤ rm.frames ∧ 8 + (maxL + 11) + ry.locals ≤ rm.locals) (hd0 : y.name ≠ "<init>" ∧ (parseMethodDescriptor y.desc).map (fun d => d.parameters.length) = some n) (hn : As.length = n) (he : ws[q0]? = some (b, .inr (ci, fs))) (hc : vwCl[ci]? = some (C, T, N)) (hst : st = As.reverse ++ .ref b :: rest) (hlo : (rest.map fun v => v.category).sum ≤ 8) (hcc : cs + mc ≤ rm.cells ∧ sl + ms ≤ rm.slots) (hd : decode cc pc = .ok (.invokespecial index, 3)) (kk : ∀ (r : Int64) (u : S), post r u → J Γ D nL (cs + mc) (sl + ms) (wf u) (pc + 3) lv (.long r :: rest)) : J Γ D nL cs sl ws pc lv st := by
  obtain ⟨p, l, e, R, s, m, args, below, meth, c, A, Q⟩ := Γ
  obtain ⟨rfl, rfl, hx, hb, hml, hown, hts, hK, hA, hlk⟩ := hC
  intro H locs ls hP hD hS hl
  subst hst
  have hF := jA_free hD hS hA
  exact va_calll (va_runSU (hK.1.1 ci _ hc).2 ⟨hx, hb, hml, hown, hts⟩ (hM H.size) (va_cwSU n hts hG hwy hrc hrs hd0 hR) ⟨jPre_blind, va_recv hK.1 hP hc he, jPre_in hK hP hD⟩ rfl hn hl.1 rfl (lv_room hlo) hd hcc) hS (fun q _ h => hF q h) hF (fun r u t H1 locs ht hvm hw hB hz1 hk1 hS => kk r u hw H1 locs ls (ht ▸ hB.1) (hB.2.weaken (fun _ q _ h => hF _ h)) hS hl)
theorem j_callV_v (hC : jC Γ l0 rm D nL own cc Ts tys) {S : Type} {wf : S → va_W} {post : S → Prop} {y : MethodName} {wy wy' : List Cond} {ry : Room} {mc ms maxL index : Nat} {bytes : ByteArray} {rt : Option FieldType} {As rest : List Value} {b q0 ci : Nat} {fs : List Value} (hM : jMv l0 y wy ry D tys (.ref b :: As) ws wf post mc ms) {C : String} {T : u_T} {N : Nat} (n : Nat) (hG : GoodIn Ts (wsV own index C y wy)) (hwy : wy = Cond.code y bytes maxL rt :: wy') (hrc : ry.cells = mc) (hrs : ry.slots = ms) (hR : ry.frames + 1 ≤ rm.frames ∧ 8 + (maxL + 11) + ry.locals ≤ rm.locals) (hd0 : y.cls = C ∧ y.cls ≠ "java/lang/invoke/MethodHandle" ∧ y.cls ≠ "java/lang/invoke/VarHandle" ∧ (parseMethodDescriptor y.desc).map (fun d => d.parameters.length) = some n) (hn : As.length = n) (he : ws[q0]? = some (b, .inr (ci, fs))) (hc : vwCl[ci]? = some (C, T, N)) (hst : st = As.reverse ++ .ref b :: rest) (hlo : (rest.map fun v => v.category).sum ≤ 8) (hcc : cs + mc ≤ rm.cells ∧ sl + ms ≤ rm.slots) (hd : decode cc pc = .ok (.invokevirtual index, 3)) (kk : ∀ (u : S), post u → J Γ D nL (cs + mc) (sl + ms) (wf u) (pc + 3) lv (rest)) : J Γ D nL cs sl ws pc lv st := by
  obtain ⟨p, l, e, R, s, m, args, below, meth, c, A, Q⟩ := Γ
  obtain ⟨rfl, rfl, hx, hb, hml, hown, hts, hK, hA, hlk⟩ := hC
  intro H locs ls hP hD hS hl
  subst hst
  have hF := jA_free hD hS hA
  exact va_callv (va_runV ⟨hx, hb, hml, hown, hts⟩ (hM H.size) (cwV n hts hG hwy hrc hrs hd0 hR) ⟨jPre_blind, va_recv hK.1 hP hc he, jPre_in hK hP hD⟩ rfl hn hl.1 rfl (lv_room hlo) hd hcc) hS (fun q _ h => hF q h) hF (fun u t H1 locs ht hvm hw hB hz1 hk1 hS => kk u hw H1 locs ls (ht ▸ hB.1) (hB.2.weaken (fun _ q _ h => hF _ h)) hS hl)
theorem j_callS_v (hC : jC Γ l0 rm D nL own cc Ts tys) {S : Type} {wf : S → va_W} {post : S → Prop} {y : MethodName} {wy wy' : List Cond} {ry : Room} {mc ms maxL index : Nat} {bytes : ByteArray} {rt : Option FieldType} {As rest : List Value} (hM : jMv l0 y wy ry D tys As ws wf post mc ms) (n : Nat) (hG : GoodIn Ts (va_wsS own index y wy)) (hwy : wy = Cond.code y bytes maxL rt :: wy') (hrc : ry.cells = mc) (hrs : ry.slots = ms) (hR : ry.frames + 1 ≤ rm.frames ∧ 8 + (maxL + 11) + ry.locals ≤ rm.locals) (hd0 : y.cls ≠ "java/lang/invoke/MethodHandle" ∧ y.cls ≠ "java/lang/invoke/VarHandle" ∧ (parseMethodDescriptor y.desc).map (fun d => d.parameters.length) = some n) (hn : As.length = n) (hst : st = As.reverse ++ rest) (hlo : (rest.map fun v => v.category).sum ≤ 8) (hcc : cs + mc ≤ rm.cells ∧ sl + ms ≤ rm.slots) (hd : decode cc pc = .ok (.invokestatic index, 3)) (kk : ∀ (u : S), post u → J Γ D nL (cs + mc) (sl + ms) (wf u) (pc + 3) lv (rest)) : J Γ D nL cs sl ws pc lv st := by
  obtain ⟨p, l, e, R, s, m, args, below, meth, c, A, Q⟩ := Γ
  obtain ⟨rfl, rfl, hx, hb, hml, hown, hts, hK, hA, hlk⟩ := hC
  intro H locs ls hP hD hS hl
  subst hst
  have hF := jA_free hD hS hA
  exact va_callv (va_runS ⟨hx, hb, hml, hown, hts⟩ (hM H.size) (va_cwS n hts hG hwy hrc hrs hd0 hR) ⟨jPre_blind, jPre_in hK hP hD⟩ rfl hn hl.1 rfl (lv_room hlo) hd hcc) hS (fun q _ h => hF q h) hF (fun u t H1 locs ht hvm hw hB hz1 hk1 hS => kk u hw H1 locs ls (ht ▸ hB.1) (hB.2.weaken (fun _ q _ h => hF _ h)) hS hl)
theorem j_callSN_v (hC : jC Γ l0 rm D nL own cc Ts tys) {S : Type} {wf : S → va_W} {post : S → Prop} {y : MethodName} {wy wy' : List Cond} {ry : Room} {mc ms maxL index : Nat} {bytes : ByteArray} {rt : Option FieldType} {As rest : List Value} (hM : jMv l0 y wy ry D tys As ws wf post mc ms) {host : String} (n : Nat) (hG : GoodIn Ts wy) (hwy : wy = Cond.code y bytes maxL rt :: wy') (hrc : ry.cells = mc) (hrs : ry.slots = ms) (hR : ry.frames + 1 ≤ rm.frames ∧ 8 + (maxL + 11) + ry.locals ≤ rm.locals) (hnw : Cond.methodLinkNest own index y host ∈ jNw) (hws1 : Cond.initialized y.cls ∈ Ts) (hws2 : Cond.static y ∈ Ts) (hd0 : y.cls ≠ "java/lang/invoke/MethodHandle" ∧ y.cls ≠ "java/lang/invoke/VarHandle" ∧ (parseMethodDescriptor y.desc).map (fun d => d.parameters.length) = some n) (hn : As.length = n) (hst : st = As.reverse ++ rest) (hlo : (rest.map fun v => v.category).sum ≤ 8) (hcc : cs + mc ≤ rm.cells ∧ sl + ms ≤ rm.slots) (hd : decode cc pc = .ok (.invokestatic index, 3)) (kk : ∀ (u : S), post u → J Γ D nL (cs + mc) (sl + ms) (wf u) (pc + 3) lv (rest)) : J Γ D nL cs sl ws pc lv st := by
  obtain ⟨p, l, e, R, s, m, args, below, meth, c, A, Q⟩ := Γ
  obtain ⟨rfl, rfl, hx, hb, hml, hown, hts, hK, hA, hlk⟩ := hC
  intro H locs ls hP hD hS hl
  subst hst
  have hF := jA_free hD hS hA
  exact va_callv (va_runSN ⟨hx, hb, hml, hown, hts⟩ (hM H.size) ⟨va_cnB n hts hG hwy hrc hrs (hK.2.1 _ hnw) (hts _ hws1) hd0 hR, hts _ hws2, trivial⟩ ⟨jPre_blind, jPre_in hK hP hD⟩ rfl hn hl.1 rfl (lv_room hlo) hd hcc) hS (fun q _ h => hF q h) hF (fun u t H1 locs ht hvm hw hB hz1 hk1 hS => kk u hw H1 locs ls (ht ▸ hB.1) (hB.2.weaken (fun _ q _ h => hF _ h)) hS hl)
theorem j_callVO_v (hC : jC Γ l0 rm D nL own cc Ts tys) {S : Type} {wf : S → va_W} {post : S → Prop} {y : MethodName} {wy wy' : List Cond} {ry : Room} {mc ms maxL index : Nat} {bytes : ByteArray} {rt : Option FieldType} {As rest : List Value} {b q0 ci : Nat} {fs : List Value} (hM : jMv l0 y wy ry D tys (.ref b :: As) ws wf post mc ms) {C owner : String} {T : u_T} {N : Nat} {x : MethodName} {b0 : ByteArray} {m0 : Nat} {r0 : Option FieldType} (n : Nat) (hG : GoodIn Ts (va_wsO own index C owner x y wy)) (hwy : wy = Cond.code y bytes maxL rt :: wy') (hrc : ry.cells = mc) (hrs : ry.slots = ms) (hR : ry.frames + 1 ≤ rm.frames ∧ 8 + (maxL + 11) + ry.locals ≤ rm.locals) (h0 : Cond.code ⟨owner, x.name, x.desc⟩ b0 m0 r0 ∈ Ts) (hd0 : owner ≠ "java/lang/invoke/MethodHandle" ∧ owner ≠ "java/lang/invoke/VarHandle" ∧ (parseMethodDescriptor x.desc).map (fun d => d.parameters.length) = some n) (hn : As.length = n) (he : ws[q0]? = some (b, .inr (ci, fs))) (hc : vwCl[ci]? = some (C, T, N)) (hst : st = As.reverse ++ .ref b :: rest) (hlo : (rest.map fun v => v.category).sum ≤ 8) (hcc : cs + mc ≤ rm.cells ∧ sl + ms ≤ rm.slots) (hd : decode cc pc = .ok (.invokevirtual index, 3)) (kk : ∀ (u : S), post u → J Γ D nL (cs + mc) (sl + ms) (wf u) (pc + 3) lv (rest)) : J Γ D nL cs sl ws pc lv st := by
  obtain ⟨p, l, e, R, s, m, args, below, meth, c, A, Q⟩ := Γ
  obtain ⟨rfl, rfl, hx, hb, hml, hown, hts, hK, hA, hlk⟩ := hC
  intro H locs ls hP hD hS hl
  subst hst
  have hF := jA_free hD hS hA
  exact va_callv (va_runU ⟨hx, hb, hml, hown, hts⟩ (hM H.size) (va_cwO n hts hG hwy hrc hrs h0 hd0 hR) ⟨jPre_blind, va_recv hK.1 hP hc he, jPre_in hK hP hD⟩ rfl hn hl.1 rfl (lv_room hlo) hd hcc) hS (fun q _ h => hF q h) hF (fun u t H1 locs ht hvm hw hB hz1 hk1 hS => kk u hw H1 locs ls (ht ▸ hB.1) (hB.2.weaken (fun _ q _ h => hF _ h)) hS hl)
theorem j_callSU_v (hC : jC Γ l0 rm D nL own cc Ts tys) {S : Type} {wf : S → va_W} {post : S → Prop} {y : MethodName} {wy wy' : List Cond} {ry : Room} {mc ms maxL index : Nat} {bytes : ByteArray} {rt : Option FieldType} {As rest : List Value} {b q0 ci : Nat} {fs : List Value} (hM : jMv l0 y wy ry D tys (.ref b :: As) ws wf post mc ms) {C : String} {T : u_T} {N : Nat} (n : Nat) (hG : GoodIn Ts (va_wsSU own index y wy)) (hwy : wy = Cond.code y bytes maxL rt :: wy') (hrc : ry.cells = mc) (hrs : ry.slots = ms) (hR : ry.frames + 1 ≤ rm.frames ∧ 8 + (maxL + 11) + ry.locals ≤ rm.locals) (hd0 : y.name ≠ "<init>" ∧ (parseMethodDescriptor y.desc).map (fun d => d.parameters.length) = some n) (hn : As.length = n) (he : ws[q0]? = some (b, .inr (ci, fs))) (hc : vwCl[ci]? = some (C, T, N)) (hst : st = As.reverse ++ .ref b :: rest) (hlo : (rest.map fun v => v.category).sum ≤ 8) (hcc : cs + mc ≤ rm.cells ∧ sl + ms ≤ rm.slots) (hd : decode cc pc = .ok (.invokespecial index, 3)) (kk : ∀ (u : S), post u → J Γ D nL (cs + mc) (sl + ms) (wf u) (pc + 3) lv (rest)) : J Γ D nL cs sl ws pc lv st := by
  obtain ⟨p, l, e, R, s, m, args, below, meth, c, A, Q⟩ := Γ
  obtain ⟨rfl, rfl, hx, hb, hml, hown, hts, hK, hA, hlk⟩ := hC
  intro H locs ls hP hD hS hl
  subst hst
  have hF := jA_free hD hS hA
  exact va_callv (va_runSU (hK.1.1 ci _ hc).2 ⟨hx, hb, hml, hown, hts⟩ (hM H.size) (va_cwSU n hts hG hwy hrc hrs hd0 hR) ⟨jPre_blind, va_recv hK.1 hP hc he, jPre_in hK hP hD⟩ rfl hn hl.1 rfl (lv_room hlo) hd hcc) hS (fun q _ h => hF q h) hF (fun u t H1 locs ht hvm hw hB hz1 hk1 hS => kk u hw H1 locs ls (ht ▸ hB.1) (hB.2.weaken (fun _ q _ h => hF _ h)) hS hl)
theorem j_callI_v (hC : jC Γ l0 rm D nL own cc Ts tys) {S : Type} {wf : S → va_W} {post : S → Prop} {y : MethodName} {wy wy' : List Cond} {ry : Room} {mc ms maxL index : Nat} {bytes : ByteArray} {As rest : List Value} {b : Nat} (hM : jMv l0 y wy ry D tys (.ref b :: As) ws wf post mc ms) (n : Nat) (hG : GoodIn Ts wy) (hwy : wy = Cond.code y bytes maxL none :: wy') (hrc : ry.cells = mc) (hrs : ry.slots = ms) (hR : ry.frames + 1 ≤ rm.frames ∧ 8 + (maxL + 11) + ry.locals ≤ rm.locals) (hws1 : Cond.initialized y.cls ∈ Ts) (hws2 : Cond.methodLink own index y ∈ Ts) (hws3 : Cond.instanceMethod y ∈ Ts) (hnm : y.name = "<init>") (hd0 : y.cls ≠ "java/lang/invoke/MethodHandle" ∧ y.cls ≠ "java/lang/invoke/VarHandle" ∧ (parseMethodDescriptor y.desc).map (fun d => d.parameters.length) = some n) (hn : As.length = n) (hst : st = As.reverse ++ .ref b :: rest) (hlo : (rest.map fun v => v.category).sum ≤ 8) (hcc : cs + mc ≤ rm.cells ∧ sl + ms ≤ rm.slots) (hd : decode cc pc = .ok (.invokespecial index, 3)) (kk : ∀ (u : S), post u → J Γ D nL (cs + mc) (sl + ms) (wf u) (pc + 3) lv (rest)) : J Γ D nL cs sl ws pc lv st := by
  obtain ⟨p, l, e, R, s, m, args, below, meth, c, A, Q⟩ := Γ
  obtain ⟨rfl, rfl, hx, hb, hml, hown, hts, hK, hA, hlk⟩ := hC
  intro H locs ls hP hD hS hl
  subst hst
  have hF := jA_free hD hS hA
  exact va_callv (va_runI ⟨hx, hb, hml, hown, hts⟩ (hM H.size) (cwI n hts hG hwy hrc hrs (hts _ hws1) (hts _ hws2) (hts _ hws3) hnm hd0 hR) ⟨jPre_blind, jPre_in hK hP hD⟩ rfl hn hl.1 rfl (lv_room hlo) hd hcc) hS (fun q _ h => hF q h) hF (fun u t H1 locs ht hvm hw hB hz1 hk1 hS => kk u hw H1 locs ls (ht ▸ hB.1) (hB.2.weaken (fun _ q _ h => hF _ h)) hS hl)
theorem j_callIN_v (hC : jC Γ l0 rm D nL own cc Ts tys) {S : Type} {wf : S → va_W} {post : S → Prop} {y : MethodName} {wy wy' : List Cond} {ry : Room} {mc ms maxL index : Nat} {bytes : ByteArray} {As rest : List Value} {b : Nat} (hM : jMv l0 y wy ry D tys (.ref b :: As) ws wf post mc ms) {host : String} (n : Nat) (hG : GoodIn Ts wy) (hwy : wy = Cond.code y bytes maxL none :: wy') (hrc : ry.cells = mc) (hrs : ry.slots = ms) (hR : ry.frames + 1 ≤ rm.frames ∧ 8 + (maxL + 11) + ry.locals ≤ rm.locals) (hnw : Cond.methodLinkNest own index y host ∈ jNw) (hws1 : Cond.initialized y.cls ∈ Ts) (hws3 : Cond.instanceMethod y ∈ Ts) (hnm : y.name = "<init>") (hd0 : y.cls ≠ "java/lang/invoke/MethodHandle" ∧ y.cls ≠ "java/lang/invoke/VarHandle" ∧ (parseMethodDescriptor y.desc).map (fun d => d.parameters.length) = some n) (hn : As.length = n) (hst : st = As.reverse ++ .ref b :: rest) (hlo : (rest.map fun v => v.category).sum ≤ 8) (hcc : cs + mc ≤ rm.cells ∧ sl + ms ≤ rm.slots) (hd : decode cc pc = .ok (.invokespecial index, 3)) (kk : ∀ (u : S), post u → J Γ D nL (cs + mc) (sl + ms) (wf u) (pc + 3) lv (rest)) : J Γ D nL cs sl ws pc lv st := by
  obtain ⟨p, l, e, R, s, m, args, below, meth, c, A, Q⟩ := Γ
  obtain ⟨rfl, rfl, hx, hb, hml, hown, hts, hK, hA, hlk⟩ := hC
  intro H locs ls hP hD hS hl
  subst hst
  have hF := jA_free hD hS hA
  exact va_callv (va_runIN ⟨hx, hb, hml, hown, hts⟩ (hM H.size) ⟨va_cnB n hts hG hwy hrc hrs (hK.2.1 _ hnw) (hts _ hws1) hd0 hR, hnm, hts _ hws3⟩ ⟨jPre_blind, jPre_in hK hP hD⟩ rfl hn hl.1 rfl (lv_room hlo) hd hcc) hS (fun q _ h => hF q h) hF (fun u t H1 locs ht hvm hw hB hz1 hk1 hS => kk u hw H1 locs ls (ht ▸ hB.1) (hB.2.weaken (fun _ q _ h => hF _ h)) hS hl)
theorem j_callV_q (hC : jC Γ l0 rm D nL own cc Ts tys) {S : Type} {wf : S → va_W} {post : Option Nat → S → Prop} {y : MethodName} {wy wy' : List Cond} {ry : Room} {mc ms maxL index : Nat} {bytes : ByteArray} {rt : Option FieldType} {As rest : List Value} {b q0 ci : Nat} {fs : List Value} (hM : jMq l0 y wy ry D tys (.ref b :: As) ws wf post mc ms) {C : String} {T : u_T} {N : Nat} (n : Nat) (hG : GoodIn Ts (wsV own index C y wy)) (hwy : wy = Cond.code y bytes maxL rt :: wy') (hrc : ry.cells = mc) (hrs : ry.slots = ms) (hR : ry.frames + 1 ≤ rm.frames ∧ 8 + (maxL + 11) + ry.locals ≤ rm.locals) (hd0 : y.cls = C ∧ y.cls ≠ "java/lang/invoke/MethodHandle" ∧ y.cls ≠ "java/lang/invoke/VarHandle" ∧ (parseMethodDescriptor y.desc).map (fun d => d.parameters.length) = some n) (hn : As.length = n) (he : ws[q0]? = some (b, .inr (ci, fs))) (hc : vwCl[ci]? = some (C, T, N)) (hst : st = As.reverse ++ .ref b :: rest) (hlo : (rest.map fun v => v.category).sum ≤ 8) (hcc : cs + mc ≤ rm.cells ∧ sl + ms ≤ rm.slots) (hd : decode cc pc = .ok (.invokevirtual index, 3)) (kk : ∀ (r : Option Nat) (u : S), post r u → J Γ D nL (cs + mc) (sl + ms) (wf u) (pc + 3) lv (va_rf r :: rest)) : J Γ D nL cs sl ws pc lv st := by
  obtain ⟨p, l, e, R, s, m, args, below, meth, c, A, Q⟩ := Γ
  obtain ⟨rfl, rfl, hx, hb, hml, hown, hts, hK, hA, hlk⟩ := hC
  intro H locs ls hP hD hS hl
  subst hst
  have hF := jA_free hD hS hA
  exact va_callq (va_runV ⟨hx, hb, hml, hown, hts⟩ (hM H.size) (cwV n hts hG hwy hrc hrs hd0 hR) ⟨jPre_blind, va_recv hK.1 hP hc he, jPre_in hK hP hD⟩ rfl hn hl.1 rfl (lv_room hlo) hd hcc) hS (fun q _ h => hF q h) hF (fun r u t H1 locs ht hvm hw hB hz1 hk1 hS => kk r u hw H1 locs ls (ht ▸ hB.1) (hB.2.weaken (fun _ q _ h => hF _ h)) hS hl)
theorem j_callS_q (hC : jC Γ l0 rm D nL own cc Ts tys) {S : Type} {wf : S → va_W} {post : Option Nat → S → Prop} {y : MethodName} {wy wy' : List Cond} {ry : Room} {mc ms maxL index : Nat} {bytes : ByteArray} {rt : Option FieldType} {As rest : List Value} (hM : jMq l0 y wy ry D tys As ws wf post mc ms) (n : Nat) (hG : GoodIn Ts (va_wsS own index y wy)) (hwy : wy = Cond.code y bytes maxL rt :: wy') (hrc : ry.cells = mc) (hrs : ry.slots = ms) (hR : ry.frames + 1 ≤ rm.frames ∧ 8 + (maxL + 11) + ry.locals ≤ rm.locals) (hd0 : y.cls ≠ "java/lang/invoke/MethodHandle" ∧ y.cls ≠ "java/lang/invoke/VarHandle" ∧ (parseMethodDescriptor y.desc).map (fun d => d.parameters.length) = some n) (hn : As.length = n) (hst : st = As.reverse ++ rest) (hlo : (rest.map fun v => v.category).sum ≤ 8) (hcc : cs + mc ≤ rm.cells ∧ sl + ms ≤ rm.slots) (hd : decode cc pc = .ok (.invokestatic index, 3)) (kk : ∀ (r : Option Nat) (u : S), post r u → J Γ D nL (cs + mc) (sl + ms) (wf u) (pc + 3) lv (va_rf r :: rest)) : J Γ D nL cs sl ws pc lv st := by
  obtain ⟨p, l, e, R, s, m, args, below, meth, c, A, Q⟩ := Γ
  obtain ⟨rfl, rfl, hx, hb, hml, hown, hts, hK, hA, hlk⟩ := hC
  intro H locs ls hP hD hS hl
  subst hst
  have hF := jA_free hD hS hA
  exact va_callq (va_runS ⟨hx, hb, hml, hown, hts⟩ (hM H.size) (va_cwS n hts hG hwy hrc hrs hd0 hR) ⟨jPre_blind, jPre_in hK hP hD⟩ rfl hn hl.1 rfl (lv_room hlo) hd hcc) hS (fun q _ h => hF q h) hF (fun r u t H1 locs ht hvm hw hB hz1 hk1 hS => kk r u hw H1 locs ls (ht ▸ hB.1) (hB.2.weaken (fun _ q _ h => hF _ h)) hS hl)
theorem j_callSN_q (hC : jC Γ l0 rm D nL own cc Ts tys) {S : Type} {wf : S → va_W} {post : Option Nat → S → Prop} {y : MethodName} {wy wy' : List Cond} {ry : Room} {mc ms maxL index : Nat} {bytes : ByteArray} {rt : Option FieldType} {As rest : List Value} (hM : jMq l0 y wy ry D tys As ws wf post mc ms) {host : String} (n : Nat) (hG : GoodIn Ts wy) (hwy : wy = Cond.code y bytes maxL rt :: wy') (hrc : ry.cells = mc) (hrs : ry.slots = ms) (hR : ry.frames + 1 ≤ rm.frames ∧ 8 + (maxL + 11) + ry.locals ≤ rm.locals) (hnw : Cond.methodLinkNest own index y host ∈ jNw) (hws1 : Cond.initialized y.cls ∈ Ts) (hws2 : Cond.static y ∈ Ts) (hd0 : y.cls ≠ "java/lang/invoke/MethodHandle" ∧ y.cls ≠ "java/lang/invoke/VarHandle" ∧ (parseMethodDescriptor y.desc).map (fun d => d.parameters.length) = some n) (hn : As.length = n) (hst : st = As.reverse ++ rest) (hlo : (rest.map fun v => v.category).sum ≤ 8) (hcc : cs + mc ≤ rm.cells ∧ sl + ms ≤ rm.slots) (hd : decode cc pc = .ok (.invokestatic index, 3)) (kk : ∀ (r : Option Nat) (u : S), post r u → J Γ D nL (cs + mc) (sl + ms) (wf u) (pc + 3) lv (va_rf r :: rest)) : J Γ D nL cs sl ws pc lv st := by
  obtain ⟨p, l, e, R, s, m, args, below, meth, c, A, Q⟩ := Γ
  obtain ⟨rfl, rfl, hx, hb, hml, hown, hts, hK, hA, hlk⟩ := hC
  intro H locs ls hP hD hS hl
  subst hst
  have hF := jA_free hD hS hA
  exact va_callq (va_runSN ⟨hx, hb, hml, hown, hts⟩ (hM H.size) ⟨va_cnB n hts hG hwy hrc hrs (hK.2.1 _ hnw) (hts _ hws1) hd0 hR, hts _ hws2, trivial⟩ ⟨jPre_blind, jPre_in hK hP hD⟩ rfl hn hl.1 rfl (lv_room hlo) hd hcc) hS (fun q _ h => hF q h) hF (fun r u t H1 locs ht hvm hw hB hz1 hk1 hS => kk r u hw H1 locs ls (ht ▸ hB.1) (hB.2.weaken (fun _ q _ h => hF _ h)) hS hl)
theorem j_callVO_q (hC : jC Γ l0 rm D nL own cc Ts tys) {S : Type} {wf : S → va_W} {post : Option Nat → S → Prop} {y : MethodName} {wy wy' : List Cond} {ry : Room} {mc ms maxL index : Nat} {bytes : ByteArray} {rt : Option FieldType} {As rest : List Value} {b q0 ci : Nat} {fs : List Value} (hM : jMq l0 y wy ry D tys (.ref b :: As) ws wf post mc ms) {C owner : String} {T : u_T} {N : Nat} {x : MethodName} {b0 : ByteArray} {m0 : Nat} {r0 : Option FieldType} (n : Nat) (hG : GoodIn Ts (va_wsO own index C owner x y wy)) (hwy : wy = Cond.code y bytes maxL rt :: wy') (hrc : ry.cells = mc) (hrs : ry.slots = ms) (hR : ry.frames + 1 ≤ rm.frames ∧ 8 + (maxL + 11) + ry.locals ≤ rm.locals) (h0 : Cond.code ⟨owner, x.name, x.desc⟩ b0 m0 r0 ∈ Ts) (hd0 : owner ≠ "java/lang/invoke/MethodHandle" ∧ owner ≠ "java/lang/invoke/VarHandle" ∧ (parseMethodDescriptor x.desc).map (fun d => d.parameters.length) = some n) (hn : As.length = n) (he : ws[q0]? = some (b, .inr (ci, fs))) (hc : vwCl[ci]? = some (C, T, N)) (hst : st = As.reverse ++ .ref b :: rest) (hlo : (rest.map fun v => v.category).sum ≤ 8) (hcc : cs + mc ≤ rm.cells ∧ sl + ms ≤ rm.slots) (hd : decode cc pc = .ok (.invokevirtual index, 3)) (kk : ∀ (r : Option Nat) (u : S), post r u → J Γ D nL (cs + mc) (sl + ms) (wf u) (pc + 3) lv (va_rf r :: rest)) : J Γ D nL cs sl ws pc lv st := by
  obtain ⟨p, l, e, R, s, m, args, below, meth, c, A, Q⟩ := Γ
  obtain ⟨rfl, rfl, hx, hb, hml, hown, hts, hK, hA, hlk⟩ := hC
  intro H locs ls hP hD hS hl
  subst hst
  have hF := jA_free hD hS hA
  exact va_callq (va_runU ⟨hx, hb, hml, hown, hts⟩ (hM H.size) (va_cwO n hts hG hwy hrc hrs h0 hd0 hR) ⟨jPre_blind, va_recv hK.1 hP hc he, jPre_in hK hP hD⟩ rfl hn hl.1 rfl (lv_room hlo) hd hcc) hS (fun q _ h => hF q h) hF (fun r u t H1 locs ht hvm hw hB hz1 hk1 hS => kk r u hw H1 locs ls (ht ▸ hB.1) (hB.2.weaken (fun _ q _ h => hF _ h)) hS hl)
theorem j_callSU_q (hC : jC Γ l0 rm D nL own cc Ts tys) {S : Type} {wf : S → va_W} {post : Option Nat → S → Prop} {y : MethodName} {wy wy' : List Cond} {ry : Room} {mc ms maxL index : Nat} {bytes : ByteArray} {rt : Option FieldType} {As rest : List Value} {b q0 ci : Nat} {fs : List Value} (hM : jMq l0 y wy ry D tys (.ref b :: As) ws wf post mc ms) {C : String} {T : u_T} {N : Nat} (n : Nat) (hG : GoodIn Ts (va_wsSU own index y wy)) (hwy : wy = Cond.code y bytes maxL rt :: wy') (hrc : ry.cells = mc) (hrs : ry.slots = ms) (hR : ry.frames + 1 ≤ rm.frames ∧ 8 + (maxL + 11) + ry.locals ≤ rm.locals) (hd0 : y.name ≠ "<init>" ∧ (parseMethodDescriptor y.desc).map (fun d => d.parameters.length) = some n) (hn : As.length = n) (he : ws[q0]? = some (b, .inr (ci, fs))) (hc : vwCl[ci]? = some (C, T, N)) (hst : st = As.reverse ++ .ref b :: rest) (hlo : (rest.map fun v => v.category).sum ≤ 8) (hcc : cs + mc ≤ rm.cells ∧ sl + ms ≤ rm.slots) (hd : decode cc pc = .ok (.invokespecial index, 3)) (kk : ∀ (r : Option Nat) (u : S), post r u → J Γ D nL (cs + mc) (sl + ms) (wf u) (pc + 3) lv (va_rf r :: rest)) : J Γ D nL cs sl ws pc lv st := by
  obtain ⟨p, l, e, R, s, m, args, below, meth, c, A, Q⟩ := Γ
  obtain ⟨rfl, rfl, hx, hb, hml, hown, hts, hK, hA, hlk⟩ := hC
  intro H locs ls hP hD hS hl
  subst hst
  have hF := jA_free hD hS hA
  exact va_callq (va_runSU (hK.1.1 ci _ hc).2 ⟨hx, hb, hml, hown, hts⟩ (hM H.size) (va_cwSU n hts hG hwy hrc hrs hd0 hR) ⟨jPre_blind, va_recv hK.1 hP hc he, jPre_in hK hP hD⟩ rfl hn hl.1 rfl (lv_room hlo) hd hcc) hS (fun q _ h => hF q h) hF (fun r u t H1 locs ht hvm hw hB hz1 hk1 hS => kk r u hw H1 locs ls (ht ▸ hB.1) (hB.2.weaken (fun _ q _ h => hF _ h)) hS hl)
end JR
