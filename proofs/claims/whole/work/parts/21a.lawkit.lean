/-! ===== the law: what holds at its entry, its end, its script ===== -/
def R_law : String := "SeaGatesLaw"
def lw_P (b : Addr) (xs : List Int32) (args : Array Value) (s : State) : Prop := args = #[.ref b] ∧ s.IntsAt b xs ∧ xs.length ≤ 3584 ∧ (Jvm.Cond.and given_1 narrow_1).before args s = true
def lw_Q (_ : Array Value) (s : State) (o : Outcome) (t : State) : Prop := o = .returned (some (.int 1)) ∧ Framed s o t [] 600000 7302250
def lw_Z (below : List Frame) (a : Array Value) (s : State) : State → Prop := fun t => ∃ o, t.status = .running ∧ Ended t below o ∧ lw_Q a s o t
/-- the law's own end, with 1 on the stack, nothing written that was there before, its room as the claim has it -/
theorem lw_ret {p : Program} {l : Launch} {e : Env} {s : State} {m : MethodId} {below : List Frame} {meth : Method} {c : Code} {b : Nat} (hx : p.tables.exec = Jvm.exec) (hb : c.code = code) (hr : meth.sig.returnType = ret) (hlocks : meth.locks = false) {pc : Nat} {H : Heap} {ls : Array Slot} (hdg : decode code pc = .ok (.ireturn, 1)) : W p l e room_1 s m #[Value.ref b] below meth c H [] 600000 7302250 (lw_Z below #[Value.ref b] s) (F0 m pc ls [.int 1]) := by
  intro T hT X
  obtain ⟨fs, hret, hrun, hended, hW, hframe⟩ := X.leave (v := some (.int 1)) (hlocks := hlocks) (fun h => by rw [hr] at h; cases h)
  have hmeth' : T.vm.method? m = some meth := X.method'
  refine ⟨T.setFrames fs, ?_, .returned (some (.int 1)), hrun, hended, rfl, ⟨_, rfl⟩, hW, hframe⟩
  jvm_step X.here [X.here.top, hx, hb, hdg, hmeth', hr, ret, narrow_b1]
  (try refine ⟨rfl, ?_⟩); (try refine ⟨rfl, ?_⟩)
  first | (intro acts; rw [hret _ acts rfl rfl rfl]) | rw [hret _ _ rfl rfl rfl]
  exact Steps.refl _
/-- what holds at the law's entry: the machine, the code, the tables' words (any of lw_tbl by 'hts w (by decide +kernel)'), the script of L ints xs at the cell b, what the Statement gives of the start (any of its parts by flat_of_before) -/
def lw_At (p : Program) (s : State) (m : MethodId) (meth : Method) (c : Code) (b L : Nat) (xs : Nat → Int32) : Prop :=
  p.tables.exec = Jvm.exec ∧ c.code = code ∧ meth.sig.returnType = ret ∧ c.maxLocals = 4 ∧ s.vm.findClass R_law = some m.cls ∧ (∀ w ∈ lw_tbl, w.before #[Value.ref b] s = true) ∧ va_X b L xs s s.heap ∧ b < s.heap.size ∧ meth.locks = false ∧ (Jvm.Cond.and given_1 narrow_1).before #[Value.ref b] s = true
/-- the law's own: its script at b, its end -/
def lX (Γ : jG) (b L : Nat) (xs : Nat → Int32) : Prop := match Γ with
  | (_, _, _, _, s, _, args, below, meth, _, A, Q) => va_X b L xs s s.heap ∧ b < s.heap.size ∧ ¬ A b ∧ (∀ q, A q → s.heap.size ≤ q) ∧ args = #[Value.ref b] ∧ Q = lw_Z below #[Value.ref b] s ∧ meth.sig.returnType = ret
section
variable {Γ : jG} {l0 : Launch} {rm : Room} {D : va_G} {nL cs sl : Nat} {own : String} {cc : ByteArray} {Ts : List Cond} {tys : List (ClassId × FieldType)} {ws : va_W} {pc : Nat} {lv : List (Nat × Value)} {st : List Value} {b L : Nat} {xs : Nat → Int32}
theorem j_sld (hC : jC Γ l0 rm D nL own cc Ts tys) (hX : lX Γ b L xs) {i : Int32} (hin : vp_in i L) (hd : decode cc pc = .ok (.iaload, 1)) (kk : J Γ D nL cs sl ws (pc + 1) lv (.int (xs i.toNatClampNeg) :: st)) : J Γ D nL cs sl ws pc lv (.int i :: .ref b :: st) := by
  obtain ⟨p, l, e, R, s, m, args, below, meth, c, A, Q⟩ := Γ
  obtain ⟨rfl, rfl, hx, hb, hml, hown, hts, hK, hA, hlk⟩ := hC
  obtain ⟨h1, h2, h3, -⟩ := hX
  intro H locs ls hP hD hS hl
  exact va_sld hx hb h1 h2 h3 hS hin hd (kk H locs ls hP hD hS hl)
theorem j_slen (hC : jC Γ l0 rm D nL own cc Ts tys) (hX : lX Γ b L xs) (hd : decode cc pc = .ok (.arraylength, 1)) (kk : J Γ D nL cs sl ws (pc + 1) lv (.int (nI L) :: st)) : J Γ D nL cs sl ws pc lv (.ref b :: st) := by
  obtain ⟨p, l, e, R, s, m, args, below, meth, c, A, Q⟩ := Γ
  obtain ⟨rfl, rfl, hx, hb, hml, hown, hts, hK, hA, hlk⟩ := hC
  obtain ⟨h1, h2, h3, -⟩ := hX
  intro H locs ls hP hD hS hl
  exact va_slen hx hb h1 h2 h3 hS hd (kk H locs ls hP hD hS hl)
theorem j_lwret (hC : jC Γ l0 room_1 D nL own code Ts tys) (hX : lX Γ b L xs) (hcs : cs ≤ 600000) (hsl : sl ≤ 7302250) (hd : decode code pc = .ok (.ireturn, 1)) : J Γ D nL cs sl ws pc lv [.int 1] := by
  obtain ⟨p, l, e, R, s, m, args, below, meth, c, A, Q⟩ := Γ
  obtain ⟨rfl, rfl, hx, hb, hml, hown, hts, hK, hA, hlk⟩ := hC
  obtain ⟨h1, h2, h3, h4, rfl, rfl, hr⟩ := hX
  intro H locs ls hP hD hS hl
  exact va_forget (fun q hq => h4 _ (hS.2.2 q hq)) (W.widen hcs hsl (lw_ret hx hb hr hlk hd))
end
/-- the seven places of a call -/
def lIn (i : Int32) (L : Nat) : Prop := vp_in i L ∧ vp_in (i + 1) L ∧ vp_in (i + 2) L ∧ vp_in (i + 3) L ∧ vp_in (i + 4) L ∧ vp_in (i + 5) L ∧ vp_in (i + 6) L
theorem lIn_nI {k L : Nat} (h : 7 * k + 7 ≤ L) (hL : L ≤ 3584) : lIn (nI (7 * k)) L :=
  ⟨vp_in_nI (by omega) (by omega), (show nI (7 * k) + 1 = nI (7 * k + 1) from nI_add _ 1) ▸ vp_in_nI (by omega) (by omega), (show nI (7 * k) + 2 = nI (7 * k + 2) from nI_add _ 2) ▸ vp_in_nI (by omega) (by omega), (show nI (7 * k) + 3 = nI (7 * k + 3) from nI_add _ 3) ▸ vp_in_nI (by omega) (by omega), (show nI (7 * k) + 4 = nI (7 * k + 4) from nI_add _ 4) ▸ vp_in_nI (by omega) (by omega), (show nI (7 * k) + 5 = nI (7 * k + 5) from nI_add _ 5) ▸ vp_in_nI (by omega) (by omega), (show nI (7 * k) + 6 = nI (7 * k + 6) from nI_add _ 6) ▸ vp_in_nI (by omega) (by omega)⟩
theorem lw_sub {L : Nat} (hL : L ≤ 3584) : (nI L - 7).toInt = (L : Int) - 7 := by
  rw [Int32.toInt_sub, nI_toInt (n := L) (by omega), show (7 : Int32).toInt = 7 by decide]
  exact Int.bmod_eq_of_le (by show -(4294967296 / 2) ≤ (L : Int) - 7; omega) (by show (L : Int) - 7 < (4294967296 + 1) / 2; omega)
theorem lw_end {k L : Nat} (hk : 7 * k ≤ 3584) (hL : L ≤ 3584) (h : ¬ nI L - 7 < nI (7 * k)) : 7 * k + 7 ≤ L := by
  rw [Int32.lt_iff_toInt_lt, lw_sub hL, nI_toInt (n := 7 * k) (by omega)] at h
  omega
theorem lw_and (x : Int32) : 0 ≤ (x &&& 31).toInt ∧ (x &&& 31).toInt < 32 := by
  have h : (x &&& 31).toBitVec = x.toBitVec &&& 31#32 := rfl
  have h1 : (x.toBitVec &&& 31#32).toNat ≤ 31 := by
    rw [BitVec.toNat_and]
    exact Nat.and_le_right
  have h2 : (x &&& 31).toInt = (x.toBitVec &&& 31#32).toInt := rfl
  rw [h2, BitVec.toInt_eq_toNat_cond, if_pos (by omega)]
  omega
