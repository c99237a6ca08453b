/-! ===== framed calls ===== -/
section
variable {Γ : jG} {l0 : Launch} {rm : Room} {D : va_G} {nL cs sl : Nat} {own : String} {cc : ByteArray} {Ts : List Cond} {tys : List (ClassId × FieldType)} {ws : va_W} {pc : Nat} {lv : List (Nat × Value)} {st : List Value}
theorem j_callVf_i {w1 fr : va_W} {tys1 : List (ClassId × FieldType)} (is : List Nat) (his : is.filterMap (fun i => tys[i]?) = tys1) (hC : jC Γ l0 rm D nL own cc Ts tys) {S : Type} {wf : S → va_W} {post : Int32 → S → Prop} {y : MethodName} {wy wy' : List Cond} {ry : Room} {mc ms maxL index : Nat} {bytes : ByteArray} {rt : Option FieldType} {As rest : List Value} {b q0 ci : Nat} {fs : List Value} (hM : jMi l0 y wy ry D tys1 (.ref b :: As) w1 wf post mc ms) {C : String} {T : u_T} {N : Nat} (n : Nat) (hG : GoodIn Ts (wsV own index C y wy)) (hwy : wy = Cond.code y bytes maxL rt :: wy') (hrc : ry.cells = mc) (hrs : ry.slots = ms) (hR : ry.frames + 1 ≤ rm.frames ∧ 8 + (maxL + 11) + ry.locals ≤ rm.locals) (hd0 : y.cls = C ∧ y.cls ≠ "java/lang/invoke/MethodHandle" ∧ y.cls ≠ "java/lang/invoke/VarHandle" ∧ (parseMethodDescriptor y.desc).map (fun d => d.parameters.length) = some n) (hn : As.length = n) (he : w1[q0]? = some (b, .inr (ci, fs))) (hc : vwCl[ci]? = some (C, T, N)) (hst : st = As.reverse ++ .ref b :: rest) (hlo : (rest.map fun v => v.category).sum ≤ 8) (hcc : cs + mc ≤ rm.cells ∧ sl + ms ≤ rm.slots) (hd : decode cc pc = .ok (.invokevirtual index, 3)) (kk : ∀ (r : Int32) (u : S), post r u → J Γ D nL (cs + mc) (sl + ms) (wf u ++ fr) (pc + 3) lv (.int r :: rest)) : J Γ D nL cs sl (w1 ++ fr) pc lv st := by
  obtain ⟨p, l, e, R, s, m, args, below, meth, c, A, Q⟩ := Γ
  obtain ⟨rfl, rfl, hx, hb, hml, hown, hts, hK, hA, hlk⟩ := hC
  intro H locs ls hP hD hS hl
  subst hst
  have hP1 := P_l hP
  have hD1 := D_l hD
  have hK1 : jK D tys1 s := ⟨hK.1.sub is his, hK.2⟩
  have hF := jA_free hD1 hS hA
  exact va_calli (va_runV ⟨hx, hb, hml, hown, hts⟩ (hM H.size) (cwV n hts hG hwy hrc hrs hd0 hR) ⟨jPre_blind, va_recv hK1.1 hP1 hc he, jPre_in hK1 hP1 hD1⟩ rfl hn hl.1 rfl (lv_room hlo) hd hcc) hS (fun q _ h => hF q h) hF (fun r u t H1 locs ht hvm hw hB hz1 hk1 hS => kk r u hw H1 locs ls (fr_P hP hD hk1 (ht ▸ hB.1)) (fr_D hP hD hF hB.2) hS hl)
theorem j_callVf_l {w1 fr : va_W} {tys1 : List (ClassId × FieldType)} (is : List Nat) (his : is.filterMap (fun i => tys[i]?) = tys1) (hC : jC Γ l0 rm D nL own cc Ts tys) {S : Type} {wf : S → va_W} {post : Int64 → S → Prop} {y : MethodName} {wy wy' : List Cond} {ry : Room} {mc ms maxL index : Nat} {bytes : ByteArray} {rt : Option FieldType} {As rest : List Value} {b q0 ci : Nat} {fs : List Value} (hM : jMl l0 y wy ry D tys1 (.ref b :: As) w1 wf post mc ms) {C : String} {T : u_T} {N : Nat} (n : Nat) (hG : GoodIn Ts (wsV own index C y wy)) (hwy : wy = Cond.code y bytes maxL rt :: wy') (hrc : ry.cells = mc) (hrs : ry.slots = ms) (hR : ry.frames + 1 ≤ rm.frames ∧ 8 + (maxL + 11) + ry.locals ≤ rm.locals) (hd0 : y.cls = C ∧ y.cls ≠ "java/lang/invoke/MethodHandle" ∧ y.cls ≠ "java/lang/invoke/VarHandle" ∧ (parseMethodDescriptor y.desc).map (fun d => d.parameters.length) = some n) (hn : As.length = n) (he : w1[q0]? = some (b, .inr (ci, fs))) (hc : vwCl[ci]? = some (C, T, N)) (hst : st = As.reverse ++ .ref b :: rest) (hlo : (rest.map fun v => v.category).sum ≤ 8) (hcc : cs + mc ≤ rm.cells ∧ sl + ms ≤ rm.slots) (hd : decode cc pc = .ok (.invokevirtual index, 3)) (kk : ∀ (r : Int64) (u : S), post r u → J Γ D nL (cs + mc) (sl + ms) (wf u ++ fr) (pc + 3) lv (.long r :: rest)) : J Γ D nL cs sl (w1 ++ fr) pc lv st := by
  obtain ⟨p, l, e, R, s, m, args, below, meth, c, A, Q⟩ := Γ
  obtain ⟨rfl, rfl, hx, hb, hml, hown, hts, hK, hA, hlk⟩ := hC
  intro H locs ls hP hD hS hl
  subst hst
  have hP1 := P_l hP
  have hD1 := D_l hD
  have hK1 : jK D tys1 s := ⟨hK.1.sub is his, hK.2⟩
  have hF := jA_free hD1 hS hA
  exact va_calll (va_runV ⟨hx, hb, hml, hown, hts⟩ (hM H.size) (cwV n hts hG hwy hrc hrs hd0 hR) ⟨jPre_blind, va_recv hK1.1 hP1 hc he, jPre_in hK1 hP1 hD1⟩ rfl hn hl.1 rfl (lv_room hlo) hd hcc) hS (fun q _ h => hF q h) hF (fun r u t H1 locs ht hvm hw hB hz1 hk1 hS => kk r u hw H1 locs ls (fr_P hP hD hk1 (ht ▸ hB.1)) (fr_D hP hD hF hB.2) hS hl)
end
