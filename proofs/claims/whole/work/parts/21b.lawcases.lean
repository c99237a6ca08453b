set_option maxHeartbeats 4000000 in
set_option maxRecDepth 100000 in
theorem law_sheet {Γ : jG} {l : Launch} {D : va_G} {cy : Nat → ClassId} {ad am : Nat → Nat} {g : GS} {m : GM} {b L cs sl : Nat} {xs : Nat → Int32} {i : Int32} (hC : jC Γ l room_1 D 4 RL cL_law wsL_law (tyA cy)) (hX : lX Γ b L xs) (hin : lIn i L) (hcs : cs + 1 ≤ 600000) (hsl : sl + 3 ≤ 7302250) (h : R g m) (kk : ∀ (ad2 : Nat → Nat) (g2 : GS) (m2 : GM), ad2 0 = ad 0 → R g2 m2 → J Γ D 4 (cs + 1) (sl + 3) (wS ad2 cy g2 ++ wM am cy m2) 1036 [(0, .ref b), (1, .ref (ad 0)), (2, .ref (am 0)), (3, .int i)] []) : J Γ D 4 cs sl (wS ad cy g ++ wM am cy m) 152 [(0, .ref b), (1, .ref (ad 0)), (2, .ref (am 0)), (3, .int i)] [] := by
  refine j_aload_n (i := 1) hC dL_law_152 rfl 1 rfl ?_
  refine j_aload_n (i := 0) hC dL_law_153 rfl 0 rfl ?_
  refine j_iload_n (i := 3) hC dL_law_154 rfl 3 rfl ?_
  refine j_iconst (v := 1) hC dL_law_155 (by decide) ?_
  refine j_iadd hC dL_law_156 ?_
  refine j_sld hC hX hin.2.1 dL_law_157 ?_
  refine j_aload_n (i := 0) hC dL_law_158 rfl 0 rfl ?_
  refine j_iload_n (i := 3) hC dL_law_159 rfl 3 rfl ?_
  refine j_iconst (v := 2) hC dL_law_160 (by decide) ?_
  refine j_iadd hC dL_law_161 ?_
  refine j_sld hC hX hin.2.2.1 dL_law_162 ?_
  refine j_aload_n (i := 0) hC dL_law_163 rfl 0 rfl ?_
  refine j_iload_n (i := 3) hC dL_law_164 rfl 3 rfl ?_
  refine j_iconst (v := 3) hC dL_law_165 (by decide) ?_
  refine j_iadd hC dL_law_166 ?_
  refine j_sld hC hX hin.2.2.2.1 dL_law_167 ?_
  refine j_callVf_i (w1 := wS ad cy g) (fr := wM am cy m) (As := [.int (xs (i + 1).toNatClampNeg), .int (xs (i + 2).toNatClampNeg), .int (xs (i + 3).toNatClampNeg)]) (rest := []) [0, 1, 3, 4, 5] rfl hC (cSG_sheet (sim_sheet h _ _ _)) 3 gL_law_X11_sheet rfl rfl rfl ⟨Nat.le_of_ble_eq_true rfl, Nat.le_of_ble_eq_true rfl⟩ hdSG_sheet rfl (wS_c0 ad cy g) rfl rfl (Nat.le_of_ble_eq_true rfl) ⟨by show cs + 0 ≤ 600000; omega, by show sl + 0 ≤ 7302250; omega⟩ dL_law_168 (fun r u hv => ?_)
  refine j_aload_n (i := 2) hC dL_law_171 rfl 2 rfl ?_
  refine j_aload_n (i := 0) hC dL_law_172 rfl 0 rfl ?_
  refine j_iload_n (i := 3) hC dL_law_173 rfl 3 rfl ?_
  refine j_iconst (v := 1) hC dL_law_174 (by decide) ?_
  refine j_iadd hC dL_law_175 ?_
  refine j_sld hC hX hin.2.1 dL_law_176 ?_
  refine j_aload_n (i := 0) hC dL_law_177 rfl 0 rfl ?_
  refine j_iload_n (i := 3) hC dL_law_178 rfl 3 rfl ?_
  refine j_iconst (v := 2) hC dL_law_179 (by decide) ?_
  refine j_iadd hC dL_law_180 ?_
  refine j_sld hC hX hin.2.2.1 dL_law_181 ?_
  refine j_aload_n (i := 0) hC dL_law_182 rfl 0 rfl ?_
  refine j_iload_n (i := 3) hC dL_law_183 rfl 3 rfl ?_
  refine j_iconst (v := 3) hC dL_law_184 (by decide) ?_
  refine j_iadd hC dL_law_185 ?_
  refine j_sld hC hX hin.2.2.2.1 dL_law_186 ?_
  refine j_comm ?_
  refine j_callVf_i (w1 := wM am cy m) (As := [.int (xs (i + 1).toNatClampNeg), .int (xs (i + 2).toNatClampNeg), .int (xs (i + 3).toNatClampNeg)]) (rest := [.int r]) [0, 1, 2] rfl hC (cM_sheet hv) 3 gL_law_X12_sheet rfl rfl rfl ⟨Nat.le_of_ble_eq_true rfl, Nat.le_of_ble_eq_true rfl⟩ hdM_sheet rfl (wM_c0 am cy m) rfl rfl (Nat.le_of_ble_eq_true rfl) ⟨by show cs + 0 + 0 ≤ 600000; omega, by show sl + 0 + 0 ≤ 7302250; omega⟩ dL_law_187 (fun r2 u2 hv2 => ?_)
  refine j_comm ?_
  refine j_icmp_eq (tgt := 1036) hC dL_law_190 (by decide) (fun _ => ?_) (fun q => absurd hv2.1 q)
  exact j_widen (by omega) (by omega) (kk ad u u2 rfl hv2.2)
set_option maxHeartbeats 4000000 in
set_option maxRecDepth 100000 in
theorem law_set {Γ : jG} {l : Launch} {D : va_G} {cy : Nat → ClassId} {ad am : Nat → Nat} {g : GS} {m : GM} {b L cs sl : Nat} {xs : Nat → Int32} {i : Int32} (hC : jC Γ l room_1 D 4 RL cL_law wsL_law (tyA cy)) (hX : lX Γ b L xs) (hin : lIn i L) (hcs : cs + 1 ≤ 600000) (hsl : sl + 3 ≤ 7302250) (h : R g m) (kk : ∀ (ad2 : Nat → Nat) (g2 : GS) (m2 : GM), ad2 0 = ad 0 → R g2 m2 → J Γ D 4 (cs + 1) (sl + 3) (wS ad2 cy g2 ++ wM am cy m2) 1036 [(0, .ref b), (1, .ref (ad 0)), (2, .ref (am 0)), (3, .int i)] []) : J Γ D 4 cs sl (wS ad cy g ++ wM am cy m) 195 [(0, .ref b), (1, .ref (ad 0)), (2, .ref (am 0)), (3, .int i)] [] := by
  refine j_aload_n (i := 1) hC dL_law_195 rfl 1 rfl ?_
  refine j_aload_n (i := 0) hC dL_law_196 rfl 0 rfl ?_
  refine j_iload_n (i := 3) hC dL_law_197 rfl 3 rfl ?_
  refine j_iconst (v := 1) hC dL_law_198 (by decide) ?_
  refine j_iadd hC dL_law_199 ?_
  refine j_sld hC hX hin.2.1 dL_law_200 ?_
  refine j_aload_n (i := 0) hC dL_law_201 rfl 0 rfl ?_
  refine j_iload_n (i := 3) hC dL_law_202 rfl 3 rfl ?_
  refine j_iconst (v := 2) hC dL_law_203 (by decide) ?_
  refine j_iadd hC dL_law_204 ?_
  refine j_sld hC hX hin.2.2.1 dL_law_205 ?_
  refine j_aload_n (i := 0) hC dL_law_206 rfl 0 rfl ?_
  refine j_iload_n (i := 3) hC dL_law_207 rfl 3 rfl ?_
  refine j_iconst (v := 3) hC dL_law_208 (by decide) ?_
  refine j_iadd hC dL_law_209 ?_
  refine j_sld hC hX hin.2.2.2.1 dL_law_210 ?_
  refine j_callVf_i (w1 := wS ad cy g) (fr := wM am cy m) (As := [.int (xs (i + 1).toNatClampNeg), .int (xs (i + 2).toNatClampNeg), .int (xs (i + 3).toNatClampNeg)]) (rest := []) [0, 1, 3, 4, 5] rfl hC (cSG_set (sim_set h _ _ _)) 3 gL_law_X11_set rfl rfl rfl ⟨Nat.le_of_ble_eq_true rfl, Nat.le_of_ble_eq_true rfl⟩ hdSG_set rfl (wS_c0 ad cy g) rfl rfl (Nat.le_of_ble_eq_true rfl) ⟨by show cs + 0 ≤ 600000; omega, by show sl + 0 ≤ 7302250; omega⟩ dL_law_211 (fun r u hv => ?_)
  refine j_aload_n (i := 2) hC dL_law_214 rfl 2 rfl ?_
  refine j_aload_n (i := 0) hC dL_law_215 rfl 0 rfl ?_
  refine j_iload_n (i := 3) hC dL_law_216 rfl 3 rfl ?_
  refine j_iconst (v := 1) hC dL_law_217 (by decide) ?_
  refine j_iadd hC dL_law_218 ?_
  refine j_sld hC hX hin.2.1 dL_law_219 ?_
  refine j_aload_n (i := 0) hC dL_law_220 rfl 0 rfl ?_
  refine j_iload_n (i := 3) hC dL_law_221 rfl 3 rfl ?_
  refine j_iconst (v := 2) hC dL_law_222 (by decide) ?_
  refine j_iadd hC dL_law_223 ?_
  refine j_sld hC hX hin.2.2.1 dL_law_224 ?_
  refine j_aload_n (i := 0) hC dL_law_225 rfl 0 rfl ?_
  refine j_iload_n (i := 3) hC dL_law_226 rfl 3 rfl ?_
  refine j_iconst (v := 3) hC dL_law_227 (by decide) ?_
  refine j_iadd hC dL_law_228 ?_
  refine j_sld hC hX hin.2.2.2.1 dL_law_229 ?_
  refine j_comm ?_
  refine j_callVf_i (w1 := wM am cy m) (As := [.int (xs (i + 1).toNatClampNeg), .int (xs (i + 2).toNatClampNeg), .int (xs (i + 3).toNatClampNeg)]) (rest := [.int r]) [0, 1, 2] rfl hC (cM_set hv) 3 gL_law_X12_set rfl rfl rfl ⟨Nat.le_of_ble_eq_true rfl, Nat.le_of_ble_eq_true rfl⟩ hdM_set rfl (wM_c0 am cy m) rfl rfl (Nat.le_of_ble_eq_true rfl) ⟨by show cs + 0 + 0 ≤ 600000; omega, by show sl + 0 + 0 ≤ 7302250; omega⟩ dL_law_230 (fun r2 u2 hv2 => ?_)
  refine j_comm ?_
  refine j_icmp_eq (tgt := 1036) hC dL_law_233 (by decide) (fun _ => ?_) (fun q => absurd hv2.1 q)
  exact j_widen (by omega) (by omega) (kk ad u u2 rfl hv2.2)
set_option maxHeartbeats 4000000 in
set_option maxRecDepth 100000 in
theorem law_copy {Γ : jG} {l : Launch} {D : va_G} {cy : Nat → ClassId} {ad am : Nat → Nat} {g : GS} {m : GM} {b L cs sl : Nat} {xs : Nat → Int32} {i : Int32} (hC : jC Γ l room_1 D 4 RL cL_law wsL_law (tyA cy)) (hX : lX Γ b L xs) (hin : lIn i L) (hcs : cs + 1 ≤ 600000) (hsl : sl + 3 ≤ 7302250) (h : R g m) (kk : ∀ (ad2 : Nat → Nat) (g2 : GS) (m2 : GM), ad2 0 = ad 0 → R g2 m2 → J Γ D 4 (cs + 1) (sl + 3) (wS ad2 cy g2 ++ wM am cy m2) 1036 [(0, .ref b), (1, .ref (ad 0)), (2, .ref (am 0)), (3, .int i)] []) : J Γ D 4 cs sl (wS ad cy g ++ wM am cy m) 238 [(0, .ref b), (1, .ref (ad 0)), (2, .ref (am 0)), (3, .int i)] [] := by
  refine j_aload_n (i := 1) hC dL_law_238 rfl 1 rfl ?_
  refine j_aload_n (i := 0) hC dL_law_239 rfl 0 rfl ?_
  refine j_iload_n (i := 3) hC dL_law_240 rfl 3 rfl ?_
  refine j_iconst (v := 1) hC dL_law_241 (by decide) ?_
  refine j_iadd hC dL_law_242 ?_
  refine j_sld hC hX hin.2.1 dL_law_243 ?_
  refine j_aload_n (i := 0) hC dL_law_244 rfl 0 rfl ?_
  refine j_iload_n (i := 3) hC dL_law_245 rfl 3 rfl ?_
  refine j_iconst (v := 2) hC dL_law_246 (by decide) ?_
  refine j_iadd hC dL_law_247 ?_
  refine j_sld hC hX hin.2.2.1 dL_law_248 ?_
  refine j_aload_n (i := 0) hC dL_law_249 rfl 0 rfl ?_
  refine j_iload_n (i := 3) hC dL_law_250 rfl 3 rfl ?_
  refine j_iconst (v := 3) hC dL_law_251 (by decide) ?_
  refine j_iadd hC dL_law_252 ?_
  refine j_sld hC hX hin.2.2.2.1 dL_law_253 ?_
  refine j_aload_n (i := 0) hC dL_law_254 rfl 0 rfl ?_
  refine j_iload_n (i := 3) hC dL_law_255 rfl 3 rfl ?_
  refine j_iconst (v := 4) hC dL_law_256 (by decide) ?_
  refine j_iadd hC dL_law_257 ?_
  refine j_sld hC hX hin.2.2.2.2.1 dL_law_258 ?_
  refine j_aload_n (i := 0) hC dL_law_259 rfl 0 rfl ?_
  refine j_iload_n (i := 3) hC dL_law_260 rfl 3 rfl ?_
  refine j_iconst (v := 5) hC dL_law_261 (by decide) ?_
  refine j_iadd hC dL_law_262 ?_
  refine j_sld hC hX hin.2.2.2.2.2.1 dL_law_263 ?_
  refine j_callVf_i (w1 := wS ad cy g) (fr := wM am cy m) (As := [.int (xs (i + 1).toNatClampNeg), .int (xs (i + 2).toNatClampNeg), .int (xs (i + 3).toNatClampNeg), .int (xs (i + 4).toNatClampNeg), .int (xs (i + 5).toNatClampNeg)]) (rest := []) [0, 1, 3, 4, 5] rfl hC (cSG_copy (sim_copy h _ _ _ _ _)) 5 gL_law_X11_copy rfl rfl rfl ⟨Nat.le_of_ble_eq_true rfl, Nat.le_of_ble_eq_true rfl⟩ hdSG_copy rfl (wS_c0 ad cy g) rfl rfl (Nat.le_of_ble_eq_true rfl) ⟨by show cs + 0 ≤ 600000; omega, by show sl + 0 ≤ 7302250; omega⟩ dL_law_264 (fun r u hv => ?_)
  refine j_aload_n (i := 2) hC dL_law_267 rfl 2 rfl ?_
  refine j_aload_n (i := 0) hC dL_law_268 rfl 0 rfl ?_
  refine j_iload_n (i := 3) hC dL_law_269 rfl 3 rfl ?_
  refine j_iconst (v := 1) hC dL_law_270 (by decide) ?_
  refine j_iadd hC dL_law_271 ?_
  refine j_sld hC hX hin.2.1 dL_law_272 ?_
  refine j_aload_n (i := 0) hC dL_law_273 rfl 0 rfl ?_
  refine j_iload_n (i := 3) hC dL_law_274 rfl 3 rfl ?_
  refine j_iconst (v := 2) hC dL_law_275 (by decide) ?_
  refine j_iadd hC dL_law_276 ?_
  refine j_sld hC hX hin.2.2.1 dL_law_277 ?_
  refine j_aload_n (i := 0) hC dL_law_278 rfl 0 rfl ?_
  refine j_iload_n (i := 3) hC dL_law_279 rfl 3 rfl ?_
  refine j_iconst (v := 3) hC dL_law_280 (by decide) ?_
  refine j_iadd hC dL_law_281 ?_
  refine j_sld hC hX hin.2.2.2.1 dL_law_282 ?_
  refine j_aload_n (i := 0) hC dL_law_283 rfl 0 rfl ?_
  refine j_iload_n (i := 3) hC dL_law_284 rfl 3 rfl ?_
  refine j_iconst (v := 4) hC dL_law_285 (by decide) ?_
  refine j_iadd hC dL_law_286 ?_
  refine j_sld hC hX hin.2.2.2.2.1 dL_law_287 ?_
  refine j_aload_n (i := 0) hC dL_law_288 rfl 0 rfl ?_
  refine j_iload_n (i := 3) hC dL_law_289 rfl 3 rfl ?_
  refine j_iconst (v := 5) hC dL_law_290 (by decide) ?_
  refine j_iadd hC dL_law_291 ?_
  refine j_sld hC hX hin.2.2.2.2.2.1 dL_law_292 ?_
  refine j_comm ?_
  refine j_callVf_i (w1 := wM am cy m) (As := [.int (xs (i + 1).toNatClampNeg), .int (xs (i + 2).toNatClampNeg), .int (xs (i + 3).toNatClampNeg), .int (xs (i + 4).toNatClampNeg), .int (xs (i + 5).toNatClampNeg)]) (rest := [.int r]) [0, 1, 2] rfl hC (cM_copy hv) 5 gL_law_X12_copy rfl rfl rfl ⟨Nat.le_of_ble_eq_true rfl, Nat.le_of_ble_eq_true rfl⟩ hdM_copy rfl (wM_c0 am cy m) rfl rfl (Nat.le_of_ble_eq_true rfl) ⟨by show cs + 0 + 0 ≤ 600000; omega, by show sl + 0 + 0 ≤ 7302250; omega⟩ dL_law_293 (fun r2 u2 hv2 => ?_)
  refine j_comm ?_
  refine j_icmp_eq (tgt := 1036) hC dL_law_296 (by decide) (fun _ => ?_) (fun q => absurd hv2.1 q)
  exact j_widen (by omega) (by omega) (kk ad u u2 rfl hv2.2)
set_option maxHeartbeats 4000000 in
set_option maxRecDepth 100000 in
theorem law_drop {Γ : jG} {l : Launch} {D : va_G} {cy : Nat → ClassId} {ad am : Nat → Nat} {g : GS} {m : GM} {b L cs sl : Nat} {xs : Nat → Int32} {i : Int32} (hC : jC Γ l room_1 D 4 RL cL_law wsL_law (tyA cy)) (hX : lX Γ b L xs) (hin : lIn i L) (hcs : cs + 1 ≤ 600000) (hsl : sl + 3 ≤ 7302250) (h : R g m) (kk : ∀ (ad2 : Nat → Nat) (g2 : GS) (m2 : GM), ad2 0 = ad 0 → R g2 m2 → J Γ D 4 (cs + 1) (sl + 3) (wS ad2 cy g2 ++ wM am cy m2) 1036 [(0, .ref b), (1, .ref (ad 0)), (2, .ref (am 0)), (3, .int i)] []) : J Γ D 4 cs sl (wS ad cy g ++ wM am cy m) 301 [(0, .ref b), (1, .ref (ad 0)), (2, .ref (am 0)), (3, .int i)] [] := by
  refine j_aload_n (i := 1) hC dL_law_301 rfl 1 rfl ?_
  refine j_aload_n (i := 0) hC dL_law_302 rfl 0 rfl ?_
  refine j_iload_n (i := 3) hC dL_law_303 rfl 3 rfl ?_
  refine j_iconst (v := 1) hC dL_law_304 (by decide) ?_
  refine j_iadd hC dL_law_305 ?_
  refine j_sld hC hX hin.2.1 dL_law_306 ?_
  refine j_callVf_i (w1 := wS ad cy g) (fr := wM am cy m) (As := [.int (xs (i + 1).toNatClampNeg)]) (rest := []) [0, 1, 3, 4, 5] rfl hC (cSG_drop (sim_drop h _)) 1 gL_law_X11_drop rfl rfl rfl ⟨Nat.le_of_ble_eq_true rfl, Nat.le_of_ble_eq_true rfl⟩ hdSG_drop rfl (wS_c0 ad cy g) rfl rfl (Nat.le_of_ble_eq_true rfl) ⟨by show cs + 0 ≤ 600000; omega, by show sl + 0 ≤ 7302250; omega⟩ dL_law_307 (fun r u hv => ?_)
  refine j_aload_n (i := 2) hC dL_law_310 rfl 2 rfl ?_
  refine j_aload_n (i := 0) hC dL_law_311 rfl 0 rfl ?_
  refine j_iload_n (i := 3) hC dL_law_312 rfl 3 rfl ?_
  refine j_iconst (v := 1) hC dL_law_313 (by decide) ?_
  refine j_iadd hC dL_law_314 ?_
  refine j_sld hC hX hin.2.1 dL_law_315 ?_
  refine j_comm ?_
  refine j_callVf_i (w1 := wM am cy m) (As := [.int (xs (i + 1).toNatClampNeg)]) (rest := [.int r]) [0, 1, 2] rfl hC (cM_drop hv) 1 gL_law_X12_drop rfl rfl rfl ⟨Nat.le_of_ble_eq_true rfl, Nat.le_of_ble_eq_true rfl⟩ hdM_drop rfl (wM_c0 am cy m) rfl rfl (Nat.le_of_ble_eq_true rfl) ⟨by show cs + 0 + 0 ≤ 600000; omega, by show sl + 0 + 0 ≤ 7302250; omega⟩ dL_law_316 (fun r2 u2 hv2 => ?_)
  refine j_comm ?_
  refine j_icmp_eq (tgt := 1036) hC dL_law_319 (by decide) (fun _ => ?_) (fun q => absurd hv2.1 q)
  exact j_widen (by omega) (by omega) (kk ad u u2 rfl hv2.2)
set_option maxHeartbeats 4000000 in
set_option maxRecDepth 100000 in
theorem law_world {Γ : jG} {l : Launch} {D : va_G} {cy : Nat → ClassId} {ad am : Nat → Nat} {g : GS} {m : GM} {b L cs sl : Nat} {xs : Nat → Int32} {i : Int32} (hC : jC Γ l room_1 D 4 RL cL_law wsL_law (tyA cy)) (hX : lX Γ b L xs) (hin : lIn i L) (hcs : cs + 1 ≤ 600000) (hsl : sl + 3 ≤ 7302250) (h : R g m) (kk : ∀ (ad2 : Nat → Nat) (g2 : GS) (m2 : GM), ad2 0 = ad 0 → R g2 m2 → J Γ D 4 (cs + 1) (sl + 3) (wS ad2 cy g2 ++ wM am cy m2) 1036 [(0, .ref b), (1, .ref (ad 0)), (2, .ref (am 0)), (3, .int i)] []) : J Γ D 4 cs sl (wS ad cy g ++ wM am cy m) 324 [(0, .ref b), (1, .ref (ad 0)), (2, .ref (am 0)), (3, .int i)] [] := by
  refine j_aload_n (i := 1) hC dL_law_324 rfl 1 rfl ?_
  refine j_aload_n (i := 0) hC dL_law_325 rfl 0 rfl ?_
  refine j_iload_n (i := 3) hC dL_law_326 rfl 3 rfl ?_
  refine j_iconst (v := 1) hC dL_law_327 (by decide) ?_
  refine j_iadd hC dL_law_328 ?_
  refine j_sld hC hX hin.2.1 dL_law_329 ?_
  refine j_aload_n (i := 0) hC dL_law_330 rfl 0 rfl ?_
  refine j_iload_n (i := 3) hC dL_law_331 rfl 3 rfl ?_
  refine j_iconst (v := 2) hC dL_law_332 (by decide) ?_
  refine j_iadd hC dL_law_333 ?_
  refine j_sld hC hX hin.2.2.1 dL_law_334 ?_
  refine j_aload_n (i := 0) hC dL_law_335 rfl 0 rfl ?_
  refine j_iload_n (i := 3) hC dL_law_336 rfl 3 rfl ?_
  refine j_iconst (v := 3) hC dL_law_337 (by decide) ?_
  refine j_iadd hC dL_law_338 ?_
  refine j_sld hC hX hin.2.2.2.1 dL_law_339 ?_
  refine j_callVf_i (w1 := wS ad cy g) (fr := wM am cy m) (As := [.int (xs (i + 1).toNatClampNeg), .int (xs (i + 2).toNatClampNeg), .int (xs (i + 3).toNatClampNeg)]) (rest := []) [0, 1, 3, 4, 5] rfl hC (cSG_world (sim_world h _ _ _)) 3 gL_law_X11_world rfl rfl rfl ⟨Nat.le_of_ble_eq_true rfl, Nat.le_of_ble_eq_true rfl⟩ hdSG_world rfl (wS_c0 ad cy g) rfl rfl (Nat.le_of_ble_eq_true rfl) ⟨by show cs + 0 ≤ 600000; omega, by show sl + 0 ≤ 7302250; omega⟩ dL_law_340 (fun r u hv => ?_)
  refine j_aload_n (i := 2) hC dL_law_343 rfl 2 rfl ?_
  refine j_aload_n (i := 0) hC dL_law_344 rfl 0 rfl ?_
  refine j_iload_n (i := 3) hC dL_law_345 rfl 3 rfl ?_
  refine j_iconst (v := 1) hC dL_law_346 (by decide) ?_
  refine j_iadd hC dL_law_347 ?_
  refine j_sld hC hX hin.2.1 dL_law_348 ?_
  refine j_aload_n (i := 0) hC dL_law_349 rfl 0 rfl ?_
  refine j_iload_n (i := 3) hC dL_law_350 rfl 3 rfl ?_
  refine j_iconst (v := 2) hC dL_law_351 (by decide) ?_
  refine j_iadd hC dL_law_352 ?_
  refine j_sld hC hX hin.2.2.1 dL_law_353 ?_
  refine j_aload_n (i := 0) hC dL_law_354 rfl 0 rfl ?_
  refine j_iload_n (i := 3) hC dL_law_355 rfl 3 rfl ?_
  refine j_iconst (v := 3) hC dL_law_356 (by decide) ?_
  refine j_iadd hC dL_law_357 ?_
  refine j_sld hC hX hin.2.2.2.1 dL_law_358 ?_
  refine j_comm ?_
  refine j_callVf_i (w1 := wM am cy m) (As := [.int (xs (i + 1).toNatClampNeg), .int (xs (i + 2).toNatClampNeg), .int (xs (i + 3).toNatClampNeg)]) (rest := [.int r]) [0, 1, 2] rfl hC (cM_world hv) 3 gL_law_X12_world rfl rfl rfl ⟨Nat.le_of_ble_eq_true rfl, Nat.le_of_ble_eq_true rfl⟩ hdM_world rfl (wM_c0 am cy m) rfl rfl (Nat.le_of_ble_eq_true rfl) ⟨by show cs + 0 + 0 ≤ 600000; omega, by show sl + 0 + 0 ≤ 7302250; omega⟩ dL_law_359 (fun r2 u2 hv2 => ?_)
  refine j_comm ?_
  refine j_icmp_eq (tgt := 1036) hC dL_law_362 (by decide) (fun _ => ?_) (fun q => absurd hv2.1 q)
  exact j_widen (by omega) (by omega) (kk ad u u2 rfl hv2.2)
set_option maxHeartbeats 4000000 in
set_option maxRecDepth 100000 in
theorem law_river {Γ : jG} {l : Launch} {D : va_G} {cy : Nat → ClassId} {ad am : Nat → Nat} {g : GS} {m : GM} {b L cs sl : Nat} {xs : Nat → Int32} {i : Int32} (hC : jC Γ l room_1 D 4 RL cL_law wsL_law (tyA cy)) (hX : lX Γ b L xs) (hin : lIn i L) (hcs : cs + 1 ≤ 600000) (hsl : sl + 3 ≤ 7302250) (h : R g m) (kk : ∀ (ad2 : Nat → Nat) (g2 : GS) (m2 : GM), ad2 0 = ad 0 → R g2 m2 → J Γ D 4 (cs + 1) (sl + 3) (wS ad2 cy g2 ++ wM am cy m2) 1036 [(0, .ref b), (1, .ref (ad 0)), (2, .ref (am 0)), (3, .int i)] []) : J Γ D 4 cs sl (wS ad cy g ++ wM am cy m) 367 [(0, .ref b), (1, .ref (ad 0)), (2, .ref (am 0)), (3, .int i)] [] := by
  refine j_aload_n (i := 1) hC dL_law_367 rfl 1 rfl ?_
  refine j_aload_n (i := 0) hC dL_law_368 rfl 0 rfl ?_
  refine j_iload_n (i := 3) hC dL_law_369 rfl 3 rfl ?_
  refine j_iconst (v := 1) hC dL_law_370 (by decide) ?_
  refine j_iadd hC dL_law_371 ?_
  refine j_sld hC hX hin.2.1 dL_law_372 ?_
  refine j_aload_n (i := 0) hC dL_law_373 rfl 0 rfl ?_
  refine j_iload_n (i := 3) hC dL_law_374 rfl 3 rfl ?_
  refine j_iconst (v := 2) hC dL_law_375 (by decide) ?_
  refine j_iadd hC dL_law_376 ?_
  refine j_sld hC hX hin.2.2.1 dL_law_377 ?_
  refine j_callVf_i (w1 := wS ad cy g) (fr := wM am cy m) (As := [.int (xs (i + 1).toNatClampNeg), .int (xs (i + 2).toNatClampNeg)]) (rest := []) [0, 1, 3, 4, 5] rfl hC (cSG_river (sim_river h _ _)) 2 gL_law_X11_river rfl rfl rfl ⟨Nat.le_of_ble_eq_true rfl, Nat.le_of_ble_eq_true rfl⟩ hdSG_river rfl (wS_c0 ad cy g) rfl rfl (Nat.le_of_ble_eq_true rfl) ⟨by show cs + 0 ≤ 600000; omega, by show sl + 0 ≤ 7302250; omega⟩ dL_law_378 (fun r u hv => ?_)
  refine j_aload_n (i := 2) hC dL_law_381 rfl 2 rfl ?_
  refine j_aload_n (i := 0) hC dL_law_382 rfl 0 rfl ?_
  refine j_iload_n (i := 3) hC dL_law_383 rfl 3 rfl ?_
  refine j_iconst (v := 1) hC dL_law_384 (by decide) ?_
  refine j_iadd hC dL_law_385 ?_
  refine j_sld hC hX hin.2.1 dL_law_386 ?_
  refine j_aload_n (i := 0) hC dL_law_387 rfl 0 rfl ?_
  refine j_iload_n (i := 3) hC dL_law_388 rfl 3 rfl ?_
  refine j_iconst (v := 2) hC dL_law_389 (by decide) ?_
  refine j_iadd hC dL_law_390 ?_
  refine j_sld hC hX hin.2.2.1 dL_law_391 ?_
  refine j_comm ?_
  refine j_callVf_i (w1 := wM am cy m) (As := [.int (xs (i + 1).toNatClampNeg), .int (xs (i + 2).toNatClampNeg)]) (rest := [.int r]) [0, 1, 2] rfl hC (cM_river hv) 2 gL_law_X12_river rfl rfl rfl ⟨Nat.le_of_ble_eq_true rfl, Nat.le_of_ble_eq_true rfl⟩ hdM_river rfl (wM_c0 am cy m) rfl rfl (Nat.le_of_ble_eq_true rfl) ⟨by show cs + 0 + 0 ≤ 600000; omega, by show sl + 0 + 0 ≤ 7302250; omega⟩ dL_law_392 (fun r2 u2 hv2 => ?_)
  refine j_comm ?_
  refine j_icmp_eq (tgt := 1036) hC dL_law_395 (by decide) (fun _ => ?_) (fun q => absurd hv2.1 q)
  exact j_widen (by omega) (by omega) (kk ad u u2 rfl hv2.2)
set_option maxHeartbeats 4000000 in
set_option maxRecDepth 100000 in
theorem law_rule {Γ : jG} {l : Launch} {D : va_G} {cy : Nat → ClassId} {ad am : Nat → Nat} {g : GS} {m : GM} {b L cs sl : Nat} {xs : Nat → Int32} {i : Int32} (hC : jC Γ l room_1 D 4 RL cL_law wsL_law (tyA cy)) (hX : lX Γ b L xs) (hin : lIn i L) (hcs : cs + 1 ≤ 600000) (hsl : sl + 3 ≤ 7302250) (h : R g m) (kk : ∀ (ad2 : Nat → Nat) (g2 : GS) (m2 : GM), ad2 0 = ad 0 → R g2 m2 → J Γ D 4 (cs + 1) (sl + 3) (wS ad2 cy g2 ++ wM am cy m2) 1036 [(0, .ref b), (1, .ref (ad 0)), (2, .ref (am 0)), (3, .int i)] []) : J Γ D 4 cs sl (wS ad cy g ++ wM am cy m) 400 [(0, .ref b), (1, .ref (ad 0)), (2, .ref (am 0)), (3, .int i)] [] := by
  refine j_aload_n (i := 1) hC dL_law_400 rfl 1 rfl ?_
  refine j_aload_n (i := 0) hC dL_law_401 rfl 0 rfl ?_
  refine j_iload_n (i := 3) hC dL_law_402 rfl 3 rfl ?_
  refine j_iconst (v := 1) hC dL_law_403 (by decide) ?_
  refine j_iadd hC dL_law_404 ?_
  refine j_sld hC hX hin.2.1 dL_law_405 ?_
  refine j_aload_n (i := 0) hC dL_law_406 rfl 0 rfl ?_
  refine j_iload_n (i := 3) hC dL_law_407 rfl 3 rfl ?_
  refine j_iconst (v := 2) hC dL_law_408 (by decide) ?_
  refine j_iadd hC dL_law_409 ?_
  refine j_sld hC hX hin.2.2.1 dL_law_410 ?_
  refine j_callVf_i (w1 := wS ad cy g) (fr := wM am cy m) (As := [.int (xs (i + 1).toNatClampNeg), .int (xs (i + 2).toNatClampNeg)]) (rest := []) [0, 1, 3, 4, 5] rfl hC (cSG_rule (sim_rule h _ _)) 2 gL_law_X11_rule rfl rfl rfl ⟨Nat.le_of_ble_eq_true rfl, Nat.le_of_ble_eq_true rfl⟩ hdSG_rule rfl (wS_c0 ad cy g) rfl rfl (Nat.le_of_ble_eq_true rfl) ⟨by show cs + 0 ≤ 600000; omega, by show sl + 0 ≤ 7302250; omega⟩ dL_law_411 (fun r u hv => ?_)
  refine j_aload_n (i := 2) hC dL_law_414 rfl 2 rfl ?_
  refine j_aload_n (i := 0) hC dL_law_415 rfl 0 rfl ?_
  refine j_iload_n (i := 3) hC dL_law_416 rfl 3 rfl ?_
  refine j_iconst (v := 1) hC dL_law_417 (by decide) ?_
  refine j_iadd hC dL_law_418 ?_
  refine j_sld hC hX hin.2.1 dL_law_419 ?_
  refine j_aload_n (i := 0) hC dL_law_420 rfl 0 rfl ?_
  refine j_iload_n (i := 3) hC dL_law_421 rfl 3 rfl ?_
  refine j_iconst (v := 2) hC dL_law_422 (by decide) ?_
  refine j_iadd hC dL_law_423 ?_
  refine j_sld hC hX hin.2.2.1 dL_law_424 ?_
  refine j_comm ?_
  refine j_callVf_i (w1 := wM am cy m) (As := [.int (xs (i + 1).toNatClampNeg), .int (xs (i + 2).toNatClampNeg)]) (rest := [.int r]) [0, 1, 2] rfl hC (cM_rule hv) 2 gL_law_X12_rule rfl rfl rfl ⟨Nat.le_of_ble_eq_true rfl, Nat.le_of_ble_eq_true rfl⟩ hdM_rule rfl (wM_c0 am cy m) rfl rfl (Nat.le_of_ble_eq_true rfl) ⟨by show cs + 0 + 0 ≤ 600000; omega, by show sl + 0 + 0 ≤ 7302250; omega⟩ dL_law_425 (fun r2 u2 hv2 => ?_)
  refine j_comm ?_
  refine j_icmp_eq (tgt := 1036) hC dL_law_428 (by decide) (fun _ => ?_) (fun q => absurd hv2.1 q)
  exact j_widen (by omega) (by omega) (kk ad u u2 rfl hv2.2)
