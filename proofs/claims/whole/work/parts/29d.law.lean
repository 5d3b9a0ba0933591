noncomputable section MiH2
abbrev m_L_law : MiI := (yL_law, cL_law, 8, (some .boolean), 16, none)
def B_L_case0 (L : Nat) (xs : Nat → Int32) (Z2 : MiZ) (k : Int → MiM → MiD → MiZ → MiD → Option (Int × (MiM × (MiM × MiM)))) (i : Int) (M0 : MiM) (D1 : MiD) (Z1 : MiZ) (D2 : MiD) : Option (Int × (MiM × (MiM × MiM))) := if 0 ≤ (mi_w (i + 1)) ∧ (mi_w (i + 1)) < (L : Int) then (if 0 ≤ (mi_w (i + 2)) ∧ (mi_w (i + 2)) < (L : Int) then (if 0 ≤ (mi_w (i + 3)) ∧ (mi_w (i + 3)) < (L : Int) then (if 0 ≤ (mi_w (i + 4)) ∧ (mi_w (i + 4)) < (L : Int) then (if 0 ≤ (mi_w (i + 5)) ∧ (mi_w (i + 5)) < (L : Int) then (mi_b2 (B_X10_feed ((xs (mi_w (i + 1)).toNat).toInt) ((xs (mi_w (i + 2)).toNat).toInt) ((xs (mi_w (i + 3)).toNat).toInt) ((xs (mi_w (i + 4)).toNat).toInt) ((xs (mi_w (i + 5)).toNat).toInt) D1) fun y6 Dx7 => mi_b2 (B_X11_feed ((xs (mi_w (i + 1)).toNat).toInt) ((xs (mi_w (i + 2)).toNat).toInt) ((xs (mi_w (i + 3)).toNat).toInt) ((xs (mi_w (i + 4)).toNat).toInt) ((xs (mi_w (i + 5)).toNat).toInt) D2) fun y13 Dx14 => if y6 = y13 then (k (mi_w (i + 6)) M0 Dx7 Z1 Dx14) else (some (0, (M0, ((Dx7, Z1), (Dx14, Z2)))))) else none) else none) else none) else none) else none
set_option maxRecDepth 20000 in
theorem S_L_case0 {L : Nat} {xs : Nat → Int32} {Z2 : MiZ} (hL2 : ML Z2) (hW2 : mi_cw mi_s2 Z2) {k : Int → MiM → MiD → MiZ → MiD → Option (Int × (MiM × (MiM × MiM)))} (K : ∀ (i : Int) (M0 : MiM) (D1 : MiD) (Z1 : MiZ) (D2 : MiD), SgP (mi_lP L xs) m_L_law 23 [(35, 0), (3, 0), (42, 0), (27, 0), (0, i), mi_un, mi_un, mi_un] [] (mi_cb M0 (D1, Z1) (D2, Z2)) (fun q => ((1, (0, q.1)), mi_cb q.2.1 q.2.2.1 q.2.2.2)) (k i M0 D1 Z1 D2)) (i : Int) (M0 : MiM) (D1 : MiD) (Z1 : MiZ) (D2 : MiD) (hL : CL Z1) (hW : mi_cw mi_s1 Z1) : SgP (mi_lP L xs) m_L_law 192 [(35, 0), (3, 0), (42, 0), (27, 0), (0, i), mi_un, mi_un, mi_un] [] (mi_cb M0 (D1, Z1) (D2, Z2)) (fun q => ((1, (0, q.1)), mi_cb q.2.1 q.2.2.1 q.2.2.2)) (B_L_case0 L xs Z2 k i M0 D1 Z1 D2) := by
  unfold B_L_case0
  refine SgP.go (pc' := 193) (mi_aload_n dL_law_192 rfl) ?_
  refine SgP.go (pc' := 194) (mi_aload_n dL_law_193 rfl) ?_
  refine SgP.go (pc' := 196) (mi_iload dL_law_194 rfl) ?_
  refine SgP.go (pc' := 197) (mi_iconst (z := 1) dL_law_196 rfl) ?_
  refine SgP.go (pc' := 198) (mi_iadd dL_law_197) ?_
  refine SgP.ck (fun hk1 => ?_)
  refine SgP.goP (pc' := 199) (mi_scr dL_law_198 hk1) ?_
  refine SgP.go (pc' := 200) (mi_aload_n dL_law_199 rfl) ?_
  refine SgP.go (pc' := 202) (mi_iload dL_law_200 rfl) ?_
  refine SgP.go (pc' := 203) (mi_iconst (z := 2) dL_law_202 rfl) ?_
  refine SgP.go (pc' := 204) (mi_iadd dL_law_203) ?_
  refine SgP.ck (fun hk2 => ?_)
  refine SgP.goP (pc' := 205) (mi_scr dL_law_204 hk2) ?_
  refine SgP.go (pc' := 206) (mi_aload_n dL_law_205 rfl) ?_
  refine SgP.go (pc' := 208) (mi_iload dL_law_206 rfl) ?_
  refine SgP.go (pc' := 209) (mi_iconst (z := 3) dL_law_208 rfl) ?_
  refine SgP.go (pc' := 210) (mi_iadd dL_law_209) ?_
  refine SgP.ck (fun hk3 => ?_)
  refine SgP.goP (pc' := 211) (mi_scr dL_law_210 hk3) ?_
  refine SgP.go (pc' := 212) (mi_aload_n dL_law_211 rfl) ?_
  refine SgP.go (pc' := 214) (mi_iload dL_law_212 rfl) ?_
  refine SgP.go (pc' := 215) (mi_iconst (z := 4) dL_law_214 rfl) ?_
  refine SgP.go (pc' := 216) (mi_iadd dL_law_215) ?_
  refine SgP.ck (fun hk4 => ?_)
  refine SgP.goP (pc' := 217) (mi_scr dL_law_216 hk4) ?_
  refine SgP.go (pc' := 218) (mi_aload_n dL_law_217 rfl) ?_
  refine SgP.go (pc' := 220) (mi_iload dL_law_218 rfl) ?_
  refine SgP.go (pc' := 221) (mi_iconst (z := 5) dL_law_220 rfl) ?_
  refine SgP.go (pc' := 222) (mi_iadd dL_law_221) ?_
  refine SgP.ck (fun hk5 => ?_)
  refine SgP.goP (pc' := 223) (mi_scr dL_law_222 hk5) ?_
  refine SgP.callD1 (t := 0) (pc' := 226) (μ' := m_X10_feed) (args := [(3, 0), (0, ((xs (mi_w (i + 1)).toNat).toInt)), (0, ((xs (mi_w (i + 2)).toNat).toInt)), (0, ((xs (mi_w (i + 3)).toNat).toInt)), (0, ((xs (mi_w (i + 4)).toNat).toInt)), (0, ((xs (mi_w (i + 5)).toNat).toInt))]) (mi_invV (n := 5) (r := 1) dL_law_223 hC_1 (by omega) rfl rfl wN_X10_feed rfl ⟨by decide, by decide⟩ wL_L_113 wI_X10_feed wS_X10_feed wB_X10 wC_X10_feed) (fun v hv => C_X10_feed hL ((xs (mi_w (i + 1)).toNat).toInt) ((xs (mi_w (i + 2)).toNat).toInt) ((xs (mi_w (i + 3)).toNat).toInt) ((xs (mi_w (i + 4)).toNat).toInt) ((xs (mi_w (i + 5)).toNat).toInt) D1 v hv) hW (show (0 : Nat) < 2 by decide) rfl (Nat.le_of_ble_eq_true rfl) rfl rfl (fun y6 Dx7 => ?_)
  refine SgP.go (pc' := 227) (mi_aload_n dL_law_226 rfl) ?_
  refine SgP.go (pc' := 228) (mi_aload_n dL_law_227 rfl) ?_
  refine SgP.go (pc' := 230) (mi_iload dL_law_228 rfl) ?_
  refine SgP.go (pc' := 231) (mi_iconst (z := 1) dL_law_230 rfl) ?_
  refine SgP.go (pc' := 232) (mi_iadd dL_law_231) ?_
  refine SgP.goP (pc' := 233) (mi_scr dL_law_232 hk1) ?_
  refine SgP.go (pc' := 234) (mi_aload_n dL_law_233 rfl) ?_
  refine SgP.go (pc' := 236) (mi_iload dL_law_234 rfl) ?_
  refine SgP.go (pc' := 237) (mi_iconst (z := 2) dL_law_236 rfl) ?_
  refine SgP.go (pc' := 238) (mi_iadd dL_law_237) ?_
  refine SgP.goP (pc' := 239) (mi_scr dL_law_238 hk2) ?_
  refine SgP.go (pc' := 240) (mi_aload_n dL_law_239 rfl) ?_
  refine SgP.go (pc' := 242) (mi_iload dL_law_240 rfl) ?_
  refine SgP.go (pc' := 243) (mi_iconst (z := 3) dL_law_242 rfl) ?_
  refine SgP.go (pc' := 244) (mi_iadd dL_law_243) ?_
  refine SgP.goP (pc' := 245) (mi_scr dL_law_244 hk3) ?_
  refine SgP.go (pc' := 246) (mi_aload_n dL_law_245 rfl) ?_
  refine SgP.go (pc' := 248) (mi_iload dL_law_246 rfl) ?_
  refine SgP.go (pc' := 249) (mi_iconst (z := 4) dL_law_248 rfl) ?_
  refine SgP.go (pc' := 250) (mi_iadd dL_law_249) ?_
  refine SgP.goP (pc' := 251) (mi_scr dL_law_250 hk4) ?_
  refine SgP.go (pc' := 252) (mi_aload_n dL_law_251 rfl) ?_
  refine SgP.go (pc' := 254) (mi_iload dL_law_252 rfl) ?_
  refine SgP.go (pc' := 255) (mi_iconst (z := 5) dL_law_254 rfl) ?_
  refine SgP.go (pc' := 256) (mi_iadd dL_law_255) ?_
  refine SgP.goP (pc' := 257) (mi_scr dL_law_256 hk5) ?_
  refine SgP.callD2 (t := 0) (pc' := 260) (μ' := m_X11_feed) (args := [(42, 0), (0, ((xs (mi_w (i + 1)).toNat).toInt)), (0, ((xs (mi_w (i + 2)).toNat).toInt)), (0, ((xs (mi_w (i + 3)).toNat).toInt)), (0, ((xs (mi_w (i + 4)).toNat).toInt)), (0, ((xs (mi_w (i + 5)).toNat).toInt))]) (mi_invV (n := 5) (r := 40) dL_law_257 hC_40 (by omega) rfl rfl wN_X11_feed rfl ⟨by decide, by decide⟩ wL_L_117 wI_X11_feed wS_X11_feed wB_X11 wC_X11_feed) (fun v hv => C_X11_feed hL2 ((xs (mi_w (i + 1)).toNat).toInt) ((xs (mi_w (i + 2)).toNat).toInt) ((xs (mi_w (i + 3)).toNat).toInt) ((xs (mi_w (i + 4)).toNat).toInt) ((xs (mi_w (i + 5)).toNat).toInt) D2 v hv) hW2 (show (0 : Nat) < 2 by decide) rfl (Nat.le_of_ble_eq_true rfl) rfl rfl (fun y13 Dx14 => ?_)
  refine SgP.ite (fun h15 => ?_) (fun h15 => ?_)
  · refine SgP.go (pc' := 2238) (mi_icmpeq_t (tgt := 2238) dL_law_260 (by decide) h15) ?_
    refine SgP.go (pc' := 2241) (mi_iinc (z := 6) (ls1 := [(35, 0), (3, 0), (42, 0), (27, 0), (0, (mi_w (i + 6))), mi_un, mi_un, mi_un]) dL_law_2238 (by decide) rfl rfl rfl) ?_
    refine SgP.go (pc' := 23) (mi_goto (tgt := 23) dL_law_2241 (by decide)) ?_
    exact K (mi_w (i + 6)) M0 Dx7 Z1 Dx14
  · refine SgP.go (pc' := 263) (mi_icmpeq_f (tgt := 2238) dL_law_260 (by decide) h15) ?_
    refine SgP.go (pc' := 264) (mi_iconst (z := 0) dL_law_263 rfl) ?_
    exact SgP.ret (mi_ireturn dL_law_264 rfl (Or.inr (Or.inl ⟨rfl, Or.inl rfl⟩)))
def B_L_case1 (L : Nat) (xs : Nat → Int32) (Z2 : MiZ) (k : Int → MiM → MiD → MiZ → MiD → Option (Int × (MiM × (MiM × MiM)))) (i : Int) (M0 : MiM) (D1 : MiD) (Z1 : MiZ) (D2 : MiD) : Option (Int × (MiM × (MiM × MiM))) := if 0 ≤ (mi_w (i + 1)) ∧ (mi_w (i + 1)) < (L : Int) then (if 0 ≤ (mi_w (i + 2)) ∧ (mi_w (i + 2)) < (L : Int) then (mi_bhQ (B_X10_function ((xs (mi_w (i + 1)).toNat).toInt) ((xs (mi_w (i + 2)).toNat).toInt) D1 Z1) (fun k => k == 0 || k == 1 || k == 2) (fun k => if k = 0 then 1 else if k = 1 then 2 else 3) M0 fun y3 Mx4 Dx5 Zx6 => mi_b2 (B_X11_function ((xs (mi_w (i + 1)).toNat).toInt) ((xs (mi_w (i + 2)).toNat).toInt) D2) fun y9 Dx10 => mi_bi (B_X11_thrown Dx10) fun y11 => if y11 = y3 then (if y3 ≠ 0 then (k (mi_w (i + 6)) Mx4 Dx5 Zx6 Dx10) else (if (mi_cmp (Mx4.1 25 0 0) y9) = 0 then (k (mi_w (i + 6)) Mx4 Dx5 Zx6 Dx10) else (some (0, (Mx4, ((Dx5, Zx6), (Dx10, Z2))))))) else (some (0, (Mx4, ((Dx5, Zx6), (Dx10, Z2)))))) else none) else none
set_option maxRecDepth 20000 in
theorem S_L_case1 {L : Nat} {xs : Nat → Int32} {Z2 : MiZ} (hL2 : ML Z2) (hW2 : mi_cw mi_s2 Z2) {k : Int → MiM → MiD → MiZ → MiD → Option (Int × (MiM × (MiM × MiM)))} (K : ∀ (i : Int) (M0 : MiM) (D1 : MiD) (Z1 : MiZ) (D2 : MiD), SgP (mi_lP L xs) m_L_law 23 [(35, 0), (3, 0), (42, 0), (27, 0), (0, i), mi_un, mi_un, mi_un] [] (mi_cb M0 (D1, Z1) (D2, Z2)) (fun q => ((1, (0, q.1)), mi_cb q.2.1 q.2.2.1 q.2.2.2)) (k i M0 D1 Z1 D2)) (i : Int) (M0 : MiM) (D1 : MiD) (Z1 : MiZ) (D2 : MiD) (hL : CL Z1) (hW : mi_cw mi_s1 Z1) : SgP (mi_lP L xs) m_L_law 265 [(35, 0), (3, 0), (42, 0), (27, 0), (0, i), mi_un, mi_un, mi_un] [] (mi_cb M0 (D1, Z1) (D2, Z2)) (fun q => ((1, (0, q.1)), mi_cb q.2.1 q.2.2.1 q.2.2.2)) (B_L_case1 L xs Z2 k i M0 D1 Z1 D2) := by
  unfold B_L_case1
  refine SgP.go (pc' := 266) (mi_aload_n dL_law_265 rfl) ?_
  refine SgP.go (pc' := 267) (mi_aload_n dL_law_266 rfl) ?_
  refine SgP.go (pc' := 269) (mi_iload dL_law_267 rfl) ?_
  refine SgP.go (pc' := 270) (mi_iconst (z := 1) dL_law_269 rfl) ?_
  refine SgP.go (pc' := 271) (mi_iadd dL_law_270) ?_
  refine SgP.ck (fun hk1 => ?_)
  refine SgP.goP (pc' := 272) (mi_scr dL_law_271 hk1) ?_
  refine SgP.go (pc' := 273) (mi_aload_n dL_law_272 rfl) ?_
  refine SgP.go (pc' := 275) (mi_iload dL_law_273 rfl) ?_
  refine SgP.go (pc' := 276) (mi_iconst (z := 2) dL_law_275 rfl) ?_
  refine SgP.go (pc' := 277) (mi_iadd dL_law_276) ?_
  refine SgP.ck (fun hk2 => ?_)
  refine SgP.goP (pc' := 278) (mi_scr dL_law_277 hk2) ?_
  refine SgP.go (pc' := 279) (mi_aload_n dL_law_278 rfl) ?_
  refine SgP.callHQ (pc' := 282) (μ' := m_L_function) (args := [(3, 0), (0, ((xs (mi_w (i + 1)).toNat).toInt)), (0, ((xs (mi_w (i + 2)).toNat).toInt)), (27, 0)]) (mi_invSH (n := 4) dL_law_279 rfl wN_L_function rfl ⟨by decide, by decide⟩ wL_L_118 wT_L_function wB_L wC_L_function) (fun b hb hw hk => C_L_function hL hW ((xs (mi_w (i + 1)).toNat).toInt) ((xs (mi_w (i + 2)).toNat).toInt) D1 M0 (D2, Z2) b hb hw hk) (Nat.le_of_ble_eq_true rfl) rfl rfl (fun y3 Mx4 Dx5 Zx6 => ?_)
  refine SgP.go (pc' := 284) (mi_istore (ls1 := [(35, 0), (3, 0), (42, 0), (27, 0), (0, i), (0, y3), mi_un, mi_un]) dL_law_282 (by decide) rfl) ?_
  refine SgP.go (pc' := 285) (mi_aload_n dL_law_284 rfl) ?_
  refine SgP.go (pc' := 286) (mi_aload_n dL_law_285 rfl) ?_
  refine SgP.go (pc' := 288) (mi_iload dL_law_286 rfl) ?_
  refine SgP.go (pc' := 289) (mi_iconst (z := 1) dL_law_288 rfl) ?_
  refine SgP.go (pc' := 290) (mi_iadd dL_law_289) ?_
  refine SgP.goP (pc' := 291) (mi_scr dL_law_290 hk1) ?_
  refine SgP.go (pc' := 292) (mi_aload_n dL_law_291 rfl) ?_
  refine SgP.go (pc' := 294) (mi_iload dL_law_292 rfl) ?_
  refine SgP.go (pc' := 295) (mi_iconst (z := 2) dL_law_294 rfl) ?_
  refine SgP.go (pc' := 296) (mi_iadd dL_law_295) ?_
  refine SgP.goP (pc' := 297) (mi_scr dL_law_296 hk2) ?_
  refine SgP.callD2 (t := 0) (pc' := 300) (μ' := m_X11_function) (args := [(42, 0), (0, ((xs (mi_w (i + 1)).toNat).toInt)), (0, ((xs (mi_w (i + 2)).toNat).toInt))]) (mi_invV (n := 2) (r := 40) dL_law_297 hC_40 (by omega) rfl rfl wN_X11_function rfl ⟨by decide, by decide⟩ wL_L_123 wI_X11_function wS_X11_function wB_X11 wC_X11_function) (fun v hv => C_X11_function hL2 ((xs (mi_w (i + 1)).toNat).toInt) ((xs (mi_w (i + 2)).toNat).toInt) D2 v hv) hW2 (show (0 : Nat) < 2 by decide) rfl (Nat.le_of_ble_eq_true rfl) rfl rfl (fun y9 Dx10 => ?_)
  refine SgP.go (pc' := 302) (mi_istore (ls1 := [(35, 0), (3, 0), (42, 0), (27, 0), (0, i), (0, y3), (0, y9), mi_un]) dL_law_300 (by decide) rfl) ?_
  refine SgP.go (pc' := 303) (mi_aload_n dL_law_302 rfl) ?_
  refine SgP.callI2 (t := 0) (pc' := 306) (μ' := m_X11_thrown) (args := [(42, 0)]) (mi_invV (n := 0) (r := 40) dL_law_303 hC_40 (by omega) rfl rfl wN_X11_thrown rfl ⟨by decide, by decide⟩ wL_L_124 wI_X11_thrown wS_X11_thrown wB_X11 wC_X11_thrown) (fun v hv => C_X11_thrown hL2 Dx10 v hv) hW2 (show (0 : Nat) < 2 by decide) rfl (Nat.le_of_ble_eq_true rfl) rfl rfl (fun y11 => ?_)
  refine SgP.go (pc' := 308) (mi_iload dL_law_306 rfl) ?_
  refine SgP.ite (fun h12 => ?_) (fun h12 => ?_)
  · refine SgP.go (pc' := 313) (mi_icmpeq_t (tgt := 313) dL_law_308 (by decide) h12) ?_
    refine SgP.go (pc' := 315) (mi_iload dL_law_313 rfl) ?_
    refine SgP.ite (fun h13 => ?_) (fun h13 => ?_)
    · refine SgP.go (pc' := 330) (mi_ifne_t (tgt := 330) dL_law_315 (by decide) h13) ?_
      refine SgP.go (pc' := 2238) (mi_goto (tgt := 2238) dL_law_330 (by decide)) ?_
      refine SgP.go (pc' := 2238) (MiStep.weak (ls' := [(35, 0), (3, 0), (42, 0), (27, 0), (0, i), mi_un, mi_un, mi_un]) (mi_wk_y (mi_wk_y (mi_wk_y (mi_wk_y (mi_wk_y (mi_wk_n (mi_wk_n (mi_wk_y mi_wk_0))))))))) ?_
      refine SgP.go (pc' := 2241) (mi_iinc (z := 6) (ls1 := [(35, 0), (3, 0), (42, 0), (27, 0), (0, (mi_w (i + 6))), mi_un, mi_un, mi_un]) dL_law_2238 (by decide) rfl rfl rfl) ?_
      refine SgP.go (pc' := 23) (mi_goto (tgt := 23) dL_law_2241 (by decide)) ?_
      exact K (mi_w (i + 6)) Mx4 Dx5 Zx6 Dx10
    · refine SgP.go (pc' := 318) (mi_ifne_f (tgt := 330) dL_law_315 (by decide) h13) ?_
      refine SgP.go (pc' := 319) (mi_aload_n dL_law_318 rfl) ?_
      refine SgP.go (pc' := 320) (mi_iconst (z := 0) dL_law_319 rfl) ?_
      refine SgP.go (pc' := 321) (mi_outld dL_law_320) ?_
      refine SgP.go (pc' := 323) (mi_iload dL_law_321 rfl) ?_
      refine SgP.go (pc' := 324) (mi_i2l dL_law_323) ?_
      refine SgP.go (pc' := 325) (mi_lcmp dL_law_324) ?_
      refine SgP.ite (fun h14 => ?_) (fun h14 => ?_)
      · refine SgP.go (pc' := 330) (mi_ifeq_t (tgt := 330) dL_law_325 (by decide) h14) ?_
        refine SgP.go (pc' := 2238) (mi_goto (tgt := 2238) dL_law_330 (by decide)) ?_
        refine SgP.go (pc' := 2238) (MiStep.weak (ls' := [(35, 0), (3, 0), (42, 0), (27, 0), (0, i), mi_un, mi_un, mi_un]) (mi_wk_y (mi_wk_y (mi_wk_y (mi_wk_y (mi_wk_y (mi_wk_n (mi_wk_n (mi_wk_y mi_wk_0))))))))) ?_
        refine SgP.go (pc' := 2241) (mi_iinc (z := 6) (ls1 := [(35, 0), (3, 0), (42, 0), (27, 0), (0, (mi_w (i + 6))), mi_un, mi_un, mi_un]) dL_law_2238 (by decide) rfl rfl rfl) ?_
        refine SgP.go (pc' := 23) (mi_goto (tgt := 23) dL_law_2241 (by decide)) ?_
        exact K (mi_w (i + 6)) Mx4 Dx5 Zx6 Dx10
      · refine SgP.go (pc' := 328) (mi_ifeq_f (tgt := 330) dL_law_325 (by decide) h14) ?_
        refine SgP.go (pc' := 329) (mi_iconst (z := 0) dL_law_328 rfl) ?_
        exact SgP.ret (mi_ireturn dL_law_329 rfl (Or.inr (Or.inl ⟨rfl, Or.inl rfl⟩)))
  · refine SgP.go (pc' := 311) (mi_icmpeq_f (tgt := 313) dL_law_308 (by decide) h12) ?_
    refine SgP.go (pc' := 312) (mi_iconst (z := 0) dL_law_311 rfl) ?_
    exact SgP.ret (mi_ireturn dL_law_312 rfl (Or.inr (Or.inl ⟨rfl, Or.inl rfl⟩)))
def B_L_case2 (L : Nat) (xs : Nat → Int32) (Z2 : MiZ) (k : Int → MiM → MiD → MiZ → MiD → Option (Int × (MiM × (MiM × MiM)))) (i : Int) (M0 : MiM) (D1 : MiD) (Z1 : MiZ) (D2 : MiD) : Option (Int × (MiM × (MiM × MiM))) := if 0 ≤ (mi_w (i + 1)) ∧ (mi_w (i + 1)) < (L : Int) then (mi_bhQ (B_X10_patch ((xs (mi_w (i + 1)).toNat).toInt) D1 Z1) (fun k => k == 1 || k == 2) (fun k => if k = 1 then 1 else 2) M0 fun y2 Mx3 Dx4 Zx5 => mi_b2 (B_X11_patch ((xs (mi_w (i + 1)).toNat).toInt) D2) fun y7 Dx8 => mi_bi (B_X11_thrown Dx8) fun y9 => if y9 = y2 then (if y2 ≠ 0 then (k (mi_w (i + 6)) Mx3 Dx4 Zx5 Dx8) else (if (mi_cmp (Mx3.1 25 0 0) y7) = 0 then (k (mi_w (i + 6)) Mx3 Dx4 Zx5 Dx8) else (some (0, (Mx3, ((Dx4, Zx5), (Dx8, Z2))))))) else (some (0, (Mx3, ((Dx4, Zx5), (Dx8, Z2)))))) else none
set_option maxRecDepth 20000 in
theorem S_L_case2 {L : Nat} {xs : Nat → Int32} {Z2 : MiZ} (hL2 : ML Z2) (hW2 : mi_cw mi_s2 Z2) {k : Int → MiM → MiD → MiZ → MiD → Option (Int × (MiM × (MiM × MiM)))} (K : ∀ (i : Int) (M0 : MiM) (D1 : MiD) (Z1 : MiZ) (D2 : MiD), SgP (mi_lP L xs) m_L_law 23 [(35, 0), (3, 0), (42, 0), (27, 0), (0, i), mi_un, mi_un, mi_un] [] (mi_cb M0 (D1, Z1) (D2, Z2)) (fun q => ((1, (0, q.1)), mi_cb q.2.1 q.2.2.1 q.2.2.2)) (k i M0 D1 Z1 D2)) (i : Int) (M0 : MiM) (D1 : MiD) (Z1 : MiZ) (D2 : MiD) (hL : CL Z1) (hW : mi_cw mi_s1 Z1) : SgP (mi_lP L xs) m_L_law 333 [(35, 0), (3, 0), (42, 0), (27, 0), (0, i), mi_un, mi_un, mi_un] [] (mi_cb M0 (D1, Z1) (D2, Z2)) (fun q => ((1, (0, q.1)), mi_cb q.2.1 q.2.2.1 q.2.2.2)) (B_L_case2 L xs Z2 k i M0 D1 Z1 D2) := by
  unfold B_L_case2
  refine SgP.go (pc' := 334) (mi_aload_n dL_law_333 rfl) ?_
  refine SgP.go (pc' := 335) (mi_aload_n dL_law_334 rfl) ?_
  refine SgP.go (pc' := 337) (mi_iload dL_law_335 rfl) ?_
  refine SgP.go (pc' := 338) (mi_iconst (z := 1) dL_law_337 rfl) ?_
  refine SgP.go (pc' := 339) (mi_iadd dL_law_338) ?_
  refine SgP.ck (fun hk1 => ?_)
  refine SgP.goP (pc' := 340) (mi_scr dL_law_339 hk1) ?_
  refine SgP.go (pc' := 341) (mi_aload_n dL_law_340 rfl) ?_
  refine SgP.callHQ (pc' := 344) (μ' := m_L_patch) (args := [(3, 0), (0, ((xs (mi_w (i + 1)).toNat).toInt)), (27, 0)]) (mi_invSH (n := 3) dL_law_341 rfl wN_L_patch rfl ⟨by decide, by decide⟩ wL_L_127 wT_L_patch wB_L wC_L_patch) (fun b hb hw hk => C_L_patch hL hW ((xs (mi_w (i + 1)).toNat).toInt) D1 M0 (D2, Z2) b hb hw hk) (Nat.le_of_ble_eq_true rfl) rfl rfl (fun y2 Mx3 Dx4 Zx5 => ?_)
  refine SgP.go (pc' := 346) (mi_istore (ls1 := [(35, 0), (3, 0), (42, 0), (27, 0), (0, i), (0, y2), mi_un, mi_un]) dL_law_344 (by decide) rfl) ?_
  refine SgP.go (pc' := 347) (mi_aload_n dL_law_346 rfl) ?_
  refine SgP.go (pc' := 348) (mi_aload_n dL_law_347 rfl) ?_
  refine SgP.go (pc' := 350) (mi_iload dL_law_348 rfl) ?_
  refine SgP.go (pc' := 351) (mi_iconst (z := 1) dL_law_350 rfl) ?_
  refine SgP.go (pc' := 352) (mi_iadd dL_law_351) ?_
  refine SgP.goP (pc' := 353) (mi_scr dL_law_352 hk1) ?_
  refine SgP.callD2 (t := 0) (pc' := 356) (μ' := m_X11_patch) (args := [(42, 0), (0, ((xs (mi_w (i + 1)).toNat).toInt))]) (mi_invV (n := 1) (r := 40) dL_law_353 hC_40 (by omega) rfl rfl wN_X11_patch rfl ⟨by decide, by decide⟩ wL_L_130 wI_X11_patch wS_X11_patch wB_X11 wC_X11_patch) (fun v hv => C_X11_patch hL2 ((xs (mi_w (i + 1)).toNat).toInt) D2 v hv) hW2 (show (0 : Nat) < 2 by decide) rfl (Nat.le_of_ble_eq_true rfl) rfl rfl (fun y7 Dx8 => ?_)
  refine SgP.go (pc' := 358) (mi_istore (ls1 := [(35, 0), (3, 0), (42, 0), (27, 0), (0, i), (0, y2), (0, y7), mi_un]) dL_law_356 (by decide) rfl) ?_
  refine SgP.go (pc' := 359) (mi_aload_n dL_law_358 rfl) ?_
  refine SgP.callI2 (t := 0) (pc' := 362) (μ' := m_X11_thrown) (args := [(42, 0)]) (mi_invV (n := 0) (r := 40) dL_law_359 hC_40 (by omega) rfl rfl wN_X11_thrown rfl ⟨by decide, by decide⟩ wL_L_124 wI_X11_thrown wS_X11_thrown wB_X11 wC_X11_thrown) (fun v hv => C_X11_thrown hL2 Dx8 v hv) hW2 (show (0 : Nat) < 2 by decide) rfl (Nat.le_of_ble_eq_true rfl) rfl rfl (fun y9 => ?_)
  refine SgP.go (pc' := 364) (mi_iload dL_law_362 rfl) ?_
  refine SgP.ite (fun h10 => ?_) (fun h10 => ?_)
  · refine SgP.go (pc' := 369) (mi_icmpeq_t (tgt := 369) dL_law_364 (by decide) h10) ?_
    refine SgP.go (pc' := 371) (mi_iload dL_law_369 rfl) ?_
    refine SgP.ite (fun h11 => ?_) (fun h11 => ?_)
    · refine SgP.go (pc' := 386) (mi_ifne_t (tgt := 386) dL_law_371 (by decide) h11) ?_
      refine SgP.go (pc' := 2238) (mi_goto (tgt := 2238) dL_law_386 (by decide)) ?_
      refine SgP.go (pc' := 2238) (MiStep.weak (ls' := [(35, 0), (3, 0), (42, 0), (27, 0), (0, i), mi_un, mi_un, mi_un]) (mi_wk_y (mi_wk_y (mi_wk_y (mi_wk_y (mi_wk_y (mi_wk_n (mi_wk_n (mi_wk_y mi_wk_0))))))))) ?_
      refine SgP.go (pc' := 2241) (mi_iinc (z := 6) (ls1 := [(35, 0), (3, 0), (42, 0), (27, 0), (0, (mi_w (i + 6))), mi_un, mi_un, mi_un]) dL_law_2238 (by decide) rfl rfl rfl) ?_
      refine SgP.go (pc' := 23) (mi_goto (tgt := 23) dL_law_2241 (by decide)) ?_
      exact K (mi_w (i + 6)) Mx3 Dx4 Zx5 Dx8
    · refine SgP.go (pc' := 374) (mi_ifne_f (tgt := 386) dL_law_371 (by decide) h11) ?_
      refine SgP.go (pc' := 375) (mi_aload_n dL_law_374 rfl) ?_
      refine SgP.go (pc' := 376) (mi_iconst (z := 0) dL_law_375 rfl) ?_
      refine SgP.go (pc' := 377) (mi_outld dL_law_376) ?_
      refine SgP.go (pc' := 379) (mi_iload dL_law_377 rfl) ?_
      refine SgP.go (pc' := 380) (mi_i2l dL_law_379) ?_
      refine SgP.go (pc' := 381) (mi_lcmp dL_law_380) ?_
      refine SgP.ite (fun h12 => ?_) (fun h12 => ?_)
      · refine SgP.go (pc' := 386) (mi_ifeq_t (tgt := 386) dL_law_381 (by decide) h12) ?_
        refine SgP.go (pc' := 2238) (mi_goto (tgt := 2238) dL_law_386 (by decide)) ?_
        refine SgP.go (pc' := 2238) (MiStep.weak (ls' := [(35, 0), (3, 0), (42, 0), (27, 0), (0, i), mi_un, mi_un, mi_un]) (mi_wk_y (mi_wk_y (mi_wk_y (mi_wk_y (mi_wk_y (mi_wk_n (mi_wk_n (mi_wk_y mi_wk_0))))))))) ?_
        refine SgP.go (pc' := 2241) (mi_iinc (z := 6) (ls1 := [(35, 0), (3, 0), (42, 0), (27, 0), (0, (mi_w (i + 6))), mi_un, mi_un, mi_un]) dL_law_2238 (by decide) rfl rfl rfl) ?_
        refine SgP.go (pc' := 23) (mi_goto (tgt := 23) dL_law_2241 (by decide)) ?_
        exact K (mi_w (i + 6)) Mx3 Dx4 Zx5 Dx8
      · refine SgP.go (pc' := 384) (mi_ifeq_f (tgt := 386) dL_law_381 (by decide) h12) ?_
        refine SgP.go (pc' := 385) (mi_iconst (z := 0) dL_law_384 rfl) ?_
        exact SgP.ret (mi_ireturn dL_law_385 rfl (Or.inr (Or.inl ⟨rfl, Or.inl rfl⟩)))
  · refine SgP.go (pc' := 367) (mi_icmpeq_f (tgt := 369) dL_law_364 (by decide) h10) ?_
    refine SgP.go (pc' := 368) (mi_iconst (z := 0) dL_law_367 rfl) ?_
    exact SgP.ret (mi_ireturn dL_law_368 rfl (Or.inr (Or.inl ⟨rfl, Or.inl rfl⟩)))
def B_L_case3 (L : Nat) (xs : Nat → Int32) (Z2 : MiZ) (k : Int → MiM → MiD → MiZ → MiD → Option (Int × (MiM × (MiM × MiM)))) (i : Int) (M0 : MiM) (D1 : MiD) (Z1 : MiZ) (D2 : MiD) : Option (Int × (MiM × (MiM × MiM))) := mi_bi (B_X10_fault D1) fun y1 => mi_b2 (B_X11_fault D2) fun y2 Dx3 => if y1 = y2 then (k (mi_w (i + 6)) M0 D1 Z1 Dx3) else (some (0, (M0, ((D1, Z1), (Dx3, Z2)))))
set_option maxRecDepth 20000 in
theorem S_L_case3 {L : Nat} {xs : Nat → Int32} {Z2 : MiZ} (hL2 : ML Z2) (hW2 : mi_cw mi_s2 Z2) {k : Int → MiM → MiD → MiZ → MiD → Option (Int × (MiM × (MiM × MiM)))} (K : ∀ (i : Int) (M0 : MiM) (D1 : MiD) (Z1 : MiZ) (D2 : MiD), SgP (mi_lP L xs) m_L_law 23 [(35, 0), (3, 0), (42, 0), (27, 0), (0, i), mi_un, mi_un, mi_un] [] (mi_cb M0 (D1, Z1) (D2, Z2)) (fun q => ((1, (0, q.1)), mi_cb q.2.1 q.2.2.1 q.2.2.2)) (k i M0 D1 Z1 D2)) (i : Int) (M0 : MiM) (D1 : MiD) (Z1 : MiZ) (D2 : MiD) (hL : CL Z1) (hW : mi_cw mi_s1 Z1) : SgP (mi_lP L xs) m_L_law 389 [(35, 0), (3, 0), (42, 0), (27, 0), (0, i), mi_un, mi_un, mi_un] [] (mi_cb M0 (D1, Z1) (D2, Z2)) (fun q => ((1, (0, q.1)), mi_cb q.2.1 q.2.2.1 q.2.2.2)) (B_L_case3 L xs Z2 k i M0 D1 Z1 D2) := by
  unfold B_L_case3
  refine SgP.go (pc' := 390) (mi_aload_n dL_law_389 rfl) ?_
  refine SgP.callI1 (t := 0) (pc' := 393) (μ' := m_X10_fault) (args := [(3, 0)]) (mi_invV (n := 0) (r := 1) dL_law_390 hC_1 (by omega) rfl rfl wN_X10_fault rfl ⟨by decide, by decide⟩ wL_L_131 wI_X10_fault wS_X10_fault wB_X10 wC_X10_fault) (fun v hv => C_X10_fault hL D1 v hv) hW (show (0 : Nat) < 2 by decide) rfl (Nat.le_of_ble_eq_true rfl) rfl rfl (fun y1 => ?_)
  refine SgP.go (pc' := 394) (mi_aload_n dL_law_393 rfl) ?_
  refine SgP.callD2 (t := 0) (pc' := 397) (μ' := m_X11_fault) (args := [(42, 0)]) (mi_invV (n := 0) (r := 40) dL_law_394 hC_40 (by omega) rfl rfl wN_X11_fault rfl ⟨by decide, by decide⟩ wL_L_134 wI_X11_fault wS_X11_fault wB_X11 wC_X11_fault) (fun v hv => C_X11_fault hL2 D2 v hv) hW2 (show (0 : Nat) < 2 by decide) rfl (Nat.le_of_ble_eq_true rfl) rfl rfl (fun y2 Dx3 => ?_)
  refine SgP.ite (fun h4 => ?_) (fun h4 => ?_)
  · refine SgP.go (pc' := 2238) (mi_icmpeq_t (tgt := 2238) dL_law_397 (by decide) h4) ?_
    refine SgP.go (pc' := 2241) (mi_iinc (z := 6) (ls1 := [(35, 0), (3, 0), (42, 0), (27, 0), (0, (mi_w (i + 6))), mi_un, mi_un, mi_un]) dL_law_2238 (by decide) rfl rfl rfl) ?_
    refine SgP.go (pc' := 23) (mi_goto (tgt := 23) dL_law_2241 (by decide)) ?_
    exact K (mi_w (i + 6)) M0 D1 Z1 Dx3
  · refine SgP.go (pc' := 400) (mi_icmpeq_f (tgt := 2238) dL_law_397 (by decide) h4) ?_
    refine SgP.go (pc' := 401) (mi_iconst (z := 0) dL_law_400 rfl) ?_
    exact SgP.ret (mi_ireturn dL_law_401 rfl (Or.inr (Or.inl ⟨rfl, Or.inl rfl⟩)))
def B_L_case4 (L : Nat) (xs : Nat → Int32) (Z2 : MiZ) (k : Int → MiM → MiD → MiZ → MiD → Option (Int × (MiM × (MiM × MiM)))) (i : Int) (M0 : MiM) (D1 : MiD) (Z1 : MiZ) (D2 : MiD) : Option (Int × (MiM × (MiM × MiM))) := if 0 ≤ (mi_w (i + 1)) ∧ (mi_w (i + 1)) < (L : Int) then (if 0 ≤ (mi_w (i + 2)) ∧ (mi_w (i + 2)) < (L : Int) then (if 0 ≤ (mi_w (i + 3)) ∧ (mi_w (i + 3)) < (L : Int) then (mi_bhT (B_X10_datum ((xs (mi_w (i + 1)).toNat).toInt) ((xs (mi_w (i + 2)).toNat).toInt) ((xs (mi_w (i + 3)).toNat).toInt) D1) (fun k => k == 0 || k == 1) (fun k => if k = 0 then 1 else 2) M0 fun y4 Mx5 Dx6 => mi_b2 (B_X11_datum ((xs (mi_w (i + 1)).toNat).toInt) ((xs (mi_w (i + 2)).toNat).toInt) ((xs (mi_w (i + 3)).toNat).toInt) D2) fun y10 Dx11 => mi_bi (B_X11_thrown Dx11) fun y12 => if y12 = y4 then (if y4 ≠ 0 then (k (mi_w (i + 6)) Mx5 Dx6 Z1 Dx11) else (if (mi_cmp (Mx5.1 25 0 0) y10) = 0 then (k (mi_w (i + 6)) Mx5 Dx6 Z1 Dx11) else (some (0, (Mx5, ((Dx6, Z1), (Dx11, Z2))))))) else (some (0, (Mx5, ((Dx6, Z1), (Dx11, Z2)))))) else none) else none) else none
set_option maxRecDepth 20000 in
theorem S_L_case4 {L : Nat} {xs : Nat → Int32} {Z2 : MiZ} (hL2 : ML Z2) (hW2 : mi_cw mi_s2 Z2) {k : Int → MiM → MiD → MiZ → MiD → Option (Int × (MiM × (MiM × MiM)))} (K : ∀ (i : Int) (M0 : MiM) (D1 : MiD) (Z1 : MiZ) (D2 : MiD), SgP (mi_lP L xs) m_L_law 23 [(35, 0), (3, 0), (42, 0), (27, 0), (0, i), mi_un, mi_un, mi_un] [] (mi_cb M0 (D1, Z1) (D2, Z2)) (fun q => ((1, (0, q.1)), mi_cb q.2.1 q.2.2.1 q.2.2.2)) (k i M0 D1 Z1 D2)) (i : Int) (M0 : MiM) (D1 : MiD) (Z1 : MiZ) (D2 : MiD) (hL : CL Z1) (hW : mi_cw mi_s1 Z1) : SgP (mi_lP L xs) m_L_law 402 [(35, 0), (3, 0), (42, 0), (27, 0), (0, i), mi_un, mi_un, mi_un] [] (mi_cb M0 (D1, Z1) (D2, Z2)) (fun q => ((1, (0, q.1)), mi_cb q.2.1 q.2.2.1 q.2.2.2)) (B_L_case4 L xs Z2 k i M0 D1 Z1 D2) := by
  unfold B_L_case4
  refine SgP.go (pc' := 403) (mi_aload_n dL_law_402 rfl) ?_
  refine SgP.go (pc' := 404) (mi_aload_n dL_law_403 rfl) ?_
  refine SgP.go (pc' := 406) (mi_iload dL_law_404 rfl) ?_
  refine SgP.go (pc' := 407) (mi_iconst (z := 1) dL_law_406 rfl) ?_
  refine SgP.go (pc' := 408) (mi_iadd dL_law_407) ?_
  refine SgP.ck (fun hk1 => ?_)
  refine SgP.goP (pc' := 409) (mi_scr dL_law_408 hk1) ?_
  refine SgP.go (pc' := 410) (mi_aload_n dL_law_409 rfl) ?_
  refine SgP.go (pc' := 412) (mi_iload dL_law_410 rfl) ?_
  refine SgP.go (pc' := 413) (mi_iconst (z := 2) dL_law_412 rfl) ?_
  refine SgP.go (pc' := 414) (mi_iadd dL_law_413) ?_
  refine SgP.ck (fun hk2 => ?_)
  refine SgP.goP (pc' := 415) (mi_scr dL_law_414 hk2) ?_
  refine SgP.go (pc' := 416) (mi_aload_n dL_law_415 rfl) ?_
  refine SgP.go (pc' := 418) (mi_iload dL_law_416 rfl) ?_
  refine SgP.go (pc' := 419) (mi_iconst (z := 3) dL_law_418 rfl) ?_
  refine SgP.go (pc' := 420) (mi_iadd dL_law_419) ?_
  refine SgP.ck (fun hk3 => ?_)
  refine SgP.goP (pc' := 421) (mi_scr dL_law_420 hk3) ?_
  refine SgP.go (pc' := 422) (mi_aload_n dL_law_421 rfl) ?_
  refine SgP.callHT (pc' := 425) (μ' := m_L_datum) (args := [(3, 0), (0, ((xs (mi_w (i + 1)).toNat).toInt)), (0, ((xs (mi_w (i + 2)).toNat).toInt)), (0, ((xs (mi_w (i + 3)).toNat).toInt)), (27, 0)]) (mi_invSH (n := 5) dL_law_422 rfl wN_L_datum rfl ⟨by decide, by decide⟩ wL_L_135 wT_L_datum wB_L wC_L_datum) (fun b hb hk => C_L_datum hL hW ((xs (mi_w (i + 1)).toNat).toInt) ((xs (mi_w (i + 2)).toNat).toInt) ((xs (mi_w (i + 3)).toNat).toInt) D1 M0 (D2, Z2) b hb hk) (Nat.le_of_ble_eq_true rfl) rfl rfl (fun y4 Mx5 Dx6 => ?_)
  refine SgP.go (pc' := 427) (mi_istore (ls1 := [(35, 0), (3, 0), (42, 0), (27, 0), (0, i), (0, y4), mi_un, mi_un]) dL_law_425 (by decide) rfl) ?_
  refine SgP.go (pc' := 428) (mi_aload_n dL_law_427 rfl) ?_
  refine SgP.go (pc' := 429) (mi_aload_n dL_law_428 rfl) ?_
  refine SgP.go (pc' := 431) (mi_iload dL_law_429 rfl) ?_
  refine SgP.go (pc' := 432) (mi_iconst (z := 1) dL_law_431 rfl) ?_
  refine SgP.go (pc' := 433) (mi_iadd dL_law_432) ?_
  refine SgP.goP (pc' := 434) (mi_scr dL_law_433 hk1) ?_
  refine SgP.go (pc' := 435) (mi_aload_n dL_law_434 rfl) ?_
  refine SgP.go (pc' := 437) (mi_iload dL_law_435 rfl) ?_
  refine SgP.go (pc' := 438) (mi_iconst (z := 2) dL_law_437 rfl) ?_
  refine SgP.go (pc' := 439) (mi_iadd dL_law_438) ?_
  refine SgP.goP (pc' := 440) (mi_scr dL_law_439 hk2) ?_
  refine SgP.go (pc' := 441) (mi_aload_n dL_law_440 rfl) ?_
  refine SgP.go (pc' := 443) (mi_iload dL_law_441 rfl) ?_
  refine SgP.go (pc' := 444) (mi_iconst (z := 3) dL_law_443 rfl) ?_
  refine SgP.go (pc' := 445) (mi_iadd dL_law_444) ?_
  refine SgP.goP (pc' := 446) (mi_scr dL_law_445 hk3) ?_
  refine SgP.callD2 (t := 0) (pc' := 449) (μ' := m_X11_datum) (args := [(42, 0), (0, ((xs (mi_w (i + 1)).toNat).toInt)), (0, ((xs (mi_w (i + 2)).toNat).toInt)), (0, ((xs (mi_w (i + 3)).toNat).toInt))]) (mi_invV (n := 3) (r := 40) dL_law_446 hC_40 (by omega) rfl rfl wN_X11_datum rfl ⟨by decide, by decide⟩ wL_L_138 wI_X11_datum wS_X11_datum wB_X11 wC_X11_datum) (fun v hv => C_X11_datum hL2 ((xs (mi_w (i + 1)).toNat).toInt) ((xs (mi_w (i + 2)).toNat).toInt) ((xs (mi_w (i + 3)).toNat).toInt) D2 v hv) hW2 (show (0 : Nat) < 2 by decide) rfl (Nat.le_of_ble_eq_true rfl) rfl rfl (fun y10 Dx11 => ?_)
  refine SgP.go (pc' := 451) (mi_istore (ls1 := [(35, 0), (3, 0), (42, 0), (27, 0), (0, i), (0, y4), (0, y10), mi_un]) dL_law_449 (by decide) rfl) ?_
  refine SgP.go (pc' := 452) (mi_aload_n dL_law_451 rfl) ?_
  refine SgP.callI2 (t := 0) (pc' := 455) (μ' := m_X11_thrown) (args := [(42, 0)]) (mi_invV (n := 0) (r := 40) dL_law_452 hC_40 (by omega) rfl rfl wN_X11_thrown rfl ⟨by decide, by decide⟩ wL_L_124 wI_X11_thrown wS_X11_thrown wB_X11 wC_X11_thrown) (fun v hv => C_X11_thrown hL2 Dx11 v hv) hW2 (show (0 : Nat) < 2 by decide) rfl (Nat.le_of_ble_eq_true rfl) rfl rfl (fun y12 => ?_)
  refine SgP.go (pc' := 457) (mi_iload dL_law_455 rfl) ?_
  refine SgP.ite (fun h13 => ?_) (fun h13 => ?_)
  · refine SgP.go (pc' := 462) (mi_icmpeq_t (tgt := 462) dL_law_457 (by decide) h13) ?_
    refine SgP.go (pc' := 464) (mi_iload dL_law_462 rfl) ?_
    refine SgP.ite (fun h14 => ?_) (fun h14 => ?_)
    · refine SgP.go (pc' := 479) (mi_ifne_t (tgt := 479) dL_law_464 (by decide) h14) ?_
      refine SgP.go (pc' := 2238) (mi_goto (tgt := 2238) dL_law_479 (by decide)) ?_
      refine SgP.go (pc' := 2238) (MiStep.weak (ls' := [(35, 0), (3, 0), (42, 0), (27, 0), (0, i), mi_un, mi_un, mi_un]) (mi_wk_y (mi_wk_y (mi_wk_y (mi_wk_y (mi_wk_y (mi_wk_n (mi_wk_n (mi_wk_y mi_wk_0))))))))) ?_
      refine SgP.go (pc' := 2241) (mi_iinc (z := 6) (ls1 := [(35, 0), (3, 0), (42, 0), (27, 0), (0, (mi_w (i + 6))), mi_un, mi_un, mi_un]) dL_law_2238 (by decide) rfl rfl rfl) ?_
      refine SgP.go (pc' := 23) (mi_goto (tgt := 23) dL_law_2241 (by decide)) ?_
      exact K (mi_w (i + 6)) Mx5 Dx6 Z1 Dx11
    · refine SgP.go (pc' := 467) (mi_ifne_f (tgt := 479) dL_law_464 (by decide) h14) ?_
      refine SgP.go (pc' := 468) (mi_aload_n dL_law_467 rfl) ?_
      refine SgP.go (pc' := 469) (mi_iconst (z := 0) dL_law_468 rfl) ?_
      refine SgP.go (pc' := 470) (mi_outld dL_law_469) ?_
      refine SgP.go (pc' := 472) (mi_iload dL_law_470 rfl) ?_
      refine SgP.go (pc' := 473) (mi_i2l dL_law_472) ?_
      refine SgP.go (pc' := 474) (mi_lcmp dL_law_473) ?_
      refine SgP.ite (fun h15 => ?_) (fun h15 => ?_)
      · refine SgP.go (pc' := 479) (mi_ifeq_t (tgt := 479) dL_law_474 (by decide) h15) ?_
        refine SgP.go (pc' := 2238) (mi_goto (tgt := 2238) dL_law_479 (by decide)) ?_
        refine SgP.go (pc' := 2238) (MiStep.weak (ls' := [(35, 0), (3, 0), (42, 0), (27, 0), (0, i), mi_un, mi_un, mi_un]) (mi_wk_y (mi_wk_y (mi_wk_y (mi_wk_y (mi_wk_y (mi_wk_n (mi_wk_n (mi_wk_y mi_wk_0))))))))) ?_
        refine SgP.go (pc' := 2241) (mi_iinc (z := 6) (ls1 := [(35, 0), (3, 0), (42, 0), (27, 0), (0, (mi_w (i + 6))), mi_un, mi_un, mi_un]) dL_law_2238 (by decide) rfl rfl rfl) ?_
        refine SgP.go (pc' := 23) (mi_goto (tgt := 23) dL_law_2241 (by decide)) ?_
        exact K (mi_w (i + 6)) Mx5 Dx6 Z1 Dx11
      · refine SgP.go (pc' := 477) (mi_ifeq_f (tgt := 479) dL_law_474 (by decide) h15) ?_
        refine SgP.go (pc' := 478) (mi_iconst (z := 0) dL_law_477 rfl) ?_
        exact SgP.ret (mi_ireturn dL_law_478 rfl (Or.inr (Or.inl ⟨rfl, Or.inl rfl⟩)))
  · refine SgP.go (pc' := 460) (mi_icmpeq_f (tgt := 462) dL_law_457 (by decide) h13) ?_
    refine SgP.go (pc' := 461) (mi_iconst (z := 0) dL_law_460 rfl) ?_
    exact SgP.ret (mi_ireturn dL_law_461 rfl (Or.inr (Or.inl ⟨rfl, Or.inl rfl⟩)))
def B_L_case5 (L : Nat) (xs : Nat → Int32) (Z2 : MiZ) (k : Int → MiM → MiD → MiZ → MiD → Option (Int × (MiM × (MiM × MiM)))) (i : Int) (M0 : MiM) (D1 : MiD) (Z1 : MiZ) (D2 : MiD) : Option (Int × (MiM × (MiM × MiM))) := if 0 ≤ (mi_w (i + 1)) ∧ (mi_w (i + 1)) < (L : Int) then (if 0 ≤ (mi_w (i + 2)) ∧ (mi_w (i + 2)) < (L : Int) then (mi_bhT (B_X10_start Z1 ((xs (mi_w (i + 1)).toNat).toInt) ((xs (mi_w (i + 2)).toNat).toInt) D1) (fun k => k == 0 || k == 2) (fun k => if k = 0 then 1 else 2) M0 fun y3 Mx4 Dx5 => mi_b2 (B_X11_start ((xs (mi_w (i + 1)).toNat).toInt) ((xs (mi_w (i + 2)).toNat).toInt) D2) fun y8 Dx9 => mi_bi (B_X11_thrown Dx9) fun y10 => if y10 = y3 then (if y3 ≠ 0 then (k (mi_w (i + 6)) Mx4 Dx5 Z1 Dx9) else (if (mi_cmp (Mx4.1 25 0 0) y8) = 0 then (k (mi_w (i + 6)) Mx4 Dx5 Z1 Dx9) else (some (0, (Mx4, ((Dx5, Z1), (Dx9, Z2))))))) else (some (0, (Mx4, ((Dx5, Z1), (Dx9, Z2)))))) else none) else none
set_option maxRecDepth 20000 in
theorem S_L_case5 {L : Nat} {xs : Nat → Int32} {Z2 : MiZ} (hL2 : ML Z2) (hW2 : mi_cw mi_s2 Z2) {k : Int → MiM → MiD → MiZ → MiD → Option (Int × (MiM × (MiM × MiM)))} (K : ∀ (i : Int) (M0 : MiM) (D1 : MiD) (Z1 : MiZ) (D2 : MiD), SgP (mi_lP L xs) m_L_law 23 [(35, 0), (3, 0), (42, 0), (27, 0), (0, i), mi_un, mi_un, mi_un] [] (mi_cb M0 (D1, Z1) (D2, Z2)) (fun q => ((1, (0, q.1)), mi_cb q.2.1 q.2.2.1 q.2.2.2)) (k i M0 D1 Z1 D2)) (i : Int) (M0 : MiM) (D1 : MiD) (Z1 : MiZ) (D2 : MiD) (hL : CL Z1) (hW : mi_cw mi_s1 Z1) : SgP (mi_lP L xs) m_L_law 482 [(35, 0), (3, 0), (42, 0), (27, 0), (0, i), mi_un, mi_un, mi_un] [] (mi_cb M0 (D1, Z1) (D2, Z2)) (fun q => ((1, (0, q.1)), mi_cb q.2.1 q.2.2.1 q.2.2.2)) (B_L_case5 L xs Z2 k i M0 D1 Z1 D2) := by
  unfold B_L_case5
  refine SgP.go (pc' := 483) (mi_aload_n dL_law_482 rfl) ?_
  refine SgP.go (pc' := 484) (mi_aload_n dL_law_483 rfl) ?_
  refine SgP.go (pc' := 486) (mi_iload dL_law_484 rfl) ?_
  refine SgP.go (pc' := 487) (mi_iconst (z := 1) dL_law_486 rfl) ?_
  refine SgP.go (pc' := 488) (mi_iadd dL_law_487) ?_
  refine SgP.ck (fun hk1 => ?_)
  refine SgP.goP (pc' := 489) (mi_scr dL_law_488 hk1) ?_
  refine SgP.go (pc' := 490) (mi_aload_n dL_law_489 rfl) ?_
  refine SgP.go (pc' := 492) (mi_iload dL_law_490 rfl) ?_
  refine SgP.go (pc' := 493) (mi_iconst (z := 2) dL_law_492 rfl) ?_
  refine SgP.go (pc' := 494) (mi_iadd dL_law_493) ?_
  refine SgP.ck (fun hk2 => ?_)
  refine SgP.goP (pc' := 495) (mi_scr dL_law_494 hk2) ?_
  refine SgP.go (pc' := 496) (mi_aload_n dL_law_495 rfl) ?_
  refine SgP.callHT (pc' := 499) (μ' := m_L_start) (args := [(3, 0), (0, ((xs (mi_w (i + 1)).toNat).toInt)), (0, ((xs (mi_w (i + 2)).toNat).toInt)), (27, 0)]) (mi_invSH (n := 4) dL_law_496 rfl wN_L_start rfl ⟨by decide, by decide⟩ wL_L_139 wT_L_start wB_L wC_L_start) (fun b hb hk => C_L_start hL hW ((xs (mi_w (i + 1)).toNat).toInt) ((xs (mi_w (i + 2)).toNat).toInt) D1 M0 (D2, Z2) b hb hk) (Nat.le_of_ble_eq_true rfl) rfl rfl (fun y3 Mx4 Dx5 => ?_)
  refine SgP.go (pc' := 501) (mi_istore (ls1 := [(35, 0), (3, 0), (42, 0), (27, 0), (0, i), (0, y3), mi_un, mi_un]) dL_law_499 (by decide) rfl) ?_
  refine SgP.go (pc' := 502) (mi_aload_n dL_law_501 rfl) ?_
  refine SgP.go (pc' := 503) (mi_aload_n dL_law_502 rfl) ?_
  refine SgP.go (pc' := 505) (mi_iload dL_law_503 rfl) ?_
  refine SgP.go (pc' := 506) (mi_iconst (z := 1) dL_law_505 rfl) ?_
  refine SgP.go (pc' := 507) (mi_iadd dL_law_506) ?_
  refine SgP.goP (pc' := 508) (mi_scr dL_law_507 hk1) ?_
  refine SgP.go (pc' := 509) (mi_aload_n dL_law_508 rfl) ?_
  refine SgP.go (pc' := 511) (mi_iload dL_law_509 rfl) ?_
  refine SgP.go (pc' := 512) (mi_iconst (z := 2) dL_law_511 rfl) ?_
  refine SgP.go (pc' := 513) (mi_iadd dL_law_512) ?_
  refine SgP.goP (pc' := 514) (mi_scr dL_law_513 hk2) ?_
  refine SgP.callD2 (t := 0) (pc' := 517) (μ' := m_X11_start) (args := [(42, 0), (0, ((xs (mi_w (i + 1)).toNat).toInt)), (0, ((xs (mi_w (i + 2)).toNat).toInt))]) (mi_invV (n := 2) (r := 40) dL_law_514 hC_40 (by omega) rfl rfl wN_X11_start rfl ⟨by decide, by decide⟩ wL_L_141 wI_X11_start wS_X11_start wB_X11 wC_X11_start) (fun v hv => C_X11_start hL2 ((xs (mi_w (i + 1)).toNat).toInt) ((xs (mi_w (i + 2)).toNat).toInt) D2 v hv) hW2 (show (0 : Nat) < 2 by decide) rfl (Nat.le_of_ble_eq_true rfl) rfl rfl (fun y8 Dx9 => ?_)
  refine SgP.go (pc' := 519) (mi_istore (ls1 := [(35, 0), (3, 0), (42, 0), (27, 0), (0, i), (0, y3), (0, y8), mi_un]) dL_law_517 (by decide) rfl) ?_
  refine SgP.go (pc' := 520) (mi_aload_n dL_law_519 rfl) ?_
  refine SgP.callI2 (t := 0) (pc' := 523) (μ' := m_X11_thrown) (args := [(42, 0)]) (mi_invV (n := 0) (r := 40) dL_law_520 hC_40 (by omega) rfl rfl wN_X11_thrown rfl ⟨by decide, by decide⟩ wL_L_124 wI_X11_thrown wS_X11_thrown wB_X11 wC_X11_thrown) (fun v hv => C_X11_thrown hL2 Dx9 v hv) hW2 (show (0 : Nat) < 2 by decide) rfl (Nat.le_of_ble_eq_true rfl) rfl rfl (fun y10 => ?_)
  refine SgP.go (pc' := 525) (mi_iload dL_law_523 rfl) ?_
  refine SgP.ite (fun h11 => ?_) (fun h11 => ?_)
  · refine SgP.go (pc' := 530) (mi_icmpeq_t (tgt := 530) dL_law_525 (by decide) h11) ?_
    refine SgP.go (pc' := 532) (mi_iload dL_law_530 rfl) ?_
    refine SgP.ite (fun h12 => ?_) (fun h12 => ?_)
    · refine SgP.go (pc' := 547) (mi_ifne_t (tgt := 547) dL_law_532 (by decide) h12) ?_
      refine SgP.go (pc' := 2238) (mi_goto (tgt := 2238) dL_law_547 (by decide)) ?_
      refine SgP.go (pc' := 2238) (MiStep.weak (ls' := [(35, 0), (3, 0), (42, 0), (27, 0), (0, i), mi_un, mi_un, mi_un]) (mi_wk_y (mi_wk_y (mi_wk_y (mi_wk_y (mi_wk_y (mi_wk_n (mi_wk_n (mi_wk_y mi_wk_0))))))))) ?_
      refine SgP.go (pc' := 2241) (mi_iinc (z := 6) (ls1 := [(35, 0), (3, 0), (42, 0), (27, 0), (0, (mi_w (i + 6))), mi_un, mi_un, mi_un]) dL_law_2238 (by decide) rfl rfl rfl) ?_
      refine SgP.go (pc' := 23) (mi_goto (tgt := 23) dL_law_2241 (by decide)) ?_
      exact K (mi_w (i + 6)) Mx4 Dx5 Z1 Dx9
    · refine SgP.go (pc' := 535) (mi_ifne_f (tgt := 547) dL_law_532 (by decide) h12) ?_
      refine SgP.go (pc' := 536) (mi_aload_n dL_law_535 rfl) ?_
      refine SgP.go (pc' := 537) (mi_iconst (z := 0) dL_law_536 rfl) ?_
      refine SgP.go (pc' := 538) (mi_outld dL_law_537) ?_
      refine SgP.go (pc' := 540) (mi_iload dL_law_538 rfl) ?_
      refine SgP.go (pc' := 541) (mi_i2l dL_law_540) ?_
      refine SgP.go (pc' := 542) (mi_lcmp dL_law_541) ?_
      refine SgP.ite (fun h13 => ?_) (fun h13 => ?_)
      · refine SgP.go (pc' := 547) (mi_ifeq_t (tgt := 547) dL_law_542 (by decide) h13) ?_
        refine SgP.go (pc' := 2238) (mi_goto (tgt := 2238) dL_law_547 (by decide)) ?_
        refine SgP.go (pc' := 2238) (MiStep.weak (ls' := [(35, 0), (3, 0), (42, 0), (27, 0), (0, i), mi_un, mi_un, mi_un]) (mi_wk_y (mi_wk_y (mi_wk_y (mi_wk_y (mi_wk_y (mi_wk_n (mi_wk_n (mi_wk_y mi_wk_0))))))))) ?_
        refine SgP.go (pc' := 2241) (mi_iinc (z := 6) (ls1 := [(35, 0), (3, 0), (42, 0), (27, 0), (0, (mi_w (i + 6))), mi_un, mi_un, mi_un]) dL_law_2238 (by decide) rfl rfl rfl) ?_
        refine SgP.go (pc' := 23) (mi_goto (tgt := 23) dL_law_2241 (by decide)) ?_
        exact K (mi_w (i + 6)) Mx4 Dx5 Z1 Dx9
      · refine SgP.go (pc' := 545) (mi_ifeq_f (tgt := 547) dL_law_542 (by decide) h13) ?_
        refine SgP.go (pc' := 546) (mi_iconst (z := 0) dL_law_545 rfl) ?_
        exact SgP.ret (mi_ireturn dL_law_546 rfl (Or.inr (Or.inl ⟨rfl, Or.inl rfl⟩)))
  · refine SgP.go (pc' := 528) (mi_icmpeq_f (tgt := 530) dL_law_525 (by decide) h11) ?_
    refine SgP.go (pc' := 529) (mi_iconst (z := 0) dL_law_528 rfl) ?_
    exact SgP.ret (mi_ireturn dL_law_529 rfl (Or.inr (Or.inl ⟨rfl, Or.inl rfl⟩)))
def B_L_case6 (L : Nat) (xs : Nat → Int32) (Z2 : MiZ) (k : Int → MiM → MiD → MiZ → MiD → Option (Int × (MiM × (MiM × MiM)))) (i : Int) (M0 : MiM) (D1 : MiD) (Z1 : MiZ) (D2 : MiD) : Option (Int × (MiM × (MiM × MiM))) := if 0 ≤ (mi_w (i + 1)) ∧ (mi_w (i + 1)) < (L : Int) then (mi_bhT (B_X10_step Z1 ((xs (mi_w (i + 1)).toNat).toInt) D1) (fun k => k == 0 || k == 2) (fun k => if k = 0 then 1 else 2) M0 fun y2 Mx3 Dx4 => mi_b2 (B_X11_step ((xs (mi_w (i + 1)).toNat).toInt) D2) fun y6 Dx7 => mi_bi (B_X11_thrown Dx7) fun y8 => if y8 = y2 then (if y2 ≠ 0 then (k (mi_w (i + 6)) Mx3 Dx4 Z1 Dx7) else (if (mi_cmp (Mx3.1 25 0 0) y6) = 0 then (k (mi_w (i + 6)) Mx3 Dx4 Z1 Dx7) else (some (0, (Mx3, ((Dx4, Z1), (Dx7, Z2))))))) else (some (0, (Mx3, ((Dx4, Z1), (Dx7, Z2)))))) else none
set_option maxRecDepth 20000 in
theorem S_L_case6 {L : Nat} {xs : Nat → Int32} {Z2 : MiZ} (hL2 : ML Z2) (hW2 : mi_cw mi_s2 Z2) {k : Int → MiM → MiD → MiZ → MiD → Option (Int × (MiM × (MiM × MiM)))} (K : ∀ (i : Int) (M0 : MiM) (D1 : MiD) (Z1 : MiZ) (D2 : MiD), SgP (mi_lP L xs) m_L_law 23 [(35, 0), (3, 0), (42, 0), (27, 0), (0, i), mi_un, mi_un, mi_un] [] (mi_cb M0 (D1, Z1) (D2, Z2)) (fun q => ((1, (0, q.1)), mi_cb q.2.1 q.2.2.1 q.2.2.2)) (k i M0 D1 Z1 D2)) (i : Int) (M0 : MiM) (D1 : MiD) (Z1 : MiZ) (D2 : MiD) (hL : CL Z1) (hW : mi_cw mi_s1 Z1) : SgP (mi_lP L xs) m_L_law 550 [(35, 0), (3, 0), (42, 0), (27, 0), (0, i), mi_un, mi_un, mi_un] [] (mi_cb M0 (D1, Z1) (D2, Z2)) (fun q => ((1, (0, q.1)), mi_cb q.2.1 q.2.2.1 q.2.2.2)) (B_L_case6 L xs Z2 k i M0 D1 Z1 D2) := by
  unfold B_L_case6
  refine SgP.go (pc' := 551) (mi_aload_n dL_law_550 rfl) ?_
  refine SgP.go (pc' := 552) (mi_aload_n dL_law_551 rfl) ?_
  refine SgP.go (pc' := 554) (mi_iload dL_law_552 rfl) ?_
  refine SgP.go (pc' := 555) (mi_iconst (z := 1) dL_law_554 rfl) ?_
  refine SgP.go (pc' := 556) (mi_iadd dL_law_555) ?_
  refine SgP.ck (fun hk1 => ?_)
  refine SgP.goP (pc' := 557) (mi_scr dL_law_556 hk1) ?_
  refine SgP.go (pc' := 558) (mi_aload_n dL_law_557 rfl) ?_
  refine SgP.callHT (pc' := 561) (μ' := m_L_step) (args := [(3, 0), (0, ((xs (mi_w (i + 1)).toNat).toInt)), (27, 0)]) (mi_invSH (n := 3) dL_law_558 rfl wN_L_step rfl ⟨by decide, by decide⟩ wL_L_142 wT_L_step wB_L wC_L_step) (fun b hb hk => C_L_step hL hW ((xs (mi_w (i + 1)).toNat).toInt) D1 M0 (D2, Z2) b hb hk) (Nat.le_of_ble_eq_true rfl) rfl rfl (fun y2 Mx3 Dx4 => ?_)
  refine SgP.go (pc' := 563) (mi_istore (ls1 := [(35, 0), (3, 0), (42, 0), (27, 0), (0, i), (0, y2), mi_un, mi_un]) dL_law_561 (by decide) rfl) ?_
  refine SgP.go (pc' := 564) (mi_aload_n dL_law_563 rfl) ?_
  refine SgP.go (pc' := 565) (mi_aload_n dL_law_564 rfl) ?_
  refine SgP.go (pc' := 567) (mi_iload dL_law_565 rfl) ?_
  refine SgP.go (pc' := 568) (mi_iconst (z := 1) dL_law_567 rfl) ?_
  refine SgP.go (pc' := 569) (mi_iadd dL_law_568) ?_
  refine SgP.goP (pc' := 570) (mi_scr dL_law_569 hk1) ?_
  refine SgP.callD2 (t := 0) (pc' := 573) (μ' := m_X11_step) (args := [(42, 0), (0, ((xs (mi_w (i + 1)).toNat).toInt))]) (mi_invV (n := 1) (r := 40) dL_law_570 hC_40 (by omega) rfl rfl wN_X11_step rfl ⟨by decide, by decide⟩ wL_L_144 wI_X11_step wS_X11_step wB_X11 wC_X11_step) (fun v hv => C_X11_step hL2 ((xs (mi_w (i + 1)).toNat).toInt) D2 v hv) hW2 (show (0 : Nat) < 2 by decide) rfl (Nat.le_of_ble_eq_true rfl) rfl rfl (fun y6 Dx7 => ?_)
  refine SgP.go (pc' := 575) (mi_istore (ls1 := [(35, 0), (3, 0), (42, 0), (27, 0), (0, i), (0, y2), (0, y6), mi_un]) dL_law_573 (by decide) rfl) ?_
  refine SgP.go (pc' := 576) (mi_aload_n dL_law_575 rfl) ?_
  refine SgP.callI2 (t := 0) (pc' := 579) (μ' := m_X11_thrown) (args := [(42, 0)]) (mi_invV (n := 0) (r := 40) dL_law_576 hC_40 (by omega) rfl rfl wN_X11_thrown rfl ⟨by decide, by decide⟩ wL_L_124 wI_X11_thrown wS_X11_thrown wB_X11 wC_X11_thrown) (fun v hv => C_X11_thrown hL2 Dx7 v hv) hW2 (show (0 : Nat) < 2 by decide) rfl (Nat.le_of_ble_eq_true rfl) rfl rfl (fun y8 => ?_)
  refine SgP.go (pc' := 581) (mi_iload dL_law_579 rfl) ?_
  refine SgP.ite (fun h9 => ?_) (fun h9 => ?_)
  · refine SgP.go (pc' := 586) (mi_icmpeq_t (tgt := 586) dL_law_581 (by decide) h9) ?_
    refine SgP.go (pc' := 588) (mi_iload dL_law_586 rfl) ?_
    refine SgP.ite (fun h10 => ?_) (fun h10 => ?_)
    · refine SgP.go (pc' := 603) (mi_ifne_t (tgt := 603) dL_law_588 (by decide) h10) ?_
      refine SgP.go (pc' := 2238) (mi_goto (tgt := 2238) dL_law_603 (by decide)) ?_
      refine SgP.go (pc' := 2238) (MiStep.weak (ls' := [(35, 0), (3, 0), (42, 0), (27, 0), (0, i), mi_un, mi_un, mi_un]) (mi_wk_y (mi_wk_y (mi_wk_y (mi_wk_y (mi_wk_y (mi_wk_n (mi_wk_n (mi_wk_y mi_wk_0))))))))) ?_
      refine SgP.go (pc' := 2241) (mi_iinc (z := 6) (ls1 := [(35, 0), (3, 0), (42, 0), (27, 0), (0, (mi_w (i + 6))), mi_un, mi_un, mi_un]) dL_law_2238 (by decide) rfl rfl rfl) ?_
      refine SgP.go (pc' := 23) (mi_goto (tgt := 23) dL_law_2241 (by decide)) ?_
      exact K (mi_w (i + 6)) Mx3 Dx4 Z1 Dx7
    · refine SgP.go (pc' := 591) (mi_ifne_f (tgt := 603) dL_law_588 (by decide) h10) ?_
      refine SgP.go (pc' := 592) (mi_aload_n dL_law_591 rfl) ?_
      refine SgP.go (pc' := 593) (mi_iconst (z := 0) dL_law_592 rfl) ?_
      refine SgP.go (pc' := 594) (mi_outld dL_law_593) ?_
      refine SgP.go (pc' := 596) (mi_iload dL_law_594 rfl) ?_
      refine SgP.go (pc' := 597) (mi_i2l dL_law_596) ?_
      refine SgP.go (pc' := 598) (mi_lcmp dL_law_597) ?_
      refine SgP.ite (fun h11 => ?_) (fun h11 => ?_)
      · refine SgP.go (pc' := 603) (mi_ifeq_t (tgt := 603) dL_law_598 (by decide) h11) ?_
        refine SgP.go (pc' := 2238) (mi_goto (tgt := 2238) dL_law_603 (by decide)) ?_
        refine SgP.go (pc' := 2238) (MiStep.weak (ls' := [(35, 0), (3, 0), (42, 0), (27, 0), (0, i), mi_un, mi_un, mi_un]) (mi_wk_y (mi_wk_y (mi_wk_y (mi_wk_y (mi_wk_y (mi_wk_n (mi_wk_n (mi_wk_y mi_wk_0))))))))) ?_
        refine SgP.go (pc' := 2241) (mi_iinc (z := 6) (ls1 := [(35, 0), (3, 0), (42, 0), (27, 0), (0, (mi_w (i + 6))), mi_un, mi_un, mi_un]) dL_law_2238 (by decide) rfl rfl rfl) ?_
        refine SgP.go (pc' := 23) (mi_goto (tgt := 23) dL_law_2241 (by decide)) ?_
        exact K (mi_w (i + 6)) Mx3 Dx4 Z1 Dx7
      · refine SgP.go (pc' := 601) (mi_ifeq_f (tgt := 603) dL_law_598 (by decide) h11) ?_
        refine SgP.go (pc' := 602) (mi_iconst (z := 0) dL_law_601 rfl) ?_
        exact SgP.ret (mi_ireturn dL_law_602 rfl (Or.inr (Or.inl ⟨rfl, Or.inl rfl⟩)))
  · refine SgP.go (pc' := 584) (mi_icmpeq_f (tgt := 586) dL_law_581 (by decide) h9) ?_
    refine SgP.go (pc' := 585) (mi_iconst (z := 0) dL_law_584 rfl) ?_
    exact SgP.ret (mi_ireturn dL_law_585 rfl (Or.inr (Or.inl ⟨rfl, Or.inl rfl⟩)))
def B_L_case7 (L : Nat) (xs : Nat → Int32) (Z2 : MiZ) (k : Int → MiM → MiD → MiZ → MiD → Option (Int × (MiM × (MiM × MiM)))) (i : Int) (M0 : MiM) (D1 : MiD) (Z1 : MiZ) (D2 : MiD) : Option (Int × (MiM × (MiM × MiM))) := if 0 ≤ (mi_w (i + 1)) ∧ (mi_w (i + 1)) < (L : Int) then (mi_bhT (B_X10_go Z1 ((xs (mi_w (i + 1)).toNat).toInt) D1) (fun k => k == 1) (fun k => 1) M0 fun y2 Mx3 Dx4 => mi_b2 (B_X11_go ((xs (mi_w (i + 1)).toNat).toInt) D2) fun y6 Dx7 => mi_bi (B_X11_thrown Dx7) fun y8 => if y8 = y2 then (if y2 ≠ 0 then (k (mi_w (i + 6)) Mx3 Dx4 Z1 Dx7) else (if (mi_cmp (Mx3.1 25 0 0) y6) = 0 then (k (mi_w (i + 6)) Mx3 Dx4 Z1 Dx7) else (some (0, (Mx3, ((Dx4, Z1), (Dx7, Z2))))))) else (some (0, (Mx3, ((Dx4, Z1), (Dx7, Z2)))))) else none
set_option maxRecDepth 20000 in
theorem S_L_case7 {L : Nat} {xs : Nat → Int32} {Z2 : MiZ} (hL2 : ML Z2) (hW2 : mi_cw mi_s2 Z2) {k : Int → MiM → MiD → MiZ → MiD → Option (Int × (MiM × (MiM × MiM)))} (K : ∀ (i : Int) (M0 : MiM) (D1 : MiD) (Z1 : MiZ) (D2 : MiD), SgP (mi_lP L xs) m_L_law 23 [(35, 0), (3, 0), (42, 0), (27, 0), (0, i), mi_un, mi_un, mi_un] [] (mi_cb M0 (D1, Z1) (D2, Z2)) (fun q => ((1, (0, q.1)), mi_cb q.2.1 q.2.2.1 q.2.2.2)) (k i M0 D1 Z1 D2)) (i : Int) (M0 : MiM) (D1 : MiD) (Z1 : MiZ) (D2 : MiD) (hL : CL Z1) (hW : mi_cw mi_s1 Z1) : SgP (mi_lP L xs) m_L_law 606 [(35, 0), (3, 0), (42, 0), (27, 0), (0, i), mi_un, mi_un, mi_un] [] (mi_cb M0 (D1, Z1) (D2, Z2)) (fun q => ((1, (0, q.1)), mi_cb q.2.1 q.2.2.1 q.2.2.2)) (B_L_case7 L xs Z2 k i M0 D1 Z1 D2) := by
  unfold B_L_case7
  refine SgP.go (pc' := 607) (mi_aload_n dL_law_606 rfl) ?_
  refine SgP.go (pc' := 608) (mi_aload_n dL_law_607 rfl) ?_
  refine SgP.go (pc' := 610) (mi_iload dL_law_608 rfl) ?_
  refine SgP.go (pc' := 611) (mi_iconst (z := 1) dL_law_610 rfl) ?_
  refine SgP.go (pc' := 612) (mi_iadd dL_law_611) ?_
  refine SgP.ck (fun hk1 => ?_)
  refine SgP.goP (pc' := 613) (mi_scr dL_law_612 hk1) ?_
  refine SgP.go (pc' := 614) (mi_aload_n dL_law_613 rfl) ?_
  refine SgP.callHT (pc' := 617) (μ' := m_L_go) (args := [(3, 0), (0, ((xs (mi_w (i + 1)).toNat).toInt)), (27, 0)]) (mi_invSH (n := 3) dL_law_614 rfl wN_L_go rfl ⟨by decide, by decide⟩ wL_L_145 wT_L_go wB_L wC_L_go) (fun b hb hk => C_L_go hL hW ((xs (mi_w (i + 1)).toNat).toInt) D1 M0 (D2, Z2) b hb hk) (Nat.le_of_ble_eq_true rfl) rfl rfl (fun y2 Mx3 Dx4 => ?_)
  refine SgP.go (pc' := 619) (mi_istore (ls1 := [(35, 0), (3, 0), (42, 0), (27, 0), (0, i), (0, y2), mi_un, mi_un]) dL_law_617 (by decide) rfl) ?_
  refine SgP.go (pc' := 620) (mi_aload_n dL_law_619 rfl) ?_
  refine SgP.go (pc' := 621) (mi_aload_n dL_law_620 rfl) ?_
  refine SgP.go (pc' := 623) (mi_iload dL_law_621 rfl) ?_
  refine SgP.go (pc' := 624) (mi_iconst (z := 1) dL_law_623 rfl) ?_
  refine SgP.go (pc' := 625) (mi_iadd dL_law_624) ?_
  refine SgP.goP (pc' := 626) (mi_scr dL_law_625 hk1) ?_
  refine SgP.callD2 (t := 0) (pc' := 629) (μ' := m_X11_go) (args := [(42, 0), (0, ((xs (mi_w (i + 1)).toNat).toInt))]) (mi_invV (n := 1) (r := 40) dL_law_626 hC_40 (by omega) rfl rfl wN_X11_go rfl ⟨by decide, by decide⟩ wL_L_147 wI_X11_go wS_X11_go wB_X11 wC_X11_go) (fun v hv => C_X11_go hL2 ((xs (mi_w (i + 1)).toNat).toInt) D2 v hv) hW2 (show (0 : Nat) < 2 by decide) rfl (Nat.le_of_ble_eq_true rfl) rfl rfl (fun y6 Dx7 => ?_)
  refine SgP.go (pc' := 631) (mi_istore (ls1 := [(35, 0), (3, 0), (42, 0), (27, 0), (0, i), (0, y2), (0, y6), mi_un]) dL_law_629 (by decide) rfl) ?_
  refine SgP.go (pc' := 632) (mi_aload_n dL_law_631 rfl) ?_
  refine SgP.callI2 (t := 0) (pc' := 635) (μ' := m_X11_thrown) (args := [(42, 0)]) (mi_invV (n := 0) (r := 40) dL_law_632 hC_40 (by omega) rfl rfl wN_X11_thrown rfl ⟨by decide, by decide⟩ wL_L_124 wI_X11_thrown wS_X11_thrown wB_X11 wC_X11_thrown) (fun v hv => C_X11_thrown hL2 Dx7 v hv) hW2 (show (0 : Nat) < 2 by decide) rfl (Nat.le_of_ble_eq_true rfl) rfl rfl (fun y8 => ?_)
  refine SgP.go (pc' := 637) (mi_iload dL_law_635 rfl) ?_
  refine SgP.ite (fun h9 => ?_) (fun h9 => ?_)
  · refine SgP.go (pc' := 642) (mi_icmpeq_t (tgt := 642) dL_law_637 (by decide) h9) ?_
    refine SgP.go (pc' := 644) (mi_iload dL_law_642 rfl) ?_
    refine SgP.ite (fun h10 => ?_) (fun h10 => ?_)
    · refine SgP.go (pc' := 659) (mi_ifne_t (tgt := 659) dL_law_644 (by decide) h10) ?_
      refine SgP.go (pc' := 2238) (mi_goto (tgt := 2238) dL_law_659 (by decide)) ?_
      refine SgP.go (pc' := 2238) (MiStep.weak (ls' := [(35, 0), (3, 0), (42, 0), (27, 0), (0, i), mi_un, mi_un, mi_un]) (mi_wk_y (mi_wk_y (mi_wk_y (mi_wk_y (mi_wk_y (mi_wk_n (mi_wk_n (mi_wk_y mi_wk_0))))))))) ?_
      refine SgP.go (pc' := 2241) (mi_iinc (z := 6) (ls1 := [(35, 0), (3, 0), (42, 0), (27, 0), (0, (mi_w (i + 6))), mi_un, mi_un, mi_un]) dL_law_2238 (by decide) rfl rfl rfl) ?_
      refine SgP.go (pc' := 23) (mi_goto (tgt := 23) dL_law_2241 (by decide)) ?_
      exact K (mi_w (i + 6)) Mx3 Dx4 Z1 Dx7
    · refine SgP.go (pc' := 647) (mi_ifne_f (tgt := 659) dL_law_644 (by decide) h10) ?_
      refine SgP.go (pc' := 648) (mi_aload_n dL_law_647 rfl) ?_
      refine SgP.go (pc' := 649) (mi_iconst (z := 0) dL_law_648 rfl) ?_
      refine SgP.go (pc' := 650) (mi_outld dL_law_649) ?_
      refine SgP.go (pc' := 652) (mi_iload dL_law_650 rfl) ?_
      refine SgP.go (pc' := 653) (mi_i2l dL_law_652) ?_
      refine SgP.go (pc' := 654) (mi_lcmp dL_law_653) ?_
      refine SgP.ite (fun h11 => ?_) (fun h11 => ?_)
      · refine SgP.go (pc' := 659) (mi_ifeq_t (tgt := 659) dL_law_654 (by decide) h11) ?_
        refine SgP.go (pc' := 2238) (mi_goto (tgt := 2238) dL_law_659 (by decide)) ?_
        refine SgP.go (pc' := 2238) (MiStep.weak (ls' := [(35, 0), (3, 0), (42, 0), (27, 0), (0, i), mi_un, mi_un, mi_un]) (mi_wk_y (mi_wk_y (mi_wk_y (mi_wk_y (mi_wk_y (mi_wk_n (mi_wk_n (mi_wk_y mi_wk_0))))))))) ?_
        refine SgP.go (pc' := 2241) (mi_iinc (z := 6) (ls1 := [(35, 0), (3, 0), (42, 0), (27, 0), (0, (mi_w (i + 6))), mi_un, mi_un, mi_un]) dL_law_2238 (by decide) rfl rfl rfl) ?_
        refine SgP.go (pc' := 23) (mi_goto (tgt := 23) dL_law_2241 (by decide)) ?_
        exact K (mi_w (i + 6)) Mx3 Dx4 Z1 Dx7
      · refine SgP.go (pc' := 657) (mi_ifeq_f (tgt := 659) dL_law_654 (by decide) h11) ?_
        refine SgP.go (pc' := 658) (mi_iconst (z := 0) dL_law_657 rfl) ?_
        exact SgP.ret (mi_ireturn dL_law_658 rfl (Or.inr (Or.inl ⟨rfl, Or.inl rfl⟩)))
  · refine SgP.go (pc' := 640) (mi_icmpeq_f (tgt := 642) dL_law_637 (by decide) h9) ?_
    refine SgP.go (pc' := 641) (mi_iconst (z := 0) dL_law_640 rfl) ?_
    exact SgP.ret (mi_ireturn dL_law_641 rfl (Or.inr (Or.inl ⟨rfl, Or.inl rfl⟩)))
def B_L_case8 (L : Nat) (xs : Nat → Int32) (Z2 : MiZ) (k : Int → MiM → MiD → MiZ → MiD → Option (Int × (MiM × (MiM × MiM)))) (i : Int) (M0 : MiM) (D1 : MiD) (Z1 : MiZ) (D2 : MiD) : Option (Int × (MiM × (MiM × MiM))) := if 0 ≤ (mi_w (i + 1)) ∧ (mi_w (i + 1)) < (L : Int) then (mi_bhT (B_X10_enable Z1 ((xs (mi_w (i + 1)).toNat).toInt) D1) (fun k => k == 0 || k == 2) (fun k => if k = 0 then 1 else 2) M0 fun y2 Mx3 Dx4 => mi_b2 (B_X11_enable ((xs (mi_w (i + 1)).toNat).toInt) D2) fun y6 Dx7 => mi_bi (B_X11_thrown Dx7) fun y8 => if y8 = y2 then (if y2 ≠ 0 then (k (mi_w (i + 6)) Mx3 Dx4 Z1 Dx7) else (if (mi_cmp (Mx3.1 25 0 0) y6) = 0 then (k (mi_w (i + 6)) Mx3 Dx4 Z1 Dx7) else (some (0, (Mx3, ((Dx4, Z1), (Dx7, Z2))))))) else (some (0, (Mx3, ((Dx4, Z1), (Dx7, Z2)))))) else none
set_option maxRecDepth 20000 in
theorem S_L_case8 {L : Nat} {xs : Nat → Int32} {Z2 : MiZ} (hL2 : ML Z2) (hW2 : mi_cw mi_s2 Z2) {k : Int → MiM → MiD → MiZ → MiD → Option (Int × (MiM × (MiM × MiM)))} (K : ∀ (i : Int) (M0 : MiM) (D1 : MiD) (Z1 : MiZ) (D2 : MiD), SgP (mi_lP L xs) m_L_law 23 [(35, 0), (3, 0), (42, 0), (27, 0), (0, i), mi_un, mi_un, mi_un] [] (mi_cb M0 (D1, Z1) (D2, Z2)) (fun q => ((1, (0, q.1)), mi_cb q.2.1 q.2.2.1 q.2.2.2)) (k i M0 D1 Z1 D2)) (i : Int) (M0 : MiM) (D1 : MiD) (Z1 : MiZ) (D2 : MiD) (hL : CL Z1) (hW : mi_cw mi_s1 Z1) : SgP (mi_lP L xs) m_L_law 662 [(35, 0), (3, 0), (42, 0), (27, 0), (0, i), mi_un, mi_un, mi_un] [] (mi_cb M0 (D1, Z1) (D2, Z2)) (fun q => ((1, (0, q.1)), mi_cb q.2.1 q.2.2.1 q.2.2.2)) (B_L_case8 L xs Z2 k i M0 D1 Z1 D2) := by
  unfold B_L_case8
  refine SgP.go (pc' := 663) (mi_aload_n dL_law_662 rfl) ?_
  refine SgP.go (pc' := 664) (mi_aload_n dL_law_663 rfl) ?_
  refine SgP.go (pc' := 666) (mi_iload dL_law_664 rfl) ?_
  refine SgP.go (pc' := 667) (mi_iconst (z := 1) dL_law_666 rfl) ?_
  refine SgP.go (pc' := 668) (mi_iadd dL_law_667) ?_
  refine SgP.ck (fun hk1 => ?_)
  refine SgP.goP (pc' := 669) (mi_scr dL_law_668 hk1) ?_
  refine SgP.go (pc' := 670) (mi_aload_n dL_law_669 rfl) ?_
  refine SgP.callHT (pc' := 673) (μ' := m_L_enable) (args := [(3, 0), (0, ((xs (mi_w (i + 1)).toNat).toInt)), (27, 0)]) (mi_invSH (n := 3) dL_law_670 rfl wN_L_enable rfl ⟨by decide, by decide⟩ wL_L_148 wT_L_enable wB_L wC_L_enable) (fun b hb hk => C_L_enable hL hW ((xs (mi_w (i + 1)).toNat).toInt) D1 M0 (D2, Z2) b hb hk) (Nat.le_of_ble_eq_true rfl) rfl rfl (fun y2 Mx3 Dx4 => ?_)
  refine SgP.go (pc' := 675) (mi_istore (ls1 := [(35, 0), (3, 0), (42, 0), (27, 0), (0, i), (0, y2), mi_un, mi_un]) dL_law_673 (by decide) rfl) ?_
  refine SgP.go (pc' := 676) (mi_aload_n dL_law_675 rfl) ?_
  refine SgP.go (pc' := 677) (mi_aload_n dL_law_676 rfl) ?_
  refine SgP.go (pc' := 679) (mi_iload dL_law_677 rfl) ?_
  refine SgP.go (pc' := 680) (mi_iconst (z := 1) dL_law_679 rfl) ?_
  refine SgP.go (pc' := 681) (mi_iadd dL_law_680) ?_
  refine SgP.goP (pc' := 682) (mi_scr dL_law_681 hk1) ?_
  refine SgP.callD2 (t := 0) (pc' := 685) (μ' := m_X11_enable) (args := [(42, 0), (0, ((xs (mi_w (i + 1)).toNat).toInt))]) (mi_invV (n := 1) (r := 40) dL_law_682 hC_40 (by omega) rfl rfl wN_X11_enable rfl ⟨by decide, by decide⟩ wL_L_150 wI_X11_enable wS_X11_enable wB_X11 wC_X11_enable) (fun v hv => C_X11_enable hL2 ((xs (mi_w (i + 1)).toNat).toInt) D2 v hv) hW2 (show (0 : Nat) < 2 by decide) rfl (Nat.le_of_ble_eq_true rfl) rfl rfl (fun y6 Dx7 => ?_)
  refine SgP.go (pc' := 687) (mi_istore (ls1 := [(35, 0), (3, 0), (42, 0), (27, 0), (0, i), (0, y2), (0, y6), mi_un]) dL_law_685 (by decide) rfl) ?_
  refine SgP.go (pc' := 688) (mi_aload_n dL_law_687 rfl) ?_
  refine SgP.callI2 (t := 0) (pc' := 691) (μ' := m_X11_thrown) (args := [(42, 0)]) (mi_invV (n := 0) (r := 40) dL_law_688 hC_40 (by omega) rfl rfl wN_X11_thrown rfl ⟨by decide, by decide⟩ wL_L_124 wI_X11_thrown wS_X11_thrown wB_X11 wC_X11_thrown) (fun v hv => C_X11_thrown hL2 Dx7 v hv) hW2 (show (0 : Nat) < 2 by decide) rfl (Nat.le_of_ble_eq_true rfl) rfl rfl (fun y8 => ?_)
  refine SgP.go (pc' := 693) (mi_iload dL_law_691 rfl) ?_
  refine SgP.ite (fun h9 => ?_) (fun h9 => ?_)
  · refine SgP.go (pc' := 698) (mi_icmpeq_t (tgt := 698) dL_law_693 (by decide) h9) ?_
    refine SgP.go (pc' := 700) (mi_iload dL_law_698 rfl) ?_
    refine SgP.ite (fun h10 => ?_) (fun h10 => ?_)
    · refine SgP.go (pc' := 715) (mi_ifne_t (tgt := 715) dL_law_700 (by decide) h10) ?_
      refine SgP.go (pc' := 2238) (mi_goto (tgt := 2238) dL_law_715 (by decide)) ?_
      refine SgP.go (pc' := 2238) (MiStep.weak (ls' := [(35, 0), (3, 0), (42, 0), (27, 0), (0, i), mi_un, mi_un, mi_un]) (mi_wk_y (mi_wk_y (mi_wk_y (mi_wk_y (mi_wk_y (mi_wk_n (mi_wk_n (mi_wk_y mi_wk_0))))))))) ?_
      refine SgP.go (pc' := 2241) (mi_iinc (z := 6) (ls1 := [(35, 0), (3, 0), (42, 0), (27, 0), (0, (mi_w (i + 6))), mi_un, mi_un, mi_un]) dL_law_2238 (by decide) rfl rfl rfl) ?_
      refine SgP.go (pc' := 23) (mi_goto (tgt := 23) dL_law_2241 (by decide)) ?_
      exact K (mi_w (i + 6)) Mx3 Dx4 Z1 Dx7
    · refine SgP.go (pc' := 703) (mi_ifne_f (tgt := 715) dL_law_700 (by decide) h10) ?_
      refine SgP.go (pc' := 704) (mi_aload_n dL_law_703 rfl) ?_
      refine SgP.go (pc' := 705) (mi_iconst (z := 0) dL_law_704 rfl) ?_
      refine SgP.go (pc' := 706) (mi_outld dL_law_705) ?_
      refine SgP.go (pc' := 708) (mi_iload dL_law_706 rfl) ?_
      refine SgP.go (pc' := 709) (mi_i2l dL_law_708) ?_
      refine SgP.go (pc' := 710) (mi_lcmp dL_law_709) ?_
      refine SgP.ite (fun h11 => ?_) (fun h11 => ?_)
      · refine SgP.go (pc' := 715) (mi_ifeq_t (tgt := 715) dL_law_710 (by decide) h11) ?_
        refine SgP.go (pc' := 2238) (mi_goto (tgt := 2238) dL_law_715 (by decide)) ?_
        refine SgP.go (pc' := 2238) (MiStep.weak (ls' := [(35, 0), (3, 0), (42, 0), (27, 0), (0, i), mi_un, mi_un, mi_un]) (mi_wk_y (mi_wk_y (mi_wk_y (mi_wk_y (mi_wk_y (mi_wk_n (mi_wk_n (mi_wk_y mi_wk_0))))))))) ?_
        refine SgP.go (pc' := 2241) (mi_iinc (z := 6) (ls1 := [(35, 0), (3, 0), (42, 0), (27, 0), (0, (mi_w (i + 6))), mi_un, mi_un, mi_un]) dL_law_2238 (by decide) rfl rfl rfl) ?_
        refine SgP.go (pc' := 23) (mi_goto (tgt := 23) dL_law_2241 (by decide)) ?_
        exact K (mi_w (i + 6)) Mx3 Dx4 Z1 Dx7
      · refine SgP.go (pc' := 713) (mi_ifeq_f (tgt := 715) dL_law_710 (by decide) h11) ?_
        refine SgP.go (pc' := 714) (mi_iconst (z := 0) dL_law_713 rfl) ?_
        exact SgP.ret (mi_ireturn dL_law_714 rfl (Or.inr (Or.inl ⟨rfl, Or.inl rfl⟩)))
  · refine SgP.go (pc' := 696) (mi_icmpeq_f (tgt := 698) dL_law_693 (by decide) h9) ?_
    refine SgP.go (pc' := 697) (mi_iconst (z := 0) dL_law_696 rfl) ?_
    exact SgP.ret (mi_ireturn dL_law_697 rfl (Or.inr (Or.inl ⟨rfl, Or.inl rfl⟩)))
def B_L_case9 (L : Nat) (xs : Nat → Int32) (Z2 : MiZ) (k : Int → MiM → MiD → MiZ → MiD → Option (Int × (MiM × (MiM × MiM)))) (i : Int) (M0 : MiM) (D1 : MiD) (Z1 : MiZ) (D2 : MiD) : Option (Int × (MiM × (MiM × MiM))) := mi_bhT (B_X10_disable Z1 D1) (fun k => k == 2) (fun k => 1) M0 fun y1 Mx2 Dx3 => mi_b2 (B_X11_disable D2) fun y4 Dx5 => mi_bi (B_X11_thrown Dx5) fun y6 => if y6 = y1 then (if y1 ≠ 0 then (k (mi_w (i + 6)) Mx2 Dx3 Z1 Dx5) else (if (mi_cmp (Mx2.1 25 0 0) y4) = 0 then (k (mi_w (i + 6)) Mx2 Dx3 Z1 Dx5) else (some (0, (Mx2, ((Dx3, Z1), (Dx5, Z2))))))) else (some (0, (Mx2, ((Dx3, Z1), (Dx5, Z2)))))
set_option maxRecDepth 20000 in
theorem S_L_case9 {L : Nat} {xs : Nat → Int32} {Z2 : MiZ} (hL2 : ML Z2) (hW2 : mi_cw mi_s2 Z2) {k : Int → MiM → MiD → MiZ → MiD → Option (Int × (MiM × (MiM × MiM)))} (K : ∀ (i : Int) (M0 : MiM) (D1 : MiD) (Z1 : MiZ) (D2 : MiD), SgP (mi_lP L xs) m_L_law 23 [(35, 0), (3, 0), (42, 0), (27, 0), (0, i), mi_un, mi_un, mi_un] [] (mi_cb M0 (D1, Z1) (D2, Z2)) (fun q => ((1, (0, q.1)), mi_cb q.2.1 q.2.2.1 q.2.2.2)) (k i M0 D1 Z1 D2)) (i : Int) (M0 : MiM) (D1 : MiD) (Z1 : MiZ) (D2 : MiD) (hL : CL Z1) (hW : mi_cw mi_s1 Z1) : SgP (mi_lP L xs) m_L_law 718 [(35, 0), (3, 0), (42, 0), (27, 0), (0, i), mi_un, mi_un, mi_un] [] (mi_cb M0 (D1, Z1) (D2, Z2)) (fun q => ((1, (0, q.1)), mi_cb q.2.1 q.2.2.1 q.2.2.2)) (B_L_case9 L xs Z2 k i M0 D1 Z1 D2) := by
  unfold B_L_case9
  refine SgP.go (pc' := 719) (mi_aload_n dL_law_718 rfl) ?_
  refine SgP.go (pc' := 720) (mi_aload_n dL_law_719 rfl) ?_
  refine SgP.callHT (pc' := 723) (μ' := m_L_disable) (args := [(3, 0), (27, 0)]) (mi_invSH (n := 2) dL_law_720 rfl wN_L_disable rfl ⟨by decide, by decide⟩ wL_L_151 wT_L_disable wB_L wC_L_disable) (fun b hb hk => C_L_disable hL hW D1 M0 (D2, Z2) b hb hk) (Nat.le_of_ble_eq_true rfl) rfl rfl (fun y1 Mx2 Dx3 => ?_)
  refine SgP.go (pc' := 725) (mi_istore (ls1 := [(35, 0), (3, 0), (42, 0), (27, 0), (0, i), (0, y1), mi_un, mi_un]) dL_law_723 (by decide) rfl) ?_
  refine SgP.go (pc' := 726) (mi_aload_n dL_law_725 rfl) ?_
  refine SgP.callD2 (t := 0) (pc' := 729) (μ' := m_X11_disable) (args := [(42, 0)]) (mi_invV (n := 0) (r := 40) dL_law_726 hC_40 (by omega) rfl rfl wN_X11_disable rfl ⟨by decide, by decide⟩ wL_L_154 wI_X11_disable wS_X11_disable wB_X11 wC_X11_disable) (fun v hv => C_X11_disable hL2 D2 v hv) hW2 (show (0 : Nat) < 2 by decide) rfl (Nat.le_of_ble_eq_true rfl) rfl rfl (fun y4 Dx5 => ?_)
  refine SgP.go (pc' := 731) (mi_istore (ls1 := [(35, 0), (3, 0), (42, 0), (27, 0), (0, i), (0, y1), (0, y4), mi_un]) dL_law_729 (by decide) rfl) ?_
  refine SgP.go (pc' := 732) (mi_aload_n dL_law_731 rfl) ?_
  refine SgP.callI2 (t := 0) (pc' := 735) (μ' := m_X11_thrown) (args := [(42, 0)]) (mi_invV (n := 0) (r := 40) dL_law_732 hC_40 (by omega) rfl rfl wN_X11_thrown rfl ⟨by decide, by decide⟩ wL_L_124 wI_X11_thrown wS_X11_thrown wB_X11 wC_X11_thrown) (fun v hv => C_X11_thrown hL2 Dx5 v hv) hW2 (show (0 : Nat) < 2 by decide) rfl (Nat.le_of_ble_eq_true rfl) rfl rfl (fun y6 => ?_)
  refine SgP.go (pc' := 737) (mi_iload dL_law_735 rfl) ?_
  refine SgP.ite (fun h7 => ?_) (fun h7 => ?_)
  · refine SgP.go (pc' := 742) (mi_icmpeq_t (tgt := 742) dL_law_737 (by decide) h7) ?_
    refine SgP.go (pc' := 744) (mi_iload dL_law_742 rfl) ?_
    refine SgP.ite (fun h8 => ?_) (fun h8 => ?_)
    · refine SgP.go (pc' := 759) (mi_ifne_t (tgt := 759) dL_law_744 (by decide) h8) ?_
      refine SgP.go (pc' := 2238) (mi_goto (tgt := 2238) dL_law_759 (by decide)) ?_
      refine SgP.go (pc' := 2238) (MiStep.weak (ls' := [(35, 0), (3, 0), (42, 0), (27, 0), (0, i), mi_un, mi_un, mi_un]) (mi_wk_y (mi_wk_y (mi_wk_y (mi_wk_y (mi_wk_y (mi_wk_n (mi_wk_n (mi_wk_y mi_wk_0))))))))) ?_
      refine SgP.go (pc' := 2241) (mi_iinc (z := 6) (ls1 := [(35, 0), (3, 0), (42, 0), (27, 0), (0, (mi_w (i + 6))), mi_un, mi_un, mi_un]) dL_law_2238 (by decide) rfl rfl rfl) ?_
      refine SgP.go (pc' := 23) (mi_goto (tgt := 23) dL_law_2241 (by decide)) ?_
      exact K (mi_w (i + 6)) Mx2 Dx3 Z1 Dx5
    · refine SgP.go (pc' := 747) (mi_ifne_f (tgt := 759) dL_law_744 (by decide) h8) ?_
      refine SgP.go (pc' := 748) (mi_aload_n dL_law_747 rfl) ?_
      refine SgP.go (pc' := 749) (mi_iconst (z := 0) dL_law_748 rfl) ?_
      refine SgP.go (pc' := 750) (mi_outld dL_law_749) ?_
      refine SgP.go (pc' := 752) (mi_iload dL_law_750 rfl) ?_
      refine SgP.go (pc' := 753) (mi_i2l dL_law_752) ?_
      refine SgP.go (pc' := 754) (mi_lcmp dL_law_753) ?_
      refine SgP.ite (fun h9 => ?_) (fun h9 => ?_)
      · refine SgP.go (pc' := 759) (mi_ifeq_t (tgt := 759) dL_law_754 (by decide) h9) ?_
        refine SgP.go (pc' := 2238) (mi_goto (tgt := 2238) dL_law_759 (by decide)) ?_
        refine SgP.go (pc' := 2238) (MiStep.weak (ls' := [(35, 0), (3, 0), (42, 0), (27, 0), (0, i), mi_un, mi_un, mi_un]) (mi_wk_y (mi_wk_y (mi_wk_y (mi_wk_y (mi_wk_y (mi_wk_n (mi_wk_n (mi_wk_y mi_wk_0))))))))) ?_
        refine SgP.go (pc' := 2241) (mi_iinc (z := 6) (ls1 := [(35, 0), (3, 0), (42, 0), (27, 0), (0, (mi_w (i + 6))), mi_un, mi_un, mi_un]) dL_law_2238 (by decide) rfl rfl rfl) ?_
        refine SgP.go (pc' := 23) (mi_goto (tgt := 23) dL_law_2241 (by decide)) ?_
        exact K (mi_w (i + 6)) Mx2 Dx3 Z1 Dx5
      · refine SgP.go (pc' := 757) (mi_ifeq_f (tgt := 759) dL_law_754 (by decide) h9) ?_
        refine SgP.go (pc' := 758) (mi_iconst (z := 0) dL_law_757 rfl) ?_
        exact SgP.ret (mi_ireturn dL_law_758 rfl (Or.inr (Or.inl ⟨rfl, Or.inl rfl⟩)))
  · refine SgP.go (pc' := 740) (mi_icmpeq_f (tgt := 742) dL_law_737 (by decide) h7) ?_
    refine SgP.go (pc' := 741) (mi_iconst (z := 0) dL_law_740 rfl) ?_
    exact SgP.ret (mi_ireturn dL_law_741 rfl (Or.inr (Or.inl ⟨rfl, Or.inl rfl⟩)))
def B_L_case10 (L : Nat) (xs : Nat → Int32) (Z2 : MiZ) (k : Int → MiM → MiD → MiZ → MiD → Option (Int × (MiM × (MiM × MiM)))) (i : Int) (M0 : MiM) (D1 : MiD) (Z1 : MiZ) (D2 : MiD) : Option (Int × (MiM × (MiM × MiM))) := mi_bhT (B_X10_reverse Z1 D1) (fun k => k == 2) (fun k => 1) M0 fun y1 Mx2 Dx3 => mi_b2 (B_X11_reverse D2) fun y4 Dx5 => mi_bi (B_X11_thrown Dx5) fun y6 => if y6 = y1 then (if y1 ≠ 0 then (k (mi_w (i + 6)) Mx2 Dx3 Z1 Dx5) else (if (mi_cmp (Mx2.1 25 0 0) y4) = 0 then (k (mi_w (i + 6)) Mx2 Dx3 Z1 Dx5) else (some (0, (Mx2, ((Dx3, Z1), (Dx5, Z2))))))) else (some (0, (Mx2, ((Dx3, Z1), (Dx5, Z2)))))
set_option maxRecDepth 20000 in
theorem S_L_case10 {L : Nat} {xs : Nat → Int32} {Z2 : MiZ} (hL2 : ML Z2) (hW2 : mi_cw mi_s2 Z2) {k : Int → MiM → MiD → MiZ → MiD → Option (Int × (MiM × (MiM × MiM)))} (K : ∀ (i : Int) (M0 : MiM) (D1 : MiD) (Z1 : MiZ) (D2 : MiD), SgP (mi_lP L xs) m_L_law 23 [(35, 0), (3, 0), (42, 0), (27, 0), (0, i), mi_un, mi_un, mi_un] [] (mi_cb M0 (D1, Z1) (D2, Z2)) (fun q => ((1, (0, q.1)), mi_cb q.2.1 q.2.2.1 q.2.2.2)) (k i M0 D1 Z1 D2)) (i : Int) (M0 : MiM) (D1 : MiD) (Z1 : MiZ) (D2 : MiD) (hL : CL Z1) (hW : mi_cw mi_s1 Z1) : SgP (mi_lP L xs) m_L_law 762 [(35, 0), (3, 0), (42, 0), (27, 0), (0, i), mi_un, mi_un, mi_un] [] (mi_cb M0 (D1, Z1) (D2, Z2)) (fun q => ((1, (0, q.1)), mi_cb q.2.1 q.2.2.1 q.2.2.2)) (B_L_case10 L xs Z2 k i M0 D1 Z1 D2) := by
  unfold B_L_case10
  refine SgP.go (pc' := 763) (mi_aload_n dL_law_762 rfl) ?_
  refine SgP.go (pc' := 764) (mi_aload_n dL_law_763 rfl) ?_
  refine SgP.callHT (pc' := 767) (μ' := m_L_reverse) (args := [(3, 0), (27, 0)]) (mi_invSH (n := 2) dL_law_764 rfl wN_L_reverse rfl ⟨by decide, by decide⟩ wL_L_155 wT_L_reverse wB_L wC_L_reverse) (fun b hb hk => C_L_reverse hL hW D1 M0 (D2, Z2) b hb hk) (Nat.le_of_ble_eq_true rfl) rfl rfl (fun y1 Mx2 Dx3 => ?_)
  refine SgP.go (pc' := 769) (mi_istore (ls1 := [(35, 0), (3, 0), (42, 0), (27, 0), (0, i), (0, y1), mi_un, mi_un]) dL_law_767 (by decide) rfl) ?_
  refine SgP.go (pc' := 770) (mi_aload_n dL_law_769 rfl) ?_
  refine SgP.callD2 (t := 0) (pc' := 773) (μ' := m_X11_reverse) (args := [(42, 0)]) (mi_invV (n := 0) (r := 40) dL_law_770 hC_40 (by omega) rfl rfl wN_X11_reverse rfl ⟨by decide, by decide⟩ wL_L_157 wI_X11_reverse wS_X11_reverse wB_X11 wC_X11_reverse) (fun v hv => C_X11_reverse hL2 D2 v hv) hW2 (show (0 : Nat) < 2 by decide) rfl (Nat.le_of_ble_eq_true rfl) rfl rfl (fun y4 Dx5 => ?_)
  refine SgP.go (pc' := 775) (mi_istore (ls1 := [(35, 0), (3, 0), (42, 0), (27, 0), (0, i), (0, y1), (0, y4), mi_un]) dL_law_773 (by decide) rfl) ?_
  refine SgP.go (pc' := 776) (mi_aload_n dL_law_775 rfl) ?_
  refine SgP.callI2 (t := 0) (pc' := 779) (μ' := m_X11_thrown) (args := [(42, 0)]) (mi_invV (n := 0) (r := 40) dL_law_776 hC_40 (by omega) rfl rfl wN_X11_thrown rfl ⟨by decide, by decide⟩ wL_L_124 wI_X11_thrown wS_X11_thrown wB_X11 wC_X11_thrown) (fun v hv => C_X11_thrown hL2 Dx5 v hv) hW2 (show (0 : Nat) < 2 by decide) rfl (Nat.le_of_ble_eq_true rfl) rfl rfl (fun y6 => ?_)
  refine SgP.go (pc' := 781) (mi_iload dL_law_779 rfl) ?_
  refine SgP.ite (fun h7 => ?_) (fun h7 => ?_)
  · refine SgP.go (pc' := 786) (mi_icmpeq_t (tgt := 786) dL_law_781 (by decide) h7) ?_
    refine SgP.go (pc' := 788) (mi_iload dL_law_786 rfl) ?_
    refine SgP.ite (fun h8 => ?_) (fun h8 => ?_)
    · refine SgP.go (pc' := 803) (mi_ifne_t (tgt := 803) dL_law_788 (by decide) h8) ?_
      refine SgP.go (pc' := 2238) (mi_goto (tgt := 2238) dL_law_803 (by decide)) ?_
      refine SgP.go (pc' := 2238) (MiStep.weak (ls' := [(35, 0), (3, 0), (42, 0), (27, 0), (0, i), mi_un, mi_un, mi_un]) (mi_wk_y (mi_wk_y (mi_wk_y (mi_wk_y (mi_wk_y (mi_wk_n (mi_wk_n (mi_wk_y mi_wk_0))))))))) ?_
      refine SgP.go (pc' := 2241) (mi_iinc (z := 6) (ls1 := [(35, 0), (3, 0), (42, 0), (27, 0), (0, (mi_w (i + 6))), mi_un, mi_un, mi_un]) dL_law_2238 (by decide) rfl rfl rfl) ?_
      refine SgP.go (pc' := 23) (mi_goto (tgt := 23) dL_law_2241 (by decide)) ?_
      exact K (mi_w (i + 6)) Mx2 Dx3 Z1 Dx5
    · refine SgP.go (pc' := 791) (mi_ifne_f (tgt := 803) dL_law_788 (by decide) h8) ?_
      refine SgP.go (pc' := 792) (mi_aload_n dL_law_791 rfl) ?_
      refine SgP.go (pc' := 793) (mi_iconst (z := 0) dL_law_792 rfl) ?_
      refine SgP.go (pc' := 794) (mi_outld dL_law_793) ?_
      refine SgP.go (pc' := 796) (mi_iload dL_law_794 rfl) ?_
      refine SgP.go (pc' := 797) (mi_i2l dL_law_796) ?_
      refine SgP.go (pc' := 798) (mi_lcmp dL_law_797) ?_
      refine SgP.ite (fun h9 => ?_) (fun h9 => ?_)
      · refine SgP.go (pc' := 803) (mi_ifeq_t (tgt := 803) dL_law_798 (by decide) h9) ?_
        refine SgP.go (pc' := 2238) (mi_goto (tgt := 2238) dL_law_803 (by decide)) ?_
        refine SgP.go (pc' := 2238) (MiStep.weak (ls' := [(35, 0), (3, 0), (42, 0), (27, 0), (0, i), mi_un, mi_un, mi_un]) (mi_wk_y (mi_wk_y (mi_wk_y (mi_wk_y (mi_wk_y (mi_wk_n (mi_wk_n (mi_wk_y mi_wk_0))))))))) ?_
        refine SgP.go (pc' := 2241) (mi_iinc (z := 6) (ls1 := [(35, 0), (3, 0), (42, 0), (27, 0), (0, (mi_w (i + 6))), mi_un, mi_un, mi_un]) dL_law_2238 (by decide) rfl rfl rfl) ?_
        refine SgP.go (pc' := 23) (mi_goto (tgt := 23) dL_law_2241 (by decide)) ?_
        exact K (mi_w (i + 6)) Mx2 Dx3 Z1 Dx5
      · refine SgP.go (pc' := 801) (mi_ifeq_f (tgt := 803) dL_law_798 (by decide) h9) ?_
        refine SgP.go (pc' := 802) (mi_iconst (z := 0) dL_law_801 rfl) ?_
        exact SgP.ret (mi_ireturn dL_law_802 rfl (Or.inr (Or.inl ⟨rfl, Or.inl rfl⟩)))
  · refine SgP.go (pc' := 784) (mi_icmpeq_f (tgt := 786) dL_law_781 (by decide) h7) ?_
    refine SgP.go (pc' := 785) (mi_iconst (z := 0) dL_law_784 rfl) ?_
    exact SgP.ret (mi_ireturn dL_law_785 rfl (Or.inr (Or.inl ⟨rfl, Or.inl rfl⟩)))
def B_L_case11 (L : Nat) (xs : Nat → Int32) (Z2 : MiZ) (k : Int → MiM → MiD → MiZ → MiD → Option (Int × (MiM × (MiM × MiM)))) (i : Int) (M0 : MiM) (D1 : MiD) (Z1 : MiZ) (D2 : MiD) : Option (Int × (MiM × (MiM × MiM))) := mi_bhT (B_X10_force Z1 D1) (fun k => k == 2) (fun k => 1) M0 fun y1 Mx2 Dx3 => mi_b2 (B_X11_force D2) fun y4 Dx5 => mi_bi (B_X11_thrown Dx5) fun y6 => if y6 = y1 then (if y1 ≠ 0 then (k (mi_w (i + 6)) Mx2 Dx3 Z1 Dx5) else (if (mi_cmp (Mx2.1 25 0 0) y4) = 0 then (k (mi_w (i + 6)) Mx2 Dx3 Z1 Dx5) else (some (0, (Mx2, ((Dx3, Z1), (Dx5, Z2))))))) else (some (0, (Mx2, ((Dx3, Z1), (Dx5, Z2)))))
set_option maxRecDepth 20000 in
theorem S_L_case11 {L : Nat} {xs : Nat → Int32} {Z2 : MiZ} (hL2 : ML Z2) (hW2 : mi_cw mi_s2 Z2) {k : Int → MiM → MiD → MiZ → MiD → Option (Int × (MiM × (MiM × MiM)))} (K : ∀ (i : Int) (M0 : MiM) (D1 : MiD) (Z1 : MiZ) (D2 : MiD), SgP (mi_lP L xs) m_L_law 23 [(35, 0), (3, 0), (42, 0), (27, 0), (0, i), mi_un, mi_un, mi_un] [] (mi_cb M0 (D1, Z1) (D2, Z2)) (fun q => ((1, (0, q.1)), mi_cb q.2.1 q.2.2.1 q.2.2.2)) (k i M0 D1 Z1 D2)) (i : Int) (M0 : MiM) (D1 : MiD) (Z1 : MiZ) (D2 : MiD) (hL : CL Z1) (hW : mi_cw mi_s1 Z1) : SgP (mi_lP L xs) m_L_law 806 [(35, 0), (3, 0), (42, 0), (27, 0), (0, i), mi_un, mi_un, mi_un] [] (mi_cb M0 (D1, Z1) (D2, Z2)) (fun q => ((1, (0, q.1)), mi_cb q.2.1 q.2.2.1 q.2.2.2)) (B_L_case11 L xs Z2 k i M0 D1 Z1 D2) := by
  unfold B_L_case11
  refine SgP.go (pc' := 807) (mi_aload_n dL_law_806 rfl) ?_
  refine SgP.go (pc' := 808) (mi_aload_n dL_law_807 rfl) ?_
  refine SgP.callHT (pc' := 811) (μ' := m_L_force) (args := [(3, 0), (27, 0)]) (mi_invSH (n := 2) dL_law_808 rfl wN_L_force rfl ⟨by decide, by decide⟩ wL_L_158 wT_L_force wB_L wC_L_force) (fun b hb hk => C_L_force hL hW D1 M0 (D2, Z2) b hb hk) (Nat.le_of_ble_eq_true rfl) rfl rfl (fun y1 Mx2 Dx3 => ?_)
  refine SgP.go (pc' := 813) (mi_istore (ls1 := [(35, 0), (3, 0), (42, 0), (27, 0), (0, i), (0, y1), mi_un, mi_un]) dL_law_811 (by decide) rfl) ?_
  refine SgP.go (pc' := 814) (mi_aload_n dL_law_813 rfl) ?_
  refine SgP.callD2 (t := 0) (pc' := 817) (μ' := m_X11_force) (args := [(42, 0)]) (mi_invV (n := 0) (r := 40) dL_law_814 hC_40 (by omega) rfl rfl wN_X11_force rfl ⟨by decide, by decide⟩ wL_L_160 wI_X11_force wS_X11_force wB_X11 wC_X11_force) (fun v hv => C_X11_force hL2 D2 v hv) hW2 (show (0 : Nat) < 2 by decide) rfl (Nat.le_of_ble_eq_true rfl) rfl rfl (fun y4 Dx5 => ?_)
  refine SgP.go (pc' := 819) (mi_istore (ls1 := [(35, 0), (3, 0), (42, 0), (27, 0), (0, i), (0, y1), (0, y4), mi_un]) dL_law_817 (by decide) rfl) ?_
  refine SgP.go (pc' := 820) (mi_aload_n dL_law_819 rfl) ?_
  refine SgP.callI2 (t := 0) (pc' := 823) (μ' := m_X11_thrown) (args := [(42, 0)]) (mi_invV (n := 0) (r := 40) dL_law_820 hC_40 (by omega) rfl rfl wN_X11_thrown rfl ⟨by decide, by decide⟩ wL_L_124 wI_X11_thrown wS_X11_thrown wB_X11 wC_X11_thrown) (fun v hv => C_X11_thrown hL2 Dx5 v hv) hW2 (show (0 : Nat) < 2 by decide) rfl (Nat.le_of_ble_eq_true rfl) rfl rfl (fun y6 => ?_)
  refine SgP.go (pc' := 825) (mi_iload dL_law_823 rfl) ?_
  refine SgP.ite (fun h7 => ?_) (fun h7 => ?_)
  · refine SgP.go (pc' := 830) (mi_icmpeq_t (tgt := 830) dL_law_825 (by decide) h7) ?_
    refine SgP.go (pc' := 832) (mi_iload dL_law_830 rfl) ?_
    refine SgP.ite (fun h8 => ?_) (fun h8 => ?_)
    · refine SgP.go (pc' := 847) (mi_ifne_t (tgt := 847) dL_law_832 (by decide) h8) ?_
      refine SgP.go (pc' := 2238) (mi_goto (tgt := 2238) dL_law_847 (by decide)) ?_
      refine SgP.go (pc' := 2238) (MiStep.weak (ls' := [(35, 0), (3, 0), (42, 0), (27, 0), (0, i), mi_un, mi_un, mi_un]) (mi_wk_y (mi_wk_y (mi_wk_y (mi_wk_y (mi_wk_y (mi_wk_n (mi_wk_n (mi_wk_y mi_wk_0))))))))) ?_
      refine SgP.go (pc' := 2241) (mi_iinc (z := 6) (ls1 := [(35, 0), (3, 0), (42, 0), (27, 0), (0, (mi_w (i + 6))), mi_un, mi_un, mi_un]) dL_law_2238 (by decide) rfl rfl rfl) ?_
      refine SgP.go (pc' := 23) (mi_goto (tgt := 23) dL_law_2241 (by decide)) ?_
      exact K (mi_w (i + 6)) Mx2 Dx3 Z1 Dx5
    · refine SgP.go (pc' := 835) (mi_ifne_f (tgt := 847) dL_law_832 (by decide) h8) ?_
      refine SgP.go (pc' := 836) (mi_aload_n dL_law_835 rfl) ?_
      refine SgP.go (pc' := 837) (mi_iconst (z := 0) dL_law_836 rfl) ?_
      refine SgP.go (pc' := 838) (mi_outld dL_law_837) ?_
      refine SgP.go (pc' := 840) (mi_iload dL_law_838 rfl) ?_
      refine SgP.go (pc' := 841) (mi_i2l dL_law_840) ?_
      refine SgP.go (pc' := 842) (mi_lcmp dL_law_841) ?_
      refine SgP.ite (fun h9 => ?_) (fun h9 => ?_)
      · refine SgP.go (pc' := 847) (mi_ifeq_t (tgt := 847) dL_law_842 (by decide) h9) ?_
        refine SgP.go (pc' := 2238) (mi_goto (tgt := 2238) dL_law_847 (by decide)) ?_
        refine SgP.go (pc' := 2238) (MiStep.weak (ls' := [(35, 0), (3, 0), (42, 0), (27, 0), (0, i), mi_un, mi_un, mi_un]) (mi_wk_y (mi_wk_y (mi_wk_y (mi_wk_y (mi_wk_y (mi_wk_n (mi_wk_n (mi_wk_y mi_wk_0))))))))) ?_
        refine SgP.go (pc' := 2241) (mi_iinc (z := 6) (ls1 := [(35, 0), (3, 0), (42, 0), (27, 0), (0, (mi_w (i + 6))), mi_un, mi_un, mi_un]) dL_law_2238 (by decide) rfl rfl rfl) ?_
        refine SgP.go (pc' := 23) (mi_goto (tgt := 23) dL_law_2241 (by decide)) ?_
        exact K (mi_w (i + 6)) Mx2 Dx3 Z1 Dx5
      · refine SgP.go (pc' := 845) (mi_ifeq_f (tgt := 847) dL_law_842 (by decide) h9) ?_
        refine SgP.go (pc' := 846) (mi_iconst (z := 0) dL_law_845 rfl) ?_
        exact SgP.ret (mi_ireturn dL_law_846 rfl (Or.inr (Or.inl ⟨rfl, Or.inl rfl⟩)))
  · refine SgP.go (pc' := 828) (mi_icmpeq_f (tgt := 830) dL_law_825 (by decide) h7) ?_
    refine SgP.go (pc' := 829) (mi_iconst (z := 0) dL_law_828 rfl) ?_
    exact SgP.ret (mi_ireturn dL_law_829 rfl (Or.inr (Or.inl ⟨rfl, Or.inl rfl⟩)))
def B_L_case12 (L : Nat) (xs : Nat → Int32) (Z2 : MiZ) (k : Int → MiM → MiD → MiZ → MiD → Option (Int × (MiM × (MiM × MiM)))) (i : Int) (M0 : MiM) (D1 : MiD) (Z1 : MiZ) (D2 : MiD) : Option (Int × (MiM × (MiM × MiM))) := if 0 ≤ (mi_w (i + 1)) ∧ (mi_w (i + 1)) < (L : Int) then (mi_bhT (B_X10_kill Z1 ((xs (mi_w (i + 1)).toNat).toInt) D1) (fun k => k == 0) (fun k => 1) M0 fun y2 Mx3 Dx4 => mi_b2 (B_X11_kill ((xs (mi_w (i + 1)).toNat).toInt) D2) fun y6 Dx7 => mi_bi (B_X11_thrown Dx7) fun y8 => if y8 = y2 then (if y2 ≠ 0 then (k (mi_w (i + 6)) Mx3 Dx4 Z1 Dx7) else (if (mi_cmp (Mx3.1 25 0 0) y6) = 0 then (k (mi_w (i + 6)) Mx3 Dx4 Z1 Dx7) else (some (0, (Mx3, ((Dx4, Z1), (Dx7, Z2))))))) else (some (0, (Mx3, ((Dx4, Z1), (Dx7, Z2)))))) else none
set_option maxRecDepth 20000 in
theorem S_L_case12 {L : Nat} {xs : Nat → Int32} {Z2 : MiZ} (hL2 : ML Z2) (hW2 : mi_cw mi_s2 Z2) {k : Int → MiM → MiD → MiZ → MiD → Option (Int × (MiM × (MiM × MiM)))} (K : ∀ (i : Int) (M0 : MiM) (D1 : MiD) (Z1 : MiZ) (D2 : MiD), SgP (mi_lP L xs) m_L_law 23 [(35, 0), (3, 0), (42, 0), (27, 0), (0, i), mi_un, mi_un, mi_un] [] (mi_cb M0 (D1, Z1) (D2, Z2)) (fun q => ((1, (0, q.1)), mi_cb q.2.1 q.2.2.1 q.2.2.2)) (k i M0 D1 Z1 D2)) (i : Int) (M0 : MiM) (D1 : MiD) (Z1 : MiZ) (D2 : MiD) (hL : CL Z1) (hW : mi_cw mi_s1 Z1) : SgP (mi_lP L xs) m_L_law 850 [(35, 0), (3, 0), (42, 0), (27, 0), (0, i), mi_un, mi_un, mi_un] [] (mi_cb M0 (D1, Z1) (D2, Z2)) (fun q => ((1, (0, q.1)), mi_cb q.2.1 q.2.2.1 q.2.2.2)) (B_L_case12 L xs Z2 k i M0 D1 Z1 D2) := by
  unfold B_L_case12
  refine SgP.go (pc' := 851) (mi_aload_n dL_law_850 rfl) ?_
  refine SgP.go (pc' := 852) (mi_aload_n dL_law_851 rfl) ?_
  refine SgP.go (pc' := 854) (mi_iload dL_law_852 rfl) ?_
  refine SgP.go (pc' := 855) (mi_iconst (z := 1) dL_law_854 rfl) ?_
  refine SgP.go (pc' := 856) (mi_iadd dL_law_855) ?_
  refine SgP.ck (fun hk1 => ?_)
  refine SgP.goP (pc' := 857) (mi_scr dL_law_856 hk1) ?_
  refine SgP.go (pc' := 858) (mi_aload_n dL_law_857 rfl) ?_
  refine SgP.callHT (pc' := 861) (μ' := m_L_kill) (args := [(3, 0), (0, ((xs (mi_w (i + 1)).toNat).toInt)), (27, 0)]) (mi_invSH (n := 3) dL_law_858 rfl wN_L_kill rfl ⟨by decide, by decide⟩ wL_L_161 wT_L_kill wB_L wC_L_kill) (fun b hb hk => C_L_kill hL hW ((xs (mi_w (i + 1)).toNat).toInt) D1 M0 (D2, Z2) b hb hk) (Nat.le_of_ble_eq_true rfl) rfl rfl (fun y2 Mx3 Dx4 => ?_)
  refine SgP.go (pc' := 863) (mi_istore (ls1 := [(35, 0), (3, 0), (42, 0), (27, 0), (0, i), (0, y2), mi_un, mi_un]) dL_law_861 (by decide) rfl) ?_
  refine SgP.go (pc' := 864) (mi_aload_n dL_law_863 rfl) ?_
  refine SgP.go (pc' := 865) (mi_aload_n dL_law_864 rfl) ?_
  refine SgP.go (pc' := 867) (mi_iload dL_law_865 rfl) ?_
  refine SgP.go (pc' := 868) (mi_iconst (z := 1) dL_law_867 rfl) ?_
  refine SgP.go (pc' := 869) (mi_iadd dL_law_868) ?_
  refine SgP.goP (pc' := 870) (mi_scr dL_law_869 hk1) ?_
  refine SgP.callD2 (t := 0) (pc' := 873) (μ' := m_X11_kill) (args := [(42, 0), (0, ((xs (mi_w (i + 1)).toNat).toInt))]) (mi_invV (n := 1) (r := 40) dL_law_870 hC_40 (by omega) rfl rfl wN_X11_kill rfl ⟨by decide, by decide⟩ wL_L_163 wI_X11_kill wS_X11_kill wB_X11 wC_X11_kill) (fun v hv => C_X11_kill hL2 ((xs (mi_w (i + 1)).toNat).toInt) D2 v hv) hW2 (show (0 : Nat) < 2 by decide) rfl (Nat.le_of_ble_eq_true rfl) rfl rfl (fun y6 Dx7 => ?_)
  refine SgP.go (pc' := 875) (mi_istore (ls1 := [(35, 0), (3, 0), (42, 0), (27, 0), (0, i), (0, y2), (0, y6), mi_un]) dL_law_873 (by decide) rfl) ?_
  refine SgP.go (pc' := 876) (mi_aload_n dL_law_875 rfl) ?_
  refine SgP.callI2 (t := 0) (pc' := 879) (μ' := m_X11_thrown) (args := [(42, 0)]) (mi_invV (n := 0) (r := 40) dL_law_876 hC_40 (by omega) rfl rfl wN_X11_thrown rfl ⟨by decide, by decide⟩ wL_L_124 wI_X11_thrown wS_X11_thrown wB_X11 wC_X11_thrown) (fun v hv => C_X11_thrown hL2 Dx7 v hv) hW2 (show (0 : Nat) < 2 by decide) rfl (Nat.le_of_ble_eq_true rfl) rfl rfl (fun y8 => ?_)
  refine SgP.go (pc' := 881) (mi_iload dL_law_879 rfl) ?_
  refine SgP.ite (fun h9 => ?_) (fun h9 => ?_)
  · refine SgP.go (pc' := 886) (mi_icmpeq_t (tgt := 886) dL_law_881 (by decide) h9) ?_
    refine SgP.go (pc' := 888) (mi_iload dL_law_886 rfl) ?_
    refine SgP.ite (fun h10 => ?_) (fun h10 => ?_)
    · refine SgP.go (pc' := 903) (mi_ifne_t (tgt := 903) dL_law_888 (by decide) h10) ?_
      refine SgP.go (pc' := 2238) (mi_goto (tgt := 2238) dL_law_903 (by decide)) ?_
      refine SgP.go (pc' := 2238) (MiStep.weak (ls' := [(35, 0), (3, 0), (42, 0), (27, 0), (0, i), mi_un, mi_un, mi_un]) (mi_wk_y (mi_wk_y (mi_wk_y (mi_wk_y (mi_wk_y (mi_wk_n (mi_wk_n (mi_wk_y mi_wk_0))))))))) ?_
      refine SgP.go (pc' := 2241) (mi_iinc (z := 6) (ls1 := [(35, 0), (3, 0), (42, 0), (27, 0), (0, (mi_w (i + 6))), mi_un, mi_un, mi_un]) dL_law_2238 (by decide) rfl rfl rfl) ?_
      refine SgP.go (pc' := 23) (mi_goto (tgt := 23) dL_law_2241 (by decide)) ?_
      exact K (mi_w (i + 6)) Mx3 Dx4 Z1 Dx7
    · refine SgP.go (pc' := 891) (mi_ifne_f (tgt := 903) dL_law_888 (by decide) h10) ?_
      refine SgP.go (pc' := 892) (mi_aload_n dL_law_891 rfl) ?_
      refine SgP.go (pc' := 893) (mi_iconst (z := 0) dL_law_892 rfl) ?_
      refine SgP.go (pc' := 894) (mi_outld dL_law_893) ?_
      refine SgP.go (pc' := 896) (mi_iload dL_law_894 rfl) ?_
      refine SgP.go (pc' := 897) (mi_i2l dL_law_896) ?_
      refine SgP.go (pc' := 898) (mi_lcmp dL_law_897) ?_
      refine SgP.ite (fun h11 => ?_) (fun h11 => ?_)
      · refine SgP.go (pc' := 903) (mi_ifeq_t (tgt := 903) dL_law_898 (by decide) h11) ?_
        refine SgP.go (pc' := 2238) (mi_goto (tgt := 2238) dL_law_903 (by decide)) ?_
        refine SgP.go (pc' := 2238) (MiStep.weak (ls' := [(35, 0), (3, 0), (42, 0), (27, 0), (0, i), mi_un, mi_un, mi_un]) (mi_wk_y (mi_wk_y (mi_wk_y (mi_wk_y (mi_wk_y (mi_wk_n (mi_wk_n (mi_wk_y mi_wk_0))))))))) ?_
        refine SgP.go (pc' := 2241) (mi_iinc (z := 6) (ls1 := [(35, 0), (3, 0), (42, 0), (27, 0), (0, (mi_w (i + 6))), mi_un, mi_un, mi_un]) dL_law_2238 (by decide) rfl rfl rfl) ?_
        refine SgP.go (pc' := 23) (mi_goto (tgt := 23) dL_law_2241 (by decide)) ?_
        exact K (mi_w (i + 6)) Mx3 Dx4 Z1 Dx7
      · refine SgP.go (pc' := 901) (mi_ifeq_f (tgt := 903) dL_law_898 (by decide) h11) ?_
        refine SgP.go (pc' := 902) (mi_iconst (z := 0) dL_law_901 rfl) ?_
        exact SgP.ret (mi_ireturn dL_law_902 rfl (Or.inr (Or.inl ⟨rfl, Or.inl rfl⟩)))
  · refine SgP.go (pc' := 884) (mi_icmpeq_f (tgt := 886) dL_law_881 (by decide) h9) ?_
    refine SgP.go (pc' := 885) (mi_iconst (z := 0) dL_law_884 rfl) ?_
    exact SgP.ret (mi_ireturn dL_law_885 rfl (Or.inr (Or.inl ⟨rfl, Or.inl rfl⟩)))
def B_L_case13 (L : Nat) (xs : Nat → Int32) (Z2 : MiZ) (k : Int → MiM → MiD → MiZ → MiD → Option (Int × (MiM × (MiM × MiM)))) (i : Int) (M0 : MiM) (D1 : MiD) (Z1 : MiZ) (D2 : MiD) : Option (Int × (MiM × (MiM × MiM))) := if 0 ≤ (mi_w (i + 1)) ∧ (mi_w (i + 1)) < (L : Int) then (mi_bhT (B_X10_told ((xs (mi_w (i + 1)).toNat).toInt) D1) (fun k => k == 1) (fun k => 1) M0 fun y2 Mx3 Dx4 => mi_b2 (B_X11_told ((xs (mi_w (i + 1)).toNat).toInt) D2) fun y6 Dx7 => mi_bi (B_X11_thrown Dx7) fun y8 => if y8 = y2 then (if y2 ≠ 0 then (k (mi_w (i + 6)) Mx3 Dx4 Z1 Dx7) else (if (mi_cmp (Mx3.1 25 0 0) y6) = 0 then (k (mi_w (i + 6)) Mx3 Dx4 Z1 Dx7) else (some (0, (Mx3, ((Dx4, Z1), (Dx7, Z2))))))) else (some (0, (Mx3, ((Dx4, Z1), (Dx7, Z2)))))) else none
set_option maxRecDepth 20000 in
theorem S_L_case13 {L : Nat} {xs : Nat → Int32} {Z2 : MiZ} (hL2 : ML Z2) (hW2 : mi_cw mi_s2 Z2) {k : Int → MiM → MiD → MiZ → MiD → Option (Int × (MiM × (MiM × MiM)))} (K : ∀ (i : Int) (M0 : MiM) (D1 : MiD) (Z1 : MiZ) (D2 : MiD), SgP (mi_lP L xs) m_L_law 23 [(35, 0), (3, 0), (42, 0), (27, 0), (0, i), mi_un, mi_un, mi_un] [] (mi_cb M0 (D1, Z1) (D2, Z2)) (fun q => ((1, (0, q.1)), mi_cb q.2.1 q.2.2.1 q.2.2.2)) (k i M0 D1 Z1 D2)) (i : Int) (M0 : MiM) (D1 : MiD) (Z1 : MiZ) (D2 : MiD) (hL : CL Z1) (hW : mi_cw mi_s1 Z1) : SgP (mi_lP L xs) m_L_law 906 [(35, 0), (3, 0), (42, 0), (27, 0), (0, i), mi_un, mi_un, mi_un] [] (mi_cb M0 (D1, Z1) (D2, Z2)) (fun q => ((1, (0, q.1)), mi_cb q.2.1 q.2.2.1 q.2.2.2)) (B_L_case13 L xs Z2 k i M0 D1 Z1 D2) := by
  unfold B_L_case13
  refine SgP.go (pc' := 907) (mi_aload_n dL_law_906 rfl) ?_
  refine SgP.go (pc' := 908) (mi_aload_n dL_law_907 rfl) ?_
  refine SgP.go (pc' := 910) (mi_iload dL_law_908 rfl) ?_
  refine SgP.go (pc' := 911) (mi_iconst (z := 1) dL_law_910 rfl) ?_
  refine SgP.go (pc' := 912) (mi_iadd dL_law_911) ?_
  refine SgP.ck (fun hk1 => ?_)
  refine SgP.goP (pc' := 913) (mi_scr dL_law_912 hk1) ?_
  refine SgP.go (pc' := 914) (mi_aload_n dL_law_913 rfl) ?_
  refine SgP.callHT (pc' := 917) (μ' := m_L_told) (args := [(3, 0), (0, ((xs (mi_w (i + 1)).toNat).toInt)), (27, 0)]) (mi_invSH (n := 3) dL_law_914 rfl wN_L_told rfl ⟨by decide, by decide⟩ wL_L_164 wT_L_told wB_L wC_L_told) (fun b hb hk => C_L_told hL hW ((xs (mi_w (i + 1)).toNat).toInt) D1 M0 (D2, Z2) b hb hk) (Nat.le_of_ble_eq_true rfl) rfl rfl (fun y2 Mx3 Dx4 => ?_)
  refine SgP.go (pc' := 919) (mi_istore (ls1 := [(35, 0), (3, 0), (42, 0), (27, 0), (0, i), (0, y2), mi_un, mi_un]) dL_law_917 (by decide) rfl) ?_
  refine SgP.go (pc' := 920) (mi_aload_n dL_law_919 rfl) ?_
  refine SgP.go (pc' := 921) (mi_aload_n dL_law_920 rfl) ?_
  refine SgP.go (pc' := 923) (mi_iload dL_law_921 rfl) ?_
  refine SgP.go (pc' := 924) (mi_iconst (z := 1) dL_law_923 rfl) ?_
  refine SgP.go (pc' := 925) (mi_iadd dL_law_924) ?_
  refine SgP.goP (pc' := 926) (mi_scr dL_law_925 hk1) ?_
  refine SgP.callD2 (t := 0) (pc' := 929) (μ' := m_X11_told) (args := [(42, 0), (0, ((xs (mi_w (i + 1)).toNat).toInt))]) (mi_invV (n := 1) (r := 40) dL_law_926 hC_40 (by omega) rfl rfl wN_X11_told rfl ⟨by decide, by decide⟩ wL_L_166 wI_X11_told wS_X11_told wB_X11 wC_X11_told) (fun v hv => C_X11_told hL2 ((xs (mi_w (i + 1)).toNat).toInt) D2 v hv) hW2 (show (0 : Nat) < 2 by decide) rfl (Nat.le_of_ble_eq_true rfl) rfl rfl (fun y6 Dx7 => ?_)
  refine SgP.go (pc' := 931) (mi_istore (ls1 := [(35, 0), (3, 0), (42, 0), (27, 0), (0, i), (0, y2), (0, y6), mi_un]) dL_law_929 (by decide) rfl) ?_
  refine SgP.go (pc' := 932) (mi_aload_n dL_law_931 rfl) ?_
  refine SgP.callI2 (t := 0) (pc' := 935) (μ' := m_X11_thrown) (args := [(42, 0)]) (mi_invV (n := 0) (r := 40) dL_law_932 hC_40 (by omega) rfl rfl wN_X11_thrown rfl ⟨by decide, by decide⟩ wL_L_124 wI_X11_thrown wS_X11_thrown wB_X11 wC_X11_thrown) (fun v hv => C_X11_thrown hL2 Dx7 v hv) hW2 (show (0 : Nat) < 2 by decide) rfl (Nat.le_of_ble_eq_true rfl) rfl rfl (fun y8 => ?_)
  refine SgP.go (pc' := 937) (mi_iload dL_law_935 rfl) ?_
  refine SgP.ite (fun h9 => ?_) (fun h9 => ?_)
  · refine SgP.go (pc' := 942) (mi_icmpeq_t (tgt := 942) dL_law_937 (by decide) h9) ?_
    refine SgP.go (pc' := 944) (mi_iload dL_law_942 rfl) ?_
    refine SgP.ite (fun h10 => ?_) (fun h10 => ?_)
    · refine SgP.go (pc' := 959) (mi_ifne_t (tgt := 959) dL_law_944 (by decide) h10) ?_
      refine SgP.go (pc' := 2238) (mi_goto (tgt := 2238) dL_law_959 (by decide)) ?_
      refine SgP.go (pc' := 2238) (MiStep.weak (ls' := [(35, 0), (3, 0), (42, 0), (27, 0), (0, i), mi_un, mi_un, mi_un]) (mi_wk_y (mi_wk_y (mi_wk_y (mi_wk_y (mi_wk_y (mi_wk_n (mi_wk_n (mi_wk_y mi_wk_0))))))))) ?_
      refine SgP.go (pc' := 2241) (mi_iinc (z := 6) (ls1 := [(35, 0), (3, 0), (42, 0), (27, 0), (0, (mi_w (i + 6))), mi_un, mi_un, mi_un]) dL_law_2238 (by decide) rfl rfl rfl) ?_
      refine SgP.go (pc' := 23) (mi_goto (tgt := 23) dL_law_2241 (by decide)) ?_
      exact K (mi_w (i + 6)) Mx3 Dx4 Z1 Dx7
    · refine SgP.go (pc' := 947) (mi_ifne_f (tgt := 959) dL_law_944 (by decide) h10) ?_
      refine SgP.go (pc' := 948) (mi_aload_n dL_law_947 rfl) ?_
      refine SgP.go (pc' := 949) (mi_iconst (z := 0) dL_law_948 rfl) ?_
      refine SgP.go (pc' := 950) (mi_outld dL_law_949) ?_
      refine SgP.go (pc' := 952) (mi_iload dL_law_950 rfl) ?_
      refine SgP.go (pc' := 953) (mi_i2l dL_law_952) ?_
      refine SgP.go (pc' := 954) (mi_lcmp dL_law_953) ?_
      refine SgP.ite (fun h11 => ?_) (fun h11 => ?_)
      · refine SgP.go (pc' := 959) (mi_ifeq_t (tgt := 959) dL_law_954 (by decide) h11) ?_
        refine SgP.go (pc' := 2238) (mi_goto (tgt := 2238) dL_law_959 (by decide)) ?_
        refine SgP.go (pc' := 2238) (MiStep.weak (ls' := [(35, 0), (3, 0), (42, 0), (27, 0), (0, i), mi_un, mi_un, mi_un]) (mi_wk_y (mi_wk_y (mi_wk_y (mi_wk_y (mi_wk_y (mi_wk_n (mi_wk_n (mi_wk_y mi_wk_0))))))))) ?_
        refine SgP.go (pc' := 2241) (mi_iinc (z := 6) (ls1 := [(35, 0), (3, 0), (42, 0), (27, 0), (0, (mi_w (i + 6))), mi_un, mi_un, mi_un]) dL_law_2238 (by decide) rfl rfl rfl) ?_
        refine SgP.go (pc' := 23) (mi_goto (tgt := 23) dL_law_2241 (by decide)) ?_
        exact K (mi_w (i + 6)) Mx3 Dx4 Z1 Dx7
      · refine SgP.go (pc' := 957) (mi_ifeq_f (tgt := 959) dL_law_954 (by decide) h11) ?_
        refine SgP.go (pc' := 958) (mi_iconst (z := 0) dL_law_957 rfl) ?_
        exact SgP.ret (mi_ireturn dL_law_958 rfl (Or.inr (Or.inl ⟨rfl, Or.inl rfl⟩)))
  · refine SgP.go (pc' := 940) (mi_icmpeq_f (tgt := 942) dL_law_937 (by decide) h9) ?_
    refine SgP.go (pc' := 941) (mi_iconst (z := 0) dL_law_940 rfl) ?_
    exact SgP.ret (mi_ireturn dL_law_941 rfl (Or.inr (Or.inl ⟨rfl, Or.inl rfl⟩)))
def B_L_case14 (L : Nat) (xs : Nat → Int32) (Z2 : MiZ) (k : Int → MiM → MiD → MiZ → MiD → Option (Int × (MiM × (MiM × MiM)))) (i : Int) (M0 : MiM) (D1 : MiD) (Z1 : MiZ) (D2 : MiD) : Option (Int × (MiM × (MiM × MiM))) := if 0 ≤ (mi_w (i + 1)) ∧ (mi_w (i + 1)) < (L : Int) then (if 0 ≤ (mi_w (i + 2)) ∧ (mi_w (i + 2)) < (L : Int) then (mi_bhT (B_X10_task ((xs (mi_w (i + 1)).toNat).toInt) ((xs (mi_w (i + 2)).toNat).toInt) D1) (fun k => k == 0 || k == 1) (fun k => if k = 0 then 1 else 2) M0 fun y3 Mx4 Dx5 => mi_b2 (B_X11_task ((xs (mi_w (i + 1)).toNat).toInt) ((xs (mi_w (i + 2)).toNat).toInt) D2) fun y8 Dx9 => mi_bi (B_X11_thrown Dx9) fun y10 => if y10 = y3 then (if y3 ≠ 0 then (k (mi_w (i + 6)) Mx4 Dx5 Z1 Dx9) else (if (mi_cmp (Mx4.1 25 0 0) y8) = 0 then (k (mi_w (i + 6)) Mx4 Dx5 Z1 Dx9) else (some (0, (Mx4, ((Dx5, Z1), (Dx9, Z2))))))) else (some (0, (Mx4, ((Dx5, Z1), (Dx9, Z2)))))) else none) else none
set_option maxRecDepth 20000 in
theorem S_L_case14 {L : Nat} {xs : Nat → Int32} {Z2 : MiZ} (hL2 : ML Z2) (hW2 : mi_cw mi_s2 Z2) {k : Int → MiM → MiD → MiZ → MiD → Option (Int × (MiM × (MiM × MiM)))} (K : ∀ (i : Int) (M0 : MiM) (D1 : MiD) (Z1 : MiZ) (D2 : MiD), SgP (mi_lP L xs) m_L_law 23 [(35, 0), (3, 0), (42, 0), (27, 0), (0, i), mi_un, mi_un, mi_un] [] (mi_cb M0 (D1, Z1) (D2, Z2)) (fun q => ((1, (0, q.1)), mi_cb q.2.1 q.2.2.1 q.2.2.2)) (k i M0 D1 Z1 D2)) (i : Int) (M0 : MiM) (D1 : MiD) (Z1 : MiZ) (D2 : MiD) (hL : CL Z1) (hW : mi_cw mi_s1 Z1) : SgP (mi_lP L xs) m_L_law 962 [(35, 0), (3, 0), (42, 0), (27, 0), (0, i), mi_un, mi_un, mi_un] [] (mi_cb M0 (D1, Z1) (D2, Z2)) (fun q => ((1, (0, q.1)), mi_cb q.2.1 q.2.2.1 q.2.2.2)) (B_L_case14 L xs Z2 k i M0 D1 Z1 D2) := by
  unfold B_L_case14
  refine SgP.go (pc' := 963) (mi_aload_n dL_law_962 rfl) ?_
  refine SgP.go (pc' := 964) (mi_aload_n dL_law_963 rfl) ?_
  refine SgP.go (pc' := 966) (mi_iload dL_law_964 rfl) ?_
  refine SgP.go (pc' := 967) (mi_iconst (z := 1) dL_law_966 rfl) ?_
  refine SgP.go (pc' := 968) (mi_iadd dL_law_967) ?_
  refine SgP.ck (fun hk1 => ?_)
  refine SgP.goP (pc' := 969) (mi_scr dL_law_968 hk1) ?_
  refine SgP.go (pc' := 970) (mi_aload_n dL_law_969 rfl) ?_
  refine SgP.go (pc' := 972) (mi_iload dL_law_970 rfl) ?_
  refine SgP.go (pc' := 973) (mi_iconst (z := 2) dL_law_972 rfl) ?_
  refine SgP.go (pc' := 974) (mi_iadd dL_law_973) ?_
  refine SgP.ck (fun hk2 => ?_)
  refine SgP.goP (pc' := 975) (mi_scr dL_law_974 hk2) ?_
  refine SgP.go (pc' := 976) (mi_aload_n dL_law_975 rfl) ?_
  refine SgP.callHT (pc' := 979) (μ' := m_L_task) (args := [(3, 0), (0, ((xs (mi_w (i + 1)).toNat).toInt)), (0, ((xs (mi_w (i + 2)).toNat).toInt)), (27, 0)]) (mi_invSH (n := 4) dL_law_976 rfl wN_L_task rfl ⟨by decide, by decide⟩ wL_L_167 wT_L_task wB_L wC_L_task) (fun b hb hk => C_L_task hL hW ((xs (mi_w (i + 1)).toNat).toInt) ((xs (mi_w (i + 2)).toNat).toInt) D1 M0 (D2, Z2) b hb hk) (Nat.le_of_ble_eq_true rfl) rfl rfl (fun y3 Mx4 Dx5 => ?_)
  refine SgP.go (pc' := 981) (mi_istore (ls1 := [(35, 0), (3, 0), (42, 0), (27, 0), (0, i), (0, y3), mi_un, mi_un]) dL_law_979 (by decide) rfl) ?_
  refine SgP.go (pc' := 982) (mi_aload_n dL_law_981 rfl) ?_
  refine SgP.go (pc' := 983) (mi_aload_n dL_law_982 rfl) ?_
  refine SgP.go (pc' := 985) (mi_iload dL_law_983 rfl) ?_
  refine SgP.go (pc' := 986) (mi_iconst (z := 1) dL_law_985 rfl) ?_
  refine SgP.go (pc' := 987) (mi_iadd dL_law_986) ?_
  refine SgP.goP (pc' := 988) (mi_scr dL_law_987 hk1) ?_
  refine SgP.go (pc' := 989) (mi_aload_n dL_law_988 rfl) ?_
  refine SgP.go (pc' := 991) (mi_iload dL_law_989 rfl) ?_
  refine SgP.go (pc' := 992) (mi_iconst (z := 2) dL_law_991 rfl) ?_
  refine SgP.go (pc' := 993) (mi_iadd dL_law_992) ?_
  refine SgP.goP (pc' := 994) (mi_scr dL_law_993 hk2) ?_
  refine SgP.callD2 (t := 0) (pc' := 997) (μ' := m_X11_task) (args := [(42, 0), (0, ((xs (mi_w (i + 1)).toNat).toInt)), (0, ((xs (mi_w (i + 2)).toNat).toInt))]) (mi_invV (n := 2) (r := 40) dL_law_994 hC_40 (by omega) rfl rfl wN_X11_task rfl ⟨by decide, by decide⟩ wL_L_169 wI_X11_task wS_X11_task wB_X11 wC_X11_task) (fun v hv => C_X11_task hL2 ((xs (mi_w (i + 1)).toNat).toInt) ((xs (mi_w (i + 2)).toNat).toInt) D2 v hv) hW2 (show (0 : Nat) < 2 by decide) rfl (Nat.le_of_ble_eq_true rfl) rfl rfl (fun y8 Dx9 => ?_)
  refine SgP.go (pc' := 999) (mi_istore (ls1 := [(35, 0), (3, 0), (42, 0), (27, 0), (0, i), (0, y3), (0, y8), mi_un]) dL_law_997 (by decide) rfl) ?_
  refine SgP.go (pc' := 1000) (mi_aload_n dL_law_999 rfl) ?_
  refine SgP.callI2 (t := 0) (pc' := 1003) (μ' := m_X11_thrown) (args := [(42, 0)]) (mi_invV (n := 0) (r := 40) dL_law_1000 hC_40 (by omega) rfl rfl wN_X11_thrown rfl ⟨by decide, by decide⟩ wL_L_124 wI_X11_thrown wS_X11_thrown wB_X11 wC_X11_thrown) (fun v hv => C_X11_thrown hL2 Dx9 v hv) hW2 (show (0 : Nat) < 2 by decide) rfl (Nat.le_of_ble_eq_true rfl) rfl rfl (fun y10 => ?_)
  refine SgP.go (pc' := 1005) (mi_iload dL_law_1003 rfl) ?_
  refine SgP.ite (fun h11 => ?_) (fun h11 => ?_)
  · refine SgP.go (pc' := 1010) (mi_icmpeq_t (tgt := 1010) dL_law_1005 (by decide) h11) ?_
    refine SgP.go (pc' := 1012) (mi_iload dL_law_1010 rfl) ?_
    refine SgP.ite (fun h12 => ?_) (fun h12 => ?_)
    · refine SgP.go (pc' := 1027) (mi_ifne_t (tgt := 1027) dL_law_1012 (by decide) h12) ?_
      refine SgP.go (pc' := 2238) (mi_goto (tgt := 2238) dL_law_1027 (by decide)) ?_
      refine SgP.go (pc' := 2238) (MiStep.weak (ls' := [(35, 0), (3, 0), (42, 0), (27, 0), (0, i), mi_un, mi_un, mi_un]) (mi_wk_y (mi_wk_y (mi_wk_y (mi_wk_y (mi_wk_y (mi_wk_n (mi_wk_n (mi_wk_y mi_wk_0))))))))) ?_
      refine SgP.go (pc' := 2241) (mi_iinc (z := 6) (ls1 := [(35, 0), (3, 0), (42, 0), (27, 0), (0, (mi_w (i + 6))), mi_un, mi_un, mi_un]) dL_law_2238 (by decide) rfl rfl rfl) ?_
      refine SgP.go (pc' := 23) (mi_goto (tgt := 23) dL_law_2241 (by decide)) ?_
      exact K (mi_w (i + 6)) Mx4 Dx5 Z1 Dx9
    · refine SgP.go (pc' := 1015) (mi_ifne_f (tgt := 1027) dL_law_1012 (by decide) h12) ?_
      refine SgP.go (pc' := 1016) (mi_aload_n dL_law_1015 rfl) ?_
      refine SgP.go (pc' := 1017) (mi_iconst (z := 0) dL_law_1016 rfl) ?_
      refine SgP.go (pc' := 1018) (mi_outld dL_law_1017) ?_
      refine SgP.go (pc' := 1020) (mi_iload dL_law_1018 rfl) ?_
      refine SgP.go (pc' := 1021) (mi_i2l dL_law_1020) ?_
      refine SgP.go (pc' := 1022) (mi_lcmp dL_law_1021) ?_
      refine SgP.ite (fun h13 => ?_) (fun h13 => ?_)
      · refine SgP.go (pc' := 1027) (mi_ifeq_t (tgt := 1027) dL_law_1022 (by decide) h13) ?_
        refine SgP.go (pc' := 2238) (mi_goto (tgt := 2238) dL_law_1027 (by decide)) ?_
        refine SgP.go (pc' := 2238) (MiStep.weak (ls' := [(35, 0), (3, 0), (42, 0), (27, 0), (0, i), mi_un, mi_un, mi_un]) (mi_wk_y (mi_wk_y (mi_wk_y (mi_wk_y (mi_wk_y (mi_wk_n (mi_wk_n (mi_wk_y mi_wk_0))))))))) ?_
        refine SgP.go (pc' := 2241) (mi_iinc (z := 6) (ls1 := [(35, 0), (3, 0), (42, 0), (27, 0), (0, (mi_w (i + 6))), mi_un, mi_un, mi_un]) dL_law_2238 (by decide) rfl rfl rfl) ?_
        refine SgP.go (pc' := 23) (mi_goto (tgt := 23) dL_law_2241 (by decide)) ?_
        exact K (mi_w (i + 6)) Mx4 Dx5 Z1 Dx9
      · refine SgP.go (pc' := 1025) (mi_ifeq_f (tgt := 1027) dL_law_1022 (by decide) h13) ?_
        refine SgP.go (pc' := 1026) (mi_iconst (z := 0) dL_law_1025 rfl) ?_
        exact SgP.ret (mi_ireturn dL_law_1026 rfl (Or.inr (Or.inl ⟨rfl, Or.inl rfl⟩)))
  · refine SgP.go (pc' := 1008) (mi_icmpeq_f (tgt := 1010) dL_law_1005 (by decide) h11) ?_
    refine SgP.go (pc' := 1009) (mi_iconst (z := 0) dL_law_1008 rfl) ?_
    exact SgP.ret (mi_ireturn dL_law_1009 rfl (Or.inr (Or.inl ⟨rfl, Or.inl rfl⟩)))
def B_L_case15 (L : Nat) (xs : Nat → Int32) (Z2 : MiZ) (k : Int → MiM → MiD → MiZ → MiD → Option (Int × (MiM × (MiM × MiM)))) (i : Int) (M0 : MiM) (D1 : MiD) (Z1 : MiZ) (D2 : MiD) : Option (Int × (MiM × (MiM × MiM))) := if 0 ≤ (mi_w (i + 1)) ∧ (mi_w (i + 1)) < (L : Int) then (mi_bhT (B_X10_number ((xs (mi_w (i + 1)).toNat).toInt) D1) (fun k => k == 0) (fun k => 1) M0 fun y2 Mx3 Dx4 => mi_b2 (B_X11_number_ ((xs (mi_w (i + 1)).toNat).toInt) D2) fun y6 Dx7 => mi_bi (B_X11_thrown Dx7) fun y8 => if y8 = y2 then (if y2 ≠ 0 then (k (mi_w (i + 6)) Mx3 Dx4 Z1 Dx7) else (if (mi_cmp (Mx3.1 25 0 0) y6) = 0 then (k (mi_w (i + 6)) Mx3 Dx4 Z1 Dx7) else (some (0, (Mx3, ((Dx4, Z1), (Dx7, Z2))))))) else (some (0, (Mx3, ((Dx4, Z1), (Dx7, Z2)))))) else none
set_option maxRecDepth 20000 in
theorem S_L_case15 {L : Nat} {xs : Nat → Int32} {Z2 : MiZ} (hL2 : ML Z2) (hW2 : mi_cw mi_s2 Z2) {k : Int → MiM → MiD → MiZ → MiD → Option (Int × (MiM × (MiM × MiM)))} (K : ∀ (i : Int) (M0 : MiM) (D1 : MiD) (Z1 : MiZ) (D2 : MiD), SgP (mi_lP L xs) m_L_law 23 [(35, 0), (3, 0), (42, 0), (27, 0), (0, i), mi_un, mi_un, mi_un] [] (mi_cb M0 (D1, Z1) (D2, Z2)) (fun q => ((1, (0, q.1)), mi_cb q.2.1 q.2.2.1 q.2.2.2)) (k i M0 D1 Z1 D2)) (i : Int) (M0 : MiM) (D1 : MiD) (Z1 : MiZ) (D2 : MiD) (hL : CL Z1) (hW : mi_cw mi_s1 Z1) : SgP (mi_lP L xs) m_L_law 1030 [(35, 0), (3, 0), (42, 0), (27, 0), (0, i), mi_un, mi_un, mi_un] [] (mi_cb M0 (D1, Z1) (D2, Z2)) (fun q => ((1, (0, q.1)), mi_cb q.2.1 q.2.2.1 q.2.2.2)) (B_L_case15 L xs Z2 k i M0 D1 Z1 D2) := by
  unfold B_L_case15
  refine SgP.go (pc' := 1031) (mi_aload_n dL_law_1030 rfl) ?_
  refine SgP.go (pc' := 1032) (mi_aload_n dL_law_1031 rfl) ?_
  refine SgP.go (pc' := 1034) (mi_iload dL_law_1032 rfl) ?_
  refine SgP.go (pc' := 1035) (mi_iconst (z := 1) dL_law_1034 rfl) ?_
  refine SgP.go (pc' := 1036) (mi_iadd dL_law_1035) ?_
  refine SgP.ck (fun hk1 => ?_)
  refine SgP.goP (pc' := 1037) (mi_scr dL_law_1036 hk1) ?_
  refine SgP.go (pc' := 1038) (mi_aload_n dL_law_1037 rfl) ?_
  refine SgP.callHT (pc' := 1041) (μ' := m_L_number) (args := [(3, 0), (0, ((xs (mi_w (i + 1)).toNat).toInt)), (27, 0)]) (mi_invSH (n := 3) dL_law_1038 rfl wN_L_number rfl ⟨by decide, by decide⟩ wL_L_170 wT_L_number wB_L wC_L_number) (fun b hb hk => C_L_number hL hW ((xs (mi_w (i + 1)).toNat).toInt) D1 M0 (D2, Z2) b hb hk) (Nat.le_of_ble_eq_true rfl) rfl rfl (fun y2 Mx3 Dx4 => ?_)
  refine SgP.go (pc' := 1043) (mi_istore (ls1 := [(35, 0), (3, 0), (42, 0), (27, 0), (0, i), (0, y2), mi_un, mi_un]) dL_law_1041 (by decide) rfl) ?_
  refine SgP.go (pc' := 1044) (mi_aload_n dL_law_1043 rfl) ?_
  refine SgP.go (pc' := 1045) (mi_aload_n dL_law_1044 rfl) ?_
  refine SgP.go (pc' := 1047) (mi_iload dL_law_1045 rfl) ?_
  refine SgP.go (pc' := 1048) (mi_iconst (z := 1) dL_law_1047 rfl) ?_
  refine SgP.go (pc' := 1049) (mi_iadd dL_law_1048) ?_
  refine SgP.goP (pc' := 1050) (mi_scr dL_law_1049 hk1) ?_
  refine SgP.callD2 (t := 1) (pc' := 1053) (μ' := m_X11_number_) (args := [(42, 0), (0, ((xs (mi_w (i + 1)).toNat).toInt))]) (mi_invV (n := 1) (r := 40) dL_law_1050 hC_40 (by omega) rfl rfl wN_X11_number_ rfl ⟨by decide, by decide⟩ wL_L_172 wI_X11_number_ wS_X11_number_ wB_X11 wC_X11_number_) (fun v hv => C_X11_number_ hL2 ((xs (mi_w (i + 1)).toNat).toInt) D2 v hv) hW2 (show (1 : Nat) < 2 by decide) rfl (Nat.le_of_ble_eq_true rfl) rfl rfl (fun y6 Dx7 => ?_)
  refine SgP.go (pc' := 1055) (mi_lstore (ls1 := [(35, 0), (3, 0), (42, 0), (27, 0), (0, i), (0, y2), (1, y6), mi_un]) dL_law_1053 (by decide) rfl) ?_
  refine SgP.go (pc' := 1056) (mi_aload_n dL_law_1055 rfl) ?_
  refine SgP.callI2 (t := 0) (pc' := 1059) (μ' := m_X11_thrown) (args := [(42, 0)]) (mi_invV (n := 0) (r := 40) dL_law_1056 hC_40 (by omega) rfl rfl wN_X11_thrown rfl ⟨by decide, by decide⟩ wL_L_124 wI_X11_thrown wS_X11_thrown wB_X11 wC_X11_thrown) (fun v hv => C_X11_thrown hL2 Dx7 v hv) hW2 (show (0 : Nat) < 2 by decide) rfl (Nat.le_of_ble_eq_true rfl) rfl rfl (fun y8 => ?_)
  refine SgP.go (pc' := 1061) (mi_iload dL_law_1059 rfl) ?_
  refine SgP.ite (fun h9 => ?_) (fun h9 => ?_)
  · refine SgP.go (pc' := 1066) (mi_icmpeq_t (tgt := 1066) dL_law_1061 (by decide) h9) ?_
    refine SgP.go (pc' := 1068) (mi_iload dL_law_1066 rfl) ?_
    refine SgP.ite (fun h10 => ?_) (fun h10 => ?_)
    · refine SgP.go (pc' := 1082) (mi_ifne_t (tgt := 1082) dL_law_1068 (by decide) h10) ?_
      refine SgP.go (pc' := 2238) (mi_goto (tgt := 2238) dL_law_1082 (by decide)) ?_
      refine SgP.go (pc' := 2238) (MiStep.weak (ls' := [(35, 0), (3, 0), (42, 0), (27, 0), (0, i), mi_un, mi_un, mi_un]) (mi_wk_y (mi_wk_y (mi_wk_y (mi_wk_y (mi_wk_y (mi_wk_n (mi_wk_n (mi_wk_y mi_wk_0))))))))) ?_
      refine SgP.go (pc' := 2241) (mi_iinc (z := 6) (ls1 := [(35, 0), (3, 0), (42, 0), (27, 0), (0, (mi_w (i + 6))), mi_un, mi_un, mi_un]) dL_law_2238 (by decide) rfl rfl rfl) ?_
      refine SgP.go (pc' := 23) (mi_goto (tgt := 23) dL_law_2241 (by decide)) ?_
      exact K (mi_w (i + 6)) Mx3 Dx4 Z1 Dx7
    · refine SgP.go (pc' := 1071) (mi_ifne_f (tgt := 1082) dL_law_1068 (by decide) h10) ?_
      refine SgP.go (pc' := 1072) (mi_aload_n dL_law_1071 rfl) ?_
      refine SgP.go (pc' := 1073) (mi_iconst (z := 0) dL_law_1072 rfl) ?_
      refine SgP.go (pc' := 1074) (mi_outld dL_law_1073) ?_
      refine SgP.go (pc' := 1076) (mi_lload dL_law_1074 rfl) ?_
      refine SgP.go (pc' := 1077) (mi_lcmp dL_law_1076) ?_
      refine SgP.ite (fun h11 => ?_) (fun h11 => ?_)
      · refine SgP.go (pc' := 1082) (mi_ifeq_t (tgt := 1082) dL_law_1077 (by decide) h11) ?_
        refine SgP.go (pc' := 2238) (mi_goto (tgt := 2238) dL_law_1082 (by decide)) ?_
        refine SgP.go (pc' := 2238) (MiStep.weak (ls' := [(35, 0), (3, 0), (42, 0), (27, 0), (0, i), mi_un, mi_un, mi_un]) (mi_wk_y (mi_wk_y (mi_wk_y (mi_wk_y (mi_wk_y (mi_wk_n (mi_wk_n (mi_wk_y mi_wk_0))))))))) ?_
        refine SgP.go (pc' := 2241) (mi_iinc (z := 6) (ls1 := [(35, 0), (3, 0), (42, 0), (27, 0), (0, (mi_w (i + 6))), mi_un, mi_un, mi_un]) dL_law_2238 (by decide) rfl rfl rfl) ?_
        refine SgP.go (pc' := 23) (mi_goto (tgt := 23) dL_law_2241 (by decide)) ?_
        exact K (mi_w (i + 6)) Mx3 Dx4 Z1 Dx7
      · refine SgP.go (pc' := 1080) (mi_ifeq_f (tgt := 1082) dL_law_1077 (by decide) h11) ?_
        refine SgP.go (pc' := 1081) (mi_iconst (z := 0) dL_law_1080 rfl) ?_
        exact SgP.ret (mi_ireturn dL_law_1081 rfl (Or.inr (Or.inl ⟨rfl, Or.inl rfl⟩)))
  · refine SgP.go (pc' := 1064) (mi_icmpeq_f (tgt := 1066) dL_law_1061 (by decide) h9) ?_
    refine SgP.go (pc' := 1065) (mi_iconst (z := 0) dL_law_1064 rfl) ?_
    exact SgP.ret (mi_ireturn dL_law_1065 rfl (Or.inr (Or.inl ⟨rfl, Or.inl rfl⟩)))
def B_L_case16 (L : Nat) (xs : Nat → Int32) (Z2 : MiZ) (k : Int → MiM → MiD → MiZ → MiD → Option (Int × (MiM × (MiM × MiM)))) (i : Int) (M0 : MiM) (D1 : MiD) (Z1 : MiZ) (D2 : MiD) : Option (Int × (MiM × (MiM × MiM))) := if 0 ≤ (mi_w (i + 1)) ∧ (mi_w (i + 1)) < (L : Int) then (if 0 ≤ (mi_w (i + 2)) ∧ (mi_w (i + 2)) < (L : Int) then (if 0 ≤ (mi_w (i + 3)) ∧ (mi_w (i + 3)) < (L : Int) then (mi_bhT (B_X10_frame ((xs (mi_w (i + 1)).toNat).toInt) ((xs (mi_w (i + 2)).toNat).toInt) ((xs (mi_w (i + 3)).toNat).toInt) D1) (fun k => k == 0 || k == 1) (fun k => if k = 0 then 1 else 2) M0 fun y4 Mx5 Dx6 => mi_b2 (B_X11_frame ((xs (mi_w (i + 1)).toNat).toInt) ((xs (mi_w (i + 2)).toNat).toInt) ((xs (mi_w (i + 3)).toNat).toInt) D2) fun y10 Dx11 => mi_bi (B_X11_thrown Dx11) fun y12 => if y12 = y4 then (if y4 ≠ 0 then (k (mi_w (i + 6)) Mx5 Dx6 Z1 Dx11) else (if (mi_cmp (Mx5.1 25 0 0) y10) = 0 then (k (mi_w (i + 6)) Mx5 Dx6 Z1 Dx11) else (some (0, (Mx5, ((Dx6, Z1), (Dx11, Z2))))))) else (some (0, (Mx5, ((Dx6, Z1), (Dx11, Z2)))))) else none) else none) else none
set_option maxRecDepth 20000 in
theorem S_L_case16 {L : Nat} {xs : Nat → Int32} {Z2 : MiZ} (hL2 : ML Z2) (hW2 : mi_cw mi_s2 Z2) {k : Int → MiM → MiD → MiZ → MiD → Option (Int × (MiM × (MiM × MiM)))} (K : ∀ (i : Int) (M0 : MiM) (D1 : MiD) (Z1 : MiZ) (D2 : MiD), SgP (mi_lP L xs) m_L_law 23 [(35, 0), (3, 0), (42, 0), (27, 0), (0, i), mi_un, mi_un, mi_un] [] (mi_cb M0 (D1, Z1) (D2, Z2)) (fun q => ((1, (0, q.1)), mi_cb q.2.1 q.2.2.1 q.2.2.2)) (k i M0 D1 Z1 D2)) (i : Int) (M0 : MiM) (D1 : MiD) (Z1 : MiZ) (D2 : MiD) (hL : CL Z1) (hW : mi_cw mi_s1 Z1) : SgP (mi_lP L xs) m_L_law 1085 [(35, 0), (3, 0), (42, 0), (27, 0), (0, i), mi_un, mi_un, mi_un] [] (mi_cb M0 (D1, Z1) (D2, Z2)) (fun q => ((1, (0, q.1)), mi_cb q.2.1 q.2.2.1 q.2.2.2)) (B_L_case16 L xs Z2 k i M0 D1 Z1 D2) := by
  unfold B_L_case16
  refine SgP.go (pc' := 1086) (mi_aload_n dL_law_1085 rfl) ?_
  refine SgP.go (pc' := 1087) (mi_aload_n dL_law_1086 rfl) ?_
  refine SgP.go (pc' := 1089) (mi_iload dL_law_1087 rfl) ?_
  refine SgP.go (pc' := 1090) (mi_iconst (z := 1) dL_law_1089 rfl) ?_
  refine SgP.go (pc' := 1091) (mi_iadd dL_law_1090) ?_
  refine SgP.ck (fun hk1 => ?_)
  refine SgP.goP (pc' := 1092) (mi_scr dL_law_1091 hk1) ?_
  refine SgP.go (pc' := 1093) (mi_aload_n dL_law_1092 rfl) ?_
  refine SgP.go (pc' := 1095) (mi_iload dL_law_1093 rfl) ?_
  refine SgP.go (pc' := 1096) (mi_iconst (z := 2) dL_law_1095 rfl) ?_
  refine SgP.go (pc' := 1097) (mi_iadd dL_law_1096) ?_
  refine SgP.ck (fun hk2 => ?_)
  refine SgP.goP (pc' := 1098) (mi_scr dL_law_1097 hk2) ?_
  refine SgP.go (pc' := 1099) (mi_aload_n dL_law_1098 rfl) ?_
  refine SgP.go (pc' := 1101) (mi_iload dL_law_1099 rfl) ?_
  refine SgP.go (pc' := 1102) (mi_iconst (z := 3) dL_law_1101 rfl) ?_
  refine SgP.go (pc' := 1103) (mi_iadd dL_law_1102) ?_
  refine SgP.ck (fun hk3 => ?_)
  refine SgP.goP (pc' := 1104) (mi_scr dL_law_1103 hk3) ?_
  refine SgP.go (pc' := 1105) (mi_aload_n dL_law_1104 rfl) ?_
  refine SgP.callHT (pc' := 1108) (μ' := m_L_frame) (args := [(3, 0), (0, ((xs (mi_w (i + 1)).toNat).toInt)), (0, ((xs (mi_w (i + 2)).toNat).toInt)), (0, ((xs (mi_w (i + 3)).toNat).toInt)), (27, 0)]) (mi_invSH (n := 5) dL_law_1105 rfl wN_L_frame rfl ⟨by decide, by decide⟩ wL_L_173 wT_L_frame wB_L wC_L_frame) (fun b hb hk => C_L_frame hL hW ((xs (mi_w (i + 1)).toNat).toInt) ((xs (mi_w (i + 2)).toNat).toInt) ((xs (mi_w (i + 3)).toNat).toInt) D1 M0 (D2, Z2) b hb hk) (Nat.le_of_ble_eq_true rfl) rfl rfl (fun y4 Mx5 Dx6 => ?_)
  refine SgP.go (pc' := 1110) (mi_istore (ls1 := [(35, 0), (3, 0), (42, 0), (27, 0), (0, i), (0, y4), mi_un, mi_un]) dL_law_1108 (by decide) rfl) ?_
  refine SgP.go (pc' := 1111) (mi_aload_n dL_law_1110 rfl) ?_
  refine SgP.go (pc' := 1112) (mi_aload_n dL_law_1111 rfl) ?_
  refine SgP.go (pc' := 1114) (mi_iload dL_law_1112 rfl) ?_
  refine SgP.go (pc' := 1115) (mi_iconst (z := 1) dL_law_1114 rfl) ?_
  refine SgP.go (pc' := 1116) (mi_iadd dL_law_1115) ?_
  refine SgP.goP (pc' := 1117) (mi_scr dL_law_1116 hk1) ?_
  refine SgP.go (pc' := 1118) (mi_aload_n dL_law_1117 rfl) ?_
  refine SgP.go (pc' := 1120) (mi_iload dL_law_1118 rfl) ?_
  refine SgP.go (pc' := 1121) (mi_iconst (z := 2) dL_law_1120 rfl) ?_
  refine SgP.go (pc' := 1122) (mi_iadd dL_law_1121) ?_
  refine SgP.goP (pc' := 1123) (mi_scr dL_law_1122 hk2) ?_
  refine SgP.go (pc' := 1124) (mi_aload_n dL_law_1123 rfl) ?_
  refine SgP.go (pc' := 1126) (mi_iload dL_law_1124 rfl) ?_
  refine SgP.go (pc' := 1127) (mi_iconst (z := 3) dL_law_1126 rfl) ?_
  refine SgP.go (pc' := 1128) (mi_iadd dL_law_1127) ?_
  refine SgP.goP (pc' := 1129) (mi_scr dL_law_1128 hk3) ?_
  refine SgP.callD2 (t := 0) (pc' := 1132) (μ' := m_X11_frame) (args := [(42, 0), (0, ((xs (mi_w (i + 1)).toNat).toInt)), (0, ((xs (mi_w (i + 2)).toNat).toInt)), (0, ((xs (mi_w (i + 3)).toNat).toInt))]) (mi_invV (n := 3) (r := 40) dL_law_1129 hC_40 (by omega) rfl rfl wN_X11_frame rfl ⟨by decide, by decide⟩ wL_L_175 wI_X11_frame wS_X11_frame wB_X11 wC_X11_frame) (fun v hv => C_X11_frame hL2 ((xs (mi_w (i + 1)).toNat).toInt) ((xs (mi_w (i + 2)).toNat).toInt) ((xs (mi_w (i + 3)).toNat).toInt) D2 v hv) hW2 (show (0 : Nat) < 2 by decide) rfl (Nat.le_of_ble_eq_true rfl) rfl rfl (fun y10 Dx11 => ?_)
  refine SgP.go (pc' := 1134) (mi_istore (ls1 := [(35, 0), (3, 0), (42, 0), (27, 0), (0, i), (0, y4), (0, y10), mi_un]) dL_law_1132 (by decide) rfl) ?_
  refine SgP.go (pc' := 1135) (mi_aload_n dL_law_1134 rfl) ?_
  refine SgP.callI2 (t := 0) (pc' := 1138) (μ' := m_X11_thrown) (args := [(42, 0)]) (mi_invV (n := 0) (r := 40) dL_law_1135 hC_40 (by omega) rfl rfl wN_X11_thrown rfl ⟨by decide, by decide⟩ wL_L_124 wI_X11_thrown wS_X11_thrown wB_X11 wC_X11_thrown) (fun v hv => C_X11_thrown hL2 Dx11 v hv) hW2 (show (0 : Nat) < 2 by decide) rfl (Nat.le_of_ble_eq_true rfl) rfl rfl (fun y12 => ?_)
  refine SgP.go (pc' := 1140) (mi_iload dL_law_1138 rfl) ?_
  refine SgP.ite (fun h13 => ?_) (fun h13 => ?_)
  · refine SgP.go (pc' := 1145) (mi_icmpeq_t (tgt := 1145) dL_law_1140 (by decide) h13) ?_
    refine SgP.go (pc' := 1147) (mi_iload dL_law_1145 rfl) ?_
    refine SgP.ite (fun h14 => ?_) (fun h14 => ?_)
    · refine SgP.go (pc' := 1162) (mi_ifne_t (tgt := 1162) dL_law_1147 (by decide) h14) ?_
      refine SgP.go (pc' := 2238) (mi_goto (tgt := 2238) dL_law_1162 (by decide)) ?_
      refine SgP.go (pc' := 2238) (MiStep.weak (ls' := [(35, 0), (3, 0), (42, 0), (27, 0), (0, i), mi_un, mi_un, mi_un]) (mi_wk_y (mi_wk_y (mi_wk_y (mi_wk_y (mi_wk_y (mi_wk_n (mi_wk_n (mi_wk_y mi_wk_0))))))))) ?_
      refine SgP.go (pc' := 2241) (mi_iinc (z := 6) (ls1 := [(35, 0), (3, 0), (42, 0), (27, 0), (0, (mi_w (i + 6))), mi_un, mi_un, mi_un]) dL_law_2238 (by decide) rfl rfl rfl) ?_
      refine SgP.go (pc' := 23) (mi_goto (tgt := 23) dL_law_2241 (by decide)) ?_
      exact K (mi_w (i + 6)) Mx5 Dx6 Z1 Dx11
    · refine SgP.go (pc' := 1150) (mi_ifne_f (tgt := 1162) dL_law_1147 (by decide) h14) ?_
      refine SgP.go (pc' := 1151) (mi_aload_n dL_law_1150 rfl) ?_
      refine SgP.go (pc' := 1152) (mi_iconst (z := 0) dL_law_1151 rfl) ?_
      refine SgP.go (pc' := 1153) (mi_outld dL_law_1152) ?_
      refine SgP.go (pc' := 1155) (mi_iload dL_law_1153 rfl) ?_
      refine SgP.go (pc' := 1156) (mi_i2l dL_law_1155) ?_
      refine SgP.go (pc' := 1157) (mi_lcmp dL_law_1156) ?_
      refine SgP.ite (fun h15 => ?_) (fun h15 => ?_)
      · refine SgP.go (pc' := 1162) (mi_ifeq_t (tgt := 1162) dL_law_1157 (by decide) h15) ?_
        refine SgP.go (pc' := 2238) (mi_goto (tgt := 2238) dL_law_1162 (by decide)) ?_
        refine SgP.go (pc' := 2238) (MiStep.weak (ls' := [(35, 0), (3, 0), (42, 0), (27, 0), (0, i), mi_un, mi_un, mi_un]) (mi_wk_y (mi_wk_y (mi_wk_y (mi_wk_y (mi_wk_y (mi_wk_n (mi_wk_n (mi_wk_y mi_wk_0))))))))) ?_
        refine SgP.go (pc' := 2241) (mi_iinc (z := 6) (ls1 := [(35, 0), (3, 0), (42, 0), (27, 0), (0, (mi_w (i + 6))), mi_un, mi_un, mi_un]) dL_law_2238 (by decide) rfl rfl rfl) ?_
        refine SgP.go (pc' := 23) (mi_goto (tgt := 23) dL_law_2241 (by decide)) ?_
        exact K (mi_w (i + 6)) Mx5 Dx6 Z1 Dx11
      · refine SgP.go (pc' := 1160) (mi_ifeq_f (tgt := 1162) dL_law_1157 (by decide) h15) ?_
        refine SgP.go (pc' := 1161) (mi_iconst (z := 0) dL_law_1160 rfl) ?_
        exact SgP.ret (mi_ireturn dL_law_1161 rfl (Or.inr (Or.inl ⟨rfl, Or.inl rfl⟩)))
  · refine SgP.go (pc' := 1143) (mi_icmpeq_f (tgt := 1145) dL_law_1140 (by decide) h13) ?_
    refine SgP.go (pc' := 1144) (mi_iconst (z := 0) dL_law_1143 rfl) ?_
    exact SgP.ret (mi_ireturn dL_law_1144 rfl (Or.inr (Or.inl ⟨rfl, Or.inl rfl⟩)))
def B_L_case17 (L : Nat) (xs : Nat → Int32) (Z2 : MiZ) (k : Int → MiM → MiD → MiZ → MiD → Option (Int × (MiM × (MiM × MiM)))) (i : Int) (M0 : MiM) (D1 : MiD) (Z1 : MiZ) (D2 : MiD) : Option (Int × (MiM × (MiM × MiM))) := if 0 ≤ (mi_w (i + 1)) ∧ (mi_w (i + 1)) < (L : Int) then (mi_bhT (B_X10_stuck Z1 ((xs (mi_w (i + 1)).toNat).toInt) D1) (fun k => k == 0) (fun k => 1) M0 fun y2 Mx3 Dx4 => mi_b2 (B_X11_stuck ((xs (mi_w (i + 1)).toNat).toInt) D2) fun y6 Dx7 => mi_bi (B_X11_thrown Dx7) fun y8 => if y8 = y2 then (if y2 ≠ 0 then (k (mi_w (i + 6)) Mx3 Dx4 Z1 Dx7) else (if (mi_cmp (Mx3.1 25 0 0) y6) = 0 then (k (mi_w (i + 6)) Mx3 Dx4 Z1 Dx7) else (some (0, (Mx3, ((Dx4, Z1), (Dx7, Z2))))))) else (some (0, (Mx3, ((Dx4, Z1), (Dx7, Z2)))))) else none
set_option maxRecDepth 20000 in
theorem S_L_case17 {L : Nat} {xs : Nat → Int32} {Z2 : MiZ} (hL2 : ML Z2) (hW2 : mi_cw mi_s2 Z2) {k : Int → MiM → MiD → MiZ → MiD → Option (Int × (MiM × (MiM × MiM)))} (K : ∀ (i : Int) (M0 : MiM) (D1 : MiD) (Z1 : MiZ) (D2 : MiD), SgP (mi_lP L xs) m_L_law 23 [(35, 0), (3, 0), (42, 0), (27, 0), (0, i), mi_un, mi_un, mi_un] [] (mi_cb M0 (D1, Z1) (D2, Z2)) (fun q => ((1, (0, q.1)), mi_cb q.2.1 q.2.2.1 q.2.2.2)) (k i M0 D1 Z1 D2)) (i : Int) (M0 : MiM) (D1 : MiD) (Z1 : MiZ) (D2 : MiD) (hL : CL Z1) (hW : mi_cw mi_s1 Z1) : SgP (mi_lP L xs) m_L_law 1165 [(35, 0), (3, 0), (42, 0), (27, 0), (0, i), mi_un, mi_un, mi_un] [] (mi_cb M0 (D1, Z1) (D2, Z2)) (fun q => ((1, (0, q.1)), mi_cb q.2.1 q.2.2.1 q.2.2.2)) (B_L_case17 L xs Z2 k i M0 D1 Z1 D2) := by
  unfold B_L_case17
  refine SgP.go (pc' := 1166) (mi_aload_n dL_law_1165 rfl) ?_
  refine SgP.go (pc' := 1167) (mi_aload_n dL_law_1166 rfl) ?_
  refine SgP.go (pc' := 1169) (mi_iload dL_law_1167 rfl) ?_
  refine SgP.go (pc' := 1170) (mi_iconst (z := 1) dL_law_1169 rfl) ?_
  refine SgP.go (pc' := 1171) (mi_iadd dL_law_1170) ?_
  refine SgP.ck (fun hk1 => ?_)
  refine SgP.goP (pc' := 1172) (mi_scr dL_law_1171 hk1) ?_
  refine SgP.go (pc' := 1173) (mi_aload_n dL_law_1172 rfl) ?_
  refine SgP.callHT (pc' := 1176) (μ' := m_L_stuck) (args := [(3, 0), (0, ((xs (mi_w (i + 1)).toNat).toInt)), (27, 0)]) (mi_invSH (n := 3) dL_law_1173 rfl wN_L_stuck rfl ⟨by decide, by decide⟩ wL_L_176 wT_L_stuck wB_L wC_L_stuck) (fun b hb hk => C_L_stuck hL hW ((xs (mi_w (i + 1)).toNat).toInt) D1 M0 (D2, Z2) b hb hk) (Nat.le_of_ble_eq_true rfl) rfl rfl (fun y2 Mx3 Dx4 => ?_)
  refine SgP.go (pc' := 1178) (mi_istore (ls1 := [(35, 0), (3, 0), (42, 0), (27, 0), (0, i), (0, y2), mi_un, mi_un]) dL_law_1176 (by decide) rfl) ?_
  refine SgP.go (pc' := 1179) (mi_aload_n dL_law_1178 rfl) ?_
  refine SgP.go (pc' := 1180) (mi_aload_n dL_law_1179 rfl) ?_
  refine SgP.go (pc' := 1182) (mi_iload dL_law_1180 rfl) ?_
  refine SgP.go (pc' := 1183) (mi_iconst (z := 1) dL_law_1182 rfl) ?_
  refine SgP.go (pc' := 1184) (mi_iadd dL_law_1183) ?_
  refine SgP.goP (pc' := 1185) (mi_scr dL_law_1184 hk1) ?_
  refine SgP.callD2 (t := 0) (pc' := 1188) (μ' := m_X11_stuck) (args := [(42, 0), (0, ((xs (mi_w (i + 1)).toNat).toInt))]) (mi_invV (n := 1) (r := 40) dL_law_1185 hC_40 (by omega) rfl rfl wN_X11_stuck rfl ⟨by decide, by decide⟩ wL_L_178 wI_X11_stuck wS_X11_stuck wB_X11 wC_X11_stuck) (fun v hv => C_X11_stuck hL2 ((xs (mi_w (i + 1)).toNat).toInt) D2 v hv) hW2 (show (0 : Nat) < 2 by decide) rfl (Nat.le_of_ble_eq_true rfl) rfl rfl (fun y6 Dx7 => ?_)
  refine SgP.go (pc' := 1190) (mi_istore (ls1 := [(35, 0), (3, 0), (42, 0), (27, 0), (0, i), (0, y2), (0, y6), mi_un]) dL_law_1188 (by decide) rfl) ?_
  refine SgP.go (pc' := 1191) (mi_aload_n dL_law_1190 rfl) ?_
  refine SgP.callI2 (t := 0) (pc' := 1194) (μ' := m_X11_thrown) (args := [(42, 0)]) (mi_invV (n := 0) (r := 40) dL_law_1191 hC_40 (by omega) rfl rfl wN_X11_thrown rfl ⟨by decide, by decide⟩ wL_L_124 wI_X11_thrown wS_X11_thrown wB_X11 wC_X11_thrown) (fun v hv => C_X11_thrown hL2 Dx7 v hv) hW2 (show (0 : Nat) < 2 by decide) rfl (Nat.le_of_ble_eq_true rfl) rfl rfl (fun y8 => ?_)
  refine SgP.go (pc' := 1196) (mi_iload dL_law_1194 rfl) ?_
  refine SgP.ite (fun h9 => ?_) (fun h9 => ?_)
  · refine SgP.go (pc' := 1201) (mi_icmpeq_t (tgt := 1201) dL_law_1196 (by decide) h9) ?_
    refine SgP.go (pc' := 1203) (mi_iload dL_law_1201 rfl) ?_
    refine SgP.ite (fun h10 => ?_) (fun h10 => ?_)
    · refine SgP.go (pc' := 1218) (mi_ifne_t (tgt := 1218) dL_law_1203 (by decide) h10) ?_
      refine SgP.go (pc' := 2238) (mi_goto (tgt := 2238) dL_law_1218 (by decide)) ?_
      refine SgP.go (pc' := 2238) (MiStep.weak (ls' := [(35, 0), (3, 0), (42, 0), (27, 0), (0, i), mi_un, mi_un, mi_un]) (mi_wk_y (mi_wk_y (mi_wk_y (mi_wk_y (mi_wk_y (mi_wk_n (mi_wk_n (mi_wk_y mi_wk_0))))))))) ?_
      refine SgP.go (pc' := 2241) (mi_iinc (z := 6) (ls1 := [(35, 0), (3, 0), (42, 0), (27, 0), (0, (mi_w (i + 6))), mi_un, mi_un, mi_un]) dL_law_2238 (by decide) rfl rfl rfl) ?_
      refine SgP.go (pc' := 23) (mi_goto (tgt := 23) dL_law_2241 (by decide)) ?_
      exact K (mi_w (i + 6)) Mx3 Dx4 Z1 Dx7
    · refine SgP.go (pc' := 1206) (mi_ifne_f (tgt := 1218) dL_law_1203 (by decide) h10) ?_
      refine SgP.go (pc' := 1207) (mi_aload_n dL_law_1206 rfl) ?_
      refine SgP.go (pc' := 1208) (mi_iconst (z := 0) dL_law_1207 rfl) ?_
      refine SgP.go (pc' := 1209) (mi_outld dL_law_1208) ?_
      refine SgP.go (pc' := 1211) (mi_iload dL_law_1209 rfl) ?_
      refine SgP.go (pc' := 1212) (mi_i2l dL_law_1211) ?_
      refine SgP.go (pc' := 1213) (mi_lcmp dL_law_1212) ?_
      refine SgP.ite (fun h11 => ?_) (fun h11 => ?_)
      · refine SgP.go (pc' := 1218) (mi_ifeq_t (tgt := 1218) dL_law_1213 (by decide) h11) ?_
        refine SgP.go (pc' := 2238) (mi_goto (tgt := 2238) dL_law_1218 (by decide)) ?_
        refine SgP.go (pc' := 2238) (MiStep.weak (ls' := [(35, 0), (3, 0), (42, 0), (27, 0), (0, i), mi_un, mi_un, mi_un]) (mi_wk_y (mi_wk_y (mi_wk_y (mi_wk_y (mi_wk_y (mi_wk_n (mi_wk_n (mi_wk_y mi_wk_0))))))))) ?_
        refine SgP.go (pc' := 2241) (mi_iinc (z := 6) (ls1 := [(35, 0), (3, 0), (42, 0), (27, 0), (0, (mi_w (i + 6))), mi_un, mi_un, mi_un]) dL_law_2238 (by decide) rfl rfl rfl) ?_
        refine SgP.go (pc' := 23) (mi_goto (tgt := 23) dL_law_2241 (by decide)) ?_
        exact K (mi_w (i + 6)) Mx3 Dx4 Z1 Dx7
      · refine SgP.go (pc' := 1216) (mi_ifeq_f (tgt := 1218) dL_law_1213 (by decide) h11) ?_
        refine SgP.go (pc' := 1217) (mi_iconst (z := 0) dL_law_1216 rfl) ?_
        exact SgP.ret (mi_ireturn dL_law_1217 rfl (Or.inr (Or.inl ⟨rfl, Or.inl rfl⟩)))
  · refine SgP.go (pc' := 1199) (mi_icmpeq_f (tgt := 1201) dL_law_1196 (by decide) h9) ?_
    refine SgP.go (pc' := 1200) (mi_iconst (z := 0) dL_law_1199 rfl) ?_
    exact SgP.ret (mi_ireturn dL_law_1200 rfl (Or.inr (Or.inl ⟨rfl, Or.inl rfl⟩)))
def B_L_case18 (L : Nat) (xs : Nat → Int32) (Z2 : MiZ) (k : Int → MiM → MiD → MiZ → MiD → Option (Int × (MiM × (MiM × MiM)))) (i : Int) (M0 : MiM) (D1 : MiD) (Z1 : MiZ) (D2 : MiD) : Option (Int × (MiM × (MiM × MiM))) := if 0 ≤ (mi_w (i + 1)) ∧ (mi_w (i + 1)) < (L : Int) then (if 0 ≤ (mi_w (i + 2)) ∧ (mi_w (i + 2)) < (L : Int) then (mi_bhT (B_X10_calls Z1 ((xs (mi_w (i + 1)).toNat).toInt) ((xs (mi_w (i + 2)).toNat).toInt) D1) (fun k => k == 0) (fun k => 1) M0 fun y3 Mx4 Dx5 => mi_b2 (B_X11_calls ((xs (mi_w (i + 1)).toNat).toInt) ((xs (mi_w (i + 2)).toNat).toInt) D2) fun y8 Dx9 => mi_bi (B_X11_thrown Dx9) fun y10 => if y10 = y3 then (if y3 ≠ 0 then (k (mi_w (i + 6)) Mx4 Dx5 Z1 Dx9) else (if (mi_cmp (Mx4.1 25 0 0) y8) = 0 then (k (mi_w (i + 6)) Mx4 Dx5 Z1 Dx9) else (some (0, (Mx4, ((Dx5, Z1), (Dx9, Z2))))))) else (some (0, (Mx4, ((Dx5, Z1), (Dx9, Z2)))))) else none) else none
set_option maxRecDepth 20000 in
theorem S_L_case18 {L : Nat} {xs : Nat → Int32} {Z2 : MiZ} (hL2 : ML Z2) (hW2 : mi_cw mi_s2 Z2) {k : Int → MiM → MiD → MiZ → MiD → Option (Int × (MiM × (MiM × MiM)))} (K : ∀ (i : Int) (M0 : MiM) (D1 : MiD) (Z1 : MiZ) (D2 : MiD), SgP (mi_lP L xs) m_L_law 23 [(35, 0), (3, 0), (42, 0), (27, 0), (0, i), mi_un, mi_un, mi_un] [] (mi_cb M0 (D1, Z1) (D2, Z2)) (fun q => ((1, (0, q.1)), mi_cb q.2.1 q.2.2.1 q.2.2.2)) (k i M0 D1 Z1 D2)) (i : Int) (M0 : MiM) (D1 : MiD) (Z1 : MiZ) (D2 : MiD) (hL : CL Z1) (hW : mi_cw mi_s1 Z1) : SgP (mi_lP L xs) m_L_law 1221 [(35, 0), (3, 0), (42, 0), (27, 0), (0, i), mi_un, mi_un, mi_un] [] (mi_cb M0 (D1, Z1) (D2, Z2)) (fun q => ((1, (0, q.1)), mi_cb q.2.1 q.2.2.1 q.2.2.2)) (B_L_case18 L xs Z2 k i M0 D1 Z1 D2) := by
  unfold B_L_case18
  refine SgP.go (pc' := 1222) (mi_aload_n dL_law_1221 rfl) ?_
  refine SgP.go (pc' := 1223) (mi_aload_n dL_law_1222 rfl) ?_
  refine SgP.go (pc' := 1225) (mi_iload dL_law_1223 rfl) ?_
  refine SgP.go (pc' := 1226) (mi_iconst (z := 1) dL_law_1225 rfl) ?_
  refine SgP.go (pc' := 1227) (mi_iadd dL_law_1226) ?_
  refine SgP.ck (fun hk1 => ?_)
  refine SgP.goP (pc' := 1228) (mi_scr dL_law_1227 hk1) ?_
  refine SgP.go (pc' := 1229) (mi_aload_n dL_law_1228 rfl) ?_
  refine SgP.go (pc' := 1231) (mi_iload dL_law_1229 rfl) ?_
  refine SgP.go (pc' := 1232) (mi_iconst (z := 2) dL_law_1231 rfl) ?_
  refine SgP.go (pc' := 1233) (mi_iadd dL_law_1232) ?_
  refine SgP.ck (fun hk2 => ?_)
  refine SgP.goP (pc' := 1234) (mi_scr dL_law_1233 hk2) ?_
  refine SgP.go (pc' := 1235) (mi_aload_n dL_law_1234 rfl) ?_
  refine SgP.callHT (pc' := 1238) (μ' := m_L_calls) (args := [(3, 0), (0, ((xs (mi_w (i + 1)).toNat).toInt)), (0, ((xs (mi_w (i + 2)).toNat).toInt)), (27, 0)]) (mi_invSH (n := 4) dL_law_1235 rfl wN_L_calls rfl ⟨by decide, by decide⟩ wL_L_179 wT_L_calls wB_L wC_L_calls) (fun b hb hk => C_L_calls hL hW ((xs (mi_w (i + 1)).toNat).toInt) ((xs (mi_w (i + 2)).toNat).toInt) D1 M0 (D2, Z2) b hb hk) (Nat.le_of_ble_eq_true rfl) rfl rfl (fun y3 Mx4 Dx5 => ?_)
  refine SgP.go (pc' := 1240) (mi_istore (ls1 := [(35, 0), (3, 0), (42, 0), (27, 0), (0, i), (0, y3), mi_un, mi_un]) dL_law_1238 (by decide) rfl) ?_
  refine SgP.go (pc' := 1241) (mi_aload_n dL_law_1240 rfl) ?_
  refine SgP.go (pc' := 1242) (mi_aload_n dL_law_1241 rfl) ?_
  refine SgP.go (pc' := 1244) (mi_iload dL_law_1242 rfl) ?_
  refine SgP.go (pc' := 1245) (mi_iconst (z := 1) dL_law_1244 rfl) ?_
  refine SgP.go (pc' := 1246) (mi_iadd dL_law_1245) ?_
  refine SgP.goP (pc' := 1247) (mi_scr dL_law_1246 hk1) ?_
  refine SgP.go (pc' := 1248) (mi_aload_n dL_law_1247 rfl) ?_
  refine SgP.go (pc' := 1250) (mi_iload dL_law_1248 rfl) ?_
  refine SgP.go (pc' := 1251) (mi_iconst (z := 2) dL_law_1250 rfl) ?_
  refine SgP.go (pc' := 1252) (mi_iadd dL_law_1251) ?_
  refine SgP.goP (pc' := 1253) (mi_scr dL_law_1252 hk2) ?_
  refine SgP.callD2 (t := 0) (pc' := 1256) (μ' := m_X11_calls) (args := [(42, 0), (0, ((xs (mi_w (i + 1)).toNat).toInt)), (0, ((xs (mi_w (i + 2)).toNat).toInt))]) (mi_invV (n := 2) (r := 40) dL_law_1253 hC_40 (by omega) rfl rfl wN_X11_calls rfl ⟨by decide, by decide⟩ wL_L_181 wI_X11_calls wS_X11_calls wB_X11 wC_X11_calls) (fun v hv => C_X11_calls hL2 ((xs (mi_w (i + 1)).toNat).toInt) ((xs (mi_w (i + 2)).toNat).toInt) D2 v hv) hW2 (show (0 : Nat) < 2 by decide) rfl (Nat.le_of_ble_eq_true rfl) rfl rfl (fun y8 Dx9 => ?_)
  refine SgP.go (pc' := 1258) (mi_istore (ls1 := [(35, 0), (3, 0), (42, 0), (27, 0), (0, i), (0, y3), (0, y8), mi_un]) dL_law_1256 (by decide) rfl) ?_
  refine SgP.go (pc' := 1259) (mi_aload_n dL_law_1258 rfl) ?_
  refine SgP.callI2 (t := 0) (pc' := 1262) (μ' := m_X11_thrown) (args := [(42, 0)]) (mi_invV (n := 0) (r := 40) dL_law_1259 hC_40 (by omega) rfl rfl wN_X11_thrown rfl ⟨by decide, by decide⟩ wL_L_124 wI_X11_thrown wS_X11_thrown wB_X11 wC_X11_thrown) (fun v hv => C_X11_thrown hL2 Dx9 v hv) hW2 (show (0 : Nat) < 2 by decide) rfl (Nat.le_of_ble_eq_true rfl) rfl rfl (fun y10 => ?_)
  refine SgP.go (pc' := 1264) (mi_iload dL_law_1262 rfl) ?_
  refine SgP.ite (fun h11 => ?_) (fun h11 => ?_)
  · refine SgP.go (pc' := 1269) (mi_icmpeq_t (tgt := 1269) dL_law_1264 (by decide) h11) ?_
    refine SgP.go (pc' := 1271) (mi_iload dL_law_1269 rfl) ?_
    refine SgP.ite (fun h12 => ?_) (fun h12 => ?_)
    · refine SgP.go (pc' := 1286) (mi_ifne_t (tgt := 1286) dL_law_1271 (by decide) h12) ?_
      refine SgP.go (pc' := 2238) (mi_goto (tgt := 2238) dL_law_1286 (by decide)) ?_
      refine SgP.go (pc' := 2238) (MiStep.weak (ls' := [(35, 0), (3, 0), (42, 0), (27, 0), (0, i), mi_un, mi_un, mi_un]) (mi_wk_y (mi_wk_y (mi_wk_y (mi_wk_y (mi_wk_y (mi_wk_n (mi_wk_n (mi_wk_y mi_wk_0))))))))) ?_
      refine SgP.go (pc' := 2241) (mi_iinc (z := 6) (ls1 := [(35, 0), (3, 0), (42, 0), (27, 0), (0, (mi_w (i + 6))), mi_un, mi_un, mi_un]) dL_law_2238 (by decide) rfl rfl rfl) ?_
      refine SgP.go (pc' := 23) (mi_goto (tgt := 23) dL_law_2241 (by decide)) ?_
      exact K (mi_w (i + 6)) Mx4 Dx5 Z1 Dx9
    · refine SgP.go (pc' := 1274) (mi_ifne_f (tgt := 1286) dL_law_1271 (by decide) h12) ?_
      refine SgP.go (pc' := 1275) (mi_aload_n dL_law_1274 rfl) ?_
      refine SgP.go (pc' := 1276) (mi_iconst (z := 0) dL_law_1275 rfl) ?_
      refine SgP.go (pc' := 1277) (mi_outld dL_law_1276) ?_
      refine SgP.go (pc' := 1279) (mi_iload dL_law_1277 rfl) ?_
      refine SgP.go (pc' := 1280) (mi_i2l dL_law_1279) ?_
      refine SgP.go (pc' := 1281) (mi_lcmp dL_law_1280) ?_
      refine SgP.ite (fun h13 => ?_) (fun h13 => ?_)
      · refine SgP.go (pc' := 1286) (mi_ifeq_t (tgt := 1286) dL_law_1281 (by decide) h13) ?_
        refine SgP.go (pc' := 2238) (mi_goto (tgt := 2238) dL_law_1286 (by decide)) ?_
        refine SgP.go (pc' := 2238) (MiStep.weak (ls' := [(35, 0), (3, 0), (42, 0), (27, 0), (0, i), mi_un, mi_un, mi_un]) (mi_wk_y (mi_wk_y (mi_wk_y (mi_wk_y (mi_wk_y (mi_wk_n (mi_wk_n (mi_wk_y mi_wk_0))))))))) ?_
        refine SgP.go (pc' := 2241) (mi_iinc (z := 6) (ls1 := [(35, 0), (3, 0), (42, 0), (27, 0), (0, (mi_w (i + 6))), mi_un, mi_un, mi_un]) dL_law_2238 (by decide) rfl rfl rfl) ?_
        refine SgP.go (pc' := 23) (mi_goto (tgt := 23) dL_law_2241 (by decide)) ?_
        exact K (mi_w (i + 6)) Mx4 Dx5 Z1 Dx9
      · refine SgP.go (pc' := 1284) (mi_ifeq_f (tgt := 1286) dL_law_1281 (by decide) h13) ?_
        refine SgP.go (pc' := 1285) (mi_iconst (z := 0) dL_law_1284 rfl) ?_
        exact SgP.ret (mi_ireturn dL_law_1285 rfl (Or.inr (Or.inl ⟨rfl, Or.inl rfl⟩)))
  · refine SgP.go (pc' := 1267) (mi_icmpeq_f (tgt := 1269) dL_law_1264 (by decide) h11) ?_
    refine SgP.go (pc' := 1268) (mi_iconst (z := 0) dL_law_1267 rfl) ?_
    exact SgP.ret (mi_ireturn dL_law_1268 rfl (Or.inr (Or.inl ⟨rfl, Or.inl rfl⟩)))
def B_L_case19 (L : Nat) (xs : Nat → Int32) (Z2 : MiZ) (k : Int → MiM → MiD → MiZ → MiD → Option (Int × (MiM × (MiM × MiM)))) (i : Int) (M0 : MiM) (D1 : MiD) (Z1 : MiZ) (D2 : MiD) : Option (Int × (MiM × (MiM × MiM))) := if 0 ≤ (mi_w (i + 1)) ∧ (mi_w (i + 1)) < (L : Int) then (mi_bhT (B_X10_entry Z1 ((xs (mi_w (i + 1)).toNat).toInt) D1) (fun k => k == 0) (fun k => 1) M0 fun y2 Mx3 Dx4 => mi_b2 (B_X11_entry ((xs (mi_w (i + 1)).toNat).toInt) D2) fun y6 Dx7 => mi_bi (B_X11_thrown Dx7) fun y8 => if y8 = y2 then (if y2 ≠ 0 then (k (mi_w (i + 6)) Mx3 Dx4 Z1 Dx7) else (if (mi_cmp (Mx3.1 25 0 0) y6) = 0 then (k (mi_w (i + 6)) Mx3 Dx4 Z1 Dx7) else (some (0, (Mx3, ((Dx4, Z1), (Dx7, Z2))))))) else (some (0, (Mx3, ((Dx4, Z1), (Dx7, Z2)))))) else none
set_option maxRecDepth 20000 in
theorem S_L_case19 {L : Nat} {xs : Nat → Int32} {Z2 : MiZ} (hL2 : ML Z2) (hW2 : mi_cw mi_s2 Z2) {k : Int → MiM → MiD → MiZ → MiD → Option (Int × (MiM × (MiM × MiM)))} (K : ∀ (i : Int) (M0 : MiM) (D1 : MiD) (Z1 : MiZ) (D2 : MiD), SgP (mi_lP L xs) m_L_law 23 [(35, 0), (3, 0), (42, 0), (27, 0), (0, i), mi_un, mi_un, mi_un] [] (mi_cb M0 (D1, Z1) (D2, Z2)) (fun q => ((1, (0, q.1)), mi_cb q.2.1 q.2.2.1 q.2.2.2)) (k i M0 D1 Z1 D2)) (i : Int) (M0 : MiM) (D1 : MiD) (Z1 : MiZ) (D2 : MiD) (hL : CL Z1) (hW : mi_cw mi_s1 Z1) : SgP (mi_lP L xs) m_L_law 1289 [(35, 0), (3, 0), (42, 0), (27, 0), (0, i), mi_un, mi_un, mi_un] [] (mi_cb M0 (D1, Z1) (D2, Z2)) (fun q => ((1, (0, q.1)), mi_cb q.2.1 q.2.2.1 q.2.2.2)) (B_L_case19 L xs Z2 k i M0 D1 Z1 D2) := by
  unfold B_L_case19
  refine SgP.go (pc' := 1290) (mi_aload_n dL_law_1289 rfl) ?_
  refine SgP.go (pc' := 1291) (mi_aload_n dL_law_1290 rfl) ?_
  refine SgP.go (pc' := 1293) (mi_iload dL_law_1291 rfl) ?_
  refine SgP.go (pc' := 1294) (mi_iconst (z := 1) dL_law_1293 rfl) ?_
  refine SgP.go (pc' := 1295) (mi_iadd dL_law_1294) ?_
  refine SgP.ck (fun hk1 => ?_)
  refine SgP.goP (pc' := 1296) (mi_scr dL_law_1295 hk1) ?_
  refine SgP.go (pc' := 1297) (mi_aload_n dL_law_1296 rfl) ?_
  refine SgP.callHT (pc' := 1300) (μ' := m_L_entry) (args := [(3, 0), (0, ((xs (mi_w (i + 1)).toNat).toInt)), (27, 0)]) (mi_invSH (n := 3) dL_law_1297 rfl wN_L_entry rfl ⟨by decide, by decide⟩ wL_L_182 wT_L_entry wB_L wC_L_entry) (fun b hb hk => C_L_entry hL hW ((xs (mi_w (i + 1)).toNat).toInt) D1 M0 (D2, Z2) b hb hk) (Nat.le_of_ble_eq_true rfl) rfl rfl (fun y2 Mx3 Dx4 => ?_)
  refine SgP.go (pc' := 1302) (mi_istore (ls1 := [(35, 0), (3, 0), (42, 0), (27, 0), (0, i), (0, y2), mi_un, mi_un]) dL_law_1300 (by decide) rfl) ?_
  refine SgP.go (pc' := 1303) (mi_aload_n dL_law_1302 rfl) ?_
  refine SgP.go (pc' := 1304) (mi_aload_n dL_law_1303 rfl) ?_
  refine SgP.go (pc' := 1306) (mi_iload dL_law_1304 rfl) ?_
  refine SgP.go (pc' := 1307) (mi_iconst (z := 1) dL_law_1306 rfl) ?_
  refine SgP.go (pc' := 1308) (mi_iadd dL_law_1307) ?_
  refine SgP.goP (pc' := 1309) (mi_scr dL_law_1308 hk1) ?_
  refine SgP.callD2 (t := 0) (pc' := 1312) (μ' := m_X11_entry) (args := [(42, 0), (0, ((xs (mi_w (i + 1)).toNat).toInt))]) (mi_invV (n := 1) (r := 40) dL_law_1309 hC_40 (by omega) rfl rfl wN_X11_entry rfl ⟨by decide, by decide⟩ wL_L_184 wI_X11_entry wS_X11_entry wB_X11 wC_X11_entry) (fun v hv => C_X11_entry hL2 ((xs (mi_w (i + 1)).toNat).toInt) D2 v hv) hW2 (show (0 : Nat) < 2 by decide) rfl (Nat.le_of_ble_eq_true rfl) rfl rfl (fun y6 Dx7 => ?_)
  refine SgP.go (pc' := 1314) (mi_istore (ls1 := [(35, 0), (3, 0), (42, 0), (27, 0), (0, i), (0, y2), (0, y6), mi_un]) dL_law_1312 (by decide) rfl) ?_
  refine SgP.go (pc' := 1315) (mi_aload_n dL_law_1314 rfl) ?_
  refine SgP.callI2 (t := 0) (pc' := 1318) (μ' := m_X11_thrown) (args := [(42, 0)]) (mi_invV (n := 0) (r := 40) dL_law_1315 hC_40 (by omega) rfl rfl wN_X11_thrown rfl ⟨by decide, by decide⟩ wL_L_124 wI_X11_thrown wS_X11_thrown wB_X11 wC_X11_thrown) (fun v hv => C_X11_thrown hL2 Dx7 v hv) hW2 (show (0 : Nat) < 2 by decide) rfl (Nat.le_of_ble_eq_true rfl) rfl rfl (fun y8 => ?_)
  refine SgP.go (pc' := 1320) (mi_iload dL_law_1318 rfl) ?_
  refine SgP.ite (fun h9 => ?_) (fun h9 => ?_)
  · refine SgP.go (pc' := 1325) (mi_icmpeq_t (tgt := 1325) dL_law_1320 (by decide) h9) ?_
    refine SgP.go (pc' := 1327) (mi_iload dL_law_1325 rfl) ?_
    refine SgP.ite (fun h10 => ?_) (fun h10 => ?_)
    · refine SgP.go (pc' := 1342) (mi_ifne_t (tgt := 1342) dL_law_1327 (by decide) h10) ?_
      refine SgP.go (pc' := 2238) (mi_goto (tgt := 2238) dL_law_1342 (by decide)) ?_
      refine SgP.go (pc' := 2238) (MiStep.weak (ls' := [(35, 0), (3, 0), (42, 0), (27, 0), (0, i), mi_un, mi_un, mi_un]) (mi_wk_y (mi_wk_y (mi_wk_y (mi_wk_y (mi_wk_y (mi_wk_n (mi_wk_n (mi_wk_y mi_wk_0))))))))) ?_
      refine SgP.go (pc' := 2241) (mi_iinc (z := 6) (ls1 := [(35, 0), (3, 0), (42, 0), (27, 0), (0, (mi_w (i + 6))), mi_un, mi_un, mi_un]) dL_law_2238 (by decide) rfl rfl rfl) ?_
      refine SgP.go (pc' := 23) (mi_goto (tgt := 23) dL_law_2241 (by decide)) ?_
      exact K (mi_w (i + 6)) Mx3 Dx4 Z1 Dx7
    · refine SgP.go (pc' := 1330) (mi_ifne_f (tgt := 1342) dL_law_1327 (by decide) h10) ?_
      refine SgP.go (pc' := 1331) (mi_aload_n dL_law_1330 rfl) ?_
      refine SgP.go (pc' := 1332) (mi_iconst (z := 0) dL_law_1331 rfl) ?_
      refine SgP.go (pc' := 1333) (mi_outld dL_law_1332) ?_
      refine SgP.go (pc' := 1335) (mi_iload dL_law_1333 rfl) ?_
      refine SgP.go (pc' := 1336) (mi_i2l dL_law_1335) ?_
      refine SgP.go (pc' := 1337) (mi_lcmp dL_law_1336) ?_
      refine SgP.ite (fun h11 => ?_) (fun h11 => ?_)
      · refine SgP.go (pc' := 1342) (mi_ifeq_t (tgt := 1342) dL_law_1337 (by decide) h11) ?_
        refine SgP.go (pc' := 2238) (mi_goto (tgt := 2238) dL_law_1342 (by decide)) ?_
        refine SgP.go (pc' := 2238) (MiStep.weak (ls' := [(35, 0), (3, 0), (42, 0), (27, 0), (0, i), mi_un, mi_un, mi_un]) (mi_wk_y (mi_wk_y (mi_wk_y (mi_wk_y (mi_wk_y (mi_wk_n (mi_wk_n (mi_wk_y mi_wk_0))))))))) ?_
        refine SgP.go (pc' := 2241) (mi_iinc (z := 6) (ls1 := [(35, 0), (3, 0), (42, 0), (27, 0), (0, (mi_w (i + 6))), mi_un, mi_un, mi_un]) dL_law_2238 (by decide) rfl rfl rfl) ?_
        refine SgP.go (pc' := 23) (mi_goto (tgt := 23) dL_law_2241 (by decide)) ?_
        exact K (mi_w (i + 6)) Mx3 Dx4 Z1 Dx7
      · refine SgP.go (pc' := 1340) (mi_ifeq_f (tgt := 1342) dL_law_1337 (by decide) h11) ?_
        refine SgP.go (pc' := 1341) (mi_iconst (z := 0) dL_law_1340 rfl) ?_
        exact SgP.ret (mi_ireturn dL_law_1341 rfl (Or.inr (Or.inl ⟨rfl, Or.inl rfl⟩)))
  · refine SgP.go (pc' := 1323) (mi_icmpeq_f (tgt := 1325) dL_law_1320 (by decide) h9) ?_
    refine SgP.go (pc' := 1324) (mi_iconst (z := 0) dL_law_1323 rfl) ?_
    exact SgP.ret (mi_ireturn dL_law_1324 rfl (Or.inr (Or.inl ⟨rfl, Or.inl rfl⟩)))
def B_L_case20 (L : Nat) (xs : Nat → Int32) (Z2 : MiZ) (k : Int → MiM → MiD → MiZ → MiD → Option (Int × (MiM × (MiM × MiM)))) (i : Int) (M0 : MiM) (D1 : MiD) (Z1 : MiZ) (D2 : MiD) : Option (Int × (MiM × (MiM × MiM))) := if 0 ≤ (mi_w (i + 1)) ∧ (mi_w (i + 1)) < (L : Int) then (if 0 ≤ (mi_w (i + 2)) ∧ (mi_w (i + 2)) < (L : Int) then (mi_bhT (B_X10_patchOf Z1 ((xs (mi_w (i + 1)).toNat).toInt) ((xs (mi_w (i + 2)).toNat).toInt) D1) (fun k => k == 0 || k == 1) (fun k => if k = 0 then 1 else 2) M0 fun y3 Mx4 Dx5 => mi_b2 (B_X11_patchOf ((xs (mi_w (i + 1)).toNat).toInt) ((xs (mi_w (i + 2)).toNat).toInt) D2) fun y8 Dx9 => mi_bi (B_X11_thrown Dx9) fun y10 => if y10 = y3 then (if y3 ≠ 0 then (k (mi_w (i + 6)) Mx4 Dx5 Z1 Dx9) else (if (mi_cmp (Mx4.1 25 0 0) y8) = 0 then (k (mi_w (i + 6)) Mx4 Dx5 Z1 Dx9) else (some (0, (Mx4, ((Dx5, Z1), (Dx9, Z2))))))) else (some (0, (Mx4, ((Dx5, Z1), (Dx9, Z2)))))) else none) else none
set_option maxRecDepth 20000 in
theorem S_L_case20 {L : Nat} {xs : Nat → Int32} {Z2 : MiZ} (hL2 : ML Z2) (hW2 : mi_cw mi_s2 Z2) {k : Int → MiM → MiD → MiZ → MiD → Option (Int × (MiM × (MiM × MiM)))} (K : ∀ (i : Int) (M0 : MiM) (D1 : MiD) (Z1 : MiZ) (D2 : MiD), SgP (mi_lP L xs) m_L_law 23 [(35, 0), (3, 0), (42, 0), (27, 0), (0, i), mi_un, mi_un, mi_un] [] (mi_cb M0 (D1, Z1) (D2, Z2)) (fun q => ((1, (0, q.1)), mi_cb q.2.1 q.2.2.1 q.2.2.2)) (k i M0 D1 Z1 D2)) (i : Int) (M0 : MiM) (D1 : MiD) (Z1 : MiZ) (D2 : MiD) (hL : CL Z1) (hW : mi_cw mi_s1 Z1) : SgP (mi_lP L xs) m_L_law 1345 [(35, 0), (3, 0), (42, 0), (27, 0), (0, i), mi_un, mi_un, mi_un] [] (mi_cb M0 (D1, Z1) (D2, Z2)) (fun q => ((1, (0, q.1)), mi_cb q.2.1 q.2.2.1 q.2.2.2)) (B_L_case20 L xs Z2 k i M0 D1 Z1 D2) := by
  unfold B_L_case20
  refine SgP.go (pc' := 1346) (mi_aload_n dL_law_1345 rfl) ?_
  refine SgP.go (pc' := 1347) (mi_aload_n dL_law_1346 rfl) ?_
  refine SgP.go (pc' := 1349) (mi_iload dL_law_1347 rfl) ?_
  refine SgP.go (pc' := 1350) (mi_iconst (z := 1) dL_law_1349 rfl) ?_
  refine SgP.go (pc' := 1351) (mi_iadd dL_law_1350) ?_
  refine SgP.ck (fun hk1 => ?_)
  refine SgP.goP (pc' := 1352) (mi_scr dL_law_1351 hk1) ?_
  refine SgP.go (pc' := 1353) (mi_aload_n dL_law_1352 rfl) ?_
  refine SgP.go (pc' := 1355) (mi_iload dL_law_1353 rfl) ?_
  refine SgP.go (pc' := 1356) (mi_iconst (z := 2) dL_law_1355 rfl) ?_
  refine SgP.go (pc' := 1357) (mi_iadd dL_law_1356) ?_
  refine SgP.ck (fun hk2 => ?_)
  refine SgP.goP (pc' := 1358) (mi_scr dL_law_1357 hk2) ?_
  refine SgP.go (pc' := 1359) (mi_aload_n dL_law_1358 rfl) ?_
  refine SgP.callHT (pc' := 1362) (μ' := m_L_patchOf) (args := [(3, 0), (0, ((xs (mi_w (i + 1)).toNat).toInt)), (0, ((xs (mi_w (i + 2)).toNat).toInt)), (27, 0)]) (mi_invSH (n := 4) dL_law_1359 rfl wN_L_patchOf rfl ⟨by decide, by decide⟩ wL_L_185 wT_L_patchOf wB_L wC_L_patchOf) (fun b hb hk => C_L_patchOf hL hW ((xs (mi_w (i + 1)).toNat).toInt) ((xs (mi_w (i + 2)).toNat).toInt) D1 M0 (D2, Z2) b hb hk) (Nat.le_of_ble_eq_true rfl) rfl rfl (fun y3 Mx4 Dx5 => ?_)
  refine SgP.go (pc' := 1364) (mi_istore (ls1 := [(35, 0), (3, 0), (42, 0), (27, 0), (0, i), (0, y3), mi_un, mi_un]) dL_law_1362 (by decide) rfl) ?_
  refine SgP.go (pc' := 1365) (mi_aload_n dL_law_1364 rfl) ?_
  refine SgP.go (pc' := 1366) (mi_aload_n dL_law_1365 rfl) ?_
  refine SgP.go (pc' := 1368) (mi_iload dL_law_1366 rfl) ?_
  refine SgP.go (pc' := 1369) (mi_iconst (z := 1) dL_law_1368 rfl) ?_
  refine SgP.go (pc' := 1370) (mi_iadd dL_law_1369) ?_
  refine SgP.goP (pc' := 1371) (mi_scr dL_law_1370 hk1) ?_
  refine SgP.go (pc' := 1372) (mi_aload_n dL_law_1371 rfl) ?_
  refine SgP.go (pc' := 1374) (mi_iload dL_law_1372 rfl) ?_
  refine SgP.go (pc' := 1375) (mi_iconst (z := 2) dL_law_1374 rfl) ?_
  refine SgP.go (pc' := 1376) (mi_iadd dL_law_1375) ?_
  refine SgP.goP (pc' := 1377) (mi_scr dL_law_1376 hk2) ?_
  refine SgP.callD2 (t := 0) (pc' := 1380) (μ' := m_X11_patchOf) (args := [(42, 0), (0, ((xs (mi_w (i + 1)).toNat).toInt)), (0, ((xs (mi_w (i + 2)).toNat).toInt))]) (mi_invV (n := 2) (r := 40) dL_law_1377 hC_40 (by omega) rfl rfl wN_X11_patchOf rfl ⟨by decide, by decide⟩ wL_L_187 wI_X11_patchOf wS_X11_patchOf wB_X11 wC_X11_patchOf) (fun v hv => C_X11_patchOf hL2 ((xs (mi_w (i + 1)).toNat).toInt) ((xs (mi_w (i + 2)).toNat).toInt) D2 v hv) hW2 (show (0 : Nat) < 2 by decide) rfl (Nat.le_of_ble_eq_true rfl) rfl rfl (fun y8 Dx9 => ?_)
  refine SgP.go (pc' := 1382) (mi_istore (ls1 := [(35, 0), (3, 0), (42, 0), (27, 0), (0, i), (0, y3), (0, y8), mi_un]) dL_law_1380 (by decide) rfl) ?_
  refine SgP.go (pc' := 1383) (mi_aload_n dL_law_1382 rfl) ?_
  refine SgP.callI2 (t := 0) (pc' := 1386) (μ' := m_X11_thrown) (args := [(42, 0)]) (mi_invV (n := 0) (r := 40) dL_law_1383 hC_40 (by omega) rfl rfl wN_X11_thrown rfl ⟨by decide, by decide⟩ wL_L_124 wI_X11_thrown wS_X11_thrown wB_X11 wC_X11_thrown) (fun v hv => C_X11_thrown hL2 Dx9 v hv) hW2 (show (0 : Nat) < 2 by decide) rfl (Nat.le_of_ble_eq_true rfl) rfl rfl (fun y10 => ?_)
  refine SgP.go (pc' := 1388) (mi_iload dL_law_1386 rfl) ?_
  refine SgP.ite (fun h11 => ?_) (fun h11 => ?_)
  · refine SgP.go (pc' := 1393) (mi_icmpeq_t (tgt := 1393) dL_law_1388 (by decide) h11) ?_
    refine SgP.go (pc' := 1395) (mi_iload dL_law_1393 rfl) ?_
    refine SgP.ite (fun h12 => ?_) (fun h12 => ?_)
    · refine SgP.go (pc' := 1410) (mi_ifne_t (tgt := 1410) dL_law_1395 (by decide) h12) ?_
      refine SgP.go (pc' := 2238) (mi_goto (tgt := 2238) dL_law_1410 (by decide)) ?_
      refine SgP.go (pc' := 2238) (MiStep.weak (ls' := [(35, 0), (3, 0), (42, 0), (27, 0), (0, i), mi_un, mi_un, mi_un]) (mi_wk_y (mi_wk_y (mi_wk_y (mi_wk_y (mi_wk_y (mi_wk_n (mi_wk_n (mi_wk_y mi_wk_0))))))))) ?_
      refine SgP.go (pc' := 2241) (mi_iinc (z := 6) (ls1 := [(35, 0), (3, 0), (42, 0), (27, 0), (0, (mi_w (i + 6))), mi_un, mi_un, mi_un]) dL_law_2238 (by decide) rfl rfl rfl) ?_
      refine SgP.go (pc' := 23) (mi_goto (tgt := 23) dL_law_2241 (by decide)) ?_
      exact K (mi_w (i + 6)) Mx4 Dx5 Z1 Dx9
    · refine SgP.go (pc' := 1398) (mi_ifne_f (tgt := 1410) dL_law_1395 (by decide) h12) ?_
      refine SgP.go (pc' := 1399) (mi_aload_n dL_law_1398 rfl) ?_
      refine SgP.go (pc' := 1400) (mi_iconst (z := 0) dL_law_1399 rfl) ?_
      refine SgP.go (pc' := 1401) (mi_outld dL_law_1400) ?_
      refine SgP.go (pc' := 1403) (mi_iload dL_law_1401 rfl) ?_
      refine SgP.go (pc' := 1404) (mi_i2l dL_law_1403) ?_
      refine SgP.go (pc' := 1405) (mi_lcmp dL_law_1404) ?_
      refine SgP.ite (fun h13 => ?_) (fun h13 => ?_)
      · refine SgP.go (pc' := 1410) (mi_ifeq_t (tgt := 1410) dL_law_1405 (by decide) h13) ?_
        refine SgP.go (pc' := 2238) (mi_goto (tgt := 2238) dL_law_1410 (by decide)) ?_
        refine SgP.go (pc' := 2238) (MiStep.weak (ls' := [(35, 0), (3, 0), (42, 0), (27, 0), (0, i), mi_un, mi_un, mi_un]) (mi_wk_y (mi_wk_y (mi_wk_y (mi_wk_y (mi_wk_y (mi_wk_n (mi_wk_n (mi_wk_y mi_wk_0))))))))) ?_
        refine SgP.go (pc' := 2241) (mi_iinc (z := 6) (ls1 := [(35, 0), (3, 0), (42, 0), (27, 0), (0, (mi_w (i + 6))), mi_un, mi_un, mi_un]) dL_law_2238 (by decide) rfl rfl rfl) ?_
        refine SgP.go (pc' := 23) (mi_goto (tgt := 23) dL_law_2241 (by decide)) ?_
        exact K (mi_w (i + 6)) Mx4 Dx5 Z1 Dx9
      · refine SgP.go (pc' := 1408) (mi_ifeq_f (tgt := 1410) dL_law_1405 (by decide) h13) ?_
        refine SgP.go (pc' := 1409) (mi_iconst (z := 0) dL_law_1408 rfl) ?_
        exact SgP.ret (mi_ireturn dL_law_1409 rfl (Or.inr (Or.inl ⟨rfl, Or.inl rfl⟩)))
  · refine SgP.go (pc' := 1391) (mi_icmpeq_f (tgt := 1393) dL_law_1388 (by decide) h11) ?_
    refine SgP.go (pc' := 1392) (mi_iconst (z := 0) dL_law_1391 rfl) ?_
    exact SgP.ret (mi_ireturn dL_law_1392 rfl (Or.inr (Or.inl ⟨rfl, Or.inl rfl⟩)))
def B_L_case21 (L : Nat) (xs : Nat → Int32) (Z2 : MiZ) (k : Int → MiM → MiD → MiZ → MiD → Option (Int × (MiM × (MiM × MiM)))) (i : Int) (M0 : MiM) (D1 : MiD) (Z1 : MiZ) (D2 : MiD) : Option (Int × (MiM × (MiM × MiM))) := if 0 ≤ (mi_w (i + 1)) ∧ (mi_w (i + 1)) < (L : Int) then (if 0 ≤ (mi_w (i + 2)) ∧ (mi_w (i + 2)) < (L : Int) then (mi_bhT (B_X10_datumOf ((xs (mi_w (i + 1)).toNat).toInt) ((xs (mi_w (i + 2)).toNat).toInt) D1) (fun k => k == 0 || k == 1) (fun k => if k = 0 then 1 else 2) M0 fun y3 Mx4 Dx5 => mi_b2 (B_X11_datumOf ((xs (mi_w (i + 1)).toNat).toInt) ((xs (mi_w (i + 2)).toNat).toInt) D2) fun y8 Dx9 => mi_bi (B_X11_thrown Dx9) fun y10 => if y10 = y3 then (if y3 ≠ 0 then (k (mi_w (i + 6)) Mx4 Dx5 Z1 Dx9) else (if (mi_cmp (Mx4.1 25 0 0) y8) = 0 then (k (mi_w (i + 6)) Mx4 Dx5 Z1 Dx9) else (some (0, (Mx4, ((Dx5, Z1), (Dx9, Z2))))))) else (some (0, (Mx4, ((Dx5, Z1), (Dx9, Z2)))))) else none) else none
set_option maxRecDepth 20000 in
theorem S_L_case21 {L : Nat} {xs : Nat → Int32} {Z2 : MiZ} (hL2 : ML Z2) (hW2 : mi_cw mi_s2 Z2) {k : Int → MiM → MiD → MiZ → MiD → Option (Int × (MiM × (MiM × MiM)))} (K : ∀ (i : Int) (M0 : MiM) (D1 : MiD) (Z1 : MiZ) (D2 : MiD), SgP (mi_lP L xs) m_L_law 23 [(35, 0), (3, 0), (42, 0), (27, 0), (0, i), mi_un, mi_un, mi_un] [] (mi_cb M0 (D1, Z1) (D2, Z2)) (fun q => ((1, (0, q.1)), mi_cb q.2.1 q.2.2.1 q.2.2.2)) (k i M0 D1 Z1 D2)) (i : Int) (M0 : MiM) (D1 : MiD) (Z1 : MiZ) (D2 : MiD) (hL : CL Z1) (hW : mi_cw mi_s1 Z1) : SgP (mi_lP L xs) m_L_law 1413 [(35, 0), (3, 0), (42, 0), (27, 0), (0, i), mi_un, mi_un, mi_un] [] (mi_cb M0 (D1, Z1) (D2, Z2)) (fun q => ((1, (0, q.1)), mi_cb q.2.1 q.2.2.1 q.2.2.2)) (B_L_case21 L xs Z2 k i M0 D1 Z1 D2) := by
  unfold B_L_case21
  refine SgP.go (pc' := 1414) (mi_aload_n dL_law_1413 rfl) ?_
  refine SgP.go (pc' := 1415) (mi_aload_n dL_law_1414 rfl) ?_
  refine SgP.go (pc' := 1417) (mi_iload dL_law_1415 rfl) ?_
  refine SgP.go (pc' := 1418) (mi_iconst (z := 1) dL_law_1417 rfl) ?_
  refine SgP.go (pc' := 1419) (mi_iadd dL_law_1418) ?_
  refine SgP.ck (fun hk1 => ?_)
  refine SgP.goP (pc' := 1420) (mi_scr dL_law_1419 hk1) ?_
  refine SgP.go (pc' := 1421) (mi_aload_n dL_law_1420 rfl) ?_
  refine SgP.go (pc' := 1423) (mi_iload dL_law_1421 rfl) ?_
  refine SgP.go (pc' := 1424) (mi_iconst (z := 2) dL_law_1423 rfl) ?_
  refine SgP.go (pc' := 1425) (mi_iadd dL_law_1424) ?_
  refine SgP.ck (fun hk2 => ?_)
  refine SgP.goP (pc' := 1426) (mi_scr dL_law_1425 hk2) ?_
  refine SgP.go (pc' := 1427) (mi_aload_n dL_law_1426 rfl) ?_
  refine SgP.callHT (pc' := 1430) (μ' := m_L_datumOf) (args := [(3, 0), (0, ((xs (mi_w (i + 1)).toNat).toInt)), (0, ((xs (mi_w (i + 2)).toNat).toInt)), (27, 0)]) (mi_invSH (n := 4) dL_law_1427 rfl wN_L_datumOf rfl ⟨by decide, by decide⟩ wL_L_188 wT_L_datumOf wB_L wC_L_datumOf) (fun b hb hk => C_L_datumOf hL hW ((xs (mi_w (i + 1)).toNat).toInt) ((xs (mi_w (i + 2)).toNat).toInt) D1 M0 (D2, Z2) b hb hk) (Nat.le_of_ble_eq_true rfl) rfl rfl (fun y3 Mx4 Dx5 => ?_)
  refine SgP.go (pc' := 1432) (mi_istore (ls1 := [(35, 0), (3, 0), (42, 0), (27, 0), (0, i), (0, y3), mi_un, mi_un]) dL_law_1430 (by decide) rfl) ?_
  refine SgP.go (pc' := 1433) (mi_aload_n dL_law_1432 rfl) ?_
  refine SgP.go (pc' := 1434) (mi_aload_n dL_law_1433 rfl) ?_
  refine SgP.go (pc' := 1436) (mi_iload dL_law_1434 rfl) ?_
  refine SgP.go (pc' := 1437) (mi_iconst (z := 1) dL_law_1436 rfl) ?_
  refine SgP.go (pc' := 1438) (mi_iadd dL_law_1437) ?_
  refine SgP.goP (pc' := 1439) (mi_scr dL_law_1438 hk1) ?_
  refine SgP.go (pc' := 1440) (mi_aload_n dL_law_1439 rfl) ?_
  refine SgP.go (pc' := 1442) (mi_iload dL_law_1440 rfl) ?_
  refine SgP.go (pc' := 1443) (mi_iconst (z := 2) dL_law_1442 rfl) ?_
  refine SgP.go (pc' := 1444) (mi_iadd dL_law_1443) ?_
  refine SgP.goP (pc' := 1445) (mi_scr dL_law_1444 hk2) ?_
  refine SgP.callD2 (t := 0) (pc' := 1448) (μ' := m_X11_datumOf) (args := [(42, 0), (0, ((xs (mi_w (i + 1)).toNat).toInt)), (0, ((xs (mi_w (i + 2)).toNat).toInt))]) (mi_invV (n := 2) (r := 40) dL_law_1445 hC_40 (by omega) rfl rfl wN_X11_datumOf rfl ⟨by decide, by decide⟩ wL_L_190 wI_X11_datumOf wS_X11_datumOf wB_X11 wC_X11_datumOf) (fun v hv => C_X11_datumOf hL2 ((xs (mi_w (i + 1)).toNat).toInt) ((xs (mi_w (i + 2)).toNat).toInt) D2 v hv) hW2 (show (0 : Nat) < 2 by decide) rfl (Nat.le_of_ble_eq_true rfl) rfl rfl (fun y8 Dx9 => ?_)
  refine SgP.go (pc' := 1450) (mi_istore (ls1 := [(35, 0), (3, 0), (42, 0), (27, 0), (0, i), (0, y3), (0, y8), mi_un]) dL_law_1448 (by decide) rfl) ?_
  refine SgP.go (pc' := 1451) (mi_aload_n dL_law_1450 rfl) ?_
  refine SgP.callI2 (t := 0) (pc' := 1454) (μ' := m_X11_thrown) (args := [(42, 0)]) (mi_invV (n := 0) (r := 40) dL_law_1451 hC_40 (by omega) rfl rfl wN_X11_thrown rfl ⟨by decide, by decide⟩ wL_L_124 wI_X11_thrown wS_X11_thrown wB_X11 wC_X11_thrown) (fun v hv => C_X11_thrown hL2 Dx9 v hv) hW2 (show (0 : Nat) < 2 by decide) rfl (Nat.le_of_ble_eq_true rfl) rfl rfl (fun y10 => ?_)
  refine SgP.go (pc' := 1456) (mi_iload dL_law_1454 rfl) ?_
  refine SgP.ite (fun h11 => ?_) (fun h11 => ?_)
  · refine SgP.go (pc' := 1461) (mi_icmpeq_t (tgt := 1461) dL_law_1456 (by decide) h11) ?_
    refine SgP.go (pc' := 1463) (mi_iload dL_law_1461 rfl) ?_
    refine SgP.ite (fun h12 => ?_) (fun h12 => ?_)
    · refine SgP.go (pc' := 1478) (mi_ifne_t (tgt := 1478) dL_law_1463 (by decide) h12) ?_
      refine SgP.go (pc' := 2238) (mi_goto (tgt := 2238) dL_law_1478 (by decide)) ?_
      refine SgP.go (pc' := 2238) (MiStep.weak (ls' := [(35, 0), (3, 0), (42, 0), (27, 0), (0, i), mi_un, mi_un, mi_un]) (mi_wk_y (mi_wk_y (mi_wk_y (mi_wk_y (mi_wk_y (mi_wk_n (mi_wk_n (mi_wk_y mi_wk_0))))))))) ?_
      refine SgP.go (pc' := 2241) (mi_iinc (z := 6) (ls1 := [(35, 0), (3, 0), (42, 0), (27, 0), (0, (mi_w (i + 6))), mi_un, mi_un, mi_un]) dL_law_2238 (by decide) rfl rfl rfl) ?_
      refine SgP.go (pc' := 23) (mi_goto (tgt := 23) dL_law_2241 (by decide)) ?_
      exact K (mi_w (i + 6)) Mx4 Dx5 Z1 Dx9
    · refine SgP.go (pc' := 1466) (mi_ifne_f (tgt := 1478) dL_law_1463 (by decide) h12) ?_
      refine SgP.go (pc' := 1467) (mi_aload_n dL_law_1466 rfl) ?_
      refine SgP.go (pc' := 1468) (mi_iconst (z := 0) dL_law_1467 rfl) ?_
      refine SgP.go (pc' := 1469) (mi_outld dL_law_1468) ?_
      refine SgP.go (pc' := 1471) (mi_iload dL_law_1469 rfl) ?_
      refine SgP.go (pc' := 1472) (mi_i2l dL_law_1471) ?_
      refine SgP.go (pc' := 1473) (mi_lcmp dL_law_1472) ?_
      refine SgP.ite (fun h13 => ?_) (fun h13 => ?_)
      · refine SgP.go (pc' := 1478) (mi_ifeq_t (tgt := 1478) dL_law_1473 (by decide) h13) ?_
        refine SgP.go (pc' := 2238) (mi_goto (tgt := 2238) dL_law_1478 (by decide)) ?_
        refine SgP.go (pc' := 2238) (MiStep.weak (ls' := [(35, 0), (3, 0), (42, 0), (27, 0), (0, i), mi_un, mi_un, mi_un]) (mi_wk_y (mi_wk_y (mi_wk_y (mi_wk_y (mi_wk_y (mi_wk_n (mi_wk_n (mi_wk_y mi_wk_0))))))))) ?_
        refine SgP.go (pc' := 2241) (mi_iinc (z := 6) (ls1 := [(35, 0), (3, 0), (42, 0), (27, 0), (0, (mi_w (i + 6))), mi_un, mi_un, mi_un]) dL_law_2238 (by decide) rfl rfl rfl) ?_
        refine SgP.go (pc' := 23) (mi_goto (tgt := 23) dL_law_2241 (by decide)) ?_
        exact K (mi_w (i + 6)) Mx4 Dx5 Z1 Dx9
      · refine SgP.go (pc' := 1476) (mi_ifeq_f (tgt := 1478) dL_law_1473 (by decide) h13) ?_
        refine SgP.go (pc' := 1477) (mi_iconst (z := 0) dL_law_1476 rfl) ?_
        exact SgP.ret (mi_ireturn dL_law_1477 rfl (Or.inr (Or.inl ⟨rfl, Or.inl rfl⟩)))
  · refine SgP.go (pc' := 1459) (mi_icmpeq_f (tgt := 1461) dL_law_1456 (by decide) h11) ?_
    refine SgP.go (pc' := 1460) (mi_iconst (z := 0) dL_law_1459 rfl) ?_
    exact SgP.ret (mi_ireturn dL_law_1460 rfl (Or.inr (Or.inl ⟨rfl, Or.inl rfl⟩)))
def B_L_case22 (L : Nat) (xs : Nat → Int32) (Z2 : MiZ) (k : Int → MiM → MiD → MiZ → MiD → Option (Int × (MiM × (MiM × MiM)))) (i : Int) (M0 : MiM) (D1 : MiD) (Z1 : MiZ) (D2 : MiD) : Option (Int × (MiM × (MiM × MiM))) := if 0 ≤ (mi_w (i + 1)) ∧ (mi_w (i + 1)) < (L : Int) then (if 0 ≤ (mi_w (i + 2)) ∧ (mi_w (i + 2)) < (L : Int) then (if 0 ≤ (mi_w (i + 3)) ∧ (mi_w (i + 3)) < (L : Int) then (mi_bhT (B_X10_shadowOf ((xs (mi_w (i + 1)).toNat).toInt) ((xs (mi_w (i + 2)).toNat).toInt) ((xs (mi_w (i + 3)).toNat).toInt) D1) (fun k => k == 0 || k == 1) (fun k => if k = 0 then 1 else 2) M0 fun y4 Mx5 Dx6 => mi_b2 (B_X11_shadowOf ((xs (mi_w (i + 1)).toNat).toInt) ((xs (mi_w (i + 2)).toNat).toInt) ((xs (mi_w (i + 3)).toNat).toInt) D2) fun y10 Dx11 => mi_bi (B_X11_thrown Dx11) fun y12 => if y12 = y4 then (if y4 ≠ 0 then (k (mi_w (i + 6)) Mx5 Dx6 Z1 Dx11) else (if (mi_cmp (Mx5.1 25 0 0) y10) = 0 then (k (mi_w (i + 6)) Mx5 Dx6 Z1 Dx11) else (some (0, (Mx5, ((Dx6, Z1), (Dx11, Z2))))))) else (some (0, (Mx5, ((Dx6, Z1), (Dx11, Z2)))))) else none) else none) else none
set_option maxRecDepth 20000 in
theorem S_L_case22 {L : Nat} {xs : Nat → Int32} {Z2 : MiZ} (hL2 : ML Z2) (hW2 : mi_cw mi_s2 Z2) {k : Int → MiM → MiD → MiZ → MiD → Option (Int × (MiM × (MiM × MiM)))} (K : ∀ (i : Int) (M0 : MiM) (D1 : MiD) (Z1 : MiZ) (D2 : MiD), SgP (mi_lP L xs) m_L_law 23 [(35, 0), (3, 0), (42, 0), (27, 0), (0, i), mi_un, mi_un, mi_un] [] (mi_cb M0 (D1, Z1) (D2, Z2)) (fun q => ((1, (0, q.1)), mi_cb q.2.1 q.2.2.1 q.2.2.2)) (k i M0 D1 Z1 D2)) (i : Int) (M0 : MiM) (D1 : MiD) (Z1 : MiZ) (D2 : MiD) (hL : CL Z1) (hW : mi_cw mi_s1 Z1) : SgP (mi_lP L xs) m_L_law 1481 [(35, 0), (3, 0), (42, 0), (27, 0), (0, i), mi_un, mi_un, mi_un] [] (mi_cb M0 (D1, Z1) (D2, Z2)) (fun q => ((1, (0, q.1)), mi_cb q.2.1 q.2.2.1 q.2.2.2)) (B_L_case22 L xs Z2 k i M0 D1 Z1 D2) := by
  unfold B_L_case22
  refine SgP.go (pc' := 1482) (mi_aload_n dL_law_1481 rfl) ?_
  refine SgP.go (pc' := 1483) (mi_aload_n dL_law_1482 rfl) ?_
  refine SgP.go (pc' := 1485) (mi_iload dL_law_1483 rfl) ?_
  refine SgP.go (pc' := 1486) (mi_iconst (z := 1) dL_law_1485 rfl) ?_
  refine SgP.go (pc' := 1487) (mi_iadd dL_law_1486) ?_
  refine SgP.ck (fun hk1 => ?_)
  refine SgP.goP (pc' := 1488) (mi_scr dL_law_1487 hk1) ?_
  refine SgP.go (pc' := 1489) (mi_aload_n dL_law_1488 rfl) ?_
  refine SgP.go (pc' := 1491) (mi_iload dL_law_1489 rfl) ?_
  refine SgP.go (pc' := 1492) (mi_iconst (z := 2) dL_law_1491 rfl) ?_
  refine SgP.go (pc' := 1493) (mi_iadd dL_law_1492) ?_
  refine SgP.ck (fun hk2 => ?_)
  refine SgP.goP (pc' := 1494) (mi_scr dL_law_1493 hk2) ?_
  refine SgP.go (pc' := 1495) (mi_aload_n dL_law_1494 rfl) ?_
  refine SgP.go (pc' := 1497) (mi_iload dL_law_1495 rfl) ?_
  refine SgP.go (pc' := 1498) (mi_iconst (z := 3) dL_law_1497 rfl) ?_
  refine SgP.go (pc' := 1499) (mi_iadd dL_law_1498) ?_
  refine SgP.ck (fun hk3 => ?_)
  refine SgP.goP (pc' := 1500) (mi_scr dL_law_1499 hk3) ?_
  refine SgP.go (pc' := 1501) (mi_aload_n dL_law_1500 rfl) ?_
  refine SgP.callHT (pc' := 1504) (μ' := m_L_shadowOf) (args := [(3, 0), (0, ((xs (mi_w (i + 1)).toNat).toInt)), (0, ((xs (mi_w (i + 2)).toNat).toInt)), (0, ((xs (mi_w (i + 3)).toNat).toInt)), (27, 0)]) (mi_invSH (n := 5) dL_law_1501 rfl wN_L_shadowOf rfl ⟨by decide, by decide⟩ wL_L_191 wT_L_shadowOf wB_L wC_L_shadowOf) (fun b hb hk => C_L_shadowOf hL hW ((xs (mi_w (i + 1)).toNat).toInt) ((xs (mi_w (i + 2)).toNat).toInt) ((xs (mi_w (i + 3)).toNat).toInt) D1 M0 (D2, Z2) b hb hk) (Nat.le_of_ble_eq_true rfl) rfl rfl (fun y4 Mx5 Dx6 => ?_)
  refine SgP.go (pc' := 1506) (mi_istore (ls1 := [(35, 0), (3, 0), (42, 0), (27, 0), (0, i), (0, y4), mi_un, mi_un]) dL_law_1504 (by decide) rfl) ?_
  refine SgP.go (pc' := 1507) (mi_aload_n dL_law_1506 rfl) ?_
  refine SgP.go (pc' := 1508) (mi_aload_n dL_law_1507 rfl) ?_
  refine SgP.go (pc' := 1510) (mi_iload dL_law_1508 rfl) ?_
  refine SgP.go (pc' := 1511) (mi_iconst (z := 1) dL_law_1510 rfl) ?_
  refine SgP.go (pc' := 1512) (mi_iadd dL_law_1511) ?_
  refine SgP.goP (pc' := 1513) (mi_scr dL_law_1512 hk1) ?_
  refine SgP.go (pc' := 1514) (mi_aload_n dL_law_1513 rfl) ?_
  refine SgP.go (pc' := 1516) (mi_iload dL_law_1514 rfl) ?_
  refine SgP.go (pc' := 1517) (mi_iconst (z := 2) dL_law_1516 rfl) ?_
  refine SgP.go (pc' := 1518) (mi_iadd dL_law_1517) ?_
  refine SgP.goP (pc' := 1519) (mi_scr dL_law_1518 hk2) ?_
  refine SgP.go (pc' := 1520) (mi_aload_n dL_law_1519 rfl) ?_
  refine SgP.go (pc' := 1522) (mi_iload dL_law_1520 rfl) ?_
  refine SgP.go (pc' := 1523) (mi_iconst (z := 3) dL_law_1522 rfl) ?_
  refine SgP.go (pc' := 1524) (mi_iadd dL_law_1523) ?_
  refine SgP.goP (pc' := 1525) (mi_scr dL_law_1524 hk3) ?_
  refine SgP.callD2 (t := 0) (pc' := 1528) (μ' := m_X11_shadowOf) (args := [(42, 0), (0, ((xs (mi_w (i + 1)).toNat).toInt)), (0, ((xs (mi_w (i + 2)).toNat).toInt)), (0, ((xs (mi_w (i + 3)).toNat).toInt))]) (mi_invV (n := 3) (r := 40) dL_law_1525 hC_40 (by omega) rfl rfl wN_X11_shadowOf rfl ⟨by decide, by decide⟩ wL_L_193 wI_X11_shadowOf wS_X11_shadowOf wB_X11 wC_X11_shadowOf) (fun v hv => C_X11_shadowOf hL2 ((xs (mi_w (i + 1)).toNat).toInt) ((xs (mi_w (i + 2)).toNat).toInt) ((xs (mi_w (i + 3)).toNat).toInt) D2 v hv) hW2 (show (0 : Nat) < 2 by decide) rfl (Nat.le_of_ble_eq_true rfl) rfl rfl (fun y10 Dx11 => ?_)
  refine SgP.go (pc' := 1530) (mi_istore (ls1 := [(35, 0), (3, 0), (42, 0), (27, 0), (0, i), (0, y4), (0, y10), mi_un]) dL_law_1528 (by decide) rfl) ?_
  refine SgP.go (pc' := 1531) (mi_aload_n dL_law_1530 rfl) ?_
  refine SgP.callI2 (t := 0) (pc' := 1534) (μ' := m_X11_thrown) (args := [(42, 0)]) (mi_invV (n := 0) (r := 40) dL_law_1531 hC_40 (by omega) rfl rfl wN_X11_thrown rfl ⟨by decide, by decide⟩ wL_L_124 wI_X11_thrown wS_X11_thrown wB_X11 wC_X11_thrown) (fun v hv => C_X11_thrown hL2 Dx11 v hv) hW2 (show (0 : Nat) < 2 by decide) rfl (Nat.le_of_ble_eq_true rfl) rfl rfl (fun y12 => ?_)
  refine SgP.go (pc' := 1536) (mi_iload dL_law_1534 rfl) ?_
  refine SgP.ite (fun h13 => ?_) (fun h13 => ?_)
  · refine SgP.go (pc' := 1541) (mi_icmpeq_t (tgt := 1541) dL_law_1536 (by decide) h13) ?_
    refine SgP.go (pc' := 1543) (mi_iload dL_law_1541 rfl) ?_
    refine SgP.ite (fun h14 => ?_) (fun h14 => ?_)
    · refine SgP.go (pc' := 1558) (mi_ifne_t (tgt := 1558) dL_law_1543 (by decide) h14) ?_
      refine SgP.go (pc' := 2238) (mi_goto (tgt := 2238) dL_law_1558 (by decide)) ?_
      refine SgP.go (pc' := 2238) (MiStep.weak (ls' := [(35, 0), (3, 0), (42, 0), (27, 0), (0, i), mi_un, mi_un, mi_un]) (mi_wk_y (mi_wk_y (mi_wk_y (mi_wk_y (mi_wk_y (mi_wk_n (mi_wk_n (mi_wk_y mi_wk_0))))))))) ?_
      refine SgP.go (pc' := 2241) (mi_iinc (z := 6) (ls1 := [(35, 0), (3, 0), (42, 0), (27, 0), (0, (mi_w (i + 6))), mi_un, mi_un, mi_un]) dL_law_2238 (by decide) rfl rfl rfl) ?_
      refine SgP.go (pc' := 23) (mi_goto (tgt := 23) dL_law_2241 (by decide)) ?_
      exact K (mi_w (i + 6)) Mx5 Dx6 Z1 Dx11
    · refine SgP.go (pc' := 1546) (mi_ifne_f (tgt := 1558) dL_law_1543 (by decide) h14) ?_
      refine SgP.go (pc' := 1547) (mi_aload_n dL_law_1546 rfl) ?_
      refine SgP.go (pc' := 1548) (mi_iconst (z := 0) dL_law_1547 rfl) ?_
      refine SgP.go (pc' := 1549) (mi_outld dL_law_1548) ?_
      refine SgP.go (pc' := 1551) (mi_iload dL_law_1549 rfl) ?_
      refine SgP.go (pc' := 1552) (mi_i2l dL_law_1551) ?_
      refine SgP.go (pc' := 1553) (mi_lcmp dL_law_1552) ?_
      refine SgP.ite (fun h15 => ?_) (fun h15 => ?_)
      · refine SgP.go (pc' := 1558) (mi_ifeq_t (tgt := 1558) dL_law_1553 (by decide) h15) ?_
        refine SgP.go (pc' := 2238) (mi_goto (tgt := 2238) dL_law_1558 (by decide)) ?_
        refine SgP.go (pc' := 2238) (MiStep.weak (ls' := [(35, 0), (3, 0), (42, 0), (27, 0), (0, i), mi_un, mi_un, mi_un]) (mi_wk_y (mi_wk_y (mi_wk_y (mi_wk_y (mi_wk_y (mi_wk_n (mi_wk_n (mi_wk_y mi_wk_0))))))))) ?_
        refine SgP.go (pc' := 2241) (mi_iinc (z := 6) (ls1 := [(35, 0), (3, 0), (42, 0), (27, 0), (0, (mi_w (i + 6))), mi_un, mi_un, mi_un]) dL_law_2238 (by decide) rfl rfl rfl) ?_
        refine SgP.go (pc' := 23) (mi_goto (tgt := 23) dL_law_2241 (by decide)) ?_
        exact K (mi_w (i + 6)) Mx5 Dx6 Z1 Dx11
      · refine SgP.go (pc' := 1556) (mi_ifeq_f (tgt := 1558) dL_law_1553 (by decide) h15) ?_
        refine SgP.go (pc' := 1557) (mi_iconst (z := 0) dL_law_1556 rfl) ?_
        exact SgP.ret (mi_ireturn dL_law_1557 rfl (Or.inr (Or.inl ⟨rfl, Or.inl rfl⟩)))
  · refine SgP.go (pc' := 1539) (mi_icmpeq_f (tgt := 1541) dL_law_1536 (by decide) h13) ?_
    refine SgP.go (pc' := 1540) (mi_iconst (z := 0) dL_law_1539 rfl) ?_
    exact SgP.ret (mi_ireturn dL_law_1540 rfl (Or.inr (Or.inl ⟨rfl, Or.inl rfl⟩)))
def B_L_case23 (L : Nat) (xs : Nat → Int32) (Z2 : MiZ) (k : Int → MiM → MiD → MiZ → MiD → Option (Int × (MiM × (MiM × MiM)))) (i : Int) (M0 : MiM) (D1 : MiD) (Z1 : MiZ) (D2 : MiD) : Option (Int × (MiM × (MiM × MiM))) := if 0 ≤ (mi_w (i + 1)) ∧ (mi_w (i + 1)) < (L : Int) then (if 0 ≤ (mi_w (i + 2)) ∧ (mi_w (i + 2)) < (L : Int) then (if 0 ≤ (mi_w (i + 3)) ∧ (mi_w (i + 3)) < (L : Int) then (mi_bhT (B_X10_cell ((xs (mi_w (i + 1)).toNat).toInt) ((xs (mi_w (i + 2)).toNat).toInt) ((xs (mi_w (i + 3)).toNat).toInt) D1) (fun k => k == 0) (fun k => 1) M0 fun y4 Mx5 Dx6 => mi_b2 (B_X11_cell ((xs (mi_w (i + 1)).toNat).toInt) ((xs (mi_w (i + 2)).toNat).toInt) ((xs (mi_w (i + 3)).toNat).toInt) D2) fun y10 Dx11 => mi_bi (B_X11_thrown Dx11) fun y12 => if y12 = y4 then (if y4 ≠ 0 then (k (mi_w (i + 6)) Mx5 Dx6 Z1 Dx11) else (if (mi_cmp (Mx5.1 25 0 0) y10) = 0 then (k (mi_w (i + 6)) Mx5 Dx6 Z1 Dx11) else (some (0, (Mx5, ((Dx6, Z1), (Dx11, Z2))))))) else (some (0, (Mx5, ((Dx6, Z1), (Dx11, Z2)))))) else none) else none) else none
set_option maxRecDepth 20000 in
theorem S_L_case23 {L : Nat} {xs : Nat → Int32} {Z2 : MiZ} (hL2 : ML Z2) (hW2 : mi_cw mi_s2 Z2) {k : Int → MiM → MiD → MiZ → MiD → Option (Int × (MiM × (MiM × MiM)))} (K : ∀ (i : Int) (M0 : MiM) (D1 : MiD) (Z1 : MiZ) (D2 : MiD), SgP (mi_lP L xs) m_L_law 23 [(35, 0), (3, 0), (42, 0), (27, 0), (0, i), mi_un, mi_un, mi_un] [] (mi_cb M0 (D1, Z1) (D2, Z2)) (fun q => ((1, (0, q.1)), mi_cb q.2.1 q.2.2.1 q.2.2.2)) (k i M0 D1 Z1 D2)) (i : Int) (M0 : MiM) (D1 : MiD) (Z1 : MiZ) (D2 : MiD) (hL : CL Z1) (hW : mi_cw mi_s1 Z1) : SgP (mi_lP L xs) m_L_law 1561 [(35, 0), (3, 0), (42, 0), (27, 0), (0, i), mi_un, mi_un, mi_un] [] (mi_cb M0 (D1, Z1) (D2, Z2)) (fun q => ((1, (0, q.1)), mi_cb q.2.1 q.2.2.1 q.2.2.2)) (B_L_case23 L xs Z2 k i M0 D1 Z1 D2) := by
  unfold B_L_case23
  refine SgP.go (pc' := 1562) (mi_aload_n dL_law_1561 rfl) ?_
  refine SgP.go (pc' := 1563) (mi_aload_n dL_law_1562 rfl) ?_
  refine SgP.go (pc' := 1565) (mi_iload dL_law_1563 rfl) ?_
  refine SgP.go (pc' := 1566) (mi_iconst (z := 1) dL_law_1565 rfl) ?_
  refine SgP.go (pc' := 1567) (mi_iadd dL_law_1566) ?_
  refine SgP.ck (fun hk1 => ?_)
  refine SgP.goP (pc' := 1568) (mi_scr dL_law_1567 hk1) ?_
  refine SgP.go (pc' := 1569) (mi_aload_n dL_law_1568 rfl) ?_
  refine SgP.go (pc' := 1571) (mi_iload dL_law_1569 rfl) ?_
  refine SgP.go (pc' := 1572) (mi_iconst (z := 2) dL_law_1571 rfl) ?_
  refine SgP.go (pc' := 1573) (mi_iadd dL_law_1572) ?_
  refine SgP.ck (fun hk2 => ?_)
  refine SgP.goP (pc' := 1574) (mi_scr dL_law_1573 hk2) ?_
  refine SgP.go (pc' := 1575) (mi_aload_n dL_law_1574 rfl) ?_
  refine SgP.go (pc' := 1577) (mi_iload dL_law_1575 rfl) ?_
  refine SgP.go (pc' := 1578) (mi_iconst (z := 3) dL_law_1577 rfl) ?_
  refine SgP.go (pc' := 1579) (mi_iadd dL_law_1578) ?_
  refine SgP.ck (fun hk3 => ?_)
  refine SgP.goP (pc' := 1580) (mi_scr dL_law_1579 hk3) ?_
  refine SgP.go (pc' := 1581) (mi_aload_n dL_law_1580 rfl) ?_
  refine SgP.callHT (pc' := 1584) (μ' := m_L_cell) (args := [(3, 0), (0, ((xs (mi_w (i + 1)).toNat).toInt)), (0, ((xs (mi_w (i + 2)).toNat).toInt)), (0, ((xs (mi_w (i + 3)).toNat).toInt)), (27, 0)]) (mi_invSH (n := 5) dL_law_1581 rfl wN_L_cell rfl ⟨by decide, by decide⟩ wL_L_194 wT_L_cell wB_L wC_L_cell) (fun b hb hk => C_L_cell hL hW ((xs (mi_w (i + 1)).toNat).toInt) ((xs (mi_w (i + 2)).toNat).toInt) ((xs (mi_w (i + 3)).toNat).toInt) D1 M0 (D2, Z2) b hb hk) (Nat.le_of_ble_eq_true rfl) rfl rfl (fun y4 Mx5 Dx6 => ?_)
  refine SgP.go (pc' := 1586) (mi_istore (ls1 := [(35, 0), (3, 0), (42, 0), (27, 0), (0, i), (0, y4), mi_un, mi_un]) dL_law_1584 (by decide) rfl) ?_
  refine SgP.go (pc' := 1587) (mi_aload_n dL_law_1586 rfl) ?_
  refine SgP.go (pc' := 1588) (mi_aload_n dL_law_1587 rfl) ?_
  refine SgP.go (pc' := 1590) (mi_iload dL_law_1588 rfl) ?_
  refine SgP.go (pc' := 1591) (mi_iconst (z := 1) dL_law_1590 rfl) ?_
  refine SgP.go (pc' := 1592) (mi_iadd dL_law_1591) ?_
  refine SgP.goP (pc' := 1593) (mi_scr dL_law_1592 hk1) ?_
  refine SgP.go (pc' := 1594) (mi_aload_n dL_law_1593 rfl) ?_
  refine SgP.go (pc' := 1596) (mi_iload dL_law_1594 rfl) ?_
  refine SgP.go (pc' := 1597) (mi_iconst (z := 2) dL_law_1596 rfl) ?_
  refine SgP.go (pc' := 1598) (mi_iadd dL_law_1597) ?_
  refine SgP.goP (pc' := 1599) (mi_scr dL_law_1598 hk2) ?_
  refine SgP.go (pc' := 1600) (mi_aload_n dL_law_1599 rfl) ?_
  refine SgP.go (pc' := 1602) (mi_iload dL_law_1600 rfl) ?_
  refine SgP.go (pc' := 1603) (mi_iconst (z := 3) dL_law_1602 rfl) ?_
  refine SgP.go (pc' := 1604) (mi_iadd dL_law_1603) ?_
  refine SgP.goP (pc' := 1605) (mi_scr dL_law_1604 hk3) ?_
  refine SgP.callD2 (t := 1) (pc' := 1608) (μ' := m_X11_cell) (args := [(42, 0), (0, ((xs (mi_w (i + 1)).toNat).toInt)), (0, ((xs (mi_w (i + 2)).toNat).toInt)), (0, ((xs (mi_w (i + 3)).toNat).toInt))]) (mi_invV (n := 3) (r := 40) dL_law_1605 hC_40 (by omega) rfl rfl wN_X11_cell rfl ⟨by decide, by decide⟩ wL_L_196 wI_X11_cell wS_X11_cell wB_X11 wC_X11_cell) (fun v hv => C_X11_cell hL2 ((xs (mi_w (i + 1)).toNat).toInt) ((xs (mi_w (i + 2)).toNat).toInt) ((xs (mi_w (i + 3)).toNat).toInt) D2 v hv) hW2 (show (1 : Nat) < 2 by decide) rfl (Nat.le_of_ble_eq_true rfl) rfl rfl (fun y10 Dx11 => ?_)
  refine SgP.go (pc' := 1610) (mi_lstore (ls1 := [(35, 0), (3, 0), (42, 0), (27, 0), (0, i), (0, y4), (1, y10), mi_un]) dL_law_1608 (by decide) rfl) ?_
  refine SgP.go (pc' := 1611) (mi_aload_n dL_law_1610 rfl) ?_
  refine SgP.callI2 (t := 0) (pc' := 1614) (μ' := m_X11_thrown) (args := [(42, 0)]) (mi_invV (n := 0) (r := 40) dL_law_1611 hC_40 (by omega) rfl rfl wN_X11_thrown rfl ⟨by decide, by decide⟩ wL_L_124 wI_X11_thrown wS_X11_thrown wB_X11 wC_X11_thrown) (fun v hv => C_X11_thrown hL2 Dx11 v hv) hW2 (show (0 : Nat) < 2 by decide) rfl (Nat.le_of_ble_eq_true rfl) rfl rfl (fun y12 => ?_)
  refine SgP.go (pc' := 1616) (mi_iload dL_law_1614 rfl) ?_
  refine SgP.ite (fun h13 => ?_) (fun h13 => ?_)
  · refine SgP.go (pc' := 1621) (mi_icmpeq_t (tgt := 1621) dL_law_1616 (by decide) h13) ?_
    refine SgP.go (pc' := 1623) (mi_iload dL_law_1621 rfl) ?_
    refine SgP.ite (fun h14 => ?_) (fun h14 => ?_)
    · refine SgP.go (pc' := 1637) (mi_ifne_t (tgt := 1637) dL_law_1623 (by decide) h14) ?_
      refine SgP.go (pc' := 2238) (mi_goto (tgt := 2238) dL_law_1637 (by decide)) ?_
      refine SgP.go (pc' := 2238) (MiStep.weak (ls' := [(35, 0), (3, 0), (42, 0), (27, 0), (0, i), mi_un, mi_un, mi_un]) (mi_wk_y (mi_wk_y (mi_wk_y (mi_wk_y (mi_wk_y (mi_wk_n (mi_wk_n (mi_wk_y mi_wk_0))))))))) ?_
      refine SgP.go (pc' := 2241) (mi_iinc (z := 6) (ls1 := [(35, 0), (3, 0), (42, 0), (27, 0), (0, (mi_w (i + 6))), mi_un, mi_un, mi_un]) dL_law_2238 (by decide) rfl rfl rfl) ?_
      refine SgP.go (pc' := 23) (mi_goto (tgt := 23) dL_law_2241 (by decide)) ?_
      exact K (mi_w (i + 6)) Mx5 Dx6 Z1 Dx11
    · refine SgP.go (pc' := 1626) (mi_ifne_f (tgt := 1637) dL_law_1623 (by decide) h14) ?_
      refine SgP.go (pc' := 1627) (mi_aload_n dL_law_1626 rfl) ?_
      refine SgP.go (pc' := 1628) (mi_iconst (z := 0) dL_law_1627 rfl) ?_
      refine SgP.go (pc' := 1629) (mi_outld dL_law_1628) ?_
      refine SgP.go (pc' := 1631) (mi_lload dL_law_1629 rfl) ?_
      refine SgP.go (pc' := 1632) (mi_lcmp dL_law_1631) ?_
      refine SgP.ite (fun h15 => ?_) (fun h15 => ?_)
      · refine SgP.go (pc' := 1637) (mi_ifeq_t (tgt := 1637) dL_law_1632 (by decide) h15) ?_
        refine SgP.go (pc' := 2238) (mi_goto (tgt := 2238) dL_law_1637 (by decide)) ?_
        refine SgP.go (pc' := 2238) (MiStep.weak (ls' := [(35, 0), (3, 0), (42, 0), (27, 0), (0, i), mi_un, mi_un, mi_un]) (mi_wk_y (mi_wk_y (mi_wk_y (mi_wk_y (mi_wk_y (mi_wk_n (mi_wk_n (mi_wk_y mi_wk_0))))))))) ?_
        refine SgP.go (pc' := 2241) (mi_iinc (z := 6) (ls1 := [(35, 0), (3, 0), (42, 0), (27, 0), (0, (mi_w (i + 6))), mi_un, mi_un, mi_un]) dL_law_2238 (by decide) rfl rfl rfl) ?_
        refine SgP.go (pc' := 23) (mi_goto (tgt := 23) dL_law_2241 (by decide)) ?_
        exact K (mi_w (i + 6)) Mx5 Dx6 Z1 Dx11
      · refine SgP.go (pc' := 1635) (mi_ifeq_f (tgt := 1637) dL_law_1632 (by decide) h15) ?_
        refine SgP.go (pc' := 1636) (mi_iconst (z := 0) dL_law_1635 rfl) ?_
        exact SgP.ret (mi_ireturn dL_law_1636 rfl (Or.inr (Or.inl ⟨rfl, Or.inl rfl⟩)))
  · refine SgP.go (pc' := 1619) (mi_icmpeq_f (tgt := 1621) dL_law_1616 (by decide) h13) ?_
    refine SgP.go (pc' := 1620) (mi_iconst (z := 0) dL_law_1619 rfl) ?_
    exact SgP.ret (mi_ireturn dL_law_1620 rfl (Or.inr (Or.inl ⟨rfl, Or.inl rfl⟩)))
def B_L_case24 (L : Nat) (xs : Nat → Int32) (Z2 : MiZ) (k : Int → MiM → MiD → MiZ → MiD → Option (Int × (MiM × (MiM × MiM)))) (i : Int) (M0 : MiM) (D1 : MiD) (Z1 : MiZ) (D2 : MiD) : Option (Int × (MiM × (MiM × MiM))) := if 0 ≤ (mi_w (i + 1)) ∧ (mi_w (i + 1)) < (L : Int) then (if 0 ≤ (mi_w (i + 2)) ∧ (mi_w (i + 2)) < (L : Int) then (if 0 ≤ (mi_w (i + 3)) ∧ (mi_w (i + 3)) < (L : Int) then (mi_bhT (B_X10_get ((xs (mi_w (i + 1)).toNat).toInt) ((xs (mi_w (i + 2)).toNat).toInt) ((xs (mi_w (i + 3)).toNat).toInt) D1) (fun k => k == 0 || k == 1) (fun k => if k = 0 then 1 else 2) M0 fun y4 Mx5 Dx6 => mi_b2 (B_X11_get ((xs (mi_w (i + 1)).toNat).toInt) ((xs (mi_w (i + 2)).toNat).toInt) ((xs (mi_w (i + 3)).toNat).toInt) D2) fun y10 Dx11 => mi_bi (B_X11_thrown Dx11) fun y12 => if y12 = y4 then (if y4 ≠ 0 then (k (mi_w (i + 6)) Mx5 Dx6 Z1 Dx11) else (if (mi_cmp (Mx5.1 25 0 0) y10) = 0 then (k (mi_w (i + 6)) Mx5 Dx6 Z1 Dx11) else (some (0, (Mx5, ((Dx6, Z1), (Dx11, Z2))))))) else (some (0, (Mx5, ((Dx6, Z1), (Dx11, Z2)))))) else none) else none) else none
set_option maxRecDepth 20000 in
theorem S_L_case24 {L : Nat} {xs : Nat → Int32} {Z2 : MiZ} (hL2 : ML Z2) (hW2 : mi_cw mi_s2 Z2) {k : Int → MiM → MiD → MiZ → MiD → Option (Int × (MiM × (MiM × MiM)))} (K : ∀ (i : Int) (M0 : MiM) (D1 : MiD) (Z1 : MiZ) (D2 : MiD), SgP (mi_lP L xs) m_L_law 23 [(35, 0), (3, 0), (42, 0), (27, 0), (0, i), mi_un, mi_un, mi_un] [] (mi_cb M0 (D1, Z1) (D2, Z2)) (fun q => ((1, (0, q.1)), mi_cb q.2.1 q.2.2.1 q.2.2.2)) (k i M0 D1 Z1 D2)) (i : Int) (M0 : MiM) (D1 : MiD) (Z1 : MiZ) (D2 : MiD) (hL : CL Z1) (hW : mi_cw mi_s1 Z1) : SgP (mi_lP L xs) m_L_law 1640 [(35, 0), (3, 0), (42, 0), (27, 0), (0, i), mi_un, mi_un, mi_un] [] (mi_cb M0 (D1, Z1) (D2, Z2)) (fun q => ((1, (0, q.1)), mi_cb q.2.1 q.2.2.1 q.2.2.2)) (B_L_case24 L xs Z2 k i M0 D1 Z1 D2) := by
  unfold B_L_case24
  refine SgP.go (pc' := 1641) (mi_aload_n dL_law_1640 rfl) ?_
  refine SgP.go (pc' := 1642) (mi_aload_n dL_law_1641 rfl) ?_
  refine SgP.go (pc' := 1644) (mi_iload dL_law_1642 rfl) ?_
  refine SgP.go (pc' := 1645) (mi_iconst (z := 1) dL_law_1644 rfl) ?_
  refine SgP.go (pc' := 1646) (mi_iadd dL_law_1645) ?_
  refine SgP.ck (fun hk1 => ?_)
  refine SgP.goP (pc' := 1647) (mi_scr dL_law_1646 hk1) ?_
  refine SgP.go (pc' := 1648) (mi_aload_n dL_law_1647 rfl) ?_
  refine SgP.go (pc' := 1650) (mi_iload dL_law_1648 rfl) ?_
  refine SgP.go (pc' := 1651) (mi_iconst (z := 2) dL_law_1650 rfl) ?_
  refine SgP.go (pc' := 1652) (mi_iadd dL_law_1651) ?_
  refine SgP.ck (fun hk2 => ?_)
  refine SgP.goP (pc' := 1653) (mi_scr dL_law_1652 hk2) ?_
  refine SgP.go (pc' := 1654) (mi_aload_n dL_law_1653 rfl) ?_
  refine SgP.go (pc' := 1656) (mi_iload dL_law_1654 rfl) ?_
  refine SgP.go (pc' := 1657) (mi_iconst (z := 3) dL_law_1656 rfl) ?_
  refine SgP.go (pc' := 1658) (mi_iadd dL_law_1657) ?_
  refine SgP.ck (fun hk3 => ?_)
  refine SgP.goP (pc' := 1659) (mi_scr dL_law_1658 hk3) ?_
  refine SgP.go (pc' := 1660) (mi_aload_n dL_law_1659 rfl) ?_
  refine SgP.callHT (pc' := 1663) (μ' := m_L_get) (args := [(3, 0), (0, ((xs (mi_w (i + 1)).toNat).toInt)), (0, ((xs (mi_w (i + 2)).toNat).toInt)), (0, ((xs (mi_w (i + 3)).toNat).toInt)), (27, 0)]) (mi_invSH (n := 5) dL_law_1660 rfl wN_L_get rfl ⟨by decide, by decide⟩ wL_L_197 wT_L_get wB_L wC_L_get) (fun b hb hk => C_L_get hL hW ((xs (mi_w (i + 1)).toNat).toInt) ((xs (mi_w (i + 2)).toNat).toInt) ((xs (mi_w (i + 3)).toNat).toInt) D1 M0 (D2, Z2) b hb hk) (Nat.le_of_ble_eq_true rfl) rfl rfl (fun y4 Mx5 Dx6 => ?_)
  refine SgP.go (pc' := 1665) (mi_istore (ls1 := [(35, 0), (3, 0), (42, 0), (27, 0), (0, i), (0, y4), mi_un, mi_un]) dL_law_1663 (by decide) rfl) ?_
  refine SgP.go (pc' := 1666) (mi_aload_n dL_law_1665 rfl) ?_
  refine SgP.go (pc' := 1667) (mi_aload_n dL_law_1666 rfl) ?_
  refine SgP.go (pc' := 1669) (mi_iload dL_law_1667 rfl) ?_
  refine SgP.go (pc' := 1670) (mi_iconst (z := 1) dL_law_1669 rfl) ?_
  refine SgP.go (pc' := 1671) (mi_iadd dL_law_1670) ?_
  refine SgP.goP (pc' := 1672) (mi_scr dL_law_1671 hk1) ?_
  refine SgP.go (pc' := 1673) (mi_aload_n dL_law_1672 rfl) ?_
  refine SgP.go (pc' := 1675) (mi_iload dL_law_1673 rfl) ?_
  refine SgP.go (pc' := 1676) (mi_iconst (z := 2) dL_law_1675 rfl) ?_
  refine SgP.go (pc' := 1677) (mi_iadd dL_law_1676) ?_
  refine SgP.goP (pc' := 1678) (mi_scr dL_law_1677 hk2) ?_
  refine SgP.go (pc' := 1679) (mi_aload_n dL_law_1678 rfl) ?_
  refine SgP.go (pc' := 1681) (mi_iload dL_law_1679 rfl) ?_
  refine SgP.go (pc' := 1682) (mi_iconst (z := 3) dL_law_1681 rfl) ?_
  refine SgP.go (pc' := 1683) (mi_iadd dL_law_1682) ?_
  refine SgP.goP (pc' := 1684) (mi_scr dL_law_1683 hk3) ?_
  refine SgP.callD2 (t := 1) (pc' := 1687) (μ' := m_X11_get) (args := [(42, 0), (0, ((xs (mi_w (i + 1)).toNat).toInt)), (0, ((xs (mi_w (i + 2)).toNat).toInt)), (0, ((xs (mi_w (i + 3)).toNat).toInt))]) (mi_invV (n := 3) (r := 40) dL_law_1684 hC_40 (by omega) rfl rfl wN_X11_get rfl ⟨by decide, by decide⟩ wL_L_199 wI_X11_get wS_X11_get wB_X11 wC_X11_get) (fun v hv => C_X11_get hL2 ((xs (mi_w (i + 1)).toNat).toInt) ((xs (mi_w (i + 2)).toNat).toInt) ((xs (mi_w (i + 3)).toNat).toInt) D2 v hv) hW2 (show (1 : Nat) < 2 by decide) rfl (Nat.le_of_ble_eq_true rfl) rfl rfl (fun y10 Dx11 => ?_)
  refine SgP.go (pc' := 1689) (mi_lstore (ls1 := [(35, 0), (3, 0), (42, 0), (27, 0), (0, i), (0, y4), (1, y10), mi_un]) dL_law_1687 (by decide) rfl) ?_
  refine SgP.go (pc' := 1690) (mi_aload_n dL_law_1689 rfl) ?_
  refine SgP.callI2 (t := 0) (pc' := 1693) (μ' := m_X11_thrown) (args := [(42, 0)]) (mi_invV (n := 0) (r := 40) dL_law_1690 hC_40 (by omega) rfl rfl wN_X11_thrown rfl ⟨by decide, by decide⟩ wL_L_124 wI_X11_thrown wS_X11_thrown wB_X11 wC_X11_thrown) (fun v hv => C_X11_thrown hL2 Dx11 v hv) hW2 (show (0 : Nat) < 2 by decide) rfl (Nat.le_of_ble_eq_true rfl) rfl rfl (fun y12 => ?_)
  refine SgP.go (pc' := 1695) (mi_iload dL_law_1693 rfl) ?_
  refine SgP.ite (fun h13 => ?_) (fun h13 => ?_)
  · refine SgP.go (pc' := 1700) (mi_icmpeq_t (tgt := 1700) dL_law_1695 (by decide) h13) ?_
    refine SgP.go (pc' := 1702) (mi_iload dL_law_1700 rfl) ?_
    refine SgP.ite (fun h14 => ?_) (fun h14 => ?_)
    · refine SgP.go (pc' := 1716) (mi_ifne_t (tgt := 1716) dL_law_1702 (by decide) h14) ?_
      refine SgP.go (pc' := 2238) (mi_goto (tgt := 2238) dL_law_1716 (by decide)) ?_
      refine SgP.go (pc' := 2238) (MiStep.weak (ls' := [(35, 0), (3, 0), (42, 0), (27, 0), (0, i), mi_un, mi_un, mi_un]) (mi_wk_y (mi_wk_y (mi_wk_y (mi_wk_y (mi_wk_y (mi_wk_n (mi_wk_n (mi_wk_y mi_wk_0))))))))) ?_
      refine SgP.go (pc' := 2241) (mi_iinc (z := 6) (ls1 := [(35, 0), (3, 0), (42, 0), (27, 0), (0, (mi_w (i + 6))), mi_un, mi_un, mi_un]) dL_law_2238 (by decide) rfl rfl rfl) ?_
      refine SgP.go (pc' := 23) (mi_goto (tgt := 23) dL_law_2241 (by decide)) ?_
      exact K (mi_w (i + 6)) Mx5 Dx6 Z1 Dx11
    · refine SgP.go (pc' := 1705) (mi_ifne_f (tgt := 1716) dL_law_1702 (by decide) h14) ?_
      refine SgP.go (pc' := 1706) (mi_aload_n dL_law_1705 rfl) ?_
      refine SgP.go (pc' := 1707) (mi_iconst (z := 0) dL_law_1706 rfl) ?_
      refine SgP.go (pc' := 1708) (mi_outld dL_law_1707) ?_
      refine SgP.go (pc' := 1710) (mi_lload dL_law_1708 rfl) ?_
      refine SgP.go (pc' := 1711) (mi_lcmp dL_law_1710) ?_
      refine SgP.ite (fun h15 => ?_) (fun h15 => ?_)
      · refine SgP.go (pc' := 1716) (mi_ifeq_t (tgt := 1716) dL_law_1711 (by decide) h15) ?_
        refine SgP.go (pc' := 2238) (mi_goto (tgt := 2238) dL_law_1716 (by decide)) ?_
        refine SgP.go (pc' := 2238) (MiStep.weak (ls' := [(35, 0), (3, 0), (42, 0), (27, 0), (0, i), mi_un, mi_un, mi_un]) (mi_wk_y (mi_wk_y (mi_wk_y (mi_wk_y (mi_wk_y (mi_wk_n (mi_wk_n (mi_wk_y mi_wk_0))))))))) ?_
        refine SgP.go (pc' := 2241) (mi_iinc (z := 6) (ls1 := [(35, 0), (3, 0), (42, 0), (27, 0), (0, (mi_w (i + 6))), mi_un, mi_un, mi_un]) dL_law_2238 (by decide) rfl rfl rfl) ?_
        refine SgP.go (pc' := 23) (mi_goto (tgt := 23) dL_law_2241 (by decide)) ?_
        exact K (mi_w (i + 6)) Mx5 Dx6 Z1 Dx11
      · refine SgP.go (pc' := 1714) (mi_ifeq_f (tgt := 1716) dL_law_1711 (by decide) h15) ?_
        refine SgP.go (pc' := 1715) (mi_iconst (z := 0) dL_law_1714 rfl) ?_
        exact SgP.ret (mi_ireturn dL_law_1715 rfl (Or.inr (Or.inl ⟨rfl, Or.inl rfl⟩)))
  · refine SgP.go (pc' := 1698) (mi_icmpeq_f (tgt := 1700) dL_law_1695 (by decide) h13) ?_
    refine SgP.go (pc' := 1699) (mi_iconst (z := 0) dL_law_1698 rfl) ?_
    exact SgP.ret (mi_ireturn dL_law_1699 rfl (Or.inr (Or.inl ⟨rfl, Or.inl rfl⟩)))
def B_L_case25 (L : Nat) (xs : Nat → Int32) (Z2 : MiZ) (k : Int → MiM → MiD → MiZ → MiD → Option (Int × (MiM × (MiM × MiM)))) (i : Int) (M0 : MiM) (D1 : MiD) (Z1 : MiZ) (D2 : MiD) : Option (Int × (MiM × (MiM × MiM))) := if 0 ≤ (mi_w (i + 1)) ∧ (mi_w (i + 1)) < (L : Int) then (if 0 ≤ (mi_w (i + 2)) ∧ (mi_w (i + 2)) < (L : Int) then (if 0 ≤ (mi_w (i + 3)) ∧ (mi_w (i + 3)) < (L : Int) then (if 0 ≤ (mi_w (i + 4)) ∧ (mi_w (i + 4)) < (L : Int) then (mi_bhT (B_X10_set ((xs (mi_w (i + 1)).toNat).toInt) ((xs (mi_w (i + 2)).toNat).toInt) ((xs (mi_w (i + 3)).toNat).toInt) ((xs (mi_w (i + 4)).toNat).toInt) D1) (fun k => k == 0 || k == 1) (fun k => if k = 0 then 1 else 2) M0 fun y5 Mx6 Dx7 => mi_b2 (B_X11_set ((xs (mi_w (i + 1)).toNat).toInt) ((xs (mi_w (i + 2)).toNat).toInt) ((xs (mi_w (i + 3)).toNat).toInt) ((xs (mi_w (i + 4)).toNat).toInt) D2) fun y12 Dx13 => mi_bi (B_X11_thrown Dx13) fun y14 => if y14 = y5 then (if y5 ≠ 0 then (k (mi_w (i + 6)) Mx6 Dx7 Z1 Dx13) else (if (mi_cmp (Mx6.1 25 0 0) y12) = 0 then (k (mi_w (i + 6)) Mx6 Dx7 Z1 Dx13) else (some (0, (Mx6, ((Dx7, Z1), (Dx13, Z2))))))) else (some (0, (Mx6, ((Dx7, Z1), (Dx13, Z2)))))) else none) else none) else none) else none
set_option maxRecDepth 20000 in
theorem S_L_case25 {L : Nat} {xs : Nat → Int32} {Z2 : MiZ} (hL2 : ML Z2) (hW2 : mi_cw mi_s2 Z2) {k : Int → MiM → MiD → MiZ → MiD → Option (Int × (MiM × (MiM × MiM)))} (K : ∀ (i : Int) (M0 : MiM) (D1 : MiD) (Z1 : MiZ) (D2 : MiD), SgP (mi_lP L xs) m_L_law 23 [(35, 0), (3, 0), (42, 0), (27, 0), (0, i), mi_un, mi_un, mi_un] [] (mi_cb M0 (D1, Z1) (D2, Z2)) (fun q => ((1, (0, q.1)), mi_cb q.2.1 q.2.2.1 q.2.2.2)) (k i M0 D1 Z1 D2)) (i : Int) (M0 : MiM) (D1 : MiD) (Z1 : MiZ) (D2 : MiD) (hL : CL Z1) (hW : mi_cw mi_s1 Z1) : SgP (mi_lP L xs) m_L_law 1719 [(35, 0), (3, 0), (42, 0), (27, 0), (0, i), mi_un, mi_un, mi_un] [] (mi_cb M0 (D1, Z1) (D2, Z2)) (fun q => ((1, (0, q.1)), mi_cb q.2.1 q.2.2.1 q.2.2.2)) (B_L_case25 L xs Z2 k i M0 D1 Z1 D2) := by
  unfold B_L_case25
  refine SgP.go (pc' := 1720) (mi_aload_n dL_law_1719 rfl) ?_
  refine SgP.go (pc' := 1721) (mi_aload_n dL_law_1720 rfl) ?_
  refine SgP.go (pc' := 1723) (mi_iload dL_law_1721 rfl) ?_
  refine SgP.go (pc' := 1724) (mi_iconst (z := 1) dL_law_1723 rfl) ?_
  refine SgP.go (pc' := 1725) (mi_iadd dL_law_1724) ?_
  refine SgP.ck (fun hk1 => ?_)
  refine SgP.goP (pc' := 1726) (mi_scr dL_law_1725 hk1) ?_
  refine SgP.go (pc' := 1727) (mi_aload_n dL_law_1726 rfl) ?_
  refine SgP.go (pc' := 1729) (mi_iload dL_law_1727 rfl) ?_
  refine SgP.go (pc' := 1730) (mi_iconst (z := 2) dL_law_1729 rfl) ?_
  refine SgP.go (pc' := 1731) (mi_iadd dL_law_1730) ?_
  refine SgP.ck (fun hk2 => ?_)
  refine SgP.goP (pc' := 1732) (mi_scr dL_law_1731 hk2) ?_
  refine SgP.go (pc' := 1733) (mi_aload_n dL_law_1732 rfl) ?_
  refine SgP.go (pc' := 1735) (mi_iload dL_law_1733 rfl) ?_
  refine SgP.go (pc' := 1736) (mi_iconst (z := 3) dL_law_1735 rfl) ?_
  refine SgP.go (pc' := 1737) (mi_iadd dL_law_1736) ?_
  refine SgP.ck (fun hk3 => ?_)
  refine SgP.goP (pc' := 1738) (mi_scr dL_law_1737 hk3) ?_
  refine SgP.go (pc' := 1739) (mi_aload_n dL_law_1738 rfl) ?_
  refine SgP.go (pc' := 1741) (mi_iload dL_law_1739 rfl) ?_
  refine SgP.go (pc' := 1742) (mi_iconst (z := 4) dL_law_1741 rfl) ?_
  refine SgP.go (pc' := 1743) (mi_iadd dL_law_1742) ?_
  refine SgP.ck (fun hk4 => ?_)
  refine SgP.goP (pc' := 1744) (mi_scr dL_law_1743 hk4) ?_
  refine SgP.go (pc' := 1745) (mi_aload_n dL_law_1744 rfl) ?_
  refine SgP.callHT (pc' := 1748) (μ' := m_L_set) (args := [(3, 0), (0, ((xs (mi_w (i + 1)).toNat).toInt)), (0, ((xs (mi_w (i + 2)).toNat).toInt)), (0, ((xs (mi_w (i + 3)).toNat).toInt)), (0, ((xs (mi_w (i + 4)).toNat).toInt)), (27, 0)]) (mi_invSH (n := 6) dL_law_1745 rfl wN_L_set rfl ⟨by decide, by decide⟩ wL_L_200 wT_L_set wB_L wC_L_set) (fun b hb hk => C_L_set hL hW ((xs (mi_w (i + 1)).toNat).toInt) ((xs (mi_w (i + 2)).toNat).toInt) ((xs (mi_w (i + 3)).toNat).toInt) ((xs (mi_w (i + 4)).toNat).toInt) D1 M0 (D2, Z2) b hb hk) (Nat.le_of_ble_eq_true rfl) rfl rfl (fun y5 Mx6 Dx7 => ?_)
  refine SgP.go (pc' := 1750) (mi_istore (ls1 := [(35, 0), (3, 0), (42, 0), (27, 0), (0, i), (0, y5), mi_un, mi_un]) dL_law_1748 (by decide) rfl) ?_
  refine SgP.go (pc' := 1751) (mi_aload_n dL_law_1750 rfl) ?_
  refine SgP.go (pc' := 1752) (mi_aload_n dL_law_1751 rfl) ?_
  refine SgP.go (pc' := 1754) (mi_iload dL_law_1752 rfl) ?_
  refine SgP.go (pc' := 1755) (mi_iconst (z := 1) dL_law_1754 rfl) ?_
  refine SgP.go (pc' := 1756) (mi_iadd dL_law_1755) ?_
  refine SgP.goP (pc' := 1757) (mi_scr dL_law_1756 hk1) ?_
  refine SgP.go (pc' := 1758) (mi_aload_n dL_law_1757 rfl) ?_
  refine SgP.go (pc' := 1760) (mi_iload dL_law_1758 rfl) ?_
  refine SgP.go (pc' := 1761) (mi_iconst (z := 2) dL_law_1760 rfl) ?_
  refine SgP.go (pc' := 1762) (mi_iadd dL_law_1761) ?_
  refine SgP.goP (pc' := 1763) (mi_scr dL_law_1762 hk2) ?_
  refine SgP.go (pc' := 1764) (mi_aload_n dL_law_1763 rfl) ?_
  refine SgP.go (pc' := 1766) (mi_iload dL_law_1764 rfl) ?_
  refine SgP.go (pc' := 1767) (mi_iconst (z := 3) dL_law_1766 rfl) ?_
  refine SgP.go (pc' := 1768) (mi_iadd dL_law_1767) ?_
  refine SgP.goP (pc' := 1769) (mi_scr dL_law_1768 hk3) ?_
  refine SgP.go (pc' := 1770) (mi_aload_n dL_law_1769 rfl) ?_
  refine SgP.go (pc' := 1772) (mi_iload dL_law_1770 rfl) ?_
  refine SgP.go (pc' := 1773) (mi_iconst (z := 4) dL_law_1772 rfl) ?_
  refine SgP.go (pc' := 1774) (mi_iadd dL_law_1773) ?_
  refine SgP.goP (pc' := 1775) (mi_scr dL_law_1774 hk4) ?_
  refine SgP.callD2 (t := 0) (pc' := 1778) (μ' := m_X11_set) (args := [(42, 0), (0, ((xs (mi_w (i + 1)).toNat).toInt)), (0, ((xs (mi_w (i + 2)).toNat).toInt)), (0, ((xs (mi_w (i + 3)).toNat).toInt)), (0, ((xs (mi_w (i + 4)).toNat).toInt))]) (mi_invV (n := 4) (r := 40) dL_law_1775 hC_40 (by omega) rfl rfl wN_X11_set rfl ⟨by decide, by decide⟩ wL_L_203 wI_X11_set wS_X11_set wB_X11 wC_X11_set) (fun v hv => C_X11_set hL2 ((xs (mi_w (i + 1)).toNat).toInt) ((xs (mi_w (i + 2)).toNat).toInt) ((xs (mi_w (i + 3)).toNat).toInt) ((xs (mi_w (i + 4)).toNat).toInt) D2 v hv) hW2 (show (0 : Nat) < 2 by decide) rfl (Nat.le_of_ble_eq_true rfl) rfl rfl (fun y12 Dx13 => ?_)
  refine SgP.go (pc' := 1780) (mi_istore (ls1 := [(35, 0), (3, 0), (42, 0), (27, 0), (0, i), (0, y5), (0, y12), mi_un]) dL_law_1778 (by decide) rfl) ?_
  refine SgP.go (pc' := 1781) (mi_aload_n dL_law_1780 rfl) ?_
  refine SgP.callI2 (t := 0) (pc' := 1784) (μ' := m_X11_thrown) (args := [(42, 0)]) (mi_invV (n := 0) (r := 40) dL_law_1781 hC_40 (by omega) rfl rfl wN_X11_thrown rfl ⟨by decide, by decide⟩ wL_L_124 wI_X11_thrown wS_X11_thrown wB_X11 wC_X11_thrown) (fun v hv => C_X11_thrown hL2 Dx13 v hv) hW2 (show (0 : Nat) < 2 by decide) rfl (Nat.le_of_ble_eq_true rfl) rfl rfl (fun y14 => ?_)
  refine SgP.go (pc' := 1786) (mi_iload dL_law_1784 rfl) ?_
  refine SgP.ite (fun h15 => ?_) (fun h15 => ?_)
  · refine SgP.go (pc' := 1791) (mi_icmpeq_t (tgt := 1791) dL_law_1786 (by decide) h15) ?_
    refine SgP.go (pc' := 1793) (mi_iload dL_law_1791 rfl) ?_
    refine SgP.ite (fun h16 => ?_) (fun h16 => ?_)
    · refine SgP.go (pc' := 1808) (mi_ifne_t (tgt := 1808) dL_law_1793 (by decide) h16) ?_
      refine SgP.go (pc' := 2238) (mi_goto (tgt := 2238) dL_law_1808 (by decide)) ?_
      refine SgP.go (pc' := 2238) (MiStep.weak (ls' := [(35, 0), (3, 0), (42, 0), (27, 0), (0, i), mi_un, mi_un, mi_un]) (mi_wk_y (mi_wk_y (mi_wk_y (mi_wk_y (mi_wk_y (mi_wk_n (mi_wk_n (mi_wk_y mi_wk_0))))))))) ?_
      refine SgP.go (pc' := 2241) (mi_iinc (z := 6) (ls1 := [(35, 0), (3, 0), (42, 0), (27, 0), (0, (mi_w (i + 6))), mi_un, mi_un, mi_un]) dL_law_2238 (by decide) rfl rfl rfl) ?_
      refine SgP.go (pc' := 23) (mi_goto (tgt := 23) dL_law_2241 (by decide)) ?_
      exact K (mi_w (i + 6)) Mx6 Dx7 Z1 Dx13
    · refine SgP.go (pc' := 1796) (mi_ifne_f (tgt := 1808) dL_law_1793 (by decide) h16) ?_
      refine SgP.go (pc' := 1797) (mi_aload_n dL_law_1796 rfl) ?_
      refine SgP.go (pc' := 1798) (mi_iconst (z := 0) dL_law_1797 rfl) ?_
      refine SgP.go (pc' := 1799) (mi_outld dL_law_1798) ?_
      refine SgP.go (pc' := 1801) (mi_iload dL_law_1799 rfl) ?_
      refine SgP.go (pc' := 1802) (mi_i2l dL_law_1801) ?_
      refine SgP.go (pc' := 1803) (mi_lcmp dL_law_1802) ?_
      refine SgP.ite (fun h17 => ?_) (fun h17 => ?_)
      · refine SgP.go (pc' := 1808) (mi_ifeq_t (tgt := 1808) dL_law_1803 (by decide) h17) ?_
        refine SgP.go (pc' := 2238) (mi_goto (tgt := 2238) dL_law_1808 (by decide)) ?_
        refine SgP.go (pc' := 2238) (MiStep.weak (ls' := [(35, 0), (3, 0), (42, 0), (27, 0), (0, i), mi_un, mi_un, mi_un]) (mi_wk_y (mi_wk_y (mi_wk_y (mi_wk_y (mi_wk_y (mi_wk_n (mi_wk_n (mi_wk_y mi_wk_0))))))))) ?_
        refine SgP.go (pc' := 2241) (mi_iinc (z := 6) (ls1 := [(35, 0), (3, 0), (42, 0), (27, 0), (0, (mi_w (i + 6))), mi_un, mi_un, mi_un]) dL_law_2238 (by decide) rfl rfl rfl) ?_
        refine SgP.go (pc' := 23) (mi_goto (tgt := 23) dL_law_2241 (by decide)) ?_
        exact K (mi_w (i + 6)) Mx6 Dx7 Z1 Dx13
      · refine SgP.go (pc' := 1806) (mi_ifeq_f (tgt := 1808) dL_law_1803 (by decide) h17) ?_
        refine SgP.go (pc' := 1807) (mi_iconst (z := 0) dL_law_1806 rfl) ?_
        exact SgP.ret (mi_ireturn dL_law_1807 rfl (Or.inr (Or.inl ⟨rfl, Or.inl rfl⟩)))
  · refine SgP.go (pc' := 1789) (mi_icmpeq_f (tgt := 1791) dL_law_1786 (by decide) h15) ?_
    refine SgP.go (pc' := 1790) (mi_iconst (z := 0) dL_law_1789 rfl) ?_
    exact SgP.ret (mi_ireturn dL_law_1790 rfl (Or.inr (Or.inl ⟨rfl, Or.inl rfl⟩)))
def B_L_case26 (L : Nat) (xs : Nat → Int32) (Z2 : MiZ) (k : Int → MiM → MiD → MiZ → MiD → Option (Int × (MiM × (MiM × MiM)))) (i : Int) (M0 : MiM) (D1 : MiD) (Z1 : MiZ) (D2 : MiD) : Option (Int × (MiM × (MiM × MiM))) := if 0 ≤ (mi_w (i + 1)) ∧ (mi_w (i + 1)) < (L : Int) then (if 0 ≤ (mi_w (i + 2)) ∧ (mi_w (i + 2)) < (L : Int) then (if 0 ≤ (mi_w (i + 3)) ∧ (mi_w (i + 3)) < (L : Int) then (if 0 ≤ (mi_w (i + 4)) ∧ (mi_w (i + 4)) < (L : Int) then (mi_bhT (B_X10_move ((xs (mi_w (i + 1)).toNat).toInt) ((xs (mi_w (i + 2)).toNat).toInt) ((xs (mi_w (i + 3)).toNat).toInt) ((xs (mi_w (i + 4)).toNat).toInt) D1) (fun k => k == 0) (fun k => 1) M0 fun y5 Mx6 Dx7 => mi_b2 (B_X11_move ((xs (mi_w (i + 1)).toNat).toInt) ((xs (mi_w (i + 2)).toNat).toInt) ((xs (mi_w (i + 3)).toNat).toInt) ((xs (mi_w (i + 4)).toNat).toInt) D2) fun y12 Dx13 => mi_bi (B_X11_thrown Dx13) fun y14 => if y14 = y5 then (if y5 ≠ 0 then (k (mi_w (i + 6)) Mx6 Dx7 Z1 Dx13) else (if (mi_cmp (Mx6.1 25 0 0) y12) = 0 then (k (mi_w (i + 6)) Mx6 Dx7 Z1 Dx13) else (some (0, (Mx6, ((Dx7, Z1), (Dx13, Z2))))))) else (some (0, (Mx6, ((Dx7, Z1), (Dx13, Z2)))))) else none) else none) else none) else none
set_option maxRecDepth 20000 in
theorem S_L_case26 {L : Nat} {xs : Nat → Int32} {Z2 : MiZ} (hL2 : ML Z2) (hW2 : mi_cw mi_s2 Z2) {k : Int → MiM → MiD → MiZ → MiD → Option (Int × (MiM × (MiM × MiM)))} (K : ∀ (i : Int) (M0 : MiM) (D1 : MiD) (Z1 : MiZ) (D2 : MiD), SgP (mi_lP L xs) m_L_law 23 [(35, 0), (3, 0), (42, 0), (27, 0), (0, i), mi_un, mi_un, mi_un] [] (mi_cb M0 (D1, Z1) (D2, Z2)) (fun q => ((1, (0, q.1)), mi_cb q.2.1 q.2.2.1 q.2.2.2)) (k i M0 D1 Z1 D2)) (i : Int) (M0 : MiM) (D1 : MiD) (Z1 : MiZ) (D2 : MiD) (hL : CL Z1) (hW : mi_cw mi_s1 Z1) : SgP (mi_lP L xs) m_L_law 1811 [(35, 0), (3, 0), (42, 0), (27, 0), (0, i), mi_un, mi_un, mi_un] [] (mi_cb M0 (D1, Z1) (D2, Z2)) (fun q => ((1, (0, q.1)), mi_cb q.2.1 q.2.2.1 q.2.2.2)) (B_L_case26 L xs Z2 k i M0 D1 Z1 D2) := by
  unfold B_L_case26
  refine SgP.go (pc' := 1812) (mi_aload_n dL_law_1811 rfl) ?_
  refine SgP.go (pc' := 1813) (mi_aload_n dL_law_1812 rfl) ?_
  refine SgP.go (pc' := 1815) (mi_iload dL_law_1813 rfl) ?_
  refine SgP.go (pc' := 1816) (mi_iconst (z := 1) dL_law_1815 rfl) ?_
  refine SgP.go (pc' := 1817) (mi_iadd dL_law_1816) ?_
  refine SgP.ck (fun hk1 => ?_)
  refine SgP.goP (pc' := 1818) (mi_scr dL_law_1817 hk1) ?_
  refine SgP.go (pc' := 1819) (mi_aload_n dL_law_1818 rfl) ?_
  refine SgP.go (pc' := 1821) (mi_iload dL_law_1819 rfl) ?_
  refine SgP.go (pc' := 1822) (mi_iconst (z := 2) dL_law_1821 rfl) ?_
  refine SgP.go (pc' := 1823) (mi_iadd dL_law_1822) ?_
  refine SgP.ck (fun hk2 => ?_)
  refine SgP.goP (pc' := 1824) (mi_scr dL_law_1823 hk2) ?_
  refine SgP.go (pc' := 1825) (mi_aload_n dL_law_1824 rfl) ?_
  refine SgP.go (pc' := 1827) (mi_iload dL_law_1825 rfl) ?_
  refine SgP.go (pc' := 1828) (mi_iconst (z := 3) dL_law_1827 rfl) ?_
  refine SgP.go (pc' := 1829) (mi_iadd dL_law_1828) ?_
  refine SgP.ck (fun hk3 => ?_)
  refine SgP.goP (pc' := 1830) (mi_scr dL_law_1829 hk3) ?_
  refine SgP.go (pc' := 1831) (mi_aload_n dL_law_1830 rfl) ?_
  refine SgP.go (pc' := 1833) (mi_iload dL_law_1831 rfl) ?_
  refine SgP.go (pc' := 1834) (mi_iconst (z := 4) dL_law_1833 rfl) ?_
  refine SgP.go (pc' := 1835) (mi_iadd dL_law_1834) ?_
  refine SgP.ck (fun hk4 => ?_)
  refine SgP.goP (pc' := 1836) (mi_scr dL_law_1835 hk4) ?_
  refine SgP.go (pc' := 1837) (mi_aload_n dL_law_1836 rfl) ?_
  refine SgP.callHT (pc' := 1840) (μ' := m_L_move) (args := [(3, 0), (0, ((xs (mi_w (i + 1)).toNat).toInt)), (0, ((xs (mi_w (i + 2)).toNat).toInt)), (0, ((xs (mi_w (i + 3)).toNat).toInt)), (0, ((xs (mi_w (i + 4)).toNat).toInt)), (27, 0)]) (mi_invSH (n := 6) dL_law_1837 rfl wN_L_move rfl ⟨by decide, by decide⟩ wL_L_204 wT_L_move wB_L wC_L_move) (fun b hb hk => C_L_move hL hW ((xs (mi_w (i + 1)).toNat).toInt) ((xs (mi_w (i + 2)).toNat).toInt) ((xs (mi_w (i + 3)).toNat).toInt) ((xs (mi_w (i + 4)).toNat).toInt) D1 M0 (D2, Z2) b hb hk) (Nat.le_of_ble_eq_true rfl) rfl rfl (fun y5 Mx6 Dx7 => ?_)
  refine SgP.go (pc' := 1842) (mi_istore (ls1 := [(35, 0), (3, 0), (42, 0), (27, 0), (0, i), (0, y5), mi_un, mi_un]) dL_law_1840 (by decide) rfl) ?_
  refine SgP.go (pc' := 1843) (mi_aload_n dL_law_1842 rfl) ?_
  refine SgP.go (pc' := 1844) (mi_aload_n dL_law_1843 rfl) ?_
  refine SgP.go (pc' := 1846) (mi_iload dL_law_1844 rfl) ?_
  refine SgP.go (pc' := 1847) (mi_iconst (z := 1) dL_law_1846 rfl) ?_
  refine SgP.go (pc' := 1848) (mi_iadd dL_law_1847) ?_
  refine SgP.goP (pc' := 1849) (mi_scr dL_law_1848 hk1) ?_
  refine SgP.go (pc' := 1850) (mi_aload_n dL_law_1849 rfl) ?_
  refine SgP.go (pc' := 1852) (mi_iload dL_law_1850 rfl) ?_
  refine SgP.go (pc' := 1853) (mi_iconst (z := 2) dL_law_1852 rfl) ?_
  refine SgP.go (pc' := 1854) (mi_iadd dL_law_1853) ?_
  refine SgP.goP (pc' := 1855) (mi_scr dL_law_1854 hk2) ?_
  refine SgP.go (pc' := 1856) (mi_aload_n dL_law_1855 rfl) ?_
  refine SgP.go (pc' := 1858) (mi_iload dL_law_1856 rfl) ?_
  refine SgP.go (pc' := 1859) (mi_iconst (z := 3) dL_law_1858 rfl) ?_
  refine SgP.go (pc' := 1860) (mi_iadd dL_law_1859) ?_
  refine SgP.goP (pc' := 1861) (mi_scr dL_law_1860 hk3) ?_
  refine SgP.go (pc' := 1862) (mi_aload_n dL_law_1861 rfl) ?_
  refine SgP.go (pc' := 1864) (mi_iload dL_law_1862 rfl) ?_
  refine SgP.go (pc' := 1865) (mi_iconst (z := 4) dL_law_1864 rfl) ?_
  refine SgP.go (pc' := 1866) (mi_iadd dL_law_1865) ?_
  refine SgP.goP (pc' := 1867) (mi_scr dL_law_1866 hk4) ?_
  refine SgP.callD2 (t := 0) (pc' := 1870) (μ' := m_X11_move) (args := [(42, 0), (0, ((xs (mi_w (i + 1)).toNat).toInt)), (0, ((xs (mi_w (i + 2)).toNat).toInt)), (0, ((xs (mi_w (i + 3)).toNat).toInt)), (0, ((xs (mi_w (i + 4)).toNat).toInt))]) (mi_invV (n := 4) (r := 40) dL_law_1867 hC_40 (by omega) rfl rfl wN_X11_move rfl ⟨by decide, by decide⟩ wL_L_206 wI_X11_move wS_X11_move wB_X11 wC_X11_move) (fun v hv => C_X11_move hL2 ((xs (mi_w (i + 1)).toNat).toInt) ((xs (mi_w (i + 2)).toNat).toInt) ((xs (mi_w (i + 3)).toNat).toInt) ((xs (mi_w (i + 4)).toNat).toInt) D2 v hv) hW2 (show (0 : Nat) < 2 by decide) rfl (Nat.le_of_ble_eq_true rfl) rfl rfl (fun y12 Dx13 => ?_)
  refine SgP.go (pc' := 1872) (mi_istore (ls1 := [(35, 0), (3, 0), (42, 0), (27, 0), (0, i), (0, y5), (0, y12), mi_un]) dL_law_1870 (by decide) rfl) ?_
  refine SgP.go (pc' := 1873) (mi_aload_n dL_law_1872 rfl) ?_
  refine SgP.callI2 (t := 0) (pc' := 1876) (μ' := m_X11_thrown) (args := [(42, 0)]) (mi_invV (n := 0) (r := 40) dL_law_1873 hC_40 (by omega) rfl rfl wN_X11_thrown rfl ⟨by decide, by decide⟩ wL_L_124 wI_X11_thrown wS_X11_thrown wB_X11 wC_X11_thrown) (fun v hv => C_X11_thrown hL2 Dx13 v hv) hW2 (show (0 : Nat) < 2 by decide) rfl (Nat.le_of_ble_eq_true rfl) rfl rfl (fun y14 => ?_)
  refine SgP.go (pc' := 1878) (mi_iload dL_law_1876 rfl) ?_
  refine SgP.ite (fun h15 => ?_) (fun h15 => ?_)
  · refine SgP.go (pc' := 1883) (mi_icmpeq_t (tgt := 1883) dL_law_1878 (by decide) h15) ?_
    refine SgP.go (pc' := 1885) (mi_iload dL_law_1883 rfl) ?_
    refine SgP.ite (fun h16 => ?_) (fun h16 => ?_)
    · refine SgP.go (pc' := 1900) (mi_ifne_t (tgt := 1900) dL_law_1885 (by decide) h16) ?_
      refine SgP.go (pc' := 2238) (mi_goto (tgt := 2238) dL_law_1900 (by decide)) ?_
      refine SgP.go (pc' := 2238) (MiStep.weak (ls' := [(35, 0), (3, 0), (42, 0), (27, 0), (0, i), mi_un, mi_un, mi_un]) (mi_wk_y (mi_wk_y (mi_wk_y (mi_wk_y (mi_wk_y (mi_wk_n (mi_wk_n (mi_wk_y mi_wk_0))))))))) ?_
      refine SgP.go (pc' := 2241) (mi_iinc (z := 6) (ls1 := [(35, 0), (3, 0), (42, 0), (27, 0), (0, (mi_w (i + 6))), mi_un, mi_un, mi_un]) dL_law_2238 (by decide) rfl rfl rfl) ?_
      refine SgP.go (pc' := 23) (mi_goto (tgt := 23) dL_law_2241 (by decide)) ?_
      exact K (mi_w (i + 6)) Mx6 Dx7 Z1 Dx13
    · refine SgP.go (pc' := 1888) (mi_ifne_f (tgt := 1900) dL_law_1885 (by decide) h16) ?_
      refine SgP.go (pc' := 1889) (mi_aload_n dL_law_1888 rfl) ?_
      refine SgP.go (pc' := 1890) (mi_iconst (z := 0) dL_law_1889 rfl) ?_
      refine SgP.go (pc' := 1891) (mi_outld dL_law_1890) ?_
      refine SgP.go (pc' := 1893) (mi_iload dL_law_1891 rfl) ?_
      refine SgP.go (pc' := 1894) (mi_i2l dL_law_1893) ?_
      refine SgP.go (pc' := 1895) (mi_lcmp dL_law_1894) ?_
      refine SgP.ite (fun h17 => ?_) (fun h17 => ?_)
      · refine SgP.go (pc' := 1900) (mi_ifeq_t (tgt := 1900) dL_law_1895 (by decide) h17) ?_
        refine SgP.go (pc' := 2238) (mi_goto (tgt := 2238) dL_law_1900 (by decide)) ?_
        refine SgP.go (pc' := 2238) (MiStep.weak (ls' := [(35, 0), (3, 0), (42, 0), (27, 0), (0, i), mi_un, mi_un, mi_un]) (mi_wk_y (mi_wk_y (mi_wk_y (mi_wk_y (mi_wk_y (mi_wk_n (mi_wk_n (mi_wk_y mi_wk_0))))))))) ?_
        refine SgP.go (pc' := 2241) (mi_iinc (z := 6) (ls1 := [(35, 0), (3, 0), (42, 0), (27, 0), (0, (mi_w (i + 6))), mi_un, mi_un, mi_un]) dL_law_2238 (by decide) rfl rfl rfl) ?_
        refine SgP.go (pc' := 23) (mi_goto (tgt := 23) dL_law_2241 (by decide)) ?_
        exact K (mi_w (i + 6)) Mx6 Dx7 Z1 Dx13
      · refine SgP.go (pc' := 1898) (mi_ifeq_f (tgt := 1900) dL_law_1895 (by decide) h17) ?_
        refine SgP.go (pc' := 1899) (mi_iconst (z := 0) dL_law_1898 rfl) ?_
        exact SgP.ret (mi_ireturn dL_law_1899 rfl (Or.inr (Or.inl ⟨rfl, Or.inl rfl⟩)))
  · refine SgP.go (pc' := 1881) (mi_icmpeq_f (tgt := 1883) dL_law_1878 (by decide) h15) ?_
    refine SgP.go (pc' := 1882) (mi_iconst (z := 0) dL_law_1881 rfl) ?_
    exact SgP.ret (mi_ireturn dL_law_1882 rfl (Or.inr (Or.inl ⟨rfl, Or.inl rfl⟩)))
def B_L_case27 (L : Nat) (xs : Nat → Int32) (Z2 : MiZ) (k : Int → MiM → MiD → MiZ → MiD → Option (Int × (MiM × (MiM × MiM)))) (i : Int) (M0 : MiM) (D1 : MiD) (Z1 : MiZ) (D2 : MiD) : Option (Int × (MiM × (MiM × MiM))) := if 0 ≤ (mi_w (i + 1)) ∧ (mi_w (i + 1)) < (L : Int) then (if 0 ≤ (mi_w (i + 2)) ∧ (mi_w (i + 2)) < (L : Int) then (if 0 ≤ (mi_w (i + 3)) ∧ (mi_w (i + 3)) < (L : Int) then (mi_bhT (B_X10_shape ((xs (mi_w (i + 1)).toNat).toInt) ((xs (mi_w (i + 2)).toNat).toInt) ((xs (mi_w (i + 3)).toNat).toInt) D1) (fun k => k == 0 || k == 1) (fun k => if k = 0 then 1 else 2) M0 fun y4 Mx5 Dx6 => mi_b2 (B_X11_shape ((xs (mi_w (i + 1)).toNat).toInt) ((xs (mi_w (i + 2)).toNat).toInt) ((xs (mi_w (i + 3)).toNat).toInt) D2) fun y10 Dx11 => mi_bi (B_X11_thrown Dx11) fun y12 => if y12 = y4 then (if y4 ≠ 0 then (k (mi_w (i + 6)) Mx5 Dx6 Z1 Dx11) else (if (mi_cmp (Mx5.1 25 0 0) y10) = 0 then (k (mi_w (i + 6)) Mx5 Dx6 Z1 Dx11) else (some (0, (Mx5, ((Dx6, Z1), (Dx11, Z2))))))) else (some (0, (Mx5, ((Dx6, Z1), (Dx11, Z2)))))) else none) else none) else none
set_option maxRecDepth 20000 in
theorem S_L_case27 {L : Nat} {xs : Nat → Int32} {Z2 : MiZ} (hL2 : ML Z2) (hW2 : mi_cw mi_s2 Z2) {k : Int → MiM → MiD → MiZ → MiD → Option (Int × (MiM × (MiM × MiM)))} (K : ∀ (i : Int) (M0 : MiM) (D1 : MiD) (Z1 : MiZ) (D2 : MiD), SgP (mi_lP L xs) m_L_law 23 [(35, 0), (3, 0), (42, 0), (27, 0), (0, i), mi_un, mi_un, mi_un] [] (mi_cb M0 (D1, Z1) (D2, Z2)) (fun q => ((1, (0, q.1)), mi_cb q.2.1 q.2.2.1 q.2.2.2)) (k i M0 D1 Z1 D2)) (i : Int) (M0 : MiM) (D1 : MiD) (Z1 : MiZ) (D2 : MiD) (hL : CL Z1) (hW : mi_cw mi_s1 Z1) : SgP (mi_lP L xs) m_L_law 1903 [(35, 0), (3, 0), (42, 0), (27, 0), (0, i), mi_un, mi_un, mi_un] [] (mi_cb M0 (D1, Z1) (D2, Z2)) (fun q => ((1, (0, q.1)), mi_cb q.2.1 q.2.2.1 q.2.2.2)) (B_L_case27 L xs Z2 k i M0 D1 Z1 D2) := by
  unfold B_L_case27
  refine SgP.go (pc' := 1904) (mi_aload_n dL_law_1903 rfl) ?_
  refine SgP.go (pc' := 1905) (mi_aload_n dL_law_1904 rfl) ?_
  refine SgP.go (pc' := 1907) (mi_iload dL_law_1905 rfl) ?_
  refine SgP.go (pc' := 1908) (mi_iconst (z := 1) dL_law_1907 rfl) ?_
  refine SgP.go (pc' := 1909) (mi_iadd dL_law_1908) ?_
  refine SgP.ck (fun hk1 => ?_)
  refine SgP.goP (pc' := 1910) (mi_scr dL_law_1909 hk1) ?_
  refine SgP.go (pc' := 1911) (mi_aload_n dL_law_1910 rfl) ?_
  refine SgP.go (pc' := 1913) (mi_iload dL_law_1911 rfl) ?_
  refine SgP.go (pc' := 1914) (mi_iconst (z := 2) dL_law_1913 rfl) ?_
  refine SgP.go (pc' := 1915) (mi_iadd dL_law_1914) ?_
  refine SgP.ck (fun hk2 => ?_)
  refine SgP.goP (pc' := 1916) (mi_scr dL_law_1915 hk2) ?_
  refine SgP.go (pc' := 1917) (mi_aload_n dL_law_1916 rfl) ?_
  refine SgP.go (pc' := 1919) (mi_iload dL_law_1917 rfl) ?_
  refine SgP.go (pc' := 1920) (mi_iconst (z := 3) dL_law_1919 rfl) ?_
  refine SgP.go (pc' := 1921) (mi_iadd dL_law_1920) ?_
  refine SgP.ck (fun hk3 => ?_)
  refine SgP.goP (pc' := 1922) (mi_scr dL_law_1921 hk3) ?_
  refine SgP.go (pc' := 1923) (mi_aload_n dL_law_1922 rfl) ?_
  refine SgP.callHT (pc' := 1926) (μ' := m_L_shape) (args := [(3, 0), (0, ((xs (mi_w (i + 1)).toNat).toInt)), (0, ((xs (mi_w (i + 2)).toNat).toInt)), (0, ((xs (mi_w (i + 3)).toNat).toInt)), (27, 0)]) (mi_invSH (n := 5) dL_law_1923 rfl wN_L_shape rfl ⟨by decide, by decide⟩ wL_L_207 wT_L_shape wB_L wC_L_shape) (fun b hb hk => C_L_shape hL hW ((xs (mi_w (i + 1)).toNat).toInt) ((xs (mi_w (i + 2)).toNat).toInt) ((xs (mi_w (i + 3)).toNat).toInt) D1 M0 (D2, Z2) b hb hk) (Nat.le_of_ble_eq_true rfl) rfl rfl (fun y4 Mx5 Dx6 => ?_)
  refine SgP.go (pc' := 1928) (mi_istore (ls1 := [(35, 0), (3, 0), (42, 0), (27, 0), (0, i), (0, y4), mi_un, mi_un]) dL_law_1926 (by decide) rfl) ?_
  refine SgP.go (pc' := 1929) (mi_aload_n dL_law_1928 rfl) ?_
  refine SgP.go (pc' := 1930) (mi_aload_n dL_law_1929 rfl) ?_
  refine SgP.go (pc' := 1932) (mi_iload dL_law_1930 rfl) ?_
  refine SgP.go (pc' := 1933) (mi_iconst (z := 1) dL_law_1932 rfl) ?_
  refine SgP.go (pc' := 1934) (mi_iadd dL_law_1933) ?_
  refine SgP.goP (pc' := 1935) (mi_scr dL_law_1934 hk1) ?_
  refine SgP.go (pc' := 1936) (mi_aload_n dL_law_1935 rfl) ?_
  refine SgP.go (pc' := 1938) (mi_iload dL_law_1936 rfl) ?_
  refine SgP.go (pc' := 1939) (mi_iconst (z := 2) dL_law_1938 rfl) ?_
  refine SgP.go (pc' := 1940) (mi_iadd dL_law_1939) ?_
  refine SgP.goP (pc' := 1941) (mi_scr dL_law_1940 hk2) ?_
  refine SgP.go (pc' := 1942) (mi_aload_n dL_law_1941 rfl) ?_
  refine SgP.go (pc' := 1944) (mi_iload dL_law_1942 rfl) ?_
  refine SgP.go (pc' := 1945) (mi_iconst (z := 3) dL_law_1944 rfl) ?_
  refine SgP.go (pc' := 1946) (mi_iadd dL_law_1945) ?_
  refine SgP.goP (pc' := 1947) (mi_scr dL_law_1946 hk3) ?_
  refine SgP.callD2 (t := 0) (pc' := 1950) (μ' := m_X11_shape) (args := [(42, 0), (0, ((xs (mi_w (i + 1)).toNat).toInt)), (0, ((xs (mi_w (i + 2)).toNat).toInt)), (0, ((xs (mi_w (i + 3)).toNat).toInt))]) (mi_invV (n := 3) (r := 40) dL_law_1947 hC_40 (by omega) rfl rfl wN_X11_shape rfl ⟨by decide, by decide⟩ wL_L_209 wI_X11_shape wS_X11_shape wB_X11 wC_X11_shape) (fun v hv => C_X11_shape hL2 ((xs (mi_w (i + 1)).toNat).toInt) ((xs (mi_w (i + 2)).toNat).toInt) ((xs (mi_w (i + 3)).toNat).toInt) D2 v hv) hW2 (show (0 : Nat) < 2 by decide) rfl (Nat.le_of_ble_eq_true rfl) rfl rfl (fun y10 Dx11 => ?_)
  refine SgP.go (pc' := 1952) (mi_istore (ls1 := [(35, 0), (3, 0), (42, 0), (27, 0), (0, i), (0, y4), (0, y10), mi_un]) dL_law_1950 (by decide) rfl) ?_
  refine SgP.go (pc' := 1953) (mi_aload_n dL_law_1952 rfl) ?_
  refine SgP.callI2 (t := 0) (pc' := 1956) (μ' := m_X11_thrown) (args := [(42, 0)]) (mi_invV (n := 0) (r := 40) dL_law_1953 hC_40 (by omega) rfl rfl wN_X11_thrown rfl ⟨by decide, by decide⟩ wL_L_124 wI_X11_thrown wS_X11_thrown wB_X11 wC_X11_thrown) (fun v hv => C_X11_thrown hL2 Dx11 v hv) hW2 (show (0 : Nat) < 2 by decide) rfl (Nat.le_of_ble_eq_true rfl) rfl rfl (fun y12 => ?_)
  refine SgP.go (pc' := 1958) (mi_iload dL_law_1956 rfl) ?_
  refine SgP.ite (fun h13 => ?_) (fun h13 => ?_)
  · refine SgP.go (pc' := 1963) (mi_icmpeq_t (tgt := 1963) dL_law_1958 (by decide) h13) ?_
    refine SgP.go (pc' := 1965) (mi_iload dL_law_1963 rfl) ?_
    refine SgP.ite (fun h14 => ?_) (fun h14 => ?_)
    · refine SgP.go (pc' := 1980) (mi_ifne_t (tgt := 1980) dL_law_1965 (by decide) h14) ?_
      refine SgP.go (pc' := 2238) (mi_goto (tgt := 2238) dL_law_1980 (by decide)) ?_
      refine SgP.go (pc' := 2238) (MiStep.weak (ls' := [(35, 0), (3, 0), (42, 0), (27, 0), (0, i), mi_un, mi_un, mi_un]) (mi_wk_y (mi_wk_y (mi_wk_y (mi_wk_y (mi_wk_y (mi_wk_n (mi_wk_n (mi_wk_y mi_wk_0))))))))) ?_
      refine SgP.go (pc' := 2241) (mi_iinc (z := 6) (ls1 := [(35, 0), (3, 0), (42, 0), (27, 0), (0, (mi_w (i + 6))), mi_un, mi_un, mi_un]) dL_law_2238 (by decide) rfl rfl rfl) ?_
      refine SgP.go (pc' := 23) (mi_goto (tgt := 23) dL_law_2241 (by decide)) ?_
      exact K (mi_w (i + 6)) Mx5 Dx6 Z1 Dx11
    · refine SgP.go (pc' := 1968) (mi_ifne_f (tgt := 1980) dL_law_1965 (by decide) h14) ?_
      refine SgP.go (pc' := 1969) (mi_aload_n dL_law_1968 rfl) ?_
      refine SgP.go (pc' := 1970) (mi_iconst (z := 0) dL_law_1969 rfl) ?_
      refine SgP.go (pc' := 1971) (mi_outld dL_law_1970) ?_
      refine SgP.go (pc' := 1973) (mi_iload dL_law_1971 rfl) ?_
      refine SgP.go (pc' := 1974) (mi_i2l dL_law_1973) ?_
      refine SgP.go (pc' := 1975) (mi_lcmp dL_law_1974) ?_
      refine SgP.ite (fun h15 => ?_) (fun h15 => ?_)
      · refine SgP.go (pc' := 1980) (mi_ifeq_t (tgt := 1980) dL_law_1975 (by decide) h15) ?_
        refine SgP.go (pc' := 2238) (mi_goto (tgt := 2238) dL_law_1980 (by decide)) ?_
        refine SgP.go (pc' := 2238) (MiStep.weak (ls' := [(35, 0), (3, 0), (42, 0), (27, 0), (0, i), mi_un, mi_un, mi_un]) (mi_wk_y (mi_wk_y (mi_wk_y (mi_wk_y (mi_wk_y (mi_wk_n (mi_wk_n (mi_wk_y mi_wk_0))))))))) ?_
        refine SgP.go (pc' := 2241) (mi_iinc (z := 6) (ls1 := [(35, 0), (3, 0), (42, 0), (27, 0), (0, (mi_w (i + 6))), mi_un, mi_un, mi_un]) dL_law_2238 (by decide) rfl rfl rfl) ?_
        refine SgP.go (pc' := 23) (mi_goto (tgt := 23) dL_law_2241 (by decide)) ?_
        exact K (mi_w (i + 6)) Mx5 Dx6 Z1 Dx11
      · refine SgP.go (pc' := 1978) (mi_ifeq_f (tgt := 1980) dL_law_1975 (by decide) h15) ?_
        refine SgP.go (pc' := 1979) (mi_iconst (z := 0) dL_law_1978 rfl) ?_
        exact SgP.ret (mi_ireturn dL_law_1979 rfl (Or.inr (Or.inl ⟨rfl, Or.inl rfl⟩)))
  · refine SgP.go (pc' := 1961) (mi_icmpeq_f (tgt := 1963) dL_law_1958 (by decide) h13) ?_
    refine SgP.go (pc' := 1962) (mi_iconst (z := 0) dL_law_1961 rfl) ?_
    exact SgP.ret (mi_ireturn dL_law_1962 rfl (Or.inr (Or.inl ⟨rfl, Or.inl rfl⟩)))
def B_L_case28 (L : Nat) (xs : Nat → Int32) (Z2 : MiZ) (k : Int → MiM → MiD → MiZ → MiD → Option (Int × (MiM × (MiM × MiM)))) (i : Int) (M0 : MiM) (D1 : MiD) (Z1 : MiZ) (D2 : MiD) : Option (Int × (MiM × (MiM × MiM))) := if 0 ≤ (mi_w (i + 1)) ∧ (mi_w (i + 1)) < (L : Int) then (if 0 ≤ (mi_w (i + 2)) ∧ (mi_w (i + 2)) < (L : Int) then (if 0 ≤ (mi_w (i + 3)) ∧ (mi_w (i + 3)) < (L : Int) then (mi_bhT (B_X10_keep ((xs (mi_w (i + 1)).toNat).toInt) ((xs (mi_w (i + 2)).toNat).toInt) ((xs (mi_w (i + 3)).toNat).toInt) D1) (fun k => k == 0 || k == 1) (fun k => if k = 0 then 1 else 2) M0 fun y4 Mx5 Dx6 => mi_b2 (B_X11_keep ((xs (mi_w (i + 1)).toNat).toInt) ((xs (mi_w (i + 2)).toNat).toInt) ((xs (mi_w (i + 3)).toNat).toInt) D2) fun y10 Dx11 => mi_bi (B_X11_thrown Dx11) fun y12 => if y12 = y4 then (if y4 ≠ 0 then (k (mi_w (i + 6)) Mx5 Dx6 Z1 Dx11) else (if (mi_cmp (Mx5.1 25 0 0) y10) = 0 then (k (mi_w (i + 6)) Mx5 Dx6 Z1 Dx11) else (some (0, (Mx5, ((Dx6, Z1), (Dx11, Z2))))))) else (some (0, (Mx5, ((Dx6, Z1), (Dx11, Z2)))))) else none) else none) else none
set_option maxRecDepth 20000 in
theorem S_L_case28 {L : Nat} {xs : Nat → Int32} {Z2 : MiZ} (hL2 : ML Z2) (hW2 : mi_cw mi_s2 Z2) {k : Int → MiM → MiD → MiZ → MiD → Option (Int × (MiM × (MiM × MiM)))} (K : ∀ (i : Int) (M0 : MiM) (D1 : MiD) (Z1 : MiZ) (D2 : MiD), SgP (mi_lP L xs) m_L_law 23 [(35, 0), (3, 0), (42, 0), (27, 0), (0, i), mi_un, mi_un, mi_un] [] (mi_cb M0 (D1, Z1) (D2, Z2)) (fun q => ((1, (0, q.1)), mi_cb q.2.1 q.2.2.1 q.2.2.2)) (k i M0 D1 Z1 D2)) (i : Int) (M0 : MiM) (D1 : MiD) (Z1 : MiZ) (D2 : MiD) (hL : CL Z1) (hW : mi_cw mi_s1 Z1) : SgP (mi_lP L xs) m_L_law 1983 [(35, 0), (3, 0), (42, 0), (27, 0), (0, i), mi_un, mi_un, mi_un] [] (mi_cb M0 (D1, Z1) (D2, Z2)) (fun q => ((1, (0, q.1)), mi_cb q.2.1 q.2.2.1 q.2.2.2)) (B_L_case28 L xs Z2 k i M0 D1 Z1 D2) := by
  unfold B_L_case28
  refine SgP.go (pc' := 1984) (mi_aload_n dL_law_1983 rfl) ?_
  refine SgP.go (pc' := 1985) (mi_aload_n dL_law_1984 rfl) ?_
  refine SgP.go (pc' := 1987) (mi_iload dL_law_1985 rfl) ?_
  refine SgP.go (pc' := 1988) (mi_iconst (z := 1) dL_law_1987 rfl) ?_
  refine SgP.go (pc' := 1989) (mi_iadd dL_law_1988) ?_
  refine SgP.ck (fun hk1 => ?_)
  refine SgP.goP (pc' := 1990) (mi_scr dL_law_1989 hk1) ?_
  refine SgP.go (pc' := 1991) (mi_aload_n dL_law_1990 rfl) ?_
  refine SgP.go (pc' := 1993) (mi_iload dL_law_1991 rfl) ?_
  refine SgP.go (pc' := 1994) (mi_iconst (z := 2) dL_law_1993 rfl) ?_
  refine SgP.go (pc' := 1995) (mi_iadd dL_law_1994) ?_
  refine SgP.ck (fun hk2 => ?_)
  refine SgP.goP (pc' := 1996) (mi_scr dL_law_1995 hk2) ?_
  refine SgP.go (pc' := 1997) (mi_aload_n dL_law_1996 rfl) ?_
  refine SgP.go (pc' := 1999) (mi_iload dL_law_1997 rfl) ?_
  refine SgP.go (pc' := 2000) (mi_iconst (z := 3) dL_law_1999 rfl) ?_
  refine SgP.go (pc' := 2001) (mi_iadd dL_law_2000) ?_
  refine SgP.ck (fun hk3 => ?_)
  refine SgP.goP (pc' := 2002) (mi_scr dL_law_2001 hk3) ?_
  refine SgP.go (pc' := 2003) (mi_aload_n dL_law_2002 rfl) ?_
  refine SgP.callHT (pc' := 2006) (μ' := m_L_keep) (args := [(3, 0), (0, ((xs (mi_w (i + 1)).toNat).toInt)), (0, ((xs (mi_w (i + 2)).toNat).toInt)), (0, ((xs (mi_w (i + 3)).toNat).toInt)), (27, 0)]) (mi_invSH (n := 5) dL_law_2003 rfl wN_L_keep rfl ⟨by decide, by decide⟩ wL_L_210 wT_L_keep wB_L wC_L_keep) (fun b hb hk => C_L_keep hL hW ((xs (mi_w (i + 1)).toNat).toInt) ((xs (mi_w (i + 2)).toNat).toInt) ((xs (mi_w (i + 3)).toNat).toInt) D1 M0 (D2, Z2) b hb hk) (Nat.le_of_ble_eq_true rfl) rfl rfl (fun y4 Mx5 Dx6 => ?_)
  refine SgP.go (pc' := 2008) (mi_istore (ls1 := [(35, 0), (3, 0), (42, 0), (27, 0), (0, i), (0, y4), mi_un, mi_un]) dL_law_2006 (by decide) rfl) ?_
  refine SgP.go (pc' := 2009) (mi_aload_n dL_law_2008 rfl) ?_
  refine SgP.go (pc' := 2010) (mi_aload_n dL_law_2009 rfl) ?_
  refine SgP.go (pc' := 2012) (mi_iload dL_law_2010 rfl) ?_
  refine SgP.go (pc' := 2013) (mi_iconst (z := 1) dL_law_2012 rfl) ?_
  refine SgP.go (pc' := 2014) (mi_iadd dL_law_2013) ?_
  refine SgP.goP (pc' := 2015) (mi_scr dL_law_2014 hk1) ?_
  refine SgP.go (pc' := 2016) (mi_aload_n dL_law_2015 rfl) ?_
  refine SgP.go (pc' := 2018) (mi_iload dL_law_2016 rfl) ?_
  refine SgP.go (pc' := 2019) (mi_iconst (z := 2) dL_law_2018 rfl) ?_
  refine SgP.go (pc' := 2020) (mi_iadd dL_law_2019) ?_
  refine SgP.goP (pc' := 2021) (mi_scr dL_law_2020 hk2) ?_
  refine SgP.go (pc' := 2022) (mi_aload_n dL_law_2021 rfl) ?_
  refine SgP.go (pc' := 2024) (mi_iload dL_law_2022 rfl) ?_
  refine SgP.go (pc' := 2025) (mi_iconst (z := 3) dL_law_2024 rfl) ?_
  refine SgP.go (pc' := 2026) (mi_iadd dL_law_2025) ?_
  refine SgP.goP (pc' := 2027) (mi_scr dL_law_2026 hk3) ?_
  refine SgP.callD2 (t := 0) (pc' := 2030) (μ' := m_X11_keep) (args := [(42, 0), (0, ((xs (mi_w (i + 1)).toNat).toInt)), (0, ((xs (mi_w (i + 2)).toNat).toInt)), (0, ((xs (mi_w (i + 3)).toNat).toInt))]) (mi_invV (n := 3) (r := 40) dL_law_2027 hC_40 (by omega) rfl rfl wN_X11_keep rfl ⟨by decide, by decide⟩ wL_L_212 wI_X11_keep wS_X11_keep wB_X11 wC_X11_keep) (fun v hv => C_X11_keep hL2 ((xs (mi_w (i + 1)).toNat).toInt) ((xs (mi_w (i + 2)).toNat).toInt) ((xs (mi_w (i + 3)).toNat).toInt) D2 v hv) hW2 (show (0 : Nat) < 2 by decide) rfl (Nat.le_of_ble_eq_true rfl) rfl rfl (fun y10 Dx11 => ?_)
  refine SgP.go (pc' := 2032) (mi_istore (ls1 := [(35, 0), (3, 0), (42, 0), (27, 0), (0, i), (0, y4), (0, y10), mi_un]) dL_law_2030 (by decide) rfl) ?_
  refine SgP.go (pc' := 2033) (mi_aload_n dL_law_2032 rfl) ?_
  refine SgP.callI2 (t := 0) (pc' := 2036) (μ' := m_X11_thrown) (args := [(42, 0)]) (mi_invV (n := 0) (r := 40) dL_law_2033 hC_40 (by omega) rfl rfl wN_X11_thrown rfl ⟨by decide, by decide⟩ wL_L_124 wI_X11_thrown wS_X11_thrown wB_X11 wC_X11_thrown) (fun v hv => C_X11_thrown hL2 Dx11 v hv) hW2 (show (0 : Nat) < 2 by decide) rfl (Nat.le_of_ble_eq_true rfl) rfl rfl (fun y12 => ?_)
  refine SgP.go (pc' := 2038) (mi_iload dL_law_2036 rfl) ?_
  refine SgP.ite (fun h13 => ?_) (fun h13 => ?_)
  · refine SgP.go (pc' := 2043) (mi_icmpeq_t (tgt := 2043) dL_law_2038 (by decide) h13) ?_
    refine SgP.go (pc' := 2045) (mi_iload dL_law_2043 rfl) ?_
    refine SgP.ite (fun h14 => ?_) (fun h14 => ?_)
    · refine SgP.go (pc' := 2060) (mi_ifne_t (tgt := 2060) dL_law_2045 (by decide) h14) ?_
      refine SgP.go (pc' := 2238) (mi_goto (tgt := 2238) dL_law_2060 (by decide)) ?_
      refine SgP.go (pc' := 2238) (MiStep.weak (ls' := [(35, 0), (3, 0), (42, 0), (27, 0), (0, i), mi_un, mi_un, mi_un]) (mi_wk_y (mi_wk_y (mi_wk_y (mi_wk_y (mi_wk_y (mi_wk_n (mi_wk_n (mi_wk_y mi_wk_0))))))))) ?_
      refine SgP.go (pc' := 2241) (mi_iinc (z := 6) (ls1 := [(35, 0), (3, 0), (42, 0), (27, 0), (0, (mi_w (i + 6))), mi_un, mi_un, mi_un]) dL_law_2238 (by decide) rfl rfl rfl) ?_
      refine SgP.go (pc' := 23) (mi_goto (tgt := 23) dL_law_2241 (by decide)) ?_
      exact K (mi_w (i + 6)) Mx5 Dx6 Z1 Dx11
    · refine SgP.go (pc' := 2048) (mi_ifne_f (tgt := 2060) dL_law_2045 (by decide) h14) ?_
      refine SgP.go (pc' := 2049) (mi_aload_n dL_law_2048 rfl) ?_
      refine SgP.go (pc' := 2050) (mi_iconst (z := 0) dL_law_2049 rfl) ?_
      refine SgP.go (pc' := 2051) (mi_outld dL_law_2050) ?_
      refine SgP.go (pc' := 2053) (mi_iload dL_law_2051 rfl) ?_
      refine SgP.go (pc' := 2054) (mi_i2l dL_law_2053) ?_
      refine SgP.go (pc' := 2055) (mi_lcmp dL_law_2054) ?_
      refine SgP.ite (fun h15 => ?_) (fun h15 => ?_)
      · refine SgP.go (pc' := 2060) (mi_ifeq_t (tgt := 2060) dL_law_2055 (by decide) h15) ?_
        refine SgP.go (pc' := 2238) (mi_goto (tgt := 2238) dL_law_2060 (by decide)) ?_
        refine SgP.go (pc' := 2238) (MiStep.weak (ls' := [(35, 0), (3, 0), (42, 0), (27, 0), (0, i), mi_un, mi_un, mi_un]) (mi_wk_y (mi_wk_y (mi_wk_y (mi_wk_y (mi_wk_y (mi_wk_n (mi_wk_n (mi_wk_y mi_wk_0))))))))) ?_
        refine SgP.go (pc' := 2241) (mi_iinc (z := 6) (ls1 := [(35, 0), (3, 0), (42, 0), (27, 0), (0, (mi_w (i + 6))), mi_un, mi_un, mi_un]) dL_law_2238 (by decide) rfl rfl rfl) ?_
        refine SgP.go (pc' := 23) (mi_goto (tgt := 23) dL_law_2241 (by decide)) ?_
        exact K (mi_w (i + 6)) Mx5 Dx6 Z1 Dx11
      · refine SgP.go (pc' := 2058) (mi_ifeq_f (tgt := 2060) dL_law_2055 (by decide) h15) ?_
        refine SgP.go (pc' := 2059) (mi_iconst (z := 0) dL_law_2058 rfl) ?_
        exact SgP.ret (mi_ireturn dL_law_2059 rfl (Or.inr (Or.inl ⟨rfl, Or.inl rfl⟩)))
  · refine SgP.go (pc' := 2041) (mi_icmpeq_f (tgt := 2043) dL_law_2038 (by decide) h13) ?_
    refine SgP.go (pc' := 2042) (mi_iconst (z := 0) dL_law_2041 rfl) ?_
    exact SgP.ret (mi_ireturn dL_law_2042 rfl (Or.inr (Or.inl ⟨rfl, Or.inl rfl⟩)))
def B_L_case29 (L : Nat) (xs : Nat → Int32) (Z2 : MiZ) (k : Int → MiM → MiD → MiZ → MiD → Option (Int × (MiM × (MiM × MiM)))) (i : Int) (M0 : MiM) (D1 : MiD) (Z1 : MiZ) (D2 : MiD) : Option (Int × (MiM × (MiM × MiM))) := if 0 ≤ (mi_w (i + 1)) ∧ (mi_w (i + 1)) < (L : Int) then (mi_bhT (B_X10_shapes ((xs (mi_w (i + 1)).toNat).toInt) D1) (fun k => k == 0) (fun k => 1) M0 fun y2 Mx3 Dx4 => mi_b2 (B_X11_shapes ((xs (mi_w (i + 1)).toNat).toInt) D2) fun y6 Dx7 => mi_bi (B_X11_thrown Dx7) fun y8 => if y8 = y2 then (if y2 ≠ 0 then (k (mi_w (i + 6)) Mx3 Dx4 Z1 Dx7) else (if (mi_cmp (Mx3.1 25 0 0) y6) = 0 then (k (mi_w (i + 6)) Mx3 Dx4 Z1 Dx7) else (some (0, (Mx3, ((Dx4, Z1), (Dx7, Z2))))))) else (some (0, (Mx3, ((Dx4, Z1), (Dx7, Z2)))))) else none
set_option maxRecDepth 20000 in
theorem S_L_case29 {L : Nat} {xs : Nat → Int32} {Z2 : MiZ} (hL2 : ML Z2) (hW2 : mi_cw mi_s2 Z2) {k : Int → MiM → MiD → MiZ → MiD → Option (Int × (MiM × (MiM × MiM)))} (K : ∀ (i : Int) (M0 : MiM) (D1 : MiD) (Z1 : MiZ) (D2 : MiD), SgP (mi_lP L xs) m_L_law 23 [(35, 0), (3, 0), (42, 0), (27, 0), (0, i), mi_un, mi_un, mi_un] [] (mi_cb M0 (D1, Z1) (D2, Z2)) (fun q => ((1, (0, q.1)), mi_cb q.2.1 q.2.2.1 q.2.2.2)) (k i M0 D1 Z1 D2)) (i : Int) (M0 : MiM) (D1 : MiD) (Z1 : MiZ) (D2 : MiD) (hL : CL Z1) (hW : mi_cw mi_s1 Z1) : SgP (mi_lP L xs) m_L_law 2063 [(35, 0), (3, 0), (42, 0), (27, 0), (0, i), mi_un, mi_un, mi_un] [] (mi_cb M0 (D1, Z1) (D2, Z2)) (fun q => ((1, (0, q.1)), mi_cb q.2.1 q.2.2.1 q.2.2.2)) (B_L_case29 L xs Z2 k i M0 D1 Z1 D2) := by
  unfold B_L_case29
  refine SgP.go (pc' := 2064) (mi_aload_n dL_law_2063 rfl) ?_
  refine SgP.go (pc' := 2065) (mi_aload_n dL_law_2064 rfl) ?_
  refine SgP.go (pc' := 2067) (mi_iload dL_law_2065 rfl) ?_
  refine SgP.go (pc' := 2068) (mi_iconst (z := 1) dL_law_2067 rfl) ?_
  refine SgP.go (pc' := 2069) (mi_iadd dL_law_2068) ?_
  refine SgP.ck (fun hk1 => ?_)
  refine SgP.goP (pc' := 2070) (mi_scr dL_law_2069 hk1) ?_
  refine SgP.go (pc' := 2071) (mi_aload_n dL_law_2070 rfl) ?_
  refine SgP.callHT (pc' := 2074) (μ' := m_L_shapes) (args := [(3, 0), (0, ((xs (mi_w (i + 1)).toNat).toInt)), (27, 0)]) (mi_invSH (n := 3) dL_law_2071 rfl wN_L_shapes rfl ⟨by decide, by decide⟩ wL_L_213 wT_L_shapes wB_L wC_L_shapes) (fun b hb hk => C_L_shapes hL hW ((xs (mi_w (i + 1)).toNat).toInt) D1 M0 (D2, Z2) b hb hk) (Nat.le_of_ble_eq_true rfl) rfl rfl (fun y2 Mx3 Dx4 => ?_)
  refine SgP.go (pc' := 2076) (mi_istore (ls1 := [(35, 0), (3, 0), (42, 0), (27, 0), (0, i), (0, y2), mi_un, mi_un]) dL_law_2074 (by decide) rfl) ?_
  refine SgP.go (pc' := 2077) (mi_aload_n dL_law_2076 rfl) ?_
  refine SgP.go (pc' := 2078) (mi_aload_n dL_law_2077 rfl) ?_
  refine SgP.go (pc' := 2080) (mi_iload dL_law_2078 rfl) ?_
  refine SgP.go (pc' := 2081) (mi_iconst (z := 1) dL_law_2080 rfl) ?_
  refine SgP.go (pc' := 2082) (mi_iadd dL_law_2081) ?_
  refine SgP.goP (pc' := 2083) (mi_scr dL_law_2082 hk1) ?_
  refine SgP.callD2 (t := 0) (pc' := 2086) (μ' := m_X11_shapes) (args := [(42, 0), (0, ((xs (mi_w (i + 1)).toNat).toInt))]) (mi_invV (n := 1) (r := 40) dL_law_2083 hC_40 (by omega) rfl rfl wN_X11_shapes rfl ⟨by decide, by decide⟩ wL_L_215 wI_X11_shapes wS_X11_shapes wB_X11 wC_X11_shapes) (fun v hv => C_X11_shapes hL2 ((xs (mi_w (i + 1)).toNat).toInt) D2 v hv) hW2 (show (0 : Nat) < 2 by decide) rfl (Nat.le_of_ble_eq_true rfl) rfl rfl (fun y6 Dx7 => ?_)
  refine SgP.go (pc' := 2088) (mi_istore (ls1 := [(35, 0), (3, 0), (42, 0), (27, 0), (0, i), (0, y2), (0, y6), mi_un]) dL_law_2086 (by decide) rfl) ?_
  refine SgP.go (pc' := 2089) (mi_aload_n dL_law_2088 rfl) ?_
  refine SgP.callI2 (t := 0) (pc' := 2092) (μ' := m_X11_thrown) (args := [(42, 0)]) (mi_invV (n := 0) (r := 40) dL_law_2089 hC_40 (by omega) rfl rfl wN_X11_thrown rfl ⟨by decide, by decide⟩ wL_L_124 wI_X11_thrown wS_X11_thrown wB_X11 wC_X11_thrown) (fun v hv => C_X11_thrown hL2 Dx7 v hv) hW2 (show (0 : Nat) < 2 by decide) rfl (Nat.le_of_ble_eq_true rfl) rfl rfl (fun y8 => ?_)
  refine SgP.go (pc' := 2094) (mi_iload dL_law_2092 rfl) ?_
  refine SgP.ite (fun h9 => ?_) (fun h9 => ?_)
  · refine SgP.go (pc' := 2099) (mi_icmpeq_t (tgt := 2099) dL_law_2094 (by decide) h9) ?_
    refine SgP.go (pc' := 2101) (mi_iload dL_law_2099 rfl) ?_
    refine SgP.ite (fun h10 => ?_) (fun h10 => ?_)
    · refine SgP.go (pc' := 2116) (mi_ifne_t (tgt := 2116) dL_law_2101 (by decide) h10) ?_
      refine SgP.go (pc' := 2238) (mi_goto (tgt := 2238) dL_law_2116 (by decide)) ?_
      refine SgP.go (pc' := 2238) (MiStep.weak (ls' := [(35, 0), (3, 0), (42, 0), (27, 0), (0, i), mi_un, mi_un, mi_un]) (mi_wk_y (mi_wk_y (mi_wk_y (mi_wk_y (mi_wk_y (mi_wk_n (mi_wk_n (mi_wk_y mi_wk_0))))))))) ?_
      refine SgP.go (pc' := 2241) (mi_iinc (z := 6) (ls1 := [(35, 0), (3, 0), (42, 0), (27, 0), (0, (mi_w (i + 6))), mi_un, mi_un, mi_un]) dL_law_2238 (by decide) rfl rfl rfl) ?_
      refine SgP.go (pc' := 23) (mi_goto (tgt := 23) dL_law_2241 (by decide)) ?_
      exact K (mi_w (i + 6)) Mx3 Dx4 Z1 Dx7
    · refine SgP.go (pc' := 2104) (mi_ifne_f (tgt := 2116) dL_law_2101 (by decide) h10) ?_
      refine SgP.go (pc' := 2105) (mi_aload_n dL_law_2104 rfl) ?_
      refine SgP.go (pc' := 2106) (mi_iconst (z := 0) dL_law_2105 rfl) ?_
      refine SgP.go (pc' := 2107) (mi_outld dL_law_2106) ?_
      refine SgP.go (pc' := 2109) (mi_iload dL_law_2107 rfl) ?_
      refine SgP.go (pc' := 2110) (mi_i2l dL_law_2109) ?_
      refine SgP.go (pc' := 2111) (mi_lcmp dL_law_2110) ?_
      refine SgP.ite (fun h11 => ?_) (fun h11 => ?_)
      · refine SgP.go (pc' := 2116) (mi_ifeq_t (tgt := 2116) dL_law_2111 (by decide) h11) ?_
        refine SgP.go (pc' := 2238) (mi_goto (tgt := 2238) dL_law_2116 (by decide)) ?_
        refine SgP.go (pc' := 2238) (MiStep.weak (ls' := [(35, 0), (3, 0), (42, 0), (27, 0), (0, i), mi_un, mi_un, mi_un]) (mi_wk_y (mi_wk_y (mi_wk_y (mi_wk_y (mi_wk_y (mi_wk_n (mi_wk_n (mi_wk_y mi_wk_0))))))))) ?_
        refine SgP.go (pc' := 2241) (mi_iinc (z := 6) (ls1 := [(35, 0), (3, 0), (42, 0), (27, 0), (0, (mi_w (i + 6))), mi_un, mi_un, mi_un]) dL_law_2238 (by decide) rfl rfl rfl) ?_
        refine SgP.go (pc' := 23) (mi_goto (tgt := 23) dL_law_2241 (by decide)) ?_
        exact K (mi_w (i + 6)) Mx3 Dx4 Z1 Dx7
      · refine SgP.go (pc' := 2114) (mi_ifeq_f (tgt := 2116) dL_law_2111 (by decide) h11) ?_
        refine SgP.go (pc' := 2115) (mi_iconst (z := 0) dL_law_2114 rfl) ?_
        exact SgP.ret (mi_ireturn dL_law_2115 rfl (Or.inr (Or.inl ⟨rfl, Or.inl rfl⟩)))
  · refine SgP.go (pc' := 2097) (mi_icmpeq_f (tgt := 2099) dL_law_2094 (by decide) h9) ?_
    refine SgP.go (pc' := 2098) (mi_iconst (z := 0) dL_law_2097 rfl) ?_
    exact SgP.ret (mi_ireturn dL_law_2098 rfl (Or.inr (Or.inl ⟨rfl, Or.inl rfl⟩)))
def B_L_case30 (L : Nat) (xs : Nat → Int32) (Z2 : MiZ) (k : Int → MiM → MiD → MiZ → MiD → Option (Int × (MiM × (MiM × MiM)))) (i : Int) (M0 : MiM) (D1 : MiD) (Z1 : MiZ) (D2 : MiD) : Option (Int × (MiM × (MiM × MiM))) := if 0 ≤ (mi_w (i + 1)) ∧ (mi_w (i + 1)) < (L : Int) then (if 0 ≤ (mi_w (i + 2)) ∧ (mi_w (i + 2)) < (L : Int) then (mi_bhT (B_X10_same ((xs (mi_w (i + 1)).toNat).toInt) ((xs (mi_w (i + 2)).toNat).toInt) D1) (fun k => k == 0) (fun k => 1) M0 fun y3 Mx4 Dx5 => mi_b2 (B_X11_same ((xs (mi_w (i + 1)).toNat).toInt) ((xs (mi_w (i + 2)).toNat).toInt) D2) fun y8 Dx9 => mi_bi (B_X11_thrown Dx9) fun y10 => if y10 = y3 then (if y3 ≠ 0 then (k (mi_w (i + 6)) Mx4 Dx5 Z1 Dx9) else (if (mi_cmp (Mx4.1 25 0 0) y8) = 0 then (k (mi_w (i + 6)) Mx4 Dx5 Z1 Dx9) else (some (0, (Mx4, ((Dx5, Z1), (Dx9, Z2))))))) else (some (0, (Mx4, ((Dx5, Z1), (Dx9, Z2)))))) else none) else none
set_option maxRecDepth 20000 in
theorem S_L_case30 {L : Nat} {xs : Nat → Int32} {Z2 : MiZ} (hL2 : ML Z2) (hW2 : mi_cw mi_s2 Z2) {k : Int → MiM → MiD → MiZ → MiD → Option (Int × (MiM × (MiM × MiM)))} (K : ∀ (i : Int) (M0 : MiM) (D1 : MiD) (Z1 : MiZ) (D2 : MiD), SgP (mi_lP L xs) m_L_law 23 [(35, 0), (3, 0), (42, 0), (27, 0), (0, i), mi_un, mi_un, mi_un] [] (mi_cb M0 (D1, Z1) (D2, Z2)) (fun q => ((1, (0, q.1)), mi_cb q.2.1 q.2.2.1 q.2.2.2)) (k i M0 D1 Z1 D2)) (i : Int) (M0 : MiM) (D1 : MiD) (Z1 : MiZ) (D2 : MiD) (hL : CL Z1) (hW : mi_cw mi_s1 Z1) : SgP (mi_lP L xs) m_L_law 2119 [(35, 0), (3, 0), (42, 0), (27, 0), (0, i), mi_un, mi_un, mi_un] [] (mi_cb M0 (D1, Z1) (D2, Z2)) (fun q => ((1, (0, q.1)), mi_cb q.2.1 q.2.2.1 q.2.2.2)) (B_L_case30 L xs Z2 k i M0 D1 Z1 D2) := by
  unfold B_L_case30
  refine SgP.go (pc' := 2120) (mi_aload_n dL_law_2119 rfl) ?_
  refine SgP.go (pc' := 2121) (mi_aload_n dL_law_2120 rfl) ?_
  refine SgP.go (pc' := 2123) (mi_iload dL_law_2121 rfl) ?_
  refine SgP.go (pc' := 2124) (mi_iconst (z := 1) dL_law_2123 rfl) ?_
  refine SgP.go (pc' := 2125) (mi_iadd dL_law_2124) ?_
  refine SgP.ck (fun hk1 => ?_)
  refine SgP.goP (pc' := 2126) (mi_scr dL_law_2125 hk1) ?_
  refine SgP.go (pc' := 2127) (mi_aload_n dL_law_2126 rfl) ?_
  refine SgP.go (pc' := 2129) (mi_iload dL_law_2127 rfl) ?_
  refine SgP.go (pc' := 2130) (mi_iconst (z := 2) dL_law_2129 rfl) ?_
  refine SgP.go (pc' := 2131) (mi_iadd dL_law_2130) ?_
  refine SgP.ck (fun hk2 => ?_)
  refine SgP.goP (pc' := 2132) (mi_scr dL_law_2131 hk2) ?_
  refine SgP.go (pc' := 2133) (mi_aload_n dL_law_2132 rfl) ?_
  refine SgP.callHT (pc' := 2136) (μ' := m_L_same) (args := [(3, 0), (0, ((xs (mi_w (i + 1)).toNat).toInt)), (0, ((xs (mi_w (i + 2)).toNat).toInt)), (27, 0)]) (mi_invSH (n := 4) dL_law_2133 rfl wN_L_same rfl ⟨by decide, by decide⟩ wL_L_216 wT_L_same wB_L wC_L_same) (fun b hb hk => C_L_same hL hW ((xs (mi_w (i + 1)).toNat).toInt) ((xs (mi_w (i + 2)).toNat).toInt) D1 M0 (D2, Z2) b hb hk) (Nat.le_of_ble_eq_true rfl) rfl rfl (fun y3 Mx4 Dx5 => ?_)
  refine SgP.go (pc' := 2138) (mi_istore (ls1 := [(35, 0), (3, 0), (42, 0), (27, 0), (0, i), (0, y3), mi_un, mi_un]) dL_law_2136 (by decide) rfl) ?_
  refine SgP.go (pc' := 2139) (mi_aload_n dL_law_2138 rfl) ?_
  refine SgP.go (pc' := 2140) (mi_aload_n dL_law_2139 rfl) ?_
  refine SgP.go (pc' := 2142) (mi_iload dL_law_2140 rfl) ?_
  refine SgP.go (pc' := 2143) (mi_iconst (z := 1) dL_law_2142 rfl) ?_
  refine SgP.go (pc' := 2144) (mi_iadd dL_law_2143) ?_
  refine SgP.goP (pc' := 2145) (mi_scr dL_law_2144 hk1) ?_
  refine SgP.go (pc' := 2146) (mi_aload_n dL_law_2145 rfl) ?_
  refine SgP.go (pc' := 2148) (mi_iload dL_law_2146 rfl) ?_
  refine SgP.go (pc' := 2149) (mi_iconst (z := 2) dL_law_2148 rfl) ?_
  refine SgP.go (pc' := 2150) (mi_iadd dL_law_2149) ?_
  refine SgP.goP (pc' := 2151) (mi_scr dL_law_2150 hk2) ?_
  refine SgP.callD2 (t := 0) (pc' := 2154) (μ' := m_X11_same) (args := [(42, 0), (0, ((xs (mi_w (i + 1)).toNat).toInt)), (0, ((xs (mi_w (i + 2)).toNat).toInt))]) (mi_invV (n := 2) (r := 40) dL_law_2151 hC_40 (by omega) rfl rfl wN_X11_same rfl ⟨by decide, by decide⟩ wL_L_218 wI_X11_same wS_X11_same wB_X11 wC_X11_same) (fun v hv => C_X11_same hL2 ((xs (mi_w (i + 1)).toNat).toInt) ((xs (mi_w (i + 2)).toNat).toInt) D2 v hv) hW2 (show (0 : Nat) < 2 by decide) rfl (Nat.le_of_ble_eq_true rfl) rfl rfl (fun y8 Dx9 => ?_)
  refine SgP.go (pc' := 2156) (mi_istore (ls1 := [(35, 0), (3, 0), (42, 0), (27, 0), (0, i), (0, y3), (0, y8), mi_un]) dL_law_2154 (by decide) rfl) ?_
  refine SgP.go (pc' := 2157) (mi_aload_n dL_law_2156 rfl) ?_
  refine SgP.callI2 (t := 0) (pc' := 2160) (μ' := m_X11_thrown) (args := [(42, 0)]) (mi_invV (n := 0) (r := 40) dL_law_2157 hC_40 (by omega) rfl rfl wN_X11_thrown rfl ⟨by decide, by decide⟩ wL_L_124 wI_X11_thrown wS_X11_thrown wB_X11 wC_X11_thrown) (fun v hv => C_X11_thrown hL2 Dx9 v hv) hW2 (show (0 : Nat) < 2 by decide) rfl (Nat.le_of_ble_eq_true rfl) rfl rfl (fun y10 => ?_)
  refine SgP.go (pc' := 2162) (mi_iload dL_law_2160 rfl) ?_
  refine SgP.ite (fun h11 => ?_) (fun h11 => ?_)
  · refine SgP.go (pc' := 2167) (mi_icmpeq_t (tgt := 2167) dL_law_2162 (by decide) h11) ?_
    refine SgP.go (pc' := 2169) (mi_iload dL_law_2167 rfl) ?_
    refine SgP.ite (fun h12 => ?_) (fun h12 => ?_)
    · refine SgP.go (pc' := 2184) (mi_ifne_t (tgt := 2184) dL_law_2169 (by decide) h12) ?_
      refine SgP.go (pc' := 2238) (mi_goto (tgt := 2238) dL_law_2184 (by decide)) ?_
      refine SgP.go (pc' := 2238) (MiStep.weak (ls' := [(35, 0), (3, 0), (42, 0), (27, 0), (0, i), mi_un, mi_un, mi_un]) (mi_wk_y (mi_wk_y (mi_wk_y (mi_wk_y (mi_wk_y (mi_wk_n (mi_wk_n (mi_wk_y mi_wk_0))))))))) ?_
      refine SgP.go (pc' := 2241) (mi_iinc (z := 6) (ls1 := [(35, 0), (3, 0), (42, 0), (27, 0), (0, (mi_w (i + 6))), mi_un, mi_un, mi_un]) dL_law_2238 (by decide) rfl rfl rfl) ?_
      refine SgP.go (pc' := 23) (mi_goto (tgt := 23) dL_law_2241 (by decide)) ?_
      exact K (mi_w (i + 6)) Mx4 Dx5 Z1 Dx9
    · refine SgP.go (pc' := 2172) (mi_ifne_f (tgt := 2184) dL_law_2169 (by decide) h12) ?_
      refine SgP.go (pc' := 2173) (mi_aload_n dL_law_2172 rfl) ?_
      refine SgP.go (pc' := 2174) (mi_iconst (z := 0) dL_law_2173 rfl) ?_
      refine SgP.go (pc' := 2175) (mi_outld dL_law_2174) ?_
      refine SgP.go (pc' := 2177) (mi_iload dL_law_2175 rfl) ?_
      refine SgP.go (pc' := 2178) (mi_i2l dL_law_2177) ?_
      refine SgP.go (pc' := 2179) (mi_lcmp dL_law_2178) ?_
      refine SgP.ite (fun h13 => ?_) (fun h13 => ?_)
      · refine SgP.go (pc' := 2184) (mi_ifeq_t (tgt := 2184) dL_law_2179 (by decide) h13) ?_
        refine SgP.go (pc' := 2238) (mi_goto (tgt := 2238) dL_law_2184 (by decide)) ?_
        refine SgP.go (pc' := 2238) (MiStep.weak (ls' := [(35, 0), (3, 0), (42, 0), (27, 0), (0, i), mi_un, mi_un, mi_un]) (mi_wk_y (mi_wk_y (mi_wk_y (mi_wk_y (mi_wk_y (mi_wk_n (mi_wk_n (mi_wk_y mi_wk_0))))))))) ?_
        refine SgP.go (pc' := 2241) (mi_iinc (z := 6) (ls1 := [(35, 0), (3, 0), (42, 0), (27, 0), (0, (mi_w (i + 6))), mi_un, mi_un, mi_un]) dL_law_2238 (by decide) rfl rfl rfl) ?_
        refine SgP.go (pc' := 23) (mi_goto (tgt := 23) dL_law_2241 (by decide)) ?_
        exact K (mi_w (i + 6)) Mx4 Dx5 Z1 Dx9
      · refine SgP.go (pc' := 2182) (mi_ifeq_f (tgt := 2184) dL_law_2179 (by decide) h13) ?_
        refine SgP.go (pc' := 2183) (mi_iconst (z := 0) dL_law_2182 rfl) ?_
        exact SgP.ret (mi_ireturn dL_law_2183 rfl (Or.inr (Or.inl ⟨rfl, Or.inl rfl⟩)))
  · refine SgP.go (pc' := 2165) (mi_icmpeq_f (tgt := 2167) dL_law_2162 (by decide) h11) ?_
    refine SgP.go (pc' := 2166) (mi_iconst (z := 0) dL_law_2165 rfl) ?_
    exact SgP.ret (mi_ireturn dL_law_2166 rfl (Or.inr (Or.inl ⟨rfl, Or.inl rfl⟩)))
def B_L_case31 (L : Nat) (xs : Nat → Int32) (Z2 : MiZ) (k : Int → MiM → MiD → MiZ → MiD → Option (Int × (MiM × (MiM × MiM)))) (i : Int) (M0 : MiM) (D1 : MiD) (Z1 : MiZ) (D2 : MiD) : Option (Int × (MiM × (MiM × MiM))) := mi_bz1 (B_X10_waits D1 Z1) fun y1 Dx2 Zx3 => mi_b2 (B_X11_waits D2) fun y4 Dx5 => if y1 = y4 then (k (mi_w (i + 6)) M0 Dx2 Zx3 Dx5) else (some (0, (M0, ((Dx2, Zx3), (Dx5, Z2)))))
set_option maxRecDepth 20000 in
theorem S_L_case31 {L : Nat} {xs : Nat → Int32} {Z2 : MiZ} (hL2 : ML Z2) (hW2 : mi_cw mi_s2 Z2) {k : Int → MiM → MiD → MiZ → MiD → Option (Int × (MiM × (MiM × MiM)))} (K : ∀ (i : Int) (M0 : MiM) (D1 : MiD) (Z1 : MiZ) (D2 : MiD), SgP (mi_lP L xs) m_L_law 23 [(35, 0), (3, 0), (42, 0), (27, 0), (0, i), mi_un, mi_un, mi_un] [] (mi_cb M0 (D1, Z1) (D2, Z2)) (fun q => ((1, (0, q.1)), mi_cb q.2.1 q.2.2.1 q.2.2.2)) (k i M0 D1 Z1 D2)) (i : Int) (M0 : MiM) (D1 : MiD) (Z1 : MiZ) (D2 : MiD) (hL : CL Z1) (hW : mi_cw mi_s1 Z1) : SgP (mi_lP L xs) m_L_law 2187 [(35, 0), (3, 0), (42, 0), (27, 0), (0, i), mi_un, mi_un, mi_un] [] (mi_cb M0 (D1, Z1) (D2, Z2)) (fun q => ((1, (0, q.1)), mi_cb q.2.1 q.2.2.1 q.2.2.2)) (B_L_case31 L xs Z2 k i M0 D1 Z1 D2) := by
  unfold B_L_case31
  refine SgP.go (pc' := 2188) (mi_aload_n dL_law_2187 rfl) ?_
  refine SgP.callZ1 (t := 0) (pc' := 2191) (μ' := m_X10_waits) (args := [(3, 0)]) (mi_invV (n := 0) (r := 1) dL_law_2188 hC_1 (by omega) rfl rfl wN_X10_waits rfl ⟨by decide, by decide⟩ wL_L_219 wI_X10_waits wS_X10_waits wB_X10 wC_X10_waits) (fun v hv => C_X10_waits hL D1 v hv) hW (show (0 : Nat) < 2 by decide) rfl (Nat.le_of_ble_eq_true rfl) rfl rfl (fun y1 Dx2 Zx3 => ?_)
  refine SgP.go (pc' := 2192) (mi_aload_n dL_law_2191 rfl) ?_
  refine SgP.callD2 (t := 0) (pc' := 2195) (μ' := m_X11_waits) (args := [(42, 0)]) (mi_invV (n := 0) (r := 40) dL_law_2192 hC_40 (by omega) rfl rfl wN_X11_waits rfl ⟨by decide, by decide⟩ wL_L_222 wI_X11_waits wS_X11_waits wB_X11 wC_X11_waits) (fun v hv => C_X11_waits hL2 D2 v hv) hW2 (show (0 : Nat) < 2 by decide) rfl (Nat.le_of_ble_eq_true rfl) rfl rfl (fun y4 Dx5 => ?_)
  refine SgP.ite (fun h6 => ?_) (fun h6 => ?_)
  · refine SgP.go (pc' := 2238) (mi_icmpeq_t (tgt := 2238) dL_law_2195 (by decide) h6) ?_
    refine SgP.go (pc' := 2241) (mi_iinc (z := 6) (ls1 := [(35, 0), (3, 0), (42, 0), (27, 0), (0, (mi_w (i + 6))), mi_un, mi_un, mi_un]) dL_law_2238 (by decide) rfl rfl rfl) ?_
    refine SgP.go (pc' := 23) (mi_goto (tgt := 23) dL_law_2241 (by decide)) ?_
    exact K (mi_w (i + 6)) M0 Dx2 Zx3 Dx5
  · refine SgP.go (pc' := 2198) (mi_icmpeq_f (tgt := 2238) dL_law_2195 (by decide) h6) ?_
    refine SgP.go (pc' := 2199) (mi_iconst (z := 0) dL_law_2198 rfl) ?_
    exact SgP.ret (mi_ireturn dL_law_2199 rfl (Or.inr (Or.inl ⟨rfl, Or.inl rfl⟩)))
def B_L_case32 (L : Nat) (xs : Nat → Int32) (Z2 : MiZ) (k : Int → MiM → MiD → MiZ → MiD → Option (Int × (MiM × (MiM × MiM)))) (i : Int) (M0 : MiM) (D1 : MiD) (Z1 : MiZ) (D2 : MiD) : Option (Int × (MiM × (MiM × MiM))) := mi_bi (B_X10_deepest D1) fun y1 => mi_b2 (B_X11_deepest D2) fun y2 Dx3 => if y1 = y2 then (k (mi_w (i + 6)) M0 D1 Z1 Dx3) else (some (0, (M0, ((D1, Z1), (Dx3, Z2)))))
set_option maxRecDepth 20000 in
theorem S_L_case32 {L : Nat} {xs : Nat → Int32} {Z2 : MiZ} (hL2 : ML Z2) (hW2 : mi_cw mi_s2 Z2) {k : Int → MiM → MiD → MiZ → MiD → Option (Int × (MiM × (MiM × MiM)))} (K : ∀ (i : Int) (M0 : MiM) (D1 : MiD) (Z1 : MiZ) (D2 : MiD), SgP (mi_lP L xs) m_L_law 23 [(35, 0), (3, 0), (42, 0), (27, 0), (0, i), mi_un, mi_un, mi_un] [] (mi_cb M0 (D1, Z1) (D2, Z2)) (fun q => ((1, (0, q.1)), mi_cb q.2.1 q.2.2.1 q.2.2.2)) (k i M0 D1 Z1 D2)) (i : Int) (M0 : MiM) (D1 : MiD) (Z1 : MiZ) (D2 : MiD) (hL : CL Z1) (hW : mi_cw mi_s1 Z1) : SgP (mi_lP L xs) m_L_law 2200 [(35, 0), (3, 0), (42, 0), (27, 0), (0, i), mi_un, mi_un, mi_un] [] (mi_cb M0 (D1, Z1) (D2, Z2)) (fun q => ((1, (0, q.1)), mi_cb q.2.1 q.2.2.1 q.2.2.2)) (B_L_case32 L xs Z2 k i M0 D1 Z1 D2) := by
  unfold B_L_case32
  refine SgP.go (pc' := 2201) (mi_aload_n dL_law_2200 rfl) ?_
  refine SgP.callI1 (t := 0) (pc' := 2204) (μ' := m_X10_deepest) (args := [(3, 0)]) (mi_invV (n := 0) (r := 1) dL_law_2201 hC_1 (by omega) rfl rfl wN_X10_deepest rfl ⟨by decide, by decide⟩ wL_L_223 wI_X10_deepest wS_X10_deepest wB_X10 wC_X10_deepest) (fun v hv => C_X10_deepest hL D1 v hv) hW (show (0 : Nat) < 2 by decide) rfl (Nat.le_of_ble_eq_true rfl) rfl rfl (fun y1 => ?_)
  refine SgP.go (pc' := 2205) (mi_aload_n dL_law_2204 rfl) ?_
  refine SgP.callD2 (t := 0) (pc' := 2208) (μ' := m_X11_deepest) (args := [(42, 0)]) (mi_invV (n := 0) (r := 40) dL_law_2205 hC_40 (by omega) rfl rfl wN_X11_deepest rfl ⟨by decide, by decide⟩ wL_L_226 wI_X11_deepest wS_X11_deepest wB_X11 wC_X11_deepest) (fun v hv => C_X11_deepest hL2 D2 v hv) hW2 (show (0 : Nat) < 2 by decide) rfl (Nat.le_of_ble_eq_true rfl) rfl rfl (fun y2 Dx3 => ?_)
  refine SgP.ite (fun h4 => ?_) (fun h4 => ?_)
  · refine SgP.go (pc' := 2238) (mi_icmpeq_t (tgt := 2238) dL_law_2208 (by decide) h4) ?_
    refine SgP.go (pc' := 2241) (mi_iinc (z := 6) (ls1 := [(35, 0), (3, 0), (42, 0), (27, 0), (0, (mi_w (i + 6))), mi_un, mi_un, mi_un]) dL_law_2238 (by decide) rfl rfl rfl) ?_
    refine SgP.go (pc' := 23) (mi_goto (tgt := 23) dL_law_2241 (by decide)) ?_
    exact K (mi_w (i + 6)) M0 D1 Z1 Dx3
  · refine SgP.go (pc' := 2211) (mi_icmpeq_f (tgt := 2238) dL_law_2208 (by decide) h4) ?_
    refine SgP.go (pc' := 2212) (mi_iconst (z := 0) dL_law_2211 rfl) ?_
    exact SgP.ret (mi_ireturn dL_law_2212 rfl (Or.inr (Or.inl ⟨rfl, Or.inl rfl⟩)))
def B_L_case33 (L : Nat) (xs : Nat → Int32) (Z2 : MiZ) (k : Int → MiM → MiD → MiZ → MiD → Option (Int × (MiM × (MiM × MiM)))) (i : Int) (M0 : MiM) (D1 : MiD) (Z1 : MiZ) (D2 : MiD) : Option (Int × (MiM × (MiM × MiM))) := if 0 ≤ (mi_w (i + 1)) ∧ (mi_w (i + 1)) < (L : Int) then (mi_bi (B_X10_status D1 ((xs (mi_w (i + 1)).toNat).toInt)) fun y2 => mi_b2 (B_X11_status ((xs (mi_w (i + 1)).toNat).toInt) D2) fun y4 Dx5 => if y2 = y4 then (k (mi_w (i + 6)) M0 D1 Z1 Dx5) else (some (0, (M0, ((D1, Z1), (Dx5, Z2)))))) else none
set_option maxRecDepth 20000 in
theorem S_L_case33 {L : Nat} {xs : Nat → Int32} {Z2 : MiZ} (hL2 : ML Z2) (hW2 : mi_cw mi_s2 Z2) {k : Int → MiM → MiD → MiZ → MiD → Option (Int × (MiM × (MiM × MiM)))} (K : ∀ (i : Int) (M0 : MiM) (D1 : MiD) (Z1 : MiZ) (D2 : MiD), SgP (mi_lP L xs) m_L_law 23 [(35, 0), (3, 0), (42, 0), (27, 0), (0, i), mi_un, mi_un, mi_un] [] (mi_cb M0 (D1, Z1) (D2, Z2)) (fun q => ((1, (0, q.1)), mi_cb q.2.1 q.2.2.1 q.2.2.2)) (k i M0 D1 Z1 D2)) (i : Int) (M0 : MiM) (D1 : MiD) (Z1 : MiZ) (D2 : MiD) (hL : CL Z1) (hW : mi_cw mi_s1 Z1) : SgP (mi_lP L xs) m_L_law 2213 [(35, 0), (3, 0), (42, 0), (27, 0), (0, i), mi_un, mi_un, mi_un] [] (mi_cb M0 (D1, Z1) (D2, Z2)) (fun q => ((1, (0, q.1)), mi_cb q.2.1 q.2.2.1 q.2.2.2)) (B_L_case33 L xs Z2 k i M0 D1 Z1 D2) := by
  unfold B_L_case33
  refine SgP.go (pc' := 2214) (mi_aload_n dL_law_2213 rfl) ?_
  refine SgP.go (pc' := 2215) (mi_aload_n dL_law_2214 rfl) ?_
  refine SgP.go (pc' := 2217) (mi_iload dL_law_2215 rfl) ?_
  refine SgP.go (pc' := 2218) (mi_iconst (z := 1) dL_law_2217 rfl) ?_
  refine SgP.go (pc' := 2219) (mi_iadd dL_law_2218) ?_
  refine SgP.ck (fun hk1 => ?_)
  refine SgP.goP (pc' := 2220) (mi_scr dL_law_2219 hk1) ?_
  refine SgP.callI1 (t := 0) (pc' := 2223) (μ' := m_X10_status) (args := [(3, 0), (0, ((xs (mi_w (i + 1)).toNat).toInt))]) (mi_invV (n := 1) (r := 1) dL_law_2220 hC_1 (by omega) rfl rfl wN_X10_status rfl ⟨by decide, by decide⟩ wL_L_227 wI_X10_status wS_X10_status wB_X10 wC_X10_status) (fun v hv => C_X10_status hL ((xs (mi_w (i + 1)).toNat).toInt) D1 v hv) hW (show (0 : Nat) < 2 by decide) rfl (Nat.le_of_ble_eq_true rfl) rfl rfl (fun y2 => ?_)
  refine SgP.go (pc' := 2224) (mi_aload_n dL_law_2223 rfl) ?_
  refine SgP.go (pc' := 2225) (mi_aload_n dL_law_2224 rfl) ?_
  refine SgP.go (pc' := 2227) (mi_iload dL_law_2225 rfl) ?_
  refine SgP.go (pc' := 2228) (mi_iconst (z := 1) dL_law_2227 rfl) ?_
  refine SgP.go (pc' := 2229) (mi_iadd dL_law_2228) ?_
  refine SgP.goP (pc' := 2230) (mi_scr dL_law_2229 hk1) ?_
  refine SgP.callD2 (t := 0) (pc' := 2233) (μ' := m_X11_status) (args := [(42, 0), (0, ((xs (mi_w (i + 1)).toNat).toInt))]) (mi_invV (n := 1) (r := 40) dL_law_2230 hC_40 (by omega) rfl rfl wN_X11_status rfl ⟨by decide, by decide⟩ wL_L_230 wI_X11_status wS_X11_status wB_X11 wC_X11_status) (fun v hv => C_X11_status hL2 ((xs (mi_w (i + 1)).toNat).toInt) D2 v hv) hW2 (show (0 : Nat) < 2 by decide) rfl (Nat.le_of_ble_eq_true rfl) rfl rfl (fun y4 Dx5 => ?_)
  refine SgP.ite (fun h6 => ?_) (fun h6 => ?_)
  · refine SgP.go (pc' := 2238) (mi_icmpeq_t (tgt := 2238) dL_law_2233 (by decide) h6) ?_
    refine SgP.go (pc' := 2241) (mi_iinc (z := 6) (ls1 := [(35, 0), (3, 0), (42, 0), (27, 0), (0, (mi_w (i + 6))), mi_un, mi_un, mi_un]) dL_law_2238 (by decide) rfl rfl rfl) ?_
    refine SgP.go (pc' := 23) (mi_goto (tgt := 23) dL_law_2241 (by decide)) ?_
    exact K (mi_w (i + 6)) M0 D1 Z1 Dx5
  · refine SgP.go (pc' := 2236) (mi_icmpeq_f (tgt := 2238) dL_law_2233 (by decide) h6) ?_
    refine SgP.go (pc' := 2237) (mi_iconst (z := 0) dL_law_2236 rfl) ?_
    exact SgP.ret (mi_ireturn dL_law_2237 rfl (Or.inr (Or.inl ⟨rfl, Or.inl rfl⟩)))
noncomputable def B_L_loop (L : Nat) (xs : Nat → Int32) (Z2 : MiZ) : Nat → Int → MiM → MiD → MiZ → MiD → Option (Int × (MiM × (MiM × MiM)))
  | 0, _, _, _, _, _ => none
  | f + 1, i, M0, D1, Z1, D2 => if mi_w ((L : Int) - 6) < i then some (1, (M0, ((D1, Z1), (D2, Z2)))) else mi_req (CL Z1 ∧ mi_cw mi_s1 Z1) (if 0 ≤ i ∧ i < (L : Int) then (if (mi_and ((xs i.toNat).toInt) 63) = 0 then B_L_case0 L xs Z2 (B_L_loop L xs Z2 f) i M0 D1 Z1 D2 else if (mi_and ((xs i.toNat).toInt) 63) = 1 then B_L_case1 L xs Z2 (B_L_loop L xs Z2 f) i M0 D1 Z1 D2 else if (mi_and ((xs i.toNat).toInt) 63) = 2 then B_L_case2 L xs Z2 (B_L_loop L xs Z2 f) i M0 D1 Z1 D2 else if (mi_and ((xs i.toNat).toInt) 63) = 3 then B_L_case3 L xs Z2 (B_L_loop L xs Z2 f) i M0 D1 Z1 D2 else if (mi_and ((xs i.toNat).toInt) 63) = 4 then B_L_case4 L xs Z2 (B_L_loop L xs Z2 f) i M0 D1 Z1 D2 else if (mi_and ((xs i.toNat).toInt) 63) = 5 then B_L_case5 L xs Z2 (B_L_loop L xs Z2 f) i M0 D1 Z1 D2 else if (mi_and ((xs i.toNat).toInt) 63) = 6 then B_L_case6 L xs Z2 (B_L_loop L xs Z2 f) i M0 D1 Z1 D2 else if (mi_and ((xs i.toNat).toInt) 63) = 7 then B_L_case7 L xs Z2 (B_L_loop L xs Z2 f) i M0 D1 Z1 D2 else if (mi_and ((xs i.toNat).toInt) 63) = 8 then B_L_case8 L xs Z2 (B_L_loop L xs Z2 f) i M0 D1 Z1 D2 else if (mi_and ((xs i.toNat).toInt) 63) = 9 then B_L_case9 L xs Z2 (B_L_loop L xs Z2 f) i M0 D1 Z1 D2 else if (mi_and ((xs i.toNat).toInt) 63) = 10 then B_L_case10 L xs Z2 (B_L_loop L xs Z2 f) i M0 D1 Z1 D2 else if (mi_and ((xs i.toNat).toInt) 63) = 11 then B_L_case11 L xs Z2 (B_L_loop L xs Z2 f) i M0 D1 Z1 D2 else if (mi_and ((xs i.toNat).toInt) 63) = 12 then B_L_case12 L xs Z2 (B_L_loop L xs Z2 f) i M0 D1 Z1 D2 else if (mi_and ((xs i.toNat).toInt) 63) = 13 then B_L_case13 L xs Z2 (B_L_loop L xs Z2 f) i M0 D1 Z1 D2 else if (mi_and ((xs i.toNat).toInt) 63) = 14 then B_L_case14 L xs Z2 (B_L_loop L xs Z2 f) i M0 D1 Z1 D2 else if (mi_and ((xs i.toNat).toInt) 63) = 15 then B_L_case15 L xs Z2 (B_L_loop L xs Z2 f) i M0 D1 Z1 D2 else if (mi_and ((xs i.toNat).toInt) 63) = 16 then B_L_case16 L xs Z2 (B_L_loop L xs Z2 f) i M0 D1 Z1 D2 else if (mi_and ((xs i.toNat).toInt) 63) = 17 then B_L_case17 L xs Z2 (B_L_loop L xs Z2 f) i M0 D1 Z1 D2 else if (mi_and ((xs i.toNat).toInt) 63) = 18 then B_L_case18 L xs Z2 (B_L_loop L xs Z2 f) i M0 D1 Z1 D2 else if (mi_and ((xs i.toNat).toInt) 63) = 19 then B_L_case19 L xs Z2 (B_L_loop L xs Z2 f) i M0 D1 Z1 D2 else if (mi_and ((xs i.toNat).toInt) 63) = 20 then B_L_case20 L xs Z2 (B_L_loop L xs Z2 f) i M0 D1 Z1 D2 else if (mi_and ((xs i.toNat).toInt) 63) = 21 then B_L_case21 L xs Z2 (B_L_loop L xs Z2 f) i M0 D1 Z1 D2 else if (mi_and ((xs i.toNat).toInt) 63) = 22 then B_L_case22 L xs Z2 (B_L_loop L xs Z2 f) i M0 D1 Z1 D2 else if (mi_and ((xs i.toNat).toInt) 63) = 23 then B_L_case23 L xs Z2 (B_L_loop L xs Z2 f) i M0 D1 Z1 D2 else if (mi_and ((xs i.toNat).toInt) 63) = 24 then B_L_case24 L xs Z2 (B_L_loop L xs Z2 f) i M0 D1 Z1 D2 else if (mi_and ((xs i.toNat).toInt) 63) = 25 then B_L_case25 L xs Z2 (B_L_loop L xs Z2 f) i M0 D1 Z1 D2 else if (mi_and ((xs i.toNat).toInt) 63) = 26 then B_L_case26 L xs Z2 (B_L_loop L xs Z2 f) i M0 D1 Z1 D2 else if (mi_and ((xs i.toNat).toInt) 63) = 27 then B_L_case27 L xs Z2 (B_L_loop L xs Z2 f) i M0 D1 Z1 D2 else if (mi_and ((xs i.toNat).toInt) 63) = 28 then B_L_case28 L xs Z2 (B_L_loop L xs Z2 f) i M0 D1 Z1 D2 else if (mi_and ((xs i.toNat).toInt) 63) = 29 then B_L_case29 L xs Z2 (B_L_loop L xs Z2 f) i M0 D1 Z1 D2 else if (mi_and ((xs i.toNat).toInt) 63) = 30 then B_L_case30 L xs Z2 (B_L_loop L xs Z2 f) i M0 D1 Z1 D2 else if (mi_and ((xs i.toNat).toInt) 63) = 31 then B_L_case31 L xs Z2 (B_L_loop L xs Z2 f) i M0 D1 Z1 D2 else if (mi_and ((xs i.toNat).toInt) 63) = 32 then B_L_case32 L xs Z2 (B_L_loop L xs Z2 f) i M0 D1 Z1 D2 else if (mi_and ((xs i.toNat).toInt) 63) = 33 then B_L_case33 L xs Z2 (B_L_loop L xs Z2 f) i M0 D1 Z1 D2 else B_L_loop L xs Z2 f (mi_w (i + 6)) M0 D1 Z1 D2) else none)
set_option maxRecDepth 40000 in
theorem S_L_loop {L : Nat} {xs : Nat → Int32} {Z2 : MiZ} (hL3 : L ≤ 3072) (hL2 : ML Z2) (hW2 : mi_cw mi_s2 Z2) : ∀ (f : Nat) (i : Int) (M0 : MiM) (D1 : MiD) (Z1 : MiZ) (D2 : MiD), SgP (mi_lP L xs) m_L_law 23 [(35, 0), (3, 0), (42, 0), (27, 0), (0, i), mi_un, mi_un, mi_un] [] (mi_cb M0 (D1, Z1) (D2, Z2)) (fun q => ((1, (0, q.1)), mi_cb q.2.1 q.2.2.1 q.2.2.2)) (B_L_loop L xs Z2 f i M0 D1 Z1 D2) := by
  intro f
  induction f with
  | zero => intros; exact SgP.nope
  | succ f K =>
    intro i M0 D1 Z1 D2
    show SgP (mi_lP L xs) m_L_law 23 [(35, 0), (3, 0), (42, 0), (27, 0), (0, i), mi_un, mi_un, mi_un] [] (mi_cb M0 (D1, Z1) (D2, Z2)) (fun q => ((1, (0, q.1)), mi_cb q.2.1 q.2.2.1 q.2.2.2)) (if mi_w ((L : Int) - 6) < i then some (1, (M0, ((D1, Z1), (D2, Z2)))) else mi_req (CL Z1 ∧ mi_cw mi_s1 Z1) (if 0 ≤ i ∧ i < (L : Int) then (if (mi_and ((xs i.toNat).toInt) 63) = 0 then B_L_case0 L xs Z2 (B_L_loop L xs Z2 f) i M0 D1 Z1 D2 else if (mi_and ((xs i.toNat).toInt) 63) = 1 then B_L_case1 L xs Z2 (B_L_loop L xs Z2 f) i M0 D1 Z1 D2 else if (mi_and ((xs i.toNat).toInt) 63) = 2 then B_L_case2 L xs Z2 (B_L_loop L xs Z2 f) i M0 D1 Z1 D2 else if (mi_and ((xs i.toNat).toInt) 63) = 3 then B_L_case3 L xs Z2 (B_L_loop L xs Z2 f) i M0 D1 Z1 D2 else if (mi_and ((xs i.toNat).toInt) 63) = 4 then B_L_case4 L xs Z2 (B_L_loop L xs Z2 f) i M0 D1 Z1 D2 else if (mi_and ((xs i.toNat).toInt) 63) = 5 then B_L_case5 L xs Z2 (B_L_loop L xs Z2 f) i M0 D1 Z1 D2 else if (mi_and ((xs i.toNat).toInt) 63) = 6 then B_L_case6 L xs Z2 (B_L_loop L xs Z2 f) i M0 D1 Z1 D2 else if (mi_and ((xs i.toNat).toInt) 63) = 7 then B_L_case7 L xs Z2 (B_L_loop L xs Z2 f) i M0 D1 Z1 D2 else if (mi_and ((xs i.toNat).toInt) 63) = 8 then B_L_case8 L xs Z2 (B_L_loop L xs Z2 f) i M0 D1 Z1 D2 else if (mi_and ((xs i.toNat).toInt) 63) = 9 then B_L_case9 L xs Z2 (B_L_loop L xs Z2 f) i M0 D1 Z1 D2 else if (mi_and ((xs i.toNat).toInt) 63) = 10 then B_L_case10 L xs Z2 (B_L_loop L xs Z2 f) i M0 D1 Z1 D2 else if (mi_and ((xs i.toNat).toInt) 63) = 11 then B_L_case11 L xs Z2 (B_L_loop L xs Z2 f) i M0 D1 Z1 D2 else if (mi_and ((xs i.toNat).toInt) 63) = 12 then B_L_case12 L xs Z2 (B_L_loop L xs Z2 f) i M0 D1 Z1 D2 else if (mi_and ((xs i.toNat).toInt) 63) = 13 then B_L_case13 L xs Z2 (B_L_loop L xs Z2 f) i M0 D1 Z1 D2 else if (mi_and ((xs i.toNat).toInt) 63) = 14 then B_L_case14 L xs Z2 (B_L_loop L xs Z2 f) i M0 D1 Z1 D2 else if (mi_and ((xs i.toNat).toInt) 63) = 15 then B_L_case15 L xs Z2 (B_L_loop L xs Z2 f) i M0 D1 Z1 D2 else if (mi_and ((xs i.toNat).toInt) 63) = 16 then B_L_case16 L xs Z2 (B_L_loop L xs Z2 f) i M0 D1 Z1 D2 else if (mi_and ((xs i.toNat).toInt) 63) = 17 then B_L_case17 L xs Z2 (B_L_loop L xs Z2 f) i M0 D1 Z1 D2 else if (mi_and ((xs i.toNat).toInt) 63) = 18 then B_L_case18 L xs Z2 (B_L_loop L xs Z2 f) i M0 D1 Z1 D2 else if (mi_and ((xs i.toNat).toInt) 63) = 19 then B_L_case19 L xs Z2 (B_L_loop L xs Z2 f) i M0 D1 Z1 D2 else if (mi_and ((xs i.toNat).toInt) 63) = 20 then B_L_case20 L xs Z2 (B_L_loop L xs Z2 f) i M0 D1 Z1 D2 else if (mi_and ((xs i.toNat).toInt) 63) = 21 then B_L_case21 L xs Z2 (B_L_loop L xs Z2 f) i M0 D1 Z1 D2 else if (mi_and ((xs i.toNat).toInt) 63) = 22 then B_L_case22 L xs Z2 (B_L_loop L xs Z2 f) i M0 D1 Z1 D2 else if (mi_and ((xs i.toNat).toInt) 63) = 23 then B_L_case23 L xs Z2 (B_L_loop L xs Z2 f) i M0 D1 Z1 D2 else if (mi_and ((xs i.toNat).toInt) 63) = 24 then B_L_case24 L xs Z2 (B_L_loop L xs Z2 f) i M0 D1 Z1 D2 else if (mi_and ((xs i.toNat).toInt) 63) = 25 then B_L_case25 L xs Z2 (B_L_loop L xs Z2 f) i M0 D1 Z1 D2 else if (mi_and ((xs i.toNat).toInt) 63) = 26 then B_L_case26 L xs Z2 (B_L_loop L xs Z2 f) i M0 D1 Z1 D2 else if (mi_and ((xs i.toNat).toInt) 63) = 27 then B_L_case27 L xs Z2 (B_L_loop L xs Z2 f) i M0 D1 Z1 D2 else if (mi_and ((xs i.toNat).toInt) 63) = 28 then B_L_case28 L xs Z2 (B_L_loop L xs Z2 f) i M0 D1 Z1 D2 else if (mi_and ((xs i.toNat).toInt) 63) = 29 then B_L_case29 L xs Z2 (B_L_loop L xs Z2 f) i M0 D1 Z1 D2 else if (mi_and ((xs i.toNat).toInt) 63) = 30 then B_L_case30 L xs Z2 (B_L_loop L xs Z2 f) i M0 D1 Z1 D2 else if (mi_and ((xs i.toNat).toInt) 63) = 31 then B_L_case31 L xs Z2 (B_L_loop L xs Z2 f) i M0 D1 Z1 D2 else if (mi_and ((xs i.toNat).toInt) 63) = 32 then B_L_case32 L xs Z2 (B_L_loop L xs Z2 f) i M0 D1 Z1 D2 else if (mi_and ((xs i.toNat).toInt) 63) = 33 then B_L_case33 L xs Z2 (B_L_loop L xs Z2 f) i M0 D1 Z1 D2 else B_L_loop L xs Z2 f (mi_w (i + 6)) M0 D1 Z1 D2) else none))
    refine SgP.go (pc' := 25) (mi_iload dL_law_23 rfl) ?_
    refine SgP.go (pc' := 26) (mi_aload_n dL_law_25 rfl) ?_
    refine SgP.goP (pc' := 27) (mi_scrlen dL_law_26 hL3) ?_
    refine SgP.go (pc' := 29) (mi_bipush (z := 6) dL_law_27 rfl) ?_
    refine SgP.go (pc' := 30) (mi_isub dL_law_29) ?_
    refine SgP.ite (fun h1 => ?_) (fun h1 => ?_)
    · refine SgP.go (pc' := 2244) (mi_icmpgt_t (tgt := 2244) dL_law_30 (by decide) h1) ?_
      refine SgP.go (pc' := 2245) (mi_iconst (z := 1) dL_law_2244 rfl) ?_
      exact SgP.ret (mi_ireturn dL_law_2245 rfl (Or.inr (Or.inl ⟨rfl, Or.inr rfl⟩)))
    · refine SgP.go (pc' := 33) (mi_icmpgt_f (tgt := 2244) dL_law_30 (by decide) h1) ?_
      refine SgP.rq (fun hz => ?_)
      refine SgP.ck (fun h2 => ?_)
      refine SgP.go (pc' := 34) (mi_aload_n dL_law_33 rfl) ?_
      refine SgP.go (pc' := 36) (mi_iload dL_law_34 rfl) ?_
      refine SgP.goP (pc' := 37) (mi_scr dL_law_36 h2) ?_
      refine SgP.go (pc' := 39) (mi_bipush (z := 63) dL_law_37 rfl) ?_
      refine SgP.go (pc' := 40) (mi_iand dL_law_39) ?_
      refine SgP.ite (fun h11 => ?_) (fun h11 => ?_)
      · refine SgP.go (pc' := 192) (mi_tabIn (tgt := 192) dL_law_40 (by omega) (by omega) (by rw [h11]; rfl) (by decide)) ?_
        exact S_L_case0 hL2 hW2 K i M0 D1 Z1 D2 hz.1 hz.2
      · refine SgP.ite (fun h12 => ?_) (fun h12 => ?_)
        · refine SgP.go (pc' := 265) (mi_tabIn (tgt := 265) dL_law_40 (by omega) (by omega) (by rw [h12]; rfl) (by decide)) ?_
          exact S_L_case1 hL2 hW2 K i M0 D1 Z1 D2 hz.1 hz.2
        · refine SgP.ite (fun h13 => ?_) (fun h13 => ?_)
          · refine SgP.go (pc' := 333) (mi_tabIn (tgt := 333) dL_law_40 (by omega) (by omega) (by rw [h13]; rfl) (by decide)) ?_
            exact S_L_case2 hL2 hW2 K i M0 D1 Z1 D2 hz.1 hz.2
          · refine SgP.ite (fun h14 => ?_) (fun h14 => ?_)
            · refine SgP.go (pc' := 389) (mi_tabIn (tgt := 389) dL_law_40 (by omega) (by omega) (by rw [h14]; rfl) (by decide)) ?_
              exact S_L_case3 hL2 hW2 K i M0 D1 Z1 D2 hz.1 hz.2
            · refine SgP.ite (fun h15 => ?_) (fun h15 => ?_)
              · refine SgP.go (pc' := 402) (mi_tabIn (tgt := 402) dL_law_40 (by omega) (by omega) (by rw [h15]; rfl) (by decide)) ?_
                exact S_L_case4 hL2 hW2 K i M0 D1 Z1 D2 hz.1 hz.2
              · refine SgP.ite (fun h16 => ?_) (fun h16 => ?_)
                · refine SgP.go (pc' := 482) (mi_tabIn (tgt := 482) dL_law_40 (by omega) (by omega) (by rw [h16]; rfl) (by decide)) ?_
                  exact S_L_case5 hL2 hW2 K i M0 D1 Z1 D2 hz.1 hz.2
                · refine SgP.ite (fun h17 => ?_) (fun h17 => ?_)
                  · refine SgP.go (pc' := 550) (mi_tabIn (tgt := 550) dL_law_40 (by omega) (by omega) (by rw [h17]; rfl) (by decide)) ?_
                    exact S_L_case6 hL2 hW2 K i M0 D1 Z1 D2 hz.1 hz.2
                  · refine SgP.ite (fun h18 => ?_) (fun h18 => ?_)
                    · refine SgP.go (pc' := 606) (mi_tabIn (tgt := 606) dL_law_40 (by omega) (by omega) (by rw [h18]; rfl) (by decide)) ?_
                      exact S_L_case7 hL2 hW2 K i M0 D1 Z1 D2 hz.1 hz.2
                    · refine SgP.ite (fun h19 => ?_) (fun h19 => ?_)
                      · refine SgP.go (pc' := 662) (mi_tabIn (tgt := 662) dL_law_40 (by omega) (by omega) (by rw [h19]; rfl) (by decide)) ?_
                        exact S_L_case8 hL2 hW2 K i M0 D1 Z1 D2 hz.1 hz.2
                      · refine SgP.ite (fun h20 => ?_) (fun h20 => ?_)
                        · refine SgP.go (pc' := 718) (mi_tabIn (tgt := 718) dL_law_40 (by omega) (by omega) (by rw [h20]; rfl) (by decide)) ?_
                          exact S_L_case9 hL2 hW2 K i M0 D1 Z1 D2 hz.1 hz.2
                        · refine SgP.ite (fun h21 => ?_) (fun h21 => ?_)
                          · refine SgP.go (pc' := 762) (mi_tabIn (tgt := 762) dL_law_40 (by omega) (by omega) (by rw [h21]; rfl) (by decide)) ?_
                            exact S_L_case10 hL2 hW2 K i M0 D1 Z1 D2 hz.1 hz.2
                          · refine SgP.ite (fun h22 => ?_) (fun h22 => ?_)
                            · refine SgP.go (pc' := 806) (mi_tabIn (tgt := 806) dL_law_40 (by omega) (by omega) (by rw [h22]; rfl) (by decide)) ?_
                              exact S_L_case11 hL2 hW2 K i M0 D1 Z1 D2 hz.1 hz.2
                            · refine SgP.ite (fun h23 => ?_) (fun h23 => ?_)
                              · refine SgP.go (pc' := 850) (mi_tabIn (tgt := 850) dL_law_40 (by omega) (by omega) (by rw [h23]; rfl) (by decide)) ?_
                                exact S_L_case12 hL2 hW2 K i M0 D1 Z1 D2 hz.1 hz.2
                              · refine SgP.ite (fun h24 => ?_) (fun h24 => ?_)
                                · refine SgP.go (pc' := 906) (mi_tabIn (tgt := 906) dL_law_40 (by omega) (by omega) (by rw [h24]; rfl) (by decide)) ?_
                                  exact S_L_case13 hL2 hW2 K i M0 D1 Z1 D2 hz.1 hz.2
                                · refine SgP.ite (fun h25 => ?_) (fun h25 => ?_)
                                  · refine SgP.go (pc' := 962) (mi_tabIn (tgt := 962) dL_law_40 (by omega) (by omega) (by rw [h25]; rfl) (by decide)) ?_
                                    exact S_L_case14 hL2 hW2 K i M0 D1 Z1 D2 hz.1 hz.2
                                  · refine SgP.ite (fun h26 => ?_) (fun h26 => ?_)
                                    · refine SgP.go (pc' := 1030) (mi_tabIn (tgt := 1030) dL_law_40 (by omega) (by omega) (by rw [h26]; rfl) (by decide)) ?_
                                      exact S_L_case15 hL2 hW2 K i M0 D1 Z1 D2 hz.1 hz.2
                                    · refine SgP.ite (fun h27 => ?_) (fun h27 => ?_)
                                      · refine SgP.go (pc' := 1085) (mi_tabIn (tgt := 1085) dL_law_40 (by omega) (by omega) (by rw [h27]; rfl) (by decide)) ?_
                                        exact S_L_case16 hL2 hW2 K i M0 D1 Z1 D2 hz.1 hz.2
                                      · refine SgP.ite (fun h28 => ?_) (fun h28 => ?_)
                                        · refine SgP.go (pc' := 1165) (mi_tabIn (tgt := 1165) dL_law_40 (by omega) (by omega) (by rw [h28]; rfl) (by decide)) ?_
                                          exact S_L_case17 hL2 hW2 K i M0 D1 Z1 D2 hz.1 hz.2
                                        · refine SgP.ite (fun h29 => ?_) (fun h29 => ?_)
                                          · refine SgP.go (pc' := 1221) (mi_tabIn (tgt := 1221) dL_law_40 (by omega) (by omega) (by rw [h29]; rfl) (by decide)) ?_
                                            exact S_L_case18 hL2 hW2 K i M0 D1 Z1 D2 hz.1 hz.2
                                          · refine SgP.ite (fun h30 => ?_) (fun h30 => ?_)
                                            · refine SgP.go (pc' := 1289) (mi_tabIn (tgt := 1289) dL_law_40 (by omega) (by omega) (by rw [h30]; rfl) (by decide)) ?_
                                              exact S_L_case19 hL2 hW2 K i M0 D1 Z1 D2 hz.1 hz.2
                                            · refine SgP.ite (fun h31 => ?_) (fun h31 => ?_)
                                              · refine SgP.go (pc' := 1345) (mi_tabIn (tgt := 1345) dL_law_40 (by omega) (by omega) (by rw [h31]; rfl) (by decide)) ?_
                                                exact S_L_case20 hL2 hW2 K i M0 D1 Z1 D2 hz.1 hz.2
                                              · refine SgP.ite (fun h32 => ?_) (fun h32 => ?_)
                                                · refine SgP.go (pc' := 1413) (mi_tabIn (tgt := 1413) dL_law_40 (by omega) (by omega) (by rw [h32]; rfl) (by decide)) ?_
                                                  exact S_L_case21 hL2 hW2 K i M0 D1 Z1 D2 hz.1 hz.2
                                                · refine SgP.ite (fun h33 => ?_) (fun h33 => ?_)
                                                  · refine SgP.go (pc' := 1481) (mi_tabIn (tgt := 1481) dL_law_40 (by omega) (by omega) (by rw [h33]; rfl) (by decide)) ?_
                                                    exact S_L_case22 hL2 hW2 K i M0 D1 Z1 D2 hz.1 hz.2
                                                  · refine SgP.ite (fun h34 => ?_) (fun h34 => ?_)
                                                    · refine SgP.go (pc' := 1561) (mi_tabIn (tgt := 1561) dL_law_40 (by omega) (by omega) (by rw [h34]; rfl) (by decide)) ?_
                                                      exact S_L_case23 hL2 hW2 K i M0 D1 Z1 D2 hz.1 hz.2
                                                    · refine SgP.ite (fun h35 => ?_) (fun h35 => ?_)
                                                      · refine SgP.go (pc' := 1640) (mi_tabIn (tgt := 1640) dL_law_40 (by omega) (by omega) (by rw [h35]; rfl) (by decide)) ?_
                                                        exact S_L_case24 hL2 hW2 K i M0 D1 Z1 D2 hz.1 hz.2
                                                      · refine SgP.ite (fun h36 => ?_) (fun h36 => ?_)
                                                        · refine SgP.go (pc' := 1719) (mi_tabIn (tgt := 1719) dL_law_40 (by omega) (by omega) (by rw [h36]; rfl) (by decide)) ?_
                                                          exact S_L_case25 hL2 hW2 K i M0 D1 Z1 D2 hz.1 hz.2
                                                        · refine SgP.ite (fun h37 => ?_) (fun h37 => ?_)
                                                          · refine SgP.go (pc' := 1811) (mi_tabIn (tgt := 1811) dL_law_40 (by omega) (by omega) (by rw [h37]; rfl) (by decide)) ?_
                                                            exact S_L_case26 hL2 hW2 K i M0 D1 Z1 D2 hz.1 hz.2
                                                          · refine SgP.ite (fun h38 => ?_) (fun h38 => ?_)
                                                            · refine SgP.go (pc' := 1903) (mi_tabIn (tgt := 1903) dL_law_40 (by omega) (by omega) (by rw [h38]; rfl) (by decide)) ?_
                                                              exact S_L_case27 hL2 hW2 K i M0 D1 Z1 D2 hz.1 hz.2
                                                            · refine SgP.ite (fun h39 => ?_) (fun h39 => ?_)
                                                              · refine SgP.go (pc' := 1983) (mi_tabIn (tgt := 1983) dL_law_40 (by omega) (by omega) (by rw [h39]; rfl) (by decide)) ?_
                                                                exact S_L_case28 hL2 hW2 K i M0 D1 Z1 D2 hz.1 hz.2
                                                              · refine SgP.ite (fun h40 => ?_) (fun h40 => ?_)
                                                                · refine SgP.go (pc' := 2063) (mi_tabIn (tgt := 2063) dL_law_40 (by omega) (by omega) (by rw [h40]; rfl) (by decide)) ?_
                                                                  exact S_L_case29 hL2 hW2 K i M0 D1 Z1 D2 hz.1 hz.2
                                                                · refine SgP.ite (fun h41 => ?_) (fun h41 => ?_)
                                                                  · refine SgP.go (pc' := 2119) (mi_tabIn (tgt := 2119) dL_law_40 (by omega) (by omega) (by rw [h41]; rfl) (by decide)) ?_
                                                                    exact S_L_case30 hL2 hW2 K i M0 D1 Z1 D2 hz.1 hz.2
                                                                  · refine SgP.ite (fun h42 => ?_) (fun h42 => ?_)
                                                                    · refine SgP.go (pc' := 2187) (mi_tabIn (tgt := 2187) dL_law_40 (by omega) (by omega) (by rw [h42]; rfl) (by decide)) ?_
                                                                      exact S_L_case31 hL2 hW2 K i M0 D1 Z1 D2 hz.1 hz.2
                                                                    · refine SgP.ite (fun h43 => ?_) (fun h43 => ?_)
                                                                      · refine SgP.go (pc' := 2200) (mi_tabIn (tgt := 2200) dL_law_40 (by omega) (by omega) (by rw [h43]; rfl) (by decide)) ?_
                                                                        exact S_L_case32 hL2 hW2 K i M0 D1 Z1 D2 hz.1 hz.2
                                                                      · refine SgP.ite (fun h44 => ?_) (fun h44 => ?_)
                                                                        · refine SgP.go (pc' := 2213) (mi_tabIn (tgt := 2213) dL_law_40 (by omega) (by omega) (by rw [h44]; rfl) (by decide)) ?_
                                                                          exact S_L_case33 hL2 hW2 K i M0 D1 Z1 D2 hz.1 hz.2
                                                                        · refine SgP.go (pc' := 2238) (mi_tabOut (tgt := 2238) dL_law_40 (by omega) (by decide)) ?_
                                                                          refine SgP.go (pc' := 2241) (mi_iinc (z := 6) (ls1 := [(35, 0), (3, 0), (42, 0), (27, 0), (0, (mi_w (i + 6))), mi_un, mi_un, mi_un]) dL_law_2238 (by decide) rfl rfl rfl) ?_
                                                                          refine SgP.go (pc' := 23) (mi_goto (tgt := 23) dL_law_2241 (by decide)) ?_
                                                                          exact K (mi_w (i + 6)) M0 D1 Z1 D2
end MiH2
