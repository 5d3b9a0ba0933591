noncomputable section MiY1
abbrev m_J3_checkIndex_8e157 : MiI := (yJ3_checkIndex_8e157, cJ3_checkIndex_8e157, 3, (some .int), 1, none)
def B_J3_checkIndex_8e157 (D : MiD) (v0 : Int) (v1 : Int) : Option (Int) := if ¬ (v0 < 0) then (if v0 < v1 then (some v0) else none) else none
set_option maxRecDepth 20000 in
theorem S_J3_checkIndex_8e157 {D : MiD} {Z : MiZ} (hL : XL Z) (v0 v1 : Int) : Sg m_J3_checkIndex_8e157 0 [(0, v0), (0, v1), mi_un] [] (D, Z) (mi_LI 0 (D, Z)) (B_J3_checkIndex_8e157 D v0 v1) := by
  unfold B_J3_checkIndex_8e157
  refine Sg.go (pc' := 1) (mi_iload_n dJ3_checkIndex_8e157_0 rfl) ?_
  refine Sg.ck (fun hk1 => ?_)
  refine Sg.go (pc' := 4) (mi_iflt_f (tgt := 9) dJ3_checkIndex_8e157_1 (by decide) hk1) ?_
  refine Sg.go (pc' := 5) (mi_iload_n dJ3_checkIndex_8e157_4 rfl) ?_
  refine Sg.go (pc' := 6) (mi_iload_n dJ3_checkIndex_8e157_5 rfl) ?_
  refine Sg.ck (fun hk2 => ?_)
  refine Sg.go (pc' := 16) (mi_icmplt_t (tgt := 16) dJ3_checkIndex_8e157_6 (by decide) hk2) ?_
  refine Sg.go (pc' := 17) (mi_iload_n dJ3_checkIndex_8e157_16 rfl) ?_
  exact Sg.ret (mi_ireturn dJ3_checkIndex_8e157_17 rfl (Or.inl rfl))
theorem C_J3_checkIndex_8e157 {Z : MiZ} (hL : XL Z) (a0 a1 a2 : Int) (D : MiD) (b : Int) (hb : B_J3_checkIndex_8e157 D a0 a1 = some b) : MC m_J3_checkIndex_8e157 [(0, a0), (0, a1), (34, a2)] (D, Z) ((mi_LI 0 (D, Z)) b) := MC.ofSg (L := (mi_LI 0 (D, Z))) (μ := m_J3_checkIndex_8e157) (args := [(0, a0), (0, a1), (34, a2)]) (M := (D, Z)) rfl wP_J3 (Nat.le_of_ble_eq_true rfl) (show Sg m_J3_checkIndex_8e157 0 [(0, a0), (0, a1), (34, a2)] [] (D, Z) (mi_LI 0 (D, Z)) (B_J3_checkIndex_8e157 D a0 a1) from Sg.go (pc' := 0) (MiStep.weak (ls' := [(0, a0), (0, a1), mi_un]) (mi_wk_y (mi_wk_y (mi_wk_n mi_wk_0)))) (S_J3_checkIndex_8e157 hL a0 a1)) hb
abbrev m_X11_init : MiI := (yX11_init, cX11_init, 2, none, 1, none)
def B_X11_init_248 : Nat → Int → MiD → MiZ → Option (MiM)
  | 0, _, _, _ => none
  | f + 1, v1, D, Z => if 6 < v1 then (some (D, Z)) else (if 0 ≤ (Z.1 40 0 20) then (if 0 ≤ v1 ∧ v1 < 7 then (if 0 ≤ (Z.1 58 (Z.1 40 0 20) v1) then (mi_let (mi_st D 59 (Z.1 58 (Z.1 40 0 20) v1) 2 (-1)) fun D5 => B_X11_init_248 f (mi_w (v1 + 1)) D5 Z) else none) else none) else none)
set_option maxRecDepth 20000 in
theorem S_X11_init_248  : ∀ (f : Nat) (v1 : Int) (D : MiD) (Z : MiZ) (hL : XL Z), Sg m_X11_init 248 [(42, 0), (0, v1)] [] (D, Z) mi_LW (B_X11_init_248 f v1 D Z) := by
  intro f
  induction f with
  | zero => intros; exact Sg.nope
  | succ f K248 =>
    intro v1 D Z hL
    show Sg m_X11_init 248 [(42, 0), (0, v1)] [] (D, Z) mi_LW (if 6 < v1 then (some (D, Z)) else (if 0 ≤ (Z.1 40 0 20) then (if 0 ≤ v1 ∧ v1 < 7 then (if 0 ≤ (Z.1 58 (Z.1 40 0 20) v1) then (mi_let (mi_st D 59 (Z.1 58 (Z.1 40 0 20) v1) 2 (-1)) fun D5 => B_X11_init_248 f (mi_w (v1 + 1)) D5 Z) else none) else none) else none))
    refine Sg.go (pc' := 249) (mi_iload_n dX11_init_248 rfl) ?_
    refine Sg.go (pc' := 251) (mi_bipush (z := 6) dX11_init_249 rfl) ?_
    refine Sg.ite (fun h1 => ?_) (fun h1 => ?_)
    · refine Sg.go (pc' := 269) (mi_icmpgt_t (tgt := 269) dX11_init_251 (by decide) h1) ?_
      exact Sg.ret (mi_return dX11_init_269 rfl (0, 0))
    · refine Sg.go (pc' := 254) (mi_icmpgt_f (tgt := 269) dX11_init_251 (by decide) h1) ?_
      refine Sg.go (pc' := 255) (mi_aload_n dX11_init_254 rfl) ?_
      refine Sg.go (pc' := 258) (mi_gfA (t := 58) (v := (Z.1 40 0 20)) (r := 40) (k := 20) dX11_init_255 hC_40 (by decide) rfl wF_X11_56 (by omega) rfl rfl) ?_
      refine Sg.go (pc' := 259) (mi_iload_n dX11_init_258 rfl) ?_
      refine Sg.ck (fun hk2 => ?_)
      refine Sg.ck (fun hk3 => ?_)
      refine Sg.go (pc' := 260) (mi_aald (n := 7) (t := 59) (v := (Z.1 58 (Z.1 40 0 20) v1)) dX11_init_259 rfl hA_58 rfl (by omega) hk3 rfl rfl) ?_
      refine Sg.go (pc' := 261) (mi_iconst (z := 2) dX11_init_260 rfl) ?_
      refine Sg.go (pc' := 262) (mi_iconst (z := (-1)) dX11_init_261 rfl) ?_
      refine Sg.ck (fun hk4 => ?_)
      refine Sg.goM (pc' := 263) (mi_iast (n := 7) dX11_init_262 rfl rfl (by omega) (by decide)) ?_
      refine Sg.letD (fun D5 hD5 => ?_)
      refine Sg.go (pc' := 266) (mi_iinc (z := 1) (ls1 := [(42, 0), (0, (mi_w (v1 + 1)))]) dX11_init_263 (by decide) rfl rfl rfl) ?_
      refine Sg.go (pc' := 248) (mi_goto (tgt := 248) dX11_init_266 (by decide)) ?_
      exact K248 (mi_w (v1 + 1)) D5 Z hL
def B_X11_init_226 : Nat → Int → MiD → MiZ → Option (MiM)
  | 0, _, _, _ => none
  | f + 1, v1, D, Z => if 60 < v1 then (B_X11_init_248 mi_fuel 0 D Z) else (if 0 ≤ (Z.1 40 0 16) then (if 0 ≤ v1 ∧ v1 < 61 then (mi_let (mi_st D 52 (Z.1 40 0 16) v1 12) fun D4 => B_X11_init_226 f (mi_w (v1 + 1)) D4 Z) else none) else none)
set_option maxRecDepth 20000 in
theorem S_X11_init_226  : ∀ (f : Nat) (v1 : Int) (D : MiD) (Z : MiZ) (hL : XL Z), Sg m_X11_init 226 [(42, 0), (0, v1)] [] (D, Z) mi_LW (B_X11_init_226 f v1 D Z) := by
  intro f
  induction f with
  | zero => intros; exact Sg.nope
  | succ f K226 =>
    intro v1 D Z hL
    show Sg m_X11_init 226 [(42, 0), (0, v1)] [] (D, Z) mi_LW (if 60 < v1 then (B_X11_init_248 mi_fuel 0 D Z) else (if 0 ≤ (Z.1 40 0 16) then (if 0 ≤ v1 ∧ v1 < 61 then (mi_let (mi_st D 52 (Z.1 40 0 16) v1 12) fun D4 => B_X11_init_226 f (mi_w (v1 + 1)) D4 Z) else none) else none))
    refine Sg.go (pc' := 227) (mi_iload_n dX11_init_226 rfl) ?_
    refine Sg.go (pc' := 229) (mi_bipush (z := 60) dX11_init_227 rfl) ?_
    refine Sg.ite (fun h1 => ?_) (fun h1 => ?_)
    · refine Sg.go (pc' := 246) (mi_icmpgt_t (tgt := 246) dX11_init_229 (by decide) h1) ?_
      refine Sg.go (pc' := 247) (mi_iconst (z := 0) dX11_init_246 rfl) ?_
      refine Sg.go (pc' := 248) (mi_istore_n (ls1 := [(42, 0), (0, 0)]) dX11_init_247 (by decide) rfl) ?_
      exact S_X11_init_248 mi_fuel 0 D Z hL
    · refine Sg.go (pc' := 232) (mi_icmpgt_f (tgt := 246) dX11_init_229 (by decide) h1) ?_
      refine Sg.go (pc' := 233) (mi_aload_n dX11_init_232 rfl) ?_
      refine Sg.go (pc' := 236) (mi_gfA (t := 52) (v := (Z.1 40 0 16)) (r := 40) (k := 16) dX11_init_233 hC_40 (by decide) rfl wF_X11_42 (by omega) rfl rfl) ?_
      refine Sg.go (pc' := 237) (mi_iload_n dX11_init_236 rfl) ?_
      refine Sg.go (pc' := 239) (mi_bipush (z := 12) dX11_init_237 rfl) ?_
      refine Sg.ck (fun hk2 => ?_)
      refine Sg.ck (fun hk3 => ?_)
      refine Sg.goM (pc' := 240) (mi_iast (n := 61) dX11_init_239 rfl rfl (by omega) hk3) ?_
      refine Sg.letD (fun D4 hD4 => ?_)
      refine Sg.go (pc' := 243) (mi_iinc (z := 1) (ls1 := [(42, 0), (0, (mi_w (v1 + 1)))]) dX11_init_240 (by decide) rfl rfl rfl) ?_
      refine Sg.go (pc' := 226) (mi_goto (tgt := 226) dX11_init_243 (by decide)) ?_
      exact K226 (mi_w (v1 + 1)) D4 Z hL
def B_X11_init (D : MiD) (Z : MiZ) : Option (MiM) := if 0 ≤ Z.2 41 then mi_nl D Z 41 3 (fun D1 Z2 => mi_let (mi_st Z2.1 40 0 1 (Z.2 41), Z2.2) fun Z4 => mi_let (mi_st D1 40 0 5 (-1)) fun D5 => if 0 ≤ Z4.2 42 then mi_nl D5 Z4 42 500 (fun D6 Z7 => mi_let (mi_st Z7.1 40 0 8 (Z4.2 42), Z7.2) fun Z9 => if 0 ≤ Z9.2 43 then mi_nl D6 Z9 43 111 (fun D10 Z11 => mi_let (mi_st Z11.1 40 0 9 (Z9.2 43), Z11.2) fun Z13 => mi_req (∀ t, 0 ≤ Z13.2 t) (mi_mb ((mi_mkN (mi_mkN (fun M => mi_nw M 46 6) 45 46 24) 44 45 111) (D10, Z13)) fun D14 Z15 => mi_let (mi_st Z15.1 40 0 10 (Z13.2 44), Z15.2) fun Z17 => if 0 ≤ Z17.2 47 then mi_nl D14 Z17 47 9 (fun D18 Z19 => mi_let (mi_st Z19.1 40 0 12 (Z17.2 47), Z19.2) fun Z21 => if 0 ≤ Z21.2 48 then mi_nl D18 Z21 48 9 (fun D22 Z23 => mi_let (mi_st Z23.1 40 0 13 (Z21.2 48), Z23.2) fun Z25 => if 0 ≤ Z25.2 49 then mi_nl D22 Z25 49 8 (fun D26 Z27 => mi_let (mi_st Z27.1 40 0 14 (Z25.2 49), Z27.2) fun Z29 => mi_req (∀ t, 0 ≤ Z29.2 t) (mi_mb ((mi_mkN (fun M => mi_nw M 51 12) 50 51 9) (D26, Z29)) fun D30 Z31 => mi_let (mi_st Z31.1 40 0 15 (Z29.2 50), Z31.2) fun Z33 => if 0 ≤ Z33.2 52 then mi_nl D30 Z33 52 61 (fun D34 Z35 => mi_let (mi_st Z35.1 40 0 16 (Z33.2 52), Z35.2) fun Z37 => if 0 ≤ Z37.2 53 then mi_nl D34 Z37 53 61 (fun D38 Z39 => mi_let (mi_st Z39.1 40 0 17 (Z37.2 53), Z39.2) fun Z41 => mi_req (∀ t, 0 ≤ Z41.2 t) (mi_mb ((mi_mkN (fun M => mi_nw M 55 9) 54 55 61) (D38, Z41)) fun D42 Z43 => mi_let (mi_st Z43.1 40 0 18 (Z41.2 54), Z43.2) fun Z45 => mi_req (∀ t, 0 ≤ Z45.2 t) (mi_mb ((mi_mkN (fun M => mi_nw M 57 9) 56 57 61) (D42, Z45)) fun D46 Z47 => mi_let (mi_st Z47.1 40 0 19 (Z45.2 56), Z47.2) fun Z49 => mi_req (∀ t, 0 ≤ Z49.2 t) (mi_mb ((mi_mkN (fun M => mi_nw M 59 7) 58 59 7) (D46, Z49)) fun D50 Z51 => mi_let (mi_st Z51.1 40 0 20 (Z49.2 58), Z51.2) fun Z53 => if 0 ≤ Z53.2 60 then mi_nl D50 Z53 60 7 (fun D54 Z55 => mi_let (mi_st Z55.1 40 0 21 (Z53.2 60), Z55.2) fun Z57 => mi_req (∀ t, 0 ≤ Z57.2 t) (mi_mb ((mi_mkN (mi_mkN (fun M => mi_nw M 63 4) 62 63 10) 61 62 6) (D54, Z57)) fun D58 Z59 => mi_let (mi_st Z59.1 40 0 22 (Z57.2 61), Z59.2) fun Z61 => if 0 ≤ Z61.2 64 then mi_nl D58 Z61 64 8 (fun D62 Z63 => mi_let (mi_st Z63.1 40 0 23 (Z61.2 64), Z63.2) fun Z65 => if 0 ≤ Z65.2 65 then mi_nl D62 Z65 65 8 (fun D66 Z67 => mi_let (mi_st D66 65 (Z65.2 65) 0 0) fun D69 => mi_let (mi_st D69 65 (Z65.2 65) 1 (-1)) fun D70 => mi_let (mi_st D70 65 (Z65.2 65) 2 (-1)) fun D71 => mi_let (mi_st D71 65 (Z65.2 65) 3 0) fun D72 => mi_let (mi_st D72 65 (Z65.2 65) 4 0) fun D73 => mi_let (mi_st D73 65 (Z65.2 65) 5 0) fun D74 => mi_let (mi_st D74 65 (Z65.2 65) 6 0) fun D75 => mi_let (mi_st D75 65 (Z65.2 65) 7 0) fun D76 => mi_let (mi_st Z67.1 40 0 24 (Z65.2 65), Z67.2) fun Z77 => if 0 ≤ Z77.2 66 then mi_nl D76 Z77 66 2000 (fun D78 Z79 => mi_let (mi_st Z79.1 40 0 27 (Z77.2 66), Z79.2) fun Z81 => if 0 ≤ Z81.2 67 then mi_nl D78 Z81 67 547 (fun D82 Z83 => mi_let (mi_st Z83.1 40 0 28 (Z81.2 67), Z83.2) fun Z85 => B_X11_init_226 mi_fuel 0 D82 Z85) else none) else none) else none) else none)) else none)))) else none) else none)) else none) else none) else none)) else none) else none) else none
set_option maxRecDepth 20000 in
theorem S_X11_init  (D : MiD) (Z : MiZ) (hL : XL Z) : Sg m_X11_init 0 [(42, 0), mi_un] [] (D, Z) mi_LW (B_X11_init D Z) := by
  unfold B_X11_init
  refine Sg.go (pc' := 1) (mi_aload_n dX11_init_0 rfl) ?_
  refine Sg.go (pc' := 4) (mi_objInit dX11_init_1 wL_X11_1 wI_obj wC_obj (by decide) (by omega) (Nat.le_of_ble_eq_true rfl)) ?_
  refine Sg.go (pc' := 5) (mi_aload_n dX11_init_4 rfl) ?_
  refine Sg.go (pc' := 6) (mi_iconst (z := 3) dX11_init_5 rfl) ?_
  refine Sg.nl (pc' := 8) (r := 41) (n := 3) (mi_newarrI (r := 41) dX11_init_6 rfl wA_int rfl rfl (by decide)) (by decide) (fun hk3 D1 Z2 => ?_)
  have hL : XL Z2 := trivial
  refine Sg.goM (pc' := 11) (mi_pFA (r := 40) (k := 1) (t := 41) dX11_init_8 hC_40 (by decide) rfl rfl rfl rfl wF_X11_7 (by omega) rfl (Or.inr (Or.inr (Or.inr ⟨by show 2 ≤ (41 : Nat) + 2; omega, by first | exact Or.inl ⟨_, rfl⟩ | exact Or.inr ⟨_, rfl⟩⟩)))) ?_
  refine Sg.letZ (fun Z4 hZ4 => ?_)
  have hL : XL Z4 := trivial
  refine Sg.go (pc' := 12) (mi_aload_n dX11_init_11 rfl) ?_
  refine Sg.go (pc' := 13) (mi_iconst (z := (-1)) dX11_init_12 rfl) ?_
  refine Sg.goM (pc' := 16) (mi_pfD (r := 40) (k := 5) (t := 0) dX11_init_13 hC_40 (by decide) rfl rfl wF_X11_13 (by omega) rfl (by decide) (Or.inl ⟨rfl, rfl⟩)) ?_
  refine Sg.letD (fun D5 hD5 => ?_)
  refine Sg.go (pc' := 17) (mi_aload_n dX11_init_16 rfl) ?_
  refine Sg.go (pc' := 20) (mi_sipush (z := 500) dX11_init_17 rfl) ?_
  refine Sg.nl (pc' := 22) (r := 42) (n := 500) (mi_newarrI (r := 42) dX11_init_20 rfl wA_int rfl rfl (by decide)) (by decide) (fun hk8 D6 Z7 => ?_)
  have hL : XL Z7 := trivial
  refine Sg.goM (pc' := 25) (mi_pFA (r := 40) (k := 8) (t := 42) dX11_init_22 hC_40 (by decide) rfl rfl rfl rfl wF_X11_17 (by omega) rfl (Or.inr (Or.inr (Or.inr ⟨by show 2 ≤ (42 : Nat) + 2; omega, by first | exact Or.inl ⟨_, rfl⟩ | exact Or.inr ⟨_, rfl⟩⟩)))) ?_
  refine Sg.letZ (fun Z9 hZ9 => ?_)
  have hL : XL Z9 := trivial
  refine Sg.go (pc' := 26) (mi_aload_n dX11_init_25 rfl) ?_
  refine Sg.go (pc' := 28) (mi_bipush (z := 111) dX11_init_26 rfl) ?_
  refine Sg.nl (pc' := 30) (r := 43) (n := 111) (mi_newarrI (r := 43) dX11_init_28 rfl wA_int rfl rfl (by decide)) (by decide) (fun hk12 D10 Z11 => ?_)
  have hL : XL Z11 := trivial
  refine Sg.goM (pc' := 33) (mi_pFA (r := 40) (k := 9) (t := 43) dX11_init_30 hC_40 (by decide) rfl rfl rfl rfl wF_X11_20 (by omega) rfl (Or.inr (Or.inr (Or.inr ⟨by show 2 ≤ (43 : Nat) + 2; omega, by first | exact Or.inl ⟨_, rfl⟩ | exact Or.inr ⟨_, rfl⟩⟩)))) ?_
  refine Sg.letZ (fun Z13 hZ13 => ?_)
  have hL : XL Z13 := trivial
  refine Sg.go (pc' := 34) (mi_aload_n dX11_init_33 rfl) ?_
  refine Sg.go (pc' := 36) (mi_bipush (z := 111) dX11_init_34 rfl) ?_
  refine Sg.go (pc' := 38) (mi_bipush (z := 24) dX11_init_36 rfl) ?_
  refine Sg.go (pc' := 40) (mi_bipush (z := 6) dX11_init_38 rfl) ?_
  refine Sg.mna (r := 44) (cs := [111, 24, 6]) (cI := 9) (t := (.array .int)) dX11_init_40 rfl (by decide) (mi_clE wK_X11_23 (by decide +kernel)) (fun _ => rfl) rfl (mi_bdN (mi_bdN mi_bd1)) (fun gl => mi_mkNode (t := (.array .int)) (ix := 9) (jx := 8) rfl rfl rfl rfl rfl rfl (by simp [mi_aaL]) (fun _ _ h => h) rfl (by decide) (by decide) (mi_bdN mi_bd1) (mi_mkNode (t := .int) (ix := 8) (jx := 0) rfl rfl rfl rfl rfl rfl (by simp [mi_aaL]) (fun _ _ h => h) rfl (by decide) (by decide) mi_bd1 (mi_mkI (r := 46) (N := 6) rfl rfl rfl (by decide)))) (fun hk16 D14 Z15 => ?_)
  have hL : XL Z15 := trivial
  refine Sg.goM (pc' := 47) (mi_pFA (r := 40) (k := 10) (t := 44) dX11_init_44 hC_40 (by decide) rfl rfl rfl rfl wF_X11_25 (by omega) rfl (Or.inr (Or.inr (Or.inr ⟨by show 2 ≤ (44 : Nat) + 2; omega, by first | exact Or.inl ⟨_, rfl⟩ | exact Or.inr ⟨_, rfl⟩⟩)))) ?_
  refine Sg.letZ (fun Z17 hZ17 => ?_)
  have hL : XL Z17 := trivial
  refine Sg.go (pc' := 48) (mi_aload_n dX11_init_47 rfl) ?_
  refine Sg.go (pc' := 50) (mi_bipush (z := 9) dX11_init_48 rfl) ?_
  refine Sg.nl (pc' := 52) (r := 47) (n := 9) (mi_newarrI (r := 47) dX11_init_50 rfl wA_int rfl rfl (by decide)) (by decide) (fun hk20 D18 Z19 => ?_)
  have hL : XL Z19 := trivial
  refine Sg.goM (pc' := 55) (mi_pFA (r := 40) (k := 12) (t := 47) dX11_init_52 hC_40 (by decide) rfl rfl rfl rfl wF_X11_28 (by omega) rfl (Or.inr (Or.inr (Or.inr ⟨by show 2 ≤ (47 : Nat) + 2; omega, by first | exact Or.inl ⟨_, rfl⟩ | exact Or.inr ⟨_, rfl⟩⟩)))) ?_
  refine Sg.letZ (fun Z21 hZ21 => ?_)
  have hL : XL Z21 := trivial
  refine Sg.go (pc' := 56) (mi_aload_n dX11_init_55 rfl) ?_
  refine Sg.go (pc' := 58) (mi_bipush (z := 9) dX11_init_56 rfl) ?_
  refine Sg.nl (pc' := 60) (r := 48) (n := 9) (mi_newarrI (r := 48) dX11_init_58 rfl wA_int rfl rfl (by decide)) (by decide) (fun hk24 D22 Z23 => ?_)
  have hL : XL Z23 := trivial
  refine Sg.goM (pc' := 63) (mi_pFA (r := 40) (k := 13) (t := 48) dX11_init_60 hC_40 (by decide) rfl rfl rfl rfl wF_X11_31 (by omega) rfl (Or.inr (Or.inr (Or.inr ⟨by show 2 ≤ (48 : Nat) + 2; omega, by first | exact Or.inl ⟨_, rfl⟩ | exact Or.inr ⟨_, rfl⟩⟩)))) ?_
  refine Sg.letZ (fun Z25 hZ25 => ?_)
  have hL : XL Z25 := trivial
  refine Sg.go (pc' := 64) (mi_aload_n dX11_init_63 rfl) ?_
  refine Sg.go (pc' := 66) (mi_bipush (z := 8) dX11_init_64 rfl) ?_
  refine Sg.nl (pc' := 68) (r := 49) (n := 8) (mi_newarrI (r := 49) dX11_init_66 rfl wA_int rfl rfl (by decide)) (by decide) (fun hk28 D26 Z27 => ?_)
  have hL : XL Z27 := trivial
  refine Sg.goM (pc' := 71) (mi_pFA (r := 40) (k := 14) (t := 49) dX11_init_68 hC_40 (by decide) rfl rfl rfl rfl wF_X11_34 (by omega) rfl (Or.inr (Or.inr (Or.inr ⟨by show 2 ≤ (49 : Nat) + 2; omega, by first | exact Or.inl ⟨_, rfl⟩ | exact Or.inr ⟨_, rfl⟩⟩)))) ?_
  refine Sg.letZ (fun Z29 hZ29 => ?_)
  have hL : XL Z29 := trivial
  refine Sg.go (pc' := 72) (mi_aload_n dX11_init_71 rfl) ?_
  refine Sg.go (pc' := 74) (mi_bipush (z := 9) dX11_init_72 rfl) ?_
  refine Sg.go (pc' := 76) (mi_bipush (z := 12) dX11_init_74 rfl) ?_
  refine Sg.mna (r := 50) (cs := [9, 12]) (cI := 8) (t := .int) dX11_init_76 rfl (by decide) (mi_clE wK_X11_37 (by decide +kernel)) (fun _ => rfl) rfl (mi_bdN mi_bd1) (fun gl => mi_mkNode (t := .int) (ix := 8) (jx := 0) rfl rfl rfl rfl rfl rfl (by simp [mi_aaL]) (fun _ _ h => h) rfl (by decide) (by decide) mi_bd1 (mi_mkI (r := 51) (N := 12) rfl rfl rfl (by decide))) (fun hk32 D30 Z31 => ?_)
  have hL : XL Z31 := trivial
  refine Sg.goM (pc' := 83) (mi_pFA (r := 40) (k := 15) (t := 50) dX11_init_80 hC_40 (by decide) rfl rfl rfl rfl wF_X11_39 (by omega) rfl (Or.inr (Or.inr (Or.inr ⟨by show 2 ≤ (50 : Nat) + 2; omega, by first | exact Or.inl ⟨_, rfl⟩ | exact Or.inr ⟨_, rfl⟩⟩)))) ?_
  refine Sg.letZ (fun Z33 hZ33 => ?_)
  have hL : XL Z33 := trivial
  refine Sg.go (pc' := 84) (mi_aload_n dX11_init_83 rfl) ?_
  refine Sg.go (pc' := 86) (mi_bipush (z := 61) dX11_init_84 rfl) ?_
  refine Sg.nl (pc' := 88) (r := 52) (n := 61) (mi_newarrI (r := 52) dX11_init_86 rfl wA_int rfl rfl (by decide)) (by decide) (fun hk36 D34 Z35 => ?_)
  have hL : XL Z35 := trivial
  refine Sg.goM (pc' := 91) (mi_pFA (r := 40) (k := 16) (t := 52) dX11_init_88 hC_40 (by decide) rfl rfl rfl rfl wF_X11_42 (by omega) rfl (Or.inr (Or.inr (Or.inr ⟨by show 2 ≤ (52 : Nat) + 2; omega, by first | exact Or.inl ⟨_, rfl⟩ | exact Or.inr ⟨_, rfl⟩⟩)))) ?_
  refine Sg.letZ (fun Z37 hZ37 => ?_)
  have hL : XL Z37 := trivial
  refine Sg.go (pc' := 92) (mi_aload_n dX11_init_91 rfl) ?_
  refine Sg.go (pc' := 94) (mi_bipush (z := 61) dX11_init_92 rfl) ?_
  refine Sg.nl (pc' := 96) (r := 53) (n := 61) (mi_newarrI (r := 53) dX11_init_94 rfl wA_int rfl rfl (by decide)) (by decide) (fun hk40 D38 Z39 => ?_)
  have hL : XL Z39 := trivial
  refine Sg.goM (pc' := 99) (mi_pFA (r := 40) (k := 17) (t := 53) dX11_init_96 hC_40 (by decide) rfl rfl rfl rfl wF_X11_45 (by omega) rfl (Or.inr (Or.inr (Or.inr ⟨by show 2 ≤ (53 : Nat) + 2; omega, by first | exact Or.inl ⟨_, rfl⟩ | exact Or.inr ⟨_, rfl⟩⟩)))) ?_
  refine Sg.letZ (fun Z41 hZ41 => ?_)
  have hL : XL Z41 := trivial
  refine Sg.go (pc' := 100) (mi_aload_n dX11_init_99 rfl) ?_
  refine Sg.go (pc' := 102) (mi_bipush (z := 61) dX11_init_100 rfl) ?_
  refine Sg.go (pc' := 104) (mi_bipush (z := 9) dX11_init_102 rfl) ?_
  refine Sg.mna (r := 54) (cs := [61, 9]) (cI := 8) (t := .int) dX11_init_104 rfl (by decide) (mi_clE wK_X11_37 (by decide +kernel)) (fun _ => rfl) rfl (mi_bdN mi_bd1) (fun gl => mi_mkNode (t := .int) (ix := 8) (jx := 0) rfl rfl rfl rfl rfl rfl (by simp [mi_aaL]) (fun _ _ h => h) rfl (by decide) (by decide) mi_bd1 (mi_mkI (r := 55) (N := 9) rfl rfl rfl (by decide))) (fun hk44 D42 Z43 => ?_)
  have hL : XL Z43 := trivial
  refine Sg.goM (pc' := 111) (mi_pFA (r := 40) (k := 18) (t := 54) dX11_init_108 hC_40 (by decide) rfl rfl rfl rfl wF_X11_48 (by omega) rfl (Or.inr (Or.inr (Or.inr ⟨by show 2 ≤ (54 : Nat) + 2; omega, by first | exact Or.inl ⟨_, rfl⟩ | exact Or.inr ⟨_, rfl⟩⟩)))) ?_
  refine Sg.letZ (fun Z45 hZ45 => ?_)
  have hL : XL Z45 := trivial
  refine Sg.go (pc' := 112) (mi_aload_n dX11_init_111 rfl) ?_
  refine Sg.go (pc' := 114) (mi_bipush (z := 61) dX11_init_112 rfl) ?_
  refine Sg.go (pc' := 116) (mi_bipush (z := 9) dX11_init_114 rfl) ?_
  refine Sg.mna (r := 56) (cs := [61, 9]) (cI := 10) (t := .long) dX11_init_116 rfl (by decide) (mi_clE wK_X11_51 (by decide +kernel)) (fun _ => rfl) rfl (mi_bdN mi_bd1) (fun gl => mi_mkNode (t := .long) (ix := 10) (jx := 1) rfl rfl rfl rfl rfl rfl (by simp [mi_aaL]) (fun _ _ h => h) rfl (by decide) (by decide) mi_bd1 (mi_mkJ (r := 57) (N := 9) rfl rfl rfl (by decide))) (fun hk48 D46 Z47 => ?_)
  have hL : XL Z47 := trivial
  refine Sg.goM (pc' := 123) (mi_pFA (r := 40) (k := 19) (t := 56) dX11_init_120 hC_40 (by decide) rfl rfl rfl rfl wF_X11_53 (by omega) rfl (Or.inr (Or.inr (Or.inr ⟨by show 2 ≤ (56 : Nat) + 2; omega, by first | exact Or.inl ⟨_, rfl⟩ | exact Or.inr ⟨_, rfl⟩⟩)))) ?_
  refine Sg.letZ (fun Z49 hZ49 => ?_)
  have hL : XL Z49 := trivial
  refine Sg.go (pc' := 124) (mi_aload_n dX11_init_123 rfl) ?_
  refine Sg.go (pc' := 126) (mi_bipush (z := 7) dX11_init_124 rfl) ?_
  refine Sg.go (pc' := 128) (mi_bipush (z := 7) dX11_init_126 rfl) ?_
  refine Sg.mna (r := 58) (cs := [7, 7]) (cI := 8) (t := .int) dX11_init_128 rfl (by decide) (mi_clE wK_X11_37 (by decide +kernel)) (fun _ => rfl) rfl (mi_bdN mi_bd1) (fun gl => mi_mkNode (t := .int) (ix := 8) (jx := 0) rfl rfl rfl rfl rfl rfl (by simp [mi_aaL]) (fun _ _ h => h) rfl (by decide) (by decide) mi_bd1 (mi_mkI (r := 59) (N := 7) rfl rfl rfl (by decide))) (fun hk52 D50 Z51 => ?_)
  have hL : XL Z51 := trivial
  refine Sg.goM (pc' := 135) (mi_pFA (r := 40) (k := 20) (t := 58) dX11_init_132 hC_40 (by decide) rfl rfl rfl rfl wF_X11_56 (by omega) rfl (Or.inr (Or.inr (Or.inr ⟨by show 2 ≤ (58 : Nat) + 2; omega, by first | exact Or.inl ⟨_, rfl⟩ | exact Or.inr ⟨_, rfl⟩⟩)))) ?_
  refine Sg.letZ (fun Z53 hZ53 => ?_)
  have hL : XL Z53 := trivial
  refine Sg.go (pc' := 136) (mi_aload_n dX11_init_135 rfl) ?_
  refine Sg.go (pc' := 138) (mi_bipush (z := 7) dX11_init_136 rfl) ?_
  refine Sg.nl (pc' := 140) (r := 60) (n := 7) (mi_newarrJ (r := 60) dX11_init_138 rfl wA_long rfl rfl (by decide)) (by decide) (fun hk56 D54 Z55 => ?_)
  have hL : XL Z55 := trivial
  refine Sg.goM (pc' := 143) (mi_pFA (r := 40) (k := 21) (t := 60) dX11_init_140 hC_40 (by decide) rfl rfl rfl rfl wF_X11_59 (by omega) rfl (Or.inr (Or.inr (Or.inr ⟨by show 2 ≤ (60 : Nat) + 2; omega, by first | exact Or.inl ⟨_, rfl⟩ | exact Or.inr ⟨_, rfl⟩⟩)))) ?_
  refine Sg.letZ (fun Z57 hZ57 => ?_)
  have hL : XL Z57 := trivial
  refine Sg.go (pc' := 144) (mi_aload_n dX11_init_143 rfl) ?_
  refine Sg.go (pc' := 146) (mi_bipush (z := 6) dX11_init_144 rfl) ?_
  refine Sg.go (pc' := 148) (mi_bipush (z := 10) dX11_init_146 rfl) ?_
  refine Sg.go (pc' := 149) (mi_iconst (z := 4) dX11_init_148 rfl) ?_
  refine Sg.mna (r := 61) (cs := [6, 10, 4]) (cI := 9) (t := (.array .int)) dX11_init_149 rfl (by decide) (mi_clE wK_X11_23 (by decide +kernel)) (fun _ => rfl) rfl (mi_bdN (mi_bdN mi_bd1)) (fun gl => mi_mkNode (t := (.array .int)) (ix := 9) (jx := 8) rfl rfl rfl rfl rfl rfl (by simp [mi_aaL]) (fun _ _ h => h) rfl (by decide) (by decide) (mi_bdN mi_bd1) (mi_mkNode (t := .int) (ix := 8) (jx := 0) rfl rfl rfl rfl rfl rfl (by simp [mi_aaL]) (fun _ _ h => h) rfl (by decide) (by decide) mi_bd1 (mi_mkI (r := 63) (N := 4) rfl rfl rfl (by decide)))) (fun hk60 D58 Z59 => ?_)
  have hL : XL Z59 := trivial
  refine Sg.goM (pc' := 156) (mi_pFA (r := 40) (k := 22) (t := 61) dX11_init_153 hC_40 (by decide) rfl rfl rfl rfl wF_X11_63 (by omega) rfl (Or.inr (Or.inr (Or.inr ⟨by show 2 ≤ (61 : Nat) + 2; omega, by first | exact Or.inl ⟨_, rfl⟩ | exact Or.inr ⟨_, rfl⟩⟩)))) ?_
  refine Sg.letZ (fun Z61 hZ61 => ?_)
  have hL : XL Z61 := trivial
  refine Sg.go (pc' := 157) (mi_aload_n dX11_init_156 rfl) ?_
  refine Sg.go (pc' := 159) (mi_bipush (z := 8) dX11_init_157 rfl) ?_
  refine Sg.nl (pc' := 161) (r := 64) (n := 8) (mi_newarrI (r := 64) dX11_init_159 rfl wA_int rfl rfl (by decide)) (by decide) (fun hk64 D62 Z63 => ?_)
  have hL : XL Z63 := trivial
  refine Sg.goM (pc' := 164) (mi_pFA (r := 40) (k := 23) (t := 64) dX11_init_161 hC_40 (by decide) rfl rfl rfl rfl wF_X11_66 (by omega) rfl (Or.inr (Or.inr (Or.inr ⟨by show 2 ≤ (64 : Nat) + 2; omega, by first | exact Or.inl ⟨_, rfl⟩ | exact Or.inr ⟨_, rfl⟩⟩)))) ?_
  refine Sg.letZ (fun Z65 hZ65 => ?_)
  have hL : XL Z65 := trivial
  refine Sg.go (pc' := 165) (mi_aload_n dX11_init_164 rfl) ?_
  refine Sg.go (pc' := 167) (mi_bipush (z := 8) dX11_init_165 rfl) ?_
  refine Sg.nl (pc' := 169) (r := 65) (n := 8) (mi_newarrI (r := 65) dX11_init_167 rfl wA_int rfl rfl (by decide)) (by decide) (fun hk68 D66 Z67 => ?_)
  have hL : XL Z67 := trivial
  refine Sg.go (pc' := 170) (mi_dup dX11_init_169 (show (67 : Nat) ≠ 1 by decide)) ?_
  refine Sg.go (pc' := 171) (mi_iconst (z := 0) dX11_init_170 rfl) ?_
  refine Sg.go (pc' := 172) (mi_iconst (z := 0) dX11_init_171 rfl) ?_
  refine Sg.goM (pc' := 173) (mi_iast (n := 8) dX11_init_172 rfl rfl (by omega) (by decide)) ?_
  refine Sg.letD (fun D69 hD69 => ?_)
  refine Sg.go (pc' := 174) (mi_dup dX11_init_173 (show (67 : Nat) ≠ 1 by decide)) ?_
  refine Sg.go (pc' := 175) (mi_iconst (z := 1) dX11_init_174 rfl) ?_
  refine Sg.go (pc' := 176) (mi_iconst (z := (-1)) dX11_init_175 rfl) ?_
  refine Sg.goM (pc' := 177) (mi_iast (n := 8) dX11_init_176 rfl rfl (by omega) (by decide)) ?_
  refine Sg.letD (fun D70 hD70 => ?_)
  refine Sg.go (pc' := 178) (mi_dup dX11_init_177 (show (67 : Nat) ≠ 1 by decide)) ?_
  refine Sg.go (pc' := 179) (mi_iconst (z := 2) dX11_init_178 rfl) ?_
  refine Sg.go (pc' := 180) (mi_iconst (z := (-1)) dX11_init_179 rfl) ?_
  refine Sg.goM (pc' := 181) (mi_iast (n := 8) dX11_init_180 rfl rfl (by omega) (by decide)) ?_
  refine Sg.letD (fun D71 hD71 => ?_)
  refine Sg.go (pc' := 182) (mi_dup dX11_init_181 (show (67 : Nat) ≠ 1 by decide)) ?_
  refine Sg.go (pc' := 183) (mi_iconst (z := 3) dX11_init_182 rfl) ?_
  refine Sg.go (pc' := 184) (mi_iconst (z := 0) dX11_init_183 rfl) ?_
  refine Sg.goM (pc' := 185) (mi_iast (n := 8) dX11_init_184 rfl rfl (by omega) (by decide)) ?_
  refine Sg.letD (fun D72 hD72 => ?_)
  refine Sg.go (pc' := 186) (mi_dup dX11_init_185 (show (67 : Nat) ≠ 1 by decide)) ?_
  refine Sg.go (pc' := 187) (mi_iconst (z := 4) dX11_init_186 rfl) ?_
  refine Sg.go (pc' := 188) (mi_iconst (z := 0) dX11_init_187 rfl) ?_
  refine Sg.goM (pc' := 189) (mi_iast (n := 8) dX11_init_188 rfl rfl (by omega) (by decide)) ?_
  refine Sg.letD (fun D73 hD73 => ?_)
  refine Sg.go (pc' := 190) (mi_dup dX11_init_189 (show (67 : Nat) ≠ 1 by decide)) ?_
  refine Sg.go (pc' := 191) (mi_iconst (z := 5) dX11_init_190 rfl) ?_
  refine Sg.go (pc' := 192) (mi_iconst (z := 0) dX11_init_191 rfl) ?_
  refine Sg.goM (pc' := 193) (mi_iast (n := 8) dX11_init_192 rfl rfl (by omega) (by decide)) ?_
  refine Sg.letD (fun D74 hD74 => ?_)
  refine Sg.go (pc' := 194) (mi_dup dX11_init_193 (show (67 : Nat) ≠ 1 by decide)) ?_
  refine Sg.go (pc' := 196) (mi_bipush (z := 6) dX11_init_194 rfl) ?_
  refine Sg.go (pc' := 197) (mi_iconst (z := 0) dX11_init_196 rfl) ?_
  refine Sg.goM (pc' := 198) (mi_iast (n := 8) dX11_init_197 rfl rfl (by omega) (by decide)) ?_
  refine Sg.letD (fun D75 hD75 => ?_)
  refine Sg.go (pc' := 199) (mi_dup dX11_init_198 (show (67 : Nat) ≠ 1 by decide)) ?_
  refine Sg.go (pc' := 201) (mi_bipush (z := 7) dX11_init_199 rfl) ?_
  refine Sg.go (pc' := 202) (mi_iconst (z := 0) dX11_init_201 rfl) ?_
  refine Sg.goM (pc' := 203) (mi_iast (n := 8) dX11_init_202 rfl rfl (by omega) (by decide)) ?_
  refine Sg.letD (fun D76 hD76 => ?_)
  refine Sg.goM (pc' := 206) (mi_pFA (r := 40) (k := 24) (t := 65) dX11_init_203 hC_40 (by decide) rfl rfl rfl rfl wF_X11_69 (by omega) rfl (Or.inr (Or.inr (Or.inr ⟨by show 2 ≤ (65 : Nat) + 2; omega, by first | exact Or.inl ⟨_, rfl⟩ | exact Or.inr ⟨_, rfl⟩⟩)))) ?_
  refine Sg.letZ (fun Z77 hZ77 => ?_)
  have hL : XL Z77 := trivial
  refine Sg.go (pc' := 207) (mi_aload_n dX11_init_206 rfl) ?_
  refine Sg.go (pc' := 210) (mi_sipush (z := 2000) dX11_init_207 rfl) ?_
  refine Sg.nl (pc' := 212) (r := 66) (n := 2000) (mi_newarrI (r := 66) dX11_init_210 rfl wA_int rfl rfl (by decide)) (by decide) (fun hk80 D78 Z79 => ?_)
  have hL : XL Z79 := trivial
  refine Sg.goM (pc' := 215) (mi_pFA (r := 40) (k := 27) (t := 66) dX11_init_212 hC_40 (by decide) rfl rfl rfl rfl wF_X11_72 (by omega) rfl (Or.inr (Or.inr (Or.inr ⟨by show 2 ≤ (66 : Nat) + 2; omega, by first | exact Or.inl ⟨_, rfl⟩ | exact Or.inr ⟨_, rfl⟩⟩)))) ?_
  refine Sg.letZ (fun Z81 hZ81 => ?_)
  have hL : XL Z81 := trivial
  refine Sg.go (pc' := 216) (mi_aload_n dX11_init_215 rfl) ?_
  refine Sg.go (pc' := 219) (mi_sipush (z := 547) dX11_init_216 rfl) ?_
  refine Sg.nl (pc' := 221) (r := 67) (n := 547) (mi_newarrJ (r := 67) dX11_init_219 rfl wA_long rfl rfl (by decide)) (by decide) (fun hk84 D82 Z83 => ?_)
  have hL : XL Z83 := trivial
  refine Sg.goM (pc' := 224) (mi_pFA (r := 40) (k := 28) (t := 67) dX11_init_221 hC_40 (by decide) rfl rfl rfl rfl wF_X11_75 (by omega) rfl (Or.inr (Or.inr (Or.inr ⟨by show 2 ≤ (67 : Nat) + 2; omega, by first | exact Or.inl ⟨_, rfl⟩ | exact Or.inr ⟨_, rfl⟩⟩)))) ?_
  refine Sg.letZ (fun Z85 hZ85 => ?_)
  have hL : XL Z85 := trivial
  refine Sg.go (pc' := 225) (mi_iconst (z := 0) dX11_init_224 rfl) ?_
  refine Sg.go (pc' := 226) (mi_istore_n (ls1 := [(42, 0), (0, 0)]) dX11_init_225 (by decide) rfl) ?_
  exact S_X11_init_226 mi_fuel 0 D82 Z85 hL
theorem C_X11_init {Z : MiZ} (hL : XL Z) (D : MiD) (b : MiM) (hb : B_X11_init D Z = some b) : MC m_X11_init [(42, 0)] (D, Z) (mi_LW b) := MC.ofSg (L := mi_LW) (μ := m_X11_init) (args := [(42, 0)]) (M := (D, Z)) rfl wP_X11 (Nat.le_of_ble_eq_true rfl) (show Sg m_X11_init 0 [(42, 0), mi_un] [] (D, Z) mi_LW (B_X11_init D Z) from S_X11_init D Z hL) hb
abbrev m_J0_checkIndex_df160 : MiI := (yJ0_checkIndex_df160, cJ0_checkIndex_df160, 2, none, 2, none)
def B_J0_checkIndex_df160 (D : MiD) (v0 : Int) (v1 : Int) : Option (Unit) := mi_bi (B_J3_checkIndex_8e157 D v0 v1) fun y1 => some ()
set_option maxRecDepth 20000 in
theorem S_J0_checkIndex_df160 {D : MiD} {Z : MiZ} (hL : XL Z) (v0 v1 : Int) : Sg m_J0_checkIndex_df160 0 [(0, v0), (0, v1)] [] (D, Z) (mi_LU (D, Z)) (B_J0_checkIndex_df160 D v0 v1) := by
  unfold B_J0_checkIndex_df160
  refine Sg.go (pc' := 1) (mi_iload_n dJ0_checkIndex_df160_0 rfl) ?_
  refine Sg.go (pc' := 2) (mi_iload_n dJ0_checkIndex_df160_1 rfl) ?_
  refine Sg.goOr dJ0_checkIndex_df160_2 wF_J0_1053 ?_ ?_
  · refine Sg.callI (pc' := 8) (t := 0) (μ' := m_J3_checkIndex_8e157) (args := [(0, v0), (0, v1), (34, (-1))]) (mi_invS (n := 3) dJ0_checkIndex_df160_5 rfl wN_J3_checkIndex_8e157 rfl ⟨by decide, by decide⟩ wL_J0_1059 wT_J3_checkIndex_8e157 wB_J3 wC_J3_checkIndex_8e157) (fun v hv => C_J3_checkIndex_8e157 hL v0 v1 (-1) D v hv) (Nat.le_of_ble_eq_true rfl) rfl rfl (fun y1 => ?_)
    refine Sg.go (pc' := 9) (mi_pop dJ0_checkIndex_df160_8 (show (0 : Nat) ≠ 1 by decide)) ?_
    exact Sg.ret (mi_return dJ0_checkIndex_df160_9 rfl (0, 0))
  · refine Sg.callI (pc' := 8) (t := 0) (μ' := m_J3_checkIndex_8e157) (args := [(0, v0), (0, v1), (34, 0)]) (mi_invS (n := 3) dJ0_checkIndex_df160_5 rfl wN_J3_checkIndex_8e157 rfl ⟨by decide, by decide⟩ wL_J0_1059 wT_J3_checkIndex_8e157 wB_J3 wC_J3_checkIndex_8e157) (fun v hv => C_J3_checkIndex_8e157 hL v0 v1 0 D v hv) (Nat.le_of_ble_eq_true rfl) rfl rfl (fun y2 => ?_)
    refine Sg.go (pc' := 9) (mi_pop dJ0_checkIndex_df160_8 (show (0 : Nat) ≠ 1 by decide)) ?_
    exact Sg.ret (mi_return dJ0_checkIndex_df160_9 rfl (0, 0))
theorem C_J0_checkIndex_df160 {Z : MiZ} (hL : XL Z) (a0 a1 : Int) (D : MiD) (b : Unit) (hb : B_J0_checkIndex_df160 D a0 a1 = some b) : MC m_J0_checkIndex_df160 [(0, a0), (0, a1)] (D, Z) ((mi_LU (D, Z)) b) := MC.ofSg (L := (mi_LU (D, Z))) (μ := m_J0_checkIndex_df160) (args := [(0, a0), (0, a1)]) (M := (D, Z)) rfl wP_J0 (Nat.le_of_ble_eq_true rfl) (show Sg m_J0_checkIndex_df160 0 [(0, a0), (0, a1)] [] (D, Z) (mi_LU (D, Z)) (B_J0_checkIndex_df160 D a0 a1) from S_J0_checkIndex_df160 hL a0 a1) hb
abbrev m_J1_charAt_3b067 : MiI := (yJ1_charAt_3b067, cJ1_charAt_3b067, 2, (some .char), 3, none)
def B_J1_charAt_3b067 (D : MiD) (v0 : Int) (v1 : Int) : Option (Int) := mi_bi (B_J0_checkIndex_df160 D v1 (mi_sl v0)) fun _ => if 0 ≤ v1 ∧ v1 < mi_sl v0 then (if 0 ≤ (mi_c (mi_and (mi_sc v0 v1) 255)) ∧ (mi_c (mi_and (mi_sc v0 v1) 255)) < 65536 then (some (mi_c (mi_and (mi_sc v0 v1) 255))) else none) else none
set_option maxRecDepth 20000 in
theorem S_J1_charAt_3b067 {D : MiD} {Z : MiZ} (hL : XL Z) (v0 v1 : Int) : (0 ≤ v0 ∧ v0 < 64) → Sg m_J1_charAt_3b067 0 [(33, v0), (0, v1)] [] (D, Z) (mi_LI 0 (D, Z)) (B_J1_charAt_3b067 D v0 v1) := by
  intro hb0
  unfold B_J1_charAt_3b067
  refine Sg.go (pc' := 1) (mi_iload_n dJ1_charAt_3b067_0 rfl) ?_
  refine Sg.go (pc' := 2) (mi_aload_n dJ1_charAt_3b067_1 rfl) ?_
  refine Sg.go (pc' := 3) (mi_slen dJ1_charAt_3b067_2 (by omega)) ?_
  refine Sg.callU (pc' := 6) (μ' := m_J0_checkIndex_df160) (args := [(0, v1), (0, (mi_sl v0))]) (mi_invS (n := 2) dJ1_charAt_3b067_3 rfl wN_J0_checkIndex_df160 rfl ⟨by decide, by decide⟩ wL_J1_9 wT_J0_checkIndex_df160 wB_J0 wC_J0_checkIndex_df160) (fun v hv => C_J0_checkIndex_df160 hL v1 (mi_sl v0) D v hv) (Nat.le_of_ble_eq_true rfl) rfl rfl ?_
  refine Sg.go (pc' := 7) (mi_aload_n dJ1_charAt_3b067_6 rfl) ?_
  refine Sg.go (pc' := 8) (mi_iload_n dJ1_charAt_3b067_7 rfl) ?_
  refine Sg.ck (fun hk1 => ?_)
  refine Sg.go (pc' := 9) (mi_sbld dJ1_charAt_3b067_8 (by omega) hk1) ?_
  refine Sg.go (pc' := 12) (mi_sipush (z := 255) dJ1_charAt_3b067_9 rfl) ?_
  refine Sg.go (pc' := 13) (mi_iand dJ1_charAt_3b067_12) ?_
  refine Sg.go (pc' := 14) (mi_i2c dJ1_charAt_3b067_13) ?_
  refine Sg.ck (fun hk2 => ?_)
  exact Sg.ret (mi_ireturn dJ1_charAt_3b067_14 rfl (Or.inr (Or.inr (Or.inl ⟨rfl, hk2⟩))))
theorem C_J1_charAt_3b067 {Z : MiZ} (hL : XL Z) (a0 a1 : Int) (D : MiD) (h0 : (0 ≤ a0 ∧ a0 < 64)) (b : Int) (hb : B_J1_charAt_3b067 D a0 a1 = some b) : MC m_J1_charAt_3b067 [(33, a0), (0, a1)] (D, Z) ((mi_LI 0 (D, Z)) b) := MC.ofSg (L := (mi_LI 0 (D, Z))) (μ := m_J1_charAt_3b067) (args := [(33, a0), (0, a1)]) (M := (D, Z)) rfl wP_J1 (Nat.le_of_ble_eq_true rfl) (show Sg m_J1_charAt_3b067 0 [(33, a0), (0, a1)] [] (D, Z) (mi_LI 0 (D, Z)) (B_J1_charAt_3b067 D a0 a1) from S_J1_charAt_3b067 hL a0 a1 h0) hb
abbrev m_J2_checkIndex_2214a : MiI := (yJ2_checkIndex_2214a, cJ2_checkIndex_2214a, 2, none, 3, none)
def B_J2_checkIndex_2214a (D : MiD) (v0 : Int) (v1 : Int) : Option (Unit) := mi_bi (B_J2_length_9d52b D v1) fun y1 => mi_bi (B_J0_checkIndex_df160 D v0 y1) fun _ => some ()
set_option maxRecDepth 20000 in
theorem S_J2_checkIndex_2214a {D : MiD} {Z : MiZ} (hL : XL Z) (v0 v1 : Int) : (0 ≤ v1 ∧ v1 < 64) → Sg m_J2_checkIndex_2214a 0 [(0, v0), (33, v1)] [] (D, Z) (mi_LU (D, Z)) (B_J2_checkIndex_2214a D v0 v1) := by
  intro hb1
  unfold B_J2_checkIndex_2214a
  refine Sg.go (pc' := 1) (mi_iload_n dJ2_checkIndex_2214a_0 rfl) ?_
  refine Sg.go (pc' := 2) (mi_aload_n dJ2_checkIndex_2214a_1 rfl) ?_
  refine Sg.callI (pc' := 5) (t := 0) (μ' := m_J2_length_9d52b) (args := [(33, v1)]) (mi_invS (n := 1) dJ2_checkIndex_2214a_2 rfl wN_J2_length_9d52b rfl ⟨by decide, by decide⟩ wL_J2_48 wT_J2_length_9d52b wB_J2 wC_J2_length_9d52b) (fun v hv => C_J2_length_9d52b hL v1 D (by omega) v hv) (Nat.le_of_ble_eq_true rfl) rfl rfl (fun y1 => ?_)
  refine Sg.callU (pc' := 8) (μ' := m_J0_checkIndex_df160) (args := [(0, v0), (0, y1)]) (mi_invS (n := 2) dJ2_checkIndex_2214a_5 rfl wN_J0_checkIndex_df160 rfl ⟨by decide, by decide⟩ wL_J2_414 wT_J0_checkIndex_df160 wB_J0 wC_J0_checkIndex_df160) (fun v hv => C_J0_checkIndex_df160 hL v0 y1 D v hv) (Nat.le_of_ble_eq_true rfl) rfl rfl ?_
  exact Sg.ret (mi_return dJ2_checkIndex_2214a_8 rfl (0, 0))
theorem C_J2_checkIndex_2214a {Z : MiZ} (hL : XL Z) (a0 a1 : Int) (D : MiD) (h0 : (0 ≤ a1 ∧ a1 < 64)) (b : Unit) (hb : B_J2_checkIndex_2214a D a0 a1 = some b) : MC m_J2_checkIndex_2214a [(0, a0), (33, a1)] (D, Z) ((mi_LU (D, Z)) b) := MC.ofSg (L := (mi_LU (D, Z))) (μ := m_J2_checkIndex_2214a) (args := [(0, a0), (33, a1)]) (M := (D, Z)) rfl wP_J2 (Nat.le_of_ble_eq_true rfl) (show Sg m_J2_checkIndex_2214a 0 [(0, a0), (33, a1)] [] (D, Z) (mi_LU (D, Z)) (B_J2_checkIndex_2214a D a0 a1) from S_J2_checkIndex_2214a hL a0 a1 h0) hb
abbrev m_J0_charAt_5068e : MiI := (yJ0_charAt_5068e, cJ0_charAt_5068e, 2, (some .char), 4, none)
def B_J0_charAt_5068e (D : MiD) (v0 : Int) (v1 : Int) : Option (Int) := mi_bi (B_J1_charAt_3b067 D v0 v1) fun y1 => if 0 ≤ y1 ∧ y1 < 65536 then (some y1) else none
set_option maxRecDepth 20000 in
theorem S_J0_charAt_5068e {D : MiD} {Z : MiZ} (hL : XL Z) (v0 v1 : Int) : (0 ≤ v0 ∧ v0 < 64) → Sg m_J0_charAt_5068e 0 [(29, v0), (0, v1)] [] (D, Z) (mi_LI 0 (D, Z)) (B_J0_charAt_5068e D v0 v1) := by
  intro hb0
  unfold B_J0_charAt_5068e
  refine Sg.go (pc' := 1) (mi_aload_n dJ0_charAt_5068e_0 rfl) ?_
  refine Sg.callP (pc' := 4) (t := 0) (v := 1) (μ' := m_J0_isLatin1_aae02) (args := [(29, v0)]) (mi_invC (n := 0) (r := 27) dJ0_charAt_5068e_1 (by decide) mi_oSt (by omega) rfl rfl wN_J0_isLatin1_aae02 rfl ⟨by decide, by decide⟩ wL_J0_492 wI_J0_isLatin1_aae02 wS_J0_isLatin1_aae02 wB_J0 wC_J0_isLatin1_aae02) (C_J0_isLatin1_aae02 hL v0 D (by omega) 1 rfl) (Nat.le_of_ble_eq_true rfl) rfl rfl ?_
  refine Sg.go (pc' := 7) (mi_ifeq_f (tgt := 16) dJ0_charAt_5068e_4 (by decide) (by decide)) ?_
  refine Sg.go (pc' := 8) (mi_aload_n dJ0_charAt_5068e_7 rfl) ?_
  refine Sg.go (pc' := 11) (mi_gfVa dJ0_charAt_5068e_8 wF_J0_9 (by omega)) ?_
  refine Sg.go (pc' := 12) (mi_iload_n dJ0_charAt_5068e_11 rfl) ?_
  refine Sg.callI (pc' := 15) (t := 0) (μ' := m_J1_charAt_3b067) (args := [(33, v0), (0, v1)]) (mi_invS (n := 2) dJ0_charAt_5068e_12 rfl wN_J1_charAt_3b067 rfl ⟨by decide, by decide⟩ wL_J0_495 wT_J1_charAt_3b067 wB_J1 wC_J1_charAt_3b067) (fun v hv => C_J1_charAt_3b067 hL v0 v1 D (by omega) v hv) (Nat.le_of_ble_eq_true rfl) rfl rfl (fun y1 => ?_)
  refine Sg.ck (fun hk2 => ?_)
  exact Sg.ret (mi_ireturn dJ0_charAt_5068e_15 rfl (Or.inr (Or.inr (Or.inl ⟨rfl, hk2⟩))))
theorem C_J0_charAt_5068e {Z : MiZ} (hL : XL Z) (a0 a1 : Int) (D : MiD) (h0 : (0 ≤ a0 ∧ a0 < 64)) (b : Int) (hb : B_J0_charAt_5068e D a0 a1 = some b) : MC m_J0_charAt_5068e [(29, a0), (0, a1)] (D, Z) ((mi_LI 0 (D, Z)) b) := MC.ofSg (L := (mi_LI 0 (D, Z))) (μ := m_J0_charAt_5068e) (args := [(29, a0), (0, a1)]) (M := (D, Z)) rfl wP_J0 (Nat.le_of_ble_eq_true rfl) (show Sg m_J0_charAt_5068e 0 [(29, a0), (0, a1)] [] (D, Z) (mi_LI 0 (D, Z)) (B_J0_charAt_5068e D a0 a1) from S_J0_charAt_5068e hL a0 a1 h0) hb
abbrev m_X11_coded : MiI := (yX11_coded, cX11_coded, 4, (some .long), 5, none)
def B_X11_coded_4 (D : MiD) : Nat → Int → Int → Int → Option (Int)
  | 0, _, _, _ => none
  | f + 1, v0, v1, v3 => mi_bi (B_J0_length_8abf5 D v0) fun y1 => if y1 ≤ v3 then (some v1) else (mi_bi (B_J0_charAt_5068e D v0 v3) fun y3 => mi_let (mi_W ((mi_W ((mi_W ((mi_W (27 * v1)) + y3)) - 97)) + 1)) fun x4 => B_X11_coded_4 D f v0 x4 (mi_w (v3 + 1)))
set_option maxRecDepth 20000 in
theorem S_X11_coded_4 {D : MiD} {Z : MiZ} (hL : ML Z) : ∀ (f : Nat) (v0 v1 v3 : Int), (0 ≤ v0 ∧ v0 < 64) → Sg m_X11_coded 4 [(29, v0), (1, v1), mi_un, (0, v3)] [] (D, Z) (mi_LI 1 (D, Z)) (B_X11_coded_4 D f v0 v1 v3) := by
  intro f
  induction f with
  | zero => intros; exact Sg.nope
  | succ f K4 =>
    intro v0 v1 v3 hb0
    show Sg m_X11_coded 4 [(29, v0), (1, v1), mi_un, (0, v3)] [] (D, Z) (mi_LI 1 (D, Z)) (mi_bi (B_J0_length_8abf5 D v0) fun y1 => if y1 ≤ v3 then (some v1) else (mi_bi (B_J0_charAt_5068e D v0 v3) fun y3 => mi_let (mi_W ((mi_W ((mi_W ((mi_W (27 * v1)) + y3)) - 97)) + 1)) fun x4 => B_X11_coded_4 D f v0 x4 (mi_w (v3 + 1))))
    refine Sg.go (pc' := 5) (mi_iload_n dX11_coded_4 rfl) ?_
    refine Sg.go (pc' := 6) (mi_aload_n dX11_coded_5 rfl) ?_
    refine Sg.callI (pc' := 9) (t := 0) (μ' := m_J0_length_8abf5) (args := [(29, v0)]) (mi_invC (n := 0) (r := 27) dX11_coded_6 (by decide) mi_oSt (by omega) rfl rfl wN_J0_length_8abf5 rfl ⟨by decide, by decide⟩ wL_X11_134 wI_J0_length_8abf5 wS_J0_length_8abf5 wB_J0 wC_J0_length_8abf5) (fun v hv => C_J0_length_8abf5 trivial v0 D (by omega) v hv) (Nat.le_of_ble_eq_true rfl) rfl rfl (fun y1 => ?_)
    refine Sg.ite (fun h2 => ?_) (fun h2 => ?_)
    · refine Sg.go (pc' := 37) (mi_icmpge_t (tgt := 37) dX11_coded_9 (by decide) h2) ?_
      refine Sg.go (pc' := 38) (mi_lload_n dX11_coded_37 rfl) ?_
      exact Sg.ret (mi_lreturn dX11_coded_38 rfl)
    · refine Sg.go (pc' := 12) (mi_icmpge_f (tgt := 37) dX11_coded_9 (by decide) h2) ?_
      refine Sg.go (pc' := 15) (mi_ldc2 (z := 27) dX11_coded_12 wK_X11_128 rfl) ?_
      refine Sg.go (pc' := 16) (mi_lload_n dX11_coded_15 rfl) ?_
      refine Sg.go (pc' := 17) (mi_lmul dX11_coded_16) ?_
      refine Sg.go (pc' := 18) (mi_aload_n dX11_coded_17 rfl) ?_
      refine Sg.go (pc' := 19) (mi_iload_n dX11_coded_18 rfl) ?_
      refine Sg.callI (pc' := 22) (t := 0) (μ' := m_J0_charAt_5068e) (args := [(29, v0), (0, v3)]) (mi_invC (n := 1) (r := 27) dX11_coded_19 (by decide) mi_oSt (by omega) rfl rfl wN_J0_charAt_5068e rfl ⟨by decide, by decide⟩ wL_X11_139 wI_J0_charAt_5068e wS_J0_charAt_5068e wB_J0 wC_J0_charAt_5068e) (fun v hv => C_J0_charAt_5068e trivial v0 v3 D (by omega) v hv) (Nat.le_of_ble_eq_true rfl) rfl rfl (fun y3 => ?_)
      refine Sg.go (pc' := 23) (mi_i2l dX11_coded_22) ?_
      refine Sg.go (pc' := 24) (mi_ladd dX11_coded_23) ?_
      refine Sg.go (pc' := 27) (mi_ldc2 (z := 97) dX11_coded_24 wK_X11_130 rfl) ?_
      refine Sg.go (pc' := 28) (mi_lsub dX11_coded_27) ?_
      refine Sg.go (pc' := 29) (mi_lconst (z := 1) dX11_coded_28 rfl) ?_
      refine Sg.go (pc' := 30) (mi_ladd dX11_coded_29) ?_
      refine Sg.letI (fun x4 hx4 => ?_)
      refine Sg.go (pc' := 31) (mi_lstore_n (ls1 := [(29, v0), (1, x4), mi_un, (0, v3)]) dX11_coded_30 (by decide) rfl) ?_
      refine Sg.go (pc' := 34) (mi_iinc (z := 1) (ls1 := [(29, v0), (1, x4), mi_un, (0, (mi_w (v3 + 1)))]) dX11_coded_31 (by decide) rfl rfl rfl) ?_
      refine Sg.go (pc' := 4) (mi_goto (tgt := 4) dX11_coded_34 (by decide)) ?_
      exact K4 v0 x4 (mi_w (v3 + 1)) hb0
def B_X11_coded (D : MiD) (v0 : Int) : Option (Int) := B_X11_coded_4 D mi_fuel v0 0 0
set_option maxRecDepth 20000 in
theorem S_X11_coded {D : MiD} {Z : MiZ} (hL : ML Z) (v0 : Int) : (0 ≤ v0 ∧ v0 < 64) → Sg m_X11_coded 0 [(29, v0), mi_un, mi_un, mi_un] [] (D, Z) (mi_LI 1 (D, Z)) (B_X11_coded D v0) := by
  intro hb0
  unfold B_X11_coded
  refine Sg.go (pc' := 1) (mi_lconst (z := 0) dX11_coded_0 rfl) ?_
  refine Sg.go (pc' := 2) (mi_lstore_n (ls1 := [(29, v0), (1, 0), mi_un, mi_un]) dX11_coded_1 (by decide) rfl) ?_
  refine Sg.go (pc' := 3) (mi_iconst (z := 0) dX11_coded_2 rfl) ?_
  refine Sg.go (pc' := 4) (mi_istore_n (ls1 := [(29, v0), (1, 0), mi_un, (0, 0)]) dX11_coded_3 (by decide) rfl) ?_
  exact S_X11_coded_4 hL mi_fuel v0 0 0 hb0
theorem C_X11_coded {Z : MiZ} (hL : ML Z) (a0 : Int) (D : MiD) (h0 : (0 ≤ a0 ∧ a0 < 64)) (b : Int) (hb : B_X11_coded D a0 = some b) : MC m_X11_coded [(29, a0)] (D, Z) ((mi_LI 1 (D, Z)) b) := MC.ofSg (L := (mi_LI 1 (D, Z))) (μ := m_X11_coded) (args := [(29, a0)]) (M := (D, Z)) rfl wP_X11 (Nat.le_of_ble_eq_true rfl) (show Sg m_X11_coded 0 [(29, a0), mi_un, mi_un, mi_un] [] (D, Z) (mi_LI 1 (D, Z)) (B_X11_coded D a0) from S_X11_coded hL a0 h0) hb
abbrev m_X11_kindHere : MiI := (yX11_kindHere, cX11_kindHere, 6, (some .int), 5, none)
def B_X11_kindHere_21 : Nat → Int → Int → Int → Int → MiD → Option (Int × MiD)
  | 0, _, _, _, _, _ => none
  | f + 1, v1, v2, v4, v5, D => if v1 ≤ v5 then (mi_bi (B_X11_wrong 1 (D 40 0 4) D) fun D2 => some (0, D2)) else (if 0 ≤ v4 ∧ v4 < 64 then (mi_bi (B_J0_charAt_5068e D v4 v5) fun y4 => if (mi_cmp v2 (mi_w ((mi_w (y4 - 97)) + 1))) = 0 then (mi_let (mi_st D 40 0 4 (mi_w ((D 40 0 4) + 1))) fun D6 => some (v5, D6)) else (B_X11_kindHere_21 f v1 v2 v4 (mi_w (v5 + 1)) D)) else none)
set_option maxRecDepth 20000 in
theorem S_X11_kindHere_21 {Z : MiZ} (hL : ML Z) : ∀ (f : Nat) (v1 v2 v4 v5 : Int) (D : MiD), Sg m_X11_kindHere 21 [(42, 0), (0, v1), (1, v2), mi_un, (29, v4), (0, v5)] [] (D, Z) (mi_LD 0 Z) (B_X11_kindHere_21 f v1 v2 v4 v5 D) := by
  intro f
  induction f with
  | zero => intros; exact Sg.nope
  | succ f K21 =>
    intro v1 v2 v4 v5 D
    show Sg m_X11_kindHere 21 [(42, 0), (0, v1), (1, v2), mi_un, (29, v4), (0, v5)] [] (D, Z) (mi_LD 0 Z) (if v1 ≤ v5 then (mi_bi (B_X11_wrong 1 (D 40 0 4) D) fun D2 => some (0, D2)) else (if 0 ≤ v4 ∧ v4 < 64 then (mi_bi (B_J0_charAt_5068e D v4 v5) fun y4 => if (mi_cmp v2 (mi_w ((mi_w (y4 - 97)) + 1))) = 0 then (mi_let (mi_st D 40 0 4 (mi_w ((D 40 0 4) + 1))) fun D6 => some (v5, D6)) else (B_X11_kindHere_21 f v1 v2 v4 (mi_w (v5 + 1)) D)) else none))
    refine Sg.go (pc' := 23) (mi_iload dX11_kindHere_21 rfl) ?_
    refine Sg.go (pc' := 24) (mi_iload_n dX11_kindHere_23 rfl) ?_
    refine Sg.ite (fun h1 => ?_) (fun h1 => ?_)
    · refine Sg.go (pc' := 67) (mi_icmpge_t (tgt := 67) dX11_kindHere_24 (by decide) h1) ?_
      refine Sg.go (pc' := 68) (mi_aload_n dX11_kindHere_67 rfl) ?_
      refine Sg.go (pc' := 69) (mi_iconst (z := 1) dX11_kindHere_68 rfl) ?_
      refine Sg.go (pc' := 70) (mi_aload_n dX11_kindHere_69 rfl) ?_
      refine Sg.go (pc' := 73) (mi_gfI (r := 40) (k := 4) dX11_kindHere_70 hC_40 (by decide) rfl wF_X11_87 (by omega) rfl) ?_
      refine Sg.callV (pc' := 76) (μ' := m_X11_wrong) (args := [(42, 0), (0, 1), (0, (D 40 0 4))]) (mi_invV (n := 2) (r := 40) dX11_kindHere_73 hC_40 (by omega) rfl rfl wN_X11_wrong rfl ⟨by decide, by decide⟩ wL_X11_112 wI_X11_wrong wS_X11_wrong wB_X11 wC_X11_wrong) (fun v hv => C_X11_wrong hL 1 (D 40 0 4) D v hv) (Nat.le_of_ble_eq_true rfl) rfl rfl (fun D2 => ?_)
      refine Sg.go (pc' := 77) (mi_iconst (z := 0) dX11_kindHere_76 rfl) ?_
      exact Sg.ret (mi_ireturn dX11_kindHere_77 rfl (Or.inl rfl))
    · refine Sg.go (pc' := 27) (mi_icmpge_f (tgt := 67) dX11_kindHere_24 (by decide) h1) ?_
      refine Sg.go (pc' := 28) (mi_lload_n dX11_kindHere_27 rfl) ?_
      refine Sg.go (pc' := 30) (mi_aload dX11_kindHere_28 rfl) ?_
      refine Sg.go (pc' := 32) (mi_iload dX11_kindHere_30 rfl) ?_
      refine Sg.ck (fun hk3 => ?_)
      refine Sg.callI (pc' := 35) (t := 0) (μ' := m_J0_charAt_5068e) (args := [(29, v4), (0, v5)]) (mi_invC (n := 1) (r := 27) dX11_kindHere_32 (by decide) mi_oSt (by omega) rfl rfl wN_J0_charAt_5068e rfl ⟨by decide, by decide⟩ wL_X11_139 wI_J0_charAt_5068e wS_J0_charAt_5068e wB_J0 wC_J0_charAt_5068e) (fun v hv => C_J0_charAt_5068e trivial v4 v5 D (by omega) v hv) (Nat.le_of_ble_eq_true rfl) rfl rfl (fun y4 => ?_)
      refine Sg.go (pc' := 37) (mi_bipush (z := 97) dX11_kindHere_35 rfl) ?_
      refine Sg.go (pc' := 38) (mi_isub dX11_kindHere_37) ?_
      refine Sg.go (pc' := 39) (mi_iconst (z := 1) dX11_kindHere_38 rfl) ?_
      refine Sg.go (pc' := 40) (mi_iadd dX11_kindHere_39) ?_
      refine Sg.go (pc' := 41) (mi_i2l dX11_kindHere_40) ?_
      refine Sg.go (pc' := 42) (mi_lcmp dX11_kindHere_41) ?_
      refine Sg.ite (fun h5 => ?_) (fun h5 => ?_)
      · refine Sg.go (pc' := 48) (mi_ifeq_t (tgt := 48) dX11_kindHere_42 (by decide) h5) ?_
        refine Sg.go (pc' := 49) (mi_aload_n dX11_kindHere_48 rfl) ?_
        refine Sg.go (pc' := 50) (mi_dup dX11_kindHere_49 (show (42 : Nat) ≠ 1 by decide)) ?_
        refine Sg.go (pc' := 53) (mi_gfI (r := 40) (k := 4) dX11_kindHere_50 hC_40 (by decide) rfl wF_X11_87 (by omega) rfl) ?_
        refine Sg.go (pc' := 54) (mi_iconst (z := 1) dX11_kindHere_53 rfl) ?_
        refine Sg.go (pc' := 55) (mi_iadd dX11_kindHere_54) ?_
        refine Sg.goM (pc' := 58) (mi_pfD (r := 40) (k := 4) (t := 0) dX11_kindHere_55 hC_40 (by decide) rfl rfl wF_X11_87 (by omega) rfl (by decide) (Or.inl ⟨rfl, rfl⟩)) ?_
        refine Sg.letD (fun D6 hD6 => ?_)
        refine Sg.go (pc' := 60) (mi_iload dX11_kindHere_58 rfl) ?_
        exact Sg.ret (mi_ireturn dX11_kindHere_60 rfl (Or.inl rfl))
      · refine Sg.go (pc' := 45) (mi_ifeq_f (tgt := 48) dX11_kindHere_42 (by decide) h5) ?_
        refine Sg.go (pc' := 61) (mi_goto (tgt := 61) dX11_kindHere_45 (by decide)) ?_
        refine Sg.go (pc' := 64) (mi_iinc (z := 1) (ls1 := [(42, 0), (0, v1), (1, v2), mi_un, (29, v4), (0, (mi_w (v5 + 1)))]) dX11_kindHere_61 (by decide) rfl rfl rfl) ?_
        refine Sg.go (pc' := 21) (mi_goto (tgt := 21) dX11_kindHere_64 (by decide)) ?_
        exact K21 v1 v2 v4 (mi_w (v5 + 1)) D
def B_X11_kindHere (v1 : Int) (D : MiD) : Option (Int × MiD) := mi_bi (B_X11_fine D) fun y1 => if y1 ≠ 0 then (mi_b2 (B_X11_wordHere D) fun y3 D4 => B_X11_kindHere_21 mi_fuel v1 y3 58 0 D4) else (some (0, D))
set_option maxRecDepth 20000 in
theorem S_X11_kindHere {Z : MiZ} (hL : ML Z) (v1 : Int) (D : MiD) : Sg m_X11_kindHere 0 [(42, 0), (0, v1), mi_un, mi_un, mi_un, mi_un] [] (D, Z) (mi_LD 0 Z) (B_X11_kindHere v1 D) := by
  unfold B_X11_kindHere
  refine Sg.go (pc' := 1) (mi_aload_n dX11_kindHere_0 rfl) ?_
  refine Sg.callI (pc' := 4) (t := 0) (μ' := m_X11_fine) (args := [(42, 0)]) (mi_invV (n := 0) (r := 40) dX11_kindHere_1 hC_40 (by omega) rfl rfl wN_X11_fine rfl ⟨by decide, by decide⟩ wL_X11_100 wI_X11_fine wS_X11_fine wB_X11 wC_X11_fine) (fun v hv => C_X11_fine hL D v hv) (Nat.le_of_ble_eq_true rfl) rfl rfl (fun y1 => ?_)
  refine Sg.ite (fun h2 => ?_) (fun h2 => ?_)
  · refine Sg.go (pc' := 9) (mi_ifne_t (tgt := 9) dX11_kindHere_4 (by decide) h2) ?_
    refine Sg.go (pc' := 10) (mi_aload_n dX11_kindHere_9 rfl) ?_
    refine Sg.callD (pc' := 13) (t := 1) (μ' := m_X11_wordHere) (args := [(42, 0)]) (mi_invV (n := 0) (r := 40) dX11_kindHere_10 hC_40 (by omega) rfl rfl wN_X11_wordHere rfl ⟨by decide, by decide⟩ wL_X11_143 wI_X11_wordHere wS_X11_wordHere wB_X11 wC_X11_wordHere) (fun v hv => C_X11_wordHere hL D v hv) (Nat.le_of_ble_eq_true rfl) rfl rfl (fun y3 D4 => ?_)
    refine Sg.go (pc' := 14) (mi_lstore_n (ls1 := [(42, 0), (0, v1), (1, y3), mi_un, mi_un, mi_un]) dX11_kindHere_13 (by decide) rfl) ?_
    refine Sg.go (pc' := 16) (mi_ldcS (j := 58) (z := 58) dX11_kindHere_14 rfl rfl (by decide)) ?_
    refine Sg.go (pc' := 18) (mi_astore (ls1 := [(42, 0), (0, v1), (1, y3), mi_un, (29, 58), mi_un]) dX11_kindHere_16 (by decide) rfl) ?_
    refine Sg.go (pc' := 19) (mi_iconst (z := 0) dX11_kindHere_18 rfl) ?_
    refine Sg.go (pc' := 21) (mi_istore (ls1 := [(42, 0), (0, v1), (1, y3), mi_un, (29, 58), (0, 0)]) dX11_kindHere_19 (by decide) rfl) ?_
    exact S_X11_kindHere_21 hL mi_fuel v1 y3 58 0 D4
  · refine Sg.go (pc' := 7) (mi_ifne_f (tgt := 9) dX11_kindHere_4 (by decide) h2) ?_
    refine Sg.go (pc' := 8) (mi_iconst (z := 0) dX11_kindHere_7 rfl) ?_
    exact Sg.ret (mi_ireturn dX11_kindHere_8 rfl (Or.inl rfl))
theorem C_X11_kindHere {Z : MiZ} (hL : ML Z) (a1 : Int) (D : MiD) (b : Int × MiD) (hb : B_X11_kindHere a1 D = some b) : MC m_X11_kindHere [(42, 0), (0, a1)] (D, Z) ((mi_LD 0 Z) b) := MC.ofSg (L := (mi_LD 0 Z)) (μ := m_X11_kindHere) (args := [(42, 0), (0, a1)]) (M := (D, Z)) rfl wP_X11 (Nat.le_of_ble_eq_true rfl) (show Sg m_X11_kindHere 0 [(42, 0), (0, a1), mi_un, mi_un, mi_un, mi_un] [] (D, Z) (mi_LD 0 Z) (B_X11_kindHere a1 D) from S_X11_kindHere hL a1 D) hb
abbrev m_X5_passWord : MiI := (yX5_passWord, cX5_passWord, 4, (some .boolean), 5, none)
def B_X5_passWord_26 (Z : MiZ) : Nat → Int → Int → Int → Int → MiD → Option (Int × MiD)
  | 0, _, _, _, _, _ => none
  | f + 1, v0, v1, v2, v3, D => mi_bi (B_J0_length_8abf5 D v1) fun y1 => if y1 ≤ v3 then (mi_let (mi_st D 9 v0 2 v2) fun D3 => some (1, D3)) else (if 0 ≤ (Z.1 9 v0 0) ∧ (Z.1 9 v0 0) < 1 then (if 0 ≤ (mi_w ((D 9 v0 2) + v3)) ∧ (mi_w ((D 9 v0 2) + v3)) < 500 then (mi_bi (B_J0_charAt_5068e D v1 v3) fun y6 => if (D 10 (Z.1 9 v0 0) (mi_w ((D 9 v0 2) + v3))) = y6 then (B_X5_passWord_26 Z f v0 v1 v2 (mi_w (v3 + 1)) D) else (some (0, D))) else none) else none)
set_option maxRecDepth 20000 in
theorem S_X5_passWord_26 {Z : MiZ} (hL : CL Z) : ∀ (f : Nat) (v0 v1 v2 v3 : Int) (D : MiD), 0 ≤ v0 → (0 ≤ v1 ∧ v1 < 64) → Sg m_X5_passWord 26 [(11, v0), (29, v1), (0, v2), (0, v3)] [] (D, Z) (mi_LD 0 Z) (B_X5_passWord_26 Z f v0 v1 v2 v3 D) := by
  intro f
  induction f with
  | zero => intros; exact Sg.nope
  | succ f K26 =>
    intro v0 v1 v2 v3 D hb0 hb1
    show Sg m_X5_passWord 26 [(11, v0), (29, v1), (0, v2), (0, v3)] [] (D, Z) (mi_LD 0 Z) (mi_bi (B_J0_length_8abf5 D v1) fun y1 => if y1 ≤ v3 then (mi_let (mi_st D 9 v0 2 v2) fun D3 => some (1, D3)) else (if 0 ≤ (Z.1 9 v0 0) ∧ (Z.1 9 v0 0) < 1 then (if 0 ≤ (mi_w ((D 9 v0 2) + v3)) ∧ (mi_w ((D 9 v0 2) + v3)) < 500 then (mi_bi (B_J0_charAt_5068e D v1 v3) fun y6 => if (D 10 (Z.1 9 v0 0) (mi_w ((D 9 v0 2) + v3))) = y6 then (B_X5_passWord_26 Z f v0 v1 v2 (mi_w (v3 + 1)) D) else (some (0, D))) else none) else none))
    refine Sg.go (pc' := 27) (mi_iload_n dX5_passWord_26 rfl) ?_
    refine Sg.go (pc' := 28) (mi_aload_n dX5_passWord_27 rfl) ?_
    refine Sg.callI (pc' := 31) (t := 0) (μ' := m_J0_length_8abf5) (args := [(29, v1)]) (mi_invC (n := 0) (r := 27) dX5_passWord_28 (by decide) mi_oSt (by omega) rfl rfl wN_J0_length_8abf5 rfl ⟨by decide, by decide⟩ wL_X5_113 wI_J0_length_8abf5 wS_J0_length_8abf5 wB_J0 wC_J0_length_8abf5) (fun v hv => C_J0_length_8abf5 trivial v1 D (by omega) v hv) (Nat.le_of_ble_eq_true rfl) rfl rfl (fun y1 => ?_)
    refine Sg.ite (fun h2 => ?_) (fun h2 => ?_)
    · refine Sg.go (pc' := 61) (mi_icmpge_t (tgt := 61) dX5_passWord_31 (by decide) h2) ?_
      refine Sg.go (pc' := 62) (mi_aload_n dX5_passWord_61 rfl) ?_
      refine Sg.go (pc' := 63) (mi_iload_n dX5_passWord_62 rfl) ?_
      refine Sg.goM (pc' := 66) (mi_pfD (r := 9) (k := 2) (t := 0) dX5_passWord_63 hC_9 (by decide) rfl rfl wF_X5_39 (by omega) rfl (by decide) (Or.inl ⟨rfl, rfl⟩)) ?_
      refine Sg.letD (fun D3 hD3 => ?_)
      refine Sg.go (pc' := 67) (mi_iconst (z := 1) dX5_passWord_66 rfl) ?_
      exact Sg.ret (mi_ireturn dX5_passWord_67 rfl (Or.inr (Or.inl ⟨rfl, Or.inr rfl⟩)))
    · refine Sg.go (pc' := 34) (mi_icmpge_f (tgt := 61) dX5_passWord_31 (by decide) h2) ?_
      refine Sg.go (pc' := 35) (mi_aload_n dX5_passWord_34 rfl) ?_
      refine Sg.go (pc' := 38) (mi_gfA (t := 10) (v := (Z.1 9 v0 0)) (r := 9) (k := 0) dX5_passWord_35 hC_9 (by decide) rfl wF_X5_15 (by omega) rfl rfl) ?_
      refine Sg.go (pc' := 39) (mi_aload_n dX5_passWord_38 rfl) ?_
      refine Sg.go (pc' := 42) (mi_gfI (r := 9) (k := 2) dX5_passWord_39 hC_9 (by decide) rfl wF_X5_39 (by omega) rfl) ?_
      refine Sg.go (pc' := 43) (mi_iload_n dX5_passWord_42 rfl) ?_
      refine Sg.go (pc' := 44) (mi_iadd dX5_passWord_43) ?_
      refine Sg.ck (fun hk4 => ?_)
      refine Sg.ck (fun hk5 => ?_)
      refine Sg.go (pc' := 45) (mi_bald (n := 500) dX5_passWord_44 rfl rfl (by omega) hk5) ?_
      refine Sg.go (pc' := 46) (mi_aload_n dX5_passWord_45 rfl) ?_
      refine Sg.go (pc' := 47) (mi_iload_n dX5_passWord_46 rfl) ?_
      refine Sg.callI (pc' := 50) (t := 0) (μ' := m_J0_charAt_5068e) (args := [(29, v1), (0, v3)]) (mi_invC (n := 1) (r := 27) dX5_passWord_47 (by decide) mi_oSt (by omega) rfl rfl wN_J0_charAt_5068e rfl ⟨by decide, by decide⟩ wL_X5_118 wI_J0_charAt_5068e wS_J0_charAt_5068e wB_J0 wC_J0_charAt_5068e) (fun v hv => C_J0_charAt_5068e trivial v1 v3 D (by omega) v hv) (Nat.le_of_ble_eq_true rfl) rfl rfl (fun y6 => ?_)
      refine Sg.ite (fun h7 => ?_) (fun h7 => ?_)
      · refine Sg.go (pc' := 55) (mi_icmpeq_t (tgt := 55) dX5_passWord_50 (by decide) h7) ?_
        refine Sg.go (pc' := 58) (mi_iinc (z := 1) (ls1 := [(11, v0), (29, v1), (0, v2), (0, (mi_w (v3 + 1)))]) dX5_passWord_55 (by decide) rfl rfl rfl) ?_
        refine Sg.go (pc' := 26) (mi_goto (tgt := 26) dX5_passWord_58 (by decide)) ?_
        exact K26 v0 v1 v2 (mi_w (v3 + 1)) D hb0 hb1
      · refine Sg.go (pc' := 53) (mi_icmpeq_f (tgt := 55) dX5_passWord_50 (by decide) h7) ?_
        refine Sg.go (pc' := 54) (mi_iconst (z := 0) dX5_passWord_53 rfl) ?_
        exact Sg.ret (mi_ireturn dX5_passWord_54 rfl (Or.inr (Or.inl ⟨rfl, Or.inl rfl⟩)))
def B_X5_passWord (Z : MiZ) (v0 : Int) (v1 : Int) (D : MiD) : Option (Int × MiD) := mi_bi (B_X5_skipBlanks_0 Z mi_fuel v0 D) fun D1 => mi_bi (B_X5_wordEnd D1 Z v0) fun y2 => mi_bi (B_J0_length_8abf5 D1 v1) fun y3 => if (mi_w (y2 - (D1 9 v0 2))) = y3 then (B_X5_passWord_26 Z mi_fuel v0 v1 y2 0 D1) else (some (0, D1))
set_option maxRecDepth 20000 in
theorem S_X5_passWord {Z : MiZ} (hL : CL Z) (v0 v1 : Int) (D : MiD) : 0 ≤ v0 → (0 ≤ v1 ∧ v1 < 64) → Sg m_X5_passWord 0 [(11, v0), (29, v1), mi_un, mi_un] [] (D, Z) (mi_LD 0 Z) (B_X5_passWord Z v0 v1 D) := by
  intro hb0 hb1
  unfold B_X5_passWord
  refine Sg.go (pc' := 1) (mi_aload_n dX5_passWord_0 rfl) ?_
  refine Sg.callV (pc' := 4) (μ' := m_X5_skipBlanks) (args := [(11, v0)]) (mi_invV (n := 0) (r := 9) dX5_passWord_1 hC_9 (by omega) rfl rfl wN_X5_skipBlanks rfl ⟨by decide, by decide⟩ wL_X5_36 wI_X5_skipBlanks wS_X5_skipBlanks wB_X5 wC_X5_skipBlanks) (fun v hv => C_X5_skipBlanks hL v0 D (by omega) v hv) (Nat.le_of_ble_eq_true rfl) rfl rfl (fun D1 => ?_)
  refine Sg.go (pc' := 5) (mi_aload_n dX5_passWord_4 rfl) ?_
  refine Sg.callI (pc' := 8) (t := 0) (μ' := m_X5_wordEnd) (args := [(11, v0)]) (mi_invV (n := 0) (r := 9) dX5_passWord_5 hC_9 (by omega) rfl rfl wN_X5_wordEnd rfl ⟨by decide, by decide⟩ wL_X5_157 wI_X5_wordEnd wS_X5_wordEnd wB_X5 wC_X5_wordEnd) (fun v hv => C_X5_wordEnd hL v0 D1 (by omega) v hv) (Nat.le_of_ble_eq_true rfl) rfl rfl (fun y2 => ?_)
  refine Sg.go (pc' := 9) (mi_istore_n (ls1 := [(11, v0), (29, v1), (0, y2), mi_un]) dX5_passWord_8 (by decide) rfl) ?_
  refine Sg.go (pc' := 10) (mi_iload_n dX5_passWord_9 rfl) ?_
  refine Sg.go (pc' := 11) (mi_aload_n dX5_passWord_10 rfl) ?_
  refine Sg.go (pc' := 14) (mi_gfI (r := 9) (k := 2) dX5_passWord_11 hC_9 (by decide) rfl wF_X5_39 (by omega) rfl) ?_
  refine Sg.go (pc' := 15) (mi_isub dX5_passWord_14) ?_
  refine Sg.go (pc' := 16) (mi_aload_n dX5_passWord_15 rfl) ?_
  refine Sg.callI (pc' := 19) (t := 0) (μ' := m_J0_length_8abf5) (args := [(29, v1)]) (mi_invC (n := 0) (r := 27) dX5_passWord_16 (by decide) mi_oSt (by omega) rfl rfl wN_J0_length_8abf5 rfl ⟨by decide, by decide⟩ wL_X5_113 wI_J0_length_8abf5 wS_J0_length_8abf5 wB_J0 wC_J0_length_8abf5) (fun v hv => C_J0_length_8abf5 trivial v1 D1 (by omega) v hv) (Nat.le_of_ble_eq_true rfl) rfl rfl (fun y3 => ?_)
  refine Sg.ite (fun h4 => ?_) (fun h4 => ?_)
  · refine Sg.go (pc' := 24) (mi_icmpeq_t (tgt := 24) dX5_passWord_19 (by decide) h4) ?_
    refine Sg.go (pc' := 25) (mi_iconst (z := 0) dX5_passWord_24 rfl) ?_
    refine Sg.go (pc' := 26) (mi_istore_n (ls1 := [(11, v0), (29, v1), (0, y2), (0, 0)]) dX5_passWord_25 (by decide) rfl) ?_
    exact S_X5_passWord_26 hL mi_fuel v0 v1 y2 0 D1 hb0 hb1
  · refine Sg.go (pc' := 22) (mi_icmpeq_f (tgt := 24) dX5_passWord_19 (by decide) h4) ?_
    refine Sg.go (pc' := 23) (mi_iconst (z := 0) dX5_passWord_22 rfl) ?_
    exact Sg.ret (mi_ireturn dX5_passWord_23 rfl (Or.inr (Or.inl ⟨rfl, Or.inl rfl⟩)))
theorem C_X5_passWord {Z : MiZ} (hL : CL Z) (a0 a1 : Int) (D : MiD) (h0 : 0 ≤ a0) (h1 : (0 ≤ a1 ∧ a1 < 64)) (b : Int × MiD) (hb : B_X5_passWord Z a0 a1 D = some b) : MC m_X5_passWord [(11, a0), (29, a1)] (D, Z) ((mi_LD 0 Z) b) := MC.ofSg (L := (mi_LD 0 Z)) (μ := m_X5_passWord) (args := [(11, a0), (29, a1)]) (M := (D, Z)) rfl wP_X5 (Nat.le_of_ble_eq_true rfl) (show Sg m_X5_passWord 0 [(11, a0), (29, a1), mi_un, mi_un] [] (D, Z) (mi_LD 0 Z) (B_X5_passWord Z a0 a1 D) from S_X5_passWord hL a0 a1 D h0 h1) hb
abbrev m_X11_deedOf : MiI := (yX11_deedOf, cX11_deedOf, 2, (some .int), 6, none)
def B_X11_deedOf (D : MiD) (v0 : Int) : Option (Int) := mi_bi (B_X11_coded D 39) fun y1 => if (mi_cmp v0 y1) ≠ 0 then (mi_bi (B_X11_coded D 40) fun y3 => if (mi_cmp v0 y3) ≠ 0 then (mi_bi (B_X11_coded D 41) fun y5 => if (mi_cmp v0 y5) ≠ 0 then (mi_bi (B_X11_coded D 42) fun y7 => if (mi_cmp v0 y7) ≠ 0 then (mi_bi (B_X11_coded D 43) fun y9 => if (mi_cmp v0 y9) ≠ 0 then (mi_bi (B_X11_coded D 44) fun y11 => if (mi_cmp v0 y11) ≠ 0 then (mi_bi (B_X11_coded D 45) fun y13 => if (mi_cmp v0 y13) ≠ 0 then (mi_bi (B_X11_coded D 46) fun y15 => if (mi_cmp v0 y15) ≠ 0 then (mi_bi (B_X11_coded D 47) fun y17 => if (mi_cmp v0 y17) ≠ 0 then (mi_bi (B_X11_coded D 48) fun y19 => if (mi_cmp v0 y19) ≠ 0 then (mi_bi (B_X11_coded D 49) fun y21 => if (mi_cmp v0 y21) ≠ 0 then (mi_bi (B_X11_coded D 50) fun y23 => if (mi_cmp v0 y23) ≠ 0 then (mi_bi (B_X11_coded D 51) fun y25 => if (mi_cmp v0 y25) ≠ 0 then (mi_bi (B_X11_coded D 52) fun y27 => if (mi_cmp v0 y27) ≠ 0 then (mi_bi (B_X11_coded D 53) fun y29 => if (mi_cmp v0 y29) ≠ 0 then (mi_bi (B_X11_coded D 54) fun y31 => if (mi_cmp v0 y31) ≠ 0 then (mi_bi (B_X11_coded D 55) fun y33 => if (mi_cmp v0 y33) ≠ 0 then (mi_bi (B_X11_coded D 56) fun y35 => if (mi_cmp v0 y35) ≠ 0 then (mi_bi (B_X11_coded D 57) fun y37 => if (mi_cmp v0 y37) ≠ 0 then (some (-1)) else (some 15)) else (some 18)) else (some 17)) else (some 16)) else (some 14)) else (some 13)) else (some 12)) else (some 11)) else (some 10)) else (some 9)) else (some 8)) else (some 7)) else (some 6)) else (some 5)) else (some 4)) else (some 3)) else (some 2)) else (some 1)) else (some 0)
set_option maxRecDepth 20000 in
theorem S_X11_deedOf {D : MiD} {Z : MiZ} (hL : ML Z) (v0 : Int) : Sg m_X11_deedOf 0 [(1, v0), mi_un] [] (D, Z) (mi_LI 0 (D, Z)) (B_X11_deedOf D v0) := by
  unfold B_X11_deedOf
  refine Sg.go (pc' := 1) (mi_lload_n dX11_deedOf_0 rfl) ?_
  refine Sg.go (pc' := 3) (mi_ldcS (j := 39) (z := 39) dX11_deedOf_1 rfl rfl (by decide)) ?_
  refine Sg.callI (pc' := 6) (t := 1) (μ' := m_X11_coded) (args := [(29, 39)]) (mi_invS (n := 1) dX11_deedOf_3 rfl wN_X11_coded rfl ⟨by decide, by decide⟩ wL_X11_147 wT_X11_coded wB_X11 wC_X11_coded) (fun v hv => C_X11_coded hL 39 D (by omega) v hv) (Nat.le_of_ble_eq_true rfl) rfl rfl (fun y1 => ?_)
  refine Sg.go (pc' := 7) (mi_lcmp dX11_deedOf_6) ?_
  refine Sg.ite (fun h2 => ?_) (fun h2 => ?_)
  · refine Sg.go (pc' := 12) (mi_ifne_t (tgt := 12) dX11_deedOf_7 (by decide) h2) ?_
    refine Sg.go (pc' := 13) (mi_lload_n dX11_deedOf_12 rfl) ?_
    refine Sg.go (pc' := 15) (mi_ldcS (j := 40) (z := 40) dX11_deedOf_13 rfl rfl (by decide)) ?_
    refine Sg.callI (pc' := 18) (t := 1) (μ' := m_X11_coded) (args := [(29, 40)]) (mi_invS (n := 1) dX11_deedOf_15 rfl wN_X11_coded rfl ⟨by decide, by decide⟩ wL_X11_147 wT_X11_coded wB_X11 wC_X11_coded) (fun v hv => C_X11_coded hL 40 D (by omega) v hv) (Nat.le_of_ble_eq_true rfl) rfl rfl (fun y3 => ?_)
    refine Sg.go (pc' := 19) (mi_lcmp dX11_deedOf_18) ?_
    refine Sg.ite (fun h4 => ?_) (fun h4 => ?_)
    · refine Sg.go (pc' := 24) (mi_ifne_t (tgt := 24) dX11_deedOf_19 (by decide) h4) ?_
      refine Sg.go (pc' := 25) (mi_lload_n dX11_deedOf_24 rfl) ?_
      refine Sg.go (pc' := 27) (mi_ldcS (j := 41) (z := 41) dX11_deedOf_25 rfl rfl (by decide)) ?_
      refine Sg.callI (pc' := 30) (t := 1) (μ' := m_X11_coded) (args := [(29, 41)]) (mi_invS (n := 1) dX11_deedOf_27 rfl wN_X11_coded rfl ⟨by decide, by decide⟩ wL_X11_147 wT_X11_coded wB_X11 wC_X11_coded) (fun v hv => C_X11_coded hL 41 D (by omega) v hv) (Nat.le_of_ble_eq_true rfl) rfl rfl (fun y5 => ?_)
      refine Sg.go (pc' := 31) (mi_lcmp dX11_deedOf_30) ?_
      refine Sg.ite (fun h6 => ?_) (fun h6 => ?_)
      · refine Sg.go (pc' := 36) (mi_ifne_t (tgt := 36) dX11_deedOf_31 (by decide) h6) ?_
        refine Sg.go (pc' := 37) (mi_lload_n dX11_deedOf_36 rfl) ?_
        refine Sg.go (pc' := 39) (mi_ldcS (j := 42) (z := 42) dX11_deedOf_37 rfl rfl (by decide)) ?_
        refine Sg.callI (pc' := 42) (t := 1) (μ' := m_X11_coded) (args := [(29, 42)]) (mi_invS (n := 1) dX11_deedOf_39 rfl wN_X11_coded rfl ⟨by decide, by decide⟩ wL_X11_147 wT_X11_coded wB_X11 wC_X11_coded) (fun v hv => C_X11_coded hL 42 D (by omega) v hv) (Nat.le_of_ble_eq_true rfl) rfl rfl (fun y7 => ?_)
        refine Sg.go (pc' := 43) (mi_lcmp dX11_deedOf_42) ?_
        refine Sg.ite (fun h8 => ?_) (fun h8 => ?_)
        · refine Sg.go (pc' := 48) (mi_ifne_t (tgt := 48) dX11_deedOf_43 (by decide) h8) ?_
          refine Sg.go (pc' := 49) (mi_lload_n dX11_deedOf_48 rfl) ?_
          refine Sg.go (pc' := 51) (mi_ldcS (j := 43) (z := 43) dX11_deedOf_49 rfl rfl (by decide)) ?_
          refine Sg.callI (pc' := 54) (t := 1) (μ' := m_X11_coded) (args := [(29, 43)]) (mi_invS (n := 1) dX11_deedOf_51 rfl wN_X11_coded rfl ⟨by decide, by decide⟩ wL_X11_147 wT_X11_coded wB_X11 wC_X11_coded) (fun v hv => C_X11_coded hL 43 D (by omega) v hv) (Nat.le_of_ble_eq_true rfl) rfl rfl (fun y9 => ?_)
          refine Sg.go (pc' := 55) (mi_lcmp dX11_deedOf_54) ?_
          refine Sg.ite (fun h10 => ?_) (fun h10 => ?_)
          · refine Sg.go (pc' := 60) (mi_ifne_t (tgt := 60) dX11_deedOf_55 (by decide) h10) ?_
            refine Sg.go (pc' := 61) (mi_lload_n dX11_deedOf_60 rfl) ?_
            refine Sg.go (pc' := 63) (mi_ldcS (j := 44) (z := 44) dX11_deedOf_61 rfl rfl (by decide)) ?_
            refine Sg.callI (pc' := 66) (t := 1) (μ' := m_X11_coded) (args := [(29, 44)]) (mi_invS (n := 1) dX11_deedOf_63 rfl wN_X11_coded rfl ⟨by decide, by decide⟩ wL_X11_147 wT_X11_coded wB_X11 wC_X11_coded) (fun v hv => C_X11_coded hL 44 D (by omega) v hv) (Nat.le_of_ble_eq_true rfl) rfl rfl (fun y11 => ?_)
            refine Sg.go (pc' := 67) (mi_lcmp dX11_deedOf_66) ?_
            refine Sg.ite (fun h12 => ?_) (fun h12 => ?_)
            · refine Sg.go (pc' := 72) (mi_ifne_t (tgt := 72) dX11_deedOf_67 (by decide) h12) ?_
              refine Sg.go (pc' := 73) (mi_lload_n dX11_deedOf_72 rfl) ?_
              refine Sg.go (pc' := 75) (mi_ldcS (j := 45) (z := 45) dX11_deedOf_73 rfl rfl (by decide)) ?_
              refine Sg.callI (pc' := 78) (t := 1) (μ' := m_X11_coded) (args := [(29, 45)]) (mi_invS (n := 1) dX11_deedOf_75 rfl wN_X11_coded rfl ⟨by decide, by decide⟩ wL_X11_147 wT_X11_coded wB_X11 wC_X11_coded) (fun v hv => C_X11_coded hL 45 D (by omega) v hv) (Nat.le_of_ble_eq_true rfl) rfl rfl (fun y13 => ?_)
              refine Sg.go (pc' := 79) (mi_lcmp dX11_deedOf_78) ?_
              refine Sg.ite (fun h14 => ?_) (fun h14 => ?_)
              · refine Sg.go (pc' := 85) (mi_ifne_t (tgt := 85) dX11_deedOf_79 (by decide) h14) ?_
                refine Sg.go (pc' := 86) (mi_lload_n dX11_deedOf_85 rfl) ?_
                refine Sg.go (pc' := 88) (mi_ldcS (j := 46) (z := 46) dX11_deedOf_86 rfl rfl (by decide)) ?_
                refine Sg.callI (pc' := 91) (t := 1) (μ' := m_X11_coded) (args := [(29, 46)]) (mi_invS (n := 1) dX11_deedOf_88 rfl wN_X11_coded rfl ⟨by decide, by decide⟩ wL_X11_147 wT_X11_coded wB_X11 wC_X11_coded) (fun v hv => C_X11_coded hL 46 D (by omega) v hv) (Nat.le_of_ble_eq_true rfl) rfl rfl (fun y15 => ?_)
                refine Sg.go (pc' := 92) (mi_lcmp dX11_deedOf_91) ?_
                refine Sg.ite (fun h16 => ?_) (fun h16 => ?_)
                · refine Sg.go (pc' := 98) (mi_ifne_t (tgt := 98) dX11_deedOf_92 (by decide) h16) ?_
                  refine Sg.go (pc' := 99) (mi_lload_n dX11_deedOf_98 rfl) ?_
                  refine Sg.go (pc' := 101) (mi_ldcS (j := 47) (z := 47) dX11_deedOf_99 rfl rfl (by decide)) ?_
                  refine Sg.callI (pc' := 104) (t := 1) (μ' := m_X11_coded) (args := [(29, 47)]) (mi_invS (n := 1) dX11_deedOf_101 rfl wN_X11_coded rfl ⟨by decide, by decide⟩ wL_X11_147 wT_X11_coded wB_X11 wC_X11_coded) (fun v hv => C_X11_coded hL 47 D (by omega) v hv) (Nat.le_of_ble_eq_true rfl) rfl rfl (fun y17 => ?_)
                  refine Sg.go (pc' := 105) (mi_lcmp dX11_deedOf_104) ?_
                  refine Sg.ite (fun h18 => ?_) (fun h18 => ?_)
                  · refine Sg.go (pc' := 111) (mi_ifne_t (tgt := 111) dX11_deedOf_105 (by decide) h18) ?_
                    refine Sg.go (pc' := 112) (mi_lload_n dX11_deedOf_111 rfl) ?_
                    refine Sg.go (pc' := 114) (mi_ldcS (j := 48) (z := 48) dX11_deedOf_112 rfl rfl (by decide)) ?_
                    refine Sg.callI (pc' := 117) (t := 1) (μ' := m_X11_coded) (args := [(29, 48)]) (mi_invS (n := 1) dX11_deedOf_114 rfl wN_X11_coded rfl ⟨by decide, by decide⟩ wL_X11_147 wT_X11_coded wB_X11 wC_X11_coded) (fun v hv => C_X11_coded hL 48 D (by omega) v hv) (Nat.le_of_ble_eq_true rfl) rfl rfl (fun y19 => ?_)
                    refine Sg.go (pc' := 118) (mi_lcmp dX11_deedOf_117) ?_
                    refine Sg.ite (fun h20 => ?_) (fun h20 => ?_)
                    · refine Sg.go (pc' := 124) (mi_ifne_t (tgt := 124) dX11_deedOf_118 (by decide) h20) ?_
                      refine Sg.go (pc' := 125) (mi_lload_n dX11_deedOf_124 rfl) ?_
                      refine Sg.go (pc' := 127) (mi_ldcS (j := 49) (z := 49) dX11_deedOf_125 rfl rfl (by decide)) ?_
                      refine Sg.callI (pc' := 130) (t := 1) (μ' := m_X11_coded) (args := [(29, 49)]) (mi_invS (n := 1) dX11_deedOf_127 rfl wN_X11_coded rfl ⟨by decide, by decide⟩ wL_X11_147 wT_X11_coded wB_X11 wC_X11_coded) (fun v hv => C_X11_coded hL 49 D (by omega) v hv) (Nat.le_of_ble_eq_true rfl) rfl rfl (fun y21 => ?_)
                      refine Sg.go (pc' := 131) (mi_lcmp dX11_deedOf_130) ?_
                      refine Sg.ite (fun h22 => ?_) (fun h22 => ?_)
                      · refine Sg.go (pc' := 137) (mi_ifne_t (tgt := 137) dX11_deedOf_131 (by decide) h22) ?_
                        refine Sg.go (pc' := 138) (mi_lload_n dX11_deedOf_137 rfl) ?_
                        refine Sg.go (pc' := 140) (mi_ldcS (j := 50) (z := 50) dX11_deedOf_138 rfl rfl (by decide)) ?_
                        refine Sg.callI (pc' := 143) (t := 1) (μ' := m_X11_coded) (args := [(29, 50)]) (mi_invS (n := 1) dX11_deedOf_140 rfl wN_X11_coded rfl ⟨by decide, by decide⟩ wL_X11_147 wT_X11_coded wB_X11 wC_X11_coded) (fun v hv => C_X11_coded hL 50 D (by omega) v hv) (Nat.le_of_ble_eq_true rfl) rfl rfl (fun y23 => ?_)
                        refine Sg.go (pc' := 144) (mi_lcmp dX11_deedOf_143) ?_
                        refine Sg.ite (fun h24 => ?_) (fun h24 => ?_)
                        · refine Sg.go (pc' := 150) (mi_ifne_t (tgt := 150) dX11_deedOf_144 (by decide) h24) ?_
                          refine Sg.go (pc' := 151) (mi_lload_n dX11_deedOf_150 rfl) ?_
                          refine Sg.go (pc' := 153) (mi_ldcS (j := 51) (z := 51) dX11_deedOf_151 rfl rfl (by decide)) ?_
                          refine Sg.callI (pc' := 156) (t := 1) (μ' := m_X11_coded) (args := [(29, 51)]) (mi_invS (n := 1) dX11_deedOf_153 rfl wN_X11_coded rfl ⟨by decide, by decide⟩ wL_X11_147 wT_X11_coded wB_X11 wC_X11_coded) (fun v hv => C_X11_coded hL 51 D (by omega) v hv) (Nat.le_of_ble_eq_true rfl) rfl rfl (fun y25 => ?_)
                          refine Sg.go (pc' := 157) (mi_lcmp dX11_deedOf_156) ?_
                          refine Sg.ite (fun h26 => ?_) (fun h26 => ?_)
                          · refine Sg.go (pc' := 163) (mi_ifne_t (tgt := 163) dX11_deedOf_157 (by decide) h26) ?_
                            refine Sg.go (pc' := 164) (mi_lload_n dX11_deedOf_163 rfl) ?_
                            refine Sg.go (pc' := 166) (mi_ldcS (j := 52) (z := 52) dX11_deedOf_164 rfl rfl (by decide)) ?_
                            refine Sg.callI (pc' := 169) (t := 1) (μ' := m_X11_coded) (args := [(29, 52)]) (mi_invS (n := 1) dX11_deedOf_166 rfl wN_X11_coded rfl ⟨by decide, by decide⟩ wL_X11_147 wT_X11_coded wB_X11 wC_X11_coded) (fun v hv => C_X11_coded hL 52 D (by omega) v hv) (Nat.le_of_ble_eq_true rfl) rfl rfl (fun y27 => ?_)
                            refine Sg.go (pc' := 170) (mi_lcmp dX11_deedOf_169) ?_
                            refine Sg.ite (fun h28 => ?_) (fun h28 => ?_)
                            · refine Sg.go (pc' := 176) (mi_ifne_t (tgt := 176) dX11_deedOf_170 (by decide) h28) ?_
                              refine Sg.go (pc' := 177) (mi_lload_n dX11_deedOf_176 rfl) ?_
                              refine Sg.go (pc' := 179) (mi_ldcS (j := 53) (z := 53) dX11_deedOf_177 rfl rfl (by decide)) ?_
                              refine Sg.callI (pc' := 182) (t := 1) (μ' := m_X11_coded) (args := [(29, 53)]) (mi_invS (n := 1) dX11_deedOf_179 rfl wN_X11_coded rfl ⟨by decide, by decide⟩ wL_X11_147 wT_X11_coded wB_X11 wC_X11_coded) (fun v hv => C_X11_coded hL 53 D (by omega) v hv) (Nat.le_of_ble_eq_true rfl) rfl rfl (fun y29 => ?_)
                              refine Sg.go (pc' := 183) (mi_lcmp dX11_deedOf_182) ?_
                              refine Sg.ite (fun h30 => ?_) (fun h30 => ?_)
                              · refine Sg.go (pc' := 189) (mi_ifne_t (tgt := 189) dX11_deedOf_183 (by decide) h30) ?_
                                refine Sg.go (pc' := 190) (mi_lload_n dX11_deedOf_189 rfl) ?_
                                refine Sg.go (pc' := 192) (mi_ldcS (j := 54) (z := 54) dX11_deedOf_190 rfl rfl (by decide)) ?_
                                refine Sg.callI (pc' := 195) (t := 1) (μ' := m_X11_coded) (args := [(29, 54)]) (mi_invS (n := 1) dX11_deedOf_192 rfl wN_X11_coded rfl ⟨by decide, by decide⟩ wL_X11_147 wT_X11_coded wB_X11 wC_X11_coded) (fun v hv => C_X11_coded hL 54 D (by omega) v hv) (Nat.le_of_ble_eq_true rfl) rfl rfl (fun y31 => ?_)
                                refine Sg.go (pc' := 196) (mi_lcmp dX11_deedOf_195) ?_
                                refine Sg.ite (fun h32 => ?_) (fun h32 => ?_)
                                · refine Sg.go (pc' := 202) (mi_ifne_t (tgt := 202) dX11_deedOf_196 (by decide) h32) ?_
                                  refine Sg.go (pc' := 203) (mi_lload_n dX11_deedOf_202 rfl) ?_
                                  refine Sg.go (pc' := 205) (mi_ldcS (j := 55) (z := 55) dX11_deedOf_203 rfl rfl (by decide)) ?_
                                  refine Sg.callI (pc' := 208) (t := 1) (μ' := m_X11_coded) (args := [(29, 55)]) (mi_invS (n := 1) dX11_deedOf_205 rfl wN_X11_coded rfl ⟨by decide, by decide⟩ wL_X11_147 wT_X11_coded wB_X11 wC_X11_coded) (fun v hv => C_X11_coded hL 55 D (by omega) v hv) (Nat.le_of_ble_eq_true rfl) rfl rfl (fun y33 => ?_)
                                  refine Sg.go (pc' := 209) (mi_lcmp dX11_deedOf_208) ?_
                                  refine Sg.ite (fun h34 => ?_) (fun h34 => ?_)
                                  · refine Sg.go (pc' := 215) (mi_ifne_t (tgt := 215) dX11_deedOf_209 (by decide) h34) ?_
                                    refine Sg.go (pc' := 216) (mi_lload_n dX11_deedOf_215 rfl) ?_
                                    refine Sg.go (pc' := 218) (mi_ldcS (j := 56) (z := 56) dX11_deedOf_216 rfl rfl (by decide)) ?_
                                    refine Sg.callI (pc' := 221) (t := 1) (μ' := m_X11_coded) (args := [(29, 56)]) (mi_invS (n := 1) dX11_deedOf_218 rfl wN_X11_coded rfl ⟨by decide, by decide⟩ wL_X11_147 wT_X11_coded wB_X11 wC_X11_coded) (fun v hv => C_X11_coded hL 56 D (by omega) v hv) (Nat.le_of_ble_eq_true rfl) rfl rfl (fun y35 => ?_)
                                    refine Sg.go (pc' := 222) (mi_lcmp dX11_deedOf_221) ?_
                                    refine Sg.ite (fun h36 => ?_) (fun h36 => ?_)
                                    · refine Sg.go (pc' := 228) (mi_ifne_t (tgt := 228) dX11_deedOf_222 (by decide) h36) ?_
                                      refine Sg.go (pc' := 229) (mi_lload_n dX11_deedOf_228 rfl) ?_
                                      refine Sg.go (pc' := 231) (mi_ldcS (j := 57) (z := 57) dX11_deedOf_229 rfl rfl (by decide)) ?_
                                      refine Sg.callI (pc' := 234) (t := 1) (μ' := m_X11_coded) (args := [(29, 57)]) (mi_invS (n := 1) dX11_deedOf_231 rfl wN_X11_coded rfl ⟨by decide, by decide⟩ wL_X11_147 wT_X11_coded wB_X11 wC_X11_coded) (fun v hv => C_X11_coded hL 57 D (by omega) v hv) (Nat.le_of_ble_eq_true rfl) rfl rfl (fun y37 => ?_)
                                      refine Sg.go (pc' := 235) (mi_lcmp dX11_deedOf_234) ?_
                                      refine Sg.ite (fun h38 => ?_) (fun h38 => ?_)
                                      · refine Sg.go (pc' := 243) (mi_ifne_t (tgt := 243) dX11_deedOf_235 (by decide) h38) ?_
                                        refine Sg.go (pc' := 244) (mi_iconst (z := (-1)) dX11_deedOf_243 rfl) ?_
                                        exact Sg.ret (mi_ireturn dX11_deedOf_244 rfl (Or.inl rfl))
                                      · refine Sg.go (pc' := 238) (mi_ifne_f (tgt := 243) dX11_deedOf_235 (by decide) h38) ?_
                                        refine Sg.go (pc' := 240) (mi_bipush (z := 15) dX11_deedOf_238 rfl) ?_
                                        refine Sg.go (pc' := 244) (mi_goto (tgt := 244) dX11_deedOf_240 (by decide)) ?_
                                        exact Sg.ret (mi_ireturn dX11_deedOf_244 rfl (Or.inl rfl))
                                    · refine Sg.go (pc' := 225) (mi_ifne_f (tgt := 228) dX11_deedOf_222 (by decide) h36) ?_
                                      refine Sg.go (pc' := 227) (mi_bipush (z := 18) dX11_deedOf_225 rfl) ?_
                                      exact Sg.ret (mi_ireturn dX11_deedOf_227 rfl (Or.inl rfl))
                                  · refine Sg.go (pc' := 212) (mi_ifne_f (tgt := 215) dX11_deedOf_209 (by decide) h34) ?_
                                    refine Sg.go (pc' := 214) (mi_bipush (z := 17) dX11_deedOf_212 rfl) ?_
                                    exact Sg.ret (mi_ireturn dX11_deedOf_214 rfl (Or.inl rfl))
                                · refine Sg.go (pc' := 199) (mi_ifne_f (tgt := 202) dX11_deedOf_196 (by decide) h32) ?_
                                  refine Sg.go (pc' := 201) (mi_bipush (z := 16) dX11_deedOf_199 rfl) ?_
                                  exact Sg.ret (mi_ireturn dX11_deedOf_201 rfl (Or.inl rfl))
                              · refine Sg.go (pc' := 186) (mi_ifne_f (tgt := 189) dX11_deedOf_183 (by decide) h30) ?_
                                refine Sg.go (pc' := 188) (mi_bipush (z := 14) dX11_deedOf_186 rfl) ?_
                                exact Sg.ret (mi_ireturn dX11_deedOf_188 rfl (Or.inl rfl))
                            · refine Sg.go (pc' := 173) (mi_ifne_f (tgt := 176) dX11_deedOf_170 (by decide) h28) ?_
                              refine Sg.go (pc' := 175) (mi_bipush (z := 13) dX11_deedOf_173 rfl) ?_
                              exact Sg.ret (mi_ireturn dX11_deedOf_175 rfl (Or.inl rfl))
                          · refine Sg.go (pc' := 160) (mi_ifne_f (tgt := 163) dX11_deedOf_157 (by decide) h26) ?_
                            refine Sg.go (pc' := 162) (mi_bipush (z := 12) dX11_deedOf_160 rfl) ?_
                            exact Sg.ret (mi_ireturn dX11_deedOf_162 rfl (Or.inl rfl))
                        · refine Sg.go (pc' := 147) (mi_ifne_f (tgt := 150) dX11_deedOf_144 (by decide) h24) ?_
                          refine Sg.go (pc' := 149) (mi_bipush (z := 11) dX11_deedOf_147 rfl) ?_
                          exact Sg.ret (mi_ireturn dX11_deedOf_149 rfl (Or.inl rfl))
                      · refine Sg.go (pc' := 134) (mi_ifne_f (tgt := 137) dX11_deedOf_131 (by decide) h22) ?_
                        refine Sg.go (pc' := 136) (mi_bipush (z := 10) dX11_deedOf_134 rfl) ?_
                        exact Sg.ret (mi_ireturn dX11_deedOf_136 rfl (Or.inl rfl))
                    · refine Sg.go (pc' := 121) (mi_ifne_f (tgt := 124) dX11_deedOf_118 (by decide) h20) ?_
                      refine Sg.go (pc' := 123) (mi_bipush (z := 9) dX11_deedOf_121 rfl) ?_
                      exact Sg.ret (mi_ireturn dX11_deedOf_123 rfl (Or.inl rfl))
                  · refine Sg.go (pc' := 108) (mi_ifne_f (tgt := 111) dX11_deedOf_105 (by decide) h18) ?_
                    refine Sg.go (pc' := 110) (mi_bipush (z := 8) dX11_deedOf_108 rfl) ?_
                    exact Sg.ret (mi_ireturn dX11_deedOf_110 rfl (Or.inl rfl))
                · refine Sg.go (pc' := 95) (mi_ifne_f (tgt := 98) dX11_deedOf_92 (by decide) h16) ?_
                  refine Sg.go (pc' := 97) (mi_bipush (z := 7) dX11_deedOf_95 rfl) ?_
                  exact Sg.ret (mi_ireturn dX11_deedOf_97 rfl (Or.inl rfl))
              · refine Sg.go (pc' := 82) (mi_ifne_f (tgt := 85) dX11_deedOf_79 (by decide) h14) ?_
                refine Sg.go (pc' := 84) (mi_bipush (z := 6) dX11_deedOf_82 rfl) ?_
                exact Sg.ret (mi_ireturn dX11_deedOf_84 rfl (Or.inl rfl))
            · refine Sg.go (pc' := 70) (mi_ifne_f (tgt := 72) dX11_deedOf_67 (by decide) h12) ?_
              refine Sg.go (pc' := 71) (mi_iconst (z := 5) dX11_deedOf_70 rfl) ?_
              exact Sg.ret (mi_ireturn dX11_deedOf_71 rfl (Or.inl rfl))
          · refine Sg.go (pc' := 58) (mi_ifne_f (tgt := 60) dX11_deedOf_55 (by decide) h10) ?_
            refine Sg.go (pc' := 59) (mi_iconst (z := 4) dX11_deedOf_58 rfl) ?_
            exact Sg.ret (mi_ireturn dX11_deedOf_59 rfl (Or.inl rfl))
        · refine Sg.go (pc' := 46) (mi_ifne_f (tgt := 48) dX11_deedOf_43 (by decide) h8) ?_
          refine Sg.go (pc' := 47) (mi_iconst (z := 3) dX11_deedOf_46 rfl) ?_
          exact Sg.ret (mi_ireturn dX11_deedOf_47 rfl (Or.inl rfl))
      · refine Sg.go (pc' := 34) (mi_ifne_f (tgt := 36) dX11_deedOf_31 (by decide) h6) ?_
        refine Sg.go (pc' := 35) (mi_iconst (z := 2) dX11_deedOf_34 rfl) ?_
        exact Sg.ret (mi_ireturn dX11_deedOf_35 rfl (Or.inl rfl))
    · refine Sg.go (pc' := 22) (mi_ifne_f (tgt := 24) dX11_deedOf_19 (by decide) h4) ?_
      refine Sg.go (pc' := 23) (mi_iconst (z := 1) dX11_deedOf_22 rfl) ?_
      exact Sg.ret (mi_ireturn dX11_deedOf_23 rfl (Or.inl rfl))
  · refine Sg.go (pc' := 10) (mi_ifne_f (tgt := 12) dX11_deedOf_7 (by decide) h2) ?_
    refine Sg.go (pc' := 11) (mi_iconst (z := 0) dX11_deedOf_10 rfl) ?_
    exact Sg.ret (mi_ireturn dX11_deedOf_11 rfl (Or.inl rfl))
theorem C_X11_deedOf {Z : MiZ} (hL : ML Z) (a0 : Int) (D : MiD) (b : Int) (hb : B_X11_deedOf D a0 = some b) : MC m_X11_deedOf [(1, a0)] (D, Z) ((mi_LI 0 (D, Z)) b) := MC.ofSg (L := (mi_LI 0 (D, Z))) (μ := m_X11_deedOf) (args := [(1, a0)]) (M := (D, Z)) rfl wP_X11 (Nat.le_of_ble_eq_true rfl) (show Sg m_X11_deedOf 0 [(1, a0), mi_un] [] (D, Z) (mi_LI 0 (D, Z)) (B_X11_deedOf D a0) from S_X11_deedOf hL a0) hb
abbrev m_X11_takes : MiI := (yX11_takes, cX11_takes, 2, (some .boolean), 6, none)
def B_X11_takes (v1 : Int) (D : MiD) : Option (Int × MiD) := mi_bi (B_X11_fine D) fun y1 => if y1 = 0 then (some (0, D)) else (mi_b2 (B_X11_wordHere D) fun y3 D4 => mi_bi (B_X11_coded D4 v1) fun y5 => if (mi_cmp y3 y5) = 0 then (mi_bi (B_X11_skipWord_0 mi_fuel D4) fun D7 => some (1, D7)) else (some (0, D4)))
set_option maxRecDepth 20000 in
theorem S_X11_takes {Z : MiZ} (hL : ML Z) (v1 : Int) (D : MiD) : (0 ≤ v1 ∧ v1 < 64) → Sg m_X11_takes 0 [(42, 0), (29, v1)] [] (D, Z) (mi_LD 0 Z) (B_X11_takes v1 D) := by
  intro hb1
  unfold B_X11_takes
  refine Sg.go (pc' := 1) (mi_aload_n dX11_takes_0 rfl) ?_
  refine Sg.callI (pc' := 4) (t := 0) (μ' := m_X11_fine) (args := [(42, 0)]) (mi_invV (n := 0) (r := 40) dX11_takes_1 hC_40 (by omega) rfl rfl wN_X11_fine rfl ⟨by decide, by decide⟩ wL_X11_100 wI_X11_fine wS_X11_fine wB_X11 wC_X11_fine) (fun v hv => C_X11_fine hL D v hv) (Nat.le_of_ble_eq_true rfl) rfl rfl (fun y1 => ?_)
  refine Sg.ite (fun h2 => ?_) (fun h2 => ?_)
  · refine Sg.go (pc' := 19) (mi_ifeq_t (tgt := 19) dX11_takes_4 (by decide) h2) ?_
    refine Sg.go (pc' := 20) (mi_iconst (z := 0) dX11_takes_19 rfl) ?_
    exact Sg.ret (mi_ireturn dX11_takes_20 rfl (Or.inr (Or.inl ⟨rfl, Or.inl rfl⟩)))
  · refine Sg.go (pc' := 7) (mi_ifeq_f (tgt := 19) dX11_takes_4 (by decide) h2) ?_
    refine Sg.go (pc' := 8) (mi_aload_n dX11_takes_7 rfl) ?_
    refine Sg.callD (pc' := 11) (t := 1) (μ' := m_X11_wordHere) (args := [(42, 0)]) (mi_invV (n := 0) (r := 40) dX11_takes_8 hC_40 (by omega) rfl rfl wN_X11_wordHere rfl ⟨by decide, by decide⟩ wL_X11_143 wI_X11_wordHere wS_X11_wordHere wB_X11 wC_X11_wordHere) (fun v hv => C_X11_wordHere hL D v hv) (Nat.le_of_ble_eq_true rfl) rfl rfl (fun y3 D4 => ?_)
    refine Sg.go (pc' := 12) (mi_aload_n dX11_takes_11 rfl) ?_
    refine Sg.callI (pc' := 15) (t := 1) (μ' := m_X11_coded) (args := [(29, v1)]) (mi_invS (n := 1) dX11_takes_12 rfl wN_X11_coded rfl ⟨by decide, by decide⟩ wL_X11_147 wT_X11_coded wB_X11 wC_X11_coded) (fun v hv => C_X11_coded hL v1 D4 (by omega) v hv) (Nat.le_of_ble_eq_true rfl) rfl rfl (fun y5 => ?_)
    refine Sg.go (pc' := 16) (mi_lcmp dX11_takes_15) ?_
    refine Sg.ite (fun h6 => ?_) (fun h6 => ?_)
    · refine Sg.go (pc' := 21) (mi_ifeq_t (tgt := 21) dX11_takes_16 (by decide) h6) ?_
      refine Sg.go (pc' := 22) (mi_aload_n dX11_takes_21 rfl) ?_
      refine Sg.callV (pc' := 25) (μ' := m_X11_skipWord) (args := [(42, 0)]) (mi_invV (n := 0) (r := 40) dX11_takes_22 hC_40 (by omega) rfl rfl wN_X11_skipWord rfl ⟨by decide, by decide⟩ wL_X11_151 wI_X11_skipWord wS_X11_skipWord wB_X11 wC_X11_skipWord) (fun v hv => C_X11_skipWord hL D4 v hv) (Nat.le_of_ble_eq_true rfl) rfl rfl (fun D7 => ?_)
      refine Sg.go (pc' := 26) (mi_iconst (z := 1) dX11_takes_25 rfl) ?_
      exact Sg.ret (mi_ireturn dX11_takes_26 rfl (Or.inr (Or.inl ⟨rfl, Or.inr rfl⟩)))
    · refine Sg.go (pc' := 19) (mi_ifeq_f (tgt := 21) dX11_takes_16 (by decide) h6) ?_
      refine Sg.go (pc' := 20) (mi_iconst (z := 0) dX11_takes_19 rfl) ?_
      exact Sg.ret (mi_ireturn dX11_takes_20 rfl (Or.inr (Or.inl ⟨rfl, Or.inl rfl⟩)))
theorem C_X11_takes {Z : MiZ} (hL : ML Z) (a1 : Int) (D : MiD) (h0 : (0 ≤ a1 ∧ a1 < 64)) (b : Int × MiD) (hb : B_X11_takes a1 D = some b) : MC m_X11_takes [(42, 0), (29, a1)] (D, Z) ((mi_LD 0 Z) b) := MC.ofSg (L := (mi_LD 0 Z)) (μ := m_X11_takes) (args := [(42, 0), (29, a1)]) (M := (D, Z)) rfl wP_X11 (Nat.le_of_ble_eq_true rfl) (show Sg m_X11_takes 0 [(42, 0), (29, a1)] [] (D, Z) (mi_LD 0 Z) (B_X11_takes a1 D) from S_X11_takes hL a1 D h0) hb
abbrev m_X11_readsDeed : MiI := (yX11_readsDeed, cX11_readsDeed, 4, none, 7, none)
def B_X11_readsDeed_145 (v1 : Int) (D : MiD) : Option (MiD) := mi_b2 (B_X11_number 0 99 D) fun y1 D2 => mi_let (mi_st D2 46 v1 1 y1) fun D3 => some D3
set_option maxRecDepth 20000 in
theorem S_X11_readsDeed_145 {Z : MiZ} (hL : ML Z) (v1 : Int) (D : MiD) : (0 ≤ v1 ∧ v1 < 2664) → Sg m_X11_readsDeed 145 [(42, 0), (48, v1), mi_un, mi_un] [] (D, Z) (mi_LV Z) (B_X11_readsDeed_145 v1 D) := by
  intro hb1
  unfold B_X11_readsDeed_145
  refine Sg.go (pc' := 146) (mi_aload_n dX11_readsDeed_145 rfl) ?_
  refine Sg.go (pc' := 147) (mi_iconst (z := 1) dX11_readsDeed_146 rfl) ?_
  refine Sg.go (pc' := 148) (mi_aload_n dX11_readsDeed_147 rfl) ?_
  refine Sg.go (pc' := 149) (mi_iconst (z := 0) dX11_readsDeed_148 rfl) ?_
  refine Sg.go (pc' := 151) (mi_bipush (z := 99) dX11_readsDeed_149 rfl) ?_
  refine Sg.callD (pc' := 154) (t := 0) (μ' := m_X11_number) (args := [(42, 0), (0, 0), (0, 99)]) (mi_invV (n := 2) (r := 40) dX11_readsDeed_151 hC_40 (by omega) rfl rfl wN_X11_number rfl ⟨by decide, by decide⟩ wL_X11_194 wI_X11_number wS_X11_number wB_X11 wC_X11_number) (fun v hv => C_X11_number hL 0 99 D v hv) (Nat.le_of_ble_eq_true rfl) rfl rfl (fun y1 D2 => ?_)
  refine Sg.goM (pc' := 155) (mi_iast (n := 6) dX11_readsDeed_154 rfl rfl (by omega) (by decide)) ?_
  refine Sg.letD (fun D3 hD3 => ?_)
  refine Sg.go (pc' := 355) (mi_goto (tgt := 355) dX11_readsDeed_155 (by decide)) ?_
  exact Sg.ret (mi_return dX11_readsDeed_355 rfl (0, 0))
def B_X11_readsDeed_185 (v1 : Int) (D : MiD) : Option (MiD) := mi_b2 (B_X11_kindHere 8 D) fun y1 D2 => mi_let (mi_st D2 46 v1 1 y1) fun D3 => mi_b2 (B_X11_rowHere D3) fun y4 D5 => mi_let (mi_st D5 46 v1 2 y4) fun D6 => mi_b2 (B_X11_number 0 9 D6) fun y7 D8 => mi_let (mi_st D8 46 v1 3 y7) fun D9 => if (D9 46 v1 0) ≠ 11 then (some D9) else (mi_b2 (B_X11_signed D9) fun y11 D12 => mi_let (mi_st D12 46 v1 4 y11) fun D13 => some D13)
set_option maxRecDepth 20000 in
theorem S_X11_readsDeed_185 {Z : MiZ} (hL : ML Z) (v1 : Int) (D : MiD) : (0 ≤ v1 ∧ v1 < 2664) → Sg m_X11_readsDeed 185 [(42, 0), (48, v1), mi_un, mi_un] [] (D, Z) (mi_LV Z) (B_X11_readsDeed_185 v1 D) := by
  intro hb1
  unfold B_X11_readsDeed_185
  refine Sg.go (pc' := 186) (mi_aload_n dX11_readsDeed_185 rfl) ?_
  refine Sg.go (pc' := 187) (mi_iconst (z := 1) dX11_readsDeed_186 rfl) ?_
  refine Sg.go (pc' := 188) (mi_aload_n dX11_readsDeed_187 rfl) ?_
  refine Sg.go (pc' := 190) (mi_bipush (z := 8) dX11_readsDeed_188 rfl) ?_
  refine Sg.callD (pc' := 193) (t := 0) (μ' := m_X11_kindHere) (args := [(42, 0), (0, 8)]) (mi_invV (n := 1) (r := 40) dX11_readsDeed_190 hC_40 (by omega) rfl rfl wN_X11_kindHere rfl ⟨by decide, by decide⟩ wL_X11_201 wI_X11_kindHere wS_X11_kindHere wB_X11 wC_X11_kindHere) (fun v hv => C_X11_kindHere hL 8 D v hv) (Nat.le_of_ble_eq_true rfl) rfl rfl (fun y1 D2 => ?_)
  refine Sg.goM (pc' := 194) (mi_iast (n := 6) dX11_readsDeed_193 rfl rfl (by omega) (by decide)) ?_
  refine Sg.letD (fun D3 hD3 => ?_)
  refine Sg.go (pc' := 195) (mi_aload_n dX11_readsDeed_194 rfl) ?_
  refine Sg.go (pc' := 196) (mi_iconst (z := 2) dX11_readsDeed_195 rfl) ?_
  refine Sg.go (pc' := 197) (mi_aload_n dX11_readsDeed_196 rfl) ?_
  refine Sg.callD (pc' := 200) (t := 0) (μ' := m_X11_rowHere) (args := [(42, 0)]) (mi_invV (n := 0) (r := 40) dX11_readsDeed_197 hC_40 (by omega) rfl rfl wN_X11_rowHere rfl ⟨by decide, by decide⟩ wL_X11_211 wI_X11_rowHere wS_X11_rowHere wB_X11 wC_X11_rowHere) (fun v hv => C_X11_rowHere hL D3 v hv) (Nat.le_of_ble_eq_true rfl) rfl rfl (fun y4 D5 => ?_)
  refine Sg.goM (pc' := 201) (mi_iast (n := 6) dX11_readsDeed_200 rfl rfl (by omega) (by decide)) ?_
  refine Sg.letD (fun D6 hD6 => ?_)
  refine Sg.go (pc' := 202) (mi_aload_n dX11_readsDeed_201 rfl) ?_
  refine Sg.go (pc' := 203) (mi_iconst (z := 3) dX11_readsDeed_202 rfl) ?_
  refine Sg.go (pc' := 204) (mi_aload_n dX11_readsDeed_203 rfl) ?_
  refine Sg.go (pc' := 205) (mi_iconst (z := 0) dX11_readsDeed_204 rfl) ?_
  refine Sg.go (pc' := 207) (mi_bipush (z := 9) dX11_readsDeed_205 rfl) ?_
  refine Sg.callD (pc' := 210) (t := 0) (μ' := m_X11_number) (args := [(42, 0), (0, 0), (0, 9)]) (mi_invV (n := 2) (r := 40) dX11_readsDeed_207 hC_40 (by omega) rfl rfl wN_X11_number rfl ⟨by decide, by decide⟩ wL_X11_194 wI_X11_number wS_X11_number wB_X11 wC_X11_number) (fun v hv => C_X11_number hL 0 9 D6 v hv) (Nat.le_of_ble_eq_true rfl) rfl rfl (fun y7 D8 => ?_)
  refine Sg.goM (pc' := 211) (mi_iast (n := 6) dX11_readsDeed_210 rfl rfl (by omega) (by decide)) ?_
  refine Sg.letD (fun D9 hD9 => ?_)
  refine Sg.go (pc' := 212) (mi_aload_n dX11_readsDeed_211 rfl) ?_
  refine Sg.go (pc' := 213) (mi_iconst (z := 0) dX11_readsDeed_212 rfl) ?_
  refine Sg.go (pc' := 214) (mi_iald (n := 6) dX11_readsDeed_213 rfl rfl (by omega) (by decide)) ?_
  refine Sg.go (pc' := 216) (mi_bipush (z := 11) dX11_readsDeed_214 rfl) ?_
  refine Sg.ite (fun h10 => ?_) (fun h10 => ?_)
  · refine Sg.go (pc' := 355) (mi_icmpne_t (tgt := 355) dX11_readsDeed_216 (by decide) h10) ?_
    exact Sg.ret (mi_return dX11_readsDeed_355 rfl (0, 0))
  · refine Sg.go (pc' := 219) (mi_icmpne_f (tgt := 355) dX11_readsDeed_216 (by decide) h10) ?_
    refine Sg.go (pc' := 220) (mi_aload_n dX11_readsDeed_219 rfl) ?_
    refine Sg.go (pc' := 221) (mi_iconst (z := 4) dX11_readsDeed_220 rfl) ?_
    refine Sg.go (pc' := 222) (mi_aload_n dX11_readsDeed_221 rfl) ?_
    refine Sg.callD (pc' := 225) (t := 0) (μ' := m_X11_signed) (args := [(42, 0)]) (mi_invV (n := 0) (r := 40) dX11_readsDeed_222 hC_40 (by omega) rfl rfl wN_X11_signed rfl ⟨by decide, by decide⟩ wL_X11_204 wI_X11_signed wS_X11_signed wB_X11 wC_X11_signed) (fun v hv => C_X11_signed hL D9 v hv) (Nat.le_of_ble_eq_true rfl) rfl rfl (fun y11 D12 => ?_)
    refine Sg.goM (pc' := 226) (mi_iast (n := 6) dX11_readsDeed_225 rfl rfl (by omega) (by decide)) ?_
    refine Sg.letD (fun D13 hD13 => ?_)
    refine Sg.go (pc' := 355) (mi_goto (tgt := 355) dX11_readsDeed_226 (by decide)) ?_
    exact Sg.ret (mi_return dX11_readsDeed_355 rfl (0, 0))
def B_X11_readsDeed_229 (v1 : Int) (D : MiD) : Option (MiD) := mi_b2 (B_X11_rowHere D) fun y1 D2 => mi_let (mi_st D2 46 v1 2 y1) fun D3 => mi_b2 (B_X11_number 0 9 D3) fun y4 D5 => mi_let (mi_st D5 46 v1 3 y4) fun D6 => some D6
set_option maxRecDepth 20000 in
theorem S_X11_readsDeed_229 {Z : MiZ} (hL : ML Z) (v1 : Int) (D : MiD) : (0 ≤ v1 ∧ v1 < 2664) → Sg m_X11_readsDeed 229 [(42, 0), (48, v1), mi_un, mi_un] [] (D, Z) (mi_LV Z) (B_X11_readsDeed_229 v1 D) := by
  intro hb1
  unfold B_X11_readsDeed_229
  refine Sg.go (pc' := 230) (mi_aload_n dX11_readsDeed_229 rfl) ?_
  refine Sg.go (pc' := 231) (mi_iconst (z := 2) dX11_readsDeed_230 rfl) ?_
  refine Sg.go (pc' := 232) (mi_aload_n dX11_readsDeed_231 rfl) ?_
  refine Sg.callD (pc' := 235) (t := 0) (μ' := m_X11_rowHere) (args := [(42, 0)]) (mi_invV (n := 0) (r := 40) dX11_readsDeed_232 hC_40 (by omega) rfl rfl wN_X11_rowHere rfl ⟨by decide, by decide⟩ wL_X11_211 wI_X11_rowHere wS_X11_rowHere wB_X11 wC_X11_rowHere) (fun v hv => C_X11_rowHere hL D v hv) (Nat.le_of_ble_eq_true rfl) rfl rfl (fun y1 D2 => ?_)
  refine Sg.goM (pc' := 236) (mi_iast (n := 6) dX11_readsDeed_235 rfl rfl (by omega) (by decide)) ?_
  refine Sg.letD (fun D3 hD3 => ?_)
  refine Sg.go (pc' := 237) (mi_aload_n dX11_readsDeed_236 rfl) ?_
  refine Sg.go (pc' := 238) (mi_iconst (z := 3) dX11_readsDeed_237 rfl) ?_
  refine Sg.go (pc' := 239) (mi_aload_n dX11_readsDeed_238 rfl) ?_
  refine Sg.go (pc' := 240) (mi_iconst (z := 0) dX11_readsDeed_239 rfl) ?_
  refine Sg.go (pc' := 242) (mi_bipush (z := 9) dX11_readsDeed_240 rfl) ?_
  refine Sg.callD (pc' := 245) (t := 0) (μ' := m_X11_number) (args := [(42, 0), (0, 0), (0, 9)]) (mi_invV (n := 2) (r := 40) dX11_readsDeed_242 hC_40 (by omega) rfl rfl wN_X11_number rfl ⟨by decide, by decide⟩ wL_X11_194 wI_X11_number wS_X11_number wB_X11 wC_X11_number) (fun v hv => C_X11_number hL 0 9 D3 v hv) (Nat.le_of_ble_eq_true rfl) rfl rfl (fun y4 D5 => ?_)
  refine Sg.goM (pc' := 246) (mi_iast (n := 6) dX11_readsDeed_245 rfl rfl (by omega) (by decide)) ?_
  refine Sg.letD (fun D6 hD6 => ?_)
  refine Sg.go (pc' := 355) (mi_goto (tgt := 355) dX11_readsDeed_246 (by decide)) ?_
  exact Sg.ret (mi_return dX11_readsDeed_355 rfl (0, 0))
def B_X11_readsDeed_249 (v1 : Int) (D : MiD) : Option (MiD) := mi_b2 (B_X11_number 0 9 D) fun y1 D2 => mi_let (mi_st D2 46 v1 2 y1) fun D3 => mi_b2 (B_X11_number 0 4 D3) fun y4 D5 => mi_let (mi_st D5 46 v1 3 y4) fun D6 => if (D6 46 v1 0) ≠ 15 then (mi_b2 (B_X11_kindHere 11 D6) fun y8 D9 => mi_let (mi_st D9 46 v1 1 y8) fun D10 => mi_b2 (B_X11_number 0 9 D10) fun y11 D12 => mi_let (mi_st D12 46 v1 4 y11) fun D13 => some D13) else (some D6)
set_option maxRecDepth 20000 in
theorem S_X11_readsDeed_249 {Z : MiZ} (hL : ML Z) (v1 : Int) (D : MiD) : (0 ≤ v1 ∧ v1 < 2664) → Sg m_X11_readsDeed 249 [(42, 0), (48, v1), mi_un, mi_un] [] (D, Z) (mi_LV Z) (B_X11_readsDeed_249 v1 D) := by
  intro hb1
  unfold B_X11_readsDeed_249
  refine Sg.go (pc' := 250) (mi_aload_n dX11_readsDeed_249 rfl) ?_
  refine Sg.go (pc' := 251) (mi_iconst (z := 2) dX11_readsDeed_250 rfl) ?_
  refine Sg.go (pc' := 252) (mi_aload_n dX11_readsDeed_251 rfl) ?_
  refine Sg.go (pc' := 253) (mi_iconst (z := 0) dX11_readsDeed_252 rfl) ?_
  refine Sg.go (pc' := 255) (mi_bipush (z := 9) dX11_readsDeed_253 rfl) ?_
  refine Sg.callD (pc' := 258) (t := 0) (μ' := m_X11_number) (args := [(42, 0), (0, 0), (0, 9)]) (mi_invV (n := 2) (r := 40) dX11_readsDeed_255 hC_40 (by omega) rfl rfl wN_X11_number rfl ⟨by decide, by decide⟩ wL_X11_194 wI_X11_number wS_X11_number wB_X11 wC_X11_number) (fun v hv => C_X11_number hL 0 9 D v hv) (Nat.le_of_ble_eq_true rfl) rfl rfl (fun y1 D2 => ?_)
  refine Sg.goM (pc' := 259) (mi_iast (n := 6) dX11_readsDeed_258 rfl rfl (by omega) (by decide)) ?_
  refine Sg.letD (fun D3 hD3 => ?_)
  refine Sg.go (pc' := 260) (mi_aload_n dX11_readsDeed_259 rfl) ?_
  refine Sg.go (pc' := 261) (mi_iconst (z := 3) dX11_readsDeed_260 rfl) ?_
  refine Sg.go (pc' := 262) (mi_aload_n dX11_readsDeed_261 rfl) ?_
  refine Sg.go (pc' := 263) (mi_iconst (z := 0) dX11_readsDeed_262 rfl) ?_
  refine Sg.go (pc' := 264) (mi_iconst (z := 4) dX11_readsDeed_263 rfl) ?_
  refine Sg.callD (pc' := 267) (t := 0) (μ' := m_X11_number) (args := [(42, 0), (0, 0), (0, 4)]) (mi_invV (n := 2) (r := 40) dX11_readsDeed_264 hC_40 (by omega) rfl rfl wN_X11_number rfl ⟨by decide, by decide⟩ wL_X11_194 wI_X11_number wS_X11_number wB_X11 wC_X11_number) (fun v hv => C_X11_number hL 0 4 D3 v hv) (Nat.le_of_ble_eq_true rfl) rfl rfl (fun y4 D5 => ?_)
  refine Sg.goM (pc' := 268) (mi_iast (n := 6) dX11_readsDeed_267 rfl rfl (by omega) (by decide)) ?_
  refine Sg.letD (fun D6 hD6 => ?_)
  refine Sg.go (pc' := 269) (mi_aload_n dX11_readsDeed_268 rfl) ?_
  refine Sg.go (pc' := 270) (mi_iconst (z := 0) dX11_readsDeed_269 rfl) ?_
  refine Sg.go (pc' := 271) (mi_iald (n := 6) dX11_readsDeed_270 rfl rfl (by omega) (by decide)) ?_
  refine Sg.go (pc' := 273) (mi_bipush (z := 15) dX11_readsDeed_271 rfl) ?_
  refine Sg.ite (fun h7 => ?_) (fun h7 => ?_)
  · refine Sg.go (pc' := 279) (mi_icmpne_t (tgt := 279) dX11_readsDeed_273 (by decide) h7) ?_
    refine Sg.go (pc' := 280) (mi_aload_n dX11_readsDeed_279 rfl) ?_
    refine Sg.go (pc' := 281) (mi_iconst (z := 1) dX11_readsDeed_280 rfl) ?_
    refine Sg.go (pc' := 282) (mi_aload_n dX11_readsDeed_281 rfl) ?_
    refine Sg.go (pc' := 284) (mi_bipush (z := 11) dX11_readsDeed_282 rfl) ?_
    refine Sg.callD (pc' := 287) (t := 0) (μ' := m_X11_kindHere) (args := [(42, 0), (0, 11)]) (mi_invV (n := 1) (r := 40) dX11_readsDeed_284 hC_40 (by omega) rfl rfl wN_X11_kindHere rfl ⟨by decide, by decide⟩ wL_X11_201 wI_X11_kindHere wS_X11_kindHere wB_X11 wC_X11_kindHere) (fun v hv => C_X11_kindHere hL 11 D6 v hv) (Nat.le_of_ble_eq_true rfl) rfl rfl (fun y8 D9 => ?_)
    refine Sg.goM (pc' := 288) (mi_iast (n := 6) dX11_readsDeed_287 rfl rfl (by omega) (by decide)) ?_
    refine Sg.letD (fun D10 hD10 => ?_)
    refine Sg.go (pc' := 289) (mi_aload_n dX11_readsDeed_288 rfl) ?_
    refine Sg.go (pc' := 290) (mi_iconst (z := 4) dX11_readsDeed_289 rfl) ?_
    refine Sg.go (pc' := 291) (mi_aload_n dX11_readsDeed_290 rfl) ?_
    refine Sg.go (pc' := 292) (mi_iconst (z := 0) dX11_readsDeed_291 rfl) ?_
    refine Sg.go (pc' := 294) (mi_bipush (z := 9) dX11_readsDeed_292 rfl) ?_
    refine Sg.callD (pc' := 297) (t := 0) (μ' := m_X11_number) (args := [(42, 0), (0, 0), (0, 9)]) (mi_invV (n := 2) (r := 40) dX11_readsDeed_294 hC_40 (by omega) rfl rfl wN_X11_number rfl ⟨by decide, by decide⟩ wL_X11_194 wI_X11_number wS_X11_number wB_X11 wC_X11_number) (fun v hv => C_X11_number hL 0 9 D10 v hv) (Nat.le_of_ble_eq_true rfl) rfl rfl (fun y11 D12 => ?_)
    refine Sg.goM (pc' := 298) (mi_iast (n := 6) dX11_readsDeed_297 rfl rfl (by omega) (by decide)) ?_
    refine Sg.letD (fun D13 hD13 => ?_)
    refine Sg.go (pc' := 355) (mi_goto (tgt := 355) dX11_readsDeed_298 (by decide)) ?_
    exact Sg.ret (mi_return dX11_readsDeed_355 rfl (0, 0))
  · refine Sg.go (pc' := 276) (mi_icmpne_f (tgt := 279) dX11_readsDeed_273 (by decide) h7) ?_
    refine Sg.go (pc' := 355) (mi_goto (tgt := 355) dX11_readsDeed_276 (by decide)) ?_
    exact Sg.ret (mi_return dX11_readsDeed_355 rfl (0, 0))
def B_X11_readsDeed_301 (v1 : Int) (D : MiD) : Option (MiD) := mi_b2 (B_X11_number 0 9 D) fun y1 D2 => mi_let (mi_st D2 46 v1 2 y1) fun D3 => mi_b2 (B_X11_number 0 4 D3) fun y4 D5 => mi_let (mi_st D5 46 v1 3 y4) fun D6 => some D6
set_option maxRecDepth 20000 in
theorem S_X11_readsDeed_301 {Z : MiZ} (hL : ML Z) (v1 : Int) (D : MiD) : (0 ≤ v1 ∧ v1 < 2664) → Sg m_X11_readsDeed 301 [(42, 0), (48, v1), mi_un, mi_un] [] (D, Z) (mi_LV Z) (B_X11_readsDeed_301 v1 D) := by
  intro hb1
  unfold B_X11_readsDeed_301
  refine Sg.go (pc' := 302) (mi_aload_n dX11_readsDeed_301 rfl) ?_
  refine Sg.go (pc' := 303) (mi_iconst (z := 2) dX11_readsDeed_302 rfl) ?_
  refine Sg.go (pc' := 304) (mi_aload_n dX11_readsDeed_303 rfl) ?_
  refine Sg.go (pc' := 305) (mi_iconst (z := 0) dX11_readsDeed_304 rfl) ?_
  refine Sg.go (pc' := 307) (mi_bipush (z := 9) dX11_readsDeed_305 rfl) ?_
  refine Sg.callD (pc' := 310) (t := 0) (μ' := m_X11_number) (args := [(42, 0), (0, 0), (0, 9)]) (mi_invV (n := 2) (r := 40) dX11_readsDeed_307 hC_40 (by omega) rfl rfl wN_X11_number rfl ⟨by decide, by decide⟩ wL_X11_194 wI_X11_number wS_X11_number wB_X11 wC_X11_number) (fun v hv => C_X11_number hL 0 9 D v hv) (Nat.le_of_ble_eq_true rfl) rfl rfl (fun y1 D2 => ?_)
  refine Sg.goM (pc' := 311) (mi_iast (n := 6) dX11_readsDeed_310 rfl rfl (by omega) (by decide)) ?_
  refine Sg.letD (fun D3 hD3 => ?_)
  refine Sg.go (pc' := 312) (mi_aload_n dX11_readsDeed_311 rfl) ?_
  refine Sg.go (pc' := 313) (mi_iconst (z := 3) dX11_readsDeed_312 rfl) ?_
  refine Sg.go (pc' := 314) (mi_aload_n dX11_readsDeed_313 rfl) ?_
  refine Sg.go (pc' := 315) (mi_iconst (z := 0) dX11_readsDeed_314 rfl) ?_
  refine Sg.go (pc' := 316) (mi_iconst (z := 4) dX11_readsDeed_315 rfl) ?_
  refine Sg.callD (pc' := 319) (t := 0) (μ' := m_X11_number) (args := [(42, 0), (0, 0), (0, 4)]) (mi_invV (n := 2) (r := 40) dX11_readsDeed_316 hC_40 (by omega) rfl rfl wN_X11_number rfl ⟨by decide, by decide⟩ wL_X11_194 wI_X11_number wS_X11_number wB_X11 wC_X11_number) (fun v hv => C_X11_number hL 0 4 D3 v hv) (Nat.le_of_ble_eq_true rfl) rfl rfl (fun y4 D5 => ?_)
  refine Sg.goM (pc' := 320) (mi_iast (n := 6) dX11_readsDeed_319 rfl rfl (by omega) (by decide)) ?_
  refine Sg.letD (fun D6 hD6 => ?_)
  refine Sg.go (pc' := 355) (mi_goto (tgt := 355) dX11_readsDeed_320 (by decide)) ?_
  exact Sg.ret (mi_return dX11_readsDeed_355 rfl (0, 0))
def B_X11_readsDeed_28 (v1 : Int) (D : MiD) : Option (MiD) := mi_bi (B_X11_fine D) fun y1 => if y1 ≠ 0 then (mi_bi (B_X11_skipWord_0 mi_fuel D) fun D3 => if (D3 46 v1 0) = 0 then (mi_b2 (B_X11_number 0 11 D3) fun y6 D7 => mi_let (mi_st D7 46 v1 1 y6) fun D8 => some D8) else (if (D3 46 v1 0) = 1 then (some D3) else (if (D3 46 v1 0) = 2 then (some D3) else (if (D3 46 v1 0) = 3 then (B_X11_readsDeed_145 v1 D3) else (if (D3 46 v1 0) = 4 then (B_X11_readsDeed_145 v1 D3) else (if (D3 46 v1 0) = 5 then (some D3) else (if (D3 46 v1 0) = 6 then (some D3) else (if (D3 46 v1 0) = 7 then (mi_b2 (B_X11_kindHere 8 D3) fun y16 D17 => mi_let (mi_st D17 46 v1 1 y16) fun D18 => mi_b2 (B_X11_signed D18) fun y19 D20 => mi_let (mi_st D20 46 v1 2 y19) fun D21 => some D21) else (if (D3 46 v1 0) = 8 then (mi_bi (B_X11_readsText v1 D3) fun D23 => some D23) else (if (D3 46 v1 0) = 9 then (some D3) else (if (D3 46 v1 0) = 10 then (B_X11_readsDeed_185 v1 D3) else (if (D3 46 v1 0) = 11 then (B_X11_readsDeed_185 v1 D3) else (if (D3 46 v1 0) = 12 then (B_X11_readsDeed_229 v1 D3) else (if (D3 46 v1 0) = 13 then (B_X11_readsDeed_229 v1 D3) else (if (D3 46 v1 0) = 14 then (B_X11_readsDeed_249 v1 D3) else (if (D3 46 v1 0) = 15 then (B_X11_readsDeed_249 v1 D3) else (if (D3 46 v1 0) = 16 then (mi_b2 (B_X11_number 0 9 D3) fun y32 D33 => mi_let (mi_st D33 46 v1 2 y32) fun D34 => mi_b2 (B_X11_kindHere 11 D34) fun y35 D36 => mi_let (mi_st D36 46 v1 1 y35) fun D37 => mi_b2 (B_X11_number 0 9 D37) fun y38 D39 => mi_let (mi_st D39 46 v1 4 y38) fun D40 => some D40) else (if (D3 46 v1 0) = 17 then (B_X11_readsDeed_301 v1 D3) else (if (D3 46 v1 0) = 18 then (B_X11_readsDeed_301 v1 D3) else (some D3)))))))))))))))))))) else (some D)
set_option maxRecDepth 20000 in
theorem S_X11_readsDeed_28 {Z : MiZ} (hL : ML Z) (v1 : Int) (D : MiD) : (0 ≤ v1 ∧ v1 < 2664) → Sg m_X11_readsDeed 28 [(42, 0), (48, v1), mi_un, mi_un] [] (D, Z) (mi_LV Z) (B_X11_readsDeed_28 v1 D) := by
  intro hb1
  unfold B_X11_readsDeed_28
  refine Sg.go (pc' := 29) (mi_aload_n dX11_readsDeed_28 rfl) ?_
  refine Sg.callI (pc' := 32) (t := 0) (μ' := m_X11_fine) (args := [(42, 0)]) (mi_invV (n := 0) (r := 40) dX11_readsDeed_29 hC_40 (by omega) rfl rfl wN_X11_fine rfl ⟨by decide, by decide⟩ wL_X11_100 wI_X11_fine wS_X11_fine wB_X11 wC_X11_fine) (fun v hv => C_X11_fine hL D v hv) (Nat.le_of_ble_eq_true rfl) rfl rfl (fun y1 => ?_)
  refine Sg.ite (fun h2 => ?_) (fun h2 => ?_)
  · refine Sg.go (pc' := 36) (mi_ifne_t (tgt := 36) dX11_readsDeed_32 (by decide) h2) ?_
    refine Sg.go (pc' := 37) (mi_aload_n dX11_readsDeed_36 rfl) ?_
    refine Sg.callV (pc' := 40) (μ' := m_X11_skipWord) (args := [(42, 0)]) (mi_invV (n := 0) (r := 40) dX11_readsDeed_37 hC_40 (by omega) rfl rfl wN_X11_skipWord rfl ⟨by decide, by decide⟩ wL_X11_151 wI_X11_skipWord wS_X11_skipWord wB_X11 wC_X11_skipWord) (fun v hv => C_X11_skipWord hL D v hv) (Nat.le_of_ble_eq_true rfl) rfl rfl (fun D3 => ?_)
    refine Sg.go (pc' := 41) (mi_aload_n dX11_readsDeed_40 rfl) ?_
    refine Sg.go (pc' := 42) (mi_iconst (z := 0) dX11_readsDeed_41 rfl) ?_
    refine Sg.go (pc' := 43) (mi_iald (n := 6) dX11_readsDeed_42 rfl rfl (by omega) (by decide)) ?_
    refine Sg.ite (fun h5 => ?_) (fun h5 => ?_)
    · refine Sg.go (pc' := 132) (mi_tabIn (tgt := 132) dX11_readsDeed_43 (by omega) (by omega) (by rw [h5]; rfl) (by decide)) ?_
      refine Sg.go (pc' := 133) (mi_aload_n dX11_readsDeed_132 rfl) ?_
      refine Sg.go (pc' := 134) (mi_iconst (z := 1) dX11_readsDeed_133 rfl) ?_
      refine Sg.go (pc' := 135) (mi_aload_n dX11_readsDeed_134 rfl) ?_
      refine Sg.go (pc' := 136) (mi_iconst (z := 0) dX11_readsDeed_135 rfl) ?_
      refine Sg.go (pc' := 138) (mi_bipush (z := 11) dX11_readsDeed_136 rfl) ?_
      refine Sg.callD (pc' := 141) (t := 0) (μ' := m_X11_number) (args := [(42, 0), (0, 0), (0, 11)]) (mi_invV (n := 2) (r := 40) dX11_readsDeed_138 hC_40 (by omega) rfl rfl wN_X11_number rfl ⟨by decide, by decide⟩ wL_X11_194 wI_X11_number wS_X11_number wB_X11 wC_X11_number) (fun v hv => C_X11_number hL 0 11 D3 v hv) (Nat.le_of_ble_eq_true rfl) rfl rfl (fun y6 D7 => ?_)
      refine Sg.goM (pc' := 142) (mi_iast (n := 6) dX11_readsDeed_141 rfl rfl (by omega) (by decide)) ?_
      refine Sg.letD (fun D8 hD8 => ?_)
      refine Sg.go (pc' := 355) (mi_goto (tgt := 355) dX11_readsDeed_142 (by decide)) ?_
      exact Sg.ret (mi_return dX11_readsDeed_355 rfl (0, 0))
    · refine Sg.ite (fun h9 => ?_) (fun h9 => ?_)
      · refine Sg.go (pc' := 355) (mi_tabIn (tgt := 355) dX11_readsDeed_43 (by omega) (by omega) (by rw [h9]; rfl) (by decide)) ?_
        exact Sg.ret (mi_return dX11_readsDeed_355 rfl (0, 0))
      · refine Sg.ite (fun h10 => ?_) (fun h10 => ?_)
        · refine Sg.go (pc' := 355) (mi_tabIn (tgt := 355) dX11_readsDeed_43 (by omega) (by omega) (by rw [h10]; rfl) (by decide)) ?_
          exact Sg.ret (mi_return dX11_readsDeed_355 rfl (0, 0))
        · refine Sg.ite (fun h11 => ?_) (fun h11 => ?_)
          · refine Sg.go (pc' := 145) (mi_tabIn (tgt := 145) dX11_readsDeed_43 (by omega) (by omega) (by rw [h11]; rfl) (by decide)) ?_
            exact S_X11_readsDeed_145 hL v1 D3 hb1
          · refine Sg.ite (fun h12 => ?_) (fun h12 => ?_)
            · refine Sg.go (pc' := 145) (mi_tabIn (tgt := 145) dX11_readsDeed_43 (by omega) (by omega) (by rw [h12]; rfl) (by decide)) ?_
              exact S_X11_readsDeed_145 hL v1 D3 hb1
            · refine Sg.ite (fun h13 => ?_) (fun h13 => ?_)
              · refine Sg.go (pc' := 355) (mi_tabIn (tgt := 355) dX11_readsDeed_43 (by omega) (by omega) (by rw [h13]; rfl) (by decide)) ?_
                exact Sg.ret (mi_return dX11_readsDeed_355 rfl (0, 0))
              · refine Sg.ite (fun h14 => ?_) (fun h14 => ?_)
                · refine Sg.go (pc' := 355) (mi_tabIn (tgt := 355) dX11_readsDeed_43 (by omega) (by omega) (by rw [h14]; rfl) (by decide)) ?_
                  exact Sg.ret (mi_return dX11_readsDeed_355 rfl (0, 0))
                · refine Sg.ite (fun h15 => ?_) (fun h15 => ?_)
                  · refine Sg.go (pc' := 158) (mi_tabIn (tgt := 158) dX11_readsDeed_43 (by omega) (by omega) (by rw [h15]; rfl) (by decide)) ?_
                    refine Sg.go (pc' := 159) (mi_aload_n dX11_readsDeed_158 rfl) ?_
                    refine Sg.go (pc' := 160) (mi_iconst (z := 1) dX11_readsDeed_159 rfl) ?_
                    refine Sg.go (pc' := 161) (mi_aload_n dX11_readsDeed_160 rfl) ?_
                    refine Sg.go (pc' := 163) (mi_bipush (z := 8) dX11_readsDeed_161 rfl) ?_
                    refine Sg.callD (pc' := 166) (t := 0) (μ' := m_X11_kindHere) (args := [(42, 0), (0, 8)]) (mi_invV (n := 1) (r := 40) dX11_readsDeed_163 hC_40 (by omega) rfl rfl wN_X11_kindHere rfl ⟨by decide, by decide⟩ wL_X11_201 wI_X11_kindHere wS_X11_kindHere wB_X11 wC_X11_kindHere) (fun v hv => C_X11_kindHere hL 8 D3 v hv) (Nat.le_of_ble_eq_true rfl) rfl rfl (fun y16 D17 => ?_)
                    refine Sg.goM (pc' := 167) (mi_iast (n := 6) dX11_readsDeed_166 rfl rfl (by omega) (by decide)) ?_
                    refine Sg.letD (fun D18 hD18 => ?_)
                    refine Sg.go (pc' := 168) (mi_aload_n dX11_readsDeed_167 rfl) ?_
                    refine Sg.go (pc' := 169) (mi_iconst (z := 2) dX11_readsDeed_168 rfl) ?_
                    refine Sg.go (pc' := 170) (mi_aload_n dX11_readsDeed_169 rfl) ?_
                    refine Sg.callD (pc' := 173) (t := 0) (μ' := m_X11_signed) (args := [(42, 0)]) (mi_invV (n := 0) (r := 40) dX11_readsDeed_170 hC_40 (by omega) rfl rfl wN_X11_signed rfl ⟨by decide, by decide⟩ wL_X11_204 wI_X11_signed wS_X11_signed wB_X11 wC_X11_signed) (fun v hv => C_X11_signed hL D18 v hv) (Nat.le_of_ble_eq_true rfl) rfl rfl (fun y19 D20 => ?_)
                    refine Sg.goM (pc' := 174) (mi_iast (n := 6) dX11_readsDeed_173 rfl rfl (by omega) (by decide)) ?_
                    refine Sg.letD (fun D21 hD21 => ?_)
                    refine Sg.go (pc' := 355) (mi_goto (tgt := 355) dX11_readsDeed_174 (by decide)) ?_
                    exact Sg.ret (mi_return dX11_readsDeed_355 rfl (0, 0))
                  · refine Sg.ite (fun h22 => ?_) (fun h22 => ?_)
                    · refine Sg.go (pc' := 177) (mi_tabIn (tgt := 177) dX11_readsDeed_43 (by omega) (by omega) (by rw [h22]; rfl) (by decide)) ?_
                      refine Sg.go (pc' := 178) (mi_aload_n dX11_readsDeed_177 rfl) ?_
                      refine Sg.go (pc' := 179) (mi_aload_n dX11_readsDeed_178 rfl) ?_
                      refine Sg.callV (pc' := 182) (μ' := m_X11_readsText) (args := [(42, 0), (48, v1)]) (mi_invV (n := 1) (r := 40) dX11_readsDeed_179 hC_40 (by omega) rfl rfl wN_X11_readsText rfl ⟨by decide, by decide⟩ wL_X11_207 wI_X11_readsText wS_X11_readsText wB_X11 wC_X11_readsText) (fun v hv => C_X11_readsText hL v1 D3 (by omega) v hv) (Nat.le_of_ble_eq_true rfl) rfl rfl (fun D23 => ?_)
                      refine Sg.go (pc' := 355) (mi_goto (tgt := 355) dX11_readsDeed_182 (by decide)) ?_
                      exact Sg.ret (mi_return dX11_readsDeed_355 rfl (0, 0))
                    · refine Sg.ite (fun h24 => ?_) (fun h24 => ?_)
                      · refine Sg.go (pc' := 355) (mi_tabIn (tgt := 355) dX11_readsDeed_43 (by omega) (by omega) (by rw [h24]; rfl) (by decide)) ?_
                        exact Sg.ret (mi_return dX11_readsDeed_355 rfl (0, 0))
                      · refine Sg.ite (fun h25 => ?_) (fun h25 => ?_)
                        · refine Sg.go (pc' := 185) (mi_tabIn (tgt := 185) dX11_readsDeed_43 (by omega) (by omega) (by rw [h25]; rfl) (by decide)) ?_
                          exact S_X11_readsDeed_185 hL v1 D3 hb1
                        · refine Sg.ite (fun h26 => ?_) (fun h26 => ?_)
                          · refine Sg.go (pc' := 185) (mi_tabIn (tgt := 185) dX11_readsDeed_43 (by omega) (by omega) (by rw [h26]; rfl) (by decide)) ?_
                            exact S_X11_readsDeed_185 hL v1 D3 hb1
                          · refine Sg.ite (fun h27 => ?_) (fun h27 => ?_)
                            · refine Sg.go (pc' := 229) (mi_tabIn (tgt := 229) dX11_readsDeed_43 (by omega) (by omega) (by rw [h27]; rfl) (by decide)) ?_
                              exact S_X11_readsDeed_229 hL v1 D3 hb1
                            · refine Sg.ite (fun h28 => ?_) (fun h28 => ?_)
                              · refine Sg.go (pc' := 229) (mi_tabIn (tgt := 229) dX11_readsDeed_43 (by omega) (by omega) (by rw [h28]; rfl) (by decide)) ?_
                                exact S_X11_readsDeed_229 hL v1 D3 hb1
                              · refine Sg.ite (fun h29 => ?_) (fun h29 => ?_)
                                · refine Sg.go (pc' := 249) (mi_tabIn (tgt := 249) dX11_readsDeed_43 (by omega) (by omega) (by rw [h29]; rfl) (by decide)) ?_
                                  exact S_X11_readsDeed_249 hL v1 D3 hb1
                                · refine Sg.ite (fun h30 => ?_) (fun h30 => ?_)
                                  · refine Sg.go (pc' := 249) (mi_tabIn (tgt := 249) dX11_readsDeed_43 (by omega) (by omega) (by rw [h30]; rfl) (by decide)) ?_
                                    exact S_X11_readsDeed_249 hL v1 D3 hb1
                                  · refine Sg.ite (fun h31 => ?_) (fun h31 => ?_)
                                    · refine Sg.go (pc' := 323) (mi_tabIn (tgt := 323) dX11_readsDeed_43 (by omega) (by omega) (by rw [h31]; rfl) (by decide)) ?_
                                      refine Sg.go (pc' := 324) (mi_aload_n dX11_readsDeed_323 rfl) ?_
                                      refine Sg.go (pc' := 325) (mi_iconst (z := 2) dX11_readsDeed_324 rfl) ?_
                                      refine Sg.go (pc' := 326) (mi_aload_n dX11_readsDeed_325 rfl) ?_
                                      refine Sg.go (pc' := 327) (mi_iconst (z := 0) dX11_readsDeed_326 rfl) ?_
                                      refine Sg.go (pc' := 329) (mi_bipush (z := 9) dX11_readsDeed_327 rfl) ?_
                                      refine Sg.callD (pc' := 332) (t := 0) (μ' := m_X11_number) (args := [(42, 0), (0, 0), (0, 9)]) (mi_invV (n := 2) (r := 40) dX11_readsDeed_329 hC_40 (by omega) rfl rfl wN_X11_number rfl ⟨by decide, by decide⟩ wL_X11_194 wI_X11_number wS_X11_number wB_X11 wC_X11_number) (fun v hv => C_X11_number hL 0 9 D3 v hv) (Nat.le_of_ble_eq_true rfl) rfl rfl (fun y32 D33 => ?_)
                                      refine Sg.goM (pc' := 333) (mi_iast (n := 6) dX11_readsDeed_332 rfl rfl (by omega) (by decide)) ?_
                                      refine Sg.letD (fun D34 hD34 => ?_)
                                      refine Sg.go (pc' := 334) (mi_aload_n dX11_readsDeed_333 rfl) ?_
                                      refine Sg.go (pc' := 335) (mi_iconst (z := 1) dX11_readsDeed_334 rfl) ?_
                                      refine Sg.go (pc' := 336) (mi_aload_n dX11_readsDeed_335 rfl) ?_
                                      refine Sg.go (pc' := 338) (mi_bipush (z := 11) dX11_readsDeed_336 rfl) ?_
                                      refine Sg.callD (pc' := 341) (t := 0) (μ' := m_X11_kindHere) (args := [(42, 0), (0, 11)]) (mi_invV (n := 1) (r := 40) dX11_readsDeed_338 hC_40 (by omega) rfl rfl wN_X11_kindHere rfl ⟨by decide, by decide⟩ wL_X11_201 wI_X11_kindHere wS_X11_kindHere wB_X11 wC_X11_kindHere) (fun v hv => C_X11_kindHere hL 11 D34 v hv) (Nat.le_of_ble_eq_true rfl) rfl rfl (fun y35 D36 => ?_)
                                      refine Sg.goM (pc' := 342) (mi_iast (n := 6) dX11_readsDeed_341 rfl rfl (by omega) (by decide)) ?_
                                      refine Sg.letD (fun D37 hD37 => ?_)
                                      refine Sg.go (pc' := 343) (mi_aload_n dX11_readsDeed_342 rfl) ?_
                                      refine Sg.go (pc' := 344) (mi_iconst (z := 4) dX11_readsDeed_343 rfl) ?_
                                      refine Sg.go (pc' := 345) (mi_aload_n dX11_readsDeed_344 rfl) ?_
                                      refine Sg.go (pc' := 346) (mi_iconst (z := 0) dX11_readsDeed_345 rfl) ?_
                                      refine Sg.go (pc' := 348) (mi_bipush (z := 9) dX11_readsDeed_346 rfl) ?_
                                      refine Sg.callD (pc' := 351) (t := 0) (μ' := m_X11_number) (args := [(42, 0), (0, 0), (0, 9)]) (mi_invV (n := 2) (r := 40) dX11_readsDeed_348 hC_40 (by omega) rfl rfl wN_X11_number rfl ⟨by decide, by decide⟩ wL_X11_194 wI_X11_number wS_X11_number wB_X11 wC_X11_number) (fun v hv => C_X11_number hL 0 9 D37 v hv) (Nat.le_of_ble_eq_true rfl) rfl rfl (fun y38 D39 => ?_)
                                      refine Sg.goM (pc' := 352) (mi_iast (n := 6) dX11_readsDeed_351 rfl rfl (by omega) (by decide)) ?_
                                      refine Sg.letD (fun D40 hD40 => ?_)
                                      refine Sg.go (pc' := 355) (mi_goto (tgt := 355) dX11_readsDeed_352 (by decide)) ?_
                                      exact Sg.ret (mi_return dX11_readsDeed_355 rfl (0, 0))
                                    · refine Sg.ite (fun h41 => ?_) (fun h41 => ?_)
                                      · refine Sg.go (pc' := 301) (mi_tabIn (tgt := 301) dX11_readsDeed_43 (by omega) (by omega) (by rw [h41]; rfl) (by decide)) ?_
                                        exact S_X11_readsDeed_301 hL v1 D3 hb1
                                      · refine Sg.ite (fun h42 => ?_) (fun h42 => ?_)
                                        · refine Sg.go (pc' := 301) (mi_tabIn (tgt := 301) dX11_readsDeed_43 (by omega) (by omega) (by rw [h42]; rfl) (by decide)) ?_
                                          exact S_X11_readsDeed_301 hL v1 D3 hb1
                                        · refine Sg.go (pc' := 355) (mi_tabOut (tgt := 355) dX11_readsDeed_43 (by omega) (by decide)) ?_
                                          exact Sg.ret (mi_return dX11_readsDeed_355 rfl (0, 0))
  · refine Sg.go (pc' := 35) (mi_ifne_f (tgt := 36) dX11_readsDeed_32 (by decide) h2) ?_
    exact Sg.ret (mi_return dX11_readsDeed_35 rfl (0, 0))
def B_X11_readsDeed (v1 : Int) (D : MiD) : Option (MiD) := mi_b2 (B_X11_wordHere D) fun y1 D2 => mi_bi (B_X11_deedOf D2 y1) fun y3 => mi_let (mi_st D2 46 v1 0 y3) fun D4 => if (D4 46 v1 0) ≠ (-1) then (B_X11_readsDeed_28 v1 D4) else (mi_bi (B_X11_wrong 1 (D4 40 0 4) D4) fun D6 => B_X11_readsDeed_28 v1 D6)
set_option maxRecDepth 20000 in
theorem S_X11_readsDeed {Z : MiZ} (hL : ML Z) (v1 : Int) (D : MiD) : (0 ≤ v1 ∧ v1 < 2664) → Sg m_X11_readsDeed 0 [(42, 0), (48, v1), mi_un, mi_un] [] (D, Z) (mi_LV Z) (B_X11_readsDeed v1 D) := by
  intro hb1
  unfold B_X11_readsDeed
  refine Sg.go (pc' := 1) (mi_aload_n dX11_readsDeed_0 rfl) ?_
  refine Sg.callD (pc' := 4) (t := 1) (μ' := m_X11_wordHere) (args := [(42, 0)]) (mi_invV (n := 0) (r := 40) dX11_readsDeed_1 hC_40 (by omega) rfl rfl wN_X11_wordHere rfl ⟨by decide, by decide⟩ wL_X11_143 wI_X11_wordHere wS_X11_wordHere wB_X11 wC_X11_wordHere) (fun v hv => C_X11_wordHere hL D v hv) (Nat.le_of_ble_eq_true rfl) rfl rfl (fun y1 D2 => ?_)
  refine Sg.go (pc' := 5) (mi_lstore_n (ls1 := [(42, 0), (48, v1), (1, y1), mi_un]) dX11_readsDeed_4 (by decide) rfl) ?_
  refine Sg.go (pc' := 6) (mi_aload_n dX11_readsDeed_5 rfl) ?_
  refine Sg.go (pc' := 7) (mi_iconst (z := 0) dX11_readsDeed_6 rfl) ?_
  refine Sg.go (pc' := 8) (mi_lload_n dX11_readsDeed_7 rfl) ?_
  refine Sg.callI (pc' := 11) (t := 0) (μ' := m_X11_deedOf) (args := [(1, y1)]) (mi_invS (n := 1) dX11_readsDeed_8 rfl wN_X11_deedOf rfl ⟨by decide, by decide⟩ wL_X11_197 wT_X11_deedOf wB_X11 wC_X11_deedOf) (fun v hv => C_X11_deedOf hL y1 D2 v hv) (Nat.le_of_ble_eq_true rfl) rfl rfl (fun y3 => ?_)
  refine Sg.goM (pc' := 12) (mi_iast (n := 6) dX11_readsDeed_11 rfl rfl (by omega) (by decide)) ?_
  refine Sg.letD (fun D4 hD4 => ?_)
  refine Sg.go (pc' := 13) (mi_aload_n dX11_readsDeed_12 rfl) ?_
  refine Sg.go (pc' := 14) (mi_iconst (z := 0) dX11_readsDeed_13 rfl) ?_
  refine Sg.go (pc' := 15) (mi_iald (n := 6) dX11_readsDeed_14 rfl rfl (by omega) (by decide)) ?_
  refine Sg.go (pc' := 16) (mi_iconst (z := (-1)) dX11_readsDeed_15 rfl) ?_
  refine Sg.ite (fun h5 => ?_) (fun h5 => ?_)
  · refine Sg.go (pc' := 28) (mi_icmpne_t (tgt := 28) dX11_readsDeed_16 (by decide) h5) ?_
    refine Sg.go (pc' := 28) (MiStep.weak (ls' := [(42, 0), (48, v1), mi_un, mi_un]) (mi_wk_y (mi_wk_y (mi_wk_n (mi_wk_y mi_wk_0))))) ?_
    exact S_X11_readsDeed_28 hL v1 D4 hb1
  · refine Sg.go (pc' := 19) (mi_icmpne_f (tgt := 28) dX11_readsDeed_16 (by decide) h5) ?_
    refine Sg.go (pc' := 20) (mi_aload_n dX11_readsDeed_19 rfl) ?_
    refine Sg.go (pc' := 21) (mi_iconst (z := 1) dX11_readsDeed_20 rfl) ?_
    refine Sg.go (pc' := 22) (mi_aload_n dX11_readsDeed_21 rfl) ?_
    refine Sg.go (pc' := 25) (mi_gfI (r := 40) (k := 4) dX11_readsDeed_22 hC_40 (by decide) rfl wF_X11_87 (by omega) rfl) ?_
    refine Sg.callV (pc' := 28) (μ' := m_X11_wrong) (args := [(42, 0), (0, 1), (0, (D4 40 0 4))]) (mi_invV (n := 2) (r := 40) dX11_readsDeed_25 hC_40 (by omega) rfl rfl wN_X11_wrong rfl ⟨by decide, by decide⟩ wL_X11_112 wI_X11_wrong wS_X11_wrong wB_X11 wC_X11_wrong) (fun v hv => C_X11_wrong hL 1 (D4 40 0 4) D4 v hv) (Nat.le_of_ble_eq_true rfl) rfl rfl (fun D6 => ?_)
    refine Sg.go (pc' := 28) (MiStep.weak (ls' := [(42, 0), (48, v1), mi_un, mi_un]) (mi_wk_y (mi_wk_y (mi_wk_n (mi_wk_y mi_wk_0))))) ?_
    exact S_X11_readsDeed_28 hL v1 D6 hb1
theorem C_X11_readsDeed {Z : MiZ} (hL : ML Z) (a1 : Int) (D : MiD) (h0 : (0 ≤ a1 ∧ a1 < 2664)) (b : MiD) (hb : B_X11_readsDeed a1 D = some b) : MC m_X11_readsDeed [(42, 0), (48, a1)] (D, Z) ((mi_LV Z) b) := MC.ofSg (L := (mi_LV Z)) (μ := m_X11_readsDeed) (args := [(42, 0), (48, a1)]) (M := (D, Z)) rfl wP_X11 (Nat.le_of_ble_eq_true rfl) (show Sg m_X11_readsDeed 0 [(42, 0), (48, a1), mi_un, mi_un] [] (D, Z) (mi_LV Z) (B_X11_readsDeed a1 D) from S_X11_readsDeed hL a1 D h0) hb
abbrev m_X5_readDeed : MiI := (yX5_readDeed, cX5_readDeed, 9, none, 7, none)
def B_X5_readDeed_126 (v1 : Int) (v7 : Int) (D : MiD) (Z : MiZ) : Option (MiM) := if 0 ≤ v7 then (mi_bw (B_X1_add v1 v7 D Z) fun D2 Z3 => mi_req (CL Z3) (some (D2, Z3))) else none
set_option maxRecDepth 20000 in
theorem S_X5_readDeed_126  (v1 v7 : Int) (D : MiD) (Z : MiZ) (hL : CL Z) : 0 ≤ v1 → Sg m_X5_readDeed 126 [mi_un, (8, v1), mi_un, mi_un, mi_un, mi_un, mi_un, (9, v7), mi_un] [] (D, Z) mi_LW (B_X5_readDeed_126 v1 v7 D Z) := by
  intro hb1
  unfold B_X5_readDeed_126
  refine Sg.go (pc' := 127) (mi_aload_n dX5_readDeed_126 rfl) ?_
  refine Sg.go (pc' := 129) (mi_aload dX5_readDeed_127 rfl) ?_
  refine Sg.ck (fun hk1 => ?_)
  refine Sg.callW (pc' := 132) (μ' := m_X1_add) (args := [(8, v1), (9, v7)]) (mi_invV (n := 1) (r := 6) dX5_readDeed_129 hC_6 (by omega) rfl rfl wN_X1_add rfl ⟨by decide, by decide⟩ wL_X5_126 wI_X1_add wS_X1_add wB_X1 wC_X1_add) (fun v hv => C_X1_add hL v1 v7 D (by omega) (by omega) v hv) (Nat.le_of_ble_eq_true rfl) rfl rfl (fun D2 Z3 => ?_)
  refine Sg.rq (fun hL => ?_)
  exact Sg.ret (mi_return dX5_readDeed_132 rfl (0, 0))
def B_X5_readDeed_113 (v0 : Int) (v1 : Int) (v7 : Int) (D : MiD) (Z : MiZ) : Option (MiM) := if (D 9 v0 3) ≠ 0 then (B_X5_readDeed_126 v1 v7 D Z) else (mi_bi (B_X5_passSign Z v0 59 D) fun D2 => B_X5_readDeed_126 v1 v7 D2 Z)
set_option maxRecDepth 20000 in
theorem S_X5_readDeed_113  (v0 v1 v7 : Int) (D : MiD) (Z : MiZ) (hL : CL Z) : 0 ≤ v0 → 0 ≤ v1 → Sg m_X5_readDeed 113 [(11, v0), (8, v1), mi_un, mi_un, mi_un, mi_un, mi_un, (9, v7), mi_un] [] (D, Z) mi_LW (B_X5_readDeed_113 v0 v1 v7 D Z) := by
  intro hb0 hb1
  unfold B_X5_readDeed_113
  refine Sg.go (pc' := 114) (mi_aload_n dX5_readDeed_113 rfl) ?_
  refine Sg.go (pc' := 117) (mi_gfI (r := 9) (k := 3) dX5_readDeed_114 hC_9 (by decide) rfl wF_X5_33 (by omega) rfl) ?_
  refine Sg.ite (fun h1 => ?_) (fun h1 => ?_)
  · refine Sg.go (pc' := 126) (mi_ifne_t (tgt := 126) dX5_readDeed_117 (by decide) h1) ?_
    refine Sg.go (pc' := 126) (MiStep.weak (ls' := [mi_un, (8, v1), mi_un, mi_un, mi_un, mi_un, mi_un, (9, v7), mi_un]) (mi_wk_n (mi_wk_y (mi_wk_y (mi_wk_y (mi_wk_y (mi_wk_y (mi_wk_y (mi_wk_y (mi_wk_y mi_wk_0)))))))))) ?_
    exact S_X5_readDeed_126 v1 v7 D Z hL hb1
  · refine Sg.go (pc' := 120) (mi_ifne_f (tgt := 126) dX5_readDeed_117 (by decide) h1) ?_
    refine Sg.go (pc' := 121) (mi_aload_n dX5_readDeed_120 rfl) ?_
    refine Sg.go (pc' := 123) (mi_bipush (z := 59) dX5_readDeed_121 rfl) ?_
    refine Sg.callV (pc' := 126) (μ' := m_X5_passSign) (args := [(11, v0), (0, 59)]) (mi_invV (n := 1) (r := 9) dX5_readDeed_123 hC_9 (by omega) rfl rfl wN_X5_passSign rfl ⟨by decide, by decide⟩ wL_X5_80 wI_X5_passSign wS_X5_passSign wB_X5 wC_X5_passSign) (fun v hv => C_X5_passSign hL v0 59 D (by omega) v hv) (Nat.le_of_ble_eq_true rfl) rfl rfl (fun D2 => ?_)
    refine Sg.go (pc' := 126) (MiStep.weak (ls' := [mi_un, (8, v1), mi_un, mi_un, mi_un, mi_un, mi_un, (9, v7), mi_un]) (mi_wk_n (mi_wk_y (mi_wk_y (mi_wk_y (mi_wk_y (mi_wk_y (mi_wk_y (mi_wk_y (mi_wk_y mi_wk_0)))))))))) ?_
    exact S_X5_readDeed_126 v1 v7 D2 Z hL hb1
def B_X5_readDeed_71 : Nat → Int → Int → Int → Int → Int → MiD → MiZ → Option (MiM)
  | 0, _, _, _, _, _, _, _ => none
  | f + 1, v0, v1, v6, v7, v8, D, Z => if 0 ≤ v6 ∧ v6 < 19 then (mi_bi (B_J0_length_8abf5 D (mi_opp v6)) fun y3 => if y3 ≤ v8 then (B_X5_readDeed_113 v0 v1 v7 D Z) else (if (D 9 v0 3) ≠ 0 then (B_X5_readDeed_113 v0 v1 v7 D Z) else (mi_bi (B_J0_charAt_5068e D (mi_opp v6) v8) fun y7 => if 0 ≤ v7 then (mi_bi (B_X5_readPart Z v0 y7 v7 D) fun D9 => B_X5_readDeed_71 f v0 v1 v6 v7 (mi_w (v8 + 1)) D9 Z) else none))) else none
set_option maxRecDepth 20000 in
theorem S_X5_readDeed_71  : ∀ (f : Nat) (v0 v1 v6 v7 v8 : Int) (D : MiD) (Z : MiZ) (hL : CL Z), 0 ≤ v0 → 0 ≤ v1 → Sg m_X5_readDeed 71 [(11, v0), (8, v1), mi_un, mi_un, mi_un, mi_un, (28, v6), (9, v7), (0, v8)] [] (D, Z) mi_LW (B_X5_readDeed_71 f v0 v1 v6 v7 v8 D Z) := by
  intro f
  induction f with
  | zero => intros; exact Sg.nope
  | succ f K71 =>
    intro v0 v1 v6 v7 v8 D Z hL hb0 hb1
    show Sg m_X5_readDeed 71 [(11, v0), (8, v1), mi_un, mi_un, mi_un, mi_un, (28, v6), (9, v7), (0, v8)] [] (D, Z) mi_LW (if 0 ≤ v6 ∧ v6 < 19 then (mi_bi (B_J0_length_8abf5 D (mi_opp v6)) fun y3 => if y3 ≤ v8 then (B_X5_readDeed_113 v0 v1 v7 D Z) else (if (D 9 v0 3) ≠ 0 then (B_X5_readDeed_113 v0 v1 v7 D Z) else (mi_bi (B_J0_charAt_5068e D (mi_opp v6) v8) fun y7 => if 0 ≤ v7 then (mi_bi (B_X5_readPart Z v0 y7 v7 D) fun D9 => B_X5_readDeed_71 f v0 v1 v6 v7 (mi_w (v8 + 1)) D9 Z) else none))) else none)
    refine Sg.go (pc' := 73) (mi_iload dX5_readDeed_71 rfl) ?_
    refine Sg.go (pc' := 75) (mi_aload dX5_readDeed_73 rfl) ?_
    refine Sg.ck (fun hk1 => ?_)
    refine Sg.go (pc' := 78) (mi_gfP dX5_readDeed_75 wF_X5_110 (by omega)) ?_
    have hb2 := mi_opp_b v6
    refine Sg.callI (pc' := 81) (t := 0) (μ' := m_J0_length_8abf5) (args := [(29, (mi_opp v6))]) (mi_invC (n := 0) (r := 27) dX5_readDeed_78 (by decide) mi_oSt (by omega) rfl rfl wN_J0_length_8abf5 rfl ⟨by decide, by decide⟩ wL_X5_113 wI_J0_length_8abf5 wS_J0_length_8abf5 wB_J0 wC_J0_length_8abf5) (fun v hv => C_J0_length_8abf5 trivial (mi_opp v6) D (by omega) v hv) (Nat.le_of_ble_eq_true rfl) rfl rfl (fun y3 => ?_)
    refine Sg.ite (fun h4 => ?_) (fun h4 => ?_)
    · refine Sg.go (pc' := 113) (mi_icmpge_t (tgt := 113) dX5_readDeed_81 (by decide) h4) ?_
      refine Sg.go (pc' := 113) (MiStep.weak (ls' := [(11, v0), (8, v1), mi_un, mi_un, mi_un, mi_un, mi_un, (9, v7), mi_un]) (mi_wk_y (mi_wk_y (mi_wk_y (mi_wk_y (mi_wk_y (mi_wk_y (mi_wk_n (mi_wk_y (mi_wk_n mi_wk_0)))))))))) ?_
      exact S_X5_readDeed_113 v0 v1 v7 D Z hL hb0 hb1
    · refine Sg.go (pc' := 84) (mi_icmpge_f (tgt := 113) dX5_readDeed_81 (by decide) h4) ?_
      refine Sg.go (pc' := 85) (mi_aload_n dX5_readDeed_84 rfl) ?_
      refine Sg.go (pc' := 88) (mi_gfI (r := 9) (k := 3) dX5_readDeed_85 hC_9 (by decide) rfl wF_X5_33 (by omega) rfl) ?_
      refine Sg.ite (fun h5 => ?_) (fun h5 => ?_)
      · refine Sg.go (pc' := 113) (mi_ifne_t (tgt := 113) dX5_readDeed_88 (by decide) h5) ?_
        refine Sg.go (pc' := 113) (MiStep.weak (ls' := [(11, v0), (8, v1), mi_un, mi_un, mi_un, mi_un, mi_un, (9, v7), mi_un]) (mi_wk_y (mi_wk_y (mi_wk_y (mi_wk_y (mi_wk_y (mi_wk_y (mi_wk_n (mi_wk_y (mi_wk_n mi_wk_0)))))))))) ?_
        exact S_X5_readDeed_113 v0 v1 v7 D Z hL hb0 hb1
      · refine Sg.go (pc' := 91) (mi_ifne_f (tgt := 113) dX5_readDeed_88 (by decide) h5) ?_
        refine Sg.go (pc' := 92) (mi_aload_n dX5_readDeed_91 rfl) ?_
        refine Sg.go (pc' := 94) (mi_aload dX5_readDeed_92 rfl) ?_
        refine Sg.go (pc' := 97) (mi_gfP dX5_readDeed_94 wF_X5_110 (by omega)) ?_
        have hb6 := mi_opp_b v6
        refine Sg.go (pc' := 99) (mi_iload dX5_readDeed_97 rfl) ?_
        refine Sg.callI (pc' := 102) (t := 0) (μ' := m_J0_charAt_5068e) (args := [(29, (mi_opp v6)), (0, v8)]) (mi_invC (n := 1) (r := 27) dX5_readDeed_99 (by decide) mi_oSt (by omega) rfl rfl wN_J0_charAt_5068e rfl ⟨by decide, by decide⟩ wL_X5_118 wI_J0_charAt_5068e wS_J0_charAt_5068e wB_J0 wC_J0_charAt_5068e) (fun v hv => C_J0_charAt_5068e trivial (mi_opp v6) v8 D (by omega) v hv) (Nat.le_of_ble_eq_true rfl) rfl rfl (fun y7 => ?_)
        refine Sg.go (pc' := 104) (mi_aload dX5_readDeed_102 rfl) ?_
        refine Sg.ck (fun hk8 => ?_)
        refine Sg.callV (pc' := 107) (μ' := m_X5_readPart) (args := [(11, v0), (0, y7), (9, v7)]) (mi_invV (n := 2) (r := 9) dX5_readDeed_104 hC_9 (by omega) rfl rfl wN_X5_readPart rfl ⟨by decide, by decide⟩ wL_X5_122 wI_X5_readPart wS_X5_readPart wB_X5 wC_X5_readPart) (fun v hv => C_X5_readPart hL v0 y7 v7 D (by omega) (by omega) v hv) (Nat.le_of_ble_eq_true rfl) rfl rfl (fun D9 => ?_)
        refine Sg.go (pc' := 110) (mi_iinc (z := 1) (ls1 := [(11, v0), (8, v1), mi_un, mi_un, mi_un, mi_un, (28, v6), (9, v7), (0, (mi_w (v8 + 1)))]) dX5_readDeed_107 (by decide) rfl rfl rfl) ?_
        refine Sg.go (pc' := 71) (mi_goto (tgt := 71) dX5_readDeed_110 (by decide)) ?_
        exact K71 v0 v1 v6 v7 (mi_w (v8 + 1)) D9 Z hL hb0 hb1
def B_X5_readDeed_16 : Nat → Int → Int → Int → Int → Int → MiD → MiZ → Option (MiM)
  | 0, _, _, _, _, _, _, _ => none
  | f + 1, v0, v1, v2, v4, v5, D, Z => if v4 ≤ v5 then (mi_bi (B_X5_fail v0 1 v2 D) fun D2 => some (D2, Z)) else (if 0 ≤ v5 ∧ v5 < 19 then (mi_b2 (B_X5_passWord Z v0 (mi_opw v5) D) fun y5 D6 => if y5 = 0 then (B_X5_readDeed_16 f v0 v1 v2 v4 (mi_w (v5 + 1)) D6 Z) else (if (D6 6 v1 1) ≠ 24 then (if 0 ≤ Z.2 7 then mi_nl D6 Z 7 6 (fun D9 Z10 => mi_req (CL Z10) (mi_bw (B_X2_init (Z.2 7) v5 D9 Z10) fun D12 Z13 => mi_req (CL Z13) (B_X5_readDeed_71 mi_fuel v0 v1 v5 (Z.2 7) 0 D12 Z13))) else none) else (mi_bi (B_X5_fail v0 3 v2 D6) fun D14 => some (D14, Z)))) else none)
set_option maxRecDepth 20000 in
theorem S_X5_readDeed_16  : ∀ (f : Nat) (v0 v1 v2 v4 v5 : Int) (D : MiD) (Z : MiZ) (hL : CL Z), 0 ≤ v0 → 0 ≤ v1 → Sg m_X5_readDeed 16 [(11, v0), (8, v1), (0, v2), (32, 0), (0, v4), (0, v5), mi_un, mi_un, mi_un] [] (D, Z) mi_LW (B_X5_readDeed_16 f v0 v1 v2 v4 v5 D Z) := by
  intro f
  induction f with
  | zero => intros; exact Sg.nope
  | succ f K16 =>
    intro v0 v1 v2 v4 v5 D Z hL hb0 hb1
    show Sg m_X5_readDeed 16 [(11, v0), (8, v1), (0, v2), (32, 0), (0, v4), (0, v5), mi_un, mi_un, mi_un] [] (D, Z) mi_LW (if v4 ≤ v5 then (mi_bi (B_X5_fail v0 1 v2 D) fun D2 => some (D2, Z)) else (if 0 ≤ v5 ∧ v5 < 19 then (mi_b2 (B_X5_passWord Z v0 (mi_opw v5) D) fun y5 D6 => if y5 = 0 then (B_X5_readDeed_16 f v0 v1 v2 v4 (mi_w (v5 + 1)) D6 Z) else (if (D6 6 v1 1) ≠ 24 then (if 0 ≤ Z.2 7 then mi_nl D6 Z 7 6 (fun D9 Z10 => mi_req (CL Z10) (mi_bw (B_X2_init (Z.2 7) v5 D9 Z10) fun D12 Z13 => mi_req (CL Z13) (B_X5_readDeed_71 mi_fuel v0 v1 v5 (Z.2 7) 0 D12 Z13))) else none) else (mi_bi (B_X5_fail v0 3 v2 D6) fun D14 => some (D14, Z)))) else none))
    refine Sg.go (pc' := 18) (mi_iload dX5_readDeed_16 rfl) ?_
    refine Sg.go (pc' := 20) (mi_iload dX5_readDeed_18 rfl) ?_
    refine Sg.ite (fun h1 => ?_) (fun h1 => ?_)
    · refine Sg.go (pc' := 139) (mi_icmpge_t (tgt := 139) dX5_readDeed_20 (by decide) h1) ?_
      refine Sg.go (pc' := 140) (mi_aload_n dX5_readDeed_139 rfl) ?_
      refine Sg.go (pc' := 141) (mi_iconst (z := 1) dX5_readDeed_140 rfl) ?_
      refine Sg.go (pc' := 142) (mi_iload_n dX5_readDeed_141 rfl) ?_
      refine Sg.callV (pc' := 145) (μ' := m_X5_fail) (args := [(11, v0), (0, 1), (0, v2)]) (mi_invV (n := 2) (r := 9) dX5_readDeed_142 hC_9 (by omega) rfl rfl wN_X5_fail rfl ⟨by decide, by decide⟩ wL_X5_44 wI_X5_fail wS_X5_fail wB_X5 wC_X5_fail) (fun v hv => C_X5_fail hL v0 1 v2 D (by omega) v hv) (Nat.le_of_ble_eq_true rfl) rfl rfl (fun D2 => ?_)
      exact Sg.ret (mi_return dX5_readDeed_145 rfl (0, 0))
    · refine Sg.go (pc' := 23) (mi_icmpge_f (tgt := 139) dX5_readDeed_20 (by decide) h1) ?_
      refine Sg.go (pc' := 24) (mi_aload_n dX5_readDeed_23 rfl) ?_
      refine Sg.go (pc' := 26) (mi_iload dX5_readDeed_24 rfl) ?_
      refine Sg.ck (fun hk3 => ?_)
      refine Sg.go (pc' := 27) (mi_opld dX5_readDeed_26 hk3) ?_
      refine Sg.go (pc' := 29) (mi_astore (ls1 := [(11, v0), (8, v1), (0, v2), (32, 0), (0, v4), (0, v5), (28, v5), mi_un, mi_un]) dX5_readDeed_27 (by decide) rfl) ?_
      refine Sg.go (pc' := 30) (mi_aload_n dX5_readDeed_29 rfl) ?_
      refine Sg.go (pc' := 32) (mi_aload dX5_readDeed_30 rfl) ?_
      refine Sg.go (pc' := 35) (mi_gfW dX5_readDeed_32 wF_X5_96 (by omega)) ?_
      have hb4 := mi_opw_b v5
      refine Sg.callD (pc' := 38) (t := 0) (μ' := m_X5_passWord) (args := [(11, v0), (29, (mi_opw v5))]) (mi_invV (n := 1) (r := 9) dX5_readDeed_35 hC_9 (by omega) rfl rfl wN_X5_passWord rfl ⟨by decide, by decide⟩ wL_X5_24 wI_X5_passWord wS_X5_passWord wB_X5 wC_X5_passWord) (fun v hv => C_X5_passWord hL v0 (mi_opw v5) D (by omega) (by omega) v hv) (Nat.le_of_ble_eq_true rfl) rfl rfl (fun y5 D6 => ?_)
      refine Sg.ite (fun h7 => ?_) (fun h7 => ?_)
      · refine Sg.go (pc' := 133) (mi_ifeq_t (tgt := 133) dX5_readDeed_38 (by decide) h7) ?_
        refine Sg.go (pc' := 136) (mi_iinc (z := 1) (ls1 := [(11, v0), (8, v1), (0, v2), (32, 0), (0, v4), (0, (mi_w (v5 + 1))), (28, v5), mi_un, mi_un]) dX5_readDeed_133 (by decide) rfl rfl rfl) ?_
        refine Sg.go (pc' := 16) (mi_goto (tgt := 16) dX5_readDeed_136 (by decide)) ?_
        refine Sg.go (pc' := 16) (MiStep.weak (ls' := [(11, v0), (8, v1), (0, v2), (32, 0), (0, v4), (0, (mi_w (v5 + 1))), mi_un, mi_un, mi_un]) (mi_wk_y (mi_wk_y (mi_wk_y (mi_wk_y (mi_wk_y (mi_wk_y (mi_wk_n (mi_wk_y (mi_wk_y mi_wk_0)))))))))) ?_
        exact K16 v0 v1 v2 v4 (mi_w (v5 + 1)) D6 Z hL hb0 hb1
      · refine Sg.go (pc' := 41) (mi_ifeq_f (tgt := 133) dX5_readDeed_38 (by decide) h7) ?_
        refine Sg.go (pc' := 42) (mi_aload_n dX5_readDeed_41 rfl) ?_
        refine Sg.go (pc' := 45) (mi_gfI (r := 6) (k := 1) dX5_readDeed_42 hC_6 (by decide) rfl wF_X5_102 (by omega) rfl) ?_
        refine Sg.go (pc' := 47) (mi_bipush (z := 24) dX5_readDeed_45 rfl) ?_
        refine Sg.ite (fun h8 => ?_) (fun h8 => ?_)
        · refine Sg.go (pc' := 57) (mi_icmpne_t (tgt := 57) dX5_readDeed_47 (by decide) h8) ?_
          refine Sg.nl (pc' := 60) (r := 7) (n := 6) (mi_new (r := 7) dX5_readDeed_57 hC_7 wK_X5_105 wG_X2 wB_X2 hN_7.1 hN_7.2.1 hN_7.2.2) (by decide) (fun hk11 D9 Z10 => ?_)
          refine Sg.rq (fun hL => ?_)
          refine Sg.go (pc' := 61) (mi_dup dX5_readDeed_60 (show (9 : Nat) ≠ 1 by decide)) ?_
          refine Sg.go (pc' := 63) (mi_aload dX5_readDeed_61 rfl) ?_
          refine Sg.callW (pc' := 66) (μ' := m_X2_init) (args := [(9, (Z.2 7)), (28, v5)]) (mi_invI (n := 1) (r := 7) dX5_readDeed_63 (by omega) rfl rfl rfl wN_X2_init rfl ⟨by decide, by decide⟩ wL_X5_107 wI_X2_init wB_X2 wC_X2_init) (fun v hv => C_X2_init trivial (Z.2 7) v5 D9 (by omega) (by omega) v hv) (Nat.le_of_ble_eq_true rfl) rfl rfl (fun D12 Z13 => ?_)
          refine Sg.rq (fun hL => ?_)
          refine Sg.go (pc' := 68) (mi_astore (ls1 := [(11, v0), (8, v1), (0, v2), (32, 0), (0, v4), (0, v5), (28, v5), (9, (Z.2 7)), mi_un]) dX5_readDeed_66 (by decide) rfl) ?_
          refine Sg.go (pc' := 69) (mi_iconst (z := 0) dX5_readDeed_68 rfl) ?_
          refine Sg.go (pc' := 71) (mi_istore (ls1 := [(11, v0), (8, v1), (0, v2), (32, 0), (0, v4), (0, v5), (28, v5), (9, (Z.2 7)), (0, 0)]) dX5_readDeed_69 (by decide) rfl) ?_
          refine Sg.go (pc' := 71) (MiStep.weak (ls' := [(11, v0), (8, v1), mi_un, mi_un, mi_un, mi_un, (28, v5), (9, (Z.2 7)), (0, 0)]) (mi_wk_y (mi_wk_y (mi_wk_n (mi_wk_n (mi_wk_n (mi_wk_n (mi_wk_y (mi_wk_y (mi_wk_y mi_wk_0)))))))))) ?_
          exact S_X5_readDeed_71 mi_fuel v0 v1 v5 (Z.2 7) 0 D12 Z13 hL hb0 hb1
        · refine Sg.go (pc' := 50) (mi_icmpne_f (tgt := 57) dX5_readDeed_47 (by decide) h8) ?_
          refine Sg.go (pc' := 51) (mi_aload_n dX5_readDeed_50 rfl) ?_
          refine Sg.go (pc' := 52) (mi_iconst (z := 3) dX5_readDeed_51 rfl) ?_
          refine Sg.go (pc' := 53) (mi_iload_n dX5_readDeed_52 rfl) ?_
          refine Sg.callV (pc' := 56) (μ' := m_X5_fail) (args := [(11, v0), (0, 3), (0, v2)]) (mi_invV (n := 2) (r := 9) dX5_readDeed_53 hC_9 (by omega) rfl rfl wN_X5_fail rfl ⟨by decide, by decide⟩ wL_X5_44 wI_X5_fail wS_X5_fail wB_X5 wC_X5_fail) (fun v hv => C_X5_fail hL v0 3 v2 D6 (by omega) v hv) (Nat.le_of_ble_eq_true rfl) rfl rfl (fun D14 => ?_)
          exact Sg.ret (mi_return dX5_readDeed_56 rfl (0, 0))
def B_X5_readDeed (v0 : Int) (v1 : Int) (D : MiD) (Z : MiZ) : Option (MiM) := B_X5_readDeed_16 mi_fuel v0 v1 (D 9 v0 2) 19 0 D Z
set_option maxRecDepth 20000 in
theorem S_X5_readDeed  (v0 v1 : Int) (D : MiD) (Z : MiZ) (hL : CL Z) : 0 ≤ v0 → 0 ≤ v1 → Sg m_X5_readDeed 0 [(11, v0), (8, v1), mi_un, mi_un, mi_un, mi_un, mi_un, mi_un, mi_un] [] (D, Z) mi_LW (B_X5_readDeed v0 v1 D Z) := by
  intro hb0 hb1
  unfold B_X5_readDeed
  refine Sg.go (pc' := 1) (mi_aload_n dX5_readDeed_0 rfl) ?_
  refine Sg.go (pc' := 4) (mi_gfI (r := 9) (k := 2) dX5_readDeed_1 hC_9 (by decide) rfl wF_X5_39 (by omega) rfl) ?_
  refine Sg.go (pc' := 5) (mi_istore_n (ls1 := [(11, v0), (8, v1), (0, (D 9 v0 2)), mi_un, mi_un, mi_un, mi_un, mi_un, mi_un]) dX5_readDeed_4 (by decide) rfl) ?_
  refine Sg.go (pc' := 8) (mi_gsN (r := 30) (j := 0) (z := 0) dX5_readDeed_5 mi_zOp wF_X5_92 (by decide) rfl (by decide)) ?_
  refine Sg.go (pc' := 9) (mi_astore_n (ls1 := [(11, v0), (8, v1), (0, (D 9 v0 2)), (32, 0), mi_un, mi_un, mi_un, mi_un, mi_un]) dX5_readDeed_8 (by decide) rfl) ?_
  refine Sg.go (pc' := 10) (mi_aload_n dX5_readDeed_9 rfl) ?_
  refine Sg.go (pc' := 11) (mi_oplen dX5_readDeed_10) ?_
  refine Sg.go (pc' := 13) (mi_istore (ls1 := [(11, v0), (8, v1), (0, (D 9 v0 2)), (32, 0), (0, 19), mi_un, mi_un, mi_un, mi_un]) dX5_readDeed_11 (by decide) rfl) ?_
  refine Sg.go (pc' := 14) (mi_iconst (z := 0) dX5_readDeed_13 rfl) ?_
  refine Sg.go (pc' := 16) (mi_istore (ls1 := [(11, v0), (8, v1), (0, (D 9 v0 2)), (32, 0), (0, 19), (0, 0), mi_un, mi_un, mi_un]) dX5_readDeed_14 (by decide) rfl) ?_
  exact S_X5_readDeed_16 mi_fuel v0 v1 (D 9 v0 2) 19 0 D Z hL hb0 hb1
theorem C_X5_readDeed {Z : MiZ} (hL : CL Z) (a0 a1 : Int) (D : MiD) (h0 : 0 ≤ a0) (h1 : 0 ≤ a1) (b : MiM) (hb : B_X5_readDeed a0 a1 D Z = some b) : MC m_X5_readDeed [(11, a0), (8, a1)] (D, Z) (mi_LW b) := MC.ofSg (L := mi_LW) (μ := m_X5_readDeed) (args := [(11, a0), (8, a1)]) (M := (D, Z)) rfl wP_X5 (Nat.le_of_ble_eq_true rfl) (show Sg m_X5_readDeed 0 [(11, a0), (8, a1), mi_un, mi_un, mi_un, mi_un, mi_un, mi_un, mi_un] [] (D, Z) mi_LW (B_X5_readDeed a0 a1 D Z) from S_X5_readDeed a0 a1 D Z hL h0 h1) hb
abbrev m_X11_readsCode : MiI := (yX11_readsCode, cX11_readsCode, 4, none, 8, none)
def B_X11_readsCode_77 (k7 : Int → Int → MiD → Option (MiD)) (v1 : Int) (v2 : Int) (D : MiD) : Option (MiD) := mi_bi (B_X11_fine D) fun y1 => if y1 ≠ 0 then (if 0 ≤ v1 ∧ v1 < 111 then (if 0 ≤ (D 43 0 v1) ∧ (D 43 0 v1) < 24 then (mi_bi (B_X11_readsDeed (24 * v1 + (D 43 0 v1)) D) fun D5 => mi_bi (B_X11_sign 59 D5) fun D6 => mi_let (mi_st D6 43 0 v1 (mi_w ((D6 43 0 v1) + 1))) fun D7 => k7 v1 v2 D7) else none) else none) else (some D)
set_option maxRecDepth 20000 in
theorem S_X11_readsCode_77 {Z : MiZ} (hL : ML Z) {k7 : Int → Int → MiD → Option (MiD)} (K7 : ∀ (v1 v2 : Int) (D : MiD), Sg m_X11_readsCode 7 [(42, 0), (0, v1), (0, v2), mi_un] [] (D, Z) (mi_LV Z) (k7 v1 v2 D)) (v1 v2 : Int) (D : MiD) : Sg m_X11_readsCode 77 [(42, 0), (0, v1), (0, v2), mi_un] [] (D, Z) (mi_LV Z) (B_X11_readsCode_77 k7 v1 v2 D) := by
  unfold B_X11_readsCode_77
  refine Sg.go (pc' := 78) (mi_aload_n dX11_readsCode_77 rfl) ?_
  refine Sg.callI (pc' := 81) (t := 0) (μ' := m_X11_fine) (args := [(42, 0)]) (mi_invV (n := 0) (r := 40) dX11_readsCode_78 hC_40 (by omega) rfl rfl wN_X11_fine rfl ⟨by decide, by decide⟩ wL_X11_100 wI_X11_fine wS_X11_fine wB_X11 wC_X11_fine) (fun v hv => C_X11_fine hL D v hv) (Nat.le_of_ble_eq_true rfl) rfl rfl (fun y1 => ?_)
  refine Sg.ite (fun h2 => ?_) (fun h2 => ?_)
  · refine Sg.go (pc' := 85) (mi_ifne_t (tgt := 85) dX11_readsCode_81 (by decide) h2) ?_
    refine Sg.go (pc' := 86) (mi_aload_n dX11_readsCode_85 rfl) ?_
    refine Sg.go (pc' := 87) (mi_aload_n dX11_readsCode_86 rfl) ?_
    refine Sg.go (pc' := 90) (mi_gfA (t := 44) (v := 0) (r := 40) (k := 10) dX11_readsCode_87 hC_40 (by decide) rfl wF_X11_25 (by omega) rfl (hL.1 10 (by decide))) ?_
    refine Sg.go (pc' := 91) (mi_iload_n dX11_readsCode_90 rfl) ?_
    refine Sg.ck (fun hk3 => ?_)
    refine Sg.go (pc' := 92) (mi_aald (n := 111) (t := 45) (v := v1) dX11_readsCode_91 rfl hA_44 rfl (by omega) hk3 rfl (hL.2.1 _ hk3.1 hk3.2)) ?_
    refine Sg.go (pc' := 93) (mi_aload_n dX11_readsCode_92 rfl) ?_
    refine Sg.go (pc' := 96) (mi_gfA (t := 43) (v := 0) (r := 40) (k := 9) dX11_readsCode_93 hC_40 (by decide) rfl wF_X11_20 (by omega) rfl (hL.1 9 (by decide))) ?_
    refine Sg.go (pc' := 97) (mi_iload_n dX11_readsCode_96 rfl) ?_
    refine Sg.go (pc' := 98) (mi_iald (n := 111) dX11_readsCode_97 rfl rfl (by omega) hk3) ?_
    refine Sg.ck (fun hk4 => ?_)
    refine Sg.go (pc' := 99) (mi_aald (n := 24) (t := 46) (v := (24 * v1 + (D 43 0 v1))) dX11_readsCode_98 rfl hA_45 rfl (by omega) hk4 rfl (hL.2.2.1 _ _ (by omega) (by omega) hk4.1 hk4.2)) ?_
    refine Sg.callV (pc' := 102) (μ' := m_X11_readsDeed) (args := [(42, 0), (48, (24 * v1 + (D 43 0 v1)))]) (mi_invV (n := 1) (r := 40) dX11_readsCode_99 hC_40 (by omega) rfl rfl wN_X11_readsDeed rfl ⟨by decide, by decide⟩ wL_X11_216 wI_X11_readsDeed wS_X11_readsDeed wB_X11 wC_X11_readsDeed) (fun v hv => C_X11_readsDeed hL (24 * v1 + (D 43 0 v1)) D (by omega) v hv) (Nat.le_of_ble_eq_true rfl) rfl rfl (fun D5 => ?_)
    refine Sg.go (pc' := 103) (mi_aload_n dX11_readsCode_102 rfl) ?_
    refine Sg.go (pc' := 105) (mi_bipush (z := 59) dX11_readsCode_103 rfl) ?_
    refine Sg.callV (pc' := 108) (μ' := m_X11_sign) (args := [(42, 0), (0, 59)]) (mi_invV (n := 1) (r := 40) dX11_readsCode_105 hC_40 (by omega) rfl rfl wN_X11_sign rfl ⟨by decide, by decide⟩ wL_X11_219 wI_X11_sign wS_X11_sign wB_X11 wC_X11_sign) (fun v hv => C_X11_sign hL 59 D5 v hv) (Nat.le_of_ble_eq_true rfl) rfl rfl (fun D6 => ?_)
    refine Sg.go (pc' := 109) (mi_aload_n dX11_readsCode_108 rfl) ?_
    refine Sg.go (pc' := 112) (mi_gfA (t := 43) (v := 0) (r := 40) (k := 9) dX11_readsCode_109 hC_40 (by decide) rfl wF_X11_20 (by omega) rfl (hL.1 9 (by decide))) ?_
    refine Sg.go (pc' := 113) (mi_iload_n dX11_readsCode_112 rfl) ?_
    refine Sg.go (pc' := 114) (mi_dup2 dX11_readsCode_113 (show (0 : Nat) ≠ 1 by decide) (show (45 : Nat) ≠ 1 by decide)) ?_
    refine Sg.go (pc' := 115) (mi_iald (n := 111) dX11_readsCode_114 rfl rfl (by omega) hk3) ?_
    refine Sg.go (pc' := 116) (mi_iconst (z := 1) dX11_readsCode_115 rfl) ?_
    refine Sg.go (pc' := 117) (mi_iadd dX11_readsCode_116) ?_
    refine Sg.goM (pc' := 118) (mi_iast (n := 111) dX11_readsCode_117 rfl rfl (by omega) hk3) ?_
    refine Sg.letD (fun D7 hD7 => ?_)
    refine Sg.go (pc' := 7) (mi_goto (tgt := 7) dX11_readsCode_118 (by decide)) ?_
    exact K7 v1 v2 D7
  · refine Sg.go (pc' := 84) (mi_ifne_f (tgt := 85) dX11_readsCode_81 (by decide) h2) ?_
    exact Sg.ret (mi_return dX11_readsCode_84 rfl (0, 0))
def B_X11_readsCode_45 (k7 : Int → Int → MiD → Option (MiD)) (v1 : Int) (v2 : Int) (D : MiD) : Option (MiD) := mi_bi (B_X11_wrong 1 (D 40 0 4) D) fun D1 => B_X11_readsCode_77 k7 v1 v2 D1
set_option maxRecDepth 20000 in
theorem S_X11_readsCode_45 {Z : MiZ} (hL : ML Z) {k7 : Int → Int → MiD → Option (MiD)} (K7 : ∀ (v1 v2 : Int) (D : MiD), Sg m_X11_readsCode 7 [(42, 0), (0, v1), (0, v2), mi_un] [] (D, Z) (mi_LV Z) (k7 v1 v2 D)) (v1 v2 : Int) (D : MiD) : Sg m_X11_readsCode 45 [(42, 0), (0, v1), (0, v2), mi_un] [] (D, Z) (mi_LV Z) (B_X11_readsCode_45 k7 v1 v2 D) := by
  unfold B_X11_readsCode_45
  refine Sg.go (pc' := 46) (mi_aload_n dX11_readsCode_45 rfl) ?_
  refine Sg.go (pc' := 47) (mi_iconst (z := 1) dX11_readsCode_46 rfl) ?_
  refine Sg.go (pc' := 48) (mi_aload_n dX11_readsCode_47 rfl) ?_
  refine Sg.go (pc' := 51) (mi_gfI (r := 40) (k := 4) dX11_readsCode_48 hC_40 (by decide) rfl wF_X11_87 (by omega) rfl) ?_
  refine Sg.callV (pc' := 54) (μ' := m_X11_wrong) (args := [(42, 0), (0, 1), (0, (D 40 0 4))]) (mi_invV (n := 2) (r := 40) dX11_readsCode_51 hC_40 (by omega) rfl rfl wN_X11_wrong rfl ⟨by decide, by decide⟩ wL_X11_112 wI_X11_wrong wS_X11_wrong wB_X11 wC_X11_wrong) (fun v hv => C_X11_wrong hL 1 (D 40 0 4) D v hv) (Nat.le_of_ble_eq_true rfl) rfl rfl (fun D1 => ?_)
  refine Sg.go (pc' := 77) (mi_goto (tgt := 77) dX11_readsCode_54 (by decide)) ?_
  exact S_X11_readsCode_77 hL K7 v1 v2 D1
def B_X11_readsCode_7 : Nat → Int → Int → MiD → Option (MiD)
  | 0, _, _, _ => none
  | f + 1, v1, v2, D => mi_bi (B_X11_fine D) fun y1 => if y1 = 0 then (some D) else (mi_b2 (B_X11_here_0 mi_fuel D) fun y3 D4 => if y3 = v2 then (some D4) else (mi_b2 (B_X11_here_0 mi_fuel D4) fun y6 D7 => mi_let (B_X11_isSmall y6) fun x8 => if x8 = 0 then (B_X11_readsCode_45 (B_X11_readsCode_7 f) v1 v2 D7) else (mi_b2 (B_X11_wordHere D7) fun y10 D11 => mi_bi (B_X11_deedOf D11 y10) fun y12 => if y12 ≠ (-1) then (if 0 ≤ v1 ∧ v1 < 111 then (if (D11 43 0 v1) ≠ 24 then (B_X11_readsCode_77 (B_X11_readsCode_7 f) v1 v2 D11) else (mi_bi (B_X11_wrong 3 (D11 40 0 4) D11) fun D16 => B_X11_readsCode_77 (B_X11_readsCode_7 f) v1 v2 D16)) else none) else (B_X11_readsCode_45 (B_X11_readsCode_7 f) v1 v2 D11))))
set_option maxRecDepth 20000 in
theorem S_X11_readsCode_7 {Z : MiZ} (hL : ML Z) : ∀ (f : Nat) (v1 v2 : Int) (D : MiD), Sg m_X11_readsCode 7 [(42, 0), (0, v1), (0, v2), mi_un] [] (D, Z) (mi_LV Z) (B_X11_readsCode_7 f v1 v2 D) := by
  intro f
  induction f with
  | zero => intros; exact Sg.nope
  | succ f K7 =>
    intro v1 v2 D
    show Sg m_X11_readsCode 7 [(42, 0), (0, v1), (0, v2), mi_un] [] (D, Z) (mi_LV Z) (mi_bi (B_X11_fine D) fun y1 => if y1 = 0 then (some D) else (mi_b2 (B_X11_here_0 mi_fuel D) fun y3 D4 => if y3 = v2 then (some D4) else (mi_b2 (B_X11_here_0 mi_fuel D4) fun y6 D7 => mi_let (B_X11_isSmall y6) fun x8 => if x8 = 0 then (B_X11_readsCode_45 (B_X11_readsCode_7 f) v1 v2 D7) else (mi_b2 (B_X11_wordHere D7) fun y10 D11 => mi_bi (B_X11_deedOf D11 y10) fun y12 => if y12 ≠ (-1) then (if 0 ≤ v1 ∧ v1 < 111 then (if (D11 43 0 v1) ≠ 24 then (B_X11_readsCode_77 (B_X11_readsCode_7 f) v1 v2 D11) else (mi_bi (B_X11_wrong 3 (D11 40 0 4) D11) fun D16 => B_X11_readsCode_77 (B_X11_readsCode_7 f) v1 v2 D16)) else none) else (B_X11_readsCode_45 (B_X11_readsCode_7 f) v1 v2 D11)))))
    refine Sg.go (pc' := 8) (mi_aload_n dX11_readsCode_7 rfl) ?_
    refine Sg.callI (pc' := 11) (t := 0) (μ' := m_X11_fine) (args := [(42, 0)]) (mi_invV (n := 0) (r := 40) dX11_readsCode_8 hC_40 (by omega) rfl rfl wN_X11_fine rfl ⟨by decide, by decide⟩ wL_X11_100 wI_X11_fine wS_X11_fine wB_X11 wC_X11_fine) (fun v hv => C_X11_fine hL D v hv) (Nat.le_of_ble_eq_true rfl) rfl rfl (fun y1 => ?_)
    refine Sg.ite (fun h2 => ?_) (fun h2 => ?_)
    · refine Sg.go (pc' := 121) (mi_ifeq_t (tgt := 121) dX11_readsCode_11 (by decide) h2) ?_
      exact Sg.ret (mi_return dX11_readsCode_121 rfl (0, 0))
    · refine Sg.go (pc' := 14) (mi_ifeq_f (tgt := 121) dX11_readsCode_11 (by decide) h2) ?_
      refine Sg.go (pc' := 15) (mi_aload_n dX11_readsCode_14 rfl) ?_
      refine Sg.callD (pc' := 18) (t := 0) (μ' := m_X11_here) (args := [(42, 0)]) (mi_invV (n := 0) (r := 40) dX11_readsCode_15 hC_40 (by omega) rfl rfl wN_X11_here rfl ⟨by decide, by decide⟩ wL_X11_104 wI_X11_here wS_X11_here wB_X11 wC_X11_here) (fun v hv => C_X11_here hL D v hv) (Nat.le_of_ble_eq_true rfl) rfl rfl (fun y3 D4 => ?_)
      refine Sg.go (pc' := 19) (mi_iload_n dX11_readsCode_18 rfl) ?_
      refine Sg.ite (fun h5 => ?_) (fun h5 => ?_)
      · refine Sg.go (pc' := 121) (mi_icmpeq_t (tgt := 121) dX11_readsCode_19 (by decide) h5) ?_
        exact Sg.ret (mi_return dX11_readsCode_121 rfl (0, 0))
      · refine Sg.go (pc' := 22) (mi_icmpeq_f (tgt := 121) dX11_readsCode_19 (by decide) h5) ?_
        refine Sg.go (pc' := 23) (mi_aload_n dX11_readsCode_22 rfl) ?_
        refine Sg.callD (pc' := 26) (t := 0) (μ' := m_X11_here) (args := [(42, 0)]) (mi_invV (n := 0) (r := 40) dX11_readsCode_23 hC_40 (by omega) rfl rfl wN_X11_here rfl ⟨by decide, by decide⟩ wL_X11_104 wI_X11_here wS_X11_here wB_X11 wC_X11_here) (fun v hv => C_X11_here hL D4 v hv) (Nat.le_of_ble_eq_true rfl) rfl rfl (fun y6 D7 => ?_)
        refine Sg.callP (pc' := 29) (t := 0) (v := (B_X11_isSmall y6)) (μ' := m_X11_isSmall) (args := [(0, y6)]) (mi_invS (n := 1) dX11_readsCode_26 rfl wN_X11_isSmall rfl ⟨by decide, by decide⟩ wL_X11_125 wT_X11_isSmall wB_X11 wC_X11_isSmall) (C_X11_isSmall hL y6 D7) (Nat.le_of_ble_eq_true rfl) rfl rfl ?_
        refine Sg.letI (fun x8 hx8 => ?_)
        refine Sg.go (pc' := 30) (mi_istore_n (ls1 := [(42, 0), (0, v1), (0, v2), (0, x8)]) dX11_readsCode_29 (by decide) rfl) ?_
        refine Sg.go (pc' := 31) (mi_iload_n dX11_readsCode_30 rfl) ?_
        refine Sg.ite (fun h9 => ?_) (fun h9 => ?_)
        · refine Sg.go (pc' := 45) (mi_ifeq_t (tgt := 45) dX11_readsCode_31 (by decide) h9) ?_
          refine Sg.go (pc' := 45) (MiStep.weak (ls' := [(42, 0), (0, v1), (0, v2), mi_un]) (mi_wk_y (mi_wk_y (mi_wk_y (mi_wk_n mi_wk_0))))) ?_
          exact S_X11_readsCode_45 hL K7 v1 v2 D7
        · refine Sg.go (pc' := 34) (mi_ifeq_f (tgt := 45) dX11_readsCode_31 (by decide) h9) ?_
          refine Sg.go (pc' := 35) (mi_aload_n dX11_readsCode_34 rfl) ?_
          refine Sg.callD (pc' := 38) (t := 1) (μ' := m_X11_wordHere) (args := [(42, 0)]) (mi_invV (n := 0) (r := 40) dX11_readsCode_35 hC_40 (by omega) rfl rfl wN_X11_wordHere rfl ⟨by decide, by decide⟩ wL_X11_143 wI_X11_wordHere wS_X11_wordHere wB_X11 wC_X11_wordHere) (fun v hv => C_X11_wordHere hL D7 v hv) (Nat.le_of_ble_eq_true rfl) rfl rfl (fun y10 D11 => ?_)
          refine Sg.callI (pc' := 41) (t := 0) (μ' := m_X11_deedOf) (args := [(1, y10)]) (mi_invS (n := 1) dX11_readsCode_38 rfl wN_X11_deedOf rfl ⟨by decide, by decide⟩ wL_X11_197 wT_X11_deedOf wB_X11 wC_X11_deedOf) (fun v hv => C_X11_deedOf hL y10 D11 v hv) (Nat.le_of_ble_eq_true rfl) rfl rfl (fun y12 => ?_)
          refine Sg.go (pc' := 42) (mi_iconst (z := (-1)) dX11_readsCode_41 rfl) ?_
          refine Sg.ite (fun h13 => ?_) (fun h13 => ?_)
          · refine Sg.go (pc' := 57) (mi_icmpne_t (tgt := 57) dX11_readsCode_42 (by decide) h13) ?_
            refine Sg.go (pc' := 58) (mi_aload_n dX11_readsCode_57 rfl) ?_
            refine Sg.go (pc' := 61) (mi_gfA (t := 43) (v := 0) (r := 40) (k := 9) dX11_readsCode_58 hC_40 (by decide) rfl wF_X11_20 (by omega) rfl (hL.1 9 (by decide))) ?_
            refine Sg.go (pc' := 62) (mi_iload_n dX11_readsCode_61 rfl) ?_
            refine Sg.ck (fun hk14 => ?_)
            refine Sg.go (pc' := 63) (mi_iald (n := 111) dX11_readsCode_62 rfl rfl (by omega) hk14) ?_
            refine Sg.go (pc' := 65) (mi_bipush (z := 24) dX11_readsCode_63 rfl) ?_
            refine Sg.ite (fun h15 => ?_) (fun h15 => ?_)
            · refine Sg.go (pc' := 77) (mi_icmpne_t (tgt := 77) dX11_readsCode_65 (by decide) h15) ?_
              refine Sg.go (pc' := 77) (MiStep.weak (ls' := [(42, 0), (0, v1), (0, v2), mi_un]) (mi_wk_y (mi_wk_y (mi_wk_y (mi_wk_n mi_wk_0))))) ?_
              exact S_X11_readsCode_77 hL K7 v1 v2 D11
            · refine Sg.go (pc' := 68) (mi_icmpne_f (tgt := 77) dX11_readsCode_65 (by decide) h15) ?_
              refine Sg.go (pc' := 69) (mi_aload_n dX11_readsCode_68 rfl) ?_
              refine Sg.go (pc' := 70) (mi_iconst (z := 3) dX11_readsCode_69 rfl) ?_
              refine Sg.go (pc' := 71) (mi_aload_n dX11_readsCode_70 rfl) ?_
              refine Sg.go (pc' := 74) (mi_gfI (r := 40) (k := 4) dX11_readsCode_71 hC_40 (by decide) rfl wF_X11_87 (by omega) rfl) ?_
              refine Sg.callV (pc' := 77) (μ' := m_X11_wrong) (args := [(42, 0), (0, 3), (0, (D11 40 0 4))]) (mi_invV (n := 2) (r := 40) dX11_readsCode_74 hC_40 (by omega) rfl rfl wN_X11_wrong rfl ⟨by decide, by decide⟩ wL_X11_112 wI_X11_wrong wS_X11_wrong wB_X11 wC_X11_wrong) (fun v hv => C_X11_wrong hL 3 (D11 40 0 4) D11 v hv) (Nat.le_of_ble_eq_true rfl) rfl rfl (fun D16 => ?_)
              refine Sg.go (pc' := 77) (MiStep.weak (ls' := [(42, 0), (0, v1), (0, v2), mi_un]) (mi_wk_y (mi_wk_y (mi_wk_y (mi_wk_n mi_wk_0))))) ?_
              exact S_X11_readsCode_77 hL K7 v1 v2 D16
          · refine Sg.go (pc' := 45) (mi_icmpne_f (tgt := 57) dX11_readsCode_42 (by decide) h13) ?_
            refine Sg.go (pc' := 45) (MiStep.weak (ls' := [(42, 0), (0, v1), (0, v2), mi_un]) (mi_wk_y (mi_wk_y (mi_wk_y (mi_wk_n mi_wk_0))))) ?_
            exact S_X11_readsCode_45 hL K7 v1 v2 D11
def B_X11_readsCode (v1 : Int) (v2 : Int) (D : MiD) : Option (MiD) := if 0 ≤ v1 ∧ v1 < 111 then (mi_let (mi_st D 43 0 v1 0) fun D2 => B_X11_readsCode_7 mi_fuel v1 v2 D2) else none
set_option maxRecDepth 20000 in
theorem S_X11_readsCode {Z : MiZ} (hL : ML Z) (v1 v2 : Int) (D : MiD) : Sg m_X11_readsCode 0 [(42, 0), (0, v1), (0, v2), mi_un] [] (D, Z) (mi_LV Z) (B_X11_readsCode v1 v2 D) := by
  unfold B_X11_readsCode
  refine Sg.go (pc' := 1) (mi_aload_n dX11_readsCode_0 rfl) ?_
  refine Sg.go (pc' := 4) (mi_gfA (t := 43) (v := 0) (r := 40) (k := 9) dX11_readsCode_1 hC_40 (by decide) rfl wF_X11_20 (by omega) rfl (hL.1 9 (by decide))) ?_
  refine Sg.go (pc' := 5) (mi_iload_n dX11_readsCode_4 rfl) ?_
  refine Sg.go (pc' := 6) (mi_iconst (z := 0) dX11_readsCode_5 rfl) ?_
  refine Sg.ck (fun hk1 => ?_)
  refine Sg.goM (pc' := 7) (mi_iast (n := 111) dX11_readsCode_6 rfl rfl (by omega) hk1) ?_
  refine Sg.letD (fun D2 hD2 => ?_)
  exact S_X11_readsCode_7 hL mi_fuel v1 v2 D2
theorem C_X11_readsCode {Z : MiZ} (hL : ML Z) (a1 a2 : Int) (D : MiD) (b : MiD) (hb : B_X11_readsCode a1 a2 D = some b) : MC m_X11_readsCode [(42, 0), (0, a1), (0, a2)] (D, Z) ((mi_LV Z) b) := MC.ofSg (L := (mi_LV Z)) (μ := m_X11_readsCode) (args := [(42, 0), (0, a1), (0, a2)]) (M := (D, Z)) rfl wP_X11 (Nat.le_of_ble_eq_true rfl) (show Sg m_X11_readsCode 0 [(42, 0), (0, a1), (0, a2), mi_un] [] (D, Z) (mi_LV Z) (B_X11_readsCode a1 a2 D) from S_X11_readsCode hL a1 a2 D) hb
abbrev m_X5_readCode : MiI := (yX5_readCode, cX5_readCode, 4, (some (.object "MendedProgram$Code")), 8, none)
def B_X5_readCode_66 (k20 : Int → Int → Int → Int → MiD → MiZ → Option (Int × MiM)) (v0 : Int) (v1 : Int) (v2 : Int) (v3 : Int) (D : MiD) (Z : MiZ) : Option (Int × MiM) := if 0 ≤ v2 then (mi_bw (B_X5_readDeed v0 v2 D Z) fun D2 Z3 => mi_req (CL Z3) (k20 v0 v1 v2 (mi_w (v3 + 1)) D2 Z3)) else none
set_option maxRecDepth 20000 in
theorem S_X5_readCode_66  {k20 : Int → Int → Int → Int → MiD → MiZ → Option (Int × MiM)} (K20 : ∀ (v0 v1 v2 v3 : Int) (D : MiD) (Z : MiZ) (hL : CL Z), 0 ≤ v0 → (v1 = 0 ∨ v1 = 1) → Sg m_X5_readCode 20 [(11, v0), (0, v1), (8, v2), (0, v3)] [] (D, Z) (mi_LZ 8) (k20 v0 v1 v2 v3 D Z)) (v0 v1 v2 v3 : Int) (D : MiD) (Z : MiZ) (hL : CL Z) : 0 ≤ v0 → (v1 = 0 ∨ v1 = 1) → Sg m_X5_readCode 66 [(11, v0), (0, v1), (8, v2), (0, v3)] [] (D, Z) (mi_LZ 8) (B_X5_readCode_66 k20 v0 v1 v2 v3 D Z) := by
  intro hb0 hb1
  unfold B_X5_readCode_66
  refine Sg.go (pc' := 67) (mi_aload_n dX5_readCode_66 rfl) ?_
  refine Sg.go (pc' := 68) (mi_aload_n dX5_readCode_67 rfl) ?_
  refine Sg.ck (fun hk1 => ?_)
  refine Sg.callW (pc' := 71) (μ' := m_X5_readDeed) (args := [(11, v0), (8, v2)]) (mi_invV (n := 1) (r := 9) dX5_readCode_68 hC_9 (by omega) rfl rfl wN_X5_readDeed rfl ⟨by decide, by decide⟩ wL_X5_88 wI_X5_readDeed wS_X5_readDeed wB_X5 wC_X5_readDeed) (fun v hv => C_X5_readDeed hL v0 v2 D (by omega) (by omega) v hv) (Nat.le_of_ble_eq_true rfl) rfl rfl (fun D2 Z3 => ?_)
  refine Sg.rq (fun hL => ?_)
  refine Sg.go (pc' := 74) (mi_iinc (z := 1) (ls1 := [(11, v0), (0, v1), (8, v2), (0, (mi_w (v3 + 1)))]) dX5_readCode_71 (by decide) rfl rfl rfl) ?_
  refine Sg.go (pc' := 20) (mi_goto (tgt := 20) dX5_readCode_74 (by decide)) ?_
  exact K20 v0 v1 v2 (mi_w (v3 + 1)) D2 Z3 hL hb0 hb1
def B_X5_readCode_20 : Nat → Int → Int → Int → Int → MiD → MiZ → Option (Int × MiM)
  | 0, _, _, _, _, _, _ => none
  | f + 1, v0, v1, v2, v3, D, Z => if 24 < v3 then (some (v2, (D, Z))) else (if (D 9 v0 3) ≠ 0 then (some (v2, (D, Z))) else (mi_bi (B_X5_skipBlanks_0 Z mi_fuel v0 D) fun D3 => if v1 = 0 then (if (D3 9 v0 2) < (D3 9 v0 1) then (B_X5_readCode_66 (B_X5_readCode_20 f) v0 v1 v2 v3 D3 Z) else (some (v2, (D3, Z)))) else (mi_b2 (B_X5_passIf Z v0 125 D3) fun y6 D7 => if y6 = 0 then (B_X5_readCode_66 (B_X5_readCode_20 f) v0 v1 v2 v3 D7 Z) else (some (v2, (D7, Z))))))
set_option maxRecDepth 20000 in
theorem S_X5_readCode_20  : ∀ (f : Nat) (v0 v1 v2 v3 : Int) (D : MiD) (Z : MiZ) (hL : CL Z), 0 ≤ v0 → (v1 = 0 ∨ v1 = 1) → Sg m_X5_readCode 20 [(11, v0), (0, v1), (8, v2), (0, v3)] [] (D, Z) (mi_LZ 8) (B_X5_readCode_20 f v0 v1 v2 v3 D Z) := by
  intro f
  induction f with
  | zero => intros; exact Sg.nope
  | succ f K20 =>
    intro v0 v1 v2 v3 D Z hL hb0 hb1
    show Sg m_X5_readCode 20 [(11, v0), (0, v1), (8, v2), (0, v3)] [] (D, Z) (mi_LZ 8) (if 24 < v3 then (some (v2, (D, Z))) else (if (D 9 v0 3) ≠ 0 then (some (v2, (D, Z))) else (mi_bi (B_X5_skipBlanks_0 Z mi_fuel v0 D) fun D3 => if v1 = 0 then (if (D3 9 v0 2) < (D3 9 v0 1) then (B_X5_readCode_66 (B_X5_readCode_20 f) v0 v1 v2 v3 D3 Z) else (some (v2, (D3, Z)))) else (mi_b2 (B_X5_passIf Z v0 125 D3) fun y6 D7 => if y6 = 0 then (B_X5_readCode_66 (B_X5_readCode_20 f) v0 v1 v2 v3 D7 Z) else (some (v2, (D7, Z)))))))
    refine Sg.go (pc' := 21) (mi_iload_n dX5_readCode_20 rfl) ?_
    refine Sg.go (pc' := 23) (mi_bipush (z := 24) dX5_readCode_21 rfl) ?_
    refine Sg.ite (fun h1 => ?_) (fun h1 => ?_)
    · refine Sg.go (pc' := 77) (mi_icmpgt_t (tgt := 77) dX5_readCode_23 (by decide) h1) ?_
      refine Sg.go (pc' := 78) (mi_aload_n dX5_readCode_77 rfl) ?_
      exact Sg.ret (mi_areturn dX5_readCode_78 rfl (Or.inl ⟨_, rfl⟩))
    · refine Sg.go (pc' := 26) (mi_icmpgt_f (tgt := 77) dX5_readCode_23 (by decide) h1) ?_
      refine Sg.go (pc' := 27) (mi_aload_n dX5_readCode_26 rfl) ?_
      refine Sg.go (pc' := 30) (mi_gfI (r := 9) (k := 3) dX5_readCode_27 hC_9 (by decide) rfl wF_X5_33 (by omega) rfl) ?_
      refine Sg.ite (fun h2 => ?_) (fun h2 => ?_)
      · refine Sg.go (pc' := 77) (mi_ifne_t (tgt := 77) dX5_readCode_30 (by decide) h2) ?_
        refine Sg.go (pc' := 78) (mi_aload_n dX5_readCode_77 rfl) ?_
        exact Sg.ret (mi_areturn dX5_readCode_78 rfl (Or.inl ⟨_, rfl⟩))
      · refine Sg.go (pc' := 33) (mi_ifne_f (tgt := 77) dX5_readCode_30 (by decide) h2) ?_
        refine Sg.go (pc' := 34) (mi_aload_n dX5_readCode_33 rfl) ?_
        refine Sg.callV (pc' := 37) (μ' := m_X5_skipBlanks) (args := [(11, v0)]) (mi_invV (n := 0) (r := 9) dX5_readCode_34 hC_9 (by omega) rfl rfl wN_X5_skipBlanks rfl ⟨by decide, by decide⟩ wL_X5_36 wI_X5_skipBlanks wS_X5_skipBlanks wB_X5 wC_X5_skipBlanks) (fun v hv => C_X5_skipBlanks hL v0 D (by omega) v hv) (Nat.le_of_ble_eq_true rfl) rfl rfl (fun D3 => ?_)
        refine Sg.go (pc' := 38) (mi_iload_n dX5_readCode_37 rfl) ?_
        refine Sg.ite (fun h4 => ?_) (fun h4 => ?_)
        · refine Sg.go (pc' := 53) (mi_ifeq_t (tgt := 53) dX5_readCode_38 (by decide) h4) ?_
          refine Sg.go (pc' := 54) (mi_aload_n dX5_readCode_53 rfl) ?_
          refine Sg.go (pc' := 57) (mi_gfI (r := 9) (k := 2) dX5_readCode_54 hC_9 (by decide) rfl wF_X5_39 (by omega) rfl) ?_
          refine Sg.go (pc' := 58) (mi_aload_n dX5_readCode_57 rfl) ?_
          refine Sg.go (pc' := 61) (mi_gfI (r := 9) (k := 1) dX5_readCode_58 hC_9 (by decide) rfl wF_X5_19 (by omega) rfl) ?_
          refine Sg.ite (fun h5 => ?_) (fun h5 => ?_)
          · refine Sg.go (pc' := 66) (mi_icmplt_t (tgt := 66) dX5_readCode_61 (by decide) h5) ?_
            exact S_X5_readCode_66 K20 v0 v1 v2 v3 D3 Z hL hb0 hb1
          · refine Sg.go (pc' := 64) (mi_icmplt_f (tgt := 66) dX5_readCode_61 (by decide) h5) ?_
            refine Sg.go (pc' := 65) (mi_aload_n dX5_readCode_64 rfl) ?_
            exact Sg.ret (mi_areturn dX5_readCode_65 rfl (Or.inl ⟨_, rfl⟩))
        · refine Sg.go (pc' := 41) (mi_ifeq_f (tgt := 53) dX5_readCode_38 (by decide) h4) ?_
          refine Sg.go (pc' := 42) (mi_aload_n dX5_readCode_41 rfl) ?_
          refine Sg.go (pc' := 44) (mi_bipush (z := 125) dX5_readCode_42 rfl) ?_
          refine Sg.callD (pc' := 47) (t := 0) (μ' := m_X5_passIf) (args := [(11, v0), (0, 125)]) (mi_invV (n := 1) (r := 9) dX5_readCode_44 hC_9 (by omega) rfl rfl wN_X5_passIf rfl ⟨by decide, by decide⟩ wL_X5_84 wI_X5_passIf wS_X5_passIf wB_X5 wC_X5_passIf) (fun v hv => C_X5_passIf hL v0 125 D3 (by omega) v hv) (Nat.le_of_ble_eq_true rfl) rfl rfl (fun y6 D7 => ?_)
          refine Sg.ite (fun h8 => ?_) (fun h8 => ?_)
          · refine Sg.go (pc' := 66) (mi_ifeq_t (tgt := 66) dX5_readCode_47 (by decide) h8) ?_
            exact S_X5_readCode_66 K20 v0 v1 v2 v3 D7 Z hL hb0 hb1
          · refine Sg.go (pc' := 50) (mi_ifeq_f (tgt := 66) dX5_readCode_47 (by decide) h8) ?_
            refine Sg.go (pc' := 64) (mi_goto (tgt := 64) dX5_readCode_50 (by decide)) ?_
            refine Sg.go (pc' := 65) (mi_aload_n dX5_readCode_64 rfl) ?_
            exact Sg.ret (mi_areturn dX5_readCode_65 rfl (Or.inl ⟨_, rfl⟩))
def B_X5_readCode (v0 : Int) (v1 : Int) (D : MiD) (Z : MiZ) : Option (Int × MiM) := if 0 ≤ Z.2 6 then mi_nl D Z 6 2 (fun D1 Z2 => mi_req (CL Z2) (mi_bw (B_X1_init (Z.2 6) D1 Z2) fun D4 Z5 => mi_req (CL Z5) (if v1 = 0 then (B_X5_readCode_20 mi_fuel v0 v1 (Z.2 6) 0 D4 Z5) else (mi_bi (B_X5_passSign Z5 v0 123 D4) fun D7 => B_X5_readCode_20 mi_fuel v0 v1 (Z.2 6) 0 D7 Z5)))) else none
set_option maxRecDepth 20000 in
theorem S_X5_readCode  (v0 v1 : Int) (D : MiD) (Z : MiZ) (hL : CL Z) : 0 ≤ v0 → (v1 = 0 ∨ v1 = 1) → Sg m_X5_readCode 0 [(11, v0), (0, v1), mi_un, mi_un] [] (D, Z) (mi_LZ 8) (B_X5_readCode v0 v1 D Z) := by
  intro hb0 hb1
  unfold B_X5_readCode
  refine Sg.nl (pc' := 3) (r := 6) (n := 2) (mi_new (r := 6) dX5_readCode_0 hC_6 wK_X5_77 wG_X1 wB_X1 hN_6.1 hN_6.2.1 hN_6.2.2) (by decide) (fun hk3 D1 Z2 => ?_)
  refine Sg.rq (fun hL => ?_)
  refine Sg.go (pc' := 4) (mi_dup dX5_readCode_3 (show (8 : Nat) ≠ 1 by decide)) ?_
  refine Sg.callW (pc' := 7) (μ' := m_X1_init) (args := [(8, (Z.2 6))]) (mi_invIN (n := 0) (r := 6) dX5_readCode_4 (by omega) rfl rfl rfl wN_X1_init rfl ⟨by decide, by decide⟩ wL_X5_79 wI_X1_init wB_X1 wC_X1_init) (fun v hv => C_X1_init trivial (Z.2 6) D1 (by omega) v hv) (Nat.le_of_ble_eq_true rfl) rfl rfl (fun D4 Z5 => ?_)
  refine Sg.rq (fun hL => ?_)
  refine Sg.go (pc' := 8) (mi_astore_n (ls1 := [(11, v0), (0, v1), (8, (Z.2 6)), mi_un]) dX5_readCode_7 (by decide) rfl) ?_
  refine Sg.go (pc' := 9) (mi_iload_n dX5_readCode_8 rfl) ?_
  refine Sg.ite (fun h6 => ?_) (fun h6 => ?_)
  · refine Sg.go (pc' := 18) (mi_ifeq_t (tgt := 18) dX5_readCode_9 (by decide) h6) ?_
    refine Sg.go (pc' := 19) (mi_iconst (z := 0) dX5_readCode_18 rfl) ?_
    refine Sg.go (pc' := 20) (mi_istore_n (ls1 := [(11, v0), (0, v1), (8, (Z.2 6)), (0, 0)]) dX5_readCode_19 (by decide) rfl) ?_
    exact S_X5_readCode_20 mi_fuel v0 v1 (Z.2 6) 0 D4 Z5 hL hb0 hb1
  · refine Sg.go (pc' := 12) (mi_ifeq_f (tgt := 18) dX5_readCode_9 (by decide) h6) ?_
    refine Sg.go (pc' := 13) (mi_aload_n dX5_readCode_12 rfl) ?_
    refine Sg.go (pc' := 15) (mi_bipush (z := 123) dX5_readCode_13 rfl) ?_
    refine Sg.callV (pc' := 18) (μ' := m_X5_passSign) (args := [(11, v0), (0, 123)]) (mi_invV (n := 1) (r := 9) dX5_readCode_15 hC_9 (by omega) rfl rfl wN_X5_passSign rfl ⟨by decide, by decide⟩ wL_X5_80 wI_X5_passSign wS_X5_passSign wB_X5 wC_X5_passSign) (fun v hv => C_X5_passSign hL v0 123 D4 (by omega) v hv) (Nat.le_of_ble_eq_true rfl) rfl rfl (fun D7 => ?_)
    refine Sg.go (pc' := 19) (mi_iconst (z := 0) dX5_readCode_18 rfl) ?_
    refine Sg.go (pc' := 20) (mi_istore_n (ls1 := [(11, v0), (0, v1), (8, (Z.2 6)), (0, 0)]) dX5_readCode_19 (by decide) rfl) ?_
    exact S_X5_readCode_20 mi_fuel v0 v1 (Z.2 6) 0 D7 Z5 hL hb0 hb1
theorem C_X5_readCode {Z : MiZ} (hL : CL Z) (a0 a1 : Int) (D : MiD) (h0 : 0 ≤ a0) (h1 : (a1 = 0 ∨ a1 = 1)) (b : Int × MiM) (hb : B_X5_readCode a0 a1 D Z = some b) : MC m_X5_readCode [(11, a0), (0, a1)] (D, Z) ((mi_LZ 8) b) := MC.ofSg (L := (mi_LZ 8)) (μ := m_X5_readCode) (args := [(11, a0), (0, a1)]) (M := (D, Z)) rfl wP_X5 (Nat.le_of_ble_eq_true rfl) (show Sg m_X5_readCode 0 [(11, a0), (0, a1), mi_un, mi_un] [] (D, Z) (mi_LZ 8) (B_X5_readCode a0 a1 D Z) from S_X5_readCode a0 a1 D Z hL h0 h1) hb
abbrev m_X10_function : MiI := (yX10_function, cX10_function, 5, (some .int), 9, none)
def B_X10_function_49 (v1 : Int) (v2 : Int) (s1 : Int) (D : MiD) (Z : MiZ) : Option ((Int × MiM) ⊕ (Nat × MiM)) := if s1 = 0 ∨ s1 = 1 then (mi_bn (B_X10_needState s1 D) (fun b => Sum.inr (b.1, (b.2, Z))) fun D2 => if 0 ≤ Z.2 9 then mi_nl D2 Z 9 5 (fun D3 Z4 => mi_req (CL Z4) (mi_bw (B_X5_init (Z.2 9) v2 D3 Z4) fun D6 Z7 => mi_req (CL Z7) (mi_b3 (B_X5_readCode (Z.2 9) 0 D6 Z7) fun y8 D9 Z10 => mi_req (CL Z10) (mi_bi (B_X10_emptyTape (D9 9 (Z.2 9) 4) D9) fun D11 => if (D11 9 (Z.2 9) 3) = 0 then (if 0 ≤ v1 ∧ v1 < 12 then (if 0 ≤ y8 then (mi_let (mi_st Z10.1 11 0 v1 y8, Z10.2) fun Z15 => mi_req (CL Z15) (some (.inl ((D11 6 y8 1), (D11, Z15))))) else none) else none) else (some (.inl ((mi_w ((D11 9 (Z.2 9) 3) - 10)), (D11, Z10)))))))) else none) else none
set_option maxRecDepth 20000 in
theorem S_X10_function_49  (v1 v2 s1 : Int) (D : MiD) (Z : MiZ) (hL : CL Z) : Sg m_X10_function 49 [(3, 0), (0, v1), (0, v2), mi_un, mi_un] [(0, s1), (3, 0)] (D, Z) (mi_LTZ 0) (B_X10_function_49 v1 v2 s1 D Z) := by
  unfold B_X10_function_49
  refine Sg.ck (fun hk1 => ?_)
  refine Sg.callNg (t := (fun b => Sum.inr (b.1, (b.2, Z)))) (fun _ => rfl) (pc' := 52) (μ' := m_X10_needState) (args := [(3, 0), (0, s1)]) (mi_invV (n := 1) (r := 1) dX10_function_49 hC_1 (by omega) rfl rfl wN_X10_needState rfl ⟨by decide, by decide⟩ wL_X10_49 wI_X10_needState wS_X10_needState wB_X10 wC_X10_needState) (fun v hv => C_X10_needState hL s1 D (hk1) v hv) rfl (Nat.le_of_ble_eq_true rfl) rfl rfl (fun D2 => ?_)
  refine Sg.nl (pc' := 55) (r := 9) (n := 5) (mi_new (r := 9) dX10_function_52 hC_9 wK_X10_52 wG_X5 wB_X5 hN_9.1 hN_9.2.1 hN_9.2.2) (by decide) (fun hk5 D3 Z4 => ?_)
  refine Sg.rq (fun hL => ?_)
  refine Sg.go (pc' := 56) (mi_dup dX10_function_55 (show (11 : Nat) ≠ 1 by decide)) ?_
  refine Sg.go (pc' := 57) (mi_aload_n dX10_function_56 rfl) ?_
  refine Sg.go (pc' := 60) (mi_gfA (t := 10) (v := 0) (r := 1) (k := 0) dX10_function_57 hC_1 (by decide) rfl wF_X10_9 (by omega) rfl hL.1.1) ?_
  refine Sg.go (pc' := 61) (mi_iload_n dX10_function_60 rfl) ?_
  refine Sg.callW (pc' := 64) (μ' := m_X5_init) (args := [(11, (Z.2 9)), (12, 0), (0, v2)]) (mi_invI (n := 2) (r := 9) dX10_function_61 (by omega) rfl rfl rfl wN_X5_init rfl ⟨by decide, by decide⟩ wL_X10_54 wI_X5_init wB_X5 wC_X5_init) (fun v hv => C_X5_init trivial (Z.2 9) v2 D3 (by omega) v hv) (Nat.le_of_ble_eq_true rfl) rfl rfl (fun D6 Z7 => ?_)
  refine Sg.rq (fun hL => ?_)
  refine Sg.go (pc' := 65) (mi_astore_n (ls1 := [(3, 0), (0, v1), (0, v2), (11, (Z.2 9)), mi_un]) dX10_function_64 (by decide) rfl) ?_
  refine Sg.go (pc' := 66) (mi_aload_n dX10_function_65 rfl) ?_
  refine Sg.go (pc' := 67) (mi_iconst (z := 0) dX10_function_66 rfl) ?_
  refine Sg.callZ (pc' := 70) (t := 8) (μ' := m_X5_readCode) (args := [(11, (Z.2 9)), (0, 0)]) (mi_invV (n := 1) (r := 9) dX10_function_67 hC_9 (by omega) rfl rfl wN_X5_readCode rfl ⟨by decide, by decide⟩ wL_X10_57 wI_X5_readCode wS_X5_readCode wB_X5 wC_X5_readCode) (fun v hv => C_X5_readCode hL (Z.2 9) 0 D6 (by omega) (Or.inl rfl) v hv) (Nat.le_of_ble_eq_true rfl) rfl rfl (fun y8 D9 Z10 => ?_)
  refine Sg.rq (fun hL => ?_)
  refine Sg.go (pc' := 72) (mi_astore (ls1 := [(3, 0), (0, v1), (0, v2), (11, (Z.2 9)), (8, y8)]) dX10_function_70 (by decide) rfl) ?_
  refine Sg.go (pc' := 73) (mi_aload_n dX10_function_72 rfl) ?_
  refine Sg.go (pc' := 74) (mi_aload_n dX10_function_73 rfl) ?_
  refine Sg.go (pc' := 77) (mi_gfI (r := 9) (k := 4) dX10_function_74 hC_9 (by decide) rfl wF_X10_61 (by omega) rfl) ?_
  refine Sg.callV (pc' := 80) (μ' := m_X10_emptyTape) (args := [(3, 0), (0, (D9 9 (Z.2 9) 4))]) (mi_invV (n := 1) (r := 1) dX10_function_77 hC_1 (by omega) rfl rfl wN_X10_emptyTape rfl ⟨by decide, by decide⟩ wL_X10_64 wI_X10_emptyTape wS_X10_emptyTape wB_X10 wC_X10_emptyTape) (fun v hv => C_X10_emptyTape hL (D9 9 (Z.2 9) 4) D9 v hv) (Nat.le_of_ble_eq_true rfl) rfl rfl (fun D11 => ?_)
  refine Sg.go (pc' := 81) (mi_aload_n dX10_function_80 rfl) ?_
  refine Sg.go (pc' := 84) (mi_gfI (r := 9) (k := 3) dX10_function_81 hC_9 (by decide) rfl wF_X10_67 (by omega) rfl) ?_
  refine Sg.ite (fun h12 => ?_) (fun h12 => ?_)
  · refine Sg.go (pc' := 95) (mi_ifeq_t (tgt := 95) dX10_function_84 (by decide) h12) ?_
    refine Sg.go (pc' := 96) (mi_aload_n dX10_function_95 rfl) ?_
    refine Sg.go (pc' := 99) (mi_gfA (t := 2) (v := 0) (r := 1) (k := 4) dX10_function_96 hC_1 (by decide) rfl wF_X10_20 (by omega) rfl hL.1.2.1) ?_
    refine Sg.go (pc' := 102) (mi_gfA (t := 11) (v := 0) (r := 2) (k := 0) dX10_function_99 hC_2 (by decide) rfl wF_X10_70 (by omega) rfl (hL.2.1 _ 0 (by omega) (by omega) (by decide))) ?_
    refine Sg.go (pc' := 103) (mi_iload_n dX10_function_102 rfl) ?_
    refine Sg.go (pc' := 105) (mi_aload dX10_function_103 rfl) ?_
    refine Sg.ck (fun hk13 => ?_)
    refine Sg.ck (fun hk14 => ?_)
    refine Sg.goM (pc' := 106) (mi_aast (n := 12) (t := 6) dX10_function_105 rfl hC_6 rfl (by decide) rfl (by omega) (by omega) hk13) ?_
    refine Sg.letZ (fun Z15 hZ15 => ?_)
    refine Sg.rq (fun hL => ?_)
    refine Sg.go (pc' := 108) (mi_aload dX10_function_106 rfl) ?_
    refine Sg.go (pc' := 111) (mi_gfI (r := 6) (k := 1) dX10_function_108 hC_6 (by decide) rfl wF_X10_74 (by omega) rfl) ?_
    exact Sg.ret (mi_ireturn dX10_function_111 rfl (Or.inl rfl))
  · refine Sg.go (pc' := 87) (mi_ifeq_f (tgt := 95) dX10_function_84 (by decide) h12) ?_
    refine Sg.go (pc' := 88) (mi_aload_n dX10_function_87 rfl) ?_
    refine Sg.go (pc' := 91) (mi_gfI (r := 9) (k := 3) dX10_function_88 hC_9 (by decide) rfl wF_X10_67 (by omega) rfl) ?_
    refine Sg.go (pc' := 93) (mi_bipush (z := 10) dX10_function_91 rfl) ?_
    refine Sg.go (pc' := 94) (mi_isub dX10_function_93) ?_
    exact Sg.ret (mi_ireturn dX10_function_94 rfl (Or.inl rfl))
def B_X10_function_28 (v1 : Int) (v2 : Int) (s1 : Int) (D : MiD) (Z : MiZ) : Option ((Int × MiM) ⊕ (Nat × MiM)) := if s1 = 0 ∨ s1 = 1 then (mi_bn (B_X10_needArgument s1 D) (fun b => Sum.inr (b.1, (b.2, Z))) fun D2 => mi_bi (B_X9_idleBits D2 0) fun y3 => if y3 ≠ 63 then (B_X10_function_49 v1 v2 0 D2 Z) else (B_X10_function_49 v1 v2 1 D2 Z)) else none
set_option maxRecDepth 20000 in
theorem S_X10_function_28  (v1 v2 s1 : Int) (D : MiD) (Z : MiZ) (hL : CL Z) : Sg m_X10_function 28 [(3, 0), (0, v1), (0, v2), mi_un, mi_un] [(0, s1), (3, 0)] (D, Z) (mi_LTZ 0) (B_X10_function_28 v1 v2 s1 D Z) := by
  unfold B_X10_function_28
  refine Sg.ck (fun hk1 => ?_)
  refine Sg.callNg (t := (fun b => Sum.inr (b.1, (b.2, Z)))) (fun _ => rfl) (pc' := 31) (μ' := m_X10_needArgument) (args := [(3, 0), (0, s1)]) (mi_invV (n := 1) (r := 1) dX10_function_28 hC_1 (by omega) rfl rfl wN_X10_needArgument rfl ⟨by decide, by decide⟩ wL_X10_42 wI_X10_needArgument wS_X10_needArgument wB_X10 wC_X10_needArgument) (fun v hv => C_X10_needArgument hL s1 D (hk1) v hv) rfl (Nat.le_of_ble_eq_true rfl) rfl rfl (fun D2 => ?_)
  refine Sg.go (pc' := 32) (mi_aload_n dX10_function_31 rfl) ?_
  refine Sg.go (pc' := 33) (mi_aload_n dX10_function_32 rfl) ?_
  refine Sg.go (pc' := 36) (mi_gfA (t := 2) (v := 0) (r := 1) (k := 4) dX10_function_33 hC_1 (by decide) rfl wF_X10_20 (by omega) rfl hL.1.2.1) ?_
  refine Sg.callI (pc' := 39) (t := 0) (μ' := m_X9_idleBits) (args := [(4, 0)]) (mi_invV (n := 0) (r := 2) dX10_function_36 hC_2 (by omega) rfl rfl wN_X9_idleBits rfl ⟨by decide, by decide⟩ wL_X10_45 wI_X9_idleBits wS_X9_idleBits wB_X9 wC_X9_idleBits) (fun v hv => C_X9_idleBits hL 0 D2 (by omega) v hv) (Nat.le_of_ble_eq_true rfl) rfl rfl (fun y3 => ?_)
  refine Sg.go (pc' := 41) (mi_bipush (z := 63) dX10_function_39 rfl) ?_
  refine Sg.ite (fun h4 => ?_) (fun h4 => ?_)
  · refine Sg.go (pc' := 48) (mi_icmpne_t (tgt := 48) dX10_function_41 (by decide) h4) ?_
    refine Sg.go (pc' := 49) (mi_iconst (z := 0) dX10_function_48 rfl) ?_
    exact S_X10_function_49 v1 v2 0 D2 Z hL
  · refine Sg.go (pc' := 44) (mi_icmpne_f (tgt := 48) dX10_function_41 (by decide) h4) ?_
    refine Sg.go (pc' := 45) (mi_iconst (z := 1) dX10_function_44 rfl) ?_
    refine Sg.go (pc' := 49) (mi_goto (tgt := 49) dX10_function_45 (by decide)) ?_
    exact S_X10_function_49 v1 v2 1 D2 Z hL
def B_X10_function_27 (v1 : Int) (v2 : Int) (D : MiD) (Z : MiZ) : Option ((Int × MiM) ⊕ (Nat × MiM)) := B_X10_function_28 v1 v2 0 D Z
set_option maxRecDepth 20000 in
theorem S_X10_function_27  (v1 v2 : Int) (D : MiD) (Z : MiZ) (hL : CL Z) : Sg m_X10_function 27 [(3, 0), (0, v1), (0, v2), mi_un, mi_un] [(3, 0)] (D, Z) (mi_LTZ 0) (B_X10_function_27 v1 v2 D Z) := by
  unfold B_X10_function_27
  refine Sg.go (pc' := 28) (mi_iconst (z := 0) dX10_function_27 rfl) ?_
  exact S_X10_function_28 v1 v2 0 D Z hL
def B_X10_function (v1 : Int) (v2 : Int) (D : MiD) (Z : MiZ) : Option ((Int × MiM) ⊕ (Nat × MiM)) := mi_bn (B_X10_needElement (B_X10_within v1 12) D) (fun b => Sum.inr (b.1, (b.2, Z))) fun D1 => if v2 < 0 then (B_X10_function_27 v1 v2 D1 Z) else (if (D1 1 0 1) < v2 then (B_X10_function_27 v1 v2 D1 Z) else (B_X10_function_28 v1 v2 1 D1 Z))
set_option maxRecDepth 20000 in
theorem S_X10_function  (v1 v2 : Int) (D : MiD) (Z : MiZ) (hL : CL Z) : Sg m_X10_function 0 [(3, 0), (0, v1), (0, v2), mi_un, mi_un] [] (D, Z) (mi_LTZ 0) (B_X10_function v1 v2 D Z) := by
  unfold B_X10_function
  refine Sg.go (pc' := 1) (mi_aload_n dX10_function_0 rfl) ?_
  refine Sg.go (pc' := 2) (mi_iload_n dX10_function_1 rfl) ?_
  refine Sg.go (pc' := 4) (mi_bipush (z := 12) dX10_function_2 rfl) ?_
  refine Sg.callP (pc' := 7) (t := 0) (v := (B_X10_within v1 12)) (μ' := m_X10_within) (args := [(0, v1), (0, 12)]) (mi_invS (n := 2) dX10_function_4 rfl wN_X10_within rfl ⟨by decide, by decide⟩ wL_X10_34 wT_X10_within wB_X10 wC_X10_within) (C_X10_within hL v1 12 D) (Nat.le_of_ble_eq_true rfl) rfl rfl ?_
  refine Sg.callNg (t := (fun b => Sum.inr (b.1, (b.2, Z)))) (fun _ => rfl) (pc' := 10) (μ' := m_X10_needElement) (args := [(3, 0), (0, (B_X10_within v1 12))]) (mi_invV (n := 1) (r := 1) dX10_function_7 hC_1 (by omega) rfl rfl wN_X10_needElement rfl ⟨by decide, by decide⟩ wL_X10_38 wI_X10_needElement wS_X10_needElement wB_X10 wC_X10_needElement) (fun v hv => C_X10_needElement hL (B_X10_within v1 12) D ((by exact Z_X10_within)) v hv) rfl (Nat.le_of_ble_eq_true rfl) rfl rfl (fun D1 => ?_)
  refine Sg.go (pc' := 11) (mi_aload_n dX10_function_10 rfl) ?_
  refine Sg.go (pc' := 12) (mi_iload_n dX10_function_11 rfl) ?_
  refine Sg.ite (fun h2 => ?_) (fun h2 => ?_)
  · refine Sg.go (pc' := 27) (mi_iflt_t (tgt := 27) dX10_function_12 (by decide) h2) ?_
    exact S_X10_function_27 v1 v2 D1 Z hL
  · refine Sg.go (pc' := 15) (mi_iflt_f (tgt := 27) dX10_function_12 (by decide) h2) ?_
    refine Sg.go (pc' := 16) (mi_iload_n dX10_function_15 rfl) ?_
    refine Sg.go (pc' := 17) (mi_aload_n dX10_function_16 rfl) ?_
    refine Sg.go (pc' := 20) (mi_gfI (r := 1) (k := 1) dX10_function_17 hC_1 (by decide) rfl wF_X10_27 (by omega) rfl) ?_
    refine Sg.ite (fun h3 => ?_) (fun h3 => ?_)
    · refine Sg.go (pc' := 27) (mi_icmpgt_t (tgt := 27) dX10_function_20 (by decide) h3) ?_
      exact S_X10_function_27 v1 v2 D1 Z hL
    · refine Sg.go (pc' := 23) (mi_icmpgt_f (tgt := 27) dX10_function_20 (by decide) h3) ?_
      refine Sg.go (pc' := 24) (mi_iconst (z := 1) dX10_function_23 rfl) ?_
      refine Sg.go (pc' := 28) (mi_goto (tgt := 28) dX10_function_24 (by decide)) ?_
      exact S_X10_function_28 v1 v2 1 D1 Z hL
theorem C_X10_function {Z : MiZ} (hL : CL Z) (a1 a2 : Int) (D : MiD) (b : (Int × MiM) ⊕ (Nat × MiM)) (hb : B_X10_function a1 a2 D Z = some b) : MC m_X10_function [(3, 0), (0, a1), (0, a2)] (D, Z) ((mi_LTZ 0) b) := MC.ofSg (L := (mi_LTZ 0)) (μ := m_X10_function) (args := [(3, 0), (0, a1), (0, a2)]) (M := (D, Z)) rfl wP_X10 (Nat.le_of_ble_eq_true rfl) (show Sg m_X10_function 0 [(3, 0), (0, a1), (0, a2), mi_un, mi_un] [] (D, Z) (mi_LTZ 0) (B_X10_function a1 a2 D Z) from S_X10_function a1 a2 D Z hL) hb
abbrev m_X11_block : MiI := (yX11_block, cX11_block, 2, none, 9, none)
def B_X11_block (v1 : Int) (D : MiD) : Option (MiD) := mi_bi (B_X11_sign 123 D) fun D1 => mi_bi (B_X11_fine D1) fun y2 => if y2 ≠ 0 then (mi_bi (B_X11_readsCode (mi_w (100 + v1)) 125 D1) fun D4 => mi_bi (B_X11_sign 125 D4) fun D5 => some D5) else (some D1)
set_option maxRecDepth 20000 in
theorem S_X11_block {Z : MiZ} (hL : ML Z) (v1 : Int) (D : MiD) : Sg m_X11_block 0 [(42, 0), (0, v1)] [] (D, Z) (mi_LV Z) (B_X11_block v1 D) := by
  unfold B_X11_block
  refine Sg.go (pc' := 1) (mi_aload_n dX11_block_0 rfl) ?_
  refine Sg.go (pc' := 3) (mi_bipush (z := 123) dX11_block_1 rfl) ?_
  refine Sg.callV (pc' := 6) (μ' := m_X11_sign) (args := [(42, 0), (0, 123)]) (mi_invV (n := 1) (r := 40) dX11_block_3 hC_40 (by omega) rfl rfl wN_X11_sign rfl ⟨by decide, by decide⟩ wL_X11_219 wI_X11_sign wS_X11_sign wB_X11 wC_X11_sign) (fun v hv => C_X11_sign hL 123 D v hv) (Nat.le_of_ble_eq_true rfl) rfl rfl (fun D1 => ?_)
  refine Sg.go (pc' := 7) (mi_aload_n dX11_block_6 rfl) ?_
  refine Sg.callI (pc' := 10) (t := 0) (μ' := m_X11_fine) (args := [(42, 0)]) (mi_invV (n := 0) (r := 40) dX11_block_7 hC_40 (by omega) rfl rfl wN_X11_fine rfl ⟨by decide, by decide⟩ wL_X11_100 wI_X11_fine wS_X11_fine wB_X11 wC_X11_fine) (fun v hv => C_X11_fine hL D1 v hv) (Nat.le_of_ble_eq_true rfl) rfl rfl (fun y2 => ?_)
  refine Sg.ite (fun h3 => ?_) (fun h3 => ?_)
  · refine Sg.go (pc' := 14) (mi_ifne_t (tgt := 14) dX11_block_10 (by decide) h3) ?_
    refine Sg.go (pc' := 15) (mi_aload_n dX11_block_14 rfl) ?_
    refine Sg.go (pc' := 17) (mi_bipush (z := 100) dX11_block_15 rfl) ?_
    refine Sg.go (pc' := 18) (mi_iload_n dX11_block_17 rfl) ?_
    refine Sg.go (pc' := 19) (mi_iadd dX11_block_18) ?_
    refine Sg.go (pc' := 21) (mi_bipush (z := 125) dX11_block_19 rfl) ?_
    refine Sg.callV (pc' := 24) (μ' := m_X11_readsCode) (args := [(42, 0), (0, (mi_w (100 + v1))), (0, 125)]) (mi_invV (n := 2) (r := 40) dX11_block_21 hC_40 (by omega) rfl rfl wN_X11_readsCode rfl ⟨by decide, by decide⟩ wL_X11_239 wI_X11_readsCode wS_X11_readsCode wB_X11 wC_X11_readsCode) (fun v hv => C_X11_readsCode hL (mi_w (100 + v1)) 125 D1 v hv) (Nat.le_of_ble_eq_true rfl) rfl rfl (fun D4 => ?_)
    refine Sg.go (pc' := 25) (mi_aload_n dX11_block_24 rfl) ?_
    refine Sg.go (pc' := 27) (mi_bipush (z := 125) dX11_block_25 rfl) ?_
    refine Sg.callV (pc' := 30) (μ' := m_X11_sign) (args := [(42, 0), (0, 125)]) (mi_invV (n := 1) (r := 40) dX11_block_27 hC_40 (by omega) rfl rfl wN_X11_sign rfl ⟨by decide, by decide⟩ wL_X11_219 wI_X11_sign wS_X11_sign wB_X11 wC_X11_sign) (fun v hv => C_X11_sign hL 125 D4 v hv) (Nat.le_of_ble_eq_true rfl) rfl rfl (fun D5 => ?_)
    exact Sg.ret (mi_return dX11_block_30 rfl (0, 0))
  · refine Sg.go (pc' := 13) (mi_ifne_f (tgt := 14) dX11_block_10 (by decide) h3) ?_
    exact Sg.ret (mi_return dX11_block_13 rfl (0, 0))
theorem C_X11_block {Z : MiZ} (hL : ML Z) (a1 : Int) (D : MiD) (b : MiD) (hb : B_X11_block a1 D = some b) : MC m_X11_block [(42, 0), (0, a1)] (D, Z) ((mi_LV Z) b) := MC.ofSg (L := (mi_LV Z)) (μ := m_X11_block) (args := [(42, 0), (0, a1)]) (M := (D, Z)) rfl wP_X11 (Nat.le_of_ble_eq_true rfl) (show Sg m_X11_block 0 [(42, 0), (0, a1)] [] (D, Z) (mi_LV Z) (B_X11_block a1 D) from S_X11_block hL a1 D) hb
end MiY1
