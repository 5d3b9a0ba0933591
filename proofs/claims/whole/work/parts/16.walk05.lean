abbrev m_X11_doesAll : MiI := (yX11_doesAll, cX11_doesAll, 4, none, 7, none)
def B_X11_doesAll_69 (k20 : Int → Int → MiD → Option (MiD)) (v1 : Int) (v2 : Int) (v3 : Int) (D : MiD) : Option (MiD) := if 0 ≤ v3 ∧ v3 < 2664 then (mi_b2 (B_X11_does 6 v3 D) fun y2 D3 => if y2 ≤ 0 then (k20 v1 (mi_w (v2 + 1)) D3) else (mi_let (mi_st D3 65 0 7 (mi_w ((D3 65 0 7) + 1))) fun D5 => k20 v1 (mi_w (v2 + 1)) D5)) else none
set_option maxRecDepth 20000 in
theorem S_X11_doesAll_69 {Z : MiZ} (hL : ML Z) {k20 : Int → Int → MiD → Option (MiD)} (K20 : ∀ (v1 v2 : Int) (D : MiD), Sg m_X11_doesAll 20 [(42, 0), (0, v1), (0, v2), mi_un] [] (D, Z) (mi_LV Z) (k20 v1 v2 D)) (v1 v2 v3 : Int) (D : MiD) : Sg m_X11_doesAll 69 [(42, 0), (0, v1), (0, v2), (48, v3)] [] (D, Z) (mi_LV Z) (B_X11_doesAll_69 k20 v1 v2 v3 D) := by
  unfold B_X11_doesAll_69
  refine Sg.go (pc' := 70) (mi_aload_n dX11_doesAll_69 rfl) ?_
  refine Sg.go (pc' := 72) (mi_bipush (z := 6) dX11_doesAll_70 rfl) ?_
  refine Sg.go (pc' := 73) (mi_aload_n dX11_doesAll_72 rfl) ?_
  refine Sg.ck (fun hk1 => ?_)
  refine Sg.callD (pc' := 76) (t := 0) (μ' := m_X11_does) (args := [(42, 0), (0, 6), (48, v3)]) (mi_invV (n := 2) (r := 40) dX11_doesAll_73 hC_40 (by omega) rfl rfl wN_X11_does rfl ⟨by decide, by decide⟩ wL_X11_370 wI_X11_does wS_X11_does wB_X11 wC_X11_does) (fun v hv => C_X11_does hL 6 v3 D (by omega) v hv) (Nat.le_of_ble_eq_true rfl) rfl rfl (fun y2 D3 => ?_)
  refine Sg.ite (fun h4 => ?_) (fun h4 => ?_)
  · refine Sg.go (pc' := 90) (mi_ifle_t (tgt := 90) dX11_doesAll_76 (by decide) h4) ?_
    refine Sg.go (pc' := 93) (mi_iinc (z := 1) (ls1 := [(42, 0), (0, v1), (0, (mi_w (v2 + 1))), (48, v3)]) dX11_doesAll_90 (by decide) rfl rfl rfl) ?_
    refine Sg.go (pc' := 20) (mi_goto (tgt := 20) dX11_doesAll_93 (by decide)) ?_
    refine Sg.go (pc' := 20) (MiStep.weak (ls' := [(42, 0), (0, v1), (0, (mi_w (v2 + 1))), mi_un]) (mi_wk_y (mi_wk_y (mi_wk_y (mi_wk_n mi_wk_0))))) ?_
    exact K20 v1 (mi_w (v2 + 1)) D3
  · refine Sg.go (pc' := 79) (mi_ifle_f (tgt := 90) dX11_doesAll_76 (by decide) h4) ?_
    refine Sg.go (pc' := 80) (mi_aload_n dX11_doesAll_79 rfl) ?_
    refine Sg.go (pc' := 83) (mi_gfA (t := 65) (v := 0) (r := 40) (k := 24) dX11_doesAll_80 hC_40 (by decide) rfl wF_X11_69 (by omega) rfl (hL.1 24 (by decide))) ?_
    refine Sg.go (pc' := 85) (mi_bipush (z := 7) dX11_doesAll_83 rfl) ?_
    refine Sg.go (pc' := 86) (mi_dup2 dX11_doesAll_85 (show (0 : Nat) ≠ 1 by decide) (show (67 : Nat) ≠ 1 by decide)) ?_
    refine Sg.go (pc' := 87) (mi_iald (n := 8) dX11_doesAll_86 rfl rfl (by omega) (by decide)) ?_
    refine Sg.go (pc' := 88) (mi_iconst (z := 1) dX11_doesAll_87 rfl) ?_
    refine Sg.go (pc' := 89) (mi_iadd dX11_doesAll_88) ?_
    refine Sg.goM (pc' := 90) (mi_iast (n := 8) dX11_doesAll_89 rfl rfl (by omega) (by decide)) ?_
    refine Sg.letD (fun D5 hD5 => ?_)
    refine Sg.go (pc' := 93) (mi_iinc (z := 1) (ls1 := [(42, 0), (0, v1), (0, (mi_w (v2 + 1))), (48, v3)]) dX11_doesAll_90 (by decide) rfl rfl rfl) ?_
    refine Sg.go (pc' := 20) (mi_goto (tgt := 20) dX11_doesAll_93 (by decide)) ?_
    refine Sg.go (pc' := 20) (MiStep.weak (ls' := [(42, 0), (0, v1), (0, (mi_w (v2 + 1))), mi_un]) (mi_wk_y (mi_wk_y (mi_wk_y (mi_wk_n mi_wk_0))))) ?_
    exact K20 v1 (mi_w (v2 + 1)) D5
def B_X11_doesAll_20 : Nat → Int → Int → MiD → Option (MiD)
  | 0, _, _, _ => none
  | f + 1, v1, v2, D => if 0 ≤ v1 ∧ v1 < 111 then (if (D 43 0 v1) ≤ v2 then (some D) else (if 0 ≤ v2 ∧ v2 < 24 then (if (D 46 (24 * v1 + v2) 0) ≠ 1 then (if (D 46 (24 * v1 + v2) 0) ≠ 4 then (B_X11_doesAll_69 (B_X11_doesAll_20 f) v1 v2 (24 * v1 + v2) D) else (mi_bi (B_X11_isNought D 6) fun y6 => if y6 = 0 then (B_X11_doesAll_69 (B_X11_doesAll_20 f) v1 v2 (24 * v1 + v2) D) else (mi_let (mi_w (v2 + (D 46 (24 * v1 + v2) 1))) fun x8 => B_X11_doesAll_69 (B_X11_doesAll_20 f) v1 x8 (24 * v1 + v2) D))) else (some D)) else none)) else none
set_option maxRecDepth 20000 in
theorem S_X11_doesAll_20 {Z : MiZ} (hL : ML Z) : ∀ (f : Nat) (v1 v2 : Int) (D : MiD), Sg m_X11_doesAll 20 [(42, 0), (0, v1), (0, v2), mi_un] [] (D, Z) (mi_LV Z) (B_X11_doesAll_20 f v1 v2 D) := by
  intro f
  induction f with
  | zero => intros; exact Sg.nope
  | succ f K20 =>
    intro v1 v2 D
    show Sg m_X11_doesAll 20 [(42, 0), (0, v1), (0, v2), mi_un] [] (D, Z) (mi_LV Z) (if 0 ≤ v1 ∧ v1 < 111 then (if (D 43 0 v1) ≤ v2 then (some D) else (if 0 ≤ v2 ∧ v2 < 24 then (if (D 46 (24 * v1 + v2) 0) ≠ 1 then (if (D 46 (24 * v1 + v2) 0) ≠ 4 then (B_X11_doesAll_69 (B_X11_doesAll_20 f) v1 v2 (24 * v1 + v2) D) else (mi_bi (B_X11_isNought D 6) fun y6 => if y6 = 0 then (B_X11_doesAll_69 (B_X11_doesAll_20 f) v1 v2 (24 * v1 + v2) D) else (mi_let (mi_w (v2 + (D 46 (24 * v1 + v2) 1))) fun x8 => B_X11_doesAll_69 (B_X11_doesAll_20 f) v1 x8 (24 * v1 + v2) D))) else (some D)) else none)) else none)
    refine Sg.go (pc' := 21) (mi_iload_n dX11_doesAll_20 rfl) ?_
    refine Sg.go (pc' := 22) (mi_aload_n dX11_doesAll_21 rfl) ?_
    refine Sg.go (pc' := 25) (mi_gfA (t := 43) (v := 0) (r := 40) (k := 9) dX11_doesAll_22 hC_40 (by decide) rfl wF_X11_20 (by omega) rfl (hL.1 9 (by decide))) ?_
    refine Sg.go (pc' := 26) (mi_iload_n dX11_doesAll_25 rfl) ?_
    refine Sg.ck (fun hk1 => ?_)
    refine Sg.go (pc' := 27) (mi_iald (n := 111) dX11_doesAll_26 rfl rfl (by omega) hk1) ?_
    refine Sg.ite (fun h2 => ?_) (fun h2 => ?_)
    · refine Sg.go (pc' := 96) (mi_icmpge_t (tgt := 96) dX11_doesAll_27 (by decide) h2) ?_
      exact Sg.ret (mi_return dX11_doesAll_96 rfl (0, 0))
    · refine Sg.go (pc' := 30) (mi_icmpge_f (tgt := 96) dX11_doesAll_27 (by decide) h2) ?_
      refine Sg.go (pc' := 31) (mi_aload_n dX11_doesAll_30 rfl) ?_
      refine Sg.go (pc' := 34) (mi_gfA (t := 44) (v := 0) (r := 40) (k := 10) dX11_doesAll_31 hC_40 (by decide) rfl wF_X11_25 (by omega) rfl (hL.1 10 (by decide))) ?_
      refine Sg.go (pc' := 35) (mi_iload_n dX11_doesAll_34 rfl) ?_
      refine Sg.go (pc' := 36) (mi_aald (n := 111) (t := 45) (v := v1) dX11_doesAll_35 rfl hA_44 rfl (by omega) hk1 rfl (hL.2.1 _ hk1.1 hk1.2)) ?_
      refine Sg.go (pc' := 37) (mi_iload_n dX11_doesAll_36 rfl) ?_
      refine Sg.ck (fun hk3 => ?_)
      refine Sg.go (pc' := 38) (mi_aald (n := 24) (t := 46) (v := (24 * v1 + v2)) dX11_doesAll_37 rfl hA_45 rfl (by omega) hk3 rfl (hL.2.2.1 _ _ (by omega) (by omega) hk3.1 hk3.2)) ?_
      refine Sg.go (pc' := 39) (mi_astore_n (ls1 := [(42, 0), (0, v1), (0, v2), (48, (24 * v1 + v2))]) dX11_doesAll_38 (by decide) rfl) ?_
      refine Sg.go (pc' := 40) (mi_aload_n dX11_doesAll_39 rfl) ?_
      refine Sg.go (pc' := 41) (mi_iconst (z := 0) dX11_doesAll_40 rfl) ?_
      refine Sg.go (pc' := 42) (mi_iald (n := 6) dX11_doesAll_41 rfl rfl (by omega) (by decide)) ?_
      refine Sg.go (pc' := 43) (mi_iconst (z := 1) dX11_doesAll_42 rfl) ?_
      refine Sg.ite (fun h4 => ?_) (fun h4 => ?_)
      · refine Sg.go (pc' := 47) (mi_icmpne_t (tgt := 47) dX11_doesAll_43 (by decide) h4) ?_
        refine Sg.go (pc' := 48) (mi_aload_n dX11_doesAll_47 rfl) ?_
        refine Sg.go (pc' := 49) (mi_iconst (z := 0) dX11_doesAll_48 rfl) ?_
        refine Sg.go (pc' := 50) (mi_iald (n := 6) dX11_doesAll_49 rfl rfl (by omega) (by decide)) ?_
        refine Sg.go (pc' := 51) (mi_iconst (z := 4) dX11_doesAll_50 rfl) ?_
        refine Sg.ite (fun h5 => ?_) (fun h5 => ?_)
        · refine Sg.go (pc' := 69) (mi_icmpne_t (tgt := 69) dX11_doesAll_51 (by decide) h5) ?_
          exact S_X11_doesAll_69 hL K20 v1 v2 (24 * v1 + v2) D
        · refine Sg.go (pc' := 54) (mi_icmpne_f (tgt := 69) dX11_doesAll_51 (by decide) h5) ?_
          refine Sg.go (pc' := 55) (mi_aload_n dX11_doesAll_54 rfl) ?_
          refine Sg.go (pc' := 57) (mi_bipush (z := 6) dX11_doesAll_55 rfl) ?_
          refine Sg.callI (pc' := 60) (t := 0) (μ' := m_X11_isNought) (args := [(42, 0), (0, 6)]) (mi_invV (n := 1) (r := 40) dX11_doesAll_57 hC_40 (by omega) rfl rfl wN_X11_isNought rfl ⟨by decide, by decide⟩ wL_X11_367 wI_X11_isNought wS_X11_isNought wB_X11 wC_X11_isNought) (fun v hv => C_X11_isNought hL 6 D v hv) (Nat.le_of_ble_eq_true rfl) rfl rfl (fun y6 => ?_)
          refine Sg.ite (fun h7 => ?_) (fun h7 => ?_)
          · refine Sg.go (pc' := 69) (mi_ifeq_t (tgt := 69) dX11_doesAll_60 (by decide) h7) ?_
            exact S_X11_doesAll_69 hL K20 v1 v2 (24 * v1 + v2) D
          · refine Sg.go (pc' := 63) (mi_ifeq_f (tgt := 69) dX11_doesAll_60 (by decide) h7) ?_
            refine Sg.go (pc' := 64) (mi_iload_n dX11_doesAll_63 rfl) ?_
            refine Sg.go (pc' := 65) (mi_aload_n dX11_doesAll_64 rfl) ?_
            refine Sg.go (pc' := 66) (mi_iconst (z := 1) dX11_doesAll_65 rfl) ?_
            refine Sg.go (pc' := 67) (mi_iald (n := 6) dX11_doesAll_66 rfl rfl (by omega) (by decide)) ?_
            refine Sg.go (pc' := 68) (mi_iadd dX11_doesAll_67) ?_
            refine Sg.letI (fun x8 hx8 => ?_)
            refine Sg.go (pc' := 69) (mi_istore_n (ls1 := [(42, 0), (0, v1), (0, x8), (48, (24 * v1 + v2))]) dX11_doesAll_68 (by decide) rfl) ?_
            exact S_X11_doesAll_69 hL K20 v1 x8 (24 * v1 + v2) D
      · refine Sg.go (pc' := 46) (mi_icmpne_f (tgt := 47) dX11_doesAll_43 (by decide) h4) ?_
        exact Sg.ret (mi_return dX11_doesAll_46 rfl (0, 0))
def B_X11_doesAll (v1 : Int) (D : MiD) : Option (MiD) := mi_let (mi_st D 59 6 2 (-1)) fun D1 => mi_let (mi_st D1 60 0 6 0) fun D2 => B_X11_doesAll_20 mi_fuel v1 0 D2
set_option maxRecDepth 20000 in
theorem S_X11_doesAll {Z : MiZ} (hL : ML Z) (v1 : Int) (D : MiD) : Sg m_X11_doesAll 0 [(42, 0), (0, v1), mi_un, mi_un] [] (D, Z) (mi_LV Z) (B_X11_doesAll v1 D) := by
  unfold B_X11_doesAll
  refine Sg.go (pc' := 1) (mi_aload_n dX11_doesAll_0 rfl) ?_
  refine Sg.go (pc' := 4) (mi_gfA (t := 58) (v := 0) (r := 40) (k := 20) dX11_doesAll_1 hC_40 (by decide) rfl wF_X11_56 (by omega) rfl (hL.1 20 (by decide))) ?_
  refine Sg.go (pc' := 6) (mi_bipush (z := 6) dX11_doesAll_4 rfl) ?_
  refine Sg.go (pc' := 7) (mi_aald (n := 7) (t := 59) (v := 6) dX11_doesAll_6 rfl hA_58 rfl (by omega) (by decide) rfl (hL.2.2.2.2.2.2.1 _ (show 0 ≤ (6 : Int) ∧ (6 : Int) < 7 by decide).1 (show 0 ≤ (6 : Int) ∧ (6 : Int) < 7 by decide).2)) ?_
  refine Sg.go (pc' := 8) (mi_iconst (z := 2) dX11_doesAll_7 rfl) ?_
  refine Sg.go (pc' := 9) (mi_iconst (z := (-1)) dX11_doesAll_8 rfl) ?_
  refine Sg.goM (pc' := 10) (mi_iast (n := 7) dX11_doesAll_9 rfl rfl (by omega) (by decide)) ?_
  refine Sg.letD (fun D1 hD1 => ?_)
  refine Sg.go (pc' := 11) (mi_aload_n dX11_doesAll_10 rfl) ?_
  refine Sg.go (pc' := 14) (mi_gfA (t := 60) (v := 0) (r := 40) (k := 21) dX11_doesAll_11 hC_40 (by decide) rfl wF_X11_59 (by omega) rfl (hL.1 21 (by decide))) ?_
  refine Sg.go (pc' := 16) (mi_bipush (z := 6) dX11_doesAll_14 rfl) ?_
  refine Sg.go (pc' := 17) (mi_lconst (z := 0) dX11_doesAll_16 rfl) ?_
  refine Sg.goM (pc' := 18) (mi_last (n := 7) dX11_doesAll_17 rfl rfl (by omega) (by decide)) ?_
  refine Sg.letD (fun D2 hD2 => ?_)
  refine Sg.go (pc' := 19) (mi_iconst (z := 0) dX11_doesAll_18 rfl) ?_
  refine Sg.go (pc' := 20) (mi_istore_n (ls1 := [(42, 0), (0, v1), (0, 0), mi_un]) dX11_doesAll_19 (by decide) rfl) ?_
  exact S_X11_doesAll_20 hL mi_fuel v1 0 D2
theorem C_X11_doesAll {Z : MiZ} (hL : ML Z) (a1 : Int) (D : MiD) (b : MiD) (hb : B_X11_doesAll a1 D = some b) : MC m_X11_doesAll [(42, 0), (0, a1)] (D, Z) ((mi_LV Z) b) := MC.ofSg (L := (mi_LV Z)) (μ := m_X11_doesAll) (args := [(42, 0), (0, a1)]) (M := (D, Z)) rfl wP_X11 (Nat.le_of_ble_eq_true rfl) (show Sg m_X11_doesAll 0 [(42, 0), (0, a1), mi_un, mi_un] [] (D, Z) (mi_LV Z) (B_X11_doesAll a1 D) from S_X11_doesAll hL a1 D) hb
abbrev m_X11_goesOn : MiI := (yX11_goesOn, cX11_goesOn, 7, (some .int), 7, none)
def B_X11_goesOn_326 (v2 : Int) (D : MiD) : Option (Int × MiD) := if 0 ≤ v2 ∧ v2 < 7 then (if (D 59 v2 1) ≤ 0 then (some ((D 59 v2 1), D)) else (mi_let (mi_st D 65 0 6 (mi_w ((D 65 0 6) + 1))) fun D3 => some ((D3 59 v2 1), D3))) else none
set_option maxRecDepth 20000 in
theorem S_X11_goesOn_326 {Z : MiZ} (hL : ML Z) (v2 : Int) (D : MiD) : Sg m_X11_goesOn 326 [(42, 0), mi_un, (61, v2), mi_un, mi_un, mi_un, mi_un] [] (D, Z) (mi_LD 0 Z) (B_X11_goesOn_326 v2 D) := by
  unfold B_X11_goesOn_326
  refine Sg.go (pc' := 327) (mi_aload_n dX11_goesOn_326 rfl) ?_
  refine Sg.go (pc' := 328) (mi_iconst (z := 1) dX11_goesOn_327 rfl) ?_
  refine Sg.ck (fun hk1 => ?_)
  refine Sg.go (pc' := 329) (mi_iald (n := 7) dX11_goesOn_328 rfl rfl (by omega) (by decide)) ?_
  refine Sg.ite (fun h2 => ?_) (fun h2 => ?_)
  · refine Sg.go (pc' := 343) (mi_ifle_t (tgt := 343) dX11_goesOn_329 (by decide) h2) ?_
    refine Sg.go (pc' := 344) (mi_aload_n dX11_goesOn_343 rfl) ?_
    refine Sg.go (pc' := 345) (mi_iconst (z := 1) dX11_goesOn_344 rfl) ?_
    refine Sg.go (pc' := 346) (mi_iald (n := 7) dX11_goesOn_345 rfl rfl (by omega) (by decide)) ?_
    exact Sg.ret (mi_ireturn dX11_goesOn_346 rfl (Or.inl rfl))
  · refine Sg.go (pc' := 332) (mi_ifle_f (tgt := 343) dX11_goesOn_329 (by decide) h2) ?_
    refine Sg.go (pc' := 333) (mi_aload_n dX11_goesOn_332 rfl) ?_
    refine Sg.go (pc' := 336) (mi_gfA (t := 65) (v := 0) (r := 40) (k := 24) dX11_goesOn_333 hC_40 (by decide) rfl wF_X11_69 (by omega) rfl (hL.1 24 (by decide))) ?_
    refine Sg.go (pc' := 338) (mi_bipush (z := 6) dX11_goesOn_336 rfl) ?_
    refine Sg.go (pc' := 339) (mi_dup2 dX11_goesOn_338 (show (0 : Nat) ≠ 1 by decide) (show (67 : Nat) ≠ 1 by decide)) ?_
    refine Sg.go (pc' := 340) (mi_iald (n := 8) dX11_goesOn_339 rfl rfl (by omega) (by decide)) ?_
    refine Sg.go (pc' := 341) (mi_iconst (z := 1) dX11_goesOn_340 rfl) ?_
    refine Sg.go (pc' := 342) (mi_iadd dX11_goesOn_341) ?_
    refine Sg.goM (pc' := 343) (mi_iast (n := 8) dX11_goesOn_342 rfl rfl (by omega) (by decide)) ?_
    refine Sg.letD (fun D3 hD3 => ?_)
    refine Sg.go (pc' := 344) (mi_aload_n dX11_goesOn_343 rfl) ?_
    refine Sg.go (pc' := 345) (mi_iconst (z := 1) dX11_goesOn_344 rfl) ?_
    refine Sg.go (pc' := 346) (mi_iald (n := 7) dX11_goesOn_345 rfl rfl (by omega) (by decide)) ?_
    exact Sg.ret (mi_ireturn dX11_goesOn_346 rfl (Or.inl rfl))
def B_X11_goesOn_279 (v2 : Int) (s0 : Int) (s1 : Int) (s2 : Int) (s3 : Int) (s4 : Int) (D : MiD) : Option (Int × MiD) := if 0 ≤ s0 ∧ s0 < 60 then (if 0 ≤ s1 ∧ s1 < 4 then (mi_let (mi_st D 63 s0 s1 (mi_w (s2 + (mi_w (s3 + s4))))) fun D3 => B_X11_goesOn_326 v2 D3) else none) else none
set_option maxRecDepth 20000 in
theorem S_X11_goesOn_279 {Z : MiZ} (hL : ML Z) (v2 s0 s1 s2 s3 s4 : Int) (D : MiD) : Sg m_X11_goesOn 279 [(42, 0), mi_un, (61, v2), mi_un, mi_un, mi_un, mi_un] [(0, s4), (0, s3), (0, s2), (0, s1), (65, s0)] (D, Z) (mi_LD 0 Z) (B_X11_goesOn_279 v2 s0 s1 s2 s3 s4 D) := by
  unfold B_X11_goesOn_279
  refine Sg.go (pc' := 280) (mi_iadd dX11_goesOn_279) ?_
  refine Sg.go (pc' := 281) (mi_iadd dX11_goesOn_280) ?_
  refine Sg.ck (fun hk1 => ?_)
  refine Sg.ck (fun hk2 => ?_)
  refine Sg.goM (pc' := 282) (mi_iast (n := 4) dX11_goesOn_281 rfl rfl (by omega) hk2) ?_
  refine Sg.letD (fun D3 hD3 => ?_)
  refine Sg.go (pc' := 326) (mi_goto (tgt := 326) dX11_goesOn_282 (by decide)) ?_
  exact S_X11_goesOn_326 hL v2 D3
def B_X11_goesOn_298 (v2 : Int) (v3 : Int) (s0 : Int) (s1 : Int) (s2 : Int) (D : MiD) : Option (Int × MiD) := if 0 ≤ s0 ∧ s0 < 60 then (if 0 ≤ s1 ∧ s1 < 4 then (mi_let (mi_st D 63 s0 s1 s2) fun D3 => if 0 ≤ v3 ∧ v3 < 60 then (mi_let (mi_st D3 63 v3 2 (mi_w ((D3 63 v3 2) + 1))) fun D5 => B_X11_goesOn_326 v2 D5) else none) else none) else none
set_option maxRecDepth 20000 in
theorem S_X11_goesOn_298 {Z : MiZ} (hL : ML Z) (v2 v3 s0 s1 s2 : Int) (D : MiD) : Sg m_X11_goesOn 298 [(42, 0), mi_un, (61, v2), (65, v3), mi_un, mi_un, mi_un] [(0, s2), (0, s1), (65, s0)] (D, Z) (mi_LD 0 Z) (B_X11_goesOn_298 v2 v3 s0 s1 s2 D) := by
  unfold B_X11_goesOn_298
  refine Sg.ck (fun hk1 => ?_)
  refine Sg.ck (fun hk2 => ?_)
  refine Sg.goM (pc' := 299) (mi_iast (n := 4) dX11_goesOn_298 rfl rfl (by omega) hk2) ?_
  refine Sg.letD (fun D3 hD3 => ?_)
  refine Sg.go (pc' := 300) (mi_aload_n dX11_goesOn_299 rfl) ?_
  refine Sg.go (pc' := 301) (mi_iconst (z := 2) dX11_goesOn_300 rfl) ?_
  refine Sg.go (pc' := 302) (mi_dup2 dX11_goesOn_301 (show (0 : Nat) ≠ 1 by decide) (show (65 : Nat) ≠ 1 by decide)) ?_
  refine Sg.ck (fun hk4 => ?_)
  refine Sg.go (pc' := 303) (mi_iald (n := 4) dX11_goesOn_302 rfl rfl (by omega) (by decide)) ?_
  refine Sg.go (pc' := 304) (mi_iconst (z := 1) dX11_goesOn_303 rfl) ?_
  refine Sg.go (pc' := 305) (mi_iadd dX11_goesOn_304) ?_
  refine Sg.goM (pc' := 306) (mi_iast (n := 4) dX11_goesOn_305 rfl rfl (by omega) (by decide)) ?_
  refine Sg.letD (fun D5 hD5 => ?_)
  refine Sg.go (pc' := 326) (mi_goto (tgt := 326) dX11_goesOn_306 (by decide)) ?_
  refine Sg.go (pc' := 326) (MiStep.weak (ls' := [(42, 0), mi_un, (61, v2), mi_un, mi_un, mi_un, mi_un]) (mi_wk_y (mi_wk_y (mi_wk_y (mi_wk_n (mi_wk_y (mi_wk_y (mi_wk_y mi_wk_0)))))))) ?_
  exact S_X11_goesOn_326 hL v2 D5
def B_X11_goesOn_285 (v2 : Int) (v3 : Int) (v6 : Int) (D : MiD) : Option (Int × MiD) := if v6 ≠ 5 then (B_X11_goesOn_298 v2 v3 v3 3 0 D) else (B_X11_goesOn_298 v2 v3 v3 3 1 D)
set_option maxRecDepth 20000 in
theorem S_X11_goesOn_285 {Z : MiZ} (hL : ML Z) (v2 v3 v6 : Int) (D : MiD) : Sg m_X11_goesOn 285 [(42, 0), mi_un, (61, v2), (65, v3), mi_un, mi_un, (0, v6)] [] (D, Z) (mi_LD 0 Z) (B_X11_goesOn_285 v2 v3 v6 D) := by
  unfold B_X11_goesOn_285
  refine Sg.go (pc' := 286) (mi_aload_n dX11_goesOn_285 rfl) ?_
  refine Sg.go (pc' := 287) (mi_iconst (z := 3) dX11_goesOn_286 rfl) ?_
  refine Sg.go (pc' := 289) (mi_iload dX11_goesOn_287 rfl) ?_
  refine Sg.go (pc' := 290) (mi_iconst (z := 5) dX11_goesOn_289 rfl) ?_
  refine Sg.ite (fun h1 => ?_) (fun h1 => ?_)
  · refine Sg.go (pc' := 297) (mi_icmpne_t (tgt := 297) dX11_goesOn_290 (by decide) h1) ?_
    refine Sg.go (pc' := 298) (mi_iconst (z := 0) dX11_goesOn_297 rfl) ?_
    refine Sg.go (pc' := 298) (MiStep.weak (ls' := [(42, 0), mi_un, (61, v2), (65, v3), mi_un, mi_un, mi_un]) (mi_wk_y (mi_wk_y (mi_wk_y (mi_wk_y (mi_wk_y (mi_wk_y (mi_wk_n mi_wk_0)))))))) ?_
    exact S_X11_goesOn_298 hL v2 v3 v3 3 0 D
  · refine Sg.go (pc' := 293) (mi_icmpne_f (tgt := 297) dX11_goesOn_290 (by decide) h1) ?_
    refine Sg.go (pc' := 294) (mi_iconst (z := 1) dX11_goesOn_293 rfl) ?_
    refine Sg.go (pc' := 298) (mi_goto (tgt := 298) dX11_goesOn_294 (by decide)) ?_
    refine Sg.go (pc' := 298) (MiStep.weak (ls' := [(42, 0), mi_un, (61, v2), (65, v3), mi_un, mi_un, mi_un]) (mi_wk_y (mi_wk_y (mi_wk_y (mi_wk_y (mi_wk_y (mi_wk_y (mi_wk_n mi_wk_0)))))))) ?_
    exact S_X11_goesOn_298 hL v2 v3 v3 3 1 D
def B_X11_goesOn_118 (v1 : Int) (v2 : Int) (v3 : Int) (v4 : Int) (v5 : Int) (s0 : Int) (D : MiD) : Option (Int × MiD) := if 0 ≤ v2 ∧ v2 < 7 then (mi_let (mi_st D 59 v2 6 (mi_w ((D 59 v2 6) + 1))) fun D2 => mi_let (mi_st D2 59 v2 1 0) fun D3 => if s0 = 0 then (if 0 ≤ v3 ∧ v3 < 60 then (mi_let (mi_st D3 63 v3 2 (mi_w ((D3 63 v3 2) + 1))) fun D7 => if (D7 59 v2 0) ≠ 10 then (if 0 ≤ v5 ∧ v5 < 2664 then (mi_bi (B_X11_pushes v1 (D7 46 v5 1) D7) fun D10 => B_X11_goesOn_326 v2 D10) else none) else (mi_let (mi_st D7 59 v2 1 3) fun D11 => B_X11_goesOn_326 v2 D11)) else none) else (if s0 = 1 then (mi_let (mi_st D3 59 v2 0 (mi_w ((D3 59 v2 0) - 1))) fun D13 => B_X11_goesOn_326 v2 D13) else (if s0 = 2 then (if 0 ≤ v3 ∧ v3 < 60 then (mi_let (mi_st D3 63 v3 2 0) fun D16 => B_X11_goesOn_326 v2 D16) else none) else (if s0 = 3 then (if 0 ≤ v5 ∧ v5 < 2664 then (mi_let (mi_st D3 59 v2 3 (D3 46 v5 1)) fun D19 => if (D19 46 v5 1) ≠ 0 then (B_X11_goesOn_326 v2 D19) else (if 0 ≤ v3 ∧ v3 < 60 then (mi_let (mi_st D19 63 v3 2 (mi_w ((D19 63 v3 2) + 1))) fun D22 => B_X11_goesOn_326 v2 D22) else none)) else none) else (if s0 = 4 then (if 0 ≤ v3 ∧ v3 < 60 then (mi_bi (B_X11_isNought D3 v1) fun y25 => if y25 = 0 then (B_X11_goesOn_279 v2 v3 2 (D3 63 v3 2) 1 0 D3) else (if 0 ≤ v5 ∧ v5 < 2664 then (B_X11_goesOn_279 v2 v3 2 (D3 63 v3 2) 1 (B_X11_less (D3 46 v5 1) (mi_w (v4 - 1))) D3) else none)) else none) else (if s0 = 5 then (B_X11_goesOn_285 v2 v3 s0 D3) else (if s0 = 6 then (B_X11_goesOn_285 v2 v3 s0 D3) else (if 0 ≤ v5 ∧ v5 < 2664 then (mi_b2 (B_X11_does v1 v5 D3) fun y31 D32 => mi_let (mi_st D32 59 v2 1 y31) fun D33 => if 0 ≤ v3 ∧ v3 < 60 then (mi_let (mi_st D33 63 v3 2 (mi_w ((D33 63 v3 2) + 1))) fun D35 => B_X11_goesOn_326 v2 D35) else none) else none)))))))) else none
set_option maxRecDepth 20000 in
theorem S_X11_goesOn_118 {Z : MiZ} (hL : ML Z) (v1 v2 v3 v4 v5 s0 : Int) (D : MiD) : Sg m_X11_goesOn 118 [(42, 0), (0, v1), (61, v2), (65, v3), (0, v4), (48, v5), mi_un] [(0, s0)] (D, Z) (mi_LD 0 Z) (B_X11_goesOn_118 v1 v2 v3 v4 v5 s0 D) := by
  unfold B_X11_goesOn_118
  refine Sg.go (pc' := 120) (mi_istore (ls1 := [(42, 0), (0, v1), (61, v2), (65, v3), (0, v4), (48, v5), (0, s0)]) dX11_goesOn_118 (by decide) rfl) ?_
  refine Sg.go (pc' := 121) (mi_aload_n dX11_goesOn_120 rfl) ?_
  refine Sg.go (pc' := 123) (mi_bipush (z := 6) dX11_goesOn_121 rfl) ?_
  refine Sg.go (pc' := 124) (mi_dup2 dX11_goesOn_123 (show (0 : Nat) ≠ 1 by decide) (show (61 : Nat) ≠ 1 by decide)) ?_
  refine Sg.ck (fun hk1 => ?_)
  refine Sg.go (pc' := 125) (mi_iald (n := 7) dX11_goesOn_124 rfl rfl (by omega) (by decide)) ?_
  refine Sg.go (pc' := 126) (mi_iconst (z := 1) dX11_goesOn_125 rfl) ?_
  refine Sg.go (pc' := 127) (mi_iadd dX11_goesOn_126) ?_
  refine Sg.goM (pc' := 128) (mi_iast (n := 7) dX11_goesOn_127 rfl rfl (by omega) (by decide)) ?_
  refine Sg.letD (fun D2 hD2 => ?_)
  refine Sg.go (pc' := 129) (mi_aload_n dX11_goesOn_128 rfl) ?_
  refine Sg.go (pc' := 130) (mi_iconst (z := 1) dX11_goesOn_129 rfl) ?_
  refine Sg.go (pc' := 131) (mi_iconst (z := 0) dX11_goesOn_130 rfl) ?_
  refine Sg.goM (pc' := 132) (mi_iast (n := 7) dX11_goesOn_131 rfl rfl (by omega) (by decide)) ?_
  refine Sg.letD (fun D3 hD3 => ?_)
  refine Sg.go (pc' := 134) (mi_iload dX11_goesOn_132 rfl) ?_
  refine Sg.ite (fun h5 => ?_) (fun h5 => ?_)
  · refine Sg.go (pc' := 176) (mi_tabIn (tgt := 176) dX11_goesOn_134 (by omega) (by omega) (by rw [h5]; rfl) (by decide)) ?_
    refine Sg.go (pc' := 177) (mi_aload_n dX11_goesOn_176 rfl) ?_
    refine Sg.go (pc' := 178) (mi_iconst (z := 2) dX11_goesOn_177 rfl) ?_
    refine Sg.go (pc' := 179) (mi_dup2 dX11_goesOn_178 (show (0 : Nat) ≠ 1 by decide) (show (65 : Nat) ≠ 1 by decide)) ?_
    refine Sg.ck (fun hk6 => ?_)
    refine Sg.go (pc' := 180) (mi_iald (n := 4) dX11_goesOn_179 rfl rfl (by omega) (by decide)) ?_
    refine Sg.go (pc' := 181) (mi_iconst (z := 1) dX11_goesOn_180 rfl) ?_
    refine Sg.go (pc' := 182) (mi_iadd dX11_goesOn_181) ?_
    refine Sg.goM (pc' := 183) (mi_iast (n := 4) dX11_goesOn_182 rfl rfl (by omega) (by decide)) ?_
    refine Sg.letD (fun D7 hD7 => ?_)
    refine Sg.go (pc' := 184) (mi_aload_n dX11_goesOn_183 rfl) ?_
    refine Sg.go (pc' := 185) (mi_iconst (z := 0) dX11_goesOn_184 rfl) ?_
    refine Sg.go (pc' := 186) (mi_iald (n := 7) dX11_goesOn_185 rfl rfl (by omega) (by decide)) ?_
    refine Sg.go (pc' := 188) (mi_bipush (z := 10) dX11_goesOn_186 rfl) ?_
    refine Sg.ite (fun h8 => ?_) (fun h8 => ?_)
    · refine Sg.go (pc' := 198) (mi_icmpne_t (tgt := 198) dX11_goesOn_188 (by decide) h8) ?_
      refine Sg.go (pc' := 199) (mi_aload_n dX11_goesOn_198 rfl) ?_
      refine Sg.go (pc' := 200) (mi_iload_n dX11_goesOn_199 rfl) ?_
      refine Sg.go (pc' := 202) (mi_aload dX11_goesOn_200 rfl) ?_
      refine Sg.go (pc' := 203) (mi_iconst (z := 1) dX11_goesOn_202 rfl) ?_
      refine Sg.ck (fun hk9 => ?_)
      refine Sg.go (pc' := 204) (mi_iald (n := 6) dX11_goesOn_203 rfl rfl (by omega) (by decide)) ?_
      refine Sg.callV (pc' := 207) (μ' := m_X11_pushes) (args := [(42, 0), (0, v1), (0, (D7 46 v5 1))]) (mi_invV (n := 2) (r := 40) dX11_goesOn_204 hC_40 (by omega) rfl rfl wN_X11_pushes rfl ⟨by decide, by decide⟩ wL_X11_364 wI_X11_pushes wS_X11_pushes wB_X11 wC_X11_pushes) (fun v hv => C_X11_pushes hL v1 (D7 46 v5 1) D7 v hv) (Nat.le_of_ble_eq_true rfl) rfl rfl (fun D10 => ?_)
      refine Sg.go (pc' := 326) (mi_goto (tgt := 326) dX11_goesOn_207 (by decide)) ?_
      refine Sg.go (pc' := 326) (MiStep.weak (ls' := [(42, 0), mi_un, (61, v2), mi_un, mi_un, mi_un, mi_un]) (mi_wk_y (mi_wk_n (mi_wk_y (mi_wk_n (mi_wk_n (mi_wk_n (mi_wk_n mi_wk_0)))))))) ?_
      exact S_X11_goesOn_326 hL v2 D10
    · refine Sg.go (pc' := 191) (mi_icmpne_f (tgt := 198) dX11_goesOn_188 (by decide) h8) ?_
      refine Sg.go (pc' := 192) (mi_aload_n dX11_goesOn_191 rfl) ?_
      refine Sg.go (pc' := 193) (mi_iconst (z := 1) dX11_goesOn_192 rfl) ?_
      refine Sg.go (pc' := 194) (mi_iconst (z := 3) dX11_goesOn_193 rfl) ?_
      refine Sg.goM (pc' := 195) (mi_iast (n := 7) dX11_goesOn_194 rfl rfl (by omega) (by decide)) ?_
      refine Sg.letD (fun D11 hD11 => ?_)
      refine Sg.go (pc' := 326) (mi_goto (tgt := 326) dX11_goesOn_195 (by decide)) ?_
      refine Sg.go (pc' := 326) (MiStep.weak (ls' := [(42, 0), mi_un, (61, v2), mi_un, mi_un, mi_un, mi_un]) (mi_wk_y (mi_wk_n (mi_wk_y (mi_wk_n (mi_wk_n (mi_wk_n (mi_wk_n mi_wk_0)))))))) ?_
      exact S_X11_goesOn_326 hL v2 D11
  · refine Sg.ite (fun h12 => ?_) (fun h12 => ?_)
    · refine Sg.go (pc' := 210) (mi_tabIn (tgt := 210) dX11_goesOn_134 (by omega) (by omega) (by rw [h12]; rfl) (by decide)) ?_
      refine Sg.go (pc' := 211) (mi_aload_n dX11_goesOn_210 rfl) ?_
      refine Sg.go (pc' := 212) (mi_iconst (z := 0) dX11_goesOn_211 rfl) ?_
      refine Sg.go (pc' := 213) (mi_dup2 dX11_goesOn_212 (show (0 : Nat) ≠ 1 by decide) (show (61 : Nat) ≠ 1 by decide)) ?_
      refine Sg.go (pc' := 214) (mi_iald (n := 7) dX11_goesOn_213 rfl rfl (by omega) (by decide)) ?_
      refine Sg.go (pc' := 215) (mi_iconst (z := 1) dX11_goesOn_214 rfl) ?_
      refine Sg.go (pc' := 216) (mi_isub dX11_goesOn_215) ?_
      refine Sg.goM (pc' := 217) (mi_iast (n := 7) dX11_goesOn_216 rfl rfl (by omega) (by decide)) ?_
      refine Sg.letD (fun D13 hD13 => ?_)
      refine Sg.go (pc' := 326) (mi_goto (tgt := 326) dX11_goesOn_217 (by decide)) ?_
      refine Sg.go (pc' := 326) (MiStep.weak (ls' := [(42, 0), mi_un, (61, v2), mi_un, mi_un, mi_un, mi_un]) (mi_wk_y (mi_wk_n (mi_wk_y (mi_wk_n (mi_wk_n (mi_wk_n (mi_wk_n mi_wk_0)))))))) ?_
      exact S_X11_goesOn_326 hL v2 D13
    · refine Sg.ite (fun h14 => ?_) (fun h14 => ?_)
      · refine Sg.go (pc' := 220) (mi_tabIn (tgt := 220) dX11_goesOn_134 (by omega) (by omega) (by rw [h14]; rfl) (by decide)) ?_
        refine Sg.go (pc' := 221) (mi_aload_n dX11_goesOn_220 rfl) ?_
        refine Sg.go (pc' := 222) (mi_iconst (z := 2) dX11_goesOn_221 rfl) ?_
        refine Sg.go (pc' := 223) (mi_iconst (z := 0) dX11_goesOn_222 rfl) ?_
        refine Sg.ck (fun hk15 => ?_)
        refine Sg.goM (pc' := 224) (mi_iast (n := 4) dX11_goesOn_223 rfl rfl (by omega) (by decide)) ?_
        refine Sg.letD (fun D16 hD16 => ?_)
        refine Sg.go (pc' := 326) (mi_goto (tgt := 326) dX11_goesOn_224 (by decide)) ?_
        refine Sg.go (pc' := 326) (MiStep.weak (ls' := [(42, 0), mi_un, (61, v2), mi_un, mi_un, mi_un, mi_un]) (mi_wk_y (mi_wk_n (mi_wk_y (mi_wk_n (mi_wk_n (mi_wk_n (mi_wk_n mi_wk_0)))))))) ?_
        exact S_X11_goesOn_326 hL v2 D16
      · refine Sg.ite (fun h17 => ?_) (fun h17 => ?_)
        · refine Sg.go (pc' := 227) (mi_tabIn (tgt := 227) dX11_goesOn_134 (by omega) (by omega) (by rw [h17]; rfl) (by decide)) ?_
          refine Sg.go (pc' := 228) (mi_aload_n dX11_goesOn_227 rfl) ?_
          refine Sg.go (pc' := 229) (mi_iconst (z := 3) dX11_goesOn_228 rfl) ?_
          refine Sg.go (pc' := 231) (mi_aload dX11_goesOn_229 rfl) ?_
          refine Sg.go (pc' := 232) (mi_iconst (z := 1) dX11_goesOn_231 rfl) ?_
          refine Sg.ck (fun hk18 => ?_)
          refine Sg.go (pc' := 233) (mi_iald (n := 6) dX11_goesOn_232 rfl rfl (by omega) (by decide)) ?_
          refine Sg.goM (pc' := 234) (mi_iast (n := 7) dX11_goesOn_233 rfl rfl (by omega) (by decide)) ?_
          refine Sg.letD (fun D19 hD19 => ?_)
          refine Sg.go (pc' := 236) (mi_aload dX11_goesOn_234 rfl) ?_
          refine Sg.go (pc' := 237) (mi_iconst (z := 1) dX11_goesOn_236 rfl) ?_
          refine Sg.go (pc' := 238) (mi_iald (n := 6) dX11_goesOn_237 rfl rfl (by omega) (by decide)) ?_
          refine Sg.ite (fun h20 => ?_) (fun h20 => ?_)
          · refine Sg.go (pc' := 326) (mi_ifne_t (tgt := 326) dX11_goesOn_238 (by decide) h20) ?_
            refine Sg.go (pc' := 326) (MiStep.weak (ls' := [(42, 0), mi_un, (61, v2), mi_un, mi_un, mi_un, mi_un]) (mi_wk_y (mi_wk_n (mi_wk_y (mi_wk_n (mi_wk_n (mi_wk_n (mi_wk_n mi_wk_0)))))))) ?_
            exact S_X11_goesOn_326 hL v2 D19
          · refine Sg.go (pc' := 241) (mi_ifne_f (tgt := 326) dX11_goesOn_238 (by decide) h20) ?_
            refine Sg.go (pc' := 242) (mi_aload_n dX11_goesOn_241 rfl) ?_
            refine Sg.go (pc' := 243) (mi_iconst (z := 2) dX11_goesOn_242 rfl) ?_
            refine Sg.go (pc' := 244) (mi_dup2 dX11_goesOn_243 (show (0 : Nat) ≠ 1 by decide) (show (65 : Nat) ≠ 1 by decide)) ?_
            refine Sg.ck (fun hk21 => ?_)
            refine Sg.go (pc' := 245) (mi_iald (n := 4) dX11_goesOn_244 rfl rfl (by omega) (by decide)) ?_
            refine Sg.go (pc' := 246) (mi_iconst (z := 1) dX11_goesOn_245 rfl) ?_
            refine Sg.go (pc' := 247) (mi_iadd dX11_goesOn_246) ?_
            refine Sg.goM (pc' := 248) (mi_iast (n := 4) dX11_goesOn_247 rfl rfl (by omega) (by decide)) ?_
            refine Sg.letD (fun D22 hD22 => ?_)
            refine Sg.go (pc' := 326) (mi_goto (tgt := 326) dX11_goesOn_248 (by decide)) ?_
            refine Sg.go (pc' := 326) (MiStep.weak (ls' := [(42, 0), mi_un, (61, v2), mi_un, mi_un, mi_un, mi_un]) (mi_wk_y (mi_wk_n (mi_wk_y (mi_wk_n (mi_wk_n (mi_wk_n (mi_wk_n mi_wk_0)))))))) ?_
            exact S_X11_goesOn_326 hL v2 D22
        · refine Sg.ite (fun h23 => ?_) (fun h23 => ?_)
          · refine Sg.go (pc' := 251) (mi_tabIn (tgt := 251) dX11_goesOn_134 (by omega) (by omega) (by rw [h23]; rfl) (by decide)) ?_
            refine Sg.go (pc' := 252) (mi_aload_n dX11_goesOn_251 rfl) ?_
            refine Sg.go (pc' := 253) (mi_iconst (z := 2) dX11_goesOn_252 rfl) ?_
            refine Sg.go (pc' := 254) (mi_dup2 dX11_goesOn_253 (show (0 : Nat) ≠ 1 by decide) (show (65 : Nat) ≠ 1 by decide)) ?_
            refine Sg.ck (fun hk24 => ?_)
            refine Sg.go (pc' := 255) (mi_iald (n := 4) dX11_goesOn_254 rfl rfl (by omega) (by decide)) ?_
            refine Sg.go (pc' := 256) (mi_iconst (z := 1) dX11_goesOn_255 rfl) ?_
            refine Sg.go (pc' := 257) (mi_aload_n dX11_goesOn_256 rfl) ?_
            refine Sg.go (pc' := 258) (mi_iload_n dX11_goesOn_257 rfl) ?_
            refine Sg.callI (pc' := 261) (t := 0) (μ' := m_X11_isNought) (args := [(42, 0), (0, v1)]) (mi_invV (n := 1) (r := 40) dX11_goesOn_258 hC_40 (by omega) rfl rfl wN_X11_isNought rfl ⟨by decide, by decide⟩ wL_X11_367 wI_X11_isNought wS_X11_isNought wB_X11 wC_X11_isNought) (fun v hv => C_X11_isNought hL v1 D3 v hv) (Nat.le_of_ble_eq_true rfl) rfl rfl (fun y25 => ?_)
            refine Sg.ite (fun h26 => ?_) (fun h26 => ?_)
            · refine Sg.go (pc' := 278) (mi_ifeq_t (tgt := 278) dX11_goesOn_261 (by decide) h26) ?_
              refine Sg.go (pc' := 279) (mi_iconst (z := 0) dX11_goesOn_278 rfl) ?_
              refine Sg.go (pc' := 279) (MiStep.weak (ls' := [(42, 0), mi_un, (61, v2), mi_un, mi_un, mi_un, mi_un]) (mi_wk_y (mi_wk_n (mi_wk_y (mi_wk_n (mi_wk_n (mi_wk_n (mi_wk_n mi_wk_0)))))))) ?_
              exact S_X11_goesOn_279 hL v2 v3 2 (D3 63 v3 2) 1 0 D3
            · refine Sg.go (pc' := 264) (mi_ifeq_f (tgt := 278) dX11_goesOn_261 (by decide) h26) ?_
              refine Sg.go (pc' := 266) (mi_aload dX11_goesOn_264 rfl) ?_
              refine Sg.go (pc' := 267) (mi_iconst (z := 1) dX11_goesOn_266 rfl) ?_
              refine Sg.ck (fun hk27 => ?_)
              refine Sg.go (pc' := 268) (mi_iald (n := 6) dX11_goesOn_267 rfl rfl (by omega) (by decide)) ?_
              refine Sg.go (pc' := 270) (mi_iload dX11_goesOn_268 rfl) ?_
              refine Sg.go (pc' := 271) (mi_iconst (z := 1) dX11_goesOn_270 rfl) ?_
              refine Sg.go (pc' := 272) (mi_isub dX11_goesOn_271) ?_
              refine Sg.callP (pc' := 275) (t := 0) (v := (B_X11_less (D3 46 v5 1) (mi_w (v4 - 1)))) (μ' := m_X11_less) (args := [(0, (D3 46 v5 1)), (0, (mi_w (v4 - 1)))]) (mi_invS (n := 2) dX11_goesOn_272 rfl wN_X11_less rfl ⟨by decide, by decide⟩ wL_X11_117 wT_X11_less wB_X11 wC_X11_less) (C_X11_less hL (D3 46 v5 1) (mi_w (v4 - 1)) D3) (Nat.le_of_ble_eq_true rfl) rfl rfl ?_
              refine Sg.go (pc' := 279) (mi_goto (tgt := 279) dX11_goesOn_275 (by decide)) ?_
              refine Sg.go (pc' := 279) (MiStep.weak (ls' := [(42, 0), mi_un, (61, v2), mi_un, mi_un, mi_un, mi_un]) (mi_wk_y (mi_wk_n (mi_wk_y (mi_wk_n (mi_wk_n (mi_wk_n (mi_wk_n mi_wk_0)))))))) ?_
              exact S_X11_goesOn_279 hL v2 v3 2 (D3 63 v3 2) 1 (B_X11_less (D3 46 v5 1) (mi_w (v4 - 1))) D3
          · refine Sg.ite (fun h28 => ?_) (fun h28 => ?_)
            · refine Sg.go (pc' := 285) (mi_tabIn (tgt := 285) dX11_goesOn_134 (by omega) (by omega) (by rw [h28]; rfl) (by decide)) ?_
              refine Sg.go (pc' := 285) (MiStep.weak (ls' := [(42, 0), mi_un, (61, v2), (65, v3), mi_un, mi_un, (0, s0)]) (mi_wk_y (mi_wk_n (mi_wk_y (mi_wk_y (mi_wk_n (mi_wk_n (mi_wk_y mi_wk_0)))))))) ?_
              exact S_X11_goesOn_285 hL v2 v3 s0 D3
            · refine Sg.ite (fun h29 => ?_) (fun h29 => ?_)
              · refine Sg.go (pc' := 285) (mi_tabIn (tgt := 285) dX11_goesOn_134 (by omega) (by omega) (by rw [h29]; rfl) (by decide)) ?_
                refine Sg.go (pc' := 285) (MiStep.weak (ls' := [(42, 0), mi_un, (61, v2), (65, v3), mi_un, mi_un, (0, s0)]) (mi_wk_y (mi_wk_n (mi_wk_y (mi_wk_y (mi_wk_n (mi_wk_n (mi_wk_y mi_wk_0)))))))) ?_
                exact S_X11_goesOn_285 hL v2 v3 s0 D3
              · refine Sg.go (pc' := 309) (mi_tabOut (tgt := 309) dX11_goesOn_134 (by omega) (by decide)) ?_
                refine Sg.go (pc' := 310) (mi_aload_n dX11_goesOn_309 rfl) ?_
                refine Sg.go (pc' := 311) (mi_iconst (z := 1) dX11_goesOn_310 rfl) ?_
                refine Sg.go (pc' := 312) (mi_aload_n dX11_goesOn_311 rfl) ?_
                refine Sg.go (pc' := 313) (mi_iload_n dX11_goesOn_312 rfl) ?_
                refine Sg.go (pc' := 315) (mi_aload dX11_goesOn_313 rfl) ?_
                refine Sg.ck (fun hk30 => ?_)
                refine Sg.callD (pc' := 318) (t := 0) (μ' := m_X11_does) (args := [(42, 0), (0, v1), (48, v5)]) (mi_invV (n := 2) (r := 40) dX11_goesOn_315 hC_40 (by omega) rfl rfl wN_X11_does rfl ⟨by decide, by decide⟩ wL_X11_370 wI_X11_does wS_X11_does wB_X11 wC_X11_does) (fun v hv => C_X11_does hL v1 v5 D3 (by omega) v hv) (Nat.le_of_ble_eq_true rfl) rfl rfl (fun y31 D32 => ?_)
                refine Sg.goM (pc' := 319) (mi_iast (n := 7) dX11_goesOn_318 rfl rfl (by omega) (by decide)) ?_
                refine Sg.letD (fun D33 hD33 => ?_)
                refine Sg.go (pc' := 320) (mi_aload_n dX11_goesOn_319 rfl) ?_
                refine Sg.go (pc' := 321) (mi_iconst (z := 2) dX11_goesOn_320 rfl) ?_
                refine Sg.go (pc' := 322) (mi_dup2 dX11_goesOn_321 (show (0 : Nat) ≠ 1 by decide) (show (65 : Nat) ≠ 1 by decide)) ?_
                refine Sg.ck (fun hk34 => ?_)
                refine Sg.go (pc' := 323) (mi_iald (n := 4) dX11_goesOn_322 rfl rfl (by omega) (by decide)) ?_
                refine Sg.go (pc' := 324) (mi_iconst (z := 1) dX11_goesOn_323 rfl) ?_
                refine Sg.go (pc' := 325) (mi_iadd dX11_goesOn_324) ?_
                refine Sg.goM (pc' := 326) (mi_iast (n := 4) dX11_goesOn_325 rfl rfl (by omega) (by decide)) ?_
                refine Sg.letD (fun D35 hD35 => ?_)
                refine Sg.go (pc' := 326) (MiStep.weak (ls' := [(42, 0), mi_un, (61, v2), mi_un, mi_un, mi_un, mi_un]) (mi_wk_y (mi_wk_n (mi_wk_y (mi_wk_n (mi_wk_n (mi_wk_n (mi_wk_n mi_wk_0)))))))) ?_
                exact S_X11_goesOn_326 hL v2 D35
def B_X11_goesOn_103 (v1 : Int) (v2 : Int) (v3 : Int) (v4 : Int) (s0 : Int) (D : MiD) : Option (Int × MiD) := if s0 < 0 then (B_X11_goesOn_118 v1 v2 v3 v4 s0 1 D) else (if 0 ≤ s0 ∧ s0 < 2664 then (B_X11_goesOn_118 v1 v2 v3 v4 s0 (D 46 s0 0) D) else none)
set_option maxRecDepth 20000 in
theorem S_X11_goesOn_103 {Z : MiZ} (hL : ML Z) (v1 v2 v3 v4 s0 : Int) (D : MiD) : Sg m_X11_goesOn 103 [(42, 0), (0, v1), (61, v2), (65, v3), (0, v4), mi_un, mi_un] [(48, s0)] (D, Z) (mi_LD 0 Z) (B_X11_goesOn_103 v1 v2 v3 v4 s0 D) := by
  unfold B_X11_goesOn_103
  refine Sg.go (pc' := 105) (mi_astore (ls1 := [(42, 0), (0, v1), (61, v2), (65, v3), (0, v4), (48, s0), mi_un]) dX11_goesOn_103 (by decide) rfl) ?_
  refine Sg.go (pc' := 107) (mi_aload dX11_goesOn_105 rfl) ?_
  refine Sg.ite (fun h1 => ?_) (fun h1 => ?_)
  · refine Sg.go (pc' := 110) (mi_ifnonnull_f (tgt := 114) dX11_goesOn_107 (by decide) h1) ?_
    refine Sg.go (pc' := 111) (mi_iconst (z := 1) dX11_goesOn_110 rfl) ?_
    refine Sg.go (pc' := 118) (mi_goto (tgt := 118) dX11_goesOn_111 (by decide)) ?_
    exact S_X11_goesOn_118 hL v1 v2 v3 v4 s0 1 D
  · refine Sg.go (pc' := 114) (mi_ifnonnull_t (tgt := 114) dX11_goesOn_107 (by decide) h1) ?_
    refine Sg.go (pc' := 116) (mi_aload dX11_goesOn_114 rfl) ?_
    refine Sg.go (pc' := 117) (mi_iconst (z := 0) dX11_goesOn_116 rfl) ?_
    refine Sg.ck (fun hk2 => ?_)
    refine Sg.go (pc' := 118) (mi_iald (n := 6) dX11_goesOn_117 rfl rfl (by omega) (by decide)) ?_
    exact S_X11_goesOn_118 hL v1 v2 v3 v4 s0 (D 46 s0 0) D
def B_X11_goesOn (v1 : Int) (D : MiD) : Option (Int × MiD) := if 0 ≤ v1 ∧ v1 < 7 then (if (D 59 v1 3) ≤ 0 then (if 0 ≤ v1 ∧ v1 < 6 then (if 0 ≤ (mi_w ((D 59 v1 0) - 1)) ∧ (mi_w ((D 59 v1 0) - 1)) < 10 then (mi_bi (B_X11_deedsOf D v1 (mi_w ((D 59 v1 0) - 1))) fun y5 => mi_let (mi_w (y5 - (D 63 (10 * v1 + (mi_w ((D 59 v1 0) - 1))) 2))) fun x6 => if x6 ≤ 0 then (B_X11_goesOn_103 v1 v1 (10 * v1 + (mi_w ((D 59 v1 0) - 1))) x6 (-1) D) else (mi_bi (B_X11_codeIn D v1 (mi_w ((D 59 v1 0) - 1))) fun y8 => if 0 ≤ y8 ∧ y8 < 111 then (if 0 ≤ (D 63 (10 * v1 + (mi_w ((D 59 v1 0) - 1))) 2) ∧ (D 63 (10 * v1 + (mi_w ((D 59 v1 0) - 1))) 2) < 24 then (B_X11_goesOn_103 v1 v1 (10 * v1 + (mi_w ((D 59 v1 0) - 1))) x6 (24 * y8 + (D 63 (10 * v1 + (mi_w ((D 59 v1 0) - 1))) 2)) D) else none) else none)) else none) else none) else (mi_let (mi_st D 59 v1 3 (mi_w ((D 59 v1 3) - 1))) fun D11 => if (D11 59 v1 3) ≠ 0 then (some (0, D11)) else (if 0 ≤ v1 ∧ v1 < 6 then (if 0 ≤ (mi_w ((D11 59 v1 0) - 1)) ∧ (mi_w ((D11 59 v1 0) - 1)) < 10 then (mi_let (mi_st D11 63 (10 * v1 + (mi_w ((D11 59 v1 0) - 1))) 2 (mi_w ((D11 63 (10 * v1 + (mi_w ((D11 59 v1 0) - 1))) 2) + 1))) fun D15 => some (0, D15)) else none) else none))) else none
set_option maxRecDepth 20000 in
theorem S_X11_goesOn {Z : MiZ} (hL : ML Z) (v1 : Int) (D : MiD) : Sg m_X11_goesOn 0 [(42, 0), (0, v1), mi_un, mi_un, mi_un, mi_un, mi_un] [] (D, Z) (mi_LD 0 Z) (B_X11_goesOn v1 D) := by
  unfold B_X11_goesOn
  refine Sg.go (pc' := 1) (mi_aload_n dX11_goesOn_0 rfl) ?_
  refine Sg.go (pc' := 4) (mi_gfA (t := 58) (v := 0) (r := 40) (k := 20) dX11_goesOn_1 hC_40 (by decide) rfl wF_X11_56 (by omega) rfl (hL.1 20 (by decide))) ?_
  refine Sg.go (pc' := 5) (mi_iload_n dX11_goesOn_4 rfl) ?_
  refine Sg.ck (fun hk1 => ?_)
  refine Sg.go (pc' := 6) (mi_aald (n := 7) (t := 59) (v := v1) dX11_goesOn_5 rfl hA_58 rfl (by omega) hk1 rfl (hL.2.2.2.2.2.2.1 _ hk1.1 hk1.2)) ?_
  refine Sg.go (pc' := 7) (mi_astore_n (ls1 := [(42, 0), (0, v1), (61, v1), mi_un, mi_un, mi_un, mi_un]) dX11_goesOn_6 (by decide) rfl) ?_
  refine Sg.go (pc' := 8) (mi_aload_n dX11_goesOn_7 rfl) ?_
  refine Sg.go (pc' := 9) (mi_iconst (z := 3) dX11_goesOn_8 rfl) ?_
  refine Sg.go (pc' := 10) (mi_iald (n := 7) dX11_goesOn_9 rfl rfl (by omega) (by decide)) ?_
  refine Sg.ite (fun h2 => ?_) (fun h2 => ?_)
  · refine Sg.go (pc' := 46) (mi_ifle_t (tgt := 46) dX11_goesOn_10 (by decide) h2) ?_
    refine Sg.go (pc' := 47) (mi_aload_n dX11_goesOn_46 rfl) ?_
    refine Sg.go (pc' := 50) (mi_gfA (t := 61) (v := 0) (r := 40) (k := 22) dX11_goesOn_47 hC_40 (by decide) rfl wF_X11_63 (by omega) rfl (hL.1 22 (by decide))) ?_
    refine Sg.go (pc' := 51) (mi_iload_n dX11_goesOn_50 rfl) ?_
    refine Sg.ck (fun hk3 => ?_)
    refine Sg.go (pc' := 52) (mi_aald (n := 6) (t := 62) (v := v1) dX11_goesOn_51 rfl hA_61 rfl (by omega) hk3 rfl (hL.2.2.2.2.2.2.2.1 _ hk3.1 hk3.2)) ?_
    refine Sg.go (pc' := 53) (mi_aload_n dX11_goesOn_52 rfl) ?_
    refine Sg.go (pc' := 54) (mi_iconst (z := 0) dX11_goesOn_53 rfl) ?_
    refine Sg.go (pc' := 55) (mi_iald (n := 7) dX11_goesOn_54 rfl rfl (by omega) (by decide)) ?_
    refine Sg.go (pc' := 56) (mi_iconst (z := 1) dX11_goesOn_55 rfl) ?_
    refine Sg.go (pc' := 57) (mi_isub dX11_goesOn_56) ?_
    refine Sg.ck (fun hk4 => ?_)
    refine Sg.go (pc' := 58) (mi_aald (n := 10) (t := 63) (v := (10 * v1 + (mi_w ((D 59 v1 0) - 1)))) dX11_goesOn_57 rfl hA_62 rfl (by omega) hk4 rfl (hL.2.2.2.2.2.2.2.2 _ _ (by omega) (by omega) hk4.1 hk4.2)) ?_
    refine Sg.go (pc' := 59) (mi_astore_n (ls1 := [(42, 0), (0, v1), (61, v1), (65, (10 * v1 + (mi_w ((D 59 v1 0) - 1)))), mi_un, mi_un, mi_un]) dX11_goesOn_58 (by decide) rfl) ?_
    refine Sg.go (pc' := 60) (mi_aload_n dX11_goesOn_59 rfl) ?_
    refine Sg.go (pc' := 61) (mi_iload_n dX11_goesOn_60 rfl) ?_
    refine Sg.go (pc' := 62) (mi_aload_n dX11_goesOn_61 rfl) ?_
    refine Sg.go (pc' := 63) (mi_iconst (z := 0) dX11_goesOn_62 rfl) ?_
    refine Sg.go (pc' := 64) (mi_iald (n := 7) dX11_goesOn_63 rfl rfl (by omega) (by decide)) ?_
    refine Sg.go (pc' := 65) (mi_iconst (z := 1) dX11_goesOn_64 rfl) ?_
    refine Sg.go (pc' := 66) (mi_isub dX11_goesOn_65) ?_
    refine Sg.callI (pc' := 69) (t := 0) (μ' := m_X11_deedsOf) (args := [(42, 0), (0, v1), (0, (mi_w ((D 59 v1 0) - 1)))]) (mi_invV (n := 2) (r := 40) dX11_goesOn_66 hC_40 (by omega) rfl rfl wN_X11_deedsOf rfl ⟨by decide, by decide⟩ wL_X11_361 wI_X11_deedsOf wS_X11_deedsOf wB_X11 wC_X11_deedsOf) (fun v hv => C_X11_deedsOf hL v1 (mi_w ((D 59 v1 0) - 1)) D v hv) (Nat.le_of_ble_eq_true rfl) rfl rfl (fun y5 => ?_)
    refine Sg.go (pc' := 70) (mi_aload_n dX11_goesOn_69 rfl) ?_
    refine Sg.go (pc' := 71) (mi_iconst (z := 2) dX11_goesOn_70 rfl) ?_
    refine Sg.go (pc' := 72) (mi_iald (n := 4) dX11_goesOn_71 rfl rfl (by omega) (by decide)) ?_
    refine Sg.go (pc' := 73) (mi_isub dX11_goesOn_72) ?_
    refine Sg.letI (fun x6 hx6 => ?_)
    refine Sg.go (pc' := 75) (mi_istore (ls1 := [(42, 0), (0, v1), (61, v1), (65, (10 * v1 + (mi_w ((D 59 v1 0) - 1)))), (0, x6), mi_un, mi_un]) dX11_goesOn_73 (by decide) rfl) ?_
    refine Sg.go (pc' := 77) (mi_iload dX11_goesOn_75 rfl) ?_
    refine Sg.ite (fun h7 => ?_) (fun h7 => ?_)
    · refine Sg.go (pc' := 102) (mi_ifle_t (tgt := 102) dX11_goesOn_77 (by decide) h7) ?_
      refine Sg.go (pc' := 103) (mi_null (r := 46) dX11_goesOn_102) ?_
      exact S_X11_goesOn_103 hL v1 v1 (10 * v1 + (mi_w ((D 59 v1 0) - 1))) x6 (-1) D
    · refine Sg.go (pc' := 80) (mi_ifle_f (tgt := 102) dX11_goesOn_77 (by decide) h7) ?_
      refine Sg.go (pc' := 81) (mi_aload_n dX11_goesOn_80 rfl) ?_
      refine Sg.go (pc' := 84) (mi_gfA (t := 44) (v := 0) (r := 40) (k := 10) dX11_goesOn_81 hC_40 (by decide) rfl wF_X11_25 (by omega) rfl (hL.1 10 (by decide))) ?_
      refine Sg.go (pc' := 85) (mi_aload_n dX11_goesOn_84 rfl) ?_
      refine Sg.go (pc' := 86) (mi_iload_n dX11_goesOn_85 rfl) ?_
      refine Sg.go (pc' := 87) (mi_aload_n dX11_goesOn_86 rfl) ?_
      refine Sg.go (pc' := 88) (mi_iconst (z := 0) dX11_goesOn_87 rfl) ?_
      refine Sg.go (pc' := 89) (mi_iald (n := 7) dX11_goesOn_88 rfl rfl (by omega) (by decide)) ?_
      refine Sg.go (pc' := 90) (mi_iconst (z := 1) dX11_goesOn_89 rfl) ?_
      refine Sg.go (pc' := 91) (mi_isub dX11_goesOn_90) ?_
      refine Sg.callI (pc' := 94) (t := 0) (μ' := m_X11_codeIn) (args := [(42, 0), (0, v1), (0, (mi_w ((D 59 v1 0) - 1)))]) (mi_invV (n := 2) (r := 40) dX11_goesOn_91 hC_40 (by omega) rfl rfl wN_X11_codeIn rfl ⟨by decide, by decide⟩ wL_X11_308 wI_X11_codeIn wS_X11_codeIn wB_X11 wC_X11_codeIn) (fun v hv => C_X11_codeIn hL v1 (mi_w ((D 59 v1 0) - 1)) D v hv) (Nat.le_of_ble_eq_true rfl) rfl rfl (fun y8 => ?_)
      refine Sg.ck (fun hk9 => ?_)
      refine Sg.go (pc' := 95) (mi_aald (n := 111) (t := 45) (v := y8) dX11_goesOn_94 rfl hA_44 rfl (by omega) hk9 rfl (hL.2.1 _ hk9.1 hk9.2)) ?_
      refine Sg.go (pc' := 96) (mi_aload_n dX11_goesOn_95 rfl) ?_
      refine Sg.go (pc' := 97) (mi_iconst (z := 2) dX11_goesOn_96 rfl) ?_
      refine Sg.go (pc' := 98) (mi_iald (n := 4) dX11_goesOn_97 rfl rfl (by omega) (by decide)) ?_
      refine Sg.ck (fun hk10 => ?_)
      refine Sg.go (pc' := 99) (mi_aald (n := 24) (t := 46) (v := (24 * y8 + (D 63 (10 * v1 + (mi_w ((D 59 v1 0) - 1))) 2))) dX11_goesOn_98 rfl hA_45 rfl (by omega) hk10 rfl (hL.2.2.1 _ _ (by omega) (by omega) hk10.1 hk10.2)) ?_
      refine Sg.go (pc' := 103) (mi_goto (tgt := 103) dX11_goesOn_99 (by decide)) ?_
      exact S_X11_goesOn_103 hL v1 v1 (10 * v1 + (mi_w ((D 59 v1 0) - 1))) x6 (24 * y8 + (D 63 (10 * v1 + (mi_w ((D 59 v1 0) - 1))) 2)) D
  · refine Sg.go (pc' := 13) (mi_ifle_f (tgt := 46) dX11_goesOn_10 (by decide) h2) ?_
    refine Sg.go (pc' := 14) (mi_aload_n dX11_goesOn_13 rfl) ?_
    refine Sg.go (pc' := 15) (mi_iconst (z := 3) dX11_goesOn_14 rfl) ?_
    refine Sg.go (pc' := 16) (mi_dup2 dX11_goesOn_15 (show (0 : Nat) ≠ 1 by decide) (show (61 : Nat) ≠ 1 by decide)) ?_
    refine Sg.go (pc' := 17) (mi_iald (n := 7) dX11_goesOn_16 rfl rfl (by omega) (by decide)) ?_
    refine Sg.go (pc' := 18) (mi_iconst (z := 1) dX11_goesOn_17 rfl) ?_
    refine Sg.go (pc' := 19) (mi_isub dX11_goesOn_18) ?_
    refine Sg.goM (pc' := 20) (mi_iast (n := 7) dX11_goesOn_19 rfl rfl (by omega) (by decide)) ?_
    refine Sg.letD (fun D11 hD11 => ?_)
    refine Sg.go (pc' := 21) (mi_aload_n dX11_goesOn_20 rfl) ?_
    refine Sg.go (pc' := 22) (mi_iconst (z := 3) dX11_goesOn_21 rfl) ?_
    refine Sg.go (pc' := 23) (mi_iald (n := 7) dX11_goesOn_22 rfl rfl (by omega) (by decide)) ?_
    refine Sg.ite (fun h12 => ?_) (fun h12 => ?_)
    · refine Sg.go (pc' := 44) (mi_ifne_t (tgt := 44) dX11_goesOn_23 (by decide) h12) ?_
      refine Sg.go (pc' := 45) (mi_iconst (z := 0) dX11_goesOn_44 rfl) ?_
      exact Sg.ret (mi_ireturn dX11_goesOn_45 rfl (Or.inl rfl))
    · refine Sg.go (pc' := 26) (mi_ifne_f (tgt := 44) dX11_goesOn_23 (by decide) h12) ?_
      refine Sg.go (pc' := 27) (mi_aload_n dX11_goesOn_26 rfl) ?_
      refine Sg.go (pc' := 30) (mi_gfA (t := 61) (v := 0) (r := 40) (k := 22) dX11_goesOn_27 hC_40 (by decide) rfl wF_X11_63 (by omega) rfl (hL.1 22 (by decide))) ?_
      refine Sg.go (pc' := 31) (mi_iload_n dX11_goesOn_30 rfl) ?_
      refine Sg.ck (fun hk13 => ?_)
      refine Sg.go (pc' := 32) (mi_aald (n := 6) (t := 62) (v := v1) dX11_goesOn_31 rfl hA_61 rfl (by omega) hk13 rfl (hL.2.2.2.2.2.2.2.1 _ hk13.1 hk13.2)) ?_
      refine Sg.go (pc' := 33) (mi_aload_n dX11_goesOn_32 rfl) ?_
      refine Sg.go (pc' := 34) (mi_iconst (z := 0) dX11_goesOn_33 rfl) ?_
      refine Sg.go (pc' := 35) (mi_iald (n := 7) dX11_goesOn_34 rfl rfl (by omega) (by decide)) ?_
      refine Sg.go (pc' := 36) (mi_iconst (z := 1) dX11_goesOn_35 rfl) ?_
      refine Sg.go (pc' := 37) (mi_isub dX11_goesOn_36) ?_
      refine Sg.ck (fun hk14 => ?_)
      refine Sg.go (pc' := 38) (mi_aald (n := 10) (t := 63) (v := (10 * v1 + (mi_w ((D11 59 v1 0) - 1)))) dX11_goesOn_37 rfl hA_62 rfl (by omega) hk14 rfl (hL.2.2.2.2.2.2.2.2 _ _ (by omega) (by omega) hk14.1 hk14.2)) ?_
      refine Sg.go (pc' := 39) (mi_iconst (z := 2) dX11_goesOn_38 rfl) ?_
      refine Sg.go (pc' := 40) (mi_dup2 dX11_goesOn_39 (show (0 : Nat) ≠ 1 by decide) (show (65 : Nat) ≠ 1 by decide)) ?_
      refine Sg.go (pc' := 41) (mi_iald (n := 4) dX11_goesOn_40 rfl rfl (by omega) (by decide)) ?_
      refine Sg.go (pc' := 42) (mi_iconst (z := 1) dX11_goesOn_41 rfl) ?_
      refine Sg.go (pc' := 43) (mi_iadd dX11_goesOn_42) ?_
      refine Sg.goM (pc' := 44) (mi_iast (n := 4) dX11_goesOn_43 rfl rfl (by omega) (by decide)) ?_
      refine Sg.letD (fun D15 hD15 => ?_)
      refine Sg.go (pc' := 45) (mi_iconst (z := 0) dX11_goesOn_44 rfl) ?_
      exact Sg.ret (mi_ireturn dX11_goesOn_45 rfl (Or.inl rfl))
theorem C_X11_goesOn {Z : MiZ} (hL : ML Z) (a1 : Int) (D : MiD) (b : Int × MiD) (hb : B_X11_goesOn a1 D = some b) : MC m_X11_goesOn [(42, 0), (0, a1)] (D, Z) ((mi_LD 0 Z) b) := MC.ofSg (L := (mi_LD 0 Z)) (μ := m_X11_goesOn) (args := [(42, 0), (0, a1)]) (M := (D, Z)) rfl wP_X11 (Nat.le_of_ble_eq_true rfl) (show Sg m_X11_goesOn 0 [(42, 0), (0, a1), mi_un, mi_un, mi_un, mi_un, mi_un] [] (D, Z) (mi_LD 0 Z) (B_X11_goesOn a1 D) from S_X11_goesOn hL a1 D) hb
abbrev m_X11_isOver : MiI := (yX11_isOver, cX11_isOver, 4, none, 8, none)
def B_X11_isOver_40 : Nat → Int → Int → Int → MiD → Option (MiD)
  | 0, _, _, _, _ => none
  | f + 1, v1, v2, v3, D => if 6 ≤ v3 then (if v2 ≠ 1 then (mi_let (mi_st D 65 0 0 (mi_w ((D 65 0 0) - 1))) fun D3 => mi_bi (B_X11_doesAll (B_X11_codeAt v1 10) D3) fun D4 => some D4) else (mi_bi (B_X11_doesAll (B_X11_codeAt v1 9) D) fun D5 => if 0 ≤ v1 ∧ v1 < 9 then (if (D5 48 0 v1) ≠ 0 then (mi_let (mi_st D5 64 0 0 v1) fun D8 => mi_let (mi_st D8 65 0 0 1) fun D9 => some D9) else (some D5)) else none)) else (if 0 ≤ v3 ∧ v3 < 7 then (mi_let (mi_st D 59 v3 4 0) fun D11 => B_X11_isOver_40 f v1 v2 (mi_w (v3 + 1)) D11) else none)
set_option maxRecDepth 20000 in
theorem S_X11_isOver_40 {Z : MiZ} (hL : ML Z) : ∀ (f : Nat) (v1 v2 v3 : Int) (D : MiD), Sg m_X11_isOver 40 [(42, 0), (0, v1), (0, v2), (0, v3)] [] (D, Z) (mi_LV Z) (B_X11_isOver_40 f v1 v2 v3 D) := by
  intro f
  induction f with
  | zero => intros; exact Sg.nope
  | succ f K40 =>
    intro v1 v2 v3 D
    show Sg m_X11_isOver 40 [(42, 0), (0, v1), (0, v2), (0, v3)] [] (D, Z) (mi_LV Z) (if 6 ≤ v3 then (if v2 ≠ 1 then (mi_let (mi_st D 65 0 0 (mi_w ((D 65 0 0) - 1))) fun D3 => mi_bi (B_X11_doesAll (B_X11_codeAt v1 10) D3) fun D4 => some D4) else (mi_bi (B_X11_doesAll (B_X11_codeAt v1 9) D) fun D5 => if 0 ≤ v1 ∧ v1 < 9 then (if (D5 48 0 v1) ≠ 0 then (mi_let (mi_st D5 64 0 0 v1) fun D8 => mi_let (mi_st D8 65 0 0 1) fun D9 => some D9) else (some D5)) else none)) else (if 0 ≤ v3 ∧ v3 < 7 then (mi_let (mi_st D 59 v3 4 0) fun D11 => B_X11_isOver_40 f v1 v2 (mi_w (v3 + 1)) D11) else none))
    refine Sg.go (pc' := 41) (mi_iload_n dX11_isOver_40 rfl) ?_
    refine Sg.go (pc' := 43) (mi_bipush (z := 6) dX11_isOver_41 rfl) ?_
    refine Sg.ite (fun h1 => ?_) (fun h1 => ?_)
    · refine Sg.go (pc' := 61) (mi_icmpge_t (tgt := 61) dX11_isOver_43 (by decide) h1) ?_
      refine Sg.go (pc' := 62) (mi_iload_n dX11_isOver_61 rfl) ?_
      refine Sg.go (pc' := 63) (mi_iconst (z := 1) dX11_isOver_62 rfl) ?_
      refine Sg.ite (fun h2 => ?_) (fun h2 => ?_)
      · refine Sg.go (pc' := 101) (mi_icmpne_t (tgt := 101) dX11_isOver_63 (by decide) h2) ?_
        refine Sg.go (pc' := 102) (mi_aload_n dX11_isOver_101 rfl) ?_
        refine Sg.go (pc' := 105) (mi_gfA (t := 65) (v := 0) (r := 40) (k := 24) dX11_isOver_102 hC_40 (by decide) rfl wF_X11_69 (by omega) rfl (hL.1 24 (by decide))) ?_
        refine Sg.go (pc' := 106) (mi_iconst (z := 0) dX11_isOver_105 rfl) ?_
        refine Sg.go (pc' := 107) (mi_dup2 dX11_isOver_106 (show (0 : Nat) ≠ 1 by decide) (show (67 : Nat) ≠ 1 by decide)) ?_
        refine Sg.go (pc' := 108) (mi_iald (n := 8) dX11_isOver_107 rfl rfl (by omega) (by decide)) ?_
        refine Sg.go (pc' := 109) (mi_iconst (z := 1) dX11_isOver_108 rfl) ?_
        refine Sg.go (pc' := 110) (mi_isub dX11_isOver_109) ?_
        refine Sg.goM (pc' := 111) (mi_iast (n := 8) dX11_isOver_110 rfl rfl (by omega) (by decide)) ?_
        refine Sg.letD (fun D3 hD3 => ?_)
        refine Sg.go (pc' := 112) (mi_aload_n dX11_isOver_111 rfl) ?_
        refine Sg.go (pc' := 113) (mi_iload_n dX11_isOver_112 rfl) ?_
        refine Sg.go (pc' := 115) (mi_bipush (z := 10) dX11_isOver_113 rfl) ?_
        refine Sg.callP (pc' := 118) (t := 0) (v := (B_X11_codeAt v1 10)) (μ' := m_X11_codeAt) (args := [(0, v1), (0, 10)]) (mi_invS (n := 2) dX11_isOver_115 rfl wN_X11_codeAt rfl ⟨by decide, by decide⟩ wL_X11_278 wT_X11_codeAt wB_X11 wC_X11_codeAt) (C_X11_codeAt hL v1 10 D3) (Nat.le_of_ble_eq_true rfl) rfl rfl ?_
        refine Sg.callV (pc' := 121) (μ' := m_X11_doesAll) (args := [(42, 0), (0, (B_X11_codeAt v1 10))]) (mi_invV (n := 1) (r := 40) dX11_isOver_118 hC_40 (by omega) rfl rfl wN_X11_doesAll rfl ⟨by decide, by decide⟩ wL_X11_383 wI_X11_doesAll wS_X11_doesAll wB_X11 wC_X11_doesAll) (fun v hv => C_X11_doesAll hL (B_X11_codeAt v1 10) D3 v hv) (Nat.le_of_ble_eq_true rfl) rfl rfl (fun D4 => ?_)
        exact Sg.ret (mi_return dX11_isOver_121 rfl (0, 0))
      · refine Sg.go (pc' := 66) (mi_icmpne_f (tgt := 101) dX11_isOver_63 (by decide) h2) ?_
        refine Sg.go (pc' := 67) (mi_aload_n dX11_isOver_66 rfl) ?_
        refine Sg.go (pc' := 68) (mi_iload_n dX11_isOver_67 rfl) ?_
        refine Sg.go (pc' := 70) (mi_bipush (z := 9) dX11_isOver_68 rfl) ?_
        refine Sg.callP (pc' := 73) (t := 0) (v := (B_X11_codeAt v1 9)) (μ' := m_X11_codeAt) (args := [(0, v1), (0, 9)]) (mi_invS (n := 2) dX11_isOver_70 rfl wN_X11_codeAt rfl ⟨by decide, by decide⟩ wL_X11_278 wT_X11_codeAt wB_X11 wC_X11_codeAt) (C_X11_codeAt hL v1 9 D) (Nat.le_of_ble_eq_true rfl) rfl rfl ?_
        refine Sg.callV (pc' := 76) (μ' := m_X11_doesAll) (args := [(42, 0), (0, (B_X11_codeAt v1 9))]) (mi_invV (n := 1) (r := 40) dX11_isOver_73 hC_40 (by omega) rfl rfl wN_X11_doesAll rfl ⟨by decide, by decide⟩ wL_X11_383 wI_X11_doesAll wS_X11_doesAll wB_X11 wC_X11_doesAll) (fun v hv => C_X11_doesAll hL (B_X11_codeAt v1 9) D v hv) (Nat.le_of_ble_eq_true rfl) rfl rfl (fun D5 => ?_)
        refine Sg.go (pc' := 77) (mi_aload_n dX11_isOver_76 rfl) ?_
        refine Sg.go (pc' := 80) (mi_gfA (t := 48) (v := 0) (r := 40) (k := 13) dX11_isOver_77 hC_40 (by decide) rfl wF_X11_31 (by omega) rfl (hL.1 13 (by decide))) ?_
        refine Sg.go (pc' := 81) (mi_iload_n dX11_isOver_80 rfl) ?_
        refine Sg.ck (fun hk6 => ?_)
        refine Sg.go (pc' := 82) (mi_iald (n := 9) dX11_isOver_81 rfl rfl (by omega) hk6) ?_
        refine Sg.ite (fun h7 => ?_) (fun h7 => ?_)
        · refine Sg.go (pc' := 86) (mi_ifne_t (tgt := 86) dX11_isOver_82 (by decide) h7) ?_
          refine Sg.go (pc' := 87) (mi_aload_n dX11_isOver_86 rfl) ?_
          refine Sg.go (pc' := 90) (mi_gfA (t := 64) (v := 0) (r := 40) (k := 23) dX11_isOver_87 hC_40 (by decide) rfl wF_X11_66 (by omega) rfl (hL.1 23 (by decide))) ?_
          refine Sg.go (pc' := 91) (mi_iconst (z := 0) dX11_isOver_90 rfl) ?_
          refine Sg.go (pc' := 92) (mi_iload_n dX11_isOver_91 rfl) ?_
          refine Sg.goM (pc' := 93) (mi_iast (n := 8) dX11_isOver_92 rfl rfl (by omega) (by decide)) ?_
          refine Sg.letD (fun D8 hD8 => ?_)
          refine Sg.go (pc' := 94) (mi_aload_n dX11_isOver_93 rfl) ?_
          refine Sg.go (pc' := 97) (mi_gfA (t := 65) (v := 0) (r := 40) (k := 24) dX11_isOver_94 hC_40 (by decide) rfl wF_X11_69 (by omega) rfl (hL.1 24 (by decide))) ?_
          refine Sg.go (pc' := 98) (mi_iconst (z := 0) dX11_isOver_97 rfl) ?_
          refine Sg.go (pc' := 99) (mi_iconst (z := 1) dX11_isOver_98 rfl) ?_
          refine Sg.goM (pc' := 100) (mi_iast (n := 8) dX11_isOver_99 rfl rfl (by omega) (by decide)) ?_
          refine Sg.letD (fun D9 hD9 => ?_)
          exact Sg.ret (mi_return dX11_isOver_100 rfl (0, 0))
        · refine Sg.go (pc' := 85) (mi_ifne_f (tgt := 86) dX11_isOver_82 (by decide) h7) ?_
          exact Sg.ret (mi_return dX11_isOver_85 rfl (0, 0))
    · refine Sg.go (pc' := 46) (mi_icmpge_f (tgt := 61) dX11_isOver_43 (by decide) h1) ?_
      refine Sg.go (pc' := 47) (mi_aload_n dX11_isOver_46 rfl) ?_
      refine Sg.go (pc' := 50) (mi_gfA (t := 58) (v := 0) (r := 40) (k := 20) dX11_isOver_47 hC_40 (by decide) rfl wF_X11_56 (by omega) rfl (hL.1 20 (by decide))) ?_
      refine Sg.go (pc' := 51) (mi_iload_n dX11_isOver_50 rfl) ?_
      refine Sg.ck (fun hk10 => ?_)
      refine Sg.go (pc' := 52) (mi_aald (n := 7) (t := 59) (v := v3) dX11_isOver_51 rfl hA_58 rfl (by omega) hk10 rfl (hL.2.2.2.2.2.2.1 _ hk10.1 hk10.2)) ?_
      refine Sg.go (pc' := 53) (mi_iconst (z := 4) dX11_isOver_52 rfl) ?_
      refine Sg.go (pc' := 54) (mi_iconst (z := 0) dX11_isOver_53 rfl) ?_
      refine Sg.goM (pc' := 55) (mi_iast (n := 7) dX11_isOver_54 rfl rfl (by omega) (by decide)) ?_
      refine Sg.letD (fun D11 hD11 => ?_)
      refine Sg.go (pc' := 58) (mi_iinc (z := 1) (ls1 := [(42, 0), (0, v1), (0, v2), (0, (mi_w (v3 + 1)))]) dX11_isOver_55 (by decide) rfl rfl rfl) ?_
      refine Sg.go (pc' := 40) (mi_goto (tgt := 40) dX11_isOver_58 (by decide)) ?_
      exact K40 v1 v2 (mi_w (v3 + 1)) D11
def B_X11_isOver (D : MiD) : Option (MiD) := mi_let (mi_st D 65 0 1 (-1)) fun D1 => mi_let (mi_st D1 65 0 2 (-1)) fun D2 => mi_let (mi_st D2 65 0 4 (mi_w ((D2 65 0 4) + 1))) fun D3 => B_X11_isOver_40 mi_fuel (D 65 0 1) (D 65 0 2) 0 D3
set_option maxRecDepth 20000 in
theorem S_X11_isOver {Z : MiZ} (hL : ML Z) (D : MiD) : Sg m_X11_isOver 0 [(42, 0), mi_un, mi_un, mi_un] [] (D, Z) (mi_LV Z) (B_X11_isOver D) := by
  unfold B_X11_isOver
  refine Sg.go (pc' := 1) (mi_aload_n dX11_isOver_0 rfl) ?_
  refine Sg.go (pc' := 4) (mi_gfA (t := 65) (v := 0) (r := 40) (k := 24) dX11_isOver_1 hC_40 (by decide) rfl wF_X11_69 (by omega) rfl (hL.1 24 (by decide))) ?_
  refine Sg.go (pc' := 5) (mi_iconst (z := 1) dX11_isOver_4 rfl) ?_
  refine Sg.go (pc' := 6) (mi_iald (n := 8) dX11_isOver_5 rfl rfl (by omega) (by decide)) ?_
  refine Sg.go (pc' := 7) (mi_istore_n (ls1 := [(42, 0), (0, (D 65 0 1)), mi_un, mi_un]) dX11_isOver_6 (by decide) rfl) ?_
  refine Sg.go (pc' := 8) (mi_aload_n dX11_isOver_7 rfl) ?_
  refine Sg.go (pc' := 11) (mi_gfA (t := 65) (v := 0) (r := 40) (k := 24) dX11_isOver_8 hC_40 (by decide) rfl wF_X11_69 (by omega) rfl (hL.1 24 (by decide))) ?_
  refine Sg.go (pc' := 12) (mi_iconst (z := 2) dX11_isOver_11 rfl) ?_
  refine Sg.go (pc' := 13) (mi_iald (n := 8) dX11_isOver_12 rfl rfl (by omega) (by decide)) ?_
  refine Sg.go (pc' := 14) (mi_istore_n (ls1 := [(42, 0), (0, (D 65 0 1)), (0, (D 65 0 2)), mi_un]) dX11_isOver_13 (by decide) rfl) ?_
  refine Sg.go (pc' := 15) (mi_aload_n dX11_isOver_14 rfl) ?_
  refine Sg.go (pc' := 18) (mi_gfA (t := 65) (v := 0) (r := 40) (k := 24) dX11_isOver_15 hC_40 (by decide) rfl wF_X11_69 (by omega) rfl (hL.1 24 (by decide))) ?_
  refine Sg.go (pc' := 19) (mi_iconst (z := 1) dX11_isOver_18 rfl) ?_
  refine Sg.go (pc' := 20) (mi_iconst (z := (-1)) dX11_isOver_19 rfl) ?_
  refine Sg.goM (pc' := 21) (mi_iast (n := 8) dX11_isOver_20 rfl rfl (by omega) (by decide)) ?_
  refine Sg.letD (fun D1 hD1 => ?_)
  refine Sg.go (pc' := 22) (mi_aload_n dX11_isOver_21 rfl) ?_
  refine Sg.go (pc' := 25) (mi_gfA (t := 65) (v := 0) (r := 40) (k := 24) dX11_isOver_22 hC_40 (by decide) rfl wF_X11_69 (by omega) rfl (hL.1 24 (by decide))) ?_
  refine Sg.go (pc' := 26) (mi_iconst (z := 2) dX11_isOver_25 rfl) ?_
  refine Sg.go (pc' := 27) (mi_iconst (z := (-1)) dX11_isOver_26 rfl) ?_
  refine Sg.goM (pc' := 28) (mi_iast (n := 8) dX11_isOver_27 rfl rfl (by omega) (by decide)) ?_
  refine Sg.letD (fun D2 hD2 => ?_)
  refine Sg.go (pc' := 29) (mi_aload_n dX11_isOver_28 rfl) ?_
  refine Sg.go (pc' := 32) (mi_gfA (t := 65) (v := 0) (r := 40) (k := 24) dX11_isOver_29 hC_40 (by decide) rfl wF_X11_69 (by omega) rfl (hL.1 24 (by decide))) ?_
  refine Sg.go (pc' := 33) (mi_iconst (z := 4) dX11_isOver_32 rfl) ?_
  refine Sg.go (pc' := 34) (mi_dup2 dX11_isOver_33 (show (0 : Nat) ≠ 1 by decide) (show (67 : Nat) ≠ 1 by decide)) ?_
  refine Sg.go (pc' := 35) (mi_iald (n := 8) dX11_isOver_34 rfl rfl (by omega) (by decide)) ?_
  refine Sg.go (pc' := 36) (mi_iconst (z := 1) dX11_isOver_35 rfl) ?_
  refine Sg.go (pc' := 37) (mi_iadd dX11_isOver_36) ?_
  refine Sg.goM (pc' := 38) (mi_iast (n := 8) dX11_isOver_37 rfl rfl (by omega) (by decide)) ?_
  refine Sg.letD (fun D3 hD3 => ?_)
  refine Sg.go (pc' := 39) (mi_iconst (z := 0) dX11_isOver_38 rfl) ?_
  refine Sg.go (pc' := 40) (mi_istore_n (ls1 := [(42, 0), (0, (D 65 0 1)), (0, (D 65 0 2)), (0, 0)]) dX11_isOver_39 (by decide) rfl) ?_
  exact S_X11_isOver_40 hL mi_fuel (D 65 0 1) (D 65 0 2) 0 D3
theorem C_X11_isOver {Z : MiZ} (hL : ML Z) (D : MiD) (b : MiD) (hb : B_X11_isOver D = some b) : MC m_X11_isOver [(42, 0)] (D, Z) ((mi_LV Z) b) := MC.ofSg (L := (mi_LV Z)) (μ := m_X11_isOver) (args := [(42, 0)]) (M := (D, Z)) rfl wP_X11 (Nat.le_of_ble_eq_true rfl) (show Sg m_X11_isOver 0 [(42, 0), mi_un, mi_un, mi_un] [] (D, Z) (mi_LV Z) (B_X11_isOver D) from S_X11_isOver hL D) hb
abbrev m_X11_force : MiI := (yX11_force, cX11_force, 3, (some .int), 9, none)
def B_X11_force_35 : Nat → Int → Int → MiD → Option (Int × MiD)
  | 0, _, _, _ => none
  | f + 1, v1, v2, D => if 6 ≤ v2 then (mi_bi (B_X11_isOver D) fun D2 => some (v1, D2)) else (if 0 ≤ v2 ∧ v2 < 7 then (if (D 59 v2 4) ≠ (D 65 0 2) then (mi_let (mi_or v1 (mi_shl 1 v2)) fun x5 => mi_let (mi_st D 59 v2 4 (D 65 0 2)) fun D6 => mi_let (mi_st D6 59 v2 5 (mi_w ((D6 59 v2 5) + 1))) fun D7 => mi_let (mi_st D7 65 0 5 (mi_w ((D7 65 0 5) + 1))) fun D8 => B_X11_force_35 f x5 (mi_w (v2 + 1)) D8) else (B_X11_force_35 f v1 (mi_w (v2 + 1)) D)) else none)
set_option maxRecDepth 20000 in
theorem S_X11_force_35 {Z : MiZ} (hL : ML Z) : ∀ (f : Nat) (v1 v2 : Int) (D : MiD), Sg m_X11_force 35 [(42, 0), (0, v1), (0, v2)] [] (D, Z) (mi_LD 0 Z) (B_X11_force_35 f v1 v2 D) := by
  intro f
  induction f with
  | zero => intros; exact Sg.nope
  | succ f K35 =>
    intro v1 v2 D
    show Sg m_X11_force 35 [(42, 0), (0, v1), (0, v2)] [] (D, Z) (mi_LD 0 Z) (if 6 ≤ v2 then (mi_bi (B_X11_isOver D) fun D2 => some (v1, D2)) else (if 0 ≤ v2 ∧ v2 < 7 then (if (D 59 v2 4) ≠ (D 65 0 2) then (mi_let (mi_or v1 (mi_shl 1 v2)) fun x5 => mi_let (mi_st D 59 v2 4 (D 65 0 2)) fun D6 => mi_let (mi_st D6 59 v2 5 (mi_w ((D6 59 v2 5) + 1))) fun D7 => mi_let (mi_st D7 65 0 5 (mi_w ((D7 65 0 5) + 1))) fun D8 => B_X11_force_35 f x5 (mi_w (v2 + 1)) D8) else (B_X11_force_35 f v1 (mi_w (v2 + 1)) D)) else none))
    refine Sg.go (pc' := 36) (mi_iload_n dX11_force_35 rfl) ?_
    refine Sg.go (pc' := 38) (mi_bipush (z := 6) dX11_force_36 rfl) ?_
    refine Sg.ite (fun h1 => ?_) (fun h1 => ?_)
    · refine Sg.go (pc' := 109) (mi_icmpge_t (tgt := 109) dX11_force_38 (by decide) h1) ?_
      refine Sg.go (pc' := 110) (mi_aload_n dX11_force_109 rfl) ?_
      refine Sg.callV (pc' := 113) (μ' := m_X11_isOver) (args := [(42, 0)]) (mi_invV (n := 0) (r := 40) dX11_force_110 hC_40 (by omega) rfl rfl wN_X11_isOver rfl ⟨by decide, by decide⟩ wL_X11_380 wI_X11_isOver wS_X11_isOver wB_X11 wC_X11_isOver) (fun v hv => C_X11_isOver hL D v hv) (Nat.le_of_ble_eq_true rfl) rfl rfl (fun D2 => ?_)
      refine Sg.go (pc' := 114) (mi_iload_n dX11_force_113 rfl) ?_
      exact Sg.ret (mi_ireturn dX11_force_114 rfl (Or.inl rfl))
    · refine Sg.go (pc' := 41) (mi_icmpge_f (tgt := 109) dX11_force_38 (by decide) h1) ?_
      refine Sg.go (pc' := 42) (mi_aload_n dX11_force_41 rfl) ?_
      refine Sg.go (pc' := 45) (mi_gfA (t := 58) (v := 0) (r := 40) (k := 20) dX11_force_42 hC_40 (by decide) rfl wF_X11_56 (by omega) rfl (hL.1 20 (by decide))) ?_
      refine Sg.go (pc' := 46) (mi_iload_n dX11_force_45 rfl) ?_
      refine Sg.ck (fun hk3 => ?_)
      refine Sg.go (pc' := 47) (mi_aald (n := 7) (t := 59) (v := v2) dX11_force_46 rfl hA_58 rfl (by omega) hk3 rfl (hL.2.2.2.2.2.2.1 _ hk3.1 hk3.2)) ?_
      refine Sg.go (pc' := 48) (mi_iconst (z := 4) dX11_force_47 rfl) ?_
      refine Sg.go (pc' := 49) (mi_iald (n := 7) dX11_force_48 rfl rfl (by omega) (by decide)) ?_
      refine Sg.go (pc' := 50) (mi_aload_n dX11_force_49 rfl) ?_
      refine Sg.go (pc' := 53) (mi_gfA (t := 65) (v := 0) (r := 40) (k := 24) dX11_force_50 hC_40 (by decide) rfl wF_X11_69 (by omega) rfl (hL.1 24 (by decide))) ?_
      refine Sg.go (pc' := 54) (mi_iconst (z := 2) dX11_force_53 rfl) ?_
      refine Sg.go (pc' := 55) (mi_iald (n := 8) dX11_force_54 rfl rfl (by omega) (by decide)) ?_
      refine Sg.ite (fun h4 => ?_) (fun h4 => ?_)
      · refine Sg.go (pc' := 61) (mi_icmpne_t (tgt := 61) dX11_force_55 (by decide) h4) ?_
        refine Sg.go (pc' := 62) (mi_iload_n dX11_force_61 rfl) ?_
        refine Sg.go (pc' := 63) (mi_iconst (z := 1) dX11_force_62 rfl) ?_
        refine Sg.go (pc' := 64) (mi_iload_n dX11_force_63 rfl) ?_
        refine Sg.go (pc' := 65) (mi_ishl dX11_force_64) ?_
        refine Sg.go (pc' := 66) (mi_ior dX11_force_65) ?_
        refine Sg.letI (fun x5 hx5 => ?_)
        refine Sg.go (pc' := 67) (mi_istore_n (ls1 := [(42, 0), (0, x5), (0, v2)]) dX11_force_66 (by decide) rfl) ?_
        refine Sg.go (pc' := 68) (mi_aload_n dX11_force_67 rfl) ?_
        refine Sg.go (pc' := 71) (mi_gfA (t := 58) (v := 0) (r := 40) (k := 20) dX11_force_68 hC_40 (by decide) rfl wF_X11_56 (by omega) rfl (hL.1 20 (by decide))) ?_
        refine Sg.go (pc' := 72) (mi_iload_n dX11_force_71 rfl) ?_
        refine Sg.go (pc' := 73) (mi_aald (n := 7) (t := 59) (v := v2) dX11_force_72 rfl hA_58 rfl (by omega) hk3 rfl (hL.2.2.2.2.2.2.1 _ hk3.1 hk3.2)) ?_
        refine Sg.go (pc' := 74) (mi_iconst (z := 4) dX11_force_73 rfl) ?_
        refine Sg.go (pc' := 75) (mi_aload_n dX11_force_74 rfl) ?_
        refine Sg.go (pc' := 78) (mi_gfA (t := 65) (v := 0) (r := 40) (k := 24) dX11_force_75 hC_40 (by decide) rfl wF_X11_69 (by omega) rfl (hL.1 24 (by decide))) ?_
        refine Sg.go (pc' := 79) (mi_iconst (z := 2) dX11_force_78 rfl) ?_
        refine Sg.go (pc' := 80) (mi_iald (n := 8) dX11_force_79 rfl rfl (by omega) (by decide)) ?_
        refine Sg.goM (pc' := 81) (mi_iast (n := 7) dX11_force_80 rfl rfl (by omega) (by decide)) ?_
        refine Sg.letD (fun D6 hD6 => ?_)
        refine Sg.go (pc' := 82) (mi_aload_n dX11_force_81 rfl) ?_
        refine Sg.go (pc' := 85) (mi_gfA (t := 58) (v := 0) (r := 40) (k := 20) dX11_force_82 hC_40 (by decide) rfl wF_X11_56 (by omega) rfl (hL.1 20 (by decide))) ?_
        refine Sg.go (pc' := 86) (mi_iload_n dX11_force_85 rfl) ?_
        refine Sg.go (pc' := 87) (mi_aald (n := 7) (t := 59) (v := v2) dX11_force_86 rfl hA_58 rfl (by omega) hk3 rfl (hL.2.2.2.2.2.2.1 _ hk3.1 hk3.2)) ?_
        refine Sg.go (pc' := 88) (mi_iconst (z := 5) dX11_force_87 rfl) ?_
        refine Sg.go (pc' := 89) (mi_dup2 dX11_force_88 (show (0 : Nat) ≠ 1 by decide) (show (61 : Nat) ≠ 1 by decide)) ?_
        refine Sg.go (pc' := 90) (mi_iald (n := 7) dX11_force_89 rfl rfl (by omega) (by decide)) ?_
        refine Sg.go (pc' := 91) (mi_iconst (z := 1) dX11_force_90 rfl) ?_
        refine Sg.go (pc' := 92) (mi_iadd dX11_force_91) ?_
        refine Sg.goM (pc' := 93) (mi_iast (n := 7) dX11_force_92 rfl rfl (by omega) (by decide)) ?_
        refine Sg.letD (fun D7 hD7 => ?_)
        refine Sg.go (pc' := 94) (mi_aload_n dX11_force_93 rfl) ?_
        refine Sg.go (pc' := 97) (mi_gfA (t := 65) (v := 0) (r := 40) (k := 24) dX11_force_94 hC_40 (by decide) rfl wF_X11_69 (by omega) rfl (hL.1 24 (by decide))) ?_
        refine Sg.go (pc' := 98) (mi_iconst (z := 5) dX11_force_97 rfl) ?_
        refine Sg.go (pc' := 99) (mi_dup2 dX11_force_98 (show (0 : Nat) ≠ 1 by decide) (show (67 : Nat) ≠ 1 by decide)) ?_
        refine Sg.go (pc' := 100) (mi_iald (n := 8) dX11_force_99 rfl rfl (by omega) (by decide)) ?_
        refine Sg.go (pc' := 101) (mi_iconst (z := 1) dX11_force_100 rfl) ?_
        refine Sg.go (pc' := 102) (mi_iadd dX11_force_101) ?_
        refine Sg.goM (pc' := 103) (mi_iast (n := 8) dX11_force_102 rfl rfl (by omega) (by decide)) ?_
        refine Sg.letD (fun D8 hD8 => ?_)
        refine Sg.go (pc' := 106) (mi_iinc (z := 1) (ls1 := [(42, 0), (0, x5), (0, (mi_w (v2 + 1)))]) dX11_force_103 (by decide) rfl rfl rfl) ?_
        refine Sg.go (pc' := 35) (mi_goto (tgt := 35) dX11_force_106 (by decide)) ?_
        exact K35 x5 (mi_w (v2 + 1)) D8
      · refine Sg.go (pc' := 58) (mi_icmpne_f (tgt := 61) dX11_force_55 (by decide) h4) ?_
        refine Sg.go (pc' := 103) (mi_goto (tgt := 103) dX11_force_58 (by decide)) ?_
        refine Sg.go (pc' := 106) (mi_iinc (z := 1) (ls1 := [(42, 0), (0, v1), (0, (mi_w (v2 + 1)))]) dX11_force_103 (by decide) rfl rfl rfl) ?_
        refine Sg.go (pc' := 35) (mi_goto (tgt := 35) dX11_force_106 (by decide)) ?_
        exact K35 v1 (mi_w (v2 + 1)) D
def B_X11_force_21 (s1 : Int) (D : MiD) : Option (Int × MiD) := if s1 = 0 ∨ s1 = 1 then (mi_b2 (B_X11_bad s1 1 2 D) fun y2 D3 => if y2 = 0 then (B_X11_force_35 mi_fuel 0 0 D3) else (some (0, D3))) else none
set_option maxRecDepth 20000 in
theorem S_X11_force_21 {Z : MiZ} (hL : ML Z) (s1 : Int) (D : MiD) : Sg m_X11_force 21 [(42, 0), mi_un, mi_un] [(0, s1), (42, 0)] (D, Z) (mi_LD 0 Z) (B_X11_force_21 s1 D) := by
  unfold B_X11_force_21
  refine Sg.go (pc' := 22) (mi_iconst (z := 1) dX11_force_21 rfl) ?_
  refine Sg.go (pc' := 23) (mi_iconst (z := 2) dX11_force_22 rfl) ?_
  refine Sg.ck (fun hk1 => ?_)
  refine Sg.callD (pc' := 26) (t := 0) (μ' := m_X11_bad) (args := [(42, 0), (0, s1), (0, 1), (0, 2)]) (mi_invV (n := 3) (r := 40) dX11_force_23 hC_40 (by omega) rfl rfl wN_X11_bad rfl ⟨by decide, by decide⟩ wL_X11_229 wI_X11_bad wS_X11_bad wB_X11 wC_X11_bad) (fun v hv => C_X11_bad hL s1 1 2 D (hk1) v hv) (Nat.le_of_ble_eq_true rfl) rfl rfl (fun y2 D3 => ?_)
  refine Sg.ite (fun h4 => ?_) (fun h4 => ?_)
  · refine Sg.go (pc' := 31) (mi_ifeq_t (tgt := 31) dX11_force_26 (by decide) h4) ?_
    refine Sg.go (pc' := 32) (mi_iconst (z := 0) dX11_force_31 rfl) ?_
    refine Sg.go (pc' := 33) (mi_istore_n (ls1 := [(42, 0), (0, 0), mi_un]) dX11_force_32 (by decide) rfl) ?_
    refine Sg.go (pc' := 34) (mi_iconst (z := 0) dX11_force_33 rfl) ?_
    refine Sg.go (pc' := 35) (mi_istore_n (ls1 := [(42, 0), (0, 0), (0, 0)]) dX11_force_34 (by decide) rfl) ?_
    exact S_X11_force_35 hL mi_fuel 0 0 D3
  · refine Sg.go (pc' := 29) (mi_ifeq_f (tgt := 31) dX11_force_26 (by decide) h4) ?_
    refine Sg.go (pc' := 30) (mi_iconst (z := 0) dX11_force_29 rfl) ?_
    exact Sg.ret (mi_ireturn dX11_force_30 rfl (Or.inl rfl))
def B_X11_force (D : MiD) : Option (Int × MiD) := mi_let (mi_st D 40 0 0 0) fun D1 => if (D1 65 0 1) ≠ (-1) then (B_X11_force_21 0 D1) else (B_X11_force_21 1 D1)
set_option maxRecDepth 20000 in
theorem S_X11_force {Z : MiZ} (hL : ML Z) (D : MiD) : Sg m_X11_force 0 [(42, 0), mi_un, mi_un] [] (D, Z) (mi_LD 0 Z) (B_X11_force D) := by
  unfold B_X11_force
  refine Sg.go (pc' := 1) (mi_aload_n dX11_force_0 rfl) ?_
  refine Sg.go (pc' := 2) (mi_iconst (z := 0) dX11_force_1 rfl) ?_
  refine Sg.goM (pc' := 5) (mi_pfD (r := 40) (k := 0) (t := 0) dX11_force_2 hC_40 (by decide) rfl rfl wF_X11_78 (by omega) rfl (by decide) (Or.inl ⟨rfl, rfl⟩)) ?_
  refine Sg.letD (fun D1 hD1 => ?_)
  refine Sg.go (pc' := 6) (mi_aload_n dX11_force_5 rfl) ?_
  refine Sg.go (pc' := 7) (mi_aload_n dX11_force_6 rfl) ?_
  refine Sg.go (pc' := 10) (mi_gfA (t := 65) (v := 0) (r := 40) (k := 24) dX11_force_7 hC_40 (by decide) rfl wF_X11_69 (by omega) rfl (hL.1 24 (by decide))) ?_
  refine Sg.go (pc' := 11) (mi_iconst (z := 1) dX11_force_10 rfl) ?_
  refine Sg.go (pc' := 12) (mi_iald (n := 8) dX11_force_11 rfl rfl (by omega) (by decide)) ?_
  refine Sg.go (pc' := 13) (mi_iconst (z := (-1)) dX11_force_12 rfl) ?_
  refine Sg.ite (fun h2 => ?_) (fun h2 => ?_)
  · refine Sg.go (pc' := 20) (mi_icmpne_t (tgt := 20) dX11_force_13 (by decide) h2) ?_
    refine Sg.go (pc' := 21) (mi_iconst (z := 0) dX11_force_20 rfl) ?_
    exact S_X11_force_21 hL 0 D1
  · refine Sg.go (pc' := 16) (mi_icmpne_f (tgt := 20) dX11_force_13 (by decide) h2) ?_
    refine Sg.go (pc' := 17) (mi_iconst (z := 1) dX11_force_16 rfl) ?_
    refine Sg.go (pc' := 21) (mi_goto (tgt := 21) dX11_force_17 (by decide)) ?_
    exact S_X11_force_21 hL 1 D1
theorem C_X11_force {Z : MiZ} (hL : ML Z) (D : MiD) (b : Int × MiD) (hb : B_X11_force D = some b) : MC m_X11_force [(42, 0)] (D, Z) ((mi_LD 0 Z) b) := MC.ofSg (L := (mi_LD 0 Z)) (μ := m_X11_force) (args := [(42, 0)]) (M := (D, Z)) rfl wP_X11 (Nat.le_of_ble_eq_true rfl) (show Sg m_X11_force 0 [(42, 0), mi_un, mi_un] [] (D, Z) (mi_LD 0 Z) (B_X11_force D) from S_X11_force hL D) hb
abbrev m_X11_looks : MiI := (yX11_looks, cX11_looks, 2, none, 9, none)
def B_X11_looks_13 : Nat → Int → MiD → Option (MiD)
  | 0, _, _ => none
  | f + 1, v1, D => if 6 ≤ v1 then (mi_bi (B_X11_leftToTurn D) fun y2 => if y2 ≠ 0 then (some D) else (mi_bi (B_X11_isOver D) fun D4 => some D4)) else (if 0 ≤ v1 ∧ v1 < 7 then (if (D 59 v1 4) = (D 65 0 2) then (B_X11_looks_13 f (mi_w (v1 + 1)) D) else (mi_bi (B_X11_stuckAt D v1) fun y7 => if y7 ≠ (-1) then (B_X11_looks_13 f (mi_w (v1 + 1)) D) else (mi_let (mi_st D 59 v1 4 (D 65 0 2)) fun D9 => B_X11_looks_13 f (mi_w (v1 + 1)) D9))) else none)
set_option maxRecDepth 20000 in
theorem S_X11_looks_13 {Z : MiZ} (hL : ML Z) : ∀ (f : Nat) (v1 : Int) (D : MiD), Sg m_X11_looks 13 [(42, 0), (0, v1)] [] (D, Z) (mi_LV Z) (B_X11_looks_13 f v1 D) := by
  intro f
  induction f with
  | zero => intros; exact Sg.nope
  | succ f K13 =>
    intro v1 D
    show Sg m_X11_looks 13 [(42, 0), (0, v1)] [] (D, Z) (mi_LV Z) (if 6 ≤ v1 then (mi_bi (B_X11_leftToTurn D) fun y2 => if y2 ≠ 0 then (some D) else (mi_bi (B_X11_isOver D) fun D4 => some D4)) else (if 0 ≤ v1 ∧ v1 < 7 then (if (D 59 v1 4) = (D 65 0 2) then (B_X11_looks_13 f (mi_w (v1 + 1)) D) else (mi_bi (B_X11_stuckAt D v1) fun y7 => if y7 ≠ (-1) then (B_X11_looks_13 f (mi_w (v1 + 1)) D) else (mi_let (mi_st D 59 v1 4 (D 65 0 2)) fun D9 => B_X11_looks_13 f (mi_w (v1 + 1)) D9))) else none))
    refine Sg.go (pc' := 14) (mi_iload_n dX11_looks_13 rfl) ?_
    refine Sg.go (pc' := 16) (mi_bipush (z := 6) dX11_looks_14 rfl) ?_
    refine Sg.ite (fun h1 => ?_) (fun h1 => ?_)
    · refine Sg.go (pc' := 65) (mi_icmpge_t (tgt := 65) dX11_looks_16 (by decide) h1) ?_
      refine Sg.go (pc' := 66) (mi_aload_n dX11_looks_65 rfl) ?_
      refine Sg.callI (pc' := 69) (t := 0) (μ' := m_X11_leftToTurn) (args := [(42, 0)]) (mi_invV (n := 0) (r := 40) dX11_looks_66 hC_40 (by omega) rfl rfl wN_X11_leftToTurn rfl ⟨by decide, by decide⟩ wL_X11_377 wI_X11_leftToTurn wS_X11_leftToTurn wB_X11 wC_X11_leftToTurn) (fun v hv => C_X11_leftToTurn hL D v hv) (Nat.le_of_ble_eq_true rfl) rfl rfl (fun y2 => ?_)
      refine Sg.ite (fun h3 => ?_) (fun h3 => ?_)
      · refine Sg.go (pc' := 76) (mi_ifne_t (tgt := 76) dX11_looks_69 (by decide) h3) ?_
        exact Sg.ret (mi_return dX11_looks_76 rfl (0, 0))
      · refine Sg.go (pc' := 72) (mi_ifne_f (tgt := 76) dX11_looks_69 (by decide) h3) ?_
        refine Sg.go (pc' := 73) (mi_aload_n dX11_looks_72 rfl) ?_
        refine Sg.callV (pc' := 76) (μ' := m_X11_isOver) (args := [(42, 0)]) (mi_invV (n := 0) (r := 40) dX11_looks_73 hC_40 (by omega) rfl rfl wN_X11_isOver rfl ⟨by decide, by decide⟩ wL_X11_380 wI_X11_isOver wS_X11_isOver wB_X11 wC_X11_isOver) (fun v hv => C_X11_isOver hL D v hv) (Nat.le_of_ble_eq_true rfl) rfl rfl (fun D4 => ?_)
        exact Sg.ret (mi_return dX11_looks_76 rfl (0, 0))
    · refine Sg.go (pc' := 19) (mi_icmpge_f (tgt := 65) dX11_looks_16 (by decide) h1) ?_
      refine Sg.go (pc' := 20) (mi_aload_n dX11_looks_19 rfl) ?_
      refine Sg.go (pc' := 23) (mi_gfA (t := 58) (v := 0) (r := 40) (k := 20) dX11_looks_20 hC_40 (by decide) rfl wF_X11_56 (by omega) rfl (hL.1 20 (by decide))) ?_
      refine Sg.go (pc' := 24) (mi_iload_n dX11_looks_23 rfl) ?_
      refine Sg.ck (fun hk5 => ?_)
      refine Sg.go (pc' := 25) (mi_aald (n := 7) (t := 59) (v := v1) dX11_looks_24 rfl hA_58 rfl (by omega) hk5 rfl (hL.2.2.2.2.2.2.1 _ hk5.1 hk5.2)) ?_
      refine Sg.go (pc' := 26) (mi_iconst (z := 4) dX11_looks_25 rfl) ?_
      refine Sg.go (pc' := 27) (mi_iald (n := 7) dX11_looks_26 rfl rfl (by omega) (by decide)) ?_
      refine Sg.go (pc' := 28) (mi_aload_n dX11_looks_27 rfl) ?_
      refine Sg.go (pc' := 31) (mi_gfA (t := 65) (v := 0) (r := 40) (k := 24) dX11_looks_28 hC_40 (by decide) rfl wF_X11_69 (by omega) rfl (hL.1 24 (by decide))) ?_
      refine Sg.go (pc' := 32) (mi_iconst (z := 2) dX11_looks_31 rfl) ?_
      refine Sg.go (pc' := 33) (mi_iald (n := 8) dX11_looks_32 rfl rfl (by omega) (by decide)) ?_
      refine Sg.ite (fun h6 => ?_) (fun h6 => ?_)
      · refine Sg.go (pc' := 59) (mi_icmpeq_t (tgt := 59) dX11_looks_33 (by decide) h6) ?_
        refine Sg.go (pc' := 62) (mi_iinc (z := 1) (ls1 := [(42, 0), (0, (mi_w (v1 + 1)))]) dX11_looks_59 (by decide) rfl rfl rfl) ?_
        refine Sg.go (pc' := 13) (mi_goto (tgt := 13) dX11_looks_62 (by decide)) ?_
        exact K13 (mi_w (v1 + 1)) D
      · refine Sg.go (pc' := 36) (mi_icmpeq_f (tgt := 59) dX11_looks_33 (by decide) h6) ?_
        refine Sg.go (pc' := 37) (mi_aload_n dX11_looks_36 rfl) ?_
        refine Sg.go (pc' := 38) (mi_iload_n dX11_looks_37 rfl) ?_
        refine Sg.callI (pc' := 41) (t := 0) (μ' := m_X11_stuckAt) (args := [(42, 0), (0, v1)]) (mi_invV (n := 1) (r := 40) dX11_looks_38 hC_40 (by omega) rfl rfl wN_X11_stuckAt rfl ⟨by decide, by decide⟩ wL_X11_374 wI_X11_stuckAt wS_X11_stuckAt wB_X11 wC_X11_stuckAt) (fun v hv => C_X11_stuckAt hL v1 D v hv) (Nat.le_of_ble_eq_true rfl) rfl rfl (fun y7 => ?_)
        refine Sg.go (pc' := 42) (mi_iconst (z := (-1)) dX11_looks_41 rfl) ?_
        refine Sg.ite (fun h8 => ?_) (fun h8 => ?_)
        · refine Sg.go (pc' := 59) (mi_icmpne_t (tgt := 59) dX11_looks_42 (by decide) h8) ?_
          refine Sg.go (pc' := 62) (mi_iinc (z := 1) (ls1 := [(42, 0), (0, (mi_w (v1 + 1)))]) dX11_looks_59 (by decide) rfl rfl rfl) ?_
          refine Sg.go (pc' := 13) (mi_goto (tgt := 13) dX11_looks_62 (by decide)) ?_
          exact K13 (mi_w (v1 + 1)) D
        · refine Sg.go (pc' := 45) (mi_icmpne_f (tgt := 59) dX11_looks_42 (by decide) h8) ?_
          refine Sg.go (pc' := 46) (mi_aload_n dX11_looks_45 rfl) ?_
          refine Sg.go (pc' := 49) (mi_gfA (t := 58) (v := 0) (r := 40) (k := 20) dX11_looks_46 hC_40 (by decide) rfl wF_X11_56 (by omega) rfl (hL.1 20 (by decide))) ?_
          refine Sg.go (pc' := 50) (mi_iload_n dX11_looks_49 rfl) ?_
          refine Sg.go (pc' := 51) (mi_aald (n := 7) (t := 59) (v := v1) dX11_looks_50 rfl hA_58 rfl (by omega) hk5 rfl (hL.2.2.2.2.2.2.1 _ hk5.1 hk5.2)) ?_
          refine Sg.go (pc' := 52) (mi_iconst (z := 4) dX11_looks_51 rfl) ?_
          refine Sg.go (pc' := 53) (mi_aload_n dX11_looks_52 rfl) ?_
          refine Sg.go (pc' := 56) (mi_gfA (t := 65) (v := 0) (r := 40) (k := 24) dX11_looks_53 hC_40 (by decide) rfl wF_X11_69 (by omega) rfl (hL.1 24 (by decide))) ?_
          refine Sg.go (pc' := 57) (mi_iconst (z := 2) dX11_looks_56 rfl) ?_
          refine Sg.go (pc' := 58) (mi_iald (n := 8) dX11_looks_57 rfl rfl (by omega) (by decide)) ?_
          refine Sg.goM (pc' := 59) (mi_iast (n := 7) dX11_looks_58 rfl rfl (by omega) (by decide)) ?_
          refine Sg.letD (fun D9 hD9 => ?_)
          refine Sg.go (pc' := 62) (mi_iinc (z := 1) (ls1 := [(42, 0), (0, (mi_w (v1 + 1)))]) dX11_looks_59 (by decide) rfl rfl rfl) ?_
          refine Sg.go (pc' := 13) (mi_goto (tgt := 13) dX11_looks_62 (by decide)) ?_
          exact K13 (mi_w (v1 + 1)) D9
def B_X11_looks (D : MiD) : Option (MiD) := if (D 65 0 1) ≠ (-1) then (B_X11_looks_13 mi_fuel 0 D) else (some D)
set_option maxRecDepth 20000 in
theorem S_X11_looks {Z : MiZ} (hL : ML Z) (D : MiD) : Sg m_X11_looks 0 [(42, 0), mi_un] [] (D, Z) (mi_LV Z) (B_X11_looks D) := by
  unfold B_X11_looks
  refine Sg.go (pc' := 1) (mi_aload_n dX11_looks_0 rfl) ?_
  refine Sg.go (pc' := 4) (mi_gfA (t := 65) (v := 0) (r := 40) (k := 24) dX11_looks_1 hC_40 (by decide) rfl wF_X11_69 (by omega) rfl (hL.1 24 (by decide))) ?_
  refine Sg.go (pc' := 5) (mi_iconst (z := 1) dX11_looks_4 rfl) ?_
  refine Sg.go (pc' := 6) (mi_iald (n := 8) dX11_looks_5 rfl rfl (by omega) (by decide)) ?_
  refine Sg.go (pc' := 7) (mi_iconst (z := (-1)) dX11_looks_6 rfl) ?_
  refine Sg.ite (fun h1 => ?_) (fun h1 => ?_)
  · refine Sg.go (pc' := 11) (mi_icmpne_t (tgt := 11) dX11_looks_7 (by decide) h1) ?_
    refine Sg.go (pc' := 12) (mi_iconst (z := 0) dX11_looks_11 rfl) ?_
    refine Sg.go (pc' := 13) (mi_istore_n (ls1 := [(42, 0), (0, 0)]) dX11_looks_12 (by decide) rfl) ?_
    exact S_X11_looks_13 hL mi_fuel 0 D
  · refine Sg.go (pc' := 10) (mi_icmpne_f (tgt := 11) dX11_looks_7 (by decide) h1) ?_
    exact Sg.ret (mi_return dX11_looks_10 rfl (0, 0))
theorem C_X11_looks {Z : MiZ} (hL : ML Z) (D : MiD) (b : MiD) (hb : B_X11_looks D = some b) : MC m_X11_looks [(42, 0)] (D, Z) ((mi_LV Z) b) := MC.ofSg (L := (mi_LV Z)) (μ := m_X11_looks) (args := [(42, 0)]) (M := (D, Z)) rfl wP_X11 (Nat.le_of_ble_eq_true rfl) (show Sg m_X11_looks 0 [(42, 0), mi_un] [] (D, Z) (mi_LV Z) (B_X11_looks D) from S_X11_looks hL D) hb
abbrev m_X11_kill : MiI := (yX11_kill, cX11_kill, 3, (some .int), 10, none)
def B_X11_kill_19 (v1 : Int) (s1 : Int) (D : MiD) : Option (Int × MiD) := if s1 = 0 ∨ s1 = 1 then (mi_b2 (B_X11_bad s1 1 0 D) fun y2 D3 => if y2 = 0 then (if 0 ≤ v1 ∧ v1 < 7 then (mi_let (mi_st D3 59 v1 0 0) fun D6 => mi_let (mi_st D6 59 v1 3 0) fun D7 => mi_bi (B_X11_looks D7) fun D8 => some ((D3 59 v1 0), D8)) else none) else (some (0, D3))) else none
set_option maxRecDepth 20000 in
theorem S_X11_kill_19 {Z : MiZ} (hL : ML Z) (v1 s1 : Int) (D : MiD) : Sg m_X11_kill 19 [(42, 0), (0, v1), mi_un] [(0, s1), (42, 0)] (D, Z) (mi_LD 0 Z) (B_X11_kill_19 v1 s1 D) := by
  unfold B_X11_kill_19
  refine Sg.go (pc' := 20) (mi_iconst (z := 1) dX11_kill_19 rfl) ?_
  refine Sg.go (pc' := 21) (mi_iconst (z := 0) dX11_kill_20 rfl) ?_
  refine Sg.ck (fun hk1 => ?_)
  refine Sg.callD (pc' := 24) (t := 0) (μ' := m_X11_bad) (args := [(42, 0), (0, s1), (0, 1), (0, 0)]) (mi_invV (n := 3) (r := 40) dX11_kill_21 hC_40 (by omega) rfl rfl wN_X11_bad rfl ⟨by decide, by decide⟩ wL_X11_229 wI_X11_bad wS_X11_bad wB_X11 wC_X11_bad) (fun v hv => C_X11_bad hL s1 1 0 D (hk1) v hv) (Nat.le_of_ble_eq_true rfl) rfl rfl (fun y2 D3 => ?_)
  refine Sg.ite (fun h4 => ?_) (fun h4 => ?_)
  · refine Sg.go (pc' := 29) (mi_ifeq_t (tgt := 29) dX11_kill_24 (by decide) h4) ?_
    refine Sg.go (pc' := 30) (mi_aload_n dX11_kill_29 rfl) ?_
    refine Sg.go (pc' := 33) (mi_gfA (t := 58) (v := 0) (r := 40) (k := 20) dX11_kill_30 hC_40 (by decide) rfl wF_X11_56 (by omega) rfl (hL.1 20 (by decide))) ?_
    refine Sg.go (pc' := 34) (mi_iload_n dX11_kill_33 rfl) ?_
    refine Sg.ck (fun hk5 => ?_)
    refine Sg.go (pc' := 35) (mi_aald (n := 7) (t := 59) (v := v1) dX11_kill_34 rfl hA_58 rfl (by omega) hk5 rfl (hL.2.2.2.2.2.2.1 _ hk5.1 hk5.2)) ?_
    refine Sg.go (pc' := 36) (mi_iconst (z := 0) dX11_kill_35 rfl) ?_
    refine Sg.go (pc' := 37) (mi_iald (n := 7) dX11_kill_36 rfl rfl (by omega) (by decide)) ?_
    refine Sg.go (pc' := 38) (mi_istore_n (ls1 := [(42, 0), (0, v1), (0, (D3 59 v1 0))]) dX11_kill_37 (by decide) rfl) ?_
    refine Sg.go (pc' := 39) (mi_aload_n dX11_kill_38 rfl) ?_
    refine Sg.go (pc' := 42) (mi_gfA (t := 58) (v := 0) (r := 40) (k := 20) dX11_kill_39 hC_40 (by decide) rfl wF_X11_56 (by omega) rfl (hL.1 20 (by decide))) ?_
    refine Sg.go (pc' := 43) (mi_iload_n dX11_kill_42 rfl) ?_
    refine Sg.go (pc' := 44) (mi_aald (n := 7) (t := 59) (v := v1) dX11_kill_43 rfl hA_58 rfl (by omega) hk5 rfl (hL.2.2.2.2.2.2.1 _ hk5.1 hk5.2)) ?_
    refine Sg.go (pc' := 45) (mi_iconst (z := 0) dX11_kill_44 rfl) ?_
    refine Sg.go (pc' := 46) (mi_iconst (z := 0) dX11_kill_45 rfl) ?_
    refine Sg.goM (pc' := 47) (mi_iast (n := 7) dX11_kill_46 rfl rfl (by omega) (by decide)) ?_
    refine Sg.letD (fun D6 hD6 => ?_)
    refine Sg.go (pc' := 48) (mi_aload_n dX11_kill_47 rfl) ?_
    refine Sg.go (pc' := 51) (mi_gfA (t := 58) (v := 0) (r := 40) (k := 20) dX11_kill_48 hC_40 (by decide) rfl wF_X11_56 (by omega) rfl (hL.1 20 (by decide))) ?_
    refine Sg.go (pc' := 52) (mi_iload_n dX11_kill_51 rfl) ?_
    refine Sg.go (pc' := 53) (mi_aald (n := 7) (t := 59) (v := v1) dX11_kill_52 rfl hA_58 rfl (by omega) hk5 rfl (hL.2.2.2.2.2.2.1 _ hk5.1 hk5.2)) ?_
    refine Sg.go (pc' := 54) (mi_iconst (z := 3) dX11_kill_53 rfl) ?_
    refine Sg.go (pc' := 55) (mi_iconst (z := 0) dX11_kill_54 rfl) ?_
    refine Sg.goM (pc' := 56) (mi_iast (n := 7) dX11_kill_55 rfl rfl (by omega) (by decide)) ?_
    refine Sg.letD (fun D7 hD7 => ?_)
    refine Sg.go (pc' := 57) (mi_aload_n dX11_kill_56 rfl) ?_
    refine Sg.callV (pc' := 60) (μ' := m_X11_looks) (args := [(42, 0)]) (mi_invV (n := 0) (r := 40) dX11_kill_57 hC_40 (by omega) rfl rfl wN_X11_looks rfl ⟨by decide, by decide⟩ wL_X11_386 wI_X11_looks wS_X11_looks wB_X11 wC_X11_looks) (fun v hv => C_X11_looks hL D7 v hv) (Nat.le_of_ble_eq_true rfl) rfl rfl (fun D8 => ?_)
    refine Sg.go (pc' := 61) (mi_iload_n dX11_kill_60 rfl) ?_
    exact Sg.ret (mi_ireturn dX11_kill_61 rfl (Or.inl rfl))
  · refine Sg.go (pc' := 27) (mi_ifeq_f (tgt := 29) dX11_kill_24 (by decide) h4) ?_
    refine Sg.go (pc' := 28) (mi_iconst (z := 0) dX11_kill_27 rfl) ?_
    exact Sg.ret (mi_ireturn dX11_kill_28 rfl (Or.inl rfl))
def B_X11_kill (v1 : Int) (D : MiD) : Option (Int × MiD) := mi_let (mi_st D 40 0 0 0) fun D1 => if (B_X11_isTask v1) ≠ 0 then (B_X11_kill_19 v1 0 D1) else (B_X11_kill_19 v1 1 D1)
set_option maxRecDepth 20000 in
theorem S_X11_kill {Z : MiZ} (hL : ML Z) (v1 : Int) (D : MiD) : Sg m_X11_kill 0 [(42, 0), (0, v1), mi_un] [] (D, Z) (mi_LD 0 Z) (B_X11_kill v1 D) := by
  unfold B_X11_kill
  refine Sg.go (pc' := 1) (mi_aload_n dX11_kill_0 rfl) ?_
  refine Sg.go (pc' := 2) (mi_iconst (z := 0) dX11_kill_1 rfl) ?_
  refine Sg.goM (pc' := 5) (mi_pfD (r := 40) (k := 0) (t := 0) dX11_kill_2 hC_40 (by decide) rfl rfl wF_X11_78 (by omega) rfl (by decide) (Or.inl ⟨rfl, rfl⟩)) ?_
  refine Sg.letD (fun D1 hD1 => ?_)
  refine Sg.go (pc' := 6) (mi_aload_n dX11_kill_5 rfl) ?_
  refine Sg.go (pc' := 7) (mi_aload_n dX11_kill_6 rfl) ?_
  refine Sg.go (pc' := 8) (mi_iload_n dX11_kill_7 rfl) ?_
  refine Sg.callP (pc' := 11) (t := 0) (v := (B_X11_isTask v1)) (μ' := m_X11_isTask) (args := [(42, 0), (0, v1)]) (mi_invV (n := 1) (r := 40) dX11_kill_8 hC_40 (by omega) rfl rfl wN_X11_isTask rfl ⟨by decide, by decide⟩ wL_X11_398 wI_X11_isTask wS_X11_isTask wB_X11 wC_X11_isTask) (C_X11_isTask hL v1 D1) (Nat.le_of_ble_eq_true rfl) rfl rfl ?_
  refine Sg.ite (fun h2 => ?_) (fun h2 => ?_)
  · refine Sg.go (pc' := 18) (mi_ifne_t (tgt := 18) dX11_kill_11 (by decide) h2) ?_
    refine Sg.go (pc' := 19) (mi_iconst (z := 0) dX11_kill_18 rfl) ?_
    exact S_X11_kill_19 hL v1 0 D1
  · refine Sg.go (pc' := 14) (mi_ifne_f (tgt := 18) dX11_kill_11 (by decide) h2) ?_
    refine Sg.go (pc' := 15) (mi_iconst (z := 1) dX11_kill_14 rfl) ?_
    refine Sg.go (pc' := 19) (mi_goto (tgt := 19) dX11_kill_15 (by decide)) ?_
    exact S_X11_kill_19 hL v1 1 D1
theorem C_X11_kill {Z : MiZ} (hL : ML Z) (a1 : Int) (D : MiD) (b : Int × MiD) (hb : B_X11_kill a1 D = some b) : MC m_X11_kill [(42, 0), (0, a1)] (D, Z) ((mi_LD 0 Z) b) := MC.ofSg (L := (mi_LD 0 Z)) (μ := m_X11_kill) (args := [(42, 0), (0, a1)]) (M := (D, Z)) rfl wP_X11 (Nat.le_of_ble_eq_true rfl) (show Sg m_X11_kill 0 [(42, 0), (0, a1), mi_un] [] (D, Z) (mi_LD 0 Z) (B_X11_kill a1 D) from S_X11_kill hL a1 D) hb
abbrev m_X11_reverse : MiI := (yX11_reverse, cX11_reverse, 1, (some .int), 10, none)
def B_X11_reverse_21 (s1 : Int) (D : MiD) : Option (Int × MiD) := if s1 = 0 ∨ s1 = 1 then (mi_b2 (B_X11_bad s1 1 2 D) fun y2 D3 => if y2 = 0 then (mi_let (mi_st D3 65 0 2 (mi_w (1 - (D3 65 0 2)))) fun D5 => mi_bi (B_X11_looks D5) fun D6 => mi_bi (B_X11_leftToTurn D6) fun y7 => some (y7, D6)) else (some (0, D3))) else none
set_option maxRecDepth 20000 in
theorem S_X11_reverse_21 {Z : MiZ} (hL : ML Z) (s1 : Int) (D : MiD) : Sg m_X11_reverse 21 [(42, 0)] [(0, s1), (42, 0)] (D, Z) (mi_LD 0 Z) (B_X11_reverse_21 s1 D) := by
  unfold B_X11_reverse_21
  refine Sg.go (pc' := 22) (mi_iconst (z := 1) dX11_reverse_21 rfl) ?_
  refine Sg.go (pc' := 23) (mi_iconst (z := 2) dX11_reverse_22 rfl) ?_
  refine Sg.ck (fun hk1 => ?_)
  refine Sg.callD (pc' := 26) (t := 0) (μ' := m_X11_bad) (args := [(42, 0), (0, s1), (0, 1), (0, 2)]) (mi_invV (n := 3) (r := 40) dX11_reverse_23 hC_40 (by omega) rfl rfl wN_X11_bad rfl ⟨by decide, by decide⟩ wL_X11_229 wI_X11_bad wS_X11_bad wB_X11 wC_X11_bad) (fun v hv => C_X11_bad hL s1 1 2 D (hk1) v hv) (Nat.le_of_ble_eq_true rfl) rfl rfl (fun y2 D3 => ?_)
  refine Sg.ite (fun h4 => ?_) (fun h4 => ?_)
  · refine Sg.go (pc' := 31) (mi_ifeq_t (tgt := 31) dX11_reverse_26 (by decide) h4) ?_
    refine Sg.go (pc' := 32) (mi_aload_n dX11_reverse_31 rfl) ?_
    refine Sg.go (pc' := 35) (mi_gfA (t := 65) (v := 0) (r := 40) (k := 24) dX11_reverse_32 hC_40 (by decide) rfl wF_X11_69 (by omega) rfl (hL.1 24 (by decide))) ?_
    refine Sg.go (pc' := 36) (mi_iconst (z := 2) dX11_reverse_35 rfl) ?_
    refine Sg.go (pc' := 37) (mi_iconst (z := 1) dX11_reverse_36 rfl) ?_
    refine Sg.go (pc' := 38) (mi_aload_n dX11_reverse_37 rfl) ?_
    refine Sg.go (pc' := 41) (mi_gfA (t := 65) (v := 0) (r := 40) (k := 24) dX11_reverse_38 hC_40 (by decide) rfl wF_X11_69 (by omega) rfl (hL.1 24 (by decide))) ?_
    refine Sg.go (pc' := 42) (mi_iconst (z := 2) dX11_reverse_41 rfl) ?_
    refine Sg.go (pc' := 43) (mi_iald (n := 8) dX11_reverse_42 rfl rfl (by omega) (by decide)) ?_
    refine Sg.go (pc' := 44) (mi_isub dX11_reverse_43) ?_
    refine Sg.goM (pc' := 45) (mi_iast (n := 8) dX11_reverse_44 rfl rfl (by omega) (by decide)) ?_
    refine Sg.letD (fun D5 hD5 => ?_)
    refine Sg.go (pc' := 46) (mi_aload_n dX11_reverse_45 rfl) ?_
    refine Sg.callV (pc' := 49) (μ' := m_X11_looks) (args := [(42, 0)]) (mi_invV (n := 0) (r := 40) dX11_reverse_46 hC_40 (by omega) rfl rfl wN_X11_looks rfl ⟨by decide, by decide⟩ wL_X11_386 wI_X11_looks wS_X11_looks wB_X11 wC_X11_looks) (fun v hv => C_X11_looks hL D5 v hv) (Nat.le_of_ble_eq_true rfl) rfl rfl (fun D6 => ?_)
    refine Sg.go (pc' := 50) (mi_aload_n dX11_reverse_49 rfl) ?_
    refine Sg.callI (pc' := 53) (t := 0) (μ' := m_X11_leftToTurn) (args := [(42, 0)]) (mi_invV (n := 0) (r := 40) dX11_reverse_50 hC_40 (by omega) rfl rfl wN_X11_leftToTurn rfl ⟨by decide, by decide⟩ wL_X11_377 wI_X11_leftToTurn wS_X11_leftToTurn wB_X11 wC_X11_leftToTurn) (fun v hv => C_X11_leftToTurn hL D6 v hv) (Nat.le_of_ble_eq_true rfl) rfl rfl (fun y7 => ?_)
    exact Sg.ret (mi_ireturn dX11_reverse_53 rfl (Or.inl rfl))
  · refine Sg.go (pc' := 29) (mi_ifeq_f (tgt := 31) dX11_reverse_26 (by decide) h4) ?_
    refine Sg.go (pc' := 30) (mi_iconst (z := 0) dX11_reverse_29 rfl) ?_
    exact Sg.ret (mi_ireturn dX11_reverse_30 rfl (Or.inl rfl))
def B_X11_reverse (D : MiD) : Option (Int × MiD) := mi_let (mi_st D 40 0 0 0) fun D1 => if (D1 65 0 1) ≠ (-1) then (B_X11_reverse_21 0 D1) else (B_X11_reverse_21 1 D1)
set_option maxRecDepth 20000 in
theorem S_X11_reverse {Z : MiZ} (hL : ML Z) (D : MiD) : Sg m_X11_reverse 0 [(42, 0)] [] (D, Z) (mi_LD 0 Z) (B_X11_reverse D) := by
  unfold B_X11_reverse
  refine Sg.go (pc' := 1) (mi_aload_n dX11_reverse_0 rfl) ?_
  refine Sg.go (pc' := 2) (mi_iconst (z := 0) dX11_reverse_1 rfl) ?_
  refine Sg.goM (pc' := 5) (mi_pfD (r := 40) (k := 0) (t := 0) dX11_reverse_2 hC_40 (by decide) rfl rfl wF_X11_78 (by omega) rfl (by decide) (Or.inl ⟨rfl, rfl⟩)) ?_
  refine Sg.letD (fun D1 hD1 => ?_)
  refine Sg.go (pc' := 6) (mi_aload_n dX11_reverse_5 rfl) ?_
  refine Sg.go (pc' := 7) (mi_aload_n dX11_reverse_6 rfl) ?_
  refine Sg.go (pc' := 10) (mi_gfA (t := 65) (v := 0) (r := 40) (k := 24) dX11_reverse_7 hC_40 (by decide) rfl wF_X11_69 (by omega) rfl (hL.1 24 (by decide))) ?_
  refine Sg.go (pc' := 11) (mi_iconst (z := 1) dX11_reverse_10 rfl) ?_
  refine Sg.go (pc' := 12) (mi_iald (n := 8) dX11_reverse_11 rfl rfl (by omega) (by decide)) ?_
  refine Sg.go (pc' := 13) (mi_iconst (z := (-1)) dX11_reverse_12 rfl) ?_
  refine Sg.ite (fun h2 => ?_) (fun h2 => ?_)
  · refine Sg.go (pc' := 20) (mi_icmpne_t (tgt := 20) dX11_reverse_13 (by decide) h2) ?_
    refine Sg.go (pc' := 21) (mi_iconst (z := 0) dX11_reverse_20 rfl) ?_
    exact S_X11_reverse_21 hL 0 D1
  · refine Sg.go (pc' := 16) (mi_icmpne_f (tgt := 20) dX11_reverse_13 (by decide) h2) ?_
    refine Sg.go (pc' := 17) (mi_iconst (z := 1) dX11_reverse_16 rfl) ?_
    refine Sg.go (pc' := 21) (mi_goto (tgt := 21) dX11_reverse_17 (by decide)) ?_
    exact S_X11_reverse_21 hL 1 D1
theorem C_X11_reverse {Z : MiZ} (hL : ML Z) (D : MiD) (b : Int × MiD) (hb : B_X11_reverse D = some b) : MC m_X11_reverse [(42, 0)] (D, Z) ((mi_LD 0 Z) b) := MC.ofSg (L := (mi_LD 0 Z)) (μ := m_X11_reverse) (args := [(42, 0)]) (M := (D, Z)) rfl wP_X11 (Nat.le_of_ble_eq_true rfl) (show Sg m_X11_reverse 0 [(42, 0)] [] (D, Z) (mi_LD 0 Z) (B_X11_reverse D) from S_X11_reverse hL D) hb
abbrev m_X11_step : MiI := (yX11_step, cX11_step, 3, (some .int), 10, none)
def B_X11_step_19 (v1 : Int) (s1 : Int) (D : MiD) : Option (Int × MiD) := if s1 = 0 ∨ s1 = 1 then (mi_b2 (B_X11_bad s1 1 0 D) fun y2 D3 => if y2 ≠ 0 then (some (0, D3)) else (mi_bi (B_X11_isIdle D3 v1) fun y5 => if y5 = 0 ∨ y5 = 1 then (mi_b2 (B_X11_bad y5 2 2 D3) fun y7 D8 => if y7 = 0 then (mi_b2 (B_X11_goesOn v1 D8) fun y10 D11 => mi_bi (B_X11_looks D11) fun D12 => some (y10, D12)) else (some (0, D8))) else none)) else none
set_option maxRecDepth 20000 in
theorem S_X11_step_19 {Z : MiZ} (hL : ML Z) (v1 s1 : Int) (D : MiD) : Sg m_X11_step 19 [(42, 0), (0, v1), mi_un] [(0, s1), (42, 0)] (D, Z) (mi_LD 0 Z) (B_X11_step_19 v1 s1 D) := by
  unfold B_X11_step_19
  refine Sg.go (pc' := 20) (mi_iconst (z := 1) dX11_step_19 rfl) ?_
  refine Sg.go (pc' := 21) (mi_iconst (z := 0) dX11_step_20 rfl) ?_
  refine Sg.ck (fun hk1 => ?_)
  refine Sg.callD (pc' := 24) (t := 0) (μ' := m_X11_bad) (args := [(42, 0), (0, s1), (0, 1), (0, 0)]) (mi_invV (n := 3) (r := 40) dX11_step_21 hC_40 (by omega) rfl rfl wN_X11_bad rfl ⟨by decide, by decide⟩ wL_X11_229 wI_X11_bad wS_X11_bad wB_X11 wC_X11_bad) (fun v hv => C_X11_bad hL s1 1 0 D (hk1) v hv) (Nat.le_of_ble_eq_true rfl) rfl rfl (fun y2 D3 => ?_)
  refine Sg.ite (fun h4 => ?_) (fun h4 => ?_)
  · refine Sg.go (pc' := 41) (mi_ifne_t (tgt := 41) dX11_step_24 (by decide) h4) ?_
    refine Sg.go (pc' := 42) (mi_iconst (z := 0) dX11_step_41 rfl) ?_
    exact Sg.ret (mi_ireturn dX11_step_42 rfl (Or.inl rfl))
  · refine Sg.go (pc' := 27) (mi_ifne_f (tgt := 41) dX11_step_24 (by decide) h4) ?_
    refine Sg.go (pc' := 28) (mi_aload_n dX11_step_27 rfl) ?_
    refine Sg.go (pc' := 29) (mi_aload_n dX11_step_28 rfl) ?_
    refine Sg.go (pc' := 30) (mi_iload_n dX11_step_29 rfl) ?_
    refine Sg.callI (pc' := 33) (t := 0) (μ' := m_X11_isIdle) (args := [(42, 0), (0, v1)]) (mi_invV (n := 1) (r := 40) dX11_step_30 hC_40 (by omega) rfl rfl wN_X11_isIdle rfl ⟨by decide, by decide⟩ wL_X11_223 wI_X11_isIdle wS_X11_isIdle wB_X11 wC_X11_isIdle) (fun v hv => C_X11_isIdle hL v1 D3 v hv) (Nat.le_of_ble_eq_true rfl) rfl rfl (fun y5 => ?_)
    refine Sg.go (pc' := 34) (mi_iconst (z := 2) dX11_step_33 rfl) ?_
    refine Sg.go (pc' := 35) (mi_iconst (z := 2) dX11_step_34 rfl) ?_
    refine Sg.ck (fun hk6 => ?_)
    refine Sg.callD (pc' := 38) (t := 0) (μ' := m_X11_bad) (args := [(42, 0), (0, y5), (0, 2), (0, 2)]) (mi_invV (n := 3) (r := 40) dX11_step_35 hC_40 (by omega) rfl rfl wN_X11_bad rfl ⟨by decide, by decide⟩ wL_X11_229 wI_X11_bad wS_X11_bad wB_X11 wC_X11_bad) (fun v hv => C_X11_bad hL y5 2 2 D3 (hk6) v hv) (Nat.le_of_ble_eq_true rfl) rfl rfl (fun y7 D8 => ?_)
    refine Sg.ite (fun h9 => ?_) (fun h9 => ?_)
    · refine Sg.go (pc' := 43) (mi_ifeq_t (tgt := 43) dX11_step_38 (by decide) h9) ?_
      refine Sg.go (pc' := 44) (mi_aload_n dX11_step_43 rfl) ?_
      refine Sg.go (pc' := 45) (mi_iload_n dX11_step_44 rfl) ?_
      refine Sg.callD (pc' := 48) (t := 0) (μ' := m_X11_goesOn) (args := [(42, 0), (0, v1)]) (mi_invV (n := 1) (r := 40) dX11_step_45 hC_40 (by omega) rfl rfl wN_X11_goesOn rfl ⟨by decide, by decide⟩ wL_X11_401 wI_X11_goesOn wS_X11_goesOn wB_X11 wC_X11_goesOn) (fun v hv => C_X11_goesOn hL v1 D8 v hv) (Nat.le_of_ble_eq_true rfl) rfl rfl (fun y10 D11 => ?_)
      refine Sg.go (pc' := 49) (mi_istore_n (ls1 := [(42, 0), (0, v1), (0, y10)]) dX11_step_48 (by decide) rfl) ?_
      refine Sg.go (pc' := 50) (mi_aload_n dX11_step_49 rfl) ?_
      refine Sg.callV (pc' := 53) (μ' := m_X11_looks) (args := [(42, 0)]) (mi_invV (n := 0) (r := 40) dX11_step_50 hC_40 (by omega) rfl rfl wN_X11_looks rfl ⟨by decide, by decide⟩ wL_X11_386 wI_X11_looks wS_X11_looks wB_X11 wC_X11_looks) (fun v hv => C_X11_looks hL D11 v hv) (Nat.le_of_ble_eq_true rfl) rfl rfl (fun D12 => ?_)
      refine Sg.go (pc' := 54) (mi_iload_n dX11_step_53 rfl) ?_
      exact Sg.ret (mi_ireturn dX11_step_54 rfl (Or.inl rfl))
    · refine Sg.go (pc' := 41) (mi_ifeq_f (tgt := 43) dX11_step_38 (by decide) h9) ?_
      refine Sg.go (pc' := 42) (mi_iconst (z := 0) dX11_step_41 rfl) ?_
      exact Sg.ret (mi_ireturn dX11_step_42 rfl (Or.inl rfl))
def B_X11_step (v1 : Int) (D : MiD) : Option (Int × MiD) := mi_let (mi_st D 40 0 0 0) fun D1 => if (B_X11_isTask v1) ≠ 0 then (B_X11_step_19 v1 0 D1) else (B_X11_step_19 v1 1 D1)
set_option maxRecDepth 20000 in
theorem S_X11_step {Z : MiZ} (hL : ML Z) (v1 : Int) (D : MiD) : Sg m_X11_step 0 [(42, 0), (0, v1), mi_un] [] (D, Z) (mi_LD 0 Z) (B_X11_step v1 D) := by
  unfold B_X11_step
  refine Sg.go (pc' := 1) (mi_aload_n dX11_step_0 rfl) ?_
  refine Sg.go (pc' := 2) (mi_iconst (z := 0) dX11_step_1 rfl) ?_
  refine Sg.goM (pc' := 5) (mi_pfD (r := 40) (k := 0) (t := 0) dX11_step_2 hC_40 (by decide) rfl rfl wF_X11_78 (by omega) rfl (by decide) (Or.inl ⟨rfl, rfl⟩)) ?_
  refine Sg.letD (fun D1 hD1 => ?_)
  refine Sg.go (pc' := 6) (mi_aload_n dX11_step_5 rfl) ?_
  refine Sg.go (pc' := 7) (mi_aload_n dX11_step_6 rfl) ?_
  refine Sg.go (pc' := 8) (mi_iload_n dX11_step_7 rfl) ?_
  refine Sg.callP (pc' := 11) (t := 0) (v := (B_X11_isTask v1)) (μ' := m_X11_isTask) (args := [(42, 0), (0, v1)]) (mi_invV (n := 1) (r := 40) dX11_step_8 hC_40 (by omega) rfl rfl wN_X11_isTask rfl ⟨by decide, by decide⟩ wL_X11_398 wI_X11_isTask wS_X11_isTask wB_X11 wC_X11_isTask) (C_X11_isTask hL v1 D1) (Nat.le_of_ble_eq_true rfl) rfl rfl ?_
  refine Sg.ite (fun h2 => ?_) (fun h2 => ?_)
  · refine Sg.go (pc' := 18) (mi_ifne_t (tgt := 18) dX11_step_11 (by decide) h2) ?_
    refine Sg.go (pc' := 19) (mi_iconst (z := 0) dX11_step_18 rfl) ?_
    exact S_X11_step_19 hL v1 0 D1
  · refine Sg.go (pc' := 14) (mi_ifne_f (tgt := 18) dX11_step_11 (by decide) h2) ?_
    refine Sg.go (pc' := 15) (mi_iconst (z := 1) dX11_step_14 rfl) ?_
    refine Sg.go (pc' := 19) (mi_goto (tgt := 19) dX11_step_15 (by decide)) ?_
    exact S_X11_step_19 hL v1 1 D1
theorem C_X11_step {Z : MiZ} (hL : ML Z) (a1 : Int) (D : MiD) (b : Int × MiD) (hb : B_X11_step a1 D = some b) : MC m_X11_step [(42, 0), (0, a1)] (D, Z) ((mi_LD 0 Z) b) := MC.ofSg (L := (mi_LD 0 Z)) (μ := m_X11_step) (args := [(42, 0), (0, a1)]) (M := (D, Z)) rfl wP_X11 (Nat.le_of_ble_eq_true rfl) (show Sg m_X11_step 0 [(42, 0), (0, a1), mi_un] [] (D, Z) (mi_LD 0 Z) (B_X11_step a1 D) from S_X11_step hL a1 D) hb
abbrev m_X11_tick : MiI := (yX11_tick, cX11_tick, 2, none, 10, none)
def B_X11_tick_2 : Nat → Int → MiD → Option (MiD)
  | 0, _, _ => none
  | f + 1, v1, D => if 6 ≤ v1 then (mi_let (mi_st D 65 0 3 (mi_w ((D 65 0 3) + 1))) fun D2 => mi_bi (B_X11_looks D2) fun D3 => some D3) else (mi_bi (B_X11_isIdle D v1) fun y4 => if y4 ≠ 0 then (B_X11_tick_2 f (mi_w (v1 + 1)) D) else (mi_b2 (B_X11_goesOn v1 D) fun y6 D7 => B_X11_tick_2 f (mi_w (v1 + 1)) D7))
set_option maxRecDepth 20000 in
theorem S_X11_tick_2 {Z : MiZ} (hL : ML Z) : ∀ (f : Nat) (v1 : Int) (D : MiD), Sg m_X11_tick 2 [(42, 0), (0, v1)] [] (D, Z) (mi_LV Z) (B_X11_tick_2 f v1 D) := by
  intro f
  induction f with
  | zero => intros; exact Sg.nope
  | succ f K2 =>
    intro v1 D
    show Sg m_X11_tick 2 [(42, 0), (0, v1)] [] (D, Z) (mi_LV Z) (if 6 ≤ v1 then (mi_let (mi_st D 65 0 3 (mi_w ((D 65 0 3) + 1))) fun D2 => mi_bi (B_X11_looks D2) fun D3 => some D3) else (mi_bi (B_X11_isIdle D v1) fun y4 => if y4 ≠ 0 then (B_X11_tick_2 f (mi_w (v1 + 1)) D) else (mi_b2 (B_X11_goesOn v1 D) fun y6 D7 => B_X11_tick_2 f (mi_w (v1 + 1)) D7)))
    refine Sg.go (pc' := 3) (mi_iload_n dX11_tick_2 rfl) ?_
    refine Sg.go (pc' := 5) (mi_bipush (z := 6) dX11_tick_3 rfl) ?_
    refine Sg.ite (fun h1 => ?_) (fun h1 => ?_)
    · refine Sg.go (pc' := 28) (mi_icmpge_t (tgt := 28) dX11_tick_5 (by decide) h1) ?_
      refine Sg.go (pc' := 29) (mi_aload_n dX11_tick_28 rfl) ?_
      refine Sg.go (pc' := 32) (mi_gfA (t := 65) (v := 0) (r := 40) (k := 24) dX11_tick_29 hC_40 (by decide) rfl wF_X11_69 (by omega) rfl (hL.1 24 (by decide))) ?_
      refine Sg.go (pc' := 33) (mi_iconst (z := 3) dX11_tick_32 rfl) ?_
      refine Sg.go (pc' := 34) (mi_dup2 dX11_tick_33 (show (0 : Nat) ≠ 1 by decide) (show (67 : Nat) ≠ 1 by decide)) ?_
      refine Sg.go (pc' := 35) (mi_iald (n := 8) dX11_tick_34 rfl rfl (by omega) (by decide)) ?_
      refine Sg.go (pc' := 36) (mi_iconst (z := 1) dX11_tick_35 rfl) ?_
      refine Sg.go (pc' := 37) (mi_iadd dX11_tick_36) ?_
      refine Sg.goM (pc' := 38) (mi_iast (n := 8) dX11_tick_37 rfl rfl (by omega) (by decide)) ?_
      refine Sg.letD (fun D2 hD2 => ?_)
      refine Sg.go (pc' := 39) (mi_aload_n dX11_tick_38 rfl) ?_
      refine Sg.callV (pc' := 42) (μ' := m_X11_looks) (args := [(42, 0)]) (mi_invV (n := 0) (r := 40) dX11_tick_39 hC_40 (by omega) rfl rfl wN_X11_looks rfl ⟨by decide, by decide⟩ wL_X11_386 wI_X11_looks wS_X11_looks wB_X11 wC_X11_looks) (fun v hv => C_X11_looks hL D2 v hv) (Nat.le_of_ble_eq_true rfl) rfl rfl (fun D3 => ?_)
      exact Sg.ret (mi_return dX11_tick_42 rfl (0, 0))
    · refine Sg.go (pc' := 8) (mi_icmpge_f (tgt := 28) dX11_tick_5 (by decide) h1) ?_
      refine Sg.go (pc' := 9) (mi_aload_n dX11_tick_8 rfl) ?_
      refine Sg.go (pc' := 10) (mi_iload_n dX11_tick_9 rfl) ?_
      refine Sg.callI (pc' := 13) (t := 0) (μ' := m_X11_isIdle) (args := [(42, 0), (0, v1)]) (mi_invV (n := 1) (r := 40) dX11_tick_10 hC_40 (by omega) rfl rfl wN_X11_isIdle rfl ⟨by decide, by decide⟩ wL_X11_223 wI_X11_isIdle wS_X11_isIdle wB_X11 wC_X11_isIdle) (fun v hv => C_X11_isIdle hL v1 D v hv) (Nat.le_of_ble_eq_true rfl) rfl rfl (fun y4 => ?_)
      refine Sg.ite (fun h5 => ?_) (fun h5 => ?_)
      · refine Sg.go (pc' := 22) (mi_ifne_t (tgt := 22) dX11_tick_13 (by decide) h5) ?_
        refine Sg.go (pc' := 25) (mi_iinc (z := 1) (ls1 := [(42, 0), (0, (mi_w (v1 + 1)))]) dX11_tick_22 (by decide) rfl rfl rfl) ?_
        refine Sg.go (pc' := 2) (mi_goto (tgt := 2) dX11_tick_25 (by decide)) ?_
        exact K2 (mi_w (v1 + 1)) D
      · refine Sg.go (pc' := 16) (mi_ifne_f (tgt := 22) dX11_tick_13 (by decide) h5) ?_
        refine Sg.go (pc' := 17) (mi_aload_n dX11_tick_16 rfl) ?_
        refine Sg.go (pc' := 18) (mi_iload_n dX11_tick_17 rfl) ?_
        refine Sg.callD (pc' := 21) (t := 0) (μ' := m_X11_goesOn) (args := [(42, 0), (0, v1)]) (mi_invV (n := 1) (r := 40) dX11_tick_18 hC_40 (by omega) rfl rfl wN_X11_goesOn rfl ⟨by decide, by decide⟩ wL_X11_401 wI_X11_goesOn wS_X11_goesOn wB_X11 wC_X11_goesOn) (fun v hv => C_X11_goesOn hL v1 D v hv) (Nat.le_of_ble_eq_true rfl) rfl rfl (fun y6 D7 => ?_)
        refine Sg.go (pc' := 22) (mi_pop dX11_tick_21 (show (0 : Nat) ≠ 1 by decide)) ?_
        refine Sg.go (pc' := 25) (mi_iinc (z := 1) (ls1 := [(42, 0), (0, (mi_w (v1 + 1)))]) dX11_tick_22 (by decide) rfl rfl rfl) ?_
        refine Sg.go (pc' := 2) (mi_goto (tgt := 2) dX11_tick_25 (by decide)) ?_
        exact K2 (mi_w (v1 + 1)) D7
def B_X11_tick (D : MiD) : Option (MiD) := B_X11_tick_2 mi_fuel 0 D
set_option maxRecDepth 20000 in
theorem S_X11_tick {Z : MiZ} (hL : ML Z) (D : MiD) : Sg m_X11_tick 0 [(42, 0), mi_un] [] (D, Z) (mi_LV Z) (B_X11_tick D) := by
  unfold B_X11_tick
  refine Sg.go (pc' := 1) (mi_iconst (z := 0) dX11_tick_0 rfl) ?_
  refine Sg.go (pc' := 2) (mi_istore_n (ls1 := [(42, 0), (0, 0)]) dX11_tick_1 (by decide) rfl) ?_
  exact S_X11_tick_2 hL mi_fuel 0 D
theorem C_X11_tick {Z : MiZ} (hL : ML Z) (D : MiD) (b : MiD) (hb : B_X11_tick D = some b) : MC m_X11_tick [(42, 0)] (D, Z) ((mi_LV Z) b) := MC.ofSg (L := (mi_LV Z)) (μ := m_X11_tick) (args := [(42, 0)]) (M := (D, Z)) rfl wP_X11 (Nat.le_of_ble_eq_true rfl) (show Sg m_X11_tick 0 [(42, 0), mi_un] [] (D, Z) (mi_LV Z) (B_X11_tick D) from S_X11_tick hL D) hb
abbrev m_X11_turns : MiI := (yX11_turns, cX11_turns, 4, none, 10, none)
def B_X11_turns_16 : Nat → Int → Int → MiD → Option (MiD)
  | 0, _, _, _ => none
  | f + 1, v2, v3, D => if 6 ≤ v3 then (mi_bi (B_X11_looks D) fun D2 => some D2) else (if 0 ≤ v3 ∧ v3 < 7 then (mi_let (mi_st D 59 v3 4 (mi_w (1 - v2))) fun D4 => B_X11_turns_16 f v2 (mi_w (v3 + 1)) D4) else none)
set_option maxRecDepth 20000 in
theorem S_X11_turns_16 {Z : MiZ} (hL : ML Z) : ∀ (f : Nat) (v2 v3 : Int) (D : MiD), Sg m_X11_turns 16 [(42, 0), mi_un, (0, v2), (0, v3)] [] (D, Z) (mi_LV Z) (B_X11_turns_16 f v2 v3 D) := by
  intro f
  induction f with
  | zero => intros; exact Sg.nope
  | succ f K16 =>
    intro v2 v3 D
    show Sg m_X11_turns 16 [(42, 0), mi_un, (0, v2), (0, v3)] [] (D, Z) (mi_LV Z) (if 6 ≤ v3 then (mi_bi (B_X11_looks D) fun D2 => some D2) else (if 0 ≤ v3 ∧ v3 < 7 then (mi_let (mi_st D 59 v3 4 (mi_w (1 - v2))) fun D4 => B_X11_turns_16 f v2 (mi_w (v3 + 1)) D4) else none))
    refine Sg.go (pc' := 17) (mi_iload_n dX11_turns_16 rfl) ?_
    refine Sg.go (pc' := 19) (mi_bipush (z := 6) dX11_turns_17 rfl) ?_
    refine Sg.ite (fun h1 => ?_) (fun h1 => ?_)
    · refine Sg.go (pc' := 39) (mi_icmpge_t (tgt := 39) dX11_turns_19 (by decide) h1) ?_
      refine Sg.go (pc' := 40) (mi_aload_n dX11_turns_39 rfl) ?_
      refine Sg.callV (pc' := 43) (μ' := m_X11_looks) (args := [(42, 0)]) (mi_invV (n := 0) (r := 40) dX11_turns_40 hC_40 (by omega) rfl rfl wN_X11_looks rfl ⟨by decide, by decide⟩ wL_X11_386 wI_X11_looks wS_X11_looks wB_X11 wC_X11_looks) (fun v hv => C_X11_looks hL D v hv) (Nat.le_of_ble_eq_true rfl) rfl rfl (fun D2 => ?_)
      exact Sg.ret (mi_return dX11_turns_43 rfl (0, 0))
    · refine Sg.go (pc' := 22) (mi_icmpge_f (tgt := 39) dX11_turns_19 (by decide) h1) ?_
      refine Sg.go (pc' := 23) (mi_aload_n dX11_turns_22 rfl) ?_
      refine Sg.go (pc' := 26) (mi_gfA (t := 58) (v := 0) (r := 40) (k := 20) dX11_turns_23 hC_40 (by decide) rfl wF_X11_56 (by omega) rfl (hL.1 20 (by decide))) ?_
      refine Sg.go (pc' := 27) (mi_iload_n dX11_turns_26 rfl) ?_
      refine Sg.ck (fun hk3 => ?_)
      refine Sg.go (pc' := 28) (mi_aald (n := 7) (t := 59) (v := v3) dX11_turns_27 rfl hA_58 rfl (by omega) hk3 rfl (hL.2.2.2.2.2.2.1 _ hk3.1 hk3.2)) ?_
      refine Sg.go (pc' := 29) (mi_iconst (z := 4) dX11_turns_28 rfl) ?_
      refine Sg.go (pc' := 30) (mi_iconst (z := 1) dX11_turns_29 rfl) ?_
      refine Sg.go (pc' := 31) (mi_iload_n dX11_turns_30 rfl) ?_
      refine Sg.go (pc' := 32) (mi_isub dX11_turns_31) ?_
      refine Sg.goM (pc' := 33) (mi_iast (n := 7) dX11_turns_32 rfl rfl (by omega) (by decide)) ?_
      refine Sg.letD (fun D4 hD4 => ?_)
      refine Sg.go (pc' := 36) (mi_iinc (z := 1) (ls1 := [(42, 0), mi_un, (0, v2), (0, (mi_w (v3 + 1)))]) dX11_turns_33 (by decide) rfl rfl rfl) ?_
      refine Sg.go (pc' := 16) (mi_goto (tgt := 16) dX11_turns_36 (by decide)) ?_
      exact K16 v2 (mi_w (v3 + 1)) D4
def B_X11_turns (v1 : Int) (v2 : Int) (D : MiD) : Option (MiD) := mi_let (mi_st D 65 0 1 v1) fun D1 => mi_let (mi_st D1 65 0 2 v2) fun D2 => B_X11_turns_16 mi_fuel v2 0 D2
set_option maxRecDepth 20000 in
theorem S_X11_turns {Z : MiZ} (hL : ML Z) (v1 v2 : Int) (D : MiD) : Sg m_X11_turns 0 [(42, 0), (0, v1), (0, v2), mi_un] [] (D, Z) (mi_LV Z) (B_X11_turns v1 v2 D) := by
  unfold B_X11_turns
  refine Sg.go (pc' := 1) (mi_aload_n dX11_turns_0 rfl) ?_
  refine Sg.go (pc' := 4) (mi_gfA (t := 65) (v := 0) (r := 40) (k := 24) dX11_turns_1 hC_40 (by decide) rfl wF_X11_69 (by omega) rfl (hL.1 24 (by decide))) ?_
  refine Sg.go (pc' := 5) (mi_iconst (z := 1) dX11_turns_4 rfl) ?_
  refine Sg.go (pc' := 6) (mi_iload_n dX11_turns_5 rfl) ?_
  refine Sg.goM (pc' := 7) (mi_iast (n := 8) dX11_turns_6 rfl rfl (by omega) (by decide)) ?_
  refine Sg.letD (fun D1 hD1 => ?_)
  refine Sg.go (pc' := 8) (mi_aload_n dX11_turns_7 rfl) ?_
  refine Sg.go (pc' := 11) (mi_gfA (t := 65) (v := 0) (r := 40) (k := 24) dX11_turns_8 hC_40 (by decide) rfl wF_X11_69 (by omega) rfl (hL.1 24 (by decide))) ?_
  refine Sg.go (pc' := 12) (mi_iconst (z := 2) dX11_turns_11 rfl) ?_
  refine Sg.go (pc' := 13) (mi_iload_n dX11_turns_12 rfl) ?_
  refine Sg.goM (pc' := 14) (mi_iast (n := 8) dX11_turns_13 rfl rfl (by omega) (by decide)) ?_
  refine Sg.letD (fun D2 hD2 => ?_)
  refine Sg.go (pc' := 15) (mi_iconst (z := 0) dX11_turns_14 rfl) ?_
  refine Sg.go (pc' := 16) (mi_istore_n (ls1 := [(42, 0), (0, v1), (0, v2), (0, 0)]) dX11_turns_15 (by decide) rfl) ?_
  refine Sg.go (pc' := 16) (MiStep.weak (ls' := [(42, 0), mi_un, (0, v2), (0, 0)]) (mi_wk_y (mi_wk_n (mi_wk_y (mi_wk_y mi_wk_0))))) ?_
  exact S_X11_turns_16 hL mi_fuel v2 0 D2
theorem C_X11_turns {Z : MiZ} (hL : ML Z) (a1 a2 : Int) (D : MiD) (b : MiD) (hb : B_X11_turns a1 a2 D = some b) : MC m_X11_turns [(42, 0), (0, a1), (0, a2)] (D, Z) ((mi_LV Z) b) := MC.ofSg (L := (mi_LV Z)) (μ := m_X11_turns) (args := [(42, 0), (0, a1), (0, a2)]) (M := (D, Z)) rfl wP_X11 (Nat.le_of_ble_eq_true rfl) (show Sg m_X11_turns 0 [(42, 0), (0, a1), (0, a2), mi_un] [] (D, Z) (mi_LV Z) (B_X11_turns a1 a2 D) from S_X11_turns hL a1 a2 D) hb
abbrev m_X11_disable : MiI := (yX11_disable, cX11_disable, 1, (some .int), 11, none)
def B_X11_disable_30 (s1 : Int) (D : MiD) : Option (Int × MiD) := if s1 = 0 ∨ s1 = 1 then (mi_b2 (B_X11_bad s1 1 2 D) fun y2 D3 => if y2 = 0 then (if 0 ≤ (mi_w ((D3 65 0 0) - 1)) ∧ (mi_w ((D3 65 0 0) - 1)) < 8 then (mi_bi (B_X11_turns (D3 64 0 (mi_w ((D3 65 0 0) - 1))) 0 D3) fun D6 => mi_bi (B_X11_leftToTurn D6) fun y7 => some (y7, D6)) else none) else (some (0, D3))) else none
set_option maxRecDepth 20000 in
theorem S_X11_disable_30 {Z : MiZ} (hL : ML Z) (s1 : Int) (D : MiD) : Sg m_X11_disable 30 [(42, 0)] [(0, s1), (42, 0)] (D, Z) (mi_LD 0 Z) (B_X11_disable_30 s1 D) := by
  unfold B_X11_disable_30
  refine Sg.go (pc' := 31) (mi_iconst (z := 1) dX11_disable_30 rfl) ?_
  refine Sg.go (pc' := 32) (mi_iconst (z := 2) dX11_disable_31 rfl) ?_
  refine Sg.ck (fun hk1 => ?_)
  refine Sg.callD (pc' := 35) (t := 0) (μ' := m_X11_bad) (args := [(42, 0), (0, s1), (0, 1), (0, 2)]) (mi_invV (n := 3) (r := 40) dX11_disable_32 hC_40 (by omega) rfl rfl wN_X11_bad rfl ⟨by decide, by decide⟩ wL_X11_229 wI_X11_bad wS_X11_bad wB_X11 wC_X11_bad) (fun v hv => C_X11_bad hL s1 1 2 D (hk1) v hv) (Nat.le_of_ble_eq_true rfl) rfl rfl (fun y2 D3 => ?_)
  refine Sg.ite (fun h4 => ?_) (fun h4 => ?_)
  · refine Sg.go (pc' := 40) (mi_ifeq_t (tgt := 40) dX11_disable_35 (by decide) h4) ?_
    refine Sg.go (pc' := 41) (mi_aload_n dX11_disable_40 rfl) ?_
    refine Sg.go (pc' := 42) (mi_aload_n dX11_disable_41 rfl) ?_
    refine Sg.go (pc' := 45) (mi_gfA (t := 64) (v := 0) (r := 40) (k := 23) dX11_disable_42 hC_40 (by decide) rfl wF_X11_66 (by omega) rfl (hL.1 23 (by decide))) ?_
    refine Sg.go (pc' := 46) (mi_aload_n dX11_disable_45 rfl) ?_
    refine Sg.go (pc' := 49) (mi_gfA (t := 65) (v := 0) (r := 40) (k := 24) dX11_disable_46 hC_40 (by decide) rfl wF_X11_69 (by omega) rfl (hL.1 24 (by decide))) ?_
    refine Sg.go (pc' := 50) (mi_iconst (z := 0) dX11_disable_49 rfl) ?_
    refine Sg.go (pc' := 51) (mi_iald (n := 8) dX11_disable_50 rfl rfl (by omega) (by decide)) ?_
    refine Sg.go (pc' := 52) (mi_iconst (z := 1) dX11_disable_51 rfl) ?_
    refine Sg.go (pc' := 53) (mi_isub dX11_disable_52) ?_
    refine Sg.ck (fun hk5 => ?_)
    refine Sg.go (pc' := 54) (mi_iald (n := 8) dX11_disable_53 rfl rfl (by omega) hk5) ?_
    refine Sg.go (pc' := 55) (mi_iconst (z := 0) dX11_disable_54 rfl) ?_
    refine Sg.callV (pc' := 58) (μ' := m_X11_turns) (args := [(42, 0), (0, (D3 64 0 (mi_w ((D3 65 0 0) - 1)))), (0, 0)]) (mi_invV (n := 2) (r := 40) dX11_disable_55 hC_40 (by omega) rfl rfl wN_X11_turns rfl ⟨by decide, by decide⟩ wL_X11_395 wI_X11_turns wS_X11_turns wB_X11 wC_X11_turns) (fun v hv => C_X11_turns hL (D3 64 0 (mi_w ((D3 65 0 0) - 1))) 0 D3 v hv) (Nat.le_of_ble_eq_true rfl) rfl rfl (fun D6 => ?_)
    refine Sg.go (pc' := 59) (mi_aload_n dX11_disable_58 rfl) ?_
    refine Sg.callI (pc' := 62) (t := 0) (μ' := m_X11_leftToTurn) (args := [(42, 0)]) (mi_invV (n := 0) (r := 40) dX11_disable_59 hC_40 (by omega) rfl rfl wN_X11_leftToTurn rfl ⟨by decide, by decide⟩ wL_X11_377 wI_X11_leftToTurn wS_X11_leftToTurn wB_X11 wC_X11_leftToTurn) (fun v hv => C_X11_leftToTurn hL D6 v hv) (Nat.le_of_ble_eq_true rfl) rfl rfl (fun y7 => ?_)
    exact Sg.ret (mi_ireturn dX11_disable_62 rfl (Or.inl rfl))
  · refine Sg.go (pc' := 38) (mi_ifeq_f (tgt := 40) dX11_disable_35 (by decide) h4) ?_
    refine Sg.go (pc' := 39) (mi_iconst (z := 0) dX11_disable_38 rfl) ?_
    exact Sg.ret (mi_ireturn dX11_disable_39 rfl (Or.inl rfl))
def B_X11_disable_25 (D : MiD) : Option (Int × MiD) := B_X11_disable_30 1 D
set_option maxRecDepth 20000 in
theorem S_X11_disable_25 {Z : MiZ} (hL : ML Z) (D : MiD) : Sg m_X11_disable 25 [(42, 0)] [(42, 0)] (D, Z) (mi_LD 0 Z) (B_X11_disable_25 D) := by
  unfold B_X11_disable_25
  refine Sg.go (pc' := 26) (mi_iconst (z := 1) dX11_disable_25 rfl) ?_
  refine Sg.go (pc' := 30) (mi_goto (tgt := 30) dX11_disable_26 (by decide)) ?_
  exact S_X11_disable_30 hL 1 D
def B_X11_disable (D : MiD) : Option (Int × MiD) := mi_let (mi_st D 40 0 0 0) fun D1 => if (D1 65 0 0) = 0 then (B_X11_disable_25 D1) else (if (D1 65 0 1) = (-1) then (B_X11_disable_30 0 D1) else (B_X11_disable_25 D1))
set_option maxRecDepth 20000 in
theorem S_X11_disable {Z : MiZ} (hL : ML Z) (D : MiD) : Sg m_X11_disable 0 [(42, 0)] [] (D, Z) (mi_LD 0 Z) (B_X11_disable D) := by
  unfold B_X11_disable
  refine Sg.go (pc' := 1) (mi_aload_n dX11_disable_0 rfl) ?_
  refine Sg.go (pc' := 2) (mi_iconst (z := 0) dX11_disable_1 rfl) ?_
  refine Sg.goM (pc' := 5) (mi_pfD (r := 40) (k := 0) (t := 0) dX11_disable_2 hC_40 (by decide) rfl rfl wF_X11_78 (by omega) rfl (by decide) (Or.inl ⟨rfl, rfl⟩)) ?_
  refine Sg.letD (fun D1 hD1 => ?_)
  refine Sg.go (pc' := 6) (mi_aload_n dX11_disable_5 rfl) ?_
  refine Sg.go (pc' := 7) (mi_aload_n dX11_disable_6 rfl) ?_
  refine Sg.go (pc' := 10) (mi_gfA (t := 65) (v := 0) (r := 40) (k := 24) dX11_disable_7 hC_40 (by decide) rfl wF_X11_69 (by omega) rfl (hL.1 24 (by decide))) ?_
  refine Sg.go (pc' := 11) (mi_iconst (z := 0) dX11_disable_10 rfl) ?_
  refine Sg.go (pc' := 12) (mi_iald (n := 8) dX11_disable_11 rfl rfl (by omega) (by decide)) ?_
  refine Sg.ite (fun h2 => ?_) (fun h2 => ?_)
  · refine Sg.go (pc' := 25) (mi_ifeq_t (tgt := 25) dX11_disable_12 (by decide) h2) ?_
    exact S_X11_disable_25 hL D1
  · refine Sg.go (pc' := 15) (mi_ifeq_f (tgt := 25) dX11_disable_12 (by decide) h2) ?_
    refine Sg.go (pc' := 16) (mi_aload_n dX11_disable_15 rfl) ?_
    refine Sg.go (pc' := 19) (mi_gfA (t := 65) (v := 0) (r := 40) (k := 24) dX11_disable_16 hC_40 (by decide) rfl wF_X11_69 (by omega) rfl (hL.1 24 (by decide))) ?_
    refine Sg.go (pc' := 20) (mi_iconst (z := 1) dX11_disable_19 rfl) ?_
    refine Sg.go (pc' := 21) (mi_iald (n := 8) dX11_disable_20 rfl rfl (by omega) (by decide)) ?_
    refine Sg.go (pc' := 22) (mi_iconst (z := (-1)) dX11_disable_21 rfl) ?_
    refine Sg.ite (fun h3 => ?_) (fun h3 => ?_)
    · refine Sg.go (pc' := 29) (mi_icmpeq_t (tgt := 29) dX11_disable_22 (by decide) h3) ?_
      refine Sg.go (pc' := 30) (mi_iconst (z := 0) dX11_disable_29 rfl) ?_
      exact S_X11_disable_30 hL 0 D1
    · refine Sg.go (pc' := 25) (mi_icmpeq_f (tgt := 29) dX11_disable_22 (by decide) h3) ?_
      exact S_X11_disable_25 hL D1
theorem C_X11_disable {Z : MiZ} (hL : ML Z) (D : MiD) (b : Int × MiD) (hb : B_X11_disable D = some b) : MC m_X11_disable [(42, 0)] (D, Z) ((mi_LD 0 Z) b) := MC.ofSg (L := (mi_LD 0 Z)) (μ := m_X11_disable) (args := [(42, 0)]) (M := (D, Z)) rfl wP_X11 (Nat.le_of_ble_eq_true rfl) (show Sg m_X11_disable 0 [(42, 0)] [] (D, Z) (mi_LD 0 Z) (B_X11_disable D) from S_X11_disable hL D) hb
abbrev m_X11_enable : MiI := (yX11_enable, cX11_enable, 2, (some .int), 11, none)
def B_X11_enable_51 (v1 : Int) (s1 : Int) (D : MiD) : Option (Int × MiD) := if s1 = 0 ∨ s1 = 1 then (mi_b2 (B_X11_bad s1 2 2 D) fun y2 D3 => if y2 = 0 then (mi_bi (B_X11_doesAll (B_X11_codeAt v1 8) D3) fun D5 => if 0 ≤ (D5 65 0 0) ∧ (D5 65 0 0) < 8 then (mi_let (mi_st D5 64 0 (D5 65 0 0) v1) fun D7 => mi_let (mi_st D7 65 0 0 (mi_w ((D7 65 0 0) + 1))) fun D8 => if 0 ≤ v1 ∧ v1 < 8 then (mi_let (mi_st D8 49 0 v1 (mi_w ((D8 49 0 v1) + 1))) fun D10 => mi_bi (B_X11_turns v1 1 D10) fun D11 => mi_bi (B_X11_leftToTurn D11) fun y12 => some (y12, D11)) else none) else none) else (some (0, D3))) else none
set_option maxRecDepth 20000 in
theorem S_X11_enable_51 {Z : MiZ} (hL : ML Z) (v1 s1 : Int) (D : MiD) : Sg m_X11_enable 51 [(42, 0), (0, v1)] [(0, s1), (42, 0)] (D, Z) (mi_LD 0 Z) (B_X11_enable_51 v1 s1 D) := by
  unfold B_X11_enable_51
  refine Sg.go (pc' := 52) (mi_iconst (z := 2) dX11_enable_51 rfl) ?_
  refine Sg.go (pc' := 53) (mi_iconst (z := 2) dX11_enable_52 rfl) ?_
  refine Sg.ck (fun hk1 => ?_)
  refine Sg.callD (pc' := 56) (t := 0) (μ' := m_X11_bad) (args := [(42, 0), (0, s1), (0, 2), (0, 2)]) (mi_invV (n := 3) (r := 40) dX11_enable_53 hC_40 (by omega) rfl rfl wN_X11_bad rfl ⟨by decide, by decide⟩ wL_X11_229 wI_X11_bad wS_X11_bad wB_X11 wC_X11_bad) (fun v hv => C_X11_bad hL s1 2 2 D (hk1) v hv) (Nat.le_of_ble_eq_true rfl) rfl rfl (fun y2 D3 => ?_)
  refine Sg.ite (fun h4 => ?_) (fun h4 => ?_)
  · refine Sg.go (pc' := 61) (mi_ifeq_t (tgt := 61) dX11_enable_56 (by decide) h4) ?_
    refine Sg.go (pc' := 62) (mi_aload_n dX11_enable_61 rfl) ?_
    refine Sg.go (pc' := 63) (mi_iload_n dX11_enable_62 rfl) ?_
    refine Sg.go (pc' := 65) (mi_bipush (z := 8) dX11_enable_63 rfl) ?_
    refine Sg.callP (pc' := 68) (t := 0) (v := (B_X11_codeAt v1 8)) (μ' := m_X11_codeAt) (args := [(0, v1), (0, 8)]) (mi_invS (n := 2) dX11_enable_65 rfl wN_X11_codeAt rfl ⟨by decide, by decide⟩ wL_X11_278 wT_X11_codeAt wB_X11 wC_X11_codeAt) (C_X11_codeAt hL v1 8 D3) (Nat.le_of_ble_eq_true rfl) rfl rfl ?_
    refine Sg.callV (pc' := 71) (μ' := m_X11_doesAll) (args := [(42, 0), (0, (B_X11_codeAt v1 8))]) (mi_invV (n := 1) (r := 40) dX11_enable_68 hC_40 (by omega) rfl rfl wN_X11_doesAll rfl ⟨by decide, by decide⟩ wL_X11_383 wI_X11_doesAll wS_X11_doesAll wB_X11 wC_X11_doesAll) (fun v hv => C_X11_doesAll hL (B_X11_codeAt v1 8) D3 v hv) (Nat.le_of_ble_eq_true rfl) rfl rfl (fun D5 => ?_)
    refine Sg.go (pc' := 72) (mi_aload_n dX11_enable_71 rfl) ?_
    refine Sg.go (pc' := 75) (mi_gfA (t := 64) (v := 0) (r := 40) (k := 23) dX11_enable_72 hC_40 (by decide) rfl wF_X11_66 (by omega) rfl (hL.1 23 (by decide))) ?_
    refine Sg.go (pc' := 76) (mi_aload_n dX11_enable_75 rfl) ?_
    refine Sg.go (pc' := 79) (mi_gfA (t := 65) (v := 0) (r := 40) (k := 24) dX11_enable_76 hC_40 (by decide) rfl wF_X11_69 (by omega) rfl (hL.1 24 (by decide))) ?_
    refine Sg.go (pc' := 80) (mi_iconst (z := 0) dX11_enable_79 rfl) ?_
    refine Sg.go (pc' := 81) (mi_iald (n := 8) dX11_enable_80 rfl rfl (by omega) (by decide)) ?_
    refine Sg.go (pc' := 82) (mi_iload_n dX11_enable_81 rfl) ?_
    refine Sg.ck (fun hk6 => ?_)
    refine Sg.goM (pc' := 83) (mi_iast (n := 8) dX11_enable_82 rfl rfl (by omega) hk6) ?_
    refine Sg.letD (fun D7 hD7 => ?_)
    refine Sg.go (pc' := 84) (mi_aload_n dX11_enable_83 rfl) ?_
    refine Sg.go (pc' := 87) (mi_gfA (t := 65) (v := 0) (r := 40) (k := 24) dX11_enable_84 hC_40 (by decide) rfl wF_X11_69 (by omega) rfl (hL.1 24 (by decide))) ?_
    refine Sg.go (pc' := 88) (mi_iconst (z := 0) dX11_enable_87 rfl) ?_
    refine Sg.go (pc' := 89) (mi_dup2 dX11_enable_88 (show (0 : Nat) ≠ 1 by decide) (show (67 : Nat) ≠ 1 by decide)) ?_
    refine Sg.go (pc' := 90) (mi_iald (n := 8) dX11_enable_89 rfl rfl (by omega) (by decide)) ?_
    refine Sg.go (pc' := 91) (mi_iconst (z := 1) dX11_enable_90 rfl) ?_
    refine Sg.go (pc' := 92) (mi_iadd dX11_enable_91) ?_
    refine Sg.goM (pc' := 93) (mi_iast (n := 8) dX11_enable_92 rfl rfl (by omega) (by decide)) ?_
    refine Sg.letD (fun D8 hD8 => ?_)
    refine Sg.go (pc' := 94) (mi_aload_n dX11_enable_93 rfl) ?_
    refine Sg.go (pc' := 97) (mi_gfA (t := 49) (v := 0) (r := 40) (k := 14) dX11_enable_94 hC_40 (by decide) rfl wF_X11_34 (by omega) rfl (hL.1 14 (by decide))) ?_
    refine Sg.go (pc' := 98) (mi_iload_n dX11_enable_97 rfl) ?_
    refine Sg.go (pc' := 99) (mi_dup2 dX11_enable_98 (show (0 : Nat) ≠ 1 by decide) (show (51 : Nat) ≠ 1 by decide)) ?_
    refine Sg.ck (fun hk9 => ?_)
    refine Sg.go (pc' := 100) (mi_iald (n := 8) dX11_enable_99 rfl rfl (by omega) hk9) ?_
    refine Sg.go (pc' := 101) (mi_iconst (z := 1) dX11_enable_100 rfl) ?_
    refine Sg.go (pc' := 102) (mi_iadd dX11_enable_101) ?_
    refine Sg.goM (pc' := 103) (mi_iast (n := 8) dX11_enable_102 rfl rfl (by omega) hk9) ?_
    refine Sg.letD (fun D10 hD10 => ?_)
    refine Sg.go (pc' := 104) (mi_aload_n dX11_enable_103 rfl) ?_
    refine Sg.go (pc' := 105) (mi_iload_n dX11_enable_104 rfl) ?_
    refine Sg.go (pc' := 106) (mi_iconst (z := 1) dX11_enable_105 rfl) ?_
    refine Sg.callV (pc' := 109) (μ' := m_X11_turns) (args := [(42, 0), (0, v1), (0, 1)]) (mi_invV (n := 2) (r := 40) dX11_enable_106 hC_40 (by omega) rfl rfl wN_X11_turns rfl ⟨by decide, by decide⟩ wL_X11_395 wI_X11_turns wS_X11_turns wB_X11 wC_X11_turns) (fun v hv => C_X11_turns hL v1 1 D10 v hv) (Nat.le_of_ble_eq_true rfl) rfl rfl (fun D11 => ?_)
    refine Sg.go (pc' := 110) (mi_aload_n dX11_enable_109 rfl) ?_
    refine Sg.callI (pc' := 113) (t := 0) (μ' := m_X11_leftToTurn) (args := [(42, 0)]) (mi_invV (n := 0) (r := 40) dX11_enable_110 hC_40 (by omega) rfl rfl wN_X11_leftToTurn rfl ⟨by decide, by decide⟩ wL_X11_377 wI_X11_leftToTurn wS_X11_leftToTurn wB_X11 wC_X11_leftToTurn) (fun v hv => C_X11_leftToTurn hL D11 v hv) (Nat.le_of_ble_eq_true rfl) rfl rfl (fun y12 => ?_)
    exact Sg.ret (mi_ireturn dX11_enable_113 rfl (Or.inl rfl))
  · refine Sg.go (pc' := 59) (mi_ifeq_f (tgt := 61) dX11_enable_56 (by decide) h4) ?_
    refine Sg.go (pc' := 60) (mi_iconst (z := 0) dX11_enable_59 rfl) ?_
    exact Sg.ret (mi_ireturn dX11_enable_60 rfl (Or.inl rfl))
def B_X11_enable_46 (v1 : Int) (D : MiD) : Option (Int × MiD) := B_X11_enable_51 v1 1 D
set_option maxRecDepth 20000 in
theorem S_X11_enable_46 {Z : MiZ} (hL : ML Z) (v1 : Int) (D : MiD) : Sg m_X11_enable 46 [(42, 0), (0, v1)] [(42, 0)] (D, Z) (mi_LD 0 Z) (B_X11_enable_46 v1 D) := by
  unfold B_X11_enable_46
  refine Sg.go (pc' := 47) (mi_iconst (z := 1) dX11_enable_46 rfl) ?_
  refine Sg.go (pc' := 51) (mi_goto (tgt := 51) dX11_enable_47 (by decide)) ?_
  exact S_X11_enable_51 hL v1 1 D
def B_X11_enable_19 (v1 : Int) (s1 : Int) (D : MiD) : Option (Int × MiD) := if s1 = 0 ∨ s1 = 1 then (mi_b2 (B_X11_bad s1 1 0 D) fun y2 D3 => if y2 ≠ 0 then (some (0, D3)) else (mi_bi (B_X11_isStacked D3 v1) fun y5 => if y5 ≠ 0 then (B_X11_enable_46 v1 D3) else (if (D3 65 0 1) = (-1) then (B_X11_enable_51 v1 0 D3) else (B_X11_enable_46 v1 D3)))) else none
set_option maxRecDepth 20000 in
theorem S_X11_enable_19 {Z : MiZ} (hL : ML Z) (v1 s1 : Int) (D : MiD) : Sg m_X11_enable 19 [(42, 0), (0, v1)] [(0, s1), (42, 0)] (D, Z) (mi_LD 0 Z) (B_X11_enable_19 v1 s1 D) := by
  unfold B_X11_enable_19
  refine Sg.go (pc' := 20) (mi_iconst (z := 1) dX11_enable_19 rfl) ?_
  refine Sg.go (pc' := 21) (mi_iconst (z := 0) dX11_enable_20 rfl) ?_
  refine Sg.ck (fun hk1 => ?_)
  refine Sg.callD (pc' := 24) (t := 0) (μ' := m_X11_bad) (args := [(42, 0), (0, s1), (0, 1), (0, 0)]) (mi_invV (n := 3) (r := 40) dX11_enable_21 hC_40 (by omega) rfl rfl wN_X11_bad rfl ⟨by decide, by decide⟩ wL_X11_229 wI_X11_bad wS_X11_bad wB_X11 wC_X11_bad) (fun v hv => C_X11_bad hL s1 1 0 D (hk1) v hv) (Nat.le_of_ble_eq_true rfl) rfl rfl (fun y2 D3 => ?_)
  refine Sg.ite (fun h4 => ?_) (fun h4 => ?_)
  · refine Sg.go (pc' := 59) (mi_ifne_t (tgt := 59) dX11_enable_24 (by decide) h4) ?_
    refine Sg.go (pc' := 60) (mi_iconst (z := 0) dX11_enable_59 rfl) ?_
    exact Sg.ret (mi_ireturn dX11_enable_60 rfl (Or.inl rfl))
  · refine Sg.go (pc' := 27) (mi_ifne_f (tgt := 59) dX11_enable_24 (by decide) h4) ?_
    refine Sg.go (pc' := 28) (mi_aload_n dX11_enable_27 rfl) ?_
    refine Sg.go (pc' := 29) (mi_aload_n dX11_enable_28 rfl) ?_
    refine Sg.go (pc' := 30) (mi_iload_n dX11_enable_29 rfl) ?_
    refine Sg.callI (pc' := 33) (t := 0) (μ' := m_X11_isStacked) (args := [(42, 0), (0, v1)]) (mi_invV (n := 1) (r := 40) dX11_enable_30 hC_40 (by omega) rfl rfl wN_X11_isStacked rfl ⟨by decide, by decide⟩ wL_X11_392 wI_X11_isStacked wS_X11_isStacked wB_X11 wC_X11_isStacked) (fun v hv => C_X11_isStacked hL v1 D3 v hv) (Nat.le_of_ble_eq_true rfl) rfl rfl (fun y5 => ?_)
    refine Sg.ite (fun h6 => ?_) (fun h6 => ?_)
    · refine Sg.go (pc' := 46) (mi_ifne_t (tgt := 46) dX11_enable_33 (by decide) h6) ?_
      exact S_X11_enable_46 hL v1 D3
    · refine Sg.go (pc' := 36) (mi_ifne_f (tgt := 46) dX11_enable_33 (by decide) h6) ?_
      refine Sg.go (pc' := 37) (mi_aload_n dX11_enable_36 rfl) ?_
      refine Sg.go (pc' := 40) (mi_gfA (t := 65) (v := 0) (r := 40) (k := 24) dX11_enable_37 hC_40 (by decide) rfl wF_X11_69 (by omega) rfl (hL.1 24 (by decide))) ?_
      refine Sg.go (pc' := 41) (mi_iconst (z := 1) dX11_enable_40 rfl) ?_
      refine Sg.go (pc' := 42) (mi_iald (n := 8) dX11_enable_41 rfl rfl (by omega) (by decide)) ?_
      refine Sg.go (pc' := 43) (mi_iconst (z := (-1)) dX11_enable_42 rfl) ?_
      refine Sg.ite (fun h7 => ?_) (fun h7 => ?_)
      · refine Sg.go (pc' := 50) (mi_icmpeq_t (tgt := 50) dX11_enable_43 (by decide) h7) ?_
        refine Sg.go (pc' := 51) (mi_iconst (z := 0) dX11_enable_50 rfl) ?_
        exact S_X11_enable_51 hL v1 0 D3
      · refine Sg.go (pc' := 46) (mi_icmpeq_f (tgt := 50) dX11_enable_43 (by decide) h7) ?_
        exact S_X11_enable_46 hL v1 D3
def B_X11_enable (v1 : Int) (D : MiD) : Option (Int × MiD) := mi_let (mi_st D 40 0 0 0) fun D1 => mi_bi (B_X11_isPatch D1 v1) fun y2 => if y2 ≠ 0 then (B_X11_enable_19 v1 0 D1) else (B_X11_enable_19 v1 1 D1)
set_option maxRecDepth 20000 in
theorem S_X11_enable {Z : MiZ} (hL : ML Z) (v1 : Int) (D : MiD) : Sg m_X11_enable 0 [(42, 0), (0, v1)] [] (D, Z) (mi_LD 0 Z) (B_X11_enable v1 D) := by
  unfold B_X11_enable
  refine Sg.go (pc' := 1) (mi_aload_n dX11_enable_0 rfl) ?_
  refine Sg.go (pc' := 2) (mi_iconst (z := 0) dX11_enable_1 rfl) ?_
  refine Sg.goM (pc' := 5) (mi_pfD (r := 40) (k := 0) (t := 0) dX11_enable_2 hC_40 (by decide) rfl rfl wF_X11_78 (by omega) rfl (by decide) (Or.inl ⟨rfl, rfl⟩)) ?_
  refine Sg.letD (fun D1 hD1 => ?_)
  refine Sg.go (pc' := 6) (mi_aload_n dX11_enable_5 rfl) ?_
  refine Sg.go (pc' := 7) (mi_aload_n dX11_enable_6 rfl) ?_
  refine Sg.go (pc' := 8) (mi_iload_n dX11_enable_7 rfl) ?_
  refine Sg.callI (pc' := 11) (t := 0) (μ' := m_X11_isPatch) (args := [(42, 0), (0, v1)]) (mi_invV (n := 1) (r := 40) dX11_enable_8 hC_40 (by omega) rfl rfl wN_X11_isPatch rfl ⟨by decide, by decide⟩ wL_X11_389 wI_X11_isPatch wS_X11_isPatch wB_X11 wC_X11_isPatch) (fun v hv => C_X11_isPatch hL v1 D1 v hv) (Nat.le_of_ble_eq_true rfl) rfl rfl (fun y2 => ?_)
  refine Sg.ite (fun h3 => ?_) (fun h3 => ?_)
  · refine Sg.go (pc' := 18) (mi_ifne_t (tgt := 18) dX11_enable_11 (by decide) h3) ?_
    refine Sg.go (pc' := 19) (mi_iconst (z := 0) dX11_enable_18 rfl) ?_
    exact S_X11_enable_19 hL v1 0 D1
  · refine Sg.go (pc' := 14) (mi_ifne_f (tgt := 18) dX11_enable_11 (by decide) h3) ?_
    refine Sg.go (pc' := 15) (mi_iconst (z := 1) dX11_enable_14 rfl) ?_
    refine Sg.go (pc' := 19) (mi_goto (tgt := 19) dX11_enable_15 (by decide)) ?_
    exact S_X11_enable_19 hL v1 1 D1
theorem C_X11_enable {Z : MiZ} (hL : ML Z) (a1 : Int) (D : MiD) (b : Int × MiD) (hb : B_X11_enable a1 D = some b) : MC m_X11_enable [(42, 0), (0, a1)] (D, Z) ((mi_LD 0 Z) b) := MC.ofSg (L := (mi_LD 0 Z)) (μ := m_X11_enable) (args := [(42, 0), (0, a1)]) (M := (D, Z)) rfl wP_X11 (Nat.le_of_ble_eq_true rfl) (show Sg m_X11_enable 0 [(42, 0), (0, a1)] [] (D, Z) (mi_LD 0 Z) (B_X11_enable a1 D) from S_X11_enable hL a1 D) hb
abbrev m_X11_go : MiI := (yX11_go, cX11_go, 4, (some .int), 11, none)
def B_X11_go_41 : Nat → Int → Int → Int → MiD → Option (Int × MiD)
  | 0, _, _, _, _ => none
  | f + 1, v1, v2, v3, D => if v1 ≤ v3 then (some ((mi_w ((D 65 0 6) - v2)), D)) else (mi_bi (B_X11_tick D) fun D2 => B_X11_go_41 f v1 v2 (mi_w (v3 + 1)) D2)
set_option maxRecDepth 20000 in
theorem S_X11_go_41 {Z : MiZ} (hL : ML Z) : ∀ (f : Nat) (v1 v2 v3 : Int) (D : MiD), Sg m_X11_go 41 [(42, 0), (0, v1), (0, v2), (0, v3)] [] (D, Z) (mi_LD 0 Z) (B_X11_go_41 f v1 v2 v3 D) := by
  intro f
  induction f with
  | zero => intros; exact Sg.nope
  | succ f K41 =>
    intro v1 v2 v3 D
    show Sg m_X11_go 41 [(42, 0), (0, v1), (0, v2), (0, v3)] [] (D, Z) (mi_LD 0 Z) (if v1 ≤ v3 then (some ((mi_w ((D 65 0 6) - v2)), D)) else (mi_bi (B_X11_tick D) fun D2 => B_X11_go_41 f v1 v2 (mi_w (v3 + 1)) D2))
    refine Sg.go (pc' := 42) (mi_iload_n dX11_go_41 rfl) ?_
    refine Sg.go (pc' := 43) (mi_iload_n dX11_go_42 rfl) ?_
    refine Sg.ite (fun h1 => ?_) (fun h1 => ?_)
    · refine Sg.go (pc' := 56) (mi_icmpge_t (tgt := 56) dX11_go_43 (by decide) h1) ?_
      refine Sg.go (pc' := 57) (mi_aload_n dX11_go_56 rfl) ?_
      refine Sg.go (pc' := 60) (mi_gfA (t := 65) (v := 0) (r := 40) (k := 24) dX11_go_57 hC_40 (by decide) rfl wF_X11_69 (by omega) rfl (hL.1 24 (by decide))) ?_
      refine Sg.go (pc' := 62) (mi_bipush (z := 6) dX11_go_60 rfl) ?_
      refine Sg.go (pc' := 63) (mi_iald (n := 8) dX11_go_62 rfl rfl (by omega) (by decide)) ?_
      refine Sg.go (pc' := 64) (mi_iload_n dX11_go_63 rfl) ?_
      refine Sg.go (pc' := 65) (mi_isub dX11_go_64) ?_
      exact Sg.ret (mi_ireturn dX11_go_65 rfl (Or.inl rfl))
    · refine Sg.go (pc' := 46) (mi_icmpge_f (tgt := 56) dX11_go_43 (by decide) h1) ?_
      refine Sg.go (pc' := 47) (mi_aload_n dX11_go_46 rfl) ?_
      refine Sg.callV (pc' := 50) (μ' := m_X11_tick) (args := [(42, 0)]) (mi_invV (n := 0) (r := 40) dX11_go_47 hC_40 (by omega) rfl rfl wN_X11_tick rfl ⟨by decide, by decide⟩ wL_X11_404 wI_X11_tick wS_X11_tick wB_X11 wC_X11_tick) (fun v hv => C_X11_tick hL D v hv) (Nat.le_of_ble_eq_true rfl) rfl rfl (fun D2 => ?_)
      refine Sg.go (pc' := 53) (mi_iinc (z := 1) (ls1 := [(42, 0), (0, v1), (0, v2), (0, (mi_w (v3 + 1)))]) dX11_go_50 (by decide) rfl rfl rfl) ?_
      refine Sg.go (pc' := 41) (mi_goto (tgt := 41) dX11_go_53 (by decide)) ?_
      exact K41 v1 v2 (mi_w (v3 + 1)) D2
def B_X11_go_21 (v1 : Int) (s1 : Int) (D : MiD) : Option (Int × MiD) := if s1 = 0 ∨ s1 = 1 then (mi_b2 (B_X11_bad s1 1 1 D) fun y2 D3 => if y2 = 0 then (B_X11_go_41 mi_fuel v1 (D3 65 0 6) 0 D3) else (some (0, D3))) else none
set_option maxRecDepth 20000 in
theorem S_X11_go_21 {Z : MiZ} (hL : ML Z) (v1 s1 : Int) (D : MiD) : Sg m_X11_go 21 [(42, 0), (0, v1), mi_un, mi_un] [(0, s1), (42, 0)] (D, Z) (mi_LD 0 Z) (B_X11_go_21 v1 s1 D) := by
  unfold B_X11_go_21
  refine Sg.go (pc' := 22) (mi_iconst (z := 1) dX11_go_21 rfl) ?_
  refine Sg.go (pc' := 23) (mi_iconst (z := 1) dX11_go_22 rfl) ?_
  refine Sg.ck (fun hk1 => ?_)
  refine Sg.callD (pc' := 26) (t := 0) (μ' := m_X11_bad) (args := [(42, 0), (0, s1), (0, 1), (0, 1)]) (mi_invV (n := 3) (r := 40) dX11_go_23 hC_40 (by omega) rfl rfl wN_X11_bad rfl ⟨by decide, by decide⟩ wL_X11_229 wI_X11_bad wS_X11_bad wB_X11 wC_X11_bad) (fun v hv => C_X11_bad hL s1 1 1 D (hk1) v hv) (Nat.le_of_ble_eq_true rfl) rfl rfl (fun y2 D3 => ?_)
  refine Sg.ite (fun h4 => ?_) (fun h4 => ?_)
  · refine Sg.go (pc' := 31) (mi_ifeq_t (tgt := 31) dX11_go_26 (by decide) h4) ?_
    refine Sg.go (pc' := 32) (mi_aload_n dX11_go_31 rfl) ?_
    refine Sg.go (pc' := 35) (mi_gfA (t := 65) (v := 0) (r := 40) (k := 24) dX11_go_32 hC_40 (by decide) rfl wF_X11_69 (by omega) rfl (hL.1 24 (by decide))) ?_
    refine Sg.go (pc' := 37) (mi_bipush (z := 6) dX11_go_35 rfl) ?_
    refine Sg.go (pc' := 38) (mi_iald (n := 8) dX11_go_37 rfl rfl (by omega) (by decide)) ?_
    refine Sg.go (pc' := 39) (mi_istore_n (ls1 := [(42, 0), (0, v1), (0, (D3 65 0 6)), mi_un]) dX11_go_38 (by decide) rfl) ?_
    refine Sg.go (pc' := 40) (mi_iconst (z := 0) dX11_go_39 rfl) ?_
    refine Sg.go (pc' := 41) (mi_istore_n (ls1 := [(42, 0), (0, v1), (0, (D3 65 0 6)), (0, 0)]) dX11_go_40 (by decide) rfl) ?_
    exact S_X11_go_41 hL mi_fuel v1 (D3 65 0 6) 0 D3
  · refine Sg.go (pc' := 29) (mi_ifeq_f (tgt := 31) dX11_go_26 (by decide) h4) ?_
    refine Sg.go (pc' := 30) (mi_iconst (z := 0) dX11_go_29 rfl) ?_
    exact Sg.ret (mi_ireturn dX11_go_30 rfl (Or.inl rfl))
def B_X11_go (v1 : Int) (D : MiD) : Option (Int × MiD) := mi_let (mi_st D 40 0 0 0) fun D1 => if (B_X11_in v1 1 60) ≠ 0 then (B_X11_go_21 v1 0 D1) else (B_X11_go_21 v1 1 D1)
set_option maxRecDepth 20000 in
theorem S_X11_go {Z : MiZ} (hL : ML Z) (v1 : Int) (D : MiD) : Sg m_X11_go 0 [(42, 0), (0, v1), mi_un, mi_un] [] (D, Z) (mi_LD 0 Z) (B_X11_go v1 D) := by
  unfold B_X11_go
  refine Sg.go (pc' := 1) (mi_aload_n dX11_go_0 rfl) ?_
  refine Sg.go (pc' := 2) (mi_iconst (z := 0) dX11_go_1 rfl) ?_
  refine Sg.goM (pc' := 5) (mi_pfD (r := 40) (k := 0) (t := 0) dX11_go_2 hC_40 (by decide) rfl rfl wF_X11_78 (by omega) rfl (by decide) (Or.inl ⟨rfl, rfl⟩)) ?_
  refine Sg.letD (fun D1 hD1 => ?_)
  refine Sg.go (pc' := 6) (mi_aload_n dX11_go_5 rfl) ?_
  refine Sg.go (pc' := 7) (mi_iload_n dX11_go_6 rfl) ?_
  refine Sg.go (pc' := 8) (mi_iconst (z := 1) dX11_go_7 rfl) ?_
  refine Sg.go (pc' := 10) (mi_bipush (z := 60) dX11_go_8 rfl) ?_
  refine Sg.callP (pc' := 13) (t := 0) (v := (B_X11_in v1 1 60)) (μ' := m_X11_in) (args := [(0, v1), (0, 1), (0, 60)]) (mi_invS (n := 3) dX11_go_10 rfl wN_X11_in rfl ⟨by decide, by decide⟩ wL_X11_121 wT_X11_in wB_X11 wC_X11_in) (C_X11_in hL v1 1 60 D1) (Nat.le_of_ble_eq_true rfl) rfl rfl ?_
  refine Sg.ite (fun h2 => ?_) (fun h2 => ?_)
  · refine Sg.go (pc' := 20) (mi_ifne_t (tgt := 20) dX11_go_13 (by decide) h2) ?_
    refine Sg.go (pc' := 21) (mi_iconst (z := 0) dX11_go_20 rfl) ?_
    exact S_X11_go_21 hL v1 0 D1
  · refine Sg.go (pc' := 16) (mi_ifne_f (tgt := 20) dX11_go_13 (by decide) h2) ?_
    refine Sg.go (pc' := 17) (mi_iconst (z := 1) dX11_go_16 rfl) ?_
    refine Sg.go (pc' := 21) (mi_goto (tgt := 21) dX11_go_17 (by decide)) ?_
    exact S_X11_go_21 hL v1 1 D1
theorem C_X11_go {Z : MiZ} (hL : ML Z) (a1 : Int) (D : MiD) (b : Int × MiD) (hb : B_X11_go a1 D = some b) : MC m_X11_go [(42, 0), (0, a1)] (D, Z) ((mi_LD 0 Z) b) := MC.ofSg (L := (mi_LD 0 Z)) (μ := m_X11_go) (args := [(42, 0), (0, a1)]) (M := (D, Z)) rfl wP_X11 (Nat.le_of_ble_eq_true rfl) (show Sg m_X11_go 0 [(42, 0), (0, a1), mi_un, mi_un] [] (D, Z) (mi_LD 0 Z) (B_X11_go a1 D) from S_X11_go hL a1 D) hb
abbrev m_X11_waits : MiI := (yX11_waits, cX11_waits, 3, (some .int), 11, none)
def B_X11_waits_65 (v1 : Int) (s0 : Int) (D : MiD) : Option (Int × MiD) := mi_bi (B_X11_laysAll 1 D) fun D1 => if s0 = 0 then (some ((-1), D1)) else (some (v1, D1))
set_option maxRecDepth 20000 in
theorem S_X11_waits_65 {Z : MiZ} (hL : ML Z) (v1 s0 : Int) (D : MiD) : Sg m_X11_waits 65 [(42, 0), (0, v1), mi_un] [(0, s0)] (D, Z) (mi_LD 0 Z) (B_X11_waits_65 v1 s0 D) := by
  unfold B_X11_waits_65
  refine Sg.go (pc' := 66) (mi_istore_n (ls1 := [(42, 0), (0, v1), (0, s0)]) dX11_waits_65 (by decide) rfl) ?_
  refine Sg.go (pc' := 67) (mi_aload_n dX11_waits_66 rfl) ?_
  refine Sg.go (pc' := 68) (mi_iconst (z := 1) dX11_waits_67 rfl) ?_
  refine Sg.callV (pc' := 71) (μ' := m_X11_laysAll) (args := [(42, 0), (0, 1)]) (mi_invV (n := 1) (r := 40) dX11_waits_68 hC_40 (by omega) rfl rfl wN_X11_laysAll rfl ⟨by decide, by decide⟩ wL_X11_437 wI_X11_laysAll wS_X11_laysAll wB_X11 wC_X11_laysAll) (fun v hv => C_X11_laysAll hL 1 D (Or.inr rfl) v hv) (Nat.le_of_ble_eq_true rfl) rfl rfl (fun D1 => ?_)
  refine Sg.go (pc' := 72) (mi_iload_n dX11_waits_71 rfl) ?_
  refine Sg.ite (fun h2 => ?_) (fun h2 => ?_)
  · refine Sg.go (pc' := 79) (mi_ifeq_t (tgt := 79) dX11_waits_72 (by decide) h2) ?_
    refine Sg.go (pc' := 80) (mi_iconst (z := (-1)) dX11_waits_79 rfl) ?_
    exact Sg.ret (mi_ireturn dX11_waits_80 rfl (Or.inl rfl))
  · refine Sg.go (pc' := 75) (mi_ifeq_f (tgt := 79) dX11_waits_72 (by decide) h2) ?_
    refine Sg.go (pc' := 76) (mi_iload_n dX11_waits_75 rfl) ?_
    refine Sg.go (pc' := 80) (mi_goto (tgt := 80) dX11_waits_76 (by decide)) ?_
    exact Sg.ret (mi_ireturn dX11_waits_80 rfl (Or.inl rfl))
def B_X11_waits_50 (v1 : Int) (D : MiD) : Option (Int × MiD) := if (D 65 0 1) ≠ (-1) then (B_X11_waits_65 v1 0 D) else (B_X11_waits_65 v1 1 D)
set_option maxRecDepth 20000 in
theorem S_X11_waits_50 {Z : MiZ} (hL : ML Z) (v1 : Int) (D : MiD) : Sg m_X11_waits 50 [(42, 0), (0, v1), mi_un] [] (D, Z) (mi_LD 0 Z) (B_X11_waits_50 v1 D) := by
  unfold B_X11_waits_50
  refine Sg.go (pc' := 51) (mi_aload_n dX11_waits_50 rfl) ?_
  refine Sg.go (pc' := 54) (mi_gfA (t := 65) (v := 0) (r := 40) (k := 24) dX11_waits_51 hC_40 (by decide) rfl wF_X11_69 (by omega) rfl (hL.1 24 (by decide))) ?_
  refine Sg.go (pc' := 55) (mi_iconst (z := 1) dX11_waits_54 rfl) ?_
  refine Sg.go (pc' := 56) (mi_iald (n := 8) dX11_waits_55 rfl rfl (by omega) (by decide)) ?_
  refine Sg.go (pc' := 57) (mi_iconst (z := (-1)) dX11_waits_56 rfl) ?_
  refine Sg.ite (fun h1 => ?_) (fun h1 => ?_)
  · refine Sg.go (pc' := 64) (mi_icmpne_t (tgt := 64) dX11_waits_57 (by decide) h1) ?_
    refine Sg.go (pc' := 65) (mi_iconst (z := 0) dX11_waits_64 rfl) ?_
    exact S_X11_waits_65 hL v1 0 D
  · refine Sg.go (pc' := 60) (mi_icmpne_f (tgt := 64) dX11_waits_57 (by decide) h1) ?_
    refine Sg.go (pc' := 61) (mi_iconst (z := 1) dX11_waits_60 rfl) ?_
    refine Sg.go (pc' := 65) (mi_goto (tgt := 65) dX11_waits_61 (by decide)) ?_
    exact S_X11_waits_65 hL v1 1 D
def B_X11_waits_24 : Nat → Int → MiD → Option (Int × MiD)
  | 0, _, _ => none
  | f + 1, v1, D => if 60 ≤ v1 then (B_X11_waits_50 v1 D) else (if (D 65 0 1) = (-1) then (B_X11_waits_50 v1 D) else (mi_bi (B_X11_tick D) fun D3 => B_X11_waits_24 f (mi_w (v1 + 1)) D3))
set_option maxRecDepth 20000 in
theorem S_X11_waits_24 {Z : MiZ} (hL : ML Z) : ∀ (f : Nat) (v1 : Int) (D : MiD), Sg m_X11_waits 24 [(42, 0), (0, v1), mi_un] [] (D, Z) (mi_LD 0 Z) (B_X11_waits_24 f v1 D) := by
  intro f
  induction f with
  | zero => intros; exact Sg.nope
  | succ f K24 =>
    intro v1 D
    show Sg m_X11_waits 24 [(42, 0), (0, v1), mi_un] [] (D, Z) (mi_LD 0 Z) (if 60 ≤ v1 then (B_X11_waits_50 v1 D) else (if (D 65 0 1) = (-1) then (B_X11_waits_50 v1 D) else (mi_bi (B_X11_tick D) fun D3 => B_X11_waits_24 f (mi_w (v1 + 1)) D3)))
    refine Sg.go (pc' := 25) (mi_iload_n dX11_waits_24 rfl) ?_
    refine Sg.go (pc' := 27) (mi_bipush (z := 60) dX11_waits_25 rfl) ?_
    refine Sg.ite (fun h1 => ?_) (fun h1 => ?_)
    · refine Sg.go (pc' := 50) (mi_icmpge_t (tgt := 50) dX11_waits_27 (by decide) h1) ?_
      exact S_X11_waits_50 hL v1 D
    · refine Sg.go (pc' := 30) (mi_icmpge_f (tgt := 50) dX11_waits_27 (by decide) h1) ?_
      refine Sg.go (pc' := 31) (mi_aload_n dX11_waits_30 rfl) ?_
      refine Sg.go (pc' := 34) (mi_gfA (t := 65) (v := 0) (r := 40) (k := 24) dX11_waits_31 hC_40 (by decide) rfl wF_X11_69 (by omega) rfl (hL.1 24 (by decide))) ?_
      refine Sg.go (pc' := 35) (mi_iconst (z := 1) dX11_waits_34 rfl) ?_
      refine Sg.go (pc' := 36) (mi_iald (n := 8) dX11_waits_35 rfl rfl (by omega) (by decide)) ?_
      refine Sg.go (pc' := 37) (mi_iconst (z := (-1)) dX11_waits_36 rfl) ?_
      refine Sg.ite (fun h2 => ?_) (fun h2 => ?_)
      · refine Sg.go (pc' := 50) (mi_icmpeq_t (tgt := 50) dX11_waits_37 (by decide) h2) ?_
        exact S_X11_waits_50 hL v1 D
      · refine Sg.go (pc' := 40) (mi_icmpeq_f (tgt := 50) dX11_waits_37 (by decide) h2) ?_
        refine Sg.go (pc' := 41) (mi_aload_n dX11_waits_40 rfl) ?_
        refine Sg.callV (pc' := 44) (μ' := m_X11_tick) (args := [(42, 0)]) (mi_invV (n := 0) (r := 40) dX11_waits_41 hC_40 (by omega) rfl rfl wN_X11_tick rfl ⟨by decide, by decide⟩ wL_X11_404 wI_X11_tick wS_X11_tick wB_X11 wC_X11_tick) (fun v hv => C_X11_tick hL D v hv) (Nat.le_of_ble_eq_true rfl) rfl rfl (fun D3 => ?_)
        refine Sg.go (pc' := 47) (mi_iinc (z := 1) (ls1 := [(42, 0), (0, (mi_w (v1 + 1))), mi_un]) dX11_waits_44 (by decide) rfl rfl rfl) ?_
        refine Sg.go (pc' := 24) (mi_goto (tgt := 24) dX11_waits_47 (by decide)) ?_
        exact K24 (mi_w (v1 + 1)) D3
def B_X11_waits (D : MiD) : Option (Int × MiD) := mi_let (mi_st D 40 0 0 0) fun D1 => if (D1 65 0 1) ≠ (-1) then (mi_bi (B_X11_laysAll 0 D1) fun D3 => B_X11_waits_24 mi_fuel 0 D3) else (some (0, D1))
set_option maxRecDepth 20000 in
theorem S_X11_waits {Z : MiZ} (hL : ML Z) (D : MiD) : Sg m_X11_waits 0 [(42, 0), mi_un, mi_un] [] (D, Z) (mi_LD 0 Z) (B_X11_waits D) := by
  unfold B_X11_waits
  refine Sg.go (pc' := 1) (mi_aload_n dX11_waits_0 rfl) ?_
  refine Sg.go (pc' := 2) (mi_iconst (z := 0) dX11_waits_1 rfl) ?_
  refine Sg.goM (pc' := 5) (mi_pfD (r := 40) (k := 0) (t := 0) dX11_waits_2 hC_40 (by decide) rfl rfl wF_X11_78 (by omega) rfl (by decide) (Or.inl ⟨rfl, rfl⟩)) ?_
  refine Sg.letD (fun D1 hD1 => ?_)
  refine Sg.go (pc' := 6) (mi_aload_n dX11_waits_5 rfl) ?_
  refine Sg.go (pc' := 9) (mi_gfA (t := 65) (v := 0) (r := 40) (k := 24) dX11_waits_6 hC_40 (by decide) rfl wF_X11_69 (by omega) rfl (hL.1 24 (by decide))) ?_
  refine Sg.go (pc' := 10) (mi_iconst (z := 1) dX11_waits_9 rfl) ?_
  refine Sg.go (pc' := 11) (mi_iald (n := 8) dX11_waits_10 rfl rfl (by omega) (by decide)) ?_
  refine Sg.go (pc' := 12) (mi_iconst (z := (-1)) dX11_waits_11 rfl) ?_
  refine Sg.ite (fun h2 => ?_) (fun h2 => ?_)
  · refine Sg.go (pc' := 17) (mi_icmpne_t (tgt := 17) dX11_waits_12 (by decide) h2) ?_
    refine Sg.go (pc' := 18) (mi_aload_n dX11_waits_17 rfl) ?_
    refine Sg.go (pc' := 19) (mi_iconst (z := 0) dX11_waits_18 rfl) ?_
    refine Sg.callV (pc' := 22) (μ' := m_X11_laysAll) (args := [(42, 0), (0, 0)]) (mi_invV (n := 1) (r := 40) dX11_waits_19 hC_40 (by omega) rfl rfl wN_X11_laysAll rfl ⟨by decide, by decide⟩ wL_X11_437 wI_X11_laysAll wS_X11_laysAll wB_X11 wC_X11_laysAll) (fun v hv => C_X11_laysAll hL 0 D1 (Or.inl rfl) v hv) (Nat.le_of_ble_eq_true rfl) rfl rfl (fun D3 => ?_)
    refine Sg.go (pc' := 23) (mi_iconst (z := 0) dX11_waits_22 rfl) ?_
    refine Sg.go (pc' := 24) (mi_istore_n (ls1 := [(42, 0), (0, 0), mi_un]) dX11_waits_23 (by decide) rfl) ?_
    exact S_X11_waits_24 hL mi_fuel 0 D3
  · refine Sg.go (pc' := 15) (mi_icmpne_f (tgt := 17) dX11_waits_12 (by decide) h2) ?_
    refine Sg.go (pc' := 16) (mi_iconst (z := 0) dX11_waits_15 rfl) ?_
    exact Sg.ret (mi_ireturn dX11_waits_16 rfl (Or.inl rfl))
theorem C_X11_waits {Z : MiZ} (hL : ML Z) (D : MiD) (b : Int × MiD) (hb : B_X11_waits D = some b) : MC m_X11_waits [(42, 0)] (D, Z) ((mi_LD 0 Z) b) := MC.ofSg (L := (mi_LD 0 Z)) (μ := m_X11_waits) (args := [(42, 0)]) (M := (D, Z)) rfl wP_X11 (Nat.le_of_ble_eq_true rfl) (show Sg m_X11_waits 0 [(42, 0), mi_un, mi_un] [] (D, Z) (mi_LD 0 Z) (B_X11_waits D) from S_X11_waits hL D) hb
