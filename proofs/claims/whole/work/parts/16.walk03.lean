abbrev m_X11_widens : MiI := (yX11_widens, cX11_widens, 2, (some .boolean), 2, none)
def B_X11_widens_63 : Int := 1
set_option maxRecDepth 20000 in
theorem S_X11_widens_63 {D : MiD} {Z : MiZ} (hL : ML Z) : Sg m_X11_widens 63 [mi_un, mi_un] [] (D, Z) (mi_LI 0 (D, Z)) (some (B_X11_widens_63)) := by
  unfold B_X11_widens_63
  refine Sg.go (pc' := 64) (mi_iconst (z := 1) dX11_widens_63 rfl) ?_
  refine Sg.go (pc' := 68) (mi_goto (tgt := 68) dX11_widens_64 (by decide)) ?_
  exact Sg.ret (mi_ireturn dX11_widens_68 rfl (Or.inr (Or.inl ⟨rfl, Or.inr rfl⟩)))
def B_X11_widens_69 (v1 : Int) : Int := (B_X11_in v1 4 7)
set_option maxRecDepth 20000 in
theorem S_X11_widens_69 {D : MiD} {Z : MiZ} (hL : ML Z) (v1 : Int) : Sg m_X11_widens 69 [mi_un, (0, v1)] [] (D, Z) (mi_LI 0 (D, Z)) (some (B_X11_widens_69 v1)) := by
  unfold B_X11_widens_69
  refine Sg.go (pc' := 70) (mi_iload_n dX11_widens_69 rfl) ?_
  refine Sg.go (pc' := 71) (mi_iconst (z := 4) dX11_widens_70 rfl) ?_
  refine Sg.go (pc' := 73) (mi_bipush (z := 7) dX11_widens_71 rfl) ?_
  refine Sg.callP (pc' := 76) (t := 0) (v := (B_X11_in v1 4 7)) (μ' := m_X11_in) (args := [(0, v1), (0, 4), (0, 7)]) (mi_invS (n := 3) dX11_widens_73 rfl wN_X11_in rfl ⟨by decide, by decide⟩ wL_X11_121 wT_X11_in wB_X11 wC_X11_in) (C_X11_in hL v1 4 7 D) (Nat.le_of_ble_eq_true rfl) rfl rfl ?_
  exact Sg.ret (mi_ireturn dX11_widens_76 rfl (Or.inr (Or.inl ⟨rfl, (by exact Z_X11_in)⟩)))
def B_X11_widens_97 : Int := 1
set_option maxRecDepth 20000 in
theorem S_X11_widens_97 {D : MiD} {Z : MiZ} (hL : ML Z) : Sg m_X11_widens 97 [mi_un, mi_un] [] (D, Z) (mi_LI 0 (D, Z)) (some (B_X11_widens_97)) := by
  unfold B_X11_widens_97
  refine Sg.go (pc' := 98) (mi_iconst (z := 1) dX11_widens_97 rfl) ?_
  refine Sg.go (pc' := 102) (mi_goto (tgt := 102) dX11_widens_98 (by decide)) ?_
  exact Sg.ret (mi_ireturn dX11_widens_102 rfl (Or.inr (Or.inl ⟨rfl, Or.inr rfl⟩)))
def B_X11_widens (v0 : Int) (v1 : Int) : Int := if v0 ≠ v1 then (if v0 = 1 then (if v1 = 3 then B_X11_widens_63 else (if (B_X11_in v1 4 7) = 0 then 0 else B_X11_widens_63)) else (if v0 = 2 then (B_X11_widens_69 v1) else (if v0 = 3 then (B_X11_widens_69 v1) else (if v0 = 4 then (B_X11_in v1 5 7) else (if v0 = 5 then (if v1 = 6 then B_X11_widens_97 else (if v1 ≠ 7 then 0 else B_X11_widens_97)) else (if v0 = 6 then (if v1 ≠ 7 then 0 else 1) else 0)))))) else 1
set_option maxRecDepth 20000 in
theorem S_X11_widens {D : MiD} {Z : MiZ} (hL : ML Z) (v0 v1 : Int) : Sg m_X11_widens 0 [(0, v0), (0, v1)] [] (D, Z) (mi_LI 0 (D, Z)) (some (B_X11_widens v0 v1)) := by
  unfold B_X11_widens
  refine Sg.go (pc' := 1) (mi_iload_n dX11_widens_0 rfl) ?_
  refine Sg.go (pc' := 2) (mi_iload_n dX11_widens_1 rfl) ?_
  refine Sg.iteS (fun h1 => ?_) (fun h1 => ?_)
  · refine Sg.go (pc' := 7) (mi_icmpne_t (tgt := 7) dX11_widens_2 (by decide) h1) ?_
    refine Sg.go (pc' := 8) (mi_iload_n dX11_widens_7 rfl) ?_
    refine Sg.iteS (fun h3 => ?_) (fun h3 => ?_)
    · refine Sg.go (pc' := 48) (mi_tabIn (tgt := 48) dX11_widens_8 (by omega) (by omega) (by rw [h3]; rfl) (by decide)) ?_
      refine Sg.go (pc' := 49) (mi_iload_n dX11_widens_48 rfl) ?_
      refine Sg.go (pc' := 50) (mi_iconst (z := 3) dX11_widens_49 rfl) ?_
      refine Sg.iteS (fun h4 => ?_) (fun h4 => ?_)
      · refine Sg.go (pc' := 63) (mi_icmpeq_t (tgt := 63) dX11_widens_50 (by decide) h4) ?_
        refine Sg.go (pc' := 63) (MiStep.weak (ls' := [mi_un, mi_un]) (mi_wk_n (mi_wk_n mi_wk_0))) ?_
        exact S_X11_widens_63 hL
      · refine Sg.go (pc' := 53) (mi_icmpeq_f (tgt := 63) dX11_widens_50 (by decide) h4) ?_
        refine Sg.go (pc' := 54) (mi_iload_n dX11_widens_53 rfl) ?_
        refine Sg.go (pc' := 55) (mi_iconst (z := 4) dX11_widens_54 rfl) ?_
        refine Sg.go (pc' := 57) (mi_bipush (z := 7) dX11_widens_55 rfl) ?_
        refine Sg.callP (pc' := 60) (t := 0) (v := (B_X11_in v1 4 7)) (μ' := m_X11_in) (args := [(0, v1), (0, 4), (0, 7)]) (mi_invS (n := 3) dX11_widens_57 rfl wN_X11_in rfl ⟨by decide, by decide⟩ wL_X11_121 wT_X11_in wB_X11 wC_X11_in) (C_X11_in hL v1 4 7 D) (Nat.le_of_ble_eq_true rfl) rfl rfl ?_
        refine Sg.iteS (fun h5 => ?_) (fun h5 => ?_)
        · refine Sg.go (pc' := 67) (mi_ifeq_t (tgt := 67) dX11_widens_60 (by decide) h5) ?_
          refine Sg.go (pc' := 68) (mi_iconst (z := 0) dX11_widens_67 rfl) ?_
          exact Sg.ret (mi_ireturn dX11_widens_68 rfl (Or.inr (Or.inl ⟨rfl, Or.inl rfl⟩)))
        · refine Sg.go (pc' := 63) (mi_ifeq_f (tgt := 67) dX11_widens_60 (by decide) h5) ?_
          refine Sg.go (pc' := 63) (MiStep.weak (ls' := [mi_un, mi_un]) (mi_wk_n (mi_wk_n mi_wk_0))) ?_
          exact S_X11_widens_63 hL
    · refine Sg.iteS (fun h6 => ?_) (fun h6 => ?_)
      · refine Sg.go (pc' := 69) (mi_tabIn (tgt := 69) dX11_widens_8 (by omega) (by omega) (by rw [h6]; rfl) (by decide)) ?_
        refine Sg.go (pc' := 69) (MiStep.weak (ls' := [mi_un, (0, v1)]) (mi_wk_n (mi_wk_y mi_wk_0))) ?_
        exact S_X11_widens_69 hL v1
      · refine Sg.iteS (fun h7 => ?_) (fun h7 => ?_)
        · refine Sg.go (pc' := 69) (mi_tabIn (tgt := 69) dX11_widens_8 (by omega) (by omega) (by rw [h7]; rfl) (by decide)) ?_
          refine Sg.go (pc' := 69) (MiStep.weak (ls' := [mi_un, (0, v1)]) (mi_wk_n (mi_wk_y mi_wk_0))) ?_
          exact S_X11_widens_69 hL v1
        · refine Sg.iteS (fun h8 => ?_) (fun h8 => ?_)
          · refine Sg.go (pc' := 77) (mi_tabIn (tgt := 77) dX11_widens_8 (by omega) (by omega) (by rw [h8]; rfl) (by decide)) ?_
            refine Sg.go (pc' := 78) (mi_iload_n dX11_widens_77 rfl) ?_
            refine Sg.go (pc' := 79) (mi_iconst (z := 5) dX11_widens_78 rfl) ?_
            refine Sg.go (pc' := 81) (mi_bipush (z := 7) dX11_widens_79 rfl) ?_
            refine Sg.callP (pc' := 84) (t := 0) (v := (B_X11_in v1 5 7)) (μ' := m_X11_in) (args := [(0, v1), (0, 5), (0, 7)]) (mi_invS (n := 3) dX11_widens_81 rfl wN_X11_in rfl ⟨by decide, by decide⟩ wL_X11_121 wT_X11_in wB_X11 wC_X11_in) (C_X11_in hL v1 5 7 D) (Nat.le_of_ble_eq_true rfl) rfl rfl ?_
            exact Sg.ret (mi_ireturn dX11_widens_84 rfl (Or.inr (Or.inl ⟨rfl, (by exact Z_X11_in)⟩)))
          · refine Sg.iteS (fun h9 => ?_) (fun h9 => ?_)
            · refine Sg.go (pc' := 85) (mi_tabIn (tgt := 85) dX11_widens_8 (by omega) (by omega) (by rw [h9]; rfl) (by decide)) ?_
              refine Sg.go (pc' := 86) (mi_iload_n dX11_widens_85 rfl) ?_
              refine Sg.go (pc' := 88) (mi_bipush (z := 6) dX11_widens_86 rfl) ?_
              refine Sg.iteS (fun h10 => ?_) (fun h10 => ?_)
              · refine Sg.go (pc' := 97) (mi_icmpeq_t (tgt := 97) dX11_widens_88 (by decide) h10) ?_
                refine Sg.go (pc' := 97) (MiStep.weak (ls' := [mi_un, mi_un]) (mi_wk_n (mi_wk_n mi_wk_0))) ?_
                exact S_X11_widens_97 hL
              · refine Sg.go (pc' := 91) (mi_icmpeq_f (tgt := 97) dX11_widens_88 (by decide) h10) ?_
                refine Sg.go (pc' := 92) (mi_iload_n dX11_widens_91 rfl) ?_
                refine Sg.go (pc' := 94) (mi_bipush (z := 7) dX11_widens_92 rfl) ?_
                refine Sg.iteS (fun h11 => ?_) (fun h11 => ?_)
                · refine Sg.go (pc' := 101) (mi_icmpne_t (tgt := 101) dX11_widens_94 (by decide) h11) ?_
                  refine Sg.go (pc' := 102) (mi_iconst (z := 0) dX11_widens_101 rfl) ?_
                  exact Sg.ret (mi_ireturn dX11_widens_102 rfl (Or.inr (Or.inl ⟨rfl, Or.inl rfl⟩)))
                · refine Sg.go (pc' := 97) (mi_icmpne_f (tgt := 101) dX11_widens_94 (by decide) h11) ?_
                  refine Sg.go (pc' := 97) (MiStep.weak (ls' := [mi_un, mi_un]) (mi_wk_n (mi_wk_n mi_wk_0))) ?_
                  exact S_X11_widens_97 hL
            · refine Sg.iteS (fun h12 => ?_) (fun h12 => ?_)
              · refine Sg.go (pc' := 103) (mi_tabIn (tgt := 103) dX11_widens_8 (by omega) (by omega) (by rw [h12]; rfl) (by decide)) ?_
                refine Sg.go (pc' := 104) (mi_iload_n dX11_widens_103 rfl) ?_
                refine Sg.go (pc' := 106) (mi_bipush (z := 7) dX11_widens_104 rfl) ?_
                refine Sg.iteS (fun h13 => ?_) (fun h13 => ?_)
                · refine Sg.go (pc' := 113) (mi_icmpne_t (tgt := 113) dX11_widens_106 (by decide) h13) ?_
                  refine Sg.go (pc' := 114) (mi_iconst (z := 0) dX11_widens_113 rfl) ?_
                  exact Sg.ret (mi_ireturn dX11_widens_114 rfl (Or.inr (Or.inl ⟨rfl, Or.inl rfl⟩)))
                · refine Sg.go (pc' := 109) (mi_icmpne_f (tgt := 113) dX11_widens_106 (by decide) h13) ?_
                  refine Sg.go (pc' := 110) (mi_iconst (z := 1) dX11_widens_109 rfl) ?_
                  refine Sg.go (pc' := 114) (mi_goto (tgt := 114) dX11_widens_110 (by decide)) ?_
                  exact Sg.ret (mi_ireturn dX11_widens_114 rfl (Or.inr (Or.inl ⟨rfl, Or.inr rfl⟩)))
              · refine Sg.go (pc' := 115) (mi_tabOut (tgt := 115) dX11_widens_8 (by omega) (by decide)) ?_
                refine Sg.go (pc' := 116) (mi_iconst (z := 0) dX11_widens_115 rfl) ?_
                exact Sg.ret (mi_ireturn dX11_widens_116 rfl (Or.inr (Or.inl ⟨rfl, Or.inl rfl⟩)))
  · refine Sg.go (pc' := 5) (mi_icmpne_f (tgt := 7) dX11_widens_2 (by decide) h1) ?_
    refine Sg.go (pc' := 6) (mi_iconst (z := 1) dX11_widens_5 rfl) ?_
    exact Sg.ret (mi_ireturn dX11_widens_6 rfl (Or.inr (Or.inl ⟨rfl, Or.inr rfl⟩)))
theorem C_X11_widens {Z : MiZ} (hL : ML Z) (a0 a1 : Int) (D : MiD) : MC m_X11_widens [(0, a0), (0, a1)] (D, Z) (mi_LI 0 (D, Z) (B_X11_widens a0 a1)) := MC.ofSg (L := (mi_LI 0 (D, Z))) (μ := m_X11_widens) (args := [(0, a0), (0, a1)]) (M := (D, Z)) rfl wP_X11 (Nat.le_of_ble_eq_true rfl) (show Sg m_X11_widens 0 [(0, a0), (0, a1)] [] (D, Z) (mi_LI 0 (D, Z)) (some (B_X11_widens a0 a1)) from S_X11_widens hL a0 a1) rfl
theorem Z_X11_widens_63 : B_X11_widens_63 = 0 ∨ B_X11_widens_63 = 1 := by
  unfold B_X11_widens_63
  repeat' split
  all_goals first | exact Or.inl rfl | exact Or.inr rfl | exact Z_X11_areSame | exact Z_X11_in | exact Z_X11_isBit | exact Z_X11_isDatum | exact Z_X11_isDigit | exact Z_X11_isFunction | exact Z_X11_isQuarters | exact Z_X11_isSmall | exact Z_X11_isTask
theorem Z_X11_widens_69 {v1 : Int} : B_X11_widens_69 v1 = 0 ∨ B_X11_widens_69 v1 = 1 := by
  unfold B_X11_widens_69
  repeat' split
  all_goals first | exact Or.inl rfl | exact Or.inr rfl | exact Z_X11_widens_63 | exact Z_X11_areSame | exact Z_X11_in | exact Z_X11_isBit | exact Z_X11_isDatum | exact Z_X11_isDigit | exact Z_X11_isFunction | exact Z_X11_isQuarters | exact Z_X11_isSmall | exact Z_X11_isTask
theorem Z_X11_widens_97 : B_X11_widens_97 = 0 ∨ B_X11_widens_97 = 1 := by
  unfold B_X11_widens_97
  repeat' split
  all_goals first | exact Or.inl rfl | exact Or.inr rfl | exact Z_X11_widens_63 | exact Z_X11_widens_69 | exact Z_X11_areSame | exact Z_X11_in | exact Z_X11_isBit | exact Z_X11_isDatum | exact Z_X11_isDigit | exact Z_X11_isFunction | exact Z_X11_isQuarters | exact Z_X11_isSmall | exact Z_X11_isTask
theorem Z_X11_widens {v0 : Int} {v1 : Int} : B_X11_widens v0 v1 = 0 ∨ B_X11_widens v0 v1 = 1 := by
  unfold B_X11_widens
  repeat' split
  all_goals first | exact Or.inl rfl | exact Or.inr rfl | exact Z_X11_widens_63 | exact Z_X11_widens_69 | exact Z_X11_widens_97 | exact Z_X11_areSame | exact Z_X11_in | exact Z_X11_isBit | exact Z_X11_isDatum | exact Z_X11_isDigit | exact Z_X11_isFunction | exact Z_X11_isQuarters | exact Z_X11_isSmall | exact Z_X11_isTask
abbrev m_X11_calls : MiI := (yX11_calls, cX11_calls, 3, (some .int), 3, none)
def B_X11_calls_27 (v1 : Int) (v2 : Int) (s1 : Int) (D : MiD) : Option (Int × MiD) := if s1 = 0 ∨ s1 = 1 then (mi_b2 (B_X11_bad s1 1 0 D) fun y2 D3 => if y2 = 0 then (mi_bi (B_X11_callsBy D3 v1 v2) fun y5 => some (y5, D3)) else (some (0, D3))) else none
set_option maxRecDepth 20000 in
theorem S_X11_calls_27 {Z : MiZ} (hL : ML Z) (v1 v2 s1 : Int) (D : MiD) : Sg m_X11_calls 27 [(42, 0), (0, v1), (0, v2)] [(0, s1), (42, 0)] (D, Z) (mi_LD 0 Z) (B_X11_calls_27 v1 v2 s1 D) := by
  unfold B_X11_calls_27
  refine Sg.go (pc' := 28) (mi_iconst (z := 1) dX11_calls_27 rfl) ?_
  refine Sg.go (pc' := 29) (mi_iconst (z := 0) dX11_calls_28 rfl) ?_
  refine Sg.ck (fun hk1 => ?_)
  refine Sg.callD (pc' := 32) (t := 0) (μ' := m_X11_bad) (args := [(42, 0), (0, s1), (0, 1), (0, 0)]) (mi_invV (n := 3) (r := 40) dX11_calls_29 hC_40 (by omega) rfl rfl wN_X11_bad rfl ⟨by decide, by decide⟩ wL_X11_229 wI_X11_bad wS_X11_bad wB_X11 wC_X11_bad) (fun v hv => C_X11_bad hL s1 1 0 D (hk1) v hv) (Nat.le_of_ble_eq_true rfl) rfl rfl (fun y2 D3 => ?_)
  refine Sg.ite (fun h4 => ?_) (fun h4 => ?_)
  · refine Sg.go (pc' := 37) (mi_ifeq_t (tgt := 37) dX11_calls_32 (by decide) h4) ?_
    refine Sg.go (pc' := 38) (mi_aload_n dX11_calls_37 rfl) ?_
    refine Sg.go (pc' := 39) (mi_iload_n dX11_calls_38 rfl) ?_
    refine Sg.go (pc' := 40) (mi_iload_n dX11_calls_39 rfl) ?_
    refine Sg.callI (pc' := 43) (t := 0) (μ' := m_X11_callsBy) (args := [(42, 0), (0, v1), (0, v2)]) (mi_invV (n := 2) (r := 40) dX11_calls_40 hC_40 (by omega) rfl rfl wN_X11_callsBy rfl ⟨by decide, by decide⟩ wL_X11_314 wI_X11_callsBy wS_X11_callsBy wB_X11 wC_X11_callsBy) (fun v hv => C_X11_callsBy hL v1 v2 D3 v hv) (Nat.le_of_ble_eq_true rfl) rfl rfl (fun y5 => ?_)
    exact Sg.ret (mi_ireturn dX11_calls_43 rfl (Or.inl rfl))
  · refine Sg.go (pc' := 35) (mi_ifeq_f (tgt := 37) dX11_calls_32 (by decide) h4) ?_
    refine Sg.go (pc' := 36) (mi_iconst (z := 0) dX11_calls_35 rfl) ?_
    exact Sg.ret (mi_ireturn dX11_calls_36 rfl (Or.inl rfl))
def B_X11_calls_22 (v1 : Int) (v2 : Int) (D : MiD) : Option (Int × MiD) := B_X11_calls_27 v1 v2 1 D
set_option maxRecDepth 20000 in
theorem S_X11_calls_22 {Z : MiZ} (hL : ML Z) (v1 v2 : Int) (D : MiD) : Sg m_X11_calls 22 [(42, 0), (0, v1), (0, v2)] [(42, 0)] (D, Z) (mi_LD 0 Z) (B_X11_calls_22 v1 v2 D) := by
  unfold B_X11_calls_22
  refine Sg.go (pc' := 23) (mi_iconst (z := 1) dX11_calls_22 rfl) ?_
  refine Sg.go (pc' := 27) (mi_goto (tgt := 27) dX11_calls_23 (by decide)) ?_
  exact S_X11_calls_27 hL v1 v2 1 D
def B_X11_calls (v1 : Int) (v2 : Int) (D : MiD) : Option (Int × MiD) := mi_let (mi_st D 40 0 0 0) fun D1 => if (B_X11_isTask v1) = 0 then (B_X11_calls_22 v1 v2 D1) else (if (B_X11_isFunction v2) ≠ 0 then (B_X11_calls_27 v1 v2 0 D1) else (B_X11_calls_22 v1 v2 D1))
set_option maxRecDepth 20000 in
theorem S_X11_calls {Z : MiZ} (hL : ML Z) (v1 v2 : Int) (D : MiD) : Sg m_X11_calls 0 [(42, 0), (0, v1), (0, v2)] [] (D, Z) (mi_LD 0 Z) (B_X11_calls v1 v2 D) := by
  unfold B_X11_calls
  refine Sg.go (pc' := 1) (mi_aload_n dX11_calls_0 rfl) ?_
  refine Sg.go (pc' := 2) (mi_iconst (z := 0) dX11_calls_1 rfl) ?_
  refine Sg.goM (pc' := 5) (mi_pfD (r := 40) (k := 0) (t := 0) dX11_calls_2 hC_40 (by decide) rfl rfl wF_X11_78 (by omega) rfl (by decide) (Or.inl ⟨rfl, rfl⟩)) ?_
  refine Sg.letD (fun D1 hD1 => ?_)
  refine Sg.go (pc' := 6) (mi_aload_n dX11_calls_5 rfl) ?_
  refine Sg.go (pc' := 7) (mi_aload_n dX11_calls_6 rfl) ?_
  refine Sg.go (pc' := 8) (mi_iload_n dX11_calls_7 rfl) ?_
  refine Sg.callP (pc' := 11) (t := 0) (v := (B_X11_isTask v1)) (μ' := m_X11_isTask) (args := [(42, 0), (0, v1)]) (mi_invV (n := 1) (r := 40) dX11_calls_8 hC_40 (by omega) rfl rfl wN_X11_isTask rfl ⟨by decide, by decide⟩ wL_X11_398 wI_X11_isTask wS_X11_isTask wB_X11 wC_X11_isTask) (C_X11_isTask hL v1 D1) (Nat.le_of_ble_eq_true rfl) rfl rfl ?_
  refine Sg.ite (fun h2 => ?_) (fun h2 => ?_)
  · refine Sg.go (pc' := 22) (mi_ifeq_t (tgt := 22) dX11_calls_11 (by decide) h2) ?_
    exact S_X11_calls_22 hL v1 v2 D1
  · refine Sg.go (pc' := 14) (mi_ifeq_f (tgt := 22) dX11_calls_11 (by decide) h2) ?_
    refine Sg.go (pc' := 15) (mi_aload_n dX11_calls_14 rfl) ?_
    refine Sg.go (pc' := 16) (mi_iload_n dX11_calls_15 rfl) ?_
    refine Sg.callP (pc' := 19) (t := 0) (v := (B_X11_isFunction v2)) (μ' := m_X11_isFunction) (args := [(42, 0), (0, v2)]) (mi_invV (n := 1) (r := 40) dX11_calls_16 hC_40 (by omega) rfl rfl wN_X11_isFunction rfl ⟨by decide, by decide⟩ wL_X11_226 wI_X11_isFunction wS_X11_isFunction wB_X11 wC_X11_isFunction) (C_X11_isFunction hL v2 D1) (Nat.le_of_ble_eq_true rfl) rfl rfl ?_
    refine Sg.ite (fun h3 => ?_) (fun h3 => ?_)
    · refine Sg.go (pc' := 26) (mi_ifne_t (tgt := 26) dX11_calls_19 (by decide) h3) ?_
      refine Sg.go (pc' := 27) (mi_iconst (z := 0) dX11_calls_26 rfl) ?_
      exact S_X11_calls_27 hL v1 v2 0 D1
    · refine Sg.go (pc' := 22) (mi_ifne_f (tgt := 26) dX11_calls_19 (by decide) h3) ?_
      exact S_X11_calls_22 hL v1 v2 D1
theorem C_X11_calls {Z : MiZ} (hL : ML Z) (a1 a2 : Int) (D : MiD) (b : Int × MiD) (hb : B_X11_calls a1 a2 D = some b) : MC m_X11_calls [(42, 0), (0, a1), (0, a2)] (D, Z) ((mi_LD 0 Z) b) := MC.ofSg (L := (mi_LD 0 Z)) (μ := m_X11_calls) (args := [(42, 0), (0, a1), (0, a2)]) (M := (D, Z)) rfl wP_X11 (Nat.le_of_ble_eq_true rfl) (show Sg m_X11_calls 0 [(42, 0), (0, a1), (0, a2)] [] (D, Z) (mi_LD 0 Z) (B_X11_calls a1 a2 D) from S_X11_calls hL a1 a2 D) hb
abbrev m_X11_cell : MiI := (yX11_cell, cX11_cell, 5, (some .long), 3, none)
def B_X11_cell_28 (v1 : Int) (v2 : Int) (v3 : Int) (s1 : Int) (D : MiD) : Option (Int × MiD) := if s1 = 0 ∨ s1 = 1 then (mi_b2 (B_X11_bad s1 1 0 D) fun y2 D3 => if y2 = 0 then (mi_let (B_X11_rowOf v1 v2) fun x5 => if 0 ≤ x5 ∧ x5 < 61 then (if (B_X11_in v3 0 (mi_w ((D3 53 0 x5) - 1))) = 0 then (some (0, D3)) else (if 0 ≤ v3 ∧ v3 < 9 then (some ((D3 57 x5 v3), D3)) else none)) else none) else (some (0, D3))) else none
set_option maxRecDepth 20000 in
theorem S_X11_cell_28 {Z : MiZ} (hL : ML Z) (v1 v2 v3 s1 : Int) (D : MiD) : Sg m_X11_cell 28 [(42, 0), (0, v1), (0, v2), (0, v3), mi_un] [(0, s1), (42, 0)] (D, Z) (mi_LD 1 Z) (B_X11_cell_28 v1 v2 v3 s1 D) := by
  unfold B_X11_cell_28
  refine Sg.go (pc' := 29) (mi_iconst (z := 1) dX11_cell_28 rfl) ?_
  refine Sg.go (pc' := 30) (mi_iconst (z := 0) dX11_cell_29 rfl) ?_
  refine Sg.ck (fun hk1 => ?_)
  refine Sg.callD (pc' := 33) (t := 0) (μ' := m_X11_bad) (args := [(42, 0), (0, s1), (0, 1), (0, 0)]) (mi_invV (n := 3) (r := 40) dX11_cell_30 hC_40 (by omega) rfl rfl wN_X11_bad rfl ⟨by decide, by decide⟩ wL_X11_229 wI_X11_bad wS_X11_bad wB_X11 wC_X11_bad) (fun v hv => C_X11_bad hL s1 1 0 D (hk1) v hv) (Nat.le_of_ble_eq_true rfl) rfl rfl (fun y2 D3 => ?_)
  refine Sg.ite (fun h4 => ?_) (fun h4 => ?_)
  · refine Sg.go (pc' := 38) (mi_ifeq_t (tgt := 38) dX11_cell_33 (by decide) h4) ?_
    refine Sg.go (pc' := 39) (mi_aload_n dX11_cell_38 rfl) ?_
    refine Sg.go (pc' := 40) (mi_iload_n dX11_cell_39 rfl) ?_
    refine Sg.go (pc' := 41) (mi_iload_n dX11_cell_40 rfl) ?_
    refine Sg.callP (pc' := 44) (t := 0) (v := (B_X11_rowOf v1 v2)) (μ' := m_X11_rowOf) (args := [(42, 0), (0, v1), (0, v2)]) (mi_invV (n := 2) (r := 40) dX11_cell_41 hC_40 (by omega) rfl rfl wN_X11_rowOf rfl ⟨by decide, by decide⟩ wL_X11_345 wI_X11_rowOf wS_X11_rowOf wB_X11 wC_X11_rowOf) (C_X11_rowOf hL v1 v2 D3) (Nat.le_of_ble_eq_true rfl) rfl rfl ?_
    refine Sg.letI (fun x5 hx5 => ?_)
    refine Sg.go (pc' := 46) (mi_istore (ls1 := [(42, 0), (0, v1), (0, v2), (0, v3), (0, x5)]) dX11_cell_44 (by decide) rfl) ?_
    refine Sg.go (pc' := 47) (mi_iload_n dX11_cell_46 rfl) ?_
    refine Sg.go (pc' := 48) (mi_iconst (z := 0) dX11_cell_47 rfl) ?_
    refine Sg.go (pc' := 49) (mi_aload_n dX11_cell_48 rfl) ?_
    refine Sg.go (pc' := 52) (mi_gfA (t := 53) (v := 0) (r := 40) (k := 17) dX11_cell_49 hC_40 (by decide) rfl wF_X11_45 (by omega) rfl (hL.1 17 (by decide))) ?_
    refine Sg.go (pc' := 54) (mi_iload dX11_cell_52 rfl) ?_
    refine Sg.ck (fun hk6 => ?_)
    refine Sg.go (pc' := 55) (mi_iald (n := 61) dX11_cell_54 rfl rfl (by omega) hk6) ?_
    refine Sg.go (pc' := 56) (mi_iconst (z := 1) dX11_cell_55 rfl) ?_
    refine Sg.go (pc' := 57) (mi_isub dX11_cell_56) ?_
    refine Sg.callP (pc' := 60) (t := 0) (v := (B_X11_in v3 0 (mi_w ((D3 53 0 x5) - 1)))) (μ' := m_X11_in) (args := [(0, v3), (0, 0), (0, (mi_w ((D3 53 0 x5) - 1)))]) (mi_invS (n := 3) dX11_cell_57 rfl wN_X11_in rfl ⟨by decide, by decide⟩ wL_X11_121 wT_X11_in wB_X11 wC_X11_in) (C_X11_in hL v3 0 (mi_w ((D3 53 0 x5) - 1)) D3) (Nat.le_of_ble_eq_true rfl) rfl rfl ?_
    refine Sg.ite (fun h7 => ?_) (fun h7 => ?_)
    · refine Sg.go (pc' := 75) (mi_ifeq_t (tgt := 75) dX11_cell_60 (by decide) h7) ?_
      refine Sg.go (pc' := 76) (mi_lconst (z := 0) dX11_cell_75 rfl) ?_
      exact Sg.ret (mi_lreturn dX11_cell_76 rfl)
    · refine Sg.go (pc' := 63) (mi_ifeq_f (tgt := 75) dX11_cell_60 (by decide) h7) ?_
      refine Sg.go (pc' := 64) (mi_aload_n dX11_cell_63 rfl) ?_
      refine Sg.go (pc' := 67) (mi_gfA (t := 56) (v := 0) (r := 40) (k := 19) dX11_cell_64 hC_40 (by decide) rfl wF_X11_53 (by omega) rfl (hL.1 19 (by decide))) ?_
      refine Sg.go (pc' := 69) (mi_iload dX11_cell_67 rfl) ?_
      refine Sg.go (pc' := 70) (mi_aald (n := 61) (t := 57) (v := x5) dX11_cell_69 rfl hA_56 rfl (by omega) hk6 rfl (hL.2.2.2.2.2.1 _ hk6.1 hk6.2)) ?_
      refine Sg.go (pc' := 71) (mi_iload_n dX11_cell_70 rfl) ?_
      refine Sg.ck (fun hk8 => ?_)
      refine Sg.go (pc' := 72) (mi_lald (n := 9) dX11_cell_71 rfl rfl (by omega) hk8) ?_
      refine Sg.go (pc' := 76) (mi_goto (tgt := 76) dX11_cell_72 (by decide)) ?_
      exact Sg.ret (mi_lreturn dX11_cell_76 rfl)
  · refine Sg.go (pc' := 36) (mi_ifeq_f (tgt := 38) dX11_cell_33 (by decide) h4) ?_
    refine Sg.go (pc' := 37) (mi_lconst (z := 0) dX11_cell_36 rfl) ?_
    exact Sg.ret (mi_lreturn dX11_cell_37 rfl)
def B_X11_cell_23 (v1 : Int) (v2 : Int) (v3 : Int) (D : MiD) : Option (Int × MiD) := B_X11_cell_28 v1 v2 v3 1 D
set_option maxRecDepth 20000 in
theorem S_X11_cell_23 {Z : MiZ} (hL : ML Z) (v1 v2 v3 : Int) (D : MiD) : Sg m_X11_cell 23 [(42, 0), (0, v1), (0, v2), (0, v3), mi_un] [(42, 0)] (D, Z) (mi_LD 1 Z) (B_X11_cell_23 v1 v2 v3 D) := by
  unfold B_X11_cell_23
  refine Sg.go (pc' := 24) (mi_iconst (z := 1) dX11_cell_23 rfl) ?_
  refine Sg.go (pc' := 28) (mi_goto (tgt := 28) dX11_cell_24 (by decide)) ?_
  exact S_X11_cell_28 hL v1 v2 v3 1 D
def B_X11_cell (v1 : Int) (v2 : Int) (v3 : Int) (D : MiD) : Option (Int × MiD) := mi_let (mi_st D 40 0 0 0) fun D1 => if (B_X11_isDatum v1) = 0 then (B_X11_cell_23 v1 v2 v3 D1) else (if (B_X11_in v2 (-1) 4) ≠ 0 then (B_X11_cell_28 v1 v2 v3 0 D1) else (B_X11_cell_23 v1 v2 v3 D1))
set_option maxRecDepth 20000 in
theorem S_X11_cell {Z : MiZ} (hL : ML Z) (v1 v2 v3 : Int) (D : MiD) : Sg m_X11_cell 0 [(42, 0), (0, v1), (0, v2), (0, v3), mi_un] [] (D, Z) (mi_LD 1 Z) (B_X11_cell v1 v2 v3 D) := by
  unfold B_X11_cell
  refine Sg.go (pc' := 1) (mi_aload_n dX11_cell_0 rfl) ?_
  refine Sg.go (pc' := 2) (mi_iconst (z := 0) dX11_cell_1 rfl) ?_
  refine Sg.goM (pc' := 5) (mi_pfD (r := 40) (k := 0) (t := 0) dX11_cell_2 hC_40 (by decide) rfl rfl wF_X11_78 (by omega) rfl (by decide) (Or.inl ⟨rfl, rfl⟩)) ?_
  refine Sg.letD (fun D1 hD1 => ?_)
  refine Sg.go (pc' := 6) (mi_aload_n dX11_cell_5 rfl) ?_
  refine Sg.go (pc' := 7) (mi_aload_n dX11_cell_6 rfl) ?_
  refine Sg.go (pc' := 8) (mi_iload_n dX11_cell_7 rfl) ?_
  refine Sg.callP (pc' := 11) (t := 0) (v := (B_X11_isDatum v1)) (μ' := m_X11_isDatum) (args := [(42, 0), (0, v1)]) (mi_invV (n := 1) (r := 40) dX11_cell_8 hC_40 (by omega) rfl rfl wN_X11_isDatum rfl ⟨by decide, by decide⟩ wL_X11_358 wI_X11_isDatum wS_X11_isDatum wB_X11 wC_X11_isDatum) (C_X11_isDatum hL v1 D1) (Nat.le_of_ble_eq_true rfl) rfl rfl ?_
  refine Sg.ite (fun h2 => ?_) (fun h2 => ?_)
  · refine Sg.go (pc' := 23) (mi_ifeq_t (tgt := 23) dX11_cell_11 (by decide) h2) ?_
    exact S_X11_cell_23 hL v1 v2 v3 D1
  · refine Sg.go (pc' := 14) (mi_ifeq_f (tgt := 23) dX11_cell_11 (by decide) h2) ?_
    refine Sg.go (pc' := 15) (mi_iload_n dX11_cell_14 rfl) ?_
    refine Sg.go (pc' := 16) (mi_iconst (z := (-1)) dX11_cell_15 rfl) ?_
    refine Sg.go (pc' := 17) (mi_iconst (z := 4) dX11_cell_16 rfl) ?_
    refine Sg.callP (pc' := 20) (t := 0) (v := (B_X11_in v2 (-1) 4)) (μ' := m_X11_in) (args := [(0, v2), (0, (-1)), (0, 4)]) (mi_invS (n := 3) dX11_cell_17 rfl wN_X11_in rfl ⟨by decide, by decide⟩ wL_X11_121 wT_X11_in wB_X11 wC_X11_in) (C_X11_in hL v2 (-1) 4 D1) (Nat.le_of_ble_eq_true rfl) rfl rfl ?_
    refine Sg.ite (fun h3 => ?_) (fun h3 => ?_)
    · refine Sg.go (pc' := 27) (mi_ifne_t (tgt := 27) dX11_cell_20 (by decide) h3) ?_
      refine Sg.go (pc' := 28) (mi_iconst (z := 0) dX11_cell_27 rfl) ?_
      exact S_X11_cell_28 hL v1 v2 v3 0 D1
    · refine Sg.go (pc' := 23) (mi_ifne_f (tgt := 27) dX11_cell_20 (by decide) h3) ?_
      exact S_X11_cell_23 hL v1 v2 v3 D1
theorem C_X11_cell {Z : MiZ} (hL : ML Z) (a1 a2 a3 : Int) (D : MiD) (b : Int × MiD) (hb : B_X11_cell a1 a2 a3 D = some b) : MC m_X11_cell [(42, 0), (0, a1), (0, a2), (0, a3)] (D, Z) ((mi_LD 1 Z) b) := MC.ofSg (L := (mi_LD 1 Z)) (μ := m_X11_cell) (args := [(42, 0), (0, a1), (0, a2), (0, a3)]) (M := (D, Z)) rfl wP_X11 (Nat.le_of_ble_eq_true rfl) (show Sg m_X11_cell 0 [(42, 0), (0, a1), (0, a2), (0, a3), mi_un] [] (D, Z) (mi_LD 1 Z) (B_X11_cell a1 a2 a3 D) from S_X11_cell hL a1 a2 a3 D) hb
abbrev m_X11_datum : MiI := (yX11_datum, cX11_datum, 5, (some .int), 3, none)
def B_X11_datum_83 : Nat → Int → Int → MiD → Option (Int × MiD)
  | 0, _, _, _ => none
  | f + 1, v1, v4, D => if 5 ≤ v4 then (mi_bi (B_X11_places D) fun y2 => some (y2, D)) else (mi_bi (B_X11_empties (B_X11_rowOf v1 v4) 12 0 D) fun D3 => B_X11_datum_83 f v1 (mi_w (v4 + 1)) D3)
set_option maxRecDepth 20000 in
theorem S_X11_datum_83 {Z : MiZ} (hL : ML Z) : ∀ (f : Nat) (v1 v4 : Int) (D : MiD), Sg m_X11_datum 83 [(42, 0), (0, v1), mi_un, mi_un, (0, v4)] [] (D, Z) (mi_LD 0 Z) (B_X11_datum_83 f v1 v4 D) := by
  intro f
  induction f with
  | zero => intros; exact Sg.nope
  | succ f K83 =>
    intro v1 v4 D
    show Sg m_X11_datum 83 [(42, 0), (0, v1), mi_un, mi_un, (0, v4)] [] (D, Z) (mi_LD 0 Z) (if 5 ≤ v4 then (mi_bi (B_X11_places D) fun y2 => some (y2, D)) else (mi_bi (B_X11_empties (B_X11_rowOf v1 v4) 12 0 D) fun D3 => B_X11_datum_83 f v1 (mi_w (v4 + 1)) D3))
    refine Sg.go (pc' := 85) (mi_iload dX11_datum_83 rfl) ?_
    refine Sg.go (pc' := 86) (mi_iconst (z := 5) dX11_datum_85 rfl) ?_
    refine Sg.ite (fun h1 => ?_) (fun h1 => ?_)
    · refine Sg.go (pc' := 109) (mi_icmpge_t (tgt := 109) dX11_datum_86 (by decide) h1) ?_
      refine Sg.go (pc' := 110) (mi_aload_n dX11_datum_109 rfl) ?_
      refine Sg.callI (pc' := 113) (t := 0) (μ' := m_X11_places) (args := [(42, 0)]) (mi_invV (n := 0) (r := 40) dX11_datum_110 hC_40 (by omega) rfl rfl wN_X11_places rfl ⟨by decide, by decide⟩ wL_X11_407 wI_X11_places wS_X11_places wB_X11 wC_X11_places) (fun v hv => C_X11_places hL D v hv) (Nat.le_of_ble_eq_true rfl) rfl rfl (fun y2 => ?_)
      exact Sg.ret (mi_ireturn dX11_datum_113 rfl (Or.inl rfl))
    · refine Sg.go (pc' := 89) (mi_icmpge_f (tgt := 109) dX11_datum_86 (by decide) h1) ?_
      refine Sg.go (pc' := 90) (mi_aload_n dX11_datum_89 rfl) ?_
      refine Sg.go (pc' := 91) (mi_aload_n dX11_datum_90 rfl) ?_
      refine Sg.go (pc' := 92) (mi_iload_n dX11_datum_91 rfl) ?_
      refine Sg.go (pc' := 94) (mi_iload dX11_datum_92 rfl) ?_
      refine Sg.callP (pc' := 97) (t := 0) (v := (B_X11_rowOf v1 v4)) (μ' := m_X11_rowOf) (args := [(42, 0), (0, v1), (0, v4)]) (mi_invV (n := 2) (r := 40) dX11_datum_94 hC_40 (by omega) rfl rfl wN_X11_rowOf rfl ⟨by decide, by decide⟩ wL_X11_345 wI_X11_rowOf wS_X11_rowOf wB_X11 wC_X11_rowOf) (C_X11_rowOf hL v1 v4 D) (Nat.le_of_ble_eq_true rfl) rfl rfl ?_
      refine Sg.go (pc' := 99) (mi_bipush (z := 12) dX11_datum_97 rfl) ?_
      refine Sg.go (pc' := 100) (mi_iconst (z := 0) dX11_datum_99 rfl) ?_
      refine Sg.callV (pc' := 103) (μ' := m_X11_empties) (args := [(42, 0), (0, (B_X11_rowOf v1 v4)), (0, 12), (0, 0)]) (mi_invV (n := 3) (r := 40) dX11_datum_100 hC_40 (by omega) rfl rfl wN_X11_empties rfl ⟨by decide, by decide⟩ wL_X11_348 wI_X11_empties wS_X11_empties wB_X11 wC_X11_empties) (fun v hv => C_X11_empties hL (B_X11_rowOf v1 v4) 12 0 D v hv) (Nat.le_of_ble_eq_true rfl) rfl rfl (fun D3 => ?_)
      refine Sg.go (pc' := 106) (mi_iinc (z := 1) (ls1 := [(42, 0), (0, v1), mi_un, mi_un, (0, (mi_w (v4 + 1)))]) dX11_datum_103 (by decide) rfl rfl rfl) ?_
      refine Sg.go (pc' := 83) (mi_goto (tgt := 83) dX11_datum_106 (by decide)) ?_
      exact K83 v1 (mi_w (v4 + 1)) D3
def B_X11_datum_63 (v1 : Int) (v2 : Int) (v3 : Int) (s1 : Int) (D : MiD) : Option (Int × MiD) := if s1 = 0 ∨ s1 = 1 then (mi_b2 (B_X11_bad s1 2 1 D) fun y2 D3 => if y2 = 0 then (mi_bi (B_X11_empties v1 v2 v3 D3) fun D5 => B_X11_datum_83 mi_fuel v1 0 D5) else (some (0, D3))) else none
set_option maxRecDepth 20000 in
theorem S_X11_datum_63 {Z : MiZ} (hL : ML Z) (v1 v2 v3 s1 : Int) (D : MiD) : Sg m_X11_datum 63 [(42, 0), (0, v1), (0, v2), (0, v3), mi_un] [(0, s1), (42, 0)] (D, Z) (mi_LD 0 Z) (B_X11_datum_63 v1 v2 v3 s1 D) := by
  unfold B_X11_datum_63
  refine Sg.go (pc' := 64) (mi_iconst (z := 2) dX11_datum_63 rfl) ?_
  refine Sg.go (pc' := 65) (mi_iconst (z := 1) dX11_datum_64 rfl) ?_
  refine Sg.ck (fun hk1 => ?_)
  refine Sg.callD (pc' := 68) (t := 0) (μ' := m_X11_bad) (args := [(42, 0), (0, s1), (0, 2), (0, 1)]) (mi_invV (n := 3) (r := 40) dX11_datum_65 hC_40 (by omega) rfl rfl wN_X11_bad rfl ⟨by decide, by decide⟩ wL_X11_229 wI_X11_bad wS_X11_bad wB_X11 wC_X11_bad) (fun v hv => C_X11_bad hL s1 2 1 D (hk1) v hv) (Nat.le_of_ble_eq_true rfl) rfl rfl (fun y2 D3 => ?_)
  refine Sg.ite (fun h4 => ?_) (fun h4 => ?_)
  · refine Sg.go (pc' := 73) (mi_ifeq_t (tgt := 73) dX11_datum_68 (by decide) h4) ?_
    refine Sg.go (pc' := 74) (mi_aload_n dX11_datum_73 rfl) ?_
    refine Sg.go (pc' := 75) (mi_iload_n dX11_datum_74 rfl) ?_
    refine Sg.go (pc' := 76) (mi_iload_n dX11_datum_75 rfl) ?_
    refine Sg.go (pc' := 77) (mi_iload_n dX11_datum_76 rfl) ?_
    refine Sg.callV (pc' := 80) (μ' := m_X11_empties) (args := [(42, 0), (0, v1), (0, v2), (0, v3)]) (mi_invV (n := 3) (r := 40) dX11_datum_77 hC_40 (by omega) rfl rfl wN_X11_empties rfl ⟨by decide, by decide⟩ wL_X11_348 wI_X11_empties wS_X11_empties wB_X11 wC_X11_empties) (fun v hv => C_X11_empties hL v1 v2 v3 D3 v hv) (Nat.le_of_ble_eq_true rfl) rfl rfl (fun D5 => ?_)
    refine Sg.go (pc' := 81) (mi_iconst (z := 0) dX11_datum_80 rfl) ?_
    refine Sg.go (pc' := 83) (mi_istore (ls1 := [(42, 0), (0, v1), (0, v2), (0, v3), (0, 0)]) dX11_datum_81 (by decide) rfl) ?_
    refine Sg.go (pc' := 83) (MiStep.weak (ls' := [(42, 0), (0, v1), mi_un, mi_un, (0, 0)]) (mi_wk_y (mi_wk_y (mi_wk_n (mi_wk_n (mi_wk_y mi_wk_0)))))) ?_
    exact S_X11_datum_83 hL mi_fuel v1 0 D5
  · refine Sg.go (pc' := 71) (mi_ifeq_f (tgt := 73) dX11_datum_68 (by decide) h4) ?_
    refine Sg.go (pc' := 72) (mi_iconst (z := 0) dX11_datum_71 rfl) ?_
    exact Sg.ret (mi_ireturn dX11_datum_72 rfl (Or.inl rfl))
def B_X11_datum_58 (v1 : Int) (v2 : Int) (v3 : Int) (D : MiD) : Option (Int × MiD) := B_X11_datum_63 v1 v2 v3 1 D
set_option maxRecDepth 20000 in
theorem S_X11_datum_58 {Z : MiZ} (hL : ML Z) (v1 v2 v3 : Int) (D : MiD) : Sg m_X11_datum 58 [(42, 0), (0, v1), (0, v2), (0, v3), mi_un] [(42, 0)] (D, Z) (mi_LD 0 Z) (B_X11_datum_58 v1 v2 v3 D) := by
  unfold B_X11_datum_58
  refine Sg.go (pc' := 59) (mi_iconst (z := 1) dX11_datum_58 rfl) ?_
  refine Sg.go (pc' := 63) (mi_goto (tgt := 63) dX11_datum_59 (by decide)) ?_
  exact S_X11_datum_63 hL v1 v2 v3 1 D
def B_X11_datum_62 (v1 : Int) (v2 : Int) (v3 : Int) (D : MiD) : Option (Int × MiD) := B_X11_datum_63 v1 v2 v3 0 D
set_option maxRecDepth 20000 in
theorem S_X11_datum_62 {Z : MiZ} (hL : ML Z) (v1 v2 v3 : Int) (D : MiD) : Sg m_X11_datum 62 [(42, 0), (0, v1), (0, v2), (0, v3), mi_un] [(42, 0)] (D, Z) (mi_LD 0 Z) (B_X11_datum_62 v1 v2 v3 D) := by
  unfold B_X11_datum_62
  refine Sg.go (pc' := 63) (mi_iconst (z := 0) dX11_datum_62 rfl) ?_
  exact S_X11_datum_63 hL v1 v2 v3 0 D
def B_X11_datum_19 (v1 : Int) (v2 : Int) (v3 : Int) (s1 : Int) (D : MiD) : Option (Int × MiD) := if s1 = 0 ∨ s1 = 1 then (mi_b2 (B_X11_bad s1 1 0 D) fun y2 D3 => if y2 ≠ 0 then (some (0, D3)) else (if (B_X11_in v2 0 12) = 0 then (B_X11_datum_58 v1 v2 v3 D3) else (if (B_X11_in v3 0 9) = 0 then (B_X11_datum_58 v1 v2 v3 D3) else (if v2 ≤ 10 then (B_X11_datum_62 v1 v2 v3 D3) else (if v3 ≤ 0 then (B_X11_datum_62 v1 v2 v3 D3) else (B_X11_datum_58 v1 v2 v3 D3)))))) else none
set_option maxRecDepth 20000 in
theorem S_X11_datum_19 {Z : MiZ} (hL : ML Z) (v1 v2 v3 s1 : Int) (D : MiD) : Sg m_X11_datum 19 [(42, 0), (0, v1), (0, v2), (0, v3), mi_un] [(0, s1), (42, 0)] (D, Z) (mi_LD 0 Z) (B_X11_datum_19 v1 v2 v3 s1 D) := by
  unfold B_X11_datum_19
  refine Sg.go (pc' := 20) (mi_iconst (z := 1) dX11_datum_19 rfl) ?_
  refine Sg.go (pc' := 21) (mi_iconst (z := 0) dX11_datum_20 rfl) ?_
  refine Sg.ck (fun hk1 => ?_)
  refine Sg.callD (pc' := 24) (t := 0) (μ' := m_X11_bad) (args := [(42, 0), (0, s1), (0, 1), (0, 0)]) (mi_invV (n := 3) (r := 40) dX11_datum_21 hC_40 (by omega) rfl rfl wN_X11_bad rfl ⟨by decide, by decide⟩ wL_X11_229 wI_X11_bad wS_X11_bad wB_X11 wC_X11_bad) (fun v hv => C_X11_bad hL s1 1 0 D (hk1) v hv) (Nat.le_of_ble_eq_true rfl) rfl rfl (fun y2 D3 => ?_)
  refine Sg.ite (fun h4 => ?_) (fun h4 => ?_)
  · refine Sg.go (pc' := 71) (mi_ifne_t (tgt := 71) dX11_datum_24 (by decide) h4) ?_
    refine Sg.go (pc' := 72) (mi_iconst (z := 0) dX11_datum_71 rfl) ?_
    exact Sg.ret (mi_ireturn dX11_datum_72 rfl (Or.inl rfl))
  · refine Sg.go (pc' := 27) (mi_ifne_f (tgt := 71) dX11_datum_24 (by decide) h4) ?_
    refine Sg.go (pc' := 28) (mi_aload_n dX11_datum_27 rfl) ?_
    refine Sg.go (pc' := 29) (mi_iload_n dX11_datum_28 rfl) ?_
    refine Sg.go (pc' := 30) (mi_iconst (z := 0) dX11_datum_29 rfl) ?_
    refine Sg.go (pc' := 32) (mi_bipush (z := 12) dX11_datum_30 rfl) ?_
    refine Sg.callP (pc' := 35) (t := 0) (v := (B_X11_in v2 0 12)) (μ' := m_X11_in) (args := [(0, v2), (0, 0), (0, 12)]) (mi_invS (n := 3) dX11_datum_32 rfl wN_X11_in rfl ⟨by decide, by decide⟩ wL_X11_121 wT_X11_in wB_X11 wC_X11_in) (C_X11_in hL v2 0 12 D3) (Nat.le_of_ble_eq_true rfl) rfl rfl ?_
    refine Sg.ite (fun h5 => ?_) (fun h5 => ?_)
    · refine Sg.go (pc' := 58) (mi_ifeq_t (tgt := 58) dX11_datum_35 (by decide) h5) ?_
      exact S_X11_datum_58 hL v1 v2 v3 D3
    · refine Sg.go (pc' := 38) (mi_ifeq_f (tgt := 58) dX11_datum_35 (by decide) h5) ?_
      refine Sg.go (pc' := 39) (mi_iload_n dX11_datum_38 rfl) ?_
      refine Sg.go (pc' := 40) (mi_iconst (z := 0) dX11_datum_39 rfl) ?_
      refine Sg.go (pc' := 42) (mi_bipush (z := 9) dX11_datum_40 rfl) ?_
      refine Sg.callP (pc' := 45) (t := 0) (v := (B_X11_in v3 0 9)) (μ' := m_X11_in) (args := [(0, v3), (0, 0), (0, 9)]) (mi_invS (n := 3) dX11_datum_42 rfl wN_X11_in rfl ⟨by decide, by decide⟩ wL_X11_121 wT_X11_in wB_X11 wC_X11_in) (C_X11_in hL v3 0 9 D3) (Nat.le_of_ble_eq_true rfl) rfl rfl ?_
      refine Sg.ite (fun h6 => ?_) (fun h6 => ?_)
      · refine Sg.go (pc' := 58) (mi_ifeq_t (tgt := 58) dX11_datum_45 (by decide) h6) ?_
        exact S_X11_datum_58 hL v1 v2 v3 D3
      · refine Sg.go (pc' := 48) (mi_ifeq_f (tgt := 58) dX11_datum_45 (by decide) h6) ?_
        refine Sg.go (pc' := 49) (mi_iload_n dX11_datum_48 rfl) ?_
        refine Sg.go (pc' := 51) (mi_bipush (z := 10) dX11_datum_49 rfl) ?_
        refine Sg.ite (fun h7 => ?_) (fun h7 => ?_)
        · refine Sg.go (pc' := 62) (mi_icmple_t (tgt := 62) dX11_datum_51 (by decide) h7) ?_
          exact S_X11_datum_62 hL v1 v2 v3 D3
        · refine Sg.go (pc' := 54) (mi_icmple_f (tgt := 62) dX11_datum_51 (by decide) h7) ?_
          refine Sg.go (pc' := 55) (mi_iload_n dX11_datum_54 rfl) ?_
          refine Sg.ite (fun h8 => ?_) (fun h8 => ?_)
          · refine Sg.go (pc' := 62) (mi_ifle_t (tgt := 62) dX11_datum_55 (by decide) h8) ?_
            exact S_X11_datum_62 hL v1 v2 v3 D3
          · refine Sg.go (pc' := 58) (mi_ifle_f (tgt := 62) dX11_datum_55 (by decide) h8) ?_
            exact S_X11_datum_58 hL v1 v2 v3 D3
def B_X11_datum (v1 : Int) (v2 : Int) (v3 : Int) (D : MiD) : Option (Int × MiD) := mi_let (mi_st D 40 0 0 0) fun D1 => if (B_X11_isDatum v1) ≠ 0 then (B_X11_datum_19 v1 v2 v3 0 D1) else (B_X11_datum_19 v1 v2 v3 1 D1)
set_option maxRecDepth 20000 in
theorem S_X11_datum {Z : MiZ} (hL : ML Z) (v1 v2 v3 : Int) (D : MiD) : Sg m_X11_datum 0 [(42, 0), (0, v1), (0, v2), (0, v3), mi_un] [] (D, Z) (mi_LD 0 Z) (B_X11_datum v1 v2 v3 D) := by
  unfold B_X11_datum
  refine Sg.go (pc' := 1) (mi_aload_n dX11_datum_0 rfl) ?_
  refine Sg.go (pc' := 2) (mi_iconst (z := 0) dX11_datum_1 rfl) ?_
  refine Sg.goM (pc' := 5) (mi_pfD (r := 40) (k := 0) (t := 0) dX11_datum_2 hC_40 (by decide) rfl rfl wF_X11_78 (by omega) rfl (by decide) (Or.inl ⟨rfl, rfl⟩)) ?_
  refine Sg.letD (fun D1 hD1 => ?_)
  refine Sg.go (pc' := 6) (mi_aload_n dX11_datum_5 rfl) ?_
  refine Sg.go (pc' := 7) (mi_aload_n dX11_datum_6 rfl) ?_
  refine Sg.go (pc' := 8) (mi_iload_n dX11_datum_7 rfl) ?_
  refine Sg.callP (pc' := 11) (t := 0) (v := (B_X11_isDatum v1)) (μ' := m_X11_isDatum) (args := [(42, 0), (0, v1)]) (mi_invV (n := 1) (r := 40) dX11_datum_8 hC_40 (by omega) rfl rfl wN_X11_isDatum rfl ⟨by decide, by decide⟩ wL_X11_358 wI_X11_isDatum wS_X11_isDatum wB_X11 wC_X11_isDatum) (C_X11_isDatum hL v1 D1) (Nat.le_of_ble_eq_true rfl) rfl rfl ?_
  refine Sg.ite (fun h2 => ?_) (fun h2 => ?_)
  · refine Sg.go (pc' := 18) (mi_ifne_t (tgt := 18) dX11_datum_11 (by decide) h2) ?_
    refine Sg.go (pc' := 19) (mi_iconst (z := 0) dX11_datum_18 rfl) ?_
    exact S_X11_datum_19 hL v1 v2 v3 0 D1
  · refine Sg.go (pc' := 14) (mi_ifne_f (tgt := 18) dX11_datum_11 (by decide) h2) ?_
    refine Sg.go (pc' := 15) (mi_iconst (z := 1) dX11_datum_14 rfl) ?_
    refine Sg.go (pc' := 19) (mi_goto (tgt := 19) dX11_datum_15 (by decide)) ?_
    exact S_X11_datum_19 hL v1 v2 v3 1 D1
theorem C_X11_datum {Z : MiZ} (hL : ML Z) (a1 a2 a3 : Int) (D : MiD) (b : Int × MiD) (hb : B_X11_datum a1 a2 a3 D = some b) : MC m_X11_datum [(42, 0), (0, a1), (0, a2), (0, a3)] (D, Z) ((mi_LD 0 Z) b) := MC.ofSg (L := (mi_LD 0 Z)) (μ := m_X11_datum) (args := [(42, 0), (0, a1), (0, a2), (0, a3)]) (M := (D, Z)) rfl wP_X11 (Nat.le_of_ble_eq_true rfl) (show Sg m_X11_datum 0 [(42, 0), (0, a1), (0, a2), (0, a3), mi_un] [] (D, Z) (mi_LD 0 Z) (B_X11_datum a1 a2 a3 D) from S_X11_datum hL a1 a2 a3 D) hb
abbrev m_X11_datumOf : MiI := (yX11_datumOf, cX11_datumOf, 5, (some .int), 3, none)
def B_X11_datumOf_89 (k57 : Int → Int → Int → Int → MiD → Option (Int × MiD)) (v1 : Int) (v2 : Int) (v4 : Int) (s0 : Int) (s1 : Int) (D : MiD) : Option (Int × MiD) := k57 v1 v2 (mi_or s0 s1) (mi_w (v4 + 1)) D
set_option maxRecDepth 20000 in
theorem S_X11_datumOf_89 {Z : MiZ} (hL : ML Z) {k57 : Int → Int → Int → Int → MiD → Option (Int × MiD)} (K57 : ∀ (v1 v2 v3 v4 : Int) (D : MiD), Sg m_X11_datumOf 57 [(42, 0), (0, v1), (0, v2), (0, v3), (0, v4)] [] (D, Z) (mi_LD 0 Z) (k57 v1 v2 v3 v4 D)) (v1 v2 v4 s0 s1 : Int) (D : MiD) : Sg m_X11_datumOf 89 [(42, 0), (0, v1), (0, v2), mi_un, (0, v4)] [(0, s1), (0, s0)] (D, Z) (mi_LD 0 Z) (B_X11_datumOf_89 k57 v1 v2 v4 s0 s1 D) := by
  unfold B_X11_datumOf_89
  refine Sg.go (pc' := 90) (mi_ior dX11_datumOf_89) ?_
  refine Sg.go (pc' := 91) (mi_istore_n (ls1 := [(42, 0), (0, v1), (0, v2), (0, (mi_or s0 s1)), (0, v4)]) dX11_datumOf_90 (by decide) rfl) ?_
  refine Sg.go (pc' := 94) (mi_iinc (z := 1) (ls1 := [(42, 0), (0, v1), (0, v2), (0, (mi_or s0 s1)), (0, (mi_w (v4 + 1)))]) dX11_datumOf_91 (by decide) rfl rfl rfl) ?_
  refine Sg.go (pc' := 57) (mi_goto (tgt := 57) dX11_datumOf_94 (by decide)) ?_
  exact K57 v1 v2 (mi_or s0 s1) (mi_w (v4 + 1)) D
def B_X11_datumOf_57 : Nat → Int → Int → Int → Int → MiD → Option (Int × MiD)
  | 0, _, _, _, _, _ => none
  | f + 1, v1, v2, v3, v4, D => if 5 ≤ v4 then (if v2 ≠ 0 then (if v2 ≠ 1 then (some (v3, D)) else (if 0 ≤ v1 ∧ v1 < 61 then (some ((D 53 0 v1), D)) else none)) else (if 0 ≤ v1 ∧ v1 < 61 then (some ((D 52 0 v1), D)) else none)) else (if 0 ≤ (B_X11_rowOf v1 v4) ∧ (B_X11_rowOf v1 v4) < 61 then (if (D 52 0 (B_X11_rowOf v1 v4)) = 12 then (B_X11_datumOf_89 (B_X11_datumOf_57 f) v1 v2 v4 v3 0 D) else (B_X11_datumOf_89 (B_X11_datumOf_57 f) v1 v2 v4 v3 (mi_shl 1 v4) D)) else none)
set_option maxRecDepth 20000 in
theorem S_X11_datumOf_57 {Z : MiZ} (hL : ML Z) : ∀ (f : Nat) (v1 v2 v3 v4 : Int) (D : MiD), Sg m_X11_datumOf 57 [(42, 0), (0, v1), (0, v2), (0, v3), (0, v4)] [] (D, Z) (mi_LD 0 Z) (B_X11_datumOf_57 f v1 v2 v3 v4 D) := by
  intro f
  induction f with
  | zero => intros; exact Sg.nope
  | succ f K57 =>
    intro v1 v2 v3 v4 D
    show Sg m_X11_datumOf 57 [(42, 0), (0, v1), (0, v2), (0, v3), (0, v4)] [] (D, Z) (mi_LD 0 Z) (if 5 ≤ v4 then (if v2 ≠ 0 then (if v2 ≠ 1 then (some (v3, D)) else (if 0 ≤ v1 ∧ v1 < 61 then (some ((D 53 0 v1), D)) else none)) else (if 0 ≤ v1 ∧ v1 < 61 then (some ((D 52 0 v1), D)) else none)) else (if 0 ≤ (B_X11_rowOf v1 v4) ∧ (B_X11_rowOf v1 v4) < 61 then (if (D 52 0 (B_X11_rowOf v1 v4)) = 12 then (B_X11_datumOf_89 (B_X11_datumOf_57 f) v1 v2 v4 v3 0 D) else (B_X11_datumOf_89 (B_X11_datumOf_57 f) v1 v2 v4 v3 (mi_shl 1 v4) D)) else none))
    refine Sg.go (pc' := 59) (mi_iload dX11_datumOf_57 rfl) ?_
    refine Sg.go (pc' := 60) (mi_iconst (z := 5) dX11_datumOf_59 rfl) ?_
    refine Sg.ite (fun h1 => ?_) (fun h1 => ?_)
    · refine Sg.go (pc' := 97) (mi_icmpge_t (tgt := 97) dX11_datumOf_60 (by decide) h1) ?_
      refine Sg.go (pc' := 98) (mi_iload_n dX11_datumOf_97 rfl) ?_
      refine Sg.ite (fun h2 => ?_) (fun h2 => ?_)
      · refine Sg.go (pc' := 110) (mi_ifne_t (tgt := 110) dX11_datumOf_98 (by decide) h2) ?_
        refine Sg.go (pc' := 111) (mi_iload_n dX11_datumOf_110 rfl) ?_
        refine Sg.go (pc' := 112) (mi_iconst (z := 1) dX11_datumOf_111 rfl) ?_
        refine Sg.ite (fun h3 => ?_) (fun h3 => ?_)
        · refine Sg.go (pc' := 124) (mi_icmpne_t (tgt := 124) dX11_datumOf_112 (by decide) h3) ?_
          refine Sg.go (pc' := 125) (mi_iload_n dX11_datumOf_124 rfl) ?_
          exact Sg.ret (mi_ireturn dX11_datumOf_125 rfl (Or.inl rfl))
        · refine Sg.go (pc' := 115) (mi_icmpne_f (tgt := 124) dX11_datumOf_112 (by decide) h3) ?_
          refine Sg.go (pc' := 116) (mi_aload_n dX11_datumOf_115 rfl) ?_
          refine Sg.go (pc' := 119) (mi_gfA (t := 53) (v := 0) (r := 40) (k := 17) dX11_datumOf_116 hC_40 (by decide) rfl wF_X11_45 (by omega) rfl (hL.1 17 (by decide))) ?_
          refine Sg.go (pc' := 120) (mi_iload_n dX11_datumOf_119 rfl) ?_
          refine Sg.ck (fun hk4 => ?_)
          refine Sg.go (pc' := 121) (mi_iald (n := 61) dX11_datumOf_120 rfl rfl (by omega) hk4) ?_
          refine Sg.go (pc' := 125) (mi_goto (tgt := 125) dX11_datumOf_121 (by decide)) ?_
          exact Sg.ret (mi_ireturn dX11_datumOf_125 rfl (Or.inl rfl))
      · refine Sg.go (pc' := 101) (mi_ifne_f (tgt := 110) dX11_datumOf_98 (by decide) h2) ?_
        refine Sg.go (pc' := 102) (mi_aload_n dX11_datumOf_101 rfl) ?_
        refine Sg.go (pc' := 105) (mi_gfA (t := 52) (v := 0) (r := 40) (k := 16) dX11_datumOf_102 hC_40 (by decide) rfl wF_X11_42 (by omega) rfl (hL.1 16 (by decide))) ?_
        refine Sg.go (pc' := 106) (mi_iload_n dX11_datumOf_105 rfl) ?_
        refine Sg.ck (fun hk5 => ?_)
        refine Sg.go (pc' := 107) (mi_iald (n := 61) dX11_datumOf_106 rfl rfl (by omega) hk5) ?_
        refine Sg.go (pc' := 125) (mi_goto (tgt := 125) dX11_datumOf_107 (by decide)) ?_
        exact Sg.ret (mi_ireturn dX11_datumOf_125 rfl (Or.inl rfl))
    · refine Sg.go (pc' := 63) (mi_icmpge_f (tgt := 97) dX11_datumOf_60 (by decide) h1) ?_
      refine Sg.go (pc' := 64) (mi_iload_n dX11_datumOf_63 rfl) ?_
      refine Sg.go (pc' := 65) (mi_aload_n dX11_datumOf_64 rfl) ?_
      refine Sg.go (pc' := 68) (mi_gfA (t := 52) (v := 0) (r := 40) (k := 16) dX11_datumOf_65 hC_40 (by decide) rfl wF_X11_42 (by omega) rfl (hL.1 16 (by decide))) ?_
      refine Sg.go (pc' := 69) (mi_aload_n dX11_datumOf_68 rfl) ?_
      refine Sg.go (pc' := 70) (mi_iload_n dX11_datumOf_69 rfl) ?_
      refine Sg.go (pc' := 72) (mi_iload dX11_datumOf_70 rfl) ?_
      refine Sg.callP (pc' := 75) (t := 0) (v := (B_X11_rowOf v1 v4)) (μ' := m_X11_rowOf) (args := [(42, 0), (0, v1), (0, v4)]) (mi_invV (n := 2) (r := 40) dX11_datumOf_72 hC_40 (by omega) rfl rfl wN_X11_rowOf rfl ⟨by decide, by decide⟩ wL_X11_345 wI_X11_rowOf wS_X11_rowOf wB_X11 wC_X11_rowOf) (C_X11_rowOf hL v1 v4 D) (Nat.le_of_ble_eq_true rfl) rfl rfl ?_
      refine Sg.ck (fun hk6 => ?_)
      refine Sg.go (pc' := 76) (mi_iald (n := 61) dX11_datumOf_75 rfl rfl (by omega) hk6) ?_
      refine Sg.go (pc' := 78) (mi_bipush (z := 12) dX11_datumOf_76 rfl) ?_
      refine Sg.ite (fun h7 => ?_) (fun h7 => ?_)
      · refine Sg.go (pc' := 88) (mi_icmpeq_t (tgt := 88) dX11_datumOf_78 (by decide) h7) ?_
        refine Sg.go (pc' := 89) (mi_iconst (z := 0) dX11_datumOf_88 rfl) ?_
        refine Sg.go (pc' := 89) (MiStep.weak (ls' := [(42, 0), (0, v1), (0, v2), mi_un, (0, v4)]) (mi_wk_y (mi_wk_y (mi_wk_y (mi_wk_n (mi_wk_y mi_wk_0)))))) ?_
        exact S_X11_datumOf_89 hL K57 v1 v2 v4 v3 0 D
      · refine Sg.go (pc' := 81) (mi_icmpeq_f (tgt := 88) dX11_datumOf_78 (by decide) h7) ?_
        refine Sg.go (pc' := 82) (mi_iconst (z := 1) dX11_datumOf_81 rfl) ?_
        refine Sg.go (pc' := 84) (mi_iload dX11_datumOf_82 rfl) ?_
        refine Sg.go (pc' := 85) (mi_ishl dX11_datumOf_84) ?_
        refine Sg.go (pc' := 89) (mi_goto (tgt := 89) dX11_datumOf_85 (by decide)) ?_
        refine Sg.go (pc' := 89) (MiStep.weak (ls' := [(42, 0), (0, v1), (0, v2), mi_un, (0, v4)]) (mi_wk_y (mi_wk_y (mi_wk_y (mi_wk_n (mi_wk_y mi_wk_0)))))) ?_
        exact S_X11_datumOf_89 hL K57 v1 v2 v4 v3 (mi_shl 1 v4) D
def B_X11_datumOf_42 (v1 : Int) (v2 : Int) (s1 : Int) (D : MiD) : Option (Int × MiD) := if s1 = 0 ∨ s1 = 1 then (mi_b2 (B_X11_bad s1 2 1 D) fun y2 D3 => if y2 = 0 then (B_X11_datumOf_57 mi_fuel v1 v2 0 0 D3) else (some (0, D3))) else none
set_option maxRecDepth 20000 in
theorem S_X11_datumOf_42 {Z : MiZ} (hL : ML Z) (v1 v2 s1 : Int) (D : MiD) : Sg m_X11_datumOf 42 [(42, 0), (0, v1), (0, v2), mi_un, mi_un] [(0, s1), (42, 0)] (D, Z) (mi_LD 0 Z) (B_X11_datumOf_42 v1 v2 s1 D) := by
  unfold B_X11_datumOf_42
  refine Sg.go (pc' := 43) (mi_iconst (z := 2) dX11_datumOf_42 rfl) ?_
  refine Sg.go (pc' := 44) (mi_iconst (z := 1) dX11_datumOf_43 rfl) ?_
  refine Sg.ck (fun hk1 => ?_)
  refine Sg.callD (pc' := 47) (t := 0) (μ' := m_X11_bad) (args := [(42, 0), (0, s1), (0, 2), (0, 1)]) (mi_invV (n := 3) (r := 40) dX11_datumOf_44 hC_40 (by omega) rfl rfl wN_X11_bad rfl ⟨by decide, by decide⟩ wL_X11_229 wI_X11_bad wS_X11_bad wB_X11 wC_X11_bad) (fun v hv => C_X11_bad hL s1 2 1 D (hk1) v hv) (Nat.le_of_ble_eq_true rfl) rfl rfl (fun y2 D3 => ?_)
  refine Sg.ite (fun h4 => ?_) (fun h4 => ?_)
  · refine Sg.go (pc' := 52) (mi_ifeq_t (tgt := 52) dX11_datumOf_47 (by decide) h4) ?_
    refine Sg.go (pc' := 53) (mi_iconst (z := 0) dX11_datumOf_52 rfl) ?_
    refine Sg.go (pc' := 54) (mi_istore_n (ls1 := [(42, 0), (0, v1), (0, v2), (0, 0), mi_un]) dX11_datumOf_53 (by decide) rfl) ?_
    refine Sg.go (pc' := 55) (mi_iconst (z := 0) dX11_datumOf_54 rfl) ?_
    refine Sg.go (pc' := 57) (mi_istore (ls1 := [(42, 0), (0, v1), (0, v2), (0, 0), (0, 0)]) dX11_datumOf_55 (by decide) rfl) ?_
    exact S_X11_datumOf_57 hL mi_fuel v1 v2 0 0 D3
  · refine Sg.go (pc' := 50) (mi_ifeq_f (tgt := 52) dX11_datumOf_47 (by decide) h4) ?_
    refine Sg.go (pc' := 51) (mi_iconst (z := 0) dX11_datumOf_50 rfl) ?_
    exact Sg.ret (mi_ireturn dX11_datumOf_51 rfl (Or.inl rfl))
def B_X11_datumOf_19 (v1 : Int) (v2 : Int) (s1 : Int) (D : MiD) : Option (Int × MiD) := if s1 = 0 ∨ s1 = 1 then (mi_b2 (B_X11_bad s1 1 0 D) fun y2 D3 => if y2 ≠ 0 then (some (0, D3)) else (if (B_X11_in v2 0 2) ≠ 0 then (B_X11_datumOf_42 v1 v2 0 D3) else (B_X11_datumOf_42 v1 v2 1 D3))) else none
set_option maxRecDepth 20000 in
theorem S_X11_datumOf_19 {Z : MiZ} (hL : ML Z) (v1 v2 s1 : Int) (D : MiD) : Sg m_X11_datumOf 19 [(42, 0), (0, v1), (0, v2), mi_un, mi_un] [(0, s1), (42, 0)] (D, Z) (mi_LD 0 Z) (B_X11_datumOf_19 v1 v2 s1 D) := by
  unfold B_X11_datumOf_19
  refine Sg.go (pc' := 20) (mi_iconst (z := 1) dX11_datumOf_19 rfl) ?_
  refine Sg.go (pc' := 21) (mi_iconst (z := 0) dX11_datumOf_20 rfl) ?_
  refine Sg.ck (fun hk1 => ?_)
  refine Sg.callD (pc' := 24) (t := 0) (μ' := m_X11_bad) (args := [(42, 0), (0, s1), (0, 1), (0, 0)]) (mi_invV (n := 3) (r := 40) dX11_datumOf_21 hC_40 (by omega) rfl rfl wN_X11_bad rfl ⟨by decide, by decide⟩ wL_X11_229 wI_X11_bad wS_X11_bad wB_X11 wC_X11_bad) (fun v hv => C_X11_bad hL s1 1 0 D (hk1) v hv) (Nat.le_of_ble_eq_true rfl) rfl rfl (fun y2 D3 => ?_)
  refine Sg.ite (fun h4 => ?_) (fun h4 => ?_)
  · refine Sg.go (pc' := 50) (mi_ifne_t (tgt := 50) dX11_datumOf_24 (by decide) h4) ?_
    refine Sg.go (pc' := 51) (mi_iconst (z := 0) dX11_datumOf_50 rfl) ?_
    exact Sg.ret (mi_ireturn dX11_datumOf_51 rfl (Or.inl rfl))
  · refine Sg.go (pc' := 27) (mi_ifne_f (tgt := 50) dX11_datumOf_24 (by decide) h4) ?_
    refine Sg.go (pc' := 28) (mi_aload_n dX11_datumOf_27 rfl) ?_
    refine Sg.go (pc' := 29) (mi_iload_n dX11_datumOf_28 rfl) ?_
    refine Sg.go (pc' := 30) (mi_iconst (z := 0) dX11_datumOf_29 rfl) ?_
    refine Sg.go (pc' := 31) (mi_iconst (z := 2) dX11_datumOf_30 rfl) ?_
    refine Sg.callP (pc' := 34) (t := 0) (v := (B_X11_in v2 0 2)) (μ' := m_X11_in) (args := [(0, v2), (0, 0), (0, 2)]) (mi_invS (n := 3) dX11_datumOf_31 rfl wN_X11_in rfl ⟨by decide, by decide⟩ wL_X11_121 wT_X11_in wB_X11 wC_X11_in) (C_X11_in hL v2 0 2 D3) (Nat.le_of_ble_eq_true rfl) rfl rfl ?_
    refine Sg.ite (fun h5 => ?_) (fun h5 => ?_)
    · refine Sg.go (pc' := 41) (mi_ifne_t (tgt := 41) dX11_datumOf_34 (by decide) h5) ?_
      refine Sg.go (pc' := 42) (mi_iconst (z := 0) dX11_datumOf_41 rfl) ?_
      exact S_X11_datumOf_42 hL v1 v2 0 D3
    · refine Sg.go (pc' := 37) (mi_ifne_f (tgt := 41) dX11_datumOf_34 (by decide) h5) ?_
      refine Sg.go (pc' := 38) (mi_iconst (z := 1) dX11_datumOf_37 rfl) ?_
      refine Sg.go (pc' := 42) (mi_goto (tgt := 42) dX11_datumOf_38 (by decide)) ?_
      exact S_X11_datumOf_42 hL v1 v2 1 D3
def B_X11_datumOf (v1 : Int) (v2 : Int) (D : MiD) : Option (Int × MiD) := mi_let (mi_st D 40 0 0 0) fun D1 => if (B_X11_isDatum v1) ≠ 0 then (B_X11_datumOf_19 v1 v2 0 D1) else (B_X11_datumOf_19 v1 v2 1 D1)
set_option maxRecDepth 20000 in
theorem S_X11_datumOf {Z : MiZ} (hL : ML Z) (v1 v2 : Int) (D : MiD) : Sg m_X11_datumOf 0 [(42, 0), (0, v1), (0, v2), mi_un, mi_un] [] (D, Z) (mi_LD 0 Z) (B_X11_datumOf v1 v2 D) := by
  unfold B_X11_datumOf
  refine Sg.go (pc' := 1) (mi_aload_n dX11_datumOf_0 rfl) ?_
  refine Sg.go (pc' := 2) (mi_iconst (z := 0) dX11_datumOf_1 rfl) ?_
  refine Sg.goM (pc' := 5) (mi_pfD (r := 40) (k := 0) (t := 0) dX11_datumOf_2 hC_40 (by decide) rfl rfl wF_X11_78 (by omega) rfl (by decide) (Or.inl ⟨rfl, rfl⟩)) ?_
  refine Sg.letD (fun D1 hD1 => ?_)
  refine Sg.go (pc' := 6) (mi_aload_n dX11_datumOf_5 rfl) ?_
  refine Sg.go (pc' := 7) (mi_aload_n dX11_datumOf_6 rfl) ?_
  refine Sg.go (pc' := 8) (mi_iload_n dX11_datumOf_7 rfl) ?_
  refine Sg.callP (pc' := 11) (t := 0) (v := (B_X11_isDatum v1)) (μ' := m_X11_isDatum) (args := [(42, 0), (0, v1)]) (mi_invV (n := 1) (r := 40) dX11_datumOf_8 hC_40 (by omega) rfl rfl wN_X11_isDatum rfl ⟨by decide, by decide⟩ wL_X11_358 wI_X11_isDatum wS_X11_isDatum wB_X11 wC_X11_isDatum) (C_X11_isDatum hL v1 D1) (Nat.le_of_ble_eq_true rfl) rfl rfl ?_
  refine Sg.ite (fun h2 => ?_) (fun h2 => ?_)
  · refine Sg.go (pc' := 18) (mi_ifne_t (tgt := 18) dX11_datumOf_11 (by decide) h2) ?_
    refine Sg.go (pc' := 19) (mi_iconst (z := 0) dX11_datumOf_18 rfl) ?_
    exact S_X11_datumOf_19 hL v1 v2 0 D1
  · refine Sg.go (pc' := 14) (mi_ifne_f (tgt := 18) dX11_datumOf_11 (by decide) h2) ?_
    refine Sg.go (pc' := 15) (mi_iconst (z := 1) dX11_datumOf_14 rfl) ?_
    refine Sg.go (pc' := 19) (mi_goto (tgt := 19) dX11_datumOf_15 (by decide)) ?_
    exact S_X11_datumOf_19 hL v1 v2 1 D1
theorem C_X11_datumOf {Z : MiZ} (hL : ML Z) (a1 a2 : Int) (D : MiD) (b : Int × MiD) (hb : B_X11_datumOf a1 a2 D = some b) : MC m_X11_datumOf [(42, 0), (0, a1), (0, a2)] (D, Z) ((mi_LD 0 Z) b) := MC.ofSg (L := (mi_LD 0 Z)) (μ := m_X11_datumOf) (args := [(42, 0), (0, a1), (0, a2)]) (M := (D, Z)) rfl wP_X11 (Nat.le_of_ble_eq_true rfl) (show Sg m_X11_datumOf 0 [(42, 0), (0, a1), (0, a2), mi_un, mi_un] [] (D, Z) (mi_LD 0 Z) (B_X11_datumOf a1 a2 D) from S_X11_datumOf hL a1 a2 D) hb
abbrev m_X11_entry : MiI := (yX11_entry, cX11_entry, 3, (some .int), 3, none)
def B_X11_entry_38 : Nat → Int → Int → MiD → Option (Int × MiD)
  | 0, _, _, _ => none
  | f + 1, v1, v2, D => if v2 < 0 then (some ((-1), D)) else (if 0 ≤ v2 ∧ v2 < 8 then (if 0 ≤ (D 64 0 v2) ∧ (D 64 0 v2) < 9 then (if (B_X11_isBit (D 47 0 (D 64 0 v2)) v1) = 0 then (B_X11_entry_38 f v1 (mi_w (v2 + (-1))) D) else (some ((D 64 0 v2), D))) else none) else none)
set_option maxRecDepth 20000 in
theorem S_X11_entry_38 {Z : MiZ} (hL : ML Z) : ∀ (f : Nat) (v1 v2 : Int) (D : MiD), Sg m_X11_entry 38 [(42, 0), (0, v1), (0, v2)] [] (D, Z) (mi_LD 0 Z) (B_X11_entry_38 f v1 v2 D) := by
  intro f
  induction f with
  | zero => intros; exact Sg.nope
  | succ f K38 =>
    intro v1 v2 D
    show Sg m_X11_entry 38 [(42, 0), (0, v1), (0, v2)] [] (D, Z) (mi_LD 0 Z) (if v2 < 0 then (some ((-1), D)) else (if 0 ≤ v2 ∧ v2 < 8 then (if 0 ≤ (D 64 0 v2) ∧ (D 64 0 v2) < 9 then (if (B_X11_isBit (D 47 0 (D 64 0 v2)) v1) = 0 then (B_X11_entry_38 f v1 (mi_w (v2 + (-1))) D) else (some ((D 64 0 v2), D))) else none) else none))
    refine Sg.go (pc' := 39) (mi_iload_n dX11_entry_38 rfl) ?_
    refine Sg.ite (fun h1 => ?_) (fun h1 => ?_)
    · refine Sg.go (pc' := 73) (mi_iflt_t (tgt := 73) dX11_entry_39 (by decide) h1) ?_
      refine Sg.go (pc' := 74) (mi_iconst (z := (-1)) dX11_entry_73 rfl) ?_
      exact Sg.ret (mi_ireturn dX11_entry_74 rfl (Or.inl rfl))
    · refine Sg.go (pc' := 42) (mi_iflt_f (tgt := 73) dX11_entry_39 (by decide) h1) ?_
      refine Sg.go (pc' := 43) (mi_aload_n dX11_entry_42 rfl) ?_
      refine Sg.go (pc' := 46) (mi_gfA (t := 47) (v := 0) (r := 40) (k := 12) dX11_entry_43 hC_40 (by decide) rfl wF_X11_28 (by omega) rfl (hL.1 12 (by decide))) ?_
      refine Sg.go (pc' := 47) (mi_aload_n dX11_entry_46 rfl) ?_
      refine Sg.go (pc' := 50) (mi_gfA (t := 64) (v := 0) (r := 40) (k := 23) dX11_entry_47 hC_40 (by decide) rfl wF_X11_66 (by omega) rfl (hL.1 23 (by decide))) ?_
      refine Sg.go (pc' := 51) (mi_iload_n dX11_entry_50 rfl) ?_
      refine Sg.ck (fun hk2 => ?_)
      refine Sg.go (pc' := 52) (mi_iald (n := 8) dX11_entry_51 rfl rfl (by omega) hk2) ?_
      refine Sg.ck (fun hk3 => ?_)
      refine Sg.go (pc' := 53) (mi_iald (n := 9) dX11_entry_52 rfl rfl (by omega) hk3) ?_
      refine Sg.go (pc' := 54) (mi_iload_n dX11_entry_53 rfl) ?_
      refine Sg.callP (pc' := 57) (t := 0) (v := (B_X11_isBit (D 47 0 (D 64 0 v2)) v1)) (μ' := m_X11_isBit) (args := [(0, (D 47 0 (D 64 0 v2))), (0, v1)]) (mi_invS (n := 2) dX11_entry_54 rfl wN_X11_isBit rfl ⟨by decide, by decide⟩ wL_X11_248 wT_X11_isBit wB_X11 wC_X11_isBit) (C_X11_isBit hL (D 47 0 (D 64 0 v2)) v1 D) (Nat.le_of_ble_eq_true rfl) rfl rfl ?_
      refine Sg.ite (fun h4 => ?_) (fun h4 => ?_)
      · refine Sg.go (pc' := 67) (mi_ifeq_t (tgt := 67) dX11_entry_57 (by decide) h4) ?_
        refine Sg.go (pc' := 70) (mi_iinc (z := (-1)) (ls1 := [(42, 0), (0, v1), (0, (mi_w (v2 + (-1))))]) dX11_entry_67 (by decide) rfl rfl rfl) ?_
        refine Sg.go (pc' := 38) (mi_goto (tgt := 38) dX11_entry_70 (by decide)) ?_
        exact K38 v1 (mi_w (v2 + (-1))) D
      · refine Sg.go (pc' := 60) (mi_ifeq_f (tgt := 67) dX11_entry_57 (by decide) h4) ?_
        refine Sg.go (pc' := 61) (mi_aload_n dX11_entry_60 rfl) ?_
        refine Sg.go (pc' := 64) (mi_gfA (t := 64) (v := 0) (r := 40) (k := 23) dX11_entry_61 hC_40 (by decide) rfl wF_X11_66 (by omega) rfl (hL.1 23 (by decide))) ?_
        refine Sg.go (pc' := 65) (mi_iload_n dX11_entry_64 rfl) ?_
        refine Sg.go (pc' := 66) (mi_iald (n := 8) dX11_entry_65 rfl rfl (by omega) hk2) ?_
        exact Sg.ret (mi_ireturn dX11_entry_66 rfl (Or.inl rfl))
def B_X11_entry_19 (v1 : Int) (s1 : Int) (D : MiD) : Option (Int × MiD) := if s1 = 0 ∨ s1 = 1 then (mi_b2 (B_X11_bad s1 1 0 D) fun y2 D3 => if y2 = 0 then (mi_let (mi_w ((D3 65 0 0) - 1)) fun x5 => B_X11_entry_38 mi_fuel v1 x5 D3) else (some (0, D3))) else none
set_option maxRecDepth 20000 in
theorem S_X11_entry_19 {Z : MiZ} (hL : ML Z) (v1 s1 : Int) (D : MiD) : Sg m_X11_entry 19 [(42, 0), (0, v1), mi_un] [(0, s1), (42, 0)] (D, Z) (mi_LD 0 Z) (B_X11_entry_19 v1 s1 D) := by
  unfold B_X11_entry_19
  refine Sg.go (pc' := 20) (mi_iconst (z := 1) dX11_entry_19 rfl) ?_
  refine Sg.go (pc' := 21) (mi_iconst (z := 0) dX11_entry_20 rfl) ?_
  refine Sg.ck (fun hk1 => ?_)
  refine Sg.callD (pc' := 24) (t := 0) (μ' := m_X11_bad) (args := [(42, 0), (0, s1), (0, 1), (0, 0)]) (mi_invV (n := 3) (r := 40) dX11_entry_21 hC_40 (by omega) rfl rfl wN_X11_bad rfl ⟨by decide, by decide⟩ wL_X11_229 wI_X11_bad wS_X11_bad wB_X11 wC_X11_bad) (fun v hv => C_X11_bad hL s1 1 0 D (hk1) v hv) (Nat.le_of_ble_eq_true rfl) rfl rfl (fun y2 D3 => ?_)
  refine Sg.ite (fun h4 => ?_) (fun h4 => ?_)
  · refine Sg.go (pc' := 29) (mi_ifeq_t (tgt := 29) dX11_entry_24 (by decide) h4) ?_
    refine Sg.go (pc' := 30) (mi_aload_n dX11_entry_29 rfl) ?_
    refine Sg.go (pc' := 33) (mi_gfA (t := 65) (v := 0) (r := 40) (k := 24) dX11_entry_30 hC_40 (by decide) rfl wF_X11_69 (by omega) rfl (hL.1 24 (by decide))) ?_
    refine Sg.go (pc' := 34) (mi_iconst (z := 0) dX11_entry_33 rfl) ?_
    refine Sg.go (pc' := 35) (mi_iald (n := 8) dX11_entry_34 rfl rfl (by omega) (by decide)) ?_
    refine Sg.go (pc' := 36) (mi_iconst (z := 1) dX11_entry_35 rfl) ?_
    refine Sg.go (pc' := 37) (mi_isub dX11_entry_36) ?_
    refine Sg.letI (fun x5 hx5 => ?_)
    refine Sg.go (pc' := 38) (mi_istore_n (ls1 := [(42, 0), (0, v1), (0, x5)]) dX11_entry_37 (by decide) rfl) ?_
    exact S_X11_entry_38 hL mi_fuel v1 x5 D3
  · refine Sg.go (pc' := 27) (mi_ifeq_f (tgt := 29) dX11_entry_24 (by decide) h4) ?_
    refine Sg.go (pc' := 28) (mi_iconst (z := 0) dX11_entry_27 rfl) ?_
    exact Sg.ret (mi_ireturn dX11_entry_28 rfl (Or.inl rfl))
def B_X11_entry (v1 : Int) (D : MiD) : Option (Int × MiD) := mi_let (mi_st D 40 0 0 0) fun D1 => if (B_X11_isFunction v1) ≠ 0 then (B_X11_entry_19 v1 0 D1) else (B_X11_entry_19 v1 1 D1)
set_option maxRecDepth 20000 in
theorem S_X11_entry {Z : MiZ} (hL : ML Z) (v1 : Int) (D : MiD) : Sg m_X11_entry 0 [(42, 0), (0, v1), mi_un] [] (D, Z) (mi_LD 0 Z) (B_X11_entry v1 D) := by
  unfold B_X11_entry
  refine Sg.go (pc' := 1) (mi_aload_n dX11_entry_0 rfl) ?_
  refine Sg.go (pc' := 2) (mi_iconst (z := 0) dX11_entry_1 rfl) ?_
  refine Sg.goM (pc' := 5) (mi_pfD (r := 40) (k := 0) (t := 0) dX11_entry_2 hC_40 (by decide) rfl rfl wF_X11_78 (by omega) rfl (by decide) (Or.inl ⟨rfl, rfl⟩)) ?_
  refine Sg.letD (fun D1 hD1 => ?_)
  refine Sg.go (pc' := 6) (mi_aload_n dX11_entry_5 rfl) ?_
  refine Sg.go (pc' := 7) (mi_aload_n dX11_entry_6 rfl) ?_
  refine Sg.go (pc' := 8) (mi_iload_n dX11_entry_7 rfl) ?_
  refine Sg.callP (pc' := 11) (t := 0) (v := (B_X11_isFunction v1)) (μ' := m_X11_isFunction) (args := [(42, 0), (0, v1)]) (mi_invV (n := 1) (r := 40) dX11_entry_8 hC_40 (by omega) rfl rfl wN_X11_isFunction rfl ⟨by decide, by decide⟩ wL_X11_226 wI_X11_isFunction wS_X11_isFunction wB_X11 wC_X11_isFunction) (C_X11_isFunction hL v1 D1) (Nat.le_of_ble_eq_true rfl) rfl rfl ?_
  refine Sg.ite (fun h2 => ?_) (fun h2 => ?_)
  · refine Sg.go (pc' := 18) (mi_ifne_t (tgt := 18) dX11_entry_11 (by decide) h2) ?_
    refine Sg.go (pc' := 19) (mi_iconst (z := 0) dX11_entry_18 rfl) ?_
    exact S_X11_entry_19 hL v1 0 D1
  · refine Sg.go (pc' := 14) (mi_ifne_f (tgt := 18) dX11_entry_11 (by decide) h2) ?_
    refine Sg.go (pc' := 15) (mi_iconst (z := 1) dX11_entry_14 rfl) ?_
    refine Sg.go (pc' := 19) (mi_goto (tgt := 19) dX11_entry_15 (by decide)) ?_
    exact S_X11_entry_19 hL v1 1 D1
theorem C_X11_entry {Z : MiZ} (hL : ML Z) (a1 : Int) (D : MiD) (b : Int × MiD) (hb : B_X11_entry a1 D = some b) : MC m_X11_entry [(42, 0), (0, a1)] (D, Z) ((mi_LD 0 Z) b) := MC.ofSg (L := (mi_LD 0 Z)) (μ := m_X11_entry) (args := [(42, 0), (0, a1)]) (M := (D, Z)) rfl wP_X11 (Nat.le_of_ble_eq_true rfl) (show Sg m_X11_entry 0 [(42, 0), (0, a1), mi_un] [] (D, Z) (mi_LD 0 Z) (B_X11_entry a1 D) from S_X11_entry hL a1 D) hb
abbrev m_X11_frame : MiI := (yX11_frame, cX11_frame, 5, (some .int), 3, none)
def B_X11_frame_72 (v1 : Int) (v2 : Int) (v3 : Int) (s1 : Int) (D : MiD) : Option (Int × MiD) := if s1 = 0 ∨ s1 = 1 then (mi_b2 (B_X11_bad s1 2 1 D) fun y2 D3 => if y2 = 0 then (if 0 ≤ v1 ∧ v1 < 6 then (if 0 ≤ v1 ∧ v1 < 7 then (if 0 ≤ (mi_w ((mi_w ((D3 59 v1 0) - 1)) - v2)) ∧ (mi_w ((mi_w ((D3 59 v1 0) - 1)) - v2)) < 10 then (if 0 ≤ v3 ∧ v3 < 4 then (some ((D3 63 (10 * v1 + (mi_w ((mi_w ((D3 59 v1 0) - 1)) - v2))) v3), D3)) else none) else none) else none) else none) else (some (0, D3))) else none
set_option maxRecDepth 20000 in
theorem S_X11_frame_72 {Z : MiZ} (hL : ML Z) (v1 v2 v3 s1 : Int) (D : MiD) : Sg m_X11_frame 72 [(42, 0), (0, v1), (0, v2), (0, v3), mi_un] [(0, s1), (42, 0)] (D, Z) (mi_LD 0 Z) (B_X11_frame_72 v1 v2 v3 s1 D) := by
  unfold B_X11_frame_72
  refine Sg.go (pc' := 73) (mi_iconst (z := 2) dX11_frame_72 rfl) ?_
  refine Sg.go (pc' := 74) (mi_iconst (z := 1) dX11_frame_73 rfl) ?_
  refine Sg.ck (fun hk1 => ?_)
  refine Sg.callD (pc' := 77) (t := 0) (μ' := m_X11_bad) (args := [(42, 0), (0, s1), (0, 2), (0, 1)]) (mi_invV (n := 3) (r := 40) dX11_frame_74 hC_40 (by omega) rfl rfl wN_X11_bad rfl ⟨by decide, by decide⟩ wL_X11_229 wI_X11_bad wS_X11_bad wB_X11 wC_X11_bad) (fun v hv => C_X11_bad hL s1 2 1 D (hk1) v hv) (Nat.le_of_ble_eq_true rfl) rfl rfl (fun y2 D3 => ?_)
  refine Sg.ite (fun h4 => ?_) (fun h4 => ?_)
  · refine Sg.go (pc' := 82) (mi_ifeq_t (tgt := 82) dX11_frame_77 (by decide) h4) ?_
    refine Sg.go (pc' := 83) (mi_aload_n dX11_frame_82 rfl) ?_
    refine Sg.go (pc' := 86) (mi_gfA (t := 61) (v := 0) (r := 40) (k := 22) dX11_frame_83 hC_40 (by decide) rfl wF_X11_63 (by omega) rfl (hL.1 22 (by decide))) ?_
    refine Sg.go (pc' := 87) (mi_iload_n dX11_frame_86 rfl) ?_
    refine Sg.ck (fun hk5 => ?_)
    refine Sg.go (pc' := 88) (mi_aald (n := 6) (t := 62) (v := v1) dX11_frame_87 rfl hA_61 rfl (by omega) hk5 rfl (hL.2.2.2.2.2.2.2.1 _ hk5.1 hk5.2)) ?_
    refine Sg.go (pc' := 89) (mi_aload_n dX11_frame_88 rfl) ?_
    refine Sg.go (pc' := 92) (mi_gfA (t := 58) (v := 0) (r := 40) (k := 20) dX11_frame_89 hC_40 (by decide) rfl wF_X11_56 (by omega) rfl (hL.1 20 (by decide))) ?_
    refine Sg.go (pc' := 93) (mi_iload_n dX11_frame_92 rfl) ?_
    refine Sg.ck (fun hk6 => ?_)
    refine Sg.go (pc' := 94) (mi_aald (n := 7) (t := 59) (v := v1) dX11_frame_93 rfl hA_58 rfl (by omega) hk6 rfl (hL.2.2.2.2.2.2.1 _ hk6.1 hk6.2)) ?_
    refine Sg.go (pc' := 95) (mi_iconst (z := 0) dX11_frame_94 rfl) ?_
    refine Sg.go (pc' := 96) (mi_iald (n := 7) dX11_frame_95 rfl rfl (by omega) (by decide)) ?_
    refine Sg.go (pc' := 97) (mi_iconst (z := 1) dX11_frame_96 rfl) ?_
    refine Sg.go (pc' := 98) (mi_isub dX11_frame_97) ?_
    refine Sg.go (pc' := 99) (mi_iload_n dX11_frame_98 rfl) ?_
    refine Sg.go (pc' := 100) (mi_isub dX11_frame_99) ?_
    refine Sg.ck (fun hk7 => ?_)
    refine Sg.go (pc' := 101) (mi_aald (n := 10) (t := 63) (v := (10 * v1 + (mi_w ((mi_w ((D3 59 v1 0) - 1)) - v2)))) dX11_frame_100 rfl hA_62 rfl (by omega) hk7 rfl (hL.2.2.2.2.2.2.2.2 _ _ (by omega) (by omega) hk7.1 hk7.2)) ?_
    refine Sg.go (pc' := 102) (mi_iload_n dX11_frame_101 rfl) ?_
    refine Sg.ck (fun hk8 => ?_)
    refine Sg.go (pc' := 103) (mi_iald (n := 4) dX11_frame_102 rfl rfl (by omega) hk8) ?_
    exact Sg.ret (mi_ireturn dX11_frame_103 rfl (Or.inl rfl))
  · refine Sg.go (pc' := 80) (mi_ifeq_f (tgt := 82) dX11_frame_77 (by decide) h4) ?_
    refine Sg.go (pc' := 81) (mi_iconst (z := 0) dX11_frame_80 rfl) ?_
    exact Sg.ret (mi_ireturn dX11_frame_81 rfl (Or.inl rfl))
def B_X11_frame_49 (v1 : Int) (v2 : Int) (v3 : Int) (s1 : Int) (D : MiD) : Option (Int × MiD) := if s1 = 0 ∨ s1 = 1 then (mi_b2 (B_X11_bad s1 1 0 D) fun y2 D3 => if y2 ≠ 0 then (some (0, D3)) else (if (B_X11_in v3 0 3) ≠ 0 then (B_X11_frame_72 v1 v2 v3 0 D3) else (B_X11_frame_72 v1 v2 v3 1 D3))) else none
set_option maxRecDepth 20000 in
theorem S_X11_frame_49 {Z : MiZ} (hL : ML Z) (v1 v2 v3 s1 : Int) (D : MiD) : Sg m_X11_frame 49 [(42, 0), (0, v1), (0, v2), (0, v3), mi_un] [(0, s1), (42, 0)] (D, Z) (mi_LD 0 Z) (B_X11_frame_49 v1 v2 v3 s1 D) := by
  unfold B_X11_frame_49
  refine Sg.go (pc' := 50) (mi_iconst (z := 1) dX11_frame_49 rfl) ?_
  refine Sg.go (pc' := 51) (mi_iconst (z := 0) dX11_frame_50 rfl) ?_
  refine Sg.ck (fun hk1 => ?_)
  refine Sg.callD (pc' := 54) (t := 0) (μ' := m_X11_bad) (args := [(42, 0), (0, s1), (0, 1), (0, 0)]) (mi_invV (n := 3) (r := 40) dX11_frame_51 hC_40 (by omega) rfl rfl wN_X11_bad rfl ⟨by decide, by decide⟩ wL_X11_229 wI_X11_bad wS_X11_bad wB_X11 wC_X11_bad) (fun v hv => C_X11_bad hL s1 1 0 D (hk1) v hv) (Nat.le_of_ble_eq_true rfl) rfl rfl (fun y2 D3 => ?_)
  refine Sg.ite (fun h4 => ?_) (fun h4 => ?_)
  · refine Sg.go (pc' := 80) (mi_ifne_t (tgt := 80) dX11_frame_54 (by decide) h4) ?_
    refine Sg.go (pc' := 81) (mi_iconst (z := 0) dX11_frame_80 rfl) ?_
    exact Sg.ret (mi_ireturn dX11_frame_81 rfl (Or.inl rfl))
  · refine Sg.go (pc' := 57) (mi_ifne_f (tgt := 80) dX11_frame_54 (by decide) h4) ?_
    refine Sg.go (pc' := 58) (mi_aload_n dX11_frame_57 rfl) ?_
    refine Sg.go (pc' := 59) (mi_iload_n dX11_frame_58 rfl) ?_
    refine Sg.go (pc' := 60) (mi_iconst (z := 0) dX11_frame_59 rfl) ?_
    refine Sg.go (pc' := 61) (mi_iconst (z := 3) dX11_frame_60 rfl) ?_
    refine Sg.callP (pc' := 64) (t := 0) (v := (B_X11_in v3 0 3)) (μ' := m_X11_in) (args := [(0, v3), (0, 0), (0, 3)]) (mi_invS (n := 3) dX11_frame_61 rfl wN_X11_in rfl ⟨by decide, by decide⟩ wL_X11_121 wT_X11_in wB_X11 wC_X11_in) (C_X11_in hL v3 0 3 D3) (Nat.le_of_ble_eq_true rfl) rfl rfl ?_
    refine Sg.ite (fun h5 => ?_) (fun h5 => ?_)
    · refine Sg.go (pc' := 71) (mi_ifne_t (tgt := 71) dX11_frame_64 (by decide) h5) ?_
      refine Sg.go (pc' := 72) (mi_iconst (z := 0) dX11_frame_71 rfl) ?_
      exact S_X11_frame_72 hL v1 v2 v3 0 D3
    · refine Sg.go (pc' := 67) (mi_ifne_f (tgt := 71) dX11_frame_64 (by decide) h5) ?_
      refine Sg.go (pc' := 68) (mi_iconst (z := 1) dX11_frame_67 rfl) ?_
      refine Sg.go (pc' := 72) (mi_goto (tgt := 72) dX11_frame_68 (by decide)) ?_
      exact S_X11_frame_72 hL v1 v2 v3 1 D3
def B_X11_frame_36 (v1 : Int) (v2 : Int) (v3 : Int) (s0 : Int) (D : MiD) : Option (Int × MiD) := if s0 ≠ 0 then (B_X11_frame_49 v1 v2 v3 0 D) else (B_X11_frame_49 v1 v2 v3 1 D)
set_option maxRecDepth 20000 in
theorem S_X11_frame_36 {Z : MiZ} (hL : ML Z) (v1 v2 v3 s0 : Int) (D : MiD) : Sg m_X11_frame 36 [(42, 0), (0, v1), (0, v2), (0, v3), mi_un] [(0, s0)] (D, Z) (mi_LD 0 Z) (B_X11_frame_36 v1 v2 v3 s0 D) := by
  unfold B_X11_frame_36
  refine Sg.go (pc' := 38) (mi_istore (ls1 := [(42, 0), (0, v1), (0, v2), (0, v3), (0, s0)]) dX11_frame_36 (by decide) rfl) ?_
  refine Sg.go (pc' := 39) (mi_aload_n dX11_frame_38 rfl) ?_
  refine Sg.go (pc' := 41) (mi_iload dX11_frame_39 rfl) ?_
  refine Sg.ite (fun h1 => ?_) (fun h1 => ?_)
  · refine Sg.go (pc' := 48) (mi_ifne_t (tgt := 48) dX11_frame_41 (by decide) h1) ?_
    refine Sg.go (pc' := 49) (mi_iconst (z := 0) dX11_frame_48 rfl) ?_
    refine Sg.go (pc' := 49) (MiStep.weak (ls' := [(42, 0), (0, v1), (0, v2), (0, v3), mi_un]) (mi_wk_y (mi_wk_y (mi_wk_y (mi_wk_y (mi_wk_n mi_wk_0)))))) ?_
    exact S_X11_frame_49 hL v1 v2 v3 0 D
  · refine Sg.go (pc' := 44) (mi_ifne_f (tgt := 48) dX11_frame_41 (by decide) h1) ?_
    refine Sg.go (pc' := 45) (mi_iconst (z := 1) dX11_frame_44 rfl) ?_
    refine Sg.go (pc' := 49) (mi_goto (tgt := 49) dX11_frame_45 (by decide)) ?_
    refine Sg.go (pc' := 49) (MiStep.weak (ls' := [(42, 0), (0, v1), (0, v2), (0, v3), mi_un]) (mi_wk_y (mi_wk_y (mi_wk_y (mi_wk_y (mi_wk_n mi_wk_0)))))) ?_
    exact S_X11_frame_49 hL v1 v2 v3 1 D
def B_X11_frame_35 (v1 : Int) (v2 : Int) (v3 : Int) (D : MiD) : Option (Int × MiD) := B_X11_frame_36 v1 v2 v3 0 D
set_option maxRecDepth 20000 in
theorem S_X11_frame_35 {Z : MiZ} (hL : ML Z) (v1 v2 v3 : Int) (D : MiD) : Sg m_X11_frame 35 [(42, 0), (0, v1), (0, v2), (0, v3), mi_un] [] (D, Z) (mi_LD 0 Z) (B_X11_frame_35 v1 v2 v3 D) := by
  unfold B_X11_frame_35
  refine Sg.go (pc' := 36) (mi_iconst (z := 0) dX11_frame_35 rfl) ?_
  exact S_X11_frame_36 hL v1 v2 v3 0 D
def B_X11_frame (v1 : Int) (v2 : Int) (v3 : Int) (D : MiD) : Option (Int × MiD) := mi_let (mi_st D 40 0 0 0) fun D1 => if (B_X11_isTask v1) = 0 then (B_X11_frame_35 v1 v2 v3 D1) else (if 0 ≤ v1 ∧ v1 < 7 then (if (B_X11_in v2 0 (mi_w ((D1 59 v1 0) - 1))) = 0 then (B_X11_frame_35 v1 v2 v3 D1) else (B_X11_frame_36 v1 v2 v3 1 D1)) else none)
set_option maxRecDepth 20000 in
theorem S_X11_frame {Z : MiZ} (hL : ML Z) (v1 v2 v3 : Int) (D : MiD) : Sg m_X11_frame 0 [(42, 0), (0, v1), (0, v2), (0, v3), mi_un] [] (D, Z) (mi_LD 0 Z) (B_X11_frame v1 v2 v3 D) := by
  unfold B_X11_frame
  refine Sg.go (pc' := 1) (mi_aload_n dX11_frame_0 rfl) ?_
  refine Sg.go (pc' := 2) (mi_iconst (z := 0) dX11_frame_1 rfl) ?_
  refine Sg.goM (pc' := 5) (mi_pfD (r := 40) (k := 0) (t := 0) dX11_frame_2 hC_40 (by decide) rfl rfl wF_X11_78 (by omega) rfl (by decide) (Or.inl ⟨rfl, rfl⟩)) ?_
  refine Sg.letD (fun D1 hD1 => ?_)
  refine Sg.go (pc' := 6) (mi_aload_n dX11_frame_5 rfl) ?_
  refine Sg.go (pc' := 7) (mi_iload_n dX11_frame_6 rfl) ?_
  refine Sg.callP (pc' := 10) (t := 0) (v := (B_X11_isTask v1)) (μ' := m_X11_isTask) (args := [(42, 0), (0, v1)]) (mi_invV (n := 1) (r := 40) dX11_frame_7 hC_40 (by omega) rfl rfl wN_X11_isTask rfl ⟨by decide, by decide⟩ wL_X11_398 wI_X11_isTask wS_X11_isTask wB_X11 wC_X11_isTask) (C_X11_isTask hL v1 D1) (Nat.le_of_ble_eq_true rfl) rfl rfl ?_
  refine Sg.ite (fun h2 => ?_) (fun h2 => ?_)
  · refine Sg.go (pc' := 35) (mi_ifeq_t (tgt := 35) dX11_frame_10 (by decide) h2) ?_
    exact S_X11_frame_35 hL v1 v2 v3 D1
  · refine Sg.go (pc' := 13) (mi_ifeq_f (tgt := 35) dX11_frame_10 (by decide) h2) ?_
    refine Sg.go (pc' := 14) (mi_iload_n dX11_frame_13 rfl) ?_
    refine Sg.go (pc' := 15) (mi_iconst (z := 0) dX11_frame_14 rfl) ?_
    refine Sg.go (pc' := 16) (mi_aload_n dX11_frame_15 rfl) ?_
    refine Sg.go (pc' := 19) (mi_gfA (t := 58) (v := 0) (r := 40) (k := 20) dX11_frame_16 hC_40 (by decide) rfl wF_X11_56 (by omega) rfl (hL.1 20 (by decide))) ?_
    refine Sg.go (pc' := 20) (mi_iload_n dX11_frame_19 rfl) ?_
    refine Sg.ck (fun hk3 => ?_)
    refine Sg.go (pc' := 21) (mi_aald (n := 7) (t := 59) (v := v1) dX11_frame_20 rfl hA_58 rfl (by omega) hk3 rfl (hL.2.2.2.2.2.2.1 _ hk3.1 hk3.2)) ?_
    refine Sg.go (pc' := 22) (mi_iconst (z := 0) dX11_frame_21 rfl) ?_
    refine Sg.go (pc' := 23) (mi_iald (n := 7) dX11_frame_22 rfl rfl (by omega) (by decide)) ?_
    refine Sg.go (pc' := 24) (mi_iconst (z := 1) dX11_frame_23 rfl) ?_
    refine Sg.go (pc' := 25) (mi_isub dX11_frame_24) ?_
    refine Sg.callP (pc' := 28) (t := 0) (v := (B_X11_in v2 0 (mi_w ((D1 59 v1 0) - 1)))) (μ' := m_X11_in) (args := [(0, v2), (0, 0), (0, (mi_w ((D1 59 v1 0) - 1)))]) (mi_invS (n := 3) dX11_frame_25 rfl wN_X11_in rfl ⟨by decide, by decide⟩ wL_X11_121 wT_X11_in wB_X11 wC_X11_in) (C_X11_in hL v2 0 (mi_w ((D1 59 v1 0) - 1)) D1) (Nat.le_of_ble_eq_true rfl) rfl rfl ?_
    refine Sg.ite (fun h4 => ?_) (fun h4 => ?_)
    · refine Sg.go (pc' := 35) (mi_ifeq_t (tgt := 35) dX11_frame_28 (by decide) h4) ?_
      exact S_X11_frame_35 hL v1 v2 v3 D1
    · refine Sg.go (pc' := 31) (mi_ifeq_f (tgt := 35) dX11_frame_28 (by decide) h4) ?_
      refine Sg.go (pc' := 32) (mi_iconst (z := 1) dX11_frame_31 rfl) ?_
      refine Sg.go (pc' := 36) (mi_goto (tgt := 36) dX11_frame_32 (by decide)) ?_
      exact S_X11_frame_36 hL v1 v2 v3 1 D1
theorem C_X11_frame {Z : MiZ} (hL : ML Z) (a1 a2 a3 : Int) (D : MiD) (b : Int × MiD) (hb : B_X11_frame a1 a2 a3 D = some b) : MC m_X11_frame [(42, 0), (0, a1), (0, a2), (0, a3)] (D, Z) ((mi_LD 0 Z) b) := MC.ofSg (L := (mi_LD 0 Z)) (μ := m_X11_frame) (args := [(42, 0), (0, a1), (0, a2), (0, a3)]) (M := (D, Z)) rfl wP_X11 (Nat.le_of_ble_eq_true rfl) (show Sg m_X11_frame 0 [(42, 0), (0, a1), (0, a2), (0, a3), mi_un] [] (D, Z) (mi_LD 0 Z) (B_X11_frame a1 a2 a3 D) from S_X11_frame hL a1 a2 a3 D) hb
abbrev m_X11_gets : MiI := (yX11_gets, cX11_gets, 4, (some .int), 3, none)
def B_X11_gets (v1 : Int) (v2 : Int) (v3 : Int) (D : MiD) : Option (Int × MiD) := mi_bi (B_X11_isGone D v2) fun y1 => if y1 = 0 then (if 0 ≤ v2 ∧ v2 < 61 then (if (D 52 0 v2) ≤ 7 then (if v3 < (D 53 0 v2) then (if (B_X11_widens (D 52 0 v2) v1) ≠ 0 then (mi_let (mi_st D 40 0 25 v1) fun D7 => if 0 ≤ v3 ∧ v3 < 9 then (mi_let (mi_st D7 40 0 26 (B_X11_as (D7 52 0 v2) (D7 57 v2 v3) v1)) fun D9 => some (0, D9)) else none) else (some (2, D))) else (some (1, D))) else (some (2, D))) else none) else (some (3, D))
set_option maxRecDepth 20000 in
theorem S_X11_gets {Z : MiZ} (hL : ML Z) (v1 v2 v3 : Int) (D : MiD) : Sg m_X11_gets 0 [(42, 0), (0, v1), (0, v2), (0, v3)] [] (D, Z) (mi_LD 0 Z) (B_X11_gets v1 v2 v3 D) := by
  unfold B_X11_gets
  refine Sg.go (pc' := 1) (mi_aload_n dX11_gets_0 rfl) ?_
  refine Sg.go (pc' := 2) (mi_iload_n dX11_gets_1 rfl) ?_
  refine Sg.callI (pc' := 5) (t := 0) (μ' := m_X11_isGone) (args := [(42, 0), (0, v2)]) (mi_invV (n := 1) (r := 40) dX11_gets_2 hC_40 (by omega) rfl rfl wN_X11_isGone rfl ⟨by decide, by decide⟩ wL_X11_287 wI_X11_isGone wS_X11_isGone wB_X11 wC_X11_isGone) (fun v hv => C_X11_isGone hL v2 D v hv) (Nat.le_of_ble_eq_true rfl) rfl rfl (fun y1 => ?_)
  refine Sg.ite (fun h2 => ?_) (fun h2 => ?_)
  · refine Sg.go (pc' := 10) (mi_ifeq_t (tgt := 10) dX11_gets_5 (by decide) h2) ?_
    refine Sg.go (pc' := 11) (mi_aload_n dX11_gets_10 rfl) ?_
    refine Sg.go (pc' := 14) (mi_gfA (t := 52) (v := 0) (r := 40) (k := 16) dX11_gets_11 hC_40 (by decide) rfl wF_X11_42 (by omega) rfl (hL.1 16 (by decide))) ?_
    refine Sg.go (pc' := 15) (mi_iload_n dX11_gets_14 rfl) ?_
    refine Sg.ck (fun hk3 => ?_)
    refine Sg.go (pc' := 16) (mi_iald (n := 61) dX11_gets_15 rfl rfl (by omega) hk3) ?_
    refine Sg.go (pc' := 18) (mi_bipush (z := 7) dX11_gets_16 rfl) ?_
    refine Sg.ite (fun h4 => ?_) (fun h4 => ?_)
    · refine Sg.go (pc' := 23) (mi_icmple_t (tgt := 23) dX11_gets_18 (by decide) h4) ?_
      refine Sg.go (pc' := 24) (mi_iload_n dX11_gets_23 rfl) ?_
      refine Sg.go (pc' := 25) (mi_aload_n dX11_gets_24 rfl) ?_
      refine Sg.go (pc' := 28) (mi_gfA (t := 53) (v := 0) (r := 40) (k := 17) dX11_gets_25 hC_40 (by decide) rfl wF_X11_45 (by omega) rfl (hL.1 17 (by decide))) ?_
      refine Sg.go (pc' := 29) (mi_iload_n dX11_gets_28 rfl) ?_
      refine Sg.go (pc' := 30) (mi_iald (n := 61) dX11_gets_29 rfl rfl (by omega) hk3) ?_
      refine Sg.ite (fun h5 => ?_) (fun h5 => ?_)
      · refine Sg.go (pc' := 35) (mi_icmplt_t (tgt := 35) dX11_gets_30 (by decide) h5) ?_
        refine Sg.go (pc' := 36) (mi_aload_n dX11_gets_35 rfl) ?_
        refine Sg.go (pc' := 39) (mi_gfA (t := 52) (v := 0) (r := 40) (k := 16) dX11_gets_36 hC_40 (by decide) rfl wF_X11_42 (by omega) rfl (hL.1 16 (by decide))) ?_
        refine Sg.go (pc' := 40) (mi_iload_n dX11_gets_39 rfl) ?_
        refine Sg.go (pc' := 41) (mi_iald (n := 61) dX11_gets_40 rfl rfl (by omega) hk3) ?_
        refine Sg.go (pc' := 42) (mi_iload_n dX11_gets_41 rfl) ?_
        refine Sg.callP (pc' := 45) (t := 0) (v := (B_X11_widens (D 52 0 v2) v1)) (μ' := m_X11_widens) (args := [(0, (D 52 0 v2)), (0, v1)]) (mi_invS (n := 2) dX11_gets_42 rfl wN_X11_widens rfl ⟨by decide, by decide⟩ wL_X11_290 wT_X11_widens wB_X11 wC_X11_widens) (C_X11_widens hL (D 52 0 v2) v1 D) (Nat.le_of_ble_eq_true rfl) rfl rfl ?_
        refine Sg.ite (fun h6 => ?_) (fun h6 => ?_)
        · refine Sg.go (pc' := 50) (mi_ifne_t (tgt := 50) dX11_gets_45 (by decide) h6) ?_
          refine Sg.go (pc' := 51) (mi_aload_n dX11_gets_50 rfl) ?_
          refine Sg.go (pc' := 52) (mi_iload_n dX11_gets_51 rfl) ?_
          refine Sg.goM (pc' := 55) (mi_pfD (r := 40) (k := 25) (t := 0) dX11_gets_52 hC_40 (by decide) rfl rfl wF_X11_293 (by omega) rfl (by decide) (Or.inl ⟨rfl, rfl⟩)) ?_
          refine Sg.letD (fun D7 hD7 => ?_)
          refine Sg.go (pc' := 56) (mi_aload_n dX11_gets_55 rfl) ?_
          refine Sg.go (pc' := 57) (mi_aload_n dX11_gets_56 rfl) ?_
          refine Sg.go (pc' := 60) (mi_gfA (t := 52) (v := 0) (r := 40) (k := 16) dX11_gets_57 hC_40 (by decide) rfl wF_X11_42 (by omega) rfl (hL.1 16 (by decide))) ?_
          refine Sg.go (pc' := 61) (mi_iload_n dX11_gets_60 rfl) ?_
          refine Sg.go (pc' := 62) (mi_iald (n := 61) dX11_gets_61 rfl rfl (by omega) hk3) ?_
          refine Sg.go (pc' := 63) (mi_aload_n dX11_gets_62 rfl) ?_
          refine Sg.go (pc' := 66) (mi_gfA (t := 56) (v := 0) (r := 40) (k := 19) dX11_gets_63 hC_40 (by decide) rfl wF_X11_53 (by omega) rfl (hL.1 19 (by decide))) ?_
          refine Sg.go (pc' := 67) (mi_iload_n dX11_gets_66 rfl) ?_
          refine Sg.go (pc' := 68) (mi_aald (n := 61) (t := 57) (v := v2) dX11_gets_67 rfl hA_56 rfl (by omega) hk3 rfl (hL.2.2.2.2.2.1 _ hk3.1 hk3.2)) ?_
          refine Sg.go (pc' := 69) (mi_iload_n dX11_gets_68 rfl) ?_
          refine Sg.ck (fun hk8 => ?_)
          refine Sg.go (pc' := 70) (mi_lald (n := 9) dX11_gets_69 rfl rfl (by omega) hk8) ?_
          refine Sg.go (pc' := 71) (mi_iload_n dX11_gets_70 rfl) ?_
          refine Sg.callP (pc' := 74) (t := 1) (v := (B_X11_as (D7 52 0 v2) (D7 57 v2 v3) v1)) (μ' := m_X11_as) (args := [(0, (D7 52 0 v2)), (1, (D7 57 v2 v3)), (0, v1)]) (mi_invS (n := 3) dX11_gets_71 rfl wN_X11_as rfl ⟨by decide, by decide⟩ wL_X11_296 wT_X11_as wB_X11 wC_X11_as) (C_X11_as hL (D7 52 0 v2) (D7 57 v2 v3) v1 D7) (Nat.le_of_ble_eq_true rfl) rfl rfl ?_
          refine Sg.goM (pc' := 77) (mi_pfD (r := 40) (k := 26) (t := 1) dX11_gets_74 hC_40 (by decide) rfl rfl wF_X11_300 (by omega) rfl (by decide) (Or.inr (Or.inl ⟨rfl, rfl⟩))) ?_
          refine Sg.letD (fun D9 hD9 => ?_)
          refine Sg.go (pc' := 78) (mi_iconst (z := 0) dX11_gets_77 rfl) ?_
          exact Sg.ret (mi_ireturn dX11_gets_78 rfl (Or.inl rfl))
        · refine Sg.go (pc' := 48) (mi_ifne_f (tgt := 50) dX11_gets_45 (by decide) h6) ?_
          refine Sg.go (pc' := 49) (mi_iconst (z := 2) dX11_gets_48 rfl) ?_
          exact Sg.ret (mi_ireturn dX11_gets_49 rfl (Or.inl rfl))
      · refine Sg.go (pc' := 33) (mi_icmplt_f (tgt := 35) dX11_gets_30 (by decide) h5) ?_
        refine Sg.go (pc' := 34) (mi_iconst (z := 1) dX11_gets_33 rfl) ?_
        exact Sg.ret (mi_ireturn dX11_gets_34 rfl (Or.inl rfl))
    · refine Sg.go (pc' := 21) (mi_icmple_f (tgt := 23) dX11_gets_18 (by decide) h4) ?_
      refine Sg.go (pc' := 22) (mi_iconst (z := 2) dX11_gets_21 rfl) ?_
      exact Sg.ret (mi_ireturn dX11_gets_22 rfl (Or.inl rfl))
  · refine Sg.go (pc' := 8) (mi_ifeq_f (tgt := 10) dX11_gets_5 (by decide) h2) ?_
    refine Sg.go (pc' := 9) (mi_iconst (z := 3) dX11_gets_8 rfl) ?_
    exact Sg.ret (mi_ireturn dX11_gets_9 rfl (Or.inl rfl))
theorem C_X11_gets {Z : MiZ} (hL : ML Z) (a1 a2 a3 : Int) (D : MiD) (b : Int × MiD) (hb : B_X11_gets a1 a2 a3 D = some b) : MC m_X11_gets [(42, 0), (0, a1), (0, a2), (0, a3)] (D, Z) ((mi_LD 0 Z) b) := MC.ofSg (L := (mi_LD 0 Z)) (μ := m_X11_gets) (args := [(42, 0), (0, a1), (0, a2), (0, a3)]) (M := (D, Z)) rfl wP_X11 (Nat.le_of_ble_eq_true rfl) (show Sg m_X11_gets 0 [(42, 0), (0, a1), (0, a2), (0, a3)] [] (D, Z) (mi_LD 0 Z) (B_X11_gets a1 a2 a3 D) from S_X11_gets hL a1 a2 a3 D) hb
abbrev m_X11_keep : MiI := (yX11_keep, cX11_keep, 4, (some .int), 3, none)
def B_X11_keep_51 (v1 : Int) (v2 : Int) (v3 : Int) (s1 : Int) (D : MiD) : Option (Int × MiD) := if s1 = 0 ∨ s1 = 1 then (mi_b2 (B_X11_bad s1 2 1 D) fun y2 D3 => if y2 = 0 then (if v3 ≠ 0 then (mi_b2 (B_X11_lifts v1 v2 D3) fun y6 D7 => some (y6, D7)) else (mi_b2 (B_X11_keeps v1 v2 D3) fun y8 D9 => some (y8, D9))) else (some (0, D3))) else none
set_option maxRecDepth 20000 in
theorem S_X11_keep_51 {Z : MiZ} (hL : ML Z) (v1 v2 v3 s1 : Int) (D : MiD) : Sg m_X11_keep 51 [(42, 0), (0, v1), (0, v2), (0, v3)] [(0, s1), (42, 0)] (D, Z) (mi_LD 0 Z) (B_X11_keep_51 v1 v2 v3 s1 D) := by
  unfold B_X11_keep_51
  refine Sg.go (pc' := 52) (mi_iconst (z := 2) dX11_keep_51 rfl) ?_
  refine Sg.go (pc' := 53) (mi_iconst (z := 1) dX11_keep_52 rfl) ?_
  refine Sg.ck (fun hk1 => ?_)
  refine Sg.callD (pc' := 56) (t := 0) (μ' := m_X11_bad) (args := [(42, 0), (0, s1), (0, 2), (0, 1)]) (mi_invV (n := 3) (r := 40) dX11_keep_53 hC_40 (by omega) rfl rfl wN_X11_bad rfl ⟨by decide, by decide⟩ wL_X11_229 wI_X11_bad wS_X11_bad wB_X11 wC_X11_bad) (fun v hv => C_X11_bad hL s1 2 1 D (hk1) v hv) (Nat.le_of_ble_eq_true rfl) rfl rfl (fun y2 D3 => ?_)
  refine Sg.ite (fun h4 => ?_) (fun h4 => ?_)
  · refine Sg.go (pc' := 61) (mi_ifeq_t (tgt := 61) dX11_keep_56 (by decide) h4) ?_
    refine Sg.go (pc' := 62) (mi_iload_n dX11_keep_61 rfl) ?_
    refine Sg.ite (fun h5 => ?_) (fun h5 => ?_)
    · refine Sg.go (pc' := 74) (mi_ifne_t (tgt := 74) dX11_keep_62 (by decide) h5) ?_
      refine Sg.go (pc' := 75) (mi_aload_n dX11_keep_74 rfl) ?_
      refine Sg.go (pc' := 76) (mi_iload_n dX11_keep_75 rfl) ?_
      refine Sg.go (pc' := 77) (mi_iload_n dX11_keep_76 rfl) ?_
      refine Sg.callD (pc' := 80) (t := 0) (μ' := m_X11_lifts) (args := [(42, 0), (0, v1), (0, v2)]) (mi_invV (n := 2) (r := 40) dX11_keep_77 hC_40 (by omega) rfl rfl wN_X11_lifts rfl ⟨by decide, by decide⟩ wL_X11_342 wI_X11_lifts wS_X11_lifts wB_X11 wC_X11_lifts) (fun v hv => C_X11_lifts hL v1 v2 D3 v hv) (Nat.le_of_ble_eq_true rfl) rfl rfl (fun y6 D7 => ?_)
      exact Sg.ret (mi_ireturn dX11_keep_80 rfl (Or.inl rfl))
    · refine Sg.go (pc' := 65) (mi_ifne_f (tgt := 74) dX11_keep_62 (by decide) h5) ?_
      refine Sg.go (pc' := 66) (mi_aload_n dX11_keep_65 rfl) ?_
      refine Sg.go (pc' := 67) (mi_iload_n dX11_keep_66 rfl) ?_
      refine Sg.go (pc' := 68) (mi_iload_n dX11_keep_67 rfl) ?_
      refine Sg.callD (pc' := 71) (t := 0) (μ' := m_X11_keeps) (args := [(42, 0), (0, v1), (0, v2)]) (mi_invV (n := 2) (r := 40) dX11_keep_68 hC_40 (by omega) rfl rfl wN_X11_keeps rfl ⟨by decide, by decide⟩ wL_X11_339 wI_X11_keeps wS_X11_keeps wB_X11 wC_X11_keeps) (fun v hv => C_X11_keeps hL v1 v2 D3 v hv) (Nat.le_of_ble_eq_true rfl) rfl rfl (fun y8 D9 => ?_)
      refine Sg.go (pc' := 80) (mi_goto (tgt := 80) dX11_keep_71 (by decide)) ?_
      exact Sg.ret (mi_ireturn dX11_keep_80 rfl (Or.inl rfl))
  · refine Sg.go (pc' := 59) (mi_ifeq_f (tgt := 61) dX11_keep_56 (by decide) h4) ?_
    refine Sg.go (pc' := 60) (mi_iconst (z := 0) dX11_keep_59 rfl) ?_
    exact Sg.ret (mi_ireturn dX11_keep_60 rfl (Or.inl rfl))
def B_X11_keep_28 (v1 : Int) (v2 : Int) (v3 : Int) (s1 : Int) (D : MiD) : Option (Int × MiD) := if s1 = 0 ∨ s1 = 1 then (mi_b2 (B_X11_bad s1 1 0 D) fun y2 D3 => if y2 ≠ 0 then (some (0, D3)) else (if (B_X11_in v3 0 1) ≠ 0 then (B_X11_keep_51 v1 v2 v3 0 D3) else (B_X11_keep_51 v1 v2 v3 1 D3))) else none
set_option maxRecDepth 20000 in
theorem S_X11_keep_28 {Z : MiZ} (hL : ML Z) (v1 v2 v3 s1 : Int) (D : MiD) : Sg m_X11_keep 28 [(42, 0), (0, v1), (0, v2), (0, v3)] [(0, s1), (42, 0)] (D, Z) (mi_LD 0 Z) (B_X11_keep_28 v1 v2 v3 s1 D) := by
  unfold B_X11_keep_28
  refine Sg.go (pc' := 29) (mi_iconst (z := 1) dX11_keep_28 rfl) ?_
  refine Sg.go (pc' := 30) (mi_iconst (z := 0) dX11_keep_29 rfl) ?_
  refine Sg.ck (fun hk1 => ?_)
  refine Sg.callD (pc' := 33) (t := 0) (μ' := m_X11_bad) (args := [(42, 0), (0, s1), (0, 1), (0, 0)]) (mi_invV (n := 3) (r := 40) dX11_keep_30 hC_40 (by omega) rfl rfl wN_X11_bad rfl ⟨by decide, by decide⟩ wL_X11_229 wI_X11_bad wS_X11_bad wB_X11 wC_X11_bad) (fun v hv => C_X11_bad hL s1 1 0 D (hk1) v hv) (Nat.le_of_ble_eq_true rfl) rfl rfl (fun y2 D3 => ?_)
  refine Sg.ite (fun h4 => ?_) (fun h4 => ?_)
  · refine Sg.go (pc' := 59) (mi_ifne_t (tgt := 59) dX11_keep_33 (by decide) h4) ?_
    refine Sg.go (pc' := 60) (mi_iconst (z := 0) dX11_keep_59 rfl) ?_
    exact Sg.ret (mi_ireturn dX11_keep_60 rfl (Or.inl rfl))
  · refine Sg.go (pc' := 36) (mi_ifne_f (tgt := 59) dX11_keep_33 (by decide) h4) ?_
    refine Sg.go (pc' := 37) (mi_aload_n dX11_keep_36 rfl) ?_
    refine Sg.go (pc' := 38) (mi_iload_n dX11_keep_37 rfl) ?_
    refine Sg.go (pc' := 39) (mi_iconst (z := 0) dX11_keep_38 rfl) ?_
    refine Sg.go (pc' := 40) (mi_iconst (z := 1) dX11_keep_39 rfl) ?_
    refine Sg.callP (pc' := 43) (t := 0) (v := (B_X11_in v3 0 1)) (μ' := m_X11_in) (args := [(0, v3), (0, 0), (0, 1)]) (mi_invS (n := 3) dX11_keep_40 rfl wN_X11_in rfl ⟨by decide, by decide⟩ wL_X11_121 wT_X11_in wB_X11 wC_X11_in) (C_X11_in hL v3 0 1 D3) (Nat.le_of_ble_eq_true rfl) rfl rfl ?_
    refine Sg.ite (fun h5 => ?_) (fun h5 => ?_)
    · refine Sg.go (pc' := 50) (mi_ifne_t (tgt := 50) dX11_keep_43 (by decide) h5) ?_
      refine Sg.go (pc' := 51) (mi_iconst (z := 0) dX11_keep_50 rfl) ?_
      exact S_X11_keep_51 hL v1 v2 v3 0 D3
    · refine Sg.go (pc' := 46) (mi_ifne_f (tgt := 50) dX11_keep_43 (by decide) h5) ?_
      refine Sg.go (pc' := 47) (mi_iconst (z := 1) dX11_keep_46 rfl) ?_
      refine Sg.go (pc' := 51) (mi_goto (tgt := 51) dX11_keep_47 (by decide)) ?_
      exact S_X11_keep_51 hL v1 v2 v3 1 D3
def B_X11_keep_23 (v1 : Int) (v2 : Int) (v3 : Int) (D : MiD) : Option (Int × MiD) := B_X11_keep_28 v1 v2 v3 1 D
set_option maxRecDepth 20000 in
theorem S_X11_keep_23 {Z : MiZ} (hL : ML Z) (v1 v2 v3 : Int) (D : MiD) : Sg m_X11_keep 23 [(42, 0), (0, v1), (0, v2), (0, v3)] [(42, 0)] (D, Z) (mi_LD 0 Z) (B_X11_keep_23 v1 v2 v3 D) := by
  unfold B_X11_keep_23
  refine Sg.go (pc' := 24) (mi_iconst (z := 1) dX11_keep_23 rfl) ?_
  refine Sg.go (pc' := 28) (mi_goto (tgt := 28) dX11_keep_24 (by decide)) ?_
  exact S_X11_keep_28 hL v1 v2 v3 1 D
def B_X11_keep (v1 : Int) (v2 : Int) (v3 : Int) (D : MiD) : Option (Int × MiD) := mi_let (mi_st D 40 0 0 0) fun D1 => if (B_X11_isDatum v1) = 0 then (B_X11_keep_23 v1 v2 v3 D1) else (if (B_X11_in v2 0 4) ≠ 0 then (B_X11_keep_28 v1 v2 v3 0 D1) else (B_X11_keep_23 v1 v2 v3 D1))
set_option maxRecDepth 20000 in
theorem S_X11_keep {Z : MiZ} (hL : ML Z) (v1 v2 v3 : Int) (D : MiD) : Sg m_X11_keep 0 [(42, 0), (0, v1), (0, v2), (0, v3)] [] (D, Z) (mi_LD 0 Z) (B_X11_keep v1 v2 v3 D) := by
  unfold B_X11_keep
  refine Sg.go (pc' := 1) (mi_aload_n dX11_keep_0 rfl) ?_
  refine Sg.go (pc' := 2) (mi_iconst (z := 0) dX11_keep_1 rfl) ?_
  refine Sg.goM (pc' := 5) (mi_pfD (r := 40) (k := 0) (t := 0) dX11_keep_2 hC_40 (by decide) rfl rfl wF_X11_78 (by omega) rfl (by decide) (Or.inl ⟨rfl, rfl⟩)) ?_
  refine Sg.letD (fun D1 hD1 => ?_)
  refine Sg.go (pc' := 6) (mi_aload_n dX11_keep_5 rfl) ?_
  refine Sg.go (pc' := 7) (mi_aload_n dX11_keep_6 rfl) ?_
  refine Sg.go (pc' := 8) (mi_iload_n dX11_keep_7 rfl) ?_
  refine Sg.callP (pc' := 11) (t := 0) (v := (B_X11_isDatum v1)) (μ' := m_X11_isDatum) (args := [(42, 0), (0, v1)]) (mi_invV (n := 1) (r := 40) dX11_keep_8 hC_40 (by omega) rfl rfl wN_X11_isDatum rfl ⟨by decide, by decide⟩ wL_X11_358 wI_X11_isDatum wS_X11_isDatum wB_X11 wC_X11_isDatum) (C_X11_isDatum hL v1 D1) (Nat.le_of_ble_eq_true rfl) rfl rfl ?_
  refine Sg.ite (fun h2 => ?_) (fun h2 => ?_)
  · refine Sg.go (pc' := 23) (mi_ifeq_t (tgt := 23) dX11_keep_11 (by decide) h2) ?_
    exact S_X11_keep_23 hL v1 v2 v3 D1
  · refine Sg.go (pc' := 14) (mi_ifeq_f (tgt := 23) dX11_keep_11 (by decide) h2) ?_
    refine Sg.go (pc' := 15) (mi_iload_n dX11_keep_14 rfl) ?_
    refine Sg.go (pc' := 16) (mi_iconst (z := 0) dX11_keep_15 rfl) ?_
    refine Sg.go (pc' := 17) (mi_iconst (z := 4) dX11_keep_16 rfl) ?_
    refine Sg.callP (pc' := 20) (t := 0) (v := (B_X11_in v2 0 4)) (μ' := m_X11_in) (args := [(0, v2), (0, 0), (0, 4)]) (mi_invS (n := 3) dX11_keep_17 rfl wN_X11_in rfl ⟨by decide, by decide⟩ wL_X11_121 wT_X11_in wB_X11 wC_X11_in) (C_X11_in hL v2 0 4 D1) (Nat.le_of_ble_eq_true rfl) rfl rfl ?_
    refine Sg.ite (fun h3 => ?_) (fun h3 => ?_)
    · refine Sg.go (pc' := 27) (mi_ifne_t (tgt := 27) dX11_keep_20 (by decide) h3) ?_
      refine Sg.go (pc' := 28) (mi_iconst (z := 0) dX11_keep_27 rfl) ?_
      exact S_X11_keep_28 hL v1 v2 v3 0 D1
    · refine Sg.go (pc' := 23) (mi_ifne_f (tgt := 27) dX11_keep_20 (by decide) h3) ?_
      exact S_X11_keep_23 hL v1 v2 v3 D1
theorem C_X11_keep {Z : MiZ} (hL : ML Z) (a1 a2 a3 : Int) (D : MiD) (b : Int × MiD) (hb : B_X11_keep a1 a2 a3 D = some b) : MC m_X11_keep [(42, 0), (0, a1), (0, a2), (0, a3)] (D, Z) ((mi_LD 0 Z) b) := MC.ofSg (L := (mi_LD 0 Z)) (μ := m_X11_keep) (args := [(42, 0), (0, a1), (0, a2), (0, a3)]) (M := (D, Z)) rfl wP_X11 (Nat.le_of_ble_eq_true rfl) (show Sg m_X11_keep 0 [(42, 0), (0, a1), (0, a2), (0, a3)] [] (D, Z) (mi_LD 0 Z) (B_X11_keep a1 a2 a3 D) from S_X11_keep hL a1 a2 a3 D) hb
abbrev m_X11_number : MiI := (yX11_number, cX11_number, 5, (some .int), 3, none)
def B_X11_number_103 (v4 : Int) (D : MiD) : Option (Int × MiD) := mi_bi (B_X11_fine D) fun y1 => if y1 = 0 then (some (0, D)) else (some (v4, D))
set_option maxRecDepth 20000 in
theorem S_X11_number_103 {Z : MiZ} (hL : ML Z) (v4 : Int) (D : MiD) : Sg m_X11_number 103 [(42, 0), mi_un, mi_un, mi_un, (0, v4)] [] (D, Z) (mi_LD 0 Z) (B_X11_number_103 v4 D) := by
  unfold B_X11_number_103
  refine Sg.go (pc' := 104) (mi_aload_n dX11_number_103 rfl) ?_
  refine Sg.callI (pc' := 107) (t := 0) (μ' := m_X11_fine) (args := [(42, 0)]) (mi_invV (n := 0) (r := 40) dX11_number_104 hC_40 (by omega) rfl rfl wN_X11_fine rfl ⟨by decide, by decide⟩ wL_X11_100 wI_X11_fine wS_X11_fine wB_X11 wC_X11_fine) (fun v hv => C_X11_fine hL D v hv) (Nat.le_of_ble_eq_true rfl) rfl rfl (fun y1 => ?_)
  refine Sg.ite (fun h2 => ?_) (fun h2 => ?_)
  · refine Sg.go (pc' := 115) (mi_ifeq_t (tgt := 115) dX11_number_107 (by decide) h2) ?_
    refine Sg.go (pc' := 116) (mi_iconst (z := 0) dX11_number_115 rfl) ?_
    exact Sg.ret (mi_ireturn dX11_number_116 rfl (Or.inl rfl))
  · refine Sg.go (pc' := 110) (mi_ifeq_f (tgt := 115) dX11_number_107 (by decide) h2) ?_
    refine Sg.go (pc' := 112) (mi_iload dX11_number_110 rfl) ?_
    refine Sg.go (pc' := 116) (mi_goto (tgt := 116) dX11_number_112 (by decide)) ?_
    exact Sg.ret (mi_ireturn dX11_number_116 rfl (Or.inl rfl))
def B_X11_number_36 : Nat → Int → Int → Int → Int → MiD → Option (Int × MiD)
  | 0, _, _, _, _, _ => none
  | f + 1, v1, v2, v3, v4, D => mi_bi (B_X11_byteAt D (D 40 0 4)) fun y1 => if (B_X11_isDigit y1) = 0 then (if (B_X11_in v4 v1 v2) ≠ 0 then (B_X11_number_103 v4 D) else (mi_bi (B_X11_wrong 2 v3 D) fun D4 => B_X11_number_103 v4 D4)) else (mi_bi (B_X11_byteAt D (D 40 0 4)) fun y5 => mi_let (B_X11_less 1000000 (mi_w ((mi_w ((mi_w (10 * v4)) + y5)) - 48))) fun x6 => mi_let (mi_st D 40 0 4 (mi_w ((D 40 0 4) + 1))) fun D7 => B_X11_number_36 f v1 v2 v3 x6 D7)
set_option maxRecDepth 20000 in
theorem S_X11_number_36 {Z : MiZ} (hL : ML Z) : ∀ (f : Nat) (v1 v2 v3 v4 : Int) (D : MiD), Sg m_X11_number 36 [(42, 0), (0, v1), (0, v2), (0, v3), (0, v4)] [] (D, Z) (mi_LD 0 Z) (B_X11_number_36 f v1 v2 v3 v4 D) := by
  intro f
  induction f with
  | zero => intros; exact Sg.nope
  | succ f K36 =>
    intro v1 v2 v3 v4 D
    show Sg m_X11_number 36 [(42, 0), (0, v1), (0, v2), (0, v3), (0, v4)] [] (D, Z) (mi_LD 0 Z) (mi_bi (B_X11_byteAt D (D 40 0 4)) fun y1 => if (B_X11_isDigit y1) = 0 then (if (B_X11_in v4 v1 v2) ≠ 0 then (B_X11_number_103 v4 D) else (mi_bi (B_X11_wrong 2 v3 D) fun D4 => B_X11_number_103 v4 D4)) else (mi_bi (B_X11_byteAt D (D 40 0 4)) fun y5 => mi_let (B_X11_less 1000000 (mi_w ((mi_w ((mi_w (10 * v4)) + y5)) - 48))) fun x6 => mi_let (mi_st D 40 0 4 (mi_w ((D 40 0 4) + 1))) fun D7 => B_X11_number_36 f v1 v2 v3 x6 D7))
    refine Sg.go (pc' := 37) (mi_aload_n dX11_number_36 rfl) ?_
    refine Sg.go (pc' := 38) (mi_aload_n dX11_number_37 rfl) ?_
    refine Sg.go (pc' := 41) (mi_gfI (r := 40) (k := 4) dX11_number_38 hC_40 (by decide) rfl wF_X11_87 (by omega) rfl) ?_
    refine Sg.callI (pc' := 44) (t := 0) (μ' := m_X11_byteAt) (args := [(42, 0), (0, (D 40 0 4))]) (mi_invV (n := 1) (r := 40) dX11_number_41 hC_40 (by omega) rfl rfl wN_X11_byteAt rfl ⟨by decide, by decide⟩ wL_X11_90 wI_X11_byteAt wS_X11_byteAt wB_X11 wC_X11_byteAt) (fun v hv => C_X11_byteAt hL (D 40 0 4) D v hv) (Nat.le_of_ble_eq_true rfl) rfl rfl (fun y1 => ?_)
    refine Sg.callP (pc' := 47) (t := 0) (v := (B_X11_isDigit y1)) (μ' := m_X11_isDigit) (args := [(0, y1)]) (mi_invS (n := 1) dX11_number_44 rfl wN_X11_isDigit rfl ⟨by decide, by decide⟩ wL_X11_108 wT_X11_isDigit wB_X11 wC_X11_isDigit) (C_X11_isDigit hL y1 D) (Nat.le_of_ble_eq_true rfl) rfl rfl ?_
    refine Sg.ite (fun h2 => ?_) (fun h2 => ?_)
    · refine Sg.go (pc' := 87) (mi_ifeq_t (tgt := 87) dX11_number_47 (by decide) h2) ?_
      refine Sg.go (pc' := 89) (mi_iload dX11_number_87 rfl) ?_
      refine Sg.go (pc' := 90) (mi_iload_n dX11_number_89 rfl) ?_
      refine Sg.go (pc' := 91) (mi_iload_n dX11_number_90 rfl) ?_
      refine Sg.callP (pc' := 94) (t := 0) (v := (B_X11_in v4 v1 v2)) (μ' := m_X11_in) (args := [(0, v4), (0, v1), (0, v2)]) (mi_invS (n := 3) dX11_number_91 rfl wN_X11_in rfl ⟨by decide, by decide⟩ wL_X11_121 wT_X11_in wB_X11 wC_X11_in) (C_X11_in hL v4 v1 v2 D) (Nat.le_of_ble_eq_true rfl) rfl rfl ?_
      refine Sg.ite (fun h3 => ?_) (fun h3 => ?_)
      · refine Sg.go (pc' := 103) (mi_ifne_t (tgt := 103) dX11_number_94 (by decide) h3) ?_
        refine Sg.go (pc' := 103) (MiStep.weak (ls' := [(42, 0), mi_un, mi_un, mi_un, (0, v4)]) (mi_wk_y (mi_wk_n (mi_wk_n (mi_wk_n (mi_wk_y mi_wk_0)))))) ?_
        exact S_X11_number_103 hL v4 D
      · refine Sg.go (pc' := 97) (mi_ifne_f (tgt := 103) dX11_number_94 (by decide) h3) ?_
        refine Sg.go (pc' := 98) (mi_aload_n dX11_number_97 rfl) ?_
        refine Sg.go (pc' := 99) (mi_iconst (z := 2) dX11_number_98 rfl) ?_
        refine Sg.go (pc' := 100) (mi_iload_n dX11_number_99 rfl) ?_
        refine Sg.callV (pc' := 103) (μ' := m_X11_wrong) (args := [(42, 0), (0, 2), (0, v3)]) (mi_invV (n := 2) (r := 40) dX11_number_100 hC_40 (by omega) rfl rfl wN_X11_wrong rfl ⟨by decide, by decide⟩ wL_X11_112 wI_X11_wrong wS_X11_wrong wB_X11 wC_X11_wrong) (fun v hv => C_X11_wrong hL 2 v3 D v hv) (Nat.le_of_ble_eq_true rfl) rfl rfl (fun D4 => ?_)
        refine Sg.go (pc' := 103) (MiStep.weak (ls' := [(42, 0), mi_un, mi_un, mi_un, (0, v4)]) (mi_wk_y (mi_wk_n (mi_wk_n (mi_wk_n (mi_wk_y mi_wk_0)))))) ?_
        exact S_X11_number_103 hL v4 D4
    · refine Sg.go (pc' := 50) (mi_ifeq_f (tgt := 87) dX11_number_47 (by decide) h2) ?_
      refine Sg.go (pc' := 52) (mi_ldc (z := 1000000) dX11_number_50 wK_X11_116 rfl) ?_
      refine Sg.go (pc' := 54) (mi_bipush (z := 10) dX11_number_52 rfl) ?_
      refine Sg.go (pc' := 56) (mi_iload dX11_number_54 rfl) ?_
      refine Sg.go (pc' := 57) (mi_imul dX11_number_56) ?_
      refine Sg.go (pc' := 58) (mi_aload_n dX11_number_57 rfl) ?_
      refine Sg.go (pc' := 59) (mi_aload_n dX11_number_58 rfl) ?_
      refine Sg.go (pc' := 62) (mi_gfI (r := 40) (k := 4) dX11_number_59 hC_40 (by decide) rfl wF_X11_87 (by omega) rfl) ?_
      refine Sg.callI (pc' := 65) (t := 0) (μ' := m_X11_byteAt) (args := [(42, 0), (0, (D 40 0 4))]) (mi_invV (n := 1) (r := 40) dX11_number_62 hC_40 (by omega) rfl rfl wN_X11_byteAt rfl ⟨by decide, by decide⟩ wL_X11_90 wI_X11_byteAt wS_X11_byteAt wB_X11 wC_X11_byteAt) (fun v hv => C_X11_byteAt hL (D 40 0 4) D v hv) (Nat.le_of_ble_eq_true rfl) rfl rfl (fun y5 => ?_)
      refine Sg.go (pc' := 66) (mi_iadd dX11_number_65) ?_
      refine Sg.go (pc' := 68) (mi_bipush (z := 48) dX11_number_66 rfl) ?_
      refine Sg.go (pc' := 69) (mi_isub dX11_number_68) ?_
      refine Sg.callP (pc' := 72) (t := 0) (v := (B_X11_less 1000000 (mi_w ((mi_w ((mi_w (10 * v4)) + y5)) - 48)))) (μ' := m_X11_less) (args := [(0, 1000000), (0, (mi_w ((mi_w ((mi_w (10 * v4)) + y5)) - 48)))]) (mi_invS (n := 2) dX11_number_69 rfl wN_X11_less rfl ⟨by decide, by decide⟩ wL_X11_117 wT_X11_less wB_X11 wC_X11_less) (C_X11_less hL 1000000 (mi_w ((mi_w ((mi_w (10 * v4)) + y5)) - 48)) D) (Nat.le_of_ble_eq_true rfl) rfl rfl ?_
      refine Sg.letI (fun x6 hx6 => ?_)
      refine Sg.go (pc' := 74) (mi_istore (ls1 := [(42, 0), (0, v1), (0, v2), (0, v3), (0, x6)]) dX11_number_72 (by decide) rfl) ?_
      refine Sg.go (pc' := 75) (mi_aload_n dX11_number_74 rfl) ?_
      refine Sg.go (pc' := 76) (mi_dup dX11_number_75 (show (42 : Nat) ≠ 1 by decide)) ?_
      refine Sg.go (pc' := 79) (mi_gfI (r := 40) (k := 4) dX11_number_76 hC_40 (by decide) rfl wF_X11_87 (by omega) rfl) ?_
      refine Sg.go (pc' := 80) (mi_iconst (z := 1) dX11_number_79 rfl) ?_
      refine Sg.go (pc' := 81) (mi_iadd dX11_number_80) ?_
      refine Sg.goM (pc' := 84) (mi_pfD (r := 40) (k := 4) (t := 0) dX11_number_81 hC_40 (by decide) rfl rfl wF_X11_87 (by omega) rfl (by decide) (Or.inl ⟨rfl, rfl⟩)) ?_
      refine Sg.letD (fun D7 hD7 => ?_)
      refine Sg.go (pc' := 36) (mi_goto (tgt := 36) dX11_number_84 (by decide)) ?_
      exact K36 v1 v2 v3 x6 D7
def B_X11_number_28 (v1 : Int) (v2 : Int) (D : MiD) : Option (Int × MiD) := B_X11_number_36 mi_fuel v1 v2 (D 40 0 4) 0 D
set_option maxRecDepth 20000 in
theorem S_X11_number_28 {Z : MiZ} (hL : ML Z) (v1 v2 : Int) (D : MiD) : Sg m_X11_number 28 [(42, 0), (0, v1), (0, v2), mi_un, mi_un] [] (D, Z) (mi_LD 0 Z) (B_X11_number_28 v1 v2 D) := by
  unfold B_X11_number_28
  refine Sg.go (pc' := 29) (mi_aload_n dX11_number_28 rfl) ?_
  refine Sg.go (pc' := 32) (mi_gfI (r := 40) (k := 4) dX11_number_29 hC_40 (by decide) rfl wF_X11_87 (by omega) rfl) ?_
  refine Sg.go (pc' := 33) (mi_istore_n (ls1 := [(42, 0), (0, v1), (0, v2), (0, (D 40 0 4)), mi_un]) dX11_number_32 (by decide) rfl) ?_
  refine Sg.go (pc' := 34) (mi_iconst (z := 0) dX11_number_33 rfl) ?_
  refine Sg.go (pc' := 36) (mi_istore (ls1 := [(42, 0), (0, v1), (0, v2), (0, (D 40 0 4)), (0, 0)]) dX11_number_34 (by decide) rfl) ?_
  exact S_X11_number_36 hL mi_fuel v1 v2 (D 40 0 4) 0 D
def B_X11_number (v1 : Int) (v2 : Int) (D : MiD) : Option (Int × MiD) := mi_bi (B_X11_fine D) fun y1 => if y1 ≠ 0 then (mi_b2 (B_X11_here_0 mi_fuel D) fun y3 D4 => if (B_X11_isDigit y3) ≠ 0 then (B_X11_number_28 v1 v2 D4) else (mi_bi (B_X11_wrong 1 (D4 40 0 4) D4) fun D6 => B_X11_number_28 v1 v2 D6)) else (some (0, D))
set_option maxRecDepth 20000 in
theorem S_X11_number {Z : MiZ} (hL : ML Z) (v1 v2 : Int) (D : MiD) : Sg m_X11_number 0 [(42, 0), (0, v1), (0, v2), mi_un, mi_un] [] (D, Z) (mi_LD 0 Z) (B_X11_number v1 v2 D) := by
  unfold B_X11_number
  refine Sg.go (pc' := 1) (mi_aload_n dX11_number_0 rfl) ?_
  refine Sg.callI (pc' := 4) (t := 0) (μ' := m_X11_fine) (args := [(42, 0)]) (mi_invV (n := 0) (r := 40) dX11_number_1 hC_40 (by omega) rfl rfl wN_X11_fine rfl ⟨by decide, by decide⟩ wL_X11_100 wI_X11_fine wS_X11_fine wB_X11 wC_X11_fine) (fun v hv => C_X11_fine hL D v hv) (Nat.le_of_ble_eq_true rfl) rfl rfl (fun y1 => ?_)
  refine Sg.ite (fun h2 => ?_) (fun h2 => ?_)
  · refine Sg.go (pc' := 9) (mi_ifne_t (tgt := 9) dX11_number_4 (by decide) h2) ?_
    refine Sg.go (pc' := 10) (mi_aload_n dX11_number_9 rfl) ?_
    refine Sg.callD (pc' := 13) (t := 0) (μ' := m_X11_here) (args := [(42, 0)]) (mi_invV (n := 0) (r := 40) dX11_number_10 hC_40 (by omega) rfl rfl wN_X11_here rfl ⟨by decide, by decide⟩ wL_X11_104 wI_X11_here wS_X11_here wB_X11 wC_X11_here) (fun v hv => C_X11_here hL D v hv) (Nat.le_of_ble_eq_true rfl) rfl rfl (fun y3 D4 => ?_)
    refine Sg.callP (pc' := 16) (t := 0) (v := (B_X11_isDigit y3)) (μ' := m_X11_isDigit) (args := [(0, y3)]) (mi_invS (n := 1) dX11_number_13 rfl wN_X11_isDigit rfl ⟨by decide, by decide⟩ wL_X11_108 wT_X11_isDigit wB_X11 wC_X11_isDigit) (C_X11_isDigit hL y3 D4) (Nat.le_of_ble_eq_true rfl) rfl rfl ?_
    refine Sg.ite (fun h5 => ?_) (fun h5 => ?_)
    · refine Sg.go (pc' := 28) (mi_ifne_t (tgt := 28) dX11_number_16 (by decide) h5) ?_
      exact S_X11_number_28 hL v1 v2 D4
    · refine Sg.go (pc' := 19) (mi_ifne_f (tgt := 28) dX11_number_16 (by decide) h5) ?_
      refine Sg.go (pc' := 20) (mi_aload_n dX11_number_19 rfl) ?_
      refine Sg.go (pc' := 21) (mi_iconst (z := 1) dX11_number_20 rfl) ?_
      refine Sg.go (pc' := 22) (mi_aload_n dX11_number_21 rfl) ?_
      refine Sg.go (pc' := 25) (mi_gfI (r := 40) (k := 4) dX11_number_22 hC_40 (by decide) rfl wF_X11_87 (by omega) rfl) ?_
      refine Sg.callV (pc' := 28) (μ' := m_X11_wrong) (args := [(42, 0), (0, 1), (0, (D4 40 0 4))]) (mi_invV (n := 2) (r := 40) dX11_number_25 hC_40 (by omega) rfl rfl wN_X11_wrong rfl ⟨by decide, by decide⟩ wL_X11_112 wI_X11_wrong wS_X11_wrong wB_X11 wC_X11_wrong) (fun v hv => C_X11_wrong hL 1 (D4 40 0 4) D4 v hv) (Nat.le_of_ble_eq_true rfl) rfl rfl (fun D6 => ?_)
      exact S_X11_number_28 hL v1 v2 D6
  · refine Sg.go (pc' := 7) (mi_ifne_f (tgt := 9) dX11_number_4 (by decide) h2) ?_
    refine Sg.go (pc' := 8) (mi_iconst (z := 0) dX11_number_7 rfl) ?_
    exact Sg.ret (mi_ireturn dX11_number_8 rfl (Or.inl rfl))
theorem C_X11_number {Z : MiZ} (hL : ML Z) (a1 a2 : Int) (D : MiD) (b : Int × MiD) (hb : B_X11_number a1 a2 D = some b) : MC m_X11_number [(42, 0), (0, a1), (0, a2)] (D, Z) ((mi_LD 0 Z) b) := MC.ofSg (L := (mi_LD 0 Z)) (μ := m_X11_number) (args := [(42, 0), (0, a1), (0, a2)]) (M := (D, Z)) rfl wP_X11 (Nat.le_of_ble_eq_true rfl) (show Sg m_X11_number 0 [(42, 0), (0, a1), (0, a2), mi_un, mi_un] [] (D, Z) (mi_LD 0 Z) (B_X11_number a1 a2 D) from S_X11_number hL a1 a2 D) hb
abbrev m_X11_number_ : MiI := (yX11_number_, cX11_number_, 2, (some .long), 3, none)
def B_X11_number__19 (v1 : Int) (s1 : Int) (D : MiD) : Option (Int × MiD) := if s1 = 0 ∨ s1 = 1 then (mi_b2 (B_X11_bad s1 1 0 D) fun y2 D3 => if y2 = 0 then (if 0 ≤ v1 ∧ v1 < 7 then (some ((D3 60 0 v1), D3)) else none) else (some (0, D3))) else none
set_option maxRecDepth 20000 in
theorem S_X11_number__19 {Z : MiZ} (hL : ML Z) (v1 s1 : Int) (D : MiD) : Sg m_X11_number_ 19 [(42, 0), (0, v1)] [(0, s1), (42, 0)] (D, Z) (mi_LD 1 Z) (B_X11_number__19 v1 s1 D) := by
  unfold B_X11_number__19
  refine Sg.go (pc' := 20) (mi_iconst (z := 1) dX11_number__19 rfl) ?_
  refine Sg.go (pc' := 21) (mi_iconst (z := 0) dX11_number__20 rfl) ?_
  refine Sg.ck (fun hk1 => ?_)
  refine Sg.callD (pc' := 24) (t := 0) (μ' := m_X11_bad) (args := [(42, 0), (0, s1), (0, 1), (0, 0)]) (mi_invV (n := 3) (r := 40) dX11_number__21 hC_40 (by omega) rfl rfl wN_X11_bad rfl ⟨by decide, by decide⟩ wL_X11_229 wI_X11_bad wS_X11_bad wB_X11 wC_X11_bad) (fun v hv => C_X11_bad hL s1 1 0 D (hk1) v hv) (Nat.le_of_ble_eq_true rfl) rfl rfl (fun y2 D3 => ?_)
  refine Sg.ite (fun h4 => ?_) (fun h4 => ?_)
  · refine Sg.go (pc' := 29) (mi_ifeq_t (tgt := 29) dX11_number__24 (by decide) h4) ?_
    refine Sg.go (pc' := 30) (mi_aload_n dX11_number__29 rfl) ?_
    refine Sg.go (pc' := 33) (mi_gfA (t := 60) (v := 0) (r := 40) (k := 21) dX11_number__30 hC_40 (by decide) rfl wF_X11_59 (by omega) rfl (hL.1 21 (by decide))) ?_
    refine Sg.go (pc' := 34) (mi_iload_n dX11_number__33 rfl) ?_
    refine Sg.ck (fun hk5 => ?_)
    refine Sg.go (pc' := 35) (mi_lald (n := 7) dX11_number__34 rfl rfl (by omega) hk5) ?_
    exact Sg.ret (mi_lreturn dX11_number__35 rfl)
  · refine Sg.go (pc' := 27) (mi_ifeq_f (tgt := 29) dX11_number__24 (by decide) h4) ?_
    refine Sg.go (pc' := 28) (mi_lconst (z := 0) dX11_number__27 rfl) ?_
    exact Sg.ret (mi_lreturn dX11_number__28 rfl)
def B_X11_number_ (v1 : Int) (D : MiD) : Option (Int × MiD) := mi_let (mi_st D 40 0 0 0) fun D1 => if (B_X11_isTask v1) ≠ 0 then (B_X11_number__19 v1 0 D1) else (B_X11_number__19 v1 1 D1)
set_option maxRecDepth 20000 in
theorem S_X11_number_ {Z : MiZ} (hL : ML Z) (v1 : Int) (D : MiD) : Sg m_X11_number_ 0 [(42, 0), (0, v1)] [] (D, Z) (mi_LD 1 Z) (B_X11_number_ v1 D) := by
  unfold B_X11_number_
  refine Sg.go (pc' := 1) (mi_aload_n dX11_number__0 rfl) ?_
  refine Sg.go (pc' := 2) (mi_iconst (z := 0) dX11_number__1 rfl) ?_
  refine Sg.goM (pc' := 5) (mi_pfD (r := 40) (k := 0) (t := 0) dX11_number__2 hC_40 (by decide) rfl rfl wF_X11_78 (by omega) rfl (by decide) (Or.inl ⟨rfl, rfl⟩)) ?_
  refine Sg.letD (fun D1 hD1 => ?_)
  refine Sg.go (pc' := 6) (mi_aload_n dX11_number__5 rfl) ?_
  refine Sg.go (pc' := 7) (mi_aload_n dX11_number__6 rfl) ?_
  refine Sg.go (pc' := 8) (mi_iload_n dX11_number__7 rfl) ?_
  refine Sg.callP (pc' := 11) (t := 0) (v := (B_X11_isTask v1)) (μ' := m_X11_isTask) (args := [(42, 0), (0, v1)]) (mi_invV (n := 1) (r := 40) dX11_number__8 hC_40 (by omega) rfl rfl wN_X11_isTask rfl ⟨by decide, by decide⟩ wL_X11_398 wI_X11_isTask wS_X11_isTask wB_X11 wC_X11_isTask) (C_X11_isTask hL v1 D1) (Nat.le_of_ble_eq_true rfl) rfl rfl ?_
  refine Sg.ite (fun h2 => ?_) (fun h2 => ?_)
  · refine Sg.go (pc' := 18) (mi_ifne_t (tgt := 18) dX11_number__11 (by decide) h2) ?_
    refine Sg.go (pc' := 19) (mi_iconst (z := 0) dX11_number__18 rfl) ?_
    exact S_X11_number__19 hL v1 0 D1
  · refine Sg.go (pc' := 14) (mi_ifne_f (tgt := 18) dX11_number__11 (by decide) h2) ?_
    refine Sg.go (pc' := 15) (mi_iconst (z := 1) dX11_number__14 rfl) ?_
    refine Sg.go (pc' := 19) (mi_goto (tgt := 19) dX11_number__15 (by decide)) ?_
    exact S_X11_number__19 hL v1 1 D1
theorem C_X11_number_ {Z : MiZ} (hL : ML Z) (a1 : Int) (D : MiD) (b : Int × MiD) (hb : B_X11_number_ a1 D = some b) : MC m_X11_number_ [(42, 0), (0, a1)] (D, Z) ((mi_LD 1 Z) b) := MC.ofSg (L := (mi_LD 1 Z)) (μ := m_X11_number_) (args := [(42, 0), (0, a1)]) (M := (D, Z)) rfl wP_X11 (Nat.le_of_ble_eq_true rfl) (show Sg m_X11_number_ 0 [(42, 0), (0, a1)] [] (D, Z) (mi_LD 1 Z) (B_X11_number_ a1 D) from S_X11_number_ hL a1 D) hb
abbrev m_X11_patchOf : MiI := (yX11_patchOf, cX11_patchOf, 3, (some .int), 3, none)
def B_X11_patchOf_42 (v1 : Int) (v2 : Int) (s1 : Int) (D : MiD) : Option (Int × MiD) := if s1 = 0 ∨ s1 = 1 then (mi_b2 (B_X11_bad s1 2 1 D) fun y2 D3 => if y2 = 0 then (if v2 ≠ 0 then (if v2 ≠ 1 then (if v2 ≠ 2 then (if v2 ≠ 3 then (if 0 ≤ v1 ∧ v1 < 8 then (some ((D3 49 0 v1), D3)) else none) else (mi_bi (B_X11_deedsOfAll D3 v1) fun y10 => some (y10, D3))) else (if 0 ≤ v1 ∧ v1 < 9 then (some ((D3 48 0 v1), D3)) else none)) else (if 0 ≤ v1 ∧ v1 < 9 then (some ((D3 47 0 v1), D3)) else none)) else (mi_bi (B_X11_placeOf D3 v1) fun y13 => some (y13, D3))) else (some (0, D3))) else none
set_option maxRecDepth 20000 in
theorem S_X11_patchOf_42 {Z : MiZ} (hL : ML Z) (v1 v2 s1 : Int) (D : MiD) : Sg m_X11_patchOf 42 [(42, 0), (0, v1), (0, v2)] [(0, s1), (42, 0)] (D, Z) (mi_LD 0 Z) (B_X11_patchOf_42 v1 v2 s1 D) := by
  unfold B_X11_patchOf_42
  refine Sg.go (pc' := 43) (mi_iconst (z := 2) dX11_patchOf_42 rfl) ?_
  refine Sg.go (pc' := 44) (mi_iconst (z := 1) dX11_patchOf_43 rfl) ?_
  refine Sg.ck (fun hk1 => ?_)
  refine Sg.callD (pc' := 47) (t := 0) (μ' := m_X11_bad) (args := [(42, 0), (0, s1), (0, 2), (0, 1)]) (mi_invV (n := 3) (r := 40) dX11_patchOf_44 hC_40 (by omega) rfl rfl wN_X11_bad rfl ⟨by decide, by decide⟩ wL_X11_229 wI_X11_bad wS_X11_bad wB_X11 wC_X11_bad) (fun v hv => C_X11_bad hL s1 2 1 D (hk1) v hv) (Nat.le_of_ble_eq_true rfl) rfl rfl (fun y2 D3 => ?_)
  refine Sg.ite (fun h4 => ?_) (fun h4 => ?_)
  · refine Sg.go (pc' := 52) (mi_ifeq_t (tgt := 52) dX11_patchOf_47 (by decide) h4) ?_
    refine Sg.go (pc' := 53) (mi_iload_n dX11_patchOf_52 rfl) ?_
    refine Sg.ite (fun h5 => ?_) (fun h5 => ?_)
    · refine Sg.go (pc' := 64) (mi_ifne_t (tgt := 64) dX11_patchOf_53 (by decide) h5) ?_
      refine Sg.go (pc' := 65) (mi_iload_n dX11_patchOf_64 rfl) ?_
      refine Sg.go (pc' := 66) (mi_iconst (z := 1) dX11_patchOf_65 rfl) ?_
      refine Sg.ite (fun h6 => ?_) (fun h6 => ?_)
      · refine Sg.go (pc' := 78) (mi_icmpne_t (tgt := 78) dX11_patchOf_66 (by decide) h6) ?_
        refine Sg.go (pc' := 79) (mi_iload_n dX11_patchOf_78 rfl) ?_
        refine Sg.go (pc' := 80) (mi_iconst (z := 2) dX11_patchOf_79 rfl) ?_
        refine Sg.ite (fun h7 => ?_) (fun h7 => ?_)
        · refine Sg.go (pc' := 92) (mi_icmpne_t (tgt := 92) dX11_patchOf_80 (by decide) h7) ?_
          refine Sg.go (pc' := 93) (mi_iload_n dX11_patchOf_92 rfl) ?_
          refine Sg.go (pc' := 94) (mi_iconst (z := 3) dX11_patchOf_93 rfl) ?_
          refine Sg.ite (fun h8 => ?_) (fun h8 => ?_)
          · refine Sg.go (pc' := 105) (mi_icmpne_t (tgt := 105) dX11_patchOf_94 (by decide) h8) ?_
            refine Sg.go (pc' := 106) (mi_aload_n dX11_patchOf_105 rfl) ?_
            refine Sg.go (pc' := 109) (mi_gfA (t := 49) (v := 0) (r := 40) (k := 14) dX11_patchOf_106 hC_40 (by decide) rfl wF_X11_34 (by omega) rfl (hL.1 14 (by decide))) ?_
            refine Sg.go (pc' := 110) (mi_iload_n dX11_patchOf_109 rfl) ?_
            refine Sg.ck (fun hk9 => ?_)
            refine Sg.go (pc' := 111) (mi_iald (n := 8) dX11_patchOf_110 rfl rfl (by omega) hk9) ?_
            exact Sg.ret (mi_ireturn dX11_patchOf_111 rfl (Or.inl rfl))
          · refine Sg.go (pc' := 97) (mi_icmpne_f (tgt := 105) dX11_patchOf_94 (by decide) h8) ?_
            refine Sg.go (pc' := 98) (mi_aload_n dX11_patchOf_97 rfl) ?_
            refine Sg.go (pc' := 99) (mi_iload_n dX11_patchOf_98 rfl) ?_
            refine Sg.callI (pc' := 102) (t := 0) (μ' := m_X11_deedsOfAll) (args := [(42, 0), (0, v1)]) (mi_invV (n := 1) (r := 40) dX11_patchOf_99 hC_40 (by omega) rfl rfl wN_X11_deedsOfAll rfl ⟨by decide, by decide⟩ wL_X11_416 wI_X11_deedsOfAll wS_X11_deedsOfAll wB_X11 wC_X11_deedsOfAll) (fun v hv => C_X11_deedsOfAll hL v1 D3 v hv) (Nat.le_of_ble_eq_true rfl) rfl rfl (fun y10 => ?_)
            refine Sg.go (pc' := 111) (mi_goto (tgt := 111) dX11_patchOf_102 (by decide)) ?_
            exact Sg.ret (mi_ireturn dX11_patchOf_111 rfl (Or.inl rfl))
        · refine Sg.go (pc' := 83) (mi_icmpne_f (tgt := 92) dX11_patchOf_80 (by decide) h7) ?_
          refine Sg.go (pc' := 84) (mi_aload_n dX11_patchOf_83 rfl) ?_
          refine Sg.go (pc' := 87) (mi_gfA (t := 48) (v := 0) (r := 40) (k := 13) dX11_patchOf_84 hC_40 (by decide) rfl wF_X11_31 (by omega) rfl (hL.1 13 (by decide))) ?_
          refine Sg.go (pc' := 88) (mi_iload_n dX11_patchOf_87 rfl) ?_
          refine Sg.ck (fun hk11 => ?_)
          refine Sg.go (pc' := 89) (mi_iald (n := 9) dX11_patchOf_88 rfl rfl (by omega) hk11) ?_
          refine Sg.go (pc' := 111) (mi_goto (tgt := 111) dX11_patchOf_89 (by decide)) ?_
          exact Sg.ret (mi_ireturn dX11_patchOf_111 rfl (Or.inl rfl))
      · refine Sg.go (pc' := 69) (mi_icmpne_f (tgt := 78) dX11_patchOf_66 (by decide) h6) ?_
        refine Sg.go (pc' := 70) (mi_aload_n dX11_patchOf_69 rfl) ?_
        refine Sg.go (pc' := 73) (mi_gfA (t := 47) (v := 0) (r := 40) (k := 12) dX11_patchOf_70 hC_40 (by decide) rfl wF_X11_28 (by omega) rfl (hL.1 12 (by decide))) ?_
        refine Sg.go (pc' := 74) (mi_iload_n dX11_patchOf_73 rfl) ?_
        refine Sg.ck (fun hk12 => ?_)
        refine Sg.go (pc' := 75) (mi_iald (n := 9) dX11_patchOf_74 rfl rfl (by omega) hk12) ?_
        refine Sg.go (pc' := 111) (mi_goto (tgt := 111) dX11_patchOf_75 (by decide)) ?_
        exact Sg.ret (mi_ireturn dX11_patchOf_111 rfl (Or.inl rfl))
    · refine Sg.go (pc' := 56) (mi_ifne_f (tgt := 64) dX11_patchOf_53 (by decide) h5) ?_
      refine Sg.go (pc' := 57) (mi_aload_n dX11_patchOf_56 rfl) ?_
      refine Sg.go (pc' := 58) (mi_iload_n dX11_patchOf_57 rfl) ?_
      refine Sg.callI (pc' := 61) (t := 0) (μ' := m_X11_placeOf) (args := [(42, 0), (0, v1)]) (mi_invV (n := 1) (r := 40) dX11_patchOf_58 hC_40 (by omega) rfl rfl wN_X11_placeOf rfl ⟨by decide, by decide⟩ wL_X11_413 wI_X11_placeOf wS_X11_placeOf wB_X11 wC_X11_placeOf) (fun v hv => C_X11_placeOf hL v1 D3 v hv) (Nat.le_of_ble_eq_true rfl) rfl rfl (fun y13 => ?_)
      refine Sg.go (pc' := 111) (mi_goto (tgt := 111) dX11_patchOf_61 (by decide)) ?_
      exact Sg.ret (mi_ireturn dX11_patchOf_111 rfl (Or.inl rfl))
  · refine Sg.go (pc' := 50) (mi_ifeq_f (tgt := 52) dX11_patchOf_47 (by decide) h4) ?_
    refine Sg.go (pc' := 51) (mi_iconst (z := 0) dX11_patchOf_50 rfl) ?_
    exact Sg.ret (mi_ireturn dX11_patchOf_51 rfl (Or.inl rfl))
def B_X11_patchOf_19 (v1 : Int) (v2 : Int) (s1 : Int) (D : MiD) : Option (Int × MiD) := if s1 = 0 ∨ s1 = 1 then (mi_b2 (B_X11_bad s1 1 0 D) fun y2 D3 => if y2 ≠ 0 then (some (0, D3)) else (if (B_X11_in v2 0 4) ≠ 0 then (B_X11_patchOf_42 v1 v2 0 D3) else (B_X11_patchOf_42 v1 v2 1 D3))) else none
set_option maxRecDepth 20000 in
theorem S_X11_patchOf_19 {Z : MiZ} (hL : ML Z) (v1 v2 s1 : Int) (D : MiD) : Sg m_X11_patchOf 19 [(42, 0), (0, v1), (0, v2)] [(0, s1), (42, 0)] (D, Z) (mi_LD 0 Z) (B_X11_patchOf_19 v1 v2 s1 D) := by
  unfold B_X11_patchOf_19
  refine Sg.go (pc' := 20) (mi_iconst (z := 1) dX11_patchOf_19 rfl) ?_
  refine Sg.go (pc' := 21) (mi_iconst (z := 0) dX11_patchOf_20 rfl) ?_
  refine Sg.ck (fun hk1 => ?_)
  refine Sg.callD (pc' := 24) (t := 0) (μ' := m_X11_bad) (args := [(42, 0), (0, s1), (0, 1), (0, 0)]) (mi_invV (n := 3) (r := 40) dX11_patchOf_21 hC_40 (by omega) rfl rfl wN_X11_bad rfl ⟨by decide, by decide⟩ wL_X11_229 wI_X11_bad wS_X11_bad wB_X11 wC_X11_bad) (fun v hv => C_X11_bad hL s1 1 0 D (hk1) v hv) (Nat.le_of_ble_eq_true rfl) rfl rfl (fun y2 D3 => ?_)
  refine Sg.ite (fun h4 => ?_) (fun h4 => ?_)
  · refine Sg.go (pc' := 50) (mi_ifne_t (tgt := 50) dX11_patchOf_24 (by decide) h4) ?_
    refine Sg.go (pc' := 51) (mi_iconst (z := 0) dX11_patchOf_50 rfl) ?_
    exact Sg.ret (mi_ireturn dX11_patchOf_51 rfl (Or.inl rfl))
  · refine Sg.go (pc' := 27) (mi_ifne_f (tgt := 50) dX11_patchOf_24 (by decide) h4) ?_
    refine Sg.go (pc' := 28) (mi_aload_n dX11_patchOf_27 rfl) ?_
    refine Sg.go (pc' := 29) (mi_iload_n dX11_patchOf_28 rfl) ?_
    refine Sg.go (pc' := 30) (mi_iconst (z := 0) dX11_patchOf_29 rfl) ?_
    refine Sg.go (pc' := 31) (mi_iconst (z := 4) dX11_patchOf_30 rfl) ?_
    refine Sg.callP (pc' := 34) (t := 0) (v := (B_X11_in v2 0 4)) (μ' := m_X11_in) (args := [(0, v2), (0, 0), (0, 4)]) (mi_invS (n := 3) dX11_patchOf_31 rfl wN_X11_in rfl ⟨by decide, by decide⟩ wL_X11_121 wT_X11_in wB_X11 wC_X11_in) (C_X11_in hL v2 0 4 D3) (Nat.le_of_ble_eq_true rfl) rfl rfl ?_
    refine Sg.ite (fun h5 => ?_) (fun h5 => ?_)
    · refine Sg.go (pc' := 41) (mi_ifne_t (tgt := 41) dX11_patchOf_34 (by decide) h5) ?_
      refine Sg.go (pc' := 42) (mi_iconst (z := 0) dX11_patchOf_41 rfl) ?_
      exact S_X11_patchOf_42 hL v1 v2 0 D3
    · refine Sg.go (pc' := 37) (mi_ifne_f (tgt := 41) dX11_patchOf_34 (by decide) h5) ?_
      refine Sg.go (pc' := 38) (mi_iconst (z := 1) dX11_patchOf_37 rfl) ?_
      refine Sg.go (pc' := 42) (mi_goto (tgt := 42) dX11_patchOf_38 (by decide)) ?_
      exact S_X11_patchOf_42 hL v1 v2 1 D3
def B_X11_patchOf (v1 : Int) (v2 : Int) (D : MiD) : Option (Int × MiD) := mi_let (mi_st D 40 0 0 0) fun D1 => mi_bi (B_X11_isPatch D1 v1) fun y2 => if y2 ≠ 0 then (B_X11_patchOf_19 v1 v2 0 D1) else (B_X11_patchOf_19 v1 v2 1 D1)
set_option maxRecDepth 20000 in
theorem S_X11_patchOf {Z : MiZ} (hL : ML Z) (v1 v2 : Int) (D : MiD) : Sg m_X11_patchOf 0 [(42, 0), (0, v1), (0, v2)] [] (D, Z) (mi_LD 0 Z) (B_X11_patchOf v1 v2 D) := by
  unfold B_X11_patchOf
  refine Sg.go (pc' := 1) (mi_aload_n dX11_patchOf_0 rfl) ?_
  refine Sg.go (pc' := 2) (mi_iconst (z := 0) dX11_patchOf_1 rfl) ?_
  refine Sg.goM (pc' := 5) (mi_pfD (r := 40) (k := 0) (t := 0) dX11_patchOf_2 hC_40 (by decide) rfl rfl wF_X11_78 (by omega) rfl (by decide) (Or.inl ⟨rfl, rfl⟩)) ?_
  refine Sg.letD (fun D1 hD1 => ?_)
  refine Sg.go (pc' := 6) (mi_aload_n dX11_patchOf_5 rfl) ?_
  refine Sg.go (pc' := 7) (mi_aload_n dX11_patchOf_6 rfl) ?_
  refine Sg.go (pc' := 8) (mi_iload_n dX11_patchOf_7 rfl) ?_
  refine Sg.callI (pc' := 11) (t := 0) (μ' := m_X11_isPatch) (args := [(42, 0), (0, v1)]) (mi_invV (n := 1) (r := 40) dX11_patchOf_8 hC_40 (by omega) rfl rfl wN_X11_isPatch rfl ⟨by decide, by decide⟩ wL_X11_389 wI_X11_isPatch wS_X11_isPatch wB_X11 wC_X11_isPatch) (fun v hv => C_X11_isPatch hL v1 D1 v hv) (Nat.le_of_ble_eq_true rfl) rfl rfl (fun y2 => ?_)
  refine Sg.ite (fun h3 => ?_) (fun h3 => ?_)
  · refine Sg.go (pc' := 18) (mi_ifne_t (tgt := 18) dX11_patchOf_11 (by decide) h3) ?_
    refine Sg.go (pc' := 19) (mi_iconst (z := 0) dX11_patchOf_18 rfl) ?_
    exact S_X11_patchOf_19 hL v1 v2 0 D1
  · refine Sg.go (pc' := 14) (mi_ifne_f (tgt := 18) dX11_patchOf_11 (by decide) h3) ?_
    refine Sg.go (pc' := 15) (mi_iconst (z := 1) dX11_patchOf_14 rfl) ?_
    refine Sg.go (pc' := 19) (mi_goto (tgt := 19) dX11_patchOf_15 (by decide)) ?_
    exact S_X11_patchOf_19 hL v1 v2 1 D1
theorem C_X11_patchOf {Z : MiZ} (hL : ML Z) (a1 a2 : Int) (D : MiD) (b : Int × MiD) (hb : B_X11_patchOf a1 a2 D = some b) : MC m_X11_patchOf [(42, 0), (0, a1), (0, a2)] (D, Z) ((mi_LD 0 Z) b) := MC.ofSg (L := (mi_LD 0 Z)) (μ := m_X11_patchOf) (args := [(42, 0), (0, a1), (0, a2)]) (M := (D, Z)) rfl wP_X11 (Nat.le_of_ble_eq_true rfl) (show Sg m_X11_patchOf 0 [(42, 0), (0, a1), (0, a2)] [] (D, Z) (mi_LD 0 Z) (B_X11_patchOf a1 a2 D) from S_X11_patchOf hL a1 a2 D) hb
abbrev m_X11_pushes : MiI := (yX11_pushes, cX11_pushes, 4, none, 3, none)
def B_X11_pushes (v1 : Int) (v2 : Int) (D : MiD) : Option (MiD) := if 0 ≤ v1 ∧ v1 < 6 then (if 0 ≤ v1 ∧ v1 < 7 then (if 0 ≤ (D 59 v1 0) ∧ (D 59 v1 0) < 10 then (mi_let (mi_st D 63 (10 * v1 + (D 59 v1 0)) 0 v2) fun D4 => mi_bi (B_X11_callsBy D4 v1 v2) fun y5 => mi_let (mi_st D4 63 (10 * v1 + (D 59 v1 0)) 1 y5) fun D6 => mi_let (mi_st D6 63 (10 * v1 + (D 59 v1 0)) 2 0) fun D7 => mi_let (mi_st D7 63 (10 * v1 + (D 59 v1 0)) 3 0) fun D8 => mi_let (mi_st D8 59 v1 0 (mi_w ((D8 59 v1 0) + 1))) fun D9 => some D9) else none) else none) else none
set_option maxRecDepth 20000 in
theorem S_X11_pushes {Z : MiZ} (hL : ML Z) (v1 v2 : Int) (D : MiD) : Sg m_X11_pushes 0 [(42, 0), (0, v1), (0, v2), mi_un] [] (D, Z) (mi_LV Z) (B_X11_pushes v1 v2 D) := by
  unfold B_X11_pushes
  refine Sg.go (pc' := 1) (mi_aload_n dX11_pushes_0 rfl) ?_
  refine Sg.go (pc' := 4) (mi_gfA (t := 61) (v := 0) (r := 40) (k := 22) dX11_pushes_1 hC_40 (by decide) rfl wF_X11_63 (by omega) rfl (hL.1 22 (by decide))) ?_
  refine Sg.go (pc' := 5) (mi_iload_n dX11_pushes_4 rfl) ?_
  refine Sg.ck (fun hk1 => ?_)
  refine Sg.go (pc' := 6) (mi_aald (n := 6) (t := 62) (v := v1) dX11_pushes_5 rfl hA_61 rfl (by omega) hk1 rfl (hL.2.2.2.2.2.2.2.1 _ hk1.1 hk1.2)) ?_
  refine Sg.go (pc' := 7) (mi_aload_n dX11_pushes_6 rfl) ?_
  refine Sg.go (pc' := 10) (mi_gfA (t := 58) (v := 0) (r := 40) (k := 20) dX11_pushes_7 hC_40 (by decide) rfl wF_X11_56 (by omega) rfl (hL.1 20 (by decide))) ?_
  refine Sg.go (pc' := 11) (mi_iload_n dX11_pushes_10 rfl) ?_
  refine Sg.ck (fun hk2 => ?_)
  refine Sg.go (pc' := 12) (mi_aald (n := 7) (t := 59) (v := v1) dX11_pushes_11 rfl hA_58 rfl (by omega) hk2 rfl (hL.2.2.2.2.2.2.1 _ hk2.1 hk2.2)) ?_
  refine Sg.go (pc' := 13) (mi_iconst (z := 0) dX11_pushes_12 rfl) ?_
  refine Sg.go (pc' := 14) (mi_iald (n := 7) dX11_pushes_13 rfl rfl (by omega) (by decide)) ?_
  refine Sg.ck (fun hk3 => ?_)
  refine Sg.go (pc' := 15) (mi_aald (n := 10) (t := 63) (v := (10 * v1 + (D 59 v1 0))) dX11_pushes_14 rfl hA_62 rfl (by omega) hk3 rfl (hL.2.2.2.2.2.2.2.2 _ _ (by omega) (by omega) hk3.1 hk3.2)) ?_
  refine Sg.go (pc' := 16) (mi_astore_n (ls1 := [(42, 0), (0, v1), (0, v2), (65, (10 * v1 + (D 59 v1 0)))]) dX11_pushes_15 (by decide) rfl) ?_
  refine Sg.go (pc' := 17) (mi_aload_n dX11_pushes_16 rfl) ?_
  refine Sg.go (pc' := 18) (mi_iconst (z := 0) dX11_pushes_17 rfl) ?_
  refine Sg.go (pc' := 19) (mi_iload_n dX11_pushes_18 rfl) ?_
  refine Sg.goM (pc' := 20) (mi_iast (n := 4) dX11_pushes_19 rfl rfl (by omega) (by decide)) ?_
  refine Sg.letD (fun D4 hD4 => ?_)
  refine Sg.go (pc' := 21) (mi_aload_n dX11_pushes_20 rfl) ?_
  refine Sg.go (pc' := 22) (mi_iconst (z := 1) dX11_pushes_21 rfl) ?_
  refine Sg.go (pc' := 23) (mi_aload_n dX11_pushes_22 rfl) ?_
  refine Sg.go (pc' := 24) (mi_iload_n dX11_pushes_23 rfl) ?_
  refine Sg.go (pc' := 25) (mi_iload_n dX11_pushes_24 rfl) ?_
  refine Sg.callI (pc' := 28) (t := 0) (μ' := m_X11_callsBy) (args := [(42, 0), (0, v1), (0, v2)]) (mi_invV (n := 2) (r := 40) dX11_pushes_25 hC_40 (by omega) rfl rfl wN_X11_callsBy rfl ⟨by decide, by decide⟩ wL_X11_314 wI_X11_callsBy wS_X11_callsBy wB_X11 wC_X11_callsBy) (fun v hv => C_X11_callsBy hL v1 v2 D4 v hv) (Nat.le_of_ble_eq_true rfl) rfl rfl (fun y5 => ?_)
  refine Sg.goM (pc' := 29) (mi_iast (n := 4) dX11_pushes_28 rfl rfl (by omega) (by decide)) ?_
  refine Sg.letD (fun D6 hD6 => ?_)
  refine Sg.go (pc' := 30) (mi_aload_n dX11_pushes_29 rfl) ?_
  refine Sg.go (pc' := 31) (mi_iconst (z := 2) dX11_pushes_30 rfl) ?_
  refine Sg.go (pc' := 32) (mi_iconst (z := 0) dX11_pushes_31 rfl) ?_
  refine Sg.goM (pc' := 33) (mi_iast (n := 4) dX11_pushes_32 rfl rfl (by omega) (by decide)) ?_
  refine Sg.letD (fun D7 hD7 => ?_)
  refine Sg.go (pc' := 34) (mi_aload_n dX11_pushes_33 rfl) ?_
  refine Sg.go (pc' := 35) (mi_iconst (z := 3) dX11_pushes_34 rfl) ?_
  refine Sg.go (pc' := 36) (mi_iconst (z := 0) dX11_pushes_35 rfl) ?_
  refine Sg.goM (pc' := 37) (mi_iast (n := 4) dX11_pushes_36 rfl rfl (by omega) (by decide)) ?_
  refine Sg.letD (fun D8 hD8 => ?_)
  refine Sg.go (pc' := 38) (mi_aload_n dX11_pushes_37 rfl) ?_
  refine Sg.go (pc' := 41) (mi_gfA (t := 58) (v := 0) (r := 40) (k := 20) dX11_pushes_38 hC_40 (by decide) rfl wF_X11_56 (by omega) rfl (hL.1 20 (by decide))) ?_
  refine Sg.go (pc' := 42) (mi_iload_n dX11_pushes_41 rfl) ?_
  refine Sg.go (pc' := 43) (mi_aald (n := 7) (t := 59) (v := v1) dX11_pushes_42 rfl hA_58 rfl (by omega) hk2 rfl (hL.2.2.2.2.2.2.1 _ hk2.1 hk2.2)) ?_
  refine Sg.go (pc' := 44) (mi_iconst (z := 0) dX11_pushes_43 rfl) ?_
  refine Sg.go (pc' := 45) (mi_dup2 dX11_pushes_44 (show (0 : Nat) ≠ 1 by decide) (show (61 : Nat) ≠ 1 by decide)) ?_
  refine Sg.go (pc' := 46) (mi_iald (n := 7) dX11_pushes_45 rfl rfl (by omega) (by decide)) ?_
  refine Sg.go (pc' := 47) (mi_iconst (z := 1) dX11_pushes_46 rfl) ?_
  refine Sg.go (pc' := 48) (mi_iadd dX11_pushes_47) ?_
  refine Sg.goM (pc' := 49) (mi_iast (n := 7) dX11_pushes_48 rfl rfl (by omega) (by decide)) ?_
  refine Sg.letD (fun D9 hD9 => ?_)
  exact Sg.ret (mi_return dX11_pushes_49 rfl (0, 0))
theorem C_X11_pushes {Z : MiZ} (hL : ML Z) (a1 a2 : Int) (D : MiD) (b : MiD) (hb : B_X11_pushes a1 a2 D = some b) : MC m_X11_pushes [(42, 0), (0, a1), (0, a2)] (D, Z) ((mi_LV Z) b) := MC.ofSg (L := (mi_LV Z)) (μ := m_X11_pushes) (args := [(42, 0), (0, a1), (0, a2)]) (M := (D, Z)) rfl wP_X11 (Nat.le_of_ble_eq_true rfl) (show Sg m_X11_pushes 0 [(42, 0), (0, a1), (0, a2), mi_un] [] (D, Z) (mi_LV Z) (B_X11_pushes a1 a2 D) from S_X11_pushes hL a1 a2 D) hb
abbrev m_X11_puts : MiI := (yX11_puts, cX11_puts, 7, (some .int), 3, none)
def B_X11_puts_242 (s0 : Int) (s1 : Int) (s2 : Int) (D : MiD) : Option (Int × MiD) := if 0 ≤ s0 ∧ s0 < 61 then (if 0 ≤ s1 ∧ s1 < 9 then (mi_let (mi_st D 57 s0 s1 s2) fun D3 => some (0, D3)) else none) else none
set_option maxRecDepth 20000 in
theorem S_X11_puts_242 {Z : MiZ} (hL : ML Z) (s0 s1 s2 : Int) (D : MiD) : Sg m_X11_puts 242 [mi_un, mi_un, mi_un, mi_un, mi_un, mi_un, mi_un] [(1, s2), (0, s1), (59, s0)] (D, Z) (mi_LD 0 Z) (B_X11_puts_242 s0 s1 s2 D) := by
  unfold B_X11_puts_242
  refine Sg.ck (fun hk1 => ?_)
  refine Sg.ck (fun hk2 => ?_)
  refine Sg.goM (pc' := 243) (mi_last (n := 9) dX11_puts_242 rfl rfl (by omega) hk2) ?_
  refine Sg.letD (fun D3 hD3 => ?_)
  refine Sg.go (pc' := 244) (mi_iconst (z := 0) dX11_puts_243 rfl) ?_
  exact Sg.ret (mi_ireturn dX11_puts_244 rfl (Or.inl rfl))
def B_X11_puts_195 (v1 : Int) (v2 : Int) (v4 : Int) (v5 : Int) (s0 : Int) (s1 : Int) (s2 : Int) (D : MiD) : Option (Int × MiD) := if 0 ≤ s0 ∧ s0 < 61 then (if 0 ≤ s1 ∧ s1 < 9 then (mi_let (mi_st D 55 s0 s1 s2) fun D3 => if 0 ≤ v4 ∧ v4 < 61 then (if v1 ≠ (-1) then (if 7 < (D3 52 0 v4) then (B_X11_puts_242 v4 v5 v2 D3) else (B_X11_puts_242 v4 v5 (B_X11_as v1 v2 (D3 52 0 v4)) D3)) else (B_X11_puts_242 v4 v5 0 D3)) else none) else none) else none
set_option maxRecDepth 20000 in
theorem S_X11_puts_195 {Z : MiZ} (hL : ML Z) (v1 v2 v4 v5 s0 s1 s2 : Int) (D : MiD) : Sg m_X11_puts 195 [(42, 0), (0, v1), (1, v2), mi_un, (0, v4), (0, v5), mi_un] [(0, s2), (0, s1), (57, s0)] (D, Z) (mi_LD 0 Z) (B_X11_puts_195 v1 v2 v4 v5 s0 s1 s2 D) := by
  unfold B_X11_puts_195
  refine Sg.ck (fun hk1 => ?_)
  refine Sg.ck (fun hk2 => ?_)
  refine Sg.goM (pc' := 196) (mi_iast (n := 9) dX11_puts_195 rfl rfl (by omega) hk2) ?_
  refine Sg.letD (fun D3 hD3 => ?_)
  refine Sg.go (pc' := 197) (mi_aload_n dX11_puts_196 rfl) ?_
  refine Sg.go (pc' := 200) (mi_gfA (t := 56) (v := 0) (r := 40) (k := 19) dX11_puts_197 hC_40 (by decide) rfl wF_X11_53 (by omega) rfl (hL.1 19 (by decide))) ?_
  refine Sg.go (pc' := 202) (mi_iload dX11_puts_200 rfl) ?_
  refine Sg.ck (fun hk4 => ?_)
  refine Sg.go (pc' := 203) (mi_aald (n := 61) (t := 57) (v := v4) dX11_puts_202 rfl hA_56 rfl (by omega) hk4 rfl (hL.2.2.2.2.2.1 _ hk4.1 hk4.2)) ?_
  refine Sg.go (pc' := 205) (mi_iload dX11_puts_203 rfl) ?_
  refine Sg.go (pc' := 206) (mi_iload_n dX11_puts_205 rfl) ?_
  refine Sg.go (pc' := 207) (mi_iconst (z := (-1)) dX11_puts_206 rfl) ?_
  refine Sg.ite (fun h5 => ?_) (fun h5 => ?_)
  · refine Sg.go (pc' := 214) (mi_icmpne_t (tgt := 214) dX11_puts_207 (by decide) h5) ?_
    refine Sg.go (pc' := 215) (mi_aload_n dX11_puts_214 rfl) ?_
    refine Sg.go (pc' := 218) (mi_gfA (t := 52) (v := 0) (r := 40) (k := 16) dX11_puts_215 hC_40 (by decide) rfl wF_X11_42 (by omega) rfl (hL.1 16 (by decide))) ?_
    refine Sg.go (pc' := 220) (mi_iload dX11_puts_218 rfl) ?_
    refine Sg.go (pc' := 221) (mi_iald (n := 61) dX11_puts_220 rfl rfl (by omega) hk4) ?_
    refine Sg.go (pc' := 223) (mi_bipush (z := 7) dX11_puts_221 rfl) ?_
    refine Sg.ite (fun h6 => ?_) (fun h6 => ?_)
    · refine Sg.go (pc' := 241) (mi_icmpgt_t (tgt := 241) dX11_puts_223 (by decide) h6) ?_
      refine Sg.go (pc' := 242) (mi_lload_n dX11_puts_241 rfl) ?_
      refine Sg.go (pc' := 242) (MiStep.weak (ls' := [mi_un, mi_un, mi_un, mi_un, mi_un, mi_un, mi_un]) (mi_wk_n (mi_wk_n (mi_wk_n (mi_wk_y (mi_wk_n (mi_wk_n (mi_wk_y mi_wk_0)))))))) ?_
      exact S_X11_puts_242 hL v4 v5 v2 D3
    · refine Sg.go (pc' := 226) (mi_icmpgt_f (tgt := 241) dX11_puts_223 (by decide) h6) ?_
      refine Sg.go (pc' := 227) (mi_iload_n dX11_puts_226 rfl) ?_
      refine Sg.go (pc' := 228) (mi_lload_n dX11_puts_227 rfl) ?_
      refine Sg.go (pc' := 229) (mi_aload_n dX11_puts_228 rfl) ?_
      refine Sg.go (pc' := 232) (mi_gfA (t := 52) (v := 0) (r := 40) (k := 16) dX11_puts_229 hC_40 (by decide) rfl wF_X11_42 (by omega) rfl (hL.1 16 (by decide))) ?_
      refine Sg.go (pc' := 234) (mi_iload dX11_puts_232 rfl) ?_
      refine Sg.go (pc' := 235) (mi_iald (n := 61) dX11_puts_234 rfl rfl (by omega) hk4) ?_
      refine Sg.callP (pc' := 238) (t := 1) (v := (B_X11_as v1 v2 (D3 52 0 v4))) (μ' := m_X11_as) (args := [(0, v1), (1, v2), (0, (D3 52 0 v4))]) (mi_invS (n := 3) dX11_puts_235 rfl wN_X11_as rfl ⟨by decide, by decide⟩ wL_X11_296 wT_X11_as wB_X11 wC_X11_as) (C_X11_as hL v1 v2 (D3 52 0 v4) D3) (Nat.le_of_ble_eq_true rfl) rfl rfl ?_
      refine Sg.go (pc' := 242) (mi_goto (tgt := 242) dX11_puts_238 (by decide)) ?_
      refine Sg.go (pc' := 242) (MiStep.weak (ls' := [mi_un, mi_un, mi_un, mi_un, mi_un, mi_un, mi_un]) (mi_wk_n (mi_wk_n (mi_wk_n (mi_wk_y (mi_wk_n (mi_wk_n (mi_wk_y mi_wk_0)))))))) ?_
      exact S_X11_puts_242 hL v4 v5 (B_X11_as v1 v2 (D3 52 0 v4)) D3
  · refine Sg.go (pc' := 210) (mi_icmpne_f (tgt := 214) dX11_puts_207 (by decide) h5) ?_
    refine Sg.go (pc' := 211) (mi_lconst (z := 0) dX11_puts_210 rfl) ?_
    refine Sg.go (pc' := 242) (mi_goto (tgt := 242) dX11_puts_211 (by decide)) ?_
    refine Sg.go (pc' := 242) (MiStep.weak (ls' := [mi_un, mi_un, mi_un, mi_un, mi_un, mi_un, mi_un]) (mi_wk_n (mi_wk_n (mi_wk_n (mi_wk_y (mi_wk_n (mi_wk_n (mi_wk_y mi_wk_0)))))))) ?_
    exact S_X11_puts_242 hL v4 v5 0 D3
def B_X11_puts_154 (v1 : Int) (v2 : Int) (v4 : Int) (v5 : Int) (s0 : Int) (D : MiD) : Option (Int × MiD) := if s0 = 0 then (if 0 ≤ v4 ∧ v4 < 61 then (if 7 < (D 52 0 v4) then (B_X11_puts_195 v1 v2 v4 v5 v4 v5 v1 D) else (B_X11_puts_195 v1 v2 v4 v5 v4 v5 (D 52 0 v4) D)) else none) else (some (2, D))
set_option maxRecDepth 20000 in
theorem S_X11_puts_154 {Z : MiZ} (hL : ML Z) (v1 v2 v4 v5 s0 : Int) (D : MiD) : Sg m_X11_puts 154 [(42, 0), (0, v1), (1, v2), mi_un, (0, v4), (0, v5), mi_un] [(0, s0)] (D, Z) (mi_LD 0 Z) (B_X11_puts_154 v1 v2 v4 v5 s0 D) := by
  unfold B_X11_puts_154
  refine Sg.go (pc' := 156) (mi_istore (ls1 := [(42, 0), (0, v1), (1, v2), mi_un, (0, v4), (0, v5), (0, s0)]) dX11_puts_154 (by decide) rfl) ?_
  refine Sg.go (pc' := 158) (mi_iload dX11_puts_156 rfl) ?_
  refine Sg.ite (fun h1 => ?_) (fun h1 => ?_)
  · refine Sg.go (pc' := 163) (mi_ifeq_t (tgt := 163) dX11_puts_158 (by decide) h1) ?_
    refine Sg.go (pc' := 164) (mi_aload_n dX11_puts_163 rfl) ?_
    refine Sg.go (pc' := 167) (mi_gfA (t := 54) (v := 0) (r := 40) (k := 18) dX11_puts_164 hC_40 (by decide) rfl wF_X11_48 (by omega) rfl (hL.1 18 (by decide))) ?_
    refine Sg.go (pc' := 169) (mi_iload dX11_puts_167 rfl) ?_
    refine Sg.ck (fun hk2 => ?_)
    refine Sg.go (pc' := 170) (mi_aald (n := 61) (t := 55) (v := v4) dX11_puts_169 rfl hA_54 rfl (by omega) hk2 rfl (hL.2.2.2.2.1 _ hk2.1 hk2.2)) ?_
    refine Sg.go (pc' := 172) (mi_iload dX11_puts_170 rfl) ?_
    refine Sg.go (pc' := 173) (mi_aload_n dX11_puts_172 rfl) ?_
    refine Sg.go (pc' := 176) (mi_gfA (t := 52) (v := 0) (r := 40) (k := 16) dX11_puts_173 hC_40 (by decide) rfl wF_X11_42 (by omega) rfl (hL.1 16 (by decide))) ?_
    refine Sg.go (pc' := 178) (mi_iload dX11_puts_176 rfl) ?_
    refine Sg.go (pc' := 179) (mi_iald (n := 61) dX11_puts_178 rfl rfl (by omega) hk2) ?_
    refine Sg.go (pc' := 181) (mi_bipush (z := 7) dX11_puts_179 rfl) ?_
    refine Sg.ite (fun h3 => ?_) (fun h3 => ?_)
    · refine Sg.go (pc' := 194) (mi_icmpgt_t (tgt := 194) dX11_puts_181 (by decide) h3) ?_
      refine Sg.go (pc' := 195) (mi_iload_n dX11_puts_194 rfl) ?_
      refine Sg.go (pc' := 195) (MiStep.weak (ls' := [(42, 0), (0, v1), (1, v2), mi_un, (0, v4), (0, v5), mi_un]) (mi_wk_y (mi_wk_y (mi_wk_y (mi_wk_y (mi_wk_y (mi_wk_y (mi_wk_n mi_wk_0)))))))) ?_
      exact S_X11_puts_195 hL v1 v2 v4 v5 v4 v5 v1 D
    · refine Sg.go (pc' := 184) (mi_icmpgt_f (tgt := 194) dX11_puts_181 (by decide) h3) ?_
      refine Sg.go (pc' := 185) (mi_aload_n dX11_puts_184 rfl) ?_
      refine Sg.go (pc' := 188) (mi_gfA (t := 52) (v := 0) (r := 40) (k := 16) dX11_puts_185 hC_40 (by decide) rfl wF_X11_42 (by omega) rfl (hL.1 16 (by decide))) ?_
      refine Sg.go (pc' := 190) (mi_iload dX11_puts_188 rfl) ?_
      refine Sg.go (pc' := 191) (mi_iald (n := 61) dX11_puts_190 rfl rfl (by omega) hk2) ?_
      refine Sg.go (pc' := 195) (mi_goto (tgt := 195) dX11_puts_191 (by decide)) ?_
      refine Sg.go (pc' := 195) (MiStep.weak (ls' := [(42, 0), (0, v1), (1, v2), mi_un, (0, v4), (0, v5), mi_un]) (mi_wk_y (mi_wk_y (mi_wk_y (mi_wk_y (mi_wk_y (mi_wk_y (mi_wk_n mi_wk_0)))))))) ?_
      exact S_X11_puts_195 hL v1 v2 v4 v5 v4 v5 (D 52 0 v4) D
  · refine Sg.go (pc' := 161) (mi_ifeq_f (tgt := 163) dX11_puts_158 (by decide) h1) ?_
    refine Sg.go (pc' := 162) (mi_iconst (z := 2) dX11_puts_161 rfl) ?_
    exact Sg.ret (mi_ireturn dX11_puts_162 rfl (Or.inl rfl))
def B_X11_puts_123 (v1 : Int) (v2 : Int) (v4 : Int) (v5 : Int) (D : MiD) : Option (Int × MiD) := B_X11_puts_154 v1 v2 v4 v5 0 D
set_option maxRecDepth 20000 in
theorem S_X11_puts_123 {Z : MiZ} (hL : ML Z) (v1 v2 v4 v5 : Int) (D : MiD) : Sg m_X11_puts 123 [(42, 0), (0, v1), (1, v2), mi_un, (0, v4), (0, v5), mi_un] [] (D, Z) (mi_LD 0 Z) (B_X11_puts_123 v1 v2 v4 v5 D) := by
  unfold B_X11_puts_123
  refine Sg.go (pc' := 124) (mi_iconst (z := 0) dX11_puts_123 rfl) ?_
  refine Sg.go (pc' := 154) (mi_goto (tgt := 154) dX11_puts_124 (by decide)) ?_
  exact S_X11_puts_154 hL v1 v2 v4 v5 0 D
def B_X11_puts_153 (v1 : Int) (v2 : Int) (v4 : Int) (v5 : Int) (D : MiD) : Option (Int × MiD) := B_X11_puts_154 v1 v2 v4 v5 0 D
set_option maxRecDepth 20000 in
theorem S_X11_puts_153 {Z : MiZ} (hL : ML Z) (v1 v2 v4 v5 : Int) (D : MiD) : Sg m_X11_puts 153 [(42, 0), (0, v1), (1, v2), mi_un, (0, v4), (0, v5), mi_un] [] (D, Z) (mi_LD 0 Z) (B_X11_puts_153 v1 v2 v4 v5 D) := by
  unfold B_X11_puts_153
  refine Sg.go (pc' := 154) (mi_iconst (z := 0) dX11_puts_153 rfl) ?_
  exact S_X11_puts_154 hL v1 v2 v4 v5 0 D
def B_X11_puts_48 (v1 : Int) (v2 : Int) (v4 : Int) (v5 : Int) (D : MiD) : Option (Int × MiD) := if 0 ≤ v4 ∧ v4 < 61 then (if v5 < (D 53 0 v4) then (if 7 < (D 52 0 v4) then (if (D 52 0 v4) ≠ 8 then (if (D 52 0 v4) ≠ 9 then (B_X11_puts_153 v1 v2 v4 v5 D) else (if v1 = (-1) then (B_X11_puts_153 v1 v2 v4 v5 D) else (if v1 = 4 then (B_X11_puts_153 v1 v2 v4 v5 D) else (B_X11_puts_154 v1 v2 v4 v5 1 D)))) else (if v1 = (-1) then (B_X11_puts_123 v1 v2 v4 v5 D) else (if v1 = 8 then (B_X11_puts_123 v1 v2 v4 v5 D) else (B_X11_puts_154 v1 v2 v4 v5 1 D)))) else (if (B_X11_widens v1 (D 52 0 v4)) ≠ 0 then (B_X11_puts_154 v1 v2 v4 v5 0 D) else (B_X11_puts_154 v1 v2 v4 v5 1 D))) else (some (1, D))) else none
set_option maxRecDepth 20000 in
theorem S_X11_puts_48 {Z : MiZ} (hL : ML Z) (v1 v2 v4 v5 : Int) (D : MiD) : Sg m_X11_puts 48 [(42, 0), (0, v1), (1, v2), mi_un, (0, v4), (0, v5), mi_un] [] (D, Z) (mi_LD 0 Z) (B_X11_puts_48 v1 v2 v4 v5 D) := by
  unfold B_X11_puts_48
  refine Sg.go (pc' := 50) (mi_iload dX11_puts_48 rfl) ?_
  refine Sg.go (pc' := 51) (mi_aload_n dX11_puts_50 rfl) ?_
  refine Sg.go (pc' := 54) (mi_gfA (t := 53) (v := 0) (r := 40) (k := 17) dX11_puts_51 hC_40 (by decide) rfl wF_X11_45 (by omega) rfl (hL.1 17 (by decide))) ?_
  refine Sg.go (pc' := 56) (mi_iload dX11_puts_54 rfl) ?_
  refine Sg.ck (fun hk1 => ?_)
  refine Sg.go (pc' := 57) (mi_iald (n := 61) dX11_puts_56 rfl rfl (by omega) hk1) ?_
  refine Sg.ite (fun h2 => ?_) (fun h2 => ?_)
  · refine Sg.go (pc' := 62) (mi_icmplt_t (tgt := 62) dX11_puts_57 (by decide) h2) ?_
    refine Sg.go (pc' := 63) (mi_aload_n dX11_puts_62 rfl) ?_
    refine Sg.go (pc' := 66) (mi_gfA (t := 52) (v := 0) (r := 40) (k := 16) dX11_puts_63 hC_40 (by decide) rfl wF_X11_42 (by omega) rfl (hL.1 16 (by decide))) ?_
    refine Sg.go (pc' := 68) (mi_iload dX11_puts_66 rfl) ?_
    refine Sg.go (pc' := 69) (mi_iald (n := 61) dX11_puts_68 rfl rfl (by omega) hk1) ?_
    refine Sg.go (pc' := 71) (mi_bipush (z := 7) dX11_puts_69 rfl) ?_
    refine Sg.ite (fun h3 => ?_) (fun h3 => ?_)
    · refine Sg.go (pc' := 96) (mi_icmpgt_t (tgt := 96) dX11_puts_71 (by decide) h3) ?_
      refine Sg.go (pc' := 97) (mi_aload_n dX11_puts_96 rfl) ?_
      refine Sg.go (pc' := 100) (mi_gfA (t := 52) (v := 0) (r := 40) (k := 16) dX11_puts_97 hC_40 (by decide) rfl wF_X11_42 (by omega) rfl (hL.1 16 (by decide))) ?_
      refine Sg.go (pc' := 102) (mi_iload dX11_puts_100 rfl) ?_
      refine Sg.go (pc' := 103) (mi_iald (n := 61) dX11_puts_102 rfl rfl (by omega) hk1) ?_
      refine Sg.go (pc' := 105) (mi_bipush (z := 8) dX11_puts_103 rfl) ?_
      refine Sg.ite (fun h4 => ?_) (fun h4 => ?_)
      · refine Sg.go (pc' := 127) (mi_icmpne_t (tgt := 127) dX11_puts_105 (by decide) h4) ?_
        refine Sg.go (pc' := 128) (mi_aload_n dX11_puts_127 rfl) ?_
        refine Sg.go (pc' := 131) (mi_gfA (t := 52) (v := 0) (r := 40) (k := 16) dX11_puts_128 hC_40 (by decide) rfl wF_X11_42 (by omega) rfl (hL.1 16 (by decide))) ?_
        refine Sg.go (pc' := 133) (mi_iload dX11_puts_131 rfl) ?_
        refine Sg.go (pc' := 134) (mi_iald (n := 61) dX11_puts_133 rfl rfl (by omega) hk1) ?_
        refine Sg.go (pc' := 136) (mi_bipush (z := 9) dX11_puts_134 rfl) ?_
        refine Sg.ite (fun h5 => ?_) (fun h5 => ?_)
        · refine Sg.go (pc' := 153) (mi_icmpne_t (tgt := 153) dX11_puts_136 (by decide) h5) ?_
          exact S_X11_puts_153 hL v1 v2 v4 v5 D
        · refine Sg.go (pc' := 139) (mi_icmpne_f (tgt := 153) dX11_puts_136 (by decide) h5) ?_
          refine Sg.go (pc' := 140) (mi_iload_n dX11_puts_139 rfl) ?_
          refine Sg.go (pc' := 141) (mi_iconst (z := (-1)) dX11_puts_140 rfl) ?_
          refine Sg.ite (fun h6 => ?_) (fun h6 => ?_)
          · refine Sg.go (pc' := 153) (mi_icmpeq_t (tgt := 153) dX11_puts_141 (by decide) h6) ?_
            exact S_X11_puts_153 hL v1 v2 v4 v5 D
          · refine Sg.go (pc' := 144) (mi_icmpeq_f (tgt := 153) dX11_puts_141 (by decide) h6) ?_
            refine Sg.go (pc' := 145) (mi_iload_n dX11_puts_144 rfl) ?_
            refine Sg.go (pc' := 146) (mi_iconst (z := 4) dX11_puts_145 rfl) ?_
            refine Sg.ite (fun h7 => ?_) (fun h7 => ?_)
            · refine Sg.go (pc' := 153) (mi_icmpeq_t (tgt := 153) dX11_puts_146 (by decide) h7) ?_
              exact S_X11_puts_153 hL v1 v2 v4 v5 D
            · refine Sg.go (pc' := 149) (mi_icmpeq_f (tgt := 153) dX11_puts_146 (by decide) h7) ?_
              refine Sg.go (pc' := 150) (mi_iconst (z := 1) dX11_puts_149 rfl) ?_
              refine Sg.go (pc' := 154) (mi_goto (tgt := 154) dX11_puts_150 (by decide)) ?_
              exact S_X11_puts_154 hL v1 v2 v4 v5 1 D
      · refine Sg.go (pc' := 108) (mi_icmpne_f (tgt := 127) dX11_puts_105 (by decide) h4) ?_
        refine Sg.go (pc' := 109) (mi_iload_n dX11_puts_108 rfl) ?_
        refine Sg.go (pc' := 110) (mi_iconst (z := (-1)) dX11_puts_109 rfl) ?_
        refine Sg.ite (fun h8 => ?_) (fun h8 => ?_)
        · refine Sg.go (pc' := 123) (mi_icmpeq_t (tgt := 123) dX11_puts_110 (by decide) h8) ?_
          exact S_X11_puts_123 hL v1 v2 v4 v5 D
        · refine Sg.go (pc' := 113) (mi_icmpeq_f (tgt := 123) dX11_puts_110 (by decide) h8) ?_
          refine Sg.go (pc' := 114) (mi_iload_n dX11_puts_113 rfl) ?_
          refine Sg.go (pc' := 116) (mi_bipush (z := 8) dX11_puts_114 rfl) ?_
          refine Sg.ite (fun h9 => ?_) (fun h9 => ?_)
          · refine Sg.go (pc' := 123) (mi_icmpeq_t (tgt := 123) dX11_puts_116 (by decide) h9) ?_
            exact S_X11_puts_123 hL v1 v2 v4 v5 D
          · refine Sg.go (pc' := 119) (mi_icmpeq_f (tgt := 123) dX11_puts_116 (by decide) h9) ?_
            refine Sg.go (pc' := 120) (mi_iconst (z := 1) dX11_puts_119 rfl) ?_
            refine Sg.go (pc' := 154) (mi_goto (tgt := 154) dX11_puts_120 (by decide)) ?_
            exact S_X11_puts_154 hL v1 v2 v4 v5 1 D
    · refine Sg.go (pc' := 74) (mi_icmpgt_f (tgt := 96) dX11_puts_71 (by decide) h3) ?_
      refine Sg.go (pc' := 75) (mi_iload_n dX11_puts_74 rfl) ?_
      refine Sg.go (pc' := 76) (mi_aload_n dX11_puts_75 rfl) ?_
      refine Sg.go (pc' := 79) (mi_gfA (t := 52) (v := 0) (r := 40) (k := 16) dX11_puts_76 hC_40 (by decide) rfl wF_X11_42 (by omega) rfl (hL.1 16 (by decide))) ?_
      refine Sg.go (pc' := 81) (mi_iload dX11_puts_79 rfl) ?_
      refine Sg.go (pc' := 82) (mi_iald (n := 61) dX11_puts_81 rfl rfl (by omega) hk1) ?_
      refine Sg.callP (pc' := 85) (t := 0) (v := (B_X11_widens v1 (D 52 0 v4))) (μ' := m_X11_widens) (args := [(0, v1), (0, (D 52 0 v4))]) (mi_invS (n := 2) dX11_puts_82 rfl wN_X11_widens rfl ⟨by decide, by decide⟩ wL_X11_290 wT_X11_widens wB_X11 wC_X11_widens) (C_X11_widens hL v1 (D 52 0 v4) D) (Nat.le_of_ble_eq_true rfl) rfl rfl ?_
      refine Sg.ite (fun h10 => ?_) (fun h10 => ?_)
      · refine Sg.go (pc' := 92) (mi_ifne_t (tgt := 92) dX11_puts_85 (by decide) h10) ?_
        refine Sg.go (pc' := 93) (mi_iconst (z := 0) dX11_puts_92 rfl) ?_
        refine Sg.go (pc' := 154) (mi_goto (tgt := 154) dX11_puts_93 (by decide)) ?_
        exact S_X11_puts_154 hL v1 v2 v4 v5 0 D
      · refine Sg.go (pc' := 88) (mi_ifne_f (tgt := 92) dX11_puts_85 (by decide) h10) ?_
        refine Sg.go (pc' := 89) (mi_iconst (z := 1) dX11_puts_88 rfl) ?_
        refine Sg.go (pc' := 154) (mi_goto (tgt := 154) dX11_puts_89 (by decide)) ?_
        exact S_X11_puts_154 hL v1 v2 v4 v5 1 D
  · refine Sg.go (pc' := 60) (mi_icmplt_f (tgt := 62) dX11_puts_57 (by decide) h2) ?_
    refine Sg.go (pc' := 61) (mi_iconst (z := 1) dX11_puts_60 rfl) ?_
    exact Sg.ret (mi_ireturn dX11_puts_61 rfl (Or.inl rfl))
def B_X11_puts (v1 : Int) (v2 : Int) (v4 : Int) (v5 : Int) (D : MiD) : Option (Int × MiD) := mi_bi (B_X11_isGone D v4) fun y1 => if y1 = 0 then (if 0 ≤ v4 ∧ v4 < 61 then (if (D 52 0 v4) = 11 then (some (2, D)) else (if 7 < (D 52 0 v4) then (B_X11_puts_48 v1 v2 v4 v5 D) else (if v1 = (-1) then (some (2, D)) else (if v1 ≠ 8 then (B_X11_puts_48 v1 v2 v4 v5 D) else (some (2, D)))))) else none) else (some (3, D))
set_option maxRecDepth 20000 in
theorem S_X11_puts {Z : MiZ} (hL : ML Z) (v1 v2 v4 v5 : Int) (D : MiD) : Sg m_X11_puts 0 [(42, 0), (0, v1), (1, v2), mi_un, (0, v4), (0, v5), mi_un] [] (D, Z) (mi_LD 0 Z) (B_X11_puts v1 v2 v4 v5 D) := by
  unfold B_X11_puts
  refine Sg.go (pc' := 1) (mi_aload_n dX11_puts_0 rfl) ?_
  refine Sg.go (pc' := 3) (mi_iload dX11_puts_1 rfl) ?_
  refine Sg.callI (pc' := 6) (t := 0) (μ' := m_X11_isGone) (args := [(42, 0), (0, v4)]) (mi_invV (n := 1) (r := 40) dX11_puts_3 hC_40 (by omega) rfl rfl wN_X11_isGone rfl ⟨by decide, by decide⟩ wL_X11_287 wI_X11_isGone wS_X11_isGone wB_X11 wC_X11_isGone) (fun v hv => C_X11_isGone hL v4 D v hv) (Nat.le_of_ble_eq_true rfl) rfl rfl (fun y1 => ?_)
  refine Sg.ite (fun h2 => ?_) (fun h2 => ?_)
  · refine Sg.go (pc' := 11) (mi_ifeq_t (tgt := 11) dX11_puts_6 (by decide) h2) ?_
    refine Sg.go (pc' := 12) (mi_aload_n dX11_puts_11 rfl) ?_
    refine Sg.go (pc' := 15) (mi_gfA (t := 52) (v := 0) (r := 40) (k := 16) dX11_puts_12 hC_40 (by decide) rfl wF_X11_42 (by omega) rfl (hL.1 16 (by decide))) ?_
    refine Sg.go (pc' := 17) (mi_iload dX11_puts_15 rfl) ?_
    refine Sg.ck (fun hk3 => ?_)
    refine Sg.go (pc' := 18) (mi_iald (n := 61) dX11_puts_17 rfl rfl (by omega) hk3) ?_
    refine Sg.go (pc' := 20) (mi_bipush (z := 11) dX11_puts_18 rfl) ?_
    refine Sg.ite (fun h4 => ?_) (fun h4 => ?_)
    · refine Sg.go (pc' := 46) (mi_icmpeq_t (tgt := 46) dX11_puts_20 (by decide) h4) ?_
      refine Sg.go (pc' := 47) (mi_iconst (z := 2) dX11_puts_46 rfl) ?_
      exact Sg.ret (mi_ireturn dX11_puts_47 rfl (Or.inl rfl))
    · refine Sg.go (pc' := 23) (mi_icmpeq_f (tgt := 46) dX11_puts_20 (by decide) h4) ?_
      refine Sg.go (pc' := 24) (mi_aload_n dX11_puts_23 rfl) ?_
      refine Sg.go (pc' := 27) (mi_gfA (t := 52) (v := 0) (r := 40) (k := 16) dX11_puts_24 hC_40 (by decide) rfl wF_X11_42 (by omega) rfl (hL.1 16 (by decide))) ?_
      refine Sg.go (pc' := 29) (mi_iload dX11_puts_27 rfl) ?_
      refine Sg.go (pc' := 30) (mi_iald (n := 61) dX11_puts_29 rfl rfl (by omega) hk3) ?_
      refine Sg.go (pc' := 32) (mi_bipush (z := 7) dX11_puts_30 rfl) ?_
      refine Sg.ite (fun h5 => ?_) (fun h5 => ?_)
      · refine Sg.go (pc' := 48) (mi_icmpgt_t (tgt := 48) dX11_puts_32 (by decide) h5) ?_
        exact S_X11_puts_48 hL v1 v2 v4 v5 D
      · refine Sg.go (pc' := 35) (mi_icmpgt_f (tgt := 48) dX11_puts_32 (by decide) h5) ?_
        refine Sg.go (pc' := 36) (mi_iload_n dX11_puts_35 rfl) ?_
        refine Sg.go (pc' := 37) (mi_iconst (z := (-1)) dX11_puts_36 rfl) ?_
        refine Sg.ite (fun h6 => ?_) (fun h6 => ?_)
        · refine Sg.go (pc' := 46) (mi_icmpeq_t (tgt := 46) dX11_puts_37 (by decide) h6) ?_
          refine Sg.go (pc' := 47) (mi_iconst (z := 2) dX11_puts_46 rfl) ?_
          exact Sg.ret (mi_ireturn dX11_puts_47 rfl (Or.inl rfl))
        · refine Sg.go (pc' := 40) (mi_icmpeq_f (tgt := 46) dX11_puts_37 (by decide) h6) ?_
          refine Sg.go (pc' := 41) (mi_iload_n dX11_puts_40 rfl) ?_
          refine Sg.go (pc' := 43) (mi_bipush (z := 8) dX11_puts_41 rfl) ?_
          refine Sg.ite (fun h7 => ?_) (fun h7 => ?_)
          · refine Sg.go (pc' := 48) (mi_icmpne_t (tgt := 48) dX11_puts_43 (by decide) h7) ?_
            exact S_X11_puts_48 hL v1 v2 v4 v5 D
          · refine Sg.go (pc' := 46) (mi_icmpne_f (tgt := 48) dX11_puts_43 (by decide) h7) ?_
            refine Sg.go (pc' := 47) (mi_iconst (z := 2) dX11_puts_46 rfl) ?_
            exact Sg.ret (mi_ireturn dX11_puts_47 rfl (Or.inl rfl))
  · refine Sg.go (pc' := 9) (mi_ifeq_f (tgt := 11) dX11_puts_6 (by decide) h2) ?_
    refine Sg.go (pc' := 10) (mi_iconst (z := 3) dX11_puts_9 rfl) ?_
    exact Sg.ret (mi_ireturn dX11_puts_10 rfl (Or.inl rfl))
theorem C_X11_puts {Z : MiZ} (hL : ML Z) (a1 a2 a3 a4 : Int) (D : MiD) (b : Int × MiD) (hb : B_X11_puts a1 a2 a3 a4 D = some b) : MC m_X11_puts [(42, 0), (0, a1), (1, a2), (0, a3), (0, a4)] (D, Z) ((mi_LD 0 Z) b) := MC.ofSg (L := (mi_LD 0 Z)) (μ := m_X11_puts) (args := [(42, 0), (0, a1), (1, a2), (0, a3), (0, a4)]) (M := (D, Z)) rfl wP_X11 (Nat.le_of_ble_eq_true rfl) (show Sg m_X11_puts 0 [(42, 0), (0, a1), (1, a2), mi_un, (0, a3), (0, a4), mi_un] [] (D, Z) (mi_LD 0 Z) (B_X11_puts a1 a2 a3 a4 D) from S_X11_puts hL a1 a2 a3 a4 D) hb
abbrev m_X11_same : MiI := (yX11_same, cX11_same, 5, (some .int), 3, none)
def B_X11_same_135 (k66 : Int → Int → Int → Int → MiD → Option (Int × MiD)) (v1 : Int) (v2 : Int) (v4 : Int) (s0 : Int) (s1 : Int) (D : MiD) : Option (Int × MiD) := mi_let (mi_w (s0 + s1)) fun x1 => k66 v1 v2 x1 (mi_w (v4 + 1)) D
set_option maxRecDepth 20000 in
theorem S_X11_same_135 {Z : MiZ} (hL : ML Z) {k66 : Int → Int → Int → Int → MiD → Option (Int × MiD)} (K66 : ∀ (v1 v2 v3 v4 : Int) (D : MiD), Sg m_X11_same 66 [(42, 0), (0, v1), (0, v2), (0, v3), (0, v4)] [] (D, Z) (mi_LD 0 Z) (k66 v1 v2 v3 v4 D)) (v1 v2 v4 s0 s1 : Int) (D : MiD) : Sg m_X11_same 135 [(42, 0), (0, v1), (0, v2), mi_un, (0, v4)] [(0, s1), (0, s0)] (D, Z) (mi_LD 0 Z) (B_X11_same_135 k66 v1 v2 v4 s0 s1 D) := by
  unfold B_X11_same_135
  refine Sg.go (pc' := 136) (mi_iadd dX11_same_135) ?_
  refine Sg.letI (fun x1 hx1 => ?_)
  refine Sg.go (pc' := 137) (mi_istore_n (ls1 := [(42, 0), (0, v1), (0, v2), (0, x1), (0, v4)]) dX11_same_136 (by decide) rfl) ?_
  refine Sg.go (pc' := 140) (mi_iinc (z := 1) (ls1 := [(42, 0), (0, v1), (0, v2), (0, x1), (0, (mi_w (v4 + 1)))]) dX11_same_137 (by decide) rfl rfl rfl) ?_
  refine Sg.go (pc' := 66) (mi_goto (tgt := 66) dX11_same_140 (by decide)) ?_
  exact K66 v1 v2 x1 (mi_w (v4 + 1)) D
def B_X11_same_66 : Nat → Int → Int → Int → Int → MiD → Option (Int × MiD)
  | 0, _, _, _, _, _ => none
  | f + 1, v1, v2, v3, v4, D => if 0 ≤ v1 ∧ v1 < 61 then (if 0 ≤ v2 ∧ v2 < 61 then (if (B_X11_less (D 53 0 v1) (D 53 0 v2)) ≤ v4 then (some (v3, D)) else (if 0 ≤ v4 ∧ v4 < 9 then (if (B_X11_areSame (D 55 v1 v4) (D 57 v1 v4) (D 55 v2 v4) (D 57 v2 v4)) = 0 then (B_X11_same_135 (B_X11_same_66 f) v1 v2 v4 v3 0 D) else (B_X11_same_135 (B_X11_same_66 f) v1 v2 v4 v3 1 D)) else none)) else none) else none
set_option maxRecDepth 20000 in
theorem S_X11_same_66 {Z : MiZ} (hL : ML Z) : ∀ (f : Nat) (v1 v2 v3 v4 : Int) (D : MiD), Sg m_X11_same 66 [(42, 0), (0, v1), (0, v2), (0, v3), (0, v4)] [] (D, Z) (mi_LD 0 Z) (B_X11_same_66 f v1 v2 v3 v4 D) := by
  intro f
  induction f with
  | zero => intros; exact Sg.nope
  | succ f K66 =>
    intro v1 v2 v3 v4 D
    show Sg m_X11_same 66 [(42, 0), (0, v1), (0, v2), (0, v3), (0, v4)] [] (D, Z) (mi_LD 0 Z) (if 0 ≤ v1 ∧ v1 < 61 then (if 0 ≤ v2 ∧ v2 < 61 then (if (B_X11_less (D 53 0 v1) (D 53 0 v2)) ≤ v4 then (some (v3, D)) else (if 0 ≤ v4 ∧ v4 < 9 then (if (B_X11_areSame (D 55 v1 v4) (D 57 v1 v4) (D 55 v2 v4) (D 57 v2 v4)) = 0 then (B_X11_same_135 (B_X11_same_66 f) v1 v2 v4 v3 0 D) else (B_X11_same_135 (B_X11_same_66 f) v1 v2 v4 v3 1 D)) else none)) else none) else none)
    refine Sg.go (pc' := 68) (mi_iload dX11_same_66 rfl) ?_
    refine Sg.go (pc' := 69) (mi_aload_n dX11_same_68 rfl) ?_
    refine Sg.go (pc' := 72) (mi_gfA (t := 53) (v := 0) (r := 40) (k := 17) dX11_same_69 hC_40 (by decide) rfl wF_X11_45 (by omega) rfl (hL.1 17 (by decide))) ?_
    refine Sg.go (pc' := 73) (mi_iload_n dX11_same_72 rfl) ?_
    refine Sg.ck (fun hk1 => ?_)
    refine Sg.go (pc' := 74) (mi_iald (n := 61) dX11_same_73 rfl rfl (by omega) hk1) ?_
    refine Sg.go (pc' := 75) (mi_aload_n dX11_same_74 rfl) ?_
    refine Sg.go (pc' := 78) (mi_gfA (t := 53) (v := 0) (r := 40) (k := 17) dX11_same_75 hC_40 (by decide) rfl wF_X11_45 (by omega) rfl (hL.1 17 (by decide))) ?_
    refine Sg.go (pc' := 79) (mi_iload_n dX11_same_78 rfl) ?_
    refine Sg.ck (fun hk2 => ?_)
    refine Sg.go (pc' := 80) (mi_iald (n := 61) dX11_same_79 rfl rfl (by omega) hk2) ?_
    refine Sg.callP (pc' := 83) (t := 0) (v := (B_X11_less (D 53 0 v1) (D 53 0 v2))) (μ' := m_X11_less) (args := [(0, (D 53 0 v1)), (0, (D 53 0 v2))]) (mi_invS (n := 2) dX11_same_80 rfl wN_X11_less rfl ⟨by decide, by decide⟩ wL_X11_117 wT_X11_less wB_X11 wC_X11_less) (C_X11_less hL (D 53 0 v1) (D 53 0 v2) D) (Nat.le_of_ble_eq_true rfl) rfl rfl ?_
    refine Sg.ite (fun h3 => ?_) (fun h3 => ?_)
    · refine Sg.go (pc' := 143) (mi_icmpge_t (tgt := 143) dX11_same_83 (by decide) h3) ?_
      refine Sg.go (pc' := 144) (mi_iload_n dX11_same_143 rfl) ?_
      exact Sg.ret (mi_ireturn dX11_same_144 rfl (Or.inl rfl))
    · refine Sg.go (pc' := 86) (mi_icmpge_f (tgt := 143) dX11_same_83 (by decide) h3) ?_
      refine Sg.go (pc' := 87) (mi_iload_n dX11_same_86 rfl) ?_
      refine Sg.go (pc' := 88) (mi_aload_n dX11_same_87 rfl) ?_
      refine Sg.go (pc' := 89) (mi_aload_n dX11_same_88 rfl) ?_
      refine Sg.go (pc' := 92) (mi_gfA (t := 54) (v := 0) (r := 40) (k := 18) dX11_same_89 hC_40 (by decide) rfl wF_X11_48 (by omega) rfl (hL.1 18 (by decide))) ?_
      refine Sg.go (pc' := 93) (mi_iload_n dX11_same_92 rfl) ?_
      refine Sg.go (pc' := 94) (mi_aald (n := 61) (t := 55) (v := v1) dX11_same_93 rfl hA_54 rfl (by omega) hk1 rfl (hL.2.2.2.2.1 _ hk1.1 hk1.2)) ?_
      refine Sg.go (pc' := 96) (mi_iload dX11_same_94 rfl) ?_
      refine Sg.ck (fun hk4 => ?_)
      refine Sg.go (pc' := 97) (mi_iald (n := 9) dX11_same_96 rfl rfl (by omega) hk4) ?_
      refine Sg.go (pc' := 98) (mi_aload_n dX11_same_97 rfl) ?_
      refine Sg.go (pc' := 101) (mi_gfA (t := 56) (v := 0) (r := 40) (k := 19) dX11_same_98 hC_40 (by decide) rfl wF_X11_53 (by omega) rfl (hL.1 19 (by decide))) ?_
      refine Sg.go (pc' := 102) (mi_iload_n dX11_same_101 rfl) ?_
      refine Sg.go (pc' := 103) (mi_aald (n := 61) (t := 57) (v := v1) dX11_same_102 rfl hA_56 rfl (by omega) hk1 rfl (hL.2.2.2.2.2.1 _ hk1.1 hk1.2)) ?_
      refine Sg.go (pc' := 105) (mi_iload dX11_same_103 rfl) ?_
      refine Sg.go (pc' := 106) (mi_lald (n := 9) dX11_same_105 rfl rfl (by omega) hk4) ?_
      refine Sg.go (pc' := 107) (mi_aload_n dX11_same_106 rfl) ?_
      refine Sg.go (pc' := 110) (mi_gfA (t := 54) (v := 0) (r := 40) (k := 18) dX11_same_107 hC_40 (by decide) rfl wF_X11_48 (by omega) rfl (hL.1 18 (by decide))) ?_
      refine Sg.go (pc' := 111) (mi_iload_n dX11_same_110 rfl) ?_
      refine Sg.go (pc' := 112) (mi_aald (n := 61) (t := 55) (v := v2) dX11_same_111 rfl hA_54 rfl (by omega) hk2 rfl (hL.2.2.2.2.1 _ hk2.1 hk2.2)) ?_
      refine Sg.go (pc' := 114) (mi_iload dX11_same_112 rfl) ?_
      refine Sg.go (pc' := 115) (mi_iald (n := 9) dX11_same_114 rfl rfl (by omega) hk4) ?_
      refine Sg.go (pc' := 116) (mi_aload_n dX11_same_115 rfl) ?_
      refine Sg.go (pc' := 119) (mi_gfA (t := 56) (v := 0) (r := 40) (k := 19) dX11_same_116 hC_40 (by decide) rfl wF_X11_53 (by omega) rfl (hL.1 19 (by decide))) ?_
      refine Sg.go (pc' := 120) (mi_iload_n dX11_same_119 rfl) ?_
      refine Sg.go (pc' := 121) (mi_aald (n := 61) (t := 57) (v := v2) dX11_same_120 rfl hA_56 rfl (by omega) hk2 rfl (hL.2.2.2.2.2.1 _ hk2.1 hk2.2)) ?_
      refine Sg.go (pc' := 123) (mi_iload dX11_same_121 rfl) ?_
      refine Sg.go (pc' := 124) (mi_lald (n := 9) dX11_same_123 rfl rfl (by omega) hk4) ?_
      refine Sg.callP (pc' := 127) (t := 0) (v := (B_X11_areSame (D 55 v1 v4) (D 57 v1 v4) (D 55 v2 v4) (D 57 v2 v4))) (μ' := m_X11_areSame) (args := [(42, 0), (0, (D 55 v1 v4)), (1, (D 57 v1 v4)), (0, (D 55 v2 v4)), (1, (D 57 v2 v4))]) (mi_invV (n := 4) (r := 40) dX11_same_124 hC_40 (by omega) rfl rfl wN_X11_areSame rfl ⟨by decide, by decide⟩ wL_X11_422 wI_X11_areSame wS_X11_areSame wB_X11 wC_X11_areSame) (C_X11_areSame hL (D 55 v1 v4) (D 57 v1 v4) (D 55 v2 v4) (D 57 v2 v4) D) (Nat.le_of_ble_eq_true rfl) rfl rfl ?_
      refine Sg.ite (fun h5 => ?_) (fun h5 => ?_)
      · refine Sg.go (pc' := 134) (mi_ifeq_t (tgt := 134) dX11_same_127 (by decide) h5) ?_
        refine Sg.go (pc' := 135) (mi_iconst (z := 0) dX11_same_134 rfl) ?_
        refine Sg.go (pc' := 135) (MiStep.weak (ls' := [(42, 0), (0, v1), (0, v2), mi_un, (0, v4)]) (mi_wk_y (mi_wk_y (mi_wk_y (mi_wk_n (mi_wk_y mi_wk_0)))))) ?_
        exact S_X11_same_135 hL K66 v1 v2 v4 v3 0 D
      · refine Sg.go (pc' := 130) (mi_ifeq_f (tgt := 134) dX11_same_127 (by decide) h5) ?_
        refine Sg.go (pc' := 131) (mi_iconst (z := 1) dX11_same_130 rfl) ?_
        refine Sg.go (pc' := 135) (mi_goto (tgt := 135) dX11_same_131 (by decide)) ?_
        refine Sg.go (pc' := 135) (MiStep.weak (ls' := [(42, 0), (0, v1), (0, v2), mi_un, (0, v4)]) (mi_wk_y (mi_wk_y (mi_wk_y (mi_wk_n (mi_wk_y mi_wk_0)))))) ?_
        exact S_X11_same_135 hL K66 v1 v2 v4 v3 1 D
def B_X11_same_27 (v1 : Int) (v2 : Int) (s1 : Int) (D : MiD) : Option (Int × MiD) := if s1 = 0 ∨ s1 = 1 then (mi_b2 (B_X11_bad s1 1 0 D) fun y2 D3 => if y2 = 0 then (if 0 ≤ v1 ∧ v1 < 61 then (if 10 < (D3 52 0 v1) then (some ((-1), D3)) else (if 0 ≤ v2 ∧ v2 < 61 then (if (D3 52 0 v2) ≤ 10 then (B_X11_same_66 mi_fuel v1 v2 0 0 D3) else (some ((-1), D3))) else none)) else none) else (some (0, D3))) else none
set_option maxRecDepth 20000 in
theorem S_X11_same_27 {Z : MiZ} (hL : ML Z) (v1 v2 s1 : Int) (D : MiD) : Sg m_X11_same 27 [(42, 0), (0, v1), (0, v2), mi_un, mi_un] [(0, s1), (42, 0)] (D, Z) (mi_LD 0 Z) (B_X11_same_27 v1 v2 s1 D) := by
  unfold B_X11_same_27
  refine Sg.go (pc' := 28) (mi_iconst (z := 1) dX11_same_27 rfl) ?_
  refine Sg.go (pc' := 29) (mi_iconst (z := 0) dX11_same_28 rfl) ?_
  refine Sg.ck (fun hk1 => ?_)
  refine Sg.callD (pc' := 32) (t := 0) (μ' := m_X11_bad) (args := [(42, 0), (0, s1), (0, 1), (0, 0)]) (mi_invV (n := 3) (r := 40) dX11_same_29 hC_40 (by omega) rfl rfl wN_X11_bad rfl ⟨by decide, by decide⟩ wL_X11_229 wI_X11_bad wS_X11_bad wB_X11 wC_X11_bad) (fun v hv => C_X11_bad hL s1 1 0 D (hk1) v hv) (Nat.le_of_ble_eq_true rfl) rfl rfl (fun y2 D3 => ?_)
  refine Sg.ite (fun h4 => ?_) (fun h4 => ?_)
  · refine Sg.go (pc' := 37) (mi_ifeq_t (tgt := 37) dX11_same_32 (by decide) h4) ?_
    refine Sg.go (pc' := 38) (mi_aload_n dX11_same_37 rfl) ?_
    refine Sg.go (pc' := 41) (mi_gfA (t := 52) (v := 0) (r := 40) (k := 16) dX11_same_38 hC_40 (by decide) rfl wF_X11_42 (by omega) rfl (hL.1 16 (by decide))) ?_
    refine Sg.go (pc' := 42) (mi_iload_n dX11_same_41 rfl) ?_
    refine Sg.ck (fun hk5 => ?_)
    refine Sg.go (pc' := 43) (mi_iald (n := 61) dX11_same_42 rfl rfl (by omega) hk5) ?_
    refine Sg.go (pc' := 45) (mi_bipush (z := 10) dX11_same_43 rfl) ?_
    refine Sg.ite (fun h6 => ?_) (fun h6 => ?_)
    · refine Sg.go (pc' := 59) (mi_icmpgt_t (tgt := 59) dX11_same_45 (by decide) h6) ?_
      refine Sg.go (pc' := 60) (mi_iconst (z := (-1)) dX11_same_59 rfl) ?_
      exact Sg.ret (mi_ireturn dX11_same_60 rfl (Or.inl rfl))
    · refine Sg.go (pc' := 48) (mi_icmpgt_f (tgt := 59) dX11_same_45 (by decide) h6) ?_
      refine Sg.go (pc' := 49) (mi_aload_n dX11_same_48 rfl) ?_
      refine Sg.go (pc' := 52) (mi_gfA (t := 52) (v := 0) (r := 40) (k := 16) dX11_same_49 hC_40 (by decide) rfl wF_X11_42 (by omega) rfl (hL.1 16 (by decide))) ?_
      refine Sg.go (pc' := 53) (mi_iload_n dX11_same_52 rfl) ?_
      refine Sg.ck (fun hk7 => ?_)
      refine Sg.go (pc' := 54) (mi_iald (n := 61) dX11_same_53 rfl rfl (by omega) hk7) ?_
      refine Sg.go (pc' := 56) (mi_bipush (z := 10) dX11_same_54 rfl) ?_
      refine Sg.ite (fun h8 => ?_) (fun h8 => ?_)
      · refine Sg.go (pc' := 61) (mi_icmple_t (tgt := 61) dX11_same_56 (by decide) h8) ?_
        refine Sg.go (pc' := 62) (mi_iconst (z := 0) dX11_same_61 rfl) ?_
        refine Sg.go (pc' := 63) (mi_istore_n (ls1 := [(42, 0), (0, v1), (0, v2), (0, 0), mi_un]) dX11_same_62 (by decide) rfl) ?_
        refine Sg.go (pc' := 64) (mi_iconst (z := 0) dX11_same_63 rfl) ?_
        refine Sg.go (pc' := 66) (mi_istore (ls1 := [(42, 0), (0, v1), (0, v2), (0, 0), (0, 0)]) dX11_same_64 (by decide) rfl) ?_
        exact S_X11_same_66 hL mi_fuel v1 v2 0 0 D3
      · refine Sg.go (pc' := 59) (mi_icmple_f (tgt := 61) dX11_same_56 (by decide) h8) ?_
        refine Sg.go (pc' := 60) (mi_iconst (z := (-1)) dX11_same_59 rfl) ?_
        exact Sg.ret (mi_ireturn dX11_same_60 rfl (Or.inl rfl))
  · refine Sg.go (pc' := 35) (mi_ifeq_f (tgt := 37) dX11_same_32 (by decide) h4) ?_
    refine Sg.go (pc' := 36) (mi_iconst (z := 0) dX11_same_35 rfl) ?_
    exact Sg.ret (mi_ireturn dX11_same_36 rfl (Or.inl rfl))
def B_X11_same_22 (v1 : Int) (v2 : Int) (D : MiD) : Option (Int × MiD) := B_X11_same_27 v1 v2 1 D
set_option maxRecDepth 20000 in
theorem S_X11_same_22 {Z : MiZ} (hL : ML Z) (v1 v2 : Int) (D : MiD) : Sg m_X11_same 22 [(42, 0), (0, v1), (0, v2), mi_un, mi_un] [(42, 0)] (D, Z) (mi_LD 0 Z) (B_X11_same_22 v1 v2 D) := by
  unfold B_X11_same_22
  refine Sg.go (pc' := 23) (mi_iconst (z := 1) dX11_same_22 rfl) ?_
  refine Sg.go (pc' := 27) (mi_goto (tgt := 27) dX11_same_23 (by decide)) ?_
  exact S_X11_same_27 hL v1 v2 1 D
def B_X11_same (v1 : Int) (v2 : Int) (D : MiD) : Option (Int × MiD) := mi_let (mi_st D 40 0 0 0) fun D1 => if (B_X11_isDatum v1) = 0 then (B_X11_same_22 v1 v2 D1) else (if (B_X11_isDatum v2) ≠ 0 then (B_X11_same_27 v1 v2 0 D1) else (B_X11_same_22 v1 v2 D1))
set_option maxRecDepth 20000 in
theorem S_X11_same {Z : MiZ} (hL : ML Z) (v1 v2 : Int) (D : MiD) : Sg m_X11_same 0 [(42, 0), (0, v1), (0, v2), mi_un, mi_un] [] (D, Z) (mi_LD 0 Z) (B_X11_same v1 v2 D) := by
  unfold B_X11_same
  refine Sg.go (pc' := 1) (mi_aload_n dX11_same_0 rfl) ?_
  refine Sg.go (pc' := 2) (mi_iconst (z := 0) dX11_same_1 rfl) ?_
  refine Sg.goM (pc' := 5) (mi_pfD (r := 40) (k := 0) (t := 0) dX11_same_2 hC_40 (by decide) rfl rfl wF_X11_78 (by omega) rfl (by decide) (Or.inl ⟨rfl, rfl⟩)) ?_
  refine Sg.letD (fun D1 hD1 => ?_)
  refine Sg.go (pc' := 6) (mi_aload_n dX11_same_5 rfl) ?_
  refine Sg.go (pc' := 7) (mi_aload_n dX11_same_6 rfl) ?_
  refine Sg.go (pc' := 8) (mi_iload_n dX11_same_7 rfl) ?_
  refine Sg.callP (pc' := 11) (t := 0) (v := (B_X11_isDatum v1)) (μ' := m_X11_isDatum) (args := [(42, 0), (0, v1)]) (mi_invV (n := 1) (r := 40) dX11_same_8 hC_40 (by omega) rfl rfl wN_X11_isDatum rfl ⟨by decide, by decide⟩ wL_X11_358 wI_X11_isDatum wS_X11_isDatum wB_X11 wC_X11_isDatum) (C_X11_isDatum hL v1 D1) (Nat.le_of_ble_eq_true rfl) rfl rfl ?_
  refine Sg.ite (fun h2 => ?_) (fun h2 => ?_)
  · refine Sg.go (pc' := 22) (mi_ifeq_t (tgt := 22) dX11_same_11 (by decide) h2) ?_
    exact S_X11_same_22 hL v1 v2 D1
  · refine Sg.go (pc' := 14) (mi_ifeq_f (tgt := 22) dX11_same_11 (by decide) h2) ?_
    refine Sg.go (pc' := 15) (mi_aload_n dX11_same_14 rfl) ?_
    refine Sg.go (pc' := 16) (mi_iload_n dX11_same_15 rfl) ?_
    refine Sg.callP (pc' := 19) (t := 0) (v := (B_X11_isDatum v2)) (μ' := m_X11_isDatum) (args := [(42, 0), (0, v2)]) (mi_invV (n := 1) (r := 40) dX11_same_16 hC_40 (by omega) rfl rfl wN_X11_isDatum rfl ⟨by decide, by decide⟩ wL_X11_358 wI_X11_isDatum wS_X11_isDatum wB_X11 wC_X11_isDatum) (C_X11_isDatum hL v2 D1) (Nat.le_of_ble_eq_true rfl) rfl rfl ?_
    refine Sg.ite (fun h3 => ?_) (fun h3 => ?_)
    · refine Sg.go (pc' := 26) (mi_ifne_t (tgt := 26) dX11_same_19 (by decide) h3) ?_
      refine Sg.go (pc' := 27) (mi_iconst (z := 0) dX11_same_26 rfl) ?_
      exact S_X11_same_27 hL v1 v2 0 D1
    · refine Sg.go (pc' := 22) (mi_ifne_f (tgt := 26) dX11_same_19 (by decide) h3) ?_
      exact S_X11_same_22 hL v1 v2 D1
theorem C_X11_same {Z : MiZ} (hL : ML Z) (a1 a2 : Int) (D : MiD) (b : Int × MiD) (hb : B_X11_same a1 a2 D = some b) : MC m_X11_same [(42, 0), (0, a1), (0, a2)] (D, Z) ((mi_LD 0 Z) b) := MC.ofSg (L := (mi_LD 0 Z)) (μ := m_X11_same) (args := [(42, 0), (0, a1), (0, a2)]) (M := (D, Z)) rfl wP_X11 (Nat.le_of_ble_eq_true rfl) (show Sg m_X11_same 0 [(42, 0), (0, a1), (0, a2), mi_un, mi_un] [] (D, Z) (mi_LD 0 Z) (B_X11_same a1 a2 D) from S_X11_same hL a1 a2 D) hb
