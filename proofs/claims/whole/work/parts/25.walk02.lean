noncomputable section MiY2
abbrev m_X11_function : MiI := (yX11_function, cX11_function, 3, (some .int), 9, none)
def B_X11_function_102 (v1 : Int) (D : MiD) : Option (Int × MiD) := if 0 ≤ v1 ∧ v1 < 111 then (mi_b2 (B_X11_ends (D 43 0 v1) D) fun y2 D3 => some (y2, D3)) else none
set_option maxRecDepth 20000 in
theorem S_X11_function_102 {Z : MiZ} (hL : ML Z) (v1 : Int) (D : MiD) : Sg m_X11_function 102 [(42, 0), (0, v1), mi_un] [] (D, Z) (mi_LD 0 Z) (B_X11_function_102 v1 D) := by
  unfold B_X11_function_102
  refine Sg.go (pc' := 103) (mi_aload_n dX11_function_102 rfl) ?_
  refine Sg.go (pc' := 104) (mi_aload_n dX11_function_103 rfl) ?_
  refine Sg.go (pc' := 107) (mi_gfA (t := 43) (v := 0) (r := 40) (k := 9) dX11_function_104 hC_40 (by decide) rfl wF_X11_20 (by omega) rfl (hL.1 9 (by decide))) ?_
  refine Sg.go (pc' := 108) (mi_iload_n dX11_function_107 rfl) ?_
  refine Sg.ck (fun hk1 => ?_)
  refine Sg.go (pc' := 109) (mi_iald (n := 111) dX11_function_108 rfl rfl (by omega) hk1) ?_
  refine Sg.callD (pc' := 112) (t := 0) (μ' := m_X11_ends) (args := [(42, 0), (0, (D 43 0 v1))]) (mi_invV (n := 1) (r := 40) dX11_function_109 hC_40 (by omega) rfl rfl wN_X11_ends rfl ⟨by decide, by decide⟩ wL_X11_245 wI_X11_ends wS_X11_ends wB_X11 wC_X11_ends) (fun v hv => C_X11_ends hL (D 43 0 v1) D v hv) (Nat.le_of_ble_eq_true rfl) rfl rfl (fun y2 D3 => ?_)
  exact Sg.ret (mi_ireturn dX11_function_112 rfl (Or.inl rfl))
def B_X11_function_66 (v1 : Int) (v2 : Int) (s1 : Int) (D : MiD) : Option (Int × MiD) := if s1 = 0 ∨ s1 = 1 then (mi_b2 (B_X11_bad s1 3 2 D) fun y2 D3 => if y2 = 0 then (mi_bi (B_X11_starts v2 D3) fun D5 => mi_bi (B_X11_readsCode 100 (-1) D5) fun D6 => mi_bi (B_X11_fine D6) fun y7 => if y7 = 0 then (B_X11_function_102 v1 D6) else (mi_bi (B_X11_copiesCode 100 v1 D6) fun D9 => B_X11_function_102 v1 D9)) else (some (0, D3))) else none
set_option maxRecDepth 20000 in
theorem S_X11_function_66 {Z : MiZ} (hL : ML Z) (v1 v2 s1 : Int) (D : MiD) : Sg m_X11_function 66 [(42, 0), (0, v1), (0, v2)] [(0, s1), (42, 0)] (D, Z) (mi_LD 0 Z) (B_X11_function_66 v1 v2 s1 D) := by
  unfold B_X11_function_66
  refine Sg.go (pc' := 67) (mi_iconst (z := 3) dX11_function_66 rfl) ?_
  refine Sg.go (pc' := 68) (mi_iconst (z := 2) dX11_function_67 rfl) ?_
  refine Sg.ck (fun hk1 => ?_)
  refine Sg.callD (pc' := 71) (t := 0) (μ' := m_X11_bad) (args := [(42, 0), (0, s1), (0, 3), (0, 2)]) (mi_invV (n := 3) (r := 40) dX11_function_68 hC_40 (by omega) rfl rfl wN_X11_bad rfl ⟨by decide, by decide⟩ wL_X11_229 wI_X11_bad wS_X11_bad wB_X11 wC_X11_bad) (fun v hv => C_X11_bad hL s1 3 2 D (hk1) v hv) (Nat.le_of_ble_eq_true rfl) rfl rfl (fun y2 D3 => ?_)
  refine Sg.ite (fun h4 => ?_) (fun h4 => ?_)
  · refine Sg.go (pc' := 76) (mi_ifeq_t (tgt := 76) dX11_function_71 (by decide) h4) ?_
    refine Sg.go (pc' := 77) (mi_aload_n dX11_function_76 rfl) ?_
    refine Sg.go (pc' := 78) (mi_iload_n dX11_function_77 rfl) ?_
    refine Sg.callV (pc' := 81) (μ' := m_X11_starts) (args := [(42, 0), (0, v2)]) (mi_invV (n := 1) (r := 40) dX11_function_78 hC_40 (by omega) rfl rfl wN_X11_starts rfl ⟨by decide, by decide⟩ wL_X11_236 wI_X11_starts wS_X11_starts wB_X11 wC_X11_starts) (fun v hv => C_X11_starts hL v2 D3 v hv) (Nat.le_of_ble_eq_true rfl) rfl rfl (fun D5 => ?_)
    refine Sg.go (pc' := 82) (mi_aload_n dX11_function_81 rfl) ?_
    refine Sg.go (pc' := 84) (mi_bipush (z := 100) dX11_function_82 rfl) ?_
    refine Sg.go (pc' := 85) (mi_iconst (z := (-1)) dX11_function_84 rfl) ?_
    refine Sg.callV (pc' := 88) (μ' := m_X11_readsCode) (args := [(42, 0), (0, 100), (0, (-1))]) (mi_invV (n := 2) (r := 40) dX11_function_85 hC_40 (by omega) rfl rfl wN_X11_readsCode rfl ⟨by decide, by decide⟩ wL_X11_239 wI_X11_readsCode wS_X11_readsCode wB_X11 wC_X11_readsCode) (fun v hv => C_X11_readsCode hL 100 (-1) D5 v hv) (Nat.le_of_ble_eq_true rfl) rfl rfl (fun D6 => ?_)
    refine Sg.go (pc' := 89) (mi_aload_n dX11_function_88 rfl) ?_
    refine Sg.callI (pc' := 92) (t := 0) (μ' := m_X11_fine) (args := [(42, 0)]) (mi_invV (n := 0) (r := 40) dX11_function_89 hC_40 (by omega) rfl rfl wN_X11_fine rfl ⟨by decide, by decide⟩ wL_X11_100 wI_X11_fine wS_X11_fine wB_X11 wC_X11_fine) (fun v hv => C_X11_fine hL D6 v hv) (Nat.le_of_ble_eq_true rfl) rfl rfl (fun y7 => ?_)
    refine Sg.ite (fun h8 => ?_) (fun h8 => ?_)
    · refine Sg.go (pc' := 102) (mi_ifeq_t (tgt := 102) dX11_function_92 (by decide) h8) ?_
      refine Sg.go (pc' := 102) (MiStep.weak (ls' := [(42, 0), (0, v1), mi_un]) (mi_wk_y (mi_wk_y (mi_wk_n mi_wk_0)))) ?_
      exact S_X11_function_102 hL v1 D6
    · refine Sg.go (pc' := 95) (mi_ifeq_f (tgt := 102) dX11_function_92 (by decide) h8) ?_
      refine Sg.go (pc' := 96) (mi_aload_n dX11_function_95 rfl) ?_
      refine Sg.go (pc' := 98) (mi_bipush (z := 100) dX11_function_96 rfl) ?_
      refine Sg.go (pc' := 99) (mi_iload_n dX11_function_98 rfl) ?_
      refine Sg.callV (pc' := 102) (μ' := m_X11_copiesCode) (args := [(42, 0), (0, 100), (0, v1)]) (mi_invV (n := 2) (r := 40) dX11_function_99 hC_40 (by omega) rfl rfl wN_X11_copiesCode rfl ⟨by decide, by decide⟩ wL_X11_242 wI_X11_copiesCode wS_X11_copiesCode wB_X11 wC_X11_copiesCode) (fun v hv => C_X11_copiesCode hL 100 v1 D6 v hv) (Nat.le_of_ble_eq_true rfl) rfl rfl (fun D9 => ?_)
      refine Sg.go (pc' := 102) (MiStep.weak (ls' := [(42, 0), (0, v1), mi_un]) (mi_wk_y (mi_wk_y (mi_wk_n mi_wk_0)))) ?_
      exact S_X11_function_102 hL v1 D9
  · refine Sg.go (pc' := 74) (mi_ifeq_f (tgt := 76) dX11_function_71 (by decide) h4) ?_
    refine Sg.go (pc' := 75) (mi_iconst (z := 0) dX11_function_74 rfl) ?_
    exact Sg.ret (mi_ireturn dX11_function_75 rfl (Or.inl rfl))
def B_X11_function_45 (v1 : Int) (v2 : Int) (s1 : Int) (D : MiD) : Option (Int × MiD) := if s1 = 0 ∨ s1 = 1 then (mi_b2 (B_X11_bad s1 2 1 D) fun y2 D3 => if y2 ≠ 0 then (some (0, D3)) else (mi_bi (B_X11_areIdle D3) fun y5 => if y5 ≠ 0 then (B_X11_function_66 v1 v2 0 D3) else (B_X11_function_66 v1 v2 1 D3))) else none
set_option maxRecDepth 20000 in
theorem S_X11_function_45 {Z : MiZ} (hL : ML Z) (v1 v2 s1 : Int) (D : MiD) : Sg m_X11_function 45 [(42, 0), (0, v1), (0, v2)] [(0, s1), (42, 0)] (D, Z) (mi_LD 0 Z) (B_X11_function_45 v1 v2 s1 D) := by
  unfold B_X11_function_45
  refine Sg.go (pc' := 46) (mi_iconst (z := 2) dX11_function_45 rfl) ?_
  refine Sg.go (pc' := 47) (mi_iconst (z := 1) dX11_function_46 rfl) ?_
  refine Sg.ck (fun hk1 => ?_)
  refine Sg.callD (pc' := 50) (t := 0) (μ' := m_X11_bad) (args := [(42, 0), (0, s1), (0, 2), (0, 1)]) (mi_invV (n := 3) (r := 40) dX11_function_47 hC_40 (by omega) rfl rfl wN_X11_bad rfl ⟨by decide, by decide⟩ wL_X11_229 wI_X11_bad wS_X11_bad wB_X11 wC_X11_bad) (fun v hv => C_X11_bad hL s1 2 1 D (hk1) v hv) (Nat.le_of_ble_eq_true rfl) rfl rfl (fun y2 D3 => ?_)
  refine Sg.ite (fun h4 => ?_) (fun h4 => ?_)
  · refine Sg.go (pc' := 74) (mi_ifne_t (tgt := 74) dX11_function_50 (by decide) h4) ?_
    refine Sg.go (pc' := 75) (mi_iconst (z := 0) dX11_function_74 rfl) ?_
    exact Sg.ret (mi_ireturn dX11_function_75 rfl (Or.inl rfl))
  · refine Sg.go (pc' := 53) (mi_ifne_f (tgt := 74) dX11_function_50 (by decide) h4) ?_
    refine Sg.go (pc' := 54) (mi_aload_n dX11_function_53 rfl) ?_
    refine Sg.go (pc' := 55) (mi_aload_n dX11_function_54 rfl) ?_
    refine Sg.callI (pc' := 58) (t := 0) (μ' := m_X11_areIdle) (args := [(42, 0)]) (mi_invV (n := 0) (r := 40) dX11_function_55 hC_40 (by omega) rfl rfl wN_X11_areIdle rfl ⟨by decide, by decide⟩ wL_X11_233 wI_X11_areIdle wS_X11_areIdle wB_X11 wC_X11_areIdle) (fun v hv => C_X11_areIdle hL D3 v hv) (Nat.le_of_ble_eq_true rfl) rfl rfl (fun y5 => ?_)
    refine Sg.ite (fun h6 => ?_) (fun h6 => ?_)
    · refine Sg.go (pc' := 65) (mi_ifne_t (tgt := 65) dX11_function_58 (by decide) h6) ?_
      refine Sg.go (pc' := 66) (mi_iconst (z := 0) dX11_function_65 rfl) ?_
      exact S_X11_function_66 hL v1 v2 0 D3
    · refine Sg.go (pc' := 61) (mi_ifne_f (tgt := 65) dX11_function_58 (by decide) h6) ?_
      refine Sg.go (pc' := 62) (mi_iconst (z := 1) dX11_function_61 rfl) ?_
      refine Sg.go (pc' := 66) (mi_goto (tgt := 66) dX11_function_62 (by decide)) ?_
      exact S_X11_function_66 hL v1 v2 1 D3
def B_X11_function_19 (v1 : Int) (v2 : Int) (s1 : Int) (D : MiD) : Option (Int × MiD) := if s1 = 0 ∨ s1 = 1 then (mi_b2 (B_X11_bad s1 1 0 D) fun y2 D3 => if y2 ≠ 0 then (some (0, D3)) else (if (B_X11_in v2 0 (D3 40 0 2)) ≠ 0 then (B_X11_function_45 v1 v2 0 D3) else (B_X11_function_45 v1 v2 1 D3))) else none
set_option maxRecDepth 20000 in
theorem S_X11_function_19 {Z : MiZ} (hL : ML Z) (v1 v2 s1 : Int) (D : MiD) : Sg m_X11_function 19 [(42, 0), (0, v1), (0, v2)] [(0, s1), (42, 0)] (D, Z) (mi_LD 0 Z) (B_X11_function_19 v1 v2 s1 D) := by
  unfold B_X11_function_19
  refine Sg.go (pc' := 20) (mi_iconst (z := 1) dX11_function_19 rfl) ?_
  refine Sg.go (pc' := 21) (mi_iconst (z := 0) dX11_function_20 rfl) ?_
  refine Sg.ck (fun hk1 => ?_)
  refine Sg.callD (pc' := 24) (t := 0) (μ' := m_X11_bad) (args := [(42, 0), (0, s1), (0, 1), (0, 0)]) (mi_invV (n := 3) (r := 40) dX11_function_21 hC_40 (by omega) rfl rfl wN_X11_bad rfl ⟨by decide, by decide⟩ wL_X11_229 wI_X11_bad wS_X11_bad wB_X11 wC_X11_bad) (fun v hv => C_X11_bad hL s1 1 0 D (hk1) v hv) (Nat.le_of_ble_eq_true rfl) rfl rfl (fun y2 D3 => ?_)
  refine Sg.ite (fun h4 => ?_) (fun h4 => ?_)
  · refine Sg.go (pc' := 74) (mi_ifne_t (tgt := 74) dX11_function_24 (by decide) h4) ?_
    refine Sg.go (pc' := 75) (mi_iconst (z := 0) dX11_function_74 rfl) ?_
    exact Sg.ret (mi_ireturn dX11_function_75 rfl (Or.inl rfl))
  · refine Sg.go (pc' := 27) (mi_ifne_f (tgt := 74) dX11_function_24 (by decide) h4) ?_
    refine Sg.go (pc' := 28) (mi_aload_n dX11_function_27 rfl) ?_
    refine Sg.go (pc' := 29) (mi_iload_n dX11_function_28 rfl) ?_
    refine Sg.go (pc' := 30) (mi_iconst (z := 0) dX11_function_29 rfl) ?_
    refine Sg.go (pc' := 31) (mi_aload_n dX11_function_30 rfl) ?_
    refine Sg.go (pc' := 34) (mi_gfI (r := 40) (k := 2) dX11_function_31 hC_40 (by decide) rfl wF_X11_81 (by omega) rfl) ?_
    refine Sg.callP (pc' := 37) (t := 0) (v := (B_X11_in v2 0 (D3 40 0 2))) (μ' := m_X11_in) (args := [(0, v2), (0, 0), (0, (D3 40 0 2))]) (mi_invS (n := 3) dX11_function_34 rfl wN_X11_in rfl ⟨by decide, by decide⟩ wL_X11_121 wT_X11_in wB_X11 wC_X11_in) (C_X11_in hL v2 0 (D3 40 0 2) D3) (Nat.le_of_ble_eq_true rfl) rfl rfl ?_
    refine Sg.ite (fun h5 => ?_) (fun h5 => ?_)
    · refine Sg.go (pc' := 44) (mi_ifne_t (tgt := 44) dX11_function_37 (by decide) h5) ?_
      refine Sg.go (pc' := 45) (mi_iconst (z := 0) dX11_function_44 rfl) ?_
      exact S_X11_function_45 hL v1 v2 0 D3
    · refine Sg.go (pc' := 40) (mi_ifne_f (tgt := 44) dX11_function_37 (by decide) h5) ?_
      refine Sg.go (pc' := 41) (mi_iconst (z := 1) dX11_function_40 rfl) ?_
      refine Sg.go (pc' := 45) (mi_goto (tgt := 45) dX11_function_41 (by decide)) ?_
      exact S_X11_function_45 hL v1 v2 1 D3
def B_X11_function (v1 : Int) (v2 : Int) (D : MiD) : Option (Int × MiD) := mi_let (mi_st D 40 0 0 0) fun D1 => if (B_X11_isFunction v1) ≠ 0 then (B_X11_function_19 v1 v2 0 D1) else (B_X11_function_19 v1 v2 1 D1)
set_option maxRecDepth 20000 in
theorem S_X11_function {Z : MiZ} (hL : ML Z) (v1 v2 : Int) (D : MiD) : Sg m_X11_function 0 [(42, 0), (0, v1), (0, v2)] [] (D, Z) (mi_LD 0 Z) (B_X11_function v1 v2 D) := by
  unfold B_X11_function
  refine Sg.go (pc' := 1) (mi_aload_n dX11_function_0 rfl) ?_
  refine Sg.go (pc' := 2) (mi_iconst (z := 0) dX11_function_1 rfl) ?_
  refine Sg.goM (pc' := 5) (mi_pfD (r := 40) (k := 0) (t := 0) dX11_function_2 hC_40 (by decide) rfl rfl wF_X11_78 (by omega) rfl (by decide) (Or.inl ⟨rfl, rfl⟩)) ?_
  refine Sg.letD (fun D1 hD1 => ?_)
  refine Sg.go (pc' := 6) (mi_aload_n dX11_function_5 rfl) ?_
  refine Sg.go (pc' := 7) (mi_aload_n dX11_function_6 rfl) ?_
  refine Sg.go (pc' := 8) (mi_iload_n dX11_function_7 rfl) ?_
  refine Sg.callP (pc' := 11) (t := 0) (v := (B_X11_isFunction v1)) (μ' := m_X11_isFunction) (args := [(42, 0), (0, v1)]) (mi_invV (n := 1) (r := 40) dX11_function_8 hC_40 (by omega) rfl rfl wN_X11_isFunction rfl ⟨by decide, by decide⟩ wL_X11_226 wI_X11_isFunction wS_X11_isFunction wB_X11 wC_X11_isFunction) (C_X11_isFunction hL v1 D1) (Nat.le_of_ble_eq_true rfl) rfl rfl ?_
  refine Sg.ite (fun h2 => ?_) (fun h2 => ?_)
  · refine Sg.go (pc' := 18) (mi_ifne_t (tgt := 18) dX11_function_11 (by decide) h2) ?_
    refine Sg.go (pc' := 19) (mi_iconst (z := 0) dX11_function_18 rfl) ?_
    exact S_X11_function_19 hL v1 v2 0 D1
  · refine Sg.go (pc' := 14) (mi_ifne_f (tgt := 18) dX11_function_11 (by decide) h2) ?_
    refine Sg.go (pc' := 15) (mi_iconst (z := 1) dX11_function_14 rfl) ?_
    refine Sg.go (pc' := 19) (mi_goto (tgt := 19) dX11_function_15 (by decide)) ?_
    exact S_X11_function_19 hL v1 v2 1 D1
theorem C_X11_function {Z : MiZ} (hL : ML Z) (a1 a2 : Int) (D : MiD) (b : Int × MiD) (hb : B_X11_function a1 a2 D = some b) : MC m_X11_function [(42, 0), (0, a1), (0, a2)] (D, Z) ((mi_LD 0 Z) b) := MC.ofSg (L := (mi_LD 0 Z)) (μ := m_X11_function) (args := [(42, 0), (0, a1), (0, a2)]) (M := (D, Z)) rfl wP_X11 (Nat.le_of_ble_eq_true rfl) (show Sg m_X11_function 0 [(42, 0), (0, a1), (0, a2)] [] (D, Z) (mi_LD 0 Z) (B_X11_function a1 a2 D) from S_X11_function hL a1 a2 D) hb
abbrev m_X5_readEnds : MiI := (yX5_readEnds, cX5_readEnds, 2, none, 9, none)
def B_X5_readEnds_75 (v0 : Int) (D : MiD) (Z : MiZ) : Option (MiM) := mi_bi (B_X5_skipBlanks_0 Z mi_fuel v0 D) fun D1 => if (D1 9 v0 1) ≤ (D1 9 v0 2) then (some (D1, Z)) else (mi_bi (B_X5_fail v0 1 (D1 9 v0 2) D1) fun D3 => some (D3, Z))
set_option maxRecDepth 20000 in
theorem S_X5_readEnds_75  (v0 : Int) (D : MiD) (Z : MiZ) (hL : CL Z) : 0 ≤ v0 → Sg m_X5_readEnds 75 [(11, v0), mi_un] [] (D, Z) mi_LW (B_X5_readEnds_75 v0 D Z) := by
  intro hb0
  unfold B_X5_readEnds_75
  refine Sg.go (pc' := 76) (mi_aload_n dX5_readEnds_75 rfl) ?_
  refine Sg.callV (pc' := 79) (μ' := m_X5_skipBlanks) (args := [(11, v0)]) (mi_invV (n := 0) (r := 9) dX5_readEnds_76 hC_9 (by omega) rfl rfl wN_X5_skipBlanks rfl ⟨by decide, by decide⟩ wL_X5_36 wI_X5_skipBlanks wS_X5_skipBlanks wB_X5 wC_X5_skipBlanks) (fun v hv => C_X5_skipBlanks hL v0 D (by omega) v hv) (Nat.le_of_ble_eq_true rfl) rfl rfl (fun D1 => ?_)
  refine Sg.go (pc' := 80) (mi_aload_n dX5_readEnds_79 rfl) ?_
  refine Sg.go (pc' := 83) (mi_gfI (r := 9) (k := 2) dX5_readEnds_80 hC_9 (by decide) rfl wF_X5_39 (by omega) rfl) ?_
  refine Sg.go (pc' := 84) (mi_aload_n dX5_readEnds_83 rfl) ?_
  refine Sg.go (pc' := 87) (mi_gfI (r := 9) (k := 1) dX5_readEnds_84 hC_9 (by decide) rfl wF_X5_19 (by omega) rfl) ?_
  refine Sg.ite (fun h2 => ?_) (fun h2 => ?_)
  · refine Sg.go (pc' := 99) (mi_icmpge_t (tgt := 99) dX5_readEnds_87 (by decide) h2) ?_
    exact Sg.ret (mi_return dX5_readEnds_99 rfl (0, 0))
  · refine Sg.go (pc' := 90) (mi_icmpge_f (tgt := 99) dX5_readEnds_87 (by decide) h2) ?_
    refine Sg.go (pc' := 91) (mi_aload_n dX5_readEnds_90 rfl) ?_
    refine Sg.go (pc' := 92) (mi_iconst (z := 1) dX5_readEnds_91 rfl) ?_
    refine Sg.go (pc' := 93) (mi_aload_n dX5_readEnds_92 rfl) ?_
    refine Sg.go (pc' := 96) (mi_gfI (r := 9) (k := 2) dX5_readEnds_93 hC_9 (by decide) rfl wF_X5_39 (by omega) rfl) ?_
    refine Sg.callV (pc' := 99) (μ' := m_X5_fail) (args := [(11, v0), (0, 1), (0, (D1 9 v0 2))]) (mi_invV (n := 2) (r := 9) dX5_readEnds_96 hC_9 (by omega) rfl rfl wN_X5_fail rfl ⟨by decide, by decide⟩ wL_X5_44 wI_X5_fail wS_X5_fail wB_X5 wC_X5_fail) (fun v hv => C_X5_fail hL v0 1 (D1 9 v0 2) D1 (by omega) v hv) (Nat.le_of_ble_eq_true rfl) rfl rfl (fun D3 => ?_)
    exact Sg.ret (mi_return dX5_readEnds_99 rfl (0, 0))
def B_X5_readEnds_50 (v0 : Int) (v1 : Int) (D : MiD) (Z : MiZ) : Option (MiM) := if (D 9 v0 3) ≠ 0 then (B_X5_readEnds_75 v0 D Z) else (mi_b2 (B_X5_passWord Z v0 37 D) fun y2 D3 => if y2 = 0 then (B_X5_readEnds_75 v0 D3 Z) else (mi_b3 (B_X5_readCode v0 1 D3 Z) fun y5 D6 Z7 => mi_req (CL Z7) (mi_let (mi_st Z7.1 8 v1 4 y5, Z7.2) fun Z8 => mi_req (CL Z8) (B_X5_readEnds_75 v0 D6 Z8))))
set_option maxRecDepth 20000 in
theorem S_X5_readEnds_50  (v0 v1 : Int) (D : MiD) (Z : MiZ) (hL : CL Z) : 0 ≤ v0 → 0 ≤ v1 → Sg m_X5_readEnds 50 [(11, v0), (10, v1)] [] (D, Z) mi_LW (B_X5_readEnds_50 v0 v1 D Z) := by
  intro hb0 hb1
  unfold B_X5_readEnds_50
  refine Sg.go (pc' := 51) (mi_aload_n dX5_readEnds_50 rfl) ?_
  refine Sg.go (pc' := 54) (mi_gfI (r := 9) (k := 3) dX5_readEnds_51 hC_9 (by decide) rfl wF_X5_33 (by omega) rfl) ?_
  refine Sg.ite (fun h1 => ?_) (fun h1 => ?_)
  · refine Sg.go (pc' := 75) (mi_ifne_t (tgt := 75) dX5_readEnds_54 (by decide) h1) ?_
    refine Sg.go (pc' := 75) (MiStep.weak (ls' := [(11, v0), mi_un]) (mi_wk_y (mi_wk_n mi_wk_0))) ?_
    exact S_X5_readEnds_75 v0 D Z hL hb0
  · refine Sg.go (pc' := 57) (mi_ifne_f (tgt := 75) dX5_readEnds_54 (by decide) h1) ?_
    refine Sg.go (pc' := 58) (mi_aload_n dX5_readEnds_57 rfl) ?_
    refine Sg.go (pc' := 60) (mi_ldcS (j := 37) (z := 37) dX5_readEnds_58 rfl rfl (by decide)) ?_
    refine Sg.callD (pc' := 63) (t := 0) (μ' := m_X5_passWord) (args := [(11, v0), (29, 37)]) (mi_invV (n := 1) (r := 9) dX5_readEnds_60 hC_9 (by omega) rfl rfl wN_X5_passWord rfl ⟨by decide, by decide⟩ wL_X5_24 wI_X5_passWord wS_X5_passWord wB_X5 wC_X5_passWord) (fun v hv => C_X5_passWord hL v0 37 D (by omega) (by omega) v hv) (Nat.le_of_ble_eq_true rfl) rfl rfl (fun y2 D3 => ?_)
    refine Sg.ite (fun h4 => ?_) (fun h4 => ?_)
    · refine Sg.go (pc' := 75) (mi_ifeq_t (tgt := 75) dX5_readEnds_63 (by decide) h4) ?_
      refine Sg.go (pc' := 75) (MiStep.weak (ls' := [(11, v0), mi_un]) (mi_wk_y (mi_wk_n mi_wk_0))) ?_
      exact S_X5_readEnds_75 v0 D3 Z hL hb0
    · refine Sg.go (pc' := 66) (mi_ifeq_f (tgt := 75) dX5_readEnds_63 (by decide) h4) ?_
      refine Sg.go (pc' := 67) (mi_aload_n dX5_readEnds_66 rfl) ?_
      refine Sg.go (pc' := 68) (mi_aload_n dX5_readEnds_67 rfl) ?_
      refine Sg.go (pc' := 69) (mi_iconst (z := 1) dX5_readEnds_68 rfl) ?_
      refine Sg.callZ (pc' := 72) (t := 8) (μ' := m_X5_readCode) (args := [(11, v0), (0, 1)]) (mi_invV (n := 1) (r := 9) dX5_readEnds_69 hC_9 (by omega) rfl rfl wN_X5_readCode rfl ⟨by decide, by decide⟩ wL_X5_56 wI_X5_readCode wS_X5_readCode wB_X5 wC_X5_readCode) (fun v hv => C_X5_readCode hL v0 1 D3 (by omega) (Or.inr rfl) v hv) (Nat.le_of_ble_eq_true rfl) rfl rfl (fun y5 D6 Z7 => ?_)
      refine Sg.rq (fun hL => ?_)
      refine Sg.goM (pc' := 75) (mi_pfA (r := 8) (k := 4) (t := 6) dX5_readEnds_72 hC_8 (by decide) rfl rfl wF_X5_75 (by omega) rfl (Or.inr (Or.inr (Or.inr ⟨by show 2 ≤ (6 : Nat) + 2; omega, by first | exact Or.inl ⟨_, rfl⟩ | exact Or.inr ⟨_, rfl⟩⟩)))) ?_
      refine Sg.letZ (fun Z8 hZ8 => ?_)
      refine Sg.rq (fun hL => ?_)
      refine Sg.go (pc' := 75) (MiStep.weak (ls' := [(11, v0), mi_un]) (mi_wk_y (mi_wk_n mi_wk_0))) ?_
      exact S_X5_readEnds_75 v0 D6 Z8 hL hb0
def B_X5_readEnds_25 (v0 : Int) (v1 : Int) (D : MiD) (Z : MiZ) : Option (MiM) := if (D 9 v0 3) ≠ 0 then (B_X5_readEnds_50 v0 v1 D Z) else (mi_b2 (B_X5_passWord Z v0 36 D) fun y2 D3 => if y2 = 0 then (B_X5_readEnds_50 v0 v1 D3 Z) else (mi_b3 (B_X5_readCode v0 1 D3 Z) fun y5 D6 Z7 => mi_req (CL Z7) (mi_let (mi_st Z7.1 8 v1 3 y5, Z7.2) fun Z8 => mi_req (CL Z8) (B_X5_readEnds_50 v0 v1 D6 Z8))))
set_option maxRecDepth 20000 in
theorem S_X5_readEnds_25  (v0 v1 : Int) (D : MiD) (Z : MiZ) (hL : CL Z) : 0 ≤ v0 → 0 ≤ v1 → Sg m_X5_readEnds 25 [(11, v0), (10, v1)] [] (D, Z) mi_LW (B_X5_readEnds_25 v0 v1 D Z) := by
  intro hb0 hb1
  unfold B_X5_readEnds_25
  refine Sg.go (pc' := 26) (mi_aload_n dX5_readEnds_25 rfl) ?_
  refine Sg.go (pc' := 29) (mi_gfI (r := 9) (k := 3) dX5_readEnds_26 hC_9 (by decide) rfl wF_X5_33 (by omega) rfl) ?_
  refine Sg.ite (fun h1 => ?_) (fun h1 => ?_)
  · refine Sg.go (pc' := 50) (mi_ifne_t (tgt := 50) dX5_readEnds_29 (by decide) h1) ?_
    exact S_X5_readEnds_50 v0 v1 D Z hL hb0 hb1
  · refine Sg.go (pc' := 32) (mi_ifne_f (tgt := 50) dX5_readEnds_29 (by decide) h1) ?_
    refine Sg.go (pc' := 33) (mi_aload_n dX5_readEnds_32 rfl) ?_
    refine Sg.go (pc' := 35) (mi_ldcS (j := 36) (z := 36) dX5_readEnds_33 rfl rfl (by decide)) ?_
    refine Sg.callD (pc' := 38) (t := 0) (μ' := m_X5_passWord) (args := [(11, v0), (29, 36)]) (mi_invV (n := 1) (r := 9) dX5_readEnds_35 hC_9 (by omega) rfl rfl wN_X5_passWord rfl ⟨by decide, by decide⟩ wL_X5_24 wI_X5_passWord wS_X5_passWord wB_X5 wC_X5_passWord) (fun v hv => C_X5_passWord hL v0 36 D (by omega) (by omega) v hv) (Nat.le_of_ble_eq_true rfl) rfl rfl (fun y2 D3 => ?_)
    refine Sg.ite (fun h4 => ?_) (fun h4 => ?_)
    · refine Sg.go (pc' := 50) (mi_ifeq_t (tgt := 50) dX5_readEnds_38 (by decide) h4) ?_
      exact S_X5_readEnds_50 v0 v1 D3 Z hL hb0 hb1
    · refine Sg.go (pc' := 41) (mi_ifeq_f (tgt := 50) dX5_readEnds_38 (by decide) h4) ?_
      refine Sg.go (pc' := 42) (mi_aload_n dX5_readEnds_41 rfl) ?_
      refine Sg.go (pc' := 43) (mi_aload_n dX5_readEnds_42 rfl) ?_
      refine Sg.go (pc' := 44) (mi_iconst (z := 1) dX5_readEnds_43 rfl) ?_
      refine Sg.callZ (pc' := 47) (t := 8) (μ' := m_X5_readCode) (args := [(11, v0), (0, 1)]) (mi_invV (n := 1) (r := 9) dX5_readEnds_44 hC_9 (by omega) rfl rfl wN_X5_readCode rfl ⟨by decide, by decide⟩ wL_X5_56 wI_X5_readCode wS_X5_readCode wB_X5 wC_X5_readCode) (fun v hv => C_X5_readCode hL v0 1 D3 (by omega) (Or.inr rfl) v hv) (Nat.le_of_ble_eq_true rfl) rfl rfl (fun y5 D6 Z7 => ?_)
      refine Sg.rq (fun hL => ?_)
      refine Sg.goM (pc' := 50) (mi_pfA (r := 8) (k := 3) (t := 6) dX5_readEnds_47 hC_8 (by decide) rfl rfl wF_X5_71 (by omega) rfl (Or.inr (Or.inr (Or.inr ⟨by show 2 ≤ (6 : Nat) + 2; omega, by first | exact Or.inl ⟨_, rfl⟩ | exact Or.inr ⟨_, rfl⟩⟩)))) ?_
      refine Sg.letZ (fun Z8 hZ8 => ?_)
      refine Sg.rq (fun hL => ?_)
      exact S_X5_readEnds_50 v0 v1 D6 Z8 hL hb0 hb1
def B_X5_readEnds (v0 : Int) (v1 : Int) (D : MiD) (Z : MiZ) : Option (MiM) := if (D 9 v0 3) ≠ 0 then (B_X5_readEnds_25 v0 v1 D Z) else (mi_b2 (B_X5_passWord Z v0 35 D) fun y2 D3 => if y2 = 0 then (B_X5_readEnds_25 v0 v1 D3 Z) else (mi_b3 (B_X5_readCode v0 1 D3 Z) fun y5 D6 Z7 => mi_req (CL Z7) (mi_let (mi_st Z7.1 8 v1 2 y5, Z7.2) fun Z8 => mi_req (CL Z8) (B_X5_readEnds_25 v0 v1 D6 Z8))))
set_option maxRecDepth 20000 in
theorem S_X5_readEnds  (v0 v1 : Int) (D : MiD) (Z : MiZ) (hL : CL Z) : 0 ≤ v0 → 0 ≤ v1 → Sg m_X5_readEnds 0 [(11, v0), (10, v1)] [] (D, Z) mi_LW (B_X5_readEnds v0 v1 D Z) := by
  intro hb0 hb1
  unfold B_X5_readEnds
  refine Sg.go (pc' := 1) (mi_aload_n dX5_readEnds_0 rfl) ?_
  refine Sg.go (pc' := 4) (mi_gfI (r := 9) (k := 3) dX5_readEnds_1 hC_9 (by decide) rfl wF_X5_33 (by omega) rfl) ?_
  refine Sg.ite (fun h1 => ?_) (fun h1 => ?_)
  · refine Sg.go (pc' := 25) (mi_ifne_t (tgt := 25) dX5_readEnds_4 (by decide) h1) ?_
    exact S_X5_readEnds_25 v0 v1 D Z hL hb0 hb1
  · refine Sg.go (pc' := 7) (mi_ifne_f (tgt := 25) dX5_readEnds_4 (by decide) h1) ?_
    refine Sg.go (pc' := 8) (mi_aload_n dX5_readEnds_7 rfl) ?_
    refine Sg.go (pc' := 10) (mi_ldcS (j := 35) (z := 35) dX5_readEnds_8 rfl rfl (by decide)) ?_
    refine Sg.callD (pc' := 13) (t := 0) (μ' := m_X5_passWord) (args := [(11, v0), (29, 35)]) (mi_invV (n := 1) (r := 9) dX5_readEnds_10 hC_9 (by omega) rfl rfl wN_X5_passWord rfl ⟨by decide, by decide⟩ wL_X5_24 wI_X5_passWord wS_X5_passWord wB_X5 wC_X5_passWord) (fun v hv => C_X5_passWord hL v0 35 D (by omega) (by omega) v hv) (Nat.le_of_ble_eq_true rfl) rfl rfl (fun y2 D3 => ?_)
    refine Sg.ite (fun h4 => ?_) (fun h4 => ?_)
    · refine Sg.go (pc' := 25) (mi_ifeq_t (tgt := 25) dX5_readEnds_13 (by decide) h4) ?_
      exact S_X5_readEnds_25 v0 v1 D3 Z hL hb0 hb1
    · refine Sg.go (pc' := 16) (mi_ifeq_f (tgt := 25) dX5_readEnds_13 (by decide) h4) ?_
      refine Sg.go (pc' := 17) (mi_aload_n dX5_readEnds_16 rfl) ?_
      refine Sg.go (pc' := 18) (mi_aload_n dX5_readEnds_17 rfl) ?_
      refine Sg.go (pc' := 19) (mi_iconst (z := 1) dX5_readEnds_18 rfl) ?_
      refine Sg.callZ (pc' := 22) (t := 8) (μ' := m_X5_readCode) (args := [(11, v0), (0, 1)]) (mi_invV (n := 1) (r := 9) dX5_readEnds_19 hC_9 (by omega) rfl rfl wN_X5_readCode rfl ⟨by decide, by decide⟩ wL_X5_56 wI_X5_readCode wS_X5_readCode wB_X5 wC_X5_readCode) (fun v hv => C_X5_readCode hL v0 1 D3 (by omega) (Or.inr rfl) v hv) (Nat.le_of_ble_eq_true rfl) rfl rfl (fun y5 D6 Z7 => ?_)
      refine Sg.rq (fun hL => ?_)
      refine Sg.goM (pc' := 25) (mi_pfA (r := 8) (k := 2) (t := 6) dX5_readEnds_22 hC_8 (by decide) rfl rfl wF_X5_66 (by omega) rfl (Or.inr (Or.inr (Or.inr ⟨by show 2 ≤ (6 : Nat) + 2; omega, by first | exact Or.inl ⟨_, rfl⟩ | exact Or.inr ⟨_, rfl⟩⟩)))) ?_
      refine Sg.letZ (fun Z8 hZ8 => ?_)
      refine Sg.rq (fun hL => ?_)
      exact S_X5_readEnds_25 v0 v1 D6 Z8 hL hb0 hb1
theorem C_X5_readEnds {Z : MiZ} (hL : CL Z) (a0 a1 : Int) (D : MiD) (h0 : 0 ≤ a0) (h1 : 0 ≤ a1) (b : MiM) (hb : B_X5_readEnds a0 a1 D Z = some b) : MC m_X5_readEnds [(11, a0), (10, a1)] (D, Z) (mi_LW b) := MC.ofSg (L := mi_LW) (μ := m_X5_readEnds) (args := [(11, a0), (10, a1)]) (M := (D, Z)) rfl wP_X5 (Nat.le_of_ble_eq_true rfl) (show Sg m_X5_readEnds 0 [(11, a0), (10, a1)] [] (D, Z) mi_LW (B_X5_readEnds a0 a1 D Z) from S_X5_readEnds a0 a1 D Z hL h0 h1) hb
abbrev m_X5_readFuncs : MiI := (yX5_readFuncs, cX5_readFuncs, 5, none, 9, none)
def B_X5_readFuncs_12 : Nat → Int → Int → Int → MiD → MiZ → Option (MiM)
  | 0, _, _, _, _, _ => none
  | f + 1, v0, v1, v2, D, Z => if 8 < v2 then (some (D, Z)) else (if (D 9 v0 3) ≠ 0 then (some (D, Z)) else (mi_bi (B_X5_skipBlanks_0 Z mi_fuel v0 D) fun D3 => mi_b2 (B_X5_passWord Z v0 34 D3) fun y4 D5 => if y4 ≠ 0 then (if v2 ≠ 8 then (mi_b2 (B_X5_readFunction Z v0 v1 D5) fun y8 D9 => if (D9 9 v0 3) ≠ 0 then (B_X5_readFuncs_12 f v0 v1 (mi_w (v2 + 1)) D9 Z) else (mi_b3 (B_X5_readCode v0 1 D9 Z) fun y11 D12 Z13 => mi_req (CL Z13) (if 0 ≤ (Z.1 8 v1 1) then (if 0 ≤ y8 ∧ y8 < 12 then (if 0 ≤ y11 then (mi_let (mi_st Z13.1 24 (Z.1 8 v1 1) y8 y11, Z13.2) fun Z17 => mi_req (CL Z17) (B_X5_readFuncs_12 f v0 v1 (mi_w (v2 + 1)) D12 Z17)) else none) else none) else none))) else (mi_bi (B_X5_fail v0 3 (D3 9 v0 2) D5) fun D18 => some (D18, Z))) else (if v2 ≠ 0 then (some (D5, Z)) else (mi_bi (B_X5_fail v0 1 (D3 9 v0 2) D5) fun D20 => some (D20, Z)))))
set_option maxRecDepth 20000 in
theorem S_X5_readFuncs_12  : ∀ (f : Nat) (v0 v1 v2 : Int) (D : MiD) (Z : MiZ) (hL : CL Z), 0 ≤ v0 → 0 ≤ v1 → Sg m_X5_readFuncs 12 [(11, v0), (10, v1), (0, v2), mi_un, mi_un] [] (D, Z) mi_LW (B_X5_readFuncs_12 f v0 v1 v2 D Z) := by
  intro f
  induction f with
  | zero => intros; exact Sg.nope
  | succ f K12 =>
    intro v0 v1 v2 D Z hL hb0 hb1
    show Sg m_X5_readFuncs 12 [(11, v0), (10, v1), (0, v2), mi_un, mi_un] [] (D, Z) mi_LW (if 8 < v2 then (some (D, Z)) else (if (D 9 v0 3) ≠ 0 then (some (D, Z)) else (mi_bi (B_X5_skipBlanks_0 Z mi_fuel v0 D) fun D3 => mi_b2 (B_X5_passWord Z v0 34 D3) fun y4 D5 => if y4 ≠ 0 then (if v2 ≠ 8 then (mi_b2 (B_X5_readFunction Z v0 v1 D5) fun y8 D9 => if (D9 9 v0 3) ≠ 0 then (B_X5_readFuncs_12 f v0 v1 (mi_w (v2 + 1)) D9 Z) else (mi_b3 (B_X5_readCode v0 1 D9 Z) fun y11 D12 Z13 => mi_req (CL Z13) (if 0 ≤ (Z.1 8 v1 1) then (if 0 ≤ y8 ∧ y8 < 12 then (if 0 ≤ y11 then (mi_let (mi_st Z13.1 24 (Z.1 8 v1 1) y8 y11, Z13.2) fun Z17 => mi_req (CL Z17) (B_X5_readFuncs_12 f v0 v1 (mi_w (v2 + 1)) D12 Z17)) else none) else none) else none))) else (mi_bi (B_X5_fail v0 3 (D3 9 v0 2) D5) fun D18 => some (D18, Z))) else (if v2 ≠ 0 then (some (D5, Z)) else (mi_bi (B_X5_fail v0 1 (D3 9 v0 2) D5) fun D20 => some (D20, Z))))))
    refine Sg.go (pc' := 13) (mi_iload_n dX5_readFuncs_12 rfl) ?_
    refine Sg.go (pc' := 15) (mi_bipush (z := 8) dX5_readFuncs_13 rfl) ?_
    refine Sg.ite (fun h1 => ?_) (fun h1 => ?_)
    · refine Sg.go (pc' := 99) (mi_icmpgt_t (tgt := 99) dX5_readFuncs_15 (by decide) h1) ?_
      exact Sg.ret (mi_return dX5_readFuncs_99 rfl (0, 0))
    · refine Sg.go (pc' := 18) (mi_icmpgt_f (tgt := 99) dX5_readFuncs_15 (by decide) h1) ?_
      refine Sg.go (pc' := 19) (mi_aload_n dX5_readFuncs_18 rfl) ?_
      refine Sg.go (pc' := 22) (mi_gfI (r := 9) (k := 3) dX5_readFuncs_19 hC_9 (by decide) rfl wF_X5_33 (by omega) rfl) ?_
      refine Sg.ite (fun h2 => ?_) (fun h2 => ?_)
      · refine Sg.go (pc' := 99) (mi_ifne_t (tgt := 99) dX5_readFuncs_22 (by decide) h2) ?_
        exact Sg.ret (mi_return dX5_readFuncs_99 rfl (0, 0))
      · refine Sg.go (pc' := 25) (mi_ifne_f (tgt := 99) dX5_readFuncs_22 (by decide) h2) ?_
        refine Sg.go (pc' := 26) (mi_aload_n dX5_readFuncs_25 rfl) ?_
        refine Sg.callV (pc' := 29) (μ' := m_X5_skipBlanks) (args := [(11, v0)]) (mi_invV (n := 0) (r := 9) dX5_readFuncs_26 hC_9 (by omega) rfl rfl wN_X5_skipBlanks rfl ⟨by decide, by decide⟩ wL_X5_36 wI_X5_skipBlanks wS_X5_skipBlanks wB_X5 wC_X5_skipBlanks) (fun v hv => C_X5_skipBlanks hL v0 D (by omega) v hv) (Nat.le_of_ble_eq_true rfl) rfl rfl (fun D3 => ?_)
        refine Sg.go (pc' := 30) (mi_aload_n dX5_readFuncs_29 rfl) ?_
        refine Sg.go (pc' := 33) (mi_gfI (r := 9) (k := 2) dX5_readFuncs_30 hC_9 (by decide) rfl wF_X5_39 (by omega) rfl) ?_
        refine Sg.go (pc' := 34) (mi_istore_n (ls1 := [(11, v0), (10, v1), (0, v2), (0, (D3 9 v0 2)), mi_un]) dX5_readFuncs_33 (by decide) rfl) ?_
        refine Sg.go (pc' := 35) (mi_aload_n dX5_readFuncs_34 rfl) ?_
        refine Sg.go (pc' := 37) (mi_ldcS (j := 34) (z := 34) dX5_readFuncs_35 rfl rfl (by decide)) ?_
        refine Sg.callD (pc' := 40) (t := 0) (μ' := m_X5_passWord) (args := [(11, v0), (29, 34)]) (mi_invV (n := 1) (r := 9) dX5_readFuncs_37 hC_9 (by omega) rfl rfl wN_X5_passWord rfl ⟨by decide, by decide⟩ wL_X5_24 wI_X5_passWord wS_X5_passWord wB_X5 wC_X5_passWord) (fun v hv => C_X5_passWord hL v0 34 D3 (by omega) (by omega) v hv) (Nat.le_of_ble_eq_true rfl) rfl rfl (fun y4 D5 => ?_)
        refine Sg.ite (fun h6 => ?_) (fun h6 => ?_)
        · refine Sg.go (pc' := 54) (mi_ifne_t (tgt := 54) dX5_readFuncs_40 (by decide) h6) ?_
          refine Sg.go (pc' := 55) (mi_iload_n dX5_readFuncs_54 rfl) ?_
          refine Sg.go (pc' := 57) (mi_bipush (z := 8) dX5_readFuncs_55 rfl) ?_
          refine Sg.ite (fun h7 => ?_) (fun h7 => ?_)
          · refine Sg.go (pc' := 67) (mi_icmpne_t (tgt := 67) dX5_readFuncs_57 (by decide) h7) ?_
            refine Sg.go (pc' := 68) (mi_aload_n dX5_readFuncs_67 rfl) ?_
            refine Sg.go (pc' := 69) (mi_aload_n dX5_readFuncs_68 rfl) ?_
            refine Sg.callD (pc' := 72) (t := 0) (μ' := m_X5_readFunction) (args := [(11, v0), (10, v1)]) (mi_invV (n := 1) (r := 9) dX5_readFuncs_69 hC_9 (by omega) rfl rfl wN_X5_readFunction rfl ⟨by decide, by decide⟩ wL_X5_48 wI_X5_readFunction wS_X5_readFunction wB_X5 wC_X5_readFunction) (fun v hv => C_X5_readFunction hL v0 v1 D5 (by omega) (by omega) v hv) (Nat.le_of_ble_eq_true rfl) rfl rfl (fun y8 D9 => ?_)
            refine Sg.go (pc' := 74) (mi_istore (ls1 := [(11, v0), (10, v1), (0, v2), (0, (D3 9 v0 2)), (0, y8)]) dX5_readFuncs_72 (by decide) rfl) ?_
            refine Sg.go (pc' := 75) (mi_aload_n dX5_readFuncs_74 rfl) ?_
            refine Sg.go (pc' := 78) (mi_gfI (r := 9) (k := 3) dX5_readFuncs_75 hC_9 (by decide) rfl wF_X5_33 (by omega) rfl) ?_
            refine Sg.ite (fun h10 => ?_) (fun h10 => ?_)
            · refine Sg.go (pc' := 93) (mi_ifne_t (tgt := 93) dX5_readFuncs_78 (by decide) h10) ?_
              refine Sg.go (pc' := 96) (mi_iinc (z := 1) (ls1 := [(11, v0), (10, v1), (0, (mi_w (v2 + 1))), (0, (D3 9 v0 2)), (0, y8)]) dX5_readFuncs_93 (by decide) rfl rfl rfl) ?_
              refine Sg.go (pc' := 12) (mi_goto (tgt := 12) dX5_readFuncs_96 (by decide)) ?_
              refine Sg.go (pc' := 12) (MiStep.weak (ls' := [(11, v0), (10, v1), (0, (mi_w (v2 + 1))), mi_un, mi_un]) (mi_wk_y (mi_wk_y (mi_wk_y (mi_wk_n (mi_wk_n mi_wk_0)))))) ?_
              exact K12 v0 v1 (mi_w (v2 + 1)) D9 Z hL hb0 hb1
            · refine Sg.go (pc' := 81) (mi_ifne_f (tgt := 93) dX5_readFuncs_78 (by decide) h10) ?_
              refine Sg.go (pc' := 82) (mi_aload_n dX5_readFuncs_81 rfl) ?_
              refine Sg.go (pc' := 85) (mi_gfA (t := 24) (v := (Z.1 8 v1 1)) (r := 8) (k := 1) dX5_readFuncs_82 hC_8 (by decide) rfl wF_X5_52 (by omega) rfl rfl) ?_
              refine Sg.go (pc' := 87) (mi_iload dX5_readFuncs_85 rfl) ?_
              refine Sg.go (pc' := 88) (mi_aload_n dX5_readFuncs_87 rfl) ?_
              refine Sg.go (pc' := 89) (mi_iconst (z := 1) dX5_readFuncs_88 rfl) ?_
              refine Sg.callZ (pc' := 92) (t := 8) (μ' := m_X5_readCode) (args := [(11, v0), (0, 1)]) (mi_invV (n := 1) (r := 9) dX5_readFuncs_89 hC_9 (by omega) rfl rfl wN_X5_readCode rfl ⟨by decide, by decide⟩ wL_X5_56 wI_X5_readCode wS_X5_readCode wB_X5 wC_X5_readCode) (fun v hv => C_X5_readCode hL v0 1 D9 (by omega) (Or.inr rfl) v hv) (Nat.le_of_ble_eq_true rfl) rfl rfl (fun y11 D12 Z13 => ?_)
              refine Sg.rq (fun hL => ?_)
              refine Sg.ck (fun hk14 => ?_)
              refine Sg.ck (fun hk15 => ?_)
              refine Sg.ck (fun hk16 => ?_)
              refine Sg.goM (pc' := 93) (mi_aast (n := 12) (t := 6) dX5_readFuncs_92 rfl hC_6 rfl (by decide) rfl (by omega) (by omega) hk15) ?_
              refine Sg.letZ (fun Z17 hZ17 => ?_)
              refine Sg.rq (fun hL => ?_)
              refine Sg.go (pc' := 96) (mi_iinc (z := 1) (ls1 := [(11, v0), (10, v1), (0, (mi_w (v2 + 1))), (0, (D3 9 v0 2)), (0, y8)]) dX5_readFuncs_93 (by decide) rfl rfl rfl) ?_
              refine Sg.go (pc' := 12) (mi_goto (tgt := 12) dX5_readFuncs_96 (by decide)) ?_
              refine Sg.go (pc' := 12) (MiStep.weak (ls' := [(11, v0), (10, v1), (0, (mi_w (v2 + 1))), mi_un, mi_un]) (mi_wk_y (mi_wk_y (mi_wk_y (mi_wk_n (mi_wk_n mi_wk_0)))))) ?_
              exact K12 v0 v1 (mi_w (v2 + 1)) D12 Z17 hL hb0 hb1
          · refine Sg.go (pc' := 60) (mi_icmpne_f (tgt := 67) dX5_readFuncs_57 (by decide) h7) ?_
            refine Sg.go (pc' := 61) (mi_aload_n dX5_readFuncs_60 rfl) ?_
            refine Sg.go (pc' := 62) (mi_iconst (z := 3) dX5_readFuncs_61 rfl) ?_
            refine Sg.go (pc' := 63) (mi_iload_n dX5_readFuncs_62 rfl) ?_
            refine Sg.callV (pc' := 66) (μ' := m_X5_fail) (args := [(11, v0), (0, 3), (0, (D3 9 v0 2))]) (mi_invV (n := 2) (r := 9) dX5_readFuncs_63 hC_9 (by omega) rfl rfl wN_X5_fail rfl ⟨by decide, by decide⟩ wL_X5_44 wI_X5_fail wS_X5_fail wB_X5 wC_X5_fail) (fun v hv => C_X5_fail hL v0 3 (D3 9 v0 2) D5 (by omega) v hv) (Nat.le_of_ble_eq_true rfl) rfl rfl (fun D18 => ?_)
            exact Sg.ret (mi_return dX5_readFuncs_66 rfl (0, 0))
        · refine Sg.go (pc' := 43) (mi_ifne_f (tgt := 54) dX5_readFuncs_40 (by decide) h6) ?_
          refine Sg.go (pc' := 44) (mi_iload_n dX5_readFuncs_43 rfl) ?_
          refine Sg.ite (fun h19 => ?_) (fun h19 => ?_)
          · refine Sg.go (pc' := 53) (mi_ifne_t (tgt := 53) dX5_readFuncs_44 (by decide) h19) ?_
            exact Sg.ret (mi_return dX5_readFuncs_53 rfl (0, 0))
          · refine Sg.go (pc' := 47) (mi_ifne_f (tgt := 53) dX5_readFuncs_44 (by decide) h19) ?_
            refine Sg.go (pc' := 48) (mi_aload_n dX5_readFuncs_47 rfl) ?_
            refine Sg.go (pc' := 49) (mi_iconst (z := 1) dX5_readFuncs_48 rfl) ?_
            refine Sg.go (pc' := 50) (mi_iload_n dX5_readFuncs_49 rfl) ?_
            refine Sg.callV (pc' := 53) (μ' := m_X5_fail) (args := [(11, v0), (0, 1), (0, (D3 9 v0 2))]) (mi_invV (n := 2) (r := 9) dX5_readFuncs_50 hC_9 (by omega) rfl rfl wN_X5_fail rfl ⟨by decide, by decide⟩ wL_X5_44 wI_X5_fail wS_X5_fail wB_X5 wC_X5_fail) (fun v hv => C_X5_fail hL v0 1 (D3 9 v0 2) D5 (by omega) v hv) (Nat.le_of_ble_eq_true rfl) rfl rfl (fun D20 => ?_)
            exact Sg.ret (mi_return dX5_readFuncs_53 rfl (0, 0))
def B_X5_readFuncs (v0 : Int) (v1 : Int) (D : MiD) (Z : MiZ) : Option (MiM) := mi_b2 (B_X5_passWord Z v0 33 D) fun y1 D2 => if y1 = 0 ∨ y1 = 1 then (mi_let (mi_st D2 8 v1 0 y1) fun D4 => B_X5_readFuncs_12 mi_fuel v0 v1 0 D4 Z) else none
set_option maxRecDepth 20000 in
theorem S_X5_readFuncs  (v0 v1 : Int) (D : MiD) (Z : MiZ) (hL : CL Z) : 0 ≤ v0 → 0 ≤ v1 → Sg m_X5_readFuncs 0 [(11, v0), (10, v1), mi_un, mi_un, mi_un] [] (D, Z) mi_LW (B_X5_readFuncs v0 v1 D Z) := by
  intro hb0 hb1
  unfold B_X5_readFuncs
  refine Sg.go (pc' := 1) (mi_aload_n dX5_readFuncs_0 rfl) ?_
  refine Sg.go (pc' := 2) (mi_aload_n dX5_readFuncs_1 rfl) ?_
  refine Sg.go (pc' := 4) (mi_ldcS (j := 33) (z := 33) dX5_readFuncs_2 rfl rfl (by decide)) ?_
  refine Sg.callD (pc' := 7) (t := 0) (μ' := m_X5_passWord) (args := [(11, v0), (29, 33)]) (mi_invV (n := 1) (r := 9) dX5_readFuncs_4 hC_9 (by omega) rfl rfl wN_X5_passWord rfl ⟨by decide, by decide⟩ wL_X5_24 wI_X5_passWord wS_X5_passWord wB_X5 wC_X5_passWord) (fun v hv => C_X5_passWord hL v0 33 D (by omega) (by omega) v hv) (Nat.le_of_ble_eq_true rfl) rfl rfl (fun y1 D2 => ?_)
  refine Sg.ck (fun hk3 => ?_)
  refine Sg.goM (pc' := 10) (mi_pfD (r := 8) (k := 0) (t := 0) dX5_readFuncs_7 hC_8 (by decide) rfl rfl wF_X5_28 (by omega) rfl (by decide) (Or.inr (Or.inr (Or.inl ⟨rfl, rfl, hk3⟩)))) ?_
  refine Sg.letD (fun D4 hD4 => ?_)
  refine Sg.go (pc' := 11) (mi_iconst (z := 0) dX5_readFuncs_10 rfl) ?_
  refine Sg.go (pc' := 12) (mi_istore_n (ls1 := [(11, v0), (10, v1), (0, 0), mi_un, mi_un]) dX5_readFuncs_11 (by decide) rfl) ?_
  exact S_X5_readFuncs_12 mi_fuel v0 v1 0 D4 Z hL hb0 hb1
theorem C_X5_readFuncs {Z : MiZ} (hL : CL Z) (a0 a1 : Int) (D : MiD) (h0 : 0 ≤ a0) (h1 : 0 ≤ a1) (b : MiM) (hb : B_X5_readFuncs a0 a1 D Z = some b) : MC m_X5_readFuncs [(11, a0), (10, a1)] (D, Z) (mi_LW b) := MC.ofSg (L := mi_LW) (μ := m_X5_readFuncs) (args := [(11, a0), (10, a1)]) (M := (D, Z)) rfl wP_X5 (Nat.le_of_ble_eq_true rfl) (show Sg m_X5_readFuncs 0 [(11, a0), (10, a1), mi_un, mi_un, mi_un] [] (D, Z) mi_LW (B_X5_readFuncs a0 a1 D Z) from S_X5_readFuncs a0 a1 D Z hL h0 h1) hb
abbrev m_X10_patch : MiI := (yX10_patch, cX10_patch, 4, (some .int), 10, none)
def B_X10_patch_36 (v1 : Int) (s1 : Int) (D : MiD) (Z : MiZ) : Option ((Int × MiM) ⊕ (Nat × MiM)) := if s1 = 0 ∨ s1 = 1 then (mi_bn (B_X10_needState s1 D) (fun b => Sum.inr (b.1, (b.2, Z))) fun D2 => if 0 ≤ Z.2 9 then mi_nl D2 Z 9 5 (fun D3 Z4 => mi_req (CL Z4) (mi_bw (B_X5_init (Z.2 9) v1 D3 Z4) fun D6 Z7 => mi_req (CL Z7) (if 0 ≤ Z7.2 8 then mi_nl D6 Z7 8 5 (fun D8 Z9 => mi_req (CL Z9) (mi_bw (B_X4_init (Z7.2 8) D8 Z9) fun D11 Z12 => mi_req (CL Z12) (mi_bw (B_X5_readFuncs (Z.2 9) (Z7.2 8) D11 Z12) fun D13 Z14 => mi_req (CL Z14) (mi_bw (B_X5_readEnds (Z.2 9) (Z7.2 8) D13 Z14) fun D15 Z16 => mi_req (CL Z16) (mi_bi (B_X10_emptyTape (D15 9 (Z.2 9) 4) D15) fun D17 => if (D17 9 (Z.2 9) 3) = 0 then (if 0 ≤ (D17 1 0 3) ∧ (D17 1 0 3) < 8 then (mi_let (mi_st Z16.1 12 0 (D17 1 0 3) (Z7.2 8), Z16.2) fun Z20 => mi_req (CL Z20) (mi_let (mi_st D17 1 0 3 (mi_w ((D17 1 0 3) + 1))) fun D21 => some (.inl ((mi_w ((D21 1 0 3) - 1)), (D21, Z20))))) else none) else (some (.inl ((mi_w ((D17 9 (Z.2 9) 3) - 10)), (D17, Z16))))))))) else none))) else none) else none
set_option maxRecDepth 20000 in
theorem S_X10_patch_36  (v1 s1 : Int) (D : MiD) (Z : MiZ) (hL : CL Z) : Sg m_X10_patch 36 [(3, 0), (0, v1), mi_un, mi_un] [(0, s1), (3, 0)] (D, Z) (mi_LTZ 0) (B_X10_patch_36 v1 s1 D Z) := by
  unfold B_X10_patch_36
  refine Sg.ck (fun hk1 => ?_)
  refine Sg.callNg (t := (fun b => Sum.inr (b.1, (b.2, Z)))) (fun _ => rfl) (pc' := 39) (μ' := m_X10_needState) (args := [(3, 0), (0, s1)]) (mi_invV (n := 1) (r := 1) dX10_patch_36 hC_1 (by omega) rfl rfl wN_X10_needState rfl ⟨by decide, by decide⟩ wL_X10_49 wI_X10_needState wS_X10_needState wB_X10 wC_X10_needState) (fun v hv => C_X10_needState hL s1 D (hk1) v hv) rfl (Nat.le_of_ble_eq_true rfl) rfl rfl (fun D2 => ?_)
  refine Sg.nl (pc' := 42) (r := 9) (n := 5) (mi_new (r := 9) dX10_patch_39 hC_9 wK_X10_52 wG_X5 wB_X5 hN_9.1 hN_9.2.1 hN_9.2.2) (by decide) (fun hk5 D3 Z4 => ?_)
  refine Sg.rq (fun hL => ?_)
  refine Sg.go (pc' := 43) (mi_dup dX10_patch_42 (show (11 : Nat) ≠ 1 by decide)) ?_
  refine Sg.go (pc' := 44) (mi_aload_n dX10_patch_43 rfl) ?_
  refine Sg.go (pc' := 47) (mi_gfA (t := 10) (v := 0) (r := 1) (k := 0) dX10_patch_44 hC_1 (by decide) rfl wF_X10_9 (by omega) rfl hL.1.1) ?_
  refine Sg.go (pc' := 48) (mi_iload_n dX10_patch_47 rfl) ?_
  refine Sg.callW (pc' := 51) (μ' := m_X5_init) (args := [(11, (Z.2 9)), (12, 0), (0, v1)]) (mi_invI (n := 2) (r := 9) dX10_patch_48 (by omega) rfl rfl rfl wN_X5_init rfl ⟨by decide, by decide⟩ wL_X10_54 wI_X5_init wB_X5 wC_X5_init) (fun v hv => C_X5_init trivial (Z.2 9) v1 D3 (by omega) v hv) (Nat.le_of_ble_eq_true rfl) rfl rfl (fun D6 Z7 => ?_)
  refine Sg.rq (fun hL => ?_)
  refine Sg.go (pc' := 52) (mi_astore_n (ls1 := [(3, 0), (0, v1), (11, (Z.2 9)), mi_un]) dX10_patch_51 (by decide) rfl) ?_
  refine Sg.nl (pc' := 55) (r := 8) (n := 5) (mi_new (r := 8) dX10_patch_52 hC_8 wK_X10_82 wG_X4 wB_X4 hN_8.1 hN_8.2.1 hN_8.2.2) (by decide) (fun hk10 D8 Z9 => ?_)
  refine Sg.rq (fun hL => ?_)
  refine Sg.go (pc' := 56) (mi_dup dX10_patch_55 (show (10 : Nat) ≠ 1 by decide)) ?_
  refine Sg.callW (pc' := 59) (μ' := m_X4_init) (args := [(10, (Z7.2 8))]) (mi_invIN (n := 0) (r := 8) dX10_patch_56 (by omega) rfl rfl rfl wN_X4_init rfl ⟨by decide, by decide⟩ wL_X10_84 wI_X4_init wB_X4 wC_X4_init) (fun v hv => C_X4_init trivial (Z7.2 8) D8 (by omega) v hv) (Nat.le_of_ble_eq_true rfl) rfl rfl (fun D11 Z12 => ?_)
  refine Sg.rq (fun hL => ?_)
  refine Sg.go (pc' := 60) (mi_astore_n (ls1 := [(3, 0), (0, v1), (11, (Z.2 9)), (10, (Z7.2 8))]) dX10_patch_59 (by decide) rfl) ?_
  refine Sg.go (pc' := 61) (mi_aload_n dX10_patch_60 rfl) ?_
  refine Sg.go (pc' := 62) (mi_aload_n dX10_patch_61 rfl) ?_
  refine Sg.callW (pc' := 65) (μ' := m_X5_readFuncs) (args := [(11, (Z.2 9)), (10, (Z7.2 8))]) (mi_invV (n := 1) (r := 9) dX10_patch_62 hC_9 (by omega) rfl rfl wN_X5_readFuncs rfl ⟨by decide, by decide⟩ wL_X10_85 wI_X5_readFuncs wS_X5_readFuncs wB_X5 wC_X5_readFuncs) (fun v hv => C_X5_readFuncs hL (Z.2 9) (Z7.2 8) D11 (by omega) (by omega) v hv) (Nat.le_of_ble_eq_true rfl) rfl rfl (fun D13 Z14 => ?_)
  refine Sg.rq (fun hL => ?_)
  refine Sg.go (pc' := 66) (mi_aload_n dX10_patch_65 rfl) ?_
  refine Sg.go (pc' := 67) (mi_aload_n dX10_patch_66 rfl) ?_
  refine Sg.callW (pc' := 70) (μ' := m_X5_readEnds) (args := [(11, (Z.2 9)), (10, (Z7.2 8))]) (mi_invV (n := 1) (r := 9) dX10_patch_67 hC_9 (by omega) rfl rfl wN_X5_readEnds rfl ⟨by decide, by decide⟩ wL_X10_89 wI_X5_readEnds wS_X5_readEnds wB_X5 wC_X5_readEnds) (fun v hv => C_X5_readEnds hL (Z.2 9) (Z7.2 8) D13 (by omega) (by omega) v hv) (Nat.le_of_ble_eq_true rfl) rfl rfl (fun D15 Z16 => ?_)
  refine Sg.rq (fun hL => ?_)
  refine Sg.go (pc' := 71) (mi_aload_n dX10_patch_70 rfl) ?_
  refine Sg.go (pc' := 72) (mi_aload_n dX10_patch_71 rfl) ?_
  refine Sg.go (pc' := 75) (mi_gfI (r := 9) (k := 4) dX10_patch_72 hC_9 (by decide) rfl wF_X10_61 (by omega) rfl) ?_
  refine Sg.callV (pc' := 78) (μ' := m_X10_emptyTape) (args := [(3, 0), (0, (D15 9 (Z.2 9) 4))]) (mi_invV (n := 1) (r := 1) dX10_patch_75 hC_1 (by omega) rfl rfl wN_X10_emptyTape rfl ⟨by decide, by decide⟩ wL_X10_64 wI_X10_emptyTape wS_X10_emptyTape wB_X10 wC_X10_emptyTape) (fun v hv => C_X10_emptyTape hL (D15 9 (Z.2 9) 4) D15 v hv) (Nat.le_of_ble_eq_true rfl) rfl rfl (fun D17 => ?_)
  refine Sg.go (pc' := 79) (mi_aload_n dX10_patch_78 rfl) ?_
  refine Sg.go (pc' := 82) (mi_gfI (r := 9) (k := 3) dX10_patch_79 hC_9 (by decide) rfl wF_X10_67 (by omega) rfl) ?_
  refine Sg.ite (fun h18 => ?_) (fun h18 => ?_)
  · refine Sg.go (pc' := 93) (mi_ifeq_t (tgt := 93) dX10_patch_82 (by decide) h18) ?_
    refine Sg.go (pc' := 94) (mi_aload_n dX10_patch_93 rfl) ?_
    refine Sg.go (pc' := 97) (mi_gfA (t := 2) (v := 0) (r := 1) (k := 4) dX10_patch_94 hC_1 (by decide) rfl wF_X10_20 (by omega) rfl hL.1.2.1) ?_
    refine Sg.go (pc' := 100) (mi_gfA (t := 12) (v := 0) (r := 2) (k := 1) dX10_patch_97 hC_2 (by decide) rfl wF_X10_92 (by omega) rfl (hL.2.1 _ 1 (by omega) (by omega) (by decide))) ?_
    refine Sg.go (pc' := 101) (mi_aload_n dX10_patch_100 rfl) ?_
    refine Sg.go (pc' := 104) (mi_gfI (r := 1) (k := 3) dX10_patch_101 hC_1 (by decide) rfl wF_X10_79 (by omega) rfl) ?_
    refine Sg.go (pc' := 105) (mi_aload_n dX10_patch_104 rfl) ?_
    refine Sg.ck (fun hk19 => ?_)
    refine Sg.goM (pc' := 106) (mi_aast (n := 8) (t := 8) dX10_patch_105 rfl hC_8 rfl (by decide) rfl (by omega) (by omega) hk19) ?_
    refine Sg.letZ (fun Z20 hZ20 => ?_)
    refine Sg.rq (fun hL => ?_)
    refine Sg.go (pc' := 107) (mi_aload_n dX10_patch_106 rfl) ?_
    refine Sg.go (pc' := 108) (mi_dup dX10_patch_107 (show (3 : Nat) ≠ 1 by decide)) ?_
    refine Sg.go (pc' := 111) (mi_gfI (r := 1) (k := 3) dX10_patch_108 hC_1 (by decide) rfl wF_X10_79 (by omega) rfl) ?_
    refine Sg.go (pc' := 112) (mi_iconst (z := 1) dX10_patch_111 rfl) ?_
    refine Sg.go (pc' := 113) (mi_iadd dX10_patch_112) ?_
    refine Sg.goM (pc' := 116) (mi_pfD (r := 1) (k := 3) (t := 0) dX10_patch_113 hC_1 (by decide) rfl rfl wF_X10_79 (by omega) rfl (by decide) (Or.inl ⟨rfl, rfl⟩)) ?_
    refine Sg.letD (fun D21 hD21 => ?_)
    refine Sg.go (pc' := 117) (mi_aload_n dX10_patch_116 rfl) ?_
    refine Sg.go (pc' := 120) (mi_gfI (r := 1) (k := 3) dX10_patch_117 hC_1 (by decide) rfl wF_X10_79 (by omega) rfl) ?_
    refine Sg.go (pc' := 121) (mi_iconst (z := 1) dX10_patch_120 rfl) ?_
    refine Sg.go (pc' := 122) (mi_isub dX10_patch_121) ?_
    exact Sg.ret (mi_ireturn dX10_patch_122 rfl (Or.inl rfl))
  · refine Sg.go (pc' := 85) (mi_ifeq_f (tgt := 93) dX10_patch_82 (by decide) h18) ?_
    refine Sg.go (pc' := 86) (mi_aload_n dX10_patch_85 rfl) ?_
    refine Sg.go (pc' := 89) (mi_gfI (r := 9) (k := 3) dX10_patch_86 hC_9 (by decide) rfl wF_X10_67 (by omega) rfl) ?_
    refine Sg.go (pc' := 91) (mi_bipush (z := 10) dX10_patch_89 rfl) ?_
    refine Sg.go (pc' := 92) (mi_isub dX10_patch_91) ?_
    exact Sg.ret (mi_ireturn dX10_patch_92 rfl (Or.inl rfl))
def B_X10_patch_18 (v1 : Int) (s1 : Int) (D : MiD) (Z : MiZ) : Option ((Int × MiM) ⊕ (Nat × MiM)) := if s1 = 0 ∨ s1 = 1 then (mi_bn (B_X10_needArgument s1 D) (fun b => Sum.inr (b.1, (b.2, Z))) fun D2 => if 8 ≤ (D2 1 0 3) then (B_X10_patch_36 v1 0 D2 Z) else (B_X10_patch_36 v1 1 D2 Z)) else none
set_option maxRecDepth 20000 in
theorem S_X10_patch_18  (v1 s1 : Int) (D : MiD) (Z : MiZ) (hL : CL Z) : Sg m_X10_patch 18 [(3, 0), (0, v1), mi_un, mi_un] [(0, s1), (3, 0)] (D, Z) (mi_LTZ 0) (B_X10_patch_18 v1 s1 D Z) := by
  unfold B_X10_patch_18
  refine Sg.ck (fun hk1 => ?_)
  refine Sg.callNg (t := (fun b => Sum.inr (b.1, (b.2, Z)))) (fun _ => rfl) (pc' := 21) (μ' := m_X10_needArgument) (args := [(3, 0), (0, s1)]) (mi_invV (n := 1) (r := 1) dX10_patch_18 hC_1 (by omega) rfl rfl wN_X10_needArgument rfl ⟨by decide, by decide⟩ wL_X10_42 wI_X10_needArgument wS_X10_needArgument wB_X10 wC_X10_needArgument) (fun v hv => C_X10_needArgument hL s1 D (hk1) v hv) rfl (Nat.le_of_ble_eq_true rfl) rfl rfl (fun D2 => ?_)
  refine Sg.go (pc' := 22) (mi_aload_n dX10_patch_21 rfl) ?_
  refine Sg.go (pc' := 23) (mi_aload_n dX10_patch_22 rfl) ?_
  refine Sg.go (pc' := 26) (mi_gfI (r := 1) (k := 3) dX10_patch_23 hC_1 (by decide) rfl wF_X10_79 (by omega) rfl) ?_
  refine Sg.go (pc' := 28) (mi_bipush (z := 8) dX10_patch_26 rfl) ?_
  refine Sg.ite (fun h3 => ?_) (fun h3 => ?_)
  · refine Sg.go (pc' := 35) (mi_icmpge_t (tgt := 35) dX10_patch_28 (by decide) h3) ?_
    refine Sg.go (pc' := 36) (mi_iconst (z := 0) dX10_patch_35 rfl) ?_
    exact S_X10_patch_36 v1 0 D2 Z hL
  · refine Sg.go (pc' := 31) (mi_icmpge_f (tgt := 35) dX10_patch_28 (by decide) h3) ?_
    refine Sg.go (pc' := 32) (mi_iconst (z := 1) dX10_patch_31 rfl) ?_
    refine Sg.go (pc' := 36) (mi_goto (tgt := 36) dX10_patch_32 (by decide)) ?_
    exact S_X10_patch_36 v1 1 D2 Z hL
def B_X10_patch_17 (v1 : Int) (D : MiD) (Z : MiZ) : Option ((Int × MiM) ⊕ (Nat × MiM)) := B_X10_patch_18 v1 0 D Z
set_option maxRecDepth 20000 in
theorem S_X10_patch_17  (v1 : Int) (D : MiD) (Z : MiZ) (hL : CL Z) : Sg m_X10_patch 17 [(3, 0), (0, v1), mi_un, mi_un] [(3, 0)] (D, Z) (mi_LTZ 0) (B_X10_patch_17 v1 D Z) := by
  unfold B_X10_patch_17
  refine Sg.go (pc' := 18) (mi_iconst (z := 0) dX10_patch_17 rfl) ?_
  exact S_X10_patch_18 v1 0 D Z hL
def B_X10_patch (v1 : Int) (D : MiD) (Z : MiZ) : Option ((Int × MiM) ⊕ (Nat × MiM)) := if v1 < 0 then (B_X10_patch_17 v1 D Z) else (if (D 1 0 1) < v1 then (B_X10_patch_17 v1 D Z) else (B_X10_patch_18 v1 1 D Z))
set_option maxRecDepth 20000 in
theorem S_X10_patch  (v1 : Int) (D : MiD) (Z : MiZ) (hL : CL Z) : Sg m_X10_patch 0 [(3, 0), (0, v1), mi_un, mi_un] [] (D, Z) (mi_LTZ 0) (B_X10_patch v1 D Z) := by
  unfold B_X10_patch
  refine Sg.go (pc' := 1) (mi_aload_n dX10_patch_0 rfl) ?_
  refine Sg.go (pc' := 2) (mi_iload_n dX10_patch_1 rfl) ?_
  refine Sg.ite (fun h1 => ?_) (fun h1 => ?_)
  · refine Sg.go (pc' := 17) (mi_iflt_t (tgt := 17) dX10_patch_2 (by decide) h1) ?_
    exact S_X10_patch_17 v1 D Z hL
  · refine Sg.go (pc' := 5) (mi_iflt_f (tgt := 17) dX10_patch_2 (by decide) h1) ?_
    refine Sg.go (pc' := 6) (mi_iload_n dX10_patch_5 rfl) ?_
    refine Sg.go (pc' := 7) (mi_aload_n dX10_patch_6 rfl) ?_
    refine Sg.go (pc' := 10) (mi_gfI (r := 1) (k := 1) dX10_patch_7 hC_1 (by decide) rfl wF_X10_27 (by omega) rfl) ?_
    refine Sg.ite (fun h2 => ?_) (fun h2 => ?_)
    · refine Sg.go (pc' := 17) (mi_icmpgt_t (tgt := 17) dX10_patch_10 (by decide) h2) ?_
      exact S_X10_patch_17 v1 D Z hL
    · refine Sg.go (pc' := 13) (mi_icmpgt_f (tgt := 17) dX10_patch_10 (by decide) h2) ?_
      refine Sg.go (pc' := 14) (mi_iconst (z := 1) dX10_patch_13 rfl) ?_
      refine Sg.go (pc' := 18) (mi_goto (tgt := 18) dX10_patch_14 (by decide)) ?_
      exact S_X10_patch_18 v1 1 D Z hL
theorem C_X10_patch {Z : MiZ} (hL : CL Z) (a1 : Int) (D : MiD) (b : (Int × MiM) ⊕ (Nat × MiM)) (hb : B_X10_patch a1 D Z = some b) : MC m_X10_patch [(3, 0), (0, a1)] (D, Z) ((mi_LTZ 0) b) := MC.ofSg (L := (mi_LTZ 0)) (μ := m_X10_patch) (args := [(3, 0), (0, a1)]) (M := (D, Z)) rfl wP_X10 (Nat.le_of_ble_eq_true rfl) (show Sg m_X10_patch 0 [(3, 0), (0, a1), mi_un, mi_un] [] (D, Z) (mi_LTZ 0) (B_X10_patch a1 D Z) from S_X10_patch a1 D Z hL) hb
abbrev m_X11_readsFunc : MiI := (yX11_readsFunc, cX11_readsFunc, 4, none, 10, none)
def B_X11_readsFunc_66 (v1 : Int) (v2 : Int) (D : MiD) : Option (MiD) := mi_bi (B_X11_fine D) fun y1 => if y1 ≠ 0 then (mi_let (mi_st D 47 0 8 (mi_or (D 47 0 8) (mi_shl 1 v2))) fun D3 => if 0 ≤ v2 ∧ v2 < 12 then (mi_let (mi_st D3 51 8 v2 v1) fun D5 => mi_bi (B_X11_block v1 D5) fun D6 => some D6) else none) else (some D)
set_option maxRecDepth 20000 in
theorem S_X11_readsFunc_66 {Z : MiZ} (hL : ML Z) (v1 v2 : Int) (D : MiD) : Sg m_X11_readsFunc 66 [(42, 0), (0, v1), (0, v2), mi_un] [] (D, Z) (mi_LV Z) (B_X11_readsFunc_66 v1 v2 D) := by
  unfold B_X11_readsFunc_66
  refine Sg.go (pc' := 67) (mi_aload_n dX11_readsFunc_66 rfl) ?_
  refine Sg.callI (pc' := 70) (t := 0) (μ' := m_X11_fine) (args := [(42, 0)]) (mi_invV (n := 0) (r := 40) dX11_readsFunc_67 hC_40 (by omega) rfl rfl wN_X11_fine rfl ⟨by decide, by decide⟩ wL_X11_100 wI_X11_fine wS_X11_fine wB_X11 wC_X11_fine) (fun v hv => C_X11_fine hL D v hv) (Nat.le_of_ble_eq_true rfl) rfl rfl (fun y1 => ?_)
  refine Sg.ite (fun h2 => ?_) (fun h2 => ?_)
  · refine Sg.go (pc' := 74) (mi_ifne_t (tgt := 74) dX11_readsFunc_70 (by decide) h2) ?_
    refine Sg.go (pc' := 75) (mi_aload_n dX11_readsFunc_74 rfl) ?_
    refine Sg.go (pc' := 78) (mi_gfA (t := 47) (v := 0) (r := 40) (k := 12) dX11_readsFunc_75 hC_40 (by decide) rfl wF_X11_28 (by omega) rfl (hL.1 12 (by decide))) ?_
    refine Sg.go (pc' := 80) (mi_bipush (z := 8) dX11_readsFunc_78 rfl) ?_
    refine Sg.go (pc' := 81) (mi_dup2 dX11_readsFunc_80 (show (0 : Nat) ≠ 1 by decide) (show (49 : Nat) ≠ 1 by decide)) ?_
    refine Sg.go (pc' := 82) (mi_iald (n := 9) dX11_readsFunc_81 rfl rfl (by omega) (by decide)) ?_
    refine Sg.go (pc' := 83) (mi_iconst (z := 1) dX11_readsFunc_82 rfl) ?_
    refine Sg.go (pc' := 84) (mi_iload_n dX11_readsFunc_83 rfl) ?_
    refine Sg.go (pc' := 85) (mi_ishl dX11_readsFunc_84) ?_
    refine Sg.go (pc' := 86) (mi_ior dX11_readsFunc_85) ?_
    refine Sg.goM (pc' := 87) (mi_iast (n := 9) dX11_readsFunc_86 rfl rfl (by omega) (by decide)) ?_
    refine Sg.letD (fun D3 hD3 => ?_)
    refine Sg.go (pc' := 88) (mi_aload_n dX11_readsFunc_87 rfl) ?_
    refine Sg.go (pc' := 91) (mi_gfA (t := 50) (v := 0) (r := 40) (k := 15) dX11_readsFunc_88 hC_40 (by decide) rfl wF_X11_39 (by omega) rfl (hL.1 15 (by decide))) ?_
    refine Sg.go (pc' := 93) (mi_bipush (z := 8) dX11_readsFunc_91 rfl) ?_
    refine Sg.go (pc' := 94) (mi_aald (n := 9) (t := 51) (v := 8) dX11_readsFunc_93 rfl hA_50 rfl (by omega) (by decide) rfl (hL.2.2.2.1 _ (show 0 ≤ (8 : Int) ∧ (8 : Int) < 9 by decide).1 (show 0 ≤ (8 : Int) ∧ (8 : Int) < 9 by decide).2)) ?_
    refine Sg.go (pc' := 95) (mi_iload_n dX11_readsFunc_94 rfl) ?_
    refine Sg.go (pc' := 96) (mi_iload_n dX11_readsFunc_95 rfl) ?_
    refine Sg.ck (fun hk4 => ?_)
    refine Sg.goM (pc' := 97) (mi_iast (n := 12) dX11_readsFunc_96 rfl rfl (by omega) hk4) ?_
    refine Sg.letD (fun D5 hD5 => ?_)
    refine Sg.go (pc' := 98) (mi_aload_n dX11_readsFunc_97 rfl) ?_
    refine Sg.go (pc' := 99) (mi_iload_n dX11_readsFunc_98 rfl) ?_
    refine Sg.callV (pc' := 102) (μ' := m_X11_block) (args := [(42, 0), (0, v1)]) (mi_invV (n := 1) (r := 40) dX11_readsFunc_99 hC_40 (by omega) rfl rfl wN_X11_block rfl ⟨by decide, by decide⟩ wL_X11_252 wI_X11_block wS_X11_block wB_X11 wC_X11_block) (fun v hv => C_X11_block hL v1 D5 v hv) (Nat.le_of_ble_eq_true rfl) rfl rfl (fun D6 => ?_)
    exact Sg.ret (mi_return dX11_readsFunc_102 rfl (0, 0))
  · refine Sg.go (pc' := 73) (mi_ifne_f (tgt := 74) dX11_readsFunc_70 (by decide) h2) ?_
    exact Sg.ret (mi_return dX11_readsFunc_73 rfl (0, 0))
def B_X11_readsFunc_41 : Nat → Int → Int → Int → MiD → Option (MiD)
  | 0, _, _, _, _ => none
  | f + 1, v1, v2, v3, D => mi_bi (B_X11_byteAt D v3) fun y1 => if (B_X11_isDigit y1) = 0 then (mi_bi (B_X11_wrong 4 (mi_w (v3 + 1)) D) fun D3 => B_X11_readsFunc_66 v1 v2 D3) else (B_X11_readsFunc_41 f v1 v2 (mi_w (v3 + (-1))) D)
set_option maxRecDepth 20000 in
theorem S_X11_readsFunc_41 {Z : MiZ} (hL : ML Z) : ∀ (f : Nat) (v1 v2 v3 : Int) (D : MiD), Sg m_X11_readsFunc 41 [(42, 0), (0, v1), (0, v2), (0, v3)] [] (D, Z) (mi_LV Z) (B_X11_readsFunc_41 f v1 v2 v3 D) := by
  intro f
  induction f with
  | zero => intros; exact Sg.nope
  | succ f K41 =>
    intro v1 v2 v3 D
    show Sg m_X11_readsFunc 41 [(42, 0), (0, v1), (0, v2), (0, v3)] [] (D, Z) (mi_LV Z) (mi_bi (B_X11_byteAt D v3) fun y1 => if (B_X11_isDigit y1) = 0 then (mi_bi (B_X11_wrong 4 (mi_w (v3 + 1)) D) fun D3 => B_X11_readsFunc_66 v1 v2 D3) else (B_X11_readsFunc_41 f v1 v2 (mi_w (v3 + (-1))) D))
    refine Sg.go (pc' := 42) (mi_aload_n dX11_readsFunc_41 rfl) ?_
    refine Sg.go (pc' := 43) (mi_iload_n dX11_readsFunc_42 rfl) ?_
    refine Sg.callI (pc' := 46) (t := 0) (μ' := m_X11_byteAt) (args := [(42, 0), (0, v3)]) (mi_invV (n := 1) (r := 40) dX11_readsFunc_43 hC_40 (by omega) rfl rfl wN_X11_byteAt rfl ⟨by decide, by decide⟩ wL_X11_90 wI_X11_byteAt wS_X11_byteAt wB_X11 wC_X11_byteAt) (fun v hv => C_X11_byteAt hL v3 D v hv) (Nat.le_of_ble_eq_true rfl) rfl rfl (fun y1 => ?_)
    refine Sg.callP (pc' := 49) (t := 0) (v := (B_X11_isDigit y1)) (μ' := m_X11_isDigit) (args := [(0, y1)]) (mi_invS (n := 1) dX11_readsFunc_46 rfl wN_X11_isDigit rfl ⟨by decide, by decide⟩ wL_X11_108 wT_X11_isDigit wB_X11 wC_X11_isDigit) (C_X11_isDigit hL y1 D) (Nat.le_of_ble_eq_true rfl) rfl rfl ?_
    refine Sg.ite (fun h2 => ?_) (fun h2 => ?_)
    · refine Sg.go (pc' := 58) (mi_ifeq_t (tgt := 58) dX11_readsFunc_49 (by decide) h2) ?_
      refine Sg.go (pc' := 59) (mi_aload_n dX11_readsFunc_58 rfl) ?_
      refine Sg.go (pc' := 60) (mi_iconst (z := 4) dX11_readsFunc_59 rfl) ?_
      refine Sg.go (pc' := 61) (mi_iload_n dX11_readsFunc_60 rfl) ?_
      refine Sg.go (pc' := 62) (mi_iconst (z := 1) dX11_readsFunc_61 rfl) ?_
      refine Sg.go (pc' := 63) (mi_iadd dX11_readsFunc_62) ?_
      refine Sg.callV (pc' := 66) (μ' := m_X11_wrong) (args := [(42, 0), (0, 4), (0, (mi_w (v3 + 1)))]) (mi_invV (n := 2) (r := 40) dX11_readsFunc_63 hC_40 (by omega) rfl rfl wN_X11_wrong rfl ⟨by decide, by decide⟩ wL_X11_112 wI_X11_wrong wS_X11_wrong wB_X11 wC_X11_wrong) (fun v hv => C_X11_wrong hL 4 (mi_w (v3 + 1)) D v hv) (Nat.le_of_ble_eq_true rfl) rfl rfl (fun D3 => ?_)
      refine Sg.go (pc' := 66) (MiStep.weak (ls' := [(42, 0), (0, v1), (0, v2), mi_un]) (mi_wk_y (mi_wk_y (mi_wk_y (mi_wk_n mi_wk_0))))) ?_
      exact S_X11_readsFunc_66 hL v1 v2 D3
    · refine Sg.go (pc' := 52) (mi_ifeq_f (tgt := 58) dX11_readsFunc_49 (by decide) h2) ?_
      refine Sg.go (pc' := 55) (mi_iinc (z := (-1)) (ls1 := [(42, 0), (0, v1), (0, v2), (0, (mi_w (v3 + (-1))))]) dX11_readsFunc_52 (by decide) rfl rfl rfl) ?_
      refine Sg.go (pc' := 41) (mi_goto (tgt := 41) dX11_readsFunc_55 (by decide)) ?_
      exact K41 v1 v2 (mi_w (v3 + (-1))) D
def B_X11_readsFunc (v1 : Int) (D : MiD) : Option (MiD) := mi_b2 (B_X11_here_0 mi_fuel D) fun y1 D2 => mi_b2 (B_X11_number 0 11 D2) fun y3 D4 => mi_bi (B_X11_fine D4) fun y5 => if y5 = 0 then (B_X11_readsFunc_66 v1 y3 D4) else (if (B_X11_isBit (D4 47 0 8) y3) = 0 then (B_X11_readsFunc_66 v1 y3 D4) else (mi_let (mi_w ((D4 40 0 4) - 1)) fun x8 => B_X11_readsFunc_41 mi_fuel v1 y3 x8 D4))
set_option maxRecDepth 20000 in
theorem S_X11_readsFunc {Z : MiZ} (hL : ML Z) (v1 : Int) (D : MiD) : Sg m_X11_readsFunc 0 [(42, 0), (0, v1), mi_un, mi_un] [] (D, Z) (mi_LV Z) (B_X11_readsFunc v1 D) := by
  unfold B_X11_readsFunc
  refine Sg.go (pc' := 1) (mi_aload_n dX11_readsFunc_0 rfl) ?_
  refine Sg.callD (pc' := 4) (t := 0) (μ' := m_X11_here) (args := [(42, 0)]) (mi_invV (n := 0) (r := 40) dX11_readsFunc_1 hC_40 (by omega) rfl rfl wN_X11_here rfl ⟨by decide, by decide⟩ wL_X11_104 wI_X11_here wS_X11_here wB_X11 wC_X11_here) (fun v hv => C_X11_here hL D v hv) (Nat.le_of_ble_eq_true rfl) rfl rfl (fun y1 D2 => ?_)
  refine Sg.go (pc' := 5) (mi_pop dX11_readsFunc_4 (show (0 : Nat) ≠ 1 by decide)) ?_
  refine Sg.go (pc' := 6) (mi_aload_n dX11_readsFunc_5 rfl) ?_
  refine Sg.go (pc' := 7) (mi_iconst (z := 0) dX11_readsFunc_6 rfl) ?_
  refine Sg.go (pc' := 9) (mi_bipush (z := 11) dX11_readsFunc_7 rfl) ?_
  refine Sg.callD (pc' := 12) (t := 0) (μ' := m_X11_number) (args := [(42, 0), (0, 0), (0, 11)]) (mi_invV (n := 2) (r := 40) dX11_readsFunc_9 hC_40 (by omega) rfl rfl wN_X11_number rfl ⟨by decide, by decide⟩ wL_X11_194 wI_X11_number wS_X11_number wB_X11 wC_X11_number) (fun v hv => C_X11_number hL 0 11 D2 v hv) (Nat.le_of_ble_eq_true rfl) rfl rfl (fun y3 D4 => ?_)
  refine Sg.go (pc' := 13) (mi_istore_n (ls1 := [(42, 0), (0, v1), (0, y3), mi_un]) dX11_readsFunc_12 (by decide) rfl) ?_
  refine Sg.go (pc' := 14) (mi_aload_n dX11_readsFunc_13 rfl) ?_
  refine Sg.callI (pc' := 17) (t := 0) (μ' := m_X11_fine) (args := [(42, 0)]) (mi_invV (n := 0) (r := 40) dX11_readsFunc_14 hC_40 (by omega) rfl rfl wN_X11_fine rfl ⟨by decide, by decide⟩ wL_X11_100 wI_X11_fine wS_X11_fine wB_X11 wC_X11_fine) (fun v hv => C_X11_fine hL D4 v hv) (Nat.le_of_ble_eq_true rfl) rfl rfl (fun y5 => ?_)
  refine Sg.ite (fun h6 => ?_) (fun h6 => ?_)
  · refine Sg.go (pc' := 66) (mi_ifeq_t (tgt := 66) dX11_readsFunc_17 (by decide) h6) ?_
    exact S_X11_readsFunc_66 hL v1 y3 D4
  · refine Sg.go (pc' := 20) (mi_ifeq_f (tgt := 66) dX11_readsFunc_17 (by decide) h6) ?_
    refine Sg.go (pc' := 21) (mi_aload_n dX11_readsFunc_20 rfl) ?_
    refine Sg.go (pc' := 24) (mi_gfA (t := 47) (v := 0) (r := 40) (k := 12) dX11_readsFunc_21 hC_40 (by decide) rfl wF_X11_28 (by omega) rfl (hL.1 12 (by decide))) ?_
    refine Sg.go (pc' := 26) (mi_bipush (z := 8) dX11_readsFunc_24 rfl) ?_
    refine Sg.go (pc' := 27) (mi_iald (n := 9) dX11_readsFunc_26 rfl rfl (by omega) (by decide)) ?_
    refine Sg.go (pc' := 28) (mi_iload_n dX11_readsFunc_27 rfl) ?_
    refine Sg.callP (pc' := 31) (t := 0) (v := (B_X11_isBit (D4 47 0 8) y3)) (μ' := m_X11_isBit) (args := [(0, (D4 47 0 8)), (0, y3)]) (mi_invS (n := 2) dX11_readsFunc_28 rfl wN_X11_isBit rfl ⟨by decide, by decide⟩ wL_X11_248 wT_X11_isBit wB_X11 wC_X11_isBit) (C_X11_isBit hL (D4 47 0 8) y3 D4) (Nat.le_of_ble_eq_true rfl) rfl rfl ?_
    refine Sg.ite (fun h7 => ?_) (fun h7 => ?_)
    · refine Sg.go (pc' := 66) (mi_ifeq_t (tgt := 66) dX11_readsFunc_31 (by decide) h7) ?_
      exact S_X11_readsFunc_66 hL v1 y3 D4
    · refine Sg.go (pc' := 34) (mi_ifeq_f (tgt := 66) dX11_readsFunc_31 (by decide) h7) ?_
      refine Sg.go (pc' := 35) (mi_aload_n dX11_readsFunc_34 rfl) ?_
      refine Sg.go (pc' := 38) (mi_gfI (r := 40) (k := 4) dX11_readsFunc_35 hC_40 (by decide) rfl wF_X11_87 (by omega) rfl) ?_
      refine Sg.go (pc' := 39) (mi_iconst (z := 1) dX11_readsFunc_38 rfl) ?_
      refine Sg.go (pc' := 40) (mi_isub dX11_readsFunc_39) ?_
      refine Sg.letI (fun x8 hx8 => ?_)
      refine Sg.go (pc' := 41) (mi_istore_n (ls1 := [(42, 0), (0, v1), (0, y3), (0, x8)]) dX11_readsFunc_40 (by decide) rfl) ?_
      exact S_X11_readsFunc_41 hL mi_fuel v1 y3 x8 D4
theorem C_X11_readsFunc {Z : MiZ} (hL : ML Z) (a1 : Int) (D : MiD) (b : MiD) (hb : B_X11_readsFunc a1 D = some b) : MC m_X11_readsFunc [(42, 0), (0, a1)] (D, Z) ((mi_LV Z) b) := MC.ofSg (L := (mi_LV Z)) (μ := m_X11_readsFunc) (args := [(42, 0), (0, a1)]) (M := (D, Z)) rfl wP_X11 (Nat.le_of_ble_eq_true rfl) (show Sg m_X11_readsFunc 0 [(42, 0), (0, a1), mi_un, mi_un] [] (D, Z) (mi_LV Z) (B_X11_readsFunc a1 D) from S_X11_readsFunc hL a1 D) hb
abbrev m_X11_readsPatch : MiI := (yX11_readsPatch, cX11_readsPatch, 2, none, 11, none)
def B_X11_readsPatch_122 (k86 : Int → MiD → Option (MiD)) (v1 : Int) (D : MiD) : Option (MiD) := mi_bi (B_X11_fine D) fun y1 => if y1 ≠ 0 then (mi_bi (B_X11_skipWord_0 mi_fuel D) fun D3 => mi_bi (B_X11_readsFunc v1 D3) fun D4 => k86 (mi_w (v1 + 1)) D4) else (some D)
set_option maxRecDepth 20000 in
theorem S_X11_readsPatch_122 {Z : MiZ} (hL : ML Z) {k86 : Int → MiD → Option (MiD)} (K86 : ∀ (v1 : Int) (D : MiD), Sg m_X11_readsPatch 86 [(42, 0), (0, v1)] [] (D, Z) (mi_LV Z) (k86 v1 D)) (v1 : Int) (D : MiD) : Sg m_X11_readsPatch 122 [(42, 0), (0, v1)] [] (D, Z) (mi_LV Z) (B_X11_readsPatch_122 k86 v1 D) := by
  unfold B_X11_readsPatch_122
  refine Sg.go (pc' := 123) (mi_aload_n dX11_readsPatch_122 rfl) ?_
  refine Sg.callI (pc' := 126) (t := 0) (μ' := m_X11_fine) (args := [(42, 0)]) (mi_invV (n := 0) (r := 40) dX11_readsPatch_123 hC_40 (by omega) rfl rfl wN_X11_fine rfl ⟨by decide, by decide⟩ wL_X11_100 wI_X11_fine wS_X11_fine wB_X11 wC_X11_fine) (fun v hv => C_X11_fine hL D v hv) (Nat.le_of_ble_eq_true rfl) rfl rfl (fun y1 => ?_)
  refine Sg.ite (fun h2 => ?_) (fun h2 => ?_)
  · refine Sg.go (pc' := 130) (mi_ifne_t (tgt := 130) dX11_readsPatch_126 (by decide) h2) ?_
    refine Sg.go (pc' := 131) (mi_aload_n dX11_readsPatch_130 rfl) ?_
    refine Sg.callV (pc' := 134) (μ' := m_X11_skipWord) (args := [(42, 0)]) (mi_invV (n := 0) (r := 40) dX11_readsPatch_131 hC_40 (by omega) rfl rfl wN_X11_skipWord rfl ⟨by decide, by decide⟩ wL_X11_151 wI_X11_skipWord wS_X11_skipWord wB_X11 wC_X11_skipWord) (fun v hv => C_X11_skipWord hL D v hv) (Nat.le_of_ble_eq_true rfl) rfl rfl (fun D3 => ?_)
    refine Sg.go (pc' := 135) (mi_aload_n dX11_readsPatch_134 rfl) ?_
    refine Sg.go (pc' := 136) (mi_iload_n dX11_readsPatch_135 rfl) ?_
    refine Sg.callV (pc' := 139) (μ' := m_X11_readsFunc) (args := [(42, 0), (0, v1)]) (mi_invV (n := 1) (r := 40) dX11_readsPatch_136 hC_40 (by omega) rfl rfl wN_X11_readsFunc rfl ⟨by decide, by decide⟩ wL_X11_263 wI_X11_readsFunc wS_X11_readsFunc wB_X11 wC_X11_readsFunc) (fun v hv => C_X11_readsFunc hL v1 D3 v hv) (Nat.le_of_ble_eq_true rfl) rfl rfl (fun D4 => ?_)
    refine Sg.go (pc' := 142) (mi_iinc (z := 1) (ls1 := [(42, 0), (0, (mi_w (v1 + 1)))]) dX11_readsPatch_139 (by decide) rfl rfl rfl) ?_
    refine Sg.go (pc' := 86) (mi_goto (tgt := 86) dX11_readsPatch_142 (by decide)) ?_
    exact K86 (mi_w (v1 + 1)) D4
  · refine Sg.go (pc' := 129) (mi_ifne_f (tgt := 130) dX11_readsPatch_126 (by decide) h2) ?_
    exact Sg.ret (mi_return dX11_readsPatch_129 rfl (0, 0))
def B_X11_readsPatch_193 (D : MiD) : Option (MiD) := mi_bi (B_X11_fine D) fun y1 => if y1 = 0 then (some D) else (mi_b2 (B_X11_here_0 mi_fuel D) fun y3 D4 => if y3 = (-1) then (some D4) else (mi_bi (B_X11_wrong 1 (D4 40 0 4) D4) fun D6 => some D6))
set_option maxRecDepth 20000 in
theorem S_X11_readsPatch_193 {Z : MiZ} (hL : ML Z) (D : MiD) : Sg m_X11_readsPatch 193 [(42, 0), mi_un] [] (D, Z) (mi_LV Z) (B_X11_readsPatch_193 D) := by
  unfold B_X11_readsPatch_193
  refine Sg.go (pc' := 194) (mi_aload_n dX11_readsPatch_193 rfl) ?_
  refine Sg.callI (pc' := 197) (t := 0) (μ' := m_X11_fine) (args := [(42, 0)]) (mi_invV (n := 0) (r := 40) dX11_readsPatch_194 hC_40 (by omega) rfl rfl wN_X11_fine rfl ⟨by decide, by decide⟩ wL_X11_100 wI_X11_fine wS_X11_fine wB_X11 wC_X11_fine) (fun v hv => C_X11_fine hL D v hv) (Nat.le_of_ble_eq_true rfl) rfl rfl (fun y1 => ?_)
  refine Sg.ite (fun h2 => ?_) (fun h2 => ?_)
  · refine Sg.go (pc' := 217) (mi_ifeq_t (tgt := 217) dX11_readsPatch_197 (by decide) h2) ?_
    exact Sg.ret (mi_return dX11_readsPatch_217 rfl (0, 0))
  · refine Sg.go (pc' := 200) (mi_ifeq_f (tgt := 217) dX11_readsPatch_197 (by decide) h2) ?_
    refine Sg.go (pc' := 201) (mi_aload_n dX11_readsPatch_200 rfl) ?_
    refine Sg.callD (pc' := 204) (t := 0) (μ' := m_X11_here) (args := [(42, 0)]) (mi_invV (n := 0) (r := 40) dX11_readsPatch_201 hC_40 (by omega) rfl rfl wN_X11_here rfl ⟨by decide, by decide⟩ wL_X11_104 wI_X11_here wS_X11_here wB_X11 wC_X11_here) (fun v hv => C_X11_here hL D v hv) (Nat.le_of_ble_eq_true rfl) rfl rfl (fun y3 D4 => ?_)
    refine Sg.go (pc' := 205) (mi_iconst (z := (-1)) dX11_readsPatch_204 rfl) ?_
    refine Sg.ite (fun h5 => ?_) (fun h5 => ?_)
    · refine Sg.go (pc' := 217) (mi_icmpeq_t (tgt := 217) dX11_readsPatch_205 (by decide) h5) ?_
      exact Sg.ret (mi_return dX11_readsPatch_217 rfl (0, 0))
    · refine Sg.go (pc' := 208) (mi_icmpeq_f (tgt := 217) dX11_readsPatch_205 (by decide) h5) ?_
      refine Sg.go (pc' := 209) (mi_aload_n dX11_readsPatch_208 rfl) ?_
      refine Sg.go (pc' := 210) (mi_iconst (z := 1) dX11_readsPatch_209 rfl) ?_
      refine Sg.go (pc' := 211) (mi_aload_n dX11_readsPatch_210 rfl) ?_
      refine Sg.go (pc' := 214) (mi_gfI (r := 40) (k := 4) dX11_readsPatch_211 hC_40 (by decide) rfl wF_X11_87 (by omega) rfl) ?_
      refine Sg.callV (pc' := 217) (μ' := m_X11_wrong) (args := [(42, 0), (0, 1), (0, (D4 40 0 4))]) (mi_invV (n := 2) (r := 40) dX11_readsPatch_214 hC_40 (by omega) rfl rfl wN_X11_wrong rfl ⟨by decide, by decide⟩ wL_X11_112 wI_X11_wrong wS_X11_wrong wB_X11 wC_X11_wrong) (fun v hv => C_X11_wrong hL 1 (D4 40 0 4) D4 v hv) (Nat.le_of_ble_eq_true rfl) rfl rfl (fun D6 => ?_)
      exact Sg.ret (mi_return dX11_readsPatch_217 rfl (0, 0))
def B_X11_readsPatch_177 (D : MiD) : Option (MiD) := mi_b2 (B_X11_takes 63 D) fun y1 D2 => if y1 = 0 then (B_X11_readsPatch_193 D2) else (mi_bi (B_X11_block 10 D2) fun D4 => B_X11_readsPatch_193 D4)
set_option maxRecDepth 20000 in
theorem S_X11_readsPatch_177 {Z : MiZ} (hL : ML Z) (D : MiD) : Sg m_X11_readsPatch 177 [(42, 0), mi_un] [] (D, Z) (mi_LV Z) (B_X11_readsPatch_177 D) := by
  unfold B_X11_readsPatch_177
  refine Sg.go (pc' := 178) (mi_aload_n dX11_readsPatch_177 rfl) ?_
  refine Sg.go (pc' := 181) (mi_ldcwS (j := 63) (z := 63) dX11_readsPatch_178 rfl rfl (by decide)) ?_
  refine Sg.callD (pc' := 184) (t := 0) (μ' := m_X11_takes) (args := [(42, 0), (29, 63)]) (mi_invV (n := 1) (r := 40) dX11_readsPatch_181 hC_40 (by omega) rfl rfl wN_X11_takes rfl ⟨by decide, by decide⟩ wL_X11_257 wI_X11_takes wS_X11_takes wB_X11 wC_X11_takes) (fun v hv => C_X11_takes hL 63 D (by omega) v hv) (Nat.le_of_ble_eq_true rfl) rfl rfl (fun y1 D2 => ?_)
  refine Sg.ite (fun h3 => ?_) (fun h3 => ?_)
  · refine Sg.go (pc' := 193) (mi_ifeq_t (tgt := 193) dX11_readsPatch_184 (by decide) h3) ?_
    exact S_X11_readsPatch_193 hL D2
  · refine Sg.go (pc' := 187) (mi_ifeq_f (tgt := 193) dX11_readsPatch_184 (by decide) h3) ?_
    refine Sg.go (pc' := 188) (mi_aload_n dX11_readsPatch_187 rfl) ?_
    refine Sg.go (pc' := 190) (mi_bipush (z := 10) dX11_readsPatch_188 rfl) ?_
    refine Sg.callV (pc' := 193) (μ' := m_X11_block) (args := [(42, 0), (0, 10)]) (mi_invV (n := 1) (r := 40) dX11_readsPatch_190 hC_40 (by omega) rfl rfl wN_X11_block rfl ⟨by decide, by decide⟩ wL_X11_252 wI_X11_block wS_X11_block wB_X11 wC_X11_block) (fun v hv => C_X11_block hL 10 D2 v hv) (Nat.le_of_ble_eq_true rfl) rfl rfl (fun D4 => ?_)
    exact S_X11_readsPatch_193 hL D4
def B_X11_readsPatch_161 (D : MiD) : Option (MiD) := mi_b2 (B_X11_takes 62 D) fun y1 D2 => if y1 = 0 then (B_X11_readsPatch_177 D2) else (mi_bi (B_X11_block 9 D2) fun D4 => B_X11_readsPatch_177 D4)
set_option maxRecDepth 20000 in
theorem S_X11_readsPatch_161 {Z : MiZ} (hL : ML Z) (D : MiD) : Sg m_X11_readsPatch 161 [(42, 0), mi_un] [] (D, Z) (mi_LV Z) (B_X11_readsPatch_161 D) := by
  unfold B_X11_readsPatch_161
  refine Sg.go (pc' := 162) (mi_aload_n dX11_readsPatch_161 rfl) ?_
  refine Sg.go (pc' := 165) (mi_ldcwS (j := 62) (z := 62) dX11_readsPatch_162 rfl rfl (by decide)) ?_
  refine Sg.callD (pc' := 168) (t := 0) (μ' := m_X11_takes) (args := [(42, 0), (29, 62)]) (mi_invV (n := 1) (r := 40) dX11_readsPatch_165 hC_40 (by omega) rfl rfl wN_X11_takes rfl ⟨by decide, by decide⟩ wL_X11_257 wI_X11_takes wS_X11_takes wB_X11 wC_X11_takes) (fun v hv => C_X11_takes hL 62 D (by omega) v hv) (Nat.le_of_ble_eq_true rfl) rfl rfl (fun y1 D2 => ?_)
  refine Sg.ite (fun h3 => ?_) (fun h3 => ?_)
  · refine Sg.go (pc' := 177) (mi_ifeq_t (tgt := 177) dX11_readsPatch_168 (by decide) h3) ?_
    exact S_X11_readsPatch_177 hL D2
  · refine Sg.go (pc' := 171) (mi_ifeq_f (tgt := 177) dX11_readsPatch_168 (by decide) h3) ?_
    refine Sg.go (pc' := 172) (mi_aload_n dX11_readsPatch_171 rfl) ?_
    refine Sg.go (pc' := 174) (mi_bipush (z := 9) dX11_readsPatch_172 rfl) ?_
    refine Sg.callV (pc' := 177) (μ' := m_X11_block) (args := [(42, 0), (0, 9)]) (mi_invV (n := 1) (r := 40) dX11_readsPatch_174 hC_40 (by omega) rfl rfl wN_X11_block rfl ⟨by decide, by decide⟩ wL_X11_252 wI_X11_block wS_X11_block wB_X11 wC_X11_block) (fun v hv => C_X11_block hL 9 D2 v hv) (Nat.le_of_ble_eq_true rfl) rfl rfl (fun D4 => ?_)
    exact S_X11_readsPatch_177 hL D4
def B_X11_readsPatch_145 (D : MiD) : Option (MiD) := mi_b2 (B_X11_takes 61 D) fun y1 D2 => if y1 = 0 then (B_X11_readsPatch_161 D2) else (mi_bi (B_X11_block 8 D2) fun D4 => B_X11_readsPatch_161 D4)
set_option maxRecDepth 20000 in
theorem S_X11_readsPatch_145 {Z : MiZ} (hL : ML Z) (D : MiD) : Sg m_X11_readsPatch 145 [(42, 0), mi_un] [] (D, Z) (mi_LV Z) (B_X11_readsPatch_145 D) := by
  unfold B_X11_readsPatch_145
  refine Sg.go (pc' := 146) (mi_aload_n dX11_readsPatch_145 rfl) ?_
  refine Sg.go (pc' := 149) (mi_ldcwS (j := 61) (z := 61) dX11_readsPatch_146 rfl rfl (by decide)) ?_
  refine Sg.callD (pc' := 152) (t := 0) (μ' := m_X11_takes) (args := [(42, 0), (29, 61)]) (mi_invV (n := 1) (r := 40) dX11_readsPatch_149 hC_40 (by omega) rfl rfl wN_X11_takes rfl ⟨by decide, by decide⟩ wL_X11_257 wI_X11_takes wS_X11_takes wB_X11 wC_X11_takes) (fun v hv => C_X11_takes hL 61 D (by omega) v hv) (Nat.le_of_ble_eq_true rfl) rfl rfl (fun y1 D2 => ?_)
  refine Sg.ite (fun h3 => ?_) (fun h3 => ?_)
  · refine Sg.go (pc' := 161) (mi_ifeq_t (tgt := 161) dX11_readsPatch_152 (by decide) h3) ?_
    exact S_X11_readsPatch_161 hL D2
  · refine Sg.go (pc' := 155) (mi_ifeq_f (tgt := 161) dX11_readsPatch_152 (by decide) h3) ?_
    refine Sg.go (pc' := 156) (mi_aload_n dX11_readsPatch_155 rfl) ?_
    refine Sg.go (pc' := 158) (mi_bipush (z := 8) dX11_readsPatch_156 rfl) ?_
    refine Sg.callV (pc' := 161) (μ' := m_X11_block) (args := [(42, 0), (0, 8)]) (mi_invV (n := 1) (r := 40) dX11_readsPatch_158 hC_40 (by omega) rfl rfl wN_X11_block rfl ⟨by decide, by decide⟩ wL_X11_252 wI_X11_block wS_X11_block wB_X11 wC_X11_block) (fun v hv => C_X11_block hL 8 D2 v hv) (Nat.le_of_ble_eq_true rfl) rfl rfl (fun D4 => ?_)
    exact S_X11_readsPatch_161 hL D4
def B_X11_readsPatch_86 : Nat → Int → MiD → Option (MiD)
  | 0, _, _ => none
  | f + 1, v1, D => mi_bi (B_X11_fine D) fun y1 => if y1 = 0 then (B_X11_readsPatch_145 D) else (mi_b2 (B_X11_wordHere D) fun y3 D4 => mi_bi (B_X11_coded D4 60) fun y5 => if (mi_cmp y3 y5) ≠ 0 then (B_X11_readsPatch_145 D4) else (if v1 ≠ 8 then (B_X11_readsPatch_122 (B_X11_readsPatch_86 f) v1 D4) else (mi_bi (B_X11_wrong 3 (D4 40 0 4) D4) fun D8 => B_X11_readsPatch_122 (B_X11_readsPatch_86 f) v1 D8)))
set_option maxRecDepth 20000 in
theorem S_X11_readsPatch_86 {Z : MiZ} (hL : ML Z) : ∀ (f : Nat) (v1 : Int) (D : MiD), Sg m_X11_readsPatch 86 [(42, 0), (0, v1)] [] (D, Z) (mi_LV Z) (B_X11_readsPatch_86 f v1 D) := by
  intro f
  induction f with
  | zero => intros; exact Sg.nope
  | succ f K86 =>
    intro v1 D
    show Sg m_X11_readsPatch 86 [(42, 0), (0, v1)] [] (D, Z) (mi_LV Z) (mi_bi (B_X11_fine D) fun y1 => if y1 = 0 then (B_X11_readsPatch_145 D) else (mi_b2 (B_X11_wordHere D) fun y3 D4 => mi_bi (B_X11_coded D4 60) fun y5 => if (mi_cmp y3 y5) ≠ 0 then (B_X11_readsPatch_145 D4) else (if v1 ≠ 8 then (B_X11_readsPatch_122 (B_X11_readsPatch_86 f) v1 D4) else (mi_bi (B_X11_wrong 3 (D4 40 0 4) D4) fun D8 => B_X11_readsPatch_122 (B_X11_readsPatch_86 f) v1 D8))))
    refine Sg.go (pc' := 87) (mi_aload_n dX11_readsPatch_86 rfl) ?_
    refine Sg.callI (pc' := 90) (t := 0) (μ' := m_X11_fine) (args := [(42, 0)]) (mi_invV (n := 0) (r := 40) dX11_readsPatch_87 hC_40 (by omega) rfl rfl wN_X11_fine rfl ⟨by decide, by decide⟩ wL_X11_100 wI_X11_fine wS_X11_fine wB_X11 wC_X11_fine) (fun v hv => C_X11_fine hL D v hv) (Nat.le_of_ble_eq_true rfl) rfl rfl (fun y1 => ?_)
    refine Sg.ite (fun h2 => ?_) (fun h2 => ?_)
    · refine Sg.go (pc' := 145) (mi_ifeq_t (tgt := 145) dX11_readsPatch_90 (by decide) h2) ?_
      refine Sg.go (pc' := 145) (MiStep.weak (ls' := [(42, 0), mi_un]) (mi_wk_y (mi_wk_n mi_wk_0))) ?_
      exact S_X11_readsPatch_145 hL D
    · refine Sg.go (pc' := 93) (mi_ifeq_f (tgt := 145) dX11_readsPatch_90 (by decide) h2) ?_
      refine Sg.go (pc' := 94) (mi_aload_n dX11_readsPatch_93 rfl) ?_
      refine Sg.callD (pc' := 97) (t := 1) (μ' := m_X11_wordHere) (args := [(42, 0)]) (mi_invV (n := 0) (r := 40) dX11_readsPatch_94 hC_40 (by omega) rfl rfl wN_X11_wordHere rfl ⟨by decide, by decide⟩ wL_X11_143 wI_X11_wordHere wS_X11_wordHere wB_X11 wC_X11_wordHere) (fun v hv => C_X11_wordHere hL D v hv) (Nat.le_of_ble_eq_true rfl) rfl rfl (fun y3 D4 => ?_)
      refine Sg.go (pc' := 100) (mi_ldcwS (j := 60) (z := 60) dX11_readsPatch_97 rfl rfl (by decide)) ?_
      refine Sg.callI (pc' := 103) (t := 1) (μ' := m_X11_coded) (args := [(29, 60)]) (mi_invS (n := 1) dX11_readsPatch_100 rfl wN_X11_coded rfl ⟨by decide, by decide⟩ wL_X11_147 wT_X11_coded wB_X11 wC_X11_coded) (fun v hv => C_X11_coded hL 60 D4 (by omega) v hv) (Nat.le_of_ble_eq_true rfl) rfl rfl (fun y5 => ?_)
      refine Sg.go (pc' := 104) (mi_lcmp dX11_readsPatch_103) ?_
      refine Sg.ite (fun h6 => ?_) (fun h6 => ?_)
      · refine Sg.go (pc' := 145) (mi_ifne_t (tgt := 145) dX11_readsPatch_104 (by decide) h6) ?_
        refine Sg.go (pc' := 145) (MiStep.weak (ls' := [(42, 0), mi_un]) (mi_wk_y (mi_wk_n mi_wk_0))) ?_
        exact S_X11_readsPatch_145 hL D4
      · refine Sg.go (pc' := 107) (mi_ifne_f (tgt := 145) dX11_readsPatch_104 (by decide) h6) ?_
        refine Sg.go (pc' := 108) (mi_iload_n dX11_readsPatch_107 rfl) ?_
        refine Sg.go (pc' := 110) (mi_bipush (z := 8) dX11_readsPatch_108 rfl) ?_
        refine Sg.ite (fun h7 => ?_) (fun h7 => ?_)
        · refine Sg.go (pc' := 122) (mi_icmpne_t (tgt := 122) dX11_readsPatch_110 (by decide) h7) ?_
          exact S_X11_readsPatch_122 hL K86 v1 D4
        · refine Sg.go (pc' := 113) (mi_icmpne_f (tgt := 122) dX11_readsPatch_110 (by decide) h7) ?_
          refine Sg.go (pc' := 114) (mi_aload_n dX11_readsPatch_113 rfl) ?_
          refine Sg.go (pc' := 115) (mi_iconst (z := 3) dX11_readsPatch_114 rfl) ?_
          refine Sg.go (pc' := 116) (mi_aload_n dX11_readsPatch_115 rfl) ?_
          refine Sg.go (pc' := 119) (mi_gfI (r := 40) (k := 4) dX11_readsPatch_116 hC_40 (by decide) rfl wF_X11_87 (by omega) rfl) ?_
          refine Sg.callV (pc' := 122) (μ' := m_X11_wrong) (args := [(42, 0), (0, 3), (0, (D4 40 0 4))]) (mi_invV (n := 2) (r := 40) dX11_readsPatch_119 hC_40 (by omega) rfl rfl wN_X11_wrong rfl ⟨by decide, by decide⟩ wL_X11_112 wI_X11_wrong wS_X11_wrong wB_X11 wC_X11_wrong) (fun v hv => C_X11_wrong hL 3 (D4 40 0 4) D4 v hv) (Nat.le_of_ble_eq_true rfl) rfl rfl (fun D8 => ?_)
          exact S_X11_readsPatch_122 hL K86 v1 D8
def B_X11_readsPatch_32 : Nat → Int → MiD → Option (MiD)
  | 0, _, _ => none
  | f + 1, v1, D => if 10 < v1 then (mi_bi (B_X11_fine D) fun y2 => if y2 = 0 then (B_X11_readsPatch_86 mi_fuel 0 D) else (mi_b2 (B_X11_wordHere D) fun y4 D5 => mi_bi (B_X11_coded D5 60) fun y6 => if (mi_cmp y4 y6) = 0 then (B_X11_readsPatch_86 mi_fuel 0 D5) else (mi_bi (B_X11_wrong 1 (D5 40 0 4) D5) fun D8 => B_X11_readsPatch_86 mi_fuel 0 D8))) else (if 0 ≤ (mi_w (100 + v1)) ∧ (mi_w (100 + v1)) < 111 then (mi_let (mi_st D 43 0 (mi_w (100 + v1)) 0) fun D10 => B_X11_readsPatch_32 f (mi_w (v1 + 1)) D10) else none)
set_option maxRecDepth 20000 in
theorem S_X11_readsPatch_32 {Z : MiZ} (hL : ML Z) : ∀ (f : Nat) (v1 : Int) (D : MiD), Sg m_X11_readsPatch 32 [(42, 0), (0, v1)] [] (D, Z) (mi_LV Z) (B_X11_readsPatch_32 f v1 D) := by
  intro f
  induction f with
  | zero => intros; exact Sg.nope
  | succ f K32 =>
    intro v1 D
    show Sg m_X11_readsPatch 32 [(42, 0), (0, v1)] [] (D, Z) (mi_LV Z) (if 10 < v1 then (mi_bi (B_X11_fine D) fun y2 => if y2 = 0 then (B_X11_readsPatch_86 mi_fuel 0 D) else (mi_b2 (B_X11_wordHere D) fun y4 D5 => mi_bi (B_X11_coded D5 60) fun y6 => if (mi_cmp y4 y6) = 0 then (B_X11_readsPatch_86 mi_fuel 0 D5) else (mi_bi (B_X11_wrong 1 (D5 40 0 4) D5) fun D8 => B_X11_readsPatch_86 mi_fuel 0 D8))) else (if 0 ≤ (mi_w (100 + v1)) ∧ (mi_w (100 + v1)) < 111 then (mi_let (mi_st D 43 0 (mi_w (100 + v1)) 0) fun D10 => B_X11_readsPatch_32 f (mi_w (v1 + 1)) D10) else none))
    refine Sg.go (pc' := 33) (mi_iload_n dX11_readsPatch_32 rfl) ?_
    refine Sg.go (pc' := 35) (mi_bipush (z := 10) dX11_readsPatch_33 rfl) ?_
    refine Sg.ite (fun h1 => ?_) (fun h1 => ?_)
    · refine Sg.go (pc' := 54) (mi_icmpgt_t (tgt := 54) dX11_readsPatch_35 (by decide) h1) ?_
      refine Sg.go (pc' := 55) (mi_iconst (z := 0) dX11_readsPatch_54 rfl) ?_
      refine Sg.go (pc' := 56) (mi_istore_n (ls1 := [(42, 0), (0, 0)]) dX11_readsPatch_55 (by decide) rfl) ?_
      refine Sg.go (pc' := 57) (mi_aload_n dX11_readsPatch_56 rfl) ?_
      refine Sg.callI (pc' := 60) (t := 0) (μ' := m_X11_fine) (args := [(42, 0)]) (mi_invV (n := 0) (r := 40) dX11_readsPatch_57 hC_40 (by omega) rfl rfl wN_X11_fine rfl ⟨by decide, by decide⟩ wL_X11_100 wI_X11_fine wS_X11_fine wB_X11 wC_X11_fine) (fun v hv => C_X11_fine hL D v hv) (Nat.le_of_ble_eq_true rfl) rfl rfl (fun y2 => ?_)
      refine Sg.ite (fun h3 => ?_) (fun h3 => ?_)
      · refine Sg.go (pc' := 86) (mi_ifeq_t (tgt := 86) dX11_readsPatch_60 (by decide) h3) ?_
        exact S_X11_readsPatch_86 hL mi_fuel 0 D
      · refine Sg.go (pc' := 63) (mi_ifeq_f (tgt := 86) dX11_readsPatch_60 (by decide) h3) ?_
        refine Sg.go (pc' := 64) (mi_aload_n dX11_readsPatch_63 rfl) ?_
        refine Sg.callD (pc' := 67) (t := 1) (μ' := m_X11_wordHere) (args := [(42, 0)]) (mi_invV (n := 0) (r := 40) dX11_readsPatch_64 hC_40 (by omega) rfl rfl wN_X11_wordHere rfl ⟨by decide, by decide⟩ wL_X11_143 wI_X11_wordHere wS_X11_wordHere wB_X11 wC_X11_wordHere) (fun v hv => C_X11_wordHere hL D v hv) (Nat.le_of_ble_eq_true rfl) rfl rfl (fun y4 D5 => ?_)
        refine Sg.go (pc' := 70) (mi_ldcwS (j := 60) (z := 60) dX11_readsPatch_67 rfl rfl (by decide)) ?_
        refine Sg.callI (pc' := 73) (t := 1) (μ' := m_X11_coded) (args := [(29, 60)]) (mi_invS (n := 1) dX11_readsPatch_70 rfl wN_X11_coded rfl ⟨by decide, by decide⟩ wL_X11_147 wT_X11_coded wB_X11 wC_X11_coded) (fun v hv => C_X11_coded hL 60 D5 (by omega) v hv) (Nat.le_of_ble_eq_true rfl) rfl rfl (fun y6 => ?_)
        refine Sg.go (pc' := 74) (mi_lcmp dX11_readsPatch_73) ?_
        refine Sg.ite (fun h7 => ?_) (fun h7 => ?_)
        · refine Sg.go (pc' := 86) (mi_ifeq_t (tgt := 86) dX11_readsPatch_74 (by decide) h7) ?_
          exact S_X11_readsPatch_86 hL mi_fuel 0 D5
        · refine Sg.go (pc' := 77) (mi_ifeq_f (tgt := 86) dX11_readsPatch_74 (by decide) h7) ?_
          refine Sg.go (pc' := 78) (mi_aload_n dX11_readsPatch_77 rfl) ?_
          refine Sg.go (pc' := 79) (mi_iconst (z := 1) dX11_readsPatch_78 rfl) ?_
          refine Sg.go (pc' := 80) (mi_aload_n dX11_readsPatch_79 rfl) ?_
          refine Sg.go (pc' := 83) (mi_gfI (r := 40) (k := 4) dX11_readsPatch_80 hC_40 (by decide) rfl wF_X11_87 (by omega) rfl) ?_
          refine Sg.callV (pc' := 86) (μ' := m_X11_wrong) (args := [(42, 0), (0, 1), (0, (D5 40 0 4))]) (mi_invV (n := 2) (r := 40) dX11_readsPatch_83 hC_40 (by omega) rfl rfl wN_X11_wrong rfl ⟨by decide, by decide⟩ wL_X11_112 wI_X11_wrong wS_X11_wrong wB_X11 wC_X11_wrong) (fun v hv => C_X11_wrong hL 1 (D5 40 0 4) D5 v hv) (Nat.le_of_ble_eq_true rfl) rfl rfl (fun D8 => ?_)
          exact S_X11_readsPatch_86 hL mi_fuel 0 D8
    · refine Sg.go (pc' := 38) (mi_icmpgt_f (tgt := 54) dX11_readsPatch_35 (by decide) h1) ?_
      refine Sg.go (pc' := 39) (mi_aload_n dX11_readsPatch_38 rfl) ?_
      refine Sg.go (pc' := 42) (mi_gfA (t := 43) (v := 0) (r := 40) (k := 9) dX11_readsPatch_39 hC_40 (by decide) rfl wF_X11_20 (by omega) rfl (hL.1 9 (by decide))) ?_
      refine Sg.go (pc' := 44) (mi_bipush (z := 100) dX11_readsPatch_42 rfl) ?_
      refine Sg.go (pc' := 45) (mi_iload_n dX11_readsPatch_44 rfl) ?_
      refine Sg.go (pc' := 46) (mi_iadd dX11_readsPatch_45) ?_
      refine Sg.go (pc' := 47) (mi_iconst (z := 0) dX11_readsPatch_46 rfl) ?_
      refine Sg.ck (fun hk9 => ?_)
      refine Sg.goM (pc' := 48) (mi_iast (n := 111) dX11_readsPatch_47 rfl rfl (by omega) hk9) ?_
      refine Sg.letD (fun D10 hD10 => ?_)
      refine Sg.go (pc' := 51) (mi_iinc (z := 1) (ls1 := [(42, 0), (0, (mi_w (v1 + 1)))]) dX11_readsPatch_48 (by decide) rfl rfl rfl) ?_
      refine Sg.go (pc' := 32) (mi_goto (tgt := 32) dX11_readsPatch_51 (by decide)) ?_
      exact K32 (mi_w (v1 + 1)) D10
def B_X11_readsPatch_28 (s1 : Int) (s2 : Int) (D : MiD) : Option (MiD) := if 0 ≤ s1 ∧ s1 < 9 then (mi_let (mi_st D 48 0 s1 s2) fun D2 => B_X11_readsPatch_32 mi_fuel 8 D2) else none
set_option maxRecDepth 20000 in
theorem S_X11_readsPatch_28 {Z : MiZ} (hL : ML Z) (s1 s2 : Int) (D : MiD) : Sg m_X11_readsPatch 28 [(42, 0), mi_un] [(0, s2), (0, s1), (50, 0)] (D, Z) (mi_LV Z) (B_X11_readsPatch_28 s1 s2 D) := by
  unfold B_X11_readsPatch_28
  refine Sg.ck (fun hk1 => ?_)
  refine Sg.goM (pc' := 29) (mi_iast (n := 9) dX11_readsPatch_28 rfl rfl (by omega) hk1) ?_
  refine Sg.letD (fun D2 hD2 => ?_)
  refine Sg.go (pc' := 31) (mi_bipush (z := 8) dX11_readsPatch_29 rfl) ?_
  refine Sg.go (pc' := 32) (mi_istore_n (ls1 := [(42, 0), (0, 8)]) dX11_readsPatch_31 (by decide) rfl) ?_
  exact S_X11_readsPatch_32 hL mi_fuel 8 D2
def B_X11_readsPatch (D : MiD) : Option (MiD) := mi_let (mi_st D 47 0 8 0) fun D1 => mi_b2 (B_X11_takes 59 D1) fun y2 D3 => if y2 = 0 then (B_X11_readsPatch_28 8 0 D3) else (B_X11_readsPatch_28 8 1 D3)
set_option maxRecDepth 20000 in
theorem S_X11_readsPatch {Z : MiZ} (hL : ML Z) (D : MiD) : Sg m_X11_readsPatch 0 [(42, 0), mi_un] [] (D, Z) (mi_LV Z) (B_X11_readsPatch D) := by
  unfold B_X11_readsPatch
  refine Sg.go (pc' := 1) (mi_aload_n dX11_readsPatch_0 rfl) ?_
  refine Sg.go (pc' := 4) (mi_gfA (t := 47) (v := 0) (r := 40) (k := 12) dX11_readsPatch_1 hC_40 (by decide) rfl wF_X11_28 (by omega) rfl (hL.1 12 (by decide))) ?_
  refine Sg.go (pc' := 6) (mi_bipush (z := 8) dX11_readsPatch_4 rfl) ?_
  refine Sg.go (pc' := 7) (mi_iconst (z := 0) dX11_readsPatch_6 rfl) ?_
  refine Sg.goM (pc' := 8) (mi_iast (n := 9) dX11_readsPatch_7 rfl rfl (by omega) (by decide)) ?_
  refine Sg.letD (fun D1 hD1 => ?_)
  refine Sg.go (pc' := 9) (mi_aload_n dX11_readsPatch_8 rfl) ?_
  refine Sg.go (pc' := 12) (mi_gfA (t := 48) (v := 0) (r := 40) (k := 13) dX11_readsPatch_9 hC_40 (by decide) rfl wF_X11_31 (by omega) rfl (hL.1 13 (by decide))) ?_
  refine Sg.go (pc' := 14) (mi_bipush (z := 8) dX11_readsPatch_12 rfl) ?_
  refine Sg.go (pc' := 15) (mi_aload_n dX11_readsPatch_14 rfl) ?_
  refine Sg.go (pc' := 17) (mi_ldcS (j := 59) (z := 59) dX11_readsPatch_15 rfl rfl (by decide)) ?_
  refine Sg.callD (pc' := 20) (t := 0) (μ' := m_X11_takes) (args := [(42, 0), (29, 59)]) (mi_invV (n := 1) (r := 40) dX11_readsPatch_17 hC_40 (by omega) rfl rfl wN_X11_takes rfl ⟨by decide, by decide⟩ wL_X11_257 wI_X11_takes wS_X11_takes wB_X11 wC_X11_takes) (fun v hv => C_X11_takes hL 59 D1 (by omega) v hv) (Nat.le_of_ble_eq_true rfl) rfl rfl (fun y2 D3 => ?_)
  refine Sg.ite (fun h4 => ?_) (fun h4 => ?_)
  · refine Sg.go (pc' := 27) (mi_ifeq_t (tgt := 27) dX11_readsPatch_20 (by decide) h4) ?_
    refine Sg.go (pc' := 28) (mi_iconst (z := 0) dX11_readsPatch_27 rfl) ?_
    exact S_X11_readsPatch_28 hL 8 0 D3
  · refine Sg.go (pc' := 23) (mi_ifeq_f (tgt := 27) dX11_readsPatch_20 (by decide) h4) ?_
    refine Sg.go (pc' := 24) (mi_iconst (z := 1) dX11_readsPatch_23 rfl) ?_
    refine Sg.go (pc' := 28) (mi_goto (tgt := 28) dX11_readsPatch_24 (by decide)) ?_
    exact S_X11_readsPatch_28 hL 8 1 D3
theorem C_X11_readsPatch {Z : MiZ} (hL : ML Z) (D : MiD) (b : MiD) (hb : B_X11_readsPatch D = some b) : MC m_X11_readsPatch [(42, 0)] (D, Z) ((mi_LV Z) b) := MC.ofSg (L := (mi_LV Z)) (μ := m_X11_readsPatch) (args := [(42, 0)]) (M := (D, Z)) rfl wP_X11 (Nat.le_of_ble_eq_true rfl) (show Sg m_X11_readsPatch 0 [(42, 0), mi_un] [] (D, Z) (mi_LV Z) (B_X11_readsPatch D) from S_X11_readsPatch hL D) hb
abbrev m_X11_patch : MiI := (yX11_patch, cX11_patch, 4, (some .int), 12, none)
def B_X11_patch_192 : Nat → Int → Int → MiD → Option (Int × MiD)
  | 0, _, _, _ => none
  | f + 1, v2, v3, D => if 10 < v3 then (mi_let (mi_st D 40 0 11 (mi_w ((D 40 0 11) + 1))) fun D2 => mi_b2 (B_X11_ends v2 D2) fun y3 D4 => some (y3, D4)) else (mi_bi (B_X11_copiesCode (mi_w (100 + v3)) (B_X11_codeAt v2 v3) D) fun D5 => B_X11_patch_192 f v2 (mi_w (v3 + 1)) D5)
set_option maxRecDepth 20000 in
theorem S_X11_patch_192 {Z : MiZ} (hL : ML Z) : ∀ (f : Nat) (v2 v3 : Int) (D : MiD), Sg m_X11_patch 192 [(42, 0), mi_un, (0, v2), (0, v3)] [] (D, Z) (mi_LD 0 Z) (B_X11_patch_192 f v2 v3 D) := by
  intro f
  induction f with
  | zero => intros; exact Sg.nope
  | succ f K192 =>
    intro v2 v3 D
    show Sg m_X11_patch 192 [(42, 0), mi_un, (0, v2), (0, v3)] [] (D, Z) (mi_LD 0 Z) (if 10 < v3 then (mi_let (mi_st D 40 0 11 (mi_w ((D 40 0 11) + 1))) fun D2 => mi_b2 (B_X11_ends v2 D2) fun y3 D4 => some (y3, D4)) else (mi_bi (B_X11_copiesCode (mi_w (100 + v3)) (B_X11_codeAt v2 v3) D) fun D5 => B_X11_patch_192 f v2 (mi_w (v3 + 1)) D5))
    refine Sg.go (pc' := 193) (mi_iload_n dX11_patch_192 rfl) ?_
    refine Sg.go (pc' := 195) (mi_bipush (z := 10) dX11_patch_193 rfl) ?_
    refine Sg.ite (fun h1 => ?_) (fun h1 => ?_)
    · refine Sg.go (pc' := 217) (mi_icmpgt_t (tgt := 217) dX11_patch_195 (by decide) h1) ?_
      refine Sg.go (pc' := 218) (mi_aload_n dX11_patch_217 rfl) ?_
      refine Sg.go (pc' := 219) (mi_dup dX11_patch_218 (show (42 : Nat) ≠ 1 by decide)) ?_
      refine Sg.go (pc' := 222) (mi_gfI (r := 40) (k := 11) dX11_patch_219 hC_40 (by decide) rfl wF_X11_272 (by omega) rfl) ?_
      refine Sg.go (pc' := 223) (mi_iconst (z := 1) dX11_patch_222 rfl) ?_
      refine Sg.go (pc' := 224) (mi_iadd dX11_patch_223) ?_
      refine Sg.goM (pc' := 227) (mi_pfD (r := 40) (k := 11) (t := 0) dX11_patch_224 hC_40 (by decide) rfl rfl wF_X11_272 (by omega) rfl (by decide) (Or.inl ⟨rfl, rfl⟩)) ?_
      refine Sg.letD (fun D2 hD2 => ?_)
      refine Sg.go (pc' := 228) (mi_aload_n dX11_patch_227 rfl) ?_
      refine Sg.go (pc' := 229) (mi_iload_n dX11_patch_228 rfl) ?_
      refine Sg.callD (pc' := 232) (t := 0) (μ' := m_X11_ends) (args := [(42, 0), (0, v2)]) (mi_invV (n := 1) (r := 40) dX11_patch_229 hC_40 (by omega) rfl rfl wN_X11_ends rfl ⟨by decide, by decide⟩ wL_X11_245 wI_X11_ends wS_X11_ends wB_X11 wC_X11_ends) (fun v hv => C_X11_ends hL v2 D2 v hv) (Nat.le_of_ble_eq_true rfl) rfl rfl (fun y3 D4 => ?_)
      exact Sg.ret (mi_ireturn dX11_patch_232 rfl (Or.inl rfl))
    · refine Sg.go (pc' := 198) (mi_icmpgt_f (tgt := 217) dX11_patch_195 (by decide) h1) ?_
      refine Sg.go (pc' := 199) (mi_aload_n dX11_patch_198 rfl) ?_
      refine Sg.go (pc' := 201) (mi_bipush (z := 100) dX11_patch_199 rfl) ?_
      refine Sg.go (pc' := 202) (mi_iload_n dX11_patch_201 rfl) ?_
      refine Sg.go (pc' := 203) (mi_iadd dX11_patch_202) ?_
      refine Sg.go (pc' := 204) (mi_iload_n dX11_patch_203 rfl) ?_
      refine Sg.go (pc' := 205) (mi_iload_n dX11_patch_204 rfl) ?_
      refine Sg.callP (pc' := 208) (t := 0) (v := (B_X11_codeAt v2 v3)) (μ' := m_X11_codeAt) (args := [(0, v2), (0, v3)]) (mi_invS (n := 2) dX11_patch_205 rfl wN_X11_codeAt rfl ⟨by decide, by decide⟩ wL_X11_278 wT_X11_codeAt wB_X11 wC_X11_codeAt) (C_X11_codeAt hL v2 v3 D) (Nat.le_of_ble_eq_true rfl) rfl rfl ?_
      refine Sg.callV (pc' := 211) (μ' := m_X11_copiesCode) (args := [(42, 0), (0, (mi_w (100 + v3))), (0, (B_X11_codeAt v2 v3))]) (mi_invV (n := 2) (r := 40) dX11_patch_208 hC_40 (by omega) rfl rfl wN_X11_copiesCode rfl ⟨by decide, by decide⟩ wL_X11_242 wI_X11_copiesCode wS_X11_copiesCode wB_X11 wC_X11_copiesCode) (fun v hv => C_X11_copiesCode hL (mi_w (100 + v3)) (B_X11_codeAt v2 v3) D v hv) (Nat.le_of_ble_eq_true rfl) rfl rfl (fun D5 => ?_)
      refine Sg.go (pc' := 214) (mi_iinc (z := 1) (ls1 := [(42, 0), mi_un, (0, v2), (0, (mi_w (v3 + 1)))]) dX11_patch_211 (by decide) rfl rfl rfl) ?_
      refine Sg.go (pc' := 192) (mi_goto (tgt := 192) dX11_patch_214 (by decide)) ?_
      exact K192 v2 (mi_w (v3 + 1)) D5
def B_X11_patch_111 : Nat → Int → Int → MiD → Option (Int × MiD)
  | 0, _, _, _ => none
  | f + 1, v2, v3, D => if 12 ≤ v3 then (B_X11_patch_192 mi_fuel v2 8 D) else (if 0 ≤ v2 ∧ v2 < 9 then (if (B_X11_isBit (D 47 0 v2) v3) ≠ 0 then (if 0 ≤ v3 ∧ v3 < 12 then (mi_bi (B_X11_copiesCode (mi_w (100 + (D 51 8 v3))) (B_X11_codeAt v2 (D 51 8 v3)) D) fun D5 => mi_let (mi_st D5 51 v2 v3 (B_X11_codeAt v2 (D5 51 8 v3))) fun D6 => B_X11_patch_111 f v2 (mi_w (v3 + 1)) D6) else none) else (B_X11_patch_111 f v2 (mi_w (v3 + 1)) D)) else none)
set_option maxRecDepth 20000 in
theorem S_X11_patch_111 {Z : MiZ} (hL : ML Z) : ∀ (f : Nat) (v2 v3 : Int) (D : MiD), Sg m_X11_patch 111 [(42, 0), mi_un, (0, v2), (0, v3)] [] (D, Z) (mi_LD 0 Z) (B_X11_patch_111 f v2 v3 D) := by
  intro f
  induction f with
  | zero => intros; exact Sg.nope
  | succ f K111 =>
    intro v2 v3 D
    show Sg m_X11_patch 111 [(42, 0), mi_un, (0, v2), (0, v3)] [] (D, Z) (mi_LD 0 Z) (if 12 ≤ v3 then (B_X11_patch_192 mi_fuel v2 8 D) else (if 0 ≤ v2 ∧ v2 < 9 then (if (B_X11_isBit (D 47 0 v2) v3) ≠ 0 then (if 0 ≤ v3 ∧ v3 < 12 then (mi_bi (B_X11_copiesCode (mi_w (100 + (D 51 8 v3))) (B_X11_codeAt v2 (D 51 8 v3)) D) fun D5 => mi_let (mi_st D5 51 v2 v3 (B_X11_codeAt v2 (D5 51 8 v3))) fun D6 => B_X11_patch_111 f v2 (mi_w (v3 + 1)) D6) else none) else (B_X11_patch_111 f v2 (mi_w (v3 + 1)) D)) else none))
    refine Sg.go (pc' := 112) (mi_iload_n dX11_patch_111 rfl) ?_
    refine Sg.go (pc' := 114) (mi_bipush (z := 12) dX11_patch_112 rfl) ?_
    refine Sg.ite (fun h1 => ?_) (fun h1 => ?_)
    · refine Sg.go (pc' := 189) (mi_icmpge_t (tgt := 189) dX11_patch_114 (by decide) h1) ?_
      refine Sg.go (pc' := 191) (mi_bipush (z := 8) dX11_patch_189 rfl) ?_
      refine Sg.go (pc' := 192) (mi_istore_n (ls1 := [(42, 0), mi_un, (0, v2), (0, 8)]) dX11_patch_191 (by decide) rfl) ?_
      exact S_X11_patch_192 hL mi_fuel v2 8 D
    · refine Sg.go (pc' := 117) (mi_icmpge_f (tgt := 189) dX11_patch_114 (by decide) h1) ?_
      refine Sg.go (pc' := 118) (mi_aload_n dX11_patch_117 rfl) ?_
      refine Sg.go (pc' := 121) (mi_gfA (t := 47) (v := 0) (r := 40) (k := 12) dX11_patch_118 hC_40 (by decide) rfl wF_X11_28 (by omega) rfl (hL.1 12 (by decide))) ?_
      refine Sg.go (pc' := 122) (mi_iload_n dX11_patch_121 rfl) ?_
      refine Sg.ck (fun hk2 => ?_)
      refine Sg.go (pc' := 123) (mi_iald (n := 9) dX11_patch_122 rfl rfl (by omega) hk2) ?_
      refine Sg.go (pc' := 124) (mi_iload_n dX11_patch_123 rfl) ?_
      refine Sg.callP (pc' := 127) (t := 0) (v := (B_X11_isBit (D 47 0 v2) v3)) (μ' := m_X11_isBit) (args := [(0, (D 47 0 v2)), (0, v3)]) (mi_invS (n := 2) dX11_patch_124 rfl wN_X11_isBit rfl ⟨by decide, by decide⟩ wL_X11_248 wT_X11_isBit wB_X11 wC_X11_isBit) (C_X11_isBit hL (D 47 0 v2) v3 D) (Nat.le_of_ble_eq_true rfl) rfl rfl ?_
      refine Sg.ite (fun h3 => ?_) (fun h3 => ?_)
      · refine Sg.go (pc' := 133) (mi_ifne_t (tgt := 133) dX11_patch_127 (by decide) h3) ?_
        refine Sg.go (pc' := 134) (mi_aload_n dX11_patch_133 rfl) ?_
        refine Sg.go (pc' := 136) (mi_bipush (z := 100) dX11_patch_134 rfl) ?_
        refine Sg.go (pc' := 137) (mi_aload_n dX11_patch_136 rfl) ?_
        refine Sg.go (pc' := 140) (mi_gfA (t := 50) (v := 0) (r := 40) (k := 15) dX11_patch_137 hC_40 (by decide) rfl wF_X11_39 (by omega) rfl (hL.1 15 (by decide))) ?_
        refine Sg.go (pc' := 142) (mi_bipush (z := 8) dX11_patch_140 rfl) ?_
        refine Sg.go (pc' := 143) (mi_aald (n := 9) (t := 51) (v := 8) dX11_patch_142 rfl hA_50 rfl (by omega) (by decide) rfl (hL.2.2.2.1 _ (show 0 ≤ (8 : Int) ∧ (8 : Int) < 9 by decide).1 (show 0 ≤ (8 : Int) ∧ (8 : Int) < 9 by decide).2)) ?_
        refine Sg.go (pc' := 144) (mi_iload_n dX11_patch_143 rfl) ?_
        refine Sg.ck (fun hk4 => ?_)
        refine Sg.go (pc' := 145) (mi_iald (n := 12) dX11_patch_144 rfl rfl (by omega) hk4) ?_
        refine Sg.go (pc' := 146) (mi_iadd dX11_patch_145) ?_
        refine Sg.go (pc' := 147) (mi_iload_n dX11_patch_146 rfl) ?_
        refine Sg.go (pc' := 148) (mi_aload_n dX11_patch_147 rfl) ?_
        refine Sg.go (pc' := 151) (mi_gfA (t := 50) (v := 0) (r := 40) (k := 15) dX11_patch_148 hC_40 (by decide) rfl wF_X11_39 (by omega) rfl (hL.1 15 (by decide))) ?_
        refine Sg.go (pc' := 153) (mi_bipush (z := 8) dX11_patch_151 rfl) ?_
        refine Sg.go (pc' := 154) (mi_aald (n := 9) (t := 51) (v := 8) dX11_patch_153 rfl hA_50 rfl (by omega) (by decide) rfl (hL.2.2.2.1 _ (show 0 ≤ (8 : Int) ∧ (8 : Int) < 9 by decide).1 (show 0 ≤ (8 : Int) ∧ (8 : Int) < 9 by decide).2)) ?_
        refine Sg.go (pc' := 155) (mi_iload_n dX11_patch_154 rfl) ?_
        refine Sg.go (pc' := 156) (mi_iald (n := 12) dX11_patch_155 rfl rfl (by omega) hk4) ?_
        refine Sg.callP (pc' := 159) (t := 0) (v := (B_X11_codeAt v2 (D 51 8 v3))) (μ' := m_X11_codeAt) (args := [(0, v2), (0, (D 51 8 v3))]) (mi_invS (n := 2) dX11_patch_156 rfl wN_X11_codeAt rfl ⟨by decide, by decide⟩ wL_X11_278 wT_X11_codeAt wB_X11 wC_X11_codeAt) (C_X11_codeAt hL v2 (D 51 8 v3) D) (Nat.le_of_ble_eq_true rfl) rfl rfl ?_
        refine Sg.callV (pc' := 162) (μ' := m_X11_copiesCode) (args := [(42, 0), (0, (mi_w (100 + (D 51 8 v3)))), (0, (B_X11_codeAt v2 (D 51 8 v3)))]) (mi_invV (n := 2) (r := 40) dX11_patch_159 hC_40 (by omega) rfl rfl wN_X11_copiesCode rfl ⟨by decide, by decide⟩ wL_X11_242 wI_X11_copiesCode wS_X11_copiesCode wB_X11 wC_X11_copiesCode) (fun v hv => C_X11_copiesCode hL (mi_w (100 + (D 51 8 v3))) (B_X11_codeAt v2 (D 51 8 v3)) D v hv) (Nat.le_of_ble_eq_true rfl) rfl rfl (fun D5 => ?_)
        refine Sg.go (pc' := 163) (mi_aload_n dX11_patch_162 rfl) ?_
        refine Sg.go (pc' := 166) (mi_gfA (t := 50) (v := 0) (r := 40) (k := 15) dX11_patch_163 hC_40 (by decide) rfl wF_X11_39 (by omega) rfl (hL.1 15 (by decide))) ?_
        refine Sg.go (pc' := 167) (mi_iload_n dX11_patch_166 rfl) ?_
        refine Sg.go (pc' := 168) (mi_aald (n := 9) (t := 51) (v := v2) dX11_patch_167 rfl hA_50 rfl (by omega) hk2 rfl (hL.2.2.2.1 _ hk2.1 hk2.2)) ?_
        refine Sg.go (pc' := 169) (mi_iload_n dX11_patch_168 rfl) ?_
        refine Sg.go (pc' := 170) (mi_iload_n dX11_patch_169 rfl) ?_
        refine Sg.go (pc' := 171) (mi_aload_n dX11_patch_170 rfl) ?_
        refine Sg.go (pc' := 174) (mi_gfA (t := 50) (v := 0) (r := 40) (k := 15) dX11_patch_171 hC_40 (by decide) rfl wF_X11_39 (by omega) rfl (hL.1 15 (by decide))) ?_
        refine Sg.go (pc' := 176) (mi_bipush (z := 8) dX11_patch_174 rfl) ?_
        refine Sg.go (pc' := 177) (mi_aald (n := 9) (t := 51) (v := 8) dX11_patch_176 rfl hA_50 rfl (by omega) (by decide) rfl (hL.2.2.2.1 _ (show 0 ≤ (8 : Int) ∧ (8 : Int) < 9 by decide).1 (show 0 ≤ (8 : Int) ∧ (8 : Int) < 9 by decide).2)) ?_
        refine Sg.go (pc' := 178) (mi_iload_n dX11_patch_177 rfl) ?_
        refine Sg.go (pc' := 179) (mi_iald (n := 12) dX11_patch_178 rfl rfl (by omega) hk4) ?_
        refine Sg.callP (pc' := 182) (t := 0) (v := (B_X11_codeAt v2 (D5 51 8 v3))) (μ' := m_X11_codeAt) (args := [(0, v2), (0, (D5 51 8 v3))]) (mi_invS (n := 2) dX11_patch_179 rfl wN_X11_codeAt rfl ⟨by decide, by decide⟩ wL_X11_278 wT_X11_codeAt wB_X11 wC_X11_codeAt) (C_X11_codeAt hL v2 (D5 51 8 v3) D5) (Nat.le_of_ble_eq_true rfl) rfl rfl ?_
        refine Sg.goM (pc' := 183) (mi_iast (n := 12) dX11_patch_182 rfl rfl (by omega) hk4) ?_
        refine Sg.letD (fun D6 hD6 => ?_)
        refine Sg.go (pc' := 186) (mi_iinc (z := 1) (ls1 := [(42, 0), mi_un, (0, v2), (0, (mi_w (v3 + 1)))]) dX11_patch_183 (by decide) rfl rfl rfl) ?_
        refine Sg.go (pc' := 111) (mi_goto (tgt := 111) dX11_patch_186 (by decide)) ?_
        exact K111 v2 (mi_w (v3 + 1)) D6
      · refine Sg.go (pc' := 130) (mi_ifne_f (tgt := 133) dX11_patch_127 (by decide) h3) ?_
        refine Sg.go (pc' := 183) (mi_goto (tgt := 183) dX11_patch_130 (by decide)) ?_
        refine Sg.go (pc' := 186) (mi_iinc (z := 1) (ls1 := [(42, 0), mi_un, (0, v2), (0, (mi_w (v3 + 1)))]) dX11_patch_183 (by decide) rfl rfl rfl) ?_
        refine Sg.go (pc' := 111) (mi_goto (tgt := 111) dX11_patch_186 (by decide)) ?_
        exact K111 v2 (mi_w (v3 + 1)) D
def B_X11_patch_46 (v1 : Int) (s1 : Int) (D : MiD) : Option (Int × MiD) := if s1 = 0 ∨ s1 = 1 then (mi_b2 (B_X11_bad s1 2 2 D) fun y2 D3 => if y2 = 0 then (mi_bi (B_X11_starts v1 D3) fun D5 => mi_bi (B_X11_readsPatch D5) fun D6 => mi_bi (B_X11_fine D6) fun y7 => if y7 ≠ 0 then (if 0 ≤ (D6 40 0 11) ∧ (D6 40 0 11) < 9 then (mi_let (mi_st D6 47 0 (D6 40 0 11) (D6 47 0 8)) fun D10 => mi_let (mi_st D10 48 0 (D6 40 0 11) (D10 48 0 8)) fun D11 => B_X11_patch_111 mi_fuel (D6 40 0 11) 0 D11) else none) else (mi_b2 (B_X11_ends 0 D6) fun y12 D13 => some (y12, D13))) else (some (0, D3))) else none
set_option maxRecDepth 20000 in
theorem S_X11_patch_46 {Z : MiZ} (hL : ML Z) (v1 s1 : Int) (D : MiD) : Sg m_X11_patch 46 [(42, 0), (0, v1), mi_un, mi_un] [(0, s1), (42, 0)] (D, Z) (mi_LD 0 Z) (B_X11_patch_46 v1 s1 D) := by
  unfold B_X11_patch_46
  refine Sg.go (pc' := 47) (mi_iconst (z := 2) dX11_patch_46 rfl) ?_
  refine Sg.go (pc' := 48) (mi_iconst (z := 2) dX11_patch_47 rfl) ?_
  refine Sg.ck (fun hk1 => ?_)
  refine Sg.callD (pc' := 51) (t := 0) (μ' := m_X11_bad) (args := [(42, 0), (0, s1), (0, 2), (0, 2)]) (mi_invV (n := 3) (r := 40) dX11_patch_48 hC_40 (by omega) rfl rfl wN_X11_bad rfl ⟨by decide, by decide⟩ wL_X11_229 wI_X11_bad wS_X11_bad wB_X11 wC_X11_bad) (fun v hv => C_X11_bad hL s1 2 2 D (hk1) v hv) (Nat.le_of_ble_eq_true rfl) rfl rfl (fun y2 D3 => ?_)
  refine Sg.ite (fun h4 => ?_) (fun h4 => ?_)
  · refine Sg.go (pc' := 56) (mi_ifeq_t (tgt := 56) dX11_patch_51 (by decide) h4) ?_
    refine Sg.go (pc' := 57) (mi_aload_n dX11_patch_56 rfl) ?_
    refine Sg.go (pc' := 58) (mi_iload_n dX11_patch_57 rfl) ?_
    refine Sg.callV (pc' := 61) (μ' := m_X11_starts) (args := [(42, 0), (0, v1)]) (mi_invV (n := 1) (r := 40) dX11_patch_58 hC_40 (by omega) rfl rfl wN_X11_starts rfl ⟨by decide, by decide⟩ wL_X11_236 wI_X11_starts wS_X11_starts wB_X11 wC_X11_starts) (fun v hv => C_X11_starts hL v1 D3 v hv) (Nat.le_of_ble_eq_true rfl) rfl rfl (fun D5 => ?_)
    refine Sg.go (pc' := 62) (mi_aload_n dX11_patch_61 rfl) ?_
    refine Sg.callV (pc' := 65) (μ' := m_X11_readsPatch) (args := [(42, 0)]) (mi_invV (n := 0) (r := 40) dX11_patch_62 hC_40 (by omega) rfl rfl wN_X11_readsPatch rfl ⟨by decide, by decide⟩ wL_X11_275 wI_X11_readsPatch wS_X11_readsPatch wB_X11 wC_X11_readsPatch) (fun v hv => C_X11_readsPatch hL D5 v hv) (Nat.le_of_ble_eq_true rfl) rfl rfl (fun D6 => ?_)
    refine Sg.go (pc' := 66) (mi_aload_n dX11_patch_65 rfl) ?_
    refine Sg.callI (pc' := 69) (t := 0) (μ' := m_X11_fine) (args := [(42, 0)]) (mi_invV (n := 0) (r := 40) dX11_patch_66 hC_40 (by omega) rfl rfl wN_X11_fine rfl ⟨by decide, by decide⟩ wL_X11_100 wI_X11_fine wS_X11_fine wB_X11 wC_X11_fine) (fun v hv => C_X11_fine hL D6 v hv) (Nat.le_of_ble_eq_true rfl) rfl rfl (fun y7 => ?_)
    refine Sg.ite (fun h8 => ?_) (fun h8 => ?_)
    · refine Sg.go (pc' := 78) (mi_ifne_t (tgt := 78) dX11_patch_69 (by decide) h8) ?_
      refine Sg.go (pc' := 79) (mi_aload_n dX11_patch_78 rfl) ?_
      refine Sg.go (pc' := 82) (mi_gfI (r := 40) (k := 11) dX11_patch_79 hC_40 (by decide) rfl wF_X11_272 (by omega) rfl) ?_
      refine Sg.go (pc' := 83) (mi_istore_n (ls1 := [(42, 0), (0, v1), (0, (D6 40 0 11)), mi_un]) dX11_patch_82 (by decide) rfl) ?_
      refine Sg.go (pc' := 84) (mi_aload_n dX11_patch_83 rfl) ?_
      refine Sg.go (pc' := 87) (mi_gfA (t := 47) (v := 0) (r := 40) (k := 12) dX11_patch_84 hC_40 (by decide) rfl wF_X11_28 (by omega) rfl (hL.1 12 (by decide))) ?_
      refine Sg.go (pc' := 88) (mi_iload_n dX11_patch_87 rfl) ?_
      refine Sg.go (pc' := 89) (mi_aload_n dX11_patch_88 rfl) ?_
      refine Sg.go (pc' := 92) (mi_gfA (t := 47) (v := 0) (r := 40) (k := 12) dX11_patch_89 hC_40 (by decide) rfl wF_X11_28 (by omega) rfl (hL.1 12 (by decide))) ?_
      refine Sg.go (pc' := 94) (mi_bipush (z := 8) dX11_patch_92 rfl) ?_
      refine Sg.go (pc' := 95) (mi_iald (n := 9) dX11_patch_94 rfl rfl (by omega) (by decide)) ?_
      refine Sg.ck (fun hk9 => ?_)
      refine Sg.goM (pc' := 96) (mi_iast (n := 9) dX11_patch_95 rfl rfl (by omega) hk9) ?_
      refine Sg.letD (fun D10 hD10 => ?_)
      refine Sg.go (pc' := 97) (mi_aload_n dX11_patch_96 rfl) ?_
      refine Sg.go (pc' := 100) (mi_gfA (t := 48) (v := 0) (r := 40) (k := 13) dX11_patch_97 hC_40 (by decide) rfl wF_X11_31 (by omega) rfl (hL.1 13 (by decide))) ?_
      refine Sg.go (pc' := 101) (mi_iload_n dX11_patch_100 rfl) ?_
      refine Sg.go (pc' := 102) (mi_aload_n dX11_patch_101 rfl) ?_
      refine Sg.go (pc' := 105) (mi_gfA (t := 48) (v := 0) (r := 40) (k := 13) dX11_patch_102 hC_40 (by decide) rfl wF_X11_31 (by omega) rfl (hL.1 13 (by decide))) ?_
      refine Sg.go (pc' := 107) (mi_bipush (z := 8) dX11_patch_105 rfl) ?_
      refine Sg.go (pc' := 108) (mi_iald (n := 9) dX11_patch_107 rfl rfl (by omega) (by decide)) ?_
      refine Sg.goM (pc' := 109) (mi_iast (n := 9) dX11_patch_108 rfl rfl (by omega) hk9) ?_
      refine Sg.letD (fun D11 hD11 => ?_)
      refine Sg.go (pc' := 110) (mi_iconst (z := 0) dX11_patch_109 rfl) ?_
      refine Sg.go (pc' := 111) (mi_istore_n (ls1 := [(42, 0), (0, v1), (0, (D6 40 0 11)), (0, 0)]) dX11_patch_110 (by decide) rfl) ?_
      refine Sg.go (pc' := 111) (MiStep.weak (ls' := [(42, 0), mi_un, (0, (D6 40 0 11)), (0, 0)]) (mi_wk_y (mi_wk_n (mi_wk_y (mi_wk_y mi_wk_0))))) ?_
      exact S_X11_patch_111 hL mi_fuel (D6 40 0 11) 0 D11
    · refine Sg.go (pc' := 72) (mi_ifne_f (tgt := 78) dX11_patch_69 (by decide) h8) ?_
      refine Sg.go (pc' := 73) (mi_aload_n dX11_patch_72 rfl) ?_
      refine Sg.go (pc' := 74) (mi_iconst (z := 0) dX11_patch_73 rfl) ?_
      refine Sg.callD (pc' := 77) (t := 0) (μ' := m_X11_ends) (args := [(42, 0), (0, 0)]) (mi_invV (n := 1) (r := 40) dX11_patch_74 hC_40 (by omega) rfl rfl wN_X11_ends rfl ⟨by decide, by decide⟩ wL_X11_245 wI_X11_ends wS_X11_ends wB_X11 wC_X11_ends) (fun v hv => C_X11_ends hL 0 D6 v hv) (Nat.le_of_ble_eq_true rfl) rfl rfl (fun y12 D13 => ?_)
      exact Sg.ret (mi_ireturn dX11_patch_77 rfl (Or.inl rfl))
  · refine Sg.go (pc' := 54) (mi_ifeq_f (tgt := 56) dX11_patch_51 (by decide) h4) ?_
    refine Sg.go (pc' := 55) (mi_iconst (z := 0) dX11_patch_54 rfl) ?_
    exact Sg.ret (mi_ireturn dX11_patch_55 rfl (Or.inl rfl))
def B_X11_patch_23 (v1 : Int) (s1 : Int) (D : MiD) : Option (Int × MiD) := if s1 = 0 ∨ s1 = 1 then (mi_b2 (B_X11_bad s1 1 1 D) fun y2 D3 => if y2 ≠ 0 then (some (0, D3)) else (if (D3 40 0 11) ≠ 8 then (B_X11_patch_46 v1 0 D3) else (B_X11_patch_46 v1 1 D3))) else none
set_option maxRecDepth 20000 in
theorem S_X11_patch_23 {Z : MiZ} (hL : ML Z) (v1 s1 : Int) (D : MiD) : Sg m_X11_patch 23 [(42, 0), (0, v1), mi_un, mi_un] [(0, s1), (42, 0)] (D, Z) (mi_LD 0 Z) (B_X11_patch_23 v1 s1 D) := by
  unfold B_X11_patch_23
  refine Sg.go (pc' := 24) (mi_iconst (z := 1) dX11_patch_23 rfl) ?_
  refine Sg.go (pc' := 25) (mi_iconst (z := 1) dX11_patch_24 rfl) ?_
  refine Sg.ck (fun hk1 => ?_)
  refine Sg.callD (pc' := 28) (t := 0) (μ' := m_X11_bad) (args := [(42, 0), (0, s1), (0, 1), (0, 1)]) (mi_invV (n := 3) (r := 40) dX11_patch_25 hC_40 (by omega) rfl rfl wN_X11_bad rfl ⟨by decide, by decide⟩ wL_X11_229 wI_X11_bad wS_X11_bad wB_X11 wC_X11_bad) (fun v hv => C_X11_bad hL s1 1 1 D (hk1) v hv) (Nat.le_of_ble_eq_true rfl) rfl rfl (fun y2 D3 => ?_)
  refine Sg.ite (fun h4 => ?_) (fun h4 => ?_)
  · refine Sg.go (pc' := 54) (mi_ifne_t (tgt := 54) dX11_patch_28 (by decide) h4) ?_
    refine Sg.go (pc' := 55) (mi_iconst (z := 0) dX11_patch_54 rfl) ?_
    exact Sg.ret (mi_ireturn dX11_patch_55 rfl (Or.inl rfl))
  · refine Sg.go (pc' := 31) (mi_ifne_f (tgt := 54) dX11_patch_28 (by decide) h4) ?_
    refine Sg.go (pc' := 32) (mi_aload_n dX11_patch_31 rfl) ?_
    refine Sg.go (pc' := 33) (mi_aload_n dX11_patch_32 rfl) ?_
    refine Sg.go (pc' := 36) (mi_gfI (r := 40) (k := 11) dX11_patch_33 hC_40 (by decide) rfl wF_X11_272 (by omega) rfl) ?_
    refine Sg.go (pc' := 38) (mi_bipush (z := 8) dX11_patch_36 rfl) ?_
    refine Sg.ite (fun h5 => ?_) (fun h5 => ?_)
    · refine Sg.go (pc' := 45) (mi_icmpne_t (tgt := 45) dX11_patch_38 (by decide) h5) ?_
      refine Sg.go (pc' := 46) (mi_iconst (z := 0) dX11_patch_45 rfl) ?_
      exact S_X11_patch_46 hL v1 0 D3
    · refine Sg.go (pc' := 41) (mi_icmpne_f (tgt := 45) dX11_patch_38 (by decide) h5) ?_
      refine Sg.go (pc' := 42) (mi_iconst (z := 1) dX11_patch_41 rfl) ?_
      refine Sg.go (pc' := 46) (mi_goto (tgt := 46) dX11_patch_42 (by decide)) ?_
      exact S_X11_patch_46 hL v1 1 D3
def B_X11_patch (v1 : Int) (D : MiD) : Option (Int × MiD) := mi_let (mi_st D 40 0 0 0) fun D1 => if (B_X11_in v1 0 (D1 40 0 2)) ≠ 0 then (B_X11_patch_23 v1 0 D1) else (B_X11_patch_23 v1 1 D1)
set_option maxRecDepth 20000 in
theorem S_X11_patch {Z : MiZ} (hL : ML Z) (v1 : Int) (D : MiD) : Sg m_X11_patch 0 [(42, 0), (0, v1), mi_un, mi_un] [] (D, Z) (mi_LD 0 Z) (B_X11_patch v1 D) := by
  unfold B_X11_patch
  refine Sg.go (pc' := 1) (mi_aload_n dX11_patch_0 rfl) ?_
  refine Sg.go (pc' := 2) (mi_iconst (z := 0) dX11_patch_1 rfl) ?_
  refine Sg.goM (pc' := 5) (mi_pfD (r := 40) (k := 0) (t := 0) dX11_patch_2 hC_40 (by decide) rfl rfl wF_X11_78 (by omega) rfl (by decide) (Or.inl ⟨rfl, rfl⟩)) ?_
  refine Sg.letD (fun D1 hD1 => ?_)
  refine Sg.go (pc' := 6) (mi_aload_n dX11_patch_5 rfl) ?_
  refine Sg.go (pc' := 7) (mi_iload_n dX11_patch_6 rfl) ?_
  refine Sg.go (pc' := 8) (mi_iconst (z := 0) dX11_patch_7 rfl) ?_
  refine Sg.go (pc' := 9) (mi_aload_n dX11_patch_8 rfl) ?_
  refine Sg.go (pc' := 12) (mi_gfI (r := 40) (k := 2) dX11_patch_9 hC_40 (by decide) rfl wF_X11_81 (by omega) rfl) ?_
  refine Sg.callP (pc' := 15) (t := 0) (v := (B_X11_in v1 0 (D1 40 0 2))) (μ' := m_X11_in) (args := [(0, v1), (0, 0), (0, (D1 40 0 2))]) (mi_invS (n := 3) dX11_patch_12 rfl wN_X11_in rfl ⟨by decide, by decide⟩ wL_X11_121 wT_X11_in wB_X11 wC_X11_in) (C_X11_in hL v1 0 (D1 40 0 2) D1) (Nat.le_of_ble_eq_true rfl) rfl rfl ?_
  refine Sg.ite (fun h2 => ?_) (fun h2 => ?_)
  · refine Sg.go (pc' := 22) (mi_ifne_t (tgt := 22) dX11_patch_15 (by decide) h2) ?_
    refine Sg.go (pc' := 23) (mi_iconst (z := 0) dX11_patch_22 rfl) ?_
    exact S_X11_patch_23 hL v1 0 D1
  · refine Sg.go (pc' := 18) (mi_ifne_f (tgt := 22) dX11_patch_15 (by decide) h2) ?_
    refine Sg.go (pc' := 19) (mi_iconst (z := 1) dX11_patch_18 rfl) ?_
    refine Sg.go (pc' := 23) (mi_goto (tgt := 23) dX11_patch_19 (by decide)) ?_
    exact S_X11_patch_23 hL v1 1 D1
theorem C_X11_patch {Z : MiZ} (hL : ML Z) (a1 : Int) (D : MiD) (b : Int × MiD) (hb : B_X11_patch a1 D = some b) : MC m_X11_patch [(42, 0), (0, a1)] (D, Z) ((mi_LD 0 Z) b) := MC.ofSg (L := (mi_LD 0 Z)) (μ := m_X11_patch) (args := [(42, 0), (0, a1)]) (M := (D, Z)) rfl wP_X11 (Nat.le_of_ble_eq_true rfl) (show Sg m_X11_patch 0 [(42, 0), (0, a1), mi_un, mi_un] [] (D, Z) (mi_LD 0 Z) (B_X11_patch a1 D) from S_X11_patch hL a1 D) hb
end MiY2
