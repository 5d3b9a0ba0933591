abbrev m_X11_sets : MiI := (yX11_sets, cX11_sets, 5, (some .int), 3, none)
def B_X11_sets (v1 : Int) (v2 : Int) (v3 : Int) (v4 : Int) (D : MiD) : Option (Int × MiD) := mi_bi (B_X11_isGone D v2) fun y1 => if y1 = 0 then (if 0 ≤ v2 ∧ v2 < 61 then (if (D 52 0 v2) ≤ 7 then (if v3 < (D 53 0 v2) then (if (B_X11_widens v1 (D 52 0 v2)) ≠ 0 then (if 0 ≤ v3 ∧ v3 < 9 then (mi_let (mi_st D 57 v2 v3 (B_X11_as v1 (B_X11_cut v4 v1) (D 52 0 v2))) fun D8 => some (0, D8)) else none) else (some (2, D))) else (some (1, D))) else (some (2, D))) else none) else (some (3, D))
set_option maxRecDepth 20000 in
theorem S_X11_sets {Z : MiZ} (hL : ML Z) (v1 v2 v3 v4 : Int) (D : MiD) : Sg m_X11_sets 0 [(42, 0), (0, v1), (0, v2), (0, v3), (0, v4)] [] (D, Z) (mi_LD 0 Z) (B_X11_sets v1 v2 v3 v4 D) := by
  unfold B_X11_sets
  refine Sg.go (pc' := 1) (mi_aload_n dX11_sets_0 rfl) ?_
  refine Sg.go (pc' := 2) (mi_iload_n dX11_sets_1 rfl) ?_
  refine Sg.callI (pc' := 5) (t := 0) (μ' := m_X11_isGone) (args := [(42, 0), (0, v2)]) (mi_invV (n := 1) (r := 40) dX11_sets_2 hC_40 (by omega) rfl rfl wN_X11_isGone rfl ⟨by decide, by decide⟩ wL_X11_287 wI_X11_isGone wS_X11_isGone wB_X11 wC_X11_isGone) (fun v hv => C_X11_isGone hL v2 D v hv) (Nat.le_of_ble_eq_true rfl) rfl rfl (fun y1 => ?_)
  refine Sg.ite (fun h2 => ?_) (fun h2 => ?_)
  · refine Sg.go (pc' := 10) (mi_ifeq_t (tgt := 10) dX11_sets_5 (by decide) h2) ?_
    refine Sg.go (pc' := 11) (mi_aload_n dX11_sets_10 rfl) ?_
    refine Sg.go (pc' := 14) (mi_gfA (t := 52) (v := 0) (r := 40) (k := 16) dX11_sets_11 hC_40 (by decide) rfl wF_X11_42 (by omega) rfl (hL.1 16 (by decide))) ?_
    refine Sg.go (pc' := 15) (mi_iload_n dX11_sets_14 rfl) ?_
    refine Sg.ck (fun hk3 => ?_)
    refine Sg.go (pc' := 16) (mi_iald (n := 61) dX11_sets_15 rfl rfl (by omega) hk3) ?_
    refine Sg.go (pc' := 18) (mi_bipush (z := 7) dX11_sets_16 rfl) ?_
    refine Sg.ite (fun h4 => ?_) (fun h4 => ?_)
    · refine Sg.go (pc' := 23) (mi_icmple_t (tgt := 23) dX11_sets_18 (by decide) h4) ?_
      refine Sg.go (pc' := 24) (mi_iload_n dX11_sets_23 rfl) ?_
      refine Sg.go (pc' := 25) (mi_aload_n dX11_sets_24 rfl) ?_
      refine Sg.go (pc' := 28) (mi_gfA (t := 53) (v := 0) (r := 40) (k := 17) dX11_sets_25 hC_40 (by decide) rfl wF_X11_45 (by omega) rfl (hL.1 17 (by decide))) ?_
      refine Sg.go (pc' := 29) (mi_iload_n dX11_sets_28 rfl) ?_
      refine Sg.go (pc' := 30) (mi_iald (n := 61) dX11_sets_29 rfl rfl (by omega) hk3) ?_
      refine Sg.ite (fun h5 => ?_) (fun h5 => ?_)
      · refine Sg.go (pc' := 35) (mi_icmplt_t (tgt := 35) dX11_sets_30 (by decide) h5) ?_
        refine Sg.go (pc' := 36) (mi_iload_n dX11_sets_35 rfl) ?_
        refine Sg.go (pc' := 37) (mi_aload_n dX11_sets_36 rfl) ?_
        refine Sg.go (pc' := 40) (mi_gfA (t := 52) (v := 0) (r := 40) (k := 16) dX11_sets_37 hC_40 (by decide) rfl wF_X11_42 (by omega) rfl (hL.1 16 (by decide))) ?_
        refine Sg.go (pc' := 41) (mi_iload_n dX11_sets_40 rfl) ?_
        refine Sg.go (pc' := 42) (mi_iald (n := 61) dX11_sets_41 rfl rfl (by omega) hk3) ?_
        refine Sg.callP (pc' := 45) (t := 0) (v := (B_X11_widens v1 (D 52 0 v2))) (μ' := m_X11_widens) (args := [(0, v1), (0, (D 52 0 v2))]) (mi_invS (n := 2) dX11_sets_42 rfl wN_X11_widens rfl ⟨by decide, by decide⟩ wL_X11_290 wT_X11_widens wB_X11 wC_X11_widens) (C_X11_widens hL v1 (D 52 0 v2) D) (Nat.le_of_ble_eq_true rfl) rfl rfl ?_
        refine Sg.ite (fun h6 => ?_) (fun h6 => ?_)
        · refine Sg.go (pc' := 50) (mi_ifne_t (tgt := 50) dX11_sets_45 (by decide) h6) ?_
          refine Sg.go (pc' := 51) (mi_aload_n dX11_sets_50 rfl) ?_
          refine Sg.go (pc' := 54) (mi_gfA (t := 56) (v := 0) (r := 40) (k := 19) dX11_sets_51 hC_40 (by decide) rfl wF_X11_53 (by omega) rfl (hL.1 19 (by decide))) ?_
          refine Sg.go (pc' := 55) (mi_iload_n dX11_sets_54 rfl) ?_
          refine Sg.go (pc' := 56) (mi_aald (n := 61) (t := 57) (v := v2) dX11_sets_55 rfl hA_56 rfl (by omega) hk3 rfl (hL.2.2.2.2.2.1 _ hk3.1 hk3.2)) ?_
          refine Sg.go (pc' := 57) (mi_iload_n dX11_sets_56 rfl) ?_
          refine Sg.go (pc' := 58) (mi_iload_n dX11_sets_57 rfl) ?_
          refine Sg.go (pc' := 60) (mi_iload dX11_sets_58 rfl) ?_
          refine Sg.go (pc' := 61) (mi_iload_n dX11_sets_60 rfl) ?_
          refine Sg.callP (pc' := 64) (t := 1) (v := (B_X11_cut v4 v1)) (μ' := m_X11_cut) (args := [(0, v4), (0, v1)]) (mi_invS (n := 2) dX11_sets_61 rfl wN_X11_cut rfl ⟨by decide, by decide⟩ wL_X11_304 wT_X11_cut wB_X11 wC_X11_cut) (C_X11_cut hL v4 v1 D) (Nat.le_of_ble_eq_true rfl) rfl rfl ?_
          refine Sg.go (pc' := 65) (mi_aload_n dX11_sets_64 rfl) ?_
          refine Sg.go (pc' := 68) (mi_gfA (t := 52) (v := 0) (r := 40) (k := 16) dX11_sets_65 hC_40 (by decide) rfl wF_X11_42 (by omega) rfl (hL.1 16 (by decide))) ?_
          refine Sg.go (pc' := 69) (mi_iload_n dX11_sets_68 rfl) ?_
          refine Sg.go (pc' := 70) (mi_iald (n := 61) dX11_sets_69 rfl rfl (by omega) hk3) ?_
          refine Sg.callP (pc' := 73) (t := 1) (v := (B_X11_as v1 (B_X11_cut v4 v1) (D 52 0 v2))) (μ' := m_X11_as) (args := [(0, v1), (1, (B_X11_cut v4 v1)), (0, (D 52 0 v2))]) (mi_invS (n := 3) dX11_sets_70 rfl wN_X11_as rfl ⟨by decide, by decide⟩ wL_X11_296 wT_X11_as wB_X11 wC_X11_as) (C_X11_as hL v1 (B_X11_cut v4 v1) (D 52 0 v2) D) (Nat.le_of_ble_eq_true rfl) rfl rfl ?_
          refine Sg.ck (fun hk7 => ?_)
          refine Sg.goM (pc' := 74) (mi_last (n := 9) dX11_sets_73 rfl rfl (by omega) hk7) ?_
          refine Sg.letD (fun D8 hD8 => ?_)
          refine Sg.go (pc' := 75) (mi_iconst (z := 0) dX11_sets_74 rfl) ?_
          exact Sg.ret (mi_ireturn dX11_sets_75 rfl (Or.inl rfl))
        · refine Sg.go (pc' := 48) (mi_ifne_f (tgt := 50) dX11_sets_45 (by decide) h6) ?_
          refine Sg.go (pc' := 49) (mi_iconst (z := 2) dX11_sets_48 rfl) ?_
          exact Sg.ret (mi_ireturn dX11_sets_49 rfl (Or.inl rfl))
      · refine Sg.go (pc' := 33) (mi_icmplt_f (tgt := 35) dX11_sets_30 (by decide) h5) ?_
        refine Sg.go (pc' := 34) (mi_iconst (z := 1) dX11_sets_33 rfl) ?_
        exact Sg.ret (mi_ireturn dX11_sets_34 rfl (Or.inl rfl))
    · refine Sg.go (pc' := 21) (mi_icmple_f (tgt := 23) dX11_sets_18 (by decide) h4) ?_
      refine Sg.go (pc' := 22) (mi_iconst (z := 2) dX11_sets_21 rfl) ?_
      exact Sg.ret (mi_ireturn dX11_sets_22 rfl (Or.inl rfl))
  · refine Sg.go (pc' := 8) (mi_ifeq_f (tgt := 10) dX11_sets_5 (by decide) h2) ?_
    refine Sg.go (pc' := 9) (mi_iconst (z := 3) dX11_sets_8 rfl) ?_
    exact Sg.ret (mi_ireturn dX11_sets_9 rfl (Or.inl rfl))
theorem C_X11_sets {Z : MiZ} (hL : ML Z) (a1 a2 a3 a4 : Int) (D : MiD) (b : Int × MiD) (hb : B_X11_sets a1 a2 a3 a4 D = some b) : MC m_X11_sets [(42, 0), (0, a1), (0, a2), (0, a3), (0, a4)] (D, Z) ((mi_LD 0 Z) b) := MC.ofSg (L := (mi_LD 0 Z)) (μ := m_X11_sets) (args := [(42, 0), (0, a1), (0, a2), (0, a3), (0, a4)]) (M := (D, Z)) rfl wP_X11 (Nat.le_of_ble_eq_true rfl) (show Sg m_X11_sets 0 [(42, 0), (0, a1), (0, a2), (0, a3), (0, a4)] [] (D, Z) (mi_LD 0 Z) (B_X11_sets a1 a2 a3 a4 D) from S_X11_sets hL a1 a2 a3 a4 D) hb
abbrev m_X11_shadowOf : MiI := (yX11_shadowOf, cX11_shadowOf, 4, (some .int), 3, none)
def B_X11_shadowOf_51 (v1 : Int) (v2 : Int) (v3 : Int) (s1 : Int) (D : MiD) : Option (Int × MiD) := if s1 = 0 ∨ s1 = 1 then (mi_b2 (B_X11_bad s1 2 1 D) fun y2 D3 => if y2 = 0 then (if v3 ≠ 0 then (if 0 ≤ (B_X11_rowOf v1 v2) ∧ (B_X11_rowOf v1 v2) < 61 then (some ((D3 53 0 (B_X11_rowOf v1 v2)), D3)) else none) else (if 0 ≤ (B_X11_rowOf v1 v2) ∧ (B_X11_rowOf v1 v2) < 61 then (some ((D3 52 0 (B_X11_rowOf v1 v2)), D3)) else none)) else (some (0, D3))) else none
set_option maxRecDepth 20000 in
theorem S_X11_shadowOf_51 {Z : MiZ} (hL : ML Z) (v1 v2 v3 s1 : Int) (D : MiD) : Sg m_X11_shadowOf 51 [(42, 0), (0, v1), (0, v2), (0, v3)] [(0, s1), (42, 0)] (D, Z) (mi_LD 0 Z) (B_X11_shadowOf_51 v1 v2 v3 s1 D) := by
  unfold B_X11_shadowOf_51
  refine Sg.go (pc' := 52) (mi_iconst (z := 2) dX11_shadowOf_51 rfl) ?_
  refine Sg.go (pc' := 53) (mi_iconst (z := 1) dX11_shadowOf_52 rfl) ?_
  refine Sg.ck (fun hk1 => ?_)
  refine Sg.callD (pc' := 56) (t := 0) (μ' := m_X11_bad) (args := [(42, 0), (0, s1), (0, 2), (0, 1)]) (mi_invV (n := 3) (r := 40) dX11_shadowOf_53 hC_40 (by omega) rfl rfl wN_X11_bad rfl ⟨by decide, by decide⟩ wL_X11_229 wI_X11_bad wS_X11_bad wB_X11 wC_X11_bad) (fun v hv => C_X11_bad hL s1 2 1 D (hk1) v hv) (Nat.le_of_ble_eq_true rfl) rfl rfl (fun y2 D3 => ?_)
  refine Sg.ite (fun h4 => ?_) (fun h4 => ?_)
  · refine Sg.go (pc' := 61) (mi_ifeq_t (tgt := 61) dX11_shadowOf_56 (by decide) h4) ?_
    refine Sg.go (pc' := 62) (mi_iload_n dX11_shadowOf_61 rfl) ?_
    refine Sg.ite (fun h5 => ?_) (fun h5 => ?_)
    · refine Sg.go (pc' := 79) (mi_ifne_t (tgt := 79) dX11_shadowOf_62 (by decide) h5) ?_
      refine Sg.go (pc' := 80) (mi_aload_n dX11_shadowOf_79 rfl) ?_
      refine Sg.go (pc' := 83) (mi_gfA (t := 53) (v := 0) (r := 40) (k := 17) dX11_shadowOf_80 hC_40 (by decide) rfl wF_X11_45 (by omega) rfl (hL.1 17 (by decide))) ?_
      refine Sg.go (pc' := 84) (mi_aload_n dX11_shadowOf_83 rfl) ?_
      refine Sg.go (pc' := 85) (mi_iload_n dX11_shadowOf_84 rfl) ?_
      refine Sg.go (pc' := 86) (mi_iload_n dX11_shadowOf_85 rfl) ?_
      refine Sg.callP (pc' := 89) (t := 0) (v := (B_X11_rowOf v1 v2)) (μ' := m_X11_rowOf) (args := [(42, 0), (0, v1), (0, v2)]) (mi_invV (n := 2) (r := 40) dX11_shadowOf_86 hC_40 (by omega) rfl rfl wN_X11_rowOf rfl ⟨by decide, by decide⟩ wL_X11_345 wI_X11_rowOf wS_X11_rowOf wB_X11 wC_X11_rowOf) (C_X11_rowOf hL v1 v2 D3) (Nat.le_of_ble_eq_true rfl) rfl rfl ?_
      refine Sg.ck (fun hk6 => ?_)
      refine Sg.go (pc' := 90) (mi_iald (n := 61) dX11_shadowOf_89 rfl rfl (by omega) hk6) ?_
      exact Sg.ret (mi_ireturn dX11_shadowOf_90 rfl (Or.inl rfl))
    · refine Sg.go (pc' := 65) (mi_ifne_f (tgt := 79) dX11_shadowOf_62 (by decide) h5) ?_
      refine Sg.go (pc' := 66) (mi_aload_n dX11_shadowOf_65 rfl) ?_
      refine Sg.go (pc' := 69) (mi_gfA (t := 52) (v := 0) (r := 40) (k := 16) dX11_shadowOf_66 hC_40 (by decide) rfl wF_X11_42 (by omega) rfl (hL.1 16 (by decide))) ?_
      refine Sg.go (pc' := 70) (mi_aload_n dX11_shadowOf_69 rfl) ?_
      refine Sg.go (pc' := 71) (mi_iload_n dX11_shadowOf_70 rfl) ?_
      refine Sg.go (pc' := 72) (mi_iload_n dX11_shadowOf_71 rfl) ?_
      refine Sg.callP (pc' := 75) (t := 0) (v := (B_X11_rowOf v1 v2)) (μ' := m_X11_rowOf) (args := [(42, 0), (0, v1), (0, v2)]) (mi_invV (n := 2) (r := 40) dX11_shadowOf_72 hC_40 (by omega) rfl rfl wN_X11_rowOf rfl ⟨by decide, by decide⟩ wL_X11_345 wI_X11_rowOf wS_X11_rowOf wB_X11 wC_X11_rowOf) (C_X11_rowOf hL v1 v2 D3) (Nat.le_of_ble_eq_true rfl) rfl rfl ?_
      refine Sg.ck (fun hk7 => ?_)
      refine Sg.go (pc' := 76) (mi_iald (n := 61) dX11_shadowOf_75 rfl rfl (by omega) hk7) ?_
      refine Sg.go (pc' := 90) (mi_goto (tgt := 90) dX11_shadowOf_76 (by decide)) ?_
      exact Sg.ret (mi_ireturn dX11_shadowOf_90 rfl (Or.inl rfl))
  · refine Sg.go (pc' := 59) (mi_ifeq_f (tgt := 61) dX11_shadowOf_56 (by decide) h4) ?_
    refine Sg.go (pc' := 60) (mi_iconst (z := 0) dX11_shadowOf_59 rfl) ?_
    exact Sg.ret (mi_ireturn dX11_shadowOf_60 rfl (Or.inl rfl))
def B_X11_shadowOf_28 (v1 : Int) (v2 : Int) (v3 : Int) (s1 : Int) (D : MiD) : Option (Int × MiD) := if s1 = 0 ∨ s1 = 1 then (mi_b2 (B_X11_bad s1 1 0 D) fun y2 D3 => if y2 ≠ 0 then (some (0, D3)) else (if (B_X11_in v3 0 1) ≠ 0 then (B_X11_shadowOf_51 v1 v2 v3 0 D3) else (B_X11_shadowOf_51 v1 v2 v3 1 D3))) else none
set_option maxRecDepth 20000 in
theorem S_X11_shadowOf_28 {Z : MiZ} (hL : ML Z) (v1 v2 v3 s1 : Int) (D : MiD) : Sg m_X11_shadowOf 28 [(42, 0), (0, v1), (0, v2), (0, v3)] [(0, s1), (42, 0)] (D, Z) (mi_LD 0 Z) (B_X11_shadowOf_28 v1 v2 v3 s1 D) := by
  unfold B_X11_shadowOf_28
  refine Sg.go (pc' := 29) (mi_iconst (z := 1) dX11_shadowOf_28 rfl) ?_
  refine Sg.go (pc' := 30) (mi_iconst (z := 0) dX11_shadowOf_29 rfl) ?_
  refine Sg.ck (fun hk1 => ?_)
  refine Sg.callD (pc' := 33) (t := 0) (μ' := m_X11_bad) (args := [(42, 0), (0, s1), (0, 1), (0, 0)]) (mi_invV (n := 3) (r := 40) dX11_shadowOf_30 hC_40 (by omega) rfl rfl wN_X11_bad rfl ⟨by decide, by decide⟩ wL_X11_229 wI_X11_bad wS_X11_bad wB_X11 wC_X11_bad) (fun v hv => C_X11_bad hL s1 1 0 D (hk1) v hv) (Nat.le_of_ble_eq_true rfl) rfl rfl (fun y2 D3 => ?_)
  refine Sg.ite (fun h4 => ?_) (fun h4 => ?_)
  · refine Sg.go (pc' := 59) (mi_ifne_t (tgt := 59) dX11_shadowOf_33 (by decide) h4) ?_
    refine Sg.go (pc' := 60) (mi_iconst (z := 0) dX11_shadowOf_59 rfl) ?_
    exact Sg.ret (mi_ireturn dX11_shadowOf_60 rfl (Or.inl rfl))
  · refine Sg.go (pc' := 36) (mi_ifne_f (tgt := 59) dX11_shadowOf_33 (by decide) h4) ?_
    refine Sg.go (pc' := 37) (mi_aload_n dX11_shadowOf_36 rfl) ?_
    refine Sg.go (pc' := 38) (mi_iload_n dX11_shadowOf_37 rfl) ?_
    refine Sg.go (pc' := 39) (mi_iconst (z := 0) dX11_shadowOf_38 rfl) ?_
    refine Sg.go (pc' := 40) (mi_iconst (z := 1) dX11_shadowOf_39 rfl) ?_
    refine Sg.callP (pc' := 43) (t := 0) (v := (B_X11_in v3 0 1)) (μ' := m_X11_in) (args := [(0, v3), (0, 0), (0, 1)]) (mi_invS (n := 3) dX11_shadowOf_40 rfl wN_X11_in rfl ⟨by decide, by decide⟩ wL_X11_121 wT_X11_in wB_X11 wC_X11_in) (C_X11_in hL v3 0 1 D3) (Nat.le_of_ble_eq_true rfl) rfl rfl ?_
    refine Sg.ite (fun h5 => ?_) (fun h5 => ?_)
    · refine Sg.go (pc' := 50) (mi_ifne_t (tgt := 50) dX11_shadowOf_43 (by decide) h5) ?_
      refine Sg.go (pc' := 51) (mi_iconst (z := 0) dX11_shadowOf_50 rfl) ?_
      exact S_X11_shadowOf_51 hL v1 v2 v3 0 D3
    · refine Sg.go (pc' := 46) (mi_ifne_f (tgt := 50) dX11_shadowOf_43 (by decide) h5) ?_
      refine Sg.go (pc' := 47) (mi_iconst (z := 1) dX11_shadowOf_46 rfl) ?_
      refine Sg.go (pc' := 51) (mi_goto (tgt := 51) dX11_shadowOf_47 (by decide)) ?_
      exact S_X11_shadowOf_51 hL v1 v2 v3 1 D3
def B_X11_shadowOf_23 (v1 : Int) (v2 : Int) (v3 : Int) (D : MiD) : Option (Int × MiD) := B_X11_shadowOf_28 v1 v2 v3 1 D
set_option maxRecDepth 20000 in
theorem S_X11_shadowOf_23 {Z : MiZ} (hL : ML Z) (v1 v2 v3 : Int) (D : MiD) : Sg m_X11_shadowOf 23 [(42, 0), (0, v1), (0, v2), (0, v3)] [(42, 0)] (D, Z) (mi_LD 0 Z) (B_X11_shadowOf_23 v1 v2 v3 D) := by
  unfold B_X11_shadowOf_23
  refine Sg.go (pc' := 24) (mi_iconst (z := 1) dX11_shadowOf_23 rfl) ?_
  refine Sg.go (pc' := 28) (mi_goto (tgt := 28) dX11_shadowOf_24 (by decide)) ?_
  exact S_X11_shadowOf_28 hL v1 v2 v3 1 D
def B_X11_shadowOf (v1 : Int) (v2 : Int) (v3 : Int) (D : MiD) : Option (Int × MiD) := mi_let (mi_st D 40 0 0 0) fun D1 => if (B_X11_isDatum v1) = 0 then (B_X11_shadowOf_23 v1 v2 v3 D1) else (if (B_X11_in v2 0 4) ≠ 0 then (B_X11_shadowOf_28 v1 v2 v3 0 D1) else (B_X11_shadowOf_23 v1 v2 v3 D1))
set_option maxRecDepth 20000 in
theorem S_X11_shadowOf {Z : MiZ} (hL : ML Z) (v1 v2 v3 : Int) (D : MiD) : Sg m_X11_shadowOf 0 [(42, 0), (0, v1), (0, v2), (0, v3)] [] (D, Z) (mi_LD 0 Z) (B_X11_shadowOf v1 v2 v3 D) := by
  unfold B_X11_shadowOf
  refine Sg.go (pc' := 1) (mi_aload_n dX11_shadowOf_0 rfl) ?_
  refine Sg.go (pc' := 2) (mi_iconst (z := 0) dX11_shadowOf_1 rfl) ?_
  refine Sg.goM (pc' := 5) (mi_pfD (r := 40) (k := 0) (t := 0) dX11_shadowOf_2 hC_40 (by decide) rfl rfl wF_X11_78 (by omega) rfl (by decide) (Or.inl ⟨rfl, rfl⟩)) ?_
  refine Sg.letD (fun D1 hD1 => ?_)
  refine Sg.go (pc' := 6) (mi_aload_n dX11_shadowOf_5 rfl) ?_
  refine Sg.go (pc' := 7) (mi_aload_n dX11_shadowOf_6 rfl) ?_
  refine Sg.go (pc' := 8) (mi_iload_n dX11_shadowOf_7 rfl) ?_
  refine Sg.callP (pc' := 11) (t := 0) (v := (B_X11_isDatum v1)) (μ' := m_X11_isDatum) (args := [(42, 0), (0, v1)]) (mi_invV (n := 1) (r := 40) dX11_shadowOf_8 hC_40 (by omega) rfl rfl wN_X11_isDatum rfl ⟨by decide, by decide⟩ wL_X11_358 wI_X11_isDatum wS_X11_isDatum wB_X11 wC_X11_isDatum) (C_X11_isDatum hL v1 D1) (Nat.le_of_ble_eq_true rfl) rfl rfl ?_
  refine Sg.ite (fun h2 => ?_) (fun h2 => ?_)
  · refine Sg.go (pc' := 23) (mi_ifeq_t (tgt := 23) dX11_shadowOf_11 (by decide) h2) ?_
    exact S_X11_shadowOf_23 hL v1 v2 v3 D1
  · refine Sg.go (pc' := 14) (mi_ifeq_f (tgt := 23) dX11_shadowOf_11 (by decide) h2) ?_
    refine Sg.go (pc' := 15) (mi_iload_n dX11_shadowOf_14 rfl) ?_
    refine Sg.go (pc' := 16) (mi_iconst (z := 0) dX11_shadowOf_15 rfl) ?_
    refine Sg.go (pc' := 17) (mi_iconst (z := 4) dX11_shadowOf_16 rfl) ?_
    refine Sg.callP (pc' := 20) (t := 0) (v := (B_X11_in v2 0 4)) (μ' := m_X11_in) (args := [(0, v2), (0, 0), (0, 4)]) (mi_invS (n := 3) dX11_shadowOf_17 rfl wN_X11_in rfl ⟨by decide, by decide⟩ wL_X11_121 wT_X11_in wB_X11 wC_X11_in) (C_X11_in hL v2 0 4 D1) (Nat.le_of_ble_eq_true rfl) rfl rfl ?_
    refine Sg.ite (fun h3 => ?_) (fun h3 => ?_)
    · refine Sg.go (pc' := 27) (mi_ifne_t (tgt := 27) dX11_shadowOf_20 (by decide) h3) ?_
      refine Sg.go (pc' := 28) (mi_iconst (z := 0) dX11_shadowOf_27 rfl) ?_
      exact S_X11_shadowOf_28 hL v1 v2 v3 0 D1
    · refine Sg.go (pc' := 23) (mi_ifne_f (tgt := 27) dX11_shadowOf_20 (by decide) h3) ?_
      exact S_X11_shadowOf_23 hL v1 v2 v3 D1
theorem C_X11_shadowOf {Z : MiZ} (hL : ML Z) (a1 a2 a3 : Int) (D : MiD) (b : Int × MiD) (hb : B_X11_shadowOf a1 a2 a3 D = some b) : MC m_X11_shadowOf [(42, 0), (0, a1), (0, a2), (0, a3)] (D, Z) ((mi_LD 0 Z) b) := MC.ofSg (L := (mi_LD 0 Z)) (μ := m_X11_shadowOf) (args := [(42, 0), (0, a1), (0, a2), (0, a3)]) (M := (D, Z)) rfl wP_X11 (Nat.le_of_ble_eq_true rfl) (show Sg m_X11_shadowOf 0 [(42, 0), (0, a1), (0, a2), (0, a3)] [] (D, Z) (mi_LD 0 Z) (B_X11_shadowOf a1 a2 a3 D) from S_X11_shadowOf hL a1 a2 a3 D) hb
abbrev m_X11_sign : MiI := (yX11_sign, cX11_sign, 2, none, 3, none)
def B_X11_sign (v1 : Int) (D : MiD) : Option (MiD) := mi_bi (B_X11_fine D) fun y1 => if y1 ≠ 0 then (mi_b2 (B_X11_here_0 mi_fuel D) fun y3 D4 => if y3 ≠ v1 then (mi_bi (B_X11_wrong 1 (D4 40 0 4) D4) fun D6 => some D6) else (mi_let (mi_st D4 40 0 4 (mi_w ((D4 40 0 4) + 1))) fun D7 => some D7)) else (some D)
set_option maxRecDepth 20000 in
theorem S_X11_sign {Z : MiZ} (hL : ML Z) (v1 : Int) (D : MiD) : Sg m_X11_sign 0 [(42, 0), (0, v1)] [] (D, Z) (mi_LV Z) (B_X11_sign v1 D) := by
  unfold B_X11_sign
  refine Sg.go (pc' := 1) (mi_aload_n dX11_sign_0 rfl) ?_
  refine Sg.callI (pc' := 4) (t := 0) (μ' := m_X11_fine) (args := [(42, 0)]) (mi_invV (n := 0) (r := 40) dX11_sign_1 hC_40 (by omega) rfl rfl wN_X11_fine rfl ⟨by decide, by decide⟩ wL_X11_100 wI_X11_fine wS_X11_fine wB_X11 wC_X11_fine) (fun v hv => C_X11_fine hL D v hv) (Nat.le_of_ble_eq_true rfl) rfl rfl (fun y1 => ?_)
  refine Sg.ite (fun h2 => ?_) (fun h2 => ?_)
  · refine Sg.go (pc' := 8) (mi_ifne_t (tgt := 8) dX11_sign_4 (by decide) h2) ?_
    refine Sg.go (pc' := 9) (mi_aload_n dX11_sign_8 rfl) ?_
    refine Sg.callD (pc' := 12) (t := 0) (μ' := m_X11_here) (args := [(42, 0)]) (mi_invV (n := 0) (r := 40) dX11_sign_9 hC_40 (by omega) rfl rfl wN_X11_here rfl ⟨by decide, by decide⟩ wL_X11_104 wI_X11_here wS_X11_here wB_X11 wC_X11_here) (fun v hv => C_X11_here hL D v hv) (Nat.le_of_ble_eq_true rfl) rfl rfl (fun y3 D4 => ?_)
    refine Sg.go (pc' := 13) (mi_iload_n dX11_sign_12 rfl) ?_
    refine Sg.ite (fun h5 => ?_) (fun h5 => ?_)
    · refine Sg.go (pc' := 29) (mi_icmpne_t (tgt := 29) dX11_sign_13 (by decide) h5) ?_
      refine Sg.go (pc' := 30) (mi_aload_n dX11_sign_29 rfl) ?_
      refine Sg.go (pc' := 31) (mi_iconst (z := 1) dX11_sign_30 rfl) ?_
      refine Sg.go (pc' := 32) (mi_aload_n dX11_sign_31 rfl) ?_
      refine Sg.go (pc' := 35) (mi_gfI (r := 40) (k := 4) dX11_sign_32 hC_40 (by decide) rfl wF_X11_87 (by omega) rfl) ?_
      refine Sg.callV (pc' := 38) (μ' := m_X11_wrong) (args := [(42, 0), (0, 1), (0, (D4 40 0 4))]) (mi_invV (n := 2) (r := 40) dX11_sign_35 hC_40 (by omega) rfl rfl wN_X11_wrong rfl ⟨by decide, by decide⟩ wL_X11_112 wI_X11_wrong wS_X11_wrong wB_X11 wC_X11_wrong) (fun v hv => C_X11_wrong hL 1 (D4 40 0 4) D4 v hv) (Nat.le_of_ble_eq_true rfl) rfl rfl (fun D6 => ?_)
      exact Sg.ret (mi_return dX11_sign_38 rfl (0, 0))
    · refine Sg.go (pc' := 16) (mi_icmpne_f (tgt := 29) dX11_sign_13 (by decide) h5) ?_
      refine Sg.go (pc' := 17) (mi_aload_n dX11_sign_16 rfl) ?_
      refine Sg.go (pc' := 18) (mi_dup dX11_sign_17 (show (42 : Nat) ≠ 1 by decide)) ?_
      refine Sg.go (pc' := 21) (mi_gfI (r := 40) (k := 4) dX11_sign_18 hC_40 (by decide) rfl wF_X11_87 (by omega) rfl) ?_
      refine Sg.go (pc' := 22) (mi_iconst (z := 1) dX11_sign_21 rfl) ?_
      refine Sg.go (pc' := 23) (mi_iadd dX11_sign_22) ?_
      refine Sg.goM (pc' := 26) (mi_pfD (r := 40) (k := 4) (t := 0) dX11_sign_23 hC_40 (by decide) rfl rfl wF_X11_87 (by omega) rfl (by decide) (Or.inl ⟨rfl, rfl⟩)) ?_
      refine Sg.letD (fun D7 hD7 => ?_)
      refine Sg.go (pc' := 38) (mi_goto (tgt := 38) dX11_sign_26 (by decide)) ?_
      exact Sg.ret (mi_return dX11_sign_38 rfl (0, 0))
  · refine Sg.go (pc' := 7) (mi_ifne_f (tgt := 8) dX11_sign_4 (by decide) h2) ?_
    exact Sg.ret (mi_return dX11_sign_7 rfl (0, 0))
theorem C_X11_sign {Z : MiZ} (hL : ML Z) (a1 : Int) (D : MiD) (b : MiD) (hb : B_X11_sign a1 D = some b) : MC m_X11_sign [(42, 0), (0, a1)] (D, Z) ((mi_LV Z) b) := MC.ofSg (L := (mi_LV Z)) (μ := m_X11_sign) (args := [(42, 0), (0, a1)]) (M := (D, Z)) rfl wP_X11 (Nat.le_of_ble_eq_true rfl) (show Sg m_X11_sign 0 [(42, 0), (0, a1)] [] (D, Z) (mi_LV Z) (B_X11_sign a1 D) from S_X11_sign hL a1 D) hb
abbrev m_X11_signed : MiI := (yX11_signed, cX11_signed, 4, (some .int), 3, none)
def B_X11_signed_125 (v1 : Int) (v2 : Int) (D : MiD) : Option (Int × MiD) := if v1 = 0 then (some (v2, D)) else (some ((mi_w (-v2)), D))
set_option maxRecDepth 20000 in
theorem S_X11_signed_125 {Z : MiZ} (hL : ML Z) (v1 v2 : Int) (D : MiD) : Sg m_X11_signed 125 [mi_un, (0, v1), (0, v2), mi_un] [] (D, Z) (mi_LD 0 Z) (B_X11_signed_125 v1 v2 D) := by
  unfold B_X11_signed_125
  refine Sg.go (pc' := 126) (mi_iload_n dX11_signed_125 rfl) ?_
  refine Sg.ite (fun h1 => ?_) (fun h1 => ?_)
  · refine Sg.go (pc' := 134) (mi_ifeq_t (tgt := 134) dX11_signed_126 (by decide) h1) ?_
    refine Sg.go (pc' := 135) (mi_iload_n dX11_signed_134 rfl) ?_
    exact Sg.ret (mi_ireturn dX11_signed_135 rfl (Or.inl rfl))
  · refine Sg.go (pc' := 129) (mi_ifeq_f (tgt := 134) dX11_signed_126 (by decide) h1) ?_
    refine Sg.go (pc' := 130) (mi_iload_n dX11_signed_129 rfl) ?_
    refine Sg.go (pc' := 131) (mi_ineg dX11_signed_130) ?_
    refine Sg.go (pc' := 135) (mi_goto (tgt := 135) dX11_signed_131 (by decide)) ?_
    exact Sg.ret (mi_ireturn dX11_signed_135 rfl (Or.inl rfl))
def B_X11_signed_64 : Nat → Int → Int → Int → MiD → Option (Int × MiD)
  | 0, _, _, _, _ => none
  | f + 1, v1, v2, v3, D => mi_bi (B_X11_byteAt D (D 40 0 4)) fun y1 => if (B_X11_isDigit y1) = 0 then (if v2 ≤ 99999 then (B_X11_signed_125 v1 v2 D) else (mi_bi (B_X11_wrong 2 v3 D) fun D4 => B_X11_signed_125 v1 v2 D4)) else (mi_bi (B_X11_byteAt D (D 40 0 4)) fun y5 => mi_let (B_X11_less 1000000 (mi_w ((mi_w ((mi_w (10 * v2)) + y5)) - 48))) fun x6 => mi_let (mi_st D 40 0 4 (mi_w ((D 40 0 4) + 1))) fun D7 => B_X11_signed_64 f v1 x6 v3 D7)
set_option maxRecDepth 20000 in
theorem S_X11_signed_64 {Z : MiZ} (hL : ML Z) : ∀ (f : Nat) (v1 v2 v3 : Int) (D : MiD), Sg m_X11_signed 64 [(42, 0), (0, v1), (0, v2), (0, v3)] [] (D, Z) (mi_LD 0 Z) (B_X11_signed_64 f v1 v2 v3 D) := by
  intro f
  induction f with
  | zero => intros; exact Sg.nope
  | succ f K64 =>
    intro v1 v2 v3 D
    show Sg m_X11_signed 64 [(42, 0), (0, v1), (0, v2), (0, v3)] [] (D, Z) (mi_LD 0 Z) (mi_bi (B_X11_byteAt D (D 40 0 4)) fun y1 => if (B_X11_isDigit y1) = 0 then (if v2 ≤ 99999 then (B_X11_signed_125 v1 v2 D) else (mi_bi (B_X11_wrong 2 v3 D) fun D4 => B_X11_signed_125 v1 v2 D4)) else (mi_bi (B_X11_byteAt D (D 40 0 4)) fun y5 => mi_let (B_X11_less 1000000 (mi_w ((mi_w ((mi_w (10 * v2)) + y5)) - 48))) fun x6 => mi_let (mi_st D 40 0 4 (mi_w ((D 40 0 4) + 1))) fun D7 => B_X11_signed_64 f v1 x6 v3 D7))
    refine Sg.go (pc' := 65) (mi_aload_n dX11_signed_64 rfl) ?_
    refine Sg.go (pc' := 66) (mi_aload_n dX11_signed_65 rfl) ?_
    refine Sg.go (pc' := 69) (mi_gfI (r := 40) (k := 4) dX11_signed_66 hC_40 (by decide) rfl wF_X11_87 (by omega) rfl) ?_
    refine Sg.callI (pc' := 72) (t := 0) (μ' := m_X11_byteAt) (args := [(42, 0), (0, (D 40 0 4))]) (mi_invV (n := 1) (r := 40) dX11_signed_69 hC_40 (by omega) rfl rfl wN_X11_byteAt rfl ⟨by decide, by decide⟩ wL_X11_90 wI_X11_byteAt wS_X11_byteAt wB_X11 wC_X11_byteAt) (fun v hv => C_X11_byteAt hL (D 40 0 4) D v hv) (Nat.le_of_ble_eq_true rfl) rfl rfl (fun y1 => ?_)
    refine Sg.callP (pc' := 75) (t := 0) (v := (B_X11_isDigit y1)) (μ' := m_X11_isDigit) (args := [(0, y1)]) (mi_invS (n := 1) dX11_signed_72 rfl wN_X11_isDigit rfl ⟨by decide, by decide⟩ wL_X11_108 wT_X11_isDigit wB_X11 wC_X11_isDigit) (C_X11_isDigit hL y1 D) (Nat.le_of_ble_eq_true rfl) rfl rfl ?_
    refine Sg.ite (fun h2 => ?_) (fun h2 => ?_)
    · refine Sg.go (pc' := 113) (mi_ifeq_t (tgt := 113) dX11_signed_75 (by decide) h2) ?_
      refine Sg.go (pc' := 114) (mi_iload_n dX11_signed_113 rfl) ?_
      refine Sg.go (pc' := 116) (mi_ldc (z := 99999) dX11_signed_114 wK_X11_196 rfl) ?_
      refine Sg.ite (fun h3 => ?_) (fun h3 => ?_)
      · refine Sg.go (pc' := 125) (mi_icmple_t (tgt := 125) dX11_signed_116 (by decide) h3) ?_
        refine Sg.go (pc' := 125) (MiStep.weak (ls' := [mi_un, (0, v1), (0, v2), mi_un]) (mi_wk_n (mi_wk_y (mi_wk_y (mi_wk_n mi_wk_0))))) ?_
        exact S_X11_signed_125 hL v1 v2 D
      · refine Sg.go (pc' := 119) (mi_icmple_f (tgt := 125) dX11_signed_116 (by decide) h3) ?_
        refine Sg.go (pc' := 120) (mi_aload_n dX11_signed_119 rfl) ?_
        refine Sg.go (pc' := 121) (mi_iconst (z := 2) dX11_signed_120 rfl) ?_
        refine Sg.go (pc' := 122) (mi_iload_n dX11_signed_121 rfl) ?_
        refine Sg.callV (pc' := 125) (μ' := m_X11_wrong) (args := [(42, 0), (0, 2), (0, v3)]) (mi_invV (n := 2) (r := 40) dX11_signed_122 hC_40 (by omega) rfl rfl wN_X11_wrong rfl ⟨by decide, by decide⟩ wL_X11_112 wI_X11_wrong wS_X11_wrong wB_X11 wC_X11_wrong) (fun v hv => C_X11_wrong hL 2 v3 D v hv) (Nat.le_of_ble_eq_true rfl) rfl rfl (fun D4 => ?_)
        refine Sg.go (pc' := 125) (MiStep.weak (ls' := [mi_un, (0, v1), (0, v2), mi_un]) (mi_wk_n (mi_wk_y (mi_wk_y (mi_wk_n mi_wk_0))))) ?_
        exact S_X11_signed_125 hL v1 v2 D4
    · refine Sg.go (pc' := 78) (mi_ifeq_f (tgt := 113) dX11_signed_75 (by decide) h2) ?_
      refine Sg.go (pc' := 80) (mi_ldc (z := 1000000) dX11_signed_78 wK_X11_116 rfl) ?_
      refine Sg.go (pc' := 82) (mi_bipush (z := 10) dX11_signed_80 rfl) ?_
      refine Sg.go (pc' := 83) (mi_iload_n dX11_signed_82 rfl) ?_
      refine Sg.go (pc' := 84) (mi_imul dX11_signed_83) ?_
      refine Sg.go (pc' := 85) (mi_aload_n dX11_signed_84 rfl) ?_
      refine Sg.go (pc' := 86) (mi_aload_n dX11_signed_85 rfl) ?_
      refine Sg.go (pc' := 89) (mi_gfI (r := 40) (k := 4) dX11_signed_86 hC_40 (by decide) rfl wF_X11_87 (by omega) rfl) ?_
      refine Sg.callI (pc' := 92) (t := 0) (μ' := m_X11_byteAt) (args := [(42, 0), (0, (D 40 0 4))]) (mi_invV (n := 1) (r := 40) dX11_signed_89 hC_40 (by omega) rfl rfl wN_X11_byteAt rfl ⟨by decide, by decide⟩ wL_X11_90 wI_X11_byteAt wS_X11_byteAt wB_X11 wC_X11_byteAt) (fun v hv => C_X11_byteAt hL (D 40 0 4) D v hv) (Nat.le_of_ble_eq_true rfl) rfl rfl (fun y5 => ?_)
      refine Sg.go (pc' := 93) (mi_iadd dX11_signed_92) ?_
      refine Sg.go (pc' := 95) (mi_bipush (z := 48) dX11_signed_93 rfl) ?_
      refine Sg.go (pc' := 96) (mi_isub dX11_signed_95) ?_
      refine Sg.callP (pc' := 99) (t := 0) (v := (B_X11_less 1000000 (mi_w ((mi_w ((mi_w (10 * v2)) + y5)) - 48)))) (μ' := m_X11_less) (args := [(0, 1000000), (0, (mi_w ((mi_w ((mi_w (10 * v2)) + y5)) - 48)))]) (mi_invS (n := 2) dX11_signed_96 rfl wN_X11_less rfl ⟨by decide, by decide⟩ wL_X11_117 wT_X11_less wB_X11 wC_X11_less) (C_X11_less hL 1000000 (mi_w ((mi_w ((mi_w (10 * v2)) + y5)) - 48)) D) (Nat.le_of_ble_eq_true rfl) rfl rfl ?_
      refine Sg.letI (fun x6 hx6 => ?_)
      refine Sg.go (pc' := 100) (mi_istore_n (ls1 := [(42, 0), (0, v1), (0, x6), (0, v3)]) dX11_signed_99 (by decide) rfl) ?_
      refine Sg.go (pc' := 101) (mi_aload_n dX11_signed_100 rfl) ?_
      refine Sg.go (pc' := 102) (mi_dup dX11_signed_101 (show (42 : Nat) ≠ 1 by decide)) ?_
      refine Sg.go (pc' := 105) (mi_gfI (r := 40) (k := 4) dX11_signed_102 hC_40 (by decide) rfl wF_X11_87 (by omega) rfl) ?_
      refine Sg.go (pc' := 106) (mi_iconst (z := 1) dX11_signed_105 rfl) ?_
      refine Sg.go (pc' := 107) (mi_iadd dX11_signed_106) ?_
      refine Sg.goM (pc' := 110) (mi_pfD (r := 40) (k := 4) (t := 0) dX11_signed_107 hC_40 (by decide) rfl rfl wF_X11_87 (by omega) rfl (by decide) (Or.inl ⟨rfl, rfl⟩)) ?_
      refine Sg.letD (fun D7 hD7 => ?_)
      refine Sg.go (pc' := 64) (mi_goto (tgt := 64) dX11_signed_110 (by decide)) ?_
      exact K64 v1 x6 v3 D7
def B_X11_signed_38 (v1 : Int) (D : MiD) : Option (Int × MiD) := mi_b2 (B_X11_here_0 mi_fuel D) fun y1 D2 => if (B_X11_isDigit y1) ≠ 0 then (B_X11_signed_64 mi_fuel v1 0 (D2 40 0 4) D2) else (mi_bi (B_X11_wrong 1 (D2 40 0 4) D2) fun D4 => B_X11_signed_64 mi_fuel v1 0 (D4 40 0 4) D4)
set_option maxRecDepth 20000 in
theorem S_X11_signed_38 {Z : MiZ} (hL : ML Z) (v1 : Int) (D : MiD) : Sg m_X11_signed 38 [(42, 0), (0, v1), mi_un, mi_un] [] (D, Z) (mi_LD 0 Z) (B_X11_signed_38 v1 D) := by
  unfold B_X11_signed_38
  refine Sg.go (pc' := 39) (mi_iconst (z := 0) dX11_signed_38 rfl) ?_
  refine Sg.go (pc' := 40) (mi_istore_n (ls1 := [(42, 0), (0, v1), (0, 0), mi_un]) dX11_signed_39 (by decide) rfl) ?_
  refine Sg.go (pc' := 41) (mi_aload_n dX11_signed_40 rfl) ?_
  refine Sg.callD (pc' := 44) (t := 0) (μ' := m_X11_here) (args := [(42, 0)]) (mi_invV (n := 0) (r := 40) dX11_signed_41 hC_40 (by omega) rfl rfl wN_X11_here rfl ⟨by decide, by decide⟩ wL_X11_104 wI_X11_here wS_X11_here wB_X11 wC_X11_here) (fun v hv => C_X11_here hL D v hv) (Nat.le_of_ble_eq_true rfl) rfl rfl (fun y1 D2 => ?_)
  refine Sg.callP (pc' := 47) (t := 0) (v := (B_X11_isDigit y1)) (μ' := m_X11_isDigit) (args := [(0, y1)]) (mi_invS (n := 1) dX11_signed_44 rfl wN_X11_isDigit rfl ⟨by decide, by decide⟩ wL_X11_108 wT_X11_isDigit wB_X11 wC_X11_isDigit) (C_X11_isDigit hL y1 D2) (Nat.le_of_ble_eq_true rfl) rfl rfl ?_
  refine Sg.ite (fun h3 => ?_) (fun h3 => ?_)
  · refine Sg.go (pc' := 59) (mi_ifne_t (tgt := 59) dX11_signed_47 (by decide) h3) ?_
    refine Sg.go (pc' := 60) (mi_aload_n dX11_signed_59 rfl) ?_
    refine Sg.go (pc' := 63) (mi_gfI (r := 40) (k := 4) dX11_signed_60 hC_40 (by decide) rfl wF_X11_87 (by omega) rfl) ?_
    refine Sg.go (pc' := 64) (mi_istore_n (ls1 := [(42, 0), (0, v1), (0, 0), (0, (D2 40 0 4))]) dX11_signed_63 (by decide) rfl) ?_
    exact S_X11_signed_64 hL mi_fuel v1 0 (D2 40 0 4) D2
  · refine Sg.go (pc' := 50) (mi_ifne_f (tgt := 59) dX11_signed_47 (by decide) h3) ?_
    refine Sg.go (pc' := 51) (mi_aload_n dX11_signed_50 rfl) ?_
    refine Sg.go (pc' := 52) (mi_iconst (z := 1) dX11_signed_51 rfl) ?_
    refine Sg.go (pc' := 53) (mi_aload_n dX11_signed_52 rfl) ?_
    refine Sg.go (pc' := 56) (mi_gfI (r := 40) (k := 4) dX11_signed_53 hC_40 (by decide) rfl wF_X11_87 (by omega) rfl) ?_
    refine Sg.callV (pc' := 59) (μ' := m_X11_wrong) (args := [(42, 0), (0, 1), (0, (D2 40 0 4))]) (mi_invV (n := 2) (r := 40) dX11_signed_56 hC_40 (by omega) rfl rfl wN_X11_wrong rfl ⟨by decide, by decide⟩ wL_X11_112 wI_X11_wrong wS_X11_wrong wB_X11 wC_X11_wrong) (fun v hv => C_X11_wrong hL 1 (D2 40 0 4) D2 v hv) (Nat.le_of_ble_eq_true rfl) rfl rfl (fun D4 => ?_)
    refine Sg.go (pc' := 60) (mi_aload_n dX11_signed_59 rfl) ?_
    refine Sg.go (pc' := 63) (mi_gfI (r := 40) (k := 4) dX11_signed_60 hC_40 (by decide) rfl wF_X11_87 (by omega) rfl) ?_
    refine Sg.go (pc' := 64) (mi_istore_n (ls1 := [(42, 0), (0, v1), (0, 0), (0, (D4 40 0 4))]) dX11_signed_63 (by decide) rfl) ?_
    exact S_X11_signed_64 hL mi_fuel v1 0 (D4 40 0 4) D4
def B_X11_signed_23 (s0 : Int) (D : MiD) : Option (Int × MiD) := if s0 = 0 then (B_X11_signed_38 s0 D) else (mi_let (mi_st D 40 0 4 (mi_w ((D 40 0 4) + 1))) fun D2 => B_X11_signed_38 s0 D2)
set_option maxRecDepth 20000 in
theorem S_X11_signed_23 {Z : MiZ} (hL : ML Z) (s0 : Int) (D : MiD) : Sg m_X11_signed 23 [(42, 0), mi_un, mi_un, mi_un] [(0, s0)] (D, Z) (mi_LD 0 Z) (B_X11_signed_23 s0 D) := by
  unfold B_X11_signed_23
  refine Sg.go (pc' := 24) (mi_istore_n (ls1 := [(42, 0), (0, s0), mi_un, mi_un]) dX11_signed_23 (by decide) rfl) ?_
  refine Sg.go (pc' := 25) (mi_iload_n dX11_signed_24 rfl) ?_
  refine Sg.ite (fun h1 => ?_) (fun h1 => ?_)
  · refine Sg.go (pc' := 38) (mi_ifeq_t (tgt := 38) dX11_signed_25 (by decide) h1) ?_
    exact S_X11_signed_38 hL s0 D
  · refine Sg.go (pc' := 28) (mi_ifeq_f (tgt := 38) dX11_signed_25 (by decide) h1) ?_
    refine Sg.go (pc' := 29) (mi_aload_n dX11_signed_28 rfl) ?_
    refine Sg.go (pc' := 30) (mi_dup dX11_signed_29 (show (42 : Nat) ≠ 1 by decide)) ?_
    refine Sg.go (pc' := 33) (mi_gfI (r := 40) (k := 4) dX11_signed_30 hC_40 (by decide) rfl wF_X11_87 (by omega) rfl) ?_
    refine Sg.go (pc' := 34) (mi_iconst (z := 1) dX11_signed_33 rfl) ?_
    refine Sg.go (pc' := 35) (mi_iadd dX11_signed_34) ?_
    refine Sg.goM (pc' := 38) (mi_pfD (r := 40) (k := 4) (t := 0) dX11_signed_35 hC_40 (by decide) rfl rfl wF_X11_87 (by omega) rfl (by decide) (Or.inl ⟨rfl, rfl⟩)) ?_
    refine Sg.letD (fun D2 hD2 => ?_)
    exact S_X11_signed_38 hL s0 D2
def B_X11_signed (D : MiD) : Option (Int × MiD) := mi_bi (B_X11_fine D) fun y1 => if y1 ≠ 0 then (mi_b2 (B_X11_here_0 mi_fuel D) fun y3 D4 => if y3 ≠ 45 then (B_X11_signed_23 0 D4) else (B_X11_signed_23 1 D4)) else (some (0, D))
set_option maxRecDepth 20000 in
theorem S_X11_signed {Z : MiZ} (hL : ML Z) (D : MiD) : Sg m_X11_signed 0 [(42, 0), mi_un, mi_un, mi_un] [] (D, Z) (mi_LD 0 Z) (B_X11_signed D) := by
  unfold B_X11_signed
  refine Sg.go (pc' := 1) (mi_aload_n dX11_signed_0 rfl) ?_
  refine Sg.callI (pc' := 4) (t := 0) (μ' := m_X11_fine) (args := [(42, 0)]) (mi_invV (n := 0) (r := 40) dX11_signed_1 hC_40 (by omega) rfl rfl wN_X11_fine rfl ⟨by decide, by decide⟩ wL_X11_100 wI_X11_fine wS_X11_fine wB_X11 wC_X11_fine) (fun v hv => C_X11_fine hL D v hv) (Nat.le_of_ble_eq_true rfl) rfl rfl (fun y1 => ?_)
  refine Sg.ite (fun h2 => ?_) (fun h2 => ?_)
  · refine Sg.go (pc' := 9) (mi_ifne_t (tgt := 9) dX11_signed_4 (by decide) h2) ?_
    refine Sg.go (pc' := 10) (mi_aload_n dX11_signed_9 rfl) ?_
    refine Sg.callD (pc' := 13) (t := 0) (μ' := m_X11_here) (args := [(42, 0)]) (mi_invV (n := 0) (r := 40) dX11_signed_10 hC_40 (by omega) rfl rfl wN_X11_here rfl ⟨by decide, by decide⟩ wL_X11_104 wI_X11_here wS_X11_here wB_X11 wC_X11_here) (fun v hv => C_X11_here hL D v hv) (Nat.le_of_ble_eq_true rfl) rfl rfl (fun y3 D4 => ?_)
    refine Sg.go (pc' := 15) (mi_bipush (z := 45) dX11_signed_13 rfl) ?_
    refine Sg.ite (fun h5 => ?_) (fun h5 => ?_)
    · refine Sg.go (pc' := 22) (mi_icmpne_t (tgt := 22) dX11_signed_15 (by decide) h5) ?_
      refine Sg.go (pc' := 23) (mi_iconst (z := 0) dX11_signed_22 rfl) ?_
      exact S_X11_signed_23 hL 0 D4
    · refine Sg.go (pc' := 18) (mi_icmpne_f (tgt := 22) dX11_signed_15 (by decide) h5) ?_
      refine Sg.go (pc' := 19) (mi_iconst (z := 1) dX11_signed_18 rfl) ?_
      refine Sg.go (pc' := 23) (mi_goto (tgt := 23) dX11_signed_19 (by decide)) ?_
      exact S_X11_signed_23 hL 1 D4
  · refine Sg.go (pc' := 7) (mi_ifne_f (tgt := 9) dX11_signed_4 (by decide) h2) ?_
    refine Sg.go (pc' := 8) (mi_iconst (z := 0) dX11_signed_7 rfl) ?_
    exact Sg.ret (mi_ireturn dX11_signed_8 rfl (Or.inl rfl))
theorem C_X11_signed {Z : MiZ} (hL : ML Z) (D : MiD) (b : Int × MiD) (hb : B_X11_signed D = some b) : MC m_X11_signed [(42, 0)] (D, Z) ((mi_LD 0 Z) b) := MC.ofSg (L := (mi_LD 0 Z)) (μ := m_X11_signed) (args := [(42, 0)]) (M := (D, Z)) rfl wP_X11 (Nat.le_of_ble_eq_true rfl) (show Sg m_X11_signed 0 [(42, 0), mi_un, mi_un, mi_un] [] (D, Z) (mi_LD 0 Z) (B_X11_signed D) from S_X11_signed hL D) hb
abbrev m_X11_stuck : MiI := (yX11_stuck, cX11_stuck, 2, (some .int), 3, none)
def B_X11_stuck_56 (D : MiD) : Option (Int × MiD) := some ((-1), D)
set_option maxRecDepth 20000 in
theorem S_X11_stuck_56 {Z : MiZ} (hL : ML Z) (D : MiD) : Sg m_X11_stuck 56 [mi_un, mi_un] [] (D, Z) (mi_LD 0 Z) (B_X11_stuck_56 D) := by
  unfold B_X11_stuck_56
  refine Sg.go (pc' := 57) (mi_iconst (z := (-1)) dX11_stuck_56 rfl) ?_
  refine Sg.go (pc' := 65) (mi_goto (tgt := 65) dX11_stuck_57 (by decide)) ?_
  exact Sg.ret (mi_ireturn dX11_stuck_65 rfl (Or.inl rfl))
def B_X11_stuck_19 (v1 : Int) (s1 : Int) (D : MiD) : Option (Int × MiD) := if s1 = 0 ∨ s1 = 1 then (mi_b2 (B_X11_bad s1 1 0 D) fun y2 D3 => if y2 = 0 then (if (D3 65 0 1) = (-1) then (B_X11_stuck_56 D3) else (if 0 ≤ v1 ∧ v1 < 7 then (if (D3 59 v1 4) ≠ (D3 65 0 2) then (mi_bi (B_X11_stuckAt D3 v1) fun y8 => some (y8, D3)) else (B_X11_stuck_56 D3)) else none)) else (some (0, D3))) else none
set_option maxRecDepth 20000 in
theorem S_X11_stuck_19 {Z : MiZ} (hL : ML Z) (v1 s1 : Int) (D : MiD) : Sg m_X11_stuck 19 [(42, 0), (0, v1)] [(0, s1), (42, 0)] (D, Z) (mi_LD 0 Z) (B_X11_stuck_19 v1 s1 D) := by
  unfold B_X11_stuck_19
  refine Sg.go (pc' := 20) (mi_iconst (z := 1) dX11_stuck_19 rfl) ?_
  refine Sg.go (pc' := 21) (mi_iconst (z := 0) dX11_stuck_20 rfl) ?_
  refine Sg.ck (fun hk1 => ?_)
  refine Sg.callD (pc' := 24) (t := 0) (μ' := m_X11_bad) (args := [(42, 0), (0, s1), (0, 1), (0, 0)]) (mi_invV (n := 3) (r := 40) dX11_stuck_21 hC_40 (by omega) rfl rfl wN_X11_bad rfl ⟨by decide, by decide⟩ wL_X11_229 wI_X11_bad wS_X11_bad wB_X11 wC_X11_bad) (fun v hv => C_X11_bad hL s1 1 0 D (hk1) v hv) (Nat.le_of_ble_eq_true rfl) rfl rfl (fun y2 D3 => ?_)
  refine Sg.ite (fun h4 => ?_) (fun h4 => ?_)
  · refine Sg.go (pc' := 29) (mi_ifeq_t (tgt := 29) dX11_stuck_24 (by decide) h4) ?_
    refine Sg.go (pc' := 30) (mi_aload_n dX11_stuck_29 rfl) ?_
    refine Sg.go (pc' := 33) (mi_gfA (t := 65) (v := 0) (r := 40) (k := 24) dX11_stuck_30 hC_40 (by decide) rfl wF_X11_69 (by omega) rfl (hL.1 24 (by decide))) ?_
    refine Sg.go (pc' := 34) (mi_iconst (z := 1) dX11_stuck_33 rfl) ?_
    refine Sg.go (pc' := 35) (mi_iald (n := 8) dX11_stuck_34 rfl rfl (by omega) (by decide)) ?_
    refine Sg.go (pc' := 36) (mi_iconst (z := (-1)) dX11_stuck_35 rfl) ?_
    refine Sg.ite (fun h5 => ?_) (fun h5 => ?_)
    · refine Sg.go (pc' := 56) (mi_icmpeq_t (tgt := 56) dX11_stuck_36 (by decide) h5) ?_
      refine Sg.go (pc' := 56) (MiStep.weak (ls' := [mi_un, mi_un]) (mi_wk_n (mi_wk_n mi_wk_0))) ?_
      exact S_X11_stuck_56 hL D3
    · refine Sg.go (pc' := 39) (mi_icmpeq_f (tgt := 56) dX11_stuck_36 (by decide) h5) ?_
      refine Sg.go (pc' := 40) (mi_aload_n dX11_stuck_39 rfl) ?_
      refine Sg.go (pc' := 43) (mi_gfA (t := 58) (v := 0) (r := 40) (k := 20) dX11_stuck_40 hC_40 (by decide) rfl wF_X11_56 (by omega) rfl (hL.1 20 (by decide))) ?_
      refine Sg.go (pc' := 44) (mi_iload_n dX11_stuck_43 rfl) ?_
      refine Sg.ck (fun hk6 => ?_)
      refine Sg.go (pc' := 45) (mi_aald (n := 7) (t := 59) (v := v1) dX11_stuck_44 rfl hA_58 rfl (by omega) hk6 rfl (hL.2.2.2.2.2.2.1 _ hk6.1 hk6.2)) ?_
      refine Sg.go (pc' := 46) (mi_iconst (z := 4) dX11_stuck_45 rfl) ?_
      refine Sg.go (pc' := 47) (mi_iald (n := 7) dX11_stuck_46 rfl rfl (by omega) (by decide)) ?_
      refine Sg.go (pc' := 48) (mi_aload_n dX11_stuck_47 rfl) ?_
      refine Sg.go (pc' := 51) (mi_gfA (t := 65) (v := 0) (r := 40) (k := 24) dX11_stuck_48 hC_40 (by decide) rfl wF_X11_69 (by omega) rfl (hL.1 24 (by decide))) ?_
      refine Sg.go (pc' := 52) (mi_iconst (z := 2) dX11_stuck_51 rfl) ?_
      refine Sg.go (pc' := 53) (mi_iald (n := 8) dX11_stuck_52 rfl rfl (by omega) (by decide)) ?_
      refine Sg.ite (fun h7 => ?_) (fun h7 => ?_)
      · refine Sg.go (pc' := 60) (mi_icmpne_t (tgt := 60) dX11_stuck_53 (by decide) h7) ?_
        refine Sg.go (pc' := 61) (mi_aload_n dX11_stuck_60 rfl) ?_
        refine Sg.go (pc' := 62) (mi_iload_n dX11_stuck_61 rfl) ?_
        refine Sg.callI (pc' := 65) (t := 0) (μ' := m_X11_stuckAt) (args := [(42, 0), (0, v1)]) (mi_invV (n := 1) (r := 40) dX11_stuck_62 hC_40 (by omega) rfl rfl wN_X11_stuckAt rfl ⟨by decide, by decide⟩ wL_X11_374 wI_X11_stuckAt wS_X11_stuckAt wB_X11 wC_X11_stuckAt) (fun v hv => C_X11_stuckAt hL v1 D3 v hv) (Nat.le_of_ble_eq_true rfl) rfl rfl (fun y8 => ?_)
        exact Sg.ret (mi_ireturn dX11_stuck_65 rfl (Or.inl rfl))
      · refine Sg.go (pc' := 56) (mi_icmpne_f (tgt := 60) dX11_stuck_53 (by decide) h7) ?_
        refine Sg.go (pc' := 56) (MiStep.weak (ls' := [mi_un, mi_un]) (mi_wk_n (mi_wk_n mi_wk_0))) ?_
        exact S_X11_stuck_56 hL D3
  · refine Sg.go (pc' := 27) (mi_ifeq_f (tgt := 29) dX11_stuck_24 (by decide) h4) ?_
    refine Sg.go (pc' := 28) (mi_iconst (z := 0) dX11_stuck_27 rfl) ?_
    exact Sg.ret (mi_ireturn dX11_stuck_28 rfl (Or.inl rfl))
def B_X11_stuck (v1 : Int) (D : MiD) : Option (Int × MiD) := mi_let (mi_st D 40 0 0 0) fun D1 => if (B_X11_isTask v1) ≠ 0 then (B_X11_stuck_19 v1 0 D1) else (B_X11_stuck_19 v1 1 D1)
set_option maxRecDepth 20000 in
theorem S_X11_stuck {Z : MiZ} (hL : ML Z) (v1 : Int) (D : MiD) : Sg m_X11_stuck 0 [(42, 0), (0, v1)] [] (D, Z) (mi_LD 0 Z) (B_X11_stuck v1 D) := by
  unfold B_X11_stuck
  refine Sg.go (pc' := 1) (mi_aload_n dX11_stuck_0 rfl) ?_
  refine Sg.go (pc' := 2) (mi_iconst (z := 0) dX11_stuck_1 rfl) ?_
  refine Sg.goM (pc' := 5) (mi_pfD (r := 40) (k := 0) (t := 0) dX11_stuck_2 hC_40 (by decide) rfl rfl wF_X11_78 (by omega) rfl (by decide) (Or.inl ⟨rfl, rfl⟩)) ?_
  refine Sg.letD (fun D1 hD1 => ?_)
  refine Sg.go (pc' := 6) (mi_aload_n dX11_stuck_5 rfl) ?_
  refine Sg.go (pc' := 7) (mi_aload_n dX11_stuck_6 rfl) ?_
  refine Sg.go (pc' := 8) (mi_iload_n dX11_stuck_7 rfl) ?_
  refine Sg.callP (pc' := 11) (t := 0) (v := (B_X11_isTask v1)) (μ' := m_X11_isTask) (args := [(42, 0), (0, v1)]) (mi_invV (n := 1) (r := 40) dX11_stuck_8 hC_40 (by omega) rfl rfl wN_X11_isTask rfl ⟨by decide, by decide⟩ wL_X11_398 wI_X11_isTask wS_X11_isTask wB_X11 wC_X11_isTask) (C_X11_isTask hL v1 D1) (Nat.le_of_ble_eq_true rfl) rfl rfl ?_
  refine Sg.ite (fun h2 => ?_) (fun h2 => ?_)
  · refine Sg.go (pc' := 18) (mi_ifne_t (tgt := 18) dX11_stuck_11 (by decide) h2) ?_
    refine Sg.go (pc' := 19) (mi_iconst (z := 0) dX11_stuck_18 rfl) ?_
    exact S_X11_stuck_19 hL v1 0 D1
  · refine Sg.go (pc' := 14) (mi_ifne_f (tgt := 18) dX11_stuck_11 (by decide) h2) ?_
    refine Sg.go (pc' := 15) (mi_iconst (z := 1) dX11_stuck_14 rfl) ?_
    refine Sg.go (pc' := 19) (mi_goto (tgt := 19) dX11_stuck_15 (by decide)) ?_
    exact S_X11_stuck_19 hL v1 1 D1
theorem C_X11_stuck {Z : MiZ} (hL : ML Z) (a1 : Int) (D : MiD) (b : Int × MiD) (hb : B_X11_stuck a1 D = some b) : MC m_X11_stuck [(42, 0), (0, a1)] (D, Z) ((mi_LD 0 Z) b) := MC.ofSg (L := (mi_LD 0 Z)) (μ := m_X11_stuck) (args := [(42, 0), (0, a1)]) (M := (D, Z)) rfl wP_X11 (Nat.le_of_ble_eq_true rfl) (show Sg m_X11_stuck 0 [(42, 0), (0, a1)] [] (D, Z) (mi_LD 0 Z) (B_X11_stuck a1 D) from S_X11_stuck hL a1 D) hb
abbrev m_X11_task : MiI := (yX11_task, cX11_task, 3, (some .int), 3, none)
def B_X11_task_43 (v1 : Int) (v2 : Int) (s1 : Int) (D : MiD) : Option (Int × MiD) := if s1 = 0 ∨ s1 = 1 then (mi_b2 (B_X11_bad s1 2 1 D) fun y2 D3 => if y2 = 0 then (if 0 ≤ v1 ∧ v1 < 7 then (if 0 ≤ v2 ∧ v2 < 7 then (some ((D3 59 v1 v2), D3)) else none) else none) else (some (0, D3))) else none
set_option maxRecDepth 20000 in
theorem S_X11_task_43 {Z : MiZ} (hL : ML Z) (v1 v2 s1 : Int) (D : MiD) : Sg m_X11_task 43 [(42, 0), (0, v1), (0, v2)] [(0, s1), (42, 0)] (D, Z) (mi_LD 0 Z) (B_X11_task_43 v1 v2 s1 D) := by
  unfold B_X11_task_43
  refine Sg.go (pc' := 44) (mi_iconst (z := 2) dX11_task_43 rfl) ?_
  refine Sg.go (pc' := 45) (mi_iconst (z := 1) dX11_task_44 rfl) ?_
  refine Sg.ck (fun hk1 => ?_)
  refine Sg.callD (pc' := 48) (t := 0) (μ' := m_X11_bad) (args := [(42, 0), (0, s1), (0, 2), (0, 1)]) (mi_invV (n := 3) (r := 40) dX11_task_45 hC_40 (by omega) rfl rfl wN_X11_bad rfl ⟨by decide, by decide⟩ wL_X11_229 wI_X11_bad wS_X11_bad wB_X11 wC_X11_bad) (fun v hv => C_X11_bad hL s1 2 1 D (hk1) v hv) (Nat.le_of_ble_eq_true rfl) rfl rfl (fun y2 D3 => ?_)
  refine Sg.ite (fun h4 => ?_) (fun h4 => ?_)
  · refine Sg.go (pc' := 53) (mi_ifeq_t (tgt := 53) dX11_task_48 (by decide) h4) ?_
    refine Sg.go (pc' := 54) (mi_aload_n dX11_task_53 rfl) ?_
    refine Sg.go (pc' := 57) (mi_gfA (t := 58) (v := 0) (r := 40) (k := 20) dX11_task_54 hC_40 (by decide) rfl wF_X11_56 (by omega) rfl (hL.1 20 (by decide))) ?_
    refine Sg.go (pc' := 58) (mi_iload_n dX11_task_57 rfl) ?_
    refine Sg.ck (fun hk5 => ?_)
    refine Sg.go (pc' := 59) (mi_aald (n := 7) (t := 59) (v := v1) dX11_task_58 rfl hA_58 rfl (by omega) hk5 rfl (hL.2.2.2.2.2.2.1 _ hk5.1 hk5.2)) ?_
    refine Sg.go (pc' := 60) (mi_iload_n dX11_task_59 rfl) ?_
    refine Sg.ck (fun hk6 => ?_)
    refine Sg.go (pc' := 61) (mi_iald (n := 7) dX11_task_60 rfl rfl (by omega) hk6) ?_
    exact Sg.ret (mi_ireturn dX11_task_61 rfl (Or.inl rfl))
  · refine Sg.go (pc' := 51) (mi_ifeq_f (tgt := 53) dX11_task_48 (by decide) h4) ?_
    refine Sg.go (pc' := 52) (mi_iconst (z := 0) dX11_task_51 rfl) ?_
    exact Sg.ret (mi_ireturn dX11_task_52 rfl (Or.inl rfl))
def B_X11_task_19 (v1 : Int) (v2 : Int) (s1 : Int) (D : MiD) : Option (Int × MiD) := if s1 = 0 ∨ s1 = 1 then (mi_b2 (B_X11_bad s1 1 0 D) fun y2 D3 => if y2 ≠ 0 then (some (0, D3)) else (if (B_X11_in v2 0 6) ≠ 0 then (B_X11_task_43 v1 v2 0 D3) else (B_X11_task_43 v1 v2 1 D3))) else none
set_option maxRecDepth 20000 in
theorem S_X11_task_19 {Z : MiZ} (hL : ML Z) (v1 v2 s1 : Int) (D : MiD) : Sg m_X11_task 19 [(42, 0), (0, v1), (0, v2)] [(0, s1), (42, 0)] (D, Z) (mi_LD 0 Z) (B_X11_task_19 v1 v2 s1 D) := by
  unfold B_X11_task_19
  refine Sg.go (pc' := 20) (mi_iconst (z := 1) dX11_task_19 rfl) ?_
  refine Sg.go (pc' := 21) (mi_iconst (z := 0) dX11_task_20 rfl) ?_
  refine Sg.ck (fun hk1 => ?_)
  refine Sg.callD (pc' := 24) (t := 0) (μ' := m_X11_bad) (args := [(42, 0), (0, s1), (0, 1), (0, 0)]) (mi_invV (n := 3) (r := 40) dX11_task_21 hC_40 (by omega) rfl rfl wN_X11_bad rfl ⟨by decide, by decide⟩ wL_X11_229 wI_X11_bad wS_X11_bad wB_X11 wC_X11_bad) (fun v hv => C_X11_bad hL s1 1 0 D (hk1) v hv) (Nat.le_of_ble_eq_true rfl) rfl rfl (fun y2 D3 => ?_)
  refine Sg.ite (fun h4 => ?_) (fun h4 => ?_)
  · refine Sg.go (pc' := 51) (mi_ifne_t (tgt := 51) dX11_task_24 (by decide) h4) ?_
    refine Sg.go (pc' := 52) (mi_iconst (z := 0) dX11_task_51 rfl) ?_
    exact Sg.ret (mi_ireturn dX11_task_52 rfl (Or.inl rfl))
  · refine Sg.go (pc' := 27) (mi_ifne_f (tgt := 51) dX11_task_24 (by decide) h4) ?_
    refine Sg.go (pc' := 28) (mi_aload_n dX11_task_27 rfl) ?_
    refine Sg.go (pc' := 29) (mi_iload_n dX11_task_28 rfl) ?_
    refine Sg.go (pc' := 30) (mi_iconst (z := 0) dX11_task_29 rfl) ?_
    refine Sg.go (pc' := 32) (mi_bipush (z := 6) dX11_task_30 rfl) ?_
    refine Sg.callP (pc' := 35) (t := 0) (v := (B_X11_in v2 0 6)) (μ' := m_X11_in) (args := [(0, v2), (0, 0), (0, 6)]) (mi_invS (n := 3) dX11_task_32 rfl wN_X11_in rfl ⟨by decide, by decide⟩ wL_X11_121 wT_X11_in wB_X11 wC_X11_in) (C_X11_in hL v2 0 6 D3) (Nat.le_of_ble_eq_true rfl) rfl rfl ?_
    refine Sg.ite (fun h5 => ?_) (fun h5 => ?_)
    · refine Sg.go (pc' := 42) (mi_ifne_t (tgt := 42) dX11_task_35 (by decide) h5) ?_
      refine Sg.go (pc' := 43) (mi_iconst (z := 0) dX11_task_42 rfl) ?_
      exact S_X11_task_43 hL v1 v2 0 D3
    · refine Sg.go (pc' := 38) (mi_ifne_f (tgt := 42) dX11_task_35 (by decide) h5) ?_
      refine Sg.go (pc' := 39) (mi_iconst (z := 1) dX11_task_38 rfl) ?_
      refine Sg.go (pc' := 43) (mi_goto (tgt := 43) dX11_task_39 (by decide)) ?_
      exact S_X11_task_43 hL v1 v2 1 D3
def B_X11_task (v1 : Int) (v2 : Int) (D : MiD) : Option (Int × MiD) := mi_let (mi_st D 40 0 0 0) fun D1 => if (B_X11_isTask v1) ≠ 0 then (B_X11_task_19 v1 v2 0 D1) else (B_X11_task_19 v1 v2 1 D1)
set_option maxRecDepth 20000 in
theorem S_X11_task {Z : MiZ} (hL : ML Z) (v1 v2 : Int) (D : MiD) : Sg m_X11_task 0 [(42, 0), (0, v1), (0, v2)] [] (D, Z) (mi_LD 0 Z) (B_X11_task v1 v2 D) := by
  unfold B_X11_task
  refine Sg.go (pc' := 1) (mi_aload_n dX11_task_0 rfl) ?_
  refine Sg.go (pc' := 2) (mi_iconst (z := 0) dX11_task_1 rfl) ?_
  refine Sg.goM (pc' := 5) (mi_pfD (r := 40) (k := 0) (t := 0) dX11_task_2 hC_40 (by decide) rfl rfl wF_X11_78 (by omega) rfl (by decide) (Or.inl ⟨rfl, rfl⟩)) ?_
  refine Sg.letD (fun D1 hD1 => ?_)
  refine Sg.go (pc' := 6) (mi_aload_n dX11_task_5 rfl) ?_
  refine Sg.go (pc' := 7) (mi_aload_n dX11_task_6 rfl) ?_
  refine Sg.go (pc' := 8) (mi_iload_n dX11_task_7 rfl) ?_
  refine Sg.callP (pc' := 11) (t := 0) (v := (B_X11_isTask v1)) (μ' := m_X11_isTask) (args := [(42, 0), (0, v1)]) (mi_invV (n := 1) (r := 40) dX11_task_8 hC_40 (by omega) rfl rfl wN_X11_isTask rfl ⟨by decide, by decide⟩ wL_X11_398 wI_X11_isTask wS_X11_isTask wB_X11 wC_X11_isTask) (C_X11_isTask hL v1 D1) (Nat.le_of_ble_eq_true rfl) rfl rfl ?_
  refine Sg.ite (fun h2 => ?_) (fun h2 => ?_)
  · refine Sg.go (pc' := 18) (mi_ifne_t (tgt := 18) dX11_task_11 (by decide) h2) ?_
    refine Sg.go (pc' := 19) (mi_iconst (z := 0) dX11_task_18 rfl) ?_
    exact S_X11_task_19 hL v1 v2 0 D1
  · refine Sg.go (pc' := 14) (mi_ifne_f (tgt := 18) dX11_task_11 (by decide) h2) ?_
    refine Sg.go (pc' := 15) (mi_iconst (z := 1) dX11_task_14 rfl) ?_
    refine Sg.go (pc' := 19) (mi_goto (tgt := 19) dX11_task_15 (by decide)) ?_
    exact S_X11_task_19 hL v1 v2 1 D1
theorem C_X11_task {Z : MiZ} (hL : ML Z) (a1 a2 : Int) (D : MiD) (b : Int × MiD) (hb : B_X11_task a1 a2 D = some b) : MC m_X11_task [(42, 0), (0, a1), (0, a2)] (D, Z) ((mi_LD 0 Z) b) := MC.ofSg (L := (mi_LD 0 Z)) (μ := m_X11_task) (args := [(42, 0), (0, a1), (0, a2)]) (M := (D, Z)) rfl wP_X11 (Nat.le_of_ble_eq_true rfl) (show Sg m_X11_task 0 [(42, 0), (0, a1), (0, a2)] [] (D, Z) (mi_LD 0 Z) (B_X11_task a1 a2 D) from S_X11_task hL a1 a2 D) hb
abbrev m_X11_wordHere : MiI := (yX11_wordHere, cX11_wordHere, 4, (some .long), 3, none)
def B_X11_wordHere_9 : Nat → Int → Int → MiD → Option (Int × MiD)
  | 0, _, _, _ => none
  | f + 1, v1, v3, D => mi_bi (B_X11_byteAt D (mi_w ((D 40 0 4) + v3))) fun y1 => if (B_X11_isSmall y1) = 0 then (if v3 ≠ 0 then (some (v1, D)) else (some ((-1), D))) else (mi_bi (B_X11_byteAt D (mi_w ((D 40 0 4) + v3))) fun y4 => mi_let (mi_W ((mi_W ((mi_W ((mi_W (27 * v1)) + y4)) - 97)) + 1)) fun x5 => if (mi_w (v3 + 1)) ≤ 6 then (B_X11_wordHere_9 f x5 (mi_w (v3 + 1)) D) else (some ((-1), D)))
set_option maxRecDepth 20000 in
theorem S_X11_wordHere_9 {Z : MiZ} (hL : ML Z) : ∀ (f : Nat) (v1 v3 : Int) (D : MiD), Sg m_X11_wordHere 9 [(42, 0), (1, v1), mi_un, (0, v3)] [] (D, Z) (mi_LD 1 Z) (B_X11_wordHere_9 f v1 v3 D) := by
  intro f
  induction f with
  | zero => intros; exact Sg.nope
  | succ f K9 =>
    intro v1 v3 D
    show Sg m_X11_wordHere 9 [(42, 0), (1, v1), mi_un, (0, v3)] [] (D, Z) (mi_LD 1 Z) (mi_bi (B_X11_byteAt D (mi_w ((D 40 0 4) + v3))) fun y1 => if (B_X11_isSmall y1) = 0 then (if v3 ≠ 0 then (some (v1, D)) else (some ((-1), D))) else (mi_bi (B_X11_byteAt D (mi_w ((D 40 0 4) + v3))) fun y4 => mi_let (mi_W ((mi_W ((mi_W ((mi_W (27 * v1)) + y4)) - 97)) + 1)) fun x5 => if (mi_w (v3 + 1)) ≤ 6 then (B_X11_wordHere_9 f x5 (mi_w (v3 + 1)) D) else (some ((-1), D))))
    refine Sg.go (pc' := 10) (mi_aload_n dX11_wordHere_9 rfl) ?_
    refine Sg.go (pc' := 11) (mi_aload_n dX11_wordHere_10 rfl) ?_
    refine Sg.go (pc' := 14) (mi_gfI (r := 40) (k := 4) dX11_wordHere_11 hC_40 (by decide) rfl wF_X11_87 (by omega) rfl) ?_
    refine Sg.go (pc' := 15) (mi_iload_n dX11_wordHere_14 rfl) ?_
    refine Sg.go (pc' := 16) (mi_iadd dX11_wordHere_15) ?_
    refine Sg.callI (pc' := 19) (t := 0) (μ' := m_X11_byteAt) (args := [(42, 0), (0, (mi_w ((D 40 0 4) + v3)))]) (mi_invV (n := 1) (r := 40) dX11_wordHere_16 hC_40 (by omega) rfl rfl wN_X11_byteAt rfl ⟨by decide, by decide⟩ wL_X11_90 wI_X11_byteAt wS_X11_byteAt wB_X11 wC_X11_byteAt) (fun v hv => C_X11_byteAt hL (mi_w ((D 40 0 4) + v3)) D v hv) (Nat.le_of_ble_eq_true rfl) rfl rfl (fun y1 => ?_)
    refine Sg.callP (pc' := 22) (t := 0) (v := (B_X11_isSmall y1)) (μ' := m_X11_isSmall) (args := [(0, y1)]) (mi_invS (n := 1) dX11_wordHere_19 rfl wN_X11_isSmall rfl ⟨by decide, by decide⟩ wL_X11_125 wT_X11_isSmall wB_X11 wC_X11_isSmall) (C_X11_isSmall hL y1 D) (Nat.le_of_ble_eq_true rfl) rfl rfl ?_
    refine Sg.ite (fun h2 => ?_) (fun h2 => ?_)
    · refine Sg.go (pc' := 62) (mi_ifeq_t (tgt := 62) dX11_wordHere_22 (by decide) h2) ?_
      refine Sg.go (pc' := 63) (mi_iload_n dX11_wordHere_62 rfl) ?_
      refine Sg.ite (fun h3 => ?_) (fun h3 => ?_)
      · refine Sg.go (pc' := 72) (mi_ifne_t (tgt := 72) dX11_wordHere_63 (by decide) h3) ?_
        refine Sg.go (pc' := 73) (mi_lload_n dX11_wordHere_72 rfl) ?_
        exact Sg.ret (mi_lreturn dX11_wordHere_73 rfl)
      · refine Sg.go (pc' := 66) (mi_ifne_f (tgt := 72) dX11_wordHere_63 (by decide) h3) ?_
        refine Sg.go (pc' := 69) (mi_ldc2 (z := (-1)) dX11_wordHere_66 wK_X11_132 rfl) ?_
        refine Sg.go (pc' := 73) (mi_goto (tgt := 73) dX11_wordHere_69 (by decide)) ?_
        exact Sg.ret (mi_lreturn dX11_wordHere_73 rfl)
    · refine Sg.go (pc' := 25) (mi_ifeq_f (tgt := 62) dX11_wordHere_22 (by decide) h2) ?_
      refine Sg.go (pc' := 28) (mi_ldc2 (z := 27) dX11_wordHere_25 wK_X11_128 rfl) ?_
      refine Sg.go (pc' := 29) (mi_lload_n dX11_wordHere_28 rfl) ?_
      refine Sg.go (pc' := 30) (mi_lmul dX11_wordHere_29) ?_
      refine Sg.go (pc' := 31) (mi_aload_n dX11_wordHere_30 rfl) ?_
      refine Sg.go (pc' := 32) (mi_aload_n dX11_wordHere_31 rfl) ?_
      refine Sg.go (pc' := 35) (mi_gfI (r := 40) (k := 4) dX11_wordHere_32 hC_40 (by decide) rfl wF_X11_87 (by omega) rfl) ?_
      refine Sg.go (pc' := 36) (mi_iload_n dX11_wordHere_35 rfl) ?_
      refine Sg.go (pc' := 37) (mi_iadd dX11_wordHere_36) ?_
      refine Sg.callI (pc' := 40) (t := 0) (μ' := m_X11_byteAt) (args := [(42, 0), (0, (mi_w ((D 40 0 4) + v3)))]) (mi_invV (n := 1) (r := 40) dX11_wordHere_37 hC_40 (by omega) rfl rfl wN_X11_byteAt rfl ⟨by decide, by decide⟩ wL_X11_90 wI_X11_byteAt wS_X11_byteAt wB_X11 wC_X11_byteAt) (fun v hv => C_X11_byteAt hL (mi_w ((D 40 0 4) + v3)) D v hv) (Nat.le_of_ble_eq_true rfl) rfl rfl (fun y4 => ?_)
      refine Sg.go (pc' := 41) (mi_i2l dX11_wordHere_40) ?_
      refine Sg.go (pc' := 42) (mi_ladd dX11_wordHere_41) ?_
      refine Sg.go (pc' := 45) (mi_ldc2 (z := 97) dX11_wordHere_42 wK_X11_130 rfl) ?_
      refine Sg.go (pc' := 46) (mi_lsub dX11_wordHere_45) ?_
      refine Sg.go (pc' := 47) (mi_lconst (z := 1) dX11_wordHere_46 rfl) ?_
      refine Sg.go (pc' := 48) (mi_ladd dX11_wordHere_47) ?_
      refine Sg.letI (fun x5 hx5 => ?_)
      refine Sg.go (pc' := 49) (mi_lstore_n (ls1 := [(42, 0), (1, x5), mi_un, (0, v3)]) dX11_wordHere_48 (by decide) rfl) ?_
      refine Sg.go (pc' := 52) (mi_iinc (z := 1) (ls1 := [(42, 0), (1, x5), mi_un, (0, (mi_w (v3 + 1)))]) dX11_wordHere_49 (by decide) rfl rfl rfl) ?_
      refine Sg.go (pc' := 53) (mi_iload_n dX11_wordHere_52 rfl) ?_
      refine Sg.go (pc' := 55) (mi_bipush (z := 6) dX11_wordHere_53 rfl) ?_
      refine Sg.ite (fun h6 => ?_) (fun h6 => ?_)
      · refine Sg.go (pc' := 9) (mi_icmple_t (tgt := 9) dX11_wordHere_55 (by decide) h6) ?_
        exact K9 x5 (mi_w (v3 + 1)) D
      · refine Sg.go (pc' := 58) (mi_icmple_f (tgt := 9) dX11_wordHere_55 (by decide) h6) ?_
        refine Sg.go (pc' := 61) (mi_ldc2 (z := (-1)) dX11_wordHere_58 wK_X11_132 rfl) ?_
        exact Sg.ret (mi_lreturn dX11_wordHere_61 rfl)
def B_X11_wordHere (D : MiD) : Option (Int × MiD) := mi_b2 (B_X11_here_0 mi_fuel D) fun y1 D2 => B_X11_wordHere_9 mi_fuel 0 0 D2
set_option maxRecDepth 20000 in
theorem S_X11_wordHere {Z : MiZ} (hL : ML Z) (D : MiD) : Sg m_X11_wordHere 0 [(42, 0), mi_un, mi_un, mi_un] [] (D, Z) (mi_LD 1 Z) (B_X11_wordHere D) := by
  unfold B_X11_wordHere
  refine Sg.go (pc' := 1) (mi_aload_n dX11_wordHere_0 rfl) ?_
  refine Sg.callD (pc' := 4) (t := 0) (μ' := m_X11_here) (args := [(42, 0)]) (mi_invV (n := 0) (r := 40) dX11_wordHere_1 hC_40 (by omega) rfl rfl wN_X11_here rfl ⟨by decide, by decide⟩ wL_X11_104 wI_X11_here wS_X11_here wB_X11 wC_X11_here) (fun v hv => C_X11_here hL D v hv) (Nat.le_of_ble_eq_true rfl) rfl rfl (fun y1 D2 => ?_)
  refine Sg.go (pc' := 5) (mi_pop dX11_wordHere_4 (show (0 : Nat) ≠ 1 by decide)) ?_
  refine Sg.go (pc' := 6) (mi_lconst (z := 0) dX11_wordHere_5 rfl) ?_
  refine Sg.go (pc' := 7) (mi_lstore_n (ls1 := [(42, 0), (1, 0), mi_un, mi_un]) dX11_wordHere_6 (by decide) rfl) ?_
  refine Sg.go (pc' := 8) (mi_iconst (z := 0) dX11_wordHere_7 rfl) ?_
  refine Sg.go (pc' := 9) (mi_istore_n (ls1 := [(42, 0), (1, 0), mi_un, (0, 0)]) dX11_wordHere_8 (by decide) rfl) ?_
  exact S_X11_wordHere_9 hL mi_fuel 0 0 D2
theorem C_X11_wordHere {Z : MiZ} (hL : ML Z) (D : MiD) (b : Int × MiD) (hb : B_X11_wordHere D = some b) : MC m_X11_wordHere [(42, 0)] (D, Z) ((mi_LD 1 Z) b) := MC.ofSg (L := (mi_LD 1 Z)) (μ := m_X11_wordHere) (args := [(42, 0)]) (M := (D, Z)) rfl wP_X11 (Nat.le_of_ble_eq_true rfl) (show Sg m_X11_wordHere 0 [(42, 0), mi_un, mi_un, mi_un] [] (D, Z) (mi_LD 1 Z) (B_X11_wordHere D) from S_X11_wordHere hL D) hb
abbrev m_X11_get : MiI := (yX11_get, cX11_get, 5, (some .long), 4, none)
def B_X11_get_66 (s1 : Int) (s2 : Int) (s3 : Int) (D : MiD) : Option (Int × MiD) := mi_b2 (B_X11_gets s1 s2 s3 D) fun y1 D2 => if y1 ≤ 0 then (some ((D2 40 0 26), D2)) else (some ((mi_W (y1 - 1000000000)), D2))
set_option maxRecDepth 20000 in
theorem S_X11_get_66 {Z : MiZ} (hL : ML Z) (s1 s2 s3 : Int) (D : MiD) : Sg m_X11_get 66 [(42, 0), mi_un, mi_un, mi_un, mi_un] [(0, s3), (0, s2), (0, s1), (42, 0)] (D, Z) (mi_LD 1 Z) (B_X11_get_66 s1 s2 s3 D) := by
  unfold B_X11_get_66
  refine Sg.callD (pc' := 69) (t := 0) (μ' := m_X11_gets) (args := [(42, 0), (0, s1), (0, s2), (0, s3)]) (mi_invV (n := 3) (r := 40) dX11_get_66 hC_40 (by omega) rfl rfl wN_X11_gets rfl ⟨by decide, by decide⟩ wL_X11_317 wI_X11_gets wS_X11_gets wB_X11 wC_X11_gets) (fun v hv => C_X11_gets hL s1 s2 s3 D v hv) (Nat.le_of_ble_eq_true rfl) rfl rfl (fun y1 D2 => ?_)
  refine Sg.go (pc' := 71) (mi_istore (ls1 := [(42, 0), mi_un, mi_un, mi_un, (0, y1)]) dX11_get_69 (by decide) rfl) ?_
  refine Sg.go (pc' := 73) (mi_iload dX11_get_71 rfl) ?_
  refine Sg.ite (fun h3 => ?_) (fun h3 => ?_)
  · refine Sg.go (pc' := 86) (mi_ifle_t (tgt := 86) dX11_get_73 (by decide) h3) ?_
    refine Sg.go (pc' := 87) (mi_aload_n dX11_get_86 rfl) ?_
    refine Sg.go (pc' := 90) (mi_gfJ (r := 40) (k := 26) dX11_get_87 hC_40 (by decide) rfl wF_X11_300 (by omega) rfl) ?_
    exact Sg.ret (mi_lreturn dX11_get_90 rfl)
  · refine Sg.go (pc' := 76) (mi_ifle_f (tgt := 86) dX11_get_73 (by decide) h3) ?_
    refine Sg.go (pc' := 78) (mi_iload dX11_get_76 rfl) ?_
    refine Sg.go (pc' := 79) (mi_i2l dX11_get_78) ?_
    refine Sg.go (pc' := 82) (mi_ldc2 (z := 1000000000) dX11_get_79 wK_X11_419 rfl) ?_
    refine Sg.go (pc' := 83) (mi_lsub dX11_get_82) ?_
    refine Sg.go (pc' := 90) (mi_goto (tgt := 90) dX11_get_83 (by decide)) ?_
    exact Sg.ret (mi_lreturn dX11_get_90 rfl)
def B_X11_get_43 (v1 : Int) (v2 : Int) (v3 : Int) (s1 : Int) (D : MiD) : Option (Int × MiD) := if s1 = 0 ∨ s1 = 1 then (mi_b2 (B_X11_bad s1 2 1 D) fun y2 D3 => if y2 = 0 then (if 0 ≤ v3 then (B_X11_get_66 v1 v2 v3 D3) else (B_X11_get_66 v1 v2 9 D3)) else (some (0, D3))) else none
set_option maxRecDepth 20000 in
theorem S_X11_get_43 {Z : MiZ} (hL : ML Z) (v1 v2 v3 s1 : Int) (D : MiD) : Sg m_X11_get 43 [(42, 0), (0, v1), (0, v2), (0, v3), mi_un] [(0, s1), (42, 0)] (D, Z) (mi_LD 1 Z) (B_X11_get_43 v1 v2 v3 s1 D) := by
  unfold B_X11_get_43
  refine Sg.go (pc' := 44) (mi_iconst (z := 2) dX11_get_43 rfl) ?_
  refine Sg.go (pc' := 45) (mi_iconst (z := 1) dX11_get_44 rfl) ?_
  refine Sg.ck (fun hk1 => ?_)
  refine Sg.callD (pc' := 48) (t := 0) (μ' := m_X11_bad) (args := [(42, 0), (0, s1), (0, 2), (0, 1)]) (mi_invV (n := 3) (r := 40) dX11_get_45 hC_40 (by omega) rfl rfl wN_X11_bad rfl ⟨by decide, by decide⟩ wL_X11_229 wI_X11_bad wS_X11_bad wB_X11 wC_X11_bad) (fun v hv => C_X11_bad hL s1 2 1 D (hk1) v hv) (Nat.le_of_ble_eq_true rfl) rfl rfl (fun y2 D3 => ?_)
  refine Sg.ite (fun h4 => ?_) (fun h4 => ?_)
  · refine Sg.go (pc' := 53) (mi_ifeq_t (tgt := 53) dX11_get_48 (by decide) h4) ?_
    refine Sg.go (pc' := 54) (mi_aload_n dX11_get_53 rfl) ?_
    refine Sg.go (pc' := 55) (mi_iload_n dX11_get_54 rfl) ?_
    refine Sg.go (pc' := 56) (mi_iload_n dX11_get_55 rfl) ?_
    refine Sg.go (pc' := 57) (mi_iload_n dX11_get_56 rfl) ?_
    refine Sg.ite (fun h5 => ?_) (fun h5 => ?_)
    · refine Sg.go (pc' := 65) (mi_ifge_t (tgt := 65) dX11_get_57 (by decide) h5) ?_
      refine Sg.go (pc' := 66) (mi_iload_n dX11_get_65 rfl) ?_
      refine Sg.go (pc' := 66) (MiStep.weak (ls' := [(42, 0), mi_un, mi_un, mi_un, mi_un]) (mi_wk_y (mi_wk_n (mi_wk_n (mi_wk_n (mi_wk_y mi_wk_0)))))) ?_
      exact S_X11_get_66 hL v1 v2 v3 D3
    · refine Sg.go (pc' := 60) (mi_ifge_f (tgt := 65) dX11_get_57 (by decide) h5) ?_
      refine Sg.go (pc' := 62) (mi_bipush (z := 9) dX11_get_60 rfl) ?_
      refine Sg.go (pc' := 66) (mi_goto (tgt := 66) dX11_get_62 (by decide)) ?_
      refine Sg.go (pc' := 66) (MiStep.weak (ls' := [(42, 0), mi_un, mi_un, mi_un, mi_un]) (mi_wk_y (mi_wk_n (mi_wk_n (mi_wk_n (mi_wk_y mi_wk_0)))))) ?_
      exact S_X11_get_66 hL v1 v2 9 D3
  · refine Sg.go (pc' := 51) (mi_ifeq_f (tgt := 53) dX11_get_48 (by decide) h4) ?_
    refine Sg.go (pc' := 52) (mi_lconst (z := 0) dX11_get_51 rfl) ?_
    exact Sg.ret (mi_lreturn dX11_get_52 rfl)
def B_X11_get_19 (v1 : Int) (v2 : Int) (v3 : Int) (s1 : Int) (D : MiD) : Option (Int × MiD) := if s1 = 0 ∨ s1 = 1 then (mi_b2 (B_X11_bad s1 1 0 D) fun y2 D3 => if y2 ≠ 0 then (some (0, D3)) else (if (B_X11_in v1 0 7) ≠ 0 then (B_X11_get_43 v1 v2 v3 0 D3) else (B_X11_get_43 v1 v2 v3 1 D3))) else none
set_option maxRecDepth 20000 in
theorem S_X11_get_19 {Z : MiZ} (hL : ML Z) (v1 v2 v3 s1 : Int) (D : MiD) : Sg m_X11_get 19 [(42, 0), (0, v1), (0, v2), (0, v3), mi_un] [(0, s1), (42, 0)] (D, Z) (mi_LD 1 Z) (B_X11_get_19 v1 v2 v3 s1 D) := by
  unfold B_X11_get_19
  refine Sg.go (pc' := 20) (mi_iconst (z := 1) dX11_get_19 rfl) ?_
  refine Sg.go (pc' := 21) (mi_iconst (z := 0) dX11_get_20 rfl) ?_
  refine Sg.ck (fun hk1 => ?_)
  refine Sg.callD (pc' := 24) (t := 0) (μ' := m_X11_bad) (args := [(42, 0), (0, s1), (0, 1), (0, 0)]) (mi_invV (n := 3) (r := 40) dX11_get_21 hC_40 (by omega) rfl rfl wN_X11_bad rfl ⟨by decide, by decide⟩ wL_X11_229 wI_X11_bad wS_X11_bad wB_X11 wC_X11_bad) (fun v hv => C_X11_bad hL s1 1 0 D (hk1) v hv) (Nat.le_of_ble_eq_true rfl) rfl rfl (fun y2 D3 => ?_)
  refine Sg.ite (fun h4 => ?_) (fun h4 => ?_)
  · refine Sg.go (pc' := 51) (mi_ifne_t (tgt := 51) dX11_get_24 (by decide) h4) ?_
    refine Sg.go (pc' := 52) (mi_lconst (z := 0) dX11_get_51 rfl) ?_
    exact Sg.ret (mi_lreturn dX11_get_52 rfl)
  · refine Sg.go (pc' := 27) (mi_ifne_f (tgt := 51) dX11_get_24 (by decide) h4) ?_
    refine Sg.go (pc' := 28) (mi_aload_n dX11_get_27 rfl) ?_
    refine Sg.go (pc' := 29) (mi_iload_n dX11_get_28 rfl) ?_
    refine Sg.go (pc' := 30) (mi_iconst (z := 0) dX11_get_29 rfl) ?_
    refine Sg.go (pc' := 32) (mi_bipush (z := 7) dX11_get_30 rfl) ?_
    refine Sg.callP (pc' := 35) (t := 0) (v := (B_X11_in v1 0 7)) (μ' := m_X11_in) (args := [(0, v1), (0, 0), (0, 7)]) (mi_invS (n := 3) dX11_get_32 rfl wN_X11_in rfl ⟨by decide, by decide⟩ wL_X11_121 wT_X11_in wB_X11 wC_X11_in) (C_X11_in hL v1 0 7 D3) (Nat.le_of_ble_eq_true rfl) rfl rfl ?_
    refine Sg.ite (fun h5 => ?_) (fun h5 => ?_)
    · refine Sg.go (pc' := 42) (mi_ifne_t (tgt := 42) dX11_get_35 (by decide) h5) ?_
      refine Sg.go (pc' := 43) (mi_iconst (z := 0) dX11_get_42 rfl) ?_
      exact S_X11_get_43 hL v1 v2 v3 0 D3
    · refine Sg.go (pc' := 38) (mi_ifne_f (tgt := 42) dX11_get_35 (by decide) h5) ?_
      refine Sg.go (pc' := 39) (mi_iconst (z := 1) dX11_get_38 rfl) ?_
      refine Sg.go (pc' := 43) (mi_goto (tgt := 43) dX11_get_39 (by decide)) ?_
      exact S_X11_get_43 hL v1 v2 v3 1 D3
def B_X11_get (v1 : Int) (v2 : Int) (v3 : Int) (D : MiD) : Option (Int × MiD) := mi_let (mi_st D 40 0 0 0) fun D1 => if (B_X11_isDatum v2) ≠ 0 then (B_X11_get_19 v1 v2 v3 0 D1) else (B_X11_get_19 v1 v2 v3 1 D1)
set_option maxRecDepth 20000 in
theorem S_X11_get {Z : MiZ} (hL : ML Z) (v1 v2 v3 : Int) (D : MiD) : Sg m_X11_get 0 [(42, 0), (0, v1), (0, v2), (0, v3), mi_un] [] (D, Z) (mi_LD 1 Z) (B_X11_get v1 v2 v3 D) := by
  unfold B_X11_get
  refine Sg.go (pc' := 1) (mi_aload_n dX11_get_0 rfl) ?_
  refine Sg.go (pc' := 2) (mi_iconst (z := 0) dX11_get_1 rfl) ?_
  refine Sg.goM (pc' := 5) (mi_pfD (r := 40) (k := 0) (t := 0) dX11_get_2 hC_40 (by decide) rfl rfl wF_X11_78 (by omega) rfl (by decide) (Or.inl ⟨rfl, rfl⟩)) ?_
  refine Sg.letD (fun D1 hD1 => ?_)
  refine Sg.go (pc' := 6) (mi_aload_n dX11_get_5 rfl) ?_
  refine Sg.go (pc' := 7) (mi_aload_n dX11_get_6 rfl) ?_
  refine Sg.go (pc' := 8) (mi_iload_n dX11_get_7 rfl) ?_
  refine Sg.callP (pc' := 11) (t := 0) (v := (B_X11_isDatum v2)) (μ' := m_X11_isDatum) (args := [(42, 0), (0, v2)]) (mi_invV (n := 1) (r := 40) dX11_get_8 hC_40 (by omega) rfl rfl wN_X11_isDatum rfl ⟨by decide, by decide⟩ wL_X11_358 wI_X11_isDatum wS_X11_isDatum wB_X11 wC_X11_isDatum) (C_X11_isDatum hL v2 D1) (Nat.le_of_ble_eq_true rfl) rfl rfl ?_
  refine Sg.ite (fun h2 => ?_) (fun h2 => ?_)
  · refine Sg.go (pc' := 18) (mi_ifne_t (tgt := 18) dX11_get_11 (by decide) h2) ?_
    refine Sg.go (pc' := 19) (mi_iconst (z := 0) dX11_get_18 rfl) ?_
    exact S_X11_get_19 hL v1 v2 v3 0 D1
  · refine Sg.go (pc' := 14) (mi_ifne_f (tgt := 18) dX11_get_11 (by decide) h2) ?_
    refine Sg.go (pc' := 15) (mi_iconst (z := 1) dX11_get_14 rfl) ?_
    refine Sg.go (pc' := 19) (mi_goto (tgt := 19) dX11_get_15 (by decide)) ?_
    exact S_X11_get_19 hL v1 v2 v3 1 D1
theorem C_X11_get {Z : MiZ} (hL : ML Z) (a1 a2 a3 : Int) (D : MiD) (b : Int × MiD) (hb : B_X11_get a1 a2 a3 D = some b) : MC m_X11_get [(42, 0), (0, a1), (0, a2), (0, a3)] (D, Z) ((mi_LD 1 Z) b) := MC.ofSg (L := (mi_LD 1 Z)) (μ := m_X11_get) (args := [(42, 0), (0, a1), (0, a2), (0, a3)]) (M := (D, Z)) rfl wP_X11 (Nat.le_of_ble_eq_true rfl) (show Sg m_X11_get 0 [(42, 0), (0, a1), (0, a2), (0, a3), mi_un] [] (D, Z) (mi_LD 1 Z) (B_X11_get a1 a2 a3 D) from S_X11_get hL a1 a2 a3 D) hb
abbrev m_X11_move : MiI := (yX11_move, cX11_move, 6, (some .int), 4, none)
def B_X11_move_88 (s0 : Int) (s2 : Int) (s3 : Int) (s4 : Int) (s5 : Int) (D : MiD) : Option (Int × MiD) := mi_b2 (B_X11_puts s2 s3 s4 s5 D) fun y1 D2 => some ((mi_w (s0 + y1)), D2)
set_option maxRecDepth 20000 in
theorem S_X11_move_88 {Z : MiZ} (hL : ML Z) (s0 s2 s3 s4 s5 : Int) (D : MiD) : Sg m_X11_move 88 [mi_un, mi_un, mi_un, mi_un, mi_un, mi_un] [(0, s5), (0, s4), (1, s3), (0, s2), (42, 0), (0, s0)] (D, Z) (mi_LD 0 Z) (B_X11_move_88 s0 s2 s3 s4 s5 D) := by
  unfold B_X11_move_88
  refine Sg.callD (pc' := 91) (t := 0) (μ' := m_X11_puts) (args := [(42, 0), (0, s2), (1, s3), (0, s4), (0, s5)]) (mi_invV (n := 4) (r := 40) dX11_move_88 hC_40 (by omega) rfl rfl wN_X11_puts rfl ⟨by decide, by decide⟩ wL_X11_328 wI_X11_puts wS_X11_puts wB_X11 wC_X11_puts) (fun v hv => C_X11_puts hL s2 s3 s4 s5 D v hv) (Nat.le_of_ble_eq_true rfl) rfl rfl (fun y1 D2 => ?_)
  refine Sg.go (pc' := 92) (mi_iadd dX11_move_91) ?_
  exact Sg.ret (mi_ireturn dX11_move_92 rfl (Or.inl rfl))
def B_X11_move_49 (v3 : Int) (v4 : Int) (s1 : Int) (s2 : Int) (D : MiD) : Option (Int × MiD) := mi_b2 (B_X11_boxes s1 s2 D) fun y1 D2 => if y1 ≤ 0 then (if 0 ≤ v4 then (B_X11_move_88 10 (D2 40 0 25) (D2 40 0 26) v3 v4 D2) else (B_X11_move_88 10 (D2 40 0 25) (D2 40 0 26) v3 9 D2)) else (some (y1, D2))
set_option maxRecDepth 20000 in
theorem S_X11_move_49 {Z : MiZ} (hL : ML Z) (v3 v4 s1 s2 : Int) (D : MiD) : Sg m_X11_move 49 [(42, 0), mi_un, mi_un, (0, v3), (0, v4), mi_un] [(0, s2), (0, s1), (42, 0)] (D, Z) (mi_LD 0 Z) (B_X11_move_49 v3 v4 s1 s2 D) := by
  unfold B_X11_move_49
  refine Sg.callD (pc' := 52) (t := 0) (μ' := m_X11_boxes) (args := [(42, 0), (0, s1), (0, s2)]) (mi_invV (n := 2) (r := 40) dX11_move_49 hC_40 (by omega) rfl rfl wN_X11_boxes rfl ⟨by decide, by decide⟩ wL_X11_321 wI_X11_boxes wS_X11_boxes wB_X11 wC_X11_boxes) (fun v hv => C_X11_boxes hL s1 s2 D v hv) (Nat.le_of_ble_eq_true rfl) rfl rfl (fun y1 D2 => ?_)
  refine Sg.go (pc' := 54) (mi_istore (ls1 := [(42, 0), mi_un, mi_un, (0, v3), (0, v4), (0, y1)]) dX11_move_52 (by decide) rfl) ?_
  refine Sg.go (pc' := 56) (mi_iload dX11_move_54 rfl) ?_
  refine Sg.ite (fun h3 => ?_) (fun h3 => ?_)
  · refine Sg.go (pc' := 64) (mi_ifle_t (tgt := 64) dX11_move_56 (by decide) h3) ?_
    refine Sg.go (pc' := 66) (mi_bipush (z := 10) dX11_move_64 rfl) ?_
    refine Sg.go (pc' := 67) (mi_aload_n dX11_move_66 rfl) ?_
    refine Sg.go (pc' := 68) (mi_aload_n dX11_move_67 rfl) ?_
    refine Sg.go (pc' := 71) (mi_gfI (r := 40) (k := 25) dX11_move_68 hC_40 (by decide) rfl wF_X11_293 (by omega) rfl) ?_
    refine Sg.go (pc' := 72) (mi_aload_n dX11_move_71 rfl) ?_
    refine Sg.go (pc' := 75) (mi_gfJ (r := 40) (k := 26) dX11_move_72 hC_40 (by decide) rfl wF_X11_300 (by omega) rfl) ?_
    refine Sg.go (pc' := 76) (mi_iload_n dX11_move_75 rfl) ?_
    refine Sg.go (pc' := 78) (mi_iload dX11_move_76 rfl) ?_
    refine Sg.ite (fun h4 => ?_) (fun h4 => ?_)
    · refine Sg.go (pc' := 86) (mi_ifge_t (tgt := 86) dX11_move_78 (by decide) h4) ?_
      refine Sg.go (pc' := 88) (mi_iload dX11_move_86 rfl) ?_
      refine Sg.go (pc' := 88) (MiStep.weak (ls' := [mi_un, mi_un, mi_un, mi_un, mi_un, mi_un]) (mi_wk_n (mi_wk_y (mi_wk_y (mi_wk_n (mi_wk_n (mi_wk_n mi_wk_0))))))) ?_
      exact S_X11_move_88 hL 10 (D2 40 0 25) (D2 40 0 26) v3 v4 D2
    · refine Sg.go (pc' := 81) (mi_ifge_f (tgt := 86) dX11_move_78 (by decide) h4) ?_
      refine Sg.go (pc' := 83) (mi_bipush (z := 9) dX11_move_81 rfl) ?_
      refine Sg.go (pc' := 88) (mi_goto (tgt := 88) dX11_move_83 (by decide)) ?_
      refine Sg.go (pc' := 88) (MiStep.weak (ls' := [mi_un, mi_un, mi_un, mi_un, mi_un, mi_un]) (mi_wk_n (mi_wk_y (mi_wk_y (mi_wk_n (mi_wk_n (mi_wk_n mi_wk_0))))))) ?_
      exact S_X11_move_88 hL 10 (D2 40 0 25) (D2 40 0 26) v3 9 D2
  · refine Sg.go (pc' := 59) (mi_ifle_f (tgt := 64) dX11_move_56 (by decide) h3) ?_
    refine Sg.go (pc' := 61) (mi_iload dX11_move_59 rfl) ?_
    refine Sg.go (pc' := 92) (mi_goto (tgt := 92) dX11_move_61 (by decide)) ?_
    exact Sg.ret (mi_ireturn dX11_move_92 rfl (Or.inl rfl))
def B_X11_move_27 (v1 : Int) (v2 : Int) (v3 : Int) (v4 : Int) (s1 : Int) (D : MiD) : Option (Int × MiD) := if s1 = 0 ∨ s1 = 1 then (mi_b2 (B_X11_bad s1 1 0 D) fun y2 D3 => if y2 = 0 then (if 0 ≤ v2 then (B_X11_move_49 v3 v4 v1 v2 D3) else (B_X11_move_49 v3 v4 v1 9 D3)) else (some (0, D3))) else none
set_option maxRecDepth 20000 in
theorem S_X11_move_27 {Z : MiZ} (hL : ML Z) (v1 v2 v3 v4 s1 : Int) (D : MiD) : Sg m_X11_move 27 [(42, 0), (0, v1), (0, v2), (0, v3), (0, v4), mi_un] [(0, s1), (42, 0)] (D, Z) (mi_LD 0 Z) (B_X11_move_27 v1 v2 v3 v4 s1 D) := by
  unfold B_X11_move_27
  refine Sg.go (pc' := 28) (mi_iconst (z := 1) dX11_move_27 rfl) ?_
  refine Sg.go (pc' := 29) (mi_iconst (z := 0) dX11_move_28 rfl) ?_
  refine Sg.ck (fun hk1 => ?_)
  refine Sg.callD (pc' := 32) (t := 0) (μ' := m_X11_bad) (args := [(42, 0), (0, s1), (0, 1), (0, 0)]) (mi_invV (n := 3) (r := 40) dX11_move_29 hC_40 (by omega) rfl rfl wN_X11_bad rfl ⟨by decide, by decide⟩ wL_X11_229 wI_X11_bad wS_X11_bad wB_X11 wC_X11_bad) (fun v hv => C_X11_bad hL s1 1 0 D (hk1) v hv) (Nat.le_of_ble_eq_true rfl) rfl rfl (fun y2 D3 => ?_)
  refine Sg.ite (fun h4 => ?_) (fun h4 => ?_)
  · refine Sg.go (pc' := 37) (mi_ifeq_t (tgt := 37) dX11_move_32 (by decide) h4) ?_
    refine Sg.go (pc' := 38) (mi_aload_n dX11_move_37 rfl) ?_
    refine Sg.go (pc' := 39) (mi_iload_n dX11_move_38 rfl) ?_
    refine Sg.go (pc' := 40) (mi_iload_n dX11_move_39 rfl) ?_
    refine Sg.ite (fun h5 => ?_) (fun h5 => ?_)
    · refine Sg.go (pc' := 48) (mi_ifge_t (tgt := 48) dX11_move_40 (by decide) h5) ?_
      refine Sg.go (pc' := 49) (mi_iload_n dX11_move_48 rfl) ?_
      refine Sg.go (pc' := 49) (MiStep.weak (ls' := [(42, 0), mi_un, mi_un, (0, v3), (0, v4), mi_un]) (mi_wk_y (mi_wk_n (mi_wk_n (mi_wk_y (mi_wk_y (mi_wk_y mi_wk_0))))))) ?_
      exact S_X11_move_49 hL v3 v4 v1 v2 D3
    · refine Sg.go (pc' := 43) (mi_ifge_f (tgt := 48) dX11_move_40 (by decide) h5) ?_
      refine Sg.go (pc' := 45) (mi_bipush (z := 9) dX11_move_43 rfl) ?_
      refine Sg.go (pc' := 49) (mi_goto (tgt := 49) dX11_move_45 (by decide)) ?_
      refine Sg.go (pc' := 49) (MiStep.weak (ls' := [(42, 0), mi_un, mi_un, (0, v3), (0, v4), mi_un]) (mi_wk_y (mi_wk_n (mi_wk_n (mi_wk_y (mi_wk_y (mi_wk_y mi_wk_0))))))) ?_
      exact S_X11_move_49 hL v3 v4 v1 9 D3
  · refine Sg.go (pc' := 35) (mi_ifeq_f (tgt := 37) dX11_move_32 (by decide) h4) ?_
    refine Sg.go (pc' := 36) (mi_iconst (z := 0) dX11_move_35 rfl) ?_
    exact Sg.ret (mi_ireturn dX11_move_36 rfl (Or.inl rfl))
def B_X11_move_22 (v1 : Int) (v2 : Int) (v3 : Int) (v4 : Int) (D : MiD) : Option (Int × MiD) := B_X11_move_27 v1 v2 v3 v4 1 D
set_option maxRecDepth 20000 in
theorem S_X11_move_22 {Z : MiZ} (hL : ML Z) (v1 v2 v3 v4 : Int) (D : MiD) : Sg m_X11_move 22 [(42, 0), (0, v1), (0, v2), (0, v3), (0, v4), mi_un] [(42, 0)] (D, Z) (mi_LD 0 Z) (B_X11_move_22 v1 v2 v3 v4 D) := by
  unfold B_X11_move_22
  refine Sg.go (pc' := 23) (mi_iconst (z := 1) dX11_move_22 rfl) ?_
  refine Sg.go (pc' := 27) (mi_goto (tgt := 27) dX11_move_23 (by decide)) ?_
  exact S_X11_move_27 hL v1 v2 v3 v4 1 D
def B_X11_move (v1 : Int) (v2 : Int) (v3 : Int) (v4 : Int) (D : MiD) : Option (Int × MiD) := mi_let (mi_st D 40 0 0 0) fun D1 => if (B_X11_isDatum v1) = 0 then (B_X11_move_22 v1 v2 v3 v4 D1) else (if (B_X11_isDatum v3) ≠ 0 then (B_X11_move_27 v1 v2 v3 v4 0 D1) else (B_X11_move_22 v1 v2 v3 v4 D1))
set_option maxRecDepth 20000 in
theorem S_X11_move {Z : MiZ} (hL : ML Z) (v1 v2 v3 v4 : Int) (D : MiD) : Sg m_X11_move 0 [(42, 0), (0, v1), (0, v2), (0, v3), (0, v4), mi_un] [] (D, Z) (mi_LD 0 Z) (B_X11_move v1 v2 v3 v4 D) := by
  unfold B_X11_move
  refine Sg.go (pc' := 1) (mi_aload_n dX11_move_0 rfl) ?_
  refine Sg.go (pc' := 2) (mi_iconst (z := 0) dX11_move_1 rfl) ?_
  refine Sg.goM (pc' := 5) (mi_pfD (r := 40) (k := 0) (t := 0) dX11_move_2 hC_40 (by decide) rfl rfl wF_X11_78 (by omega) rfl (by decide) (Or.inl ⟨rfl, rfl⟩)) ?_
  refine Sg.letD (fun D1 hD1 => ?_)
  refine Sg.go (pc' := 6) (mi_aload_n dX11_move_5 rfl) ?_
  refine Sg.go (pc' := 7) (mi_aload_n dX11_move_6 rfl) ?_
  refine Sg.go (pc' := 8) (mi_iload_n dX11_move_7 rfl) ?_
  refine Sg.callP (pc' := 11) (t := 0) (v := (B_X11_isDatum v1)) (μ' := m_X11_isDatum) (args := [(42, 0), (0, v1)]) (mi_invV (n := 1) (r := 40) dX11_move_8 hC_40 (by omega) rfl rfl wN_X11_isDatum rfl ⟨by decide, by decide⟩ wL_X11_358 wI_X11_isDatum wS_X11_isDatum wB_X11 wC_X11_isDatum) (C_X11_isDatum hL v1 D1) (Nat.le_of_ble_eq_true rfl) rfl rfl ?_
  refine Sg.ite (fun h2 => ?_) (fun h2 => ?_)
  · refine Sg.go (pc' := 22) (mi_ifeq_t (tgt := 22) dX11_move_11 (by decide) h2) ?_
    exact S_X11_move_22 hL v1 v2 v3 v4 D1
  · refine Sg.go (pc' := 14) (mi_ifeq_f (tgt := 22) dX11_move_11 (by decide) h2) ?_
    refine Sg.go (pc' := 15) (mi_aload_n dX11_move_14 rfl) ?_
    refine Sg.go (pc' := 16) (mi_iload_n dX11_move_15 rfl) ?_
    refine Sg.callP (pc' := 19) (t := 0) (v := (B_X11_isDatum v3)) (μ' := m_X11_isDatum) (args := [(42, 0), (0, v3)]) (mi_invV (n := 1) (r := 40) dX11_move_16 hC_40 (by omega) rfl rfl wN_X11_isDatum rfl ⟨by decide, by decide⟩ wL_X11_358 wI_X11_isDatum wS_X11_isDatum wB_X11 wC_X11_isDatum) (C_X11_isDatum hL v3 D1) (Nat.le_of_ble_eq_true rfl) rfl rfl ?_
    refine Sg.ite (fun h3 => ?_) (fun h3 => ?_)
    · refine Sg.go (pc' := 26) (mi_ifne_t (tgt := 26) dX11_move_19 (by decide) h3) ?_
      refine Sg.go (pc' := 27) (mi_iconst (z := 0) dX11_move_26 rfl) ?_
      exact S_X11_move_27 hL v1 v2 v3 v4 0 D1
    · refine Sg.go (pc' := 22) (mi_ifne_f (tgt := 26) dX11_move_19 (by decide) h3) ?_
      exact S_X11_move_22 hL v1 v2 v3 v4 D1
theorem C_X11_move {Z : MiZ} (hL : ML Z) (a1 a2 a3 a4 : Int) (D : MiD) (b : Int × MiD) (hb : B_X11_move a1 a2 a3 a4 D = some b) : MC m_X11_move [(42, 0), (0, a1), (0, a2), (0, a3), (0, a4)] (D, Z) ((mi_LD 0 Z) b) := MC.ofSg (L := (mi_LD 0 Z)) (μ := m_X11_move) (args := [(42, 0), (0, a1), (0, a2), (0, a3), (0, a4)]) (M := (D, Z)) rfl wP_X11 (Nat.le_of_ble_eq_true rfl) (show Sg m_X11_move 0 [(42, 0), (0, a1), (0, a2), (0, a3), (0, a4), mi_un] [] (D, Z) (mi_LD 0 Z) (B_X11_move a1 a2 a3 a4 D) from S_X11_move hL a1 a2 a3 a4 D) hb
abbrev m_X11_readsText : MiI := (yX11_readsText, cX11_readsText, 4, none, 4, none)
def B_X11_readsText_22 (v1 : Int) (v2 : Int) (D : MiD) : Option (MiD) := mi_bi (B_X11_fine D) fun y1 => if y1 ≠ 0 then (mi_let (mi_st D 46 v1 1 (mi_w (mi_Div v2 19683))) fun D3 => mi_let (mi_st D3 46 v1 2 (mi_w (mi_Rem v2 19683))) fun D4 => mi_bi (B_X11_skipWord_0 mi_fuel D4) fun D5 => some D5) else (some D)
set_option maxRecDepth 20000 in
theorem S_X11_readsText_22 {Z : MiZ} (hL : ML Z) (v1 v2 : Int) (D : MiD) : (0 ≤ v1 ∧ v1 < 2664) → Sg m_X11_readsText 22 [(42, 0), (48, v1), (1, v2), mi_un] [] (D, Z) (mi_LV Z) (B_X11_readsText_22 v1 v2 D) := by
  intro hb1
  unfold B_X11_readsText_22
  refine Sg.go (pc' := 23) (mi_aload_n dX11_readsText_22 rfl) ?_
  refine Sg.callI (pc' := 26) (t := 0) (μ' := m_X11_fine) (args := [(42, 0)]) (mi_invV (n := 0) (r := 40) dX11_readsText_23 hC_40 (by omega) rfl rfl wN_X11_fine rfl ⟨by decide, by decide⟩ wL_X11_100 wI_X11_fine wS_X11_fine wB_X11 wC_X11_fine) (fun v hv => C_X11_fine hL D v hv) (Nat.le_of_ble_eq_true rfl) rfl rfl (fun y1 => ?_)
  refine Sg.ite (fun h2 => ?_) (fun h2 => ?_)
  · refine Sg.go (pc' := 30) (mi_ifne_t (tgt := 30) dX11_readsText_26 (by decide) h2) ?_
    refine Sg.go (pc' := 31) (mi_aload_n dX11_readsText_30 rfl) ?_
    refine Sg.go (pc' := 32) (mi_iconst (z := 1) dX11_readsText_31 rfl) ?_
    refine Sg.go (pc' := 33) (mi_lload_n dX11_readsText_32 rfl) ?_
    refine Sg.go (pc' := 36) (mi_ldc2 (z := 19683) dX11_readsText_33 wK_X11_214 rfl) ?_
    refine Sg.go (pc' := 37) (mi_ldiv dX11_readsText_36 (by decide)) ?_
    refine Sg.go (pc' := 38) (mi_l2i dX11_readsText_37) ?_
    refine Sg.goM (pc' := 39) (mi_iast (n := 6) dX11_readsText_38 rfl rfl (by omega) (by decide)) ?_
    refine Sg.letD (fun D3 hD3 => ?_)
    refine Sg.go (pc' := 40) (mi_aload_n dX11_readsText_39 rfl) ?_
    refine Sg.go (pc' := 41) (mi_iconst (z := 2) dX11_readsText_40 rfl) ?_
    refine Sg.go (pc' := 42) (mi_lload_n dX11_readsText_41 rfl) ?_
    refine Sg.go (pc' := 45) (mi_ldc2 (z := 19683) dX11_readsText_42 wK_X11_214 rfl) ?_
    refine Sg.go (pc' := 46) (mi_lrem_ dX11_readsText_45 (by decide)) ?_
    refine Sg.go (pc' := 47) (mi_l2i dX11_readsText_46) ?_
    refine Sg.goM (pc' := 48) (mi_iast (n := 6) dX11_readsText_47 rfl rfl (by omega) (by decide)) ?_
    refine Sg.letD (fun D4 hD4 => ?_)
    refine Sg.go (pc' := 49) (mi_aload_n dX11_readsText_48 rfl) ?_
    refine Sg.callV (pc' := 52) (μ' := m_X11_skipWord) (args := [(42, 0)]) (mi_invV (n := 0) (r := 40) dX11_readsText_49 hC_40 (by omega) rfl rfl wN_X11_skipWord rfl ⟨by decide, by decide⟩ wL_X11_151 wI_X11_skipWord wS_X11_skipWord wB_X11 wC_X11_skipWord) (fun v hv => C_X11_skipWord hL D4 v hv) (Nat.le_of_ble_eq_true rfl) rfl rfl (fun D5 => ?_)
    exact Sg.ret (mi_return dX11_readsText_52 rfl (0, 0))
  · refine Sg.go (pc' := 29) (mi_ifne_f (tgt := 30) dX11_readsText_26 (by decide) h2) ?_
    exact Sg.ret (mi_return dX11_readsText_29 rfl (0, 0))
def B_X11_readsText (v1 : Int) (D : MiD) : Option (MiD) := mi_b2 (B_X11_wordHere D) fun y1 D2 => if (mi_cmp y1 (-1)) ≠ 0 then (B_X11_readsText_22 v1 y1 D2) else (mi_bi (B_X11_wrong 1 (D2 40 0 4) D2) fun D4 => B_X11_readsText_22 v1 y1 D4)
set_option maxRecDepth 20000 in
theorem S_X11_readsText {Z : MiZ} (hL : ML Z) (v1 : Int) (D : MiD) : (0 ≤ v1 ∧ v1 < 2664) → Sg m_X11_readsText 0 [(42, 0), (48, v1), mi_un, mi_un] [] (D, Z) (mi_LV Z) (B_X11_readsText v1 D) := by
  intro hb1
  unfold B_X11_readsText
  refine Sg.go (pc' := 1) (mi_aload_n dX11_readsText_0 rfl) ?_
  refine Sg.callD (pc' := 4) (t := 1) (μ' := m_X11_wordHere) (args := [(42, 0)]) (mi_invV (n := 0) (r := 40) dX11_readsText_1 hC_40 (by omega) rfl rfl wN_X11_wordHere rfl ⟨by decide, by decide⟩ wL_X11_143 wI_X11_wordHere wS_X11_wordHere wB_X11 wC_X11_wordHere) (fun v hv => C_X11_wordHere hL D v hv) (Nat.le_of_ble_eq_true rfl) rfl rfl (fun y1 D2 => ?_)
  refine Sg.go (pc' := 5) (mi_lstore_n (ls1 := [(42, 0), (48, v1), (1, y1), mi_un]) dX11_readsText_4 (by decide) rfl) ?_
  refine Sg.go (pc' := 6) (mi_lload_n dX11_readsText_5 rfl) ?_
  refine Sg.go (pc' := 9) (mi_ldc2 (z := (-1)) dX11_readsText_6 wK_X11_132 rfl) ?_
  refine Sg.go (pc' := 10) (mi_lcmp dX11_readsText_9) ?_
  refine Sg.ite (fun h3 => ?_) (fun h3 => ?_)
  · refine Sg.go (pc' := 22) (mi_ifne_t (tgt := 22) dX11_readsText_10 (by decide) h3) ?_
    exact S_X11_readsText_22 hL v1 y1 D2 hb1
  · refine Sg.go (pc' := 13) (mi_ifne_f (tgt := 22) dX11_readsText_10 (by decide) h3) ?_
    refine Sg.go (pc' := 14) (mi_aload_n dX11_readsText_13 rfl) ?_
    refine Sg.go (pc' := 15) (mi_iconst (z := 1) dX11_readsText_14 rfl) ?_
    refine Sg.go (pc' := 16) (mi_aload_n dX11_readsText_15 rfl) ?_
    refine Sg.go (pc' := 19) (mi_gfI (r := 40) (k := 4) dX11_readsText_16 hC_40 (by decide) rfl wF_X11_87 (by omega) rfl) ?_
    refine Sg.callV (pc' := 22) (μ' := m_X11_wrong) (args := [(42, 0), (0, 1), (0, (D2 40 0 4))]) (mi_invV (n := 2) (r := 40) dX11_readsText_19 hC_40 (by omega) rfl rfl wN_X11_wrong rfl ⟨by decide, by decide⟩ wL_X11_112 wI_X11_wrong wS_X11_wrong wB_X11 wC_X11_wrong) (fun v hv => C_X11_wrong hL 1 (D2 40 0 4) D2 v hv) (Nat.le_of_ble_eq_true rfl) rfl rfl (fun D4 => ?_)
    exact S_X11_readsText_22 hL v1 y1 D4 hb1
theorem C_X11_readsText {Z : MiZ} (hL : ML Z) (a1 : Int) (D : MiD) (h0 : (0 ≤ a1 ∧ a1 < 2664)) (b : MiD) (hb : B_X11_readsText a1 D = some b) : MC m_X11_readsText [(42, 0), (48, a1)] (D, Z) ((mi_LV Z) b) := MC.ofSg (L := (mi_LV Z)) (μ := m_X11_readsText) (args := [(42, 0), (48, a1)]) (M := (D, Z)) rfl wP_X11 (Nat.le_of_ble_eq_true rfl) (show Sg m_X11_readsText 0 [(42, 0), (48, a1), mi_un, mi_un] [] (D, Z) (mi_LV Z) (B_X11_readsText a1 D) from S_X11_readsText hL a1 D h0) hb
abbrev m_X11_rowHere : MiI := (yX11_rowHere, cX11_rowHere, 2, (some .int), 4, none)
def B_X11_rowHere (D : MiD) : Option (Int × MiD) := mi_b2 (B_X11_number 0 9 D) fun y1 D2 => mi_bi (B_X11_fine D2) fun y3 => if y3 = 0 then (some (y1, D2)) else (mi_b2 (B_X11_here_0 mi_fuel D2) fun y5 D6 => if y5 = 46 then (mi_let (mi_st D6 40 0 4 (mi_w ((D6 40 0 4) + 1))) fun D8 => mi_b2 (B_X11_number 0 4 D8) fun y9 D10 => some ((mi_w ((mi_w (10 + (mi_w (5 * y1)))) + y9)), D10)) else (some (y1, D6)))
set_option maxRecDepth 20000 in
theorem S_X11_rowHere {Z : MiZ} (hL : ML Z) (D : MiD) : Sg m_X11_rowHere 0 [(42, 0), mi_un] [] (D, Z) (mi_LD 0 Z) (B_X11_rowHere D) := by
  unfold B_X11_rowHere
  refine Sg.go (pc' := 1) (mi_aload_n dX11_rowHere_0 rfl) ?_
  refine Sg.go (pc' := 2) (mi_iconst (z := 0) dX11_rowHere_1 rfl) ?_
  refine Sg.go (pc' := 4) (mi_bipush (z := 9) dX11_rowHere_2 rfl) ?_
  refine Sg.callD (pc' := 7) (t := 0) (μ' := m_X11_number) (args := [(42, 0), (0, 0), (0, 9)]) (mi_invV (n := 2) (r := 40) dX11_rowHere_4 hC_40 (by omega) rfl rfl wN_X11_number rfl ⟨by decide, by decide⟩ wL_X11_194 wI_X11_number wS_X11_number wB_X11 wC_X11_number) (fun v hv => C_X11_number hL 0 9 D v hv) (Nat.le_of_ble_eq_true rfl) rfl rfl (fun y1 D2 => ?_)
  refine Sg.go (pc' := 8) (mi_istore_n (ls1 := [(42, 0), (0, y1)]) dX11_rowHere_7 (by decide) rfl) ?_
  refine Sg.go (pc' := 9) (mi_aload_n dX11_rowHere_8 rfl) ?_
  refine Sg.callI (pc' := 12) (t := 0) (μ' := m_X11_fine) (args := [(42, 0)]) (mi_invV (n := 0) (r := 40) dX11_rowHere_9 hC_40 (by omega) rfl rfl wN_X11_fine rfl ⟨by decide, by decide⟩ wL_X11_100 wI_X11_fine wS_X11_fine wB_X11 wC_X11_fine) (fun v hv => C_X11_fine hL D2 v hv) (Nat.le_of_ble_eq_true rfl) rfl rfl (fun y3 => ?_)
  refine Sg.ite (fun h4 => ?_) (fun h4 => ?_)
  · refine Sg.go (pc' := 24) (mi_ifeq_t (tgt := 24) dX11_rowHere_12 (by decide) h4) ?_
    refine Sg.go (pc' := 25) (mi_iload_n dX11_rowHere_24 rfl) ?_
    exact Sg.ret (mi_ireturn dX11_rowHere_25 rfl (Or.inl rfl))
  · refine Sg.go (pc' := 15) (mi_ifeq_f (tgt := 24) dX11_rowHere_12 (by decide) h4) ?_
    refine Sg.go (pc' := 16) (mi_aload_n dX11_rowHere_15 rfl) ?_
    refine Sg.callD (pc' := 19) (t := 0) (μ' := m_X11_here) (args := [(42, 0)]) (mi_invV (n := 0) (r := 40) dX11_rowHere_16 hC_40 (by omega) rfl rfl wN_X11_here rfl ⟨by decide, by decide⟩ wL_X11_104 wI_X11_here wS_X11_here wB_X11 wC_X11_here) (fun v hv => C_X11_here hL D2 v hv) (Nat.le_of_ble_eq_true rfl) rfl rfl (fun y5 D6 => ?_)
    refine Sg.go (pc' := 21) (mi_bipush (z := 46) dX11_rowHere_19 rfl) ?_
    refine Sg.ite (fun h7 => ?_) (fun h7 => ?_)
    · refine Sg.go (pc' := 26) (mi_icmpeq_t (tgt := 26) dX11_rowHere_21 (by decide) h7) ?_
      refine Sg.go (pc' := 27) (mi_aload_n dX11_rowHere_26 rfl) ?_
      refine Sg.go (pc' := 28) (mi_dup dX11_rowHere_27 (show (42 : Nat) ≠ 1 by decide)) ?_
      refine Sg.go (pc' := 31) (mi_gfI (r := 40) (k := 4) dX11_rowHere_28 hC_40 (by decide) rfl wF_X11_87 (by omega) rfl) ?_
      refine Sg.go (pc' := 32) (mi_iconst (z := 1) dX11_rowHere_31 rfl) ?_
      refine Sg.go (pc' := 33) (mi_iadd dX11_rowHere_32) ?_
      refine Sg.goM (pc' := 36) (mi_pfD (r := 40) (k := 4) (t := 0) dX11_rowHere_33 hC_40 (by decide) rfl rfl wF_X11_87 (by omega) rfl (by decide) (Or.inl ⟨rfl, rfl⟩)) ?_
      refine Sg.letD (fun D8 hD8 => ?_)
      refine Sg.go (pc' := 38) (mi_bipush (z := 10) dX11_rowHere_36 rfl) ?_
      refine Sg.go (pc' := 39) (mi_iconst (z := 5) dX11_rowHere_38 rfl) ?_
      refine Sg.go (pc' := 40) (mi_iload_n dX11_rowHere_39 rfl) ?_
      refine Sg.go (pc' := 41) (mi_imul dX11_rowHere_40) ?_
      refine Sg.go (pc' := 42) (mi_iadd dX11_rowHere_41) ?_
      refine Sg.go (pc' := 43) (mi_aload_n dX11_rowHere_42 rfl) ?_
      refine Sg.go (pc' := 44) (mi_iconst (z := 0) dX11_rowHere_43 rfl) ?_
      refine Sg.go (pc' := 45) (mi_iconst (z := 4) dX11_rowHere_44 rfl) ?_
      refine Sg.callD (pc' := 48) (t := 0) (μ' := m_X11_number) (args := [(42, 0), (0, 0), (0, 4)]) (mi_invV (n := 2) (r := 40) dX11_rowHere_45 hC_40 (by omega) rfl rfl wN_X11_number rfl ⟨by decide, by decide⟩ wL_X11_194 wI_X11_number wS_X11_number wB_X11 wC_X11_number) (fun v hv => C_X11_number hL 0 4 D8 v hv) (Nat.le_of_ble_eq_true rfl) rfl rfl (fun y9 D10 => ?_)
      refine Sg.go (pc' := 49) (mi_iadd dX11_rowHere_48) ?_
      exact Sg.ret (mi_ireturn dX11_rowHere_49 rfl (Or.inl rfl))
    · refine Sg.go (pc' := 24) (mi_icmpeq_f (tgt := 26) dX11_rowHere_21 (by decide) h7) ?_
      refine Sg.go (pc' := 25) (mi_iload_n dX11_rowHere_24 rfl) ?_
      exact Sg.ret (mi_ireturn dX11_rowHere_25 rfl (Or.inl rfl))
theorem C_X11_rowHere {Z : MiZ} (hL : ML Z) (D : MiD) (b : Int × MiD) (hb : B_X11_rowHere D = some b) : MC m_X11_rowHere [(42, 0)] (D, Z) ((mi_LD 0 Z) b) := MC.ofSg (L := (mi_LD 0 Z)) (μ := m_X11_rowHere) (args := [(42, 0)]) (M := (D, Z)) rfl wP_X11 (Nat.le_of_ble_eq_true rfl) (show Sg m_X11_rowHere 0 [(42, 0), mi_un] [] (D, Z) (mi_LD 0 Z) (B_X11_rowHere D) from S_X11_rowHere hL D) hb
abbrev m_X11_set : MiI := (yX11_set, cX11_set, 5, (some .int), 4, none)
def B_X11_set_79 (v4 : Int) (s1 : Int) (s2 : Int) (s3 : Int) (D : MiD) : Option (Int × MiD) := mi_b2 (B_X11_sets s1 s2 s3 v4 D) fun y1 D2 => some (y1, D2)
set_option maxRecDepth 20000 in
theorem S_X11_set_79 {Z : MiZ} (hL : ML Z) (v4 s1 s2 s3 : Int) (D : MiD) : Sg m_X11_set 79 [mi_un, mi_un, mi_un, mi_un, (0, v4)] [(0, s3), (0, s2), (0, s1), (42, 0)] (D, Z) (mi_LD 0 Z) (B_X11_set_79 v4 s1 s2 s3 D) := by
  unfold B_X11_set_79
  refine Sg.go (pc' := 81) (mi_iload dX11_set_79 rfl) ?_
  refine Sg.callD (pc' := 84) (t := 0) (μ' := m_X11_sets) (args := [(42, 0), (0, s1), (0, s2), (0, s3), (0, v4)]) (mi_invV (n := 4) (r := 40) dX11_set_81 hC_40 (by omega) rfl rfl wN_X11_sets rfl ⟨by decide, by decide⟩ wL_X11_324 wI_X11_sets wS_X11_sets wB_X11 wC_X11_sets) (fun v hv => C_X11_sets hL s1 s2 s3 v4 D v hv) (Nat.le_of_ble_eq_true rfl) rfl rfl (fun y1 D2 => ?_)
  exact Sg.ret (mi_ireturn dX11_set_84 rfl (Or.inl rfl))
def B_X11_set_56 (v1 : Int) (v2 : Int) (v3 : Int) (v4 : Int) (s1 : Int) (D : MiD) : Option (Int × MiD) := if s1 = 0 ∨ s1 = 1 then (mi_b2 (B_X11_bad s1 2 1 D) fun y2 D3 => if y2 = 0 then (if 0 ≤ v3 then (B_X11_set_79 v4 v1 v2 v3 D3) else (B_X11_set_79 v4 v1 v2 9 D3)) else (some (0, D3))) else none
set_option maxRecDepth 20000 in
theorem S_X11_set_56 {Z : MiZ} (hL : ML Z) (v1 v2 v3 v4 s1 : Int) (D : MiD) : Sg m_X11_set 56 [(42, 0), (0, v1), (0, v2), (0, v3), (0, v4)] [(0, s1), (42, 0)] (D, Z) (mi_LD 0 Z) (B_X11_set_56 v1 v2 v3 v4 s1 D) := by
  unfold B_X11_set_56
  refine Sg.go (pc' := 57) (mi_iconst (z := 2) dX11_set_56 rfl) ?_
  refine Sg.go (pc' := 58) (mi_iconst (z := 1) dX11_set_57 rfl) ?_
  refine Sg.ck (fun hk1 => ?_)
  refine Sg.callD (pc' := 61) (t := 0) (μ' := m_X11_bad) (args := [(42, 0), (0, s1), (0, 2), (0, 1)]) (mi_invV (n := 3) (r := 40) dX11_set_58 hC_40 (by omega) rfl rfl wN_X11_bad rfl ⟨by decide, by decide⟩ wL_X11_229 wI_X11_bad wS_X11_bad wB_X11 wC_X11_bad) (fun v hv => C_X11_bad hL s1 2 1 D (hk1) v hv) (Nat.le_of_ble_eq_true rfl) rfl rfl (fun y2 D3 => ?_)
  refine Sg.ite (fun h4 => ?_) (fun h4 => ?_)
  · refine Sg.go (pc' := 66) (mi_ifeq_t (tgt := 66) dX11_set_61 (by decide) h4) ?_
    refine Sg.go (pc' := 67) (mi_aload_n dX11_set_66 rfl) ?_
    refine Sg.go (pc' := 68) (mi_iload_n dX11_set_67 rfl) ?_
    refine Sg.go (pc' := 69) (mi_iload_n dX11_set_68 rfl) ?_
    refine Sg.go (pc' := 70) (mi_iload_n dX11_set_69 rfl) ?_
    refine Sg.ite (fun h5 => ?_) (fun h5 => ?_)
    · refine Sg.go (pc' := 78) (mi_ifge_t (tgt := 78) dX11_set_70 (by decide) h5) ?_
      refine Sg.go (pc' := 79) (mi_iload_n dX11_set_78 rfl) ?_
      refine Sg.go (pc' := 79) (MiStep.weak (ls' := [mi_un, mi_un, mi_un, mi_un, (0, v4)]) (mi_wk_n (mi_wk_n (mi_wk_n (mi_wk_n (mi_wk_y mi_wk_0)))))) ?_
      exact S_X11_set_79 hL v4 v1 v2 v3 D3
    · refine Sg.go (pc' := 73) (mi_ifge_f (tgt := 78) dX11_set_70 (by decide) h5) ?_
      refine Sg.go (pc' := 75) (mi_bipush (z := 9) dX11_set_73 rfl) ?_
      refine Sg.go (pc' := 79) (mi_goto (tgt := 79) dX11_set_75 (by decide)) ?_
      refine Sg.go (pc' := 79) (MiStep.weak (ls' := [mi_un, mi_un, mi_un, mi_un, (0, v4)]) (mi_wk_n (mi_wk_n (mi_wk_n (mi_wk_n (mi_wk_y mi_wk_0)))))) ?_
      exact S_X11_set_79 hL v4 v1 v2 9 D3
  · refine Sg.go (pc' := 64) (mi_ifeq_f (tgt := 66) dX11_set_61 (by decide) h4) ?_
    refine Sg.go (pc' := 65) (mi_iconst (z := 0) dX11_set_64 rfl) ?_
    exact Sg.ret (mi_ireturn dX11_set_65 rfl (Or.inl rfl))
def B_X11_set_51 (v1 : Int) (v2 : Int) (v3 : Int) (v4 : Int) (D : MiD) : Option (Int × MiD) := B_X11_set_56 v1 v2 v3 v4 1 D
set_option maxRecDepth 20000 in
theorem S_X11_set_51 {Z : MiZ} (hL : ML Z) (v1 v2 v3 v4 : Int) (D : MiD) : Sg m_X11_set 51 [(42, 0), (0, v1), (0, v2), (0, v3), (0, v4)] [(42, 0)] (D, Z) (mi_LD 0 Z) (B_X11_set_51 v1 v2 v3 v4 D) := by
  unfold B_X11_set_51
  refine Sg.go (pc' := 52) (mi_iconst (z := 1) dX11_set_51 rfl) ?_
  refine Sg.go (pc' := 56) (mi_goto (tgt := 56) dX11_set_52 (by decide)) ?_
  exact S_X11_set_56 hL v1 v2 v3 v4 1 D
def B_X11_set_19 (v1 : Int) (v2 : Int) (v3 : Int) (v4 : Int) (s1 : Int) (D : MiD) : Option (Int × MiD) := if s1 = 0 ∨ s1 = 1 then (mi_b2 (B_X11_bad s1 1 0 D) fun y2 D3 => if y2 ≠ 0 then (some (0, D3)) else (if (B_X11_in v1 0 7) = 0 then (B_X11_set_51 v1 v2 v3 v4 D3) else (if (B_X11_in v4 (-99999) 99999) ≠ 0 then (B_X11_set_56 v1 v2 v3 v4 0 D3) else (B_X11_set_51 v1 v2 v3 v4 D3)))) else none
set_option maxRecDepth 20000 in
theorem S_X11_set_19 {Z : MiZ} (hL : ML Z) (v1 v2 v3 v4 s1 : Int) (D : MiD) : Sg m_X11_set 19 [(42, 0), (0, v1), (0, v2), (0, v3), (0, v4)] [(0, s1), (42, 0)] (D, Z) (mi_LD 0 Z) (B_X11_set_19 v1 v2 v3 v4 s1 D) := by
  unfold B_X11_set_19
  refine Sg.go (pc' := 20) (mi_iconst (z := 1) dX11_set_19 rfl) ?_
  refine Sg.go (pc' := 21) (mi_iconst (z := 0) dX11_set_20 rfl) ?_
  refine Sg.ck (fun hk1 => ?_)
  refine Sg.callD (pc' := 24) (t := 0) (μ' := m_X11_bad) (args := [(42, 0), (0, s1), (0, 1), (0, 0)]) (mi_invV (n := 3) (r := 40) dX11_set_21 hC_40 (by omega) rfl rfl wN_X11_bad rfl ⟨by decide, by decide⟩ wL_X11_229 wI_X11_bad wS_X11_bad wB_X11 wC_X11_bad) (fun v hv => C_X11_bad hL s1 1 0 D (hk1) v hv) (Nat.le_of_ble_eq_true rfl) rfl rfl (fun y2 D3 => ?_)
  refine Sg.ite (fun h4 => ?_) (fun h4 => ?_)
  · refine Sg.go (pc' := 64) (mi_ifne_t (tgt := 64) dX11_set_24 (by decide) h4) ?_
    refine Sg.go (pc' := 65) (mi_iconst (z := 0) dX11_set_64 rfl) ?_
    exact Sg.ret (mi_ireturn dX11_set_65 rfl (Or.inl rfl))
  · refine Sg.go (pc' := 27) (mi_ifne_f (tgt := 64) dX11_set_24 (by decide) h4) ?_
    refine Sg.go (pc' := 28) (mi_aload_n dX11_set_27 rfl) ?_
    refine Sg.go (pc' := 29) (mi_iload_n dX11_set_28 rfl) ?_
    refine Sg.go (pc' := 30) (mi_iconst (z := 0) dX11_set_29 rfl) ?_
    refine Sg.go (pc' := 32) (mi_bipush (z := 7) dX11_set_30 rfl) ?_
    refine Sg.callP (pc' := 35) (t := 0) (v := (B_X11_in v1 0 7)) (μ' := m_X11_in) (args := [(0, v1), (0, 0), (0, 7)]) (mi_invS (n := 3) dX11_set_32 rfl wN_X11_in rfl ⟨by decide, by decide⟩ wL_X11_121 wT_X11_in wB_X11 wC_X11_in) (C_X11_in hL v1 0 7 D3) (Nat.le_of_ble_eq_true rfl) rfl rfl ?_
    refine Sg.ite (fun h5 => ?_) (fun h5 => ?_)
    · refine Sg.go (pc' := 51) (mi_ifeq_t (tgt := 51) dX11_set_35 (by decide) h5) ?_
      exact S_X11_set_51 hL v1 v2 v3 v4 D3
    · refine Sg.go (pc' := 38) (mi_ifeq_f (tgt := 51) dX11_set_35 (by decide) h5) ?_
      refine Sg.go (pc' := 40) (mi_iload dX11_set_38 rfl) ?_
      refine Sg.go (pc' := 43) (mi_ldcw (z := (-99999)) dX11_set_40 wK_X11_421 rfl) ?_
      refine Sg.go (pc' := 45) (mi_ldc (z := 99999) dX11_set_43 wK_X11_196 rfl) ?_
      refine Sg.callP (pc' := 48) (t := 0) (v := (B_X11_in v4 (-99999) 99999)) (μ' := m_X11_in) (args := [(0, v4), (0, (-99999)), (0, 99999)]) (mi_invS (n := 3) dX11_set_45 rfl wN_X11_in rfl ⟨by decide, by decide⟩ wL_X11_121 wT_X11_in wB_X11 wC_X11_in) (C_X11_in hL v4 (-99999) 99999 D3) (Nat.le_of_ble_eq_true rfl) rfl rfl ?_
      refine Sg.ite (fun h6 => ?_) (fun h6 => ?_)
      · refine Sg.go (pc' := 55) (mi_ifne_t (tgt := 55) dX11_set_48 (by decide) h6) ?_
        refine Sg.go (pc' := 56) (mi_iconst (z := 0) dX11_set_55 rfl) ?_
        exact S_X11_set_56 hL v1 v2 v3 v4 0 D3
      · refine Sg.go (pc' := 51) (mi_ifne_f (tgt := 55) dX11_set_48 (by decide) h6) ?_
        exact S_X11_set_51 hL v1 v2 v3 v4 D3
def B_X11_set (v1 : Int) (v2 : Int) (v3 : Int) (v4 : Int) (D : MiD) : Option (Int × MiD) := mi_let (mi_st D 40 0 0 0) fun D1 => if (B_X11_isDatum v2) ≠ 0 then (B_X11_set_19 v1 v2 v3 v4 0 D1) else (B_X11_set_19 v1 v2 v3 v4 1 D1)
set_option maxRecDepth 20000 in
theorem S_X11_set {Z : MiZ} (hL : ML Z) (v1 v2 v3 v4 : Int) (D : MiD) : Sg m_X11_set 0 [(42, 0), (0, v1), (0, v2), (0, v3), (0, v4)] [] (D, Z) (mi_LD 0 Z) (B_X11_set v1 v2 v3 v4 D) := by
  unfold B_X11_set
  refine Sg.go (pc' := 1) (mi_aload_n dX11_set_0 rfl) ?_
  refine Sg.go (pc' := 2) (mi_iconst (z := 0) dX11_set_1 rfl) ?_
  refine Sg.goM (pc' := 5) (mi_pfD (r := 40) (k := 0) (t := 0) dX11_set_2 hC_40 (by decide) rfl rfl wF_X11_78 (by omega) rfl (by decide) (Or.inl ⟨rfl, rfl⟩)) ?_
  refine Sg.letD (fun D1 hD1 => ?_)
  refine Sg.go (pc' := 6) (mi_aload_n dX11_set_5 rfl) ?_
  refine Sg.go (pc' := 7) (mi_aload_n dX11_set_6 rfl) ?_
  refine Sg.go (pc' := 8) (mi_iload_n dX11_set_7 rfl) ?_
  refine Sg.callP (pc' := 11) (t := 0) (v := (B_X11_isDatum v2)) (μ' := m_X11_isDatum) (args := [(42, 0), (0, v2)]) (mi_invV (n := 1) (r := 40) dX11_set_8 hC_40 (by omega) rfl rfl wN_X11_isDatum rfl ⟨by decide, by decide⟩ wL_X11_358 wI_X11_isDatum wS_X11_isDatum wB_X11 wC_X11_isDatum) (C_X11_isDatum hL v2 D1) (Nat.le_of_ble_eq_true rfl) rfl rfl ?_
  refine Sg.ite (fun h2 => ?_) (fun h2 => ?_)
  · refine Sg.go (pc' := 18) (mi_ifne_t (tgt := 18) dX11_set_11 (by decide) h2) ?_
    refine Sg.go (pc' := 19) (mi_iconst (z := 0) dX11_set_18 rfl) ?_
    exact S_X11_set_19 hL v1 v2 v3 v4 0 D1
  · refine Sg.go (pc' := 14) (mi_ifne_f (tgt := 18) dX11_set_11 (by decide) h2) ?_
    refine Sg.go (pc' := 15) (mi_iconst (z := 1) dX11_set_14 rfl) ?_
    refine Sg.go (pc' := 19) (mi_goto (tgt := 19) dX11_set_15 (by decide)) ?_
    exact S_X11_set_19 hL v1 v2 v3 v4 1 D1
theorem C_X11_set {Z : MiZ} (hL : ML Z) (a1 a2 a3 a4 : Int) (D : MiD) (b : Int × MiD) (hb : B_X11_set a1 a2 a3 a4 D = some b) : MC m_X11_set [(42, 0), (0, a1), (0, a2), (0, a3), (0, a4)] (D, Z) ((mi_LD 0 Z) b) := MC.ofSg (L := (mi_LD 0 Z)) (μ := m_X11_set) (args := [(42, 0), (0, a1), (0, a2), (0, a3), (0, a4)]) (M := (D, Z)) rfl wP_X11 (Nat.le_of_ble_eq_true rfl) (show Sg m_X11_set 0 [(42, 0), (0, a1), (0, a2), (0, a3), (0, a4)] [] (D, Z) (mi_LD 0 Z) (B_X11_set a1 a2 a3 a4 D) from S_X11_set hL a1 a2 a3 a4 D) hb
abbrev m_X11_shapesSpare : MiI := (yX11_shapesSpare, cX11_shapesSpare, 5, (some .int), 4, none)
def B_X11_shapesSpare_37 : Nat → Int → Int → Int → MiD → Option (Int × MiD)
  | 0, _, _, _, _ => none
  | f + 1, v1, v3, v4, D => if 0 ≤ v1 ∧ v1 < 61 then (if (B_X11_less v3 (D 53 0 v1)) ≤ v4 then (some (0, D)) else (mi_b2 (B_X11_boxes v1 v4 D) fun y3 D4 => mi_b2 (B_X11_puts (D4 40 0 25) (D4 40 0 26) 60 v4 D4) fun y5 D6 => if y5 ≤ 0 then (B_X11_shapesSpare_37 f v1 v3 (mi_w (v4 + 1)) D6) else (some (2, D6)))) else none
set_option maxRecDepth 20000 in
theorem S_X11_shapesSpare_37 {Z : MiZ} (hL : ML Z) : ∀ (f : Nat) (v1 v3 v4 : Int) (D : MiD), Sg m_X11_shapesSpare 37 [(42, 0), (0, v1), mi_un, (0, v3), (0, v4)] [] (D, Z) (mi_LD 0 Z) (B_X11_shapesSpare_37 f v1 v3 v4 D) := by
  intro f
  induction f with
  | zero => intros; exact Sg.nope
  | succ f K37 =>
    intro v1 v3 v4 D
    show Sg m_X11_shapesSpare 37 [(42, 0), (0, v1), mi_un, (0, v3), (0, v4)] [] (D, Z) (mi_LD 0 Z) (if 0 ≤ v1 ∧ v1 < 61 then (if (B_X11_less v3 (D 53 0 v1)) ≤ v4 then (some (0, D)) else (mi_b2 (B_X11_boxes v1 v4 D) fun y3 D4 => mi_b2 (B_X11_puts (D4 40 0 25) (D4 40 0 26) 60 v4 D4) fun y5 D6 => if y5 ≤ 0 then (B_X11_shapesSpare_37 f v1 v3 (mi_w (v4 + 1)) D6) else (some (2, D6)))) else none)
    refine Sg.go (pc' := 39) (mi_iload dX11_shapesSpare_37 rfl) ?_
    refine Sg.go (pc' := 40) (mi_iload_n dX11_shapesSpare_39 rfl) ?_
    refine Sg.go (pc' := 41) (mi_aload_n dX11_shapesSpare_40 rfl) ?_
    refine Sg.go (pc' := 44) (mi_gfA (t := 53) (v := 0) (r := 40) (k := 17) dX11_shapesSpare_41 hC_40 (by decide) rfl wF_X11_45 (by omega) rfl (hL.1 17 (by decide))) ?_
    refine Sg.go (pc' := 45) (mi_iload_n dX11_shapesSpare_44 rfl) ?_
    refine Sg.ck (fun hk1 => ?_)
    refine Sg.go (pc' := 46) (mi_iald (n := 61) dX11_shapesSpare_45 rfl rfl (by omega) hk1) ?_
    refine Sg.callP (pc' := 49) (t := 0) (v := (B_X11_less v3 (D 53 0 v1))) (μ' := m_X11_less) (args := [(0, v3), (0, (D 53 0 v1))]) (mi_invS (n := 2) dX11_shapesSpare_46 rfl wN_X11_less rfl ⟨by decide, by decide⟩ wL_X11_117 wT_X11_less wB_X11 wC_X11_less) (C_X11_less hL v3 (D 53 0 v1) D) (Nat.le_of_ble_eq_true rfl) rfl rfl ?_
    refine Sg.ite (fun h2 => ?_) (fun h2 => ?_)
    · refine Sg.go (pc' := 87) (mi_icmpge_t (tgt := 87) dX11_shapesSpare_49 (by decide) h2) ?_
      refine Sg.go (pc' := 88) (mi_iconst (z := 0) dX11_shapesSpare_87 rfl) ?_
      exact Sg.ret (mi_ireturn dX11_shapesSpare_88 rfl (Or.inl rfl))
    · refine Sg.go (pc' := 52) (mi_icmpge_f (tgt := 87) dX11_shapesSpare_49 (by decide) h2) ?_
      refine Sg.go (pc' := 53) (mi_aload_n dX11_shapesSpare_52 rfl) ?_
      refine Sg.go (pc' := 54) (mi_iload_n dX11_shapesSpare_53 rfl) ?_
      refine Sg.go (pc' := 56) (mi_iload dX11_shapesSpare_54 rfl) ?_
      refine Sg.callD (pc' := 59) (t := 0) (μ' := m_X11_boxes) (args := [(42, 0), (0, v1), (0, v4)]) (mi_invV (n := 2) (r := 40) dX11_shapesSpare_56 hC_40 (by omega) rfl rfl wN_X11_boxes rfl ⟨by decide, by decide⟩ wL_X11_321 wI_X11_boxes wS_X11_boxes wB_X11 wC_X11_boxes) (fun v hv => C_X11_boxes hL v1 v4 D v hv) (Nat.le_of_ble_eq_true rfl) rfl rfl (fun y3 D4 => ?_)
      refine Sg.go (pc' := 60) (mi_pop dX11_shapesSpare_59 (show (0 : Nat) ≠ 1 by decide)) ?_
      refine Sg.go (pc' := 61) (mi_aload_n dX11_shapesSpare_60 rfl) ?_
      refine Sg.go (pc' := 62) (mi_aload_n dX11_shapesSpare_61 rfl) ?_
      refine Sg.go (pc' := 65) (mi_gfI (r := 40) (k := 25) dX11_shapesSpare_62 hC_40 (by decide) rfl wF_X11_293 (by omega) rfl) ?_
      refine Sg.go (pc' := 66) (mi_aload_n dX11_shapesSpare_65 rfl) ?_
      refine Sg.go (pc' := 69) (mi_gfJ (r := 40) (k := 26) dX11_shapesSpare_66 hC_40 (by decide) rfl wF_X11_300 (by omega) rfl) ?_
      refine Sg.go (pc' := 71) (mi_bipush (z := 60) dX11_shapesSpare_69 rfl) ?_
      refine Sg.go (pc' := 73) (mi_iload dX11_shapesSpare_71 rfl) ?_
      refine Sg.callD (pc' := 76) (t := 0) (μ' := m_X11_puts) (args := [(42, 0), (0, (D4 40 0 25)), (1, (D4 40 0 26)), (0, 60), (0, v4)]) (mi_invV (n := 4) (r := 40) dX11_shapesSpare_73 hC_40 (by omega) rfl rfl wN_X11_puts rfl ⟨by decide, by decide⟩ wL_X11_328 wI_X11_puts wS_X11_puts wB_X11 wC_X11_puts) (fun v hv => C_X11_puts hL (D4 40 0 25) (D4 40 0 26) 60 v4 D4 v hv) (Nat.le_of_ble_eq_true rfl) rfl rfl (fun y5 D6 => ?_)
      refine Sg.ite (fun h7 => ?_) (fun h7 => ?_)
      · refine Sg.go (pc' := 81) (mi_ifle_t (tgt := 81) dX11_shapesSpare_76 (by decide) h7) ?_
        refine Sg.go (pc' := 84) (mi_iinc (z := 1) (ls1 := [(42, 0), (0, v1), mi_un, (0, v3), (0, (mi_w (v4 + 1)))]) dX11_shapesSpare_81 (by decide) rfl rfl rfl) ?_
        refine Sg.go (pc' := 37) (mi_goto (tgt := 37) dX11_shapesSpare_84 (by decide)) ?_
        exact K37 v1 v3 (mi_w (v4 + 1)) D6
      · refine Sg.go (pc' := 79) (mi_ifle_f (tgt := 81) dX11_shapesSpare_76 (by decide) h7) ?_
        refine Sg.go (pc' := 80) (mi_iconst (z := 2) dX11_shapesSpare_79 rfl) ?_
        exact Sg.ret (mi_ireturn dX11_shapesSpare_80 rfl (Or.inl rfl))
def B_X11_shapesSpare (v1 : Int) (v2 : Int) (v3 : Int) (D : MiD) : Option (Int × MiD) := if 0 ≤ v1 ∧ v1 < 61 then (if (D 52 0 v1) ≠ 12 then (if (D 52 0 v1) ≠ 11 then (mi_bi (B_X11_empties 60 v2 v3 D) fun D4 => B_X11_shapesSpare_37 mi_fuel v1 v3 0 D4) else (some (2, D))) else (some (3, D))) else none
set_option maxRecDepth 20000 in
theorem S_X11_shapesSpare {Z : MiZ} (hL : ML Z) (v1 v2 v3 : Int) (D : MiD) : Sg m_X11_shapesSpare 0 [(42, 0), (0, v1), (0, v2), (0, v3), mi_un] [] (D, Z) (mi_LD 0 Z) (B_X11_shapesSpare v1 v2 v3 D) := by
  unfold B_X11_shapesSpare
  refine Sg.go (pc' := 1) (mi_aload_n dX11_shapesSpare_0 rfl) ?_
  refine Sg.go (pc' := 4) (mi_gfA (t := 52) (v := 0) (r := 40) (k := 16) dX11_shapesSpare_1 hC_40 (by decide) rfl wF_X11_42 (by omega) rfl (hL.1 16 (by decide))) ?_
  refine Sg.go (pc' := 5) (mi_iload_n dX11_shapesSpare_4 rfl) ?_
  refine Sg.ck (fun hk1 => ?_)
  refine Sg.go (pc' := 6) (mi_iald (n := 61) dX11_shapesSpare_5 rfl rfl (by omega) hk1) ?_
  refine Sg.go (pc' := 8) (mi_bipush (z := 12) dX11_shapesSpare_6 rfl) ?_
  refine Sg.ite (fun h2 => ?_) (fun h2 => ?_)
  · refine Sg.go (pc' := 13) (mi_icmpne_t (tgt := 13) dX11_shapesSpare_8 (by decide) h2) ?_
    refine Sg.go (pc' := 14) (mi_aload_n dX11_shapesSpare_13 rfl) ?_
    refine Sg.go (pc' := 17) (mi_gfA (t := 52) (v := 0) (r := 40) (k := 16) dX11_shapesSpare_14 hC_40 (by decide) rfl wF_X11_42 (by omega) rfl (hL.1 16 (by decide))) ?_
    refine Sg.go (pc' := 18) (mi_iload_n dX11_shapesSpare_17 rfl) ?_
    refine Sg.go (pc' := 19) (mi_iald (n := 61) dX11_shapesSpare_18 rfl rfl (by omega) hk1) ?_
    refine Sg.go (pc' := 21) (mi_bipush (z := 11) dX11_shapesSpare_19 rfl) ?_
    refine Sg.ite (fun h3 => ?_) (fun h3 => ?_)
    · refine Sg.go (pc' := 26) (mi_icmpne_t (tgt := 26) dX11_shapesSpare_21 (by decide) h3) ?_
      refine Sg.go (pc' := 27) (mi_aload_n dX11_shapesSpare_26 rfl) ?_
      refine Sg.go (pc' := 29) (mi_bipush (z := 60) dX11_shapesSpare_27 rfl) ?_
      refine Sg.go (pc' := 30) (mi_iload_n dX11_shapesSpare_29 rfl) ?_
      refine Sg.go (pc' := 31) (mi_iload_n dX11_shapesSpare_30 rfl) ?_
      refine Sg.callV (pc' := 34) (μ' := m_X11_empties) (args := [(42, 0), (0, 60), (0, v2), (0, v3)]) (mi_invV (n := 3) (r := 40) dX11_shapesSpare_31 hC_40 (by omega) rfl rfl wN_X11_empties rfl ⟨by decide, by decide⟩ wL_X11_348 wI_X11_empties wS_X11_empties wB_X11 wC_X11_empties) (fun v hv => C_X11_empties hL 60 v2 v3 D v hv) (Nat.le_of_ble_eq_true rfl) rfl rfl (fun D4 => ?_)
      refine Sg.go (pc' := 35) (mi_iconst (z := 0) dX11_shapesSpare_34 rfl) ?_
      refine Sg.go (pc' := 37) (mi_istore (ls1 := [(42, 0), (0, v1), (0, v2), (0, v3), (0, 0)]) dX11_shapesSpare_35 (by decide) rfl) ?_
      refine Sg.go (pc' := 37) (MiStep.weak (ls' := [(42, 0), (0, v1), mi_un, (0, v3), (0, 0)]) (mi_wk_y (mi_wk_y (mi_wk_n (mi_wk_y (mi_wk_y mi_wk_0)))))) ?_
      exact S_X11_shapesSpare_37 hL mi_fuel v1 v3 0 D4
    · refine Sg.go (pc' := 24) (mi_icmpne_f (tgt := 26) dX11_shapesSpare_21 (by decide) h3) ?_
      refine Sg.go (pc' := 25) (mi_iconst (z := 2) dX11_shapesSpare_24 rfl) ?_
      exact Sg.ret (mi_ireturn dX11_shapesSpare_25 rfl (Or.inl rfl))
  · refine Sg.go (pc' := 11) (mi_icmpne_f (tgt := 13) dX11_shapesSpare_8 (by decide) h2) ?_
    refine Sg.go (pc' := 12) (mi_iconst (z := 3) dX11_shapesSpare_11 rfl) ?_
    exact Sg.ret (mi_ireturn dX11_shapesSpare_12 rfl (Or.inl rfl))
theorem C_X11_shapesSpare {Z : MiZ} (hL : ML Z) (a1 a2 a3 : Int) (D : MiD) (b : Int × MiD) (hb : B_X11_shapesSpare a1 a2 a3 D = some b) : MC m_X11_shapesSpare [(42, 0), (0, a1), (0, a2), (0, a3)] (D, Z) ((mi_LD 0 Z) b) := MC.ofSg (L := (mi_LD 0 Z)) (μ := m_X11_shapesSpare) (args := [(42, 0), (0, a1), (0, a2), (0, a3)]) (M := (D, Z)) rfl wP_X11 (Nat.le_of_ble_eq_true rfl) (show Sg m_X11_shapesSpare 0 [(42, 0), (0, a1), (0, a2), (0, a3), mi_un] [] (D, Z) (mi_LD 0 Z) (B_X11_shapesSpare a1 a2 a3 D) from S_X11_shapesSpare hL a1 a2 a3 D) hb
abbrev m_X11_start : MiI := (yX11_start, cX11_start, 3, (some .int), 4, none)
def B_X11_start_49 (v1 : Int) (v2 : Int) (s1 : Int) (D : MiD) : Option (Int × MiD) := if s1 = 0 ∨ s1 = 1 then (mi_b2 (B_X11_bad s1 2 2 D) fun y2 D3 => if y2 = 0 then (if 0 ≤ v1 ∧ v1 < 7 then (mi_let (mi_st D3 59 v1 2 (-1)) fun D6 => mi_let (mi_st D6 60 0 v1 0) fun D7 => mi_let (mi_st D7 59 v1 3 0) fun D8 => mi_bi (B_X11_pushes v1 v2 D8) fun D9 => if 0 ≤ v1 ∧ v1 < 6 then (some ((D9 63 (10 * v1 + 0) 1), D9)) else none) else none) else (some (0, D3))) else none
set_option maxRecDepth 20000 in
theorem S_X11_start_49 {Z : MiZ} (hL : ML Z) (v1 v2 s1 : Int) (D : MiD) : Sg m_X11_start 49 [(42, 0), (0, v1), (0, v2)] [(0, s1), (42, 0)] (D, Z) (mi_LD 0 Z) (B_X11_start_49 v1 v2 s1 D) := by
  unfold B_X11_start_49
  refine Sg.go (pc' := 50) (mi_iconst (z := 2) dX11_start_49 rfl) ?_
  refine Sg.go (pc' := 51) (mi_iconst (z := 2) dX11_start_50 rfl) ?_
  refine Sg.ck (fun hk1 => ?_)
  refine Sg.callD (pc' := 54) (t := 0) (μ' := m_X11_bad) (args := [(42, 0), (0, s1), (0, 2), (0, 2)]) (mi_invV (n := 3) (r := 40) dX11_start_51 hC_40 (by omega) rfl rfl wN_X11_bad rfl ⟨by decide, by decide⟩ wL_X11_229 wI_X11_bad wS_X11_bad wB_X11 wC_X11_bad) (fun v hv => C_X11_bad hL s1 2 2 D (hk1) v hv) (Nat.le_of_ble_eq_true rfl) rfl rfl (fun y2 D3 => ?_)
  refine Sg.ite (fun h4 => ?_) (fun h4 => ?_)
  · refine Sg.go (pc' := 59) (mi_ifeq_t (tgt := 59) dX11_start_54 (by decide) h4) ?_
    refine Sg.go (pc' := 60) (mi_aload_n dX11_start_59 rfl) ?_
    refine Sg.go (pc' := 63) (mi_gfA (t := 58) (v := 0) (r := 40) (k := 20) dX11_start_60 hC_40 (by decide) rfl wF_X11_56 (by omega) rfl (hL.1 20 (by decide))) ?_
    refine Sg.go (pc' := 64) (mi_iload_n dX11_start_63 rfl) ?_
    refine Sg.ck (fun hk5 => ?_)
    refine Sg.go (pc' := 65) (mi_aald (n := 7) (t := 59) (v := v1) dX11_start_64 rfl hA_58 rfl (by omega) hk5 rfl (hL.2.2.2.2.2.2.1 _ hk5.1 hk5.2)) ?_
    refine Sg.go (pc' := 66) (mi_iconst (z := 2) dX11_start_65 rfl) ?_
    refine Sg.go (pc' := 67) (mi_iconst (z := (-1)) dX11_start_66 rfl) ?_
    refine Sg.goM (pc' := 68) (mi_iast (n := 7) dX11_start_67 rfl rfl (by omega) (by decide)) ?_
    refine Sg.letD (fun D6 hD6 => ?_)
    refine Sg.go (pc' := 69) (mi_aload_n dX11_start_68 rfl) ?_
    refine Sg.go (pc' := 72) (mi_gfA (t := 60) (v := 0) (r := 40) (k := 21) dX11_start_69 hC_40 (by decide) rfl wF_X11_59 (by omega) rfl (hL.1 21 (by decide))) ?_
    refine Sg.go (pc' := 73) (mi_iload_n dX11_start_72 rfl) ?_
    refine Sg.go (pc' := 74) (mi_lconst (z := 0) dX11_start_73 rfl) ?_
    refine Sg.goM (pc' := 75) (mi_last (n := 7) dX11_start_74 rfl rfl (by omega) hk5) ?_
    refine Sg.letD (fun D7 hD7 => ?_)
    refine Sg.go (pc' := 76) (mi_aload_n dX11_start_75 rfl) ?_
    refine Sg.go (pc' := 79) (mi_gfA (t := 58) (v := 0) (r := 40) (k := 20) dX11_start_76 hC_40 (by decide) rfl wF_X11_56 (by omega) rfl (hL.1 20 (by decide))) ?_
    refine Sg.go (pc' := 80) (mi_iload_n dX11_start_79 rfl) ?_
    refine Sg.go (pc' := 81) (mi_aald (n := 7) (t := 59) (v := v1) dX11_start_80 rfl hA_58 rfl (by omega) hk5 rfl (hL.2.2.2.2.2.2.1 _ hk5.1 hk5.2)) ?_
    refine Sg.go (pc' := 82) (mi_iconst (z := 3) dX11_start_81 rfl) ?_
    refine Sg.go (pc' := 83) (mi_iconst (z := 0) dX11_start_82 rfl) ?_
    refine Sg.goM (pc' := 84) (mi_iast (n := 7) dX11_start_83 rfl rfl (by omega) (by decide)) ?_
    refine Sg.letD (fun D8 hD8 => ?_)
    refine Sg.go (pc' := 85) (mi_aload_n dX11_start_84 rfl) ?_
    refine Sg.go (pc' := 86) (mi_iload_n dX11_start_85 rfl) ?_
    refine Sg.go (pc' := 87) (mi_iload_n dX11_start_86 rfl) ?_
    refine Sg.callV (pc' := 90) (μ' := m_X11_pushes) (args := [(42, 0), (0, v1), (0, v2)]) (mi_invV (n := 2) (r := 40) dX11_start_87 hC_40 (by omega) rfl rfl wN_X11_pushes rfl ⟨by decide, by decide⟩ wL_X11_364 wI_X11_pushes wS_X11_pushes wB_X11 wC_X11_pushes) (fun v hv => C_X11_pushes hL v1 v2 D8 v hv) (Nat.le_of_ble_eq_true rfl) rfl rfl (fun D9 => ?_)
    refine Sg.go (pc' := 91) (mi_aload_n dX11_start_90 rfl) ?_
    refine Sg.go (pc' := 94) (mi_gfA (t := 61) (v := 0) (r := 40) (k := 22) dX11_start_91 hC_40 (by decide) rfl wF_X11_63 (by omega) rfl (hL.1 22 (by decide))) ?_
    refine Sg.go (pc' := 95) (mi_iload_n dX11_start_94 rfl) ?_
    refine Sg.ck (fun hk10 => ?_)
    refine Sg.go (pc' := 96) (mi_aald (n := 6) (t := 62) (v := v1) dX11_start_95 rfl hA_61 rfl (by omega) hk10 rfl (hL.2.2.2.2.2.2.2.1 _ hk10.1 hk10.2)) ?_
    refine Sg.go (pc' := 97) (mi_iconst (z := 0) dX11_start_96 rfl) ?_
    refine Sg.go (pc' := 98) (mi_aald (n := 10) (t := 63) (v := (10 * v1 + 0)) dX11_start_97 rfl hA_62 rfl (by omega) (by decide) rfl (hL.2.2.2.2.2.2.2.2 _ _ (by omega) (by omega) (show 0 ≤ (0 : Int) ∧ (0 : Int) < 10 by decide).1 (show 0 ≤ (0 : Int) ∧ (0 : Int) < 10 by decide).2)) ?_
    refine Sg.go (pc' := 99) (mi_iconst (z := 1) dX11_start_98 rfl) ?_
    refine Sg.go (pc' := 100) (mi_iald (n := 4) dX11_start_99 rfl rfl (by omega) (by decide)) ?_
    exact Sg.ret (mi_ireturn dX11_start_100 rfl (Or.inl rfl))
  · refine Sg.go (pc' := 57) (mi_ifeq_f (tgt := 59) dX11_start_54 (by decide) h4) ?_
    refine Sg.go (pc' := 58) (mi_iconst (z := 0) dX11_start_57 rfl) ?_
    exact Sg.ret (mi_ireturn dX11_start_58 rfl (Or.inl rfl))
def B_X11_start_27 (v1 : Int) (v2 : Int) (s1 : Int) (D : MiD) : Option (Int × MiD) := if s1 = 0 ∨ s1 = 1 then (mi_b2 (B_X11_bad s1 1 0 D) fun y2 D3 => if y2 ≠ 0 then (some (0, D3)) else (mi_bi (B_X11_isIdle D3 v1) fun y5 => if y5 ≠ 0 then (B_X11_start_49 v1 v2 0 D3) else (B_X11_start_49 v1 v2 1 D3))) else none
set_option maxRecDepth 20000 in
theorem S_X11_start_27 {Z : MiZ} (hL : ML Z) (v1 v2 s1 : Int) (D : MiD) : Sg m_X11_start 27 [(42, 0), (0, v1), (0, v2)] [(0, s1), (42, 0)] (D, Z) (mi_LD 0 Z) (B_X11_start_27 v1 v2 s1 D) := by
  unfold B_X11_start_27
  refine Sg.go (pc' := 28) (mi_iconst (z := 1) dX11_start_27 rfl) ?_
  refine Sg.go (pc' := 29) (mi_iconst (z := 0) dX11_start_28 rfl) ?_
  refine Sg.ck (fun hk1 => ?_)
  refine Sg.callD (pc' := 32) (t := 0) (μ' := m_X11_bad) (args := [(42, 0), (0, s1), (0, 1), (0, 0)]) (mi_invV (n := 3) (r := 40) dX11_start_29 hC_40 (by omega) rfl rfl wN_X11_bad rfl ⟨by decide, by decide⟩ wL_X11_229 wI_X11_bad wS_X11_bad wB_X11 wC_X11_bad) (fun v hv => C_X11_bad hL s1 1 0 D (hk1) v hv) (Nat.le_of_ble_eq_true rfl) rfl rfl (fun y2 D3 => ?_)
  refine Sg.ite (fun h4 => ?_) (fun h4 => ?_)
  · refine Sg.go (pc' := 57) (mi_ifne_t (tgt := 57) dX11_start_32 (by decide) h4) ?_
    refine Sg.go (pc' := 58) (mi_iconst (z := 0) dX11_start_57 rfl) ?_
    exact Sg.ret (mi_ireturn dX11_start_58 rfl (Or.inl rfl))
  · refine Sg.go (pc' := 35) (mi_ifne_f (tgt := 57) dX11_start_32 (by decide) h4) ?_
    refine Sg.go (pc' := 36) (mi_aload_n dX11_start_35 rfl) ?_
    refine Sg.go (pc' := 37) (mi_aload_n dX11_start_36 rfl) ?_
    refine Sg.go (pc' := 38) (mi_iload_n dX11_start_37 rfl) ?_
    refine Sg.callI (pc' := 41) (t := 0) (μ' := m_X11_isIdle) (args := [(42, 0), (0, v1)]) (mi_invV (n := 1) (r := 40) dX11_start_38 hC_40 (by omega) rfl rfl wN_X11_isIdle rfl ⟨by decide, by decide⟩ wL_X11_223 wI_X11_isIdle wS_X11_isIdle wB_X11 wC_X11_isIdle) (fun v hv => C_X11_isIdle hL v1 D3 v hv) (Nat.le_of_ble_eq_true rfl) rfl rfl (fun y5 => ?_)
    refine Sg.ite (fun h6 => ?_) (fun h6 => ?_)
    · refine Sg.go (pc' := 48) (mi_ifne_t (tgt := 48) dX11_start_41 (by decide) h6) ?_
      refine Sg.go (pc' := 49) (mi_iconst (z := 0) dX11_start_48 rfl) ?_
      exact S_X11_start_49 hL v1 v2 0 D3
    · refine Sg.go (pc' := 44) (mi_ifne_f (tgt := 48) dX11_start_41 (by decide) h6) ?_
      refine Sg.go (pc' := 45) (mi_iconst (z := 1) dX11_start_44 rfl) ?_
      refine Sg.go (pc' := 49) (mi_goto (tgt := 49) dX11_start_45 (by decide)) ?_
      exact S_X11_start_49 hL v1 v2 1 D3
def B_X11_start_22 (v1 : Int) (v2 : Int) (D : MiD) : Option (Int × MiD) := B_X11_start_27 v1 v2 1 D
set_option maxRecDepth 20000 in
theorem S_X11_start_22 {Z : MiZ} (hL : ML Z) (v1 v2 : Int) (D : MiD) : Sg m_X11_start 22 [(42, 0), (0, v1), (0, v2)] [(42, 0)] (D, Z) (mi_LD 0 Z) (B_X11_start_22 v1 v2 D) := by
  unfold B_X11_start_22
  refine Sg.go (pc' := 23) (mi_iconst (z := 1) dX11_start_22 rfl) ?_
  refine Sg.go (pc' := 27) (mi_goto (tgt := 27) dX11_start_23 (by decide)) ?_
  exact S_X11_start_27 hL v1 v2 1 D
def B_X11_start (v1 : Int) (v2 : Int) (D : MiD) : Option (Int × MiD) := mi_let (mi_st D 40 0 0 0) fun D1 => if (B_X11_isTask v1) = 0 then (B_X11_start_22 v1 v2 D1) else (if (B_X11_isFunction v2) ≠ 0 then (B_X11_start_27 v1 v2 0 D1) else (B_X11_start_22 v1 v2 D1))
set_option maxRecDepth 20000 in
theorem S_X11_start {Z : MiZ} (hL : ML Z) (v1 v2 : Int) (D : MiD) : Sg m_X11_start 0 [(42, 0), (0, v1), (0, v2)] [] (D, Z) (mi_LD 0 Z) (B_X11_start v1 v2 D) := by
  unfold B_X11_start
  refine Sg.go (pc' := 1) (mi_aload_n dX11_start_0 rfl) ?_
  refine Sg.go (pc' := 2) (mi_iconst (z := 0) dX11_start_1 rfl) ?_
  refine Sg.goM (pc' := 5) (mi_pfD (r := 40) (k := 0) (t := 0) dX11_start_2 hC_40 (by decide) rfl rfl wF_X11_78 (by omega) rfl (by decide) (Or.inl ⟨rfl, rfl⟩)) ?_
  refine Sg.letD (fun D1 hD1 => ?_)
  refine Sg.go (pc' := 6) (mi_aload_n dX11_start_5 rfl) ?_
  refine Sg.go (pc' := 7) (mi_aload_n dX11_start_6 rfl) ?_
  refine Sg.go (pc' := 8) (mi_iload_n dX11_start_7 rfl) ?_
  refine Sg.callP (pc' := 11) (t := 0) (v := (B_X11_isTask v1)) (μ' := m_X11_isTask) (args := [(42, 0), (0, v1)]) (mi_invV (n := 1) (r := 40) dX11_start_8 hC_40 (by omega) rfl rfl wN_X11_isTask rfl ⟨by decide, by decide⟩ wL_X11_398 wI_X11_isTask wS_X11_isTask wB_X11 wC_X11_isTask) (C_X11_isTask hL v1 D1) (Nat.le_of_ble_eq_true rfl) rfl rfl ?_
  refine Sg.ite (fun h2 => ?_) (fun h2 => ?_)
  · refine Sg.go (pc' := 22) (mi_ifeq_t (tgt := 22) dX11_start_11 (by decide) h2) ?_
    exact S_X11_start_22 hL v1 v2 D1
  · refine Sg.go (pc' := 14) (mi_ifeq_f (tgt := 22) dX11_start_11 (by decide) h2) ?_
    refine Sg.go (pc' := 15) (mi_aload_n dX11_start_14 rfl) ?_
    refine Sg.go (pc' := 16) (mi_iload_n dX11_start_15 rfl) ?_
    refine Sg.callP (pc' := 19) (t := 0) (v := (B_X11_isFunction v2)) (μ' := m_X11_isFunction) (args := [(42, 0), (0, v2)]) (mi_invV (n := 1) (r := 40) dX11_start_16 hC_40 (by omega) rfl rfl wN_X11_isFunction rfl ⟨by decide, by decide⟩ wL_X11_226 wI_X11_isFunction wS_X11_isFunction wB_X11 wC_X11_isFunction) (C_X11_isFunction hL v2 D1) (Nat.le_of_ble_eq_true rfl) rfl rfl ?_
    refine Sg.ite (fun h3 => ?_) (fun h3 => ?_)
    · refine Sg.go (pc' := 26) (mi_ifne_t (tgt := 26) dX11_start_19 (by decide) h3) ?_
      refine Sg.go (pc' := 27) (mi_iconst (z := 0) dX11_start_26 rfl) ?_
      exact S_X11_start_27 hL v1 v2 0 D1
    · refine Sg.go (pc' := 22) (mi_ifne_f (tgt := 26) dX11_start_19 (by decide) h3) ?_
      exact S_X11_start_22 hL v1 v2 D1
theorem C_X11_start {Z : MiZ} (hL : ML Z) (a1 a2 : Int) (D : MiD) (b : Int × MiD) (hb : B_X11_start a1 a2 D = some b) : MC m_X11_start [(42, 0), (0, a1), (0, a2)] (D, Z) ((mi_LD 0 Z) b) := MC.ofSg (L := (mi_LD 0 Z)) (μ := m_X11_start) (args := [(42, 0), (0, a1), (0, a2)]) (M := (D, Z)) rfl wP_X11 (Nat.le_of_ble_eq_true rfl) (show Sg m_X11_start 0 [(42, 0), (0, a1), (0, a2)] [] (D, Z) (mi_LD 0 Z) (B_X11_start a1 a2 D) from S_X11_start hL a1 a2 D) hb
abbrev m_X11_becomes : MiI := (yX11_becomes, cX11_becomes, 5, (some .int), 5, none)
def B_X11_becomes (v1 : Int) (v2 : Int) (v3 : Int) (D : MiD) : Option (Int × MiD) := mi_b2 (B_X11_shapesSpare v1 v2 v3 D) fun y1 D2 => if y1 ≠ 0 then (some (y1, D2)) else (mi_bi (B_X11_copiesRow 60 v1 D2) fun D4 => some (y1, D4))
set_option maxRecDepth 20000 in
theorem S_X11_becomes {Z : MiZ} (hL : ML Z) (v1 v2 v3 : Int) (D : MiD) : Sg m_X11_becomes 0 [(42, 0), (0, v1), (0, v2), (0, v3), mi_un] [] (D, Z) (mi_LD 0 Z) (B_X11_becomes v1 v2 v3 D) := by
  unfold B_X11_becomes
  refine Sg.go (pc' := 1) (mi_aload_n dX11_becomes_0 rfl) ?_
  refine Sg.go (pc' := 2) (mi_iload_n dX11_becomes_1 rfl) ?_
  refine Sg.go (pc' := 3) (mi_iload_n dX11_becomes_2 rfl) ?_
  refine Sg.go (pc' := 4) (mi_iload_n dX11_becomes_3 rfl) ?_
  refine Sg.callD (pc' := 7) (t := 0) (μ' := m_X11_shapesSpare) (args := [(42, 0), (0, v1), (0, v2), (0, v3)]) (mi_invV (n := 3) (r := 40) dX11_becomes_4 hC_40 (by omega) rfl rfl wN_X11_shapesSpare rfl ⟨by decide, by decide⟩ wL_X11_352 wI_X11_shapesSpare wS_X11_shapesSpare wB_X11 wC_X11_shapesSpare) (fun v hv => C_X11_shapesSpare hL v1 v2 v3 D v hv) (Nat.le_of_ble_eq_true rfl) rfl rfl (fun y1 D2 => ?_)
  refine Sg.go (pc' := 9) (mi_istore (ls1 := [(42, 0), (0, v1), (0, v2), (0, v3), (0, y1)]) dX11_becomes_7 (by decide) rfl) ?_
  refine Sg.go (pc' := 11) (mi_iload dX11_becomes_9 rfl) ?_
  refine Sg.ite (fun h3 => ?_) (fun h3 => ?_)
  · refine Sg.go (pc' := 21) (mi_ifne_t (tgt := 21) dX11_becomes_11 (by decide) h3) ?_
    refine Sg.go (pc' := 23) (mi_iload dX11_becomes_21 rfl) ?_
    exact Sg.ret (mi_ireturn dX11_becomes_23 rfl (Or.inl rfl))
  · refine Sg.go (pc' := 14) (mi_ifne_f (tgt := 21) dX11_becomes_11 (by decide) h3) ?_
    refine Sg.go (pc' := 15) (mi_aload_n dX11_becomes_14 rfl) ?_
    refine Sg.go (pc' := 17) (mi_bipush (z := 60) dX11_becomes_15 rfl) ?_
    refine Sg.go (pc' := 18) (mi_iload_n dX11_becomes_17 rfl) ?_
    refine Sg.callV (pc' := 21) (μ' := m_X11_copiesRow) (args := [(42, 0), (0, 60), (0, v1)]) (mi_invV (n := 2) (r := 40) dX11_becomes_18 hC_40 (by omega) rfl rfl wN_X11_copiesRow rfl ⟨by decide, by decide⟩ wL_X11_355 wI_X11_copiesRow wS_X11_copiesRow wB_X11 wC_X11_copiesRow) (fun v hv => C_X11_copiesRow hL 60 v1 D2 v hv) (Nat.le_of_ble_eq_true rfl) rfl rfl (fun D4 => ?_)
    refine Sg.go (pc' := 23) (mi_iload dX11_becomes_21 rfl) ?_
    exact Sg.ret (mi_ireturn dX11_becomes_23 rfl (Or.inl rfl))
theorem C_X11_becomes {Z : MiZ} (hL : ML Z) (a1 a2 a3 : Int) (D : MiD) (b : Int × MiD) (hb : B_X11_becomes a1 a2 a3 D = some b) : MC m_X11_becomes [(42, 0), (0, a1), (0, a2), (0, a3)] (D, Z) ((mi_LD 0 Z) b) := MC.ofSg (L := (mi_LD 0 Z)) (μ := m_X11_becomes) (args := [(42, 0), (0, a1), (0, a2), (0, a3)]) (M := (D, Z)) rfl wP_X11 (Nat.le_of_ble_eq_true rfl) (show Sg m_X11_becomes 0 [(42, 0), (0, a1), (0, a2), (0, a3), mi_un] [] (D, Z) (mi_LD 0 Z) (B_X11_becomes a1 a2 a3 D) from S_X11_becomes hL a1 a2 a3 D) hb
abbrev m_X11_shapes : MiI := (yX11_shapes, cX11_shapes, 4, (some .int), 5, none)
def B_X11_shapes_62 (k33 : Int → Int → Int → MiD → Option (Int × MiD)) (v1 : Int) (v3 : Int) (s0 : Int) (s1 : Int) (D : MiD) : Option (Int × MiD) := k33 v1 (mi_or s0 s1) (mi_w (v3 + 1)) D
set_option maxRecDepth 20000 in
theorem S_X11_shapes_62 {Z : MiZ} (hL : ML Z) {k33 : Int → Int → Int → MiD → Option (Int × MiD)} (K33 : ∀ (v1 v2 v3 : Int) (D : MiD), Sg m_X11_shapes 33 [(42, 0), (0, v1), (0, v2), (0, v3)] [] (D, Z) (mi_LD 0 Z) (k33 v1 v2 v3 D)) (v1 v3 s0 s1 : Int) (D : MiD) : Sg m_X11_shapes 62 [(42, 0), (0, v1), mi_un, (0, v3)] [(0, s1), (0, s0)] (D, Z) (mi_LD 0 Z) (B_X11_shapes_62 k33 v1 v3 s0 s1 D) := by
  unfold B_X11_shapes_62
  refine Sg.go (pc' := 63) (mi_ior dX11_shapes_62) ?_
  refine Sg.go (pc' := 64) (mi_istore_n (ls1 := [(42, 0), (0, v1), (0, (mi_or s0 s1)), (0, v3)]) dX11_shapes_63 (by decide) rfl) ?_
  refine Sg.go (pc' := 67) (mi_iinc (z := 1) (ls1 := [(42, 0), (0, v1), (0, (mi_or s0 s1)), (0, (mi_w (v3 + 1)))]) dX11_shapes_64 (by decide) rfl rfl rfl) ?_
  refine Sg.go (pc' := 33) (mi_goto (tgt := 33) dX11_shapes_67 (by decide)) ?_
  exact K33 v1 (mi_or s0 s1) (mi_w (v3 + 1)) D
def B_X11_shapes_33 : Nat → Int → Int → Int → MiD → Option (Int × MiD)
  | 0, _, _, _, _ => none
  | f + 1, v1, v2, v3, D => if 10 < v3 then (some (v2, D)) else (if 0 ≤ v1 ∧ v1 < 61 then (mi_b2 (B_X11_shapesSpare v1 v3 (D 53 0 v1) D) fun y3 D4 => if y3 ≠ 0 then (B_X11_shapes_62 (B_X11_shapes_33 f) v1 v3 v2 0 D4) else (B_X11_shapes_62 (B_X11_shapes_33 f) v1 v3 v2 (mi_shl 1 v3) D4)) else none)
set_option maxRecDepth 20000 in
theorem S_X11_shapes_33 {Z : MiZ} (hL : ML Z) : ∀ (f : Nat) (v1 v2 v3 : Int) (D : MiD), Sg m_X11_shapes 33 [(42, 0), (0, v1), (0, v2), (0, v3)] [] (D, Z) (mi_LD 0 Z) (B_X11_shapes_33 f v1 v2 v3 D) := by
  intro f
  induction f with
  | zero => intros; exact Sg.nope
  | succ f K33 =>
    intro v1 v2 v3 D
    show Sg m_X11_shapes 33 [(42, 0), (0, v1), (0, v2), (0, v3)] [] (D, Z) (mi_LD 0 Z) (if 10 < v3 then (some (v2, D)) else (if 0 ≤ v1 ∧ v1 < 61 then (mi_b2 (B_X11_shapesSpare v1 v3 (D 53 0 v1) D) fun y3 D4 => if y3 ≠ 0 then (B_X11_shapes_62 (B_X11_shapes_33 f) v1 v3 v2 0 D4) else (B_X11_shapes_62 (B_X11_shapes_33 f) v1 v3 v2 (mi_shl 1 v3) D4)) else none))
    refine Sg.go (pc' := 34) (mi_iload_n dX11_shapes_33 rfl) ?_
    refine Sg.go (pc' := 36) (mi_bipush (z := 10) dX11_shapes_34 rfl) ?_
    refine Sg.ite (fun h1 => ?_) (fun h1 => ?_)
    · refine Sg.go (pc' := 70) (mi_icmpgt_t (tgt := 70) dX11_shapes_36 (by decide) h1) ?_
      refine Sg.go (pc' := 71) (mi_iload_n dX11_shapes_70 rfl) ?_
      exact Sg.ret (mi_ireturn dX11_shapes_71 rfl (Or.inl rfl))
    · refine Sg.go (pc' := 39) (mi_icmpgt_f (tgt := 70) dX11_shapes_36 (by decide) h1) ?_
      refine Sg.go (pc' := 40) (mi_iload_n dX11_shapes_39 rfl) ?_
      refine Sg.go (pc' := 41) (mi_aload_n dX11_shapes_40 rfl) ?_
      refine Sg.go (pc' := 42) (mi_iload_n dX11_shapes_41 rfl) ?_
      refine Sg.go (pc' := 43) (mi_iload_n dX11_shapes_42 rfl) ?_
      refine Sg.go (pc' := 44) (mi_aload_n dX11_shapes_43 rfl) ?_
      refine Sg.go (pc' := 47) (mi_gfA (t := 53) (v := 0) (r := 40) (k := 17) dX11_shapes_44 hC_40 (by decide) rfl wF_X11_45 (by omega) rfl (hL.1 17 (by decide))) ?_
      refine Sg.go (pc' := 48) (mi_iload_n dX11_shapes_47 rfl) ?_
      refine Sg.ck (fun hk2 => ?_)
      refine Sg.go (pc' := 49) (mi_iald (n := 61) dX11_shapes_48 rfl rfl (by omega) hk2) ?_
      refine Sg.callD (pc' := 52) (t := 0) (μ' := m_X11_shapesSpare) (args := [(42, 0), (0, v1), (0, v3), (0, (D 53 0 v1))]) (mi_invV (n := 3) (r := 40) dX11_shapes_49 hC_40 (by omega) rfl rfl wN_X11_shapesSpare rfl ⟨by decide, by decide⟩ wL_X11_352 wI_X11_shapesSpare wS_X11_shapesSpare wB_X11 wC_X11_shapesSpare) (fun v hv => C_X11_shapesSpare hL v1 v3 (D 53 0 v1) D v hv) (Nat.le_of_ble_eq_true rfl) rfl rfl (fun y3 D4 => ?_)
      refine Sg.ite (fun h5 => ?_) (fun h5 => ?_)
      · refine Sg.go (pc' := 61) (mi_ifne_t (tgt := 61) dX11_shapes_52 (by decide) h5) ?_
        refine Sg.go (pc' := 62) (mi_iconst (z := 0) dX11_shapes_61 rfl) ?_
        refine Sg.go (pc' := 62) (MiStep.weak (ls' := [(42, 0), (0, v1), mi_un, (0, v3)]) (mi_wk_y (mi_wk_y (mi_wk_n (mi_wk_y mi_wk_0))))) ?_
        exact S_X11_shapes_62 hL K33 v1 v3 v2 0 D4
      · refine Sg.go (pc' := 55) (mi_ifne_f (tgt := 61) dX11_shapes_52 (by decide) h5) ?_
        refine Sg.go (pc' := 56) (mi_iconst (z := 1) dX11_shapes_55 rfl) ?_
        refine Sg.go (pc' := 57) (mi_iload_n dX11_shapes_56 rfl) ?_
        refine Sg.go (pc' := 58) (mi_ishl dX11_shapes_57) ?_
        refine Sg.go (pc' := 62) (mi_goto (tgt := 62) dX11_shapes_58 (by decide)) ?_
        refine Sg.go (pc' := 62) (MiStep.weak (ls' := [(42, 0), (0, v1), mi_un, (0, v3)]) (mi_wk_y (mi_wk_y (mi_wk_n (mi_wk_y mi_wk_0))))) ?_
        exact S_X11_shapes_62 hL K33 v1 v3 v2 (mi_shl 1 v3) D4
def B_X11_shapes_19 (v1 : Int) (s1 : Int) (D : MiD) : Option (Int × MiD) := if s1 = 0 ∨ s1 = 1 then (mi_b2 (B_X11_bad s1 1 0 D) fun y2 D3 => if y2 = 0 then (B_X11_shapes_33 mi_fuel v1 0 0 D3) else (some (0, D3))) else none
set_option maxRecDepth 20000 in
theorem S_X11_shapes_19 {Z : MiZ} (hL : ML Z) (v1 s1 : Int) (D : MiD) : Sg m_X11_shapes 19 [(42, 0), (0, v1), mi_un, mi_un] [(0, s1), (42, 0)] (D, Z) (mi_LD 0 Z) (B_X11_shapes_19 v1 s1 D) := by
  unfold B_X11_shapes_19
  refine Sg.go (pc' := 20) (mi_iconst (z := 1) dX11_shapes_19 rfl) ?_
  refine Sg.go (pc' := 21) (mi_iconst (z := 0) dX11_shapes_20 rfl) ?_
  refine Sg.ck (fun hk1 => ?_)
  refine Sg.callD (pc' := 24) (t := 0) (μ' := m_X11_bad) (args := [(42, 0), (0, s1), (0, 1), (0, 0)]) (mi_invV (n := 3) (r := 40) dX11_shapes_21 hC_40 (by omega) rfl rfl wN_X11_bad rfl ⟨by decide, by decide⟩ wL_X11_229 wI_X11_bad wS_X11_bad wB_X11 wC_X11_bad) (fun v hv => C_X11_bad hL s1 1 0 D (hk1) v hv) (Nat.le_of_ble_eq_true rfl) rfl rfl (fun y2 D3 => ?_)
  refine Sg.ite (fun h4 => ?_) (fun h4 => ?_)
  · refine Sg.go (pc' := 29) (mi_ifeq_t (tgt := 29) dX11_shapes_24 (by decide) h4) ?_
    refine Sg.go (pc' := 30) (mi_iconst (z := 0) dX11_shapes_29 rfl) ?_
    refine Sg.go (pc' := 31) (mi_istore_n (ls1 := [(42, 0), (0, v1), (0, 0), mi_un]) dX11_shapes_30 (by decide) rfl) ?_
    refine Sg.go (pc' := 32) (mi_iconst (z := 0) dX11_shapes_31 rfl) ?_
    refine Sg.go (pc' := 33) (mi_istore_n (ls1 := [(42, 0), (0, v1), (0, 0), (0, 0)]) dX11_shapes_32 (by decide) rfl) ?_
    exact S_X11_shapes_33 hL mi_fuel v1 0 0 D3
  · refine Sg.go (pc' := 27) (mi_ifeq_f (tgt := 29) dX11_shapes_24 (by decide) h4) ?_
    refine Sg.go (pc' := 28) (mi_iconst (z := 0) dX11_shapes_27 rfl) ?_
    exact Sg.ret (mi_ireturn dX11_shapes_28 rfl (Or.inl rfl))
def B_X11_shapes (v1 : Int) (D : MiD) : Option (Int × MiD) := mi_let (mi_st D 40 0 0 0) fun D1 => if (B_X11_isDatum v1) ≠ 0 then (B_X11_shapes_19 v1 0 D1) else (B_X11_shapes_19 v1 1 D1)
set_option maxRecDepth 20000 in
theorem S_X11_shapes {Z : MiZ} (hL : ML Z) (v1 : Int) (D : MiD) : Sg m_X11_shapes 0 [(42, 0), (0, v1), mi_un, mi_un] [] (D, Z) (mi_LD 0 Z) (B_X11_shapes v1 D) := by
  unfold B_X11_shapes
  refine Sg.go (pc' := 1) (mi_aload_n dX11_shapes_0 rfl) ?_
  refine Sg.go (pc' := 2) (mi_iconst (z := 0) dX11_shapes_1 rfl) ?_
  refine Sg.goM (pc' := 5) (mi_pfD (r := 40) (k := 0) (t := 0) dX11_shapes_2 hC_40 (by decide) rfl rfl wF_X11_78 (by omega) rfl (by decide) (Or.inl ⟨rfl, rfl⟩)) ?_
  refine Sg.letD (fun D1 hD1 => ?_)
  refine Sg.go (pc' := 6) (mi_aload_n dX11_shapes_5 rfl) ?_
  refine Sg.go (pc' := 7) (mi_aload_n dX11_shapes_6 rfl) ?_
  refine Sg.go (pc' := 8) (mi_iload_n dX11_shapes_7 rfl) ?_
  refine Sg.callP (pc' := 11) (t := 0) (v := (B_X11_isDatum v1)) (μ' := m_X11_isDatum) (args := [(42, 0), (0, v1)]) (mi_invV (n := 1) (r := 40) dX11_shapes_8 hC_40 (by omega) rfl rfl wN_X11_isDatum rfl ⟨by decide, by decide⟩ wL_X11_358 wI_X11_isDatum wS_X11_isDatum wB_X11 wC_X11_isDatum) (C_X11_isDatum hL v1 D1) (Nat.le_of_ble_eq_true rfl) rfl rfl ?_
  refine Sg.ite (fun h2 => ?_) (fun h2 => ?_)
  · refine Sg.go (pc' := 18) (mi_ifne_t (tgt := 18) dX11_shapes_11 (by decide) h2) ?_
    refine Sg.go (pc' := 19) (mi_iconst (z := 0) dX11_shapes_18 rfl) ?_
    exact S_X11_shapes_19 hL v1 0 D1
  · refine Sg.go (pc' := 14) (mi_ifne_f (tgt := 18) dX11_shapes_11 (by decide) h2) ?_
    refine Sg.go (pc' := 15) (mi_iconst (z := 1) dX11_shapes_14 rfl) ?_
    refine Sg.go (pc' := 19) (mi_goto (tgt := 19) dX11_shapes_15 (by decide)) ?_
    exact S_X11_shapes_19 hL v1 1 D1
theorem C_X11_shapes {Z : MiZ} (hL : ML Z) (a1 : Int) (D : MiD) (b : Int × MiD) (hb : B_X11_shapes a1 D = some b) : MC m_X11_shapes [(42, 0), (0, a1)] (D, Z) ((mi_LD 0 Z) b) := MC.ofSg (L := (mi_LD 0 Z)) (μ := m_X11_shapes) (args := [(42, 0), (0, a1)]) (M := (D, Z)) rfl wP_X11 (Nat.le_of_ble_eq_true rfl) (show Sg m_X11_shapes 0 [(42, 0), (0, a1), mi_un, mi_un] [] (D, Z) (mi_LD 0 Z) (B_X11_shapes a1 D) from S_X11_shapes hL a1 D) hb
abbrev m_X11_does : MiI := (yX11_does, cX11_does, 4, (some .int), 6, none)
def B_X11_does_179 (v1 : Int) (s0 : Int) (D : MiD) : Option (Int × MiD) := if s0 ≤ 0 then (if 0 ≤ v1 ∧ v1 < 7 then (mi_let (mi_st D 59 v1 2 (D 40 0 25)) fun D3 => mi_let (mi_st D3 60 0 v1 (D3 40 0 26)) fun D4 => some (0, D4)) else none) else (some (s0, D))
set_option maxRecDepth 20000 in
theorem S_X11_does_179 {Z : MiZ} (hL : ML Z) (v1 s0 : Int) (D : MiD) : Sg m_X11_does 179 [(42, 0), (0, v1), mi_un, mi_un] [(0, s0)] (D, Z) (mi_LD 0 Z) (B_X11_does_179 v1 s0 D) := by
  unfold B_X11_does_179
  refine Sg.go (pc' := 180) (mi_istore_n (ls1 := [(42, 0), (0, v1), mi_un, (0, s0)]) dX11_does_179 (by decide) rfl) ?_
  refine Sg.go (pc' := 181) (mi_iload_n dX11_does_180 rfl) ?_
  refine Sg.ite (fun h1 => ?_) (fun h1 => ?_)
  · refine Sg.go (pc' := 186) (mi_ifle_t (tgt := 186) dX11_does_181 (by decide) h1) ?_
    refine Sg.go (pc' := 187) (mi_aload_n dX11_does_186 rfl) ?_
    refine Sg.go (pc' := 190) (mi_gfA (t := 58) (v := 0) (r := 40) (k := 20) dX11_does_187 hC_40 (by decide) rfl wF_X11_56 (by omega) rfl (hL.1 20 (by decide))) ?_
    refine Sg.go (pc' := 191) (mi_iload_n dX11_does_190 rfl) ?_
    refine Sg.ck (fun hk2 => ?_)
    refine Sg.go (pc' := 192) (mi_aald (n := 7) (t := 59) (v := v1) dX11_does_191 rfl hA_58 rfl (by omega) hk2 rfl (hL.2.2.2.2.2.2.1 _ hk2.1 hk2.2)) ?_
    refine Sg.go (pc' := 193) (mi_iconst (z := 2) dX11_does_192 rfl) ?_
    refine Sg.go (pc' := 194) (mi_aload_n dX11_does_193 rfl) ?_
    refine Sg.go (pc' := 197) (mi_gfI (r := 40) (k := 25) dX11_does_194 hC_40 (by decide) rfl wF_X11_293 (by omega) rfl) ?_
    refine Sg.goM (pc' := 198) (mi_iast (n := 7) dX11_does_197 rfl rfl (by omega) (by decide)) ?_
    refine Sg.letD (fun D3 hD3 => ?_)
    refine Sg.go (pc' := 199) (mi_aload_n dX11_does_198 rfl) ?_
    refine Sg.go (pc' := 202) (mi_gfA (t := 60) (v := 0) (r := 40) (k := 21) dX11_does_199 hC_40 (by decide) rfl wF_X11_59 (by omega) rfl (hL.1 21 (by decide))) ?_
    refine Sg.go (pc' := 203) (mi_iload_n dX11_does_202 rfl) ?_
    refine Sg.go (pc' := 204) (mi_aload_n dX11_does_203 rfl) ?_
    refine Sg.go (pc' := 207) (mi_gfJ (r := 40) (k := 26) dX11_does_204 hC_40 (by decide) rfl wF_X11_300 (by omega) rfl) ?_
    refine Sg.goM (pc' := 208) (mi_last (n := 7) dX11_does_207 rfl rfl (by omega) hk2) ?_
    refine Sg.letD (fun D4 hD4 => ?_)
    refine Sg.go (pc' := 209) (mi_iconst (z := 0) dX11_does_208 rfl) ?_
    exact Sg.ret (mi_ireturn dX11_does_209 rfl (Or.inl rfl))
  · refine Sg.go (pc' := 184) (mi_ifle_f (tgt := 186) dX11_does_181 (by decide) h1) ?_
    refine Sg.go (pc' := 185) (mi_iload_n dX11_does_184 rfl) ?_
    exact Sg.ret (mi_ireturn dX11_does_185 rfl (Or.inl rfl))
def B_X11_does_145 (v1 : Int) (v2 : Int) (D : MiD) : Option (Int × MiD) := if (D 46 v2 0) ≠ 10 then (mi_b2 (B_X11_boxes (D 46 v2 2) (D 46 v2 3) D) fun y2 D3 => B_X11_does_179 v1 y2 D3) else (mi_b2 (B_X11_gets (D 46 v2 1) (D 46 v2 2) (D 46 v2 3) D) fun y4 D5 => B_X11_does_179 v1 y4 D5)
set_option maxRecDepth 20000 in
theorem S_X11_does_145 {Z : MiZ} (hL : ML Z) (v1 v2 : Int) (D : MiD) : (0 ≤ v2 ∧ v2 < 2664) → Sg m_X11_does 145 [(42, 0), (0, v1), (48, v2), mi_un] [] (D, Z) (mi_LD 0 Z) (B_X11_does_145 v1 v2 D) := by
  intro hb2
  unfold B_X11_does_145
  refine Sg.go (pc' := 146) (mi_aload_n dX11_does_145 rfl) ?_
  refine Sg.go (pc' := 147) (mi_iconst (z := 0) dX11_does_146 rfl) ?_
  refine Sg.go (pc' := 148) (mi_iald (n := 6) dX11_does_147 rfl rfl (by omega) (by decide)) ?_
  refine Sg.go (pc' := 150) (mi_bipush (z := 10) dX11_does_148 rfl) ?_
  refine Sg.ite (fun h1 => ?_) (fun h1 => ?_)
  · refine Sg.go (pc' := 169) (mi_icmpne_t (tgt := 169) dX11_does_150 (by decide) h1) ?_
    refine Sg.go (pc' := 170) (mi_aload_n dX11_does_169 rfl) ?_
    refine Sg.go (pc' := 171) (mi_aload_n dX11_does_170 rfl) ?_
    refine Sg.go (pc' := 172) (mi_iconst (z := 2) dX11_does_171 rfl) ?_
    refine Sg.go (pc' := 173) (mi_iald (n := 6) dX11_does_172 rfl rfl (by omega) (by decide)) ?_
    refine Sg.go (pc' := 174) (mi_aload_n dX11_does_173 rfl) ?_
    refine Sg.go (pc' := 175) (mi_iconst (z := 3) dX11_does_174 rfl) ?_
    refine Sg.go (pc' := 176) (mi_iald (n := 6) dX11_does_175 rfl rfl (by omega) (by decide)) ?_
    refine Sg.callD (pc' := 179) (t := 0) (μ' := m_X11_boxes) (args := [(42, 0), (0, (D 46 v2 2)), (0, (D 46 v2 3))]) (mi_invV (n := 2) (r := 40) dX11_does_176 hC_40 (by omega) rfl rfl wN_X11_boxes rfl ⟨by decide, by decide⟩ wL_X11_321 wI_X11_boxes wS_X11_boxes wB_X11 wC_X11_boxes) (fun v hv => C_X11_boxes hL (D 46 v2 2) (D 46 v2 3) D v hv) (Nat.le_of_ble_eq_true rfl) rfl rfl (fun y2 D3 => ?_)
    refine Sg.go (pc' := 179) (MiStep.weak (ls' := [(42, 0), (0, v1), mi_un, mi_un]) (mi_wk_y (mi_wk_y (mi_wk_n (mi_wk_y mi_wk_0))))) ?_
    exact S_X11_does_179 hL v1 y2 D3
  · refine Sg.go (pc' := 153) (mi_icmpne_f (tgt := 169) dX11_does_150 (by decide) h1) ?_
    refine Sg.go (pc' := 154) (mi_aload_n dX11_does_153 rfl) ?_
    refine Sg.go (pc' := 155) (mi_aload_n dX11_does_154 rfl) ?_
    refine Sg.go (pc' := 156) (mi_iconst (z := 1) dX11_does_155 rfl) ?_
    refine Sg.go (pc' := 157) (mi_iald (n := 6) dX11_does_156 rfl rfl (by omega) (by decide)) ?_
    refine Sg.go (pc' := 158) (mi_aload_n dX11_does_157 rfl) ?_
    refine Sg.go (pc' := 159) (mi_iconst (z := 2) dX11_does_158 rfl) ?_
    refine Sg.go (pc' := 160) (mi_iald (n := 6) dX11_does_159 rfl rfl (by omega) (by decide)) ?_
    refine Sg.go (pc' := 161) (mi_aload_n dX11_does_160 rfl) ?_
    refine Sg.go (pc' := 162) (mi_iconst (z := 3) dX11_does_161 rfl) ?_
    refine Sg.go (pc' := 163) (mi_iald (n := 6) dX11_does_162 rfl rfl (by omega) (by decide)) ?_
    refine Sg.callD (pc' := 166) (t := 0) (μ' := m_X11_gets) (args := [(42, 0), (0, (D 46 v2 1)), (0, (D 46 v2 2)), (0, (D 46 v2 3))]) (mi_invV (n := 3) (r := 40) dX11_does_163 hC_40 (by omega) rfl rfl wN_X11_gets rfl ⟨by decide, by decide⟩ wL_X11_317 wI_X11_gets wS_X11_gets wB_X11 wC_X11_gets) (fun v hv => C_X11_gets hL (D 46 v2 1) (D 46 v2 2) (D 46 v2 3) D v hv) (Nat.le_of_ble_eq_true rfl) rfl rfl (fun y4 D5 => ?_)
    refine Sg.go (pc' := 179) (mi_goto (tgt := 179) dX11_does_166 (by decide)) ?_
    refine Sg.go (pc' := 179) (MiStep.weak (ls' := [(42, 0), (0, v1), mi_un, mi_un]) (mi_wk_y (mi_wk_y (mi_wk_n (mi_wk_y mi_wk_0))))) ?_
    exact S_X11_does_179 hL v1 y4 D5
def B_X11_does_252 (v2 : Int) (D : MiD) : Option (Int × MiD) := mi_b2 (B_X11_makes v2 D) fun y1 D2 => some (y1, D2)
set_option maxRecDepth 20000 in
theorem S_X11_does_252 {Z : MiZ} (hL : ML Z) (v2 : Int) (D : MiD) : (0 ≤ v2 ∧ v2 < 2664) → Sg m_X11_does 252 [(42, 0), mi_un, (48, v2), mi_un] [] (D, Z) (mi_LD 0 Z) (B_X11_does_252 v2 D) := by
  intro hb2
  unfold B_X11_does_252
  refine Sg.go (pc' := 253) (mi_aload_n dX11_does_252 rfl) ?_
  refine Sg.go (pc' := 254) (mi_aload_n dX11_does_253 rfl) ?_
  refine Sg.callD (pc' := 257) (t := 0) (μ' := m_X11_makes) (args := [(42, 0), (48, v2)]) (mi_invV (n := 1) (r := 40) dX11_does_254 hC_40 (by omega) rfl rfl wN_X11_makes rfl ⟨by decide, by decide⟩ wL_X11_332 wI_X11_makes wS_X11_makes wB_X11 wC_X11_makes) (fun v hv => C_X11_makes hL v2 D (by omega) v hv) (Nat.le_of_ble_eq_true rfl) rfl rfl (fun y1 D2 => ?_)
  exact Sg.ret (mi_ireturn dX11_does_257 rfl (Or.inl rfl))
def B_X11_does (v1 : Int) (v2 : Int) (D : MiD) : Option (Int × MiD) := if (D 46 v2 0) = 7 then (if 0 ≤ v1 ∧ v1 < 7 then (mi_let (mi_st D 59 v1 2 (D 46 v2 1)) fun D4 => mi_let (mi_st D4 60 0 v1 (B_X11_cut (D4 46 v2 2) (D4 46 v2 1))) fun D5 => some (0, D5)) else none) else (if (D 46 v2 0) = 8 then (if 0 ≤ v1 ∧ v1 < 7 then (mi_let (mi_st D 59 v1 2 8) fun D8 => mi_let (mi_st D8 60 0 v1 (mi_W ((mi_W (19683 * (D8 46 v2 1))) + (D8 46 v2 2)))) fun D9 => some (0, D9)) else none) else (if (D 46 v2 0) = 9 then (if 0 ≤ v1 ∧ v1 < 7 then (mi_let (mi_st D 59 v1 2 (-1)) fun D12 => mi_let (mi_st D12 60 0 v1 0) fun D13 => some (0, D13)) else none) else (if (D 46 v2 0) = 10 then (B_X11_does_145 v1 v2 D) else (if (D 46 v2 0) = 11 then (mi_b2 (B_X11_sets (D 46 v2 1) (D 46 v2 2) (D 46 v2 3) (D 46 v2 4) D) fun y16 D17 => some (y16, D17)) else (if (D 46 v2 0) = 12 then (B_X11_does_145 v1 v2 D) else (if (D 46 v2 0) = 13 then (if 0 ≤ v1 ∧ v1 < 7 then (mi_b2 (B_X11_puts (D 59 v1 2) (D 60 0 v1) (D 46 v2 2) (D 46 v2 3) D) fun y21 D22 => some (y21, D22)) else none) else (if (D 46 v2 0) = 14 then (B_X11_does_252 v2 D) else (if (D 46 v2 0) = 15 then (B_X11_does_252 v2 D) else (if (D 46 v2 0) = 16 then (mi_b2 (B_X11_becomes (D 46 v2 2) (D 46 v2 1) (D 46 v2 4) D) fun y26 D27 => some (y26, D27)) else (if (D 46 v2 0) = 17 then (mi_b2 (B_X11_keeps (D 46 v2 2) (D 46 v2 3) D) fun y29 D30 => some (y29, D30)) else (if (D 46 v2 0) = 18 then (mi_b2 (B_X11_lifts (D 46 v2 2) (D 46 v2 3) D) fun y32 D33 => some (y32, D33)) else (some (0, D)))))))))))))
set_option maxRecDepth 20000 in
theorem S_X11_does {Z : MiZ} (hL : ML Z) (v1 v2 : Int) (D : MiD) : (0 ≤ v2 ∧ v2 < 2664) → Sg m_X11_does 0 [(42, 0), (0, v1), (48, v2), mi_un] [] (D, Z) (mi_LD 0 Z) (B_X11_does v1 v2 D) := by
  intro hb2
  unfold B_X11_does
  refine Sg.go (pc' := 1) (mi_iconst (z := 0) dX11_does_0 rfl) ?_
  refine Sg.go (pc' := 2) (mi_istore_n (ls1 := [(42, 0), (0, v1), (48, v2), (0, 0)]) dX11_does_1 (by decide) rfl) ?_
  refine Sg.go (pc' := 3) (mi_aload_n dX11_does_2 rfl) ?_
  refine Sg.go (pc' := 4) (mi_iconst (z := 0) dX11_does_3 rfl) ?_
  refine Sg.go (pc' := 5) (mi_iald (n := 6) dX11_does_4 rfl rfl (by omega) (by decide)) ?_
  refine Sg.ite (fun h2 => ?_) (fun h2 => ?_)
  · refine Sg.go (pc' := 68) (mi_tabIn (tgt := 68) dX11_does_5 (by omega) (by omega) (by rw [h2]; rfl) (by decide)) ?_
    refine Sg.go (pc' := 69) (mi_aload_n dX11_does_68 rfl) ?_
    refine Sg.go (pc' := 72) (mi_gfA (t := 58) (v := 0) (r := 40) (k := 20) dX11_does_69 hC_40 (by decide) rfl wF_X11_56 (by omega) rfl (hL.1 20 (by decide))) ?_
    refine Sg.go (pc' := 73) (mi_iload_n dX11_does_72 rfl) ?_
    refine Sg.ck (fun hk3 => ?_)
    refine Sg.go (pc' := 74) (mi_aald (n := 7) (t := 59) (v := v1) dX11_does_73 rfl hA_58 rfl (by omega) hk3 rfl (hL.2.2.2.2.2.2.1 _ hk3.1 hk3.2)) ?_
    refine Sg.go (pc' := 75) (mi_iconst (z := 2) dX11_does_74 rfl) ?_
    refine Sg.go (pc' := 76) (mi_aload_n dX11_does_75 rfl) ?_
    refine Sg.go (pc' := 77) (mi_iconst (z := 1) dX11_does_76 rfl) ?_
    refine Sg.go (pc' := 78) (mi_iald (n := 6) dX11_does_77 rfl rfl (by omega) (by decide)) ?_
    refine Sg.goM (pc' := 79) (mi_iast (n := 7) dX11_does_78 rfl rfl (by omega) (by decide)) ?_
    refine Sg.letD (fun D4 hD4 => ?_)
    refine Sg.go (pc' := 80) (mi_aload_n dX11_does_79 rfl) ?_
    refine Sg.go (pc' := 83) (mi_gfA (t := 60) (v := 0) (r := 40) (k := 21) dX11_does_80 hC_40 (by decide) rfl wF_X11_59 (by omega) rfl (hL.1 21 (by decide))) ?_
    refine Sg.go (pc' := 84) (mi_iload_n dX11_does_83 rfl) ?_
    refine Sg.go (pc' := 85) (mi_aload_n dX11_does_84 rfl) ?_
    refine Sg.go (pc' := 86) (mi_iconst (z := 2) dX11_does_85 rfl) ?_
    refine Sg.go (pc' := 87) (mi_iald (n := 6) dX11_does_86 rfl rfl (by omega) (by decide)) ?_
    refine Sg.go (pc' := 88) (mi_aload_n dX11_does_87 rfl) ?_
    refine Sg.go (pc' := 89) (mi_iconst (z := 1) dX11_does_88 rfl) ?_
    refine Sg.go (pc' := 90) (mi_iald (n := 6) dX11_does_89 rfl rfl (by omega) (by decide)) ?_
    refine Sg.callP (pc' := 93) (t := 1) (v := (B_X11_cut (D4 46 v2 2) (D4 46 v2 1))) (μ' := m_X11_cut) (args := [(0, (D4 46 v2 2)), (0, (D4 46 v2 1))]) (mi_invS (n := 2) dX11_does_90 rfl wN_X11_cut rfl ⟨by decide, by decide⟩ wL_X11_304 wT_X11_cut wB_X11 wC_X11_cut) (C_X11_cut hL (D4 46 v2 2) (D4 46 v2 1) D4) (Nat.le_of_ble_eq_true rfl) rfl rfl ?_
    refine Sg.goM (pc' := 94) (mi_last (n := 7) dX11_does_93 rfl rfl (by omega) hk3) ?_
    refine Sg.letD (fun D5 hD5 => ?_)
    refine Sg.go (pc' := 95) (mi_iconst (z := 0) dX11_does_94 rfl) ?_
    exact Sg.ret (mi_ireturn dX11_does_95 rfl (Or.inl rfl))
  · refine Sg.ite (fun h6 => ?_) (fun h6 => ?_)
    · refine Sg.go (pc' := 96) (mi_tabIn (tgt := 96) dX11_does_5 (by omega) (by omega) (by rw [h6]; rfl) (by decide)) ?_
      refine Sg.go (pc' := 97) (mi_aload_n dX11_does_96 rfl) ?_
      refine Sg.go (pc' := 100) (mi_gfA (t := 58) (v := 0) (r := 40) (k := 20) dX11_does_97 hC_40 (by decide) rfl wF_X11_56 (by omega) rfl (hL.1 20 (by decide))) ?_
      refine Sg.go (pc' := 101) (mi_iload_n dX11_does_100 rfl) ?_
      refine Sg.ck (fun hk7 => ?_)
      refine Sg.go (pc' := 102) (mi_aald (n := 7) (t := 59) (v := v1) dX11_does_101 rfl hA_58 rfl (by omega) hk7 rfl (hL.2.2.2.2.2.2.1 _ hk7.1 hk7.2)) ?_
      refine Sg.go (pc' := 103) (mi_iconst (z := 2) dX11_does_102 rfl) ?_
      refine Sg.go (pc' := 105) (mi_bipush (z := 8) dX11_does_103 rfl) ?_
      refine Sg.goM (pc' := 106) (mi_iast (n := 7) dX11_does_105 rfl rfl (by omega) (by decide)) ?_
      refine Sg.letD (fun D8 hD8 => ?_)
      refine Sg.go (pc' := 107) (mi_aload_n dX11_does_106 rfl) ?_
      refine Sg.go (pc' := 110) (mi_gfA (t := 60) (v := 0) (r := 40) (k := 21) dX11_does_107 hC_40 (by decide) rfl wF_X11_59 (by omega) rfl (hL.1 21 (by decide))) ?_
      refine Sg.go (pc' := 111) (mi_iload_n dX11_does_110 rfl) ?_
      refine Sg.go (pc' := 114) (mi_ldc2 (z := 19683) dX11_does_111 wK_X11_214 rfl) ?_
      refine Sg.go (pc' := 115) (mi_aload_n dX11_does_114 rfl) ?_
      refine Sg.go (pc' := 116) (mi_iconst (z := 1) dX11_does_115 rfl) ?_
      refine Sg.go (pc' := 117) (mi_iald (n := 6) dX11_does_116 rfl rfl (by omega) (by decide)) ?_
      refine Sg.go (pc' := 118) (mi_i2l dX11_does_117) ?_
      refine Sg.go (pc' := 119) (mi_lmul dX11_does_118) ?_
      refine Sg.go (pc' := 120) (mi_aload_n dX11_does_119 rfl) ?_
      refine Sg.go (pc' := 121) (mi_iconst (z := 2) dX11_does_120 rfl) ?_
      refine Sg.go (pc' := 122) (mi_iald (n := 6) dX11_does_121 rfl rfl (by omega) (by decide)) ?_
      refine Sg.go (pc' := 123) (mi_i2l dX11_does_122) ?_
      refine Sg.go (pc' := 124) (mi_ladd dX11_does_123) ?_
      refine Sg.goM (pc' := 125) (mi_last (n := 7) dX11_does_124 rfl rfl (by omega) hk7) ?_
      refine Sg.letD (fun D9 hD9 => ?_)
      refine Sg.go (pc' := 126) (mi_iconst (z := 0) dX11_does_125 rfl) ?_
      exact Sg.ret (mi_ireturn dX11_does_126 rfl (Or.inl rfl))
    · refine Sg.ite (fun h10 => ?_) (fun h10 => ?_)
      · refine Sg.go (pc' := 127) (mi_tabIn (tgt := 127) dX11_does_5 (by omega) (by omega) (by rw [h10]; rfl) (by decide)) ?_
        refine Sg.go (pc' := 128) (mi_aload_n dX11_does_127 rfl) ?_
        refine Sg.go (pc' := 131) (mi_gfA (t := 58) (v := 0) (r := 40) (k := 20) dX11_does_128 hC_40 (by decide) rfl wF_X11_56 (by omega) rfl (hL.1 20 (by decide))) ?_
        refine Sg.go (pc' := 132) (mi_iload_n dX11_does_131 rfl) ?_
        refine Sg.ck (fun hk11 => ?_)
        refine Sg.go (pc' := 133) (mi_aald (n := 7) (t := 59) (v := v1) dX11_does_132 rfl hA_58 rfl (by omega) hk11 rfl (hL.2.2.2.2.2.2.1 _ hk11.1 hk11.2)) ?_
        refine Sg.go (pc' := 134) (mi_iconst (z := 2) dX11_does_133 rfl) ?_
        refine Sg.go (pc' := 135) (mi_iconst (z := (-1)) dX11_does_134 rfl) ?_
        refine Sg.goM (pc' := 136) (mi_iast (n := 7) dX11_does_135 rfl rfl (by omega) (by decide)) ?_
        refine Sg.letD (fun D12 hD12 => ?_)
        refine Sg.go (pc' := 137) (mi_aload_n dX11_does_136 rfl) ?_
        refine Sg.go (pc' := 140) (mi_gfA (t := 60) (v := 0) (r := 40) (k := 21) dX11_does_137 hC_40 (by decide) rfl wF_X11_59 (by omega) rfl (hL.1 21 (by decide))) ?_
        refine Sg.go (pc' := 141) (mi_iload_n dX11_does_140 rfl) ?_
        refine Sg.go (pc' := 142) (mi_lconst (z := 0) dX11_does_141 rfl) ?_
        refine Sg.goM (pc' := 143) (mi_last (n := 7) dX11_does_142 rfl rfl (by omega) hk11) ?_
        refine Sg.letD (fun D13 hD13 => ?_)
        refine Sg.go (pc' := 144) (mi_iconst (z := 0) dX11_does_143 rfl) ?_
        exact Sg.ret (mi_ireturn dX11_does_144 rfl (Or.inl rfl))
      · refine Sg.ite (fun h14 => ?_) (fun h14 => ?_)
        · refine Sg.go (pc' := 145) (mi_tabIn (tgt := 145) dX11_does_5 (by omega) (by omega) (by rw [h14]; rfl) (by decide)) ?_
          refine Sg.go (pc' := 145) (MiStep.weak (ls' := [(42, 0), (0, v1), (48, v2), mi_un]) (mi_wk_y (mi_wk_y (mi_wk_y (mi_wk_n mi_wk_0))))) ?_
          exact S_X11_does_145 hL v1 v2 D hb2
        · refine Sg.ite (fun h15 => ?_) (fun h15 => ?_)
          · refine Sg.go (pc' := 210) (mi_tabIn (tgt := 210) dX11_does_5 (by omega) (by omega) (by rw [h15]; rfl) (by decide)) ?_
            refine Sg.go (pc' := 211) (mi_aload_n dX11_does_210 rfl) ?_
            refine Sg.go (pc' := 212) (mi_aload_n dX11_does_211 rfl) ?_
            refine Sg.go (pc' := 213) (mi_iconst (z := 1) dX11_does_212 rfl) ?_
            refine Sg.go (pc' := 214) (mi_iald (n := 6) dX11_does_213 rfl rfl (by omega) (by decide)) ?_
            refine Sg.go (pc' := 215) (mi_aload_n dX11_does_214 rfl) ?_
            refine Sg.go (pc' := 216) (mi_iconst (z := 2) dX11_does_215 rfl) ?_
            refine Sg.go (pc' := 217) (mi_iald (n := 6) dX11_does_216 rfl rfl (by omega) (by decide)) ?_
            refine Sg.go (pc' := 218) (mi_aload_n dX11_does_217 rfl) ?_
            refine Sg.go (pc' := 219) (mi_iconst (z := 3) dX11_does_218 rfl) ?_
            refine Sg.go (pc' := 220) (mi_iald (n := 6) dX11_does_219 rfl rfl (by omega) (by decide)) ?_
            refine Sg.go (pc' := 221) (mi_aload_n dX11_does_220 rfl) ?_
            refine Sg.go (pc' := 222) (mi_iconst (z := 4) dX11_does_221 rfl) ?_
            refine Sg.go (pc' := 223) (mi_iald (n := 6) dX11_does_222 rfl rfl (by omega) (by decide)) ?_
            refine Sg.callD (pc' := 226) (t := 0) (μ' := m_X11_sets) (args := [(42, 0), (0, (D 46 v2 1)), (0, (D 46 v2 2)), (0, (D 46 v2 3)), (0, (D 46 v2 4))]) (mi_invV (n := 4) (r := 40) dX11_does_223 hC_40 (by omega) rfl rfl wN_X11_sets rfl ⟨by decide, by decide⟩ wL_X11_324 wI_X11_sets wS_X11_sets wB_X11 wC_X11_sets) (fun v hv => C_X11_sets hL (D 46 v2 1) (D 46 v2 2) (D 46 v2 3) (D 46 v2 4) D v hv) (Nat.le_of_ble_eq_true rfl) rfl rfl (fun y16 D17 => ?_)
            exact Sg.ret (mi_ireturn dX11_does_226 rfl (Or.inl rfl))
          · refine Sg.ite (fun h18 => ?_) (fun h18 => ?_)
            · refine Sg.go (pc' := 145) (mi_tabIn (tgt := 145) dX11_does_5 (by omega) (by omega) (by rw [h18]; rfl) (by decide)) ?_
              refine Sg.go (pc' := 145) (MiStep.weak (ls' := [(42, 0), (0, v1), (48, v2), mi_un]) (mi_wk_y (mi_wk_y (mi_wk_y (mi_wk_n mi_wk_0))))) ?_
              exact S_X11_does_145 hL v1 v2 D hb2
            · refine Sg.ite (fun h19 => ?_) (fun h19 => ?_)
              · refine Sg.go (pc' := 227) (mi_tabIn (tgt := 227) dX11_does_5 (by omega) (by omega) (by rw [h19]; rfl) (by decide)) ?_
                refine Sg.go (pc' := 228) (mi_aload_n dX11_does_227 rfl) ?_
                refine Sg.go (pc' := 229) (mi_aload_n dX11_does_228 rfl) ?_
                refine Sg.go (pc' := 232) (mi_gfA (t := 58) (v := 0) (r := 40) (k := 20) dX11_does_229 hC_40 (by decide) rfl wF_X11_56 (by omega) rfl (hL.1 20 (by decide))) ?_
                refine Sg.go (pc' := 233) (mi_iload_n dX11_does_232 rfl) ?_
                refine Sg.ck (fun hk20 => ?_)
                refine Sg.go (pc' := 234) (mi_aald (n := 7) (t := 59) (v := v1) dX11_does_233 rfl hA_58 rfl (by omega) hk20 rfl (hL.2.2.2.2.2.2.1 _ hk20.1 hk20.2)) ?_
                refine Sg.go (pc' := 235) (mi_iconst (z := 2) dX11_does_234 rfl) ?_
                refine Sg.go (pc' := 236) (mi_iald (n := 7) dX11_does_235 rfl rfl (by omega) (by decide)) ?_
                refine Sg.go (pc' := 237) (mi_aload_n dX11_does_236 rfl) ?_
                refine Sg.go (pc' := 240) (mi_gfA (t := 60) (v := 0) (r := 40) (k := 21) dX11_does_237 hC_40 (by decide) rfl wF_X11_59 (by omega) rfl (hL.1 21 (by decide))) ?_
                refine Sg.go (pc' := 241) (mi_iload_n dX11_does_240 rfl) ?_
                refine Sg.go (pc' := 242) (mi_lald (n := 7) dX11_does_241 rfl rfl (by omega) hk20) ?_
                refine Sg.go (pc' := 243) (mi_aload_n dX11_does_242 rfl) ?_
                refine Sg.go (pc' := 244) (mi_iconst (z := 2) dX11_does_243 rfl) ?_
                refine Sg.go (pc' := 245) (mi_iald (n := 6) dX11_does_244 rfl rfl (by omega) (by decide)) ?_
                refine Sg.go (pc' := 246) (mi_aload_n dX11_does_245 rfl) ?_
                refine Sg.go (pc' := 247) (mi_iconst (z := 3) dX11_does_246 rfl) ?_
                refine Sg.go (pc' := 248) (mi_iald (n := 6) dX11_does_247 rfl rfl (by omega) (by decide)) ?_
                refine Sg.callD (pc' := 251) (t := 0) (μ' := m_X11_puts) (args := [(42, 0), (0, (D 59 v1 2)), (1, (D 60 0 v1)), (0, (D 46 v2 2)), (0, (D 46 v2 3))]) (mi_invV (n := 4) (r := 40) dX11_does_248 hC_40 (by omega) rfl rfl wN_X11_puts rfl ⟨by decide, by decide⟩ wL_X11_328 wI_X11_puts wS_X11_puts wB_X11 wC_X11_puts) (fun v hv => C_X11_puts hL (D 59 v1 2) (D 60 0 v1) (D 46 v2 2) (D 46 v2 3) D v hv) (Nat.le_of_ble_eq_true rfl) rfl rfl (fun y21 D22 => ?_)
                exact Sg.ret (mi_ireturn dX11_does_251 rfl (Or.inl rfl))
              · refine Sg.ite (fun h23 => ?_) (fun h23 => ?_)
                · refine Sg.go (pc' := 252) (mi_tabIn (tgt := 252) dX11_does_5 (by omega) (by omega) (by rw [h23]; rfl) (by decide)) ?_
                  refine Sg.go (pc' := 252) (MiStep.weak (ls' := [(42, 0), mi_un, (48, v2), mi_un]) (mi_wk_y (mi_wk_n (mi_wk_y (mi_wk_n mi_wk_0))))) ?_
                  exact S_X11_does_252 hL v2 D hb2
                · refine Sg.ite (fun h24 => ?_) (fun h24 => ?_)
                  · refine Sg.go (pc' := 252) (mi_tabIn (tgt := 252) dX11_does_5 (by omega) (by omega) (by rw [h24]; rfl) (by decide)) ?_
                    refine Sg.go (pc' := 252) (MiStep.weak (ls' := [(42, 0), mi_un, (48, v2), mi_un]) (mi_wk_y (mi_wk_n (mi_wk_y (mi_wk_n mi_wk_0))))) ?_
                    exact S_X11_does_252 hL v2 D hb2
                  · refine Sg.ite (fun h25 => ?_) (fun h25 => ?_)
                    · refine Sg.go (pc' := 258) (mi_tabIn (tgt := 258) dX11_does_5 (by omega) (by omega) (by rw [h25]; rfl) (by decide)) ?_
                      refine Sg.go (pc' := 259) (mi_aload_n dX11_does_258 rfl) ?_
                      refine Sg.go (pc' := 260) (mi_aload_n dX11_does_259 rfl) ?_
                      refine Sg.go (pc' := 261) (mi_iconst (z := 2) dX11_does_260 rfl) ?_
                      refine Sg.go (pc' := 262) (mi_iald (n := 6) dX11_does_261 rfl rfl (by omega) (by decide)) ?_
                      refine Sg.go (pc' := 263) (mi_aload_n dX11_does_262 rfl) ?_
                      refine Sg.go (pc' := 264) (mi_iconst (z := 1) dX11_does_263 rfl) ?_
                      refine Sg.go (pc' := 265) (mi_iald (n := 6) dX11_does_264 rfl rfl (by omega) (by decide)) ?_
                      refine Sg.go (pc' := 266) (mi_aload_n dX11_does_265 rfl) ?_
                      refine Sg.go (pc' := 267) (mi_iconst (z := 4) dX11_does_266 rfl) ?_
                      refine Sg.go (pc' := 268) (mi_iald (n := 6) dX11_does_267 rfl rfl (by omega) (by decide)) ?_
                      refine Sg.callD (pc' := 271) (t := 0) (μ' := m_X11_becomes) (args := [(42, 0), (0, (D 46 v2 2)), (0, (D 46 v2 1)), (0, (D 46 v2 4))]) (mi_invV (n := 3) (r := 40) dX11_does_268 hC_40 (by omega) rfl rfl wN_X11_becomes rfl ⟨by decide, by decide⟩ wL_X11_336 wI_X11_becomes wS_X11_becomes wB_X11 wC_X11_becomes) (fun v hv => C_X11_becomes hL (D 46 v2 2) (D 46 v2 1) (D 46 v2 4) D v hv) (Nat.le_of_ble_eq_true rfl) rfl rfl (fun y26 D27 => ?_)
                      exact Sg.ret (mi_ireturn dX11_does_271 rfl (Or.inl rfl))
                    · refine Sg.ite (fun h28 => ?_) (fun h28 => ?_)
                      · refine Sg.go (pc' := 272) (mi_tabIn (tgt := 272) dX11_does_5 (by omega) (by omega) (by rw [h28]; rfl) (by decide)) ?_
                        refine Sg.go (pc' := 273) (mi_aload_n dX11_does_272 rfl) ?_
                        refine Sg.go (pc' := 274) (mi_aload_n dX11_does_273 rfl) ?_
                        refine Sg.go (pc' := 275) (mi_iconst (z := 2) dX11_does_274 rfl) ?_
                        refine Sg.go (pc' := 276) (mi_iald (n := 6) dX11_does_275 rfl rfl (by omega) (by decide)) ?_
                        refine Sg.go (pc' := 277) (mi_aload_n dX11_does_276 rfl) ?_
                        refine Sg.go (pc' := 278) (mi_iconst (z := 3) dX11_does_277 rfl) ?_
                        refine Sg.go (pc' := 279) (mi_iald (n := 6) dX11_does_278 rfl rfl (by omega) (by decide)) ?_
                        refine Sg.callD (pc' := 282) (t := 0) (μ' := m_X11_keeps) (args := [(42, 0), (0, (D 46 v2 2)), (0, (D 46 v2 3))]) (mi_invV (n := 2) (r := 40) dX11_does_279 hC_40 (by omega) rfl rfl wN_X11_keeps rfl ⟨by decide, by decide⟩ wL_X11_339 wI_X11_keeps wS_X11_keeps wB_X11 wC_X11_keeps) (fun v hv => C_X11_keeps hL (D 46 v2 2) (D 46 v2 3) D v hv) (Nat.le_of_ble_eq_true rfl) rfl rfl (fun y29 D30 => ?_)
                        exact Sg.ret (mi_ireturn dX11_does_282 rfl (Or.inl rfl))
                      · refine Sg.ite (fun h31 => ?_) (fun h31 => ?_)
                        · refine Sg.go (pc' := 283) (mi_tabIn (tgt := 283) dX11_does_5 (by omega) (by omega) (by rw [h31]; rfl) (by decide)) ?_
                          refine Sg.go (pc' := 284) (mi_aload_n dX11_does_283 rfl) ?_
                          refine Sg.go (pc' := 285) (mi_aload_n dX11_does_284 rfl) ?_
                          refine Sg.go (pc' := 286) (mi_iconst (z := 2) dX11_does_285 rfl) ?_
                          refine Sg.go (pc' := 287) (mi_iald (n := 6) dX11_does_286 rfl rfl (by omega) (by decide)) ?_
                          refine Sg.go (pc' := 288) (mi_aload_n dX11_does_287 rfl) ?_
                          refine Sg.go (pc' := 289) (mi_iconst (z := 3) dX11_does_288 rfl) ?_
                          refine Sg.go (pc' := 290) (mi_iald (n := 6) dX11_does_289 rfl rfl (by omega) (by decide)) ?_
                          refine Sg.callD (pc' := 293) (t := 0) (μ' := m_X11_lifts) (args := [(42, 0), (0, (D 46 v2 2)), (0, (D 46 v2 3))]) (mi_invV (n := 2) (r := 40) dX11_does_290 hC_40 (by omega) rfl rfl wN_X11_lifts rfl ⟨by decide, by decide⟩ wL_X11_342 wI_X11_lifts wS_X11_lifts wB_X11 wC_X11_lifts) (fun v hv => C_X11_lifts hL (D 46 v2 2) (D 46 v2 3) D v hv) (Nat.le_of_ble_eq_true rfl) rfl rfl (fun y32 D33 => ?_)
                          exact Sg.ret (mi_ireturn dX11_does_293 rfl (Or.inl rfl))
                        · refine Sg.go (pc' := 294) (mi_tabOut (tgt := 294) dX11_does_5 (by omega) (by decide)) ?_
                          refine Sg.go (pc' := 295) (mi_iconst (z := 0) dX11_does_294 rfl) ?_
                          exact Sg.ret (mi_ireturn dX11_does_295 rfl (Or.inl rfl))
theorem C_X11_does {Z : MiZ} (hL : ML Z) (a1 a2 : Int) (D : MiD) (h0 : (0 ≤ a2 ∧ a2 < 2664)) (b : Int × MiD) (hb : B_X11_does a1 a2 D = some b) : MC m_X11_does [(42, 0), (0, a1), (48, a2)] (D, Z) ((mi_LD 0 Z) b) := MC.ofSg (L := (mi_LD 0 Z)) (μ := m_X11_does) (args := [(42, 0), (0, a1), (48, a2)]) (M := (D, Z)) rfl wP_X11 (Nat.le_of_ble_eq_true rfl) (show Sg m_X11_does 0 [(42, 0), (0, a1), (48, a2), mi_un] [] (D, Z) (mi_LD 0 Z) (B_X11_does a1 a2 D) from S_X11_does hL a1 a2 D h0) hb
abbrev m_X11_shape : MiI := (yX11_shape, cX11_shape, 4, (some .int), 6, none)
def B_X11_shape_53 (v1 : Int) (v2 : Int) (v3 : Int) (s1 : Int) (D : MiD) : Option (Int × MiD) := if s1 = 0 ∨ s1 = 1 then (mi_b2 (B_X11_bad s1 2 1 D) fun y2 D3 => if y2 = 0 then (mi_b2 (B_X11_becomes v1 v2 v3 D3) fun y5 D6 => some (y5, D6)) else (some (0, D3))) else none
set_option maxRecDepth 20000 in
theorem S_X11_shape_53 {Z : MiZ} (hL : ML Z) (v1 v2 v3 s1 : Int) (D : MiD) : Sg m_X11_shape 53 [(42, 0), (0, v1), (0, v2), (0, v3)] [(0, s1), (42, 0)] (D, Z) (mi_LD 0 Z) (B_X11_shape_53 v1 v2 v3 s1 D) := by
  unfold B_X11_shape_53
  refine Sg.go (pc' := 54) (mi_iconst (z := 2) dX11_shape_53 rfl) ?_
  refine Sg.go (pc' := 55) (mi_iconst (z := 1) dX11_shape_54 rfl) ?_
  refine Sg.ck (fun hk1 => ?_)
  refine Sg.callD (pc' := 58) (t := 0) (μ' := m_X11_bad) (args := [(42, 0), (0, s1), (0, 2), (0, 1)]) (mi_invV (n := 3) (r := 40) dX11_shape_55 hC_40 (by omega) rfl rfl wN_X11_bad rfl ⟨by decide, by decide⟩ wL_X11_229 wI_X11_bad wS_X11_bad wB_X11 wC_X11_bad) (fun v hv => C_X11_bad hL s1 2 1 D (hk1) v hv) (Nat.le_of_ble_eq_true rfl) rfl rfl (fun y2 D3 => ?_)
  refine Sg.ite (fun h4 => ?_) (fun h4 => ?_)
  · refine Sg.go (pc' := 63) (mi_ifeq_t (tgt := 63) dX11_shape_58 (by decide) h4) ?_
    refine Sg.go (pc' := 64) (mi_aload_n dX11_shape_63 rfl) ?_
    refine Sg.go (pc' := 65) (mi_iload_n dX11_shape_64 rfl) ?_
    refine Sg.go (pc' := 66) (mi_iload_n dX11_shape_65 rfl) ?_
    refine Sg.go (pc' := 67) (mi_iload_n dX11_shape_66 rfl) ?_
    refine Sg.callD (pc' := 70) (t := 0) (μ' := m_X11_becomes) (args := [(42, 0), (0, v1), (0, v2), (0, v3)]) (mi_invV (n := 3) (r := 40) dX11_shape_67 hC_40 (by omega) rfl rfl wN_X11_becomes rfl ⟨by decide, by decide⟩ wL_X11_336 wI_X11_becomes wS_X11_becomes wB_X11 wC_X11_becomes) (fun v hv => C_X11_becomes hL v1 v2 v3 D3 v hv) (Nat.le_of_ble_eq_true rfl) rfl rfl (fun y5 D6 => ?_)
    exact Sg.ret (mi_ireturn dX11_shape_70 rfl (Or.inl rfl))
  · refine Sg.go (pc' := 61) (mi_ifeq_f (tgt := 63) dX11_shape_58 (by decide) h4) ?_
    refine Sg.go (pc' := 62) (mi_iconst (z := 0) dX11_shape_61 rfl) ?_
    exact Sg.ret (mi_ireturn dX11_shape_62 rfl (Or.inl rfl))
def B_X11_shape_48 (v1 : Int) (v2 : Int) (v3 : Int) (D : MiD) : Option (Int × MiD) := B_X11_shape_53 v1 v2 v3 1 D
set_option maxRecDepth 20000 in
theorem S_X11_shape_48 {Z : MiZ} (hL : ML Z) (v1 v2 v3 : Int) (D : MiD) : Sg m_X11_shape 48 [(42, 0), (0, v1), (0, v2), (0, v3)] [(42, 0)] (D, Z) (mi_LD 0 Z) (B_X11_shape_48 v1 v2 v3 D) := by
  unfold B_X11_shape_48
  refine Sg.go (pc' := 49) (mi_iconst (z := 1) dX11_shape_48 rfl) ?_
  refine Sg.go (pc' := 53) (mi_goto (tgt := 53) dX11_shape_49 (by decide)) ?_
  exact S_X11_shape_53 hL v1 v2 v3 1 D
def B_X11_shape_19 (v1 : Int) (v2 : Int) (v3 : Int) (s1 : Int) (D : MiD) : Option (Int × MiD) := if s1 = 0 ∨ s1 = 1 then (mi_b2 (B_X11_bad s1 1 0 D) fun y2 D3 => if y2 ≠ 0 then (some (0, D3)) else (if (B_X11_in v2 0 10) = 0 then (B_X11_shape_48 v1 v2 v3 D3) else (if (B_X11_in v3 0 9) ≠ 0 then (B_X11_shape_53 v1 v2 v3 0 D3) else (B_X11_shape_48 v1 v2 v3 D3)))) else none
set_option maxRecDepth 20000 in
theorem S_X11_shape_19 {Z : MiZ} (hL : ML Z) (v1 v2 v3 s1 : Int) (D : MiD) : Sg m_X11_shape 19 [(42, 0), (0, v1), (0, v2), (0, v3)] [(0, s1), (42, 0)] (D, Z) (mi_LD 0 Z) (B_X11_shape_19 v1 v2 v3 s1 D) := by
  unfold B_X11_shape_19
  refine Sg.go (pc' := 20) (mi_iconst (z := 1) dX11_shape_19 rfl) ?_
  refine Sg.go (pc' := 21) (mi_iconst (z := 0) dX11_shape_20 rfl) ?_
  refine Sg.ck (fun hk1 => ?_)
  refine Sg.callD (pc' := 24) (t := 0) (μ' := m_X11_bad) (args := [(42, 0), (0, s1), (0, 1), (0, 0)]) (mi_invV (n := 3) (r := 40) dX11_shape_21 hC_40 (by omega) rfl rfl wN_X11_bad rfl ⟨by decide, by decide⟩ wL_X11_229 wI_X11_bad wS_X11_bad wB_X11 wC_X11_bad) (fun v hv => C_X11_bad hL s1 1 0 D (hk1) v hv) (Nat.le_of_ble_eq_true rfl) rfl rfl (fun y2 D3 => ?_)
  refine Sg.ite (fun h4 => ?_) (fun h4 => ?_)
  · refine Sg.go (pc' := 61) (mi_ifne_t (tgt := 61) dX11_shape_24 (by decide) h4) ?_
    refine Sg.go (pc' := 62) (mi_iconst (z := 0) dX11_shape_61 rfl) ?_
    exact Sg.ret (mi_ireturn dX11_shape_62 rfl (Or.inl rfl))
  · refine Sg.go (pc' := 27) (mi_ifne_f (tgt := 61) dX11_shape_24 (by decide) h4) ?_
    refine Sg.go (pc' := 28) (mi_aload_n dX11_shape_27 rfl) ?_
    refine Sg.go (pc' := 29) (mi_iload_n dX11_shape_28 rfl) ?_
    refine Sg.go (pc' := 30) (mi_iconst (z := 0) dX11_shape_29 rfl) ?_
    refine Sg.go (pc' := 32) (mi_bipush (z := 10) dX11_shape_30 rfl) ?_
    refine Sg.callP (pc' := 35) (t := 0) (v := (B_X11_in v2 0 10)) (μ' := m_X11_in) (args := [(0, v2), (0, 0), (0, 10)]) (mi_invS (n := 3) dX11_shape_32 rfl wN_X11_in rfl ⟨by decide, by decide⟩ wL_X11_121 wT_X11_in wB_X11 wC_X11_in) (C_X11_in hL v2 0 10 D3) (Nat.le_of_ble_eq_true rfl) rfl rfl ?_
    refine Sg.ite (fun h5 => ?_) (fun h5 => ?_)
    · refine Sg.go (pc' := 48) (mi_ifeq_t (tgt := 48) dX11_shape_35 (by decide) h5) ?_
      exact S_X11_shape_48 hL v1 v2 v3 D3
    · refine Sg.go (pc' := 38) (mi_ifeq_f (tgt := 48) dX11_shape_35 (by decide) h5) ?_
      refine Sg.go (pc' := 39) (mi_iload_n dX11_shape_38 rfl) ?_
      refine Sg.go (pc' := 40) (mi_iconst (z := 0) dX11_shape_39 rfl) ?_
      refine Sg.go (pc' := 42) (mi_bipush (z := 9) dX11_shape_40 rfl) ?_
      refine Sg.callP (pc' := 45) (t := 0) (v := (B_X11_in v3 0 9)) (μ' := m_X11_in) (args := [(0, v3), (0, 0), (0, 9)]) (mi_invS (n := 3) dX11_shape_42 rfl wN_X11_in rfl ⟨by decide, by decide⟩ wL_X11_121 wT_X11_in wB_X11 wC_X11_in) (C_X11_in hL v3 0 9 D3) (Nat.le_of_ble_eq_true rfl) rfl rfl ?_
      refine Sg.ite (fun h6 => ?_) (fun h6 => ?_)
      · refine Sg.go (pc' := 52) (mi_ifne_t (tgt := 52) dX11_shape_45 (by decide) h6) ?_
        refine Sg.go (pc' := 53) (mi_iconst (z := 0) dX11_shape_52 rfl) ?_
        exact S_X11_shape_53 hL v1 v2 v3 0 D3
      · refine Sg.go (pc' := 48) (mi_ifne_f (tgt := 52) dX11_shape_45 (by decide) h6) ?_
        exact S_X11_shape_48 hL v1 v2 v3 D3
def B_X11_shape (v1 : Int) (v2 : Int) (v3 : Int) (D : MiD) : Option (Int × MiD) := mi_let (mi_st D 40 0 0 0) fun D1 => if (B_X11_isDatum v1) ≠ 0 then (B_X11_shape_19 v1 v2 v3 0 D1) else (B_X11_shape_19 v1 v2 v3 1 D1)
set_option maxRecDepth 20000 in
theorem S_X11_shape {Z : MiZ} (hL : ML Z) (v1 v2 v3 : Int) (D : MiD) : Sg m_X11_shape 0 [(42, 0), (0, v1), (0, v2), (0, v3)] [] (D, Z) (mi_LD 0 Z) (B_X11_shape v1 v2 v3 D) := by
  unfold B_X11_shape
  refine Sg.go (pc' := 1) (mi_aload_n dX11_shape_0 rfl) ?_
  refine Sg.go (pc' := 2) (mi_iconst (z := 0) dX11_shape_1 rfl) ?_
  refine Sg.goM (pc' := 5) (mi_pfD (r := 40) (k := 0) (t := 0) dX11_shape_2 hC_40 (by decide) rfl rfl wF_X11_78 (by omega) rfl (by decide) (Or.inl ⟨rfl, rfl⟩)) ?_
  refine Sg.letD (fun D1 hD1 => ?_)
  refine Sg.go (pc' := 6) (mi_aload_n dX11_shape_5 rfl) ?_
  refine Sg.go (pc' := 7) (mi_aload_n dX11_shape_6 rfl) ?_
  refine Sg.go (pc' := 8) (mi_iload_n dX11_shape_7 rfl) ?_
  refine Sg.callP (pc' := 11) (t := 0) (v := (B_X11_isDatum v1)) (μ' := m_X11_isDatum) (args := [(42, 0), (0, v1)]) (mi_invV (n := 1) (r := 40) dX11_shape_8 hC_40 (by omega) rfl rfl wN_X11_isDatum rfl ⟨by decide, by decide⟩ wL_X11_358 wI_X11_isDatum wS_X11_isDatum wB_X11 wC_X11_isDatum) (C_X11_isDatum hL v1 D1) (Nat.le_of_ble_eq_true rfl) rfl rfl ?_
  refine Sg.ite (fun h2 => ?_) (fun h2 => ?_)
  · refine Sg.go (pc' := 18) (mi_ifne_t (tgt := 18) dX11_shape_11 (by decide) h2) ?_
    refine Sg.go (pc' := 19) (mi_iconst (z := 0) dX11_shape_18 rfl) ?_
    exact S_X11_shape_19 hL v1 v2 v3 0 D1
  · refine Sg.go (pc' := 14) (mi_ifne_f (tgt := 18) dX11_shape_11 (by decide) h2) ?_
    refine Sg.go (pc' := 15) (mi_iconst (z := 1) dX11_shape_14 rfl) ?_
    refine Sg.go (pc' := 19) (mi_goto (tgt := 19) dX11_shape_15 (by decide)) ?_
    exact S_X11_shape_19 hL v1 v2 v3 1 D1
theorem C_X11_shape {Z : MiZ} (hL : ML Z) (a1 a2 a3 : Int) (D : MiD) (b : Int × MiD) (hb : B_X11_shape a1 a2 a3 D = some b) : MC m_X11_shape [(42, 0), (0, a1), (0, a2), (0, a3)] (D, Z) ((mi_LD 0 Z) b) := MC.ofSg (L := (mi_LD 0 Z)) (μ := m_X11_shape) (args := [(42, 0), (0, a1), (0, a2), (0, a3)]) (M := (D, Z)) rfl wP_X11 (Nat.le_of_ble_eq_true rfl) (show Sg m_X11_shape 0 [(42, 0), (0, a1), (0, a2), (0, a3)] [] (D, Z) (mi_LD 0 Z) (B_X11_shape a1 a2 a3 D) from S_X11_shape hL a1 a2 a3 D) hb
