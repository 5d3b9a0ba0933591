noncomputable section MiW3
abbrev m_X9_copyFrom : MiI := (yX9_copyFrom, cX9_copyFrom, 3, none, 3, none)
def B_X9_copyFrom_64 : Nat → Int → Int → Int → MiD → MiZ → Option (MiM)
  | 0, _, _, _, _, _ => none
  | f + 1, v0, v1, v2, D, Z => if 6 ≤ v2 then (mi_let (mi_cp D 15 v1 v0) fun D2 => mi_let (mi_cp D2 16 v1 v0) fun D3 => mi_let (mi_st D3 2 v0 7 (D3 2 v1 7)) fun D4 => mi_let (mi_st D4 2 v0 8 (D4 2 v1 8)) fun D5 => if (D5 2 v1 9) = 0 ∨ (D5 2 v1 9) = 1 then (mi_let (mi_st D5 2 v0 9 (D5 2 v1 9)) fun D7 => mi_let (mi_st D7 2 v0 10 (D7 2 v1 10)) fun D8 => mi_let (mi_st D8 2 v0 11 (D8 2 v1 11)) fun D9 => mi_let (mi_st D9 2 v0 12 (D9 2 v1 12)) fun D10 => mi_let (mi_st D10 2 v0 13 (D10 2 v1 13)) fun D11 => some (D11, Z)) else none) else (if 0 ≤ v2 ∧ v2 < 6 then (mi_bi (B_X7_copyFrom (6 * v0 + v2) (6 * v1 + v2) D) fun D13 => B_X9_copyFrom_64 f v0 v1 (mi_w (v2 + 1)) D13 Z) else none)
set_option maxRecDepth 20000 in
theorem S_X9_copyFrom_64  : ∀ (f : Nat) (v0 v1 v2 : Int) (D : MiD) (Z : MiZ) (hL : CL Z), (0 ≤ v0 ∧ v0 < 2) → (0 ≤ v1 ∧ v1 < 2) → Sg m_X9_copyFrom 64 [(4, v0), (4, v1), (0, v2)] [] (D, Z) mi_LW (B_X9_copyFrom_64 f v0 v1 v2 D Z) := by
  intro f
  induction f with
  | zero => intros; exact Sg.nope
  | succ f K64 =>
    intro v0 v1 v2 D Z hL hb0 hb1
    show Sg m_X9_copyFrom 64 [(4, v0), (4, v1), (0, v2)] [] (D, Z) mi_LW (if 6 ≤ v2 then (mi_let (mi_cp D 15 v1 v0) fun D2 => mi_let (mi_cp D2 16 v1 v0) fun D3 => mi_let (mi_st D3 2 v0 7 (D3 2 v1 7)) fun D4 => mi_let (mi_st D4 2 v0 8 (D4 2 v1 8)) fun D5 => if (D5 2 v1 9) = 0 ∨ (D5 2 v1 9) = 1 then (mi_let (mi_st D5 2 v0 9 (D5 2 v1 9)) fun D7 => mi_let (mi_st D7 2 v0 10 (D7 2 v1 10)) fun D8 => mi_let (mi_st D8 2 v0 11 (D8 2 v1 11)) fun D9 => mi_let (mi_st D9 2 v0 12 (D9 2 v1 12)) fun D10 => mi_let (mi_st D10 2 v0 13 (D10 2 v1 13)) fun D11 => some (D11, Z)) else none) else (if 0 ≤ v2 ∧ v2 < 6 then (mi_bi (B_X7_copyFrom (6 * v0 + v2) (6 * v1 + v2) D) fun D13 => B_X9_copyFrom_64 f v0 v1 (mi_w (v2 + 1)) D13 Z) else none))
    refine Sg.go (pc' := 65) (mi_iload_n dX9_copyFrom_64 rfl) ?_
    refine Sg.go (pc' := 67) (mi_bipush (z := 6) dX9_copyFrom_65 rfl) ?_
    refine Sg.ite (fun h1 => ?_) (fun h1 => ?_)
    · refine Sg.go (pc' := 91) (mi_icmpge_t (tgt := 91) dX9_copyFrom_67 (by decide) h1) ?_
      refine Sg.go (pc' := 92) (mi_aload_n dX9_copyFrom_91 rfl) ?_
      refine Sg.go (pc' := 95) (mi_gfA (t := 15) (v := v1) (r := 2) (k := 4) dX9_copyFrom_92 hC_2 (by decide) rfl wF_X9_35 (by omega) rfl (hL.2.1 _ 4 (by omega) (by omega) (by decide))) ?_
      refine Sg.go (pc' := 96) (mi_iconst (z := 0) dX9_copyFrom_95 rfl) ?_
      refine Sg.go (pc' := 97) (mi_aload_n dX9_copyFrom_96 rfl) ?_
      refine Sg.go (pc' := 100) (mi_gfA (t := 15) (v := v0) (r := 2) (k := 4) dX9_copyFrom_97 hC_2 (by decide) rfl wF_X9_35 (by omega) rfl (hL.2.1 _ 4 (by omega) (by omega) (by decide))) ?_
      refine Sg.go (pc' := 101) (mi_iconst (z := 0) dX9_copyFrom_100 rfl) ?_
      refine Sg.go (pc' := 103) (mi_bipush (z := 8) dX9_copyFrom_101 rfl) ?_
      refine Sg.goM (pc' := 106) (mi_cpI (r := 15) dX9_copyFrom_103 rfl wL_X9_56 wV_copy wT_copy wB_System (by decide) (Nat.le_of_ble_eq_true rfl) rfl (by omega) (by omega)) ?_
      refine Sg.letD (fun D2 hD2 => ?_)
      refine Sg.go (pc' := 107) (mi_aload_n dX9_copyFrom_106 rfl) ?_
      refine Sg.go (pc' := 110) (mi_gfA (t := 16) (v := v1) (r := 2) (k := 5) dX9_copyFrom_107 hC_2 (by decide) rfl wF_X9_39 (by omega) rfl (hL.2.1 _ 5 (by omega) (by omega) (by decide))) ?_
      refine Sg.go (pc' := 111) (mi_iconst (z := 0) dX9_copyFrom_110 rfl) ?_
      refine Sg.go (pc' := 112) (mi_aload_n dX9_copyFrom_111 rfl) ?_
      refine Sg.go (pc' := 115) (mi_gfA (t := 16) (v := v0) (r := 2) (k := 5) dX9_copyFrom_112 hC_2 (by decide) rfl wF_X9_39 (by omega) rfl (hL.2.1 _ 5 (by omega) (by omega) (by decide))) ?_
      refine Sg.go (pc' := 116) (mi_iconst (z := 0) dX9_copyFrom_115 rfl) ?_
      refine Sg.go (pc' := 118) (mi_bipush (z := 8) dX9_copyFrom_116 rfl) ?_
      refine Sg.goM (pc' := 121) (mi_cpI (r := 16) dX9_copyFrom_118 rfl wL_X9_56 wV_copy wT_copy wB_System (by decide) (Nat.le_of_ble_eq_true rfl) rfl (by omega) (by omega)) ?_
      refine Sg.letD (fun D3 hD3 => ?_)
      refine Sg.go (pc' := 122) (mi_aload_n dX9_copyFrom_121 rfl) ?_
      refine Sg.go (pc' := 123) (mi_aload_n dX9_copyFrom_122 rfl) ?_
      refine Sg.go (pc' := 126) (mi_gfI (r := 2) (k := 7) dX9_copyFrom_123 hC_2 (by decide) rfl wF_X9_69 (by omega) rfl) ?_
      refine Sg.goM (pc' := 129) (mi_pfD (r := 2) (k := 7) (t := 0) dX9_copyFrom_126 hC_2 (by decide) rfl rfl wF_X9_69 (by omega) rfl (by decide) (Or.inl ⟨rfl, rfl⟩)) ?_
      refine Sg.letD (fun D4 hD4 => ?_)
      refine Sg.go (pc' := 130) (mi_aload_n dX9_copyFrom_129 rfl) ?_
      refine Sg.go (pc' := 131) (mi_aload_n dX9_copyFrom_130 rfl) ?_
      refine Sg.go (pc' := 134) (mi_gfI (r := 2) (k := 8) dX9_copyFrom_131 hC_2 (by decide) rfl wF_X9_49 (by omega) rfl) ?_
      refine Sg.goM (pc' := 137) (mi_pfD (r := 2) (k := 8) (t := 0) dX9_copyFrom_134 hC_2 (by decide) rfl rfl wF_X9_49 (by omega) rfl (by decide) (Or.inl ⟨rfl, rfl⟩)) ?_
      refine Sg.letD (fun D5 hD5 => ?_)
      refine Sg.go (pc' := 138) (mi_aload_n dX9_copyFrom_137 rfl) ?_
      refine Sg.go (pc' := 139) (mi_aload_n dX9_copyFrom_138 rfl) ?_
      refine Sg.go (pc' := 142) (mi_gfI (r := 2) (k := 9) dX9_copyFrom_139 hC_2 (by decide) rfl wF_X9_72 (by omega) rfl) ?_
      refine Sg.ck (fun hk6 => ?_)
      refine Sg.goM (pc' := 145) (mi_pfD (r := 2) (k := 9) (t := 0) dX9_copyFrom_142 hC_2 (by decide) rfl rfl wF_X9_72 (by omega) rfl (by decide) (Or.inr (Or.inr (Or.inl ⟨rfl, rfl, hk6⟩)))) ?_
      refine Sg.letD (fun D7 hD7 => ?_)
      refine Sg.go (pc' := 146) (mi_aload_n dX9_copyFrom_145 rfl) ?_
      refine Sg.go (pc' := 147) (mi_aload_n dX9_copyFrom_146 rfl) ?_
      refine Sg.go (pc' := 150) (mi_gfI (r := 2) (k := 10) dX9_copyFrom_147 hC_2 (by decide) rfl wF_X9_76 (by omega) rfl) ?_
      refine Sg.goM (pc' := 153) (mi_pfD (r := 2) (k := 10) (t := 0) dX9_copyFrom_150 hC_2 (by decide) rfl rfl wF_X9_76 (by omega) rfl (by decide) (Or.inl ⟨rfl, rfl⟩)) ?_
      refine Sg.letD (fun D8 hD8 => ?_)
      refine Sg.go (pc' := 154) (mi_aload_n dX9_copyFrom_153 rfl) ?_
      refine Sg.go (pc' := 155) (mi_aload_n dX9_copyFrom_154 rfl) ?_
      refine Sg.go (pc' := 158) (mi_gfI (r := 2) (k := 11) dX9_copyFrom_155 hC_2 (by decide) rfl wF_X9_79 (by omega) rfl) ?_
      refine Sg.goM (pc' := 161) (mi_pfD (r := 2) (k := 11) (t := 0) dX9_copyFrom_158 hC_2 (by decide) rfl rfl wF_X9_79 (by omega) rfl (by decide) (Or.inl ⟨rfl, rfl⟩)) ?_
      refine Sg.letD (fun D9 hD9 => ?_)
      refine Sg.go (pc' := 162) (mi_aload_n dX9_copyFrom_161 rfl) ?_
      refine Sg.go (pc' := 163) (mi_aload_n dX9_copyFrom_162 rfl) ?_
      refine Sg.go (pc' := 166) (mi_gfI (r := 2) (k := 12) dX9_copyFrom_163 hC_2 (by decide) rfl wF_X9_82 (by omega) rfl) ?_
      refine Sg.goM (pc' := 169) (mi_pfD (r := 2) (k := 12) (t := 0) dX9_copyFrom_166 hC_2 (by decide) rfl rfl wF_X9_82 (by omega) rfl (by decide) (Or.inl ⟨rfl, rfl⟩)) ?_
      refine Sg.letD (fun D10 hD10 => ?_)
      refine Sg.go (pc' := 170) (mi_aload_n dX9_copyFrom_169 rfl) ?_
      refine Sg.go (pc' := 171) (mi_aload_n dX9_copyFrom_170 rfl) ?_
      refine Sg.go (pc' := 174) (mi_gfI (r := 2) (k := 13) dX9_copyFrom_171 hC_2 (by decide) rfl wF_X9_85 (by omega) rfl) ?_
      refine Sg.goM (pc' := 177) (mi_pfD (r := 2) (k := 13) (t := 0) dX9_copyFrom_174 hC_2 (by decide) rfl rfl wF_X9_85 (by omega) rfl (by decide) (Or.inl ⟨rfl, rfl⟩)) ?_
      refine Sg.letD (fun D11 hD11 => ?_)
      exact Sg.ret (mi_return dX9_copyFrom_177 rfl (0, 0))
    · refine Sg.go (pc' := 70) (mi_icmpge_f (tgt := 91) dX9_copyFrom_67 (by decide) h1) ?_
      refine Sg.go (pc' := 71) (mi_aload_n dX9_copyFrom_70 rfl) ?_
      refine Sg.go (pc' := 74) (mi_gfA (t := 14) (v := v0) (r := 2) (k := 3) dX9_copyFrom_71 hC_2 (by decide) rfl wF_X9_31 (by omega) rfl (hL.2.1 _ 3 (by omega) (by omega) (by decide))) ?_
      refine Sg.go (pc' := 75) (mi_iload_n dX9_copyFrom_74 rfl) ?_
      refine Sg.ck (fun hk12 => ?_)
      refine Sg.go (pc' := 76) (mi_aald (n := 6) (t := 4) (v := (6 * v0 + v2)) dX9_copyFrom_75 rfl hA_14 rfl (by omega) hk12 rfl (hL.2.2.2.2.2.2.2 _ _ (by omega) (by omega) hk12.1 hk12.2)) ?_
      refine Sg.go (pc' := 77) (mi_aload_n dX9_copyFrom_76 rfl) ?_
      refine Sg.go (pc' := 80) (mi_gfA (t := 14) (v := v1) (r := 2) (k := 3) dX9_copyFrom_77 hC_2 (by decide) rfl wF_X9_31 (by omega) rfl (hL.2.1 _ 3 (by omega) (by omega) (by decide))) ?_
      refine Sg.go (pc' := 81) (mi_iload_n dX9_copyFrom_80 rfl) ?_
      refine Sg.go (pc' := 82) (mi_aald (n := 6) (t := 4) (v := (6 * v1 + v2)) dX9_copyFrom_81 rfl hA_14 rfl (by omega) hk12 rfl (hL.2.2.2.2.2.2.2 _ _ (by omega) (by omega) hk12.1 hk12.2)) ?_
      refine Sg.callV (pc' := 85) (μ' := m_X7_copyFrom) (args := [(6, (6 * v0 + v2)), (6, (6 * v1 + v2))]) (mi_invV (n := 1) (r := 4) dX9_copyFrom_82 hC_4 (by omega) rfl rfl wN_X7_copyFrom rfl ⟨by decide, by decide⟩ wL_X9_66 wI_X7_copyFrom wS_X7_copyFrom wB_X7 wC_X7_copyFrom) (fun v hv => C_X7_copyFrom hL (6 * v0 + v2) (6 * v1 + v2) D (by omega) (by omega) v hv) (Nat.le_of_ble_eq_true rfl) rfl rfl (fun D13 => ?_)
      refine Sg.go (pc' := 88) (mi_iinc (z := 1) (ls1 := [(4, v0), (4, v1), (0, (mi_w (v2 + 1)))]) dX9_copyFrom_85 (by decide) rfl rfl rfl) ?_
      refine Sg.go (pc' := 64) (mi_goto (tgt := 64) dX9_copyFrom_88 (by decide)) ?_
      exact K64 v0 v1 (mi_w (v2 + 1)) D13 Z hL hb0 hb1
def B_X9_copyFrom_32 : Nat → Int → Int → Int → MiD → MiZ → Option (MiM)
  | 0, _, _, _, _, _ => none
  | f + 1, v0, v1, v2, D, Z => if 60 ≤ v2 then (B_X9_copyFrom_64 mi_fuel v0 v1 0 D Z) else (if 0 ≤ v2 ∧ v2 < 60 then (mi_bi (B_X6_copyFrom (60 * v0 + v2) (60 * v1 + v2) D) fun D3 => B_X9_copyFrom_32 f v0 v1 (mi_w (v2 + 1)) D3 Z) else none)
set_option maxRecDepth 20000 in
theorem S_X9_copyFrom_32  : ∀ (f : Nat) (v0 v1 v2 : Int) (D : MiD) (Z : MiZ) (hL : CL Z), (0 ≤ v0 ∧ v0 < 2) → (0 ≤ v1 ∧ v1 < 2) → Sg m_X9_copyFrom 32 [(4, v0), (4, v1), (0, v2)] [] (D, Z) mi_LW (B_X9_copyFrom_32 f v0 v1 v2 D Z) := by
  intro f
  induction f with
  | zero => intros; exact Sg.nope
  | succ f K32 =>
    intro v0 v1 v2 D Z hL hb0 hb1
    show Sg m_X9_copyFrom 32 [(4, v0), (4, v1), (0, v2)] [] (D, Z) mi_LW (if 60 ≤ v2 then (B_X9_copyFrom_64 mi_fuel v0 v1 0 D Z) else (if 0 ≤ v2 ∧ v2 < 60 then (mi_bi (B_X6_copyFrom (60 * v0 + v2) (60 * v1 + v2) D) fun D3 => B_X9_copyFrom_32 f v0 v1 (mi_w (v2 + 1)) D3 Z) else none))
    refine Sg.go (pc' := 33) (mi_iload_n dX9_copyFrom_32 rfl) ?_
    refine Sg.go (pc' := 34) (mi_aload_n dX9_copyFrom_33 rfl) ?_
    refine Sg.go (pc' := 37) (mi_gfA (t := 13) (v := v0) (r := 2) (k := 2) dX9_copyFrom_34 hC_2 (by decide) rfl wF_X9_25 (by omega) rfl (hL.2.1 _ 2 (by omega) (by omega) (by decide))) ?_
    refine Sg.go (pc' := 38) (mi_alenQ (z := 60) dX9_copyFrom_37 rfl hA_13 (by omega) rfl) ?_
    refine Sg.ite (fun h1 => ?_) (fun h1 => ?_)
    · refine Sg.go (pc' := 62) (mi_icmpge_t (tgt := 62) dX9_copyFrom_38 (by decide) h1) ?_
      refine Sg.go (pc' := 63) (mi_iconst (z := 0) dX9_copyFrom_62 rfl) ?_
      refine Sg.go (pc' := 64) (mi_istore_n (ls1 := [(4, v0), (4, v1), (0, 0)]) dX9_copyFrom_63 (by decide) rfl) ?_
      exact S_X9_copyFrom_64 mi_fuel v0 v1 0 D Z hL hb0 hb1
    · refine Sg.go (pc' := 41) (mi_icmpge_f (tgt := 62) dX9_copyFrom_38 (by decide) h1) ?_
      refine Sg.go (pc' := 42) (mi_aload_n dX9_copyFrom_41 rfl) ?_
      refine Sg.go (pc' := 45) (mi_gfA (t := 13) (v := v0) (r := 2) (k := 2) dX9_copyFrom_42 hC_2 (by decide) rfl wF_X9_25 (by omega) rfl (hL.2.1 _ 2 (by omega) (by omega) (by decide))) ?_
      refine Sg.go (pc' := 46) (mi_iload_n dX9_copyFrom_45 rfl) ?_
      refine Sg.ck (fun hk2 => ?_)
      refine Sg.go (pc' := 47) (mi_aald (n := 60) (t := 3) (v := (60 * v0 + v2)) dX9_copyFrom_46 rfl hA_13 rfl (by omega) hk2 rfl (hL.2.2.2.2.2.2.1 _ _ (by omega) (by omega) hk2.1 hk2.2)) ?_
      refine Sg.go (pc' := 48) (mi_aload_n dX9_copyFrom_47 rfl) ?_
      refine Sg.go (pc' := 51) (mi_gfA (t := 13) (v := v1) (r := 2) (k := 2) dX9_copyFrom_48 hC_2 (by decide) rfl wF_X9_25 (by omega) rfl (hL.2.1 _ 2 (by omega) (by omega) (by decide))) ?_
      refine Sg.go (pc' := 52) (mi_iload_n dX9_copyFrom_51 rfl) ?_
      refine Sg.go (pc' := 53) (mi_aald (n := 60) (t := 3) (v := (60 * v1 + v2)) dX9_copyFrom_52 rfl hA_13 rfl (by omega) hk2 rfl (hL.2.2.2.2.2.2.1 _ _ (by omega) (by omega) hk2.1 hk2.2)) ?_
      refine Sg.callV (pc' := 56) (μ' := m_X6_copyFrom) (args := [(5, (60 * v0 + v2)), (5, (60 * v1 + v2))]) (mi_invV (n := 1) (r := 3) dX9_copyFrom_53 hC_3 (by omega) rfl rfl wN_X6_copyFrom rfl ⟨by decide, by decide⟩ wL_X9_62 wI_X6_copyFrom wS_X6_copyFrom wB_X6 wC_X6_copyFrom) (fun v hv => C_X6_copyFrom hL (60 * v0 + v2) (60 * v1 + v2) D (by omega) (by omega) v hv) (Nat.le_of_ble_eq_true rfl) rfl rfl (fun D3 => ?_)
      refine Sg.go (pc' := 59) (mi_iinc (z := 1) (ls1 := [(4, v0), (4, v1), (0, (mi_w (v2 + 1)))]) dX9_copyFrom_56 (by decide) rfl rfl rfl) ?_
      refine Sg.go (pc' := 32) (mi_goto (tgt := 32) dX9_copyFrom_59 (by decide)) ?_
      exact K32 v0 v1 (mi_w (v2 + 1)) D3 Z hL hb0 hb1
def B_X9_copyFrom (v0 : Int) (v1 : Int) (D : MiD) (Z : MiZ) : Option (MiM) := mi_let (mi_cp Z.1 11 v1 v0, Z.2) fun Z1 => mi_req (CL Z1) (mi_let (mi_cp Z1.1 12 v1 v0, Z1.2) fun Z2 => mi_req (CL Z2) (B_X9_copyFrom_32 mi_fuel v0 v1 0 D Z2))
set_option maxRecDepth 20000 in
theorem S_X9_copyFrom  (v0 v1 : Int) (D : MiD) (Z : MiZ) (hL : CL Z) : (0 ≤ v0 ∧ v0 < 2) → (0 ≤ v1 ∧ v1 < 2) → Sg m_X9_copyFrom 0 [(4, v0), (4, v1), mi_un] [] (D, Z) mi_LW (B_X9_copyFrom v0 v1 D Z) := by
  intro hb0 hb1
  unfold B_X9_copyFrom
  refine Sg.go (pc' := 1) (mi_aload_n dX9_copyFrom_0 rfl) ?_
  refine Sg.go (pc' := 4) (mi_gfA (t := 11) (v := v1) (r := 2) (k := 0) dX9_copyFrom_1 hC_2 (by decide) rfl wF_X9_11 (by omega) rfl (hL.2.1 _ 0 (by omega) (by omega) (by decide))) ?_
  refine Sg.go (pc' := 5) (mi_iconst (z := 0) dX9_copyFrom_4 rfl) ?_
  refine Sg.go (pc' := 6) (mi_aload_n dX9_copyFrom_5 rfl) ?_
  refine Sg.go (pc' := 9) (mi_gfA (t := 11) (v := v0) (r := 2) (k := 0) dX9_copyFrom_6 hC_2 (by decide) rfl wF_X9_11 (by omega) rfl (hL.2.1 _ 0 (by omega) (by omega) (by decide))) ?_
  refine Sg.go (pc' := 10) (mi_iconst (z := 0) dX9_copyFrom_9 rfl) ?_
  refine Sg.go (pc' := 12) (mi_bipush (z := 12) dX9_copyFrom_10 rfl) ?_
  refine Sg.goM (pc' := 15) (mi_cpQ (r := 11) (t := 6) dX9_copyFrom_12 rfl hC_6 rfl (by decide) wL_X9_56 wV_copy wT_copy wB_System (by decide) (Nat.le_of_ble_eq_true rfl) rfl (by omega) (by omega)) ?_
  refine Sg.letZ (fun Z1 hZ1 => ?_)
  refine Sg.rq (fun hL => ?_)
  refine Sg.go (pc' := 16) (mi_aload_n dX9_copyFrom_15 rfl) ?_
  refine Sg.go (pc' := 19) (mi_gfA (t := 12) (v := v1) (r := 2) (k := 1) dX9_copyFrom_16 hC_2 (by decide) rfl wF_X9_19 (by omega) rfl (hL.2.1 _ 1 (by omega) (by omega) (by decide))) ?_
  refine Sg.go (pc' := 20) (mi_iconst (z := 0) dX9_copyFrom_19 rfl) ?_
  refine Sg.go (pc' := 21) (mi_aload_n dX9_copyFrom_20 rfl) ?_
  refine Sg.go (pc' := 24) (mi_gfA (t := 12) (v := v0) (r := 2) (k := 1) dX9_copyFrom_21 hC_2 (by decide) rfl wF_X9_19 (by omega) rfl (hL.2.1 _ 1 (by omega) (by omega) (by decide))) ?_
  refine Sg.go (pc' := 25) (mi_iconst (z := 0) dX9_copyFrom_24 rfl) ?_
  refine Sg.go (pc' := 27) (mi_bipush (z := 8) dX9_copyFrom_25 rfl) ?_
  refine Sg.goM (pc' := 30) (mi_cpQ (r := 12) (t := 8) dX9_copyFrom_27 rfl hC_8 rfl (by decide) wL_X9_56 wV_copy wT_copy wB_System (by decide) (Nat.le_of_ble_eq_true rfl) rfl (by omega) (by omega)) ?_
  refine Sg.letZ (fun Z2 hZ2 => ?_)
  refine Sg.rq (fun hL => ?_)
  refine Sg.go (pc' := 31) (mi_iconst (z := 0) dX9_copyFrom_30 rfl) ?_
  refine Sg.go (pc' := 32) (mi_istore_n (ls1 := [(4, v0), (4, v1), (0, 0)]) dX9_copyFrom_31 (by decide) rfl) ?_
  exact S_X9_copyFrom_32 mi_fuel v0 v1 0 D Z2 hL hb0 hb1
theorem C_X9_copyFrom {Z : MiZ} (hL : CL Z) (a0 a1 : Int) (D : MiD) (h0 : (0 ≤ a0 ∧ a0 < 2)) (h1 : (0 ≤ a1 ∧ a1 < 2)) (b : MiM) (hb : B_X9_copyFrom a0 a1 D Z = some b) : MC m_X9_copyFrom [(4, a0), (4, a1)] (D, Z) (mi_LW b) := MC.ofSg (L := mi_LW) (μ := m_X9_copyFrom) (args := [(4, a0), (4, a1)]) (M := (D, Z)) rfl wP_X9 (Nat.le_of_ble_eq_true rfl) (show Sg m_X9_copyFrom 0 [(4, a0), (4, a1), mi_un] [] (D, Z) mi_LW (B_X9_copyFrom a0 a1 D Z) from S_X9_copyFrom a0 a1 D Z hL h0 h1) hb
abbrev m_X9_freeShadow : MiI := (yX9_freeShadow, cX9_freeShadow, 4, (some .int), 3, none)
def B_X9_freeShadow (v0 : Int) (v1 : Int) (v2 : Int) (D : MiD) : Option (Int × MiD) := mi_bi (B_X9_rowAt D v0 v1 v2) fun y1 => if 0 ≤ y1 ∧ y1 < 120 then (if (D 3 y1 0) ≠ 12 then (mi_bi (B_X6_lay y1 12 0 D) fun D4 => some (0, D4)) else (some (3, D))) else none
set_option maxRecDepth 20000 in
theorem S_X9_freeShadow {Z : MiZ} (hL : CL Z) (v0 v1 v2 : Int) (D : MiD) : (0 ≤ v0 ∧ v0 < 2) → Sg m_X9_freeShadow 0 [(4, v0), (0, v1), (0, v2), mi_un] [] (D, Z) (mi_LD 0 Z) (B_X9_freeShadow v0 v1 v2 D) := by
  intro hb0
  unfold B_X9_freeShadow
  refine Sg.go (pc' := 1) (mi_aload_n dX9_freeShadow_0 rfl) ?_
  refine Sg.go (pc' := 2) (mi_iload_n dX9_freeShadow_1 rfl) ?_
  refine Sg.go (pc' := 3) (mi_iload_n dX9_freeShadow_2 rfl) ?_
  refine Sg.callI (pc' := 6) (t := 5) (μ' := m_X9_rowAt) (args := [(4, v0), (0, v1), (0, v2)]) (mi_invV (n := 2) (r := 2) dX9_freeShadow_3 hC_2 (by omega) rfl rfl wN_X9_rowAt rfl ⟨by decide, by decide⟩ wL_X9_88 wI_X9_rowAt wS_X9_rowAt wB_X9 wC_X9_rowAt) (fun v hv => C_X9_rowAt hL v0 v1 v2 D (by omega) v hv) (Nat.le_of_ble_eq_true rfl) rfl rfl (fun y1 => ?_)
  refine Sg.go (pc' := 7) (mi_astore_n (ls1 := [(4, v0), (0, v1), (0, v2), (5, y1)]) dX9_freeShadow_6 (by decide) rfl) ?_
  refine Sg.go (pc' := 8) (mi_aload_n dX9_freeShadow_7 rfl) ?_
  refine Sg.ck (fun hk2 => ?_)
  refine Sg.go (pc' := 11) (mi_gfI (r := 3) (k := 0) dX9_freeShadow_8 hC_3 (by decide) rfl wF_X9_108 (by omega) rfl) ?_
  refine Sg.go (pc' := 13) (mi_bipush (z := 12) dX9_freeShadow_11 rfl) ?_
  refine Sg.ite (fun h3 => ?_) (fun h3 => ?_)
  · refine Sg.go (pc' := 18) (mi_icmpne_t (tgt := 18) dX9_freeShadow_13 (by decide) h3) ?_
    refine Sg.go (pc' := 19) (mi_aload_n dX9_freeShadow_18 rfl) ?_
    refine Sg.go (pc' := 21) (mi_bipush (z := 12) dX9_freeShadow_19 rfl) ?_
    refine Sg.go (pc' := 22) (mi_iconst (z := 0) dX9_freeShadow_21 rfl) ?_
    refine Sg.callV (pc' := 25) (μ' := m_X6_lay) (args := [(5, y1), (0, 12), (0, 0)]) (mi_invV (n := 2) (r := 3) dX9_freeShadow_22 hC_3 (by omega) rfl rfl wN_X6_lay rfl ⟨by decide, by decide⟩ wL_X9_92 wI_X6_lay wS_X6_lay wB_X6 wC_X6_lay) (fun v hv => C_X6_lay hL y1 12 0 D (by omega) v hv) (Nat.le_of_ble_eq_true rfl) rfl rfl (fun D4 => ?_)
    refine Sg.go (pc' := 26) (mi_iconst (z := 0) dX9_freeShadow_25 rfl) ?_
    exact Sg.ret (mi_ireturn dX9_freeShadow_26 rfl (Or.inl rfl))
  · refine Sg.go (pc' := 16) (mi_icmpne_f (tgt := 18) dX9_freeShadow_13 (by decide) h3) ?_
    refine Sg.go (pc' := 17) (mi_iconst (z := 3) dX9_freeShadow_16 rfl) ?_
    exact Sg.ret (mi_ireturn dX9_freeShadow_17 rfl (Or.inl rfl))
theorem C_X9_freeShadow {Z : MiZ} (hL : CL Z) (a0 a1 a2 : Int) (D : MiD) (h0 : (0 ≤ a0 ∧ a0 < 2)) (b : Int × MiD) (hb : B_X9_freeShadow a0 a1 a2 D = some b) : MC m_X9_freeShadow [(4, a0), (0, a1), (0, a2)] (D, Z) ((mi_LD 0 Z) b) := MC.ofSg (L := (mi_LD 0 Z)) (μ := m_X9_freeShadow) (args := [(4, a0), (0, a1), (0, a2)]) (M := (D, Z)) rfl wP_X9 (Nat.le_of_ble_eq_true rfl) (show Sg m_X9_freeShadow 0 [(4, a0), (0, a1), (0, a2), mi_un] [] (D, Z) (mi_LD 0 Z) (B_X9_freeShadow a0 a1 a2 D) from S_X9_freeShadow hL a0 a1 a2 D h0) hb
abbrev m_X9_hindrance : MiI := (yX9_hindrance, cX9_hindrance, 4, (some .int), 3, none)
def B_X9_hindrance_45 (D : MiD) (Z : MiZ) (v2 : Int) (v3 : Int) : Option (Int) := if 0 ≤ v2 ∧ v2 < 12 then (some (mi_w ((mi_w ((D 4 v2 4) - 1)) - v3))) else none
set_option maxRecDepth 20000 in
theorem S_X9_hindrance_45 {D : MiD} {Z : MiZ} (hL : CL Z) (v2 v3 : Int) : Sg m_X9_hindrance 45 [mi_un, mi_un, (6, v2), (0, v3)] [] (D, Z) (mi_LI 0 (D, Z)) (B_X9_hindrance_45 D Z v2 v3) := by
  unfold B_X9_hindrance_45
  refine Sg.go (pc' := 46) (mi_aload_n dX9_hindrance_45 rfl) ?_
  refine Sg.ck (fun hk1 => ?_)
  refine Sg.go (pc' := 49) (mi_gfI (r := 4) (k := 4) dX9_hindrance_46 hC_4 (by decide) rfl wF_X9_198 (by omega) rfl) ?_
  refine Sg.go (pc' := 50) (mi_iconst (z := 1) dX9_hindrance_49 rfl) ?_
  refine Sg.go (pc' := 51) (mi_isub dX9_hindrance_50) ?_
  refine Sg.go (pc' := 52) (mi_iload_n dX9_hindrance_51 rfl) ?_
  refine Sg.go (pc' := 53) (mi_isub dX9_hindrance_52) ?_
  exact Sg.ret (mi_ireturn dX9_hindrance_53 rfl (Or.inl rfl))
def B_X9_hindrance_14 (D : MiD) (Z : MiZ) : Nat → Int → Int → Int → Option (Int)
  | 0, _, _, _ => none
  | f + 1, v0, v2, v3 => if v3 < 0 then (some (-1)) else (if 0 ≤ v2 ∧ v2 < 12 then (if 0 ≤ v3 ∧ v3 < 10 then (if (D 22 v2 v3) = 1 then (B_X9_hindrance_45 D Z v2 v3) else (mi_bi (B_X9_has D Z v0 (D 2 v0 8) (D 19 v2 v3)) fun y5 => if y5 = 0 then (B_X9_hindrance_14 D Z f v0 v2 (mi_w (v3 + (-1)))) else (B_X9_hindrance_45 D Z v2 v3))) else none) else none)
set_option maxRecDepth 20000 in
theorem S_X9_hindrance_14 {D : MiD} {Z : MiZ} (hL : CL Z) : ∀ (f : Nat) (v0 v2 v3 : Int), (0 ≤ v0 ∧ v0 < 2) → Sg m_X9_hindrance 14 [(4, v0), mi_un, (6, v2), (0, v3)] [] (D, Z) (mi_LI 0 (D, Z)) (B_X9_hindrance_14 D Z f v0 v2 v3) := by
  intro f
  induction f with
  | zero => intros; exact Sg.nope
  | succ f K14 =>
    intro v0 v2 v3 hb0
    show Sg m_X9_hindrance 14 [(4, v0), mi_un, (6, v2), (0, v3)] [] (D, Z) (mi_LI 0 (D, Z)) (if v3 < 0 then (some (-1)) else (if 0 ≤ v2 ∧ v2 < 12 then (if 0 ≤ v3 ∧ v3 < 10 then (if (D 22 v2 v3) = 1 then (B_X9_hindrance_45 D Z v2 v3) else (mi_bi (B_X9_has D Z v0 (D 2 v0 8) (D 19 v2 v3)) fun y5 => if y5 = 0 then (B_X9_hindrance_14 D Z f v0 v2 (mi_w (v3 + (-1)))) else (B_X9_hindrance_45 D Z v2 v3))) else none) else none))
    refine Sg.go (pc' := 15) (mi_iload_n dX9_hindrance_14 rfl) ?_
    refine Sg.ite (fun h1 => ?_) (fun h1 => ?_)
    · refine Sg.go (pc' := 60) (mi_iflt_t (tgt := 60) dX9_hindrance_15 (by decide) h1) ?_
      refine Sg.go (pc' := 61) (mi_iconst (z := (-1)) dX9_hindrance_60 rfl) ?_
      exact Sg.ret (mi_ireturn dX9_hindrance_61 rfl (Or.inl rfl))
    · refine Sg.go (pc' := 18) (mi_iflt_f (tgt := 60) dX9_hindrance_15 (by decide) h1) ?_
      refine Sg.go (pc' := 19) (mi_aload_n dX9_hindrance_18 rfl) ?_
      refine Sg.ck (fun hk2 => ?_)
      refine Sg.go (pc' := 22) (mi_gfA (t := 22) (v := v2) (r := 4) (k := 3) dX9_hindrance_19 hC_4 (by decide) rfl wF_X9_248 (by omega) rfl (hL.2.2.2.2.1 _ 3 (by omega) (by omega) (by decide))) ?_
      refine Sg.go (pc' := 23) (mi_iload_n dX9_hindrance_22 rfl) ?_
      refine Sg.ck (fun hk3 => ?_)
      refine Sg.go (pc' := 24) (mi_iald (n := 10) dX9_hindrance_23 rfl rfl (by omega) hk3) ?_
      refine Sg.go (pc' := 25) (mi_iconst (z := 1) dX9_hindrance_24 rfl) ?_
      refine Sg.ite (fun h4 => ?_) (fun h4 => ?_)
      · refine Sg.go (pc' := 45) (mi_icmpeq_t (tgt := 45) dX9_hindrance_25 (by decide) h4) ?_
        refine Sg.go (pc' := 45) (MiStep.weak (ls' := [mi_un, mi_un, (6, v2), (0, v3)]) (mi_wk_n (mi_wk_y (mi_wk_y (mi_wk_y mi_wk_0))))) ?_
        exact S_X9_hindrance_45 hL v2 v3
      · refine Sg.go (pc' := 28) (mi_icmpeq_f (tgt := 45) dX9_hindrance_25 (by decide) h4) ?_
        refine Sg.go (pc' := 29) (mi_aload_n dX9_hindrance_28 rfl) ?_
        refine Sg.go (pc' := 30) (mi_aload_n dX9_hindrance_29 rfl) ?_
        refine Sg.go (pc' := 33) (mi_gfI (r := 2) (k := 8) dX9_hindrance_30 hC_2 (by decide) rfl wF_X9_49 (by omega) rfl) ?_
        refine Sg.go (pc' := 34) (mi_aload_n dX9_hindrance_33 rfl) ?_
        refine Sg.go (pc' := 37) (mi_gfA (t := 19) (v := v2) (r := 4) (k := 0) dX9_hindrance_34 hC_4 (by decide) rfl wF_X9_219 (by omega) rfl (hL.2.2.2.2.1 _ 0 (by omega) (by omega) (by decide))) ?_
        refine Sg.go (pc' := 38) (mi_iload_n dX9_hindrance_37 rfl) ?_
        refine Sg.go (pc' := 39) (mi_iald (n := 10) dX9_hindrance_38 rfl rfl (by omega) hk3) ?_
        refine Sg.callI (pc' := 42) (t := 0) (μ' := m_X9_has) (args := [(4, v0), (0, (D 2 v0 8)), (0, (D 19 v2 v3))]) (mi_invV (n := 2) (r := 2) dX9_hindrance_39 hC_2 (by omega) rfl rfl wN_X9_has rfl ⟨by decide, by decide⟩ wL_X9_270 wI_X9_has wS_X9_has wB_X9 wC_X9_has) (fun v hv => C_X9_has hL v0 (D 2 v0 8) (D 19 v2 v3) D (by omega) v hv) (Nat.le_of_ble_eq_true rfl) rfl rfl (fun y5 => ?_)
        refine Sg.ite (fun h6 => ?_) (fun h6 => ?_)
        · refine Sg.go (pc' := 54) (mi_ifeq_t (tgt := 54) dX9_hindrance_42 (by decide) h6) ?_
          refine Sg.go (pc' := 57) (mi_iinc (z := (-1)) (ls1 := [(4, v0), mi_un, (6, v2), (0, (mi_w (v3 + (-1))))]) dX9_hindrance_54 (by decide) rfl rfl rfl) ?_
          refine Sg.go (pc' := 14) (mi_goto (tgt := 14) dX9_hindrance_57 (by decide)) ?_
          exact K14 v0 v2 (mi_w (v3 + (-1))) hb0
        · refine Sg.go (pc' := 45) (mi_ifeq_f (tgt := 54) dX9_hindrance_42 (by decide) h6) ?_
          refine Sg.go (pc' := 45) (MiStep.weak (ls' := [mi_un, mi_un, (6, v2), (0, v3)]) (mi_wk_n (mi_wk_y (mi_wk_y (mi_wk_y mi_wk_0))))) ?_
          exact S_X9_hindrance_45 hL v2 v3
def B_X9_hindrance (D : MiD) (Z : MiZ) (v0 : Int) (v1 : Int) : Option (Int) := if 0 ≤ v1 ∧ v1 < 6 then (mi_let (mi_w ((D 4 (6 * v0 + v1) 4) - 1)) fun x2 => B_X9_hindrance_14 D Z mi_fuel v0 (6 * v0 + v1) x2) else none
set_option maxRecDepth 20000 in
theorem S_X9_hindrance {D : MiD} {Z : MiZ} (hL : CL Z) (v0 v1 : Int) : (0 ≤ v0 ∧ v0 < 2) → Sg m_X9_hindrance 0 [(4, v0), (0, v1), mi_un, mi_un] [] (D, Z) (mi_LI 0 (D, Z)) (B_X9_hindrance D Z v0 v1) := by
  intro hb0
  unfold B_X9_hindrance
  refine Sg.go (pc' := 1) (mi_aload_n dX9_hindrance_0 rfl) ?_
  refine Sg.go (pc' := 4) (mi_gfA (t := 14) (v := v0) (r := 2) (k := 3) dX9_hindrance_1 hC_2 (by decide) rfl wF_X9_31 (by omega) rfl (hL.2.1 _ 3 (by omega) (by omega) (by decide))) ?_
  refine Sg.go (pc' := 5) (mi_iload_n dX9_hindrance_4 rfl) ?_
  refine Sg.ck (fun hk1 => ?_)
  refine Sg.go (pc' := 6) (mi_aald (n := 6) (t := 4) (v := (6 * v0 + v1)) dX9_hindrance_5 rfl hA_14 rfl (by omega) hk1 rfl (hL.2.2.2.2.2.2.2 _ _ (by omega) (by omega) hk1.1 hk1.2)) ?_
  refine Sg.go (pc' := 7) (mi_astore_n (ls1 := [(4, v0), (0, v1), (6, (6 * v0 + v1)), mi_un]) dX9_hindrance_6 (by decide) rfl) ?_
  refine Sg.go (pc' := 8) (mi_aload_n dX9_hindrance_7 rfl) ?_
  refine Sg.go (pc' := 11) (mi_gfI (r := 4) (k := 4) dX9_hindrance_8 hC_4 (by decide) rfl wF_X9_198 (by omega) rfl) ?_
  refine Sg.go (pc' := 12) (mi_iconst (z := 1) dX9_hindrance_11 rfl) ?_
  refine Sg.go (pc' := 13) (mi_isub dX9_hindrance_12) ?_
  refine Sg.letI (fun x2 hx2 => ?_)
  refine Sg.go (pc' := 14) (mi_istore_n (ls1 := [(4, v0), (0, v1), (6, (6 * v0 + v1)), (0, x2)]) dX9_hindrance_13 (by decide) rfl) ?_
  refine Sg.go (pc' := 14) (MiStep.weak (ls' := [(4, v0), mi_un, (6, (6 * v0 + v1)), (0, x2)]) (mi_wk_y (mi_wk_n (mi_wk_y (mi_wk_y mi_wk_0))))) ?_
  exact S_X9_hindrance_14 hL mi_fuel v0 (6 * v0 + v1) x2 hb0
theorem C_X9_hindrance {Z : MiZ} (hL : CL Z) (a0 a1 : Int) (D : MiD) (h0 : (0 ≤ a0 ∧ a0 < 2)) (b : Int) (hb : B_X9_hindrance D Z a0 a1 = some b) : MC m_X9_hindrance [(4, a0), (0, a1)] (D, Z) ((mi_LI 0 (D, Z)) b) := MC.ofSg (L := (mi_LI 0 (D, Z))) (μ := m_X9_hindrance) (args := [(4, a0), (0, a1)]) (M := (D, Z)) rfl wP_X9 (Nat.le_of_ble_eq_true rfl) (show Sg m_X9_hindrance 0 [(4, a0), (0, a1), mi_un, mi_un] [] (D, Z) (mi_LI 0 (D, Z)) (B_X9_hindrance D Z a0 a1) from S_X9_hindrance hL a0 a1 h0) hb
abbrev m_X9_init : MiI := (yX9_init, cX9_init, 2, none, 3, none)
def B_X9_init_131 : Nat → Int → Int → MiD → MiZ → Option (MiM)
  | 0, _, _, _, _ => none
  | f + 1, v0, v1, D, Z => if 6 ≤ v1 then (some (D, Z)) else (if 0 ≤ Z.2 4 then mi_nl D Z 4 11 (fun D2 Z3 => mi_bw (B_X7_init (Z.2 4) D2 Z3) fun D5 Z6 => if 0 ≤ (Z.1 2 v0 3) then (if 0 ≤ v1 ∧ v1 < 6 then (mi_let (mi_st Z6.1 14 (Z.1 2 v0 3) v1 (Z.2 4), Z6.2) fun Z9 => B_X9_init_131 f v0 (mi_w (v1 + 1)) D5 Z9) else none) else none) else none)
set_option maxRecDepth 20000 in
theorem S_X9_init_131  : ∀ (f : Nat) (v0 v1 : Int) (D : MiD) (Z : MiZ) (hL : XL Z), 0 ≤ v0 → Sg m_X9_init 131 [(4, v0), (0, v1)] [] (D, Z) mi_LW (B_X9_init_131 f v0 v1 D Z) := by
  intro f
  induction f with
  | zero => intros; exact Sg.nope
  | succ f K131 =>
    intro v0 v1 D Z hL hb0
    show Sg m_X9_init 131 [(4, v0), (0, v1)] [] (D, Z) mi_LW (if 6 ≤ v1 then (some (D, Z)) else (if 0 ≤ Z.2 4 then mi_nl D Z 4 11 (fun D2 Z3 => mi_bw (B_X7_init (Z.2 4) D2 Z3) fun D5 Z6 => if 0 ≤ (Z.1 2 v0 3) then (if 0 ≤ v1 ∧ v1 < 6 then (mi_let (mi_st Z6.1 14 (Z.1 2 v0 3) v1 (Z.2 4), Z6.2) fun Z9 => B_X9_init_131 f v0 (mi_w (v1 + 1)) D5 Z9) else none) else none) else none))
    refine Sg.go (pc' := 132) (mi_iload_n dX9_init_131 rfl) ?_
    refine Sg.go (pc' := 134) (mi_bipush (z := 6) dX9_init_132 rfl) ?_
    refine Sg.ite (fun h1 => ?_) (fun h1 => ?_)
    · refine Sg.go (pc' := 156) (mi_icmpge_t (tgt := 156) dX9_init_134 (by decide) h1) ?_
      exact Sg.ret (mi_return dX9_init_156 rfl (0, 0))
    · refine Sg.go (pc' := 137) (mi_icmpge_f (tgt := 156) dX9_init_134 (by decide) h1) ?_
      refine Sg.go (pc' := 138) (mi_aload_n dX9_init_137 rfl) ?_
      refine Sg.go (pc' := 141) (mi_gfA (t := 14) (v := (Z.1 2 v0 3)) (r := 2) (k := 3) dX9_init_138 hC_2 (by decide) rfl wF_X9_31 (by omega) rfl rfl) ?_
      refine Sg.go (pc' := 142) (mi_iload_n dX9_init_141 rfl) ?_
      refine Sg.nl (pc' := 145) (r := 4) (n := 11) (mi_new (r := 4) dX9_init_142 hC_4 wK_X9_29 wG_X7 wB_X7 hN_4.1 hN_4.2.1 hN_4.2.2) (by decide) (fun hk4 D2 Z3 => ?_)
      have hL : XL Z3 := trivial
      refine Sg.go (pc' := 146) (mi_dup dX9_init_145 (show (6 : Nat) ≠ 1 by decide)) ?_
      refine Sg.callW (pc' := 149) (μ' := m_X7_init) (args := [(6, (Z.2 4))]) (mi_invIN (n := 0) (r := 4) dX9_init_146 (by omega) rfl rfl rfl wN_X7_init rfl ⟨by decide, by decide⟩ wL_X9_55 wI_X7_init wB_X7 wC_X7_init) (fun v hv => C_X7_init hL (Z.2 4) D2 (by omega) v hv) (Nat.le_of_ble_eq_true rfl) rfl rfl (fun D5 Z6 => ?_)
      have hL : XL Z6 := trivial
      refine Sg.ck (fun hk7 => ?_)
      refine Sg.ck (fun hk8 => ?_)
      refine Sg.goM (pc' := 150) (mi_aast (n := 6) (t := 4) dX9_init_149 rfl hC_4 rfl (by decide) rfl (by omega) (by omega) hk8) ?_
      refine Sg.letZ (fun Z9 hZ9 => ?_)
      have hL : XL Z9 := trivial
      refine Sg.go (pc' := 153) (mi_iinc (z := 1) (ls1 := [(4, v0), (0, (mi_w (v1 + 1)))]) dX9_init_150 (by decide) rfl rfl rfl) ?_
      refine Sg.go (pc' := 131) (mi_goto (tgt := 131) dX9_init_153 (by decide)) ?_
      exact K131 v0 (mi_w (v1 + 1)) D5 Z9 hL hb0
def B_X9_init_101 : Nat → Int → Int → MiD → MiZ → Option (MiM)
  | 0, _, _, _, _ => none
  | f + 1, v0, v1, D, Z => if 0 ≤ (Z.1 2 v0 2) then (if 60 ≤ v1 then (B_X9_init_131 mi_fuel v0 0 D Z) else (if 0 ≤ Z.2 3 then mi_nl D Z 3 4 (fun D3 Z4 => mi_bw (B_X6_init (Z.2 3) D3 Z4) fun D6 Z7 => if 0 ≤ v1 ∧ v1 < 60 then (mi_let (mi_st Z7.1 13 (Z.1 2 v0 2) v1 (Z.2 3), Z7.2) fun Z9 => B_X9_init_101 f v0 (mi_w (v1 + 1)) D6 Z9) else none) else none)) else none
set_option maxRecDepth 20000 in
theorem S_X9_init_101  : ∀ (f : Nat) (v0 v1 : Int) (D : MiD) (Z : MiZ) (hL : XL Z), 0 ≤ v0 → Sg m_X9_init 101 [(4, v0), (0, v1)] [] (D, Z) mi_LW (B_X9_init_101 f v0 v1 D Z) := by
  intro f
  induction f with
  | zero => intros; exact Sg.nope
  | succ f K101 =>
    intro v0 v1 D Z hL hb0
    show Sg m_X9_init 101 [(4, v0), (0, v1)] [] (D, Z) mi_LW (if 0 ≤ (Z.1 2 v0 2) then (if 60 ≤ v1 then (B_X9_init_131 mi_fuel v0 0 D Z) else (if 0 ≤ Z.2 3 then mi_nl D Z 3 4 (fun D3 Z4 => mi_bw (B_X6_init (Z.2 3) D3 Z4) fun D6 Z7 => if 0 ≤ v1 ∧ v1 < 60 then (mi_let (mi_st Z7.1 13 (Z.1 2 v0 2) v1 (Z.2 3), Z7.2) fun Z9 => B_X9_init_101 f v0 (mi_w (v1 + 1)) D6 Z9) else none) else none)) else none)
    refine Sg.go (pc' := 102) (mi_iload_n dX9_init_101 rfl) ?_
    refine Sg.go (pc' := 103) (mi_aload_n dX9_init_102 rfl) ?_
    refine Sg.go (pc' := 106) (mi_gfA (t := 13) (v := (Z.1 2 v0 2)) (r := 2) (k := 2) dX9_init_103 hC_2 (by decide) rfl wF_X9_25 (by omega) rfl rfl) ?_
    refine Sg.ck (fun hk1 => ?_)
    refine Sg.go (pc' := 107) (mi_alenQ (z := 60) dX9_init_106 rfl hA_13 (by omega) rfl) ?_
    refine Sg.ite (fun h2 => ?_) (fun h2 => ?_)
    · refine Sg.go (pc' := 129) (mi_icmpge_t (tgt := 129) dX9_init_107 (by decide) h2) ?_
      refine Sg.go (pc' := 130) (mi_iconst (z := 0) dX9_init_129 rfl) ?_
      refine Sg.go (pc' := 131) (mi_istore_n (ls1 := [(4, v0), (0, 0)]) dX9_init_130 (by decide) rfl) ?_
      exact S_X9_init_131 mi_fuel v0 0 D Z hL hb0
    · refine Sg.go (pc' := 110) (mi_icmpge_f (tgt := 129) dX9_init_107 (by decide) h2) ?_
      refine Sg.go (pc' := 111) (mi_aload_n dX9_init_110 rfl) ?_
      refine Sg.go (pc' := 114) (mi_gfA (t := 13) (v := (Z.1 2 v0 2)) (r := 2) (k := 2) dX9_init_111 hC_2 (by decide) rfl wF_X9_25 (by omega) rfl rfl) ?_
      refine Sg.go (pc' := 115) (mi_iload_n dX9_init_114 rfl) ?_
      refine Sg.nl (pc' := 118) (r := 3) (n := 4) (mi_new (r := 3) dX9_init_115 hC_3 wK_X9_23 wG_X6 wB_X6 hN_3.1 hN_3.2.1 hN_3.2.2) (by decide) (fun hk5 D3 Z4 => ?_)
      have hL : XL Z4 := trivial
      refine Sg.go (pc' := 119) (mi_dup dX9_init_118 (show (5 : Nat) ≠ 1 by decide)) ?_
      refine Sg.callW (pc' := 122) (μ' := m_X6_init) (args := [(5, (Z.2 3))]) (mi_invIN (n := 0) (r := 3) dX9_init_119 (by omega) rfl rfl rfl wN_X6_init rfl ⟨by decide, by decide⟩ wL_X9_54 wI_X6_init wB_X6 wC_X6_init) (fun v hv => C_X6_init hL (Z.2 3) D3 (by omega) v hv) (Nat.le_of_ble_eq_true rfl) rfl rfl (fun D6 Z7 => ?_)
      have hL : XL Z7 := trivial
      refine Sg.ck (fun hk8 => ?_)
      refine Sg.goM (pc' := 123) (mi_aast (n := 60) (t := 3) dX9_init_122 rfl hC_3 rfl (by decide) rfl (by omega) (by omega) hk8) ?_
      refine Sg.letZ (fun Z9 hZ9 => ?_)
      have hL : XL Z9 := trivial
      refine Sg.go (pc' := 126) (mi_iinc (z := 1) (ls1 := [(4, v0), (0, (mi_w (v1 + 1)))]) dX9_init_123 (by decide) rfl rfl rfl) ?_
      refine Sg.go (pc' := 101) (mi_goto (tgt := 101) dX9_init_126 (by decide)) ?_
      exact K101 v0 (mi_w (v1 + 1)) D6 Z9 hL hb0
def B_X9_init_74 : Nat → Int → Int → MiD → MiZ → Option (MiM)
  | 0, _, _, _, _ => none
  | f + 1, v0, v1, D, Z => if 12 ≤ v1 then (B_X9_init_101 mi_fuel v0 0 D Z) else (if 0 ≤ Z.2 6 then mi_nl D Z 6 2 (fun D2 Z3 => mi_bw (B_X1_init (Z.2 6) D2 Z3) fun D5 Z6 => if 0 ≤ (Z.1 2 v0 0) then (if 0 ≤ v1 ∧ v1 < 12 then (mi_let (mi_st Z6.1 11 (Z.1 2 v0 0) v1 (Z.2 6), Z6.2) fun Z9 => B_X9_init_74 f v0 (mi_w (v1 + 1)) D5 Z9) else none) else none) else none)
set_option maxRecDepth 20000 in
theorem S_X9_init_74  : ∀ (f : Nat) (v0 v1 : Int) (D : MiD) (Z : MiZ) (hL : XL Z), 0 ≤ v0 → Sg m_X9_init 74 [(4, v0), (0, v1)] [] (D, Z) mi_LW (B_X9_init_74 f v0 v1 D Z) := by
  intro f
  induction f with
  | zero => intros; exact Sg.nope
  | succ f K74 =>
    intro v0 v1 D Z hL hb0
    show Sg m_X9_init 74 [(4, v0), (0, v1)] [] (D, Z) mi_LW (if 12 ≤ v1 then (B_X9_init_101 mi_fuel v0 0 D Z) else (if 0 ≤ Z.2 6 then mi_nl D Z 6 2 (fun D2 Z3 => mi_bw (B_X1_init (Z.2 6) D2 Z3) fun D5 Z6 => if 0 ≤ (Z.1 2 v0 0) then (if 0 ≤ v1 ∧ v1 < 12 then (mi_let (mi_st Z6.1 11 (Z.1 2 v0 0) v1 (Z.2 6), Z6.2) fun Z9 => B_X9_init_74 f v0 (mi_w (v1 + 1)) D5 Z9) else none) else none) else none))
    refine Sg.go (pc' := 75) (mi_iload_n dX9_init_74 rfl) ?_
    refine Sg.go (pc' := 77) (mi_bipush (z := 12) dX9_init_75 rfl) ?_
    refine Sg.ite (fun h1 => ?_) (fun h1 => ?_)
    · refine Sg.go (pc' := 99) (mi_icmpge_t (tgt := 99) dX9_init_77 (by decide) h1) ?_
      refine Sg.go (pc' := 100) (mi_iconst (z := 0) dX9_init_99 rfl) ?_
      refine Sg.go (pc' := 101) (mi_istore_n (ls1 := [(4, v0), (0, 0)]) dX9_init_100 (by decide) rfl) ?_
      exact S_X9_init_101 mi_fuel v0 0 D Z hL hb0
    · refine Sg.go (pc' := 80) (mi_icmpge_f (tgt := 99) dX9_init_77 (by decide) h1) ?_
      refine Sg.go (pc' := 81) (mi_aload_n dX9_init_80 rfl) ?_
      refine Sg.go (pc' := 84) (mi_gfA (t := 11) (v := (Z.1 2 v0 0)) (r := 2) (k := 0) dX9_init_81 hC_2 (by decide) rfl wF_X9_11 (by omega) rfl rfl) ?_
      refine Sg.go (pc' := 85) (mi_iload_n dX9_init_84 rfl) ?_
      refine Sg.nl (pc' := 88) (r := 6) (n := 2) (mi_new (r := 6) dX9_init_85 hC_6 wK_X9_9 wG_X1 wB_X1 hN_6.1 hN_6.2.1 hN_6.2.2) (by decide) (fun hk4 D2 Z3 => ?_)
      have hL : XL Z3 := trivial
      refine Sg.go (pc' := 89) (mi_dup dX9_init_88 (show (8 : Nat) ≠ 1 by decide)) ?_
      refine Sg.callW (pc' := 92) (μ' := m_X1_init) (args := [(8, (Z.2 6))]) (mi_invIN (n := 0) (r := 6) dX9_init_89 (by omega) rfl rfl rfl wN_X1_init rfl ⟨by decide, by decide⟩ wL_X9_53 wI_X1_init wB_X1 wC_X1_init) (fun v hv => C_X1_init hL (Z.2 6) D2 (by omega) v hv) (Nat.le_of_ble_eq_true rfl) rfl rfl (fun D5 Z6 => ?_)
      have hL : XL Z6 := trivial
      refine Sg.ck (fun hk7 => ?_)
      refine Sg.ck (fun hk8 => ?_)
      refine Sg.goM (pc' := 93) (mi_aast (n := 12) (t := 6) dX9_init_92 rfl hC_6 rfl (by decide) rfl (by omega) (by omega) hk8) ?_
      refine Sg.letZ (fun Z9 hZ9 => ?_)
      have hL : XL Z9 := trivial
      refine Sg.go (pc' := 96) (mi_iinc (z := 1) (ls1 := [(4, v0), (0, (mi_w (v1 + 1)))]) dX9_init_93 (by decide) rfl rfl rfl) ?_
      refine Sg.go (pc' := 74) (mi_goto (tgt := 74) dX9_init_96 (by decide)) ?_
      exact K74 v0 (mi_w (v1 + 1)) D5 Z9 hL hb0
def B_X9_init (v0 : Int) (D : MiD) (Z : MiZ) : Option (MiM) := if 0 ≤ Z.2 11 then mi_nl D Z 11 12 (fun D1 Z2 => mi_let (mi_st Z2.1 2 v0 0 (Z.2 11), Z2.2) fun Z4 => if 0 ≤ Z4.2 12 then mi_nl D1 Z4 12 8 (fun D5 Z6 => mi_let (mi_st Z6.1 2 v0 1 (Z4.2 12), Z6.2) fun Z8 => if 0 ≤ Z8.2 13 then mi_nl D5 Z8 13 60 (fun D9 Z10 => mi_let (mi_st Z10.1 2 v0 2 (Z8.2 13), Z10.2) fun Z12 => if 0 ≤ Z12.2 14 then mi_nl D9 Z12 14 6 (fun D13 Z14 => mi_let (mi_st Z14.1 2 v0 3 (Z12.2 14), Z14.2) fun Z16 => if 0 ≤ Z16.2 15 then mi_nl D13 Z16 15 8 (fun D17 Z18 => mi_let (mi_st Z18.1 2 v0 4 (Z16.2 15), Z18.2) fun Z20 => if 0 ≤ Z20.2 16 then mi_nl D17 Z20 16 8 (fun D21 Z22 => mi_let (mi_st Z22.1 2 v0 5 (Z20.2 16), Z22.2) fun Z24 => if 0 ≤ Z24.2 5 then mi_nl D21 Z24 5 2 (fun D25 Z26 => mi_bw (B_X8_init (Z24.2 5) D25 Z26) fun D28 Z29 => mi_let (mi_st Z29.1 2 v0 6 (Z24.2 5), Z29.2) fun Z30 => mi_let (mi_st D28 2 v0 8 (-1)) fun D31 => B_X9_init_74 mi_fuel v0 0 D31 Z30) else none) else none) else none) else none) else none) else none) else none
set_option maxRecDepth 20000 in
theorem S_X9_init  (v0 : Int) (D : MiD) (Z : MiZ) (hL : XL Z) : 0 ≤ v0 → Sg m_X9_init 0 [(4, v0), mi_un] [] (D, Z) mi_LW (B_X9_init v0 D Z) := by
  intro hb0
  unfold B_X9_init
  refine Sg.go (pc' := 1) (mi_aload_n dX9_init_0 rfl) ?_
  refine Sg.go (pc' := 4) (mi_objInit dX9_init_1 wL_X9_3 wI_obj wC_obj (by decide) (by omega) (Nat.le_of_ble_eq_true rfl)) ?_
  refine Sg.go (pc' := 5) (mi_aload_n dX9_init_4 rfl) ?_
  refine Sg.go (pc' := 7) (mi_bipush (z := 12) dX9_init_5 rfl) ?_
  refine Sg.nl (pc' := 10) (r := 11) (n := 12) (mi_anew (r := 11) dX9_init_7 rfl wK_X9_9 (by decide) (by decide) (by decide) rfl rfl (by decide)) (by decide) (fun hk3 D1 Z2 => ?_)
  have hL : XL Z2 := trivial
  refine Sg.goM (pc' := 13) (mi_pFA (r := 2) (k := 0) (t := 11) dX9_init_10 hC_2 (by decide) rfl rfl rfl rfl wF_X9_11 (by omega) rfl (Or.inr (Or.inr (Or.inr ⟨by show 2 ≤ (11 : Nat) + 2; omega, by first | exact Or.inl ⟨_, rfl⟩ | exact Or.inr ⟨_, rfl⟩⟩)))) ?_
  refine Sg.letZ (fun Z4 hZ4 => ?_)
  have hL : XL Z4 := trivial
  refine Sg.go (pc' := 14) (mi_aload_n dX9_init_13 rfl) ?_
  refine Sg.go (pc' := 16) (mi_bipush (z := 8) dX9_init_14 rfl) ?_
  refine Sg.nl (pc' := 19) (r := 12) (n := 8) (mi_anew (r := 12) dX9_init_16 rfl wK_X9_17 (by decide) (by decide) (by decide) rfl rfl (by decide)) (by decide) (fun hk7 D5 Z6 => ?_)
  have hL : XL Z6 := trivial
  refine Sg.goM (pc' := 22) (mi_pFA (r := 2) (k := 1) (t := 12) dX9_init_19 hC_2 (by decide) rfl rfl rfl rfl wF_X9_19 (by omega) rfl (Or.inr (Or.inr (Or.inr ⟨by show 2 ≤ (12 : Nat) + 2; omega, by first | exact Or.inl ⟨_, rfl⟩ | exact Or.inr ⟨_, rfl⟩⟩)))) ?_
  refine Sg.letZ (fun Z8 hZ8 => ?_)
  have hL : XL Z8 := trivial
  refine Sg.go (pc' := 23) (mi_aload_n dX9_init_22 rfl) ?_
  refine Sg.go (pc' := 25) (mi_bipush (z := 60) dX9_init_23 rfl) ?_
  refine Sg.nl (pc' := 28) (r := 13) (n := 60) (mi_anew (r := 13) dX9_init_25 rfl wK_X9_23 (by decide) (by decide) (by decide) rfl rfl (by decide)) (by decide) (fun hk11 D9 Z10 => ?_)
  have hL : XL Z10 := trivial
  refine Sg.goM (pc' := 31) (mi_pFA (r := 2) (k := 2) (t := 13) dX9_init_28 hC_2 (by decide) rfl rfl rfl rfl wF_X9_25 (by omega) rfl (Or.inr (Or.inr (Or.inr ⟨by show 2 ≤ (13 : Nat) + 2; omega, by first | exact Or.inl ⟨_, rfl⟩ | exact Or.inr ⟨_, rfl⟩⟩)))) ?_
  refine Sg.letZ (fun Z12 hZ12 => ?_)
  have hL : XL Z12 := trivial
  refine Sg.go (pc' := 32) (mi_aload_n dX9_init_31 rfl) ?_
  refine Sg.go (pc' := 34) (mi_bipush (z := 6) dX9_init_32 rfl) ?_
  refine Sg.nl (pc' := 37) (r := 14) (n := 6) (mi_anew (r := 14) dX9_init_34 rfl wK_X9_29 (by decide) (by decide) (by decide) rfl rfl (by decide)) (by decide) (fun hk15 D13 Z14 => ?_)
  have hL : XL Z14 := trivial
  refine Sg.goM (pc' := 40) (mi_pFA (r := 2) (k := 3) (t := 14) dX9_init_37 hC_2 (by decide) rfl rfl rfl rfl wF_X9_31 (by omega) rfl (Or.inr (Or.inr (Or.inr ⟨by show 2 ≤ (14 : Nat) + 2; omega, by first | exact Or.inl ⟨_, rfl⟩ | exact Or.inr ⟨_, rfl⟩⟩)))) ?_
  refine Sg.letZ (fun Z16 hZ16 => ?_)
  have hL : XL Z16 := trivial
  refine Sg.go (pc' := 41) (mi_aload_n dX9_init_40 rfl) ?_
  refine Sg.go (pc' := 43) (mi_bipush (z := 8) dX9_init_41 rfl) ?_
  refine Sg.nl (pc' := 45) (r := 15) (n := 8) (mi_newarrI (r := 15) dX9_init_43 rfl wA_int rfl rfl (by decide)) (by decide) (fun hk19 D17 Z18 => ?_)
  have hL : XL Z18 := trivial
  refine Sg.goM (pc' := 48) (mi_pFA (r := 2) (k := 4) (t := 15) dX9_init_45 hC_2 (by decide) rfl rfl rfl rfl wF_X9_35 (by omega) rfl (Or.inr (Or.inr (Or.inr ⟨by show 2 ≤ (15 : Nat) + 2; omega, by first | exact Or.inl ⟨_, rfl⟩ | exact Or.inr ⟨_, rfl⟩⟩)))) ?_
  refine Sg.letZ (fun Z20 hZ20 => ?_)
  have hL : XL Z20 := trivial
  refine Sg.go (pc' := 49) (mi_aload_n dX9_init_48 rfl) ?_
  refine Sg.go (pc' := 51) (mi_bipush (z := 8) dX9_init_49 rfl) ?_
  refine Sg.nl (pc' := 53) (r := 16) (n := 8) (mi_newarrI (r := 16) dX9_init_51 rfl wA_int rfl rfl (by decide)) (by decide) (fun hk23 D21 Z22 => ?_)
  have hL : XL Z22 := trivial
  refine Sg.goM (pc' := 56) (mi_pFA (r := 2) (k := 5) (t := 16) dX9_init_53 hC_2 (by decide) rfl rfl rfl rfl wF_X9_39 (by omega) rfl (Or.inr (Or.inr (Or.inr ⟨by show 2 ≤ (16 : Nat) + 2; omega, by first | exact Or.inl ⟨_, rfl⟩ | exact Or.inr ⟨_, rfl⟩⟩)))) ?_
  refine Sg.letZ (fun Z24 hZ24 => ?_)
  have hL : XL Z24 := trivial
  refine Sg.go (pc' := 57) (mi_aload_n dX9_init_56 rfl) ?_
  refine Sg.nl (pc' := 60) (r := 5) (n := 2) (mi_new (r := 5) dX9_init_57 hC_5 wK_X9_42 wG_X8 wB_X8 hN_5.1 hN_5.2.1 hN_5.2.2) (by decide) (fun hk27 D25 Z26 => ?_)
  have hL : XL Z26 := trivial
  refine Sg.go (pc' := 61) (mi_dup dX9_init_60 (show (7 : Nat) ≠ 1 by decide)) ?_
  refine Sg.callW (pc' := 64) (μ' := m_X8_init) (args := [(7, (Z24.2 5))]) (mi_invIN (n := 0) (r := 5) dX9_init_61 (by omega) rfl rfl rfl wN_X8_init rfl ⟨by decide, by decide⟩ wL_X9_44 wI_X8_init wB_X8 wC_X8_init) (fun v hv => C_X8_init hL (Z24.2 5) D25 (by omega) v hv) (Nat.le_of_ble_eq_true rfl) rfl rfl (fun D28 Z29 => ?_)
  have hL : XL Z29 := trivial
  refine Sg.goM (pc' := 67) (mi_pFA (r := 2) (k := 6) (t := 5) dX9_init_64 hC_2 (by decide) rfl rfl rfl rfl wF_X9_45 (by omega) rfl (Or.inr (Or.inr (Or.inr ⟨by show 2 ≤ (5 : Nat) + 2; omega, by first | exact Or.inl ⟨_, rfl⟩ | exact Or.inr ⟨_, rfl⟩⟩)))) ?_
  refine Sg.letZ (fun Z30 hZ30 => ?_)
  have hL : XL Z30 := trivial
  refine Sg.go (pc' := 68) (mi_aload_n dX9_init_67 rfl) ?_
  refine Sg.go (pc' := 69) (mi_iconst (z := (-1)) dX9_init_68 rfl) ?_
  refine Sg.goM (pc' := 72) (mi_pfD (r := 2) (k := 8) (t := 0) dX9_init_69 hC_2 (by decide) rfl rfl wF_X9_49 (by omega) rfl (by decide) (Or.inl ⟨rfl, rfl⟩)) ?_
  refine Sg.letD (fun D31 hD31 => ?_)
  refine Sg.go (pc' := 73) (mi_iconst (z := 0) dX9_init_72 rfl) ?_
  refine Sg.go (pc' := 74) (mi_istore_n (ls1 := [(4, v0), (0, 0)]) dX9_init_73 (by decide) rfl) ?_
  exact S_X9_init_74 mi_fuel v0 0 D31 Z30 hL hb0
theorem C_X9_init {Z : MiZ} (hL : XL Z) (a0 : Int) (D : MiD) (h0 : 0 ≤ a0) (b : MiM) (hb : B_X9_init a0 D Z = some b) : MC m_X9_init [(4, a0)] (D, Z) (mi_LW b) := MC.ofSg (L := mi_LW) (μ := m_X9_init) (args := [(4, a0)]) (M := (D, Z)) rfl wP_X9 (Nat.le_of_ble_eq_true rfl) (show Sg m_X9_init 0 [(4, a0), mi_un] [] (D, Z) mi_LW (B_X9_init a0 D Z) from S_X9_init a0 D Z hL h0) hb
abbrev m_X9_layDatum : MiI := (yX9_layDatum, cX9_layDatum, 5, none, 3, none)
def B_X9_layDatum_14 : Nat → Int → Int → Int → MiD → Option (MiD)
  | 0, _, _, _, _ => none
  | f + 1, v0, v1, v4, D => if 5 ≤ v4 then (some D) else (mi_bi (B_X9_rowAt D v0 v1 v4) fun y2 => if 0 ≤ y2 ∧ y2 < 120 then (mi_bi (B_X6_lay y2 12 0 D) fun D4 => B_X9_layDatum_14 f v0 v1 (mi_w (v4 + 1)) D4) else none)
set_option maxRecDepth 20000 in
theorem S_X9_layDatum_14 {Z : MiZ} (hL : CL Z) : ∀ (f : Nat) (v0 v1 v4 : Int) (D : MiD), (0 ≤ v0 ∧ v0 < 2) → Sg m_X9_layDatum 14 [(4, v0), (0, v1), mi_un, mi_un, (0, v4)] [] (D, Z) (mi_LV Z) (B_X9_layDatum_14 f v0 v1 v4 D) := by
  intro f
  induction f with
  | zero => intros; exact Sg.nope
  | succ f K14 =>
    intro v0 v1 v4 D hb0
    show Sg m_X9_layDatum 14 [(4, v0), (0, v1), mi_un, mi_un, (0, v4)] [] (D, Z) (mi_LV Z) (if 5 ≤ v4 then (some D) else (mi_bi (B_X9_rowAt D v0 v1 v4) fun y2 => if 0 ≤ y2 ∧ y2 < 120 then (mi_bi (B_X6_lay y2 12 0 D) fun D4 => B_X9_layDatum_14 f v0 v1 (mi_w (v4 + 1)) D4) else none))
    refine Sg.go (pc' := 16) (mi_iload dX9_layDatum_14 rfl) ?_
    refine Sg.go (pc' := 17) (mi_iconst (z := 5) dX9_layDatum_16 rfl) ?_
    refine Sg.ite (fun h1 => ?_) (fun h1 => ?_)
    · refine Sg.go (pc' := 39) (mi_icmpge_t (tgt := 39) dX9_layDatum_17 (by decide) h1) ?_
      exact Sg.ret (mi_return dX9_layDatum_39 rfl (0, 0))
    · refine Sg.go (pc' := 20) (mi_icmpge_f (tgt := 39) dX9_layDatum_17 (by decide) h1) ?_
      refine Sg.go (pc' := 21) (mi_aload_n dX9_layDatum_20 rfl) ?_
      refine Sg.go (pc' := 22) (mi_iload_n dX9_layDatum_21 rfl) ?_
      refine Sg.go (pc' := 24) (mi_iload dX9_layDatum_22 rfl) ?_
      refine Sg.callI (pc' := 27) (t := 5) (μ' := m_X9_rowAt) (args := [(4, v0), (0, v1), (0, v4)]) (mi_invV (n := 2) (r := 2) dX9_layDatum_24 hC_2 (by omega) rfl rfl wN_X9_rowAt rfl ⟨by decide, by decide⟩ wL_X9_88 wI_X9_rowAt wS_X9_rowAt wB_X9 wC_X9_rowAt) (fun v hv => C_X9_rowAt hL v0 v1 v4 D (by omega) v hv) (Nat.le_of_ble_eq_true rfl) rfl rfl (fun y2 => ?_)
      refine Sg.go (pc' := 29) (mi_bipush (z := 12) dX9_layDatum_27 rfl) ?_
      refine Sg.go (pc' := 30) (mi_iconst (z := 0) dX9_layDatum_29 rfl) ?_
      refine Sg.ck (fun hk3 => ?_)
      refine Sg.callV (pc' := 33) (μ' := m_X6_lay) (args := [(5, y2), (0, 12), (0, 0)]) (mi_invV (n := 2) (r := 3) dX9_layDatum_30 hC_3 (by omega) rfl rfl wN_X6_lay rfl ⟨by decide, by decide⟩ wL_X9_92 wI_X6_lay wS_X6_lay wB_X6 wC_X6_lay) (fun v hv => C_X6_lay hL y2 12 0 D (by omega) v hv) (Nat.le_of_ble_eq_true rfl) rfl rfl (fun D4 => ?_)
      refine Sg.go (pc' := 36) (mi_iinc (z := 1) (ls1 := [(4, v0), (0, v1), mi_un, mi_un, (0, (mi_w (v4 + 1)))]) dX9_layDatum_33 (by decide) rfl rfl rfl) ?_
      refine Sg.go (pc' := 14) (mi_goto (tgt := 14) dX9_layDatum_36 (by decide)) ?_
      exact K14 v0 v1 (mi_w (v4 + 1)) D4 hb0
def B_X9_layDatum (v0 : Int) (v1 : Int) (v2 : Int) (v3 : Int) (D : MiD) : Option (MiD) := mi_bi (B_X9_rowAt D v0 v1 (-1)) fun y1 => if 0 ≤ y1 ∧ y1 < 120 then (mi_bi (B_X6_lay y1 v2 v3 D) fun D3 => B_X9_layDatum_14 mi_fuel v0 v1 0 D3) else none
set_option maxRecDepth 20000 in
theorem S_X9_layDatum {Z : MiZ} (hL : CL Z) (v0 v1 v2 v3 : Int) (D : MiD) : (0 ≤ v0 ∧ v0 < 2) → Sg m_X9_layDatum 0 [(4, v0), (0, v1), (0, v2), (0, v3), mi_un] [] (D, Z) (mi_LV Z) (B_X9_layDatum v0 v1 v2 v3 D) := by
  intro hb0
  unfold B_X9_layDatum
  refine Sg.go (pc' := 1) (mi_aload_n dX9_layDatum_0 rfl) ?_
  refine Sg.go (pc' := 2) (mi_iload_n dX9_layDatum_1 rfl) ?_
  refine Sg.go (pc' := 3) (mi_iconst (z := (-1)) dX9_layDatum_2 rfl) ?_
  refine Sg.callI (pc' := 6) (t := 5) (μ' := m_X9_rowAt) (args := [(4, v0), (0, v1), (0, (-1))]) (mi_invV (n := 2) (r := 2) dX9_layDatum_3 hC_2 (by omega) rfl rfl wN_X9_rowAt rfl ⟨by decide, by decide⟩ wL_X9_88 wI_X9_rowAt wS_X9_rowAt wB_X9 wC_X9_rowAt) (fun v hv => C_X9_rowAt hL v0 v1 (-1) D (by omega) v hv) (Nat.le_of_ble_eq_true rfl) rfl rfl (fun y1 => ?_)
  refine Sg.go (pc' := 7) (mi_iload_n dX9_layDatum_6 rfl) ?_
  refine Sg.go (pc' := 8) (mi_iload_n dX9_layDatum_7 rfl) ?_
  refine Sg.ck (fun hk2 => ?_)
  refine Sg.callV (pc' := 11) (μ' := m_X6_lay) (args := [(5, y1), (0, v2), (0, v3)]) (mi_invV (n := 2) (r := 3) dX9_layDatum_8 hC_3 (by omega) rfl rfl wN_X6_lay rfl ⟨by decide, by decide⟩ wL_X9_92 wI_X6_lay wS_X6_lay wB_X6 wC_X6_lay) (fun v hv => C_X6_lay hL y1 v2 v3 D (by omega) v hv) (Nat.le_of_ble_eq_true rfl) rfl rfl (fun D3 => ?_)
  refine Sg.go (pc' := 12) (mi_iconst (z := 0) dX9_layDatum_11 rfl) ?_
  refine Sg.go (pc' := 14) (mi_istore (ls1 := [(4, v0), (0, v1), (0, v2), (0, v3), (0, 0)]) dX9_layDatum_12 (by decide) rfl) ?_
  refine Sg.go (pc' := 14) (MiStep.weak (ls' := [(4, v0), (0, v1), mi_un, mi_un, (0, 0)]) (mi_wk_y (mi_wk_y (mi_wk_n (mi_wk_n (mi_wk_y mi_wk_0)))))) ?_
  exact S_X9_layDatum_14 hL mi_fuel v0 v1 0 D3 hb0
theorem C_X9_layDatum {Z : MiZ} (hL : CL Z) (a0 a1 a2 a3 : Int) (D : MiD) (h0 : (0 ≤ a0 ∧ a0 < 2)) (b : MiD) (hb : B_X9_layDatum a0 a1 a2 a3 D = some b) : MC m_X9_layDatum [(4, a0), (0, a1), (0, a2), (0, a3)] (D, Z) ((mi_LV Z) b) := MC.ofSg (L := (mi_LV Z)) (μ := m_X9_layDatum) (args := [(4, a0), (0, a1), (0, a2), (0, a3)]) (M := (D, Z)) rfl wP_X9 (Nat.le_of_ble_eq_true rfl) (show Sg m_X9_layDatum 0 [(4, a0), (0, a1), (0, a2), (0, a3), mi_un] [] (D, Z) (mi_LV Z) (B_X9_layDatum a0 a1 a2 a3 D) from S_X9_layDatum hL a0 a1 a2 a3 D h0) hb
abbrev m_X9_liftShadow : MiI := (yX9_liftShadow, cX9_liftShadow, 4, (some .int), 3, none)
def B_X9_liftShadow (v0 : Int) (v1 : Int) (v2 : Int) (D : MiD) : Option (Int × MiD) := mi_bi (B_X9_rowAt D v0 v1 v2) fun y1 => if 0 ≤ y1 ∧ y1 < 120 then (if (D 3 y1 0) ≠ 12 then (mi_bi (B_X9_rowAt D v0 v1 (-1)) fun y4 => if 0 ≤ y4 ∧ y4 < 120 then (mi_bi (B_X6_copyFrom y4 y1 D) fun D6 => mi_bi (B_X6_lay y1 12 0 D6) fun D7 => some (0, D7)) else none) else (some (3, D))) else none
set_option maxRecDepth 20000 in
theorem S_X9_liftShadow {Z : MiZ} (hL : CL Z) (v0 v1 v2 : Int) (D : MiD) : (0 ≤ v0 ∧ v0 < 2) → Sg m_X9_liftShadow 0 [(4, v0), (0, v1), (0, v2), mi_un] [] (D, Z) (mi_LD 0 Z) (B_X9_liftShadow v0 v1 v2 D) := by
  intro hb0
  unfold B_X9_liftShadow
  refine Sg.go (pc' := 1) (mi_aload_n dX9_liftShadow_0 rfl) ?_
  refine Sg.go (pc' := 2) (mi_iload_n dX9_liftShadow_1 rfl) ?_
  refine Sg.go (pc' := 3) (mi_iload_n dX9_liftShadow_2 rfl) ?_
  refine Sg.callI (pc' := 6) (t := 5) (μ' := m_X9_rowAt) (args := [(4, v0), (0, v1), (0, v2)]) (mi_invV (n := 2) (r := 2) dX9_liftShadow_3 hC_2 (by omega) rfl rfl wN_X9_rowAt rfl ⟨by decide, by decide⟩ wL_X9_88 wI_X9_rowAt wS_X9_rowAt wB_X9 wC_X9_rowAt) (fun v hv => C_X9_rowAt hL v0 v1 v2 D (by omega) v hv) (Nat.le_of_ble_eq_true rfl) rfl rfl (fun y1 => ?_)
  refine Sg.go (pc' := 7) (mi_astore_n (ls1 := [(4, v0), (0, v1), (0, v2), (5, y1)]) dX9_liftShadow_6 (by decide) rfl) ?_
  refine Sg.go (pc' := 8) (mi_aload_n dX9_liftShadow_7 rfl) ?_
  refine Sg.ck (fun hk2 => ?_)
  refine Sg.go (pc' := 11) (mi_gfI (r := 3) (k := 0) dX9_liftShadow_8 hC_3 (by decide) rfl wF_X9_108 (by omega) rfl) ?_
  refine Sg.go (pc' := 13) (mi_bipush (z := 12) dX9_liftShadow_11 rfl) ?_
  refine Sg.ite (fun h3 => ?_) (fun h3 => ?_)
  · refine Sg.go (pc' := 18) (mi_icmpne_t (tgt := 18) dX9_liftShadow_13 (by decide) h3) ?_
    refine Sg.go (pc' := 19) (mi_aload_n dX9_liftShadow_18 rfl) ?_
    refine Sg.go (pc' := 20) (mi_iload_n dX9_liftShadow_19 rfl) ?_
    refine Sg.go (pc' := 21) (mi_iconst (z := (-1)) dX9_liftShadow_20 rfl) ?_
    refine Sg.callI (pc' := 24) (t := 5) (μ' := m_X9_rowAt) (args := [(4, v0), (0, v1), (0, (-1))]) (mi_invV (n := 2) (r := 2) dX9_liftShadow_21 hC_2 (by omega) rfl rfl wN_X9_rowAt rfl ⟨by decide, by decide⟩ wL_X9_88 wI_X9_rowAt wS_X9_rowAt wB_X9 wC_X9_rowAt) (fun v hv => C_X9_rowAt hL v0 v1 (-1) D (by omega) v hv) (Nat.le_of_ble_eq_true rfl) rfl rfl (fun y4 => ?_)
    refine Sg.go (pc' := 25) (mi_aload_n dX9_liftShadow_24 rfl) ?_
    refine Sg.ck (fun hk5 => ?_)
    refine Sg.callV (pc' := 28) (μ' := m_X6_copyFrom) (args := [(5, y4), (5, y1)]) (mi_invV (n := 1) (r := 3) dX9_liftShadow_25 hC_3 (by omega) rfl rfl wN_X6_copyFrom rfl ⟨by decide, by decide⟩ wL_X9_62 wI_X6_copyFrom wS_X6_copyFrom wB_X6 wC_X6_copyFrom) (fun v hv => C_X6_copyFrom hL y4 y1 D (by omega) (by omega) v hv) (Nat.le_of_ble_eq_true rfl) rfl rfl (fun D6 => ?_)
    refine Sg.go (pc' := 29) (mi_aload_n dX9_liftShadow_28 rfl) ?_
    refine Sg.go (pc' := 31) (mi_bipush (z := 12) dX9_liftShadow_29 rfl) ?_
    refine Sg.go (pc' := 32) (mi_iconst (z := 0) dX9_liftShadow_31 rfl) ?_
    refine Sg.callV (pc' := 35) (μ' := m_X6_lay) (args := [(5, y1), (0, 12), (0, 0)]) (mi_invV (n := 2) (r := 3) dX9_liftShadow_32 hC_3 (by omega) rfl rfl wN_X6_lay rfl ⟨by decide, by decide⟩ wL_X9_92 wI_X6_lay wS_X6_lay wB_X6 wC_X6_lay) (fun v hv => C_X6_lay hL y1 12 0 D6 (by omega) v hv) (Nat.le_of_ble_eq_true rfl) rfl rfl (fun D7 => ?_)
    refine Sg.go (pc' := 36) (mi_iconst (z := 0) dX9_liftShadow_35 rfl) ?_
    exact Sg.ret (mi_ireturn dX9_liftShadow_36 rfl (Or.inl rfl))
  · refine Sg.go (pc' := 16) (mi_icmpne_f (tgt := 18) dX9_liftShadow_13 (by decide) h3) ?_
    refine Sg.go (pc' := 17) (mi_iconst (z := 3) dX9_liftShadow_16 rfl) ?_
    exact Sg.ret (mi_ireturn dX9_liftShadow_17 rfl (Or.inl rfl))
theorem C_X9_liftShadow {Z : MiZ} (hL : CL Z) (a0 a1 a2 : Int) (D : MiD) (h0 : (0 ≤ a0 ∧ a0 < 2)) (b : Int × MiD) (hb : B_X9_liftShadow a0 a1 a2 D = some b) : MC m_X9_liftShadow [(4, a0), (0, a1), (0, a2)] (D, Z) ((mi_LD 0 Z) b) := MC.ofSg (L := (mi_LD 0 Z)) (μ := m_X9_liftShadow) (args := [(4, a0), (0, a1), (0, a2)]) (M := (D, Z)) rfl wP_X9 (Nat.le_of_ble_eq_true rfl) (show Sg m_X9_liftShadow 0 [(4, a0), (0, a1), (0, a2), mi_un] [] (D, Z) (mi_LD 0 Z) (B_X9_liftShadow a0 a1 a2 D) from S_X9_liftShadow hL a0 a1 a2 D h0) hb
abbrev m_X9_makeShadow : MiI := (yX9_makeShadow, cX9_makeShadow, 3, (some .int), 3, none)
def B_X9_makeShadow (v0 : Int) (v1 : Int) (D : MiD) : Option (Int × MiD) := mi_bi (B_X9_rowAt D v0 (D 7 v1 2) (-1)) fun y1 => if 0 ≤ y1 ∧ y1 < 120 then (if (D 3 y1 0) ≠ 12 then (mi_bi (B_X9_rowAt D v0 (D 7 v1 2) (D 7 v1 3)) fun y4 => if 0 ≤ y4 ∧ y4 < 120 then (if (D 3 y4 0) ≠ 12 then (some (0, D)) else (mi_bi (B_X6_lay y4 (D 7 v1 1) (D 7 v1 4) D) fun D7 => some (0, D7))) else none) else (some (3, D))) else none
set_option maxRecDepth 20000 in
theorem S_X9_makeShadow {Z : MiZ} (hL : CL Z) (v0 v1 : Int) (D : MiD) : (0 ≤ v0 ∧ v0 < 2) → 0 ≤ v1 → Sg m_X9_makeShadow 0 [(4, v0), (9, v1), mi_un] [] (D, Z) (mi_LD 0 Z) (B_X9_makeShadow v0 v1 D) := by
  intro hb0 hb1
  unfold B_X9_makeShadow
  refine Sg.go (pc' := 1) (mi_aload_n dX9_makeShadow_0 rfl) ?_
  refine Sg.go (pc' := 2) (mi_aload_n dX9_makeShadow_1 rfl) ?_
  refine Sg.go (pc' := 5) (mi_gfI (r := 7) (k := 2) dX9_makeShadow_2 hC_7 (by decide) rfl wF_X9_111 (by omega) rfl) ?_
  refine Sg.go (pc' := 6) (mi_iconst (z := (-1)) dX9_makeShadow_5 rfl) ?_
  refine Sg.callI (pc' := 9) (t := 5) (μ' := m_X9_rowAt) (args := [(4, v0), (0, (D 7 v1 2)), (0, (-1))]) (mi_invV (n := 2) (r := 2) dX9_makeShadow_6 hC_2 (by omega) rfl rfl wN_X9_rowAt rfl ⟨by decide, by decide⟩ wL_X9_88 wI_X9_rowAt wS_X9_rowAt wB_X9 wC_X9_rowAt) (fun v hv => C_X9_rowAt hL v0 (D 7 v1 2) (-1) D (by omega) v hv) (Nat.le_of_ble_eq_true rfl) rfl rfl (fun y1 => ?_)
  refine Sg.ck (fun hk2 => ?_)
  refine Sg.go (pc' := 12) (mi_gfI (r := 3) (k := 0) dX9_makeShadow_9 hC_3 (by decide) rfl wF_X9_108 (by omega) rfl) ?_
  refine Sg.go (pc' := 14) (mi_bipush (z := 12) dX9_makeShadow_12 rfl) ?_
  refine Sg.ite (fun h3 => ?_) (fun h3 => ?_)
  · refine Sg.go (pc' := 19) (mi_icmpne_t (tgt := 19) dX9_makeShadow_14 (by decide) h3) ?_
    refine Sg.go (pc' := 20) (mi_aload_n dX9_makeShadow_19 rfl) ?_
    refine Sg.go (pc' := 21) (mi_aload_n dX9_makeShadow_20 rfl) ?_
    refine Sg.go (pc' := 24) (mi_gfI (r := 7) (k := 2) dX9_makeShadow_21 hC_7 (by decide) rfl wF_X9_111 (by omega) rfl) ?_
    refine Sg.go (pc' := 25) (mi_aload_n dX9_makeShadow_24 rfl) ?_
    refine Sg.go (pc' := 28) (mi_gfI (r := 7) (k := 3) dX9_makeShadow_25 hC_7 (by decide) rfl wF_X9_116 (by omega) rfl) ?_
    refine Sg.callI (pc' := 31) (t := 5) (μ' := m_X9_rowAt) (args := [(4, v0), (0, (D 7 v1 2)), (0, (D 7 v1 3))]) (mi_invV (n := 2) (r := 2) dX9_makeShadow_28 hC_2 (by omega) rfl rfl wN_X9_rowAt rfl ⟨by decide, by decide⟩ wL_X9_88 wI_X9_rowAt wS_X9_rowAt wB_X9 wC_X9_rowAt) (fun v hv => C_X9_rowAt hL v0 (D 7 v1 2) (D 7 v1 3) D (by omega) v hv) (Nat.le_of_ble_eq_true rfl) rfl rfl (fun y4 => ?_)
    refine Sg.go (pc' := 32) (mi_astore_n (ls1 := [(4, v0), (9, v1), (5, y4)]) dX9_makeShadow_31 (by decide) rfl) ?_
    refine Sg.go (pc' := 33) (mi_aload_n dX9_makeShadow_32 rfl) ?_
    refine Sg.ck (fun hk5 => ?_)
    refine Sg.go (pc' := 36) (mi_gfI (r := 3) (k := 0) dX9_makeShadow_33 hC_3 (by decide) rfl wF_X9_108 (by omega) rfl) ?_
    refine Sg.go (pc' := 38) (mi_bipush (z := 12) dX9_makeShadow_36 rfl) ?_
    refine Sg.ite (fun h6 => ?_) (fun h6 => ?_)
    · refine Sg.go (pc' := 53) (mi_icmpne_t (tgt := 53) dX9_makeShadow_38 (by decide) h6) ?_
      refine Sg.go (pc' := 54) (mi_iconst (z := 0) dX9_makeShadow_53 rfl) ?_
      exact Sg.ret (mi_ireturn dX9_makeShadow_54 rfl (Or.inl rfl))
    · refine Sg.go (pc' := 41) (mi_icmpne_f (tgt := 53) dX9_makeShadow_38 (by decide) h6) ?_
      refine Sg.go (pc' := 42) (mi_aload_n dX9_makeShadow_41 rfl) ?_
      refine Sg.go (pc' := 43) (mi_aload_n dX9_makeShadow_42 rfl) ?_
      refine Sg.go (pc' := 46) (mi_gfI (r := 7) (k := 1) dX9_makeShadow_43 hC_7 (by decide) rfl wF_X9_119 (by omega) rfl) ?_
      refine Sg.go (pc' := 47) (mi_aload_n dX9_makeShadow_46 rfl) ?_
      refine Sg.go (pc' := 50) (mi_gfI (r := 7) (k := 4) dX9_makeShadow_47 hC_7 (by decide) rfl wF_X9_120 (by omega) rfl) ?_
      refine Sg.callV (pc' := 53) (μ' := m_X6_lay) (args := [(5, y4), (0, (D 7 v1 1)), (0, (D 7 v1 4))]) (mi_invV (n := 2) (r := 3) dX9_makeShadow_50 hC_3 (by omega) rfl rfl wN_X6_lay rfl ⟨by decide, by decide⟩ wL_X9_92 wI_X6_lay wS_X6_lay wB_X6 wC_X6_lay) (fun v hv => C_X6_lay hL y4 (D 7 v1 1) (D 7 v1 4) D (by omega) v hv) (Nat.le_of_ble_eq_true rfl) rfl rfl (fun D7 => ?_)
      refine Sg.go (pc' := 54) (mi_iconst (z := 0) dX9_makeShadow_53 rfl) ?_
      exact Sg.ret (mi_ireturn dX9_makeShadow_54 rfl (Or.inl rfl))
  · refine Sg.go (pc' := 17) (mi_icmpne_f (tgt := 19) dX9_makeShadow_14 (by decide) h3) ?_
    refine Sg.go (pc' := 18) (mi_iconst (z := 3) dX9_makeShadow_17 rfl) ?_
    exact Sg.ret (mi_ireturn dX9_makeShadow_18 rfl (Or.inl rfl))
theorem C_X9_makeShadow {Z : MiZ} (hL : CL Z) (a0 a1 : Int) (D : MiD) (h0 : (0 ≤ a0 ∧ a0 < 2)) (h1 : 0 ≤ a1) (b : Int × MiD) (hb : B_X9_makeShadow a0 a1 D = some b) : MC m_X9_makeShadow [(4, a0), (9, a1)] (D, Z) ((mi_LD 0 Z) b) := MC.ofSg (L := (mi_LD 0 Z)) (μ := m_X9_makeShadow) (args := [(4, a0), (9, a1)]) (M := (D, Z)) rfl wP_X9 (Nat.le_of_ble_eq_true rfl) (show Sg m_X9_makeShadow 0 [(4, a0), (9, a1), mi_un] [] (D, Z) (mi_LD 0 Z) (B_X9_makeShadow a0 a1 D) from S_X9_makeShadow hL a0 a1 D h0 h1) hb
abbrev m_X9_topmostWith : MiI := (yX9_topmostWith, cX9_topmostWith, 3, (some .int), 3, none)
def B_X9_topmostWith_7 (D : MiD) (Z : MiZ) : Nat → Int → Int → Int → Option (Int)
  | 0, _, _, _ => none
  | f + 1, v0, v1, v2 => if v2 < 0 then (some (-1)) else (if 0 ≤ v2 ∧ v2 < 8 then (mi_bi (B_X9_has D Z v0 (D 15 v0 v2) v1) fun y3 => if y3 = 0 then (B_X9_topmostWith_7 D Z f v0 v1 (mi_w (v2 + (-1)))) else (some (D 15 v0 v2))) else none)
set_option maxRecDepth 20000 in
theorem S_X9_topmostWith_7 {D : MiD} {Z : MiZ} (hL : CL Z) : ∀ (f : Nat) (v0 v1 v2 : Int), (0 ≤ v0 ∧ v0 < 2) → Sg m_X9_topmostWith 7 [(4, v0), (0, v1), (0, v2)] [] (D, Z) (mi_LI 0 (D, Z)) (B_X9_topmostWith_7 D Z f v0 v1 v2) := by
  intro f
  induction f with
  | zero => intros; exact Sg.nope
  | succ f K7 =>
    intro v0 v1 v2 hb0
    show Sg m_X9_topmostWith 7 [(4, v0), (0, v1), (0, v2)] [] (D, Z) (mi_LI 0 (D, Z)) (if v2 < 0 then (some (-1)) else (if 0 ≤ v2 ∧ v2 < 8 then (mi_bi (B_X9_has D Z v0 (D 15 v0 v2) v1) fun y3 => if y3 = 0 then (B_X9_topmostWith_7 D Z f v0 v1 (mi_w (v2 + (-1)))) else (some (D 15 v0 v2))) else none))
    refine Sg.go (pc' := 8) (mi_iload_n dX9_topmostWith_7 rfl) ?_
    refine Sg.ite (fun h1 => ?_) (fun h1 => ?_)
    · refine Sg.go (pc' := 38) (mi_iflt_t (tgt := 38) dX9_topmostWith_8 (by decide) h1) ?_
      refine Sg.go (pc' := 39) (mi_iconst (z := (-1)) dX9_topmostWith_38 rfl) ?_
      exact Sg.ret (mi_ireturn dX9_topmostWith_39 rfl (Or.inl rfl))
    · refine Sg.go (pc' := 11) (mi_iflt_f (tgt := 38) dX9_topmostWith_8 (by decide) h1) ?_
      refine Sg.go (pc' := 12) (mi_aload_n dX9_topmostWith_11 rfl) ?_
      refine Sg.go (pc' := 13) (mi_aload_n dX9_topmostWith_12 rfl) ?_
      refine Sg.go (pc' := 16) (mi_gfA (t := 15) (v := v0) (r := 2) (k := 4) dX9_topmostWith_13 hC_2 (by decide) rfl wF_X9_35 (by omega) rfl (hL.2.1 _ 4 (by omega) (by omega) (by decide))) ?_
      refine Sg.go (pc' := 17) (mi_iload_n dX9_topmostWith_16 rfl) ?_
      refine Sg.ck (fun hk2 => ?_)
      refine Sg.go (pc' := 18) (mi_iald (n := 8) dX9_topmostWith_17 rfl rfl (by omega) hk2) ?_
      refine Sg.go (pc' := 19) (mi_iload_n dX9_topmostWith_18 rfl) ?_
      refine Sg.callI (pc' := 22) (t := 0) (μ' := m_X9_has) (args := [(4, v0), (0, (D 15 v0 v2)), (0, v1)]) (mi_invV (n := 2) (r := 2) dX9_topmostWith_19 hC_2 (by omega) rfl rfl wN_X9_has rfl ⟨by decide, by decide⟩ wL_X9_270 wI_X9_has wS_X9_has wB_X9 wC_X9_has) (fun v hv => C_X9_has hL v0 (D 15 v0 v2) v1 D (by omega) v hv) (Nat.le_of_ble_eq_true rfl) rfl rfl (fun y3 => ?_)
      refine Sg.ite (fun h4 => ?_) (fun h4 => ?_)
      · refine Sg.go (pc' := 32) (mi_ifeq_t (tgt := 32) dX9_topmostWith_22 (by decide) h4) ?_
        refine Sg.go (pc' := 35) (mi_iinc (z := (-1)) (ls1 := [(4, v0), (0, v1), (0, (mi_w (v2 + (-1))))]) dX9_topmostWith_32 (by decide) rfl rfl rfl) ?_
        refine Sg.go (pc' := 7) (mi_goto (tgt := 7) dX9_topmostWith_35 (by decide)) ?_
        exact K7 v0 v1 (mi_w (v2 + (-1))) hb0
      · refine Sg.go (pc' := 25) (mi_ifeq_f (tgt := 32) dX9_topmostWith_22 (by decide) h4) ?_
        refine Sg.go (pc' := 26) (mi_aload_n dX9_topmostWith_25 rfl) ?_
        refine Sg.go (pc' := 29) (mi_gfA (t := 15) (v := v0) (r := 2) (k := 4) dX9_topmostWith_26 hC_2 (by decide) rfl wF_X9_35 (by omega) rfl (hL.2.1 _ 4 (by omega) (by omega) (by decide))) ?_
        refine Sg.go (pc' := 30) (mi_iload_n dX9_topmostWith_29 rfl) ?_
        refine Sg.go (pc' := 31) (mi_iald (n := 8) dX9_topmostWith_30 rfl rfl (by omega) hk2) ?_
        exact Sg.ret (mi_ireturn dX9_topmostWith_31 rfl (Or.inl rfl))
def B_X9_topmostWith (D : MiD) (Z : MiZ) (v0 : Int) (v1 : Int) : Option (Int) := mi_let (mi_w ((D 2 v0 7) - 1)) fun x1 => B_X9_topmostWith_7 D Z mi_fuel v0 v1 x1
set_option maxRecDepth 20000 in
theorem S_X9_topmostWith {D : MiD} {Z : MiZ} (hL : CL Z) (v0 v1 : Int) : (0 ≤ v0 ∧ v0 < 2) → Sg m_X9_topmostWith 0 [(4, v0), (0, v1), mi_un] [] (D, Z) (mi_LI 0 (D, Z)) (B_X9_topmostWith D Z v0 v1) := by
  intro hb0
  unfold B_X9_topmostWith
  refine Sg.go (pc' := 1) (mi_aload_n dX9_topmostWith_0 rfl) ?_
  refine Sg.go (pc' := 4) (mi_gfI (r := 2) (k := 7) dX9_topmostWith_1 hC_2 (by decide) rfl wF_X9_69 (by omega) rfl) ?_
  refine Sg.go (pc' := 5) (mi_iconst (z := 1) dX9_topmostWith_4 rfl) ?_
  refine Sg.go (pc' := 6) (mi_isub dX9_topmostWith_5) ?_
  refine Sg.letI (fun x1 hx1 => ?_)
  refine Sg.go (pc' := 7) (mi_istore_n (ls1 := [(4, v0), (0, v1), (0, x1)]) dX9_topmostWith_6 (by decide) rfl) ?_
  exact S_X9_topmostWith_7 hL mi_fuel v0 v1 x1 hb0
theorem C_X9_topmostWith {Z : MiZ} (hL : CL Z) (a0 a1 : Int) (D : MiD) (h0 : (0 ≤ a0 ∧ a0 < 2)) (b : Int) (hb : B_X9_topmostWith D Z a0 a1 = some b) : MC m_X9_topmostWith [(4, a0), (0, a1)] (D, Z) ((mi_LI 0 (D, Z)) b) := MC.ofSg (L := (mi_LI 0 (D, Z))) (μ := m_X9_topmostWith) (args := [(4, a0), (0, a1)]) (M := (D, Z)) rfl wP_X9 (Nat.le_of_ble_eq_true rfl) (show Sg m_X9_topmostWith 0 [(4, a0), (0, a1), mi_un] [] (D, Z) (mi_LI 0 (D, Z)) (B_X9_topmostWith D Z a0 a1) from S_X9_topmostWith hL a0 a1 h0) hb
abbrev m_J0_indexOf_0f7a4 : MiI := (yJ0_indexOf_0f7a4, cJ0_indexOf_0f7a4, 2, (some .int), 4, none)
def B_J0_indexOf_0f7a4 (D : MiD) (v0 : Int) (v1 : Int) : Option (Int) := mi_bi (B_J0_indexOf_7cf53 D v0 v1 0) fun y1 => some y1
set_option maxRecDepth 20000 in
theorem S_J0_indexOf_0f7a4 {D : MiD} {Z : MiZ} (hL : XL Z) (v0 v1 : Int) : (0 ≤ v0 ∧ v0 < 64) → Sg m_J0_indexOf_0f7a4 0 [(29, v0), (0, v1)] [] (D, Z) (mi_LI 0 (D, Z)) (B_J0_indexOf_0f7a4 D v0 v1) := by
  intro hb0
  unfold B_J0_indexOf_0f7a4
  refine Sg.go (pc' := 1) (mi_aload_n dJ0_indexOf_0f7a4_0 rfl) ?_
  refine Sg.go (pc' := 2) (mi_iload_n dJ0_indexOf_0f7a4_1 rfl) ?_
  refine Sg.go (pc' := 3) (mi_iconst (z := 0) dJ0_indexOf_0f7a4_2 rfl) ?_
  refine Sg.callI (pc' := 6) (t := 0) (μ' := m_J0_indexOf_7cf53) (args := [(29, v0), (0, v1), (0, 0)]) (mi_invC (n := 2) (r := 27) dJ0_indexOf_0f7a4_3 (by decide) mi_oSt (by omega) rfl rfl wN_J0_indexOf_7cf53 rfl ⟨by decide, by decide⟩ wL_J0_633 wI_J0_indexOf_7cf53 wS_J0_indexOf_7cf53 wB_J0 wC_J0_indexOf_7cf53) (fun v hv => C_J0_indexOf_7cf53 hL v0 v1 0 D (by omega) v hv) (Nat.le_of_ble_eq_true rfl) rfl rfl (fun y1 => ?_)
  exact Sg.ret (mi_ireturn dJ0_indexOf_0f7a4_6 rfl (Or.inl rfl))
theorem C_J0_indexOf_0f7a4 {Z : MiZ} (hL : XL Z) (a0 a1 : Int) (D : MiD) (h0 : (0 ≤ a0 ∧ a0 < 64)) (b : Int) (hb : B_J0_indexOf_0f7a4 D a0 a1 = some b) : MC m_J0_indexOf_0f7a4 [(29, a0), (0, a1)] (D, Z) ((mi_LI 0 (D, Z)) b) := MC.ofSg (L := (mi_LI 0 (D, Z))) (μ := m_J0_indexOf_0f7a4) (args := [(29, a0), (0, a1)]) (M := (D, Z)) rfl wP_J0 (Nat.le_of_ble_eq_true rfl) (show Sg m_J0_indexOf_0f7a4 0 [(29, a0), (0, a1)] [] (D, Z) (mi_LI 0 (D, Z)) (B_J0_indexOf_0f7a4 D a0 a1) from S_J0_indexOf_0f7a4 hL a0 a1 h0) hb
abbrev m_X10_init : MiI := (yX10_init, cX10_init, 1, none, 4, none)
def B_X10_init (D : MiD) (Z : MiZ) : Option (MiM) := if 0 ≤ Z.2 10 then mi_nl D Z 10 500 (fun D1 Z2 => mi_let (mi_st Z2.1 1 0 0 (Z.2 10), Z2.2) fun Z4 => mi_let (mi_st D1 1 0 2 (-1)) fun D5 => if 0 ≤ Z4.2 2 then mi_nl D5 Z4 2 14 (fun D6 Z7 => mi_bw (B_X9_init (Z4.2 2) D6 Z7) fun D9 Z10 => mi_let (mi_st Z10.1 1 0 4 (Z4.2 2), Z10.2) fun Z11 => if 0 ≤ Z11.2 2 then mi_nl D9 Z11 2 14 (fun D12 Z13 => mi_bw (B_X9_init (Z11.2 2) D12 Z13) fun D15 Z16 => mi_let (mi_st Z16.1 1 0 5 (Z11.2 2), Z16.2) fun Z17 => some (D15, Z17)) else none) else none) else none
set_option maxRecDepth 20000 in
theorem S_X10_init  (D : MiD) (Z : MiZ) (hL : XL Z) : Sg m_X10_init 0 [(3, 0)] [] (D, Z) mi_LW (B_X10_init D Z) := by
  unfold B_X10_init
  refine Sg.go (pc' := 1) (mi_aload_n dX10_init_0 rfl) ?_
  refine Sg.go (pc' := 4) (mi_objInit dX10_init_1 wL_X10_1 wI_obj wC_obj (by decide) (by omega) (Nat.le_of_ble_eq_true rfl)) ?_
  refine Sg.go (pc' := 5) (mi_aload_n dX10_init_4 rfl) ?_
  refine Sg.go (pc' := 8) (mi_sipush (z := 500) dX10_init_5 rfl) ?_
  refine Sg.nl (pc' := 10) (r := 10) (n := 500) (mi_newarrB (r := 10) dX10_init_8 rfl wA_byte rfl rfl (by decide)) (by decide) (fun hk3 D1 Z2 => ?_)
  have hL : XL Z2 := trivial
  refine Sg.goM (pc' := 13) (mi_pFA (r := 1) (k := 0) (t := 10) dX10_init_10 hC_1 (by decide) rfl rfl rfl rfl wF_X10_9 (by omega) rfl (Or.inr (Or.inr (Or.inr ⟨by show 2 ≤ (10 : Nat) + 2; omega, by first | exact Or.inl ⟨_, rfl⟩ | exact Or.inr ⟨_, rfl⟩⟩)))) ?_
  refine Sg.letZ (fun Z4 hZ4 => ?_)
  have hL : XL Z4 := trivial
  refine Sg.go (pc' := 14) (mi_aload_n dX10_init_13 rfl) ?_
  refine Sg.go (pc' := 15) (mi_iconst (z := (-1)) dX10_init_14 rfl) ?_
  refine Sg.goM (pc' := 18) (mi_pfD (r := 1) (k := 2) (t := 0) dX10_init_15 hC_1 (by decide) rfl rfl wF_X10_13 (by omega) rfl (by decide) (Or.inl ⟨rfl, rfl⟩)) ?_
  refine Sg.letD (fun D5 hD5 => ?_)
  refine Sg.go (pc' := 19) (mi_aload_n dX10_init_18 rfl) ?_
  refine Sg.nl (pc' := 22) (r := 2) (n := 14) (mi_new (r := 2) dX10_init_19 hC_2 wK_X10_17 wG_X9 wB_X9 hN_2.1 hN_2.2.1 hN_2.2.2) (by decide) (fun hk8 D6 Z7 => ?_)
  have hL : XL Z7 := trivial
  refine Sg.go (pc' := 23) (mi_dup dX10_init_22 (show (4 : Nat) ≠ 1 by decide)) ?_
  refine Sg.callW (pc' := 26) (μ' := m_X9_init) (args := [(4, (Z4.2 2))]) (mi_invI (n := 0) (r := 2) dX10_init_23 (by omega) rfl rfl rfl wN_X9_init rfl ⟨by decide, by decide⟩ wL_X10_19 wI_X9_init wB_X9 wC_X9_init) (fun v hv => C_X9_init hL (Z4.2 2) D6 (by omega) v hv) (Nat.le_of_ble_eq_true rfl) rfl rfl (fun D9 Z10 => ?_)
  have hL : XL Z10 := trivial
  refine Sg.goM (pc' := 29) (mi_pFA (r := 1) (k := 4) (t := 2) dX10_init_26 hC_1 (by decide) rfl rfl rfl rfl wF_X10_20 (by omega) rfl (Or.inr (Or.inr (Or.inr ⟨by show 2 ≤ (2 : Nat) + 2; omega, by first | exact Or.inl ⟨_, rfl⟩ | exact Or.inr ⟨_, rfl⟩⟩)))) ?_
  refine Sg.letZ (fun Z11 hZ11 => ?_)
  have hL : XL Z11 := trivial
  refine Sg.go (pc' := 30) (mi_aload_n dX10_init_29 rfl) ?_
  refine Sg.nl (pc' := 33) (r := 2) (n := 14) (mi_new (r := 2) dX10_init_30 hC_2 wK_X10_17 wG_X9 wB_X9 hN_2.1 hN_2.2.1 hN_2.2.2) (by decide) (fun hk14 D12 Z13 => ?_)
  have hL : XL Z13 := trivial
  refine Sg.go (pc' := 34) (mi_dup dX10_init_33 (show (4 : Nat) ≠ 1 by decide)) ?_
  refine Sg.callW (pc' := 37) (μ' := m_X9_init) (args := [(4, (Z11.2 2))]) (mi_invI (n := 0) (r := 2) dX10_init_34 (by omega) rfl rfl rfl wN_X9_init rfl ⟨by decide, by decide⟩ wL_X10_19 wI_X9_init wB_X9 wC_X9_init) (fun v hv => C_X9_init hL (Z11.2 2) D12 (by omega) v hv) (Nat.le_of_ble_eq_true rfl) rfl rfl (fun D15 Z16 => ?_)
  have hL : XL Z16 := trivial
  refine Sg.goM (pc' := 40) (mi_pFA (r := 1) (k := 5) (t := 2) dX10_init_37 hC_1 (by decide) rfl rfl rfl rfl wF_X10_24 (by omega) rfl (Or.inr (Or.inr (Or.inr ⟨by show 2 ≤ (2 : Nat) + 2; omega, by first | exact Or.inl ⟨_, rfl⟩ | exact Or.inr ⟨_, rfl⟩⟩)))) ?_
  refine Sg.letZ (fun Z17 hZ17 => ?_)
  have hL : XL Z17 := trivial
  exact Sg.ret (mi_return dX10_init_40 rfl (0, 0))
theorem C_X10_init {Z : MiZ} (hL : XL Z) (D : MiD) (b : MiM) (hb : B_X10_init D Z = some b) : MC m_X10_init [(3, 0)] (D, Z) (mi_LW b) := MC.ofSg (L := mi_LW) (μ := m_X10_init) (args := [(3, 0)]) (M := (D, Z)) rfl wP_X10 (Nat.le_of_ble_eq_true rfl) (show Sg m_X10_init 0 [(3, 0)] [] (D, Z) mi_LW (B_X10_init D Z) from S_X10_init D Z hL) hb
abbrev m_X9_doOnData : MiI := (yX9_doOnData, cX9_doOnData, 4, (some .int), 4, none)
def B_X9_doOnData (Z : MiZ) (v0 : Int) (v1 : Int) (v2 : Int) (D : MiD) : Option (Int × MiD) := mi_bi (B_X9_rowAt D v0 (D 7 v1 2) (D 7 v1 3)) fun y1 => if 0 ≤ (Z.1 7 v1 0) ∧ (Z.1 7 v1 0) < 19 then (if 0 ≤ (mi_opo (Z.1 7 v1 0)) ∧ (mi_opo (Z.1 7 v1 0)) < 19 then (if (mi_sm (mi_opo (Z.1 7 v1 0))) = 1 then (mi_bi (B_X8_be v2 (D 7 v1 1) (B_X10_cut (D 7 v1 1) (D 7 v1 5)) D) fun D6 => some (0, D6)) else (if (mi_sm (mi_opo (Z.1 7 v1 0))) = 2 then (mi_bi (B_X8_be v2 8 (D 7 v1 5) D) fun D8 => some (0, D8)) else (if (mi_sm (mi_opo (Z.1 7 v1 0))) = 3 then (mi_bi (B_X8_be v2 (-1) 0 D) fun D10 => some (0, D10)) else (if (mi_sm (mi_opo (Z.1 7 v1 0))) = 4 then (if 0 ≤ y1 ∧ y1 < 120 then (mi_b2 (B_X6_readAs y1 (D 7 v1 1) (D 7 v1 4) v2 D) fun y13 D14 => some (y13, D14)) else none) else (if (mi_sm (mi_opo (Z.1 7 v1 0))) = 5 then (if 0 ≤ y1 ∧ y1 < 120 then (mi_b2 (B_X6_writeAs y1 (D 7 v1 1) (D 7 v1 4) (D 7 v1 5) D) fun y17 D18 => some (y17, D18)) else none) else (if (mi_sm (mi_opo (Z.1 7 v1 0))) = 6 then (if 0 ≤ y1 ∧ y1 < 120 then (mi_b2 (B_X6_box y1 (D 7 v1 4) v2 D) fun y21 D22 => some (y21, D22)) else none) else (if (mi_sm (mi_opo (Z.1 7 v1 0))) = 7 then (if 0 ≤ y1 ∧ y1 < 120 then (mi_b2 (B_X6_put y1 (D 7 v1 4) v2 D) fun y25 D26 => some (y25, D26)) else none) else (if (mi_sm (mi_opo (Z.1 7 v1 0))) = 8 then (mi_b2 (B_X9_makeShadow v0 v1 D) fun y28 D29 => some (y28, D29)) else (if (mi_sm (mi_opo (Z.1 7 v1 0))) = 9 then (mi_b2 (B_X9_freeShadow v0 (D 7 v1 2) (D 7 v1 3) D) fun y31 D32 => some (y31, D32)) else (if (mi_sm (mi_opo (Z.1 7 v1 0))) = 10 then (if 0 ≤ y1 ∧ y1 < 120 then (mi_b2 (B_X6_reshape y1 (D 7 v1 1) (D 7 v1 4) D) fun y35 D36 => some (y35, D36)) else none) else (if (mi_sm (mi_opo (Z.1 7 v1 0))) = 11 then (mi_b2 (B_X9_keepShadow v0 (D 7 v1 2) (D 7 v1 3) D) fun y38 D39 => some (y38, D39)) else (if (mi_sm (mi_opo (Z.1 7 v1 0))) = 12 then (mi_b2 (B_X9_liftShadow v0 (D 7 v1 2) (D 7 v1 3) D) fun y41 D42 => some (y41, D42)) else (some (0, D)))))))))))))) else none) else none
set_option maxRecDepth 20000 in
theorem S_X9_doOnData {Z : MiZ} (hL : CL Z) (v0 v1 v2 : Int) (D : MiD) : (0 ≤ v0 ∧ v0 < 2) → 0 ≤ v1 → (0 ≤ v2 ∧ v2 < 14) → Sg m_X9_doOnData 0 [(4, v0), (9, v1), (7, v2), mi_un] [] (D, Z) (mi_LD 0 Z) (B_X9_doOnData Z v0 v1 v2 D) := by
  intro hb0 hb1 hb2
  unfold B_X9_doOnData
  refine Sg.go (pc' := 1) (mi_aload_n dX9_doOnData_0 rfl) ?_
  refine Sg.go (pc' := 2) (mi_aload_n dX9_doOnData_1 rfl) ?_
  refine Sg.go (pc' := 5) (mi_gfI (r := 7) (k := 2) dX9_doOnData_2 hC_7 (by decide) rfl wF_X9_111 (by omega) rfl) ?_
  refine Sg.go (pc' := 6) (mi_aload_n dX9_doOnData_5 rfl) ?_
  refine Sg.go (pc' := 9) (mi_gfI (r := 7) (k := 3) dX9_doOnData_6 hC_7 (by decide) rfl wF_X9_116 (by omega) rfl) ?_
  refine Sg.callI (pc' := 12) (t := 5) (μ' := m_X9_rowAt) (args := [(4, v0), (0, (D 7 v1 2)), (0, (D 7 v1 3))]) (mi_invV (n := 2) (r := 2) dX9_doOnData_9 hC_2 (by omega) rfl rfl wN_X9_rowAt rfl ⟨by decide, by decide⟩ wL_X9_88 wI_X9_rowAt wS_X9_rowAt wB_X9 wC_X9_rowAt) (fun v hv => C_X9_rowAt hL v0 (D 7 v1 2) (D 7 v1 3) D (by omega) v hv) (Nat.le_of_ble_eq_true rfl) rfl rfl (fun y1 => ?_)
  refine Sg.go (pc' := 13) (mi_astore_n (ls1 := [(4, v0), (9, v1), (7, v2), (5, y1)]) dX9_doOnData_12 (by decide) rfl) ?_
  refine Sg.go (pc' := 16) (mi_gs (r := 29) (j := 0) (z := 0) dX9_doOnData_13 mi_zSm wF_X9_123 (by decide) rfl (by decide)) ?_
  refine Sg.go (pc' := 17) (mi_aload_n dX9_doOnData_16 rfl) ?_
  refine Sg.go (pc' := 20) (mi_gfA (t := 26) (v := (Z.1 7 v1 0)) (r := 7) (k := 0) dX9_doOnData_17 hC_7 (by decide) rfl wF_X9_128 (by omega) rfl rfl) ?_
  refine Sg.ck (fun hk2 => ?_)
  refine Sg.callP (pc' := 23) (t := 0) (v := (mi_opo (Z.1 7 v1 0))) (μ' := m_ord) (args := [(28, (Z.1 7 v1 0))]) (mi_ordI rfl dX9_doOnData_20 (by omega) ⟨by decide, by decide⟩) (C_ord (Z.1 7 v1 0) (by omega)) (Nat.le_of_ble_eq_true rfl) rfl rfl ?_
  refine Sg.ck (fun hk3 => ?_)
  refine Sg.go (pc' := 24) (mi_smld dX9_doOnData_23 hk3) ?_
  refine Sg.ite (fun h5 => ?_) (fun h5 => ?_)
  · refine Sg.go (pc' := 88) (mi_tabIn (tgt := 88) dX9_doOnData_24 (by omega) (by omega) (by rw [h5]; rfl) (by decide)) ?_
    refine Sg.go (pc' := 89) (mi_aload_n dX9_doOnData_88 rfl) ?_
    refine Sg.go (pc' := 90) (mi_aload_n dX9_doOnData_89 rfl) ?_
    refine Sg.go (pc' := 93) (mi_gfI (r := 7) (k := 1) dX9_doOnData_90 hC_7 (by decide) rfl wF_X9_119 (by omega) rfl) ?_
    refine Sg.go (pc' := 94) (mi_aload_n dX9_doOnData_93 rfl) ?_
    refine Sg.go (pc' := 97) (mi_gfI (r := 7) (k := 1) dX9_doOnData_94 hC_7 (by decide) rfl wF_X9_119 (by omega) rfl) ?_
    refine Sg.go (pc' := 98) (mi_aload_n dX9_doOnData_97 rfl) ?_
    refine Sg.go (pc' := 101) (mi_gfI (r := 7) (k := 5) dX9_doOnData_98 hC_7 (by decide) rfl wF_X9_138 (by omega) rfl) ?_
    refine Sg.callP (pc' := 104) (t := 1) (v := (B_X10_cut (D 7 v1 1) (D 7 v1 5))) (μ' := m_X10_cut) (args := [(0, (D 7 v1 1)), (0, (D 7 v1 5))]) (mi_invSN (n := 2) dX9_doOnData_101 rfl wN_X10_cut rfl ⟨by decide, by decide⟩ wL_X9_141 wT_X10_cut wB_X10 wC_X10_cut) (C_X10_cut hL (D 7 v1 1) (D 7 v1 5) D) (Nat.le_of_ble_eq_true rfl) rfl rfl ?_
    refine Sg.callV (pc' := 107) (μ' := m_X8_be) (args := [(7, v2), (0, (D 7 v1 1)), (1, (B_X10_cut (D 7 v1 1) (D 7 v1 5)))]) (mi_invV (n := 2) (r := 5) dX9_doOnData_104 hC_5 (by omega) rfl rfl wN_X8_be rfl ⟨by decide, by decide⟩ wL_X9_145 wI_X8_be wS_X8_be wB_X8 wC_X8_be) (fun v hv => C_X8_be hL v2 (D 7 v1 1) (B_X10_cut (D 7 v1 1) (D 7 v1 5)) D (by omega) v hv) (Nat.le_of_ble_eq_true rfl) rfl rfl (fun D6 => ?_)
    refine Sg.go (pc' := 108) (mi_iconst (z := 0) dX9_doOnData_107 rfl) ?_
    exact Sg.ret (mi_ireturn dX9_doOnData_108 rfl (Or.inl rfl))
  · refine Sg.ite (fun h7 => ?_) (fun h7 => ?_)
    · refine Sg.go (pc' := 109) (mi_tabIn (tgt := 109) dX9_doOnData_24 (by omega) (by omega) (by rw [h7]; rfl) (by decide)) ?_
      refine Sg.go (pc' := 110) (mi_aload_n dX9_doOnData_109 rfl) ?_
      refine Sg.go (pc' := 112) (mi_bipush (z := 8) dX9_doOnData_110 rfl) ?_
      refine Sg.go (pc' := 113) (mi_aload_n dX9_doOnData_112 rfl) ?_
      refine Sg.go (pc' := 116) (mi_gfI (r := 7) (k := 5) dX9_doOnData_113 hC_7 (by decide) rfl wF_X9_138 (by omega) rfl) ?_
      refine Sg.go (pc' := 117) (mi_i2l dX9_doOnData_116) ?_
      refine Sg.callV (pc' := 120) (μ' := m_X8_be) (args := [(7, v2), (0, 8), (1, (D 7 v1 5))]) (mi_invV (n := 2) (r := 5) dX9_doOnData_117 hC_5 (by omega) rfl rfl wN_X8_be rfl ⟨by decide, by decide⟩ wL_X9_145 wI_X8_be wS_X8_be wB_X8 wC_X8_be) (fun v hv => C_X8_be hL v2 8 (D 7 v1 5) D (by omega) v hv) (Nat.le_of_ble_eq_true rfl) rfl rfl (fun D8 => ?_)
      refine Sg.go (pc' := 121) (mi_iconst (z := 0) dX9_doOnData_120 rfl) ?_
      exact Sg.ret (mi_ireturn dX9_doOnData_121 rfl (Or.inl rfl))
    · refine Sg.ite (fun h9 => ?_) (fun h9 => ?_)
      · refine Sg.go (pc' := 122) (mi_tabIn (tgt := 122) dX9_doOnData_24 (by omega) (by omega) (by rw [h9]; rfl) (by decide)) ?_
        refine Sg.go (pc' := 123) (mi_aload_n dX9_doOnData_122 rfl) ?_
        refine Sg.go (pc' := 124) (mi_iconst (z := (-1)) dX9_doOnData_123 rfl) ?_
        refine Sg.go (pc' := 125) (mi_lconst (z := 0) dX9_doOnData_124 rfl) ?_
        refine Sg.callV (pc' := 128) (μ' := m_X8_be) (args := [(7, v2), (0, (-1)), (1, 0)]) (mi_invV (n := 2) (r := 5) dX9_doOnData_125 hC_5 (by omega) rfl rfl wN_X8_be rfl ⟨by decide, by decide⟩ wL_X9_145 wI_X8_be wS_X8_be wB_X8 wC_X8_be) (fun v hv => C_X8_be hL v2 (-1) 0 D (by omega) v hv) (Nat.le_of_ble_eq_true rfl) rfl rfl (fun D10 => ?_)
        refine Sg.go (pc' := 129) (mi_iconst (z := 0) dX9_doOnData_128 rfl) ?_
        exact Sg.ret (mi_ireturn dX9_doOnData_129 rfl (Or.inl rfl))
      · refine Sg.ite (fun h11 => ?_) (fun h11 => ?_)
        · refine Sg.go (pc' := 130) (mi_tabIn (tgt := 130) dX9_doOnData_24 (by omega) (by omega) (by rw [h11]; rfl) (by decide)) ?_
          refine Sg.go (pc' := 131) (mi_aload_n dX9_doOnData_130 rfl) ?_
          refine Sg.go (pc' := 132) (mi_aload_n dX9_doOnData_131 rfl) ?_
          refine Sg.go (pc' := 135) (mi_gfI (r := 7) (k := 1) dX9_doOnData_132 hC_7 (by decide) rfl wF_X9_119 (by omega) rfl) ?_
          refine Sg.go (pc' := 136) (mi_aload_n dX9_doOnData_135 rfl) ?_
          refine Sg.go (pc' := 139) (mi_gfI (r := 7) (k := 4) dX9_doOnData_136 hC_7 (by decide) rfl wF_X9_120 (by omega) rfl) ?_
          refine Sg.go (pc' := 140) (mi_aload_n dX9_doOnData_139 rfl) ?_
          refine Sg.ck (fun hk12 => ?_)
          refine Sg.callD (pc' := 143) (t := 0) (μ' := m_X6_readAs) (args := [(5, y1), (0, (D 7 v1 1)), (0, (D 7 v1 4)), (7, v2)]) (mi_invV (n := 3) (r := 3) dX9_doOnData_140 hC_3 (by omega) rfl rfl wN_X6_readAs rfl ⟨by decide, by decide⟩ wL_X9_149 wI_X6_readAs wS_X6_readAs wB_X6 wC_X6_readAs) (fun v hv => C_X6_readAs hL y1 (D 7 v1 1) (D 7 v1 4) v2 D (by omega) (by omega) v hv) (Nat.le_of_ble_eq_true rfl) rfl rfl (fun y13 D14 => ?_)
          exact Sg.ret (mi_ireturn dX9_doOnData_143 rfl (Or.inl rfl))
        · refine Sg.ite (fun h15 => ?_) (fun h15 => ?_)
          · refine Sg.go (pc' := 144) (mi_tabIn (tgt := 144) dX9_doOnData_24 (by omega) (by omega) (by rw [h15]; rfl) (by decide)) ?_
            refine Sg.go (pc' := 145) (mi_aload_n dX9_doOnData_144 rfl) ?_
            refine Sg.go (pc' := 146) (mi_aload_n dX9_doOnData_145 rfl) ?_
            refine Sg.go (pc' := 149) (mi_gfI (r := 7) (k := 1) dX9_doOnData_146 hC_7 (by decide) rfl wF_X9_119 (by omega) rfl) ?_
            refine Sg.go (pc' := 150) (mi_aload_n dX9_doOnData_149 rfl) ?_
            refine Sg.go (pc' := 153) (mi_gfI (r := 7) (k := 4) dX9_doOnData_150 hC_7 (by decide) rfl wF_X9_120 (by omega) rfl) ?_
            refine Sg.go (pc' := 154) (mi_aload_n dX9_doOnData_153 rfl) ?_
            refine Sg.go (pc' := 157) (mi_gfI (r := 7) (k := 5) dX9_doOnData_154 hC_7 (by decide) rfl wF_X9_138 (by omega) rfl) ?_
            refine Sg.ck (fun hk16 => ?_)
            refine Sg.callD (pc' := 160) (t := 0) (μ' := m_X6_writeAs) (args := [(5, y1), (0, (D 7 v1 1)), (0, (D 7 v1 4)), (0, (D 7 v1 5))]) (mi_invV (n := 3) (r := 3) dX9_doOnData_157 hC_3 (by omega) rfl rfl wN_X6_writeAs rfl ⟨by decide, by decide⟩ wL_X9_153 wI_X6_writeAs wS_X6_writeAs wB_X6 wC_X6_writeAs) (fun v hv => C_X6_writeAs hL y1 (D 7 v1 1) (D 7 v1 4) (D 7 v1 5) D (by omega) v hv) (Nat.le_of_ble_eq_true rfl) rfl rfl (fun y17 D18 => ?_)
            exact Sg.ret (mi_ireturn dX9_doOnData_160 rfl (Or.inl rfl))
          · refine Sg.ite (fun h19 => ?_) (fun h19 => ?_)
            · refine Sg.go (pc' := 161) (mi_tabIn (tgt := 161) dX9_doOnData_24 (by omega) (by omega) (by rw [h19]; rfl) (by decide)) ?_
              refine Sg.go (pc' := 162) (mi_aload_n dX9_doOnData_161 rfl) ?_
              refine Sg.go (pc' := 163) (mi_aload_n dX9_doOnData_162 rfl) ?_
              refine Sg.go (pc' := 166) (mi_gfI (r := 7) (k := 4) dX9_doOnData_163 hC_7 (by decide) rfl wF_X9_120 (by omega) rfl) ?_
              refine Sg.go (pc' := 167) (mi_aload_n dX9_doOnData_166 rfl) ?_
              refine Sg.ck (fun hk20 => ?_)
              refine Sg.callD (pc' := 170) (t := 0) (μ' := m_X6_box) (args := [(5, y1), (0, (D 7 v1 4)), (7, v2)]) (mi_invV (n := 2) (r := 3) dX9_doOnData_167 hC_3 (by omega) rfl rfl wN_X6_box rfl ⟨by decide, by decide⟩ wL_X9_157 wI_X6_box wS_X6_box wB_X6 wC_X6_box) (fun v hv => C_X6_box hL y1 (D 7 v1 4) v2 D (by omega) (by omega) v hv) (Nat.le_of_ble_eq_true rfl) rfl rfl (fun y21 D22 => ?_)
              exact Sg.ret (mi_ireturn dX9_doOnData_170 rfl (Or.inl rfl))
            · refine Sg.ite (fun h23 => ?_) (fun h23 => ?_)
              · refine Sg.go (pc' := 171) (mi_tabIn (tgt := 171) dX9_doOnData_24 (by omega) (by omega) (by rw [h23]; rfl) (by decide)) ?_
                refine Sg.go (pc' := 172) (mi_aload_n dX9_doOnData_171 rfl) ?_
                refine Sg.go (pc' := 173) (mi_aload_n dX9_doOnData_172 rfl) ?_
                refine Sg.go (pc' := 176) (mi_gfI (r := 7) (k := 4) dX9_doOnData_173 hC_7 (by decide) rfl wF_X9_120 (by omega) rfl) ?_
                refine Sg.go (pc' := 177) (mi_aload_n dX9_doOnData_176 rfl) ?_
                refine Sg.ck (fun hk24 => ?_)
                refine Sg.callD (pc' := 180) (t := 0) (μ' := m_X6_put) (args := [(5, y1), (0, (D 7 v1 4)), (7, v2)]) (mi_invV (n := 2) (r := 3) dX9_doOnData_177 hC_3 (by omega) rfl rfl wN_X6_put rfl ⟨by decide, by decide⟩ wL_X9_161 wI_X6_put wS_X6_put wB_X6 wC_X6_put) (fun v hv => C_X6_put hL y1 (D 7 v1 4) v2 D (by omega) (by omega) v hv) (Nat.le_of_ble_eq_true rfl) rfl rfl (fun y25 D26 => ?_)
                exact Sg.ret (mi_ireturn dX9_doOnData_180 rfl (Or.inl rfl))
              · refine Sg.ite (fun h27 => ?_) (fun h27 => ?_)
                · refine Sg.go (pc' := 181) (mi_tabIn (tgt := 181) dX9_doOnData_24 (by omega) (by omega) (by rw [h27]; rfl) (by decide)) ?_
                  refine Sg.go (pc' := 182) (mi_aload_n dX9_doOnData_181 rfl) ?_
                  refine Sg.go (pc' := 183) (mi_aload_n dX9_doOnData_182 rfl) ?_
                  refine Sg.callD (pc' := 186) (t := 0) (μ' := m_X9_makeShadow) (args := [(4, v0), (9, v1)]) (mi_invV (n := 1) (r := 2) dX9_doOnData_183 hC_2 (by omega) rfl rfl wN_X9_makeShadow rfl ⟨by decide, by decide⟩ wL_X9_164 wI_X9_makeShadow wS_X9_makeShadow wB_X9 wC_X9_makeShadow) (fun v hv => C_X9_makeShadow hL v0 v1 D (by omega) (by omega) v hv) (Nat.le_of_ble_eq_true rfl) rfl rfl (fun y28 D29 => ?_)
                  exact Sg.ret (mi_ireturn dX9_doOnData_186 rfl (Or.inl rfl))
                · refine Sg.ite (fun h30 => ?_) (fun h30 => ?_)
                  · refine Sg.go (pc' := 187) (mi_tabIn (tgt := 187) dX9_doOnData_24 (by omega) (by omega) (by rw [h30]; rfl) (by decide)) ?_
                    refine Sg.go (pc' := 188) (mi_aload_n dX9_doOnData_187 rfl) ?_
                    refine Sg.go (pc' := 189) (mi_aload_n dX9_doOnData_188 rfl) ?_
                    refine Sg.go (pc' := 192) (mi_gfI (r := 7) (k := 2) dX9_doOnData_189 hC_7 (by decide) rfl wF_X9_111 (by omega) rfl) ?_
                    refine Sg.go (pc' := 193) (mi_aload_n dX9_doOnData_192 rfl) ?_
                    refine Sg.go (pc' := 196) (mi_gfI (r := 7) (k := 3) dX9_doOnData_193 hC_7 (by decide) rfl wF_X9_116 (by omega) rfl) ?_
                    refine Sg.callD (pc' := 199) (t := 0) (μ' := m_X9_freeShadow) (args := [(4, v0), (0, (D 7 v1 2)), (0, (D 7 v1 3))]) (mi_invV (n := 2) (r := 2) dX9_doOnData_196 hC_2 (by omega) rfl rfl wN_X9_freeShadow rfl ⟨by decide, by decide⟩ wL_X9_168 wI_X9_freeShadow wS_X9_freeShadow wB_X9 wC_X9_freeShadow) (fun v hv => C_X9_freeShadow hL v0 (D 7 v1 2) (D 7 v1 3) D (by omega) v hv) (Nat.le_of_ble_eq_true rfl) rfl rfl (fun y31 D32 => ?_)
                    exact Sg.ret (mi_ireturn dX9_doOnData_199 rfl (Or.inl rfl))
                  · refine Sg.ite (fun h33 => ?_) (fun h33 => ?_)
                    · refine Sg.go (pc' := 200) (mi_tabIn (tgt := 200) dX9_doOnData_24 (by omega) (by omega) (by rw [h33]; rfl) (by decide)) ?_
                      refine Sg.go (pc' := 201) (mi_aload_n dX9_doOnData_200 rfl) ?_
                      refine Sg.go (pc' := 202) (mi_aload_n dX9_doOnData_201 rfl) ?_
                      refine Sg.go (pc' := 205) (mi_gfI (r := 7) (k := 1) dX9_doOnData_202 hC_7 (by decide) rfl wF_X9_119 (by omega) rfl) ?_
                      refine Sg.go (pc' := 206) (mi_aload_n dX9_doOnData_205 rfl) ?_
                      refine Sg.go (pc' := 209) (mi_gfI (r := 7) (k := 4) dX9_doOnData_206 hC_7 (by decide) rfl wF_X9_120 (by omega) rfl) ?_
                      refine Sg.ck (fun hk34 => ?_)
                      refine Sg.callD (pc' := 212) (t := 0) (μ' := m_X6_reshape) (args := [(5, y1), (0, (D 7 v1 1)), (0, (D 7 v1 4))]) (mi_invV (n := 2) (r := 3) dX9_doOnData_209 hC_3 (by omega) rfl rfl wN_X6_reshape rfl ⟨by decide, by decide⟩ wL_X9_172 wI_X6_reshape wS_X6_reshape wB_X6 wC_X6_reshape) (fun v hv => C_X6_reshape hL y1 (D 7 v1 1) (D 7 v1 4) D (by omega) v hv) (Nat.le_of_ble_eq_true rfl) rfl rfl (fun y35 D36 => ?_)
                      exact Sg.ret (mi_ireturn dX9_doOnData_212 rfl (Or.inl rfl))
                    · refine Sg.ite (fun h37 => ?_) (fun h37 => ?_)
                      · refine Sg.go (pc' := 213) (mi_tabIn (tgt := 213) dX9_doOnData_24 (by omega) (by omega) (by rw [h37]; rfl) (by decide)) ?_
                        refine Sg.go (pc' := 214) (mi_aload_n dX9_doOnData_213 rfl) ?_
                        refine Sg.go (pc' := 215) (mi_aload_n dX9_doOnData_214 rfl) ?_
                        refine Sg.go (pc' := 218) (mi_gfI (r := 7) (k := 2) dX9_doOnData_215 hC_7 (by decide) rfl wF_X9_111 (by omega) rfl) ?_
                        refine Sg.go (pc' := 219) (mi_aload_n dX9_doOnData_218 rfl) ?_
                        refine Sg.go (pc' := 222) (mi_gfI (r := 7) (k := 3) dX9_doOnData_219 hC_7 (by decide) rfl wF_X9_116 (by omega) rfl) ?_
                        refine Sg.callD (pc' := 225) (t := 0) (μ' := m_X9_keepShadow) (args := [(4, v0), (0, (D 7 v1 2)), (0, (D 7 v1 3))]) (mi_invV (n := 2) (r := 2) dX9_doOnData_222 hC_2 (by omega) rfl rfl wN_X9_keepShadow rfl ⟨by decide, by decide⟩ wL_X9_175 wI_X9_keepShadow wS_X9_keepShadow wB_X9 wC_X9_keepShadow) (fun v hv => C_X9_keepShadow hL v0 (D 7 v1 2) (D 7 v1 3) D (by omega) v hv) (Nat.le_of_ble_eq_true rfl) rfl rfl (fun y38 D39 => ?_)
                        exact Sg.ret (mi_ireturn dX9_doOnData_225 rfl (Or.inl rfl))
                      · refine Sg.ite (fun h40 => ?_) (fun h40 => ?_)
                        · refine Sg.go (pc' := 226) (mi_tabIn (tgt := 226) dX9_doOnData_24 (by omega) (by omega) (by rw [h40]; rfl) (by decide)) ?_
                          refine Sg.go (pc' := 227) (mi_aload_n dX9_doOnData_226 rfl) ?_
                          refine Sg.go (pc' := 228) (mi_aload_n dX9_doOnData_227 rfl) ?_
                          refine Sg.go (pc' := 231) (mi_gfI (r := 7) (k := 2) dX9_doOnData_228 hC_7 (by decide) rfl wF_X9_111 (by omega) rfl) ?_
                          refine Sg.go (pc' := 232) (mi_aload_n dX9_doOnData_231 rfl) ?_
                          refine Sg.go (pc' := 235) (mi_gfI (r := 7) (k := 3) dX9_doOnData_232 hC_7 (by decide) rfl wF_X9_116 (by omega) rfl) ?_
                          refine Sg.callD (pc' := 238) (t := 0) (μ' := m_X9_liftShadow) (args := [(4, v0), (0, (D 7 v1 2)), (0, (D 7 v1 3))]) (mi_invV (n := 2) (r := 2) dX9_doOnData_235 hC_2 (by omega) rfl rfl wN_X9_liftShadow rfl ⟨by decide, by decide⟩ wL_X9_178 wI_X9_liftShadow wS_X9_liftShadow wB_X9 wC_X9_liftShadow) (fun v hv => C_X9_liftShadow hL v0 (D 7 v1 2) (D 7 v1 3) D (by omega) v hv) (Nat.le_of_ble_eq_true rfl) rfl rfl (fun y41 D42 => ?_)
                          exact Sg.ret (mi_ireturn dX9_doOnData_238 rfl (Or.inl rfl))
                        · refine Sg.go (pc' := 239) (mi_tabOut (tgt := 239) dX9_doOnData_24 (by omega) (by decide)) ?_
                          refine Sg.go (pc' := 240) (mi_iconst (z := 0) dX9_doOnData_239 rfl) ?_
                          exact Sg.ret (mi_ireturn dX9_doOnData_240 rfl (Or.inl rfl))
theorem C_X9_doOnData {Z : MiZ} (hL : CL Z) (a0 a1 a2 : Int) (D : MiD) (h0 : (0 ≤ a0 ∧ a0 < 2)) (h1 : 0 ≤ a1) (h2 : (0 ≤ a2 ∧ a2 < 14)) (b : Int × MiD) (hb : B_X9_doOnData Z a0 a1 a2 D = some b) : MC m_X9_doOnData [(4, a0), (9, a1), (7, a2)] (D, Z) ((mi_LD 0 Z) b) := MC.ofSg (L := (mi_LD 0 Z)) (μ := m_X9_doOnData) (args := [(4, a0), (9, a1), (7, a2)]) (M := (D, Z)) rfl wP_X9 (Nat.le_of_ble_eq_true rfl) (show Sg m_X9_doOnData 0 [(4, a0), (9, a1), (7, a2), mi_un] [] (D, Z) (mi_LD 0 Z) (B_X9_doOnData Z a0 a1 a2 D) from S_X9_doOnData hL a0 a1 a2 D h0 h1 h2) hb
abbrev m_X9_launch : MiI := (yX9_launch, cX9_launch, 4, (some .int), 4, none)
def B_X9_launch (Z : MiZ) (v0 : Int) (v1 : Int) (v2 : Int) (D : MiD) : Option (Int × MiD) := mi_bi (B_X9_callee D Z v0 v1 v2) fun y1 => if 0 ≤ v1 ∧ v1 < 6 then (mi_bi (B_X8_be ((6 * v0 + v1) + 1 + (6 * v0 + v1) / 6) (-1) 0 D) fun D3 => mi_b2 (B_X7_push (6 * v0 + v1) v2 y1 D3) fun y4 D5 => some (y1, D5)) else none
set_option maxRecDepth 20000 in
theorem S_X9_launch {Z : MiZ} (hL : CL Z) (v0 v1 v2 : Int) (D : MiD) : (0 ≤ v0 ∧ v0 < 2) → Sg m_X9_launch 0 [(4, v0), (0, v1), (0, v2), mi_un] [] (D, Z) (mi_LD 0 Z) (B_X9_launch Z v0 v1 v2 D) := by
  intro hb0
  unfold B_X9_launch
  refine Sg.go (pc' := 1) (mi_aload_n dX9_launch_0 rfl) ?_
  refine Sg.go (pc' := 2) (mi_iload_n dX9_launch_1 rfl) ?_
  refine Sg.go (pc' := 3) (mi_iload_n dX9_launch_2 rfl) ?_
  refine Sg.callI (pc' := 6) (t := 0) (μ' := m_X9_callee) (args := [(4, v0), (0, v1), (0, v2)]) (mi_invV (n := 2) (r := 2) dX9_launch_3 hC_2 (by omega) rfl rfl wN_X9_callee rfl ⟨by decide, by decide⟩ wL_X9_181 wI_X9_callee wS_X9_callee wB_X9 wC_X9_callee) (fun v hv => C_X9_callee hL v0 v1 v2 D (by omega) v hv) (Nat.le_of_ble_eq_true rfl) rfl rfl (fun y1 => ?_)
  refine Sg.go (pc' := 7) (mi_istore_n (ls1 := [(4, v0), (0, v1), (0, v2), (0, y1)]) dX9_launch_6 (by decide) rfl) ?_
  refine Sg.go (pc' := 8) (mi_aload_n dX9_launch_7 rfl) ?_
  refine Sg.go (pc' := 11) (mi_gfA (t := 14) (v := v0) (r := 2) (k := 3) dX9_launch_8 hC_2 (by decide) rfl wF_X9_31 (by omega) rfl (hL.2.1 _ 3 (by omega) (by omega) (by decide))) ?_
  refine Sg.go (pc' := 12) (mi_iload_n dX9_launch_11 rfl) ?_
  refine Sg.ck (fun hk2 => ?_)
  refine Sg.go (pc' := 13) (mi_aald (n := 6) (t := 4) (v := (6 * v0 + v1)) dX9_launch_12 rfl hA_14 rfl (by omega) hk2 rfl (hL.2.2.2.2.2.2.2 _ _ (by omega) (by omega) hk2.1 hk2.2)) ?_
  refine Sg.go (pc' := 16) (mi_gfA (t := 5) (v := ((6 * v0 + v1) + 1 + (6 * v0 + v1) / 6)) (r := 4) (k := 7) dX9_launch_13 hC_4 (by decide) rfl wF_X9_184 (by omega) rfl (hL.2.2.2.2.2.1 _ (by omega) (by omega))) ?_
  refine Sg.go (pc' := 17) (mi_iconst (z := (-1)) dX9_launch_16 rfl) ?_
  refine Sg.go (pc' := 18) (mi_lconst (z := 0) dX9_launch_17 rfl) ?_
  refine Sg.callV (pc' := 21) (μ' := m_X8_be) (args := [(7, ((6 * v0 + v1) + 1 + (6 * v0 + v1) / 6)), (0, (-1)), (1, 0)]) (mi_invV (n := 2) (r := 5) dX9_launch_18 hC_5 (by omega) rfl rfl wN_X8_be rfl ⟨by decide, by decide⟩ wL_X9_145 wI_X8_be wS_X8_be wB_X8 wC_X8_be) (fun v hv => C_X8_be hL ((6 * v0 + v1) + 1 + (6 * v0 + v1) / 6) (-1) 0 D (by omega) v hv) (Nat.le_of_ble_eq_true rfl) rfl rfl (fun D3 => ?_)
  refine Sg.go (pc' := 22) (mi_aload_n dX9_launch_21 rfl) ?_
  refine Sg.go (pc' := 25) (mi_gfA (t := 14) (v := v0) (r := 2) (k := 3) dX9_launch_22 hC_2 (by decide) rfl wF_X9_31 (by omega) rfl (hL.2.1 _ 3 (by omega) (by omega) (by decide))) ?_
  refine Sg.go (pc' := 26) (mi_iload_n dX9_launch_25 rfl) ?_
  refine Sg.go (pc' := 27) (mi_aald (n := 6) (t := 4) (v := (6 * v0 + v1)) dX9_launch_26 rfl hA_14 rfl (by omega) hk2 rfl (hL.2.2.2.2.2.2.2 _ _ (by omega) (by omega) hk2.1 hk2.2)) ?_
  refine Sg.go (pc' := 28) (mi_iload_n dX9_launch_27 rfl) ?_
  refine Sg.go (pc' := 29) (mi_iload_n dX9_launch_28 rfl) ?_
  refine Sg.callD (pc' := 32) (t := 0) (μ' := m_X7_push) (args := [(6, (6 * v0 + v1)), (0, v2), (0, y1)]) (mi_invV (n := 2) (r := 4) dX9_launch_29 hC_4 (by omega) rfl rfl wN_X7_push rfl ⟨by decide, by decide⟩ wL_X9_187 wI_X7_push wS_X7_push wB_X7 wC_X7_push) (fun v hv => C_X7_push hL (6 * v0 + v1) v2 y1 D3 (by omega) v hv) (Nat.le_of_ble_eq_true rfl) rfl rfl (fun y4 D5 => ?_)
  refine Sg.go (pc' := 33) (mi_pop dX9_launch_32 (show (0 : Nat) ≠ 1 by decide)) ?_
  refine Sg.go (pc' := 34) (mi_iload_n dX9_launch_33 rfl) ?_
  exact Sg.ret (mi_ireturn dX9_launch_34 rfl (Or.inl rfl))
theorem C_X9_launch {Z : MiZ} (hL : CL Z) (a0 a1 a2 : Int) (D : MiD) (h0 : (0 ≤ a0 ∧ a0 < 2)) (b : Int × MiD) (hb : B_X9_launch Z a0 a1 a2 D = some b) : MC m_X9_launch [(4, a0), (0, a1), (0, a2)] (D, Z) ((mi_LD 0 Z) b) := MC.ofSg (L := (mi_LD 0 Z)) (μ := m_X9_launch) (args := [(4, a0), (0, a1), (0, a2)]) (M := (D, Z)) rfl wP_X9 (Nat.le_of_ble_eq_true rfl) (show Sg m_X9_launch 0 [(4, a0), (0, a1), (0, a2), mi_un] [] (D, Z) (mi_LD 0 Z) (B_X9_launch Z a0 a1 a2 D) from S_X9_launch hL a0 a1 a2 D h0) hb
abbrev m_X5_readKind : MiI := (yX5_readKind, cX5_readKind, 4, (some .int), 5, none)
def B_X5_readKind_38 (Z : MiZ) (v0 : Int) (v1 : Int) (v2 : Int) (s0 : Int) (D : MiD) : Option (Int × MiD) := if (B_X10_within s0 v1) ≠ 0 then (mi_let (mi_st D 9 v0 2 v2) fun D2 => some (s0, D2)) else (mi_bi (B_X5_fail v0 1 (D 9 v0 2) D) fun D3 => some (0, D3))
set_option maxRecDepth 20000 in
theorem S_X5_readKind_38 {Z : MiZ} (hL : CL Z) (v0 v1 v2 s0 : Int) (D : MiD) : 0 ≤ v0 → Sg m_X5_readKind 38 [(11, v0), (0, v1), (0, v2), mi_un] [(0, s0)] (D, Z) (mi_LD 0 Z) (B_X5_readKind_38 Z v0 v1 v2 s0 D) := by
  intro hb0
  unfold B_X5_readKind_38
  refine Sg.go (pc' := 39) (mi_istore_n (ls1 := [(11, v0), (0, v1), (0, v2), (0, s0)]) dX5_readKind_38 (by decide) rfl) ?_
  refine Sg.go (pc' := 40) (mi_iload_n dX5_readKind_39 rfl) ?_
  refine Sg.go (pc' := 41) (mi_iload_n dX5_readKind_40 rfl) ?_
  refine Sg.callP (pc' := 44) (t := 0) (v := (B_X10_within s0 v1)) (μ' := m_X10_within) (args := [(0, s0), (0, v1)]) (mi_invSN (n := 2) dX5_readKind_41 rfl wN_X10_within rfl ⟨by decide, by decide⟩ wL_X5_165 wT_X10_within wB_X10 wC_X10_within) (C_X10_within hL s0 v1 D) (Nat.le_of_ble_eq_true rfl) rfl rfl ?_
  refine Sg.ite (fun h1 => ?_) (fun h1 => ?_)
  · refine Sg.go (pc' := 58) (mi_ifne_t (tgt := 58) dX5_readKind_44 (by decide) h1) ?_
    refine Sg.go (pc' := 59) (mi_aload_n dX5_readKind_58 rfl) ?_
    refine Sg.go (pc' := 60) (mi_iload_n dX5_readKind_59 rfl) ?_
    refine Sg.goM (pc' := 63) (mi_pfD (r := 9) (k := 2) (t := 0) dX5_readKind_60 hC_9 (by decide) rfl rfl wF_X5_39 (by omega) rfl (by decide) (Or.inl ⟨rfl, rfl⟩)) ?_
    refine Sg.letD (fun D2 hD2 => ?_)
    refine Sg.go (pc' := 64) (mi_iload_n dX5_readKind_63 rfl) ?_
    exact Sg.ret (mi_ireturn dX5_readKind_64 rfl (Or.inl rfl))
  · refine Sg.go (pc' := 47) (mi_ifne_f (tgt := 58) dX5_readKind_44 (by decide) h1) ?_
    refine Sg.go (pc' := 48) (mi_aload_n dX5_readKind_47 rfl) ?_
    refine Sg.go (pc' := 49) (mi_iconst (z := 1) dX5_readKind_48 rfl) ?_
    refine Sg.go (pc' := 50) (mi_aload_n dX5_readKind_49 rfl) ?_
    refine Sg.go (pc' := 53) (mi_gfI (r := 9) (k := 2) dX5_readKind_50 hC_9 (by decide) rfl wF_X5_39 (by omega) rfl) ?_
    refine Sg.callV (pc' := 56) (μ' := m_X5_fail) (args := [(11, v0), (0, 1), (0, (D 9 v0 2))]) (mi_invV (n := 2) (r := 9) dX5_readKind_53 hC_9 (by omega) rfl rfl wN_X5_fail rfl ⟨by decide, by decide⟩ wL_X5_44 wI_X5_fail wS_X5_fail wB_X5 wC_X5_fail) (fun v hv => C_X5_fail hL v0 1 (D 9 v0 2) D (by omega) v hv) (Nat.le_of_ble_eq_true rfl) rfl rfl (fun D3 => ?_)
    refine Sg.go (pc' := 57) (mi_iconst (z := 0) dX5_readKind_56 rfl) ?_
    exact Sg.ret (mi_ireturn dX5_readKind_57 rfl (Or.inl rfl))
def B_X5_readKind (Z : MiZ) (v0 : Int) (v1 : Int) (D : MiD) : Option (Int × MiD) := mi_bi (B_X5_skipBlanks_0 Z mi_fuel v0 D) fun D1 => mi_bi (B_X5_wordEnd D1 Z v0) fun y2 => if (mi_w (y2 - (D1 9 v0 2))) ≠ 1 then (B_X5_readKind_38 Z v0 v1 y2 (-1) D1) else (if 0 ≤ (Z.1 9 v0 0) ∧ (Z.1 9 v0 0) < 1 then (if 0 ≤ (D1 9 v0 2) ∧ (D1 9 v0 2) < 500 then (mi_bi (B_J0_indexOf_0f7a4 D1 38 (mi_c (D1 10 (Z.1 9 v0 0) (D1 9 v0 2)))) fun y6 => B_X5_readKind_38 Z v0 v1 y2 y6 D1) else none) else none)
set_option maxRecDepth 20000 in
theorem S_X5_readKind {Z : MiZ} (hL : CL Z) (v0 v1 : Int) (D : MiD) : 0 ≤ v0 → Sg m_X5_readKind 0 [(11, v0), (0, v1), mi_un, mi_un] [] (D, Z) (mi_LD 0 Z) (B_X5_readKind Z v0 v1 D) := by
  intro hb0
  unfold B_X5_readKind
  refine Sg.go (pc' := 1) (mi_aload_n dX5_readKind_0 rfl) ?_
  refine Sg.callV (pc' := 4) (μ' := m_X5_skipBlanks) (args := [(11, v0)]) (mi_invV (n := 0) (r := 9) dX5_readKind_1 hC_9 (by omega) rfl rfl wN_X5_skipBlanks rfl ⟨by decide, by decide⟩ wL_X5_36 wI_X5_skipBlanks wS_X5_skipBlanks wB_X5 wC_X5_skipBlanks) (fun v hv => C_X5_skipBlanks hL v0 D (by omega) v hv) (Nat.le_of_ble_eq_true rfl) rfl rfl (fun D1 => ?_)
  refine Sg.go (pc' := 5) (mi_aload_n dX5_readKind_4 rfl) ?_
  refine Sg.callI (pc' := 8) (t := 0) (μ' := m_X5_wordEnd) (args := [(11, v0)]) (mi_invV (n := 0) (r := 9) dX5_readKind_5 hC_9 (by omega) rfl rfl wN_X5_wordEnd rfl ⟨by decide, by decide⟩ wL_X5_157 wI_X5_wordEnd wS_X5_wordEnd wB_X5 wC_X5_wordEnd) (fun v hv => C_X5_wordEnd hL v0 D1 (by omega) v hv) (Nat.le_of_ble_eq_true rfl) rfl rfl (fun y2 => ?_)
  refine Sg.go (pc' := 9) (mi_istore_n (ls1 := [(11, v0), (0, v1), (0, y2), mi_un]) dX5_readKind_8 (by decide) rfl) ?_
  refine Sg.go (pc' := 10) (mi_iload_n dX5_readKind_9 rfl) ?_
  refine Sg.go (pc' := 11) (mi_aload_n dX5_readKind_10 rfl) ?_
  refine Sg.go (pc' := 14) (mi_gfI (r := 9) (k := 2) dX5_readKind_11 hC_9 (by decide) rfl wF_X5_39 (by omega) rfl) ?_
  refine Sg.go (pc' := 15) (mi_isub dX5_readKind_14) ?_
  refine Sg.go (pc' := 16) (mi_iconst (z := 1) dX5_readKind_15 rfl) ?_
  refine Sg.ite (fun h3 => ?_) (fun h3 => ?_)
  · refine Sg.go (pc' := 37) (mi_icmpne_t (tgt := 37) dX5_readKind_16 (by decide) h3) ?_
    refine Sg.go (pc' := 38) (mi_iconst (z := (-1)) dX5_readKind_37 rfl) ?_
    exact S_X5_readKind_38 hL v0 v1 y2 (-1) D1 hb0
  · refine Sg.go (pc' := 19) (mi_icmpne_f (tgt := 37) dX5_readKind_16 (by decide) h3) ?_
    refine Sg.go (pc' := 21) (mi_ldcS (j := 38) (z := 38) dX5_readKind_19 rfl rfl (by decide)) ?_
    refine Sg.go (pc' := 22) (mi_aload_n dX5_readKind_21 rfl) ?_
    refine Sg.go (pc' := 25) (mi_gfA (t := 10) (v := (Z.1 9 v0 0)) (r := 9) (k := 0) dX5_readKind_22 hC_9 (by decide) rfl wF_X5_15 (by omega) rfl rfl) ?_
    refine Sg.go (pc' := 26) (mi_aload_n dX5_readKind_25 rfl) ?_
    refine Sg.go (pc' := 29) (mi_gfI (r := 9) (k := 2) dX5_readKind_26 hC_9 (by decide) rfl wF_X5_39 (by omega) rfl) ?_
    refine Sg.ck (fun hk4 => ?_)
    refine Sg.ck (fun hk5 => ?_)
    refine Sg.go (pc' := 30) (mi_bald (n := 500) dX5_readKind_29 rfl rfl (by omega) hk5) ?_
    refine Sg.go (pc' := 31) (mi_i2c dX5_readKind_30) ?_
    refine Sg.callI (pc' := 34) (t := 0) (μ' := m_J0_indexOf_0f7a4) (args := [(29, 38), (0, (mi_c (D1 10 (Z.1 9 v0 0) (D1 9 v0 2))))]) (mi_invC (n := 1) (r := 27) dX5_readKind_31 (by decide) mi_oSt (by omega) rfl rfl wN_J0_indexOf_0f7a4 rfl ⟨by decide, by decide⟩ wL_X5_162 wI_J0_indexOf_0f7a4 wS_J0_indexOf_0f7a4 wB_J0 wC_J0_indexOf_0f7a4) (fun v hv => C_J0_indexOf_0f7a4 trivial 38 (mi_c (D1 10 (Z.1 9 v0 0) (D1 9 v0 2))) D1 (by omega) v hv) (Nat.le_of_ble_eq_true rfl) rfl rfl (fun y6 => ?_)
    refine Sg.go (pc' := 38) (mi_goto (tgt := 38) dX5_readKind_34 (by decide)) ?_
    exact S_X5_readKind_38 hL v0 v1 y2 y6 D1 hb0
theorem C_X5_readKind {Z : MiZ} (hL : CL Z) (a0 a1 : Int) (D : MiD) (h0 : 0 ≤ a0) (b : Int × MiD) (hb : B_X5_readKind Z a0 a1 D = some b) : MC m_X5_readKind [(11, a0), (0, a1)] (D, Z) ((mi_LD 0 Z) b) := MC.ofSg (L := (mi_LD 0 Z)) (μ := m_X5_readKind) (args := [(11, a0), (0, a1)]) (M := (D, Z)) rfl wP_X5 (Nat.le_of_ble_eq_true rfl) (show Sg m_X5_readKind 0 [(11, a0), (0, a1), mi_un, mi_un] [] (D, Z) (mi_LD 0 Z) (B_X5_readKind Z a0 a1 D) from S_X5_readKind hL a0 a1 D h0) hb
abbrev m_X9_doDeed : MiI := (yX9_doDeed, cX9_doDeed, 7, (some .int), 5, none)
def B_X9_doDeed_166 (Z : MiZ) (s0 : Int) (s1 : Int) (s2 : Int) (D : MiD) : Option (Int × MiD) := if 0 ≤ s0 ∧ s0 < 12 then (if 0 ≤ s1 ∧ s1 < 10 then (mi_let (mi_st D 21 s0 s1 s2) fun D3 => some (0, D3)) else none) else none
set_option maxRecDepth 20000 in
theorem S_X9_doDeed_166 {Z : MiZ} (hL : CL Z) (s0 s1 s2 : Int) (D : MiD) : Sg m_X9_doDeed 166 [mi_un, mi_un, mi_un, mi_un, mi_un, mi_un, mi_un] [(0, s2), (0, s1), (23, s0)] (D, Z) (mi_LD 0 Z) (B_X9_doDeed_166 Z s0 s1 s2 D) := by
  unfold B_X9_doDeed_166
  refine Sg.ck (fun hk1 => ?_)
  refine Sg.ck (fun hk2 => ?_)
  refine Sg.goM (pc' := 167) (mi_iast (n := 10) dX9_doDeed_166 rfl rfl (by omega) hk2) ?_
  refine Sg.letD (fun D3 hD3 => ?_)
  refine Sg.go (pc' := 168) (mi_iconst (z := 0) dX9_doDeed_167 rfl) ?_
  exact Sg.ret (mi_ireturn dX9_doDeed_168 rfl (Or.inl rfl))
def B_X9_doDeed_205 (Z : MiZ) (s0 : Int) (s1 : Int) (s2 : Int) (D : MiD) : Option (Int × MiD) := if 0 ≤ s0 ∧ s0 < 12 then (if 0 ≤ s1 ∧ s1 < 10 then (mi_let (mi_st D 21 s0 s1 s2) fun D3 => some (0, D3)) else none) else none
set_option maxRecDepth 20000 in
theorem S_X9_doDeed_205 {Z : MiZ} (hL : CL Z) (s0 s1 s2 : Int) (D : MiD) : Sg m_X9_doDeed 205 [mi_un, mi_un, mi_un, mi_un, mi_un, mi_un, mi_un] [(0, s2), (0, s1), (23, s0)] (D, Z) (mi_LD 0 Z) (B_X9_doDeed_205 Z s0 s1 s2 D) := by
  unfold B_X9_doDeed_205
  refine Sg.ck (fun hk1 => ?_)
  refine Sg.ck (fun hk2 => ?_)
  refine Sg.goM (pc' := 206) (mi_iast (n := 10) dX9_doDeed_205 rfl rfl (by omega) hk2) ?_
  refine Sg.letD (fun D3 hD3 => ?_)
  refine Sg.go (pc' := 207) (mi_iconst (z := 0) dX9_doDeed_206 rfl) ?_
  exact Sg.ret (mi_ireturn dX9_doDeed_207 rfl (Or.inl rfl))
def B_X9_doDeed_229 (Z : MiZ) (v2 : Int) (v3 : Int) (v5 : Int) (s0 : Int) (s1 : Int) (s2 : Int) (D : MiD) : Option (Int × MiD) := if 0 ≤ s0 ∧ s0 < 12 then (if 0 ≤ s1 ∧ s1 < 10 then (mi_let (mi_st D 22 s0 s1 s2) fun D3 => if 0 ≤ v3 ∧ v3 < 12 then (if 0 ≤ v2 ∧ v2 < 10 then (mi_let (mi_st D3 21 v3 v2 v5) fun D6 => some (0, D6)) else none) else none) else none) else none
set_option maxRecDepth 20000 in
theorem S_X9_doDeed_229 {Z : MiZ} (hL : CL Z) (v2 v3 v5 s0 s1 s2 : Int) (D : MiD) : Sg m_X9_doDeed 229 [mi_un, mi_un, (0, v2), (6, v3), mi_un, (0, v5), mi_un] [(0, s2), (0, s1), (24, s0)] (D, Z) (mi_LD 0 Z) (B_X9_doDeed_229 Z v2 v3 v5 s0 s1 s2 D) := by
  unfold B_X9_doDeed_229
  refine Sg.ck (fun hk1 => ?_)
  refine Sg.ck (fun hk2 => ?_)
  refine Sg.goM (pc' := 230) (mi_iast (n := 10) dX9_doDeed_229 rfl rfl (by omega) hk2) ?_
  refine Sg.letD (fun D3 hD3 => ?_)
  refine Sg.go (pc' := 231) (mi_aload_n dX9_doDeed_230 rfl) ?_
  refine Sg.ck (fun hk4 => ?_)
  refine Sg.go (pc' := 234) (mi_gfA (t := 21) (v := v3) (r := 4) (k := 2) dX9_doDeed_231 hC_4 (by decide) rfl wF_X9_227 (by omega) rfl (hL.2.2.2.2.1 _ 2 (by omega) (by omega) (by decide))) ?_
  refine Sg.go (pc' := 235) (mi_iload_n dX9_doDeed_234 rfl) ?_
  refine Sg.go (pc' := 237) (mi_iload dX9_doDeed_235 rfl) ?_
  refine Sg.ck (fun hk5 => ?_)
  refine Sg.goM (pc' := 238) (mi_iast (n := 10) dX9_doDeed_237 rfl rfl (by omega) hk5) ?_
  refine Sg.letD (fun D6 hD6 => ?_)
  refine Sg.go (pc' := 239) (mi_iconst (z := 0) dX9_doDeed_238 rfl) ?_
  exact Sg.ret (mi_ireturn dX9_doDeed_239 rfl (Or.inl rfl))
def B_X9_doDeed_208 (Z : MiZ) (v2 : Int) (v3 : Int) (v5 : Int) (v6 : Int) (D : MiD) : Option (Int × MiD) := if 0 ≤ v3 ∧ v3 < 12 then (if 0 ≤ v6 then (if 0 ≤ (Z.1 7 v6 0) ∧ (Z.1 7 v6 0) < 19 then (if (Z.1 7 v6 0) = 5 then (B_X9_doDeed_229 Z v2 v3 v5 v3 v2 1 D) else (B_X9_doDeed_229 Z v2 v3 v5 v3 v2 0 D)) else none) else none) else none
set_option maxRecDepth 20000 in
theorem S_X9_doDeed_208 {Z : MiZ} (hL : CL Z) (v2 v3 v5 v6 : Int) (D : MiD) : Sg m_X9_doDeed 208 [mi_un, mi_un, (0, v2), (6, v3), mi_un, (0, v5), (9, v6)] [] (D, Z) (mi_LD 0 Z) (B_X9_doDeed_208 Z v2 v3 v5 v6 D) := by
  unfold B_X9_doDeed_208
  refine Sg.go (pc' := 209) (mi_aload_n dX9_doDeed_208 rfl) ?_
  refine Sg.ck (fun hk1 => ?_)
  refine Sg.go (pc' := 212) (mi_gfA (t := 22) (v := v3) (r := 4) (k := 3) dX9_doDeed_209 hC_4 (by decide) rfl wF_X9_248 (by omega) rfl (hL.2.2.2.2.1 _ 3 (by omega) (by omega) (by decide))) ?_
  refine Sg.go (pc' := 213) (mi_iload_n dX9_doDeed_212 rfl) ?_
  refine Sg.go (pc' := 215) (mi_aload dX9_doDeed_213 rfl) ?_
  refine Sg.ck (fun hk2 => ?_)
  refine Sg.go (pc' := 218) (mi_gfA (t := 26) (v := (Z.1 7 v6 0)) (r := 7) (k := 0) dX9_doDeed_215 hC_7 (by decide) rfl wF_X9_128 (by omega) rfl rfl) ?_
  refine Sg.go (pc' := 221) (mi_gs (r := 26) (j := 5) (z := 5) dX9_doDeed_218 (mi_zEn 5 (by decide) rfl) wF_X9_251 (by decide) rfl (by decide)) ?_
  refine Sg.ck (fun hk4 => ?_)
  refine mi_acN (r := 26) (tgt := 228) dX9_doDeed_221 (by decide) (by omega) (by omega) mi_jOp (by decide) (fun h3 => ?_) (fun h3 => ?_)
  · refine Sg.go (pc' := 225) (mi_iconst (z := 1) dX9_doDeed_224 rfl) ?_
    refine Sg.go (pc' := 229) (mi_goto (tgt := 229) dX9_doDeed_225 (by decide)) ?_
    refine Sg.go (pc' := 229) (MiStep.weak (ls' := [mi_un, mi_un, (0, v2), (6, v3), mi_un, (0, v5), mi_un]) (mi_wk_y (mi_wk_y (mi_wk_y (mi_wk_y (mi_wk_y (mi_wk_y (mi_wk_n mi_wk_0)))))))) ?_
    exact S_X9_doDeed_229 hL v2 v3 v5 v3 v2 1 D
  · refine Sg.go (pc' := 229) (mi_iconst (z := 0) dX9_doDeed_228 rfl) ?_
    refine Sg.go (pc' := 229) (MiStep.weak (ls' := [mi_un, mi_un, (0, v2), (6, v3), mi_un, (0, v5), mi_un]) (mi_wk_y (mi_wk_y (mi_wk_y (mi_wk_y (mi_wk_y (mi_wk_y (mi_wk_n mi_wk_0)))))))) ?_
    exact S_X9_doDeed_229 hL v2 v3 v5 v3 v2 0 D
def B_X9_doDeed_53 (Z : MiZ) (v0 : Int) (v1 : Int) (v2 : Int) (v3 : Int) (v4 : Int) (v5 : Int) (s0 : Int) (D : MiD) : Option (Int × MiD) := if s0 < 0 then (if 0 ≤ v3 ∧ v3 < 12 then (mi_bi (B_X7_pop v3 D) fun D38 => some (0, D38)) else none) else (if 0 ≤ s0 then (if 0 ≤ (Z.1 7 s0 0) ∧ (Z.1 7 s0 0) < 19 then (if 0 ≤ (mi_opo (Z.1 7 s0 0)) ∧ (mi_opo (Z.1 7 s0 0)) < 19 then (if (mi_sm (mi_opo (Z.1 7 s0 0))) = 13 then (if 0 ≤ v3 ∧ v3 < 12 then (mi_bi (B_X7_pop v3 D) fun D8 => some (0, D8)) else none) else (if (mi_sm (mi_opo (Z.1 7 s0 0))) = 14 then (if 0 ≤ v3 ∧ v3 < 12 then (if 0 ≤ v2 ∧ v2 < 10 then (mi_let (mi_st D 21 v3 v2 0) fun D12 => some (0, D12)) else none) else none) else (if (mi_sm (mi_opo (Z.1 7 s0 0))) = 15 then (if 0 ≤ v3 ∧ v3 < 12 then (mi_let (mi_st D 4 v3 5 (D 7 s0 5)) fun D15 => if (D15 7 s0 5) ≤ 0 then (B_X9_doDeed_166 Z v3 v2 v5 D15) else (B_X9_doDeed_166 Z v3 v2 (mi_w (v5 - 1)) D15)) else none) else (if (mi_sm (mi_opo (Z.1 7 s0 0))) = 16 then (if 0 ≤ v3 ∧ v3 < 12 then (mi_bi (B_X8_isNothing D (v3 + 1 + v3 / 6)) fun y19 => if y19 = 0 then (B_X9_doDeed_205 Z v3 v2 v5 D) else (if 0 ≤ v4 then (B_X9_doDeed_205 Z v3 v2 (mi_min (mi_w (v5 + (D 7 s0 5))) (D 6 v4 1)) D) else none)) else none) else (if (mi_sm (mi_opo (Z.1 7 s0 0))) = 17 then (B_X9_doDeed_208 Z v2 v3 v5 s0 D) else (if (mi_sm (mi_opo (Z.1 7 s0 0))) = 18 then (B_X9_doDeed_208 Z v2 v3 v5 s0 D) else (if (mi_sm (mi_opo (Z.1 7 s0 0))) = 19 then (if 0 ≤ v3 ∧ v3 < 12 then (if 0 ≤ v2 ∧ v2 < 10 then (mi_let (mi_st D 21 v3 v2 v5) fun D27 => mi_bi (B_X9_callee D27 Z v0 v1 (D27 7 s0 5)) fun y28 => mi_b2 (B_X7_push v3 (D27 7 s0 5) y28 D27) fun y29 D30 => if y29 = 0 then (some (3, D30)) else (some (0, D30))) else none) else none) else (if 0 ≤ v3 ∧ v3 < 12 then (if 0 ≤ v2 ∧ v2 < 10 then (mi_let (mi_st D 21 v3 v2 v5) fun D34 => mi_b2 (B_X9_doOnData Z v0 s0 (v3 + 1 + v3 / 6) D34) fun y35 D36 => some (y35, D36)) else none) else none)))))))) else none) else none) else none)
set_option maxRecDepth 20000 in
theorem S_X9_doDeed_53 {Z : MiZ} (hL : CL Z) (v0 v1 v2 v3 v4 v5 s0 : Int) (D : MiD) : (0 ≤ v0 ∧ v0 < 2) → Sg m_X9_doDeed 53 [(4, v0), (0, v1), (0, v2), (6, v3), (8, v4), (0, v5), mi_un] [(9, s0)] (D, Z) (mi_LD 0 Z) (B_X9_doDeed_53 Z v0 v1 v2 v3 v4 v5 s0 D) := by
  intro hb0
  unfold B_X9_doDeed_53
  refine Sg.go (pc' := 55) (mi_astore (ls1 := [(4, v0), (0, v1), (0, v2), (6, v3), (8, v4), (0, v5), (9, s0)]) dX9_doDeed_53 (by decide) rfl) ?_
  refine Sg.go (pc' := 57) (mi_aload dX9_doDeed_55 rfl) ?_
  refine Sg.ite (fun h1 => ?_) (fun h1 => ?_)
  · refine Sg.go (pc' := 60) (mi_ifnonnull_f (tgt := 66) dX9_doDeed_57 (by decide) h1) ?_
    refine Sg.go (pc' := 61) (mi_aload_n dX9_doDeed_60 rfl) ?_
    refine Sg.ck (fun hk37 => ?_)
    refine Sg.callV (pc' := 64) (μ' := m_X7_pop) (args := [(6, v3)]) (mi_invV (n := 0) (r := 4) dX9_doDeed_61 hC_4 (by omega) rfl rfl wN_X7_pop rfl ⟨by decide, by decide⟩ wL_X9_233 wI_X7_pop wS_X7_pop wB_X7 wC_X7_pop) (fun v hv => C_X7_pop hL v3 D (by omega) v hv) (Nat.le_of_ble_eq_true rfl) rfl rfl (fun D38 => ?_)
    refine Sg.go (pc' := 65) (mi_iconst (z := 0) dX9_doDeed_64 rfl) ?_
    exact Sg.ret (mi_ireturn dX9_doDeed_65 rfl (Or.inl rfl))
  · refine Sg.go (pc' := 66) (mi_ifnonnull_t (tgt := 66) dX9_doDeed_57 (by decide) h1) ?_
    refine Sg.go (pc' := 69) (mi_gs (r := 29) (j := 0) (z := 0) dX9_doDeed_66 mi_zSm wF_X9_123 (by decide) rfl (by decide)) ?_
    refine Sg.go (pc' := 71) (mi_aload dX9_doDeed_69 rfl) ?_
    refine Sg.ck (fun hk2 => ?_)
    refine Sg.go (pc' := 74) (mi_gfA (t := 26) (v := (Z.1 7 s0 0)) (r := 7) (k := 0) dX9_doDeed_71 hC_7 (by decide) rfl wF_X9_128 (by omega) rfl rfl) ?_
    refine Sg.ck (fun hk3 => ?_)
    refine Sg.callP (pc' := 77) (t := 0) (v := (mi_opo (Z.1 7 s0 0))) (μ' := m_ord) (args := [(28, (Z.1 7 s0 0))]) (mi_ordI rfl dX9_doDeed_74 (by omega) ⟨by decide, by decide⟩) (C_ord (Z.1 7 s0 0) (by omega)) (Nat.le_of_ble_eq_true rfl) rfl rfl ?_
    refine Sg.ck (fun hk4 => ?_)
    refine Sg.go (pc' := 78) (mi_smld dX9_doDeed_77 hk4) ?_
    refine Sg.ite (fun h6 => ?_) (fun h6 => ?_)
    · refine Sg.go (pc' := 120) (mi_tabIn (tgt := 120) dX9_doDeed_78 (by omega) (by omega) (by rw [h6]; rfl) (by decide)) ?_
      refine Sg.go (pc' := 121) (mi_aload_n dX9_doDeed_120 rfl) ?_
      refine Sg.ck (fun hk7 => ?_)
      refine Sg.callV (pc' := 124) (μ' := m_X7_pop) (args := [(6, v3)]) (mi_invV (n := 0) (r := 4) dX9_doDeed_121 hC_4 (by omega) rfl rfl wN_X7_pop rfl ⟨by decide, by decide⟩ wL_X9_233 wI_X7_pop wS_X7_pop wB_X7 wC_X7_pop) (fun v hv => C_X7_pop hL v3 D (by omega) v hv) (Nat.le_of_ble_eq_true rfl) rfl rfl (fun D8 => ?_)
      refine Sg.go (pc' := 125) (mi_iconst (z := 0) dX9_doDeed_124 rfl) ?_
      exact Sg.ret (mi_ireturn dX9_doDeed_125 rfl (Or.inl rfl))
    · refine Sg.ite (fun h9 => ?_) (fun h9 => ?_)
      · refine Sg.go (pc' := 126) (mi_tabIn (tgt := 126) dX9_doDeed_78 (by omega) (by omega) (by rw [h9]; rfl) (by decide)) ?_
        refine Sg.go (pc' := 127) (mi_aload_n dX9_doDeed_126 rfl) ?_
        refine Sg.ck (fun hk10 => ?_)
        refine Sg.go (pc' := 130) (mi_gfA (t := 21) (v := v3) (r := 4) (k := 2) dX9_doDeed_127 hC_4 (by decide) rfl wF_X9_227 (by omega) rfl (hL.2.2.2.2.1 _ 2 (by omega) (by omega) (by decide))) ?_
        refine Sg.go (pc' := 131) (mi_iload_n dX9_doDeed_130 rfl) ?_
        refine Sg.go (pc' := 132) (mi_iconst (z := 0) dX9_doDeed_131 rfl) ?_
        refine Sg.ck (fun hk11 => ?_)
        refine Sg.goM (pc' := 133) (mi_iast (n := 10) dX9_doDeed_132 rfl rfl (by omega) hk11) ?_
        refine Sg.letD (fun D12 hD12 => ?_)
        refine Sg.go (pc' := 134) (mi_iconst (z := 0) dX9_doDeed_133 rfl) ?_
        exact Sg.ret (mi_ireturn dX9_doDeed_134 rfl (Or.inl rfl))
      · refine Sg.ite (fun h13 => ?_) (fun h13 => ?_)
        · refine Sg.go (pc' := 135) (mi_tabIn (tgt := 135) dX9_doDeed_78 (by omega) (by omega) (by rw [h13]; rfl) (by decide)) ?_
          refine Sg.go (pc' := 136) (mi_aload_n dX9_doDeed_135 rfl) ?_
          refine Sg.go (pc' := 138) (mi_aload dX9_doDeed_136 rfl) ?_
          refine Sg.go (pc' := 141) (mi_gfI (r := 7) (k := 5) dX9_doDeed_138 hC_7 (by decide) rfl wF_X9_138 (by omega) rfl) ?_
          refine Sg.ck (fun hk14 => ?_)
          refine Sg.goM (pc' := 144) (mi_pfD (r := 4) (k := 5) (t := 0) dX9_doDeed_141 hC_4 (by decide) rfl rfl wF_X9_204 (by omega) rfl (by decide) (Or.inl ⟨rfl, rfl⟩)) ?_
          refine Sg.letD (fun D15 hD15 => ?_)
          refine Sg.go (pc' := 145) (mi_aload_n dX9_doDeed_144 rfl) ?_
          refine Sg.go (pc' := 148) (mi_gfA (t := 21) (v := v3) (r := 4) (k := 2) dX9_doDeed_145 hC_4 (by decide) rfl wF_X9_227 (by omega) rfl (hL.2.2.2.2.1 _ 2 (by omega) (by omega) (by decide))) ?_
          refine Sg.go (pc' := 149) (mi_iload_n dX9_doDeed_148 rfl) ?_
          refine Sg.go (pc' := 151) (mi_aload dX9_doDeed_149 rfl) ?_
          refine Sg.go (pc' := 154) (mi_gfI (r := 7) (k := 5) dX9_doDeed_151 hC_7 (by decide) rfl wF_X9_138 (by omega) rfl) ?_
          refine Sg.ite (fun h16 => ?_) (fun h16 => ?_)
          · refine Sg.go (pc' := 164) (mi_ifle_t (tgt := 164) dX9_doDeed_154 (by decide) h16) ?_
            refine Sg.go (pc' := 166) (mi_iload dX9_doDeed_164 rfl) ?_
            refine Sg.go (pc' := 166) (MiStep.weak (ls' := [mi_un, mi_un, mi_un, mi_un, mi_un, mi_un, mi_un]) (mi_wk_n (mi_wk_n (mi_wk_n (mi_wk_n (mi_wk_n (mi_wk_n (mi_wk_n mi_wk_0)))))))) ?_
            exact S_X9_doDeed_166 hL v3 v2 v5 D15
          · refine Sg.go (pc' := 157) (mi_ifle_f (tgt := 164) dX9_doDeed_154 (by decide) h16) ?_
            refine Sg.go (pc' := 159) (mi_iload dX9_doDeed_157 rfl) ?_
            refine Sg.go (pc' := 160) (mi_iconst (z := 1) dX9_doDeed_159 rfl) ?_
            refine Sg.go (pc' := 161) (mi_isub dX9_doDeed_160) ?_
            refine Sg.go (pc' := 166) (mi_goto (tgt := 166) dX9_doDeed_161 (by decide)) ?_
            refine Sg.go (pc' := 166) (MiStep.weak (ls' := [mi_un, mi_un, mi_un, mi_un, mi_un, mi_un, mi_un]) (mi_wk_n (mi_wk_n (mi_wk_n (mi_wk_n (mi_wk_n (mi_wk_n (mi_wk_n mi_wk_0)))))))) ?_
            exact S_X9_doDeed_166 hL v3 v2 (mi_w (v5 - 1)) D15
        · refine Sg.ite (fun h17 => ?_) (fun h17 => ?_)
          · refine Sg.go (pc' := 169) (mi_tabIn (tgt := 169) dX9_doDeed_78 (by omega) (by omega) (by rw [h17]; rfl) (by decide)) ?_
            refine Sg.go (pc' := 170) (mi_aload_n dX9_doDeed_169 rfl) ?_
            refine Sg.ck (fun hk18 => ?_)
            refine Sg.go (pc' := 173) (mi_gfA (t := 21) (v := v3) (r := 4) (k := 2) dX9_doDeed_170 hC_4 (by decide) rfl wF_X9_227 (by omega) rfl (hL.2.2.2.2.1 _ 2 (by omega) (by omega) (by decide))) ?_
            refine Sg.go (pc' := 174) (mi_iload_n dX9_doDeed_173 rfl) ?_
            refine Sg.go (pc' := 175) (mi_aload_n dX9_doDeed_174 rfl) ?_
            refine Sg.go (pc' := 178) (mi_gfA (t := 5) (v := (v3 + 1 + v3 / 6)) (r := 4) (k := 7) dX9_doDeed_175 hC_4 (by decide) rfl wF_X9_184 (by omega) rfl (hL.2.2.2.2.2.1 _ (by omega) (by omega))) ?_
            refine Sg.callI (pc' := 181) (t := 0) (μ' := m_X8_isNothing) (args := [(7, (v3 + 1 + v3 / 6))]) (mi_invV (n := 0) (r := 5) dX9_doDeed_178 hC_5 (by omega) rfl rfl wN_X8_isNothing rfl ⟨by decide, by decide⟩ wL_X9_236 wI_X8_isNothing wS_X8_isNothing wB_X8 wC_X8_isNothing) (fun v hv => C_X8_isNothing hL (v3 + 1 + v3 / 6) D (by omega) v hv) (Nat.le_of_ble_eq_true rfl) rfl rfl (fun y19 => ?_)
            refine Sg.ite (fun h20 => ?_) (fun h20 => ?_)
            · refine Sg.go (pc' := 203) (mi_ifeq_t (tgt := 203) dX9_doDeed_181 (by decide) h20) ?_
              refine Sg.go (pc' := 205) (mi_iload dX9_doDeed_203 rfl) ?_
              refine Sg.go (pc' := 205) (MiStep.weak (ls' := [mi_un, mi_un, mi_un, mi_un, mi_un, mi_un, mi_un]) (mi_wk_n (mi_wk_n (mi_wk_n (mi_wk_n (mi_wk_n (mi_wk_n (mi_wk_n mi_wk_0)))))))) ?_
              exact S_X9_doDeed_205 hL v3 v2 v5 D
            · refine Sg.go (pc' := 184) (mi_ifeq_f (tgt := 203) dX9_doDeed_181 (by decide) h20) ?_
              refine Sg.go (pc' := 186) (mi_iload dX9_doDeed_184 rfl) ?_
              refine Sg.go (pc' := 188) (mi_aload dX9_doDeed_186 rfl) ?_
              refine Sg.go (pc' := 191) (mi_gfI (r := 7) (k := 5) dX9_doDeed_188 hC_7 (by decide) rfl wF_X9_138 (by omega) rfl) ?_
              refine Sg.go (pc' := 192) (mi_iadd dX9_doDeed_191) ?_
              refine Sg.go (pc' := 194) (mi_aload dX9_doDeed_192 rfl) ?_
              refine Sg.ck (fun hk21 => ?_)
              refine Sg.go (pc' := 197) (mi_gfI (r := 6) (k := 1) dX9_doDeed_194 hC_6 (by decide) rfl wF_X9_240 (by omega) rfl) ?_
              refine Sg.goB (pc' := 200) (mi_minS dX9_doDeed_197 wL_X9_243 wT_min wB_Math wC_min (by decide) (Nat.le_of_ble_eq_true rfl)) ?_
              refine Sg.go (pc' := 205) (mi_goto (tgt := 205) dX9_doDeed_200 (by decide)) ?_
              refine Sg.go (pc' := 205) (MiStep.weak (ls' := [mi_un, mi_un, mi_un, mi_un, mi_un, mi_un, mi_un]) (mi_wk_n (mi_wk_n (mi_wk_n (mi_wk_n (mi_wk_n (mi_wk_n (mi_wk_n mi_wk_0)))))))) ?_
              exact S_X9_doDeed_205 hL v3 v2 (mi_min (mi_w (v5 + (D 7 s0 5))) (D 6 v4 1)) D
          · refine Sg.ite (fun h22 => ?_) (fun h22 => ?_)
            · refine Sg.go (pc' := 208) (mi_tabIn (tgt := 208) dX9_doDeed_78 (by omega) (by omega) (by rw [h22]; rfl) (by decide)) ?_
              refine Sg.go (pc' := 208) (MiStep.weak (ls' := [mi_un, mi_un, (0, v2), (6, v3), mi_un, (0, v5), (9, s0)]) (mi_wk_n (mi_wk_n (mi_wk_y (mi_wk_y (mi_wk_n (mi_wk_y (mi_wk_y mi_wk_0)))))))) ?_
              exact S_X9_doDeed_208 hL v2 v3 v5 s0 D
            · refine Sg.ite (fun h23 => ?_) (fun h23 => ?_)
              · refine Sg.go (pc' := 208) (mi_tabIn (tgt := 208) dX9_doDeed_78 (by omega) (by omega) (by rw [h23]; rfl) (by decide)) ?_
                refine Sg.go (pc' := 208) (MiStep.weak (ls' := [mi_un, mi_un, (0, v2), (6, v3), mi_un, (0, v5), (9, s0)]) (mi_wk_n (mi_wk_n (mi_wk_y (mi_wk_y (mi_wk_n (mi_wk_y (mi_wk_y mi_wk_0)))))))) ?_
                exact S_X9_doDeed_208 hL v2 v3 v5 s0 D
              · refine Sg.ite (fun h24 => ?_) (fun h24 => ?_)
                · refine Sg.go (pc' := 240) (mi_tabIn (tgt := 240) dX9_doDeed_78 (by omega) (by omega) (by rw [h24]; rfl) (by decide)) ?_
                  refine Sg.go (pc' := 241) (mi_aload_n dX9_doDeed_240 rfl) ?_
                  refine Sg.ck (fun hk25 => ?_)
                  refine Sg.go (pc' := 244) (mi_gfA (t := 21) (v := v3) (r := 4) (k := 2) dX9_doDeed_241 hC_4 (by decide) rfl wF_X9_227 (by omega) rfl (hL.2.2.2.2.1 _ 2 (by omega) (by omega) (by decide))) ?_
                  refine Sg.go (pc' := 245) (mi_iload_n dX9_doDeed_244 rfl) ?_
                  refine Sg.go (pc' := 247) (mi_iload dX9_doDeed_245 rfl) ?_
                  refine Sg.ck (fun hk26 => ?_)
                  refine Sg.goM (pc' := 248) (mi_iast (n := 10) dX9_doDeed_247 rfl rfl (by omega) hk26) ?_
                  refine Sg.letD (fun D27 hD27 => ?_)
                  refine Sg.go (pc' := 249) (mi_aload_n dX9_doDeed_248 rfl) ?_
                  refine Sg.go (pc' := 251) (mi_aload dX9_doDeed_249 rfl) ?_
                  refine Sg.go (pc' := 254) (mi_gfI (r := 7) (k := 5) dX9_doDeed_251 hC_7 (by decide) rfl wF_X9_138 (by omega) rfl) ?_
                  refine Sg.go (pc' := 255) (mi_aload_n dX9_doDeed_254 rfl) ?_
                  refine Sg.go (pc' := 256) (mi_iload_n dX9_doDeed_255 rfl) ?_
                  refine Sg.go (pc' := 258) (mi_aload dX9_doDeed_256 rfl) ?_
                  refine Sg.go (pc' := 261) (mi_gfI (r := 7) (k := 5) dX9_doDeed_258 hC_7 (by decide) rfl wF_X9_138 (by omega) rfl) ?_
                  refine Sg.callI (pc' := 264) (t := 0) (μ' := m_X9_callee) (args := [(4, v0), (0, v1), (0, (D27 7 s0 5))]) (mi_invV (n := 2) (r := 2) dX9_doDeed_261 hC_2 (by omega) rfl rfl wN_X9_callee rfl ⟨by decide, by decide⟩ wL_X9_181 wI_X9_callee wS_X9_callee wB_X9 wC_X9_callee) (fun v hv => C_X9_callee hL v0 v1 (D27 7 s0 5) D27 (by omega) v hv) (Nat.le_of_ble_eq_true rfl) rfl rfl (fun y28 => ?_)
                  refine Sg.callD (pc' := 267) (t := 0) (μ' := m_X7_push) (args := [(6, v3), (0, (D27 7 s0 5)), (0, y28)]) (mi_invV (n := 2) (r := 4) dX9_doDeed_264 hC_4 (by omega) rfl rfl wN_X7_push rfl ⟨by decide, by decide⟩ wL_X9_187 wI_X7_push wS_X7_push wB_X7 wC_X7_push) (fun v hv => C_X7_push hL v3 (D27 7 s0 5) y28 D27 (by omega) v hv) (Nat.le_of_ble_eq_true rfl) rfl rfl (fun y29 D30 => ?_)
                  refine Sg.ite (fun h31 => ?_) (fun h31 => ?_)
                  · refine Sg.go (pc' := 274) (mi_ifeq_t (tgt := 274) dX9_doDeed_267 (by decide) h31) ?_
                    refine Sg.go (pc' := 275) (mi_iconst (z := 3) dX9_doDeed_274 rfl) ?_
                    exact Sg.ret (mi_ireturn dX9_doDeed_275 rfl (Or.inl rfl))
                  · refine Sg.go (pc' := 270) (mi_ifeq_f (tgt := 274) dX9_doDeed_267 (by decide) h31) ?_
                    refine Sg.go (pc' := 271) (mi_iconst (z := 0) dX9_doDeed_270 rfl) ?_
                    refine Sg.go (pc' := 275) (mi_goto (tgt := 275) dX9_doDeed_271 (by decide)) ?_
                    exact Sg.ret (mi_ireturn dX9_doDeed_275 rfl (Or.inl rfl))
                · refine Sg.go (pc' := 276) (mi_tabOut (tgt := 276) dX9_doDeed_78 (by omega) (by decide)) ?_
                  refine Sg.go (pc' := 277) (mi_aload_n dX9_doDeed_276 rfl) ?_
                  refine Sg.ck (fun hk32 => ?_)
                  refine Sg.go (pc' := 280) (mi_gfA (t := 21) (v := v3) (r := 4) (k := 2) dX9_doDeed_277 hC_4 (by decide) rfl wF_X9_227 (by omega) rfl (hL.2.2.2.2.1 _ 2 (by omega) (by omega) (by decide))) ?_
                  refine Sg.go (pc' := 281) (mi_iload_n dX9_doDeed_280 rfl) ?_
                  refine Sg.go (pc' := 283) (mi_iload dX9_doDeed_281 rfl) ?_
                  refine Sg.ck (fun hk33 => ?_)
                  refine Sg.goM (pc' := 284) (mi_iast (n := 10) dX9_doDeed_283 rfl rfl (by omega) hk33) ?_
                  refine Sg.letD (fun D34 hD34 => ?_)
                  refine Sg.go (pc' := 285) (mi_aload_n dX9_doDeed_284 rfl) ?_
                  refine Sg.go (pc' := 287) (mi_aload dX9_doDeed_285 rfl) ?_
                  refine Sg.go (pc' := 288) (mi_aload_n dX9_doDeed_287 rfl) ?_
                  refine Sg.go (pc' := 291) (mi_gfA (t := 5) (v := (v3 + 1 + v3 / 6)) (r := 4) (k := 7) dX9_doDeed_288 hC_4 (by decide) rfl wF_X9_184 (by omega) rfl (hL.2.2.2.2.2.1 _ (by omega) (by omega))) ?_
                  refine Sg.callD (pc' := 294) (t := 0) (μ' := m_X9_doOnData) (args := [(4, v0), (9, s0), (7, (v3 + 1 + v3 / 6))]) (mi_invV (n := 2) (r := 2) dX9_doDeed_291 hC_2 (by omega) rfl rfl wN_X9_doOnData rfl ⟨by decide, by decide⟩ wL_X9_254 wI_X9_doOnData wS_X9_doOnData wB_X9 wC_X9_doOnData) (fun v hv => C_X9_doOnData hL v0 s0 (v3 + 1 + v3 / 6) D34 (by omega) (by omega) (by omega) v hv) (Nat.le_of_ble_eq_true rfl) rfl rfl (fun y35 D36 => ?_)
                  exact Sg.ret (mi_ireturn dX9_doDeed_294 rfl (Or.inl rfl))
def B_X9_doDeed (Z : MiZ) (v0 : Int) (v1 : Int) (v2 : Int) (D : MiD) : Option (Int × MiD) := if 0 ≤ v1 ∧ v1 < 6 then (if 0 ≤ v2 ∧ v2 < 10 then (mi_bi (B_X9_codeOf D Z v0 (D 19 (6 * v0 + v1) v2) (D 20 (6 * v0 + v1) v2)) fun y3 => mi_let (mi_w ((D 21 (6 * v0 + v1) v2) + 1)) fun x4 => if y3 < 0 then (B_X9_doDeed_53 Z v0 v1 v2 (6 * v0 + v1) y3 x4 (-1) D) else (if 0 ≤ y3 then (mi_bi (B_X1_deedAt D Z y3 (mi_w (x4 - 1))) fun y7 => B_X9_doDeed_53 Z v0 v1 v2 (6 * v0 + v1) y3 x4 y7 D) else none)) else none) else none
set_option maxRecDepth 20000 in
theorem S_X9_doDeed {Z : MiZ} (hL : CL Z) (v0 v1 v2 : Int) (D : MiD) : (0 ≤ v0 ∧ v0 < 2) → Sg m_X9_doDeed 0 [(4, v0), (0, v1), (0, v2), mi_un, mi_un, mi_un, mi_un] [] (D, Z) (mi_LD 0 Z) (B_X9_doDeed Z v0 v1 v2 D) := by
  intro hb0
  unfold B_X9_doDeed
  refine Sg.go (pc' := 1) (mi_aload_n dX9_doDeed_0 rfl) ?_
  refine Sg.go (pc' := 4) (mi_gfA (t := 14) (v := v0) (r := 2) (k := 3) dX9_doDeed_1 hC_2 (by decide) rfl wF_X9_31 (by omega) rfl (hL.2.1 _ 3 (by omega) (by omega) (by decide))) ?_
  refine Sg.go (pc' := 5) (mi_iload_n dX9_doDeed_4 rfl) ?_
  refine Sg.ck (fun hk1 => ?_)
  refine Sg.go (pc' := 6) (mi_aald (n := 6) (t := 4) (v := (6 * v0 + v1)) dX9_doDeed_5 rfl hA_14 rfl (by omega) hk1 rfl (hL.2.2.2.2.2.2.2 _ _ (by omega) (by omega) hk1.1 hk1.2)) ?_
  refine Sg.go (pc' := 7) (mi_astore_n (ls1 := [(4, v0), (0, v1), (0, v2), (6, (6 * v0 + v1)), mi_un, mi_un, mi_un]) dX9_doDeed_6 (by decide) rfl) ?_
  refine Sg.go (pc' := 8) (mi_aload_n dX9_doDeed_7 rfl) ?_
  refine Sg.go (pc' := 9) (mi_aload_n dX9_doDeed_8 rfl) ?_
  refine Sg.go (pc' := 12) (mi_gfA (t := 19) (v := (6 * v0 + v1)) (r := 4) (k := 0) dX9_doDeed_9 hC_4 (by decide) rfl wF_X9_219 (by omega) rfl (hL.2.2.2.2.1 _ 0 (by omega) (by omega) (by decide))) ?_
  refine Sg.go (pc' := 13) (mi_iload_n dX9_doDeed_12 rfl) ?_
  refine Sg.ck (fun hk2 => ?_)
  refine Sg.go (pc' := 14) (mi_iald (n := 10) dX9_doDeed_13 rfl rfl (by omega) hk2) ?_
  refine Sg.go (pc' := 15) (mi_aload_n dX9_doDeed_14 rfl) ?_
  refine Sg.go (pc' := 18) (mi_gfA (t := 20) (v := (6 * v0 + v1)) (r := 4) (k := 1) dX9_doDeed_15 hC_4 (by decide) rfl wF_X9_221 (by omega) rfl (hL.2.2.2.2.1 _ 1 (by omega) (by omega) (by decide))) ?_
  refine Sg.go (pc' := 19) (mi_iload_n dX9_doDeed_18 rfl) ?_
  refine Sg.go (pc' := 20) (mi_iald (n := 10) dX9_doDeed_19 rfl rfl (by omega) hk2) ?_
  refine Sg.callI (pc' := 23) (t := 8) (μ' := m_X9_codeOf) (args := [(4, v0), (0, (D 19 (6 * v0 + v1) v2)), (0, (D 20 (6 * v0 + v1) v2))]) (mi_invV (n := 2) (r := 2) dX9_doDeed_20 hC_2 (by omega) rfl rfl wN_X9_codeOf rfl ⟨by decide, by decide⟩ wL_X9_223 wI_X9_codeOf wS_X9_codeOf wB_X9 wC_X9_codeOf) (fun v hv => C_X9_codeOf hL v0 (D 19 (6 * v0 + v1) v2) (D 20 (6 * v0 + v1) v2) D (by omega) v hv) (Nat.le_of_ble_eq_true rfl) rfl rfl (fun y3 => ?_)
  refine Sg.go (pc' := 25) (mi_astore (ls1 := [(4, v0), (0, v1), (0, v2), (6, (6 * v0 + v1)), (8, y3), mi_un, mi_un]) dX9_doDeed_23 (by decide) rfl) ?_
  refine Sg.go (pc' := 26) (mi_aload_n dX9_doDeed_25 rfl) ?_
  refine Sg.go (pc' := 29) (mi_gfA (t := 21) (v := (6 * v0 + v1)) (r := 4) (k := 2) dX9_doDeed_26 hC_4 (by decide) rfl wF_X9_227 (by omega) rfl (hL.2.2.2.2.1 _ 2 (by omega) (by omega) (by decide))) ?_
  refine Sg.go (pc' := 30) (mi_iload_n dX9_doDeed_29 rfl) ?_
  refine Sg.go (pc' := 31) (mi_iald (n := 10) dX9_doDeed_30 rfl rfl (by omega) hk2) ?_
  refine Sg.go (pc' := 32) (mi_iconst (z := 1) dX9_doDeed_31 rfl) ?_
  refine Sg.go (pc' := 33) (mi_iadd dX9_doDeed_32) ?_
  refine Sg.letI (fun x4 hx4 => ?_)
  refine Sg.go (pc' := 35) (mi_istore (ls1 := [(4, v0), (0, v1), (0, v2), (6, (6 * v0 + v1)), (8, y3), (0, x4), mi_un]) dX9_doDeed_33 (by decide) rfl) ?_
  refine Sg.go (pc' := 37) (mi_aload dX9_doDeed_35 rfl) ?_
  refine Sg.ite (fun h5 => ?_) (fun h5 => ?_)
  · refine Sg.go (pc' := 40) (mi_ifnonnull_f (tgt := 44) dX9_doDeed_37 (by decide) h5) ?_
    refine Sg.go (pc' := 41) (mi_null (r := 7) dX9_doDeed_40) ?_
    refine Sg.go (pc' := 53) (mi_goto (tgt := 53) dX9_doDeed_41 (by decide)) ?_
    exact S_X9_doDeed_53 hL v0 v1 v2 (6 * v0 + v1) y3 x4 (-1) D hb0
  · refine Sg.go (pc' := 44) (mi_ifnonnull_t (tgt := 44) dX9_doDeed_37 (by decide) h5) ?_
    refine Sg.go (pc' := 46) (mi_aload dX9_doDeed_44 rfl) ?_
    refine Sg.go (pc' := 48) (mi_iload dX9_doDeed_46 rfl) ?_
    refine Sg.go (pc' := 49) (mi_iconst (z := 1) dX9_doDeed_48 rfl) ?_
    refine Sg.go (pc' := 50) (mi_isub dX9_doDeed_49) ?_
    refine Sg.ck (fun hk6 => ?_)
    refine Sg.callI (pc' := 53) (t := 9) (μ' := m_X1_deedAt) (args := [(8, y3), (0, (mi_w (x4 - 1)))]) (mi_invV (n := 1) (r := 6) dX9_doDeed_50 hC_6 (by omega) rfl rfl wN_X1_deedAt rfl ⟨by decide, by decide⟩ wL_X9_229 wI_X1_deedAt wS_X1_deedAt wB_X1 wC_X1_deedAt) (fun v hv => C_X1_deedAt hL y3 (mi_w (x4 - 1)) D (by omega) v hv) (Nat.le_of_ble_eq_true rfl) rfl rfl (fun y7 => ?_)
    exact S_X9_doDeed_53 hL v0 v1 v2 (6 * v0 + v1) y3 x4 y7 D hb0
theorem C_X9_doDeed {Z : MiZ} (hL : CL Z) (a0 a1 a2 : Int) (D : MiD) (h0 : (0 ≤ a0 ∧ a0 < 2)) (b : Int × MiD) (hb : B_X9_doDeed Z a0 a1 a2 D = some b) : MC m_X9_doDeed [(4, a0), (0, a1), (0, a2)] (D, Z) ((mi_LD 0 Z) b) := MC.ofSg (L := (mi_LD 0 Z)) (μ := m_X9_doDeed) (args := [(4, a0), (0, a1), (0, a2)]) (M := (D, Z)) rfl wP_X9 (Nat.le_of_ble_eq_true rfl) (show Sg m_X9_doDeed 0 [(4, a0), (0, a1), (0, a2), mi_un, mi_un, mi_un, mi_un] [] (D, Z) (mi_LD 0 Z) (B_X9_doDeed Z a0 a1 a2 D) from S_X9_doDeed hL a0 a1 a2 D h0) hb
abbrev m_X9_perform : MiI := (yX9_perform, cX9_perform, 5, none, 5, none)
def B_X9_perform_71 (Z : MiZ) (k13 : Int → Int → Int → Int → MiD → Option (MiD)) (v0 : Int) (v1 : Int) (v2 : Int) (v3 : Int) (v4 : Int) (D : MiD) : Option (MiD) := if 0 ≤ v4 then (if 0 ≤ v2 ∧ v2 < 14 then (mi_b2 (B_X9_doOnData Z v0 v4 v2 D) fun y3 D4 => if y3 = 0 then (k13 v0 v1 v2 (mi_w (v3 + 1)) D4) else (mi_let (mi_st D4 2 v0 13 (mi_w ((D4 2 v0 13) + 1))) fun D6 => k13 v0 v1 v2 (mi_w (v3 + 1)) D6)) else none) else none
set_option maxRecDepth 20000 in
theorem S_X9_perform_71 {Z : MiZ} (hL : CL Z) {k13 : Int → Int → Int → Int → MiD → Option (MiD)} (K13 : ∀ (v0 v1 v2 v3 : Int) (D : MiD), (0 ≤ v0 ∧ v0 < 2) → 0 ≤ v1 → Sg m_X9_perform 13 [(4, v0), (8, v1), (7, v2), (0, v3), mi_un] [] (D, Z) (mi_LV Z) (k13 v0 v1 v2 v3 D)) (v0 v1 v2 v3 v4 : Int) (D : MiD) : (0 ≤ v0 ∧ v0 < 2) → 0 ≤ v1 → Sg m_X9_perform 71 [(4, v0), (8, v1), (7, v2), (0, v3), (9, v4)] [] (D, Z) (mi_LV Z) (B_X9_perform_71 Z k13 v0 v1 v2 v3 v4 D) := by
  intro hb0 hb1
  unfold B_X9_perform_71
  refine Sg.go (pc' := 72) (mi_aload_n dX9_perform_71 rfl) ?_
  refine Sg.go (pc' := 74) (mi_aload dX9_perform_72 rfl) ?_
  refine Sg.go (pc' := 75) (mi_aload_n dX9_perform_74 rfl) ?_
  refine Sg.ck (fun hk1 => ?_)
  refine Sg.ck (fun hk2 => ?_)
  refine Sg.callD (pc' := 78) (t := 0) (μ' := m_X9_doOnData) (args := [(4, v0), (9, v4), (7, v2)]) (mi_invV (n := 2) (r := 2) dX9_perform_75 hC_2 (by omega) rfl rfl wN_X9_doOnData rfl ⟨by decide, by decide⟩ wL_X9_254 wI_X9_doOnData wS_X9_doOnData wB_X9 wC_X9_doOnData) (fun v hv => C_X9_doOnData hL v0 v4 v2 D (by omega) (by omega) (by omega) v hv) (Nat.le_of_ble_eq_true rfl) rfl rfl (fun y3 D4 => ?_)
  refine Sg.ite (fun h5 => ?_) (fun h5 => ?_)
  · refine Sg.go (pc' := 91) (mi_ifeq_t (tgt := 91) dX9_perform_78 (by decide) h5) ?_
    refine Sg.go (pc' := 94) (mi_iinc (z := 1) (ls1 := [(4, v0), (8, v1), (7, v2), (0, (mi_w (v3 + 1))), (9, v4)]) dX9_perform_91 (by decide) rfl rfl rfl) ?_
    refine Sg.go (pc' := 13) (mi_goto (tgt := 13) dX9_perform_94 (by decide)) ?_
    refine Sg.go (pc' := 13) (MiStep.weak (ls' := [(4, v0), (8, v1), (7, v2), (0, (mi_w (v3 + 1))), mi_un]) (mi_wk_y (mi_wk_y (mi_wk_y (mi_wk_y (mi_wk_n mi_wk_0)))))) ?_
    exact K13 v0 v1 v2 (mi_w (v3 + 1)) D4 hb0 hb1
  · refine Sg.go (pc' := 81) (mi_ifeq_f (tgt := 91) dX9_perform_78 (by decide) h5) ?_
    refine Sg.go (pc' := 82) (mi_aload_n dX9_perform_81 rfl) ?_
    refine Sg.go (pc' := 83) (mi_dup dX9_perform_82 (show (4 : Nat) ≠ 1 by decide)) ?_
    refine Sg.go (pc' := 86) (mi_gfI (r := 2) (k := 13) dX9_perform_83 hC_2 (by decide) rfl wF_X9_85 (by omega) rfl) ?_
    refine Sg.go (pc' := 87) (mi_iconst (z := 1) dX9_perform_86 rfl) ?_
    refine Sg.go (pc' := 88) (mi_iadd dX9_perform_87) ?_
    refine Sg.goM (pc' := 91) (mi_pfD (r := 2) (k := 13) (t := 0) dX9_perform_88 hC_2 (by decide) rfl rfl wF_X9_85 (by omega) rfl (by decide) (Or.inl ⟨rfl, rfl⟩)) ?_
    refine Sg.letD (fun D6 hD6 => ?_)
    refine Sg.go (pc' := 94) (mi_iinc (z := 1) (ls1 := [(4, v0), (8, v1), (7, v2), (0, (mi_w (v3 + 1))), (9, v4)]) dX9_perform_91 (by decide) rfl rfl rfl) ?_
    refine Sg.go (pc' := 13) (mi_goto (tgt := 13) dX9_perform_94 (by decide)) ?_
    refine Sg.go (pc' := 13) (MiStep.weak (ls' := [(4, v0), (8, v1), (7, v2), (0, (mi_w (v3 + 1))), mi_un]) (mi_wk_y (mi_wk_y (mi_wk_y (mi_wk_y (mi_wk_n mi_wk_0)))))) ?_
    exact K13 v0 v1 v2 (mi_w (v3 + 1)) D6 hb0 hb1
def B_X9_perform_13 (Z : MiZ) : Nat → Int → Int → Int → Int → MiD → Option (MiD)
  | 0, _, _, _, _, _ => none
  | f + 1, v0, v1, v2, v3, D => if (D 6 v1 1) ≤ v3 then (some D) else (mi_bi (B_X1_deedAt D Z v1 v3) fun y2 => if y2 < 0 then (some D) else (if 0 ≤ y2 then (if 0 ≤ (Z.1 7 y2 0) ∧ (Z.1 7 y2 0) < 19 then (if (Z.1 7 y2 0) = 1 then (some D) else (if (Z.1 7 y2 0) = 4 then (if 0 ≤ v2 ∧ v2 < 14 then (mi_bi (B_X8_isNothing D v2) fun y9 => if y9 = 0 then (B_X9_perform_71 Z (B_X9_perform_13 Z f) v0 v1 v2 v3 y2 D) else (mi_let (mi_w (v3 + (D 7 y2 5))) fun x11 => B_X9_perform_71 Z (B_X9_perform_13 Z f) v0 v1 v2 x11 y2 D)) else none) else (B_X9_perform_71 Z (B_X9_perform_13 Z f) v0 v1 v2 v3 y2 D))) else none) else none))
set_option maxRecDepth 20000 in
theorem S_X9_perform_13 {Z : MiZ} (hL : CL Z) : ∀ (f : Nat) (v0 v1 v2 v3 : Int) (D : MiD), (0 ≤ v0 ∧ v0 < 2) → 0 ≤ v1 → Sg m_X9_perform 13 [(4, v0), (8, v1), (7, v2), (0, v3), mi_un] [] (D, Z) (mi_LV Z) (B_X9_perform_13 Z f v0 v1 v2 v3 D) := by
  intro f
  induction f with
  | zero => intros; exact Sg.nope
  | succ f K13 =>
    intro v0 v1 v2 v3 D hb0 hb1
    show Sg m_X9_perform 13 [(4, v0), (8, v1), (7, v2), (0, v3), mi_un] [] (D, Z) (mi_LV Z) (if (D 6 v1 1) ≤ v3 then (some D) else (mi_bi (B_X1_deedAt D Z v1 v3) fun y2 => if y2 < 0 then (some D) else (if 0 ≤ y2 then (if 0 ≤ (Z.1 7 y2 0) ∧ (Z.1 7 y2 0) < 19 then (if (Z.1 7 y2 0) = 1 then (some D) else (if (Z.1 7 y2 0) = 4 then (if 0 ≤ v2 ∧ v2 < 14 then (mi_bi (B_X8_isNothing D v2) fun y9 => if y9 = 0 then (B_X9_perform_71 Z (B_X9_perform_13 Z f) v0 v1 v2 v3 y2 D) else (mi_let (mi_w (v3 + (D 7 y2 5))) fun x11 => B_X9_perform_71 Z (B_X9_perform_13 Z f) v0 v1 v2 x11 y2 D)) else none) else (B_X9_perform_71 Z (B_X9_perform_13 Z f) v0 v1 v2 v3 y2 D))) else none) else none)))
    refine Sg.go (pc' := 14) (mi_iload_n dX9_perform_13 rfl) ?_
    refine Sg.go (pc' := 15) (mi_aload_n dX9_perform_14 rfl) ?_
    refine Sg.go (pc' := 18) (mi_gfI (r := 6) (k := 1) dX9_perform_15 hC_6 (by decide) rfl wF_X9_240 (by omega) rfl) ?_
    refine Sg.ite (fun h1 => ?_) (fun h1 => ?_)
    · refine Sg.go (pc' := 97) (mi_icmpge_t (tgt := 97) dX9_perform_18 (by decide) h1) ?_
      exact Sg.ret (mi_return dX9_perform_97 rfl (0, 0))
    · refine Sg.go (pc' := 21) (mi_icmpge_f (tgt := 97) dX9_perform_18 (by decide) h1) ?_
      refine Sg.go (pc' := 22) (mi_aload_n dX9_perform_21 rfl) ?_
      refine Sg.go (pc' := 23) (mi_iload_n dX9_perform_22 rfl) ?_
      refine Sg.callI (pc' := 26) (t := 9) (μ' := m_X1_deedAt) (args := [(8, v1), (0, v3)]) (mi_invV (n := 1) (r := 6) dX9_perform_23 hC_6 (by omega) rfl rfl wN_X1_deedAt rfl ⟨by decide, by decide⟩ wL_X9_229 wI_X1_deedAt wS_X1_deedAt wB_X1 wC_X1_deedAt) (fun v hv => C_X1_deedAt hL v1 v3 D (by omega) v hv) (Nat.le_of_ble_eq_true rfl) rfl rfl (fun y2 => ?_)
      refine Sg.go (pc' := 28) (mi_astore (ls1 := [(4, v0), (8, v1), (7, v2), (0, v3), (9, y2)]) dX9_perform_26 (by decide) rfl) ?_
      refine Sg.go (pc' := 30) (mi_aload dX9_perform_28 rfl) ?_
      refine Sg.ite (fun h3 => ?_) (fun h3 => ?_)
      · refine Sg.go (pc' := 44) (mi_ifnull_t (tgt := 44) dX9_perform_30 (by decide) h3) ?_
        exact Sg.ret (mi_return dX9_perform_44 rfl (0, 0))
      · refine Sg.go (pc' := 33) (mi_ifnull_f (tgt := 44) dX9_perform_30 (by decide) h3) ?_
        refine Sg.go (pc' := 35) (mi_aload dX9_perform_33 rfl) ?_
        refine Sg.ck (fun hk4 => ?_)
        refine Sg.go (pc' := 38) (mi_gfA (t := 26) (v := (Z.1 7 y2 0)) (r := 7) (k := 0) dX9_perform_35 hC_7 (by decide) rfl wF_X9_128 (by omega) rfl rfl) ?_
        refine Sg.go (pc' := 41) (mi_gs (r := 26) (j := 1) (z := 1) dX9_perform_38 (mi_zEn 1 (by decide) rfl) wF_X9_261 (by decide) rfl (by decide)) ?_
        refine Sg.ck (fun hk6 => ?_)
        refine mi_acN (r := 26) (tgt := 45) dX9_perform_41 (by decide) (by omega) (by omega) mi_jOp (by decide) (fun h5 => ?_) (fun h5 => ?_)
        · exact Sg.ret (mi_return dX9_perform_44 rfl (0, 0))
        · refine Sg.go (pc' := 47) (mi_aload dX9_perform_45 rfl) ?_
          refine Sg.go (pc' := 50) (mi_gfA (t := 26) (v := (Z.1 7 y2 0)) (r := 7) (k := 0) dX9_perform_47 hC_7 (by decide) rfl wF_X9_128 (by omega) rfl rfl) ?_
          refine Sg.go (pc' := 53) (mi_gs (r := 26) (j := 4) (z := 4) dX9_perform_50 (mi_zEn 4 (by decide) rfl) wF_X9_264 (by decide) rfl (by decide)) ?_
          refine mi_acN (r := 26) (tgt := 71) dX9_perform_53 (by decide) (by omega) (by omega) mi_jOp (by decide) (fun h7 => ?_) (fun h7 => ?_)
          · refine Sg.go (pc' := 57) (mi_aload_n dX9_perform_56 rfl) ?_
            refine Sg.ck (fun hk8 => ?_)
            refine Sg.callI (pc' := 60) (t := 0) (μ' := m_X8_isNothing) (args := [(7, v2)]) (mi_invV (n := 0) (r := 5) dX9_perform_57 hC_5 (by omega) rfl rfl wN_X8_isNothing rfl ⟨by decide, by decide⟩ wL_X9_236 wI_X8_isNothing wS_X8_isNothing wB_X8 wC_X8_isNothing) (fun v hv => C_X8_isNothing hL v2 D (by omega) v hv) (Nat.le_of_ble_eq_true rfl) rfl rfl (fun y9 => ?_)
            refine Sg.ite (fun h10 => ?_) (fun h10 => ?_)
            · refine Sg.go (pc' := 71) (mi_ifeq_t (tgt := 71) dX9_perform_60 (by decide) h10) ?_
              exact S_X9_perform_71 hL K13 v0 v1 v2 v3 y2 D hb0 hb1
            · refine Sg.go (pc' := 63) (mi_ifeq_f (tgt := 71) dX9_perform_60 (by decide) h10) ?_
              refine Sg.go (pc' := 64) (mi_iload_n dX9_perform_63 rfl) ?_
              refine Sg.go (pc' := 66) (mi_aload dX9_perform_64 rfl) ?_
              refine Sg.go (pc' := 69) (mi_gfI (r := 7) (k := 5) dX9_perform_66 hC_7 (by decide) rfl wF_X9_138 (by omega) rfl) ?_
              refine Sg.go (pc' := 70) (mi_iadd dX9_perform_69) ?_
              refine Sg.letI (fun x11 hx11 => ?_)
              refine Sg.go (pc' := 71) (mi_istore_n (ls1 := [(4, v0), (8, v1), (7, v2), (0, x11), (9, y2)]) dX9_perform_70 (by decide) rfl) ?_
              exact S_X9_perform_71 hL K13 v0 v1 v2 x11 y2 D hb0 hb1
          · exact S_X9_perform_71 hL K13 v0 v1 v2 v3 y2 D hb0 hb1
def B_X9_perform (Z : MiZ) (v0 : Int) (v1 : Int) (D : MiD) : Option (MiD) := mi_bi (B_X8_be (7 * v0) (-1) 0 D) fun D1 => B_X9_perform_13 Z mi_fuel v0 v1 (7 * v0) 0 D1
set_option maxRecDepth 20000 in
theorem S_X9_perform {Z : MiZ} (hL : CL Z) (v0 v1 : Int) (D : MiD) : (0 ≤ v0 ∧ v0 < 2) → 0 ≤ v1 → Sg m_X9_perform 0 [(4, v0), (8, v1), mi_un, mi_un, mi_un] [] (D, Z) (mi_LV Z) (B_X9_perform Z v0 v1 D) := by
  intro hb0 hb1
  unfold B_X9_perform
  refine Sg.go (pc' := 1) (mi_aload_n dX9_perform_0 rfl) ?_
  refine Sg.go (pc' := 4) (mi_gfA (t := 5) (v := (7 * v0)) (r := 2) (k := 6) dX9_perform_1 hC_2 (by decide) rfl wF_X9_45 (by omega) rfl (hL.2.2.1 _ (by omega) (by omega))) ?_
  refine Sg.go (pc' := 5) (mi_astore_n (ls1 := [(4, v0), (8, v1), (7, (7 * v0)), mi_un, mi_un]) dX9_perform_4 (by decide) rfl) ?_
  refine Sg.go (pc' := 6) (mi_aload_n dX9_perform_5 rfl) ?_
  refine Sg.go (pc' := 7) (mi_iconst (z := (-1)) dX9_perform_6 rfl) ?_
  refine Sg.go (pc' := 8) (mi_lconst (z := 0) dX9_perform_7 rfl) ?_
  refine Sg.callV (pc' := 11) (μ' := m_X8_be) (args := [(7, (7 * v0)), (0, (-1)), (1, 0)]) (mi_invV (n := 2) (r := 5) dX9_perform_8 hC_5 (by omega) rfl rfl wN_X8_be rfl ⟨by decide, by decide⟩ wL_X9_145 wI_X8_be wS_X8_be wB_X8 wC_X8_be) (fun v hv => C_X8_be hL (7 * v0) (-1) 0 D (by omega) v hv) (Nat.le_of_ble_eq_true rfl) rfl rfl (fun D1 => ?_)
  refine Sg.go (pc' := 12) (mi_iconst (z := 0) dX9_perform_11 rfl) ?_
  refine Sg.go (pc' := 13) (mi_istore_n (ls1 := [(4, v0), (8, v1), (7, (7 * v0)), (0, 0), mi_un]) dX9_perform_12 (by decide) rfl) ?_
  exact S_X9_perform_13 hL mi_fuel v0 v1 (7 * v0) 0 D1 hb0 hb1
theorem C_X9_perform {Z : MiZ} (hL : CL Z) (a0 a1 : Int) (D : MiD) (h0 : (0 ≤ a0 ∧ a0 < 2)) (h1 : 0 ≤ a1) (b : MiD) (hb : B_X9_perform Z a0 a1 D = some b) : MC m_X9_perform [(4, a0), (8, a1)] (D, Z) ((mi_LV Z) b) := MC.ofSg (L := (mi_LV Z)) (μ := m_X9_perform) (args := [(4, a0), (8, a1)]) (M := (D, Z)) rfl wP_X9 (Nat.le_of_ble_eq_true rfl) (show Sg m_X9_perform 0 [(4, a0), (8, a1), mi_un, mi_un, mi_un] [] (D, Z) (mi_LV Z) (B_X9_perform Z a0 a1 D) from S_X9_perform hL a0 a1 D h0 h1) hb
def B_X10_needArgument (v1 : Int) (D : MiD) : Option (MiD ⊕ (Nat × MiD)) := if v1 ≠ 0 then (some (.inl D)) else (mi_let (mi_st D 1 0 7 (mi_w ((D 1 0 7) + 1))) fun D2 => some (.inr (1, mi_xc D2)))
set_option maxRecDepth 20000 in
theorem S_X10_needArgument {Z : MiZ} (hL : CL Z) (v1 : Int) (D : MiD) : (v1 = 0 ∨ v1 = 1) → Sg m_X10_needArgument 0 [(3, 0), (0, v1)] [] (D, Z) (mi_LN Z) (B_X10_needArgument v1 D) := by
  intro hb1
  unfold B_X10_needArgument
  refine Sg.go (pc' := 1) (mi_iload_n dX10_needArgument_0 rfl) ?_
  refine Sg.ite (fun h1 => ?_) (fun h1 => ?_)
  · refine Sg.go (pc' := 25) (mi_ifne_t (tgt := 25) dX10_needArgument_1 (by decide) h1) ?_
    exact Sg.ret (mi_return dX10_needArgument_25 rfl (0, 0))
  · refine Sg.go (pc' := 4) (mi_ifne_f (tgt := 25) dX10_needArgument_1 (by decide) h1) ?_
    refine Sg.go (pc' := 5) (mi_aload_n dX10_needArgument_4 rfl) ?_
    refine Sg.go (pc' := 6) (mi_dup dX10_needArgument_5 (show (3 : Nat) ≠ 1 by decide)) ?_
    refine Sg.go (pc' := 9) (mi_gfI (r := 1) (k := 7) dX10_needArgument_6 hC_1 (by decide) rfl wF_X10_307 (by omega) rfl) ?_
    refine Sg.go (pc' := 10) (mi_iconst (z := 1) dX10_needArgument_9 rfl) ?_
    refine Sg.go (pc' := 11) (mi_iadd dX10_needArgument_10) ?_
    refine Sg.goM (pc' := 14) (mi_pfD (r := 1) (k := 7) (t := 0) dX10_needArgument_11 hC_1 (by decide) rfl rfl wF_X10_307 (by omega) rfl (by decide) (Or.inl ⟨rfl, rfl⟩)) ?_
    refine Sg.letD (fun D2 hD2 => ?_)
    exact Sg.ret mi_xtA
theorem C_X10_needArgument {Z : MiZ} (hL : CL Z) (a1 : Int) (D : MiD) (h0 : (a1 = 0 ∨ a1 = 1)) (b : MiD ⊕ (Nat × MiD)) (hb : B_X10_needArgument a1 D = some b) : MC m_X10_needArgument [(3, 0), (0, a1)] (D, Z) ((mi_LN Z) b) := MC.ofSg (L := (mi_LN Z)) (μ := m_X10_needArgument) (args := [(3, 0), (0, a1)]) (M := (D, Z)) rfl wP_X10 (Nat.le_of_ble_eq_true rfl) (show Sg m_X10_needArgument 0 [(3, 0), (0, a1)] [] (D, Z) (mi_LN Z) (B_X10_needArgument a1 D) from S_X10_needArgument hL a1 D h0) hb
def B_X10_needElement (v1 : Int) (D : MiD) : Option (MiD ⊕ (Nat × MiD)) := if v1 ≠ 0 then (some (.inl D)) else (mi_let (mi_st D 1 0 6 (mi_w ((D 1 0 6) + 1))) fun D2 => some (.inr (0, mi_xc D2)))
set_option maxRecDepth 20000 in
theorem S_X10_needElement {Z : MiZ} (hL : CL Z) (v1 : Int) (D : MiD) : (v1 = 0 ∨ v1 = 1) → Sg m_X10_needElement 0 [(3, 0), (0, v1)] [] (D, Z) (mi_LN Z) (B_X10_needElement v1 D) := by
  intro hb1
  unfold B_X10_needElement
  refine Sg.go (pc' := 1) (mi_iload_n dX10_needElement_0 rfl) ?_
  refine Sg.ite (fun h1 => ?_) (fun h1 => ?_)
  · refine Sg.go (pc' := 25) (mi_ifne_t (tgt := 25) dX10_needElement_1 (by decide) h1) ?_
    exact Sg.ret (mi_return dX10_needElement_25 rfl (0, 0))
  · refine Sg.go (pc' := 4) (mi_ifne_f (tgt := 25) dX10_needElement_1 (by decide) h1) ?_
    refine Sg.go (pc' := 5) (mi_aload_n dX10_needElement_4 rfl) ?_
    refine Sg.go (pc' := 6) (mi_dup dX10_needElement_5 (show (3 : Nat) ≠ 1 by decide)) ?_
    refine Sg.go (pc' := 9) (mi_gfI (r := 1) (k := 6) dX10_needElement_6 hC_1 (by decide) rfl wF_X10_304 (by omega) rfl) ?_
    refine Sg.go (pc' := 10) (mi_iconst (z := 1) dX10_needElement_9 rfl) ?_
    refine Sg.go (pc' := 11) (mi_iadd dX10_needElement_10) ?_
    refine Sg.goM (pc' := 14) (mi_pfD (r := 1) (k := 6) (t := 0) dX10_needElement_11 hC_1 (by decide) rfl rfl wF_X10_304 (by omega) rfl (by decide) (Or.inl ⟨rfl, rfl⟩)) ?_
    refine Sg.letD (fun D2 hD2 => ?_)
    exact Sg.ret mi_xtE
theorem C_X10_needElement {Z : MiZ} (hL : CL Z) (a1 : Int) (D : MiD) (h0 : (a1 = 0 ∨ a1 = 1)) (b : MiD ⊕ (Nat × MiD)) (hb : B_X10_needElement a1 D = some b) : MC m_X10_needElement [(3, 0), (0, a1)] (D, Z) ((mi_LN Z) b) := MC.ofSg (L := (mi_LN Z)) (μ := m_X10_needElement) (args := [(3, 0), (0, a1)]) (M := (D, Z)) rfl wP_X10 (Nat.le_of_ble_eq_true rfl) (show Sg m_X10_needElement 0 [(3, 0), (0, a1)] [] (D, Z) (mi_LN Z) (B_X10_needElement a1 D) from S_X10_needElement hL a1 D h0) hb
def B_X10_needState (v1 : Int) (D : MiD) : Option (MiD ⊕ (Nat × MiD)) := if v1 ≠ 0 then (some (.inl D)) else (mi_let (mi_st D 1 0 8 (mi_w ((D 1 0 8) + 1))) fun D2 => some (.inr (2, mi_xc D2)))
set_option maxRecDepth 20000 in
theorem S_X10_needState {Z : MiZ} (hL : CL Z) (v1 : Int) (D : MiD) : (v1 = 0 ∨ v1 = 1) → Sg m_X10_needState 0 [(3, 0), (0, v1)] [] (D, Z) (mi_LN Z) (B_X10_needState v1 D) := by
  intro hb1
  unfold B_X10_needState
  refine Sg.go (pc' := 1) (mi_iload_n dX10_needState_0 rfl) ?_
  refine Sg.ite (fun h1 => ?_) (fun h1 => ?_)
  · refine Sg.go (pc' := 25) (mi_ifne_t (tgt := 25) dX10_needState_1 (by decide) h1) ?_
    exact Sg.ret (mi_return dX10_needState_25 rfl (0, 0))
  · refine Sg.go (pc' := 4) (mi_ifne_f (tgt := 25) dX10_needState_1 (by decide) h1) ?_
    refine Sg.go (pc' := 5) (mi_aload_n dX10_needState_4 rfl) ?_
    refine Sg.go (pc' := 6) (mi_dup dX10_needState_5 (show (3 : Nat) ≠ 1 by decide)) ?_
    refine Sg.go (pc' := 9) (mi_gfI (r := 1) (k := 8) dX10_needState_6 hC_1 (by decide) rfl wF_X10_310 (by omega) rfl) ?_
    refine Sg.go (pc' := 10) (mi_iconst (z := 1) dX10_needState_9 rfl) ?_
    refine Sg.go (pc' := 11) (mi_iadd dX10_needState_10) ?_
    refine Sg.goM (pc' := 14) (mi_pfD (r := 1) (k := 8) (t := 0) dX10_needState_11 hC_1 (by decide) rfl rfl wF_X10_310 (by omega) rfl (by decide) (Or.inl ⟨rfl, rfl⟩)) ?_
    refine Sg.letD (fun D2 hD2 => ?_)
    exact Sg.ret mi_xtS
theorem C_X10_needState {Z : MiZ} (hL : CL Z) (a1 : Int) (D : MiD) (h0 : (a1 = 0 ∨ a1 = 1)) (b : MiD ⊕ (Nat × MiD)) (hb : B_X10_needState a1 D = some b) : MC m_X10_needState [(3, 0), (0, a1)] (D, Z) ((mi_LN Z) b) := MC.ofSg (L := (mi_LN Z)) (μ := m_X10_needState) (args := [(3, 0), (0, a1)]) (M := (D, Z)) rfl wP_X10 (Nat.le_of_ble_eq_true rfl) (show Sg m_X10_needState 0 [(3, 0), (0, a1)] [] (D, Z) (mi_LN Z) (B_X10_needState a1 D) from S_X10_needState hL a1 D h0) hb
abbrev m_X5_readPart : MiI := (yX5_readPart, cX5_readPart, 3, none, 6, none)
def B_X5_readPart_144 (Z : MiZ) (s0 : Int) (s1 : Int) (D : MiD) : Option (MiD) := if 0 ≤ s0 then (mi_let (mi_st D 7 s0 5 s1) fun D2 => some D2) else none
set_option maxRecDepth 20000 in
theorem S_X5_readPart_144 {Z : MiZ} (hL : CL Z) (s0 s1 : Int) (D : MiD) : Sg m_X5_readPart 144 [mi_un, mi_un, mi_un] [(0, s1), (9, s0)] (D, Z) (mi_LV Z) (B_X5_readPart_144 Z s0 s1 D) := by
  unfold B_X5_readPart_144
  refine Sg.ck (fun hk1 => ?_)
  refine Sg.goM (pc' := 147) (mi_pfD (r := 7) (k := 5) (t := 0) dX5_readPart_144 hC_7 (by decide) rfl rfl wF_X5_130 (by omega) rfl (by decide) (Or.inl ⟨rfl, rfl⟩)) ?_
  refine Sg.letD (fun D2 hD2 => ?_)
  refine Sg.go (pc' := 253) (mi_goto (tgt := 253) dX5_readPart_147 (by decide)) ?_
  exact Sg.ret (mi_return dX5_readPart_253 rfl (0, 0))
def B_X5_readPart_225 (Z : MiZ) (v0 : Int) (v2 : Int) (D : MiD) : Option (MiD) := mi_b2 (B_X5_readNumber Z v0 9 D) fun y1 D2 => mi_let (mi_st D2 7 v2 2 y1) fun D3 => mi_b2 (B_X5_passIf Z v0 46 D3) fun y4 D5 => if y4 = 0 then (some D5) else (mi_b2 (B_X5_readNumber Z v0 4 D5) fun y7 D8 => mi_let (mi_st D8 7 v2 3 y7) fun D9 => some D9)
set_option maxRecDepth 20000 in
theorem S_X5_readPart_225 {Z : MiZ} (hL : CL Z) (v0 v2 : Int) (D : MiD) : 0 ≤ v0 → 0 ≤ v2 → Sg m_X5_readPart 225 [(11, v0), mi_un, (9, v2)] [] (D, Z) (mi_LV Z) (B_X5_readPart_225 Z v0 v2 D) := by
  intro hb0 hb2
  unfold B_X5_readPart_225
  refine Sg.go (pc' := 226) (mi_aload_n dX5_readPart_225 rfl) ?_
  refine Sg.go (pc' := 227) (mi_aload_n dX5_readPart_226 rfl) ?_
  refine Sg.go (pc' := 229) (mi_bipush (z := 9) dX5_readPart_227 rfl) ?_
  refine Sg.callD (pc' := 232) (t := 0) (μ' := m_X5_readNumber) (args := [(11, v0), (0, 9)]) (mi_invV (n := 1) (r := 9) dX5_readPart_229 hC_9 (by omega) rfl rfl wN_X5_readNumber rfl ⟨by decide, by decide⟩ wL_X5_60 wI_X5_readNumber wS_X5_readNumber wB_X5 wC_X5_readNumber) (fun v hv => C_X5_readNumber hL v0 9 D (by omega) v hv) (Nat.le_of_ble_eq_true rfl) rfl rfl (fun y1 D2 => ?_)
  refine Sg.goM (pc' := 235) (mi_pfD (r := 7) (k := 2) (t := 0) dX5_readPart_232 hC_7 (by decide) rfl rfl wF_X5_143 (by omega) rfl (by decide) (Or.inl ⟨rfl, rfl⟩)) ?_
  refine Sg.letD (fun D3 hD3 => ?_)
  refine Sg.go (pc' := 236) (mi_aload_n dX5_readPart_235 rfl) ?_
  refine Sg.go (pc' := 238) (mi_bipush (z := 46) dX5_readPart_236 rfl) ?_
  refine Sg.callD (pc' := 241) (t := 0) (μ' := m_X5_passIf) (args := [(11, v0), (0, 46)]) (mi_invV (n := 1) (r := 9) dX5_readPart_238 hC_9 (by omega) rfl rfl wN_X5_passIf rfl ⟨by decide, by decide⟩ wL_X5_84 wI_X5_passIf wS_X5_passIf wB_X5 wC_X5_passIf) (fun v hv => C_X5_passIf hL v0 46 D3 (by omega) v hv) (Nat.le_of_ble_eq_true rfl) rfl rfl (fun y4 D5 => ?_)
  refine Sg.ite (fun h6 => ?_) (fun h6 => ?_)
  · refine Sg.go (pc' := 253) (mi_ifeq_t (tgt := 253) dX5_readPart_241 (by decide) h6) ?_
    exact Sg.ret (mi_return dX5_readPart_253 rfl (0, 0))
  · refine Sg.go (pc' := 244) (mi_ifeq_f (tgt := 253) dX5_readPart_241 (by decide) h6) ?_
    refine Sg.go (pc' := 245) (mi_aload_n dX5_readPart_244 rfl) ?_
    refine Sg.go (pc' := 246) (mi_aload_n dX5_readPart_245 rfl) ?_
    refine Sg.go (pc' := 247) (mi_iconst (z := 4) dX5_readPart_246 rfl) ?_
    refine Sg.callD (pc' := 250) (t := 0) (μ' := m_X5_readNumber) (args := [(11, v0), (0, 4)]) (mi_invV (n := 1) (r := 9) dX5_readPart_247 hC_9 (by omega) rfl rfl wN_X5_readNumber rfl ⟨by decide, by decide⟩ wL_X5_60 wI_X5_readNumber wS_X5_readNumber wB_X5 wC_X5_readNumber) (fun v hv => C_X5_readNumber hL v0 4 D5 (by omega) v hv) (Nat.le_of_ble_eq_true rfl) rfl rfl (fun y7 D8 => ?_)
    refine Sg.goM (pc' := 253) (mi_pfD (r := 7) (k := 3) (t := 0) dX5_readPart_250 hC_7 (by decide) rfl rfl wF_X5_146 (by omega) rfl (by decide) (Or.inl ⟨rfl, rfl⟩)) ?_
    refine Sg.letD (fun D9 hD9 => ?_)
    exact Sg.ret (mi_return dX5_readPart_253 rfl (0, 0))
def B_X5_readPart (Z : MiZ) (v0 : Int) (v1 : Int) (v2 : Int) (D : MiD) : Option (MiD) := if v1 = 68 then (mi_b2 (B_X5_readNumber Z v0 9 D) fun y3 D4 => mi_let (mi_st D4 7 v2 2 y3) fun D5 => some D5) else (if v1 = 69 then (B_X5_readPart_225 Z v0 v2 D) else (if v1 = 70 then (mi_b2 (B_X5_readNumber Z v0 11 D) fun y8 D9 => mi_let (mi_st D9 7 v2 5 y8) fun D10 => some D10) else (if v1 = 71 then (mi_b2 (B_X5_readKind Z v0 11 D) fun y12 D13 => mi_let (mi_st D13 7 v2 1 y12) fun D14 => some D14) else (if v1 = 72 then (B_X5_readPart_225 Z v0 v2 D) else (if v1 = 73 then (B_X5_readPart_225 Z v0 v2 D) else (if v1 = 74 then (B_X5_readPart_225 Z v0 v2 D) else (if v1 = 75 then (mi_b2 (B_X5_readKind Z v0 8 D) fun y19 D20 => mi_let (mi_st D20 7 v2 1 y19) fun D21 => some D21) else (if v1 = 76 then (B_X5_readPart_225 Z v0 v2 D) else (if v1 = 77 then (mi_b2 (B_X5_readNumber Z v0 4 D) fun y24 D25 => mi_let (mi_st D25 7 v2 3 y24) fun D26 => some D26) else (if v1 = 78 then (mi_b2 (B_X5_readNumber Z v0 99 D) fun y28 D29 => mi_let (mi_st D29 7 v2 5 y28) fun D30 => some D30) else (if v1 = 79 then (B_X5_readPart_225 Z v0 v2 D) else (if v1 = 80 then (mi_b2 (B_X5_readNumber Z v0 9 D) fun y33 D34 => mi_let (mi_st D34 7 v2 4 y33) fun D35 => some D35) else (if v1 = 81 then (B_X5_readPart_225 Z v0 v2 D) else (if v1 = 82 then (B_X5_readPart_225 Z v0 v2 D) else (if v1 = 83 then (B_X5_readPart_225 Z v0 v2 D) else (if v1 = 84 then (mi_b2 (B_X5_readText Z v0 D) fun y40 D41 => mi_let (mi_st D41 7 v2 5 y40) fun D42 => some D42) else (if v1 = 85 then (B_X5_readPart_225 Z v0 v2 D) else (if v1 = 86 then (mi_b2 (B_X5_passIf Z v0 45 D) fun y45 D46 => if y45 = 0 then (mi_b2 (B_X5_readNumber Z v0 99999 D46) fun y48 D49 => B_X5_readPart_144 Z v2 y48 D49) else (mi_b2 (B_X5_readNumber Z v0 99999 D46) fun y50 D51 => B_X5_readPart_144 Z v2 (mi_w (-y50)) D51)) else (B_X5_readPart_225 Z v0 v2 D)))))))))))))))))))
set_option maxRecDepth 20000 in
theorem S_X5_readPart {Z : MiZ} (hL : CL Z) (v0 v1 v2 : Int) (D : MiD) : 0 ≤ v0 → 0 ≤ v2 → Sg m_X5_readPart 0 [(11, v0), (0, v1), (9, v2)] [] (D, Z) (mi_LV Z) (B_X5_readPart Z v0 v1 v2 D) := by
  intro hb0 hb2
  unfold B_X5_readPart
  refine Sg.go (pc' := 1) (mi_iload_n dX5_readPart_0 rfl) ?_
  refine Sg.ite (fun h2 => ?_) (fun h2 => ?_)
  · refine Sg.go (pc' := 187) (mi_tabIn (tgt := 187) dX5_readPart_1 (by omega) (by omega) (by rw [h2]; rfl) (by decide)) ?_
    refine Sg.go (pc' := 188) (mi_aload_n dX5_readPart_187 rfl) ?_
    refine Sg.go (pc' := 189) (mi_aload_n dX5_readPart_188 rfl) ?_
    refine Sg.go (pc' := 191) (mi_bipush (z := 9) dX5_readPart_189 rfl) ?_
    refine Sg.callD (pc' := 194) (t := 0) (μ' := m_X5_readNumber) (args := [(11, v0), (0, 9)]) (mi_invV (n := 1) (r := 9) dX5_readPart_191 hC_9 (by omega) rfl rfl wN_X5_readNumber rfl ⟨by decide, by decide⟩ wL_X5_60 wI_X5_readNumber wS_X5_readNumber wB_X5 wC_X5_readNumber) (fun v hv => C_X5_readNumber hL v0 9 D (by omega) v hv) (Nat.le_of_ble_eq_true rfl) rfl rfl (fun y3 D4 => ?_)
    refine Sg.goM (pc' := 197) (mi_pfD (r := 7) (k := 2) (t := 0) dX5_readPart_194 hC_7 (by decide) rfl rfl wF_X5_143 (by omega) rfl (by decide) (Or.inl ⟨rfl, rfl⟩)) ?_
    refine Sg.letD (fun D5 hD5 => ?_)
    refine Sg.go (pc' := 253) (mi_goto (tgt := 253) dX5_readPart_197 (by decide)) ?_
    exact Sg.ret (mi_return dX5_readPart_253 rfl (0, 0))
  · refine Sg.ite (fun h6 => ?_) (fun h6 => ?_)
    · refine Sg.go (pc' := 225) (mi_tabIn (tgt := 225) dX5_readPart_1 (by omega) (by omega) (by rw [h6]; rfl) (by decide)) ?_
      refine Sg.go (pc' := 225) (MiStep.weak (ls' := [(11, v0), mi_un, (9, v2)]) (mi_wk_y (mi_wk_n (mi_wk_y mi_wk_0)))) ?_
      exact S_X5_readPart_225 hL v0 v2 D hb0 hb2
    · refine Sg.ite (fun h7 => ?_) (fun h7 => ?_)
      · refine Sg.go (pc' := 92) (mi_tabIn (tgt := 92) dX5_readPart_1 (by omega) (by omega) (by rw [h7]; rfl) (by decide)) ?_
        refine Sg.go (pc' := 93) (mi_aload_n dX5_readPart_92 rfl) ?_
        refine Sg.go (pc' := 94) (mi_aload_n dX5_readPart_93 rfl) ?_
        refine Sg.go (pc' := 96) (mi_bipush (z := 11) dX5_readPart_94 rfl) ?_
        refine Sg.callD (pc' := 99) (t := 0) (μ' := m_X5_readNumber) (args := [(11, v0), (0, 11)]) (mi_invV (n := 1) (r := 9) dX5_readPart_96 hC_9 (by omega) rfl rfl wN_X5_readNumber rfl ⟨by decide, by decide⟩ wL_X5_60 wI_X5_readNumber wS_X5_readNumber wB_X5 wC_X5_readNumber) (fun v hv => C_X5_readNumber hL v0 11 D (by omega) v hv) (Nat.le_of_ble_eq_true rfl) rfl rfl (fun y8 D9 => ?_)
        refine Sg.goM (pc' := 102) (mi_pfD (r := 7) (k := 5) (t := 0) dX5_readPart_99 hC_7 (by decide) rfl rfl wF_X5_130 (by omega) rfl (by decide) (Or.inl ⟨rfl, rfl⟩)) ?_
        refine Sg.letD (fun D10 hD10 => ?_)
        refine Sg.go (pc' := 253) (mi_goto (tgt := 253) dX5_readPart_102 (by decide)) ?_
        exact Sg.ret (mi_return dX5_readPart_253 rfl (0, 0))
      · refine Sg.ite (fun h11 => ?_) (fun h11 => ?_)
        · refine Sg.go (pc' := 174) (mi_tabIn (tgt := 174) dX5_readPart_1 (by omega) (by omega) (by rw [h11]; rfl) (by decide)) ?_
          refine Sg.go (pc' := 175) (mi_aload_n dX5_readPart_174 rfl) ?_
          refine Sg.go (pc' := 176) (mi_aload_n dX5_readPart_175 rfl) ?_
          refine Sg.go (pc' := 178) (mi_bipush (z := 11) dX5_readPart_176 rfl) ?_
          refine Sg.callD (pc' := 181) (t := 0) (μ' := m_X5_readKind) (args := [(11, v0), (0, 11)]) (mi_invV (n := 1) (r := 9) dX5_readPart_178 hC_9 (by omega) rfl rfl wN_X5_readKind rfl ⟨by decide, by decide⟩ wL_X5_137 wI_X5_readKind wS_X5_readKind wB_X5 wC_X5_readKind) (fun v hv => C_X5_readKind hL v0 11 D (by omega) v hv) (Nat.le_of_ble_eq_true rfl) rfl rfl (fun y12 D13 => ?_)
          refine Sg.goM (pc' := 184) (mi_pfD (r := 7) (k := 1) (t := 0) dX5_readPart_181 hC_7 (by decide) rfl rfl wF_X5_140 (by omega) rfl (by decide) (Or.inl ⟨rfl, rfl⟩)) ?_
          refine Sg.letD (fun D14 hD14 => ?_)
          refine Sg.go (pc' := 253) (mi_goto (tgt := 253) dX5_readPart_184 (by decide)) ?_
          exact Sg.ret (mi_return dX5_readPart_253 rfl (0, 0))
        · refine Sg.ite (fun h15 => ?_) (fun h15 => ?_)
          · refine Sg.go (pc' := 225) (mi_tabIn (tgt := 225) dX5_readPart_1 (by omega) (by omega) (by rw [h15]; rfl) (by decide)) ?_
            refine Sg.go (pc' := 225) (MiStep.weak (ls' := [(11, v0), mi_un, (9, v2)]) (mi_wk_y (mi_wk_n (mi_wk_y mi_wk_0)))) ?_
            exact S_X5_readPart_225 hL v0 v2 D hb0 hb2
          · refine Sg.ite (fun h16 => ?_) (fun h16 => ?_)
            · refine Sg.go (pc' := 225) (mi_tabIn (tgt := 225) dX5_readPart_1 (by omega) (by omega) (by rw [h16]; rfl) (by decide)) ?_
              refine Sg.go (pc' := 225) (MiStep.weak (ls' := [(11, v0), mi_un, (9, v2)]) (mi_wk_y (mi_wk_n (mi_wk_y mi_wk_0)))) ?_
              exact S_X5_readPart_225 hL v0 v2 D hb0 hb2
            · refine Sg.ite (fun h17 => ?_) (fun h17 => ?_)
              · refine Sg.go (pc' := 225) (mi_tabIn (tgt := 225) dX5_readPart_1 (by omega) (by omega) (by rw [h17]; rfl) (by decide)) ?_
                refine Sg.go (pc' := 225) (MiStep.weak (ls' := [(11, v0), mi_un, (9, v2)]) (mi_wk_y (mi_wk_n (mi_wk_y mi_wk_0)))) ?_
                exact S_X5_readPart_225 hL v0 v2 D hb0 hb2
              · refine Sg.ite (fun h18 => ?_) (fun h18 => ?_)
                · refine Sg.go (pc' := 161) (mi_tabIn (tgt := 161) dX5_readPart_1 (by omega) (by omega) (by rw [h18]; rfl) (by decide)) ?_
                  refine Sg.go (pc' := 162) (mi_aload_n dX5_readPart_161 rfl) ?_
                  refine Sg.go (pc' := 163) (mi_aload_n dX5_readPart_162 rfl) ?_
                  refine Sg.go (pc' := 165) (mi_bipush (z := 8) dX5_readPart_163 rfl) ?_
                  refine Sg.callD (pc' := 168) (t := 0) (μ' := m_X5_readKind) (args := [(11, v0), (0, 8)]) (mi_invV (n := 1) (r := 9) dX5_readPart_165 hC_9 (by omega) rfl rfl wN_X5_readKind rfl ⟨by decide, by decide⟩ wL_X5_137 wI_X5_readKind wS_X5_readKind wB_X5 wC_X5_readKind) (fun v hv => C_X5_readKind hL v0 8 D (by omega) v hv) (Nat.le_of_ble_eq_true rfl) rfl rfl (fun y19 D20 => ?_)
                  refine Sg.goM (pc' := 171) (mi_pfD (r := 7) (k := 1) (t := 0) dX5_readPart_168 hC_7 (by decide) rfl rfl wF_X5_140 (by omega) rfl (by decide) (Or.inl ⟨rfl, rfl⟩)) ?_
                  refine Sg.letD (fun D21 hD21 => ?_)
                  refine Sg.go (pc' := 253) (mi_goto (tgt := 253) dX5_readPart_171 (by decide)) ?_
                  exact Sg.ret (mi_return dX5_readPart_253 rfl (0, 0))
                · refine Sg.ite (fun h22 => ?_) (fun h22 => ?_)
                  · refine Sg.go (pc' := 225) (mi_tabIn (tgt := 225) dX5_readPart_1 (by omega) (by omega) (by rw [h22]; rfl) (by decide)) ?_
                    refine Sg.go (pc' := 225) (MiStep.weak (ls' := [(11, v0), mi_un, (9, v2)]) (mi_wk_y (mi_wk_n (mi_wk_y mi_wk_0)))) ?_
                    exact S_X5_readPart_225 hL v0 v2 D hb0 hb2
                  · refine Sg.ite (fun h23 => ?_) (fun h23 => ?_)
                    · refine Sg.go (pc' := 200) (mi_tabIn (tgt := 200) dX5_readPart_1 (by omega) (by omega) (by rw [h23]; rfl) (by decide)) ?_
                      refine Sg.go (pc' := 201) (mi_aload_n dX5_readPart_200 rfl) ?_
                      refine Sg.go (pc' := 202) (mi_aload_n dX5_readPart_201 rfl) ?_
                      refine Sg.go (pc' := 203) (mi_iconst (z := 4) dX5_readPart_202 rfl) ?_
                      refine Sg.callD (pc' := 206) (t := 0) (μ' := m_X5_readNumber) (args := [(11, v0), (0, 4)]) (mi_invV (n := 1) (r := 9) dX5_readPart_203 hC_9 (by omega) rfl rfl wN_X5_readNumber rfl ⟨by decide, by decide⟩ wL_X5_60 wI_X5_readNumber wS_X5_readNumber wB_X5 wC_X5_readNumber) (fun v hv => C_X5_readNumber hL v0 4 D (by omega) v hv) (Nat.le_of_ble_eq_true rfl) rfl rfl (fun y24 D25 => ?_)
                      refine Sg.goM (pc' := 209) (mi_pfD (r := 7) (k := 3) (t := 0) dX5_readPart_206 hC_7 (by decide) rfl rfl wF_X5_146 (by omega) rfl (by decide) (Or.inl ⟨rfl, rfl⟩)) ?_
                      refine Sg.letD (fun D26 hD26 => ?_)
                      refine Sg.go (pc' := 253) (mi_goto (tgt := 253) dX5_readPart_209 (by decide)) ?_
                      exact Sg.ret (mi_return dX5_readPart_253 rfl (0, 0))
                    · refine Sg.ite (fun h27 => ?_) (fun h27 => ?_)
                      · refine Sg.go (pc' := 105) (mi_tabIn (tgt := 105) dX5_readPart_1 (by omega) (by omega) (by rw [h27]; rfl) (by decide)) ?_
                        refine Sg.go (pc' := 106) (mi_aload_n dX5_readPart_105 rfl) ?_
                        refine Sg.go (pc' := 107) (mi_aload_n dX5_readPart_106 rfl) ?_
                        refine Sg.go (pc' := 109) (mi_bipush (z := 99) dX5_readPart_107 rfl) ?_
                        refine Sg.callD (pc' := 112) (t := 0) (μ' := m_X5_readNumber) (args := [(11, v0), (0, 99)]) (mi_invV (n := 1) (r := 9) dX5_readPart_109 hC_9 (by omega) rfl rfl wN_X5_readNumber rfl ⟨by decide, by decide⟩ wL_X5_60 wI_X5_readNumber wS_X5_readNumber wB_X5 wC_X5_readNumber) (fun v hv => C_X5_readNumber hL v0 99 D (by omega) v hv) (Nat.le_of_ble_eq_true rfl) rfl rfl (fun y28 D29 => ?_)
                        refine Sg.goM (pc' := 115) (mi_pfD (r := 7) (k := 5) (t := 0) dX5_readPart_112 hC_7 (by decide) rfl rfl wF_X5_130 (by omega) rfl (by decide) (Or.inl ⟨rfl, rfl⟩)) ?_
                        refine Sg.letD (fun D30 hD30 => ?_)
                        refine Sg.go (pc' := 253) (mi_goto (tgt := 253) dX5_readPart_115 (by decide)) ?_
                        exact Sg.ret (mi_return dX5_readPart_253 rfl (0, 0))
                      · refine Sg.ite (fun h31 => ?_) (fun h31 => ?_)
                        · refine Sg.go (pc' := 225) (mi_tabIn (tgt := 225) dX5_readPart_1 (by omega) (by omega) (by rw [h31]; rfl) (by decide)) ?_
                          refine Sg.go (pc' := 225) (MiStep.weak (ls' := [(11, v0), mi_un, (9, v2)]) (mi_wk_y (mi_wk_n (mi_wk_y mi_wk_0)))) ?_
                          exact S_X5_readPart_225 hL v0 v2 D hb0 hb2
                        · refine Sg.ite (fun h32 => ?_) (fun h32 => ?_)
                          · refine Sg.go (pc' := 212) (mi_tabIn (tgt := 212) dX5_readPart_1 (by omega) (by omega) (by rw [h32]; rfl) (by decide)) ?_
                            refine Sg.go (pc' := 213) (mi_aload_n dX5_readPart_212 rfl) ?_
                            refine Sg.go (pc' := 214) (mi_aload_n dX5_readPart_213 rfl) ?_
                            refine Sg.go (pc' := 216) (mi_bipush (z := 9) dX5_readPart_214 rfl) ?_
                            refine Sg.callD (pc' := 219) (t := 0) (μ' := m_X5_readNumber) (args := [(11, v0), (0, 9)]) (mi_invV (n := 1) (r := 9) dX5_readPart_216 hC_9 (by omega) rfl rfl wN_X5_readNumber rfl ⟨by decide, by decide⟩ wL_X5_60 wI_X5_readNumber wS_X5_readNumber wB_X5 wC_X5_readNumber) (fun v hv => C_X5_readNumber hL v0 9 D (by omega) v hv) (Nat.le_of_ble_eq_true rfl) rfl rfl (fun y33 D34 => ?_)
                            refine Sg.goM (pc' := 222) (mi_pfD (r := 7) (k := 4) (t := 0) dX5_readPart_219 hC_7 (by decide) rfl rfl wF_X5_149 (by omega) rfl (by decide) (Or.inl ⟨rfl, rfl⟩)) ?_
                            refine Sg.letD (fun D35 hD35 => ?_)
                            refine Sg.go (pc' := 253) (mi_goto (tgt := 253) dX5_readPart_222 (by decide)) ?_
                            exact Sg.ret (mi_return dX5_readPart_253 rfl (0, 0))
                          · refine Sg.ite (fun h36 => ?_) (fun h36 => ?_)
                            · refine Sg.go (pc' := 225) (mi_tabIn (tgt := 225) dX5_readPart_1 (by omega) (by omega) (by rw [h36]; rfl) (by decide)) ?_
                              refine Sg.go (pc' := 225) (MiStep.weak (ls' := [(11, v0), mi_un, (9, v2)]) (mi_wk_y (mi_wk_n (mi_wk_y mi_wk_0)))) ?_
                              exact S_X5_readPart_225 hL v0 v2 D hb0 hb2
                            · refine Sg.ite (fun h37 => ?_) (fun h37 => ?_)
                              · refine Sg.go (pc' := 225) (mi_tabIn (tgt := 225) dX5_readPart_1 (by omega) (by omega) (by rw [h37]; rfl) (by decide)) ?_
                                refine Sg.go (pc' := 225) (MiStep.weak (ls' := [(11, v0), mi_un, (9, v2)]) (mi_wk_y (mi_wk_n (mi_wk_y mi_wk_0)))) ?_
                                exact S_X5_readPart_225 hL v0 v2 D hb0 hb2
                              · refine Sg.ite (fun h38 => ?_) (fun h38 => ?_)
                                · refine Sg.go (pc' := 225) (mi_tabIn (tgt := 225) dX5_readPart_1 (by omega) (by omega) (by rw [h38]; rfl) (by decide)) ?_
                                  refine Sg.go (pc' := 225) (MiStep.weak (ls' := [(11, v0), mi_un, (9, v2)]) (mi_wk_y (mi_wk_n (mi_wk_y mi_wk_0)))) ?_
                                  exact S_X5_readPart_225 hL v0 v2 D hb0 hb2
                                · refine Sg.ite (fun h39 => ?_) (fun h39 => ?_)
                                  · refine Sg.go (pc' := 150) (mi_tabIn (tgt := 150) dX5_readPart_1 (by omega) (by omega) (by rw [h39]; rfl) (by decide)) ?_
                                    refine Sg.go (pc' := 151) (mi_aload_n dX5_readPart_150 rfl) ?_
                                    refine Sg.go (pc' := 152) (mi_aload_n dX5_readPart_151 rfl) ?_
                                    refine Sg.callD (pc' := 155) (t := 0) (μ' := m_X5_readText) (args := [(11, v0)]) (mi_invV (n := 0) (r := 9) dX5_readPart_152 hC_9 (by omega) rfl rfl wN_X5_readText rfl ⟨by decide, by decide⟩ wL_X5_134 wI_X5_readText wS_X5_readText wB_X5 wC_X5_readText) (fun v hv => C_X5_readText hL v0 D (by omega) v hv) (Nat.le_of_ble_eq_true rfl) rfl rfl (fun y40 D41 => ?_)
                                    refine Sg.goM (pc' := 158) (mi_pfD (r := 7) (k := 5) (t := 0) dX5_readPart_155 hC_7 (by decide) rfl rfl wF_X5_130 (by omega) rfl (by decide) (Or.inl ⟨rfl, rfl⟩)) ?_
                                    refine Sg.letD (fun D42 hD42 => ?_)
                                    refine Sg.go (pc' := 253) (mi_goto (tgt := 253) dX5_readPart_158 (by decide)) ?_
                                    exact Sg.ret (mi_return dX5_readPart_253 rfl (0, 0))
                                  · refine Sg.ite (fun h43 => ?_) (fun h43 => ?_)
                                    · refine Sg.go (pc' := 225) (mi_tabIn (tgt := 225) dX5_readPart_1 (by omega) (by omega) (by rw [h43]; rfl) (by decide)) ?_
                                      refine Sg.go (pc' := 225) (MiStep.weak (ls' := [(11, v0), mi_un, (9, v2)]) (mi_wk_y (mi_wk_n (mi_wk_y mi_wk_0)))) ?_
                                      exact S_X5_readPart_225 hL v0 v2 D hb0 hb2
                                    · refine Sg.ite (fun h44 => ?_) (fun h44 => ?_)
                                      · refine Sg.go (pc' := 118) (mi_tabIn (tgt := 118) dX5_readPart_1 (by omega) (by omega) (by rw [h44]; rfl) (by decide)) ?_
                                        refine Sg.go (pc' := 119) (mi_aload_n dX5_readPart_118 rfl) ?_
                                        refine Sg.go (pc' := 120) (mi_aload_n dX5_readPart_119 rfl) ?_
                                        refine Sg.go (pc' := 122) (mi_bipush (z := 45) dX5_readPart_120 rfl) ?_
                                        refine Sg.callD (pc' := 125) (t := 0) (μ' := m_X5_passIf) (args := [(11, v0), (0, 45)]) (mi_invV (n := 1) (r := 9) dX5_readPart_122 hC_9 (by omega) rfl rfl wN_X5_passIf rfl ⟨by decide, by decide⟩ wL_X5_84 wI_X5_passIf wS_X5_passIf wB_X5 wC_X5_passIf) (fun v hv => C_X5_passIf hL v0 45 D (by omega) v hv) (Nat.le_of_ble_eq_true rfl) rfl rfl (fun y45 D46 => ?_)
                                        refine Sg.ite (fun h47 => ?_) (fun h47 => ?_)
                                        · refine Sg.go (pc' := 138) (mi_ifeq_t (tgt := 138) dX5_readPart_125 (by decide) h47) ?_
                                          refine Sg.go (pc' := 139) (mi_aload_n dX5_readPart_138 rfl) ?_
                                          refine Sg.go (pc' := 141) (mi_ldc (z := 99999) dX5_readPart_139 wK_X5_133 rfl) ?_
                                          refine Sg.callD (pc' := 144) (t := 0) (μ' := m_X5_readNumber) (args := [(11, v0), (0, 99999)]) (mi_invV (n := 1) (r := 9) dX5_readPart_141 hC_9 (by omega) rfl rfl wN_X5_readNumber rfl ⟨by decide, by decide⟩ wL_X5_60 wI_X5_readNumber wS_X5_readNumber wB_X5 wC_X5_readNumber) (fun v hv => C_X5_readNumber hL v0 99999 D46 (by omega) v hv) (Nat.le_of_ble_eq_true rfl) rfl rfl (fun y48 D49 => ?_)
                                          refine Sg.go (pc' := 144) (MiStep.weak (ls' := [mi_un, mi_un, mi_un]) (mi_wk_n (mi_wk_n (mi_wk_n mi_wk_0)))) ?_
                                          exact S_X5_readPart_144 hL v2 y48 D49
                                        · refine Sg.go (pc' := 128) (mi_ifeq_f (tgt := 138) dX5_readPart_125 (by decide) h47) ?_
                                          refine Sg.go (pc' := 129) (mi_aload_n dX5_readPart_128 rfl) ?_
                                          refine Sg.go (pc' := 131) (mi_ldc (z := 99999) dX5_readPart_129 wK_X5_133 rfl) ?_
                                          refine Sg.callD (pc' := 134) (t := 0) (μ' := m_X5_readNumber) (args := [(11, v0), (0, 99999)]) (mi_invV (n := 1) (r := 9) dX5_readPart_131 hC_9 (by omega) rfl rfl wN_X5_readNumber rfl ⟨by decide, by decide⟩ wL_X5_60 wI_X5_readNumber wS_X5_readNumber wB_X5 wC_X5_readNumber) (fun v hv => C_X5_readNumber hL v0 99999 D46 (by omega) v hv) (Nat.le_of_ble_eq_true rfl) rfl rfl (fun y50 D51 => ?_)
                                          refine Sg.go (pc' := 135) (mi_ineg dX5_readPart_134) ?_
                                          refine Sg.go (pc' := 144) (mi_goto (tgt := 144) dX5_readPart_135 (by decide)) ?_
                                          refine Sg.go (pc' := 144) (MiStep.weak (ls' := [mi_un, mi_un, mi_un]) (mi_wk_n (mi_wk_n (mi_wk_n mi_wk_0)))) ?_
                                          exact S_X5_readPart_144 hL v2 (mi_w (-y50)) D51
                                      · refine Sg.go (pc' := 225) (mi_tabOut (tgt := 225) dX5_readPart_1 (by omega) (by decide)) ?_
                                        refine Sg.go (pc' := 225) (MiStep.weak (ls' := [(11, v0), mi_un, (9, v2)]) (mi_wk_y (mi_wk_n (mi_wk_y mi_wk_0)))) ?_
                                        exact S_X5_readPart_225 hL v0 v2 D hb0 hb2
theorem C_X5_readPart {Z : MiZ} (hL : CL Z) (a0 a1 a2 : Int) (D : MiD) (h0 : 0 ≤ a0) (h1 : 0 ≤ a2) (b : MiD) (hb : B_X5_readPart Z a0 a1 a2 D = some b) : MC m_X5_readPart [(11, a0), (0, a1), (9, a2)] (D, Z) ((mi_LV Z) b) := MC.ofSg (L := (mi_LV Z)) (μ := m_X5_readPart) (args := [(11, a0), (0, a1), (9, a2)]) (M := (D, Z)) rfl wP_X5 (Nat.le_of_ble_eq_true rfl) (show Sg m_X5_readPart 0 [(11, a0), (0, a1), (9, a2)] [] (D, Z) (mi_LV Z) (B_X5_readPart Z a0 a1 a2 D) from S_X5_readPart hL a0 a1 a2 D h0 h1) hb
abbrev m_X9_act : MiI := (yX9_act, cX9_act, 4, none, 6, none)
def B_X9_act (Z : MiZ) (v0 : Int) (v1 : Int) (D : MiD) : Option (MiD) := if 0 ≤ v1 ∧ v1 < 6 then (mi_let (mi_w ((D 4 (6 * v0 + v1) 4) - 1)) fun x2 => if (B_X10_within x2 10) ≠ 0 then (if (D 4 (6 * v0 + v1) 5) ≤ 0 then (mi_let (mi_st D 4 (6 * v0 + v1) 10 (mi_w ((D 4 (6 * v0 + v1) 10) + 1))) fun D5 => mi_b2 (B_X9_doDeed Z v0 v1 x2 D5) fun y6 D7 => mi_let (mi_st D7 4 (6 * v0 + v1) 6 y6) fun D8 => if (D8 4 (6 * v0 + v1) 6) = 0 then (some D8) else (mi_let (mi_st D8 2 v0 12 (mi_w ((D8 2 v0 12) + 1))) fun D10 => some D10)) else (mi_bi (B_X7_restOn (6 * v0 + v1) x2 D) fun D11 => some D11)) else (some D)) else none
set_option maxRecDepth 20000 in
theorem S_X9_act {Z : MiZ} (hL : CL Z) (v0 v1 : Int) (D : MiD) : (0 ≤ v0 ∧ v0 < 2) → Sg m_X9_act 0 [(4, v0), (0, v1), mi_un, mi_un] [] (D, Z) (mi_LV Z) (B_X9_act Z v0 v1 D) := by
  intro hb0
  unfold B_X9_act
  refine Sg.go (pc' := 1) (mi_aload_n dX9_act_0 rfl) ?_
  refine Sg.go (pc' := 4) (mi_gfA (t := 14) (v := v0) (r := 2) (k := 3) dX9_act_1 hC_2 (by decide) rfl wF_X9_31 (by omega) rfl (hL.2.1 _ 3 (by omega) (by omega) (by decide))) ?_
  refine Sg.go (pc' := 5) (mi_iload_n dX9_act_4 rfl) ?_
  refine Sg.ck (fun hk1 => ?_)
  refine Sg.go (pc' := 6) (mi_aald (n := 6) (t := 4) (v := (6 * v0 + v1)) dX9_act_5 rfl hA_14 rfl (by omega) hk1 rfl (hL.2.2.2.2.2.2.2 _ _ (by omega) (by omega) hk1.1 hk1.2)) ?_
  refine Sg.go (pc' := 7) (mi_astore_n (ls1 := [(4, v0), (0, v1), (6, (6 * v0 + v1)), mi_un]) dX9_act_6 (by decide) rfl) ?_
  refine Sg.go (pc' := 8) (mi_aload_n dX9_act_7 rfl) ?_
  refine Sg.go (pc' := 11) (mi_gfI (r := 4) (k := 4) dX9_act_8 hC_4 (by decide) rfl wF_X9_198 (by omega) rfl) ?_
  refine Sg.go (pc' := 12) (mi_iconst (z := 1) dX9_act_11 rfl) ?_
  refine Sg.go (pc' := 13) (mi_isub dX9_act_12) ?_
  refine Sg.letI (fun x2 hx2 => ?_)
  refine Sg.go (pc' := 14) (mi_istore_n (ls1 := [(4, v0), (0, v1), (6, (6 * v0 + v1)), (0, x2)]) dX9_act_13 (by decide) rfl) ?_
  refine Sg.go (pc' := 15) (mi_iload_n dX9_act_14 rfl) ?_
  refine Sg.go (pc' := 17) (mi_bipush (z := 10) dX9_act_15 rfl) ?_
  refine Sg.callP (pc' := 20) (t := 0) (v := (B_X10_within x2 10)) (μ' := m_X10_within) (args := [(0, x2), (0, 10)]) (mi_invSN (n := 2) dX9_act_17 rfl wN_X10_within rfl ⟨by decide, by decide⟩ wL_X9_201 wT_X10_within wB_X10 wC_X10_within) (C_X10_within hL x2 10 D) (Nat.le_of_ble_eq_true rfl) rfl rfl ?_
  refine Sg.ite (fun h3 => ?_) (fun h3 => ?_)
  · refine Sg.go (pc' := 24) (mi_ifne_t (tgt := 24) dX9_act_20 (by decide) h3) ?_
    refine Sg.go (pc' := 25) (mi_aload_n dX9_act_24 rfl) ?_
    refine Sg.go (pc' := 28) (mi_gfI (r := 4) (k := 5) dX9_act_25 hC_4 (by decide) rfl wF_X9_204 (by omega) rfl) ?_
    refine Sg.ite (fun h4 => ?_) (fun h4 => ?_)
    · refine Sg.go (pc' := 37) (mi_ifle_t (tgt := 37) dX9_act_28 (by decide) h4) ?_
      refine Sg.go (pc' := 38) (mi_aload_n dX9_act_37 rfl) ?_
      refine Sg.go (pc' := 39) (mi_dup dX9_act_38 (show (6 : Nat) ≠ 1 by decide)) ?_
      refine Sg.go (pc' := 42) (mi_gfI (r := 4) (k := 10) dX9_act_39 hC_4 (by decide) rfl wF_X9_210 (by omega) rfl) ?_
      refine Sg.go (pc' := 43) (mi_iconst (z := 1) dX9_act_42 rfl) ?_
      refine Sg.go (pc' := 44) (mi_iadd dX9_act_43) ?_
      refine Sg.goM (pc' := 47) (mi_pfD (r := 4) (k := 10) (t := 0) dX9_act_44 hC_4 (by decide) rfl rfl wF_X9_210 (by omega) rfl (by decide) (Or.inl ⟨rfl, rfl⟩)) ?_
      refine Sg.letD (fun D5 hD5 => ?_)
      refine Sg.go (pc' := 48) (mi_aload_n dX9_act_47 rfl) ?_
      refine Sg.go (pc' := 49) (mi_aload_n dX9_act_48 rfl) ?_
      refine Sg.go (pc' := 50) (mi_iload_n dX9_act_49 rfl) ?_
      refine Sg.go (pc' := 51) (mi_iload_n dX9_act_50 rfl) ?_
      refine Sg.callD (pc' := 54) (t := 0) (μ' := m_X9_doDeed) (args := [(4, v0), (0, v1), (0, x2)]) (mi_invV (n := 2) (r := 2) dX9_act_51 hC_2 (by omega) rfl rfl wN_X9_doDeed rfl ⟨by decide, by decide⟩ wL_X9_213 wI_X9_doDeed wS_X9_doDeed wB_X9 wC_X9_doDeed) (fun v hv => C_X9_doDeed hL v0 v1 x2 D5 (by omega) v hv) (Nat.le_of_ble_eq_true rfl) rfl rfl (fun y6 D7 => ?_)
      refine Sg.goM (pc' := 57) (mi_pfD (r := 4) (k := 6) (t := 0) dX9_act_54 hC_4 (by decide) rfl rfl wF_X9_216 (by omega) rfl (by decide) (Or.inl ⟨rfl, rfl⟩)) ?_
      refine Sg.letD (fun D8 hD8 => ?_)
      refine Sg.go (pc' := 58) (mi_aload_n dX9_act_57 rfl) ?_
      refine Sg.go (pc' := 61) (mi_gfI (r := 4) (k := 6) dX9_act_58 hC_4 (by decide) rfl wF_X9_216 (by omega) rfl) ?_
      refine Sg.ite (fun h9 => ?_) (fun h9 => ?_)
      · refine Sg.go (pc' := 74) (mi_ifeq_t (tgt := 74) dX9_act_61 (by decide) h9) ?_
        exact Sg.ret (mi_return dX9_act_74 rfl (0, 0))
      · refine Sg.go (pc' := 64) (mi_ifeq_f (tgt := 74) dX9_act_61 (by decide) h9) ?_
        refine Sg.go (pc' := 65) (mi_aload_n dX9_act_64 rfl) ?_
        refine Sg.go (pc' := 66) (mi_dup dX9_act_65 (show (4 : Nat) ≠ 1 by decide)) ?_
        refine Sg.go (pc' := 69) (mi_gfI (r := 2) (k := 12) dX9_act_66 hC_2 (by decide) rfl wF_X9_82 (by omega) rfl) ?_
        refine Sg.go (pc' := 70) (mi_iconst (z := 1) dX9_act_69 rfl) ?_
        refine Sg.go (pc' := 71) (mi_iadd dX9_act_70) ?_
        refine Sg.goM (pc' := 74) (mi_pfD (r := 2) (k := 12) (t := 0) dX9_act_71 hC_2 (by decide) rfl rfl wF_X9_82 (by omega) rfl (by decide) (Or.inl ⟨rfl, rfl⟩)) ?_
        refine Sg.letD (fun D10 hD10 => ?_)
        exact Sg.ret (mi_return dX9_act_74 rfl (0, 0))
    · refine Sg.go (pc' := 31) (mi_ifle_f (tgt := 37) dX9_act_28 (by decide) h4) ?_
      refine Sg.go (pc' := 32) (mi_aload_n dX9_act_31 rfl) ?_
      refine Sg.go (pc' := 33) (mi_iload_n dX9_act_32 rfl) ?_
      refine Sg.callV (pc' := 36) (μ' := m_X7_restOn) (args := [(6, (6 * v0 + v1)), (0, x2)]) (mi_invV (n := 1) (r := 4) dX9_act_33 hC_4 (by omega) rfl rfl wN_X7_restOn rfl ⟨by decide, by decide⟩ wL_X9_207 wI_X7_restOn wS_X7_restOn wB_X7 wC_X7_restOn) (fun v hv => C_X7_restOn hL (6 * v0 + v1) x2 D (by omega) v hv) (Nat.le_of_ble_eq_true rfl) rfl rfl (fun D11 => ?_)
      exact Sg.ret (mi_return dX9_act_36 rfl (0, 0))
  · refine Sg.go (pc' := 23) (mi_ifne_f (tgt := 24) dX9_act_20 (by decide) h3) ?_
    exact Sg.ret (mi_return dX9_act_23 rfl (0, 0))
theorem C_X9_act {Z : MiZ} (hL : CL Z) (a0 a1 : Int) (D : MiD) (h0 : (0 ≤ a0 ∧ a0 < 2)) (b : MiD) (hb : B_X9_act Z a0 a1 D = some b) : MC m_X9_act [(4, a0), (0, a1)] (D, Z) ((mi_LV Z) b) := MC.ofSg (L := (mi_LV Z)) (μ := m_X9_act) (args := [(4, a0), (0, a1)]) (M := (D, Z)) rfl wP_X9 (Nat.le_of_ble_eq_true rfl) (show Sg m_X9_act 0 [(4, a0), (0, a1), mi_un, mi_un] [] (D, Z) (mi_LV Z) (B_X9_act Z a0 a1 D) from S_X9_act hL a0 a1 D h0) hb
end MiW3
