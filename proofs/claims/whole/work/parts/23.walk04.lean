noncomputable section MiW4
abbrev m_X9_settle : MiI := (yX9_settle, cX9_settle, 2, none, 6, none)
def B_X9_settle_11 (Z : MiZ) : Nat → Int → Int → MiD → Option (MiD)
  | 0, _, _, _ => none
  | f + 1, v0, v1, D => if 6 ≤ v1 then (if 0 ≤ (D 2 v0 8) ∧ (D 2 v0 8) < 8 then (mi_bi (B_X9_leftToTurn D v0) fun y3 => if 0 < y3 then (some D) else (if (Z.1 12 v0 (D 2 v0 8)) < 0 then (some D) else (mi_let (mi_st D 2 v0 8 (-1)) fun D6 => mi_let (mi_st D6 2 v0 11 (mi_w ((D6 2 v0 11) + 1))) fun D7 => if (D7 2 v0 9) = 0 then (mi_let (mi_st D7 2 v0 7 (mi_w ((D7 2 v0 7) - 1))) fun D9 => if 0 ≤ (Z.1 12 v0 (D 2 v0 8)) then (if 0 ≤ (Z.1 8 (Z.1 12 v0 (D 2 v0 8)) 4) then (mi_bi (B_X9_perform Z v0 (Z.1 8 (Z.1 12 v0 (D 2 v0 8)) 4) D9) fun D12 => some D12) else none) else none) else (if 0 ≤ (Z.1 12 v0 (D 2 v0 8)) then (if 0 ≤ (Z.1 8 (Z.1 12 v0 (D 2 v0 8)) 3) then (mi_bi (B_X9_perform Z v0 (Z.1 8 (Z.1 12 v0 (D 2 v0 8)) 3) D7) fun D15 => mi_bi (B_X9_unstackBelow v0 (Z.1 12 v0 (D 2 v0 8)) D15) fun D16 => some D16) else none) else none)))) else none) else (mi_bi (B_X9_hindrance D Z v0 v1) fun y17 => if y17 ≠ (-1) then (B_X9_settle_11 Z f v0 (mi_w (v1 + 1)) D) else (if 0 ≤ v1 ∧ v1 < 6 then (if (D 2 v0 9) = 0 ∨ (D 2 v0 9) = 1 then (mi_let (mi_st D 4 (6 * v0 + v1) 8 (D 2 v0 9)) fun D21 => B_X9_settle_11 Z f v0 (mi_w (v1 + 1)) D21) else none) else none))
set_option maxRecDepth 20000 in
theorem S_X9_settle_11 {Z : MiZ} (hL : CL Z) : ∀ (f : Nat) (v0 v1 : Int) (D : MiD), (0 ≤ v0 ∧ v0 < 2) → Sg m_X9_settle 11 [(4, v0), (0, v1)] [] (D, Z) (mi_LV Z) (B_X9_settle_11 Z f v0 v1 D) := by
  intro f
  induction f with
  | zero => intros; exact Sg.nope
  | succ f K11 =>
    intro v0 v1 D hb0
    show Sg m_X9_settle 11 [(4, v0), (0, v1)] [] (D, Z) (mi_LV Z) (if 6 ≤ v1 then (if 0 ≤ (D 2 v0 8) ∧ (D 2 v0 8) < 8 then (mi_bi (B_X9_leftToTurn D v0) fun y3 => if 0 < y3 then (some D) else (if (Z.1 12 v0 (D 2 v0 8)) < 0 then (some D) else (mi_let (mi_st D 2 v0 8 (-1)) fun D6 => mi_let (mi_st D6 2 v0 11 (mi_w ((D6 2 v0 11) + 1))) fun D7 => if (D7 2 v0 9) = 0 then (mi_let (mi_st D7 2 v0 7 (mi_w ((D7 2 v0 7) - 1))) fun D9 => if 0 ≤ (Z.1 12 v0 (D 2 v0 8)) then (if 0 ≤ (Z.1 8 (Z.1 12 v0 (D 2 v0 8)) 4) then (mi_bi (B_X9_perform Z v0 (Z.1 8 (Z.1 12 v0 (D 2 v0 8)) 4) D9) fun D12 => some D12) else none) else none) else (if 0 ≤ (Z.1 12 v0 (D 2 v0 8)) then (if 0 ≤ (Z.1 8 (Z.1 12 v0 (D 2 v0 8)) 3) then (mi_bi (B_X9_perform Z v0 (Z.1 8 (Z.1 12 v0 (D 2 v0 8)) 3) D7) fun D15 => mi_bi (B_X9_unstackBelow v0 (Z.1 12 v0 (D 2 v0 8)) D15) fun D16 => some D16) else none) else none)))) else none) else (mi_bi (B_X9_hindrance D Z v0 v1) fun y17 => if y17 ≠ (-1) then (B_X9_settle_11 Z f v0 (mi_w (v1 + 1)) D) else (if 0 ≤ v1 ∧ v1 < 6 then (if (D 2 v0 9) = 0 ∨ (D 2 v0 9) = 1 then (mi_let (mi_st D 4 (6 * v0 + v1) 8 (D 2 v0 9)) fun D21 => B_X9_settle_11 Z f v0 (mi_w (v1 + 1)) D21) else none) else none)))
    refine Sg.go (pc' := 12) (mi_iload_n dX9_settle_11 rfl) ?_
    refine Sg.go (pc' := 14) (mi_bipush (z := 6) dX9_settle_12 rfl) ?_
    refine Sg.ite (fun h1 => ?_) (fun h1 => ?_)
    · refine Sg.go (pc' := 45) (mi_icmpge_t (tgt := 45) dX9_settle_14 (by decide) h1) ?_
      refine Sg.go (pc' := 46) (mi_aload_n dX9_settle_45 rfl) ?_
      refine Sg.go (pc' := 49) (mi_gfA (t := 12) (v := v0) (r := 2) (k := 1) dX9_settle_46 hC_2 (by decide) rfl wF_X9_19 (by omega) rfl (hL.2.1 _ 1 (by omega) (by omega) (by decide))) ?_
      refine Sg.go (pc' := 50) (mi_aload_n dX9_settle_49 rfl) ?_
      refine Sg.go (pc' := 53) (mi_gfI (r := 2) (k := 8) dX9_settle_50 hC_2 (by decide) rfl wF_X9_49 (by omega) rfl) ?_
      refine Sg.ck (fun hk2 => ?_)
      refine Sg.go (pc' := 54) (mi_aald (n := 8) (t := 8) (v := (Z.1 12 v0 (D 2 v0 8))) dX9_settle_53 rfl hA_12 rfl (by omega) hk2 rfl rfl) ?_
      refine Sg.go (pc' := 55) (mi_astore_n (ls1 := [(4, v0), (10, (Z.1 12 v0 (D 2 v0 8)))]) dX9_settle_54 (by decide) rfl) ?_
      refine Sg.go (pc' := 56) (mi_aload_n dX9_settle_55 rfl) ?_
      refine Sg.callI (pc' := 59) (t := 0) (μ' := m_X9_leftToTurn) (args := [(4, v0)]) (mi_invV (n := 0) (r := 2) dX9_settle_56 hC_2 (by omega) rfl rfl wN_X9_leftToTurn rfl ⟨by decide, by decide⟩ wL_X9_285 wI_X9_leftToTurn wS_X9_leftToTurn wB_X9 wC_X9_leftToTurn) (fun v hv => C_X9_leftToTurn hL v0 D (by omega) v hv) (Nat.le_of_ble_eq_true rfl) rfl rfl (fun y3 => ?_)
      refine Sg.ite (fun h4 => ?_) (fun h4 => ?_)
      · refine Sg.go (pc' := 66) (mi_ifgt_t (tgt := 66) dX9_settle_59 (by decide) h4) ?_
        exact Sg.ret (mi_return dX9_settle_66 rfl (0, 0))
      · refine Sg.go (pc' := 62) (mi_ifgt_f (tgt := 66) dX9_settle_59 (by decide) h4) ?_
        refine Sg.go (pc' := 63) (mi_aload_n dX9_settle_62 rfl) ?_
        refine Sg.ite (fun h5 => ?_) (fun h5 => ?_)
        · refine Sg.go (pc' := 66) (mi_ifnonnull_f (tgt := 67) dX9_settle_63 (by decide) h5) ?_
          exact Sg.ret (mi_return dX9_settle_66 rfl (0, 0))
        · refine Sg.go (pc' := 67) (mi_ifnonnull_t (tgt := 67) dX9_settle_63 (by decide) h5) ?_
          refine Sg.go (pc' := 68) (mi_aload_n dX9_settle_67 rfl) ?_
          refine Sg.go (pc' := 69) (mi_iconst (z := (-1)) dX9_settle_68 rfl) ?_
          refine Sg.goM (pc' := 72) (mi_pfD (r := 2) (k := 8) (t := 0) dX9_settle_69 hC_2 (by decide) rfl rfl wF_X9_49 (by omega) rfl (by decide) (Or.inl ⟨rfl, rfl⟩)) ?_
          refine Sg.letD (fun D6 hD6 => ?_)
          refine Sg.go (pc' := 73) (mi_aload_n dX9_settle_72 rfl) ?_
          refine Sg.go (pc' := 74) (mi_dup dX9_settle_73 (show (4 : Nat) ≠ 1 by decide)) ?_
          refine Sg.go (pc' := 77) (mi_gfI (r := 2) (k := 11) dX9_settle_74 hC_2 (by decide) rfl wF_X9_79 (by omega) rfl) ?_
          refine Sg.go (pc' := 78) (mi_iconst (z := 1) dX9_settle_77 rfl) ?_
          refine Sg.go (pc' := 79) (mi_iadd dX9_settle_78) ?_
          refine Sg.goM (pc' := 82) (mi_pfD (r := 2) (k := 11) (t := 0) dX9_settle_79 hC_2 (by decide) rfl rfl wF_X9_79 (by omega) rfl (by decide) (Or.inl ⟨rfl, rfl⟩)) ?_
          refine Sg.letD (fun D7 hD7 => ?_)
          refine Sg.go (pc' := 83) (mi_aload_n dX9_settle_82 rfl) ?_
          refine Sg.go (pc' := 86) (mi_gfI (r := 2) (k := 9) dX9_settle_83 hC_2 (by decide) rfl wF_X9_72 (by omega) rfl) ?_
          refine Sg.ite (fun h8 => ?_) (fun h8 => ?_)
          · refine Sg.go (pc' := 105) (mi_ifeq_t (tgt := 105) dX9_settle_86 (by decide) h8) ?_
            refine Sg.go (pc' := 106) (mi_aload_n dX9_settle_105 rfl) ?_
            refine Sg.go (pc' := 107) (mi_dup dX9_settle_106 (show (4 : Nat) ≠ 1 by decide)) ?_
            refine Sg.go (pc' := 110) (mi_gfI (r := 2) (k := 7) dX9_settle_107 hC_2 (by decide) rfl wF_X9_69 (by omega) rfl) ?_
            refine Sg.go (pc' := 111) (mi_iconst (z := 1) dX9_settle_110 rfl) ?_
            refine Sg.go (pc' := 112) (mi_isub dX9_settle_111) ?_
            refine Sg.goM (pc' := 115) (mi_pfD (r := 2) (k := 7) (t := 0) dX9_settle_112 hC_2 (by decide) rfl rfl wF_X9_69 (by omega) rfl (by decide) (Or.inl ⟨rfl, rfl⟩)) ?_
            refine Sg.letD (fun D9 hD9 => ?_)
            refine Sg.go (pc' := 116) (mi_aload_n dX9_settle_115 rfl) ?_
            refine Sg.go (pc' := 117) (mi_aload_n dX9_settle_116 rfl) ?_
            refine Sg.ck (fun hk10 => ?_)
            refine Sg.go (pc' := 120) (mi_gfA (t := 6) (v := (Z.1 8 (Z.1 12 v0 (D 2 v0 8)) 4)) (r := 8) (k := 4) dX9_settle_117 hC_8 (by decide) rfl wF_X9_308 (by omega) rfl rfl) ?_
            refine Sg.ck (fun hk11 => ?_)
            refine Sg.callV (pc' := 123) (μ' := m_X9_perform) (args := [(4, v0), (8, (Z.1 8 (Z.1 12 v0 (D 2 v0 8)) 4))]) (mi_invV (n := 1) (r := 2) dX9_settle_120 hC_2 (by omega) rfl rfl wN_X9_perform rfl ⟨by decide, by decide⟩ wL_X9_277 wI_X9_perform wS_X9_perform wB_X9 wC_X9_perform) (fun v hv => C_X9_perform hL v0 (Z.1 8 (Z.1 12 v0 (D 2 v0 8)) 4) D9 (by omega) (by omega) v hv) (Nat.le_of_ble_eq_true rfl) rfl rfl (fun D12 => ?_)
            exact Sg.ret (mi_return dX9_settle_123 rfl (0, 0))
          · refine Sg.go (pc' := 89) (mi_ifeq_f (tgt := 105) dX9_settle_86 (by decide) h8) ?_
            refine Sg.go (pc' := 90) (mi_aload_n dX9_settle_89 rfl) ?_
            refine Sg.go (pc' := 91) (mi_aload_n dX9_settle_90 rfl) ?_
            refine Sg.ck (fun hk13 => ?_)
            refine Sg.go (pc' := 94) (mi_gfA (t := 6) (v := (Z.1 8 (Z.1 12 v0 (D 2 v0 8)) 3)) (r := 8) (k := 3) dX9_settle_91 hC_8 (by decide) rfl wF_X9_301 (by omega) rfl rfl) ?_
            refine Sg.ck (fun hk14 => ?_)
            refine Sg.callV (pc' := 97) (μ' := m_X9_perform) (args := [(4, v0), (8, (Z.1 8 (Z.1 12 v0 (D 2 v0 8)) 3))]) (mi_invV (n := 1) (r := 2) dX9_settle_94 hC_2 (by omega) rfl rfl wN_X9_perform rfl ⟨by decide, by decide⟩ wL_X9_277 wI_X9_perform wS_X9_perform wB_X9 wC_X9_perform) (fun v hv => C_X9_perform hL v0 (Z.1 8 (Z.1 12 v0 (D 2 v0 8)) 3) D7 (by omega) (by omega) v hv) (Nat.le_of_ble_eq_true rfl) rfl rfl (fun D15 => ?_)
            refine Sg.go (pc' := 98) (mi_aload_n dX9_settle_97 rfl) ?_
            refine Sg.go (pc' := 99) (mi_aload_n dX9_settle_98 rfl) ?_
            refine Sg.callV (pc' := 102) (μ' := m_X9_unstackBelow) (args := [(4, v0), (10, (Z.1 12 v0 (D 2 v0 8)))]) (mi_invV (n := 1) (r := 2) dX9_settle_99 hC_2 (by omega) rfl rfl wN_X9_unstackBelow rfl ⟨by decide, by decide⟩ wL_X9_304 wI_X9_unstackBelow wS_X9_unstackBelow wB_X9 wC_X9_unstackBelow) (fun v hv => C_X9_unstackBelow hL v0 (Z.1 12 v0 (D 2 v0 8)) D15 (by omega) (by omega) v hv) (Nat.le_of_ble_eq_true rfl) rfl rfl (fun D16 => ?_)
            refine Sg.go (pc' := 123) (mi_goto (tgt := 123) dX9_settle_102 (by decide)) ?_
            exact Sg.ret (mi_return dX9_settle_123 rfl (0, 0))
    · refine Sg.go (pc' := 17) (mi_icmpge_f (tgt := 45) dX9_settle_14 (by decide) h1) ?_
      refine Sg.go (pc' := 18) (mi_aload_n dX9_settle_17 rfl) ?_
      refine Sg.go (pc' := 19) (mi_iload_n dX9_settle_18 rfl) ?_
      refine Sg.callI (pc' := 22) (t := 0) (μ' := m_X9_hindrance) (args := [(4, v0), (0, v1)]) (mi_invV (n := 1) (r := 2) dX9_settle_19 hC_2 (by omega) rfl rfl wN_X9_hindrance rfl ⟨by decide, by decide⟩ wL_X9_298 wI_X9_hindrance wS_X9_hindrance wB_X9 wC_X9_hindrance) (fun v hv => C_X9_hindrance hL v0 v1 D (by omega) v hv) (Nat.le_of_ble_eq_true rfl) rfl rfl (fun y17 => ?_)
      refine Sg.go (pc' := 23) (mi_iconst (z := (-1)) dX9_settle_22 rfl) ?_
      refine Sg.ite (fun h18 => ?_) (fun h18 => ?_)
      · refine Sg.go (pc' := 39) (mi_icmpne_t (tgt := 39) dX9_settle_23 (by decide) h18) ?_
        refine Sg.go (pc' := 42) (mi_iinc (z := 1) (ls1 := [(4, v0), (0, (mi_w (v1 + 1)))]) dX9_settle_39 (by decide) rfl rfl rfl) ?_
        refine Sg.go (pc' := 11) (mi_goto (tgt := 11) dX9_settle_42 (by decide)) ?_
        exact K11 v0 (mi_w (v1 + 1)) D hb0
      · refine Sg.go (pc' := 26) (mi_icmpne_f (tgt := 39) dX9_settle_23 (by decide) h18) ?_
        refine Sg.go (pc' := 27) (mi_aload_n dX9_settle_26 rfl) ?_
        refine Sg.go (pc' := 30) (mi_gfA (t := 14) (v := v0) (r := 2) (k := 3) dX9_settle_27 hC_2 (by decide) rfl wF_X9_31 (by omega) rfl (hL.2.1 _ 3 (by omega) (by omega) (by decide))) ?_
        refine Sg.go (pc' := 31) (mi_iload_n dX9_settle_30 rfl) ?_
        refine Sg.ck (fun hk19 => ?_)
        refine Sg.go (pc' := 32) (mi_aald (n := 6) (t := 4) (v := (6 * v0 + v1)) dX9_settle_31 rfl hA_14 rfl (by omega) hk19 rfl (hL.2.2.2.2.2.2.2 _ _ (by omega) (by omega) hk19.1 hk19.2)) ?_
        refine Sg.go (pc' := 33) (mi_aload_n dX9_settle_32 rfl) ?_
        refine Sg.go (pc' := 36) (mi_gfI (r := 2) (k := 9) dX9_settle_33 hC_2 (by decide) rfl wF_X9_72 (by omega) rfl) ?_
        refine Sg.ck (fun hk20 => ?_)
        refine Sg.goM (pc' := 39) (mi_pfD (r := 4) (k := 8) (t := 0) dX9_settle_36 hC_4 (by decide) rfl rfl wF_X9_267 (by omega) rfl (by decide) (Or.inr (Or.inr (Or.inl ⟨rfl, rfl, hk20⟩)))) ?_
        refine Sg.letD (fun D21 hD21 => ?_)
        refine Sg.go (pc' := 42) (mi_iinc (z := 1) (ls1 := [(4, v0), (0, (mi_w (v1 + 1)))]) dX9_settle_39 (by decide) rfl rfl rfl) ?_
        refine Sg.go (pc' := 11) (mi_goto (tgt := 11) dX9_settle_42 (by decide)) ?_
        exact K11 v0 (mi_w (v1 + 1)) D21 hb0
def B_X9_settle (Z : MiZ) (v0 : Int) (D : MiD) : Option (MiD) := if (D 2 v0 8) ≠ (-1) then (B_X9_settle_11 Z mi_fuel v0 0 D) else (some D)
set_option maxRecDepth 20000 in
theorem S_X9_settle {Z : MiZ} (hL : CL Z) (v0 : Int) (D : MiD) : (0 ≤ v0 ∧ v0 < 2) → Sg m_X9_settle 0 [(4, v0), mi_un] [] (D, Z) (mi_LV Z) (B_X9_settle Z v0 D) := by
  intro hb0
  unfold B_X9_settle
  refine Sg.go (pc' := 1) (mi_aload_n dX9_settle_0 rfl) ?_
  refine Sg.go (pc' := 4) (mi_gfI (r := 2) (k := 8) dX9_settle_1 hC_2 (by decide) rfl wF_X9_49 (by omega) rfl) ?_
  refine Sg.go (pc' := 5) (mi_iconst (z := (-1)) dX9_settle_4 rfl) ?_
  refine Sg.ite (fun h1 => ?_) (fun h1 => ?_)
  · refine Sg.go (pc' := 9) (mi_icmpne_t (tgt := 9) dX9_settle_5 (by decide) h1) ?_
    refine Sg.go (pc' := 10) (mi_iconst (z := 0) dX9_settle_9 rfl) ?_
    refine Sg.go (pc' := 11) (mi_istore_n (ls1 := [(4, v0), (0, 0)]) dX9_settle_10 (by decide) rfl) ?_
    exact S_X9_settle_11 hL mi_fuel v0 0 D hb0
  · refine Sg.go (pc' := 8) (mi_icmpne_f (tgt := 9) dX9_settle_5 (by decide) h1) ?_
    exact Sg.ret (mi_return dX9_settle_8 rfl (0, 0))
theorem C_X9_settle {Z : MiZ} (hL : CL Z) (a0 : Int) (D : MiD) (h0 : (0 ≤ a0 ∧ a0 < 2)) (b : MiD) (hb : B_X9_settle Z a0 D = some b) : MC m_X9_settle [(4, a0)] (D, Z) ((mi_LV Z) b) := MC.ofSg (L := (mi_LV Z)) (μ := m_X9_settle) (args := [(4, a0)]) (M := (D, Z)) rfl wP_X9 (Nat.le_of_ble_eq_true rfl) (show Sg m_X9_settle 0 [(4, a0), mi_un] [] (D, Z) (mi_LV Z) (B_X9_settle Z a0 D) from S_X9_settle hL a0 D h0) hb
abbrev m_X10_calls : MiI := (yX10_calls, cX10_calls, 3, (some .int), 7, none)
def B_X10_calls_24 (Z : MiZ) (v1 : Int) (v2 : Int) (s1 : Int) (D : MiD) : Option ((Int × MiD) ⊕ (Nat × MiD)) := if s1 = 0 ∨ s1 = 1 then (mi_bn (B_X10_needElement s1 D) Sum.inr fun D2 => mi_bi (B_X9_callee D2 Z 0 v1 v2) fun y3 => some (.inl (y3, D2))) else none
set_option maxRecDepth 20000 in
theorem S_X10_calls_24 {Z : MiZ} (hL : CL Z) (v1 v2 s1 : Int) (D : MiD) : Sg m_X10_calls 24 [(3, 0), (0, v1), (0, v2)] [(0, s1), (3, 0)] (D, Z) (mi_LT 0 Z) (B_X10_calls_24 Z v1 v2 s1 D) := by
  unfold B_X10_calls_24
  refine Sg.ck (fun hk1 => ?_)
  refine Sg.callNT (pc' := 27) (μ' := m_X10_needElement) (args := [(3, 0), (0, s1)]) (mi_invV (n := 1) (r := 1) dX10_calls_24 hC_1 (by omega) rfl rfl wN_X10_needElement rfl ⟨by decide, by decide⟩ wL_X10_38 wI_X10_needElement wS_X10_needElement wB_X10 wC_X10_needElement) (fun v hv => C_X10_needElement hL s1 D (hk1) v hv) rfl (Nat.le_of_ble_eq_true rfl) rfl rfl (fun D2 => ?_)
  refine Sg.go (pc' := 28) (mi_aload_n dX10_calls_27 rfl) ?_
  refine Sg.go (pc' := 31) (mi_gfA (t := 2) (v := 0) (r := 1) (k := 4) dX10_calls_28 hC_1 (by decide) rfl wF_X10_20 (by omega) rfl hL.1.2.1) ?_
  refine Sg.go (pc' := 32) (mi_iload_n dX10_calls_31 rfl) ?_
  refine Sg.go (pc' := 33) (mi_iload_n dX10_calls_32 rfl) ?_
  refine Sg.callI (pc' := 36) (t := 0) (μ' := m_X9_callee) (args := [(4, 0), (0, v1), (0, v2)]) (mi_invV (n := 2) (r := 2) dX10_calls_33 hC_2 (by omega) rfl rfl wN_X9_callee rfl ⟨by decide, by decide⟩ wL_X10_224 wI_X9_callee wS_X9_callee wB_X9 wC_X9_callee) (fun v hv => C_X9_callee hL 0 v1 v2 D2 (by omega) v hv) (Nat.le_of_ble_eq_true rfl) rfl rfl (fun y3 => ?_)
  exact Sg.ret (mi_ireturn dX10_calls_36 rfl (Or.inl rfl))
def B_X10_calls_23 (Z : MiZ) (v1 : Int) (v2 : Int) (D : MiD) : Option ((Int × MiD) ⊕ (Nat × MiD)) := B_X10_calls_24 Z v1 v2 0 D
set_option maxRecDepth 20000 in
theorem S_X10_calls_23 {Z : MiZ} (hL : CL Z) (v1 v2 : Int) (D : MiD) : Sg m_X10_calls 23 [(3, 0), (0, v1), (0, v2)] [(3, 0)] (D, Z) (mi_LT 0 Z) (B_X10_calls_23 Z v1 v2 D) := by
  unfold B_X10_calls_23
  refine Sg.go (pc' := 24) (mi_iconst (z := 0) dX10_calls_23 rfl) ?_
  exact S_X10_calls_24 hL v1 v2 0 D
def B_X10_calls (Z : MiZ) (v1 : Int) (v2 : Int) (D : MiD) : Option ((Int × MiD) ⊕ (Nat × MiD)) := if (B_X10_within v1 6) = 0 then (B_X10_calls_23 Z v1 v2 D) else (if (B_X10_within v2 12) = 0 then (B_X10_calls_23 Z v1 v2 D) else (B_X10_calls_24 Z v1 v2 1 D))
set_option maxRecDepth 20000 in
theorem S_X10_calls {Z : MiZ} (hL : CL Z) (v1 v2 : Int) (D : MiD) : Sg m_X10_calls 0 [(3, 0), (0, v1), (0, v2)] [] (D, Z) (mi_LT 0 Z) (B_X10_calls Z v1 v2 D) := by
  unfold B_X10_calls
  refine Sg.go (pc' := 1) (mi_aload_n dX10_calls_0 rfl) ?_
  refine Sg.go (pc' := 2) (mi_iload_n dX10_calls_1 rfl) ?_
  refine Sg.go (pc' := 4) (mi_bipush (z := 6) dX10_calls_2 rfl) ?_
  refine Sg.callP (pc' := 7) (t := 0) (v := (B_X10_within v1 6)) (μ' := m_X10_within) (args := [(0, v1), (0, 6)]) (mi_invS (n := 2) dX10_calls_4 rfl wN_X10_within rfl ⟨by decide, by decide⟩ wL_X10_34 wT_X10_within wB_X10 wC_X10_within) (C_X10_within hL v1 6 D) (Nat.le_of_ble_eq_true rfl) rfl rfl ?_
  refine Sg.ite (fun h1 => ?_) (fun h1 => ?_)
  · refine Sg.go (pc' := 23) (mi_ifeq_t (tgt := 23) dX10_calls_7 (by decide) h1) ?_
    exact S_X10_calls_23 hL v1 v2 D
  · refine Sg.go (pc' := 10) (mi_ifeq_f (tgt := 23) dX10_calls_7 (by decide) h1) ?_
    refine Sg.go (pc' := 11) (mi_iload_n dX10_calls_10 rfl) ?_
    refine Sg.go (pc' := 13) (mi_bipush (z := 12) dX10_calls_11 rfl) ?_
    refine Sg.callP (pc' := 16) (t := 0) (v := (B_X10_within v2 12)) (μ' := m_X10_within) (args := [(0, v2), (0, 12)]) (mi_invS (n := 2) dX10_calls_13 rfl wN_X10_within rfl ⟨by decide, by decide⟩ wL_X10_34 wT_X10_within wB_X10 wC_X10_within) (C_X10_within hL v2 12 D) (Nat.le_of_ble_eq_true rfl) rfl rfl ?_
    refine Sg.ite (fun h2 => ?_) (fun h2 => ?_)
    · refine Sg.go (pc' := 23) (mi_ifeq_t (tgt := 23) dX10_calls_16 (by decide) h2) ?_
      exact S_X10_calls_23 hL v1 v2 D
    · refine Sg.go (pc' := 19) (mi_ifeq_f (tgt := 23) dX10_calls_16 (by decide) h2) ?_
      refine Sg.go (pc' := 20) (mi_iconst (z := 1) dX10_calls_19 rfl) ?_
      refine Sg.go (pc' := 24) (mi_goto (tgt := 24) dX10_calls_20 (by decide)) ?_
      exact S_X10_calls_24 hL v1 v2 1 D
theorem C_X10_calls {Z : MiZ} (hL : CL Z) (a1 a2 : Int) (D : MiD) (b : (Int × MiD) ⊕ (Nat × MiD)) (hb : B_X10_calls Z a1 a2 D = some b) : MC m_X10_calls [(3, 0), (0, a1), (0, a2)] (D, Z) ((mi_LT 0 Z) b) := MC.ofSg (L := (mi_LT 0 Z)) (μ := m_X10_calls) (args := [(3, 0), (0, a1), (0, a2)]) (M := (D, Z)) rfl wP_X10 (Nat.le_of_ble_eq_true rfl) (show Sg m_X10_calls 0 [(3, 0), (0, a1), (0, a2)] [] (D, Z) (mi_LT 0 Z) (B_X10_calls Z a1 a2 D) from S_X10_calls hL a1 a2 D) hb
abbrev m_X10_cell : MiI := (yX10_cell, cX10_cell, 5, (some .long), 7, none)
def B_X10_cell_28 (v1 : Int) (v2 : Int) (v3 : Int) (s1 : Int) (D : MiD) : Option ((Int × MiD) ⊕ (Nat × MiD)) := if s1 = 0 ∨ s1 = 1 then (mi_bn (B_X10_needElement s1 D) Sum.inr fun D2 => mi_bi (B_X9_rowAt D2 0 v1 v2) fun y3 => if 0 ≤ y3 ∧ y3 < 120 then (if (B_X10_within v3 (D2 3 y3 1)) = 0 then (some (.inl (0, D2))) else (if 0 ≤ v3 ∧ v3 < 9 then (some (.inl ((D2 18 y3 v3), D2))) else none)) else none) else none
set_option maxRecDepth 20000 in
theorem S_X10_cell_28 {Z : MiZ} (hL : CL Z) (v1 v2 v3 s1 : Int) (D : MiD) : Sg m_X10_cell 28 [(3, 0), (0, v1), (0, v2), (0, v3), mi_un] [(0, s1), (3, 0)] (D, Z) (mi_LT 1 Z) (B_X10_cell_28 v1 v2 v3 s1 D) := by
  unfold B_X10_cell_28
  refine Sg.ck (fun hk1 => ?_)
  refine Sg.callNT (pc' := 31) (μ' := m_X10_needElement) (args := [(3, 0), (0, s1)]) (mi_invV (n := 1) (r := 1) dX10_cell_28 hC_1 (by omega) rfl rfl wN_X10_needElement rfl ⟨by decide, by decide⟩ wL_X10_38 wI_X10_needElement wS_X10_needElement wB_X10 wC_X10_needElement) (fun v hv => C_X10_needElement hL s1 D (hk1) v hv) rfl (Nat.le_of_ble_eq_true rfl) rfl rfl (fun D2 => ?_)
  refine Sg.go (pc' := 32) (mi_aload_n dX10_cell_31 rfl) ?_
  refine Sg.go (pc' := 35) (mi_gfA (t := 2) (v := 0) (r := 1) (k := 4) dX10_cell_32 hC_1 (by decide) rfl wF_X10_20 (by omega) rfl hL.1.2.1) ?_
  refine Sg.go (pc' := 36) (mi_iload_n dX10_cell_35 rfl) ?_
  refine Sg.go (pc' := 37) (mi_iload_n dX10_cell_36 rfl) ?_
  refine Sg.callI (pc' := 40) (t := 5) (μ' := m_X9_rowAt) (args := [(4, 0), (0, v1), (0, v2)]) (mi_invV (n := 2) (r := 2) dX10_cell_37 hC_2 (by omega) rfl rfl wN_X9_rowAt rfl ⟨by decide, by decide⟩ wL_X10_242 wI_X9_rowAt wS_X9_rowAt wB_X9 wC_X9_rowAt) (fun v hv => C_X9_rowAt hL 0 v1 v2 D2 (by omega) v hv) (Nat.le_of_ble_eq_true rfl) rfl rfl (fun y3 => ?_)
  refine Sg.go (pc' := 42) (mi_astore (ls1 := [(3, 0), (0, v1), (0, v2), (0, v3), (5, y3)]) dX10_cell_40 (by decide) rfl) ?_
  refine Sg.go (pc' := 43) (mi_iload_n dX10_cell_42 rfl) ?_
  refine Sg.go (pc' := 45) (mi_aload dX10_cell_43 rfl) ?_
  refine Sg.ck (fun hk4 => ?_)
  refine Sg.go (pc' := 48) (mi_gfI (r := 3) (k := 1) dX10_cell_45 hC_3 (by decide) rfl wF_X10_249 (by omega) rfl) ?_
  refine Sg.callP (pc' := 51) (t := 0) (v := (B_X10_within v3 (D2 3 y3 1))) (μ' := m_X10_within) (args := [(0, v3), (0, (D2 3 y3 1))]) (mi_invS (n := 2) dX10_cell_48 rfl wN_X10_within rfl ⟨by decide, by decide⟩ wL_X10_34 wT_X10_within wB_X10 wC_X10_within) (C_X10_within hL v3 (D2 3 y3 1) D2) (Nat.le_of_ble_eq_true rfl) rfl rfl ?_
  refine Sg.ite (fun h5 => ?_) (fun h5 => ?_)
  · refine Sg.go (pc' := 64) (mi_ifeq_t (tgt := 64) dX10_cell_51 (by decide) h5) ?_
    refine Sg.go (pc' := 65) (mi_lconst (z := 0) dX10_cell_64 rfl) ?_
    exact Sg.ret (mi_lreturn dX10_cell_65 rfl)
  · refine Sg.go (pc' := 54) (mi_ifeq_f (tgt := 64) dX10_cell_51 (by decide) h5) ?_
    refine Sg.go (pc' := 56) (mi_aload dX10_cell_54 rfl) ?_
    refine Sg.go (pc' := 59) (mi_gfA (t := 18) (v := y3) (r := 3) (k := 3) dX10_cell_56 hC_3 (by decide) rfl wF_X10_254 (by omega) rfl (hL.2.2.2.1 _ 3 (by omega) (by omega) (by decide) (by decide))) ?_
    refine Sg.go (pc' := 60) (mi_iload_n dX10_cell_59 rfl) ?_
    refine Sg.ck (fun hk6 => ?_)
    refine Sg.go (pc' := 61) (mi_lald (n := 9) dX10_cell_60 rfl rfl (by omega) hk6) ?_
    refine Sg.go (pc' := 65) (mi_goto (tgt := 65) dX10_cell_61 (by decide)) ?_
    exact Sg.ret (mi_lreturn dX10_cell_65 rfl)
def B_X10_cell_23 (v1 : Int) (v2 : Int) (v3 : Int) (D : MiD) : Option ((Int × MiD) ⊕ (Nat × MiD)) := B_X10_cell_28 v1 v2 v3 1 D
set_option maxRecDepth 20000 in
theorem S_X10_cell_23 {Z : MiZ} (hL : CL Z) (v1 v2 v3 : Int) (D : MiD) : Sg m_X10_cell 23 [(3, 0), (0, v1), (0, v2), (0, v3), mi_un] [(3, 0)] (D, Z) (mi_LT 1 Z) (B_X10_cell_23 v1 v2 v3 D) := by
  unfold B_X10_cell_23
  refine Sg.go (pc' := 24) (mi_iconst (z := 1) dX10_cell_23 rfl) ?_
  refine Sg.go (pc' := 28) (mi_goto (tgt := 28) dX10_cell_24 (by decide)) ?_
  exact S_X10_cell_28 hL v1 v2 v3 1 D
def B_X10_cell_27 (v1 : Int) (v2 : Int) (v3 : Int) (D : MiD) : Option ((Int × MiD) ⊕ (Nat × MiD)) := B_X10_cell_28 v1 v2 v3 0 D
set_option maxRecDepth 20000 in
theorem S_X10_cell_27 {Z : MiZ} (hL : CL Z) (v1 v2 v3 : Int) (D : MiD) : Sg m_X10_cell 27 [(3, 0), (0, v1), (0, v2), (0, v3), mi_un] [(3, 0)] (D, Z) (mi_LT 1 Z) (B_X10_cell_27 v1 v2 v3 D) := by
  unfold B_X10_cell_27
  refine Sg.go (pc' := 28) (mi_iconst (z := 0) dX10_cell_27 rfl) ?_
  exact S_X10_cell_28 hL v1 v2 v3 0 D
def B_X10_cell (v1 : Int) (v2 : Int) (v3 : Int) (D : MiD) : Option ((Int × MiD) ⊕ (Nat × MiD)) := if (B_X10_within v1 10) = 0 then (B_X10_cell_27 v1 v2 v3 D) else (if v2 = (-1) then (B_X10_cell_23 v1 v2 v3 D) else (if (B_X10_within v2 5) = 0 then (B_X10_cell_27 v1 v2 v3 D) else (B_X10_cell_23 v1 v2 v3 D)))
set_option maxRecDepth 20000 in
theorem S_X10_cell {Z : MiZ} (hL : CL Z) (v1 v2 v3 : Int) (D : MiD) : Sg m_X10_cell 0 [(3, 0), (0, v1), (0, v2), (0, v3), mi_un] [] (D, Z) (mi_LT 1 Z) (B_X10_cell v1 v2 v3 D) := by
  unfold B_X10_cell
  refine Sg.go (pc' := 1) (mi_aload_n dX10_cell_0 rfl) ?_
  refine Sg.go (pc' := 2) (mi_iload_n dX10_cell_1 rfl) ?_
  refine Sg.go (pc' := 4) (mi_bipush (z := 10) dX10_cell_2 rfl) ?_
  refine Sg.callP (pc' := 7) (t := 0) (v := (B_X10_within v1 10)) (μ' := m_X10_within) (args := [(0, v1), (0, 10)]) (mi_invS (n := 2) dX10_cell_4 rfl wN_X10_within rfl ⟨by decide, by decide⟩ wL_X10_34 wT_X10_within wB_X10 wC_X10_within) (C_X10_within hL v1 10 D) (Nat.le_of_ble_eq_true rfl) rfl rfl ?_
  refine Sg.ite (fun h1 => ?_) (fun h1 => ?_)
  · refine Sg.go (pc' := 27) (mi_ifeq_t (tgt := 27) dX10_cell_7 (by decide) h1) ?_
    exact S_X10_cell_27 hL v1 v2 v3 D
  · refine Sg.go (pc' := 10) (mi_ifeq_f (tgt := 27) dX10_cell_7 (by decide) h1) ?_
    refine Sg.go (pc' := 11) (mi_iload_n dX10_cell_10 rfl) ?_
    refine Sg.go (pc' := 12) (mi_iconst (z := (-1)) dX10_cell_11 rfl) ?_
    refine Sg.ite (fun h2 => ?_) (fun h2 => ?_)
    · refine Sg.go (pc' := 23) (mi_icmpeq_t (tgt := 23) dX10_cell_12 (by decide) h2) ?_
      exact S_X10_cell_23 hL v1 v2 v3 D
    · refine Sg.go (pc' := 15) (mi_icmpeq_f (tgt := 23) dX10_cell_12 (by decide) h2) ?_
      refine Sg.go (pc' := 16) (mi_iload_n dX10_cell_15 rfl) ?_
      refine Sg.go (pc' := 17) (mi_iconst (z := 5) dX10_cell_16 rfl) ?_
      refine Sg.callP (pc' := 20) (t := 0) (v := (B_X10_within v2 5)) (μ' := m_X10_within) (args := [(0, v2), (0, 5)]) (mi_invS (n := 2) dX10_cell_17 rfl wN_X10_within rfl ⟨by decide, by decide⟩ wL_X10_34 wT_X10_within wB_X10 wC_X10_within) (C_X10_within hL v2 5 D) (Nat.le_of_ble_eq_true rfl) rfl rfl ?_
      refine Sg.ite (fun h3 => ?_) (fun h3 => ?_)
      · refine Sg.go (pc' := 27) (mi_ifeq_t (tgt := 27) dX10_cell_20 (by decide) h3) ?_
        exact S_X10_cell_27 hL v1 v2 v3 D
      · refine Sg.go (pc' := 23) (mi_ifeq_f (tgt := 27) dX10_cell_20 (by decide) h3) ?_
        exact S_X10_cell_23 hL v1 v2 v3 D
theorem C_X10_cell {Z : MiZ} (hL : CL Z) (a1 a2 a3 : Int) (D : MiD) (b : (Int × MiD) ⊕ (Nat × MiD)) (hb : B_X10_cell a1 a2 a3 D = some b) : MC m_X10_cell [(3, 0), (0, a1), (0, a2), (0, a3)] (D, Z) ((mi_LT 1 Z) b) := MC.ofSg (L := (mi_LT 1 Z)) (μ := m_X10_cell) (args := [(3, 0), (0, a1), (0, a2), (0, a3)]) (M := (D, Z)) rfl wP_X10 (Nat.le_of_ble_eq_true rfl) (show Sg m_X10_cell 0 [(3, 0), (0, a1), (0, a2), (0, a3), mi_un] [] (D, Z) (mi_LT 1 Z) (B_X10_cell a1 a2 a3 D) from S_X10_cell hL a1 a2 a3 D) hb
abbrev m_X10_datum : MiI := (yX10_datum, cX10_datum, 4, (some .int), 7, none)
def B_X10_datum_45 (v1 : Int) (v2 : Int) (v3 : Int) (s1 : Int) (D : MiD) : Option ((Int × MiD) ⊕ (Nat × MiD)) := if s1 = 0 ∨ s1 = 1 then (mi_bn (B_X10_needArgument s1 D) Sum.inr fun D2 => mi_bi (B_X9_layDatum 0 v1 v2 v3 D2) fun D3 => mi_bi (B_X9_allPlaces D3 0) fun y4 => some (.inl (y4, D3))) else none
set_option maxRecDepth 20000 in
theorem S_X10_datum_45 {Z : MiZ} (hL : CL Z) (v1 v2 v3 s1 : Int) (D : MiD) : Sg m_X10_datum 45 [(3, 0), (0, v1), (0, v2), (0, v3)] [(0, s1), (3, 0)] (D, Z) (mi_LT 0 Z) (B_X10_datum_45 v1 v2 v3 s1 D) := by
  unfold B_X10_datum_45
  refine Sg.ck (fun hk1 => ?_)
  refine Sg.callNT (pc' := 48) (μ' := m_X10_needArgument) (args := [(3, 0), (0, s1)]) (mi_invV (n := 1) (r := 1) dX10_datum_45 hC_1 (by omega) rfl rfl wN_X10_needArgument rfl ⟨by decide, by decide⟩ wL_X10_42 wI_X10_needArgument wS_X10_needArgument wB_X10 wC_X10_needArgument) (fun v hv => C_X10_needArgument hL s1 D (hk1) v hv) rfl (Nat.le_of_ble_eq_true rfl) rfl rfl (fun D2 => ?_)
  refine Sg.go (pc' := 49) (mi_aload_n dX10_datum_48 rfl) ?_
  refine Sg.go (pc' := 52) (mi_gfA (t := 2) (v := 0) (r := 1) (k := 4) dX10_datum_49 hC_1 (by decide) rfl wF_X10_20 (by omega) rfl hL.1.2.1) ?_
  refine Sg.go (pc' := 53) (mi_iload_n dX10_datum_52 rfl) ?_
  refine Sg.go (pc' := 54) (mi_iload_n dX10_datum_53 rfl) ?_
  refine Sg.go (pc' := 55) (mi_iload_n dX10_datum_54 rfl) ?_
  refine Sg.callV (pc' := 58) (μ' := m_X9_layDatum) (args := [(4, 0), (0, v1), (0, v2), (0, v3)]) (mi_invV (n := 3) (r := 2) dX10_datum_55 hC_2 (by omega) rfl rfl wN_X9_layDatum rfl ⟨by decide, by decide⟩ wL_X10_96 wI_X9_layDatum wS_X9_layDatum wB_X9 wC_X9_layDatum) (fun v hv => C_X9_layDatum hL 0 v1 v2 v3 D2 (by omega) v hv) (Nat.le_of_ble_eq_true rfl) rfl rfl (fun D3 => ?_)
  refine Sg.go (pc' := 59) (mi_aload_n dX10_datum_58 rfl) ?_
  refine Sg.go (pc' := 62) (mi_gfA (t := 2) (v := 0) (r := 1) (k := 4) dX10_datum_59 hC_1 (by decide) rfl wF_X10_20 (by omega) rfl hL.1.2.1) ?_
  refine Sg.callI (pc' := 65) (t := 0) (μ' := m_X9_allPlaces) (args := [(4, 0)]) (mi_invV (n := 0) (r := 2) dX10_datum_62 hC_2 (by omega) rfl rfl wN_X9_allPlaces rfl ⟨by decide, by decide⟩ wL_X10_100 wI_X9_allPlaces wS_X9_allPlaces wB_X9 wC_X9_allPlaces) (fun v hv => C_X9_allPlaces hL 0 D3 (by omega) v hv) (Nat.le_of_ble_eq_true rfl) rfl rfl (fun y4 => ?_)
  exact Sg.ret (mi_ireturn dX10_datum_65 rfl (Or.inl rfl))
def B_X10_datum_44 (v1 : Int) (v2 : Int) (v3 : Int) (D : MiD) : Option ((Int × MiD) ⊕ (Nat × MiD)) := B_X10_datum_45 v1 v2 v3 0 D
set_option maxRecDepth 20000 in
theorem S_X10_datum_44 {Z : MiZ} (hL : CL Z) (v1 v2 v3 : Int) (D : MiD) : Sg m_X10_datum 44 [(3, 0), (0, v1), (0, v2), (0, v3)] [(3, 0)] (D, Z) (mi_LT 0 Z) (B_X10_datum_44 v1 v2 v3 D) := by
  unfold B_X10_datum_44
  refine Sg.go (pc' := 45) (mi_iconst (z := 0) dX10_datum_44 rfl) ?_
  exact S_X10_datum_45 hL v1 v2 v3 0 D
def B_X10_datum_37 (v1 : Int) (v2 : Int) (v3 : Int) (s1 : Int) (s2 : Int) (D : MiD) : Option ((Int × MiD) ⊕ (Nat × MiD)) := if s2 < s1 then (B_X10_datum_44 v1 v2 v3 D) else (B_X10_datum_45 v1 v2 v3 1 D)
set_option maxRecDepth 20000 in
theorem S_X10_datum_37 {Z : MiZ} (hL : CL Z) (v1 v2 v3 s1 s2 : Int) (D : MiD) : Sg m_X10_datum 37 [(3, 0), (0, v1), (0, v2), (0, v3)] [(0, s2), (0, s1), (3, 0)] (D, Z) (mi_LT 0 Z) (B_X10_datum_37 v1 v2 v3 s1 s2 D) := by
  unfold B_X10_datum_37
  refine Sg.ite (fun h1 => ?_) (fun h1 => ?_)
  · refine Sg.go (pc' := 44) (mi_icmpgt_t (tgt := 44) dX10_datum_37 (by decide) h1) ?_
    exact S_X10_datum_44 hL v1 v2 v3 D
  · refine Sg.go (pc' := 40) (mi_icmpgt_f (tgt := 44) dX10_datum_37 (by decide) h1) ?_
    refine Sg.go (pc' := 41) (mi_iconst (z := 1) dX10_datum_40 rfl) ?_
    refine Sg.go (pc' := 45) (mi_goto (tgt := 45) dX10_datum_41 (by decide)) ?_
    exact S_X10_datum_45 hL v1 v2 v3 1 D
def B_X10_datum (v1 : Int) (v2 : Int) (v3 : Int) (D : MiD) : Option ((Int × MiD) ⊕ (Nat × MiD)) := mi_bn (B_X10_needElement (B_X10_within v1 10) D) Sum.inr fun D1 => if (B_X10_within v2 13) = 0 then (B_X10_datum_44 v1 v2 v3 D1) else (if v3 < 0 then (B_X10_datum_44 v1 v2 v3 D1) else (if 11 ≤ v2 then (B_X10_datum_37 v1 v2 v3 v3 0 D1) else (B_X10_datum_37 v1 v2 v3 v3 9 D1)))
set_option maxRecDepth 20000 in
theorem S_X10_datum {Z : MiZ} (hL : CL Z) (v1 v2 v3 : Int) (D : MiD) : Sg m_X10_datum 0 [(3, 0), (0, v1), (0, v2), (0, v3)] [] (D, Z) (mi_LT 0 Z) (B_X10_datum v1 v2 v3 D) := by
  unfold B_X10_datum
  refine Sg.go (pc' := 1) (mi_aload_n dX10_datum_0 rfl) ?_
  refine Sg.go (pc' := 2) (mi_iload_n dX10_datum_1 rfl) ?_
  refine Sg.go (pc' := 4) (mi_bipush (z := 10) dX10_datum_2 rfl) ?_
  refine Sg.callP (pc' := 7) (t := 0) (v := (B_X10_within v1 10)) (μ' := m_X10_within) (args := [(0, v1), (0, 10)]) (mi_invS (n := 2) dX10_datum_4 rfl wN_X10_within rfl ⟨by decide, by decide⟩ wL_X10_34 wT_X10_within wB_X10 wC_X10_within) (C_X10_within hL v1 10 D) (Nat.le_of_ble_eq_true rfl) rfl rfl ?_
  refine Sg.callNT (pc' := 10) (μ' := m_X10_needElement) (args := [(3, 0), (0, (B_X10_within v1 10))]) (mi_invV (n := 1) (r := 1) dX10_datum_7 hC_1 (by omega) rfl rfl wN_X10_needElement rfl ⟨by decide, by decide⟩ wL_X10_38 wI_X10_needElement wS_X10_needElement wB_X10 wC_X10_needElement) (fun v hv => C_X10_needElement hL (B_X10_within v1 10) D ((by exact Z_X10_within)) v hv) rfl (Nat.le_of_ble_eq_true rfl) rfl rfl (fun D1 => ?_)
  refine Sg.go (pc' := 11) (mi_aload_n dX10_datum_10 rfl) ?_
  refine Sg.go (pc' := 12) (mi_iload_n dX10_datum_11 rfl) ?_
  refine Sg.go (pc' := 14) (mi_bipush (z := 13) dX10_datum_12 rfl) ?_
  refine Sg.callP (pc' := 17) (t := 0) (v := (B_X10_within v2 13)) (μ' := m_X10_within) (args := [(0, v2), (0, 13)]) (mi_invS (n := 2) dX10_datum_14 rfl wN_X10_within rfl ⟨by decide, by decide⟩ wL_X10_34 wT_X10_within wB_X10 wC_X10_within) (C_X10_within hL v2 13 D1) (Nat.le_of_ble_eq_true rfl) rfl rfl ?_
  refine Sg.ite (fun h2 => ?_) (fun h2 => ?_)
  · refine Sg.go (pc' := 44) (mi_ifeq_t (tgt := 44) dX10_datum_17 (by decide) h2) ?_
    exact S_X10_datum_44 hL v1 v2 v3 D1
  · refine Sg.go (pc' := 20) (mi_ifeq_f (tgt := 44) dX10_datum_17 (by decide) h2) ?_
    refine Sg.go (pc' := 21) (mi_iload_n dX10_datum_20 rfl) ?_
    refine Sg.ite (fun h3 => ?_) (fun h3 => ?_)
    · refine Sg.go (pc' := 44) (mi_iflt_t (tgt := 44) dX10_datum_21 (by decide) h3) ?_
      exact S_X10_datum_44 hL v1 v2 v3 D1
    · refine Sg.go (pc' := 24) (mi_iflt_f (tgt := 44) dX10_datum_21 (by decide) h3) ?_
      refine Sg.go (pc' := 25) (mi_iload_n dX10_datum_24 rfl) ?_
      refine Sg.go (pc' := 26) (mi_iload_n dX10_datum_25 rfl) ?_
      refine Sg.go (pc' := 28) (mi_bipush (z := 11) dX10_datum_26 rfl) ?_
      refine Sg.ite (fun h4 => ?_) (fun h4 => ?_)
      · refine Sg.go (pc' := 36) (mi_icmpge_t (tgt := 36) dX10_datum_28 (by decide) h4) ?_
        refine Sg.go (pc' := 37) (mi_iconst (z := 0) dX10_datum_36 rfl) ?_
        exact S_X10_datum_37 hL v1 v2 v3 v3 0 D1
      · refine Sg.go (pc' := 31) (mi_icmpge_f (tgt := 36) dX10_datum_28 (by decide) h4) ?_
        refine Sg.go (pc' := 33) (mi_bipush (z := 9) dX10_datum_31 rfl) ?_
        refine Sg.go (pc' := 37) (mi_goto (tgt := 37) dX10_datum_33 (by decide)) ?_
        exact S_X10_datum_37 hL v1 v2 v3 v3 9 D1
theorem C_X10_datum {Z : MiZ} (hL : CL Z) (a1 a2 a3 : Int) (D : MiD) (b : (Int × MiD) ⊕ (Nat × MiD)) (hb : B_X10_datum a1 a2 a3 D = some b) : MC m_X10_datum [(3, 0), (0, a1), (0, a2), (0, a3)] (D, Z) ((mi_LT 0 Z) b) := MC.ofSg (L := (mi_LT 0 Z)) (μ := m_X10_datum) (args := [(3, 0), (0, a1), (0, a2), (0, a3)]) (M := (D, Z)) rfl wP_X10 (Nat.le_of_ble_eq_true rfl) (show Sg m_X10_datum 0 [(3, 0), (0, a1), (0, a2), (0, a3)] [] (D, Z) (mi_LT 0 Z) (B_X10_datum a1 a2 a3 D) from S_X10_datum hL a1 a2 a3 D) hb
abbrev m_X10_datumOf : MiI := (yX10_datumOf, cX10_datumOf, 4, (some .int), 7, none)
def B_X10_datumOf (v1 : Int) (v2 : Int) (D : MiD) : Option ((Int × MiD) ⊕ (Nat × MiD)) := mi_bn (B_X10_needElement (B_X10_within v1 10) D) Sum.inr fun D1 => mi_bi (B_X9_rowAt D1 0 v1 (-1)) fun y2 => if v2 = 0 then (if 0 ≤ y2 ∧ y2 < 120 then (some (.inl ((D1 3 y2 0), D1))) else none) else (if v2 = 1 then (if 0 ≤ y2 ∧ y2 < 120 then (some (.inl ((D1 3 y2 1), D1))) else none) else (if v2 = 2 then (mi_bi (B_X9_shadowBits D1 0 v1) fun y9 => some (.inl (y9, D1))) else (mi_bn (B_X10_needArgument 0 D1) Sum.inr fun D10 => some (.inl ((-1), D10)))))
set_option maxRecDepth 20000 in
theorem S_X10_datumOf {Z : MiZ} (hL : CL Z) (v1 v2 : Int) (D : MiD) : Sg m_X10_datumOf 0 [(3, 0), (0, v1), (0, v2), mi_un] [] (D, Z) (mi_LT 0 Z) (B_X10_datumOf v1 v2 D) := by
  unfold B_X10_datumOf
  refine Sg.go (pc' := 1) (mi_aload_n dX10_datumOf_0 rfl) ?_
  refine Sg.go (pc' := 2) (mi_iload_n dX10_datumOf_1 rfl) ?_
  refine Sg.go (pc' := 4) (mi_bipush (z := 10) dX10_datumOf_2 rfl) ?_
  refine Sg.callP (pc' := 7) (t := 0) (v := (B_X10_within v1 10)) (μ' := m_X10_within) (args := [(0, v1), (0, 10)]) (mi_invS (n := 2) dX10_datumOf_4 rfl wN_X10_within rfl ⟨by decide, by decide⟩ wL_X10_34 wT_X10_within wB_X10 wC_X10_within) (C_X10_within hL v1 10 D) (Nat.le_of_ble_eq_true rfl) rfl rfl ?_
  refine Sg.callNT (pc' := 10) (μ' := m_X10_needElement) (args := [(3, 0), (0, (B_X10_within v1 10))]) (mi_invV (n := 1) (r := 1) dX10_datumOf_7 hC_1 (by omega) rfl rfl wN_X10_needElement rfl ⟨by decide, by decide⟩ wL_X10_38 wI_X10_needElement wS_X10_needElement wB_X10 wC_X10_needElement) (fun v hv => C_X10_needElement hL (B_X10_within v1 10) D ((by exact Z_X10_within)) v hv) rfl (Nat.le_of_ble_eq_true rfl) rfl rfl (fun D1 => ?_)
  refine Sg.go (pc' := 11) (mi_aload_n dX10_datumOf_10 rfl) ?_
  refine Sg.go (pc' := 14) (mi_gfA (t := 2) (v := 0) (r := 1) (k := 4) dX10_datumOf_11 hC_1 (by decide) rfl wF_X10_20 (by omega) rfl hL.1.2.1) ?_
  refine Sg.go (pc' := 15) (mi_iload_n dX10_datumOf_14 rfl) ?_
  refine Sg.go (pc' := 16) (mi_iconst (z := (-1)) dX10_datumOf_15 rfl) ?_
  refine Sg.callI (pc' := 19) (t := 5) (μ' := m_X9_rowAt) (args := [(4, 0), (0, v1), (0, (-1))]) (mi_invV (n := 2) (r := 2) dX10_datumOf_16 hC_2 (by omega) rfl rfl wN_X9_rowAt rfl ⟨by decide, by decide⟩ wL_X10_242 wI_X9_rowAt wS_X9_rowAt wB_X9 wC_X9_rowAt) (fun v hv => C_X9_rowAt hL 0 v1 (-1) D1 (by omega) v hv) (Nat.le_of_ble_eq_true rfl) rfl rfl (fun y2 => ?_)
  refine Sg.go (pc' := 20) (mi_astore_n (ls1 := [(3, 0), (0, v1), (0, v2), (5, y2)]) dX10_datumOf_19 (by decide) rfl) ?_
  refine Sg.go (pc' := 21) (mi_iload_n dX10_datumOf_20 rfl) ?_
  refine Sg.ite (fun h4 => ?_) (fun h4 => ?_)
  · refine Sg.go (pc' := 48) (mi_tabIn (tgt := 48) dX10_datumOf_21 (by omega) (by omega) (by rw [h4]; rfl) (by decide)) ?_
    refine Sg.go (pc' := 49) (mi_aload_n dX10_datumOf_48 rfl) ?_
    refine Sg.ck (fun hk5 => ?_)
    refine Sg.go (pc' := 52) (mi_gfI (r := 3) (k := 0) dX10_datumOf_49 hC_3 (by decide) rfl wF_X10_246 (by omega) rfl) ?_
    exact Sg.ret (mi_ireturn dX10_datumOf_52 rfl (Or.inl rfl))
  · refine Sg.ite (fun h6 => ?_) (fun h6 => ?_)
    · refine Sg.go (pc' := 53) (mi_tabIn (tgt := 53) dX10_datumOf_21 (by omega) (by omega) (by rw [h6]; rfl) (by decide)) ?_
      refine Sg.go (pc' := 54) (mi_aload_n dX10_datumOf_53 rfl) ?_
      refine Sg.ck (fun hk7 => ?_)
      refine Sg.go (pc' := 57) (mi_gfI (r := 3) (k := 1) dX10_datumOf_54 hC_3 (by decide) rfl wF_X10_249 (by omega) rfl) ?_
      exact Sg.ret (mi_ireturn dX10_datumOf_57 rfl (Or.inl rfl))
    · refine Sg.ite (fun h8 => ?_) (fun h8 => ?_)
      · refine Sg.go (pc' := 58) (mi_tabIn (tgt := 58) dX10_datumOf_21 (by omega) (by omega) (by rw [h8]; rfl) (by decide)) ?_
        refine Sg.go (pc' := 59) (mi_aload_n dX10_datumOf_58 rfl) ?_
        refine Sg.go (pc' := 62) (mi_gfA (t := 2) (v := 0) (r := 1) (k := 4) dX10_datumOf_59 hC_1 (by decide) rfl wF_X10_20 (by omega) rfl hL.1.2.1) ?_
        refine Sg.go (pc' := 63) (mi_iload_n dX10_datumOf_62 rfl) ?_
        refine Sg.callI (pc' := 66) (t := 0) (μ' := m_X9_shadowBits) (args := [(4, 0), (0, v1)]) (mi_invV (n := 1) (r := 2) dX10_datumOf_63 hC_2 (by omega) rfl rfl wN_X9_shadowBits rfl ⟨by decide, by decide⟩ wL_X10_251 wI_X9_shadowBits wS_X9_shadowBits wB_X9 wC_X9_shadowBits) (fun v hv => C_X9_shadowBits hL 0 v1 D1 (by omega) v hv) (Nat.le_of_ble_eq_true rfl) rfl rfl (fun y9 => ?_)
        exact Sg.ret (mi_ireturn dX10_datumOf_66 rfl (Or.inl rfl))
      · refine Sg.go (pc' := 67) (mi_tabOut (tgt := 67) dX10_datumOf_21 (by omega) (by decide)) ?_
        refine Sg.go (pc' := 68) (mi_aload_n dX10_datumOf_67 rfl) ?_
        refine Sg.go (pc' := 69) (mi_iconst (z := 0) dX10_datumOf_68 rfl) ?_
        refine Sg.callNT (pc' := 72) (μ' := m_X10_needArgument) (args := [(3, 0), (0, 0)]) (mi_invV (n := 1) (r := 1) dX10_datumOf_69 hC_1 (by omega) rfl rfl wN_X10_needArgument rfl ⟨by decide, by decide⟩ wL_X10_42 wI_X10_needArgument wS_X10_needArgument wB_X10 wC_X10_needArgument) (fun v hv => C_X10_needArgument hL 0 D1 (Or.inl rfl) v hv) rfl (Nat.le_of_ble_eq_true rfl) rfl rfl (fun D10 => ?_)
        refine Sg.go (pc' := 73) (mi_iconst (z := (-1)) dX10_datumOf_72 rfl) ?_
        exact Sg.ret (mi_ireturn dX10_datumOf_73 rfl (Or.inl rfl))
theorem C_X10_datumOf {Z : MiZ} (hL : CL Z) (a1 a2 : Int) (D : MiD) (b : (Int × MiD) ⊕ (Nat × MiD)) (hb : B_X10_datumOf a1 a2 D = some b) : MC m_X10_datumOf [(3, 0), (0, a1), (0, a2)] (D, Z) ((mi_LT 0 Z) b) := MC.ofSg (L := (mi_LT 0 Z)) (μ := m_X10_datumOf) (args := [(3, 0), (0, a1), (0, a2)]) (M := (D, Z)) rfl wP_X10 (Nat.le_of_ble_eq_true rfl) (show Sg m_X10_datumOf 0 [(3, 0), (0, a1), (0, a2), mi_un] [] (D, Z) (mi_LT 0 Z) (B_X10_datumOf a1 a2 D) from S_X10_datumOf hL a1 a2 D) hb
abbrev m_X10_entry : MiI := (yX10_entry, cX10_entry, 2, (some .int), 7, none)
def B_X10_entry (Z : MiZ) (v1 : Int) (D : MiD) : Option ((Int × MiD) ⊕ (Nat × MiD)) := mi_bn (B_X10_needElement (B_X10_within v1 12) D) Sum.inr fun D1 => mi_bi (B_X9_topmostWith D1 Z 0 v1) fun y2 => some (.inl (y2, D1))
set_option maxRecDepth 20000 in
theorem S_X10_entry {Z : MiZ} (hL : CL Z) (v1 : Int) (D : MiD) : Sg m_X10_entry 0 [(3, 0), (0, v1)] [] (D, Z) (mi_LT 0 Z) (B_X10_entry Z v1 D) := by
  unfold B_X10_entry
  refine Sg.go (pc' := 1) (mi_aload_n dX10_entry_0 rfl) ?_
  refine Sg.go (pc' := 2) (mi_iload_n dX10_entry_1 rfl) ?_
  refine Sg.go (pc' := 4) (mi_bipush (z := 12) dX10_entry_2 rfl) ?_
  refine Sg.callP (pc' := 7) (t := 0) (v := (B_X10_within v1 12)) (μ' := m_X10_within) (args := [(0, v1), (0, 12)]) (mi_invS (n := 2) dX10_entry_4 rfl wN_X10_within rfl ⟨by decide, by decide⟩ wL_X10_34 wT_X10_within wB_X10 wC_X10_within) (C_X10_within hL v1 12 D) (Nat.le_of_ble_eq_true rfl) rfl rfl ?_
  refine Sg.callNT (pc' := 10) (μ' := m_X10_needElement) (args := [(3, 0), (0, (B_X10_within v1 12))]) (mi_invV (n := 1) (r := 1) dX10_entry_7 hC_1 (by omega) rfl rfl wN_X10_needElement rfl ⟨by decide, by decide⟩ wL_X10_38 wI_X10_needElement wS_X10_needElement wB_X10 wC_X10_needElement) (fun v hv => C_X10_needElement hL (B_X10_within v1 12) D ((by exact Z_X10_within)) v hv) rfl (Nat.le_of_ble_eq_true rfl) rfl rfl (fun D1 => ?_)
  refine Sg.go (pc' := 11) (mi_aload_n dX10_entry_10 rfl) ?_
  refine Sg.go (pc' := 14) (mi_gfA (t := 2) (v := 0) (r := 1) (k := 4) dX10_entry_11 hC_1 (by decide) rfl wF_X10_20 (by omega) rfl hL.1.2.1) ?_
  refine Sg.go (pc' := 15) (mi_iload_n dX10_entry_14 rfl) ?_
  refine Sg.callI (pc' := 18) (t := 0) (μ' := m_X9_topmostWith) (args := [(4, 0), (0, v1)]) (mi_invV (n := 1) (r := 2) dX10_entry_15 hC_2 (by omega) rfl rfl wN_X9_topmostWith rfl ⟨by decide, by decide⟩ wL_X10_227 wI_X9_topmostWith wS_X9_topmostWith wB_X9 wC_X9_topmostWith) (fun v hv => C_X9_topmostWith hL 0 v1 D1 (by omega) v hv) (Nat.le_of_ble_eq_true rfl) rfl rfl (fun y2 => ?_)
  exact Sg.ret (mi_ireturn dX10_entry_18 rfl (Or.inl rfl))
theorem C_X10_entry {Z : MiZ} (hL : CL Z) (a1 : Int) (D : MiD) (b : (Int × MiD) ⊕ (Nat × MiD)) (hb : B_X10_entry Z a1 D = some b) : MC m_X10_entry [(3, 0), (0, a1)] (D, Z) ((mi_LT 0 Z) b) := MC.ofSg (L := (mi_LT 0 Z)) (μ := m_X10_entry) (args := [(3, 0), (0, a1)]) (M := (D, Z)) rfl wP_X10 (Nat.le_of_ble_eq_true rfl) (show Sg m_X10_entry 0 [(3, 0), (0, a1)] [] (D, Z) (mi_LT 0 Z) (B_X10_entry Z a1 D) from S_X10_entry hL a1 D) hb
abbrev m_X10_frame : MiI := (yX10_frame, cX10_frame, 6, (some .int), 7, none)
def B_X10_frame_34 (v1 : Int) (v2 : Int) (v3 : Int) (s1 : Int) (D : MiD) : Option ((Int × MiD) ⊕ (Nat × MiD)) := if s1 = 0 ∨ s1 = 1 then (mi_bn (B_X10_needElement s1 D) Sum.inr fun D2 => if 0 ≤ v1 ∧ v1 < 6 then (mi_let (mi_w ((mi_w ((D2 4 (6 * 0 + v1) 4) - 1)) - v2)) fun x4 => if v3 = 0 then (if 0 ≤ x4 ∧ x4 < 10 then (some (.inl ((D2 19 (6 * 0 + v1) x4), D2))) else none) else (if v3 = 1 then (if 0 ≤ x4 ∧ x4 < 10 then (some (.inl ((D2 20 (6 * 0 + v1) x4), D2))) else none) else (if v3 = 2 then (if 0 ≤ x4 ∧ x4 < 10 then (some (.inl ((D2 21 (6 * 0 + v1) x4), D2))) else none) else (if v3 = 3 then (if 0 ≤ x4 ∧ x4 < 10 then (some (.inl ((D2 22 (6 * 0 + v1) x4), D2))) else none) else (mi_bn (B_X10_needArgument 0 D2) Sum.inr fun D14 => some (.inl ((-1), D14))))))) else none) else none
set_option maxRecDepth 20000 in
theorem S_X10_frame_34 {Z : MiZ} (hL : CL Z) (v1 v2 v3 s1 : Int) (D : MiD) : Sg m_X10_frame 34 [(3, 0), (0, v1), (0, v2), (0, v3), mi_un, mi_un] [(0, s1), (3, 0)] (D, Z) (mi_LT 0 Z) (B_X10_frame_34 v1 v2 v3 s1 D) := by
  unfold B_X10_frame_34
  refine Sg.ck (fun hk1 => ?_)
  refine Sg.callNT (pc' := 37) (μ' := m_X10_needElement) (args := [(3, 0), (0, s1)]) (mi_invV (n := 1) (r := 1) dX10_frame_34 hC_1 (by omega) rfl rfl wN_X10_needElement rfl ⟨by decide, by decide⟩ wL_X10_38 wI_X10_needElement wS_X10_needElement wB_X10 wC_X10_needElement) (fun v hv => C_X10_needElement hL s1 D (hk1) v hv) rfl (Nat.le_of_ble_eq_true rfl) rfl rfl (fun D2 => ?_)
  refine Sg.go (pc' := 38) (mi_aload_n dX10_frame_37 rfl) ?_
  refine Sg.go (pc' := 41) (mi_gfA (t := 2) (v := 0) (r := 1) (k := 4) dX10_frame_38 hC_1 (by decide) rfl wF_X10_20 (by omega) rfl hL.1.2.1) ?_
  refine Sg.go (pc' := 44) (mi_gfA (t := 14) (v := 0) (r := 2) (k := 3) dX10_frame_41 hC_2 (by decide) rfl wF_X10_103 (by omega) rfl (hL.2.1 _ 3 (by omega) (by omega) (by decide))) ?_
  refine Sg.go (pc' := 45) (mi_iload_n dX10_frame_44 rfl) ?_
  refine Sg.ck (fun hk3 => ?_)
  refine Sg.go (pc' := 46) (mi_aald (n := 6) (t := 4) (v := (6 * 0 + v1)) dX10_frame_45 rfl hA_14 rfl (by omega) hk3 rfl (hL.2.2.2.2.2.2.2 _ _ (by omega) (by omega) hk3.1 hk3.2)) ?_
  refine Sg.go (pc' := 48) (mi_astore (ls1 := [(3, 0), (0, v1), (0, v2), (0, v3), (6, (6 * 0 + v1)), mi_un]) dX10_frame_46 (by decide) rfl) ?_
  refine Sg.go (pc' := 50) (mi_aload dX10_frame_48 rfl) ?_
  refine Sg.go (pc' := 53) (mi_gfI (r := 4) (k := 4) dX10_frame_50 hC_4 (by decide) rfl wF_X10_107 (by omega) rfl) ?_
  refine Sg.go (pc' := 54) (mi_iconst (z := 1) dX10_frame_53 rfl) ?_
  refine Sg.go (pc' := 55) (mi_isub dX10_frame_54) ?_
  refine Sg.go (pc' := 56) (mi_iload_n dX10_frame_55 rfl) ?_
  refine Sg.go (pc' := 57) (mi_isub dX10_frame_56) ?_
  refine Sg.letI (fun x4 hx4 => ?_)
  refine Sg.go (pc' := 59) (mi_istore (ls1 := [(3, 0), (0, v1), (0, v2), (0, v3), (6, (6 * 0 + v1)), (0, x4)]) dX10_frame_57 (by decide) rfl) ?_
  refine Sg.go (pc' := 60) (mi_iload_n dX10_frame_59 rfl) ?_
  refine Sg.ite (fun h6 => ?_) (fun h6 => ?_)
  · refine Sg.go (pc' := 92) (mi_tabIn (tgt := 92) dX10_frame_60 (by omega) (by omega) (by rw [h6]; rfl) (by decide)) ?_
    refine Sg.go (pc' := 94) (mi_aload dX10_frame_92 rfl) ?_
    refine Sg.go (pc' := 97) (mi_gfA (t := 19) (v := (6 * 0 + v1)) (r := 4) (k := 0) dX10_frame_94 hC_4 (by decide) rfl wF_X10_206 (by omega) rfl (hL.2.2.2.2.1 _ 0 (by omega) (by omega) (by decide))) ?_
    refine Sg.go (pc' := 99) (mi_iload dX10_frame_97 rfl) ?_
    refine Sg.ck (fun hk7 => ?_)
    refine Sg.go (pc' := 100) (mi_iald (n := 10) dX10_frame_99 rfl rfl (by omega) hk7) ?_
    exact Sg.ret (mi_ireturn dX10_frame_100 rfl (Or.inl rfl))
  · refine Sg.ite (fun h8 => ?_) (fun h8 => ?_)
    · refine Sg.go (pc' := 101) (mi_tabIn (tgt := 101) dX10_frame_60 (by omega) (by omega) (by rw [h8]; rfl) (by decide)) ?_
      refine Sg.go (pc' := 103) (mi_aload dX10_frame_101 rfl) ?_
      refine Sg.go (pc' := 106) (mi_gfA (t := 20) (v := (6 * 0 + v1)) (r := 4) (k := 1) dX10_frame_103 hC_4 (by decide) rfl wF_X10_209 (by omega) rfl (hL.2.2.2.2.1 _ 1 (by omega) (by omega) (by decide))) ?_
      refine Sg.go (pc' := 108) (mi_iload dX10_frame_106 rfl) ?_
      refine Sg.ck (fun hk9 => ?_)
      refine Sg.go (pc' := 109) (mi_iald (n := 10) dX10_frame_108 rfl rfl (by omega) hk9) ?_
      exact Sg.ret (mi_ireturn dX10_frame_109 rfl (Or.inl rfl))
    · refine Sg.ite (fun h10 => ?_) (fun h10 => ?_)
      · refine Sg.go (pc' := 110) (mi_tabIn (tgt := 110) dX10_frame_60 (by omega) (by omega) (by rw [h10]; rfl) (by decide)) ?_
        refine Sg.go (pc' := 112) (mi_aload dX10_frame_110 rfl) ?_
        refine Sg.go (pc' := 115) (mi_gfA (t := 21) (v := (6 * 0 + v1)) (r := 4) (k := 2) dX10_frame_112 hC_4 (by decide) rfl wF_X10_211 (by omega) rfl (hL.2.2.2.2.1 _ 2 (by omega) (by omega) (by decide))) ?_
        refine Sg.go (pc' := 117) (mi_iload dX10_frame_115 rfl) ?_
        refine Sg.ck (fun hk11 => ?_)
        refine Sg.go (pc' := 118) (mi_iald (n := 10) dX10_frame_117 rfl rfl (by omega) hk11) ?_
        exact Sg.ret (mi_ireturn dX10_frame_118 rfl (Or.inl rfl))
      · refine Sg.ite (fun h12 => ?_) (fun h12 => ?_)
        · refine Sg.go (pc' := 119) (mi_tabIn (tgt := 119) dX10_frame_60 (by omega) (by omega) (by rw [h12]; rfl) (by decide)) ?_
          refine Sg.go (pc' := 121) (mi_aload dX10_frame_119 rfl) ?_
          refine Sg.go (pc' := 124) (mi_gfA (t := 22) (v := (6 * 0 + v1)) (r := 4) (k := 3) dX10_frame_121 hC_4 (by decide) rfl wF_X10_214 (by omega) rfl (hL.2.2.2.2.1 _ 3 (by omega) (by omega) (by decide))) ?_
          refine Sg.go (pc' := 126) (mi_iload dX10_frame_124 rfl) ?_
          refine Sg.ck (fun hk13 => ?_)
          refine Sg.go (pc' := 127) (mi_iald (n := 10) dX10_frame_126 rfl rfl (by omega) hk13) ?_
          exact Sg.ret (mi_ireturn dX10_frame_127 rfl (Or.inl rfl))
        · refine Sg.go (pc' := 128) (mi_tabOut (tgt := 128) dX10_frame_60 (by omega) (by decide)) ?_
          refine Sg.go (pc' := 129) (mi_aload_n dX10_frame_128 rfl) ?_
          refine Sg.go (pc' := 130) (mi_iconst (z := 0) dX10_frame_129 rfl) ?_
          refine Sg.callNT (pc' := 133) (μ' := m_X10_needArgument) (args := [(3, 0), (0, 0)]) (mi_invV (n := 1) (r := 1) dX10_frame_130 hC_1 (by omega) rfl rfl wN_X10_needArgument rfl ⟨by decide, by decide⟩ wL_X10_42 wI_X10_needArgument wS_X10_needArgument wB_X10 wC_X10_needArgument) (fun v hv => C_X10_needArgument hL 0 D2 (Or.inl rfl) v hv) rfl (Nat.le_of_ble_eq_true rfl) rfl rfl (fun D14 => ?_)
          refine Sg.go (pc' := 134) (mi_iconst (z := (-1)) dX10_frame_133 rfl) ?_
          exact Sg.ret (mi_ireturn dX10_frame_134 rfl (Or.inl rfl))
def B_X10_frame_33 (v1 : Int) (v2 : Int) (v3 : Int) (D : MiD) : Option ((Int × MiD) ⊕ (Nat × MiD)) := B_X10_frame_34 v1 v2 v3 0 D
set_option maxRecDepth 20000 in
theorem S_X10_frame_33 {Z : MiZ} (hL : CL Z) (v1 v2 v3 : Int) (D : MiD) : Sg m_X10_frame 33 [(3, 0), (0, v1), (0, v2), (0, v3), mi_un, mi_un] [(3, 0)] (D, Z) (mi_LT 0 Z) (B_X10_frame_33 v1 v2 v3 D) := by
  unfold B_X10_frame_33
  refine Sg.go (pc' := 34) (mi_iconst (z := 0) dX10_frame_33 rfl) ?_
  exact S_X10_frame_34 hL v1 v2 v3 0 D
def B_X10_frame (v1 : Int) (v2 : Int) (v3 : Int) (D : MiD) : Option ((Int × MiD) ⊕ (Nat × MiD)) := if (B_X10_within v1 6) = 0 then (B_X10_frame_33 v1 v2 v3 D) else (if 0 ≤ v1 ∧ v1 < 6 then (if (B_X10_within v2 (D 4 (6 * 0 + v1) 4)) = 0 then (B_X10_frame_33 v1 v2 v3 D) else (B_X10_frame_34 v1 v2 v3 1 D)) else none)
set_option maxRecDepth 20000 in
theorem S_X10_frame {Z : MiZ} (hL : CL Z) (v1 v2 v3 : Int) (D : MiD) : Sg m_X10_frame 0 [(3, 0), (0, v1), (0, v2), (0, v3), mi_un, mi_un] [] (D, Z) (mi_LT 0 Z) (B_X10_frame v1 v2 v3 D) := by
  unfold B_X10_frame
  refine Sg.go (pc' := 1) (mi_aload_n dX10_frame_0 rfl) ?_
  refine Sg.go (pc' := 2) (mi_iload_n dX10_frame_1 rfl) ?_
  refine Sg.go (pc' := 4) (mi_bipush (z := 6) dX10_frame_2 rfl) ?_
  refine Sg.callP (pc' := 7) (t := 0) (v := (B_X10_within v1 6)) (μ' := m_X10_within) (args := [(0, v1), (0, 6)]) (mi_invS (n := 2) dX10_frame_4 rfl wN_X10_within rfl ⟨by decide, by decide⟩ wL_X10_34 wT_X10_within wB_X10 wC_X10_within) (C_X10_within hL v1 6 D) (Nat.le_of_ble_eq_true rfl) rfl rfl ?_
  refine Sg.ite (fun h1 => ?_) (fun h1 => ?_)
  · refine Sg.go (pc' := 33) (mi_ifeq_t (tgt := 33) dX10_frame_7 (by decide) h1) ?_
    exact S_X10_frame_33 hL v1 v2 v3 D
  · refine Sg.go (pc' := 10) (mi_ifeq_f (tgt := 33) dX10_frame_7 (by decide) h1) ?_
    refine Sg.go (pc' := 11) (mi_iload_n dX10_frame_10 rfl) ?_
    refine Sg.go (pc' := 12) (mi_aload_n dX10_frame_11 rfl) ?_
    refine Sg.go (pc' := 15) (mi_gfA (t := 2) (v := 0) (r := 1) (k := 4) dX10_frame_12 hC_1 (by decide) rfl wF_X10_20 (by omega) rfl hL.1.2.1) ?_
    refine Sg.go (pc' := 18) (mi_gfA (t := 14) (v := 0) (r := 2) (k := 3) dX10_frame_15 hC_2 (by decide) rfl wF_X10_103 (by omega) rfl (hL.2.1 _ 3 (by omega) (by omega) (by decide))) ?_
    refine Sg.go (pc' := 19) (mi_iload_n dX10_frame_18 rfl) ?_
    refine Sg.ck (fun hk2 => ?_)
    refine Sg.go (pc' := 20) (mi_aald (n := 6) (t := 4) (v := (6 * 0 + v1)) dX10_frame_19 rfl hA_14 rfl (by omega) hk2 rfl (hL.2.2.2.2.2.2.2 _ _ (by omega) (by omega) hk2.1 hk2.2)) ?_
    refine Sg.go (pc' := 23) (mi_gfI (r := 4) (k := 4) dX10_frame_20 hC_4 (by decide) rfl wF_X10_107 (by omega) rfl) ?_
    refine Sg.callP (pc' := 26) (t := 0) (v := (B_X10_within v2 (D 4 (6 * 0 + v1) 4))) (μ' := m_X10_within) (args := [(0, v2), (0, (D 4 (6 * 0 + v1) 4))]) (mi_invS (n := 2) dX10_frame_23 rfl wN_X10_within rfl ⟨by decide, by decide⟩ wL_X10_34 wT_X10_within wB_X10 wC_X10_within) (C_X10_within hL v2 (D 4 (6 * 0 + v1) 4) D) (Nat.le_of_ble_eq_true rfl) rfl rfl ?_
    refine Sg.ite (fun h3 => ?_) (fun h3 => ?_)
    · refine Sg.go (pc' := 33) (mi_ifeq_t (tgt := 33) dX10_frame_26 (by decide) h3) ?_
      exact S_X10_frame_33 hL v1 v2 v3 D
    · refine Sg.go (pc' := 29) (mi_ifeq_f (tgt := 33) dX10_frame_26 (by decide) h3) ?_
      refine Sg.go (pc' := 30) (mi_iconst (z := 1) dX10_frame_29 rfl) ?_
      refine Sg.go (pc' := 34) (mi_goto (tgt := 34) dX10_frame_30 (by decide)) ?_
      exact S_X10_frame_34 hL v1 v2 v3 1 D
theorem C_X10_frame {Z : MiZ} (hL : CL Z) (a1 a2 a3 : Int) (D : MiD) (b : (Int × MiD) ⊕ (Nat × MiD)) (hb : B_X10_frame a1 a2 a3 D = some b) : MC m_X10_frame [(3, 0), (0, a1), (0, a2), (0, a3)] (D, Z) ((mi_LT 0 Z) b) := MC.ofSg (L := (mi_LT 0 Z)) (μ := m_X10_frame) (args := [(3, 0), (0, a1), (0, a2), (0, a3)]) (M := (D, Z)) rfl wP_X10 (Nat.le_of_ble_eq_true rfl) (show Sg m_X10_frame 0 [(3, 0), (0, a1), (0, a2), (0, a3), mi_un, mi_un] [] (D, Z) (mi_LT 0 Z) (B_X10_frame a1 a2 a3 D) from S_X10_frame hL a1 a2 a3 D) hb
abbrev m_X10_get : MiI := (yX10_get, cX10_get, 6, (some .long), 7, none)
def B_X10_get (v1 : Int) (v2 : Int) (v3 : Int) (D : MiD) : Option ((Int × MiD) ⊕ (Nat × MiD)) := mi_bn (B_X10_needElement (B_X10_within v2 10) D) Sum.inr fun D1 => mi_bn (B_X10_needArgument (B_X10_within v1 8) D1) Sum.inr fun D2 => mi_bi (B_X9_rowAt D2 0 v2 (-1)) fun y3 => if 0 ≤ y3 ∧ y3 < 120 then (mi_b2 (B_X6_readAs y3 v1 v3 (7 * 0) D2) fun y5 D6 => if y5 ≠ 0 then (some (.inl ((mi_W (y5 - 1000000000)), D6))) else (some (.inl ((D6 5 (7 * 0) 1), D6)))) else none
set_option maxRecDepth 20000 in
theorem S_X10_get {Z : MiZ} (hL : CL Z) (v1 v2 v3 : Int) (D : MiD) : Sg m_X10_get 0 [(3, 0), (0, v1), (0, v2), (0, v3), mi_un, mi_un] [] (D, Z) (mi_LT 1 Z) (B_X10_get v1 v2 v3 D) := by
  unfold B_X10_get
  refine Sg.go (pc' := 1) (mi_aload_n dX10_get_0 rfl) ?_
  refine Sg.go (pc' := 2) (mi_iload_n dX10_get_1 rfl) ?_
  refine Sg.go (pc' := 4) (mi_bipush (z := 10) dX10_get_2 rfl) ?_
  refine Sg.callP (pc' := 7) (t := 0) (v := (B_X10_within v2 10)) (μ' := m_X10_within) (args := [(0, v2), (0, 10)]) (mi_invS (n := 2) dX10_get_4 rfl wN_X10_within rfl ⟨by decide, by decide⟩ wL_X10_34 wT_X10_within wB_X10 wC_X10_within) (C_X10_within hL v2 10 D) (Nat.le_of_ble_eq_true rfl) rfl rfl ?_
  refine Sg.callNT (pc' := 10) (μ' := m_X10_needElement) (args := [(3, 0), (0, (B_X10_within v2 10))]) (mi_invV (n := 1) (r := 1) dX10_get_7 hC_1 (by omega) rfl rfl wN_X10_needElement rfl ⟨by decide, by decide⟩ wL_X10_38 wI_X10_needElement wS_X10_needElement wB_X10 wC_X10_needElement) (fun v hv => C_X10_needElement hL (B_X10_within v2 10) D ((by exact Z_X10_within)) v hv) rfl (Nat.le_of_ble_eq_true rfl) rfl rfl (fun D1 => ?_)
  refine Sg.go (pc' := 11) (mi_aload_n dX10_get_10 rfl) ?_
  refine Sg.go (pc' := 12) (mi_iload_n dX10_get_11 rfl) ?_
  refine Sg.go (pc' := 14) (mi_bipush (z := 8) dX10_get_12 rfl) ?_
  refine Sg.callP (pc' := 17) (t := 0) (v := (B_X10_within v1 8)) (μ' := m_X10_within) (args := [(0, v1), (0, 8)]) (mi_invS (n := 2) dX10_get_14 rfl wN_X10_within rfl ⟨by decide, by decide⟩ wL_X10_34 wT_X10_within wB_X10 wC_X10_within) (C_X10_within hL v1 8 D1) (Nat.le_of_ble_eq_true rfl) rfl rfl ?_
  refine Sg.callNT (pc' := 20) (μ' := m_X10_needArgument) (args := [(3, 0), (0, (B_X10_within v1 8))]) (mi_invV (n := 1) (r := 1) dX10_get_17 hC_1 (by omega) rfl rfl wN_X10_needArgument rfl ⟨by decide, by decide⟩ wL_X10_42 wI_X10_needArgument wS_X10_needArgument wB_X10 wC_X10_needArgument) (fun v hv => C_X10_needArgument hL (B_X10_within v1 8) D1 ((by exact Z_X10_within)) v hv) rfl (Nat.le_of_ble_eq_true rfl) rfl rfl (fun D2 => ?_)
  refine Sg.go (pc' := 21) (mi_aload_n dX10_get_20 rfl) ?_
  refine Sg.go (pc' := 24) (mi_gfA (t := 2) (v := 0) (r := 1) (k := 4) dX10_get_21 hC_1 (by decide) rfl wF_X10_20 (by omega) rfl hL.1.2.1) ?_
  refine Sg.go (pc' := 27) (mi_gfA (t := 5) (v := (7 * 0)) (r := 2) (k := 6) dX10_get_24 hC_2 (by decide) rfl wF_X10_258 (by omega) rfl (hL.2.2.1 _ (by omega) (by omega))) ?_
  refine Sg.go (pc' := 29) (mi_astore (ls1 := [(3, 0), (0, v1), (0, v2), (0, v3), (7, (7 * 0)), mi_un]) dX10_get_27 (by decide) rfl) ?_
  refine Sg.go (pc' := 30) (mi_aload_n dX10_get_29 rfl) ?_
  refine Sg.go (pc' := 33) (mi_gfA (t := 2) (v := 0) (r := 1) (k := 4) dX10_get_30 hC_1 (by decide) rfl wF_X10_20 (by omega) rfl hL.1.2.1) ?_
  refine Sg.go (pc' := 34) (mi_iload_n dX10_get_33 rfl) ?_
  refine Sg.go (pc' := 35) (mi_iconst (z := (-1)) dX10_get_34 rfl) ?_
  refine Sg.callI (pc' := 38) (t := 5) (μ' := m_X9_rowAt) (args := [(4, 0), (0, v2), (0, (-1))]) (mi_invV (n := 2) (r := 2) dX10_get_35 hC_2 (by omega) rfl rfl wN_X9_rowAt rfl ⟨by decide, by decide⟩ wL_X10_242 wI_X9_rowAt wS_X9_rowAt wB_X9 wC_X9_rowAt) (fun v hv => C_X9_rowAt hL 0 v2 (-1) D2 (by omega) v hv) (Nat.le_of_ble_eq_true rfl) rfl rfl (fun y3 => ?_)
  refine Sg.go (pc' := 39) (mi_iload_n dX10_get_38 rfl) ?_
  refine Sg.go (pc' := 40) (mi_iload_n dX10_get_39 rfl) ?_
  refine Sg.go (pc' := 42) (mi_aload dX10_get_40 rfl) ?_
  refine Sg.ck (fun hk4 => ?_)
  refine Sg.callD (pc' := 45) (t := 0) (μ' := m_X6_readAs) (args := [(5, y3), (0, v1), (0, v3), (7, (7 * 0))]) (mi_invV (n := 3) (r := 3) dX10_get_42 hC_3 (by omega) rfl rfl wN_X6_readAs rfl ⟨by decide, by decide⟩ wL_X10_261 wI_X6_readAs wS_X6_readAs wB_X6 wC_X6_readAs) (fun v hv => C_X6_readAs hL y3 v1 v3 (7 * 0) D2 (by omega) (by omega) v hv) (Nat.le_of_ble_eq_true rfl) rfl rfl (fun y5 D6 => ?_)
  refine Sg.go (pc' := 47) (mi_istore (ls1 := [(3, 0), (0, v1), (0, v2), (0, v3), (7, (7 * 0)), (0, y5)]) dX10_get_45 (by decide) rfl) ?_
  refine Sg.go (pc' := 49) (mi_iload dX10_get_47 rfl) ?_
  refine Sg.ite (fun h7 => ?_) (fun h7 => ?_)
  · refine Sg.go (pc' := 60) (mi_ifne_t (tgt := 60) dX10_get_49 (by decide) h7) ?_
    refine Sg.go (pc' := 62) (mi_iload dX10_get_60 rfl) ?_
    refine Sg.go (pc' := 63) (mi_i2l dX10_get_62) ?_
    refine Sg.go (pc' := 66) (mi_ldc2 (z := 1000000000) dX10_get_63 wK_X10_265 rfl) ?_
    refine Sg.go (pc' := 67) (mi_lsub dX10_get_66) ?_
    exact Sg.ret (mi_lreturn dX10_get_67 rfl)
  · refine Sg.go (pc' := 52) (mi_ifne_f (tgt := 60) dX10_get_49 (by decide) h7) ?_
    refine Sg.go (pc' := 54) (mi_aload dX10_get_52 rfl) ?_
    refine Sg.go (pc' := 57) (mi_gfJ (r := 5) (k := 1) dX10_get_54 hC_5 (by decide) rfl wF_X10_202 (by omega) rfl) ?_
    refine Sg.go (pc' := 67) (mi_goto (tgt := 67) dX10_get_57 (by decide)) ?_
    exact Sg.ret (mi_lreturn dX10_get_67 rfl)
theorem C_X10_get {Z : MiZ} (hL : CL Z) (a1 a2 a3 : Int) (D : MiD) (b : (Int × MiD) ⊕ (Nat × MiD)) (hb : B_X10_get a1 a2 a3 D = some b) : MC m_X10_get [(3, 0), (0, a1), (0, a2), (0, a3)] (D, Z) ((mi_LT 1 Z) b) := MC.ofSg (L := (mi_LT 1 Z)) (μ := m_X10_get) (args := [(3, 0), (0, a1), (0, a2), (0, a3)]) (M := (D, Z)) rfl wP_X10 (Nat.le_of_ble_eq_true rfl) (show Sg m_X10_get 0 [(3, 0), (0, a1), (0, a2), (0, a3), mi_un, mi_un] [] (D, Z) (mi_LT 1 Z) (B_X10_get a1 a2 a3 D) from S_X10_get hL a1 a2 a3 D) hb
abbrev m_X10_keep : MiI := (yX10_keep, cX10_keep, 4, (some .int), 7, none)
def B_X10_keep_41 (v1 : Int) (v2 : Int) (v3 : Int) (s1 : Int) (D : MiD) : Option ((Int × MiD) ⊕ (Nat × MiD)) := if s1 = 0 ∨ s1 = 1 then (mi_bn (B_X10_needArgument s1 D) Sum.inr fun D2 => if v3 ≠ 0 then (mi_b2 (B_X9_liftShadow 0 v1 v2 D2) fun y4 D5 => some (.inl (y4, D5))) else (mi_b2 (B_X9_keepShadow 0 v1 v2 D2) fun y6 D7 => some (.inl (y6, D7)))) else none
set_option maxRecDepth 20000 in
theorem S_X10_keep_41 {Z : MiZ} (hL : CL Z) (v1 v2 v3 s1 : Int) (D : MiD) : Sg m_X10_keep 41 [(3, 0), (0, v1), (0, v2), (0, v3)] [(0, s1), (3, 0)] (D, Z) (mi_LT 0 Z) (B_X10_keep_41 v1 v2 v3 s1 D) := by
  unfold B_X10_keep_41
  refine Sg.ck (fun hk1 => ?_)
  refine Sg.callNT (pc' := 44) (μ' := m_X10_needArgument) (args := [(3, 0), (0, s1)]) (mi_invV (n := 1) (r := 1) dX10_keep_41 hC_1 (by omega) rfl rfl wN_X10_needArgument rfl ⟨by decide, by decide⟩ wL_X10_42 wI_X10_needArgument wS_X10_needArgument wB_X10 wC_X10_needArgument) (fun v hv => C_X10_needArgument hL s1 D (hk1) v hv) rfl (Nat.le_of_ble_eq_true rfl) rfl rfl (fun D2 => ?_)
  refine Sg.go (pc' := 45) (mi_iload_n dX10_keep_44 rfl) ?_
  refine Sg.ite (fun h3 => ?_) (fun h3 => ?_)
  · refine Sg.go (pc' := 60) (mi_ifne_t (tgt := 60) dX10_keep_45 (by decide) h3) ?_
    refine Sg.go (pc' := 61) (mi_aload_n dX10_keep_60 rfl) ?_
    refine Sg.go (pc' := 64) (mi_gfA (t := 2) (v := 0) (r := 1) (k := 4) dX10_keep_61 hC_1 (by decide) rfl wF_X10_20 (by omega) rfl hL.1.2.1) ?_
    refine Sg.go (pc' := 65) (mi_iload_n dX10_keep_64 rfl) ?_
    refine Sg.go (pc' := 66) (mi_iload_n dX10_keep_65 rfl) ?_
    refine Sg.callD (pc' := 69) (t := 0) (μ' := m_X9_liftShadow) (args := [(4, 0), (0, v1), (0, v2)]) (mi_invV (n := 2) (r := 2) dX10_keep_66 hC_2 (by omega) rfl rfl wN_X9_liftShadow rfl ⟨by decide, by decide⟩ wL_X10_286 wI_X9_liftShadow wS_X9_liftShadow wB_X9 wC_X9_liftShadow) (fun v hv => C_X9_liftShadow hL 0 v1 v2 D2 (by omega) v hv) (Nat.le_of_ble_eq_true rfl) rfl rfl (fun y4 D5 => ?_)
    exact Sg.ret (mi_ireturn dX10_keep_69 rfl (Or.inl rfl))
  · refine Sg.go (pc' := 48) (mi_ifne_f (tgt := 60) dX10_keep_45 (by decide) h3) ?_
    refine Sg.go (pc' := 49) (mi_aload_n dX10_keep_48 rfl) ?_
    refine Sg.go (pc' := 52) (mi_gfA (t := 2) (v := 0) (r := 1) (k := 4) dX10_keep_49 hC_1 (by decide) rfl wF_X10_20 (by omega) rfl hL.1.2.1) ?_
    refine Sg.go (pc' := 53) (mi_iload_n dX10_keep_52 rfl) ?_
    refine Sg.go (pc' := 54) (mi_iload_n dX10_keep_53 rfl) ?_
    refine Sg.callD (pc' := 57) (t := 0) (μ' := m_X9_keepShadow) (args := [(4, 0), (0, v1), (0, v2)]) (mi_invV (n := 2) (r := 2) dX10_keep_54 hC_2 (by omega) rfl rfl wN_X9_keepShadow rfl ⟨by decide, by decide⟩ wL_X10_283 wI_X9_keepShadow wS_X9_keepShadow wB_X9 wC_X9_keepShadow) (fun v hv => C_X9_keepShadow hL 0 v1 v2 D2 (by omega) v hv) (Nat.le_of_ble_eq_true rfl) rfl rfl (fun y6 D7 => ?_)
    refine Sg.go (pc' := 69) (mi_goto (tgt := 69) dX10_keep_57 (by decide)) ?_
    exact Sg.ret (mi_ireturn dX10_keep_69 rfl (Or.inl rfl))
def B_X10_keep_36 (v1 : Int) (v2 : Int) (v3 : Int) (D : MiD) : Option ((Int × MiD) ⊕ (Nat × MiD)) := B_X10_keep_41 v1 v2 v3 1 D
set_option maxRecDepth 20000 in
theorem S_X10_keep_36 {Z : MiZ} (hL : CL Z) (v1 v2 v3 : Int) (D : MiD) : Sg m_X10_keep 36 [(3, 0), (0, v1), (0, v2), (0, v3)] [(3, 0)] (D, Z) (mi_LT 0 Z) (B_X10_keep_36 v1 v2 v3 D) := by
  unfold B_X10_keep_36
  refine Sg.go (pc' := 37) (mi_iconst (z := 1) dX10_keep_36 rfl) ?_
  refine Sg.go (pc' := 41) (mi_goto (tgt := 41) dX10_keep_37 (by decide)) ?_
  exact S_X10_keep_41 hL v1 v2 v3 1 D
def B_X10_keep_23 (v1 : Int) (v2 : Int) (v3 : Int) (s1 : Int) (D : MiD) : Option ((Int × MiD) ⊕ (Nat × MiD)) := if s1 = 0 ∨ s1 = 1 then (mi_bn (B_X10_needElement s1 D) Sum.inr fun D2 => if v3 = 0 then (B_X10_keep_36 v1 v2 v3 D2) else (if v3 ≠ 1 then (B_X10_keep_41 v1 v2 v3 0 D2) else (B_X10_keep_36 v1 v2 v3 D2))) else none
set_option maxRecDepth 20000 in
theorem S_X10_keep_23 {Z : MiZ} (hL : CL Z) (v1 v2 v3 s1 : Int) (D : MiD) : Sg m_X10_keep 23 [(3, 0), (0, v1), (0, v2), (0, v3)] [(0, s1), (3, 0)] (D, Z) (mi_LT 0 Z) (B_X10_keep_23 v1 v2 v3 s1 D) := by
  unfold B_X10_keep_23
  refine Sg.ck (fun hk1 => ?_)
  refine Sg.callNT (pc' := 26) (μ' := m_X10_needElement) (args := [(3, 0), (0, s1)]) (mi_invV (n := 1) (r := 1) dX10_keep_23 hC_1 (by omega) rfl rfl wN_X10_needElement rfl ⟨by decide, by decide⟩ wL_X10_38 wI_X10_needElement wS_X10_needElement wB_X10 wC_X10_needElement) (fun v hv => C_X10_needElement hL s1 D (hk1) v hv) rfl (Nat.le_of_ble_eq_true rfl) rfl rfl (fun D2 => ?_)
  refine Sg.go (pc' := 27) (mi_aload_n dX10_keep_26 rfl) ?_
  refine Sg.go (pc' := 28) (mi_iload_n dX10_keep_27 rfl) ?_
  refine Sg.ite (fun h3 => ?_) (fun h3 => ?_)
  · refine Sg.go (pc' := 36) (mi_ifeq_t (tgt := 36) dX10_keep_28 (by decide) h3) ?_
    exact S_X10_keep_36 hL v1 v2 v3 D2
  · refine Sg.go (pc' := 31) (mi_ifeq_f (tgt := 36) dX10_keep_28 (by decide) h3) ?_
    refine Sg.go (pc' := 32) (mi_iload_n dX10_keep_31 rfl) ?_
    refine Sg.go (pc' := 33) (mi_iconst (z := 1) dX10_keep_32 rfl) ?_
    refine Sg.ite (fun h4 => ?_) (fun h4 => ?_)
    · refine Sg.go (pc' := 40) (mi_icmpne_t (tgt := 40) dX10_keep_33 (by decide) h4) ?_
      refine Sg.go (pc' := 41) (mi_iconst (z := 0) dX10_keep_40 rfl) ?_
      exact S_X10_keep_41 hL v1 v2 v3 0 D2
    · refine Sg.go (pc' := 36) (mi_icmpne_f (tgt := 40) dX10_keep_33 (by decide) h4) ?_
      exact S_X10_keep_36 hL v1 v2 v3 D2
def B_X10_keep_22 (v1 : Int) (v2 : Int) (v3 : Int) (D : MiD) : Option ((Int × MiD) ⊕ (Nat × MiD)) := B_X10_keep_23 v1 v2 v3 0 D
set_option maxRecDepth 20000 in
theorem S_X10_keep_22 {Z : MiZ} (hL : CL Z) (v1 v2 v3 : Int) (D : MiD) : Sg m_X10_keep 22 [(3, 0), (0, v1), (0, v2), (0, v3)] [(3, 0)] (D, Z) (mi_LT 0 Z) (B_X10_keep_22 v1 v2 v3 D) := by
  unfold B_X10_keep_22
  refine Sg.go (pc' := 23) (mi_iconst (z := 0) dX10_keep_22 rfl) ?_
  exact S_X10_keep_23 hL v1 v2 v3 0 D
def B_X10_keep (v1 : Int) (v2 : Int) (v3 : Int) (D : MiD) : Option ((Int × MiD) ⊕ (Nat × MiD)) := if (B_X10_within v1 10) = 0 then (B_X10_keep_22 v1 v2 v3 D) else (if (B_X10_within v2 5) = 0 then (B_X10_keep_22 v1 v2 v3 D) else (B_X10_keep_23 v1 v2 v3 1 D))
set_option maxRecDepth 20000 in
theorem S_X10_keep {Z : MiZ} (hL : CL Z) (v1 v2 v3 : Int) (D : MiD) : Sg m_X10_keep 0 [(3, 0), (0, v1), (0, v2), (0, v3)] [] (D, Z) (mi_LT 0 Z) (B_X10_keep v1 v2 v3 D) := by
  unfold B_X10_keep
  refine Sg.go (pc' := 1) (mi_aload_n dX10_keep_0 rfl) ?_
  refine Sg.go (pc' := 2) (mi_iload_n dX10_keep_1 rfl) ?_
  refine Sg.go (pc' := 4) (mi_bipush (z := 10) dX10_keep_2 rfl) ?_
  refine Sg.callP (pc' := 7) (t := 0) (v := (B_X10_within v1 10)) (μ' := m_X10_within) (args := [(0, v1), (0, 10)]) (mi_invS (n := 2) dX10_keep_4 rfl wN_X10_within rfl ⟨by decide, by decide⟩ wL_X10_34 wT_X10_within wB_X10 wC_X10_within) (C_X10_within hL v1 10 D) (Nat.le_of_ble_eq_true rfl) rfl rfl ?_
  refine Sg.ite (fun h1 => ?_) (fun h1 => ?_)
  · refine Sg.go (pc' := 22) (mi_ifeq_t (tgt := 22) dX10_keep_7 (by decide) h1) ?_
    exact S_X10_keep_22 hL v1 v2 v3 D
  · refine Sg.go (pc' := 10) (mi_ifeq_f (tgt := 22) dX10_keep_7 (by decide) h1) ?_
    refine Sg.go (pc' := 11) (mi_iload_n dX10_keep_10 rfl) ?_
    refine Sg.go (pc' := 12) (mi_iconst (z := 5) dX10_keep_11 rfl) ?_
    refine Sg.callP (pc' := 15) (t := 0) (v := (B_X10_within v2 5)) (μ' := m_X10_within) (args := [(0, v2), (0, 5)]) (mi_invS (n := 2) dX10_keep_12 rfl wN_X10_within rfl ⟨by decide, by decide⟩ wL_X10_34 wT_X10_within wB_X10 wC_X10_within) (C_X10_within hL v2 5 D) (Nat.le_of_ble_eq_true rfl) rfl rfl ?_
    refine Sg.ite (fun h2 => ?_) (fun h2 => ?_)
    · refine Sg.go (pc' := 22) (mi_ifeq_t (tgt := 22) dX10_keep_15 (by decide) h2) ?_
      exact S_X10_keep_22 hL v1 v2 v3 D
    · refine Sg.go (pc' := 18) (mi_ifeq_f (tgt := 22) dX10_keep_15 (by decide) h2) ?_
      refine Sg.go (pc' := 19) (mi_iconst (z := 1) dX10_keep_18 rfl) ?_
      refine Sg.go (pc' := 23) (mi_goto (tgt := 23) dX10_keep_19 (by decide)) ?_
      exact S_X10_keep_23 hL v1 v2 v3 1 D
theorem C_X10_keep {Z : MiZ} (hL : CL Z) (a1 a2 a3 : Int) (D : MiD) (b : (Int × MiD) ⊕ (Nat × MiD)) (hb : B_X10_keep a1 a2 a3 D = some b) : MC m_X10_keep [(3, 0), (0, a1), (0, a2), (0, a3)] (D, Z) ((mi_LT 0 Z) b) := MC.ofSg (L := (mi_LT 0 Z)) (μ := m_X10_keep) (args := [(3, 0), (0, a1), (0, a2), (0, a3)]) (M := (D, Z)) rfl wP_X10 (Nat.le_of_ble_eq_true rfl) (show Sg m_X10_keep 0 [(3, 0), (0, a1), (0, a2), (0, a3)] [] (D, Z) (mi_LT 0 Z) (B_X10_keep a1 a2 a3 D) from S_X10_keep hL a1 a2 a3 D) hb
abbrev m_X10_kill : MiI := (yX10_kill, cX10_kill, 3, (some .int), 7, none)
def B_X10_kill (Z : MiZ) (v1 : Int) (D : MiD) : Option ((Int × MiD) ⊕ (Nat × MiD)) := mi_bn (B_X10_needElement (B_X10_within v1 6) D) Sum.inr fun D1 => if 0 ≤ v1 ∧ v1 < 6 then (mi_let (D1 4 (6 * 0 + v1) 4) fun x3 => mi_bi (B_X7_dropAll (6 * 0 + v1) D1) fun D4 => mi_bi (B_X9_settle Z 0 D4) fun D5 => some (.inl (x3, D5))) else none
set_option maxRecDepth 20000 in
theorem S_X10_kill {Z : MiZ} (hL : CL Z) (v1 : Int) (D : MiD) : Sg m_X10_kill 0 [(3, 0), (0, v1), mi_un] [] (D, Z) (mi_LT 0 Z) (B_X10_kill Z v1 D) := by
  unfold B_X10_kill
  refine Sg.go (pc' := 1) (mi_aload_n dX10_kill_0 rfl) ?_
  refine Sg.go (pc' := 2) (mi_iload_n dX10_kill_1 rfl) ?_
  refine Sg.go (pc' := 4) (mi_bipush (z := 6) dX10_kill_2 rfl) ?_
  refine Sg.callP (pc' := 7) (t := 0) (v := (B_X10_within v1 6)) (μ' := m_X10_within) (args := [(0, v1), (0, 6)]) (mi_invS (n := 2) dX10_kill_4 rfl wN_X10_within rfl ⟨by decide, by decide⟩ wL_X10_34 wT_X10_within wB_X10 wC_X10_within) (C_X10_within hL v1 6 D) (Nat.le_of_ble_eq_true rfl) rfl rfl ?_
  refine Sg.callNT (pc' := 10) (μ' := m_X10_needElement) (args := [(3, 0), (0, (B_X10_within v1 6))]) (mi_invV (n := 1) (r := 1) dX10_kill_7 hC_1 (by omega) rfl rfl wN_X10_needElement rfl ⟨by decide, by decide⟩ wL_X10_38 wI_X10_needElement wS_X10_needElement wB_X10 wC_X10_needElement) (fun v hv => C_X10_needElement hL (B_X10_within v1 6) D ((by exact Z_X10_within)) v hv) rfl (Nat.le_of_ble_eq_true rfl) rfl rfl (fun D1 => ?_)
  refine Sg.go (pc' := 11) (mi_aload_n dX10_kill_10 rfl) ?_
  refine Sg.go (pc' := 14) (mi_gfA (t := 2) (v := 0) (r := 1) (k := 4) dX10_kill_11 hC_1 (by decide) rfl wF_X10_20 (by omega) rfl hL.1.2.1) ?_
  refine Sg.go (pc' := 17) (mi_gfA (t := 14) (v := 0) (r := 2) (k := 3) dX10_kill_14 hC_2 (by decide) rfl wF_X10_103 (by omega) rfl (hL.2.1 _ 3 (by omega) (by omega) (by decide))) ?_
  refine Sg.go (pc' := 18) (mi_iload_n dX10_kill_17 rfl) ?_
  refine Sg.ck (fun hk2 => ?_)
  refine Sg.go (pc' := 19) (mi_aald (n := 6) (t := 4) (v := (6 * 0 + v1)) dX10_kill_18 rfl hA_14 rfl (by omega) hk2 rfl (hL.2.2.2.2.2.2.2 _ _ (by omega) (by omega) hk2.1 hk2.2)) ?_
  refine Sg.go (pc' := 22) (mi_gfI (r := 4) (k := 4) dX10_kill_19 hC_4 (by decide) rfl wF_X10_107 (by omega) rfl) ?_
  refine Sg.letI (fun x3 hx3 => ?_)
  refine Sg.go (pc' := 23) (mi_istore_n (ls1 := [(3, 0), (0, v1), (0, x3)]) dX10_kill_22 (by decide) rfl) ?_
  refine Sg.go (pc' := 24) (mi_aload_n dX10_kill_23 rfl) ?_
  refine Sg.go (pc' := 27) (mi_gfA (t := 2) (v := 0) (r := 1) (k := 4) dX10_kill_24 hC_1 (by decide) rfl wF_X10_20 (by omega) rfl hL.1.2.1) ?_
  refine Sg.go (pc' := 30) (mi_gfA (t := 14) (v := 0) (r := 2) (k := 3) dX10_kill_27 hC_2 (by decide) rfl wF_X10_103 (by omega) rfl (hL.2.1 _ 3 (by omega) (by omega) (by decide))) ?_
  refine Sg.go (pc' := 31) (mi_iload_n dX10_kill_30 rfl) ?_
  refine Sg.go (pc' := 32) (mi_aald (n := 6) (t := 4) (v := (6 * 0 + v1)) dX10_kill_31 rfl hA_14 rfl (by omega) hk2 rfl (hL.2.2.2.2.2.2.2 _ _ (by omega) (by omega) hk2.1 hk2.2)) ?_
  refine Sg.callV (pc' := 35) (μ' := m_X7_dropAll) (args := [(6, (6 * 0 + v1))]) (mi_invV (n := 0) (r := 4) dX10_kill_32 hC_4 (by omega) rfl rfl wN_X7_dropAll rfl ⟨by decide, by decide⟩ wL_X10_153 wI_X7_dropAll wS_X7_dropAll wB_X7 wC_X7_dropAll) (fun v hv => C_X7_dropAll hL (6 * 0 + v1) D1 (by omega) v hv) (Nat.le_of_ble_eq_true rfl) rfl rfl (fun D4 => ?_)
  refine Sg.go (pc' := 36) (mi_aload_n dX10_kill_35 rfl) ?_
  refine Sg.go (pc' := 39) (mi_gfA (t := 2) (v := 0) (r := 1) (k := 4) dX10_kill_36 hC_1 (by decide) rfl wF_X10_20 (by omega) rfl hL.1.2.1) ?_
  refine Sg.callV (pc' := 42) (μ' := m_X9_settle) (args := [(4, 0)]) (mi_invV (n := 0) (r := 2) dX10_kill_39 hC_2 (by omega) rfl rfl wN_X9_settle rfl ⟨by decide, by decide⟩ wL_X10_119 wI_X9_settle wS_X9_settle wB_X9 wC_X9_settle) (fun v hv => C_X9_settle hL 0 D4 (by omega) v hv) (Nat.le_of_ble_eq_true rfl) rfl rfl (fun D5 => ?_)
  refine Sg.go (pc' := 43) (mi_iload_n dX10_kill_42 rfl) ?_
  exact Sg.ret (mi_ireturn dX10_kill_43 rfl (Or.inl rfl))
theorem C_X10_kill {Z : MiZ} (hL : CL Z) (a1 : Int) (D : MiD) (b : (Int × MiD) ⊕ (Nat × MiD)) (hb : B_X10_kill Z a1 D = some b) : MC m_X10_kill [(3, 0), (0, a1)] (D, Z) ((mi_LT 0 Z) b) := MC.ofSg (L := (mi_LT 0 Z)) (μ := m_X10_kill) (args := [(3, 0), (0, a1)]) (M := (D, Z)) rfl wP_X10 (Nat.le_of_ble_eq_true rfl) (show Sg m_X10_kill 0 [(3, 0), (0, a1), mi_un] [] (D, Z) (mi_LT 0 Z) (B_X10_kill Z a1 D) from S_X10_kill hL a1 D) hb
abbrev m_X10_move : MiI := (yX10_move, cX10_move, 7, (some .int), 7, none)
def B_X10_move_24 (v1 : Int) (v2 : Int) (v3 : Int) (v4 : Int) (s1 : Int) (D : MiD) : Option ((Int × MiD) ⊕ (Nat × MiD)) := if s1 = 0 ∨ s1 = 1 then (mi_bn (B_X10_needElement s1 D) Sum.inr fun D2 => mi_bi (B_X9_rowAt D2 0 v1 (-1)) fun y3 => if 0 ≤ y3 ∧ y3 < 120 then (mi_b2 (B_X6_box y3 v2 (7 * 0) D2) fun y5 D6 => if y5 = 0 then (mi_bi (B_X9_rowAt D6 0 v3 (-1)) fun y8 => if 0 ≤ y8 ∧ y8 < 120 then (mi_b2 (B_X6_put y8 v4 (7 * 0) D6) fun y10 D11 => some (.inl ((mi_w (10 + y10)), D11))) else none) else (some (.inl (y5, D6)))) else none) else none
set_option maxRecDepth 20000 in
theorem S_X10_move_24 {Z : MiZ} (hL : CL Z) (v1 v2 v3 v4 s1 : Int) (D : MiD) : Sg m_X10_move 24 [(3, 0), (0, v1), (0, v2), (0, v3), (0, v4), mi_un, mi_un] [(0, s1), (3, 0)] (D, Z) (mi_LT 0 Z) (B_X10_move_24 v1 v2 v3 v4 s1 D) := by
  unfold B_X10_move_24
  refine Sg.ck (fun hk1 => ?_)
  refine Sg.callNT (pc' := 27) (μ' := m_X10_needElement) (args := [(3, 0), (0, s1)]) (mi_invV (n := 1) (r := 1) dX10_move_24 hC_1 (by omega) rfl rfl wN_X10_needElement rfl ⟨by decide, by decide⟩ wL_X10_38 wI_X10_needElement wS_X10_needElement wB_X10 wC_X10_needElement) (fun v hv => C_X10_needElement hL s1 D (hk1) v hv) rfl (Nat.le_of_ble_eq_true rfl) rfl rfl (fun D2 => ?_)
  refine Sg.go (pc' := 28) (mi_aload_n dX10_move_27 rfl) ?_
  refine Sg.go (pc' := 31) (mi_gfA (t := 2) (v := 0) (r := 1) (k := 4) dX10_move_28 hC_1 (by decide) rfl wF_X10_20 (by omega) rfl hL.1.2.1) ?_
  refine Sg.go (pc' := 34) (mi_gfA (t := 5) (v := (7 * 0)) (r := 2) (k := 6) dX10_move_31 hC_2 (by decide) rfl wF_X10_258 (by omega) rfl (hL.2.2.1 _ (by omega) (by omega))) ?_
  refine Sg.go (pc' := 36) (mi_astore (ls1 := [(3, 0), (0, v1), (0, v2), (0, v3), (0, v4), (7, (7 * 0)), mi_un]) dX10_move_34 (by decide) rfl) ?_
  refine Sg.go (pc' := 37) (mi_aload_n dX10_move_36 rfl) ?_
  refine Sg.go (pc' := 40) (mi_gfA (t := 2) (v := 0) (r := 1) (k := 4) dX10_move_37 hC_1 (by decide) rfl wF_X10_20 (by omega) rfl hL.1.2.1) ?_
  refine Sg.go (pc' := 41) (mi_iload_n dX10_move_40 rfl) ?_
  refine Sg.go (pc' := 42) (mi_iconst (z := (-1)) dX10_move_41 rfl) ?_
  refine Sg.callI (pc' := 45) (t := 5) (μ' := m_X9_rowAt) (args := [(4, 0), (0, v1), (0, (-1))]) (mi_invV (n := 2) (r := 2) dX10_move_42 hC_2 (by omega) rfl rfl wN_X9_rowAt rfl ⟨by decide, by decide⟩ wL_X10_242 wI_X9_rowAt wS_X9_rowAt wB_X9 wC_X9_rowAt) (fun v hv => C_X9_rowAt hL 0 v1 (-1) D2 (by omega) v hv) (Nat.le_of_ble_eq_true rfl) rfl rfl (fun y3 => ?_)
  refine Sg.go (pc' := 46) (mi_iload_n dX10_move_45 rfl) ?_
  refine Sg.go (pc' := 48) (mi_aload dX10_move_46 rfl) ?_
  refine Sg.ck (fun hk4 => ?_)
  refine Sg.callD (pc' := 51) (t := 0) (μ' := m_X6_box) (args := [(5, y3), (0, v2), (7, (7 * 0))]) (mi_invV (n := 2) (r := 3) dX10_move_48 hC_3 (by omega) rfl rfl wN_X6_box rfl ⟨by decide, by decide⟩ wL_X10_273 wI_X6_box wS_X6_box wB_X6 wC_X6_box) (fun v hv => C_X6_box hL y3 v2 (7 * 0) D2 (by omega) (by omega) v hv) (Nat.le_of_ble_eq_true rfl) rfl rfl (fun y5 D6 => ?_)
  refine Sg.go (pc' := 53) (mi_istore (ls1 := [(3, 0), (0, v1), (0, v2), (0, v3), (0, v4), (7, (7 * 0)), (0, y5)]) dX10_move_51 (by decide) rfl) ?_
  refine Sg.go (pc' := 55) (mi_iload dX10_move_53 rfl) ?_
  refine Sg.ite (fun h7 => ?_) (fun h7 => ?_)
  · refine Sg.go (pc' := 63) (mi_ifeq_t (tgt := 63) dX10_move_55 (by decide) h7) ?_
    refine Sg.go (pc' := 65) (mi_bipush (z := 10) dX10_move_63 rfl) ?_
    refine Sg.go (pc' := 66) (mi_aload_n dX10_move_65 rfl) ?_
    refine Sg.go (pc' := 69) (mi_gfA (t := 2) (v := 0) (r := 1) (k := 4) dX10_move_66 hC_1 (by decide) rfl wF_X10_20 (by omega) rfl hL.1.2.1) ?_
    refine Sg.go (pc' := 70) (mi_iload_n dX10_move_69 rfl) ?_
    refine Sg.go (pc' := 71) (mi_iconst (z := (-1)) dX10_move_70 rfl) ?_
    refine Sg.callI (pc' := 74) (t := 5) (μ' := m_X9_rowAt) (args := [(4, 0), (0, v3), (0, (-1))]) (mi_invV (n := 2) (r := 2) dX10_move_71 hC_2 (by omega) rfl rfl wN_X9_rowAt rfl ⟨by decide, by decide⟩ wL_X10_242 wI_X9_rowAt wS_X9_rowAt wB_X9 wC_X9_rowAt) (fun v hv => C_X9_rowAt hL 0 v3 (-1) D6 (by omega) v hv) (Nat.le_of_ble_eq_true rfl) rfl rfl (fun y8 => ?_)
    refine Sg.go (pc' := 76) (mi_iload dX10_move_74 rfl) ?_
    refine Sg.go (pc' := 78) (mi_aload dX10_move_76 rfl) ?_
    refine Sg.ck (fun hk9 => ?_)
    refine Sg.callD (pc' := 81) (t := 0) (μ' := m_X6_put) (args := [(5, y8), (0, v4), (7, (7 * 0))]) (mi_invV (n := 2) (r := 3) dX10_move_78 hC_3 (by omega) rfl rfl wN_X6_put rfl ⟨by decide, by decide⟩ wL_X10_277 wI_X6_put wS_X6_put wB_X6 wC_X6_put) (fun v hv => C_X6_put hL y8 v4 (7 * 0) D6 (by omega) (by omega) v hv) (Nat.le_of_ble_eq_true rfl) rfl rfl (fun y10 D11 => ?_)
    refine Sg.go (pc' := 82) (mi_iadd dX10_move_81) ?_
    exact Sg.ret (mi_ireturn dX10_move_82 rfl (Or.inl rfl))
  · refine Sg.go (pc' := 58) (mi_ifeq_f (tgt := 63) dX10_move_55 (by decide) h7) ?_
    refine Sg.go (pc' := 60) (mi_iload dX10_move_58 rfl) ?_
    refine Sg.go (pc' := 82) (mi_goto (tgt := 82) dX10_move_60 (by decide)) ?_
    exact Sg.ret (mi_ireturn dX10_move_82 rfl (Or.inl rfl))
def B_X10_move_23 (v1 : Int) (v2 : Int) (v3 : Int) (v4 : Int) (D : MiD) : Option ((Int × MiD) ⊕ (Nat × MiD)) := B_X10_move_24 v1 v2 v3 v4 0 D
set_option maxRecDepth 20000 in
theorem S_X10_move_23 {Z : MiZ} (hL : CL Z) (v1 v2 v3 v4 : Int) (D : MiD) : Sg m_X10_move 23 [(3, 0), (0, v1), (0, v2), (0, v3), (0, v4), mi_un, mi_un] [(3, 0)] (D, Z) (mi_LT 0 Z) (B_X10_move_23 v1 v2 v3 v4 D) := by
  unfold B_X10_move_23
  refine Sg.go (pc' := 24) (mi_iconst (z := 0) dX10_move_23 rfl) ?_
  exact S_X10_move_24 hL v1 v2 v3 v4 0 D
def B_X10_move (v1 : Int) (v2 : Int) (v3 : Int) (v4 : Int) (D : MiD) : Option ((Int × MiD) ⊕ (Nat × MiD)) := if (B_X10_within v1 10) = 0 then (B_X10_move_23 v1 v2 v3 v4 D) else (if (B_X10_within v3 10) = 0 then (B_X10_move_23 v1 v2 v3 v4 D) else (B_X10_move_24 v1 v2 v3 v4 1 D))
set_option maxRecDepth 20000 in
theorem S_X10_move {Z : MiZ} (hL : CL Z) (v1 v2 v3 v4 : Int) (D : MiD) : Sg m_X10_move 0 [(3, 0), (0, v1), (0, v2), (0, v3), (0, v4), mi_un, mi_un] [] (D, Z) (mi_LT 0 Z) (B_X10_move v1 v2 v3 v4 D) := by
  unfold B_X10_move
  refine Sg.go (pc' := 1) (mi_aload_n dX10_move_0 rfl) ?_
  refine Sg.go (pc' := 2) (mi_iload_n dX10_move_1 rfl) ?_
  refine Sg.go (pc' := 4) (mi_bipush (z := 10) dX10_move_2 rfl) ?_
  refine Sg.callP (pc' := 7) (t := 0) (v := (B_X10_within v1 10)) (μ' := m_X10_within) (args := [(0, v1), (0, 10)]) (mi_invS (n := 2) dX10_move_4 rfl wN_X10_within rfl ⟨by decide, by decide⟩ wL_X10_34 wT_X10_within wB_X10 wC_X10_within) (C_X10_within hL v1 10 D) (Nat.le_of_ble_eq_true rfl) rfl rfl ?_
  refine Sg.ite (fun h1 => ?_) (fun h1 => ?_)
  · refine Sg.go (pc' := 23) (mi_ifeq_t (tgt := 23) dX10_move_7 (by decide) h1) ?_
    exact S_X10_move_23 hL v1 v2 v3 v4 D
  · refine Sg.go (pc' := 10) (mi_ifeq_f (tgt := 23) dX10_move_7 (by decide) h1) ?_
    refine Sg.go (pc' := 11) (mi_iload_n dX10_move_10 rfl) ?_
    refine Sg.go (pc' := 13) (mi_bipush (z := 10) dX10_move_11 rfl) ?_
    refine Sg.callP (pc' := 16) (t := 0) (v := (B_X10_within v3 10)) (μ' := m_X10_within) (args := [(0, v3), (0, 10)]) (mi_invS (n := 2) dX10_move_13 rfl wN_X10_within rfl ⟨by decide, by decide⟩ wL_X10_34 wT_X10_within wB_X10 wC_X10_within) (C_X10_within hL v3 10 D) (Nat.le_of_ble_eq_true rfl) rfl rfl ?_
    refine Sg.ite (fun h2 => ?_) (fun h2 => ?_)
    · refine Sg.go (pc' := 23) (mi_ifeq_t (tgt := 23) dX10_move_16 (by decide) h2) ?_
      exact S_X10_move_23 hL v1 v2 v3 v4 D
    · refine Sg.go (pc' := 19) (mi_ifeq_f (tgt := 23) dX10_move_16 (by decide) h2) ?_
      refine Sg.go (pc' := 20) (mi_iconst (z := 1) dX10_move_19 rfl) ?_
      refine Sg.go (pc' := 24) (mi_goto (tgt := 24) dX10_move_20 (by decide)) ?_
      exact S_X10_move_24 hL v1 v2 v3 v4 1 D
theorem C_X10_move {Z : MiZ} (hL : CL Z) (a1 a2 a3 a4 : Int) (D : MiD) (b : (Int × MiD) ⊕ (Nat × MiD)) (hb : B_X10_move a1 a2 a3 a4 D = some b) : MC m_X10_move [(3, 0), (0, a1), (0, a2), (0, a3), (0, a4)] (D, Z) ((mi_LT 0 Z) b) := MC.ofSg (L := (mi_LT 0 Z)) (μ := m_X10_move) (args := [(3, 0), (0, a1), (0, a2), (0, a3), (0, a4)]) (M := (D, Z)) rfl wP_X10 (Nat.le_of_ble_eq_true rfl) (show Sg m_X10_move 0 [(3, 0), (0, a1), (0, a2), (0, a3), (0, a4), mi_un, mi_un] [] (D, Z) (mi_LT 0 Z) (B_X10_move a1 a2 a3 a4 D) from S_X10_move hL a1 a2 a3 a4 D) hb
abbrev m_X10_number : MiI := (yX10_number, cX10_number, 2, (some .long), 7, none)
def B_X10_number (v1 : Int) (D : MiD) : Option ((Int × MiD) ⊕ (Nat × MiD)) := mi_bn (B_X10_needElement (B_X10_within v1 6) D) Sum.inr fun D1 => if 0 ≤ v1 ∧ v1 < 6 then (some (.inl ((D1 5 ((6 * 0 + v1) + 1 + (6 * 0 + v1) / 6) 1), D1))) else none
set_option maxRecDepth 20000 in
theorem S_X10_number {Z : MiZ} (hL : CL Z) (v1 : Int) (D : MiD) : Sg m_X10_number 0 [(3, 0), (0, v1)] [] (D, Z) (mi_LT 1 Z) (B_X10_number v1 D) := by
  unfold B_X10_number
  refine Sg.go (pc' := 1) (mi_aload_n dX10_number_0 rfl) ?_
  refine Sg.go (pc' := 2) (mi_iload_n dX10_number_1 rfl) ?_
  refine Sg.go (pc' := 4) (mi_bipush (z := 6) dX10_number_2 rfl) ?_
  refine Sg.callP (pc' := 7) (t := 0) (v := (B_X10_within v1 6)) (μ' := m_X10_within) (args := [(0, v1), (0, 6)]) (mi_invS (n := 2) dX10_number_4 rfl wN_X10_within rfl ⟨by decide, by decide⟩ wL_X10_34 wT_X10_within wB_X10 wC_X10_within) (C_X10_within hL v1 6 D) (Nat.le_of_ble_eq_true rfl) rfl rfl ?_
  refine Sg.callNT (pc' := 10) (μ' := m_X10_needElement) (args := [(3, 0), (0, (B_X10_within v1 6))]) (mi_invV (n := 1) (r := 1) dX10_number_7 hC_1 (by omega) rfl rfl wN_X10_needElement rfl ⟨by decide, by decide⟩ wL_X10_38 wI_X10_needElement wS_X10_needElement wB_X10 wC_X10_needElement) (fun v hv => C_X10_needElement hL (B_X10_within v1 6) D ((by exact Z_X10_within)) v hv) rfl (Nat.le_of_ble_eq_true rfl) rfl rfl (fun D1 => ?_)
  refine Sg.go (pc' := 11) (mi_aload_n dX10_number_10 rfl) ?_
  refine Sg.go (pc' := 14) (mi_gfA (t := 2) (v := 0) (r := 1) (k := 4) dX10_number_11 hC_1 (by decide) rfl wF_X10_20 (by omega) rfl hL.1.2.1) ?_
  refine Sg.go (pc' := 17) (mi_gfA (t := 14) (v := 0) (r := 2) (k := 3) dX10_number_14 hC_2 (by decide) rfl wF_X10_103 (by omega) rfl (hL.2.1 _ 3 (by omega) (by omega) (by decide))) ?_
  refine Sg.go (pc' := 18) (mi_iload_n dX10_number_17 rfl) ?_
  refine Sg.ck (fun hk2 => ?_)
  refine Sg.go (pc' := 19) (mi_aald (n := 6) (t := 4) (v := (6 * 0 + v1)) dX10_number_18 rfl hA_14 rfl (by omega) hk2 rfl (hL.2.2.2.2.2.2.2 _ _ (by omega) (by omega) hk2.1 hk2.2)) ?_
  refine Sg.go (pc' := 22) (mi_gfA (t := 5) (v := ((6 * 0 + v1) + 1 + (6 * 0 + v1) / 6)) (r := 4) (k := 7) dX10_number_19 hC_4 (by decide) rfl wF_X10_181 (by omega) rfl (hL.2.2.2.2.2.1 _ (by omega) (by omega))) ?_
  refine Sg.go (pc' := 25) (mi_gfJ (r := 5) (k := 1) dX10_number_22 hC_5 (by decide) rfl wF_X10_202 (by omega) rfl) ?_
  exact Sg.ret (mi_lreturn dX10_number_25 rfl)
theorem C_X10_number {Z : MiZ} (hL : CL Z) (a1 : Int) (D : MiD) (b : (Int × MiD) ⊕ (Nat × MiD)) (hb : B_X10_number a1 D = some b) : MC m_X10_number [(3, 0), (0, a1)] (D, Z) ((mi_LT 1 Z) b) := MC.ofSg (L := (mi_LT 1 Z)) (μ := m_X10_number) (args := [(3, 0), (0, a1)]) (M := (D, Z)) rfl wP_X10 (Nat.le_of_ble_eq_true rfl) (show Sg m_X10_number 0 [(3, 0), (0, a1)] [] (D, Z) (mi_LT 1 Z) (B_X10_number a1 D) from S_X10_number hL a1 D) hb
abbrev m_X10_patchOf : MiI := (yX10_patchOf, cX10_patchOf, 4, (some .int), 7, none)
def B_X10_patchOf_29 (Z : MiZ) (v1 : Int) (v2 : Int) (s1 : Int) (D : MiD) : Option ((Int × MiD) ⊕ (Nat × MiD)) := if s1 = 0 ∨ s1 = 1 then (mi_bn (B_X10_needElement s1 D) Sum.inr fun D2 => if 0 ≤ v1 ∧ v1 < 8 then (if v2 = 0 then (mi_bi (B_X9_heightOf D2 0 v1) fun y6 => some (.inl (y6, D2))) else (if v2 = 1 then (if 0 ≤ (Z.1 12 0 v1) then (mi_bi (B_X4_functionBits D2 Z (Z.1 12 0 v1)) fun y9 => some (.inl (y9, D2))) else none) else (if v2 = 2 then (if 0 ≤ (Z.1 12 0 v1) then (if (D2 8 (Z.1 12 0 v1) 0) = 0 then (some (.inl (0, D2))) else (some (.inl (1, D2)))) else none) else (if v2 = 3 then (if 0 ≤ (Z.1 12 0 v1) then (mi_bi (B_X4_allDeeds D2 Z (Z.1 12 0 v1)) fun y15 => some (.inl (y15, D2))) else none) else (if v2 = 4 then (some (.inl ((D2 16 0 v1), D2))) else (mi_bn (B_X10_needArgument 0 D2) Sum.inr fun D17 => some (.inl ((-1), D17)))))))) else none) else none
set_option maxRecDepth 20000 in
theorem S_X10_patchOf_29 {Z : MiZ} (hL : CL Z) (v1 v2 s1 : Int) (D : MiD) : Sg m_X10_patchOf 29 [(3, 0), (0, v1), (0, v2), mi_un] [(0, s1), (3, 0)] (D, Z) (mi_LT 0 Z) (B_X10_patchOf_29 Z v1 v2 s1 D) := by
  unfold B_X10_patchOf_29
  refine Sg.ck (fun hk1 => ?_)
  refine Sg.callNT (pc' := 32) (μ' := m_X10_needElement) (args := [(3, 0), (0, s1)]) (mi_invV (n := 1) (r := 1) dX10_patchOf_29 hC_1 (by omega) rfl rfl wN_X10_needElement rfl ⟨by decide, by decide⟩ wL_X10_38 wI_X10_needElement wS_X10_needElement wB_X10 wC_X10_needElement) (fun v hv => C_X10_needElement hL s1 D (hk1) v hv) rfl (Nat.le_of_ble_eq_true rfl) rfl rfl (fun D2 => ?_)
  refine Sg.go (pc' := 33) (mi_aload_n dX10_patchOf_32 rfl) ?_
  refine Sg.go (pc' := 36) (mi_gfA (t := 2) (v := 0) (r := 1) (k := 4) dX10_patchOf_33 hC_1 (by decide) rfl wF_X10_20 (by omega) rfl hL.1.2.1) ?_
  refine Sg.go (pc' := 39) (mi_gfA (t := 12) (v := 0) (r := 2) (k := 1) dX10_patchOf_36 hC_2 (by decide) rfl wF_X10_92 (by omega) rfl (hL.2.1 _ 1 (by omega) (by omega) (by decide))) ?_
  refine Sg.go (pc' := 40) (mi_iload_n dX10_patchOf_39 rfl) ?_
  refine Sg.ck (fun hk3 => ?_)
  refine Sg.go (pc' := 41) (mi_aald (n := 8) (t := 8) (v := (Z.1 12 0 v1)) dX10_patchOf_40 rfl hA_12 rfl (by omega) hk3 rfl rfl) ?_
  refine Sg.go (pc' := 42) (mi_astore_n (ls1 := [(3, 0), (0, v1), (0, v2), (10, (Z.1 12 0 v1))]) dX10_patchOf_41 (by decide) rfl) ?_
  refine Sg.go (pc' := 43) (mi_iload_n dX10_patchOf_42 rfl) ?_
  refine Sg.ite (fun h5 => ?_) (fun h5 => ?_)
  · refine Sg.go (pc' := 76) (mi_tabIn (tgt := 76) dX10_patchOf_43 (by omega) (by omega) (by rw [h5]; rfl) (by decide)) ?_
    refine Sg.go (pc' := 77) (mi_aload_n dX10_patchOf_76 rfl) ?_
    refine Sg.go (pc' := 80) (mi_gfA (t := 2) (v := 0) (r := 1) (k := 4) dX10_patchOf_77 hC_1 (by decide) rfl wF_X10_20 (by omega) rfl hL.1.2.1) ?_
    refine Sg.go (pc' := 81) (mi_iload_n dX10_patchOf_80 rfl) ?_
    refine Sg.callI (pc' := 84) (t := 0) (μ' := m_X9_heightOf) (args := [(4, 0), (0, v1)]) (mi_invV (n := 1) (r := 2) dX10_patchOf_81 hC_2 (by omega) rfl rfl wN_X9_heightOf rfl ⟨by decide, by decide⟩ wL_X10_134 wI_X9_heightOf wS_X9_heightOf wB_X9 wC_X9_heightOf) (fun v hv => C_X9_heightOf hL 0 v1 D2 (by omega) v hv) (Nat.le_of_ble_eq_true rfl) rfl rfl (fun y6 => ?_)
    exact Sg.ret (mi_ireturn dX10_patchOf_84 rfl (Or.inl rfl))
  · refine Sg.ite (fun h7 => ?_) (fun h7 => ?_)
    · refine Sg.go (pc' := 85) (mi_tabIn (tgt := 85) dX10_patchOf_43 (by omega) (by omega) (by rw [h7]; rfl) (by decide)) ?_
      refine Sg.go (pc' := 86) (mi_aload_n dX10_patchOf_85 rfl) ?_
      refine Sg.ck (fun hk8 => ?_)
      refine Sg.callI (pc' := 89) (t := 0) (μ' := m_X4_functionBits) (args := [(10, (Z.1 12 0 v1))]) (mi_invV (n := 0) (r := 8) dX10_patchOf_86 hC_8 (by omega) rfl rfl wN_X4_functionBits rfl ⟨by decide, by decide⟩ wL_X10_230 wI_X4_functionBits wS_X4_functionBits wB_X4 wC_X4_functionBits) (fun v hv => C_X4_functionBits hL (Z.1 12 0 v1) D2 (by omega) v hv) (Nat.le_of_ble_eq_true rfl) rfl rfl (fun y9 => ?_)
      exact Sg.ret (mi_ireturn dX10_patchOf_89 rfl (Or.inl rfl))
    · refine Sg.ite (fun h10 => ?_) (fun h10 => ?_)
      · refine Sg.go (pc' := 90) (mi_tabIn (tgt := 90) dX10_patchOf_43 (by omega) (by omega) (by rw [h10]; rfl) (by decide)) ?_
        refine Sg.go (pc' := 91) (mi_aload_n dX10_patchOf_90 rfl) ?_
        refine Sg.ck (fun hk11 => ?_)
        refine Sg.go (pc' := 94) (mi_gfI (r := 8) (k := 0) dX10_patchOf_91 hC_8 (by decide) rfl wF_X10_233 (by omega) rfl) ?_
        refine Sg.ite (fun h12 => ?_) (fun h12 => ?_)
        · refine Sg.go (pc' := 101) (mi_ifeq_t (tgt := 101) dX10_patchOf_94 (by decide) h12) ?_
          refine Sg.go (pc' := 102) (mi_iconst (z := 0) dX10_patchOf_101 rfl) ?_
          exact Sg.ret (mi_ireturn dX10_patchOf_102 rfl (Or.inl rfl))
        · refine Sg.go (pc' := 97) (mi_ifeq_f (tgt := 101) dX10_patchOf_94 (by decide) h12) ?_
          refine Sg.go (pc' := 98) (mi_iconst (z := 1) dX10_patchOf_97 rfl) ?_
          refine Sg.go (pc' := 102) (mi_goto (tgt := 102) dX10_patchOf_98 (by decide)) ?_
          exact Sg.ret (mi_ireturn dX10_patchOf_102 rfl (Or.inl rfl))
      · refine Sg.ite (fun h13 => ?_) (fun h13 => ?_)
        · refine Sg.go (pc' := 103) (mi_tabIn (tgt := 103) dX10_patchOf_43 (by omega) (by omega) (by rw [h13]; rfl) (by decide)) ?_
          refine Sg.go (pc' := 104) (mi_aload_n dX10_patchOf_103 rfl) ?_
          refine Sg.ck (fun hk14 => ?_)
          refine Sg.callI (pc' := 107) (t := 0) (μ' := m_X4_allDeeds) (args := [(10, (Z.1 12 0 v1))]) (mi_invV (n := 0) (r := 8) dX10_patchOf_104 hC_8 (by omega) rfl rfl wN_X4_allDeeds rfl ⟨by decide, by decide⟩ wL_X10_236 wI_X4_allDeeds wS_X4_allDeeds wB_X4 wC_X4_allDeeds) (fun v hv => C_X4_allDeeds hL (Z.1 12 0 v1) D2 (by omega) v hv) (Nat.le_of_ble_eq_true rfl) rfl rfl (fun y15 => ?_)
          exact Sg.ret (mi_ireturn dX10_patchOf_107 rfl (Or.inl rfl))
        · refine Sg.ite (fun h16 => ?_) (fun h16 => ?_)
          · refine Sg.go (pc' := 108) (mi_tabIn (tgt := 108) dX10_patchOf_43 (by omega) (by omega) (by rw [h16]; rfl) (by decide)) ?_
            refine Sg.go (pc' := 109) (mi_aload_n dX10_patchOf_108 rfl) ?_
            refine Sg.go (pc' := 112) (mi_gfA (t := 2) (v := 0) (r := 1) (k := 4) dX10_patchOf_109 hC_1 (by decide) rfl wF_X10_20 (by omega) rfl hL.1.2.1) ?_
            refine Sg.go (pc' := 115) (mi_gfA (t := 16) (v := 0) (r := 2) (k := 5) dX10_patchOf_112 hC_2 (by decide) rfl wF_X10_239 (by omega) rfl (hL.2.1 _ 5 (by omega) (by omega) (by decide))) ?_
            refine Sg.go (pc' := 116) (mi_iload_n dX10_patchOf_115 rfl) ?_
            refine Sg.go (pc' := 117) (mi_iald (n := 8) dX10_patchOf_116 rfl rfl (by omega) hk3) ?_
            exact Sg.ret (mi_ireturn dX10_patchOf_117 rfl (Or.inl rfl))
          · refine Sg.go (pc' := 118) (mi_tabOut (tgt := 118) dX10_patchOf_43 (by omega) (by decide)) ?_
            refine Sg.go (pc' := 119) (mi_aload_n dX10_patchOf_118 rfl) ?_
            refine Sg.go (pc' := 120) (mi_iconst (z := 0) dX10_patchOf_119 rfl) ?_
            refine Sg.callNT (pc' := 123) (μ' := m_X10_needArgument) (args := [(3, 0), (0, 0)]) (mi_invV (n := 1) (r := 1) dX10_patchOf_120 hC_1 (by omega) rfl rfl wN_X10_needArgument rfl ⟨by decide, by decide⟩ wL_X10_42 wI_X10_needArgument wS_X10_needArgument wB_X10 wC_X10_needArgument) (fun v hv => C_X10_needArgument hL 0 D2 (Or.inl rfl) v hv) rfl (Nat.le_of_ble_eq_true rfl) rfl rfl (fun D17 => ?_)
            refine Sg.go (pc' := 124) (mi_iconst (z := (-1)) dX10_patchOf_123 rfl) ?_
            exact Sg.ret (mi_ireturn dX10_patchOf_124 rfl (Or.inl rfl))
def B_X10_patchOf_28 (Z : MiZ) (v1 : Int) (v2 : Int) (D : MiD) : Option ((Int × MiD) ⊕ (Nat × MiD)) := B_X10_patchOf_29 Z v1 v2 0 D
set_option maxRecDepth 20000 in
theorem S_X10_patchOf_28 {Z : MiZ} (hL : CL Z) (v1 v2 : Int) (D : MiD) : Sg m_X10_patchOf 28 [(3, 0), (0, v1), (0, v2), mi_un] [(3, 0)] (D, Z) (mi_LT 0 Z) (B_X10_patchOf_28 Z v1 v2 D) := by
  unfold B_X10_patchOf_28
  refine Sg.go (pc' := 29) (mi_iconst (z := 0) dX10_patchOf_28 rfl) ?_
  exact S_X10_patchOf_29 hL v1 v2 0 D
def B_X10_patchOf (Z : MiZ) (v1 : Int) (v2 : Int) (D : MiD) : Option ((Int × MiD) ⊕ (Nat × MiD)) := if (B_X10_within v1 (D 1 0 3)) = 0 then (B_X10_patchOf_28 Z v1 v2 D) else (if 0 ≤ v1 ∧ v1 < 8 then (if (Z.1 12 0 v1) < 0 then (B_X10_patchOf_28 Z v1 v2 D) else (B_X10_patchOf_29 Z v1 v2 1 D)) else none)
set_option maxRecDepth 20000 in
theorem S_X10_patchOf {Z : MiZ} (hL : CL Z) (v1 v2 : Int) (D : MiD) : Sg m_X10_patchOf 0 [(3, 0), (0, v1), (0, v2), mi_un] [] (D, Z) (mi_LT 0 Z) (B_X10_patchOf Z v1 v2 D) := by
  unfold B_X10_patchOf
  refine Sg.go (pc' := 1) (mi_aload_n dX10_patchOf_0 rfl) ?_
  refine Sg.go (pc' := 2) (mi_iload_n dX10_patchOf_1 rfl) ?_
  refine Sg.go (pc' := 3) (mi_aload_n dX10_patchOf_2 rfl) ?_
  refine Sg.go (pc' := 6) (mi_gfI (r := 1) (k := 3) dX10_patchOf_3 hC_1 (by decide) rfl wF_X10_79 (by omega) rfl) ?_
  refine Sg.callP (pc' := 9) (t := 0) (v := (B_X10_within v1 (D 1 0 3))) (μ' := m_X10_within) (args := [(0, v1), (0, (D 1 0 3))]) (mi_invS (n := 2) dX10_patchOf_6 rfl wN_X10_within rfl ⟨by decide, by decide⟩ wL_X10_34 wT_X10_within wB_X10 wC_X10_within) (C_X10_within hL v1 (D 1 0 3) D) (Nat.le_of_ble_eq_true rfl) rfl rfl ?_
  refine Sg.ite (fun h1 => ?_) (fun h1 => ?_)
  · refine Sg.go (pc' := 28) (mi_ifeq_t (tgt := 28) dX10_patchOf_9 (by decide) h1) ?_
    exact S_X10_patchOf_28 hL v1 v2 D
  · refine Sg.go (pc' := 12) (mi_ifeq_f (tgt := 28) dX10_patchOf_9 (by decide) h1) ?_
    refine Sg.go (pc' := 13) (mi_aload_n dX10_patchOf_12 rfl) ?_
    refine Sg.go (pc' := 16) (mi_gfA (t := 2) (v := 0) (r := 1) (k := 4) dX10_patchOf_13 hC_1 (by decide) rfl wF_X10_20 (by omega) rfl hL.1.2.1) ?_
    refine Sg.go (pc' := 19) (mi_gfA (t := 12) (v := 0) (r := 2) (k := 1) dX10_patchOf_16 hC_2 (by decide) rfl wF_X10_92 (by omega) rfl (hL.2.1 _ 1 (by omega) (by omega) (by decide))) ?_
    refine Sg.go (pc' := 20) (mi_iload_n dX10_patchOf_19 rfl) ?_
    refine Sg.ck (fun hk2 => ?_)
    refine Sg.go (pc' := 21) (mi_aald (n := 8) (t := 8) (v := (Z.1 12 0 v1)) dX10_patchOf_20 rfl hA_12 rfl (by omega) hk2 rfl rfl) ?_
    refine Sg.ite (fun h3 => ?_) (fun h3 => ?_)
    · refine Sg.go (pc' := 28) (mi_ifnull_t (tgt := 28) dX10_patchOf_21 (by decide) h3) ?_
      exact S_X10_patchOf_28 hL v1 v2 D
    · refine Sg.go (pc' := 24) (mi_ifnull_f (tgt := 28) dX10_patchOf_21 (by decide) h3) ?_
      refine Sg.go (pc' := 25) (mi_iconst (z := 1) dX10_patchOf_24 rfl) ?_
      refine Sg.go (pc' := 29) (mi_goto (tgt := 29) dX10_patchOf_25 (by decide)) ?_
      exact S_X10_patchOf_29 hL v1 v2 1 D
theorem C_X10_patchOf {Z : MiZ} (hL : CL Z) (a1 a2 : Int) (D : MiD) (b : (Int × MiD) ⊕ (Nat × MiD)) (hb : B_X10_patchOf Z a1 a2 D = some b) : MC m_X10_patchOf [(3, 0), (0, a1), (0, a2)] (D, Z) ((mi_LT 0 Z) b) := MC.ofSg (L := (mi_LT 0 Z)) (μ := m_X10_patchOf) (args := [(3, 0), (0, a1), (0, a2)]) (M := (D, Z)) rfl wP_X10 (Nat.le_of_ble_eq_true rfl) (show Sg m_X10_patchOf 0 [(3, 0), (0, a1), (0, a2), mi_un] [] (D, Z) (mi_LT 0 Z) (B_X10_patchOf Z a1 a2 D) from S_X10_patchOf hL a1 a2 D) hb
abbrev m_X10_same : MiI := (yX10_same, cX10_same, 5, (some .int), 7, none)
def B_X10_same_24 (v1 : Int) (v2 : Int) (s1 : Int) (D : MiD) : Option ((Int × MiD) ⊕ (Nat × MiD)) := if s1 = 0 ∨ s1 = 1 then (mi_bn (B_X10_needElement s1 D) Sum.inr fun D2 => mi_bi (B_X9_rowAt D2 0 v1 (-1)) fun y3 => mi_bi (B_X9_rowAt D2 0 v2 (-1)) fun y4 => if 0 ≤ y3 ∧ y3 < 120 then (mi_bi (B_X6_isRow D2 y3) fun y6 => if y6 = 0 then (some (.inl ((-1), D2))) else (if 0 ≤ y4 ∧ y4 < 120 then (mi_bi (B_X6_isRow D2 y4) fun y9 => if y9 = 0 then (some (.inl ((-1), D2))) else (mi_bi (B_X6_alikePlaces D2 y3 y4) fun y11 => some (.inl (y11, D2)))) else none)) else none) else none
set_option maxRecDepth 20000 in
theorem S_X10_same_24 {Z : MiZ} (hL : CL Z) (v1 v2 s1 : Int) (D : MiD) : Sg m_X10_same 24 [(3, 0), (0, v1), (0, v2), mi_un, mi_un] [(0, s1), (3, 0)] (D, Z) (mi_LT 0 Z) (B_X10_same_24 v1 v2 s1 D) := by
  unfold B_X10_same_24
  refine Sg.ck (fun hk1 => ?_)
  refine Sg.callNT (pc' := 27) (μ' := m_X10_needElement) (args := [(3, 0), (0, s1)]) (mi_invV (n := 1) (r := 1) dX10_same_24 hC_1 (by omega) rfl rfl wN_X10_needElement rfl ⟨by decide, by decide⟩ wL_X10_38 wI_X10_needElement wS_X10_needElement wB_X10 wC_X10_needElement) (fun v hv => C_X10_needElement hL s1 D (hk1) v hv) rfl (Nat.le_of_ble_eq_true rfl) rfl rfl (fun D2 => ?_)
  refine Sg.go (pc' := 28) (mi_aload_n dX10_same_27 rfl) ?_
  refine Sg.go (pc' := 31) (mi_gfA (t := 2) (v := 0) (r := 1) (k := 4) dX10_same_28 hC_1 (by decide) rfl wF_X10_20 (by omega) rfl hL.1.2.1) ?_
  refine Sg.go (pc' := 32) (mi_iload_n dX10_same_31 rfl) ?_
  refine Sg.go (pc' := 33) (mi_iconst (z := (-1)) dX10_same_32 rfl) ?_
  refine Sg.callI (pc' := 36) (t := 5) (μ' := m_X9_rowAt) (args := [(4, 0), (0, v1), (0, (-1))]) (mi_invV (n := 2) (r := 2) dX10_same_33 hC_2 (by omega) rfl rfl wN_X9_rowAt rfl ⟨by decide, by decide⟩ wL_X10_242 wI_X9_rowAt wS_X9_rowAt wB_X9 wC_X9_rowAt) (fun v hv => C_X9_rowAt hL 0 v1 (-1) D2 (by omega) v hv) (Nat.le_of_ble_eq_true rfl) rfl rfl (fun y3 => ?_)
  refine Sg.go (pc' := 37) (mi_astore_n (ls1 := [(3, 0), (0, v1), (0, v2), (5, y3), mi_un]) dX10_same_36 (by decide) rfl) ?_
  refine Sg.go (pc' := 38) (mi_aload_n dX10_same_37 rfl) ?_
  refine Sg.go (pc' := 41) (mi_gfA (t := 2) (v := 0) (r := 1) (k := 4) dX10_same_38 hC_1 (by decide) rfl wF_X10_20 (by omega) rfl hL.1.2.1) ?_
  refine Sg.go (pc' := 42) (mi_iload_n dX10_same_41 rfl) ?_
  refine Sg.go (pc' := 43) (mi_iconst (z := (-1)) dX10_same_42 rfl) ?_
  refine Sg.callI (pc' := 46) (t := 5) (μ' := m_X9_rowAt) (args := [(4, 0), (0, v2), (0, (-1))]) (mi_invV (n := 2) (r := 2) dX10_same_43 hC_2 (by omega) rfl rfl wN_X9_rowAt rfl ⟨by decide, by decide⟩ wL_X10_242 wI_X9_rowAt wS_X9_rowAt wB_X9 wC_X9_rowAt) (fun v hv => C_X9_rowAt hL 0 v2 (-1) D2 (by omega) v hv) (Nat.le_of_ble_eq_true rfl) rfl rfl (fun y4 => ?_)
  refine Sg.go (pc' := 48) (mi_astore (ls1 := [(3, 0), (0, v1), (0, v2), (5, y3), (5, y4)]) dX10_same_46 (by decide) rfl) ?_
  refine Sg.go (pc' := 49) (mi_aload_n dX10_same_48 rfl) ?_
  refine Sg.ck (fun hk5 => ?_)
  refine Sg.callI (pc' := 52) (t := 0) (μ' := m_X6_isRow) (args := [(5, y3)]) (mi_invV (n := 0) (r := 3) dX10_same_49 hC_3 (by omega) rfl rfl wN_X6_isRow rfl ⟨by decide, by decide⟩ wL_X10_289 wI_X6_isRow wS_X6_isRow wB_X6 wC_X6_isRow) (fun v hv => C_X6_isRow hL y3 D2 (by omega) v hv) (Nat.le_of_ble_eq_true rfl) rfl rfl (fun y6 => ?_)
  refine Sg.ite (fun h7 => ?_) (fun h7 => ?_)
  · refine Sg.go (pc' := 72) (mi_ifeq_t (tgt := 72) dX10_same_52 (by decide) h7) ?_
    refine Sg.go (pc' := 73) (mi_iconst (z := (-1)) dX10_same_72 rfl) ?_
    exact Sg.ret (mi_ireturn dX10_same_73 rfl (Or.inl rfl))
  · refine Sg.go (pc' := 55) (mi_ifeq_f (tgt := 72) dX10_same_52 (by decide) h7) ?_
    refine Sg.go (pc' := 57) (mi_aload dX10_same_55 rfl) ?_
    refine Sg.ck (fun hk8 => ?_)
    refine Sg.callI (pc' := 60) (t := 0) (μ' := m_X6_isRow) (args := [(5, y4)]) (mi_invV (n := 0) (r := 3) dX10_same_57 hC_3 (by omega) rfl rfl wN_X6_isRow rfl ⟨by decide, by decide⟩ wL_X10_289 wI_X6_isRow wS_X6_isRow wB_X6 wC_X6_isRow) (fun v hv => C_X6_isRow hL y4 D2 (by omega) v hv) (Nat.le_of_ble_eq_true rfl) rfl rfl (fun y9 => ?_)
    refine Sg.ite (fun h10 => ?_) (fun h10 => ?_)
    · refine Sg.go (pc' := 72) (mi_ifeq_t (tgt := 72) dX10_same_60 (by decide) h10) ?_
      refine Sg.go (pc' := 73) (mi_iconst (z := (-1)) dX10_same_72 rfl) ?_
      exact Sg.ret (mi_ireturn dX10_same_73 rfl (Or.inl rfl))
    · refine Sg.go (pc' := 63) (mi_ifeq_f (tgt := 72) dX10_same_60 (by decide) h10) ?_
      refine Sg.go (pc' := 64) (mi_aload_n dX10_same_63 rfl) ?_
      refine Sg.go (pc' := 66) (mi_aload dX10_same_64 rfl) ?_
      refine Sg.callI (pc' := 69) (t := 0) (μ' := m_X6_alikePlaces) (args := [(5, y3), (5, y4)]) (mi_invV (n := 1) (r := 3) dX10_same_66 hC_3 (by omega) rfl rfl wN_X6_alikePlaces rfl ⟨by decide, by decide⟩ wL_X10_296 wI_X6_alikePlaces wS_X6_alikePlaces wB_X6 wC_X6_alikePlaces) (fun v hv => C_X6_alikePlaces hL y3 y4 D2 (by omega) (by omega) v hv) (Nat.le_of_ble_eq_true rfl) rfl rfl (fun y11 => ?_)
      refine Sg.go (pc' := 73) (mi_goto (tgt := 73) dX10_same_69 (by decide)) ?_
      exact Sg.ret (mi_ireturn dX10_same_73 rfl (Or.inl rfl))
def B_X10_same_23 (v1 : Int) (v2 : Int) (D : MiD) : Option ((Int × MiD) ⊕ (Nat × MiD)) := B_X10_same_24 v1 v2 0 D
set_option maxRecDepth 20000 in
theorem S_X10_same_23 {Z : MiZ} (hL : CL Z) (v1 v2 : Int) (D : MiD) : Sg m_X10_same 23 [(3, 0), (0, v1), (0, v2), mi_un, mi_un] [(3, 0)] (D, Z) (mi_LT 0 Z) (B_X10_same_23 v1 v2 D) := by
  unfold B_X10_same_23
  refine Sg.go (pc' := 24) (mi_iconst (z := 0) dX10_same_23 rfl) ?_
  exact S_X10_same_24 hL v1 v2 0 D
def B_X10_same (v1 : Int) (v2 : Int) (D : MiD) : Option ((Int × MiD) ⊕ (Nat × MiD)) := if (B_X10_within v1 10) = 0 then (B_X10_same_23 v1 v2 D) else (if (B_X10_within v2 10) = 0 then (B_X10_same_23 v1 v2 D) else (B_X10_same_24 v1 v2 1 D))
set_option maxRecDepth 20000 in
theorem S_X10_same {Z : MiZ} (hL : CL Z) (v1 v2 : Int) (D : MiD) : Sg m_X10_same 0 [(3, 0), (0, v1), (0, v2), mi_un, mi_un] [] (D, Z) (mi_LT 0 Z) (B_X10_same v1 v2 D) := by
  unfold B_X10_same
  refine Sg.go (pc' := 1) (mi_aload_n dX10_same_0 rfl) ?_
  refine Sg.go (pc' := 2) (mi_iload_n dX10_same_1 rfl) ?_
  refine Sg.go (pc' := 4) (mi_bipush (z := 10) dX10_same_2 rfl) ?_
  refine Sg.callP (pc' := 7) (t := 0) (v := (B_X10_within v1 10)) (μ' := m_X10_within) (args := [(0, v1), (0, 10)]) (mi_invS (n := 2) dX10_same_4 rfl wN_X10_within rfl ⟨by decide, by decide⟩ wL_X10_34 wT_X10_within wB_X10 wC_X10_within) (C_X10_within hL v1 10 D) (Nat.le_of_ble_eq_true rfl) rfl rfl ?_
  refine Sg.ite (fun h1 => ?_) (fun h1 => ?_)
  · refine Sg.go (pc' := 23) (mi_ifeq_t (tgt := 23) dX10_same_7 (by decide) h1) ?_
    exact S_X10_same_23 hL v1 v2 D
  · refine Sg.go (pc' := 10) (mi_ifeq_f (tgt := 23) dX10_same_7 (by decide) h1) ?_
    refine Sg.go (pc' := 11) (mi_iload_n dX10_same_10 rfl) ?_
    refine Sg.go (pc' := 13) (mi_bipush (z := 10) dX10_same_11 rfl) ?_
    refine Sg.callP (pc' := 16) (t := 0) (v := (B_X10_within v2 10)) (μ' := m_X10_within) (args := [(0, v2), (0, 10)]) (mi_invS (n := 2) dX10_same_13 rfl wN_X10_within rfl ⟨by decide, by decide⟩ wL_X10_34 wT_X10_within wB_X10 wC_X10_within) (C_X10_within hL v2 10 D) (Nat.le_of_ble_eq_true rfl) rfl rfl ?_
    refine Sg.ite (fun h2 => ?_) (fun h2 => ?_)
    · refine Sg.go (pc' := 23) (mi_ifeq_t (tgt := 23) dX10_same_16 (by decide) h2) ?_
      exact S_X10_same_23 hL v1 v2 D
    · refine Sg.go (pc' := 19) (mi_ifeq_f (tgt := 23) dX10_same_16 (by decide) h2) ?_
      refine Sg.go (pc' := 20) (mi_iconst (z := 1) dX10_same_19 rfl) ?_
      refine Sg.go (pc' := 24) (mi_goto (tgt := 24) dX10_same_20 (by decide)) ?_
      exact S_X10_same_24 hL v1 v2 1 D
theorem C_X10_same {Z : MiZ} (hL : CL Z) (a1 a2 : Int) (D : MiD) (b : (Int × MiD) ⊕ (Nat × MiD)) (hb : B_X10_same a1 a2 D = some b) : MC m_X10_same [(3, 0), (0, a1), (0, a2)] (D, Z) ((mi_LT 0 Z) b) := MC.ofSg (L := (mi_LT 0 Z)) (μ := m_X10_same) (args := [(3, 0), (0, a1), (0, a2)]) (M := (D, Z)) rfl wP_X10 (Nat.le_of_ble_eq_true rfl) (show Sg m_X10_same 0 [(3, 0), (0, a1), (0, a2), mi_un, mi_un] [] (D, Z) (mi_LT 0 Z) (B_X10_same a1 a2 D) from S_X10_same hL a1 a2 D) hb
abbrev m_X10_set : MiI := (yX10_set, cX10_set, 5, (some .int), 7, none)
def B_X10_set_41 (v1 : Int) (v2 : Int) (v3 : Int) (v4 : Int) (s1 : Int) (D : MiD) : Option ((Int × MiD) ⊕ (Nat × MiD)) := if s1 = 0 ∨ s1 = 1 then (mi_bn (B_X10_needArgument s1 D) Sum.inr fun D2 => mi_bi (B_X9_rowAt D2 0 v2 (-1)) fun y3 => if 0 ≤ y3 ∧ y3 < 120 then (mi_b2 (B_X6_writeAs y3 v1 v3 v4 D2) fun y5 D6 => some (.inl (y5, D6))) else none) else none
set_option maxRecDepth 20000 in
theorem S_X10_set_41 {Z : MiZ} (hL : CL Z) (v1 v2 v3 v4 s1 : Int) (D : MiD) : Sg m_X10_set 41 [(3, 0), (0, v1), (0, v2), (0, v3), (0, v4)] [(0, s1), (3, 0)] (D, Z) (mi_LT 0 Z) (B_X10_set_41 v1 v2 v3 v4 s1 D) := by
  unfold B_X10_set_41
  refine Sg.ck (fun hk1 => ?_)
  refine Sg.callNT (pc' := 44) (μ' := m_X10_needArgument) (args := [(3, 0), (0, s1)]) (mi_invV (n := 1) (r := 1) dX10_set_41 hC_1 (by omega) rfl rfl wN_X10_needArgument rfl ⟨by decide, by decide⟩ wL_X10_42 wI_X10_needArgument wS_X10_needArgument wB_X10 wC_X10_needArgument) (fun v hv => C_X10_needArgument hL s1 D (hk1) v hv) rfl (Nat.le_of_ble_eq_true rfl) rfl rfl (fun D2 => ?_)
  refine Sg.go (pc' := 45) (mi_aload_n dX10_set_44 rfl) ?_
  refine Sg.go (pc' := 48) (mi_gfA (t := 2) (v := 0) (r := 1) (k := 4) dX10_set_45 hC_1 (by decide) rfl wF_X10_20 (by omega) rfl hL.1.2.1) ?_
  refine Sg.go (pc' := 49) (mi_iload_n dX10_set_48 rfl) ?_
  refine Sg.go (pc' := 50) (mi_iconst (z := (-1)) dX10_set_49 rfl) ?_
  refine Sg.callI (pc' := 53) (t := 5) (μ' := m_X9_rowAt) (args := [(4, 0), (0, v2), (0, (-1))]) (mi_invV (n := 2) (r := 2) dX10_set_50 hC_2 (by omega) rfl rfl wN_X9_rowAt rfl ⟨by decide, by decide⟩ wL_X10_242 wI_X9_rowAt wS_X9_rowAt wB_X9 wC_X9_rowAt) (fun v hv => C_X9_rowAt hL 0 v2 (-1) D2 (by omega) v hv) (Nat.le_of_ble_eq_true rfl) rfl rfl (fun y3 => ?_)
  refine Sg.go (pc' := 54) (mi_iload_n dX10_set_53 rfl) ?_
  refine Sg.go (pc' := 55) (mi_iload_n dX10_set_54 rfl) ?_
  refine Sg.go (pc' := 57) (mi_iload dX10_set_55 rfl) ?_
  refine Sg.ck (fun hk4 => ?_)
  refine Sg.callD (pc' := 60) (t := 0) (μ' := m_X6_writeAs) (args := [(5, y3), (0, v1), (0, v3), (0, v4)]) (mi_invV (n := 3) (r := 3) dX10_set_57 hC_3 (by omega) rfl rfl wN_X6_writeAs rfl ⟨by decide, by decide⟩ wL_X10_269 wI_X6_writeAs wS_X6_writeAs wB_X6 wC_X6_writeAs) (fun v hv => C_X6_writeAs hL y3 v1 v3 v4 D2 (by omega) v hv) (Nat.le_of_ble_eq_true rfl) rfl rfl (fun y5 D6 => ?_)
  exact Sg.ret (mi_ireturn dX10_set_60 rfl (Or.inl rfl))
def B_X10_set_40 (v1 : Int) (v2 : Int) (v3 : Int) (v4 : Int) (D : MiD) : Option ((Int × MiD) ⊕ (Nat × MiD)) := B_X10_set_41 v1 v2 v3 v4 0 D
set_option maxRecDepth 20000 in
theorem S_X10_set_40 {Z : MiZ} (hL : CL Z) (v1 v2 v3 v4 : Int) (D : MiD) : Sg m_X10_set 40 [(3, 0), (0, v1), (0, v2), (0, v3), (0, v4)] [(3, 0)] (D, Z) (mi_LT 0 Z) (B_X10_set_40 v1 v2 v3 v4 D) := by
  unfold B_X10_set_40
  refine Sg.go (pc' := 41) (mi_iconst (z := 0) dX10_set_40 rfl) ?_
  exact S_X10_set_41 hL v1 v2 v3 v4 0 D
def B_X10_set (v1 : Int) (v2 : Int) (v3 : Int) (v4 : Int) (D : MiD) : Option ((Int × MiD) ⊕ (Nat × MiD)) := mi_bn (B_X10_needElement (B_X10_within v2 10) D) Sum.inr fun D1 => if (B_X10_within v1 8) = 0 then (B_X10_set_40 v1 v2 v3 v4 D1) else (if v4 < (-99999) then (B_X10_set_40 v1 v2 v3 v4 D1) else (if 99999 < v4 then (B_X10_set_40 v1 v2 v3 v4 D1) else (B_X10_set_41 v1 v2 v3 v4 1 D1)))
set_option maxRecDepth 20000 in
theorem S_X10_set {Z : MiZ} (hL : CL Z) (v1 v2 v3 v4 : Int) (D : MiD) : Sg m_X10_set 0 [(3, 0), (0, v1), (0, v2), (0, v3), (0, v4)] [] (D, Z) (mi_LT 0 Z) (B_X10_set v1 v2 v3 v4 D) := by
  unfold B_X10_set
  refine Sg.go (pc' := 1) (mi_aload_n dX10_set_0 rfl) ?_
  refine Sg.go (pc' := 2) (mi_iload_n dX10_set_1 rfl) ?_
  refine Sg.go (pc' := 4) (mi_bipush (z := 10) dX10_set_2 rfl) ?_
  refine Sg.callP (pc' := 7) (t := 0) (v := (B_X10_within v2 10)) (μ' := m_X10_within) (args := [(0, v2), (0, 10)]) (mi_invS (n := 2) dX10_set_4 rfl wN_X10_within rfl ⟨by decide, by decide⟩ wL_X10_34 wT_X10_within wB_X10 wC_X10_within) (C_X10_within hL v2 10 D) (Nat.le_of_ble_eq_true rfl) rfl rfl ?_
  refine Sg.callNT (pc' := 10) (μ' := m_X10_needElement) (args := [(3, 0), (0, (B_X10_within v2 10))]) (mi_invV (n := 1) (r := 1) dX10_set_7 hC_1 (by omega) rfl rfl wN_X10_needElement rfl ⟨by decide, by decide⟩ wL_X10_38 wI_X10_needElement wS_X10_needElement wB_X10 wC_X10_needElement) (fun v hv => C_X10_needElement hL (B_X10_within v2 10) D ((by exact Z_X10_within)) v hv) rfl (Nat.le_of_ble_eq_true rfl) rfl rfl (fun D1 => ?_)
  refine Sg.go (pc' := 11) (mi_aload_n dX10_set_10 rfl) ?_
  refine Sg.go (pc' := 12) (mi_iload_n dX10_set_11 rfl) ?_
  refine Sg.go (pc' := 14) (mi_bipush (z := 8) dX10_set_12 rfl) ?_
  refine Sg.callP (pc' := 17) (t := 0) (v := (B_X10_within v1 8)) (μ' := m_X10_within) (args := [(0, v1), (0, 8)]) (mi_invS (n := 2) dX10_set_14 rfl wN_X10_within rfl ⟨by decide, by decide⟩ wL_X10_34 wT_X10_within wB_X10 wC_X10_within) (C_X10_within hL v1 8 D1) (Nat.le_of_ble_eq_true rfl) rfl rfl ?_
  refine Sg.ite (fun h2 => ?_) (fun h2 => ?_)
  · refine Sg.go (pc' := 40) (mi_ifeq_t (tgt := 40) dX10_set_17 (by decide) h2) ?_
    exact S_X10_set_40 hL v1 v2 v3 v4 D1
  · refine Sg.go (pc' := 20) (mi_ifeq_f (tgt := 40) dX10_set_17 (by decide) h2) ?_
    refine Sg.go (pc' := 22) (mi_iload dX10_set_20 rfl) ?_
    refine Sg.go (pc' := 25) (mi_ldcw (z := (-99999)) dX10_set_22 wK_X10_267 rfl) ?_
    refine Sg.ite (fun h3 => ?_) (fun h3 => ?_)
    · refine Sg.go (pc' := 40) (mi_icmplt_t (tgt := 40) dX10_set_25 (by decide) h3) ?_
      exact S_X10_set_40 hL v1 v2 v3 v4 D1
    · refine Sg.go (pc' := 28) (mi_icmplt_f (tgt := 40) dX10_set_25 (by decide) h3) ?_
      refine Sg.go (pc' := 30) (mi_iload dX10_set_28 rfl) ?_
      refine Sg.go (pc' := 33) (mi_ldcw (z := 99999) dX10_set_30 wK_X10_268 rfl) ?_
      refine Sg.ite (fun h4 => ?_) (fun h4 => ?_)
      · refine Sg.go (pc' := 40) (mi_icmpgt_t (tgt := 40) dX10_set_33 (by decide) h4) ?_
        exact S_X10_set_40 hL v1 v2 v3 v4 D1
      · refine Sg.go (pc' := 36) (mi_icmpgt_f (tgt := 40) dX10_set_33 (by decide) h4) ?_
        refine Sg.go (pc' := 37) (mi_iconst (z := 1) dX10_set_36 rfl) ?_
        refine Sg.go (pc' := 41) (mi_goto (tgt := 41) dX10_set_37 (by decide)) ?_
        exact S_X10_set_41 hL v1 v2 v3 v4 1 D1
theorem C_X10_set {Z : MiZ} (hL : CL Z) (a1 a2 a3 a4 : Int) (D : MiD) (b : (Int × MiD) ⊕ (Nat × MiD)) (hb : B_X10_set a1 a2 a3 a4 D = some b) : MC m_X10_set [(3, 0), (0, a1), (0, a2), (0, a3), (0, a4)] (D, Z) ((mi_LT 0 Z) b) := MC.ofSg (L := (mi_LT 0 Z)) (μ := m_X10_set) (args := [(3, 0), (0, a1), (0, a2), (0, a3), (0, a4)]) (M := (D, Z)) rfl wP_X10 (Nat.le_of_ble_eq_true rfl) (show Sg m_X10_set 0 [(3, 0), (0, a1), (0, a2), (0, a3), (0, a4)] [] (D, Z) (mi_LT 0 Z) (B_X10_set a1 a2 a3 a4 D) from S_X10_set hL a1 a2 a3 a4 D) hb
abbrev m_X10_shadowOf : MiI := (yX10_shadowOf, cX10_shadowOf, 5, (some .int), 7, none)
def B_X10_shadowOf_41 (v1 : Int) (v2 : Int) (v3 : Int) (s1 : Int) (D : MiD) : Option ((Int × MiD) ⊕ (Nat × MiD)) := if s1 = 0 ∨ s1 = 1 then (mi_bn (B_X10_needArgument s1 D) Sum.inr fun D2 => mi_bi (B_X9_rowAt D2 0 v1 v2) fun y3 => if v3 ≠ 0 then (if 0 ≤ y3 ∧ y3 < 120 then (some (.inl ((D2 3 y3 1), D2))) else none) else (if 0 ≤ y3 ∧ y3 < 120 then (some (.inl ((D2 3 y3 0), D2))) else none)) else none
set_option maxRecDepth 20000 in
theorem S_X10_shadowOf_41 {Z : MiZ} (hL : CL Z) (v1 v2 v3 s1 : Int) (D : MiD) : Sg m_X10_shadowOf 41 [(3, 0), (0, v1), (0, v2), (0, v3), mi_un] [(0, s1), (3, 0)] (D, Z) (mi_LT 0 Z) (B_X10_shadowOf_41 v1 v2 v3 s1 D) := by
  unfold B_X10_shadowOf_41
  refine Sg.ck (fun hk1 => ?_)
  refine Sg.callNT (pc' := 44) (μ' := m_X10_needArgument) (args := [(3, 0), (0, s1)]) (mi_invV (n := 1) (r := 1) dX10_shadowOf_41 hC_1 (by omega) rfl rfl wN_X10_needArgument rfl ⟨by decide, by decide⟩ wL_X10_42 wI_X10_needArgument wS_X10_needArgument wB_X10 wC_X10_needArgument) (fun v hv => C_X10_needArgument hL s1 D (hk1) v hv) rfl (Nat.le_of_ble_eq_true rfl) rfl rfl (fun D2 => ?_)
  refine Sg.go (pc' := 45) (mi_aload_n dX10_shadowOf_44 rfl) ?_
  refine Sg.go (pc' := 48) (mi_gfA (t := 2) (v := 0) (r := 1) (k := 4) dX10_shadowOf_45 hC_1 (by decide) rfl wF_X10_20 (by omega) rfl hL.1.2.1) ?_
  refine Sg.go (pc' := 49) (mi_iload_n dX10_shadowOf_48 rfl) ?_
  refine Sg.go (pc' := 50) (mi_iload_n dX10_shadowOf_49 rfl) ?_
  refine Sg.callI (pc' := 53) (t := 5) (μ' := m_X9_rowAt) (args := [(4, 0), (0, v1), (0, v2)]) (mi_invV (n := 2) (r := 2) dX10_shadowOf_50 hC_2 (by omega) rfl rfl wN_X9_rowAt rfl ⟨by decide, by decide⟩ wL_X10_242 wI_X9_rowAt wS_X9_rowAt wB_X9 wC_X9_rowAt) (fun v hv => C_X9_rowAt hL 0 v1 v2 D2 (by omega) v hv) (Nat.le_of_ble_eq_true rfl) rfl rfl (fun y3 => ?_)
  refine Sg.go (pc' := 55) (mi_astore (ls1 := [(3, 0), (0, v1), (0, v2), (0, v3), (5, y3)]) dX10_shadowOf_53 (by decide) rfl) ?_
  refine Sg.go (pc' := 56) (mi_iload_n dX10_shadowOf_55 rfl) ?_
  refine Sg.ite (fun h4 => ?_) (fun h4 => ?_)
  · refine Sg.go (pc' := 67) (mi_ifne_t (tgt := 67) dX10_shadowOf_56 (by decide) h4) ?_
    refine Sg.go (pc' := 69) (mi_aload dX10_shadowOf_67 rfl) ?_
    refine Sg.ck (fun hk5 => ?_)
    refine Sg.go (pc' := 72) (mi_gfI (r := 3) (k := 1) dX10_shadowOf_69 hC_3 (by decide) rfl wF_X10_249 (by omega) rfl) ?_
    exact Sg.ret (mi_ireturn dX10_shadowOf_72 rfl (Or.inl rfl))
  · refine Sg.go (pc' := 59) (mi_ifne_f (tgt := 67) dX10_shadowOf_56 (by decide) h4) ?_
    refine Sg.go (pc' := 61) (mi_aload dX10_shadowOf_59 rfl) ?_
    refine Sg.ck (fun hk6 => ?_)
    refine Sg.go (pc' := 64) (mi_gfI (r := 3) (k := 0) dX10_shadowOf_61 hC_3 (by decide) rfl wF_X10_246 (by omega) rfl) ?_
    refine Sg.go (pc' := 72) (mi_goto (tgt := 72) dX10_shadowOf_64 (by decide)) ?_
    exact Sg.ret (mi_ireturn dX10_shadowOf_72 rfl (Or.inl rfl))
def B_X10_shadowOf_36 (v1 : Int) (v2 : Int) (v3 : Int) (D : MiD) : Option ((Int × MiD) ⊕ (Nat × MiD)) := B_X10_shadowOf_41 v1 v2 v3 1 D
set_option maxRecDepth 20000 in
theorem S_X10_shadowOf_36 {Z : MiZ} (hL : CL Z) (v1 v2 v3 : Int) (D : MiD) : Sg m_X10_shadowOf 36 [(3, 0), (0, v1), (0, v2), (0, v3), mi_un] [(3, 0)] (D, Z) (mi_LT 0 Z) (B_X10_shadowOf_36 v1 v2 v3 D) := by
  unfold B_X10_shadowOf_36
  refine Sg.go (pc' := 37) (mi_iconst (z := 1) dX10_shadowOf_36 rfl) ?_
  refine Sg.go (pc' := 41) (mi_goto (tgt := 41) dX10_shadowOf_37 (by decide)) ?_
  exact S_X10_shadowOf_41 hL v1 v2 v3 1 D
def B_X10_shadowOf_23 (v1 : Int) (v2 : Int) (v3 : Int) (s1 : Int) (D : MiD) : Option ((Int × MiD) ⊕ (Nat × MiD)) := if s1 = 0 ∨ s1 = 1 then (mi_bn (B_X10_needElement s1 D) Sum.inr fun D2 => if v3 = 0 then (B_X10_shadowOf_36 v1 v2 v3 D2) else (if v3 ≠ 1 then (B_X10_shadowOf_41 v1 v2 v3 0 D2) else (B_X10_shadowOf_36 v1 v2 v3 D2))) else none
set_option maxRecDepth 20000 in
theorem S_X10_shadowOf_23 {Z : MiZ} (hL : CL Z) (v1 v2 v3 s1 : Int) (D : MiD) : Sg m_X10_shadowOf 23 [(3, 0), (0, v1), (0, v2), (0, v3), mi_un] [(0, s1), (3, 0)] (D, Z) (mi_LT 0 Z) (B_X10_shadowOf_23 v1 v2 v3 s1 D) := by
  unfold B_X10_shadowOf_23
  refine Sg.ck (fun hk1 => ?_)
  refine Sg.callNT (pc' := 26) (μ' := m_X10_needElement) (args := [(3, 0), (0, s1)]) (mi_invV (n := 1) (r := 1) dX10_shadowOf_23 hC_1 (by omega) rfl rfl wN_X10_needElement rfl ⟨by decide, by decide⟩ wL_X10_38 wI_X10_needElement wS_X10_needElement wB_X10 wC_X10_needElement) (fun v hv => C_X10_needElement hL s1 D (hk1) v hv) rfl (Nat.le_of_ble_eq_true rfl) rfl rfl (fun D2 => ?_)
  refine Sg.go (pc' := 27) (mi_aload_n dX10_shadowOf_26 rfl) ?_
  refine Sg.go (pc' := 28) (mi_iload_n dX10_shadowOf_27 rfl) ?_
  refine Sg.ite (fun h3 => ?_) (fun h3 => ?_)
  · refine Sg.go (pc' := 36) (mi_ifeq_t (tgt := 36) dX10_shadowOf_28 (by decide) h3) ?_
    exact S_X10_shadowOf_36 hL v1 v2 v3 D2
  · refine Sg.go (pc' := 31) (mi_ifeq_f (tgt := 36) dX10_shadowOf_28 (by decide) h3) ?_
    refine Sg.go (pc' := 32) (mi_iload_n dX10_shadowOf_31 rfl) ?_
    refine Sg.go (pc' := 33) (mi_iconst (z := 1) dX10_shadowOf_32 rfl) ?_
    refine Sg.ite (fun h4 => ?_) (fun h4 => ?_)
    · refine Sg.go (pc' := 40) (mi_icmpne_t (tgt := 40) dX10_shadowOf_33 (by decide) h4) ?_
      refine Sg.go (pc' := 41) (mi_iconst (z := 0) dX10_shadowOf_40 rfl) ?_
      exact S_X10_shadowOf_41 hL v1 v2 v3 0 D2
    · refine Sg.go (pc' := 36) (mi_icmpne_f (tgt := 40) dX10_shadowOf_33 (by decide) h4) ?_
      exact S_X10_shadowOf_36 hL v1 v2 v3 D2
def B_X10_shadowOf_22 (v1 : Int) (v2 : Int) (v3 : Int) (D : MiD) : Option ((Int × MiD) ⊕ (Nat × MiD)) := B_X10_shadowOf_23 v1 v2 v3 0 D
set_option maxRecDepth 20000 in
theorem S_X10_shadowOf_22 {Z : MiZ} (hL : CL Z) (v1 v2 v3 : Int) (D : MiD) : Sg m_X10_shadowOf 22 [(3, 0), (0, v1), (0, v2), (0, v3), mi_un] [(3, 0)] (D, Z) (mi_LT 0 Z) (B_X10_shadowOf_22 v1 v2 v3 D) := by
  unfold B_X10_shadowOf_22
  refine Sg.go (pc' := 23) (mi_iconst (z := 0) dX10_shadowOf_22 rfl) ?_
  exact S_X10_shadowOf_23 hL v1 v2 v3 0 D
def B_X10_shadowOf (v1 : Int) (v2 : Int) (v3 : Int) (D : MiD) : Option ((Int × MiD) ⊕ (Nat × MiD)) := if (B_X10_within v1 10) = 0 then (B_X10_shadowOf_22 v1 v2 v3 D) else (if (B_X10_within v2 5) = 0 then (B_X10_shadowOf_22 v1 v2 v3 D) else (B_X10_shadowOf_23 v1 v2 v3 1 D))
set_option maxRecDepth 20000 in
theorem S_X10_shadowOf {Z : MiZ} (hL : CL Z) (v1 v2 v3 : Int) (D : MiD) : Sg m_X10_shadowOf 0 [(3, 0), (0, v1), (0, v2), (0, v3), mi_un] [] (D, Z) (mi_LT 0 Z) (B_X10_shadowOf v1 v2 v3 D) := by
  unfold B_X10_shadowOf
  refine Sg.go (pc' := 1) (mi_aload_n dX10_shadowOf_0 rfl) ?_
  refine Sg.go (pc' := 2) (mi_iload_n dX10_shadowOf_1 rfl) ?_
  refine Sg.go (pc' := 4) (mi_bipush (z := 10) dX10_shadowOf_2 rfl) ?_
  refine Sg.callP (pc' := 7) (t := 0) (v := (B_X10_within v1 10)) (μ' := m_X10_within) (args := [(0, v1), (0, 10)]) (mi_invS (n := 2) dX10_shadowOf_4 rfl wN_X10_within rfl ⟨by decide, by decide⟩ wL_X10_34 wT_X10_within wB_X10 wC_X10_within) (C_X10_within hL v1 10 D) (Nat.le_of_ble_eq_true rfl) rfl rfl ?_
  refine Sg.ite (fun h1 => ?_) (fun h1 => ?_)
  · refine Sg.go (pc' := 22) (mi_ifeq_t (tgt := 22) dX10_shadowOf_7 (by decide) h1) ?_
    exact S_X10_shadowOf_22 hL v1 v2 v3 D
  · refine Sg.go (pc' := 10) (mi_ifeq_f (tgt := 22) dX10_shadowOf_7 (by decide) h1) ?_
    refine Sg.go (pc' := 11) (mi_iload_n dX10_shadowOf_10 rfl) ?_
    refine Sg.go (pc' := 12) (mi_iconst (z := 5) dX10_shadowOf_11 rfl) ?_
    refine Sg.callP (pc' := 15) (t := 0) (v := (B_X10_within v2 5)) (μ' := m_X10_within) (args := [(0, v2), (0, 5)]) (mi_invS (n := 2) dX10_shadowOf_12 rfl wN_X10_within rfl ⟨by decide, by decide⟩ wL_X10_34 wT_X10_within wB_X10 wC_X10_within) (C_X10_within hL v2 5 D) (Nat.le_of_ble_eq_true rfl) rfl rfl ?_
    refine Sg.ite (fun h2 => ?_) (fun h2 => ?_)
    · refine Sg.go (pc' := 22) (mi_ifeq_t (tgt := 22) dX10_shadowOf_15 (by decide) h2) ?_
      exact S_X10_shadowOf_22 hL v1 v2 v3 D
    · refine Sg.go (pc' := 18) (mi_ifeq_f (tgt := 22) dX10_shadowOf_15 (by decide) h2) ?_
      refine Sg.go (pc' := 19) (mi_iconst (z := 1) dX10_shadowOf_18 rfl) ?_
      refine Sg.go (pc' := 23) (mi_goto (tgt := 23) dX10_shadowOf_19 (by decide)) ?_
      exact S_X10_shadowOf_23 hL v1 v2 v3 1 D
theorem C_X10_shadowOf {Z : MiZ} (hL : CL Z) (a1 a2 a3 : Int) (D : MiD) (b : (Int × MiD) ⊕ (Nat × MiD)) (hb : B_X10_shadowOf a1 a2 a3 D = some b) : MC m_X10_shadowOf [(3, 0), (0, a1), (0, a2), (0, a3)] (D, Z) ((mi_LT 0 Z) b) := MC.ofSg (L := (mi_LT 0 Z)) (μ := m_X10_shadowOf) (args := [(3, 0), (0, a1), (0, a2), (0, a3)]) (M := (D, Z)) rfl wP_X10 (Nat.le_of_ble_eq_true rfl) (show Sg m_X10_shadowOf 0 [(3, 0), (0, a1), (0, a2), (0, a3), mi_un] [] (D, Z) (mi_LT 0 Z) (B_X10_shadowOf a1 a2 a3 D) from S_X10_shadowOf hL a1 a2 a3 D) hb
abbrev m_X10_shape : MiI := (yX10_shape, cX10_shape, 4, (some .int), 7, none)
def B_X10_shape_35 (v1 : Int) (v2 : Int) (v3 : Int) (s1 : Int) (D : MiD) : Option ((Int × MiD) ⊕ (Nat × MiD)) := if s1 = 0 ∨ s1 = 1 then (mi_bn (B_X10_needArgument s1 D) Sum.inr fun D2 => mi_bi (B_X9_rowAt D2 0 v1 (-1)) fun y3 => if 0 ≤ y3 ∧ y3 < 120 then (mi_b2 (B_X6_reshape y3 v2 v3 D2) fun y5 D6 => some (.inl (y5, D6))) else none) else none
set_option maxRecDepth 20000 in
theorem S_X10_shape_35 {Z : MiZ} (hL : CL Z) (v1 v2 v3 s1 : Int) (D : MiD) : Sg m_X10_shape 35 [(3, 0), (0, v1), (0, v2), (0, v3)] [(0, s1), (3, 0)] (D, Z) (mi_LT 0 Z) (B_X10_shape_35 v1 v2 v3 s1 D) := by
  unfold B_X10_shape_35
  refine Sg.ck (fun hk1 => ?_)
  refine Sg.callNT (pc' := 38) (μ' := m_X10_needArgument) (args := [(3, 0), (0, s1)]) (mi_invV (n := 1) (r := 1) dX10_shape_35 hC_1 (by omega) rfl rfl wN_X10_needArgument rfl ⟨by decide, by decide⟩ wL_X10_42 wI_X10_needArgument wS_X10_needArgument wB_X10 wC_X10_needArgument) (fun v hv => C_X10_needArgument hL s1 D (hk1) v hv) rfl (Nat.le_of_ble_eq_true rfl) rfl rfl (fun D2 => ?_)
  refine Sg.go (pc' := 39) (mi_aload_n dX10_shape_38 rfl) ?_
  refine Sg.go (pc' := 42) (mi_gfA (t := 2) (v := 0) (r := 1) (k := 4) dX10_shape_39 hC_1 (by decide) rfl wF_X10_20 (by omega) rfl hL.1.2.1) ?_
  refine Sg.go (pc' := 43) (mi_iload_n dX10_shape_42 rfl) ?_
  refine Sg.go (pc' := 44) (mi_iconst (z := (-1)) dX10_shape_43 rfl) ?_
  refine Sg.callI (pc' := 47) (t := 5) (μ' := m_X9_rowAt) (args := [(4, 0), (0, v1), (0, (-1))]) (mi_invV (n := 2) (r := 2) dX10_shape_44 hC_2 (by omega) rfl rfl wN_X9_rowAt rfl ⟨by decide, by decide⟩ wL_X10_242 wI_X9_rowAt wS_X9_rowAt wB_X9 wC_X9_rowAt) (fun v hv => C_X9_rowAt hL 0 v1 (-1) D2 (by omega) v hv) (Nat.le_of_ble_eq_true rfl) rfl rfl (fun y3 => ?_)
  refine Sg.go (pc' := 48) (mi_iload_n dX10_shape_47 rfl) ?_
  refine Sg.go (pc' := 49) (mi_iload_n dX10_shape_48 rfl) ?_
  refine Sg.ck (fun hk4 => ?_)
  refine Sg.callD (pc' := 52) (t := 0) (μ' := m_X6_reshape) (args := [(5, y3), (0, v2), (0, v3)]) (mi_invV (n := 2) (r := 3) dX10_shape_49 hC_3 (by omega) rfl rfl wN_X6_reshape rfl ⟨by decide, by decide⟩ wL_X10_280 wI_X6_reshape wS_X6_reshape wB_X6 wC_X6_reshape) (fun v hv => C_X6_reshape hL y3 v2 v3 D2 (by omega) v hv) (Nat.le_of_ble_eq_true rfl) rfl rfl (fun y5 D6 => ?_)
  exact Sg.ret (mi_ireturn dX10_shape_52 rfl (Or.inl rfl))
def B_X10_shape_34 (v1 : Int) (v2 : Int) (v3 : Int) (D : MiD) : Option ((Int × MiD) ⊕ (Nat × MiD)) := B_X10_shape_35 v1 v2 v3 0 D
set_option maxRecDepth 20000 in
theorem S_X10_shape_34 {Z : MiZ} (hL : CL Z) (v1 v2 v3 : Int) (D : MiD) : Sg m_X10_shape 34 [(3, 0), (0, v1), (0, v2), (0, v3)] [(3, 0)] (D, Z) (mi_LT 0 Z) (B_X10_shape_34 v1 v2 v3 D) := by
  unfold B_X10_shape_34
  refine Sg.go (pc' := 35) (mi_iconst (z := 0) dX10_shape_34 rfl) ?_
  exact S_X10_shape_35 hL v1 v2 v3 0 D
def B_X10_shape (v1 : Int) (v2 : Int) (v3 : Int) (D : MiD) : Option ((Int × MiD) ⊕ (Nat × MiD)) := mi_bn (B_X10_needElement (B_X10_within v1 10) D) Sum.inr fun D1 => if (B_X10_within v2 11) = 0 then (B_X10_shape_34 v1 v2 v3 D1) else (if v3 < 0 then (B_X10_shape_34 v1 v2 v3 D1) else (if 9 < v3 then (B_X10_shape_34 v1 v2 v3 D1) else (B_X10_shape_35 v1 v2 v3 1 D1)))
set_option maxRecDepth 20000 in
theorem S_X10_shape {Z : MiZ} (hL : CL Z) (v1 v2 v3 : Int) (D : MiD) : Sg m_X10_shape 0 [(3, 0), (0, v1), (0, v2), (0, v3)] [] (D, Z) (mi_LT 0 Z) (B_X10_shape v1 v2 v3 D) := by
  unfold B_X10_shape
  refine Sg.go (pc' := 1) (mi_aload_n dX10_shape_0 rfl) ?_
  refine Sg.go (pc' := 2) (mi_iload_n dX10_shape_1 rfl) ?_
  refine Sg.go (pc' := 4) (mi_bipush (z := 10) dX10_shape_2 rfl) ?_
  refine Sg.callP (pc' := 7) (t := 0) (v := (B_X10_within v1 10)) (μ' := m_X10_within) (args := [(0, v1), (0, 10)]) (mi_invS (n := 2) dX10_shape_4 rfl wN_X10_within rfl ⟨by decide, by decide⟩ wL_X10_34 wT_X10_within wB_X10 wC_X10_within) (C_X10_within hL v1 10 D) (Nat.le_of_ble_eq_true rfl) rfl rfl ?_
  refine Sg.callNT (pc' := 10) (μ' := m_X10_needElement) (args := [(3, 0), (0, (B_X10_within v1 10))]) (mi_invV (n := 1) (r := 1) dX10_shape_7 hC_1 (by omega) rfl rfl wN_X10_needElement rfl ⟨by decide, by decide⟩ wL_X10_38 wI_X10_needElement wS_X10_needElement wB_X10 wC_X10_needElement) (fun v hv => C_X10_needElement hL (B_X10_within v1 10) D ((by exact Z_X10_within)) v hv) rfl (Nat.le_of_ble_eq_true rfl) rfl rfl (fun D1 => ?_)
  refine Sg.go (pc' := 11) (mi_aload_n dX10_shape_10 rfl) ?_
  refine Sg.go (pc' := 12) (mi_iload_n dX10_shape_11 rfl) ?_
  refine Sg.go (pc' := 14) (mi_bipush (z := 11) dX10_shape_12 rfl) ?_
  refine Sg.callP (pc' := 17) (t := 0) (v := (B_X10_within v2 11)) (μ' := m_X10_within) (args := [(0, v2), (0, 11)]) (mi_invS (n := 2) dX10_shape_14 rfl wN_X10_within rfl ⟨by decide, by decide⟩ wL_X10_34 wT_X10_within wB_X10 wC_X10_within) (C_X10_within hL v2 11 D1) (Nat.le_of_ble_eq_true rfl) rfl rfl ?_
  refine Sg.ite (fun h2 => ?_) (fun h2 => ?_)
  · refine Sg.go (pc' := 34) (mi_ifeq_t (tgt := 34) dX10_shape_17 (by decide) h2) ?_
    exact S_X10_shape_34 hL v1 v2 v3 D1
  · refine Sg.go (pc' := 20) (mi_ifeq_f (tgt := 34) dX10_shape_17 (by decide) h2) ?_
    refine Sg.go (pc' := 21) (mi_iload_n dX10_shape_20 rfl) ?_
    refine Sg.ite (fun h3 => ?_) (fun h3 => ?_)
    · refine Sg.go (pc' := 34) (mi_iflt_t (tgt := 34) dX10_shape_21 (by decide) h3) ?_
      exact S_X10_shape_34 hL v1 v2 v3 D1
    · refine Sg.go (pc' := 24) (mi_iflt_f (tgt := 34) dX10_shape_21 (by decide) h3) ?_
      refine Sg.go (pc' := 25) (mi_iload_n dX10_shape_24 rfl) ?_
      refine Sg.go (pc' := 27) (mi_bipush (z := 9) dX10_shape_25 rfl) ?_
      refine Sg.ite (fun h4 => ?_) (fun h4 => ?_)
      · refine Sg.go (pc' := 34) (mi_icmpgt_t (tgt := 34) dX10_shape_27 (by decide) h4) ?_
        exact S_X10_shape_34 hL v1 v2 v3 D1
      · refine Sg.go (pc' := 30) (mi_icmpgt_f (tgt := 34) dX10_shape_27 (by decide) h4) ?_
        refine Sg.go (pc' := 31) (mi_iconst (z := 1) dX10_shape_30 rfl) ?_
        refine Sg.go (pc' := 35) (mi_goto (tgt := 35) dX10_shape_31 (by decide)) ?_
        exact S_X10_shape_35 hL v1 v2 v3 1 D1
theorem C_X10_shape {Z : MiZ} (hL : CL Z) (a1 a2 a3 : Int) (D : MiD) (b : (Int × MiD) ⊕ (Nat × MiD)) (hb : B_X10_shape a1 a2 a3 D = some b) : MC m_X10_shape [(3, 0), (0, a1), (0, a2), (0, a3)] (D, Z) ((mi_LT 0 Z) b) := MC.ofSg (L := (mi_LT 0 Z)) (μ := m_X10_shape) (args := [(3, 0), (0, a1), (0, a2), (0, a3)]) (M := (D, Z)) rfl wP_X10 (Nat.le_of_ble_eq_true rfl) (show Sg m_X10_shape 0 [(3, 0), (0, a1), (0, a2), (0, a3)] [] (D, Z) (mi_LT 0 Z) (B_X10_shape a1 a2 a3 D) from S_X10_shape hL a1 a2 a3 D) hb
abbrev m_X10_shapes : MiI := (yX10_shapes, cX10_shapes, 5, (some .int), 7, none)
def B_X10_shapes_25 : Nat → Int → Int → Int → MiD → Option ((Int × MiD) ⊕ (Nat × MiD))
  | 0, _, _, _, _ => none
  | f + 1, v2, v3, v4, D => if 11 ≤ v4 then (some (.inl (v3, D))) else (if 0 ≤ v2 ∧ v2 < 120 then (mi_bi (B_X6_isRow D v2) fun y3 => if y3 = 0 then (some (.inl (v3, D))) else (mi_bi (B_X6_fitsAs D v2 v4 (D 3 v2 1)) fun y5 => if y5 = 0 then (B_X10_shapes_25 f v2 v3 (mi_w (v4 + 1)) D) else (mi_let (mi_or v3 (mi_shl 1 v4)) fun x7 => B_X10_shapes_25 f v2 x7 (mi_w (v4 + 1)) D))) else none)
set_option maxRecDepth 20000 in
theorem S_X10_shapes_25 {Z : MiZ} (hL : CL Z) : ∀ (f : Nat) (v2 v3 v4 : Int) (D : MiD), Sg m_X10_shapes 25 [mi_un, mi_un, (5, v2), (0, v3), (0, v4)] [] (D, Z) (mi_LT 0 Z) (B_X10_shapes_25 f v2 v3 v4 D) := by
  intro f
  induction f with
  | zero => intros; exact Sg.nope
  | succ f K25 =>
    intro v2 v3 v4 D
    show Sg m_X10_shapes 25 [mi_un, mi_un, (5, v2), (0, v3), (0, v4)] [] (D, Z) (mi_LT 0 Z) (if 11 ≤ v4 then (some (.inl (v3, D))) else (if 0 ≤ v2 ∧ v2 < 120 then (mi_bi (B_X6_isRow D v2) fun y3 => if y3 = 0 then (some (.inl (v3, D))) else (mi_bi (B_X6_fitsAs D v2 v4 (D 3 v2 1)) fun y5 => if y5 = 0 then (B_X10_shapes_25 f v2 v3 (mi_w (v4 + 1)) D) else (mi_let (mi_or v3 (mi_shl 1 v4)) fun x7 => B_X10_shapes_25 f v2 x7 (mi_w (v4 + 1)) D))) else none))
    refine Sg.go (pc' := 27) (mi_iload dX10_shapes_25 rfl) ?_
    refine Sg.go (pc' := 29) (mi_bipush (z := 11) dX10_shapes_27 rfl) ?_
    refine Sg.ite (fun h1 => ?_) (fun h1 => ?_)
    · refine Sg.go (pc' := 65) (mi_icmpge_t (tgt := 65) dX10_shapes_29 (by decide) h1) ?_
      refine Sg.go (pc' := 66) (mi_iload_n dX10_shapes_65 rfl) ?_
      exact Sg.ret (mi_ireturn dX10_shapes_66 rfl (Or.inl rfl))
    · refine Sg.go (pc' := 32) (mi_icmpge_f (tgt := 65) dX10_shapes_29 (by decide) h1) ?_
      refine Sg.go (pc' := 33) (mi_aload_n dX10_shapes_32 rfl) ?_
      refine Sg.ck (fun hk2 => ?_)
      refine Sg.callI (pc' := 36) (t := 0) (μ' := m_X6_isRow) (args := [(5, v2)]) (mi_invV (n := 0) (r := 3) dX10_shapes_33 hC_3 (by omega) rfl rfl wN_X6_isRow rfl ⟨by decide, by decide⟩ wL_X10_289 wI_X6_isRow wS_X6_isRow wB_X6 wC_X6_isRow) (fun v hv => C_X6_isRow hL v2 D (by omega) v hv) (Nat.le_of_ble_eq_true rfl) rfl rfl (fun y3 => ?_)
      refine Sg.ite (fun h4 => ?_) (fun h4 => ?_)
      · refine Sg.go (pc' := 65) (mi_ifeq_t (tgt := 65) dX10_shapes_36 (by decide) h4) ?_
        refine Sg.go (pc' := 66) (mi_iload_n dX10_shapes_65 rfl) ?_
        exact Sg.ret (mi_ireturn dX10_shapes_66 rfl (Or.inl rfl))
      · refine Sg.go (pc' := 39) (mi_ifeq_f (tgt := 65) dX10_shapes_36 (by decide) h4) ?_
        refine Sg.go (pc' := 40) (mi_aload_n dX10_shapes_39 rfl) ?_
        refine Sg.go (pc' := 42) (mi_iload dX10_shapes_40 rfl) ?_
        refine Sg.go (pc' := 43) (mi_aload_n dX10_shapes_42 rfl) ?_
        refine Sg.go (pc' := 46) (mi_gfI (r := 3) (k := 1) dX10_shapes_43 hC_3 (by decide) rfl wF_X10_249 (by omega) rfl) ?_
        refine Sg.callI (pc' := 49) (t := 0) (μ' := m_X6_fitsAs) (args := [(5, v2), (0, v4), (0, (D 3 v2 1))]) (mi_invV (n := 2) (r := 3) dX10_shapes_46 hC_3 (by omega) rfl rfl wN_X6_fitsAs rfl ⟨by decide, by decide⟩ wL_X10_293 wI_X6_fitsAs wS_X6_fitsAs wB_X6 wC_X6_fitsAs) (fun v hv => C_X6_fitsAs hL v2 v4 (D 3 v2 1) D (by omega) v hv) (Nat.le_of_ble_eq_true rfl) rfl rfl (fun y5 => ?_)
        refine Sg.ite (fun h6 => ?_) (fun h6 => ?_)
        · refine Sg.go (pc' := 59) (mi_ifeq_t (tgt := 59) dX10_shapes_49 (by decide) h6) ?_
          refine Sg.go (pc' := 62) (mi_iinc (z := 1) (ls1 := [mi_un, mi_un, (5, v2), (0, v3), (0, (mi_w (v4 + 1)))]) dX10_shapes_59 (by decide) rfl rfl rfl) ?_
          refine Sg.go (pc' := 25) (mi_goto (tgt := 25) dX10_shapes_62 (by decide)) ?_
          exact K25 v2 v3 (mi_w (v4 + 1)) D
        · refine Sg.go (pc' := 52) (mi_ifeq_f (tgt := 59) dX10_shapes_49 (by decide) h6) ?_
          refine Sg.go (pc' := 53) (mi_iload_n dX10_shapes_52 rfl) ?_
          refine Sg.go (pc' := 54) (mi_iconst (z := 1) dX10_shapes_53 rfl) ?_
          refine Sg.go (pc' := 56) (mi_iload dX10_shapes_54 rfl) ?_
          refine Sg.go (pc' := 57) (mi_ishl dX10_shapes_56) ?_
          refine Sg.go (pc' := 58) (mi_ior dX10_shapes_57) ?_
          refine Sg.letI (fun x7 hx7 => ?_)
          refine Sg.go (pc' := 59) (mi_istore_n (ls1 := [mi_un, mi_un, (5, v2), (0, x7), (0, v4)]) dX10_shapes_58 (by decide) rfl) ?_
          refine Sg.go (pc' := 62) (mi_iinc (z := 1) (ls1 := [mi_un, mi_un, (5, v2), (0, x7), (0, (mi_w (v4 + 1)))]) dX10_shapes_59 (by decide) rfl rfl rfl) ?_
          refine Sg.go (pc' := 25) (mi_goto (tgt := 25) dX10_shapes_62 (by decide)) ?_
          exact K25 v2 x7 (mi_w (v4 + 1)) D
def B_X10_shapes (v1 : Int) (D : MiD) : Option ((Int × MiD) ⊕ (Nat × MiD)) := mi_bn (B_X10_needElement (B_X10_within v1 10) D) Sum.inr fun D1 => mi_bi (B_X9_rowAt D1 0 v1 (-1)) fun y2 => B_X10_shapes_25 mi_fuel y2 0 0 D1
set_option maxRecDepth 20000 in
theorem S_X10_shapes {Z : MiZ} (hL : CL Z) (v1 : Int) (D : MiD) : Sg m_X10_shapes 0 [(3, 0), (0, v1), mi_un, mi_un, mi_un] [] (D, Z) (mi_LT 0 Z) (B_X10_shapes v1 D) := by
  unfold B_X10_shapes
  refine Sg.go (pc' := 1) (mi_aload_n dX10_shapes_0 rfl) ?_
  refine Sg.go (pc' := 2) (mi_iload_n dX10_shapes_1 rfl) ?_
  refine Sg.go (pc' := 4) (mi_bipush (z := 10) dX10_shapes_2 rfl) ?_
  refine Sg.callP (pc' := 7) (t := 0) (v := (B_X10_within v1 10)) (μ' := m_X10_within) (args := [(0, v1), (0, 10)]) (mi_invS (n := 2) dX10_shapes_4 rfl wN_X10_within rfl ⟨by decide, by decide⟩ wL_X10_34 wT_X10_within wB_X10 wC_X10_within) (C_X10_within hL v1 10 D) (Nat.le_of_ble_eq_true rfl) rfl rfl ?_
  refine Sg.callNT (pc' := 10) (μ' := m_X10_needElement) (args := [(3, 0), (0, (B_X10_within v1 10))]) (mi_invV (n := 1) (r := 1) dX10_shapes_7 hC_1 (by omega) rfl rfl wN_X10_needElement rfl ⟨by decide, by decide⟩ wL_X10_38 wI_X10_needElement wS_X10_needElement wB_X10 wC_X10_needElement) (fun v hv => C_X10_needElement hL (B_X10_within v1 10) D ((by exact Z_X10_within)) v hv) rfl (Nat.le_of_ble_eq_true rfl) rfl rfl (fun D1 => ?_)
  refine Sg.go (pc' := 11) (mi_aload_n dX10_shapes_10 rfl) ?_
  refine Sg.go (pc' := 14) (mi_gfA (t := 2) (v := 0) (r := 1) (k := 4) dX10_shapes_11 hC_1 (by decide) rfl wF_X10_20 (by omega) rfl hL.1.2.1) ?_
  refine Sg.go (pc' := 15) (mi_iload_n dX10_shapes_14 rfl) ?_
  refine Sg.go (pc' := 16) (mi_iconst (z := (-1)) dX10_shapes_15 rfl) ?_
  refine Sg.callI (pc' := 19) (t := 5) (μ' := m_X9_rowAt) (args := [(4, 0), (0, v1), (0, (-1))]) (mi_invV (n := 2) (r := 2) dX10_shapes_16 hC_2 (by omega) rfl rfl wN_X9_rowAt rfl ⟨by decide, by decide⟩ wL_X10_242 wI_X9_rowAt wS_X9_rowAt wB_X9 wC_X9_rowAt) (fun v hv => C_X9_rowAt hL 0 v1 (-1) D1 (by omega) v hv) (Nat.le_of_ble_eq_true rfl) rfl rfl (fun y2 => ?_)
  refine Sg.go (pc' := 20) (mi_astore_n (ls1 := [(3, 0), (0, v1), (5, y2), mi_un, mi_un]) dX10_shapes_19 (by decide) rfl) ?_
  refine Sg.go (pc' := 21) (mi_iconst (z := 0) dX10_shapes_20 rfl) ?_
  refine Sg.go (pc' := 22) (mi_istore_n (ls1 := [(3, 0), (0, v1), (5, y2), (0, 0), mi_un]) dX10_shapes_21 (by decide) rfl) ?_
  refine Sg.go (pc' := 23) (mi_iconst (z := 0) dX10_shapes_22 rfl) ?_
  refine Sg.go (pc' := 25) (mi_istore (ls1 := [(3, 0), (0, v1), (5, y2), (0, 0), (0, 0)]) dX10_shapes_23 (by decide) rfl) ?_
  refine Sg.go (pc' := 25) (MiStep.weak (ls' := [mi_un, mi_un, (5, y2), (0, 0), (0, 0)]) (mi_wk_n (mi_wk_n (mi_wk_y (mi_wk_y (mi_wk_y mi_wk_0)))))) ?_
  exact S_X10_shapes_25 hL mi_fuel y2 0 0 D1
theorem C_X10_shapes {Z : MiZ} (hL : CL Z) (a1 : Int) (D : MiD) (b : (Int × MiD) ⊕ (Nat × MiD)) (hb : B_X10_shapes a1 D = some b) : MC m_X10_shapes [(3, 0), (0, a1)] (D, Z) ((mi_LT 0 Z) b) := MC.ofSg (L := (mi_LT 0 Z)) (μ := m_X10_shapes) (args := [(3, 0), (0, a1)]) (M := (D, Z)) rfl wP_X10 (Nat.le_of_ble_eq_true rfl) (show Sg m_X10_shapes 0 [(3, 0), (0, a1), mi_un, mi_un, mi_un] [] (D, Z) (mi_LT 0 Z) (B_X10_shapes a1 D) from S_X10_shapes hL a1 D) hb
abbrev m_X10_start : MiI := (yX10_start, cX10_start, 3, (some .int), 7, none)
def B_X10_start_48 (Z : MiZ) (v1 : Int) (v2 : Int) (s1 : Int) (D : MiD) : Option ((Int × MiD) ⊕ (Nat × MiD)) := if s1 = 0 ∨ s1 = 1 then (mi_bn (B_X10_needState s1 D) Sum.inr fun D2 => mi_b2 (B_X9_launch Z 0 v1 v2 D2) fun y3 D4 => some (.inl (y3, D4))) else none
set_option maxRecDepth 20000 in
theorem S_X10_start_48 {Z : MiZ} (hL : CL Z) (v1 v2 s1 : Int) (D : MiD) : Sg m_X10_start 48 [(3, 0), (0, v1), (0, v2)] [(0, s1), (3, 0)] (D, Z) (mi_LT 0 Z) (B_X10_start_48 Z v1 v2 s1 D) := by
  unfold B_X10_start_48
  refine Sg.ck (fun hk1 => ?_)
  refine Sg.callNT (pc' := 51) (μ' := m_X10_needState) (args := [(3, 0), (0, s1)]) (mi_invV (n := 1) (r := 1) dX10_start_48 hC_1 (by omega) rfl rfl wN_X10_needState rfl ⟨by decide, by decide⟩ wL_X10_49 wI_X10_needState wS_X10_needState wB_X10 wC_X10_needState) (fun v hv => C_X10_needState hL s1 D (hk1) v hv) rfl (Nat.le_of_ble_eq_true rfl) rfl rfl (fun D2 => ?_)
  refine Sg.go (pc' := 52) (mi_aload_n dX10_start_51 rfl) ?_
  refine Sg.go (pc' := 55) (mi_gfA (t := 2) (v := 0) (r := 1) (k := 4) dX10_start_52 hC_1 (by decide) rfl wF_X10_20 (by omega) rfl hL.1.2.1) ?_
  refine Sg.go (pc' := 56) (mi_iload_n dX10_start_55 rfl) ?_
  refine Sg.go (pc' := 57) (mi_iload_n dX10_start_56 rfl) ?_
  refine Sg.callD (pc' := 60) (t := 0) (μ' := m_X9_launch) (args := [(4, 0), (0, v1), (0, v2)]) (mi_invV (n := 2) (r := 2) dX10_start_57 hC_2 (by omega) rfl rfl wN_X9_launch rfl ⟨by decide, by decide⟩ wL_X10_112 wI_X9_launch wS_X9_launch wB_X9 wC_X9_launch) (fun v hv => C_X9_launch hL 0 v1 v2 D2 (by omega) v hv) (Nat.le_of_ble_eq_true rfl) rfl rfl (fun y3 D4 => ?_)
  exact Sg.ret (mi_ireturn dX10_start_60 rfl (Or.inl rfl))
def B_X10_start_24 (Z : MiZ) (v1 : Int) (v2 : Int) (s1 : Int) (D : MiD) : Option ((Int × MiD) ⊕ (Nat × MiD)) := if s1 = 0 ∨ s1 = 1 then (mi_bn (B_X10_needElement s1 D) Sum.inr fun D2 => if 0 ≤ v1 ∧ v1 < 6 then (if (D2 4 (6 * 0 + v1) 4) ≠ 0 then (B_X10_start_48 Z v1 v2 0 D2) else (B_X10_start_48 Z v1 v2 1 D2)) else none) else none
set_option maxRecDepth 20000 in
theorem S_X10_start_24 {Z : MiZ} (hL : CL Z) (v1 v2 s1 : Int) (D : MiD) : Sg m_X10_start 24 [(3, 0), (0, v1), (0, v2)] [(0, s1), (3, 0)] (D, Z) (mi_LT 0 Z) (B_X10_start_24 Z v1 v2 s1 D) := by
  unfold B_X10_start_24
  refine Sg.ck (fun hk1 => ?_)
  refine Sg.callNT (pc' := 27) (μ' := m_X10_needElement) (args := [(3, 0), (0, s1)]) (mi_invV (n := 1) (r := 1) dX10_start_24 hC_1 (by omega) rfl rfl wN_X10_needElement rfl ⟨by decide, by decide⟩ wL_X10_38 wI_X10_needElement wS_X10_needElement wB_X10 wC_X10_needElement) (fun v hv => C_X10_needElement hL s1 D (hk1) v hv) rfl (Nat.le_of_ble_eq_true rfl) rfl rfl (fun D2 => ?_)
  refine Sg.go (pc' := 28) (mi_aload_n dX10_start_27 rfl) ?_
  refine Sg.go (pc' := 29) (mi_aload_n dX10_start_28 rfl) ?_
  refine Sg.go (pc' := 32) (mi_gfA (t := 2) (v := 0) (r := 1) (k := 4) dX10_start_29 hC_1 (by decide) rfl wF_X10_20 (by omega) rfl hL.1.2.1) ?_
  refine Sg.go (pc' := 35) (mi_gfA (t := 14) (v := 0) (r := 2) (k := 3) dX10_start_32 hC_2 (by decide) rfl wF_X10_103 (by omega) rfl (hL.2.1 _ 3 (by omega) (by omega) (by decide))) ?_
  refine Sg.go (pc' := 36) (mi_iload_n dX10_start_35 rfl) ?_
  refine Sg.ck (fun hk3 => ?_)
  refine Sg.go (pc' := 37) (mi_aald (n := 6) (t := 4) (v := (6 * 0 + v1)) dX10_start_36 rfl hA_14 rfl (by omega) hk3 rfl (hL.2.2.2.2.2.2.2 _ _ (by omega) (by omega) hk3.1 hk3.2)) ?_
  refine Sg.go (pc' := 40) (mi_gfI (r := 4) (k := 4) dX10_start_37 hC_4 (by decide) rfl wF_X10_107 (by omega) rfl) ?_
  refine Sg.ite (fun h4 => ?_) (fun h4 => ?_)
  · refine Sg.go (pc' := 47) (mi_ifne_t (tgt := 47) dX10_start_40 (by decide) h4) ?_
    refine Sg.go (pc' := 48) (mi_iconst (z := 0) dX10_start_47 rfl) ?_
    exact S_X10_start_48 hL v1 v2 0 D2
  · refine Sg.go (pc' := 43) (mi_ifne_f (tgt := 47) dX10_start_40 (by decide) h4) ?_
    refine Sg.go (pc' := 44) (mi_iconst (z := 1) dX10_start_43 rfl) ?_
    refine Sg.go (pc' := 48) (mi_goto (tgt := 48) dX10_start_44 (by decide)) ?_
    exact S_X10_start_48 hL v1 v2 1 D2
def B_X10_start_23 (Z : MiZ) (v1 : Int) (v2 : Int) (D : MiD) : Option ((Int × MiD) ⊕ (Nat × MiD)) := B_X10_start_24 Z v1 v2 0 D
set_option maxRecDepth 20000 in
theorem S_X10_start_23 {Z : MiZ} (hL : CL Z) (v1 v2 : Int) (D : MiD) : Sg m_X10_start 23 [(3, 0), (0, v1), (0, v2)] [(3, 0)] (D, Z) (mi_LT 0 Z) (B_X10_start_23 Z v1 v2 D) := by
  unfold B_X10_start_23
  refine Sg.go (pc' := 24) (mi_iconst (z := 0) dX10_start_23 rfl) ?_
  exact S_X10_start_24 hL v1 v2 0 D
def B_X10_start (Z : MiZ) (v1 : Int) (v2 : Int) (D : MiD) : Option ((Int × MiD) ⊕ (Nat × MiD)) := if (B_X10_within v1 6) = 0 then (B_X10_start_23 Z v1 v2 D) else (if (B_X10_within v2 12) = 0 then (B_X10_start_23 Z v1 v2 D) else (B_X10_start_24 Z v1 v2 1 D))
set_option maxRecDepth 20000 in
theorem S_X10_start {Z : MiZ} (hL : CL Z) (v1 v2 : Int) (D : MiD) : Sg m_X10_start 0 [(3, 0), (0, v1), (0, v2)] [] (D, Z) (mi_LT 0 Z) (B_X10_start Z v1 v2 D) := by
  unfold B_X10_start
  refine Sg.go (pc' := 1) (mi_aload_n dX10_start_0 rfl) ?_
  refine Sg.go (pc' := 2) (mi_iload_n dX10_start_1 rfl) ?_
  refine Sg.go (pc' := 4) (mi_bipush (z := 6) dX10_start_2 rfl) ?_
  refine Sg.callP (pc' := 7) (t := 0) (v := (B_X10_within v1 6)) (μ' := m_X10_within) (args := [(0, v1), (0, 6)]) (mi_invS (n := 2) dX10_start_4 rfl wN_X10_within rfl ⟨by decide, by decide⟩ wL_X10_34 wT_X10_within wB_X10 wC_X10_within) (C_X10_within hL v1 6 D) (Nat.le_of_ble_eq_true rfl) rfl rfl ?_
  refine Sg.ite (fun h1 => ?_) (fun h1 => ?_)
  · refine Sg.go (pc' := 23) (mi_ifeq_t (tgt := 23) dX10_start_7 (by decide) h1) ?_
    exact S_X10_start_23 hL v1 v2 D
  · refine Sg.go (pc' := 10) (mi_ifeq_f (tgt := 23) dX10_start_7 (by decide) h1) ?_
    refine Sg.go (pc' := 11) (mi_iload_n dX10_start_10 rfl) ?_
    refine Sg.go (pc' := 13) (mi_bipush (z := 12) dX10_start_11 rfl) ?_
    refine Sg.callP (pc' := 16) (t := 0) (v := (B_X10_within v2 12)) (μ' := m_X10_within) (args := [(0, v2), (0, 12)]) (mi_invS (n := 2) dX10_start_13 rfl wN_X10_within rfl ⟨by decide, by decide⟩ wL_X10_34 wT_X10_within wB_X10 wC_X10_within) (C_X10_within hL v2 12 D) (Nat.le_of_ble_eq_true rfl) rfl rfl ?_
    refine Sg.ite (fun h2 => ?_) (fun h2 => ?_)
    · refine Sg.go (pc' := 23) (mi_ifeq_t (tgt := 23) dX10_start_16 (by decide) h2) ?_
      exact S_X10_start_23 hL v1 v2 D
    · refine Sg.go (pc' := 19) (mi_ifeq_f (tgt := 23) dX10_start_16 (by decide) h2) ?_
      refine Sg.go (pc' := 20) (mi_iconst (z := 1) dX10_start_19 rfl) ?_
      refine Sg.go (pc' := 24) (mi_goto (tgt := 24) dX10_start_20 (by decide)) ?_
      exact S_X10_start_24 hL v1 v2 1 D
theorem C_X10_start {Z : MiZ} (hL : CL Z) (a1 a2 : Int) (D : MiD) (b : (Int × MiD) ⊕ (Nat × MiD)) (hb : B_X10_start Z a1 a2 D = some b) : MC m_X10_start [(3, 0), (0, a1), (0, a2)] (D, Z) ((mi_LT 0 Z) b) := MC.ofSg (L := (mi_LT 0 Z)) (μ := m_X10_start) (args := [(3, 0), (0, a1), (0, a2)]) (M := (D, Z)) rfl wP_X10 (Nat.le_of_ble_eq_true rfl) (show Sg m_X10_start 0 [(3, 0), (0, a1), (0, a2)] [] (D, Z) (mi_LT 0 Z) (B_X10_start Z a1 a2 D) from S_X10_start hL a1 a2 D) hb
abbrev m_X10_step : MiI := (yX10_step, cX10_step, 2, (some .int), 7, none)
def B_X10_step_31 (Z : MiZ) (v1 : Int) (s1 : Int) (D : MiD) : Option ((Int × MiD) ⊕ (Nat × MiD)) := if s1 = 0 ∨ s1 = 1 then (mi_bn (B_X10_needState s1 D) Sum.inr fun D2 => mi_bi (B_X9_act Z 0 v1 D2) fun D3 => mi_bi (B_X9_settle Z 0 D3) fun D4 => if 0 ≤ v1 ∧ v1 < 6 then (some (.inl ((D4 4 (6 * 0 + v1) 6), D4))) else none) else none
set_option maxRecDepth 20000 in
theorem S_X10_step_31 {Z : MiZ} (hL : CL Z) (v1 s1 : Int) (D : MiD) : Sg m_X10_step 31 [(3, 0), (0, v1)] [(0, s1), (3, 0)] (D, Z) (mi_LT 0 Z) (B_X10_step_31 Z v1 s1 D) := by
  unfold B_X10_step_31
  refine Sg.ck (fun hk1 => ?_)
  refine Sg.callNT (pc' := 34) (μ' := m_X10_needState) (args := [(3, 0), (0, s1)]) (mi_invV (n := 1) (r := 1) dX10_step_31 hC_1 (by omega) rfl rfl wN_X10_needState rfl ⟨by decide, by decide⟩ wL_X10_49 wI_X10_needState wS_X10_needState wB_X10 wC_X10_needState) (fun v hv => C_X10_needState hL s1 D (hk1) v hv) rfl (Nat.le_of_ble_eq_true rfl) rfl rfl (fun D2 => ?_)
  refine Sg.go (pc' := 35) (mi_aload_n dX10_step_34 rfl) ?_
  refine Sg.go (pc' := 38) (mi_gfA (t := 2) (v := 0) (r := 1) (k := 4) dX10_step_35 hC_1 (by decide) rfl wF_X10_20 (by omega) rfl hL.1.2.1) ?_
  refine Sg.go (pc' := 39) (mi_iload_n dX10_step_38 rfl) ?_
  refine Sg.callV (pc' := 42) (μ' := m_X9_act) (args := [(4, 0), (0, v1)]) (mi_invV (n := 1) (r := 2) dX10_step_39 hC_2 (by omega) rfl rfl wN_X9_act rfl ⟨by decide, by decide⟩ wL_X10_116 wI_X9_act wS_X9_act wB_X9 wC_X9_act) (fun v hv => C_X9_act hL 0 v1 D2 (by omega) v hv) (Nat.le_of_ble_eq_true rfl) rfl rfl (fun D3 => ?_)
  refine Sg.go (pc' := 43) (mi_aload_n dX10_step_42 rfl) ?_
  refine Sg.go (pc' := 46) (mi_gfA (t := 2) (v := 0) (r := 1) (k := 4) dX10_step_43 hC_1 (by decide) rfl wF_X10_20 (by omega) rfl hL.1.2.1) ?_
  refine Sg.callV (pc' := 49) (μ' := m_X9_settle) (args := [(4, 0)]) (mi_invV (n := 0) (r := 2) dX10_step_46 hC_2 (by omega) rfl rfl wN_X9_settle rfl ⟨by decide, by decide⟩ wL_X10_119 wI_X9_settle wS_X9_settle wB_X9 wC_X9_settle) (fun v hv => C_X9_settle hL 0 D3 (by omega) v hv) (Nat.le_of_ble_eq_true rfl) rfl rfl (fun D4 => ?_)
  refine Sg.go (pc' := 50) (mi_aload_n dX10_step_49 rfl) ?_
  refine Sg.go (pc' := 53) (mi_gfA (t := 2) (v := 0) (r := 1) (k := 4) dX10_step_50 hC_1 (by decide) rfl wF_X10_20 (by omega) rfl hL.1.2.1) ?_
  refine Sg.go (pc' := 56) (mi_gfA (t := 14) (v := 0) (r := 2) (k := 3) dX10_step_53 hC_2 (by decide) rfl wF_X10_103 (by omega) rfl (hL.2.1 _ 3 (by omega) (by omega) (by decide))) ?_
  refine Sg.go (pc' := 57) (mi_iload_n dX10_step_56 rfl) ?_
  refine Sg.ck (fun hk5 => ?_)
  refine Sg.go (pc' := 58) (mi_aald (n := 6) (t := 4) (v := (6 * 0 + v1)) dX10_step_57 rfl hA_14 rfl (by omega) hk5 rfl (hL.2.2.2.2.2.2.2 _ _ (by omega) (by omega) hk5.1 hk5.2)) ?_
  refine Sg.go (pc' := 61) (mi_gfI (r := 4) (k := 6) dX10_step_58 hC_4 (by decide) rfl wF_X10_122 (by omega) rfl) ?_
  exact Sg.ret (mi_ireturn dX10_step_61 rfl (Or.inl rfl))
def B_X10_step (Z : MiZ) (v1 : Int) (D : MiD) : Option ((Int × MiD) ⊕ (Nat × MiD)) := mi_bn (B_X10_needElement (B_X10_within v1 6) D) Sum.inr fun D1 => if 0 ≤ v1 ∧ v1 < 6 then (if (D1 4 (6 * 0 + v1) 4) ≤ 0 then (B_X10_step_31 Z v1 0 D1) else (B_X10_step_31 Z v1 1 D1)) else none
set_option maxRecDepth 20000 in
theorem S_X10_step {Z : MiZ} (hL : CL Z) (v1 : Int) (D : MiD) : Sg m_X10_step 0 [(3, 0), (0, v1)] [] (D, Z) (mi_LT 0 Z) (B_X10_step Z v1 D) := by
  unfold B_X10_step
  refine Sg.go (pc' := 1) (mi_aload_n dX10_step_0 rfl) ?_
  refine Sg.go (pc' := 2) (mi_iload_n dX10_step_1 rfl) ?_
  refine Sg.go (pc' := 4) (mi_bipush (z := 6) dX10_step_2 rfl) ?_
  refine Sg.callP (pc' := 7) (t := 0) (v := (B_X10_within v1 6)) (μ' := m_X10_within) (args := [(0, v1), (0, 6)]) (mi_invS (n := 2) dX10_step_4 rfl wN_X10_within rfl ⟨by decide, by decide⟩ wL_X10_34 wT_X10_within wB_X10 wC_X10_within) (C_X10_within hL v1 6 D) (Nat.le_of_ble_eq_true rfl) rfl rfl ?_
  refine Sg.callNT (pc' := 10) (μ' := m_X10_needElement) (args := [(3, 0), (0, (B_X10_within v1 6))]) (mi_invV (n := 1) (r := 1) dX10_step_7 hC_1 (by omega) rfl rfl wN_X10_needElement rfl ⟨by decide, by decide⟩ wL_X10_38 wI_X10_needElement wS_X10_needElement wB_X10 wC_X10_needElement) (fun v hv => C_X10_needElement hL (B_X10_within v1 6) D ((by exact Z_X10_within)) v hv) rfl (Nat.le_of_ble_eq_true rfl) rfl rfl (fun D1 => ?_)
  refine Sg.go (pc' := 11) (mi_aload_n dX10_step_10 rfl) ?_
  refine Sg.go (pc' := 12) (mi_aload_n dX10_step_11 rfl) ?_
  refine Sg.go (pc' := 15) (mi_gfA (t := 2) (v := 0) (r := 1) (k := 4) dX10_step_12 hC_1 (by decide) rfl wF_X10_20 (by omega) rfl hL.1.2.1) ?_
  refine Sg.go (pc' := 18) (mi_gfA (t := 14) (v := 0) (r := 2) (k := 3) dX10_step_15 hC_2 (by decide) rfl wF_X10_103 (by omega) rfl (hL.2.1 _ 3 (by omega) (by omega) (by decide))) ?_
  refine Sg.go (pc' := 19) (mi_iload_n dX10_step_18 rfl) ?_
  refine Sg.ck (fun hk2 => ?_)
  refine Sg.go (pc' := 20) (mi_aald (n := 6) (t := 4) (v := (6 * 0 + v1)) dX10_step_19 rfl hA_14 rfl (by omega) hk2 rfl (hL.2.2.2.2.2.2.2 _ _ (by omega) (by omega) hk2.1 hk2.2)) ?_
  refine Sg.go (pc' := 23) (mi_gfI (r := 4) (k := 4) dX10_step_20 hC_4 (by decide) rfl wF_X10_107 (by omega) rfl) ?_
  refine Sg.ite (fun h3 => ?_) (fun h3 => ?_)
  · refine Sg.go (pc' := 30) (mi_ifle_t (tgt := 30) dX10_step_23 (by decide) h3) ?_
    refine Sg.go (pc' := 31) (mi_iconst (z := 0) dX10_step_30 rfl) ?_
    exact S_X10_step_31 hL v1 0 D1
  · refine Sg.go (pc' := 26) (mi_ifle_f (tgt := 30) dX10_step_23 (by decide) h3) ?_
    refine Sg.go (pc' := 27) (mi_iconst (z := 1) dX10_step_26 rfl) ?_
    refine Sg.go (pc' := 31) (mi_goto (tgt := 31) dX10_step_27 (by decide)) ?_
    exact S_X10_step_31 hL v1 1 D1
theorem C_X10_step {Z : MiZ} (hL : CL Z) (a1 : Int) (D : MiD) (b : (Int × MiD) ⊕ (Nat × MiD)) (hb : B_X10_step Z a1 D = some b) : MC m_X10_step [(3, 0), (0, a1)] (D, Z) ((mi_LT 0 Z) b) := MC.ofSg (L := (mi_LT 0 Z)) (μ := m_X10_step) (args := [(3, 0), (0, a1)]) (M := (D, Z)) rfl wP_X10 (Nat.le_of_ble_eq_true rfl) (show Sg m_X10_step 0 [(3, 0), (0, a1)] [] (D, Z) (mi_LT 0 Z) (B_X10_step Z a1 D) from S_X10_step hL a1 D) hb
abbrev m_X10_stuck : MiI := (yX10_stuck, cX10_stuck, 2, (some .int), 7, none)
def B_X10_stuck (Z : MiZ) (v1 : Int) (D : MiD) : Option ((Int × MiD) ⊕ (Nat × MiD)) := mi_bn (B_X10_needElement (B_X10_within v1 6) D) Sum.inr fun D1 => mi_bi (B_X9_hasTurned D1 0 v1) fun y2 => if y2 = 0 then (mi_bi (B_X9_hindrance D1 Z 0 v1) fun y4 => some (.inl (y4, D1))) else (some (.inl ((-1), D1)))
set_option maxRecDepth 20000 in
theorem S_X10_stuck {Z : MiZ} (hL : CL Z) (v1 : Int) (D : MiD) : Sg m_X10_stuck 0 [(3, 0), (0, v1)] [] (D, Z) (mi_LT 0 Z) (B_X10_stuck Z v1 D) := by
  unfold B_X10_stuck
  refine Sg.go (pc' := 1) (mi_aload_n dX10_stuck_0 rfl) ?_
  refine Sg.go (pc' := 2) (mi_iload_n dX10_stuck_1 rfl) ?_
  refine Sg.go (pc' := 4) (mi_bipush (z := 6) dX10_stuck_2 rfl) ?_
  refine Sg.callP (pc' := 7) (t := 0) (v := (B_X10_within v1 6)) (μ' := m_X10_within) (args := [(0, v1), (0, 6)]) (mi_invS (n := 2) dX10_stuck_4 rfl wN_X10_within rfl ⟨by decide, by decide⟩ wL_X10_34 wT_X10_within wB_X10 wC_X10_within) (C_X10_within hL v1 6 D) (Nat.le_of_ble_eq_true rfl) rfl rfl ?_
  refine Sg.callNT (pc' := 10) (μ' := m_X10_needElement) (args := [(3, 0), (0, (B_X10_within v1 6))]) (mi_invV (n := 1) (r := 1) dX10_stuck_7 hC_1 (by omega) rfl rfl wN_X10_needElement rfl ⟨by decide, by decide⟩ wL_X10_38 wI_X10_needElement wS_X10_needElement wB_X10 wC_X10_needElement) (fun v hv => C_X10_needElement hL (B_X10_within v1 6) D ((by exact Z_X10_within)) v hv) rfl (Nat.le_of_ble_eq_true rfl) rfl rfl (fun D1 => ?_)
  refine Sg.go (pc' := 11) (mi_aload_n dX10_stuck_10 rfl) ?_
  refine Sg.go (pc' := 14) (mi_gfA (t := 2) (v := 0) (r := 1) (k := 4) dX10_stuck_11 hC_1 (by decide) rfl wF_X10_20 (by omega) rfl hL.1.2.1) ?_
  refine Sg.go (pc' := 15) (mi_iload_n dX10_stuck_14 rfl) ?_
  refine Sg.callI (pc' := 18) (t := 0) (μ' := m_X9_hasTurned) (args := [(4, 0), (0, v1)]) (mi_invV (n := 1) (r := 2) dX10_stuck_15 hC_2 (by omega) rfl rfl wN_X9_hasTurned rfl ⟨by decide, by decide⟩ wL_X10_217 wI_X9_hasTurned wS_X9_hasTurned wB_X9 wC_X9_hasTurned) (fun v hv => C_X9_hasTurned hL 0 v1 D1 (by omega) v hv) (Nat.le_of_ble_eq_true rfl) rfl rfl (fun y2 => ?_)
  refine Sg.ite (fun h3 => ?_) (fun h3 => ?_)
  · refine Sg.go (pc' := 25) (mi_ifeq_t (tgt := 25) dX10_stuck_18 (by decide) h3) ?_
    refine Sg.go (pc' := 26) (mi_aload_n dX10_stuck_25 rfl) ?_
    refine Sg.go (pc' := 29) (mi_gfA (t := 2) (v := 0) (r := 1) (k := 4) dX10_stuck_26 hC_1 (by decide) rfl wF_X10_20 (by omega) rfl hL.1.2.1) ?_
    refine Sg.go (pc' := 30) (mi_iload_n dX10_stuck_29 rfl) ?_
    refine Sg.callI (pc' := 33) (t := 0) (μ' := m_X9_hindrance) (args := [(4, 0), (0, v1)]) (mi_invV (n := 1) (r := 2) dX10_stuck_30 hC_2 (by omega) rfl rfl wN_X9_hindrance rfl ⟨by decide, by decide⟩ wL_X10_221 wI_X9_hindrance wS_X9_hindrance wB_X9 wC_X9_hindrance) (fun v hv => C_X9_hindrance hL 0 v1 D1 (by omega) v hv) (Nat.le_of_ble_eq_true rfl) rfl rfl (fun y4 => ?_)
    exact Sg.ret (mi_ireturn dX10_stuck_33 rfl (Or.inl rfl))
  · refine Sg.go (pc' := 21) (mi_ifeq_f (tgt := 25) dX10_stuck_18 (by decide) h3) ?_
    refine Sg.go (pc' := 22) (mi_iconst (z := (-1)) dX10_stuck_21 rfl) ?_
    refine Sg.go (pc' := 33) (mi_goto (tgt := 33) dX10_stuck_22 (by decide)) ?_
    exact Sg.ret (mi_ireturn dX10_stuck_33 rfl (Or.inl rfl))
theorem C_X10_stuck {Z : MiZ} (hL : CL Z) (a1 : Int) (D : MiD) (b : (Int × MiD) ⊕ (Nat × MiD)) (hb : B_X10_stuck Z a1 D = some b) : MC m_X10_stuck [(3, 0), (0, a1)] (D, Z) ((mi_LT 0 Z) b) := MC.ofSg (L := (mi_LT 0 Z)) (μ := m_X10_stuck) (args := [(3, 0), (0, a1)]) (M := (D, Z)) rfl wP_X10 (Nat.le_of_ble_eq_true rfl) (show Sg m_X10_stuck 0 [(3, 0), (0, a1)] [] (D, Z) (mi_LT 0 Z) (B_X10_stuck Z a1 D) from S_X10_stuck hL a1 D) hb
abbrev m_X10_task : MiI := (yX10_task, cX10_task, 4, (some .int), 7, none)
def B_X10_task (v1 : Int) (v2 : Int) (D : MiD) : Option ((Int × MiD) ⊕ (Nat × MiD)) := mi_bn (B_X10_needElement (B_X10_within v1 6) D) Sum.inr fun D1 => if 0 ≤ v1 ∧ v1 < 6 then (if v2 = 0 then (some (.inl ((D1 4 (6 * 0 + v1) 4), D1))) else (if v2 = 1 then (some (.inl ((D1 4 (6 * 0 + v1) 6), D1))) else (if v2 = 2 then (some (.inl ((D1 5 ((6 * 0 + v1) + 1 + (6 * 0 + v1) / 6) 0), D1))) else (if v2 = 3 then (some (.inl ((D1 4 (6 * 0 + v1) 5), D1))) else (if v2 = 4 then (if (D1 2 0 8) = (-1) then (some (.inl (0, D1))) else (if (D1 4 (6 * 0 + v1) 8) = 0 then (some (.inl (0, D1))) else (some (.inl (1, D1))))) else (if v2 = 5 then (some (.inl ((D1 4 (6 * 0 + v1) 9), D1))) else (if v2 = 6 then (some (.inl ((D1 4 (6 * 0 + v1) 10), D1))) else (mi_bn (B_X10_needArgument 0 D1) Sum.inr fun D13 => some (.inl ((-1), D13)))))))))) else none
set_option maxRecDepth 20000 in
theorem S_X10_task {Z : MiZ} (hL : CL Z) (v1 v2 : Int) (D : MiD) : Sg m_X10_task 0 [(3, 0), (0, v1), (0, v2), mi_un] [] (D, Z) (mi_LT 0 Z) (B_X10_task v1 v2 D) := by
  unfold B_X10_task
  refine Sg.go (pc' := 1) (mi_aload_n dX10_task_0 rfl) ?_
  refine Sg.go (pc' := 2) (mi_iload_n dX10_task_1 rfl) ?_
  refine Sg.go (pc' := 4) (mi_bipush (z := 6) dX10_task_2 rfl) ?_
  refine Sg.callP (pc' := 7) (t := 0) (v := (B_X10_within v1 6)) (μ' := m_X10_within) (args := [(0, v1), (0, 6)]) (mi_invS (n := 2) dX10_task_4 rfl wN_X10_within rfl ⟨by decide, by decide⟩ wL_X10_34 wT_X10_within wB_X10 wC_X10_within) (C_X10_within hL v1 6 D) (Nat.le_of_ble_eq_true rfl) rfl rfl ?_
  refine Sg.callNT (pc' := 10) (μ' := m_X10_needElement) (args := [(3, 0), (0, (B_X10_within v1 6))]) (mi_invV (n := 1) (r := 1) dX10_task_7 hC_1 (by omega) rfl rfl wN_X10_needElement rfl ⟨by decide, by decide⟩ wL_X10_38 wI_X10_needElement wS_X10_needElement wB_X10 wC_X10_needElement) (fun v hv => C_X10_needElement hL (B_X10_within v1 6) D ((by exact Z_X10_within)) v hv) rfl (Nat.le_of_ble_eq_true rfl) rfl rfl (fun D1 => ?_)
  refine Sg.go (pc' := 11) (mi_aload_n dX10_task_10 rfl) ?_
  refine Sg.go (pc' := 14) (mi_gfA (t := 2) (v := 0) (r := 1) (k := 4) dX10_task_11 hC_1 (by decide) rfl wF_X10_20 (by omega) rfl hL.1.2.1) ?_
  refine Sg.go (pc' := 17) (mi_gfA (t := 14) (v := 0) (r := 2) (k := 3) dX10_task_14 hC_2 (by decide) rfl wF_X10_103 (by omega) rfl (hL.2.1 _ 3 (by omega) (by omega) (by decide))) ?_
  refine Sg.go (pc' := 18) (mi_iload_n dX10_task_17 rfl) ?_
  refine Sg.ck (fun hk2 => ?_)
  refine Sg.go (pc' := 19) (mi_aald (n := 6) (t := 4) (v := (6 * 0 + v1)) dX10_task_18 rfl hA_14 rfl (by omega) hk2 rfl (hL.2.2.2.2.2.2.2 _ _ (by omega) (by omega) hk2.1 hk2.2)) ?_
  refine Sg.go (pc' := 20) (mi_astore_n (ls1 := [(3, 0), (0, v1), (0, v2), (6, (6 * 0 + v1))]) dX10_task_19 (by decide) rfl) ?_
  refine Sg.go (pc' := 21) (mi_iload_n dX10_task_20 rfl) ?_
  refine Sg.ite (fun h4 => ?_) (fun h4 => ?_)
  · refine Sg.go (pc' := 64) (mi_tabIn (tgt := 64) dX10_task_21 (by omega) (by omega) (by rw [h4]; rfl) (by decide)) ?_
    refine Sg.go (pc' := 65) (mi_aload_n dX10_task_64 rfl) ?_
    refine Sg.go (pc' := 68) (mi_gfI (r := 4) (k := 4) dX10_task_65 hC_4 (by decide) rfl wF_X10_107 (by omega) rfl) ?_
    exact Sg.ret (mi_ireturn dX10_task_68 rfl (Or.inl rfl))
  · refine Sg.ite (fun h5 => ?_) (fun h5 => ?_)
    · refine Sg.go (pc' := 69) (mi_tabIn (tgt := 69) dX10_task_21 (by omega) (by omega) (by rw [h5]; rfl) (by decide)) ?_
      refine Sg.go (pc' := 70) (mi_aload_n dX10_task_69 rfl) ?_
      refine Sg.go (pc' := 73) (mi_gfI (r := 4) (k := 6) dX10_task_70 hC_4 (by decide) rfl wF_X10_122 (by omega) rfl) ?_
      exact Sg.ret (mi_ireturn dX10_task_73 rfl (Or.inl rfl))
    · refine Sg.ite (fun h6 => ?_) (fun h6 => ?_)
      · refine Sg.go (pc' := 74) (mi_tabIn (tgt := 74) dX10_task_21 (by omega) (by omega) (by rw [h6]; rfl) (by decide)) ?_
        refine Sg.go (pc' := 75) (mi_aload_n dX10_task_74 rfl) ?_
        refine Sg.go (pc' := 78) (mi_gfA (t := 5) (v := ((6 * 0 + v1) + 1 + (6 * 0 + v1) / 6)) (r := 4) (k := 7) dX10_task_75 hC_4 (by decide) rfl wF_X10_181 (by omega) rfl (hL.2.2.2.2.2.1 _ (by omega) (by omega))) ?_
        refine Sg.go (pc' := 81) (mi_gfI (r := 5) (k := 0) dX10_task_78 hC_5 (by decide) rfl wF_X10_185 (by omega) rfl) ?_
        exact Sg.ret (mi_ireturn dX10_task_81 rfl (Or.inl rfl))
      · refine Sg.ite (fun h7 => ?_) (fun h7 => ?_)
        · refine Sg.go (pc' := 82) (mi_tabIn (tgt := 82) dX10_task_21 (by omega) (by omega) (by rw [h7]; rfl) (by decide)) ?_
          refine Sg.go (pc' := 83) (mi_aload_n dX10_task_82 rfl) ?_
          refine Sg.go (pc' := 86) (mi_gfI (r := 4) (k := 5) dX10_task_83 hC_4 (by decide) rfl wF_X10_190 (by omega) rfl) ?_
          exact Sg.ret (mi_ireturn dX10_task_86 rfl (Or.inl rfl))
        · refine Sg.ite (fun h8 => ?_) (fun h8 => ?_)
          · refine Sg.go (pc' := 87) (mi_tabIn (tgt := 87) dX10_task_21 (by omega) (by omega) (by rw [h8]; rfl) (by decide)) ?_
            refine Sg.go (pc' := 88) (mi_aload_n dX10_task_87 rfl) ?_
            refine Sg.go (pc' := 91) (mi_gfA (t := 2) (v := 0) (r := 1) (k := 4) dX10_task_88 hC_1 (by decide) rfl wF_X10_20 (by omega) rfl hL.1.2.1) ?_
            refine Sg.go (pc' := 94) (mi_gfI (r := 2) (k := 8) dX10_task_91 hC_2 (by decide) rfl wF_X10_131 (by omega) rfl) ?_
            refine Sg.go (pc' := 95) (mi_iconst (z := (-1)) dX10_task_94 rfl) ?_
            refine Sg.ite (fun h9 => ?_) (fun h9 => ?_)
            · refine Sg.go (pc' := 109) (mi_icmpeq_t (tgt := 109) dX10_task_95 (by decide) h9) ?_
              refine Sg.go (pc' := 110) (mi_iconst (z := 0) dX10_task_109 rfl) ?_
              exact Sg.ret (mi_ireturn dX10_task_110 rfl (Or.inl rfl))
            · refine Sg.go (pc' := 98) (mi_icmpeq_f (tgt := 109) dX10_task_95 (by decide) h9) ?_
              refine Sg.go (pc' := 99) (mi_aload_n dX10_task_98 rfl) ?_
              refine Sg.go (pc' := 102) (mi_gfI (r := 4) (k := 8) dX10_task_99 hC_4 (by decide) rfl wF_X10_193 (by omega) rfl) ?_
              refine Sg.ite (fun h10 => ?_) (fun h10 => ?_)
              · refine Sg.go (pc' := 109) (mi_ifeq_t (tgt := 109) dX10_task_102 (by decide) h10) ?_
                refine Sg.go (pc' := 110) (mi_iconst (z := 0) dX10_task_109 rfl) ?_
                exact Sg.ret (mi_ireturn dX10_task_110 rfl (Or.inl rfl))
              · refine Sg.go (pc' := 105) (mi_ifeq_f (tgt := 109) dX10_task_102 (by decide) h10) ?_
                refine Sg.go (pc' := 106) (mi_iconst (z := 1) dX10_task_105 rfl) ?_
                refine Sg.go (pc' := 110) (mi_goto (tgt := 110) dX10_task_106 (by decide)) ?_
                exact Sg.ret (mi_ireturn dX10_task_110 rfl (Or.inl rfl))
          · refine Sg.ite (fun h11 => ?_) (fun h11 => ?_)
            · refine Sg.go (pc' := 111) (mi_tabIn (tgt := 111) dX10_task_21 (by omega) (by omega) (by rw [h11]; rfl) (by decide)) ?_
              refine Sg.go (pc' := 112) (mi_aload_n dX10_task_111 rfl) ?_
              refine Sg.go (pc' := 115) (mi_gfI (r := 4) (k := 9) dX10_task_112 hC_4 (by decide) rfl wF_X10_196 (by omega) rfl) ?_
              exact Sg.ret (mi_ireturn dX10_task_115 rfl (Or.inl rfl))
            · refine Sg.ite (fun h12 => ?_) (fun h12 => ?_)
              · refine Sg.go (pc' := 116) (mi_tabIn (tgt := 116) dX10_task_21 (by omega) (by omega) (by rw [h12]; rfl) (by decide)) ?_
                refine Sg.go (pc' := 117) (mi_aload_n dX10_task_116 rfl) ?_
                refine Sg.go (pc' := 120) (mi_gfI (r := 4) (k := 10) dX10_task_117 hC_4 (by decide) rfl wF_X10_199 (by omega) rfl) ?_
                exact Sg.ret (mi_ireturn dX10_task_120 rfl (Or.inl rfl))
              · refine Sg.go (pc' := 121) (mi_tabOut (tgt := 121) dX10_task_21 (by omega) (by decide)) ?_
                refine Sg.go (pc' := 122) (mi_aload_n dX10_task_121 rfl) ?_
                refine Sg.go (pc' := 123) (mi_iconst (z := 0) dX10_task_122 rfl) ?_
                refine Sg.callNT (pc' := 126) (μ' := m_X10_needArgument) (args := [(3, 0), (0, 0)]) (mi_invV (n := 1) (r := 1) dX10_task_123 hC_1 (by omega) rfl rfl wN_X10_needArgument rfl ⟨by decide, by decide⟩ wL_X10_42 wI_X10_needArgument wS_X10_needArgument wB_X10 wC_X10_needArgument) (fun v hv => C_X10_needArgument hL 0 D1 (Or.inl rfl) v hv) rfl (Nat.le_of_ble_eq_true rfl) rfl rfl (fun D13 => ?_)
                refine Sg.go (pc' := 127) (mi_iconst (z := (-1)) dX10_task_126 rfl) ?_
                exact Sg.ret (mi_ireturn dX10_task_127 rfl (Or.inl rfl))
theorem C_X10_task {Z : MiZ} (hL : CL Z) (a1 a2 : Int) (D : MiD) (b : (Int × MiD) ⊕ (Nat × MiD)) (hb : B_X10_task a1 a2 D = some b) : MC m_X10_task [(3, 0), (0, a1), (0, a2)] (D, Z) ((mi_LT 0 Z) b) := MC.ofSg (L := (mi_LT 0 Z)) (μ := m_X10_task) (args := [(3, 0), (0, a1), (0, a2)]) (M := (D, Z)) rfl wP_X10 (Nat.le_of_ble_eq_true rfl) (show Sg m_X10_task 0 [(3, 0), (0, a1), (0, a2), mi_un] [] (D, Z) (mi_LT 0 Z) (B_X10_task a1 a2 D) from S_X10_task hL a1 a2 D) hb
abbrev m_X10_told : MiI := (yX10_told, cX10_told, 2, (some .int), 7, none)
def B_X10_told (v1 : Int) (D : MiD) : Option ((Int × MiD) ⊕ (Nat × MiD)) := if v1 = 0 then (some (.inl ((D 1 0 3), D))) else (if v1 = 1 then (some (.inl ((D 2 0 7), D))) else (if v1 = 2 then (mi_bi (B_X9_topmost D 0) fun y5 => some (.inl (y5, D))) else (if v1 = 3 then (some (.inl ((D 2 0 8), D))) else (if v1 = 4 then (if (D 2 0 8) ≠ (-1) then (if (D 2 0 9) = 0 then (some (.inl (0, D))) else (some (.inl (1, D)))) else (some (.inl ((-1), D)))) else (if v1 = 5 then (mi_bi (B_X9_turnedBits D 0) fun y11 => some (.inl (y11, D))) else (if v1 = 6 then (mi_bi (B_X9_idleBits D 0) fun y13 => some (.inl (y13, D))) else (if v1 = 7 then (some (.inl ((D 2 0 10), D))) else (if v1 = 8 then (some (.inl ((D 2 0 11), D))) else (if v1 = 9 then (mi_bi (B_X9_allForced D 0) fun y17 => some (.inl (y17, D))) else (if v1 = 10 then (some (.inl ((D 2 0 12), D))) else (if v1 = 11 then (some (.inl ((D 2 0 13), D))) else (if v1 = 12 then (mi_bi (B_X9_allPlaces D 0) fun y21 => some (.inl (y21, D))) else (if v1 = 13 then (mi_bi (B_X9_allShadows D 0) fun y23 => some (.inl (y23, D))) else (if v1 = 14 then (some (.inl ((D 1 0 1), D))) else (mi_bn (B_X10_needArgument 0 D) Sum.inr fun D25 => some (.inl ((-1), D25)))))))))))))))))
set_option maxRecDepth 20000 in
theorem S_X10_told {Z : MiZ} (hL : CL Z) (v1 : Int) (D : MiD) : Sg m_X10_told 0 [(3, 0), (0, v1)] [] (D, Z) (mi_LT 0 Z) (B_X10_told v1 D) := by
  unfold B_X10_told
  refine Sg.go (pc' := 1) (mi_iload_n dX10_told_0 rfl) ?_
  refine Sg.ite (fun h2 => ?_) (fun h2 => ?_)
  · refine Sg.go (pc' := 76) (mi_tabIn (tgt := 76) dX10_told_1 (by omega) (by omega) (by rw [h2]; rfl) (by decide)) ?_
    refine Sg.go (pc' := 77) (mi_aload_n dX10_told_76 rfl) ?_
    refine Sg.go (pc' := 80) (mi_gfI (r := 1) (k := 3) dX10_told_77 hC_1 (by decide) rfl wF_X10_79 (by omega) rfl) ?_
    exact Sg.ret (mi_ireturn dX10_told_80 rfl (Or.inl rfl))
  · refine Sg.ite (fun h3 => ?_) (fun h3 => ?_)
    · refine Sg.go (pc' := 81) (mi_tabIn (tgt := 81) dX10_told_1 (by omega) (by omega) (by rw [h3]; rfl) (by decide)) ?_
      refine Sg.go (pc' := 82) (mi_aload_n dX10_told_81 rfl) ?_
      refine Sg.go (pc' := 85) (mi_gfA (t := 2) (v := 0) (r := 1) (k := 4) dX10_told_82 hC_1 (by decide) rfl wF_X10_20 (by omega) rfl hL.1.2.1) ?_
      refine Sg.go (pc' := 88) (mi_gfI (r := 2) (k := 7) dX10_told_85 hC_2 (by decide) rfl wF_X10_141 (by omega) rfl) ?_
      exact Sg.ret (mi_ireturn dX10_told_88 rfl (Or.inl rfl))
    · refine Sg.ite (fun h4 => ?_) (fun h4 => ?_)
      · refine Sg.go (pc' := 89) (mi_tabIn (tgt := 89) dX10_told_1 (by omega) (by omega) (by rw [h4]; rfl) (by decide)) ?_
        refine Sg.go (pc' := 90) (mi_aload_n dX10_told_89 rfl) ?_
        refine Sg.go (pc' := 93) (mi_gfA (t := 2) (v := 0) (r := 1) (k := 4) dX10_told_90 hC_1 (by decide) rfl wF_X10_20 (by omega) rfl hL.1.2.1) ?_
        refine Sg.callI (pc' := 96) (t := 0) (μ' := m_X9_topmost) (args := [(4, 0)]) (mi_invV (n := 0) (r := 2) dX10_told_93 hC_2 (by omega) rfl rfl wN_X9_topmost rfl ⟨by decide, by decide⟩ wL_X10_156 wI_X9_topmost wS_X9_topmost wB_X9 wC_X9_topmost) (fun v hv => C_X9_topmost hL 0 D (by omega) v hv) (Nat.le_of_ble_eq_true rfl) rfl rfl (fun y5 => ?_)
        exact Sg.ret (mi_ireturn dX10_told_96 rfl (Or.inl rfl))
      · refine Sg.ite (fun h6 => ?_) (fun h6 => ?_)
        · refine Sg.go (pc' := 97) (mi_tabIn (tgt := 97) dX10_told_1 (by omega) (by omega) (by rw [h6]; rfl) (by decide)) ?_
          refine Sg.go (pc' := 98) (mi_aload_n dX10_told_97 rfl) ?_
          refine Sg.go (pc' := 101) (mi_gfA (t := 2) (v := 0) (r := 1) (k := 4) dX10_told_98 hC_1 (by decide) rfl wF_X10_20 (by omega) rfl hL.1.2.1) ?_
          refine Sg.go (pc' := 104) (mi_gfI (r := 2) (k := 8) dX10_told_101 hC_2 (by decide) rfl wF_X10_131 (by omega) rfl) ?_
          exact Sg.ret (mi_ireturn dX10_told_104 rfl (Or.inl rfl))
        · refine Sg.ite (fun h7 => ?_) (fun h7 => ?_)
          · refine Sg.go (pc' := 105) (mi_tabIn (tgt := 105) dX10_told_1 (by omega) (by omega) (by rw [h7]; rfl) (by decide)) ?_
            refine Sg.go (pc' := 106) (mi_aload_n dX10_told_105 rfl) ?_
            refine Sg.go (pc' := 109) (mi_gfA (t := 2) (v := 0) (r := 1) (k := 4) dX10_told_106 hC_1 (by decide) rfl wF_X10_20 (by omega) rfl hL.1.2.1) ?_
            refine Sg.go (pc' := 112) (mi_gfI (r := 2) (k := 8) dX10_told_109 hC_2 (by decide) rfl wF_X10_131 (by omega) rfl) ?_
            refine Sg.go (pc' := 113) (mi_iconst (z := (-1)) dX10_told_112 rfl) ?_
            refine Sg.ite (fun h8 => ?_) (fun h8 => ?_)
            · refine Sg.go (pc' := 120) (mi_icmpne_t (tgt := 120) dX10_told_113 (by decide) h8) ?_
              refine Sg.go (pc' := 121) (mi_aload_n dX10_told_120 rfl) ?_
              refine Sg.go (pc' := 124) (mi_gfA (t := 2) (v := 0) (r := 1) (k := 4) dX10_told_121 hC_1 (by decide) rfl wF_X10_20 (by omega) rfl hL.1.2.1) ?_
              refine Sg.go (pc' := 127) (mi_gfI (r := 2) (k := 9) dX10_told_124 hC_2 (by decide) rfl wF_X10_159 (by omega) rfl) ?_
              refine Sg.ite (fun h9 => ?_) (fun h9 => ?_)
              · refine Sg.go (pc' := 134) (mi_ifeq_t (tgt := 134) dX10_told_127 (by decide) h9) ?_
                refine Sg.go (pc' := 135) (mi_iconst (z := 0) dX10_told_134 rfl) ?_
                exact Sg.ret (mi_ireturn dX10_told_135 rfl (Or.inl rfl))
              · refine Sg.go (pc' := 130) (mi_ifeq_f (tgt := 134) dX10_told_127 (by decide) h9) ?_
                refine Sg.go (pc' := 131) (mi_iconst (z := 1) dX10_told_130 rfl) ?_
                refine Sg.go (pc' := 135) (mi_goto (tgt := 135) dX10_told_131 (by decide)) ?_
                exact Sg.ret (mi_ireturn dX10_told_135 rfl (Or.inl rfl))
            · refine Sg.go (pc' := 116) (mi_icmpne_f (tgt := 120) dX10_told_113 (by decide) h8) ?_
              refine Sg.go (pc' := 117) (mi_iconst (z := (-1)) dX10_told_116 rfl) ?_
              refine Sg.go (pc' := 135) (mi_goto (tgt := 135) dX10_told_117 (by decide)) ?_
              exact Sg.ret (mi_ireturn dX10_told_135 rfl (Or.inl rfl))
          · refine Sg.ite (fun h10 => ?_) (fun h10 => ?_)
            · refine Sg.go (pc' := 136) (mi_tabIn (tgt := 136) dX10_told_1 (by omega) (by omega) (by rw [h10]; rfl) (by decide)) ?_
              refine Sg.go (pc' := 137) (mi_aload_n dX10_told_136 rfl) ?_
              refine Sg.go (pc' := 140) (mi_gfA (t := 2) (v := 0) (r := 1) (k := 4) dX10_told_137 hC_1 (by decide) rfl wF_X10_20 (by omega) rfl hL.1.2.1) ?_
              refine Sg.callI (pc' := 143) (t := 0) (μ' := m_X9_turnedBits) (args := [(4, 0)]) (mi_invV (n := 0) (r := 2) dX10_told_140 hC_2 (by omega) rfl rfl wN_X9_turnedBits rfl ⟨by decide, by decide⟩ wL_X10_163 wI_X9_turnedBits wS_X9_turnedBits wB_X9 wC_X9_turnedBits) (fun v hv => C_X9_turnedBits hL 0 D (by omega) v hv) (Nat.le_of_ble_eq_true rfl) rfl rfl (fun y11 => ?_)
              exact Sg.ret (mi_ireturn dX10_told_143 rfl (Or.inl rfl))
            · refine Sg.ite (fun h12 => ?_) (fun h12 => ?_)
              · refine Sg.go (pc' := 144) (mi_tabIn (tgt := 144) dX10_told_1 (by omega) (by omega) (by rw [h12]; rfl) (by decide)) ?_
                refine Sg.go (pc' := 145) (mi_aload_n dX10_told_144 rfl) ?_
                refine Sg.go (pc' := 148) (mi_gfA (t := 2) (v := 0) (r := 1) (k := 4) dX10_told_145 hC_1 (by decide) rfl wF_X10_20 (by omega) rfl hL.1.2.1) ?_
                refine Sg.callI (pc' := 151) (t := 0) (μ' := m_X9_idleBits) (args := [(4, 0)]) (mi_invV (n := 0) (r := 2) dX10_told_148 hC_2 (by omega) rfl rfl wN_X9_idleBits rfl ⟨by decide, by decide⟩ wL_X10_45 wI_X9_idleBits wS_X9_idleBits wB_X9 wC_X9_idleBits) (fun v hv => C_X9_idleBits hL 0 D (by omega) v hv) (Nat.le_of_ble_eq_true rfl) rfl rfl (fun y13 => ?_)
                exact Sg.ret (mi_ireturn dX10_told_151 rfl (Or.inl rfl))
              · refine Sg.ite (fun h14 => ?_) (fun h14 => ?_)
                · refine Sg.go (pc' := 152) (mi_tabIn (tgt := 152) dX10_told_1 (by omega) (by omega) (by rw [h14]; rfl) (by decide)) ?_
                  refine Sg.go (pc' := 153) (mi_aload_n dX10_told_152 rfl) ?_
                  refine Sg.go (pc' := 156) (mi_gfA (t := 2) (v := 0) (r := 1) (k := 4) dX10_told_153 hC_1 (by decide) rfl wF_X10_20 (by omega) rfl hL.1.2.1) ?_
                  refine Sg.go (pc' := 159) (mi_gfI (r := 2) (k := 10) dX10_told_156 hC_2 (by decide) rfl wF_X10_166 (by omega) rfl) ?_
                  exact Sg.ret (mi_ireturn dX10_told_159 rfl (Or.inl rfl))
                · refine Sg.ite (fun h15 => ?_) (fun h15 => ?_)
                  · refine Sg.go (pc' := 160) (mi_tabIn (tgt := 160) dX10_told_1 (by omega) (by omega) (by rw [h15]; rfl) (by decide)) ?_
                    refine Sg.go (pc' := 161) (mi_aload_n dX10_told_160 rfl) ?_
                    refine Sg.go (pc' := 164) (mi_gfA (t := 2) (v := 0) (r := 1) (k := 4) dX10_told_161 hC_1 (by decide) rfl wF_X10_20 (by omega) rfl hL.1.2.1) ?_
                    refine Sg.go (pc' := 167) (mi_gfI (r := 2) (k := 11) dX10_told_164 hC_2 (by decide) rfl wF_X10_169 (by omega) rfl) ?_
                    exact Sg.ret (mi_ireturn dX10_told_167 rfl (Or.inl rfl))
                  · refine Sg.ite (fun h16 => ?_) (fun h16 => ?_)
                    · refine Sg.go (pc' := 168) (mi_tabIn (tgt := 168) dX10_told_1 (by omega) (by omega) (by rw [h16]; rfl) (by decide)) ?_
                      refine Sg.go (pc' := 169) (mi_aload_n dX10_told_168 rfl) ?_
                      refine Sg.go (pc' := 172) (mi_gfA (t := 2) (v := 0) (r := 1) (k := 4) dX10_told_169 hC_1 (by decide) rfl wF_X10_20 (by omega) rfl hL.1.2.1) ?_
                      refine Sg.callI (pc' := 175) (t := 0) (μ' := m_X9_allForced) (args := [(4, 0)]) (mi_invV (n := 0) (r := 2) dX10_told_172 hC_2 (by omega) rfl rfl wN_X9_allForced rfl ⟨by decide, by decide⟩ wL_X10_172 wI_X9_allForced wS_X9_allForced wB_X9 wC_X9_allForced) (fun v hv => C_X9_allForced hL 0 D (by omega) v hv) (Nat.le_of_ble_eq_true rfl) rfl rfl (fun y17 => ?_)
                      exact Sg.ret (mi_ireturn dX10_told_175 rfl (Or.inl rfl))
                    · refine Sg.ite (fun h18 => ?_) (fun h18 => ?_)
                      · refine Sg.go (pc' := 176) (mi_tabIn (tgt := 176) dX10_told_1 (by omega) (by omega) (by rw [h18]; rfl) (by decide)) ?_
                        refine Sg.go (pc' := 177) (mi_aload_n dX10_told_176 rfl) ?_
                        refine Sg.go (pc' := 180) (mi_gfA (t := 2) (v := 0) (r := 1) (k := 4) dX10_told_177 hC_1 (by decide) rfl wF_X10_20 (by omega) rfl hL.1.2.1) ?_
                        refine Sg.go (pc' := 183) (mi_gfI (r := 2) (k := 12) dX10_told_180 hC_2 (by decide) rfl wF_X10_125 (by omega) rfl) ?_
                        exact Sg.ret (mi_ireturn dX10_told_183 rfl (Or.inl rfl))
                      · refine Sg.ite (fun h19 => ?_) (fun h19 => ?_)
                        · refine Sg.go (pc' := 184) (mi_tabIn (tgt := 184) dX10_told_1 (by omega) (by omega) (by rw [h19]; rfl) (by decide)) ?_
                          refine Sg.go (pc' := 185) (mi_aload_n dX10_told_184 rfl) ?_
                          refine Sg.go (pc' := 188) (mi_gfA (t := 2) (v := 0) (r := 1) (k := 4) dX10_told_185 hC_1 (by decide) rfl wF_X10_20 (by omega) rfl hL.1.2.1) ?_
                          refine Sg.go (pc' := 191) (mi_gfI (r := 2) (k := 13) dX10_told_188 hC_2 (by decide) rfl wF_X10_175 (by omega) rfl) ?_
                          exact Sg.ret (mi_ireturn dX10_told_191 rfl (Or.inl rfl))
                        · refine Sg.ite (fun h20 => ?_) (fun h20 => ?_)
                          · refine Sg.go (pc' := 192) (mi_tabIn (tgt := 192) dX10_told_1 (by omega) (by omega) (by rw [h20]; rfl) (by decide)) ?_
                            refine Sg.go (pc' := 193) (mi_aload_n dX10_told_192 rfl) ?_
                            refine Sg.go (pc' := 196) (mi_gfA (t := 2) (v := 0) (r := 1) (k := 4) dX10_told_193 hC_1 (by decide) rfl wF_X10_20 (by omega) rfl hL.1.2.1) ?_
                            refine Sg.callI (pc' := 199) (t := 0) (μ' := m_X9_allPlaces) (args := [(4, 0)]) (mi_invV (n := 0) (r := 2) dX10_told_196 hC_2 (by omega) rfl rfl wN_X9_allPlaces rfl ⟨by decide, by decide⟩ wL_X10_100 wI_X9_allPlaces wS_X9_allPlaces wB_X9 wC_X9_allPlaces) (fun v hv => C_X9_allPlaces hL 0 D (by omega) v hv) (Nat.le_of_ble_eq_true rfl) rfl rfl (fun y21 => ?_)
                            exact Sg.ret (mi_ireturn dX10_told_199 rfl (Or.inl rfl))
                          · refine Sg.ite (fun h22 => ?_) (fun h22 => ?_)
                            · refine Sg.go (pc' := 200) (mi_tabIn (tgt := 200) dX10_told_1 (by omega) (by omega) (by rw [h22]; rfl) (by decide)) ?_
                              refine Sg.go (pc' := 201) (mi_aload_n dX10_told_200 rfl) ?_
                              refine Sg.go (pc' := 204) (mi_gfA (t := 2) (v := 0) (r := 1) (k := 4) dX10_told_201 hC_1 (by decide) rfl wF_X10_20 (by omega) rfl hL.1.2.1) ?_
                              refine Sg.callI (pc' := 207) (t := 0) (μ' := m_X9_allShadows) (args := [(4, 0)]) (mi_invV (n := 0) (r := 2) dX10_told_204 hC_2 (by omega) rfl rfl wN_X9_allShadows rfl ⟨by decide, by decide⟩ wL_X10_178 wI_X9_allShadows wS_X9_allShadows wB_X9 wC_X9_allShadows) (fun v hv => C_X9_allShadows hL 0 D (by omega) v hv) (Nat.le_of_ble_eq_true rfl) rfl rfl (fun y23 => ?_)
                              exact Sg.ret (mi_ireturn dX10_told_207 rfl (Or.inl rfl))
                            · refine Sg.ite (fun h24 => ?_) (fun h24 => ?_)
                              · refine Sg.go (pc' := 208) (mi_tabIn (tgt := 208) dX10_told_1 (by omega) (by omega) (by rw [h24]; rfl) (by decide)) ?_
                                refine Sg.go (pc' := 209) (mi_aload_n dX10_told_208 rfl) ?_
                                refine Sg.go (pc' := 212) (mi_gfI (r := 1) (k := 1) dX10_told_209 hC_1 (by decide) rfl wF_X10_27 (by omega) rfl) ?_
                                exact Sg.ret (mi_ireturn dX10_told_212 rfl (Or.inl rfl))
                              · refine Sg.go (pc' := 213) (mi_tabOut (tgt := 213) dX10_told_1 (by omega) (by decide)) ?_
                                refine Sg.go (pc' := 214) (mi_aload_n dX10_told_213 rfl) ?_
                                refine Sg.go (pc' := 215) (mi_iconst (z := 0) dX10_told_214 rfl) ?_
                                refine Sg.callNT (pc' := 218) (μ' := m_X10_needArgument) (args := [(3, 0), (0, 0)]) (mi_invV (n := 1) (r := 1) dX10_told_215 hC_1 (by omega) rfl rfl wN_X10_needArgument rfl ⟨by decide, by decide⟩ wL_X10_42 wI_X10_needArgument wS_X10_needArgument wB_X10 wC_X10_needArgument) (fun v hv => C_X10_needArgument hL 0 D (Or.inl rfl) v hv) rfl (Nat.le_of_ble_eq_true rfl) rfl rfl (fun D25 => ?_)
                                refine Sg.go (pc' := 219) (mi_iconst (z := (-1)) dX10_told_218 rfl) ?_
                                exact Sg.ret (mi_ireturn dX10_told_219 rfl (Or.inl rfl))
theorem C_X10_told {Z : MiZ} (hL : CL Z) (a1 : Int) (D : MiD) (b : (Int × MiD) ⊕ (Nat × MiD)) (hb : B_X10_told a1 D = some b) : MC m_X10_told [(3, 0), (0, a1)] (D, Z) ((mi_LT 0 Z) b) := MC.ofSg (L := (mi_LT 0 Z)) (μ := m_X10_told) (args := [(3, 0), (0, a1)]) (M := (D, Z)) rfl wP_X10 (Nat.le_of_ble_eq_true rfl) (show Sg m_X10_told 0 [(3, 0), (0, a1)] [] (D, Z) (mi_LT 0 Z) (B_X10_told a1 D) from S_X10_told hL a1 D) hb
abbrev m_X9_forceAll : MiI := (yX9_forceAll, cX9_forceAll, 3, (some .int), 7, none)
def B_X9_forceAll_4 (Z : MiZ) : Nat → Int → Int → Int → MiD → Option (Int × MiD)
  | 0, _, _, _, _ => none
  | f + 1, v0, v1, v2, D => if 6 ≤ v2 then (mi_bi (B_X9_settle Z v0 D) fun D2 => some (v1, D2)) else (mi_bi (B_X9_hasTurned D v0 v2) fun y3 => if y3 ≠ 0 then (B_X9_forceAll_4 Z f v0 v1 (mi_w (v2 + 1)) D) else (mi_let (mi_or v1 (mi_shl 1 v2)) fun x5 => if 0 ≤ v2 ∧ v2 < 6 then (if (D 2 v0 9) = 0 ∨ (D 2 v0 9) = 1 then (mi_let (mi_st D 4 (6 * v0 + v2) 8 (D 2 v0 9)) fun D8 => mi_let (mi_st D8 4 (6 * v0 + v2) 9 (mi_w ((D8 4 (6 * v0 + v2) 9) + 1))) fun D9 => B_X9_forceAll_4 Z f v0 x5 (mi_w (v2 + 1)) D9) else none) else none))
set_option maxRecDepth 20000 in
theorem S_X9_forceAll_4 {Z : MiZ} (hL : CL Z) : ∀ (f : Nat) (v0 v1 v2 : Int) (D : MiD), (0 ≤ v0 ∧ v0 < 2) → Sg m_X9_forceAll 4 [(4, v0), (0, v1), (0, v2)] [] (D, Z) (mi_LD 0 Z) (B_X9_forceAll_4 Z f v0 v1 v2 D) := by
  intro f
  induction f with
  | zero => intros; exact Sg.nope
  | succ f K4 =>
    intro v0 v1 v2 D hb0
    show Sg m_X9_forceAll 4 [(4, v0), (0, v1), (0, v2)] [] (D, Z) (mi_LD 0 Z) (if 6 ≤ v2 then (mi_bi (B_X9_settle Z v0 D) fun D2 => some (v1, D2)) else (mi_bi (B_X9_hasTurned D v0 v2) fun y3 => if y3 ≠ 0 then (B_X9_forceAll_4 Z f v0 v1 (mi_w (v2 + 1)) D) else (mi_let (mi_or v1 (mi_shl 1 v2)) fun x5 => if 0 ≤ v2 ∧ v2 < 6 then (if (D 2 v0 9) = 0 ∨ (D 2 v0 9) = 1 then (mi_let (mi_st D 4 (6 * v0 + v2) 8 (D 2 v0 9)) fun D8 => mi_let (mi_st D8 4 (6 * v0 + v2) 9 (mi_w ((D8 4 (6 * v0 + v2) 9) + 1))) fun D9 => B_X9_forceAll_4 Z f v0 x5 (mi_w (v2 + 1)) D9) else none) else none)))
    refine Sg.go (pc' := 5) (mi_iload_n dX9_forceAll_4 rfl) ?_
    refine Sg.go (pc' := 7) (mi_bipush (z := 6) dX9_forceAll_5 rfl) ?_
    refine Sg.ite (fun h1 => ?_) (fun h1 => ?_)
    · refine Sg.go (pc' := 58) (mi_icmpge_t (tgt := 58) dX9_forceAll_7 (by decide) h1) ?_
      refine Sg.go (pc' := 59) (mi_aload_n dX9_forceAll_58 rfl) ?_
      refine Sg.callV (pc' := 62) (μ' := m_X9_settle) (args := [(4, v0)]) (mi_invV (n := 0) (r := 2) dX9_forceAll_59 hC_2 (by omega) rfl rfl wN_X9_settle rfl ⟨by decide, by decide⟩ wL_X9_195 wI_X9_settle wS_X9_settle wB_X9 wC_X9_settle) (fun v hv => C_X9_settle hL v0 D (by omega) v hv) (Nat.le_of_ble_eq_true rfl) rfl rfl (fun D2 => ?_)
      refine Sg.go (pc' := 63) (mi_iload_n dX9_forceAll_62 rfl) ?_
      exact Sg.ret (mi_ireturn dX9_forceAll_63 rfl (Or.inl rfl))
    · refine Sg.go (pc' := 10) (mi_icmpge_f (tgt := 58) dX9_forceAll_7 (by decide) h1) ?_
      refine Sg.go (pc' := 11) (mi_aload_n dX9_forceAll_10 rfl) ?_
      refine Sg.go (pc' := 12) (mi_iload_n dX9_forceAll_11 rfl) ?_
      refine Sg.callI (pc' := 15) (t := 0) (μ' := m_X9_hasTurned) (args := [(4, v0), (0, v2)]) (mi_invV (n := 1) (r := 2) dX9_forceAll_12 hC_2 (by omega) rfl rfl wN_X9_hasTurned rfl ⟨by decide, by decide⟩ wL_X9_291 wI_X9_hasTurned wS_X9_hasTurned wB_X9 wC_X9_hasTurned) (fun v hv => C_X9_hasTurned hL v0 v2 D (by omega) v hv) (Nat.le_of_ble_eq_true rfl) rfl rfl (fun y3 => ?_)
      refine Sg.ite (fun h4 => ?_) (fun h4 => ?_)
      · refine Sg.go (pc' := 52) (mi_ifne_t (tgt := 52) dX9_forceAll_15 (by decide) h4) ?_
        refine Sg.go (pc' := 55) (mi_iinc (z := 1) (ls1 := [(4, v0), (0, v1), (0, (mi_w (v2 + 1)))]) dX9_forceAll_52 (by decide) rfl rfl rfl) ?_
        refine Sg.go (pc' := 4) (mi_goto (tgt := 4) dX9_forceAll_55 (by decide)) ?_
        exact K4 v0 v1 (mi_w (v2 + 1)) D hb0
      · refine Sg.go (pc' := 18) (mi_ifne_f (tgt := 52) dX9_forceAll_15 (by decide) h4) ?_
        refine Sg.go (pc' := 19) (mi_iload_n dX9_forceAll_18 rfl) ?_
        refine Sg.go (pc' := 20) (mi_iconst (z := 1) dX9_forceAll_19 rfl) ?_
        refine Sg.go (pc' := 21) (mi_iload_n dX9_forceAll_20 rfl) ?_
        refine Sg.go (pc' := 22) (mi_ishl dX9_forceAll_21) ?_
        refine Sg.go (pc' := 23) (mi_ior dX9_forceAll_22) ?_
        refine Sg.letI (fun x5 hx5 => ?_)
        refine Sg.go (pc' := 24) (mi_istore_n (ls1 := [(4, v0), (0, x5), (0, v2)]) dX9_forceAll_23 (by decide) rfl) ?_
        refine Sg.go (pc' := 25) (mi_aload_n dX9_forceAll_24 rfl) ?_
        refine Sg.go (pc' := 28) (mi_gfA (t := 14) (v := v0) (r := 2) (k := 3) dX9_forceAll_25 hC_2 (by decide) rfl wF_X9_31 (by omega) rfl (hL.2.1 _ 3 (by omega) (by omega) (by decide))) ?_
        refine Sg.go (pc' := 29) (mi_iload_n dX9_forceAll_28 rfl) ?_
        refine Sg.ck (fun hk6 => ?_)
        refine Sg.go (pc' := 30) (mi_aald (n := 6) (t := 4) (v := (6 * v0 + v2)) dX9_forceAll_29 rfl hA_14 rfl (by omega) hk6 rfl (hL.2.2.2.2.2.2.2 _ _ (by omega) (by omega) hk6.1 hk6.2)) ?_
        refine Sg.go (pc' := 31) (mi_aload_n dX9_forceAll_30 rfl) ?_
        refine Sg.go (pc' := 34) (mi_gfI (r := 2) (k := 9) dX9_forceAll_31 hC_2 (by decide) rfl wF_X9_72 (by omega) rfl) ?_
        refine Sg.ck (fun hk7 => ?_)
        refine Sg.goM (pc' := 37) (mi_pfD (r := 4) (k := 8) (t := 0) dX9_forceAll_34 hC_4 (by decide) rfl rfl wF_X9_267 (by omega) rfl (by decide) (Or.inr (Or.inr (Or.inl ⟨rfl, rfl, hk7⟩)))) ?_
        refine Sg.letD (fun D8 hD8 => ?_)
        refine Sg.go (pc' := 38) (mi_aload_n dX9_forceAll_37 rfl) ?_
        refine Sg.go (pc' := 41) (mi_gfA (t := 14) (v := v0) (r := 2) (k := 3) dX9_forceAll_38 hC_2 (by decide) rfl wF_X9_31 (by omega) rfl (hL.2.1 _ 3 (by omega) (by omega) (by decide))) ?_
        refine Sg.go (pc' := 42) (mi_iload_n dX9_forceAll_41 rfl) ?_
        refine Sg.go (pc' := 43) (mi_aald (n := 6) (t := 4) (v := (6 * v0 + v2)) dX9_forceAll_42 rfl hA_14 rfl (by omega) hk6 rfl (hL.2.2.2.2.2.2.2 _ _ (by omega) (by omega) hk6.1 hk6.2)) ?_
        refine Sg.go (pc' := 44) (mi_dup dX9_forceAll_43 (show (6 : Nat) ≠ 1 by decide)) ?_
        refine Sg.go (pc' := 47) (mi_gfI (r := 4) (k := 9) dX9_forceAll_44 hC_4 (by decide) rfl wF_X9_295 (by omega) rfl) ?_
        refine Sg.go (pc' := 48) (mi_iconst (z := 1) dX9_forceAll_47 rfl) ?_
        refine Sg.go (pc' := 49) (mi_iadd dX9_forceAll_48) ?_
        refine Sg.goM (pc' := 52) (mi_pfD (r := 4) (k := 9) (t := 0) dX9_forceAll_49 hC_4 (by decide) rfl rfl wF_X9_295 (by omega) rfl (by decide) (Or.inl ⟨rfl, rfl⟩)) ?_
        refine Sg.letD (fun D9 hD9 => ?_)
        refine Sg.go (pc' := 55) (mi_iinc (z := 1) (ls1 := [(4, v0), (0, x5), (0, (mi_w (v2 + 1)))]) dX9_forceAll_52 (by decide) rfl rfl rfl) ?_
        refine Sg.go (pc' := 4) (mi_goto (tgt := 4) dX9_forceAll_55 (by decide)) ?_
        exact K4 v0 x5 (mi_w (v2 + 1)) D9 hb0
def B_X9_forceAll (Z : MiZ) (v0 : Int) (D : MiD) : Option (Int × MiD) := B_X9_forceAll_4 Z mi_fuel v0 0 0 D
set_option maxRecDepth 20000 in
theorem S_X9_forceAll {Z : MiZ} (hL : CL Z) (v0 : Int) (D : MiD) : (0 ≤ v0 ∧ v0 < 2) → Sg m_X9_forceAll 0 [(4, v0), mi_un, mi_un] [] (D, Z) (mi_LD 0 Z) (B_X9_forceAll Z v0 D) := by
  intro hb0
  unfold B_X9_forceAll
  refine Sg.go (pc' := 1) (mi_iconst (z := 0) dX9_forceAll_0 rfl) ?_
  refine Sg.go (pc' := 2) (mi_istore_n (ls1 := [(4, v0), (0, 0), mi_un]) dX9_forceAll_1 (by decide) rfl) ?_
  refine Sg.go (pc' := 3) (mi_iconst (z := 0) dX9_forceAll_2 rfl) ?_
  refine Sg.go (pc' := 4) (mi_istore_n (ls1 := [(4, v0), (0, 0), (0, 0)]) dX9_forceAll_3 (by decide) rfl) ?_
  exact S_X9_forceAll_4 hL mi_fuel v0 0 0 D hb0
theorem C_X9_forceAll {Z : MiZ} (hL : CL Z) (a0 : Int) (D : MiD) (h0 : (0 ≤ a0 ∧ a0 < 2)) (b : Int × MiD) (hb : B_X9_forceAll Z a0 D = some b) : MC m_X9_forceAll [(4, a0)] (D, Z) ((mi_LD 0 Z) b) := MC.ofSg (L := (mi_LD 0 Z)) (μ := m_X9_forceAll) (args := [(4, a0)]) (M := (D, Z)) rfl wP_X9 (Nat.le_of_ble_eq_true rfl) (show Sg m_X9_forceAll 0 [(4, a0), mi_un, mi_un] [] (D, Z) (mi_LD 0 Z) (B_X9_forceAll Z a0 D) from S_X9_forceAll hL a0 D h0) hb
end MiW4
