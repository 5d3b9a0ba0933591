noncomputable section MiW2
abbrev m_X9_unstackBelow : MiI := (yX9_unstackBelow, cX9_unstackBelow, 2, none, 1, none)
def B_X9_unstackBelow (v0 : Int) (v1 : Int) (D : MiD) : Option (MiD) := if (D 8 v1 0) = 0 then (some D) else (if (D 2 v0 7) ≤ 0 then (some D) else (if 0 ≤ (mi_w ((D 2 v0 7) - 1)) ∧ (mi_w ((D 2 v0 7) - 1)) < 8 then (mi_let (mi_st D 15 v0 0 (D 15 v0 (mi_w ((D 2 v0 7) - 1)))) fun D4 => mi_let (mi_st D4 2 v0 7 1) fun D5 => some D5) else none))
set_option maxRecDepth 20000 in
theorem S_X9_unstackBelow {Z : MiZ} (hL : CL Z) (v0 v1 : Int) (D : MiD) : (0 ≤ v0 ∧ v0 < 2) → 0 ≤ v1 → Sg m_X9_unstackBelow 0 [(4, v0), (10, v1)] [] (D, Z) (mi_LV Z) (B_X9_unstackBelow v0 v1 D) := by
  intro hb0 hb1
  unfold B_X9_unstackBelow
  refine Sg.go (pc' := 1) (mi_aload_n dX9_unstackBelow_0 rfl) ?_
  refine Sg.go (pc' := 4) (mi_gfI (r := 8) (k := 0) dX9_unstackBelow_1 hC_8 (by decide) rfl wF_X9_311 (by omega) rfl) ?_
  refine Sg.ite (fun h1 => ?_) (fun h1 => ?_)
  · refine Sg.go (pc' := 36) (mi_ifeq_t (tgt := 36) dX9_unstackBelow_4 (by decide) h1) ?_
    exact Sg.ret (mi_return dX9_unstackBelow_36 rfl (0, 0))
  · refine Sg.go (pc' := 7) (mi_ifeq_f (tgt := 36) dX9_unstackBelow_4 (by decide) h1) ?_
    refine Sg.go (pc' := 8) (mi_aload_n dX9_unstackBelow_7 rfl) ?_
    refine Sg.go (pc' := 11) (mi_gfI (r := 2) (k := 7) dX9_unstackBelow_8 hC_2 (by decide) rfl wF_X9_69 (by omega) rfl) ?_
    refine Sg.ite (fun h2 => ?_) (fun h2 => ?_)
    · refine Sg.go (pc' := 36) (mi_ifle_t (tgt := 36) dX9_unstackBelow_11 (by decide) h2) ?_
      exact Sg.ret (mi_return dX9_unstackBelow_36 rfl (0, 0))
    · refine Sg.go (pc' := 14) (mi_ifle_f (tgt := 36) dX9_unstackBelow_11 (by decide) h2) ?_
      refine Sg.go (pc' := 15) (mi_aload_n dX9_unstackBelow_14 rfl) ?_
      refine Sg.go (pc' := 18) (mi_gfA (t := 15) (v := v0) (r := 2) (k := 4) dX9_unstackBelow_15 hC_2 (by decide) rfl wF_X9_35 (by omega) rfl (hL.2.1 _ 4 (by omega) (by omega) (by decide))) ?_
      refine Sg.go (pc' := 19) (mi_iconst (z := 0) dX9_unstackBelow_18 rfl) ?_
      refine Sg.go (pc' := 20) (mi_aload_n dX9_unstackBelow_19 rfl) ?_
      refine Sg.go (pc' := 23) (mi_gfA (t := 15) (v := v0) (r := 2) (k := 4) dX9_unstackBelow_20 hC_2 (by decide) rfl wF_X9_35 (by omega) rfl (hL.2.1 _ 4 (by omega) (by omega) (by decide))) ?_
      refine Sg.go (pc' := 24) (mi_aload_n dX9_unstackBelow_23 rfl) ?_
      refine Sg.go (pc' := 27) (mi_gfI (r := 2) (k := 7) dX9_unstackBelow_24 hC_2 (by decide) rfl wF_X9_69 (by omega) rfl) ?_
      refine Sg.go (pc' := 28) (mi_iconst (z := 1) dX9_unstackBelow_27 rfl) ?_
      refine Sg.go (pc' := 29) (mi_isub dX9_unstackBelow_28) ?_
      refine Sg.ck (fun hk3 => ?_)
      refine Sg.go (pc' := 30) (mi_iald (n := 8) dX9_unstackBelow_29 rfl rfl (by omega) hk3) ?_
      refine Sg.goM (pc' := 31) (mi_iast (n := 8) dX9_unstackBelow_30 rfl rfl (by omega) (by decide)) ?_
      refine Sg.letD (fun D4 hD4 => ?_)
      refine Sg.go (pc' := 32) (mi_aload_n dX9_unstackBelow_31 rfl) ?_
      refine Sg.go (pc' := 33) (mi_iconst (z := 1) dX9_unstackBelow_32 rfl) ?_
      refine Sg.goM (pc' := 36) (mi_pfD (r := 2) (k := 7) (t := 0) dX9_unstackBelow_33 hC_2 (by decide) rfl rfl wF_X9_69 (by omega) rfl (by decide) (Or.inl ⟨rfl, rfl⟩)) ?_
      refine Sg.letD (fun D5 hD5 => ?_)
      exact Sg.ret (mi_return dX9_unstackBelow_36 rfl (0, 0))
theorem C_X9_unstackBelow {Z : MiZ} (hL : CL Z) (a0 a1 : Int) (D : MiD) (h0 : (0 ≤ a0 ∧ a0 < 2)) (h1 : 0 ≤ a1) (b : MiD) (hb : B_X9_unstackBelow a0 a1 D = some b) : MC m_X9_unstackBelow [(4, a0), (10, a1)] (D, Z) ((mi_LV Z) b) := MC.ofSg (L := (mi_LV Z)) (μ := m_X9_unstackBelow) (args := [(4, a0), (10, a1)]) (M := (D, Z)) rfl wP_X9 (Nat.le_of_ble_eq_true rfl) (show Sg m_X9_unstackBelow 0 [(4, a0), (10, a1)] [] (D, Z) (mi_LV Z) (B_X9_unstackBelow a0 a1 D) from S_X9_unstackBelow hL a0 a1 D h0 h1) hb
abbrev m_J0_length_8abf5 : MiI := (yJ0_length_8abf5, cJ0_length_8abf5, 1, (some .int), 2, none)
def B_J0_length_8abf5 (D : MiD) (v0 : Int) : Option (Int) := some (mi_shr (mi_sl v0) 0)
set_option maxRecDepth 20000 in
theorem S_J0_length_8abf5 {D : MiD} {Z : MiZ} (hL : XL Z) (v0 : Int) : (0 ≤ v0 ∧ v0 < 64) → Sg m_J0_length_8abf5 0 [(29, v0)] [] (D, Z) (mi_LI 0 (D, Z)) (B_J0_length_8abf5 D v0) := by
  intro hb0
  unfold B_J0_length_8abf5
  refine Sg.go (pc' := 1) (mi_aload_n dJ0_length_8abf5_0 rfl) ?_
  refine Sg.go (pc' := 4) (mi_gfVa dJ0_length_8abf5_1 wF_J0_9 (by omega)) ?_
  refine Sg.go (pc' := 5) (mi_slen dJ0_length_8abf5_4 (by omega)) ?_
  refine Sg.go (pc' := 6) (mi_aload_n dJ0_length_8abf5_5 rfl) ?_
  refine Sg.callP (pc' := 9) (t := 0) (v := 0) (μ' := m_J0_coder_7d493) (args := [(29, v0)]) (mi_invC (n := 0) (r := 27) dJ0_length_8abf5_6 (by decide) mi_oSt (by omega) rfl rfl wN_J0_coder_7d493 rfl ⟨by decide, by decide⟩ wL_J0_335 wI_J0_coder_7d493 wS_J0_coder_7d493 wB_J0 wC_J0_coder_7d493) (C_J0_coder_7d493 hL v0 D (by omega) 0 rfl) (Nat.le_of_ble_eq_true rfl) rfl rfl ?_
  refine Sg.go (pc' := 10) (mi_ishr dJ0_length_8abf5_9) ?_
  exact Sg.ret (mi_ireturn dJ0_length_8abf5_10 rfl (Or.inl rfl))
theorem C_J0_length_8abf5 {Z : MiZ} (hL : XL Z) (a0 : Int) (D : MiD) (h0 : (0 ≤ a0 ∧ a0 < 64)) (b : Int) (hb : B_J0_length_8abf5 D a0 = some b) : MC m_J0_length_8abf5 [(29, a0)] (D, Z) ((mi_LI 0 (D, Z)) b) := MC.ofSg (L := (mi_LI 0 (D, Z))) (μ := m_J0_length_8abf5) (args := [(29, a0)]) (M := (D, Z)) rfl wP_J0 (Nat.le_of_ble_eq_true rfl) (show Sg m_J0_length_8abf5 0 [(29, a0)] [] (D, Z) (mi_LI 0 (D, Z)) (B_J0_length_8abf5 D a0) from S_J0_length_8abf5 hL a0 h0) hb
abbrev m_J1_indexOf_4cfef : MiI := (yJ1_indexOf_4cfef, cJ1_indexOf_4cfef, 4, (some .int), 2, none)
def B_J1_indexOf_4cfef (D : MiD) (v0 : Int) (v1 : Int) (v2 : Int) (v3 : Int) : Option (Int) := if (B_J1_canEncode_9a6ad v1) ≠ 0 then (mi_let (mi_min v3 (mi_sl v0)) fun x2 => if (mi_max v2 0) < x2 then (mi_bi (B_J1_indexOfChar_4cfef D v0 v1 (mi_max v2 0) x2) fun y4 => some y4) else (some (-1))) else (some (-1))
set_option maxRecDepth 20000 in
theorem S_J1_indexOf_4cfef {D : MiD} {Z : MiZ} (hL : XL Z) (v0 v1 v2 v3 : Int) : (0 ≤ v0 ∧ v0 < 64) → Sg m_J1_indexOf_4cfef 0 [(33, v0), (0, v1), (0, v2), (0, v3)] [] (D, Z) (mi_LI 0 (D, Z)) (B_J1_indexOf_4cfef D v0 v1 v2 v3) := by
  intro hb0
  unfold B_J1_indexOf_4cfef
  refine Sg.go (pc' := 1) (mi_iload_n dJ1_indexOf_4cfef_0 rfl) ?_
  refine Sg.callP (pc' := 4) (t := 0) (v := (B_J1_canEncode_9a6ad v1)) (μ' := m_J1_canEncode_9a6ad) (args := [(0, v1)]) (mi_invS (n := 1) dJ1_indexOf_4cfef_1 rfl wN_J1_canEncode_9a6ad rfl ⟨by decide, by decide⟩ wL_J1_88 wT_J1_canEncode_9a6ad wB_J1 wC_J1_canEncode_9a6ad) (C_J1_canEncode_9a6ad hL v1 D) (Nat.le_of_ble_eq_true rfl) rfl rfl ?_
  refine Sg.ite (fun h1 => ?_) (fun h1 => ?_)
  · refine Sg.go (pc' := 9) (mi_ifne_t (tgt := 9) dJ1_indexOf_4cfef_4 (by decide) h1) ?_
    refine Sg.go (pc' := 10) (mi_iload_n dJ1_indexOf_4cfef_9 rfl) ?_
    refine Sg.go (pc' := 11) (mi_iconst (z := 0) dJ1_indexOf_4cfef_10 rfl) ?_
    refine Sg.goB (pc' := 14) (mi_maxS dJ1_indexOf_4cfef_11 wL_J1_92 wT_max wB_Math wC_max (by decide) (Nat.le_of_ble_eq_true rfl)) ?_
    refine Sg.go (pc' := 15) (mi_istore_n (ls1 := [(33, v0), (0, v1), (0, (mi_max v2 0)), (0, v3)]) dJ1_indexOf_4cfef_14 (by decide) rfl) ?_
    refine Sg.go (pc' := 16) (mi_iload_n dJ1_indexOf_4cfef_15 rfl) ?_
    refine Sg.go (pc' := 17) (mi_aload_n dJ1_indexOf_4cfef_16 rfl) ?_
    refine Sg.go (pc' := 18) (mi_slen dJ1_indexOf_4cfef_17 (by omega)) ?_
    refine Sg.goB (pc' := 21) (mi_minS dJ1_indexOf_4cfef_18 wL_J1_38 wT_min wB_Math wC_min (by decide) (Nat.le_of_ble_eq_true rfl)) ?_
    refine Sg.letI (fun x2 hx2 => ?_)
    refine Sg.go (pc' := 22) (mi_istore_n (ls1 := [(33, v0), (0, v1), (0, (mi_max v2 0)), (0, x2)]) dJ1_indexOf_4cfef_21 (by decide) rfl) ?_
    refine Sg.go (pc' := 23) (mi_iload_n dJ1_indexOf_4cfef_22 rfl) ?_
    refine Sg.go (pc' := 24) (mi_iload_n dJ1_indexOf_4cfef_23 rfl) ?_
    refine Sg.ite (fun h3 => ?_) (fun h3 => ?_)
    · refine Sg.go (pc' := 29) (mi_icmplt_t (tgt := 29) dJ1_indexOf_4cfef_24 (by decide) h3) ?_
      refine Sg.go (pc' := 30) (mi_aload_n dJ1_indexOf_4cfef_29 rfl) ?_
      refine Sg.go (pc' := 31) (mi_iload_n dJ1_indexOf_4cfef_30 rfl) ?_
      refine Sg.go (pc' := 32) (mi_iload_n dJ1_indexOf_4cfef_31 rfl) ?_
      refine Sg.go (pc' := 33) (mi_iload_n dJ1_indexOf_4cfef_32 rfl) ?_
      refine Sg.callI (pc' := 36) (t := 0) (μ' := m_J1_indexOfChar_4cfef) (args := [(33, v0), (0, v1), (0, (mi_max v2 0)), (0, x2)]) (mi_invS (n := 4) dJ1_indexOf_4cfef_33 rfl wN_J1_indexOfChar_4cfef rfl ⟨by decide, by decide⟩ wL_J1_95 wT_J1_indexOfChar_4cfef wB_J1 wC_J1_indexOfChar_4cfef) (fun v hv => C_J1_indexOfChar_4cfef hL v0 v1 (mi_max v2 0) x2 D (by omega) v hv) (Nat.le_of_ble_eq_true rfl) rfl rfl (fun y4 => ?_)
      exact Sg.ret (mi_ireturn dJ1_indexOf_4cfef_36 rfl (Or.inl rfl))
    · refine Sg.go (pc' := 27) (mi_icmplt_f (tgt := 29) dJ1_indexOf_4cfef_24 (by decide) h3) ?_
      refine Sg.go (pc' := 28) (mi_iconst (z := (-1)) dJ1_indexOf_4cfef_27 rfl) ?_
      exact Sg.ret (mi_ireturn dJ1_indexOf_4cfef_28 rfl (Or.inl rfl))
  · refine Sg.go (pc' := 7) (mi_ifne_f (tgt := 9) dJ1_indexOf_4cfef_4 (by decide) h1) ?_
    refine Sg.go (pc' := 8) (mi_iconst (z := (-1)) dJ1_indexOf_4cfef_7 rfl) ?_
    exact Sg.ret (mi_ireturn dJ1_indexOf_4cfef_8 rfl (Or.inl rfl))
theorem C_J1_indexOf_4cfef {Z : MiZ} (hL : XL Z) (a0 a1 a2 a3 : Int) (D : MiD) (h0 : (0 ≤ a0 ∧ a0 < 64)) (b : Int) (hb : B_J1_indexOf_4cfef D a0 a1 a2 a3 = some b) : MC m_J1_indexOf_4cfef [(33, a0), (0, a1), (0, a2), (0, a3)] (D, Z) ((mi_LI 0 (D, Z)) b) := MC.ofSg (L := (mi_LI 0 (D, Z))) (μ := m_J1_indexOf_4cfef) (args := [(33, a0), (0, a1), (0, a2), (0, a3)]) (M := (D, Z)) rfl wP_J1 (Nat.le_of_ble_eq_true rfl) (show Sg m_J1_indexOf_4cfef 0 [(33, a0), (0, a1), (0, a2), (0, a3)] [] (D, Z) (mi_LI 0 (D, Z)) (B_J1_indexOf_4cfef D a0 a1 a2 a3) from S_J1_indexOf_4cfef hL a0 a1 a2 a3 h0) hb
abbrev m_X10_feed : MiI := (yX10_feed, cX10_feed, 6, (some .int), 2, none)
def B_X10_feed (v1 : Int) (v2 : Int) (v3 : Int) (v4 : Int) (v5 : Int) (D : MiD) : Option (Int × MiD) := if (mi_w ((D 1 0 1) + 20)) ≤ 500 then (mi_bi (B_X10_append v1 D) fun D2 => mi_bi (B_X10_append v2 D2) fun D3 => mi_bi (B_X10_append v3 D3) fun D4 => mi_bi (B_X10_append v4 D4) fun D5 => mi_bi (B_X10_append v5 D5) fun D6 => some ((D6 1 0 1), D6)) else (some ((-1), D))
set_option maxRecDepth 20000 in
theorem S_X10_feed {Z : MiZ} (hL : CL Z) (v1 v2 v3 v4 v5 : Int) (D : MiD) : Sg m_X10_feed 0 [(3, 0), (0, v1), (0, v2), (0, v3), (0, v4), (0, v5)] [] (D, Z) (mi_LD 0 Z) (B_X10_feed v1 v2 v3 v4 v5 D) := by
  unfold B_X10_feed
  refine Sg.go (pc' := 1) (mi_aload_n dX10_feed_0 rfl) ?_
  refine Sg.go (pc' := 4) (mi_gfI (r := 1) (k := 1) dX10_feed_1 hC_1 (by decide) rfl wF_X10_27 (by omega) rfl) ?_
  refine Sg.go (pc' := 6) (mi_bipush (z := 20) dX10_feed_4 rfl) ?_
  refine Sg.go (pc' := 7) (mi_iadd dX10_feed_6) ?_
  refine Sg.go (pc' := 10) (mi_sipush (z := 500) dX10_feed_7 rfl) ?_
  refine Sg.ite (fun h1 => ?_) (fun h1 => ?_)
  · refine Sg.go (pc' := 15) (mi_icmple_t (tgt := 15) dX10_feed_10 (by decide) h1) ?_
    refine Sg.go (pc' := 16) (mi_aload_n dX10_feed_15 rfl) ?_
    refine Sg.go (pc' := 17) (mi_iload_n dX10_feed_16 rfl) ?_
    refine Sg.callV (pc' := 20) (μ' := m_X10_append) (args := [(3, 0), (0, v1)]) (mi_invV (n := 1) (r := 1) dX10_feed_17 hC_1 (by omega) rfl rfl wN_X10_append rfl ⟨by decide, by decide⟩ wL_X10_30 wI_X10_append wS_X10_append wB_X10 wC_X10_append) (fun v hv => C_X10_append hL v1 D v hv) (Nat.le_of_ble_eq_true rfl) rfl rfl (fun D2 => ?_)
    refine Sg.go (pc' := 21) (mi_aload_n dX10_feed_20 rfl) ?_
    refine Sg.go (pc' := 22) (mi_iload_n dX10_feed_21 rfl) ?_
    refine Sg.callV (pc' := 25) (μ' := m_X10_append) (args := [(3, 0), (0, v2)]) (mi_invV (n := 1) (r := 1) dX10_feed_22 hC_1 (by omega) rfl rfl wN_X10_append rfl ⟨by decide, by decide⟩ wL_X10_30 wI_X10_append wS_X10_append wB_X10 wC_X10_append) (fun v hv => C_X10_append hL v2 D2 v hv) (Nat.le_of_ble_eq_true rfl) rfl rfl (fun D3 => ?_)
    refine Sg.go (pc' := 26) (mi_aload_n dX10_feed_25 rfl) ?_
    refine Sg.go (pc' := 27) (mi_iload_n dX10_feed_26 rfl) ?_
    refine Sg.callV (pc' := 30) (μ' := m_X10_append) (args := [(3, 0), (0, v3)]) (mi_invV (n := 1) (r := 1) dX10_feed_27 hC_1 (by omega) rfl rfl wN_X10_append rfl ⟨by decide, by decide⟩ wL_X10_30 wI_X10_append wS_X10_append wB_X10 wC_X10_append) (fun v hv => C_X10_append hL v3 D3 v hv) (Nat.le_of_ble_eq_true rfl) rfl rfl (fun D4 => ?_)
    refine Sg.go (pc' := 31) (mi_aload_n dX10_feed_30 rfl) ?_
    refine Sg.go (pc' := 33) (mi_iload dX10_feed_31 rfl) ?_
    refine Sg.callV (pc' := 36) (μ' := m_X10_append) (args := [(3, 0), (0, v4)]) (mi_invV (n := 1) (r := 1) dX10_feed_33 hC_1 (by omega) rfl rfl wN_X10_append rfl ⟨by decide, by decide⟩ wL_X10_30 wI_X10_append wS_X10_append wB_X10 wC_X10_append) (fun v hv => C_X10_append hL v4 D4 v hv) (Nat.le_of_ble_eq_true rfl) rfl rfl (fun D5 => ?_)
    refine Sg.go (pc' := 37) (mi_aload_n dX10_feed_36 rfl) ?_
    refine Sg.go (pc' := 39) (mi_iload dX10_feed_37 rfl) ?_
    refine Sg.callV (pc' := 42) (μ' := m_X10_append) (args := [(3, 0), (0, v5)]) (mi_invV (n := 1) (r := 1) dX10_feed_39 hC_1 (by omega) rfl rfl wN_X10_append rfl ⟨by decide, by decide⟩ wL_X10_30 wI_X10_append wS_X10_append wB_X10 wC_X10_append) (fun v hv => C_X10_append hL v5 D5 v hv) (Nat.le_of_ble_eq_true rfl) rfl rfl (fun D6 => ?_)
    refine Sg.go (pc' := 43) (mi_aload_n dX10_feed_42 rfl) ?_
    refine Sg.go (pc' := 46) (mi_gfI (r := 1) (k := 1) dX10_feed_43 hC_1 (by decide) rfl wF_X10_27 (by omega) rfl) ?_
    exact Sg.ret (mi_ireturn dX10_feed_46 rfl (Or.inl rfl))
  · refine Sg.go (pc' := 13) (mi_icmple_f (tgt := 15) dX10_feed_10 (by decide) h1) ?_
    refine Sg.go (pc' := 14) (mi_iconst (z := (-1)) dX10_feed_13 rfl) ?_
    exact Sg.ret (mi_ireturn dX10_feed_14 rfl (Or.inl rfl))
theorem C_X10_feed {Z : MiZ} (hL : CL Z) (a1 a2 a3 a4 a5 : Int) (D : MiD) (b : Int × MiD) (hb : B_X10_feed a1 a2 a3 a4 a5 D = some b) : MC m_X10_feed [(3, 0), (0, a1), (0, a2), (0, a3), (0, a4), (0, a5)] (D, Z) ((mi_LD 0 Z) b) := MC.ofSg (L := (mi_LD 0 Z)) (μ := m_X10_feed) (args := [(3, 0), (0, a1), (0, a2), (0, a3), (0, a4), (0, a5)]) (M := (D, Z)) rfl wP_X10 (Nat.le_of_ble_eq_true rfl) (show Sg m_X10_feed 0 [(3, 0), (0, a1), (0, a2), (0, a3), (0, a4), (0, a5)] [] (D, Z) (mi_LD 0 Z) (B_X10_feed a1 a2 a3 a4 a5 D) from S_X10_feed hL a1 a2 a3 a4 a5 D) hb
abbrev m_X4_init : MiI := (yX4_init, cX4_init, 1, none, 2, none)
def B_X4_init (v0 : Int) (D : MiD) (Z : MiZ) : Option (MiM) := if 0 ≤ Z.2 24 then mi_nl D Z 24 12 (fun D1 Z2 => mi_let (mi_st Z2.1 8 v0 1 (Z.2 24), Z2.2) fun Z4 => if 0 ≤ Z4.2 6 then mi_nl D1 Z4 6 2 (fun D5 Z6 => mi_bw (B_X1_init (Z4.2 6) D5 Z6) fun D8 Z9 => mi_let (mi_st Z9.1 8 v0 2 (Z4.2 6), Z9.2) fun Z10 => if 0 ≤ Z10.2 6 then mi_nl D8 Z10 6 2 (fun D11 Z12 => mi_bw (B_X1_init (Z10.2 6) D11 Z12) fun D14 Z15 => mi_let (mi_st Z15.1 8 v0 3 (Z10.2 6), Z15.2) fun Z16 => if 0 ≤ Z16.2 6 then mi_nl D14 Z16 6 2 (fun D17 Z18 => mi_bw (B_X1_init (Z16.2 6) D17 Z18) fun D20 Z21 => mi_let (mi_st Z21.1 8 v0 4 (Z16.2 6), Z21.2) fun Z22 => some (D20, Z22)) else none) else none) else none) else none
set_option maxRecDepth 20000 in
theorem S_X4_init  (v0 : Int) (D : MiD) (Z : MiZ) (hL : XL Z) : 0 ≤ v0 → Sg m_X4_init 0 [(10, v0)] [] (D, Z) mi_LW (B_X4_init v0 D Z) := by
  intro hb0
  unfold B_X4_init
  refine Sg.go (pc' := 1) (mi_aload_n dX4_init_0 rfl) ?_
  refine Sg.go (pc' := 4) (mi_objInit dX4_init_1 wL_X4_3 wI_obj wC_obj (by decide) (by omega) (Nat.le_of_ble_eq_true rfl)) ?_
  refine Sg.go (pc' := 5) (mi_aload_n dX4_init_4 rfl) ?_
  refine Sg.go (pc' := 7) (mi_bipush (z := 12) dX4_init_5 rfl) ?_
  refine Sg.nl (pc' := 10) (r := 24) (n := 12) (mi_anew (r := 24) dX4_init_7 rfl wK_X4_9 (by decide) (by decide) (by decide) rfl rfl (by decide)) (by decide) (fun hk3 D1 Z2 => ?_)
  have hL : XL Z2 := trivial
  refine Sg.goM (pc' := 13) (mi_pFA (r := 8) (k := 1) (t := 24) dX4_init_10 hC_8 (by decide) rfl rfl rfl rfl wF_X4_11 (by omega) rfl (Or.inr (Or.inr (Or.inr ⟨by show 2 ≤ (24 : Nat) + 2; omega, by first | exact Or.inl ⟨_, rfl⟩ | exact Or.inr ⟨_, rfl⟩⟩)))) ?_
  refine Sg.letZ (fun Z4 hZ4 => ?_)
  have hL : XL Z4 := trivial
  refine Sg.go (pc' := 14) (mi_aload_n dX4_init_13 rfl) ?_
  refine Sg.nl (pc' := 17) (r := 6) (n := 2) (mi_new (r := 6) dX4_init_14 hC_6 wK_X4_9 wG_X1 wB_X1 hN_6.1 hN_6.2.1 hN_6.2.2) (by decide) (fun hk7 D5 Z6 => ?_)
  have hL : XL Z6 := trivial
  refine Sg.go (pc' := 18) (mi_dup dX4_init_17 (show (8 : Nat) ≠ 1 by decide)) ?_
  refine Sg.callW (pc' := 21) (μ' := m_X1_init) (args := [(8, (Z4.2 6))]) (mi_invIN (n := 0) (r := 6) dX4_init_18 (by omega) rfl rfl rfl wN_X1_init rfl ⟨by decide, by decide⟩ wL_X4_17 wI_X1_init wB_X1 wC_X1_init) (fun v hv => C_X1_init hL (Z4.2 6) D5 (by omega) v hv) (Nat.le_of_ble_eq_true rfl) rfl rfl (fun D8 Z9 => ?_)
  have hL : XL Z9 := trivial
  refine Sg.goM (pc' := 24) (mi_pfA (r := 8) (k := 2) (t := 6) dX4_init_21 hC_8 (by decide) rfl rfl wF_X4_18 (by omega) rfl (Or.inr (Or.inr (Or.inr ⟨by show 2 ≤ (6 : Nat) + 2; omega, by first | exact Or.inl ⟨_, rfl⟩ | exact Or.inr ⟨_, rfl⟩⟩)))) ?_
  refine Sg.letZ (fun Z10 hZ10 => ?_)
  have hL : XL Z10 := trivial
  refine Sg.go (pc' := 25) (mi_aload_n dX4_init_24 rfl) ?_
  refine Sg.nl (pc' := 28) (r := 6) (n := 2) (mi_new (r := 6) dX4_init_25 hC_6 wK_X4_9 wG_X1 wB_X1 hN_6.1 hN_6.2.1 hN_6.2.2) (by decide) (fun hk13 D11 Z12 => ?_)
  have hL : XL Z12 := trivial
  refine Sg.go (pc' := 29) (mi_dup dX4_init_28 (show (8 : Nat) ≠ 1 by decide)) ?_
  refine Sg.callW (pc' := 32) (μ' := m_X1_init) (args := [(8, (Z10.2 6))]) (mi_invIN (n := 0) (r := 6) dX4_init_29 (by omega) rfl rfl rfl wN_X1_init rfl ⟨by decide, by decide⟩ wL_X4_17 wI_X1_init wB_X1 wC_X1_init) (fun v hv => C_X1_init hL (Z10.2 6) D11 (by omega) v hv) (Nat.le_of_ble_eq_true rfl) rfl rfl (fun D14 Z15 => ?_)
  have hL : XL Z15 := trivial
  refine Sg.goM (pc' := 35) (mi_pfA (r := 8) (k := 3) (t := 6) dX4_init_32 hC_8 (by decide) rfl rfl wF_X4_22 (by omega) rfl (Or.inr (Or.inr (Or.inr ⟨by show 2 ≤ (6 : Nat) + 2; omega, by first | exact Or.inl ⟨_, rfl⟩ | exact Or.inr ⟨_, rfl⟩⟩)))) ?_
  refine Sg.letZ (fun Z16 hZ16 => ?_)
  have hL : XL Z16 := trivial
  refine Sg.go (pc' := 36) (mi_aload_n dX4_init_35 rfl) ?_
  refine Sg.nl (pc' := 39) (r := 6) (n := 2) (mi_new (r := 6) dX4_init_36 hC_6 wK_X4_9 wG_X1 wB_X1 hN_6.1 hN_6.2.1 hN_6.2.2) (by decide) (fun hk19 D17 Z18 => ?_)
  have hL : XL Z18 := trivial
  refine Sg.go (pc' := 40) (mi_dup dX4_init_39 (show (8 : Nat) ≠ 1 by decide)) ?_
  refine Sg.callW (pc' := 43) (μ' := m_X1_init) (args := [(8, (Z16.2 6))]) (mi_invIN (n := 0) (r := 6) dX4_init_40 (by omega) rfl rfl rfl wN_X1_init rfl ⟨by decide, by decide⟩ wL_X4_17 wI_X1_init wB_X1 wC_X1_init) (fun v hv => C_X1_init hL (Z16.2 6) D17 (by omega) v hv) (Nat.le_of_ble_eq_true rfl) rfl rfl (fun D20 Z21 => ?_)
  have hL : XL Z21 := trivial
  refine Sg.goM (pc' := 46) (mi_pfA (r := 8) (k := 4) (t := 6) dX4_init_43 hC_8 (by decide) rfl rfl wF_X4_25 (by omega) rfl (Or.inr (Or.inr (Or.inr ⟨by show 2 ≤ (6 : Nat) + 2; omega, by first | exact Or.inl ⟨_, rfl⟩ | exact Or.inr ⟨_, rfl⟩⟩)))) ?_
  refine Sg.letZ (fun Z22 hZ22 => ?_)
  have hL : XL Z22 := trivial
  exact Sg.ret (mi_return dX4_init_46 rfl (0, 0))
theorem C_X4_init {Z : MiZ} (hL : XL Z) (a0 : Int) (D : MiD) (h0 : 0 ≤ a0) (b : MiM) (hb : B_X4_init a0 D Z = some b) : MC m_X4_init [(10, a0)] (D, Z) (mi_LW b) := MC.ofSg (L := mi_LW) (μ := m_X4_init) (args := [(10, a0)]) (M := (D, Z)) rfl wP_X4 (Nat.le_of_ble_eq_true rfl) (show Sg m_X4_init 0 [(10, a0)] [] (D, Z) mi_LW (B_X4_init a0 D Z) from S_X4_init a0 D Z hL h0) hb
abbrev m_X5_passIf : MiI := (yX5_passIf, cX5_passIf, 2, (some .boolean), 2, none)
def B_X5_passIf (Z : MiZ) (v0 : Int) (v1 : Int) (D : MiD) : Option (Int × MiD) := mi_bi (B_X5_skipBlanks_0 Z mi_fuel v0 D) fun D1 => if (D1 9 v0 1) ≤ (D1 9 v0 2) then (some (0, D1)) else (if 0 ≤ (Z.1 9 v0 0) ∧ (Z.1 9 v0 0) < 1 then (if 0 ≤ (D1 9 v0 2) ∧ (D1 9 v0 2) < 500 then (if (D1 10 (Z.1 9 v0 0) (D1 9 v0 2)) = v1 then (mi_let (mi_st D1 9 v0 2 (mi_w ((D1 9 v0 2) + 1))) fun D6 => some (1, D6)) else (some (0, D1))) else none) else none)
set_option maxRecDepth 20000 in
theorem S_X5_passIf {Z : MiZ} (hL : CL Z) (v0 v1 : Int) (D : MiD) : 0 ≤ v0 → Sg m_X5_passIf 0 [(11, v0), (0, v1)] [] (D, Z) (mi_LD 0 Z) (B_X5_passIf Z v0 v1 D) := by
  intro hb0
  unfold B_X5_passIf
  refine Sg.go (pc' := 1) (mi_aload_n dX5_passIf_0 rfl) ?_
  refine Sg.callV (pc' := 4) (μ' := m_X5_skipBlanks) (args := [(11, v0)]) (mi_invV (n := 0) (r := 9) dX5_passIf_1 hC_9 (by omega) rfl rfl wN_X5_skipBlanks rfl ⟨by decide, by decide⟩ wL_X5_36 wI_X5_skipBlanks wS_X5_skipBlanks wB_X5 wC_X5_skipBlanks) (fun v hv => C_X5_skipBlanks hL v0 D (by omega) v hv) (Nat.le_of_ble_eq_true rfl) rfl rfl (fun D1 => ?_)
  refine Sg.go (pc' := 5) (mi_aload_n dX5_passIf_4 rfl) ?_
  refine Sg.go (pc' := 8) (mi_gfI (r := 9) (k := 2) dX5_passIf_5 hC_9 (by decide) rfl wF_X5_39 (by omega) rfl) ?_
  refine Sg.go (pc' := 9) (mi_aload_n dX5_passIf_8 rfl) ?_
  refine Sg.go (pc' := 12) (mi_gfI (r := 9) (k := 1) dX5_passIf_9 hC_9 (by decide) rfl wF_X5_19 (by omega) rfl) ?_
  refine Sg.ite (fun h2 => ?_) (fun h2 => ?_)
  · refine Sg.go (pc' := 28) (mi_icmpge_t (tgt := 28) dX5_passIf_12 (by decide) h2) ?_
    refine Sg.go (pc' := 29) (mi_iconst (z := 0) dX5_passIf_28 rfl) ?_
    exact Sg.ret (mi_ireturn dX5_passIf_29 rfl (Or.inr (Or.inl ⟨rfl, Or.inl rfl⟩)))
  · refine Sg.go (pc' := 15) (mi_icmpge_f (tgt := 28) dX5_passIf_12 (by decide) h2) ?_
    refine Sg.go (pc' := 16) (mi_aload_n dX5_passIf_15 rfl) ?_
    refine Sg.go (pc' := 19) (mi_gfA (t := 10) (v := (Z.1 9 v0 0)) (r := 9) (k := 0) dX5_passIf_16 hC_9 (by decide) rfl wF_X5_15 (by omega) rfl rfl) ?_
    refine Sg.go (pc' := 20) (mi_aload_n dX5_passIf_19 rfl) ?_
    refine Sg.go (pc' := 23) (mi_gfI (r := 9) (k := 2) dX5_passIf_20 hC_9 (by decide) rfl wF_X5_39 (by omega) rfl) ?_
    refine Sg.ck (fun hk3 => ?_)
    refine Sg.ck (fun hk4 => ?_)
    refine Sg.go (pc' := 24) (mi_bald (n := 500) dX5_passIf_23 rfl rfl (by omega) hk4) ?_
    refine Sg.go (pc' := 25) (mi_iload_n dX5_passIf_24 rfl) ?_
    refine Sg.ite (fun h5 => ?_) (fun h5 => ?_)
    · refine Sg.go (pc' := 30) (mi_icmpeq_t (tgt := 30) dX5_passIf_25 (by decide) h5) ?_
      refine Sg.go (pc' := 31) (mi_aload_n dX5_passIf_30 rfl) ?_
      refine Sg.go (pc' := 32) (mi_dup dX5_passIf_31 (show (11 : Nat) ≠ 1 by decide)) ?_
      refine Sg.go (pc' := 35) (mi_gfI (r := 9) (k := 2) dX5_passIf_32 hC_9 (by decide) rfl wF_X5_39 (by omega) rfl) ?_
      refine Sg.go (pc' := 36) (mi_iconst (z := 1) dX5_passIf_35 rfl) ?_
      refine Sg.go (pc' := 37) (mi_iadd dX5_passIf_36) ?_
      refine Sg.goM (pc' := 40) (mi_pfD (r := 9) (k := 2) (t := 0) dX5_passIf_37 hC_9 (by decide) rfl rfl wF_X5_39 (by omega) rfl (by decide) (Or.inl ⟨rfl, rfl⟩)) ?_
      refine Sg.letD (fun D6 hD6 => ?_)
      refine Sg.go (pc' := 41) (mi_iconst (z := 1) dX5_passIf_40 rfl) ?_
      exact Sg.ret (mi_ireturn dX5_passIf_41 rfl (Or.inr (Or.inl ⟨rfl, Or.inr rfl⟩)))
    · refine Sg.go (pc' := 28) (mi_icmpeq_f (tgt := 30) dX5_passIf_25 (by decide) h5) ?_
      refine Sg.go (pc' := 29) (mi_iconst (z := 0) dX5_passIf_28 rfl) ?_
      exact Sg.ret (mi_ireturn dX5_passIf_29 rfl (Or.inr (Or.inl ⟨rfl, Or.inl rfl⟩)))
theorem C_X5_passIf {Z : MiZ} (hL : CL Z) (a0 a1 : Int) (D : MiD) (h0 : 0 ≤ a0) (b : Int × MiD) (hb : B_X5_passIf Z a0 a1 D = some b) : MC m_X5_passIf [(11, a0), (0, a1)] (D, Z) ((mi_LD 0 Z) b) := MC.ofSg (L := (mi_LD 0 Z)) (μ := m_X5_passIf) (args := [(11, a0), (0, a1)]) (M := (D, Z)) rfl wP_X5 (Nat.le_of_ble_eq_true rfl) (show Sg m_X5_passIf 0 [(11, a0), (0, a1)] [] (D, Z) (mi_LD 0 Z) (B_X5_passIf Z a0 a1 D) from S_X5_passIf hL a0 a1 D h0) hb
abbrev m_X5_readNumber : MiI := (yX5_readNumber, cX5_readNumber, 4, (some .int), 2, none)
def B_X5_readNumber_86 (Z : MiZ) (v0 : Int) (v1 : Int) (v2 : Int) (v3 : Int) (D : MiD) : Option (Int × MiD) := if (D 9 v0 2) ≠ v2 then (if v3 ≤ v1 then (some (v3, D)) else (mi_bi (B_X5_fail v0 2 v2 D) fun D3 => some (v3, D3))) else (mi_bi (B_X5_fail v0 1 v2 D) fun D4 => some (v3, D4))
set_option maxRecDepth 20000 in
theorem S_X5_readNumber_86 {Z : MiZ} (hL : CL Z) (v0 v1 v2 v3 : Int) (D : MiD) : 0 ≤ v0 → Sg m_X5_readNumber 86 [(11, v0), (0, v1), (0, v2), (0, v3)] [] (D, Z) (mi_LD 0 Z) (B_X5_readNumber_86 Z v0 v1 v2 v3 D) := by
  intro hb0
  unfold B_X5_readNumber_86
  refine Sg.go (pc' := 87) (mi_aload_n dX5_readNumber_86 rfl) ?_
  refine Sg.go (pc' := 90) (mi_gfI (r := 9) (k := 2) dX5_readNumber_87 hC_9 (by decide) rfl wF_X5_39 (by omega) rfl) ?_
  refine Sg.go (pc' := 91) (mi_iload_n dX5_readNumber_90 rfl) ?_
  refine Sg.ite (fun h1 => ?_) (fun h1 => ?_)
  · refine Sg.go (pc' := 103) (mi_icmpne_t (tgt := 103) dX5_readNumber_91 (by decide) h1) ?_
    refine Sg.go (pc' := 104) (mi_iload_n dX5_readNumber_103 rfl) ?_
    refine Sg.go (pc' := 105) (mi_iload_n dX5_readNumber_104 rfl) ?_
    refine Sg.ite (fun h2 => ?_) (fun h2 => ?_)
    · refine Sg.go (pc' := 114) (mi_icmple_t (tgt := 114) dX5_readNumber_105 (by decide) h2) ?_
      refine Sg.go (pc' := 115) (mi_iload_n dX5_readNumber_114 rfl) ?_
      exact Sg.ret (mi_ireturn dX5_readNumber_115 rfl (Or.inl rfl))
    · refine Sg.go (pc' := 108) (mi_icmple_f (tgt := 114) dX5_readNumber_105 (by decide) h2) ?_
      refine Sg.go (pc' := 109) (mi_aload_n dX5_readNumber_108 rfl) ?_
      refine Sg.go (pc' := 110) (mi_iconst (z := 2) dX5_readNumber_109 rfl) ?_
      refine Sg.go (pc' := 111) (mi_iload_n dX5_readNumber_110 rfl) ?_
      refine Sg.callV (pc' := 114) (μ' := m_X5_fail) (args := [(11, v0), (0, 2), (0, v2)]) (mi_invV (n := 2) (r := 9) dX5_readNumber_111 hC_9 (by omega) rfl rfl wN_X5_fail rfl ⟨by decide, by decide⟩ wL_X5_44 wI_X5_fail wS_X5_fail wB_X5 wC_X5_fail) (fun v hv => C_X5_fail hL v0 2 v2 D (by omega) v hv) (Nat.le_of_ble_eq_true rfl) rfl rfl (fun D3 => ?_)
      refine Sg.go (pc' := 115) (mi_iload_n dX5_readNumber_114 rfl) ?_
      exact Sg.ret (mi_ireturn dX5_readNumber_115 rfl (Or.inl rfl))
  · refine Sg.go (pc' := 94) (mi_icmpne_f (tgt := 103) dX5_readNumber_91 (by decide) h1) ?_
    refine Sg.go (pc' := 95) (mi_aload_n dX5_readNumber_94 rfl) ?_
    refine Sg.go (pc' := 96) (mi_iconst (z := 1) dX5_readNumber_95 rfl) ?_
    refine Sg.go (pc' := 97) (mi_iload_n dX5_readNumber_96 rfl) ?_
    refine Sg.callV (pc' := 100) (μ' := m_X5_fail) (args := [(11, v0), (0, 1), (0, v2)]) (mi_invV (n := 2) (r := 9) dX5_readNumber_97 hC_9 (by omega) rfl rfl wN_X5_fail rfl ⟨by decide, by decide⟩ wL_X5_44 wI_X5_fail wS_X5_fail wB_X5 wC_X5_fail) (fun v hv => C_X5_fail hL v0 1 v2 D (by omega) v hv) (Nat.le_of_ble_eq_true rfl) rfl rfl (fun D4 => ?_)
    refine Sg.go (pc' := 114) (mi_goto (tgt := 114) dX5_readNumber_100 (by decide)) ?_
    refine Sg.go (pc' := 115) (mi_iload_n dX5_readNumber_114 rfl) ?_
    exact Sg.ret (mi_ireturn dX5_readNumber_115 rfl (Or.inl rfl))
def B_X5_readNumber_11 (Z : MiZ) : Nat → Int → Int → Int → Int → MiD → Option (Int × MiD)
  | 0, _, _, _, _, _ => none
  | f + 1, v0, v1, v2, v3, D => if (D 9 v0 1) ≤ (D 9 v0 2) then (B_X5_readNumber_86 Z v0 v1 v2 v3 D) else (if 0 ≤ (Z.1 9 v0 0) ∧ (Z.1 9 v0 0) < 1 then (if 0 ≤ (D 9 v0 2) ∧ (D 9 v0 2) < 500 then (if (D 10 (Z.1 9 v0 0) (D 9 v0 2)) < 48 then (B_X5_readNumber_86 Z v0 v1 v2 v3 D) else (if 57 < (D 10 (Z.1 9 v0 0) (D 9 v0 2)) then (B_X5_readNumber_86 Z v0 v1 v2 v3 D) else (mi_let (mi_min (mi_w ((mi_w ((mi_w (v3 * 10)) + (D 10 (Z.1 9 v0 0) (D 9 v0 2)))) - 48)) 100000) fun x6 => mi_let (mi_st D 9 v0 2 (mi_w ((D 9 v0 2) + 1))) fun D7 => B_X5_readNumber_11 Z f v0 v1 v2 x6 D7))) else none) else none)
set_option maxRecDepth 20000 in
theorem S_X5_readNumber_11 {Z : MiZ} (hL : CL Z) : ∀ (f : Nat) (v0 v1 v2 v3 : Int) (D : MiD), 0 ≤ v0 → Sg m_X5_readNumber 11 [(11, v0), (0, v1), (0, v2), (0, v3)] [] (D, Z) (mi_LD 0 Z) (B_X5_readNumber_11 Z f v0 v1 v2 v3 D) := by
  intro f
  induction f with
  | zero => intros; exact Sg.nope
  | succ f K11 =>
    intro v0 v1 v2 v3 D hb0
    show Sg m_X5_readNumber 11 [(11, v0), (0, v1), (0, v2), (0, v3)] [] (D, Z) (mi_LD 0 Z) (if (D 9 v0 1) ≤ (D 9 v0 2) then (B_X5_readNumber_86 Z v0 v1 v2 v3 D) else (if 0 ≤ (Z.1 9 v0 0) ∧ (Z.1 9 v0 0) < 1 then (if 0 ≤ (D 9 v0 2) ∧ (D 9 v0 2) < 500 then (if (D 10 (Z.1 9 v0 0) (D 9 v0 2)) < 48 then (B_X5_readNumber_86 Z v0 v1 v2 v3 D) else (if 57 < (D 10 (Z.1 9 v0 0) (D 9 v0 2)) then (B_X5_readNumber_86 Z v0 v1 v2 v3 D) else (mi_let (mi_min (mi_w ((mi_w ((mi_w (v3 * 10)) + (D 10 (Z.1 9 v0 0) (D 9 v0 2)))) - 48)) 100000) fun x6 => mi_let (mi_st D 9 v0 2 (mi_w ((D 9 v0 2) + 1))) fun D7 => B_X5_readNumber_11 Z f v0 v1 v2 x6 D7))) else none) else none))
    refine Sg.go (pc' := 12) (mi_aload_n dX5_readNumber_11 rfl) ?_
    refine Sg.go (pc' := 15) (mi_gfI (r := 9) (k := 2) dX5_readNumber_12 hC_9 (by decide) rfl wF_X5_39 (by omega) rfl) ?_
    refine Sg.go (pc' := 16) (mi_aload_n dX5_readNumber_15 rfl) ?_
    refine Sg.go (pc' := 19) (mi_gfI (r := 9) (k := 1) dX5_readNumber_16 hC_9 (by decide) rfl wF_X5_19 (by omega) rfl) ?_
    refine Sg.ite (fun h1 => ?_) (fun h1 => ?_)
    · refine Sg.go (pc' := 86) (mi_icmpge_t (tgt := 86) dX5_readNumber_19 (by decide) h1) ?_
      exact S_X5_readNumber_86 hL v0 v1 v2 v3 D hb0
    · refine Sg.go (pc' := 22) (mi_icmpge_f (tgt := 86) dX5_readNumber_19 (by decide) h1) ?_
      refine Sg.go (pc' := 23) (mi_aload_n dX5_readNumber_22 rfl) ?_
      refine Sg.go (pc' := 26) (mi_gfA (t := 10) (v := (Z.1 9 v0 0)) (r := 9) (k := 0) dX5_readNumber_23 hC_9 (by decide) rfl wF_X5_15 (by omega) rfl rfl) ?_
      refine Sg.go (pc' := 27) (mi_aload_n dX5_readNumber_26 rfl) ?_
      refine Sg.go (pc' := 30) (mi_gfI (r := 9) (k := 2) dX5_readNumber_27 hC_9 (by decide) rfl wF_X5_39 (by omega) rfl) ?_
      refine Sg.ck (fun hk2 => ?_)
      refine Sg.ck (fun hk3 => ?_)
      refine Sg.go (pc' := 31) (mi_bald (n := 500) dX5_readNumber_30 rfl rfl (by omega) hk3) ?_
      refine Sg.go (pc' := 33) (mi_bipush (z := 48) dX5_readNumber_31 rfl) ?_
      refine Sg.ite (fun h4 => ?_) (fun h4 => ?_)
      · refine Sg.go (pc' := 86) (mi_icmplt_t (tgt := 86) dX5_readNumber_33 (by decide) h4) ?_
        exact S_X5_readNumber_86 hL v0 v1 v2 v3 D hb0
      · refine Sg.go (pc' := 36) (mi_icmplt_f (tgt := 86) dX5_readNumber_33 (by decide) h4) ?_
        refine Sg.go (pc' := 37) (mi_aload_n dX5_readNumber_36 rfl) ?_
        refine Sg.go (pc' := 40) (mi_gfA (t := 10) (v := (Z.1 9 v0 0)) (r := 9) (k := 0) dX5_readNumber_37 hC_9 (by decide) rfl wF_X5_15 (by omega) rfl rfl) ?_
        refine Sg.go (pc' := 41) (mi_aload_n dX5_readNumber_40 rfl) ?_
        refine Sg.go (pc' := 44) (mi_gfI (r := 9) (k := 2) dX5_readNumber_41 hC_9 (by decide) rfl wF_X5_39 (by omega) rfl) ?_
        refine Sg.go (pc' := 45) (mi_bald (n := 500) dX5_readNumber_44 rfl rfl (by omega) hk3) ?_
        refine Sg.go (pc' := 47) (mi_bipush (z := 57) dX5_readNumber_45 rfl) ?_
        refine Sg.ite (fun h5 => ?_) (fun h5 => ?_)
        · refine Sg.go (pc' := 86) (mi_icmpgt_t (tgt := 86) dX5_readNumber_47 (by decide) h5) ?_
          exact S_X5_readNumber_86 hL v0 v1 v2 v3 D hb0
        · refine Sg.go (pc' := 50) (mi_icmpgt_f (tgt := 86) dX5_readNumber_47 (by decide) h5) ?_
          refine Sg.go (pc' := 51) (mi_iload_n dX5_readNumber_50 rfl) ?_
          refine Sg.go (pc' := 53) (mi_bipush (z := 10) dX5_readNumber_51 rfl) ?_
          refine Sg.go (pc' := 54) (mi_imul dX5_readNumber_53) ?_
          refine Sg.go (pc' := 55) (mi_aload_n dX5_readNumber_54 rfl) ?_
          refine Sg.go (pc' := 58) (mi_gfA (t := 10) (v := (Z.1 9 v0 0)) (r := 9) (k := 0) dX5_readNumber_55 hC_9 (by decide) rfl wF_X5_15 (by omega) rfl rfl) ?_
          refine Sg.go (pc' := 59) (mi_aload_n dX5_readNumber_58 rfl) ?_
          refine Sg.go (pc' := 62) (mi_gfI (r := 9) (k := 2) dX5_readNumber_59 hC_9 (by decide) rfl wF_X5_39 (by omega) rfl) ?_
          refine Sg.go (pc' := 63) (mi_bald (n := 500) dX5_readNumber_62 rfl rfl (by omega) hk3) ?_
          refine Sg.go (pc' := 64) (mi_iadd dX5_readNumber_63) ?_
          refine Sg.go (pc' := 66) (mi_bipush (z := 48) dX5_readNumber_64 rfl) ?_
          refine Sg.go (pc' := 67) (mi_isub dX5_readNumber_66) ?_
          refine Sg.go (pc' := 69) (mi_ldc (z := 100000) dX5_readNumber_67 wK_X5_150 rfl) ?_
          refine Sg.goB (pc' := 72) (mi_minS dX5_readNumber_69 wL_X5_151 wT_min wB_Math wC_min (by decide) (Nat.le_of_ble_eq_true rfl)) ?_
          refine Sg.letI (fun x6 hx6 => ?_)
          refine Sg.go (pc' := 73) (mi_istore_n (ls1 := [(11, v0), (0, v1), (0, v2), (0, x6)]) dX5_readNumber_72 (by decide) rfl) ?_
          refine Sg.go (pc' := 74) (mi_aload_n dX5_readNumber_73 rfl) ?_
          refine Sg.go (pc' := 75) (mi_dup dX5_readNumber_74 (show (11 : Nat) ≠ 1 by decide)) ?_
          refine Sg.go (pc' := 78) (mi_gfI (r := 9) (k := 2) dX5_readNumber_75 hC_9 (by decide) rfl wF_X5_39 (by omega) rfl) ?_
          refine Sg.go (pc' := 79) (mi_iconst (z := 1) dX5_readNumber_78 rfl) ?_
          refine Sg.go (pc' := 80) (mi_iadd dX5_readNumber_79) ?_
          refine Sg.goM (pc' := 83) (mi_pfD (r := 9) (k := 2) (t := 0) dX5_readNumber_80 hC_9 (by decide) rfl rfl wF_X5_39 (by omega) rfl (by decide) (Or.inl ⟨rfl, rfl⟩)) ?_
          refine Sg.letD (fun D7 hD7 => ?_)
          refine Sg.go (pc' := 11) (mi_goto (tgt := 11) dX5_readNumber_83 (by decide)) ?_
          exact K11 v0 v1 v2 x6 D7 hb0
def B_X5_readNumber (Z : MiZ) (v0 : Int) (v1 : Int) (D : MiD) : Option (Int × MiD) := mi_bi (B_X5_skipBlanks_0 Z mi_fuel v0 D) fun D1 => B_X5_readNumber_11 Z mi_fuel v0 v1 (D1 9 v0 2) 0 D1
set_option maxRecDepth 20000 in
theorem S_X5_readNumber {Z : MiZ} (hL : CL Z) (v0 v1 : Int) (D : MiD) : 0 ≤ v0 → Sg m_X5_readNumber 0 [(11, v0), (0, v1), mi_un, mi_un] [] (D, Z) (mi_LD 0 Z) (B_X5_readNumber Z v0 v1 D) := by
  intro hb0
  unfold B_X5_readNumber
  refine Sg.go (pc' := 1) (mi_aload_n dX5_readNumber_0 rfl) ?_
  refine Sg.callV (pc' := 4) (μ' := m_X5_skipBlanks) (args := [(11, v0)]) (mi_invV (n := 0) (r := 9) dX5_readNumber_1 hC_9 (by omega) rfl rfl wN_X5_skipBlanks rfl ⟨by decide, by decide⟩ wL_X5_36 wI_X5_skipBlanks wS_X5_skipBlanks wB_X5 wC_X5_skipBlanks) (fun v hv => C_X5_skipBlanks hL v0 D (by omega) v hv) (Nat.le_of_ble_eq_true rfl) rfl rfl (fun D1 => ?_)
  refine Sg.go (pc' := 5) (mi_aload_n dX5_readNumber_4 rfl) ?_
  refine Sg.go (pc' := 8) (mi_gfI (r := 9) (k := 2) dX5_readNumber_5 hC_9 (by decide) rfl wF_X5_39 (by omega) rfl) ?_
  refine Sg.go (pc' := 9) (mi_istore_n (ls1 := [(11, v0), (0, v1), (0, (D1 9 v0 2)), mi_un]) dX5_readNumber_8 (by decide) rfl) ?_
  refine Sg.go (pc' := 10) (mi_iconst (z := 0) dX5_readNumber_9 rfl) ?_
  refine Sg.go (pc' := 11) (mi_istore_n (ls1 := [(11, v0), (0, v1), (0, (D1 9 v0 2)), (0, 0)]) dX5_readNumber_10 (by decide) rfl) ?_
  exact S_X5_readNumber_11 hL mi_fuel v0 v1 (D1 9 v0 2) 0 D1 hb0
theorem C_X5_readNumber {Z : MiZ} (hL : CL Z) (a0 a1 : Int) (D : MiD) (h0 : 0 ≤ a0) (b : Int × MiD) (hb : B_X5_readNumber Z a0 a1 D = some b) : MC m_X5_readNumber [(11, a0), (0, a1)] (D, Z) ((mi_LD 0 Z) b) := MC.ofSg (L := (mi_LD 0 Z)) (μ := m_X5_readNumber) (args := [(11, a0), (0, a1)]) (M := (D, Z)) rfl wP_X5 (Nat.le_of_ble_eq_true rfl) (show Sg m_X5_readNumber 0 [(11, a0), (0, a1), mi_un, mi_un] [] (D, Z) (mi_LD 0 Z) (B_X5_readNumber Z a0 a1 D) from S_X5_readNumber hL a0 a1 D h0) hb
abbrev m_X5_readText : MiI := (yX5_readText, cX5_readText, 3, (some .int), 2, none)
def B_X5_readText_28 (Z : MiZ) (v0 : Int) (D : MiD) : Option (Int × MiD) := mi_bi (B_X5_fail v0 1 (D 9 v0 2) D) fun D1 => some (0, D1)
set_option maxRecDepth 20000 in
theorem S_X5_readText_28 {Z : MiZ} (hL : CL Z) (v0 : Int) (D : MiD) : 0 ≤ v0 → Sg m_X5_readText 28 [(11, v0), mi_un, mi_un] [] (D, Z) (mi_LD 0 Z) (B_X5_readText_28 Z v0 D) := by
  intro hb0
  unfold B_X5_readText_28
  refine Sg.go (pc' := 29) (mi_aload_n dX5_readText_28 rfl) ?_
  refine Sg.go (pc' := 30) (mi_iconst (z := 1) dX5_readText_29 rfl) ?_
  refine Sg.go (pc' := 31) (mi_aload_n dX5_readText_30 rfl) ?_
  refine Sg.go (pc' := 34) (mi_gfI (r := 9) (k := 2) dX5_readText_31 hC_9 (by decide) rfl wF_X5_39 (by omega) rfl) ?_
  refine Sg.callV (pc' := 37) (μ' := m_X5_fail) (args := [(11, v0), (0, 1), (0, (D 9 v0 2))]) (mi_invV (n := 2) (r := 9) dX5_readText_34 hC_9 (by omega) rfl rfl wN_X5_fail rfl ⟨by decide, by decide⟩ wL_X5_44 wI_X5_fail wS_X5_fail wB_X5 wC_X5_fail) (fun v hv => C_X5_fail hL v0 1 (D 9 v0 2) D (by omega) v hv) (Nat.le_of_ble_eq_true rfl) rfl rfl (fun D1 => ?_)
  refine Sg.go (pc' := 38) (mi_iconst (z := 0) dX5_readText_37 rfl) ?_
  exact Sg.ret (mi_ireturn dX5_readText_38 rfl (Or.inl rfl))
def B_X5_readText_41 (Z : MiZ) : Nat → Int → Int → Int → MiD → Option (Int × MiD)
  | 0, _, _, _, _ => none
  | f + 1, v0, v1, v2, D => if v1 ≤ (D 9 v0 2) then (some (v2, D)) else (if 0 ≤ (Z.1 9 v0 0) ∧ (Z.1 9 v0 0) < 1 then (if 0 ≤ (D 9 v0 2) ∧ (D 9 v0 2) < 500 then (mi_let (mi_w ((mi_w ((mi_w ((mi_w (v2 * 27)) + (D 10 (Z.1 9 v0 0) (D 9 v0 2)))) - 97)) + 1)) fun x4 => mi_let (mi_st D 9 v0 2 (mi_w ((D 9 v0 2) + 1))) fun D5 => B_X5_readText_41 Z f v0 v1 x4 D5) else none) else none)
set_option maxRecDepth 20000 in
theorem S_X5_readText_41 {Z : MiZ} (hL : CL Z) : ∀ (f : Nat) (v0 v1 v2 : Int) (D : MiD), 0 ≤ v0 → Sg m_X5_readText 41 [(11, v0), (0, v1), (0, v2)] [] (D, Z) (mi_LD 0 Z) (B_X5_readText_41 Z f v0 v1 v2 D) := by
  intro f
  induction f with
  | zero => intros; exact Sg.nope
  | succ f K41 =>
    intro v0 v1 v2 D hb0
    show Sg m_X5_readText 41 [(11, v0), (0, v1), (0, v2)] [] (D, Z) (mi_LD 0 Z) (if v1 ≤ (D 9 v0 2) then (some (v2, D)) else (if 0 ≤ (Z.1 9 v0 0) ∧ (Z.1 9 v0 0) < 1 then (if 0 ≤ (D 9 v0 2) ∧ (D 9 v0 2) < 500 then (mi_let (mi_w ((mi_w ((mi_w ((mi_w (v2 * 27)) + (D 10 (Z.1 9 v0 0) (D 9 v0 2)))) - 97)) + 1)) fun x4 => mi_let (mi_st D 9 v0 2 (mi_w ((D 9 v0 2) + 1))) fun D5 => B_X5_readText_41 Z f v0 v1 x4 D5) else none) else none))
    refine Sg.go (pc' := 42) (mi_aload_n dX5_readText_41 rfl) ?_
    refine Sg.go (pc' := 45) (mi_gfI (r := 9) (k := 2) dX5_readText_42 hC_9 (by decide) rfl wF_X5_39 (by omega) rfl) ?_
    refine Sg.go (pc' := 46) (mi_iload_n dX5_readText_45 rfl) ?_
    refine Sg.ite (fun h1 => ?_) (fun h1 => ?_)
    · refine Sg.go (pc' := 82) (mi_icmpge_t (tgt := 82) dX5_readText_46 (by decide) h1) ?_
      refine Sg.go (pc' := 83) (mi_iload_n dX5_readText_82 rfl) ?_
      exact Sg.ret (mi_ireturn dX5_readText_83 rfl (Or.inl rfl))
    · refine Sg.go (pc' := 49) (mi_icmpge_f (tgt := 82) dX5_readText_46 (by decide) h1) ?_
      refine Sg.go (pc' := 50) (mi_iload_n dX5_readText_49 rfl) ?_
      refine Sg.go (pc' := 52) (mi_bipush (z := 27) dX5_readText_50 rfl) ?_
      refine Sg.go (pc' := 53) (mi_imul dX5_readText_52) ?_
      refine Sg.go (pc' := 54) (mi_aload_n dX5_readText_53 rfl) ?_
      refine Sg.go (pc' := 57) (mi_gfA (t := 10) (v := (Z.1 9 v0 0)) (r := 9) (k := 0) dX5_readText_54 hC_9 (by decide) rfl wF_X5_15 (by omega) rfl rfl) ?_
      refine Sg.go (pc' := 58) (mi_aload_n dX5_readText_57 rfl) ?_
      refine Sg.go (pc' := 61) (mi_gfI (r := 9) (k := 2) dX5_readText_58 hC_9 (by decide) rfl wF_X5_39 (by omega) rfl) ?_
      refine Sg.ck (fun hk2 => ?_)
      refine Sg.ck (fun hk3 => ?_)
      refine Sg.go (pc' := 62) (mi_bald (n := 500) dX5_readText_61 rfl rfl (by omega) hk3) ?_
      refine Sg.go (pc' := 63) (mi_iadd dX5_readText_62) ?_
      refine Sg.go (pc' := 65) (mi_bipush (z := 97) dX5_readText_63 rfl) ?_
      refine Sg.go (pc' := 66) (mi_isub dX5_readText_65) ?_
      refine Sg.go (pc' := 67) (mi_iconst (z := 1) dX5_readText_66 rfl) ?_
      refine Sg.go (pc' := 68) (mi_iadd dX5_readText_67) ?_
      refine Sg.letI (fun x4 hx4 => ?_)
      refine Sg.go (pc' := 69) (mi_istore_n (ls1 := [(11, v0), (0, v1), (0, x4)]) dX5_readText_68 (by decide) rfl) ?_
      refine Sg.go (pc' := 70) (mi_aload_n dX5_readText_69 rfl) ?_
      refine Sg.go (pc' := 71) (mi_dup dX5_readText_70 (show (11 : Nat) ≠ 1 by decide)) ?_
      refine Sg.go (pc' := 74) (mi_gfI (r := 9) (k := 2) dX5_readText_71 hC_9 (by decide) rfl wF_X5_39 (by omega) rfl) ?_
      refine Sg.go (pc' := 75) (mi_iconst (z := 1) dX5_readText_74 rfl) ?_
      refine Sg.go (pc' := 76) (mi_iadd dX5_readText_75) ?_
      refine Sg.goM (pc' := 79) (mi_pfD (r := 9) (k := 2) (t := 0) dX5_readText_76 hC_9 (by decide) rfl rfl wF_X5_39 (by omega) rfl (by decide) (Or.inl ⟨rfl, rfl⟩)) ?_
      refine Sg.letD (fun D5 hD5 => ?_)
      refine Sg.go (pc' := 41) (mi_goto (tgt := 41) dX5_readText_79 (by decide)) ?_
      exact K41 v0 v1 x4 D5 hb0
def B_X5_readText (Z : MiZ) (v0 : Int) (D : MiD) : Option (Int × MiD) := mi_bi (B_X5_skipBlanks_0 Z mi_fuel v0 D) fun D1 => mi_bi (B_X5_wordEnd D1 Z v0) fun y2 => if y2 = (D1 9 v0 2) then (B_X5_readText_28 Z v0 D1) else (if (mi_w (y2 - (D1 9 v0 2))) ≤ 6 then (B_X5_readText_41 Z mi_fuel v0 y2 0 D1) else (B_X5_readText_28 Z v0 D1))
set_option maxRecDepth 20000 in
theorem S_X5_readText {Z : MiZ} (hL : CL Z) (v0 : Int) (D : MiD) : 0 ≤ v0 → Sg m_X5_readText 0 [(11, v0), mi_un, mi_un] [] (D, Z) (mi_LD 0 Z) (B_X5_readText Z v0 D) := by
  intro hb0
  unfold B_X5_readText
  refine Sg.go (pc' := 1) (mi_aload_n dX5_readText_0 rfl) ?_
  refine Sg.callV (pc' := 4) (μ' := m_X5_skipBlanks) (args := [(11, v0)]) (mi_invV (n := 0) (r := 9) dX5_readText_1 hC_9 (by omega) rfl rfl wN_X5_skipBlanks rfl ⟨by decide, by decide⟩ wL_X5_36 wI_X5_skipBlanks wS_X5_skipBlanks wB_X5 wC_X5_skipBlanks) (fun v hv => C_X5_skipBlanks hL v0 D (by omega) v hv) (Nat.le_of_ble_eq_true rfl) rfl rfl (fun D1 => ?_)
  refine Sg.go (pc' := 5) (mi_aload_n dX5_readText_4 rfl) ?_
  refine Sg.callI (pc' := 8) (t := 0) (μ' := m_X5_wordEnd) (args := [(11, v0)]) (mi_invV (n := 0) (r := 9) dX5_readText_5 hC_9 (by omega) rfl rfl wN_X5_wordEnd rfl ⟨by decide, by decide⟩ wL_X5_157 wI_X5_wordEnd wS_X5_wordEnd wB_X5 wC_X5_wordEnd) (fun v hv => C_X5_wordEnd hL v0 D1 (by omega) v hv) (Nat.le_of_ble_eq_true rfl) rfl rfl (fun y2 => ?_)
  refine Sg.go (pc' := 9) (mi_istore_n (ls1 := [(11, v0), (0, y2), mi_un]) dX5_readText_8 (by decide) rfl) ?_
  refine Sg.go (pc' := 10) (mi_iload_n dX5_readText_9 rfl) ?_
  refine Sg.go (pc' := 11) (mi_aload_n dX5_readText_10 rfl) ?_
  refine Sg.go (pc' := 14) (mi_gfI (r := 9) (k := 2) dX5_readText_11 hC_9 (by decide) rfl wF_X5_39 (by omega) rfl) ?_
  refine Sg.ite (fun h3 => ?_) (fun h3 => ?_)
  · refine Sg.go (pc' := 28) (mi_icmpeq_t (tgt := 28) dX5_readText_14 (by decide) h3) ?_
    refine Sg.go (pc' := 28) (MiStep.weak (ls' := [(11, v0), mi_un, mi_un]) (mi_wk_y (mi_wk_n (mi_wk_y mi_wk_0)))) ?_
    exact S_X5_readText_28 hL v0 D1 hb0
  · refine Sg.go (pc' := 17) (mi_icmpeq_f (tgt := 28) dX5_readText_14 (by decide) h3) ?_
    refine Sg.go (pc' := 18) (mi_iload_n dX5_readText_17 rfl) ?_
    refine Sg.go (pc' := 19) (mi_aload_n dX5_readText_18 rfl) ?_
    refine Sg.go (pc' := 22) (mi_gfI (r := 9) (k := 2) dX5_readText_19 hC_9 (by decide) rfl wF_X5_39 (by omega) rfl) ?_
    refine Sg.go (pc' := 23) (mi_isub dX5_readText_22) ?_
    refine Sg.go (pc' := 25) (mi_bipush (z := 6) dX5_readText_23 rfl) ?_
    refine Sg.ite (fun h4 => ?_) (fun h4 => ?_)
    · refine Sg.go (pc' := 39) (mi_icmple_t (tgt := 39) dX5_readText_25 (by decide) h4) ?_
      refine Sg.go (pc' := 40) (mi_iconst (z := 0) dX5_readText_39 rfl) ?_
      refine Sg.go (pc' := 41) (mi_istore_n (ls1 := [(11, v0), (0, y2), (0, 0)]) dX5_readText_40 (by decide) rfl) ?_
      exact S_X5_readText_41 hL mi_fuel v0 y2 0 D1 hb0
    · refine Sg.go (pc' := 28) (mi_icmple_f (tgt := 39) dX5_readText_25 (by decide) h4) ?_
      refine Sg.go (pc' := 28) (MiStep.weak (ls' := [(11, v0), mi_un, mi_un]) (mi_wk_y (mi_wk_n (mi_wk_y mi_wk_0)))) ?_
      exact S_X5_readText_28 hL v0 D1 hb0
theorem C_X5_readText {Z : MiZ} (hL : CL Z) (a0 : Int) (D : MiD) (h0 : 0 ≤ a0) (b : Int × MiD) (hb : B_X5_readText Z a0 D = some b) : MC m_X5_readText [(11, a0)] (D, Z) ((mi_LD 0 Z) b) := MC.ofSg (L := (mi_LD 0 Z)) (μ := m_X5_readText) (args := [(11, a0)]) (M := (D, Z)) rfl wP_X5 (Nat.le_of_ble_eq_true rfl) (show Sg m_X5_readText 0 [(11, a0), mi_un, mi_un] [] (D, Z) (mi_LD 0 Z) (B_X5_readText Z a0 D) from S_X5_readText hL a0 D h0) hb
abbrev m_X6_alikePlaces : MiI := (yX6_alikePlaces, cX6_alikePlaces, 6, (some .int), 2, none)
def B_X6_alikePlaces_148 (D : MiD) (k4 : Int → Int → Int → Int → Option (Int)) (v0 : Int) (v1 : Int) (v2 : Int) (v3 : Int) (s0 : Int) : Option (Int) := if s0 = 0 then (k4 v0 v1 v2 (mi_w (v3 + 1))) else (k4 v0 v1 (mi_w (v2 + 1)) (mi_w (v3 + 1)))
set_option maxRecDepth 20000 in
theorem S_X6_alikePlaces_148 {D : MiD} {Z : MiZ} (hL : CL Z) {k4 : Int → Int → Int → Int → Option (Int)} (K4 : ∀ (v0 v1 v2 v3 : Int), (0 ≤ v0 ∧ v0 < 120) → (0 ≤ v1 ∧ v1 < 120) → Sg m_X6_alikePlaces 4 [(5, v0), (5, v1), (0, v2), (0, v3), mi_un, mi_un] [] (D, Z) (mi_LI 0 (D, Z)) (k4 v0 v1 v2 v3)) (v0 v1 v2 v3 s0 : Int) : (0 ≤ v0 ∧ v0 < 120) → (0 ≤ v1 ∧ v1 < 120) → Sg m_X6_alikePlaces 148 [(5, v0), (5, v1), (0, v2), (0, v3), mi_un, mi_un] [(0, s0)] (D, Z) (mi_LI 0 (D, Z)) (B_X6_alikePlaces_148 D k4 v0 v1 v2 v3 s0) := by
  intro hb0 hb1
  unfold B_X6_alikePlaces_148
  refine Sg.go (pc' := 150) (mi_istore (ls1 := [(5, v0), (5, v1), (0, v2), (0, v3), mi_un, (0, s0)]) dX6_alikePlaces_148 (by decide) rfl) ?_
  refine Sg.go (pc' := 152) (mi_iload dX6_alikePlaces_150 rfl) ?_
  refine Sg.ite (fun h1 => ?_) (fun h1 => ?_)
  · refine Sg.go (pc' := 158) (mi_ifeq_t (tgt := 158) dX6_alikePlaces_152 (by decide) h1) ?_
    refine Sg.go (pc' := 161) (mi_iinc (z := 1) (ls1 := [(5, v0), (5, v1), (0, v2), (0, (mi_w (v3 + 1))), mi_un, (0, s0)]) dX6_alikePlaces_158 (by decide) rfl rfl rfl) ?_
    refine Sg.go (pc' := 4) (mi_goto (tgt := 4) dX6_alikePlaces_161 (by decide)) ?_
    refine Sg.go (pc' := 4) (MiStep.weak (ls' := [(5, v0), (5, v1), (0, v2), (0, (mi_w (v3 + 1))), mi_un, mi_un]) (mi_wk_y (mi_wk_y (mi_wk_y (mi_wk_y (mi_wk_y (mi_wk_n mi_wk_0))))))) ?_
    exact K4 v0 v1 v2 (mi_w (v3 + 1)) hb0 hb1
  · refine Sg.go (pc' := 155) (mi_ifeq_f (tgt := 158) dX6_alikePlaces_152 (by decide) h1) ?_
    refine Sg.go (pc' := 158) (mi_iinc (z := 1) (ls1 := [(5, v0), (5, v1), (0, (mi_w (v2 + 1))), (0, v3), mi_un, (0, s0)]) dX6_alikePlaces_155 (by decide) rfl rfl rfl) ?_
    refine Sg.go (pc' := 161) (mi_iinc (z := 1) (ls1 := [(5, v0), (5, v1), (0, (mi_w (v2 + 1))), (0, (mi_w (v3 + 1))), mi_un, (0, s0)]) dX6_alikePlaces_158 (by decide) rfl rfl rfl) ?_
    refine Sg.go (pc' := 4) (mi_goto (tgt := 4) dX6_alikePlaces_161 (by decide)) ?_
    refine Sg.go (pc' := 4) (MiStep.weak (ls' := [(5, v0), (5, v1), (0, (mi_w (v2 + 1))), (0, (mi_w (v3 + 1))), mi_un, mi_un]) (mi_wk_y (mi_wk_y (mi_wk_y (mi_wk_y (mi_wk_y (mi_wk_n mi_wk_0))))))) ?_
    exact K4 v0 v1 (mi_w (v2 + 1)) (mi_w (v3 + 1)) hb0 hb1
def B_X6_alikePlaces_147 (D : MiD) (k4 : Int → Int → Int → Int → Option (Int)) (v0 : Int) (v1 : Int) (v2 : Int) (v3 : Int) : Option (Int) := B_X6_alikePlaces_148 D k4 v0 v1 v2 v3 0
set_option maxRecDepth 20000 in
theorem S_X6_alikePlaces_147 {D : MiD} {Z : MiZ} (hL : CL Z) {k4 : Int → Int → Int → Int → Option (Int)} (K4 : ∀ (v0 v1 v2 v3 : Int), (0 ≤ v0 ∧ v0 < 120) → (0 ≤ v1 ∧ v1 < 120) → Sg m_X6_alikePlaces 4 [(5, v0), (5, v1), (0, v2), (0, v3), mi_un, mi_un] [] (D, Z) (mi_LI 0 (D, Z)) (k4 v0 v1 v2 v3)) (v0 v1 v2 v3 : Int) : (0 ≤ v0 ∧ v0 < 120) → (0 ≤ v1 ∧ v1 < 120) → Sg m_X6_alikePlaces 147 [(5, v0), (5, v1), (0, v2), (0, v3), mi_un, mi_un] [] (D, Z) (mi_LI 0 (D, Z)) (B_X6_alikePlaces_147 D k4 v0 v1 v2 v3) := by
  intro hb0 hb1
  unfold B_X6_alikePlaces_147
  refine Sg.go (pc' := 148) (mi_iconst (z := 0) dX6_alikePlaces_147 rfl) ?_
  exact S_X6_alikePlaces_148 hL K4 v0 v1 v2 v3 0 hb0 hb1
def B_X6_alikePlaces_59 (D : MiD) (k4 : Int → Int → Int → Int → Option (Int)) (v0 : Int) (v1 : Int) (v2 : Int) (v3 : Int) (s0 : Int) : Option (Int) := if s0 = 0 then (if 0 ≤ v3 ∧ v3 < 9 then (if (D 17 v0 v3) ≠ (D 17 v1 v3) then (B_X6_alikePlaces_147 D k4 v0 v1 v2 v3) else (if (mi_cmp (D 18 v0 v3) (D 18 v1 v3)) ≠ 0 then (B_X6_alikePlaces_147 D k4 v0 v1 v2 v3) else (B_X6_alikePlaces_148 D k4 v0 v1 v2 v3 1))) else none) else (if 0 ≤ v3 ∧ v3 < 9 then (if (mi_cmp (B_X10_widened (D 18 v0 v3) (D 17 v0 v3) 6) (B_X10_widened (D 18 v1 v3) (D 17 v1 v3) 6)) ≠ 0 then (B_X6_alikePlaces_148 D k4 v0 v1 v2 v3 0) else (B_X6_alikePlaces_148 D k4 v0 v1 v2 v3 1)) else none)
set_option maxRecDepth 20000 in
theorem S_X6_alikePlaces_59 {D : MiD} {Z : MiZ} (hL : CL Z) {k4 : Int → Int → Int → Int → Option (Int)} (K4 : ∀ (v0 v1 v2 v3 : Int), (0 ≤ v0 ∧ v0 < 120) → (0 ≤ v1 ∧ v1 < 120) → Sg m_X6_alikePlaces 4 [(5, v0), (5, v1), (0, v2), (0, v3), mi_un, mi_un] [] (D, Z) (mi_LI 0 (D, Z)) (k4 v0 v1 v2 v3)) (v0 v1 v2 v3 s0 : Int) : (0 ≤ v0 ∧ v0 < 120) → (0 ≤ v1 ∧ v1 < 120) → Sg m_X6_alikePlaces 59 [(5, v0), (5, v1), (0, v2), (0, v3), mi_un, mi_un] [(0, s0)] (D, Z) (mi_LI 0 (D, Z)) (B_X6_alikePlaces_59 D k4 v0 v1 v2 v3 s0) := by
  intro hb0 hb1
  unfold B_X6_alikePlaces_59
  refine Sg.go (pc' := 61) (mi_istore (ls1 := [(5, v0), (5, v1), (0, v2), (0, v3), (0, s0), mi_un]) dX6_alikePlaces_59 (by decide) rfl) ?_
  refine Sg.go (pc' := 63) (mi_iload dX6_alikePlaces_61 rfl) ?_
  refine Sg.ite (fun h1 => ?_) (fun h1 => ?_)
  · refine Sg.go (pc' := 112) (mi_ifeq_t (tgt := 112) dX6_alikePlaces_63 (by decide) h1) ?_
    refine Sg.go (pc' := 113) (mi_aload_n dX6_alikePlaces_112 rfl) ?_
    refine Sg.go (pc' := 116) (mi_gfA (t := 17) (v := v0) (r := 3) (k := 2) dX6_alikePlaces_113 hC_3 (by decide) rfl wF_X6_15 (by omega) rfl (hL.2.2.2.1 _ 2 (by omega) (by omega) (by decide) (by decide))) ?_
    refine Sg.go (pc' := 117) (mi_iload_n dX6_alikePlaces_116 rfl) ?_
    refine Sg.ck (fun hk2 => ?_)
    refine Sg.go (pc' := 118) (mi_iald (n := 9) dX6_alikePlaces_117 rfl rfl (by omega) hk2) ?_
    refine Sg.go (pc' := 119) (mi_aload_n dX6_alikePlaces_118 rfl) ?_
    refine Sg.go (pc' := 122) (mi_gfA (t := 17) (v := v1) (r := 3) (k := 2) dX6_alikePlaces_119 hC_3 (by decide) rfl wF_X6_15 (by omega) rfl (hL.2.2.2.1 _ 2 (by omega) (by omega) (by decide) (by decide))) ?_
    refine Sg.go (pc' := 123) (mi_iload_n dX6_alikePlaces_122 rfl) ?_
    refine Sg.go (pc' := 124) (mi_iald (n := 9) dX6_alikePlaces_123 rfl rfl (by omega) hk2) ?_
    refine Sg.ite (fun h3 => ?_) (fun h3 => ?_)
    · refine Sg.go (pc' := 147) (mi_icmpne_t (tgt := 147) dX6_alikePlaces_124 (by decide) h3) ?_
      refine Sg.go (pc' := 147) (MiStep.weak (ls' := [(5, v0), (5, v1), (0, v2), (0, v3), mi_un, mi_un]) (mi_wk_y (mi_wk_y (mi_wk_y (mi_wk_y (mi_wk_n (mi_wk_y mi_wk_0))))))) ?_
      exact S_X6_alikePlaces_147 hL K4 v0 v1 v2 v3 hb0 hb1
    · refine Sg.go (pc' := 127) (mi_icmpne_f (tgt := 147) dX6_alikePlaces_124 (by decide) h3) ?_
      refine Sg.go (pc' := 128) (mi_aload_n dX6_alikePlaces_127 rfl) ?_
      refine Sg.go (pc' := 131) (mi_gfA (t := 18) (v := v0) (r := 3) (k := 3) dX6_alikePlaces_128 hC_3 (by decide) rfl wF_X6_19 (by omega) rfl (hL.2.2.2.1 _ 3 (by omega) (by omega) (by decide) (by decide))) ?_
      refine Sg.go (pc' := 132) (mi_iload_n dX6_alikePlaces_131 rfl) ?_
      refine Sg.go (pc' := 133) (mi_lald (n := 9) dX6_alikePlaces_132 rfl rfl (by omega) hk2) ?_
      refine Sg.go (pc' := 134) (mi_aload_n dX6_alikePlaces_133 rfl) ?_
      refine Sg.go (pc' := 137) (mi_gfA (t := 18) (v := v1) (r := 3) (k := 3) dX6_alikePlaces_134 hC_3 (by decide) rfl wF_X6_19 (by omega) rfl (hL.2.2.2.1 _ 3 (by omega) (by omega) (by decide) (by decide))) ?_
      refine Sg.go (pc' := 138) (mi_iload_n dX6_alikePlaces_137 rfl) ?_
      refine Sg.go (pc' := 139) (mi_lald (n := 9) dX6_alikePlaces_138 rfl rfl (by omega) hk2) ?_
      refine Sg.go (pc' := 140) (mi_lcmp dX6_alikePlaces_139) ?_
      refine Sg.ite (fun h4 => ?_) (fun h4 => ?_)
      · refine Sg.go (pc' := 147) (mi_ifne_t (tgt := 147) dX6_alikePlaces_140 (by decide) h4) ?_
        refine Sg.go (pc' := 147) (MiStep.weak (ls' := [(5, v0), (5, v1), (0, v2), (0, v3), mi_un, mi_un]) (mi_wk_y (mi_wk_y (mi_wk_y (mi_wk_y (mi_wk_n (mi_wk_y mi_wk_0))))))) ?_
        exact S_X6_alikePlaces_147 hL K4 v0 v1 v2 v3 hb0 hb1
      · refine Sg.go (pc' := 143) (mi_ifne_f (tgt := 147) dX6_alikePlaces_140 (by decide) h4) ?_
        refine Sg.go (pc' := 144) (mi_iconst (z := 1) dX6_alikePlaces_143 rfl) ?_
        refine Sg.go (pc' := 148) (mi_goto (tgt := 148) dX6_alikePlaces_144 (by decide)) ?_
        refine Sg.go (pc' := 148) (MiStep.weak (ls' := [(5, v0), (5, v1), (0, v2), (0, v3), mi_un, mi_un]) (mi_wk_y (mi_wk_y (mi_wk_y (mi_wk_y (mi_wk_n (mi_wk_y mi_wk_0))))))) ?_
        exact S_X6_alikePlaces_148 hL K4 v0 v1 v2 v3 1 hb0 hb1
  · refine Sg.go (pc' := 66) (mi_ifeq_f (tgt := 112) dX6_alikePlaces_63 (by decide) h1) ?_
    refine Sg.go (pc' := 67) (mi_aload_n dX6_alikePlaces_66 rfl) ?_
    refine Sg.go (pc' := 70) (mi_gfA (t := 18) (v := v0) (r := 3) (k := 3) dX6_alikePlaces_67 hC_3 (by decide) rfl wF_X6_19 (by omega) rfl (hL.2.2.2.1 _ 3 (by omega) (by omega) (by decide) (by decide))) ?_
    refine Sg.go (pc' := 71) (mi_iload_n dX6_alikePlaces_70 rfl) ?_
    refine Sg.ck (fun hk5 => ?_)
    refine Sg.go (pc' := 72) (mi_lald (n := 9) dX6_alikePlaces_71 rfl rfl (by omega) hk5) ?_
    refine Sg.go (pc' := 73) (mi_aload_n dX6_alikePlaces_72 rfl) ?_
    refine Sg.go (pc' := 76) (mi_gfA (t := 17) (v := v0) (r := 3) (k := 2) dX6_alikePlaces_73 hC_3 (by decide) rfl wF_X6_15 (by omega) rfl (hL.2.2.2.1 _ 2 (by omega) (by omega) (by decide) (by decide))) ?_
    refine Sg.go (pc' := 77) (mi_iload_n dX6_alikePlaces_76 rfl) ?_
    refine Sg.go (pc' := 78) (mi_iald (n := 9) dX6_alikePlaces_77 rfl rfl (by omega) hk5) ?_
    refine Sg.go (pc' := 80) (mi_bipush (z := 6) dX6_alikePlaces_78 rfl) ?_
    refine Sg.callP (pc' := 83) (t := 1) (v := (B_X10_widened (D 18 v0 v3) (D 17 v0 v3) 6)) (μ' := m_X10_widened) (args := [(1, (D 18 v0 v3)), (0, (D 17 v0 v3)), (0, 6)]) (mi_invSN (n := 3) dX6_alikePlaces_80 rfl wN_X10_widened rfl ⟨by decide, by decide⟩ wL_X6_47 wT_X10_widened wB_X10 wC_X10_widened) (C_X10_widened hL (D 18 v0 v3) (D 17 v0 v3) 6 D) (Nat.le_of_ble_eq_true rfl) rfl rfl ?_
    refine Sg.go (pc' := 84) (mi_aload_n dX6_alikePlaces_83 rfl) ?_
    refine Sg.go (pc' := 87) (mi_gfA (t := 18) (v := v1) (r := 3) (k := 3) dX6_alikePlaces_84 hC_3 (by decide) rfl wF_X6_19 (by omega) rfl (hL.2.2.2.1 _ 3 (by omega) (by omega) (by decide) (by decide))) ?_
    refine Sg.go (pc' := 88) (mi_iload_n dX6_alikePlaces_87 rfl) ?_
    refine Sg.go (pc' := 89) (mi_lald (n := 9) dX6_alikePlaces_88 rfl rfl (by omega) hk5) ?_
    refine Sg.go (pc' := 90) (mi_aload_n dX6_alikePlaces_89 rfl) ?_
    refine Sg.go (pc' := 93) (mi_gfA (t := 17) (v := v1) (r := 3) (k := 2) dX6_alikePlaces_90 hC_3 (by decide) rfl wF_X6_15 (by omega) rfl (hL.2.2.2.1 _ 2 (by omega) (by omega) (by decide) (by decide))) ?_
    refine Sg.go (pc' := 94) (mi_iload_n dX6_alikePlaces_93 rfl) ?_
    refine Sg.go (pc' := 95) (mi_iald (n := 9) dX6_alikePlaces_94 rfl rfl (by omega) hk5) ?_
    refine Sg.go (pc' := 97) (mi_bipush (z := 6) dX6_alikePlaces_95 rfl) ?_
    refine Sg.callP (pc' := 100) (t := 1) (v := (B_X10_widened (D 18 v1 v3) (D 17 v1 v3) 6)) (μ' := m_X10_widened) (args := [(1, (D 18 v1 v3)), (0, (D 17 v1 v3)), (0, 6)]) (mi_invSN (n := 3) dX6_alikePlaces_97 rfl wN_X10_widened rfl ⟨by decide, by decide⟩ wL_X6_47 wT_X10_widened wB_X10 wC_X10_widened) (C_X10_widened hL (D 18 v1 v3) (D 17 v1 v3) 6 D) (Nat.le_of_ble_eq_true rfl) rfl rfl ?_
    refine Sg.go (pc' := 101) (mi_lcmp dX6_alikePlaces_100) ?_
    refine Sg.ite (fun h6 => ?_) (fun h6 => ?_)
    · refine Sg.go (pc' := 108) (mi_ifne_t (tgt := 108) dX6_alikePlaces_101 (by decide) h6) ?_
      refine Sg.go (pc' := 109) (mi_iconst (z := 0) dX6_alikePlaces_108 rfl) ?_
      refine Sg.go (pc' := 148) (mi_goto (tgt := 148) dX6_alikePlaces_109 (by decide)) ?_
      refine Sg.go (pc' := 148) (MiStep.weak (ls' := [(5, v0), (5, v1), (0, v2), (0, v3), mi_un, mi_un]) (mi_wk_y (mi_wk_y (mi_wk_y (mi_wk_y (mi_wk_n (mi_wk_y mi_wk_0))))))) ?_
      exact S_X6_alikePlaces_148 hL K4 v0 v1 v2 v3 0 hb0 hb1
    · refine Sg.go (pc' := 104) (mi_ifne_f (tgt := 108) dX6_alikePlaces_101 (by decide) h6) ?_
      refine Sg.go (pc' := 105) (mi_iconst (z := 1) dX6_alikePlaces_104 rfl) ?_
      refine Sg.go (pc' := 148) (mi_goto (tgt := 148) dX6_alikePlaces_105 (by decide)) ?_
      refine Sg.go (pc' := 148) (MiStep.weak (ls' := [(5, v0), (5, v1), (0, v2), (0, v3), mi_un, mi_un]) (mi_wk_y (mi_wk_y (mi_wk_y (mi_wk_y (mi_wk_n (mi_wk_y mi_wk_0))))))) ?_
      exact S_X6_alikePlaces_148 hL K4 v0 v1 v2 v3 1 hb0 hb1
def B_X6_alikePlaces_58 (D : MiD) (k4 : Int → Int → Int → Int → Option (Int)) (v0 : Int) (v1 : Int) (v2 : Int) (v3 : Int) : Option (Int) := B_X6_alikePlaces_59 D k4 v0 v1 v2 v3 0
set_option maxRecDepth 20000 in
theorem S_X6_alikePlaces_58 {D : MiD} {Z : MiZ} (hL : CL Z) {k4 : Int → Int → Int → Int → Option (Int)} (K4 : ∀ (v0 v1 v2 v3 : Int), (0 ≤ v0 ∧ v0 < 120) → (0 ≤ v1 ∧ v1 < 120) → Sg m_X6_alikePlaces 4 [(5, v0), (5, v1), (0, v2), (0, v3), mi_un, mi_un] [] (D, Z) (mi_LI 0 (D, Z)) (k4 v0 v1 v2 v3)) (v0 v1 v2 v3 : Int) : (0 ≤ v0 ∧ v0 < 120) → (0 ≤ v1 ∧ v1 < 120) → Sg m_X6_alikePlaces 58 [(5, v0), (5, v1), (0, v2), (0, v3), mi_un, mi_un] [] (D, Z) (mi_LI 0 (D, Z)) (B_X6_alikePlaces_58 D k4 v0 v1 v2 v3) := by
  intro hb0 hb1
  unfold B_X6_alikePlaces_58
  refine Sg.go (pc' := 59) (mi_iconst (z := 0) dX6_alikePlaces_58 rfl) ?_
  exact S_X6_alikePlaces_59 hL K4 v0 v1 v2 v3 0 hb0 hb1
def B_X6_alikePlaces_4 (D : MiD) : Nat → Int → Int → Int → Int → Option (Int)
  | 0, _, _, _, _ => none
  | f + 1, v0, v1, v2, v3 => if (D 3 v0 1) ≤ v3 then (some v2) else (if (D 3 v1 1) ≤ v3 then (some v2) else (if 9 ≤ v3 then (some v2) else (if 0 ≤ v3 ∧ v3 < 9 then (if (B_X10_within (D 17 v0 v3) 8) = 0 then (B_X6_alikePlaces_58 D (B_X6_alikePlaces_4 D f) v0 v1 v2 v3) else (if (B_X10_within (D 17 v1 v3) 8) = 0 then (B_X6_alikePlaces_58 D (B_X6_alikePlaces_4 D f) v0 v1 v2 v3) else (B_X6_alikePlaces_59 D (B_X6_alikePlaces_4 D f) v0 v1 v2 v3 1))) else none)))
set_option maxRecDepth 20000 in
theorem S_X6_alikePlaces_4 {D : MiD} {Z : MiZ} (hL : CL Z) : ∀ (f : Nat) (v0 v1 v2 v3 : Int), (0 ≤ v0 ∧ v0 < 120) → (0 ≤ v1 ∧ v1 < 120) → Sg m_X6_alikePlaces 4 [(5, v0), (5, v1), (0, v2), (0, v3), mi_un, mi_un] [] (D, Z) (mi_LI 0 (D, Z)) (B_X6_alikePlaces_4 D f v0 v1 v2 v3) := by
  intro f
  induction f with
  | zero => intros; exact Sg.nope
  | succ f K4 =>
    intro v0 v1 v2 v3 hb0 hb1
    show Sg m_X6_alikePlaces 4 [(5, v0), (5, v1), (0, v2), (0, v3), mi_un, mi_un] [] (D, Z) (mi_LI 0 (D, Z)) (if (D 3 v0 1) ≤ v3 then (some v2) else (if (D 3 v1 1) ≤ v3 then (some v2) else (if 9 ≤ v3 then (some v2) else (if 0 ≤ v3 ∧ v3 < 9 then (if (B_X10_within (D 17 v0 v3) 8) = 0 then (B_X6_alikePlaces_58 D (B_X6_alikePlaces_4 D f) v0 v1 v2 v3) else (if (B_X10_within (D 17 v1 v3) 8) = 0 then (B_X6_alikePlaces_58 D (B_X6_alikePlaces_4 D f) v0 v1 v2 v3) else (B_X6_alikePlaces_59 D (B_X6_alikePlaces_4 D f) v0 v1 v2 v3 1))) else none))))
    refine Sg.go (pc' := 5) (mi_iload_n dX6_alikePlaces_4 rfl) ?_
    refine Sg.go (pc' := 6) (mi_aload_n dX6_alikePlaces_5 rfl) ?_
    refine Sg.go (pc' := 9) (mi_gfI (r := 3) (k := 1) dX6_alikePlaces_6 hC_3 (by decide) rfl wF_X6_23 (by omega) rfl) ?_
    refine Sg.ite (fun h1 => ?_) (fun h1 => ?_)
    · refine Sg.go (pc' := 164) (mi_icmpge_t (tgt := 164) dX6_alikePlaces_9 (by decide) h1) ?_
      refine Sg.go (pc' := 165) (mi_iload_n dX6_alikePlaces_164 rfl) ?_
      exact Sg.ret (mi_ireturn dX6_alikePlaces_165 rfl (Or.inl rfl))
    · refine Sg.go (pc' := 12) (mi_icmpge_f (tgt := 164) dX6_alikePlaces_9 (by decide) h1) ?_
      refine Sg.go (pc' := 13) (mi_iload_n dX6_alikePlaces_12 rfl) ?_
      refine Sg.go (pc' := 14) (mi_aload_n dX6_alikePlaces_13 rfl) ?_
      refine Sg.go (pc' := 17) (mi_gfI (r := 3) (k := 1) dX6_alikePlaces_14 hC_3 (by decide) rfl wF_X6_23 (by omega) rfl) ?_
      refine Sg.ite (fun h2 => ?_) (fun h2 => ?_)
      · refine Sg.go (pc' := 164) (mi_icmpge_t (tgt := 164) dX6_alikePlaces_17 (by decide) h2) ?_
        refine Sg.go (pc' := 165) (mi_iload_n dX6_alikePlaces_164 rfl) ?_
        exact Sg.ret (mi_ireturn dX6_alikePlaces_165 rfl (Or.inl rfl))
      · refine Sg.go (pc' := 20) (mi_icmpge_f (tgt := 164) dX6_alikePlaces_17 (by decide) h2) ?_
        refine Sg.go (pc' := 21) (mi_iload_n dX6_alikePlaces_20 rfl) ?_
        refine Sg.go (pc' := 23) (mi_bipush (z := 9) dX6_alikePlaces_21 rfl) ?_
        refine Sg.ite (fun h3 => ?_) (fun h3 => ?_)
        · refine Sg.go (pc' := 164) (mi_icmpge_t (tgt := 164) dX6_alikePlaces_23 (by decide) h3) ?_
          refine Sg.go (pc' := 165) (mi_iload_n dX6_alikePlaces_164 rfl) ?_
          exact Sg.ret (mi_ireturn dX6_alikePlaces_165 rfl (Or.inl rfl))
        · refine Sg.go (pc' := 26) (mi_icmpge_f (tgt := 164) dX6_alikePlaces_23 (by decide) h3) ?_
          refine Sg.go (pc' := 27) (mi_aload_n dX6_alikePlaces_26 rfl) ?_
          refine Sg.go (pc' := 30) (mi_gfA (t := 17) (v := v0) (r := 3) (k := 2) dX6_alikePlaces_27 hC_3 (by decide) rfl wF_X6_15 (by omega) rfl (hL.2.2.2.1 _ 2 (by omega) (by omega) (by decide) (by decide))) ?_
          refine Sg.go (pc' := 31) (mi_iload_n dX6_alikePlaces_30 rfl) ?_
          refine Sg.ck (fun hk4 => ?_)
          refine Sg.go (pc' := 32) (mi_iald (n := 9) dX6_alikePlaces_31 rfl rfl (by omega) hk4) ?_
          refine Sg.go (pc' := 34) (mi_bipush (z := 8) dX6_alikePlaces_32 rfl) ?_
          refine Sg.callP (pc' := 37) (t := 0) (v := (B_X10_within (D 17 v0 v3) 8)) (μ' := m_X10_within) (args := [(0, (D 17 v0 v3)), (0, 8)]) (mi_invSN (n := 2) dX6_alikePlaces_34 rfl wN_X10_within rfl ⟨by decide, by decide⟩ wL_X6_36 wT_X10_within wB_X10 wC_X10_within) (C_X10_within hL (D 17 v0 v3) 8 D) (Nat.le_of_ble_eq_true rfl) rfl rfl ?_
          refine Sg.ite (fun h5 => ?_) (fun h5 => ?_)
          · refine Sg.go (pc' := 58) (mi_ifeq_t (tgt := 58) dX6_alikePlaces_37 (by decide) h5) ?_
            exact S_X6_alikePlaces_58 hL K4 v0 v1 v2 v3 hb0 hb1
          · refine Sg.go (pc' := 40) (mi_ifeq_f (tgt := 58) dX6_alikePlaces_37 (by decide) h5) ?_
            refine Sg.go (pc' := 41) (mi_aload_n dX6_alikePlaces_40 rfl) ?_
            refine Sg.go (pc' := 44) (mi_gfA (t := 17) (v := v1) (r := 3) (k := 2) dX6_alikePlaces_41 hC_3 (by decide) rfl wF_X6_15 (by omega) rfl (hL.2.2.2.1 _ 2 (by omega) (by omega) (by decide) (by decide))) ?_
            refine Sg.go (pc' := 45) (mi_iload_n dX6_alikePlaces_44 rfl) ?_
            refine Sg.go (pc' := 46) (mi_iald (n := 9) dX6_alikePlaces_45 rfl rfl (by omega) hk4) ?_
            refine Sg.go (pc' := 48) (mi_bipush (z := 8) dX6_alikePlaces_46 rfl) ?_
            refine Sg.callP (pc' := 51) (t := 0) (v := (B_X10_within (D 17 v1 v3) 8)) (μ' := m_X10_within) (args := [(0, (D 17 v1 v3)), (0, 8)]) (mi_invSN (n := 2) dX6_alikePlaces_48 rfl wN_X10_within rfl ⟨by decide, by decide⟩ wL_X6_36 wT_X10_within wB_X10 wC_X10_within) (C_X10_within hL (D 17 v1 v3) 8 D) (Nat.le_of_ble_eq_true rfl) rfl rfl ?_
            refine Sg.ite (fun h6 => ?_) (fun h6 => ?_)
            · refine Sg.go (pc' := 58) (mi_ifeq_t (tgt := 58) dX6_alikePlaces_51 (by decide) h6) ?_
              exact S_X6_alikePlaces_58 hL K4 v0 v1 v2 v3 hb0 hb1
            · refine Sg.go (pc' := 54) (mi_ifeq_f (tgt := 58) dX6_alikePlaces_51 (by decide) h6) ?_
              refine Sg.go (pc' := 55) (mi_iconst (z := 1) dX6_alikePlaces_54 rfl) ?_
              refine Sg.go (pc' := 59) (mi_goto (tgt := 59) dX6_alikePlaces_55 (by decide)) ?_
              exact S_X6_alikePlaces_59 hL K4 v0 v1 v2 v3 1 hb0 hb1
def B_X6_alikePlaces (D : MiD) (v0 : Int) (v1 : Int) : Option (Int) := B_X6_alikePlaces_4 D mi_fuel v0 v1 0 0
set_option maxRecDepth 20000 in
theorem S_X6_alikePlaces {D : MiD} {Z : MiZ} (hL : CL Z) (v0 v1 : Int) : (0 ≤ v0 ∧ v0 < 120) → (0 ≤ v1 ∧ v1 < 120) → Sg m_X6_alikePlaces 0 [(5, v0), (5, v1), mi_un, mi_un, mi_un, mi_un] [] (D, Z) (mi_LI 0 (D, Z)) (B_X6_alikePlaces D v0 v1) := by
  intro hb0 hb1
  unfold B_X6_alikePlaces
  refine Sg.go (pc' := 1) (mi_iconst (z := 0) dX6_alikePlaces_0 rfl) ?_
  refine Sg.go (pc' := 2) (mi_istore_n (ls1 := [(5, v0), (5, v1), (0, 0), mi_un, mi_un, mi_un]) dX6_alikePlaces_1 (by decide) rfl) ?_
  refine Sg.go (pc' := 3) (mi_iconst (z := 0) dX6_alikePlaces_2 rfl) ?_
  refine Sg.go (pc' := 4) (mi_istore_n (ls1 := [(5, v0), (5, v1), (0, 0), (0, 0), mi_un, mi_un]) dX6_alikePlaces_3 (by decide) rfl) ?_
  exact S_X6_alikePlaces_4 hL mi_fuel v0 v1 0 0 hb0 hb1
theorem C_X6_alikePlaces {Z : MiZ} (hL : CL Z) (a0 a1 : Int) (D : MiD) (h0 : (0 ≤ a0 ∧ a0 < 120)) (h1 : (0 ≤ a1 ∧ a1 < 120)) (b : Int) (hb : B_X6_alikePlaces D a0 a1 = some b) : MC m_X6_alikePlaces [(5, a0), (5, a1)] (D, Z) ((mi_LI 0 (D, Z)) b) := MC.ofSg (L := (mi_LI 0 (D, Z))) (μ := m_X6_alikePlaces) (args := [(5, a0), (5, a1)]) (M := (D, Z)) rfl wP_X6 (Nat.le_of_ble_eq_true rfl) (show Sg m_X6_alikePlaces 0 [(5, a0), (5, a1), mi_un, mi_un, mi_un, mi_un] [] (D, Z) (mi_LI 0 (D, Z)) (B_X6_alikePlaces D a0 a1) from S_X6_alikePlaces hL a0 a1 h0 h1) hb
abbrev m_X6_box : MiI := (yX6_box, cX6_box, 3, (some .int), 2, none)
def B_X6_box (v0 : Int) (v1 : Int) (v2 : Int) (D : MiD) : Option (Int × MiD) := if (D 3 v0 0) ≠ 12 then (if (D 3 v0 0) ≠ 11 then (if (B_X10_within v1 (D 3 v0 1)) ≠ 0 then (if 0 ≤ v1 ∧ v1 < 9 then (mi_bi (B_X8_be v2 (D 17 v0 v1) (D 18 v0 v1) D) fun D5 => some (0, D5)) else none) else (some (1, D))) else (some (2, D))) else (some (3, D))
set_option maxRecDepth 20000 in
theorem S_X6_box {Z : MiZ} (hL : CL Z) (v0 v1 v2 : Int) (D : MiD) : (0 ≤ v0 ∧ v0 < 120) → (0 ≤ v2 ∧ v2 < 14) → Sg m_X6_box 0 [(5, v0), (0, v1), (7, v2)] [] (D, Z) (mi_LD 0 Z) (B_X6_box v0 v1 v2 D) := by
  intro hb0 hb2
  unfold B_X6_box
  refine Sg.go (pc' := 1) (mi_aload_n dX6_box_0 rfl) ?_
  refine Sg.go (pc' := 4) (mi_gfI (r := 3) (k := 0) dX6_box_1 hC_3 (by decide) rfl wF_X6_9 (by omega) rfl) ?_
  refine Sg.go (pc' := 6) (mi_bipush (z := 12) dX6_box_4 rfl) ?_
  refine Sg.ite (fun h1 => ?_) (fun h1 => ?_)
  · refine Sg.go (pc' := 11) (mi_icmpne_t (tgt := 11) dX6_box_6 (by decide) h1) ?_
    refine Sg.go (pc' := 12) (mi_aload_n dX6_box_11 rfl) ?_
    refine Sg.go (pc' := 15) (mi_gfI (r := 3) (k := 0) dX6_box_12 hC_3 (by decide) rfl wF_X6_9 (by omega) rfl) ?_
    refine Sg.go (pc' := 17) (mi_bipush (z := 11) dX6_box_15 rfl) ?_
    refine Sg.ite (fun h2 => ?_) (fun h2 => ?_)
    · refine Sg.go (pc' := 22) (mi_icmpne_t (tgt := 22) dX6_box_17 (by decide) h2) ?_
      refine Sg.go (pc' := 23) (mi_iload_n dX6_box_22 rfl) ?_
      refine Sg.go (pc' := 24) (mi_aload_n dX6_box_23 rfl) ?_
      refine Sg.go (pc' := 27) (mi_gfI (r := 3) (k := 1) dX6_box_24 hC_3 (by decide) rfl wF_X6_23 (by omega) rfl) ?_
      refine Sg.callP (pc' := 30) (t := 0) (v := (B_X10_within v1 (D 3 v0 1))) (μ' := m_X10_within) (args := [(0, v1), (0, (D 3 v0 1))]) (mi_invSN (n := 2) dX6_box_27 rfl wN_X10_within rfl ⟨by decide, by decide⟩ wL_X6_36 wT_X10_within wB_X10 wC_X10_within) (C_X10_within hL v1 (D 3 v0 1) D) (Nat.le_of_ble_eq_true rfl) rfl rfl ?_
      refine Sg.ite (fun h3 => ?_) (fun h3 => ?_)
      · refine Sg.go (pc' := 35) (mi_ifne_t (tgt := 35) dX6_box_30 (by decide) h3) ?_
        refine Sg.go (pc' := 36) (mi_aload_n dX6_box_35 rfl) ?_
        refine Sg.go (pc' := 37) (mi_aload_n dX6_box_36 rfl) ?_
        refine Sg.go (pc' := 40) (mi_gfA (t := 17) (v := v0) (r := 3) (k := 2) dX6_box_37 hC_3 (by decide) rfl wF_X6_15 (by omega) rfl (hL.2.2.2.1 _ 2 (by omega) (by omega) (by decide) (by decide))) ?_
        refine Sg.go (pc' := 41) (mi_iload_n dX6_box_40 rfl) ?_
        refine Sg.ck (fun hk4 => ?_)
        refine Sg.go (pc' := 42) (mi_iald (n := 9) dX6_box_41 rfl rfl (by omega) hk4) ?_
        refine Sg.go (pc' := 43) (mi_aload_n dX6_box_42 rfl) ?_
        refine Sg.go (pc' := 46) (mi_gfA (t := 18) (v := v0) (r := 3) (k := 3) dX6_box_43 hC_3 (by decide) rfl wF_X6_19 (by omega) rfl (hL.2.2.2.1 _ 3 (by omega) (by omega) (by decide) (by decide))) ?_
        refine Sg.go (pc' := 47) (mi_iload_n dX6_box_46 rfl) ?_
        refine Sg.go (pc' := 48) (mi_lald (n := 9) dX6_box_47 rfl rfl (by omega) hk4) ?_
        refine Sg.callV (pc' := 51) (μ' := m_X8_be) (args := [(7, v2), (0, (D 17 v0 v1)), (1, (D 18 v0 v1))]) (mi_invV (n := 2) (r := 5) dX6_box_48 hC_5 (by omega) rfl rfl wN_X8_be rfl ⟨by decide, by decide⟩ wL_X6_51 wI_X8_be wS_X8_be wB_X8 wC_X8_be) (fun v hv => C_X8_be hL v2 (D 17 v0 v1) (D 18 v0 v1) D (by omega) v hv) (Nat.le_of_ble_eq_true rfl) rfl rfl (fun D5 => ?_)
        refine Sg.go (pc' := 52) (mi_iconst (z := 0) dX6_box_51 rfl) ?_
        exact Sg.ret (mi_ireturn dX6_box_52 rfl (Or.inl rfl))
      · refine Sg.go (pc' := 33) (mi_ifne_f (tgt := 35) dX6_box_30 (by decide) h3) ?_
        refine Sg.go (pc' := 34) (mi_iconst (z := 1) dX6_box_33 rfl) ?_
        exact Sg.ret (mi_ireturn dX6_box_34 rfl (Or.inl rfl))
    · refine Sg.go (pc' := 20) (mi_icmpne_f (tgt := 22) dX6_box_17 (by decide) h2) ?_
      refine Sg.go (pc' := 21) (mi_iconst (z := 2) dX6_box_20 rfl) ?_
      exact Sg.ret (mi_ireturn dX6_box_21 rfl (Or.inl rfl))
  · refine Sg.go (pc' := 9) (mi_icmpne_f (tgt := 11) dX6_box_6 (by decide) h1) ?_
    refine Sg.go (pc' := 10) (mi_iconst (z := 3) dX6_box_9 rfl) ?_
    exact Sg.ret (mi_ireturn dX6_box_10 rfl (Or.inl rfl))
theorem C_X6_box {Z : MiZ} (hL : CL Z) (a0 a1 a2 : Int) (D : MiD) (h0 : (0 ≤ a0 ∧ a0 < 120)) (h1 : (0 ≤ a2 ∧ a2 < 14)) (b : Int × MiD) (hb : B_X6_box a0 a1 a2 D = some b) : MC m_X6_box [(5, a0), (0, a1), (7, a2)] (D, Z) ((mi_LD 0 Z) b) := MC.ofSg (L := (mi_LD 0 Z)) (μ := m_X6_box) (args := [(5, a0), (0, a1), (7, a2)]) (M := (D, Z)) rfl wP_X6 (Nat.le_of_ble_eq_true rfl) (show Sg m_X6_box 0 [(5, a0), (0, a1), (7, a2)] [] (D, Z) (mi_LD 0 Z) (B_X6_box a0 a1 a2 D) from S_X6_box hL a0 a1 a2 D h0 h1) hb
abbrev m_X6_fitsAs : MiI := (yX6_fitsAs, cX6_fitsAs, 5, (some .boolean), 2, none)
def B_X6_fitsAs_5 (D : MiD) : Nat → Int → Int → Int → Int → Int → Option (Int)
  | 0, _, _, _, _, _ => none
  | f + 1, v0, v1, v2, v3, v4 => if v2 ≤ v4 then (if v3 = 0 ∨ v3 = 1 then (some v3) else none) else (if 9 ≤ v4 then (if v3 = 0 ∨ v3 = 1 then (some v3) else none) else (if 0 ≤ v4 ∧ v4 < 9 then (mi_bi (B_X10_fits D (D 17 v0 v4) v1) fun y6 => B_X6_fitsAs_5 D f v0 v1 v2 (mi_and v3 y6) (mi_w (v4 + 1))) else none))
set_option maxRecDepth 20000 in
theorem S_X6_fitsAs_5 {D : MiD} {Z : MiZ} (hL : CL Z) : ∀ (f : Nat) (v0 v1 v2 v3 v4 : Int), (0 ≤ v0 ∧ v0 < 120) → Sg m_X6_fitsAs 5 [(5, v0), (0, v1), (0, v2), (0, v3), (0, v4)] [] (D, Z) (mi_LI 0 (D, Z)) (B_X6_fitsAs_5 D f v0 v1 v2 v3 v4) := by
  intro f
  induction f with
  | zero => intros; exact Sg.nope
  | succ f K5 =>
    intro v0 v1 v2 v3 v4 hb0
    show Sg m_X6_fitsAs 5 [(5, v0), (0, v1), (0, v2), (0, v3), (0, v4)] [] (D, Z) (mi_LI 0 (D, Z)) (if v2 ≤ v4 then (if v3 = 0 ∨ v3 = 1 then (some v3) else none) else (if 9 ≤ v4 then (if v3 = 0 ∨ v3 = 1 then (some v3) else none) else (if 0 ≤ v4 ∧ v4 < 9 then (mi_bi (B_X10_fits D (D 17 v0 v4) v1) fun y6 => B_X6_fitsAs_5 D f v0 v1 v2 (mi_and v3 y6) (mi_w (v4 + 1))) else none)))
    refine Sg.go (pc' := 7) (mi_iload dX6_fitsAs_5 rfl) ?_
    refine Sg.go (pc' := 8) (mi_iload_n dX6_fitsAs_7 rfl) ?_
    refine Sg.ite (fun h1 => ?_) (fun h1 => ?_)
    · refine Sg.go (pc' := 38) (mi_icmpge_t (tgt := 38) dX6_fitsAs_8 (by decide) h1) ?_
      refine Sg.go (pc' := 39) (mi_iload_n dX6_fitsAs_38 rfl) ?_
      refine Sg.ck (fun hk2 => ?_)
      exact Sg.ret (mi_ireturn dX6_fitsAs_39 rfl (Or.inr (Or.inl ⟨rfl, hk2⟩)))
    · refine Sg.go (pc' := 11) (mi_icmpge_f (tgt := 38) dX6_fitsAs_8 (by decide) h1) ?_
      refine Sg.go (pc' := 13) (mi_iload dX6_fitsAs_11 rfl) ?_
      refine Sg.go (pc' := 15) (mi_bipush (z := 9) dX6_fitsAs_13 rfl) ?_
      refine Sg.ite (fun h3 => ?_) (fun h3 => ?_)
      · refine Sg.go (pc' := 38) (mi_icmpge_t (tgt := 38) dX6_fitsAs_15 (by decide) h3) ?_
        refine Sg.go (pc' := 39) (mi_iload_n dX6_fitsAs_38 rfl) ?_
        refine Sg.ck (fun hk4 => ?_)
        exact Sg.ret (mi_ireturn dX6_fitsAs_39 rfl (Or.inr (Or.inl ⟨rfl, hk4⟩)))
      · refine Sg.go (pc' := 18) (mi_icmpge_f (tgt := 38) dX6_fitsAs_15 (by decide) h3) ?_
        refine Sg.go (pc' := 19) (mi_iload_n dX6_fitsAs_18 rfl) ?_
        refine Sg.go (pc' := 20) (mi_aload_n dX6_fitsAs_19 rfl) ?_
        refine Sg.go (pc' := 23) (mi_gfA (t := 17) (v := v0) (r := 3) (k := 2) dX6_fitsAs_20 hC_3 (by decide) rfl wF_X6_15 (by omega) rfl (hL.2.2.2.1 _ 2 (by omega) (by omega) (by decide) (by decide))) ?_
        refine Sg.go (pc' := 25) (mi_iload dX6_fitsAs_23 rfl) ?_
        refine Sg.ck (fun hk5 => ?_)
        refine Sg.go (pc' := 26) (mi_iald (n := 9) dX6_fitsAs_25 rfl rfl (by omega) hk5) ?_
        refine Sg.go (pc' := 27) (mi_iload_n dX6_fitsAs_26 rfl) ?_
        refine Sg.callI (pc' := 30) (t := 0) (μ' := m_X10_fits) (args := [(0, (D 17 v0 v4)), (0, v1)]) (mi_invSN (n := 2) dX6_fitsAs_27 rfl wN_X10_fits rfl ⟨by decide, by decide⟩ wL_X6_44 wT_X10_fits wB_X10 wC_X10_fits) (fun v hv => C_X10_fits hL (D 17 v0 v4) v1 D v hv) (Nat.le_of_ble_eq_true rfl) rfl rfl (fun y6 => ?_)
        refine Sg.go (pc' := 31) (mi_iand dX6_fitsAs_30) ?_
        refine Sg.go (pc' := 32) (mi_istore_n (ls1 := [(5, v0), (0, v1), (0, v2), (0, (mi_and v3 y6)), (0, v4)]) dX6_fitsAs_31 (by decide) rfl) ?_
        refine Sg.go (pc' := 35) (mi_iinc (z := 1) (ls1 := [(5, v0), (0, v1), (0, v2), (0, (mi_and v3 y6)), (0, (mi_w (v4 + 1)))]) dX6_fitsAs_32 (by decide) rfl rfl rfl) ?_
        refine Sg.go (pc' := 5) (mi_goto (tgt := 5) dX6_fitsAs_35 (by decide)) ?_
        exact K5 v0 v1 v2 (mi_and v3 y6) (mi_w (v4 + 1)) hb0
def B_X6_fitsAs (D : MiD) (v0 : Int) (v1 : Int) (v2 : Int) : Option (Int) := B_X6_fitsAs_5 D mi_fuel v0 v1 v2 1 0
set_option maxRecDepth 20000 in
theorem S_X6_fitsAs {D : MiD} {Z : MiZ} (hL : CL Z) (v0 v1 v2 : Int) : (0 ≤ v0 ∧ v0 < 120) → Sg m_X6_fitsAs 0 [(5, v0), (0, v1), (0, v2), mi_un, mi_un] [] (D, Z) (mi_LI 0 (D, Z)) (B_X6_fitsAs D v0 v1 v2) := by
  intro hb0
  unfold B_X6_fitsAs
  refine Sg.go (pc' := 1) (mi_iconst (z := 1) dX6_fitsAs_0 rfl) ?_
  refine Sg.go (pc' := 2) (mi_istore_n (ls1 := [(5, v0), (0, v1), (0, v2), (0, 1), mi_un]) dX6_fitsAs_1 (by decide) rfl) ?_
  refine Sg.go (pc' := 3) (mi_iconst (z := 0) dX6_fitsAs_2 rfl) ?_
  refine Sg.go (pc' := 5) (mi_istore (ls1 := [(5, v0), (0, v1), (0, v2), (0, 1), (0, 0)]) dX6_fitsAs_3 (by decide) rfl) ?_
  exact S_X6_fitsAs_5 hL mi_fuel v0 v1 v2 1 0 hb0
theorem C_X6_fitsAs {Z : MiZ} (hL : CL Z) (a0 a1 a2 : Int) (D : MiD) (h0 : (0 ≤ a0 ∧ a0 < 120)) (b : Int) (hb : B_X6_fitsAs D a0 a1 a2 = some b) : MC m_X6_fitsAs [(5, a0), (0, a1), (0, a2)] (D, Z) ((mi_LI 0 (D, Z)) b) := MC.ofSg (L := (mi_LI 0 (D, Z))) (μ := m_X6_fitsAs) (args := [(5, a0), (0, a1), (0, a2)]) (M := (D, Z)) rfl wP_X6 (Nat.le_of_ble_eq_true rfl) (show Sg m_X6_fitsAs 0 [(5, a0), (0, a1), (0, a2), mi_un, mi_un] [] (D, Z) (mi_LI 0 (D, Z)) (B_X6_fitsAs D a0 a1 a2) from S_X6_fitsAs hL a0 a1 a2 h0) hb
abbrev m_X6_lay : MiI := (yX6_lay, cX6_lay, 3, none, 2, none)
def B_X6_lay (v0 : Int) (v1 : Int) (v2 : Int) (D : MiD) : Option (MiD) := mi_let (mi_st D 3 v0 0 v1) fun D1 => mi_let (mi_st D1 3 v0 1 v2) fun D2 => mi_bi (B_X6_blankFrom v0 0 D2) fun D3 => some D3
set_option maxRecDepth 20000 in
theorem S_X6_lay {Z : MiZ} (hL : CL Z) (v0 v1 v2 : Int) (D : MiD) : (0 ≤ v0 ∧ v0 < 120) → Sg m_X6_lay 0 [(5, v0), (0, v1), (0, v2)] [] (D, Z) (mi_LV Z) (B_X6_lay v0 v1 v2 D) := by
  intro hb0
  unfold B_X6_lay
  refine Sg.go (pc' := 1) (mi_aload_n dX6_lay_0 rfl) ?_
  refine Sg.go (pc' := 2) (mi_iload_n dX6_lay_1 rfl) ?_
  refine Sg.goM (pc' := 5) (mi_pfD (r := 3) (k := 0) (t := 0) dX6_lay_2 hC_3 (by decide) rfl rfl wF_X6_9 (by omega) rfl (by decide) (Or.inl ⟨rfl, rfl⟩)) ?_
  refine Sg.letD (fun D1 hD1 => ?_)
  refine Sg.go (pc' := 6) (mi_aload_n dX6_lay_5 rfl) ?_
  refine Sg.go (pc' := 7) (mi_iload_n dX6_lay_6 rfl) ?_
  refine Sg.goM (pc' := 10) (mi_pfD (r := 3) (k := 1) (t := 0) dX6_lay_7 hC_3 (by decide) rfl rfl wF_X6_23 (by omega) rfl (by decide) (Or.inl ⟨rfl, rfl⟩)) ?_
  refine Sg.letD (fun D2 hD2 => ?_)
  refine Sg.go (pc' := 11) (mi_aload_n dX6_lay_10 rfl) ?_
  refine Sg.go (pc' := 12) (mi_iconst (z := 0) dX6_lay_11 rfl) ?_
  refine Sg.callV (pc' := 15) (μ' := m_X6_blankFrom) (args := [(5, v0), (0, 0)]) (mi_invV (n := 1) (r := 3) dX6_lay_12 hC_3 (by omega) rfl rfl wN_X6_blankFrom rfl ⟨by decide, by decide⟩ wL_X6_26 wI_X6_blankFrom wS_X6_blankFrom wB_X6 wC_X6_blankFrom) (fun v hv => C_X6_blankFrom hL v0 0 D2 (by omega) v hv) (Nat.le_of_ble_eq_true rfl) rfl rfl (fun D3 => ?_)
  exact Sg.ret (mi_return dX6_lay_15 rfl (0, 0))
theorem C_X6_lay {Z : MiZ} (hL : CL Z) (a0 a1 a2 : Int) (D : MiD) (h0 : (0 ≤ a0 ∧ a0 < 120)) (b : MiD) (hb : B_X6_lay a0 a1 a2 D = some b) : MC m_X6_lay [(5, a0), (0, a1), (0, a2)] (D, Z) ((mi_LV Z) b) := MC.ofSg (L := (mi_LV Z)) (μ := m_X6_lay) (args := [(5, a0), (0, a1), (0, a2)]) (M := (D, Z)) rfl wP_X6 (Nat.le_of_ble_eq_true rfl) (show Sg m_X6_lay 0 [(5, a0), (0, a1), (0, a2)] [] (D, Z) (mi_LV Z) (B_X6_lay a0 a1 a2 D) from S_X6_lay hL a0 a1 a2 D h0) hb
abbrev m_X6_stand : MiI := (yX6_stand, cX6_stand, 6, none, 2, none)
def B_X6_stand_58 (s0 : Int) (s1 : Int) (s2 : Int) (D : MiD) : Option (MiD) := if 0 ≤ s0 ∧ s0 < 120 then (if 0 ≤ s1 ∧ s1 < 9 then (mi_let (mi_st D 18 s0 s1 s2) fun D3 => some D3) else none) else none
set_option maxRecDepth 20000 in
theorem S_X6_stand_58 {Z : MiZ} (hL : CL Z) (s0 s1 s2 : Int) (D : MiD) : Sg m_X6_stand 58 [mi_un, mi_un, mi_un, mi_un, mi_un, mi_un] [(1, s2), (0, s1), (20, s0)] (D, Z) (mi_LV Z) (B_X6_stand_58 s0 s1 s2 D) := by
  unfold B_X6_stand_58
  refine Sg.ck (fun hk1 => ?_)
  refine Sg.ck (fun hk2 => ?_)
  refine Sg.goM (pc' := 59) (mi_last (n := 9) dX6_stand_58 rfl rfl (by omega) hk2) ?_
  refine Sg.letD (fun D3 hD3 => ?_)
  exact Sg.ret (mi_return dX6_stand_59 rfl (0, 0))
def B_X6_stand_34 (v0 : Int) (v1 : Int) (v2 : Int) (v3 : Int) (v5 : Int) (s0 : Int) (s1 : Int) (s2 : Int) (D : MiD) : Option (MiD) := if 0 ≤ s0 ∧ s0 < 120 then (if 0 ≤ s1 ∧ s1 < 9 then (mi_let (mi_st D 17 s0 s1 s2) fun D3 => if v5 = 0 then (B_X6_stand_58 v0 v1 v3 D3) else (B_X6_stand_58 v0 v1 (B_X10_widened v3 v2 (D3 3 v0 0)) D3)) else none) else none
set_option maxRecDepth 20000 in
theorem S_X6_stand_34 {Z : MiZ} (hL : CL Z) (v0 v1 v2 v3 v5 s0 s1 s2 : Int) (D : MiD) : (0 ≤ v0 ∧ v0 < 120) → Sg m_X6_stand 34 [(5, v0), (0, v1), (0, v2), (1, v3), mi_un, (0, v5)] [(0, s2), (0, s1), (19, s0)] (D, Z) (mi_LV Z) (B_X6_stand_34 v0 v1 v2 v3 v5 s0 s1 s2 D) := by
  intro hb0
  unfold B_X6_stand_34
  refine Sg.ck (fun hk1 => ?_)
  refine Sg.ck (fun hk2 => ?_)
  refine Sg.goM (pc' := 35) (mi_iast (n := 9) dX6_stand_34 rfl rfl (by omega) hk2) ?_
  refine Sg.letD (fun D3 hD3 => ?_)
  refine Sg.go (pc' := 36) (mi_aload_n dX6_stand_35 rfl) ?_
  refine Sg.go (pc' := 39) (mi_gfA (t := 18) (v := v0) (r := 3) (k := 3) dX6_stand_36 hC_3 (by decide) rfl wF_X6_19 (by omega) rfl (hL.2.2.2.1 _ 3 (by omega) (by omega) (by decide) (by decide))) ?_
  refine Sg.go (pc' := 40) (mi_iload_n dX6_stand_39 rfl) ?_
  refine Sg.go (pc' := 42) (mi_iload dX6_stand_40 rfl) ?_
  refine Sg.ite (fun h4 => ?_) (fun h4 => ?_)
  · refine Sg.go (pc' := 57) (mi_ifeq_t (tgt := 57) dX6_stand_42 (by decide) h4) ?_
    refine Sg.go (pc' := 58) (mi_lload_n dX6_stand_57 rfl) ?_
    refine Sg.go (pc' := 58) (MiStep.weak (ls' := [mi_un, mi_un, mi_un, mi_un, mi_un, mi_un]) (mi_wk_n (mi_wk_n (mi_wk_n (mi_wk_n (mi_wk_y (mi_wk_n mi_wk_0))))))) ?_
    exact S_X6_stand_58 hL v0 v1 v3 D3
  · refine Sg.go (pc' := 45) (mi_ifeq_f (tgt := 57) dX6_stand_42 (by decide) h4) ?_
    refine Sg.go (pc' := 46) (mi_lload_n dX6_stand_45 rfl) ?_
    refine Sg.go (pc' := 47) (mi_iload_n dX6_stand_46 rfl) ?_
    refine Sg.go (pc' := 48) (mi_aload_n dX6_stand_47 rfl) ?_
    refine Sg.go (pc' := 51) (mi_gfI (r := 3) (k := 0) dX6_stand_48 hC_3 (by decide) rfl wF_X6_9 (by omega) rfl) ?_
    refine Sg.callP (pc' := 54) (t := 1) (v := (B_X10_widened v3 v2 (D3 3 v0 0))) (μ' := m_X10_widened) (args := [(1, v3), (0, v2), (0, (D3 3 v0 0))]) (mi_invSN (n := 3) dX6_stand_51 rfl wN_X10_widened rfl ⟨by decide, by decide⟩ wL_X6_47 wT_X10_widened wB_X10 wC_X10_widened) (C_X10_widened hL v3 v2 (D3 3 v0 0) D3) (Nat.le_of_ble_eq_true rfl) rfl rfl ?_
    refine Sg.go (pc' := 58) (mi_goto (tgt := 58) dX6_stand_54 (by decide)) ?_
    refine Sg.go (pc' := 58) (MiStep.weak (ls' := [mi_un, mi_un, mi_un, mi_un, mi_un, mi_un]) (mi_wk_n (mi_wk_n (mi_wk_n (mi_wk_n (mi_wk_y (mi_wk_n mi_wk_0))))))) ?_
    exact S_X6_stand_58 hL v0 v1 (B_X10_widened v3 v2 (D3 3 v0 0)) D3
def B_X6_stand_14 (v0 : Int) (v1 : Int) (v2 : Int) (v3 : Int) (s0 : Int) (D : MiD) : Option (MiD) := if s0 = 0 then (B_X6_stand_34 v0 v1 v2 v3 s0 v0 v1 v2 D) else (B_X6_stand_34 v0 v1 v2 v3 s0 v0 v1 (D 3 v0 0) D)
set_option maxRecDepth 20000 in
theorem S_X6_stand_14 {Z : MiZ} (hL : CL Z) (v0 v1 v2 v3 s0 : Int) (D : MiD) : (0 ≤ v0 ∧ v0 < 120) → Sg m_X6_stand 14 [(5, v0), (0, v1), (0, v2), (1, v3), mi_un, mi_un] [(0, s0)] (D, Z) (mi_LV Z) (B_X6_stand_14 v0 v1 v2 v3 s0 D) := by
  intro hb0
  unfold B_X6_stand_14
  refine Sg.go (pc' := 16) (mi_istore (ls1 := [(5, v0), (0, v1), (0, v2), (1, v3), mi_un, (0, s0)]) dX6_stand_14 (by decide) rfl) ?_
  refine Sg.go (pc' := 17) (mi_aload_n dX6_stand_16 rfl) ?_
  refine Sg.go (pc' := 20) (mi_gfA (t := 17) (v := v0) (r := 3) (k := 2) dX6_stand_17 hC_3 (by decide) rfl wF_X6_15 (by omega) rfl (hL.2.2.2.1 _ 2 (by omega) (by omega) (by decide) (by decide))) ?_
  refine Sg.go (pc' := 21) (mi_iload_n dX6_stand_20 rfl) ?_
  refine Sg.go (pc' := 23) (mi_iload dX6_stand_21 rfl) ?_
  refine Sg.ite (fun h1 => ?_) (fun h1 => ?_)
  · refine Sg.go (pc' := 33) (mi_ifeq_t (tgt := 33) dX6_stand_23 (by decide) h1) ?_
    refine Sg.go (pc' := 34) (mi_iload_n dX6_stand_33 rfl) ?_
    exact S_X6_stand_34 hL v0 v1 v2 v3 s0 v0 v1 v2 D hb0
  · refine Sg.go (pc' := 26) (mi_ifeq_f (tgt := 33) dX6_stand_23 (by decide) h1) ?_
    refine Sg.go (pc' := 27) (mi_aload_n dX6_stand_26 rfl) ?_
    refine Sg.go (pc' := 30) (mi_gfI (r := 3) (k := 0) dX6_stand_27 hC_3 (by decide) rfl wF_X6_9 (by omega) rfl) ?_
    refine Sg.go (pc' := 34) (mi_goto (tgt := 34) dX6_stand_30 (by decide)) ?_
    exact S_X6_stand_34 hL v0 v1 v2 v3 s0 v0 v1 (D 3 v0 0) D hb0
def B_X6_stand (v0 : Int) (v1 : Int) (v2 : Int) (v3 : Int) (D : MiD) : Option (MiD) := if 8 ≤ (D 3 v0 0) then (B_X6_stand_14 v0 v1 v2 v3 0 D) else (B_X6_stand_14 v0 v1 v2 v3 1 D)
set_option maxRecDepth 20000 in
theorem S_X6_stand {Z : MiZ} (hL : CL Z) (v0 v1 v2 v3 : Int) (D : MiD) : (0 ≤ v0 ∧ v0 < 120) → Sg m_X6_stand 0 [(5, v0), (0, v1), (0, v2), (1, v3), mi_un, mi_un] [] (D, Z) (mi_LV Z) (B_X6_stand v0 v1 v2 v3 D) := by
  intro hb0
  unfold B_X6_stand
  refine Sg.go (pc' := 1) (mi_aload_n dX6_stand_0 rfl) ?_
  refine Sg.go (pc' := 4) (mi_gfI (r := 3) (k := 0) dX6_stand_1 hC_3 (by decide) rfl wF_X6_9 (by omega) rfl) ?_
  refine Sg.go (pc' := 6) (mi_bipush (z := 8) dX6_stand_4 rfl) ?_
  refine Sg.ite (fun h1 => ?_) (fun h1 => ?_)
  · refine Sg.go (pc' := 13) (mi_icmpge_t (tgt := 13) dX6_stand_6 (by decide) h1) ?_
    refine Sg.go (pc' := 14) (mi_iconst (z := 0) dX6_stand_13 rfl) ?_
    exact S_X6_stand_14 hL v0 v1 v2 v3 0 D hb0
  · refine Sg.go (pc' := 9) (mi_icmpge_f (tgt := 13) dX6_stand_6 (by decide) h1) ?_
    refine Sg.go (pc' := 10) (mi_iconst (z := 1) dX6_stand_9 rfl) ?_
    refine Sg.go (pc' := 14) (mi_goto (tgt := 14) dX6_stand_10 (by decide)) ?_
    exact S_X6_stand_14 hL v0 v1 v2 v3 1 D hb0
theorem C_X6_stand {Z : MiZ} (hL : CL Z) (a0 a1 a2 a3 : Int) (D : MiD) (h0 : (0 ≤ a0 ∧ a0 < 120)) (b : MiD) (hb : B_X6_stand a0 a1 a2 a3 D = some b) : MC m_X6_stand [(5, a0), (0, a1), (0, a2), (1, a3)] (D, Z) ((mi_LV Z) b) := MC.ofSg (L := (mi_LV Z)) (μ := m_X6_stand) (args := [(5, a0), (0, a1), (0, a2), (1, a3)]) (M := (D, Z)) rfl wP_X6 (Nat.le_of_ble_eq_true rfl) (show Sg m_X6_stand 0 [(5, a0), (0, a1), (0, a2), (1, a3), mi_un, mi_un] [] (D, Z) (mi_LV Z) (B_X6_stand a0 a1 a2 a3 D) from S_X6_stand hL a0 a1 a2 a3 D h0) hb
abbrev m_X6_trapOfNumbers : MiI := (yX6_trapOfNumbers, cX6_trapOfNumbers, 2, (some .int), 2, none)
def B_X6_trapOfNumbers (D : MiD) (v0 : Int) (v1 : Int) : Option (Int) := if (D 3 v0 0) ≠ 12 then (if (D 3 v0 0) < 8 then (if (B_X10_within v1 (D 3 v0 1)) = 0 then (some 1) else (some 0)) else (some 2)) else (some 3)
set_option maxRecDepth 20000 in
theorem S_X6_trapOfNumbers {D : MiD} {Z : MiZ} (hL : CL Z) (v0 v1 : Int) : (0 ≤ v0 ∧ v0 < 120) → Sg m_X6_trapOfNumbers 0 [(5, v0), (0, v1)] [] (D, Z) (mi_LI 0 (D, Z)) (B_X6_trapOfNumbers D v0 v1) := by
  intro hb0
  unfold B_X6_trapOfNumbers
  refine Sg.go (pc' := 1) (mi_aload_n dX6_trapOfNumbers_0 rfl) ?_
  refine Sg.go (pc' := 4) (mi_gfI (r := 3) (k := 0) dX6_trapOfNumbers_1 hC_3 (by decide) rfl wF_X6_9 (by omega) rfl) ?_
  refine Sg.go (pc' := 6) (mi_bipush (z := 12) dX6_trapOfNumbers_4 rfl) ?_
  refine Sg.ite (fun h1 => ?_) (fun h1 => ?_)
  · refine Sg.go (pc' := 11) (mi_icmpne_t (tgt := 11) dX6_trapOfNumbers_6 (by decide) h1) ?_
    refine Sg.go (pc' := 12) (mi_aload_n dX6_trapOfNumbers_11 rfl) ?_
    refine Sg.go (pc' := 15) (mi_gfI (r := 3) (k := 0) dX6_trapOfNumbers_12 hC_3 (by decide) rfl wF_X6_9 (by omega) rfl) ?_
    refine Sg.go (pc' := 17) (mi_bipush (z := 8) dX6_trapOfNumbers_15 rfl) ?_
    refine Sg.ite (fun h2 => ?_) (fun h2 => ?_)
    · refine Sg.go (pc' := 22) (mi_icmplt_t (tgt := 22) dX6_trapOfNumbers_17 (by decide) h2) ?_
      refine Sg.go (pc' := 23) (mi_iload_n dX6_trapOfNumbers_22 rfl) ?_
      refine Sg.go (pc' := 24) (mi_aload_n dX6_trapOfNumbers_23 rfl) ?_
      refine Sg.go (pc' := 27) (mi_gfI (r := 3) (k := 1) dX6_trapOfNumbers_24 hC_3 (by decide) rfl wF_X6_23 (by omega) rfl) ?_
      refine Sg.callP (pc' := 30) (t := 0) (v := (B_X10_within v1 (D 3 v0 1))) (μ' := m_X10_within) (args := [(0, v1), (0, (D 3 v0 1))]) (mi_invSN (n := 2) dX6_trapOfNumbers_27 rfl wN_X10_within rfl ⟨by decide, by decide⟩ wL_X6_36 wT_X10_within wB_X10 wC_X10_within) (C_X10_within hL v1 (D 3 v0 1) D) (Nat.le_of_ble_eq_true rfl) rfl rfl ?_
      refine Sg.ite (fun h3 => ?_) (fun h3 => ?_)
      · refine Sg.go (pc' := 37) (mi_ifeq_t (tgt := 37) dX6_trapOfNumbers_30 (by decide) h3) ?_
        refine Sg.go (pc' := 38) (mi_iconst (z := 1) dX6_trapOfNumbers_37 rfl) ?_
        exact Sg.ret (mi_ireturn dX6_trapOfNumbers_38 rfl (Or.inl rfl))
      · refine Sg.go (pc' := 33) (mi_ifeq_f (tgt := 37) dX6_trapOfNumbers_30 (by decide) h3) ?_
        refine Sg.go (pc' := 34) (mi_iconst (z := 0) dX6_trapOfNumbers_33 rfl) ?_
        refine Sg.go (pc' := 38) (mi_goto (tgt := 38) dX6_trapOfNumbers_34 (by decide)) ?_
        exact Sg.ret (mi_ireturn dX6_trapOfNumbers_38 rfl (Or.inl rfl))
    · refine Sg.go (pc' := 20) (mi_icmplt_f (tgt := 22) dX6_trapOfNumbers_17 (by decide) h2) ?_
      refine Sg.go (pc' := 21) (mi_iconst (z := 2) dX6_trapOfNumbers_20 rfl) ?_
      exact Sg.ret (mi_ireturn dX6_trapOfNumbers_21 rfl (Or.inl rfl))
  · refine Sg.go (pc' := 9) (mi_icmpne_f (tgt := 11) dX6_trapOfNumbers_6 (by decide) h1) ?_
    refine Sg.go (pc' := 10) (mi_iconst (z := 3) dX6_trapOfNumbers_9 rfl) ?_
    exact Sg.ret (mi_ireturn dX6_trapOfNumbers_10 rfl (Or.inl rfl))
theorem C_X6_trapOfNumbers {Z : MiZ} (hL : CL Z) (a0 a1 : Int) (D : MiD) (h0 : (0 ≤ a0 ∧ a0 < 120)) (b : Int) (hb : B_X6_trapOfNumbers D a0 a1 = some b) : MC m_X6_trapOfNumbers [(5, a0), (0, a1)] (D, Z) ((mi_LI 0 (D, Z)) b) := MC.ofSg (L := (mi_LI 0 (D, Z))) (μ := m_X6_trapOfNumbers) (args := [(5, a0), (0, a1)]) (M := (D, Z)) rfl wP_X6 (Nat.le_of_ble_eq_true rfl) (show Sg m_X6_trapOfNumbers 0 [(5, a0), (0, a1)] [] (D, Z) (mi_LI 0 (D, Z)) (B_X6_trapOfNumbers D a0 a1) from S_X6_trapOfNumbers hL a0 a1 h0) hb
abbrev m_X7_copyFrom : MiI := (yX7_copyFrom, cX7_copyFrom, 2, none, 2, none)
def B_X7_copyFrom (v0 : Int) (v1 : Int) (D : MiD) : Option (MiD) := mi_let (mi_cp D 19 v1 v0) fun D1 => mi_let (mi_cp D1 20 v1 v0) fun D2 => mi_let (mi_cp D2 21 v1 v0) fun D3 => mi_let (mi_cp D3 22 v1 v0) fun D4 => mi_let (mi_st D4 4 v0 4 (D4 4 v1 4)) fun D5 => mi_let (mi_st D5 4 v0 5 (D5 4 v1 5)) fun D6 => mi_let (mi_st D6 4 v0 6 (D6 4 v1 6)) fun D7 => mi_bi (B_X8_be (v0 + 1 + v0 / 6) (D7 5 (v1 + 1 + v1 / 6) 0) (D7 5 (v1 + 1 + v1 / 6) 1) D7) fun D8 => if (D8 4 v1 8) = 0 ∨ (D8 4 v1 8) = 1 then (mi_let (mi_st D8 4 v0 8 (D8 4 v1 8)) fun D10 => mi_let (mi_st D10 4 v0 9 (D10 4 v1 9)) fun D11 => mi_let (mi_st D11 4 v0 10 (D11 4 v1 10)) fun D12 => some D12) else none
set_option maxRecDepth 20000 in
theorem S_X7_copyFrom {Z : MiZ} (hL : CL Z) (v0 v1 : Int) (D : MiD) : (0 ≤ v0 ∧ v0 < 12) → (0 ≤ v1 ∧ v1 < 12) → Sg m_X7_copyFrom 0 [(6, v0), (6, v1)] [] (D, Z) (mi_LV Z) (B_X7_copyFrom v0 v1 D) := by
  intro hb0 hb1
  unfold B_X7_copyFrom
  refine Sg.go (pc' := 1) (mi_aload_n dX7_copyFrom_0 rfl) ?_
  refine Sg.go (pc' := 4) (mi_gfA (t := 19) (v := v1) (r := 4) (k := 0) dX7_copyFrom_1 hC_4 (by decide) rfl wF_X7_9 (by omega) rfl (hL.2.2.2.2.1 _ 0 (by omega) (by omega) (by decide))) ?_
  refine Sg.go (pc' := 5) (mi_iconst (z := 0) dX7_copyFrom_4 rfl) ?_
  refine Sg.go (pc' := 6) (mi_aload_n dX7_copyFrom_5 rfl) ?_
  refine Sg.go (pc' := 9) (mi_gfA (t := 19) (v := v0) (r := 4) (k := 0) dX7_copyFrom_6 hC_4 (by decide) rfl wF_X7_9 (by omega) rfl (hL.2.2.2.2.1 _ 0 (by omega) (by omega) (by decide))) ?_
  refine Sg.go (pc' := 10) (mi_iconst (z := 0) dX7_copyFrom_9 rfl) ?_
  refine Sg.go (pc' := 12) (mi_bipush (z := 10) dX7_copyFrom_10 rfl) ?_
  refine Sg.goM (pc' := 15) (mi_cpI (r := 19) dX7_copyFrom_12 rfl wL_X7_44 wV_copy wT_copy wB_System (by decide) (Nat.le_of_ble_eq_true rfl) rfl (by omega) (by omega)) ?_
  refine Sg.letD (fun D1 hD1 => ?_)
  refine Sg.go (pc' := 16) (mi_aload_n dX7_copyFrom_15 rfl) ?_
  refine Sg.go (pc' := 19) (mi_gfA (t := 20) (v := v1) (r := 4) (k := 1) dX7_copyFrom_16 hC_4 (by decide) rfl wF_X7_15 (by omega) rfl (hL.2.2.2.2.1 _ 1 (by omega) (by omega) (by decide))) ?_
  refine Sg.go (pc' := 20) (mi_iconst (z := 0) dX7_copyFrom_19 rfl) ?_
  refine Sg.go (pc' := 21) (mi_aload_n dX7_copyFrom_20 rfl) ?_
  refine Sg.go (pc' := 24) (mi_gfA (t := 20) (v := v0) (r := 4) (k := 1) dX7_copyFrom_21 hC_4 (by decide) rfl wF_X7_15 (by omega) rfl (hL.2.2.2.2.1 _ 1 (by omega) (by omega) (by decide))) ?_
  refine Sg.go (pc' := 25) (mi_iconst (z := 0) dX7_copyFrom_24 rfl) ?_
  refine Sg.go (pc' := 27) (mi_bipush (z := 10) dX7_copyFrom_25 rfl) ?_
  refine Sg.goM (pc' := 30) (mi_cpI (r := 20) dX7_copyFrom_27 rfl wL_X7_44 wV_copy wT_copy wB_System (by decide) (Nat.le_of_ble_eq_true rfl) rfl (by omega) (by omega)) ?_
  refine Sg.letD (fun D2 hD2 => ?_)
  refine Sg.go (pc' := 31) (mi_aload_n dX7_copyFrom_30 rfl) ?_
  refine Sg.go (pc' := 34) (mi_gfA (t := 21) (v := v1) (r := 4) (k := 2) dX7_copyFrom_31 hC_4 (by decide) rfl wF_X7_18 (by omega) rfl (hL.2.2.2.2.1 _ 2 (by omega) (by omega) (by decide))) ?_
  refine Sg.go (pc' := 35) (mi_iconst (z := 0) dX7_copyFrom_34 rfl) ?_
  refine Sg.go (pc' := 36) (mi_aload_n dX7_copyFrom_35 rfl) ?_
  refine Sg.go (pc' := 39) (mi_gfA (t := 21) (v := v0) (r := 4) (k := 2) dX7_copyFrom_36 hC_4 (by decide) rfl wF_X7_18 (by omega) rfl (hL.2.2.2.2.1 _ 2 (by omega) (by omega) (by decide))) ?_
  refine Sg.go (pc' := 40) (mi_iconst (z := 0) dX7_copyFrom_39 rfl) ?_
  refine Sg.go (pc' := 42) (mi_bipush (z := 10) dX7_copyFrom_40 rfl) ?_
  refine Sg.goM (pc' := 45) (mi_cpI (r := 21) dX7_copyFrom_42 rfl wL_X7_44 wV_copy wT_copy wB_System (by decide) (Nat.le_of_ble_eq_true rfl) rfl (by omega) (by omega)) ?_
  refine Sg.letD (fun D3 hD3 => ?_)
  refine Sg.go (pc' := 46) (mi_aload_n dX7_copyFrom_45 rfl) ?_
  refine Sg.go (pc' := 49) (mi_gfA (t := 22) (v := v1) (r := 4) (k := 3) dX7_copyFrom_46 hC_4 (by decide) rfl wF_X7_21 (by omega) rfl (hL.2.2.2.2.1 _ 3 (by omega) (by omega) (by decide))) ?_
  refine Sg.go (pc' := 50) (mi_iconst (z := 0) dX7_copyFrom_49 rfl) ?_
  refine Sg.go (pc' := 51) (mi_aload_n dX7_copyFrom_50 rfl) ?_
  refine Sg.go (pc' := 54) (mi_gfA (t := 22) (v := v0) (r := 4) (k := 3) dX7_copyFrom_51 hC_4 (by decide) rfl wF_X7_21 (by omega) rfl (hL.2.2.2.2.1 _ 3 (by omega) (by omega) (by decide))) ?_
  refine Sg.go (pc' := 55) (mi_iconst (z := 0) dX7_copyFrom_54 rfl) ?_
  refine Sg.go (pc' := 57) (mi_bipush (z := 10) dX7_copyFrom_55 rfl) ?_
  refine Sg.goM (pc' := 60) (mi_cpI (r := 22) dX7_copyFrom_57 rfl wL_X7_44 wV_copy wT_copy wB_System (by decide) (Nat.le_of_ble_eq_true rfl) rfl (by omega) (by omega)) ?_
  refine Sg.letD (fun D4 hD4 => ?_)
  refine Sg.go (pc' := 61) (mi_aload_n dX7_copyFrom_60 rfl) ?_
  refine Sg.go (pc' := 62) (mi_aload_n dX7_copyFrom_61 rfl) ?_
  refine Sg.go (pc' := 65) (mi_gfI (r := 4) (k := 4) dX7_copyFrom_62 hC_4 (by decide) rfl wF_X7_31 (by omega) rfl) ?_
  refine Sg.goM (pc' := 68) (mi_pfD (r := 4) (k := 4) (t := 0) dX7_copyFrom_65 hC_4 (by decide) rfl rfl wF_X7_31 (by omega) rfl (by decide) (Or.inl ⟨rfl, rfl⟩)) ?_
  refine Sg.letD (fun D5 hD5 => ?_)
  refine Sg.go (pc' := 69) (mi_aload_n dX7_copyFrom_68 rfl) ?_
  refine Sg.go (pc' := 70) (mi_aload_n dX7_copyFrom_69 rfl) ?_
  refine Sg.go (pc' := 73) (mi_gfI (r := 4) (k := 5) dX7_copyFrom_70 hC_4 (by decide) rfl wF_X7_41 (by omega) rfl) ?_
  refine Sg.goM (pc' := 76) (mi_pfD (r := 4) (k := 5) (t := 0) dX7_copyFrom_73 hC_4 (by decide) rfl rfl wF_X7_41 (by omega) rfl (by decide) (Or.inl ⟨rfl, rfl⟩)) ?_
  refine Sg.letD (fun D6 hD6 => ?_)
  refine Sg.go (pc' := 77) (mi_aload_n dX7_copyFrom_76 rfl) ?_
  refine Sg.go (pc' := 78) (mi_aload_n dX7_copyFrom_77 rfl) ?_
  refine Sg.go (pc' := 81) (mi_gfI (r := 4) (k := 6) dX7_copyFrom_78 hC_4 (by decide) rfl wF_X7_50 (by omega) rfl) ?_
  refine Sg.goM (pc' := 84) (mi_pfD (r := 4) (k := 6) (t := 0) dX7_copyFrom_81 hC_4 (by decide) rfl rfl wF_X7_50 (by omega) rfl (by decide) (Or.inl ⟨rfl, rfl⟩)) ?_
  refine Sg.letD (fun D7 hD7 => ?_)
  refine Sg.go (pc' := 85) (mi_aload_n dX7_copyFrom_84 rfl) ?_
  refine Sg.go (pc' := 88) (mi_gfA (t := 5) (v := (v0 + 1 + v0 / 6)) (r := 4) (k := 7) dX7_copyFrom_85 hC_4 (by decide) rfl wF_X7_27 (by omega) rfl (hL.2.2.2.2.2.1 _ (by omega) (by omega))) ?_
  refine Sg.go (pc' := 89) (mi_aload_n dX7_copyFrom_88 rfl) ?_
  refine Sg.go (pc' := 92) (mi_gfA (t := 5) (v := (v1 + 1 + v1 / 6)) (r := 4) (k := 7) dX7_copyFrom_89 hC_4 (by decide) rfl wF_X7_27 (by omega) rfl (hL.2.2.2.2.2.1 _ (by omega) (by omega))) ?_
  refine Sg.go (pc' := 95) (mi_gfI (r := 5) (k := 0) dX7_copyFrom_92 hC_5 (by decide) rfl wF_X7_53 (by omega) rfl) ?_
  refine Sg.go (pc' := 96) (mi_aload_n dX7_copyFrom_95 rfl) ?_
  refine Sg.go (pc' := 99) (mi_gfA (t := 5) (v := (v1 + 1 + v1 / 6)) (r := 4) (k := 7) dX7_copyFrom_96 hC_4 (by decide) rfl wF_X7_27 (by omega) rfl (hL.2.2.2.2.2.1 _ (by omega) (by omega))) ?_
  refine Sg.go (pc' := 102) (mi_gfJ (r := 5) (k := 1) dX7_copyFrom_99 hC_5 (by decide) rfl wF_X7_56 (by omega) rfl) ?_
  refine Sg.callV (pc' := 105) (μ' := m_X8_be) (args := [(7, (v0 + 1 + v0 / 6)), (0, (D7 5 (v1 + 1 + v1 / 6) 0)), (1, (D7 5 (v1 + 1 + v1 / 6) 1))]) (mi_invV (n := 2) (r := 5) dX7_copyFrom_102 hC_5 (by omega) rfl rfl wN_X8_be rfl ⟨by decide, by decide⟩ wL_X7_60 wI_X8_be wS_X8_be wB_X8 wC_X8_be) (fun v hv => C_X8_be hL (v0 + 1 + v0 / 6) (D7 5 (v1 + 1 + v1 / 6) 0) (D7 5 (v1 + 1 + v1 / 6) 1) D7 (by omega) v hv) (Nat.le_of_ble_eq_true rfl) rfl rfl (fun D8 => ?_)
  refine Sg.go (pc' := 106) (mi_aload_n dX7_copyFrom_105 rfl) ?_
  refine Sg.go (pc' := 107) (mi_aload_n dX7_copyFrom_106 rfl) ?_
  refine Sg.go (pc' := 110) (mi_gfI (r := 4) (k := 8) dX7_copyFrom_107 hC_4 (by decide) rfl wF_X7_64 (by omega) rfl) ?_
  refine Sg.ck (fun hk9 => ?_)
  refine Sg.goM (pc' := 113) (mi_pfD (r := 4) (k := 8) (t := 0) dX7_copyFrom_110 hC_4 (by decide) rfl rfl wF_X7_64 (by omega) rfl (by decide) (Or.inr (Or.inr (Or.inl ⟨rfl, rfl, hk9⟩)))) ?_
  refine Sg.letD (fun D10 hD10 => ?_)
  refine Sg.go (pc' := 114) (mi_aload_n dX7_copyFrom_113 rfl) ?_
  refine Sg.go (pc' := 115) (mi_aload_n dX7_copyFrom_114 rfl) ?_
  refine Sg.go (pc' := 118) (mi_gfI (r := 4) (k := 9) dX7_copyFrom_115 hC_4 (by decide) rfl wF_X7_68 (by omega) rfl) ?_
  refine Sg.goM (pc' := 121) (mi_pfD (r := 4) (k := 9) (t := 0) dX7_copyFrom_118 hC_4 (by decide) rfl rfl wF_X7_68 (by omega) rfl (by decide) (Or.inl ⟨rfl, rfl⟩)) ?_
  refine Sg.letD (fun D11 hD11 => ?_)
  refine Sg.go (pc' := 122) (mi_aload_n dX7_copyFrom_121 rfl) ?_
  refine Sg.go (pc' := 123) (mi_aload_n dX7_copyFrom_122 rfl) ?_
  refine Sg.go (pc' := 126) (mi_gfI (r := 4) (k := 10) dX7_copyFrom_123 hC_4 (by decide) rfl wF_X7_71 (by omega) rfl) ?_
  refine Sg.goM (pc' := 129) (mi_pfD (r := 4) (k := 10) (t := 0) dX7_copyFrom_126 hC_4 (by decide) rfl rfl wF_X7_71 (by omega) rfl (by decide) (Or.inl ⟨rfl, rfl⟩)) ?_
  refine Sg.letD (fun D12 hD12 => ?_)
  exact Sg.ret (mi_return dX7_copyFrom_129 rfl (0, 0))
theorem C_X7_copyFrom {Z : MiZ} (hL : CL Z) (a0 a1 : Int) (D : MiD) (h0 : (0 ≤ a0 ∧ a0 < 12)) (h1 : (0 ≤ a1 ∧ a1 < 12)) (b : MiD) (hb : B_X7_copyFrom a0 a1 D = some b) : MC m_X7_copyFrom [(6, a0), (6, a1)] (D, Z) ((mi_LV Z) b) := MC.ofSg (L := (mi_LV Z)) (μ := m_X7_copyFrom) (args := [(6, a0), (6, a1)]) (M := (D, Z)) rfl wP_X7 (Nat.le_of_ble_eq_true rfl) (show Sg m_X7_copyFrom 0 [(6, a0), (6, a1)] [] (D, Z) (mi_LV Z) (B_X7_copyFrom a0 a1 D) from S_X7_copyFrom hL a0 a1 D h0 h1) hb
abbrev m_X7_init : MiI := (yX7_init, cX7_init, 1, none, 2, none)
def B_X7_init (v0 : Int) (D : MiD) (Z : MiZ) : Option (MiM) := if 0 ≤ Z.2 19 then mi_nl D Z 19 10 (fun D1 Z2 => mi_let (mi_st Z2.1 4 v0 0 (Z.2 19), Z2.2) fun Z4 => if 0 ≤ Z4.2 20 then mi_nl D1 Z4 20 10 (fun D5 Z6 => mi_let (mi_st Z6.1 4 v0 1 (Z4.2 20), Z6.2) fun Z8 => if 0 ≤ Z8.2 21 then mi_nl D5 Z8 21 10 (fun D9 Z10 => mi_let (mi_st Z10.1 4 v0 2 (Z8.2 21), Z10.2) fun Z12 => if 0 ≤ Z12.2 22 then mi_nl D9 Z12 22 10 (fun D13 Z14 => mi_let (mi_st Z14.1 4 v0 3 (Z12.2 22), Z14.2) fun Z16 => if 0 ≤ Z16.2 5 then mi_nl D13 Z16 5 2 (fun D17 Z18 => mi_bw (B_X8_init (Z16.2 5) D17 Z18) fun D20 Z21 => mi_let (mi_st Z21.1 4 v0 7 (Z16.2 5), Z21.2) fun Z22 => some (D20, Z22)) else none) else none) else none) else none) else none
set_option maxRecDepth 20000 in
theorem S_X7_init  (v0 : Int) (D : MiD) (Z : MiZ) (hL : XL Z) : 0 ≤ v0 → Sg m_X7_init 0 [(6, v0)] [] (D, Z) mi_LW (B_X7_init v0 D Z) := by
  intro hb0
  unfold B_X7_init
  refine Sg.go (pc' := 1) (mi_aload_n dX7_init_0 rfl) ?_
  refine Sg.go (pc' := 4) (mi_objInit dX7_init_1 wL_X7_3 wI_obj wC_obj (by decide) (by omega) (Nat.le_of_ble_eq_true rfl)) ?_
  refine Sg.go (pc' := 5) (mi_aload_n dX7_init_4 rfl) ?_
  refine Sg.go (pc' := 7) (mi_bipush (z := 10) dX7_init_5 rfl) ?_
  refine Sg.nl (pc' := 9) (r := 19) (n := 10) (mi_newarrI (r := 19) dX7_init_7 rfl wA_int rfl rfl (by decide)) (by decide) (fun hk3 D1 Z2 => ?_)
  have hL : XL Z2 := trivial
  refine Sg.goM (pc' := 12) (mi_pFA (r := 4) (k := 0) (t := 19) dX7_init_9 hC_4 (by decide) rfl rfl rfl rfl wF_X7_9 (by omega) rfl (Or.inr (Or.inr (Or.inr ⟨by show 2 ≤ (19 : Nat) + 2; omega, by first | exact Or.inl ⟨_, rfl⟩ | exact Or.inr ⟨_, rfl⟩⟩)))) ?_
  refine Sg.letZ (fun Z4 hZ4 => ?_)
  have hL : XL Z4 := trivial
  refine Sg.go (pc' := 13) (mi_aload_n dX7_init_12 rfl) ?_
  refine Sg.go (pc' := 15) (mi_bipush (z := 10) dX7_init_13 rfl) ?_
  refine Sg.nl (pc' := 17) (r := 20) (n := 10) (mi_newarrI (r := 20) dX7_init_15 rfl wA_int rfl rfl (by decide)) (by decide) (fun hk7 D5 Z6 => ?_)
  have hL : XL Z6 := trivial
  refine Sg.goM (pc' := 20) (mi_pFA (r := 4) (k := 1) (t := 20) dX7_init_17 hC_4 (by decide) rfl rfl rfl rfl wF_X7_15 (by omega) rfl (Or.inr (Or.inr (Or.inr ⟨by show 2 ≤ (20 : Nat) + 2; omega, by first | exact Or.inl ⟨_, rfl⟩ | exact Or.inr ⟨_, rfl⟩⟩)))) ?_
  refine Sg.letZ (fun Z8 hZ8 => ?_)
  have hL : XL Z8 := trivial
  refine Sg.go (pc' := 21) (mi_aload_n dX7_init_20 rfl) ?_
  refine Sg.go (pc' := 23) (mi_bipush (z := 10) dX7_init_21 rfl) ?_
  refine Sg.nl (pc' := 25) (r := 21) (n := 10) (mi_newarrI (r := 21) dX7_init_23 rfl wA_int rfl rfl (by decide)) (by decide) (fun hk11 D9 Z10 => ?_)
  have hL : XL Z10 := trivial
  refine Sg.goM (pc' := 28) (mi_pFA (r := 4) (k := 2) (t := 21) dX7_init_25 hC_4 (by decide) rfl rfl rfl rfl wF_X7_18 (by omega) rfl (Or.inr (Or.inr (Or.inr ⟨by show 2 ≤ (21 : Nat) + 2; omega, by first | exact Or.inl ⟨_, rfl⟩ | exact Or.inr ⟨_, rfl⟩⟩)))) ?_
  refine Sg.letZ (fun Z12 hZ12 => ?_)
  have hL : XL Z12 := trivial
  refine Sg.go (pc' := 29) (mi_aload_n dX7_init_28 rfl) ?_
  refine Sg.go (pc' := 31) (mi_bipush (z := 10) dX7_init_29 rfl) ?_
  refine Sg.nl (pc' := 33) (r := 22) (n := 10) (mi_newarrI (r := 22) dX7_init_31 rfl wA_int rfl rfl (by decide)) (by decide) (fun hk15 D13 Z14 => ?_)
  have hL : XL Z14 := trivial
  refine Sg.goM (pc' := 36) (mi_pFA (r := 4) (k := 3) (t := 22) dX7_init_33 hC_4 (by decide) rfl rfl rfl rfl wF_X7_21 (by omega) rfl (Or.inr (Or.inr (Or.inr ⟨by show 2 ≤ (22 : Nat) + 2; omega, by first | exact Or.inl ⟨_, rfl⟩ | exact Or.inr ⟨_, rfl⟩⟩)))) ?_
  refine Sg.letZ (fun Z16 hZ16 => ?_)
  have hL : XL Z16 := trivial
  refine Sg.go (pc' := 37) (mi_aload_n dX7_init_36 rfl) ?_
  refine Sg.nl (pc' := 40) (r := 5) (n := 2) (mi_new (r := 5) dX7_init_37 hC_5 wK_X7_24 wG_X8 wB_X8 hN_5.1 hN_5.2.1 hN_5.2.2) (by decide) (fun hk19 D17 Z18 => ?_)
  have hL : XL Z18 := trivial
  refine Sg.go (pc' := 41) (mi_dup dX7_init_40 (show (7 : Nat) ≠ 1 by decide)) ?_
  refine Sg.callW (pc' := 44) (μ' := m_X8_init) (args := [(7, (Z16.2 5))]) (mi_invIN (n := 0) (r := 5) dX7_init_41 (by omega) rfl rfl rfl wN_X8_init rfl ⟨by decide, by decide⟩ wL_X7_26 wI_X8_init wB_X8 wC_X8_init) (fun v hv => C_X8_init hL (Z16.2 5) D17 (by omega) v hv) (Nat.le_of_ble_eq_true rfl) rfl rfl (fun D20 Z21 => ?_)
  have hL : XL Z21 := trivial
  refine Sg.goM (pc' := 47) (mi_pFA (r := 4) (k := 7) (t := 5) dX7_init_44 hC_4 (by decide) rfl rfl rfl rfl wF_X7_27 (by omega) rfl (Or.inr (Or.inr (Or.inr ⟨by show 2 ≤ (5 : Nat) + 2; omega, by first | exact Or.inl ⟨_, rfl⟩ | exact Or.inr ⟨_, rfl⟩⟩)))) ?_
  refine Sg.letZ (fun Z22 hZ22 => ?_)
  have hL : XL Z22 := trivial
  exact Sg.ret (mi_return dX7_init_47 rfl (0, 0))
theorem C_X7_init {Z : MiZ} (hL : XL Z) (a0 : Int) (D : MiD) (h0 : 0 ≤ a0) (b : MiM) (hb : B_X7_init a0 D Z = some b) : MC m_X7_init [(6, a0)] (D, Z) (mi_LW b) := MC.ofSg (L := mi_LW) (μ := m_X7_init) (args := [(6, a0)]) (M := (D, Z)) rfl wP_X7 (Nat.le_of_ble_eq_true rfl) (show Sg m_X7_init 0 [(6, a0)] [] (D, Z) mi_LW (B_X7_init a0 D Z) from S_X7_init a0 D Z hL h0) hb
abbrev m_X9_codeOf : MiI := (yX9_codeOf, cX9_codeOf, 3, (some (.object "MendedProgram$Code")), 2, none)
def B_X9_codeOf (D : MiD) (Z : MiZ) (v0 : Int) (v1 : Int) (v2 : Int) : Option (Int) := if (B_X10_within v2 8) ≠ 0 then (if 0 ≤ v2 ∧ v2 < 8 then (if (Z.1 12 v0 v2) < 0 then (some (-1)) else (if 0 ≤ (Z.1 12 v0 v2) then (if 0 ≤ (Z.1 8 (Z.1 12 v0 v2) 1) then (if 0 ≤ v1 ∧ v1 < 12 then (some (Z.1 24 (Z.1 8 (Z.1 12 v0 v2) 1) v1)) else none) else none) else none)) else none) else (if 0 ≤ v1 ∧ v1 < 12 then (some (Z.1 11 v0 v1)) else none)
set_option maxRecDepth 20000 in
theorem S_X9_codeOf {D : MiD} {Z : MiZ} (hL : CL Z) (v0 v1 v2 : Int) : (0 ≤ v0 ∧ v0 < 2) → Sg m_X9_codeOf 0 [(4, v0), (0, v1), (0, v2)] [] (D, Z) (mi_LI 8 (D, Z)) (B_X9_codeOf D Z v0 v1 v2) := by
  intro hb0
  unfold B_X9_codeOf
  refine Sg.go (pc' := 1) (mi_iload_n dX9_codeOf_0 rfl) ?_
  refine Sg.go (pc' := 3) (mi_bipush (z := 8) dX9_codeOf_1 rfl) ?_
  refine Sg.callP (pc' := 6) (t := 0) (v := (B_X10_within v2 8)) (μ' := m_X10_within) (args := [(0, v2), (0, 8)]) (mi_invSN (n := 2) dX9_codeOf_3 rfl wN_X10_within rfl ⟨by decide, by decide⟩ wL_X9_201 wT_X10_within wB_X10 wC_X10_within) (C_X10_within hL v2 8 D) (Nat.le_of_ble_eq_true rfl) rfl rfl ?_
  refine Sg.ite (fun h1 => ?_) (fun h1 => ?_)
  · refine Sg.go (pc' := 16) (mi_ifne_t (tgt := 16) dX9_codeOf_6 (by decide) h1) ?_
    refine Sg.go (pc' := 17) (mi_aload_n dX9_codeOf_16 rfl) ?_
    refine Sg.go (pc' := 20) (mi_gfA (t := 12) (v := v0) (r := 2) (k := 1) dX9_codeOf_17 hC_2 (by decide) rfl wF_X9_19 (by omega) rfl (hL.2.1 _ 1 (by omega) (by omega) (by decide))) ?_
    refine Sg.go (pc' := 21) (mi_iload_n dX9_codeOf_20 rfl) ?_
    refine Sg.ck (fun hk2 => ?_)
    refine Sg.go (pc' := 22) (mi_aald (n := 8) (t := 8) (v := (Z.1 12 v0 v2)) dX9_codeOf_21 rfl hA_12 rfl (by omega) hk2 rfl rfl) ?_
    refine Sg.ite (fun h3 => ?_) (fun h3 => ?_)
    · refine Sg.go (pc' := 25) (mi_ifnonnull_f (tgt := 29) dX9_codeOf_22 (by decide) h3) ?_
      refine Sg.go (pc' := 26) (mi_null (r := 6) dX9_codeOf_25) ?_
      refine Sg.go (pc' := 40) (mi_goto (tgt := 40) dX9_codeOf_26 (by decide)) ?_
      exact Sg.ret (mi_areturn dX9_codeOf_40 rfl (Or.inl ⟨_, rfl⟩))
    · refine Sg.go (pc' := 29) (mi_ifnonnull_t (tgt := 29) dX9_codeOf_22 (by decide) h3) ?_
      refine Sg.go (pc' := 30) (mi_aload_n dX9_codeOf_29 rfl) ?_
      refine Sg.go (pc' := 33) (mi_gfA (t := 12) (v := v0) (r := 2) (k := 1) dX9_codeOf_30 hC_2 (by decide) rfl wF_X9_19 (by omega) rfl (hL.2.1 _ 1 (by omega) (by omega) (by decide))) ?_
      refine Sg.go (pc' := 34) (mi_iload_n dX9_codeOf_33 rfl) ?_
      refine Sg.go (pc' := 35) (mi_aald (n := 8) (t := 8) (v := (Z.1 12 v0 v2)) dX9_codeOf_34 rfl hA_12 rfl (by omega) hk2 rfl rfl) ?_
      refine Sg.ck (fun hk4 => ?_)
      refine Sg.go (pc' := 38) (mi_gfA (t := 24) (v := (Z.1 8 (Z.1 12 v0 v2) 1)) (r := 8) (k := 1) dX9_codeOf_35 hC_8 (by decide) rfl wF_X9_258 (by omega) rfl rfl) ?_
      refine Sg.go (pc' := 39) (mi_iload_n dX9_codeOf_38 rfl) ?_
      refine Sg.ck (fun hk5 => ?_)
      refine Sg.ck (fun hk6 => ?_)
      refine Sg.go (pc' := 40) (mi_aald (n := 12) (t := 6) (v := (Z.1 24 (Z.1 8 (Z.1 12 v0 v2) 1) v1)) dX9_codeOf_39 rfl hA_24 rfl (by omega) hk6 rfl rfl) ?_
      exact Sg.ret (mi_areturn dX9_codeOf_40 rfl (Or.inl ⟨_, rfl⟩))
  · refine Sg.go (pc' := 9) (mi_ifne_f (tgt := 16) dX9_codeOf_6 (by decide) h1) ?_
    refine Sg.go (pc' := 10) (mi_aload_n dX9_codeOf_9 rfl) ?_
    refine Sg.go (pc' := 13) (mi_gfA (t := 11) (v := v0) (r := 2) (k := 0) dX9_codeOf_10 hC_2 (by decide) rfl wF_X9_11 (by omega) rfl (hL.2.1 _ 0 (by omega) (by omega) (by decide))) ?_
    refine Sg.go (pc' := 14) (mi_iload_n dX9_codeOf_13 rfl) ?_
    refine Sg.ck (fun hk7 => ?_)
    refine Sg.go (pc' := 15) (mi_aald (n := 12) (t := 6) (v := (Z.1 11 v0 v1)) dX9_codeOf_14 rfl hA_11 rfl (by omega) hk7 rfl rfl) ?_
    exact Sg.ret (mi_areturn dX9_codeOf_15 rfl (Or.inl ⟨_, rfl⟩))
theorem C_X9_codeOf {Z : MiZ} (hL : CL Z) (a0 a1 a2 : Int) (D : MiD) (h0 : (0 ≤ a0 ∧ a0 < 2)) (b : Int) (hb : B_X9_codeOf D Z a0 a1 a2 = some b) : MC m_X9_codeOf [(4, a0), (0, a1), (0, a2)] (D, Z) ((mi_LI 8 (D, Z)) b) := MC.ofSg (L := (mi_LI 8 (D, Z))) (μ := m_X9_codeOf) (args := [(4, a0), (0, a1), (0, a2)]) (M := (D, Z)) rfl wP_X9 (Nat.le_of_ble_eq_true rfl) (show Sg m_X9_codeOf 0 [(4, a0), (0, a1), (0, a2)] [] (D, Z) (mi_LI 8 (D, Z)) (B_X9_codeOf D Z a0 a1 a2) from S_X9_codeOf hL a0 a1 a2 h0) hb
abbrev m_X9_has : MiI := (yX9_has, cX9_has, 3, (some .boolean), 2, none)
def B_X9_has (D : MiD) (Z : MiZ) (v0 : Int) (v1 : Int) (v2 : Int) : Option (Int) := if (B_X10_within v1 8) = 0 then (some 0) else (if 0 ≤ v1 ∧ v1 < 8 then (if (Z.1 12 v0 v1) < 0 then (some 0) else (if 0 ≤ (Z.1 12 v0 v1) then (if 0 ≤ (Z.1 8 (Z.1 12 v0 v1) 1) then (if 0 ≤ v2 ∧ v2 < 12 then (if (Z.1 24 (Z.1 8 (Z.1 12 v0 v1) 1) v2) < 0 then (some 0) else (some 1)) else none) else none) else none)) else none)
set_option maxRecDepth 20000 in
theorem S_X9_has {D : MiD} {Z : MiZ} (hL : CL Z) (v0 v1 v2 : Int) : (0 ≤ v0 ∧ v0 < 2) → Sg m_X9_has 0 [(4, v0), (0, v1), (0, v2)] [] (D, Z) (mi_LI 0 (D, Z)) (B_X9_has D Z v0 v1 v2) := by
  intro hb0
  unfold B_X9_has
  refine Sg.go (pc' := 1) (mi_iload_n dX9_has_0 rfl) ?_
  refine Sg.go (pc' := 3) (mi_bipush (z := 8) dX9_has_1 rfl) ?_
  refine Sg.callP (pc' := 6) (t := 0) (v := (B_X10_within v1 8)) (μ' := m_X10_within) (args := [(0, v1), (0, 8)]) (mi_invSN (n := 2) dX9_has_3 rfl wN_X10_within rfl ⟨by decide, by decide⟩ wL_X9_201 wT_X10_within wB_X10 wC_X10_within) (C_X10_within hL v1 8 D) (Nat.le_of_ble_eq_true rfl) rfl rfl ?_
  refine Sg.ite (fun h1 => ?_) (fun h1 => ?_)
  · refine Sg.go (pc' := 36) (mi_ifeq_t (tgt := 36) dX9_has_6 (by decide) h1) ?_
    refine Sg.go (pc' := 37) (mi_iconst (z := 0) dX9_has_36 rfl) ?_
    exact Sg.ret (mi_ireturn dX9_has_37 rfl (Or.inr (Or.inl ⟨rfl, Or.inl rfl⟩)))
  · refine Sg.go (pc' := 9) (mi_ifeq_f (tgt := 36) dX9_has_6 (by decide) h1) ?_
    refine Sg.go (pc' := 10) (mi_aload_n dX9_has_9 rfl) ?_
    refine Sg.go (pc' := 13) (mi_gfA (t := 12) (v := v0) (r := 2) (k := 1) dX9_has_10 hC_2 (by decide) rfl wF_X9_19 (by omega) rfl (hL.2.1 _ 1 (by omega) (by omega) (by decide))) ?_
    refine Sg.go (pc' := 14) (mi_iload_n dX9_has_13 rfl) ?_
    refine Sg.ck (fun hk2 => ?_)
    refine Sg.go (pc' := 15) (mi_aald (n := 8) (t := 8) (v := (Z.1 12 v0 v1)) dX9_has_14 rfl hA_12 rfl (by omega) hk2 rfl rfl) ?_
    refine Sg.ite (fun h3 => ?_) (fun h3 => ?_)
    · refine Sg.go (pc' := 36) (mi_ifnull_t (tgt := 36) dX9_has_15 (by decide) h3) ?_
      refine Sg.go (pc' := 37) (mi_iconst (z := 0) dX9_has_36 rfl) ?_
      exact Sg.ret (mi_ireturn dX9_has_37 rfl (Or.inr (Or.inl ⟨rfl, Or.inl rfl⟩)))
    · refine Sg.go (pc' := 18) (mi_ifnull_f (tgt := 36) dX9_has_15 (by decide) h3) ?_
      refine Sg.go (pc' := 19) (mi_aload_n dX9_has_18 rfl) ?_
      refine Sg.go (pc' := 22) (mi_gfA (t := 12) (v := v0) (r := 2) (k := 1) dX9_has_19 hC_2 (by decide) rfl wF_X9_19 (by omega) rfl (hL.2.1 _ 1 (by omega) (by omega) (by decide))) ?_
      refine Sg.go (pc' := 23) (mi_iload_n dX9_has_22 rfl) ?_
      refine Sg.go (pc' := 24) (mi_aald (n := 8) (t := 8) (v := (Z.1 12 v0 v1)) dX9_has_23 rfl hA_12 rfl (by omega) hk2 rfl rfl) ?_
      refine Sg.ck (fun hk4 => ?_)
      refine Sg.go (pc' := 27) (mi_gfA (t := 24) (v := (Z.1 8 (Z.1 12 v0 v1) 1)) (r := 8) (k := 1) dX9_has_24 hC_8 (by decide) rfl wF_X9_258 (by omega) rfl rfl) ?_
      refine Sg.go (pc' := 28) (mi_iload_n dX9_has_27 rfl) ?_
      refine Sg.ck (fun hk5 => ?_)
      refine Sg.ck (fun hk6 => ?_)
      refine Sg.go (pc' := 29) (mi_aald (n := 12) (t := 6) (v := (Z.1 24 (Z.1 8 (Z.1 12 v0 v1) 1) v2)) dX9_has_28 rfl hA_24 rfl (by omega) hk6 rfl rfl) ?_
      refine Sg.ite (fun h7 => ?_) (fun h7 => ?_)
      · refine Sg.go (pc' := 36) (mi_ifnull_t (tgt := 36) dX9_has_29 (by decide) h7) ?_
        refine Sg.go (pc' := 37) (mi_iconst (z := 0) dX9_has_36 rfl) ?_
        exact Sg.ret (mi_ireturn dX9_has_37 rfl (Or.inr (Or.inl ⟨rfl, Or.inl rfl⟩)))
      · refine Sg.go (pc' := 32) (mi_ifnull_f (tgt := 36) dX9_has_29 (by decide) h7) ?_
        refine Sg.go (pc' := 33) (mi_iconst (z := 1) dX9_has_32 rfl) ?_
        refine Sg.go (pc' := 37) (mi_goto (tgt := 37) dX9_has_33 (by decide)) ?_
        exact Sg.ret (mi_ireturn dX9_has_37 rfl (Or.inr (Or.inl ⟨rfl, Or.inr rfl⟩)))
theorem C_X9_has {Z : MiZ} (hL : CL Z) (a0 a1 a2 : Int) (D : MiD) (h0 : (0 ≤ a0 ∧ a0 < 2)) (b : Int) (hb : B_X9_has D Z a0 a1 a2 = some b) : MC m_X9_has [(4, a0), (0, a1), (0, a2)] (D, Z) ((mi_LI 0 (D, Z)) b) := MC.ofSg (L := (mi_LI 0 (D, Z))) (μ := m_X9_has) (args := [(4, a0), (0, a1), (0, a2)]) (M := (D, Z)) rfl wP_X9 (Nat.le_of_ble_eq_true rfl) (show Sg m_X9_has 0 [(4, a0), (0, a1), (0, a2)] [] (D, Z) (mi_LI 0 (D, Z)) (B_X9_has D Z a0 a1 a2) from S_X9_has hL a0 a1 a2 h0) hb
abbrev m_X9_keepShadow : MiI := (yX9_keepShadow, cX9_keepShadow, 4, (some .int), 2, none)
def B_X9_keepShadow (v0 : Int) (v1 : Int) (v2 : Int) (D : MiD) : Option (Int × MiD) := mi_bi (B_X9_rowAt D v0 v1 (-1)) fun y1 => if 0 ≤ y1 ∧ y1 < 120 then (if (D 3 y1 0) ≠ 12 then (if (D 3 y1 0) ≠ 11 then (mi_bi (B_X9_rowAt D v0 v1 v2) fun y5 => if 0 ≤ y5 ∧ y5 < 120 then (mi_bi (B_X6_copyFrom y5 y1 D) fun D7 => some (0, D7)) else none) else (some (2, D))) else (some (3, D))) else none
set_option maxRecDepth 20000 in
theorem S_X9_keepShadow {Z : MiZ} (hL : CL Z) (v0 v1 v2 : Int) (D : MiD) : (0 ≤ v0 ∧ v0 < 2) → Sg m_X9_keepShadow 0 [(4, v0), (0, v1), (0, v2), mi_un] [] (D, Z) (mi_LD 0 Z) (B_X9_keepShadow v0 v1 v2 D) := by
  intro hb0
  unfold B_X9_keepShadow
  refine Sg.go (pc' := 1) (mi_aload_n dX9_keepShadow_0 rfl) ?_
  refine Sg.go (pc' := 2) (mi_iload_n dX9_keepShadow_1 rfl) ?_
  refine Sg.go (pc' := 3) (mi_iconst (z := (-1)) dX9_keepShadow_2 rfl) ?_
  refine Sg.callI (pc' := 6) (t := 5) (μ' := m_X9_rowAt) (args := [(4, v0), (0, v1), (0, (-1))]) (mi_invV (n := 2) (r := 2) dX9_keepShadow_3 hC_2 (by omega) rfl rfl wN_X9_rowAt rfl ⟨by decide, by decide⟩ wL_X9_88 wI_X9_rowAt wS_X9_rowAt wB_X9 wC_X9_rowAt) (fun v hv => C_X9_rowAt hL v0 v1 (-1) D (by omega) v hv) (Nat.le_of_ble_eq_true rfl) rfl rfl (fun y1 => ?_)
  refine Sg.go (pc' := 7) (mi_astore_n (ls1 := [(4, v0), (0, v1), (0, v2), (5, y1)]) dX9_keepShadow_6 (by decide) rfl) ?_
  refine Sg.go (pc' := 8) (mi_aload_n dX9_keepShadow_7 rfl) ?_
  refine Sg.ck (fun hk2 => ?_)
  refine Sg.go (pc' := 11) (mi_gfI (r := 3) (k := 0) dX9_keepShadow_8 hC_3 (by decide) rfl wF_X9_108 (by omega) rfl) ?_
  refine Sg.go (pc' := 13) (mi_bipush (z := 12) dX9_keepShadow_11 rfl) ?_
  refine Sg.ite (fun h3 => ?_) (fun h3 => ?_)
  · refine Sg.go (pc' := 18) (mi_icmpne_t (tgt := 18) dX9_keepShadow_13 (by decide) h3) ?_
    refine Sg.go (pc' := 19) (mi_aload_n dX9_keepShadow_18 rfl) ?_
    refine Sg.go (pc' := 22) (mi_gfI (r := 3) (k := 0) dX9_keepShadow_19 hC_3 (by decide) rfl wF_X9_108 (by omega) rfl) ?_
    refine Sg.go (pc' := 24) (mi_bipush (z := 11) dX9_keepShadow_22 rfl) ?_
    refine Sg.ite (fun h4 => ?_) (fun h4 => ?_)
    · refine Sg.go (pc' := 29) (mi_icmpne_t (tgt := 29) dX9_keepShadow_24 (by decide) h4) ?_
      refine Sg.go (pc' := 30) (mi_aload_n dX9_keepShadow_29 rfl) ?_
      refine Sg.go (pc' := 31) (mi_iload_n dX9_keepShadow_30 rfl) ?_
      refine Sg.go (pc' := 32) (mi_iload_n dX9_keepShadow_31 rfl) ?_
      refine Sg.callI (pc' := 35) (t := 5) (μ' := m_X9_rowAt) (args := [(4, v0), (0, v1), (0, v2)]) (mi_invV (n := 2) (r := 2) dX9_keepShadow_32 hC_2 (by omega) rfl rfl wN_X9_rowAt rfl ⟨by decide, by decide⟩ wL_X9_88 wI_X9_rowAt wS_X9_rowAt wB_X9 wC_X9_rowAt) (fun v hv => C_X9_rowAt hL v0 v1 v2 D (by omega) v hv) (Nat.le_of_ble_eq_true rfl) rfl rfl (fun y5 => ?_)
      refine Sg.go (pc' := 36) (mi_aload_n dX9_keepShadow_35 rfl) ?_
      refine Sg.ck (fun hk6 => ?_)
      refine Sg.callV (pc' := 39) (μ' := m_X6_copyFrom) (args := [(5, y5), (5, y1)]) (mi_invV (n := 1) (r := 3) dX9_keepShadow_36 hC_3 (by omega) rfl rfl wN_X6_copyFrom rfl ⟨by decide, by decide⟩ wL_X9_62 wI_X6_copyFrom wS_X6_copyFrom wB_X6 wC_X6_copyFrom) (fun v hv => C_X6_copyFrom hL y5 y1 D (by omega) (by omega) v hv) (Nat.le_of_ble_eq_true rfl) rfl rfl (fun D7 => ?_)
      refine Sg.go (pc' := 40) (mi_iconst (z := 0) dX9_keepShadow_39 rfl) ?_
      exact Sg.ret (mi_ireturn dX9_keepShadow_40 rfl (Or.inl rfl))
    · refine Sg.go (pc' := 27) (mi_icmpne_f (tgt := 29) dX9_keepShadow_24 (by decide) h4) ?_
      refine Sg.go (pc' := 28) (mi_iconst (z := 2) dX9_keepShadow_27 rfl) ?_
      exact Sg.ret (mi_ireturn dX9_keepShadow_28 rfl (Or.inl rfl))
  · refine Sg.go (pc' := 16) (mi_icmpne_f (tgt := 18) dX9_keepShadow_13 (by decide) h3) ?_
    refine Sg.go (pc' := 17) (mi_iconst (z := 3) dX9_keepShadow_16 rfl) ?_
    exact Sg.ret (mi_ireturn dX9_keepShadow_17 rfl (Or.inl rfl))
theorem C_X9_keepShadow {Z : MiZ} (hL : CL Z) (a0 a1 a2 : Int) (D : MiD) (h0 : (0 ≤ a0 ∧ a0 < 2)) (b : Int × MiD) (hb : B_X9_keepShadow a0 a1 a2 D = some b) : MC m_X9_keepShadow [(4, a0), (0, a1), (0, a2)] (D, Z) ((mi_LD 0 Z) b) := MC.ofSg (L := (mi_LD 0 Z)) (μ := m_X9_keepShadow) (args := [(4, a0), (0, a1), (0, a2)]) (M := (D, Z)) rfl wP_X9 (Nat.le_of_ble_eq_true rfl) (show Sg m_X9_keepShadow 0 [(4, a0), (0, a1), (0, a2), mi_un] [] (D, Z) (mi_LD 0 Z) (B_X9_keepShadow a0 a1 a2 D) from S_X9_keepShadow hL a0 a1 a2 D h0) hb
abbrev m_X9_leftToTurn : MiI := (yX9_leftToTurn, cX9_leftToTurn, 3, (some .int), 2, none)
def B_X9_leftToTurn_4 (D : MiD) : Nat → Int → Int → Int → Option (Int)
  | 0, _, _, _ => none
  | f + 1, v0, v1, v2 => if 6 ≤ v2 then (some v1) else (mi_bi (B_X9_hasTurned D v0 v2) fun y2 => if y2 ≠ 0 then (B_X9_leftToTurn_4 D f v0 v1 (mi_w (v2 + 1))) else (B_X9_leftToTurn_4 D f v0 (mi_w (v1 + 1)) (mi_w (v2 + 1))))
set_option maxRecDepth 20000 in
theorem S_X9_leftToTurn_4 {D : MiD} {Z : MiZ} (hL : CL Z) : ∀ (f : Nat) (v0 v1 v2 : Int), (0 ≤ v0 ∧ v0 < 2) → Sg m_X9_leftToTurn 4 [(4, v0), (0, v1), (0, v2)] [] (D, Z) (mi_LI 0 (D, Z)) (B_X9_leftToTurn_4 D f v0 v1 v2) := by
  intro f
  induction f with
  | zero => intros; exact Sg.nope
  | succ f K4 =>
    intro v0 v1 v2 hb0
    show Sg m_X9_leftToTurn 4 [(4, v0), (0, v1), (0, v2)] [] (D, Z) (mi_LI 0 (D, Z)) (if 6 ≤ v2 then (some v1) else (mi_bi (B_X9_hasTurned D v0 v2) fun y2 => if y2 ≠ 0 then (B_X9_leftToTurn_4 D f v0 v1 (mi_w (v2 + 1))) else (B_X9_leftToTurn_4 D f v0 (mi_w (v1 + 1)) (mi_w (v2 + 1)))))
    refine Sg.go (pc' := 5) (mi_iload_n dX9_leftToTurn_4 rfl) ?_
    refine Sg.go (pc' := 7) (mi_bipush (z := 6) dX9_leftToTurn_5 rfl) ?_
    refine Sg.ite (fun h1 => ?_) (fun h1 => ?_)
    · refine Sg.go (pc' := 27) (mi_icmpge_t (tgt := 27) dX9_leftToTurn_7 (by decide) h1) ?_
      refine Sg.go (pc' := 28) (mi_iload_n dX9_leftToTurn_27 rfl) ?_
      exact Sg.ret (mi_ireturn dX9_leftToTurn_28 rfl (Or.inl rfl))
    · refine Sg.go (pc' := 10) (mi_icmpge_f (tgt := 27) dX9_leftToTurn_7 (by decide) h1) ?_
      refine Sg.go (pc' := 11) (mi_aload_n dX9_leftToTurn_10 rfl) ?_
      refine Sg.go (pc' := 12) (mi_iload_n dX9_leftToTurn_11 rfl) ?_
      refine Sg.callI (pc' := 15) (t := 0) (μ' := m_X9_hasTurned) (args := [(4, v0), (0, v2)]) (mi_invV (n := 1) (r := 2) dX9_leftToTurn_12 hC_2 (by omega) rfl rfl wN_X9_hasTurned rfl ⟨by decide, by decide⟩ wL_X9_291 wI_X9_hasTurned wS_X9_hasTurned wB_X9 wC_X9_hasTurned) (fun v hv => C_X9_hasTurned hL v0 v2 D (by omega) v hv) (Nat.le_of_ble_eq_true rfl) rfl rfl (fun y2 => ?_)
      refine Sg.ite (fun h3 => ?_) (fun h3 => ?_)
      · refine Sg.go (pc' := 21) (mi_ifne_t (tgt := 21) dX9_leftToTurn_15 (by decide) h3) ?_
        refine Sg.go (pc' := 24) (mi_iinc (z := 1) (ls1 := [(4, v0), (0, v1), (0, (mi_w (v2 + 1)))]) dX9_leftToTurn_21 (by decide) rfl rfl rfl) ?_
        refine Sg.go (pc' := 4) (mi_goto (tgt := 4) dX9_leftToTurn_24 (by decide)) ?_
        exact K4 v0 v1 (mi_w (v2 + 1)) hb0
      · refine Sg.go (pc' := 18) (mi_ifne_f (tgt := 21) dX9_leftToTurn_15 (by decide) h3) ?_
        refine Sg.go (pc' := 21) (mi_iinc (z := 1) (ls1 := [(4, v0), (0, (mi_w (v1 + 1))), (0, v2)]) dX9_leftToTurn_18 (by decide) rfl rfl rfl) ?_
        refine Sg.go (pc' := 24) (mi_iinc (z := 1) (ls1 := [(4, v0), (0, (mi_w (v1 + 1))), (0, (mi_w (v2 + 1)))]) dX9_leftToTurn_21 (by decide) rfl rfl rfl) ?_
        refine Sg.go (pc' := 4) (mi_goto (tgt := 4) dX9_leftToTurn_24 (by decide)) ?_
        exact K4 v0 (mi_w (v1 + 1)) (mi_w (v2 + 1)) hb0
def B_X9_leftToTurn (D : MiD) (v0 : Int) : Option (Int) := B_X9_leftToTurn_4 D mi_fuel v0 0 0
set_option maxRecDepth 20000 in
theorem S_X9_leftToTurn {D : MiD} {Z : MiZ} (hL : CL Z) (v0 : Int) : (0 ≤ v0 ∧ v0 < 2) → Sg m_X9_leftToTurn 0 [(4, v0), mi_un, mi_un] [] (D, Z) (mi_LI 0 (D, Z)) (B_X9_leftToTurn D v0) := by
  intro hb0
  unfold B_X9_leftToTurn
  refine Sg.go (pc' := 1) (mi_iconst (z := 0) dX9_leftToTurn_0 rfl) ?_
  refine Sg.go (pc' := 2) (mi_istore_n (ls1 := [(4, v0), (0, 0), mi_un]) dX9_leftToTurn_1 (by decide) rfl) ?_
  refine Sg.go (pc' := 3) (mi_iconst (z := 0) dX9_leftToTurn_2 rfl) ?_
  refine Sg.go (pc' := 4) (mi_istore_n (ls1 := [(4, v0), (0, 0), (0, 0)]) dX9_leftToTurn_3 (by decide) rfl) ?_
  exact S_X9_leftToTurn_4 hL mi_fuel v0 0 0 hb0
theorem C_X9_leftToTurn {Z : MiZ} (hL : CL Z) (a0 : Int) (D : MiD) (h0 : (0 ≤ a0 ∧ a0 < 2)) (b : Int) (hb : B_X9_leftToTurn D a0 = some b) : MC m_X9_leftToTurn [(4, a0)] (D, Z) ((mi_LI 0 (D, Z)) b) := MC.ofSg (L := (mi_LI 0 (D, Z))) (μ := m_X9_leftToTurn) (args := [(4, a0)]) (M := (D, Z)) rfl wP_X9 (Nat.le_of_ble_eq_true rfl) (show Sg m_X9_leftToTurn 0 [(4, a0), mi_un, mi_un] [] (D, Z) (mi_LI 0 (D, Z)) (B_X9_leftToTurn D a0) from S_X9_leftToTurn hL a0 h0) hb
abbrev m_X9_shadowBits : MiI := (yX9_shadowBits, cX9_shadowBits, 4, (some .int), 2, none)
def B_X9_shadowBits_4 (D : MiD) : Nat → Int → Int → Int → Int → Option (Int)
  | 0, _, _, _, _ => none
  | f + 1, v0, v1, v2, v3 => if 5 ≤ v3 then (some v2) else (mi_bi (B_X9_rowAt D v0 v1 v3) fun y2 => if 0 ≤ y2 ∧ y2 < 120 then (if (D 3 y2 0) = 12 then (B_X9_shadowBits_4 D f v0 v1 v2 (mi_w (v3 + 1))) else (mi_let (mi_or v2 (mi_shl 1 v3)) fun x5 => B_X9_shadowBits_4 D f v0 v1 x5 (mi_w (v3 + 1)))) else none)
set_option maxRecDepth 20000 in
theorem S_X9_shadowBits_4 {D : MiD} {Z : MiZ} (hL : CL Z) : ∀ (f : Nat) (v0 v1 v2 v3 : Int), (0 ≤ v0 ∧ v0 < 2) → Sg m_X9_shadowBits 4 [(4, v0), (0, v1), (0, v2), (0, v3)] [] (D, Z) (mi_LI 0 (D, Z)) (B_X9_shadowBits_4 D f v0 v1 v2 v3) := by
  intro f
  induction f with
  | zero => intros; exact Sg.nope
  | succ f K4 =>
    intro v0 v1 v2 v3 hb0
    show Sg m_X9_shadowBits 4 [(4, v0), (0, v1), (0, v2), (0, v3)] [] (D, Z) (mi_LI 0 (D, Z)) (if 5 ≤ v3 then (some v2) else (mi_bi (B_X9_rowAt D v0 v1 v3) fun y2 => if 0 ≤ y2 ∧ y2 < 120 then (if (D 3 y2 0) = 12 then (B_X9_shadowBits_4 D f v0 v1 v2 (mi_w (v3 + 1))) else (mi_let (mi_or v2 (mi_shl 1 v3)) fun x5 => B_X9_shadowBits_4 D f v0 v1 x5 (mi_w (v3 + 1)))) else none))
    refine Sg.go (pc' := 5) (mi_iload_n dX9_shadowBits_4 rfl) ?_
    refine Sg.go (pc' := 6) (mi_iconst (z := 5) dX9_shadowBits_5 rfl) ?_
    refine Sg.ite (fun h1 => ?_) (fun h1 => ?_)
    · refine Sg.go (pc' := 35) (mi_icmpge_t (tgt := 35) dX9_shadowBits_6 (by decide) h1) ?_
      refine Sg.go (pc' := 36) (mi_iload_n dX9_shadowBits_35 rfl) ?_
      exact Sg.ret (mi_ireturn dX9_shadowBits_36 rfl (Or.inl rfl))
    · refine Sg.go (pc' := 9) (mi_icmpge_f (tgt := 35) dX9_shadowBits_6 (by decide) h1) ?_
      refine Sg.go (pc' := 10) (mi_aload_n dX9_shadowBits_9 rfl) ?_
      refine Sg.go (pc' := 11) (mi_iload_n dX9_shadowBits_10 rfl) ?_
      refine Sg.go (pc' := 12) (mi_iload_n dX9_shadowBits_11 rfl) ?_
      refine Sg.callI (pc' := 15) (t := 5) (μ' := m_X9_rowAt) (args := [(4, v0), (0, v1), (0, v3)]) (mi_invV (n := 2) (r := 2) dX9_shadowBits_12 hC_2 (by omega) rfl rfl wN_X9_rowAt rfl ⟨by decide, by decide⟩ wL_X9_88 wI_X9_rowAt wS_X9_rowAt wB_X9 wC_X9_rowAt) (fun v hv => C_X9_rowAt hL v0 v1 v3 D (by omega) v hv) (Nat.le_of_ble_eq_true rfl) rfl rfl (fun y2 => ?_)
      refine Sg.ck (fun hk3 => ?_)
      refine Sg.go (pc' := 18) (mi_gfI (r := 3) (k := 0) dX9_shadowBits_15 hC_3 (by decide) rfl wF_X9_108 (by omega) rfl) ?_
      refine Sg.go (pc' := 20) (mi_bipush (z := 12) dX9_shadowBits_18 rfl) ?_
      refine Sg.ite (fun h4 => ?_) (fun h4 => ?_)
      · refine Sg.go (pc' := 29) (mi_icmpeq_t (tgt := 29) dX9_shadowBits_20 (by decide) h4) ?_
        refine Sg.go (pc' := 32) (mi_iinc (z := 1) (ls1 := [(4, v0), (0, v1), (0, v2), (0, (mi_w (v3 + 1)))]) dX9_shadowBits_29 (by decide) rfl rfl rfl) ?_
        refine Sg.go (pc' := 4) (mi_goto (tgt := 4) dX9_shadowBits_32 (by decide)) ?_
        exact K4 v0 v1 v2 (mi_w (v3 + 1)) hb0
      · refine Sg.go (pc' := 23) (mi_icmpeq_f (tgt := 29) dX9_shadowBits_20 (by decide) h4) ?_
        refine Sg.go (pc' := 24) (mi_iload_n dX9_shadowBits_23 rfl) ?_
        refine Sg.go (pc' := 25) (mi_iconst (z := 1) dX9_shadowBits_24 rfl) ?_
        refine Sg.go (pc' := 26) (mi_iload_n dX9_shadowBits_25 rfl) ?_
        refine Sg.go (pc' := 27) (mi_ishl dX9_shadowBits_26) ?_
        refine Sg.go (pc' := 28) (mi_ior dX9_shadowBits_27) ?_
        refine Sg.letI (fun x5 hx5 => ?_)
        refine Sg.go (pc' := 29) (mi_istore_n (ls1 := [(4, v0), (0, v1), (0, x5), (0, v3)]) dX9_shadowBits_28 (by decide) rfl) ?_
        refine Sg.go (pc' := 32) (mi_iinc (z := 1) (ls1 := [(4, v0), (0, v1), (0, x5), (0, (mi_w (v3 + 1)))]) dX9_shadowBits_29 (by decide) rfl rfl rfl) ?_
        refine Sg.go (pc' := 4) (mi_goto (tgt := 4) dX9_shadowBits_32 (by decide)) ?_
        exact K4 v0 v1 x5 (mi_w (v3 + 1)) hb0
def B_X9_shadowBits (D : MiD) (v0 : Int) (v1 : Int) : Option (Int) := B_X9_shadowBits_4 D mi_fuel v0 v1 0 0
set_option maxRecDepth 20000 in
theorem S_X9_shadowBits {D : MiD} {Z : MiZ} (hL : CL Z) (v0 v1 : Int) : (0 ≤ v0 ∧ v0 < 2) → Sg m_X9_shadowBits 0 [(4, v0), (0, v1), mi_un, mi_un] [] (D, Z) (mi_LI 0 (D, Z)) (B_X9_shadowBits D v0 v1) := by
  intro hb0
  unfold B_X9_shadowBits
  refine Sg.go (pc' := 1) (mi_iconst (z := 0) dX9_shadowBits_0 rfl) ?_
  refine Sg.go (pc' := 2) (mi_istore_n (ls1 := [(4, v0), (0, v1), (0, 0), mi_un]) dX9_shadowBits_1 (by decide) rfl) ?_
  refine Sg.go (pc' := 3) (mi_iconst (z := 0) dX9_shadowBits_2 rfl) ?_
  refine Sg.go (pc' := 4) (mi_istore_n (ls1 := [(4, v0), (0, v1), (0, 0), (0, 0)]) dX9_shadowBits_3 (by decide) rfl) ?_
  exact S_X9_shadowBits_4 hL mi_fuel v0 v1 0 0 hb0
theorem C_X9_shadowBits {Z : MiZ} (hL : CL Z) (a0 a1 : Int) (D : MiD) (h0 : (0 ≤ a0 ∧ a0 < 2)) (b : Int) (hb : B_X9_shadowBits D a0 a1 = some b) : MC m_X9_shadowBits [(4, a0), (0, a1)] (D, Z) ((mi_LI 0 (D, Z)) b) := MC.ofSg (L := (mi_LI 0 (D, Z))) (μ := m_X9_shadowBits) (args := [(4, a0), (0, a1)]) (M := (D, Z)) rfl wP_X9 (Nat.le_of_ble_eq_true rfl) (show Sg m_X9_shadowBits 0 [(4, a0), (0, a1), mi_un, mi_un] [] (D, Z) (mi_LI 0 (D, Z)) (B_X9_shadowBits D a0 a1) from S_X9_shadowBits hL a0 a1 h0) hb
abbrev m_J0_indexOf_7cf53 : MiI := (yJ0_indexOf_7cf53, cJ0_indexOf_7cf53, 3, (some .int), 3, none)
def B_J0_indexOf_7cf53 (D : MiD) (v0 : Int) (v1 : Int) (v2 : Int) : Option (Int) := mi_bi (B_J0_length_8abf5 D v0) fun y1 => mi_bi (B_J1_indexOf_4cfef D v0 v1 v2 y1) fun y2 => some y2
set_option maxRecDepth 20000 in
theorem S_J0_indexOf_7cf53 {D : MiD} {Z : MiZ} (hL : XL Z) (v0 v1 v2 : Int) : (0 ≤ v0 ∧ v0 < 64) → Sg m_J0_indexOf_7cf53 0 [(29, v0), (0, v1), (0, v2)] [] (D, Z) (mi_LI 0 (D, Z)) (B_J0_indexOf_7cf53 D v0 v1 v2) := by
  intro hb0
  unfold B_J0_indexOf_7cf53
  refine Sg.go (pc' := 1) (mi_aload_n dJ0_indexOf_7cf53_0 rfl) ?_
  refine Sg.callP (pc' := 4) (t := 0) (v := 1) (μ' := m_J0_isLatin1_aae02) (args := [(29, v0)]) (mi_invC (n := 0) (r := 27) dJ0_indexOf_7cf53_1 (by decide) mi_oSt (by omega) rfl rfl wN_J0_isLatin1_aae02 rfl ⟨by decide, by decide⟩ wL_J0_492 wI_J0_isLatin1_aae02 wS_J0_isLatin1_aae02 wB_J0 wC_J0_isLatin1_aae02) (C_J0_isLatin1_aae02 hL v0 D (by omega) 1 rfl) (Nat.le_of_ble_eq_true rfl) rfl rfl ?_
  refine Sg.go (pc' := 7) (mi_ifeq_f (tgt := 23) dJ0_indexOf_7cf53_4 (by decide) (by decide)) ?_
  refine Sg.go (pc' := 8) (mi_aload_n dJ0_indexOf_7cf53_7 rfl) ?_
  refine Sg.go (pc' := 11) (mi_gfVa dJ0_indexOf_7cf53_8 wF_J0_9 (by omega)) ?_
  refine Sg.go (pc' := 12) (mi_iload_n dJ0_indexOf_7cf53_11 rfl) ?_
  refine Sg.go (pc' := 13) (mi_iload_n dJ0_indexOf_7cf53_12 rfl) ?_
  refine Sg.go (pc' := 14) (mi_aload_n dJ0_indexOf_7cf53_13 rfl) ?_
  refine Sg.callI (pc' := 17) (t := 0) (μ' := m_J0_length_8abf5) (args := [(29, v0)]) (mi_invC (n := 0) (r := 27) dJ0_indexOf_7cf53_14 (by decide) mi_oSt (by omega) rfl rfl wN_J0_length_8abf5 rfl ⟨by decide, by decide⟩ wL_J0_505 wI_J0_length_8abf5 wS_J0_length_8abf5 wB_J0 wC_J0_length_8abf5) (fun v hv => C_J0_length_8abf5 hL v0 D (by omega) v hv) (Nat.le_of_ble_eq_true rfl) rfl rfl (fun y1 => ?_)
  refine Sg.callI (pc' := 20) (t := 0) (μ' := m_J1_indexOf_4cfef) (args := [(33, v0), (0, v1), (0, v2), (0, y1)]) (mi_invS (n := 4) dJ0_indexOf_7cf53_17 rfl wN_J1_indexOf_4cfef rfl ⟨by decide, by decide⟩ wL_J0_637 wT_J1_indexOf_4cfef wB_J1 wC_J1_indexOf_4cfef) (fun v hv => C_J1_indexOf_4cfef hL v0 v1 v2 y1 D (by omega) v hv) (Nat.le_of_ble_eq_true rfl) rfl rfl (fun y2 => ?_)
  refine Sg.go (pc' := 36) (mi_goto (tgt := 36) dJ0_indexOf_7cf53_20 (by decide)) ?_
  exact Sg.ret (mi_ireturn dJ0_indexOf_7cf53_36 rfl (Or.inl rfl))
theorem C_J0_indexOf_7cf53 {Z : MiZ} (hL : XL Z) (a0 a1 a2 : Int) (D : MiD) (h0 : (0 ≤ a0 ∧ a0 < 64)) (b : Int) (hb : B_J0_indexOf_7cf53 D a0 a1 a2 = some b) : MC m_J0_indexOf_7cf53 [(29, a0), (0, a1), (0, a2)] (D, Z) ((mi_LI 0 (D, Z)) b) := MC.ofSg (L := (mi_LI 0 (D, Z))) (μ := m_J0_indexOf_7cf53) (args := [(29, a0), (0, a1), (0, a2)]) (M := (D, Z)) rfl wP_J0 (Nat.le_of_ble_eq_true rfl) (show Sg m_J0_indexOf_7cf53 0 [(29, a0), (0, a1), (0, a2)] [] (D, Z) (mi_LI 0 (D, Z)) (B_J0_indexOf_7cf53 D a0 a1 a2) from S_J0_indexOf_7cf53 hL a0 a1 a2 h0) hb
abbrev m_X5_passSign : MiI := (yX5_passSign, cX5_passSign, 2, none, 3, none)
def B_X5_passSign (Z : MiZ) (v0 : Int) (v1 : Int) (D : MiD) : Option (MiD) := mi_b2 (B_X5_passIf Z v0 v1 D) fun y1 D2 => if y1 ≠ 0 then (some D2) else (mi_bi (B_X5_fail v0 1 (D2 9 v0 2) D2) fun D4 => some D4)
set_option maxRecDepth 20000 in
theorem S_X5_passSign {Z : MiZ} (hL : CL Z) (v0 v1 : Int) (D : MiD) : 0 ≤ v0 → Sg m_X5_passSign 0 [(11, v0), (0, v1)] [] (D, Z) (mi_LV Z) (B_X5_passSign Z v0 v1 D) := by
  intro hb0
  unfold B_X5_passSign
  refine Sg.go (pc' := 1) (mi_aload_n dX5_passSign_0 rfl) ?_
  refine Sg.go (pc' := 2) (mi_iload_n dX5_passSign_1 rfl) ?_
  refine Sg.callD (pc' := 5) (t := 0) (μ' := m_X5_passIf) (args := [(11, v0), (0, v1)]) (mi_invV (n := 1) (r := 9) dX5_passSign_2 hC_9 (by omega) rfl rfl wN_X5_passIf rfl ⟨by decide, by decide⟩ wL_X5_84 wI_X5_passIf wS_X5_passIf wB_X5 wC_X5_passIf) (fun v hv => C_X5_passIf hL v0 v1 D (by omega) v hv) (Nat.le_of_ble_eq_true rfl) rfl rfl (fun y1 D2 => ?_)
  refine Sg.ite (fun h3 => ?_) (fun h3 => ?_)
  · refine Sg.go (pc' := 17) (mi_ifne_t (tgt := 17) dX5_passSign_5 (by decide) h3) ?_
    exact Sg.ret (mi_return dX5_passSign_17 rfl (0, 0))
  · refine Sg.go (pc' := 8) (mi_ifne_f (tgt := 17) dX5_passSign_5 (by decide) h3) ?_
    refine Sg.go (pc' := 9) (mi_aload_n dX5_passSign_8 rfl) ?_
    refine Sg.go (pc' := 10) (mi_iconst (z := 1) dX5_passSign_9 rfl) ?_
    refine Sg.go (pc' := 11) (mi_aload_n dX5_passSign_10 rfl) ?_
    refine Sg.go (pc' := 14) (mi_gfI (r := 9) (k := 2) dX5_passSign_11 hC_9 (by decide) rfl wF_X5_39 (by omega) rfl) ?_
    refine Sg.callV (pc' := 17) (μ' := m_X5_fail) (args := [(11, v0), (0, 1), (0, (D2 9 v0 2))]) (mi_invV (n := 2) (r := 9) dX5_passSign_14 hC_9 (by omega) rfl rfl wN_X5_fail rfl ⟨by decide, by decide⟩ wL_X5_44 wI_X5_fail wS_X5_fail wB_X5 wC_X5_fail) (fun v hv => C_X5_fail hL v0 1 (D2 9 v0 2) D2 (by omega) v hv) (Nat.le_of_ble_eq_true rfl) rfl rfl (fun D4 => ?_)
    exact Sg.ret (mi_return dX5_passSign_17 rfl (0, 0))
theorem C_X5_passSign {Z : MiZ} (hL : CL Z) (a0 a1 : Int) (D : MiD) (h0 : 0 ≤ a0) (b : MiD) (hb : B_X5_passSign Z a0 a1 D = some b) : MC m_X5_passSign [(11, a0), (0, a1)] (D, Z) ((mi_LV Z) b) := MC.ofSg (L := (mi_LV Z)) (μ := m_X5_passSign) (args := [(11, a0), (0, a1)]) (M := (D, Z)) rfl wP_X5 (Nat.le_of_ble_eq_true rfl) (show Sg m_X5_passSign 0 [(11, a0), (0, a1)] [] (D, Z) (mi_LV Z) (B_X5_passSign Z a0 a1 D) from S_X5_passSign hL a0 a1 D h0) hb
abbrev m_X5_readFunction : MiI := (yX5_readFunction, cX5_readFunction, 4, (some .int), 3, none)
def B_X5_readFunction (Z : MiZ) (v0 : Int) (v1 : Int) (D : MiD) : Option (Int × MiD) := mi_bi (B_X5_skipBlanks_0 Z mi_fuel v0 D) fun D1 => mi_b2 (B_X5_readNumber Z v0 11 D1) fun y2 D3 => if (D3 9 v0 3) ≠ 0 then (some (y2, D3)) else (if 0 ≤ (Z.1 8 v1 1) then (if 0 ≤ y2 ∧ y2 < 12 then (if (Z.1 24 (Z.1 8 v1 1) y2) < 0 then (some (y2, D3)) else (mi_bi (B_X5_fail v0 4 (D1 9 v0 2) D3) fun D8 => some (y2, D8))) else none) else none)
set_option maxRecDepth 20000 in
theorem S_X5_readFunction {Z : MiZ} (hL : CL Z) (v0 v1 : Int) (D : MiD) : 0 ≤ v0 → 0 ≤ v1 → Sg m_X5_readFunction 0 [(11, v0), (10, v1), mi_un, mi_un] [] (D, Z) (mi_LD 0 Z) (B_X5_readFunction Z v0 v1 D) := by
  intro hb0 hb1
  unfold B_X5_readFunction
  refine Sg.go (pc' := 1) (mi_aload_n dX5_readFunction_0 rfl) ?_
  refine Sg.callV (pc' := 4) (μ' := m_X5_skipBlanks) (args := [(11, v0)]) (mi_invV (n := 0) (r := 9) dX5_readFunction_1 hC_9 (by omega) rfl rfl wN_X5_skipBlanks rfl ⟨by decide, by decide⟩ wL_X5_36 wI_X5_skipBlanks wS_X5_skipBlanks wB_X5 wC_X5_skipBlanks) (fun v hv => C_X5_skipBlanks hL v0 D (by omega) v hv) (Nat.le_of_ble_eq_true rfl) rfl rfl (fun D1 => ?_)
  refine Sg.go (pc' := 5) (mi_aload_n dX5_readFunction_4 rfl) ?_
  refine Sg.go (pc' := 8) (mi_gfI (r := 9) (k := 2) dX5_readFunction_5 hC_9 (by decide) rfl wF_X5_39 (by omega) rfl) ?_
  refine Sg.go (pc' := 9) (mi_istore_n (ls1 := [(11, v0), (10, v1), (0, (D1 9 v0 2)), mi_un]) dX5_readFunction_8 (by decide) rfl) ?_
  refine Sg.go (pc' := 10) (mi_aload_n dX5_readFunction_9 rfl) ?_
  refine Sg.go (pc' := 12) (mi_bipush (z := 11) dX5_readFunction_10 rfl) ?_
  refine Sg.callD (pc' := 15) (t := 0) (μ' := m_X5_readNumber) (args := [(11, v0), (0, 11)]) (mi_invV (n := 1) (r := 9) dX5_readFunction_12 hC_9 (by omega) rfl rfl wN_X5_readNumber rfl ⟨by decide, by decide⟩ wL_X5_60 wI_X5_readNumber wS_X5_readNumber wB_X5 wC_X5_readNumber) (fun v hv => C_X5_readNumber hL v0 11 D1 (by omega) v hv) (Nat.le_of_ble_eq_true rfl) rfl rfl (fun y2 D3 => ?_)
  refine Sg.go (pc' := 16) (mi_istore_n (ls1 := [(11, v0), (10, v1), (0, (D1 9 v0 2)), (0, y2)]) dX5_readFunction_15 (by decide) rfl) ?_
  refine Sg.go (pc' := 17) (mi_aload_n dX5_readFunction_16 rfl) ?_
  refine Sg.go (pc' := 20) (mi_gfI (r := 9) (k := 3) dX5_readFunction_17 hC_9 (by decide) rfl wF_X5_33 (by omega) rfl) ?_
  refine Sg.ite (fun h4 => ?_) (fun h4 => ?_)
  · refine Sg.go (pc' := 38) (mi_ifne_t (tgt := 38) dX5_readFunction_20 (by decide) h4) ?_
    refine Sg.go (pc' := 39) (mi_iload_n dX5_readFunction_38 rfl) ?_
    exact Sg.ret (mi_ireturn dX5_readFunction_39 rfl (Or.inl rfl))
  · refine Sg.go (pc' := 23) (mi_ifne_f (tgt := 38) dX5_readFunction_20 (by decide) h4) ?_
    refine Sg.go (pc' := 24) (mi_aload_n dX5_readFunction_23 rfl) ?_
    refine Sg.go (pc' := 27) (mi_gfA (t := 24) (v := (Z.1 8 v1 1)) (r := 8) (k := 1) dX5_readFunction_24 hC_8 (by decide) rfl wF_X5_52 (by omega) rfl rfl) ?_
    refine Sg.go (pc' := 28) (mi_iload_n dX5_readFunction_27 rfl) ?_
    refine Sg.ck (fun hk5 => ?_)
    refine Sg.ck (fun hk6 => ?_)
    refine Sg.go (pc' := 29) (mi_aald (n := 12) (t := 6) (v := (Z.1 24 (Z.1 8 v1 1) y2)) dX5_readFunction_28 rfl hA_24 rfl (by omega) hk6 rfl rfl) ?_
    refine Sg.ite (fun h7 => ?_) (fun h7 => ?_)
    · refine Sg.go (pc' := 38) (mi_ifnull_t (tgt := 38) dX5_readFunction_29 (by decide) h7) ?_
      refine Sg.go (pc' := 39) (mi_iload_n dX5_readFunction_38 rfl) ?_
      exact Sg.ret (mi_ireturn dX5_readFunction_39 rfl (Or.inl rfl))
    · refine Sg.go (pc' := 32) (mi_ifnull_f (tgt := 38) dX5_readFunction_29 (by decide) h7) ?_
      refine Sg.go (pc' := 33) (mi_aload_n dX5_readFunction_32 rfl) ?_
      refine Sg.go (pc' := 34) (mi_iconst (z := 4) dX5_readFunction_33 rfl) ?_
      refine Sg.go (pc' := 35) (mi_iload_n dX5_readFunction_34 rfl) ?_
      refine Sg.callV (pc' := 38) (μ' := m_X5_fail) (args := [(11, v0), (0, 4), (0, (D1 9 v0 2))]) (mi_invV (n := 2) (r := 9) dX5_readFunction_35 hC_9 (by omega) rfl rfl wN_X5_fail rfl ⟨by decide, by decide⟩ wL_X5_44 wI_X5_fail wS_X5_fail wB_X5 wC_X5_fail) (fun v hv => C_X5_fail hL v0 4 (D1 9 v0 2) D3 (by omega) v hv) (Nat.le_of_ble_eq_true rfl) rfl rfl (fun D8 => ?_)
      refine Sg.go (pc' := 39) (mi_iload_n dX5_readFunction_38 rfl) ?_
      exact Sg.ret (mi_ireturn dX5_readFunction_39 rfl (Or.inl rfl))
theorem C_X5_readFunction {Z : MiZ} (hL : CL Z) (a0 a1 : Int) (D : MiD) (h0 : 0 ≤ a0) (h1 : 0 ≤ a1) (b : Int × MiD) (hb : B_X5_readFunction Z a0 a1 D = some b) : MC m_X5_readFunction [(11, a0), (10, a1)] (D, Z) ((mi_LD 0 Z) b) := MC.ofSg (L := (mi_LD 0 Z)) (μ := m_X5_readFunction) (args := [(11, a0), (10, a1)]) (M := (D, Z)) rfl wP_X5 (Nat.le_of_ble_eq_true rfl) (show Sg m_X5_readFunction 0 [(11, a0), (10, a1), mi_un, mi_un] [] (D, Z) (mi_LD 0 Z) (B_X5_readFunction Z a0 a1 D) from S_X5_readFunction hL a0 a1 D h0 h1) hb
abbrev m_X6_put : MiI := (yX6_put, cX6_put, 3, (some .int), 3, none)
def B_X6_put_43 (v0 : Int) (v1 : Int) (v2 : Int) (D : MiD) : Option (Int × MiD) := if (B_X10_within v1 (D 3 v0 1)) ≠ 0 then (mi_bi (B_X10_fits D (D 5 v2 0) (D 3 v0 0)) fun y2 => if y2 ≠ 0 then (mi_bi (B_X6_stand v0 v1 (D 5 v2 0) (D 5 v2 1) D) fun D4 => some (0, D4)) else (some (2, D))) else (some (1, D))
set_option maxRecDepth 20000 in
theorem S_X6_put_43 {Z : MiZ} (hL : CL Z) (v0 v1 v2 : Int) (D : MiD) : (0 ≤ v0 ∧ v0 < 120) → (0 ≤ v2 ∧ v2 < 14) → Sg m_X6_put 43 [(5, v0), (0, v1), (7, v2)] [] (D, Z) (mi_LD 0 Z) (B_X6_put_43 v0 v1 v2 D) := by
  intro hb0 hb2
  unfold B_X6_put_43
  refine Sg.go (pc' := 44) (mi_iload_n dX6_put_43 rfl) ?_
  refine Sg.go (pc' := 45) (mi_aload_n dX6_put_44 rfl) ?_
  refine Sg.go (pc' := 48) (mi_gfI (r := 3) (k := 1) dX6_put_45 hC_3 (by decide) rfl wF_X6_23 (by omega) rfl) ?_
  refine Sg.callP (pc' := 51) (t := 0) (v := (B_X10_within v1 (D 3 v0 1))) (μ' := m_X10_within) (args := [(0, v1), (0, (D 3 v0 1))]) (mi_invSN (n := 2) dX6_put_48 rfl wN_X10_within rfl ⟨by decide, by decide⟩ wL_X6_36 wT_X10_within wB_X10 wC_X10_within) (C_X10_within hL v1 (D 3 v0 1) D) (Nat.le_of_ble_eq_true rfl) rfl rfl ?_
  refine Sg.ite (fun h1 => ?_) (fun h1 => ?_)
  · refine Sg.go (pc' := 56) (mi_ifne_t (tgt := 56) dX6_put_51 (by decide) h1) ?_
    refine Sg.go (pc' := 57) (mi_aload_n dX6_put_56 rfl) ?_
    refine Sg.go (pc' := 60) (mi_gfI (r := 5) (k := 0) dX6_put_57 hC_5 (by decide) rfl wF_X6_61 (by omega) rfl) ?_
    refine Sg.go (pc' := 61) (mi_aload_n dX6_put_60 rfl) ?_
    refine Sg.go (pc' := 64) (mi_gfI (r := 3) (k := 0) dX6_put_61 hC_3 (by decide) rfl wF_X6_9 (by omega) rfl) ?_
    refine Sg.callI (pc' := 67) (t := 0) (μ' := m_X10_fits) (args := [(0, (D 5 v2 0)), (0, (D 3 v0 0))]) (mi_invSN (n := 2) dX6_put_64 rfl wN_X10_fits rfl ⟨by decide, by decide⟩ wL_X6_44 wT_X10_fits wB_X10 wC_X10_fits) (fun v hv => C_X10_fits hL (D 5 v2 0) (D 3 v0 0) D v hv) (Nat.le_of_ble_eq_true rfl) rfl rfl (fun y2 => ?_)
    refine Sg.ite (fun h3 => ?_) (fun h3 => ?_)
    · refine Sg.go (pc' := 72) (mi_ifne_t (tgt := 72) dX6_put_67 (by decide) h3) ?_
      refine Sg.go (pc' := 73) (mi_aload_n dX6_put_72 rfl) ?_
      refine Sg.go (pc' := 74) (mi_iload_n dX6_put_73 rfl) ?_
      refine Sg.go (pc' := 75) (mi_aload_n dX6_put_74 rfl) ?_
      refine Sg.go (pc' := 78) (mi_gfI (r := 5) (k := 0) dX6_put_75 hC_5 (by decide) rfl wF_X6_61 (by omega) rfl) ?_
      refine Sg.go (pc' := 79) (mi_aload_n dX6_put_78 rfl) ?_
      refine Sg.go (pc' := 82) (mi_gfJ (r := 5) (k := 1) dX6_put_79 hC_5 (by decide) rfl wF_X6_62 (by omega) rfl) ?_
      refine Sg.callV (pc' := 85) (μ' := m_X6_stand) (args := [(5, v0), (0, v1), (0, (D 5 v2 0)), (1, (D 5 v2 1))]) (mi_invV (n := 3) (r := 3) dX6_put_82 hC_3 (by omega) rfl rfl wN_X6_stand rfl ⟨by decide, by decide⟩ wL_X6_66 wI_X6_stand wS_X6_stand wB_X6 wC_X6_stand) (fun v hv => C_X6_stand hL v0 v1 (D 5 v2 0) (D 5 v2 1) D (by omega) v hv) (Nat.le_of_ble_eq_true rfl) rfl rfl (fun D4 => ?_)
      refine Sg.go (pc' := 86) (mi_iconst (z := 0) dX6_put_85 rfl) ?_
      exact Sg.ret (mi_ireturn dX6_put_86 rfl (Or.inl rfl))
    · refine Sg.go (pc' := 70) (mi_ifne_f (tgt := 72) dX6_put_67 (by decide) h3) ?_
      refine Sg.go (pc' := 71) (mi_iconst (z := 2) dX6_put_70 rfl) ?_
      exact Sg.ret (mi_ireturn dX6_put_71 rfl (Or.inl rfl))
  · refine Sg.go (pc' := 54) (mi_ifne_f (tgt := 56) dX6_put_51 (by decide) h1) ?_
    refine Sg.go (pc' := 55) (mi_iconst (z := 1) dX6_put_54 rfl) ?_
    exact Sg.ret (mi_ireturn dX6_put_55 rfl (Or.inl rfl))
def B_X6_put (v0 : Int) (v1 : Int) (v2 : Int) (D : MiD) : Option (Int × MiD) := if (D 3 v0 0) ≠ 12 then (if (D 3 v0 0) = 11 then (some (2, D)) else (if 8 ≤ (D 3 v0 0) then (B_X6_put_43 v0 v1 v2 D) else (if (B_X10_within (D 5 v2 0) 8) ≠ 0 then (B_X6_put_43 v0 v1 v2 D) else (some (2, D))))) else (some (3, D))
set_option maxRecDepth 20000 in
theorem S_X6_put {Z : MiZ} (hL : CL Z) (v0 v1 v2 : Int) (D : MiD) : (0 ≤ v0 ∧ v0 < 120) → (0 ≤ v2 ∧ v2 < 14) → Sg m_X6_put 0 [(5, v0), (0, v1), (7, v2)] [] (D, Z) (mi_LD 0 Z) (B_X6_put v0 v1 v2 D) := by
  intro hb0 hb2
  unfold B_X6_put
  refine Sg.go (pc' := 1) (mi_aload_n dX6_put_0 rfl) ?_
  refine Sg.go (pc' := 4) (mi_gfI (r := 3) (k := 0) dX6_put_1 hC_3 (by decide) rfl wF_X6_9 (by omega) rfl) ?_
  refine Sg.go (pc' := 6) (mi_bipush (z := 12) dX6_put_4 rfl) ?_
  refine Sg.ite (fun h1 => ?_) (fun h1 => ?_)
  · refine Sg.go (pc' := 11) (mi_icmpne_t (tgt := 11) dX6_put_6 (by decide) h1) ?_
    refine Sg.go (pc' := 12) (mi_aload_n dX6_put_11 rfl) ?_
    refine Sg.go (pc' := 15) (mi_gfI (r := 3) (k := 0) dX6_put_12 hC_3 (by decide) rfl wF_X6_9 (by omega) rfl) ?_
    refine Sg.go (pc' := 17) (mi_bipush (z := 11) dX6_put_15 rfl) ?_
    refine Sg.ite (fun h2 => ?_) (fun h2 => ?_)
    · refine Sg.go (pc' := 41) (mi_icmpeq_t (tgt := 41) dX6_put_17 (by decide) h2) ?_
      refine Sg.go (pc' := 42) (mi_iconst (z := 2) dX6_put_41 rfl) ?_
      exact Sg.ret (mi_ireturn dX6_put_42 rfl (Or.inl rfl))
    · refine Sg.go (pc' := 20) (mi_icmpeq_f (tgt := 41) dX6_put_17 (by decide) h2) ?_
      refine Sg.go (pc' := 21) (mi_aload_n dX6_put_20 rfl) ?_
      refine Sg.go (pc' := 24) (mi_gfI (r := 3) (k := 0) dX6_put_21 hC_3 (by decide) rfl wF_X6_9 (by omega) rfl) ?_
      refine Sg.go (pc' := 26) (mi_bipush (z := 8) dX6_put_24 rfl) ?_
      refine Sg.ite (fun h3 => ?_) (fun h3 => ?_)
      · refine Sg.go (pc' := 43) (mi_icmpge_t (tgt := 43) dX6_put_26 (by decide) h3) ?_
        exact S_X6_put_43 hL v0 v1 v2 D hb0 hb2
      · refine Sg.go (pc' := 29) (mi_icmpge_f (tgt := 43) dX6_put_26 (by decide) h3) ?_
        refine Sg.go (pc' := 30) (mi_aload_n dX6_put_29 rfl) ?_
        refine Sg.go (pc' := 33) (mi_gfI (r := 5) (k := 0) dX6_put_30 hC_5 (by decide) rfl wF_X6_61 (by omega) rfl) ?_
        refine Sg.go (pc' := 35) (mi_bipush (z := 8) dX6_put_33 rfl) ?_
        refine Sg.callP (pc' := 38) (t := 0) (v := (B_X10_within (D 5 v2 0) 8)) (μ' := m_X10_within) (args := [(0, (D 5 v2 0)), (0, 8)]) (mi_invSN (n := 2) dX6_put_35 rfl wN_X10_within rfl ⟨by decide, by decide⟩ wL_X6_36 wT_X10_within wB_X10 wC_X10_within) (C_X10_within hL (D 5 v2 0) 8 D) (Nat.le_of_ble_eq_true rfl) rfl rfl ?_
        refine Sg.ite (fun h4 => ?_) (fun h4 => ?_)
        · refine Sg.go (pc' := 43) (mi_ifne_t (tgt := 43) dX6_put_38 (by decide) h4) ?_
          exact S_X6_put_43 hL v0 v1 v2 D hb0 hb2
        · refine Sg.go (pc' := 41) (mi_ifne_f (tgt := 43) dX6_put_38 (by decide) h4) ?_
          refine Sg.go (pc' := 42) (mi_iconst (z := 2) dX6_put_41 rfl) ?_
          exact Sg.ret (mi_ireturn dX6_put_42 rfl (Or.inl rfl))
  · refine Sg.go (pc' := 9) (mi_icmpne_f (tgt := 11) dX6_put_6 (by decide) h1) ?_
    refine Sg.go (pc' := 10) (mi_iconst (z := 3) dX6_put_9 rfl) ?_
    exact Sg.ret (mi_ireturn dX6_put_10 rfl (Or.inl rfl))
theorem C_X6_put {Z : MiZ} (hL : CL Z) (a0 a1 a2 : Int) (D : MiD) (h0 : (0 ≤ a0 ∧ a0 < 120)) (h1 : (0 ≤ a2 ∧ a2 < 14)) (b : Int × MiD) (hb : B_X6_put a0 a1 a2 D = some b) : MC m_X6_put [(5, a0), (0, a1), (7, a2)] (D, Z) ((mi_LD 0 Z) b) := MC.ofSg (L := (mi_LD 0 Z)) (μ := m_X6_put) (args := [(5, a0), (0, a1), (7, a2)]) (M := (D, Z)) rfl wP_X6 (Nat.le_of_ble_eq_true rfl) (show Sg m_X6_put 0 [(5, a0), (0, a1), (7, a2)] [] (D, Z) (mi_LD 0 Z) (B_X6_put a0 a1 a2 D) from S_X6_put hL a0 a1 a2 D h0 h1) hb
abbrev m_X6_readAs : MiI := (yX6_readAs, cX6_readAs, 5, (some .int), 3, none)
def B_X6_readAs (v0 : Int) (v1 : Int) (v2 : Int) (v3 : Int) (D : MiD) : Option (Int × MiD) := mi_bi (B_X6_trapOfNumbers D v0 v2) fun y1 => if y1 = 0 then (mi_bi (B_X10_fits D (D 3 v0 0) v1) fun y3 => if y3 ≠ 0 then (if 0 ≤ v2 ∧ v2 < 9 then (mi_bi (B_X8_be v3 v1 (B_X10_widened (D 18 v0 v2) (D 3 v0 0) v1) D) fun D6 => some (0, D6)) else none) else (some (2, D))) else (some (y1, D))
set_option maxRecDepth 20000 in
theorem S_X6_readAs {Z : MiZ} (hL : CL Z) (v0 v1 v2 v3 : Int) (D : MiD) : (0 ≤ v0 ∧ v0 < 120) → (0 ≤ v3 ∧ v3 < 14) → Sg m_X6_readAs 0 [(5, v0), (0, v1), (0, v2), (7, v3), mi_un] [] (D, Z) (mi_LD 0 Z) (B_X6_readAs v0 v1 v2 v3 D) := by
  intro hb0 hb3
  unfold B_X6_readAs
  refine Sg.go (pc' := 1) (mi_aload_n dX6_readAs_0 rfl) ?_
  refine Sg.go (pc' := 2) (mi_iload_n dX6_readAs_1 rfl) ?_
  refine Sg.callI (pc' := 5) (t := 0) (μ' := m_X6_trapOfNumbers) (args := [(5, v0), (0, v2)]) (mi_invV (n := 1) (r := 3) dX6_readAs_2 hC_3 (by omega) rfl rfl wN_X6_trapOfNumbers rfl ⟨by decide, by decide⟩ wL_X6_40 wI_X6_trapOfNumbers wS_X6_trapOfNumbers wB_X6 wC_X6_trapOfNumbers) (fun v hv => C_X6_trapOfNumbers hL v0 v2 D (by omega) v hv) (Nat.le_of_ble_eq_true rfl) rfl rfl (fun y1 => ?_)
  refine Sg.go (pc' := 7) (mi_istore (ls1 := [(5, v0), (0, v1), (0, v2), (7, v3), (0, y1)]) dX6_readAs_5 (by decide) rfl) ?_
  refine Sg.go (pc' := 9) (mi_iload dX6_readAs_7 rfl) ?_
  refine Sg.ite (fun h2 => ?_) (fun h2 => ?_)
  · refine Sg.go (pc' := 15) (mi_ifeq_t (tgt := 15) dX6_readAs_9 (by decide) h2) ?_
    refine Sg.go (pc' := 16) (mi_aload_n dX6_readAs_15 rfl) ?_
    refine Sg.go (pc' := 19) (mi_gfI (r := 3) (k := 0) dX6_readAs_16 hC_3 (by decide) rfl wF_X6_9 (by omega) rfl) ?_
    refine Sg.go (pc' := 20) (mi_iload_n dX6_readAs_19 rfl) ?_
    refine Sg.callI (pc' := 23) (t := 0) (μ' := m_X10_fits) (args := [(0, (D 3 v0 0)), (0, v1)]) (mi_invSN (n := 2) dX6_readAs_20 rfl wN_X10_fits rfl ⟨by decide, by decide⟩ wL_X6_44 wT_X10_fits wB_X10 wC_X10_fits) (fun v hv => C_X10_fits hL (D 3 v0 0) v1 D v hv) (Nat.le_of_ble_eq_true rfl) rfl rfl (fun y3 => ?_)
    refine Sg.ite (fun h4 => ?_) (fun h4 => ?_)
    · refine Sg.go (pc' := 28) (mi_ifne_t (tgt := 28) dX6_readAs_23 (by decide) h4) ?_
      refine Sg.go (pc' := 29) (mi_aload_n dX6_readAs_28 rfl) ?_
      refine Sg.go (pc' := 30) (mi_iload_n dX6_readAs_29 rfl) ?_
      refine Sg.go (pc' := 31) (mi_aload_n dX6_readAs_30 rfl) ?_
      refine Sg.go (pc' := 34) (mi_gfA (t := 18) (v := v0) (r := 3) (k := 3) dX6_readAs_31 hC_3 (by decide) rfl wF_X6_19 (by omega) rfl (hL.2.2.2.1 _ 3 (by omega) (by omega) (by decide) (by decide))) ?_
      refine Sg.go (pc' := 35) (mi_iload_n dX6_readAs_34 rfl) ?_
      refine Sg.ck (fun hk5 => ?_)
      refine Sg.go (pc' := 36) (mi_lald (n := 9) dX6_readAs_35 rfl rfl (by omega) hk5) ?_
      refine Sg.go (pc' := 37) (mi_aload_n dX6_readAs_36 rfl) ?_
      refine Sg.go (pc' := 40) (mi_gfI (r := 3) (k := 0) dX6_readAs_37 hC_3 (by decide) rfl wF_X6_9 (by omega) rfl) ?_
      refine Sg.go (pc' := 41) (mi_iload_n dX6_readAs_40 rfl) ?_
      refine Sg.callP (pc' := 44) (t := 1) (v := (B_X10_widened (D 18 v0 v2) (D 3 v0 0) v1)) (μ' := m_X10_widened) (args := [(1, (D 18 v0 v2)), (0, (D 3 v0 0)), (0, v1)]) (mi_invSN (n := 3) dX6_readAs_41 rfl wN_X10_widened rfl ⟨by decide, by decide⟩ wL_X6_47 wT_X10_widened wB_X10 wC_X10_widened) (C_X10_widened hL (D 18 v0 v2) (D 3 v0 0) v1 D) (Nat.le_of_ble_eq_true rfl) rfl rfl ?_
      refine Sg.callV (pc' := 47) (μ' := m_X8_be) (args := [(7, v3), (0, v1), (1, (B_X10_widened (D 18 v0 v2) (D 3 v0 0) v1))]) (mi_invV (n := 2) (r := 5) dX6_readAs_44 hC_5 (by omega) rfl rfl wN_X8_be rfl ⟨by decide, by decide⟩ wL_X6_51 wI_X8_be wS_X8_be wB_X8 wC_X8_be) (fun v hv => C_X8_be hL v3 v1 (B_X10_widened (D 18 v0 v2) (D 3 v0 0) v1) D (by omega) v hv) (Nat.le_of_ble_eq_true rfl) rfl rfl (fun D6 => ?_)
      refine Sg.go (pc' := 48) (mi_iconst (z := 0) dX6_readAs_47 rfl) ?_
      exact Sg.ret (mi_ireturn dX6_readAs_48 rfl (Or.inl rfl))
    · refine Sg.go (pc' := 26) (mi_ifne_f (tgt := 28) dX6_readAs_23 (by decide) h4) ?_
      refine Sg.go (pc' := 27) (mi_iconst (z := 2) dX6_readAs_26 rfl) ?_
      exact Sg.ret (mi_ireturn dX6_readAs_27 rfl (Or.inl rfl))
  · refine Sg.go (pc' := 12) (mi_ifeq_f (tgt := 15) dX6_readAs_9 (by decide) h2) ?_
    refine Sg.go (pc' := 14) (mi_iload dX6_readAs_12 rfl) ?_
    exact Sg.ret (mi_ireturn dX6_readAs_14 rfl (Or.inl rfl))
theorem C_X6_readAs {Z : MiZ} (hL : CL Z) (a0 a1 a2 a3 : Int) (D : MiD) (h0 : (0 ≤ a0 ∧ a0 < 120)) (h1 : (0 ≤ a3 ∧ a3 < 14)) (b : Int × MiD) (hb : B_X6_readAs a0 a1 a2 a3 D = some b) : MC m_X6_readAs [(5, a0), (0, a1), (0, a2), (7, a3)] (D, Z) ((mi_LD 0 Z) b) := MC.ofSg (L := (mi_LD 0 Z)) (μ := m_X6_readAs) (args := [(5, a0), (0, a1), (0, a2), (7, a3)]) (M := (D, Z)) rfl wP_X6 (Nat.le_of_ble_eq_true rfl) (show Sg m_X6_readAs 0 [(5, a0), (0, a1), (0, a2), (7, a3), mi_un] [] (D, Z) (mi_LD 0 Z) (B_X6_readAs a0 a1 a2 a3 D) from S_X6_readAs hL a0 a1 a2 a3 D h0 h1) hb
abbrev m_X6_reshape : MiI := (yX6_reshape, cX6_reshape, 5, (some .int), 3, none)
def B_X6_reshape_53 : Nat → Int → Int → Int → MiD → Option (Int × MiD)
  | 0, _, _, _, _ => none
  | f + 1, v0, v3, v4, D => if v3 ≤ v4 then (mi_bi (B_X6_blankFrom v0 v3 D) fun D2 => some (0, D2)) else (if 0 ≤ v4 ∧ v4 < 9 then (mi_bi (B_X6_stand v0 v4 (D 17 v0 v4) (D 18 v0 v4) D) fun D4 => B_X6_reshape_53 f v0 v3 (mi_w (v4 + 1)) D4) else none)
set_option maxRecDepth 20000 in
theorem S_X6_reshape_53 {Z : MiZ} (hL : CL Z) : ∀ (f : Nat) (v0 v3 v4 : Int) (D : MiD), (0 ≤ v0 ∧ v0 < 120) → Sg m_X6_reshape 53 [(5, v0), mi_un, mi_un, (0, v3), (0, v4)] [] (D, Z) (mi_LD 0 Z) (B_X6_reshape_53 f v0 v3 v4 D) := by
  intro f
  induction f with
  | zero => intros; exact Sg.nope
  | succ f K53 =>
    intro v0 v3 v4 D hb0
    show Sg m_X6_reshape 53 [(5, v0), mi_un, mi_un, (0, v3), (0, v4)] [] (D, Z) (mi_LD 0 Z) (if v3 ≤ v4 then (mi_bi (B_X6_blankFrom v0 v3 D) fun D2 => some (0, D2)) else (if 0 ≤ v4 ∧ v4 < 9 then (mi_bi (B_X6_stand v0 v4 (D 17 v0 v4) (D 18 v0 v4) D) fun D4 => B_X6_reshape_53 f v0 v3 (mi_w (v4 + 1)) D4) else none))
    refine Sg.go (pc' := 55) (mi_iload dX6_reshape_53 rfl) ?_
    refine Sg.go (pc' := 56) (mi_iload_n dX6_reshape_55 rfl) ?_
    refine Sg.ite (fun h1 => ?_) (fun h1 => ?_)
    · refine Sg.go (pc' := 85) (mi_icmpge_t (tgt := 85) dX6_reshape_56 (by decide) h1) ?_
      refine Sg.go (pc' := 86) (mi_aload_n dX6_reshape_85 rfl) ?_
      refine Sg.go (pc' := 87) (mi_iload_n dX6_reshape_86 rfl) ?_
      refine Sg.callV (pc' := 90) (μ' := m_X6_blankFrom) (args := [(5, v0), (0, v3)]) (mi_invV (n := 1) (r := 3) dX6_reshape_87 hC_3 (by omega) rfl rfl wN_X6_blankFrom rfl ⟨by decide, by decide⟩ wL_X6_26 wI_X6_blankFrom wS_X6_blankFrom wB_X6 wC_X6_blankFrom) (fun v hv => C_X6_blankFrom hL v0 v3 D (by omega) v hv) (Nat.le_of_ble_eq_true rfl) rfl rfl (fun D2 => ?_)
      refine Sg.go (pc' := 91) (mi_iconst (z := 0) dX6_reshape_90 rfl) ?_
      exact Sg.ret (mi_ireturn dX6_reshape_91 rfl (Or.inl rfl))
    · refine Sg.go (pc' := 59) (mi_icmpge_f (tgt := 85) dX6_reshape_56 (by decide) h1) ?_
      refine Sg.go (pc' := 60) (mi_aload_n dX6_reshape_59 rfl) ?_
      refine Sg.go (pc' := 62) (mi_iload dX6_reshape_60 rfl) ?_
      refine Sg.go (pc' := 63) (mi_aload_n dX6_reshape_62 rfl) ?_
      refine Sg.go (pc' := 66) (mi_gfA (t := 17) (v := v0) (r := 3) (k := 2) dX6_reshape_63 hC_3 (by decide) rfl wF_X6_15 (by omega) rfl (hL.2.2.2.1 _ 2 (by omega) (by omega) (by decide) (by decide))) ?_
      refine Sg.go (pc' := 68) (mi_iload dX6_reshape_66 rfl) ?_
      refine Sg.ck (fun hk3 => ?_)
      refine Sg.go (pc' := 69) (mi_iald (n := 9) dX6_reshape_68 rfl rfl (by omega) hk3) ?_
      refine Sg.go (pc' := 70) (mi_aload_n dX6_reshape_69 rfl) ?_
      refine Sg.go (pc' := 73) (mi_gfA (t := 18) (v := v0) (r := 3) (k := 3) dX6_reshape_70 hC_3 (by decide) rfl wF_X6_19 (by omega) rfl (hL.2.2.2.1 _ 3 (by omega) (by omega) (by decide) (by decide))) ?_
      refine Sg.go (pc' := 75) (mi_iload dX6_reshape_73 rfl) ?_
      refine Sg.go (pc' := 76) (mi_lald (n := 9) dX6_reshape_75 rfl rfl (by omega) hk3) ?_
      refine Sg.callV (pc' := 79) (μ' := m_X6_stand) (args := [(5, v0), (0, v4), (0, (D 17 v0 v4)), (1, (D 18 v0 v4))]) (mi_invV (n := 3) (r := 3) dX6_reshape_76 hC_3 (by omega) rfl rfl wN_X6_stand rfl ⟨by decide, by decide⟩ wL_X6_66 wI_X6_stand wS_X6_stand wB_X6 wC_X6_stand) (fun v hv => C_X6_stand hL v0 v4 (D 17 v0 v4) (D 18 v0 v4) D (by omega) v hv) (Nat.le_of_ble_eq_true rfl) rfl rfl (fun D4 => ?_)
      refine Sg.go (pc' := 82) (mi_iinc (z := 1) (ls1 := [(5, v0), mi_un, mi_un, (0, v3), (0, (mi_w (v4 + 1)))]) dX6_reshape_79 (by decide) rfl rfl rfl) ?_
      refine Sg.go (pc' := 53) (mi_goto (tgt := 53) dX6_reshape_82 (by decide)) ?_
      exact K53 v0 v3 (mi_w (v4 + 1)) D4 hb0
def B_X6_reshape (v0 : Int) (v1 : Int) (v2 : Int) (D : MiD) : Option (Int × MiD) := if (D 3 v0 0) ≠ 12 then (mi_let (mi_min (D 3 v0 1) v2) fun x2 => if (D 3 v0 0) = 11 then (some (2, D)) else (mi_bi (B_X6_fitsAs D v0 v1 x2) fun y4 => if y4 ≠ 0 then (mi_let (mi_st D 3 v0 0 v1) fun D6 => mi_let (mi_st D6 3 v0 1 v2) fun D7 => B_X6_reshape_53 mi_fuel v0 x2 0 D7) else (some (2, D)))) else (some (3, D))
set_option maxRecDepth 20000 in
theorem S_X6_reshape {Z : MiZ} (hL : CL Z) (v0 v1 v2 : Int) (D : MiD) : (0 ≤ v0 ∧ v0 < 120) → Sg m_X6_reshape 0 [(5, v0), (0, v1), (0, v2), mi_un, mi_un] [] (D, Z) (mi_LD 0 Z) (B_X6_reshape v0 v1 v2 D) := by
  intro hb0
  unfold B_X6_reshape
  refine Sg.go (pc' := 1) (mi_aload_n dX6_reshape_0 rfl) ?_
  refine Sg.go (pc' := 4) (mi_gfI (r := 3) (k := 0) dX6_reshape_1 hC_3 (by decide) rfl wF_X6_9 (by omega) rfl) ?_
  refine Sg.go (pc' := 6) (mi_bipush (z := 12) dX6_reshape_4 rfl) ?_
  refine Sg.ite (fun h1 => ?_) (fun h1 => ?_)
  · refine Sg.go (pc' := 11) (mi_icmpne_t (tgt := 11) dX6_reshape_6 (by decide) h1) ?_
    refine Sg.go (pc' := 12) (mi_aload_n dX6_reshape_11 rfl) ?_
    refine Sg.go (pc' := 15) (mi_gfI (r := 3) (k := 1) dX6_reshape_12 hC_3 (by decide) rfl wF_X6_23 (by omega) rfl) ?_
    refine Sg.go (pc' := 16) (mi_iload_n dX6_reshape_15 rfl) ?_
    refine Sg.goB (pc' := 19) (mi_minS dX6_reshape_16 wL_X6_70 wT_min wB_Math wC_min (by decide) (Nat.le_of_ble_eq_true rfl)) ?_
    refine Sg.letI (fun x2 hx2 => ?_)
    refine Sg.go (pc' := 20) (mi_istore_n (ls1 := [(5, v0), (0, v1), (0, v2), (0, x2), mi_un]) dX6_reshape_19 (by decide) rfl) ?_
    refine Sg.go (pc' := 21) (mi_aload_n dX6_reshape_20 rfl) ?_
    refine Sg.go (pc' := 24) (mi_gfI (r := 3) (k := 0) dX6_reshape_21 hC_3 (by decide) rfl wF_X6_9 (by omega) rfl) ?_
    refine Sg.go (pc' := 26) (mi_bipush (z := 11) dX6_reshape_24 rfl) ?_
    refine Sg.ite (fun h3 => ?_) (fun h3 => ?_)
    · refine Sg.go (pc' := 38) (mi_icmpeq_t (tgt := 38) dX6_reshape_26 (by decide) h3) ?_
      refine Sg.go (pc' := 39) (mi_iconst (z := 2) dX6_reshape_38 rfl) ?_
      exact Sg.ret (mi_ireturn dX6_reshape_39 rfl (Or.inl rfl))
    · refine Sg.go (pc' := 29) (mi_icmpeq_f (tgt := 38) dX6_reshape_26 (by decide) h3) ?_
      refine Sg.go (pc' := 30) (mi_aload_n dX6_reshape_29 rfl) ?_
      refine Sg.go (pc' := 31) (mi_iload_n dX6_reshape_30 rfl) ?_
      refine Sg.go (pc' := 32) (mi_iload_n dX6_reshape_31 rfl) ?_
      refine Sg.callI (pc' := 35) (t := 0) (μ' := m_X6_fitsAs) (args := [(5, v0), (0, v1), (0, x2)]) (mi_invV (n := 2) (r := 3) dX6_reshape_32 hC_3 (by omega) rfl rfl wN_X6_fitsAs rfl ⟨by decide, by decide⟩ wL_X6_76 wI_X6_fitsAs wS_X6_fitsAs wB_X6 wC_X6_fitsAs) (fun v hv => C_X6_fitsAs hL v0 v1 x2 D (by omega) v hv) (Nat.le_of_ble_eq_true rfl) rfl rfl (fun y4 => ?_)
      refine Sg.ite (fun h5 => ?_) (fun h5 => ?_)
      · refine Sg.go (pc' := 40) (mi_ifne_t (tgt := 40) dX6_reshape_35 (by decide) h5) ?_
        refine Sg.go (pc' := 41) (mi_aload_n dX6_reshape_40 rfl) ?_
        refine Sg.go (pc' := 42) (mi_iload_n dX6_reshape_41 rfl) ?_
        refine Sg.goM (pc' := 45) (mi_pfD (r := 3) (k := 0) (t := 0) dX6_reshape_42 hC_3 (by decide) rfl rfl wF_X6_9 (by omega) rfl (by decide) (Or.inl ⟨rfl, rfl⟩)) ?_
        refine Sg.letD (fun D6 hD6 => ?_)
        refine Sg.go (pc' := 46) (mi_aload_n dX6_reshape_45 rfl) ?_
        refine Sg.go (pc' := 47) (mi_iload_n dX6_reshape_46 rfl) ?_
        refine Sg.goM (pc' := 50) (mi_pfD (r := 3) (k := 1) (t := 0) dX6_reshape_47 hC_3 (by decide) rfl rfl wF_X6_23 (by omega) rfl (by decide) (Or.inl ⟨rfl, rfl⟩)) ?_
        refine Sg.letD (fun D7 hD7 => ?_)
        refine Sg.go (pc' := 51) (mi_iconst (z := 0) dX6_reshape_50 rfl) ?_
        refine Sg.go (pc' := 53) (mi_istore (ls1 := [(5, v0), (0, v1), (0, v2), (0, x2), (0, 0)]) dX6_reshape_51 (by decide) rfl) ?_
        refine Sg.go (pc' := 53) (MiStep.weak (ls' := [(5, v0), mi_un, mi_un, (0, x2), (0, 0)]) (mi_wk_y (mi_wk_n (mi_wk_n (mi_wk_y (mi_wk_y mi_wk_0)))))) ?_
        exact S_X6_reshape_53 hL mi_fuel v0 x2 0 D7 hb0
      · refine Sg.go (pc' := 38) (mi_ifne_f (tgt := 40) dX6_reshape_35 (by decide) h5) ?_
        refine Sg.go (pc' := 39) (mi_iconst (z := 2) dX6_reshape_38 rfl) ?_
        exact Sg.ret (mi_ireturn dX6_reshape_39 rfl (Or.inl rfl))
  · refine Sg.go (pc' := 9) (mi_icmpne_f (tgt := 11) dX6_reshape_6 (by decide) h1) ?_
    refine Sg.go (pc' := 10) (mi_iconst (z := 3) dX6_reshape_9 rfl) ?_
    exact Sg.ret (mi_ireturn dX6_reshape_10 rfl (Or.inl rfl))
theorem C_X6_reshape {Z : MiZ} (hL : CL Z) (a0 a1 a2 : Int) (D : MiD) (h0 : (0 ≤ a0 ∧ a0 < 120)) (b : Int × MiD) (hb : B_X6_reshape a0 a1 a2 D = some b) : MC m_X6_reshape [(5, a0), (0, a1), (0, a2)] (D, Z) ((mi_LD 0 Z) b) := MC.ofSg (L := (mi_LD 0 Z)) (μ := m_X6_reshape) (args := [(5, a0), (0, a1), (0, a2)]) (M := (D, Z)) rfl wP_X6 (Nat.le_of_ble_eq_true rfl) (show Sg m_X6_reshape 0 [(5, a0), (0, a1), (0, a2), mi_un, mi_un] [] (D, Z) (mi_LD 0 Z) (B_X6_reshape a0 a1 a2 D) from S_X6_reshape hL a0 a1 a2 D h0) hb
abbrev m_X6_writeAs : MiI := (yX6_writeAs, cX6_writeAs, 5, (some .int), 3, none)
def B_X6_writeAs (v0 : Int) (v1 : Int) (v2 : Int) (v3 : Int) (D : MiD) : Option (Int × MiD) := mi_bi (B_X6_trapOfNumbers D v0 v2) fun y1 => if y1 = 0 then (mi_bi (B_X10_fits D v1 (D 3 v0 0)) fun y3 => if y3 ≠ 0 then (if 0 ≤ v2 ∧ v2 < 9 then (mi_let (mi_st D 18 v0 v2 (B_X10_widened (B_X10_cut v1 v3) v1 (D 3 v0 0))) fun D6 => some (0, D6)) else none) else (some (2, D))) else (some (y1, D))
set_option maxRecDepth 20000 in
theorem S_X6_writeAs {Z : MiZ} (hL : CL Z) (v0 v1 v2 v3 : Int) (D : MiD) : (0 ≤ v0 ∧ v0 < 120) → Sg m_X6_writeAs 0 [(5, v0), (0, v1), (0, v2), (0, v3), mi_un] [] (D, Z) (mi_LD 0 Z) (B_X6_writeAs v0 v1 v2 v3 D) := by
  intro hb0
  unfold B_X6_writeAs
  refine Sg.go (pc' := 1) (mi_aload_n dX6_writeAs_0 rfl) ?_
  refine Sg.go (pc' := 2) (mi_iload_n dX6_writeAs_1 rfl) ?_
  refine Sg.callI (pc' := 5) (t := 0) (μ' := m_X6_trapOfNumbers) (args := [(5, v0), (0, v2)]) (mi_invV (n := 1) (r := 3) dX6_writeAs_2 hC_3 (by omega) rfl rfl wN_X6_trapOfNumbers rfl ⟨by decide, by decide⟩ wL_X6_40 wI_X6_trapOfNumbers wS_X6_trapOfNumbers wB_X6 wC_X6_trapOfNumbers) (fun v hv => C_X6_trapOfNumbers hL v0 v2 D (by omega) v hv) (Nat.le_of_ble_eq_true rfl) rfl rfl (fun y1 => ?_)
  refine Sg.go (pc' := 7) (mi_istore (ls1 := [(5, v0), (0, v1), (0, v2), (0, v3), (0, y1)]) dX6_writeAs_5 (by decide) rfl) ?_
  refine Sg.go (pc' := 9) (mi_iload dX6_writeAs_7 rfl) ?_
  refine Sg.ite (fun h2 => ?_) (fun h2 => ?_)
  · refine Sg.go (pc' := 15) (mi_ifeq_t (tgt := 15) dX6_writeAs_9 (by decide) h2) ?_
    refine Sg.go (pc' := 16) (mi_iload_n dX6_writeAs_15 rfl) ?_
    refine Sg.go (pc' := 17) (mi_aload_n dX6_writeAs_16 rfl) ?_
    refine Sg.go (pc' := 20) (mi_gfI (r := 3) (k := 0) dX6_writeAs_17 hC_3 (by decide) rfl wF_X6_9 (by omega) rfl) ?_
    refine Sg.callI (pc' := 23) (t := 0) (μ' := m_X10_fits) (args := [(0, v1), (0, (D 3 v0 0))]) (mi_invSN (n := 2) dX6_writeAs_20 rfl wN_X10_fits rfl ⟨by decide, by decide⟩ wL_X6_44 wT_X10_fits wB_X10 wC_X10_fits) (fun v hv => C_X10_fits hL v1 (D 3 v0 0) D v hv) (Nat.le_of_ble_eq_true rfl) rfl rfl (fun y3 => ?_)
    refine Sg.ite (fun h4 => ?_) (fun h4 => ?_)
    · refine Sg.go (pc' := 28) (mi_ifne_t (tgt := 28) dX6_writeAs_23 (by decide) h4) ?_
      refine Sg.go (pc' := 29) (mi_aload_n dX6_writeAs_28 rfl) ?_
      refine Sg.go (pc' := 32) (mi_gfA (t := 18) (v := v0) (r := 3) (k := 3) dX6_writeAs_29 hC_3 (by decide) rfl wF_X6_19 (by omega) rfl (hL.2.2.2.1 _ 3 (by omega) (by omega) (by decide) (by decide))) ?_
      refine Sg.go (pc' := 33) (mi_iload_n dX6_writeAs_32 rfl) ?_
      refine Sg.go (pc' := 34) (mi_iload_n dX6_writeAs_33 rfl) ?_
      refine Sg.go (pc' := 35) (mi_iload_n dX6_writeAs_34 rfl) ?_
      refine Sg.callP (pc' := 38) (t := 1) (v := (B_X10_cut v1 v3)) (μ' := m_X10_cut) (args := [(0, v1), (0, v3)]) (mi_invSN (n := 2) dX6_writeAs_35 rfl wN_X10_cut rfl ⟨by decide, by decide⟩ wL_X6_57 wT_X10_cut wB_X10 wC_X10_cut) (C_X10_cut hL v1 v3 D) (Nat.le_of_ble_eq_true rfl) rfl rfl ?_
      refine Sg.go (pc' := 39) (mi_iload_n dX6_writeAs_38 rfl) ?_
      refine Sg.go (pc' := 40) (mi_aload_n dX6_writeAs_39 rfl) ?_
      refine Sg.go (pc' := 43) (mi_gfI (r := 3) (k := 0) dX6_writeAs_40 hC_3 (by decide) rfl wF_X6_9 (by omega) rfl) ?_
      refine Sg.callP (pc' := 46) (t := 1) (v := (B_X10_widened (B_X10_cut v1 v3) v1 (D 3 v0 0))) (μ' := m_X10_widened) (args := [(1, (B_X10_cut v1 v3)), (0, v1), (0, (D 3 v0 0))]) (mi_invSN (n := 3) dX6_writeAs_43 rfl wN_X10_widened rfl ⟨by decide, by decide⟩ wL_X6_47 wT_X10_widened wB_X10 wC_X10_widened) (C_X10_widened hL (B_X10_cut v1 v3) v1 (D 3 v0 0) D) (Nat.le_of_ble_eq_true rfl) rfl rfl ?_
      refine Sg.ck (fun hk5 => ?_)
      refine Sg.goM (pc' := 47) (mi_last (n := 9) dX6_writeAs_46 rfl rfl (by omega) hk5) ?_
      refine Sg.letD (fun D6 hD6 => ?_)
      refine Sg.go (pc' := 48) (mi_iconst (z := 0) dX6_writeAs_47 rfl) ?_
      exact Sg.ret (mi_ireturn dX6_writeAs_48 rfl (Or.inl rfl))
    · refine Sg.go (pc' := 26) (mi_ifne_f (tgt := 28) dX6_writeAs_23 (by decide) h4) ?_
      refine Sg.go (pc' := 27) (mi_iconst (z := 2) dX6_writeAs_26 rfl) ?_
      exact Sg.ret (mi_ireturn dX6_writeAs_27 rfl (Or.inl rfl))
  · refine Sg.go (pc' := 12) (mi_ifeq_f (tgt := 15) dX6_writeAs_9 (by decide) h2) ?_
    refine Sg.go (pc' := 14) (mi_iload dX6_writeAs_12 rfl) ?_
    exact Sg.ret (mi_ireturn dX6_writeAs_14 rfl (Or.inl rfl))
theorem C_X6_writeAs {Z : MiZ} (hL : CL Z) (a0 a1 a2 a3 : Int) (D : MiD) (h0 : (0 ≤ a0 ∧ a0 < 120)) (b : Int × MiD) (hb : B_X6_writeAs a0 a1 a2 a3 D = some b) : MC m_X6_writeAs [(5, a0), (0, a1), (0, a2), (0, a3)] (D, Z) ((mi_LD 0 Z) b) := MC.ofSg (L := (mi_LD 0 Z)) (μ := m_X6_writeAs) (args := [(5, a0), (0, a1), (0, a2), (0, a3)]) (M := (D, Z)) rfl wP_X6 (Nat.le_of_ble_eq_true rfl) (show Sg m_X6_writeAs 0 [(5, a0), (0, a1), (0, a2), (0, a3), mi_un] [] (D, Z) (mi_LD 0 Z) (B_X6_writeAs a0 a1 a2 a3 D) from S_X6_writeAs hL a0 a1 a2 a3 D h0) hb
abbrev m_X9_allShadows : MiI := (yX9_allShadows, cX9_allShadows, 3, (some .int), 3, none)
def B_X9_allShadows_4 (D : MiD) : Nat → Int → Int → Int → Option (Int)
  | 0, _, _, _ => none
  | f + 1, v0, v1, v2 => if 10 ≤ v2 then (some v1) else (mi_bi (B_X9_shadowBits D v0 v2) fun y2 => mi_let (mi_w (v1 + (B_J6_bitCount_0f7a4 y2))) fun x3 => B_X9_allShadows_4 D f v0 x3 (mi_w (v2 + 1)))
set_option maxRecDepth 20000 in
theorem S_X9_allShadows_4 {D : MiD} {Z : MiZ} (hL : CL Z) : ∀ (f : Nat) (v0 v1 v2 : Int), (0 ≤ v0 ∧ v0 < 2) → Sg m_X9_allShadows 4 [(4, v0), (0, v1), (0, v2)] [] (D, Z) (mi_LI 0 (D, Z)) (B_X9_allShadows_4 D f v0 v1 v2) := by
  intro f
  induction f with
  | zero => intros; exact Sg.nope
  | succ f K4 =>
    intro v0 v1 v2 hb0
    show Sg m_X9_allShadows 4 [(4, v0), (0, v1), (0, v2)] [] (D, Z) (mi_LI 0 (D, Z)) (if 10 ≤ v2 then (some v1) else (mi_bi (B_X9_shadowBits D v0 v2) fun y2 => mi_let (mi_w (v1 + (B_J6_bitCount_0f7a4 y2))) fun x3 => B_X9_allShadows_4 D f v0 x3 (mi_w (v2 + 1))))
    refine Sg.go (pc' := 5) (mi_iload_n dX9_allShadows_4 rfl) ?_
    refine Sg.go (pc' := 7) (mi_bipush (z := 10) dX9_allShadows_5 rfl) ?_
    refine Sg.ite (fun h1 => ?_) (fun h1 => ?_)
    · refine Sg.go (pc' := 27) (mi_icmpge_t (tgt := 27) dX9_allShadows_7 (by decide) h1) ?_
      refine Sg.go (pc' := 28) (mi_iload_n dX9_allShadows_27 rfl) ?_
      exact Sg.ret (mi_ireturn dX9_allShadows_28 rfl (Or.inl rfl))
    · refine Sg.go (pc' := 10) (mi_icmpge_f (tgt := 27) dX9_allShadows_7 (by decide) h1) ?_
      refine Sg.go (pc' := 11) (mi_iload_n dX9_allShadows_10 rfl) ?_
      refine Sg.go (pc' := 12) (mi_aload_n dX9_allShadows_11 rfl) ?_
      refine Sg.go (pc' := 13) (mi_iload_n dX9_allShadows_12 rfl) ?_
      refine Sg.callI (pc' := 16) (t := 0) (μ' := m_X9_shadowBits) (args := [(4, v0), (0, v2)]) (mi_invV (n := 1) (r := 2) dX9_allShadows_13 hC_2 (by omega) rfl rfl wN_X9_shadowBits rfl ⟨by decide, by decide⟩ wL_X9_99 wI_X9_shadowBits wS_X9_shadowBits wB_X9 wC_X9_shadowBits) (fun v hv => C_X9_shadowBits hL v0 v2 D (by omega) v hv) (Nat.le_of_ble_eq_true rfl) rfl rfl (fun y2 => ?_)
      refine Sg.callP (pc' := 19) (t := 0) (v := (B_J6_bitCount_0f7a4 y2)) (μ' := m_J6_bitCount_0f7a4) (args := [(0, y2)]) (mi_invS (n := 1) dX9_allShadows_16 rfl wN_J6_bitCount_0f7a4 rfl ⟨by decide, by decide⟩ wL_X9_103 wT_J6_bitCount_0f7a4 wB_J6 wC_J6_bitCount_0f7a4) (C_J6_bitCount_0f7a4 trivial y2 D) (Nat.le_of_ble_eq_true rfl) rfl rfl ?_
      refine Sg.go (pc' := 20) (mi_iadd dX9_allShadows_19) ?_
      refine Sg.letI (fun x3 hx3 => ?_)
      refine Sg.go (pc' := 21) (mi_istore_n (ls1 := [(4, v0), (0, x3), (0, v2)]) dX9_allShadows_20 (by decide) rfl) ?_
      refine Sg.go (pc' := 24) (mi_iinc (z := 1) (ls1 := [(4, v0), (0, x3), (0, (mi_w (v2 + 1)))]) dX9_allShadows_21 (by decide) rfl rfl rfl) ?_
      refine Sg.go (pc' := 4) (mi_goto (tgt := 4) dX9_allShadows_24 (by decide)) ?_
      exact K4 v0 x3 (mi_w (v2 + 1)) hb0
def B_X9_allShadows (D : MiD) (v0 : Int) : Option (Int) := B_X9_allShadows_4 D mi_fuel v0 0 0
set_option maxRecDepth 20000 in
theorem S_X9_allShadows {D : MiD} {Z : MiZ} (hL : CL Z) (v0 : Int) : (0 ≤ v0 ∧ v0 < 2) → Sg m_X9_allShadows 0 [(4, v0), mi_un, mi_un] [] (D, Z) (mi_LI 0 (D, Z)) (B_X9_allShadows D v0) := by
  intro hb0
  unfold B_X9_allShadows
  refine Sg.go (pc' := 1) (mi_iconst (z := 0) dX9_allShadows_0 rfl) ?_
  refine Sg.go (pc' := 2) (mi_istore_n (ls1 := [(4, v0), (0, 0), mi_un]) dX9_allShadows_1 (by decide) rfl) ?_
  refine Sg.go (pc' := 3) (mi_iconst (z := 0) dX9_allShadows_2 rfl) ?_
  refine Sg.go (pc' := 4) (mi_istore_n (ls1 := [(4, v0), (0, 0), (0, 0)]) dX9_allShadows_3 (by decide) rfl) ?_
  exact S_X9_allShadows_4 hL mi_fuel v0 0 0 hb0
theorem C_X9_allShadows {Z : MiZ} (hL : CL Z) (a0 : Int) (D : MiD) (h0 : (0 ≤ a0 ∧ a0 < 2)) (b : Int) (hb : B_X9_allShadows D a0 = some b) : MC m_X9_allShadows [(4, a0)] (D, Z) ((mi_LI 0 (D, Z)) b) := MC.ofSg (L := (mi_LI 0 (D, Z))) (μ := m_X9_allShadows) (args := [(4, a0)]) (M := (D, Z)) rfl wP_X9 (Nat.le_of_ble_eq_true rfl) (show Sg m_X9_allShadows 0 [(4, a0), mi_un, mi_un] [] (D, Z) (mi_LI 0 (D, Z)) (B_X9_allShadows D a0) from S_X9_allShadows hL a0 h0) hb
abbrev m_X9_callee : MiI := (yX9_callee, cX9_callee, 5, (some .int), 3, none)
def B_X9_callee_41 (D : MiD) (Z : MiZ) (k7 : Int → Int → Int → Int → Option (Int)) (v0 : Int) (v1 : Int) (v2 : Int) (v3 : Int) (s0 : Int) : Option (Int) := if s0 ≠ 0 then (k7 v0 v1 v2 (mi_w (v3 + (-1)))) else (if 0 ≤ v3 ∧ v3 < 8 then (mi_bi (B_X9_has D Z v0 (D 15 v0 v3) v2) fun y3 => if y3 = 0 then (k7 v0 v1 v2 (mi_w (v3 + (-1)))) else (some (D 15 v0 v3))) else none)
set_option maxRecDepth 20000 in
theorem S_X9_callee_41 {D : MiD} {Z : MiZ} (hL : CL Z) {k7 : Int → Int → Int → Int → Option (Int)} (K7 : ∀ (v0 v1 v2 v3 : Int), (0 ≤ v0 ∧ v0 < 2) → Sg m_X9_callee 7 [(4, v0), (0, v1), (0, v2), (0, v3), mi_un] [] (D, Z) (mi_LI 0 (D, Z)) (k7 v0 v1 v2 v3)) (v0 v1 v2 v3 s0 : Int) : (0 ≤ v0 ∧ v0 < 2) → Sg m_X9_callee 41 [(4, v0), (0, v1), (0, v2), (0, v3), mi_un] [(0, s0)] (D, Z) (mi_LI 0 (D, Z)) (B_X9_callee_41 D Z k7 v0 v1 v2 v3 s0) := by
  intro hb0
  unfold B_X9_callee_41
  refine Sg.go (pc' := 43) (mi_istore (ls1 := [(4, v0), (0, v1), (0, v2), (0, v3), (0, s0)]) dX9_callee_41 (by decide) rfl) ?_
  refine Sg.go (pc' := 45) (mi_iload dX9_callee_43 rfl) ?_
  refine Sg.ite (fun h1 => ?_) (fun h1 => ?_)
  · refine Sg.go (pc' := 69) (mi_ifne_t (tgt := 69) dX9_callee_45 (by decide) h1) ?_
    refine Sg.go (pc' := 72) (mi_iinc (z := (-1)) (ls1 := [(4, v0), (0, v1), (0, v2), (0, (mi_w (v3 + (-1)))), (0, s0)]) dX9_callee_69 (by decide) rfl rfl rfl) ?_
    refine Sg.go (pc' := 7) (mi_goto (tgt := 7) dX9_callee_72 (by decide)) ?_
    refine Sg.go (pc' := 7) (MiStep.weak (ls' := [(4, v0), (0, v1), (0, v2), (0, (mi_w (v3 + (-1)))), mi_un]) (mi_wk_y (mi_wk_y (mi_wk_y (mi_wk_y (mi_wk_n mi_wk_0)))))) ?_
    exact K7 v0 v1 v2 (mi_w (v3 + (-1))) hb0
  · refine Sg.go (pc' := 48) (mi_ifne_f (tgt := 69) dX9_callee_45 (by decide) h1) ?_
    refine Sg.go (pc' := 49) (mi_aload_n dX9_callee_48 rfl) ?_
    refine Sg.go (pc' := 50) (mi_aload_n dX9_callee_49 rfl) ?_
    refine Sg.go (pc' := 53) (mi_gfA (t := 15) (v := v0) (r := 2) (k := 4) dX9_callee_50 hC_2 (by decide) rfl wF_X9_35 (by omega) rfl (hL.2.1 _ 4 (by omega) (by omega) (by decide))) ?_
    refine Sg.go (pc' := 54) (mi_iload_n dX9_callee_53 rfl) ?_
    refine Sg.ck (fun hk2 => ?_)
    refine Sg.go (pc' := 55) (mi_iald (n := 8) dX9_callee_54 rfl rfl (by omega) hk2) ?_
    refine Sg.go (pc' := 56) (mi_iload_n dX9_callee_55 rfl) ?_
    refine Sg.callI (pc' := 59) (t := 0) (μ' := m_X9_has) (args := [(4, v0), (0, (D 15 v0 v3)), (0, v2)]) (mi_invV (n := 2) (r := 2) dX9_callee_56 hC_2 (by omega) rfl rfl wN_X9_has rfl ⟨by decide, by decide⟩ wL_X9_270 wI_X9_has wS_X9_has wB_X9 wC_X9_has) (fun v hv => C_X9_has hL v0 (D 15 v0 v3) v2 D (by omega) v hv) (Nat.le_of_ble_eq_true rfl) rfl rfl (fun y3 => ?_)
    refine Sg.ite (fun h4 => ?_) (fun h4 => ?_)
    · refine Sg.go (pc' := 69) (mi_ifeq_t (tgt := 69) dX9_callee_59 (by decide) h4) ?_
      refine Sg.go (pc' := 72) (mi_iinc (z := (-1)) (ls1 := [(4, v0), (0, v1), (0, v2), (0, (mi_w (v3 + (-1)))), (0, s0)]) dX9_callee_69 (by decide) rfl rfl rfl) ?_
      refine Sg.go (pc' := 7) (mi_goto (tgt := 7) dX9_callee_72 (by decide)) ?_
      refine Sg.go (pc' := 7) (MiStep.weak (ls' := [(4, v0), (0, v1), (0, v2), (0, (mi_w (v3 + (-1)))), mi_un]) (mi_wk_y (mi_wk_y (mi_wk_y (mi_wk_y (mi_wk_n mi_wk_0)))))) ?_
      exact K7 v0 v1 v2 (mi_w (v3 + (-1))) hb0
    · refine Sg.go (pc' := 62) (mi_ifeq_f (tgt := 69) dX9_callee_59 (by decide) h4) ?_
      refine Sg.go (pc' := 63) (mi_aload_n dX9_callee_62 rfl) ?_
      refine Sg.go (pc' := 66) (mi_gfA (t := 15) (v := v0) (r := 2) (k := 4) dX9_callee_63 hC_2 (by decide) rfl wF_X9_35 (by omega) rfl (hL.2.1 _ 4 (by omega) (by omega) (by decide))) ?_
      refine Sg.go (pc' := 67) (mi_iload_n dX9_callee_66 rfl) ?_
      refine Sg.go (pc' := 68) (mi_iald (n := 8) dX9_callee_67 rfl rfl (by omega) hk2) ?_
      exact Sg.ret (mi_ireturn dX9_callee_68 rfl (Or.inl rfl))
def B_X9_callee_40 (D : MiD) (Z : MiZ) (k7 : Int → Int → Int → Int → Option (Int)) (v0 : Int) (v1 : Int) (v2 : Int) (v3 : Int) : Option (Int) := B_X9_callee_41 D Z k7 v0 v1 v2 v3 0
set_option maxRecDepth 20000 in
theorem S_X9_callee_40 {D : MiD} {Z : MiZ} (hL : CL Z) {k7 : Int → Int → Int → Int → Option (Int)} (K7 : ∀ (v0 v1 v2 v3 : Int), (0 ≤ v0 ∧ v0 < 2) → Sg m_X9_callee 7 [(4, v0), (0, v1), (0, v2), (0, v3), mi_un] [] (D, Z) (mi_LI 0 (D, Z)) (k7 v0 v1 v2 v3)) (v0 v1 v2 v3 : Int) : (0 ≤ v0 ∧ v0 < 2) → Sg m_X9_callee 40 [(4, v0), (0, v1), (0, v2), (0, v3), mi_un] [] (D, Z) (mi_LI 0 (D, Z)) (B_X9_callee_40 D Z k7 v0 v1 v2 v3) := by
  intro hb0
  unfold B_X9_callee_40
  refine Sg.go (pc' := 41) (mi_iconst (z := 0) dX9_callee_40 rfl) ?_
  exact S_X9_callee_41 hL K7 v0 v1 v2 v3 0 hb0
def B_X9_callee_7 (D : MiD) (Z : MiZ) : Nat → Int → Int → Int → Int → Option (Int)
  | 0, _, _, _, _ => none
  | f + 1, v0, v1, v2, v3 => if v3 < 0 then (some (-1)) else (if 0 ≤ v3 ∧ v3 < 8 then (if (D 15 v0 v3) ≠ (D 2 v0 8) then (B_X9_callee_40 D Z (B_X9_callee_7 D Z f) v0 v1 v2 v3) else (if 0 ≤ v1 ∧ v1 < 6 then (if (D 4 (6 * v0 + v1) 8) ≠ 0 then (B_X9_callee_40 D Z (B_X9_callee_7 D Z f) v0 v1 v2 v3) else (B_X9_callee_41 D Z (B_X9_callee_7 D Z f) v0 v1 v2 v3 1)) else none)) else none)
set_option maxRecDepth 20000 in
theorem S_X9_callee_7 {D : MiD} {Z : MiZ} (hL : CL Z) : ∀ (f : Nat) (v0 v1 v2 v3 : Int), (0 ≤ v0 ∧ v0 < 2) → Sg m_X9_callee 7 [(4, v0), (0, v1), (0, v2), (0, v3), mi_un] [] (D, Z) (mi_LI 0 (D, Z)) (B_X9_callee_7 D Z f v0 v1 v2 v3) := by
  intro f
  induction f with
  | zero => intros; exact Sg.nope
  | succ f K7 =>
    intro v0 v1 v2 v3 hb0
    show Sg m_X9_callee 7 [(4, v0), (0, v1), (0, v2), (0, v3), mi_un] [] (D, Z) (mi_LI 0 (D, Z)) (if v3 < 0 then (some (-1)) else (if 0 ≤ v3 ∧ v3 < 8 then (if (D 15 v0 v3) ≠ (D 2 v0 8) then (B_X9_callee_40 D Z (B_X9_callee_7 D Z f) v0 v1 v2 v3) else (if 0 ≤ v1 ∧ v1 < 6 then (if (D 4 (6 * v0 + v1) 8) ≠ 0 then (B_X9_callee_40 D Z (B_X9_callee_7 D Z f) v0 v1 v2 v3) else (B_X9_callee_41 D Z (B_X9_callee_7 D Z f) v0 v1 v2 v3 1)) else none)) else none))
    refine Sg.go (pc' := 8) (mi_iload_n dX9_callee_7 rfl) ?_
    refine Sg.ite (fun h1 => ?_) (fun h1 => ?_)
    · refine Sg.go (pc' := 75) (mi_iflt_t (tgt := 75) dX9_callee_8 (by decide) h1) ?_
      refine Sg.go (pc' := 76) (mi_iconst (z := (-1)) dX9_callee_75 rfl) ?_
      exact Sg.ret (mi_ireturn dX9_callee_76 rfl (Or.inl rfl))
    · refine Sg.go (pc' := 11) (mi_iflt_f (tgt := 75) dX9_callee_8 (by decide) h1) ?_
      refine Sg.go (pc' := 12) (mi_aload_n dX9_callee_11 rfl) ?_
      refine Sg.go (pc' := 15) (mi_gfA (t := 15) (v := v0) (r := 2) (k := 4) dX9_callee_12 hC_2 (by decide) rfl wF_X9_35 (by omega) rfl (hL.2.1 _ 4 (by omega) (by omega) (by decide))) ?_
      refine Sg.go (pc' := 16) (mi_iload_n dX9_callee_15 rfl) ?_
      refine Sg.ck (fun hk2 => ?_)
      refine Sg.go (pc' := 17) (mi_iald (n := 8) dX9_callee_16 rfl rfl (by omega) hk2) ?_
      refine Sg.go (pc' := 18) (mi_aload_n dX9_callee_17 rfl) ?_
      refine Sg.go (pc' := 21) (mi_gfI (r := 2) (k := 8) dX9_callee_18 hC_2 (by decide) rfl wF_X9_49 (by omega) rfl) ?_
      refine Sg.ite (fun h3 => ?_) (fun h3 => ?_)
      · refine Sg.go (pc' := 40) (mi_icmpne_t (tgt := 40) dX9_callee_21 (by decide) h3) ?_
        exact S_X9_callee_40 hL K7 v0 v1 v2 v3 hb0
      · refine Sg.go (pc' := 24) (mi_icmpne_f (tgt := 40) dX9_callee_21 (by decide) h3) ?_
        refine Sg.go (pc' := 25) (mi_aload_n dX9_callee_24 rfl) ?_
        refine Sg.go (pc' := 28) (mi_gfA (t := 14) (v := v0) (r := 2) (k := 3) dX9_callee_25 hC_2 (by decide) rfl wF_X9_31 (by omega) rfl (hL.2.1 _ 3 (by omega) (by omega) (by decide))) ?_
        refine Sg.go (pc' := 29) (mi_iload_n dX9_callee_28 rfl) ?_
        refine Sg.ck (fun hk4 => ?_)
        refine Sg.go (pc' := 30) (mi_aald (n := 6) (t := 4) (v := (6 * v0 + v1)) dX9_callee_29 rfl hA_14 rfl (by omega) hk4 rfl (hL.2.2.2.2.2.2.2 _ _ (by omega) (by omega) hk4.1 hk4.2)) ?_
        refine Sg.go (pc' := 33) (mi_gfI (r := 4) (k := 8) dX9_callee_30 hC_4 (by decide) rfl wF_X9_267 (by omega) rfl) ?_
        refine Sg.ite (fun h5 => ?_) (fun h5 => ?_)
        · refine Sg.go (pc' := 40) (mi_ifne_t (tgt := 40) dX9_callee_33 (by decide) h5) ?_
          exact S_X9_callee_40 hL K7 v0 v1 v2 v3 hb0
        · refine Sg.go (pc' := 36) (mi_ifne_f (tgt := 40) dX9_callee_33 (by decide) h5) ?_
          refine Sg.go (pc' := 37) (mi_iconst (z := 1) dX9_callee_36 rfl) ?_
          refine Sg.go (pc' := 41) (mi_goto (tgt := 41) dX9_callee_37 (by decide)) ?_
          exact S_X9_callee_41 hL K7 v0 v1 v2 v3 1 hb0
def B_X9_callee (D : MiD) (Z : MiZ) (v0 : Int) (v1 : Int) (v2 : Int) : Option (Int) := mi_let (mi_w ((D 2 v0 7) - 1)) fun x1 => B_X9_callee_7 D Z mi_fuel v0 v1 v2 x1
set_option maxRecDepth 20000 in
theorem S_X9_callee {D : MiD} {Z : MiZ} (hL : CL Z) (v0 v1 v2 : Int) : (0 ≤ v0 ∧ v0 < 2) → Sg m_X9_callee 0 [(4, v0), (0, v1), (0, v2), mi_un, mi_un] [] (D, Z) (mi_LI 0 (D, Z)) (B_X9_callee D Z v0 v1 v2) := by
  intro hb0
  unfold B_X9_callee
  refine Sg.go (pc' := 1) (mi_aload_n dX9_callee_0 rfl) ?_
  refine Sg.go (pc' := 4) (mi_gfI (r := 2) (k := 7) dX9_callee_1 hC_2 (by decide) rfl wF_X9_69 (by omega) rfl) ?_
  refine Sg.go (pc' := 5) (mi_iconst (z := 1) dX9_callee_4 rfl) ?_
  refine Sg.go (pc' := 6) (mi_isub dX9_callee_5) ?_
  refine Sg.letI (fun x1 hx1 => ?_)
  refine Sg.go (pc' := 7) (mi_istore_n (ls1 := [(4, v0), (0, v1), (0, v2), (0, x1), mi_un]) dX9_callee_6 (by decide) rfl) ?_
  exact S_X9_callee_7 hL mi_fuel v0 v1 v2 x1 hb0
theorem C_X9_callee {Z : MiZ} (hL : CL Z) (a0 a1 a2 : Int) (D : MiD) (h0 : (0 ≤ a0 ∧ a0 < 2)) (b : Int) (hb : B_X9_callee D Z a0 a1 a2 = some b) : MC m_X9_callee [(4, a0), (0, a1), (0, a2)] (D, Z) ((mi_LI 0 (D, Z)) b) := MC.ofSg (L := (mi_LI 0 (D, Z))) (μ := m_X9_callee) (args := [(4, a0), (0, a1), (0, a2)]) (M := (D, Z)) rfl wP_X9 (Nat.le_of_ble_eq_true rfl) (show Sg m_X9_callee 0 [(4, a0), (0, a1), (0, a2), mi_un, mi_un] [] (D, Z) (mi_LI 0 (D, Z)) (B_X9_callee D Z a0 a1 a2) from S_X9_callee hL a0 a1 a2 h0) hb
end MiW2
