noncomputable section MiW5
abbrev m_X9_stackUp : MiI := (yX9_stackUp, cX9_stackUp, 2, (some .int), 7, none)
def B_X9_stackUp_71 (Z : MiZ) (v0 : Int) (D : MiD) : Option (Int × MiD) := mi_bi (B_X9_leftToTurn D v0) fun y1 => some (y1, D)
set_option maxRecDepth 20000 in
theorem S_X9_stackUp_71 {Z : MiZ} (hL : CL Z) (v0 : Int) (D : MiD) : (0 ≤ v0 ∧ v0 < 2) → Sg m_X9_stackUp 71 [(4, v0), mi_un] [] (D, Z) (mi_LD 0 Z) (B_X9_stackUp_71 Z v0 D) := by
  intro hb0
  unfold B_X9_stackUp_71
  refine Sg.go (pc' := 72) (mi_aload_n dX9_stackUp_71 rfl) ?_
  refine Sg.callI (pc' := 75) (t := 0) (μ' := m_X9_leftToTurn) (args := [(4, v0)]) (mi_invV (n := 0) (r := 2) dX9_stackUp_72 hC_2 (by omega) rfl rfl wN_X9_leftToTurn rfl ⟨by decide, by decide⟩ wL_X9_285 wI_X9_leftToTurn wS_X9_leftToTurn wB_X9 wC_X9_leftToTurn) (fun v hv => C_X9_leftToTurn hL v0 D (by omega) v hv) (Nat.le_of_ble_eq_true rfl) rfl rfl (fun y1 => ?_)
  exact Sg.ret (mi_ireturn dX9_stackUp_75 rfl (Or.inl rfl))
def B_X9_stackUp (Z : MiZ) (v0 : Int) (v1 : Int) (D : MiD) : Option (Int × MiD) := if 8 ≤ (D 2 v0 7) then (B_X9_stackUp_71 Z v0 D) else (if 0 ≤ v1 ∧ v1 < 8 then (if (Z.1 12 v0 v1) < 0 then (B_X9_stackUp_71 Z v0 D) else (mi_let (mi_st D 16 v0 v1 (mi_w ((D 16 v0 v1) + 1))) fun D4 => if 0 ≤ (Z.1 12 v0 v1) then (if 0 ≤ (Z.1 8 (Z.1 12 v0 v1) 2) then (mi_bi (B_X9_perform Z v0 (Z.1 8 (Z.1 12 v0 v1) 2) D4) fun D7 => if 0 ≤ (D7 2 v0 7) ∧ (D7 2 v0 7) < 8 then (mi_let (mi_st D7 15 v0 (D7 2 v0 7) v1) fun D9 => mi_let (mi_st D9 2 v0 7 (mi_w ((D9 2 v0 7) + 1))) fun D10 => mi_bi (B_X9_beginTurning v0 v1 1 D10) fun D11 => mi_bi (B_X9_settle Z v0 D11) fun D12 => B_X9_stackUp_71 Z v0 D12) else none) else none) else none)) else none)
set_option maxRecDepth 20000 in
theorem S_X9_stackUp {Z : MiZ} (hL : CL Z) (v0 v1 : Int) (D : MiD) : (0 ≤ v0 ∧ v0 < 2) → Sg m_X9_stackUp 0 [(4, v0), (0, v1)] [] (D, Z) (mi_LD 0 Z) (B_X9_stackUp Z v0 v1 D) := by
  intro hb0
  unfold B_X9_stackUp
  refine Sg.go (pc' := 1) (mi_aload_n dX9_stackUp_0 rfl) ?_
  refine Sg.go (pc' := 4) (mi_gfI (r := 2) (k := 7) dX9_stackUp_1 hC_2 (by decide) rfl wF_X9_69 (by omega) rfl) ?_
  refine Sg.go (pc' := 6) (mi_bipush (z := 8) dX9_stackUp_4 rfl) ?_
  refine Sg.ite (fun h1 => ?_) (fun h1 => ?_)
  · refine Sg.go (pc' := 71) (mi_icmpge_t (tgt := 71) dX9_stackUp_6 (by decide) h1) ?_
    refine Sg.go (pc' := 71) (MiStep.weak (ls' := [(4, v0), mi_un]) (mi_wk_y (mi_wk_n mi_wk_0))) ?_
    exact S_X9_stackUp_71 hL v0 D hb0
  · refine Sg.go (pc' := 9) (mi_icmpge_f (tgt := 71) dX9_stackUp_6 (by decide) h1) ?_
    refine Sg.go (pc' := 10) (mi_aload_n dX9_stackUp_9 rfl) ?_
    refine Sg.go (pc' := 13) (mi_gfA (t := 12) (v := v0) (r := 2) (k := 1) dX9_stackUp_10 hC_2 (by decide) rfl wF_X9_19 (by omega) rfl (hL.2.1 _ 1 (by omega) (by omega) (by decide))) ?_
    refine Sg.go (pc' := 14) (mi_iload_n dX9_stackUp_13 rfl) ?_
    refine Sg.ck (fun hk2 => ?_)
    refine Sg.go (pc' := 15) (mi_aald (n := 8) (t := 8) (v := (Z.1 12 v0 v1)) dX9_stackUp_14 rfl hA_12 rfl (by omega) hk2 rfl rfl) ?_
    refine Sg.ite (fun h3 => ?_) (fun h3 => ?_)
    · refine Sg.go (pc' := 71) (mi_ifnull_t (tgt := 71) dX9_stackUp_15 (by decide) h3) ?_
      refine Sg.go (pc' := 71) (MiStep.weak (ls' := [(4, v0), mi_un]) (mi_wk_y (mi_wk_n mi_wk_0))) ?_
      exact S_X9_stackUp_71 hL v0 D hb0
    · refine Sg.go (pc' := 18) (mi_ifnull_f (tgt := 71) dX9_stackUp_15 (by decide) h3) ?_
      refine Sg.go (pc' := 19) (mi_aload_n dX9_stackUp_18 rfl) ?_
      refine Sg.go (pc' := 22) (mi_gfA (t := 16) (v := v0) (r := 2) (k := 5) dX9_stackUp_19 hC_2 (by decide) rfl wF_X9_39 (by omega) rfl (hL.2.1 _ 5 (by omega) (by omega) (by decide))) ?_
      refine Sg.go (pc' := 23) (mi_iload_n dX9_stackUp_22 rfl) ?_
      refine Sg.go (pc' := 24) (mi_dup2 dX9_stackUp_23 (show (0 : Nat) ≠ 1 by decide) (show (18 : Nat) ≠ 1 by decide)) ?_
      refine Sg.go (pc' := 25) (mi_iald (n := 8) dX9_stackUp_24 rfl rfl (by omega) hk2) ?_
      refine Sg.go (pc' := 26) (mi_iconst (z := 1) dX9_stackUp_25 rfl) ?_
      refine Sg.go (pc' := 27) (mi_iadd dX9_stackUp_26) ?_
      refine Sg.goM (pc' := 28) (mi_iast (n := 8) dX9_stackUp_27 rfl rfl (by omega) hk2) ?_
      refine Sg.letD (fun D4 hD4 => ?_)
      refine Sg.go (pc' := 29) (mi_aload_n dX9_stackUp_28 rfl) ?_
      refine Sg.go (pc' := 30) (mi_aload_n dX9_stackUp_29 rfl) ?_
      refine Sg.go (pc' := 33) (mi_gfA (t := 12) (v := v0) (r := 2) (k := 1) dX9_stackUp_30 hC_2 (by decide) rfl wF_X9_19 (by omega) rfl (hL.2.1 _ 1 (by omega) (by omega) (by decide))) ?_
      refine Sg.go (pc' := 34) (mi_iload_n dX9_stackUp_33 rfl) ?_
      refine Sg.go (pc' := 35) (mi_aald (n := 8) (t := 8) (v := (Z.1 12 v0 v1)) dX9_stackUp_34 rfl hA_12 rfl (by omega) hk2 rfl rfl) ?_
      refine Sg.ck (fun hk5 => ?_)
      refine Sg.go (pc' := 38) (mi_gfA (t := 6) (v := (Z.1 8 (Z.1 12 v0 v1) 2)) (r := 8) (k := 2) dX9_stackUp_35 hC_8 (by decide) rfl wF_X9_273 (by omega) rfl rfl) ?_
      refine Sg.ck (fun hk6 => ?_)
      refine Sg.callV (pc' := 41) (μ' := m_X9_perform) (args := [(4, v0), (8, (Z.1 8 (Z.1 12 v0 v1) 2))]) (mi_invV (n := 1) (r := 2) dX9_stackUp_38 hC_2 (by omega) rfl rfl wN_X9_perform rfl ⟨by decide, by decide⟩ wL_X9_277 wI_X9_perform wS_X9_perform wB_X9 wC_X9_perform) (fun v hv => C_X9_perform hL v0 (Z.1 8 (Z.1 12 v0 v1) 2) D4 (by omega) (by omega) v hv) (Nat.le_of_ble_eq_true rfl) rfl rfl (fun D7 => ?_)
      refine Sg.go (pc' := 42) (mi_aload_n dX9_stackUp_41 rfl) ?_
      refine Sg.go (pc' := 45) (mi_gfA (t := 15) (v := v0) (r := 2) (k := 4) dX9_stackUp_42 hC_2 (by decide) rfl wF_X9_35 (by omega) rfl (hL.2.1 _ 4 (by omega) (by omega) (by decide))) ?_
      refine Sg.go (pc' := 46) (mi_aload_n dX9_stackUp_45 rfl) ?_
      refine Sg.go (pc' := 49) (mi_gfI (r := 2) (k := 7) dX9_stackUp_46 hC_2 (by decide) rfl wF_X9_69 (by omega) rfl) ?_
      refine Sg.go (pc' := 50) (mi_iload_n dX9_stackUp_49 rfl) ?_
      refine Sg.ck (fun hk8 => ?_)
      refine Sg.goM (pc' := 51) (mi_iast (n := 8) dX9_stackUp_50 rfl rfl (by omega) hk8) ?_
      refine Sg.letD (fun D9 hD9 => ?_)
      refine Sg.go (pc' := 52) (mi_aload_n dX9_stackUp_51 rfl) ?_
      refine Sg.go (pc' := 53) (mi_dup dX9_stackUp_52 (show (4 : Nat) ≠ 1 by decide)) ?_
      refine Sg.go (pc' := 56) (mi_gfI (r := 2) (k := 7) dX9_stackUp_53 hC_2 (by decide) rfl wF_X9_69 (by omega) rfl) ?_
      refine Sg.go (pc' := 57) (mi_iconst (z := 1) dX9_stackUp_56 rfl) ?_
      refine Sg.go (pc' := 58) (mi_iadd dX9_stackUp_57) ?_
      refine Sg.goM (pc' := 61) (mi_pfD (r := 2) (k := 7) (t := 0) dX9_stackUp_58 hC_2 (by decide) rfl rfl wF_X9_69 (by omega) rfl (by decide) (Or.inl ⟨rfl, rfl⟩)) ?_
      refine Sg.letD (fun D10 hD10 => ?_)
      refine Sg.go (pc' := 62) (mi_aload_n dX9_stackUp_61 rfl) ?_
      refine Sg.go (pc' := 63) (mi_iload_n dX9_stackUp_62 rfl) ?_
      refine Sg.go (pc' := 64) (mi_iconst (z := 1) dX9_stackUp_63 rfl) ?_
      refine Sg.callV (pc' := 67) (μ' := m_X9_beginTurning) (args := [(4, v0), (0, v1), (0, 1)]) (mi_invV (n := 2) (r := 2) dX9_stackUp_64 hC_2 (by omega) rfl rfl wN_X9_beginTurning rfl ⟨by decide, by decide⟩ wL_X9_281 wI_X9_beginTurning wS_X9_beginTurning wB_X9 wC_X9_beginTurning) (fun v hv => C_X9_beginTurning hL v0 v1 1 D10 (by omega) (Or.inr rfl) v hv) (Nat.le_of_ble_eq_true rfl) rfl rfl (fun D11 => ?_)
      refine Sg.go (pc' := 68) (mi_aload_n dX9_stackUp_67 rfl) ?_
      refine Sg.callV (pc' := 71) (μ' := m_X9_settle) (args := [(4, v0)]) (mi_invV (n := 0) (r := 2) dX9_stackUp_68 hC_2 (by omega) rfl rfl wN_X9_settle rfl ⟨by decide, by decide⟩ wL_X9_195 wI_X9_settle wS_X9_settle wB_X9 wC_X9_settle) (fun v hv => C_X9_settle hL v0 D11 (by omega) v hv) (Nat.le_of_ble_eq_true rfl) rfl rfl (fun D12 => ?_)
      refine Sg.go (pc' := 71) (MiStep.weak (ls' := [(4, v0), mi_un]) (mi_wk_y (mi_wk_n mi_wk_0))) ?_
      exact S_X9_stackUp_71 hL v0 D12 hb0
theorem C_X9_stackUp {Z : MiZ} (hL : CL Z) (a0 a1 : Int) (D : MiD) (h0 : (0 ≤ a0 ∧ a0 < 2)) (b : Int × MiD) (hb : B_X9_stackUp Z a0 a1 D = some b) : MC m_X9_stackUp [(4, a0), (0, a1)] (D, Z) ((mi_LD 0 Z) b) := MC.ofSg (L := (mi_LD 0 Z)) (μ := m_X9_stackUp) (args := [(4, a0), (0, a1)]) (M := (D, Z)) rfl wP_X9 (Nat.le_of_ble_eq_true rfl) (show Sg m_X9_stackUp 0 [(4, a0), (0, a1)] [] (D, Z) (mi_LD 0 Z) (B_X9_stackUp Z a0 a1 D) from S_X9_stackUp hL a0 a1 D h0) hb
abbrev m_X9_tick : MiI := (yX9_tick, cX9_tick, 2, none, 7, none)
def B_X9_tick_2 (Z : MiZ) : Nat → Int → Int → MiD → Option (MiD)
  | 0, _, _, _ => none
  | f + 1, v0, v1, D => if 6 ≤ v1 then (mi_let (mi_st D 2 v0 10 (mi_w ((D 2 v0 10) + 1))) fun D2 => mi_bi (B_X9_settle Z v0 D2) fun D3 => some D3) else (mi_bi (B_X9_act Z v0 v1 D) fun D4 => B_X9_tick_2 Z f v0 (mi_w (v1 + 1)) D4)
set_option maxRecDepth 20000 in
theorem S_X9_tick_2 {Z : MiZ} (hL : CL Z) : ∀ (f : Nat) (v0 v1 : Int) (D : MiD), (0 ≤ v0 ∧ v0 < 2) → Sg m_X9_tick 2 [(4, v0), (0, v1)] [] (D, Z) (mi_LV Z) (B_X9_tick_2 Z f v0 v1 D) := by
  intro f
  induction f with
  | zero => intros; exact Sg.nope
  | succ f K2 =>
    intro v0 v1 D hb0
    show Sg m_X9_tick 2 [(4, v0), (0, v1)] [] (D, Z) (mi_LV Z) (if 6 ≤ v1 then (mi_let (mi_st D 2 v0 10 (mi_w ((D 2 v0 10) + 1))) fun D2 => mi_bi (B_X9_settle Z v0 D2) fun D3 => some D3) else (mi_bi (B_X9_act Z v0 v1 D) fun D4 => B_X9_tick_2 Z f v0 (mi_w (v1 + 1)) D4))
    refine Sg.go (pc' := 3) (mi_iload_n dX9_tick_2 rfl) ?_
    refine Sg.go (pc' := 5) (mi_bipush (z := 6) dX9_tick_3 rfl) ?_
    refine Sg.ite (fun h1 => ?_) (fun h1 => ?_)
    · refine Sg.go (pc' := 19) (mi_icmpge_t (tgt := 19) dX9_tick_5 (by decide) h1) ?_
      refine Sg.go (pc' := 20) (mi_aload_n dX9_tick_19 rfl) ?_
      refine Sg.go (pc' := 21) (mi_dup dX9_tick_20 (show (4 : Nat) ≠ 1 by decide)) ?_
      refine Sg.go (pc' := 24) (mi_gfI (r := 2) (k := 10) dX9_tick_21 hC_2 (by decide) rfl wF_X9_76 (by omega) rfl) ?_
      refine Sg.go (pc' := 25) (mi_iconst (z := 1) dX9_tick_24 rfl) ?_
      refine Sg.go (pc' := 26) (mi_iadd dX9_tick_25) ?_
      refine Sg.goM (pc' := 29) (mi_pfD (r := 2) (k := 10) (t := 0) dX9_tick_26 hC_2 (by decide) rfl rfl wF_X9_76 (by omega) rfl (by decide) (Or.inl ⟨rfl, rfl⟩)) ?_
      refine Sg.letD (fun D2 hD2 => ?_)
      refine Sg.go (pc' := 30) (mi_aload_n dX9_tick_29 rfl) ?_
      refine Sg.callV (pc' := 33) (μ' := m_X9_settle) (args := [(4, v0)]) (mi_invV (n := 0) (r := 2) dX9_tick_30 hC_2 (by omega) rfl rfl wN_X9_settle rfl ⟨by decide, by decide⟩ wL_X9_195 wI_X9_settle wS_X9_settle wB_X9 wC_X9_settle) (fun v hv => C_X9_settle hL v0 D2 (by omega) v hv) (Nat.le_of_ble_eq_true rfl) rfl rfl (fun D3 => ?_)
      exact Sg.ret (mi_return dX9_tick_33 rfl (0, 0))
    · refine Sg.go (pc' := 8) (mi_icmpge_f (tgt := 19) dX9_tick_5 (by decide) h1) ?_
      refine Sg.go (pc' := 9) (mi_aload_n dX9_tick_8 rfl) ?_
      refine Sg.go (pc' := 10) (mi_iload_n dX9_tick_9 rfl) ?_
      refine Sg.callV (pc' := 13) (μ' := m_X9_act) (args := [(4, v0), (0, v1)]) (mi_invV (n := 1) (r := 2) dX9_tick_10 hC_2 (by omega) rfl rfl wN_X9_act rfl ⟨by decide, by decide⟩ wL_X9_191 wI_X9_act wS_X9_act wB_X9 wC_X9_act) (fun v hv => C_X9_act hL v0 v1 D (by omega) v hv) (Nat.le_of_ble_eq_true rfl) rfl rfl (fun D4 => ?_)
      refine Sg.go (pc' := 16) (mi_iinc (z := 1) (ls1 := [(4, v0), (0, (mi_w (v1 + 1)))]) dX9_tick_13 (by decide) rfl rfl rfl) ?_
      refine Sg.go (pc' := 2) (mi_goto (tgt := 2) dX9_tick_16 (by decide)) ?_
      exact K2 v0 (mi_w (v1 + 1)) D4 hb0
def B_X9_tick (Z : MiZ) (v0 : Int) (D : MiD) : Option (MiD) := B_X9_tick_2 Z mi_fuel v0 0 D
set_option maxRecDepth 20000 in
theorem S_X9_tick {Z : MiZ} (hL : CL Z) (v0 : Int) (D : MiD) : (0 ≤ v0 ∧ v0 < 2) → Sg m_X9_tick 0 [(4, v0), mi_un] [] (D, Z) (mi_LV Z) (B_X9_tick Z v0 D) := by
  intro hb0
  unfold B_X9_tick
  refine Sg.go (pc' := 1) (mi_iconst (z := 0) dX9_tick_0 rfl) ?_
  refine Sg.go (pc' := 2) (mi_istore_n (ls1 := [(4, v0), (0, 0)]) dX9_tick_1 (by decide) rfl) ?_
  exact S_X9_tick_2 hL mi_fuel v0 0 D hb0
theorem C_X9_tick {Z : MiZ} (hL : CL Z) (a0 : Int) (D : MiD) (h0 : (0 ≤ a0 ∧ a0 < 2)) (b : MiD) (hb : B_X9_tick Z a0 D = some b) : MC m_X9_tick [(4, a0)] (D, Z) ((mi_LV Z) b) := MC.ofSg (L := (mi_LV Z)) (μ := m_X9_tick) (args := [(4, a0)]) (M := (D, Z)) rfl wP_X9 (Nat.le_of_ble_eq_true rfl) (show Sg m_X9_tick 0 [(4, a0), mi_un] [] (D, Z) (mi_LV Z) (B_X9_tick Z a0 D) from S_X9_tick hL a0 D h0) hb
abbrev m_X9_turnBack : MiI := (yX9_turnBack, cX9_turnBack, 1, (some .int), 7, none)
def B_X9_turnBack_13 (Z : MiZ) (v0 : Int) (s0 : Int) (s1 : Int) (D : MiD) : Option (Int × MiD) := if 0 ≤ s0 ∧ s0 < 2 then (if s1 = 0 ∨ s1 = 1 then (mi_let (mi_st D 2 s0 9 s1) fun D3 => mi_bi (B_X9_settle Z v0 D3) fun D4 => mi_bi (B_X9_leftToTurn D4 v0) fun y5 => some (y5, D4)) else none) else none
set_option maxRecDepth 20000 in
theorem S_X9_turnBack_13 {Z : MiZ} (hL : CL Z) (v0 s0 s1 : Int) (D : MiD) : (0 ≤ v0 ∧ v0 < 2) → Sg m_X9_turnBack 13 [(4, v0)] [(0, s1), (4, s0)] (D, Z) (mi_LD 0 Z) (B_X9_turnBack_13 Z v0 s0 s1 D) := by
  intro hb0
  unfold B_X9_turnBack_13
  refine Sg.ck (fun hk1 => ?_)
  refine Sg.ck (fun hk2 => ?_)
  refine Sg.goM (pc' := 16) (mi_pfD (r := 2) (k := 9) (t := 0) dX9_turnBack_13 hC_2 (by decide) rfl rfl wF_X9_72 (by omega) rfl (by decide) (Or.inr (Or.inr (Or.inl ⟨rfl, rfl, hk2⟩)))) ?_
  refine Sg.letD (fun D3 hD3 => ?_)
  refine Sg.go (pc' := 17) (mi_aload_n dX9_turnBack_16 rfl) ?_
  refine Sg.callV (pc' := 20) (μ' := m_X9_settle) (args := [(4, v0)]) (mi_invV (n := 0) (r := 2) dX9_turnBack_17 hC_2 (by omega) rfl rfl wN_X9_settle rfl ⟨by decide, by decide⟩ wL_X9_195 wI_X9_settle wS_X9_settle wB_X9 wC_X9_settle) (fun v hv => C_X9_settle hL v0 D3 (by omega) v hv) (Nat.le_of_ble_eq_true rfl) rfl rfl (fun D4 => ?_)
  refine Sg.go (pc' := 21) (mi_aload_n dX9_turnBack_20 rfl) ?_
  refine Sg.callI (pc' := 24) (t := 0) (μ' := m_X9_leftToTurn) (args := [(4, v0)]) (mi_invV (n := 0) (r := 2) dX9_turnBack_21 hC_2 (by omega) rfl rfl wN_X9_leftToTurn rfl ⟨by decide, by decide⟩ wL_X9_285 wI_X9_leftToTurn wS_X9_leftToTurn wB_X9 wC_X9_leftToTurn) (fun v hv => C_X9_leftToTurn hL v0 D4 (by omega) v hv) (Nat.le_of_ble_eq_true rfl) rfl rfl (fun y5 => ?_)
  exact Sg.ret (mi_ireturn dX9_turnBack_24 rfl (Or.inl rfl))
def B_X9_turnBack (Z : MiZ) (v0 : Int) (D : MiD) : Option (Int × MiD) := if (D 2 v0 9) ≠ 0 then (B_X9_turnBack_13 Z v0 v0 0 D) else (B_X9_turnBack_13 Z v0 v0 1 D)
set_option maxRecDepth 20000 in
theorem S_X9_turnBack {Z : MiZ} (hL : CL Z) (v0 : Int) (D : MiD) : (0 ≤ v0 ∧ v0 < 2) → Sg m_X9_turnBack 0 [(4, v0)] [] (D, Z) (mi_LD 0 Z) (B_X9_turnBack Z v0 D) := by
  intro hb0
  unfold B_X9_turnBack
  refine Sg.go (pc' := 1) (mi_aload_n dX9_turnBack_0 rfl) ?_
  refine Sg.go (pc' := 2) (mi_aload_n dX9_turnBack_1 rfl) ?_
  refine Sg.go (pc' := 5) (mi_gfI (r := 2) (k := 9) dX9_turnBack_2 hC_2 (by decide) rfl wF_X9_72 (by omega) rfl) ?_
  refine Sg.ite (fun h1 => ?_) (fun h1 => ?_)
  · refine Sg.go (pc' := 12) (mi_ifne_t (tgt := 12) dX9_turnBack_5 (by decide) h1) ?_
    refine Sg.go (pc' := 13) (mi_iconst (z := 0) dX9_turnBack_12 rfl) ?_
    exact S_X9_turnBack_13 hL v0 v0 0 D hb0
  · refine Sg.go (pc' := 8) (mi_ifne_f (tgt := 12) dX9_turnBack_5 (by decide) h1) ?_
    refine Sg.go (pc' := 9) (mi_iconst (z := 1) dX9_turnBack_8 rfl) ?_
    refine Sg.go (pc' := 13) (mi_goto (tgt := 13) dX9_turnBack_9 (by decide)) ?_
    exact S_X9_turnBack_13 hL v0 v0 1 D hb0
theorem C_X9_turnBack {Z : MiZ} (hL : CL Z) (a0 : Int) (D : MiD) (h0 : (0 ≤ a0 ∧ a0 < 2)) (b : Int × MiD) (hb : B_X9_turnBack Z a0 D = some b) : MC m_X9_turnBack [(4, a0)] (D, Z) ((mi_LD 0 Z) b) := MC.ofSg (L := (mi_LD 0 Z)) (μ := m_X9_turnBack) (args := [(4, a0)]) (M := (D, Z)) rfl wP_X9 (Nat.le_of_ble_eq_true rfl) (show Sg m_X9_turnBack 0 [(4, a0)] [] (D, Z) (mi_LD 0 Z) (B_X9_turnBack Z a0 D) from S_X9_turnBack hL a0 D h0) hb
abbrev m_X9_turnOff : MiI := (yX9_turnOff, cX9_turnOff, 1, (some .int), 7, none)
def B_X9_turnOff (Z : MiZ) (v0 : Int) (D : MiD) : Option (Int × MiD) := mi_bi (B_X9_topmost D v0) fun y1 => mi_bi (B_X9_beginTurning v0 y1 0 D) fun D2 => mi_bi (B_X9_settle Z v0 D2) fun D3 => mi_bi (B_X9_leftToTurn D3 v0) fun y4 => some (y4, D3)
set_option maxRecDepth 20000 in
theorem S_X9_turnOff {Z : MiZ} (hL : CL Z) (v0 : Int) (D : MiD) : (0 ≤ v0 ∧ v0 < 2) → Sg m_X9_turnOff 0 [(4, v0)] [] (D, Z) (mi_LD 0 Z) (B_X9_turnOff Z v0 D) := by
  intro hb0
  unfold B_X9_turnOff
  refine Sg.go (pc' := 1) (mi_aload_n dX9_turnOff_0 rfl) ?_
  refine Sg.go (pc' := 2) (mi_aload_n dX9_turnOff_1 rfl) ?_
  refine Sg.callI (pc' := 5) (t := 0) (μ' := m_X9_topmost) (args := [(4, v0)]) (mi_invV (n := 0) (r := 2) dX9_turnOff_2 hC_2 (by omega) rfl rfl wN_X9_topmost rfl ⟨by decide, by decide⟩ wL_X9_288 wI_X9_topmost wS_X9_topmost wB_X9 wC_X9_topmost) (fun v hv => C_X9_topmost hL v0 D (by omega) v hv) (Nat.le_of_ble_eq_true rfl) rfl rfl (fun y1 => ?_)
  refine Sg.go (pc' := 6) (mi_iconst (z := 0) dX9_turnOff_5 rfl) ?_
  refine Sg.callV (pc' := 9) (μ' := m_X9_beginTurning) (args := [(4, v0), (0, y1), (0, 0)]) (mi_invV (n := 2) (r := 2) dX9_turnOff_6 hC_2 (by omega) rfl rfl wN_X9_beginTurning rfl ⟨by decide, by decide⟩ wL_X9_281 wI_X9_beginTurning wS_X9_beginTurning wB_X9 wC_X9_beginTurning) (fun v hv => C_X9_beginTurning hL v0 y1 0 D (by omega) (Or.inl rfl) v hv) (Nat.le_of_ble_eq_true rfl) rfl rfl (fun D2 => ?_)
  refine Sg.go (pc' := 10) (mi_aload_n dX9_turnOff_9 rfl) ?_
  refine Sg.callV (pc' := 13) (μ' := m_X9_settle) (args := [(4, v0)]) (mi_invV (n := 0) (r := 2) dX9_turnOff_10 hC_2 (by omega) rfl rfl wN_X9_settle rfl ⟨by decide, by decide⟩ wL_X9_195 wI_X9_settle wS_X9_settle wB_X9 wC_X9_settle) (fun v hv => C_X9_settle hL v0 D2 (by omega) v hv) (Nat.le_of_ble_eq_true rfl) rfl rfl (fun D3 => ?_)
  refine Sg.go (pc' := 14) (mi_aload_n dX9_turnOff_13 rfl) ?_
  refine Sg.callI (pc' := 17) (t := 0) (μ' := m_X9_leftToTurn) (args := [(4, v0)]) (mi_invV (n := 0) (r := 2) dX9_turnOff_14 hC_2 (by omega) rfl rfl wN_X9_leftToTurn rfl ⟨by decide, by decide⟩ wL_X9_285 wI_X9_leftToTurn wS_X9_leftToTurn wB_X9 wC_X9_leftToTurn) (fun v hv => C_X9_leftToTurn hL v0 D3 (by omega) v hv) (Nat.le_of_ble_eq_true rfl) rfl rfl (fun y4 => ?_)
  exact Sg.ret (mi_ireturn dX9_turnOff_17 rfl (Or.inl rfl))
theorem C_X9_turnOff {Z : MiZ} (hL : CL Z) (a0 : Int) (D : MiD) (h0 : (0 ≤ a0 ∧ a0 < 2)) (b : Int × MiD) (hb : B_X9_turnOff Z a0 D = some b) : MC m_X9_turnOff [(4, a0)] (D, Z) ((mi_LD 0 Z) b) := MC.ofSg (L := (mi_LD 0 Z)) (μ := m_X9_turnOff) (args := [(4, a0)]) (M := (D, Z)) rfl wP_X9 (Nat.le_of_ble_eq_true rfl) (show Sg m_X9_turnOff 0 [(4, a0)] [] (D, Z) (mi_LD 0 Z) (B_X9_turnOff Z a0 D) from S_X9_turnOff hL a0 D h0) hb
abbrev m_X10_disable : MiI := (yX10_disable, cX10_disable, 1, (some .int), 8, none)
def B_X10_disable_27 (Z : MiZ) (s1 : Int) (D : MiD) : Option ((Int × MiD) ⊕ (Nat × MiD)) := if s1 = 0 ∨ s1 = 1 then (mi_bn (B_X10_needState s1 D) Sum.inr fun D2 => mi_b2 (B_X9_turnOff Z 0 D2) fun y3 D4 => some (.inl (y3, D4))) else none
set_option maxRecDepth 20000 in
theorem S_X10_disable_27 {Z : MiZ} (hL : CL Z) (s1 : Int) (D : MiD) : Sg m_X10_disable 27 [(3, 0)] [(0, s1), (3, 0)] (D, Z) (mi_LT 0 Z) (B_X10_disable_27 Z s1 D) := by
  unfold B_X10_disable_27
  refine Sg.ck (fun hk1 => ?_)
  refine Sg.callNT (pc' := 30) (μ' := m_X10_needState) (args := [(3, 0), (0, s1)]) (mi_invV (n := 1) (r := 1) dX10_disable_27 hC_1 (by omega) rfl rfl wN_X10_needState rfl ⟨by decide, by decide⟩ wL_X10_49 wI_X10_needState wS_X10_needState wB_X10 wC_X10_needState) (fun v hv => C_X10_needState hL s1 D (hk1) v hv) rfl (Nat.le_of_ble_eq_true rfl) rfl rfl (fun D2 => ?_)
  refine Sg.go (pc' := 31) (mi_aload_n dX10_disable_30 rfl) ?_
  refine Sg.go (pc' := 34) (mi_gfA (t := 2) (v := 0) (r := 1) (k := 4) dX10_disable_31 hC_1 (by decide) rfl wF_X10_20 (by omega) rfl hL.1.2.1) ?_
  refine Sg.callD (pc' := 37) (t := 0) (μ' := m_X9_turnOff) (args := [(4, 0)]) (mi_invV (n := 0) (r := 2) dX10_disable_34 hC_2 (by omega) rfl rfl wN_X9_turnOff rfl ⟨by decide, by decide⟩ wL_X10_144 wI_X9_turnOff wS_X9_turnOff wB_X9 wC_X9_turnOff) (fun v hv => C_X9_turnOff hL 0 D2 (by omega) v hv) (Nat.le_of_ble_eq_true rfl) rfl rfl (fun y3 D4 => ?_)
  exact Sg.ret (mi_ireturn dX10_disable_37 rfl (Or.inl rfl))
def B_X10_disable_26 (Z : MiZ) (D : MiD) : Option ((Int × MiD) ⊕ (Nat × MiD)) := B_X10_disable_27 Z 0 D
set_option maxRecDepth 20000 in
theorem S_X10_disable_26 {Z : MiZ} (hL : CL Z) (D : MiD) : Sg m_X10_disable 26 [(3, 0)] [(3, 0)] (D, Z) (mi_LT 0 Z) (B_X10_disable_26 Z D) := by
  unfold B_X10_disable_26
  refine Sg.go (pc' := 27) (mi_iconst (z := 0) dX10_disable_26 rfl) ?_
  exact S_X10_disable_27 hL 0 D
def B_X10_disable (Z : MiZ) (D : MiD) : Option ((Int × MiD) ⊕ (Nat × MiD)) := if (D 2 0 8) ≠ (-1) then (B_X10_disable_26 Z D) else (if (D 2 0 7) ≤ 0 then (B_X10_disable_26 Z D) else (B_X10_disable_27 Z 1 D))
set_option maxRecDepth 20000 in
theorem S_X10_disable {Z : MiZ} (hL : CL Z) (D : MiD) : Sg m_X10_disable 0 [(3, 0)] [] (D, Z) (mi_LT 0 Z) (B_X10_disable Z D) := by
  unfold B_X10_disable
  refine Sg.go (pc' := 1) (mi_aload_n dX10_disable_0 rfl) ?_
  refine Sg.go (pc' := 2) (mi_aload_n dX10_disable_1 rfl) ?_
  refine Sg.go (pc' := 5) (mi_gfA (t := 2) (v := 0) (r := 1) (k := 4) dX10_disable_2 hC_1 (by decide) rfl wF_X10_20 (by omega) rfl hL.1.2.1) ?_
  refine Sg.go (pc' := 8) (mi_gfI (r := 2) (k := 8) dX10_disable_5 hC_2 (by decide) rfl wF_X10_131 (by omega) rfl) ?_
  refine Sg.go (pc' := 9) (mi_iconst (z := (-1)) dX10_disable_8 rfl) ?_
  refine Sg.ite (fun h1 => ?_) (fun h1 => ?_)
  · refine Sg.go (pc' := 26) (mi_icmpne_t (tgt := 26) dX10_disable_9 (by decide) h1) ?_
    exact S_X10_disable_26 hL D
  · refine Sg.go (pc' := 12) (mi_icmpne_f (tgt := 26) dX10_disable_9 (by decide) h1) ?_
    refine Sg.go (pc' := 13) (mi_aload_n dX10_disable_12 rfl) ?_
    refine Sg.go (pc' := 16) (mi_gfA (t := 2) (v := 0) (r := 1) (k := 4) dX10_disable_13 hC_1 (by decide) rfl wF_X10_20 (by omega) rfl hL.1.2.1) ?_
    refine Sg.go (pc' := 19) (mi_gfI (r := 2) (k := 7) dX10_disable_16 hC_2 (by decide) rfl wF_X10_141 (by omega) rfl) ?_
    refine Sg.ite (fun h2 => ?_) (fun h2 => ?_)
    · refine Sg.go (pc' := 26) (mi_ifle_t (tgt := 26) dX10_disable_19 (by decide) h2) ?_
      exact S_X10_disable_26 hL D
    · refine Sg.go (pc' := 22) (mi_ifle_f (tgt := 26) dX10_disable_19 (by decide) h2) ?_
      refine Sg.go (pc' := 23) (mi_iconst (z := 1) dX10_disable_22 rfl) ?_
      refine Sg.go (pc' := 27) (mi_goto (tgt := 27) dX10_disable_23 (by decide)) ?_
      exact S_X10_disable_27 hL 1 D
theorem C_X10_disable {Z : MiZ} (hL : CL Z) (D : MiD) (b : (Int × MiD) ⊕ (Nat × MiD)) (hb : B_X10_disable Z D = some b) : MC m_X10_disable [(3, 0)] (D, Z) ((mi_LT 0 Z) b) := MC.ofSg (L := (mi_LT 0 Z)) (μ := m_X10_disable) (args := [(3, 0)]) (M := (D, Z)) rfl wP_X10 (Nat.le_of_ble_eq_true rfl) (show Sg m_X10_disable 0 [(3, 0)] [] (D, Z) (mi_LT 0 Z) (B_X10_disable Z D) from S_X10_disable hL D) hb
abbrev m_X10_enable : MiI := (yX10_enable, cX10_enable, 2, (some .int), 8, none)
def B_X10_enable_41 (Z : MiZ) (v1 : Int) (s1 : Int) (D : MiD) : Option ((Int × MiD) ⊕ (Nat × MiD)) := if s1 = 0 ∨ s1 = 1 then (mi_bn (B_X10_needState s1 D) Sum.inr fun D2 => mi_b2 (B_X9_stackUp Z 0 v1 D2) fun y3 D4 => some (.inl (y3, D4))) else none
set_option maxRecDepth 20000 in
theorem S_X10_enable_41 {Z : MiZ} (hL : CL Z) (v1 s1 : Int) (D : MiD) : Sg m_X10_enable 41 [(3, 0), (0, v1)] [(0, s1), (3, 0)] (D, Z) (mi_LT 0 Z) (B_X10_enable_41 Z v1 s1 D) := by
  unfold B_X10_enable_41
  refine Sg.ck (fun hk1 => ?_)
  refine Sg.callNT (pc' := 44) (μ' := m_X10_needState) (args := [(3, 0), (0, s1)]) (mi_invV (n := 1) (r := 1) dX10_enable_41 hC_1 (by omega) rfl rfl wN_X10_needState rfl ⟨by decide, by decide⟩ wL_X10_49 wI_X10_needState wS_X10_needState wB_X10 wC_X10_needState) (fun v hv => C_X10_needState hL s1 D (hk1) v hv) rfl (Nat.le_of_ble_eq_true rfl) rfl rfl (fun D2 => ?_)
  refine Sg.go (pc' := 45) (mi_aload_n dX10_enable_44 rfl) ?_
  refine Sg.go (pc' := 48) (mi_gfA (t := 2) (v := 0) (r := 1) (k := 4) dX10_enable_45 hC_1 (by decide) rfl wF_X10_20 (by omega) rfl hL.1.2.1) ?_
  refine Sg.go (pc' := 49) (mi_iload_n dX10_enable_48 rfl) ?_
  refine Sg.callD (pc' := 52) (t := 0) (μ' := m_X9_stackUp) (args := [(4, 0), (0, v1)]) (mi_invV (n := 1) (r := 2) dX10_enable_49 hC_2 (by omega) rfl rfl wN_X9_stackUp rfl ⟨by decide, by decide⟩ wL_X10_138 wI_X9_stackUp wS_X9_stackUp wB_X9 wC_X9_stackUp) (fun v hv => C_X9_stackUp hL 0 v1 D2 (by omega) v hv) (Nat.le_of_ble_eq_true rfl) rfl rfl (fun y3 D4 => ?_)
  exact Sg.ret (mi_ireturn dX10_enable_52 rfl (Or.inl rfl))
def B_X10_enable_40 (Z : MiZ) (v1 : Int) (D : MiD) : Option ((Int × MiD) ⊕ (Nat × MiD)) := B_X10_enable_41 Z v1 0 D
set_option maxRecDepth 20000 in
theorem S_X10_enable_40 {Z : MiZ} (hL : CL Z) (v1 : Int) (D : MiD) : Sg m_X10_enable 40 [(3, 0), (0, v1)] [(3, 0)] (D, Z) (mi_LT 0 Z) (B_X10_enable_40 Z v1 D) := by
  unfold B_X10_enable_40
  refine Sg.go (pc' := 41) (mi_iconst (z := 0) dX10_enable_40 rfl) ?_
  exact S_X10_enable_41 hL v1 0 D
def B_X10_enable (Z : MiZ) (v1 : Int) (D : MiD) : Option ((Int × MiD) ⊕ (Nat × MiD)) := mi_bn (B_X10_needElement (B_X10_within v1 (D 1 0 3)) D) Sum.inr fun D1 => if (D1 2 0 8) ≠ (-1) then (B_X10_enable_40 Z v1 D1) else (mi_bi (B_X9_heightOf D1 0 v1) fun y3 => if y3 ≠ (-1) then (B_X10_enable_40 Z v1 D1) else (B_X10_enable_41 Z v1 1 D1))
set_option maxRecDepth 20000 in
theorem S_X10_enable {Z : MiZ} (hL : CL Z) (v1 : Int) (D : MiD) : Sg m_X10_enable 0 [(3, 0), (0, v1)] [] (D, Z) (mi_LT 0 Z) (B_X10_enable Z v1 D) := by
  unfold B_X10_enable
  refine Sg.go (pc' := 1) (mi_aload_n dX10_enable_0 rfl) ?_
  refine Sg.go (pc' := 2) (mi_iload_n dX10_enable_1 rfl) ?_
  refine Sg.go (pc' := 3) (mi_aload_n dX10_enable_2 rfl) ?_
  refine Sg.go (pc' := 6) (mi_gfI (r := 1) (k := 3) dX10_enable_3 hC_1 (by decide) rfl wF_X10_79 (by omega) rfl) ?_
  refine Sg.callP (pc' := 9) (t := 0) (v := (B_X10_within v1 (D 1 0 3))) (μ' := m_X10_within) (args := [(0, v1), (0, (D 1 0 3))]) (mi_invS (n := 2) dX10_enable_6 rfl wN_X10_within rfl ⟨by decide, by decide⟩ wL_X10_34 wT_X10_within wB_X10 wC_X10_within) (C_X10_within hL v1 (D 1 0 3) D) (Nat.le_of_ble_eq_true rfl) rfl rfl ?_
  refine Sg.callNT (pc' := 12) (μ' := m_X10_needElement) (args := [(3, 0), (0, (B_X10_within v1 (D 1 0 3)))]) (mi_invV (n := 1) (r := 1) dX10_enable_9 hC_1 (by omega) rfl rfl wN_X10_needElement rfl ⟨by decide, by decide⟩ wL_X10_38 wI_X10_needElement wS_X10_needElement wB_X10 wC_X10_needElement) (fun v hv => C_X10_needElement hL (B_X10_within v1 (D 1 0 3)) D ((by exact Z_X10_within)) v hv) rfl (Nat.le_of_ble_eq_true rfl) rfl rfl (fun D1 => ?_)
  refine Sg.go (pc' := 13) (mi_aload_n dX10_enable_12 rfl) ?_
  refine Sg.go (pc' := 14) (mi_aload_n dX10_enable_13 rfl) ?_
  refine Sg.go (pc' := 17) (mi_gfA (t := 2) (v := 0) (r := 1) (k := 4) dX10_enable_14 hC_1 (by decide) rfl wF_X10_20 (by omega) rfl hL.1.2.1) ?_
  refine Sg.go (pc' := 20) (mi_gfI (r := 2) (k := 8) dX10_enable_17 hC_2 (by decide) rfl wF_X10_131 (by omega) rfl) ?_
  refine Sg.go (pc' := 21) (mi_iconst (z := (-1)) dX10_enable_20 rfl) ?_
  refine Sg.ite (fun h2 => ?_) (fun h2 => ?_)
  · refine Sg.go (pc' := 40) (mi_icmpne_t (tgt := 40) dX10_enable_21 (by decide) h2) ?_
    exact S_X10_enable_40 hL v1 D1
  · refine Sg.go (pc' := 24) (mi_icmpne_f (tgt := 40) dX10_enable_21 (by decide) h2) ?_
    refine Sg.go (pc' := 25) (mi_aload_n dX10_enable_24 rfl) ?_
    refine Sg.go (pc' := 28) (mi_gfA (t := 2) (v := 0) (r := 1) (k := 4) dX10_enable_25 hC_1 (by decide) rfl wF_X10_20 (by omega) rfl hL.1.2.1) ?_
    refine Sg.go (pc' := 29) (mi_iload_n dX10_enable_28 rfl) ?_
    refine Sg.callI (pc' := 32) (t := 0) (μ' := m_X9_heightOf) (args := [(4, 0), (0, v1)]) (mi_invV (n := 1) (r := 2) dX10_enable_29 hC_2 (by omega) rfl rfl wN_X9_heightOf rfl ⟨by decide, by decide⟩ wL_X10_134 wI_X9_heightOf wS_X9_heightOf wB_X9 wC_X9_heightOf) (fun v hv => C_X9_heightOf hL 0 v1 D1 (by omega) v hv) (Nat.le_of_ble_eq_true rfl) rfl rfl (fun y3 => ?_)
    refine Sg.go (pc' := 33) (mi_iconst (z := (-1)) dX10_enable_32 rfl) ?_
    refine Sg.ite (fun h4 => ?_) (fun h4 => ?_)
    · refine Sg.go (pc' := 40) (mi_icmpne_t (tgt := 40) dX10_enable_33 (by decide) h4) ?_
      exact S_X10_enable_40 hL v1 D1
    · refine Sg.go (pc' := 36) (mi_icmpne_f (tgt := 40) dX10_enable_33 (by decide) h4) ?_
      refine Sg.go (pc' := 37) (mi_iconst (z := 1) dX10_enable_36 rfl) ?_
      refine Sg.go (pc' := 41) (mi_goto (tgt := 41) dX10_enable_37 (by decide)) ?_
      exact S_X10_enable_41 hL v1 1 D1
theorem C_X10_enable {Z : MiZ} (hL : CL Z) (a1 : Int) (D : MiD) (b : (Int × MiD) ⊕ (Nat × MiD)) (hb : B_X10_enable Z a1 D = some b) : MC m_X10_enable [(3, 0), (0, a1)] (D, Z) ((mi_LT 0 Z) b) := MC.ofSg (L := (mi_LT 0 Z)) (μ := m_X10_enable) (args := [(3, 0), (0, a1)]) (M := (D, Z)) rfl wP_X10 (Nat.le_of_ble_eq_true rfl) (show Sg m_X10_enable 0 [(3, 0), (0, a1)] [] (D, Z) (mi_LT 0 Z) (B_X10_enable Z a1 D) from S_X10_enable hL a1 D) hb
abbrev m_X10_force : MiI := (yX10_force, cX10_force, 1, (some .int), 8, none)
def B_X10_force_17 (Z : MiZ) (s1 : Int) (D : MiD) : Option ((Int × MiD) ⊕ (Nat × MiD)) := if s1 = 0 ∨ s1 = 1 then (mi_bn (B_X10_needState s1 D) Sum.inr fun D2 => mi_b2 (B_X9_forceAll Z 0 D2) fun y3 D4 => some (.inl (y3, D4))) else none
set_option maxRecDepth 20000 in
theorem S_X10_force_17 {Z : MiZ} (hL : CL Z) (s1 : Int) (D : MiD) : Sg m_X10_force 17 [(3, 0)] [(0, s1), (3, 0)] (D, Z) (mi_LT 0 Z) (B_X10_force_17 Z s1 D) := by
  unfold B_X10_force_17
  refine Sg.ck (fun hk1 => ?_)
  refine Sg.callNT (pc' := 20) (μ' := m_X10_needState) (args := [(3, 0), (0, s1)]) (mi_invV (n := 1) (r := 1) dX10_force_17 hC_1 (by omega) rfl rfl wN_X10_needState rfl ⟨by decide, by decide⟩ wL_X10_49 wI_X10_needState wS_X10_needState wB_X10 wC_X10_needState) (fun v hv => C_X10_needState hL s1 D (hk1) v hv) rfl (Nat.le_of_ble_eq_true rfl) rfl rfl (fun D2 => ?_)
  refine Sg.go (pc' := 21) (mi_aload_n dX10_force_20 rfl) ?_
  refine Sg.go (pc' := 24) (mi_gfA (t := 2) (v := 0) (r := 1) (k := 4) dX10_force_21 hC_1 (by decide) rfl wF_X10_20 (by omega) rfl hL.1.2.1) ?_
  refine Sg.callD (pc' := 27) (t := 0) (μ' := m_X9_forceAll) (args := [(4, 0)]) (mi_invV (n := 0) (r := 2) dX10_force_24 hC_2 (by omega) rfl rfl wN_X9_forceAll rfl ⟨by decide, by decide⟩ wL_X10_150 wI_X9_forceAll wS_X9_forceAll wB_X9 wC_X9_forceAll) (fun v hv => C_X9_forceAll hL 0 D2 (by omega) v hv) (Nat.le_of_ble_eq_true rfl) rfl rfl (fun y3 D4 => ?_)
  exact Sg.ret (mi_ireturn dX10_force_27 rfl (Or.inl rfl))
def B_X10_force (Z : MiZ) (D : MiD) : Option ((Int × MiD) ⊕ (Nat × MiD)) := if (D 2 0 8) = (-1) then (B_X10_force_17 Z 0 D) else (B_X10_force_17 Z 1 D)
set_option maxRecDepth 20000 in
theorem S_X10_force {Z : MiZ} (hL : CL Z) (D : MiD) : Sg m_X10_force 0 [(3, 0)] [] (D, Z) (mi_LT 0 Z) (B_X10_force Z D) := by
  unfold B_X10_force
  refine Sg.go (pc' := 1) (mi_aload_n dX10_force_0 rfl) ?_
  refine Sg.go (pc' := 2) (mi_aload_n dX10_force_1 rfl) ?_
  refine Sg.go (pc' := 5) (mi_gfA (t := 2) (v := 0) (r := 1) (k := 4) dX10_force_2 hC_1 (by decide) rfl wF_X10_20 (by omega) rfl hL.1.2.1) ?_
  refine Sg.go (pc' := 8) (mi_gfI (r := 2) (k := 8) dX10_force_5 hC_2 (by decide) rfl wF_X10_131 (by omega) rfl) ?_
  refine Sg.go (pc' := 9) (mi_iconst (z := (-1)) dX10_force_8 rfl) ?_
  refine Sg.ite (fun h1 => ?_) (fun h1 => ?_)
  · refine Sg.go (pc' := 16) (mi_icmpeq_t (tgt := 16) dX10_force_9 (by decide) h1) ?_
    refine Sg.go (pc' := 17) (mi_iconst (z := 0) dX10_force_16 rfl) ?_
    exact S_X10_force_17 hL 0 D
  · refine Sg.go (pc' := 12) (mi_icmpeq_f (tgt := 16) dX10_force_9 (by decide) h1) ?_
    refine Sg.go (pc' := 13) (mi_iconst (z := 1) dX10_force_12 rfl) ?_
    refine Sg.go (pc' := 17) (mi_goto (tgt := 17) dX10_force_13 (by decide)) ?_
    exact S_X10_force_17 hL 1 D
theorem C_X10_force {Z : MiZ} (hL : CL Z) (D : MiD) (b : (Int × MiD) ⊕ (Nat × MiD)) (hb : B_X10_force Z D = some b) : MC m_X10_force [(3, 0)] (D, Z) ((mi_LT 0 Z) b) := MC.ofSg (L := (mi_LT 0 Z)) (μ := m_X10_force) (args := [(3, 0)]) (M := (D, Z)) rfl wP_X10 (Nat.le_of_ble_eq_true rfl) (show Sg m_X10_force 0 [(3, 0)] [] (D, Z) (mi_LT 0 Z) (B_X10_force Z D) from S_X10_force hL D) hb
abbrev m_X10_go : MiI := (yX10_go, cX10_go, 4, (some .int), 8, none)
def B_X10_go_30 (Z : MiZ) : Nat → Int → Int → Int → MiD → Option ((Int × MiD) ⊕ (Nat × MiD))
  | 0, _, _, _, _ => none
  | f + 1, v1, v2, v3, D => if v1 ≤ v3 then (some (.inl ((mi_w ((D 2 0 12) - v2)), D))) else (mi_bi (B_X9_tick Z 0 D) fun D2 => B_X10_go_30 Z f v1 v2 (mi_w (v3 + 1)) D2)
set_option maxRecDepth 20000 in
theorem S_X10_go_30 {Z : MiZ} (hL : CL Z) : ∀ (f : Nat) (v1 v2 v3 : Int) (D : MiD), Sg m_X10_go 30 [(3, 0), (0, v1), (0, v2), (0, v3)] [] (D, Z) (mi_LT 0 Z) (B_X10_go_30 Z f v1 v2 v3 D) := by
  intro f
  induction f with
  | zero => intros; exact Sg.nope
  | succ f K30 =>
    intro v1 v2 v3 D
    show Sg m_X10_go 30 [(3, 0), (0, v1), (0, v2), (0, v3)] [] (D, Z) (mi_LT 0 Z) (if v1 ≤ v3 then (some (.inl ((mi_w ((D 2 0 12) - v2)), D))) else (mi_bi (B_X9_tick Z 0 D) fun D2 => B_X10_go_30 Z f v1 v2 (mi_w (v3 + 1)) D2))
    refine Sg.go (pc' := 31) (mi_iload_n dX10_go_30 rfl) ?_
    refine Sg.go (pc' := 32) (mi_iload_n dX10_go_31 rfl) ?_
    refine Sg.ite (fun h1 => ?_) (fun h1 => ?_)
    · refine Sg.go (pc' := 48) (mi_icmpge_t (tgt := 48) dX10_go_32 (by decide) h1) ?_
      refine Sg.go (pc' := 49) (mi_aload_n dX10_go_48 rfl) ?_
      refine Sg.go (pc' := 52) (mi_gfA (t := 2) (v := 0) (r := 1) (k := 4) dX10_go_49 hC_1 (by decide) rfl wF_X10_20 (by omega) rfl hL.1.2.1) ?_
      refine Sg.go (pc' := 55) (mi_gfI (r := 2) (k := 12) dX10_go_52 hC_2 (by decide) rfl wF_X10_125 (by omega) rfl) ?_
      refine Sg.go (pc' := 56) (mi_iload_n dX10_go_55 rfl) ?_
      refine Sg.go (pc' := 57) (mi_isub dX10_go_56) ?_
      exact Sg.ret (mi_ireturn dX10_go_57 rfl (Or.inl rfl))
    · refine Sg.go (pc' := 35) (mi_icmpge_f (tgt := 48) dX10_go_32 (by decide) h1) ?_
      refine Sg.go (pc' := 36) (mi_aload_n dX10_go_35 rfl) ?_
      refine Sg.go (pc' := 39) (mi_gfA (t := 2) (v := 0) (r := 1) (k := 4) dX10_go_36 hC_1 (by decide) rfl wF_X10_20 (by omega) rfl hL.1.2.1) ?_
      refine Sg.callV (pc' := 42) (μ' := m_X9_tick) (args := [(4, 0)]) (mi_invV (n := 0) (r := 2) dX10_go_39 hC_2 (by omega) rfl rfl wN_X9_tick rfl ⟨by decide, by decide⟩ wL_X10_128 wI_X9_tick wS_X9_tick wB_X9 wC_X9_tick) (fun v hv => C_X9_tick hL 0 D (by omega) v hv) (Nat.le_of_ble_eq_true rfl) rfl rfl (fun D2 => ?_)
      refine Sg.go (pc' := 45) (mi_iinc (z := 1) (ls1 := [(3, 0), (0, v1), (0, v2), (0, (mi_w (v3 + 1)))]) dX10_go_42 (by decide) rfl rfl rfl) ?_
      refine Sg.go (pc' := 30) (mi_goto (tgt := 30) dX10_go_45 (by decide)) ?_
      exact K30 v1 v2 (mi_w (v3 + 1)) D2
def B_X10_go_17 (Z : MiZ) (v1 : Int) (s1 : Int) (D : MiD) : Option ((Int × MiD) ⊕ (Nat × MiD)) := if s1 = 0 ∨ s1 = 1 then (mi_bn (B_X10_needArgument s1 D) Sum.inr fun D2 => B_X10_go_30 Z mi_fuel v1 (D2 2 0 12) 0 D2) else none
set_option maxRecDepth 20000 in
theorem S_X10_go_17 {Z : MiZ} (hL : CL Z) (v1 s1 : Int) (D : MiD) : Sg m_X10_go 17 [(3, 0), (0, v1), mi_un, mi_un] [(0, s1), (3, 0)] (D, Z) (mi_LT 0 Z) (B_X10_go_17 Z v1 s1 D) := by
  unfold B_X10_go_17
  refine Sg.ck (fun hk1 => ?_)
  refine Sg.callNT (pc' := 20) (μ' := m_X10_needArgument) (args := [(3, 0), (0, s1)]) (mi_invV (n := 1) (r := 1) dX10_go_17 hC_1 (by omega) rfl rfl wN_X10_needArgument rfl ⟨by decide, by decide⟩ wL_X10_42 wI_X10_needArgument wS_X10_needArgument wB_X10 wC_X10_needArgument) (fun v hv => C_X10_needArgument hL s1 D (hk1) v hv) rfl (Nat.le_of_ble_eq_true rfl) rfl rfl (fun D2 => ?_)
  refine Sg.go (pc' := 21) (mi_aload_n dX10_go_20 rfl) ?_
  refine Sg.go (pc' := 24) (mi_gfA (t := 2) (v := 0) (r := 1) (k := 4) dX10_go_21 hC_1 (by decide) rfl wF_X10_20 (by omega) rfl hL.1.2.1) ?_
  refine Sg.go (pc' := 27) (mi_gfI (r := 2) (k := 12) dX10_go_24 hC_2 (by decide) rfl wF_X10_125 (by omega) rfl) ?_
  refine Sg.go (pc' := 28) (mi_istore_n (ls1 := [(3, 0), (0, v1), (0, (D2 2 0 12)), mi_un]) dX10_go_27 (by decide) rfl) ?_
  refine Sg.go (pc' := 29) (mi_iconst (z := 0) dX10_go_28 rfl) ?_
  refine Sg.go (pc' := 30) (mi_istore_n (ls1 := [(3, 0), (0, v1), (0, (D2 2 0 12)), (0, 0)]) dX10_go_29 (by decide) rfl) ?_
  exact S_X10_go_30 hL mi_fuel v1 (D2 2 0 12) 0 D2
def B_X10_go_16 (Z : MiZ) (v1 : Int) (D : MiD) : Option ((Int × MiD) ⊕ (Nat × MiD)) := B_X10_go_17 Z v1 0 D
set_option maxRecDepth 20000 in
theorem S_X10_go_16 {Z : MiZ} (hL : CL Z) (v1 : Int) (D : MiD) : Sg m_X10_go 16 [(3, 0), (0, v1), mi_un, mi_un] [(3, 0)] (D, Z) (mi_LT 0 Z) (B_X10_go_16 Z v1 D) := by
  unfold B_X10_go_16
  refine Sg.go (pc' := 17) (mi_iconst (z := 0) dX10_go_16 rfl) ?_
  exact S_X10_go_17 hL v1 0 D
def B_X10_go (Z : MiZ) (v1 : Int) (D : MiD) : Option ((Int × MiD) ⊕ (Nat × MiD)) := if v1 < 1 then (B_X10_go_16 Z v1 D) else (if 60 < v1 then (B_X10_go_16 Z v1 D) else (B_X10_go_17 Z v1 1 D))
set_option maxRecDepth 20000 in
theorem S_X10_go {Z : MiZ} (hL : CL Z) (v1 : Int) (D : MiD) : Sg m_X10_go 0 [(3, 0), (0, v1), mi_un, mi_un] [] (D, Z) (mi_LT 0 Z) (B_X10_go Z v1 D) := by
  unfold B_X10_go
  refine Sg.go (pc' := 1) (mi_aload_n dX10_go_0 rfl) ?_
  refine Sg.go (pc' := 2) (mi_iload_n dX10_go_1 rfl) ?_
  refine Sg.go (pc' := 3) (mi_iconst (z := 1) dX10_go_2 rfl) ?_
  refine Sg.ite (fun h1 => ?_) (fun h1 => ?_)
  · refine Sg.go (pc' := 16) (mi_icmplt_t (tgt := 16) dX10_go_3 (by decide) h1) ?_
    exact S_X10_go_16 hL v1 D
  · refine Sg.go (pc' := 6) (mi_icmplt_f (tgt := 16) dX10_go_3 (by decide) h1) ?_
    refine Sg.go (pc' := 7) (mi_iload_n dX10_go_6 rfl) ?_
    refine Sg.go (pc' := 9) (mi_bipush (z := 60) dX10_go_7 rfl) ?_
    refine Sg.ite (fun h2 => ?_) (fun h2 => ?_)
    · refine Sg.go (pc' := 16) (mi_icmpgt_t (tgt := 16) dX10_go_9 (by decide) h2) ?_
      exact S_X10_go_16 hL v1 D
    · refine Sg.go (pc' := 12) (mi_icmpgt_f (tgt := 16) dX10_go_9 (by decide) h2) ?_
      refine Sg.go (pc' := 13) (mi_iconst (z := 1) dX10_go_12 rfl) ?_
      refine Sg.go (pc' := 17) (mi_goto (tgt := 17) dX10_go_13 (by decide)) ?_
      exact S_X10_go_17 hL v1 1 D
theorem C_X10_go {Z : MiZ} (hL : CL Z) (a1 : Int) (D : MiD) (b : (Int × MiD) ⊕ (Nat × MiD)) (hb : B_X10_go Z a1 D = some b) : MC m_X10_go [(3, 0), (0, a1)] (D, Z) ((mi_LT 0 Z) b) := MC.ofSg (L := (mi_LT 0 Z)) (μ := m_X10_go) (args := [(3, 0), (0, a1)]) (M := (D, Z)) rfl wP_X10 (Nat.le_of_ble_eq_true rfl) (show Sg m_X10_go 0 [(3, 0), (0, a1), mi_un, mi_un] [] (D, Z) (mi_LT 0 Z) (B_X10_go Z a1 D) from S_X10_go hL a1 D) hb
abbrev m_X10_reverse : MiI := (yX10_reverse, cX10_reverse, 1, (some .int), 8, none)
def B_X10_reverse_17 (Z : MiZ) (s1 : Int) (D : MiD) : Option ((Int × MiD) ⊕ (Nat × MiD)) := if s1 = 0 ∨ s1 = 1 then (mi_bn (B_X10_needState s1 D) Sum.inr fun D2 => mi_b2 (B_X9_turnBack Z 0 D2) fun y3 D4 => some (.inl (y3, D4))) else none
set_option maxRecDepth 20000 in
theorem S_X10_reverse_17 {Z : MiZ} (hL : CL Z) (s1 : Int) (D : MiD) : Sg m_X10_reverse 17 [(3, 0)] [(0, s1), (3, 0)] (D, Z) (mi_LT 0 Z) (B_X10_reverse_17 Z s1 D) := by
  unfold B_X10_reverse_17
  refine Sg.ck (fun hk1 => ?_)
  refine Sg.callNT (pc' := 20) (μ' := m_X10_needState) (args := [(3, 0), (0, s1)]) (mi_invV (n := 1) (r := 1) dX10_reverse_17 hC_1 (by omega) rfl rfl wN_X10_needState rfl ⟨by decide, by decide⟩ wL_X10_49 wI_X10_needState wS_X10_needState wB_X10 wC_X10_needState) (fun v hv => C_X10_needState hL s1 D (hk1) v hv) rfl (Nat.le_of_ble_eq_true rfl) rfl rfl (fun D2 => ?_)
  refine Sg.go (pc' := 21) (mi_aload_n dX10_reverse_20 rfl) ?_
  refine Sg.go (pc' := 24) (mi_gfA (t := 2) (v := 0) (r := 1) (k := 4) dX10_reverse_21 hC_1 (by decide) rfl wF_X10_20 (by omega) rfl hL.1.2.1) ?_
  refine Sg.callD (pc' := 27) (t := 0) (μ' := m_X9_turnBack) (args := [(4, 0)]) (mi_invV (n := 0) (r := 2) dX10_reverse_24 hC_2 (by omega) rfl rfl wN_X9_turnBack rfl ⟨by decide, by decide⟩ wL_X10_147 wI_X9_turnBack wS_X9_turnBack wB_X9 wC_X9_turnBack) (fun v hv => C_X9_turnBack hL 0 D2 (by omega) v hv) (Nat.le_of_ble_eq_true rfl) rfl rfl (fun y3 D4 => ?_)
  exact Sg.ret (mi_ireturn dX10_reverse_27 rfl (Or.inl rfl))
def B_X10_reverse (Z : MiZ) (D : MiD) : Option ((Int × MiD) ⊕ (Nat × MiD)) := if (D 2 0 8) = (-1) then (B_X10_reverse_17 Z 0 D) else (B_X10_reverse_17 Z 1 D)
set_option maxRecDepth 20000 in
theorem S_X10_reverse {Z : MiZ} (hL : CL Z) (D : MiD) : Sg m_X10_reverse 0 [(3, 0)] [] (D, Z) (mi_LT 0 Z) (B_X10_reverse Z D) := by
  unfold B_X10_reverse
  refine Sg.go (pc' := 1) (mi_aload_n dX10_reverse_0 rfl) ?_
  refine Sg.go (pc' := 2) (mi_aload_n dX10_reverse_1 rfl) ?_
  refine Sg.go (pc' := 5) (mi_gfA (t := 2) (v := 0) (r := 1) (k := 4) dX10_reverse_2 hC_1 (by decide) rfl wF_X10_20 (by omega) rfl hL.1.2.1) ?_
  refine Sg.go (pc' := 8) (mi_gfI (r := 2) (k := 8) dX10_reverse_5 hC_2 (by decide) rfl wF_X10_131 (by omega) rfl) ?_
  refine Sg.go (pc' := 9) (mi_iconst (z := (-1)) dX10_reverse_8 rfl) ?_
  refine Sg.ite (fun h1 => ?_) (fun h1 => ?_)
  · refine Sg.go (pc' := 16) (mi_icmpeq_t (tgt := 16) dX10_reverse_9 (by decide) h1) ?_
    refine Sg.go (pc' := 17) (mi_iconst (z := 0) dX10_reverse_16 rfl) ?_
    exact S_X10_reverse_17 hL 0 D
  · refine Sg.go (pc' := 12) (mi_icmpeq_f (tgt := 16) dX10_reverse_9 (by decide) h1) ?_
    refine Sg.go (pc' := 13) (mi_iconst (z := 1) dX10_reverse_12 rfl) ?_
    refine Sg.go (pc' := 17) (mi_goto (tgt := 17) dX10_reverse_13 (by decide)) ?_
    exact S_X10_reverse_17 hL 1 D
theorem C_X10_reverse {Z : MiZ} (hL : CL Z) (D : MiD) (b : (Int × MiD) ⊕ (Nat × MiD)) (hb : B_X10_reverse Z D = some b) : MC m_X10_reverse [(3, 0)] (D, Z) ((mi_LT 0 Z) b) := MC.ofSg (L := (mi_LT 0 Z)) (μ := m_X10_reverse) (args := [(3, 0)]) (M := (D, Z)) rfl wP_X10 (Nat.le_of_ble_eq_true rfl) (show Sg m_X10_reverse 0 [(3, 0)] [] (D, Z) (mi_LT 0 Z) (B_X10_reverse Z D) from S_X10_reverse hL D) hb
abbrev m_X10_waits : MiI := (yX10_waits, cX10_waits, 2, (some .int), 8, none)
def B_X10_waits_26 : Nat → Int → MiD → MiZ → Option (Int × MiM)
  | 0, _, _, _ => none
  | f + 1, v1, D, Z => if 60 < v1 then (some ((-1), (D, Z))) else (mi_bi (B_X9_tick Z 1 D) fun D2 => if (D2 2 1 8) ≠ (-1) then (B_X10_waits_26 f (mi_w (v1 + 1)) D2 Z) else (some (v1, (D2, Z))))
set_option maxRecDepth 20000 in
theorem S_X10_waits_26  : ∀ (f : Nat) (v1 : Int) (D : MiD) (Z : MiZ) (hL : CL Z), Sg m_X10_waits 26 [(3, 0), (0, v1)] [] (D, Z) (mi_LZ 0) (B_X10_waits_26 f v1 D Z) := by
  intro f
  induction f with
  | zero => intros; exact Sg.nope
  | succ f K26 =>
    intro v1 D Z hL
    show Sg m_X10_waits 26 [(3, 0), (0, v1)] [] (D, Z) (mi_LZ 0) (if 60 < v1 then (some ((-1), (D, Z))) else (mi_bi (B_X9_tick Z 1 D) fun D2 => if (D2 2 1 8) ≠ (-1) then (B_X10_waits_26 f (mi_w (v1 + 1)) D2 Z) else (some (v1, (D2, Z)))))
    refine Sg.go (pc' := 27) (mi_iload_n dX10_waits_26 rfl) ?_
    refine Sg.go (pc' := 29) (mi_bipush (z := 60) dX10_waits_27 rfl) ?_
    refine Sg.ite (fun h1 => ?_) (fun h1 => ?_)
    · refine Sg.go (pc' := 58) (mi_icmpgt_t (tgt := 58) dX10_waits_29 (by decide) h1) ?_
      refine Sg.go (pc' := 59) (mi_iconst (z := (-1)) dX10_waits_58 rfl) ?_
      exact Sg.ret (mi_ireturn dX10_waits_59 rfl (Or.inl rfl))
    · refine Sg.go (pc' := 32) (mi_icmpgt_f (tgt := 58) dX10_waits_29 (by decide) h1) ?_
      refine Sg.go (pc' := 33) (mi_aload_n dX10_waits_32 rfl) ?_
      refine Sg.go (pc' := 36) (mi_gfA (t := 2) (v := 1) (r := 1) (k := 5) dX10_waits_33 hC_1 (by decide) rfl wF_X10_24 (by omega) rfl hL.1.2.2) ?_
      refine Sg.callV (pc' := 39) (μ' := m_X9_tick) (args := [(4, 1)]) (mi_invV (n := 0) (r := 2) dX10_waits_36 hC_2 (by omega) rfl rfl wN_X9_tick rfl ⟨by decide, by decide⟩ wL_X10_128 wI_X9_tick wS_X9_tick wB_X9 wC_X9_tick) (fun v hv => C_X9_tick hL 1 D (by omega) v hv) (Nat.le_of_ble_eq_true rfl) rfl rfl (fun D2 => ?_)
      refine Sg.go (pc' := 40) (mi_aload_n dX10_waits_39 rfl) ?_
      refine Sg.go (pc' := 43) (mi_gfA (t := 2) (v := 1) (r := 1) (k := 5) dX10_waits_40 hC_1 (by decide) rfl wF_X10_24 (by omega) rfl hL.1.2.2) ?_
      refine Sg.go (pc' := 46) (mi_gfI (r := 2) (k := 8) dX10_waits_43 hC_2 (by decide) rfl wF_X10_131 (by omega) rfl) ?_
      refine Sg.go (pc' := 47) (mi_iconst (z := (-1)) dX10_waits_46 rfl) ?_
      refine Sg.ite (fun h3 => ?_) (fun h3 => ?_)
      · refine Sg.go (pc' := 52) (mi_icmpne_t (tgt := 52) dX10_waits_47 (by decide) h3) ?_
        refine Sg.go (pc' := 55) (mi_iinc (z := 1) (ls1 := [(3, 0), (0, (mi_w (v1 + 1)))]) dX10_waits_52 (by decide) rfl rfl rfl) ?_
        refine Sg.go (pc' := 26) (mi_goto (tgt := 26) dX10_waits_55 (by decide)) ?_
        exact K26 (mi_w (v1 + 1)) D2 Z hL
      · refine Sg.go (pc' := 50) (mi_icmpne_f (tgt := 52) dX10_waits_47 (by decide) h3) ?_
        refine Sg.go (pc' := 51) (mi_iload_n dX10_waits_50 rfl) ?_
        exact Sg.ret (mi_ireturn dX10_waits_51 rfl (Or.inl rfl))
def B_X10_waits (D : MiD) (Z : MiZ) : Option (Int × MiM) := if (D 2 0 8) ≠ (-1) then (mi_bw (B_X9_copyFrom 1 0 D Z) fun D2 Z3 => mi_req (CL Z3) (B_X10_waits_26 mi_fuel 1 D2 Z3)) else (some (0, (D, Z)))
set_option maxRecDepth 20000 in
theorem S_X10_waits  (D : MiD) (Z : MiZ) (hL : CL Z) : Sg m_X10_waits 0 [(3, 0), mi_un] [] (D, Z) (mi_LZ 0) (B_X10_waits D Z) := by
  unfold B_X10_waits
  refine Sg.go (pc' := 1) (mi_aload_n dX10_waits_0 rfl) ?_
  refine Sg.go (pc' := 4) (mi_gfA (t := 2) (v := 0) (r := 1) (k := 4) dX10_waits_1 hC_1 (by decide) rfl wF_X10_20 (by omega) rfl hL.1.2.1) ?_
  refine Sg.go (pc' := 7) (mi_gfI (r := 2) (k := 8) dX10_waits_4 hC_2 (by decide) rfl wF_X10_131 (by omega) rfl) ?_
  refine Sg.go (pc' := 8) (mi_iconst (z := (-1)) dX10_waits_7 rfl) ?_
  refine Sg.ite (fun h1 => ?_) (fun h1 => ?_)
  · refine Sg.go (pc' := 13) (mi_icmpne_t (tgt := 13) dX10_waits_8 (by decide) h1) ?_
    refine Sg.go (pc' := 14) (mi_aload_n dX10_waits_13 rfl) ?_
    refine Sg.go (pc' := 17) (mi_gfA (t := 2) (v := 1) (r := 1) (k := 5) dX10_waits_14 hC_1 (by decide) rfl wF_X10_24 (by omega) rfl hL.1.2.2) ?_
    refine Sg.go (pc' := 18) (mi_aload_n dX10_waits_17 rfl) ?_
    refine Sg.go (pc' := 21) (mi_gfA (t := 2) (v := 0) (r := 1) (k := 4) dX10_waits_18 hC_1 (by decide) rfl wF_X10_20 (by omega) rfl hL.1.2.1) ?_
    refine Sg.callW (pc' := 24) (μ' := m_X9_copyFrom) (args := [(4, 1), (4, 0)]) (mi_invV (n := 1) (r := 2) dX10_waits_21 hC_2 (by omega) rfl rfl wN_X9_copyFrom rfl ⟨by decide, by decide⟩ wL_X10_300 wI_X9_copyFrom wS_X9_copyFrom wB_X9 wC_X9_copyFrom) (fun v hv => C_X9_copyFrom hL 1 0 D (by omega) (by omega) v hv) (Nat.le_of_ble_eq_true rfl) rfl rfl (fun D2 Z3 => ?_)
    refine Sg.rq (fun hL => ?_)
    refine Sg.go (pc' := 25) (mi_iconst (z := 1) dX10_waits_24 rfl) ?_
    refine Sg.go (pc' := 26) (mi_istore_n (ls1 := [(3, 0), (0, 1)]) dX10_waits_25 (by decide) rfl) ?_
    exact S_X10_waits_26 mi_fuel 1 D2 Z3 hL
  · refine Sg.go (pc' := 11) (mi_icmpne_f (tgt := 13) dX10_waits_8 (by decide) h1) ?_
    refine Sg.go (pc' := 12) (mi_iconst (z := 0) dX10_waits_11 rfl) ?_
    exact Sg.ret (mi_ireturn dX10_waits_12 rfl (Or.inl rfl))
theorem C_X10_waits {Z : MiZ} (hL : CL Z) (D : MiD) (b : Int × MiM) (hb : B_X10_waits D Z = some b) : MC m_X10_waits [(3, 0)] (D, Z) ((mi_LZ 0) b) := MC.ofSg (L := (mi_LZ 0)) (μ := m_X10_waits) (args := [(3, 0)]) (M := (D, Z)) rfl wP_X10 (Nat.le_of_ble_eq_true rfl) (show Sg m_X10_waits 0 [(3, 0), mi_un] [] (D, Z) (mi_LZ 0) (B_X10_waits D Z) from S_X10_waits D Z hL) hb
end MiW5
