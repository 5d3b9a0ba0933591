noncomputable section MiW5
abbrev m_X10_reverse : MiI := (yX10_reverse, cX10_reverse, 1, (some .int), 8, none)
def B_X10_reverse_17 (Z : MiZ) (s1 : Int) (D : MiD) : Option ((Int × MiD) ⊕ (Nat × MiD)) := if s1 = 0 ∨ s1 = 1 then (mi_bn (B_X10_needState s1 D) Sum.inr fun D2 => mi_b2 (B_X9_turnBack Z 0 D2) fun y3 D4 => some (.inl (y3, D4))) else none
set_option maxRecDepth 20000 in
theorem S_X10_reverse_17 {Z : MiZ} (hL : CL Z) (s1 : Int) (D : MiD) : Sg m_X10_reverse 17 [(3, 0)] [(0, s1), (3, 0)] (D, Z) (mi_LT 0 Z) (B_X10_reverse_17 Z s1 D) := by
  unfold B_X10_reverse_17
  refine Sg.ck (fun hk1 => ?_)
  refine Sg.callNT (pc' := 20) (μ' := m_X10_needState) (args := [(3, 0), (0, s1)]) (mi_invV (n := 1) (r := 1) dX10_reverse_17 hC_1 (by omega) rfl rfl wN_X10_needState rfl ⟨by decide, by decide⟩ wL_X10_49 wI_X10_needState wS_X10_needState wB_X10 wC_X10_needState) (fun v hv => C_X10_needState hL s1 D (hk1) v hv) rfl (Nat.le_of_ble_eq_true rfl) rfl rfl (fun D2 => ?_)
  refine Sg.go (pc' := 21) (mi_aload_n dX10_reverse_20 rfl) ?_
  refine Sg.go (pc' := 24) (mi_gfA (t := 2) (v := 0) (r := 1) (k := 4) dX10_reverse_21 hC_1 (by decide) rfl wF_X10_20 (by omega) rfl hL.1.2.1) ?_
  refine Sg.callD (pc' := 27) (t := 0) (μ' := m_X9_turnBack) (args := [(4, 0)]) (mi_invV (n := 0) (r := 2) dX10_reverse_24 hC_2 (by omega) rfl rfl wN_X9_turnBack rfl ⟨by decide, by decide⟩ wL_X10_147 wI_X9_turnBack wS_X9_turnBack wB_X9 wC_X9_turnBack) (fun v hv => C_X9_turnBack hL 0 D2 (by omega) v hv) (Nat.le_of_ble_eq_true rfl) rfl rfl (fun y3 D4 => ?_)
  exact Sg.ret (mi_ireturn dX10_reverse_27 rfl (Or.inl rfl))
def B_X10_reverse (Z : MiZ) (D : MiD) : Option ((Int × MiD) ⊕ (Nat × MiD)) := if (D 2 0 8) = (-1) then (B_X10_reverse_17 Z 0 D) else (B_X10_reverse_17 Z 1 D)
set_option maxRecDepth 20000 in
theorem S_X10_reverse {Z : MiZ} (hL : CL Z) (D : MiD) : Sg m_X10_reverse 0 [(3, 0)] [] (D, Z) (mi_LT 0 Z) (B_X10_reverse Z D) := by
  unfold B_X10_reverse
  refine Sg.go (pc' := 1) (mi_aload_n dX10_reverse_0 rfl) ?_
  refine Sg.go (pc' := 2) (mi_aload_n dX10_reverse_1 rfl) ?_
  refine Sg.go (pc' := 5) (mi_gfA (t := 2) (v := 0) (r := 1) (k := 4) dX10_reverse_2 hC_1 (by decide) rfl wF_X10_20 (by omega) rfl hL.1.2.1) ?_
  refine Sg.go (pc' := 8) (mi_gfI (r := 2) (k := 8) dX10_reverse_5 hC_2 (by decide) rfl wF_X10_131 (by omega) rfl) ?_
  refine Sg.go (pc' := 9) (mi_iconst (z := (-1)) dX10_reverse_8 rfl) ?_
  refine Sg.ite (fun h1 => ?_) (fun h1 => ?_)
  · refine Sg.go (pc' := 16) (mi_icmpeq_t (tgt := 16) dX10_reverse_9 (by decide) h1) ?_
    refine Sg.go (pc' := 17) (mi_iconst (z := 0) dX10_reverse_16 rfl) ?_
    exact S_X10_reverse_17 hL 0 D
  · refine Sg.go (pc' := 12) (mi_icmpeq_f (tgt := 16) dX10_reverse_9 (by decide) h1) ?_
    refine Sg.go (pc' := 13) (mi_iconst (z := 1) dX10_reverse_12 rfl) ?_
    refine Sg.go (pc' := 17) (mi_goto (tgt := 17) dX10_reverse_13 (by decide)) ?_
    exact S_X10_reverse_17 hL 1 D
theorem C_X10_reverse {Z : MiZ} (hL : CL Z) (D : MiD) (b : (Int × MiD) ⊕ (Nat × MiD)) (hb : B_X10_reverse Z D = some b) : MC m_X10_reverse [(3, 0)] (D, Z) ((mi_LT 0 Z) b) := MC.ofSg (L := (mi_LT 0 Z)) (μ := m_X10_reverse) (args := [(3, 0)]) (M := (D, Z)) rfl wP_X10 (Nat.le_of_ble_eq_true rfl) (show Sg m_X10_reverse 0 [(3, 0)] [] (D, Z) (mi_LT 0 Z) (B_X10_reverse Z D) from S_X10_reverse hL D) hb
abbrev m_X10_waits : MiI := (yX10_waits, cX10_waits, 2, (some .int), 8, none)
def B_X10_waits_26 : Nat → Int → MiD → MiZ → Option (Int × MiM)
  | 0, _, _, _ => none
  | f + 1, v1, D, Z => if 60 < v1 then (some ((-1), (D, Z))) else (mi_bi (B_X9_tick Z 1 D) fun D2 => if (D2 2 1 8) ≠ (-1) then (B_X10_waits_26 f (mi_w (v1 + 1)) D2 Z) else (some (v1, (D2, Z))))
set_option maxRecDepth 20000 in
theorem S_X10_waits_26  : ∀ (f : Nat) (v1 : Int) (D : MiD) (Z : MiZ) (hL : CL Z), Sg m_X10_waits 26 [(3, 0), (0, v1)] [] (D, Z) (mi_LZ 0) (B_X10_waits_26 f v1 D Z) := by
  intro f
  induction f with
  | zero => intros; exact Sg.nope
  | succ f K26 =>
    intro v1 D Z hL
    show Sg m_X10_waits 26 [(3, 0), (0, v1)] [] (D, Z) (mi_LZ 0) (if 60 < v1 then (some ((-1), (D, Z))) else (mi_bi (B_X9_tick Z 1 D) fun D2 => if (D2 2 1 8) ≠ (-1) then (B_X10_waits_26 f (mi_w (v1 + 1)) D2 Z) else (some (v1, (D2, Z)))))
    refine Sg.go (pc' := 27) (mi_iload_n dX10_waits_26 rfl) ?_
    refine Sg.go (pc' := 29) (mi_bipush (z := 60) dX10_waits_27 rfl) ?_
    refine Sg.ite (fun h1 => ?_) (fun h1 => ?_)
    · refine Sg.go (pc' := 58) (mi_icmpgt_t (tgt := 58) dX10_waits_29 (by decide) h1) ?_
      refine Sg.go (pc' := 59) (mi_iconst (z := (-1)) dX10_waits_58 rfl) ?_
      exact Sg.ret (mi_ireturn dX10_waits_59 rfl (Or.inl rfl))
    · refine Sg.go (pc' := 32) (mi_icmpgt_f (tgt := 58) dX10_waits_29 (by decide) h1) ?_
      refine Sg.go (pc' := 33) (mi_aload_n dX10_waits_32 rfl) ?_
      refine Sg.go (pc' := 36) (mi_gfA (t := 2) (v := 1) (r := 1) (k := 5) dX10_waits_33 hC_1 (by decide) rfl wF_X10_24 (by omega) rfl hL.1.2.2) ?_
      refine Sg.callV (pc' := 39) (μ' := m_X9_tick) (args := [(4, 1)]) (mi_invV (n := 0) (r := 2) dX10_waits_36 hC_2 (by omega) rfl rfl wN_X9_tick rfl ⟨by decide, by decide⟩ wL_X10_128 wI_X9_tick wS_X9_tick wB_X9 wC_X9_tick) (fun v hv => C_X9_tick hL 1 D (by omega) v hv) (Nat.le_of_ble_eq_true rfl) rfl rfl (fun D2 => ?_)
      refine Sg.go (pc' := 40) (mi_aload_n dX10_waits_39 rfl) ?_
      refine Sg.go (pc' := 43) (mi_gfA (t := 2) (v := 1) (r := 1) (k := 5) dX10_waits_40 hC_1 (by decide) rfl wF_X10_24 (by omega) rfl hL.1.2.2) ?_
      refine Sg.go (pc' := 46) (mi_gfI (r := 2) (k := 8) dX10_waits_43 hC_2 (by decide) rfl wF_X10_131 (by omega) rfl) ?_
      refine Sg.go (pc' := 47) (mi_iconst (z := (-1)) dX10_waits_46 rfl) ?_
      refine Sg.ite (fun h3 => ?_) (fun h3 => ?_)
      · refine Sg.go (pc' := 52) (mi_icmpne_t (tgt := 52) dX10_waits_47 (by decide) h3) ?_
        refine Sg.go (pc' := 55) (mi_iinc (z := 1) (ls1 := [(3, 0), (0, (mi_w (v1 + 1)))]) dX10_waits_52 (by decide) rfl rfl rfl) ?_
        refine Sg.go (pc' := 26) (mi_goto (tgt := 26) dX10_waits_55 (by decide)) ?_
        exact K26 (mi_w (v1 + 1)) D2 Z hL
      · refine Sg.go (pc' := 50) (mi_icmpne_f (tgt := 52) dX10_waits_47 (by decide) h3) ?_
        refine Sg.go (pc' := 51) (mi_iload_n dX10_waits_50 rfl) ?_
        exact Sg.ret (mi_ireturn dX10_waits_51 rfl (Or.inl rfl))
def B_X10_waits (D : MiD) (Z : MiZ) : Option (Int × MiM) := if (D 2 0 8) ≠ (-1) then (mi_bw (B_X9_copyFrom 1 0 D Z) fun D2 Z3 => mi_req (CL Z3) (B_X10_waits_26 mi_fuel 1 D2 Z3)) else (some (0, (D, Z)))
set_option maxRecDepth 20000 in
theorem S_X10_waits  (D : MiD) (Z : MiZ) (hL : CL Z) : Sg m_X10_waits 0 [(3, 0), mi_un] [] (D, Z) (mi_LZ 0) (B_X10_waits D Z) := by
  unfold B_X10_waits
  refine Sg.go (pc' := 1) (mi_aload_n dX10_waits_0 rfl) ?_
  refine Sg.go (pc' := 4) (mi_gfA (t := 2) (v := 0) (r := 1) (k := 4) dX10_waits_1 hC_1 (by decide) rfl wF_X10_20 (by omega) rfl hL.1.2.1) ?_
  refine Sg.go (pc' := 7) (mi_gfI (r := 2) (k := 8) dX10_waits_4 hC_2 (by decide) rfl wF_X10_131 (by omega) rfl) ?_
  refine Sg.go (pc' := 8) (mi_iconst (z := (-1)) dX10_waits_7 rfl) ?_
  refine Sg.ite (fun h1 => ?_) (fun h1 => ?_)
  · refine Sg.go (pc' := 13) (mi_icmpne_t (tgt := 13) dX10_waits_8 (by decide) h1) ?_
    refine Sg.go (pc' := 14) (mi_aload_n dX10_waits_13 rfl) ?_
    refine Sg.go (pc' := 17) (mi_gfA (t := 2) (v := 1) (r := 1) (k := 5) dX10_waits_14 hC_1 (by decide) rfl wF_X10_24 (by omega) rfl hL.1.2.2) ?_
    refine Sg.go (pc' := 18) (mi_aload_n dX10_waits_17 rfl) ?_
    refine Sg.go (pc' := 21) (mi_gfA (t := 2) (v := 0) (r := 1) (k := 4) dX10_waits_18 hC_1 (by decide) rfl wF_X10_20 (by omega) rfl hL.1.2.1) ?_
    refine Sg.callW (pc' := 24) (μ' := m_X9_copyFrom) (args := [(4, 1), (4, 0)]) (mi_invV (n := 1) (r := 2) dX10_waits_21 hC_2 (by omega) rfl rfl wN_X9_copyFrom rfl ⟨by decide, by decide⟩ wL_X10_300 wI_X9_copyFrom wS_X9_copyFrom wB_X9 wC_X9_copyFrom) (fun v hv => C_X9_copyFrom hL 1 0 D (by omega) (by omega) v hv) (Nat.le_of_ble_eq_true rfl) rfl rfl (fun D2 Z3 => ?_)
    refine Sg.rq (fun hL => ?_)
    refine Sg.go (pc' := 25) (mi_iconst (z := 1) dX10_waits_24 rfl) ?_
    refine Sg.go (pc' := 26) (mi_istore_n (ls1 := [(3, 0), (0, 1)]) dX10_waits_25 (by decide) rfl) ?_
    exact S_X10_waits_26 mi_fuel 1 D2 Z3 hL
  · refine Sg.go (pc' := 11) (mi_icmpne_f (tgt := 13) dX10_waits_8 (by decide) h1) ?_
    refine Sg.go (pc' := 12) (mi_iconst (z := 0) dX10_waits_11 rfl) ?_
    exact Sg.ret (mi_ireturn dX10_waits_12 rfl (Or.inl rfl))
theorem C_X10_waits {Z : MiZ} (hL : CL Z) (D : MiD) (b : Int × MiM) (hb : B_X10_waits D Z = some b) : MC m_X10_waits [(3, 0)] (D, Z) ((mi_LZ 0) b) := MC.ofSg (L := (mi_LZ 0)) (μ := m_X10_waits) (args := [(3, 0)]) (M := (D, Z)) rfl wP_X10 (Nat.le_of_ble_eq_true rfl) (show Sg m_X10_waits 0 [(3, 0), mi_un] [] (D, Z) (mi_LZ 0) (B_X10_waits D Z) from S_X10_waits D Z hL) hb
end MiW5
