abbrev m_X11_bad : MiI := (yX11_bad, cX11_bad, 4, (some .boolean), 1, none)
def B_X11_bad_26 (D : MiD) : Option (Int × MiD) := if (D 40 0 0) = 0 then (some (0, D)) else (some (1, D))
set_option maxRecDepth 20000 in
theorem S_X11_bad_26 {Z : MiZ} (hL : ML Z) (D : MiD) : Sg m_X11_bad 26 [(42, 0), mi_un, mi_un, mi_un] [] (D, Z) (mi_LD 0 Z) (B_X11_bad_26 D) := by
  unfold B_X11_bad_26
  refine Sg.go (pc' := 27) (mi_aload_n dX11_bad_26 rfl) ?_
  refine Sg.go (pc' := 30) (mi_gfI (r := 40) (k := 0) dX11_bad_27 hC_40 (by decide) rfl wF_X11_78 (by omega) rfl) ?_
  refine Sg.ite (fun h1 => ?_) (fun h1 => ?_)
  · refine Sg.go (pc' := 37) (mi_ifeq_t (tgt := 37) dX11_bad_30 (by decide) h1) ?_
    refine Sg.go (pc' := 38) (mi_iconst (z := 0) dX11_bad_37 rfl) ?_
    exact Sg.ret (mi_ireturn dX11_bad_38 rfl (Or.inr (Or.inl ⟨rfl, Or.inl rfl⟩)))
  · refine Sg.go (pc' := 33) (mi_ifeq_f (tgt := 37) dX11_bad_30 (by decide) h1) ?_
    refine Sg.go (pc' := 34) (mi_iconst (z := 1) dX11_bad_33 rfl) ?_
    refine Sg.go (pc' := 38) (mi_goto (tgt := 38) dX11_bad_34 (by decide)) ?_
    exact Sg.ret (mi_ireturn dX11_bad_38 rfl (Or.inr (Or.inl ⟨rfl, Or.inr rfl⟩)))
def B_X11_bad (v1 : Int) (v2 : Int) (v3 : Int) (D : MiD) : Option (Int × MiD) := if v1 = 0 then (B_X11_bad_26 D) else (if (D 40 0 0) ≠ 0 then (B_X11_bad_26 D) else (mi_let (mi_st D 40 0 0 v2) fun D3 => if 0 ≤ v3 ∧ v3 < 3 then (mi_let (mi_st D3 41 0 v3 (mi_w ((D3 41 0 v3) + 1))) fun D5 => B_X11_bad_26 D5) else none))
set_option maxRecDepth 20000 in
theorem S_X11_bad {Z : MiZ} (hL : ML Z) (v1 v2 v3 : Int) (D : MiD) : (v1 = 0 ∨ v1 = 1) → Sg m_X11_bad 0 [(42, 0), (0, v1), (0, v2), (0, v3)] [] (D, Z) (mi_LD 0 Z) (B_X11_bad v1 v2 v3 D) := by
  intro hb1
  unfold B_X11_bad
  refine Sg.go (pc' := 1) (mi_iload_n dX11_bad_0 rfl) ?_
  refine Sg.ite (fun h1 => ?_) (fun h1 => ?_)
  · refine Sg.go (pc' := 26) (mi_ifeq_t (tgt := 26) dX11_bad_1 (by decide) h1) ?_
    refine Sg.go (pc' := 26) (MiStep.weak (ls' := [(42, 0), mi_un, mi_un, mi_un]) (mi_wk_y (mi_wk_n (mi_wk_n (mi_wk_n mi_wk_0))))) ?_
    exact S_X11_bad_26 hL D
  · refine Sg.go (pc' := 4) (mi_ifeq_f (tgt := 26) dX11_bad_1 (by decide) h1) ?_
    refine Sg.go (pc' := 5) (mi_aload_n dX11_bad_4 rfl) ?_
    refine Sg.go (pc' := 8) (mi_gfI (r := 40) (k := 0) dX11_bad_5 hC_40 (by decide) rfl wF_X11_78 (by omega) rfl) ?_
    refine Sg.ite (fun h2 => ?_) (fun h2 => ?_)
    · refine Sg.go (pc' := 26) (mi_ifne_t (tgt := 26) dX11_bad_8 (by decide) h2) ?_
      refine Sg.go (pc' := 26) (MiStep.weak (ls' := [(42, 0), mi_un, mi_un, mi_un]) (mi_wk_y (mi_wk_n (mi_wk_n (mi_wk_n mi_wk_0))))) ?_
      exact S_X11_bad_26 hL D
    · refine Sg.go (pc' := 11) (mi_ifne_f (tgt := 26) dX11_bad_8 (by decide) h2) ?_
      refine Sg.go (pc' := 12) (mi_aload_n dX11_bad_11 rfl) ?_
      refine Sg.go (pc' := 13) (mi_iload_n dX11_bad_12 rfl) ?_
      refine Sg.goM (pc' := 16) (mi_pfD (r := 40) (k := 0) (t := 0) dX11_bad_13 hC_40 (by decide) rfl rfl wF_X11_78 (by omega) rfl (by decide) (Or.inl ⟨rfl, rfl⟩)) ?_
      refine Sg.letD (fun D3 hD3 => ?_)
      refine Sg.go (pc' := 17) (mi_aload_n dX11_bad_16 rfl) ?_
      refine Sg.go (pc' := 20) (mi_gfA (t := 41) (v := 0) (r := 40) (k := 1) dX11_bad_17 hC_40 (by decide) rfl wF_X11_7 (by omega) rfl (hL.1 1 (by decide))) ?_
      refine Sg.go (pc' := 21) (mi_iload_n dX11_bad_20 rfl) ?_
      refine Sg.go (pc' := 22) (mi_dup2 dX11_bad_21 (show (0 : Nat) ≠ 1 by decide) (show (43 : Nat) ≠ 1 by decide)) ?_
      refine Sg.ck (fun hk4 => ?_)
      refine Sg.go (pc' := 23) (mi_iald (n := 3) dX11_bad_22 rfl rfl (by omega) hk4) ?_
      refine Sg.go (pc' := 24) (mi_iconst (z := 1) dX11_bad_23 rfl) ?_
      refine Sg.go (pc' := 25) (mi_iadd dX11_bad_24) ?_
      refine Sg.goM (pc' := 26) (mi_iast (n := 3) dX11_bad_25 rfl rfl (by omega) hk4) ?_
      refine Sg.letD (fun D5 hD5 => ?_)
      refine Sg.go (pc' := 26) (MiStep.weak (ls' := [(42, 0), mi_un, mi_un, mi_un]) (mi_wk_y (mi_wk_n (mi_wk_n (mi_wk_n mi_wk_0))))) ?_
      exact S_X11_bad_26 hL D5
theorem C_X11_bad {Z : MiZ} (hL : ML Z) (a1 a2 a3 : Int) (D : MiD) (h0 : (a1 = 0 ∨ a1 = 1)) (b : Int × MiD) (hb : B_X11_bad a1 a2 a3 D = some b) : MC m_X11_bad [(42, 0), (0, a1), (0, a2), (0, a3)] (D, Z) ((mi_LD 0 Z) b) := MC.ofSg (L := (mi_LD 0 Z)) (μ := m_X11_bad) (args := [(42, 0), (0, a1), (0, a2), (0, a3)]) (M := (D, Z)) rfl wP_X11 (Nat.le_of_ble_eq_true rfl) (show Sg m_X11_bad 0 [(42, 0), (0, a1), (0, a2), (0, a3)] [] (D, Z) (mi_LD 0 Z) (B_X11_bad a1 a2 a3 D) from S_X11_bad hL a1 a2 a3 D h0) hb
abbrev m_X11_byteAt : MiI := (yX11_byteAt, cX11_byteAt, 2, (some .int), 1, none)
def B_X11_byteAt (D : MiD) (v1 : Int) : Option (Int) := if v1 < (D 40 0 3) then (if 0 ≤ v1 ∧ v1 < 500 then (some (D 42 0 v1)) else none) else (some (-1))
set_option maxRecDepth 20000 in
theorem S_X11_byteAt {D : MiD} {Z : MiZ} (hL : ML Z) (v1 : Int) : Sg m_X11_byteAt 0 [(42, 0), (0, v1)] [] (D, Z) (mi_LI 0 (D, Z)) (B_X11_byteAt D v1) := by
  unfold B_X11_byteAt
  refine Sg.go (pc' := 1) (mi_iload_n dX11_byteAt_0 rfl) ?_
  refine Sg.go (pc' := 2) (mi_aload_n dX11_byteAt_1 rfl) ?_
  refine Sg.go (pc' := 5) (mi_gfI (r := 40) (k := 3) dX11_byteAt_2 hC_40 (by decide) rfl wF_X11_84 (by omega) rfl) ?_
  refine Sg.ite (fun h1 => ?_) (fun h1 => ?_)
  · refine Sg.go (pc' := 12) (mi_icmplt_t (tgt := 12) dX11_byteAt_5 (by decide) h1) ?_
    refine Sg.go (pc' := 13) (mi_aload_n dX11_byteAt_12 rfl) ?_
    refine Sg.go (pc' := 16) (mi_gfA (t := 42) (v := 0) (r := 40) (k := 8) dX11_byteAt_13 hC_40 (by decide) rfl wF_X11_17 (by omega) rfl (hL.1 8 (by decide))) ?_
    refine Sg.go (pc' := 17) (mi_iload_n dX11_byteAt_16 rfl) ?_
    refine Sg.ck (fun hk2 => ?_)
    refine Sg.go (pc' := 18) (mi_iald (n := 500) dX11_byteAt_17 rfl rfl (by omega) hk2) ?_
    exact Sg.ret (mi_ireturn dX11_byteAt_18 rfl (Or.inl rfl))
  · refine Sg.go (pc' := 8) (mi_icmplt_f (tgt := 12) dX11_byteAt_5 (by decide) h1) ?_
    refine Sg.go (pc' := 9) (mi_iconst (z := (-1)) dX11_byteAt_8 rfl) ?_
    refine Sg.go (pc' := 18) (mi_goto (tgt := 18) dX11_byteAt_9 (by decide)) ?_
    exact Sg.ret (mi_ireturn dX11_byteAt_18 rfl (Or.inl rfl))
theorem C_X11_byteAt {Z : MiZ} (hL : ML Z) (a1 : Int) (D : MiD) (b : Int) (hb : B_X11_byteAt D a1 = some b) : MC m_X11_byteAt [(42, 0), (0, a1)] (D, Z) ((mi_LI 0 (D, Z)) b) := MC.ofSg (L := (mi_LI 0 (D, Z))) (μ := m_X11_byteAt) (args := [(42, 0), (0, a1)]) (M := (D, Z)) rfl wP_X11 (Nat.le_of_ble_eq_true rfl) (show Sg m_X11_byteAt 0 [(42, 0), (0, a1)] [] (D, Z) (mi_LI 0 (D, Z)) (B_X11_byteAt D a1) from S_X11_byteAt hL a1) hb
abbrev m_X11_codeAt : MiI := (yX11_codeAt, cX11_codeAt, 2, (some .int), 1, none)
def B_X11_codeAt (v0 : Int) (v1 : Int) : Int := (mi_w ((mi_w (12 + (mi_w (11 * v0)))) + v1))
set_option maxRecDepth 20000 in
theorem S_X11_codeAt {D : MiD} {Z : MiZ} (hL : ML Z) (v0 v1 : Int) : Sg m_X11_codeAt 0 [(0, v0), (0, v1)] [] (D, Z) (mi_LI 0 (D, Z)) (some (B_X11_codeAt v0 v1)) := by
  unfold B_X11_codeAt
  refine Sg.go (pc' := 2) (mi_bipush (z := 12) dX11_codeAt_0 rfl) ?_
  refine Sg.go (pc' := 4) (mi_bipush (z := 11) dX11_codeAt_2 rfl) ?_
  refine Sg.go (pc' := 5) (mi_iload_n dX11_codeAt_4 rfl) ?_
  refine Sg.go (pc' := 6) (mi_imul dX11_codeAt_5) ?_
  refine Sg.go (pc' := 7) (mi_iadd dX11_codeAt_6) ?_
  refine Sg.go (pc' := 8) (mi_iload_n dX11_codeAt_7 rfl) ?_
  refine Sg.go (pc' := 9) (mi_iadd dX11_codeAt_8) ?_
  exact Sg.ret (mi_ireturn dX11_codeAt_9 rfl (Or.inl rfl))
theorem C_X11_codeAt {Z : MiZ} (hL : ML Z) (a0 a1 : Int) (D : MiD) : MC m_X11_codeAt [(0, a0), (0, a1)] (D, Z) (mi_LI 0 (D, Z) (B_X11_codeAt a0 a1)) := MC.ofSg (L := (mi_LI 0 (D, Z))) (μ := m_X11_codeAt) (args := [(0, a0), (0, a1)]) (M := (D, Z)) rfl wP_X11 (Nat.le_of_ble_eq_true rfl) (show Sg m_X11_codeAt 0 [(0, a0), (0, a1)] [] (D, Z) (mi_LI 0 (D, Z)) (some (B_X11_codeAt a0 a1)) from S_X11_codeAt hL a0 a1) rfl
abbrev m_X11_codeIn : MiI := (yX11_codeIn, cX11_codeIn, 4, (some .int), 1, none)
def B_X11_codeIn (D : MiD) (v1 : Int) (v2 : Int) : Option (Int) := if 0 ≤ v1 ∧ v1 < 6 then (if 0 ≤ v2 ∧ v2 < 10 then (if (D 63 (10 * v1 + v2) 1) ≠ (-1) then (if 0 ≤ (D 63 (10 * v1 + v2) 1) ∧ (D 63 (10 * v1 + v2) 1) < 9 then (if 0 ≤ (D 63 (10 * v1 + v2) 0) ∧ (D 63 (10 * v1 + v2) 0) < 12 then (some (D 51 (D 63 (10 * v1 + v2) 1) (D 63 (10 * v1 + v2) 0))) else none) else none) else (some (D 63 (10 * v1 + v2) 0))) else none) else none
set_option maxRecDepth 20000 in
theorem S_X11_codeIn {D : MiD} {Z : MiZ} (hL : ML Z) (v1 v2 : Int) : Sg m_X11_codeIn 0 [(42, 0), (0, v1), (0, v2), mi_un] [] (D, Z) (mi_LI 0 (D, Z)) (B_X11_codeIn D v1 v2) := by
  unfold B_X11_codeIn
  refine Sg.go (pc' := 1) (mi_aload_n dX11_codeIn_0 rfl) ?_
  refine Sg.go (pc' := 4) (mi_gfA (t := 61) (v := 0) (r := 40) (k := 22) dX11_codeIn_1 hC_40 (by decide) rfl wF_X11_63 (by omega) rfl (hL.1 22 (by decide))) ?_
  refine Sg.go (pc' := 5) (mi_iload_n dX11_codeIn_4 rfl) ?_
  refine Sg.ck (fun hk1 => ?_)
  refine Sg.go (pc' := 6) (mi_aald (n := 6) (t := 62) (v := v1) dX11_codeIn_5 rfl hA_61 rfl (by omega) hk1 rfl (hL.2.2.2.2.2.2.2.1 _ hk1.1 hk1.2)) ?_
  refine Sg.go (pc' := 7) (mi_iload_n dX11_codeIn_6 rfl) ?_
  refine Sg.ck (fun hk2 => ?_)
  refine Sg.go (pc' := 8) (mi_aald (n := 10) (t := 63) (v := (10 * v1 + v2)) dX11_codeIn_7 rfl hA_62 rfl (by omega) hk2 rfl (hL.2.2.2.2.2.2.2.2 _ _ (by omega) (by omega) hk2.1 hk2.2)) ?_
  refine Sg.go (pc' := 9) (mi_astore_n (ls1 := [(42, 0), (0, v1), (0, v2), (65, (10 * v1 + v2))]) dX11_codeIn_8 (by decide) rfl) ?_
  refine Sg.go (pc' := 10) (mi_aload_n dX11_codeIn_9 rfl) ?_
  refine Sg.go (pc' := 11) (mi_iconst (z := 1) dX11_codeIn_10 rfl) ?_
  refine Sg.go (pc' := 12) (mi_iald (n := 4) dX11_codeIn_11 rfl rfl (by omega) (by decide)) ?_
  refine Sg.go (pc' := 13) (mi_iconst (z := (-1)) dX11_codeIn_12 rfl) ?_
  refine Sg.ite (fun h3 => ?_) (fun h3 => ?_)
  · refine Sg.go (pc' := 22) (mi_icmpne_t (tgt := 22) dX11_codeIn_13 (by decide) h3) ?_
    refine Sg.go (pc' := 23) (mi_aload_n dX11_codeIn_22 rfl) ?_
    refine Sg.go (pc' := 26) (mi_gfA (t := 50) (v := 0) (r := 40) (k := 15) dX11_codeIn_23 hC_40 (by decide) rfl wF_X11_39 (by omega) rfl (hL.1 15 (by decide))) ?_
    refine Sg.go (pc' := 27) (mi_aload_n dX11_codeIn_26 rfl) ?_
    refine Sg.go (pc' := 28) (mi_iconst (z := 1) dX11_codeIn_27 rfl) ?_
    refine Sg.go (pc' := 29) (mi_iald (n := 4) dX11_codeIn_28 rfl rfl (by omega) (by decide)) ?_
    refine Sg.ck (fun hk4 => ?_)
    refine Sg.go (pc' := 30) (mi_aald (n := 9) (t := 51) (v := (D 63 (10 * v1 + v2) 1)) dX11_codeIn_29 rfl hA_50 rfl (by omega) hk4 rfl (hL.2.2.2.1 _ hk4.1 hk4.2)) ?_
    refine Sg.go (pc' := 31) (mi_aload_n dX11_codeIn_30 rfl) ?_
    refine Sg.go (pc' := 32) (mi_iconst (z := 0) dX11_codeIn_31 rfl) ?_
    refine Sg.go (pc' := 33) (mi_iald (n := 4) dX11_codeIn_32 rfl rfl (by omega) (by decide)) ?_
    refine Sg.ck (fun hk5 => ?_)
    refine Sg.go (pc' := 34) (mi_iald (n := 12) dX11_codeIn_33 rfl rfl (by omega) hk5) ?_
    exact Sg.ret (mi_ireturn dX11_codeIn_34 rfl (Or.inl rfl))
  · refine Sg.go (pc' := 16) (mi_icmpne_f (tgt := 22) dX11_codeIn_13 (by decide) h3) ?_
    refine Sg.go (pc' := 17) (mi_aload_n dX11_codeIn_16 rfl) ?_
    refine Sg.go (pc' := 18) (mi_iconst (z := 0) dX11_codeIn_17 rfl) ?_
    refine Sg.go (pc' := 19) (mi_iald (n := 4) dX11_codeIn_18 rfl rfl (by omega) (by decide)) ?_
    refine Sg.go (pc' := 34) (mi_goto (tgt := 34) dX11_codeIn_19 (by decide)) ?_
    exact Sg.ret (mi_ireturn dX11_codeIn_34 rfl (Or.inl rfl))
theorem C_X11_codeIn {Z : MiZ} (hL : ML Z) (a1 a2 : Int) (D : MiD) (b : Int) (hb : B_X11_codeIn D a1 a2 = some b) : MC m_X11_codeIn [(42, 0), (0, a1), (0, a2)] (D, Z) ((mi_LI 0 (D, Z)) b) := MC.ofSg (L := (mi_LI 0 (D, Z))) (μ := m_X11_codeIn) (args := [(42, 0), (0, a1), (0, a2)]) (M := (D, Z)) rfl wP_X11 (Nat.le_of_ble_eq_true rfl) (show Sg m_X11_codeIn 0 [(42, 0), (0, a1), (0, a2), mi_un] [] (D, Z) (mi_LI 0 (D, Z)) (B_X11_codeIn D a1 a2) from S_X11_codeIn hL a1 a2) hb
abbrev m_X11_copiesCode : MiI := (yX11_copiesCode, cX11_copiesCode, 5, none, 1, none)
def B_X11_copiesCode_27 (k14 : Int → Int → Int → MiD → Option (MiD)) : Nat → Int → Int → Int → Int → MiD → Option (MiD)
  | 0, _, _, _, _, _ => none
  | f + 1, v1, v2, v3, v4, D => if 6 ≤ v4 then (k14 v1 v2 (mi_w (v3 + 1)) D) else (if 0 ≤ v2 ∧ v2 < 111 then (if 0 ≤ v3 ∧ v3 < 24 then (if 0 ≤ v1 ∧ v1 < 111 then (if 0 ≤ v4 ∧ v4 < 6 then (mi_let (mi_st D 46 (24 * v2 + v3) v4 (D 46 (24 * v1 + v3) v4)) fun D6 => B_X11_copiesCode_27 k14 f v1 v2 v3 (mi_w (v4 + 1)) D6) else none) else none) else none) else none)
set_option maxRecDepth 20000 in
theorem S_X11_copiesCode_27 {Z : MiZ} (hL : ML Z) {k14 : Int → Int → Int → MiD → Option (MiD)} (K14 : ∀ (v1 v2 v3 : Int) (D : MiD), Sg m_X11_copiesCode 14 [(42, 0), (0, v1), (0, v2), (0, v3), mi_un] [] (D, Z) (mi_LV Z) (k14 v1 v2 v3 D)) : ∀ (f : Nat) (v1 v2 v3 v4 : Int) (D : MiD), Sg m_X11_copiesCode 27 [(42, 0), (0, v1), (0, v2), (0, v3), (0, v4)] [] (D, Z) (mi_LV Z) (B_X11_copiesCode_27 k14 f v1 v2 v3 v4 D) := by
  intro f
  induction f with
  | zero => intros; exact Sg.nope
  | succ f K27 =>
    intro v1 v2 v3 v4 D
    show Sg m_X11_copiesCode 27 [(42, 0), (0, v1), (0, v2), (0, v3), (0, v4)] [] (D, Z) (mi_LV Z) (if 6 ≤ v4 then (k14 v1 v2 (mi_w (v3 + 1)) D) else (if 0 ≤ v2 ∧ v2 < 111 then (if 0 ≤ v3 ∧ v3 < 24 then (if 0 ≤ v1 ∧ v1 < 111 then (if 0 ≤ v4 ∧ v4 < 6 then (mi_let (mi_st D 46 (24 * v2 + v3) v4 (D 46 (24 * v1 + v3) v4)) fun D6 => B_X11_copiesCode_27 k14 f v1 v2 v3 (mi_w (v4 + 1)) D6) else none) else none) else none) else none))
    refine Sg.go (pc' := 29) (mi_iload dX11_copiesCode_27 rfl) ?_
    refine Sg.go (pc' := 31) (mi_bipush (z := 6) dX11_copiesCode_29 rfl) ?_
    refine Sg.ite (fun h1 => ?_) (fun h1 => ?_)
    · refine Sg.go (pc' := 62) (mi_icmpge_t (tgt := 62) dX11_copiesCode_31 (by decide) h1) ?_
      refine Sg.go (pc' := 65) (mi_iinc (z := 1) (ls1 := [(42, 0), (0, v1), (0, v2), (0, (mi_w (v3 + 1))), (0, v4)]) dX11_copiesCode_62 (by decide) rfl rfl rfl) ?_
      refine Sg.go (pc' := 14) (mi_goto (tgt := 14) dX11_copiesCode_65 (by decide)) ?_
      refine Sg.go (pc' := 14) (MiStep.weak (ls' := [(42, 0), (0, v1), (0, v2), (0, (mi_w (v3 + 1))), mi_un]) (mi_wk_y (mi_wk_y (mi_wk_y (mi_wk_y (mi_wk_n mi_wk_0)))))) ?_
      exact K14 v1 v2 (mi_w (v3 + 1)) D
    · refine Sg.go (pc' := 34) (mi_icmpge_f (tgt := 62) dX11_copiesCode_31 (by decide) h1) ?_
      refine Sg.go (pc' := 35) (mi_aload_n dX11_copiesCode_34 rfl) ?_
      refine Sg.go (pc' := 38) (mi_gfA (t := 44) (v := 0) (r := 40) (k := 10) dX11_copiesCode_35 hC_40 (by decide) rfl wF_X11_25 (by omega) rfl (hL.1 10 (by decide))) ?_
      refine Sg.go (pc' := 39) (mi_iload_n dX11_copiesCode_38 rfl) ?_
      refine Sg.ck (fun hk2 => ?_)
      refine Sg.go (pc' := 40) (mi_aald (n := 111) (t := 45) (v := v2) dX11_copiesCode_39 rfl hA_44 rfl (by omega) hk2 rfl (hL.2.1 _ hk2.1 hk2.2)) ?_
      refine Sg.go (pc' := 41) (mi_iload_n dX11_copiesCode_40 rfl) ?_
      refine Sg.ck (fun hk3 => ?_)
      refine Sg.go (pc' := 42) (mi_aald (n := 24) (t := 46) (v := (24 * v2 + v3)) dX11_copiesCode_41 rfl hA_45 rfl (by omega) hk3 rfl (hL.2.2.1 _ _ (by omega) (by omega) hk3.1 hk3.2)) ?_
      refine Sg.go (pc' := 44) (mi_iload dX11_copiesCode_42 rfl) ?_
      refine Sg.go (pc' := 45) (mi_aload_n dX11_copiesCode_44 rfl) ?_
      refine Sg.go (pc' := 48) (mi_gfA (t := 44) (v := 0) (r := 40) (k := 10) dX11_copiesCode_45 hC_40 (by decide) rfl wF_X11_25 (by omega) rfl (hL.1 10 (by decide))) ?_
      refine Sg.go (pc' := 49) (mi_iload_n dX11_copiesCode_48 rfl) ?_
      refine Sg.ck (fun hk4 => ?_)
      refine Sg.go (pc' := 50) (mi_aald (n := 111) (t := 45) (v := v1) dX11_copiesCode_49 rfl hA_44 rfl (by omega) hk4 rfl (hL.2.1 _ hk4.1 hk4.2)) ?_
      refine Sg.go (pc' := 51) (mi_iload_n dX11_copiesCode_50 rfl) ?_
      refine Sg.go (pc' := 52) (mi_aald (n := 24) (t := 46) (v := (24 * v1 + v3)) dX11_copiesCode_51 rfl hA_45 rfl (by omega) hk3 rfl (hL.2.2.1 _ _ (by omega) (by omega) hk3.1 hk3.2)) ?_
      refine Sg.go (pc' := 54) (mi_iload dX11_copiesCode_52 rfl) ?_
      refine Sg.ck (fun hk5 => ?_)
      refine Sg.go (pc' := 55) (mi_iald (n := 6) dX11_copiesCode_54 rfl rfl (by omega) hk5) ?_
      refine Sg.goM (pc' := 56) (mi_iast (n := 6) dX11_copiesCode_55 rfl rfl (by omega) hk5) ?_
      refine Sg.letD (fun D6 hD6 => ?_)
      refine Sg.go (pc' := 59) (mi_iinc (z := 1) (ls1 := [(42, 0), (0, v1), (0, v2), (0, v3), (0, (mi_w (v4 + 1)))]) dX11_copiesCode_56 (by decide) rfl rfl rfl) ?_
      refine Sg.go (pc' := 27) (mi_goto (tgt := 27) dX11_copiesCode_59 (by decide)) ?_
      exact K27 v1 v2 v3 (mi_w (v4 + 1)) D6
def B_X11_copiesCode_14 : Nat → Int → Int → Int → MiD → Option (MiD)
  | 0, _, _, _, _ => none
  | f + 1, v1, v2, v3, D => if 0 ≤ v1 ∧ v1 < 111 then (if (D 43 0 v1) ≤ v3 then (some D) else (B_X11_copiesCode_27 (B_X11_copiesCode_14 f) mi_fuel v1 v2 v3 0 D)) else none
set_option maxRecDepth 20000 in
theorem S_X11_copiesCode_14 {Z : MiZ} (hL : ML Z) : ∀ (f : Nat) (v1 v2 v3 : Int) (D : MiD), Sg m_X11_copiesCode 14 [(42, 0), (0, v1), (0, v2), (0, v3), mi_un] [] (D, Z) (mi_LV Z) (B_X11_copiesCode_14 f v1 v2 v3 D) := by
  intro f
  induction f with
  | zero => intros; exact Sg.nope
  | succ f K14 =>
    intro v1 v2 v3 D
    show Sg m_X11_copiesCode 14 [(42, 0), (0, v1), (0, v2), (0, v3), mi_un] [] (D, Z) (mi_LV Z) (if 0 ≤ v1 ∧ v1 < 111 then (if (D 43 0 v1) ≤ v3 then (some D) else (B_X11_copiesCode_27 (B_X11_copiesCode_14 f) mi_fuel v1 v2 v3 0 D)) else none)
    refine Sg.go (pc' := 15) (mi_iload_n dX11_copiesCode_14 rfl) ?_
    refine Sg.go (pc' := 16) (mi_aload_n dX11_copiesCode_15 rfl) ?_
    refine Sg.go (pc' := 19) (mi_gfA (t := 43) (v := 0) (r := 40) (k := 9) dX11_copiesCode_16 hC_40 (by decide) rfl wF_X11_20 (by omega) rfl (hL.1 9 (by decide))) ?_
    refine Sg.go (pc' := 20) (mi_iload_n dX11_copiesCode_19 rfl) ?_
    refine Sg.ck (fun hk1 => ?_)
    refine Sg.go (pc' := 21) (mi_iald (n := 111) dX11_copiesCode_20 rfl rfl (by omega) hk1) ?_
    refine Sg.ite (fun h2 => ?_) (fun h2 => ?_)
    · refine Sg.go (pc' := 68) (mi_icmpge_t (tgt := 68) dX11_copiesCode_21 (by decide) h2) ?_
      exact Sg.ret (mi_return dX11_copiesCode_68 rfl (0, 0))
    · refine Sg.go (pc' := 24) (mi_icmpge_f (tgt := 68) dX11_copiesCode_21 (by decide) h2) ?_
      refine Sg.go (pc' := 25) (mi_iconst (z := 0) dX11_copiesCode_24 rfl) ?_
      refine Sg.go (pc' := 27) (mi_istore (ls1 := [(42, 0), (0, v1), (0, v2), (0, v3), (0, 0)]) dX11_copiesCode_25 (by decide) rfl) ?_
      exact S_X11_copiesCode_27 hL K14 mi_fuel v1 v2 v3 0 D
def B_X11_copiesCode (v1 : Int) (v2 : Int) (D : MiD) : Option (MiD) := if 0 ≤ v1 ∧ v1 < 111 then (if 0 ≤ v2 ∧ v2 < 111 then (mi_let (mi_st D 43 0 v2 (D 43 0 v1)) fun D3 => B_X11_copiesCode_14 mi_fuel v1 v2 0 D3) else none) else none
set_option maxRecDepth 20000 in
theorem S_X11_copiesCode {Z : MiZ} (hL : ML Z) (v1 v2 : Int) (D : MiD) : Sg m_X11_copiesCode 0 [(42, 0), (0, v1), (0, v2), mi_un, mi_un] [] (D, Z) (mi_LV Z) (B_X11_copiesCode v1 v2 D) := by
  unfold B_X11_copiesCode
  refine Sg.go (pc' := 1) (mi_aload_n dX11_copiesCode_0 rfl) ?_
  refine Sg.go (pc' := 4) (mi_gfA (t := 43) (v := 0) (r := 40) (k := 9) dX11_copiesCode_1 hC_40 (by decide) rfl wF_X11_20 (by omega) rfl (hL.1 9 (by decide))) ?_
  refine Sg.go (pc' := 5) (mi_iload_n dX11_copiesCode_4 rfl) ?_
  refine Sg.go (pc' := 6) (mi_aload_n dX11_copiesCode_5 rfl) ?_
  refine Sg.go (pc' := 9) (mi_gfA (t := 43) (v := 0) (r := 40) (k := 9) dX11_copiesCode_6 hC_40 (by decide) rfl wF_X11_20 (by omega) rfl (hL.1 9 (by decide))) ?_
  refine Sg.go (pc' := 10) (mi_iload_n dX11_copiesCode_9 rfl) ?_
  refine Sg.ck (fun hk1 => ?_)
  refine Sg.go (pc' := 11) (mi_iald (n := 111) dX11_copiesCode_10 rfl rfl (by omega) hk1) ?_
  refine Sg.ck (fun hk2 => ?_)
  refine Sg.goM (pc' := 12) (mi_iast (n := 111) dX11_copiesCode_11 rfl rfl (by omega) hk2) ?_
  refine Sg.letD (fun D3 hD3 => ?_)
  refine Sg.go (pc' := 13) (mi_iconst (z := 0) dX11_copiesCode_12 rfl) ?_
  refine Sg.go (pc' := 14) (mi_istore_n (ls1 := [(42, 0), (0, v1), (0, v2), (0, 0), mi_un]) dX11_copiesCode_13 (by decide) rfl) ?_
  exact S_X11_copiesCode_14 hL mi_fuel v1 v2 0 D3
theorem C_X11_copiesCode {Z : MiZ} (hL : ML Z) (a1 a2 : Int) (D : MiD) (b : MiD) (hb : B_X11_copiesCode a1 a2 D = some b) : MC m_X11_copiesCode [(42, 0), (0, a1), (0, a2)] (D, Z) ((mi_LV Z) b) := MC.ofSg (L := (mi_LV Z)) (μ := m_X11_copiesCode) (args := [(42, 0), (0, a1), (0, a2)]) (M := (D, Z)) rfl wP_X11 (Nat.le_of_ble_eq_true rfl) (show Sg m_X11_copiesCode 0 [(42, 0), (0, a1), (0, a2), mi_un, mi_un] [] (D, Z) (mi_LV Z) (B_X11_copiesCode a1 a2 D) from S_X11_copiesCode hL a1 a2 D) hb
abbrev m_X11_copiesRow : MiI := (yX11_copiesRow, cX11_copiesRow, 4, none, 1, none)
def B_X11_copiesRow_26 : Nat → Int → Int → Int → MiD → Option (MiD)
  | 0, _, _, _, _ => none
  | f + 1, v1, v2, v3, D => if 9 ≤ v3 then (some D) else (if 0 ≤ v2 ∧ v2 < 61 then (if 0 ≤ v1 ∧ v1 < 61 then (if 0 ≤ v3 ∧ v3 < 9 then (mi_let (mi_st D 55 v2 v3 (D 55 v1 v3)) fun D5 => mi_let (mi_st D5 57 v2 v3 (D5 57 v1 v3)) fun D6 => B_X11_copiesRow_26 f v1 v2 (mi_w (v3 + 1)) D6) else none) else none) else none)
set_option maxRecDepth 20000 in
theorem S_X11_copiesRow_26 {Z : MiZ} (hL : ML Z) : ∀ (f : Nat) (v1 v2 v3 : Int) (D : MiD), Sg m_X11_copiesRow 26 [(42, 0), (0, v1), (0, v2), (0, v3)] [] (D, Z) (mi_LV Z) (B_X11_copiesRow_26 f v1 v2 v3 D) := by
  intro f
  induction f with
  | zero => intros; exact Sg.nope
  | succ f K26 =>
    intro v1 v2 v3 D
    show Sg m_X11_copiesRow 26 [(42, 0), (0, v1), (0, v2), (0, v3)] [] (D, Z) (mi_LV Z) (if 9 ≤ v3 then (some D) else (if 0 ≤ v2 ∧ v2 < 61 then (if 0 ≤ v1 ∧ v1 < 61 then (if 0 ≤ v3 ∧ v3 < 9 then (mi_let (mi_st D 55 v2 v3 (D 55 v1 v3)) fun D5 => mi_let (mi_st D5 57 v2 v3 (D5 57 v1 v3)) fun D6 => B_X11_copiesRow_26 f v1 v2 (mi_w (v3 + 1)) D6) else none) else none) else none))
    refine Sg.go (pc' := 27) (mi_iload_n dX11_copiesRow_26 rfl) ?_
    refine Sg.go (pc' := 29) (mi_bipush (z := 9) dX11_copiesRow_27 rfl) ?_
    refine Sg.ite (fun h1 => ?_) (fun h1 => ?_)
    · refine Sg.go (pc' := 70) (mi_icmpge_t (tgt := 70) dX11_copiesRow_29 (by decide) h1) ?_
      exact Sg.ret (mi_return dX11_copiesRow_70 rfl (0, 0))
    · refine Sg.go (pc' := 32) (mi_icmpge_f (tgt := 70) dX11_copiesRow_29 (by decide) h1) ?_
      refine Sg.go (pc' := 33) (mi_aload_n dX11_copiesRow_32 rfl) ?_
      refine Sg.go (pc' := 36) (mi_gfA (t := 54) (v := 0) (r := 40) (k := 18) dX11_copiesRow_33 hC_40 (by decide) rfl wF_X11_48 (by omega) rfl (hL.1 18 (by decide))) ?_
      refine Sg.go (pc' := 37) (mi_iload_n dX11_copiesRow_36 rfl) ?_
      refine Sg.ck (fun hk2 => ?_)
      refine Sg.go (pc' := 38) (mi_aald (n := 61) (t := 55) (v := v2) dX11_copiesRow_37 rfl hA_54 rfl (by omega) hk2 rfl (hL.2.2.2.2.1 _ hk2.1 hk2.2)) ?_
      refine Sg.go (pc' := 39) (mi_iload_n dX11_copiesRow_38 rfl) ?_
      refine Sg.go (pc' := 40) (mi_aload_n dX11_copiesRow_39 rfl) ?_
      refine Sg.go (pc' := 43) (mi_gfA (t := 54) (v := 0) (r := 40) (k := 18) dX11_copiesRow_40 hC_40 (by decide) rfl wF_X11_48 (by omega) rfl (hL.1 18 (by decide))) ?_
      refine Sg.go (pc' := 44) (mi_iload_n dX11_copiesRow_43 rfl) ?_
      refine Sg.ck (fun hk3 => ?_)
      refine Sg.go (pc' := 45) (mi_aald (n := 61) (t := 55) (v := v1) dX11_copiesRow_44 rfl hA_54 rfl (by omega) hk3 rfl (hL.2.2.2.2.1 _ hk3.1 hk3.2)) ?_
      refine Sg.go (pc' := 46) (mi_iload_n dX11_copiesRow_45 rfl) ?_
      refine Sg.ck (fun hk4 => ?_)
      refine Sg.go (pc' := 47) (mi_iald (n := 9) dX11_copiesRow_46 rfl rfl (by omega) hk4) ?_
      refine Sg.goM (pc' := 48) (mi_iast (n := 9) dX11_copiesRow_47 rfl rfl (by omega) hk4) ?_
      refine Sg.letD (fun D5 hD5 => ?_)
      refine Sg.go (pc' := 49) (mi_aload_n dX11_copiesRow_48 rfl) ?_
      refine Sg.go (pc' := 52) (mi_gfA (t := 56) (v := 0) (r := 40) (k := 19) dX11_copiesRow_49 hC_40 (by decide) rfl wF_X11_53 (by omega) rfl (hL.1 19 (by decide))) ?_
      refine Sg.go (pc' := 53) (mi_iload_n dX11_copiesRow_52 rfl) ?_
      refine Sg.go (pc' := 54) (mi_aald (n := 61) (t := 57) (v := v2) dX11_copiesRow_53 rfl hA_56 rfl (by omega) hk2 rfl (hL.2.2.2.2.2.1 _ hk2.1 hk2.2)) ?_
      refine Sg.go (pc' := 55) (mi_iload_n dX11_copiesRow_54 rfl) ?_
      refine Sg.go (pc' := 56) (mi_aload_n dX11_copiesRow_55 rfl) ?_
      refine Sg.go (pc' := 59) (mi_gfA (t := 56) (v := 0) (r := 40) (k := 19) dX11_copiesRow_56 hC_40 (by decide) rfl wF_X11_53 (by omega) rfl (hL.1 19 (by decide))) ?_
      refine Sg.go (pc' := 60) (mi_iload_n dX11_copiesRow_59 rfl) ?_
      refine Sg.go (pc' := 61) (mi_aald (n := 61) (t := 57) (v := v1) dX11_copiesRow_60 rfl hA_56 rfl (by omega) hk3 rfl (hL.2.2.2.2.2.1 _ hk3.1 hk3.2)) ?_
      refine Sg.go (pc' := 62) (mi_iload_n dX11_copiesRow_61 rfl) ?_
      refine Sg.go (pc' := 63) (mi_lald (n := 9) dX11_copiesRow_62 rfl rfl (by omega) hk4) ?_
      refine Sg.goM (pc' := 64) (mi_last (n := 9) dX11_copiesRow_63 rfl rfl (by omega) hk4) ?_
      refine Sg.letD (fun D6 hD6 => ?_)
      refine Sg.go (pc' := 67) (mi_iinc (z := 1) (ls1 := [(42, 0), (0, v1), (0, v2), (0, (mi_w (v3 + 1)))]) dX11_copiesRow_64 (by decide) rfl rfl rfl) ?_
      refine Sg.go (pc' := 26) (mi_goto (tgt := 26) dX11_copiesRow_67 (by decide)) ?_
      exact K26 v1 v2 (mi_w (v3 + 1)) D6
def B_X11_copiesRow (v1 : Int) (v2 : Int) (D : MiD) : Option (MiD) := if 0 ≤ v1 ∧ v1 < 61 then (if 0 ≤ v2 ∧ v2 < 61 then (mi_let (mi_st D 52 0 v2 (D 52 0 v1)) fun D3 => mi_let (mi_st D3 53 0 v2 (D3 53 0 v1)) fun D4 => B_X11_copiesRow_26 mi_fuel v1 v2 0 D4) else none) else none
set_option maxRecDepth 20000 in
theorem S_X11_copiesRow {Z : MiZ} (hL : ML Z) (v1 v2 : Int) (D : MiD) : Sg m_X11_copiesRow 0 [(42, 0), (0, v1), (0, v2), mi_un] [] (D, Z) (mi_LV Z) (B_X11_copiesRow v1 v2 D) := by
  unfold B_X11_copiesRow
  refine Sg.go (pc' := 1) (mi_aload_n dX11_copiesRow_0 rfl) ?_
  refine Sg.go (pc' := 4) (mi_gfA (t := 52) (v := 0) (r := 40) (k := 16) dX11_copiesRow_1 hC_40 (by decide) rfl wF_X11_42 (by omega) rfl (hL.1 16 (by decide))) ?_
  refine Sg.go (pc' := 5) (mi_iload_n dX11_copiesRow_4 rfl) ?_
  refine Sg.go (pc' := 6) (mi_aload_n dX11_copiesRow_5 rfl) ?_
  refine Sg.go (pc' := 9) (mi_gfA (t := 52) (v := 0) (r := 40) (k := 16) dX11_copiesRow_6 hC_40 (by decide) rfl wF_X11_42 (by omega) rfl (hL.1 16 (by decide))) ?_
  refine Sg.go (pc' := 10) (mi_iload_n dX11_copiesRow_9 rfl) ?_
  refine Sg.ck (fun hk1 => ?_)
  refine Sg.go (pc' := 11) (mi_iald (n := 61) dX11_copiesRow_10 rfl rfl (by omega) hk1) ?_
  refine Sg.ck (fun hk2 => ?_)
  refine Sg.goM (pc' := 12) (mi_iast (n := 61) dX11_copiesRow_11 rfl rfl (by omega) hk2) ?_
  refine Sg.letD (fun D3 hD3 => ?_)
  refine Sg.go (pc' := 13) (mi_aload_n dX11_copiesRow_12 rfl) ?_
  refine Sg.go (pc' := 16) (mi_gfA (t := 53) (v := 0) (r := 40) (k := 17) dX11_copiesRow_13 hC_40 (by decide) rfl wF_X11_45 (by omega) rfl (hL.1 17 (by decide))) ?_
  refine Sg.go (pc' := 17) (mi_iload_n dX11_copiesRow_16 rfl) ?_
  refine Sg.go (pc' := 18) (mi_aload_n dX11_copiesRow_17 rfl) ?_
  refine Sg.go (pc' := 21) (mi_gfA (t := 53) (v := 0) (r := 40) (k := 17) dX11_copiesRow_18 hC_40 (by decide) rfl wF_X11_45 (by omega) rfl (hL.1 17 (by decide))) ?_
  refine Sg.go (pc' := 22) (mi_iload_n dX11_copiesRow_21 rfl) ?_
  refine Sg.go (pc' := 23) (mi_iald (n := 61) dX11_copiesRow_22 rfl rfl (by omega) hk1) ?_
  refine Sg.goM (pc' := 24) (mi_iast (n := 61) dX11_copiesRow_23 rfl rfl (by omega) hk2) ?_
  refine Sg.letD (fun D4 hD4 => ?_)
  refine Sg.go (pc' := 25) (mi_iconst (z := 0) dX11_copiesRow_24 rfl) ?_
  refine Sg.go (pc' := 26) (mi_istore_n (ls1 := [(42, 0), (0, v1), (0, v2), (0, 0)]) dX11_copiesRow_25 (by decide) rfl) ?_
  exact S_X11_copiesRow_26 hL mi_fuel v1 v2 0 D4
theorem C_X11_copiesRow {Z : MiZ} (hL : ML Z) (a1 a2 : Int) (D : MiD) (b : MiD) (hb : B_X11_copiesRow a1 a2 D = some b) : MC m_X11_copiesRow [(42, 0), (0, a1), (0, a2)] (D, Z) ((mi_LV Z) b) := MC.ofSg (L := (mi_LV Z)) (μ := m_X11_copiesRow) (args := [(42, 0), (0, a1), (0, a2)]) (M := (D, Z)) rfl wP_X11 (Nat.le_of_ble_eq_true rfl) (show Sg m_X11_copiesRow 0 [(42, 0), (0, a1), (0, a2), mi_un] [] (D, Z) (mi_LV Z) (B_X11_copiesRow a1 a2 D) from S_X11_copiesRow hL a1 a2 D) hb
abbrev m_X11_cut : MiI := (yX11_cut, cX11_cut, 2, (some .long), 1, none)
def B_X11_cut (v0 : Int) (v1 : Int) : Int := if v1 = 0 then (if v0 ≠ 0 then 1 else 0) else (if v1 = 1 then (mi_b v0) else (if v1 = 2 then (mi_and v0 65535) else (if v1 = 3 then (mi_s v0) else v0)))
set_option maxRecDepth 20000 in
theorem S_X11_cut {D : MiD} {Z : MiZ} (hL : ML Z) (v0 v1 : Int) : Sg m_X11_cut 0 [(0, v0), (0, v1)] [] (D, Z) (mi_LI 1 (D, Z)) (some (B_X11_cut v0 v1)) := by
  unfold B_X11_cut
  refine Sg.go (pc' := 1) (mi_iload_n dX11_cut_0 rfl) ?_
  refine Sg.iteS (fun h2 => ?_) (fun h2 => ?_)
  · refine Sg.go (pc' := 32) (mi_tabIn (tgt := 32) dX11_cut_1 (by omega) (by omega) (by rw [h2]; rfl) (by decide)) ?_
    refine Sg.go (pc' := 33) (mi_iload_n dX11_cut_32 rfl) ?_
    refine Sg.iteS (fun h3 => ?_) (fun h3 => ?_)
    · refine Sg.go (pc' := 40) (mi_ifne_t (tgt := 40) dX11_cut_33 (by decide) h3) ?_
      refine Sg.go (pc' := 41) (mi_lconst (z := 1) dX11_cut_40 rfl) ?_
      exact Sg.ret (mi_lreturn dX11_cut_41 rfl)
    · refine Sg.go (pc' := 36) (mi_ifne_f (tgt := 40) dX11_cut_33 (by decide) h3) ?_
      refine Sg.go (pc' := 37) (mi_lconst (z := 0) dX11_cut_36 rfl) ?_
      refine Sg.go (pc' := 41) (mi_goto (tgt := 41) dX11_cut_37 (by decide)) ?_
      exact Sg.ret (mi_lreturn dX11_cut_41 rfl)
  · refine Sg.iteS (fun h4 => ?_) (fun h4 => ?_)
    · refine Sg.go (pc' := 42) (mi_tabIn (tgt := 42) dX11_cut_1 (by omega) (by omega) (by rw [h4]; rfl) (by decide)) ?_
      refine Sg.go (pc' := 43) (mi_iload_n dX11_cut_42 rfl) ?_
      refine Sg.go (pc' := 44) (mi_i2b dX11_cut_43) ?_
      refine Sg.go (pc' := 45) (mi_i2l dX11_cut_44) ?_
      exact Sg.ret (mi_lreturn dX11_cut_45 rfl)
    · refine Sg.iteS (fun h5 => ?_) (fun h5 => ?_)
      · refine Sg.go (pc' := 46) (mi_tabIn (tgt := 46) dX11_cut_1 (by omega) (by omega) (by rw [h5]; rfl) (by decide)) ?_
        refine Sg.go (pc' := 47) (mi_iload_n dX11_cut_46 rfl) ?_
        refine Sg.go (pc' := 50) (mi_ldcw (z := 65535) dX11_cut_47 wK_X11_286 rfl) ?_
        refine Sg.go (pc' := 51) (mi_iand dX11_cut_50) ?_
        refine Sg.go (pc' := 52) (mi_i2l dX11_cut_51) ?_
        exact Sg.ret (mi_lreturn dX11_cut_52 rfl)
      · refine Sg.iteS (fun h6 => ?_) (fun h6 => ?_)
        · refine Sg.go (pc' := 53) (mi_tabIn (tgt := 53) dX11_cut_1 (by omega) (by omega) (by rw [h6]; rfl) (by decide)) ?_
          refine Sg.go (pc' := 54) (mi_iload_n dX11_cut_53 rfl) ?_
          refine Sg.go (pc' := 55) (mi_i2s dX11_cut_54) ?_
          refine Sg.go (pc' := 56) (mi_i2l dX11_cut_55) ?_
          exact Sg.ret (mi_lreturn dX11_cut_56 rfl)
        · refine Sg.go (pc' := 57) (mi_tabOut (tgt := 57) dX11_cut_1 (by omega) (by decide)) ?_
          refine Sg.go (pc' := 58) (mi_iload_n dX11_cut_57 rfl) ?_
          refine Sg.go (pc' := 59) (mi_i2l dX11_cut_58) ?_
          exact Sg.ret (mi_lreturn dX11_cut_59 rfl)
theorem C_X11_cut {Z : MiZ} (hL : ML Z) (a0 a1 : Int) (D : MiD) : MC m_X11_cut [(0, a0), (0, a1)] (D, Z) (mi_LI 1 (D, Z) (B_X11_cut a0 a1)) := MC.ofSg (L := (mi_LI 1 (D, Z))) (μ := m_X11_cut) (args := [(0, a0), (0, a1)]) (M := (D, Z)) rfl wP_X11 (Nat.le_of_ble_eq_true rfl) (show Sg m_X11_cut 0 [(0, a0), (0, a1)] [] (D, Z) (mi_LI 1 (D, Z)) (some (B_X11_cut a0 a1)) from S_X11_cut hL a0 a1) rfl
abbrev m_X11_empties : MiI := (yX11_empties, cX11_empties, 5, none, 1, none)
def B_X11_empties_43 (k17 : Int → Int → Int → MiD → Option (MiD)) (v1 : Int) (v2 : Int) (v4 : Int) (s0 : Int) (s1 : Int) (s2 : Int) (D : MiD) : Option (MiD) := if 0 ≤ s0 ∧ s0 < 61 then (if 0 ≤ s1 ∧ s1 < 9 then (mi_let (mi_st D 55 s0 s1 s2) fun D3 => if 0 ≤ v1 ∧ v1 < 61 then (if 0 ≤ v4 ∧ v4 < 9 then (mi_let (mi_st D3 57 v1 v4 0) fun D6 => k17 v1 v2 (mi_w (v4 + 1)) D6) else none) else none) else none) else none
set_option maxRecDepth 20000 in
theorem S_X11_empties_43 {Z : MiZ} (hL : ML Z) {k17 : Int → Int → Int → MiD → Option (MiD)} (K17 : ∀ (v1 v2 v4 : Int) (D : MiD), Sg m_X11_empties 17 [(42, 0), (0, v1), (0, v2), mi_un, (0, v4)] [] (D, Z) (mi_LV Z) (k17 v1 v2 v4 D)) (v1 v2 v4 s0 s1 s2 : Int) (D : MiD) : Sg m_X11_empties 43 [(42, 0), (0, v1), (0, v2), mi_un, (0, v4)] [(0, s2), (0, s1), (57, s0)] (D, Z) (mi_LV Z) (B_X11_empties_43 k17 v1 v2 v4 s0 s1 s2 D) := by
  unfold B_X11_empties_43
  refine Sg.ck (fun hk1 => ?_)
  refine Sg.ck (fun hk2 => ?_)
  refine Sg.goM (pc' := 44) (mi_iast (n := 9) dX11_empties_43 rfl rfl (by omega) hk2) ?_
  refine Sg.letD (fun D3 hD3 => ?_)
  refine Sg.go (pc' := 45) (mi_aload_n dX11_empties_44 rfl) ?_
  refine Sg.go (pc' := 48) (mi_gfA (t := 56) (v := 0) (r := 40) (k := 19) dX11_empties_45 hC_40 (by decide) rfl wF_X11_53 (by omega) rfl (hL.1 19 (by decide))) ?_
  refine Sg.go (pc' := 49) (mi_iload_n dX11_empties_48 rfl) ?_
  refine Sg.ck (fun hk4 => ?_)
  refine Sg.go (pc' := 50) (mi_aald (n := 61) (t := 57) (v := v1) dX11_empties_49 rfl hA_56 rfl (by omega) hk4 rfl (hL.2.2.2.2.2.1 _ hk4.1 hk4.2)) ?_
  refine Sg.go (pc' := 52) (mi_iload dX11_empties_50 rfl) ?_
  refine Sg.go (pc' := 53) (mi_lconst (z := 0) dX11_empties_52 rfl) ?_
  refine Sg.ck (fun hk5 => ?_)
  refine Sg.goM (pc' := 54) (mi_last (n := 9) dX11_empties_53 rfl rfl (by omega) hk5) ?_
  refine Sg.letD (fun D6 hD6 => ?_)
  refine Sg.go (pc' := 57) (mi_iinc (z := 1) (ls1 := [(42, 0), (0, v1), (0, v2), mi_un, (0, (mi_w (v4 + 1)))]) dX11_empties_54 (by decide) rfl rfl rfl) ?_
  refine Sg.go (pc' := 17) (mi_goto (tgt := 17) dX11_empties_57 (by decide)) ?_
  exact K17 v1 v2 (mi_w (v4 + 1)) D6
def B_X11_empties_17 : Nat → Int → Int → Int → MiD → Option (MiD)
  | 0, _, _, _, _ => none
  | f + 1, v1, v2, v4, D => if 9 ≤ v4 then (some D) else (if 0 ≤ v1 ∧ v1 < 61 then (if 7 < v2 then (B_X11_empties_43 (B_X11_empties_17 f) v1 v2 v4 v1 v4 (-1) D) else (B_X11_empties_43 (B_X11_empties_17 f) v1 v2 v4 v1 v4 v2 D)) else none)
set_option maxRecDepth 20000 in
theorem S_X11_empties_17 {Z : MiZ} (hL : ML Z) : ∀ (f : Nat) (v1 v2 v4 : Int) (D : MiD), Sg m_X11_empties 17 [(42, 0), (0, v1), (0, v2), mi_un, (0, v4)] [] (D, Z) (mi_LV Z) (B_X11_empties_17 f v1 v2 v4 D) := by
  intro f
  induction f with
  | zero => intros; exact Sg.nope
  | succ f K17 =>
    intro v1 v2 v4 D
    show Sg m_X11_empties 17 [(42, 0), (0, v1), (0, v2), mi_un, (0, v4)] [] (D, Z) (mi_LV Z) (if 9 ≤ v4 then (some D) else (if 0 ≤ v1 ∧ v1 < 61 then (if 7 < v2 then (B_X11_empties_43 (B_X11_empties_17 f) v1 v2 v4 v1 v4 (-1) D) else (B_X11_empties_43 (B_X11_empties_17 f) v1 v2 v4 v1 v4 v2 D)) else none))
    refine Sg.go (pc' := 19) (mi_iload dX11_empties_17 rfl) ?_
    refine Sg.go (pc' := 21) (mi_bipush (z := 9) dX11_empties_19 rfl) ?_
    refine Sg.ite (fun h1 => ?_) (fun h1 => ?_)
    · refine Sg.go (pc' := 60) (mi_icmpge_t (tgt := 60) dX11_empties_21 (by decide) h1) ?_
      exact Sg.ret (mi_return dX11_empties_60 rfl (0, 0))
    · refine Sg.go (pc' := 24) (mi_icmpge_f (tgt := 60) dX11_empties_21 (by decide) h1) ?_
      refine Sg.go (pc' := 25) (mi_aload_n dX11_empties_24 rfl) ?_
      refine Sg.go (pc' := 28) (mi_gfA (t := 54) (v := 0) (r := 40) (k := 18) dX11_empties_25 hC_40 (by decide) rfl wF_X11_48 (by omega) rfl (hL.1 18 (by decide))) ?_
      refine Sg.go (pc' := 29) (mi_iload_n dX11_empties_28 rfl) ?_
      refine Sg.ck (fun hk2 => ?_)
      refine Sg.go (pc' := 30) (mi_aald (n := 61) (t := 55) (v := v1) dX11_empties_29 rfl hA_54 rfl (by omega) hk2 rfl (hL.2.2.2.2.1 _ hk2.1 hk2.2)) ?_
      refine Sg.go (pc' := 32) (mi_iload dX11_empties_30 rfl) ?_
      refine Sg.go (pc' := 33) (mi_iload_n dX11_empties_32 rfl) ?_
      refine Sg.go (pc' := 35) (mi_bipush (z := 7) dX11_empties_33 rfl) ?_
      refine Sg.ite (fun h3 => ?_) (fun h3 => ?_)
      · refine Sg.go (pc' := 42) (mi_icmpgt_t (tgt := 42) dX11_empties_35 (by decide) h3) ?_
        refine Sg.go (pc' := 43) (mi_iconst (z := (-1)) dX11_empties_42 rfl) ?_
        exact S_X11_empties_43 hL K17 v1 v2 v4 v1 v4 (-1) D
      · refine Sg.go (pc' := 38) (mi_icmpgt_f (tgt := 42) dX11_empties_35 (by decide) h3) ?_
        refine Sg.go (pc' := 39) (mi_iload_n dX11_empties_38 rfl) ?_
        refine Sg.go (pc' := 43) (mi_goto (tgt := 43) dX11_empties_39 (by decide)) ?_
        exact S_X11_empties_43 hL K17 v1 v2 v4 v1 v4 v2 D
def B_X11_empties (v1 : Int) (v2 : Int) (v3 : Int) (D : MiD) : Option (MiD) := if 0 ≤ v1 ∧ v1 < 61 then (mi_let (mi_st D 52 0 v1 v2) fun D2 => mi_let (mi_st D2 53 0 v1 v3) fun D3 => B_X11_empties_17 mi_fuel v1 v2 0 D3) else none
set_option maxRecDepth 20000 in
theorem S_X11_empties {Z : MiZ} (hL : ML Z) (v1 v2 v3 : Int) (D : MiD) : Sg m_X11_empties 0 [(42, 0), (0, v1), (0, v2), (0, v3), mi_un] [] (D, Z) (mi_LV Z) (B_X11_empties v1 v2 v3 D) := by
  unfold B_X11_empties
  refine Sg.go (pc' := 1) (mi_aload_n dX11_empties_0 rfl) ?_
  refine Sg.go (pc' := 4) (mi_gfA (t := 52) (v := 0) (r := 40) (k := 16) dX11_empties_1 hC_40 (by decide) rfl wF_X11_42 (by omega) rfl (hL.1 16 (by decide))) ?_
  refine Sg.go (pc' := 5) (mi_iload_n dX11_empties_4 rfl) ?_
  refine Sg.go (pc' := 6) (mi_iload_n dX11_empties_5 rfl) ?_
  refine Sg.ck (fun hk1 => ?_)
  refine Sg.goM (pc' := 7) (mi_iast (n := 61) dX11_empties_6 rfl rfl (by omega) hk1) ?_
  refine Sg.letD (fun D2 hD2 => ?_)
  refine Sg.go (pc' := 8) (mi_aload_n dX11_empties_7 rfl) ?_
  refine Sg.go (pc' := 11) (mi_gfA (t := 53) (v := 0) (r := 40) (k := 17) dX11_empties_8 hC_40 (by decide) rfl wF_X11_45 (by omega) rfl (hL.1 17 (by decide))) ?_
  refine Sg.go (pc' := 12) (mi_iload_n dX11_empties_11 rfl) ?_
  refine Sg.go (pc' := 13) (mi_iload_n dX11_empties_12 rfl) ?_
  refine Sg.goM (pc' := 14) (mi_iast (n := 61) dX11_empties_13 rfl rfl (by omega) hk1) ?_
  refine Sg.letD (fun D3 hD3 => ?_)
  refine Sg.go (pc' := 15) (mi_iconst (z := 0) dX11_empties_14 rfl) ?_
  refine Sg.go (pc' := 17) (mi_istore (ls1 := [(42, 0), (0, v1), (0, v2), (0, v3), (0, 0)]) dX11_empties_15 (by decide) rfl) ?_
  refine Sg.go (pc' := 17) (MiStep.weak (ls' := [(42, 0), (0, v1), (0, v2), mi_un, (0, 0)]) (mi_wk_y (mi_wk_y (mi_wk_y (mi_wk_n (mi_wk_y mi_wk_0)))))) ?_
  exact S_X11_empties_17 hL mi_fuel v1 v2 0 D3
theorem C_X11_empties {Z : MiZ} (hL : ML Z) (a1 a2 a3 : Int) (D : MiD) (b : MiD) (hb : B_X11_empties a1 a2 a3 D = some b) : MC m_X11_empties [(42, 0), (0, a1), (0, a2), (0, a3)] (D, Z) ((mi_LV Z) b) := MC.ofSg (L := (mi_LV Z)) (μ := m_X11_empties) (args := [(42, 0), (0, a1), (0, a2), (0, a3)]) (M := (D, Z)) rfl wP_X11 (Nat.le_of_ble_eq_true rfl) (show Sg m_X11_empties 0 [(42, 0), (0, a1), (0, a2), (0, a3), mi_un] [] (D, Z) (mi_LV Z) (B_X11_empties a1 a2 a3 D) from S_X11_empties hL a1 a2 a3 D) hb
abbrev m_X11_fault : MiI := (yX11_fault, cX11_fault, 1, (some .int), 1, none)
def B_X11_fault (D : MiD) : Option (Int × MiD) := mi_let (mi_st D 40 0 0 0) fun D1 => some ((D1 40 0 5), D1)
set_option maxRecDepth 20000 in
theorem S_X11_fault {Z : MiZ} (hL : ML Z) (D : MiD) : Sg m_X11_fault 0 [(42, 0)] [] (D, Z) (mi_LD 0 Z) (B_X11_fault D) := by
  unfold B_X11_fault
  refine Sg.go (pc' := 1) (mi_aload_n dX11_fault_0 rfl) ?_
  refine Sg.go (pc' := 2) (mi_iconst (z := 0) dX11_fault_1 rfl) ?_
  refine Sg.goM (pc' := 5) (mi_pfD (r := 40) (k := 0) (t := 0) dX11_fault_2 hC_40 (by decide) rfl rfl wF_X11_78 (by omega) rfl (by decide) (Or.inl ⟨rfl, rfl⟩)) ?_
  refine Sg.letD (fun D1 hD1 => ?_)
  refine Sg.go (pc' := 6) (mi_aload_n dX11_fault_5 rfl) ?_
  refine Sg.go (pc' := 9) (mi_gfI (r := 40) (k := 5) dX11_fault_6 hC_40 (by decide) rfl wF_X11_13 (by omega) rfl) ?_
  exact Sg.ret (mi_ireturn dX11_fault_9 rfl (Or.inl rfl))
theorem C_X11_fault {Z : MiZ} (hL : ML Z) (D : MiD) (b : Int × MiD) (hb : B_X11_fault D = some b) : MC m_X11_fault [(42, 0)] (D, Z) ((mi_LD 0 Z) b) := MC.ofSg (L := (mi_LD 0 Z)) (μ := m_X11_fault) (args := [(42, 0)]) (M := (D, Z)) rfl wP_X11 (Nat.le_of_ble_eq_true rfl) (show Sg m_X11_fault 0 [(42, 0)] [] (D, Z) (mi_LD 0 Z) (B_X11_fault D) from S_X11_fault hL D) hb
abbrev m_X11_feed : MiI := (yX11_feed, cX11_feed, 8, (some .int), 1, none)
def B_X11_feed_76 (k23 : Int → Int → Int → Int → Int → Int → MiD → Option (Int × MiD)) (v1 : Int) (v2 : Int) (v3 : Int) (v4 : Int) (v5 : Int) (v6 : Int) (s0 : Int) (D : MiD) : Option (Int × MiD) := if 0 ≤ (D 40 0 2) ∧ (D 40 0 2) < 500 then (mi_let (mi_st D 42 0 (D 40 0 2) (mi_and (mi_shr s0 (mi_w (24 - (mi_w (8 * (mi_rem v6 4)))))) 255)) fun D2 => mi_let (mi_st D2 40 0 2 (mi_w ((D2 40 0 2) + 1))) fun D3 => k23 v1 v2 v3 v4 v5 (mi_w (v6 + 1)) D3) else none
set_option maxRecDepth 20000 in
theorem S_X11_feed_76 {Z : MiZ} (hL : ML Z) {k23 : Int → Int → Int → Int → Int → Int → MiD → Option (Int × MiD)} (K23 : ∀ (v1 v2 v3 v4 v5 v6 : Int) (D : MiD), Sg m_X11_feed 23 [(42, 0), (0, v1), (0, v2), (0, v3), (0, v4), (0, v5), (0, v6), mi_un] [] (D, Z) (mi_LD 0 Z) (k23 v1 v2 v3 v4 v5 v6 D)) (v1 v2 v3 v4 v5 v6 s0 : Int) (D : MiD) : Sg m_X11_feed 76 [(42, 0), (0, v1), (0, v2), (0, v3), (0, v4), (0, v5), (0, v6), mi_un] [(0, s0)] (D, Z) (mi_LD 0 Z) (B_X11_feed_76 k23 v1 v2 v3 v4 v5 v6 s0 D) := by
  unfold B_X11_feed_76
  refine Sg.go (pc' := 78) (mi_istore (ls1 := [(42, 0), (0, v1), (0, v2), (0, v3), (0, v4), (0, v5), (0, v6), (0, s0)]) dX11_feed_76 (by decide) rfl) ?_
  refine Sg.go (pc' := 79) (mi_aload_n dX11_feed_78 rfl) ?_
  refine Sg.go (pc' := 82) (mi_gfA (t := 42) (v := 0) (r := 40) (k := 8) dX11_feed_79 hC_40 (by decide) rfl wF_X11_17 (by omega) rfl (hL.1 8 (by decide))) ?_
  refine Sg.go (pc' := 83) (mi_aload_n dX11_feed_82 rfl) ?_
  refine Sg.go (pc' := 86) (mi_gfI (r := 40) (k := 2) dX11_feed_83 hC_40 (by decide) rfl wF_X11_81 (by omega) rfl) ?_
  refine Sg.go (pc' := 88) (mi_iload dX11_feed_86 rfl) ?_
  refine Sg.go (pc' := 90) (mi_bipush (z := 24) dX11_feed_88 rfl) ?_
  refine Sg.go (pc' := 92) (mi_bipush (z := 8) dX11_feed_90 rfl) ?_
  refine Sg.go (pc' := 94) (mi_iload dX11_feed_92 rfl) ?_
  refine Sg.go (pc' := 95) (mi_iconst (z := 4) dX11_feed_94 rfl) ?_
  refine Sg.go (pc' := 96) (mi_irem_ dX11_feed_95 (by decide)) ?_
  refine Sg.go (pc' := 97) (mi_imul dX11_feed_96) ?_
  refine Sg.go (pc' := 98) (mi_isub dX11_feed_97) ?_
  refine Sg.go (pc' := 99) (mi_ishr dX11_feed_98) ?_
  refine Sg.go (pc' := 102) (mi_sipush (z := 255) dX11_feed_99 rfl) ?_
  refine Sg.go (pc' := 103) (mi_iand dX11_feed_102) ?_
  refine Sg.ck (fun hk1 => ?_)
  refine Sg.goM (pc' := 104) (mi_iast (n := 500) dX11_feed_103 rfl rfl (by omega) hk1) ?_
  refine Sg.letD (fun D2 hD2 => ?_)
  refine Sg.go (pc' := 105) (mi_aload_n dX11_feed_104 rfl) ?_
  refine Sg.go (pc' := 106) (mi_dup dX11_feed_105 (show (42 : Nat) ≠ 1 by decide)) ?_
  refine Sg.go (pc' := 109) (mi_gfI (r := 40) (k := 2) dX11_feed_106 hC_40 (by decide) rfl wF_X11_81 (by omega) rfl) ?_
  refine Sg.go (pc' := 110) (mi_iconst (z := 1) dX11_feed_109 rfl) ?_
  refine Sg.go (pc' := 111) (mi_iadd dX11_feed_110) ?_
  refine Sg.goM (pc' := 114) (mi_pfD (r := 40) (k := 2) (t := 0) dX11_feed_111 hC_40 (by decide) rfl rfl wF_X11_81 (by omega) rfl (by decide) (Or.inl ⟨rfl, rfl⟩)) ?_
  refine Sg.letD (fun D3 hD3 => ?_)
  refine Sg.go (pc' := 117) (mi_iinc (z := 1) (ls1 := [(42, 0), (0, v1), (0, v2), (0, v3), (0, v4), (0, v5), (0, (mi_w (v6 + 1))), (0, s0)]) dX11_feed_114 (by decide) rfl rfl rfl) ?_
  refine Sg.go (pc' := 23) (mi_goto (tgt := 23) dX11_feed_117 (by decide)) ?_
  refine Sg.go (pc' := 23) (MiStep.weak (ls' := [(42, 0), (0, v1), (0, v2), (0, v3), (0, v4), (0, v5), (0, (mi_w (v6 + 1))), mi_un]) (mi_wk_y (mi_wk_y (mi_wk_y (mi_wk_y (mi_wk_y (mi_wk_y (mi_wk_y (mi_wk_n mi_wk_0))))))))) ?_
  exact K23 v1 v2 v3 v4 v5 (mi_w (v6 + 1)) D3
def B_X11_feed_23 : Nat → Int → Int → Int → Int → Int → Int → MiD → Option (Int × MiD)
  | 0, _, _, _, _, _, _, _ => none
  | f + 1, v1, v2, v3, v4, v5, v6, D => if 20 ≤ v6 then (some ((D 40 0 2), D)) else (if 4 ≤ v6 then (if 8 ≤ v6 then (if 12 ≤ v6 then (if 16 ≤ v6 then (B_X11_feed_76 (B_X11_feed_23 f) v1 v2 v3 v4 v5 v6 v5 D) else (B_X11_feed_76 (B_X11_feed_23 f) v1 v2 v3 v4 v5 v6 v4 D)) else (B_X11_feed_76 (B_X11_feed_23 f) v1 v2 v3 v4 v5 v6 v3 D)) else (B_X11_feed_76 (B_X11_feed_23 f) v1 v2 v3 v4 v5 v6 v2 D)) else (B_X11_feed_76 (B_X11_feed_23 f) v1 v2 v3 v4 v5 v6 v1 D))
set_option maxRecDepth 20000 in
theorem S_X11_feed_23 {Z : MiZ} (hL : ML Z) : ∀ (f : Nat) (v1 v2 v3 v4 v5 v6 : Int) (D : MiD), Sg m_X11_feed 23 [(42, 0), (0, v1), (0, v2), (0, v3), (0, v4), (0, v5), (0, v6), mi_un] [] (D, Z) (mi_LD 0 Z) (B_X11_feed_23 f v1 v2 v3 v4 v5 v6 D) := by
  intro f
  induction f with
  | zero => intros; exact Sg.nope
  | succ f K23 =>
    intro v1 v2 v3 v4 v5 v6 D
    show Sg m_X11_feed 23 [(42, 0), (0, v1), (0, v2), (0, v3), (0, v4), (0, v5), (0, v6), mi_un] [] (D, Z) (mi_LD 0 Z) (if 20 ≤ v6 then (some ((D 40 0 2), D)) else (if 4 ≤ v6 then (if 8 ≤ v6 then (if 12 ≤ v6 then (if 16 ≤ v6 then (B_X11_feed_76 (B_X11_feed_23 f) v1 v2 v3 v4 v5 v6 v5 D) else (B_X11_feed_76 (B_X11_feed_23 f) v1 v2 v3 v4 v5 v6 v4 D)) else (B_X11_feed_76 (B_X11_feed_23 f) v1 v2 v3 v4 v5 v6 v3 D)) else (B_X11_feed_76 (B_X11_feed_23 f) v1 v2 v3 v4 v5 v6 v2 D)) else (B_X11_feed_76 (B_X11_feed_23 f) v1 v2 v3 v4 v5 v6 v1 D)))
    refine Sg.go (pc' := 25) (mi_iload dX11_feed_23 rfl) ?_
    refine Sg.go (pc' := 27) (mi_bipush (z := 20) dX11_feed_25 rfl) ?_
    refine Sg.ite (fun h1 => ?_) (fun h1 => ?_)
    · refine Sg.go (pc' := 120) (mi_icmpge_t (tgt := 120) dX11_feed_27 (by decide) h1) ?_
      refine Sg.go (pc' := 121) (mi_aload_n dX11_feed_120 rfl) ?_
      refine Sg.go (pc' := 124) (mi_gfI (r := 40) (k := 2) dX11_feed_121 hC_40 (by decide) rfl wF_X11_81 (by omega) rfl) ?_
      exact Sg.ret (mi_ireturn dX11_feed_124 rfl (Or.inl rfl))
    · refine Sg.go (pc' := 30) (mi_icmpge_f (tgt := 120) dX11_feed_27 (by decide) h1) ?_
      refine Sg.go (pc' := 32) (mi_iload dX11_feed_30 rfl) ?_
      refine Sg.go (pc' := 33) (mi_iconst (z := 4) dX11_feed_32 rfl) ?_
      refine Sg.ite (fun h2 => ?_) (fun h2 => ?_)
      · refine Sg.go (pc' := 40) (mi_icmpge_t (tgt := 40) dX11_feed_33 (by decide) h2) ?_
        refine Sg.go (pc' := 42) (mi_iload dX11_feed_40 rfl) ?_
        refine Sg.go (pc' := 44) (mi_bipush (z := 8) dX11_feed_42 rfl) ?_
        refine Sg.ite (fun h3 => ?_) (fun h3 => ?_)
        · refine Sg.go (pc' := 51) (mi_icmpge_t (tgt := 51) dX11_feed_44 (by decide) h3) ?_
          refine Sg.go (pc' := 53) (mi_iload dX11_feed_51 rfl) ?_
          refine Sg.go (pc' := 55) (mi_bipush (z := 12) dX11_feed_53 rfl) ?_
          refine Sg.ite (fun h4 => ?_) (fun h4 => ?_)
          · refine Sg.go (pc' := 62) (mi_icmpge_t (tgt := 62) dX11_feed_55 (by decide) h4) ?_
            refine Sg.go (pc' := 64) (mi_iload dX11_feed_62 rfl) ?_
            refine Sg.go (pc' := 66) (mi_bipush (z := 16) dX11_feed_64 rfl) ?_
            refine Sg.ite (fun h5 => ?_) (fun h5 => ?_)
            · refine Sg.go (pc' := 74) (mi_icmpge_t (tgt := 74) dX11_feed_66 (by decide) h5) ?_
              refine Sg.go (pc' := 76) (mi_iload dX11_feed_74 rfl) ?_
              exact S_X11_feed_76 hL K23 v1 v2 v3 v4 v5 v6 v5 D
            · refine Sg.go (pc' := 69) (mi_icmpge_f (tgt := 74) dX11_feed_66 (by decide) h5) ?_
              refine Sg.go (pc' := 71) (mi_iload dX11_feed_69 rfl) ?_
              refine Sg.go (pc' := 76) (mi_goto (tgt := 76) dX11_feed_71 (by decide)) ?_
              exact S_X11_feed_76 hL K23 v1 v2 v3 v4 v5 v6 v4 D
          · refine Sg.go (pc' := 58) (mi_icmpge_f (tgt := 62) dX11_feed_55 (by decide) h4) ?_
            refine Sg.go (pc' := 59) (mi_iload_n dX11_feed_58 rfl) ?_
            refine Sg.go (pc' := 76) (mi_goto (tgt := 76) dX11_feed_59 (by decide)) ?_
            exact S_X11_feed_76 hL K23 v1 v2 v3 v4 v5 v6 v3 D
        · refine Sg.go (pc' := 47) (mi_icmpge_f (tgt := 51) dX11_feed_44 (by decide) h3) ?_
          refine Sg.go (pc' := 48) (mi_iload_n dX11_feed_47 rfl) ?_
          refine Sg.go (pc' := 76) (mi_goto (tgt := 76) dX11_feed_48 (by decide)) ?_
          exact S_X11_feed_76 hL K23 v1 v2 v3 v4 v5 v6 v2 D
      · refine Sg.go (pc' := 36) (mi_icmpge_f (tgt := 40) dX11_feed_33 (by decide) h2) ?_
        refine Sg.go (pc' := 37) (mi_iload_n dX11_feed_36 rfl) ?_
        refine Sg.go (pc' := 76) (mi_goto (tgt := 76) dX11_feed_37 (by decide)) ?_
        exact S_X11_feed_76 hL K23 v1 v2 v3 v4 v5 v6 v1 D
def B_X11_feed (v1 : Int) (v2 : Int) (v3 : Int) (v4 : Int) (v5 : Int) (D : MiD) : Option (Int × MiD) := mi_let (mi_st D 40 0 0 0) fun D1 => if (mi_w ((D1 40 0 2) + 20)) ≤ 500 then (B_X11_feed_23 mi_fuel v1 v2 v3 v4 v5 0 D1) else (some ((-1), D1))
set_option maxRecDepth 20000 in
theorem S_X11_feed {Z : MiZ} (hL : ML Z) (v1 v2 v3 v4 v5 : Int) (D : MiD) : Sg m_X11_feed 0 [(42, 0), (0, v1), (0, v2), (0, v3), (0, v4), (0, v5), mi_un, mi_un] [] (D, Z) (mi_LD 0 Z) (B_X11_feed v1 v2 v3 v4 v5 D) := by
  unfold B_X11_feed
  refine Sg.go (pc' := 1) (mi_aload_n dX11_feed_0 rfl) ?_
  refine Sg.go (pc' := 2) (mi_iconst (z := 0) dX11_feed_1 rfl) ?_
  refine Sg.goM (pc' := 5) (mi_pfD (r := 40) (k := 0) (t := 0) dX11_feed_2 hC_40 (by decide) rfl rfl wF_X11_78 (by omega) rfl (by decide) (Or.inl ⟨rfl, rfl⟩)) ?_
  refine Sg.letD (fun D1 hD1 => ?_)
  refine Sg.go (pc' := 6) (mi_aload_n dX11_feed_5 rfl) ?_
  refine Sg.go (pc' := 9) (mi_gfI (r := 40) (k := 2) dX11_feed_6 hC_40 (by decide) rfl wF_X11_81 (by omega) rfl) ?_
  refine Sg.go (pc' := 11) (mi_bipush (z := 20) dX11_feed_9 rfl) ?_
  refine Sg.go (pc' := 12) (mi_iadd dX11_feed_11) ?_
  refine Sg.go (pc' := 15) (mi_sipush (z := 500) dX11_feed_12 rfl) ?_
  refine Sg.ite (fun h2 => ?_) (fun h2 => ?_)
  · refine Sg.go (pc' := 20) (mi_icmple_t (tgt := 20) dX11_feed_15 (by decide) h2) ?_
    refine Sg.go (pc' := 21) (mi_iconst (z := 0) dX11_feed_20 rfl) ?_
    refine Sg.go (pc' := 23) (mi_istore (ls1 := [(42, 0), (0, v1), (0, v2), (0, v3), (0, v4), (0, v5), (0, 0), mi_un]) dX11_feed_21 (by decide) rfl) ?_
    exact S_X11_feed_23 hL mi_fuel v1 v2 v3 v4 v5 0 D1
  · refine Sg.go (pc' := 18) (mi_icmple_f (tgt := 20) dX11_feed_15 (by decide) h2) ?_
    refine Sg.go (pc' := 19) (mi_iconst (z := (-1)) dX11_feed_18 rfl) ?_
    exact Sg.ret (mi_ireturn dX11_feed_19 rfl (Or.inl rfl))
theorem C_X11_feed {Z : MiZ} (hL : ML Z) (a1 a2 a3 a4 a5 : Int) (D : MiD) (b : Int × MiD) (hb : B_X11_feed a1 a2 a3 a4 a5 D = some b) : MC m_X11_feed [(42, 0), (0, a1), (0, a2), (0, a3), (0, a4), (0, a5)] (D, Z) ((mi_LD 0 Z) b) := MC.ofSg (L := (mi_LD 0 Z)) (μ := m_X11_feed) (args := [(42, 0), (0, a1), (0, a2), (0, a3), (0, a4), (0, a5)]) (M := (D, Z)) rfl wP_X11 (Nat.le_of_ble_eq_true rfl) (show Sg m_X11_feed 0 [(42, 0), (0, a1), (0, a2), (0, a3), (0, a4), (0, a5), mi_un, mi_un] [] (D, Z) (mi_LD 0 Z) (B_X11_feed a1 a2 a3 a4 a5 D) from S_X11_feed hL a1 a2 a3 a4 a5 D) hb
abbrev m_X11_fine : MiI := (yX11_fine, cX11_fine, 1, (some .boolean), 1, none)
def B_X11_fine (D : MiD) : Option (Int) := if (D 40 0 6) ≠ 0 then (some 0) else (some 1)
set_option maxRecDepth 20000 in
theorem S_X11_fine {D : MiD} {Z : MiZ} (hL : ML Z) : Sg m_X11_fine 0 [(42, 0)] [] (D, Z) (mi_LI 0 (D, Z)) (B_X11_fine D) := by
  unfold B_X11_fine
  refine Sg.go (pc' := 1) (mi_aload_n dX11_fine_0 rfl) ?_
  refine Sg.go (pc' := 4) (mi_gfI (r := 40) (k := 6) dX11_fine_1 hC_40 (by decide) rfl wF_X11_94 (by omega) rfl) ?_
  refine Sg.ite (fun h1 => ?_) (fun h1 => ?_)
  · refine Sg.go (pc' := 11) (mi_ifne_t (tgt := 11) dX11_fine_4 (by decide) h1) ?_
    refine Sg.go (pc' := 12) (mi_iconst (z := 0) dX11_fine_11 rfl) ?_
    exact Sg.ret (mi_ireturn dX11_fine_12 rfl (Or.inr (Or.inl ⟨rfl, Or.inl rfl⟩)))
  · refine Sg.go (pc' := 7) (mi_ifne_f (tgt := 11) dX11_fine_4 (by decide) h1) ?_
    refine Sg.go (pc' := 8) (mi_iconst (z := 1) dX11_fine_7 rfl) ?_
    refine Sg.go (pc' := 12) (mi_goto (tgt := 12) dX11_fine_8 (by decide)) ?_
    exact Sg.ret (mi_ireturn dX11_fine_12 rfl (Or.inr (Or.inl ⟨rfl, Or.inr rfl⟩)))
theorem C_X11_fine {Z : MiZ} (hL : ML Z) (D : MiD) (b : Int) (hb : B_X11_fine D = some b) : MC m_X11_fine [(42, 0)] (D, Z) ((mi_LI 0 (D, Z)) b) := MC.ofSg (L := (mi_LI 0 (D, Z))) (μ := m_X11_fine) (args := [(42, 0)]) (M := (D, Z)) rfl wP_X11 (Nat.le_of_ble_eq_true rfl) (show Sg m_X11_fine 0 [(42, 0)] [] (D, Z) (mi_LI 0 (D, Z)) (B_X11_fine D) from S_X11_fine hL) hb
abbrev m_X11_in : MiI := (yX11_in, cX11_in, 3, (some .boolean), 1, none)
def B_X11_in (v0 : Int) (v1 : Int) (v2 : Int) : Int := if v0 < v1 then 0 else (if v2 < v0 then 0 else 1)
set_option maxRecDepth 20000 in
theorem S_X11_in {D : MiD} {Z : MiZ} (hL : ML Z) (v0 v1 v2 : Int) : Sg m_X11_in 0 [(0, v0), (0, v1), (0, v2)] [] (D, Z) (mi_LI 0 (D, Z)) (some (B_X11_in v0 v1 v2)) := by
  unfold B_X11_in
  refine Sg.go (pc' := 1) (mi_iload_n dX11_in_0 rfl) ?_
  refine Sg.go (pc' := 2) (mi_iload_n dX11_in_1 rfl) ?_
  refine Sg.iteS (fun h1 => ?_) (fun h1 => ?_)
  · refine Sg.go (pc' := 14) (mi_icmplt_t (tgt := 14) dX11_in_2 (by decide) h1) ?_
    refine Sg.go (pc' := 15) (mi_iconst (z := 0) dX11_in_14 rfl) ?_
    exact Sg.ret (mi_ireturn dX11_in_15 rfl (Or.inr (Or.inl ⟨rfl, Or.inl rfl⟩)))
  · refine Sg.go (pc' := 5) (mi_icmplt_f (tgt := 14) dX11_in_2 (by decide) h1) ?_
    refine Sg.go (pc' := 6) (mi_iload_n dX11_in_5 rfl) ?_
    refine Sg.go (pc' := 7) (mi_iload_n dX11_in_6 rfl) ?_
    refine Sg.iteS (fun h2 => ?_) (fun h2 => ?_)
    · refine Sg.go (pc' := 14) (mi_icmpgt_t (tgt := 14) dX11_in_7 (by decide) h2) ?_
      refine Sg.go (pc' := 15) (mi_iconst (z := 0) dX11_in_14 rfl) ?_
      exact Sg.ret (mi_ireturn dX11_in_15 rfl (Or.inr (Or.inl ⟨rfl, Or.inl rfl⟩)))
    · refine Sg.go (pc' := 10) (mi_icmpgt_f (tgt := 14) dX11_in_7 (by decide) h2) ?_
      refine Sg.go (pc' := 11) (mi_iconst (z := 1) dX11_in_10 rfl) ?_
      refine Sg.go (pc' := 15) (mi_goto (tgt := 15) dX11_in_11 (by decide)) ?_
      exact Sg.ret (mi_ireturn dX11_in_15 rfl (Or.inr (Or.inl ⟨rfl, Or.inr rfl⟩)))
theorem C_X11_in {Z : MiZ} (hL : ML Z) (a0 a1 a2 : Int) (D : MiD) : MC m_X11_in [(0, a0), (0, a1), (0, a2)] (D, Z) (mi_LI 0 (D, Z) (B_X11_in a0 a1 a2)) := MC.ofSg (L := (mi_LI 0 (D, Z))) (μ := m_X11_in) (args := [(0, a0), (0, a1), (0, a2)]) (M := (D, Z)) rfl wP_X11 (Nat.le_of_ble_eq_true rfl) (show Sg m_X11_in 0 [(0, a0), (0, a1), (0, a2)] [] (D, Z) (mi_LI 0 (D, Z)) (some (B_X11_in a0 a1 a2)) from S_X11_in hL a0 a1 a2) rfl
theorem Z_X11_in {v0 : Int} {v1 : Int} {v2 : Int} : B_X11_in v0 v1 v2 = 0 ∨ B_X11_in v0 v1 v2 = 1 := by
  unfold B_X11_in
  repeat' split
  all_goals first | exact Or.inl rfl | exact Or.inr rfl
abbrev m_X11_isBit : MiI := (yX11_isBit, cX11_isBit, 2, (some .boolean), 1, none)
def B_X11_isBit (v0 : Int) (v1 : Int) : Int := if (mi_and (mi_shr v0 v1) 1) ≠ 1 then 0 else 1
set_option maxRecDepth 20000 in
theorem S_X11_isBit {D : MiD} {Z : MiZ} (hL : ML Z) (v0 v1 : Int) : Sg m_X11_isBit 0 [(0, v0), (0, v1)] [] (D, Z) (mi_LI 0 (D, Z)) (some (B_X11_isBit v0 v1)) := by
  unfold B_X11_isBit
  refine Sg.go (pc' := 1) (mi_iload_n dX11_isBit_0 rfl) ?_
  refine Sg.go (pc' := 2) (mi_iload_n dX11_isBit_1 rfl) ?_
  refine Sg.go (pc' := 3) (mi_ishr dX11_isBit_2) ?_
  refine Sg.go (pc' := 4) (mi_iconst (z := 1) dX11_isBit_3 rfl) ?_
  refine Sg.go (pc' := 5) (mi_iand dX11_isBit_4) ?_
  refine Sg.go (pc' := 6) (mi_iconst (z := 1) dX11_isBit_5 rfl) ?_
  refine Sg.iteS (fun h1 => ?_) (fun h1 => ?_)
  · refine Sg.go (pc' := 13) (mi_icmpne_t (tgt := 13) dX11_isBit_6 (by decide) h1) ?_
    refine Sg.go (pc' := 14) (mi_iconst (z := 0) dX11_isBit_13 rfl) ?_
    exact Sg.ret (mi_ireturn dX11_isBit_14 rfl (Or.inr (Or.inl ⟨rfl, Or.inl rfl⟩)))
  · refine Sg.go (pc' := 9) (mi_icmpne_f (tgt := 13) dX11_isBit_6 (by decide) h1) ?_
    refine Sg.go (pc' := 10) (mi_iconst (z := 1) dX11_isBit_9 rfl) ?_
    refine Sg.go (pc' := 14) (mi_goto (tgt := 14) dX11_isBit_10 (by decide)) ?_
    exact Sg.ret (mi_ireturn dX11_isBit_14 rfl (Or.inr (Or.inl ⟨rfl, Or.inr rfl⟩)))
theorem C_X11_isBit {Z : MiZ} (hL : ML Z) (a0 a1 : Int) (D : MiD) : MC m_X11_isBit [(0, a0), (0, a1)] (D, Z) (mi_LI 0 (D, Z) (B_X11_isBit a0 a1)) := MC.ofSg (L := (mi_LI 0 (D, Z))) (μ := m_X11_isBit) (args := [(0, a0), (0, a1)]) (M := (D, Z)) rfl wP_X11 (Nat.le_of_ble_eq_true rfl) (show Sg m_X11_isBit 0 [(0, a0), (0, a1)] [] (D, Z) (mi_LI 0 (D, Z)) (some (B_X11_isBit a0 a1)) from S_X11_isBit hL a0 a1) rfl
theorem Z_X11_isBit {v0 : Int} {v1 : Int} : B_X11_isBit v0 v1 = 0 ∨ B_X11_isBit v0 v1 = 1 := by
  unfold B_X11_isBit
  repeat' split
  all_goals first | exact Or.inl rfl | exact Or.inr rfl | exact Z_X11_in
abbrev m_X11_isDigit : MiI := (yX11_isDigit, cX11_isDigit, 1, (some .boolean), 1, none)
def B_X11_isDigit (v0 : Int) : Int := if v0 < 48 then 0 else (if 57 < v0 then 0 else 1)
set_option maxRecDepth 20000 in
theorem S_X11_isDigit {D : MiD} {Z : MiZ} (hL : ML Z) (v0 : Int) : Sg m_X11_isDigit 0 [(0, v0)] [] (D, Z) (mi_LI 0 (D, Z)) (some (B_X11_isDigit v0)) := by
  unfold B_X11_isDigit
  refine Sg.go (pc' := 1) (mi_iload_n dX11_isDigit_0 rfl) ?_
  refine Sg.go (pc' := 3) (mi_bipush (z := 48) dX11_isDigit_1 rfl) ?_
  refine Sg.iteS (fun h1 => ?_) (fun h1 => ?_)
  · refine Sg.go (pc' := 16) (mi_icmplt_t (tgt := 16) dX11_isDigit_3 (by decide) h1) ?_
    refine Sg.go (pc' := 17) (mi_iconst (z := 0) dX11_isDigit_16 rfl) ?_
    exact Sg.ret (mi_ireturn dX11_isDigit_17 rfl (Or.inr (Or.inl ⟨rfl, Or.inl rfl⟩)))
  · refine Sg.go (pc' := 6) (mi_icmplt_f (tgt := 16) dX11_isDigit_3 (by decide) h1) ?_
    refine Sg.go (pc' := 7) (mi_iload_n dX11_isDigit_6 rfl) ?_
    refine Sg.go (pc' := 9) (mi_bipush (z := 57) dX11_isDigit_7 rfl) ?_
    refine Sg.iteS (fun h2 => ?_) (fun h2 => ?_)
    · refine Sg.go (pc' := 16) (mi_icmpgt_t (tgt := 16) dX11_isDigit_9 (by decide) h2) ?_
      refine Sg.go (pc' := 17) (mi_iconst (z := 0) dX11_isDigit_16 rfl) ?_
      exact Sg.ret (mi_ireturn dX11_isDigit_17 rfl (Or.inr (Or.inl ⟨rfl, Or.inl rfl⟩)))
    · refine Sg.go (pc' := 12) (mi_icmpgt_f (tgt := 16) dX11_isDigit_9 (by decide) h2) ?_
      refine Sg.go (pc' := 13) (mi_iconst (z := 1) dX11_isDigit_12 rfl) ?_
      refine Sg.go (pc' := 17) (mi_goto (tgt := 17) dX11_isDigit_13 (by decide)) ?_
      exact Sg.ret (mi_ireturn dX11_isDigit_17 rfl (Or.inr (Or.inl ⟨rfl, Or.inr rfl⟩)))
theorem C_X11_isDigit {Z : MiZ} (hL : ML Z) (a0 : Int) (D : MiD) : MC m_X11_isDigit [(0, a0)] (D, Z) (mi_LI 0 (D, Z) (B_X11_isDigit a0)) := MC.ofSg (L := (mi_LI 0 (D, Z))) (μ := m_X11_isDigit) (args := [(0, a0)]) (M := (D, Z)) rfl wP_X11 (Nat.le_of_ble_eq_true rfl) (show Sg m_X11_isDigit 0 [(0, a0)] [] (D, Z) (mi_LI 0 (D, Z)) (some (B_X11_isDigit a0)) from S_X11_isDigit hL a0) rfl
theorem Z_X11_isDigit {v0 : Int} : B_X11_isDigit v0 = 0 ∨ B_X11_isDigit v0 = 1 := by
  unfold B_X11_isDigit
  repeat' split
  all_goals first | exact Or.inl rfl | exact Or.inr rfl | exact Z_X11_in | exact Z_X11_isBit
abbrev m_X11_isGone : MiI := (yX11_isGone, cX11_isGone, 2, (some .boolean), 1, none)
def B_X11_isGone_39 (D : MiD) : Option (Int) := some 1
set_option maxRecDepth 20000 in
theorem S_X11_isGone_39 {D : MiD} {Z : MiZ} (hL : ML Z) : Sg m_X11_isGone 39 [mi_un, mi_un] [] (D, Z) (mi_LI 0 (D, Z)) (B_X11_isGone_39 D) := by
  unfold B_X11_isGone_39
  refine Sg.go (pc' := 40) (mi_iconst (z := 1) dX11_isGone_39 rfl) ?_
  refine Sg.go (pc' := 44) (mi_goto (tgt := 44) dX11_isGone_40 (by decide)) ?_
  exact Sg.ret (mi_ireturn dX11_isGone_44 rfl (Or.inr (Or.inl ⟨rfl, Or.inr rfl⟩)))
def B_X11_isGone_28 (D : MiD) (v1 : Int) : Option (Int) := if 0 ≤ v1 ∧ v1 < 61 then (if (D 52 0 v1) ≠ 12 then (some 0) else (B_X11_isGone_39 D)) else none
set_option maxRecDepth 20000 in
theorem S_X11_isGone_28 {D : MiD} {Z : MiZ} (hL : ML Z) (v1 : Int) : Sg m_X11_isGone 28 [(42, 0), (0, v1)] [] (D, Z) (mi_LI 0 (D, Z)) (B_X11_isGone_28 D v1) := by
  unfold B_X11_isGone_28
  refine Sg.go (pc' := 29) (mi_aload_n dX11_isGone_28 rfl) ?_
  refine Sg.go (pc' := 32) (mi_gfA (t := 52) (v := 0) (r := 40) (k := 16) dX11_isGone_29 hC_40 (by decide) rfl wF_X11_42 (by omega) rfl (hL.1 16 (by decide))) ?_
  refine Sg.go (pc' := 33) (mi_iload_n dX11_isGone_32 rfl) ?_
  refine Sg.ck (fun hk1 => ?_)
  refine Sg.go (pc' := 34) (mi_iald (n := 61) dX11_isGone_33 rfl rfl (by omega) hk1) ?_
  refine Sg.go (pc' := 36) (mi_bipush (z := 12) dX11_isGone_34 rfl) ?_
  refine Sg.ite (fun h2 => ?_) (fun h2 => ?_)
  · refine Sg.go (pc' := 43) (mi_icmpne_t (tgt := 43) dX11_isGone_36 (by decide) h2) ?_
    refine Sg.go (pc' := 44) (mi_iconst (z := 0) dX11_isGone_43 rfl) ?_
    exact Sg.ret (mi_ireturn dX11_isGone_44 rfl (Or.inr (Or.inl ⟨rfl, Or.inl rfl⟩)))
  · refine Sg.go (pc' := 39) (mi_icmpne_f (tgt := 43) dX11_isGone_36 (by decide) h2) ?_
    refine Sg.go (pc' := 39) (MiStep.weak (ls' := [mi_un, mi_un]) (mi_wk_n (mi_wk_n mi_wk_0))) ?_
    exact S_X11_isGone_39 hL
def B_X11_isGone (D : MiD) (v1 : Int) : Option (Int) := if v1 < 10 then (B_X11_isGone_28 D v1) else (if 60 ≤ v1 then (B_X11_isGone_28 D v1) else (if 0 ≤ (mi_div (mi_w (v1 - 10)) 5) ∧ (mi_div (mi_w (v1 - 10)) 5) < 61 then (if (D 52 0 (mi_div (mi_w (v1 - 10)) 5)) = 12 then (B_X11_isGone_39 D) else (B_X11_isGone_28 D v1)) else none))
set_option maxRecDepth 20000 in
theorem S_X11_isGone {D : MiD} {Z : MiZ} (hL : ML Z) (v1 : Int) : Sg m_X11_isGone 0 [(42, 0), (0, v1)] [] (D, Z) (mi_LI 0 (D, Z)) (B_X11_isGone D v1) := by
  unfold B_X11_isGone
  refine Sg.go (pc' := 1) (mi_iload_n dX11_isGone_0 rfl) ?_
  refine Sg.go (pc' := 3) (mi_bipush (z := 10) dX11_isGone_1 rfl) ?_
  refine Sg.ite (fun h1 => ?_) (fun h1 => ?_)
  · refine Sg.go (pc' := 28) (mi_icmplt_t (tgt := 28) dX11_isGone_3 (by decide) h1) ?_
    exact S_X11_isGone_28 hL v1
  · refine Sg.go (pc' := 6) (mi_icmplt_f (tgt := 28) dX11_isGone_3 (by decide) h1) ?_
    refine Sg.go (pc' := 7) (mi_iload_n dX11_isGone_6 rfl) ?_
    refine Sg.go (pc' := 9) (mi_bipush (z := 60) dX11_isGone_7 rfl) ?_
    refine Sg.ite (fun h2 => ?_) (fun h2 => ?_)
    · refine Sg.go (pc' := 28) (mi_icmpge_t (tgt := 28) dX11_isGone_9 (by decide) h2) ?_
      exact S_X11_isGone_28 hL v1
    · refine Sg.go (pc' := 12) (mi_icmpge_f (tgt := 28) dX11_isGone_9 (by decide) h2) ?_
      refine Sg.go (pc' := 13) (mi_aload_n dX11_isGone_12 rfl) ?_
      refine Sg.go (pc' := 16) (mi_gfA (t := 52) (v := 0) (r := 40) (k := 16) dX11_isGone_13 hC_40 (by decide) rfl wF_X11_42 (by omega) rfl (hL.1 16 (by decide))) ?_
      refine Sg.go (pc' := 17) (mi_iload_n dX11_isGone_16 rfl) ?_
      refine Sg.go (pc' := 19) (mi_bipush (z := 10) dX11_isGone_17 rfl) ?_
      refine Sg.go (pc' := 20) (mi_isub dX11_isGone_19) ?_
      refine Sg.go (pc' := 21) (mi_iconst (z := 5) dX11_isGone_20 rfl) ?_
      refine Sg.go (pc' := 22) (mi_idiv dX11_isGone_21 (by decide)) ?_
      refine Sg.ck (fun hk3 => ?_)
      refine Sg.go (pc' := 23) (mi_iald (n := 61) dX11_isGone_22 rfl rfl (by omega) hk3) ?_
      refine Sg.go (pc' := 25) (mi_bipush (z := 12) dX11_isGone_23 rfl) ?_
      refine Sg.ite (fun h4 => ?_) (fun h4 => ?_)
      · refine Sg.go (pc' := 39) (mi_icmpeq_t (tgt := 39) dX11_isGone_25 (by decide) h4) ?_
        refine Sg.go (pc' := 39) (MiStep.weak (ls' := [mi_un, mi_un]) (mi_wk_n (mi_wk_n mi_wk_0))) ?_
        exact S_X11_isGone_39 hL
      · refine Sg.go (pc' := 28) (mi_icmpeq_f (tgt := 39) dX11_isGone_25 (by decide) h4) ?_
        exact S_X11_isGone_28 hL v1
theorem C_X11_isGone {Z : MiZ} (hL : ML Z) (a1 : Int) (D : MiD) (b : Int) (hb : B_X11_isGone D a1 = some b) : MC m_X11_isGone [(42, 0), (0, a1)] (D, Z) ((mi_LI 0 (D, Z)) b) := MC.ofSg (L := (mi_LI 0 (D, Z))) (μ := m_X11_isGone) (args := [(42, 0), (0, a1)]) (M := (D, Z)) rfl wP_X11 (Nat.le_of_ble_eq_true rfl) (show Sg m_X11_isGone 0 [(42, 0), (0, a1)] [] (D, Z) (mi_LI 0 (D, Z)) (B_X11_isGone D a1) from S_X11_isGone hL a1) hb
abbrev m_X11_isIdle : MiI := (yX11_isIdle, cX11_isIdle, 2, (some .boolean), 1, none)
def B_X11_isIdle (D : MiD) (v1 : Int) : Option (Int) := if 0 ≤ v1 ∧ v1 < 7 then (if (D 59 v1 0) ≠ 0 then (some 0) else (some 1)) else none
set_option maxRecDepth 20000 in
theorem S_X11_isIdle {D : MiD} {Z : MiZ} (hL : ML Z) (v1 : Int) : Sg m_X11_isIdle 0 [(42, 0), (0, v1)] [] (D, Z) (mi_LI 0 (D, Z)) (B_X11_isIdle D v1) := by
  unfold B_X11_isIdle
  refine Sg.go (pc' := 1) (mi_aload_n dX11_isIdle_0 rfl) ?_
  refine Sg.go (pc' := 4) (mi_gfA (t := 58) (v := 0) (r := 40) (k := 20) dX11_isIdle_1 hC_40 (by decide) rfl wF_X11_56 (by omega) rfl (hL.1 20 (by decide))) ?_
  refine Sg.go (pc' := 5) (mi_iload_n dX11_isIdle_4 rfl) ?_
  refine Sg.ck (fun hk1 => ?_)
  refine Sg.go (pc' := 6) (mi_aald (n := 7) (t := 59) (v := v1) dX11_isIdle_5 rfl hA_58 rfl (by omega) hk1 rfl (hL.2.2.2.2.2.2.1 _ hk1.1 hk1.2)) ?_
  refine Sg.go (pc' := 7) (mi_iconst (z := 0) dX11_isIdle_6 rfl) ?_
  refine Sg.go (pc' := 8) (mi_iald (n := 7) dX11_isIdle_7 rfl rfl (by omega) (by decide)) ?_
  refine Sg.ite (fun h2 => ?_) (fun h2 => ?_)
  · refine Sg.go (pc' := 15) (mi_ifne_t (tgt := 15) dX11_isIdle_8 (by decide) h2) ?_
    refine Sg.go (pc' := 16) (mi_iconst (z := 0) dX11_isIdle_15 rfl) ?_
    exact Sg.ret (mi_ireturn dX11_isIdle_16 rfl (Or.inr (Or.inl ⟨rfl, Or.inl rfl⟩)))
  · refine Sg.go (pc' := 11) (mi_ifne_f (tgt := 15) dX11_isIdle_8 (by decide) h2) ?_
    refine Sg.go (pc' := 12) (mi_iconst (z := 1) dX11_isIdle_11 rfl) ?_
    refine Sg.go (pc' := 16) (mi_goto (tgt := 16) dX11_isIdle_12 (by decide)) ?_
    exact Sg.ret (mi_ireturn dX11_isIdle_16 rfl (Or.inr (Or.inl ⟨rfl, Or.inr rfl⟩)))
theorem C_X11_isIdle {Z : MiZ} (hL : ML Z) (a1 : Int) (D : MiD) (b : Int) (hb : B_X11_isIdle D a1 = some b) : MC m_X11_isIdle [(42, 0), (0, a1)] (D, Z) ((mi_LI 0 (D, Z)) b) := MC.ofSg (L := (mi_LI 0 (D, Z))) (μ := m_X11_isIdle) (args := [(42, 0), (0, a1)]) (M := (D, Z)) rfl wP_X11 (Nat.le_of_ble_eq_true rfl) (show Sg m_X11_isIdle 0 [(42, 0), (0, a1)] [] (D, Z) (mi_LI 0 (D, Z)) (B_X11_isIdle D a1) from S_X11_isIdle hL a1) hb
abbrev m_X11_isLeft : MiI := (yX11_isLeft, cX11_isLeft, 3, (some .boolean), 1, none)
def B_X11_isLeft (D : MiD) (v1 : Int) (v2 : Int) : Option (Int) := if (D 65 0 1) ≠ v2 then (some 0) else (if 0 ≤ v1 ∧ v1 < 7 then (if (D 59 v1 4) ≠ 0 then (some 0) else (some 1)) else none)
set_option maxRecDepth 20000 in
theorem S_X11_isLeft {D : MiD} {Z : MiZ} (hL : ML Z) (v1 v2 : Int) : Sg m_X11_isLeft 0 [(42, 0), (0, v1), (0, v2)] [] (D, Z) (mi_LI 0 (D, Z)) (B_X11_isLeft D v1 v2) := by
  unfold B_X11_isLeft
  refine Sg.go (pc' := 1) (mi_aload_n dX11_isLeft_0 rfl) ?_
  refine Sg.go (pc' := 4) (mi_gfA (t := 65) (v := 0) (r := 40) (k := 24) dX11_isLeft_1 hC_40 (by decide) rfl wF_X11_69 (by omega) rfl (hL.1 24 (by decide))) ?_
  refine Sg.go (pc' := 5) (mi_iconst (z := 1) dX11_isLeft_4 rfl) ?_
  refine Sg.go (pc' := 6) (mi_iald (n := 8) dX11_isLeft_5 rfl rfl (by omega) (by decide)) ?_
  refine Sg.go (pc' := 7) (mi_iload_n dX11_isLeft_6 rfl) ?_
  refine Sg.ite (fun h1 => ?_) (fun h1 => ?_)
  · refine Sg.go (pc' := 25) (mi_icmpne_t (tgt := 25) dX11_isLeft_7 (by decide) h1) ?_
    refine Sg.go (pc' := 26) (mi_iconst (z := 0) dX11_isLeft_25 rfl) ?_
    exact Sg.ret (mi_ireturn dX11_isLeft_26 rfl (Or.inr (Or.inl ⟨rfl, Or.inl rfl⟩)))
  · refine Sg.go (pc' := 10) (mi_icmpne_f (tgt := 25) dX11_isLeft_7 (by decide) h1) ?_
    refine Sg.go (pc' := 11) (mi_aload_n dX11_isLeft_10 rfl) ?_
    refine Sg.go (pc' := 14) (mi_gfA (t := 58) (v := 0) (r := 40) (k := 20) dX11_isLeft_11 hC_40 (by decide) rfl wF_X11_56 (by omega) rfl (hL.1 20 (by decide))) ?_
    refine Sg.go (pc' := 15) (mi_iload_n dX11_isLeft_14 rfl) ?_
    refine Sg.ck (fun hk2 => ?_)
    refine Sg.go (pc' := 16) (mi_aald (n := 7) (t := 59) (v := v1) dX11_isLeft_15 rfl hA_58 rfl (by omega) hk2 rfl (hL.2.2.2.2.2.2.1 _ hk2.1 hk2.2)) ?_
    refine Sg.go (pc' := 17) (mi_iconst (z := 4) dX11_isLeft_16 rfl) ?_
    refine Sg.go (pc' := 18) (mi_iald (n := 7) dX11_isLeft_17 rfl rfl (by omega) (by decide)) ?_
    refine Sg.ite (fun h3 => ?_) (fun h3 => ?_)
    · refine Sg.go (pc' := 25) (mi_ifne_t (tgt := 25) dX11_isLeft_18 (by decide) h3) ?_
      refine Sg.go (pc' := 26) (mi_iconst (z := 0) dX11_isLeft_25 rfl) ?_
      exact Sg.ret (mi_ireturn dX11_isLeft_26 rfl (Or.inr (Or.inl ⟨rfl, Or.inl rfl⟩)))
    · refine Sg.go (pc' := 21) (mi_ifne_f (tgt := 25) dX11_isLeft_18 (by decide) h3) ?_
      refine Sg.go (pc' := 22) (mi_iconst (z := 1) dX11_isLeft_21 rfl) ?_
      refine Sg.go (pc' := 26) (mi_goto (tgt := 26) dX11_isLeft_22 (by decide)) ?_
      exact Sg.ret (mi_ireturn dX11_isLeft_26 rfl (Or.inr (Or.inl ⟨rfl, Or.inr rfl⟩)))
theorem C_X11_isLeft {Z : MiZ} (hL : ML Z) (a1 a2 : Int) (D : MiD) (b : Int) (hb : B_X11_isLeft D a1 a2 = some b) : MC m_X11_isLeft [(42, 0), (0, a1), (0, a2)] (D, Z) ((mi_LI 0 (D, Z)) b) := MC.ofSg (L := (mi_LI 0 (D, Z))) (μ := m_X11_isLeft) (args := [(42, 0), (0, a1), (0, a2)]) (M := (D, Z)) rfl wP_X11 (Nat.le_of_ble_eq_true rfl) (show Sg m_X11_isLeft 0 [(42, 0), (0, a1), (0, a2)] [] (D, Z) (mi_LI 0 (D, Z)) (B_X11_isLeft D a1 a2) from S_X11_isLeft hL a1 a2) hb
abbrev m_X11_isNought : MiI := (yX11_isNought, cX11_isNought, 2, (some .boolean), 1, none)
def B_X11_isNought_36 (D : MiD) : Option (Int) := some 1
set_option maxRecDepth 20000 in
theorem S_X11_isNought_36 {D : MiD} {Z : MiZ} (hL : ML Z) : Sg m_X11_isNought 36 [mi_un, mi_un] [] (D, Z) (mi_LI 0 (D, Z)) (B_X11_isNought_36 D) := by
  unfold B_X11_isNought_36
  refine Sg.go (pc' := 37) (mi_iconst (z := 1) dX11_isNought_36 rfl) ?_
  refine Sg.go (pc' := 41) (mi_goto (tgt := 41) dX11_isNought_37 (by decide)) ?_
  exact Sg.ret (mi_ireturn dX11_isNought_41 rfl (Or.inr (Or.inl ⟨rfl, Or.inr rfl⟩)))
def B_X11_isNought (D : MiD) (v1 : Int) : Option (Int) := if 0 ≤ v1 ∧ v1 < 7 then (if (D 59 v1 2) = (-1) then (B_X11_isNought_36 D) else (if (D 59 v1 2) = 8 then (some 0) else (if (mi_cmp (D 60 0 v1) 0) ≠ 0 then (some 0) else (B_X11_isNought_36 D)))) else none
set_option maxRecDepth 20000 in
theorem S_X11_isNought {D : MiD} {Z : MiZ} (hL : ML Z) (v1 : Int) : Sg m_X11_isNought 0 [(42, 0), (0, v1)] [] (D, Z) (mi_LI 0 (D, Z)) (B_X11_isNought D v1) := by
  unfold B_X11_isNought
  refine Sg.go (pc' := 1) (mi_aload_n dX11_isNought_0 rfl) ?_
  refine Sg.go (pc' := 4) (mi_gfA (t := 58) (v := 0) (r := 40) (k := 20) dX11_isNought_1 hC_40 (by decide) rfl wF_X11_56 (by omega) rfl (hL.1 20 (by decide))) ?_
  refine Sg.go (pc' := 5) (mi_iload_n dX11_isNought_4 rfl) ?_
  refine Sg.ck (fun hk1 => ?_)
  refine Sg.go (pc' := 6) (mi_aald (n := 7) (t := 59) (v := v1) dX11_isNought_5 rfl hA_58 rfl (by omega) hk1 rfl (hL.2.2.2.2.2.2.1 _ hk1.1 hk1.2)) ?_
  refine Sg.go (pc' := 7) (mi_iconst (z := 2) dX11_isNought_6 rfl) ?_
  refine Sg.go (pc' := 8) (mi_iald (n := 7) dX11_isNought_7 rfl rfl (by omega) (by decide)) ?_
  refine Sg.go (pc' := 9) (mi_iconst (z := (-1)) dX11_isNought_8 rfl) ?_
  refine Sg.ite (fun h2 => ?_) (fun h2 => ?_)
  · refine Sg.go (pc' := 36) (mi_icmpeq_t (tgt := 36) dX11_isNought_9 (by decide) h2) ?_
    refine Sg.go (pc' := 36) (MiStep.weak (ls' := [mi_un, mi_un]) (mi_wk_n (mi_wk_n mi_wk_0))) ?_
    exact S_X11_isNought_36 hL
  · refine Sg.go (pc' := 12) (mi_icmpeq_f (tgt := 36) dX11_isNought_9 (by decide) h2) ?_
    refine Sg.go (pc' := 13) (mi_aload_n dX11_isNought_12 rfl) ?_
    refine Sg.go (pc' := 16) (mi_gfA (t := 58) (v := 0) (r := 40) (k := 20) dX11_isNought_13 hC_40 (by decide) rfl wF_X11_56 (by omega) rfl (hL.1 20 (by decide))) ?_
    refine Sg.go (pc' := 17) (mi_iload_n dX11_isNought_16 rfl) ?_
    refine Sg.go (pc' := 18) (mi_aald (n := 7) (t := 59) (v := v1) dX11_isNought_17 rfl hA_58 rfl (by omega) hk1 rfl (hL.2.2.2.2.2.2.1 _ hk1.1 hk1.2)) ?_
    refine Sg.go (pc' := 19) (mi_iconst (z := 2) dX11_isNought_18 rfl) ?_
    refine Sg.go (pc' := 20) (mi_iald (n := 7) dX11_isNought_19 rfl rfl (by omega) (by decide)) ?_
    refine Sg.go (pc' := 22) (mi_bipush (z := 8) dX11_isNought_20 rfl) ?_
    refine Sg.ite (fun h3 => ?_) (fun h3 => ?_)
    · refine Sg.go (pc' := 40) (mi_icmpeq_t (tgt := 40) dX11_isNought_22 (by decide) h3) ?_
      refine Sg.go (pc' := 41) (mi_iconst (z := 0) dX11_isNought_40 rfl) ?_
      exact Sg.ret (mi_ireturn dX11_isNought_41 rfl (Or.inr (Or.inl ⟨rfl, Or.inl rfl⟩)))
    · refine Sg.go (pc' := 25) (mi_icmpeq_f (tgt := 40) dX11_isNought_22 (by decide) h3) ?_
      refine Sg.go (pc' := 26) (mi_aload_n dX11_isNought_25 rfl) ?_
      refine Sg.go (pc' := 29) (mi_gfA (t := 60) (v := 0) (r := 40) (k := 21) dX11_isNought_26 hC_40 (by decide) rfl wF_X11_59 (by omega) rfl (hL.1 21 (by decide))) ?_
      refine Sg.go (pc' := 30) (mi_iload_n dX11_isNought_29 rfl) ?_
      refine Sg.go (pc' := 31) (mi_lald (n := 7) dX11_isNought_30 rfl rfl (by omega) hk1) ?_
      refine Sg.go (pc' := 32) (mi_lconst (z := 0) dX11_isNought_31 rfl) ?_
      refine Sg.go (pc' := 33) (mi_lcmp dX11_isNought_32) ?_
      refine Sg.ite (fun h4 => ?_) (fun h4 => ?_)
      · refine Sg.go (pc' := 40) (mi_ifne_t (tgt := 40) dX11_isNought_33 (by decide) h4) ?_
        refine Sg.go (pc' := 41) (mi_iconst (z := 0) dX11_isNought_40 rfl) ?_
        exact Sg.ret (mi_ireturn dX11_isNought_41 rfl (Or.inr (Or.inl ⟨rfl, Or.inl rfl⟩)))
      · refine Sg.go (pc' := 36) (mi_ifne_f (tgt := 40) dX11_isNought_33 (by decide) h4) ?_
        refine Sg.go (pc' := 36) (MiStep.weak (ls' := [mi_un, mi_un]) (mi_wk_n (mi_wk_n mi_wk_0))) ?_
        exact S_X11_isNought_36 hL
theorem C_X11_isNought {Z : MiZ} (hL : ML Z) (a1 : Int) (D : MiD) (b : Int) (hb : B_X11_isNought D a1 = some b) : MC m_X11_isNought [(42, 0), (0, a1)] (D, Z) ((mi_LI 0 (D, Z)) b) := MC.ofSg (L := (mi_LI 0 (D, Z))) (μ := m_X11_isNought) (args := [(42, 0), (0, a1)]) (M := (D, Z)) rfl wP_X11 (Nat.le_of_ble_eq_true rfl) (show Sg m_X11_isNought 0 [(42, 0), (0, a1)] [] (D, Z) (mi_LI 0 (D, Z)) (B_X11_isNought D a1) from S_X11_isNought hL a1) hb
abbrev m_X11_isQuarters : MiI := (yX11_isQuarters, cX11_isQuarters, 1, (some .boolean), 1, none)
def B_X11_isQuarters_12 : Int := 1
set_option maxRecDepth 20000 in
theorem S_X11_isQuarters_12 {D : MiD} {Z : MiZ} (hL : ML Z) : Sg m_X11_isQuarters 12 [mi_un] [] (D, Z) (mi_LI 0 (D, Z)) (some (B_X11_isQuarters_12)) := by
  unfold B_X11_isQuarters_12
  refine Sg.go (pc' := 13) (mi_iconst (z := 1) dX11_isQuarters_12 rfl) ?_
  refine Sg.go (pc' := 17) (mi_goto (tgt := 17) dX11_isQuarters_13 (by decide)) ?_
  exact Sg.ret (mi_ireturn dX11_isQuarters_17 rfl (Or.inr (Or.inl ⟨rfl, Or.inr rfl⟩)))
def B_X11_isQuarters (v0 : Int) : Int := if v0 = 6 then B_X11_isQuarters_12 else (if v0 ≠ 7 then 0 else B_X11_isQuarters_12)
set_option maxRecDepth 20000 in
theorem S_X11_isQuarters {D : MiD} {Z : MiZ} (hL : ML Z) (v0 : Int) : Sg m_X11_isQuarters 0 [(0, v0)] [] (D, Z) (mi_LI 0 (D, Z)) (some (B_X11_isQuarters v0)) := by
  unfold B_X11_isQuarters
  refine Sg.go (pc' := 1) (mi_iload_n dX11_isQuarters_0 rfl) ?_
  refine Sg.go (pc' := 3) (mi_bipush (z := 6) dX11_isQuarters_1 rfl) ?_
  refine Sg.iteS (fun h1 => ?_) (fun h1 => ?_)
  · refine Sg.go (pc' := 12) (mi_icmpeq_t (tgt := 12) dX11_isQuarters_3 (by decide) h1) ?_
    refine Sg.go (pc' := 12) (MiStep.weak (ls' := [mi_un]) (mi_wk_n mi_wk_0)) ?_
    exact S_X11_isQuarters_12 hL
  · refine Sg.go (pc' := 6) (mi_icmpeq_f (tgt := 12) dX11_isQuarters_3 (by decide) h1) ?_
    refine Sg.go (pc' := 7) (mi_iload_n dX11_isQuarters_6 rfl) ?_
    refine Sg.go (pc' := 9) (mi_bipush (z := 7) dX11_isQuarters_7 rfl) ?_
    refine Sg.iteS (fun h2 => ?_) (fun h2 => ?_)
    · refine Sg.go (pc' := 16) (mi_icmpne_t (tgt := 16) dX11_isQuarters_9 (by decide) h2) ?_
      refine Sg.go (pc' := 17) (mi_iconst (z := 0) dX11_isQuarters_16 rfl) ?_
      exact Sg.ret (mi_ireturn dX11_isQuarters_17 rfl (Or.inr (Or.inl ⟨rfl, Or.inl rfl⟩)))
    · refine Sg.go (pc' := 12) (mi_icmpne_f (tgt := 16) dX11_isQuarters_9 (by decide) h2) ?_
      refine Sg.go (pc' := 12) (MiStep.weak (ls' := [mi_un]) (mi_wk_n mi_wk_0)) ?_
      exact S_X11_isQuarters_12 hL
theorem C_X11_isQuarters {Z : MiZ} (hL : ML Z) (a0 : Int) (D : MiD) : MC m_X11_isQuarters [(0, a0)] (D, Z) (mi_LI 0 (D, Z) (B_X11_isQuarters a0)) := MC.ofSg (L := (mi_LI 0 (D, Z))) (μ := m_X11_isQuarters) (args := [(0, a0)]) (M := (D, Z)) rfl wP_X11 (Nat.le_of_ble_eq_true rfl) (show Sg m_X11_isQuarters 0 [(0, a0)] [] (D, Z) (mi_LI 0 (D, Z)) (some (B_X11_isQuarters a0)) from S_X11_isQuarters hL a0) rfl
theorem Z_X11_isQuarters_12 : B_X11_isQuarters_12 = 0 ∨ B_X11_isQuarters_12 = 1 := by
  unfold B_X11_isQuarters_12
  repeat' split
  all_goals first | exact Or.inl rfl | exact Or.inr rfl | exact Z_X11_in | exact Z_X11_isBit | exact Z_X11_isDigit
theorem Z_X11_isQuarters {v0 : Int} : B_X11_isQuarters v0 = 0 ∨ B_X11_isQuarters v0 = 1 := by
  unfold B_X11_isQuarters
  repeat' split
  all_goals first | exact Or.inl rfl | exact Or.inr rfl | exact Z_X11_isQuarters_12 | exact Z_X11_in | exact Z_X11_isBit | exact Z_X11_isDigit
abbrev m_X11_isSmall : MiI := (yX11_isSmall, cX11_isSmall, 1, (some .boolean), 1, none)
def B_X11_isSmall (v0 : Int) : Int := if v0 < 97 then 0 else (if 122 < v0 then 0 else 1)
set_option maxRecDepth 20000 in
theorem S_X11_isSmall {D : MiD} {Z : MiZ} (hL : ML Z) (v0 : Int) : Sg m_X11_isSmall 0 [(0, v0)] [] (D, Z) (mi_LI 0 (D, Z)) (some (B_X11_isSmall v0)) := by
  unfold B_X11_isSmall
  refine Sg.go (pc' := 1) (mi_iload_n dX11_isSmall_0 rfl) ?_
  refine Sg.go (pc' := 3) (mi_bipush (z := 97) dX11_isSmall_1 rfl) ?_
  refine Sg.iteS (fun h1 => ?_) (fun h1 => ?_)
  · refine Sg.go (pc' := 16) (mi_icmplt_t (tgt := 16) dX11_isSmall_3 (by decide) h1) ?_
    refine Sg.go (pc' := 17) (mi_iconst (z := 0) dX11_isSmall_16 rfl) ?_
    exact Sg.ret (mi_ireturn dX11_isSmall_17 rfl (Or.inr (Or.inl ⟨rfl, Or.inl rfl⟩)))
  · refine Sg.go (pc' := 6) (mi_icmplt_f (tgt := 16) dX11_isSmall_3 (by decide) h1) ?_
    refine Sg.go (pc' := 7) (mi_iload_n dX11_isSmall_6 rfl) ?_
    refine Sg.go (pc' := 9) (mi_bipush (z := 122) dX11_isSmall_7 rfl) ?_
    refine Sg.iteS (fun h2 => ?_) (fun h2 => ?_)
    · refine Sg.go (pc' := 16) (mi_icmpgt_t (tgt := 16) dX11_isSmall_9 (by decide) h2) ?_
      refine Sg.go (pc' := 17) (mi_iconst (z := 0) dX11_isSmall_16 rfl) ?_
      exact Sg.ret (mi_ireturn dX11_isSmall_17 rfl (Or.inr (Or.inl ⟨rfl, Or.inl rfl⟩)))
    · refine Sg.go (pc' := 12) (mi_icmpgt_f (tgt := 16) dX11_isSmall_9 (by decide) h2) ?_
      refine Sg.go (pc' := 13) (mi_iconst (z := 1) dX11_isSmall_12 rfl) ?_
      refine Sg.go (pc' := 17) (mi_goto (tgt := 17) dX11_isSmall_13 (by decide)) ?_
      exact Sg.ret (mi_ireturn dX11_isSmall_17 rfl (Or.inr (Or.inl ⟨rfl, Or.inr rfl⟩)))
theorem C_X11_isSmall {Z : MiZ} (hL : ML Z) (a0 : Int) (D : MiD) : MC m_X11_isSmall [(0, a0)] (D, Z) (mi_LI 0 (D, Z) (B_X11_isSmall a0)) := MC.ofSg (L := (mi_LI 0 (D, Z))) (μ := m_X11_isSmall) (args := [(0, a0)]) (M := (D, Z)) rfl wP_X11 (Nat.le_of_ble_eq_true rfl) (show Sg m_X11_isSmall 0 [(0, a0)] [] (D, Z) (mi_LI 0 (D, Z)) (some (B_X11_isSmall a0)) from S_X11_isSmall hL a0) rfl
theorem Z_X11_isSmall {v0 : Int} : B_X11_isSmall v0 = 0 ∨ B_X11_isSmall v0 = 1 := by
  unfold B_X11_isSmall
  repeat' split
  all_goals first | exact Or.inl rfl | exact Or.inr rfl | exact Z_X11_in | exact Z_X11_isBit | exact Z_X11_isDigit | exact Z_X11_isQuarters
abbrev m_X11_isStacked : MiI := (yX11_isStacked, cX11_isStacked, 3, (some .boolean), 1, none)
def B_X11_isStacked_2 (D : MiD) : Nat → Int → Int → Option (Int)
  | 0, _, _ => none
  | f + 1, v1, v2 => if (D 65 0 0) ≤ v2 then (some 0) else (if 0 ≤ v2 ∧ v2 < 8 then (if (D 64 0 v2) ≠ v1 then (B_X11_isStacked_2 D f v1 (mi_w (v2 + 1))) else (some 1)) else none)
set_option maxRecDepth 20000 in
theorem S_X11_isStacked_2 {D : MiD} {Z : MiZ} (hL : ML Z) : ∀ (f : Nat) (v1 v2 : Int), Sg m_X11_isStacked 2 [(42, 0), (0, v1), (0, v2)] [] (D, Z) (mi_LI 0 (D, Z)) (B_X11_isStacked_2 D f v1 v2) := by
  intro f
  induction f with
  | zero => intros; exact Sg.nope
  | succ f K2 =>
    intro v1 v2
    show Sg m_X11_isStacked 2 [(42, 0), (0, v1), (0, v2)] [] (D, Z) (mi_LI 0 (D, Z)) (if (D 65 0 0) ≤ v2 then (some 0) else (if 0 ≤ v2 ∧ v2 < 8 then (if (D 64 0 v2) ≠ v1 then (B_X11_isStacked_2 D f v1 (mi_w (v2 + 1))) else (some 1)) else none))
    refine Sg.go (pc' := 3) (mi_iload_n dX11_isStacked_2 rfl) ?_
    refine Sg.go (pc' := 4) (mi_aload_n dX11_isStacked_3 rfl) ?_
    refine Sg.go (pc' := 7) (mi_gfA (t := 65) (v := 0) (r := 40) (k := 24) dX11_isStacked_4 hC_40 (by decide) rfl wF_X11_69 (by omega) rfl (hL.1 24 (by decide))) ?_
    refine Sg.go (pc' := 8) (mi_iconst (z := 0) dX11_isStacked_7 rfl) ?_
    refine Sg.go (pc' := 9) (mi_iald (n := 8) dX11_isStacked_8 rfl rfl (by omega) (by decide)) ?_
    refine Sg.ite (fun h1 => ?_) (fun h1 => ?_)
    · refine Sg.go (pc' := 30) (mi_icmpge_t (tgt := 30) dX11_isStacked_9 (by decide) h1) ?_
      refine Sg.go (pc' := 31) (mi_iconst (z := 0) dX11_isStacked_30 rfl) ?_
      exact Sg.ret (mi_ireturn dX11_isStacked_31 rfl (Or.inr (Or.inl ⟨rfl, Or.inl rfl⟩)))
    · refine Sg.go (pc' := 12) (mi_icmpge_f (tgt := 30) dX11_isStacked_9 (by decide) h1) ?_
      refine Sg.go (pc' := 13) (mi_aload_n dX11_isStacked_12 rfl) ?_
      refine Sg.go (pc' := 16) (mi_gfA (t := 64) (v := 0) (r := 40) (k := 23) dX11_isStacked_13 hC_40 (by decide) rfl wF_X11_66 (by omega) rfl (hL.1 23 (by decide))) ?_
      refine Sg.go (pc' := 17) (mi_iload_n dX11_isStacked_16 rfl) ?_
      refine Sg.ck (fun hk2 => ?_)
      refine Sg.go (pc' := 18) (mi_iald (n := 8) dX11_isStacked_17 rfl rfl (by omega) hk2) ?_
      refine Sg.go (pc' := 19) (mi_iload_n dX11_isStacked_18 rfl) ?_
      refine Sg.ite (fun h3 => ?_) (fun h3 => ?_)
      · refine Sg.go (pc' := 24) (mi_icmpne_t (tgt := 24) dX11_isStacked_19 (by decide) h3) ?_
        refine Sg.go (pc' := 27) (mi_iinc (z := 1) (ls1 := [(42, 0), (0, v1), (0, (mi_w (v2 + 1)))]) dX11_isStacked_24 (by decide) rfl rfl rfl) ?_
        refine Sg.go (pc' := 2) (mi_goto (tgt := 2) dX11_isStacked_27 (by decide)) ?_
        exact K2 v1 (mi_w (v2 + 1))
      · refine Sg.go (pc' := 22) (mi_icmpne_f (tgt := 24) dX11_isStacked_19 (by decide) h3) ?_
        refine Sg.go (pc' := 23) (mi_iconst (z := 1) dX11_isStacked_22 rfl) ?_
        exact Sg.ret (mi_ireturn dX11_isStacked_23 rfl (Or.inr (Or.inl ⟨rfl, Or.inr rfl⟩)))
def B_X11_isStacked (D : MiD) (v1 : Int) : Option (Int) := B_X11_isStacked_2 D mi_fuel v1 0
set_option maxRecDepth 20000 in
theorem S_X11_isStacked {D : MiD} {Z : MiZ} (hL : ML Z) (v1 : Int) : Sg m_X11_isStacked 0 [(42, 0), (0, v1), mi_un] [] (D, Z) (mi_LI 0 (D, Z)) (B_X11_isStacked D v1) := by
  unfold B_X11_isStacked
  refine Sg.go (pc' := 1) (mi_iconst (z := 0) dX11_isStacked_0 rfl) ?_
  refine Sg.go (pc' := 2) (mi_istore_n (ls1 := [(42, 0), (0, v1), (0, 0)]) dX11_isStacked_1 (by decide) rfl) ?_
  exact S_X11_isStacked_2 hL mi_fuel v1 0
theorem C_X11_isStacked {Z : MiZ} (hL : ML Z) (a1 : Int) (D : MiD) (b : Int) (hb : B_X11_isStacked D a1 = some b) : MC m_X11_isStacked [(42, 0), (0, a1)] (D, Z) ((mi_LI 0 (D, Z)) b) := MC.ofSg (L := (mi_LI 0 (D, Z))) (μ := m_X11_isStacked) (args := [(42, 0), (0, a1)]) (M := (D, Z)) rfl wP_X11 (Nat.le_of_ble_eq_true rfl) (show Sg m_X11_isStacked 0 [(42, 0), (0, a1), mi_un] [] (D, Z) (mi_LI 0 (D, Z)) (B_X11_isStacked D a1) from S_X11_isStacked hL a1) hb
abbrev m_X11_laysLong_r57 : MiI := (yX11_laysLong, cX11_laysLong, 5, none, 1, none)
def B_X11_laysLong_r57 (v1 : Int) (v2 : Int) (v3 : Int) (v4 : Int) (D : MiD) : Option (MiD) := if v4 = 0 then (if 0 ≤ v2 ∧ v2 < 9 then (if 0 ≤ v3 ∧ v3 < 547 then (mi_let (mi_st D 67 0 v3 (D 57 v1 v2)) fun D4 => some D4) else none) else none) else (if 0 ≤ v3 ∧ v3 < 547 then (if 0 ≤ v2 ∧ v2 < 9 then (mi_let (mi_st D 57 v1 v2 (D 67 0 v3)) fun D7 => some D7) else none) else none)
set_option maxRecDepth 20000 in
theorem S_X11_laysLong_r57 {Z : MiZ} (hL : ML Z) (v1 v2 v3 v4 : Int) (D : MiD) : (0 ≤ v1 ∧ v1 < 61) → (v4 = 0 ∨ v4 = 1) → Sg m_X11_laysLong_r57 0 [(42, 0), (59, v1), (0, v2), (0, v3), (0, v4)] [] (D, Z) (mi_LV Z) (B_X11_laysLong_r57 v1 v2 v3 v4 D) := by
  intro hb1 hb4
  unfold B_X11_laysLong_r57
  refine Sg.go (pc' := 2) (mi_iload dX11_laysLong_0 rfl) ?_
  refine Sg.ite (fun h1 => ?_) (fun h1 => ?_)
  · refine Sg.go (pc' := 17) (mi_ifeq_t (tgt := 17) dX11_laysLong_2 (by decide) h1) ?_
    refine Sg.go (pc' := 18) (mi_aload_n dX11_laysLong_17 rfl) ?_
    refine Sg.go (pc' := 21) (mi_gfA (t := 67) (v := 0) (r := 40) (k := 28) dX11_laysLong_18 hC_40 (by decide) rfl wF_X11_75 (by omega) rfl (hL.1 28 (by decide))) ?_
    refine Sg.go (pc' := 22) (mi_iload_n dX11_laysLong_21 rfl) ?_
    refine Sg.go (pc' := 23) (mi_aload_n dX11_laysLong_22 rfl) ?_
    refine Sg.go (pc' := 24) (mi_iload_n dX11_laysLong_23 rfl) ?_
    refine Sg.ck (fun hk2 => ?_)
    refine Sg.go (pc' := 25) (mi_lald (n := 9) dX11_laysLong_24 rfl rfl (by omega) hk2) ?_
    refine Sg.ck (fun hk3 => ?_)
    refine Sg.goM (pc' := 26) (mi_last (n := 547) dX11_laysLong_25 rfl rfl (by omega) hk3) ?_
    refine Sg.letD (fun D4 hD4 => ?_)
    exact Sg.ret (mi_return dX11_laysLong_26 rfl (0, 0))
  · refine Sg.go (pc' := 5) (mi_ifeq_f (tgt := 17) dX11_laysLong_2 (by decide) h1) ?_
    refine Sg.go (pc' := 6) (mi_aload_n dX11_laysLong_5 rfl) ?_
    refine Sg.go (pc' := 7) (mi_iload_n dX11_laysLong_6 rfl) ?_
    refine Sg.go (pc' := 8) (mi_aload_n dX11_laysLong_7 rfl) ?_
    refine Sg.go (pc' := 11) (mi_gfA (t := 67) (v := 0) (r := 40) (k := 28) dX11_laysLong_8 hC_40 (by decide) rfl wF_X11_75 (by omega) rfl (hL.1 28 (by decide))) ?_
    refine Sg.go (pc' := 12) (mi_iload_n dX11_laysLong_11 rfl) ?_
    refine Sg.ck (fun hk5 => ?_)
    refine Sg.go (pc' := 13) (mi_lald (n := 547) dX11_laysLong_12 rfl rfl (by omega) hk5) ?_
    refine Sg.ck (fun hk6 => ?_)
    refine Sg.goM (pc' := 14) (mi_last (n := 9) dX11_laysLong_13 rfl rfl (by omega) hk6) ?_
    refine Sg.letD (fun D7 hD7 => ?_)
    refine Sg.go (pc' := 26) (mi_goto (tgt := 26) dX11_laysLong_14 (by decide)) ?_
    exact Sg.ret (mi_return dX11_laysLong_26 rfl (0, 0))
theorem C_X11_laysLong_r57 {Z : MiZ} (hL : ML Z) (a1 a2 a3 a4 : Int) (D : MiD) (h0 : (0 ≤ a1 ∧ a1 < 61)) (h1 : (a4 = 0 ∨ a4 = 1)) (b : MiD) (hb : B_X11_laysLong_r57 a1 a2 a3 a4 D = some b) : MC m_X11_laysLong_r57 [(42, 0), (59, a1), (0, a2), (0, a3), (0, a4)] (D, Z) ((mi_LV Z) b) := MC.ofSg (L := (mi_LV Z)) (μ := m_X11_laysLong_r57) (args := [(42, 0), (59, a1), (0, a2), (0, a3), (0, a4)]) (M := (D, Z)) rfl wP_X11 (Nat.le_of_ble_eq_true rfl) (show Sg m_X11_laysLong_r57 0 [(42, 0), (59, a1), (0, a2), (0, a3), (0, a4)] [] (D, Z) (mi_LV Z) (B_X11_laysLong_r57 a1 a2 a3 a4 D) from S_X11_laysLong_r57 hL a1 a2 a3 a4 D h0 h1) hb
abbrev m_X11_laysLong_r60 : MiI := (yX11_laysLong, cX11_laysLong, 5, none, 1, none)
def B_X11_laysLong_r60 (v2 : Int) (v3 : Int) (v4 : Int) (D : MiD) : Option (MiD) := if v4 = 0 then (if 0 ≤ v2 ∧ v2 < 7 then (if 0 ≤ v3 ∧ v3 < 547 then (mi_let (mi_st D 67 0 v3 (D 60 0 v2)) fun D4 => some D4) else none) else none) else (if 0 ≤ v3 ∧ v3 < 547 then (if 0 ≤ v2 ∧ v2 < 7 then (mi_let (mi_st D 60 0 v2 (D 67 0 v3)) fun D7 => some D7) else none) else none)
set_option maxRecDepth 20000 in
theorem S_X11_laysLong_r60 {Z : MiZ} (hL : ML Z) (v2 v3 v4 : Int) (D : MiD) : (v4 = 0 ∨ v4 = 1) → Sg m_X11_laysLong_r60 0 [(42, 0), (62, 0), (0, v2), (0, v3), (0, v4)] [] (D, Z) (mi_LV Z) (B_X11_laysLong_r60 v2 v3 v4 D) := by
  intro hb4
  unfold B_X11_laysLong_r60
  refine Sg.go (pc' := 2) (mi_iload dX11_laysLong_0 rfl) ?_
  refine Sg.ite (fun h1 => ?_) (fun h1 => ?_)
  · refine Sg.go (pc' := 17) (mi_ifeq_t (tgt := 17) dX11_laysLong_2 (by decide) h1) ?_
    refine Sg.go (pc' := 18) (mi_aload_n dX11_laysLong_17 rfl) ?_
    refine Sg.go (pc' := 21) (mi_gfA (t := 67) (v := 0) (r := 40) (k := 28) dX11_laysLong_18 hC_40 (by decide) rfl wF_X11_75 (by omega) rfl (hL.1 28 (by decide))) ?_
    refine Sg.go (pc' := 22) (mi_iload_n dX11_laysLong_21 rfl) ?_
    refine Sg.go (pc' := 23) (mi_aload_n dX11_laysLong_22 rfl) ?_
    refine Sg.go (pc' := 24) (mi_iload_n dX11_laysLong_23 rfl) ?_
    refine Sg.ck (fun hk2 => ?_)
    refine Sg.go (pc' := 25) (mi_lald (n := 7) dX11_laysLong_24 rfl rfl (by omega) hk2) ?_
    refine Sg.ck (fun hk3 => ?_)
    refine Sg.goM (pc' := 26) (mi_last (n := 547) dX11_laysLong_25 rfl rfl (by omega) hk3) ?_
    refine Sg.letD (fun D4 hD4 => ?_)
    exact Sg.ret (mi_return dX11_laysLong_26 rfl (0, 0))
  · refine Sg.go (pc' := 5) (mi_ifeq_f (tgt := 17) dX11_laysLong_2 (by decide) h1) ?_
    refine Sg.go (pc' := 6) (mi_aload_n dX11_laysLong_5 rfl) ?_
    refine Sg.go (pc' := 7) (mi_iload_n dX11_laysLong_6 rfl) ?_
    refine Sg.go (pc' := 8) (mi_aload_n dX11_laysLong_7 rfl) ?_
    refine Sg.go (pc' := 11) (mi_gfA (t := 67) (v := 0) (r := 40) (k := 28) dX11_laysLong_8 hC_40 (by decide) rfl wF_X11_75 (by omega) rfl (hL.1 28 (by decide))) ?_
    refine Sg.go (pc' := 12) (mi_iload_n dX11_laysLong_11 rfl) ?_
    refine Sg.ck (fun hk5 => ?_)
    refine Sg.go (pc' := 13) (mi_lald (n := 547) dX11_laysLong_12 rfl rfl (by omega) hk5) ?_
    refine Sg.ck (fun hk6 => ?_)
    refine Sg.goM (pc' := 14) (mi_last (n := 7) dX11_laysLong_13 rfl rfl (by omega) hk6) ?_
    refine Sg.letD (fun D7 hD7 => ?_)
    refine Sg.go (pc' := 26) (mi_goto (tgt := 26) dX11_laysLong_14 (by decide)) ?_
    exact Sg.ret (mi_return dX11_laysLong_26 rfl (0, 0))
theorem C_X11_laysLong_r60 {Z : MiZ} (hL : ML Z) (a2 a3 a4 : Int) (D : MiD) (h0 : (a4 = 0 ∨ a4 = 1)) (b : MiD) (hb : B_X11_laysLong_r60 a2 a3 a4 D = some b) : MC m_X11_laysLong_r60 [(42, 0), (62, 0), (0, a2), (0, a3), (0, a4)] (D, Z) ((mi_LV Z) b) := MC.ofSg (L := (mi_LV Z)) (μ := m_X11_laysLong_r60) (args := [(42, 0), (62, 0), (0, a2), (0, a3), (0, a4)]) (M := (D, Z)) rfl wP_X11 (Nat.le_of_ble_eq_true rfl) (show Sg m_X11_laysLong_r60 0 [(42, 0), (62, 0), (0, a2), (0, a3), (0, a4)] [] (D, Z) (mi_LV Z) (B_X11_laysLong_r60 a2 a3 a4 D) from S_X11_laysLong_r60 hL a2 a3 a4 D h0) hb
abbrev m_X11_lays_r52 : MiI := (yX11_lays, cX11_lays, 4, none, 1, none)
def B_X11_lays_r52_39 (k2 : Int → Int → MiD → Option (MiD)) (v2 : Int) (v3 : Int) (D : MiD) : Option (MiD) := mi_let (mi_st D 40 0 29 (mi_w ((D 40 0 29) + 1))) fun D1 => k2 v2 (mi_w (v3 + 1)) D1
set_option maxRecDepth 20000 in
theorem S_X11_lays_r52_39 {Z : MiZ} (hL : ML Z) {k2 : Int → Int → MiD → Option (MiD)} (K2 : ∀ (v2 v3 : Int) (D : MiD), (v2 = 0 ∨ v2 = 1) → Sg m_X11_lays_r52 2 [(42, 0), (54, 0), (0, v2), (0, v3)] [] (D, Z) (mi_LV Z) (k2 v2 v3 D)) (v2 v3 : Int) (D : MiD) : (v2 = 0 ∨ v2 = 1) → Sg m_X11_lays_r52 39 [(42, 0), (54, 0), (0, v2), (0, v3)] [] (D, Z) (mi_LV Z) (B_X11_lays_r52_39 k2 v2 v3 D) := by
  intro hb2
  unfold B_X11_lays_r52_39
  refine Sg.go (pc' := 40) (mi_aload_n dX11_lays_39 rfl) ?_
  refine Sg.go (pc' := 41) (mi_dup dX11_lays_40 (show (42 : Nat) ≠ 1 by decide)) ?_
  refine Sg.go (pc' := 44) (mi_gfI (r := 40) (k := 29) dX11_lays_41 hC_40 (by decide) rfl wF_X11_426 (by omega) rfl) ?_
  refine Sg.go (pc' := 45) (mi_iconst (z := 1) dX11_lays_44 rfl) ?_
  refine Sg.go (pc' := 46) (mi_iadd dX11_lays_45) ?_
  refine Sg.goM (pc' := 49) (mi_pfD (r := 40) (k := 29) (t := 0) dX11_lays_46 hC_40 (by decide) rfl rfl wF_X11_426 (by omega) rfl (by decide) (Or.inl ⟨rfl, rfl⟩)) ?_
  refine Sg.letD (fun D1 hD1 => ?_)
  refine Sg.go (pc' := 52) (mi_iinc (z := 1) (ls1 := [(42, 0), (54, 0), (0, v2), (0, (mi_w (v3 + 1)))]) dX11_lays_49 (by decide) rfl rfl rfl) ?_
  refine Sg.go (pc' := 2) (mi_goto (tgt := 2) dX11_lays_52 (by decide)) ?_
  exact K2 v2 (mi_w (v3 + 1)) D1 hb2
def B_X11_lays_r52_2 : Nat → Int → Int → MiD → Option (MiD)
  | 0, _, _, _ => none
  | f + 1, v2, v3, D => if 61 ≤ v3 then (some D) else (if v2 = 0 then (if 0 ≤ v3 ∧ v3 < 61 then (if 0 ≤ (D 40 0 29) ∧ (D 40 0 29) < 2000 then (mi_let (mi_st D 66 0 (D 40 0 29) (D 52 0 v3)) fun D5 => B_X11_lays_r52_39 (B_X11_lays_r52_2 f) v2 v3 D5) else none) else none) else (if 0 ≤ (D 40 0 29) ∧ (D 40 0 29) < 2000 then (if 0 ≤ v3 ∧ v3 < 61 then (mi_let (mi_st D 52 0 v3 (D 66 0 (D 40 0 29))) fun D8 => B_X11_lays_r52_39 (B_X11_lays_r52_2 f) v2 v3 D8) else none) else none))
set_option maxRecDepth 20000 in
theorem S_X11_lays_r52_2 {Z : MiZ} (hL : ML Z) : ∀ (f : Nat) (v2 v3 : Int) (D : MiD), (v2 = 0 ∨ v2 = 1) → Sg m_X11_lays_r52 2 [(42, 0), (54, 0), (0, v2), (0, v3)] [] (D, Z) (mi_LV Z) (B_X11_lays_r52_2 f v2 v3 D) := by
  intro f
  induction f with
  | zero => intros; exact Sg.nope
  | succ f K2 =>
    intro v2 v3 D hb2
    show Sg m_X11_lays_r52 2 [(42, 0), (54, 0), (0, v2), (0, v3)] [] (D, Z) (mi_LV Z) (if 61 ≤ v3 then (some D) else (if v2 = 0 then (if 0 ≤ v3 ∧ v3 < 61 then (if 0 ≤ (D 40 0 29) ∧ (D 40 0 29) < 2000 then (mi_let (mi_st D 66 0 (D 40 0 29) (D 52 0 v3)) fun D5 => B_X11_lays_r52_39 (B_X11_lays_r52_2 f) v2 v3 D5) else none) else none) else (if 0 ≤ (D 40 0 29) ∧ (D 40 0 29) < 2000 then (if 0 ≤ v3 ∧ v3 < 61 then (mi_let (mi_st D 52 0 v3 (D 66 0 (D 40 0 29))) fun D8 => B_X11_lays_r52_39 (B_X11_lays_r52_2 f) v2 v3 D8) else none) else none)))
    refine Sg.go (pc' := 3) (mi_iload_n dX11_lays_2 rfl) ?_
    refine Sg.go (pc' := 4) (mi_aload_n dX11_lays_3 rfl) ?_
    refine Sg.go (pc' := 5) (mi_alen (z := 61) dX11_lays_4 (by decide) (by omega) rfl) ?_
    refine Sg.ite (fun h1 => ?_) (fun h1 => ?_)
    · refine Sg.go (pc' := 55) (mi_icmpge_t (tgt := 55) dX11_lays_5 (by decide) h1) ?_
      exact Sg.ret (mi_return dX11_lays_55 rfl (0, 0))
    · refine Sg.go (pc' := 8) (mi_icmpge_f (tgt := 55) dX11_lays_5 (by decide) h1) ?_
      refine Sg.go (pc' := 9) (mi_iload_n dX11_lays_8 rfl) ?_
      refine Sg.ite (fun h2 => ?_) (fun h2 => ?_)
      · refine Sg.go (pc' := 27) (mi_ifeq_t (tgt := 27) dX11_lays_9 (by decide) h2) ?_
        refine Sg.go (pc' := 28) (mi_aload_n dX11_lays_27 rfl) ?_
        refine Sg.go (pc' := 31) (mi_gfA (t := 66) (v := 0) (r := 40) (k := 27) dX11_lays_28 hC_40 (by decide) rfl wF_X11_72 (by omega) rfl (hL.1 27 (by decide))) ?_
        refine Sg.go (pc' := 32) (mi_aload_n dX11_lays_31 rfl) ?_
        refine Sg.go (pc' := 35) (mi_gfI (r := 40) (k := 29) dX11_lays_32 hC_40 (by decide) rfl wF_X11_426 (by omega) rfl) ?_
        refine Sg.go (pc' := 36) (mi_aload_n dX11_lays_35 rfl) ?_
        refine Sg.go (pc' := 37) (mi_iload_n dX11_lays_36 rfl) ?_
        refine Sg.ck (fun hk3 => ?_)
        refine Sg.go (pc' := 38) (mi_iald (n := 61) dX11_lays_37 rfl rfl (by omega) hk3) ?_
        refine Sg.ck (fun hk4 => ?_)
        refine Sg.goM (pc' := 39) (mi_iast (n := 2000) dX11_lays_38 rfl rfl (by omega) hk4) ?_
        refine Sg.letD (fun D5 hD5 => ?_)
        exact S_X11_lays_r52_39 hL K2 v2 v3 D5 hb2
      · refine Sg.go (pc' := 12) (mi_ifeq_f (tgt := 27) dX11_lays_9 (by decide) h2) ?_
        refine Sg.go (pc' := 13) (mi_aload_n dX11_lays_12 rfl) ?_
        refine Sg.go (pc' := 14) (mi_iload_n dX11_lays_13 rfl) ?_
        refine Sg.go (pc' := 15) (mi_aload_n dX11_lays_14 rfl) ?_
        refine Sg.go (pc' := 18) (mi_gfA (t := 66) (v := 0) (r := 40) (k := 27) dX11_lays_15 hC_40 (by decide) rfl wF_X11_72 (by omega) rfl (hL.1 27 (by decide))) ?_
        refine Sg.go (pc' := 19) (mi_aload_n dX11_lays_18 rfl) ?_
        refine Sg.go (pc' := 22) (mi_gfI (r := 40) (k := 29) dX11_lays_19 hC_40 (by decide) rfl wF_X11_426 (by omega) rfl) ?_
        refine Sg.ck (fun hk6 => ?_)
        refine Sg.go (pc' := 23) (mi_iald (n := 2000) dX11_lays_22 rfl rfl (by omega) hk6) ?_
        refine Sg.ck (fun hk7 => ?_)
        refine Sg.goM (pc' := 24) (mi_iast (n := 61) dX11_lays_23 rfl rfl (by omega) hk7) ?_
        refine Sg.letD (fun D8 hD8 => ?_)
        refine Sg.go (pc' := 39) (mi_goto (tgt := 39) dX11_lays_24 (by decide)) ?_
        exact S_X11_lays_r52_39 hL K2 v2 v3 D8 hb2
def B_X11_lays_r52 (v2 : Int) (D : MiD) : Option (MiD) := B_X11_lays_r52_2 mi_fuel v2 0 D
set_option maxRecDepth 20000 in
theorem S_X11_lays_r52 {Z : MiZ} (hL : ML Z) (v2 : Int) (D : MiD) : (v2 = 0 ∨ v2 = 1) → Sg m_X11_lays_r52 0 [(42, 0), (54, 0), (0, v2), mi_un] [] (D, Z) (mi_LV Z) (B_X11_lays_r52 v2 D) := by
  intro hb2
  unfold B_X11_lays_r52
  refine Sg.go (pc' := 1) (mi_iconst (z := 0) dX11_lays_0 rfl) ?_
  refine Sg.go (pc' := 2) (mi_istore_n (ls1 := [(42, 0), (54, 0), (0, v2), (0, 0)]) dX11_lays_1 (by decide) rfl) ?_
  exact S_X11_lays_r52_2 hL mi_fuel v2 0 D hb2
theorem C_X11_lays_r52 {Z : MiZ} (hL : ML Z) (a2 : Int) (D : MiD) (h0 : (a2 = 0 ∨ a2 = 1)) (b : MiD) (hb : B_X11_lays_r52 a2 D = some b) : MC m_X11_lays_r52 [(42, 0), (54, 0), (0, a2)] (D, Z) ((mi_LV Z) b) := MC.ofSg (L := (mi_LV Z)) (μ := m_X11_lays_r52) (args := [(42, 0), (54, 0), (0, a2)]) (M := (D, Z)) rfl wP_X11 (Nat.le_of_ble_eq_true rfl) (show Sg m_X11_lays_r52 0 [(42, 0), (54, 0), (0, a2), mi_un] [] (D, Z) (mi_LV Z) (B_X11_lays_r52 a2 D) from S_X11_lays_r52 hL a2 D h0) hb
abbrev m_X11_lays_r53 : MiI := (yX11_lays, cX11_lays, 4, none, 1, none)
def B_X11_lays_r53_39 (k2 : Int → Int → MiD → Option (MiD)) (v2 : Int) (v3 : Int) (D : MiD) : Option (MiD) := mi_let (mi_st D 40 0 29 (mi_w ((D 40 0 29) + 1))) fun D1 => k2 v2 (mi_w (v3 + 1)) D1
set_option maxRecDepth 20000 in
theorem S_X11_lays_r53_39 {Z : MiZ} (hL : ML Z) {k2 : Int → Int → MiD → Option (MiD)} (K2 : ∀ (v2 v3 : Int) (D : MiD), (v2 = 0 ∨ v2 = 1) → Sg m_X11_lays_r53 2 [(42, 0), (55, 0), (0, v2), (0, v3)] [] (D, Z) (mi_LV Z) (k2 v2 v3 D)) (v2 v3 : Int) (D : MiD) : (v2 = 0 ∨ v2 = 1) → Sg m_X11_lays_r53 39 [(42, 0), (55, 0), (0, v2), (0, v3)] [] (D, Z) (mi_LV Z) (B_X11_lays_r53_39 k2 v2 v3 D) := by
  intro hb2
  unfold B_X11_lays_r53_39
  refine Sg.go (pc' := 40) (mi_aload_n dX11_lays_39 rfl) ?_
  refine Sg.go (pc' := 41) (mi_dup dX11_lays_40 (show (42 : Nat) ≠ 1 by decide)) ?_
  refine Sg.go (pc' := 44) (mi_gfI (r := 40) (k := 29) dX11_lays_41 hC_40 (by decide) rfl wF_X11_426 (by omega) rfl) ?_
  refine Sg.go (pc' := 45) (mi_iconst (z := 1) dX11_lays_44 rfl) ?_
  refine Sg.go (pc' := 46) (mi_iadd dX11_lays_45) ?_
  refine Sg.goM (pc' := 49) (mi_pfD (r := 40) (k := 29) (t := 0) dX11_lays_46 hC_40 (by decide) rfl rfl wF_X11_426 (by omega) rfl (by decide) (Or.inl ⟨rfl, rfl⟩)) ?_
  refine Sg.letD (fun D1 hD1 => ?_)
  refine Sg.go (pc' := 52) (mi_iinc (z := 1) (ls1 := [(42, 0), (55, 0), (0, v2), (0, (mi_w (v3 + 1)))]) dX11_lays_49 (by decide) rfl rfl rfl) ?_
  refine Sg.go (pc' := 2) (mi_goto (tgt := 2) dX11_lays_52 (by decide)) ?_
  exact K2 v2 (mi_w (v3 + 1)) D1 hb2
def B_X11_lays_r53_2 : Nat → Int → Int → MiD → Option (MiD)
  | 0, _, _, _ => none
  | f + 1, v2, v3, D => if 61 ≤ v3 then (some D) else (if v2 = 0 then (if 0 ≤ v3 ∧ v3 < 61 then (if 0 ≤ (D 40 0 29) ∧ (D 40 0 29) < 2000 then (mi_let (mi_st D 66 0 (D 40 0 29) (D 53 0 v3)) fun D5 => B_X11_lays_r53_39 (B_X11_lays_r53_2 f) v2 v3 D5) else none) else none) else (if 0 ≤ (D 40 0 29) ∧ (D 40 0 29) < 2000 then (if 0 ≤ v3 ∧ v3 < 61 then (mi_let (mi_st D 53 0 v3 (D 66 0 (D 40 0 29))) fun D8 => B_X11_lays_r53_39 (B_X11_lays_r53_2 f) v2 v3 D8) else none) else none))
set_option maxRecDepth 20000 in
theorem S_X11_lays_r53_2 {Z : MiZ} (hL : ML Z) : ∀ (f : Nat) (v2 v3 : Int) (D : MiD), (v2 = 0 ∨ v2 = 1) → Sg m_X11_lays_r53 2 [(42, 0), (55, 0), (0, v2), (0, v3)] [] (D, Z) (mi_LV Z) (B_X11_lays_r53_2 f v2 v3 D) := by
  intro f
  induction f with
  | zero => intros; exact Sg.nope
  | succ f K2 =>
    intro v2 v3 D hb2
    show Sg m_X11_lays_r53 2 [(42, 0), (55, 0), (0, v2), (0, v3)] [] (D, Z) (mi_LV Z) (if 61 ≤ v3 then (some D) else (if v2 = 0 then (if 0 ≤ v3 ∧ v3 < 61 then (if 0 ≤ (D 40 0 29) ∧ (D 40 0 29) < 2000 then (mi_let (mi_st D 66 0 (D 40 0 29) (D 53 0 v3)) fun D5 => B_X11_lays_r53_39 (B_X11_lays_r53_2 f) v2 v3 D5) else none) else none) else (if 0 ≤ (D 40 0 29) ∧ (D 40 0 29) < 2000 then (if 0 ≤ v3 ∧ v3 < 61 then (mi_let (mi_st D 53 0 v3 (D 66 0 (D 40 0 29))) fun D8 => B_X11_lays_r53_39 (B_X11_lays_r53_2 f) v2 v3 D8) else none) else none)))
    refine Sg.go (pc' := 3) (mi_iload_n dX11_lays_2 rfl) ?_
    refine Sg.go (pc' := 4) (mi_aload_n dX11_lays_3 rfl) ?_
    refine Sg.go (pc' := 5) (mi_alen (z := 61) dX11_lays_4 (by decide) (by omega) rfl) ?_
    refine Sg.ite (fun h1 => ?_) (fun h1 => ?_)
    · refine Sg.go (pc' := 55) (mi_icmpge_t (tgt := 55) dX11_lays_5 (by decide) h1) ?_
      exact Sg.ret (mi_return dX11_lays_55 rfl (0, 0))
    · refine Sg.go (pc' := 8) (mi_icmpge_f (tgt := 55) dX11_lays_5 (by decide) h1) ?_
      refine Sg.go (pc' := 9) (mi_iload_n dX11_lays_8 rfl) ?_
      refine Sg.ite (fun h2 => ?_) (fun h2 => ?_)
      · refine Sg.go (pc' := 27) (mi_ifeq_t (tgt := 27) dX11_lays_9 (by decide) h2) ?_
        refine Sg.go (pc' := 28) (mi_aload_n dX11_lays_27 rfl) ?_
        refine Sg.go (pc' := 31) (mi_gfA (t := 66) (v := 0) (r := 40) (k := 27) dX11_lays_28 hC_40 (by decide) rfl wF_X11_72 (by omega) rfl (hL.1 27 (by decide))) ?_
        refine Sg.go (pc' := 32) (mi_aload_n dX11_lays_31 rfl) ?_
        refine Sg.go (pc' := 35) (mi_gfI (r := 40) (k := 29) dX11_lays_32 hC_40 (by decide) rfl wF_X11_426 (by omega) rfl) ?_
        refine Sg.go (pc' := 36) (mi_aload_n dX11_lays_35 rfl) ?_
        refine Sg.go (pc' := 37) (mi_iload_n dX11_lays_36 rfl) ?_
        refine Sg.ck (fun hk3 => ?_)
        refine Sg.go (pc' := 38) (mi_iald (n := 61) dX11_lays_37 rfl rfl (by omega) hk3) ?_
        refine Sg.ck (fun hk4 => ?_)
        refine Sg.goM (pc' := 39) (mi_iast (n := 2000) dX11_lays_38 rfl rfl (by omega) hk4) ?_
        refine Sg.letD (fun D5 hD5 => ?_)
        exact S_X11_lays_r53_39 hL K2 v2 v3 D5 hb2
      · refine Sg.go (pc' := 12) (mi_ifeq_f (tgt := 27) dX11_lays_9 (by decide) h2) ?_
        refine Sg.go (pc' := 13) (mi_aload_n dX11_lays_12 rfl) ?_
        refine Sg.go (pc' := 14) (mi_iload_n dX11_lays_13 rfl) ?_
        refine Sg.go (pc' := 15) (mi_aload_n dX11_lays_14 rfl) ?_
        refine Sg.go (pc' := 18) (mi_gfA (t := 66) (v := 0) (r := 40) (k := 27) dX11_lays_15 hC_40 (by decide) rfl wF_X11_72 (by omega) rfl (hL.1 27 (by decide))) ?_
        refine Sg.go (pc' := 19) (mi_aload_n dX11_lays_18 rfl) ?_
        refine Sg.go (pc' := 22) (mi_gfI (r := 40) (k := 29) dX11_lays_19 hC_40 (by decide) rfl wF_X11_426 (by omega) rfl) ?_
        refine Sg.ck (fun hk6 => ?_)
        refine Sg.go (pc' := 23) (mi_iald (n := 2000) dX11_lays_22 rfl rfl (by omega) hk6) ?_
        refine Sg.ck (fun hk7 => ?_)
        refine Sg.goM (pc' := 24) (mi_iast (n := 61) dX11_lays_23 rfl rfl (by omega) hk7) ?_
        refine Sg.letD (fun D8 hD8 => ?_)
        refine Sg.go (pc' := 39) (mi_goto (tgt := 39) dX11_lays_24 (by decide)) ?_
        exact S_X11_lays_r53_39 hL K2 v2 v3 D8 hb2
def B_X11_lays_r53 (v2 : Int) (D : MiD) : Option (MiD) := B_X11_lays_r53_2 mi_fuel v2 0 D
set_option maxRecDepth 20000 in
theorem S_X11_lays_r53 {Z : MiZ} (hL : ML Z) (v2 : Int) (D : MiD) : (v2 = 0 ∨ v2 = 1) → Sg m_X11_lays_r53 0 [(42, 0), (55, 0), (0, v2), mi_un] [] (D, Z) (mi_LV Z) (B_X11_lays_r53 v2 D) := by
  intro hb2
  unfold B_X11_lays_r53
  refine Sg.go (pc' := 1) (mi_iconst (z := 0) dX11_lays_0 rfl) ?_
  refine Sg.go (pc' := 2) (mi_istore_n (ls1 := [(42, 0), (55, 0), (0, v2), (0, 0)]) dX11_lays_1 (by decide) rfl) ?_
  exact S_X11_lays_r53_2 hL mi_fuel v2 0 D hb2
theorem C_X11_lays_r53 {Z : MiZ} (hL : ML Z) (a2 : Int) (D : MiD) (h0 : (a2 = 0 ∨ a2 = 1)) (b : MiD) (hb : B_X11_lays_r53 a2 D = some b) : MC m_X11_lays_r53 [(42, 0), (55, 0), (0, a2)] (D, Z) ((mi_LV Z) b) := MC.ofSg (L := (mi_LV Z)) (μ := m_X11_lays_r53) (args := [(42, 0), (55, 0), (0, a2)]) (M := (D, Z)) rfl wP_X11 (Nat.le_of_ble_eq_true rfl) (show Sg m_X11_lays_r53 0 [(42, 0), (55, 0), (0, a2), mi_un] [] (D, Z) (mi_LV Z) (B_X11_lays_r53 a2 D) from S_X11_lays_r53 hL a2 D h0) hb
abbrev m_X11_lays_r55 : MiI := (yX11_lays, cX11_lays, 4, none, 1, none)
def B_X11_lays_r55_39 (k2 : Int → Int → Int → MiD → Option (MiD)) (v1 : Int) (v2 : Int) (v3 : Int) (D : MiD) : Option (MiD) := mi_let (mi_st D 40 0 29 (mi_w ((D 40 0 29) + 1))) fun D1 => k2 v1 v2 (mi_w (v3 + 1)) D1
set_option maxRecDepth 20000 in
theorem S_X11_lays_r55_39 {Z : MiZ} (hL : ML Z) {k2 : Int → Int → Int → MiD → Option (MiD)} (K2 : ∀ (v1 v2 v3 : Int) (D : MiD), (0 ≤ v1 ∧ v1 < 61) → (v2 = 0 ∨ v2 = 1) → Sg m_X11_lays_r55 2 [(42, 0), (57, v1), (0, v2), (0, v3)] [] (D, Z) (mi_LV Z) (k2 v1 v2 v3 D)) (v1 v2 v3 : Int) (D : MiD) : (0 ≤ v1 ∧ v1 < 61) → (v2 = 0 ∨ v2 = 1) → Sg m_X11_lays_r55 39 [(42, 0), (57, v1), (0, v2), (0, v3)] [] (D, Z) (mi_LV Z) (B_X11_lays_r55_39 k2 v1 v2 v3 D) := by
  intro hb1 hb2
  unfold B_X11_lays_r55_39
  refine Sg.go (pc' := 40) (mi_aload_n dX11_lays_39 rfl) ?_
  refine Sg.go (pc' := 41) (mi_dup dX11_lays_40 (show (42 : Nat) ≠ 1 by decide)) ?_
  refine Sg.go (pc' := 44) (mi_gfI (r := 40) (k := 29) dX11_lays_41 hC_40 (by decide) rfl wF_X11_426 (by omega) rfl) ?_
  refine Sg.go (pc' := 45) (mi_iconst (z := 1) dX11_lays_44 rfl) ?_
  refine Sg.go (pc' := 46) (mi_iadd dX11_lays_45) ?_
  refine Sg.goM (pc' := 49) (mi_pfD (r := 40) (k := 29) (t := 0) dX11_lays_46 hC_40 (by decide) rfl rfl wF_X11_426 (by omega) rfl (by decide) (Or.inl ⟨rfl, rfl⟩)) ?_
  refine Sg.letD (fun D1 hD1 => ?_)
  refine Sg.go (pc' := 52) (mi_iinc (z := 1) (ls1 := [(42, 0), (57, v1), (0, v2), (0, (mi_w (v3 + 1)))]) dX11_lays_49 (by decide) rfl rfl rfl) ?_
  refine Sg.go (pc' := 2) (mi_goto (tgt := 2) dX11_lays_52 (by decide)) ?_
  exact K2 v1 v2 (mi_w (v3 + 1)) D1 hb1 hb2
def B_X11_lays_r55_2 : Nat → Int → Int → Int → MiD → Option (MiD)
  | 0, _, _, _, _ => none
  | f + 1, v1, v2, v3, D => if 9 ≤ v3 then (some D) else (if v2 = 0 then (if 0 ≤ v3 ∧ v3 < 9 then (if 0 ≤ (D 40 0 29) ∧ (D 40 0 29) < 2000 then (mi_let (mi_st D 66 0 (D 40 0 29) (D 55 v1 v3)) fun D5 => B_X11_lays_r55_39 (B_X11_lays_r55_2 f) v1 v2 v3 D5) else none) else none) else (if 0 ≤ (D 40 0 29) ∧ (D 40 0 29) < 2000 then (if 0 ≤ v3 ∧ v3 < 9 then (mi_let (mi_st D 55 v1 v3 (D 66 0 (D 40 0 29))) fun D8 => B_X11_lays_r55_39 (B_X11_lays_r55_2 f) v1 v2 v3 D8) else none) else none))
set_option maxRecDepth 20000 in
theorem S_X11_lays_r55_2 {Z : MiZ} (hL : ML Z) : ∀ (f : Nat) (v1 v2 v3 : Int) (D : MiD), (0 ≤ v1 ∧ v1 < 61) → (v2 = 0 ∨ v2 = 1) → Sg m_X11_lays_r55 2 [(42, 0), (57, v1), (0, v2), (0, v3)] [] (D, Z) (mi_LV Z) (B_X11_lays_r55_2 f v1 v2 v3 D) := by
  intro f
  induction f with
  | zero => intros; exact Sg.nope
  | succ f K2 =>
    intro v1 v2 v3 D hb1 hb2
    show Sg m_X11_lays_r55 2 [(42, 0), (57, v1), (0, v2), (0, v3)] [] (D, Z) (mi_LV Z) (if 9 ≤ v3 then (some D) else (if v2 = 0 then (if 0 ≤ v3 ∧ v3 < 9 then (if 0 ≤ (D 40 0 29) ∧ (D 40 0 29) < 2000 then (mi_let (mi_st D 66 0 (D 40 0 29) (D 55 v1 v3)) fun D5 => B_X11_lays_r55_39 (B_X11_lays_r55_2 f) v1 v2 v3 D5) else none) else none) else (if 0 ≤ (D 40 0 29) ∧ (D 40 0 29) < 2000 then (if 0 ≤ v3 ∧ v3 < 9 then (mi_let (mi_st D 55 v1 v3 (D 66 0 (D 40 0 29))) fun D8 => B_X11_lays_r55_39 (B_X11_lays_r55_2 f) v1 v2 v3 D8) else none) else none)))
    refine Sg.go (pc' := 3) (mi_iload_n dX11_lays_2 rfl) ?_
    refine Sg.go (pc' := 4) (mi_aload_n dX11_lays_3 rfl) ?_
    refine Sg.go (pc' := 5) (mi_alen (z := 9) dX11_lays_4 (by decide) (by omega) rfl) ?_
    refine Sg.ite (fun h1 => ?_) (fun h1 => ?_)
    · refine Sg.go (pc' := 55) (mi_icmpge_t (tgt := 55) dX11_lays_5 (by decide) h1) ?_
      exact Sg.ret (mi_return dX11_lays_55 rfl (0, 0))
    · refine Sg.go (pc' := 8) (mi_icmpge_f (tgt := 55) dX11_lays_5 (by decide) h1) ?_
      refine Sg.go (pc' := 9) (mi_iload_n dX11_lays_8 rfl) ?_
      refine Sg.ite (fun h2 => ?_) (fun h2 => ?_)
      · refine Sg.go (pc' := 27) (mi_ifeq_t (tgt := 27) dX11_lays_9 (by decide) h2) ?_
        refine Sg.go (pc' := 28) (mi_aload_n dX11_lays_27 rfl) ?_
        refine Sg.go (pc' := 31) (mi_gfA (t := 66) (v := 0) (r := 40) (k := 27) dX11_lays_28 hC_40 (by decide) rfl wF_X11_72 (by omega) rfl (hL.1 27 (by decide))) ?_
        refine Sg.go (pc' := 32) (mi_aload_n dX11_lays_31 rfl) ?_
        refine Sg.go (pc' := 35) (mi_gfI (r := 40) (k := 29) dX11_lays_32 hC_40 (by decide) rfl wF_X11_426 (by omega) rfl) ?_
        refine Sg.go (pc' := 36) (mi_aload_n dX11_lays_35 rfl) ?_
        refine Sg.go (pc' := 37) (mi_iload_n dX11_lays_36 rfl) ?_
        refine Sg.ck (fun hk3 => ?_)
        refine Sg.go (pc' := 38) (mi_iald (n := 9) dX11_lays_37 rfl rfl (by omega) hk3) ?_
        refine Sg.ck (fun hk4 => ?_)
        refine Sg.goM (pc' := 39) (mi_iast (n := 2000) dX11_lays_38 rfl rfl (by omega) hk4) ?_
        refine Sg.letD (fun D5 hD5 => ?_)
        exact S_X11_lays_r55_39 hL K2 v1 v2 v3 D5 hb1 hb2
      · refine Sg.go (pc' := 12) (mi_ifeq_f (tgt := 27) dX11_lays_9 (by decide) h2) ?_
        refine Sg.go (pc' := 13) (mi_aload_n dX11_lays_12 rfl) ?_
        refine Sg.go (pc' := 14) (mi_iload_n dX11_lays_13 rfl) ?_
        refine Sg.go (pc' := 15) (mi_aload_n dX11_lays_14 rfl) ?_
        refine Sg.go (pc' := 18) (mi_gfA (t := 66) (v := 0) (r := 40) (k := 27) dX11_lays_15 hC_40 (by decide) rfl wF_X11_72 (by omega) rfl (hL.1 27 (by decide))) ?_
        refine Sg.go (pc' := 19) (mi_aload_n dX11_lays_18 rfl) ?_
        refine Sg.go (pc' := 22) (mi_gfI (r := 40) (k := 29) dX11_lays_19 hC_40 (by decide) rfl wF_X11_426 (by omega) rfl) ?_
        refine Sg.ck (fun hk6 => ?_)
        refine Sg.go (pc' := 23) (mi_iald (n := 2000) dX11_lays_22 rfl rfl (by omega) hk6) ?_
        refine Sg.ck (fun hk7 => ?_)
        refine Sg.goM (pc' := 24) (mi_iast (n := 9) dX11_lays_23 rfl rfl (by omega) hk7) ?_
        refine Sg.letD (fun D8 hD8 => ?_)
        refine Sg.go (pc' := 39) (mi_goto (tgt := 39) dX11_lays_24 (by decide)) ?_
        exact S_X11_lays_r55_39 hL K2 v1 v2 v3 D8 hb1 hb2
def B_X11_lays_r55 (v1 : Int) (v2 : Int) (D : MiD) : Option (MiD) := B_X11_lays_r55_2 mi_fuel v1 v2 0 D
set_option maxRecDepth 20000 in
theorem S_X11_lays_r55 {Z : MiZ} (hL : ML Z) (v1 v2 : Int) (D : MiD) : (0 ≤ v1 ∧ v1 < 61) → (v2 = 0 ∨ v2 = 1) → Sg m_X11_lays_r55 0 [(42, 0), (57, v1), (0, v2), mi_un] [] (D, Z) (mi_LV Z) (B_X11_lays_r55 v1 v2 D) := by
  intro hb1 hb2
  unfold B_X11_lays_r55
  refine Sg.go (pc' := 1) (mi_iconst (z := 0) dX11_lays_0 rfl) ?_
  refine Sg.go (pc' := 2) (mi_istore_n (ls1 := [(42, 0), (57, v1), (0, v2), (0, 0)]) dX11_lays_1 (by decide) rfl) ?_
  exact S_X11_lays_r55_2 hL mi_fuel v1 v2 0 D hb1 hb2
theorem C_X11_lays_r55 {Z : MiZ} (hL : ML Z) (a1 a2 : Int) (D : MiD) (h0 : (0 ≤ a1 ∧ a1 < 61)) (h1 : (a2 = 0 ∨ a2 = 1)) (b : MiD) (hb : B_X11_lays_r55 a1 a2 D = some b) : MC m_X11_lays_r55 [(42, 0), (57, a1), (0, a2)] (D, Z) ((mi_LV Z) b) := MC.ofSg (L := (mi_LV Z)) (μ := m_X11_lays_r55) (args := [(42, 0), (57, a1), (0, a2)]) (M := (D, Z)) rfl wP_X11 (Nat.le_of_ble_eq_true rfl) (show Sg m_X11_lays_r55 0 [(42, 0), (57, a1), (0, a2), mi_un] [] (D, Z) (mi_LV Z) (B_X11_lays_r55 a1 a2 D) from S_X11_lays_r55 hL a1 a2 D h0 h1) hb
abbrev m_X11_lays_r59 : MiI := (yX11_lays, cX11_lays, 4, none, 1, none)
def B_X11_lays_r59_39 (k2 : Int → Int → Int → MiD → Option (MiD)) (v1 : Int) (v2 : Int) (v3 : Int) (D : MiD) : Option (MiD) := mi_let (mi_st D 40 0 29 (mi_w ((D 40 0 29) + 1))) fun D1 => k2 v1 v2 (mi_w (v3 + 1)) D1
set_option maxRecDepth 20000 in
theorem S_X11_lays_r59_39 {Z : MiZ} (hL : ML Z) {k2 : Int → Int → Int → MiD → Option (MiD)} (K2 : ∀ (v1 v2 v3 : Int) (D : MiD), (0 ≤ v1 ∧ v1 < 7) → (v2 = 0 ∨ v2 = 1) → Sg m_X11_lays_r59 2 [(42, 0), (61, v1), (0, v2), (0, v3)] [] (D, Z) (mi_LV Z) (k2 v1 v2 v3 D)) (v1 v2 v3 : Int) (D : MiD) : (0 ≤ v1 ∧ v1 < 7) → (v2 = 0 ∨ v2 = 1) → Sg m_X11_lays_r59 39 [(42, 0), (61, v1), (0, v2), (0, v3)] [] (D, Z) (mi_LV Z) (B_X11_lays_r59_39 k2 v1 v2 v3 D) := by
  intro hb1 hb2
  unfold B_X11_lays_r59_39
  refine Sg.go (pc' := 40) (mi_aload_n dX11_lays_39 rfl) ?_
  refine Sg.go (pc' := 41) (mi_dup dX11_lays_40 (show (42 : Nat) ≠ 1 by decide)) ?_
  refine Sg.go (pc' := 44) (mi_gfI (r := 40) (k := 29) dX11_lays_41 hC_40 (by decide) rfl wF_X11_426 (by omega) rfl) ?_
  refine Sg.go (pc' := 45) (mi_iconst (z := 1) dX11_lays_44 rfl) ?_
  refine Sg.go (pc' := 46) (mi_iadd dX11_lays_45) ?_
  refine Sg.goM (pc' := 49) (mi_pfD (r := 40) (k := 29) (t := 0) dX11_lays_46 hC_40 (by decide) rfl rfl wF_X11_426 (by omega) rfl (by decide) (Or.inl ⟨rfl, rfl⟩)) ?_
  refine Sg.letD (fun D1 hD1 => ?_)
  refine Sg.go (pc' := 52) (mi_iinc (z := 1) (ls1 := [(42, 0), (61, v1), (0, v2), (0, (mi_w (v3 + 1)))]) dX11_lays_49 (by decide) rfl rfl rfl) ?_
  refine Sg.go (pc' := 2) (mi_goto (tgt := 2) dX11_lays_52 (by decide)) ?_
  exact K2 v1 v2 (mi_w (v3 + 1)) D1 hb1 hb2
def B_X11_lays_r59_2 : Nat → Int → Int → Int → MiD → Option (MiD)
  | 0, _, _, _, _ => none
  | f + 1, v1, v2, v3, D => if 7 ≤ v3 then (some D) else (if v2 = 0 then (if 0 ≤ v3 ∧ v3 < 7 then (if 0 ≤ (D 40 0 29) ∧ (D 40 0 29) < 2000 then (mi_let (mi_st D 66 0 (D 40 0 29) (D 59 v1 v3)) fun D5 => B_X11_lays_r59_39 (B_X11_lays_r59_2 f) v1 v2 v3 D5) else none) else none) else (if 0 ≤ (D 40 0 29) ∧ (D 40 0 29) < 2000 then (if 0 ≤ v3 ∧ v3 < 7 then (mi_let (mi_st D 59 v1 v3 (D 66 0 (D 40 0 29))) fun D8 => B_X11_lays_r59_39 (B_X11_lays_r59_2 f) v1 v2 v3 D8) else none) else none))
set_option maxRecDepth 20000 in
theorem S_X11_lays_r59_2 {Z : MiZ} (hL : ML Z) : ∀ (f : Nat) (v1 v2 v3 : Int) (D : MiD), (0 ≤ v1 ∧ v1 < 7) → (v2 = 0 ∨ v2 = 1) → Sg m_X11_lays_r59 2 [(42, 0), (61, v1), (0, v2), (0, v3)] [] (D, Z) (mi_LV Z) (B_X11_lays_r59_2 f v1 v2 v3 D) := by
  intro f
  induction f with
  | zero => intros; exact Sg.nope
  | succ f K2 =>
    intro v1 v2 v3 D hb1 hb2
    show Sg m_X11_lays_r59 2 [(42, 0), (61, v1), (0, v2), (0, v3)] [] (D, Z) (mi_LV Z) (if 7 ≤ v3 then (some D) else (if v2 = 0 then (if 0 ≤ v3 ∧ v3 < 7 then (if 0 ≤ (D 40 0 29) ∧ (D 40 0 29) < 2000 then (mi_let (mi_st D 66 0 (D 40 0 29) (D 59 v1 v3)) fun D5 => B_X11_lays_r59_39 (B_X11_lays_r59_2 f) v1 v2 v3 D5) else none) else none) else (if 0 ≤ (D 40 0 29) ∧ (D 40 0 29) < 2000 then (if 0 ≤ v3 ∧ v3 < 7 then (mi_let (mi_st D 59 v1 v3 (D 66 0 (D 40 0 29))) fun D8 => B_X11_lays_r59_39 (B_X11_lays_r59_2 f) v1 v2 v3 D8) else none) else none)))
    refine Sg.go (pc' := 3) (mi_iload_n dX11_lays_2 rfl) ?_
    refine Sg.go (pc' := 4) (mi_aload_n dX11_lays_3 rfl) ?_
    refine Sg.go (pc' := 5) (mi_alen (z := 7) dX11_lays_4 (by decide) (by omega) rfl) ?_
    refine Sg.ite (fun h1 => ?_) (fun h1 => ?_)
    · refine Sg.go (pc' := 55) (mi_icmpge_t (tgt := 55) dX11_lays_5 (by decide) h1) ?_
      exact Sg.ret (mi_return dX11_lays_55 rfl (0, 0))
    · refine Sg.go (pc' := 8) (mi_icmpge_f (tgt := 55) dX11_lays_5 (by decide) h1) ?_
      refine Sg.go (pc' := 9) (mi_iload_n dX11_lays_8 rfl) ?_
      refine Sg.ite (fun h2 => ?_) (fun h2 => ?_)
      · refine Sg.go (pc' := 27) (mi_ifeq_t (tgt := 27) dX11_lays_9 (by decide) h2) ?_
        refine Sg.go (pc' := 28) (mi_aload_n dX11_lays_27 rfl) ?_
        refine Sg.go (pc' := 31) (mi_gfA (t := 66) (v := 0) (r := 40) (k := 27) dX11_lays_28 hC_40 (by decide) rfl wF_X11_72 (by omega) rfl (hL.1 27 (by decide))) ?_
        refine Sg.go (pc' := 32) (mi_aload_n dX11_lays_31 rfl) ?_
        refine Sg.go (pc' := 35) (mi_gfI (r := 40) (k := 29) dX11_lays_32 hC_40 (by decide) rfl wF_X11_426 (by omega) rfl) ?_
        refine Sg.go (pc' := 36) (mi_aload_n dX11_lays_35 rfl) ?_
        refine Sg.go (pc' := 37) (mi_iload_n dX11_lays_36 rfl) ?_
        refine Sg.ck (fun hk3 => ?_)
        refine Sg.go (pc' := 38) (mi_iald (n := 7) dX11_lays_37 rfl rfl (by omega) hk3) ?_
        refine Sg.ck (fun hk4 => ?_)
        refine Sg.goM (pc' := 39) (mi_iast (n := 2000) dX11_lays_38 rfl rfl (by omega) hk4) ?_
        refine Sg.letD (fun D5 hD5 => ?_)
        exact S_X11_lays_r59_39 hL K2 v1 v2 v3 D5 hb1 hb2
      · refine Sg.go (pc' := 12) (mi_ifeq_f (tgt := 27) dX11_lays_9 (by decide) h2) ?_
        refine Sg.go (pc' := 13) (mi_aload_n dX11_lays_12 rfl) ?_
        refine Sg.go (pc' := 14) (mi_iload_n dX11_lays_13 rfl) ?_
        refine Sg.go (pc' := 15) (mi_aload_n dX11_lays_14 rfl) ?_
        refine Sg.go (pc' := 18) (mi_gfA (t := 66) (v := 0) (r := 40) (k := 27) dX11_lays_15 hC_40 (by decide) rfl wF_X11_72 (by omega) rfl (hL.1 27 (by decide))) ?_
        refine Sg.go (pc' := 19) (mi_aload_n dX11_lays_18 rfl) ?_
        refine Sg.go (pc' := 22) (mi_gfI (r := 40) (k := 29) dX11_lays_19 hC_40 (by decide) rfl wF_X11_426 (by omega) rfl) ?_
        refine Sg.ck (fun hk6 => ?_)
        refine Sg.go (pc' := 23) (mi_iald (n := 2000) dX11_lays_22 rfl rfl (by omega) hk6) ?_
        refine Sg.ck (fun hk7 => ?_)
        refine Sg.goM (pc' := 24) (mi_iast (n := 7) dX11_lays_23 rfl rfl (by omega) hk7) ?_
        refine Sg.letD (fun D8 hD8 => ?_)
        refine Sg.go (pc' := 39) (mi_goto (tgt := 39) dX11_lays_24 (by decide)) ?_
        exact S_X11_lays_r59_39 hL K2 v1 v2 v3 D8 hb1 hb2
def B_X11_lays_r59 (v1 : Int) (v2 : Int) (D : MiD) : Option (MiD) := B_X11_lays_r59_2 mi_fuel v1 v2 0 D
set_option maxRecDepth 20000 in
theorem S_X11_lays_r59 {Z : MiZ} (hL : ML Z) (v1 v2 : Int) (D : MiD) : (0 ≤ v1 ∧ v1 < 7) → (v2 = 0 ∨ v2 = 1) → Sg m_X11_lays_r59 0 [(42, 0), (61, v1), (0, v2), mi_un] [] (D, Z) (mi_LV Z) (B_X11_lays_r59 v1 v2 D) := by
  intro hb1 hb2
  unfold B_X11_lays_r59
  refine Sg.go (pc' := 1) (mi_iconst (z := 0) dX11_lays_0 rfl) ?_
  refine Sg.go (pc' := 2) (mi_istore_n (ls1 := [(42, 0), (61, v1), (0, v2), (0, 0)]) dX11_lays_1 (by decide) rfl) ?_
  exact S_X11_lays_r59_2 hL mi_fuel v1 v2 0 D hb1 hb2
theorem C_X11_lays_r59 {Z : MiZ} (hL : ML Z) (a1 a2 : Int) (D : MiD) (h0 : (0 ≤ a1 ∧ a1 < 7)) (h1 : (a2 = 0 ∨ a2 = 1)) (b : MiD) (hb : B_X11_lays_r59 a1 a2 D = some b) : MC m_X11_lays_r59 [(42, 0), (61, a1), (0, a2)] (D, Z) ((mi_LV Z) b) := MC.ofSg (L := (mi_LV Z)) (μ := m_X11_lays_r59) (args := [(42, 0), (61, a1), (0, a2)]) (M := (D, Z)) rfl wP_X11 (Nat.le_of_ble_eq_true rfl) (show Sg m_X11_lays_r59 0 [(42, 0), (61, a1), (0, a2), mi_un] [] (D, Z) (mi_LV Z) (B_X11_lays_r59 a1 a2 D) from S_X11_lays_r59 hL a1 a2 D h0 h1) hb
abbrev m_X11_lays_r63 : MiI := (yX11_lays, cX11_lays, 4, none, 1, none)
def B_X11_lays_r63_39 (k2 : Int → Int → Int → MiD → Option (MiD)) (v1 : Int) (v2 : Int) (v3 : Int) (D : MiD) : Option (MiD) := mi_let (mi_st D 40 0 29 (mi_w ((D 40 0 29) + 1))) fun D1 => k2 v1 v2 (mi_w (v3 + 1)) D1
set_option maxRecDepth 20000 in
theorem S_X11_lays_r63_39 {Z : MiZ} (hL : ML Z) {k2 : Int → Int → Int → MiD → Option (MiD)} (K2 : ∀ (v1 v2 v3 : Int) (D : MiD), (0 ≤ v1 ∧ v1 < 60) → (v2 = 0 ∨ v2 = 1) → Sg m_X11_lays_r63 2 [(42, 0), (65, v1), (0, v2), (0, v3)] [] (D, Z) (mi_LV Z) (k2 v1 v2 v3 D)) (v1 v2 v3 : Int) (D : MiD) : (0 ≤ v1 ∧ v1 < 60) → (v2 = 0 ∨ v2 = 1) → Sg m_X11_lays_r63 39 [(42, 0), (65, v1), (0, v2), (0, v3)] [] (D, Z) (mi_LV Z) (B_X11_lays_r63_39 k2 v1 v2 v3 D) := by
  intro hb1 hb2
  unfold B_X11_lays_r63_39
  refine Sg.go (pc' := 40) (mi_aload_n dX11_lays_39 rfl) ?_
  refine Sg.go (pc' := 41) (mi_dup dX11_lays_40 (show (42 : Nat) ≠ 1 by decide)) ?_
  refine Sg.go (pc' := 44) (mi_gfI (r := 40) (k := 29) dX11_lays_41 hC_40 (by decide) rfl wF_X11_426 (by omega) rfl) ?_
  refine Sg.go (pc' := 45) (mi_iconst (z := 1) dX11_lays_44 rfl) ?_
  refine Sg.go (pc' := 46) (mi_iadd dX11_lays_45) ?_
  refine Sg.goM (pc' := 49) (mi_pfD (r := 40) (k := 29) (t := 0) dX11_lays_46 hC_40 (by decide) rfl rfl wF_X11_426 (by omega) rfl (by decide) (Or.inl ⟨rfl, rfl⟩)) ?_
  refine Sg.letD (fun D1 hD1 => ?_)
  refine Sg.go (pc' := 52) (mi_iinc (z := 1) (ls1 := [(42, 0), (65, v1), (0, v2), (0, (mi_w (v3 + 1)))]) dX11_lays_49 (by decide) rfl rfl rfl) ?_
  refine Sg.go (pc' := 2) (mi_goto (tgt := 2) dX11_lays_52 (by decide)) ?_
  exact K2 v1 v2 (mi_w (v3 + 1)) D1 hb1 hb2
def B_X11_lays_r63_2 : Nat → Int → Int → Int → MiD → Option (MiD)
  | 0, _, _, _, _ => none
  | f + 1, v1, v2, v3, D => if 4 ≤ v3 then (some D) else (if v2 = 0 then (if 0 ≤ v3 ∧ v3 < 4 then (if 0 ≤ (D 40 0 29) ∧ (D 40 0 29) < 2000 then (mi_let (mi_st D 66 0 (D 40 0 29) (D 63 v1 v3)) fun D5 => B_X11_lays_r63_39 (B_X11_lays_r63_2 f) v1 v2 v3 D5) else none) else none) else (if 0 ≤ (D 40 0 29) ∧ (D 40 0 29) < 2000 then (if 0 ≤ v3 ∧ v3 < 4 then (mi_let (mi_st D 63 v1 v3 (D 66 0 (D 40 0 29))) fun D8 => B_X11_lays_r63_39 (B_X11_lays_r63_2 f) v1 v2 v3 D8) else none) else none))
set_option maxRecDepth 20000 in
theorem S_X11_lays_r63_2 {Z : MiZ} (hL : ML Z) : ∀ (f : Nat) (v1 v2 v3 : Int) (D : MiD), (0 ≤ v1 ∧ v1 < 60) → (v2 = 0 ∨ v2 = 1) → Sg m_X11_lays_r63 2 [(42, 0), (65, v1), (0, v2), (0, v3)] [] (D, Z) (mi_LV Z) (B_X11_lays_r63_2 f v1 v2 v3 D) := by
  intro f
  induction f with
  | zero => intros; exact Sg.nope
  | succ f K2 =>
    intro v1 v2 v3 D hb1 hb2
    show Sg m_X11_lays_r63 2 [(42, 0), (65, v1), (0, v2), (0, v3)] [] (D, Z) (mi_LV Z) (if 4 ≤ v3 then (some D) else (if v2 = 0 then (if 0 ≤ v3 ∧ v3 < 4 then (if 0 ≤ (D 40 0 29) ∧ (D 40 0 29) < 2000 then (mi_let (mi_st D 66 0 (D 40 0 29) (D 63 v1 v3)) fun D5 => B_X11_lays_r63_39 (B_X11_lays_r63_2 f) v1 v2 v3 D5) else none) else none) else (if 0 ≤ (D 40 0 29) ∧ (D 40 0 29) < 2000 then (if 0 ≤ v3 ∧ v3 < 4 then (mi_let (mi_st D 63 v1 v3 (D 66 0 (D 40 0 29))) fun D8 => B_X11_lays_r63_39 (B_X11_lays_r63_2 f) v1 v2 v3 D8) else none) else none)))
    refine Sg.go (pc' := 3) (mi_iload_n dX11_lays_2 rfl) ?_
    refine Sg.go (pc' := 4) (mi_aload_n dX11_lays_3 rfl) ?_
    refine Sg.go (pc' := 5) (mi_alen (z := 4) dX11_lays_4 (by decide) (by omega) rfl) ?_
    refine Sg.ite (fun h1 => ?_) (fun h1 => ?_)
    · refine Sg.go (pc' := 55) (mi_icmpge_t (tgt := 55) dX11_lays_5 (by decide) h1) ?_
      exact Sg.ret (mi_return dX11_lays_55 rfl (0, 0))
    · refine Sg.go (pc' := 8) (mi_icmpge_f (tgt := 55) dX11_lays_5 (by decide) h1) ?_
      refine Sg.go (pc' := 9) (mi_iload_n dX11_lays_8 rfl) ?_
      refine Sg.ite (fun h2 => ?_) (fun h2 => ?_)
      · refine Sg.go (pc' := 27) (mi_ifeq_t (tgt := 27) dX11_lays_9 (by decide) h2) ?_
        refine Sg.go (pc' := 28) (mi_aload_n dX11_lays_27 rfl) ?_
        refine Sg.go (pc' := 31) (mi_gfA (t := 66) (v := 0) (r := 40) (k := 27) dX11_lays_28 hC_40 (by decide) rfl wF_X11_72 (by omega) rfl (hL.1 27 (by decide))) ?_
        refine Sg.go (pc' := 32) (mi_aload_n dX11_lays_31 rfl) ?_
        refine Sg.go (pc' := 35) (mi_gfI (r := 40) (k := 29) dX11_lays_32 hC_40 (by decide) rfl wF_X11_426 (by omega) rfl) ?_
        refine Sg.go (pc' := 36) (mi_aload_n dX11_lays_35 rfl) ?_
        refine Sg.go (pc' := 37) (mi_iload_n dX11_lays_36 rfl) ?_
        refine Sg.ck (fun hk3 => ?_)
        refine Sg.go (pc' := 38) (mi_iald (n := 4) dX11_lays_37 rfl rfl (by omega) hk3) ?_
        refine Sg.ck (fun hk4 => ?_)
        refine Sg.goM (pc' := 39) (mi_iast (n := 2000) dX11_lays_38 rfl rfl (by omega) hk4) ?_
        refine Sg.letD (fun D5 hD5 => ?_)
        exact S_X11_lays_r63_39 hL K2 v1 v2 v3 D5 hb1 hb2
      · refine Sg.go (pc' := 12) (mi_ifeq_f (tgt := 27) dX11_lays_9 (by decide) h2) ?_
        refine Sg.go (pc' := 13) (mi_aload_n dX11_lays_12 rfl) ?_
        refine Sg.go (pc' := 14) (mi_iload_n dX11_lays_13 rfl) ?_
        refine Sg.go (pc' := 15) (mi_aload_n dX11_lays_14 rfl) ?_
        refine Sg.go (pc' := 18) (mi_gfA (t := 66) (v := 0) (r := 40) (k := 27) dX11_lays_15 hC_40 (by decide) rfl wF_X11_72 (by omega) rfl (hL.1 27 (by decide))) ?_
        refine Sg.go (pc' := 19) (mi_aload_n dX11_lays_18 rfl) ?_
        refine Sg.go (pc' := 22) (mi_gfI (r := 40) (k := 29) dX11_lays_19 hC_40 (by decide) rfl wF_X11_426 (by omega) rfl) ?_
        refine Sg.ck (fun hk6 => ?_)
        refine Sg.go (pc' := 23) (mi_iald (n := 2000) dX11_lays_22 rfl rfl (by omega) hk6) ?_
        refine Sg.ck (fun hk7 => ?_)
        refine Sg.goM (pc' := 24) (mi_iast (n := 4) dX11_lays_23 rfl rfl (by omega) hk7) ?_
        refine Sg.letD (fun D8 hD8 => ?_)
        refine Sg.go (pc' := 39) (mi_goto (tgt := 39) dX11_lays_24 (by decide)) ?_
        exact S_X11_lays_r63_39 hL K2 v1 v2 v3 D8 hb1 hb2
def B_X11_lays_r63 (v1 : Int) (v2 : Int) (D : MiD) : Option (MiD) := B_X11_lays_r63_2 mi_fuel v1 v2 0 D
set_option maxRecDepth 20000 in
theorem S_X11_lays_r63 {Z : MiZ} (hL : ML Z) (v1 v2 : Int) (D : MiD) : (0 ≤ v1 ∧ v1 < 60) → (v2 = 0 ∨ v2 = 1) → Sg m_X11_lays_r63 0 [(42, 0), (65, v1), (0, v2), mi_un] [] (D, Z) (mi_LV Z) (B_X11_lays_r63 v1 v2 D) := by
  intro hb1 hb2
  unfold B_X11_lays_r63
  refine Sg.go (pc' := 1) (mi_iconst (z := 0) dX11_lays_0 rfl) ?_
  refine Sg.go (pc' := 2) (mi_istore_n (ls1 := [(42, 0), (65, v1), (0, v2), (0, 0)]) dX11_lays_1 (by decide) rfl) ?_
  exact S_X11_lays_r63_2 hL mi_fuel v1 v2 0 D hb1 hb2
theorem C_X11_lays_r63 {Z : MiZ} (hL : ML Z) (a1 a2 : Int) (D : MiD) (h0 : (0 ≤ a1 ∧ a1 < 60)) (h1 : (a2 = 0 ∨ a2 = 1)) (b : MiD) (hb : B_X11_lays_r63 a1 a2 D = some b) : MC m_X11_lays_r63 [(42, 0), (65, a1), (0, a2)] (D, Z) ((mi_LV Z) b) := MC.ofSg (L := (mi_LV Z)) (μ := m_X11_lays_r63) (args := [(42, 0), (65, a1), (0, a2)]) (M := (D, Z)) rfl wP_X11 (Nat.le_of_ble_eq_true rfl) (show Sg m_X11_lays_r63 0 [(42, 0), (65, a1), (0, a2), mi_un] [] (D, Z) (mi_LV Z) (B_X11_lays_r63 a1 a2 D) from S_X11_lays_r63 hL a1 a2 D h0 h1) hb
abbrev m_X11_lays_r64 : MiI := (yX11_lays, cX11_lays, 4, none, 1, none)
def B_X11_lays_r64_39 (k2 : Int → Int → MiD → Option (MiD)) (v2 : Int) (v3 : Int) (D : MiD) : Option (MiD) := mi_let (mi_st D 40 0 29 (mi_w ((D 40 0 29) + 1))) fun D1 => k2 v2 (mi_w (v3 + 1)) D1
set_option maxRecDepth 20000 in
theorem S_X11_lays_r64_39 {Z : MiZ} (hL : ML Z) {k2 : Int → Int → MiD → Option (MiD)} (K2 : ∀ (v2 v3 : Int) (D : MiD), (v2 = 0 ∨ v2 = 1) → Sg m_X11_lays_r64 2 [(42, 0), (66, 0), (0, v2), (0, v3)] [] (D, Z) (mi_LV Z) (k2 v2 v3 D)) (v2 v3 : Int) (D : MiD) : (v2 = 0 ∨ v2 = 1) → Sg m_X11_lays_r64 39 [(42, 0), (66, 0), (0, v2), (0, v3)] [] (D, Z) (mi_LV Z) (B_X11_lays_r64_39 k2 v2 v3 D) := by
  intro hb2
  unfold B_X11_lays_r64_39
  refine Sg.go (pc' := 40) (mi_aload_n dX11_lays_39 rfl) ?_
  refine Sg.go (pc' := 41) (mi_dup dX11_lays_40 (show (42 : Nat) ≠ 1 by decide)) ?_
  refine Sg.go (pc' := 44) (mi_gfI (r := 40) (k := 29) dX11_lays_41 hC_40 (by decide) rfl wF_X11_426 (by omega) rfl) ?_
  refine Sg.go (pc' := 45) (mi_iconst (z := 1) dX11_lays_44 rfl) ?_
  refine Sg.go (pc' := 46) (mi_iadd dX11_lays_45) ?_
  refine Sg.goM (pc' := 49) (mi_pfD (r := 40) (k := 29) (t := 0) dX11_lays_46 hC_40 (by decide) rfl rfl wF_X11_426 (by omega) rfl (by decide) (Or.inl ⟨rfl, rfl⟩)) ?_
  refine Sg.letD (fun D1 hD1 => ?_)
  refine Sg.go (pc' := 52) (mi_iinc (z := 1) (ls1 := [(42, 0), (66, 0), (0, v2), (0, (mi_w (v3 + 1)))]) dX11_lays_49 (by decide) rfl rfl rfl) ?_
  refine Sg.go (pc' := 2) (mi_goto (tgt := 2) dX11_lays_52 (by decide)) ?_
  exact K2 v2 (mi_w (v3 + 1)) D1 hb2
def B_X11_lays_r64_2 : Nat → Int → Int → MiD → Option (MiD)
  | 0, _, _, _ => none
  | f + 1, v2, v3, D => if 8 ≤ v3 then (some D) else (if v2 = 0 then (if 0 ≤ v3 ∧ v3 < 8 then (if 0 ≤ (D 40 0 29) ∧ (D 40 0 29) < 2000 then (mi_let (mi_st D 66 0 (D 40 0 29) (D 64 0 v3)) fun D5 => B_X11_lays_r64_39 (B_X11_lays_r64_2 f) v2 v3 D5) else none) else none) else (if 0 ≤ (D 40 0 29) ∧ (D 40 0 29) < 2000 then (if 0 ≤ v3 ∧ v3 < 8 then (mi_let (mi_st D 64 0 v3 (D 66 0 (D 40 0 29))) fun D8 => B_X11_lays_r64_39 (B_X11_lays_r64_2 f) v2 v3 D8) else none) else none))
set_option maxRecDepth 20000 in
theorem S_X11_lays_r64_2 {Z : MiZ} (hL : ML Z) : ∀ (f : Nat) (v2 v3 : Int) (D : MiD), (v2 = 0 ∨ v2 = 1) → Sg m_X11_lays_r64 2 [(42, 0), (66, 0), (0, v2), (0, v3)] [] (D, Z) (mi_LV Z) (B_X11_lays_r64_2 f v2 v3 D) := by
  intro f
  induction f with
  | zero => intros; exact Sg.nope
  | succ f K2 =>
    intro v2 v3 D hb2
    show Sg m_X11_lays_r64 2 [(42, 0), (66, 0), (0, v2), (0, v3)] [] (D, Z) (mi_LV Z) (if 8 ≤ v3 then (some D) else (if v2 = 0 then (if 0 ≤ v3 ∧ v3 < 8 then (if 0 ≤ (D 40 0 29) ∧ (D 40 0 29) < 2000 then (mi_let (mi_st D 66 0 (D 40 0 29) (D 64 0 v3)) fun D5 => B_X11_lays_r64_39 (B_X11_lays_r64_2 f) v2 v3 D5) else none) else none) else (if 0 ≤ (D 40 0 29) ∧ (D 40 0 29) < 2000 then (if 0 ≤ v3 ∧ v3 < 8 then (mi_let (mi_st D 64 0 v3 (D 66 0 (D 40 0 29))) fun D8 => B_X11_lays_r64_39 (B_X11_lays_r64_2 f) v2 v3 D8) else none) else none)))
    refine Sg.go (pc' := 3) (mi_iload_n dX11_lays_2 rfl) ?_
    refine Sg.go (pc' := 4) (mi_aload_n dX11_lays_3 rfl) ?_
    refine Sg.go (pc' := 5) (mi_alen (z := 8) dX11_lays_4 (by decide) (by omega) rfl) ?_
    refine Sg.ite (fun h1 => ?_) (fun h1 => ?_)
    · refine Sg.go (pc' := 55) (mi_icmpge_t (tgt := 55) dX11_lays_5 (by decide) h1) ?_
      exact Sg.ret (mi_return dX11_lays_55 rfl (0, 0))
    · refine Sg.go (pc' := 8) (mi_icmpge_f (tgt := 55) dX11_lays_5 (by decide) h1) ?_
      refine Sg.go (pc' := 9) (mi_iload_n dX11_lays_8 rfl) ?_
      refine Sg.ite (fun h2 => ?_) (fun h2 => ?_)
      · refine Sg.go (pc' := 27) (mi_ifeq_t (tgt := 27) dX11_lays_9 (by decide) h2) ?_
        refine Sg.go (pc' := 28) (mi_aload_n dX11_lays_27 rfl) ?_
        refine Sg.go (pc' := 31) (mi_gfA (t := 66) (v := 0) (r := 40) (k := 27) dX11_lays_28 hC_40 (by decide) rfl wF_X11_72 (by omega) rfl (hL.1 27 (by decide))) ?_
        refine Sg.go (pc' := 32) (mi_aload_n dX11_lays_31 rfl) ?_
        refine Sg.go (pc' := 35) (mi_gfI (r := 40) (k := 29) dX11_lays_32 hC_40 (by decide) rfl wF_X11_426 (by omega) rfl) ?_
        refine Sg.go (pc' := 36) (mi_aload_n dX11_lays_35 rfl) ?_
        refine Sg.go (pc' := 37) (mi_iload_n dX11_lays_36 rfl) ?_
        refine Sg.ck (fun hk3 => ?_)
        refine Sg.go (pc' := 38) (mi_iald (n := 8) dX11_lays_37 rfl rfl (by omega) hk3) ?_
        refine Sg.ck (fun hk4 => ?_)
        refine Sg.goM (pc' := 39) (mi_iast (n := 2000) dX11_lays_38 rfl rfl (by omega) hk4) ?_
        refine Sg.letD (fun D5 hD5 => ?_)
        exact S_X11_lays_r64_39 hL K2 v2 v3 D5 hb2
      · refine Sg.go (pc' := 12) (mi_ifeq_f (tgt := 27) dX11_lays_9 (by decide) h2) ?_
        refine Sg.go (pc' := 13) (mi_aload_n dX11_lays_12 rfl) ?_
        refine Sg.go (pc' := 14) (mi_iload_n dX11_lays_13 rfl) ?_
        refine Sg.go (pc' := 15) (mi_aload_n dX11_lays_14 rfl) ?_
        refine Sg.go (pc' := 18) (mi_gfA (t := 66) (v := 0) (r := 40) (k := 27) dX11_lays_15 hC_40 (by decide) rfl wF_X11_72 (by omega) rfl (hL.1 27 (by decide))) ?_
        refine Sg.go (pc' := 19) (mi_aload_n dX11_lays_18 rfl) ?_
        refine Sg.go (pc' := 22) (mi_gfI (r := 40) (k := 29) dX11_lays_19 hC_40 (by decide) rfl wF_X11_426 (by omega) rfl) ?_
        refine Sg.ck (fun hk6 => ?_)
        refine Sg.go (pc' := 23) (mi_iald (n := 2000) dX11_lays_22 rfl rfl (by omega) hk6) ?_
        refine Sg.ck (fun hk7 => ?_)
        refine Sg.goM (pc' := 24) (mi_iast (n := 8) dX11_lays_23 rfl rfl (by omega) hk7) ?_
        refine Sg.letD (fun D8 hD8 => ?_)
        refine Sg.go (pc' := 39) (mi_goto (tgt := 39) dX11_lays_24 (by decide)) ?_
        exact S_X11_lays_r64_39 hL K2 v2 v3 D8 hb2
def B_X11_lays_r64 (v2 : Int) (D : MiD) : Option (MiD) := B_X11_lays_r64_2 mi_fuel v2 0 D
set_option maxRecDepth 20000 in
theorem S_X11_lays_r64 {Z : MiZ} (hL : ML Z) (v2 : Int) (D : MiD) : (v2 = 0 ∨ v2 = 1) → Sg m_X11_lays_r64 0 [(42, 0), (66, 0), (0, v2), mi_un] [] (D, Z) (mi_LV Z) (B_X11_lays_r64 v2 D) := by
  intro hb2
  unfold B_X11_lays_r64
  refine Sg.go (pc' := 1) (mi_iconst (z := 0) dX11_lays_0 rfl) ?_
  refine Sg.go (pc' := 2) (mi_istore_n (ls1 := [(42, 0), (66, 0), (0, v2), (0, 0)]) dX11_lays_1 (by decide) rfl) ?_
  exact S_X11_lays_r64_2 hL mi_fuel v2 0 D hb2
theorem C_X11_lays_r64 {Z : MiZ} (hL : ML Z) (a2 : Int) (D : MiD) (h0 : (a2 = 0 ∨ a2 = 1)) (b : MiD) (hb : B_X11_lays_r64 a2 D = some b) : MC m_X11_lays_r64 [(42, 0), (66, 0), (0, a2)] (D, Z) ((mi_LV Z) b) := MC.ofSg (L := (mi_LV Z)) (μ := m_X11_lays_r64) (args := [(42, 0), (66, 0), (0, a2)]) (M := (D, Z)) rfl wP_X11 (Nat.le_of_ble_eq_true rfl) (show Sg m_X11_lays_r64 0 [(42, 0), (66, 0), (0, a2), mi_un] [] (D, Z) (mi_LV Z) (B_X11_lays_r64 a2 D) from S_X11_lays_r64 hL a2 D h0) hb
abbrev m_X11_lays_r65 : MiI := (yX11_lays, cX11_lays, 4, none, 1, none)
def B_X11_lays_r65_39 (k2 : Int → Int → MiD → Option (MiD)) (v2 : Int) (v3 : Int) (D : MiD) : Option (MiD) := mi_let (mi_st D 40 0 29 (mi_w ((D 40 0 29) + 1))) fun D1 => k2 v2 (mi_w (v3 + 1)) D1
set_option maxRecDepth 20000 in
theorem S_X11_lays_r65_39 {Z : MiZ} (hL : ML Z) {k2 : Int → Int → MiD → Option (MiD)} (K2 : ∀ (v2 v3 : Int) (D : MiD), (v2 = 0 ∨ v2 = 1) → Sg m_X11_lays_r65 2 [(42, 0), (67, 0), (0, v2), (0, v3)] [] (D, Z) (mi_LV Z) (k2 v2 v3 D)) (v2 v3 : Int) (D : MiD) : (v2 = 0 ∨ v2 = 1) → Sg m_X11_lays_r65 39 [(42, 0), (67, 0), (0, v2), (0, v3)] [] (D, Z) (mi_LV Z) (B_X11_lays_r65_39 k2 v2 v3 D) := by
  intro hb2
  unfold B_X11_lays_r65_39
  refine Sg.go (pc' := 40) (mi_aload_n dX11_lays_39 rfl) ?_
  refine Sg.go (pc' := 41) (mi_dup dX11_lays_40 (show (42 : Nat) ≠ 1 by decide)) ?_
  refine Sg.go (pc' := 44) (mi_gfI (r := 40) (k := 29) dX11_lays_41 hC_40 (by decide) rfl wF_X11_426 (by omega) rfl) ?_
  refine Sg.go (pc' := 45) (mi_iconst (z := 1) dX11_lays_44 rfl) ?_
  refine Sg.go (pc' := 46) (mi_iadd dX11_lays_45) ?_
  refine Sg.goM (pc' := 49) (mi_pfD (r := 40) (k := 29) (t := 0) dX11_lays_46 hC_40 (by decide) rfl rfl wF_X11_426 (by omega) rfl (by decide) (Or.inl ⟨rfl, rfl⟩)) ?_
  refine Sg.letD (fun D1 hD1 => ?_)
  refine Sg.go (pc' := 52) (mi_iinc (z := 1) (ls1 := [(42, 0), (67, 0), (0, v2), (0, (mi_w (v3 + 1)))]) dX11_lays_49 (by decide) rfl rfl rfl) ?_
  refine Sg.go (pc' := 2) (mi_goto (tgt := 2) dX11_lays_52 (by decide)) ?_
  exact K2 v2 (mi_w (v3 + 1)) D1 hb2
def B_X11_lays_r65_2 : Nat → Int → Int → MiD → Option (MiD)
  | 0, _, _, _ => none
  | f + 1, v2, v3, D => if 8 ≤ v3 then (some D) else (if v2 = 0 then (if 0 ≤ v3 ∧ v3 < 8 then (if 0 ≤ (D 40 0 29) ∧ (D 40 0 29) < 2000 then (mi_let (mi_st D 66 0 (D 40 0 29) (D 65 0 v3)) fun D5 => B_X11_lays_r65_39 (B_X11_lays_r65_2 f) v2 v3 D5) else none) else none) else (if 0 ≤ (D 40 0 29) ∧ (D 40 0 29) < 2000 then (if 0 ≤ v3 ∧ v3 < 8 then (mi_let (mi_st D 65 0 v3 (D 66 0 (D 40 0 29))) fun D8 => B_X11_lays_r65_39 (B_X11_lays_r65_2 f) v2 v3 D8) else none) else none))
set_option maxRecDepth 20000 in
theorem S_X11_lays_r65_2 {Z : MiZ} (hL : ML Z) : ∀ (f : Nat) (v2 v3 : Int) (D : MiD), (v2 = 0 ∨ v2 = 1) → Sg m_X11_lays_r65 2 [(42, 0), (67, 0), (0, v2), (0, v3)] [] (D, Z) (mi_LV Z) (B_X11_lays_r65_2 f v2 v3 D) := by
  intro f
  induction f with
  | zero => intros; exact Sg.nope
  | succ f K2 =>
    intro v2 v3 D hb2
    show Sg m_X11_lays_r65 2 [(42, 0), (67, 0), (0, v2), (0, v3)] [] (D, Z) (mi_LV Z) (if 8 ≤ v3 then (some D) else (if v2 = 0 then (if 0 ≤ v3 ∧ v3 < 8 then (if 0 ≤ (D 40 0 29) ∧ (D 40 0 29) < 2000 then (mi_let (mi_st D 66 0 (D 40 0 29) (D 65 0 v3)) fun D5 => B_X11_lays_r65_39 (B_X11_lays_r65_2 f) v2 v3 D5) else none) else none) else (if 0 ≤ (D 40 0 29) ∧ (D 40 0 29) < 2000 then (if 0 ≤ v3 ∧ v3 < 8 then (mi_let (mi_st D 65 0 v3 (D 66 0 (D 40 0 29))) fun D8 => B_X11_lays_r65_39 (B_X11_lays_r65_2 f) v2 v3 D8) else none) else none)))
    refine Sg.go (pc' := 3) (mi_iload_n dX11_lays_2 rfl) ?_
    refine Sg.go (pc' := 4) (mi_aload_n dX11_lays_3 rfl) ?_
    refine Sg.go (pc' := 5) (mi_alen (z := 8) dX11_lays_4 (by decide) (by omega) rfl) ?_
    refine Sg.ite (fun h1 => ?_) (fun h1 => ?_)
    · refine Sg.go (pc' := 55) (mi_icmpge_t (tgt := 55) dX11_lays_5 (by decide) h1) ?_
      exact Sg.ret (mi_return dX11_lays_55 rfl (0, 0))
    · refine Sg.go (pc' := 8) (mi_icmpge_f (tgt := 55) dX11_lays_5 (by decide) h1) ?_
      refine Sg.go (pc' := 9) (mi_iload_n dX11_lays_8 rfl) ?_
      refine Sg.ite (fun h2 => ?_) (fun h2 => ?_)
      · refine Sg.go (pc' := 27) (mi_ifeq_t (tgt := 27) dX11_lays_9 (by decide) h2) ?_
        refine Sg.go (pc' := 28) (mi_aload_n dX11_lays_27 rfl) ?_
        refine Sg.go (pc' := 31) (mi_gfA (t := 66) (v := 0) (r := 40) (k := 27) dX11_lays_28 hC_40 (by decide) rfl wF_X11_72 (by omega) rfl (hL.1 27 (by decide))) ?_
        refine Sg.go (pc' := 32) (mi_aload_n dX11_lays_31 rfl) ?_
        refine Sg.go (pc' := 35) (mi_gfI (r := 40) (k := 29) dX11_lays_32 hC_40 (by decide) rfl wF_X11_426 (by omega) rfl) ?_
        refine Sg.go (pc' := 36) (mi_aload_n dX11_lays_35 rfl) ?_
        refine Sg.go (pc' := 37) (mi_iload_n dX11_lays_36 rfl) ?_
        refine Sg.ck (fun hk3 => ?_)
        refine Sg.go (pc' := 38) (mi_iald (n := 8) dX11_lays_37 rfl rfl (by omega) hk3) ?_
        refine Sg.ck (fun hk4 => ?_)
        refine Sg.goM (pc' := 39) (mi_iast (n := 2000) dX11_lays_38 rfl rfl (by omega) hk4) ?_
        refine Sg.letD (fun D5 hD5 => ?_)
        exact S_X11_lays_r65_39 hL K2 v2 v3 D5 hb2
      · refine Sg.go (pc' := 12) (mi_ifeq_f (tgt := 27) dX11_lays_9 (by decide) h2) ?_
        refine Sg.go (pc' := 13) (mi_aload_n dX11_lays_12 rfl) ?_
        refine Sg.go (pc' := 14) (mi_iload_n dX11_lays_13 rfl) ?_
        refine Sg.go (pc' := 15) (mi_aload_n dX11_lays_14 rfl) ?_
        refine Sg.go (pc' := 18) (mi_gfA (t := 66) (v := 0) (r := 40) (k := 27) dX11_lays_15 hC_40 (by decide) rfl wF_X11_72 (by omega) rfl (hL.1 27 (by decide))) ?_
        refine Sg.go (pc' := 19) (mi_aload_n dX11_lays_18 rfl) ?_
        refine Sg.go (pc' := 22) (mi_gfI (r := 40) (k := 29) dX11_lays_19 hC_40 (by decide) rfl wF_X11_426 (by omega) rfl) ?_
        refine Sg.ck (fun hk6 => ?_)
        refine Sg.go (pc' := 23) (mi_iald (n := 2000) dX11_lays_22 rfl rfl (by omega) hk6) ?_
        refine Sg.ck (fun hk7 => ?_)
        refine Sg.goM (pc' := 24) (mi_iast (n := 8) dX11_lays_23 rfl rfl (by omega) hk7) ?_
        refine Sg.letD (fun D8 hD8 => ?_)
        refine Sg.go (pc' := 39) (mi_goto (tgt := 39) dX11_lays_24 (by decide)) ?_
        exact S_X11_lays_r65_39 hL K2 v2 v3 D8 hb2
def B_X11_lays_r65 (v2 : Int) (D : MiD) : Option (MiD) := B_X11_lays_r65_2 mi_fuel v2 0 D
set_option maxRecDepth 20000 in
theorem S_X11_lays_r65 {Z : MiZ} (hL : ML Z) (v2 : Int) (D : MiD) : (v2 = 0 ∨ v2 = 1) → Sg m_X11_lays_r65 0 [(42, 0), (67, 0), (0, v2), mi_un] [] (D, Z) (mi_LV Z) (B_X11_lays_r65 v2 D) := by
  intro hb2
  unfold B_X11_lays_r65
  refine Sg.go (pc' := 1) (mi_iconst (z := 0) dX11_lays_0 rfl) ?_
  refine Sg.go (pc' := 2) (mi_istore_n (ls1 := [(42, 0), (67, 0), (0, v2), (0, 0)]) dX11_lays_1 (by decide) rfl) ?_
  exact S_X11_lays_r65_2 hL mi_fuel v2 0 D hb2
theorem C_X11_lays_r65 {Z : MiZ} (hL : ML Z) (a2 : Int) (D : MiD) (h0 : (a2 = 0 ∨ a2 = 1)) (b : MiD) (hb : B_X11_lays_r65 a2 D = some b) : MC m_X11_lays_r65 [(42, 0), (67, 0), (0, a2)] (D, Z) ((mi_LV Z) b) := MC.ofSg (L := (mi_LV Z)) (μ := m_X11_lays_r65) (args := [(42, 0), (67, 0), (0, a2)]) (M := (D, Z)) rfl wP_X11 (Nat.le_of_ble_eq_true rfl) (show Sg m_X11_lays_r65 0 [(42, 0), (67, 0), (0, a2), mi_un] [] (D, Z) (mi_LV Z) (B_X11_lays_r65 a2 D) from S_X11_lays_r65 hL a2 D h0) hb
abbrev m_X11_leftToTurn : MiI := (yX11_leftToTurn, cX11_leftToTurn, 3, (some .int), 1, none)
def B_X11_leftToTurn_43 (D : MiD) (k4 : Int → Int → Option (Int)) (v2 : Int) (s0 : Int) (s1 : Int) : Option (Int) := mi_let (mi_w (s0 + s1)) fun x1 => k4 x1 (mi_w (v2 + 1))
set_option maxRecDepth 20000 in
theorem S_X11_leftToTurn_43 {D : MiD} {Z : MiZ} (hL : ML Z) {k4 : Int → Int → Option (Int)} (K4 : ∀ (v1 v2 : Int), Sg m_X11_leftToTurn 4 [(42, 0), (0, v1), (0, v2)] [] (D, Z) (mi_LI 0 (D, Z)) (k4 v1 v2)) (v2 s0 s1 : Int) : Sg m_X11_leftToTurn 43 [(42, 0), mi_un, (0, v2)] [(0, s1), (0, s0)] (D, Z) (mi_LI 0 (D, Z)) (B_X11_leftToTurn_43 D k4 v2 s0 s1) := by
  unfold B_X11_leftToTurn_43
  refine Sg.go (pc' := 44) (mi_iadd dX11_leftToTurn_43) ?_
  refine Sg.letI (fun x1 hx1 => ?_)
  refine Sg.go (pc' := 45) (mi_istore_n (ls1 := [(42, 0), (0, x1), (0, v2)]) dX11_leftToTurn_44 (by decide) rfl) ?_
  refine Sg.go (pc' := 48) (mi_iinc (z := 1) (ls1 := [(42, 0), (0, x1), (0, (mi_w (v2 + 1)))]) dX11_leftToTurn_45 (by decide) rfl rfl rfl) ?_
  refine Sg.go (pc' := 4) (mi_goto (tgt := 4) dX11_leftToTurn_48 (by decide)) ?_
  exact K4 x1 (mi_w (v2 + 1))
def B_X11_leftToTurn_4 (D : MiD) : Nat → Int → Int → Option (Int)
  | 0, _, _ => none
  | f + 1, v1, v2 => if 6 ≤ v2 then (some v1) else (if (D 65 0 1) = (-1) then (some v1) else (if 0 ≤ v2 ∧ v2 < 7 then (if (D 59 v2 4) ≠ (D 65 0 2) then (B_X11_leftToTurn_43 D (B_X11_leftToTurn_4 D f) v2 v1 1) else (B_X11_leftToTurn_43 D (B_X11_leftToTurn_4 D f) v2 v1 0)) else none))
set_option maxRecDepth 20000 in
theorem S_X11_leftToTurn_4 {D : MiD} {Z : MiZ} (hL : ML Z) : ∀ (f : Nat) (v1 v2 : Int), Sg m_X11_leftToTurn 4 [(42, 0), (0, v1), (0, v2)] [] (D, Z) (mi_LI 0 (D, Z)) (B_X11_leftToTurn_4 D f v1 v2) := by
  intro f
  induction f with
  | zero => intros; exact Sg.nope
  | succ f K4 =>
    intro v1 v2
    show Sg m_X11_leftToTurn 4 [(42, 0), (0, v1), (0, v2)] [] (D, Z) (mi_LI 0 (D, Z)) (if 6 ≤ v2 then (some v1) else (if (D 65 0 1) = (-1) then (some v1) else (if 0 ≤ v2 ∧ v2 < 7 then (if (D 59 v2 4) ≠ (D 65 0 2) then (B_X11_leftToTurn_43 D (B_X11_leftToTurn_4 D f) v2 v1 1) else (B_X11_leftToTurn_43 D (B_X11_leftToTurn_4 D f) v2 v1 0)) else none)))
    refine Sg.go (pc' := 5) (mi_iload_n dX11_leftToTurn_4 rfl) ?_
    refine Sg.go (pc' := 7) (mi_bipush (z := 6) dX11_leftToTurn_5 rfl) ?_
    refine Sg.ite (fun h1 => ?_) (fun h1 => ?_)
    · refine Sg.go (pc' := 51) (mi_icmpge_t (tgt := 51) dX11_leftToTurn_7 (by decide) h1) ?_
      refine Sg.go (pc' := 52) (mi_iload_n dX11_leftToTurn_51 rfl) ?_
      exact Sg.ret (mi_ireturn dX11_leftToTurn_52 rfl (Or.inl rfl))
    · refine Sg.go (pc' := 10) (mi_icmpge_f (tgt := 51) dX11_leftToTurn_7 (by decide) h1) ?_
      refine Sg.go (pc' := 11) (mi_aload_n dX11_leftToTurn_10 rfl) ?_
      refine Sg.go (pc' := 14) (mi_gfA (t := 65) (v := 0) (r := 40) (k := 24) dX11_leftToTurn_11 hC_40 (by decide) rfl wF_X11_69 (by omega) rfl (hL.1 24 (by decide))) ?_
      refine Sg.go (pc' := 15) (mi_iconst (z := 1) dX11_leftToTurn_14 rfl) ?_
      refine Sg.go (pc' := 16) (mi_iald (n := 8) dX11_leftToTurn_15 rfl rfl (by omega) (by decide)) ?_
      refine Sg.go (pc' := 17) (mi_iconst (z := (-1)) dX11_leftToTurn_16 rfl) ?_
      refine Sg.ite (fun h2 => ?_) (fun h2 => ?_)
      · refine Sg.go (pc' := 51) (mi_icmpeq_t (tgt := 51) dX11_leftToTurn_17 (by decide) h2) ?_
        refine Sg.go (pc' := 52) (mi_iload_n dX11_leftToTurn_51 rfl) ?_
        exact Sg.ret (mi_ireturn dX11_leftToTurn_52 rfl (Or.inl rfl))
      · refine Sg.go (pc' := 20) (mi_icmpeq_f (tgt := 51) dX11_leftToTurn_17 (by decide) h2) ?_
        refine Sg.go (pc' := 21) (mi_iload_n dX11_leftToTurn_20 rfl) ?_
        refine Sg.go (pc' := 22) (mi_aload_n dX11_leftToTurn_21 rfl) ?_
        refine Sg.go (pc' := 25) (mi_gfA (t := 58) (v := 0) (r := 40) (k := 20) dX11_leftToTurn_22 hC_40 (by decide) rfl wF_X11_56 (by omega) rfl (hL.1 20 (by decide))) ?_
        refine Sg.go (pc' := 26) (mi_iload_n dX11_leftToTurn_25 rfl) ?_
        refine Sg.ck (fun hk3 => ?_)
        refine Sg.go (pc' := 27) (mi_aald (n := 7) (t := 59) (v := v2) dX11_leftToTurn_26 rfl hA_58 rfl (by omega) hk3 rfl (hL.2.2.2.2.2.2.1 _ hk3.1 hk3.2)) ?_
        refine Sg.go (pc' := 28) (mi_iconst (z := 4) dX11_leftToTurn_27 rfl) ?_
        refine Sg.go (pc' := 29) (mi_iald (n := 7) dX11_leftToTurn_28 rfl rfl (by omega) (by decide)) ?_
        refine Sg.go (pc' := 30) (mi_aload_n dX11_leftToTurn_29 rfl) ?_
        refine Sg.go (pc' := 33) (mi_gfA (t := 65) (v := 0) (r := 40) (k := 24) dX11_leftToTurn_30 hC_40 (by decide) rfl wF_X11_69 (by omega) rfl (hL.1 24 (by decide))) ?_
        refine Sg.go (pc' := 34) (mi_iconst (z := 2) dX11_leftToTurn_33 rfl) ?_
        refine Sg.go (pc' := 35) (mi_iald (n := 8) dX11_leftToTurn_34 rfl rfl (by omega) (by decide)) ?_
        refine Sg.ite (fun h4 => ?_) (fun h4 => ?_)
        · refine Sg.go (pc' := 42) (mi_icmpne_t (tgt := 42) dX11_leftToTurn_35 (by decide) h4) ?_
          refine Sg.go (pc' := 43) (mi_iconst (z := 1) dX11_leftToTurn_42 rfl) ?_
          refine Sg.go (pc' := 43) (MiStep.weak (ls' := [(42, 0), mi_un, (0, v2)]) (mi_wk_y (mi_wk_n (mi_wk_y mi_wk_0)))) ?_
          exact S_X11_leftToTurn_43 hL K4 v2 v1 1
        · refine Sg.go (pc' := 38) (mi_icmpne_f (tgt := 42) dX11_leftToTurn_35 (by decide) h4) ?_
          refine Sg.go (pc' := 39) (mi_iconst (z := 0) dX11_leftToTurn_38 rfl) ?_
          refine Sg.go (pc' := 43) (mi_goto (tgt := 43) dX11_leftToTurn_39 (by decide)) ?_
          refine Sg.go (pc' := 43) (MiStep.weak (ls' := [(42, 0), mi_un, (0, v2)]) (mi_wk_y (mi_wk_n (mi_wk_y mi_wk_0)))) ?_
          exact S_X11_leftToTurn_43 hL K4 v2 v1 0
def B_X11_leftToTurn (D : MiD) : Option (Int) := B_X11_leftToTurn_4 D mi_fuel 0 0
set_option maxRecDepth 20000 in
theorem S_X11_leftToTurn {D : MiD} {Z : MiZ} (hL : ML Z) : Sg m_X11_leftToTurn 0 [(42, 0), mi_un, mi_un] [] (D, Z) (mi_LI 0 (D, Z)) (B_X11_leftToTurn D) := by
  unfold B_X11_leftToTurn
  refine Sg.go (pc' := 1) (mi_iconst (z := 0) dX11_leftToTurn_0 rfl) ?_
  refine Sg.go (pc' := 2) (mi_istore_n (ls1 := [(42, 0), (0, 0), mi_un]) dX11_leftToTurn_1 (by decide) rfl) ?_
  refine Sg.go (pc' := 3) (mi_iconst (z := 0) dX11_leftToTurn_2 rfl) ?_
  refine Sg.go (pc' := 4) (mi_istore_n (ls1 := [(42, 0), (0, 0), (0, 0)]) dX11_leftToTurn_3 (by decide) rfl) ?_
  exact S_X11_leftToTurn_4 hL mi_fuel 0 0
theorem C_X11_leftToTurn {Z : MiZ} (hL : ML Z) (D : MiD) (b : Int) (hb : B_X11_leftToTurn D = some b) : MC m_X11_leftToTurn [(42, 0)] (D, Z) ((mi_LI 0 (D, Z)) b) := MC.ofSg (L := (mi_LI 0 (D, Z))) (μ := m_X11_leftToTurn) (args := [(42, 0)]) (M := (D, Z)) rfl wP_X11 (Nat.le_of_ble_eq_true rfl) (show Sg m_X11_leftToTurn 0 [(42, 0), mi_un, mi_un] [] (D, Z) (mi_LI 0 (D, Z)) (B_X11_leftToTurn D) from S_X11_leftToTurn hL) hb
