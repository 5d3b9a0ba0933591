abbrev m_X11_less : MiI := (yX11_less, cX11_less, 2, (some .int), 1, none)
def B_X11_less (v0 : Int) (v1 : Int) : Int := if v1 ≤ v0 then v1 else v0
set_option maxRecDepth 20000 in
theorem S_X11_less {D : MiD} {Z : MiZ} (hL : ML Z) (v0 v1 : Int) : Sg m_X11_less 0 [(0, v0), (0, v1)] [] (D, Z) (mi_LI 0 (D, Z)) (some (B_X11_less v0 v1)) := by
  unfold B_X11_less
  refine Sg.go (pc' := 1) (mi_iload_n dX11_less_0 rfl) ?_
  refine Sg.go (pc' := 2) (mi_iload_n dX11_less_1 rfl) ?_
  refine Sg.iteS (fun h1 => ?_) (fun h1 => ?_)
  · refine Sg.go (pc' := 9) (mi_icmpge_t (tgt := 9) dX11_less_2 (by decide) h1) ?_
    refine Sg.go (pc' := 10) (mi_iload_n dX11_less_9 rfl) ?_
    exact Sg.ret (mi_ireturn dX11_less_10 rfl (Or.inl rfl))
  · refine Sg.go (pc' := 5) (mi_icmpge_f (tgt := 9) dX11_less_2 (by decide) h1) ?_
    refine Sg.go (pc' := 6) (mi_iload_n dX11_less_5 rfl) ?_
    refine Sg.go (pc' := 10) (mi_goto (tgt := 10) dX11_less_6 (by decide)) ?_
    exact Sg.ret (mi_ireturn dX11_less_10 rfl (Or.inl rfl))
theorem C_X11_less {Z : MiZ} (hL : ML Z) (a0 a1 : Int) (D : MiD) : MC m_X11_less [(0, a0), (0, a1)] (D, Z) (mi_LI 0 (D, Z) (B_X11_less a0 a1)) := MC.ofSg (L := (mi_LI 0 (D, Z))) (μ := m_X11_less) (args := [(0, a0), (0, a1)]) (M := (D, Z)) rfl wP_X11 (Nat.le_of_ble_eq_true rfl) (show Sg m_X11_less 0 [(0, a0), (0, a1)] [] (D, Z) (mi_LI 0 (D, Z)) (some (B_X11_less a0 a1)) from S_X11_less hL a0 a1) rfl
abbrev m_X11_placeOf : MiI := (yX11_placeOf, cX11_placeOf, 3, (some .int), 1, none)
def B_X11_placeOf_2 (D : MiD) : Nat → Int → Int → Option (Int)
  | 0, _, _ => none
  | f + 1, v1, v2 => if (D 65 0 0) ≤ v2 then (some (-1)) else (if 0 ≤ v2 ∧ v2 < 8 then (if (D 64 0 v2) ≠ v1 then (B_X11_placeOf_2 D f v1 (mi_w (v2 + 1))) else (some v2)) else none)
set_option maxRecDepth 20000 in
theorem S_X11_placeOf_2 {D : MiD} {Z : MiZ} (hL : ML Z) : ∀ (f : Nat) (v1 v2 : Int), Sg m_X11_placeOf 2 [(42, 0), (0, v1), (0, v2)] [] (D, Z) (mi_LI 0 (D, Z)) (B_X11_placeOf_2 D f v1 v2) := by
  intro f
  induction f with
  | zero => intros; exact Sg.nope
  | succ f K2 =>
    intro v1 v2
    show Sg m_X11_placeOf 2 [(42, 0), (0, v1), (0, v2)] [] (D, Z) (mi_LI 0 (D, Z)) (if (D 65 0 0) ≤ v2 then (some (-1)) else (if 0 ≤ v2 ∧ v2 < 8 then (if (D 64 0 v2) ≠ v1 then (B_X11_placeOf_2 D f v1 (mi_w (v2 + 1))) else (some v2)) else none))
    refine Sg.go (pc' := 3) (mi_iload_n dX11_placeOf_2 rfl) ?_
    refine Sg.go (pc' := 4) (mi_aload_n dX11_placeOf_3 rfl) ?_
    refine Sg.go (pc' := 7) (mi_gfA (t := 65) (v := 0) (r := 40) (k := 24) dX11_placeOf_4 hC_40 (by decide) rfl wF_X11_69 (by omega) rfl (hL.1 24 (by decide))) ?_
    refine Sg.go (pc' := 8) (mi_iconst (z := 0) dX11_placeOf_7 rfl) ?_
    refine Sg.go (pc' := 9) (mi_iald (n := 8) dX11_placeOf_8 rfl rfl (by omega) (by decide)) ?_
    refine Sg.ite (fun h1 => ?_) (fun h1 => ?_)
    · refine Sg.go (pc' := 30) (mi_icmpge_t (tgt := 30) dX11_placeOf_9 (by decide) h1) ?_
      refine Sg.go (pc' := 31) (mi_iconst (z := (-1)) dX11_placeOf_30 rfl) ?_
      exact Sg.ret (mi_ireturn dX11_placeOf_31 rfl (Or.inl rfl))
    · refine Sg.go (pc' := 12) (mi_icmpge_f (tgt := 30) dX11_placeOf_9 (by decide) h1) ?_
      refine Sg.go (pc' := 13) (mi_aload_n dX11_placeOf_12 rfl) ?_
      refine Sg.go (pc' := 16) (mi_gfA (t := 64) (v := 0) (r := 40) (k := 23) dX11_placeOf_13 hC_40 (by decide) rfl wF_X11_66 (by omega) rfl (hL.1 23 (by decide))) ?_
      refine Sg.go (pc' := 17) (mi_iload_n dX11_placeOf_16 rfl) ?_
      refine Sg.ck (fun hk2 => ?_)
      refine Sg.go (pc' := 18) (mi_iald (n := 8) dX11_placeOf_17 rfl rfl (by omega) hk2) ?_
      refine Sg.go (pc' := 19) (mi_iload_n dX11_placeOf_18 rfl) ?_
      refine Sg.ite (fun h3 => ?_) (fun h3 => ?_)
      · refine Sg.go (pc' := 24) (mi_icmpne_t (tgt := 24) dX11_placeOf_19 (by decide) h3) ?_
        refine Sg.go (pc' := 27) (mi_iinc (z := 1) (ls1 := [(42, 0), (0, v1), (0, (mi_w (v2 + 1)))]) dX11_placeOf_24 (by decide) rfl rfl rfl) ?_
        refine Sg.go (pc' := 2) (mi_goto (tgt := 2) dX11_placeOf_27 (by decide)) ?_
        exact K2 v1 (mi_w (v2 + 1))
      · refine Sg.go (pc' := 22) (mi_icmpne_f (tgt := 24) dX11_placeOf_19 (by decide) h3) ?_
        refine Sg.go (pc' := 23) (mi_iload_n dX11_placeOf_22 rfl) ?_
        exact Sg.ret (mi_ireturn dX11_placeOf_23 rfl (Or.inl rfl))
def B_X11_placeOf (D : MiD) (v1 : Int) : Option (Int) := B_X11_placeOf_2 D mi_fuel v1 0
set_option maxRecDepth 20000 in
theorem S_X11_placeOf {D : MiD} {Z : MiZ} (hL : ML Z) (v1 : Int) : Sg m_X11_placeOf 0 [(42, 0), (0, v1), mi_un] [] (D, Z) (mi_LI 0 (D, Z)) (B_X11_placeOf D v1) := by
  unfold B_X11_placeOf
  refine Sg.go (pc' := 1) (mi_iconst (z := 0) dX11_placeOf_0 rfl) ?_
  refine Sg.go (pc' := 2) (mi_istore_n (ls1 := [(42, 0), (0, v1), (0, 0)]) dX11_placeOf_1 (by decide) rfl) ?_
  exact S_X11_placeOf_2 hL mi_fuel v1 0
theorem C_X11_placeOf {Z : MiZ} (hL : ML Z) (a1 : Int) (D : MiD) (b : Int) (hb : B_X11_placeOf D a1 = some b) : MC m_X11_placeOf [(42, 0), (0, a1)] (D, Z) ((mi_LI 0 (D, Z)) b) := MC.ofSg (L := (mi_LI 0 (D, Z))) (μ := m_X11_placeOf) (args := [(42, 0), (0, a1)]) (M := (D, Z)) rfl wP_X11 (Nat.le_of_ble_eq_true rfl) (show Sg m_X11_placeOf 0 [(42, 0), (0, a1), mi_un] [] (D, Z) (mi_LI 0 (D, Z)) (B_X11_placeOf D a1) from S_X11_placeOf hL a1) hb
abbrev m_X11_places : MiI := (yX11_places, cX11_places, 3, (some .int), 1, none)
def B_X11_places_4 (D : MiD) : Nat → Int → Int → Option (Int)
  | 0, _, _ => none
  | f + 1, v1, v2 => if 60 ≤ v2 then (some v1) else (if 0 ≤ v2 ∧ v2 < 61 then (mi_let (mi_w (v1 + (D 53 0 v2))) fun x3 => B_X11_places_4 D f x3 (mi_w (v2 + 1))) else none)
set_option maxRecDepth 20000 in
theorem S_X11_places_4 {D : MiD} {Z : MiZ} (hL : ML Z) : ∀ (f : Nat) (v1 v2 : Int), Sg m_X11_places 4 [(42, 0), (0, v1), (0, v2)] [] (D, Z) (mi_LI 0 (D, Z)) (B_X11_places_4 D f v1 v2) := by
  intro f
  induction f with
  | zero => intros; exact Sg.nope
  | succ f K4 =>
    intro v1 v2
    show Sg m_X11_places 4 [(42, 0), (0, v1), (0, v2)] [] (D, Z) (mi_LI 0 (D, Z)) (if 60 ≤ v2 then (some v1) else (if 0 ≤ v2 ∧ v2 < 61 then (mi_let (mi_w (v1 + (D 53 0 v2))) fun x3 => B_X11_places_4 D f x3 (mi_w (v2 + 1))) else none))
    refine Sg.go (pc' := 5) (mi_iload_n dX11_places_4 rfl) ?_
    refine Sg.go (pc' := 7) (mi_bipush (z := 60) dX11_places_5 rfl) ?_
    refine Sg.ite (fun h1 => ?_) (fun h1 => ?_)
    · refine Sg.go (pc' := 25) (mi_icmpge_t (tgt := 25) dX11_places_7 (by decide) h1) ?_
      refine Sg.go (pc' := 26) (mi_iload_n dX11_places_25 rfl) ?_
      exact Sg.ret (mi_ireturn dX11_places_26 rfl (Or.inl rfl))
    · refine Sg.go (pc' := 10) (mi_icmpge_f (tgt := 25) dX11_places_7 (by decide) h1) ?_
      refine Sg.go (pc' := 11) (mi_iload_n dX11_places_10 rfl) ?_
      refine Sg.go (pc' := 12) (mi_aload_n dX11_places_11 rfl) ?_
      refine Sg.go (pc' := 15) (mi_gfA (t := 53) (v := 0) (r := 40) (k := 17) dX11_places_12 hC_40 (by decide) rfl wF_X11_45 (by omega) rfl (hL.1 17 (by decide))) ?_
      refine Sg.go (pc' := 16) (mi_iload_n dX11_places_15 rfl) ?_
      refine Sg.ck (fun hk2 => ?_)
      refine Sg.go (pc' := 17) (mi_iald (n := 61) dX11_places_16 rfl rfl (by omega) hk2) ?_
      refine Sg.go (pc' := 18) (mi_iadd dX11_places_17) ?_
      refine Sg.letI (fun x3 hx3 => ?_)
      refine Sg.go (pc' := 19) (mi_istore_n (ls1 := [(42, 0), (0, x3), (0, v2)]) dX11_places_18 (by decide) rfl) ?_
      refine Sg.go (pc' := 22) (mi_iinc (z := 1) (ls1 := [(42, 0), (0, x3), (0, (mi_w (v2 + 1)))]) dX11_places_19 (by decide) rfl rfl rfl) ?_
      refine Sg.go (pc' := 4) (mi_goto (tgt := 4) dX11_places_22 (by decide)) ?_
      exact K4 x3 (mi_w (v2 + 1))
def B_X11_places (D : MiD) : Option (Int) := B_X11_places_4 D mi_fuel 0 0
set_option maxRecDepth 20000 in
theorem S_X11_places {D : MiD} {Z : MiZ} (hL : ML Z) : Sg m_X11_places 0 [(42, 0), mi_un, mi_un] [] (D, Z) (mi_LI 0 (D, Z)) (B_X11_places D) := by
  unfold B_X11_places
  refine Sg.go (pc' := 1) (mi_iconst (z := 0) dX11_places_0 rfl) ?_
  refine Sg.go (pc' := 2) (mi_istore_n (ls1 := [(42, 0), (0, 0), mi_un]) dX11_places_1 (by decide) rfl) ?_
  refine Sg.go (pc' := 3) (mi_iconst (z := 0) dX11_places_2 rfl) ?_
  refine Sg.go (pc' := 4) (mi_istore_n (ls1 := [(42, 0), (0, 0), (0, 0)]) dX11_places_3 (by decide) rfl) ?_
  exact S_X11_places_4 hL mi_fuel 0 0
theorem C_X11_places {Z : MiZ} (hL : ML Z) (D : MiD) (b : Int) (hb : B_X11_places D = some b) : MC m_X11_places [(42, 0)] (D, Z) ((mi_LI 0 (D, Z)) b) := MC.ofSg (L := (mi_LI 0 (D, Z))) (μ := m_X11_places) (args := [(42, 0)]) (M := (D, Z)) rfl wP_X11 (Nat.le_of_ble_eq_true rfl) (show Sg m_X11_places 0 [(42, 0), mi_un, mi_un] [] (D, Z) (mi_LI 0 (D, Z)) (B_X11_places D) from S_X11_places hL) hb
abbrev m_X11_rowOf : MiI := (yX11_rowOf, cX11_rowOf, 3, (some .int), 1, none)
def B_X11_rowOf (v1 : Int) (v2 : Int) : Int := if v2 ≠ (-1) then (mi_w ((mi_w (10 + (mi_w (5 * v1)))) + v2)) else v1
set_option maxRecDepth 20000 in
theorem S_X11_rowOf {D : MiD} {Z : MiZ} (hL : ML Z) (v1 v2 : Int) : Sg m_X11_rowOf 0 [mi_un, (0, v1), (0, v2)] [] (D, Z) (mi_LI 0 (D, Z)) (some (B_X11_rowOf v1 v2)) := by
  unfold B_X11_rowOf
  refine Sg.go (pc' := 1) (mi_iload_n dX11_rowOf_0 rfl) ?_
  refine Sg.go (pc' := 2) (mi_iconst (z := (-1)) dX11_rowOf_1 rfl) ?_
  refine Sg.iteS (fun h1 => ?_) (fun h1 => ?_)
  · refine Sg.go (pc' := 9) (mi_icmpne_t (tgt := 9) dX11_rowOf_2 (by decide) h1) ?_
    refine Sg.go (pc' := 11) (mi_bipush (z := 10) dX11_rowOf_9 rfl) ?_
    refine Sg.go (pc' := 12) (mi_iconst (z := 5) dX11_rowOf_11 rfl) ?_
    refine Sg.go (pc' := 13) (mi_iload_n dX11_rowOf_12 rfl) ?_
    refine Sg.go (pc' := 14) (mi_imul dX11_rowOf_13) ?_
    refine Sg.go (pc' := 15) (mi_iadd dX11_rowOf_14) ?_
    refine Sg.go (pc' := 16) (mi_iload_n dX11_rowOf_15 rfl) ?_
    refine Sg.go (pc' := 17) (mi_iadd dX11_rowOf_16) ?_
    exact Sg.ret (mi_ireturn dX11_rowOf_17 rfl (Or.inl rfl))
  · refine Sg.go (pc' := 5) (mi_icmpne_f (tgt := 9) dX11_rowOf_2 (by decide) h1) ?_
    refine Sg.go (pc' := 6) (mi_iload_n dX11_rowOf_5 rfl) ?_
    refine Sg.go (pc' := 17) (mi_goto (tgt := 17) dX11_rowOf_6 (by decide)) ?_
    exact Sg.ret (mi_ireturn dX11_rowOf_17 rfl (Or.inl rfl))
theorem C_X11_rowOf {Z : MiZ} (hL : ML Z) (a1 a2 : Int) (D : MiD) : MC m_X11_rowOf [(42, 0), (0, a1), (0, a2)] (D, Z) (mi_LI 0 (D, Z) (B_X11_rowOf a1 a2)) := MC.ofSg (L := (mi_LI 0 (D, Z))) (μ := m_X11_rowOf) (args := [(42, 0), (0, a1), (0, a2)]) (M := (D, Z)) rfl wP_X11 (Nat.le_of_ble_eq_true rfl) (show Sg m_X11_rowOf 0 [(42, 0), (0, a1), (0, a2)] [] (D, Z) (mi_LI 0 (D, Z)) (some (B_X11_rowOf a1 a2)) from Sg.go (pc' := 0) (MiStep.weak (ls' := [mi_un, (0, a1), (0, a2)]) (mi_wk_n (mi_wk_y (mi_wk_y mi_wk_0)))) (S_X11_rowOf hL a1 a2)) rfl
abbrev m_X11_shadows : MiI := (yX11_shadows, cX11_shadows, 3, (some .int), 1, none)
def B_X11_shadows_28 (D : MiD) (k5 : Int → Int → Option (Int)) (v2 : Int) (s0 : Int) (s1 : Int) : Option (Int) := mi_let (mi_w (s0 + s1)) fun x1 => k5 x1 (mi_w (v2 + 1))
set_option maxRecDepth 20000 in
theorem S_X11_shadows_28 {D : MiD} {Z : MiZ} (hL : ML Z) {k5 : Int → Int → Option (Int)} (K5 : ∀ (v1 v2 : Int), Sg m_X11_shadows 5 [(42, 0), (0, v1), (0, v2)] [] (D, Z) (mi_LI 0 (D, Z)) (k5 v1 v2)) (v2 s0 s1 : Int) : Sg m_X11_shadows 28 [(42, 0), mi_un, (0, v2)] [(0, s1), (0, s0)] (D, Z) (mi_LI 0 (D, Z)) (B_X11_shadows_28 D k5 v2 s0 s1) := by
  unfold B_X11_shadows_28
  refine Sg.go (pc' := 29) (mi_iadd dX11_shadows_28) ?_
  refine Sg.letI (fun x1 hx1 => ?_)
  refine Sg.go (pc' := 30) (mi_istore_n (ls1 := [(42, 0), (0, x1), (0, v2)]) dX11_shadows_29 (by decide) rfl) ?_
  refine Sg.go (pc' := 33) (mi_iinc (z := 1) (ls1 := [(42, 0), (0, x1), (0, (mi_w (v2 + 1)))]) dX11_shadows_30 (by decide) rfl rfl rfl) ?_
  refine Sg.go (pc' := 5) (mi_goto (tgt := 5) dX11_shadows_33 (by decide)) ?_
  exact K5 x1 (mi_w (v2 + 1))
def B_X11_shadows_5 (D : MiD) : Nat → Int → Int → Option (Int)
  | 0, _, _ => none
  | f + 1, v1, v2 => if 60 ≤ v2 then (some v1) else (if 0 ≤ v2 ∧ v2 < 61 then (if (D 52 0 v2) = 12 then (B_X11_shadows_28 D (B_X11_shadows_5 D f) v2 v1 0) else (B_X11_shadows_28 D (B_X11_shadows_5 D f) v2 v1 1)) else none)
set_option maxRecDepth 20000 in
theorem S_X11_shadows_5 {D : MiD} {Z : MiZ} (hL : ML Z) : ∀ (f : Nat) (v1 v2 : Int), Sg m_X11_shadows 5 [(42, 0), (0, v1), (0, v2)] [] (D, Z) (mi_LI 0 (D, Z)) (B_X11_shadows_5 D f v1 v2) := by
  intro f
  induction f with
  | zero => intros; exact Sg.nope
  | succ f K5 =>
    intro v1 v2
    show Sg m_X11_shadows 5 [(42, 0), (0, v1), (0, v2)] [] (D, Z) (mi_LI 0 (D, Z)) (if 60 ≤ v2 then (some v1) else (if 0 ≤ v2 ∧ v2 < 61 then (if (D 52 0 v2) = 12 then (B_X11_shadows_28 D (B_X11_shadows_5 D f) v2 v1 0) else (B_X11_shadows_28 D (B_X11_shadows_5 D f) v2 v1 1)) else none))
    refine Sg.go (pc' := 6) (mi_iload_n dX11_shadows_5 rfl) ?_
    refine Sg.go (pc' := 8) (mi_bipush (z := 60) dX11_shadows_6 rfl) ?_
    refine Sg.ite (fun h1 => ?_) (fun h1 => ?_)
    · refine Sg.go (pc' := 36) (mi_icmpge_t (tgt := 36) dX11_shadows_8 (by decide) h1) ?_
      refine Sg.go (pc' := 37) (mi_iload_n dX11_shadows_36 rfl) ?_
      exact Sg.ret (mi_ireturn dX11_shadows_37 rfl (Or.inl rfl))
    · refine Sg.go (pc' := 11) (mi_icmpge_f (tgt := 36) dX11_shadows_8 (by decide) h1) ?_
      refine Sg.go (pc' := 12) (mi_iload_n dX11_shadows_11 rfl) ?_
      refine Sg.go (pc' := 13) (mi_aload_n dX11_shadows_12 rfl) ?_
      refine Sg.go (pc' := 16) (mi_gfA (t := 52) (v := 0) (r := 40) (k := 16) dX11_shadows_13 hC_40 (by decide) rfl wF_X11_42 (by omega) rfl (hL.1 16 (by decide))) ?_
      refine Sg.go (pc' := 17) (mi_iload_n dX11_shadows_16 rfl) ?_
      refine Sg.ck (fun hk2 => ?_)
      refine Sg.go (pc' := 18) (mi_iald (n := 61) dX11_shadows_17 rfl rfl (by omega) hk2) ?_
      refine Sg.go (pc' := 20) (mi_bipush (z := 12) dX11_shadows_18 rfl) ?_
      refine Sg.ite (fun h3 => ?_) (fun h3 => ?_)
      · refine Sg.go (pc' := 27) (mi_icmpeq_t (tgt := 27) dX11_shadows_20 (by decide) h3) ?_
        refine Sg.go (pc' := 28) (mi_iconst (z := 0) dX11_shadows_27 rfl) ?_
        refine Sg.go (pc' := 28) (MiStep.weak (ls' := [(42, 0), mi_un, (0, v2)]) (mi_wk_y (mi_wk_n (mi_wk_y mi_wk_0)))) ?_
        exact S_X11_shadows_28 hL K5 v2 v1 0
      · refine Sg.go (pc' := 23) (mi_icmpeq_f (tgt := 27) dX11_shadows_20 (by decide) h3) ?_
        refine Sg.go (pc' := 24) (mi_iconst (z := 1) dX11_shadows_23 rfl) ?_
        refine Sg.go (pc' := 28) (mi_goto (tgt := 28) dX11_shadows_24 (by decide)) ?_
        refine Sg.go (pc' := 28) (MiStep.weak (ls' := [(42, 0), mi_un, (0, v2)]) (mi_wk_y (mi_wk_n (mi_wk_y mi_wk_0)))) ?_
        exact S_X11_shadows_28 hL K5 v2 v1 1
def B_X11_shadows (D : MiD) : Option (Int) := B_X11_shadows_5 D mi_fuel 0 10
set_option maxRecDepth 20000 in
theorem S_X11_shadows {D : MiD} {Z : MiZ} (hL : ML Z) : Sg m_X11_shadows 0 [(42, 0), mi_un, mi_un] [] (D, Z) (mi_LI 0 (D, Z)) (B_X11_shadows D) := by
  unfold B_X11_shadows
  refine Sg.go (pc' := 1) (mi_iconst (z := 0) dX11_shadows_0 rfl) ?_
  refine Sg.go (pc' := 2) (mi_istore_n (ls1 := [(42, 0), (0, 0), mi_un]) dX11_shadows_1 (by decide) rfl) ?_
  refine Sg.go (pc' := 4) (mi_bipush (z := 10) dX11_shadows_2 rfl) ?_
  refine Sg.go (pc' := 5) (mi_istore_n (ls1 := [(42, 0), (0, 0), (0, 10)]) dX11_shadows_4 (by decide) rfl) ?_
  exact S_X11_shadows_5 hL mi_fuel 0 10
theorem C_X11_shadows {Z : MiZ} (hL : ML Z) (D : MiD) (b : Int) (hb : B_X11_shadows D = some b) : MC m_X11_shadows [(42, 0)] (D, Z) ((mi_LI 0 (D, Z)) b) := MC.ofSg (L := (mi_LI 0 (D, Z))) (μ := m_X11_shadows) (args := [(42, 0)]) (M := (D, Z)) rfl wP_X11 (Nat.le_of_ble_eq_true rfl) (show Sg m_X11_shadows 0 [(42, 0), mi_un, mi_un] [] (D, Z) (mi_LI 0 (D, Z)) (B_X11_shadows D) from S_X11_shadows hL) hb
abbrev m_X11_starts : MiI := (yX11_starts, cX11_starts, 2, none, 1, none)
def B_X11_starts (v1 : Int) (D : MiD) : Option (MiD) := mi_let (mi_st D 40 0 2 0) fun D1 => mi_let (mi_st D1 40 0 3 v1) fun D2 => mi_let (mi_st D2 40 0 4 0) fun D3 => mi_let (mi_st D3 40 0 6 0) fun D4 => mi_let (mi_st D4 40 0 7 (-1)) fun D5 => some D5
set_option maxRecDepth 20000 in
theorem S_X11_starts {Z : MiZ} (hL : ML Z) (v1 : Int) (D : MiD) : Sg m_X11_starts 0 [(42, 0), (0, v1)] [] (D, Z) (mi_LV Z) (B_X11_starts v1 D) := by
  unfold B_X11_starts
  refine Sg.go (pc' := 1) (mi_aload_n dX11_starts_0 rfl) ?_
  refine Sg.go (pc' := 2) (mi_iconst (z := 0) dX11_starts_1 rfl) ?_
  refine Sg.goM (pc' := 5) (mi_pfD (r := 40) (k := 2) (t := 0) dX11_starts_2 hC_40 (by decide) rfl rfl wF_X11_81 (by omega) rfl (by decide) (Or.inl ⟨rfl, rfl⟩)) ?_
  refine Sg.letD (fun D1 hD1 => ?_)
  refine Sg.go (pc' := 6) (mi_aload_n dX11_starts_5 rfl) ?_
  refine Sg.go (pc' := 7) (mi_iload_n dX11_starts_6 rfl) ?_
  refine Sg.goM (pc' := 10) (mi_pfD (r := 40) (k := 3) (t := 0) dX11_starts_7 hC_40 (by decide) rfl rfl wF_X11_84 (by omega) rfl (by decide) (Or.inl ⟨rfl, rfl⟩)) ?_
  refine Sg.letD (fun D2 hD2 => ?_)
  refine Sg.go (pc' := 11) (mi_aload_n dX11_starts_10 rfl) ?_
  refine Sg.go (pc' := 12) (mi_iconst (z := 0) dX11_starts_11 rfl) ?_
  refine Sg.goM (pc' := 15) (mi_pfD (r := 40) (k := 4) (t := 0) dX11_starts_12 hC_40 (by decide) rfl rfl wF_X11_87 (by omega) rfl (by decide) (Or.inl ⟨rfl, rfl⟩)) ?_
  refine Sg.letD (fun D3 hD3 => ?_)
  refine Sg.go (pc' := 16) (mi_aload_n dX11_starts_15 rfl) ?_
  refine Sg.go (pc' := 17) (mi_iconst (z := 0) dX11_starts_16 rfl) ?_
  refine Sg.goM (pc' := 20) (mi_pfD (r := 40) (k := 6) (t := 0) dX11_starts_17 hC_40 (by decide) rfl rfl wF_X11_94 (by omega) rfl (by decide) (Or.inl ⟨rfl, rfl⟩)) ?_
  refine Sg.letD (fun D4 hD4 => ?_)
  refine Sg.go (pc' := 21) (mi_aload_n dX11_starts_20 rfl) ?_
  refine Sg.go (pc' := 22) (mi_iconst (z := (-1)) dX11_starts_21 rfl) ?_
  refine Sg.goM (pc' := 25) (mi_pfD (r := 40) (k := 7) (t := 0) dX11_starts_22 hC_40 (by decide) rfl rfl wF_X11_97 (by omega) rfl (by decide) (Or.inl ⟨rfl, rfl⟩)) ?_
  refine Sg.letD (fun D5 hD5 => ?_)
  exact Sg.ret (mi_return dX11_starts_25 rfl (0, 0))
theorem C_X11_starts {Z : MiZ} (hL : ML Z) (a1 : Int) (D : MiD) (b : MiD) (hb : B_X11_starts a1 D = some b) : MC m_X11_starts [(42, 0), (0, a1)] (D, Z) ((mi_LV Z) b) := MC.ofSg (L := (mi_LV Z)) (μ := m_X11_starts) (args := [(42, 0), (0, a1)]) (M := (D, Z)) rfl wP_X11 (Nat.le_of_ble_eq_true rfl) (show Sg m_X11_starts 0 [(42, 0), (0, a1)] [] (D, Z) (mi_LV Z) (B_X11_starts a1 D) from S_X11_starts hL a1 D) hb
abbrev m_X11_thrown : MiI := (yX11_thrown, cX11_thrown, 1, (some .int), 1, none)
def B_X11_thrown (D : MiD) : Option (Int) := some (D 40 0 0)
set_option maxRecDepth 20000 in
theorem S_X11_thrown {D : MiD} {Z : MiZ} (hL : ML Z) : Sg m_X11_thrown 0 [(42, 0)] [] (D, Z) (mi_LI 0 (D, Z)) (B_X11_thrown D) := by
  unfold B_X11_thrown
  refine Sg.go (pc' := 1) (mi_aload_n dX11_thrown_0 rfl) ?_
  refine Sg.go (pc' := 4) (mi_gfI (r := 40) (k := 0) dX11_thrown_1 hC_40 (by decide) rfl wF_X11_78 (by omega) rfl) ?_
  exact Sg.ret (mi_ireturn dX11_thrown_4 rfl (Or.inl rfl))
theorem C_X11_thrown {Z : MiZ} (hL : ML Z) (D : MiD) (b : Int) (hb : B_X11_thrown D = some b) : MC m_X11_thrown [(42, 0)] (D, Z) ((mi_LI 0 (D, Z)) b) := MC.ofSg (L := (mi_LI 0 (D, Z))) (μ := m_X11_thrown) (args := [(42, 0)]) (M := (D, Z)) rfl wP_X11 (Nat.le_of_ble_eq_true rfl) (show Sg m_X11_thrown 0 [(42, 0)] [] (D, Z) (mi_LI 0 (D, Z)) (B_X11_thrown D) from S_X11_thrown hL) hb
abbrev m_X11_wrong : MiI := (yX11_wrong, cX11_wrong, 3, none, 1, none)
def B_X11_wrong (v1 : Int) (v2 : Int) (D : MiD) : Option (MiD) := if (D 40 0 6) ≠ 0 then (some D) else (mi_let (mi_st D 40 0 6 v1) fun D2 => mi_let (mi_st D2 40 0 7 v2) fun D3 => some D3)
set_option maxRecDepth 20000 in
theorem S_X11_wrong {Z : MiZ} (hL : ML Z) (v1 v2 : Int) (D : MiD) : Sg m_X11_wrong 0 [(42, 0), (0, v1), (0, v2)] [] (D, Z) (mi_LV Z) (B_X11_wrong v1 v2 D) := by
  unfold B_X11_wrong
  refine Sg.go (pc' := 1) (mi_aload_n dX11_wrong_0 rfl) ?_
  refine Sg.go (pc' := 4) (mi_gfI (r := 40) (k := 6) dX11_wrong_1 hC_40 (by decide) rfl wF_X11_94 (by omega) rfl) ?_
  refine Sg.ite (fun h1 => ?_) (fun h1 => ?_)
  · refine Sg.go (pc' := 17) (mi_ifne_t (tgt := 17) dX11_wrong_4 (by decide) h1) ?_
    exact Sg.ret (mi_return dX11_wrong_17 rfl (0, 0))
  · refine Sg.go (pc' := 7) (mi_ifne_f (tgt := 17) dX11_wrong_4 (by decide) h1) ?_
    refine Sg.go (pc' := 8) (mi_aload_n dX11_wrong_7 rfl) ?_
    refine Sg.go (pc' := 9) (mi_iload_n dX11_wrong_8 rfl) ?_
    refine Sg.goM (pc' := 12) (mi_pfD (r := 40) (k := 6) (t := 0) dX11_wrong_9 hC_40 (by decide) rfl rfl wF_X11_94 (by omega) rfl (by decide) (Or.inl ⟨rfl, rfl⟩)) ?_
    refine Sg.letD (fun D2 hD2 => ?_)
    refine Sg.go (pc' := 13) (mi_aload_n dX11_wrong_12 rfl) ?_
    refine Sg.go (pc' := 14) (mi_iload_n dX11_wrong_13 rfl) ?_
    refine Sg.goM (pc' := 17) (mi_pfD (r := 40) (k := 7) (t := 0) dX11_wrong_14 hC_40 (by decide) rfl rfl wF_X11_97 (by omega) rfl (by decide) (Or.inl ⟨rfl, rfl⟩)) ?_
    refine Sg.letD (fun D3 hD3 => ?_)
    exact Sg.ret (mi_return dX11_wrong_17 rfl (0, 0))
theorem C_X11_wrong {Z : MiZ} (hL : ML Z) (a1 a2 : Int) (D : MiD) (b : MiD) (hb : B_X11_wrong a1 a2 D = some b) : MC m_X11_wrong [(42, 0), (0, a1), (0, a2)] (D, Z) ((mi_LV Z) b) := MC.ofSg (L := (mi_LV Z)) (μ := m_X11_wrong) (args := [(42, 0), (0, a1), (0, a2)]) (M := (D, Z)) rfl wP_X11 (Nat.le_of_ble_eq_true rfl) (show Sg m_X11_wrong 0 [(42, 0), (0, a1), (0, a2)] [] (D, Z) (mi_LV Z) (B_X11_wrong a1 a2 D) from S_X11_wrong hL a1 a2 D) hb
abbrev m_X11_areIdle : MiI := (yX11_areIdle, cX11_areIdle, 2, (some .boolean), 2, none)
def B_X11_areIdle_2 (D : MiD) : Nat → Int → Option (Int)
  | 0, _ => none
  | f + 1, v1 => if 6 ≤ v1 then (some 1) else (mi_bi (B_X11_isIdle D v1) fun y2 => if y2 ≠ 0 then (B_X11_areIdle_2 D f (mi_w (v1 + 1))) else (some 0))
set_option maxRecDepth 20000 in
theorem S_X11_areIdle_2 {D : MiD} {Z : MiZ} (hL : ML Z) : ∀ (f : Nat) (v1 : Int), Sg m_X11_areIdle 2 [(42, 0), (0, v1)] [] (D, Z) (mi_LI 0 (D, Z)) (B_X11_areIdle_2 D f v1) := by
  intro f
  induction f with
  | zero => intros; exact Sg.nope
  | succ f K2 =>
    intro v1
    show Sg m_X11_areIdle 2 [(42, 0), (0, v1)] [] (D, Z) (mi_LI 0 (D, Z)) (if 6 ≤ v1 then (some 1) else (mi_bi (B_X11_isIdle D v1) fun y2 => if y2 ≠ 0 then (B_X11_areIdle_2 D f (mi_w (v1 + 1))) else (some 0)))
    refine Sg.go (pc' := 3) (mi_iload_n dX11_areIdle_2 rfl) ?_
    refine Sg.go (pc' := 5) (mi_bipush (z := 6) dX11_areIdle_3 rfl) ?_
    refine Sg.ite (fun h1 => ?_) (fun h1 => ?_)
    · refine Sg.go (pc' := 24) (mi_icmpge_t (tgt := 24) dX11_areIdle_5 (by decide) h1) ?_
      refine Sg.go (pc' := 25) (mi_iconst (z := 1) dX11_areIdle_24 rfl) ?_
      exact Sg.ret (mi_ireturn dX11_areIdle_25 rfl (Or.inr (Or.inl ⟨rfl, Or.inr rfl⟩)))
    · refine Sg.go (pc' := 8) (mi_icmpge_f (tgt := 24) dX11_areIdle_5 (by decide) h1) ?_
      refine Sg.go (pc' := 9) (mi_aload_n dX11_areIdle_8 rfl) ?_
      refine Sg.go (pc' := 10) (mi_iload_n dX11_areIdle_9 rfl) ?_
      refine Sg.callI (pc' := 13) (t := 0) (μ' := m_X11_isIdle) (args := [(42, 0), (0, v1)]) (mi_invV (n := 1) (r := 40) dX11_areIdle_10 hC_40 (by omega) rfl rfl wN_X11_isIdle rfl ⟨by decide, by decide⟩ wL_X11_223 wI_X11_isIdle wS_X11_isIdle wB_X11 wC_X11_isIdle) (fun v hv => C_X11_isIdle hL v1 D v hv) (Nat.le_of_ble_eq_true rfl) rfl rfl (fun y2 => ?_)
      refine Sg.ite (fun h3 => ?_) (fun h3 => ?_)
      · refine Sg.go (pc' := 18) (mi_ifne_t (tgt := 18) dX11_areIdle_13 (by decide) h3) ?_
        refine Sg.go (pc' := 21) (mi_iinc (z := 1) (ls1 := [(42, 0), (0, (mi_w (v1 + 1)))]) dX11_areIdle_18 (by decide) rfl rfl rfl) ?_
        refine Sg.go (pc' := 2) (mi_goto (tgt := 2) dX11_areIdle_21 (by decide)) ?_
        exact K2 (mi_w (v1 + 1))
      · refine Sg.go (pc' := 16) (mi_ifne_f (tgt := 18) dX11_areIdle_13 (by decide) h3) ?_
        refine Sg.go (pc' := 17) (mi_iconst (z := 0) dX11_areIdle_16 rfl) ?_
        exact Sg.ret (mi_ireturn dX11_areIdle_17 rfl (Or.inr (Or.inl ⟨rfl, Or.inl rfl⟩)))
def B_X11_areIdle (D : MiD) : Option (Int) := B_X11_areIdle_2 D mi_fuel 0
set_option maxRecDepth 20000 in
theorem S_X11_areIdle {D : MiD} {Z : MiZ} (hL : ML Z) : Sg m_X11_areIdle 0 [(42, 0), mi_un] [] (D, Z) (mi_LI 0 (D, Z)) (B_X11_areIdle D) := by
  unfold B_X11_areIdle
  refine Sg.go (pc' := 1) (mi_iconst (z := 0) dX11_areIdle_0 rfl) ?_
  refine Sg.go (pc' := 2) (mi_istore_n (ls1 := [(42, 0), (0, 0)]) dX11_areIdle_1 (by decide) rfl) ?_
  exact S_X11_areIdle_2 hL mi_fuel 0
theorem C_X11_areIdle {Z : MiZ} (hL : ML Z) (D : MiD) (b : Int) (hb : B_X11_areIdle D = some b) : MC m_X11_areIdle [(42, 0)] (D, Z) ((mi_LI 0 (D, Z)) b) := MC.ofSg (L := (mi_LI 0 (D, Z))) (μ := m_X11_areIdle) (args := [(42, 0)]) (M := (D, Z)) rfl wP_X11 (Nat.le_of_ble_eq_true rfl) (show Sg m_X11_areIdle 0 [(42, 0), mi_un] [] (D, Z) (mi_LI 0 (D, Z)) (B_X11_areIdle D) from S_X11_areIdle hL) hb
abbrev m_X11_areSame : MiI := (yX11_areSame, cX11_areSame, 7, (some .boolean), 2, none)
def B_X11_areSame_24 (v1 : Int) (v2 : Int) (v4 : Int) (v5 : Int) : Int := if v1 ≠ v4 then 0 else (if (mi_cmp v2 v5) ≠ 0 then 0 else 1)
set_option maxRecDepth 20000 in
theorem S_X11_areSame_24 {D : MiD} {Z : MiZ} (hL : ML Z) (v1 v2 v4 v5 : Int) : Sg m_X11_areSame 24 [mi_un, (0, v1), (1, v2), mi_un, (0, v4), (1, v5), mi_un] [] (D, Z) (mi_LI 0 (D, Z)) (some (B_X11_areSame_24 v1 v2 v4 v5)) := by
  unfold B_X11_areSame_24
  refine Sg.go (pc' := 25) (mi_iload_n dX11_areSame_24 rfl) ?_
  refine Sg.go (pc' := 27) (mi_iload dX11_areSame_25 rfl) ?_
  refine Sg.iteS (fun h1 => ?_) (fun h1 => ?_)
  · refine Sg.go (pc' := 41) (mi_icmpne_t (tgt := 41) dX11_areSame_27 (by decide) h1) ?_
    refine Sg.go (pc' := 42) (mi_iconst (z := 0) dX11_areSame_41 rfl) ?_
    exact Sg.ret (mi_ireturn dX11_areSame_42 rfl (Or.inr (Or.inl ⟨rfl, Or.inl rfl⟩)))
  · refine Sg.go (pc' := 30) (mi_icmpne_f (tgt := 41) dX11_areSame_27 (by decide) h1) ?_
    refine Sg.go (pc' := 31) (mi_lload_n dX11_areSame_30 rfl) ?_
    refine Sg.go (pc' := 33) (mi_lload dX11_areSame_31 rfl) ?_
    refine Sg.go (pc' := 34) (mi_lcmp dX11_areSame_33) ?_
    refine Sg.iteS (fun h2 => ?_) (fun h2 => ?_)
    · refine Sg.go (pc' := 41) (mi_ifne_t (tgt := 41) dX11_areSame_34 (by decide) h2) ?_
      refine Sg.go (pc' := 42) (mi_iconst (z := 0) dX11_areSame_41 rfl) ?_
      exact Sg.ret (mi_ireturn dX11_areSame_42 rfl (Or.inr (Or.inl ⟨rfl, Or.inl rfl⟩)))
    · refine Sg.go (pc' := 37) (mi_ifne_f (tgt := 41) dX11_areSame_34 (by decide) h2) ?_
      refine Sg.go (pc' := 38) (mi_iconst (z := 1) dX11_areSame_37 rfl) ?_
      refine Sg.go (pc' := 42) (mi_goto (tgt := 42) dX11_areSame_38 (by decide)) ?_
      exact Sg.ret (mi_ireturn dX11_areSame_42 rfl (Or.inr (Or.inl ⟨rfl, Or.inr rfl⟩)))
def B_X11_areSame_78 (s0 : Int) (s1 : Int) : Int := if (mi_cmp s0 s1) ≠ 0 then 0 else 1
set_option maxRecDepth 20000 in
theorem S_X11_areSame_78 {D : MiD} {Z : MiZ} (hL : ML Z) (s0 s1 : Int) : Sg m_X11_areSame 78 [mi_un, mi_un, mi_un, mi_un, mi_un, mi_un, mi_un] [(1, s1), (1, s0)] (D, Z) (mi_LI 0 (D, Z)) (some (B_X11_areSame_78 s0 s1)) := by
  unfold B_X11_areSame_78
  refine Sg.go (pc' := 79) (mi_lcmp dX11_areSame_78) ?_
  refine Sg.iteS (fun h1 => ?_) (fun h1 => ?_)
  · refine Sg.go (pc' := 86) (mi_ifne_t (tgt := 86) dX11_areSame_79 (by decide) h1) ?_
    refine Sg.go (pc' := 87) (mi_iconst (z := 0) dX11_areSame_86 rfl) ?_
    exact Sg.ret (mi_ireturn dX11_areSame_87 rfl (Or.inr (Or.inl ⟨rfl, Or.inl rfl⟩)))
  · refine Sg.go (pc' := 82) (mi_ifne_f (tgt := 86) dX11_areSame_79 (by decide) h1) ?_
    refine Sg.go (pc' := 83) (mi_iconst (z := 1) dX11_areSame_82 rfl) ?_
    refine Sg.go (pc' := 87) (mi_goto (tgt := 87) dX11_areSame_83 (by decide)) ?_
    exact Sg.ret (mi_ireturn dX11_areSame_87 rfl (Or.inr (Or.inl ⟨rfl, Or.inr rfl⟩)))
def B_X11_areSame_59 (v4 : Int) (v5 : Int) (s0 : Int) : Int := if (B_X11_isQuarters v4) = 0 then (B_X11_areSame_78 s0 (mi_W (4 * v5))) else (B_X11_areSame_78 s0 v5)
set_option maxRecDepth 20000 in
theorem S_X11_areSame_59 {D : MiD} {Z : MiZ} (hL : ML Z) (v4 v5 s0 : Int) : Sg m_X11_areSame 59 [mi_un, mi_un, mi_un, mi_un, (0, v4), (1, v5), mi_un] [(1, s0)] (D, Z) (mi_LI 0 (D, Z)) (some (B_X11_areSame_59 v4 v5 s0)) := by
  unfold B_X11_areSame_59
  refine Sg.go (pc' := 61) (mi_iload dX11_areSame_59 rfl) ?_
  refine Sg.callP (pc' := 64) (t := 0) (v := (B_X11_isQuarters v4)) (μ' := m_X11_isQuarters) (args := [(0, v4)]) (mi_invS (n := 1) dX11_areSame_61 rfl wN_X11_isQuarters rfl ⟨by decide, by decide⟩ wL_X11_281 wT_X11_isQuarters wB_X11 wC_X11_isQuarters) (C_X11_isQuarters hL v4 D) (Nat.le_of_ble_eq_true rfl) rfl rfl ?_
  refine Sg.iteS (fun h1 => ?_) (fun h1 => ?_)
  · refine Sg.go (pc' := 72) (mi_ifeq_t (tgt := 72) dX11_areSame_64 (by decide) h1) ?_
    refine Sg.go (pc' := 75) (mi_ldc2 (z := 4) dX11_areSame_72 wK_X11_284 rfl) ?_
    refine Sg.go (pc' := 77) (mi_lload dX11_areSame_75 rfl) ?_
    refine Sg.go (pc' := 78) (mi_lmul dX11_areSame_77) ?_
    refine Sg.go (pc' := 78) (MiStep.weak (ls' := [mi_un, mi_un, mi_un, mi_un, mi_un, mi_un, mi_un]) (mi_wk_y (mi_wk_y (mi_wk_y (mi_wk_y (mi_wk_n (mi_wk_n (mi_wk_y mi_wk_0)))))))) ?_
    exact S_X11_areSame_78 hL s0 (mi_W (4 * v5))
  · refine Sg.go (pc' := 67) (mi_ifeq_f (tgt := 72) dX11_areSame_64 (by decide) h1) ?_
    refine Sg.go (pc' := 69) (mi_lload dX11_areSame_67 rfl) ?_
    refine Sg.go (pc' := 78) (mi_goto (tgt := 78) dX11_areSame_69 (by decide)) ?_
    refine Sg.go (pc' := 78) (MiStep.weak (ls' := [mi_un, mi_un, mi_un, mi_un, mi_un, mi_un, mi_un]) (mi_wk_y (mi_wk_y (mi_wk_y (mi_wk_y (mi_wk_n (mi_wk_n (mi_wk_y mi_wk_0)))))))) ?_
    exact S_X11_areSame_78 hL s0 v5
def B_X11_areSame (v1 : Int) (v2 : Int) (v4 : Int) (v5 : Int) : Int := if v1 = (-1) then (B_X11_areSame_24 v1 v2 v4 v5) else (if v4 = (-1) then (B_X11_areSame_24 v1 v2 v4 v5) else (if v1 = 8 then (B_X11_areSame_24 v1 v2 v4 v5) else (if v4 ≠ 8 then (if (B_X11_isQuarters v1) = 0 then (B_X11_areSame_59 v4 v5 (mi_W (4 * v2))) else (B_X11_areSame_59 v4 v5 v2)) else (B_X11_areSame_24 v1 v2 v4 v5))))
set_option maxRecDepth 20000 in
theorem S_X11_areSame {D : MiD} {Z : MiZ} (hL : ML Z) (v1 v2 v4 v5 : Int) : Sg m_X11_areSame 0 [mi_un, (0, v1), (1, v2), mi_un, (0, v4), (1, v5), mi_un] [] (D, Z) (mi_LI 0 (D, Z)) (some (B_X11_areSame v1 v2 v4 v5)) := by
  unfold B_X11_areSame
  refine Sg.go (pc' := 1) (mi_iload_n dX11_areSame_0 rfl) ?_
  refine Sg.go (pc' := 2) (mi_iconst (z := (-1)) dX11_areSame_1 rfl) ?_
  refine Sg.iteS (fun h1 => ?_) (fun h1 => ?_)
  · refine Sg.go (pc' := 24) (mi_icmpeq_t (tgt := 24) dX11_areSame_2 (by decide) h1) ?_
    exact S_X11_areSame_24 hL v1 v2 v4 v5
  · refine Sg.go (pc' := 5) (mi_icmpeq_f (tgt := 24) dX11_areSame_2 (by decide) h1) ?_
    refine Sg.go (pc' := 7) (mi_iload dX11_areSame_5 rfl) ?_
    refine Sg.go (pc' := 8) (mi_iconst (z := (-1)) dX11_areSame_7 rfl) ?_
    refine Sg.iteS (fun h2 => ?_) (fun h2 => ?_)
    · refine Sg.go (pc' := 24) (mi_icmpeq_t (tgt := 24) dX11_areSame_8 (by decide) h2) ?_
      exact S_X11_areSame_24 hL v1 v2 v4 v5
    · refine Sg.go (pc' := 11) (mi_icmpeq_f (tgt := 24) dX11_areSame_8 (by decide) h2) ?_
      refine Sg.go (pc' := 12) (mi_iload_n dX11_areSame_11 rfl) ?_
      refine Sg.go (pc' := 14) (mi_bipush (z := 8) dX11_areSame_12 rfl) ?_
      refine Sg.iteS (fun h3 => ?_) (fun h3 => ?_)
      · refine Sg.go (pc' := 24) (mi_icmpeq_t (tgt := 24) dX11_areSame_14 (by decide) h3) ?_
        exact S_X11_areSame_24 hL v1 v2 v4 v5
      · refine Sg.go (pc' := 17) (mi_icmpeq_f (tgt := 24) dX11_areSame_14 (by decide) h3) ?_
        refine Sg.go (pc' := 19) (mi_iload dX11_areSame_17 rfl) ?_
        refine Sg.go (pc' := 21) (mi_bipush (z := 8) dX11_areSame_19 rfl) ?_
        refine Sg.iteS (fun h4 => ?_) (fun h4 => ?_)
        · refine Sg.go (pc' := 43) (mi_icmpne_t (tgt := 43) dX11_areSame_21 (by decide) h4) ?_
          refine Sg.go (pc' := 44) (mi_iload_n dX11_areSame_43 rfl) ?_
          refine Sg.callP (pc' := 47) (t := 0) (v := (B_X11_isQuarters v1)) (μ' := m_X11_isQuarters) (args := [(0, v1)]) (mi_invS (n := 1) dX11_areSame_44 rfl wN_X11_isQuarters rfl ⟨by decide, by decide⟩ wL_X11_281 wT_X11_isQuarters wB_X11 wC_X11_isQuarters) (C_X11_isQuarters hL v1 D) (Nat.le_of_ble_eq_true rfl) rfl rfl ?_
          refine Sg.iteS (fun h5 => ?_) (fun h5 => ?_)
          · refine Sg.go (pc' := 54) (mi_ifeq_t (tgt := 54) dX11_areSame_47 (by decide) h5) ?_
            refine Sg.go (pc' := 57) (mi_ldc2 (z := 4) dX11_areSame_54 wK_X11_284 rfl) ?_
            refine Sg.go (pc' := 58) (mi_lload_n dX11_areSame_57 rfl) ?_
            refine Sg.go (pc' := 59) (mi_lmul dX11_areSame_58) ?_
            refine Sg.go (pc' := 59) (MiStep.weak (ls' := [mi_un, mi_un, mi_un, mi_un, (0, v4), (1, v5), mi_un]) (mi_wk_y (mi_wk_n (mi_wk_n (mi_wk_y (mi_wk_y (mi_wk_y (mi_wk_y mi_wk_0)))))))) ?_
            exact S_X11_areSame_59 hL v4 v5 (mi_W (4 * v2))
          · refine Sg.go (pc' := 50) (mi_ifeq_f (tgt := 54) dX11_areSame_47 (by decide) h5) ?_
            refine Sg.go (pc' := 51) (mi_lload_n dX11_areSame_50 rfl) ?_
            refine Sg.go (pc' := 59) (mi_goto (tgt := 59) dX11_areSame_51 (by decide)) ?_
            refine Sg.go (pc' := 59) (MiStep.weak (ls' := [mi_un, mi_un, mi_un, mi_un, (0, v4), (1, v5), mi_un]) (mi_wk_y (mi_wk_n (mi_wk_n (mi_wk_y (mi_wk_y (mi_wk_y (mi_wk_y mi_wk_0)))))))) ?_
            exact S_X11_areSame_59 hL v4 v5 v2
        · refine Sg.go (pc' := 24) (mi_icmpne_f (tgt := 43) dX11_areSame_21 (by decide) h4) ?_
          exact S_X11_areSame_24 hL v1 v2 v4 v5
theorem C_X11_areSame {Z : MiZ} (hL : ML Z) (a1 a2 a3 a4 : Int) (D : MiD) : MC m_X11_areSame [(42, 0), (0, a1), (1, a2), (0, a3), (1, a4)] (D, Z) (mi_LI 0 (D, Z) (B_X11_areSame a1 a2 a3 a4)) := MC.ofSg (L := (mi_LI 0 (D, Z))) (μ := m_X11_areSame) (args := [(42, 0), (0, a1), (1, a2), (0, a3), (1, a4)]) (M := (D, Z)) rfl wP_X11 (Nat.le_of_ble_eq_true rfl) (show Sg m_X11_areSame 0 [(42, 0), (0, a1), (1, a2), mi_un, (0, a3), (1, a4), mi_un] [] (D, Z) (mi_LI 0 (D, Z)) (some (B_X11_areSame a1 a2 a3 a4)) from Sg.go (pc' := 0) (MiStep.weak (ls' := [mi_un, (0, a1), (1, a2), mi_un, (0, a3), (1, a4), mi_un]) (mi_wk_n (mi_wk_y (mi_wk_y (mi_wk_y (mi_wk_y (mi_wk_y (mi_wk_y mi_wk_0)))))))) (S_X11_areSame hL a1 a2 a3 a4)) rfl
theorem Z_X11_areSame_24 {v1 : Int} {v2 : Int} {v4 : Int} {v5 : Int} : B_X11_areSame_24 v1 v2 v4 v5 = 0 ∨ B_X11_areSame_24 v1 v2 v4 v5 = 1 := by
  unfold B_X11_areSame_24
  repeat' split
  all_goals first | exact Or.inl rfl | exact Or.inr rfl | exact Z_X11_in | exact Z_X11_isBit | exact Z_X11_isDigit | exact Z_X11_isQuarters | exact Z_X11_isSmall
theorem Z_X11_areSame_78 {s0 : Int} {s1 : Int} : B_X11_areSame_78 s0 s1 = 0 ∨ B_X11_areSame_78 s0 s1 = 1 := by
  unfold B_X11_areSame_78
  repeat' split
  all_goals first | exact Or.inl rfl | exact Or.inr rfl | exact Z_X11_areSame_24 | exact Z_X11_in | exact Z_X11_isBit | exact Z_X11_isDigit | exact Z_X11_isQuarters | exact Z_X11_isSmall
theorem Z_X11_areSame_59 {v4 : Int} {v5 : Int} {s0 : Int} : B_X11_areSame_59 v4 v5 s0 = 0 ∨ B_X11_areSame_59 v4 v5 s0 = 1 := by
  unfold B_X11_areSame_59
  repeat' split
  all_goals first | exact Or.inl rfl | exact Or.inr rfl | exact Z_X11_areSame_24 | exact Z_X11_areSame_78 | exact Z_X11_in | exact Z_X11_isBit | exact Z_X11_isDigit | exact Z_X11_isQuarters | exact Z_X11_isSmall
theorem Z_X11_areSame {v1 : Int} {v2 : Int} {v4 : Int} {v5 : Int} : B_X11_areSame v1 v2 v4 v5 = 0 ∨ B_X11_areSame v1 v2 v4 v5 = 1 := by
  unfold B_X11_areSame
  repeat' split
  all_goals first | exact Or.inl rfl | exact Or.inr rfl | exact Z_X11_areSame_24 | exact Z_X11_areSame_78 | exact Z_X11_areSame_59 | exact Z_X11_in | exact Z_X11_isBit | exact Z_X11_isDigit | exact Z_X11_isQuarters | exact Z_X11_isSmall
abbrev m_X11_as : MiI := (yX11_as, cX11_as, 4, (some .long), 2, none)
def B_X11_as (v0 : Int) (v1 : Int) (v3 : Int) : Int := if (B_X11_isQuarters v3) = 0 then v1 else (if (B_X11_isQuarters v0) ≠ 0 then v1 else (mi_W (4 * v1)))
set_option maxRecDepth 20000 in
theorem S_X11_as {D : MiD} {Z : MiZ} (hL : ML Z) (v0 v1 v3 : Int) : Sg m_X11_as 0 [(0, v0), (1, v1), mi_un, (0, v3)] [] (D, Z) (mi_LI 1 (D, Z)) (some (B_X11_as v0 v1 v3)) := by
  unfold B_X11_as
  refine Sg.go (pc' := 1) (mi_iload_n dX11_as_0 rfl) ?_
  refine Sg.callP (pc' := 4) (t := 0) (v := (B_X11_isQuarters v3)) (μ' := m_X11_isQuarters) (args := [(0, v3)]) (mi_invS (n := 1) dX11_as_1 rfl wN_X11_isQuarters rfl ⟨by decide, by decide⟩ wL_X11_281 wT_X11_isQuarters wB_X11 wC_X11_isQuarters) (C_X11_isQuarters hL v3 D) (Nat.le_of_ble_eq_true rfl) rfl rfl ?_
  refine Sg.iteS (fun h1 => ?_) (fun h1 => ?_)
  · refine Sg.go (pc' := 22) (mi_ifeq_t (tgt := 22) dX11_as_4 (by decide) h1) ?_
    refine Sg.go (pc' := 23) (mi_lload_n dX11_as_22 rfl) ?_
    exact Sg.ret (mi_lreturn dX11_as_23 rfl)
  · refine Sg.go (pc' := 7) (mi_ifeq_f (tgt := 22) dX11_as_4 (by decide) h1) ?_
    refine Sg.go (pc' := 8) (mi_iload_n dX11_as_7 rfl) ?_
    refine Sg.callP (pc' := 11) (t := 0) (v := (B_X11_isQuarters v0)) (μ' := m_X11_isQuarters) (args := [(0, v0)]) (mi_invS (n := 1) dX11_as_8 rfl wN_X11_isQuarters rfl ⟨by decide, by decide⟩ wL_X11_281 wT_X11_isQuarters wB_X11 wC_X11_isQuarters) (C_X11_isQuarters hL v0 D) (Nat.le_of_ble_eq_true rfl) rfl rfl ?_
    refine Sg.iteS (fun h2 => ?_) (fun h2 => ?_)
    · refine Sg.go (pc' := 22) (mi_ifne_t (tgt := 22) dX11_as_11 (by decide) h2) ?_
      refine Sg.go (pc' := 23) (mi_lload_n dX11_as_22 rfl) ?_
      exact Sg.ret (mi_lreturn dX11_as_23 rfl)
    · refine Sg.go (pc' := 14) (mi_ifne_f (tgt := 22) dX11_as_11 (by decide) h2) ?_
      refine Sg.go (pc' := 17) (mi_ldc2 (z := 4) dX11_as_14 wK_X11_284 rfl) ?_
      refine Sg.go (pc' := 18) (mi_lload_n dX11_as_17 rfl) ?_
      refine Sg.go (pc' := 19) (mi_lmul dX11_as_18) ?_
      refine Sg.go (pc' := 23) (mi_goto (tgt := 23) dX11_as_19 (by decide)) ?_
      exact Sg.ret (mi_lreturn dX11_as_23 rfl)
theorem C_X11_as {Z : MiZ} (hL : ML Z) (a0 a1 a2 : Int) (D : MiD) : MC m_X11_as [(0, a0), (1, a1), (0, a2)] (D, Z) (mi_LI 1 (D, Z) (B_X11_as a0 a1 a2)) := MC.ofSg (L := (mi_LI 1 (D, Z))) (μ := m_X11_as) (args := [(0, a0), (1, a1), (0, a2)]) (M := (D, Z)) rfl wP_X11 (Nat.le_of_ble_eq_true rfl) (show Sg m_X11_as 0 [(0, a0), (1, a1), mi_un, (0, a2)] [] (D, Z) (mi_LI 1 (D, Z)) (some (B_X11_as a0 a1 a2)) from S_X11_as hL a0 a1 a2) rfl
abbrev m_X11_boxes : MiI := (yX11_boxes, cX11_boxes, 3, (some .int), 2, none)
def B_X11_boxes (v1 : Int) (v2 : Int) (D : MiD) : Option (Int × MiD) := mi_bi (B_X11_isGone D v1) fun y1 => if y1 = 0 then (if 0 ≤ v1 ∧ v1 < 61 then (if (D 52 0 v1) ≠ 11 then (if v2 < (D 53 0 v1) then (if 0 ≤ v2 ∧ v2 < 9 then (mi_let (mi_st D 40 0 25 (D 55 v1 v2)) fun D7 => mi_let (mi_st D7 40 0 26 (D7 57 v1 v2)) fun D8 => some (0, D8)) else none) else (some (1, D))) else (some (2, D))) else none) else (some (3, D))
set_option maxRecDepth 20000 in
theorem S_X11_boxes {Z : MiZ} (hL : ML Z) (v1 v2 : Int) (D : MiD) : Sg m_X11_boxes 0 [(42, 0), (0, v1), (0, v2)] [] (D, Z) (mi_LD 0 Z) (B_X11_boxes v1 v2 D) := by
  unfold B_X11_boxes
  refine Sg.go (pc' := 1) (mi_aload_n dX11_boxes_0 rfl) ?_
  refine Sg.go (pc' := 2) (mi_iload_n dX11_boxes_1 rfl) ?_
  refine Sg.callI (pc' := 5) (t := 0) (μ' := m_X11_isGone) (args := [(42, 0), (0, v1)]) (mi_invV (n := 1) (r := 40) dX11_boxes_2 hC_40 (by omega) rfl rfl wN_X11_isGone rfl ⟨by decide, by decide⟩ wL_X11_287 wI_X11_isGone wS_X11_isGone wB_X11 wC_X11_isGone) (fun v hv => C_X11_isGone hL v1 D v hv) (Nat.le_of_ble_eq_true rfl) rfl rfl (fun y1 => ?_)
  refine Sg.ite (fun h2 => ?_) (fun h2 => ?_)
  · refine Sg.go (pc' := 10) (mi_ifeq_t (tgt := 10) dX11_boxes_5 (by decide) h2) ?_
    refine Sg.go (pc' := 11) (mi_aload_n dX11_boxes_10 rfl) ?_
    refine Sg.go (pc' := 14) (mi_gfA (t := 52) (v := 0) (r := 40) (k := 16) dX11_boxes_11 hC_40 (by decide) rfl wF_X11_42 (by omega) rfl (hL.1 16 (by decide))) ?_
    refine Sg.go (pc' := 15) (mi_iload_n dX11_boxes_14 rfl) ?_
    refine Sg.ck (fun hk3 => ?_)
    refine Sg.go (pc' := 16) (mi_iald (n := 61) dX11_boxes_15 rfl rfl (by omega) hk3) ?_
    refine Sg.go (pc' := 18) (mi_bipush (z := 11) dX11_boxes_16 rfl) ?_
    refine Sg.ite (fun h4 => ?_) (fun h4 => ?_)
    · refine Sg.go (pc' := 23) (mi_icmpne_t (tgt := 23) dX11_boxes_18 (by decide) h4) ?_
      refine Sg.go (pc' := 24) (mi_iload_n dX11_boxes_23 rfl) ?_
      refine Sg.go (pc' := 25) (mi_aload_n dX11_boxes_24 rfl) ?_
      refine Sg.go (pc' := 28) (mi_gfA (t := 53) (v := 0) (r := 40) (k := 17) dX11_boxes_25 hC_40 (by decide) rfl wF_X11_45 (by omega) rfl (hL.1 17 (by decide))) ?_
      refine Sg.go (pc' := 29) (mi_iload_n dX11_boxes_28 rfl) ?_
      refine Sg.go (pc' := 30) (mi_iald (n := 61) dX11_boxes_29 rfl rfl (by omega) hk3) ?_
      refine Sg.ite (fun h5 => ?_) (fun h5 => ?_)
      · refine Sg.go (pc' := 35) (mi_icmplt_t (tgt := 35) dX11_boxes_30 (by decide) h5) ?_
        refine Sg.go (pc' := 36) (mi_aload_n dX11_boxes_35 rfl) ?_
        refine Sg.go (pc' := 37) (mi_aload_n dX11_boxes_36 rfl) ?_
        refine Sg.go (pc' := 40) (mi_gfA (t := 54) (v := 0) (r := 40) (k := 18) dX11_boxes_37 hC_40 (by decide) rfl wF_X11_48 (by omega) rfl (hL.1 18 (by decide))) ?_
        refine Sg.go (pc' := 41) (mi_iload_n dX11_boxes_40 rfl) ?_
        refine Sg.go (pc' := 42) (mi_aald (n := 61) (t := 55) (v := v1) dX11_boxes_41 rfl hA_54 rfl (by omega) hk3 rfl (hL.2.2.2.2.1 _ hk3.1 hk3.2)) ?_
        refine Sg.go (pc' := 43) (mi_iload_n dX11_boxes_42 rfl) ?_
        refine Sg.ck (fun hk6 => ?_)
        refine Sg.go (pc' := 44) (mi_iald (n := 9) dX11_boxes_43 rfl rfl (by omega) hk6) ?_
        refine Sg.goM (pc' := 47) (mi_pfD (r := 40) (k := 25) (t := 0) dX11_boxes_44 hC_40 (by decide) rfl rfl wF_X11_293 (by omega) rfl (by decide) (Or.inl ⟨rfl, rfl⟩)) ?_
        refine Sg.letD (fun D7 hD7 => ?_)
        refine Sg.go (pc' := 48) (mi_aload_n dX11_boxes_47 rfl) ?_
        refine Sg.go (pc' := 49) (mi_aload_n dX11_boxes_48 rfl) ?_
        refine Sg.go (pc' := 52) (mi_gfA (t := 56) (v := 0) (r := 40) (k := 19) dX11_boxes_49 hC_40 (by decide) rfl wF_X11_53 (by omega) rfl (hL.1 19 (by decide))) ?_
        refine Sg.go (pc' := 53) (mi_iload_n dX11_boxes_52 rfl) ?_
        refine Sg.go (pc' := 54) (mi_aald (n := 61) (t := 57) (v := v1) dX11_boxes_53 rfl hA_56 rfl (by omega) hk3 rfl (hL.2.2.2.2.2.1 _ hk3.1 hk3.2)) ?_
        refine Sg.go (pc' := 55) (mi_iload_n dX11_boxes_54 rfl) ?_
        refine Sg.go (pc' := 56) (mi_lald (n := 9) dX11_boxes_55 rfl rfl (by omega) hk6) ?_
        refine Sg.goM (pc' := 59) (mi_pfD (r := 40) (k := 26) (t := 1) dX11_boxes_56 hC_40 (by decide) rfl rfl wF_X11_300 (by omega) rfl (by decide) (Or.inr (Or.inl ⟨rfl, rfl⟩))) ?_
        refine Sg.letD (fun D8 hD8 => ?_)
        refine Sg.go (pc' := 60) (mi_iconst (z := 0) dX11_boxes_59 rfl) ?_
        exact Sg.ret (mi_ireturn dX11_boxes_60 rfl (Or.inl rfl))
      · refine Sg.go (pc' := 33) (mi_icmplt_f (tgt := 35) dX11_boxes_30 (by decide) h5) ?_
        refine Sg.go (pc' := 34) (mi_iconst (z := 1) dX11_boxes_33 rfl) ?_
        exact Sg.ret (mi_ireturn dX11_boxes_34 rfl (Or.inl rfl))
    · refine Sg.go (pc' := 21) (mi_icmpne_f (tgt := 23) dX11_boxes_18 (by decide) h4) ?_
      refine Sg.go (pc' := 22) (mi_iconst (z := 2) dX11_boxes_21 rfl) ?_
      exact Sg.ret (mi_ireturn dX11_boxes_22 rfl (Or.inl rfl))
  · refine Sg.go (pc' := 8) (mi_ifeq_f (tgt := 10) dX11_boxes_5 (by decide) h2) ?_
    refine Sg.go (pc' := 9) (mi_iconst (z := 3) dX11_boxes_8 rfl) ?_
    exact Sg.ret (mi_ireturn dX11_boxes_9 rfl (Or.inl rfl))
theorem C_X11_boxes {Z : MiZ} (hL : ML Z) (a1 a2 : Int) (D : MiD) (b : Int × MiD) (hb : B_X11_boxes a1 a2 D = some b) : MC m_X11_boxes [(42, 0), (0, a1), (0, a2)] (D, Z) ((mi_LD 0 Z) b) := MC.ofSg (L := (mi_LD 0 Z)) (μ := m_X11_boxes) (args := [(42, 0), (0, a1), (0, a2)]) (M := (D, Z)) rfl wP_X11 (Nat.le_of_ble_eq_true rfl) (show Sg m_X11_boxes 0 [(42, 0), (0, a1), (0, a2)] [] (D, Z) (mi_LD 0 Z) (B_X11_boxes a1 a2 D) from S_X11_boxes hL a1 a2 D) hb
abbrev m_X11_callsBy : MiI := (yX11_callsBy, cX11_callsBy, 4, (some .int), 2, none)
def B_X11_callsBy_9 (D : MiD) : Nat → Int → Int → Int → Option (Int)
  | 0, _, _, _ => none
  | f + 1, v1, v2, v3 => if v3 < 0 then (some (-1)) else (if 0 ≤ v3 ∧ v3 < 8 then (if 0 ≤ (D 64 0 v3) ∧ (D 64 0 v3) < 9 then (if (B_X11_isBit (D 47 0 (D 64 0 v3)) v2) = 0 then (B_X11_callsBy_9 D f v1 v2 (mi_w (v3 + (-1)))) else (mi_bi (B_X11_isLeft D v1 (D 64 0 v3)) fun y5 => if y5 ≠ 0 then (B_X11_callsBy_9 D f v1 v2 (mi_w (v3 + (-1)))) else (some (D 64 0 v3)))) else none) else none)
set_option maxRecDepth 20000 in
theorem S_X11_callsBy_9 {D : MiD} {Z : MiZ} (hL : ML Z) : ∀ (f : Nat) (v1 v2 v3 : Int), Sg m_X11_callsBy 9 [(42, 0), (0, v1), (0, v2), (0, v3)] [] (D, Z) (mi_LI 0 (D, Z)) (B_X11_callsBy_9 D f v1 v2 v3) := by
  intro f
  induction f with
  | zero => intros; exact Sg.nope
  | succ f K9 =>
    intro v1 v2 v3
    show Sg m_X11_callsBy 9 [(42, 0), (0, v1), (0, v2), (0, v3)] [] (D, Z) (mi_LI 0 (D, Z)) (if v3 < 0 then (some (-1)) else (if 0 ≤ v3 ∧ v3 < 8 then (if 0 ≤ (D 64 0 v3) ∧ (D 64 0 v3) < 9 then (if (B_X11_isBit (D 47 0 (D 64 0 v3)) v2) = 0 then (B_X11_callsBy_9 D f v1 v2 (mi_w (v3 + (-1)))) else (mi_bi (B_X11_isLeft D v1 (D 64 0 v3)) fun y5 => if y5 ≠ 0 then (B_X11_callsBy_9 D f v1 v2 (mi_w (v3 + (-1)))) else (some (D 64 0 v3)))) else none) else none))
    refine Sg.go (pc' := 10) (mi_iload_n dX11_callsBy_9 rfl) ?_
    refine Sg.ite (fun h1 => ?_) (fun h1 => ?_)
    · refine Sg.go (pc' := 58) (mi_iflt_t (tgt := 58) dX11_callsBy_10 (by decide) h1) ?_
      refine Sg.go (pc' := 59) (mi_iconst (z := (-1)) dX11_callsBy_58 rfl) ?_
      exact Sg.ret (mi_ireturn dX11_callsBy_59 rfl (Or.inl rfl))
    · refine Sg.go (pc' := 13) (mi_iflt_f (tgt := 58) dX11_callsBy_10 (by decide) h1) ?_
      refine Sg.go (pc' := 14) (mi_aload_n dX11_callsBy_13 rfl) ?_
      refine Sg.go (pc' := 17) (mi_gfA (t := 47) (v := 0) (r := 40) (k := 12) dX11_callsBy_14 hC_40 (by decide) rfl wF_X11_28 (by omega) rfl (hL.1 12 (by decide))) ?_
      refine Sg.go (pc' := 18) (mi_aload_n dX11_callsBy_17 rfl) ?_
      refine Sg.go (pc' := 21) (mi_gfA (t := 64) (v := 0) (r := 40) (k := 23) dX11_callsBy_18 hC_40 (by decide) rfl wF_X11_66 (by omega) rfl (hL.1 23 (by decide))) ?_
      refine Sg.go (pc' := 22) (mi_iload_n dX11_callsBy_21 rfl) ?_
      refine Sg.ck (fun hk2 => ?_)
      refine Sg.go (pc' := 23) (mi_iald (n := 8) dX11_callsBy_22 rfl rfl (by omega) hk2) ?_
      refine Sg.ck (fun hk3 => ?_)
      refine Sg.go (pc' := 24) (mi_iald (n := 9) dX11_callsBy_23 rfl rfl (by omega) hk3) ?_
      refine Sg.go (pc' := 25) (mi_iload_n dX11_callsBy_24 rfl) ?_
      refine Sg.callP (pc' := 28) (t := 0) (v := (B_X11_isBit (D 47 0 (D 64 0 v3)) v2)) (μ' := m_X11_isBit) (args := [(0, (D 47 0 (D 64 0 v3))), (0, v2)]) (mi_invS (n := 2) dX11_callsBy_25 rfl wN_X11_isBit rfl ⟨by decide, by decide⟩ wL_X11_248 wT_X11_isBit wB_X11 wC_X11_isBit) (C_X11_isBit hL (D 47 0 (D 64 0 v3)) v2 D) (Nat.le_of_ble_eq_true rfl) rfl rfl ?_
      refine Sg.ite (fun h4 => ?_) (fun h4 => ?_)
      · refine Sg.go (pc' := 52) (mi_ifeq_t (tgt := 52) dX11_callsBy_28 (by decide) h4) ?_
        refine Sg.go (pc' := 55) (mi_iinc (z := (-1)) (ls1 := [(42, 0), (0, v1), (0, v2), (0, (mi_w (v3 + (-1))))]) dX11_callsBy_52 (by decide) rfl rfl rfl) ?_
        refine Sg.go (pc' := 9) (mi_goto (tgt := 9) dX11_callsBy_55 (by decide)) ?_
        exact K9 v1 v2 (mi_w (v3 + (-1)))
      · refine Sg.go (pc' := 31) (mi_ifeq_f (tgt := 52) dX11_callsBy_28 (by decide) h4) ?_
        refine Sg.go (pc' := 32) (mi_aload_n dX11_callsBy_31 rfl) ?_
        refine Sg.go (pc' := 33) (mi_iload_n dX11_callsBy_32 rfl) ?_
        refine Sg.go (pc' := 34) (mi_aload_n dX11_callsBy_33 rfl) ?_
        refine Sg.go (pc' := 37) (mi_gfA (t := 64) (v := 0) (r := 40) (k := 23) dX11_callsBy_34 hC_40 (by decide) rfl wF_X11_66 (by omega) rfl (hL.1 23 (by decide))) ?_
        refine Sg.go (pc' := 38) (mi_iload_n dX11_callsBy_37 rfl) ?_
        refine Sg.go (pc' := 39) (mi_iald (n := 8) dX11_callsBy_38 rfl rfl (by omega) hk2) ?_
        refine Sg.callI (pc' := 42) (t := 0) (μ' := m_X11_isLeft) (args := [(42, 0), (0, v1), (0, (D 64 0 v3))]) (mi_invV (n := 2) (r := 40) dX11_callsBy_39 hC_40 (by omega) rfl rfl wN_X11_isLeft rfl ⟨by decide, by decide⟩ wL_X11_311 wI_X11_isLeft wS_X11_isLeft wB_X11 wC_X11_isLeft) (fun v hv => C_X11_isLeft hL v1 (D 64 0 v3) D v hv) (Nat.le_of_ble_eq_true rfl) rfl rfl (fun y5 => ?_)
        refine Sg.ite (fun h6 => ?_) (fun h6 => ?_)
        · refine Sg.go (pc' := 52) (mi_ifne_t (tgt := 52) dX11_callsBy_42 (by decide) h6) ?_
          refine Sg.go (pc' := 55) (mi_iinc (z := (-1)) (ls1 := [(42, 0), (0, v1), (0, v2), (0, (mi_w (v3 + (-1))))]) dX11_callsBy_52 (by decide) rfl rfl rfl) ?_
          refine Sg.go (pc' := 9) (mi_goto (tgt := 9) dX11_callsBy_55 (by decide)) ?_
          exact K9 v1 v2 (mi_w (v3 + (-1)))
        · refine Sg.go (pc' := 45) (mi_ifne_f (tgt := 52) dX11_callsBy_42 (by decide) h6) ?_
          refine Sg.go (pc' := 46) (mi_aload_n dX11_callsBy_45 rfl) ?_
          refine Sg.go (pc' := 49) (mi_gfA (t := 64) (v := 0) (r := 40) (k := 23) dX11_callsBy_46 hC_40 (by decide) rfl wF_X11_66 (by omega) rfl (hL.1 23 (by decide))) ?_
          refine Sg.go (pc' := 50) (mi_iload_n dX11_callsBy_49 rfl) ?_
          refine Sg.go (pc' := 51) (mi_iald (n := 8) dX11_callsBy_50 rfl rfl (by omega) hk2) ?_
          exact Sg.ret (mi_ireturn dX11_callsBy_51 rfl (Or.inl rfl))
def B_X11_callsBy (D : MiD) (v1 : Int) (v2 : Int) : Option (Int) := mi_let (mi_w ((D 65 0 0) - 1)) fun x1 => B_X11_callsBy_9 D mi_fuel v1 v2 x1
set_option maxRecDepth 20000 in
theorem S_X11_callsBy {D : MiD} {Z : MiZ} (hL : ML Z) (v1 v2 : Int) : Sg m_X11_callsBy 0 [(42, 0), (0, v1), (0, v2), mi_un] [] (D, Z) (mi_LI 0 (D, Z)) (B_X11_callsBy D v1 v2) := by
  unfold B_X11_callsBy
  refine Sg.go (pc' := 1) (mi_aload_n dX11_callsBy_0 rfl) ?_
  refine Sg.go (pc' := 4) (mi_gfA (t := 65) (v := 0) (r := 40) (k := 24) dX11_callsBy_1 hC_40 (by decide) rfl wF_X11_69 (by omega) rfl (hL.1 24 (by decide))) ?_
  refine Sg.go (pc' := 5) (mi_iconst (z := 0) dX11_callsBy_4 rfl) ?_
  refine Sg.go (pc' := 6) (mi_iald (n := 8) dX11_callsBy_5 rfl rfl (by omega) (by decide)) ?_
  refine Sg.go (pc' := 7) (mi_iconst (z := 1) dX11_callsBy_6 rfl) ?_
  refine Sg.go (pc' := 8) (mi_isub dX11_callsBy_7) ?_
  refine Sg.letI (fun x1 hx1 => ?_)
  refine Sg.go (pc' := 9) (mi_istore_n (ls1 := [(42, 0), (0, v1), (0, v2), (0, x1)]) dX11_callsBy_8 (by decide) rfl) ?_
  exact S_X11_callsBy_9 hL mi_fuel v1 v2 x1
theorem C_X11_callsBy {Z : MiZ} (hL : ML Z) (a1 a2 : Int) (D : MiD) (b : Int) (hb : B_X11_callsBy D a1 a2 = some b) : MC m_X11_callsBy [(42, 0), (0, a1), (0, a2)] (D, Z) ((mi_LI 0 (D, Z)) b) := MC.ofSg (L := (mi_LI 0 (D, Z))) (μ := m_X11_callsBy) (args := [(42, 0), (0, a1), (0, a2)]) (M := (D, Z)) rfl wP_X11 (Nat.le_of_ble_eq_true rfl) (show Sg m_X11_callsBy 0 [(42, 0), (0, a1), (0, a2), mi_un] [] (D, Z) (mi_LI 0 (D, Z)) (B_X11_callsBy D a1 a2) from S_X11_callsBy hL a1 a2) hb
abbrev m_X11_deedsOf : MiI := (yX11_deedsOf, cX11_deedsOf, 3, (some .int), 2, none)
def B_X11_deedsOf (D : MiD) (v1 : Int) (v2 : Int) : Option (Int) := mi_bi (B_X11_codeIn D v1 v2) fun y1 => if 0 ≤ y1 ∧ y1 < 111 then (some (D 43 0 y1)) else none
set_option maxRecDepth 20000 in
theorem S_X11_deedsOf {D : MiD} {Z : MiZ} (hL : ML Z) (v1 v2 : Int) : Sg m_X11_deedsOf 0 [(42, 0), (0, v1), (0, v2)] [] (D, Z) (mi_LI 0 (D, Z)) (B_X11_deedsOf D v1 v2) := by
  unfold B_X11_deedsOf
  refine Sg.go (pc' := 1) (mi_aload_n dX11_deedsOf_0 rfl) ?_
  refine Sg.go (pc' := 4) (mi_gfA (t := 43) (v := 0) (r := 40) (k := 9) dX11_deedsOf_1 hC_40 (by decide) rfl wF_X11_20 (by omega) rfl (hL.1 9 (by decide))) ?_
  refine Sg.go (pc' := 5) (mi_aload_n dX11_deedsOf_4 rfl) ?_
  refine Sg.go (pc' := 6) (mi_iload_n dX11_deedsOf_5 rfl) ?_
  refine Sg.go (pc' := 7) (mi_iload_n dX11_deedsOf_6 rfl) ?_
  refine Sg.callI (pc' := 10) (t := 0) (μ' := m_X11_codeIn) (args := [(42, 0), (0, v1), (0, v2)]) (mi_invV (n := 2) (r := 40) dX11_deedsOf_7 hC_40 (by omega) rfl rfl wN_X11_codeIn rfl ⟨by decide, by decide⟩ wL_X11_308 wI_X11_codeIn wS_X11_codeIn wB_X11 wC_X11_codeIn) (fun v hv => C_X11_codeIn hL v1 v2 D v hv) (Nat.le_of_ble_eq_true rfl) rfl rfl (fun y1 => ?_)
  refine Sg.ck (fun hk2 => ?_)
  refine Sg.go (pc' := 11) (mi_iald (n := 111) dX11_deedsOf_10 rfl rfl (by omega) hk2) ?_
  exact Sg.ret (mi_ireturn dX11_deedsOf_11 rfl (Or.inl rfl))
theorem C_X11_deedsOf {Z : MiZ} (hL : ML Z) (a1 a2 : Int) (D : MiD) (b : Int) (hb : B_X11_deedsOf D a1 a2 = some b) : MC m_X11_deedsOf [(42, 0), (0, a1), (0, a2)] (D, Z) ((mi_LI 0 (D, Z)) b) := MC.ofSg (L := (mi_LI 0 (D, Z))) (μ := m_X11_deedsOf) (args := [(42, 0), (0, a1), (0, a2)]) (M := (D, Z)) rfl wP_X11 (Nat.le_of_ble_eq_true rfl) (show Sg m_X11_deedsOf 0 [(42, 0), (0, a1), (0, a2)] [] (D, Z) (mi_LI 0 (D, Z)) (B_X11_deedsOf D a1 a2) from S_X11_deedsOf hL a1 a2) hb
abbrev m_X11_deedsOfAll : MiI := (yX11_deedsOfAll, cX11_deedsOfAll, 4, (some .int), 2, none)
def B_X11_deedsOfAll_41 (D : MiD) (k4 : Int → Int → Int → Option (Int)) (v1 : Int) (v3 : Int) (s0 : Int) (s1 : Int) : Option (Int) := mi_let (mi_w (s0 + s1)) fun x1 => k4 v1 x1 (mi_w (v3 + 1))
set_option maxRecDepth 20000 in
theorem S_X11_deedsOfAll_41 {D : MiD} {Z : MiZ} (hL : ML Z) {k4 : Int → Int → Int → Option (Int)} (K4 : ∀ (v1 v2 v3 : Int), Sg m_X11_deedsOfAll 4 [(42, 0), (0, v1), (0, v2), (0, v3)] [] (D, Z) (mi_LI 0 (D, Z)) (k4 v1 v2 v3)) (v1 v3 s0 s1 : Int) : Sg m_X11_deedsOfAll 41 [(42, 0), (0, v1), mi_un, (0, v3)] [(0, s1), (0, s0)] (D, Z) (mi_LI 0 (D, Z)) (B_X11_deedsOfAll_41 D k4 v1 v3 s0 s1) := by
  unfold B_X11_deedsOfAll_41
  refine Sg.go (pc' := 42) (mi_iadd dX11_deedsOfAll_41) ?_
  refine Sg.letI (fun x1 hx1 => ?_)
  refine Sg.go (pc' := 43) (mi_istore_n (ls1 := [(42, 0), (0, v1), (0, x1), (0, v3)]) dX11_deedsOfAll_42 (by decide) rfl) ?_
  refine Sg.go (pc' := 46) (mi_iinc (z := 1) (ls1 := [(42, 0), (0, v1), (0, x1), (0, (mi_w (v3 + 1)))]) dX11_deedsOfAll_43 (by decide) rfl rfl rfl) ?_
  refine Sg.go (pc' := 4) (mi_goto (tgt := 4) dX11_deedsOfAll_46 (by decide)) ?_
  exact K4 v1 x1 (mi_w (v3 + 1))
def B_X11_deedsOfAll_52 (D : MiD) : Nat → Int → Int → Int → Option (Int)
  | 0, _, _, _ => none
  | f + 1, v1, v2, v3 => if 10 < v3 then (some v2) else (if 0 ≤ (B_X11_codeAt v1 v3) ∧ (B_X11_codeAt v1 v3) < 111 then (mi_let (mi_w (v2 + (D 43 0 (B_X11_codeAt v1 v3)))) fun x3 => B_X11_deedsOfAll_52 D f v1 x3 (mi_w (v3 + 1))) else none)
set_option maxRecDepth 20000 in
theorem S_X11_deedsOfAll_52 {D : MiD} {Z : MiZ} (hL : ML Z) : ∀ (f : Nat) (v1 v2 v3 : Int), Sg m_X11_deedsOfAll 52 [(42, 0), (0, v1), (0, v2), (0, v3)] [] (D, Z) (mi_LI 0 (D, Z)) (B_X11_deedsOfAll_52 D f v1 v2 v3) := by
  intro f
  induction f with
  | zero => intros; exact Sg.nope
  | succ f K52 =>
    intro v1 v2 v3
    show Sg m_X11_deedsOfAll 52 [(42, 0), (0, v1), (0, v2), (0, v3)] [] (D, Z) (mi_LI 0 (D, Z)) (if 10 < v3 then (some v2) else (if 0 ≤ (B_X11_codeAt v1 v3) ∧ (B_X11_codeAt v1 v3) < 111 then (mi_let (mi_w (v2 + (D 43 0 (B_X11_codeAt v1 v3)))) fun x3 => B_X11_deedsOfAll_52 D f v1 x3 (mi_w (v3 + 1))) else none))
    refine Sg.go (pc' := 53) (mi_iload_n dX11_deedsOfAll_52 rfl) ?_
    refine Sg.go (pc' := 55) (mi_bipush (z := 10) dX11_deedsOfAll_53 rfl) ?_
    refine Sg.ite (fun h1 => ?_) (fun h1 => ?_)
    · refine Sg.go (pc' := 77) (mi_icmpgt_t (tgt := 77) dX11_deedsOfAll_55 (by decide) h1) ?_
      refine Sg.go (pc' := 78) (mi_iload_n dX11_deedsOfAll_77 rfl) ?_
      exact Sg.ret (mi_ireturn dX11_deedsOfAll_78 rfl (Or.inl rfl))
    · refine Sg.go (pc' := 58) (mi_icmpgt_f (tgt := 77) dX11_deedsOfAll_55 (by decide) h1) ?_
      refine Sg.go (pc' := 59) (mi_iload_n dX11_deedsOfAll_58 rfl) ?_
      refine Sg.go (pc' := 60) (mi_aload_n dX11_deedsOfAll_59 rfl) ?_
      refine Sg.go (pc' := 63) (mi_gfA (t := 43) (v := 0) (r := 40) (k := 9) dX11_deedsOfAll_60 hC_40 (by decide) rfl wF_X11_20 (by omega) rfl (hL.1 9 (by decide))) ?_
      refine Sg.go (pc' := 64) (mi_iload_n dX11_deedsOfAll_63 rfl) ?_
      refine Sg.go (pc' := 65) (mi_iload_n dX11_deedsOfAll_64 rfl) ?_
      refine Sg.callP (pc' := 68) (t := 0) (v := (B_X11_codeAt v1 v3)) (μ' := m_X11_codeAt) (args := [(0, v1), (0, v3)]) (mi_invS (n := 2) dX11_deedsOfAll_65 rfl wN_X11_codeAt rfl ⟨by decide, by decide⟩ wL_X11_278 wT_X11_codeAt wB_X11 wC_X11_codeAt) (C_X11_codeAt hL v1 v3 D) (Nat.le_of_ble_eq_true rfl) rfl rfl ?_
      refine Sg.ck (fun hk2 => ?_)
      refine Sg.go (pc' := 69) (mi_iald (n := 111) dX11_deedsOfAll_68 rfl rfl (by omega) hk2) ?_
      refine Sg.go (pc' := 70) (mi_iadd dX11_deedsOfAll_69) ?_
      refine Sg.letI (fun x3 hx3 => ?_)
      refine Sg.go (pc' := 71) (mi_istore_n (ls1 := [(42, 0), (0, v1), (0, x3), (0, v3)]) dX11_deedsOfAll_70 (by decide) rfl) ?_
      refine Sg.go (pc' := 74) (mi_iinc (z := 1) (ls1 := [(42, 0), (0, v1), (0, x3), (0, (mi_w (v3 + 1)))]) dX11_deedsOfAll_71 (by decide) rfl rfl rfl) ?_
      refine Sg.go (pc' := 52) (mi_goto (tgt := 52) dX11_deedsOfAll_74 (by decide)) ?_
      exact K52 v1 x3 (mi_w (v3 + 1))
def B_X11_deedsOfAll_4 (D : MiD) : Nat → Int → Int → Int → Option (Int)
  | 0, _, _, _ => none
  | f + 1, v1, v2, v3 => if 12 ≤ v3 then (B_X11_deedsOfAll_52 D mi_fuel v1 v2 8) else (if 0 ≤ v1 ∧ v1 < 9 then (if (B_X11_isBit (D 47 0 v1) v3) = 0 then (B_X11_deedsOfAll_41 D (B_X11_deedsOfAll_4 D f) v1 v3 v2 0) else (if 0 ≤ v3 ∧ v3 < 12 then (if 0 ≤ (D 51 v1 v3) ∧ (D 51 v1 v3) < 111 then (B_X11_deedsOfAll_41 D (B_X11_deedsOfAll_4 D f) v1 v3 v2 (D 43 0 (D 51 v1 v3))) else none) else none)) else none)
set_option maxRecDepth 20000 in
theorem S_X11_deedsOfAll_4 {D : MiD} {Z : MiZ} (hL : ML Z) : ∀ (f : Nat) (v1 v2 v3 : Int), Sg m_X11_deedsOfAll 4 [(42, 0), (0, v1), (0, v2), (0, v3)] [] (D, Z) (mi_LI 0 (D, Z)) (B_X11_deedsOfAll_4 D f v1 v2 v3) := by
  intro f
  induction f with
  | zero => intros; exact Sg.nope
  | succ f K4 =>
    intro v1 v2 v3
    show Sg m_X11_deedsOfAll 4 [(42, 0), (0, v1), (0, v2), (0, v3)] [] (D, Z) (mi_LI 0 (D, Z)) (if 12 ≤ v3 then (B_X11_deedsOfAll_52 D mi_fuel v1 v2 8) else (if 0 ≤ v1 ∧ v1 < 9 then (if (B_X11_isBit (D 47 0 v1) v3) = 0 then (B_X11_deedsOfAll_41 D (B_X11_deedsOfAll_4 D f) v1 v3 v2 0) else (if 0 ≤ v3 ∧ v3 < 12 then (if 0 ≤ (D 51 v1 v3) ∧ (D 51 v1 v3) < 111 then (B_X11_deedsOfAll_41 D (B_X11_deedsOfAll_4 D f) v1 v3 v2 (D 43 0 (D 51 v1 v3))) else none) else none)) else none))
    refine Sg.go (pc' := 5) (mi_iload_n dX11_deedsOfAll_4 rfl) ?_
    refine Sg.go (pc' := 7) (mi_bipush (z := 12) dX11_deedsOfAll_5 rfl) ?_
    refine Sg.ite (fun h1 => ?_) (fun h1 => ?_)
    · refine Sg.go (pc' := 49) (mi_icmpge_t (tgt := 49) dX11_deedsOfAll_7 (by decide) h1) ?_
      refine Sg.go (pc' := 51) (mi_bipush (z := 8) dX11_deedsOfAll_49 rfl) ?_
      refine Sg.go (pc' := 52) (mi_istore_n (ls1 := [(42, 0), (0, v1), (0, v2), (0, 8)]) dX11_deedsOfAll_51 (by decide) rfl) ?_
      exact S_X11_deedsOfAll_52 hL mi_fuel v1 v2 8
    · refine Sg.go (pc' := 10) (mi_icmpge_f (tgt := 49) dX11_deedsOfAll_7 (by decide) h1) ?_
      refine Sg.go (pc' := 11) (mi_iload_n dX11_deedsOfAll_10 rfl) ?_
      refine Sg.go (pc' := 12) (mi_aload_n dX11_deedsOfAll_11 rfl) ?_
      refine Sg.go (pc' := 15) (mi_gfA (t := 47) (v := 0) (r := 40) (k := 12) dX11_deedsOfAll_12 hC_40 (by decide) rfl wF_X11_28 (by omega) rfl (hL.1 12 (by decide))) ?_
      refine Sg.go (pc' := 16) (mi_iload_n dX11_deedsOfAll_15 rfl) ?_
      refine Sg.ck (fun hk2 => ?_)
      refine Sg.go (pc' := 17) (mi_iald (n := 9) dX11_deedsOfAll_16 rfl rfl (by omega) hk2) ?_
      refine Sg.go (pc' := 18) (mi_iload_n dX11_deedsOfAll_17 rfl) ?_
      refine Sg.callP (pc' := 21) (t := 0) (v := (B_X11_isBit (D 47 0 v1) v3)) (μ' := m_X11_isBit) (args := [(0, (D 47 0 v1)), (0, v3)]) (mi_invS (n := 2) dX11_deedsOfAll_18 rfl wN_X11_isBit rfl ⟨by decide, by decide⟩ wL_X11_248 wT_X11_isBit wB_X11 wC_X11_isBit) (C_X11_isBit hL (D 47 0 v1) v3 D) (Nat.le_of_ble_eq_true rfl) rfl rfl ?_
      refine Sg.ite (fun h3 => ?_) (fun h3 => ?_)
      · refine Sg.go (pc' := 40) (mi_ifeq_t (tgt := 40) dX11_deedsOfAll_21 (by decide) h3) ?_
        refine Sg.go (pc' := 41) (mi_iconst (z := 0) dX11_deedsOfAll_40 rfl) ?_
        refine Sg.go (pc' := 41) (MiStep.weak (ls' := [(42, 0), (0, v1), mi_un, (0, v3)]) (mi_wk_y (mi_wk_y (mi_wk_n (mi_wk_y mi_wk_0))))) ?_
        exact S_X11_deedsOfAll_41 hL K4 v1 v3 v2 0
      · refine Sg.go (pc' := 24) (mi_ifeq_f (tgt := 40) dX11_deedsOfAll_21 (by decide) h3) ?_
        refine Sg.go (pc' := 25) (mi_aload_n dX11_deedsOfAll_24 rfl) ?_
        refine Sg.go (pc' := 28) (mi_gfA (t := 43) (v := 0) (r := 40) (k := 9) dX11_deedsOfAll_25 hC_40 (by decide) rfl wF_X11_20 (by omega) rfl (hL.1 9 (by decide))) ?_
        refine Sg.go (pc' := 29) (mi_aload_n dX11_deedsOfAll_28 rfl) ?_
        refine Sg.go (pc' := 32) (mi_gfA (t := 50) (v := 0) (r := 40) (k := 15) dX11_deedsOfAll_29 hC_40 (by decide) rfl wF_X11_39 (by omega) rfl (hL.1 15 (by decide))) ?_
        refine Sg.go (pc' := 33) (mi_iload_n dX11_deedsOfAll_32 rfl) ?_
        refine Sg.go (pc' := 34) (mi_aald (n := 9) (t := 51) (v := v1) dX11_deedsOfAll_33 rfl hA_50 rfl (by omega) hk2 rfl (hL.2.2.2.1 _ hk2.1 hk2.2)) ?_
        refine Sg.go (pc' := 35) (mi_iload_n dX11_deedsOfAll_34 rfl) ?_
        refine Sg.ck (fun hk4 => ?_)
        refine Sg.go (pc' := 36) (mi_iald (n := 12) dX11_deedsOfAll_35 rfl rfl (by omega) hk4) ?_
        refine Sg.ck (fun hk5 => ?_)
        refine Sg.go (pc' := 37) (mi_iald (n := 111) dX11_deedsOfAll_36 rfl rfl (by omega) hk5) ?_
        refine Sg.go (pc' := 41) (mi_goto (tgt := 41) dX11_deedsOfAll_37 (by decide)) ?_
        refine Sg.go (pc' := 41) (MiStep.weak (ls' := [(42, 0), (0, v1), mi_un, (0, v3)]) (mi_wk_y (mi_wk_y (mi_wk_n (mi_wk_y mi_wk_0))))) ?_
        exact S_X11_deedsOfAll_41 hL K4 v1 v3 v2 (D 43 0 (D 51 v1 v3))
def B_X11_deedsOfAll (D : MiD) (v1 : Int) : Option (Int) := B_X11_deedsOfAll_4 D mi_fuel v1 0 0
set_option maxRecDepth 20000 in
theorem S_X11_deedsOfAll {D : MiD} {Z : MiZ} (hL : ML Z) (v1 : Int) : Sg m_X11_deedsOfAll 0 [(42, 0), (0, v1), mi_un, mi_un] [] (D, Z) (mi_LI 0 (D, Z)) (B_X11_deedsOfAll D v1) := by
  unfold B_X11_deedsOfAll
  refine Sg.go (pc' := 1) (mi_iconst (z := 0) dX11_deedsOfAll_0 rfl) ?_
  refine Sg.go (pc' := 2) (mi_istore_n (ls1 := [(42, 0), (0, v1), (0, 0), mi_un]) dX11_deedsOfAll_1 (by decide) rfl) ?_
  refine Sg.go (pc' := 3) (mi_iconst (z := 0) dX11_deedsOfAll_2 rfl) ?_
  refine Sg.go (pc' := 4) (mi_istore_n (ls1 := [(42, 0), (0, v1), (0, 0), (0, 0)]) dX11_deedsOfAll_3 (by decide) rfl) ?_
  exact S_X11_deedsOfAll_4 hL mi_fuel v1 0 0
theorem C_X11_deedsOfAll {Z : MiZ} (hL : ML Z) (a1 : Int) (D : MiD) (b : Int) (hb : B_X11_deedsOfAll D a1 = some b) : MC m_X11_deedsOfAll [(42, 0), (0, a1)] (D, Z) ((mi_LI 0 (D, Z)) b) := MC.ofSg (L := (mi_LI 0 (D, Z))) (μ := m_X11_deedsOfAll) (args := [(42, 0), (0, a1)]) (M := (D, Z)) rfl wP_X11 (Nat.le_of_ble_eq_true rfl) (show Sg m_X11_deedsOfAll 0 [(42, 0), (0, a1), mi_un, mi_un] [] (D, Z) (mi_LI 0 (D, Z)) (B_X11_deedsOfAll D a1) from S_X11_deedsOfAll hL a1) hb
abbrev m_X11_deepest : MiI := (yX11_deepest, cX11_deepest, 3, (some .int), 2, none)
def B_X11_deepest_47 (k9 : Int → Int → MiD → Option (Int × MiD)) (v2 : Int) (D : MiD) : Option (Int × MiD) := k9 v2 (mi_w (v2 + 1)) D
set_option maxRecDepth 20000 in
theorem S_X11_deepest_47 {Z : MiZ} (hL : ML Z) {k9 : Int → Int → MiD → Option (Int × MiD)} (K9 : ∀ (v1 v2 : Int) (D : MiD), Sg m_X11_deepest 9 [(42, 0), (0, v1), (0, v2)] [] (D, Z) (mi_LD 0 Z) (k9 v1 v2 D)) (v2 : Int) (D : MiD) : Sg m_X11_deepest 47 [(42, 0), mi_un, (0, v2)] [] (D, Z) (mi_LD 0 Z) (B_X11_deepest_47 k9 v2 D) := by
  unfold B_X11_deepest_47
  refine Sg.go (pc' := 48) (mi_iload_n dX11_deepest_47 rfl) ?_
  refine Sg.go (pc' := 49) (mi_istore_n (ls1 := [(42, 0), (0, v2), (0, v2)]) dX11_deepest_48 (by decide) rfl) ?_
  refine Sg.go (pc' := 52) (mi_iinc (z := 1) (ls1 := [(42, 0), (0, v2), (0, (mi_w (v2 + 1)))]) dX11_deepest_49 (by decide) rfl rfl rfl) ?_
  refine Sg.go (pc' := 9) (mi_goto (tgt := 9) dX11_deepest_52 (by decide)) ?_
  exact K9 v2 (mi_w (v2 + 1)) D
def B_X11_deepest_9 : Nat → Int → Int → MiD → Option (Int × MiD)
  | 0, _, _, _ => none
  | f + 1, v1, v2, D => if 6 ≤ v2 then (some (v1, D)) else (mi_bi (B_X11_isIdle D v2) fun y2 => if y2 ≠ 0 then (B_X11_deepest_9 f v1 (mi_w (v2 + 1)) D) else (if v1 = (-1) then (B_X11_deepest_47 (B_X11_deepest_9 f) v2 D) else (if 0 ≤ v2 ∧ v2 < 7 then (if 0 ≤ v1 ∧ v1 < 7 then (if (D 59 v2 0) ≤ (D 59 v1 0) then (B_X11_deepest_9 f v1 (mi_w (v2 + 1)) D) else (B_X11_deepest_47 (B_X11_deepest_9 f) v2 D)) else none) else none)))
set_option maxRecDepth 20000 in
theorem S_X11_deepest_9 {Z : MiZ} (hL : ML Z) : ∀ (f : Nat) (v1 v2 : Int) (D : MiD), Sg m_X11_deepest 9 [(42, 0), (0, v1), (0, v2)] [] (D, Z) (mi_LD 0 Z) (B_X11_deepest_9 f v1 v2 D) := by
  intro f
  induction f with
  | zero => intros; exact Sg.nope
  | succ f K9 =>
    intro v1 v2 D
    show Sg m_X11_deepest 9 [(42, 0), (0, v1), (0, v2)] [] (D, Z) (mi_LD 0 Z) (if 6 ≤ v2 then (some (v1, D)) else (mi_bi (B_X11_isIdle D v2) fun y2 => if y2 ≠ 0 then (B_X11_deepest_9 f v1 (mi_w (v2 + 1)) D) else (if v1 = (-1) then (B_X11_deepest_47 (B_X11_deepest_9 f) v2 D) else (if 0 ≤ v2 ∧ v2 < 7 then (if 0 ≤ v1 ∧ v1 < 7 then (if (D 59 v2 0) ≤ (D 59 v1 0) then (B_X11_deepest_9 f v1 (mi_w (v2 + 1)) D) else (B_X11_deepest_47 (B_X11_deepest_9 f) v2 D)) else none) else none))))
    refine Sg.go (pc' := 10) (mi_iload_n dX11_deepest_9 rfl) ?_
    refine Sg.go (pc' := 12) (mi_bipush (z := 6) dX11_deepest_10 rfl) ?_
    refine Sg.ite (fun h1 => ?_) (fun h1 => ?_)
    · refine Sg.go (pc' := 55) (mi_icmpge_t (tgt := 55) dX11_deepest_12 (by decide) h1) ?_
      refine Sg.go (pc' := 56) (mi_iload_n dX11_deepest_55 rfl) ?_
      exact Sg.ret (mi_ireturn dX11_deepest_56 rfl (Or.inl rfl))
    · refine Sg.go (pc' := 15) (mi_icmpge_f (tgt := 55) dX11_deepest_12 (by decide) h1) ?_
      refine Sg.go (pc' := 16) (mi_aload_n dX11_deepest_15 rfl) ?_
      refine Sg.go (pc' := 17) (mi_iload_n dX11_deepest_16 rfl) ?_
      refine Sg.callI (pc' := 20) (t := 0) (μ' := m_X11_isIdle) (args := [(42, 0), (0, v2)]) (mi_invV (n := 1) (r := 40) dX11_deepest_17 hC_40 (by omega) rfl rfl wN_X11_isIdle rfl ⟨by decide, by decide⟩ wL_X11_223 wI_X11_isIdle wS_X11_isIdle wB_X11 wC_X11_isIdle) (fun v hv => C_X11_isIdle hL v2 D v hv) (Nat.le_of_ble_eq_true rfl) rfl rfl (fun y2 => ?_)
      refine Sg.ite (fun h3 => ?_) (fun h3 => ?_)
      · refine Sg.go (pc' := 49) (mi_ifne_t (tgt := 49) dX11_deepest_20 (by decide) h3) ?_
        refine Sg.go (pc' := 52) (mi_iinc (z := 1) (ls1 := [(42, 0), (0, v1), (0, (mi_w (v2 + 1)))]) dX11_deepest_49 (by decide) rfl rfl rfl) ?_
        refine Sg.go (pc' := 9) (mi_goto (tgt := 9) dX11_deepest_52 (by decide)) ?_
        exact K9 v1 (mi_w (v2 + 1)) D
      · refine Sg.go (pc' := 23) (mi_ifne_f (tgt := 49) dX11_deepest_20 (by decide) h3) ?_
        refine Sg.go (pc' := 24) (mi_iload_n dX11_deepest_23 rfl) ?_
        refine Sg.go (pc' := 25) (mi_iconst (z := (-1)) dX11_deepest_24 rfl) ?_
        refine Sg.ite (fun h4 => ?_) (fun h4 => ?_)
        · refine Sg.go (pc' := 47) (mi_icmpeq_t (tgt := 47) dX11_deepest_25 (by decide) h4) ?_
          refine Sg.go (pc' := 47) (MiStep.weak (ls' := [(42, 0), mi_un, (0, v2)]) (mi_wk_y (mi_wk_n (mi_wk_y mi_wk_0)))) ?_
          exact S_X11_deepest_47 hL K9 v2 D
        · refine Sg.go (pc' := 28) (mi_icmpeq_f (tgt := 47) dX11_deepest_25 (by decide) h4) ?_
          refine Sg.go (pc' := 29) (mi_aload_n dX11_deepest_28 rfl) ?_
          refine Sg.go (pc' := 32) (mi_gfA (t := 58) (v := 0) (r := 40) (k := 20) dX11_deepest_29 hC_40 (by decide) rfl wF_X11_56 (by omega) rfl (hL.1 20 (by decide))) ?_
          refine Sg.go (pc' := 33) (mi_iload_n dX11_deepest_32 rfl) ?_
          refine Sg.ck (fun hk5 => ?_)
          refine Sg.go (pc' := 34) (mi_aald (n := 7) (t := 59) (v := v2) dX11_deepest_33 rfl hA_58 rfl (by omega) hk5 rfl (hL.2.2.2.2.2.2.1 _ hk5.1 hk5.2)) ?_
          refine Sg.go (pc' := 35) (mi_iconst (z := 0) dX11_deepest_34 rfl) ?_
          refine Sg.go (pc' := 36) (mi_iald (n := 7) dX11_deepest_35 rfl rfl (by omega) (by decide)) ?_
          refine Sg.go (pc' := 37) (mi_aload_n dX11_deepest_36 rfl) ?_
          refine Sg.go (pc' := 40) (mi_gfA (t := 58) (v := 0) (r := 40) (k := 20) dX11_deepest_37 hC_40 (by decide) rfl wF_X11_56 (by omega) rfl (hL.1 20 (by decide))) ?_
          refine Sg.go (pc' := 41) (mi_iload_n dX11_deepest_40 rfl) ?_
          refine Sg.ck (fun hk6 => ?_)
          refine Sg.go (pc' := 42) (mi_aald (n := 7) (t := 59) (v := v1) dX11_deepest_41 rfl hA_58 rfl (by omega) hk6 rfl (hL.2.2.2.2.2.2.1 _ hk6.1 hk6.2)) ?_
          refine Sg.go (pc' := 43) (mi_iconst (z := 0) dX11_deepest_42 rfl) ?_
          refine Sg.go (pc' := 44) (mi_iald (n := 7) dX11_deepest_43 rfl rfl (by omega) (by decide)) ?_
          refine Sg.ite (fun h7 => ?_) (fun h7 => ?_)
          · refine Sg.go (pc' := 49) (mi_icmple_t (tgt := 49) dX11_deepest_44 (by decide) h7) ?_
            refine Sg.go (pc' := 52) (mi_iinc (z := 1) (ls1 := [(42, 0), (0, v1), (0, (mi_w (v2 + 1)))]) dX11_deepest_49 (by decide) rfl rfl rfl) ?_
            refine Sg.go (pc' := 9) (mi_goto (tgt := 9) dX11_deepest_52 (by decide)) ?_
            exact K9 v1 (mi_w (v2 + 1)) D
          · refine Sg.go (pc' := 47) (mi_icmple_f (tgt := 49) dX11_deepest_44 (by decide) h7) ?_
            refine Sg.go (pc' := 47) (MiStep.weak (ls' := [(42, 0), mi_un, (0, v2)]) (mi_wk_y (mi_wk_n (mi_wk_y mi_wk_0)))) ?_
            exact S_X11_deepest_47 hL K9 v2 D
def B_X11_deepest (D : MiD) : Option (Int × MiD) := mi_let (mi_st D 40 0 0 0) fun D1 => B_X11_deepest_9 mi_fuel (-1) 0 D1
set_option maxRecDepth 20000 in
theorem S_X11_deepest {Z : MiZ} (hL : ML Z) (D : MiD) : Sg m_X11_deepest 0 [(42, 0), mi_un, mi_un] [] (D, Z) (mi_LD 0 Z) (B_X11_deepest D) := by
  unfold B_X11_deepest
  refine Sg.go (pc' := 1) (mi_aload_n dX11_deepest_0 rfl) ?_
  refine Sg.go (pc' := 2) (mi_iconst (z := 0) dX11_deepest_1 rfl) ?_
  refine Sg.goM (pc' := 5) (mi_pfD (r := 40) (k := 0) (t := 0) dX11_deepest_2 hC_40 (by decide) rfl rfl wF_X11_78 (by omega) rfl (by decide) (Or.inl ⟨rfl, rfl⟩)) ?_
  refine Sg.letD (fun D1 hD1 => ?_)
  refine Sg.go (pc' := 6) (mi_iconst (z := (-1)) dX11_deepest_5 rfl) ?_
  refine Sg.go (pc' := 7) (mi_istore_n (ls1 := [(42, 0), (0, (-1)), mi_un]) dX11_deepest_6 (by decide) rfl) ?_
  refine Sg.go (pc' := 8) (mi_iconst (z := 0) dX11_deepest_7 rfl) ?_
  refine Sg.go (pc' := 9) (mi_istore_n (ls1 := [(42, 0), (0, (-1)), (0, 0)]) dX11_deepest_8 (by decide) rfl) ?_
  exact S_X11_deepest_9 hL mi_fuel (-1) 0 D1
theorem C_X11_deepest {Z : MiZ} (hL : ML Z) (D : MiD) (b : Int × MiD) (hb : B_X11_deepest D = some b) : MC m_X11_deepest [(42, 0)] (D, Z) ((mi_LD 0 Z) b) := MC.ofSg (L := (mi_LD 0 Z)) (μ := m_X11_deepest) (args := [(42, 0)]) (M := (D, Z)) rfl wP_X11 (Nat.le_of_ble_eq_true rfl) (show Sg m_X11_deepest 0 [(42, 0), mi_un, mi_un] [] (D, Z) (mi_LD 0 Z) (B_X11_deepest D) from S_X11_deepest hL D) hb
abbrev m_X11_ends : MiI := (yX11_ends, cX11_ends, 2, (some .int), 2, none)
def B_X11_ends (v1 : Int) (D : MiD) : Option (Int × MiD) := mi_let (mi_st D 40 0 5 (D 40 0 7)) fun D1 => mi_bi (B_X11_fine D1) fun y2 => if y2 = 0 then (some ((mi_w ((D1 40 0 6) - 10)), D1)) else (some (v1, D1))
set_option maxRecDepth 20000 in
theorem S_X11_ends {Z : MiZ} (hL : ML Z) (v1 : Int) (D : MiD) : Sg m_X11_ends 0 [(42, 0), (0, v1)] [] (D, Z) (mi_LD 0 Z) (B_X11_ends v1 D) := by
  unfold B_X11_ends
  refine Sg.go (pc' := 1) (mi_aload_n dX11_ends_0 rfl) ?_
  refine Sg.go (pc' := 2) (mi_aload_n dX11_ends_1 rfl) ?_
  refine Sg.go (pc' := 5) (mi_gfI (r := 40) (k := 7) dX11_ends_2 hC_40 (by decide) rfl wF_X11_97 (by omega) rfl) ?_
  refine Sg.goM (pc' := 8) (mi_pfD (r := 40) (k := 5) (t := 0) dX11_ends_5 hC_40 (by decide) rfl rfl wF_X11_13 (by omega) rfl (by decide) (Or.inl ⟨rfl, rfl⟩)) ?_
  refine Sg.letD (fun D1 hD1 => ?_)
  refine Sg.go (pc' := 9) (mi_aload_n dX11_ends_8 rfl) ?_
  refine Sg.callI (pc' := 12) (t := 0) (μ' := m_X11_fine) (args := [(42, 0)]) (mi_invV (n := 0) (r := 40) dX11_ends_9 hC_40 (by omega) rfl rfl wN_X11_fine rfl ⟨by decide, by decide⟩ wL_X11_100 wI_X11_fine wS_X11_fine wB_X11 wC_X11_fine) (fun v hv => C_X11_fine hL D1 v hv) (Nat.le_of_ble_eq_true rfl) rfl rfl (fun y2 => ?_)
  refine Sg.ite (fun h3 => ?_) (fun h3 => ?_)
  · refine Sg.go (pc' := 19) (mi_ifeq_t (tgt := 19) dX11_ends_12 (by decide) h3) ?_
    refine Sg.go (pc' := 20) (mi_aload_n dX11_ends_19 rfl) ?_
    refine Sg.go (pc' := 23) (mi_gfI (r := 40) (k := 6) dX11_ends_20 hC_40 (by decide) rfl wF_X11_94 (by omega) rfl) ?_
    refine Sg.go (pc' := 25) (mi_bipush (z := 10) dX11_ends_23 rfl) ?_
    refine Sg.go (pc' := 26) (mi_isub dX11_ends_25) ?_
    exact Sg.ret (mi_ireturn dX11_ends_26 rfl (Or.inl rfl))
  · refine Sg.go (pc' := 15) (mi_ifeq_f (tgt := 19) dX11_ends_12 (by decide) h3) ?_
    refine Sg.go (pc' := 16) (mi_iload_n dX11_ends_15 rfl) ?_
    refine Sg.go (pc' := 26) (mi_goto (tgt := 26) dX11_ends_16 (by decide)) ?_
    exact Sg.ret (mi_ireturn dX11_ends_26 rfl (Or.inl rfl))
theorem C_X11_ends {Z : MiZ} (hL : ML Z) (a1 : Int) (D : MiD) (b : Int × MiD) (hb : B_X11_ends a1 D = some b) : MC m_X11_ends [(42, 0), (0, a1)] (D, Z) ((mi_LD 0 Z) b) := MC.ofSg (L := (mi_LD 0 Z)) (μ := m_X11_ends) (args := [(42, 0), (0, a1)]) (M := (D, Z)) rfl wP_X11 (Nat.le_of_ble_eq_true rfl) (show Sg m_X11_ends 0 [(42, 0), (0, a1)] [] (D, Z) (mi_LD 0 Z) (B_X11_ends a1 D) from S_X11_ends hL a1 D) hb
abbrev m_X11_here : MiI := (yX11_here, cX11_here, 1, (some .int), 2, none)
def B_X11_here_0 : Nat → MiD → Option (Int × MiD)
  | 0, _ => none
  | f + 1, D => mi_bi (B_X11_byteAt D (D 40 0 4)) fun y1 => if y1 ≠ 32 then (mi_bi (B_X11_byteAt D (D 40 0 4)) fun y3 => some (y3, D)) else (mi_let (mi_st D 40 0 4 (mi_w ((D 40 0 4) + 1))) fun D4 => B_X11_here_0 f D4)
set_option maxRecDepth 20000 in
theorem S_X11_here_0 {Z : MiZ} (hL : ML Z) : ∀ (f : Nat) (D : MiD), Sg m_X11_here 0 [(42, 0)] [] (D, Z) (mi_LD 0 Z) (B_X11_here_0 f D) := by
  intro f
  induction f with
  | zero => intros; exact Sg.nope
  | succ f K0 =>
    intro D
    show Sg m_X11_here 0 [(42, 0)] [] (D, Z) (mi_LD 0 Z) (mi_bi (B_X11_byteAt D (D 40 0 4)) fun y1 => if y1 ≠ 32 then (mi_bi (B_X11_byteAt D (D 40 0 4)) fun y3 => some (y3, D)) else (mi_let (mi_st D 40 0 4 (mi_w ((D 40 0 4) + 1))) fun D4 => B_X11_here_0 f D4))
    refine Sg.go (pc' := 1) (mi_aload_n dX11_here_0 rfl) ?_
    refine Sg.go (pc' := 2) (mi_aload_n dX11_here_1 rfl) ?_
    refine Sg.go (pc' := 5) (mi_gfI (r := 40) (k := 4) dX11_here_2 hC_40 (by decide) rfl wF_X11_87 (by omega) rfl) ?_
    refine Sg.callI (pc' := 8) (t := 0) (μ' := m_X11_byteAt) (args := [(42, 0), (0, (D 40 0 4))]) (mi_invV (n := 1) (r := 40) dX11_here_5 hC_40 (by omega) rfl rfl wN_X11_byteAt rfl ⟨by decide, by decide⟩ wL_X11_90 wI_X11_byteAt wS_X11_byteAt wB_X11 wC_X11_byteAt) (fun v hv => C_X11_byteAt hL (D 40 0 4) D v hv) (Nat.le_of_ble_eq_true rfl) rfl rfl (fun y1 => ?_)
    refine Sg.go (pc' := 10) (mi_bipush (z := 32) dX11_here_8 rfl) ?_
    refine Sg.ite (fun h2 => ?_) (fun h2 => ?_)
    · refine Sg.go (pc' := 26) (mi_icmpne_t (tgt := 26) dX11_here_10 (by decide) h2) ?_
      refine Sg.go (pc' := 27) (mi_aload_n dX11_here_26 rfl) ?_
      refine Sg.go (pc' := 28) (mi_aload_n dX11_here_27 rfl) ?_
      refine Sg.go (pc' := 31) (mi_gfI (r := 40) (k := 4) dX11_here_28 hC_40 (by decide) rfl wF_X11_87 (by omega) rfl) ?_
      refine Sg.callI (pc' := 34) (t := 0) (μ' := m_X11_byteAt) (args := [(42, 0), (0, (D 40 0 4))]) (mi_invV (n := 1) (r := 40) dX11_here_31 hC_40 (by omega) rfl rfl wN_X11_byteAt rfl ⟨by decide, by decide⟩ wL_X11_90 wI_X11_byteAt wS_X11_byteAt wB_X11 wC_X11_byteAt) (fun v hv => C_X11_byteAt hL (D 40 0 4) D v hv) (Nat.le_of_ble_eq_true rfl) rfl rfl (fun y3 => ?_)
      exact Sg.ret (mi_ireturn dX11_here_34 rfl (Or.inl rfl))
    · refine Sg.go (pc' := 13) (mi_icmpne_f (tgt := 26) dX11_here_10 (by decide) h2) ?_
      refine Sg.go (pc' := 14) (mi_aload_n dX11_here_13 rfl) ?_
      refine Sg.go (pc' := 15) (mi_dup dX11_here_14 (show (42 : Nat) ≠ 1 by decide)) ?_
      refine Sg.go (pc' := 18) (mi_gfI (r := 40) (k := 4) dX11_here_15 hC_40 (by decide) rfl wF_X11_87 (by omega) rfl) ?_
      refine Sg.go (pc' := 19) (mi_iconst (z := 1) dX11_here_18 rfl) ?_
      refine Sg.go (pc' := 20) (mi_iadd dX11_here_19) ?_
      refine Sg.goM (pc' := 23) (mi_pfD (r := 40) (k := 4) (t := 0) dX11_here_20 hC_40 (by decide) rfl rfl wF_X11_87 (by omega) rfl (by decide) (Or.inl ⟨rfl, rfl⟩)) ?_
      refine Sg.letD (fun D4 hD4 => ?_)
      refine Sg.go (pc' := 0) (mi_goto (tgt := 0) dX11_here_23 (by decide)) ?_
      exact K0 D4
theorem C_X11_here {Z : MiZ} (hL : ML Z) (D : MiD) (b : Int × MiD) (hb : B_X11_here_0 mi_fuel D = some b) : MC m_X11_here [(42, 0)] (D, Z) ((mi_LD 0 Z) b) := MC.ofSg (L := (mi_LD 0 Z)) (μ := m_X11_here) (args := [(42, 0)]) (M := (D, Z)) rfl wP_X11 (Nat.le_of_ble_eq_true rfl) (show Sg m_X11_here 0 [(42, 0)] [] (D, Z) (mi_LD 0 Z) (B_X11_here_0 mi_fuel D) from S_X11_here_0 hL mi_fuel D) hb
abbrev m_X11_isDatum : MiI := (yX11_isDatum, cX11_isDatum, 2, (some .boolean), 2, none)
def B_X11_isDatum (v1 : Int) : Int := (B_X11_in v1 0 9)
set_option maxRecDepth 20000 in
theorem S_X11_isDatum {D : MiD} {Z : MiZ} (hL : ML Z) (v1 : Int) : Sg m_X11_isDatum 0 [mi_un, (0, v1)] [] (D, Z) (mi_LI 0 (D, Z)) (some (B_X11_isDatum v1)) := by
  unfold B_X11_isDatum
  refine Sg.go (pc' := 1) (mi_iload_n dX11_isDatum_0 rfl) ?_
  refine Sg.go (pc' := 2) (mi_iconst (z := 0) dX11_isDatum_1 rfl) ?_
  refine Sg.go (pc' := 4) (mi_bipush (z := 9) dX11_isDatum_2 rfl) ?_
  refine Sg.callP (pc' := 7) (t := 0) (v := (B_X11_in v1 0 9)) (μ' := m_X11_in) (args := [(0, v1), (0, 0), (0, 9)]) (mi_invS (n := 3) dX11_isDatum_4 rfl wN_X11_in rfl ⟨by decide, by decide⟩ wL_X11_121 wT_X11_in wB_X11 wC_X11_in) (C_X11_in hL v1 0 9 D) (Nat.le_of_ble_eq_true rfl) rfl rfl ?_
  exact Sg.ret (mi_ireturn dX11_isDatum_7 rfl (Or.inr (Or.inl ⟨rfl, (by exact Z_X11_in)⟩)))
theorem C_X11_isDatum {Z : MiZ} (hL : ML Z) (a1 : Int) (D : MiD) : MC m_X11_isDatum [(42, 0), (0, a1)] (D, Z) (mi_LI 0 (D, Z) (B_X11_isDatum a1)) := MC.ofSg (L := (mi_LI 0 (D, Z))) (μ := m_X11_isDatum) (args := [(42, 0), (0, a1)]) (M := (D, Z)) rfl wP_X11 (Nat.le_of_ble_eq_true rfl) (show Sg m_X11_isDatum 0 [(42, 0), (0, a1)] [] (D, Z) (mi_LI 0 (D, Z)) (some (B_X11_isDatum a1)) from Sg.go (pc' := 0) (MiStep.weak (ls' := [mi_un, (0, a1)]) (mi_wk_n (mi_wk_y mi_wk_0))) (S_X11_isDatum hL a1)) rfl
theorem Z_X11_isDatum {v1 : Int} : B_X11_isDatum v1 = 0 ∨ B_X11_isDatum v1 = 1 := by
  unfold B_X11_isDatum
  repeat' split
  all_goals first | exact Or.inl rfl | exact Or.inr rfl | exact Z_X11_areSame | exact Z_X11_in | exact Z_X11_isBit | exact Z_X11_isDigit | exact Z_X11_isQuarters | exact Z_X11_isSmall
abbrev m_X11_isFunction : MiI := (yX11_isFunction, cX11_isFunction, 2, (some .boolean), 2, none)
def B_X11_isFunction (v1 : Int) : Int := (B_X11_in v1 0 11)
set_option maxRecDepth 20000 in
theorem S_X11_isFunction {D : MiD} {Z : MiZ} (hL : ML Z) (v1 : Int) : Sg m_X11_isFunction 0 [mi_un, (0, v1)] [] (D, Z) (mi_LI 0 (D, Z)) (some (B_X11_isFunction v1)) := by
  unfold B_X11_isFunction
  refine Sg.go (pc' := 1) (mi_iload_n dX11_isFunction_0 rfl) ?_
  refine Sg.go (pc' := 2) (mi_iconst (z := 0) dX11_isFunction_1 rfl) ?_
  refine Sg.go (pc' := 4) (mi_bipush (z := 11) dX11_isFunction_2 rfl) ?_
  refine Sg.callP (pc' := 7) (t := 0) (v := (B_X11_in v1 0 11)) (μ' := m_X11_in) (args := [(0, v1), (0, 0), (0, 11)]) (mi_invS (n := 3) dX11_isFunction_4 rfl wN_X11_in rfl ⟨by decide, by decide⟩ wL_X11_121 wT_X11_in wB_X11 wC_X11_in) (C_X11_in hL v1 0 11 D) (Nat.le_of_ble_eq_true rfl) rfl rfl ?_
  exact Sg.ret (mi_ireturn dX11_isFunction_7 rfl (Or.inr (Or.inl ⟨rfl, (by exact Z_X11_in)⟩)))
theorem C_X11_isFunction {Z : MiZ} (hL : ML Z) (a1 : Int) (D : MiD) : MC m_X11_isFunction [(42, 0), (0, a1)] (D, Z) (mi_LI 0 (D, Z) (B_X11_isFunction a1)) := MC.ofSg (L := (mi_LI 0 (D, Z))) (μ := m_X11_isFunction) (args := [(42, 0), (0, a1)]) (M := (D, Z)) rfl wP_X11 (Nat.le_of_ble_eq_true rfl) (show Sg m_X11_isFunction 0 [(42, 0), (0, a1)] [] (D, Z) (mi_LI 0 (D, Z)) (some (B_X11_isFunction a1)) from Sg.go (pc' := 0) (MiStep.weak (ls' := [mi_un, (0, a1)]) (mi_wk_n (mi_wk_y mi_wk_0))) (S_X11_isFunction hL a1)) rfl
theorem Z_X11_isFunction {v1 : Int} : B_X11_isFunction v1 = 0 ∨ B_X11_isFunction v1 = 1 := by
  unfold B_X11_isFunction
  repeat' split
  all_goals first | exact Or.inl rfl | exact Or.inr rfl | exact Z_X11_areSame | exact Z_X11_in | exact Z_X11_isBit | exact Z_X11_isDatum | exact Z_X11_isDigit | exact Z_X11_isQuarters | exact Z_X11_isSmall
abbrev m_X11_isPatch : MiI := (yX11_isPatch, cX11_isPatch, 2, (some .boolean), 2, none)
def B_X11_isPatch (D : MiD) (v1 : Int) : Option (Int) := some (B_X11_in v1 0 (mi_w ((D 40 0 11) - 1)))
set_option maxRecDepth 20000 in
theorem S_X11_isPatch {D : MiD} {Z : MiZ} (hL : ML Z) (v1 : Int) : Sg m_X11_isPatch 0 [(42, 0), (0, v1)] [] (D, Z) (mi_LI 0 (D, Z)) (B_X11_isPatch D v1) := by
  unfold B_X11_isPatch
  refine Sg.go (pc' := 1) (mi_iload_n dX11_isPatch_0 rfl) ?_
  refine Sg.go (pc' := 2) (mi_iconst (z := 0) dX11_isPatch_1 rfl) ?_
  refine Sg.go (pc' := 3) (mi_aload_n dX11_isPatch_2 rfl) ?_
  refine Sg.go (pc' := 6) (mi_gfI (r := 40) (k := 11) dX11_isPatch_3 hC_40 (by decide) rfl wF_X11_272 (by omega) rfl) ?_
  refine Sg.go (pc' := 7) (mi_iconst (z := 1) dX11_isPatch_6 rfl) ?_
  refine Sg.go (pc' := 8) (mi_isub dX11_isPatch_7) ?_
  refine Sg.callP (pc' := 11) (t := 0) (v := (B_X11_in v1 0 (mi_w ((D 40 0 11) - 1)))) (μ' := m_X11_in) (args := [(0, v1), (0, 0), (0, (mi_w ((D 40 0 11) - 1)))]) (mi_invS (n := 3) dX11_isPatch_8 rfl wN_X11_in rfl ⟨by decide, by decide⟩ wL_X11_121 wT_X11_in wB_X11 wC_X11_in) (C_X11_in hL v1 0 (mi_w ((D 40 0 11) - 1)) D) (Nat.le_of_ble_eq_true rfl) rfl rfl ?_
  exact Sg.ret (mi_ireturn dX11_isPatch_11 rfl (Or.inr (Or.inl ⟨rfl, (by exact Z_X11_in)⟩)))
theorem C_X11_isPatch {Z : MiZ} (hL : ML Z) (a1 : Int) (D : MiD) (b : Int) (hb : B_X11_isPatch D a1 = some b) : MC m_X11_isPatch [(42, 0), (0, a1)] (D, Z) ((mi_LI 0 (D, Z)) b) := MC.ofSg (L := (mi_LI 0 (D, Z))) (μ := m_X11_isPatch) (args := [(42, 0), (0, a1)]) (M := (D, Z)) rfl wP_X11 (Nat.le_of_ble_eq_true rfl) (show Sg m_X11_isPatch 0 [(42, 0), (0, a1)] [] (D, Z) (mi_LI 0 (D, Z)) (B_X11_isPatch D a1) from S_X11_isPatch hL a1) hb
abbrev m_X11_isTask : MiI := (yX11_isTask, cX11_isTask, 2, (some .boolean), 2, none)
def B_X11_isTask (v1 : Int) : Int := (B_X11_in v1 0 5)
set_option maxRecDepth 20000 in
theorem S_X11_isTask {D : MiD} {Z : MiZ} (hL : ML Z) (v1 : Int) : Sg m_X11_isTask 0 [mi_un, (0, v1)] [] (D, Z) (mi_LI 0 (D, Z)) (some (B_X11_isTask v1)) := by
  unfold B_X11_isTask
  refine Sg.go (pc' := 1) (mi_iload_n dX11_isTask_0 rfl) ?_
  refine Sg.go (pc' := 2) (mi_iconst (z := 0) dX11_isTask_1 rfl) ?_
  refine Sg.go (pc' := 3) (mi_iconst (z := 5) dX11_isTask_2 rfl) ?_
  refine Sg.callP (pc' := 6) (t := 0) (v := (B_X11_in v1 0 5)) (μ' := m_X11_in) (args := [(0, v1), (0, 0), (0, 5)]) (mi_invS (n := 3) dX11_isTask_3 rfl wN_X11_in rfl ⟨by decide, by decide⟩ wL_X11_121 wT_X11_in wB_X11 wC_X11_in) (C_X11_in hL v1 0 5 D) (Nat.le_of_ble_eq_true rfl) rfl rfl ?_
  exact Sg.ret (mi_ireturn dX11_isTask_6 rfl (Or.inr (Or.inl ⟨rfl, (by exact Z_X11_in)⟩)))
theorem C_X11_isTask {Z : MiZ} (hL : ML Z) (a1 : Int) (D : MiD) : MC m_X11_isTask [(42, 0), (0, a1)] (D, Z) (mi_LI 0 (D, Z) (B_X11_isTask a1)) := MC.ofSg (L := (mi_LI 0 (D, Z))) (μ := m_X11_isTask) (args := [(42, 0), (0, a1)]) (M := (D, Z)) rfl wP_X11 (Nat.le_of_ble_eq_true rfl) (show Sg m_X11_isTask 0 [(42, 0), (0, a1)] [] (D, Z) (mi_LI 0 (D, Z)) (some (B_X11_isTask a1)) from Sg.go (pc' := 0) (MiStep.weak (ls' := [mi_un, (0, a1)]) (mi_wk_n (mi_wk_y mi_wk_0))) (S_X11_isTask hL a1)) rfl
theorem Z_X11_isTask {v1 : Int} : B_X11_isTask v1 = 0 ∨ B_X11_isTask v1 = 1 := by
  unfold B_X11_isTask
  repeat' split
  all_goals first | exact Or.inl rfl | exact Or.inr rfl | exact Z_X11_areSame | exact Z_X11_in | exact Z_X11_isBit | exact Z_X11_isDatum | exact Z_X11_isDigit | exact Z_X11_isFunction | exact Z_X11_isQuarters | exact Z_X11_isSmall
abbrev m_X11_keeps : MiI := (yX11_keeps, cX11_keeps, 3, (some .int), 2, none)
def B_X11_keeps (v1 : Int) (v2 : Int) (D : MiD) : Option (Int × MiD) := if 0 ≤ v1 ∧ v1 < 61 then (if (D 52 0 v1) ≠ 12 then (if (D 52 0 v1) ≠ 11 then (mi_bi (B_X11_copiesRow v1 (B_X11_rowOf v1 v2) D) fun D4 => some (0, D4)) else (some (2, D))) else (some (3, D))) else none
set_option maxRecDepth 20000 in
theorem S_X11_keeps {Z : MiZ} (hL : ML Z) (v1 v2 : Int) (D : MiD) : Sg m_X11_keeps 0 [(42, 0), (0, v1), (0, v2)] [] (D, Z) (mi_LD 0 Z) (B_X11_keeps v1 v2 D) := by
  unfold B_X11_keeps
  refine Sg.go (pc' := 1) (mi_aload_n dX11_keeps_0 rfl) ?_
  refine Sg.go (pc' := 4) (mi_gfA (t := 52) (v := 0) (r := 40) (k := 16) dX11_keeps_1 hC_40 (by decide) rfl wF_X11_42 (by omega) rfl (hL.1 16 (by decide))) ?_
  refine Sg.go (pc' := 5) (mi_iload_n dX11_keeps_4 rfl) ?_
  refine Sg.ck (fun hk1 => ?_)
  refine Sg.go (pc' := 6) (mi_iald (n := 61) dX11_keeps_5 rfl rfl (by omega) hk1) ?_
  refine Sg.go (pc' := 8) (mi_bipush (z := 12) dX11_keeps_6 rfl) ?_
  refine Sg.ite (fun h2 => ?_) (fun h2 => ?_)
  · refine Sg.go (pc' := 13) (mi_icmpne_t (tgt := 13) dX11_keeps_8 (by decide) h2) ?_
    refine Sg.go (pc' := 14) (mi_aload_n dX11_keeps_13 rfl) ?_
    refine Sg.go (pc' := 17) (mi_gfA (t := 52) (v := 0) (r := 40) (k := 16) dX11_keeps_14 hC_40 (by decide) rfl wF_X11_42 (by omega) rfl (hL.1 16 (by decide))) ?_
    refine Sg.go (pc' := 18) (mi_iload_n dX11_keeps_17 rfl) ?_
    refine Sg.go (pc' := 19) (mi_iald (n := 61) dX11_keeps_18 rfl rfl (by omega) hk1) ?_
    refine Sg.go (pc' := 21) (mi_bipush (z := 11) dX11_keeps_19 rfl) ?_
    refine Sg.ite (fun h3 => ?_) (fun h3 => ?_)
    · refine Sg.go (pc' := 26) (mi_icmpne_t (tgt := 26) dX11_keeps_21 (by decide) h3) ?_
      refine Sg.go (pc' := 27) (mi_aload_n dX11_keeps_26 rfl) ?_
      refine Sg.go (pc' := 28) (mi_iload_n dX11_keeps_27 rfl) ?_
      refine Sg.go (pc' := 29) (mi_aload_n dX11_keeps_28 rfl) ?_
      refine Sg.go (pc' := 30) (mi_iload_n dX11_keeps_29 rfl) ?_
      refine Sg.go (pc' := 31) (mi_iload_n dX11_keeps_30 rfl) ?_
      refine Sg.callP (pc' := 34) (t := 0) (v := (B_X11_rowOf v1 v2)) (μ' := m_X11_rowOf) (args := [(42, 0), (0, v1), (0, v2)]) (mi_invV (n := 2) (r := 40) dX11_keeps_31 hC_40 (by omega) rfl rfl wN_X11_rowOf rfl ⟨by decide, by decide⟩ wL_X11_345 wI_X11_rowOf wS_X11_rowOf wB_X11 wC_X11_rowOf) (C_X11_rowOf hL v1 v2 D) (Nat.le_of_ble_eq_true rfl) rfl rfl ?_
      refine Sg.callV (pc' := 37) (μ' := m_X11_copiesRow) (args := [(42, 0), (0, v1), (0, (B_X11_rowOf v1 v2))]) (mi_invV (n := 2) (r := 40) dX11_keeps_34 hC_40 (by omega) rfl rfl wN_X11_copiesRow rfl ⟨by decide, by decide⟩ wL_X11_355 wI_X11_copiesRow wS_X11_copiesRow wB_X11 wC_X11_copiesRow) (fun v hv => C_X11_copiesRow hL v1 (B_X11_rowOf v1 v2) D v hv) (Nat.le_of_ble_eq_true rfl) rfl rfl (fun D4 => ?_)
      refine Sg.go (pc' := 38) (mi_iconst (z := 0) dX11_keeps_37 rfl) ?_
      exact Sg.ret (mi_ireturn dX11_keeps_38 rfl (Or.inl rfl))
    · refine Sg.go (pc' := 24) (mi_icmpne_f (tgt := 26) dX11_keeps_21 (by decide) h3) ?_
      refine Sg.go (pc' := 25) (mi_iconst (z := 2) dX11_keeps_24 rfl) ?_
      exact Sg.ret (mi_ireturn dX11_keeps_25 rfl (Or.inl rfl))
  · refine Sg.go (pc' := 11) (mi_icmpne_f (tgt := 13) dX11_keeps_8 (by decide) h2) ?_
    refine Sg.go (pc' := 12) (mi_iconst (z := 3) dX11_keeps_11 rfl) ?_
    exact Sg.ret (mi_ireturn dX11_keeps_12 rfl (Or.inl rfl))
theorem C_X11_keeps {Z : MiZ} (hL : ML Z) (a1 a2 : Int) (D : MiD) (b : Int × MiD) (hb : B_X11_keeps a1 a2 D = some b) : MC m_X11_keeps [(42, 0), (0, a1), (0, a2)] (D, Z) ((mi_LD 0 Z) b) := MC.ofSg (L := (mi_LD 0 Z)) (μ := m_X11_keeps) (args := [(42, 0), (0, a1), (0, a2)]) (M := (D, Z)) rfl wP_X11 (Nat.le_of_ble_eq_true rfl) (show Sg m_X11_keeps 0 [(42, 0), (0, a1), (0, a2)] [] (D, Z) (mi_LD 0 Z) (B_X11_keeps a1 a2 D) from S_X11_keeps hL a1 a2 D) hb
abbrev m_X11_laysAll : MiI := (yX11_laysAll, cX11_laysAll, 4, none, 2, none)
def B_X11_laysAll_101 (k93 : Int → Int → MiD → Option (MiD)) : Nat → Int → Int → Int → MiD → Option (MiD)
  | 0, _, _, _, _ => none
  | f + 1, v1, v2, v3, D => if 10 ≤ v3 then (k93 v1 (mi_w (v2 + 1)) D) else (if 0 ≤ v2 ∧ v2 < 6 then (if 0 ≤ v3 ∧ v3 < 10 then (mi_bi (B_X11_lays_r63 (10 * v2 + v3) v1 D) fun D4 => B_X11_laysAll_101 k93 f v1 v2 (mi_w (v3 + 1)) D4) else none) else none)
set_option maxRecDepth 20000 in
theorem S_X11_laysAll_101 {Z : MiZ} (hL : ML Z) {k93 : Int → Int → MiD → Option (MiD)} (K93 : ∀ (v1 v2 : Int) (D : MiD), (v1 = 0 ∨ v1 = 1) → Sg m_X11_laysAll 93 [(42, 0), (0, v1), (0, v2), mi_un] [] (D, Z) (mi_LV Z) (k93 v1 v2 D)) : ∀ (f : Nat) (v1 v2 v3 : Int) (D : MiD), (v1 = 0 ∨ v1 = 1) → Sg m_X11_laysAll 101 [(42, 0), (0, v1), (0, v2), (0, v3)] [] (D, Z) (mi_LV Z) (B_X11_laysAll_101 k93 f v1 v2 v3 D) := by
  intro f
  induction f with
  | zero => intros; exact Sg.nope
  | succ f K101 =>
    intro v1 v2 v3 D hb1
    show Sg m_X11_laysAll 101 [(42, 0), (0, v1), (0, v2), (0, v3)] [] (D, Z) (mi_LV Z) (if 10 ≤ v3 then (k93 v1 (mi_w (v2 + 1)) D) else (if 0 ≤ v2 ∧ v2 < 6 then (if 0 ≤ v3 ∧ v3 < 10 then (mi_bi (B_X11_lays_r63 (10 * v2 + v3) v1 D) fun D4 => B_X11_laysAll_101 k93 f v1 v2 (mi_w (v3 + 1)) D4) else none) else none))
    refine Sg.go (pc' := 102) (mi_iload_n dX11_laysAll_101 rfl) ?_
    refine Sg.go (pc' := 104) (mi_bipush (z := 10) dX11_laysAll_102 rfl) ?_
    refine Sg.ite (fun h1 => ?_) (fun h1 => ?_)
    · refine Sg.go (pc' := 126) (mi_icmpge_t (tgt := 126) dX11_laysAll_104 (by decide) h1) ?_
      refine Sg.go (pc' := 129) (mi_iinc (z := 1) (ls1 := [(42, 0), (0, v1), (0, (mi_w (v2 + 1))), (0, v3)]) dX11_laysAll_126 (by decide) rfl rfl rfl) ?_
      refine Sg.go (pc' := 93) (mi_goto (tgt := 93) dX11_laysAll_129 (by decide)) ?_
      refine Sg.go (pc' := 93) (MiStep.weak (ls' := [(42, 0), (0, v1), (0, (mi_w (v2 + 1))), mi_un]) (mi_wk_y (mi_wk_y (mi_wk_y (mi_wk_n mi_wk_0))))) ?_
      exact K93 v1 (mi_w (v2 + 1)) D hb1
    · refine Sg.go (pc' := 107) (mi_icmpge_f (tgt := 126) dX11_laysAll_104 (by decide) h1) ?_
      refine Sg.go (pc' := 108) (mi_aload_n dX11_laysAll_107 rfl) ?_
      refine Sg.go (pc' := 109) (mi_aload_n dX11_laysAll_108 rfl) ?_
      refine Sg.go (pc' := 112) (mi_gfA (t := 61) (v := 0) (r := 40) (k := 22) dX11_laysAll_109 hC_40 (by decide) rfl wF_X11_63 (by omega) rfl (hL.1 22 (by decide))) ?_
      refine Sg.go (pc' := 113) (mi_iload_n dX11_laysAll_112 rfl) ?_
      refine Sg.ck (fun hk2 => ?_)
      refine Sg.go (pc' := 114) (mi_aald (n := 6) (t := 62) (v := v2) dX11_laysAll_113 rfl hA_61 rfl (by omega) hk2 rfl (hL.2.2.2.2.2.2.2.1 _ hk2.1 hk2.2)) ?_
      refine Sg.go (pc' := 115) (mi_iload_n dX11_laysAll_114 rfl) ?_
      refine Sg.ck (fun hk3 => ?_)
      refine Sg.go (pc' := 116) (mi_aald (n := 10) (t := 63) (v := (10 * v2 + v3)) dX11_laysAll_115 rfl hA_62 rfl (by omega) hk3 rfl (hL.2.2.2.2.2.2.2.2 _ _ (by omega) (by omega) hk3.1 hk3.2)) ?_
      refine Sg.go (pc' := 117) (mi_iload_n dX11_laysAll_116 rfl) ?_
      refine Sg.callV (pc' := 120) (μ' := m_X11_lays_r63) (args := [(42, 0), (65, (10 * v2 + v3)), (0, v1)]) (mi_invV (n := 2) (r := 40) dX11_laysAll_117 hC_40 (by omega) rfl rfl wN_X11_lays rfl ⟨by decide, by decide⟩ wL_X11_429 wI_X11_lays wS_X11_lays wB_X11 wC_X11_lays) (fun v hv => C_X11_lays_r63 hL (10 * v2 + v3) v1 D (by omega) (hb1) v hv) (Nat.le_of_ble_eq_true rfl) rfl rfl (fun D4 => ?_)
      refine Sg.go (pc' := 123) (mi_iinc (z := 1) (ls1 := [(42, 0), (0, v1), (0, v2), (0, (mi_w (v3 + 1)))]) dX11_laysAll_120 (by decide) rfl rfl rfl) ?_
      refine Sg.go (pc' := 101) (mi_goto (tgt := 101) dX11_laysAll_123 (by decide)) ?_
      exact K101 v1 v2 (mi_w (v3 + 1)) D4 hb1
def B_X11_laysAll_142 (k134 : Int → Int → MiD → Option (MiD)) : Nat → Int → Int → Int → MiD → Option (MiD)
  | 0, _, _, _, _ => none
  | f + 1, v1, v2, v3, D => if 9 ≤ v3 then (k134 v1 (mi_w (v2 + 1)) D) else (if 0 ≤ v2 ∧ v2 < 61 then (mi_bi (B_X11_laysLong_r57 v2 v3 (mi_w ((mi_w (v2 * 9)) + v3)) v1 D) fun D3 => B_X11_laysAll_142 k134 f v1 v2 (mi_w (v3 + 1)) D3) else none)
set_option maxRecDepth 20000 in
theorem S_X11_laysAll_142 {Z : MiZ} (hL : ML Z) {k134 : Int → Int → MiD → Option (MiD)} (K134 : ∀ (v1 v2 : Int) (D : MiD), (v1 = 0 ∨ v1 = 1) → Sg m_X11_laysAll 134 [(42, 0), (0, v1), (0, v2), mi_un] [] (D, Z) (mi_LV Z) (k134 v1 v2 D)) : ∀ (f : Nat) (v1 v2 v3 : Int) (D : MiD), (v1 = 0 ∨ v1 = 1) → Sg m_X11_laysAll 142 [(42, 0), (0, v1), (0, v2), (0, v3)] [] (D, Z) (mi_LV Z) (B_X11_laysAll_142 k134 f v1 v2 v3 D) := by
  intro f
  induction f with
  | zero => intros; exact Sg.nope
  | succ f K142 =>
    intro v1 v2 v3 D hb1
    show Sg m_X11_laysAll 142 [(42, 0), (0, v1), (0, v2), (0, v3)] [] (D, Z) (mi_LV Z) (if 9 ≤ v3 then (k134 v1 (mi_w (v2 + 1)) D) else (if 0 ≤ v2 ∧ v2 < 61 then (mi_bi (B_X11_laysLong_r57 v2 v3 (mi_w ((mi_w (v2 * 9)) + v3)) v1 D) fun D3 => B_X11_laysAll_142 k134 f v1 v2 (mi_w (v3 + 1)) D3) else none))
    refine Sg.go (pc' := 143) (mi_iload_n dX11_laysAll_142 rfl) ?_
    refine Sg.go (pc' := 145) (mi_bipush (z := 9) dX11_laysAll_143 rfl) ?_
    refine Sg.ite (fun h1 => ?_) (fun h1 => ?_)
    · refine Sg.go (pc' := 172) (mi_icmpge_t (tgt := 172) dX11_laysAll_145 (by decide) h1) ?_
      refine Sg.go (pc' := 175) (mi_iinc (z := 1) (ls1 := [(42, 0), (0, v1), (0, (mi_w (v2 + 1))), (0, v3)]) dX11_laysAll_172 (by decide) rfl rfl rfl) ?_
      refine Sg.go (pc' := 134) (mi_goto (tgt := 134) dX11_laysAll_175 (by decide)) ?_
      refine Sg.go (pc' := 134) (MiStep.weak (ls' := [(42, 0), (0, v1), (0, (mi_w (v2 + 1))), mi_un]) (mi_wk_y (mi_wk_y (mi_wk_y (mi_wk_n mi_wk_0))))) ?_
      exact K134 v1 (mi_w (v2 + 1)) D hb1
    · refine Sg.go (pc' := 148) (mi_icmpge_f (tgt := 172) dX11_laysAll_145 (by decide) h1) ?_
      refine Sg.go (pc' := 149) (mi_aload_n dX11_laysAll_148 rfl) ?_
      refine Sg.go (pc' := 150) (mi_aload_n dX11_laysAll_149 rfl) ?_
      refine Sg.go (pc' := 153) (mi_gfA (t := 56) (v := 0) (r := 40) (k := 19) dX11_laysAll_150 hC_40 (by decide) rfl wF_X11_53 (by omega) rfl (hL.1 19 (by decide))) ?_
      refine Sg.go (pc' := 154) (mi_iload_n dX11_laysAll_153 rfl) ?_
      refine Sg.ck (fun hk2 => ?_)
      refine Sg.go (pc' := 155) (mi_aald (n := 61) (t := 57) (v := v2) dX11_laysAll_154 rfl hA_56 rfl (by omega) hk2 rfl (hL.2.2.2.2.2.1 _ hk2.1 hk2.2)) ?_
      refine Sg.go (pc' := 156) (mi_iload_n dX11_laysAll_155 rfl) ?_
      refine Sg.go (pc' := 157) (mi_iload_n dX11_laysAll_156 rfl) ?_
      refine Sg.go (pc' := 159) (mi_bipush (z := 9) dX11_laysAll_157 rfl) ?_
      refine Sg.go (pc' := 160) (mi_imul dX11_laysAll_159) ?_
      refine Sg.go (pc' := 161) (mi_iload_n dX11_laysAll_160 rfl) ?_
      refine Sg.go (pc' := 162) (mi_iadd dX11_laysAll_161) ?_
      refine Sg.go (pc' := 163) (mi_iload_n dX11_laysAll_162 rfl) ?_
      refine Sg.callV (pc' := 166) (μ' := m_X11_laysLong_r57) (args := [(42, 0), (59, v2), (0, v3), (0, (mi_w ((mi_w (v2 * 9)) + v3))), (0, v1)]) (mi_invV (n := 4) (r := 40) dX11_laysAll_163 hC_40 (by omega) rfl rfl wN_X11_laysLong rfl ⟨by decide, by decide⟩ wL_X11_433 wI_X11_laysLong wS_X11_laysLong wB_X11 wC_X11_laysLong) (fun v hv => C_X11_laysLong_r57 hL v2 v3 (mi_w ((mi_w (v2 * 9)) + v3)) v1 D (by omega) (hb1) v hv) (Nat.le_of_ble_eq_true rfl) rfl rfl (fun D3 => ?_)
      refine Sg.go (pc' := 169) (mi_iinc (z := 1) (ls1 := [(42, 0), (0, v1), (0, v2), (0, (mi_w (v3 + 1)))]) dX11_laysAll_166 (by decide) rfl rfl rfl) ?_
      refine Sg.go (pc' := 142) (mi_goto (tgt := 142) dX11_laysAll_169 (by decide)) ?_
      exact K142 v1 v2 (mi_w (v3 + 1)) D3 hb1
def B_X11_laysAll_180 : Nat → Int → Int → MiD → Option (MiD)
  | 0, _, _, _ => none
  | f + 1, v1, v2, D => if 6 < v2 then (some D) else (mi_bi (B_X11_laysLong_r60 v2 (mi_w (540 + v2)) v1 D) fun D2 => B_X11_laysAll_180 f v1 (mi_w (v2 + 1)) D2)
set_option maxRecDepth 20000 in
theorem S_X11_laysAll_180 {Z : MiZ} (hL : ML Z) : ∀ (f : Nat) (v1 v2 : Int) (D : MiD), (v1 = 0 ∨ v1 = 1) → Sg m_X11_laysAll 180 [(42, 0), (0, v1), (0, v2), mi_un] [] (D, Z) (mi_LV Z) (B_X11_laysAll_180 f v1 v2 D) := by
  intro f
  induction f with
  | zero => intros; exact Sg.nope
  | succ f K180 =>
    intro v1 v2 D hb1
    show Sg m_X11_laysAll 180 [(42, 0), (0, v1), (0, v2), mi_un] [] (D, Z) (mi_LV Z) (if 6 < v2 then (some D) else (mi_bi (B_X11_laysLong_r60 v2 (mi_w (540 + v2)) v1 D) fun D2 => B_X11_laysAll_180 f v1 (mi_w (v2 + 1)) D2))
    refine Sg.go (pc' := 181) (mi_iload_n dX11_laysAll_180 rfl) ?_
    refine Sg.go (pc' := 183) (mi_bipush (z := 6) dX11_laysAll_181 rfl) ?_
    refine Sg.ite (fun h1 => ?_) (fun h1 => ?_)
    · refine Sg.go (pc' := 207) (mi_icmpgt_t (tgt := 207) dX11_laysAll_183 (by decide) h1) ?_
      exact Sg.ret (mi_return dX11_laysAll_207 rfl (0, 0))
    · refine Sg.go (pc' := 186) (mi_icmpgt_f (tgt := 207) dX11_laysAll_183 (by decide) h1) ?_
      refine Sg.go (pc' := 187) (mi_aload_n dX11_laysAll_186 rfl) ?_
      refine Sg.go (pc' := 188) (mi_aload_n dX11_laysAll_187 rfl) ?_
      refine Sg.go (pc' := 191) (mi_gfA (t := 60) (v := 0) (r := 40) (k := 21) dX11_laysAll_188 hC_40 (by decide) rfl wF_X11_59 (by omega) rfl (hL.1 21 (by decide))) ?_
      refine Sg.go (pc' := 192) (mi_iload_n dX11_laysAll_191 rfl) ?_
      refine Sg.go (pc' := 195) (mi_sipush (z := 540) dX11_laysAll_192 rfl) ?_
      refine Sg.go (pc' := 196) (mi_iload_n dX11_laysAll_195 rfl) ?_
      refine Sg.go (pc' := 197) (mi_iadd dX11_laysAll_196) ?_
      refine Sg.go (pc' := 198) (mi_iload_n dX11_laysAll_197 rfl) ?_
      refine Sg.callV (pc' := 201) (μ' := m_X11_laysLong_r60) (args := [(42, 0), (62, 0), (0, v2), (0, (mi_w (540 + v2))), (0, v1)]) (mi_invV (n := 4) (r := 40) dX11_laysAll_198 hC_40 (by omega) rfl rfl wN_X11_laysLong rfl ⟨by decide, by decide⟩ wL_X11_433 wI_X11_laysLong wS_X11_laysLong wB_X11 wC_X11_laysLong) (fun v hv => C_X11_laysLong_r60 hL v2 (mi_w (540 + v2)) v1 D (hb1) v hv) (Nat.le_of_ble_eq_true rfl) rfl rfl (fun D2 => ?_)
      refine Sg.go (pc' := 204) (mi_iinc (z := 1) (ls1 := [(42, 0), (0, v1), (0, (mi_w (v2 + 1))), mi_un]) dX11_laysAll_201 (by decide) rfl rfl rfl) ?_
      refine Sg.go (pc' := 180) (mi_goto (tgt := 180) dX11_laysAll_204 (by decide)) ?_
      exact K180 v1 (mi_w (v2 + 1)) D2 hb1
def B_X11_laysAll_134 : Nat → Int → Int → MiD → Option (MiD)
  | 0, _, _, _ => none
  | f + 1, v1, v2, D => if 60 ≤ v2 then (B_X11_laysAll_180 mi_fuel v1 0 D) else (B_X11_laysAll_142 (B_X11_laysAll_134 f) mi_fuel v1 v2 0 D)
set_option maxRecDepth 20000 in
theorem S_X11_laysAll_134 {Z : MiZ} (hL : ML Z) : ∀ (f : Nat) (v1 v2 : Int) (D : MiD), (v1 = 0 ∨ v1 = 1) → Sg m_X11_laysAll 134 [(42, 0), (0, v1), (0, v2), mi_un] [] (D, Z) (mi_LV Z) (B_X11_laysAll_134 f v1 v2 D) := by
  intro f
  induction f with
  | zero => intros; exact Sg.nope
  | succ f K134 =>
    intro v1 v2 D hb1
    show Sg m_X11_laysAll 134 [(42, 0), (0, v1), (0, v2), mi_un] [] (D, Z) (mi_LV Z) (if 60 ≤ v2 then (B_X11_laysAll_180 mi_fuel v1 0 D) else (B_X11_laysAll_142 (B_X11_laysAll_134 f) mi_fuel v1 v2 0 D))
    refine Sg.go (pc' := 135) (mi_iload_n dX11_laysAll_134 rfl) ?_
    refine Sg.go (pc' := 137) (mi_bipush (z := 60) dX11_laysAll_135 rfl) ?_
    refine Sg.ite (fun h1 => ?_) (fun h1 => ?_)
    · refine Sg.go (pc' := 178) (mi_icmpge_t (tgt := 178) dX11_laysAll_137 (by decide) h1) ?_
      refine Sg.go (pc' := 179) (mi_iconst (z := 0) dX11_laysAll_178 rfl) ?_
      refine Sg.go (pc' := 180) (mi_istore_n (ls1 := [(42, 0), (0, v1), (0, 0), mi_un]) dX11_laysAll_179 (by decide) rfl) ?_
      exact S_X11_laysAll_180 hL mi_fuel v1 0 D hb1
    · refine Sg.go (pc' := 140) (mi_icmpge_f (tgt := 178) dX11_laysAll_137 (by decide) h1) ?_
      refine Sg.go (pc' := 141) (mi_iconst (z := 0) dX11_laysAll_140 rfl) ?_
      refine Sg.go (pc' := 142) (mi_istore_n (ls1 := [(42, 0), (0, v1), (0, v2), (0, 0)]) dX11_laysAll_141 (by decide) rfl) ?_
      exact S_X11_laysAll_142 hL K134 mi_fuel v1 v2 0 D hb1
def B_X11_laysAll_93 : Nat → Int → Int → MiD → Option (MiD)
  | 0, _, _, _ => none
  | f + 1, v1, v2, D => if 6 ≤ v2 then (B_X11_laysAll_134 mi_fuel v1 0 D) else (B_X11_laysAll_101 (B_X11_laysAll_93 f) mi_fuel v1 v2 0 D)
set_option maxRecDepth 20000 in
theorem S_X11_laysAll_93 {Z : MiZ} (hL : ML Z) : ∀ (f : Nat) (v1 v2 : Int) (D : MiD), (v1 = 0 ∨ v1 = 1) → Sg m_X11_laysAll 93 [(42, 0), (0, v1), (0, v2), mi_un] [] (D, Z) (mi_LV Z) (B_X11_laysAll_93 f v1 v2 D) := by
  intro f
  induction f with
  | zero => intros; exact Sg.nope
  | succ f K93 =>
    intro v1 v2 D hb1
    show Sg m_X11_laysAll 93 [(42, 0), (0, v1), (0, v2), mi_un] [] (D, Z) (mi_LV Z) (if 6 ≤ v2 then (B_X11_laysAll_134 mi_fuel v1 0 D) else (B_X11_laysAll_101 (B_X11_laysAll_93 f) mi_fuel v1 v2 0 D))
    refine Sg.go (pc' := 94) (mi_iload_n dX11_laysAll_93 rfl) ?_
    refine Sg.go (pc' := 96) (mi_bipush (z := 6) dX11_laysAll_94 rfl) ?_
    refine Sg.ite (fun h1 => ?_) (fun h1 => ?_)
    · refine Sg.go (pc' := 132) (mi_icmpge_t (tgt := 132) dX11_laysAll_96 (by decide) h1) ?_
      refine Sg.go (pc' := 133) (mi_iconst (z := 0) dX11_laysAll_132 rfl) ?_
      refine Sg.go (pc' := 134) (mi_istore_n (ls1 := [(42, 0), (0, v1), (0, 0), mi_un]) dX11_laysAll_133 (by decide) rfl) ?_
      exact S_X11_laysAll_134 hL mi_fuel v1 0 D hb1
    · refine Sg.go (pc' := 99) (mi_icmpge_f (tgt := 132) dX11_laysAll_96 (by decide) h1) ?_
      refine Sg.go (pc' := 100) (mi_iconst (z := 0) dX11_laysAll_99 rfl) ?_
      refine Sg.go (pc' := 101) (mi_istore_n (ls1 := [(42, 0), (0, v1), (0, v2), (0, 0)]) dX11_laysAll_100 (by decide) rfl) ?_
      exact S_X11_laysAll_101 hL K93 mi_fuel v1 v2 0 D hb1
def B_X11_laysAll_68 : Nat → Int → Int → MiD → Option (MiD)
  | 0, _, _, _ => none
  | f + 1, v1, v2, D => if 6 < v2 then (B_X11_laysAll_93 mi_fuel v1 0 D) else (if 0 ≤ v2 ∧ v2 < 7 then (mi_bi (B_X11_lays_r59 v2 v1 D) fun D3 => B_X11_laysAll_68 f v1 (mi_w (v2 + 1)) D3) else none)
set_option maxRecDepth 20000 in
theorem S_X11_laysAll_68 {Z : MiZ} (hL : ML Z) : ∀ (f : Nat) (v1 v2 : Int) (D : MiD), (v1 = 0 ∨ v1 = 1) → Sg m_X11_laysAll 68 [(42, 0), (0, v1), (0, v2), mi_un] [] (D, Z) (mi_LV Z) (B_X11_laysAll_68 f v1 v2 D) := by
  intro f
  induction f with
  | zero => intros; exact Sg.nope
  | succ f K68 =>
    intro v1 v2 D hb1
    show Sg m_X11_laysAll 68 [(42, 0), (0, v1), (0, v2), mi_un] [] (D, Z) (mi_LV Z) (if 6 < v2 then (B_X11_laysAll_93 mi_fuel v1 0 D) else (if 0 ≤ v2 ∧ v2 < 7 then (mi_bi (B_X11_lays_r59 v2 v1 D) fun D3 => B_X11_laysAll_68 f v1 (mi_w (v2 + 1)) D3) else none))
    refine Sg.go (pc' := 69) (mi_iload_n dX11_laysAll_68 rfl) ?_
    refine Sg.go (pc' := 71) (mi_bipush (z := 6) dX11_laysAll_69 rfl) ?_
    refine Sg.ite (fun h1 => ?_) (fun h1 => ?_)
    · refine Sg.go (pc' := 91) (mi_icmpgt_t (tgt := 91) dX11_laysAll_71 (by decide) h1) ?_
      refine Sg.go (pc' := 92) (mi_iconst (z := 0) dX11_laysAll_91 rfl) ?_
      refine Sg.go (pc' := 93) (mi_istore_n (ls1 := [(42, 0), (0, v1), (0, 0), mi_un]) dX11_laysAll_92 (by decide) rfl) ?_
      exact S_X11_laysAll_93 hL mi_fuel v1 0 D hb1
    · refine Sg.go (pc' := 74) (mi_icmpgt_f (tgt := 91) dX11_laysAll_71 (by decide) h1) ?_
      refine Sg.go (pc' := 75) (mi_aload_n dX11_laysAll_74 rfl) ?_
      refine Sg.go (pc' := 76) (mi_aload_n dX11_laysAll_75 rfl) ?_
      refine Sg.go (pc' := 79) (mi_gfA (t := 58) (v := 0) (r := 40) (k := 20) dX11_laysAll_76 hC_40 (by decide) rfl wF_X11_56 (by omega) rfl (hL.1 20 (by decide))) ?_
      refine Sg.go (pc' := 80) (mi_iload_n dX11_laysAll_79 rfl) ?_
      refine Sg.ck (fun hk2 => ?_)
      refine Sg.go (pc' := 81) (mi_aald (n := 7) (t := 59) (v := v2) dX11_laysAll_80 rfl hA_58 rfl (by omega) hk2 rfl (hL.2.2.2.2.2.2.1 _ hk2.1 hk2.2)) ?_
      refine Sg.go (pc' := 82) (mi_iload_n dX11_laysAll_81 rfl) ?_
      refine Sg.callV (pc' := 85) (μ' := m_X11_lays_r59) (args := [(42, 0), (61, v2), (0, v1)]) (mi_invV (n := 2) (r := 40) dX11_laysAll_82 hC_40 (by omega) rfl rfl wN_X11_lays rfl ⟨by decide, by decide⟩ wL_X11_429 wI_X11_lays wS_X11_lays wB_X11 wC_X11_lays) (fun v hv => C_X11_lays_r59 hL v2 v1 D (by omega) (hb1) v hv) (Nat.le_of_ble_eq_true rfl) rfl rfl (fun D3 => ?_)
      refine Sg.go (pc' := 88) (mi_iinc (z := 1) (ls1 := [(42, 0), (0, v1), (0, (mi_w (v2 + 1))), mi_un]) dX11_laysAll_85 (by decide) rfl rfl rfl) ?_
      refine Sg.go (pc' := 68) (mi_goto (tgt := 68) dX11_laysAll_88 (by decide)) ?_
      exact K68 v1 (mi_w (v2 + 1)) D3 hb1
def B_X11_laysAll_43 : Nat → Int → Int → MiD → Option (MiD)
  | 0, _, _, _ => none
  | f + 1, v1, v2, D => if 60 ≤ v2 then (B_X11_laysAll_68 mi_fuel v1 0 D) else (if 0 ≤ v2 ∧ v2 < 61 then (mi_bi (B_X11_lays_r55 v2 v1 D) fun D3 => B_X11_laysAll_43 f v1 (mi_w (v2 + 1)) D3) else none)
set_option maxRecDepth 20000 in
theorem S_X11_laysAll_43 {Z : MiZ} (hL : ML Z) : ∀ (f : Nat) (v1 v2 : Int) (D : MiD), (v1 = 0 ∨ v1 = 1) → Sg m_X11_laysAll 43 [(42, 0), (0, v1), (0, v2), mi_un] [] (D, Z) (mi_LV Z) (B_X11_laysAll_43 f v1 v2 D) := by
  intro f
  induction f with
  | zero => intros; exact Sg.nope
  | succ f K43 =>
    intro v1 v2 D hb1
    show Sg m_X11_laysAll 43 [(42, 0), (0, v1), (0, v2), mi_un] [] (D, Z) (mi_LV Z) (if 60 ≤ v2 then (B_X11_laysAll_68 mi_fuel v1 0 D) else (if 0 ≤ v2 ∧ v2 < 61 then (mi_bi (B_X11_lays_r55 v2 v1 D) fun D3 => B_X11_laysAll_43 f v1 (mi_w (v2 + 1)) D3) else none))
    refine Sg.go (pc' := 44) (mi_iload_n dX11_laysAll_43 rfl) ?_
    refine Sg.go (pc' := 46) (mi_bipush (z := 60) dX11_laysAll_44 rfl) ?_
    refine Sg.ite (fun h1 => ?_) (fun h1 => ?_)
    · refine Sg.go (pc' := 66) (mi_icmpge_t (tgt := 66) dX11_laysAll_46 (by decide) h1) ?_
      refine Sg.go (pc' := 67) (mi_iconst (z := 0) dX11_laysAll_66 rfl) ?_
      refine Sg.go (pc' := 68) (mi_istore_n (ls1 := [(42, 0), (0, v1), (0, 0), mi_un]) dX11_laysAll_67 (by decide) rfl) ?_
      exact S_X11_laysAll_68 hL mi_fuel v1 0 D hb1
    · refine Sg.go (pc' := 49) (mi_icmpge_f (tgt := 66) dX11_laysAll_46 (by decide) h1) ?_
      refine Sg.go (pc' := 50) (mi_aload_n dX11_laysAll_49 rfl) ?_
      refine Sg.go (pc' := 51) (mi_aload_n dX11_laysAll_50 rfl) ?_
      refine Sg.go (pc' := 54) (mi_gfA (t := 54) (v := 0) (r := 40) (k := 18) dX11_laysAll_51 hC_40 (by decide) rfl wF_X11_48 (by omega) rfl (hL.1 18 (by decide))) ?_
      refine Sg.go (pc' := 55) (mi_iload_n dX11_laysAll_54 rfl) ?_
      refine Sg.ck (fun hk2 => ?_)
      refine Sg.go (pc' := 56) (mi_aald (n := 61) (t := 55) (v := v2) dX11_laysAll_55 rfl hA_54 rfl (by omega) hk2 rfl (hL.2.2.2.2.1 _ hk2.1 hk2.2)) ?_
      refine Sg.go (pc' := 57) (mi_iload_n dX11_laysAll_56 rfl) ?_
      refine Sg.callV (pc' := 60) (μ' := m_X11_lays_r55) (args := [(42, 0), (57, v2), (0, v1)]) (mi_invV (n := 2) (r := 40) dX11_laysAll_57 hC_40 (by omega) rfl rfl wN_X11_lays rfl ⟨by decide, by decide⟩ wL_X11_429 wI_X11_lays wS_X11_lays wB_X11 wC_X11_lays) (fun v hv => C_X11_lays_r55 hL v2 v1 D (by omega) (hb1) v hv) (Nat.le_of_ble_eq_true rfl) rfl rfl (fun D3 => ?_)
      refine Sg.go (pc' := 63) (mi_iinc (z := 1) (ls1 := [(42, 0), (0, v1), (0, (mi_w (v2 + 1))), mi_un]) dX11_laysAll_60 (by decide) rfl rfl rfl) ?_
      refine Sg.go (pc' := 43) (mi_goto (tgt := 43) dX11_laysAll_63 (by decide)) ?_
      exact K43 v1 (mi_w (v2 + 1)) D3 hb1
def B_X11_laysAll (v1 : Int) (D : MiD) : Option (MiD) := mi_let (mi_st D 40 0 29 0) fun D1 => mi_bi (B_X11_lays_r52 v1 D1) fun D2 => mi_bi (B_X11_lays_r53 v1 D2) fun D3 => mi_bi (B_X11_lays_r64 v1 D3) fun D4 => mi_bi (B_X11_lays_r65 v1 D4) fun D5 => B_X11_laysAll_43 mi_fuel v1 0 D5
set_option maxRecDepth 20000 in
theorem S_X11_laysAll {Z : MiZ} (hL : ML Z) (v1 : Int) (D : MiD) : (v1 = 0 ∨ v1 = 1) → Sg m_X11_laysAll 0 [(42, 0), (0, v1), mi_un, mi_un] [] (D, Z) (mi_LV Z) (B_X11_laysAll v1 D) := by
  intro hb1
  unfold B_X11_laysAll
  refine Sg.go (pc' := 1) (mi_aload_n dX11_laysAll_0 rfl) ?_
  refine Sg.go (pc' := 2) (mi_iconst (z := 0) dX11_laysAll_1 rfl) ?_
  refine Sg.goM (pc' := 5) (mi_pfD (r := 40) (k := 29) (t := 0) dX11_laysAll_2 hC_40 (by decide) rfl rfl wF_X11_426 (by omega) rfl (by decide) (Or.inl ⟨rfl, rfl⟩)) ?_
  refine Sg.letD (fun D1 hD1 => ?_)
  refine Sg.go (pc' := 6) (mi_aload_n dX11_laysAll_5 rfl) ?_
  refine Sg.go (pc' := 7) (mi_aload_n dX11_laysAll_6 rfl) ?_
  refine Sg.go (pc' := 10) (mi_gfA (t := 52) (v := 0) (r := 40) (k := 16) dX11_laysAll_7 hC_40 (by decide) rfl wF_X11_42 (by omega) rfl (hL.1 16 (by decide))) ?_
  refine Sg.go (pc' := 11) (mi_iload_n dX11_laysAll_10 rfl) ?_
  refine Sg.callV (pc' := 14) (μ' := m_X11_lays_r52) (args := [(42, 0), (54, 0), (0, v1)]) (mi_invV (n := 2) (r := 40) dX11_laysAll_11 hC_40 (by omega) rfl rfl wN_X11_lays rfl ⟨by decide, by decide⟩ wL_X11_429 wI_X11_lays wS_X11_lays wB_X11 wC_X11_lays) (fun v hv => C_X11_lays_r52 hL v1 D1 (hb1) v hv) (Nat.le_of_ble_eq_true rfl) rfl rfl (fun D2 => ?_)
  refine Sg.go (pc' := 15) (mi_aload_n dX11_laysAll_14 rfl) ?_
  refine Sg.go (pc' := 16) (mi_aload_n dX11_laysAll_15 rfl) ?_
  refine Sg.go (pc' := 19) (mi_gfA (t := 53) (v := 0) (r := 40) (k := 17) dX11_laysAll_16 hC_40 (by decide) rfl wF_X11_45 (by omega) rfl (hL.1 17 (by decide))) ?_
  refine Sg.go (pc' := 20) (mi_iload_n dX11_laysAll_19 rfl) ?_
  refine Sg.callV (pc' := 23) (μ' := m_X11_lays_r53) (args := [(42, 0), (55, 0), (0, v1)]) (mi_invV (n := 2) (r := 40) dX11_laysAll_20 hC_40 (by omega) rfl rfl wN_X11_lays rfl ⟨by decide, by decide⟩ wL_X11_429 wI_X11_lays wS_X11_lays wB_X11 wC_X11_lays) (fun v hv => C_X11_lays_r53 hL v1 D2 (hb1) v hv) (Nat.le_of_ble_eq_true rfl) rfl rfl (fun D3 => ?_)
  refine Sg.go (pc' := 24) (mi_aload_n dX11_laysAll_23 rfl) ?_
  refine Sg.go (pc' := 25) (mi_aload_n dX11_laysAll_24 rfl) ?_
  refine Sg.go (pc' := 28) (mi_gfA (t := 64) (v := 0) (r := 40) (k := 23) dX11_laysAll_25 hC_40 (by decide) rfl wF_X11_66 (by omega) rfl (hL.1 23 (by decide))) ?_
  refine Sg.go (pc' := 29) (mi_iload_n dX11_laysAll_28 rfl) ?_
  refine Sg.callV (pc' := 32) (μ' := m_X11_lays_r64) (args := [(42, 0), (66, 0), (0, v1)]) (mi_invV (n := 2) (r := 40) dX11_laysAll_29 hC_40 (by omega) rfl rfl wN_X11_lays rfl ⟨by decide, by decide⟩ wL_X11_429 wI_X11_lays wS_X11_lays wB_X11 wC_X11_lays) (fun v hv => C_X11_lays_r64 hL v1 D3 (hb1) v hv) (Nat.le_of_ble_eq_true rfl) rfl rfl (fun D4 => ?_)
  refine Sg.go (pc' := 33) (mi_aload_n dX11_laysAll_32 rfl) ?_
  refine Sg.go (pc' := 34) (mi_aload_n dX11_laysAll_33 rfl) ?_
  refine Sg.go (pc' := 37) (mi_gfA (t := 65) (v := 0) (r := 40) (k := 24) dX11_laysAll_34 hC_40 (by decide) rfl wF_X11_69 (by omega) rfl (hL.1 24 (by decide))) ?_
  refine Sg.go (pc' := 38) (mi_iload_n dX11_laysAll_37 rfl) ?_
  refine Sg.callV (pc' := 41) (μ' := m_X11_lays_r65) (args := [(42, 0), (67, 0), (0, v1)]) (mi_invV (n := 2) (r := 40) dX11_laysAll_38 hC_40 (by omega) rfl rfl wN_X11_lays rfl ⟨by decide, by decide⟩ wL_X11_429 wI_X11_lays wS_X11_lays wB_X11 wC_X11_lays) (fun v hv => C_X11_lays_r65 hL v1 D4 (hb1) v hv) (Nat.le_of_ble_eq_true rfl) rfl rfl (fun D5 => ?_)
  refine Sg.go (pc' := 42) (mi_iconst (z := 0) dX11_laysAll_41 rfl) ?_
  refine Sg.go (pc' := 43) (mi_istore_n (ls1 := [(42, 0), (0, v1), (0, 0), mi_un]) dX11_laysAll_42 (by decide) rfl) ?_
  exact S_X11_laysAll_43 hL mi_fuel v1 0 D5 hb1
theorem C_X11_laysAll {Z : MiZ} (hL : ML Z) (a1 : Int) (D : MiD) (h0 : (a1 = 0 ∨ a1 = 1)) (b : MiD) (hb : B_X11_laysAll a1 D = some b) : MC m_X11_laysAll [(42, 0), (0, a1)] (D, Z) ((mi_LV Z) b) := MC.ofSg (L := (mi_LV Z)) (μ := m_X11_laysAll) (args := [(42, 0), (0, a1)]) (M := (D, Z)) rfl wP_X11 (Nat.le_of_ble_eq_true rfl) (show Sg m_X11_laysAll 0 [(42, 0), (0, a1), mi_un, mi_un] [] (D, Z) (mi_LV Z) (B_X11_laysAll a1 D) from S_X11_laysAll hL a1 D h0) hb
abbrev m_X11_lifts : MiI := (yX11_lifts, cX11_lifts, 4, (some .int), 2, none)
def B_X11_lifts (v1 : Int) (v2 : Int) (D : MiD) : Option (Int × MiD) := mi_let (B_X11_rowOf v1 v2) fun x1 => mi_bi (B_X11_isGone D x1) fun y2 => if y2 = 0 then (mi_bi (B_X11_copiesRow x1 v1 D) fun D4 => mi_bi (B_X11_empties x1 12 0 D4) fun D5 => some (0, D5)) else (some (3, D))
set_option maxRecDepth 20000 in
theorem S_X11_lifts {Z : MiZ} (hL : ML Z) (v1 v2 : Int) (D : MiD) : Sg m_X11_lifts 0 [(42, 0), (0, v1), (0, v2), mi_un] [] (D, Z) (mi_LD 0 Z) (B_X11_lifts v1 v2 D) := by
  unfold B_X11_lifts
  refine Sg.go (pc' := 1) (mi_aload_n dX11_lifts_0 rfl) ?_
  refine Sg.go (pc' := 2) (mi_iload_n dX11_lifts_1 rfl) ?_
  refine Sg.go (pc' := 3) (mi_iload_n dX11_lifts_2 rfl) ?_
  refine Sg.callP (pc' := 6) (t := 0) (v := (B_X11_rowOf v1 v2)) (μ' := m_X11_rowOf) (args := [(42, 0), (0, v1), (0, v2)]) (mi_invV (n := 2) (r := 40) dX11_lifts_3 hC_40 (by omega) rfl rfl wN_X11_rowOf rfl ⟨by decide, by decide⟩ wL_X11_345 wI_X11_rowOf wS_X11_rowOf wB_X11 wC_X11_rowOf) (C_X11_rowOf hL v1 v2 D) (Nat.le_of_ble_eq_true rfl) rfl rfl ?_
  refine Sg.letI (fun x1 hx1 => ?_)
  refine Sg.go (pc' := 7) (mi_istore_n (ls1 := [(42, 0), (0, v1), (0, v2), (0, x1)]) dX11_lifts_6 (by decide) rfl) ?_
  refine Sg.go (pc' := 8) (mi_aload_n dX11_lifts_7 rfl) ?_
  refine Sg.go (pc' := 9) (mi_iload_n dX11_lifts_8 rfl) ?_
  refine Sg.callI (pc' := 12) (t := 0) (μ' := m_X11_isGone) (args := [(42, 0), (0, x1)]) (mi_invV (n := 1) (r := 40) dX11_lifts_9 hC_40 (by omega) rfl rfl wN_X11_isGone rfl ⟨by decide, by decide⟩ wL_X11_287 wI_X11_isGone wS_X11_isGone wB_X11 wC_X11_isGone) (fun v hv => C_X11_isGone hL x1 D v hv) (Nat.le_of_ble_eq_true rfl) rfl rfl (fun y2 => ?_)
  refine Sg.ite (fun h3 => ?_) (fun h3 => ?_)
  · refine Sg.go (pc' := 17) (mi_ifeq_t (tgt := 17) dX11_lifts_12 (by decide) h3) ?_
    refine Sg.go (pc' := 18) (mi_aload_n dX11_lifts_17 rfl) ?_
    refine Sg.go (pc' := 19) (mi_iload_n dX11_lifts_18 rfl) ?_
    refine Sg.go (pc' := 20) (mi_iload_n dX11_lifts_19 rfl) ?_
    refine Sg.callV (pc' := 23) (μ' := m_X11_copiesRow) (args := [(42, 0), (0, x1), (0, v1)]) (mi_invV (n := 2) (r := 40) dX11_lifts_20 hC_40 (by omega) rfl rfl wN_X11_copiesRow rfl ⟨by decide, by decide⟩ wL_X11_355 wI_X11_copiesRow wS_X11_copiesRow wB_X11 wC_X11_copiesRow) (fun v hv => C_X11_copiesRow hL x1 v1 D v hv) (Nat.le_of_ble_eq_true rfl) rfl rfl (fun D4 => ?_)
    refine Sg.go (pc' := 24) (mi_aload_n dX11_lifts_23 rfl) ?_
    refine Sg.go (pc' := 25) (mi_iload_n dX11_lifts_24 rfl) ?_
    refine Sg.go (pc' := 27) (mi_bipush (z := 12) dX11_lifts_25 rfl) ?_
    refine Sg.go (pc' := 28) (mi_iconst (z := 0) dX11_lifts_27 rfl) ?_
    refine Sg.callV (pc' := 31) (μ' := m_X11_empties) (args := [(42, 0), (0, x1), (0, 12), (0, 0)]) (mi_invV (n := 3) (r := 40) dX11_lifts_28 hC_40 (by omega) rfl rfl wN_X11_empties rfl ⟨by decide, by decide⟩ wL_X11_348 wI_X11_empties wS_X11_empties wB_X11 wC_X11_empties) (fun v hv => C_X11_empties hL x1 12 0 D4 v hv) (Nat.le_of_ble_eq_true rfl) rfl rfl (fun D5 => ?_)
    refine Sg.go (pc' := 32) (mi_iconst (z := 0) dX11_lifts_31 rfl) ?_
    exact Sg.ret (mi_ireturn dX11_lifts_32 rfl (Or.inl rfl))
  · refine Sg.go (pc' := 15) (mi_ifeq_f (tgt := 17) dX11_lifts_12 (by decide) h3) ?_
    refine Sg.go (pc' := 16) (mi_iconst (z := 3) dX11_lifts_15 rfl) ?_
    exact Sg.ret (mi_ireturn dX11_lifts_16 rfl (Or.inl rfl))
theorem C_X11_lifts {Z : MiZ} (hL : ML Z) (a1 a2 : Int) (D : MiD) (b : Int × MiD) (hb : B_X11_lifts a1 a2 D = some b) : MC m_X11_lifts [(42, 0), (0, a1), (0, a2)] (D, Z) ((mi_LD 0 Z) b) := MC.ofSg (L := (mi_LD 0 Z)) (μ := m_X11_lifts) (args := [(42, 0), (0, a1), (0, a2)]) (M := (D, Z)) rfl wP_X11 (Nat.le_of_ble_eq_true rfl) (show Sg m_X11_lifts 0 [(42, 0), (0, a1), (0, a2), mi_un] [] (D, Z) (mi_LD 0 Z) (B_X11_lifts a1 a2 D) from S_X11_lifts hL a1 a2 D) hb
abbrev m_X11_makes : MiI := (yX11_makes, cX11_makes, 3, (some .int), 2, none)
def B_X11_makes (v1 : Int) (D : MiD) : Option (Int × MiD) := if 0 ≤ (D 46 v1 2) ∧ (D 46 v1 2) < 61 then (if (D 52 0 (D 46 v1 2)) ≠ 12 then (mi_let (B_X11_rowOf (D 46 v1 2) (D 46 v1 3)) fun x3 => if (D 46 v1 0) ≠ 15 then (if 0 ≤ x3 ∧ x3 < 61 then (if (D 52 0 x3) ≠ 12 then (some (0, D)) else (mi_bi (B_X11_empties x3 (D 46 v1 1) (D 46 v1 4) D) fun D7 => some (0, D7))) else none) else (if 0 ≤ x3 ∧ x3 < 61 then (if (D 52 0 x3) ≠ 12 then (mi_bi (B_X11_empties x3 12 0 D) fun D10 => some (0, D10)) else (some (3, D))) else none)) else (some (3, D))) else none
set_option maxRecDepth 20000 in
theorem S_X11_makes {Z : MiZ} (hL : ML Z) (v1 : Int) (D : MiD) : (0 ≤ v1 ∧ v1 < 2664) → Sg m_X11_makes 0 [(42, 0), (48, v1), mi_un] [] (D, Z) (mi_LD 0 Z) (B_X11_makes v1 D) := by
  intro hb1
  unfold B_X11_makes
  refine Sg.go (pc' := 1) (mi_aload_n dX11_makes_0 rfl) ?_
  refine Sg.go (pc' := 4) (mi_gfA (t := 52) (v := 0) (r := 40) (k := 16) dX11_makes_1 hC_40 (by decide) rfl wF_X11_42 (by omega) rfl (hL.1 16 (by decide))) ?_
  refine Sg.go (pc' := 5) (mi_aload_n dX11_makes_4 rfl) ?_
  refine Sg.go (pc' := 6) (mi_iconst (z := 2) dX11_makes_5 rfl) ?_
  refine Sg.go (pc' := 7) (mi_iald (n := 6) dX11_makes_6 rfl rfl (by omega) (by decide)) ?_
  refine Sg.ck (fun hk1 => ?_)
  refine Sg.go (pc' := 8) (mi_iald (n := 61) dX11_makes_7 rfl rfl (by omega) hk1) ?_
  refine Sg.go (pc' := 10) (mi_bipush (z := 12) dX11_makes_8 rfl) ?_
  refine Sg.ite (fun h2 => ?_) (fun h2 => ?_)
  · refine Sg.go (pc' := 15) (mi_icmpne_t (tgt := 15) dX11_makes_10 (by decide) h2) ?_
    refine Sg.go (pc' := 16) (mi_aload_n dX11_makes_15 rfl) ?_
    refine Sg.go (pc' := 17) (mi_aload_n dX11_makes_16 rfl) ?_
    refine Sg.go (pc' := 18) (mi_iconst (z := 2) dX11_makes_17 rfl) ?_
    refine Sg.go (pc' := 19) (mi_iald (n := 6) dX11_makes_18 rfl rfl (by omega) (by decide)) ?_
    refine Sg.go (pc' := 20) (mi_aload_n dX11_makes_19 rfl) ?_
    refine Sg.go (pc' := 21) (mi_iconst (z := 3) dX11_makes_20 rfl) ?_
    refine Sg.go (pc' := 22) (mi_iald (n := 6) dX11_makes_21 rfl rfl (by omega) (by decide)) ?_
    refine Sg.callP (pc' := 25) (t := 0) (v := (B_X11_rowOf (D 46 v1 2) (D 46 v1 3))) (μ' := m_X11_rowOf) (args := [(42, 0), (0, (D 46 v1 2)), (0, (D 46 v1 3))]) (mi_invV (n := 2) (r := 40) dX11_makes_22 hC_40 (by omega) rfl rfl wN_X11_rowOf rfl ⟨by decide, by decide⟩ wL_X11_345 wI_X11_rowOf wS_X11_rowOf wB_X11 wC_X11_rowOf) (C_X11_rowOf hL (D 46 v1 2) (D 46 v1 3) D) (Nat.le_of_ble_eq_true rfl) rfl rfl ?_
    refine Sg.letI (fun x3 hx3 => ?_)
    refine Sg.go (pc' := 26) (mi_istore_n (ls1 := [(42, 0), (48, v1), (0, x3)]) dX11_makes_25 (by decide) rfl) ?_
    refine Sg.go (pc' := 27) (mi_aload_n dX11_makes_26 rfl) ?_
    refine Sg.go (pc' := 28) (mi_iconst (z := 0) dX11_makes_27 rfl) ?_
    refine Sg.go (pc' := 29) (mi_iald (n := 6) dX11_makes_28 rfl rfl (by omega) (by decide)) ?_
    refine Sg.go (pc' := 31) (mi_bipush (z := 15) dX11_makes_29 rfl) ?_
    refine Sg.ite (fun h4 => ?_) (fun h4 => ?_)
    · refine Sg.go (pc' := 57) (mi_icmpne_t (tgt := 57) dX11_makes_31 (by decide) h4) ?_
      refine Sg.go (pc' := 58) (mi_aload_n dX11_makes_57 rfl) ?_
      refine Sg.go (pc' := 61) (mi_gfA (t := 52) (v := 0) (r := 40) (k := 16) dX11_makes_58 hC_40 (by decide) rfl wF_X11_42 (by omega) rfl (hL.1 16 (by decide))) ?_
      refine Sg.go (pc' := 62) (mi_iload_n dX11_makes_61 rfl) ?_
      refine Sg.ck (fun hk5 => ?_)
      refine Sg.go (pc' := 63) (mi_iald (n := 61) dX11_makes_62 rfl rfl (by omega) hk5) ?_
      refine Sg.go (pc' := 65) (mi_bipush (z := 12) dX11_makes_63 rfl) ?_
      refine Sg.ite (fun h6 => ?_) (fun h6 => ?_)
      · refine Sg.go (pc' := 79) (mi_icmpne_t (tgt := 79) dX11_makes_65 (by decide) h6) ?_
        refine Sg.go (pc' := 80) (mi_iconst (z := 0) dX11_makes_79 rfl) ?_
        exact Sg.ret (mi_ireturn dX11_makes_80 rfl (Or.inl rfl))
      · refine Sg.go (pc' := 68) (mi_icmpne_f (tgt := 79) dX11_makes_65 (by decide) h6) ?_
        refine Sg.go (pc' := 69) (mi_aload_n dX11_makes_68 rfl) ?_
        refine Sg.go (pc' := 70) (mi_iload_n dX11_makes_69 rfl) ?_
        refine Sg.go (pc' := 71) (mi_aload_n dX11_makes_70 rfl) ?_
        refine Sg.go (pc' := 72) (mi_iconst (z := 1) dX11_makes_71 rfl) ?_
        refine Sg.go (pc' := 73) (mi_iald (n := 6) dX11_makes_72 rfl rfl (by omega) (by decide)) ?_
        refine Sg.go (pc' := 74) (mi_aload_n dX11_makes_73 rfl) ?_
        refine Sg.go (pc' := 75) (mi_iconst (z := 4) dX11_makes_74 rfl) ?_
        refine Sg.go (pc' := 76) (mi_iald (n := 6) dX11_makes_75 rfl rfl (by omega) (by decide)) ?_
        refine Sg.callV (pc' := 79) (μ' := m_X11_empties) (args := [(42, 0), (0, x3), (0, (D 46 v1 1)), (0, (D 46 v1 4))]) (mi_invV (n := 3) (r := 40) dX11_makes_76 hC_40 (by omega) rfl rfl wN_X11_empties rfl ⟨by decide, by decide⟩ wL_X11_348 wI_X11_empties wS_X11_empties wB_X11 wC_X11_empties) (fun v hv => C_X11_empties hL x3 (D 46 v1 1) (D 46 v1 4) D v hv) (Nat.le_of_ble_eq_true rfl) rfl rfl (fun D7 => ?_)
        refine Sg.go (pc' := 80) (mi_iconst (z := 0) dX11_makes_79 rfl) ?_
        exact Sg.ret (mi_ireturn dX11_makes_80 rfl (Or.inl rfl))
    · refine Sg.go (pc' := 34) (mi_icmpne_f (tgt := 57) dX11_makes_31 (by decide) h4) ?_
      refine Sg.go (pc' := 35) (mi_aload_n dX11_makes_34 rfl) ?_
      refine Sg.go (pc' := 38) (mi_gfA (t := 52) (v := 0) (r := 40) (k := 16) dX11_makes_35 hC_40 (by decide) rfl wF_X11_42 (by omega) rfl (hL.1 16 (by decide))) ?_
      refine Sg.go (pc' := 39) (mi_iload_n dX11_makes_38 rfl) ?_
      refine Sg.ck (fun hk8 => ?_)
      refine Sg.go (pc' := 40) (mi_iald (n := 61) dX11_makes_39 rfl rfl (by omega) hk8) ?_
      refine Sg.go (pc' := 42) (mi_bipush (z := 12) dX11_makes_40 rfl) ?_
      refine Sg.ite (fun h9 => ?_) (fun h9 => ?_)
      · refine Sg.go (pc' := 47) (mi_icmpne_t (tgt := 47) dX11_makes_42 (by decide) h9) ?_
        refine Sg.go (pc' := 48) (mi_aload_n dX11_makes_47 rfl) ?_
        refine Sg.go (pc' := 49) (mi_iload_n dX11_makes_48 rfl) ?_
        refine Sg.go (pc' := 51) (mi_bipush (z := 12) dX11_makes_49 rfl) ?_
        refine Sg.go (pc' := 52) (mi_iconst (z := 0) dX11_makes_51 rfl) ?_
        refine Sg.callV (pc' := 55) (μ' := m_X11_empties) (args := [(42, 0), (0, x3), (0, 12), (0, 0)]) (mi_invV (n := 3) (r := 40) dX11_makes_52 hC_40 (by omega) rfl rfl wN_X11_empties rfl ⟨by decide, by decide⟩ wL_X11_348 wI_X11_empties wS_X11_empties wB_X11 wC_X11_empties) (fun v hv => C_X11_empties hL x3 12 0 D v hv) (Nat.le_of_ble_eq_true rfl) rfl rfl (fun D10 => ?_)
        refine Sg.go (pc' := 56) (mi_iconst (z := 0) dX11_makes_55 rfl) ?_
        exact Sg.ret (mi_ireturn dX11_makes_56 rfl (Or.inl rfl))
      · refine Sg.go (pc' := 45) (mi_icmpne_f (tgt := 47) dX11_makes_42 (by decide) h9) ?_
        refine Sg.go (pc' := 46) (mi_iconst (z := 3) dX11_makes_45 rfl) ?_
        exact Sg.ret (mi_ireturn dX11_makes_46 rfl (Or.inl rfl))
  · refine Sg.go (pc' := 13) (mi_icmpne_f (tgt := 15) dX11_makes_10 (by decide) h2) ?_
    refine Sg.go (pc' := 14) (mi_iconst (z := 3) dX11_makes_13 rfl) ?_
    exact Sg.ret (mi_ireturn dX11_makes_14 rfl (Or.inl rfl))
theorem C_X11_makes {Z : MiZ} (hL : ML Z) (a1 : Int) (D : MiD) (h0 : (0 ≤ a1 ∧ a1 < 2664)) (b : Int × MiD) (hb : B_X11_makes a1 D = some b) : MC m_X11_makes [(42, 0), (48, a1)] (D, Z) ((mi_LD 0 Z) b) := MC.ofSg (L := (mi_LD 0 Z)) (μ := m_X11_makes) (args := [(42, 0), (48, a1)]) (M := (D, Z)) rfl wP_X11 (Nat.le_of_ble_eq_true rfl) (show Sg m_X11_makes 0 [(42, 0), (48, a1), mi_un] [] (D, Z) (mi_LD 0 Z) (B_X11_makes a1 D) from S_X11_makes hL a1 D h0) hb
abbrev m_X11_skipWord : MiI := (yX11_skipWord, cX11_skipWord, 1, none, 2, none)
def B_X11_skipWord_0 : Nat → MiD → Option (MiD)
  | 0, _ => none
  | f + 1, D => mi_bi (B_X11_byteAt D (D 40 0 4)) fun y1 => if (B_X11_isSmall y1) = 0 then (some D) else (mi_let (mi_st D 40 0 4 (mi_w ((D 40 0 4) + 1))) fun D3 => B_X11_skipWord_0 f D3)
set_option maxRecDepth 20000 in
theorem S_X11_skipWord_0 {Z : MiZ} (hL : ML Z) : ∀ (f : Nat) (D : MiD), Sg m_X11_skipWord 0 [(42, 0)] [] (D, Z) (mi_LV Z) (B_X11_skipWord_0 f D) := by
  intro f
  induction f with
  | zero => intros; exact Sg.nope
  | succ f K0 =>
    intro D
    show Sg m_X11_skipWord 0 [(42, 0)] [] (D, Z) (mi_LV Z) (mi_bi (B_X11_byteAt D (D 40 0 4)) fun y1 => if (B_X11_isSmall y1) = 0 then (some D) else (mi_let (mi_st D 40 0 4 (mi_w ((D 40 0 4) + 1))) fun D3 => B_X11_skipWord_0 f D3))
    refine Sg.go (pc' := 1) (mi_aload_n dX11_skipWord_0 rfl) ?_
    refine Sg.go (pc' := 2) (mi_aload_n dX11_skipWord_1 rfl) ?_
    refine Sg.go (pc' := 5) (mi_gfI (r := 40) (k := 4) dX11_skipWord_2 hC_40 (by decide) rfl wF_X11_87 (by omega) rfl) ?_
    refine Sg.callI (pc' := 8) (t := 0) (μ' := m_X11_byteAt) (args := [(42, 0), (0, (D 40 0 4))]) (mi_invV (n := 1) (r := 40) dX11_skipWord_5 hC_40 (by omega) rfl rfl wN_X11_byteAt rfl ⟨by decide, by decide⟩ wL_X11_90 wI_X11_byteAt wS_X11_byteAt wB_X11 wC_X11_byteAt) (fun v hv => C_X11_byteAt hL (D 40 0 4) D v hv) (Nat.le_of_ble_eq_true rfl) rfl rfl (fun y1 => ?_)
    refine Sg.callP (pc' := 11) (t := 0) (v := (B_X11_isSmall y1)) (μ' := m_X11_isSmall) (args := [(0, y1)]) (mi_invS (n := 1) dX11_skipWord_8 rfl wN_X11_isSmall rfl ⟨by decide, by decide⟩ wL_X11_125 wT_X11_isSmall wB_X11 wC_X11_isSmall) (C_X11_isSmall hL y1 D) (Nat.le_of_ble_eq_true rfl) rfl rfl ?_
    refine Sg.ite (fun h2 => ?_) (fun h2 => ?_)
    · refine Sg.go (pc' := 27) (mi_ifeq_t (tgt := 27) dX11_skipWord_11 (by decide) h2) ?_
      exact Sg.ret (mi_return dX11_skipWord_27 rfl (0, 0))
    · refine Sg.go (pc' := 14) (mi_ifeq_f (tgt := 27) dX11_skipWord_11 (by decide) h2) ?_
      refine Sg.go (pc' := 15) (mi_aload_n dX11_skipWord_14 rfl) ?_
      refine Sg.go (pc' := 16) (mi_dup dX11_skipWord_15 (show (42 : Nat) ≠ 1 by decide)) ?_
      refine Sg.go (pc' := 19) (mi_gfI (r := 40) (k := 4) dX11_skipWord_16 hC_40 (by decide) rfl wF_X11_87 (by omega) rfl) ?_
      refine Sg.go (pc' := 20) (mi_iconst (z := 1) dX11_skipWord_19 rfl) ?_
      refine Sg.go (pc' := 21) (mi_iadd dX11_skipWord_20) ?_
      refine Sg.goM (pc' := 24) (mi_pfD (r := 40) (k := 4) (t := 0) dX11_skipWord_21 hC_40 (by decide) rfl rfl wF_X11_87 (by omega) rfl (by decide) (Or.inl ⟨rfl, rfl⟩)) ?_
      refine Sg.letD (fun D3 hD3 => ?_)
      refine Sg.go (pc' := 0) (mi_goto (tgt := 0) dX11_skipWord_24 (by decide)) ?_
      exact K0 D3
theorem C_X11_skipWord {Z : MiZ} (hL : ML Z) (D : MiD) (b : MiD) (hb : B_X11_skipWord_0 mi_fuel D = some b) : MC m_X11_skipWord [(42, 0)] (D, Z) ((mi_LV Z) b) := MC.ofSg (L := (mi_LV Z)) (μ := m_X11_skipWord) (args := [(42, 0)]) (M := (D, Z)) rfl wP_X11 (Nat.le_of_ble_eq_true rfl) (show Sg m_X11_skipWord 0 [(42, 0)] [] (D, Z) (mi_LV Z) (B_X11_skipWord_0 mi_fuel D) from S_X11_skipWord_0 hL mi_fuel D) hb
abbrev m_X11_status : MiI := (yX11_status, cX11_status, 2, (some .int), 2, none)
def B_X11_status (v1 : Int) (D : MiD) : Option (Int × MiD) := mi_let (mi_st D 40 0 0 0) fun D1 => if (B_X11_in v1 0 2) = 0 then (some ((-1), D1)) else (if 0 ≤ v1 ∧ v1 < 3 then (some ((D1 41 0 v1), D1)) else none)
set_option maxRecDepth 20000 in
theorem S_X11_status {Z : MiZ} (hL : ML Z) (v1 : Int) (D : MiD) : Sg m_X11_status 0 [(42, 0), (0, v1)] [] (D, Z) (mi_LD 0 Z) (B_X11_status v1 D) := by
  unfold B_X11_status
  refine Sg.go (pc' := 1) (mi_aload_n dX11_status_0 rfl) ?_
  refine Sg.go (pc' := 2) (mi_iconst (z := 0) dX11_status_1 rfl) ?_
  refine Sg.goM (pc' := 5) (mi_pfD (r := 40) (k := 0) (t := 0) dX11_status_2 hC_40 (by decide) rfl rfl wF_X11_78 (by omega) rfl (by decide) (Or.inl ⟨rfl, rfl⟩)) ?_
  refine Sg.letD (fun D1 hD1 => ?_)
  refine Sg.go (pc' := 6) (mi_iload_n dX11_status_5 rfl) ?_
  refine Sg.go (pc' := 7) (mi_iconst (z := 0) dX11_status_6 rfl) ?_
  refine Sg.go (pc' := 8) (mi_iconst (z := 2) dX11_status_7 rfl) ?_
  refine Sg.callP (pc' := 11) (t := 0) (v := (B_X11_in v1 0 2)) (μ' := m_X11_in) (args := [(0, v1), (0, 0), (0, 2)]) (mi_invS (n := 3) dX11_status_8 rfl wN_X11_in rfl ⟨by decide, by decide⟩ wL_X11_121 wT_X11_in wB_X11 wC_X11_in) (C_X11_in hL v1 0 2 D1) (Nat.le_of_ble_eq_true rfl) rfl rfl ?_
  refine Sg.ite (fun h2 => ?_) (fun h2 => ?_)
  · refine Sg.go (pc' := 23) (mi_ifeq_t (tgt := 23) dX11_status_11 (by decide) h2) ?_
    refine Sg.go (pc' := 24) (mi_iconst (z := (-1)) dX11_status_23 rfl) ?_
    exact Sg.ret (mi_ireturn dX11_status_24 rfl (Or.inl rfl))
  · refine Sg.go (pc' := 14) (mi_ifeq_f (tgt := 23) dX11_status_11 (by decide) h2) ?_
    refine Sg.go (pc' := 15) (mi_aload_n dX11_status_14 rfl) ?_
    refine Sg.go (pc' := 18) (mi_gfA (t := 41) (v := 0) (r := 40) (k := 1) dX11_status_15 hC_40 (by decide) rfl wF_X11_7 (by omega) rfl (hL.1 1 (by decide))) ?_
    refine Sg.go (pc' := 19) (mi_iload_n dX11_status_18 rfl) ?_
    refine Sg.ck (fun hk3 => ?_)
    refine Sg.go (pc' := 20) (mi_iald (n := 3) dX11_status_19 rfl rfl (by omega) hk3) ?_
    refine Sg.go (pc' := 24) (mi_goto (tgt := 24) dX11_status_20 (by decide)) ?_
    exact Sg.ret (mi_ireturn dX11_status_24 rfl (Or.inl rfl))
theorem C_X11_status {Z : MiZ} (hL : ML Z) (a1 : Int) (D : MiD) (b : Int × MiD) (hb : B_X11_status a1 D = some b) : MC m_X11_status [(42, 0), (0, a1)] (D, Z) ((mi_LD 0 Z) b) := MC.ofSg (L := (mi_LD 0 Z)) (μ := m_X11_status) (args := [(42, 0), (0, a1)]) (M := (D, Z)) rfl wP_X11 (Nat.le_of_ble_eq_true rfl) (show Sg m_X11_status 0 [(42, 0), (0, a1)] [] (D, Z) (mi_LD 0 Z) (B_X11_status a1 D) from S_X11_status hL a1 D) hb
abbrev m_X11_stuckAt : MiI := (yX11_stuckAt, cX11_stuckAt, 5, (some .int), 2, none)
def B_X11_stuckAt_9 (D : MiD) : Nat → Int → Int → Int → Option (Int)
  | 0, _, _, _ => none
  | f + 1, v1, v2, v3 => if 0 ≤ v1 ∧ v1 < 7 then (if (D 59 v1 0) ≤ v3 then (some (-1)) else (if 0 ≤ v1 ∧ v1 < 6 then (if 0 ≤ (mi_w ((mi_w ((D 59 v1 0) - 1)) - v3)) ∧ (mi_w ((mi_w ((D 59 v1 0) - 1)) - v3)) < 10 then (if (D 63 (10 * v1 + (mi_w ((mi_w ((D 59 v1 0) - 1)) - v3))) 3) = 1 then (some v3) else (if 0 ≤ v2 ∧ v2 < 9 then (if (B_X11_isBit (D 47 0 v2) (D 63 (10 * v1 + (mi_w ((mi_w ((D 59 v1 0) - 1)) - v3))) 0)) = 0 then (B_X11_stuckAt_9 D f v1 v2 (mi_w (v3 + 1))) else (some v3)) else none)) else none) else none)) else none
set_option maxRecDepth 20000 in
theorem S_X11_stuckAt_9 {D : MiD} {Z : MiZ} (hL : ML Z) : ∀ (f : Nat) (v1 v2 v3 : Int), Sg m_X11_stuckAt 9 [(42, 0), (0, v1), (0, v2), (0, v3), mi_un] [] (D, Z) (mi_LI 0 (D, Z)) (B_X11_stuckAt_9 D f v1 v2 v3) := by
  intro f
  induction f with
  | zero => intros; exact Sg.nope
  | succ f K9 =>
    intro v1 v2 v3
    show Sg m_X11_stuckAt 9 [(42, 0), (0, v1), (0, v2), (0, v3), mi_un] [] (D, Z) (mi_LI 0 (D, Z)) (if 0 ≤ v1 ∧ v1 < 7 then (if (D 59 v1 0) ≤ v3 then (some (-1)) else (if 0 ≤ v1 ∧ v1 < 6 then (if 0 ≤ (mi_w ((mi_w ((D 59 v1 0) - 1)) - v3)) ∧ (mi_w ((mi_w ((D 59 v1 0) - 1)) - v3)) < 10 then (if (D 63 (10 * v1 + (mi_w ((mi_w ((D 59 v1 0) - 1)) - v3))) 3) = 1 then (some v3) else (if 0 ≤ v2 ∧ v2 < 9 then (if (B_X11_isBit (D 47 0 v2) (D 63 (10 * v1 + (mi_w ((mi_w ((D 59 v1 0) - 1)) - v3))) 0)) = 0 then (B_X11_stuckAt_9 D f v1 v2 (mi_w (v3 + 1))) else (some v3)) else none)) else none) else none)) else none)
    refine Sg.go (pc' := 10) (mi_iload_n dX11_stuckAt_9 rfl) ?_
    refine Sg.go (pc' := 11) (mi_aload_n dX11_stuckAt_10 rfl) ?_
    refine Sg.go (pc' := 14) (mi_gfA (t := 58) (v := 0) (r := 40) (k := 20) dX11_stuckAt_11 hC_40 (by decide) rfl wF_X11_56 (by omega) rfl (hL.1 20 (by decide))) ?_
    refine Sg.go (pc' := 15) (mi_iload_n dX11_stuckAt_14 rfl) ?_
    refine Sg.ck (fun hk1 => ?_)
    refine Sg.go (pc' := 16) (mi_aald (n := 7) (t := 59) (v := v1) dX11_stuckAt_15 rfl hA_58 rfl (by omega) hk1 rfl (hL.2.2.2.2.2.2.1 _ hk1.1 hk1.2)) ?_
    refine Sg.go (pc' := 17) (mi_iconst (z := 0) dX11_stuckAt_16 rfl) ?_
    refine Sg.go (pc' := 18) (mi_iald (n := 7) dX11_stuckAt_17 rfl rfl (by omega) (by decide)) ?_
    refine Sg.ite (fun h2 => ?_) (fun h2 => ?_)
    · refine Sg.go (pc' := 74) (mi_icmpge_t (tgt := 74) dX11_stuckAt_18 (by decide) h2) ?_
      refine Sg.go (pc' := 75) (mi_iconst (z := (-1)) dX11_stuckAt_74 rfl) ?_
      exact Sg.ret (mi_ireturn dX11_stuckAt_75 rfl (Or.inl rfl))
    · refine Sg.go (pc' := 21) (mi_icmpge_f (tgt := 74) dX11_stuckAt_18 (by decide) h2) ?_
      refine Sg.go (pc' := 22) (mi_aload_n dX11_stuckAt_21 rfl) ?_
      refine Sg.go (pc' := 25) (mi_gfA (t := 61) (v := 0) (r := 40) (k := 22) dX11_stuckAt_22 hC_40 (by decide) rfl wF_X11_63 (by omega) rfl (hL.1 22 (by decide))) ?_
      refine Sg.go (pc' := 26) (mi_iload_n dX11_stuckAt_25 rfl) ?_
      refine Sg.ck (fun hk3 => ?_)
      refine Sg.go (pc' := 27) (mi_aald (n := 6) (t := 62) (v := v1) dX11_stuckAt_26 rfl hA_61 rfl (by omega) hk3 rfl (hL.2.2.2.2.2.2.2.1 _ hk3.1 hk3.2)) ?_
      refine Sg.go (pc' := 28) (mi_aload_n dX11_stuckAt_27 rfl) ?_
      refine Sg.go (pc' := 31) (mi_gfA (t := 58) (v := 0) (r := 40) (k := 20) dX11_stuckAt_28 hC_40 (by decide) rfl wF_X11_56 (by omega) rfl (hL.1 20 (by decide))) ?_
      refine Sg.go (pc' := 32) (mi_iload_n dX11_stuckAt_31 rfl) ?_
      refine Sg.go (pc' := 33) (mi_aald (n := 7) (t := 59) (v := v1) dX11_stuckAt_32 rfl hA_58 rfl (by omega) hk1 rfl (hL.2.2.2.2.2.2.1 _ hk1.1 hk1.2)) ?_
      refine Sg.go (pc' := 34) (mi_iconst (z := 0) dX11_stuckAt_33 rfl) ?_
      refine Sg.go (pc' := 35) (mi_iald (n := 7) dX11_stuckAt_34 rfl rfl (by omega) (by decide)) ?_
      refine Sg.go (pc' := 36) (mi_iconst (z := 1) dX11_stuckAt_35 rfl) ?_
      refine Sg.go (pc' := 37) (mi_isub dX11_stuckAt_36) ?_
      refine Sg.go (pc' := 38) (mi_iload_n dX11_stuckAt_37 rfl) ?_
      refine Sg.go (pc' := 39) (mi_isub dX11_stuckAt_38) ?_
      refine Sg.ck (fun hk4 => ?_)
      refine Sg.go (pc' := 40) (mi_aald (n := 10) (t := 63) (v := (10 * v1 + (mi_w ((mi_w ((D 59 v1 0) - 1)) - v3)))) dX11_stuckAt_39 rfl hA_62 rfl (by omega) hk4 rfl (hL.2.2.2.2.2.2.2.2 _ _ (by omega) (by omega) hk4.1 hk4.2)) ?_
      refine Sg.go (pc' := 42) (mi_astore (ls1 := [(42, 0), (0, v1), (0, v2), (0, v3), (65, (10 * v1 + (mi_w ((mi_w ((D 59 v1 0) - 1)) - v3))))]) dX11_stuckAt_40 (by decide) rfl) ?_
      refine Sg.go (pc' := 44) (mi_aload dX11_stuckAt_42 rfl) ?_
      refine Sg.go (pc' := 45) (mi_iconst (z := 3) dX11_stuckAt_44 rfl) ?_
      refine Sg.go (pc' := 46) (mi_iald (n := 4) dX11_stuckAt_45 rfl rfl (by omega) (by decide)) ?_
      refine Sg.go (pc' := 47) (mi_iconst (z := 1) dX11_stuckAt_46 rfl) ?_
      refine Sg.ite (fun h5 => ?_) (fun h5 => ?_)
      · refine Sg.go (pc' := 66) (mi_icmpeq_t (tgt := 66) dX11_stuckAt_47 (by decide) h5) ?_
        refine Sg.go (pc' := 67) (mi_iload_n dX11_stuckAt_66 rfl) ?_
        exact Sg.ret (mi_ireturn dX11_stuckAt_67 rfl (Or.inl rfl))
      · refine Sg.go (pc' := 50) (mi_icmpeq_f (tgt := 66) dX11_stuckAt_47 (by decide) h5) ?_
        refine Sg.go (pc' := 51) (mi_aload_n dX11_stuckAt_50 rfl) ?_
        refine Sg.go (pc' := 54) (mi_gfA (t := 47) (v := 0) (r := 40) (k := 12) dX11_stuckAt_51 hC_40 (by decide) rfl wF_X11_28 (by omega) rfl (hL.1 12 (by decide))) ?_
        refine Sg.go (pc' := 55) (mi_iload_n dX11_stuckAt_54 rfl) ?_
        refine Sg.ck (fun hk6 => ?_)
        refine Sg.go (pc' := 56) (mi_iald (n := 9) dX11_stuckAt_55 rfl rfl (by omega) hk6) ?_
        refine Sg.go (pc' := 58) (mi_aload dX11_stuckAt_56 rfl) ?_
        refine Sg.go (pc' := 59) (mi_iconst (z := 0) dX11_stuckAt_58 rfl) ?_
        refine Sg.go (pc' := 60) (mi_iald (n := 4) dX11_stuckAt_59 rfl rfl (by omega) (by decide)) ?_
        refine Sg.callP (pc' := 63) (t := 0) (v := (B_X11_isBit (D 47 0 v2) (D 63 (10 * v1 + (mi_w ((mi_w ((D 59 v1 0) - 1)) - v3))) 0))) (μ' := m_X11_isBit) (args := [(0, (D 47 0 v2)), (0, (D 63 (10 * v1 + (mi_w ((mi_w ((D 59 v1 0) - 1)) - v3))) 0))]) (mi_invS (n := 2) dX11_stuckAt_60 rfl wN_X11_isBit rfl ⟨by decide, by decide⟩ wL_X11_248 wT_X11_isBit wB_X11 wC_X11_isBit) (C_X11_isBit hL (D 47 0 v2) (D 63 (10 * v1 + (mi_w ((mi_w ((D 59 v1 0) - 1)) - v3))) 0) D) (Nat.le_of_ble_eq_true rfl) rfl rfl ?_
        refine Sg.ite (fun h7 => ?_) (fun h7 => ?_)
        · refine Sg.go (pc' := 68) (mi_ifeq_t (tgt := 68) dX11_stuckAt_63 (by decide) h7) ?_
          refine Sg.go (pc' := 71) (mi_iinc (z := 1) (ls1 := [(42, 0), (0, v1), (0, v2), (0, (mi_w (v3 + 1))), (65, (10 * v1 + (mi_w ((mi_w ((D 59 v1 0) - 1)) - v3))))]) dX11_stuckAt_68 (by decide) rfl rfl rfl) ?_
          refine Sg.go (pc' := 9) (mi_goto (tgt := 9) dX11_stuckAt_71 (by decide)) ?_
          refine Sg.go (pc' := 9) (MiStep.weak (ls' := [(42, 0), (0, v1), (0, v2), (0, (mi_w (v3 + 1))), mi_un]) (mi_wk_y (mi_wk_y (mi_wk_y (mi_wk_y (mi_wk_n mi_wk_0)))))) ?_
          exact K9 v1 v2 (mi_w (v3 + 1))
        · refine Sg.go (pc' := 66) (mi_ifeq_f (tgt := 68) dX11_stuckAt_63 (by decide) h7) ?_
          refine Sg.go (pc' := 67) (mi_iload_n dX11_stuckAt_66 rfl) ?_
          exact Sg.ret (mi_ireturn dX11_stuckAt_67 rfl (Or.inl rfl))
def B_X11_stuckAt (D : MiD) (v1 : Int) : Option (Int) := B_X11_stuckAt_9 D mi_fuel v1 (D 65 0 1) 0
set_option maxRecDepth 20000 in
theorem S_X11_stuckAt {D : MiD} {Z : MiZ} (hL : ML Z) (v1 : Int) : Sg m_X11_stuckAt 0 [(42, 0), (0, v1), mi_un, mi_un, mi_un] [] (D, Z) (mi_LI 0 (D, Z)) (B_X11_stuckAt D v1) := by
  unfold B_X11_stuckAt
  refine Sg.go (pc' := 1) (mi_aload_n dX11_stuckAt_0 rfl) ?_
  refine Sg.go (pc' := 4) (mi_gfA (t := 65) (v := 0) (r := 40) (k := 24) dX11_stuckAt_1 hC_40 (by decide) rfl wF_X11_69 (by omega) rfl (hL.1 24 (by decide))) ?_
  refine Sg.go (pc' := 5) (mi_iconst (z := 1) dX11_stuckAt_4 rfl) ?_
  refine Sg.go (pc' := 6) (mi_iald (n := 8) dX11_stuckAt_5 rfl rfl (by omega) (by decide)) ?_
  refine Sg.go (pc' := 7) (mi_istore_n (ls1 := [(42, 0), (0, v1), (0, (D 65 0 1)), mi_un, mi_un]) dX11_stuckAt_6 (by decide) rfl) ?_
  refine Sg.go (pc' := 8) (mi_iconst (z := 0) dX11_stuckAt_7 rfl) ?_
  refine Sg.go (pc' := 9) (mi_istore_n (ls1 := [(42, 0), (0, v1), (0, (D 65 0 1)), (0, 0), mi_un]) dX11_stuckAt_8 (by decide) rfl) ?_
  exact S_X11_stuckAt_9 hL mi_fuel v1 (D 65 0 1) 0
theorem C_X11_stuckAt {Z : MiZ} (hL : ML Z) (a1 : Int) (D : MiD) (b : Int) (hb : B_X11_stuckAt D a1 = some b) : MC m_X11_stuckAt [(42, 0), (0, a1)] (D, Z) ((mi_LI 0 (D, Z)) b) := MC.ofSg (L := (mi_LI 0 (D, Z))) (μ := m_X11_stuckAt) (args := [(42, 0), (0, a1)]) (M := (D, Z)) rfl wP_X11 (Nat.le_of_ble_eq_true rfl) (show Sg m_X11_stuckAt 0 [(42, 0), (0, a1), mi_un, mi_un, mi_un] [] (D, Z) (mi_LI 0 (D, Z)) (B_X11_stuckAt D a1) from S_X11_stuckAt hL a1) hb
abbrev m_X11_told : MiI := (yX11_told, cX11_told, 4, (some .int), 2, none)
def B_X11_told_88 (k35 : Int → Int → Int → MiD → Option (Int × MiD)) (v1 : Int) (v3 : Int) (s0 : Int) (s1 : Int) (D : MiD) : Option (Int × MiD) := k35 v1 (mi_or s0 s1) (mi_w (v3 + 1)) D
set_option maxRecDepth 20000 in
theorem S_X11_told_88 {Z : MiZ} (hL : ML Z) {k35 : Int → Int → Int → MiD → Option (Int × MiD)} (K35 : ∀ (v1 v2 v3 : Int) (D : MiD), Sg m_X11_told 35 [(42, 0), (0, v1), (0, v2), (0, v3)] [] (D, Z) (mi_LD 0 Z) (k35 v1 v2 v3 D)) (v1 v3 s0 s1 : Int) (D : MiD) : Sg m_X11_told 88 [(42, 0), (0, v1), mi_un, (0, v3)] [(0, s1), (0, s0)] (D, Z) (mi_LD 0 Z) (B_X11_told_88 k35 v1 v3 s0 s1 D) := by
  unfold B_X11_told_88
  refine Sg.go (pc' := 89) (mi_ior dX11_told_88) ?_
  refine Sg.go (pc' := 90) (mi_istore_n (ls1 := [(42, 0), (0, v1), (0, (mi_or s0 s1)), (0, v3)]) dX11_told_89 (by decide) rfl) ?_
  refine Sg.go (pc' := 93) (mi_iinc (z := 1) (ls1 := [(42, 0), (0, v1), (0, (mi_or s0 s1)), (0, (mi_w (v3 + 1)))]) dX11_told_90 (by decide) rfl rfl rfl) ?_
  refine Sg.go (pc' := 35) (mi_goto (tgt := 35) dX11_told_93 (by decide)) ?_
  exact K35 v1 (mi_or s0 s1) (mi_w (v3 + 1)) D
def B_X11_told_81 (k35 : Int → Int → Int → MiD → Option (Int × MiD)) (v1 : Int) (v3 : Int) (s0 : Int) (D : MiD) : Option (Int × MiD) := B_X11_told_88 k35 v1 v3 s0 (mi_shl 1 v3) D
set_option maxRecDepth 20000 in
theorem S_X11_told_81 {Z : MiZ} (hL : ML Z) {k35 : Int → Int → Int → MiD → Option (Int × MiD)} (K35 : ∀ (v1 v2 v3 : Int) (D : MiD), Sg m_X11_told 35 [(42, 0), (0, v1), (0, v2), (0, v3)] [] (D, Z) (mi_LD 0 Z) (k35 v1 v2 v3 D)) (v1 v3 s0 : Int) (D : MiD) : Sg m_X11_told 81 [(42, 0), (0, v1), mi_un, (0, v3)] [(0, s0)] (D, Z) (mi_LD 0 Z) (B_X11_told_81 k35 v1 v3 s0 D) := by
  unfold B_X11_told_81
  refine Sg.go (pc' := 82) (mi_iconst (z := 1) dX11_told_81 rfl) ?_
  refine Sg.go (pc' := 83) (mi_iload_n dX11_told_82 rfl) ?_
  refine Sg.go (pc' := 84) (mi_ishl dX11_told_83) ?_
  refine Sg.go (pc' := 88) (mi_goto (tgt := 88) dX11_told_84 (by decide)) ?_
  exact S_X11_told_88 hL K35 v1 v3 s0 (mi_shl 1 v3) D
def B_X11_told_87 (k35 : Int → Int → Int → MiD → Option (Int × MiD)) (v1 : Int) (v3 : Int) (s0 : Int) (D : MiD) : Option (Int × MiD) := B_X11_told_88 k35 v1 v3 s0 0 D
set_option maxRecDepth 20000 in
theorem S_X11_told_87 {Z : MiZ} (hL : ML Z) {k35 : Int → Int → Int → MiD → Option (Int × MiD)} (K35 : ∀ (v1 v2 v3 : Int) (D : MiD), Sg m_X11_told 35 [(42, 0), (0, v1), (0, v2), (0, v3)] [] (D, Z) (mi_LD 0 Z) (k35 v1 v2 v3 D)) (v1 v3 s0 : Int) (D : MiD) : Sg m_X11_told 87 [(42, 0), (0, v1), mi_un, (0, v3)] [(0, s0)] (D, Z) (mi_LD 0 Z) (B_X11_told_87 k35 v1 v3 s0 D) := by
  unfold B_X11_told_87
  refine Sg.go (pc' := 88) (mi_iconst (z := 0) dX11_told_87 rfl) ?_
  exact S_X11_told_88 hL K35 v1 v3 s0 0 D
def B_X11_told_242 (v1 : Int) (D : MiD) : Option (Int × MiD) := if 0 ≤ (mi_w (v1 - 4)) ∧ (mi_w (v1 - 4)) < 8 then (some ((D 65 0 (mi_w (v1 - 4))), D)) else none
set_option maxRecDepth 20000 in
theorem S_X11_told_242 {Z : MiZ} (hL : ML Z) (v1 : Int) (D : MiD) : Sg m_X11_told 242 [(42, 0), (0, v1), mi_un, mi_un] [] (D, Z) (mi_LD 0 Z) (B_X11_told_242 v1 D) := by
  unfold B_X11_told_242
  refine Sg.go (pc' := 243) (mi_aload_n dX11_told_242 rfl) ?_
  refine Sg.go (pc' := 246) (mi_gfA (t := 65) (v := 0) (r := 40) (k := 24) dX11_told_243 hC_40 (by decide) rfl wF_X11_69 (by omega) rfl (hL.1 24 (by decide))) ?_
  refine Sg.go (pc' := 247) (mi_iload_n dX11_told_246 rfl) ?_
  refine Sg.go (pc' := 248) (mi_iconst (z := 4) dX11_told_247 rfl) ?_
  refine Sg.go (pc' := 249) (mi_isub dX11_told_248) ?_
  refine Sg.ck (fun hk1 => ?_)
  refine Sg.go (pc' := 250) (mi_iald (n := 8) dX11_told_249 rfl rfl (by omega) hk1) ?_
  exact Sg.ret (mi_ireturn dX11_told_250 rfl (Or.inl rfl))
def B_X11_told_35 : Nat → Int → Int → Int → MiD → Option (Int × MiD)
  | 0, _, _, _, _ => none
  | f + 1, v1, v2, v3, D => if 6 ≤ v3 then (if v1 = 0 then (some ((D 40 0 11), D)) else (if v1 = 1 then (some ((D 65 0 0), D)) else (if v1 = 2 then (if (D 65 0 0) ≠ 0 then (if 0 ≤ (mi_w ((D 65 0 0) - 1)) ∧ (mi_w ((D 65 0 0) - 1)) < 8 then (some ((D 64 0 (mi_w ((D 65 0 0) - 1))), D)) else none) else (some ((-1), D))) else (if v1 = 3 then (some ((D 65 0 1), D)) else (if v1 = 4 then (some ((D 65 0 2), D)) else (if v1 = 5 then (some (v2, D)) else (if v1 = 6 then (some (v2, D)) else (if v1 = 7 then (B_X11_told_242 v1 D) else (if v1 = 8 then (B_X11_told_242 v1 D) else (if v1 = 9 then (B_X11_told_242 v1 D) else (if v1 = 10 then (B_X11_told_242 v1 D) else (if v1 = 11 then (B_X11_told_242 v1 D) else (if v1 = 12 then (mi_bi (B_X11_places D) fun y18 => some (y18, D)) else (if v1 = 13 then (mi_bi (B_X11_shadows D) fun y20 => some (y20, D)) else (if v1 = 14 then (some ((D 40 0 2), D)) else (B_X11_told_242 v1 D)))))))))))))))) else (if v1 ≠ 6 then (if (D 65 0 1) = (-1) then (B_X11_told_87 (B_X11_told_35 f) v1 v3 v2 D) else (if 0 ≤ v3 ∧ v3 < 7 then (if (D 59 v3 4) ≠ 1 then (B_X11_told_87 (B_X11_told_35 f) v1 v3 v2 D) else (B_X11_told_81 (B_X11_told_35 f) v1 v3 v2 D)) else none)) else (mi_bi (B_X11_isIdle D v3) fun y26 => if y26 = 0 then (B_X11_told_87 (B_X11_told_35 f) v1 v3 v2 D) else (B_X11_told_81 (B_X11_told_35 f) v1 v3 v2 D)))
set_option maxRecDepth 20000 in
theorem S_X11_told_35 {Z : MiZ} (hL : ML Z) : ∀ (f : Nat) (v1 v2 v3 : Int) (D : MiD), Sg m_X11_told 35 [(42, 0), (0, v1), (0, v2), (0, v3)] [] (D, Z) (mi_LD 0 Z) (B_X11_told_35 f v1 v2 v3 D) := by
  intro f
  induction f with
  | zero => intros; exact Sg.nope
  | succ f K35 =>
    intro v1 v2 v3 D
    show Sg m_X11_told 35 [(42, 0), (0, v1), (0, v2), (0, v3)] [] (D, Z) (mi_LD 0 Z) (if 6 ≤ v3 then (if v1 = 0 then (some ((D 40 0 11), D)) else (if v1 = 1 then (some ((D 65 0 0), D)) else (if v1 = 2 then (if (D 65 0 0) ≠ 0 then (if 0 ≤ (mi_w ((D 65 0 0) - 1)) ∧ (mi_w ((D 65 0 0) - 1)) < 8 then (some ((D 64 0 (mi_w ((D 65 0 0) - 1))), D)) else none) else (some ((-1), D))) else (if v1 = 3 then (some ((D 65 0 1), D)) else (if v1 = 4 then (some ((D 65 0 2), D)) else (if v1 = 5 then (some (v2, D)) else (if v1 = 6 then (some (v2, D)) else (if v1 = 7 then (B_X11_told_242 v1 D) else (if v1 = 8 then (B_X11_told_242 v1 D) else (if v1 = 9 then (B_X11_told_242 v1 D) else (if v1 = 10 then (B_X11_told_242 v1 D) else (if v1 = 11 then (B_X11_told_242 v1 D) else (if v1 = 12 then (mi_bi (B_X11_places D) fun y18 => some (y18, D)) else (if v1 = 13 then (mi_bi (B_X11_shadows D) fun y20 => some (y20, D)) else (if v1 = 14 then (some ((D 40 0 2), D)) else (B_X11_told_242 v1 D)))))))))))))))) else (if v1 ≠ 6 then (if (D 65 0 1) = (-1) then (B_X11_told_87 (B_X11_told_35 f) v1 v3 v2 D) else (if 0 ≤ v3 ∧ v3 < 7 then (if (D 59 v3 4) ≠ 1 then (B_X11_told_87 (B_X11_told_35 f) v1 v3 v2 D) else (B_X11_told_81 (B_X11_told_35 f) v1 v3 v2 D)) else none)) else (mi_bi (B_X11_isIdle D v3) fun y26 => if y26 = 0 then (B_X11_told_87 (B_X11_told_35 f) v1 v3 v2 D) else (B_X11_told_81 (B_X11_told_35 f) v1 v3 v2 D))))
    refine Sg.go (pc' := 36) (mi_iload_n dX11_told_35 rfl) ?_
    refine Sg.go (pc' := 38) (mi_bipush (z := 6) dX11_told_36 rfl) ?_
    refine Sg.ite (fun h1 => ?_) (fun h1 => ?_)
    · refine Sg.go (pc' := 96) (mi_icmpge_t (tgt := 96) dX11_told_38 (by decide) h1) ?_
      refine Sg.go (pc' := 97) (mi_iload_n dX11_told_96 rfl) ?_
      refine Sg.ite (fun h3 => ?_) (fun h3 => ?_)
      · refine Sg.go (pc' := 172) (mi_tabIn (tgt := 172) dX11_told_97 (by omega) (by omega) (by rw [h3]; rfl) (by decide)) ?_
        refine Sg.go (pc' := 173) (mi_aload_n dX11_told_172 rfl) ?_
        refine Sg.go (pc' := 176) (mi_gfI (r := 40) (k := 11) dX11_told_173 hC_40 (by decide) rfl wF_X11_272 (by omega) rfl) ?_
        exact Sg.ret (mi_ireturn dX11_told_176 rfl (Or.inl rfl))
      · refine Sg.ite (fun h4 => ?_) (fun h4 => ?_)
        · refine Sg.go (pc' := 177) (mi_tabIn (tgt := 177) dX11_told_97 (by omega) (by omega) (by rw [h4]; rfl) (by decide)) ?_
          refine Sg.go (pc' := 178) (mi_aload_n dX11_told_177 rfl) ?_
          refine Sg.go (pc' := 181) (mi_gfA (t := 65) (v := 0) (r := 40) (k := 24) dX11_told_178 hC_40 (by decide) rfl wF_X11_69 (by omega) rfl (hL.1 24 (by decide))) ?_
          refine Sg.go (pc' := 182) (mi_iconst (z := 0) dX11_told_181 rfl) ?_
          refine Sg.go (pc' := 183) (mi_iald (n := 8) dX11_told_182 rfl rfl (by omega) (by decide)) ?_
          exact Sg.ret (mi_ireturn dX11_told_183 rfl (Or.inl rfl))
        · refine Sg.ite (fun h5 => ?_) (fun h5 => ?_)
          · refine Sg.go (pc' := 184) (mi_tabIn (tgt := 184) dX11_told_97 (by omega) (by omega) (by rw [h5]; rfl) (by decide)) ?_
            refine Sg.go (pc' := 185) (mi_aload_n dX11_told_184 rfl) ?_
            refine Sg.go (pc' := 188) (mi_gfA (t := 65) (v := 0) (r := 40) (k := 24) dX11_told_185 hC_40 (by decide) rfl wF_X11_69 (by omega) rfl (hL.1 24 (by decide))) ?_
            refine Sg.go (pc' := 189) (mi_iconst (z := 0) dX11_told_188 rfl) ?_
            refine Sg.go (pc' := 190) (mi_iald (n := 8) dX11_told_189 rfl rfl (by omega) (by decide)) ?_
            refine Sg.ite (fun h6 => ?_) (fun h6 => ?_)
            · refine Sg.go (pc' := 197) (mi_ifne_t (tgt := 197) dX11_told_190 (by decide) h6) ?_
              refine Sg.go (pc' := 198) (mi_aload_n dX11_told_197 rfl) ?_
              refine Sg.go (pc' := 201) (mi_gfA (t := 64) (v := 0) (r := 40) (k := 23) dX11_told_198 hC_40 (by decide) rfl wF_X11_66 (by omega) rfl (hL.1 23 (by decide))) ?_
              refine Sg.go (pc' := 202) (mi_aload_n dX11_told_201 rfl) ?_
              refine Sg.go (pc' := 205) (mi_gfA (t := 65) (v := 0) (r := 40) (k := 24) dX11_told_202 hC_40 (by decide) rfl wF_X11_69 (by omega) rfl (hL.1 24 (by decide))) ?_
              refine Sg.go (pc' := 206) (mi_iconst (z := 0) dX11_told_205 rfl) ?_
              refine Sg.go (pc' := 207) (mi_iald (n := 8) dX11_told_206 rfl rfl (by omega) (by decide)) ?_
              refine Sg.go (pc' := 208) (mi_iconst (z := 1) dX11_told_207 rfl) ?_
              refine Sg.go (pc' := 209) (mi_isub dX11_told_208) ?_
              refine Sg.ck (fun hk7 => ?_)
              refine Sg.go (pc' := 210) (mi_iald (n := 8) dX11_told_209 rfl rfl (by omega) hk7) ?_
              exact Sg.ret (mi_ireturn dX11_told_210 rfl (Or.inl rfl))
            · refine Sg.go (pc' := 193) (mi_ifne_f (tgt := 197) dX11_told_190 (by decide) h6) ?_
              refine Sg.go (pc' := 194) (mi_iconst (z := (-1)) dX11_told_193 rfl) ?_
              refine Sg.go (pc' := 210) (mi_goto (tgt := 210) dX11_told_194 (by decide)) ?_
              exact Sg.ret (mi_ireturn dX11_told_210 rfl (Or.inl rfl))
          · refine Sg.ite (fun h8 => ?_) (fun h8 => ?_)
            · refine Sg.go (pc' := 211) (mi_tabIn (tgt := 211) dX11_told_97 (by omega) (by omega) (by rw [h8]; rfl) (by decide)) ?_
              refine Sg.go (pc' := 212) (mi_aload_n dX11_told_211 rfl) ?_
              refine Sg.go (pc' := 215) (mi_gfA (t := 65) (v := 0) (r := 40) (k := 24) dX11_told_212 hC_40 (by decide) rfl wF_X11_69 (by omega) rfl (hL.1 24 (by decide))) ?_
              refine Sg.go (pc' := 216) (mi_iconst (z := 1) dX11_told_215 rfl) ?_
              refine Sg.go (pc' := 217) (mi_iald (n := 8) dX11_told_216 rfl rfl (by omega) (by decide)) ?_
              exact Sg.ret (mi_ireturn dX11_told_217 rfl (Or.inl rfl))
            · refine Sg.ite (fun h9 => ?_) (fun h9 => ?_)
              · refine Sg.go (pc' := 218) (mi_tabIn (tgt := 218) dX11_told_97 (by omega) (by omega) (by rw [h9]; rfl) (by decide)) ?_
                refine Sg.go (pc' := 219) (mi_aload_n dX11_told_218 rfl) ?_
                refine Sg.go (pc' := 222) (mi_gfA (t := 65) (v := 0) (r := 40) (k := 24) dX11_told_219 hC_40 (by decide) rfl wF_X11_69 (by omega) rfl (hL.1 24 (by decide))) ?_
                refine Sg.go (pc' := 223) (mi_iconst (z := 2) dX11_told_222 rfl) ?_
                refine Sg.go (pc' := 224) (mi_iald (n := 8) dX11_told_223 rfl rfl (by omega) (by decide)) ?_
                exact Sg.ret (mi_ireturn dX11_told_224 rfl (Or.inl rfl))
              · refine Sg.ite (fun h10 => ?_) (fun h10 => ?_)
                · refine Sg.go (pc' := 225) (mi_tabIn (tgt := 225) dX11_told_97 (by omega) (by omega) (by rw [h10]; rfl) (by decide)) ?_
                  refine Sg.go (pc' := 226) (mi_iload_n dX11_told_225 rfl) ?_
                  exact Sg.ret (mi_ireturn dX11_told_226 rfl (Or.inl rfl))
                · refine Sg.ite (fun h11 => ?_) (fun h11 => ?_)
                  · refine Sg.go (pc' := 225) (mi_tabIn (tgt := 225) dX11_told_97 (by omega) (by omega) (by rw [h11]; rfl) (by decide)) ?_
                    refine Sg.go (pc' := 226) (mi_iload_n dX11_told_225 rfl) ?_
                    exact Sg.ret (mi_ireturn dX11_told_226 rfl (Or.inl rfl))
                  · refine Sg.ite (fun h12 => ?_) (fun h12 => ?_)
                    · refine Sg.go (pc' := 242) (mi_tabIn (tgt := 242) dX11_told_97 (by omega) (by omega) (by rw [h12]; rfl) (by decide)) ?_
                      refine Sg.go (pc' := 242) (MiStep.weak (ls' := [(42, 0), (0, v1), mi_un, mi_un]) (mi_wk_y (mi_wk_y (mi_wk_n (mi_wk_n mi_wk_0))))) ?_
                      exact S_X11_told_242 hL v1 D
                    · refine Sg.ite (fun h13 => ?_) (fun h13 => ?_)
                      · refine Sg.go (pc' := 242) (mi_tabIn (tgt := 242) dX11_told_97 (by omega) (by omega) (by rw [h13]; rfl) (by decide)) ?_
                        refine Sg.go (pc' := 242) (MiStep.weak (ls' := [(42, 0), (0, v1), mi_un, mi_un]) (mi_wk_y (mi_wk_y (mi_wk_n (mi_wk_n mi_wk_0))))) ?_
                        exact S_X11_told_242 hL v1 D
                      · refine Sg.ite (fun h14 => ?_) (fun h14 => ?_)
                        · refine Sg.go (pc' := 242) (mi_tabIn (tgt := 242) dX11_told_97 (by omega) (by omega) (by rw [h14]; rfl) (by decide)) ?_
                          refine Sg.go (pc' := 242) (MiStep.weak (ls' := [(42, 0), (0, v1), mi_un, mi_un]) (mi_wk_y (mi_wk_y (mi_wk_n (mi_wk_n mi_wk_0))))) ?_
                          exact S_X11_told_242 hL v1 D
                        · refine Sg.ite (fun h15 => ?_) (fun h15 => ?_)
                          · refine Sg.go (pc' := 242) (mi_tabIn (tgt := 242) dX11_told_97 (by omega) (by omega) (by rw [h15]; rfl) (by decide)) ?_
                            refine Sg.go (pc' := 242) (MiStep.weak (ls' := [(42, 0), (0, v1), mi_un, mi_un]) (mi_wk_y (mi_wk_y (mi_wk_n (mi_wk_n mi_wk_0))))) ?_
                            exact S_X11_told_242 hL v1 D
                          · refine Sg.ite (fun h16 => ?_) (fun h16 => ?_)
                            · refine Sg.go (pc' := 242) (mi_tabIn (tgt := 242) dX11_told_97 (by omega) (by omega) (by rw [h16]; rfl) (by decide)) ?_
                              refine Sg.go (pc' := 242) (MiStep.weak (ls' := [(42, 0), (0, v1), mi_un, mi_un]) (mi_wk_y (mi_wk_y (mi_wk_n (mi_wk_n mi_wk_0))))) ?_
                              exact S_X11_told_242 hL v1 D
                            · refine Sg.ite (fun h17 => ?_) (fun h17 => ?_)
                              · refine Sg.go (pc' := 227) (mi_tabIn (tgt := 227) dX11_told_97 (by omega) (by omega) (by rw [h17]; rfl) (by decide)) ?_
                                refine Sg.go (pc' := 228) (mi_aload_n dX11_told_227 rfl) ?_
                                refine Sg.callI (pc' := 231) (t := 0) (μ' := m_X11_places) (args := [(42, 0)]) (mi_invV (n := 0) (r := 40) dX11_told_228 hC_40 (by omega) rfl rfl wN_X11_places rfl ⟨by decide, by decide⟩ wL_X11_407 wI_X11_places wS_X11_places wB_X11 wC_X11_places) (fun v hv => C_X11_places hL D v hv) (Nat.le_of_ble_eq_true rfl) rfl rfl (fun y18 => ?_)
                                exact Sg.ret (mi_ireturn dX11_told_231 rfl (Or.inl rfl))
                              · refine Sg.ite (fun h19 => ?_) (fun h19 => ?_)
                                · refine Sg.go (pc' := 232) (mi_tabIn (tgt := 232) dX11_told_97 (by omega) (by omega) (by rw [h19]; rfl) (by decide)) ?_
                                  refine Sg.go (pc' := 233) (mi_aload_n dX11_told_232 rfl) ?_
                                  refine Sg.callI (pc' := 236) (t := 0) (μ' := m_X11_shadows) (args := [(42, 0)]) (mi_invV (n := 0) (r := 40) dX11_told_233 hC_40 (by omega) rfl rfl wN_X11_shadows rfl ⟨by decide, by decide⟩ wL_X11_410 wI_X11_shadows wS_X11_shadows wB_X11 wC_X11_shadows) (fun v hv => C_X11_shadows hL D v hv) (Nat.le_of_ble_eq_true rfl) rfl rfl (fun y20 => ?_)
                                  exact Sg.ret (mi_ireturn dX11_told_236 rfl (Or.inl rfl))
                                · refine Sg.ite (fun h21 => ?_) (fun h21 => ?_)
                                  · refine Sg.go (pc' := 237) (mi_tabIn (tgt := 237) dX11_told_97 (by omega) (by omega) (by rw [h21]; rfl) (by decide)) ?_
                                    refine Sg.go (pc' := 238) (mi_aload_n dX11_told_237 rfl) ?_
                                    refine Sg.go (pc' := 241) (mi_gfI (r := 40) (k := 2) dX11_told_238 hC_40 (by decide) rfl wF_X11_81 (by omega) rfl) ?_
                                    exact Sg.ret (mi_ireturn dX11_told_241 rfl (Or.inl rfl))
                                  · refine Sg.go (pc' := 242) (mi_tabOut (tgt := 242) dX11_told_97 (by omega) (by decide)) ?_
                                    refine Sg.go (pc' := 242) (MiStep.weak (ls' := [(42, 0), (0, v1), mi_un, mi_un]) (mi_wk_y (mi_wk_y (mi_wk_n (mi_wk_n mi_wk_0))))) ?_
                                    exact S_X11_told_242 hL v1 D
    · refine Sg.go (pc' := 41) (mi_icmpge_f (tgt := 96) dX11_told_38 (by decide) h1) ?_
      refine Sg.go (pc' := 42) (mi_iload_n dX11_told_41 rfl) ?_
      refine Sg.go (pc' := 43) (mi_iload_n dX11_told_42 rfl) ?_
      refine Sg.go (pc' := 45) (mi_bipush (z := 6) dX11_told_43 rfl) ?_
      refine Sg.ite (fun h22 => ?_) (fun h22 => ?_)
      · refine Sg.go (pc' := 59) (mi_icmpne_t (tgt := 59) dX11_told_45 (by decide) h22) ?_
        refine Sg.go (pc' := 60) (mi_aload_n dX11_told_59 rfl) ?_
        refine Sg.go (pc' := 63) (mi_gfA (t := 65) (v := 0) (r := 40) (k := 24) dX11_told_60 hC_40 (by decide) rfl wF_X11_69 (by omega) rfl (hL.1 24 (by decide))) ?_
        refine Sg.go (pc' := 64) (mi_iconst (z := 1) dX11_told_63 rfl) ?_
        refine Sg.go (pc' := 65) (mi_iald (n := 8) dX11_told_64 rfl rfl (by omega) (by decide)) ?_
        refine Sg.go (pc' := 66) (mi_iconst (z := (-1)) dX11_told_65 rfl) ?_
        refine Sg.ite (fun h23 => ?_) (fun h23 => ?_)
        · refine Sg.go (pc' := 87) (mi_icmpeq_t (tgt := 87) dX11_told_66 (by decide) h23) ?_
          refine Sg.go (pc' := 87) (MiStep.weak (ls' := [(42, 0), (0, v1), mi_un, (0, v3)]) (mi_wk_y (mi_wk_y (mi_wk_n (mi_wk_y mi_wk_0))))) ?_
          exact S_X11_told_87 hL K35 v1 v3 v2 D
        · refine Sg.go (pc' := 69) (mi_icmpeq_f (tgt := 87) dX11_told_66 (by decide) h23) ?_
          refine Sg.go (pc' := 70) (mi_aload_n dX11_told_69 rfl) ?_
          refine Sg.go (pc' := 73) (mi_gfA (t := 58) (v := 0) (r := 40) (k := 20) dX11_told_70 hC_40 (by decide) rfl wF_X11_56 (by omega) rfl (hL.1 20 (by decide))) ?_
          refine Sg.go (pc' := 74) (mi_iload_n dX11_told_73 rfl) ?_
          refine Sg.ck (fun hk24 => ?_)
          refine Sg.go (pc' := 75) (mi_aald (n := 7) (t := 59) (v := v3) dX11_told_74 rfl hA_58 rfl (by omega) hk24 rfl (hL.2.2.2.2.2.2.1 _ hk24.1 hk24.2)) ?_
          refine Sg.go (pc' := 76) (mi_iconst (z := 4) dX11_told_75 rfl) ?_
          refine Sg.go (pc' := 77) (mi_iald (n := 7) dX11_told_76 rfl rfl (by omega) (by decide)) ?_
          refine Sg.go (pc' := 78) (mi_iconst (z := 1) dX11_told_77 rfl) ?_
          refine Sg.ite (fun h25 => ?_) (fun h25 => ?_)
          · refine Sg.go (pc' := 87) (mi_icmpne_t (tgt := 87) dX11_told_78 (by decide) h25) ?_
            refine Sg.go (pc' := 87) (MiStep.weak (ls' := [(42, 0), (0, v1), mi_un, (0, v3)]) (mi_wk_y (mi_wk_y (mi_wk_n (mi_wk_y mi_wk_0))))) ?_
            exact S_X11_told_87 hL K35 v1 v3 v2 D
          · refine Sg.go (pc' := 81) (mi_icmpne_f (tgt := 87) dX11_told_78 (by decide) h25) ?_
            refine Sg.go (pc' := 81) (MiStep.weak (ls' := [(42, 0), (0, v1), mi_un, (0, v3)]) (mi_wk_y (mi_wk_y (mi_wk_n (mi_wk_y mi_wk_0))))) ?_
            exact S_X11_told_81 hL K35 v1 v3 v2 D
      · refine Sg.go (pc' := 48) (mi_icmpne_f (tgt := 59) dX11_told_45 (by decide) h22) ?_
        refine Sg.go (pc' := 49) (mi_aload_n dX11_told_48 rfl) ?_
        refine Sg.go (pc' := 50) (mi_iload_n dX11_told_49 rfl) ?_
        refine Sg.callI (pc' := 53) (t := 0) (μ' := m_X11_isIdle) (args := [(42, 0), (0, v3)]) (mi_invV (n := 1) (r := 40) dX11_told_50 hC_40 (by omega) rfl rfl wN_X11_isIdle rfl ⟨by decide, by decide⟩ wL_X11_223 wI_X11_isIdle wS_X11_isIdle wB_X11 wC_X11_isIdle) (fun v hv => C_X11_isIdle hL v3 D v hv) (Nat.le_of_ble_eq_true rfl) rfl rfl (fun y26 => ?_)
        refine Sg.ite (fun h27 => ?_) (fun h27 => ?_)
        · refine Sg.go (pc' := 87) (mi_ifeq_t (tgt := 87) dX11_told_53 (by decide) h27) ?_
          refine Sg.go (pc' := 87) (MiStep.weak (ls' := [(42, 0), (0, v1), mi_un, (0, v3)]) (mi_wk_y (mi_wk_y (mi_wk_n (mi_wk_y mi_wk_0))))) ?_
          exact S_X11_told_87 hL K35 v1 v3 v2 D
        · refine Sg.go (pc' := 56) (mi_ifeq_f (tgt := 87) dX11_told_53 (by decide) h27) ?_
          refine Sg.go (pc' := 81) (mi_goto (tgt := 81) dX11_told_56 (by decide)) ?_
          refine Sg.go (pc' := 81) (MiStep.weak (ls' := [(42, 0), (0, v1), mi_un, (0, v3)]) (mi_wk_y (mi_wk_y (mi_wk_n (mi_wk_y mi_wk_0))))) ?_
          exact S_X11_told_81 hL K35 v1 v3 v2 D
def B_X11_told_21 (v1 : Int) (s1 : Int) (D : MiD) : Option (Int × MiD) := if s1 = 0 ∨ s1 = 1 then (mi_b2 (B_X11_bad s1 1 1 D) fun y2 D3 => if y2 = 0 then (B_X11_told_35 mi_fuel v1 0 0 D3) else (some (0, D3))) else none
set_option maxRecDepth 20000 in
theorem S_X11_told_21 {Z : MiZ} (hL : ML Z) (v1 s1 : Int) (D : MiD) : Sg m_X11_told 21 [(42, 0), (0, v1), mi_un, mi_un] [(0, s1), (42, 0)] (D, Z) (mi_LD 0 Z) (B_X11_told_21 v1 s1 D) := by
  unfold B_X11_told_21
  refine Sg.go (pc' := 22) (mi_iconst (z := 1) dX11_told_21 rfl) ?_
  refine Sg.go (pc' := 23) (mi_iconst (z := 1) dX11_told_22 rfl) ?_
  refine Sg.ck (fun hk1 => ?_)
  refine Sg.callD (pc' := 26) (t := 0) (μ' := m_X11_bad) (args := [(42, 0), (0, s1), (0, 1), (0, 1)]) (mi_invV (n := 3) (r := 40) dX11_told_23 hC_40 (by omega) rfl rfl wN_X11_bad rfl ⟨by decide, by decide⟩ wL_X11_229 wI_X11_bad wS_X11_bad wB_X11 wC_X11_bad) (fun v hv => C_X11_bad hL s1 1 1 D (hk1) v hv) (Nat.le_of_ble_eq_true rfl) rfl rfl (fun y2 D3 => ?_)
  refine Sg.ite (fun h4 => ?_) (fun h4 => ?_)
  · refine Sg.go (pc' := 31) (mi_ifeq_t (tgt := 31) dX11_told_26 (by decide) h4) ?_
    refine Sg.go (pc' := 32) (mi_iconst (z := 0) dX11_told_31 rfl) ?_
    refine Sg.go (pc' := 33) (mi_istore_n (ls1 := [(42, 0), (0, v1), (0, 0), mi_un]) dX11_told_32 (by decide) rfl) ?_
    refine Sg.go (pc' := 34) (mi_iconst (z := 0) dX11_told_33 rfl) ?_
    refine Sg.go (pc' := 35) (mi_istore_n (ls1 := [(42, 0), (0, v1), (0, 0), (0, 0)]) dX11_told_34 (by decide) rfl) ?_
    exact S_X11_told_35 hL mi_fuel v1 0 0 D3
  · refine Sg.go (pc' := 29) (mi_ifeq_f (tgt := 31) dX11_told_26 (by decide) h4) ?_
    refine Sg.go (pc' := 30) (mi_iconst (z := 0) dX11_told_29 rfl) ?_
    exact Sg.ret (mi_ireturn dX11_told_30 rfl (Or.inl rfl))
def B_X11_told (v1 : Int) (D : MiD) : Option (Int × MiD) := mi_let (mi_st D 40 0 0 0) fun D1 => if (B_X11_in v1 0 14) ≠ 0 then (B_X11_told_21 v1 0 D1) else (B_X11_told_21 v1 1 D1)
set_option maxRecDepth 20000 in
theorem S_X11_told {Z : MiZ} (hL : ML Z) (v1 : Int) (D : MiD) : Sg m_X11_told 0 [(42, 0), (0, v1), mi_un, mi_un] [] (D, Z) (mi_LD 0 Z) (B_X11_told v1 D) := by
  unfold B_X11_told
  refine Sg.go (pc' := 1) (mi_aload_n dX11_told_0 rfl) ?_
  refine Sg.go (pc' := 2) (mi_iconst (z := 0) dX11_told_1 rfl) ?_
  refine Sg.goM (pc' := 5) (mi_pfD (r := 40) (k := 0) (t := 0) dX11_told_2 hC_40 (by decide) rfl rfl wF_X11_78 (by omega) rfl (by decide) (Or.inl ⟨rfl, rfl⟩)) ?_
  refine Sg.letD (fun D1 hD1 => ?_)
  refine Sg.go (pc' := 6) (mi_aload_n dX11_told_5 rfl) ?_
  refine Sg.go (pc' := 7) (mi_iload_n dX11_told_6 rfl) ?_
  refine Sg.go (pc' := 8) (mi_iconst (z := 0) dX11_told_7 rfl) ?_
  refine Sg.go (pc' := 10) (mi_bipush (z := 14) dX11_told_8 rfl) ?_
  refine Sg.callP (pc' := 13) (t := 0) (v := (B_X11_in v1 0 14)) (μ' := m_X11_in) (args := [(0, v1), (0, 0), (0, 14)]) (mi_invS (n := 3) dX11_told_10 rfl wN_X11_in rfl ⟨by decide, by decide⟩ wL_X11_121 wT_X11_in wB_X11 wC_X11_in) (C_X11_in hL v1 0 14 D1) (Nat.le_of_ble_eq_true rfl) rfl rfl ?_
  refine Sg.ite (fun h2 => ?_) (fun h2 => ?_)
  · refine Sg.go (pc' := 20) (mi_ifne_t (tgt := 20) dX11_told_13 (by decide) h2) ?_
    refine Sg.go (pc' := 21) (mi_iconst (z := 0) dX11_told_20 rfl) ?_
    exact S_X11_told_21 hL v1 0 D1
  · refine Sg.go (pc' := 16) (mi_ifne_f (tgt := 20) dX11_told_13 (by decide) h2) ?_
    refine Sg.go (pc' := 17) (mi_iconst (z := 1) dX11_told_16 rfl) ?_
    refine Sg.go (pc' := 21) (mi_goto (tgt := 21) dX11_told_17 (by decide)) ?_
    exact S_X11_told_21 hL v1 1 D1
theorem C_X11_told {Z : MiZ} (hL : ML Z) (a1 : Int) (D : MiD) (b : Int × MiD) (hb : B_X11_told a1 D = some b) : MC m_X11_told [(42, 0), (0, a1)] (D, Z) ((mi_LD 0 Z) b) := MC.ofSg (L := (mi_LD 0 Z)) (μ := m_X11_told) (args := [(42, 0), (0, a1)]) (M := (D, Z)) rfl wP_X11 (Nat.le_of_ble_eq_true rfl) (show Sg m_X11_told 0 [(42, 0), (0, a1), mi_un, mi_un] [] (D, Z) (mi_LD 0 Z) (B_X11_told a1 D) from S_X11_told hL a1 D) hb
