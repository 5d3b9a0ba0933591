noncomputable section MiW1
abbrev m_J0_coder_7d493 : MiI := (yJ0_coder_7d493, cJ0_coder_7d493, 1, (some .byte), 1, none)
def B_J0_coder_7d493 (D : MiD) (v0 : Int) : Option (Int) := some 0
set_option maxRecDepth 20000 in
theorem S_J0_coder_7d493 {D : MiD} {Z : MiZ} (hL : XL Z) (v0 : Int) : (0 ≤ v0 ∧ v0 < 64) → Sg m_J0_coder_7d493 0 [(29, v0)] [] (D, Z) (mi_LI 0 (D, Z)) (B_J0_coder_7d493 D v0) := by
  intro hb0
  unfold B_J0_coder_7d493
  refine Sg.go (pc' := 3) (mi_gsC dJ0_coder_7d493_0 wF_J0_38) ?_
  refine Sg.go (pc' := 6) (mi_ifeq_f (tgt := 13) dJ0_coder_7d493_3 (by decide) (by decide)) ?_
  refine Sg.go (pc' := 7) (mi_aload_n dJ0_coder_7d493_6 rfl) ?_
  refine Sg.go (pc' := 10) (mi_gfCo dJ0_coder_7d493_7 wF_J0_15 (by omega)) ?_
  refine Sg.go (pc' := 14) (mi_goto (tgt := 14) dJ0_coder_7d493_10 (by decide)) ?_
  exact Sg.ret (mi_ireturn dJ0_coder_7d493_14 rfl (Or.inr (Or.inr (Or.inr ⟨rfl, (by decide)⟩))))
theorem C_J0_coder_7d493 {Z : MiZ} (hL : XL Z) (a0 : Int) (D : MiD) (h0 : (0 ≤ a0 ∧ a0 < 64)) (b : Int) (hb : B_J0_coder_7d493 D a0 = some b) : MC m_J0_coder_7d493 [(29, a0)] (D, Z) ((mi_LI 0 (D, Z)) b) := MC.ofSg (L := (mi_LI 0 (D, Z))) (μ := m_J0_coder_7d493) (args := [(29, a0)]) (M := (D, Z)) rfl wP_J0 (Nat.le_of_ble_eq_true rfl) (show Sg m_J0_coder_7d493 0 [(29, a0)] [] (D, Z) (mi_LI 0 (D, Z)) (B_J0_coder_7d493 D a0) from S_J0_coder_7d493 hL a0 h0) hb
abbrev m_J0_isLatin1_aae02 : MiI := (yJ0_isLatin1_aae02, cJ0_isLatin1_aae02, 1, (some .boolean), 1, none)
def B_J0_isLatin1_aae02 (D : MiD) (v0 : Int) : Option (Int) := some 1
set_option maxRecDepth 20000 in
theorem S_J0_isLatin1_aae02 {D : MiD} {Z : MiZ} (hL : XL Z) (v0 : Int) : (0 ≤ v0 ∧ v0 < 64) → Sg m_J0_isLatin1_aae02 0 [(29, v0)] [] (D, Z) (mi_LI 0 (D, Z)) (B_J0_isLatin1_aae02 D v0) := by
  intro hb0
  unfold B_J0_isLatin1_aae02
  refine Sg.go (pc' := 3) (mi_gsC dJ0_isLatin1_aae02_0 wF_J0_38) ?_
  refine Sg.go (pc' := 6) (mi_ifeq_f (tgt := 17) dJ0_isLatin1_aae02_3 (by decide) (by decide)) ?_
  refine Sg.go (pc' := 7) (mi_aload_n dJ0_isLatin1_aae02_6 rfl) ?_
  refine Sg.go (pc' := 10) (mi_gfCo dJ0_isLatin1_aae02_7 wF_J0_15 (by omega)) ?_
  refine Sg.go (pc' := 13) (mi_ifne_f (tgt := 17) dJ0_isLatin1_aae02_10 (by decide) (by decide)) ?_
  refine Sg.go (pc' := 14) (mi_iconst (z := 1) dJ0_isLatin1_aae02_13 rfl) ?_
  refine Sg.go (pc' := 18) (mi_goto (tgt := 18) dJ0_isLatin1_aae02_14 (by decide)) ?_
  exact Sg.ret (mi_ireturn dJ0_isLatin1_aae02_18 rfl (Or.inr (Or.inl ⟨rfl, Or.inr rfl⟩)))
theorem C_J0_isLatin1_aae02 {Z : MiZ} (hL : XL Z) (a0 : Int) (D : MiD) (h0 : (0 ≤ a0 ∧ a0 < 64)) (b : Int) (hb : B_J0_isLatin1_aae02 D a0 = some b) : MC m_J0_isLatin1_aae02 [(29, a0)] (D, Z) ((mi_LI 0 (D, Z)) b) := MC.ofSg (L := (mi_LI 0 (D, Z))) (μ := m_J0_isLatin1_aae02) (args := [(29, a0)]) (M := (D, Z)) rfl wP_J0 (Nat.le_of_ble_eq_true rfl) (show Sg m_J0_isLatin1_aae02 0 [(29, a0)] [] (D, Z) (mi_LI 0 (D, Z)) (B_J0_isLatin1_aae02 D a0) from S_J0_isLatin1_aae02 hL a0 h0) hb
abbrev m_J11_isValidCodePoint_9a6ad : MiI := (yJ11_isValidCodePoint_9a6ad, cJ11_isValidCodePoint_9a6ad, 2, (some .boolean), 1, none)
def B_J11_isValidCodePoint_9a6ad (v0 : Int) : Int := if 17 ≤ (mi_ushr v0 16) then 0 else 1
set_option maxRecDepth 20000 in
theorem S_J11_isValidCodePoint_9a6ad {D : MiD} {Z : MiZ} (hL : XL Z) (v0 : Int) : Sg m_J11_isValidCodePoint_9a6ad 0 [(0, v0), mi_un] [] (D, Z) (mi_LI 0 (D, Z)) (some (B_J11_isValidCodePoint_9a6ad v0)) := by
  unfold B_J11_isValidCodePoint_9a6ad
  refine Sg.go (pc' := 1) (mi_iload_n dJ11_isValidCodePoint_9a6ad_0 rfl) ?_
  refine Sg.go (pc' := 3) (mi_bipush (z := 16) dJ11_isValidCodePoint_9a6ad_1 rfl) ?_
  refine Sg.go (pc' := 4) (mi_iushr dJ11_isValidCodePoint_9a6ad_3) ?_
  refine Sg.go (pc' := 5) (mi_istore_n (ls1 := [(0, v0), (0, (mi_ushr v0 16))]) dJ11_isValidCodePoint_9a6ad_4 (by decide) rfl) ?_
  refine Sg.go (pc' := 6) (mi_iload_n dJ11_isValidCodePoint_9a6ad_5 rfl) ?_
  refine Sg.go (pc' := 8) (mi_bipush (z := 17) dJ11_isValidCodePoint_9a6ad_6 rfl) ?_
  refine Sg.iteS (fun h1 => ?_) (fun h1 => ?_)
  · refine Sg.go (pc' := 15) (mi_icmpge_t (tgt := 15) dJ11_isValidCodePoint_9a6ad_8 (by decide) h1) ?_
    refine Sg.go (pc' := 16) (mi_iconst (z := 0) dJ11_isValidCodePoint_9a6ad_15 rfl) ?_
    exact Sg.ret (mi_ireturn dJ11_isValidCodePoint_9a6ad_16 rfl (Or.inr (Or.inl ⟨rfl, Or.inl rfl⟩)))
  · refine Sg.go (pc' := 11) (mi_icmpge_f (tgt := 15) dJ11_isValidCodePoint_9a6ad_8 (by decide) h1) ?_
    refine Sg.go (pc' := 12) (mi_iconst (z := 1) dJ11_isValidCodePoint_9a6ad_11 rfl) ?_
    refine Sg.go (pc' := 16) (mi_goto (tgt := 16) dJ11_isValidCodePoint_9a6ad_12 (by decide)) ?_
    exact Sg.ret (mi_ireturn dJ11_isValidCodePoint_9a6ad_16 rfl (Or.inr (Or.inl ⟨rfl, Or.inr rfl⟩)))
theorem C_J11_isValidCodePoint_9a6ad {Z : MiZ} (hL : XL Z) (a0 : Int) (D : MiD) : MC m_J11_isValidCodePoint_9a6ad [(0, a0)] (D, Z) (mi_LI 0 (D, Z) (B_J11_isValidCodePoint_9a6ad a0)) := MC.ofSg (L := (mi_LI 0 (D, Z))) (μ := m_J11_isValidCodePoint_9a6ad) (args := [(0, a0)]) (M := (D, Z)) rfl wP_J11 (Nat.le_of_ble_eq_true rfl) (show Sg m_J11_isValidCodePoint_9a6ad 0 [(0, a0), mi_un] [] (D, Z) (mi_LI 0 (D, Z)) (some (B_J11_isValidCodePoint_9a6ad a0)) from S_J11_isValidCodePoint_9a6ad hL a0) rfl
theorem Z_J11_isValidCodePoint_9a6ad {v0 : Int} : B_J11_isValidCodePoint_9a6ad v0 = 0 ∨ B_J11_isValidCodePoint_9a6ad v0 = 1 := by
  unfold B_J11_isValidCodePoint_9a6ad
  repeat' split
  all_goals first | exact Or.inl rfl | exact Or.inr rfl | exact Z_X11_areSame | exact Z_X11_in | exact Z_X11_isBit | exact Z_X11_isDatum | exact Z_X11_isDigit | exact Z_X11_isFunction | exact Z_X11_isQuarters | exact Z_X11_isSmall | exact Z_X11_isTask | exact Z_X11_widens
abbrev m_J1_canEncode_9a6ad : MiI := (yJ1_canEncode_9a6ad, cJ1_canEncode_9a6ad, 1, (some .boolean), 1, none)
def B_J1_canEncode_9a6ad (v0 : Int) : Int := if v0 < 0 then 0 else (if 255 < v0 then 0 else 1)
set_option maxRecDepth 20000 in
theorem S_J1_canEncode_9a6ad {D : MiD} {Z : MiZ} (hL : XL Z) (v0 : Int) : Sg m_J1_canEncode_9a6ad 0 [(0, v0)] [] (D, Z) (mi_LI 0 (D, Z)) (some (B_J1_canEncode_9a6ad v0)) := by
  unfold B_J1_canEncode_9a6ad
  refine Sg.go (pc' := 1) (mi_iload_n dJ1_canEncode_9a6ad_0 rfl) ?_
  refine Sg.iteS (fun h1 => ?_) (fun h1 => ?_)
  · refine Sg.go (pc' := 15) (mi_iflt_t (tgt := 15) dJ1_canEncode_9a6ad_1 (by decide) h1) ?_
    refine Sg.go (pc' := 16) (mi_iconst (z := 0) dJ1_canEncode_9a6ad_15 rfl) ?_
    exact Sg.ret (mi_ireturn dJ1_canEncode_9a6ad_16 rfl (Or.inr (Or.inl ⟨rfl, Or.inl rfl⟩)))
  · refine Sg.go (pc' := 4) (mi_iflt_f (tgt := 15) dJ1_canEncode_9a6ad_1 (by decide) h1) ?_
    refine Sg.go (pc' := 5) (mi_iload_n dJ1_canEncode_9a6ad_4 rfl) ?_
    refine Sg.go (pc' := 8) (mi_sipush (z := 255) dJ1_canEncode_9a6ad_5 rfl) ?_
    refine Sg.iteS (fun h2 => ?_) (fun h2 => ?_)
    · refine Sg.go (pc' := 15) (mi_icmpgt_t (tgt := 15) dJ1_canEncode_9a6ad_8 (by decide) h2) ?_
      refine Sg.go (pc' := 16) (mi_iconst (z := 0) dJ1_canEncode_9a6ad_15 rfl) ?_
      exact Sg.ret (mi_ireturn dJ1_canEncode_9a6ad_16 rfl (Or.inr (Or.inl ⟨rfl, Or.inl rfl⟩)))
    · refine Sg.go (pc' := 11) (mi_icmpgt_f (tgt := 15) dJ1_canEncode_9a6ad_8 (by decide) h2) ?_
      refine Sg.go (pc' := 12) (mi_iconst (z := 1) dJ1_canEncode_9a6ad_11 rfl) ?_
      refine Sg.go (pc' := 16) (mi_goto (tgt := 16) dJ1_canEncode_9a6ad_12 (by decide)) ?_
      exact Sg.ret (mi_ireturn dJ1_canEncode_9a6ad_16 rfl (Or.inr (Or.inl ⟨rfl, Or.inr rfl⟩)))
theorem C_J1_canEncode_9a6ad {Z : MiZ} (hL : XL Z) (a0 : Int) (D : MiD) : MC m_J1_canEncode_9a6ad [(0, a0)] (D, Z) (mi_LI 0 (D, Z) (B_J1_canEncode_9a6ad a0)) := MC.ofSg (L := (mi_LI 0 (D, Z))) (μ := m_J1_canEncode_9a6ad) (args := [(0, a0)]) (M := (D, Z)) rfl wP_J1 (Nat.le_of_ble_eq_true rfl) (show Sg m_J1_canEncode_9a6ad 0 [(0, a0)] [] (D, Z) (mi_LI 0 (D, Z)) (some (B_J1_canEncode_9a6ad a0)) from S_J1_canEncode_9a6ad hL a0) rfl
theorem Z_J1_canEncode_9a6ad {v0 : Int} : B_J1_canEncode_9a6ad v0 = 0 ∨ B_J1_canEncode_9a6ad v0 = 1 := by
  unfold B_J1_canEncode_9a6ad
  repeat' split
  all_goals first | exact Or.inl rfl | exact Or.inr rfl | exact Z_J11_isValidCodePoint_9a6ad | exact Z_X11_areSame | exact Z_X11_in | exact Z_X11_isBit | exact Z_X11_isDatum | exact Z_X11_isDigit | exact Z_X11_isFunction | exact Z_X11_isQuarters | exact Z_X11_isSmall | exact Z_X11_isTask | exact Z_X11_widens
abbrev m_J1_indexOfChar_4cfef : MiI := (yJ1_indexOfChar_4cfef, cJ1_indexOfChar_4cfef, 6, (some .int), 1, none)
def B_J1_indexOfChar_4cfef_7 (D : MiD) : Nat → Int → Int → Int → Int → Option (Int)
  | 0, _, _, _, _ => none
  | f + 1, v0, v3, v4, v5 => if v3 ≤ v5 then (some (-1)) else (if 0 ≤ v5 ∧ v5 < mi_sl v0 then (if (mi_sc v0 v5) ≠ v4 then (B_J1_indexOfChar_4cfef_7 D f v0 v3 v4 (mi_w (v5 + 1))) else (some v5)) else none)
set_option maxRecDepth 20000 in
theorem S_J1_indexOfChar_4cfef_7 {D : MiD} {Z : MiZ} (hL : XL Z) : ∀ (f : Nat) (v0 v3 v4 v5 : Int), (0 ≤ v0 ∧ v0 < 64) → Sg m_J1_indexOfChar_4cfef 7 [(33, v0), mi_un, mi_un, (0, v3), (0, v4), (0, v5)] [] (D, Z) (mi_LI 0 (D, Z)) (B_J1_indexOfChar_4cfef_7 D f v0 v3 v4 v5) := by
  intro f
  induction f with
  | zero => intros; exact Sg.nope
  | succ f K7 =>
    intro v0 v3 v4 v5 hb0
    show Sg m_J1_indexOfChar_4cfef 7 [(33, v0), mi_un, mi_un, (0, v3), (0, v4), (0, v5)] [] (D, Z) (mi_LI 0 (D, Z)) (if v3 ≤ v5 then (some (-1)) else (if 0 ≤ v5 ∧ v5 < mi_sl v0 then (if (mi_sc v0 v5) ≠ v4 then (B_J1_indexOfChar_4cfef_7 D f v0 v3 v4 (mi_w (v5 + 1))) else (some v5)) else none))
    refine Sg.go (pc' := 9) (mi_iload dJ1_indexOfChar_4cfef_7 rfl) ?_
    refine Sg.go (pc' := 10) (mi_iload_n dJ1_indexOfChar_4cfef_9 rfl) ?_
    refine Sg.ite (fun h1 => ?_) (fun h1 => ?_)
    · refine Sg.go (pc' := 31) (mi_icmpge_t (tgt := 31) dJ1_indexOfChar_4cfef_10 (by decide) h1) ?_
      refine Sg.go (pc' := 32) (mi_iconst (z := (-1)) dJ1_indexOfChar_4cfef_31 rfl) ?_
      exact Sg.ret (mi_ireturn dJ1_indexOfChar_4cfef_32 rfl (Or.inl rfl))
    · refine Sg.go (pc' := 13) (mi_icmpge_f (tgt := 31) dJ1_indexOfChar_4cfef_10 (by decide) h1) ?_
      refine Sg.go (pc' := 14) (mi_aload_n dJ1_indexOfChar_4cfef_13 rfl) ?_
      refine Sg.go (pc' := 16) (mi_iload dJ1_indexOfChar_4cfef_14 rfl) ?_
      refine Sg.ck (fun hk2 => ?_)
      refine Sg.go (pc' := 17) (mi_sbld dJ1_indexOfChar_4cfef_16 (by omega) hk2) ?_
      refine Sg.go (pc' := 19) (mi_iload dJ1_indexOfChar_4cfef_17 rfl) ?_
      refine Sg.ite (fun h3 => ?_) (fun h3 => ?_)
      · refine Sg.go (pc' := 25) (mi_icmpne_t (tgt := 25) dJ1_indexOfChar_4cfef_19 (by decide) h3) ?_
        refine Sg.go (pc' := 28) (mi_iinc (z := 1) (ls1 := [(33, v0), mi_un, mi_un, (0, v3), (0, v4), (0, (mi_w (v5 + 1)))]) dJ1_indexOfChar_4cfef_25 (by decide) rfl rfl rfl) ?_
        refine Sg.go (pc' := 7) (mi_goto (tgt := 7) dJ1_indexOfChar_4cfef_28 (by decide)) ?_
        exact K7 v0 v3 v4 (mi_w (v5 + 1)) hb0
      · refine Sg.go (pc' := 22) (mi_icmpne_f (tgt := 25) dJ1_indexOfChar_4cfef_19 (by decide) h3) ?_
        refine Sg.go (pc' := 24) (mi_iload dJ1_indexOfChar_4cfef_22 rfl) ?_
        exact Sg.ret (mi_ireturn dJ1_indexOfChar_4cfef_24 rfl (Or.inl rfl))
def B_J1_indexOfChar_4cfef (D : MiD) (v0 : Int) (v1 : Int) (v2 : Int) (v3 : Int) : Option (Int) := B_J1_indexOfChar_4cfef_7 D mi_fuel v0 v3 (mi_b v1) v2
set_option maxRecDepth 20000 in
theorem S_J1_indexOfChar_4cfef {D : MiD} {Z : MiZ} (hL : XL Z) (v0 v1 v2 v3 : Int) : (0 ≤ v0 ∧ v0 < 64) → Sg m_J1_indexOfChar_4cfef 0 [(33, v0), (0, v1), (0, v2), (0, v3), mi_un, mi_un] [] (D, Z) (mi_LI 0 (D, Z)) (B_J1_indexOfChar_4cfef D v0 v1 v2 v3) := by
  intro hb0
  unfold B_J1_indexOfChar_4cfef
  refine Sg.go (pc' := 1) (mi_iload_n dJ1_indexOfChar_4cfef_0 rfl) ?_
  refine Sg.go (pc' := 2) (mi_i2b dJ1_indexOfChar_4cfef_1) ?_
  refine Sg.go (pc' := 4) (mi_istore (ls1 := [(33, v0), (0, v1), (0, v2), (0, v3), (0, (mi_b v1)), mi_un]) dJ1_indexOfChar_4cfef_2 (by decide) rfl) ?_
  refine Sg.go (pc' := 5) (mi_iload_n dJ1_indexOfChar_4cfef_4 rfl) ?_
  refine Sg.go (pc' := 7) (mi_istore (ls1 := [(33, v0), (0, v1), (0, v2), (0, v3), (0, (mi_b v1)), (0, v2)]) dJ1_indexOfChar_4cfef_5 (by decide) rfl) ?_
  refine Sg.go (pc' := 7) (MiStep.weak (ls' := [(33, v0), mi_un, mi_un, (0, v3), (0, (mi_b v1)), (0, v2)]) (mi_wk_y (mi_wk_n (mi_wk_n (mi_wk_y (mi_wk_y (mi_wk_y mi_wk_0))))))) ?_
  exact S_J1_indexOfChar_4cfef_7 hL mi_fuel v0 v3 (mi_b v1) v2 hb0
theorem C_J1_indexOfChar_4cfef {Z : MiZ} (hL : XL Z) (a0 a1 a2 a3 : Int) (D : MiD) (h0 : (0 ≤ a0 ∧ a0 < 64)) (b : Int) (hb : B_J1_indexOfChar_4cfef D a0 a1 a2 a3 = some b) : MC m_J1_indexOfChar_4cfef [(33, a0), (0, a1), (0, a2), (0, a3)] (D, Z) ((mi_LI 0 (D, Z)) b) := MC.ofSg (L := (mi_LI 0 (D, Z))) (μ := m_J1_indexOfChar_4cfef) (args := [(33, a0), (0, a1), (0, a2), (0, a3)]) (M := (D, Z)) rfl wP_J1 (Nat.le_of_ble_eq_true rfl) (show Sg m_J1_indexOfChar_4cfef 0 [(33, a0), (0, a1), (0, a2), (0, a3), mi_un, mi_un] [] (D, Z) (mi_LI 0 (D, Z)) (B_J1_indexOfChar_4cfef D a0 a1 a2 a3) from S_J1_indexOfChar_4cfef hL a0 a1 a2 a3 h0) hb
abbrev m_J2_length_9d52b : MiI := (yJ2_length_9d52b, cJ2_length_9d52b, 1, (some .int), 1, none)
def B_J2_length_9d52b (D : MiD) (v0 : Int) : Option (Int) := some (mi_shr (mi_sl v0) 1)
set_option maxRecDepth 20000 in
theorem S_J2_length_9d52b {D : MiD} {Z : MiZ} (hL : XL Z) (v0 : Int) : (0 ≤ v0 ∧ v0 < 64) → Sg m_J2_length_9d52b 0 [(33, v0)] [] (D, Z) (mi_LI 0 (D, Z)) (B_J2_length_9d52b D v0) := by
  intro hb0
  unfold B_J2_length_9d52b
  refine Sg.go (pc' := 1) (mi_aload_n dJ2_length_9d52b_0 rfl) ?_
  refine Sg.go (pc' := 2) (mi_slen dJ2_length_9d52b_1 (by omega)) ?_
  refine Sg.go (pc' := 3) (mi_iconst (z := 1) dJ2_length_9d52b_2 rfl) ?_
  refine Sg.go (pc' := 4) (mi_ishr dJ2_length_9d52b_3) ?_
  exact Sg.ret (mi_ireturn dJ2_length_9d52b_4 rfl (Or.inl rfl))
theorem C_J2_length_9d52b {Z : MiZ} (hL : XL Z) (a0 : Int) (D : MiD) (h0 : (0 ≤ a0 ∧ a0 < 64)) (b : Int) (hb : B_J2_length_9d52b D a0 = some b) : MC m_J2_length_9d52b [(33, a0)] (D, Z) ((mi_LI 0 (D, Z)) b) := MC.ofSg (L := (mi_LI 0 (D, Z))) (μ := m_J2_length_9d52b) (args := [(33, a0)]) (M := (D, Z)) rfl wP_J2 (Nat.le_of_ble_eq_true rfl) (show Sg m_J2_length_9d52b 0 [(33, a0)] [] (D, Z) (mi_LI 0 (D, Z)) (B_J2_length_9d52b D a0) from S_J2_length_9d52b hL a0 h0) hb
abbrev m_J6_bitCount_0f7a4 : MiI := (yJ6_bitCount_0f7a4, cJ6_bitCount_0f7a4, 1, (some .int), 1, none)
def B_J6_bitCount_0f7a4 (v0 : Int) : Int := (mi_and (mi_w ((mi_w ((mi_and (mi_w ((mi_w ((mi_and (mi_w (v0 - (mi_and (mi_ushr v0 1) 1431655765))) 858993459) + (mi_and (mi_ushr (mi_w (v0 - (mi_and (mi_ushr v0 1) 1431655765))) 2) 858993459))) + (mi_ushr (mi_w ((mi_and (mi_w (v0 - (mi_and (mi_ushr v0 1) 1431655765))) 858993459) + (mi_and (mi_ushr (mi_w (v0 - (mi_and (mi_ushr v0 1) 1431655765))) 2) 858993459))) 4))) 252645135) + (mi_ushr (mi_and (mi_w ((mi_w ((mi_and (mi_w (v0 - (mi_and (mi_ushr v0 1) 1431655765))) 858993459) + (mi_and (mi_ushr (mi_w (v0 - (mi_and (mi_ushr v0 1) 1431655765))) 2) 858993459))) + (mi_ushr (mi_w ((mi_and (mi_w (v0 - (mi_and (mi_ushr v0 1) 1431655765))) 858993459) + (mi_and (mi_ushr (mi_w (v0 - (mi_and (mi_ushr v0 1) 1431655765))) 2) 858993459))) 4))) 252645135) 8))) + (mi_ushr (mi_w ((mi_and (mi_w ((mi_w ((mi_and (mi_w (v0 - (mi_and (mi_ushr v0 1) 1431655765))) 858993459) + (mi_and (mi_ushr (mi_w (v0 - (mi_and (mi_ushr v0 1) 1431655765))) 2) 858993459))) + (mi_ushr (mi_w ((mi_and (mi_w (v0 - (mi_and (mi_ushr v0 1) 1431655765))) 858993459) + (mi_and (mi_ushr (mi_w (v0 - (mi_and (mi_ushr v0 1) 1431655765))) 2) 858993459))) 4))) 252645135) + (mi_ushr (mi_and (mi_w ((mi_w ((mi_and (mi_w (v0 - (mi_and (mi_ushr v0 1) 1431655765))) 858993459) + (mi_and (mi_ushr (mi_w (v0 - (mi_and (mi_ushr v0 1) 1431655765))) 2) 858993459))) + (mi_ushr (mi_w ((mi_and (mi_w (v0 - (mi_and (mi_ushr v0 1) 1431655765))) 858993459) + (mi_and (mi_ushr (mi_w (v0 - (mi_and (mi_ushr v0 1) 1431655765))) 2) 858993459))) 4))) 252645135) 8))) 16))) 63)
set_option maxRecDepth 20000 in
theorem S_J6_bitCount_0f7a4 {D : MiD} {Z : MiZ} (hL : XL Z) (v0 : Int) : Sg m_J6_bitCount_0f7a4 0 [(0, v0)] [] (D, Z) (mi_LI 0 (D, Z)) (some (B_J6_bitCount_0f7a4 v0)) := by
  unfold B_J6_bitCount_0f7a4
  refine Sg.go (pc' := 1) (mi_iload_n dJ6_bitCount_0f7a4_0 rfl) ?_
  refine Sg.go (pc' := 2) (mi_iload_n dJ6_bitCount_0f7a4_1 rfl) ?_
  refine Sg.go (pc' := 3) (mi_iconst (z := 1) dJ6_bitCount_0f7a4_2 rfl) ?_
  refine Sg.go (pc' := 4) (mi_iushr dJ6_bitCount_0f7a4_3) ?_
  refine Sg.go (pc' := 7) (mi_ldcw (z := 1431655765) dJ6_bitCount_0f7a4_4 wK_J6_265 rfl) ?_
  refine Sg.go (pc' := 8) (mi_iand dJ6_bitCount_0f7a4_7) ?_
  refine Sg.go (pc' := 9) (mi_isub dJ6_bitCount_0f7a4_8) ?_
  refine Sg.go (pc' := 10) (mi_istore_n (ls1 := [(0, (mi_w (v0 - (mi_and (mi_ushr v0 1) 1431655765))))]) dJ6_bitCount_0f7a4_9 (by decide) rfl) ?_
  refine Sg.go (pc' := 11) (mi_iload_n dJ6_bitCount_0f7a4_10 rfl) ?_
  refine Sg.go (pc' := 14) (mi_ldcw (z := 858993459) dJ6_bitCount_0f7a4_11 wK_J6_266 rfl) ?_
  refine Sg.go (pc' := 15) (mi_iand dJ6_bitCount_0f7a4_14) ?_
  refine Sg.go (pc' := 16) (mi_iload_n dJ6_bitCount_0f7a4_15 rfl) ?_
  refine Sg.go (pc' := 17) (mi_iconst (z := 2) dJ6_bitCount_0f7a4_16 rfl) ?_
  refine Sg.go (pc' := 18) (mi_iushr dJ6_bitCount_0f7a4_17) ?_
  refine Sg.go (pc' := 21) (mi_ldcw (z := 858993459) dJ6_bitCount_0f7a4_18 wK_J6_266 rfl) ?_
  refine Sg.go (pc' := 22) (mi_iand dJ6_bitCount_0f7a4_21) ?_
  refine Sg.go (pc' := 23) (mi_iadd dJ6_bitCount_0f7a4_22) ?_
  refine Sg.go (pc' := 24) (mi_istore_n (ls1 := [(0, (mi_w ((mi_and (mi_w (v0 - (mi_and (mi_ushr v0 1) 1431655765))) 858993459) + (mi_and (mi_ushr (mi_w (v0 - (mi_and (mi_ushr v0 1) 1431655765))) 2) 858993459))))]) dJ6_bitCount_0f7a4_23 (by decide) rfl) ?_
  refine Sg.go (pc' := 25) (mi_iload_n dJ6_bitCount_0f7a4_24 rfl) ?_
  refine Sg.go (pc' := 26) (mi_iload_n dJ6_bitCount_0f7a4_25 rfl) ?_
  refine Sg.go (pc' := 27) (mi_iconst (z := 4) dJ6_bitCount_0f7a4_26 rfl) ?_
  refine Sg.go (pc' := 28) (mi_iushr dJ6_bitCount_0f7a4_27) ?_
  refine Sg.go (pc' := 29) (mi_iadd dJ6_bitCount_0f7a4_28) ?_
  refine Sg.go (pc' := 32) (mi_ldcw (z := 252645135) dJ6_bitCount_0f7a4_29 wK_J6_267 rfl) ?_
  refine Sg.go (pc' := 33) (mi_iand dJ6_bitCount_0f7a4_32) ?_
  refine Sg.go (pc' := 34) (mi_istore_n (ls1 := [(0, (mi_and (mi_w ((mi_w ((mi_and (mi_w (v0 - (mi_and (mi_ushr v0 1) 1431655765))) 858993459) + (mi_and (mi_ushr (mi_w (v0 - (mi_and (mi_ushr v0 1) 1431655765))) 2) 858993459))) + (mi_ushr (mi_w ((mi_and (mi_w (v0 - (mi_and (mi_ushr v0 1) 1431655765))) 858993459) + (mi_and (mi_ushr (mi_w (v0 - (mi_and (mi_ushr v0 1) 1431655765))) 2) 858993459))) 4))) 252645135))]) dJ6_bitCount_0f7a4_33 (by decide) rfl) ?_
  refine Sg.go (pc' := 35) (mi_iload_n dJ6_bitCount_0f7a4_34 rfl) ?_
  refine Sg.go (pc' := 36) (mi_iload_n dJ6_bitCount_0f7a4_35 rfl) ?_
  refine Sg.go (pc' := 38) (mi_bipush (z := 8) dJ6_bitCount_0f7a4_36 rfl) ?_
  refine Sg.go (pc' := 39) (mi_iushr dJ6_bitCount_0f7a4_38) ?_
  refine Sg.go (pc' := 40) (mi_iadd dJ6_bitCount_0f7a4_39) ?_
  refine Sg.go (pc' := 41) (mi_istore_n (ls1 := [(0, (mi_w ((mi_and (mi_w ((mi_w ((mi_and (mi_w (v0 - (mi_and (mi_ushr v0 1) 1431655765))) 858993459) + (mi_and (mi_ushr (mi_w (v0 - (mi_and (mi_ushr v0 1) 1431655765))) 2) 858993459))) + (mi_ushr (mi_w ((mi_and (mi_w (v0 - (mi_and (mi_ushr v0 1) 1431655765))) 858993459) + (mi_and (mi_ushr (mi_w (v0 - (mi_and (mi_ushr v0 1) 1431655765))) 2) 858993459))) 4))) 252645135) + (mi_ushr (mi_and (mi_w ((mi_w ((mi_and (mi_w (v0 - (mi_and (mi_ushr v0 1) 1431655765))) 858993459) + (mi_and (mi_ushr (mi_w (v0 - (mi_and (mi_ushr v0 1) 1431655765))) 2) 858993459))) + (mi_ushr (mi_w ((mi_and (mi_w (v0 - (mi_and (mi_ushr v0 1) 1431655765))) 858993459) + (mi_and (mi_ushr (mi_w (v0 - (mi_and (mi_ushr v0 1) 1431655765))) 2) 858993459))) 4))) 252645135) 8))))]) dJ6_bitCount_0f7a4_40 (by decide) rfl) ?_
  refine Sg.go (pc' := 42) (mi_iload_n dJ6_bitCount_0f7a4_41 rfl) ?_
  refine Sg.go (pc' := 43) (mi_iload_n dJ6_bitCount_0f7a4_42 rfl) ?_
  refine Sg.go (pc' := 45) (mi_bipush (z := 16) dJ6_bitCount_0f7a4_43 rfl) ?_
  refine Sg.go (pc' := 46) (mi_iushr dJ6_bitCount_0f7a4_45) ?_
  refine Sg.go (pc' := 47) (mi_iadd dJ6_bitCount_0f7a4_46) ?_
  refine Sg.go (pc' := 48) (mi_istore_n (ls1 := [(0, (mi_w ((mi_w ((mi_and (mi_w ((mi_w ((mi_and (mi_w (v0 - (mi_and (mi_ushr v0 1) 1431655765))) 858993459) + (mi_and (mi_ushr (mi_w (v0 - (mi_and (mi_ushr v0 1) 1431655765))) 2) 858993459))) + (mi_ushr (mi_w ((mi_and (mi_w (v0 - (mi_and (mi_ushr v0 1) 1431655765))) 858993459) + (mi_and (mi_ushr (mi_w (v0 - (mi_and (mi_ushr v0 1) 1431655765))) 2) 858993459))) 4))) 252645135) + (mi_ushr (mi_and (mi_w ((mi_w ((mi_and (mi_w (v0 - (mi_and (mi_ushr v0 1) 1431655765))) 858993459) + (mi_and (mi_ushr (mi_w (v0 - (mi_and (mi_ushr v0 1) 1431655765))) 2) 858993459))) + (mi_ushr (mi_w ((mi_and (mi_w (v0 - (mi_and (mi_ushr v0 1) 1431655765))) 858993459) + (mi_and (mi_ushr (mi_w (v0 - (mi_and (mi_ushr v0 1) 1431655765))) 2) 858993459))) 4))) 252645135) 8))) + (mi_ushr (mi_w ((mi_and (mi_w ((mi_w ((mi_and (mi_w (v0 - (mi_and (mi_ushr v0 1) 1431655765))) 858993459) + (mi_and (mi_ushr (mi_w (v0 - (mi_and (mi_ushr v0 1) 1431655765))) 2) 858993459))) + (mi_ushr (mi_w ((mi_and (mi_w (v0 - (mi_and (mi_ushr v0 1) 1431655765))) 858993459) + (mi_and (mi_ushr (mi_w (v0 - (mi_and (mi_ushr v0 1) 1431655765))) 2) 858993459))) 4))) 252645135) + (mi_ushr (mi_and (mi_w ((mi_w ((mi_and (mi_w (v0 - (mi_and (mi_ushr v0 1) 1431655765))) 858993459) + (mi_and (mi_ushr (mi_w (v0 - (mi_and (mi_ushr v0 1) 1431655765))) 2) 858993459))) + (mi_ushr (mi_w ((mi_and (mi_w (v0 - (mi_and (mi_ushr v0 1) 1431655765))) 858993459) + (mi_and (mi_ushr (mi_w (v0 - (mi_and (mi_ushr v0 1) 1431655765))) 2) 858993459))) 4))) 252645135) 8))) 16))))]) dJ6_bitCount_0f7a4_47 (by decide) rfl) ?_
  refine Sg.go (pc' := 49) (mi_iload_n dJ6_bitCount_0f7a4_48 rfl) ?_
  refine Sg.go (pc' := 51) (mi_bipush (z := 63) dJ6_bitCount_0f7a4_49 rfl) ?_
  refine Sg.go (pc' := 52) (mi_iand dJ6_bitCount_0f7a4_51) ?_
  exact Sg.ret (mi_ireturn dJ6_bitCount_0f7a4_52 rfl (Or.inl rfl))
theorem C_J6_bitCount_0f7a4 {Z : MiZ} (hL : XL Z) (a0 : Int) (D : MiD) : MC m_J6_bitCount_0f7a4 [(0, a0)] (D, Z) (mi_LI 0 (D, Z) (B_J6_bitCount_0f7a4 a0)) := MC.ofSg (L := (mi_LI 0 (D, Z))) (μ := m_J6_bitCount_0f7a4) (args := [(0, a0)]) (M := (D, Z)) rfl wP_J6 (Nat.le_of_ble_eq_true rfl) (show Sg m_J6_bitCount_0f7a4 0 [(0, a0)] [] (D, Z) (mi_LI 0 (D, Z)) (some (B_J6_bitCount_0f7a4 a0)) from S_J6_bitCount_0f7a4 hL a0) rfl
abbrev m_X10_append : MiI := (yX10_append, cX10_append, 3, none, 1, none)
def B_X10_append_3 : Nat → Int → Int → MiD → Option (MiD)
  | 0, _, _, _ => none
  | f + 1, v1, v2, D => if v2 < 0 then (some D) else (if 500 ≤ (D 1 0 1) then (some D) else (if 0 ≤ (D 1 0 1) ∧ (D 1 0 1) < 500 then (mi_let (mi_st D 10 0 (D 1 0 1) (mi_b (mi_b (mi_shr v1 v2)))) fun D4 => mi_let (mi_st D4 1 0 1 (mi_w ((D4 1 0 1) + 1))) fun D5 => B_X10_append_3 f v1 (mi_w (v2 + (-8))) D5) else none))
set_option maxRecDepth 20000 in
theorem S_X10_append_3 {Z : MiZ} (hL : CL Z) : ∀ (f : Nat) (v1 v2 : Int) (D : MiD), Sg m_X10_append 3 [(3, 0), (0, v1), (0, v2)] [] (D, Z) (mi_LV Z) (B_X10_append_3 f v1 v2 D) := by
  intro f
  induction f with
  | zero => intros; exact Sg.nope
  | succ f K3 =>
    intro v1 v2 D
    show Sg m_X10_append 3 [(3, 0), (0, v1), (0, v2)] [] (D, Z) (mi_LV Z) (if v2 < 0 then (some D) else (if 500 ≤ (D 1 0 1) then (some D) else (if 0 ≤ (D 1 0 1) ∧ (D 1 0 1) < 500 then (mi_let (mi_st D 10 0 (D 1 0 1) (mi_b (mi_b (mi_shr v1 v2)))) fun D4 => mi_let (mi_st D4 1 0 1 (mi_w ((D4 1 0 1) + 1))) fun D5 => B_X10_append_3 f v1 (mi_w (v2 + (-8))) D5) else none)))
    refine Sg.go (pc' := 4) (mi_iload_n dX10_append_3 rfl) ?_
    refine Sg.ite (fun h1 => ?_) (fun h1 => ?_)
    · refine Sg.go (pc' := 46) (mi_iflt_t (tgt := 46) dX10_append_4 (by decide) h1) ?_
      exact Sg.ret (mi_return dX10_append_46 rfl (0, 0))
    · refine Sg.go (pc' := 7) (mi_iflt_f (tgt := 46) dX10_append_4 (by decide) h1) ?_
      refine Sg.go (pc' := 8) (mi_aload_n dX10_append_7 rfl) ?_
      refine Sg.go (pc' := 11) (mi_gfI (r := 1) (k := 1) dX10_append_8 hC_1 (by decide) rfl wF_X10_27 (by omega) rfl) ?_
      refine Sg.go (pc' := 14) (mi_sipush (z := 500) dX10_append_11 rfl) ?_
      refine Sg.ite (fun h2 => ?_) (fun h2 => ?_)
      · refine Sg.go (pc' := 46) (mi_icmpge_t (tgt := 46) dX10_append_14 (by decide) h2) ?_
        exact Sg.ret (mi_return dX10_append_46 rfl (0, 0))
      · refine Sg.go (pc' := 17) (mi_icmpge_f (tgt := 46) dX10_append_14 (by decide) h2) ?_
        refine Sg.go (pc' := 18) (mi_aload_n dX10_append_17 rfl) ?_
        refine Sg.go (pc' := 21) (mi_gfA (t := 10) (v := 0) (r := 1) (k := 0) dX10_append_18 hC_1 (by decide) rfl wF_X10_9 (by omega) rfl hL.1.1) ?_
        refine Sg.go (pc' := 22) (mi_aload_n dX10_append_21 rfl) ?_
        refine Sg.go (pc' := 25) (mi_gfI (r := 1) (k := 1) dX10_append_22 hC_1 (by decide) rfl wF_X10_27 (by omega) rfl) ?_
        refine Sg.go (pc' := 26) (mi_iload_n dX10_append_25 rfl) ?_
        refine Sg.go (pc' := 27) (mi_iload_n dX10_append_26 rfl) ?_
        refine Sg.go (pc' := 28) (mi_ishr dX10_append_27) ?_
        refine Sg.go (pc' := 29) (mi_i2b dX10_append_28) ?_
        refine Sg.ck (fun hk3 => ?_)
        refine Sg.goM (pc' := 30) (mi_bast (n := 500) dX10_append_29 rfl rfl (by omega) hk3) ?_
        refine Sg.letD (fun D4 hD4 => ?_)
        refine Sg.go (pc' := 31) (mi_aload_n dX10_append_30 rfl) ?_
        refine Sg.go (pc' := 32) (mi_dup dX10_append_31 (show (3 : Nat) ≠ 1 by decide)) ?_
        refine Sg.go (pc' := 35) (mi_gfI (r := 1) (k := 1) dX10_append_32 hC_1 (by decide) rfl wF_X10_27 (by omega) rfl) ?_
        refine Sg.go (pc' := 36) (mi_iconst (z := 1) dX10_append_35 rfl) ?_
        refine Sg.go (pc' := 37) (mi_iadd dX10_append_36) ?_
        refine Sg.goM (pc' := 40) (mi_pfD (r := 1) (k := 1) (t := 0) dX10_append_37 hC_1 (by decide) rfl rfl wF_X10_27 (by omega) rfl (by decide) (Or.inl ⟨rfl, rfl⟩)) ?_
        refine Sg.letD (fun D5 hD5 => ?_)
        refine Sg.go (pc' := 43) (mi_iinc (z := (-8)) (ls1 := [(3, 0), (0, v1), (0, (mi_w (v2 + (-8))))]) dX10_append_40 (by decide) rfl rfl rfl) ?_
        refine Sg.go (pc' := 3) (mi_goto (tgt := 3) dX10_append_43 (by decide)) ?_
        exact K3 v1 (mi_w (v2 + (-8))) D5
def B_X10_append (v1 : Int) (D : MiD) : Option (MiD) := B_X10_append_3 mi_fuel v1 24 D
set_option maxRecDepth 20000 in
theorem S_X10_append {Z : MiZ} (hL : CL Z) (v1 : Int) (D : MiD) : Sg m_X10_append 0 [(3, 0), (0, v1), mi_un] [] (D, Z) (mi_LV Z) (B_X10_append v1 D) := by
  unfold B_X10_append
  refine Sg.go (pc' := 2) (mi_bipush (z := 24) dX10_append_0 rfl) ?_
  refine Sg.go (pc' := 3) (mi_istore_n (ls1 := [(3, 0), (0, v1), (0, 24)]) dX10_append_2 (by decide) rfl) ?_
  exact S_X10_append_3 hL mi_fuel v1 24 D
theorem C_X10_append {Z : MiZ} (hL : CL Z) (a1 : Int) (D : MiD) (b : MiD) (hb : B_X10_append a1 D = some b) : MC m_X10_append [(3, 0), (0, a1)] (D, Z) ((mi_LV Z) b) := MC.ofSg (L := (mi_LV Z)) (μ := m_X10_append) (args := [(3, 0), (0, a1)]) (M := (D, Z)) rfl wP_X10 (Nat.le_of_ble_eq_true rfl) (show Sg m_X10_append 0 [(3, 0), (0, a1), mi_un] [] (D, Z) (mi_LV Z) (B_X10_append a1 D) from S_X10_append hL a1 D) hb
abbrev m_X10_cut : MiI := (yX10_cut, cX10_cut, 2, (some .long), 1, none)
def B_X10_cut (v0 : Int) (v1 : Int) : Int := if v0 = 0 then (if v1 = 0 then 0 else 1) else (if v0 = 1 then (mi_b v1) else (if v0 = 2 then (mi_c v1) else (if v0 = 3 then (mi_s v1) else v1)))
set_option maxRecDepth 20000 in
theorem S_X10_cut {D : MiD} {Z : MiZ} (hL : CL Z) (v0 v1 : Int) : Sg m_X10_cut 0 [(0, v0), (0, v1)] [] (D, Z) (mi_LI 1 (D, Z)) (some (B_X10_cut v0 v1)) := by
  unfold B_X10_cut
  refine Sg.go (pc' := 1) (mi_iload_n dX10_cut_0 rfl) ?_
  refine Sg.iteS (fun h2 => ?_) (fun h2 => ?_)
  · refine Sg.go (pc' := 32) (mi_tabIn (tgt := 32) dX10_cut_1 (by omega) (by omega) (by rw [h2]; rfl) (by decide)) ?_
    refine Sg.go (pc' := 33) (mi_iload_n dX10_cut_32 rfl) ?_
    refine Sg.iteS (fun h3 => ?_) (fun h3 => ?_)
    · refine Sg.go (pc' := 40) (mi_ifeq_t (tgt := 40) dX10_cut_33 (by decide) h3) ?_
      refine Sg.go (pc' := 41) (mi_lconst (z := 0) dX10_cut_40 rfl) ?_
      exact Sg.ret (mi_lreturn dX10_cut_41 rfl)
    · refine Sg.go (pc' := 36) (mi_ifeq_f (tgt := 40) dX10_cut_33 (by decide) h3) ?_
      refine Sg.go (pc' := 37) (mi_lconst (z := 1) dX10_cut_36 rfl) ?_
      refine Sg.go (pc' := 41) (mi_goto (tgt := 41) dX10_cut_37 (by decide)) ?_
      exact Sg.ret (mi_lreturn dX10_cut_41 rfl)
  · refine Sg.iteS (fun h4 => ?_) (fun h4 => ?_)
    · refine Sg.go (pc' := 42) (mi_tabIn (tgt := 42) dX10_cut_1 (by omega) (by omega) (by rw [h4]; rfl) (by decide)) ?_
      refine Sg.go (pc' := 43) (mi_iload_n dX10_cut_42 rfl) ?_
      refine Sg.go (pc' := 44) (mi_i2b dX10_cut_43) ?_
      refine Sg.go (pc' := 45) (mi_i2l dX10_cut_44) ?_
      exact Sg.ret (mi_lreturn dX10_cut_45 rfl)
    · refine Sg.iteS (fun h5 => ?_) (fun h5 => ?_)
      · refine Sg.go (pc' := 46) (mi_tabIn (tgt := 46) dX10_cut_1 (by omega) (by omega) (by rw [h5]; rfl) (by decide)) ?_
        refine Sg.go (pc' := 47) (mi_iload_n dX10_cut_46 rfl) ?_
        refine Sg.go (pc' := 48) (mi_i2c dX10_cut_47) ?_
        refine Sg.go (pc' := 49) (mi_i2l dX10_cut_48) ?_
        exact Sg.ret (mi_lreturn dX10_cut_49 rfl)
      · refine Sg.iteS (fun h6 => ?_) (fun h6 => ?_)
        · refine Sg.go (pc' := 50) (mi_tabIn (tgt := 50) dX10_cut_1 (by omega) (by omega) (by rw [h6]; rfl) (by decide)) ?_
          refine Sg.go (pc' := 51) (mi_iload_n dX10_cut_50 rfl) ?_
          refine Sg.go (pc' := 52) (mi_i2s dX10_cut_51) ?_
          refine Sg.go (pc' := 53) (mi_i2l dX10_cut_52) ?_
          exact Sg.ret (mi_lreturn dX10_cut_53 rfl)
        · refine Sg.go (pc' := 54) (mi_tabOut (tgt := 54) dX10_cut_1 (by omega) (by decide)) ?_
          refine Sg.go (pc' := 55) (mi_iload_n dX10_cut_54 rfl) ?_
          refine Sg.go (pc' := 56) (mi_i2l dX10_cut_55) ?_
          exact Sg.ret (mi_lreturn dX10_cut_56 rfl)
theorem C_X10_cut {Z : MiZ} (hL : CL Z) (a0 a1 : Int) (D : MiD) : MC m_X10_cut [(0, a0), (0, a1)] (D, Z) (mi_LI 1 (D, Z) (B_X10_cut a0 a1)) := MC.ofSg (L := (mi_LI 1 (D, Z))) (μ := m_X10_cut) (args := [(0, a0), (0, a1)]) (M := (D, Z)) rfl wP_X10 (Nat.le_of_ble_eq_true rfl) (show Sg m_X10_cut 0 [(0, a0), (0, a1)] [] (D, Z) (mi_LI 1 (D, Z)) (some (B_X10_cut a0 a1)) from S_X10_cut hL a0 a1) rfl
abbrev m_X10_deepest : MiI := (yX10_deepest, cX10_deepest, 4, (some .int), 1, none)
def B_X10_deepest_6 (D : MiD) : Nat → Int → Int → Int → Option (Int)
  | 0, _, _, _ => none
  | f + 1, v1, v2, v3 => if 6 ≤ v3 then (some v2) else (if 0 ≤ v3 ∧ v3 < 6 then (if (D 4 (6 * 0 + v3) 4) ≤ v1 then (B_X10_deepest_6 D f v1 v2 (mi_w (v3 + 1))) else (mi_let (D 4 (6 * 0 + v3) 4) fun x4 => B_X10_deepest_6 D f x4 v3 (mi_w (v3 + 1)))) else none)
set_option maxRecDepth 20000 in
theorem S_X10_deepest_6 {D : MiD} {Z : MiZ} (hL : CL Z) : ∀ (f : Nat) (v1 v2 v3 : Int), Sg m_X10_deepest 6 [(3, 0), (0, v1), (0, v2), (0, v3)] [] (D, Z) (mi_LI 0 (D, Z)) (B_X10_deepest_6 D f v1 v2 v3) := by
  intro f
  induction f with
  | zero => intros; exact Sg.nope
  | succ f K6 =>
    intro v1 v2 v3
    show Sg m_X10_deepest 6 [(3, 0), (0, v1), (0, v2), (0, v3)] [] (D, Z) (mi_LI 0 (D, Z)) (if 6 ≤ v3 then (some v2) else (if 0 ≤ v3 ∧ v3 < 6 then (if (D 4 (6 * 0 + v3) 4) ≤ v1 then (B_X10_deepest_6 D f v1 v2 (mi_w (v3 + 1))) else (mi_let (D 4 (6 * 0 + v3) 4) fun x4 => B_X10_deepest_6 D f x4 v3 (mi_w (v3 + 1)))) else none))
    refine Sg.go (pc' := 7) (mi_iload_n dX10_deepest_6 rfl) ?_
    refine Sg.go (pc' := 9) (mi_bipush (z := 6) dX10_deepest_7 rfl) ?_
    refine Sg.ite (fun h1 => ?_) (fun h1 => ?_)
    · refine Sg.go (pc' := 49) (mi_icmpge_t (tgt := 49) dX10_deepest_9 (by decide) h1) ?_
      refine Sg.go (pc' := 50) (mi_iload_n dX10_deepest_49 rfl) ?_
      exact Sg.ret (mi_ireturn dX10_deepest_50 rfl (Or.inl rfl))
    · refine Sg.go (pc' := 12) (mi_icmpge_f (tgt := 49) dX10_deepest_9 (by decide) h1) ?_
      refine Sg.go (pc' := 13) (mi_aload_n dX10_deepest_12 rfl) ?_
      refine Sg.go (pc' := 16) (mi_gfA (t := 2) (v := 0) (r := 1) (k := 4) dX10_deepest_13 hC_1 (by decide) rfl wF_X10_20 (by omega) rfl hL.1.2.1) ?_
      refine Sg.go (pc' := 19) (mi_gfA (t := 14) (v := 0) (r := 2) (k := 3) dX10_deepest_16 hC_2 (by decide) rfl wF_X10_103 (by omega) rfl (hL.2.1 _ 3 (by omega) (by omega) (by decide))) ?_
      refine Sg.go (pc' := 20) (mi_iload_n dX10_deepest_19 rfl) ?_
      refine Sg.ck (fun hk2 => ?_)
      refine Sg.go (pc' := 21) (mi_aald (n := 6) (t := 4) (v := (6 * 0 + v3)) dX10_deepest_20 rfl hA_14 rfl (by omega) hk2 rfl (hL.2.2.2.2.2.2.2 _ _ (by omega) (by omega) hk2.1 hk2.2)) ?_
      refine Sg.go (pc' := 24) (mi_gfI (r := 4) (k := 4) dX10_deepest_21 hC_4 (by decide) rfl wF_X10_107 (by omega) rfl) ?_
      refine Sg.go (pc' := 25) (mi_iload_n dX10_deepest_24 rfl) ?_
      refine Sg.ite (fun h3 => ?_) (fun h3 => ?_)
      · refine Sg.go (pc' := 43) (mi_icmple_t (tgt := 43) dX10_deepest_25 (by decide) h3) ?_
        refine Sg.go (pc' := 46) (mi_iinc (z := 1) (ls1 := [(3, 0), (0, v1), (0, v2), (0, (mi_w (v3 + 1)))]) dX10_deepest_43 (by decide) rfl rfl rfl) ?_
        refine Sg.go (pc' := 6) (mi_goto (tgt := 6) dX10_deepest_46 (by decide)) ?_
        exact K6 v1 v2 (mi_w (v3 + 1))
      · refine Sg.go (pc' := 28) (mi_icmple_f (tgt := 43) dX10_deepest_25 (by decide) h3) ?_
        refine Sg.go (pc' := 29) (mi_aload_n dX10_deepest_28 rfl) ?_
        refine Sg.go (pc' := 32) (mi_gfA (t := 2) (v := 0) (r := 1) (k := 4) dX10_deepest_29 hC_1 (by decide) rfl wF_X10_20 (by omega) rfl hL.1.2.1) ?_
        refine Sg.go (pc' := 35) (mi_gfA (t := 14) (v := 0) (r := 2) (k := 3) dX10_deepest_32 hC_2 (by decide) rfl wF_X10_103 (by omega) rfl (hL.2.1 _ 3 (by omega) (by omega) (by decide))) ?_
        refine Sg.go (pc' := 36) (mi_iload_n dX10_deepest_35 rfl) ?_
        refine Sg.go (pc' := 37) (mi_aald (n := 6) (t := 4) (v := (6 * 0 + v3)) dX10_deepest_36 rfl hA_14 rfl (by omega) hk2 rfl (hL.2.2.2.2.2.2.2 _ _ (by omega) (by omega) hk2.1 hk2.2)) ?_
        refine Sg.go (pc' := 40) (mi_gfI (r := 4) (k := 4) dX10_deepest_37 hC_4 (by decide) rfl wF_X10_107 (by omega) rfl) ?_
        refine Sg.letI (fun x4 hx4 => ?_)
        refine Sg.go (pc' := 41) (mi_istore_n (ls1 := [(3, 0), (0, x4), (0, v2), (0, v3)]) dX10_deepest_40 (by decide) rfl) ?_
        refine Sg.go (pc' := 42) (mi_iload_n dX10_deepest_41 rfl) ?_
        refine Sg.go (pc' := 43) (mi_istore_n (ls1 := [(3, 0), (0, x4), (0, v3), (0, v3)]) dX10_deepest_42 (by decide) rfl) ?_
        refine Sg.go (pc' := 46) (mi_iinc (z := 1) (ls1 := [(3, 0), (0, x4), (0, v3), (0, (mi_w (v3 + 1)))]) dX10_deepest_43 (by decide) rfl rfl rfl) ?_
        refine Sg.go (pc' := 6) (mi_goto (tgt := 6) dX10_deepest_46 (by decide)) ?_
        exact K6 x4 v3 (mi_w (v3 + 1))
def B_X10_deepest (D : MiD) : Option (Int) := B_X10_deepest_6 D mi_fuel 0 (-1) 0
set_option maxRecDepth 20000 in
theorem S_X10_deepest {D : MiD} {Z : MiZ} (hL : CL Z) : Sg m_X10_deepest 0 [(3, 0), mi_un, mi_un, mi_un] [] (D, Z) (mi_LI 0 (D, Z)) (B_X10_deepest D) := by
  unfold B_X10_deepest
  refine Sg.go (pc' := 1) (mi_iconst (z := 0) dX10_deepest_0 rfl) ?_
  refine Sg.go (pc' := 2) (mi_istore_n (ls1 := [(3, 0), (0, 0), mi_un, mi_un]) dX10_deepest_1 (by decide) rfl) ?_
  refine Sg.go (pc' := 3) (mi_iconst (z := (-1)) dX10_deepest_2 rfl) ?_
  refine Sg.go (pc' := 4) (mi_istore_n (ls1 := [(3, 0), (0, 0), (0, (-1)), mi_un]) dX10_deepest_3 (by decide) rfl) ?_
  refine Sg.go (pc' := 5) (mi_iconst (z := 0) dX10_deepest_4 rfl) ?_
  refine Sg.go (pc' := 6) (mi_istore_n (ls1 := [(3, 0), (0, 0), (0, (-1)), (0, 0)]) dX10_deepest_5 (by decide) rfl) ?_
  exact S_X10_deepest_6 hL mi_fuel 0 (-1) 0
theorem C_X10_deepest {Z : MiZ} (hL : CL Z) (D : MiD) (b : Int) (hb : B_X10_deepest D = some b) : MC m_X10_deepest [(3, 0)] (D, Z) ((mi_LI 0 (D, Z)) b) := MC.ofSg (L := (mi_LI 0 (D, Z))) (μ := m_X10_deepest) (args := [(3, 0)]) (M := (D, Z)) rfl wP_X10 (Nat.le_of_ble_eq_true rfl) (show Sg m_X10_deepest 0 [(3, 0), mi_un, mi_un, mi_un] [] (D, Z) (mi_LI 0 (D, Z)) (B_X10_deepest D) from S_X10_deepest hL) hb
abbrev m_X10_emptyTape : MiI := (yX10_emptyTape, cX10_emptyTape, 2, none, 1, none)
def B_X10_emptyTape (v1 : Int) (D : MiD) : Option (MiD) := mi_let (mi_st D 1 0 1 0) fun D1 => mi_let (mi_st D1 1 0 2 v1) fun D2 => some D2
set_option maxRecDepth 20000 in
theorem S_X10_emptyTape {Z : MiZ} (hL : CL Z) (v1 : Int) (D : MiD) : Sg m_X10_emptyTape 0 [(3, 0), (0, v1)] [] (D, Z) (mi_LV Z) (B_X10_emptyTape v1 D) := by
  unfold B_X10_emptyTape
  refine Sg.go (pc' := 1) (mi_aload_n dX10_emptyTape_0 rfl) ?_
  refine Sg.go (pc' := 2) (mi_iconst (z := 0) dX10_emptyTape_1 rfl) ?_
  refine Sg.goM (pc' := 5) (mi_pfD (r := 1) (k := 1) (t := 0) dX10_emptyTape_2 hC_1 (by decide) rfl rfl wF_X10_27 (by omega) rfl (by decide) (Or.inl ⟨rfl, rfl⟩)) ?_
  refine Sg.letD (fun D1 hD1 => ?_)
  refine Sg.go (pc' := 6) (mi_aload_n dX10_emptyTape_5 rfl) ?_
  refine Sg.go (pc' := 7) (mi_iload_n dX10_emptyTape_6 rfl) ?_
  refine Sg.goM (pc' := 10) (mi_pfD (r := 1) (k := 2) (t := 0) dX10_emptyTape_7 hC_1 (by decide) rfl rfl wF_X10_13 (by omega) rfl (by decide) (Or.inl ⟨rfl, rfl⟩)) ?_
  refine Sg.letD (fun D2 hD2 => ?_)
  exact Sg.ret (mi_return dX10_emptyTape_10 rfl (0, 0))
theorem C_X10_emptyTape {Z : MiZ} (hL : CL Z) (a1 : Int) (D : MiD) (b : MiD) (hb : B_X10_emptyTape a1 D = some b) : MC m_X10_emptyTape [(3, 0), (0, a1)] (D, Z) ((mi_LV Z) b) := MC.ofSg (L := (mi_LV Z)) (μ := m_X10_emptyTape) (args := [(3, 0), (0, a1)]) (M := (D, Z)) rfl wP_X10 (Nat.le_of_ble_eq_true rfl) (show Sg m_X10_emptyTape 0 [(3, 0), (0, a1)] [] (D, Z) (mi_LV Z) (B_X10_emptyTape a1 D) from S_X10_emptyTape hL a1 D) hb
abbrev m_X10_fault : MiI := (yX10_fault, cX10_fault, 1, (some .int), 1, none)
def B_X10_fault (D : MiD) : Option (Int) := some (D 1 0 2)
set_option maxRecDepth 20000 in
theorem S_X10_fault {D : MiD} {Z : MiZ} (hL : CL Z) : Sg m_X10_fault 0 [(3, 0)] [] (D, Z) (mi_LI 0 (D, Z)) (B_X10_fault D) := by
  unfold B_X10_fault
  refine Sg.go (pc' := 1) (mi_aload_n dX10_fault_0 rfl) ?_
  refine Sg.go (pc' := 4) (mi_gfI (r := 1) (k := 2) dX10_fault_1 hC_1 (by decide) rfl wF_X10_13 (by omega) rfl) ?_
  exact Sg.ret (mi_ireturn dX10_fault_4 rfl (Or.inl rfl))
theorem C_X10_fault {Z : MiZ} (hL : CL Z) (D : MiD) (b : Int) (hb : B_X10_fault D = some b) : MC m_X10_fault [(3, 0)] (D, Z) ((mi_LI 0 (D, Z)) b) := MC.ofSg (L := (mi_LI 0 (D, Z))) (μ := m_X10_fault) (args := [(3, 0)]) (M := (D, Z)) rfl wP_X10 (Nat.le_of_ble_eq_true rfl) (show Sg m_X10_fault 0 [(3, 0)] [] (D, Z) (mi_LI 0 (D, Z)) (B_X10_fault D) from S_X10_fault hL) hb
abbrev m_X10_fits : MiI := (yX10_fits, cX10_fits, 2, (some .boolean), 1, none)
def B_X10_fits (D : MiD) (v0 : Int) (v1 : Int) : Option (Int) := if v1 < 0 then (some 0) else (if 11 ≤ v1 then (some 0) else (if 0 ≤ v1 ∧ v1 < 11 then (if (mi_and (mi_shr (mi_ho v1) (mi_w (v0 + 1))) 1) ≠ 1 then (some 0) else (some 1)) else none))
set_option maxRecDepth 20000 in
theorem S_X10_fits {D : MiD} {Z : MiZ} (hL : CL Z) (v0 v1 : Int) : Sg m_X10_fits 0 [(0, v0), (0, v1)] [] (D, Z) (mi_LI 0 (D, Z)) (B_X10_fits D v0 v1) := by
  unfold B_X10_fits
  refine Sg.go (pc' := 1) (mi_iload_n dX10_fits_0 rfl) ?_
  refine Sg.ite (fun h1 => ?_) (fun h1 => ?_)
  · refine Sg.go (pc' := 29) (mi_iflt_t (tgt := 29) dX10_fits_1 (by decide) h1) ?_
    refine Sg.go (pc' := 30) (mi_iconst (z := 0) dX10_fits_29 rfl) ?_
    exact Sg.ret (mi_ireturn dX10_fits_30 rfl (Or.inr (Or.inl ⟨rfl, Or.inl rfl⟩)))
  · refine Sg.go (pc' := 4) (mi_iflt_f (tgt := 29) dX10_fits_1 (by decide) h1) ?_
    refine Sg.go (pc' := 5) (mi_iload_n dX10_fits_4 rfl) ?_
    refine Sg.go (pc' := 7) (mi_bipush (z := 11) dX10_fits_5 rfl) ?_
    refine Sg.ite (fun h2 => ?_) (fun h2 => ?_)
    · refine Sg.go (pc' := 29) (mi_icmpge_t (tgt := 29) dX10_fits_7 (by decide) h2) ?_
      refine Sg.go (pc' := 30) (mi_iconst (z := 0) dX10_fits_29 rfl) ?_
      exact Sg.ret (mi_ireturn dX10_fits_30 rfl (Or.inr (Or.inl ⟨rfl, Or.inl rfl⟩)))
    · refine Sg.go (pc' := 10) (mi_icmpge_f (tgt := 29) dX10_fits_7 (by decide) h2) ?_
      refine Sg.go (pc' := 13) (mi_gs (r := 28) (j := 0) (z := 0) dX10_fits_10 mi_zHo wF_X10_330 (by decide) rfl (by decide)) ?_
      refine Sg.go (pc' := 14) (mi_iload_n dX10_fits_13 rfl) ?_
      refine Sg.ck (fun hk3 => ?_)
      refine Sg.go (pc' := 15) (mi_hold dX10_fits_14 hk3) ?_
      refine Sg.go (pc' := 16) (mi_iload_n dX10_fits_15 rfl) ?_
      refine Sg.go (pc' := 17) (mi_iconst (z := 1) dX10_fits_16 rfl) ?_
      refine Sg.go (pc' := 18) (mi_iadd dX10_fits_17) ?_
      refine Sg.go (pc' := 19) (mi_ishr dX10_fits_18) ?_
      refine Sg.go (pc' := 20) (mi_iconst (z := 1) dX10_fits_19 rfl) ?_
      refine Sg.go (pc' := 21) (mi_iand dX10_fits_20) ?_
      refine Sg.go (pc' := 22) (mi_iconst (z := 1) dX10_fits_21 rfl) ?_
      refine Sg.ite (fun h4 => ?_) (fun h4 => ?_)
      · refine Sg.go (pc' := 29) (mi_icmpne_t (tgt := 29) dX10_fits_22 (by decide) h4) ?_
        refine Sg.go (pc' := 30) (mi_iconst (z := 0) dX10_fits_29 rfl) ?_
        exact Sg.ret (mi_ireturn dX10_fits_30 rfl (Or.inr (Or.inl ⟨rfl, Or.inl rfl⟩)))
      · refine Sg.go (pc' := 25) (mi_icmpne_f (tgt := 29) dX10_fits_22 (by decide) h4) ?_
        refine Sg.go (pc' := 26) (mi_iconst (z := 1) dX10_fits_25 rfl) ?_
        refine Sg.go (pc' := 30) (mi_goto (tgt := 30) dX10_fits_26 (by decide)) ?_
        exact Sg.ret (mi_ireturn dX10_fits_30 rfl (Or.inr (Or.inl ⟨rfl, Or.inr rfl⟩)))
theorem C_X10_fits {Z : MiZ} (hL : CL Z) (a0 a1 : Int) (D : MiD) (b : Int) (hb : B_X10_fits D a0 a1 = some b) : MC m_X10_fits [(0, a0), (0, a1)] (D, Z) ((mi_LI 0 (D, Z)) b) := MC.ofSg (L := (mi_LI 0 (D, Z))) (μ := m_X10_fits) (args := [(0, a0), (0, a1)]) (M := (D, Z)) rfl wP_X10 (Nat.le_of_ble_eq_true rfl) (show Sg m_X10_fits 0 [(0, a0), (0, a1)] [] (D, Z) (mi_LI 0 (D, Z)) (B_X10_fits D a0 a1) from S_X10_fits hL a0 a1) hb
abbrev m_X10_status : MiI := (yX10_status, cX10_status, 2, (some .int), 1, none)
def B_X10_status (D : MiD) (v1 : Int) : Option (Int) := if v1 = 0 then (some (D 1 0 6)) else (if v1 = 1 then (some (D 1 0 7)) else (if v1 = 2 then (some (D 1 0 8)) else (some (-1))))
set_option maxRecDepth 20000 in
theorem S_X10_status {D : MiD} {Z : MiZ} (hL : CL Z) (v1 : Int) : Sg m_X10_status 0 [(3, 0), (0, v1)] [] (D, Z) (mi_LI 0 (D, Z)) (B_X10_status D v1) := by
  unfold B_X10_status
  refine Sg.go (pc' := 1) (mi_iload_n dX10_status_0 rfl) ?_
  refine Sg.ite (fun h2 => ?_) (fun h2 => ?_)
  · refine Sg.go (pc' := 28) (mi_tabIn (tgt := 28) dX10_status_1 (by omega) (by omega) (by rw [h2]; rfl) (by decide)) ?_
    refine Sg.go (pc' := 29) (mi_aload_n dX10_status_28 rfl) ?_
    refine Sg.go (pc' := 32) (mi_gfI (r := 1) (k := 6) dX10_status_29 hC_1 (by decide) rfl wF_X10_304 (by omega) rfl) ?_
    exact Sg.ret (mi_ireturn dX10_status_32 rfl (Or.inl rfl))
  · refine Sg.ite (fun h3 => ?_) (fun h3 => ?_)
    · refine Sg.go (pc' := 33) (mi_tabIn (tgt := 33) dX10_status_1 (by omega) (by omega) (by rw [h3]; rfl) (by decide)) ?_
      refine Sg.go (pc' := 34) (mi_aload_n dX10_status_33 rfl) ?_
      refine Sg.go (pc' := 37) (mi_gfI (r := 1) (k := 7) dX10_status_34 hC_1 (by decide) rfl wF_X10_307 (by omega) rfl) ?_
      exact Sg.ret (mi_ireturn dX10_status_37 rfl (Or.inl rfl))
    · refine Sg.ite (fun h4 => ?_) (fun h4 => ?_)
      · refine Sg.go (pc' := 38) (mi_tabIn (tgt := 38) dX10_status_1 (by omega) (by omega) (by rw [h4]; rfl) (by decide)) ?_
        refine Sg.go (pc' := 39) (mi_aload_n dX10_status_38 rfl) ?_
        refine Sg.go (pc' := 42) (mi_gfI (r := 1) (k := 8) dX10_status_39 hC_1 (by decide) rfl wF_X10_310 (by omega) rfl) ?_
        exact Sg.ret (mi_ireturn dX10_status_42 rfl (Or.inl rfl))
      · refine Sg.go (pc' := 43) (mi_tabOut (tgt := 43) dX10_status_1 (by omega) (by decide)) ?_
        refine Sg.go (pc' := 44) (mi_iconst (z := (-1)) dX10_status_43 rfl) ?_
        exact Sg.ret (mi_ireturn dX10_status_44 rfl (Or.inl rfl))
theorem C_X10_status {Z : MiZ} (hL : CL Z) (a1 : Int) (D : MiD) (b : Int) (hb : B_X10_status D a1 = some b) : MC m_X10_status [(3, 0), (0, a1)] (D, Z) ((mi_LI 0 (D, Z)) b) := MC.ofSg (L := (mi_LI 0 (D, Z))) (μ := m_X10_status) (args := [(3, 0), (0, a1)]) (M := (D, Z)) rfl wP_X10 (Nat.le_of_ble_eq_true rfl) (show Sg m_X10_status 0 [(3, 0), (0, a1)] [] (D, Z) (mi_LI 0 (D, Z)) (B_X10_status D a1) from S_X10_status hL a1) hb
abbrev m_X10_widened : MiI := (yX10_widened, cX10_widened, 4, (some .long), 1, none)
def B_X10_widened (v0 : Int) (v2 : Int) (v3 : Int) : Int := if 6 ≤ v2 then v0 else (if v3 < 6 then v0 else (mi_W (v0 * 4)))
set_option maxRecDepth 20000 in
theorem S_X10_widened {D : MiD} {Z : MiZ} (hL : CL Z) (v0 v2 v3 : Int) : Sg m_X10_widened 0 [(1, v0), mi_un, (0, v2), (0, v3)] [] (D, Z) (mi_LI 1 (D, Z)) (some (B_X10_widened v0 v2 v3)) := by
  unfold B_X10_widened
  refine Sg.go (pc' := 1) (mi_iload_n dX10_widened_0 rfl) ?_
  refine Sg.go (pc' := 3) (mi_bipush (z := 6) dX10_widened_1 rfl) ?_
  refine Sg.iteS (fun h1 => ?_) (fun h1 => ?_)
  · refine Sg.go (pc' := 20) (mi_icmpge_t (tgt := 20) dX10_widened_3 (by decide) h1) ?_
    refine Sg.go (pc' := 21) (mi_lload_n dX10_widened_20 rfl) ?_
    exact Sg.ret (mi_lreturn dX10_widened_21 rfl)
  · refine Sg.go (pc' := 6) (mi_icmpge_f (tgt := 20) dX10_widened_3 (by decide) h1) ?_
    refine Sg.go (pc' := 7) (mi_iload_n dX10_widened_6 rfl) ?_
    refine Sg.go (pc' := 9) (mi_bipush (z := 6) dX10_widened_7 rfl) ?_
    refine Sg.iteS (fun h2 => ?_) (fun h2 => ?_)
    · refine Sg.go (pc' := 20) (mi_icmplt_t (tgt := 20) dX10_widened_9 (by decide) h2) ?_
      refine Sg.go (pc' := 21) (mi_lload_n dX10_widened_20 rfl) ?_
      exact Sg.ret (mi_lreturn dX10_widened_21 rfl)
    · refine Sg.go (pc' := 12) (mi_icmplt_f (tgt := 20) dX10_widened_9 (by decide) h2) ?_
      refine Sg.go (pc' := 13) (mi_lload_n dX10_widened_12 rfl) ?_
      refine Sg.go (pc' := 16) (mi_ldc2 (z := 4) dX10_widened_13 wK_X10_333 rfl) ?_
      refine Sg.go (pc' := 17) (mi_lmul dX10_widened_16) ?_
      refine Sg.go (pc' := 21) (mi_goto (tgt := 21) dX10_widened_17 (by decide)) ?_
      exact Sg.ret (mi_lreturn dX10_widened_21 rfl)
theorem C_X10_widened {Z : MiZ} (hL : CL Z) (a0 a1 a2 : Int) (D : MiD) : MC m_X10_widened [(1, a0), (0, a1), (0, a2)] (D, Z) (mi_LI 1 (D, Z) (B_X10_widened a0 a1 a2)) := MC.ofSg (L := (mi_LI 1 (D, Z))) (μ := m_X10_widened) (args := [(1, a0), (0, a1), (0, a2)]) (M := (D, Z)) rfl wP_X10 (Nat.le_of_ble_eq_true rfl) (show Sg m_X10_widened 0 [(1, a0), mi_un, (0, a1), (0, a2)] [] (D, Z) (mi_LI 1 (D, Z)) (some (B_X10_widened a0 a1 a2)) from S_X10_widened hL a0 a1 a2) rfl
abbrev m_X10_within : MiI := (yX10_within, cX10_within, 2, (some .boolean), 1, none)
def B_X10_within (v0 : Int) (v1 : Int) : Int := if v0 < 0 then 0 else (if v1 ≤ v0 then 0 else 1)
set_option maxRecDepth 20000 in
theorem S_X10_within {D : MiD} {Z : MiZ} (hL : CL Z) (v0 v1 : Int) : Sg m_X10_within 0 [(0, v0), (0, v1)] [] (D, Z) (mi_LI 0 (D, Z)) (some (B_X10_within v0 v1)) := by
  unfold B_X10_within
  refine Sg.go (pc' := 1) (mi_iload_n dX10_within_0 rfl) ?_
  refine Sg.iteS (fun h1 => ?_) (fun h1 => ?_)
  · refine Sg.go (pc' := 13) (mi_iflt_t (tgt := 13) dX10_within_1 (by decide) h1) ?_
    refine Sg.go (pc' := 14) (mi_iconst (z := 0) dX10_within_13 rfl) ?_
    exact Sg.ret (mi_ireturn dX10_within_14 rfl (Or.inr (Or.inl ⟨rfl, Or.inl rfl⟩)))
  · refine Sg.go (pc' := 4) (mi_iflt_f (tgt := 13) dX10_within_1 (by decide) h1) ?_
    refine Sg.go (pc' := 5) (mi_iload_n dX10_within_4 rfl) ?_
    refine Sg.go (pc' := 6) (mi_iload_n dX10_within_5 rfl) ?_
    refine Sg.iteS (fun h2 => ?_) (fun h2 => ?_)
    · refine Sg.go (pc' := 13) (mi_icmpge_t (tgt := 13) dX10_within_6 (by decide) h2) ?_
      refine Sg.go (pc' := 14) (mi_iconst (z := 0) dX10_within_13 rfl) ?_
      exact Sg.ret (mi_ireturn dX10_within_14 rfl (Or.inr (Or.inl ⟨rfl, Or.inl rfl⟩)))
    · refine Sg.go (pc' := 9) (mi_icmpge_f (tgt := 13) dX10_within_6 (by decide) h2) ?_
      refine Sg.go (pc' := 10) (mi_iconst (z := 1) dX10_within_9 rfl) ?_
      refine Sg.go (pc' := 14) (mi_goto (tgt := 14) dX10_within_10 (by decide)) ?_
      exact Sg.ret (mi_ireturn dX10_within_14 rfl (Or.inr (Or.inl ⟨rfl, Or.inr rfl⟩)))
theorem C_X10_within {Z : MiZ} (hL : CL Z) (a0 a1 : Int) (D : MiD) : MC m_X10_within [(0, a0), (0, a1)] (D, Z) (mi_LI 0 (D, Z) (B_X10_within a0 a1)) := MC.ofSg (L := (mi_LI 0 (D, Z))) (μ := m_X10_within) (args := [(0, a0), (0, a1)]) (M := (D, Z)) rfl wP_X10 (Nat.le_of_ble_eq_true rfl) (show Sg m_X10_within 0 [(0, a0), (0, a1)] [] (D, Z) (mi_LI 0 (D, Z)) (some (B_X10_within a0 a1)) from S_X10_within hL a0 a1) rfl
theorem Z_X10_within {v0 : Int} {v1 : Int} : B_X10_within v0 v1 = 0 ∨ B_X10_within v0 v1 = 1 := by
  unfold B_X10_within
  repeat' split
  all_goals first | exact Or.inl rfl | exact Or.inr rfl | exact Z_J11_isValidCodePoint_9a6ad | exact Z_J1_canEncode_9a6ad | exact Z_X11_areSame | exact Z_X11_in | exact Z_X11_isBit | exact Z_X11_isDatum | exact Z_X11_isDigit | exact Z_X11_isFunction | exact Z_X11_isQuarters | exact Z_X11_isSmall | exact Z_X11_isTask | exact Z_X11_widens
abbrev m_X1_add : MiI := (yX1_add, cX1_add, 2, none, 1, none)
def B_X1_add (v0 : Int) (v1 : Int) (D : MiD) (Z : MiZ) : Option (MiM) := if 24 ≤ (D 6 v0 1) then (some (D, Z)) else (if 0 ≤ (Z.1 6 v0 0) then (if 0 ≤ (D 6 v0 1) ∧ (D 6 v0 1) < 24 then (mi_let (mi_st Z.1 23 (Z.1 6 v0 0) (D 6 v0 1) v1, Z.2) fun Z4 => mi_req (CL Z4) (mi_let (mi_st D 6 v0 1 (mi_w ((D 6 v0 1) + 1))) fun D5 => some (D5, Z4))) else none) else none)
set_option maxRecDepth 20000 in
theorem S_X1_add  (v0 v1 : Int) (D : MiD) (Z : MiZ) (hL : CL Z) : 0 ≤ v0 → 0 ≤ v1 → Sg m_X1_add 0 [(8, v0), (9, v1)] [] (D, Z) mi_LW (B_X1_add v0 v1 D Z) := by
  intro hb0 hb1
  unfold B_X1_add
  refine Sg.go (pc' := 1) (mi_aload_n dX1_add_0 rfl) ?_
  refine Sg.go (pc' := 4) (mi_gfI (r := 6) (k := 1) dX1_add_1 hC_6 (by decide) rfl wF_X1_17 (by omega) rfl) ?_
  refine Sg.go (pc' := 6) (mi_bipush (z := 24) dX1_add_4 rfl) ?_
  refine Sg.ite (fun h1 => ?_) (fun h1 => ?_)
  · refine Sg.go (pc' := 29) (mi_icmpge_t (tgt := 29) dX1_add_6 (by decide) h1) ?_
    exact Sg.ret (mi_return dX1_add_29 rfl (0, 0))
  · refine Sg.go (pc' := 9) (mi_icmpge_f (tgt := 29) dX1_add_6 (by decide) h1) ?_
    refine Sg.go (pc' := 10) (mi_aload_n dX1_add_9 rfl) ?_
    refine Sg.go (pc' := 13) (mi_gfA (t := 23) (v := (Z.1 6 v0 0)) (r := 6) (k := 0) dX1_add_10 hC_6 (by decide) rfl wF_X1_11 (by omega) rfl rfl) ?_
    refine Sg.go (pc' := 14) (mi_aload_n dX1_add_13 rfl) ?_
    refine Sg.go (pc' := 17) (mi_gfI (r := 6) (k := 1) dX1_add_14 hC_6 (by decide) rfl wF_X1_17 (by omega) rfl) ?_
    refine Sg.go (pc' := 18) (mi_aload_n dX1_add_17 rfl) ?_
    refine Sg.ck (fun hk2 => ?_)
    refine Sg.ck (fun hk3 => ?_)
    refine Sg.goM (pc' := 19) (mi_aast (n := 24) (t := 7) dX1_add_18 rfl hC_7 rfl (by decide) rfl (by omega) (by omega) hk3) ?_
    refine Sg.letZ (fun Z4 hZ4 => ?_)
    refine Sg.rq (fun hL => ?_)
    refine Sg.go (pc' := 20) (mi_aload_n dX1_add_19 rfl) ?_
    refine Sg.go (pc' := 21) (mi_dup dX1_add_20 (show (8 : Nat) ≠ 1 by decide)) ?_
    refine Sg.go (pc' := 24) (mi_gfI (r := 6) (k := 1) dX1_add_21 hC_6 (by decide) rfl wF_X1_17 (by omega) rfl) ?_
    refine Sg.go (pc' := 25) (mi_iconst (z := 1) dX1_add_24 rfl) ?_
    refine Sg.go (pc' := 26) (mi_iadd dX1_add_25) ?_
    refine Sg.goM (pc' := 29) (mi_pfD (r := 6) (k := 1) (t := 0) dX1_add_26 hC_6 (by decide) rfl rfl wF_X1_17 (by omega) rfl (by decide) (Or.inl ⟨rfl, rfl⟩)) ?_
    refine Sg.letD (fun D5 hD5 => ?_)
    exact Sg.ret (mi_return dX1_add_29 rfl (0, 0))
theorem C_X1_add {Z : MiZ} (hL : CL Z) (a0 a1 : Int) (D : MiD) (h0 : 0 ≤ a0) (h1 : 0 ≤ a1) (b : MiM) (hb : B_X1_add a0 a1 D Z = some b) : MC m_X1_add [(8, a0), (9, a1)] (D, Z) (mi_LW b) := MC.ofSg (L := mi_LW) (μ := m_X1_add) (args := [(8, a0), (9, a1)]) (M := (D, Z)) rfl wP_X1 (Nat.le_of_ble_eq_true rfl) (show Sg m_X1_add 0 [(8, a0), (9, a1)] [] (D, Z) mi_LW (B_X1_add a0 a1 D Z) from S_X1_add a0 a1 D Z hL h0 h1) hb
abbrev m_X1_deedAt : MiI := (yX1_deedAt, cX1_deedAt, 2, (some (.object "MendedProgram$Deed")), 1, none)
def B_X1_deedAt (D : MiD) (Z : MiZ) (v0 : Int) (v1 : Int) : Option (Int) := if v1 < 0 then (some (-1)) else (if (D 6 v0 1) ≤ v1 then (some (-1)) else (if 0 ≤ (Z.1 6 v0 0) then (if 0 ≤ v1 ∧ v1 < 24 then (some (Z.1 23 (Z.1 6 v0 0) v1)) else none) else none))
set_option maxRecDepth 20000 in
theorem S_X1_deedAt {D : MiD} {Z : MiZ} (hL : CL Z) (v0 v1 : Int) : 0 ≤ v0 → Sg m_X1_deedAt 0 [(8, v0), (0, v1)] [] (D, Z) (mi_LI 9 (D, Z)) (B_X1_deedAt D Z v0 v1) := by
  intro hb0
  unfold B_X1_deedAt
  refine Sg.go (pc' := 1) (mi_iload_n dX1_deedAt_0 rfl) ?_
  refine Sg.ite (fun h1 => ?_) (fun h1 => ?_)
  · refine Sg.go (pc' := 21) (mi_iflt_t (tgt := 21) dX1_deedAt_1 (by decide) h1) ?_
    refine Sg.go (pc' := 22) (mi_null (r := 7) dX1_deedAt_21) ?_
    exact Sg.ret (mi_areturn dX1_deedAt_22 rfl (Or.inl ⟨_, rfl⟩))
  · refine Sg.go (pc' := 4) (mi_iflt_f (tgt := 21) dX1_deedAt_1 (by decide) h1) ?_
    refine Sg.go (pc' := 5) (mi_iload_n dX1_deedAt_4 rfl) ?_
    refine Sg.go (pc' := 6) (mi_aload_n dX1_deedAt_5 rfl) ?_
    refine Sg.go (pc' := 9) (mi_gfI (r := 6) (k := 1) dX1_deedAt_6 hC_6 (by decide) rfl wF_X1_17 (by omega) rfl) ?_
    refine Sg.ite (fun h2 => ?_) (fun h2 => ?_)
    · refine Sg.go (pc' := 21) (mi_icmpge_t (tgt := 21) dX1_deedAt_9 (by decide) h2) ?_
      refine Sg.go (pc' := 22) (mi_null (r := 7) dX1_deedAt_21) ?_
      exact Sg.ret (mi_areturn dX1_deedAt_22 rfl (Or.inl ⟨_, rfl⟩))
    · refine Sg.go (pc' := 12) (mi_icmpge_f (tgt := 21) dX1_deedAt_9 (by decide) h2) ?_
      refine Sg.go (pc' := 13) (mi_aload_n dX1_deedAt_12 rfl) ?_
      refine Sg.go (pc' := 16) (mi_gfA (t := 23) (v := (Z.1 6 v0 0)) (r := 6) (k := 0) dX1_deedAt_13 hC_6 (by decide) rfl wF_X1_11 (by omega) rfl rfl) ?_
      refine Sg.go (pc' := 17) (mi_iload_n dX1_deedAt_16 rfl) ?_
      refine Sg.ck (fun hk3 => ?_)
      refine Sg.ck (fun hk4 => ?_)
      refine Sg.go (pc' := 18) (mi_aald (n := 24) (t := 7) (v := (Z.1 23 (Z.1 6 v0 0) v1)) dX1_deedAt_17 rfl hA_23 rfl (by omega) hk4 rfl rfl) ?_
      refine Sg.go (pc' := 22) (mi_goto (tgt := 22) dX1_deedAt_18 (by decide)) ?_
      exact Sg.ret (mi_areturn dX1_deedAt_22 rfl (Or.inl ⟨_, rfl⟩))
theorem C_X1_deedAt {Z : MiZ} (hL : CL Z) (a0 a1 : Int) (D : MiD) (h0 : 0 ≤ a0) (b : Int) (hb : B_X1_deedAt D Z a0 a1 = some b) : MC m_X1_deedAt [(8, a0), (0, a1)] (D, Z) ((mi_LI 9 (D, Z)) b) := MC.ofSg (L := (mi_LI 9 (D, Z))) (μ := m_X1_deedAt) (args := [(8, a0), (0, a1)]) (M := (D, Z)) rfl wP_X1 (Nat.le_of_ble_eq_true rfl) (show Sg m_X1_deedAt 0 [(8, a0), (0, a1)] [] (D, Z) (mi_LI 9 (D, Z)) (B_X1_deedAt D Z a0 a1) from S_X1_deedAt hL a0 a1 h0) hb
abbrev m_X1_init : MiI := (yX1_init, cX1_init, 1, none, 1, none)
def B_X1_init (v0 : Int) (D : MiD) (Z : MiZ) : Option (MiM) := if 0 ≤ Z.2 23 then mi_nl D Z 23 24 (fun D1 Z2 => mi_let (mi_st Z2.1 6 v0 0 (Z.2 23), Z2.2) fun Z4 => some (D1, Z4)) else none
set_option maxRecDepth 20000 in
theorem S_X1_init  (v0 : Int) (D : MiD) (Z : MiZ) (hL : XL Z) : 0 ≤ v0 → Sg m_X1_init 0 [(8, v0)] [] (D, Z) mi_LW (B_X1_init v0 D Z) := by
  intro hb0
  unfold B_X1_init
  refine Sg.go (pc' := 1) (mi_aload_n dX1_init_0 rfl) ?_
  refine Sg.go (pc' := 4) (mi_objInit dX1_init_1 wL_X1_3 wI_obj wC_obj (by decide) (by omega) (Nat.le_of_ble_eq_true rfl)) ?_
  refine Sg.go (pc' := 5) (mi_aload_n dX1_init_4 rfl) ?_
  refine Sg.go (pc' := 7) (mi_bipush (z := 24) dX1_init_5 rfl) ?_
  refine Sg.nl (pc' := 10) (r := 23) (n := 24) (mi_anew (r := 23) dX1_init_7 rfl wK_X1_9 (by decide) (by decide) (by decide) rfl rfl (by decide)) (by decide) (fun hk3 D1 Z2 => ?_)
  have hL : XL Z2 := trivial
  refine Sg.goM (pc' := 13) (mi_pFA (r := 6) (k := 0) (t := 23) dX1_init_10 hC_6 (by decide) rfl rfl rfl rfl wF_X1_11 (by omega) rfl (Or.inr (Or.inr (Or.inr ⟨by show 2 ≤ (23 : Nat) + 2; omega, by first | exact Or.inl ⟨_, rfl⟩ | exact Or.inr ⟨_, rfl⟩⟩)))) ?_
  refine Sg.letZ (fun Z4 hZ4 => ?_)
  have hL : XL Z4 := trivial
  exact Sg.ret (mi_return dX1_init_13 rfl (0, 0))
theorem C_X1_init {Z : MiZ} (hL : XL Z) (a0 : Int) (D : MiD) (h0 : 0 ≤ a0) (b : MiM) (hb : B_X1_init a0 D Z = some b) : MC m_X1_init [(8, a0)] (D, Z) (mi_LW b) := MC.ofSg (L := mi_LW) (μ := m_X1_init) (args := [(8, a0)]) (M := (D, Z)) rfl wP_X1 (Nat.le_of_ble_eq_true rfl) (show Sg m_X1_init 0 [(8, a0)] [] (D, Z) mi_LW (B_X1_init a0 D Z) from S_X1_init a0 D Z hL h0) hb
abbrev m_X2_init : MiI := (yX2_init, cX2_init, 2, none, 1, none)
def B_X2_init (v0 : Int) (v1 : Int) (D : MiD) (Z : MiZ) : Option (MiM) := mi_let (mi_st D 7 v0 3 (-1)) fun D1 => mi_let (mi_st Z.1 7 v0 0 v1, Z.2) fun Z2 => some (D1, Z2)
set_option maxRecDepth 20000 in
theorem S_X2_init  (v0 v1 : Int) (D : MiD) (Z : MiZ) (hL : XL Z) : 0 ≤ v0 → 0 ≤ v1 → Sg m_X2_init 0 [(9, v0), (28, v1)] [] (D, Z) mi_LW (B_X2_init v0 v1 D Z) := by
  intro hb0 hb1
  unfold B_X2_init
  refine Sg.go (pc' := 1) (mi_aload_n dX2_init_0 rfl) ?_
  refine Sg.go (pc' := 4) (mi_objInit dX2_init_1 wL_X2_3 wI_obj wC_obj (by decide) (by omega) (Nat.le_of_ble_eq_true rfl)) ?_
  refine Sg.go (pc' := 5) (mi_aload_n dX2_init_4 rfl) ?_
  refine Sg.go (pc' := 6) (mi_iconst (z := (-1)) dX2_init_5 rfl) ?_
  refine Sg.goM (pc' := 9) (mi_pfD (r := 7) (k := 3) (t := 0) dX2_init_6 hC_7 (by decide) rfl rfl wF_X2_9 (by omega) rfl (by decide) (Or.inl ⟨rfl, rfl⟩)) ?_
  refine Sg.letD (fun D1 hD1 => ?_)
  refine Sg.go (pc' := 10) (mi_aload_n dX2_init_9 rfl) ?_
  refine Sg.go (pc' := 11) (mi_aload_n dX2_init_10 rfl) ?_
  refine Sg.goM (pc' := 14) (mi_pFA (r := 7) (k := 0) (t := 26) dX2_init_11 hC_7 (by decide) rfl rfl rfl rfl wF_X2_15 (by omega) rfl (Or.inr (Or.inr (Or.inr ⟨by show 2 ≤ (26 : Nat) + 2; omega, by first | exact Or.inl ⟨_, rfl⟩ | exact Or.inr ⟨_, rfl⟩⟩)))) ?_
  refine Sg.letZ (fun Z2 hZ2 => ?_)
  have hL : XL Z2 := trivial
  exact Sg.ret (mi_return dX2_init_14 rfl (0, 0))
theorem C_X2_init {Z : MiZ} (hL : XL Z) (a0 a1 : Int) (D : MiD) (h0 : 0 ≤ a0) (h1 : 0 ≤ a1) (b : MiM) (hb : B_X2_init a0 a1 D Z = some b) : MC m_X2_init [(9, a0), (28, a1)] (D, Z) (mi_LW b) := MC.ofSg (L := mi_LW) (μ := m_X2_init) (args := [(9, a0), (28, a1)]) (M := (D, Z)) rfl wP_X2 (Nat.le_of_ble_eq_true rfl) (show Sg m_X2_init 0 [(9, a0), (28, a1)] [] (D, Z) mi_LW (B_X2_init a0 a1 D Z) from S_X2_init a0 a1 D Z hL h0 h1) hb
abbrev m_X4_allDeeds : MiI := (yX4_allDeeds, cX4_allDeeds, 3, (some .int), 1, none)
def B_X4_allDeeds_26 (D : MiD) (Z : MiZ) : Nat → Int → Int → Int → Option (Int)
  | 0, _, _, _ => none
  | f + 1, v0, v1, v2 => if 12 ≤ v2 then (some v1) else (if 0 ≤ (Z.1 8 v0 1) then (if 0 ≤ v2 ∧ v2 < 12 then (if (Z.1 24 (Z.1 8 v0 1) v2) < 0 then (B_X4_allDeeds_26 D Z f v0 v1 (mi_w (v2 + 1))) else (if 0 ≤ (Z.1 24 (Z.1 8 v0 1) v2) then (mi_let (mi_w (v1 + (D 6 (Z.1 24 (Z.1 8 v0 1) v2) 1))) fun x6 => B_X4_allDeeds_26 D Z f v0 x6 (mi_w (v2 + 1))) else none)) else none) else none)
set_option maxRecDepth 20000 in
theorem S_X4_allDeeds_26 {D : MiD} {Z : MiZ} (hL : CL Z) : ∀ (f : Nat) (v0 v1 v2 : Int), 0 ≤ v0 → Sg m_X4_allDeeds 26 [(10, v0), (0, v1), (0, v2)] [] (D, Z) (mi_LI 0 (D, Z)) (B_X4_allDeeds_26 D Z f v0 v1 v2) := by
  intro f
  induction f with
  | zero => intros; exact Sg.nope
  | succ f K26 =>
    intro v0 v1 v2 hb0
    show Sg m_X4_allDeeds 26 [(10, v0), (0, v1), (0, v2)] [] (D, Z) (mi_LI 0 (D, Z)) (if 12 ≤ v2 then (some v1) else (if 0 ≤ (Z.1 8 v0 1) then (if 0 ≤ v2 ∧ v2 < 12 then (if (Z.1 24 (Z.1 8 v0 1) v2) < 0 then (B_X4_allDeeds_26 D Z f v0 v1 (mi_w (v2 + 1))) else (if 0 ≤ (Z.1 24 (Z.1 8 v0 1) v2) then (mi_let (mi_w (v1 + (D 6 (Z.1 24 (Z.1 8 v0 1) v2) 1))) fun x6 => B_X4_allDeeds_26 D Z f v0 x6 (mi_w (v2 + 1))) else none)) else none) else none))
    refine Sg.go (pc' := 27) (mi_iload_n dX4_allDeeds_26 rfl) ?_
    refine Sg.go (pc' := 29) (mi_bipush (z := 12) dX4_allDeeds_27 rfl) ?_
    refine Sg.ite (fun h1 => ?_) (fun h1 => ?_)
    · refine Sg.go (pc' := 59) (mi_icmpge_t (tgt := 59) dX4_allDeeds_29 (by decide) h1) ?_
      refine Sg.go (pc' := 60) (mi_iload_n dX4_allDeeds_59 rfl) ?_
      exact Sg.ret (mi_ireturn dX4_allDeeds_60 rfl (Or.inl rfl))
    · refine Sg.go (pc' := 32) (mi_icmpge_f (tgt := 59) dX4_allDeeds_29 (by decide) h1) ?_
      refine Sg.go (pc' := 33) (mi_aload_n dX4_allDeeds_32 rfl) ?_
      refine Sg.go (pc' := 36) (mi_gfA (t := 24) (v := (Z.1 8 v0 1)) (r := 8) (k := 1) dX4_allDeeds_33 hC_8 (by decide) rfl wF_X4_11 (by omega) rfl rfl) ?_
      refine Sg.go (pc' := 37) (mi_iload_n dX4_allDeeds_36 rfl) ?_
      refine Sg.ck (fun hk2 => ?_)
      refine Sg.ck (fun hk3 => ?_)
      refine Sg.go (pc' := 38) (mi_aald (n := 12) (t := 6) (v := (Z.1 24 (Z.1 8 v0 1) v2)) dX4_allDeeds_37 rfl hA_24 rfl (by omega) hk3 rfl rfl) ?_
      refine Sg.ite (fun h4 => ?_) (fun h4 => ?_)
      · refine Sg.go (pc' := 53) (mi_ifnull_t (tgt := 53) dX4_allDeeds_38 (by decide) h4) ?_
        refine Sg.go (pc' := 56) (mi_iinc (z := 1) (ls1 := [(10, v0), (0, v1), (0, (mi_w (v2 + 1)))]) dX4_allDeeds_53 (by decide) rfl rfl rfl) ?_
        refine Sg.go (pc' := 26) (mi_goto (tgt := 26) dX4_allDeeds_56 (by decide)) ?_
        exact K26 v0 v1 (mi_w (v2 + 1)) hb0
      · refine Sg.go (pc' := 41) (mi_ifnull_f (tgt := 53) dX4_allDeeds_38 (by decide) h4) ?_
        refine Sg.go (pc' := 42) (mi_iload_n dX4_allDeeds_41 rfl) ?_
        refine Sg.go (pc' := 43) (mi_aload_n dX4_allDeeds_42 rfl) ?_
        refine Sg.go (pc' := 46) (mi_gfA (t := 24) (v := (Z.1 8 v0 1)) (r := 8) (k := 1) dX4_allDeeds_43 hC_8 (by decide) rfl wF_X4_11 (by omega) rfl rfl) ?_
        refine Sg.go (pc' := 47) (mi_iload_n dX4_allDeeds_46 rfl) ?_
        refine Sg.go (pc' := 48) (mi_aald (n := 12) (t := 6) (v := (Z.1 24 (Z.1 8 v0 1) v2)) dX4_allDeeds_47 rfl hA_24 rfl (by omega) hk3 rfl rfl) ?_
        refine Sg.ck (fun hk5 => ?_)
        refine Sg.go (pc' := 51) (mi_gfI (r := 6) (k := 1) dX4_allDeeds_48 hC_6 (by decide) rfl wF_X4_28 (by omega) rfl) ?_
        refine Sg.go (pc' := 52) (mi_iadd dX4_allDeeds_51) ?_
        refine Sg.letI (fun x6 hx6 => ?_)
        refine Sg.go (pc' := 53) (mi_istore_n (ls1 := [(10, v0), (0, x6), (0, v2)]) dX4_allDeeds_52 (by decide) rfl) ?_
        refine Sg.go (pc' := 56) (mi_iinc (z := 1) (ls1 := [(10, v0), (0, x6), (0, (mi_w (v2 + 1)))]) dX4_allDeeds_53 (by decide) rfl rfl rfl) ?_
        refine Sg.go (pc' := 26) (mi_goto (tgt := 26) dX4_allDeeds_56 (by decide)) ?_
        exact K26 v0 x6 (mi_w (v2 + 1)) hb0
def B_X4_allDeeds (D : MiD) (Z : MiZ) (v0 : Int) : Option (Int) := if 0 ≤ (Z.1 8 v0 2) then (if 0 ≤ (Z.1 8 v0 3) then (if 0 ≤ (Z.1 8 v0 4) then (mi_let (mi_w ((mi_w ((D 6 (Z.1 8 v0 2) 1) + (D 6 (Z.1 8 v0 3) 1))) + (D 6 (Z.1 8 v0 4) 1))) fun x4 => B_X4_allDeeds_26 D Z mi_fuel v0 x4 0) else none) else none) else none
set_option maxRecDepth 20000 in
theorem S_X4_allDeeds {D : MiD} {Z : MiZ} (hL : CL Z) (v0 : Int) : 0 ≤ v0 → Sg m_X4_allDeeds 0 [(10, v0), mi_un, mi_un] [] (D, Z) (mi_LI 0 (D, Z)) (B_X4_allDeeds D Z v0) := by
  intro hb0
  unfold B_X4_allDeeds
  refine Sg.go (pc' := 1) (mi_aload_n dX4_allDeeds_0 rfl) ?_
  refine Sg.go (pc' := 4) (mi_gfA (t := 6) (v := (Z.1 8 v0 2)) (r := 8) (k := 2) dX4_allDeeds_1 hC_8 (by decide) rfl wF_X4_18 (by omega) rfl rfl) ?_
  refine Sg.ck (fun hk1 => ?_)
  refine Sg.go (pc' := 7) (mi_gfI (r := 6) (k := 1) dX4_allDeeds_4 hC_6 (by decide) rfl wF_X4_28 (by omega) rfl) ?_
  refine Sg.go (pc' := 8) (mi_aload_n dX4_allDeeds_7 rfl) ?_
  refine Sg.go (pc' := 11) (mi_gfA (t := 6) (v := (Z.1 8 v0 3)) (r := 8) (k := 3) dX4_allDeeds_8 hC_8 (by decide) rfl wF_X4_22 (by omega) rfl rfl) ?_
  refine Sg.ck (fun hk2 => ?_)
  refine Sg.go (pc' := 14) (mi_gfI (r := 6) (k := 1) dX4_allDeeds_11 hC_6 (by decide) rfl wF_X4_28 (by omega) rfl) ?_
  refine Sg.go (pc' := 15) (mi_iadd dX4_allDeeds_14) ?_
  refine Sg.go (pc' := 16) (mi_aload_n dX4_allDeeds_15 rfl) ?_
  refine Sg.go (pc' := 19) (mi_gfA (t := 6) (v := (Z.1 8 v0 4)) (r := 8) (k := 4) dX4_allDeeds_16 hC_8 (by decide) rfl wF_X4_25 (by omega) rfl rfl) ?_
  refine Sg.ck (fun hk3 => ?_)
  refine Sg.go (pc' := 22) (mi_gfI (r := 6) (k := 1) dX4_allDeeds_19 hC_6 (by decide) rfl wF_X4_28 (by omega) rfl) ?_
  refine Sg.go (pc' := 23) (mi_iadd dX4_allDeeds_22) ?_
  refine Sg.letI (fun x4 hx4 => ?_)
  refine Sg.go (pc' := 24) (mi_istore_n (ls1 := [(10, v0), (0, x4), mi_un]) dX4_allDeeds_23 (by decide) rfl) ?_
  refine Sg.go (pc' := 25) (mi_iconst (z := 0) dX4_allDeeds_24 rfl) ?_
  refine Sg.go (pc' := 26) (mi_istore_n (ls1 := [(10, v0), (0, x4), (0, 0)]) dX4_allDeeds_25 (by decide) rfl) ?_
  exact S_X4_allDeeds_26 hL mi_fuel v0 x4 0 hb0
theorem C_X4_allDeeds {Z : MiZ} (hL : CL Z) (a0 : Int) (D : MiD) (h0 : 0 ≤ a0) (b : Int) (hb : B_X4_allDeeds D Z a0 = some b) : MC m_X4_allDeeds [(10, a0)] (D, Z) ((mi_LI 0 (D, Z)) b) := MC.ofSg (L := (mi_LI 0 (D, Z))) (μ := m_X4_allDeeds) (args := [(10, a0)]) (M := (D, Z)) rfl wP_X4 (Nat.le_of_ble_eq_true rfl) (show Sg m_X4_allDeeds 0 [(10, a0), mi_un, mi_un] [] (D, Z) (mi_LI 0 (D, Z)) (B_X4_allDeeds D Z a0) from S_X4_allDeeds hL a0 h0) hb
abbrev m_X4_functionBits : MiI := (yX4_functionBits, cX4_functionBits, 3, (some .int), 1, none)
def B_X4_functionBits_4 (D : MiD) (Z : MiZ) : Nat → Int → Int → Int → Option (Int)
  | 0, _, _, _ => none
  | f + 1, v0, v1, v2 => if 12 ≤ v2 then (some v1) else (if 0 ≤ (Z.1 8 v0 1) then (if 0 ≤ v2 ∧ v2 < 12 then (if (Z.1 24 (Z.1 8 v0 1) v2) < 0 then (B_X4_functionBits_4 D Z f v0 v1 (mi_w (v2 + 1))) else (mi_let (mi_or v1 (mi_shl 1 v2)) fun x5 => B_X4_functionBits_4 D Z f v0 x5 (mi_w (v2 + 1)))) else none) else none)
set_option maxRecDepth 20000 in
theorem S_X4_functionBits_4 {D : MiD} {Z : MiZ} (hL : CL Z) : ∀ (f : Nat) (v0 v1 v2 : Int), 0 ≤ v0 → Sg m_X4_functionBits 4 [(10, v0), (0, v1), (0, v2)] [] (D, Z) (mi_LI 0 (D, Z)) (B_X4_functionBits_4 D Z f v0 v1 v2) := by
  intro f
  induction f with
  | zero => intros; exact Sg.nope
  | succ f K4 =>
    intro v0 v1 v2 hb0
    show Sg m_X4_functionBits 4 [(10, v0), (0, v1), (0, v2)] [] (D, Z) (mi_LI 0 (D, Z)) (if 12 ≤ v2 then (some v1) else (if 0 ≤ (Z.1 8 v0 1) then (if 0 ≤ v2 ∧ v2 < 12 then (if (Z.1 24 (Z.1 8 v0 1) v2) < 0 then (B_X4_functionBits_4 D Z f v0 v1 (mi_w (v2 + 1))) else (mi_let (mi_or v1 (mi_shl 1 v2)) fun x5 => B_X4_functionBits_4 D Z f v0 x5 (mi_w (v2 + 1)))) else none) else none))
    refine Sg.go (pc' := 5) (mi_iload_n dX4_functionBits_4 rfl) ?_
    refine Sg.go (pc' := 7) (mi_bipush (z := 12) dX4_functionBits_5 rfl) ?_
    refine Sg.ite (fun h1 => ?_) (fun h1 => ?_)
    · refine Sg.go (pc' := 31) (mi_icmpge_t (tgt := 31) dX4_functionBits_7 (by decide) h1) ?_
      refine Sg.go (pc' := 32) (mi_iload_n dX4_functionBits_31 rfl) ?_
      exact Sg.ret (mi_ireturn dX4_functionBits_32 rfl (Or.inl rfl))
    · refine Sg.go (pc' := 10) (mi_icmpge_f (tgt := 31) dX4_functionBits_7 (by decide) h1) ?_
      refine Sg.go (pc' := 11) (mi_aload_n dX4_functionBits_10 rfl) ?_
      refine Sg.go (pc' := 14) (mi_gfA (t := 24) (v := (Z.1 8 v0 1)) (r := 8) (k := 1) dX4_functionBits_11 hC_8 (by decide) rfl wF_X4_11 (by omega) rfl rfl) ?_
      refine Sg.go (pc' := 15) (mi_iload_n dX4_functionBits_14 rfl) ?_
      refine Sg.ck (fun hk2 => ?_)
      refine Sg.ck (fun hk3 => ?_)
      refine Sg.go (pc' := 16) (mi_aald (n := 12) (t := 6) (v := (Z.1 24 (Z.1 8 v0 1) v2)) dX4_functionBits_15 rfl hA_24 rfl (by omega) hk3 rfl rfl) ?_
      refine Sg.ite (fun h4 => ?_) (fun h4 => ?_)
      · refine Sg.go (pc' := 25) (mi_ifnull_t (tgt := 25) dX4_functionBits_16 (by decide) h4) ?_
        refine Sg.go (pc' := 28) (mi_iinc (z := 1) (ls1 := [(10, v0), (0, v1), (0, (mi_w (v2 + 1)))]) dX4_functionBits_25 (by decide) rfl rfl rfl) ?_
        refine Sg.go (pc' := 4) (mi_goto (tgt := 4) dX4_functionBits_28 (by decide)) ?_
        exact K4 v0 v1 (mi_w (v2 + 1)) hb0
      · refine Sg.go (pc' := 19) (mi_ifnull_f (tgt := 25) dX4_functionBits_16 (by decide) h4) ?_
        refine Sg.go (pc' := 20) (mi_iload_n dX4_functionBits_19 rfl) ?_
        refine Sg.go (pc' := 21) (mi_iconst (z := 1) dX4_functionBits_20 rfl) ?_
        refine Sg.go (pc' := 22) (mi_iload_n dX4_functionBits_21 rfl) ?_
        refine Sg.go (pc' := 23) (mi_ishl dX4_functionBits_22) ?_
        refine Sg.go (pc' := 24) (mi_ior dX4_functionBits_23) ?_
        refine Sg.letI (fun x5 hx5 => ?_)
        refine Sg.go (pc' := 25) (mi_istore_n (ls1 := [(10, v0), (0, x5), (0, v2)]) dX4_functionBits_24 (by decide) rfl) ?_
        refine Sg.go (pc' := 28) (mi_iinc (z := 1) (ls1 := [(10, v0), (0, x5), (0, (mi_w (v2 + 1)))]) dX4_functionBits_25 (by decide) rfl rfl rfl) ?_
        refine Sg.go (pc' := 4) (mi_goto (tgt := 4) dX4_functionBits_28 (by decide)) ?_
        exact K4 v0 x5 (mi_w (v2 + 1)) hb0
def B_X4_functionBits (D : MiD) (Z : MiZ) (v0 : Int) : Option (Int) := B_X4_functionBits_4 D Z mi_fuel v0 0 0
set_option maxRecDepth 20000 in
theorem S_X4_functionBits {D : MiD} {Z : MiZ} (hL : CL Z) (v0 : Int) : 0 ≤ v0 → Sg m_X4_functionBits 0 [(10, v0), mi_un, mi_un] [] (D, Z) (mi_LI 0 (D, Z)) (B_X4_functionBits D Z v0) := by
  intro hb0
  unfold B_X4_functionBits
  refine Sg.go (pc' := 1) (mi_iconst (z := 0) dX4_functionBits_0 rfl) ?_
  refine Sg.go (pc' := 2) (mi_istore_n (ls1 := [(10, v0), (0, 0), mi_un]) dX4_functionBits_1 (by decide) rfl) ?_
  refine Sg.go (pc' := 3) (mi_iconst (z := 0) dX4_functionBits_2 rfl) ?_
  refine Sg.go (pc' := 4) (mi_istore_n (ls1 := [(10, v0), (0, 0), (0, 0)]) dX4_functionBits_3 (by decide) rfl) ?_
  exact S_X4_functionBits_4 hL mi_fuel v0 0 0 hb0
theorem C_X4_functionBits {Z : MiZ} (hL : CL Z) (a0 : Int) (D : MiD) (h0 : 0 ≤ a0) (b : Int) (hb : B_X4_functionBits D Z a0 = some b) : MC m_X4_functionBits [(10, a0)] (D, Z) ((mi_LI 0 (D, Z)) b) := MC.ofSg (L := (mi_LI 0 (D, Z))) (μ := m_X4_functionBits) (args := [(10, a0)]) (M := (D, Z)) rfl wP_X4 (Nat.le_of_ble_eq_true rfl) (show Sg m_X4_functionBits 0 [(10, a0), mi_un, mi_un] [] (D, Z) (mi_LI 0 (D, Z)) (B_X4_functionBits D Z a0) from S_X4_functionBits hL a0 h0) hb
abbrev m_X5_fail : MiI := (yX5_fail, cX5_fail, 3, none, 1, none)
def B_X5_fail (v0 : Int) (v1 : Int) (v2 : Int) (D : MiD) : Option (MiD) := if (D 9 v0 3) ≠ 0 then (some D) else (mi_let (mi_st D 9 v0 3 v1) fun D2 => mi_let (mi_st D2 9 v0 4 v2) fun D3 => some D3)
set_option maxRecDepth 20000 in
theorem S_X5_fail {Z : MiZ} (hL : CL Z) (v0 v1 v2 : Int) (D : MiD) : 0 ≤ v0 → Sg m_X5_fail 0 [(11, v0), (0, v1), (0, v2)] [] (D, Z) (mi_LV Z) (B_X5_fail v0 v1 v2 D) := by
  intro hb0
  unfold B_X5_fail
  refine Sg.go (pc' := 1) (mi_aload_n dX5_fail_0 rfl) ?_
  refine Sg.go (pc' := 4) (mi_gfI (r := 9) (k := 3) dX5_fail_1 hC_9 (by decide) rfl wF_X5_33 (by omega) rfl) ?_
  refine Sg.ite (fun h1 => ?_) (fun h1 => ?_)
  · refine Sg.go (pc' := 17) (mi_ifne_t (tgt := 17) dX5_fail_4 (by decide) h1) ?_
    exact Sg.ret (mi_return dX5_fail_17 rfl (0, 0))
  · refine Sg.go (pc' := 7) (mi_ifne_f (tgt := 17) dX5_fail_4 (by decide) h1) ?_
    refine Sg.go (pc' := 8) (mi_aload_n dX5_fail_7 rfl) ?_
    refine Sg.go (pc' := 9) (mi_iload_n dX5_fail_8 rfl) ?_
    refine Sg.goM (pc' := 12) (mi_pfD (r := 9) (k := 3) (t := 0) dX5_fail_9 hC_9 (by decide) rfl rfl wF_X5_33 (by omega) rfl (by decide) (Or.inl ⟨rfl, rfl⟩)) ?_
    refine Sg.letD (fun D2 hD2 => ?_)
    refine Sg.go (pc' := 13) (mi_aload_n dX5_fail_12 rfl) ?_
    refine Sg.go (pc' := 14) (mi_iload_n dX5_fail_13 rfl) ?_
    refine Sg.goM (pc' := 17) (mi_pfD (r := 9) (k := 4) (t := 0) dX5_fail_14 hC_9 (by decide) rfl rfl wF_X5_9 (by omega) rfl (by decide) (Or.inl ⟨rfl, rfl⟩)) ?_
    refine Sg.letD (fun D3 hD3 => ?_)
    exact Sg.ret (mi_return dX5_fail_17 rfl (0, 0))
theorem C_X5_fail {Z : MiZ} (hL : CL Z) (a0 a1 a2 : Int) (D : MiD) (h0 : 0 ≤ a0) (b : MiD) (hb : B_X5_fail a0 a1 a2 D = some b) : MC m_X5_fail [(11, a0), (0, a1), (0, a2)] (D, Z) ((mi_LV Z) b) := MC.ofSg (L := (mi_LV Z)) (μ := m_X5_fail) (args := [(11, a0), (0, a1), (0, a2)]) (M := (D, Z)) rfl wP_X5 (Nat.le_of_ble_eq_true rfl) (show Sg m_X5_fail 0 [(11, a0), (0, a1), (0, a2)] [] (D, Z) (mi_LV Z) (B_X5_fail a0 a1 a2 D) from S_X5_fail hL a0 a1 a2 D h0) hb
abbrev m_X5_init : MiI := (yX5_init, cX5_init, 3, none, 1, none)
def B_X5_init (v0 : Int) (v2 : Int) (D : MiD) (Z : MiZ) : Option (MiM) := mi_let (mi_st D 9 v0 4 (-1)) fun D1 => mi_let (mi_st Z.1 9 v0 0 0, Z.2) fun Z2 => mi_let (mi_st D1 9 v0 1 v2) fun D3 => some (D3, Z2)
set_option maxRecDepth 20000 in
theorem S_X5_init  (v0 v2 : Int) (D : MiD) (Z : MiZ) (hL : XL Z) : 0 ≤ v0 → Sg m_X5_init 0 [(11, v0), (12, 0), (0, v2)] [] (D, Z) mi_LW (B_X5_init v0 v2 D Z) := by
  intro hb0
  unfold B_X5_init
  refine Sg.go (pc' := 1) (mi_aload_n dX5_init_0 rfl) ?_
  refine Sg.go (pc' := 4) (mi_objInit dX5_init_1 wL_X5_3 wI_obj wC_obj (by decide) (by omega) (Nat.le_of_ble_eq_true rfl)) ?_
  refine Sg.go (pc' := 5) (mi_aload_n dX5_init_4 rfl) ?_
  refine Sg.go (pc' := 6) (mi_iconst (z := (-1)) dX5_init_5 rfl) ?_
  refine Sg.goM (pc' := 9) (mi_pfD (r := 9) (k := 4) (t := 0) dX5_init_6 hC_9 (by decide) rfl rfl wF_X5_9 (by omega) rfl (by decide) (Or.inl ⟨rfl, rfl⟩)) ?_
  refine Sg.letD (fun D1 hD1 => ?_)
  refine Sg.go (pc' := 10) (mi_aload_n dX5_init_9 rfl) ?_
  refine Sg.go (pc' := 11) (mi_aload_n dX5_init_10 rfl) ?_
  refine Sg.goM (pc' := 14) (mi_pFA (r := 9) (k := 0) (t := 10) dX5_init_11 hC_9 (by decide) rfl rfl rfl rfl wF_X5_15 (by omega) rfl (Or.inr (Or.inr (Or.inr ⟨by show 2 ≤ (10 : Nat) + 2; omega, by first | exact Or.inl ⟨_, rfl⟩ | exact Or.inr ⟨_, rfl⟩⟩)))) ?_
  refine Sg.letZ (fun Z2 hZ2 => ?_)
  have hL : XL Z2 := trivial
  refine Sg.go (pc' := 15) (mi_aload_n dX5_init_14 rfl) ?_
  refine Sg.go (pc' := 16) (mi_iload_n dX5_init_15 rfl) ?_
  refine Sg.goM (pc' := 19) (mi_pFD (r := 9) (k := 1) (t := 0) dX5_init_16 hC_9 (by decide) rfl rfl rfl rfl wF_X5_19 (by omega) rfl (by decide) (Or.inl ⟨rfl, rfl⟩)) ?_
  refine Sg.letD (fun D3 hD3 => ?_)
  exact Sg.ret (mi_return dX5_init_19 rfl (0, 0))
theorem C_X5_init {Z : MiZ} (hL : XL Z) (a0 a2 : Int) (D : MiD) (h0 : 0 ≤ a0) (b : MiM) (hb : B_X5_init a0 a2 D Z = some b) : MC m_X5_init [(11, a0), (12, 0), (0, a2)] (D, Z) (mi_LW b) := MC.ofSg (L := mi_LW) (μ := m_X5_init) (args := [(11, a0), (12, 0), (0, a2)]) (M := (D, Z)) rfl wP_X5 (Nat.le_of_ble_eq_true rfl) (show Sg m_X5_init 0 [(11, a0), (12, 0), (0, a2)] [] (D, Z) mi_LW (B_X5_init a0 a2 D Z) from S_X5_init a0 a2 D Z hL h0) hb
abbrev m_X5_skipBlanks : MiI := (yX5_skipBlanks, cX5_skipBlanks, 1, none, 1, none)
def B_X5_skipBlanks_0 (Z : MiZ) : Nat → Int → MiD → Option (MiD)
  | 0, _, _ => none
  | f + 1, v0, D => if (D 9 v0 1) ≤ (D 9 v0 2) then (some D) else (if 0 ≤ (Z.1 9 v0 0) ∧ (Z.1 9 v0 0) < 1 then (if 0 ≤ (D 9 v0 2) ∧ (D 9 v0 2) < 500 then (if (D 10 (Z.1 9 v0 0) (D 9 v0 2)) ≠ 32 then (some D) else (mi_let (mi_st D 9 v0 2 (mi_w ((D 9 v0 2) + 1))) fun D5 => B_X5_skipBlanks_0 Z f v0 D5)) else none) else none)
set_option maxRecDepth 20000 in
theorem S_X5_skipBlanks_0 {Z : MiZ} (hL : CL Z) : ∀ (f : Nat) (v0 : Int) (D : MiD), 0 ≤ v0 → Sg m_X5_skipBlanks 0 [(11, v0)] [] (D, Z) (mi_LV Z) (B_X5_skipBlanks_0 Z f v0 D) := by
  intro f
  induction f with
  | zero => intros; exact Sg.nope
  | succ f K0 =>
    intro v0 D hb0
    show Sg m_X5_skipBlanks 0 [(11, v0)] [] (D, Z) (mi_LV Z) (if (D 9 v0 1) ≤ (D 9 v0 2) then (some D) else (if 0 ≤ (Z.1 9 v0 0) ∧ (Z.1 9 v0 0) < 1 then (if 0 ≤ (D 9 v0 2) ∧ (D 9 v0 2) < 500 then (if (D 10 (Z.1 9 v0 0) (D 9 v0 2)) ≠ 32 then (some D) else (mi_let (mi_st D 9 v0 2 (mi_w ((D 9 v0 2) + 1))) fun D5 => B_X5_skipBlanks_0 Z f v0 D5)) else none) else none))
    refine Sg.go (pc' := 1) (mi_aload_n dX5_skipBlanks_0 rfl) ?_
    refine Sg.go (pc' := 4) (mi_gfI (r := 9) (k := 2) dX5_skipBlanks_1 hC_9 (by decide) rfl wF_X5_39 (by omega) rfl) ?_
    refine Sg.go (pc' := 5) (mi_aload_n dX5_skipBlanks_4 rfl) ?_
    refine Sg.go (pc' := 8) (mi_gfI (r := 9) (k := 1) dX5_skipBlanks_5 hC_9 (by decide) rfl wF_X5_19 (by omega) rfl) ?_
    refine Sg.ite (fun h1 => ?_) (fun h1 => ?_)
    · refine Sg.go (pc' := 38) (mi_icmpge_t (tgt := 38) dX5_skipBlanks_8 (by decide) h1) ?_
      exact Sg.ret (mi_return dX5_skipBlanks_38 rfl (0, 0))
    · refine Sg.go (pc' := 11) (mi_icmpge_f (tgt := 38) dX5_skipBlanks_8 (by decide) h1) ?_
      refine Sg.go (pc' := 12) (mi_aload_n dX5_skipBlanks_11 rfl) ?_
      refine Sg.go (pc' := 15) (mi_gfA (t := 10) (v := (Z.1 9 v0 0)) (r := 9) (k := 0) dX5_skipBlanks_12 hC_9 (by decide) rfl wF_X5_15 (by omega) rfl rfl) ?_
      refine Sg.go (pc' := 16) (mi_aload_n dX5_skipBlanks_15 rfl) ?_
      refine Sg.go (pc' := 19) (mi_gfI (r := 9) (k := 2) dX5_skipBlanks_16 hC_9 (by decide) rfl wF_X5_39 (by omega) rfl) ?_
      refine Sg.ck (fun hk2 => ?_)
      refine Sg.ck (fun hk3 => ?_)
      refine Sg.go (pc' := 20) (mi_bald (n := 500) dX5_skipBlanks_19 rfl rfl (by omega) hk3) ?_
      refine Sg.go (pc' := 22) (mi_bipush (z := 32) dX5_skipBlanks_20 rfl) ?_
      refine Sg.ite (fun h4 => ?_) (fun h4 => ?_)
      · refine Sg.go (pc' := 38) (mi_icmpne_t (tgt := 38) dX5_skipBlanks_22 (by decide) h4) ?_
        exact Sg.ret (mi_return dX5_skipBlanks_38 rfl (0, 0))
      · refine Sg.go (pc' := 25) (mi_icmpne_f (tgt := 38) dX5_skipBlanks_22 (by decide) h4) ?_
        refine Sg.go (pc' := 26) (mi_aload_n dX5_skipBlanks_25 rfl) ?_
        refine Sg.go (pc' := 27) (mi_dup dX5_skipBlanks_26 (show (11 : Nat) ≠ 1 by decide)) ?_
        refine Sg.go (pc' := 30) (mi_gfI (r := 9) (k := 2) dX5_skipBlanks_27 hC_9 (by decide) rfl wF_X5_39 (by omega) rfl) ?_
        refine Sg.go (pc' := 31) (mi_iconst (z := 1) dX5_skipBlanks_30 rfl) ?_
        refine Sg.go (pc' := 32) (mi_iadd dX5_skipBlanks_31) ?_
        refine Sg.goM (pc' := 35) (mi_pfD (r := 9) (k := 2) (t := 0) dX5_skipBlanks_32 hC_9 (by decide) rfl rfl wF_X5_39 (by omega) rfl (by decide) (Or.inl ⟨rfl, rfl⟩)) ?_
        refine Sg.letD (fun D5 hD5 => ?_)
        refine Sg.go (pc' := 0) (mi_goto (tgt := 0) dX5_skipBlanks_35 (by decide)) ?_
        exact K0 v0 D5 hb0
theorem C_X5_skipBlanks {Z : MiZ} (hL : CL Z) (a0 : Int) (D : MiD) (h0 : 0 ≤ a0) (b : MiD) (hb : B_X5_skipBlanks_0 Z mi_fuel a0 D = some b) : MC m_X5_skipBlanks [(11, a0)] (D, Z) ((mi_LV Z) b) := MC.ofSg (L := (mi_LV Z)) (μ := m_X5_skipBlanks) (args := [(11, a0)]) (M := (D, Z)) rfl wP_X5 (Nat.le_of_ble_eq_true rfl) (show Sg m_X5_skipBlanks 0 [(11, a0)] [] (D, Z) (mi_LV Z) (B_X5_skipBlanks_0 Z mi_fuel a0 D) from S_X5_skipBlanks_0 hL mi_fuel a0 D h0) hb
abbrev m_X5_wordEnd : MiI := (yX5_wordEnd, cX5_wordEnd, 2, (some .int), 1, none)
def B_X5_wordEnd_5 (D : MiD) (Z : MiZ) : Nat → Int → Int → Option (Int)
  | 0, _, _ => none
  | f + 1, v0, v1 => if (D 9 v0 1) ≤ v1 then (some v1) else (if 0 ≤ (Z.1 9 v0 0) ∧ (Z.1 9 v0 0) < 1 then (if 0 ≤ v1 ∧ v1 < 500 then (if (D 10 (Z.1 9 v0 0) v1) < 97 then (some v1) else (if 122 < (D 10 (Z.1 9 v0 0) v1) then (some v1) else (B_X5_wordEnd_5 D Z f v0 (mi_w (v1 + 1))))) else none) else none)
set_option maxRecDepth 20000 in
theorem S_X5_wordEnd_5 {D : MiD} {Z : MiZ} (hL : CL Z) : ∀ (f : Nat) (v0 v1 : Int), 0 ≤ v0 → Sg m_X5_wordEnd 5 [(11, v0), (0, v1)] [] (D, Z) (mi_LI 0 (D, Z)) (B_X5_wordEnd_5 D Z f v0 v1) := by
  intro f
  induction f with
  | zero => intros; exact Sg.nope
  | succ f K5 =>
    intro v0 v1 hb0
    show Sg m_X5_wordEnd 5 [(11, v0), (0, v1)] [] (D, Z) (mi_LI 0 (D, Z)) (if (D 9 v0 1) ≤ v1 then (some v1) else (if 0 ≤ (Z.1 9 v0 0) ∧ (Z.1 9 v0 0) < 1 then (if 0 ≤ v1 ∧ v1 < 500 then (if (D 10 (Z.1 9 v0 0) v1) < 97 then (some v1) else (if 122 < (D 10 (Z.1 9 v0 0) v1) then (some v1) else (B_X5_wordEnd_5 D Z f v0 (mi_w (v1 + 1))))) else none) else none))
    refine Sg.go (pc' := 6) (mi_iload_n dX5_wordEnd_5 rfl) ?_
    refine Sg.go (pc' := 7) (mi_aload_n dX5_wordEnd_6 rfl) ?_
    refine Sg.go (pc' := 10) (mi_gfI (r := 9) (k := 1) dX5_wordEnd_7 hC_9 (by decide) rfl wF_X5_19 (by omega) rfl) ?_
    refine Sg.ite (fun h1 => ?_) (fun h1 => ?_)
    · refine Sg.go (pc' := 41) (mi_icmpge_t (tgt := 41) dX5_wordEnd_10 (by decide) h1) ?_
      refine Sg.go (pc' := 42) (mi_iload_n dX5_wordEnd_41 rfl) ?_
      exact Sg.ret (mi_ireturn dX5_wordEnd_42 rfl (Or.inl rfl))
    · refine Sg.go (pc' := 13) (mi_icmpge_f (tgt := 41) dX5_wordEnd_10 (by decide) h1) ?_
      refine Sg.go (pc' := 14) (mi_aload_n dX5_wordEnd_13 rfl) ?_
      refine Sg.go (pc' := 17) (mi_gfA (t := 10) (v := (Z.1 9 v0 0)) (r := 9) (k := 0) dX5_wordEnd_14 hC_9 (by decide) rfl wF_X5_15 (by omega) rfl rfl) ?_
      refine Sg.go (pc' := 18) (mi_iload_n dX5_wordEnd_17 rfl) ?_
      refine Sg.ck (fun hk2 => ?_)
      refine Sg.ck (fun hk3 => ?_)
      refine Sg.go (pc' := 19) (mi_bald (n := 500) dX5_wordEnd_18 rfl rfl (by omega) hk3) ?_
      refine Sg.go (pc' := 21) (mi_bipush (z := 97) dX5_wordEnd_19 rfl) ?_
      refine Sg.ite (fun h4 => ?_) (fun h4 => ?_)
      · refine Sg.go (pc' := 41) (mi_icmplt_t (tgt := 41) dX5_wordEnd_21 (by decide) h4) ?_
        refine Sg.go (pc' := 42) (mi_iload_n dX5_wordEnd_41 rfl) ?_
        exact Sg.ret (mi_ireturn dX5_wordEnd_42 rfl (Or.inl rfl))
      · refine Sg.go (pc' := 24) (mi_icmplt_f (tgt := 41) dX5_wordEnd_21 (by decide) h4) ?_
        refine Sg.go (pc' := 25) (mi_aload_n dX5_wordEnd_24 rfl) ?_
        refine Sg.go (pc' := 28) (mi_gfA (t := 10) (v := (Z.1 9 v0 0)) (r := 9) (k := 0) dX5_wordEnd_25 hC_9 (by decide) rfl wF_X5_15 (by omega) rfl rfl) ?_
        refine Sg.go (pc' := 29) (mi_iload_n dX5_wordEnd_28 rfl) ?_
        refine Sg.go (pc' := 30) (mi_bald (n := 500) dX5_wordEnd_29 rfl rfl (by omega) hk3) ?_
        refine Sg.go (pc' := 32) (mi_bipush (z := 122) dX5_wordEnd_30 rfl) ?_
        refine Sg.ite (fun h5 => ?_) (fun h5 => ?_)
        · refine Sg.go (pc' := 41) (mi_icmpgt_t (tgt := 41) dX5_wordEnd_32 (by decide) h5) ?_
          refine Sg.go (pc' := 42) (mi_iload_n dX5_wordEnd_41 rfl) ?_
          exact Sg.ret (mi_ireturn dX5_wordEnd_42 rfl (Or.inl rfl))
        · refine Sg.go (pc' := 35) (mi_icmpgt_f (tgt := 41) dX5_wordEnd_32 (by decide) h5) ?_
          refine Sg.go (pc' := 38) (mi_iinc (z := 1) (ls1 := [(11, v0), (0, (mi_w (v1 + 1)))]) dX5_wordEnd_35 (by decide) rfl rfl rfl) ?_
          refine Sg.go (pc' := 5) (mi_goto (tgt := 5) dX5_wordEnd_38 (by decide)) ?_
          exact K5 v0 (mi_w (v1 + 1)) hb0
def B_X5_wordEnd (D : MiD) (Z : MiZ) (v0 : Int) : Option (Int) := B_X5_wordEnd_5 D Z mi_fuel v0 (D 9 v0 2)
set_option maxRecDepth 20000 in
theorem S_X5_wordEnd {D : MiD} {Z : MiZ} (hL : CL Z) (v0 : Int) : 0 ≤ v0 → Sg m_X5_wordEnd 0 [(11, v0), mi_un] [] (D, Z) (mi_LI 0 (D, Z)) (B_X5_wordEnd D Z v0) := by
  intro hb0
  unfold B_X5_wordEnd
  refine Sg.go (pc' := 1) (mi_aload_n dX5_wordEnd_0 rfl) ?_
  refine Sg.go (pc' := 4) (mi_gfI (r := 9) (k := 2) dX5_wordEnd_1 hC_9 (by decide) rfl wF_X5_39 (by omega) rfl) ?_
  refine Sg.go (pc' := 5) (mi_istore_n (ls1 := [(11, v0), (0, (D 9 v0 2))]) dX5_wordEnd_4 (by decide) rfl) ?_
  exact S_X5_wordEnd_5 hL mi_fuel v0 (D 9 v0 2) hb0
theorem C_X5_wordEnd {Z : MiZ} (hL : CL Z) (a0 : Int) (D : MiD) (h0 : 0 ≤ a0) (b : Int) (hb : B_X5_wordEnd D Z a0 = some b) : MC m_X5_wordEnd [(11, a0)] (D, Z) ((mi_LI 0 (D, Z)) b) := MC.ofSg (L := (mi_LI 0 (D, Z))) (μ := m_X5_wordEnd) (args := [(11, a0)]) (M := (D, Z)) rfl wP_X5 (Nat.le_of_ble_eq_true rfl) (show Sg m_X5_wordEnd 0 [(11, a0), mi_un] [] (D, Z) (mi_LI 0 (D, Z)) (B_X5_wordEnd D Z a0) from S_X5_wordEnd hL a0 h0) hb
abbrev m_X6_blankFrom : MiI := (yX6_blankFrom, cX6_blankFrom, 3, none, 1, none)
def B_X6_blankFrom_30 (k2 : Int → Int → MiD → Option (MiD)) (v0 : Int) (v2 : Int) (s0 : Int) (s1 : Int) (s2 : Int) (D : MiD) : Option (MiD) := if 0 ≤ s0 ∧ s0 < 120 then (if 0 ≤ s1 ∧ s1 < 9 then (mi_let (mi_st D 17 s0 s1 s2) fun D3 => if 0 ≤ v2 ∧ v2 < 9 then (mi_let (mi_st D3 18 v0 v2 0) fun D5 => k2 v0 (mi_w (v2 + 1)) D5) else none) else none) else none
set_option maxRecDepth 20000 in
theorem S_X6_blankFrom_30 {Z : MiZ} (hL : CL Z) {k2 : Int → Int → MiD → Option (MiD)} (K2 : ∀ (v0 v2 : Int) (D : MiD), (0 ≤ v0 ∧ v0 < 120) → Sg m_X6_blankFrom 2 [(5, v0), mi_un, (0, v2)] [] (D, Z) (mi_LV Z) (k2 v0 v2 D)) (v0 v2 s0 s1 s2 : Int) (D : MiD) : (0 ≤ v0 ∧ v0 < 120) → Sg m_X6_blankFrom 30 [(5, v0), mi_un, (0, v2)] [(0, s2), (0, s1), (19, s0)] (D, Z) (mi_LV Z) (B_X6_blankFrom_30 k2 v0 v2 s0 s1 s2 D) := by
  intro hb0
  unfold B_X6_blankFrom_30
  refine Sg.ck (fun hk1 => ?_)
  refine Sg.ck (fun hk2 => ?_)
  refine Sg.goM (pc' := 31) (mi_iast (n := 9) dX6_blankFrom_30 rfl rfl (by omega) hk2) ?_
  refine Sg.letD (fun D3 hD3 => ?_)
  refine Sg.go (pc' := 32) (mi_aload_n dX6_blankFrom_31 rfl) ?_
  refine Sg.go (pc' := 35) (mi_gfA (t := 18) (v := v0) (r := 3) (k := 3) dX6_blankFrom_32 hC_3 (by decide) rfl wF_X6_19 (by omega) rfl (hL.2.2.2.1 _ 3 (by omega) (by omega) (by decide) (by decide))) ?_
  refine Sg.go (pc' := 36) (mi_iload_n dX6_blankFrom_35 rfl) ?_
  refine Sg.go (pc' := 37) (mi_lconst (z := 0) dX6_blankFrom_36 rfl) ?_
  refine Sg.ck (fun hk4 => ?_)
  refine Sg.goM (pc' := 38) (mi_last (n := 9) dX6_blankFrom_37 rfl rfl (by omega) hk4) ?_
  refine Sg.letD (fun D5 hD5 => ?_)
  refine Sg.go (pc' := 41) (mi_iinc (z := 1) (ls1 := [(5, v0), mi_un, (0, (mi_w (v2 + 1)))]) dX6_blankFrom_38 (by decide) rfl rfl rfl) ?_
  refine Sg.go (pc' := 2) (mi_goto (tgt := 2) dX6_blankFrom_41 (by decide)) ?_
  exact K2 v0 (mi_w (v2 + 1)) D5 hb0
def B_X6_blankFrom_2 : Nat → Int → Int → MiD → Option (MiD)
  | 0, _, _, _ => none
  | f + 1, v0, v2, D => if 9 ≤ v2 then (some D) else (if 8 ≤ (D 3 v0 0) then (B_X6_blankFrom_30 (B_X6_blankFrom_2 f) v0 v2 v0 v2 (-1) D) else (B_X6_blankFrom_30 (B_X6_blankFrom_2 f) v0 v2 v0 v2 (D 3 v0 0) D))
set_option maxRecDepth 20000 in
theorem S_X6_blankFrom_2 {Z : MiZ} (hL : CL Z) : ∀ (f : Nat) (v0 v2 : Int) (D : MiD), (0 ≤ v0 ∧ v0 < 120) → Sg m_X6_blankFrom 2 [(5, v0), mi_un, (0, v2)] [] (D, Z) (mi_LV Z) (B_X6_blankFrom_2 f v0 v2 D) := by
  intro f
  induction f with
  | zero => intros; exact Sg.nope
  | succ f K2 =>
    intro v0 v2 D hb0
    show Sg m_X6_blankFrom 2 [(5, v0), mi_un, (0, v2)] [] (D, Z) (mi_LV Z) (if 9 ≤ v2 then (some D) else (if 8 ≤ (D 3 v0 0) then (B_X6_blankFrom_30 (B_X6_blankFrom_2 f) v0 v2 v0 v2 (-1) D) else (B_X6_blankFrom_30 (B_X6_blankFrom_2 f) v0 v2 v0 v2 (D 3 v0 0) D)))
    refine Sg.go (pc' := 3) (mi_iload_n dX6_blankFrom_2 rfl) ?_
    refine Sg.go (pc' := 5) (mi_bipush (z := 9) dX6_blankFrom_3 rfl) ?_
    refine Sg.ite (fun h1 => ?_) (fun h1 => ?_)
    · refine Sg.go (pc' := 44) (mi_icmpge_t (tgt := 44) dX6_blankFrom_5 (by decide) h1) ?_
      exact Sg.ret (mi_return dX6_blankFrom_44 rfl (0, 0))
    · refine Sg.go (pc' := 8) (mi_icmpge_f (tgt := 44) dX6_blankFrom_5 (by decide) h1) ?_
      refine Sg.go (pc' := 9) (mi_aload_n dX6_blankFrom_8 rfl) ?_
      refine Sg.go (pc' := 12) (mi_gfA (t := 17) (v := v0) (r := 3) (k := 2) dX6_blankFrom_9 hC_3 (by decide) rfl wF_X6_15 (by omega) rfl (hL.2.2.2.1 _ 2 (by omega) (by omega) (by decide) (by decide))) ?_
      refine Sg.go (pc' := 13) (mi_iload_n dX6_blankFrom_12 rfl) ?_
      refine Sg.go (pc' := 14) (mi_aload_n dX6_blankFrom_13 rfl) ?_
      refine Sg.go (pc' := 17) (mi_gfI (r := 3) (k := 0) dX6_blankFrom_14 hC_3 (by decide) rfl wF_X6_9 (by omega) rfl) ?_
      refine Sg.go (pc' := 19) (mi_bipush (z := 8) dX6_blankFrom_17 rfl) ?_
      refine Sg.ite (fun h2 => ?_) (fun h2 => ?_)
      · refine Sg.go (pc' := 29) (mi_icmpge_t (tgt := 29) dX6_blankFrom_19 (by decide) h2) ?_
        refine Sg.go (pc' := 30) (mi_iconst (z := (-1)) dX6_blankFrom_29 rfl) ?_
        exact S_X6_blankFrom_30 hL K2 v0 v2 v0 v2 (-1) D hb0
      · refine Sg.go (pc' := 22) (mi_icmpge_f (tgt := 29) dX6_blankFrom_19 (by decide) h2) ?_
        refine Sg.go (pc' := 23) (mi_aload_n dX6_blankFrom_22 rfl) ?_
        refine Sg.go (pc' := 26) (mi_gfI (r := 3) (k := 0) dX6_blankFrom_23 hC_3 (by decide) rfl wF_X6_9 (by omega) rfl) ?_
        refine Sg.go (pc' := 30) (mi_goto (tgt := 30) dX6_blankFrom_26 (by decide)) ?_
        exact S_X6_blankFrom_30 hL K2 v0 v2 v0 v2 (D 3 v0 0) D hb0
def B_X6_blankFrom (v0 : Int) (v1 : Int) (D : MiD) : Option (MiD) := B_X6_blankFrom_2 mi_fuel v0 v1 D
set_option maxRecDepth 20000 in
theorem S_X6_blankFrom {Z : MiZ} (hL : CL Z) (v0 v1 : Int) (D : MiD) : (0 ≤ v0 ∧ v0 < 120) → Sg m_X6_blankFrom 0 [(5, v0), (0, v1), mi_un] [] (D, Z) (mi_LV Z) (B_X6_blankFrom v0 v1 D) := by
  intro hb0
  unfold B_X6_blankFrom
  refine Sg.go (pc' := 1) (mi_iload_n dX6_blankFrom_0 rfl) ?_
  refine Sg.go (pc' := 2) (mi_istore_n (ls1 := [(5, v0), (0, v1), (0, v1)]) dX6_blankFrom_1 (by decide) rfl) ?_
  refine Sg.go (pc' := 2) (MiStep.weak (ls' := [(5, v0), mi_un, (0, v1)]) (mi_wk_y (mi_wk_n (mi_wk_y mi_wk_0)))) ?_
  exact S_X6_blankFrom_2 hL mi_fuel v0 v1 D hb0
theorem C_X6_blankFrom {Z : MiZ} (hL : CL Z) (a0 a1 : Int) (D : MiD) (h0 : (0 ≤ a0 ∧ a0 < 120)) (b : MiD) (hb : B_X6_blankFrom a0 a1 D = some b) : MC m_X6_blankFrom [(5, a0), (0, a1)] (D, Z) ((mi_LV Z) b) := MC.ofSg (L := (mi_LV Z)) (μ := m_X6_blankFrom) (args := [(5, a0), (0, a1)]) (M := (D, Z)) rfl wP_X6 (Nat.le_of_ble_eq_true rfl) (show Sg m_X6_blankFrom 0 [(5, a0), (0, a1), mi_un] [] (D, Z) (mi_LV Z) (B_X6_blankFrom a0 a1 D) from S_X6_blankFrom hL a0 a1 D h0) hb
abbrev m_X6_copyFrom : MiI := (yX6_copyFrom, cX6_copyFrom, 2, none, 1, none)
def B_X6_copyFrom (v0 : Int) (v1 : Int) (D : MiD) : Option (MiD) := mi_let (mi_st D 3 v0 0 (D 3 v1 0)) fun D1 => mi_let (mi_st D1 3 v0 1 (D1 3 v1 1)) fun D2 => mi_let (mi_cp D2 17 v1 v0) fun D3 => mi_let (mi_cp D3 18 v1 v0) fun D4 => some D4
set_option maxRecDepth 20000 in
theorem S_X6_copyFrom {Z : MiZ} (hL : CL Z) (v0 v1 : Int) (D : MiD) : (0 ≤ v0 ∧ v0 < 120) → (0 ≤ v1 ∧ v1 < 120) → Sg m_X6_copyFrom 0 [(5, v0), (5, v1)] [] (D, Z) (mi_LV Z) (B_X6_copyFrom v0 v1 D) := by
  intro hb0 hb1
  unfold B_X6_copyFrom
  refine Sg.go (pc' := 1) (mi_aload_n dX6_copyFrom_0 rfl) ?_
  refine Sg.go (pc' := 2) (mi_aload_n dX6_copyFrom_1 rfl) ?_
  refine Sg.go (pc' := 5) (mi_gfI (r := 3) (k := 0) dX6_copyFrom_2 hC_3 (by decide) rfl wF_X6_9 (by omega) rfl) ?_
  refine Sg.goM (pc' := 8) (mi_pfD (r := 3) (k := 0) (t := 0) dX6_copyFrom_5 hC_3 (by decide) rfl rfl wF_X6_9 (by omega) rfl (by decide) (Or.inl ⟨rfl, rfl⟩)) ?_
  refine Sg.letD (fun D1 hD1 => ?_)
  refine Sg.go (pc' := 9) (mi_aload_n dX6_copyFrom_8 rfl) ?_
  refine Sg.go (pc' := 10) (mi_aload_n dX6_copyFrom_9 rfl) ?_
  refine Sg.go (pc' := 13) (mi_gfI (r := 3) (k := 1) dX6_copyFrom_10 hC_3 (by decide) rfl wF_X6_23 (by omega) rfl) ?_
  refine Sg.goM (pc' := 16) (mi_pfD (r := 3) (k := 1) (t := 0) dX6_copyFrom_13 hC_3 (by decide) rfl rfl wF_X6_23 (by omega) rfl (by decide) (Or.inl ⟨rfl, rfl⟩)) ?_
  refine Sg.letD (fun D2 hD2 => ?_)
  refine Sg.go (pc' := 17) (mi_aload_n dX6_copyFrom_16 rfl) ?_
  refine Sg.go (pc' := 20) (mi_gfA (t := 17) (v := v1) (r := 3) (k := 2) dX6_copyFrom_17 hC_3 (by decide) rfl wF_X6_15 (by omega) rfl (hL.2.2.2.1 _ 2 (by omega) (by omega) (by decide) (by decide))) ?_
  refine Sg.go (pc' := 21) (mi_iconst (z := 0) dX6_copyFrom_20 rfl) ?_
  refine Sg.go (pc' := 22) (mi_aload_n dX6_copyFrom_21 rfl) ?_
  refine Sg.go (pc' := 25) (mi_gfA (t := 17) (v := v0) (r := 3) (k := 2) dX6_copyFrom_22 hC_3 (by decide) rfl wF_X6_15 (by omega) rfl (hL.2.2.2.1 _ 2 (by omega) (by omega) (by decide) (by decide))) ?_
  refine Sg.go (pc' := 26) (mi_iconst (z := 0) dX6_copyFrom_25 rfl) ?_
  refine Sg.go (pc' := 28) (mi_bipush (z := 9) dX6_copyFrom_26 rfl) ?_
  refine Sg.goM (pc' := 31) (mi_cpI (r := 17) dX6_copyFrom_28 rfl wL_X6_30 wV_copy wT_copy wB_System (by decide) (Nat.le_of_ble_eq_true rfl) rfl (by omega) (by omega)) ?_
  refine Sg.letD (fun D3 hD3 => ?_)
  refine Sg.go (pc' := 32) (mi_aload_n dX6_copyFrom_31 rfl) ?_
  refine Sg.go (pc' := 35) (mi_gfA (t := 18) (v := v1) (r := 3) (k := 3) dX6_copyFrom_32 hC_3 (by decide) rfl wF_X6_19 (by omega) rfl (hL.2.2.2.1 _ 3 (by omega) (by omega) (by decide) (by decide))) ?_
  refine Sg.go (pc' := 36) (mi_iconst (z := 0) dX6_copyFrom_35 rfl) ?_
  refine Sg.go (pc' := 37) (mi_aload_n dX6_copyFrom_36 rfl) ?_
  refine Sg.go (pc' := 40) (mi_gfA (t := 18) (v := v0) (r := 3) (k := 3) dX6_copyFrom_37 hC_3 (by decide) rfl wF_X6_19 (by omega) rfl (hL.2.2.2.1 _ 3 (by omega) (by omega) (by decide) (by decide))) ?_
  refine Sg.go (pc' := 41) (mi_iconst (z := 0) dX6_copyFrom_40 rfl) ?_
  refine Sg.go (pc' := 43) (mi_bipush (z := 9) dX6_copyFrom_41 rfl) ?_
  refine Sg.goM (pc' := 46) (mi_cpJ (r := 18) dX6_copyFrom_43 rfl wL_X6_30 wV_copy wT_copy wB_System (by decide) (Nat.le_of_ble_eq_true rfl) rfl (by omega) (by omega)) ?_
  refine Sg.letD (fun D4 hD4 => ?_)
  exact Sg.ret (mi_return dX6_copyFrom_46 rfl (0, 0))
theorem C_X6_copyFrom {Z : MiZ} (hL : CL Z) (a0 a1 : Int) (D : MiD) (h0 : (0 ≤ a0 ∧ a0 < 120)) (h1 : (0 ≤ a1 ∧ a1 < 120)) (b : MiD) (hb : B_X6_copyFrom a0 a1 D = some b) : MC m_X6_copyFrom [(5, a0), (5, a1)] (D, Z) ((mi_LV Z) b) := MC.ofSg (L := (mi_LV Z)) (μ := m_X6_copyFrom) (args := [(5, a0), (5, a1)]) (M := (D, Z)) rfl wP_X6 (Nat.le_of_ble_eq_true rfl) (show Sg m_X6_copyFrom 0 [(5, a0), (5, a1)] [] (D, Z) (mi_LV Z) (B_X6_copyFrom a0 a1 D) from S_X6_copyFrom hL a0 a1 D h0 h1) hb
abbrev m_X6_init : MiI := (yX6_init, cX6_init, 1, none, 1, none)
def B_X6_init (v0 : Int) (D : MiD) (Z : MiZ) : Option (MiM) := mi_let (mi_st D 3 v0 0 12) fun D1 => if 0 ≤ Z.2 17 then mi_nl D1 Z 17 9 (fun D2 Z3 => mi_let (mi_st Z3.1 3 v0 2 (Z.2 17), Z3.2) fun Z5 => if 0 ≤ Z5.2 18 then mi_nl D2 Z5 18 9 (fun D6 Z7 => mi_let (mi_st Z7.1 3 v0 3 (Z5.2 18), Z7.2) fun Z9 => some (D6, Z9)) else none) else none
set_option maxRecDepth 20000 in
theorem S_X6_init  (v0 : Int) (D : MiD) (Z : MiZ) (hL : XL Z) : 0 ≤ v0 → Sg m_X6_init 0 [(5, v0)] [] (D, Z) mi_LW (B_X6_init v0 D Z) := by
  intro hb0
  unfold B_X6_init
  refine Sg.go (pc' := 1) (mi_aload_n dX6_init_0 rfl) ?_
  refine Sg.go (pc' := 4) (mi_objInit dX6_init_1 wL_X6_3 wI_obj wC_obj (by decide) (by omega) (Nat.le_of_ble_eq_true rfl)) ?_
  refine Sg.go (pc' := 5) (mi_aload_n dX6_init_4 rfl) ?_
  refine Sg.go (pc' := 7) (mi_bipush (z := 12) dX6_init_5 rfl) ?_
  refine Sg.goM (pc' := 10) (mi_pfD (r := 3) (k := 0) (t := 0) dX6_init_7 hC_3 (by decide) rfl rfl wF_X6_9 (by omega) rfl (by decide) (Or.inl ⟨rfl, rfl⟩)) ?_
  refine Sg.letD (fun D1 hD1 => ?_)
  refine Sg.go (pc' := 11) (mi_aload_n dX6_init_10 rfl) ?_
  refine Sg.go (pc' := 13) (mi_bipush (z := 9) dX6_init_11 rfl) ?_
  refine Sg.nl (pc' := 15) (r := 17) (n := 9) (mi_newarrI (r := 17) dX6_init_13 rfl wA_int rfl rfl (by decide)) (by decide) (fun hk4 D2 Z3 => ?_)
  have hL : XL Z3 := trivial
  refine Sg.goM (pc' := 18) (mi_pFA (r := 3) (k := 2) (t := 17) dX6_init_15 hC_3 (by decide) rfl rfl rfl rfl wF_X6_15 (by omega) rfl (Or.inr (Or.inr (Or.inr ⟨by show 2 ≤ (17 : Nat) + 2; omega, by first | exact Or.inl ⟨_, rfl⟩ | exact Or.inr ⟨_, rfl⟩⟩)))) ?_
  refine Sg.letZ (fun Z5 hZ5 => ?_)
  have hL : XL Z5 := trivial
  refine Sg.go (pc' := 19) (mi_aload_n dX6_init_18 rfl) ?_
  refine Sg.go (pc' := 21) (mi_bipush (z := 9) dX6_init_19 rfl) ?_
  refine Sg.nl (pc' := 23) (r := 18) (n := 9) (mi_newarrJ (r := 18) dX6_init_21 rfl wA_long rfl rfl (by decide)) (by decide) (fun hk8 D6 Z7 => ?_)
  have hL : XL Z7 := trivial
  refine Sg.goM (pc' := 26) (mi_pFA (r := 3) (k := 3) (t := 18) dX6_init_23 hC_3 (by decide) rfl rfl rfl rfl wF_X6_19 (by omega) rfl (Or.inr (Or.inr (Or.inr ⟨by show 2 ≤ (18 : Nat) + 2; omega, by first | exact Or.inl ⟨_, rfl⟩ | exact Or.inr ⟨_, rfl⟩⟩)))) ?_
  refine Sg.letZ (fun Z9 hZ9 => ?_)
  have hL : XL Z9 := trivial
  exact Sg.ret (mi_return dX6_init_26 rfl (0, 0))
theorem C_X6_init {Z : MiZ} (hL : XL Z) (a0 : Int) (D : MiD) (h0 : 0 ≤ a0) (b : MiM) (hb : B_X6_init a0 D Z = some b) : MC m_X6_init [(5, a0)] (D, Z) (mi_LW b) := MC.ofSg (L := mi_LW) (μ := m_X6_init) (args := [(5, a0)]) (M := (D, Z)) rfl wP_X6 (Nat.le_of_ble_eq_true rfl) (show Sg m_X6_init 0 [(5, a0)] [] (D, Z) mi_LW (B_X6_init a0 D Z) from S_X6_init a0 D Z hL h0) hb
abbrev m_X6_isRow : MiI := (yX6_isRow, cX6_isRow, 1, (some .boolean), 1, none)
def B_X6_isRow (D : MiD) (v0 : Int) : Option (Int) := if 11 ≤ (D 3 v0 0) then (some 0) else (some 1)
set_option maxRecDepth 20000 in
theorem S_X6_isRow {D : MiD} {Z : MiZ} (hL : CL Z) (v0 : Int) : (0 ≤ v0 ∧ v0 < 120) → Sg m_X6_isRow 0 [(5, v0)] [] (D, Z) (mi_LI 0 (D, Z)) (B_X6_isRow D v0) := by
  intro hb0
  unfold B_X6_isRow
  refine Sg.go (pc' := 1) (mi_aload_n dX6_isRow_0 rfl) ?_
  refine Sg.go (pc' := 4) (mi_gfI (r := 3) (k := 0) dX6_isRow_1 hC_3 (by decide) rfl wF_X6_9 (by omega) rfl) ?_
  refine Sg.go (pc' := 6) (mi_bipush (z := 11) dX6_isRow_4 rfl) ?_
  refine Sg.ite (fun h1 => ?_) (fun h1 => ?_)
  · refine Sg.go (pc' := 13) (mi_icmpge_t (tgt := 13) dX6_isRow_6 (by decide) h1) ?_
    refine Sg.go (pc' := 14) (mi_iconst (z := 0) dX6_isRow_13 rfl) ?_
    exact Sg.ret (mi_ireturn dX6_isRow_14 rfl (Or.inr (Or.inl ⟨rfl, Or.inl rfl⟩)))
  · refine Sg.go (pc' := 9) (mi_icmpge_f (tgt := 13) dX6_isRow_6 (by decide) h1) ?_
    refine Sg.go (pc' := 10) (mi_iconst (z := 1) dX6_isRow_9 rfl) ?_
    refine Sg.go (pc' := 14) (mi_goto (tgt := 14) dX6_isRow_10 (by decide)) ?_
    exact Sg.ret (mi_ireturn dX6_isRow_14 rfl (Or.inr (Or.inl ⟨rfl, Or.inr rfl⟩)))
theorem C_X6_isRow {Z : MiZ} (hL : CL Z) (a0 : Int) (D : MiD) (h0 : (0 ≤ a0 ∧ a0 < 120)) (b : Int) (hb : B_X6_isRow D a0 = some b) : MC m_X6_isRow [(5, a0)] (D, Z) ((mi_LI 0 (D, Z)) b) := MC.ofSg (L := (mi_LI 0 (D, Z))) (μ := m_X6_isRow) (args := [(5, a0)]) (M := (D, Z)) rfl wP_X6 (Nat.le_of_ble_eq_true rfl) (show Sg m_X6_isRow 0 [(5, a0)] [] (D, Z) (mi_LI 0 (D, Z)) (B_X6_isRow D a0) from S_X6_isRow hL a0 h0) hb
abbrev m_X7_dropAll : MiI := (yX7_dropAll, cX7_dropAll, 1, none, 1, none)
def B_X7_dropAll (v0 : Int) (D : MiD) : Option (MiD) := mi_let (mi_st D 4 v0 4 0) fun D1 => mi_let (mi_st D1 4 v0 5 0) fun D2 => some D2
set_option maxRecDepth 20000 in
theorem S_X7_dropAll {Z : MiZ} (hL : CL Z) (v0 : Int) (D : MiD) : (0 ≤ v0 ∧ v0 < 12) → Sg m_X7_dropAll 0 [(6, v0)] [] (D, Z) (mi_LV Z) (B_X7_dropAll v0 D) := by
  intro hb0
  unfold B_X7_dropAll
  refine Sg.go (pc' := 1) (mi_aload_n dX7_dropAll_0 rfl) ?_
  refine Sg.go (pc' := 2) (mi_iconst (z := 0) dX7_dropAll_1 rfl) ?_
  refine Sg.goM (pc' := 5) (mi_pfD (r := 4) (k := 4) (t := 0) dX7_dropAll_2 hC_4 (by decide) rfl rfl wF_X7_31 (by omega) rfl (by decide) (Or.inl ⟨rfl, rfl⟩)) ?_
  refine Sg.letD (fun D1 hD1 => ?_)
  refine Sg.go (pc' := 6) (mi_aload_n dX7_dropAll_5 rfl) ?_
  refine Sg.go (pc' := 7) (mi_iconst (z := 0) dX7_dropAll_6 rfl) ?_
  refine Sg.goM (pc' := 10) (mi_pfD (r := 4) (k := 5) (t := 0) dX7_dropAll_7 hC_4 (by decide) rfl rfl wF_X7_41 (by omega) rfl (by decide) (Or.inl ⟨rfl, rfl⟩)) ?_
  refine Sg.letD (fun D2 hD2 => ?_)
  exact Sg.ret (mi_return dX7_dropAll_10 rfl (0, 0))
theorem C_X7_dropAll {Z : MiZ} (hL : CL Z) (a0 : Int) (D : MiD) (h0 : (0 ≤ a0 ∧ a0 < 12)) (b : MiD) (hb : B_X7_dropAll a0 D = some b) : MC m_X7_dropAll [(6, a0)] (D, Z) ((mi_LV Z) b) := MC.ofSg (L := (mi_LV Z)) (μ := m_X7_dropAll) (args := [(6, a0)]) (M := (D, Z)) rfl wP_X7 (Nat.le_of_ble_eq_true rfl) (show Sg m_X7_dropAll 0 [(6, a0)] [] (D, Z) (mi_LV Z) (B_X7_dropAll a0 D) from S_X7_dropAll hL a0 D h0) hb
abbrev m_X7_pop : MiI := (yX7_pop, cX7_pop, 1, none, 1, none)
def B_X7_pop (v0 : Int) (D : MiD) : Option (MiD) := mi_let (mi_st D 4 v0 4 (mi_max (mi_w ((D 4 v0 4) - 1)) 0)) fun D1 => some D1
set_option maxRecDepth 20000 in
theorem S_X7_pop {Z : MiZ} (hL : CL Z) (v0 : Int) (D : MiD) : (0 ≤ v0 ∧ v0 < 12) → Sg m_X7_pop 0 [(6, v0)] [] (D, Z) (mi_LV Z) (B_X7_pop v0 D) := by
  intro hb0
  unfold B_X7_pop
  refine Sg.go (pc' := 1) (mi_aload_n dX7_pop_0 rfl) ?_
  refine Sg.go (pc' := 2) (mi_aload_n dX7_pop_1 rfl) ?_
  refine Sg.go (pc' := 5) (mi_gfI (r := 4) (k := 4) dX7_pop_2 hC_4 (by decide) rfl wF_X7_31 (by omega) rfl) ?_
  refine Sg.go (pc' := 6) (mi_iconst (z := 1) dX7_pop_5 rfl) ?_
  refine Sg.go (pc' := 7) (mi_isub dX7_pop_6) ?_
  refine Sg.go (pc' := 8) (mi_iconst (z := 0) dX7_pop_7 rfl) ?_
  refine Sg.goB (pc' := 11) (mi_maxS dX7_pop_8 wL_X7_35 wT_max wB_Math wC_max (by decide) (Nat.le_of_ble_eq_true rfl)) ?_
  refine Sg.goM (pc' := 14) (mi_pfD (r := 4) (k := 4) (t := 0) dX7_pop_11 hC_4 (by decide) rfl rfl wF_X7_31 (by omega) rfl (by decide) (Or.inl ⟨rfl, rfl⟩)) ?_
  refine Sg.letD (fun D1 hD1 => ?_)
  exact Sg.ret (mi_return dX7_pop_14 rfl (0, 0))
theorem C_X7_pop {Z : MiZ} (hL : CL Z) (a0 : Int) (D : MiD) (h0 : (0 ≤ a0 ∧ a0 < 12)) (b : MiD) (hb : B_X7_pop a0 D = some b) : MC m_X7_pop [(6, a0)] (D, Z) ((mi_LV Z) b) := MC.ofSg (L := (mi_LV Z)) (μ := m_X7_pop) (args := [(6, a0)]) (M := (D, Z)) rfl wP_X7 (Nat.le_of_ble_eq_true rfl) (show Sg m_X7_pop 0 [(6, a0)] [] (D, Z) (mi_LV Z) (B_X7_pop a0 D) from S_X7_pop hL a0 D h0) hb
abbrev m_X7_push : MiI := (yX7_push, cX7_push, 3, (some .boolean), 1, none)
def B_X7_push (v0 : Int) (v1 : Int) (v2 : Int) (D : MiD) : Option (Int × MiD) := if (D 4 v0 4) < 10 then (if 0 ≤ (D 4 v0 4) ∧ (D 4 v0 4) < 10 then (mi_let (mi_st D 19 v0 (D 4 v0 4) v1) fun D3 => if 0 ≤ (D3 4 v0 4) ∧ (D3 4 v0 4) < 10 then (mi_let (mi_st D3 20 v0 (D3 4 v0 4) v2) fun D5 => if 0 ≤ (D5 4 v0 4) ∧ (D5 4 v0 4) < 10 then (mi_let (mi_st D5 21 v0 (D5 4 v0 4) 0) fun D7 => if 0 ≤ (D7 4 v0 4) ∧ (D7 4 v0 4) < 10 then (mi_let (mi_st D7 22 v0 (D7 4 v0 4) 0) fun D9 => mi_let (mi_st D9 4 v0 4 (mi_w ((D9 4 v0 4) + 1))) fun D10 => some (1, D10)) else none) else none) else none) else none) else (some (0, D))
set_option maxRecDepth 20000 in
theorem S_X7_push {Z : MiZ} (hL : CL Z) (v0 v1 v2 : Int) (D : MiD) : (0 ≤ v0 ∧ v0 < 12) → Sg m_X7_push 0 [(6, v0), (0, v1), (0, v2)] [] (D, Z) (mi_LD 0 Z) (B_X7_push v0 v1 v2 D) := by
  intro hb0
  unfold B_X7_push
  refine Sg.go (pc' := 1) (mi_aload_n dX7_push_0 rfl) ?_
  refine Sg.go (pc' := 4) (mi_gfI (r := 4) (k := 4) dX7_push_1 hC_4 (by decide) rfl wF_X7_31 (by omega) rfl) ?_
  refine Sg.go (pc' := 6) (mi_bipush (z := 10) dX7_push_4 rfl) ?_
  refine Sg.ite (fun h1 => ?_) (fun h1 => ?_)
  · refine Sg.go (pc' := 11) (mi_icmplt_t (tgt := 11) dX7_push_6 (by decide) h1) ?_
    refine Sg.go (pc' := 12) (mi_aload_n dX7_push_11 rfl) ?_
    refine Sg.go (pc' := 15) (mi_gfA (t := 19) (v := v0) (r := 4) (k := 0) dX7_push_12 hC_4 (by decide) rfl wF_X7_9 (by omega) rfl (hL.2.2.2.2.1 _ 0 (by omega) (by omega) (by decide))) ?_
    refine Sg.go (pc' := 16) (mi_aload_n dX7_push_15 rfl) ?_
    refine Sg.go (pc' := 19) (mi_gfI (r := 4) (k := 4) dX7_push_16 hC_4 (by decide) rfl wF_X7_31 (by omega) rfl) ?_
    refine Sg.go (pc' := 20) (mi_iload_n dX7_push_19 rfl) ?_
    refine Sg.ck (fun hk2 => ?_)
    refine Sg.goM (pc' := 21) (mi_iast (n := 10) dX7_push_20 rfl rfl (by omega) hk2) ?_
    refine Sg.letD (fun D3 hD3 => ?_)
    refine Sg.go (pc' := 22) (mi_aload_n dX7_push_21 rfl) ?_
    refine Sg.go (pc' := 25) (mi_gfA (t := 20) (v := v0) (r := 4) (k := 1) dX7_push_22 hC_4 (by decide) rfl wF_X7_15 (by omega) rfl (hL.2.2.2.2.1 _ 1 (by omega) (by omega) (by decide))) ?_
    refine Sg.go (pc' := 26) (mi_aload_n dX7_push_25 rfl) ?_
    refine Sg.go (pc' := 29) (mi_gfI (r := 4) (k := 4) dX7_push_26 hC_4 (by decide) rfl wF_X7_31 (by omega) rfl) ?_
    refine Sg.go (pc' := 30) (mi_iload_n dX7_push_29 rfl) ?_
    refine Sg.ck (fun hk4 => ?_)
    refine Sg.goM (pc' := 31) (mi_iast (n := 10) dX7_push_30 rfl rfl (by omega) hk4) ?_
    refine Sg.letD (fun D5 hD5 => ?_)
    refine Sg.go (pc' := 32) (mi_aload_n dX7_push_31 rfl) ?_
    refine Sg.go (pc' := 35) (mi_gfA (t := 21) (v := v0) (r := 4) (k := 2) dX7_push_32 hC_4 (by decide) rfl wF_X7_18 (by omega) rfl (hL.2.2.2.2.1 _ 2 (by omega) (by omega) (by decide))) ?_
    refine Sg.go (pc' := 36) (mi_aload_n dX7_push_35 rfl) ?_
    refine Sg.go (pc' := 39) (mi_gfI (r := 4) (k := 4) dX7_push_36 hC_4 (by decide) rfl wF_X7_31 (by omega) rfl) ?_
    refine Sg.go (pc' := 40) (mi_iconst (z := 0) dX7_push_39 rfl) ?_
    refine Sg.ck (fun hk6 => ?_)
    refine Sg.goM (pc' := 41) (mi_iast (n := 10) dX7_push_40 rfl rfl (by omega) hk6) ?_
    refine Sg.letD (fun D7 hD7 => ?_)
    refine Sg.go (pc' := 42) (mi_aload_n dX7_push_41 rfl) ?_
    refine Sg.go (pc' := 45) (mi_gfA (t := 22) (v := v0) (r := 4) (k := 3) dX7_push_42 hC_4 (by decide) rfl wF_X7_21 (by omega) rfl (hL.2.2.2.2.1 _ 3 (by omega) (by omega) (by decide))) ?_
    refine Sg.go (pc' := 46) (mi_aload_n dX7_push_45 rfl) ?_
    refine Sg.go (pc' := 49) (mi_gfI (r := 4) (k := 4) dX7_push_46 hC_4 (by decide) rfl wF_X7_31 (by omega) rfl) ?_
    refine Sg.go (pc' := 50) (mi_iconst (z := 0) dX7_push_49 rfl) ?_
    refine Sg.ck (fun hk8 => ?_)
    refine Sg.goM (pc' := 51) (mi_iast (n := 10) dX7_push_50 rfl rfl (by omega) hk8) ?_
    refine Sg.letD (fun D9 hD9 => ?_)
    refine Sg.go (pc' := 52) (mi_aload_n dX7_push_51 rfl) ?_
    refine Sg.go (pc' := 53) (mi_dup dX7_push_52 (show (6 : Nat) ≠ 1 by decide)) ?_
    refine Sg.go (pc' := 56) (mi_gfI (r := 4) (k := 4) dX7_push_53 hC_4 (by decide) rfl wF_X7_31 (by omega) rfl) ?_
    refine Sg.go (pc' := 57) (mi_iconst (z := 1) dX7_push_56 rfl) ?_
    refine Sg.go (pc' := 58) (mi_iadd dX7_push_57) ?_
    refine Sg.goM (pc' := 61) (mi_pfD (r := 4) (k := 4) (t := 0) dX7_push_58 hC_4 (by decide) rfl rfl wF_X7_31 (by omega) rfl (by decide) (Or.inl ⟨rfl, rfl⟩)) ?_
    refine Sg.letD (fun D10 hD10 => ?_)
    refine Sg.go (pc' := 62) (mi_iconst (z := 1) dX7_push_61 rfl) ?_
    exact Sg.ret (mi_ireturn dX7_push_62 rfl (Or.inr (Or.inl ⟨rfl, Or.inr rfl⟩)))
  · refine Sg.go (pc' := 9) (mi_icmplt_f (tgt := 11) dX7_push_6 (by decide) h1) ?_
    refine Sg.go (pc' := 10) (mi_iconst (z := 0) dX7_push_9 rfl) ?_
    exact Sg.ret (mi_ireturn dX7_push_10 rfl (Or.inr (Or.inl ⟨rfl, Or.inl rfl⟩)))
theorem C_X7_push {Z : MiZ} (hL : CL Z) (a0 a1 a2 : Int) (D : MiD) (h0 : (0 ≤ a0 ∧ a0 < 12)) (b : Int × MiD) (hb : B_X7_push a0 a1 a2 D = some b) : MC m_X7_push [(6, a0), (0, a1), (0, a2)] (D, Z) ((mi_LD 0 Z) b) := MC.ofSg (L := (mi_LD 0 Z)) (μ := m_X7_push) (args := [(6, a0), (0, a1), (0, a2)]) (M := (D, Z)) rfl wP_X7 (Nat.le_of_ble_eq_true rfl) (show Sg m_X7_push 0 [(6, a0), (0, a1), (0, a2)] [] (D, Z) (mi_LD 0 Z) (B_X7_push a0 a1 a2 D) from S_X7_push hL a0 a1 a2 D h0) hb
abbrev m_X7_restOn : MiI := (yX7_restOn, cX7_restOn, 2, none, 1, none)
def B_X7_restOn (v0 : Int) (v1 : Int) (D : MiD) : Option (MiD) := mi_let (mi_st D 4 v0 5 (mi_w ((D 4 v0 5) - 1))) fun D1 => if (D1 4 v0 5) ≠ 0 then (some D1) else (if 0 ≤ v1 ∧ v1 < 10 then (mi_let (mi_st D1 21 v0 v1 (mi_w ((D1 21 v0 v1) + 1))) fun D4 => some D4) else none)
set_option maxRecDepth 20000 in
theorem S_X7_restOn {Z : MiZ} (hL : CL Z) (v0 v1 : Int) (D : MiD) : (0 ≤ v0 ∧ v0 < 12) → Sg m_X7_restOn 0 [(6, v0), (0, v1)] [] (D, Z) (mi_LV Z) (B_X7_restOn v0 v1 D) := by
  intro hb0
  unfold B_X7_restOn
  refine Sg.go (pc' := 1) (mi_aload_n dX7_restOn_0 rfl) ?_
  refine Sg.go (pc' := 2) (mi_dup dX7_restOn_1 (show (6 : Nat) ≠ 1 by decide)) ?_
  refine Sg.go (pc' := 5) (mi_gfI (r := 4) (k := 5) dX7_restOn_2 hC_4 (by decide) rfl wF_X7_41 (by omega) rfl) ?_
  refine Sg.go (pc' := 6) (mi_iconst (z := 1) dX7_restOn_5 rfl) ?_
  refine Sg.go (pc' := 7) (mi_isub dX7_restOn_6) ?_
  refine Sg.goM (pc' := 10) (mi_pfD (r := 4) (k := 5) (t := 0) dX7_restOn_7 hC_4 (by decide) rfl rfl wF_X7_41 (by omega) rfl (by decide) (Or.inl ⟨rfl, rfl⟩)) ?_
  refine Sg.letD (fun D1 hD1 => ?_)
  refine Sg.go (pc' := 11) (mi_aload_n dX7_restOn_10 rfl) ?_
  refine Sg.go (pc' := 14) (mi_gfI (r := 4) (k := 5) dX7_restOn_11 hC_4 (by decide) rfl wF_X7_41 (by omega) rfl) ?_
  refine Sg.ite (fun h2 => ?_) (fun h2 => ?_)
  · refine Sg.go (pc' := 27) (mi_ifne_t (tgt := 27) dX7_restOn_14 (by decide) h2) ?_
    exact Sg.ret (mi_return dX7_restOn_27 rfl (0, 0))
  · refine Sg.go (pc' := 17) (mi_ifne_f (tgt := 27) dX7_restOn_14 (by decide) h2) ?_
    refine Sg.go (pc' := 18) (mi_aload_n dX7_restOn_17 rfl) ?_
    refine Sg.go (pc' := 21) (mi_gfA (t := 21) (v := v0) (r := 4) (k := 2) dX7_restOn_18 hC_4 (by decide) rfl wF_X7_18 (by omega) rfl (hL.2.2.2.2.1 _ 2 (by omega) (by omega) (by decide))) ?_
    refine Sg.go (pc' := 22) (mi_iload_n dX7_restOn_21 rfl) ?_
    refine Sg.go (pc' := 23) (mi_dup2 dX7_restOn_22 (show (0 : Nat) ≠ 1 by decide) (show (23 : Nat) ≠ 1 by decide)) ?_
    refine Sg.ck (fun hk3 => ?_)
    refine Sg.go (pc' := 24) (mi_iald (n := 10) dX7_restOn_23 rfl rfl (by omega) hk3) ?_
    refine Sg.go (pc' := 25) (mi_iconst (z := 1) dX7_restOn_24 rfl) ?_
    refine Sg.go (pc' := 26) (mi_iadd dX7_restOn_25) ?_
    refine Sg.goM (pc' := 27) (mi_iast (n := 10) dX7_restOn_26 rfl rfl (by omega) hk3) ?_
    refine Sg.letD (fun D4 hD4 => ?_)
    exact Sg.ret (mi_return dX7_restOn_27 rfl (0, 0))
theorem C_X7_restOn {Z : MiZ} (hL : CL Z) (a0 a1 : Int) (D : MiD) (h0 : (0 ≤ a0 ∧ a0 < 12)) (b : MiD) (hb : B_X7_restOn a0 a1 D = some b) : MC m_X7_restOn [(6, a0), (0, a1)] (D, Z) ((mi_LV Z) b) := MC.ofSg (L := (mi_LV Z)) (μ := m_X7_restOn) (args := [(6, a0), (0, a1)]) (M := (D, Z)) rfl wP_X7 (Nat.le_of_ble_eq_true rfl) (show Sg m_X7_restOn 0 [(6, a0), (0, a1)] [] (D, Z) (mi_LV Z) (B_X7_restOn a0 a1 D) from S_X7_restOn hL a0 a1 D h0) hb
abbrev m_X8_be : MiI := (yX8_be, cX8_be, 4, none, 1, none)
def B_X8_be (v0 : Int) (v1 : Int) (v2 : Int) (D : MiD) : Option (MiD) := mi_let (mi_st D 5 v0 0 v1) fun D1 => mi_let (mi_st D1 5 v0 1 v2) fun D2 => some D2
set_option maxRecDepth 20000 in
theorem S_X8_be {Z : MiZ} (hL : CL Z) (v0 v1 v2 : Int) (D : MiD) : (0 ≤ v0 ∧ v0 < 14) → Sg m_X8_be 0 [(7, v0), (0, v1), (1, v2), mi_un] [] (D, Z) (mi_LV Z) (B_X8_be v0 v1 v2 D) := by
  intro hb0
  unfold B_X8_be
  refine Sg.go (pc' := 1) (mi_aload_n dX8_be_0 rfl) ?_
  refine Sg.go (pc' := 2) (mi_iload_n dX8_be_1 rfl) ?_
  refine Sg.goM (pc' := 5) (mi_pfD (r := 5) (k := 0) (t := 0) dX8_be_2 hC_5 (by decide) rfl rfl wF_X8_9 (by omega) rfl (by decide) (Or.inl ⟨rfl, rfl⟩)) ?_
  refine Sg.letD (fun D1 hD1 => ?_)
  refine Sg.go (pc' := 6) (mi_aload_n dX8_be_5 rfl) ?_
  refine Sg.go (pc' := 7) (mi_lload_n dX8_be_6 rfl) ?_
  refine Sg.goM (pc' := 10) (mi_pfD (r := 5) (k := 1) (t := 1) dX8_be_7 hC_5 (by decide) rfl rfl wF_X8_15 (by omega) rfl (by decide) (Or.inr (Or.inl ⟨rfl, rfl⟩))) ?_
  refine Sg.letD (fun D2 hD2 => ?_)
  exact Sg.ret (mi_return dX8_be_10 rfl (0, 0))
theorem C_X8_be {Z : MiZ} (hL : CL Z) (a0 a1 a2 : Int) (D : MiD) (h0 : (0 ≤ a0 ∧ a0 < 14)) (b : MiD) (hb : B_X8_be a0 a1 a2 D = some b) : MC m_X8_be [(7, a0), (0, a1), (1, a2)] (D, Z) ((mi_LV Z) b) := MC.ofSg (L := (mi_LV Z)) (μ := m_X8_be) (args := [(7, a0), (0, a1), (1, a2)]) (M := (D, Z)) rfl wP_X8 (Nat.le_of_ble_eq_true rfl) (show Sg m_X8_be 0 [(7, a0), (0, a1), (1, a2), mi_un] [] (D, Z) (mi_LV Z) (B_X8_be a0 a1 a2 D) from S_X8_be hL a0 a1 a2 D h0) hb
abbrev m_X8_init : MiI := (yX8_init, cX8_init, 1, none, 1, none)
def B_X8_init (v0 : Int) (D : MiD) (Z : MiZ) : Option (MiM) := mi_let (mi_st D 5 v0 0 (-1)) fun D1 => some (D1, Z)
set_option maxRecDepth 20000 in
theorem S_X8_init  (v0 : Int) (D : MiD) (Z : MiZ) (hL : XL Z) : 0 ≤ v0 → Sg m_X8_init 0 [(7, v0)] [] (D, Z) mi_LW (B_X8_init v0 D Z) := by
  intro hb0
  unfold B_X8_init
  refine Sg.go (pc' := 1) (mi_aload_n dX8_init_0 rfl) ?_
  refine Sg.go (pc' := 4) (mi_objInit dX8_init_1 wL_X8_3 wI_obj wC_obj (by decide) (by omega) (Nat.le_of_ble_eq_true rfl)) ?_
  refine Sg.go (pc' := 5) (mi_aload_n dX8_init_4 rfl) ?_
  refine Sg.go (pc' := 6) (mi_iconst (z := (-1)) dX8_init_5 rfl) ?_
  refine Sg.goM (pc' := 9) (mi_pfD (r := 5) (k := 0) (t := 0) dX8_init_6 hC_5 (by decide) rfl rfl wF_X8_9 (by omega) rfl (by decide) (Or.inl ⟨rfl, rfl⟩)) ?_
  refine Sg.letD (fun D1 hD1 => ?_)
  exact Sg.ret (mi_return dX8_init_9 rfl (0, 0))
theorem C_X8_init {Z : MiZ} (hL : XL Z) (a0 : Int) (D : MiD) (h0 : 0 ≤ a0) (b : MiM) (hb : B_X8_init a0 D Z = some b) : MC m_X8_init [(7, a0)] (D, Z) (mi_LW b) := MC.ofSg (L := mi_LW) (μ := m_X8_init) (args := [(7, a0)]) (M := (D, Z)) rfl wP_X8 (Nat.le_of_ble_eq_true rfl) (show Sg m_X8_init 0 [(7, a0)] [] (D, Z) mi_LW (B_X8_init a0 D Z) from S_X8_init a0 D Z hL h0) hb
abbrev m_X8_isNothing : MiI := (yX8_isNothing, cX8_isNothing, 1, (some .boolean), 1, none)
def B_X8_isNothing_26 (D : MiD) : Option (Int) := some 1
set_option maxRecDepth 20000 in
theorem S_X8_isNothing_26 {D : MiD} {Z : MiZ} (hL : CL Z) : Sg m_X8_isNothing 26 [mi_un] [] (D, Z) (mi_LI 0 (D, Z)) (B_X8_isNothing_26 D) := by
  unfold B_X8_isNothing_26
  refine Sg.go (pc' := 27) (mi_iconst (z := 1) dX8_isNothing_26 rfl) ?_
  refine Sg.go (pc' := 31) (mi_goto (tgt := 31) dX8_isNothing_27 (by decide)) ?_
  exact Sg.ret (mi_ireturn dX8_isNothing_31 rfl (Or.inr (Or.inl ⟨rfl, Or.inr rfl⟩)))
def B_X8_isNothing (D : MiD) (v0 : Int) : Option (Int) := if (D 5 v0 0) = (-1) then (B_X8_isNothing_26 D) else (if (D 5 v0 0) = 8 then (some 0) else (if (mi_cmp (D 5 v0 1) 0) ≠ 0 then (some 0) else (B_X8_isNothing_26 D)))
set_option maxRecDepth 20000 in
theorem S_X8_isNothing {D : MiD} {Z : MiZ} (hL : CL Z) (v0 : Int) : (0 ≤ v0 ∧ v0 < 14) → Sg m_X8_isNothing 0 [(7, v0)] [] (D, Z) (mi_LI 0 (D, Z)) (B_X8_isNothing D v0) := by
  intro hb0
  unfold B_X8_isNothing
  refine Sg.go (pc' := 1) (mi_aload_n dX8_isNothing_0 rfl) ?_
  refine Sg.go (pc' := 4) (mi_gfI (r := 5) (k := 0) dX8_isNothing_1 hC_5 (by decide) rfl wF_X8_9 (by omega) rfl) ?_
  refine Sg.go (pc' := 5) (mi_iconst (z := (-1)) dX8_isNothing_4 rfl) ?_
  refine Sg.ite (fun h1 => ?_) (fun h1 => ?_)
  · refine Sg.go (pc' := 26) (mi_icmpeq_t (tgt := 26) dX8_isNothing_5 (by decide) h1) ?_
    refine Sg.go (pc' := 26) (MiStep.weak (ls' := [mi_un]) (mi_wk_n mi_wk_0)) ?_
    exact S_X8_isNothing_26 hL
  · refine Sg.go (pc' := 8) (mi_icmpeq_f (tgt := 26) dX8_isNothing_5 (by decide) h1) ?_
    refine Sg.go (pc' := 9) (mi_aload_n dX8_isNothing_8 rfl) ?_
    refine Sg.go (pc' := 12) (mi_gfI (r := 5) (k := 0) dX8_isNothing_9 hC_5 (by decide) rfl wF_X8_9 (by omega) rfl) ?_
    refine Sg.go (pc' := 14) (mi_bipush (z := 8) dX8_isNothing_12 rfl) ?_
    refine Sg.ite (fun h2 => ?_) (fun h2 => ?_)
    · refine Sg.go (pc' := 30) (mi_icmpeq_t (tgt := 30) dX8_isNothing_14 (by decide) h2) ?_
      refine Sg.go (pc' := 31) (mi_iconst (z := 0) dX8_isNothing_30 rfl) ?_
      exact Sg.ret (mi_ireturn dX8_isNothing_31 rfl (Or.inr (Or.inl ⟨rfl, Or.inl rfl⟩)))
    · refine Sg.go (pc' := 17) (mi_icmpeq_f (tgt := 30) dX8_isNothing_14 (by decide) h2) ?_
      refine Sg.go (pc' := 18) (mi_aload_n dX8_isNothing_17 rfl) ?_
      refine Sg.go (pc' := 21) (mi_gfJ (r := 5) (k := 1) dX8_isNothing_18 hC_5 (by decide) rfl wF_X8_15 (by omega) rfl) ?_
      refine Sg.go (pc' := 22) (mi_lconst (z := 0) dX8_isNothing_21 rfl) ?_
      refine Sg.go (pc' := 23) (mi_lcmp dX8_isNothing_22) ?_
      refine Sg.ite (fun h3 => ?_) (fun h3 => ?_)
      · refine Sg.go (pc' := 30) (mi_ifne_t (tgt := 30) dX8_isNothing_23 (by decide) h3) ?_
        refine Sg.go (pc' := 31) (mi_iconst (z := 0) dX8_isNothing_30 rfl) ?_
        exact Sg.ret (mi_ireturn dX8_isNothing_31 rfl (Or.inr (Or.inl ⟨rfl, Or.inl rfl⟩)))
      · refine Sg.go (pc' := 26) (mi_ifne_f (tgt := 30) dX8_isNothing_23 (by decide) h3) ?_
        refine Sg.go (pc' := 26) (MiStep.weak (ls' := [mi_un]) (mi_wk_n mi_wk_0)) ?_
        exact S_X8_isNothing_26 hL
theorem C_X8_isNothing {Z : MiZ} (hL : CL Z) (a0 : Int) (D : MiD) (h0 : (0 ≤ a0 ∧ a0 < 14)) (b : Int) (hb : B_X8_isNothing D a0 = some b) : MC m_X8_isNothing [(7, a0)] (D, Z) ((mi_LI 0 (D, Z)) b) := MC.ofSg (L := (mi_LI 0 (D, Z))) (μ := m_X8_isNothing) (args := [(7, a0)]) (M := (D, Z)) rfl wP_X8 (Nat.le_of_ble_eq_true rfl) (show Sg m_X8_isNothing 0 [(7, a0)] [] (D, Z) (mi_LI 0 (D, Z)) (B_X8_isNothing D a0) from S_X8_isNothing hL a0 h0) hb
abbrev m_X9_allForced : MiI := (yX9_allForced, cX9_allForced, 3, (some .int), 1, none)
def B_X9_allForced_4 (D : MiD) : Nat → Int → Int → Int → Option (Int)
  | 0, _, _, _ => none
  | f + 1, v0, v1, v2 => if 6 ≤ v2 then (some v1) else (if 0 ≤ v2 ∧ v2 < 6 then (mi_let (mi_w (v1 + (D 4 (6 * v0 + v2) 9))) fun x3 => B_X9_allForced_4 D f v0 x3 (mi_w (v2 + 1))) else none)
set_option maxRecDepth 20000 in
theorem S_X9_allForced_4 {D : MiD} {Z : MiZ} (hL : CL Z) : ∀ (f : Nat) (v0 v1 v2 : Int), (0 ≤ v0 ∧ v0 < 2) → Sg m_X9_allForced 4 [(4, v0), (0, v1), (0, v2)] [] (D, Z) (mi_LI 0 (D, Z)) (B_X9_allForced_4 D f v0 v1 v2) := by
  intro f
  induction f with
  | zero => intros; exact Sg.nope
  | succ f K4 =>
    intro v0 v1 v2 hb0
    show Sg m_X9_allForced 4 [(4, v0), (0, v1), (0, v2)] [] (D, Z) (mi_LI 0 (D, Z)) (if 6 ≤ v2 then (some v1) else (if 0 ≤ v2 ∧ v2 < 6 then (mi_let (mi_w (v1 + (D 4 (6 * v0 + v2) 9))) fun x3 => B_X9_allForced_4 D f v0 x3 (mi_w (v2 + 1))) else none))
    refine Sg.go (pc' := 5) (mi_iload_n dX9_allForced_4 rfl) ?_
    refine Sg.go (pc' := 7) (mi_bipush (z := 6) dX9_allForced_5 rfl) ?_
    refine Sg.ite (fun h1 => ?_) (fun h1 => ?_)
    · refine Sg.go (pc' := 28) (mi_icmpge_t (tgt := 28) dX9_allForced_7 (by decide) h1) ?_
      refine Sg.go (pc' := 29) (mi_iload_n dX9_allForced_28 rfl) ?_
      exact Sg.ret (mi_ireturn dX9_allForced_29 rfl (Or.inl rfl))
    · refine Sg.go (pc' := 10) (mi_icmpge_f (tgt := 28) dX9_allForced_7 (by decide) h1) ?_
      refine Sg.go (pc' := 11) (mi_iload_n dX9_allForced_10 rfl) ?_
      refine Sg.go (pc' := 12) (mi_aload_n dX9_allForced_11 rfl) ?_
      refine Sg.go (pc' := 15) (mi_gfA (t := 14) (v := v0) (r := 2) (k := 3) dX9_allForced_12 hC_2 (by decide) rfl wF_X9_31 (by omega) rfl (hL.2.1 _ 3 (by omega) (by omega) (by decide))) ?_
      refine Sg.go (pc' := 16) (mi_iload_n dX9_allForced_15 rfl) ?_
      refine Sg.ck (fun hk2 => ?_)
      refine Sg.go (pc' := 17) (mi_aald (n := 6) (t := 4) (v := (6 * v0 + v2)) dX9_allForced_16 rfl hA_14 rfl (by omega) hk2 rfl (hL.2.2.2.2.2.2.2 _ _ (by omega) (by omega) hk2.1 hk2.2)) ?_
      refine Sg.go (pc' := 20) (mi_gfI (r := 4) (k := 9) dX9_allForced_17 hC_4 (by decide) rfl wF_X9_295 (by omega) rfl) ?_
      refine Sg.go (pc' := 21) (mi_iadd dX9_allForced_20) ?_
      refine Sg.letI (fun x3 hx3 => ?_)
      refine Sg.go (pc' := 22) (mi_istore_n (ls1 := [(4, v0), (0, x3), (0, v2)]) dX9_allForced_21 (by decide) rfl) ?_
      refine Sg.go (pc' := 25) (mi_iinc (z := 1) (ls1 := [(4, v0), (0, x3), (0, (mi_w (v2 + 1)))]) dX9_allForced_22 (by decide) rfl rfl rfl) ?_
      refine Sg.go (pc' := 4) (mi_goto (tgt := 4) dX9_allForced_25 (by decide)) ?_
      exact K4 v0 x3 (mi_w (v2 + 1)) hb0
def B_X9_allForced (D : MiD) (v0 : Int) : Option (Int) := B_X9_allForced_4 D mi_fuel v0 0 0
set_option maxRecDepth 20000 in
theorem S_X9_allForced {D : MiD} {Z : MiZ} (hL : CL Z) (v0 : Int) : (0 ≤ v0 ∧ v0 < 2) → Sg m_X9_allForced 0 [(4, v0), mi_un, mi_un] [] (D, Z) (mi_LI 0 (D, Z)) (B_X9_allForced D v0) := by
  intro hb0
  unfold B_X9_allForced
  refine Sg.go (pc' := 1) (mi_iconst (z := 0) dX9_allForced_0 rfl) ?_
  refine Sg.go (pc' := 2) (mi_istore_n (ls1 := [(4, v0), (0, 0), mi_un]) dX9_allForced_1 (by decide) rfl) ?_
  refine Sg.go (pc' := 3) (mi_iconst (z := 0) dX9_allForced_2 rfl) ?_
  refine Sg.go (pc' := 4) (mi_istore_n (ls1 := [(4, v0), (0, 0), (0, 0)]) dX9_allForced_3 (by decide) rfl) ?_
  exact S_X9_allForced_4 hL mi_fuel v0 0 0 hb0
theorem C_X9_allForced {Z : MiZ} (hL : CL Z) (a0 : Int) (D : MiD) (h0 : (0 ≤ a0 ∧ a0 < 2)) (b : Int) (hb : B_X9_allForced D a0 = some b) : MC m_X9_allForced [(4, a0)] (D, Z) ((mi_LI 0 (D, Z)) b) := MC.ofSg (L := (mi_LI 0 (D, Z))) (μ := m_X9_allForced) (args := [(4, a0)]) (M := (D, Z)) rfl wP_X9 (Nat.le_of_ble_eq_true rfl) (show Sg m_X9_allForced 0 [(4, a0), mi_un, mi_un] [] (D, Z) (mi_LI 0 (D, Z)) (B_X9_allForced D a0) from S_X9_allForced hL a0 h0) hb
abbrev m_X9_allPlaces : MiI := (yX9_allPlaces, cX9_allPlaces, 3, (some .int), 1, none)
def B_X9_allPlaces_4 (D : MiD) : Nat → Int → Int → Int → Option (Int)
  | 0, _, _, _ => none
  | f + 1, v0, v1, v2 => if 60 ≤ v2 then (some v1) else (if 0 ≤ v2 ∧ v2 < 60 then (mi_let (mi_w (v1 + (D 3 (60 * v0 + v2) 1))) fun x3 => B_X9_allPlaces_4 D f v0 x3 (mi_w (v2 + 1))) else none)
set_option maxRecDepth 20000 in
theorem S_X9_allPlaces_4 {D : MiD} {Z : MiZ} (hL : CL Z) : ∀ (f : Nat) (v0 v1 v2 : Int), (0 ≤ v0 ∧ v0 < 2) → Sg m_X9_allPlaces 4 [(4, v0), (0, v1), (0, v2)] [] (D, Z) (mi_LI 0 (D, Z)) (B_X9_allPlaces_4 D f v0 v1 v2) := by
  intro f
  induction f with
  | zero => intros; exact Sg.nope
  | succ f K4 =>
    intro v0 v1 v2 hb0
    show Sg m_X9_allPlaces 4 [(4, v0), (0, v1), (0, v2)] [] (D, Z) (mi_LI 0 (D, Z)) (if 60 ≤ v2 then (some v1) else (if 0 ≤ v2 ∧ v2 < 60 then (mi_let (mi_w (v1 + (D 3 (60 * v0 + v2) 1))) fun x3 => B_X9_allPlaces_4 D f v0 x3 (mi_w (v2 + 1))) else none))
    refine Sg.go (pc' := 5) (mi_iload_n dX9_allPlaces_4 rfl) ?_
    refine Sg.go (pc' := 6) (mi_aload_n dX9_allPlaces_5 rfl) ?_
    refine Sg.go (pc' := 9) (mi_gfA (t := 13) (v := v0) (r := 2) (k := 2) dX9_allPlaces_6 hC_2 (by decide) rfl wF_X9_25 (by omega) rfl (hL.2.1 _ 2 (by omega) (by omega) (by decide))) ?_
    refine Sg.go (pc' := 10) (mi_alenQ (z := 60) dX9_allPlaces_9 rfl hA_13 (by omega) rfl) ?_
    refine Sg.ite (fun h1 => ?_) (fun h1 => ?_)
    · refine Sg.go (pc' := 31) (mi_icmpge_t (tgt := 31) dX9_allPlaces_10 (by decide) h1) ?_
      refine Sg.go (pc' := 32) (mi_iload_n dX9_allPlaces_31 rfl) ?_
      exact Sg.ret (mi_ireturn dX9_allPlaces_32 rfl (Or.inl rfl))
    · refine Sg.go (pc' := 13) (mi_icmpge_f (tgt := 31) dX9_allPlaces_10 (by decide) h1) ?_
      refine Sg.go (pc' := 14) (mi_iload_n dX9_allPlaces_13 rfl) ?_
      refine Sg.go (pc' := 15) (mi_aload_n dX9_allPlaces_14 rfl) ?_
      refine Sg.go (pc' := 18) (mi_gfA (t := 13) (v := v0) (r := 2) (k := 2) dX9_allPlaces_15 hC_2 (by decide) rfl wF_X9_25 (by omega) rfl (hL.2.1 _ 2 (by omega) (by omega) (by decide))) ?_
      refine Sg.go (pc' := 19) (mi_iload_n dX9_allPlaces_18 rfl) ?_
      refine Sg.ck (fun hk2 => ?_)
      refine Sg.go (pc' := 20) (mi_aald (n := 60) (t := 3) (v := (60 * v0 + v2)) dX9_allPlaces_19 rfl hA_13 rfl (by omega) hk2 rfl (hL.2.2.2.2.2.2.1 _ _ (by omega) (by omega) hk2.1 hk2.2)) ?_
      refine Sg.go (pc' := 23) (mi_gfI (r := 3) (k := 1) dX9_allPlaces_20 hC_3 (by decide) rfl wF_X9_96 (by omega) rfl) ?_
      refine Sg.go (pc' := 24) (mi_iadd dX9_allPlaces_23) ?_
      refine Sg.letI (fun x3 hx3 => ?_)
      refine Sg.go (pc' := 25) (mi_istore_n (ls1 := [(4, v0), (0, x3), (0, v2)]) dX9_allPlaces_24 (by decide) rfl) ?_
      refine Sg.go (pc' := 28) (mi_iinc (z := 1) (ls1 := [(4, v0), (0, x3), (0, (mi_w (v2 + 1)))]) dX9_allPlaces_25 (by decide) rfl rfl rfl) ?_
      refine Sg.go (pc' := 4) (mi_goto (tgt := 4) dX9_allPlaces_28 (by decide)) ?_
      exact K4 v0 x3 (mi_w (v2 + 1)) hb0
def B_X9_allPlaces (D : MiD) (v0 : Int) : Option (Int) := B_X9_allPlaces_4 D mi_fuel v0 0 0
set_option maxRecDepth 20000 in
theorem S_X9_allPlaces {D : MiD} {Z : MiZ} (hL : CL Z) (v0 : Int) : (0 ≤ v0 ∧ v0 < 2) → Sg m_X9_allPlaces 0 [(4, v0), mi_un, mi_un] [] (D, Z) (mi_LI 0 (D, Z)) (B_X9_allPlaces D v0) := by
  intro hb0
  unfold B_X9_allPlaces
  refine Sg.go (pc' := 1) (mi_iconst (z := 0) dX9_allPlaces_0 rfl) ?_
  refine Sg.go (pc' := 2) (mi_istore_n (ls1 := [(4, v0), (0, 0), mi_un]) dX9_allPlaces_1 (by decide) rfl) ?_
  refine Sg.go (pc' := 3) (mi_iconst (z := 0) dX9_allPlaces_2 rfl) ?_
  refine Sg.go (pc' := 4) (mi_istore_n (ls1 := [(4, v0), (0, 0), (0, 0)]) dX9_allPlaces_3 (by decide) rfl) ?_
  exact S_X9_allPlaces_4 hL mi_fuel v0 0 0 hb0
theorem C_X9_allPlaces {Z : MiZ} (hL : CL Z) (a0 : Int) (D : MiD) (h0 : (0 ≤ a0 ∧ a0 < 2)) (b : Int) (hb : B_X9_allPlaces D a0 = some b) : MC m_X9_allPlaces [(4, a0)] (D, Z) ((mi_LI 0 (D, Z)) b) := MC.ofSg (L := (mi_LI 0 (D, Z))) (μ := m_X9_allPlaces) (args := [(4, a0)]) (M := (D, Z)) rfl wP_X9 (Nat.le_of_ble_eq_true rfl) (show Sg m_X9_allPlaces 0 [(4, a0), mi_un, mi_un] [] (D, Z) (mi_LI 0 (D, Z)) (B_X9_allPlaces D a0) from S_X9_allPlaces hL a0 h0) hb
abbrev m_X9_beginTurning : MiI := (yX9_beginTurning, cX9_beginTurning, 4, none, 1, none)
def B_X9_beginTurning_33 (k12 : Int → Int → Int → MiD → Option (MiD)) (v0 : Int) (v2 : Int) (v3 : Int) (s0 : Int) (s1 : Int) (D : MiD) : Option (MiD) := if 0 ≤ s0 ∧ s0 < 12 then (if s1 = 0 ∨ s1 = 1 then (mi_let (mi_st D 4 s0 8 s1) fun D3 => k12 v0 v2 (mi_w (v3 + 1)) D3) else none) else none
set_option maxRecDepth 20000 in
theorem S_X9_beginTurning_33 {Z : MiZ} (hL : CL Z) {k12 : Int → Int → Int → MiD → Option (MiD)} (K12 : ∀ (v0 v2 v3 : Int) (D : MiD), (0 ≤ v0 ∧ v0 < 2) → (v2 = 0 ∨ v2 = 1) → Sg m_X9_beginTurning 12 [(4, v0), mi_un, (0, v2), (0, v3)] [] (D, Z) (mi_LV Z) (k12 v0 v2 v3 D)) (v0 v2 v3 s0 s1 : Int) (D : MiD) : (0 ≤ v0 ∧ v0 < 2) → (v2 = 0 ∨ v2 = 1) → Sg m_X9_beginTurning 33 [(4, v0), mi_un, (0, v2), (0, v3)] [(0, s1), (6, s0)] (D, Z) (mi_LV Z) (B_X9_beginTurning_33 k12 v0 v2 v3 s0 s1 D) := by
  intro hb0 hb2
  unfold B_X9_beginTurning_33
  refine Sg.ck (fun hk1 => ?_)
  refine Sg.ck (fun hk2 => ?_)
  refine Sg.goM (pc' := 36) (mi_pfD (r := 4) (k := 8) (t := 0) dX9_beginTurning_33 hC_4 (by decide) rfl rfl wF_X9_267 (by omega) rfl (by decide) (Or.inr (Or.inr (Or.inl ⟨rfl, rfl, hk2⟩)))) ?_
  refine Sg.letD (fun D3 hD3 => ?_)
  refine Sg.go (pc' := 39) (mi_iinc (z := 1) (ls1 := [(4, v0), mi_un, (0, v2), (0, (mi_w (v3 + 1)))]) dX9_beginTurning_36 (by decide) rfl rfl rfl) ?_
  refine Sg.go (pc' := 12) (mi_goto (tgt := 12) dX9_beginTurning_39 (by decide)) ?_
  exact K12 v0 v2 (mi_w (v3 + 1)) D3 hb0 hb2
def B_X9_beginTurning_12 : Nat → Int → Int → Int → MiD → Option (MiD)
  | 0, _, _, _, _ => none
  | f + 1, v0, v2, v3, D => if 6 ≤ v3 then (some D) else (if 0 ≤ v3 ∧ v3 < 6 then (if v2 ≠ 0 then (B_X9_beginTurning_33 (B_X9_beginTurning_12 f) v0 v2 v3 (6 * v0 + v3) 0 D) else (B_X9_beginTurning_33 (B_X9_beginTurning_12 f) v0 v2 v3 (6 * v0 + v3) 1 D)) else none)
set_option maxRecDepth 20000 in
theorem S_X9_beginTurning_12 {Z : MiZ} (hL : CL Z) : ∀ (f : Nat) (v0 v2 v3 : Int) (D : MiD), (0 ≤ v0 ∧ v0 < 2) → (v2 = 0 ∨ v2 = 1) → Sg m_X9_beginTurning 12 [(4, v0), mi_un, (0, v2), (0, v3)] [] (D, Z) (mi_LV Z) (B_X9_beginTurning_12 f v0 v2 v3 D) := by
  intro f
  induction f with
  | zero => intros; exact Sg.nope
  | succ f K12 =>
    intro v0 v2 v3 D hb0 hb2
    show Sg m_X9_beginTurning 12 [(4, v0), mi_un, (0, v2), (0, v3)] [] (D, Z) (mi_LV Z) (if 6 ≤ v3 then (some D) else (if 0 ≤ v3 ∧ v3 < 6 then (if v2 ≠ 0 then (B_X9_beginTurning_33 (B_X9_beginTurning_12 f) v0 v2 v3 (6 * v0 + v3) 0 D) else (B_X9_beginTurning_33 (B_X9_beginTurning_12 f) v0 v2 v3 (6 * v0 + v3) 1 D)) else none))
    refine Sg.go (pc' := 13) (mi_iload_n dX9_beginTurning_12 rfl) ?_
    refine Sg.go (pc' := 15) (mi_bipush (z := 6) dX9_beginTurning_13 rfl) ?_
    refine Sg.ite (fun h1 => ?_) (fun h1 => ?_)
    · refine Sg.go (pc' := 42) (mi_icmpge_t (tgt := 42) dX9_beginTurning_15 (by decide) h1) ?_
      exact Sg.ret (mi_return dX9_beginTurning_42 rfl (0, 0))
    · refine Sg.go (pc' := 18) (mi_icmpge_f (tgt := 42) dX9_beginTurning_15 (by decide) h1) ?_
      refine Sg.go (pc' := 19) (mi_aload_n dX9_beginTurning_18 rfl) ?_
      refine Sg.go (pc' := 22) (mi_gfA (t := 14) (v := v0) (r := 2) (k := 3) dX9_beginTurning_19 hC_2 (by decide) rfl wF_X9_31 (by omega) rfl (hL.2.1 _ 3 (by omega) (by omega) (by decide))) ?_
      refine Sg.go (pc' := 23) (mi_iload_n dX9_beginTurning_22 rfl) ?_
      refine Sg.ck (fun hk2 => ?_)
      refine Sg.go (pc' := 24) (mi_aald (n := 6) (t := 4) (v := (6 * v0 + v3)) dX9_beginTurning_23 rfl hA_14 rfl (by omega) hk2 rfl (hL.2.2.2.2.2.2.2 _ _ (by omega) (by omega) hk2.1 hk2.2)) ?_
      refine Sg.go (pc' := 25) (mi_iload_n dX9_beginTurning_24 rfl) ?_
      refine Sg.ite (fun h3 => ?_) (fun h3 => ?_)
      · refine Sg.go (pc' := 32) (mi_ifne_t (tgt := 32) dX9_beginTurning_25 (by decide) h3) ?_
        refine Sg.go (pc' := 33) (mi_iconst (z := 0) dX9_beginTurning_32 rfl) ?_
        exact S_X9_beginTurning_33 hL K12 v0 v2 v3 (6 * v0 + v3) 0 D hb0 hb2
      · refine Sg.go (pc' := 28) (mi_ifne_f (tgt := 32) dX9_beginTurning_25 (by decide) h3) ?_
        refine Sg.go (pc' := 29) (mi_iconst (z := 1) dX9_beginTurning_28 rfl) ?_
        refine Sg.go (pc' := 33) (mi_goto (tgt := 33) dX9_beginTurning_29 (by decide)) ?_
        exact S_X9_beginTurning_33 hL K12 v0 v2 v3 (6 * v0 + v3) 1 D hb0 hb2
def B_X9_beginTurning (v0 : Int) (v1 : Int) (v2 : Int) (D : MiD) : Option (MiD) := mi_let (mi_st D 2 v0 8 v1) fun D1 => mi_let (mi_st D1 2 v0 9 v2) fun D2 => B_X9_beginTurning_12 mi_fuel v0 v2 0 D2
set_option maxRecDepth 20000 in
theorem S_X9_beginTurning {Z : MiZ} (hL : CL Z) (v0 v1 v2 : Int) (D : MiD) : (0 ≤ v0 ∧ v0 < 2) → (v2 = 0 ∨ v2 = 1) → Sg m_X9_beginTurning 0 [(4, v0), (0, v1), (0, v2), mi_un] [] (D, Z) (mi_LV Z) (B_X9_beginTurning v0 v1 v2 D) := by
  intro hb0 hb2
  unfold B_X9_beginTurning
  refine Sg.go (pc' := 1) (mi_aload_n dX9_beginTurning_0 rfl) ?_
  refine Sg.go (pc' := 2) (mi_iload_n dX9_beginTurning_1 rfl) ?_
  refine Sg.goM (pc' := 5) (mi_pfD (r := 2) (k := 8) (t := 0) dX9_beginTurning_2 hC_2 (by decide) rfl rfl wF_X9_49 (by omega) rfl (by decide) (Or.inl ⟨rfl, rfl⟩)) ?_
  refine Sg.letD (fun D1 hD1 => ?_)
  refine Sg.go (pc' := 6) (mi_aload_n dX9_beginTurning_5 rfl) ?_
  refine Sg.go (pc' := 7) (mi_iload_n dX9_beginTurning_6 rfl) ?_
  refine Sg.goM (pc' := 10) (mi_pfD (r := 2) (k := 9) (t := 0) dX9_beginTurning_7 hC_2 (by decide) rfl rfl wF_X9_72 (by omega) rfl (by decide) (Or.inr (Or.inr (Or.inl ⟨rfl, rfl, hb2⟩)))) ?_
  refine Sg.letD (fun D2 hD2 => ?_)
  refine Sg.go (pc' := 11) (mi_iconst (z := 0) dX9_beginTurning_10 rfl) ?_
  refine Sg.go (pc' := 12) (mi_istore_n (ls1 := [(4, v0), (0, v1), (0, v2), (0, 0)]) dX9_beginTurning_11 (by decide) rfl) ?_
  refine Sg.go (pc' := 12) (MiStep.weak (ls' := [(4, v0), mi_un, (0, v2), (0, 0)]) (mi_wk_y (mi_wk_n (mi_wk_y (mi_wk_y mi_wk_0))))) ?_
  exact S_X9_beginTurning_12 hL mi_fuel v0 v2 0 D2 hb0 hb2
theorem C_X9_beginTurning {Z : MiZ} (hL : CL Z) (a0 a1 a2 : Int) (D : MiD) (h0 : (0 ≤ a0 ∧ a0 < 2)) (h1 : (a2 = 0 ∨ a2 = 1)) (b : MiD) (hb : B_X9_beginTurning a0 a1 a2 D = some b) : MC m_X9_beginTurning [(4, a0), (0, a1), (0, a2)] (D, Z) ((mi_LV Z) b) := MC.ofSg (L := (mi_LV Z)) (μ := m_X9_beginTurning) (args := [(4, a0), (0, a1), (0, a2)]) (M := (D, Z)) rfl wP_X9 (Nat.le_of_ble_eq_true rfl) (show Sg m_X9_beginTurning 0 [(4, a0), (0, a1), (0, a2), mi_un] [] (D, Z) (mi_LV Z) (B_X9_beginTurning a0 a1 a2 D) from S_X9_beginTurning hL a0 a1 a2 D h0 h1) hb
abbrev m_X9_hasTurned : MiI := (yX9_hasTurned, cX9_hasTurned, 2, (some .boolean), 1, none)
def B_X9_hasTurned_24 (D : MiD) : Option (Int) := some 1
set_option maxRecDepth 20000 in
theorem S_X9_hasTurned_24 {D : MiD} {Z : MiZ} (hL : CL Z) : Sg m_X9_hasTurned 24 [mi_un, mi_un] [] (D, Z) (mi_LI 0 (D, Z)) (B_X9_hasTurned_24 D) := by
  unfold B_X9_hasTurned_24
  refine Sg.go (pc' := 25) (mi_iconst (z := 1) dX9_hasTurned_24 rfl) ?_
  refine Sg.go (pc' := 29) (mi_goto (tgt := 29) dX9_hasTurned_25 (by decide)) ?_
  exact Sg.ret (mi_ireturn dX9_hasTurned_29 rfl (Or.inr (Or.inl ⟨rfl, Or.inr rfl⟩)))
def B_X9_hasTurned (D : MiD) (v0 : Int) (v1 : Int) : Option (Int) := if (D 2 v0 8) = (-1) then (B_X9_hasTurned_24 D) else (if 0 ≤ v1 ∧ v1 < 6 then (if (D 4 (6 * v0 + v1) 8) ≠ (D 2 v0 9) then (some 0) else (B_X9_hasTurned_24 D)) else none)
set_option maxRecDepth 20000 in
theorem S_X9_hasTurned {D : MiD} {Z : MiZ} (hL : CL Z) (v0 v1 : Int) : (0 ≤ v0 ∧ v0 < 2) → Sg m_X9_hasTurned 0 [(4, v0), (0, v1)] [] (D, Z) (mi_LI 0 (D, Z)) (B_X9_hasTurned D v0 v1) := by
  intro hb0
  unfold B_X9_hasTurned
  refine Sg.go (pc' := 1) (mi_aload_n dX9_hasTurned_0 rfl) ?_
  refine Sg.go (pc' := 4) (mi_gfI (r := 2) (k := 8) dX9_hasTurned_1 hC_2 (by decide) rfl wF_X9_49 (by omega) rfl) ?_
  refine Sg.go (pc' := 5) (mi_iconst (z := (-1)) dX9_hasTurned_4 rfl) ?_
  refine Sg.ite (fun h1 => ?_) (fun h1 => ?_)
  · refine Sg.go (pc' := 24) (mi_icmpeq_t (tgt := 24) dX9_hasTurned_5 (by decide) h1) ?_
    refine Sg.go (pc' := 24) (MiStep.weak (ls' := [mi_un, mi_un]) (mi_wk_n (mi_wk_n mi_wk_0))) ?_
    exact S_X9_hasTurned_24 hL
  · refine Sg.go (pc' := 8) (mi_icmpeq_f (tgt := 24) dX9_hasTurned_5 (by decide) h1) ?_
    refine Sg.go (pc' := 9) (mi_aload_n dX9_hasTurned_8 rfl) ?_
    refine Sg.go (pc' := 12) (mi_gfA (t := 14) (v := v0) (r := 2) (k := 3) dX9_hasTurned_9 hC_2 (by decide) rfl wF_X9_31 (by omega) rfl (hL.2.1 _ 3 (by omega) (by omega) (by decide))) ?_
    refine Sg.go (pc' := 13) (mi_iload_n dX9_hasTurned_12 rfl) ?_
    refine Sg.ck (fun hk2 => ?_)
    refine Sg.go (pc' := 14) (mi_aald (n := 6) (t := 4) (v := (6 * v0 + v1)) dX9_hasTurned_13 rfl hA_14 rfl (by omega) hk2 rfl (hL.2.2.2.2.2.2.2 _ _ (by omega) (by omega) hk2.1 hk2.2)) ?_
    refine Sg.go (pc' := 17) (mi_gfI (r := 4) (k := 8) dX9_hasTurned_14 hC_4 (by decide) rfl wF_X9_267 (by omega) rfl) ?_
    refine Sg.go (pc' := 18) (mi_aload_n dX9_hasTurned_17 rfl) ?_
    refine Sg.go (pc' := 21) (mi_gfI (r := 2) (k := 9) dX9_hasTurned_18 hC_2 (by decide) rfl wF_X9_72 (by omega) rfl) ?_
    refine Sg.ite (fun h3 => ?_) (fun h3 => ?_)
    · refine Sg.go (pc' := 28) (mi_icmpne_t (tgt := 28) dX9_hasTurned_21 (by decide) h3) ?_
      refine Sg.go (pc' := 29) (mi_iconst (z := 0) dX9_hasTurned_28 rfl) ?_
      exact Sg.ret (mi_ireturn dX9_hasTurned_29 rfl (Or.inr (Or.inl ⟨rfl, Or.inl rfl⟩)))
    · refine Sg.go (pc' := 24) (mi_icmpne_f (tgt := 28) dX9_hasTurned_21 (by decide) h3) ?_
      refine Sg.go (pc' := 24) (MiStep.weak (ls' := [mi_un, mi_un]) (mi_wk_n (mi_wk_n mi_wk_0))) ?_
      exact S_X9_hasTurned_24 hL
theorem C_X9_hasTurned {Z : MiZ} (hL : CL Z) (a0 a1 : Int) (D : MiD) (h0 : (0 ≤ a0 ∧ a0 < 2)) (b : Int) (hb : B_X9_hasTurned D a0 a1 = some b) : MC m_X9_hasTurned [(4, a0), (0, a1)] (D, Z) ((mi_LI 0 (D, Z)) b) := MC.ofSg (L := (mi_LI 0 (D, Z))) (μ := m_X9_hasTurned) (args := [(4, a0), (0, a1)]) (M := (D, Z)) rfl wP_X9 (Nat.le_of_ble_eq_true rfl) (show Sg m_X9_hasTurned 0 [(4, a0), (0, a1)] [] (D, Z) (mi_LI 0 (D, Z)) (B_X9_hasTurned D a0 a1) from S_X9_hasTurned hL a0 a1 h0) hb
abbrev m_X9_heightOf : MiI := (yX9_heightOf, cX9_heightOf, 3, (some .int), 1, none)
def B_X9_heightOf_2 (D : MiD) : Nat → Int → Int → Int → Option (Int)
  | 0, _, _, _ => none
  | f + 1, v0, v1, v2 => if (D 2 v0 7) ≤ v2 then (some (-1)) else (if 0 ≤ v2 ∧ v2 < 8 then (if (D 15 v0 v2) ≠ v1 then (B_X9_heightOf_2 D f v0 v1 (mi_w (v2 + 1))) else (some v2)) else none)
set_option maxRecDepth 20000 in
theorem S_X9_heightOf_2 {D : MiD} {Z : MiZ} (hL : CL Z) : ∀ (f : Nat) (v0 v1 v2 : Int), (0 ≤ v0 ∧ v0 < 2) → Sg m_X9_heightOf 2 [(4, v0), (0, v1), (0, v2)] [] (D, Z) (mi_LI 0 (D, Z)) (B_X9_heightOf_2 D f v0 v1 v2) := by
  intro f
  induction f with
  | zero => intros; exact Sg.nope
  | succ f K2 =>
    intro v0 v1 v2 hb0
    show Sg m_X9_heightOf 2 [(4, v0), (0, v1), (0, v2)] [] (D, Z) (mi_LI 0 (D, Z)) (if (D 2 v0 7) ≤ v2 then (some (-1)) else (if 0 ≤ v2 ∧ v2 < 8 then (if (D 15 v0 v2) ≠ v1 then (B_X9_heightOf_2 D f v0 v1 (mi_w (v2 + 1))) else (some v2)) else none))
    refine Sg.go (pc' := 3) (mi_iload_n dX9_heightOf_2 rfl) ?_
    refine Sg.go (pc' := 4) (mi_aload_n dX9_heightOf_3 rfl) ?_
    refine Sg.go (pc' := 7) (mi_gfI (r := 2) (k := 7) dX9_heightOf_4 hC_2 (by decide) rfl wF_X9_69 (by omega) rfl) ?_
    refine Sg.ite (fun h1 => ?_) (fun h1 => ?_)
    · refine Sg.go (pc' := 28) (mi_icmpge_t (tgt := 28) dX9_heightOf_7 (by decide) h1) ?_
      refine Sg.go (pc' := 29) (mi_iconst (z := (-1)) dX9_heightOf_28 rfl) ?_
      exact Sg.ret (mi_ireturn dX9_heightOf_29 rfl (Or.inl rfl))
    · refine Sg.go (pc' := 10) (mi_icmpge_f (tgt := 28) dX9_heightOf_7 (by decide) h1) ?_
      refine Sg.go (pc' := 11) (mi_aload_n dX9_heightOf_10 rfl) ?_
      refine Sg.go (pc' := 14) (mi_gfA (t := 15) (v := v0) (r := 2) (k := 4) dX9_heightOf_11 hC_2 (by decide) rfl wF_X9_35 (by omega) rfl (hL.2.1 _ 4 (by omega) (by omega) (by decide))) ?_
      refine Sg.go (pc' := 15) (mi_iload_n dX9_heightOf_14 rfl) ?_
      refine Sg.ck (fun hk2 => ?_)
      refine Sg.go (pc' := 16) (mi_iald (n := 8) dX9_heightOf_15 rfl rfl (by omega) hk2) ?_
      refine Sg.go (pc' := 17) (mi_iload_n dX9_heightOf_16 rfl) ?_
      refine Sg.ite (fun h3 => ?_) (fun h3 => ?_)
      · refine Sg.go (pc' := 22) (mi_icmpne_t (tgt := 22) dX9_heightOf_17 (by decide) h3) ?_
        refine Sg.go (pc' := 25) (mi_iinc (z := 1) (ls1 := [(4, v0), (0, v1), (0, (mi_w (v2 + 1)))]) dX9_heightOf_22 (by decide) rfl rfl rfl) ?_
        refine Sg.go (pc' := 2) (mi_goto (tgt := 2) dX9_heightOf_25 (by decide)) ?_
        exact K2 v0 v1 (mi_w (v2 + 1)) hb0
      · refine Sg.go (pc' := 20) (mi_icmpne_f (tgt := 22) dX9_heightOf_17 (by decide) h3) ?_
        refine Sg.go (pc' := 21) (mi_iload_n dX9_heightOf_20 rfl) ?_
        exact Sg.ret (mi_ireturn dX9_heightOf_21 rfl (Or.inl rfl))
def B_X9_heightOf (D : MiD) (v0 : Int) (v1 : Int) : Option (Int) := B_X9_heightOf_2 D mi_fuel v0 v1 0
set_option maxRecDepth 20000 in
theorem S_X9_heightOf {D : MiD} {Z : MiZ} (hL : CL Z) (v0 v1 : Int) : (0 ≤ v0 ∧ v0 < 2) → Sg m_X9_heightOf 0 [(4, v0), (0, v1), mi_un] [] (D, Z) (mi_LI 0 (D, Z)) (B_X9_heightOf D v0 v1) := by
  intro hb0
  unfold B_X9_heightOf
  refine Sg.go (pc' := 1) (mi_iconst (z := 0) dX9_heightOf_0 rfl) ?_
  refine Sg.go (pc' := 2) (mi_istore_n (ls1 := [(4, v0), (0, v1), (0, 0)]) dX9_heightOf_1 (by decide) rfl) ?_
  exact S_X9_heightOf_2 hL mi_fuel v0 v1 0 hb0
theorem C_X9_heightOf {Z : MiZ} (hL : CL Z) (a0 a1 : Int) (D : MiD) (h0 : (0 ≤ a0 ∧ a0 < 2)) (b : Int) (hb : B_X9_heightOf D a0 a1 = some b) : MC m_X9_heightOf [(4, a0), (0, a1)] (D, Z) ((mi_LI 0 (D, Z)) b) := MC.ofSg (L := (mi_LI 0 (D, Z))) (μ := m_X9_heightOf) (args := [(4, a0), (0, a1)]) (M := (D, Z)) rfl wP_X9 (Nat.le_of_ble_eq_true rfl) (show Sg m_X9_heightOf 0 [(4, a0), (0, a1), mi_un] [] (D, Z) (mi_LI 0 (D, Z)) (B_X9_heightOf D a0 a1) from S_X9_heightOf hL a0 a1 h0) hb
abbrev m_X9_idleBits : MiI := (yX9_idleBits, cX9_idleBits, 3, (some .int), 1, none)
def B_X9_idleBits_4 (D : MiD) : Nat → Int → Int → Int → Option (Int)
  | 0, _, _, _ => none
  | f + 1, v0, v1, v2 => if 6 ≤ v2 then (some v1) else (if 0 ≤ v2 ∧ v2 < 6 then (if (D 4 (6 * v0 + v2) 4) ≠ 0 then (B_X9_idleBits_4 D f v0 v1 (mi_w (v2 + 1))) else (mi_let (mi_or v1 (mi_shl 1 v2)) fun x4 => B_X9_idleBits_4 D f v0 x4 (mi_w (v2 + 1)))) else none)
set_option maxRecDepth 20000 in
theorem S_X9_idleBits_4 {D : MiD} {Z : MiZ} (hL : CL Z) : ∀ (f : Nat) (v0 v1 v2 : Int), (0 ≤ v0 ∧ v0 < 2) → Sg m_X9_idleBits 4 [(4, v0), (0, v1), (0, v2)] [] (D, Z) (mi_LI 0 (D, Z)) (B_X9_idleBits_4 D f v0 v1 v2) := by
  intro f
  induction f with
  | zero => intros; exact Sg.nope
  | succ f K4 =>
    intro v0 v1 v2 hb0
    show Sg m_X9_idleBits 4 [(4, v0), (0, v1), (0, v2)] [] (D, Z) (mi_LI 0 (D, Z)) (if 6 ≤ v2 then (some v1) else (if 0 ≤ v2 ∧ v2 < 6 then (if (D 4 (6 * v0 + v2) 4) ≠ 0 then (B_X9_idleBits_4 D f v0 v1 (mi_w (v2 + 1))) else (mi_let (mi_or v1 (mi_shl 1 v2)) fun x4 => B_X9_idleBits_4 D f v0 x4 (mi_w (v2 + 1)))) else none))
    refine Sg.go (pc' := 5) (mi_iload_n dX9_idleBits_4 rfl) ?_
    refine Sg.go (pc' := 7) (mi_bipush (z := 6) dX9_idleBits_5 rfl) ?_
    refine Sg.ite (fun h1 => ?_) (fun h1 => ?_)
    · refine Sg.go (pc' := 34) (mi_icmpge_t (tgt := 34) dX9_idleBits_7 (by decide) h1) ?_
      refine Sg.go (pc' := 35) (mi_iload_n dX9_idleBits_34 rfl) ?_
      exact Sg.ret (mi_ireturn dX9_idleBits_35 rfl (Or.inl rfl))
    · refine Sg.go (pc' := 10) (mi_icmpge_f (tgt := 34) dX9_idleBits_7 (by decide) h1) ?_
      refine Sg.go (pc' := 11) (mi_aload_n dX9_idleBits_10 rfl) ?_
      refine Sg.go (pc' := 14) (mi_gfA (t := 14) (v := v0) (r := 2) (k := 3) dX9_idleBits_11 hC_2 (by decide) rfl wF_X9_31 (by omega) rfl (hL.2.1 _ 3 (by omega) (by omega) (by decide))) ?_
      refine Sg.go (pc' := 15) (mi_iload_n dX9_idleBits_14 rfl) ?_
      refine Sg.ck (fun hk2 => ?_)
      refine Sg.go (pc' := 16) (mi_aald (n := 6) (t := 4) (v := (6 * v0 + v2)) dX9_idleBits_15 rfl hA_14 rfl (by omega) hk2 rfl (hL.2.2.2.2.2.2.2 _ _ (by omega) (by omega) hk2.1 hk2.2)) ?_
      refine Sg.go (pc' := 19) (mi_gfI (r := 4) (k := 4) dX9_idleBits_16 hC_4 (by decide) rfl wF_X9_198 (by omega) rfl) ?_
      refine Sg.ite (fun h3 => ?_) (fun h3 => ?_)
      · refine Sg.go (pc' := 28) (mi_ifne_t (tgt := 28) dX9_idleBits_19 (by decide) h3) ?_
        refine Sg.go (pc' := 31) (mi_iinc (z := 1) (ls1 := [(4, v0), (0, v1), (0, (mi_w (v2 + 1)))]) dX9_idleBits_28 (by decide) rfl rfl rfl) ?_
        refine Sg.go (pc' := 4) (mi_goto (tgt := 4) dX9_idleBits_31 (by decide)) ?_
        exact K4 v0 v1 (mi_w (v2 + 1)) hb0
      · refine Sg.go (pc' := 22) (mi_ifne_f (tgt := 28) dX9_idleBits_19 (by decide) h3) ?_
        refine Sg.go (pc' := 23) (mi_iload_n dX9_idleBits_22 rfl) ?_
        refine Sg.go (pc' := 24) (mi_iconst (z := 1) dX9_idleBits_23 rfl) ?_
        refine Sg.go (pc' := 25) (mi_iload_n dX9_idleBits_24 rfl) ?_
        refine Sg.go (pc' := 26) (mi_ishl dX9_idleBits_25) ?_
        refine Sg.go (pc' := 27) (mi_ior dX9_idleBits_26) ?_
        refine Sg.letI (fun x4 hx4 => ?_)
        refine Sg.go (pc' := 28) (mi_istore_n (ls1 := [(4, v0), (0, x4), (0, v2)]) dX9_idleBits_27 (by decide) rfl) ?_
        refine Sg.go (pc' := 31) (mi_iinc (z := 1) (ls1 := [(4, v0), (0, x4), (0, (mi_w (v2 + 1)))]) dX9_idleBits_28 (by decide) rfl rfl rfl) ?_
        refine Sg.go (pc' := 4) (mi_goto (tgt := 4) dX9_idleBits_31 (by decide)) ?_
        exact K4 v0 x4 (mi_w (v2 + 1)) hb0
def B_X9_idleBits (D : MiD) (v0 : Int) : Option (Int) := B_X9_idleBits_4 D mi_fuel v0 0 0
set_option maxRecDepth 20000 in
theorem S_X9_idleBits {D : MiD} {Z : MiZ} (hL : CL Z) (v0 : Int) : (0 ≤ v0 ∧ v0 < 2) → Sg m_X9_idleBits 0 [(4, v0), mi_un, mi_un] [] (D, Z) (mi_LI 0 (D, Z)) (B_X9_idleBits D v0) := by
  intro hb0
  unfold B_X9_idleBits
  refine Sg.go (pc' := 1) (mi_iconst (z := 0) dX9_idleBits_0 rfl) ?_
  refine Sg.go (pc' := 2) (mi_istore_n (ls1 := [(4, v0), (0, 0), mi_un]) dX9_idleBits_1 (by decide) rfl) ?_
  refine Sg.go (pc' := 3) (mi_iconst (z := 0) dX9_idleBits_2 rfl) ?_
  refine Sg.go (pc' := 4) (mi_istore_n (ls1 := [(4, v0), (0, 0), (0, 0)]) dX9_idleBits_3 (by decide) rfl) ?_
  exact S_X9_idleBits_4 hL mi_fuel v0 0 0 hb0
theorem C_X9_idleBits {Z : MiZ} (hL : CL Z) (a0 : Int) (D : MiD) (h0 : (0 ≤ a0 ∧ a0 < 2)) (b : Int) (hb : B_X9_idleBits D a0 = some b) : MC m_X9_idleBits [(4, a0)] (D, Z) ((mi_LI 0 (D, Z)) b) := MC.ofSg (L := (mi_LI 0 (D, Z))) (μ := m_X9_idleBits) (args := [(4, a0)]) (M := (D, Z)) rfl wP_X9 (Nat.le_of_ble_eq_true rfl) (show Sg m_X9_idleBits 0 [(4, a0), mi_un, mi_un] [] (D, Z) (mi_LI 0 (D, Z)) (B_X9_idleBits D a0) from S_X9_idleBits hL a0 h0) hb
abbrev m_X9_rowAt : MiI := (yX9_rowAt, cX9_rowAt, 3, (some (.object "MendedProgram$Row")), 1, none)
def B_X9_rowAt (D : MiD) (v0 : Int) (v1 : Int) (v2 : Int) : Option (Int) := if 0 ≤ (mi_w ((mi_w ((mi_w (v1 * 6)) + v2)) + 1)) ∧ (mi_w ((mi_w ((mi_w (v1 * 6)) + v2)) + 1)) < 60 then (some (60 * v0 + (mi_w ((mi_w ((mi_w (v1 * 6)) + v2)) + 1)))) else none
set_option maxRecDepth 20000 in
theorem S_X9_rowAt {D : MiD} {Z : MiZ} (hL : CL Z) (v0 v1 v2 : Int) : (0 ≤ v0 ∧ v0 < 2) → Sg m_X9_rowAt 0 [(4, v0), (0, v1), (0, v2)] [] (D, Z) (mi_LI 5 (D, Z)) (B_X9_rowAt D v0 v1 v2) := by
  intro hb0
  unfold B_X9_rowAt
  refine Sg.go (pc' := 1) (mi_aload_n dX9_rowAt_0 rfl) ?_
  refine Sg.go (pc' := 4) (mi_gfA (t := 13) (v := v0) (r := 2) (k := 2) dX9_rowAt_1 hC_2 (by decide) rfl wF_X9_25 (by omega) rfl (hL.2.1 _ 2 (by omega) (by omega) (by decide))) ?_
  refine Sg.go (pc' := 5) (mi_iload_n dX9_rowAt_4 rfl) ?_
  refine Sg.go (pc' := 7) (mi_bipush (z := 6) dX9_rowAt_5 rfl) ?_
  refine Sg.go (pc' := 8) (mi_imul dX9_rowAt_7) ?_
  refine Sg.go (pc' := 9) (mi_iload_n dX9_rowAt_8 rfl) ?_
  refine Sg.go (pc' := 10) (mi_iadd dX9_rowAt_9) ?_
  refine Sg.go (pc' := 11) (mi_iconst (z := 1) dX9_rowAt_10 rfl) ?_
  refine Sg.go (pc' := 12) (mi_iadd dX9_rowAt_11) ?_
  refine Sg.ck (fun hk1 => ?_)
  refine Sg.go (pc' := 13) (mi_aald (n := 60) (t := 3) (v := (60 * v0 + (mi_w ((mi_w ((mi_w (v1 * 6)) + v2)) + 1)))) dX9_rowAt_12 rfl hA_13 rfl (by omega) hk1 rfl (hL.2.2.2.2.2.2.1 _ _ (by omega) (by omega) hk1.1 hk1.2)) ?_
  exact Sg.ret (mi_areturn dX9_rowAt_13 rfl (Or.inl ⟨_, rfl⟩))
theorem C_X9_rowAt {Z : MiZ} (hL : CL Z) (a0 a1 a2 : Int) (D : MiD) (h0 : (0 ≤ a0 ∧ a0 < 2)) (b : Int) (hb : B_X9_rowAt D a0 a1 a2 = some b) : MC m_X9_rowAt [(4, a0), (0, a1), (0, a2)] (D, Z) ((mi_LI 5 (D, Z)) b) := MC.ofSg (L := (mi_LI 5 (D, Z))) (μ := m_X9_rowAt) (args := [(4, a0), (0, a1), (0, a2)]) (M := (D, Z)) rfl wP_X9 (Nat.le_of_ble_eq_true rfl) (show Sg m_X9_rowAt 0 [(4, a0), (0, a1), (0, a2)] [] (D, Z) (mi_LI 5 (D, Z)) (B_X9_rowAt D a0 a1 a2) from S_X9_rowAt hL a0 a1 a2 h0) hb
abbrev m_X9_topmost : MiI := (yX9_topmost, cX9_topmost, 1, (some .int), 1, none)
def B_X9_topmost (D : MiD) (v0 : Int) : Option (Int) := if (D 2 v0 7) ≤ 0 then (some (-1)) else (if 0 ≤ (mi_w ((D 2 v0 7) - 1)) ∧ (mi_w ((D 2 v0 7) - 1)) < 8 then (some (D 15 v0 (mi_w ((D 2 v0 7) - 1)))) else none)
set_option maxRecDepth 20000 in
theorem S_X9_topmost {D : MiD} {Z : MiZ} (hL : CL Z) (v0 : Int) : (0 ≤ v0 ∧ v0 < 2) → Sg m_X9_topmost 0 [(4, v0)] [] (D, Z) (mi_LI 0 (D, Z)) (B_X9_topmost D v0) := by
  intro hb0
  unfold B_X9_topmost
  refine Sg.go (pc' := 1) (mi_aload_n dX9_topmost_0 rfl) ?_
  refine Sg.go (pc' := 4) (mi_gfI (r := 2) (k := 7) dX9_topmost_1 hC_2 (by decide) rfl wF_X9_69 (by omega) rfl) ?_
  refine Sg.ite (fun h1 => ?_) (fun h1 => ?_)
  · refine Sg.go (pc' := 21) (mi_ifle_t (tgt := 21) dX9_topmost_4 (by decide) h1) ?_
    refine Sg.go (pc' := 22) (mi_iconst (z := (-1)) dX9_topmost_21 rfl) ?_
    exact Sg.ret (mi_ireturn dX9_topmost_22 rfl (Or.inl rfl))
  · refine Sg.go (pc' := 7) (mi_ifle_f (tgt := 21) dX9_topmost_4 (by decide) h1) ?_
    refine Sg.go (pc' := 8) (mi_aload_n dX9_topmost_7 rfl) ?_
    refine Sg.go (pc' := 11) (mi_gfA (t := 15) (v := v0) (r := 2) (k := 4) dX9_topmost_8 hC_2 (by decide) rfl wF_X9_35 (by omega) rfl (hL.2.1 _ 4 (by omega) (by omega) (by decide))) ?_
    refine Sg.go (pc' := 12) (mi_aload_n dX9_topmost_11 rfl) ?_
    refine Sg.go (pc' := 15) (mi_gfI (r := 2) (k := 7) dX9_topmost_12 hC_2 (by decide) rfl wF_X9_69 (by omega) rfl) ?_
    refine Sg.go (pc' := 16) (mi_iconst (z := 1) dX9_topmost_15 rfl) ?_
    refine Sg.go (pc' := 17) (mi_isub dX9_topmost_16) ?_
    refine Sg.ck (fun hk2 => ?_)
    refine Sg.go (pc' := 18) (mi_iald (n := 8) dX9_topmost_17 rfl rfl (by omega) hk2) ?_
    refine Sg.go (pc' := 22) (mi_goto (tgt := 22) dX9_topmost_18 (by decide)) ?_
    exact Sg.ret (mi_ireturn dX9_topmost_22 rfl (Or.inl rfl))
theorem C_X9_topmost {Z : MiZ} (hL : CL Z) (a0 : Int) (D : MiD) (h0 : (0 ≤ a0 ∧ a0 < 2)) (b : Int) (hb : B_X9_topmost D a0 = some b) : MC m_X9_topmost [(4, a0)] (D, Z) ((mi_LI 0 (D, Z)) b) := MC.ofSg (L := (mi_LI 0 (D, Z))) (μ := m_X9_topmost) (args := [(4, a0)]) (M := (D, Z)) rfl wP_X9 (Nat.le_of_ble_eq_true rfl) (show Sg m_X9_topmost 0 [(4, a0)] [] (D, Z) (mi_LI 0 (D, Z)) (B_X9_topmost D a0) from S_X9_topmost hL a0 h0) hb
abbrev m_X9_turnedBits : MiI := (yX9_turnedBits, cX9_turnedBits, 3, (some .int), 1, none)
def B_X9_turnedBits_4 (D : MiD) : Nat → Int → Int → Int → Option (Int)
  | 0, _, _, _ => none
  | f + 1, v0, v1, v2 => if 6 ≤ v2 then (some v1) else (if (D 2 v0 8) = (-1) then (B_X9_turnedBits_4 D f v0 v1 (mi_w (v2 + 1))) else (if 0 ≤ v2 ∧ v2 < 6 then (if (D 4 (6 * v0 + v2) 8) = 0 then (B_X9_turnedBits_4 D f v0 v1 (mi_w (v2 + 1))) else (mi_let (mi_or v1 (mi_shl 1 v2)) fun x5 => B_X9_turnedBits_4 D f v0 x5 (mi_w (v2 + 1)))) else none))
set_option maxRecDepth 20000 in
theorem S_X9_turnedBits_4 {D : MiD} {Z : MiZ} (hL : CL Z) : ∀ (f : Nat) (v0 v1 v2 : Int), (0 ≤ v0 ∧ v0 < 2) → Sg m_X9_turnedBits 4 [(4, v0), (0, v1), (0, v2)] [] (D, Z) (mi_LI 0 (D, Z)) (B_X9_turnedBits_4 D f v0 v1 v2) := by
  intro f
  induction f with
  | zero => intros; exact Sg.nope
  | succ f K4 =>
    intro v0 v1 v2 hb0
    show Sg m_X9_turnedBits 4 [(4, v0), (0, v1), (0, v2)] [] (D, Z) (mi_LI 0 (D, Z)) (if 6 ≤ v2 then (some v1) else (if (D 2 v0 8) = (-1) then (B_X9_turnedBits_4 D f v0 v1 (mi_w (v2 + 1))) else (if 0 ≤ v2 ∧ v2 < 6 then (if (D 4 (6 * v0 + v2) 8) = 0 then (B_X9_turnedBits_4 D f v0 v1 (mi_w (v2 + 1))) else (mi_let (mi_or v1 (mi_shl 1 v2)) fun x5 => B_X9_turnedBits_4 D f v0 x5 (mi_w (v2 + 1)))) else none)))
    refine Sg.go (pc' := 5) (mi_iload_n dX9_turnedBits_4 rfl) ?_
    refine Sg.go (pc' := 7) (mi_bipush (z := 6) dX9_turnedBits_5 rfl) ?_
    refine Sg.ite (fun h1 => ?_) (fun h1 => ?_)
    · refine Sg.go (pc' := 42) (mi_icmpge_t (tgt := 42) dX9_turnedBits_7 (by decide) h1) ?_
      refine Sg.go (pc' := 43) (mi_iload_n dX9_turnedBits_42 rfl) ?_
      exact Sg.ret (mi_ireturn dX9_turnedBits_43 rfl (Or.inl rfl))
    · refine Sg.go (pc' := 10) (mi_icmpge_f (tgt := 42) dX9_turnedBits_7 (by decide) h1) ?_
      refine Sg.go (pc' := 11) (mi_aload_n dX9_turnedBits_10 rfl) ?_
      refine Sg.go (pc' := 14) (mi_gfI (r := 2) (k := 8) dX9_turnedBits_11 hC_2 (by decide) rfl wF_X9_49 (by omega) rfl) ?_
      refine Sg.go (pc' := 15) (mi_iconst (z := (-1)) dX9_turnedBits_14 rfl) ?_
      refine Sg.ite (fun h2 => ?_) (fun h2 => ?_)
      · refine Sg.go (pc' := 36) (mi_icmpeq_t (tgt := 36) dX9_turnedBits_15 (by decide) h2) ?_
        refine Sg.go (pc' := 39) (mi_iinc (z := 1) (ls1 := [(4, v0), (0, v1), (0, (mi_w (v2 + 1)))]) dX9_turnedBits_36 (by decide) rfl rfl rfl) ?_
        refine Sg.go (pc' := 4) (mi_goto (tgt := 4) dX9_turnedBits_39 (by decide)) ?_
        exact K4 v0 v1 (mi_w (v2 + 1)) hb0
      · refine Sg.go (pc' := 18) (mi_icmpeq_f (tgt := 36) dX9_turnedBits_15 (by decide) h2) ?_
        refine Sg.go (pc' := 19) (mi_aload_n dX9_turnedBits_18 rfl) ?_
        refine Sg.go (pc' := 22) (mi_gfA (t := 14) (v := v0) (r := 2) (k := 3) dX9_turnedBits_19 hC_2 (by decide) rfl wF_X9_31 (by omega) rfl (hL.2.1 _ 3 (by omega) (by omega) (by decide))) ?_
        refine Sg.go (pc' := 23) (mi_iload_n dX9_turnedBits_22 rfl) ?_
        refine Sg.ck (fun hk3 => ?_)
        refine Sg.go (pc' := 24) (mi_aald (n := 6) (t := 4) (v := (6 * v0 + v2)) dX9_turnedBits_23 rfl hA_14 rfl (by omega) hk3 rfl (hL.2.2.2.2.2.2.2 _ _ (by omega) (by omega) hk3.1 hk3.2)) ?_
        refine Sg.go (pc' := 27) (mi_gfI (r := 4) (k := 8) dX9_turnedBits_24 hC_4 (by decide) rfl wF_X9_267 (by omega) rfl) ?_
        refine Sg.ite (fun h4 => ?_) (fun h4 => ?_)
        · refine Sg.go (pc' := 36) (mi_ifeq_t (tgt := 36) dX9_turnedBits_27 (by decide) h4) ?_
          refine Sg.go (pc' := 39) (mi_iinc (z := 1) (ls1 := [(4, v0), (0, v1), (0, (mi_w (v2 + 1)))]) dX9_turnedBits_36 (by decide) rfl rfl rfl) ?_
          refine Sg.go (pc' := 4) (mi_goto (tgt := 4) dX9_turnedBits_39 (by decide)) ?_
          exact K4 v0 v1 (mi_w (v2 + 1)) hb0
        · refine Sg.go (pc' := 30) (mi_ifeq_f (tgt := 36) dX9_turnedBits_27 (by decide) h4) ?_
          refine Sg.go (pc' := 31) (mi_iload_n dX9_turnedBits_30 rfl) ?_
          refine Sg.go (pc' := 32) (mi_iconst (z := 1) dX9_turnedBits_31 rfl) ?_
          refine Sg.go (pc' := 33) (mi_iload_n dX9_turnedBits_32 rfl) ?_
          refine Sg.go (pc' := 34) (mi_ishl dX9_turnedBits_33) ?_
          refine Sg.go (pc' := 35) (mi_ior dX9_turnedBits_34) ?_
          refine Sg.letI (fun x5 hx5 => ?_)
          refine Sg.go (pc' := 36) (mi_istore_n (ls1 := [(4, v0), (0, x5), (0, v2)]) dX9_turnedBits_35 (by decide) rfl) ?_
          refine Sg.go (pc' := 39) (mi_iinc (z := 1) (ls1 := [(4, v0), (0, x5), (0, (mi_w (v2 + 1)))]) dX9_turnedBits_36 (by decide) rfl rfl rfl) ?_
          refine Sg.go (pc' := 4) (mi_goto (tgt := 4) dX9_turnedBits_39 (by decide)) ?_
          exact K4 v0 x5 (mi_w (v2 + 1)) hb0
def B_X9_turnedBits (D : MiD) (v0 : Int) : Option (Int) := B_X9_turnedBits_4 D mi_fuel v0 0 0
set_option maxRecDepth 20000 in
theorem S_X9_turnedBits {D : MiD} {Z : MiZ} (hL : CL Z) (v0 : Int) : (0 ≤ v0 ∧ v0 < 2) → Sg m_X9_turnedBits 0 [(4, v0), mi_un, mi_un] [] (D, Z) (mi_LI 0 (D, Z)) (B_X9_turnedBits D v0) := by
  intro hb0
  unfold B_X9_turnedBits
  refine Sg.go (pc' := 1) (mi_iconst (z := 0) dX9_turnedBits_0 rfl) ?_
  refine Sg.go (pc' := 2) (mi_istore_n (ls1 := [(4, v0), (0, 0), mi_un]) dX9_turnedBits_1 (by decide) rfl) ?_
  refine Sg.go (pc' := 3) (mi_iconst (z := 0) dX9_turnedBits_2 rfl) ?_
  refine Sg.go (pc' := 4) (mi_istore_n (ls1 := [(4, v0), (0, 0), (0, 0)]) dX9_turnedBits_3 (by decide) rfl) ?_
  exact S_X9_turnedBits_4 hL mi_fuel v0 0 0 hb0
theorem C_X9_turnedBits {Z : MiZ} (hL : CL Z) (a0 : Int) (D : MiD) (h0 : (0 ≤ a0 ∧ a0 < 2)) (b : Int) (hb : B_X9_turnedBits D a0 = some b) : MC m_X9_turnedBits [(4, a0)] (D, Z) ((mi_LI 0 (D, Z)) b) := MC.ofSg (L := (mi_LI 0 (D, Z))) (μ := m_X9_turnedBits) (args := [(4, a0)]) (M := (D, Z)) rfl wP_X9 (Nat.le_of_ble_eq_true rfl) (show Sg m_X9_turnedBits 0 [(4, a0), mi_un, mi_un] [] (D, Z) (mi_LI 0 (D, Z)) (B_X9_turnedBits D a0) from S_X9_turnedBits hL a0 h0) hb
end MiW1
