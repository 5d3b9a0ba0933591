noncomputable section MiH1
abbrev m_L_function : MiI := (yL_function, cL_function, 5, (some .int), 10, some [(0, 10, 13, 13), (0, 10, 17, 15), (0, 10, 21, 17)])
set_option maxRecDepth 20000 in
theorem C_L_function {Z1 : MiZ} (hL : CL Z1) (hW : mi_cw mi_s1 Z1) (a1 a2 : Int) (D1 : MiD) (M0 M2 : MiM) (b : (Int × MiM) ⊕ (Nat × MiM)) (hb : B_X10_function a1 a2 D1 Z1 = some b) (hw : ∀ a, b = .inl a → mi_cw mi_s1 a.2.2) (hk : ∀ a, b = .inr a → (fun k => k == 0 || k == 1 || k == 2) a.1 = true ∧ mi_cw mi_s1 a.2.2) : MC m_L_function [(3, 0), (0, a1), (0, a2), (27, 0)] (mi_cb M0 (D1, Z1) M2) (mi_hQ (fun k => if k = 0 then 1 else if k = 1 then 2 else 3) M0 M2 b) := by
  match b, hb, hw, hk with
  | .inl (v, D', Z'), hb, hw, _ =>
    refine MC.ofH (α := Unit) (L := fun _ => mi_hQ (fun k => if k = 0 then 1 else if k = 1 then 2 else 3) M0 M2 (.inl (v, (D', Z')))) (o := some ()) (a := ()) rfl wP_L (Nat.le_of_ble_eq_true rfl) ?_ rfl
    show SgP _ m_L_function 0 [(3, 0), (0, a1), (0, a2), (27, 0), mi_un] [] _ _ _
    refine SgP.go (pc' := 1) (mi_aload_n dL_function_0 rfl) ?_
    refine SgP.go (pc' := 2) (mi_iconst (z := 0) dL_function_1 rfl) ?_
    refine SgP.go (pc' := 3) (mi_aload_n dL_function_2 rfl) ?_
    refine SgP.go (pc' := 4) (mi_iload_n dL_function_3 rfl) ?_
    refine SgP.go (pc' := 5) (mi_iload_n dL_function_4 rfl) ?_
    refine SgP.call (μ' := m_X10_function) (args := [(3, 0), (0, a1), (0, a2)]) (mi_invV (n := 2) (r := 1) dL_function_5 hC_1 (by omega) rfl rfl wN_X10_function rfl ⟨by decide, by decide⟩ wL_L_7 wI_X10_function wS_X10_function wB_X10 wC_X10_function) ((C_X10_function hL a1 a2 D1 _ hb).l1 hW (hw _ rfl) rfl (fun _ => show (0 : Nat) < 2 by decide)) (show (1 : Nat) ≠ 2 by decide) (Nat.le_of_ble_eq_true rfl) ?_ rfl
    show SgP _ m_L_function 8 [(3, 0), (0, a1), (0, a2), (27, 0), mi_un] ((0, v) :: [(0, 0), (27, 0)]) (mi_cb M0 (D', Z') M2) _ _
    refine SgP.go (pc' := 9) (mi_i2l dL_function_8) ?_
    refine SgP.goM (pc' := 10) (mi_lastoreG (r := 25) dL_function_9 rfl (by decide) (by decide) (by decide)) ?_
    rw [mi_cb_o]
    refine SgP.go (pc' := 25) (mi_goto (tgt := 25) dL_function_10 (by decide)) ?_
    refine SgP.go (pc' := 26) (mi_iconst (z := 0) dL_function_25 rfl) ?_
    exact SgP.ret (mi_ireturn dL_function_26 rfl (Or.inl rfl))
  | .inr (k, D', Z'), hb, _, hk =>
    have h9 := (hk _ rfl).1
    have h8 : (k = 0 ∨ k = 1) ∨ k = 2 := by simpa using h9
    rcases h8 with (rfl | rfl) | rfl
    · refine MC.ofH (α := Unit) (L := fun _ => mi_hQ (fun k => if k = 0 then 1 else if k = 1 then 2 else 3) M0 M2 (.inr (0, (D', Z')))) (o := some ()) (a := ()) rfl wP_L (Nat.le_of_ble_eq_true rfl) ?_ rfl
      show SgP _ m_L_function 0 [(3, 0), (0, a1), (0, a2), (27, 0), mi_un] [] _ _ _
      refine SgP.go (pc' := 1) (mi_aload_n dL_function_0 rfl) ?_
      refine SgP.go (pc' := 2) (mi_iconst (z := 0) dL_function_1 rfl) ?_
      refine SgP.go (pc' := 3) (mi_aload_n dL_function_2 rfl) ?_
      refine SgP.go (pc' := 4) (mi_iload_n dL_function_3 rfl) ?_
      refine SgP.go (pc' := 5) (mi_iload_n dL_function_4 rfl) ?_
      exact SgP.callH (h := 13) (z := 1) (a := ()) (μ' := m_X10_function) (args := [(3, 0), (0, a1), (0, a2)]) (mi_invV (n := 2) (r := 1) dL_function_5 hC_1 (by omega) rfl rfl wN_X10_function rfl ⟨by decide, by decide⟩ wL_L_7 wI_X10_function wS_X10_function wB_X10 wC_X10_function) ((C_X10_function hL a1 a2 D1 _ hb).l1 hW (hk _ rfl).2 rfl (fun h => absurd h (show ¬ (2 : Nat) = 1 by decide))) rfl (Nat.le_of_ble_eq_true rfl) rfl (fun _ _ _ _ _ h => h) ⟨_, [], ⟨0, 10, 13, 13⟩, [⟨0, 10, 17, 15⟩, ⟨0, 10, 21, 17⟩], _, rfl, by decide, (fun z hz => by cases hz), by decide, by decide, rfl, wK_L_13, wX_0⟩ ⟨rfl, 15, 1, rfl, Or.inl ⟨4, dL_function_13, rfl, by decide⟩, dL_function_15, dL_function_16⟩ rfl
    · refine MC.ofH (α := Unit) (L := fun _ => mi_hQ (fun k => if k = 0 then 1 else if k = 1 then 2 else 3) M0 M2 (.inr (1, (D', Z')))) (o := some ()) (a := ()) rfl wP_L (Nat.le_of_ble_eq_true rfl) ?_ rfl
      show SgP _ m_L_function 0 [(3, 0), (0, a1), (0, a2), (27, 0), mi_un] [] _ _ _
      refine SgP.go (pc' := 1) (mi_aload_n dL_function_0 rfl) ?_
      refine SgP.go (pc' := 2) (mi_iconst (z := 0) dL_function_1 rfl) ?_
      refine SgP.go (pc' := 3) (mi_aload_n dL_function_2 rfl) ?_
      refine SgP.go (pc' := 4) (mi_iload_n dL_function_3 rfl) ?_
      refine SgP.go (pc' := 5) (mi_iload_n dL_function_4 rfl) ?_
      exact SgP.callH (h := 17) (z := 2) (a := ()) (μ' := m_X10_function) (args := [(3, 0), (0, a1), (0, a2)]) (mi_invV (n := 2) (r := 1) dL_function_5 hC_1 (by omega) rfl rfl wN_X10_function rfl ⟨by decide, by decide⟩ wL_L_7 wI_X10_function wS_X10_function wB_X10 wC_X10_function) ((C_X10_function hL a1 a2 D1 _ hb).l1 hW (hk _ rfl).2 rfl (fun h => absurd h (show ¬ (2 : Nat) = 1 by decide))) rfl (Nat.le_of_ble_eq_true rfl) rfl (fun _ _ _ _ _ h => h) ⟨_, [⟨0, 10, 13, 13⟩], ⟨0, 10, 17, 15⟩, [⟨0, 10, 21, 17⟩], _, rfl, by decide, (fun z hz => by
        rcases List.mem_cons.mp hz with rfl | hz
        · exact Or.inr ⟨by decide, _, wK_L_13, by show (mi_exn 1, _) ∈ mi_ncL; simp [mi_ncL, mi_exn]⟩
        cases hz), by decide, by decide, rfl, wK_L_15, wX_1⟩ ⟨rfl, 19, 2, rfl, Or.inl ⟨4, dL_function_17, rfl, by decide⟩, dL_function_19, dL_function_20⟩ rfl
    · refine MC.ofH (α := Unit) (L := fun _ => mi_hQ (fun k => if k = 0 then 1 else if k = 1 then 2 else 3) M0 M2 (.inr (2, (D', Z')))) (o := some ()) (a := ()) rfl wP_L (Nat.le_of_ble_eq_true rfl) ?_ rfl
      show SgP _ m_L_function 0 [(3, 0), (0, a1), (0, a2), (27, 0), mi_un] [] _ _ _
      refine SgP.go (pc' := 1) (mi_aload_n dL_function_0 rfl) ?_
      refine SgP.go (pc' := 2) (mi_iconst (z := 0) dL_function_1 rfl) ?_
      refine SgP.go (pc' := 3) (mi_aload_n dL_function_2 rfl) ?_
      refine SgP.go (pc' := 4) (mi_iload_n dL_function_3 rfl) ?_
      refine SgP.go (pc' := 5) (mi_iload_n dL_function_4 rfl) ?_
      exact SgP.callH (h := 21) (z := 3) (a := ()) (μ' := m_X10_function) (args := [(3, 0), (0, a1), (0, a2)]) (mi_invV (n := 2) (r := 1) dL_function_5 hC_1 (by omega) rfl rfl wN_X10_function rfl ⟨by decide, by decide⟩ wL_L_7 wI_X10_function wS_X10_function wB_X10 wC_X10_function) ((C_X10_function hL a1 a2 D1 _ hb).l1 hW (hk _ rfl).2 rfl (fun h => absurd h (show ¬ (2 : Nat) = 1 by decide))) rfl (Nat.le_of_ble_eq_true rfl) rfl (fun _ _ _ _ _ h => h) ⟨_, [⟨0, 10, 13, 13⟩, ⟨0, 10, 17, 15⟩], ⟨0, 10, 21, 17⟩, [], _, rfl, by decide, (fun z hz => by
        rcases List.mem_cons.mp hz with rfl | hz
        · exact Or.inr ⟨by decide, _, wK_L_13, by show (mi_exn 2, _) ∈ mi_ncL; simp [mi_ncL, mi_exn]⟩
        rcases List.mem_cons.mp hz with rfl | hz
        · exact Or.inr ⟨by decide, _, wK_L_15, by show (mi_exn 2, _) ∈ mi_ncL; simp [mi_ncL, mi_exn]⟩
        cases hz), by decide, by decide, rfl, wK_L_17, wX_2⟩ ⟨rfl, 23, 3, rfl, Or.inl ⟨4, dL_function_21, rfl, by decide⟩, dL_function_23, dL_function_24⟩ rfl
abbrev m_L_patch : MiI := (yL_patch, cL_patch, 4, (some .int), 11, some [(0, 9, 12, 15), (0, 9, 15, 17)])
set_option maxRecDepth 20000 in
theorem C_L_patch {Z1 : MiZ} (hL : CL Z1) (hW : mi_cw mi_s1 Z1) (a1 : Int) (D1 : MiD) (M0 M2 : MiM) (b : (Int × MiM) ⊕ (Nat × MiM)) (hb : B_X10_patch a1 D1 Z1 = some b) (hw : ∀ a, b = .inl a → mi_cw mi_s1 a.2.2) (hk : ∀ a, b = .inr a → (fun k => k == 1 || k == 2) a.1 = true ∧ mi_cw mi_s1 a.2.2) : MC m_L_patch [(3, 0), (0, a1), (27, 0)] (mi_cb M0 (D1, Z1) M2) (mi_hQ (fun k => if k = 1 then 1 else 2) M0 M2 b) := by
  match b, hb, hw, hk with
  | .inl (v, D', Z'), hb, hw, _ =>
    refine MC.ofH (α := Unit) (L := fun _ => mi_hQ (fun k => if k = 1 then 1 else 2) M0 M2 (.inl (v, (D', Z')))) (o := some ()) (a := ()) rfl wP_L (Nat.le_of_ble_eq_true rfl) ?_ rfl
    show SgP _ m_L_patch 0 [(3, 0), (0, a1), (27, 0), mi_un] [] _ _ _
    refine SgP.go (pc' := 1) (mi_aload_n dL_patch_0 rfl) ?_
    refine SgP.go (pc' := 2) (mi_iconst (z := 0) dL_patch_1 rfl) ?_
    refine SgP.go (pc' := 3) (mi_aload_n dL_patch_2 rfl) ?_
    refine SgP.go (pc' := 4) (mi_iload_n dL_patch_3 rfl) ?_
    refine SgP.call (μ' := m_X10_patch) (args := [(3, 0), (0, a1)]) (mi_invV (n := 1) (r := 1) dL_patch_4 hC_1 (by omega) rfl rfl wN_X10_patch rfl ⟨by decide, by decide⟩ wL_L_19 wI_X10_patch wS_X10_patch wB_X10 wC_X10_patch) ((C_X10_patch hL a1 D1 _ hb).l1 hW (hw _ rfl) rfl (fun _ => show (0 : Nat) < 2 by decide)) (show (1 : Nat) ≠ 2 by decide) (Nat.le_of_ble_eq_true rfl) ?_ rfl
    show SgP _ m_L_patch 7 [(3, 0), (0, a1), (27, 0), mi_un] ((0, v) :: [(0, 0), (27, 0)]) (mi_cb M0 (D', Z') M2) _ _
    refine SgP.go (pc' := 8) (mi_i2l dL_patch_7) ?_
    refine SgP.goM (pc' := 9) (mi_lastoreG (r := 25) dL_patch_8 rfl (by decide) (by decide) (by decide)) ?_
    rw [mi_cb_o]
    refine SgP.go (pc' := 18) (mi_goto (tgt := 18) dL_patch_9 (by decide)) ?_
    refine SgP.go (pc' := 19) (mi_iconst (z := 0) dL_patch_18 rfl) ?_
    exact SgP.ret (mi_ireturn dL_patch_19 rfl (Or.inl rfl))
  | .inr (k, D', Z'), hb, _, hk =>
    have h9 := (hk _ rfl).1
    have h8 : k = 1 ∨ k = 2 := by simpa using h9
    rcases h8 with rfl | rfl
    · refine MC.ofH (α := Unit) (L := fun _ => mi_hQ (fun k => if k = 1 then 1 else 2) M0 M2 (.inr (1, (D', Z')))) (o := some ()) (a := ()) rfl wP_L (Nat.le_of_ble_eq_true rfl) ?_ rfl
      show SgP _ m_L_patch 0 [(3, 0), (0, a1), (27, 0), mi_un] [] _ _ _
      refine SgP.go (pc' := 1) (mi_aload_n dL_patch_0 rfl) ?_
      refine SgP.go (pc' := 2) (mi_iconst (z := 0) dL_patch_1 rfl) ?_
      refine SgP.go (pc' := 3) (mi_aload_n dL_patch_2 rfl) ?_
      refine SgP.go (pc' := 4) (mi_iload_n dL_patch_3 rfl) ?_
      exact SgP.callH (h := 12) (z := 1) (a := ()) (μ' := m_X10_patch) (args := [(3, 0), (0, a1)]) (mi_invV (n := 1) (r := 1) dL_patch_4 hC_1 (by omega) rfl rfl wN_X10_patch rfl ⟨by decide, by decide⟩ wL_L_19 wI_X10_patch wS_X10_patch wB_X10 wC_X10_patch) ((C_X10_patch hL a1 D1 _ hb).l1 hW (hk _ rfl).2 rfl (fun h => absurd h (show ¬ (2 : Nat) = 1 by decide))) rfl (Nat.le_of_ble_eq_true rfl) rfl (fun _ _ _ _ _ h => h) ⟨_, [], ⟨0, 9, 12, 15⟩, [⟨0, 9, 15, 17⟩], _, rfl, by decide, (fun z hz => by cases hz), by decide, by decide, rfl, wK_L_15, wX_1⟩ ⟨rfl, 13, 1, rfl, Or.inr ⟨3, dL_patch_12, rfl, by decide⟩, dL_patch_13, dL_patch_14⟩ rfl
    · refine MC.ofH (α := Unit) (L := fun _ => mi_hQ (fun k => if k = 1 then 1 else 2) M0 M2 (.inr (2, (D', Z')))) (o := some ()) (a := ()) rfl wP_L (Nat.le_of_ble_eq_true rfl) ?_ rfl
      show SgP _ m_L_patch 0 [(3, 0), (0, a1), (27, 0), mi_un] [] _ _ _
      refine SgP.go (pc' := 1) (mi_aload_n dL_patch_0 rfl) ?_
      refine SgP.go (pc' := 2) (mi_iconst (z := 0) dL_patch_1 rfl) ?_
      refine SgP.go (pc' := 3) (mi_aload_n dL_patch_2 rfl) ?_
      refine SgP.go (pc' := 4) (mi_iload_n dL_patch_3 rfl) ?_
      exact SgP.callH (h := 15) (z := 2) (a := ()) (μ' := m_X10_patch) (args := [(3, 0), (0, a1)]) (mi_invV (n := 1) (r := 1) dL_patch_4 hC_1 (by omega) rfl rfl wN_X10_patch rfl ⟨by decide, by decide⟩ wL_L_19 wI_X10_patch wS_X10_patch wB_X10 wC_X10_patch) ((C_X10_patch hL a1 D1 _ hb).l1 hW (hk _ rfl).2 rfl (fun h => absurd h (show ¬ (2 : Nat) = 1 by decide))) rfl (Nat.le_of_ble_eq_true rfl) rfl (fun _ _ _ _ _ h => h) ⟨_, [⟨0, 9, 12, 15⟩], ⟨0, 9, 15, 17⟩, [], _, rfl, by decide, (fun z hz => by
        rcases List.mem_cons.mp hz with rfl | hz
        · exact Or.inr ⟨by decide, _, wK_L_15, by show (mi_exn 2, _) ∈ mi_ncL; simp [mi_ncL, mi_exn]⟩
        cases hz), by decide, by decide, rfl, wK_L_17, wX_2⟩ ⟨rfl, 16, 2, rfl, Or.inr ⟨3, dL_patch_15, rfl, by decide⟩, dL_patch_16, dL_patch_17⟩ rfl
abbrev m_L_datum : MiI := (yL_datum, cL_datum, 6, (some .int), 8, some [(0, 12, 15, 13), (0, 12, 19, 15)])
set_option maxRecDepth 20000 in
theorem C_L_datum {Z1 : MiZ} (hL : CL Z1) (hW : mi_cw mi_s1 Z1) (a1 a2 a3 : Int) (D1 : MiD) (M0 M2 : MiM) (b : (Int × MiD) ⊕ (Nat × MiD)) (hb : B_X10_datum a1 a2 a3 D1 = some b) (hk : ∀ a, b = .inr a → (fun k => k == 0 || k == 1) a.1 = true) : MC m_L_datum [(3, 0), (0, a1), (0, a2), (0, a3), (27, 0)] (mi_cb M0 (D1, Z1) M2) (mi_hT (fun k => if k = 0 then 1 else 2) M0 Z1 M2 b) := by
  match b, hb, hk with
  | .inl (v, D'), hb, _ =>
    refine MC.ofH (α := Unit) (L := fun _ => mi_hT (fun k => if k = 0 then 1 else 2) M0 Z1 M2 (.inl (v, D'))) (o := some ()) (a := ()) rfl wP_L (Nat.le_of_ble_eq_true rfl) ?_ rfl
    show SgP _ m_L_datum 0 [(3, 0), (0, a1), (0, a2), (0, a3), (27, 0), mi_un] [] _ _ _
    refine SgP.go (pc' := 2) (mi_aload dL_datum_0 rfl) ?_
    refine SgP.go (pc' := 3) (mi_iconst (z := 0) dL_datum_2 rfl) ?_
    refine SgP.go (pc' := 4) (mi_aload_n dL_datum_3 rfl) ?_
    refine SgP.go (pc' := 5) (mi_iload_n dL_datum_4 rfl) ?_
    refine SgP.go (pc' := 6) (mi_iload_n dL_datum_5 rfl) ?_
    refine SgP.go (pc' := 7) (mi_iload_n dL_datum_6 rfl) ?_
    refine SgP.call (μ' := m_X10_datum) (args := [(3, 0), (0, a1), (0, a2), (0, a3)]) (mi_invV (n := 3) (r := 1) dL_datum_7 hC_1 (by omega) rfl rfl wN_X10_datum rfl ⟨by decide, by decide⟩ wL_L_23 wI_X10_datum wS_X10_datum wB_X10 wC_X10_datum) ((C_X10_datum hL a1 a2 a3 D1 _ hb).l1 hW hW rfl (fun _ => show (0 : Nat) < 2 by decide)) (show (1 : Nat) ≠ 2 by decide) (Nat.le_of_ble_eq_true rfl) ?_ rfl
    show SgP _ m_L_datum 10 [(3, 0), (0, a1), (0, a2), (0, a3), (27, 0), mi_un] ((0, v) :: [(0, 0), (27, 0)]) (mi_cb M0 (D', Z1) M2) _ _
    refine SgP.go (pc' := 11) (mi_i2l dL_datum_10) ?_
    refine SgP.goM (pc' := 12) (mi_lastoreG (r := 25) dL_datum_11 rfl (by decide) (by decide) (by decide)) ?_
    rw [mi_cb_o]
    refine SgP.go (pc' := 23) (mi_goto (tgt := 23) dL_datum_12 (by decide)) ?_
    refine SgP.go (pc' := 24) (mi_iconst (z := 0) dL_datum_23 rfl) ?_
    exact SgP.ret (mi_ireturn dL_datum_24 rfl (Or.inl rfl))
  | .inr (k, D'), hb, hk =>
    have h9 := hk _ rfl
    have h8 : k = 0 ∨ k = 1 := by simpa using h9
    rcases h8 with rfl | rfl
    · refine MC.ofH (α := Unit) (L := fun _ => mi_hT (fun k => if k = 0 then 1 else 2) M0 Z1 M2 (.inr (0, D'))) (o := some ()) (a := ()) rfl wP_L (Nat.le_of_ble_eq_true rfl) ?_ rfl
      show SgP _ m_L_datum 0 [(3, 0), (0, a1), (0, a2), (0, a3), (27, 0), mi_un] [] _ _ _
      refine SgP.go (pc' := 2) (mi_aload dL_datum_0 rfl) ?_
      refine SgP.go (pc' := 3) (mi_iconst (z := 0) dL_datum_2 rfl) ?_
      refine SgP.go (pc' := 4) (mi_aload_n dL_datum_3 rfl) ?_
      refine SgP.go (pc' := 5) (mi_iload_n dL_datum_4 rfl) ?_
      refine SgP.go (pc' := 6) (mi_iload_n dL_datum_5 rfl) ?_
      refine SgP.go (pc' := 7) (mi_iload_n dL_datum_6 rfl) ?_
      exact SgP.callH (h := 15) (z := 1) (a := ()) (μ' := m_X10_datum) (args := [(3, 0), (0, a1), (0, a2), (0, a3)]) (mi_invV (n := 3) (r := 1) dL_datum_7 hC_1 (by omega) rfl rfl wN_X10_datum rfl ⟨by decide, by decide⟩ wL_L_23 wI_X10_datum wS_X10_datum wB_X10 wC_X10_datum) ((C_X10_datum hL a1 a2 a3 D1 _ hb).l1 hW hW rfl (fun h => absurd h (show ¬ (2 : Nat) = 1 by decide))) rfl (Nat.le_of_ble_eq_true rfl) rfl (fun _ _ _ _ _ h => h) ⟨_, [], ⟨0, 12, 15, 13⟩, [⟨0, 12, 19, 15⟩], _, rfl, by decide, (fun z hz => by cases hz), by decide, by decide, rfl, wK_L_13, wX_0⟩ ⟨rfl, 17, 1, rfl, Or.inl ⟨5, dL_datum_15, rfl, by decide⟩, dL_datum_17, dL_datum_18⟩ rfl
    · refine MC.ofH (α := Unit) (L := fun _ => mi_hT (fun k => if k = 0 then 1 else 2) M0 Z1 M2 (.inr (1, D'))) (o := some ()) (a := ()) rfl wP_L (Nat.le_of_ble_eq_true rfl) ?_ rfl
      show SgP _ m_L_datum 0 [(3, 0), (0, a1), (0, a2), (0, a3), (27, 0), mi_un] [] _ _ _
      refine SgP.go (pc' := 2) (mi_aload dL_datum_0 rfl) ?_
      refine SgP.go (pc' := 3) (mi_iconst (z := 0) dL_datum_2 rfl) ?_
      refine SgP.go (pc' := 4) (mi_aload_n dL_datum_3 rfl) ?_
      refine SgP.go (pc' := 5) (mi_iload_n dL_datum_4 rfl) ?_
      refine SgP.go (pc' := 6) (mi_iload_n dL_datum_5 rfl) ?_
      refine SgP.go (pc' := 7) (mi_iload_n dL_datum_6 rfl) ?_
      exact SgP.callH (h := 19) (z := 2) (a := ()) (μ' := m_X10_datum) (args := [(3, 0), (0, a1), (0, a2), (0, a3)]) (mi_invV (n := 3) (r := 1) dL_datum_7 hC_1 (by omega) rfl rfl wN_X10_datum rfl ⟨by decide, by decide⟩ wL_L_23 wI_X10_datum wS_X10_datum wB_X10 wC_X10_datum) ((C_X10_datum hL a1 a2 a3 D1 _ hb).l1 hW hW rfl (fun h => absurd h (show ¬ (2 : Nat) = 1 by decide))) rfl (Nat.le_of_ble_eq_true rfl) rfl (fun _ _ _ _ _ h => h) ⟨_, [⟨0, 12, 15, 13⟩], ⟨0, 12, 19, 15⟩, [], _, rfl, by decide, (fun z hz => by
        rcases List.mem_cons.mp hz with rfl | hz
        · exact Or.inr ⟨by decide, _, wK_L_13, by show (mi_exn 1, _) ∈ mi_ncL; simp [mi_ncL, mi_exn]⟩
        cases hz), by decide, by decide, rfl, wK_L_15, wX_1⟩ ⟨rfl, 21, 2, rfl, Or.inl ⟨5, dL_datum_19, rfl, by decide⟩, dL_datum_21, dL_datum_22⟩ rfl
abbrev m_L_start : MiI := (yL_start, cL_start, 5, (some .int), 8, some [(0, 10, 13, 13), (0, 10, 17, 17)])
set_option maxRecDepth 20000 in
theorem C_L_start {Z1 : MiZ} (hL : CL Z1) (hW : mi_cw mi_s1 Z1) (a1 a2 : Int) (D1 : MiD) (M0 M2 : MiM) (b : (Int × MiD) ⊕ (Nat × MiD)) (hb : B_X10_start Z1 a1 a2 D1 = some b) (hk : ∀ a, b = .inr a → (fun k => k == 0 || k == 2) a.1 = true) : MC m_L_start [(3, 0), (0, a1), (0, a2), (27, 0)] (mi_cb M0 (D1, Z1) M2) (mi_hT (fun k => if k = 0 then 1 else 2) M0 Z1 M2 b) := by
  match b, hb, hk with
  | .inl (v, D'), hb, _ =>
    refine MC.ofH (α := Unit) (L := fun _ => mi_hT (fun k => if k = 0 then 1 else 2) M0 Z1 M2 (.inl (v, D'))) (o := some ()) (a := ()) rfl wP_L (Nat.le_of_ble_eq_true rfl) ?_ rfl
    show SgP _ m_L_start 0 [(3, 0), (0, a1), (0, a2), (27, 0), mi_un] [] _ _ _
    refine SgP.go (pc' := 1) (mi_aload_n dL_start_0 rfl) ?_
    refine SgP.go (pc' := 2) (mi_iconst (z := 0) dL_start_1 rfl) ?_
    refine SgP.go (pc' := 3) (mi_aload_n dL_start_2 rfl) ?_
    refine SgP.go (pc' := 4) (mi_iload_n dL_start_3 rfl) ?_
    refine SgP.go (pc' := 5) (mi_iload_n dL_start_4 rfl) ?_
    refine SgP.call (μ' := m_X10_start) (args := [(3, 0), (0, a1), (0, a2)]) (mi_invV (n := 2) (r := 1) dL_start_5 hC_1 (by omega) rfl rfl wN_X10_start rfl ⟨by decide, by decide⟩ wL_L_27 wI_X10_start wS_X10_start wB_X10 wC_X10_start) ((C_X10_start hL a1 a2 D1 _ hb).l1 hW hW rfl (fun _ => show (0 : Nat) < 2 by decide)) (show (1 : Nat) ≠ 2 by decide) (Nat.le_of_ble_eq_true rfl) ?_ rfl
    show SgP _ m_L_start 8 [(3, 0), (0, a1), (0, a2), (27, 0), mi_un] ((0, v) :: [(0, 0), (27, 0)]) (mi_cb M0 (D', Z1) M2) _ _
    refine SgP.go (pc' := 9) (mi_i2l dL_start_8) ?_
    refine SgP.goM (pc' := 10) (mi_lastoreG (r := 25) dL_start_9 rfl (by decide) (by decide) (by decide)) ?_
    rw [mi_cb_o]
    refine SgP.go (pc' := 21) (mi_goto (tgt := 21) dL_start_10 (by decide)) ?_
    refine SgP.go (pc' := 22) (mi_iconst (z := 0) dL_start_21 rfl) ?_
    exact SgP.ret (mi_ireturn dL_start_22 rfl (Or.inl rfl))
  | .inr (k, D'), hb, hk =>
    have h9 := hk _ rfl
    have h8 : k = 0 ∨ k = 2 := by simpa using h9
    rcases h8 with rfl | rfl
    · refine MC.ofH (α := Unit) (L := fun _ => mi_hT (fun k => if k = 0 then 1 else 2) M0 Z1 M2 (.inr (0, D'))) (o := some ()) (a := ()) rfl wP_L (Nat.le_of_ble_eq_true rfl) ?_ rfl
      show SgP _ m_L_start 0 [(3, 0), (0, a1), (0, a2), (27, 0), mi_un] [] _ _ _
      refine SgP.go (pc' := 1) (mi_aload_n dL_start_0 rfl) ?_
      refine SgP.go (pc' := 2) (mi_iconst (z := 0) dL_start_1 rfl) ?_
      refine SgP.go (pc' := 3) (mi_aload_n dL_start_2 rfl) ?_
      refine SgP.go (pc' := 4) (mi_iload_n dL_start_3 rfl) ?_
      refine SgP.go (pc' := 5) (mi_iload_n dL_start_4 rfl) ?_
      exact SgP.callH (h := 13) (z := 1) (a := ()) (μ' := m_X10_start) (args := [(3, 0), (0, a1), (0, a2)]) (mi_invV (n := 2) (r := 1) dL_start_5 hC_1 (by omega) rfl rfl wN_X10_start rfl ⟨by decide, by decide⟩ wL_L_27 wI_X10_start wS_X10_start wB_X10 wC_X10_start) ((C_X10_start hL a1 a2 D1 _ hb).l1 hW hW rfl (fun h => absurd h (show ¬ (2 : Nat) = 1 by decide))) rfl (Nat.le_of_ble_eq_true rfl) rfl (fun _ _ _ _ _ h => h) ⟨_, [], ⟨0, 10, 13, 13⟩, [⟨0, 10, 17, 17⟩], _, rfl, by decide, (fun z hz => by cases hz), by decide, by decide, rfl, wK_L_13, wX_0⟩ ⟨rfl, 15, 1, rfl, Or.inl ⟨4, dL_start_13, rfl, by decide⟩, dL_start_15, dL_start_16⟩ rfl
    · refine MC.ofH (α := Unit) (L := fun _ => mi_hT (fun k => if k = 0 then 1 else 2) M0 Z1 M2 (.inr (2, D'))) (o := some ()) (a := ()) rfl wP_L (Nat.le_of_ble_eq_true rfl) ?_ rfl
      show SgP _ m_L_start 0 [(3, 0), (0, a1), (0, a2), (27, 0), mi_un] [] _ _ _
      refine SgP.go (pc' := 1) (mi_aload_n dL_start_0 rfl) ?_
      refine SgP.go (pc' := 2) (mi_iconst (z := 0) dL_start_1 rfl) ?_
      refine SgP.go (pc' := 3) (mi_aload_n dL_start_2 rfl) ?_
      refine SgP.go (pc' := 4) (mi_iload_n dL_start_3 rfl) ?_
      refine SgP.go (pc' := 5) (mi_iload_n dL_start_4 rfl) ?_
      exact SgP.callH (h := 17) (z := 2) (a := ()) (μ' := m_X10_start) (args := [(3, 0), (0, a1), (0, a2)]) (mi_invV (n := 2) (r := 1) dL_start_5 hC_1 (by omega) rfl rfl wN_X10_start rfl ⟨by decide, by decide⟩ wL_L_27 wI_X10_start wS_X10_start wB_X10 wC_X10_start) ((C_X10_start hL a1 a2 D1 _ hb).l1 hW hW rfl (fun h => absurd h (show ¬ (2 : Nat) = 1 by decide))) rfl (Nat.le_of_ble_eq_true rfl) rfl (fun _ _ _ _ _ h => h) ⟨_, [⟨0, 10, 13, 13⟩], ⟨0, 10, 17, 17⟩, [], _, rfl, by decide, (fun z hz => by
        rcases List.mem_cons.mp hz with rfl | hz
        · exact Or.inr ⟨by decide, _, wK_L_13, by show (mi_exn 2, _) ∈ mi_ncL; simp [mi_ncL, mi_exn]⟩
        cases hz), by decide, by decide, rfl, wK_L_17, wX_2⟩ ⟨rfl, 19, 2, rfl, Or.inl ⟨4, dL_start_17, rfl, by decide⟩, dL_start_19, dL_start_20⟩ rfl
abbrev m_L_step : MiI := (yL_step, cL_step, 4, (some .int), 8, some [(0, 9, 12, 13), (0, 9, 15, 17)])
set_option maxRecDepth 20000 in
theorem C_L_step {Z1 : MiZ} (hL : CL Z1) (hW : mi_cw mi_s1 Z1) (a1 : Int) (D1 : MiD) (M0 M2 : MiM) (b : (Int × MiD) ⊕ (Nat × MiD)) (hb : B_X10_step Z1 a1 D1 = some b) (hk : ∀ a, b = .inr a → (fun k => k == 0 || k == 2) a.1 = true) : MC m_L_step [(3, 0), (0, a1), (27, 0)] (mi_cb M0 (D1, Z1) M2) (mi_hT (fun k => if k = 0 then 1 else 2) M0 Z1 M2 b) := by
  match b, hb, hk with
  | .inl (v, D'), hb, _ =>
    refine MC.ofH (α := Unit) (L := fun _ => mi_hT (fun k => if k = 0 then 1 else 2) M0 Z1 M2 (.inl (v, D'))) (o := some ()) (a := ()) rfl wP_L (Nat.le_of_ble_eq_true rfl) ?_ rfl
    show SgP _ m_L_step 0 [(3, 0), (0, a1), (27, 0), mi_un] [] _ _ _
    refine SgP.go (pc' := 1) (mi_aload_n dL_step_0 rfl) ?_
    refine SgP.go (pc' := 2) (mi_iconst (z := 0) dL_step_1 rfl) ?_
    refine SgP.go (pc' := 3) (mi_aload_n dL_step_2 rfl) ?_
    refine SgP.go (pc' := 4) (mi_iload_n dL_step_3 rfl) ?_
    refine SgP.call (μ' := m_X10_step) (args := [(3, 0), (0, a1)]) (mi_invV (n := 1) (r := 1) dL_step_4 hC_1 (by omega) rfl rfl wN_X10_step rfl ⟨by decide, by decide⟩ wL_L_30 wI_X10_step wS_X10_step wB_X10 wC_X10_step) ((C_X10_step hL a1 D1 _ hb).l1 hW hW rfl (fun _ => show (0 : Nat) < 2 by decide)) (show (1 : Nat) ≠ 2 by decide) (Nat.le_of_ble_eq_true rfl) ?_ rfl
    show SgP _ m_L_step 7 [(3, 0), (0, a1), (27, 0), mi_un] ((0, v) :: [(0, 0), (27, 0)]) (mi_cb M0 (D', Z1) M2) _ _
    refine SgP.go (pc' := 8) (mi_i2l dL_step_7) ?_
    refine SgP.goM (pc' := 9) (mi_lastoreG (r := 25) dL_step_8 rfl (by decide) (by decide) (by decide)) ?_
    rw [mi_cb_o]
    refine SgP.go (pc' := 18) (mi_goto (tgt := 18) dL_step_9 (by decide)) ?_
    refine SgP.go (pc' := 19) (mi_iconst (z := 0) dL_step_18 rfl) ?_
    exact SgP.ret (mi_ireturn dL_step_19 rfl (Or.inl rfl))
  | .inr (k, D'), hb, hk =>
    have h9 := hk _ rfl
    have h8 : k = 0 ∨ k = 2 := by simpa using h9
    rcases h8 with rfl | rfl
    · refine MC.ofH (α := Unit) (L := fun _ => mi_hT (fun k => if k = 0 then 1 else 2) M0 Z1 M2 (.inr (0, D'))) (o := some ()) (a := ()) rfl wP_L (Nat.le_of_ble_eq_true rfl) ?_ rfl
      show SgP _ m_L_step 0 [(3, 0), (0, a1), (27, 0), mi_un] [] _ _ _
      refine SgP.go (pc' := 1) (mi_aload_n dL_step_0 rfl) ?_
      refine SgP.go (pc' := 2) (mi_iconst (z := 0) dL_step_1 rfl) ?_
      refine SgP.go (pc' := 3) (mi_aload_n dL_step_2 rfl) ?_
      refine SgP.go (pc' := 4) (mi_iload_n dL_step_3 rfl) ?_
      exact SgP.callH (h := 12) (z := 1) (a := ()) (μ' := m_X10_step) (args := [(3, 0), (0, a1)]) (mi_invV (n := 1) (r := 1) dL_step_4 hC_1 (by omega) rfl rfl wN_X10_step rfl ⟨by decide, by decide⟩ wL_L_30 wI_X10_step wS_X10_step wB_X10 wC_X10_step) ((C_X10_step hL a1 D1 _ hb).l1 hW hW rfl (fun h => absurd h (show ¬ (2 : Nat) = 1 by decide))) rfl (Nat.le_of_ble_eq_true rfl) rfl (fun _ _ _ _ _ h => h) ⟨_, [], ⟨0, 9, 12, 13⟩, [⟨0, 9, 15, 17⟩], _, rfl, by decide, (fun z hz => by cases hz), by decide, by decide, rfl, wK_L_13, wX_0⟩ ⟨rfl, 13, 1, rfl, Or.inr ⟨3, dL_step_12, rfl, by decide⟩, dL_step_13, dL_step_14⟩ rfl
    · refine MC.ofH (α := Unit) (L := fun _ => mi_hT (fun k => if k = 0 then 1 else 2) M0 Z1 M2 (.inr (2, D'))) (o := some ()) (a := ()) rfl wP_L (Nat.le_of_ble_eq_true rfl) ?_ rfl
      show SgP _ m_L_step 0 [(3, 0), (0, a1), (27, 0), mi_un] [] _ _ _
      refine SgP.go (pc' := 1) (mi_aload_n dL_step_0 rfl) ?_
      refine SgP.go (pc' := 2) (mi_iconst (z := 0) dL_step_1 rfl) ?_
      refine SgP.go (pc' := 3) (mi_aload_n dL_step_2 rfl) ?_
      refine SgP.go (pc' := 4) (mi_iload_n dL_step_3 rfl) ?_
      exact SgP.callH (h := 15) (z := 2) (a := ()) (μ' := m_X10_step) (args := [(3, 0), (0, a1)]) (mi_invV (n := 1) (r := 1) dL_step_4 hC_1 (by omega) rfl rfl wN_X10_step rfl ⟨by decide, by decide⟩ wL_L_30 wI_X10_step wS_X10_step wB_X10 wC_X10_step) ((C_X10_step hL a1 D1 _ hb).l1 hW hW rfl (fun h => absurd h (show ¬ (2 : Nat) = 1 by decide))) rfl (Nat.le_of_ble_eq_true rfl) rfl (fun _ _ _ _ _ h => h) ⟨_, [⟨0, 9, 12, 13⟩], ⟨0, 9, 15, 17⟩, [], _, rfl, by decide, (fun z hz => by
        rcases List.mem_cons.mp hz with rfl | hz
        · exact Or.inr ⟨by decide, _, wK_L_13, by show (mi_exn 2, _) ∈ mi_ncL; simp [mi_ncL, mi_exn]⟩
        cases hz), by decide, by decide, rfl, wK_L_17, wX_2⟩ ⟨rfl, 16, 2, rfl, Or.inr ⟨3, dL_step_15, rfl, by decide⟩, dL_step_16, dL_step_17⟩ rfl
abbrev m_L_go : MiI := (yL_go, cL_go, 4, (some .int), 9, some [(0, 9, 12, 15)])
set_option maxRecDepth 20000 in
theorem C_L_go {Z1 : MiZ} (hL : CL Z1) (hW : mi_cw mi_s1 Z1) (a1 : Int) (D1 : MiD) (M0 M2 : MiM) (b : (Int × MiD) ⊕ (Nat × MiD)) (hb : B_X10_go Z1 a1 D1 = some b) (hk : ∀ a, b = .inr a → (fun k => k == 1) a.1 = true) : MC m_L_go [(3, 0), (0, a1), (27, 0)] (mi_cb M0 (D1, Z1) M2) (mi_hT (fun k => 1) M0 Z1 M2 b) := by
  match b, hb, hk with
  | .inl (v, D'), hb, _ =>
    refine MC.ofH (α := Unit) (L := fun _ => mi_hT (fun k => 1) M0 Z1 M2 (.inl (v, D'))) (o := some ()) (a := ()) rfl wP_L (Nat.le_of_ble_eq_true rfl) ?_ rfl
    show SgP _ m_L_go 0 [(3, 0), (0, a1), (27, 0), mi_un] [] _ _ _
    refine SgP.go (pc' := 1) (mi_aload_n dL_go_0 rfl) ?_
    refine SgP.go (pc' := 2) (mi_iconst (z := 0) dL_go_1 rfl) ?_
    refine SgP.go (pc' := 3) (mi_aload_n dL_go_2 rfl) ?_
    refine SgP.go (pc' := 4) (mi_iload_n dL_go_3 rfl) ?_
    refine SgP.call (μ' := m_X10_go) (args := [(3, 0), (0, a1)]) (mi_invV (n := 1) (r := 1) dL_go_4 hC_1 (by omega) rfl rfl wN_X10_go rfl ⟨by decide, by decide⟩ wL_L_33 wI_X10_go wS_X10_go wB_X10 wC_X10_go) ((C_X10_go hL a1 D1 _ hb).l1 hW hW rfl (fun _ => show (0 : Nat) < 2 by decide)) (show (1 : Nat) ≠ 2 by decide) (Nat.le_of_ble_eq_true rfl) ?_ rfl
    show SgP _ m_L_go 7 [(3, 0), (0, a1), (27, 0), mi_un] ((0, v) :: [(0, 0), (27, 0)]) (mi_cb M0 (D', Z1) M2) _ _
    refine SgP.go (pc' := 8) (mi_i2l dL_go_7) ?_
    refine SgP.goM (pc' := 9) (mi_lastoreG (r := 25) dL_go_8 rfl (by decide) (by decide) (by decide)) ?_
    rw [mi_cb_o]
    refine SgP.go (pc' := 15) (mi_goto (tgt := 15) dL_go_9 (by decide)) ?_
    refine SgP.go (pc' := 16) (mi_iconst (z := 0) dL_go_15 rfl) ?_
    exact SgP.ret (mi_ireturn dL_go_16 rfl (Or.inl rfl))
  | .inr (k, D'), hb, hk =>
    have h9 := hk _ rfl
    have h8 : k = 1 := by simpa using h9
    rcases h8 with rfl
    · refine MC.ofH (α := Unit) (L := fun _ => mi_hT (fun k => 1) M0 Z1 M2 (.inr (1, D'))) (o := some ()) (a := ()) rfl wP_L (Nat.le_of_ble_eq_true rfl) ?_ rfl
      show SgP _ m_L_go 0 [(3, 0), (0, a1), (27, 0), mi_un] [] _ _ _
      refine SgP.go (pc' := 1) (mi_aload_n dL_go_0 rfl) ?_
      refine SgP.go (pc' := 2) (mi_iconst (z := 0) dL_go_1 rfl) ?_
      refine SgP.go (pc' := 3) (mi_aload_n dL_go_2 rfl) ?_
      refine SgP.go (pc' := 4) (mi_iload_n dL_go_3 rfl) ?_
      exact SgP.callH (h := 12) (z := 1) (a := ()) (μ' := m_X10_go) (args := [(3, 0), (0, a1)]) (mi_invV (n := 1) (r := 1) dL_go_4 hC_1 (by omega) rfl rfl wN_X10_go rfl ⟨by decide, by decide⟩ wL_L_33 wI_X10_go wS_X10_go wB_X10 wC_X10_go) ((C_X10_go hL a1 D1 _ hb).l1 hW hW rfl (fun h => absurd h (show ¬ (2 : Nat) = 1 by decide))) rfl (Nat.le_of_ble_eq_true rfl) rfl (fun _ _ _ _ _ h => h) ⟨_, [], ⟨0, 9, 12, 15⟩, [], _, rfl, by decide, (fun z hz => by cases hz), by decide, by decide, rfl, wK_L_15, wX_1⟩ ⟨rfl, 13, 1, rfl, Or.inr ⟨3, dL_go_12, rfl, by decide⟩, dL_go_13, dL_go_14⟩ rfl
abbrev m_L_enable : MiI := (yL_enable, cL_enable, 4, (some .int), 9, some [(0, 9, 12, 13), (0, 9, 15, 17)])
set_option maxRecDepth 20000 in
theorem C_L_enable {Z1 : MiZ} (hL : CL Z1) (hW : mi_cw mi_s1 Z1) (a1 : Int) (D1 : MiD) (M0 M2 : MiM) (b : (Int × MiD) ⊕ (Nat × MiD)) (hb : B_X10_enable Z1 a1 D1 = some b) (hk : ∀ a, b = .inr a → (fun k => k == 0 || k == 2) a.1 = true) : MC m_L_enable [(3, 0), (0, a1), (27, 0)] (mi_cb M0 (D1, Z1) M2) (mi_hT (fun k => if k = 0 then 1 else 2) M0 Z1 M2 b) := by
  match b, hb, hk with
  | .inl (v, D'), hb, _ =>
    refine MC.ofH (α := Unit) (L := fun _ => mi_hT (fun k => if k = 0 then 1 else 2) M0 Z1 M2 (.inl (v, D'))) (o := some ()) (a := ()) rfl wP_L (Nat.le_of_ble_eq_true rfl) ?_ rfl
    show SgP _ m_L_enable 0 [(3, 0), (0, a1), (27, 0), mi_un] [] _ _ _
    refine SgP.go (pc' := 1) (mi_aload_n dL_enable_0 rfl) ?_
    refine SgP.go (pc' := 2) (mi_iconst (z := 0) dL_enable_1 rfl) ?_
    refine SgP.go (pc' := 3) (mi_aload_n dL_enable_2 rfl) ?_
    refine SgP.go (pc' := 4) (mi_iload_n dL_enable_3 rfl) ?_
    refine SgP.call (μ' := m_X10_enable) (args := [(3, 0), (0, a1)]) (mi_invV (n := 1) (r := 1) dL_enable_4 hC_1 (by omega) rfl rfl wN_X10_enable rfl ⟨by decide, by decide⟩ wL_L_36 wI_X10_enable wS_X10_enable wB_X10 wC_X10_enable) ((C_X10_enable hL a1 D1 _ hb).l1 hW hW rfl (fun _ => show (0 : Nat) < 2 by decide)) (show (1 : Nat) ≠ 2 by decide) (Nat.le_of_ble_eq_true rfl) ?_ rfl
    show SgP _ m_L_enable 7 [(3, 0), (0, a1), (27, 0), mi_un] ((0, v) :: [(0, 0), (27, 0)]) (mi_cb M0 (D', Z1) M2) _ _
    refine SgP.go (pc' := 8) (mi_i2l dL_enable_7) ?_
    refine SgP.goM (pc' := 9) (mi_lastoreG (r := 25) dL_enable_8 rfl (by decide) (by decide) (by decide)) ?_
    rw [mi_cb_o]
    refine SgP.go (pc' := 18) (mi_goto (tgt := 18) dL_enable_9 (by decide)) ?_
    refine SgP.go (pc' := 19) (mi_iconst (z := 0) dL_enable_18 rfl) ?_
    exact SgP.ret (mi_ireturn dL_enable_19 rfl (Or.inl rfl))
  | .inr (k, D'), hb, hk =>
    have h9 := hk _ rfl
    have h8 : k = 0 ∨ k = 2 := by simpa using h9
    rcases h8 with rfl | rfl
    · refine MC.ofH (α := Unit) (L := fun _ => mi_hT (fun k => if k = 0 then 1 else 2) M0 Z1 M2 (.inr (0, D'))) (o := some ()) (a := ()) rfl wP_L (Nat.le_of_ble_eq_true rfl) ?_ rfl
      show SgP _ m_L_enable 0 [(3, 0), (0, a1), (27, 0), mi_un] [] _ _ _
      refine SgP.go (pc' := 1) (mi_aload_n dL_enable_0 rfl) ?_
      refine SgP.go (pc' := 2) (mi_iconst (z := 0) dL_enable_1 rfl) ?_
      refine SgP.go (pc' := 3) (mi_aload_n dL_enable_2 rfl) ?_
      refine SgP.go (pc' := 4) (mi_iload_n dL_enable_3 rfl) ?_
      exact SgP.callH (h := 12) (z := 1) (a := ()) (μ' := m_X10_enable) (args := [(3, 0), (0, a1)]) (mi_invV (n := 1) (r := 1) dL_enable_4 hC_1 (by omega) rfl rfl wN_X10_enable rfl ⟨by decide, by decide⟩ wL_L_36 wI_X10_enable wS_X10_enable wB_X10 wC_X10_enable) ((C_X10_enable hL a1 D1 _ hb).l1 hW hW rfl (fun h => absurd h (show ¬ (2 : Nat) = 1 by decide))) rfl (Nat.le_of_ble_eq_true rfl) rfl (fun _ _ _ _ _ h => h) ⟨_, [], ⟨0, 9, 12, 13⟩, [⟨0, 9, 15, 17⟩], _, rfl, by decide, (fun z hz => by cases hz), by decide, by decide, rfl, wK_L_13, wX_0⟩ ⟨rfl, 13, 1, rfl, Or.inr ⟨3, dL_enable_12, rfl, by decide⟩, dL_enable_13, dL_enable_14⟩ rfl
    · refine MC.ofH (α := Unit) (L := fun _ => mi_hT (fun k => if k = 0 then 1 else 2) M0 Z1 M2 (.inr (2, D'))) (o := some ()) (a := ()) rfl wP_L (Nat.le_of_ble_eq_true rfl) ?_ rfl
      show SgP _ m_L_enable 0 [(3, 0), (0, a1), (27, 0), mi_un] [] _ _ _
      refine SgP.go (pc' := 1) (mi_aload_n dL_enable_0 rfl) ?_
      refine SgP.go (pc' := 2) (mi_iconst (z := 0) dL_enable_1 rfl) ?_
      refine SgP.go (pc' := 3) (mi_aload_n dL_enable_2 rfl) ?_
      refine SgP.go (pc' := 4) (mi_iload_n dL_enable_3 rfl) ?_
      exact SgP.callH (h := 15) (z := 2) (a := ()) (μ' := m_X10_enable) (args := [(3, 0), (0, a1)]) (mi_invV (n := 1) (r := 1) dL_enable_4 hC_1 (by omega) rfl rfl wN_X10_enable rfl ⟨by decide, by decide⟩ wL_L_36 wI_X10_enable wS_X10_enable wB_X10 wC_X10_enable) ((C_X10_enable hL a1 D1 _ hb).l1 hW hW rfl (fun h => absurd h (show ¬ (2 : Nat) = 1 by decide))) rfl (Nat.le_of_ble_eq_true rfl) rfl (fun _ _ _ _ _ h => h) ⟨_, [⟨0, 9, 12, 13⟩], ⟨0, 9, 15, 17⟩, [], _, rfl, by decide, (fun z hz => by
        rcases List.mem_cons.mp hz with rfl | hz
        · exact Or.inr ⟨by decide, _, wK_L_13, by show (mi_exn 2, _) ∈ mi_ncL; simp [mi_ncL, mi_exn]⟩
        cases hz), by decide, by decide, rfl, wK_L_17, wX_2⟩ ⟨rfl, 16, 2, rfl, Or.inr ⟨3, dL_enable_15, rfl, by decide⟩, dL_enable_16, dL_enable_17⟩ rfl
abbrev m_L_disable : MiI := (yL_disable, cL_disable, 3, (some .int), 9, some [(0, 8, 11, 17)])
set_option maxRecDepth 20000 in
theorem C_L_disable {Z1 : MiZ} (hL : CL Z1) (hW : mi_cw mi_s1 Z1) (D1 : MiD) (M0 M2 : MiM) (b : (Int × MiD) ⊕ (Nat × MiD)) (hb : B_X10_disable Z1 D1 = some b) (hk : ∀ a, b = .inr a → (fun k => k == 2) a.1 = true) : MC m_L_disable [(3, 0), (27, 0)] (mi_cb M0 (D1, Z1) M2) (mi_hT (fun k => 1) M0 Z1 M2 b) := by
  match b, hb, hk with
  | .inl (v, D'), hb, _ =>
    refine MC.ofH (α := Unit) (L := fun _ => mi_hT (fun k => 1) M0 Z1 M2 (.inl (v, D'))) (o := some ()) (a := ()) rfl wP_L (Nat.le_of_ble_eq_true rfl) ?_ rfl
    show SgP _ m_L_disable 0 [(3, 0), (27, 0), mi_un] [] _ _ _
    refine SgP.go (pc' := 1) (mi_aload_n dL_disable_0 rfl) ?_
    refine SgP.go (pc' := 2) (mi_iconst (z := 0) dL_disable_1 rfl) ?_
    refine SgP.go (pc' := 3) (mi_aload_n dL_disable_2 rfl) ?_
    refine SgP.call (μ' := m_X10_disable) (args := [(3, 0)]) (mi_invV (n := 0) (r := 1) dL_disable_3 hC_1 (by omega) rfl rfl wN_X10_disable rfl ⟨by decide, by decide⟩ wL_L_39 wI_X10_disable wS_X10_disable wB_X10 wC_X10_disable) ((C_X10_disable hL D1 _ hb).l1 hW hW rfl (fun _ => show (0 : Nat) < 2 by decide)) (show (1 : Nat) ≠ 2 by decide) (Nat.le_of_ble_eq_true rfl) ?_ rfl
    show SgP _ m_L_disable 6 [(3, 0), (27, 0), mi_un] ((0, v) :: [(0, 0), (27, 0)]) (mi_cb M0 (D', Z1) M2) _ _
    refine SgP.go (pc' := 7) (mi_i2l dL_disable_6) ?_
    refine SgP.goM (pc' := 8) (mi_lastoreG (r := 25) dL_disable_7 rfl (by decide) (by decide) (by decide)) ?_
    rw [mi_cb_o]
    refine SgP.go (pc' := 14) (mi_goto (tgt := 14) dL_disable_8 (by decide)) ?_
    refine SgP.go (pc' := 15) (mi_iconst (z := 0) dL_disable_14 rfl) ?_
    exact SgP.ret (mi_ireturn dL_disable_15 rfl (Or.inl rfl))
  | .inr (k, D'), hb, hk =>
    have h9 := hk _ rfl
    have h8 : k = 2 := by simpa using h9
    rcases h8 with rfl
    · refine MC.ofH (α := Unit) (L := fun _ => mi_hT (fun k => 1) M0 Z1 M2 (.inr (2, D'))) (o := some ()) (a := ()) rfl wP_L (Nat.le_of_ble_eq_true rfl) ?_ rfl
      show SgP _ m_L_disable 0 [(3, 0), (27, 0), mi_un] [] _ _ _
      refine SgP.go (pc' := 1) (mi_aload_n dL_disable_0 rfl) ?_
      refine SgP.go (pc' := 2) (mi_iconst (z := 0) dL_disable_1 rfl) ?_
      refine SgP.go (pc' := 3) (mi_aload_n dL_disable_2 rfl) ?_
      exact SgP.callH (h := 11) (z := 1) (a := ()) (μ' := m_X10_disable) (args := [(3, 0)]) (mi_invV (n := 0) (r := 1) dL_disable_3 hC_1 (by omega) rfl rfl wN_X10_disable rfl ⟨by decide, by decide⟩ wL_L_39 wI_X10_disable wS_X10_disable wB_X10 wC_X10_disable) ((C_X10_disable hL D1 _ hb).l1 hW hW rfl (fun h => absurd h (show ¬ (2 : Nat) = 1 by decide))) rfl (Nat.le_of_ble_eq_true rfl) rfl (fun _ _ _ _ _ h => h) ⟨_, [], ⟨0, 8, 11, 17⟩, [], _, rfl, by decide, (fun z hz => by cases hz), by decide, by decide, rfl, wK_L_17, wX_2⟩ ⟨rfl, 12, 1, rfl, Or.inr ⟨2, dL_disable_11, rfl, by decide⟩, dL_disable_12, dL_disable_13⟩ rfl
abbrev m_L_reverse : MiI := (yL_reverse, cL_reverse, 3, (some .int), 9, some [(0, 8, 11, 17)])
set_option maxRecDepth 20000 in
theorem C_L_reverse {Z1 : MiZ} (hL : CL Z1) (hW : mi_cw mi_s1 Z1) (D1 : MiD) (M0 M2 : MiM) (b : (Int × MiD) ⊕ (Nat × MiD)) (hb : B_X10_reverse Z1 D1 = some b) (hk : ∀ a, b = .inr a → (fun k => k == 2) a.1 = true) : MC m_L_reverse [(3, 0), (27, 0)] (mi_cb M0 (D1, Z1) M2) (mi_hT (fun k => 1) M0 Z1 M2 b) := by
  match b, hb, hk with
  | .inl (v, D'), hb, _ =>
    refine MC.ofH (α := Unit) (L := fun _ => mi_hT (fun k => 1) M0 Z1 M2 (.inl (v, D'))) (o := some ()) (a := ()) rfl wP_L (Nat.le_of_ble_eq_true rfl) ?_ rfl
    show SgP _ m_L_reverse 0 [(3, 0), (27, 0), mi_un] [] _ _ _
    refine SgP.go (pc' := 1) (mi_aload_n dL_reverse_0 rfl) ?_
    refine SgP.go (pc' := 2) (mi_iconst (z := 0) dL_reverse_1 rfl) ?_
    refine SgP.go (pc' := 3) (mi_aload_n dL_reverse_2 rfl) ?_
    refine SgP.call (μ' := m_X10_reverse) (args := [(3, 0)]) (mi_invV (n := 0) (r := 1) dL_reverse_3 hC_1 (by omega) rfl rfl wN_X10_reverse rfl ⟨by decide, by decide⟩ wL_L_43 wI_X10_reverse wS_X10_reverse wB_X10 wC_X10_reverse) ((C_X10_reverse hL D1 _ hb).l1 hW hW rfl (fun _ => show (0 : Nat) < 2 by decide)) (show (1 : Nat) ≠ 2 by decide) (Nat.le_of_ble_eq_true rfl) ?_ rfl
    show SgP _ m_L_reverse 6 [(3, 0), (27, 0), mi_un] ((0, v) :: [(0, 0), (27, 0)]) (mi_cb M0 (D', Z1) M2) _ _
    refine SgP.go (pc' := 7) (mi_i2l dL_reverse_6) ?_
    refine SgP.goM (pc' := 8) (mi_lastoreG (r := 25) dL_reverse_7 rfl (by decide) (by decide) (by decide)) ?_
    rw [mi_cb_o]
    refine SgP.go (pc' := 14) (mi_goto (tgt := 14) dL_reverse_8 (by decide)) ?_
    refine SgP.go (pc' := 15) (mi_iconst (z := 0) dL_reverse_14 rfl) ?_
    exact SgP.ret (mi_ireturn dL_reverse_15 rfl (Or.inl rfl))
  | .inr (k, D'), hb, hk =>
    have h9 := hk _ rfl
    have h8 : k = 2 := by simpa using h9
    rcases h8 with rfl
    · refine MC.ofH (α := Unit) (L := fun _ => mi_hT (fun k => 1) M0 Z1 M2 (.inr (2, D'))) (o := some ()) (a := ()) rfl wP_L (Nat.le_of_ble_eq_true rfl) ?_ rfl
      show SgP _ m_L_reverse 0 [(3, 0), (27, 0), mi_un] [] _ _ _
      refine SgP.go (pc' := 1) (mi_aload_n dL_reverse_0 rfl) ?_
      refine SgP.go (pc' := 2) (mi_iconst (z := 0) dL_reverse_1 rfl) ?_
      refine SgP.go (pc' := 3) (mi_aload_n dL_reverse_2 rfl) ?_
      exact SgP.callH (h := 11) (z := 1) (a := ()) (μ' := m_X10_reverse) (args := [(3, 0)]) (mi_invV (n := 0) (r := 1) dL_reverse_3 hC_1 (by omega) rfl rfl wN_X10_reverse rfl ⟨by decide, by decide⟩ wL_L_43 wI_X10_reverse wS_X10_reverse wB_X10 wC_X10_reverse) ((C_X10_reverse hL D1 _ hb).l1 hW hW rfl (fun h => absurd h (show ¬ (2 : Nat) = 1 by decide))) rfl (Nat.le_of_ble_eq_true rfl) rfl (fun _ _ _ _ _ h => h) ⟨_, [], ⟨0, 8, 11, 17⟩, [], _, rfl, by decide, (fun z hz => by cases hz), by decide, by decide, rfl, wK_L_17, wX_2⟩ ⟨rfl, 12, 1, rfl, Or.inr ⟨2, dL_reverse_11, rfl, by decide⟩, dL_reverse_12, dL_reverse_13⟩ rfl
abbrev m_L_force : MiI := (yL_force, cL_force, 3, (some .int), 9, some [(0, 8, 11, 17)])
set_option maxRecDepth 20000 in
theorem C_L_force {Z1 : MiZ} (hL : CL Z1) (hW : mi_cw mi_s1 Z1) (D1 : MiD) (M0 M2 : MiM) (b : (Int × MiD) ⊕ (Nat × MiD)) (hb : B_X10_force Z1 D1 = some b) (hk : ∀ a, b = .inr a → (fun k => k == 2) a.1 = true) : MC m_L_force [(3, 0), (27, 0)] (mi_cb M0 (D1, Z1) M2) (mi_hT (fun k => 1) M0 Z1 M2 b) := by
  match b, hb, hk with
  | .inl (v, D'), hb, _ =>
    refine MC.ofH (α := Unit) (L := fun _ => mi_hT (fun k => 1) M0 Z1 M2 (.inl (v, D'))) (o := some ()) (a := ()) rfl wP_L (Nat.le_of_ble_eq_true rfl) ?_ rfl
    show SgP _ m_L_force 0 [(3, 0), (27, 0), mi_un] [] _ _ _
    refine SgP.go (pc' := 1) (mi_aload_n dL_force_0 rfl) ?_
    refine SgP.go (pc' := 2) (mi_iconst (z := 0) dL_force_1 rfl) ?_
    refine SgP.go (pc' := 3) (mi_aload_n dL_force_2 rfl) ?_
    refine SgP.call (μ' := m_X10_force) (args := [(3, 0)]) (mi_invV (n := 0) (r := 1) dL_force_3 hC_1 (by omega) rfl rfl wN_X10_force rfl ⟨by decide, by decide⟩ wL_L_46 wI_X10_force wS_X10_force wB_X10 wC_X10_force) ((C_X10_force hL D1 _ hb).l1 hW hW rfl (fun _ => show (0 : Nat) < 2 by decide)) (show (1 : Nat) ≠ 2 by decide) (Nat.le_of_ble_eq_true rfl) ?_ rfl
    show SgP _ m_L_force 6 [(3, 0), (27, 0), mi_un] ((0, v) :: [(0, 0), (27, 0)]) (mi_cb M0 (D', Z1) M2) _ _
    refine SgP.go (pc' := 7) (mi_i2l dL_force_6) ?_
    refine SgP.goM (pc' := 8) (mi_lastoreG (r := 25) dL_force_7 rfl (by decide) (by decide) (by decide)) ?_
    rw [mi_cb_o]
    refine SgP.go (pc' := 14) (mi_goto (tgt := 14) dL_force_8 (by decide)) ?_
    refine SgP.go (pc' := 15) (mi_iconst (z := 0) dL_force_14 rfl) ?_
    exact SgP.ret (mi_ireturn dL_force_15 rfl (Or.inl rfl))
  | .inr (k, D'), hb, hk =>
    have h9 := hk _ rfl
    have h8 : k = 2 := by simpa using h9
    rcases h8 with rfl
    · refine MC.ofH (α := Unit) (L := fun _ => mi_hT (fun k => 1) M0 Z1 M2 (.inr (2, D'))) (o := some ()) (a := ()) rfl wP_L (Nat.le_of_ble_eq_true rfl) ?_ rfl
      show SgP _ m_L_force 0 [(3, 0), (27, 0), mi_un] [] _ _ _
      refine SgP.go (pc' := 1) (mi_aload_n dL_force_0 rfl) ?_
      refine SgP.go (pc' := 2) (mi_iconst (z := 0) dL_force_1 rfl) ?_
      refine SgP.go (pc' := 3) (mi_aload_n dL_force_2 rfl) ?_
      exact SgP.callH (h := 11) (z := 1) (a := ()) (μ' := m_X10_force) (args := [(3, 0)]) (mi_invV (n := 0) (r := 1) dL_force_3 hC_1 (by omega) rfl rfl wN_X10_force rfl ⟨by decide, by decide⟩ wL_L_46 wI_X10_force wS_X10_force wB_X10 wC_X10_force) ((C_X10_force hL D1 _ hb).l1 hW hW rfl (fun h => absurd h (show ¬ (2 : Nat) = 1 by decide))) rfl (Nat.le_of_ble_eq_true rfl) rfl (fun _ _ _ _ _ h => h) ⟨_, [], ⟨0, 8, 11, 17⟩, [], _, rfl, by decide, (fun z hz => by cases hz), by decide, by decide, rfl, wK_L_17, wX_2⟩ ⟨rfl, 12, 1, rfl, Or.inr ⟨2, dL_force_11, rfl, by decide⟩, dL_force_12, dL_force_13⟩ rfl
abbrev m_L_kill : MiI := (yL_kill, cL_kill, 4, (some .int), 8, some [(0, 9, 12, 13)])
set_option maxRecDepth 20000 in
theorem C_L_kill {Z1 : MiZ} (hL : CL Z1) (hW : mi_cw mi_s1 Z1) (a1 : Int) (D1 : MiD) (M0 M2 : MiM) (b : (Int × MiD) ⊕ (Nat × MiD)) (hb : B_X10_kill Z1 a1 D1 = some b) (hk : ∀ a, b = .inr a → (fun k => k == 0) a.1 = true) : MC m_L_kill [(3, 0), (0, a1), (27, 0)] (mi_cb M0 (D1, Z1) M2) (mi_hT (fun k => 1) M0 Z1 M2 b) := by
  match b, hb, hk with
  | .inl (v, D'), hb, _ =>
    refine MC.ofH (α := Unit) (L := fun _ => mi_hT (fun k => 1) M0 Z1 M2 (.inl (v, D'))) (o := some ()) (a := ()) rfl wP_L (Nat.le_of_ble_eq_true rfl) ?_ rfl
    show SgP _ m_L_kill 0 [(3, 0), (0, a1), (27, 0), mi_un] [] _ _ _
    refine SgP.go (pc' := 1) (mi_aload_n dL_kill_0 rfl) ?_
    refine SgP.go (pc' := 2) (mi_iconst (z := 0) dL_kill_1 rfl) ?_
    refine SgP.go (pc' := 3) (mi_aload_n dL_kill_2 rfl) ?_
    refine SgP.go (pc' := 4) (mi_iload_n dL_kill_3 rfl) ?_
    refine SgP.call (μ' := m_X10_kill) (args := [(3, 0), (0, a1)]) (mi_invV (n := 1) (r := 1) dL_kill_4 hC_1 (by omega) rfl rfl wN_X10_kill rfl ⟨by decide, by decide⟩ wL_L_49 wI_X10_kill wS_X10_kill wB_X10 wC_X10_kill) ((C_X10_kill hL a1 D1 _ hb).l1 hW hW rfl (fun _ => show (0 : Nat) < 2 by decide)) (show (1 : Nat) ≠ 2 by decide) (Nat.le_of_ble_eq_true rfl) ?_ rfl
    show SgP _ m_L_kill 7 [(3, 0), (0, a1), (27, 0), mi_un] ((0, v) :: [(0, 0), (27, 0)]) (mi_cb M0 (D', Z1) M2) _ _
    refine SgP.go (pc' := 8) (mi_i2l dL_kill_7) ?_
    refine SgP.goM (pc' := 9) (mi_lastoreG (r := 25) dL_kill_8 rfl (by decide) (by decide) (by decide)) ?_
    rw [mi_cb_o]
    refine SgP.go (pc' := 15) (mi_goto (tgt := 15) dL_kill_9 (by decide)) ?_
    refine SgP.go (pc' := 16) (mi_iconst (z := 0) dL_kill_15 rfl) ?_
    exact SgP.ret (mi_ireturn dL_kill_16 rfl (Or.inl rfl))
  | .inr (k, D'), hb, hk =>
    have h9 := hk _ rfl
    have h8 : k = 0 := by simpa using h9
    rcases h8 with rfl
    · refine MC.ofH (α := Unit) (L := fun _ => mi_hT (fun k => 1) M0 Z1 M2 (.inr (0, D'))) (o := some ()) (a := ()) rfl wP_L (Nat.le_of_ble_eq_true rfl) ?_ rfl
      show SgP _ m_L_kill 0 [(3, 0), (0, a1), (27, 0), mi_un] [] _ _ _
      refine SgP.go (pc' := 1) (mi_aload_n dL_kill_0 rfl) ?_
      refine SgP.go (pc' := 2) (mi_iconst (z := 0) dL_kill_1 rfl) ?_
      refine SgP.go (pc' := 3) (mi_aload_n dL_kill_2 rfl) ?_
      refine SgP.go (pc' := 4) (mi_iload_n dL_kill_3 rfl) ?_
      exact SgP.callH (h := 12) (z := 1) (a := ()) (μ' := m_X10_kill) (args := [(3, 0), (0, a1)]) (mi_invV (n := 1) (r := 1) dL_kill_4 hC_1 (by omega) rfl rfl wN_X10_kill rfl ⟨by decide, by decide⟩ wL_L_49 wI_X10_kill wS_X10_kill wB_X10 wC_X10_kill) ((C_X10_kill hL a1 D1 _ hb).l1 hW hW rfl (fun h => absurd h (show ¬ (2 : Nat) = 1 by decide))) rfl (Nat.le_of_ble_eq_true rfl) rfl (fun _ _ _ _ _ h => h) ⟨_, [], ⟨0, 9, 12, 13⟩, [], _, rfl, by decide, (fun z hz => by cases hz), by decide, by decide, rfl, wK_L_13, wX_0⟩ ⟨rfl, 13, 1, rfl, Or.inr ⟨3, dL_kill_12, rfl, by decide⟩, dL_kill_13, dL_kill_14⟩ rfl
abbrev m_L_told : MiI := (yL_told, cL_told, 4, (some .int), 8, some [(0, 9, 12, 15)])
set_option maxRecDepth 20000 in
theorem C_L_told {Z1 : MiZ} (hL : CL Z1) (hW : mi_cw mi_s1 Z1) (a1 : Int) (D1 : MiD) (M0 M2 : MiM) (b : (Int × MiD) ⊕ (Nat × MiD)) (hb : B_X10_told a1 D1 = some b) (hk : ∀ a, b = .inr a → (fun k => k == 1) a.1 = true) : MC m_L_told [(3, 0), (0, a1), (27, 0)] (mi_cb M0 (D1, Z1) M2) (mi_hT (fun k => 1) M0 Z1 M2 b) := by
  match b, hb, hk with
  | .inl (v, D'), hb, _ =>
    refine MC.ofH (α := Unit) (L := fun _ => mi_hT (fun k => 1) M0 Z1 M2 (.inl (v, D'))) (o := some ()) (a := ()) rfl wP_L (Nat.le_of_ble_eq_true rfl) ?_ rfl
    show SgP _ m_L_told 0 [(3, 0), (0, a1), (27, 0), mi_un] [] _ _ _
    refine SgP.go (pc' := 1) (mi_aload_n dL_told_0 rfl) ?_
    refine SgP.go (pc' := 2) (mi_iconst (z := 0) dL_told_1 rfl) ?_
    refine SgP.go (pc' := 3) (mi_aload_n dL_told_2 rfl) ?_
    refine SgP.go (pc' := 4) (mi_iload_n dL_told_3 rfl) ?_
    refine SgP.call (μ' := m_X10_told) (args := [(3, 0), (0, a1)]) (mi_invV (n := 1) (r := 1) dL_told_4 hC_1 (by omega) rfl rfl wN_X10_told rfl ⟨by decide, by decide⟩ wL_L_52 wI_X10_told wS_X10_told wB_X10 wC_X10_told) ((C_X10_told hL a1 D1 _ hb).l1 hW hW rfl (fun _ => show (0 : Nat) < 2 by decide)) (show (1 : Nat) ≠ 2 by decide) (Nat.le_of_ble_eq_true rfl) ?_ rfl
    show SgP _ m_L_told 7 [(3, 0), (0, a1), (27, 0), mi_un] ((0, v) :: [(0, 0), (27, 0)]) (mi_cb M0 (D', Z1) M2) _ _
    refine SgP.go (pc' := 8) (mi_i2l dL_told_7) ?_
    refine SgP.goM (pc' := 9) (mi_lastoreG (r := 25) dL_told_8 rfl (by decide) (by decide) (by decide)) ?_
    rw [mi_cb_o]
    refine SgP.go (pc' := 15) (mi_goto (tgt := 15) dL_told_9 (by decide)) ?_
    refine SgP.go (pc' := 16) (mi_iconst (z := 0) dL_told_15 rfl) ?_
    exact SgP.ret (mi_ireturn dL_told_16 rfl (Or.inl rfl))
  | .inr (k, D'), hb, hk =>
    have h9 := hk _ rfl
    have h8 : k = 1 := by simpa using h9
    rcases h8 with rfl
    · refine MC.ofH (α := Unit) (L := fun _ => mi_hT (fun k => 1) M0 Z1 M2 (.inr (1, D'))) (o := some ()) (a := ()) rfl wP_L (Nat.le_of_ble_eq_true rfl) ?_ rfl
      show SgP _ m_L_told 0 [(3, 0), (0, a1), (27, 0), mi_un] [] _ _ _
      refine SgP.go (pc' := 1) (mi_aload_n dL_told_0 rfl) ?_
      refine SgP.go (pc' := 2) (mi_iconst (z := 0) dL_told_1 rfl) ?_
      refine SgP.go (pc' := 3) (mi_aload_n dL_told_2 rfl) ?_
      refine SgP.go (pc' := 4) (mi_iload_n dL_told_3 rfl) ?_
      exact SgP.callH (h := 12) (z := 1) (a := ()) (μ' := m_X10_told) (args := [(3, 0), (0, a1)]) (mi_invV (n := 1) (r := 1) dL_told_4 hC_1 (by omega) rfl rfl wN_X10_told rfl ⟨by decide, by decide⟩ wL_L_52 wI_X10_told wS_X10_told wB_X10 wC_X10_told) ((C_X10_told hL a1 D1 _ hb).l1 hW hW rfl (fun h => absurd h (show ¬ (2 : Nat) = 1 by decide))) rfl (Nat.le_of_ble_eq_true rfl) rfl (fun _ _ _ _ _ h => h) ⟨_, [], ⟨0, 9, 12, 15⟩, [], _, rfl, by decide, (fun z hz => by cases hz), by decide, by decide, rfl, wK_L_15, wX_1⟩ ⟨rfl, 13, 1, rfl, Or.inr ⟨3, dL_told_12, rfl, by decide⟩, dL_told_13, dL_told_14⟩ rfl
abbrev m_L_task : MiI := (yL_task, cL_task, 5, (some .int), 8, some [(0, 10, 13, 13), (0, 10, 17, 15)])
set_option maxRecDepth 20000 in
theorem C_L_task {Z1 : MiZ} (hL : CL Z1) (hW : mi_cw mi_s1 Z1) (a1 a2 : Int) (D1 : MiD) (M0 M2 : MiM) (b : (Int × MiD) ⊕ (Nat × MiD)) (hb : B_X10_task a1 a2 D1 = some b) (hk : ∀ a, b = .inr a → (fun k => k == 0 || k == 1) a.1 = true) : MC m_L_task [(3, 0), (0, a1), (0, a2), (27, 0)] (mi_cb M0 (D1, Z1) M2) (mi_hT (fun k => if k = 0 then 1 else 2) M0 Z1 M2 b) := by
  match b, hb, hk with
  | .inl (v, D'), hb, _ =>
    refine MC.ofH (α := Unit) (L := fun _ => mi_hT (fun k => if k = 0 then 1 else 2) M0 Z1 M2 (.inl (v, D'))) (o := some ()) (a := ()) rfl wP_L (Nat.le_of_ble_eq_true rfl) ?_ rfl
    show SgP _ m_L_task 0 [(3, 0), (0, a1), (0, a2), (27, 0), mi_un] [] _ _ _
    refine SgP.go (pc' := 1) (mi_aload_n dL_task_0 rfl) ?_
    refine SgP.go (pc' := 2) (mi_iconst (z := 0) dL_task_1 rfl) ?_
    refine SgP.go (pc' := 3) (mi_aload_n dL_task_2 rfl) ?_
    refine SgP.go (pc' := 4) (mi_iload_n dL_task_3 rfl) ?_
    refine SgP.go (pc' := 5) (mi_iload_n dL_task_4 rfl) ?_
    refine SgP.call (μ' := m_X10_task) (args := [(3, 0), (0, a1), (0, a2)]) (mi_invV (n := 2) (r := 1) dL_task_5 hC_1 (by omega) rfl rfl wN_X10_task rfl ⟨by decide, by decide⟩ wL_L_55 wI_X10_task wS_X10_task wB_X10 wC_X10_task) ((C_X10_task hL a1 a2 D1 _ hb).l1 hW hW rfl (fun _ => show (0 : Nat) < 2 by decide)) (show (1 : Nat) ≠ 2 by decide) (Nat.le_of_ble_eq_true rfl) ?_ rfl
    show SgP _ m_L_task 8 [(3, 0), (0, a1), (0, a2), (27, 0), mi_un] ((0, v) :: [(0, 0), (27, 0)]) (mi_cb M0 (D', Z1) M2) _ _
    refine SgP.go (pc' := 9) (mi_i2l dL_task_8) ?_
    refine SgP.goM (pc' := 10) (mi_lastoreG (r := 25) dL_task_9 rfl (by decide) (by decide) (by decide)) ?_
    rw [mi_cb_o]
    refine SgP.go (pc' := 21) (mi_goto (tgt := 21) dL_task_10 (by decide)) ?_
    refine SgP.go (pc' := 22) (mi_iconst (z := 0) dL_task_21 rfl) ?_
    exact SgP.ret (mi_ireturn dL_task_22 rfl (Or.inl rfl))
  | .inr (k, D'), hb, hk =>
    have h9 := hk _ rfl
    have h8 : k = 0 ∨ k = 1 := by simpa using h9
    rcases h8 with rfl | rfl
    · refine MC.ofH (α := Unit) (L := fun _ => mi_hT (fun k => if k = 0 then 1 else 2) M0 Z1 M2 (.inr (0, D'))) (o := some ()) (a := ()) rfl wP_L (Nat.le_of_ble_eq_true rfl) ?_ rfl
      show SgP _ m_L_task 0 [(3, 0), (0, a1), (0, a2), (27, 0), mi_un] [] _ _ _
      refine SgP.go (pc' := 1) (mi_aload_n dL_task_0 rfl) ?_
      refine SgP.go (pc' := 2) (mi_iconst (z := 0) dL_task_1 rfl) ?_
      refine SgP.go (pc' := 3) (mi_aload_n dL_task_2 rfl) ?_
      refine SgP.go (pc' := 4) (mi_iload_n dL_task_3 rfl) ?_
      refine SgP.go (pc' := 5) (mi_iload_n dL_task_4 rfl) ?_
      exact SgP.callH (h := 13) (z := 1) (a := ()) (μ' := m_X10_task) (args := [(3, 0), (0, a1), (0, a2)]) (mi_invV (n := 2) (r := 1) dL_task_5 hC_1 (by omega) rfl rfl wN_X10_task rfl ⟨by decide, by decide⟩ wL_L_55 wI_X10_task wS_X10_task wB_X10 wC_X10_task) ((C_X10_task hL a1 a2 D1 _ hb).l1 hW hW rfl (fun h => absurd h (show ¬ (2 : Nat) = 1 by decide))) rfl (Nat.le_of_ble_eq_true rfl) rfl (fun _ _ _ _ _ h => h) ⟨_, [], ⟨0, 10, 13, 13⟩, [⟨0, 10, 17, 15⟩], _, rfl, by decide, (fun z hz => by cases hz), by decide, by decide, rfl, wK_L_13, wX_0⟩ ⟨rfl, 15, 1, rfl, Or.inl ⟨4, dL_task_13, rfl, by decide⟩, dL_task_15, dL_task_16⟩ rfl
    · refine MC.ofH (α := Unit) (L := fun _ => mi_hT (fun k => if k = 0 then 1 else 2) M0 Z1 M2 (.inr (1, D'))) (o := some ()) (a := ()) rfl wP_L (Nat.le_of_ble_eq_true rfl) ?_ rfl
      show SgP _ m_L_task 0 [(3, 0), (0, a1), (0, a2), (27, 0), mi_un] [] _ _ _
      refine SgP.go (pc' := 1) (mi_aload_n dL_task_0 rfl) ?_
      refine SgP.go (pc' := 2) (mi_iconst (z := 0) dL_task_1 rfl) ?_
      refine SgP.go (pc' := 3) (mi_aload_n dL_task_2 rfl) ?_
      refine SgP.go (pc' := 4) (mi_iload_n dL_task_3 rfl) ?_
      refine SgP.go (pc' := 5) (mi_iload_n dL_task_4 rfl) ?_
      exact SgP.callH (h := 17) (z := 2) (a := ()) (μ' := m_X10_task) (args := [(3, 0), (0, a1), (0, a2)]) (mi_invV (n := 2) (r := 1) dL_task_5 hC_1 (by omega) rfl rfl wN_X10_task rfl ⟨by decide, by decide⟩ wL_L_55 wI_X10_task wS_X10_task wB_X10 wC_X10_task) ((C_X10_task hL a1 a2 D1 _ hb).l1 hW hW rfl (fun h => absurd h (show ¬ (2 : Nat) = 1 by decide))) rfl (Nat.le_of_ble_eq_true rfl) rfl (fun _ _ _ _ _ h => h) ⟨_, [⟨0, 10, 13, 13⟩], ⟨0, 10, 17, 15⟩, [], _, rfl, by decide, (fun z hz => by
        rcases List.mem_cons.mp hz with rfl | hz
        · exact Or.inr ⟨by decide, _, wK_L_13, by show (mi_exn 1, _) ∈ mi_ncL; simp [mi_ncL, mi_exn]⟩
        cases hz), by decide, by decide, rfl, wK_L_15, wX_1⟩ ⟨rfl, 19, 2, rfl, Or.inl ⟨4, dL_task_17, rfl, by decide⟩, dL_task_19, dL_task_20⟩ rfl
abbrev m_L_number : MiI := (yL_number, cL_number, 4, (some .int), 8, some [(0, 8, 11, 13)])
set_option maxRecDepth 20000 in
theorem C_L_number {Z1 : MiZ} (hL : CL Z1) (hW : mi_cw mi_s1 Z1) (a1 : Int) (D1 : MiD) (M0 M2 : MiM) (b : (Int × MiD) ⊕ (Nat × MiD)) (hb : B_X10_number a1 D1 = some b) (hk : ∀ a, b = .inr a → (fun k => k == 0) a.1 = true) : MC m_L_number [(3, 0), (0, a1), (27, 0)] (mi_cb M0 (D1, Z1) M2) (mi_hT (fun k => 1) M0 Z1 M2 b) := by
  match b, hb, hk with
  | .inl (v, D'), hb, _ =>
    refine MC.ofH (α := Unit) (L := fun _ => mi_hT (fun k => 1) M0 Z1 M2 (.inl (v, D'))) (o := some ()) (a := ()) rfl wP_L (Nat.le_of_ble_eq_true rfl) ?_ rfl
    show SgP _ m_L_number 0 [(3, 0), (0, a1), (27, 0), mi_un] [] _ _ _
    refine SgP.go (pc' := 1) (mi_aload_n dL_number_0 rfl) ?_
    refine SgP.go (pc' := 2) (mi_iconst (z := 0) dL_number_1 rfl) ?_
    refine SgP.go (pc' := 3) (mi_aload_n dL_number_2 rfl) ?_
    refine SgP.go (pc' := 4) (mi_iload_n dL_number_3 rfl) ?_
    refine SgP.call (μ' := m_X10_number) (args := [(3, 0), (0, a1)]) (mi_invV (n := 1) (r := 1) dL_number_4 hC_1 (by omega) rfl rfl wN_X10_number rfl ⟨by decide, by decide⟩ wL_L_58 wI_X10_number wS_X10_number wB_X10 wC_X10_number) ((C_X10_number hL a1 D1 _ hb).l1 hW hW rfl (fun _ => show (1 : Nat) < 2 by decide)) (show (1 : Nat) ≠ 2 by decide) (Nat.le_of_ble_eq_true rfl) ?_ rfl
    show SgP _ m_L_number 7 [(3, 0), (0, a1), (27, 0), mi_un] ((1, v) :: [(0, 0), (27, 0)]) (mi_cb M0 (D', Z1) M2) _ _
    refine SgP.goM (pc' := 8) (mi_lastoreG (r := 25) dL_number_7 rfl (by decide) (by decide) (by decide)) ?_
    rw [mi_cb_o]
    refine SgP.go (pc' := 14) (mi_goto (tgt := 14) dL_number_8 (by decide)) ?_
    refine SgP.go (pc' := 15) (mi_iconst (z := 0) dL_number_14 rfl) ?_
    exact SgP.ret (mi_ireturn dL_number_15 rfl (Or.inl rfl))
  | .inr (k, D'), hb, hk =>
    have h9 := hk _ rfl
    have h8 : k = 0 := by simpa using h9
    rcases h8 with rfl
    · refine MC.ofH (α := Unit) (L := fun _ => mi_hT (fun k => 1) M0 Z1 M2 (.inr (0, D'))) (o := some ()) (a := ()) rfl wP_L (Nat.le_of_ble_eq_true rfl) ?_ rfl
      show SgP _ m_L_number 0 [(3, 0), (0, a1), (27, 0), mi_un] [] _ _ _
      refine SgP.go (pc' := 1) (mi_aload_n dL_number_0 rfl) ?_
      refine SgP.go (pc' := 2) (mi_iconst (z := 0) dL_number_1 rfl) ?_
      refine SgP.go (pc' := 3) (mi_aload_n dL_number_2 rfl) ?_
      refine SgP.go (pc' := 4) (mi_iload_n dL_number_3 rfl) ?_
      exact SgP.callH (h := 11) (z := 1) (a := ()) (μ' := m_X10_number) (args := [(3, 0), (0, a1)]) (mi_invV (n := 1) (r := 1) dL_number_4 hC_1 (by omega) rfl rfl wN_X10_number rfl ⟨by decide, by decide⟩ wL_L_58 wI_X10_number wS_X10_number wB_X10 wC_X10_number) ((C_X10_number hL a1 D1 _ hb).l1 hW hW rfl (fun h => absurd h (show ¬ (2 : Nat) = 1 by decide))) rfl (Nat.le_of_ble_eq_true rfl) rfl (fun _ _ _ _ _ h => h) ⟨_, [], ⟨0, 8, 11, 13⟩, [], _, rfl, by decide, (fun z hz => by cases hz), by decide, by decide, rfl, wK_L_13, wX_0⟩ ⟨rfl, 12, 1, rfl, Or.inr ⟨3, dL_number_11, rfl, by decide⟩, dL_number_12, dL_number_13⟩ rfl
abbrev m_L_frame : MiI := (yL_frame, cL_frame, 6, (some .int), 8, some [(0, 12, 15, 13), (0, 12, 19, 15)])
set_option maxRecDepth 20000 in
theorem C_L_frame {Z1 : MiZ} (hL : CL Z1) (hW : mi_cw mi_s1 Z1) (a1 a2 a3 : Int) (D1 : MiD) (M0 M2 : MiM) (b : (Int × MiD) ⊕ (Nat × MiD)) (hb : B_X10_frame a1 a2 a3 D1 = some b) (hk : ∀ a, b = .inr a → (fun k => k == 0 || k == 1) a.1 = true) : MC m_L_frame [(3, 0), (0, a1), (0, a2), (0, a3), (27, 0)] (mi_cb M0 (D1, Z1) M2) (mi_hT (fun k => if k = 0 then 1 else 2) M0 Z1 M2 b) := by
  match b, hb, hk with
  | .inl (v, D'), hb, _ =>
    refine MC.ofH (α := Unit) (L := fun _ => mi_hT (fun k => if k = 0 then 1 else 2) M0 Z1 M2 (.inl (v, D'))) (o := some ()) (a := ()) rfl wP_L (Nat.le_of_ble_eq_true rfl) ?_ rfl
    show SgP _ m_L_frame 0 [(3, 0), (0, a1), (0, a2), (0, a3), (27, 0), mi_un] [] _ _ _
    refine SgP.go (pc' := 2) (mi_aload dL_frame_0 rfl) ?_
    refine SgP.go (pc' := 3) (mi_iconst (z := 0) dL_frame_2 rfl) ?_
    refine SgP.go (pc' := 4) (mi_aload_n dL_frame_3 rfl) ?_
    refine SgP.go (pc' := 5) (mi_iload_n dL_frame_4 rfl) ?_
    refine SgP.go (pc' := 6) (mi_iload_n dL_frame_5 rfl) ?_
    refine SgP.go (pc' := 7) (mi_iload_n dL_frame_6 rfl) ?_
    refine SgP.call (μ' := m_X10_frame) (args := [(3, 0), (0, a1), (0, a2), (0, a3)]) (mi_invV (n := 3) (r := 1) dL_frame_7 hC_1 (by omega) rfl rfl wN_X10_frame rfl ⟨by decide, by decide⟩ wL_L_62 wI_X10_frame wS_X10_frame wB_X10 wC_X10_frame) ((C_X10_frame hL a1 a2 a3 D1 _ hb).l1 hW hW rfl (fun _ => show (0 : Nat) < 2 by decide)) (show (1 : Nat) ≠ 2 by decide) (Nat.le_of_ble_eq_true rfl) ?_ rfl
    show SgP _ m_L_frame 10 [(3, 0), (0, a1), (0, a2), (0, a3), (27, 0), mi_un] ((0, v) :: [(0, 0), (27, 0)]) (mi_cb M0 (D', Z1) M2) _ _
    refine SgP.go (pc' := 11) (mi_i2l dL_frame_10) ?_
    refine SgP.goM (pc' := 12) (mi_lastoreG (r := 25) dL_frame_11 rfl (by decide) (by decide) (by decide)) ?_
    rw [mi_cb_o]
    refine SgP.go (pc' := 23) (mi_goto (tgt := 23) dL_frame_12 (by decide)) ?_
    refine SgP.go (pc' := 24) (mi_iconst (z := 0) dL_frame_23 rfl) ?_
    exact SgP.ret (mi_ireturn dL_frame_24 rfl (Or.inl rfl))
  | .inr (k, D'), hb, hk =>
    have h9 := hk _ rfl
    have h8 : k = 0 ∨ k = 1 := by simpa using h9
    rcases h8 with rfl | rfl
    · refine MC.ofH (α := Unit) (L := fun _ => mi_hT (fun k => if k = 0 then 1 else 2) M0 Z1 M2 (.inr (0, D'))) (o := some ()) (a := ()) rfl wP_L (Nat.le_of_ble_eq_true rfl) ?_ rfl
      show SgP _ m_L_frame 0 [(3, 0), (0, a1), (0, a2), (0, a3), (27, 0), mi_un] [] _ _ _
      refine SgP.go (pc' := 2) (mi_aload dL_frame_0 rfl) ?_
      refine SgP.go (pc' := 3) (mi_iconst (z := 0) dL_frame_2 rfl) ?_
      refine SgP.go (pc' := 4) (mi_aload_n dL_frame_3 rfl) ?_
      refine SgP.go (pc' := 5) (mi_iload_n dL_frame_4 rfl) ?_
      refine SgP.go (pc' := 6) (mi_iload_n dL_frame_5 rfl) ?_
      refine SgP.go (pc' := 7) (mi_iload_n dL_frame_6 rfl) ?_
      exact SgP.callH (h := 15) (z := 1) (a := ()) (μ' := m_X10_frame) (args := [(3, 0), (0, a1), (0, a2), (0, a3)]) (mi_invV (n := 3) (r := 1) dL_frame_7 hC_1 (by omega) rfl rfl wN_X10_frame rfl ⟨by decide, by decide⟩ wL_L_62 wI_X10_frame wS_X10_frame wB_X10 wC_X10_frame) ((C_X10_frame hL a1 a2 a3 D1 _ hb).l1 hW hW rfl (fun h => absurd h (show ¬ (2 : Nat) = 1 by decide))) rfl (Nat.le_of_ble_eq_true rfl) rfl (fun _ _ _ _ _ h => h) ⟨_, [], ⟨0, 12, 15, 13⟩, [⟨0, 12, 19, 15⟩], _, rfl, by decide, (fun z hz => by cases hz), by decide, by decide, rfl, wK_L_13, wX_0⟩ ⟨rfl, 17, 1, rfl, Or.inl ⟨5, dL_frame_15, rfl, by decide⟩, dL_frame_17, dL_frame_18⟩ rfl
    · refine MC.ofH (α := Unit) (L := fun _ => mi_hT (fun k => if k = 0 then 1 else 2) M0 Z1 M2 (.inr (1, D'))) (o := some ()) (a := ()) rfl wP_L (Nat.le_of_ble_eq_true rfl) ?_ rfl
      show SgP _ m_L_frame 0 [(3, 0), (0, a1), (0, a2), (0, a3), (27, 0), mi_un] [] _ _ _
      refine SgP.go (pc' := 2) (mi_aload dL_frame_0 rfl) ?_
      refine SgP.go (pc' := 3) (mi_iconst (z := 0) dL_frame_2 rfl) ?_
      refine SgP.go (pc' := 4) (mi_aload_n dL_frame_3 rfl) ?_
      refine SgP.go (pc' := 5) (mi_iload_n dL_frame_4 rfl) ?_
      refine SgP.go (pc' := 6) (mi_iload_n dL_frame_5 rfl) ?_
      refine SgP.go (pc' := 7) (mi_iload_n dL_frame_6 rfl) ?_
      exact SgP.callH (h := 19) (z := 2) (a := ()) (μ' := m_X10_frame) (args := [(3, 0), (0, a1), (0, a2), (0, a3)]) (mi_invV (n := 3) (r := 1) dL_frame_7 hC_1 (by omega) rfl rfl wN_X10_frame rfl ⟨by decide, by decide⟩ wL_L_62 wI_X10_frame wS_X10_frame wB_X10 wC_X10_frame) ((C_X10_frame hL a1 a2 a3 D1 _ hb).l1 hW hW rfl (fun h => absurd h (show ¬ (2 : Nat) = 1 by decide))) rfl (Nat.le_of_ble_eq_true rfl) rfl (fun _ _ _ _ _ h => h) ⟨_, [⟨0, 12, 15, 13⟩], ⟨0, 12, 19, 15⟩, [], _, rfl, by decide, (fun z hz => by
        rcases List.mem_cons.mp hz with rfl | hz
        · exact Or.inr ⟨by decide, _, wK_L_13, by show (mi_exn 1, _) ∈ mi_ncL; simp [mi_ncL, mi_exn]⟩
        cases hz), by decide, by decide, rfl, wK_L_15, wX_1⟩ ⟨rfl, 21, 2, rfl, Or.inl ⟨5, dL_frame_19, rfl, by decide⟩, dL_frame_21, dL_frame_22⟩ rfl
abbrev m_L_stuck : MiI := (yL_stuck, cL_stuck, 4, (some .int), 8, some [(0, 9, 12, 13)])
set_option maxRecDepth 20000 in
theorem C_L_stuck {Z1 : MiZ} (hL : CL Z1) (hW : mi_cw mi_s1 Z1) (a1 : Int) (D1 : MiD) (M0 M2 : MiM) (b : (Int × MiD) ⊕ (Nat × MiD)) (hb : B_X10_stuck Z1 a1 D1 = some b) (hk : ∀ a, b = .inr a → (fun k => k == 0) a.1 = true) : MC m_L_stuck [(3, 0), (0, a1), (27, 0)] (mi_cb M0 (D1, Z1) M2) (mi_hT (fun k => 1) M0 Z1 M2 b) := by
  match b, hb, hk with
  | .inl (v, D'), hb, _ =>
    refine MC.ofH (α := Unit) (L := fun _ => mi_hT (fun k => 1) M0 Z1 M2 (.inl (v, D'))) (o := some ()) (a := ()) rfl wP_L (Nat.le_of_ble_eq_true rfl) ?_ rfl
    show SgP _ m_L_stuck 0 [(3, 0), (0, a1), (27, 0), mi_un] [] _ _ _
    refine SgP.go (pc' := 1) (mi_aload_n dL_stuck_0 rfl) ?_
    refine SgP.go (pc' := 2) (mi_iconst (z := 0) dL_stuck_1 rfl) ?_
    refine SgP.go (pc' := 3) (mi_aload_n dL_stuck_2 rfl) ?_
    refine SgP.go (pc' := 4) (mi_iload_n dL_stuck_3 rfl) ?_
    refine SgP.call (μ' := m_X10_stuck) (args := [(3, 0), (0, a1)]) (mi_invV (n := 1) (r := 1) dL_stuck_4 hC_1 (by omega) rfl rfl wN_X10_stuck rfl ⟨by decide, by decide⟩ wL_L_65 wI_X10_stuck wS_X10_stuck wB_X10 wC_X10_stuck) ((C_X10_stuck hL a1 D1 _ hb).l1 hW hW rfl (fun _ => show (0 : Nat) < 2 by decide)) (show (1 : Nat) ≠ 2 by decide) (Nat.le_of_ble_eq_true rfl) ?_ rfl
    show SgP _ m_L_stuck 7 [(3, 0), (0, a1), (27, 0), mi_un] ((0, v) :: [(0, 0), (27, 0)]) (mi_cb M0 (D', Z1) M2) _ _
    refine SgP.go (pc' := 8) (mi_i2l dL_stuck_7) ?_
    refine SgP.goM (pc' := 9) (mi_lastoreG (r := 25) dL_stuck_8 rfl (by decide) (by decide) (by decide)) ?_
    rw [mi_cb_o]
    refine SgP.go (pc' := 15) (mi_goto (tgt := 15) dL_stuck_9 (by decide)) ?_
    refine SgP.go (pc' := 16) (mi_iconst (z := 0) dL_stuck_15 rfl) ?_
    exact SgP.ret (mi_ireturn dL_stuck_16 rfl (Or.inl rfl))
  | .inr (k, D'), hb, hk =>
    have h9 := hk _ rfl
    have h8 : k = 0 := by simpa using h9
    rcases h8 with rfl
    · refine MC.ofH (α := Unit) (L := fun _ => mi_hT (fun k => 1) M0 Z1 M2 (.inr (0, D'))) (o := some ()) (a := ()) rfl wP_L (Nat.le_of_ble_eq_true rfl) ?_ rfl
      show SgP _ m_L_stuck 0 [(3, 0), (0, a1), (27, 0), mi_un] [] _ _ _
      refine SgP.go (pc' := 1) (mi_aload_n dL_stuck_0 rfl) ?_
      refine SgP.go (pc' := 2) (mi_iconst (z := 0) dL_stuck_1 rfl) ?_
      refine SgP.go (pc' := 3) (mi_aload_n dL_stuck_2 rfl) ?_
      refine SgP.go (pc' := 4) (mi_iload_n dL_stuck_3 rfl) ?_
      exact SgP.callH (h := 12) (z := 1) (a := ()) (μ' := m_X10_stuck) (args := [(3, 0), (0, a1)]) (mi_invV (n := 1) (r := 1) dL_stuck_4 hC_1 (by omega) rfl rfl wN_X10_stuck rfl ⟨by decide, by decide⟩ wL_L_65 wI_X10_stuck wS_X10_stuck wB_X10 wC_X10_stuck) ((C_X10_stuck hL a1 D1 _ hb).l1 hW hW rfl (fun h => absurd h (show ¬ (2 : Nat) = 1 by decide))) rfl (Nat.le_of_ble_eq_true rfl) rfl (fun _ _ _ _ _ h => h) ⟨_, [], ⟨0, 9, 12, 13⟩, [], _, rfl, by decide, (fun z hz => by cases hz), by decide, by decide, rfl, wK_L_13, wX_0⟩ ⟨rfl, 13, 1, rfl, Or.inr ⟨3, dL_stuck_12, rfl, by decide⟩, dL_stuck_13, dL_stuck_14⟩ rfl
abbrev m_L_calls : MiI := (yL_calls, cL_calls, 5, (some .int), 8, some [(0, 10, 13, 13)])
set_option maxRecDepth 20000 in
theorem C_L_calls {Z1 : MiZ} (hL : CL Z1) (hW : mi_cw mi_s1 Z1) (a1 a2 : Int) (D1 : MiD) (M0 M2 : MiM) (b : (Int × MiD) ⊕ (Nat × MiD)) (hb : B_X10_calls Z1 a1 a2 D1 = some b) (hk : ∀ a, b = .inr a → (fun k => k == 0) a.1 = true) : MC m_L_calls [(3, 0), (0, a1), (0, a2), (27, 0)] (mi_cb M0 (D1, Z1) M2) (mi_hT (fun k => 1) M0 Z1 M2 b) := by
  match b, hb, hk with
  | .inl (v, D'), hb, _ =>
    refine MC.ofH (α := Unit) (L := fun _ => mi_hT (fun k => 1) M0 Z1 M2 (.inl (v, D'))) (o := some ()) (a := ()) rfl wP_L (Nat.le_of_ble_eq_true rfl) ?_ rfl
    show SgP _ m_L_calls 0 [(3, 0), (0, a1), (0, a2), (27, 0), mi_un] [] _ _ _
    refine SgP.go (pc' := 1) (mi_aload_n dL_calls_0 rfl) ?_
    refine SgP.go (pc' := 2) (mi_iconst (z := 0) dL_calls_1 rfl) ?_
    refine SgP.go (pc' := 3) (mi_aload_n dL_calls_2 rfl) ?_
    refine SgP.go (pc' := 4) (mi_iload_n dL_calls_3 rfl) ?_
    refine SgP.go (pc' := 5) (mi_iload_n dL_calls_4 rfl) ?_
    refine SgP.call (μ' := m_X10_calls) (args := [(3, 0), (0, a1), (0, a2)]) (mi_invV (n := 2) (r := 1) dL_calls_5 hC_1 (by omega) rfl rfl wN_X10_calls rfl ⟨by decide, by decide⟩ wL_L_68 wI_X10_calls wS_X10_calls wB_X10 wC_X10_calls) ((C_X10_calls hL a1 a2 D1 _ hb).l1 hW hW rfl (fun _ => show (0 : Nat) < 2 by decide)) (show (1 : Nat) ≠ 2 by decide) (Nat.le_of_ble_eq_true rfl) ?_ rfl
    show SgP _ m_L_calls 8 [(3, 0), (0, a1), (0, a2), (27, 0), mi_un] ((0, v) :: [(0, 0), (27, 0)]) (mi_cb M0 (D', Z1) M2) _ _
    refine SgP.go (pc' := 9) (mi_i2l dL_calls_8) ?_
    refine SgP.goM (pc' := 10) (mi_lastoreG (r := 25) dL_calls_9 rfl (by decide) (by decide) (by decide)) ?_
    rw [mi_cb_o]
    refine SgP.go (pc' := 17) (mi_goto (tgt := 17) dL_calls_10 (by decide)) ?_
    refine SgP.go (pc' := 18) (mi_iconst (z := 0) dL_calls_17 rfl) ?_
    exact SgP.ret (mi_ireturn dL_calls_18 rfl (Or.inl rfl))
  | .inr (k, D'), hb, hk =>
    have h9 := hk _ rfl
    have h8 : k = 0 := by simpa using h9
    rcases h8 with rfl
    · refine MC.ofH (α := Unit) (L := fun _ => mi_hT (fun k => 1) M0 Z1 M2 (.inr (0, D'))) (o := some ()) (a := ()) rfl wP_L (Nat.le_of_ble_eq_true rfl) ?_ rfl
      show SgP _ m_L_calls 0 [(3, 0), (0, a1), (0, a2), (27, 0), mi_un] [] _ _ _
      refine SgP.go (pc' := 1) (mi_aload_n dL_calls_0 rfl) ?_
      refine SgP.go (pc' := 2) (mi_iconst (z := 0) dL_calls_1 rfl) ?_
      refine SgP.go (pc' := 3) (mi_aload_n dL_calls_2 rfl) ?_
      refine SgP.go (pc' := 4) (mi_iload_n dL_calls_3 rfl) ?_
      refine SgP.go (pc' := 5) (mi_iload_n dL_calls_4 rfl) ?_
      exact SgP.callH (h := 13) (z := 1) (a := ()) (μ' := m_X10_calls) (args := [(3, 0), (0, a1), (0, a2)]) (mi_invV (n := 2) (r := 1) dL_calls_5 hC_1 (by omega) rfl rfl wN_X10_calls rfl ⟨by decide, by decide⟩ wL_L_68 wI_X10_calls wS_X10_calls wB_X10 wC_X10_calls) ((C_X10_calls hL a1 a2 D1 _ hb).l1 hW hW rfl (fun h => absurd h (show ¬ (2 : Nat) = 1 by decide))) rfl (Nat.le_of_ble_eq_true rfl) rfl (fun _ _ _ _ _ h => h) ⟨_, [], ⟨0, 10, 13, 13⟩, [], _, rfl, by decide, (fun z hz => by cases hz), by decide, by decide, rfl, wK_L_13, wX_0⟩ ⟨rfl, 15, 1, rfl, Or.inl ⟨4, dL_calls_13, rfl, by decide⟩, dL_calls_15, dL_calls_16⟩ rfl
abbrev m_L_entry : MiI := (yL_entry, cL_entry, 4, (some .int), 8, some [(0, 9, 12, 13)])
set_option maxRecDepth 20000 in
theorem C_L_entry {Z1 : MiZ} (hL : CL Z1) (hW : mi_cw mi_s1 Z1) (a1 : Int) (D1 : MiD) (M0 M2 : MiM) (b : (Int × MiD) ⊕ (Nat × MiD)) (hb : B_X10_entry Z1 a1 D1 = some b) (hk : ∀ a, b = .inr a → (fun k => k == 0) a.1 = true) : MC m_L_entry [(3, 0), (0, a1), (27, 0)] (mi_cb M0 (D1, Z1) M2) (mi_hT (fun k => 1) M0 Z1 M2 b) := by
  match b, hb, hk with
  | .inl (v, D'), hb, _ =>
    refine MC.ofH (α := Unit) (L := fun _ => mi_hT (fun k => 1) M0 Z1 M2 (.inl (v, D'))) (o := some ()) (a := ()) rfl wP_L (Nat.le_of_ble_eq_true rfl) ?_ rfl
    show SgP _ m_L_entry 0 [(3, 0), (0, a1), (27, 0), mi_un] [] _ _ _
    refine SgP.go (pc' := 1) (mi_aload_n dL_entry_0 rfl) ?_
    refine SgP.go (pc' := 2) (mi_iconst (z := 0) dL_entry_1 rfl) ?_
    refine SgP.go (pc' := 3) (mi_aload_n dL_entry_2 rfl) ?_
    refine SgP.go (pc' := 4) (mi_iload_n dL_entry_3 rfl) ?_
    refine SgP.call (μ' := m_X10_entry) (args := [(3, 0), (0, a1)]) (mi_invV (n := 1) (r := 1) dL_entry_4 hC_1 (by omega) rfl rfl wN_X10_entry rfl ⟨by decide, by decide⟩ wL_L_71 wI_X10_entry wS_X10_entry wB_X10 wC_X10_entry) ((C_X10_entry hL a1 D1 _ hb).l1 hW hW rfl (fun _ => show (0 : Nat) < 2 by decide)) (show (1 : Nat) ≠ 2 by decide) (Nat.le_of_ble_eq_true rfl) ?_ rfl
    show SgP _ m_L_entry 7 [(3, 0), (0, a1), (27, 0), mi_un] ((0, v) :: [(0, 0), (27, 0)]) (mi_cb M0 (D', Z1) M2) _ _
    refine SgP.go (pc' := 8) (mi_i2l dL_entry_7) ?_
    refine SgP.goM (pc' := 9) (mi_lastoreG (r := 25) dL_entry_8 rfl (by decide) (by decide) (by decide)) ?_
    rw [mi_cb_o]
    refine SgP.go (pc' := 15) (mi_goto (tgt := 15) dL_entry_9 (by decide)) ?_
    refine SgP.go (pc' := 16) (mi_iconst (z := 0) dL_entry_15 rfl) ?_
    exact SgP.ret (mi_ireturn dL_entry_16 rfl (Or.inl rfl))
  | .inr (k, D'), hb, hk =>
    have h9 := hk _ rfl
    have h8 : k = 0 := by simpa using h9
    rcases h8 with rfl
    · refine MC.ofH (α := Unit) (L := fun _ => mi_hT (fun k => 1) M0 Z1 M2 (.inr (0, D'))) (o := some ()) (a := ()) rfl wP_L (Nat.le_of_ble_eq_true rfl) ?_ rfl
      show SgP _ m_L_entry 0 [(3, 0), (0, a1), (27, 0), mi_un] [] _ _ _
      refine SgP.go (pc' := 1) (mi_aload_n dL_entry_0 rfl) ?_
      refine SgP.go (pc' := 2) (mi_iconst (z := 0) dL_entry_1 rfl) ?_
      refine SgP.go (pc' := 3) (mi_aload_n dL_entry_2 rfl) ?_
      refine SgP.go (pc' := 4) (mi_iload_n dL_entry_3 rfl) ?_
      exact SgP.callH (h := 12) (z := 1) (a := ()) (μ' := m_X10_entry) (args := [(3, 0), (0, a1)]) (mi_invV (n := 1) (r := 1) dL_entry_4 hC_1 (by omega) rfl rfl wN_X10_entry rfl ⟨by decide, by decide⟩ wL_L_71 wI_X10_entry wS_X10_entry wB_X10 wC_X10_entry) ((C_X10_entry hL a1 D1 _ hb).l1 hW hW rfl (fun h => absurd h (show ¬ (2 : Nat) = 1 by decide))) rfl (Nat.le_of_ble_eq_true rfl) rfl (fun _ _ _ _ _ h => h) ⟨_, [], ⟨0, 9, 12, 13⟩, [], _, rfl, by decide, (fun z hz => by cases hz), by decide, by decide, rfl, wK_L_13, wX_0⟩ ⟨rfl, 13, 1, rfl, Or.inr ⟨3, dL_entry_12, rfl, by decide⟩, dL_entry_13, dL_entry_14⟩ rfl
abbrev m_L_patchOf : MiI := (yL_patchOf, cL_patchOf, 5, (some .int), 8, some [(0, 10, 13, 13), (0, 10, 17, 15)])
set_option maxRecDepth 20000 in
theorem C_L_patchOf {Z1 : MiZ} (hL : CL Z1) (hW : mi_cw mi_s1 Z1) (a1 a2 : Int) (D1 : MiD) (M0 M2 : MiM) (b : (Int × MiD) ⊕ (Nat × MiD)) (hb : B_X10_patchOf Z1 a1 a2 D1 = some b) (hk : ∀ a, b = .inr a → (fun k => k == 0 || k == 1) a.1 = true) : MC m_L_patchOf [(3, 0), (0, a1), (0, a2), (27, 0)] (mi_cb M0 (D1, Z1) M2) (mi_hT (fun k => if k = 0 then 1 else 2) M0 Z1 M2 b) := by
  match b, hb, hk with
  | .inl (v, D'), hb, _ =>
    refine MC.ofH (α := Unit) (L := fun _ => mi_hT (fun k => if k = 0 then 1 else 2) M0 Z1 M2 (.inl (v, D'))) (o := some ()) (a := ()) rfl wP_L (Nat.le_of_ble_eq_true rfl) ?_ rfl
    show SgP _ m_L_patchOf 0 [(3, 0), (0, a1), (0, a2), (27, 0), mi_un] [] _ _ _
    refine SgP.go (pc' := 1) (mi_aload_n dL_patchOf_0 rfl) ?_
    refine SgP.go (pc' := 2) (mi_iconst (z := 0) dL_patchOf_1 rfl) ?_
    refine SgP.go (pc' := 3) (mi_aload_n dL_patchOf_2 rfl) ?_
    refine SgP.go (pc' := 4) (mi_iload_n dL_patchOf_3 rfl) ?_
    refine SgP.go (pc' := 5) (mi_iload_n dL_patchOf_4 rfl) ?_
    refine SgP.call (μ' := m_X10_patchOf) (args := [(3, 0), (0, a1), (0, a2)]) (mi_invV (n := 2) (r := 1) dL_patchOf_5 hC_1 (by omega) rfl rfl wN_X10_patchOf rfl ⟨by decide, by decide⟩ wL_L_74 wI_X10_patchOf wS_X10_patchOf wB_X10 wC_X10_patchOf) ((C_X10_patchOf hL a1 a2 D1 _ hb).l1 hW hW rfl (fun _ => show (0 : Nat) < 2 by decide)) (show (1 : Nat) ≠ 2 by decide) (Nat.le_of_ble_eq_true rfl) ?_ rfl
    show SgP _ m_L_patchOf 8 [(3, 0), (0, a1), (0, a2), (27, 0), mi_un] ((0, v) :: [(0, 0), (27, 0)]) (mi_cb M0 (D', Z1) M2) _ _
    refine SgP.go (pc' := 9) (mi_i2l dL_patchOf_8) ?_
    refine SgP.goM (pc' := 10) (mi_lastoreG (r := 25) dL_patchOf_9 rfl (by decide) (by decide) (by decide)) ?_
    rw [mi_cb_o]
    refine SgP.go (pc' := 21) (mi_goto (tgt := 21) dL_patchOf_10 (by decide)) ?_
    refine SgP.go (pc' := 22) (mi_iconst (z := 0) dL_patchOf_21 rfl) ?_
    exact SgP.ret (mi_ireturn dL_patchOf_22 rfl (Or.inl rfl))
  | .inr (k, D'), hb, hk =>
    have h9 := hk _ rfl
    have h8 : k = 0 ∨ k = 1 := by simpa using h9
    rcases h8 with rfl | rfl
    · refine MC.ofH (α := Unit) (L := fun _ => mi_hT (fun k => if k = 0 then 1 else 2) M0 Z1 M2 (.inr (0, D'))) (o := some ()) (a := ()) rfl wP_L (Nat.le_of_ble_eq_true rfl) ?_ rfl
      show SgP _ m_L_patchOf 0 [(3, 0), (0, a1), (0, a2), (27, 0), mi_un] [] _ _ _
      refine SgP.go (pc' := 1) (mi_aload_n dL_patchOf_0 rfl) ?_
      refine SgP.go (pc' := 2) (mi_iconst (z := 0) dL_patchOf_1 rfl) ?_
      refine SgP.go (pc' := 3) (mi_aload_n dL_patchOf_2 rfl) ?_
      refine SgP.go (pc' := 4) (mi_iload_n dL_patchOf_3 rfl) ?_
      refine SgP.go (pc' := 5) (mi_iload_n dL_patchOf_4 rfl) ?_
      exact SgP.callH (h := 13) (z := 1) (a := ()) (μ' := m_X10_patchOf) (args := [(3, 0), (0, a1), (0, a2)]) (mi_invV (n := 2) (r := 1) dL_patchOf_5 hC_1 (by omega) rfl rfl wN_X10_patchOf rfl ⟨by decide, by decide⟩ wL_L_74 wI_X10_patchOf wS_X10_patchOf wB_X10 wC_X10_patchOf) ((C_X10_patchOf hL a1 a2 D1 _ hb).l1 hW hW rfl (fun h => absurd h (show ¬ (2 : Nat) = 1 by decide))) rfl (Nat.le_of_ble_eq_true rfl) rfl (fun _ _ _ _ _ h => h) ⟨_, [], ⟨0, 10, 13, 13⟩, [⟨0, 10, 17, 15⟩], _, rfl, by decide, (fun z hz => by cases hz), by decide, by decide, rfl, wK_L_13, wX_0⟩ ⟨rfl, 15, 1, rfl, Or.inl ⟨4, dL_patchOf_13, rfl, by decide⟩, dL_patchOf_15, dL_patchOf_16⟩ rfl
    · refine MC.ofH (α := Unit) (L := fun _ => mi_hT (fun k => if k = 0 then 1 else 2) M0 Z1 M2 (.inr (1, D'))) (o := some ()) (a := ()) rfl wP_L (Nat.le_of_ble_eq_true rfl) ?_ rfl
      show SgP _ m_L_patchOf 0 [(3, 0), (0, a1), (0, a2), (27, 0), mi_un] [] _ _ _
      refine SgP.go (pc' := 1) (mi_aload_n dL_patchOf_0 rfl) ?_
      refine SgP.go (pc' := 2) (mi_iconst (z := 0) dL_patchOf_1 rfl) ?_
      refine SgP.go (pc' := 3) (mi_aload_n dL_patchOf_2 rfl) ?_
      refine SgP.go (pc' := 4) (mi_iload_n dL_patchOf_3 rfl) ?_
      refine SgP.go (pc' := 5) (mi_iload_n dL_patchOf_4 rfl) ?_
      exact SgP.callH (h := 17) (z := 2) (a := ()) (μ' := m_X10_patchOf) (args := [(3, 0), (0, a1), (0, a2)]) (mi_invV (n := 2) (r := 1) dL_patchOf_5 hC_1 (by omega) rfl rfl wN_X10_patchOf rfl ⟨by decide, by decide⟩ wL_L_74 wI_X10_patchOf wS_X10_patchOf wB_X10 wC_X10_patchOf) ((C_X10_patchOf hL a1 a2 D1 _ hb).l1 hW hW rfl (fun h => absurd h (show ¬ (2 : Nat) = 1 by decide))) rfl (Nat.le_of_ble_eq_true rfl) rfl (fun _ _ _ _ _ h => h) ⟨_, [⟨0, 10, 13, 13⟩], ⟨0, 10, 17, 15⟩, [], _, rfl, by decide, (fun z hz => by
        rcases List.mem_cons.mp hz with rfl | hz
        · exact Or.inr ⟨by decide, _, wK_L_13, by show (mi_exn 1, _) ∈ mi_ncL; simp [mi_ncL, mi_exn]⟩
        cases hz), by decide, by decide, rfl, wK_L_15, wX_1⟩ ⟨rfl, 19, 2, rfl, Or.inl ⟨4, dL_patchOf_17, rfl, by decide⟩, dL_patchOf_19, dL_patchOf_20⟩ rfl
abbrev m_L_datumOf : MiI := (yL_datumOf, cL_datumOf, 5, (some .int), 8, some [(0, 10, 13, 13), (0, 10, 17, 15)])
set_option maxRecDepth 20000 in
theorem C_L_datumOf {Z1 : MiZ} (hL : CL Z1) (hW : mi_cw mi_s1 Z1) (a1 a2 : Int) (D1 : MiD) (M0 M2 : MiM) (b : (Int × MiD) ⊕ (Nat × MiD)) (hb : B_X10_datumOf a1 a2 D1 = some b) (hk : ∀ a, b = .inr a → (fun k => k == 0 || k == 1) a.1 = true) : MC m_L_datumOf [(3, 0), (0, a1), (0, a2), (27, 0)] (mi_cb M0 (D1, Z1) M2) (mi_hT (fun k => if k = 0 then 1 else 2) M0 Z1 M2 b) := by
  match b, hb, hk with
  | .inl (v, D'), hb, _ =>
    refine MC.ofH (α := Unit) (L := fun _ => mi_hT (fun k => if k = 0 then 1 else 2) M0 Z1 M2 (.inl (v, D'))) (o := some ()) (a := ()) rfl wP_L (Nat.le_of_ble_eq_true rfl) ?_ rfl
    show SgP _ m_L_datumOf 0 [(3, 0), (0, a1), (0, a2), (27, 0), mi_un] [] _ _ _
    refine SgP.go (pc' := 1) (mi_aload_n dL_datumOf_0 rfl) ?_
    refine SgP.go (pc' := 2) (mi_iconst (z := 0) dL_datumOf_1 rfl) ?_
    refine SgP.go (pc' := 3) (mi_aload_n dL_datumOf_2 rfl) ?_
    refine SgP.go (pc' := 4) (mi_iload_n dL_datumOf_3 rfl) ?_
    refine SgP.go (pc' := 5) (mi_iload_n dL_datumOf_4 rfl) ?_
    refine SgP.call (μ' := m_X10_datumOf) (args := [(3, 0), (0, a1), (0, a2)]) (mi_invV (n := 2) (r := 1) dL_datumOf_5 hC_1 (by omega) rfl rfl wN_X10_datumOf rfl ⟨by decide, by decide⟩ wL_L_77 wI_X10_datumOf wS_X10_datumOf wB_X10 wC_X10_datumOf) ((C_X10_datumOf hL a1 a2 D1 _ hb).l1 hW hW rfl (fun _ => show (0 : Nat) < 2 by decide)) (show (1 : Nat) ≠ 2 by decide) (Nat.le_of_ble_eq_true rfl) ?_ rfl
    show SgP _ m_L_datumOf 8 [(3, 0), (0, a1), (0, a2), (27, 0), mi_un] ((0, v) :: [(0, 0), (27, 0)]) (mi_cb M0 (D', Z1) M2) _ _
    refine SgP.go (pc' := 9) (mi_i2l dL_datumOf_8) ?_
    refine SgP.goM (pc' := 10) (mi_lastoreG (r := 25) dL_datumOf_9 rfl (by decide) (by decide) (by decide)) ?_
    rw [mi_cb_o]
    refine SgP.go (pc' := 21) (mi_goto (tgt := 21) dL_datumOf_10 (by decide)) ?_
    refine SgP.go (pc' := 22) (mi_iconst (z := 0) dL_datumOf_21 rfl) ?_
    exact SgP.ret (mi_ireturn dL_datumOf_22 rfl (Or.inl rfl))
  | .inr (k, D'), hb, hk =>
    have h9 := hk _ rfl
    have h8 : k = 0 ∨ k = 1 := by simpa using h9
    rcases h8 with rfl | rfl
    · refine MC.ofH (α := Unit) (L := fun _ => mi_hT (fun k => if k = 0 then 1 else 2) M0 Z1 M2 (.inr (0, D'))) (o := some ()) (a := ()) rfl wP_L (Nat.le_of_ble_eq_true rfl) ?_ rfl
      show SgP _ m_L_datumOf 0 [(3, 0), (0, a1), (0, a2), (27, 0), mi_un] [] _ _ _
      refine SgP.go (pc' := 1) (mi_aload_n dL_datumOf_0 rfl) ?_
      refine SgP.go (pc' := 2) (mi_iconst (z := 0) dL_datumOf_1 rfl) ?_
      refine SgP.go (pc' := 3) (mi_aload_n dL_datumOf_2 rfl) ?_
      refine SgP.go (pc' := 4) (mi_iload_n dL_datumOf_3 rfl) ?_
      refine SgP.go (pc' := 5) (mi_iload_n dL_datumOf_4 rfl) ?_
      exact SgP.callH (h := 13) (z := 1) (a := ()) (μ' := m_X10_datumOf) (args := [(3, 0), (0, a1), (0, a2)]) (mi_invV (n := 2) (r := 1) dL_datumOf_5 hC_1 (by omega) rfl rfl wN_X10_datumOf rfl ⟨by decide, by decide⟩ wL_L_77 wI_X10_datumOf wS_X10_datumOf wB_X10 wC_X10_datumOf) ((C_X10_datumOf hL a1 a2 D1 _ hb).l1 hW hW rfl (fun h => absurd h (show ¬ (2 : Nat) = 1 by decide))) rfl (Nat.le_of_ble_eq_true rfl) rfl (fun _ _ _ _ _ h => h) ⟨_, [], ⟨0, 10, 13, 13⟩, [⟨0, 10, 17, 15⟩], _, rfl, by decide, (fun z hz => by cases hz), by decide, by decide, rfl, wK_L_13, wX_0⟩ ⟨rfl, 15, 1, rfl, Or.inl ⟨4, dL_datumOf_13, rfl, by decide⟩, dL_datumOf_15, dL_datumOf_16⟩ rfl
    · refine MC.ofH (α := Unit) (L := fun _ => mi_hT (fun k => if k = 0 then 1 else 2) M0 Z1 M2 (.inr (1, D'))) (o := some ()) (a := ()) rfl wP_L (Nat.le_of_ble_eq_true rfl) ?_ rfl
      show SgP _ m_L_datumOf 0 [(3, 0), (0, a1), (0, a2), (27, 0), mi_un] [] _ _ _
      refine SgP.go (pc' := 1) (mi_aload_n dL_datumOf_0 rfl) ?_
      refine SgP.go (pc' := 2) (mi_iconst (z := 0) dL_datumOf_1 rfl) ?_
      refine SgP.go (pc' := 3) (mi_aload_n dL_datumOf_2 rfl) ?_
      refine SgP.go (pc' := 4) (mi_iload_n dL_datumOf_3 rfl) ?_
      refine SgP.go (pc' := 5) (mi_iload_n dL_datumOf_4 rfl) ?_
      exact SgP.callH (h := 17) (z := 2) (a := ()) (μ' := m_X10_datumOf) (args := [(3, 0), (0, a1), (0, a2)]) (mi_invV (n := 2) (r := 1) dL_datumOf_5 hC_1 (by omega) rfl rfl wN_X10_datumOf rfl ⟨by decide, by decide⟩ wL_L_77 wI_X10_datumOf wS_X10_datumOf wB_X10 wC_X10_datumOf) ((C_X10_datumOf hL a1 a2 D1 _ hb).l1 hW hW rfl (fun h => absurd h (show ¬ (2 : Nat) = 1 by decide))) rfl (Nat.le_of_ble_eq_true rfl) rfl (fun _ _ _ _ _ h => h) ⟨_, [⟨0, 10, 13, 13⟩], ⟨0, 10, 17, 15⟩, [], _, rfl, by decide, (fun z hz => by
        rcases List.mem_cons.mp hz with rfl | hz
        · exact Or.inr ⟨by decide, _, wK_L_13, by show (mi_exn 1, _) ∈ mi_ncL; simp [mi_ncL, mi_exn]⟩
        cases hz), by decide, by decide, rfl, wK_L_15, wX_1⟩ ⟨rfl, 19, 2, rfl, Or.inl ⟨4, dL_datumOf_17, rfl, by decide⟩, dL_datumOf_19, dL_datumOf_20⟩ rfl
abbrev m_L_shadowOf : MiI := (yL_shadowOf, cL_shadowOf, 6, (some .int), 8, some [(0, 12, 15, 13), (0, 12, 19, 15)])
set_option maxRecDepth 20000 in
theorem C_L_shadowOf {Z1 : MiZ} (hL : CL Z1) (hW : mi_cw mi_s1 Z1) (a1 a2 a3 : Int) (D1 : MiD) (M0 M2 : MiM) (b : (Int × MiD) ⊕ (Nat × MiD)) (hb : B_X10_shadowOf a1 a2 a3 D1 = some b) (hk : ∀ a, b = .inr a → (fun k => k == 0 || k == 1) a.1 = true) : MC m_L_shadowOf [(3, 0), (0, a1), (0, a2), (0, a3), (27, 0)] (mi_cb M0 (D1, Z1) M2) (mi_hT (fun k => if k = 0 then 1 else 2) M0 Z1 M2 b) := by
  match b, hb, hk with
  | .inl (v, D'), hb, _ =>
    refine MC.ofH (α := Unit) (L := fun _ => mi_hT (fun k => if k = 0 then 1 else 2) M0 Z1 M2 (.inl (v, D'))) (o := some ()) (a := ()) rfl wP_L (Nat.le_of_ble_eq_true rfl) ?_ rfl
    show SgP _ m_L_shadowOf 0 [(3, 0), (0, a1), (0, a2), (0, a3), (27, 0), mi_un] [] _ _ _
    refine SgP.go (pc' := 2) (mi_aload dL_shadowOf_0 rfl) ?_
    refine SgP.go (pc' := 3) (mi_iconst (z := 0) dL_shadowOf_2 rfl) ?_
    refine SgP.go (pc' := 4) (mi_aload_n dL_shadowOf_3 rfl) ?_
    refine SgP.go (pc' := 5) (mi_iload_n dL_shadowOf_4 rfl) ?_
    refine SgP.go (pc' := 6) (mi_iload_n dL_shadowOf_5 rfl) ?_
    refine SgP.go (pc' := 7) (mi_iload_n dL_shadowOf_6 rfl) ?_
    refine SgP.call (μ' := m_X10_shadowOf) (args := [(3, 0), (0, a1), (0, a2), (0, a3)]) (mi_invV (n := 3) (r := 1) dL_shadowOf_7 hC_1 (by omega) rfl rfl wN_X10_shadowOf rfl ⟨by decide, by decide⟩ wL_L_80 wI_X10_shadowOf wS_X10_shadowOf wB_X10 wC_X10_shadowOf) ((C_X10_shadowOf hL a1 a2 a3 D1 _ hb).l1 hW hW rfl (fun _ => show (0 : Nat) < 2 by decide)) (show (1 : Nat) ≠ 2 by decide) (Nat.le_of_ble_eq_true rfl) ?_ rfl
    show SgP _ m_L_shadowOf 10 [(3, 0), (0, a1), (0, a2), (0, a3), (27, 0), mi_un] ((0, v) :: [(0, 0), (27, 0)]) (mi_cb M0 (D', Z1) M2) _ _
    refine SgP.go (pc' := 11) (mi_i2l dL_shadowOf_10) ?_
    refine SgP.goM (pc' := 12) (mi_lastoreG (r := 25) dL_shadowOf_11 rfl (by decide) (by decide) (by decide)) ?_
    rw [mi_cb_o]
    refine SgP.go (pc' := 23) (mi_goto (tgt := 23) dL_shadowOf_12 (by decide)) ?_
    refine SgP.go (pc' := 24) (mi_iconst (z := 0) dL_shadowOf_23 rfl) ?_
    exact SgP.ret (mi_ireturn dL_shadowOf_24 rfl (Or.inl rfl))
  | .inr (k, D'), hb, hk =>
    have h9 := hk _ rfl
    have h8 : k = 0 ∨ k = 1 := by simpa using h9
    rcases h8 with rfl | rfl
    · refine MC.ofH (α := Unit) (L := fun _ => mi_hT (fun k => if k = 0 then 1 else 2) M0 Z1 M2 (.inr (0, D'))) (o := some ()) (a := ()) rfl wP_L (Nat.le_of_ble_eq_true rfl) ?_ rfl
      show SgP _ m_L_shadowOf 0 [(3, 0), (0, a1), (0, a2), (0, a3), (27, 0), mi_un] [] _ _ _
      refine SgP.go (pc' := 2) (mi_aload dL_shadowOf_0 rfl) ?_
      refine SgP.go (pc' := 3) (mi_iconst (z := 0) dL_shadowOf_2 rfl) ?_
      refine SgP.go (pc' := 4) (mi_aload_n dL_shadowOf_3 rfl) ?_
      refine SgP.go (pc' := 5) (mi_iload_n dL_shadowOf_4 rfl) ?_
      refine SgP.go (pc' := 6) (mi_iload_n dL_shadowOf_5 rfl) ?_
      refine SgP.go (pc' := 7) (mi_iload_n dL_shadowOf_6 rfl) ?_
      exact SgP.callH (h := 15) (z := 1) (a := ()) (μ' := m_X10_shadowOf) (args := [(3, 0), (0, a1), (0, a2), (0, a3)]) (mi_invV (n := 3) (r := 1) dL_shadowOf_7 hC_1 (by omega) rfl rfl wN_X10_shadowOf rfl ⟨by decide, by decide⟩ wL_L_80 wI_X10_shadowOf wS_X10_shadowOf wB_X10 wC_X10_shadowOf) ((C_X10_shadowOf hL a1 a2 a3 D1 _ hb).l1 hW hW rfl (fun h => absurd h (show ¬ (2 : Nat) = 1 by decide))) rfl (Nat.le_of_ble_eq_true rfl) rfl (fun _ _ _ _ _ h => h) ⟨_, [], ⟨0, 12, 15, 13⟩, [⟨0, 12, 19, 15⟩], _, rfl, by decide, (fun z hz => by cases hz), by decide, by decide, rfl, wK_L_13, wX_0⟩ ⟨rfl, 17, 1, rfl, Or.inl ⟨5, dL_shadowOf_15, rfl, by decide⟩, dL_shadowOf_17, dL_shadowOf_18⟩ rfl
    · refine MC.ofH (α := Unit) (L := fun _ => mi_hT (fun k => if k = 0 then 1 else 2) M0 Z1 M2 (.inr (1, D'))) (o := some ()) (a := ()) rfl wP_L (Nat.le_of_ble_eq_true rfl) ?_ rfl
      show SgP _ m_L_shadowOf 0 [(3, 0), (0, a1), (0, a2), (0, a3), (27, 0), mi_un] [] _ _ _
      refine SgP.go (pc' := 2) (mi_aload dL_shadowOf_0 rfl) ?_
      refine SgP.go (pc' := 3) (mi_iconst (z := 0) dL_shadowOf_2 rfl) ?_
      refine SgP.go (pc' := 4) (mi_aload_n dL_shadowOf_3 rfl) ?_
      refine SgP.go (pc' := 5) (mi_iload_n dL_shadowOf_4 rfl) ?_
      refine SgP.go (pc' := 6) (mi_iload_n dL_shadowOf_5 rfl) ?_
      refine SgP.go (pc' := 7) (mi_iload_n dL_shadowOf_6 rfl) ?_
      exact SgP.callH (h := 19) (z := 2) (a := ()) (μ' := m_X10_shadowOf) (args := [(3, 0), (0, a1), (0, a2), (0, a3)]) (mi_invV (n := 3) (r := 1) dL_shadowOf_7 hC_1 (by omega) rfl rfl wN_X10_shadowOf rfl ⟨by decide, by decide⟩ wL_L_80 wI_X10_shadowOf wS_X10_shadowOf wB_X10 wC_X10_shadowOf) ((C_X10_shadowOf hL a1 a2 a3 D1 _ hb).l1 hW hW rfl (fun h => absurd h (show ¬ (2 : Nat) = 1 by decide))) rfl (Nat.le_of_ble_eq_true rfl) rfl (fun _ _ _ _ _ h => h) ⟨_, [⟨0, 12, 15, 13⟩], ⟨0, 12, 19, 15⟩, [], _, rfl, by decide, (fun z hz => by
        rcases List.mem_cons.mp hz with rfl | hz
        · exact Or.inr ⟨by decide, _, wK_L_13, by show (mi_exn 1, _) ∈ mi_ncL; simp [mi_ncL, mi_exn]⟩
        cases hz), by decide, by decide, rfl, wK_L_15, wX_1⟩ ⟨rfl, 21, 2, rfl, Or.inl ⟨5, dL_shadowOf_19, rfl, by decide⟩, dL_shadowOf_21, dL_shadowOf_22⟩ rfl
abbrev m_L_cell : MiI := (yL_cell, cL_cell, 6, (some .int), 8, some [(0, 11, 14, 13)])
set_option maxRecDepth 20000 in
theorem C_L_cell {Z1 : MiZ} (hL : CL Z1) (hW : mi_cw mi_s1 Z1) (a1 a2 a3 : Int) (D1 : MiD) (M0 M2 : MiM) (b : (Int × MiD) ⊕ (Nat × MiD)) (hb : B_X10_cell a1 a2 a3 D1 = some b) (hk : ∀ a, b = .inr a → (fun k => k == 0) a.1 = true) : MC m_L_cell [(3, 0), (0, a1), (0, a2), (0, a3), (27, 0)] (mi_cb M0 (D1, Z1) M2) (mi_hT (fun k => 1) M0 Z1 M2 b) := by
  match b, hb, hk with
  | .inl (v, D'), hb, _ =>
    refine MC.ofH (α := Unit) (L := fun _ => mi_hT (fun k => 1) M0 Z1 M2 (.inl (v, D'))) (o := some ()) (a := ()) rfl wP_L (Nat.le_of_ble_eq_true rfl) ?_ rfl
    show SgP _ m_L_cell 0 [(3, 0), (0, a1), (0, a2), (0, a3), (27, 0), mi_un] [] _ _ _
    refine SgP.go (pc' := 2) (mi_aload dL_cell_0 rfl) ?_
    refine SgP.go (pc' := 3) (mi_iconst (z := 0) dL_cell_2 rfl) ?_
    refine SgP.go (pc' := 4) (mi_aload_n dL_cell_3 rfl) ?_
    refine SgP.go (pc' := 5) (mi_iload_n dL_cell_4 rfl) ?_
    refine SgP.go (pc' := 6) (mi_iload_n dL_cell_5 rfl) ?_
    refine SgP.go (pc' := 7) (mi_iload_n dL_cell_6 rfl) ?_
    refine SgP.call (μ' := m_X10_cell) (args := [(3, 0), (0, a1), (0, a2), (0, a3)]) (mi_invV (n := 3) (r := 1) dL_cell_7 hC_1 (by omega) rfl rfl wN_X10_cell rfl ⟨by decide, by decide⟩ wL_L_83 wI_X10_cell wS_X10_cell wB_X10 wC_X10_cell) ((C_X10_cell hL a1 a2 a3 D1 _ hb).l1 hW hW rfl (fun _ => show (1 : Nat) < 2 by decide)) (show (1 : Nat) ≠ 2 by decide) (Nat.le_of_ble_eq_true rfl) ?_ rfl
    show SgP _ m_L_cell 10 [(3, 0), (0, a1), (0, a2), (0, a3), (27, 0), mi_un] ((1, v) :: [(0, 0), (27, 0)]) (mi_cb M0 (D', Z1) M2) _ _
    refine SgP.goM (pc' := 11) (mi_lastoreG (r := 25) dL_cell_10 rfl (by decide) (by decide) (by decide)) ?_
    rw [mi_cb_o]
    refine SgP.go (pc' := 18) (mi_goto (tgt := 18) dL_cell_11 (by decide)) ?_
    refine SgP.go (pc' := 19) (mi_iconst (z := 0) dL_cell_18 rfl) ?_
    exact SgP.ret (mi_ireturn dL_cell_19 rfl (Or.inl rfl))
  | .inr (k, D'), hb, hk =>
    have h9 := hk _ rfl
    have h8 : k = 0 := by simpa using h9
    rcases h8 with rfl
    · refine MC.ofH (α := Unit) (L := fun _ => mi_hT (fun k => 1) M0 Z1 M2 (.inr (0, D'))) (o := some ()) (a := ()) rfl wP_L (Nat.le_of_ble_eq_true rfl) ?_ rfl
      show SgP _ m_L_cell 0 [(3, 0), (0, a1), (0, a2), (0, a3), (27, 0), mi_un] [] _ _ _
      refine SgP.go (pc' := 2) (mi_aload dL_cell_0 rfl) ?_
      refine SgP.go (pc' := 3) (mi_iconst (z := 0) dL_cell_2 rfl) ?_
      refine SgP.go (pc' := 4) (mi_aload_n dL_cell_3 rfl) ?_
      refine SgP.go (pc' := 5) (mi_iload_n dL_cell_4 rfl) ?_
      refine SgP.go (pc' := 6) (mi_iload_n dL_cell_5 rfl) ?_
      refine SgP.go (pc' := 7) (mi_iload_n dL_cell_6 rfl) ?_
      exact SgP.callH (h := 14) (z := 1) (a := ()) (μ' := m_X10_cell) (args := [(3, 0), (0, a1), (0, a2), (0, a3)]) (mi_invV (n := 3) (r := 1) dL_cell_7 hC_1 (by omega) rfl rfl wN_X10_cell rfl ⟨by decide, by decide⟩ wL_L_83 wI_X10_cell wS_X10_cell wB_X10 wC_X10_cell) ((C_X10_cell hL a1 a2 a3 D1 _ hb).l1 hW hW rfl (fun h => absurd h (show ¬ (2 : Nat) = 1 by decide))) rfl (Nat.le_of_ble_eq_true rfl) rfl (fun _ _ _ _ _ h => h) ⟨_, [], ⟨0, 11, 14, 13⟩, [], _, rfl, by decide, (fun z hz => by cases hz), by decide, by decide, rfl, wK_L_13, wX_0⟩ ⟨rfl, 16, 1, rfl, Or.inl ⟨5, dL_cell_14, rfl, by decide⟩, dL_cell_16, dL_cell_17⟩ rfl
abbrev m_L_get : MiI := (yL_get, cL_get, 6, (some .int), 8, some [(0, 11, 14, 13), (0, 11, 18, 15)])
set_option maxRecDepth 20000 in
theorem C_L_get {Z1 : MiZ} (hL : CL Z1) (hW : mi_cw mi_s1 Z1) (a1 a2 a3 : Int) (D1 : MiD) (M0 M2 : MiM) (b : (Int × MiD) ⊕ (Nat × MiD)) (hb : B_X10_get a1 a2 a3 D1 = some b) (hk : ∀ a, b = .inr a → (fun k => k == 0 || k == 1) a.1 = true) : MC m_L_get [(3, 0), (0, a1), (0, a2), (0, a3), (27, 0)] (mi_cb M0 (D1, Z1) M2) (mi_hT (fun k => if k = 0 then 1 else 2) M0 Z1 M2 b) := by
  match b, hb, hk with
  | .inl (v, D'), hb, _ =>
    refine MC.ofH (α := Unit) (L := fun _ => mi_hT (fun k => if k = 0 then 1 else 2) M0 Z1 M2 (.inl (v, D'))) (o := some ()) (a := ()) rfl wP_L (Nat.le_of_ble_eq_true rfl) ?_ rfl
    show SgP _ m_L_get 0 [(3, 0), (0, a1), (0, a2), (0, a3), (27, 0), mi_un] [] _ _ _
    refine SgP.go (pc' := 2) (mi_aload dL_get_0 rfl) ?_
    refine SgP.go (pc' := 3) (mi_iconst (z := 0) dL_get_2 rfl) ?_
    refine SgP.go (pc' := 4) (mi_aload_n dL_get_3 rfl) ?_
    refine SgP.go (pc' := 5) (mi_iload_n dL_get_4 rfl) ?_
    refine SgP.go (pc' := 6) (mi_iload_n dL_get_5 rfl) ?_
    refine SgP.go (pc' := 7) (mi_iload_n dL_get_6 rfl) ?_
    refine SgP.call (μ' := m_X10_get) (args := [(3, 0), (0, a1), (0, a2), (0, a3)]) (mi_invV (n := 3) (r := 1) dL_get_7 hC_1 (by omega) rfl rfl wN_X10_get rfl ⟨by decide, by decide⟩ wL_L_87 wI_X10_get wS_X10_get wB_X10 wC_X10_get) ((C_X10_get hL a1 a2 a3 D1 _ hb).l1 hW hW rfl (fun _ => show (1 : Nat) < 2 by decide)) (show (1 : Nat) ≠ 2 by decide) (Nat.le_of_ble_eq_true rfl) ?_ rfl
    show SgP _ m_L_get 10 [(3, 0), (0, a1), (0, a2), (0, a3), (27, 0), mi_un] ((1, v) :: [(0, 0), (27, 0)]) (mi_cb M0 (D', Z1) M2) _ _
    refine SgP.goM (pc' := 11) (mi_lastoreG (r := 25) dL_get_10 rfl (by decide) (by decide) (by decide)) ?_
    rw [mi_cb_o]
    refine SgP.go (pc' := 22) (mi_goto (tgt := 22) dL_get_11 (by decide)) ?_
    refine SgP.go (pc' := 23) (mi_iconst (z := 0) dL_get_22 rfl) ?_
    exact SgP.ret (mi_ireturn dL_get_23 rfl (Or.inl rfl))
  | .inr (k, D'), hb, hk =>
    have h9 := hk _ rfl
    have h8 : k = 0 ∨ k = 1 := by simpa using h9
    rcases h8 with rfl | rfl
    · refine MC.ofH (α := Unit) (L := fun _ => mi_hT (fun k => if k = 0 then 1 else 2) M0 Z1 M2 (.inr (0, D'))) (o := some ()) (a := ()) rfl wP_L (Nat.le_of_ble_eq_true rfl) ?_ rfl
      show SgP _ m_L_get 0 [(3, 0), (0, a1), (0, a2), (0, a3), (27, 0), mi_un] [] _ _ _
      refine SgP.go (pc' := 2) (mi_aload dL_get_0 rfl) ?_
      refine SgP.go (pc' := 3) (mi_iconst (z := 0) dL_get_2 rfl) ?_
      refine SgP.go (pc' := 4) (mi_aload_n dL_get_3 rfl) ?_
      refine SgP.go (pc' := 5) (mi_iload_n dL_get_4 rfl) ?_
      refine SgP.go (pc' := 6) (mi_iload_n dL_get_5 rfl) ?_
      refine SgP.go (pc' := 7) (mi_iload_n dL_get_6 rfl) ?_
      exact SgP.callH (h := 14) (z := 1) (a := ()) (μ' := m_X10_get) (args := [(3, 0), (0, a1), (0, a2), (0, a3)]) (mi_invV (n := 3) (r := 1) dL_get_7 hC_1 (by omega) rfl rfl wN_X10_get rfl ⟨by decide, by decide⟩ wL_L_87 wI_X10_get wS_X10_get wB_X10 wC_X10_get) ((C_X10_get hL a1 a2 a3 D1 _ hb).l1 hW hW rfl (fun h => absurd h (show ¬ (2 : Nat) = 1 by decide))) rfl (Nat.le_of_ble_eq_true rfl) rfl (fun _ _ _ _ _ h => h) ⟨_, [], ⟨0, 11, 14, 13⟩, [⟨0, 11, 18, 15⟩], _, rfl, by decide, (fun z hz => by cases hz), by decide, by decide, rfl, wK_L_13, wX_0⟩ ⟨rfl, 16, 1, rfl, Or.inl ⟨5, dL_get_14, rfl, by decide⟩, dL_get_16, dL_get_17⟩ rfl
    · refine MC.ofH (α := Unit) (L := fun _ => mi_hT (fun k => if k = 0 then 1 else 2) M0 Z1 M2 (.inr (1, D'))) (o := some ()) (a := ()) rfl wP_L (Nat.le_of_ble_eq_true rfl) ?_ rfl
      show SgP _ m_L_get 0 [(3, 0), (0, a1), (0, a2), (0, a3), (27, 0), mi_un] [] _ _ _
      refine SgP.go (pc' := 2) (mi_aload dL_get_0 rfl) ?_
      refine SgP.go (pc' := 3) (mi_iconst (z := 0) dL_get_2 rfl) ?_
      refine SgP.go (pc' := 4) (mi_aload_n dL_get_3 rfl) ?_
      refine SgP.go (pc' := 5) (mi_iload_n dL_get_4 rfl) ?_
      refine SgP.go (pc' := 6) (mi_iload_n dL_get_5 rfl) ?_
      refine SgP.go (pc' := 7) (mi_iload_n dL_get_6 rfl) ?_
      exact SgP.callH (h := 18) (z := 2) (a := ()) (μ' := m_X10_get) (args := [(3, 0), (0, a1), (0, a2), (0, a3)]) (mi_invV (n := 3) (r := 1) dL_get_7 hC_1 (by omega) rfl rfl wN_X10_get rfl ⟨by decide, by decide⟩ wL_L_87 wI_X10_get wS_X10_get wB_X10 wC_X10_get) ((C_X10_get hL a1 a2 a3 D1 _ hb).l1 hW hW rfl (fun h => absurd h (show ¬ (2 : Nat) = 1 by decide))) rfl (Nat.le_of_ble_eq_true rfl) rfl (fun _ _ _ _ _ h => h) ⟨_, [⟨0, 11, 14, 13⟩], ⟨0, 11, 18, 15⟩, [], _, rfl, by decide, (fun z hz => by
        rcases List.mem_cons.mp hz with rfl | hz
        · exact Or.inr ⟨by decide, _, wK_L_13, by show (mi_exn 1, _) ∈ mi_ncL; simp [mi_ncL, mi_exn]⟩
        cases hz), by decide, by decide, rfl, wK_L_15, wX_1⟩ ⟨rfl, 20, 2, rfl, Or.inl ⟨5, dL_get_18, rfl, by decide⟩, dL_get_20, dL_get_21⟩ rfl
abbrev m_L_set : MiI := (yL_set, cL_set, 7, (some .int), 8, some [(0, 14, 17, 13), (0, 14, 21, 15)])
set_option maxRecDepth 20000 in
theorem C_L_set {Z1 : MiZ} (hL : CL Z1) (hW : mi_cw mi_s1 Z1) (a1 a2 a3 a4 : Int) (D1 : MiD) (M0 M2 : MiM) (b : (Int × MiD) ⊕ (Nat × MiD)) (hb : B_X10_set a1 a2 a3 a4 D1 = some b) (hk : ∀ a, b = .inr a → (fun k => k == 0 || k == 1) a.1 = true) : MC m_L_set [(3, 0), (0, a1), (0, a2), (0, a3), (0, a4), (27, 0)] (mi_cb M0 (D1, Z1) M2) (mi_hT (fun k => if k = 0 then 1 else 2) M0 Z1 M2 b) := by
  match b, hb, hk with
  | .inl (v, D'), hb, _ =>
    refine MC.ofH (α := Unit) (L := fun _ => mi_hT (fun k => if k = 0 then 1 else 2) M0 Z1 M2 (.inl (v, D'))) (o := some ()) (a := ()) rfl wP_L (Nat.le_of_ble_eq_true rfl) ?_ rfl
    show SgP _ m_L_set 0 [(3, 0), (0, a1), (0, a2), (0, a3), (0, a4), (27, 0), mi_un] [] _ _ _
    refine SgP.go (pc' := 2) (mi_aload dL_set_0 rfl) ?_
    refine SgP.go (pc' := 3) (mi_iconst (z := 0) dL_set_2 rfl) ?_
    refine SgP.go (pc' := 4) (mi_aload_n dL_set_3 rfl) ?_
    refine SgP.go (pc' := 5) (mi_iload_n dL_set_4 rfl) ?_
    refine SgP.go (pc' := 6) (mi_iload_n dL_set_5 rfl) ?_
    refine SgP.go (pc' := 7) (mi_iload_n dL_set_6 rfl) ?_
    refine SgP.go (pc' := 9) (mi_iload dL_set_7 rfl) ?_
    refine SgP.call (μ' := m_X10_set) (args := [(3, 0), (0, a1), (0, a2), (0, a3), (0, a4)]) (mi_invV (n := 4) (r := 1) dL_set_9 hC_1 (by omega) rfl rfl wN_X10_set rfl ⟨by decide, by decide⟩ wL_L_90 wI_X10_set wS_X10_set wB_X10 wC_X10_set) ((C_X10_set hL a1 a2 a3 a4 D1 _ hb).l1 hW hW rfl (fun _ => show (0 : Nat) < 2 by decide)) (show (1 : Nat) ≠ 2 by decide) (Nat.le_of_ble_eq_true rfl) ?_ rfl
    show SgP _ m_L_set 12 [(3, 0), (0, a1), (0, a2), (0, a3), (0, a4), (27, 0), mi_un] ((0, v) :: [(0, 0), (27, 0)]) (mi_cb M0 (D', Z1) M2) _ _
    refine SgP.go (pc' := 13) (mi_i2l dL_set_12) ?_
    refine SgP.goM (pc' := 14) (mi_lastoreG (r := 25) dL_set_13 rfl (by decide) (by decide) (by decide)) ?_
    rw [mi_cb_o]
    refine SgP.go (pc' := 25) (mi_goto (tgt := 25) dL_set_14 (by decide)) ?_
    refine SgP.go (pc' := 26) (mi_iconst (z := 0) dL_set_25 rfl) ?_
    exact SgP.ret (mi_ireturn dL_set_26 rfl (Or.inl rfl))
  | .inr (k, D'), hb, hk =>
    have h9 := hk _ rfl
    have h8 : k = 0 ∨ k = 1 := by simpa using h9
    rcases h8 with rfl | rfl
    · refine MC.ofH (α := Unit) (L := fun _ => mi_hT (fun k => if k = 0 then 1 else 2) M0 Z1 M2 (.inr (0, D'))) (o := some ()) (a := ()) rfl wP_L (Nat.le_of_ble_eq_true rfl) ?_ rfl
      show SgP _ m_L_set 0 [(3, 0), (0, a1), (0, a2), (0, a3), (0, a4), (27, 0), mi_un] [] _ _ _
      refine SgP.go (pc' := 2) (mi_aload dL_set_0 rfl) ?_
      refine SgP.go (pc' := 3) (mi_iconst (z := 0) dL_set_2 rfl) ?_
      refine SgP.go (pc' := 4) (mi_aload_n dL_set_3 rfl) ?_
      refine SgP.go (pc' := 5) (mi_iload_n dL_set_4 rfl) ?_
      refine SgP.go (pc' := 6) (mi_iload_n dL_set_5 rfl) ?_
      refine SgP.go (pc' := 7) (mi_iload_n dL_set_6 rfl) ?_
      refine SgP.go (pc' := 9) (mi_iload dL_set_7 rfl) ?_
      exact SgP.callH (h := 17) (z := 1) (a := ()) (μ' := m_X10_set) (args := [(3, 0), (0, a1), (0, a2), (0, a3), (0, a4)]) (mi_invV (n := 4) (r := 1) dL_set_9 hC_1 (by omega) rfl rfl wN_X10_set rfl ⟨by decide, by decide⟩ wL_L_90 wI_X10_set wS_X10_set wB_X10 wC_X10_set) ((C_X10_set hL a1 a2 a3 a4 D1 _ hb).l1 hW hW rfl (fun h => absurd h (show ¬ (2 : Nat) = 1 by decide))) rfl (Nat.le_of_ble_eq_true rfl) rfl (fun _ _ _ _ _ h => h) ⟨_, [], ⟨0, 14, 17, 13⟩, [⟨0, 14, 21, 15⟩], _, rfl, by decide, (fun z hz => by cases hz), by decide, by decide, rfl, wK_L_13, wX_0⟩ ⟨rfl, 19, 1, rfl, Or.inl ⟨6, dL_set_17, rfl, by decide⟩, dL_set_19, dL_set_20⟩ rfl
    · refine MC.ofH (α := Unit) (L := fun _ => mi_hT (fun k => if k = 0 then 1 else 2) M0 Z1 M2 (.inr (1, D'))) (o := some ()) (a := ()) rfl wP_L (Nat.le_of_ble_eq_true rfl) ?_ rfl
      show SgP _ m_L_set 0 [(3, 0), (0, a1), (0, a2), (0, a3), (0, a4), (27, 0), mi_un] [] _ _ _
      refine SgP.go (pc' := 2) (mi_aload dL_set_0 rfl) ?_
      refine SgP.go (pc' := 3) (mi_iconst (z := 0) dL_set_2 rfl) ?_
      refine SgP.go (pc' := 4) (mi_aload_n dL_set_3 rfl) ?_
      refine SgP.go (pc' := 5) (mi_iload_n dL_set_4 rfl) ?_
      refine SgP.go (pc' := 6) (mi_iload_n dL_set_5 rfl) ?_
      refine SgP.go (pc' := 7) (mi_iload_n dL_set_6 rfl) ?_
      refine SgP.go (pc' := 9) (mi_iload dL_set_7 rfl) ?_
      exact SgP.callH (h := 21) (z := 2) (a := ()) (μ' := m_X10_set) (args := [(3, 0), (0, a1), (0, a2), (0, a3), (0, a4)]) (mi_invV (n := 4) (r := 1) dL_set_9 hC_1 (by omega) rfl rfl wN_X10_set rfl ⟨by decide, by decide⟩ wL_L_90 wI_X10_set wS_X10_set wB_X10 wC_X10_set) ((C_X10_set hL a1 a2 a3 a4 D1 _ hb).l1 hW hW rfl (fun h => absurd h (show ¬ (2 : Nat) = 1 by decide))) rfl (Nat.le_of_ble_eq_true rfl) rfl (fun _ _ _ _ _ h => h) ⟨_, [⟨0, 14, 17, 13⟩], ⟨0, 14, 21, 15⟩, [], _, rfl, by decide, (fun z hz => by
        rcases List.mem_cons.mp hz with rfl | hz
        · exact Or.inr ⟨by decide, _, wK_L_13, by show (mi_exn 1, _) ∈ mi_ncL; simp [mi_ncL, mi_exn]⟩
        cases hz), by decide, by decide, rfl, wK_L_15, wX_1⟩ ⟨rfl, 23, 2, rfl, Or.inl ⟨6, dL_set_21, rfl, by decide⟩, dL_set_23, dL_set_24⟩ rfl
abbrev m_L_move : MiI := (yL_move, cL_move, 7, (some .int), 8, some [(0, 14, 17, 13)])
set_option maxRecDepth 20000 in
theorem C_L_move {Z1 : MiZ} (hL : CL Z1) (hW : mi_cw mi_s1 Z1) (a1 a2 a3 a4 : Int) (D1 : MiD) (M0 M2 : MiM) (b : (Int × MiD) ⊕ (Nat × MiD)) (hb : B_X10_move a1 a2 a3 a4 D1 = some b) (hk : ∀ a, b = .inr a → (fun k => k == 0) a.1 = true) : MC m_L_move [(3, 0), (0, a1), (0, a2), (0, a3), (0, a4), (27, 0)] (mi_cb M0 (D1, Z1) M2) (mi_hT (fun k => 1) M0 Z1 M2 b) := by
  match b, hb, hk with
  | .inl (v, D'), hb, _ =>
    refine MC.ofH (α := Unit) (L := fun _ => mi_hT (fun k => 1) M0 Z1 M2 (.inl (v, D'))) (o := some ()) (a := ()) rfl wP_L (Nat.le_of_ble_eq_true rfl) ?_ rfl
    show SgP _ m_L_move 0 [(3, 0), (0, a1), (0, a2), (0, a3), (0, a4), (27, 0), mi_un] [] _ _ _
    refine SgP.go (pc' := 2) (mi_aload dL_move_0 rfl) ?_
    refine SgP.go (pc' := 3) (mi_iconst (z := 0) dL_move_2 rfl) ?_
    refine SgP.go (pc' := 4) (mi_aload_n dL_move_3 rfl) ?_
    refine SgP.go (pc' := 5) (mi_iload_n dL_move_4 rfl) ?_
    refine SgP.go (pc' := 6) (mi_iload_n dL_move_5 rfl) ?_
    refine SgP.go (pc' := 7) (mi_iload_n dL_move_6 rfl) ?_
    refine SgP.go (pc' := 9) (mi_iload dL_move_7 rfl) ?_
    refine SgP.call (μ' := m_X10_move) (args := [(3, 0), (0, a1), (0, a2), (0, a3), (0, a4)]) (mi_invV (n := 4) (r := 1) dL_move_9 hC_1 (by omega) rfl rfl wN_X10_move rfl ⟨by decide, by decide⟩ wL_L_94 wI_X10_move wS_X10_move wB_X10 wC_X10_move) ((C_X10_move hL a1 a2 a3 a4 D1 _ hb).l1 hW hW rfl (fun _ => show (0 : Nat) < 2 by decide)) (show (1 : Nat) ≠ 2 by decide) (Nat.le_of_ble_eq_true rfl) ?_ rfl
    show SgP _ m_L_move 12 [(3, 0), (0, a1), (0, a2), (0, a3), (0, a4), (27, 0), mi_un] ((0, v) :: [(0, 0), (27, 0)]) (mi_cb M0 (D', Z1) M2) _ _
    refine SgP.go (pc' := 13) (mi_i2l dL_move_12) ?_
    refine SgP.goM (pc' := 14) (mi_lastoreG (r := 25) dL_move_13 rfl (by decide) (by decide) (by decide)) ?_
    rw [mi_cb_o]
    refine SgP.go (pc' := 21) (mi_goto (tgt := 21) dL_move_14 (by decide)) ?_
    refine SgP.go (pc' := 22) (mi_iconst (z := 0) dL_move_21 rfl) ?_
    exact SgP.ret (mi_ireturn dL_move_22 rfl (Or.inl rfl))
  | .inr (k, D'), hb, hk =>
    have h9 := hk _ rfl
    have h8 : k = 0 := by simpa using h9
    rcases h8 with rfl
    · refine MC.ofH (α := Unit) (L := fun _ => mi_hT (fun k => 1) M0 Z1 M2 (.inr (0, D'))) (o := some ()) (a := ()) rfl wP_L (Nat.le_of_ble_eq_true rfl) ?_ rfl
      show SgP _ m_L_move 0 [(3, 0), (0, a1), (0, a2), (0, a3), (0, a4), (27, 0), mi_un] [] _ _ _
      refine SgP.go (pc' := 2) (mi_aload dL_move_0 rfl) ?_
      refine SgP.go (pc' := 3) (mi_iconst (z := 0) dL_move_2 rfl) ?_
      refine SgP.go (pc' := 4) (mi_aload_n dL_move_3 rfl) ?_
      refine SgP.go (pc' := 5) (mi_iload_n dL_move_4 rfl) ?_
      refine SgP.go (pc' := 6) (mi_iload_n dL_move_5 rfl) ?_
      refine SgP.go (pc' := 7) (mi_iload_n dL_move_6 rfl) ?_
      refine SgP.go (pc' := 9) (mi_iload dL_move_7 rfl) ?_
      exact SgP.callH (h := 17) (z := 1) (a := ()) (μ' := m_X10_move) (args := [(3, 0), (0, a1), (0, a2), (0, a3), (0, a4)]) (mi_invV (n := 4) (r := 1) dL_move_9 hC_1 (by omega) rfl rfl wN_X10_move rfl ⟨by decide, by decide⟩ wL_L_94 wI_X10_move wS_X10_move wB_X10 wC_X10_move) ((C_X10_move hL a1 a2 a3 a4 D1 _ hb).l1 hW hW rfl (fun h => absurd h (show ¬ (2 : Nat) = 1 by decide))) rfl (Nat.le_of_ble_eq_true rfl) rfl (fun _ _ _ _ _ h => h) ⟨_, [], ⟨0, 14, 17, 13⟩, [], _, rfl, by decide, (fun z hz => by cases hz), by decide, by decide, rfl, wK_L_13, wX_0⟩ ⟨rfl, 19, 1, rfl, Or.inl ⟨6, dL_move_17, rfl, by decide⟩, dL_move_19, dL_move_20⟩ rfl
abbrev m_L_shape : MiI := (yL_shape, cL_shape, 6, (some .int), 8, some [(0, 12, 15, 13), (0, 12, 19, 15)])
set_option maxRecDepth 20000 in
theorem C_L_shape {Z1 : MiZ} (hL : CL Z1) (hW : mi_cw mi_s1 Z1) (a1 a2 a3 : Int) (D1 : MiD) (M0 M2 : MiM) (b : (Int × MiD) ⊕ (Nat × MiD)) (hb : B_X10_shape a1 a2 a3 D1 = some b) (hk : ∀ a, b = .inr a → (fun k => k == 0 || k == 1) a.1 = true) : MC m_L_shape [(3, 0), (0, a1), (0, a2), (0, a3), (27, 0)] (mi_cb M0 (D1, Z1) M2) (mi_hT (fun k => if k = 0 then 1 else 2) M0 Z1 M2 b) := by
  match b, hb, hk with
  | .inl (v, D'), hb, _ =>
    refine MC.ofH (α := Unit) (L := fun _ => mi_hT (fun k => if k = 0 then 1 else 2) M0 Z1 M2 (.inl (v, D'))) (o := some ()) (a := ()) rfl wP_L (Nat.le_of_ble_eq_true rfl) ?_ rfl
    show SgP _ m_L_shape 0 [(3, 0), (0, a1), (0, a2), (0, a3), (27, 0), mi_un] [] _ _ _
    refine SgP.go (pc' := 2) (mi_aload dL_shape_0 rfl) ?_
    refine SgP.go (pc' := 3) (mi_iconst (z := 0) dL_shape_2 rfl) ?_
    refine SgP.go (pc' := 4) (mi_aload_n dL_shape_3 rfl) ?_
    refine SgP.go (pc' := 5) (mi_iload_n dL_shape_4 rfl) ?_
    refine SgP.go (pc' := 6) (mi_iload_n dL_shape_5 rfl) ?_
    refine SgP.go (pc' := 7) (mi_iload_n dL_shape_6 rfl) ?_
    refine SgP.call (μ' := m_X10_shape) (args := [(3, 0), (0, a1), (0, a2), (0, a3)]) (mi_invV (n := 3) (r := 1) dL_shape_7 hC_1 (by omega) rfl rfl wN_X10_shape rfl ⟨by decide, by decide⟩ wL_L_97 wI_X10_shape wS_X10_shape wB_X10 wC_X10_shape) ((C_X10_shape hL a1 a2 a3 D1 _ hb).l1 hW hW rfl (fun _ => show (0 : Nat) < 2 by decide)) (show (1 : Nat) ≠ 2 by decide) (Nat.le_of_ble_eq_true rfl) ?_ rfl
    show SgP _ m_L_shape 10 [(3, 0), (0, a1), (0, a2), (0, a3), (27, 0), mi_un] ((0, v) :: [(0, 0), (27, 0)]) (mi_cb M0 (D', Z1) M2) _ _
    refine SgP.go (pc' := 11) (mi_i2l dL_shape_10) ?_
    refine SgP.goM (pc' := 12) (mi_lastoreG (r := 25) dL_shape_11 rfl (by decide) (by decide) (by decide)) ?_
    rw [mi_cb_o]
    refine SgP.go (pc' := 23) (mi_goto (tgt := 23) dL_shape_12 (by decide)) ?_
    refine SgP.go (pc' := 24) (mi_iconst (z := 0) dL_shape_23 rfl) ?_
    exact SgP.ret (mi_ireturn dL_shape_24 rfl (Or.inl rfl))
  | .inr (k, D'), hb, hk =>
    have h9 := hk _ rfl
    have h8 : k = 0 ∨ k = 1 := by simpa using h9
    rcases h8 with rfl | rfl
    · refine MC.ofH (α := Unit) (L := fun _ => mi_hT (fun k => if k = 0 then 1 else 2) M0 Z1 M2 (.inr (0, D'))) (o := some ()) (a := ()) rfl wP_L (Nat.le_of_ble_eq_true rfl) ?_ rfl
      show SgP _ m_L_shape 0 [(3, 0), (0, a1), (0, a2), (0, a3), (27, 0), mi_un] [] _ _ _
      refine SgP.go (pc' := 2) (mi_aload dL_shape_0 rfl) ?_
      refine SgP.go (pc' := 3) (mi_iconst (z := 0) dL_shape_2 rfl) ?_
      refine SgP.go (pc' := 4) (mi_aload_n dL_shape_3 rfl) ?_
      refine SgP.go (pc' := 5) (mi_iload_n dL_shape_4 rfl) ?_
      refine SgP.go (pc' := 6) (mi_iload_n dL_shape_5 rfl) ?_
      refine SgP.go (pc' := 7) (mi_iload_n dL_shape_6 rfl) ?_
      exact SgP.callH (h := 15) (z := 1) (a := ()) (μ' := m_X10_shape) (args := [(3, 0), (0, a1), (0, a2), (0, a3)]) (mi_invV (n := 3) (r := 1) dL_shape_7 hC_1 (by omega) rfl rfl wN_X10_shape rfl ⟨by decide, by decide⟩ wL_L_97 wI_X10_shape wS_X10_shape wB_X10 wC_X10_shape) ((C_X10_shape hL a1 a2 a3 D1 _ hb).l1 hW hW rfl (fun h => absurd h (show ¬ (2 : Nat) = 1 by decide))) rfl (Nat.le_of_ble_eq_true rfl) rfl (fun _ _ _ _ _ h => h) ⟨_, [], ⟨0, 12, 15, 13⟩, [⟨0, 12, 19, 15⟩], _, rfl, by decide, (fun z hz => by cases hz), by decide, by decide, rfl, wK_L_13, wX_0⟩ ⟨rfl, 17, 1, rfl, Or.inl ⟨5, dL_shape_15, rfl, by decide⟩, dL_shape_17, dL_shape_18⟩ rfl
    · refine MC.ofH (α := Unit) (L := fun _ => mi_hT (fun k => if k = 0 then 1 else 2) M0 Z1 M2 (.inr (1, D'))) (o := some ()) (a := ()) rfl wP_L (Nat.le_of_ble_eq_true rfl) ?_ rfl
      show SgP _ m_L_shape 0 [(3, 0), (0, a1), (0, a2), (0, a3), (27, 0), mi_un] [] _ _ _
      refine SgP.go (pc' := 2) (mi_aload dL_shape_0 rfl) ?_
      refine SgP.go (pc' := 3) (mi_iconst (z := 0) dL_shape_2 rfl) ?_
      refine SgP.go (pc' := 4) (mi_aload_n dL_shape_3 rfl) ?_
      refine SgP.go (pc' := 5) (mi_iload_n dL_shape_4 rfl) ?_
      refine SgP.go (pc' := 6) (mi_iload_n dL_shape_5 rfl) ?_
      refine SgP.go (pc' := 7) (mi_iload_n dL_shape_6 rfl) ?_
      exact SgP.callH (h := 19) (z := 2) (a := ()) (μ' := m_X10_shape) (args := [(3, 0), (0, a1), (0, a2), (0, a3)]) (mi_invV (n := 3) (r := 1) dL_shape_7 hC_1 (by omega) rfl rfl wN_X10_shape rfl ⟨by decide, by decide⟩ wL_L_97 wI_X10_shape wS_X10_shape wB_X10 wC_X10_shape) ((C_X10_shape hL a1 a2 a3 D1 _ hb).l1 hW hW rfl (fun h => absurd h (show ¬ (2 : Nat) = 1 by decide))) rfl (Nat.le_of_ble_eq_true rfl) rfl (fun _ _ _ _ _ h => h) ⟨_, [⟨0, 12, 15, 13⟩], ⟨0, 12, 19, 15⟩, [], _, rfl, by decide, (fun z hz => by
        rcases List.mem_cons.mp hz with rfl | hz
        · exact Or.inr ⟨by decide, _, wK_L_13, by show (mi_exn 1, _) ∈ mi_ncL; simp [mi_ncL, mi_exn]⟩
        cases hz), by decide, by decide, rfl, wK_L_15, wX_1⟩ ⟨rfl, 21, 2, rfl, Or.inl ⟨5, dL_shape_19, rfl, by decide⟩, dL_shape_21, dL_shape_22⟩ rfl
abbrev m_L_keep : MiI := (yL_keep, cL_keep, 6, (some .int), 8, some [(0, 12, 15, 13), (0, 12, 19, 15)])
set_option maxRecDepth 20000 in
theorem C_L_keep {Z1 : MiZ} (hL : CL Z1) (hW : mi_cw mi_s1 Z1) (a1 a2 a3 : Int) (D1 : MiD) (M0 M2 : MiM) (b : (Int × MiD) ⊕ (Nat × MiD)) (hb : B_X10_keep a1 a2 a3 D1 = some b) (hk : ∀ a, b = .inr a → (fun k => k == 0 || k == 1) a.1 = true) : MC m_L_keep [(3, 0), (0, a1), (0, a2), (0, a3), (27, 0)] (mi_cb M0 (D1, Z1) M2) (mi_hT (fun k => if k = 0 then 1 else 2) M0 Z1 M2 b) := by
  match b, hb, hk with
  | .inl (v, D'), hb, _ =>
    refine MC.ofH (α := Unit) (L := fun _ => mi_hT (fun k => if k = 0 then 1 else 2) M0 Z1 M2 (.inl (v, D'))) (o := some ()) (a := ()) rfl wP_L (Nat.le_of_ble_eq_true rfl) ?_ rfl
    show SgP _ m_L_keep 0 [(3, 0), (0, a1), (0, a2), (0, a3), (27, 0), mi_un] [] _ _ _
    refine SgP.go (pc' := 2) (mi_aload dL_keep_0 rfl) ?_
    refine SgP.go (pc' := 3) (mi_iconst (z := 0) dL_keep_2 rfl) ?_
    refine SgP.go (pc' := 4) (mi_aload_n dL_keep_3 rfl) ?_
    refine SgP.go (pc' := 5) (mi_iload_n dL_keep_4 rfl) ?_
    refine SgP.go (pc' := 6) (mi_iload_n dL_keep_5 rfl) ?_
    refine SgP.go (pc' := 7) (mi_iload_n dL_keep_6 rfl) ?_
    refine SgP.call (μ' := m_X10_keep) (args := [(3, 0), (0, a1), (0, a2), (0, a3)]) (mi_invV (n := 3) (r := 1) dL_keep_7 hC_1 (by omega) rfl rfl wN_X10_keep rfl ⟨by decide, by decide⟩ wL_L_100 wI_X10_keep wS_X10_keep wB_X10 wC_X10_keep) ((C_X10_keep hL a1 a2 a3 D1 _ hb).l1 hW hW rfl (fun _ => show (0 : Nat) < 2 by decide)) (show (1 : Nat) ≠ 2 by decide) (Nat.le_of_ble_eq_true rfl) ?_ rfl
    show SgP _ m_L_keep 10 [(3, 0), (0, a1), (0, a2), (0, a3), (27, 0), mi_un] ((0, v) :: [(0, 0), (27, 0)]) (mi_cb M0 (D', Z1) M2) _ _
    refine SgP.go (pc' := 11) (mi_i2l dL_keep_10) ?_
    refine SgP.goM (pc' := 12) (mi_lastoreG (r := 25) dL_keep_11 rfl (by decide) (by decide) (by decide)) ?_
    rw [mi_cb_o]
    refine SgP.go (pc' := 23) (mi_goto (tgt := 23) dL_keep_12 (by decide)) ?_
    refine SgP.go (pc' := 24) (mi_iconst (z := 0) dL_keep_23 rfl) ?_
    exact SgP.ret (mi_ireturn dL_keep_24 rfl (Or.inl rfl))
  | .inr (k, D'), hb, hk =>
    have h9 := hk _ rfl
    have h8 : k = 0 ∨ k = 1 := by simpa using h9
    rcases h8 with rfl | rfl
    · refine MC.ofH (α := Unit) (L := fun _ => mi_hT (fun k => if k = 0 then 1 else 2) M0 Z1 M2 (.inr (0, D'))) (o := some ()) (a := ()) rfl wP_L (Nat.le_of_ble_eq_true rfl) ?_ rfl
      show SgP _ m_L_keep 0 [(3, 0), (0, a1), (0, a2), (0, a3), (27, 0), mi_un] [] _ _ _
      refine SgP.go (pc' := 2) (mi_aload dL_keep_0 rfl) ?_
      refine SgP.go (pc' := 3) (mi_iconst (z := 0) dL_keep_2 rfl) ?_
      refine SgP.go (pc' := 4) (mi_aload_n dL_keep_3 rfl) ?_
      refine SgP.go (pc' := 5) (mi_iload_n dL_keep_4 rfl) ?_
      refine SgP.go (pc' := 6) (mi_iload_n dL_keep_5 rfl) ?_
      refine SgP.go (pc' := 7) (mi_iload_n dL_keep_6 rfl) ?_
      exact SgP.callH (h := 15) (z := 1) (a := ()) (μ' := m_X10_keep) (args := [(3, 0), (0, a1), (0, a2), (0, a3)]) (mi_invV (n := 3) (r := 1) dL_keep_7 hC_1 (by omega) rfl rfl wN_X10_keep rfl ⟨by decide, by decide⟩ wL_L_100 wI_X10_keep wS_X10_keep wB_X10 wC_X10_keep) ((C_X10_keep hL a1 a2 a3 D1 _ hb).l1 hW hW rfl (fun h => absurd h (show ¬ (2 : Nat) = 1 by decide))) rfl (Nat.le_of_ble_eq_true rfl) rfl (fun _ _ _ _ _ h => h) ⟨_, [], ⟨0, 12, 15, 13⟩, [⟨0, 12, 19, 15⟩], _, rfl, by decide, (fun z hz => by cases hz), by decide, by decide, rfl, wK_L_13, wX_0⟩ ⟨rfl, 17, 1, rfl, Or.inl ⟨5, dL_keep_15, rfl, by decide⟩, dL_keep_17, dL_keep_18⟩ rfl
    · refine MC.ofH (α := Unit) (L := fun _ => mi_hT (fun k => if k = 0 then 1 else 2) M0 Z1 M2 (.inr (1, D'))) (o := some ()) (a := ()) rfl wP_L (Nat.le_of_ble_eq_true rfl) ?_ rfl
      show SgP _ m_L_keep 0 [(3, 0), (0, a1), (0, a2), (0, a3), (27, 0), mi_un] [] _ _ _
      refine SgP.go (pc' := 2) (mi_aload dL_keep_0 rfl) ?_
      refine SgP.go (pc' := 3) (mi_iconst (z := 0) dL_keep_2 rfl) ?_
      refine SgP.go (pc' := 4) (mi_aload_n dL_keep_3 rfl) ?_
      refine SgP.go (pc' := 5) (mi_iload_n dL_keep_4 rfl) ?_
      refine SgP.go (pc' := 6) (mi_iload_n dL_keep_5 rfl) ?_
      refine SgP.go (pc' := 7) (mi_iload_n dL_keep_6 rfl) ?_
      exact SgP.callH (h := 19) (z := 2) (a := ()) (μ' := m_X10_keep) (args := [(3, 0), (0, a1), (0, a2), (0, a3)]) (mi_invV (n := 3) (r := 1) dL_keep_7 hC_1 (by omega) rfl rfl wN_X10_keep rfl ⟨by decide, by decide⟩ wL_L_100 wI_X10_keep wS_X10_keep wB_X10 wC_X10_keep) ((C_X10_keep hL a1 a2 a3 D1 _ hb).l1 hW hW rfl (fun h => absurd h (show ¬ (2 : Nat) = 1 by decide))) rfl (Nat.le_of_ble_eq_true rfl) rfl (fun _ _ _ _ _ h => h) ⟨_, [⟨0, 12, 15, 13⟩], ⟨0, 12, 19, 15⟩, [], _, rfl, by decide, (fun z hz => by
        rcases List.mem_cons.mp hz with rfl | hz
        · exact Or.inr ⟨by decide, _, wK_L_13, by show (mi_exn 1, _) ∈ mi_ncL; simp [mi_ncL, mi_exn]⟩
        cases hz), by decide, by decide, rfl, wK_L_15, wX_1⟩ ⟨rfl, 21, 2, rfl, Or.inl ⟨5, dL_keep_19, rfl, by decide⟩, dL_keep_21, dL_keep_22⟩ rfl
abbrev m_L_shapes : MiI := (yL_shapes, cL_shapes, 4, (some .int), 8, some [(0, 9, 12, 13)])
set_option maxRecDepth 20000 in
theorem C_L_shapes {Z1 : MiZ} (hL : CL Z1) (hW : mi_cw mi_s1 Z1) (a1 : Int) (D1 : MiD) (M0 M2 : MiM) (b : (Int × MiD) ⊕ (Nat × MiD)) (hb : B_X10_shapes a1 D1 = some b) (hk : ∀ a, b = .inr a → (fun k => k == 0) a.1 = true) : MC m_L_shapes [(3, 0), (0, a1), (27, 0)] (mi_cb M0 (D1, Z1) M2) (mi_hT (fun k => 1) M0 Z1 M2 b) := by
  match b, hb, hk with
  | .inl (v, D'), hb, _ =>
    refine MC.ofH (α := Unit) (L := fun _ => mi_hT (fun k => 1) M0 Z1 M2 (.inl (v, D'))) (o := some ()) (a := ()) rfl wP_L (Nat.le_of_ble_eq_true rfl) ?_ rfl
    show SgP _ m_L_shapes 0 [(3, 0), (0, a1), (27, 0), mi_un] [] _ _ _
    refine SgP.go (pc' := 1) (mi_aload_n dL_shapes_0 rfl) ?_
    refine SgP.go (pc' := 2) (mi_iconst (z := 0) dL_shapes_1 rfl) ?_
    refine SgP.go (pc' := 3) (mi_aload_n dL_shapes_2 rfl) ?_
    refine SgP.go (pc' := 4) (mi_iload_n dL_shapes_3 rfl) ?_
    refine SgP.call (μ' := m_X10_shapes) (args := [(3, 0), (0, a1)]) (mi_invV (n := 1) (r := 1) dL_shapes_4 hC_1 (by omega) rfl rfl wN_X10_shapes rfl ⟨by decide, by decide⟩ wL_L_103 wI_X10_shapes wS_X10_shapes wB_X10 wC_X10_shapes) ((C_X10_shapes hL a1 D1 _ hb).l1 hW hW rfl (fun _ => show (0 : Nat) < 2 by decide)) (show (1 : Nat) ≠ 2 by decide) (Nat.le_of_ble_eq_true rfl) ?_ rfl
    show SgP _ m_L_shapes 7 [(3, 0), (0, a1), (27, 0), mi_un] ((0, v) :: [(0, 0), (27, 0)]) (mi_cb M0 (D', Z1) M2) _ _
    refine SgP.go (pc' := 8) (mi_i2l dL_shapes_7) ?_
    refine SgP.goM (pc' := 9) (mi_lastoreG (r := 25) dL_shapes_8 rfl (by decide) (by decide) (by decide)) ?_
    rw [mi_cb_o]
    refine SgP.go (pc' := 15) (mi_goto (tgt := 15) dL_shapes_9 (by decide)) ?_
    refine SgP.go (pc' := 16) (mi_iconst (z := 0) dL_shapes_15 rfl) ?_
    exact SgP.ret (mi_ireturn dL_shapes_16 rfl (Or.inl rfl))
  | .inr (k, D'), hb, hk =>
    have h9 := hk _ rfl
    have h8 : k = 0 := by simpa using h9
    rcases h8 with rfl
    · refine MC.ofH (α := Unit) (L := fun _ => mi_hT (fun k => 1) M0 Z1 M2 (.inr (0, D'))) (o := some ()) (a := ()) rfl wP_L (Nat.le_of_ble_eq_true rfl) ?_ rfl
      show SgP _ m_L_shapes 0 [(3, 0), (0, a1), (27, 0), mi_un] [] _ _ _
      refine SgP.go (pc' := 1) (mi_aload_n dL_shapes_0 rfl) ?_
      refine SgP.go (pc' := 2) (mi_iconst (z := 0) dL_shapes_1 rfl) ?_
      refine SgP.go (pc' := 3) (mi_aload_n dL_shapes_2 rfl) ?_
      refine SgP.go (pc' := 4) (mi_iload_n dL_shapes_3 rfl) ?_
      exact SgP.callH (h := 12) (z := 1) (a := ()) (μ' := m_X10_shapes) (args := [(3, 0), (0, a1)]) (mi_invV (n := 1) (r := 1) dL_shapes_4 hC_1 (by omega) rfl rfl wN_X10_shapes rfl ⟨by decide, by decide⟩ wL_L_103 wI_X10_shapes wS_X10_shapes wB_X10 wC_X10_shapes) ((C_X10_shapes hL a1 D1 _ hb).l1 hW hW rfl (fun h => absurd h (show ¬ (2 : Nat) = 1 by decide))) rfl (Nat.le_of_ble_eq_true rfl) rfl (fun _ _ _ _ _ h => h) ⟨_, [], ⟨0, 9, 12, 13⟩, [], _, rfl, by decide, (fun z hz => by cases hz), by decide, by decide, rfl, wK_L_13, wX_0⟩ ⟨rfl, 13, 1, rfl, Or.inr ⟨3, dL_shapes_12, rfl, by decide⟩, dL_shapes_13, dL_shapes_14⟩ rfl
abbrev m_L_same : MiI := (yL_same, cL_same, 5, (some .int), 8, some [(0, 10, 13, 13)])
set_option maxRecDepth 20000 in
theorem C_L_same {Z1 : MiZ} (hL : CL Z1) (hW : mi_cw mi_s1 Z1) (a1 a2 : Int) (D1 : MiD) (M0 M2 : MiM) (b : (Int × MiD) ⊕ (Nat × MiD)) (hb : B_X10_same a1 a2 D1 = some b) (hk : ∀ a, b = .inr a → (fun k => k == 0) a.1 = true) : MC m_L_same [(3, 0), (0, a1), (0, a2), (27, 0)] (mi_cb M0 (D1, Z1) M2) (mi_hT (fun k => 1) M0 Z1 M2 b) := by
  match b, hb, hk with
  | .inl (v, D'), hb, _ =>
    refine MC.ofH (α := Unit) (L := fun _ => mi_hT (fun k => 1) M0 Z1 M2 (.inl (v, D'))) (o := some ()) (a := ()) rfl wP_L (Nat.le_of_ble_eq_true rfl) ?_ rfl
    show SgP _ m_L_same 0 [(3, 0), (0, a1), (0, a2), (27, 0), mi_un] [] _ _ _
    refine SgP.go (pc' := 1) (mi_aload_n dL_same_0 rfl) ?_
    refine SgP.go (pc' := 2) (mi_iconst (z := 0) dL_same_1 rfl) ?_
    refine SgP.go (pc' := 3) (mi_aload_n dL_same_2 rfl) ?_
    refine SgP.go (pc' := 4) (mi_iload_n dL_same_3 rfl) ?_
    refine SgP.go (pc' := 5) (mi_iload_n dL_same_4 rfl) ?_
    refine SgP.call (μ' := m_X10_same) (args := [(3, 0), (0, a1), (0, a2)]) (mi_invV (n := 2) (r := 1) dL_same_5 hC_1 (by omega) rfl rfl wN_X10_same rfl ⟨by decide, by decide⟩ wL_L_106 wI_X10_same wS_X10_same wB_X10 wC_X10_same) ((C_X10_same hL a1 a2 D1 _ hb).l1 hW hW rfl (fun _ => show (0 : Nat) < 2 by decide)) (show (1 : Nat) ≠ 2 by decide) (Nat.le_of_ble_eq_true rfl) ?_ rfl
    show SgP _ m_L_same 8 [(3, 0), (0, a1), (0, a2), (27, 0), mi_un] ((0, v) :: [(0, 0), (27, 0)]) (mi_cb M0 (D', Z1) M2) _ _
    refine SgP.go (pc' := 9) (mi_i2l dL_same_8) ?_
    refine SgP.goM (pc' := 10) (mi_lastoreG (r := 25) dL_same_9 rfl (by decide) (by decide) (by decide)) ?_
    rw [mi_cb_o]
    refine SgP.go (pc' := 17) (mi_goto (tgt := 17) dL_same_10 (by decide)) ?_
    refine SgP.go (pc' := 18) (mi_iconst (z := 0) dL_same_17 rfl) ?_
    exact SgP.ret (mi_ireturn dL_same_18 rfl (Or.inl rfl))
  | .inr (k, D'), hb, hk =>
    have h9 := hk _ rfl
    have h8 : k = 0 := by simpa using h9
    rcases h8 with rfl
    · refine MC.ofH (α := Unit) (L := fun _ => mi_hT (fun k => 1) M0 Z1 M2 (.inr (0, D'))) (o := some ()) (a := ()) rfl wP_L (Nat.le_of_ble_eq_true rfl) ?_ rfl
      show SgP _ m_L_same 0 [(3, 0), (0, a1), (0, a2), (27, 0), mi_un] [] _ _ _
      refine SgP.go (pc' := 1) (mi_aload_n dL_same_0 rfl) ?_
      refine SgP.go (pc' := 2) (mi_iconst (z := 0) dL_same_1 rfl) ?_
      refine SgP.go (pc' := 3) (mi_aload_n dL_same_2 rfl) ?_
      refine SgP.go (pc' := 4) (mi_iload_n dL_same_3 rfl) ?_
      refine SgP.go (pc' := 5) (mi_iload_n dL_same_4 rfl) ?_
      exact SgP.callH (h := 13) (z := 1) (a := ()) (μ' := m_X10_same) (args := [(3, 0), (0, a1), (0, a2)]) (mi_invV (n := 2) (r := 1) dL_same_5 hC_1 (by omega) rfl rfl wN_X10_same rfl ⟨by decide, by decide⟩ wL_L_106 wI_X10_same wS_X10_same wB_X10 wC_X10_same) ((C_X10_same hL a1 a2 D1 _ hb).l1 hW hW rfl (fun h => absurd h (show ¬ (2 : Nat) = 1 by decide))) rfl (Nat.le_of_ble_eq_true rfl) rfl (fun _ _ _ _ _ h => h) ⟨_, [], ⟨0, 10, 13, 13⟩, [], _, rfl, by decide, (fun z hz => by cases hz), by decide, by decide, rfl, wK_L_13, wX_0⟩ ⟨rfl, 15, 1, rfl, Or.inl ⟨4, dL_same_13, rfl, by decide⟩, dL_same_15, dL_same_16⟩ rfl
end MiH1
