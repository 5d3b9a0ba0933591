/-! ===== the law from its entry ===== -/
theorem wK_L_8 : Cond.classLink RL 8 RX10 ∈ mi_tb := mi_tbI 120 (by decide +kernel) rfl
theorem wG_X10 : Cond.instantiable RX10 9 ∈ mi_tb := mi_tbI 121 (by decide +kernel) rfl
theorem hN_1 : (∀ j, j < 9 → defaultValue (tyX10 j) = vp_V ([.null, .int 0, .int 0, .int 0, .null, .null, .int 0, .int 0, .int 0] : List Value) j) ∧ ([.null, .int 0, .int 0, .int 0, .null, .null, .int 0, .int 0, .int 0] : List Value).length = 9 ∧ ∀ q, q < 9 → (mi_rt 1 q = 0 ∧ vp_V ([.null, .int 0, .int 0, .int 0, .null, .null, .int 0, .int 0, .int 0] : List Value) q = .int 0) ∨ (mi_rt 1 q = 1 ∧ vp_V ([.null, .int 0, .int 0, .int 0, .null, .null, .int 0, .int 0, .int 0] : List Value) q = .long 0) ∨ (2 ≤ mi_rt 1 q ∧ vp_V ([.null, .int 0, .int 0, .int 0, .null, .null, .int 0, .int 0, .int 0] : List Value) q = .null) := by decide +kernel
theorem wK_L_110 : Cond.classLink RL 110 RX11 ∈ mi_tb := mi_tbI 1271 (by decide +kernel) rfl
theorem wG_X11 : Cond.instantiable RX11 30 ∈ mi_tb := mi_tbI 1272 (by decide +kernel) rfl
theorem hN_40 : (∀ j, j < 30 → defaultValue (tyX11 j) = vp_V ([.int 0, .null, .int 0, .int 0, .int 0, .int 0, .int 0, .int 0, .null, .null, .null, .int 0, .null, .null, .null, .null, .null, .null, .null, .null, .null, .null, .null, .null, .null, .int 0, .long 0, .null, .null, .int 0] : List Value) j) ∧ ([.int 0, .null, .int 0, .int 0, .int 0, .int 0, .int 0, .int 0, .null, .null, .null, .int 0, .null, .null, .null, .null, .null, .null, .null, .null, .null, .null, .null, .null, .null, .int 0, .long 0, .null, .null, .int 0] : List Value).length = 30 ∧ ∀ q, q < 30 → (mi_rt 40 q = 0 ∧ vp_V ([.int 0, .null, .int 0, .int 0, .int 0, .int 0, .int 0, .int 0, .null, .null, .null, .int 0, .null, .null, .null, .null, .null, .null, .null, .null, .null, .null, .null, .null, .null, .int 0, .long 0, .null, .null, .int 0] : List Value) q = .int 0) ∨ (mi_rt 40 q = 1 ∧ vp_V ([.int 0, .null, .int 0, .int 0, .int 0, .int 0, .int 0, .int 0, .null, .null, .null, .int 0, .null, .null, .null, .null, .null, .null, .null, .null, .null, .null, .null, .null, .null, .int 0, .long 0, .null, .null, .int 0] : List Value) q = .long 0) ∨ (2 ≤ mi_rt 40 q ∧ vp_V ([.int 0, .null, .int 0, .int 0, .int 0, .int 0, .int 0, .int 0, .null, .null, .null, .int 0, .null, .null, .null, .null, .null, .null, .null, .null, .null, .null, .null, .null, .null, .int 0, .long 0, .null, .null, .int 0] : List Value) q = .null) := by decide +kernel
theorem wN_X10_init : MiN yX10_init 0 := ⟨by decide +kernel, by decide +kernel, by decide +kernel⟩
theorem wC_X10_init : Cond.code yX10_init cX10_init 1 none ∈ mi_tb := mi_tbI 124 (by decide +kernel) rfl
theorem wL_L_109 : Cond.methodLink RL 109 yX10_init ∈ mi_tb := mi_tbI 122 (by decide +kernel) rfl
theorem wI_X10_init : Cond.instanceMethod yX10_init ∈ mi_tb := mi_tbI 123 (by decide +kernel) rfl
theorem wN_X11_init : MiN yX11_init 0 := ⟨by decide +kernel, by decide +kernel, by decide +kernel⟩
theorem wC_X11_init : Cond.code yX11_init cX11_init 2 none ∈ mi_tb := mi_tbI 1275 (by decide +kernel) rfl
theorem wL_L_112 : Cond.methodLink RL 112 yX11_init ∈ mi_tb := mi_tbI 1273 (by decide +kernel) rfl
theorem wI_X11_init : Cond.instanceMethod yX11_init ∈ mi_tb := mi_tbI 1274 (by decide +kernel) rfl
theorem mi_cw_nw {S : Nat → Bool} {M : MiM} {r n : Nat} (h : mi_cw S M.2) (hs : S r = true) (hr : mi_rk r < 9) : mi_cw S (mi_nw M r n).2 := by
  refine ⟨fun q h1 h2 => ?_, fun q h1 => ?_⟩
  · show (if q = r then _ else M.2.2 q) ≤ 0
    rw [if_neg (by rintro rfl; rw [hs] at h1; cases h1)]
    exact h.1 q h1 h2
  · show (if q = r then _ else M.2.2 q) = _
    rw [if_neg (by rintro rfl; omega)]
    exact h.2 q h1
noncomputable def B_L_law (L : Nat) (xs : Nat → Int32) (M0 M1 M2 : MiM) : Option (Int × (MiM × (MiM × MiM))) := mi_bw (B_X10_init (mi_nw M1 1 9).1 (mi_nw M1 1 9).2) fun D1 Z1 => mi_req (mi_cw mi_s1 Z1) (mi_bw (B_X11_init (mi_nw M2 40 30).1 (mi_nw M2 40 30).2) fun D2 Z2 => mi_req (mi_cw mi_s2 Z2) (mi_req (ML Z2) (B_L_loop L xs Z2 mi_fuel 0 (mi_nw M0 25 1) D1 Z1 D2)))
set_option maxRecDepth 20000 in
theorem S_L_law {L : Nat} {xs : Nat → Int32} (hL3 : L ≤ 3072) {M0 M1 M2 : MiM} (h0 : M0.2.2 25 = 0) (h1 : M1.2.2 1 = 0) (h2 : M2.2.2 40 = 0) (hW1 : mi_cw mi_s1 M1.2) (hW2 : mi_cw mi_s2 M2.2) : SgP (mi_lP L xs) m_L_law 0 [(35, 0), mi_un, mi_un, mi_un, mi_un, mi_un, mi_un, mi_un] [] (mi_cb M0 M1 M2) (fun q => ((1, (0, q.1)), mi_cb q.2.1 q.2.2.1 q.2.2.2)) (B_L_law L xs M0 M1 M2) := by
  unfold B_L_law
  have e1 : (mi_cb M0 M1 M2).2.2 1 = 0 := (mi_cb_c1 rfl).trans h1
  refine SgP.goA (pc' := 3) (r := 1) (n := 9) (mi_new (r := 1) dL_law_0 hC_1 wK_L_8 wG_X10 wB_X10 hN_1.1 hN_1.2.1 hN_1.2.2) (by rw [e1]; decide) (by decide) ?_
  rw [e1, mi_cb_n1 rfl]
  refine SgP.go (pc' := 4) (mi_dup dL_law_3 (show (3 : Nat) ≠ 1 by decide)) ?_
  refine SgP.callW1 (D1 := (mi_nw M1 1 9).1) (Z1 := (mi_nw M1 1 9).2) (pc' := 7) (μ' := m_X10_init) (args := [(3, 0)]) (mi_invI (n := 0) (r := 1) dL_law_4 (by omega) rfl rfl rfl wN_X10_init rfl ⟨by decide, by decide⟩ wL_L_109 wI_X10_init wB_X10 wC_X10_init) (fun v hv => C_X10_init trivial _ v hv) (mi_cw_nw hW1 rfl (by decide)) rfl (Nat.le_of_ble_eq_true rfl) rfl rfl (fun D1 Z1 hW => ?_)
  refine SgP.go (pc' := 8) (mi_astore_n (ls1 := [(35, 0), (3, 0), mi_un, mi_un, mi_un, mi_un, mi_un, mi_un]) dL_law_7 (by decide) rfl) ?_
  have e2 : (mi_cb M0 (D1, Z1) M2).2.2 40 = 0 := (mi_cb_c2 rfl).trans h2
  refine SgP.goA (pc' := 11) (r := 40) (n := 30) (mi_new (r := 40) dL_law_8 hC_40 wK_L_110 wG_X11 wB_X11 hN_40.1 hN_40.2.1 hN_40.2.2) (by rw [e2]; decide) (by decide) ?_
  rw [e2, mi_cb_n2 rfl]
  refine SgP.go (pc' := 12) (mi_dup dL_law_11 (show (42 : Nat) ≠ 1 by decide)) ?_
  refine SgP.callW2 (D2 := (mi_nw M2 40 30).1) (Z2 := (mi_nw M2 40 30).2) (pc' := 15) (μ' := m_X11_init) (args := [(42, 0)]) (mi_invI (n := 0) (r := 40) dL_law_12 (by omega) rfl rfl rfl wN_X11_init rfl ⟨by decide, by decide⟩ wL_L_112 wI_X11_init wB_X11 wC_X11_init) (fun v hv => C_X11_init trivial _ v hv) (mi_cw_nw hW2 rfl (by decide)) rfl (Nat.le_of_ble_eq_true rfl) rfl rfl (fun D2 Z2 hW' => ?_)
  refine SgP.rq (fun hL2 => ?_)
  refine SgP.go (pc' := 16) (mi_astore_n (ls1 := [(35, 0), (3, 0), (42, 0), mi_un, mi_un, mi_un, mi_un, mi_un]) dL_law_15 (by decide) rfl) ?_
  refine SgP.go (pc' := 17) (mi_iconst (z := 1) dL_law_16 rfl) ?_
  have e3 : (mi_cb M0 (D1, Z1) (D2, Z2)).2.2 25 = 0 := h0
  refine SgP.goA (pc' := 19) (r := 25) (n := 1) (mi_newarrJ (r := 25) dL_law_17 rfl wA_long rfl rfl (by decide)) (by rw [e3]; decide) (by decide) ?_
  rw [e3, mi_cb_n0]
  refine SgP.go (pc' := 20) (mi_astore_n (ls1 := [(35, 0), (3, 0), (42, 0), (27, 0), mi_un, mi_un, mi_un, mi_un]) dL_law_19 (by decide) rfl) ?_
  refine SgP.go (pc' := 21) (mi_iconst (z := 0) dL_law_20 rfl) ?_
  refine SgP.go (pc' := 23) (mi_istore (ls1 := [(35, 0), (3, 0), (42, 0), (27, 0), (0, 0), mi_un, mi_un, mi_un]) dL_law_21 (by decide) rfl) ?_
  exact S_L_loop hL3 hL2 hW' mi_fuel 0 _ D1 Z1 D2
