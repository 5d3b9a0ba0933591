theorem pu_go {Z : MiZ} {D1 D2 : MiD} {n : Int} (h : pu_L Z D1 D2) : pu_ans pu_o1 Z D1 D2 (B_X10_go Z n D1) (B_X11_go n D2) := by
  by_cases c : 1 ≤ n ∧ n ≤ 60
  · exact pu_go_yes h c
  · exact pu_go_no h c
abbrev pu_KT : Type := Int → MiM → MiD → MiZ → MiD → Option (Int × (MiM × (MiM × MiM)))
def pu_sO (k : pu_KT) (i : Int) (M0 : MiM) (D1 : MiD) (Z1 : MiZ) (D2 : MiD) (o : Option (Int × (MiM × (MiM × MiM)))) : Prop :=
  ∃ (M : MiM) (E : MiD) (Z : MiZ) (G : MiD), o = k (mi_w (i + 6)) M E Z G ∧ pu_LL Z E G ∧ (∀ j : Int, M.1 0 0 j = M0.1 0 0 j) ∧ E 0 0 0 ≤ D1 0 0 0 + 400 ∧ E 0 0 1 ≤ D1 0 0 1 + 3000 ∧ ∀ j : Int, G 0 0 j = D2 0 0 j
theorem pu_LL.l' {Z : MiZ} {D1 D2 E G : MiD} (h : pu_LL Z D1 D2) (l : pu_L Z E G) : pu_LL Z E G := ⟨l, h.zb, h.cl, h.cw, h.n6, h.n7, h.n8, h.n9, h.n23, h.n24⟩
theorem pw_out {M0 : MiM} {v : Int} : (∀ j : Int, (mi_pD M0 25 0 0 v).1 0 0 j = M0.1 0 0 j) ∧ (mi_pD M0 25 0 0 v).1 25 0 0 = v := by
  refine ⟨fun j => ?_, ?_⟩
  · show mi_st M0.1 25 0 0 v 0 0 j = _
    rw [pu_st, if_neg (by omega)]
  · show mi_st M0.1 25 0 0 v 25 0 0 = _
    rw [pu_st_eq]
theorem pu_caseT {k : pu_KT} {i : Int} {M0 : MiM} {D1 : MiD} {Z1 Z2 : MiZ} {D2 : MiD} {mp : Nat → Int} {rg : Nat → Bool} {ps : Nat → Int} {a : Option ((Int × MiD) ⊕ (Nat × MiD))} {b : Option (Int × MiD)} (h : pu_LL Z1 D1 D2) (an : pu_ans mp Z1 D1 D2 a b) (hr : ∀ n : Nat, n < 3 → mp n ≠ 0 → rg n = true ∧ ps n = mp n) :
    pu_sO k i M0 D1 Z1 D2 (mi_bhT a rg ps M0 fun y Mx Dx => mi_b2 b fun y6 Dx7 => mi_bi (B_X11_thrown Dx7) fun y8 => if y8 = y then (if y ≠ 0 then (k (mi_w (i + 6)) Mx Dx Z1 Dx7) else (if (mi_cmp (Mx.1 25 0 0) y6) = 0 then (k (mi_w (i + 6)) Mx Dx Z1 Dx7) else (some (0, (Mx, ((Dx, Z1), (Dx7, Z2))))))) else (some (0, (Mx, ((Dx, Z1), (Dx7, Z2)))))) := by
  rcases an with ⟨v, E, G, rfl, rfl, g0, l, e1, e2⟩ | ⟨n, E, v, G, rfl, rfl, g0, n0, n3, l, e1, e2, e3⟩
  · refine ⟨mi_pD M0 25 0 0 v, E, Z1, G, ?_, h.l' l, pw_out.1, by rw [e1]; omega, by rw [e1]; omega, e2⟩
    show (mi_bi (B_X11_thrown G) fun y8 => if y8 = 0 then _ else _) = _
    unfold B_X11_thrown
    rw [pu_biE, if_pos g0, if_neg (show ¬ ((0 : Int) ≠ 0) by decide), if_pos (pu_cmp_0.mpr pw_out.2)]
  · obtain ⟨r1, r2⟩ := hr n n3 n0
    refine ⟨M0, E, Z1, G, ?_, h.l' l, fun _ => rfl, by omega, by omega, e3⟩
    show (if rg n = true then (mi_bi (B_X11_thrown G) fun y8 => if y8 = ps n then _ else _) else none) = _
    unfold B_X11_thrown
    rw [if_pos r1, pu_biE, if_pos (by rw [g0, r2]), if_pos (by rw [r2]; exact n0)]
theorem pu_caseQ {k : pu_KT} {i : Int} {M0 : MiM} {D1 : MiD} {Z1 Z2 : MiZ} {D2 : MiD} {mp : Nat → Int} {rg : Nat → Bool} {ps : Nat → Int} {a : Option ((Int × MiM) ⊕ (Nat × MiM))} {b : Option (Int × MiD)} (h : pu_LL Z1 D1 D2) (an : pu_qns mp Z1 D1 D2 a b) (hr : ∀ n : Nat, n < 3 → mp n ≠ 0 → rg n = true ∧ ps n = mp n) :
    pu_sO k i M0 D1 Z1 D2 (mi_bhQ a rg ps M0 fun y Mx Dx Zx => mi_b2 b fun y6 Dx7 => mi_bi (B_X11_thrown Dx7) fun y8 => if y8 = y then (if y ≠ 0 then (k (mi_w (i + 6)) Mx Dx Zx Dx7) else (if (mi_cmp (Mx.1 25 0 0) y6) = 0 then (k (mi_w (i + 6)) Mx Dx Zx Dx7) else (some (0, (Mx, ((Dx, Zx), (Dx7, Z2))))))) else (some (0, (Mx, ((Dx, Zx), (Dx7, Z2)))))) := by
  rcases an with ⟨v, E, Z', G, rfl, rfl, g0, l, e1, e2, e3⟩ | ⟨n, E, v, G, rfl, rfl, g0, n0, n3, l, e1, e2, e3⟩
  · refine ⟨mi_pD M0 25 0 0 v, E, Z', G, ?_, l, pw_out.1, e1, e2, e3⟩
    show mi_req (mi_cw mi_s1 Z') (mi_bi (B_X11_thrown G) fun y8 => if y8 = 0 then _ else _) = _
    unfold B_X11_thrown
    rw [mi_req_t l.cw, pu_biE, if_pos g0, if_neg (show ¬ ((0 : Int) ≠ 0) by decide), if_pos (pu_cmp_0.mpr pw_out.2)]
  · obtain ⟨r1, r2⟩ := hr n n3 n0
    refine ⟨M0, E, Z1, G, ?_, h.l' l, fun _ => rfl, by omega, by omega, e3⟩
    show (if rg n = true then mi_req (mi_cw mi_s1 Z1) (mi_bi (B_X11_thrown G) fun y8 => if y8 = ps n then _ else _) else none) = _
    unfold B_X11_thrown
    rw [if_pos r1, mi_req_t h.cw, pu_biE, if_pos (by rw [g0, r2]), if_pos (by rw [r2]; exact n0)]
theorem pu_case0 {k : pu_KT} {i : Int} {M0 : MiM} {D1 : MiD} {Z1 Z2 : MiZ} {D2 : MiD} {a : Option Int} {b : Option (Int × MiD)} (h : pu_LL Z1 D1 D2) (an : pu_an0 Z1 D1 D2 a b) :
    pu_sO k i M0 D1 Z1 D2 (mi_bi a fun y1 => mi_b2 b fun y2 Dx3 => if y1 = y2 then (k (mi_w (i + 6)) M0 D1 Z1 Dx3) else (some (0, (M0, ((D1, Z1), (Dx3, Z2)))))) := by
  obtain ⟨v, rfl, rfl⟩ := an
  refine ⟨M0, D1, Z1, mi_st D2 40 0 0 0, ?_, h.l' h.l.z, fun _ => rfl, by omega, by omega, fun j => by rw [pu_st, if_neg (by omega)]⟩
  rw [pu_biE, pu_b2E, if_pos rfl]
theorem pu_L0 {L : Nat} {xs : Nat → Int32} {Z2 : MiZ} {k : pu_KT} {i : Int} {M0 : MiM} {D1 : MiD} {Z1 : MiZ} {D2 : MiD} (h : pu_LL Z1 D1 D2) (i0 : 0 ≤ i) (i1 : i + 6 ≤ (L : Int)) (hL : L ≤ 3072) : pu_sO k i M0 D1 Z1 D2 (B_L_case0 L xs Z2 k i M0 D1 Z1 D2) := by
  have c1 : 0 ≤ mi_w (i + 1) ∧ mi_w (i + 1) < (L : Int) := by rw [pu_w (by omega) (by omega)]; omega
  have c2 : 0 ≤ mi_w (i + 2) ∧ mi_w (i + 2) < (L : Int) := by rw [pu_w (by omega) (by omega)]; omega
  have c3 : 0 ≤ mi_w (i + 3) ∧ mi_w (i + 3) < (L : Int) := by rw [pu_w (by omega) (by omega)]; omega
  have c4 : 0 ≤ mi_w (i + 4) ∧ mi_w (i + 4) < (L : Int) := by rw [pu_w (by omega) (by omega)]; omega
  have c5 : 0 ≤ mi_w (i + 5) ∧ mi_w (i + 5) < (L : Int) := by rw [pu_w (by omega) (by omega)]; omega
  unfold B_L_case0
  rw [if_pos c1, if_pos c2, if_pos c3, if_pos c4, if_pos c5]
  obtain ⟨v, E, G, r1, r2, l, e1, e2⟩ := pu_feed (v1 := (xs (mi_w (i + 1)).toNat).toInt) (v2 := (xs (mi_w (i + 2)).toNat).toInt) (v3 := (xs (mi_w (i + 3)).toNat).toInt) (v4 := (xs (mi_w (i + 4)).toNat).toInt) (v5 := (xs (mi_w (i + 5)).toNat).toInt) h.l
  rw [r1, r2]
  refine ⟨M0, E, Z1, G, ?_, h.l' l, fun _ => rfl, by rw [e1]; omega, by rw [e1]; omega, e2⟩
  rw [pu_b2E, pu_b2E, if_pos rfl]
theorem pu_L1 {L : Nat} {xs : Nat → Int32} {Z2 : MiZ} {k : pu_KT} {i : Int} {M0 : MiM} {D1 : MiD} {Z1 : MiZ} {D2 : MiD} (h : pu_LL Z1 D1 D2) (i0 : 0 ≤ i) (i1 : i + 6 ≤ (L : Int)) (hL : L ≤ 3072) : pu_sO k i M0 D1 Z1 D2 (B_L_case1 L xs Z2 k i M0 D1 Z1 D2) := by
  have c1 : 0 ≤ mi_w (i + 1) ∧ mi_w (i + 1) < (L : Int) := by rw [pu_w (by omega) (by omega)]; omega
  have c2 : 0 ≤ mi_w (i + 2) ∧ mi_w (i + 2) < (L : Int) := by rw [pu_w (by omega) (by omega)]; omega
  unfold B_L_case1
  rw [if_pos c1, if_pos c2]
  exact pu_caseQ h (pu_function h) (by intro n hn h0; have : n = 0 ∨ n = 1 ∨ n = 2 := (by omega); rcases this with rfl | rfl | rfl <;> first | exact ⟨rfl, rfl⟩ | exact absurd rfl h0)
theorem pu_L2 {L : Nat} {xs : Nat → Int32} {Z2 : MiZ} {k : pu_KT} {i : Int} {M0 : MiM} {D1 : MiD} {Z1 : MiZ} {D2 : MiD} (h : pu_LL Z1 D1 D2) (i0 : 0 ≤ i) (i1 : i + 6 ≤ (L : Int)) (hL : L ≤ 3072) : pu_sO k i M0 D1 Z1 D2 (B_L_case2 L xs Z2 k i M0 D1 Z1 D2) := by
  have c1 : 0 ≤ mi_w (i + 1) ∧ mi_w (i + 1) < (L : Int) := by rw [pu_w (by omega) (by omega)]; omega
  unfold B_L_case2
  rw [if_pos c1]
  exact pu_caseQ h (pu_patch h) (by intro n hn h0; have : n = 0 ∨ n = 1 ∨ n = 2 := (by omega); rcases this with rfl | rfl | rfl <;> first | exact ⟨rfl, rfl⟩ | exact absurd rfl h0)
theorem pu_L3 {L : Nat} {xs : Nat → Int32} {Z2 : MiZ} {k : pu_KT} {i : Int} {M0 : MiM} {D1 : MiD} {Z1 : MiZ} {D2 : MiD} (h : pu_LL Z1 D1 D2) (i0 : 0 ≤ i) (i1 : i + 6 ≤ (L : Int)) (hL : L ≤ 3072) : pu_sO k i M0 D1 Z1 D2 (B_L_case3 L xs Z2 k i M0 D1 Z1 D2) := by
  unfold B_L_case3
  exact pu_case0 h (pu_fault h.l)
theorem pu_L4 {L : Nat} {xs : Nat → Int32} {Z2 : MiZ} {k : pu_KT} {i : Int} {M0 : MiM} {D1 : MiD} {Z1 : MiZ} {D2 : MiD} (h : pu_LL Z1 D1 D2) (i0 : 0 ≤ i) (i1 : i + 6 ≤ (L : Int)) (hL : L ≤ 3072) : pu_sO k i M0 D1 Z1 D2 (B_L_case4 L xs Z2 k i M0 D1 Z1 D2) := by
  have c1 : 0 ≤ mi_w (i + 1) ∧ mi_w (i + 1) < (L : Int) := by rw [pu_w (by omega) (by omega)]; omega
  have c2 : 0 ≤ mi_w (i + 2) ∧ mi_w (i + 2) < (L : Int) := by rw [pu_w (by omega) (by omega)]; omega
  have c3 : 0 ≤ mi_w (i + 3) ∧ mi_w (i + 3) < (L : Int) := by rw [pu_w (by omega) (by omega)]; omega
  unfold B_L_case4
  rw [if_pos c1, if_pos c2, if_pos c3]
  exact pu_caseT h (pu_datum h.l) (by intro n hn h0; have : n = 0 ∨ n = 1 ∨ n = 2 := (by omega); rcases this with rfl | rfl | rfl <;> first | exact ⟨rfl, rfl⟩ | exact absurd rfl h0)
theorem pu_L5 {L : Nat} {xs : Nat → Int32} {Z2 : MiZ} {k : pu_KT} {i : Int} {M0 : MiM} {D1 : MiD} {Z1 : MiZ} {D2 : MiD} (h : pu_LL Z1 D1 D2) (i0 : 0 ≤ i) (i1 : i + 6 ≤ (L : Int)) (hL : L ≤ 3072) : pu_sO k i M0 D1 Z1 D2 (B_L_case5 L xs Z2 k i M0 D1 Z1 D2) := by
  have c1 : 0 ≤ mi_w (i + 1) ∧ mi_w (i + 1) < (L : Int) := by rw [pu_w (by omega) (by omega)]; omega
  have c2 : 0 ≤ mi_w (i + 2) ∧ mi_w (i + 2) < (L : Int) := by rw [pu_w (by omega) (by omega)]; omega
  unfold B_L_case5
  rw [if_pos c1, if_pos c2]
  exact pu_caseT h (pu_start h.l) (by intro n hn h0; have : n = 0 ∨ n = 1 ∨ n = 2 := (by omega); rcases this with rfl | rfl | rfl <;> first | exact ⟨rfl, rfl⟩ | exact absurd rfl h0)
theorem pu_L6 {L : Nat} {xs : Nat → Int32} {Z2 : MiZ} {k : pu_KT} {i : Int} {M0 : MiM} {D1 : MiD} {Z1 : MiZ} {D2 : MiD} (h : pu_LL Z1 D1 D2) (i0 : 0 ≤ i) (i1 : i + 6 ≤ (L : Int)) (hL : L ≤ 3072) : pu_sO k i M0 D1 Z1 D2 (B_L_case6 L xs Z2 k i M0 D1 Z1 D2) := by
  have c1 : 0 ≤ mi_w (i + 1) ∧ mi_w (i + 1) < (L : Int) := by rw [pu_w (by omega) (by omega)]; omega
  unfold B_L_case6
  rw [if_pos c1]
  exact pu_caseT h (pu_step h.l) (by intro n hn h0; have : n = 0 ∨ n = 1 ∨ n = 2 := (by omega); rcases this with rfl | rfl | rfl <;> first | exact ⟨rfl, rfl⟩ | exact absurd rfl h0)
theorem pu_L7 {L : Nat} {xs : Nat → Int32} {Z2 : MiZ} {k : pu_KT} {i : Int} {M0 : MiM} {D1 : MiD} {Z1 : MiZ} {D2 : MiD} (h : pu_LL Z1 D1 D2) (i0 : 0 ≤ i) (i1 : i + 6 ≤ (L : Int)) (hL : L ≤ 3072) : pu_sO k i M0 D1 Z1 D2 (B_L_case7 L xs Z2 k i M0 D1 Z1 D2) := by
  have c1 : 0 ≤ mi_w (i + 1) ∧ mi_w (i + 1) < (L : Int) := by rw [pu_w (by omega) (by omega)]; omega
  unfold B_L_case7
  rw [if_pos c1]
  exact pu_caseT h (pu_go h.l) (by intro n hn h0; have : n = 0 ∨ n = 1 ∨ n = 2 := (by omega); rcases this with rfl | rfl | rfl <;> first | exact ⟨rfl, rfl⟩ | exact absurd rfl h0)
theorem pu_L8 {L : Nat} {xs : Nat → Int32} {Z2 : MiZ} {k : pu_KT} {i : Int} {M0 : MiM} {D1 : MiD} {Z1 : MiZ} {D2 : MiD} (h : pu_LL Z1 D1 D2) (i0 : 0 ≤ i) (i1 : i + 6 ≤ (L : Int)) (hL : L ≤ 3072) : pu_sO k i M0 D1 Z1 D2 (B_L_case8 L xs Z2 k i M0 D1 Z1 D2) := by
  have c1 : 0 ≤ mi_w (i + 1) ∧ mi_w (i + 1) < (L : Int) := by rw [pu_w (by omega) (by omega)]; omega
  unfold B_L_case8
  rw [if_pos c1]
  exact pu_caseT h (pu_enable h.l) (by intro n hn h0; have : n = 0 ∨ n = 1 ∨ n = 2 := (by omega); rcases this with rfl | rfl | rfl <;> first | exact ⟨rfl, rfl⟩ | exact absurd rfl h0)
theorem pu_L9 {L : Nat} {xs : Nat → Int32} {Z2 : MiZ} {k : pu_KT} {i : Int} {M0 : MiM} {D1 : MiD} {Z1 : MiZ} {D2 : MiD} (h : pu_LL Z1 D1 D2) (i0 : 0 ≤ i) (i1 : i + 6 ≤ (L : Int)) (hL : L ≤ 3072) : pu_sO k i M0 D1 Z1 D2 (B_L_case9 L xs Z2 k i M0 D1 Z1 D2) := by
  unfold B_L_case9
  exact pu_caseT h (pu_disable h.l) (by intro n hn h0; have : n = 0 ∨ n = 1 ∨ n = 2 := (by omega); rcases this with rfl | rfl | rfl <;> first | exact ⟨rfl, rfl⟩ | exact absurd rfl h0)
theorem pu_L10 {L : Nat} {xs : Nat → Int32} {Z2 : MiZ} {k : pu_KT} {i : Int} {M0 : MiM} {D1 : MiD} {Z1 : MiZ} {D2 : MiD} (h : pu_LL Z1 D1 D2) (i0 : 0 ≤ i) (i1 : i + 6 ≤ (L : Int)) (hL : L ≤ 3072) : pu_sO k i M0 D1 Z1 D2 (B_L_case10 L xs Z2 k i M0 D1 Z1 D2) := by
  unfold B_L_case10
  exact pu_caseT h (pu_reverse h.l) (by intro n hn h0; have : n = 0 ∨ n = 1 ∨ n = 2 := (by omega); rcases this with rfl | rfl | rfl <;> first | exact ⟨rfl, rfl⟩ | exact absurd rfl h0)
theorem pu_L11 {L : Nat} {xs : Nat → Int32} {Z2 : MiZ} {k : pu_KT} {i : Int} {M0 : MiM} {D1 : MiD} {Z1 : MiZ} {D2 : MiD} (h : pu_LL Z1 D1 D2) (i0 : 0 ≤ i) (i1 : i + 6 ≤ (L : Int)) (hL : L ≤ 3072) : pu_sO k i M0 D1 Z1 D2 (B_L_case11 L xs Z2 k i M0 D1 Z1 D2) := by
  unfold B_L_case11
  exact pu_caseT h (pu_force h.l) (by intro n hn h0; have : n = 0 ∨ n = 1 ∨ n = 2 := (by omega); rcases this with rfl | rfl | rfl <;> first | exact ⟨rfl, rfl⟩ | exact absurd rfl h0)
theorem pu_L12 {L : Nat} {xs : Nat → Int32} {Z2 : MiZ} {k : pu_KT} {i : Int} {M0 : MiM} {D1 : MiD} {Z1 : MiZ} {D2 : MiD} (h : pu_LL Z1 D1 D2) (i0 : 0 ≤ i) (i1 : i + 6 ≤ (L : Int)) (hL : L ≤ 3072) : pu_sO k i M0 D1 Z1 D2 (B_L_case12 L xs Z2 k i M0 D1 Z1 D2) := by
  have c1 : 0 ≤ mi_w (i + 1) ∧ mi_w (i + 1) < (L : Int) := by rw [pu_w (by omega) (by omega)]; omega
  unfold B_L_case12
  rw [if_pos c1]
  exact pu_caseT h (pu_kill h.l) (by intro n hn h0; have : n = 0 ∨ n = 1 ∨ n = 2 := (by omega); rcases this with rfl | rfl | rfl <;> first | exact ⟨rfl, rfl⟩ | exact absurd rfl h0)
theorem pu_L13 {L : Nat} {xs : Nat → Int32} {Z2 : MiZ} {k : pu_KT} {i : Int} {M0 : MiM} {D1 : MiD} {Z1 : MiZ} {D2 : MiD} (h : pu_LL Z1 D1 D2) (i0 : 0 ≤ i) (i1 : i + 6 ≤ (L : Int)) (hL : L ≤ 3072) : pu_sO k i M0 D1 Z1 D2 (B_L_case13 L xs Z2 k i M0 D1 Z1 D2) := by
  have c1 : 0 ≤ mi_w (i + 1) ∧ mi_w (i + 1) < (L : Int) := by rw [pu_w (by omega) (by omega)]; omega
  unfold B_L_case13
  rw [if_pos c1]
  exact pu_caseT h (pu_told h.l) (by intro n hn h0; have : n = 0 ∨ n = 1 ∨ n = 2 := (by omega); rcases this with rfl | rfl | rfl <;> first | exact ⟨rfl, rfl⟩ | exact absurd rfl h0)
theorem pu_L14 {L : Nat} {xs : Nat → Int32} {Z2 : MiZ} {k : pu_KT} {i : Int} {M0 : MiM} {D1 : MiD} {Z1 : MiZ} {D2 : MiD} (h : pu_LL Z1 D1 D2) (i0 : 0 ≤ i) (i1 : i + 6 ≤ (L : Int)) (hL : L ≤ 3072) : pu_sO k i M0 D1 Z1 D2 (B_L_case14 L xs Z2 k i M0 D1 Z1 D2) := by
  have c1 : 0 ≤ mi_w (i + 1) ∧ mi_w (i + 1) < (L : Int) := by rw [pu_w (by omega) (by omega)]; omega
  have c2 : 0 ≤ mi_w (i + 2) ∧ mi_w (i + 2) < (L : Int) := by rw [pu_w (by omega) (by omega)]; omega
  unfold B_L_case14
  rw [if_pos c1, if_pos c2]
  exact pu_caseT h (pu_task h.l) (by intro n hn h0; have : n = 0 ∨ n = 1 ∨ n = 2 := (by omega); rcases this with rfl | rfl | rfl <;> first | exact ⟨rfl, rfl⟩ | exact absurd rfl h0)
theorem pu_L15 {L : Nat} {xs : Nat → Int32} {Z2 : MiZ} {k : pu_KT} {i : Int} {M0 : MiM} {D1 : MiD} {Z1 : MiZ} {D2 : MiD} (h : pu_LL Z1 D1 D2) (i0 : 0 ≤ i) (i1 : i + 6 ≤ (L : Int)) (hL : L ≤ 3072) : pu_sO k i M0 D1 Z1 D2 (B_L_case15 L xs Z2 k i M0 D1 Z1 D2) := by
  have c1 : 0 ≤ mi_w (i + 1) ∧ mi_w (i + 1) < (L : Int) := by rw [pu_w (by omega) (by omega)]; omega
  unfold B_L_case15
  rw [if_pos c1]
  exact pu_caseT h (pu_number h.l) (by intro n hn h0; have : n = 0 ∨ n = 1 ∨ n = 2 := (by omega); rcases this with rfl | rfl | rfl <;> first | exact ⟨rfl, rfl⟩ | exact absurd rfl h0)
theorem pu_L16 {L : Nat} {xs : Nat → Int32} {Z2 : MiZ} {k : pu_KT} {i : Int} {M0 : MiM} {D1 : MiD} {Z1 : MiZ} {D2 : MiD} (h : pu_LL Z1 D1 D2) (i0 : 0 ≤ i) (i1 : i + 6 ≤ (L : Int)) (hL : L ≤ 3072) : pu_sO k i M0 D1 Z1 D2 (B_L_case16 L xs Z2 k i M0 D1 Z1 D2) := by
  have c1 : 0 ≤ mi_w (i + 1) ∧ mi_w (i + 1) < (L : Int) := by rw [pu_w (by omega) (by omega)]; omega
  have c2 : 0 ≤ mi_w (i + 2) ∧ mi_w (i + 2) < (L : Int) := by rw [pu_w (by omega) (by omega)]; omega
  have c3 : 0 ≤ mi_w (i + 3) ∧ mi_w (i + 3) < (L : Int) := by rw [pu_w (by omega) (by omega)]; omega
  unfold B_L_case16
  rw [if_pos c1, if_pos c2, if_pos c3]
  exact pu_caseT h (pu_frame h.l) (by intro n hn h0; have : n = 0 ∨ n = 1 ∨ n = 2 := (by omega); rcases this with rfl | rfl | rfl <;> first | exact ⟨rfl, rfl⟩ | exact absurd rfl h0)
theorem pu_L17 {L : Nat} {xs : Nat → Int32} {Z2 : MiZ} {k : pu_KT} {i : Int} {M0 : MiM} {D1 : MiD} {Z1 : MiZ} {D2 : MiD} (h : pu_LL Z1 D1 D2) (i0 : 0 ≤ i) (i1 : i + 6 ≤ (L : Int)) (hL : L ≤ 3072) : pu_sO k i M0 D1 Z1 D2 (B_L_case17 L xs Z2 k i M0 D1 Z1 D2) := by
  have c1 : 0 ≤ mi_w (i + 1) ∧ mi_w (i + 1) < (L : Int) := by rw [pu_w (by omega) (by omega)]; omega
  unfold B_L_case17
  rw [if_pos c1]
  exact pu_caseT h (pu_stuck h.l) (by intro n hn h0; have : n = 0 ∨ n = 1 ∨ n = 2 := (by omega); rcases this with rfl | rfl | rfl <;> first | exact ⟨rfl, rfl⟩ | exact absurd rfl h0)
theorem pu_L18 {L : Nat} {xs : Nat → Int32} {Z2 : MiZ} {k : pu_KT} {i : Int} {M0 : MiM} {D1 : MiD} {Z1 : MiZ} {D2 : MiD} (h : pu_LL Z1 D1 D2) (i0 : 0 ≤ i) (i1 : i + 6 ≤ (L : Int)) (hL : L ≤ 3072) : pu_sO k i M0 D1 Z1 D2 (B_L_case18 L xs Z2 k i M0 D1 Z1 D2) := by
  have c1 : 0 ≤ mi_w (i + 1) ∧ mi_w (i + 1) < (L : Int) := by rw [pu_w (by omega) (by omega)]; omega
  have c2 : 0 ≤ mi_w (i + 2) ∧ mi_w (i + 2) < (L : Int) := by rw [pu_w (by omega) (by omega)]; omega
  unfold B_L_case18
  rw [if_pos c1, if_pos c2]
  exact pu_caseT h (pu_calls h.l) (by intro n hn h0; have : n = 0 ∨ n = 1 ∨ n = 2 := (by omega); rcases this with rfl | rfl | rfl <;> first | exact ⟨rfl, rfl⟩ | exact absurd rfl h0)
theorem pu_L19 {L : Nat} {xs : Nat → Int32} {Z2 : MiZ} {k : pu_KT} {i : Int} {M0 : MiM} {D1 : MiD} {Z1 : MiZ} {D2 : MiD} (h : pu_LL Z1 D1 D2) (i0 : 0 ≤ i) (i1 : i + 6 ≤ (L : Int)) (hL : L ≤ 3072) : pu_sO k i M0 D1 Z1 D2 (B_L_case19 L xs Z2 k i M0 D1 Z1 D2) := by
  have c1 : 0 ≤ mi_w (i + 1) ∧ mi_w (i + 1) < (L : Int) := by rw [pu_w (by omega) (by omega)]; omega
  unfold B_L_case19
  rw [if_pos c1]
  exact pu_caseT h (pu_entry h.l) (by intro n hn h0; have : n = 0 ∨ n = 1 ∨ n = 2 := (by omega); rcases this with rfl | rfl | rfl <;> first | exact ⟨rfl, rfl⟩ | exact absurd rfl h0)
theorem pu_L20 {L : Nat} {xs : Nat → Int32} {Z2 : MiZ} {k : pu_KT} {i : Int} {M0 : MiM} {D1 : MiD} {Z1 : MiZ} {D2 : MiD} (h : pu_LL Z1 D1 D2) (i0 : 0 ≤ i) (i1 : i + 6 ≤ (L : Int)) (hL : L ≤ 3072) : pu_sO k i M0 D1 Z1 D2 (B_L_case20 L xs Z2 k i M0 D1 Z1 D2) := by
  have c1 : 0 ≤ mi_w (i + 1) ∧ mi_w (i + 1) < (L : Int) := by rw [pu_w (by omega) (by omega)]; omega
  have c2 : 0 ≤ mi_w (i + 2) ∧ mi_w (i + 2) < (L : Int) := by rw [pu_w (by omega) (by omega)]; omega
  unfold B_L_case20
  rw [if_pos c1, if_pos c2]
  exact pu_caseT h (pu_patchOf h.l) (by intro n hn h0; have : n = 0 ∨ n = 1 ∨ n = 2 := (by omega); rcases this with rfl | rfl | rfl <;> first | exact ⟨rfl, rfl⟩ | exact absurd rfl h0)
theorem pu_L21 {L : Nat} {xs : Nat → Int32} {Z2 : MiZ} {k : pu_KT} {i : Int} {M0 : MiM} {D1 : MiD} {Z1 : MiZ} {D2 : MiD} (h : pu_LL Z1 D1 D2) (i0 : 0 ≤ i) (i1 : i + 6 ≤ (L : Int)) (hL : L ≤ 3072) : pu_sO k i M0 D1 Z1 D2 (B_L_case21 L xs Z2 k i M0 D1 Z1 D2) := by
  have c1 : 0 ≤ mi_w (i + 1) ∧ mi_w (i + 1) < (L : Int) := by rw [pu_w (by omega) (by omega)]; omega
  have c2 : 0 ≤ mi_w (i + 2) ∧ mi_w (i + 2) < (L : Int) := by rw [pu_w (by omega) (by omega)]; omega
  unfold B_L_case21
  rw [if_pos c1, if_pos c2]
  exact pu_caseT h (pu_datumOf h.l) (by intro n hn h0; have : n = 0 ∨ n = 1 ∨ n = 2 := (by omega); rcases this with rfl | rfl | rfl <;> first | exact ⟨rfl, rfl⟩ | exact absurd rfl h0)
theorem pu_L22 {L : Nat} {xs : Nat → Int32} {Z2 : MiZ} {k : pu_KT} {i : Int} {M0 : MiM} {D1 : MiD} {Z1 : MiZ} {D2 : MiD} (h : pu_LL Z1 D1 D2) (i0 : 0 ≤ i) (i1 : i + 6 ≤ (L : Int)) (hL : L ≤ 3072) : pu_sO k i M0 D1 Z1 D2 (B_L_case22 L xs Z2 k i M0 D1 Z1 D2) := by
  have c1 : 0 ≤ mi_w (i + 1) ∧ mi_w (i + 1) < (L : Int) := by rw [pu_w (by omega) (by omega)]; omega
  have c2 : 0 ≤ mi_w (i + 2) ∧ mi_w (i + 2) < (L : Int) := by rw [pu_w (by omega) (by omega)]; omega
  have c3 : 0 ≤ mi_w (i + 3) ∧ mi_w (i + 3) < (L : Int) := by rw [pu_w (by omega) (by omega)]; omega
  unfold B_L_case22
  rw [if_pos c1, if_pos c2, if_pos c3]
  exact pu_caseT h (pu_shadowOf h.l) (by intro n hn h0; have : n = 0 ∨ n = 1 ∨ n = 2 := (by omega); rcases this with rfl | rfl | rfl <;> first | exact ⟨rfl, rfl⟩ | exact absurd rfl h0)
theorem pu_L23 {L : Nat} {xs : Nat → Int32} {Z2 : MiZ} {k : pu_KT} {i : Int} {M0 : MiM} {D1 : MiD} {Z1 : MiZ} {D2 : MiD} (h : pu_LL Z1 D1 D2) (i0 : 0 ≤ i) (i1 : i + 6 ≤ (L : Int)) (hL : L ≤ 3072) : pu_sO k i M0 D1 Z1 D2 (B_L_case23 L xs Z2 k i M0 D1 Z1 D2) := by
  have c1 : 0 ≤ mi_w (i + 1) ∧ mi_w (i + 1) < (L : Int) := by rw [pu_w (by omega) (by omega)]; omega
  have c2 : 0 ≤ mi_w (i + 2) ∧ mi_w (i + 2) < (L : Int) := by rw [pu_w (by omega) (by omega)]; omega
  have c3 : 0 ≤ mi_w (i + 3) ∧ mi_w (i + 3) < (L : Int) := by rw [pu_w (by omega) (by omega)]; omega
  unfold B_L_case23
  rw [if_pos c1, if_pos c2, if_pos c3]
  exact pu_caseT h (pu_cell h.l) (by intro n hn h0; have : n = 0 ∨ n = 1 ∨ n = 2 := (by omega); rcases this with rfl | rfl | rfl <;> first | exact ⟨rfl, rfl⟩ | exact absurd rfl h0)
theorem pu_L24 {L : Nat} {xs : Nat → Int32} {Z2 : MiZ} {k : pu_KT} {i : Int} {M0 : MiM} {D1 : MiD} {Z1 : MiZ} {D2 : MiD} (h : pu_LL Z1 D1 D2) (i0 : 0 ≤ i) (i1 : i + 6 ≤ (L : Int)) (hL : L ≤ 3072) : pu_sO k i M0 D1 Z1 D2 (B_L_case24 L xs Z2 k i M0 D1 Z1 D2) := by
  have c1 : 0 ≤ mi_w (i + 1) ∧ mi_w (i + 1) < (L : Int) := by rw [pu_w (by omega) (by omega)]; omega
  have c2 : 0 ≤ mi_w (i + 2) ∧ mi_w (i + 2) < (L : Int) := by rw [pu_w (by omega) (by omega)]; omega
  have c3 : 0 ≤ mi_w (i + 3) ∧ mi_w (i + 3) < (L : Int) := by rw [pu_w (by omega) (by omega)]; omega
  unfold B_L_case24
  rw [if_pos c1, if_pos c2, if_pos c3]
  exact pu_caseT h (pu_get h.l) (by intro n hn h0; have : n = 0 ∨ n = 1 ∨ n = 2 := (by omega); rcases this with rfl | rfl | rfl <;> first | exact ⟨rfl, rfl⟩ | exact absurd rfl h0)
theorem pu_L25 {L : Nat} {xs : Nat → Int32} {Z2 : MiZ} {k : pu_KT} {i : Int} {M0 : MiM} {D1 : MiD} {Z1 : MiZ} {D2 : MiD} (h : pu_LL Z1 D1 D2) (i0 : 0 ≤ i) (i1 : i + 6 ≤ (L : Int)) (hL : L ≤ 3072) : pu_sO k i M0 D1 Z1 D2 (B_L_case25 L xs Z2 k i M0 D1 Z1 D2) := by
  have c1 : 0 ≤ mi_w (i + 1) ∧ mi_w (i + 1) < (L : Int) := by rw [pu_w (by omega) (by omega)]; omega
  have c2 : 0 ≤ mi_w (i + 2) ∧ mi_w (i + 2) < (L : Int) := by rw [pu_w (by omega) (by omega)]; omega
  have c3 : 0 ≤ mi_w (i + 3) ∧ mi_w (i + 3) < (L : Int) := by rw [pu_w (by omega) (by omega)]; omega
  have c4 : 0 ≤ mi_w (i + 4) ∧ mi_w (i + 4) < (L : Int) := by rw [pu_w (by omega) (by omega)]; omega
  unfold B_L_case25
  rw [if_pos c1, if_pos c2, if_pos c3, if_pos c4]
  exact pu_caseT h (pu_set h.l) (by intro n hn h0; have : n = 0 ∨ n = 1 ∨ n = 2 := (by omega); rcases this with rfl | rfl | rfl <;> first | exact ⟨rfl, rfl⟩ | exact absurd rfl h0)
theorem pu_L26 {L : Nat} {xs : Nat → Int32} {Z2 : MiZ} {k : pu_KT} {i : Int} {M0 : MiM} {D1 : MiD} {Z1 : MiZ} {D2 : MiD} (h : pu_LL Z1 D1 D2) (i0 : 0 ≤ i) (i1 : i + 6 ≤ (L : Int)) (hL : L ≤ 3072) : pu_sO k i M0 D1 Z1 D2 (B_L_case26 L xs Z2 k i M0 D1 Z1 D2) := by
  have c1 : 0 ≤ mi_w (i + 1) ∧ mi_w (i + 1) < (L : Int) := by rw [pu_w (by omega) (by omega)]; omega
  have c2 : 0 ≤ mi_w (i + 2) ∧ mi_w (i + 2) < (L : Int) := by rw [pu_w (by omega) (by omega)]; omega
  have c3 : 0 ≤ mi_w (i + 3) ∧ mi_w (i + 3) < (L : Int) := by rw [pu_w (by omega) (by omega)]; omega
  have c4 : 0 ≤ mi_w (i + 4) ∧ mi_w (i + 4) < (L : Int) := by rw [pu_w (by omega) (by omega)]; omega
  unfold B_L_case26
  rw [if_pos c1, if_pos c2, if_pos c3, if_pos c4]
  exact pu_caseT h (pu_move h.l) (by intro n hn h0; have : n = 0 ∨ n = 1 ∨ n = 2 := (by omega); rcases this with rfl | rfl | rfl <;> first | exact ⟨rfl, rfl⟩ | exact absurd rfl h0)
theorem pu_L27 {L : Nat} {xs : Nat → Int32} {Z2 : MiZ} {k : pu_KT} {i : Int} {M0 : MiM} {D1 : MiD} {Z1 : MiZ} {D2 : MiD} (h : pu_LL Z1 D1 D2) (i0 : 0 ≤ i) (i1 : i + 6 ≤ (L : Int)) (hL : L ≤ 3072) : pu_sO k i M0 D1 Z1 D2 (B_L_case27 L xs Z2 k i M0 D1 Z1 D2) := by
  have c1 : 0 ≤ mi_w (i + 1) ∧ mi_w (i + 1) < (L : Int) := by rw [pu_w (by omega) (by omega)]; omega
  have c2 : 0 ≤ mi_w (i + 2) ∧ mi_w (i + 2) < (L : Int) := by rw [pu_w (by omega) (by omega)]; omega
  have c3 : 0 ≤ mi_w (i + 3) ∧ mi_w (i + 3) < (L : Int) := by rw [pu_w (by omega) (by omega)]; omega
  unfold B_L_case27
  rw [if_pos c1, if_pos c2, if_pos c3]
  exact pu_caseT h (pu_shape h.l) (by intro n hn h0; have : n = 0 ∨ n = 1 ∨ n = 2 := (by omega); rcases this with rfl | rfl | rfl <;> first | exact ⟨rfl, rfl⟩ | exact absurd rfl h0)
theorem pu_L28 {L : Nat} {xs : Nat → Int32} {Z2 : MiZ} {k : pu_KT} {i : Int} {M0 : MiM} {D1 : MiD} {Z1 : MiZ} {D2 : MiD} (h : pu_LL Z1 D1 D2) (i0 : 0 ≤ i) (i1 : i + 6 ≤ (L : Int)) (hL : L ≤ 3072) : pu_sO k i M0 D1 Z1 D2 (B_L_case28 L xs Z2 k i M0 D1 Z1 D2) := by
  have c1 : 0 ≤ mi_w (i + 1) ∧ mi_w (i + 1) < (L : Int) := by rw [pu_w (by omega) (by omega)]; omega
  have c2 : 0 ≤ mi_w (i + 2) ∧ mi_w (i + 2) < (L : Int) := by rw [pu_w (by omega) (by omega)]; omega
  have c3 : 0 ≤ mi_w (i + 3) ∧ mi_w (i + 3) < (L : Int) := by rw [pu_w (by omega) (by omega)]; omega
  unfold B_L_case28
  rw [if_pos c1, if_pos c2, if_pos c3]
  exact pu_caseT h (pu_keep h.l) (by intro n hn h0; have : n = 0 ∨ n = 1 ∨ n = 2 := (by omega); rcases this with rfl | rfl | rfl <;> first | exact ⟨rfl, rfl⟩ | exact absurd rfl h0)
theorem pu_L29 {L : Nat} {xs : Nat → Int32} {Z2 : MiZ} {k : pu_KT} {i : Int} {M0 : MiM} {D1 : MiD} {Z1 : MiZ} {D2 : MiD} (h : pu_LL Z1 D1 D2) (i0 : 0 ≤ i) (i1 : i + 6 ≤ (L : Int)) (hL : L ≤ 3072) : pu_sO k i M0 D1 Z1 D2 (B_L_case29 L xs Z2 k i M0 D1 Z1 D2) := by
  have c1 : 0 ≤ mi_w (i + 1) ∧ mi_w (i + 1) < (L : Int) := by rw [pu_w (by omega) (by omega)]; omega
  unfold B_L_case29
  rw [if_pos c1]
  exact pu_caseT h (pu_shapes h.l) (by intro n hn h0; have : n = 0 ∨ n = 1 ∨ n = 2 := (by omega); rcases this with rfl | rfl | rfl <;> first | exact ⟨rfl, rfl⟩ | exact absurd rfl h0)
theorem pu_L30 {L : Nat} {xs : Nat → Int32} {Z2 : MiZ} {k : pu_KT} {i : Int} {M0 : MiM} {D1 : MiD} {Z1 : MiZ} {D2 : MiD} (h : pu_LL Z1 D1 D2) (i0 : 0 ≤ i) (i1 : i + 6 ≤ (L : Int)) (hL : L ≤ 3072) : pu_sO k i M0 D1 Z1 D2 (B_L_case30 L xs Z2 k i M0 D1 Z1 D2) := by
  have c1 : 0 ≤ mi_w (i + 1) ∧ mi_w (i + 1) < (L : Int) := by rw [pu_w (by omega) (by omega)]; omega
  have c2 : 0 ≤ mi_w (i + 2) ∧ mi_w (i + 2) < (L : Int) := by rw [pu_w (by omega) (by omega)]; omega
  unfold B_L_case30
  rw [if_pos c1, if_pos c2]
  exact pu_caseT h (pu_same h.l) (by intro n hn h0; have : n = 0 ∨ n = 1 ∨ n = 2 := (by omega); rcases this with rfl | rfl | rfl <;> first | exact ⟨rfl, rfl⟩ | exact absurd rfl h0)
theorem pu_L31 {L : Nat} {xs : Nat → Int32} {Z2 : MiZ} {k : pu_KT} {i : Int} {M0 : MiM} {D1 : MiD} {Z1 : MiZ} {D2 : MiD} (h : pu_LL Z1 D1 D2) (i0 : 0 ≤ i) (i1 : i + 6 ≤ (L : Int)) (hL : L ≤ 3072) : pu_sO k i M0 D1 Z1 D2 (B_L_case31 L xs Z2 k i M0 D1 Z1 D2) := by
  unfold B_L_case31
  obtain ⟨v, E, Z', G, r1, r2, l, zb, cl, zn, e1, e2⟩ := pu_waits h.l h.zb h.cl
  have cw : mi_cw mi_s1 Z' := ⟨fun r a b => by rw [zn]; exact h.cw.1 r a b, fun r a => by rw [zn]; exact h.cw.2 r a⟩
  rw [r1, r2]
  refine ⟨M0, E, Z', G, ?_, ⟨l, zb, cl, cw, by rw [zn]; exact h.n6, by rw [zn]; exact h.n7, by rw [zn]; exact h.n8, by rw [zn]; exact h.n9, by rw [zn]; exact h.n23, by rw [zn]; exact h.n24⟩, fun _ => rfl, by rw [e1]; omega, by rw [e1]; omega, e2⟩
  show mi_req (mi_cw mi_s1 Z') (if v = v then _ else _) = _
  rw [mi_req_t cw, if_pos rfl]
theorem pu_L32 {L : Nat} {xs : Nat → Int32} {Z2 : MiZ} {k : pu_KT} {i : Int} {M0 : MiM} {D1 : MiD} {Z1 : MiZ} {D2 : MiD} (h : pu_LL Z1 D1 D2) (i0 : 0 ≤ i) (i1 : i + 6 ≤ (L : Int)) (hL : L ≤ 3072) : pu_sO k i M0 D1 Z1 D2 (B_L_case32 L xs Z2 k i M0 D1 Z1 D2) := by
  unfold B_L_case32
  exact pu_case0 h (pu_deepest h.l)
theorem pu_L33 {L : Nat} {xs : Nat → Int32} {Z2 : MiZ} {k : pu_KT} {i : Int} {M0 : MiM} {D1 : MiD} {Z1 : MiZ} {D2 : MiD} (h : pu_LL Z1 D1 D2) (i0 : 0 ≤ i) (i1 : i + 6 ≤ (L : Int)) (hL : L ≤ 3072) : pu_sO k i M0 D1 Z1 D2 (B_L_case33 L xs Z2 k i M0 D1 Z1 D2) := by
  have c1 : 0 ≤ mi_w (i + 1) ∧ mi_w (i + 1) < (L : Int) := by rw [pu_w (by omega) (by omega)]; omega
  unfold B_L_case33
  rw [if_pos c1]
  exact pu_case0 h (pu_status h.l)
theorem pu_loop {L : Nat} {xs : Nat → Int32} {Z2 : MiZ} (hL : L ≤ 3072) : ∀ (f : Nat) (i : Int) (M0 : MiM) (D1 : MiD) (Z1 : MiZ) (D2 : MiD), pu_LL Z1 D1 D2 → 0 ≤ i → i ≤ 3078 → 3078 - i < 6 * (f : Int) →
    ∃ q, B_L_loop L xs Z2 f i M0 D1 Z1 D2 = some q ∧ q.1 = 1 ∧ (∀ j : Int, q.2.1.1 0 0 j = M0.1 0 0 j) ∧ q.2.2.1.1 0 0 0 ≤ D1 0 0 0 + 400 * ((3078 - i) / 6) ∧ q.2.2.1.1 0 0 1 ≤ D1 0 0 1 + 3000 * ((3078 - i) / 6) ∧ ∀ j : Int, q.2.2.2.1 0 0 j = D2 0 0 j
  | 0, i, M0, D1, Z1, D2, h, i0, i1, hf => by omega
  | f + 1, i, M0, D1, Z1, D2, h, i0, i1, hf => by
    unfold B_L_loop
    rw [pu_w (x := (L : Int) - 6) (by omega) (by omega)]
    by_cases c : (L : Int) - 6 < i
    · rw [if_pos c]
      exact ⟨_, rfl, rfl, fun _ => rfl, by show D1 0 0 0 ≤ _; omega, by show D1 0 0 1 ≤ _; omega, fun _ => rfl⟩
    · rw [if_neg c, mi_req_t ⟨h.cl, h.cw⟩, if_pos (by omega)]
      have H : ∀ o : Option (Int × (MiM × (MiM × MiM))), pu_sO (B_L_loop L xs Z2 f) i M0 D1 Z1 D2 o → ∃ q, o = some q ∧ q.1 = 1 ∧ (∀ j : Int, q.2.1.1 0 0 j = M0.1 0 0 j) ∧ q.2.2.1.1 0 0 0 ≤ D1 0 0 0 + 400 * ((3078 - i) / 6) ∧ q.2.2.1.1 0 0 1 ≤ D1 0 0 1 + 3000 * ((3078 - i) / 6) ∧ ∀ j : Int, q.2.2.2.1 0 0 j = D2 0 0 j := fun o s => by
        obtain ⟨M, E, Z, G, s1, s2, s3, s4, s5, s6⟩ := s
        obtain ⟨q, q1, q2, q3, q4, q5, q6⟩ := pu_loop (xs := xs) (Z2 := Z2) hL f (i + 6) M E Z G s2 (by omega) (by omega) (by omega)
        rw [pu_w (by omega) (by omega)] at s1
        exact ⟨q, s1.trans q1, q2, fun j => (q3 j).trans (s3 j), by omega, by omega, fun j => (q6 j).trans (s6 j)⟩
      generalize mi_and ((xs i.toNat).toInt) 63 = u
      by_cases u0 : u = 0
      · rw [if_pos u0]
        exact H _ (pu_L0 h i0 (by omega) hL)
      by_cases u1 : u = 1
      · rw [if_neg u0, if_pos u1]
        exact H _ (pu_L1 h i0 (by omega) hL)
      by_cases u2 : u = 2
      · rw [if_neg u0, if_neg u1, if_pos u2]
        exact H _ (pu_L2 h i0 (by omega) hL)
      by_cases u3 : u = 3
      · rw [if_neg u0, if_neg u1, if_neg u2, if_pos u3]
        exact H _ (pu_L3 h i0 (by omega) hL)
      by_cases u4 : u = 4
      · rw [if_neg u0, if_neg u1, if_neg u2, if_neg u3, if_pos u4]
        exact H _ (pu_L4 h i0 (by omega) hL)
      by_cases u5 : u = 5
      · rw [if_neg u0, if_neg u1, if_neg u2, if_neg u3, if_neg u4, if_pos u5]
        exact H _ (pu_L5 h i0 (by omega) hL)
      by_cases u6 : u = 6
      · rw [if_neg u0, if_neg u1, if_neg u2, if_neg u3, if_neg u4, if_neg u5, if_pos u6]
        exact H _ (pu_L6 h i0 (by omega) hL)
      by_cases u7 : u = 7
      · rw [if_neg u0, if_neg u1, if_neg u2, if_neg u3, if_neg u4, if_neg u5, if_neg u6, if_pos u7]
        exact H _ (pu_L7 h i0 (by omega) hL)
      by_cases u8 : u = 8
      · rw [if_neg u0, if_neg u1, if_neg u2, if_neg u3, if_neg u4, if_neg u5, if_neg u6, if_neg u7, if_pos u8]
        exact H _ (pu_L8 h i0 (by omega) hL)
      by_cases u9 : u = 9
      · rw [if_neg u0, if_neg u1, if_neg u2, if_neg u3, if_neg u4, if_neg u5, if_neg u6, if_neg u7, if_neg u8, if_pos u9]
        exact H _ (pu_L9 h i0 (by omega) hL)
      by_cases u10 : u = 10
      · rw [if_neg u0, if_neg u1, if_neg u2, if_neg u3, if_neg u4, if_neg u5, if_neg u6, if_neg u7, if_neg u8, if_neg u9, if_pos u10]
        exact H _ (pu_L10 h i0 (by omega) hL)
      by_cases u11 : u = 11
      · rw [if_neg u0, if_neg u1, if_neg u2, if_neg u3, if_neg u4, if_neg u5, if_neg u6, if_neg u7, if_neg u8, if_neg u9, if_neg u10, if_pos u11]
        exact H _ (pu_L11 h i0 (by omega) hL)
      by_cases u12 : u = 12
      · rw [if_neg u0, if_neg u1, if_neg u2, if_neg u3, if_neg u4, if_neg u5, if_neg u6, if_neg u7, if_neg u8, if_neg u9, if_neg u10, if_neg u11, if_pos u12]
        exact H _ (pu_L12 h i0 (by omega) hL)
      by_cases u13 : u = 13
      · rw [if_neg u0, if_neg u1, if_neg u2, if_neg u3, if_neg u4, if_neg u5, if_neg u6, if_neg u7, if_neg u8, if_neg u9, if_neg u10, if_neg u11, if_neg u12, if_pos u13]
        exact H _ (pu_L13 h i0 (by omega) hL)
      by_cases u14 : u = 14
      · rw [if_neg u0, if_neg u1, if_neg u2, if_neg u3, if_neg u4, if_neg u5, if_neg u6, if_neg u7, if_neg u8, if_neg u9, if_neg u10, if_neg u11, if_neg u12, if_neg u13, if_pos u14]
        exact H _ (pu_L14 h i0 (by omega) hL)
      by_cases u15 : u = 15
      · rw [if_neg u0, if_neg u1, if_neg u2, if_neg u3, if_neg u4, if_neg u5, if_neg u6, if_neg u7, if_neg u8, if_neg u9, if_neg u10, if_neg u11, if_neg u12, if_neg u13, if_neg u14, if_pos u15]
        exact H _ (pu_L15 h i0 (by omega) hL)
      by_cases u16 : u = 16
      · rw [if_neg u0, if_neg u1, if_neg u2, if_neg u3, if_neg u4, if_neg u5, if_neg u6, if_neg u7, if_neg u8, if_neg u9, if_neg u10, if_neg u11, if_neg u12, if_neg u13, if_neg u14, if_neg u15, if_pos u16]
        exact H _ (pu_L16 h i0 (by omega) hL)
      by_cases u17 : u = 17
      · rw [if_neg u0, if_neg u1, if_neg u2, if_neg u3, if_neg u4, if_neg u5, if_neg u6, if_neg u7, if_neg u8, if_neg u9, if_neg u10, if_neg u11, if_neg u12, if_neg u13, if_neg u14, if_neg u15, if_neg u16, if_pos u17]
        exact H _ (pu_L17 h i0 (by omega) hL)
      by_cases u18 : u = 18
      · rw [if_neg u0, if_neg u1, if_neg u2, if_neg u3, if_neg u4, if_neg u5, if_neg u6, if_neg u7, if_neg u8, if_neg u9, if_neg u10, if_neg u11, if_neg u12, if_neg u13, if_neg u14, if_neg u15, if_neg u16, if_neg u17, if_pos u18]
        exact H _ (pu_L18 h i0 (by omega) hL)
      by_cases u19 : u = 19
      · rw [if_neg u0, if_neg u1, if_neg u2, if_neg u3, if_neg u4, if_neg u5, if_neg u6, if_neg u7, if_neg u8, if_neg u9, if_neg u10, if_neg u11, if_neg u12, if_neg u13, if_neg u14, if_neg u15, if_neg u16, if_neg u17, if_neg u18, if_pos u19]
        exact H _ (pu_L19 h i0 (by omega) hL)
      by_cases u20 : u = 20
      · rw [if_neg u0, if_neg u1, if_neg u2, if_neg u3, if_neg u4, if_neg u5, if_neg u6, if_neg u7, if_neg u8, if_neg u9, if_neg u10, if_neg u11, if_neg u12, if_neg u13, if_neg u14, if_neg u15, if_neg u16, if_neg u17, if_neg u18, if_neg u19, if_pos u20]
        exact H _ (pu_L20 h i0 (by omega) hL)
      by_cases u21 : u = 21
      · rw [if_neg u0, if_neg u1, if_neg u2, if_neg u3, if_neg u4, if_neg u5, if_neg u6, if_neg u7, if_neg u8, if_neg u9, if_neg u10, if_neg u11, if_neg u12, if_neg u13, if_neg u14, if_neg u15, if_neg u16, if_neg u17, if_neg u18, if_neg u19, if_neg u20, if_pos u21]
        exact H _ (pu_L21 h i0 (by omega) hL)
      by_cases u22 : u = 22
      · rw [if_neg u0, if_neg u1, if_neg u2, if_neg u3, if_neg u4, if_neg u5, if_neg u6, if_neg u7, if_neg u8, if_neg u9, if_neg u10, if_neg u11, if_neg u12, if_neg u13, if_neg u14, if_neg u15, if_neg u16, if_neg u17, if_neg u18, if_neg u19, if_neg u20, if_neg u21, if_pos u22]
        exact H _ (pu_L22 h i0 (by omega) hL)
      by_cases u23 : u = 23
      · rw [if_neg u0, if_neg u1, if_neg u2, if_neg u3, if_neg u4, if_neg u5, if_neg u6, if_neg u7, if_neg u8, if_neg u9, if_neg u10, if_neg u11, if_neg u12, if_neg u13, if_neg u14, if_neg u15, if_neg u16, if_neg u17, if_neg u18, if_neg u19, if_neg u20, if_neg u21, if_neg u22, if_pos u23]
        exact H _ (pu_L23 h i0 (by omega) hL)
      by_cases u24 : u = 24
      · rw [if_neg u0, if_neg u1, if_neg u2, if_neg u3, if_neg u4, if_neg u5, if_neg u6, if_neg u7, if_neg u8, if_neg u9, if_neg u10, if_neg u11, if_neg u12, if_neg u13, if_neg u14, if_neg u15, if_neg u16, if_neg u17, if_neg u18, if_neg u19, if_neg u20, if_neg u21, if_neg u22, if_neg u23, if_pos u24]
        exact H _ (pu_L24 h i0 (by omega) hL)
      by_cases u25 : u = 25
      · rw [if_neg u0, if_neg u1, if_neg u2, if_neg u3, if_neg u4, if_neg u5, if_neg u6, if_neg u7, if_neg u8, if_neg u9, if_neg u10, if_neg u11, if_neg u12, if_neg u13, if_neg u14, if_neg u15, if_neg u16, if_neg u17, if_neg u18, if_neg u19, if_neg u20, if_neg u21, if_neg u22, if_neg u23, if_neg u24, if_pos u25]
        exact H _ (pu_L25 h i0 (by omega) hL)
      by_cases u26 : u = 26
      · rw [if_neg u0, if_neg u1, if_neg u2, if_neg u3, if_neg u4, if_neg u5, if_neg u6, if_neg u7, if_neg u8, if_neg u9, if_neg u10, if_neg u11, if_neg u12, if_neg u13, if_neg u14, if_neg u15, if_neg u16, if_neg u17, if_neg u18, if_neg u19, if_neg u20, if_neg u21, if_neg u22, if_neg u23, if_neg u24, if_neg u25, if_pos u26]
        exact H _ (pu_L26 h i0 (by omega) hL)
      by_cases u27 : u = 27
      · rw [if_neg u0, if_neg u1, if_neg u2, if_neg u3, if_neg u4, if_neg u5, if_neg u6, if_neg u7, if_neg u8, if_neg u9, if_neg u10, if_neg u11, if_neg u12, if_neg u13, if_neg u14, if_neg u15, if_neg u16, if_neg u17, if_neg u18, if_neg u19, if_neg u20, if_neg u21, if_neg u22, if_neg u23, if_neg u24, if_neg u25, if_neg u26, if_pos u27]
        exact H _ (pu_L27 h i0 (by omega) hL)
      by_cases u28 : u = 28
      · rw [if_neg u0, if_neg u1, if_neg u2, if_neg u3, if_neg u4, if_neg u5, if_neg u6, if_neg u7, if_neg u8, if_neg u9, if_neg u10, if_neg u11, if_neg u12, if_neg u13, if_neg u14, if_neg u15, if_neg u16, if_neg u17, if_neg u18, if_neg u19, if_neg u20, if_neg u21, if_neg u22, if_neg u23, if_neg u24, if_neg u25, if_neg u26, if_neg u27, if_pos u28]
        exact H _ (pu_L28 h i0 (by omega) hL)
      by_cases u29 : u = 29
      · rw [if_neg u0, if_neg u1, if_neg u2, if_neg u3, if_neg u4, if_neg u5, if_neg u6, if_neg u7, if_neg u8, if_neg u9, if_neg u10, if_neg u11, if_neg u12, if_neg u13, if_neg u14, if_neg u15, if_neg u16, if_neg u17, if_neg u18, if_neg u19, if_neg u20, if_neg u21, if_neg u22, if_neg u23, if_neg u24, if_neg u25, if_neg u26, if_neg u27, if_neg u28, if_pos u29]
        exact H _ (pu_L29 h i0 (by omega) hL)
      by_cases u30 : u = 30
      · rw [if_neg u0, if_neg u1, if_neg u2, if_neg u3, if_neg u4, if_neg u5, if_neg u6, if_neg u7, if_neg u8, if_neg u9, if_neg u10, if_neg u11, if_neg u12, if_neg u13, if_neg u14, if_neg u15, if_neg u16, if_neg u17, if_neg u18, if_neg u19, if_neg u20, if_neg u21, if_neg u22, if_neg u23, if_neg u24, if_neg u25, if_neg u26, if_neg u27, if_neg u28, if_neg u29, if_pos u30]
        exact H _ (pu_L30 h i0 (by omega) hL)
      by_cases u31 : u = 31
      · rw [if_neg u0, if_neg u1, if_neg u2, if_neg u3, if_neg u4, if_neg u5, if_neg u6, if_neg u7, if_neg u8, if_neg u9, if_neg u10, if_neg u11, if_neg u12, if_neg u13, if_neg u14, if_neg u15, if_neg u16, if_neg u17, if_neg u18, if_neg u19, if_neg u20, if_neg u21, if_neg u22, if_neg u23, if_neg u24, if_neg u25, if_neg u26, if_neg u27, if_neg u28, if_neg u29, if_neg u30, if_pos u31]
        exact H _ (pu_L31 h i0 (by omega) hL)
      by_cases u32 : u = 32
      · rw [if_neg u0, if_neg u1, if_neg u2, if_neg u3, if_neg u4, if_neg u5, if_neg u6, if_neg u7, if_neg u8, if_neg u9, if_neg u10, if_neg u11, if_neg u12, if_neg u13, if_neg u14, if_neg u15, if_neg u16, if_neg u17, if_neg u18, if_neg u19, if_neg u20, if_neg u21, if_neg u22, if_neg u23, if_neg u24, if_neg u25, if_neg u26, if_neg u27, if_neg u28, if_neg u29, if_neg u30, if_neg u31, if_pos u32]
        exact H _ (pu_L32 h i0 (by omega) hL)
      by_cases u33 : u = 33
      · rw [if_neg u0, if_neg u1, if_neg u2, if_neg u3, if_neg u4, if_neg u5, if_neg u6, if_neg u7, if_neg u8, if_neg u9, if_neg u10, if_neg u11, if_neg u12, if_neg u13, if_neg u14, if_neg u15, if_neg u16, if_neg u17, if_neg u18, if_neg u19, if_neg u20, if_neg u21, if_neg u22, if_neg u23, if_neg u24, if_neg u25, if_neg u26, if_neg u27, if_neg u28, if_neg u29, if_neg u30, if_neg u31, if_neg u32, if_pos u33]
        exact H _ (pu_L33 h i0 (by omega) hL)
      rw [if_neg u0, if_neg u1, if_neg u2, if_neg u3, if_neg u4, if_neg u5, if_neg u6, if_neg u7, if_neg u8, if_neg u9, if_neg u10, if_neg u11, if_neg u12, if_neg u13, if_neg u14, if_neg u15, if_neg u16, if_neg u17, if_neg u18, if_neg u19, if_neg u20, if_neg u21, if_neg u22, if_neg u23, if_neg u24, if_neg u25, if_neg u26, if_neg u27, if_neg u28, if_neg u29, if_neg u30, if_neg u31, if_neg u32, if_neg u33]
      exact H _ ⟨M0, D1, Z1, D2, rfl, h, fun _ => rfl, by omega, by omega, fun _ => rfl⟩
def pu_ZF (w a b c q4 : Int) : MiD := fun q j i =>
  if q = 1 then (if j = 0 then (if i = 0 then 0 else if i = 4 then q4 else -1) else 0)
  else if q = 2 then (if 0 ≤ j ∧ j ≤ w then (if 0 ≤ i ∧ i < 6 then j else if i = 6 then 7 * j else -1) else 0)
  else if q = 3 then (if 0 ≤ j ∧ j < 60 * w + b then (if i = 2 ∨ i = 3 then j else -1) else 0)
  else if q = 4 then (if 0 ≤ j ∧ j < 6 * w + c then (if 0 ≤ i ∧ i < 4 then j else if i = 7 then j + 1 + j / 6 else -1) else 0)
  else if q = 5 then (if 0 ≤ j ∧ j < 7 * w + 1 + c then -1 else 0)
  else if q = 6 then (if 0 ≤ j ∧ j < 12 * w + a then (if i = 0 then j else -1) else 0)
  else if q = 10 then (if j = 0 then -1 else 0)
  else if q = 11 then (if 0 ≤ j ∧ j ≤ w then (if 0 ≤ i ∧ i < 12 ∧ 12 * j + i < 12 * w + a then 12 * j + i else -1) else 0)
  else if q = 12 ∨ q = 15 ∨ q = 16 then (if 0 ≤ j ∧ j ≤ w then -1 else 0)
  else if q = 13 then (if 0 ≤ j ∧ j ≤ w then (if 0 ≤ i ∧ i < 60 ∧ 60 * j + i < 60 * w + b then 60 * j + i else -1) else 0)
  else if q = 14 then (if 0 ≤ j ∧ j ≤ w then (if 0 ≤ i ∧ i < 6 ∧ 6 * j + i < 6 * w + c then 6 * j + i else -1) else 0)
  else if q = 17 ∨ q = 18 then (if 0 ≤ j ∧ j < 60 * w + b then -1 else 0)
  else if q = 19 ∨ q = 20 ∨ q = 21 ∨ q = 22 then (if 0 ≤ j ∧ j < 6 * w + c then -1 else 0)
  else if q = 23 then (if 0 ≤ j ∧ j < 12 * w + a then -1 else 0)
  else 0
def pu_ZN (w a b c : Int) : Nat → Int := fun q =>
  if q = 1 ∨ q = 10 then 1
  else if q = 2 ∨ q = 11 ∨ q = 12 ∨ q = 13 ∨ q = 14 ∨ q = 15 ∨ q = 16 then w + 1
  else if q = 3 ∨ q = 17 ∨ q = 18 then 60 * w + b
  else if q = 4 ∨ q = 19 ∨ q = 20 ∨ q = 21 ∨ q = 22 then 6 * w + c
  else if q = 5 then 7 * w + 1 + c
  else if q = 6 ∨ q = 23 then 12 * w + a
  else mi_sn q
def pu_ZZ (w a b c q4 : Int) : MiZ := (pu_ZF w a b c q4, pu_ZN w a b c)
def pu_DF (w a b c : Int) : MiD := fun q j i =>
  if q = 0 then (if j = 0 then (if i = 0 then 2 + 8 * (w + 1) + 2 * (12 * w + a) + 3 * (60 * w + b) + 6 * (6 * w + c) else if i = 1 then 509 + 118 * (w + 1) + 26 * (12 * w + a) + 22 * (60 * w + b) + 53 * (6 * w + c) else 0) else 0)
  else if q = 1 then (if j = 0 ∧ i = 2 then -1 else 0)
  else if q = 2 then (if 0 ≤ j ∧ j ≤ w ∧ i = 8 then -1 else 0)
  else if q = 3 then (if 0 ≤ j ∧ j < 60 * w + b ∧ i = 0 then 12 else 0)
  else if q = 5 then (if 0 ≤ j ∧ j < 7 * w + 1 + c ∧ i = 0 then -1 else 0)
  else 0
theorem pu_i74 {w a q4 : Int} (hw : 0 ≤ w) (ha : 0 ≤ a ∧ a < 12) (f : Nat) : B_X9_init_74 (f + 1) w a (pu_DF w a 0 0) (pu_ZZ w a 0 0 q4) = B_X9_init_74 f w (a + 1) (pu_DF w (a + 1) 0 0) (pu_ZZ w (a + 1) 0 0 q4) := by
  have e6 : (pu_ZZ w a 0 0 q4).2 6 = 12 * w + a := rfl
  have e23 : (pu_ZZ w a 0 0 q4).2 23 = 12 * w + a := rfl
  have l2 : (pu_ZZ w a 0 0 q4).1 2 w 0 = w := by
    show pu_ZF w a 0 0 q4 2 w 0 = w
    unfold pu_ZF
    simp [hw]
  have hx := pu_X1iE (D := pu_DF w a 0 0) (Z := pu_ZZ w a 0 0 q4) (by rw [e23]; omega)
  conv => lhs; unfold B_X9_init_74
  rw [if_neg (by omega), if_pos (by rw [e6]; omega), pu_nlE, show (((2 : Nat) : Nat) : Int) = 2 from rfl, hx, pu_bwE, l2, if_pos hw, if_pos ha, pu_letE, pu_w (by omega) (by omega), e6, e23]
  congr 1
  · funext q j i
    unfold pu_cD pu_DF
    grind (splits := 40)
  · unfold pu_ZZ pu_cZ
    refine Prod.ext ?_ ?_
    · funext q j i
      show mi_st _ 11 w a (12 * w + a) q j i = pu_ZF w (a + 1) 0 0 q4 q j i
      unfold mi_st pu_ZF
      grind (splits := 60)
    · funext q
      show (if q = 6 then _ else if q = 23 then _ else pu_ZN w a 0 0 q) = pu_ZN w (a + 1) 0 0 q
      unfold pu_ZN
      grind (splits := 40)
theorem pu_i101 {w b q4 : Int} (hw : 0 ≤ w) (hb : 0 ≤ b ∧ b < 60) (f : Nat) : B_X9_init_101 (f + 1) w b (pu_DF w 12 b 0) (pu_ZZ w 12 b 0 q4) = B_X9_init_101 f w (b + 1) (pu_DF w 12 (b + 1) 0) (pu_ZZ w 12 (b + 1) 0 q4) := by
  have l2 : (pu_ZZ w 12 b 0 q4).1 2 w 2 = w := by
    show pu_ZF w 12 b 0 q4 2 w 2 = w
    unfold pu_ZF
    simp [hw]
  have e3 : (pu_ZZ w 12 b 0 q4).2 3 = 60 * w + b := rfl
  have e17 : (pu_gZ (pu_ZZ w 12 b 0 q4) 3).2 17 = 60 * w + b := rfl
  conv => lhs; unfold B_X9_init_101 B_X6_init
  rw [l2, if_pos hw, if_neg (by omega), e3, if_pos (by omega), pu_nlE, show (((4 : Nat) : Nat) : Int) = 4 from rfl, pu_gDE (by decide), pu_letE, e17, if_pos (by omega), pu_nlE, show (((9 : Nat) : Nat) : Int) = 9 from rfl, pu_gDE (by decide), pu_letE, e17]
  generalize hZ1 : (mi_st (pu_gZ (pu_gZ (pu_ZZ w 12 b 0 q4) 3) 17).1 3 (60 * w + b) 2 (60 * w + b), (pu_gZ (pu_gZ (pu_ZZ w 12 b 0 q4) 3) 17).2) = Z1
  have e18 : Z1.2 18 = 60 * w + b := by rw [← hZ1]; rfl
  rw [e18, if_pos (by omega), pu_nlE, show (((9 : Nat) : Nat) : Int) = 9 from rfl, pu_gDE (by decide), pu_letE, pu_bwE, if_pos hb, pu_letE, pu_w (by omega) (by omega), e18, e3]
  subst hZ1
  congr 1
  · funext q j i
    unfold pu_gD mi_st pu_DF
    grind (splits := 40)
  · refine Prod.ext ?_ ?_
    · funext q j i
      show mi_st _ 13 w b (60 * w + b) q j i = pu_ZF w 12 (b + 1) 0 q4 q j i
      have m3 : pu_ZN w 12 b 0 3 = 60 * w + b := rfl
      have m17 : pu_ZN w 12 b 0 17 = 60 * w + b := rfl
      have m18 : pu_ZN w 12 b 0 18 = 60 * w + b := rfl
      clear e3 e17 e18 l2
      unfold pu_gZ pu_ZZ mi_st pu_ZF
      grind (splits := 60)
    · funext q
      show (pu_gZ _ 18).2 q = pu_ZN w 12 (b + 1) 0 q
      unfold pu_gZ pu_ZZ pu_ZN
      grind (splits := 40)
set_option maxHeartbeats 2000000 in
theorem pu_i131 {w c q4 : Int} (hw : 0 ≤ w) (hc : 0 ≤ c ∧ c < 6) (f : Nat) : B_X9_init_131 (f + 1) w c (pu_DF w 12 60 c) (pu_ZZ w 12 60 c q4) = B_X9_init_131 f w (c + 1) (pu_DF w 12 60 (c + 1)) (pu_ZZ w 12 60 (c + 1) q4) := by
  have l2 : (pu_ZZ w 12 60 c q4).1 2 w 3 = w := by
    show pu_ZF w 12 60 c q4 2 w 3 = w
    unfold pu_ZF
    simp [hw]
  have e4 : (pu_ZZ w 12 60 c q4).2 4 = 6 * w + c := rfl
  have e19 : (pu_gZ (pu_ZZ w 12 60 c q4) 4).2 19 = 6 * w + c := rfl
  conv => lhs; unfold B_X9_init_131 B_X7_init B_X8_init
  rw [if_neg (by omega), e4, if_pos (by omega), pu_nlE, show (((11 : Nat) : Nat) : Int) = 11 from rfl, pu_gDE (by decide), e19, if_pos (by omega), pu_nlE, show (((10 : Nat) : Nat) : Int) = 10 from rfl, pu_gDE (by decide), pu_letE, e19]
  generalize hZ1 : (mi_st (pu_gZ (pu_gZ (pu_ZZ w 12 60 c q4) 4) 19).1 4 (6 * w + c) 0 (6 * w + c), (pu_gZ (pu_gZ (pu_ZZ w 12 60 c q4) 4) 19).2) = Z1
  have e20 : Z1.2 20 = 6 * w + c := by rw [← hZ1]; rfl
  rw [e20, if_pos (by omega), pu_nlE, show (((10 : Nat) : Nat) : Int) = 10 from rfl, pu_gDE (by decide), pu_letE, e20]
  generalize hZ2 : (mi_st (pu_gZ Z1 20).1 4 (6 * w + c) 1 (6 * w + c), (pu_gZ Z1 20).2) = Z2
  have e21 : Z2.2 21 = 6 * w + c := by rw [← hZ2, ← hZ1]; rfl
  rw [e21, if_pos (by omega), pu_nlE, show (((10 : Nat) : Nat) : Int) = 10 from rfl, pu_gDE (by decide), pu_letE, e21]
  generalize hZ3 : (mi_st (pu_gZ Z2 21).1 4 (6 * w + c) 2 (6 * w + c), (pu_gZ Z2 21).2) = Z3
  have e22 : Z3.2 22 = 6 * w + c := by rw [← hZ3, ← hZ2, ← hZ1]; rfl
  rw [e22, if_pos (by omega), pu_nlE, show (((10 : Nat) : Nat) : Int) = 10 from rfl, pu_gDE (by decide), pu_letE, e22]
  generalize hZ4 : (mi_st (pu_gZ Z3 22).1 4 (6 * w + c) 3 (6 * w + c), (pu_gZ Z3 22).2) = Z4
  have e5 : Z4.2 5 = 7 * w + 1 + c := by rw [← hZ4, ← hZ3, ← hZ2, ← hZ1]; rfl
  rw [e5, if_pos (by omega), pu_nlE, show (((2 : Nat) : Nat) : Int) = 2 from rfl, pu_gDE (by decide), pu_letE, e5, pu_bwE, pu_letE, pu_bwE, l2, if_pos hw, if_pos hc, pu_letE, pu_w (by omega) (by omega)]
  have z1 : ∀ (q : Nat) (j i : Int), Z1.1 q j i = if q = 4 ∧ j = 6 * w + c then (if i = 0 then 6 * w + c else -1) else if q = 19 ∧ j = 6 * w + c then -1 else pu_ZF w 12 60 c q4 q j i := fun q j i => by
    rw [← hZ1]
    have m4 : pu_ZN w 12 60 c 4 = 6 * w + c := rfl
    have m19 : pu_ZN w 12 60 c 19 = 6 * w + c := rfl
    show mi_st _ 4 (6 * w + c) 0 (6 * w + c) q j i = _
    unfold mi_st pu_gZ pu_ZZ
    clear hZ1 hZ2 hZ3 hZ4 e4 e5 e19 e20 e21 e22 l2
    grind (splits := 30)
  have z4 : ∀ (q : Nat) (j i : Int), (mi_st (pu_gZ Z4 5).1 4 (6 * w + c) 7 (7 * w + 1 + c)) q j i = if q = 4 ∧ j = 6 * w + c then (if 0 ≤ i ∧ i < 4 then 6 * w + c else if i = 7 then 7 * w + 1 + c else -1) else if (q = 19 ∨ q = 20 ∨ q = 21 ∨ q = 22) ∧ j = 6 * w + c then -1 else if q = 5 ∧ j = 7 * w + 1 + c then -1 else pu_ZF w 12 60 c q4 q j i := fun q j i => by
    have h4 : ∀ q j i, Z4.1 q j i = if q = 4 ∧ j = 6 * w + c ∧ i = 3 then 6 * w + c else if q = 22 ∧ j = 6 * w + c then -1 else Z3.1 q j i := fun q j i => by
      rw [← hZ4]; show mi_st _ 4 (6 * w + c) 3 (6 * w + c) q j i = _; unfold mi_st pu_gZ; rw [e22]
    have h3 : ∀ q j i, Z3.1 q j i = if q = 4 ∧ j = 6 * w + c ∧ i = 2 then 6 * w + c else if q = 21 ∧ j = 6 * w + c then -1 else Z2.1 q j i := fun q j i => by
      rw [← hZ3]; show mi_st _ 4 (6 * w + c) 2 (6 * w + c) q j i = _; unfold mi_st pu_gZ; rw [e21]
    have h2 : ∀ q j i, Z2.1 q j i = if q = 4 ∧ j = 6 * w + c ∧ i = 1 then 6 * w + c else if q = 20 ∧ j = 6 * w + c then -1 else Z1.1 q j i := fun q j i => by
      rw [← hZ2]; show mi_st _ 4 (6 * w + c) 1 (6 * w + c) q j i = _; unfold mi_st pu_gZ; rw [e20]
    unfold mi_st pu_gZ
    show (if q = 4 ∧ j = 6 * w + c ∧ i = 7 then 7 * w + 1 + c else (if q = 5 ∧ j = Z4.2 5 then -1 else Z4.1 q j i)) = _
    rw [e5, h4, h3, h2, z1]
    clear hZ1 hZ2 hZ3 hZ4 e4 e5 e19 e20 e21 e22 l2 h4 h3 h2 z1
    generalize pu_ZF w 12 60 c q4 q j i = x
    grind (splits := 40)
  have n4 : ∀ q : Nat, (pu_gZ Z4 5).2 q = pu_ZN w 12 60 (c + 1) q := fun q => by
    show (if q = 5 then Z4.2 5 + 1 else Z4.2 q) = _
    have h4 : ∀ q, Z4.2 q = if q = 22 then 6 * w + c + 1 else Z3.2 q := fun q => by rw [← hZ4]; show (if q = 22 then Z3.2 22 + 1 else Z3.2 q) = _; rw [e22]
    have h3 : ∀ q, Z3.2 q = if q = 21 then 6 * w + c + 1 else Z2.2 q := fun q => by rw [← hZ3]; show (if q = 21 then Z2.2 21 + 1 else Z2.2 q) = _; rw [e21]
    have h2 : ∀ q, Z2.2 q = if q = 20 then 6 * w + c + 1 else Z1.2 q := fun q => by rw [← hZ2]; show (if q = 20 then Z1.2 20 + 1 else Z1.2 q) = _; rw [e20]
    have h1 : ∀ q, Z1.2 q = if q = 19 then 6 * w + c + 1 else if q = 4 then 6 * w + c + 1 else pu_ZN w 12 60 c q := fun q => by rw [← hZ1]; rfl
    rw [e5, h4, h3, h2, h1]
    clear hZ1 hZ2 hZ3 hZ4 e4 e5 e19 e20 e21 e22 l2 h4 h3 h2 h1 z1 z4
    unfold pu_ZN
    grind (splits := 40)
  rw [e4] 
  congr 1
  · funext q j i
    clear hZ1 hZ2 hZ3 hZ4 e4 e5 e19 e20 e21 e22 l2 z1 z4 n4
    unfold pu_gD mi_st pu_DF
    grind (splits := 40)
  · refine Prod.ext ?_ (funext n4)
    funext q j i
    show mi_st (mi_st (pu_gZ Z4 5).1 4 (6 * w + c) 7 (7 * w + 1 + c)) 14 w c (6 * w + c) q j i = pu_ZF w 12 60 (c + 1) q4 q j i
    rw [pu_st, z4]
    clear hZ1 hZ2 hZ3 hZ4 e4 e5 e19 e20 e21 e22 l2 z1 z4 n4
    unfold pu_ZF
    grind (splits := 60)
