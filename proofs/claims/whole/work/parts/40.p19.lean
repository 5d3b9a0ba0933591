theorem pu_bwq {α : Type} {X : Option MiM} {Y : MiD → MiZ → Option MiM} {K : MiD → MiZ → Option α} {E : MiD} {F : MiZ} (h : (mi_bw X fun D Z => mi_req (CL Z) (Y D Z)) = some (E, F)) : (mi_bw X fun D Z => mi_req (CL Z) (mi_bw (Y D Z) K)) = K E F := by
  cases X with
  | none => exact absurd h (by intro z; cases z)
  | some M =>
    have h' : mi_req (CL M.2) (Y M.1 M.2) = some (E, F) := h
    show mi_req (CL M.2) (mi_bw (Y M.1 M.2) K) = _
    by_cases c : CL M.2
    · rw [mi_req_t c] at h' ⊢
      rw [h', pu_bwE]
    · exfalso
      unfold mi_req at h'
      rw [if_neg c] at h'
      cases h'
def pu_mP : Nat → Int := fun k => if k = 1 then 1 else if k = 2 then 2 else 0
set_option maxHeartbeats 1000000 in
theorem pu_patch_yes {Z : MiZ} {D1 D2 : MiD} {n : Int} (h : pu_LL Z D1 D2) (hn : 0 ≤ n ∧ n ≤ D2 40 0 2) (hp : D2 40 0 11 < 8) : pu_qns pu_mP Z D1 D2 (B_X10_patch_36 n 1 D1 Z) (B_X11_patch_46 n 0 (mi_st D2 40 0 0 0)) := by
  have L := h.l
  have C := L.c
  have A := L.a
  have fE := pu_fuelE
  have t1 := C.tb1
  have n0p := A.p.n0
  have tb : ∀ i : Int, 0 ≤ i → i < n → -128 ≤ D1 10 0 i ∧ D1 10 0 i < 128 := fun i a b => ⟨(C.ta i a (by omega)).1, (C.ta i a (by omega)).2.1⟩
  have X1 := pu_X1.rd (D := D1) h.cl hn.1 (by omega) tb
  generalize hC0 : mi_st (mi_st (mi_st D2 40 0 0 0) 40 0 2 0) 40 0 3 n = C0
  have C0o : ∀ (q : Nat) (j i : Int), ¬ (q = 40 ∧ j = 0 ∧ (i = 0 ∨ i = 2 ∨ i = 3)) → C0 q j i = D2 q j i := fun q j i z => by rw [← hC0, pu_st, if_neg (by omega), pu_st, if_neg (by omega), pu_st, if_neg (by omega)]
  have C00 : C0 40 0 0 = 0 := by rw [← hC0, pu_st, if_neg (by omega), pu_st, if_neg (by omega), pu_st_eq]
  have C02 : C0 40 0 2 = 0 := by rw [← hC0, pu_st, if_neg (by omega), pu_st_eq]
  have X2 : pu_X2 n (fun i => D1 10 0 i) C0 := ⟨hn.1, by omega, by rw [← hC0, pu_st_eq], fun i a b => by rw [C0o _ _ _ (by omega)]; exact (C.ta i a (by omega)).2.2, tb⟩
  obtain ⟨nq, n9, lk9⟩ := pu_nRZn (Z := Z) (r := Z.2 9)
  have cl0 : CL (pu_nRZ Z (Z.2 9)) := pu_CL.k h.cl fun q j i z => pu_nRZo (by omega)
  have zb0 := pu_nRZB (r := Z.2 9) h.zb
  have nR := pu_nR0 (D := D1) (r := Z.2 9) (n := n)
  have nRo : ∀ (q : Nat) (j i : Int), ¬ (q = 9 ∧ j = Z.2 9) → ¬ (q = 0 ∧ j = 0 ∧ (i = 0 ∨ i = 1)) → pu_nR D1 (Z.2 9) n q j i = D1 q j i := fun q j i a b => pu_nRo a b
  have nZo : ∀ (q : Nat) (j i : Int), ¬ (q = 9 ∧ j = Z.2 9) → (pu_nRZ Z (Z.2 9)).1 q j i = Z.1 q j i := fun q j i a => pu_nRZo a
  have ha0 : ∀ (M : MiD → MiZ → Option ((Int × MiM) ⊕ (Nat × MiM))), (if 0 ≤ Z.2 9 then mi_nl D1 Z 9 5 (fun D3 Z4 => mi_req (CL Z4) (mi_bw (B_X5_init (Z.2 9) n D3 Z4) M)) else none) = M (pu_rd (pu_nR D1 (Z.2 9) n) (Z.2 9) 0 0 (-1)) (pu_nRZ Z (Z.2 9)) := fun M => pu_newR h.cl h.n9
  have e6 := nq 6 (by decide)
  have e7 := nq 7 (by decide)
  have e8 := nq 8 (by decide)
  have e23 := nq 23 (by decide)
  have e24 := nq 24 (by decide)
  generalize pu_nR D1 (Z.2 9) n = B0 at *
  generalize pu_nRZ Z (Z.2 9) = Z0 at *
  have hP := fun (M : MiD → MiZ → Option ((Int × MiM) ⊕ (Nat × MiM))) => pu_newP (v := Z.2 9) (a := 0) (f := 0) (p := -1) (B := B0) (L := M) cl0 zb0 (by rw [e6]; exact h.n6) (by rw [e7]; exact h.n7) (by rw [e8]; exact h.n8) (by rw [e23]; exact h.n23) (by rw [e24]; exact h.n24)
  have ha1 : ∃ Zp Bp, B_X10_patch_36 n 1 D1 Z = (mi_req (CL Zp) (mi_bw (B_X5_readFuncs (Z.2 9) (Z.2 8) (pu_rd Bp (Z.2 9) 0 0 (-1)) Zp) fun D13 Z14 => mi_req (CL Z14) (mi_bw (B_X5_readEnds (Z.2 9) (Z.2 8) D13 Z14) fun D15 Z16 => mi_req (CL Z16) (mi_bi (B_X10_emptyTape (D15 9 (Z.2 9) 4) D15) fun D17 => if (D17 9 (Z.2 9) 3) = 0 then (if 0 ≤ (D17 1 0 3) ∧ (D17 1 0 3) < 8 then (mi_let (mi_st Z16.1 12 0 (D17 1 0 3) (Z.2 8), Z16.2) fun Z20 => mi_req (CL Z20) (mi_let (mi_st D17 1 0 3 (mi_w ((D17 1 0 3) + 1))) fun D21 => some (.inl ((mi_w ((D21 1 0 3) - 1)), (D21, Z20))))) else none) else (some (.inl ((mi_w ((D17 9 (Z.2 9) 3) - 10)), (D17, Z16)))))))) ∧ pu_NP Z0 B0 Zp Bp := by
    unfold B_X10_patch_36
    rw [if_pos (Or.inr rfl), pu_nS1, ha0]
    show ∃ Zp Bp, mi_req (CL Z0) _ = _ ∧ _
    rw [mi_req_t cl0]
    obtain ⟨Zp, Bp, p1, p2⟩ := hP _
    refine ⟨Zp, Bp, p1.trans ?_, p2⟩
    rw [e8]
  obtain ⟨Zp, Bp, ha2, N⟩ := ha1
  rw [ha2]
  have clp : CL Zp := pu_CL.k cl0 fun q j i z => N.z q j i (by omega) (by omega) (by omega) (by omega)
  have n6 := h.n6
  have n7 := h.n7
  have n8 := h.n8
  have n23 := h.n23
  have n24 := h.n24
  have x1 : pu_X1 Zp (Z.2 9) n (fun i => D1 10 0 i) Bp := ⟨X1.n0, X1.n5, by rw [N.z _ _ _ (by omega) (by omega) (by omega) (by omega)]; exact X1.lk, by rw [N.d _ _ _ (by omega) (by omega) (by omega) (by omega) (by omega)]; exact X1.ln, fun i a b => by rw [N.d _ _ _ (by omega) (by omega) (by omega) (by omega) (by omega)]; exact X1.t i a b, X1.tb⟩
  have l1 := N.l1
  have l2 := N.l2
  have l3 := N.l3
  have l4 := N.l4
  have lf := N.lf
  rw [e8] at l1 l2 l3 l4
  rw [e24] at l1 lf
  rw [e6] at l2 l3 l4
  have Nn6 := N.n6
  have Nn8 := N.n8
  have Nn23 := N.n23
  have Nn24 := N.n24
  have Nn7 := N.n 7 (by decide) (by decide) (by decide) (by decide)
  rw [e6] at Nn6
  rw [e8] at Nn8
  rw [e23] at Nn23
  rw [e24] at Nn24
  rw [e7] at Nn7
  obtain ⟨Z', B', C', a1, a2, k, w, r1, r2, O⟩ := pu_pread (P := Z.2 8) (ca := Z.2 24) x1 X2 N.zb clp (by omega) (by omega) (by omega) n8 (by omega) n24 (by omega) l1 lf (fun i C x z1 z2 z3 z4 => N.cc _ C x (by rcases z1 with rfl | rfl | rfl <;> omega) (by rcases z1 with rfl | rfl | rfl <;> omega) z2 z3 z4)
  have cl' := O.f.cl clp
  rw [mi_req_t clp, pu_bwq r1, mi_req_t cl', pu_rd4, pu_emptyE, pu_biE, pu_rd3]
  have Bo : ∀ (q : Nat) (j i : Int), ¬ (q = 6 ∧ Z.2 6 ≤ j) → ¬ (q = 7 ∧ Z.2 7 ≤ j) → ¬ (q = 23 ∧ Z.2 23 ≤ j) → ¬ (q = 8 ∧ j = Z.2 8) → ¬ (q = 24 ∧ j = Z.2 24) → ¬ (q = 9 ∧ j = Z.2 9) → ¬ (q = 0 ∧ j = 0 ∧ (i = 0 ∨ i = 1)) → B' q j i = D1 q j i := fun q j i p1 p2 p3 p4 p5 p6 p7 => by
    rw [O.f.d q j i (by omega) (by omega) (by omega) p4 p7, N.d q j i (by rw [e6]; exact p1) (by rw [e23]; exact p3) (by rw [e8]; exact p4) (by rw [e24]; exact p5) p7, nRo _ _ _ p6 p7]
  have Zo : ∀ (q : Nat) (j i : Int), ¬ (q = 6 ∧ Z.2 6 ≤ j) → ¬ (q = 7 ∧ Z.2 7 ≤ j) → ¬ (q = 23 ∧ Z.2 23 ≤ j) → ¬ (q = 8 ∧ j = Z.2 8) → ¬ (q = 24 ∧ j = Z.2 24) → ¬ (q = 9 ∧ j = Z.2 9) → Z'.1 q j i = Z.1 q j i := fun q j i p1 p2 p3 p4 p5 p6 => by
    rw [O.f.z q j i (by omega) (by omega) (by omega) p4 p5, N.z q j i (by rw [e6]; exact p1) (by rw [e23]; exact p3) (by rw [e8]; exact p4) (by rw [e24]; exact p5), nZo _ _ _ p6]
  have Co : ∀ (q : Nat) (j i : Int), ¬ (q = 43 ∧ 100 ≤ i) → ¬ (q = 46 ∧ 2400 ≤ j) → ¬ (q = 47 ∧ j = 0 ∧ i = 8) → ¬ (q = 48 ∧ j = 0 ∧ i = 8) → ¬ (q = 51 ∧ j = 8) → ¬ (q = 40 ∧ j = 0 ∧ (i = 0 ∨ i = 2 ∨ i = 3)) → C' q j i = D2 q j i := fun q j i p1 p2 p3 p4 p5 p6 => by
    rw [O.f.r q j i p1 p2 p3 p4 p5, C0o q j i p6]
  have C'0 : C' 40 0 0 = 0 := by rw [O.f.r _ _ _ (by omega) (by omega) (by omega) (by omega) (by omega)]; exact C00
  have C'2 : C' 40 0 2 = 0 := by rw [O.f.r _ _ _ (by omega) (by omega) (by omega) (by omega) (by omega)]; exact C02
  have C'p : C' 40 0 11 = D2 40 0 11 := Co _ _ _ (by omega) (by omega) (by omega) (by omega) (by omega) (by omega)
  have f6 := O.f.n6
  have f7 := O.f.n7
  have f23 := O.f.n23
  have f8 := O.f.n 8 (by decide) (by decide) (by decide)
  have f24 := O.f.n 24 (by decide) (by decide) (by decide)
  have f9 := O.f.n 9 (by decide) (by decide) (by decide)
  rw [N.n 9 (by decide) (by decide) (by decide) (by decide)] at f9
  have cw' : mi_cw mi_s1 Z' := pu_cwk h.cw fun q p1 p2 p3 p4 p5 p6 => by rw [O.f.n q p1 p2 p5, N.n q p1 p5 p3 p6]; exact nq q p4
  have q0 := O.c0
  have q1 := O.c1
  rw [N.c0, nR.1] at q0
  rw [N.c1, nR.2.1] at q1
  have hb : B_X11_patch_46 n 0 (mi_st D2 40 0 0 0) = if k = 0 then B_X11_patch_111 mi_fuel (D2 40 0 11) 0 (mi_st (mi_st (pu_rm C' a2 k w) 47 0 (D2 40 0 11) (C' 47 0 8)) 48 0 (D2 40 0 11) (C' 48 0 8)) else some (mi_w (k - 10), pu_rm (mi_st C' 40 0 5 w) a2 k w) := by
    unfold B_X11_patch_46 B_X11_fine
    rw [if_pos (Or.inl rfl), pu_bdg22, if_pos rfl, if_pos rfl, pu_startsE, pu_biE, hC0, r2, pu_biE, pu_rm6]
    by_cases c : k = 0
    · rw [if_neg (fun z => z c), pu_biE, if_pos (by decide), if_pos c, pu_rmo (by omega), C'p, if_pos (by omega), pu_letE, pu_letE, pu_rmo (by omega), pu_st (r' := 48), if_neg (by omega), pu_rmo (by omega)]
    · rw [if_pos c, pu_biE, if_neg (by decide), if_neg c, pu_endsE, pu_b2E, if_neg c]
  rw [hb]
  generalize hE1 : pu_rd (mi_st (mi_st B' 1 0 1 0) 1 0 2 w) (Z.2 9) a1 k w = E1
  have Eo : ∀ (q : Nat) (j i : Int), q ≠ 1 → q ≠ 9 → E1 q j i = B' q j i := fun q j i p1 p2 => by rw [← hE1, pu_rdo (by omega), pu_st, if_neg (by omega), pu_st, if_neg (by omega)]
  have E1o : ∀ i : Int, i ≠ 1 → i ≠ 2 → E1 1 0 i = D1 1 0 i := fun i p1 p2 => by rw [← hE1, pu_rdo (by omega), pu_st, if_neg (by omega), pu_st, if_neg (by omega)]; exact Bo _ _ _ (by omega) (by omega) (by omega) (by omega) (by omega) (by omega) (by omega)
  have E11 : E1 1 0 1 = 0 := by rw [← hE1, pu_rdo (by omega), pu_st, if_neg (by omega), pu_st_eq]
  have E12 : E1 1 0 2 = w := by rw [← hE1, pu_rdo (by omega), pu_st_eq]
  have E13 : E1 1 0 3 = D2 40 0 11 := by rw [E1o 3 (by decide) (by decide)]; exact C.pc
  have zkE : pu_zk Z Z' D1 E1 := by
    refine ⟨fun q j i z a b => Zo q j i ?_ ?_ ?_ ?_ ?_ ?_, fun q j i z a b => ?_⟩
    · rintro ⟨rfl, c⟩; omega
    · rintro ⟨rfl, c⟩; omega
    · rintro ⟨rfl, c⟩; omega
    · rintro ⟨rfl, c⟩; omega
    · rintro ⟨rfl, c⟩; omega
    · omega
    · rw [Eo q j i (by omega) (by omega)]
      refine Bo q j i ?_ ?_ ?_ ?_ ?_ ?_ ?_
      · rintro ⟨rfl, c⟩; omega
      · rintro ⟨rfl, c⟩; omega
      · rintro ⟨rfl, c⟩; omega
      · rintro ⟨rfl, c⟩; omega
      · omega
      · omega
      · omega
  have f1 : ∀ (q : Nat) (j i : Int), q = 2 ∨ q = 3 ∨ q = 4 ∨ q = 5 ∨ q = 15 ∨ q = 16 ∨ q = 17 ∨ q = 18 ∨ q = 19 ∨ q = 20 ∨ q = 21 ∨ q = 22 → E1 q j i = D1 q j i := fun q j i z => (Eo q j i (by omega) (by omega)).trans (Bo q j i (by omega) (by omega) (by omega) (by omega) (by omega) (by omega) (by omega))
  have y0 : E1 0 0 0 ≤ D1 0 0 0 + 400 := by rw [Eo _ _ _ (by decide) (by decide)]; omega
  have y1 : E1 0 0 1 ≤ D1 0 0 1 + 3000 := by rw [Eo _ _ _ (by decide) (by decide)]; omega
  have cnt : ∀ Z2 : MiZ, Z2.2 = Z'.2 → mi_cw mi_s1 Z2 ∧ 0 ≤ Z2.2 6 ∧ 0 ≤ Z2.2 7 ∧ 0 ≤ Z2.2 8 ∧ 0 ≤ Z2.2 9 ∧ 0 ≤ Z2.2 23 ∧ 0 ≤ Z2.2 24 := fun Z2 h2 => by
    have := h.n9
    rw [h2]
    exact ⟨⟨fun r a b => by rw [h2]; exact cw'.1 r a b, fun r a => by rw [h2]; exact cw'.2 r a⟩, by omega, by omega, by omega, by omega, by omega, by omega⟩
  by_cases c : k = 0
  · subst c
    obtain ⟨-, w1, S⟩ := O.ok rfl
    subst w1
    rw [if_pos rfl, if_pos rfl]
    generalize hp0 : D2 40 0 11 = p at *
    have bitsI : ∀ g : Int, 0 ≤ g → g < 12 → (B_X11_isBit (C' 47 0 8) g ≠ 0 ↔ 0 ≤ Z'.1 24 (Z.2 24) g) := fun g a b => by
      rw [S.bits.is ⟨a, b⟩]
      unfold pu_lkg
      exact decide_eq_true_iff
    generalize hC2 : mi_st (mi_st (pu_rm C' a2 0 (-1)) 47 0 p (C' 47 0 8)) 48 0 p (C' 48 0 8) = C2
    have C2o : ∀ (q : Nat) (j i : Int), ¬ (q = 40 ∧ j = 0 ∧ (i = 4 ∨ i = 6 ∨ i = 7)) → ¬ (q = 47 ∧ j = 0 ∧ i = p) → ¬ (q = 48 ∧ j = 0 ∧ i = p) → C2 q j i = C' q j i := fun q j i z1 z2 z3 => by rw [← hC2, pu_st, if_neg z3, pu_st, if_neg z2, pu_rmo z1]
    have C247 : C2 47 0 p = C' 47 0 8 := by rw [← hC2, pu_st, if_neg (by omega), pu_st_eq]
    have C248 : C2 48 0 p = C' 48 0 8 := by rw [← hC2, pu_st_eq]
    have c51 : ∀ g : Int, 0 ≤ g → g < 12 → B_X11_isBit (C2 47 0 p) g ≠ 0 → (0 ≤ C2 51 8 g ∧ C2 51 8 g < 8) ∧ C2 43 0 (100 + C2 51 8 g) ≤ 24 := fun g a b z => by
      rw [C247] at z
      obtain ⟨u1, u2⟩ := S.cod g a b ((bitsI g a b).mp z)
      rw [C2o 51 _ _ (by omega) (by omega) (by omega), C2o 43 _ _ (by omega) (by omega) (by omega)]
      exact ⟨u1, u2.2.2.2.2.2.1⟩
    have c8 : ∀ k : Int, 8 ≤ k → k < 11 → C2 43 0 (100 + k) ≤ 24 := fun k a b => by
      rw [C2o 43 _ _ (by omega) (by omega) (by omega)]
      have : k = 8 ∨ k = 9 ∨ k = 10 := by omega
      rcases this with rfl | rfl | rfl
      · exact S.e2.2.2.2.2.2.1
      · exact S.e3.2.2.2.2.2.1
      · exact S.e4.2.2.2.2.2.1
    obtain ⟨F1, g1, I1⟩ := pu_111 ⟨n0p, hp⟩ c51 mi_fuel 0 C2 ⟨fun _ _ _ _ _ _ => rfl, fun g a b => by omega⟩ (by decide) (by decide) (by omega)
    obtain ⟨F, g2, I, J⟩ := pu_192 ⟨n0p, hp⟩ c51 c8 mi_fuel 8 F1 I1 (fun k' a b => by omega) (by decide) (by decide) (by omega)
    have Fp : F 40 0 11 = p := by rw [I.o _ _ _ (by omega) (by omega) (by omega), C2o _ _ _ (by omega) (by omega) (by omega), C'p]
    have F6 : F 40 0 6 = 0 := by rw [I.o _ _ _ (by omega) (by omega) (by omega), ← hC2, pu_st, if_neg (by omega), pu_st, if_neg (by omega), pu_rm6]
    have F7 : F 40 0 7 = -1 := by rw [I.o _ _ _ (by omega) (by omega) (by omega), ← hC2, pu_st, if_neg (by omega), pu_st, if_neg (by omega), pu_rm7]
    have a7 : mi_st F 40 0 11 (p + 1) 40 0 7 = -1 := by rw [pu_st, if_neg (by omega)]; exact F7
    have a6 : mi_st (mi_st F 40 0 11 (p + 1)) 40 0 5 (-1) 40 0 6 = 0 := by rw [pu_st, if_neg (by omega), pu_st, if_neg (by omega)]; exact F6
    have ge : mi_b2 (B_X11_ends p (mi_st F 40 0 11 (mi_w (F 40 0 11 + 1)))) (fun y3 D4 => some (y3, D4)) = some (p, mi_st (mi_st F 40 0 11 (p + 1)) 40 0 5 (-1)) := by
      unfold B_X11_ends B_X11_fine
      rw [pu_letE, Fp, pu_w (by omega) (by omega), a7, a6, if_neg (show ¬ ((0 : Int) ≠ 0) by decide), pu_biE, if_neg (show ¬ ((1 : Int) = 0) by decide), pu_b2E]
    generalize hZ2 : (mi_st Z'.1 12 0 p (Z.2 8), Z'.2) = Z2
    have z2n : Z2.2 = Z'.2 := by rw [← hZ2]
    have z2o : ∀ (q : Nat) (j i : Int), ¬ (q = 12 ∧ j = 0 ∧ i = p) → Z2.1 q j i = Z'.1 q j i := fun q j i z => by
      rw [← hZ2]; show mi_st Z'.1 12 0 p (Z.2 8) q j i = _; rw [pu_st, if_neg z]
    have z2p : Z2.1 12 0 p = Z.2 8 := by rw [← hZ2]; show mi_st Z'.1 12 0 p (Z.2 8) 12 0 p = _; rw [pu_st_eq]
    have zb2 : pu_ZB Z2 := by rw [← hZ2]; exact O.zb.st (Or.inr (Or.inr ⟨rfl, by omega⟩))
    have cl2 : CL Z2 := pu_CL.k cl' fun q j i z => z2o q j i (by omega)
    rw [g1, g2, ge, E13, if_pos ⟨n0p, hp⟩, pu_letE, hZ2, mi_req_t cl2, pu_letE, pu_st_eq, pu_w (x := p + 1) (by omega) (by omega), pu_w (x := p + 1 - 1) (by omega) (by omega), show p + 1 - 1 = p by omega]
    generalize hE2 : mi_st E1 1 0 3 (p + 1) = E2
    have E2o : ∀ (q : Nat) (j i : Int), ¬ (q = 1 ∧ j = 0 ∧ i = 3) → E2 q j i = E1 q j i := fun q j i z => by rw [← hE2, pu_st, if_neg z]
    have E23 : E2 1 0 3 = p + 1 := by rw [← hE2, pu_st_eq]
    generalize hG : mi_st (mi_st F 40 0 11 (p + 1)) 40 0 5 (-1) = G
    have Go : ∀ (q : Nat) (j i : Int), ¬ (q = 40 ∧ j = 0 ∧ (i = 5 ∨ i = 11)) → G q j i = F q j i := fun q j i z => by rw [← hG, pu_st, if_neg (by omega), pu_st, if_neg (by omega)]
    have G5 : G 40 0 5 = -1 := by rw [← hG, pu_st_eq]
    have Gp : G 40 0 11 = p + 1 := by rw [← hG, pu_st, if_neg (by omega), pu_st_eq]
    have gf : ∀ (q : Nat) (j i : Int), ¬ (q = 43 ∧ (100 ≤ i ∨ 12 + 11 * p ≤ i ∧ i < 23 + 11 * p)) → ¬ (q = 46 ∧ (2400 ≤ j ∨ 24 * (12 + 11 * p) ≤ j ∧ j < 24 * (23 + 11 * p))) → ¬ (q = 47 ∧ j = 0 ∧ (i = 8 ∨ i = p)) → ¬ (q = 48 ∧ j = 0 ∧ (i = 8 ∨ i = p)) → ¬ (q = 51 ∧ (j = 8 ∨ j = p)) → ¬ (q = 40 ∧ j = 0) → G q j i = D2 q j i := fun q j i z1 z2 z3 z4 z5 z6 => by
      rw [Go _ _ _ (by omega), I.o _ _ _ (by omega) (by omega) (by omega), C2o _ _ _ (by omega) (by omega) (by omega), Co _ _ _ (by omega) (by omega) (by omega) (by omega) (by omega) (by omega)]
    have G47 : G 47 0 p = C' 47 0 8 := by rw [Go _ _ _ (by omega), I.o _ _ _ (by omega) (by omega) (by omega), C247]
    have G48 : G 48 0 p = C' 48 0 8 := by rw [Go _ _ _ (by omega), I.o _ _ _ (by omega) (by omega) (by omega), C248]
    have toC : ∀ (x k : Int), pu_C Z' B' x C' (100 + k) → 0 ≤ k → k < 11 → pu_cpd p C2 F k → pu_C Z2 E2 x G (12 + 11 * p + k) := fun x k q a b d => by
      have s := q.cp (E2 := G) (x' := 12 + 11 * p + k) ⟨by omega, by omega⟩ (by rw [Go _ _ _ (by omega), d.1, C2o _ _ _ (by omega) (by omega) (by omega)]) (fun l i x y z u => by rw [Go _ _ _ (by omega), d.2 l i x (by rw [C2o _ _ _ (by omega) (by omega) (by omega)]; exact y) z u, C2o _ _ _ (by omega) (by omega) (by omega)])
      obtain ⟨s2, s3, s4, s5, s6, s7, s8⟩ := s.lk (Z' := Z2) (fun q j i z => z2o q j i (by omega))
      exact ⟨s2, s3, s4, by rw [E2o _ _ _ (by omega), Eo _ _ _ (by decide) (by decide)]; exact s5, s6, s7, fun i p q => (s8 i p q).k rfl (fun j => by rw [E2o _ _ _ (by omega), Eo _ _ _ (by decide) (by decide)]) (fun _ => rfl)⟩
    have zk2 : pu_zk Z Z2 D1 E2 := ⟨fun q j i z a b => (z2o q j i (by omega)).trans (zkE.z q j i z a b), fun q j i z a b => (E2o q j i (by omega)).trans (zkE.d q j i z a b)⟩
    have z8 : ∀ i : Int, Z2.1 8 (Z.2 8) i = Z'.1 8 (Z.2 8) i := fun i => z2o _ _ _ (by omega)
    have z24 : ∀ i : Int, Z2.1 24 (Z.2 24) i = Z'.1 24 (Z.2 24) i := fun i => z2o _ _ _ (by omega)
    have MBG : pu_MB G := fun q g a b d e x => by
      rw [Gp] at b
      by_cases u : q = p
      · subst u
        rw [G47, ← C247] at x
        obtain ⟨v1, v2⟩ := I.g g d e e x
        have v3 := (c51 g d e x).1
        rw [Go _ _ _ (by omega), v1]
        omega
      · rw [gf 47 _ _ (by omega) (by omega) (by omega) (by omega) (by omega) (by omega)] at x
        rw [gf 51 _ _ (by omega) (by omega) (by omega) (by omega) (by omega) (by omega)]
        exact L.m q g a (by omega) d e x
    have PT : pu_Pt Z2 E2 (Z.2 8) G p := by
      refine ⟨n8, by rw [z8, S.l1]; exact n24, by rw [E2o _ _ _ (by omega), Eo _ _ _ (by decide) (by decide), G48]; exact S.al, by rw [G48]; exact S.alb, ?_, ?_, ?_, fun D => ?_, fun f a b d => ?_, fun f a b d => ?_⟩
      · rw [z8, show (20 + 11 * p : Int) = 12 + 11 * p + 8 by omega]; exact toC _ 8 S.e2 (by decide) (by decide) (J 8 (by decide) (by decide))
      · rw [z8, show (21 + 11 * p : Int) = 12 + 11 * p + 9 by omega]; exact toC _ 9 S.e3 (by decide) (by decide) (J 9 (by decide) (by decide))
      · rw [z8, show (22 + 11 * p : Int) = 12 + 11 * p + 10 by omega]; exact toC _ 10 S.e4 (by decide) (by decide) (J 10 (by decide) (by decide))
      · obtain ⟨y, y1, y2⟩ := pu_fbE (D := D) (Z := Z2) (P := Z.2 8) (a := Z.2 24) (by rw [z8]; exact S.l1) n24
        rw [y1, G47]
        congr 1
        exact (y2.k fun i _ _ => by unfold pu_lkg; rw [z24]).eq S.bits
      · rw [G47] at d
        rw [z8, S.l1, z24]
        have := bitsI f a b
        omega
      · rw [G47] at d
        have d' := d
        rw [← C247] at d'
        obtain ⟨v1, v2⟩ := I.g f a b b d'
        obtain ⟨u1, u2⟩ := S.cod f a b ((bitsI f a b).mp d)
        have e51 : C2 51 8 f = C' 51 8 f := C2o _ _ _ (by omega) (by omega) (by omega)
        rw [e51] at v1 v2
        rw [z8, S.l1, z24, Go _ _ _ (by omega), v1]
        exact toC _ _ u2 u1.1 (by omega) v2
    have PP : pu_P 0 Z2 E2 G := by
      refine ⟨by rw [Gp]; omega, by rw [Gp]; omega, fun g a b => ?_, fun q a b => ?_, fun q a b => ?_⟩
      · rw [z2o _ _ _ (by omega), Zo _ _ _ (by omega) (by omega) (by omega) (by omega) (by omega) (by omega)]
        exact (A.p.fn g a b).zk (x' := 0) h.zb (h.zb.f g a b) zk2 (gf _ _ _ (by omega) (by omega) (by omega) (by omega) (by omega) (by omega)) (fun i j x y => gf _ _ _ (by omega) (by omega) (by omega) (by omega) (by omega) (by omega))
      · rw [Gp] at b
        by_cases u : q = p
        · subst u
          rw [z2p]; exact PT
        · rw [z2o _ _ _ (by omega), Zo _ _ _ (by omega) (by omega) (by omega) (by omega) (by omega) (by omega)]
          refine (A.p.pt q a (by omega)).zk h.zb (h.zb.p q a (by omega)) zk2 ⟨gf _ _ _ (by omega) (by omega) (by omega) (by omega) (by omega) (by omega), gf _ _ _ (by omega) (by omega) (by omega) (by omega) (by omega) (by omega)⟩ (fun f => gf _ _ _ (by omega) (by omega) (by omega) (by omega) (by omega) (by omega)) (fun c hc => ?_)
          have : 12 + 11 * q ≤ c ∧ c < 23 + 11 * q := by
            rcases hc with rfl | rfl | rfl | ⟨g, g1, g2, g3, rfl⟩
            · omega
            · omega
            · omega
            · have := L.m q g a (by omega) g1 g2 g3
              omega
          exact ⟨gf _ _ _ (by omega) (by omega) (by omega) (by omega) (by omega) (by omega), fun i j x y => gf _ _ _ (by omega) (by omega) (by omega) (by omega) (by omega) (by omega)⟩
      · rw [Gp] at a
        rw [z2o _ _ _ (by omega), Zo _ _ _ (by omega) (by omega) (by omega) (by omega) (by omega) (by omega)]
        exact A.p.nul q (by omega) b
    have G0 : ∀ i : Int, i = 0 ∨ i = 2 → G 40 0 i = C' 40 0 i := fun i z => by rw [Go _ _ _ (by omega), I.o _ _ _ (by omega) (by omega) (by omega), C2o _ _ _ (by omega) (by omega) (by omega)]
    obtain ⟨w1, w2, w3, w4, w5, w6, w7⟩ := cnt Z2 z2n
    refine Or.inl ⟨_, _, _, _, rfl, rfl, (G0 0 (Or.inl rfl)).trans C'0, ⟨L.n PP MBG (fun q j i z => (E2o q j i (by omega)).trans (f1 q j i z)) (fun q j i z => gf q j i (by omega) (by omega) (by omega) (by omega) (by omega) (by omega)) (fun q a b => gf _ _ _ (by omega) (by omega) (by omega) (by omega) (by omega) (by omega)) (by rw [Gp]; omega) (fun i z => (E2o _ _ _ (by omega)).trans (E1o i (by omega) (by omega))) (by rw [E23, Gp]) (by rw [E2o _ _ _ (by omega)]; exact E11) ((G0 2 (Or.inr rfl)).trans C'2) (by rw [E2o _ _ _ (by omega), E12, G5]), zb2, cl2, w1, w2, w3, w4, w5, w6, w7⟩, by rw [E2o _ _ _ (by omega)]; exact y0, by rw [E2o _ _ _ (by omega)]; exact y1, fun i => gf _ _ _ (by omega) (by omega) (by omega) (by omega) (by omega) (by omega)⟩
  · rw [if_neg c, if_neg c]
    generalize hG : pu_rm (mi_st C' 40 0 5 w) a2 k w = G
    have Go : ∀ (q : Nat) (j i : Int), ¬ (q = 40 ∧ j = 0 ∧ (i = 4 ∨ i = 5 ∨ i = 6 ∨ i = 7)) → G q j i = C' q j i := fun q j i z => by rw [← hG, pu_rmo (by omega), pu_st, if_neg (by omega)]
    have G5 : G 40 0 5 = w := by rw [← hG, pu_rmo (by omega), pu_st_eq]
    have gf : ∀ (q : Nat) (j i : Int), ¬ (q = 43 ∧ 100 ≤ i) → ¬ (q = 46 ∧ 2400 ≤ j) → ¬ (q = 47 ∧ j = 0 ∧ i = 8) → ¬ (q = 48 ∧ j = 0 ∧ i = 8) → ¬ (q = 51 ∧ j = 8) → ¬ (q = 40 ∧ j = 0 ∧ i ≠ 11) → G q j i = D2 q j i := fun q j i z1 z2 z3 z4 z5 z6 => by rw [Go q j i (by omega), Co q j i z1 z2 z3 z4 z5 (by omega)]
    have gp : G 40 0 11 = D2 40 0 11 := gf _ _ _ (by omega) (by omega) (by omega) (by omega) (by omega) (by omega)
    obtain ⟨w1, w2, w3, w4, w5, w6, w7⟩ := cnt Z' rfl
    have PP : pu_P 0 Z' E1 G := pu_P.fnU (f := -1) h.zb A.p L.m zkE (fun x a b d => Zo _ _ _ (by omega) (by omega) (by omega) (by omega) (by omega) (by omega)) (fun p => Zo _ _ _ (by omega) (by omega) (by omega) (by omega) (by omega) (by omega)) (fun x a b d => ⟨gf _ _ _ (by omega) (by omega) (by omega) (by omega) (by omega) (by omega), fun i j p q => gf _ _ _ (by omega) (by omega) (by omega) (by omega) (by omega) (by omega)⟩) (by decide) (fun p a b => ⟨gf _ _ _ (by omega) (by omega) (by omega) (by omega) (by omega) (by omega), gf _ _ _ (by omega) (by omega) (by omega) (by omega) (by omega) (by omega), fun x => gf _ _ _ (by omega) (by omega) (by omega) (by omega) (by omega) (by omega)⟩) gp (fun z => absurd z (by decide))
    have MBG : pu_MB G := fun q g a b d e x => by
      rw [gp] at b
      have := A.p.n8
      rw [gf 47 _ _ (by omega) (by omega) (by omega) (by omega) (by omega) (by omega)] at x
      rw [gf 51 _ _ (by omega) (by omega) (by omega) (by omega) (by omega) (by omega)]
      exact L.m q g a b d e x
    exact Or.inl ⟨_, _, _, _, rfl, rfl, by rw [Go _ _ _ (by omega)]; exact C'0, ⟨L.n PP MBG f1 (fun q j i z => gf q j i (by omega) (by omega) (by omega) (by omega) (by omega) (by omega)) (fun q a b => gf _ _ _ (by omega) (by omega) (by omega) (by omega) (by omega) (by omega)) (by rw [gp]; exact Int.le_refl _) (fun i z => E1o i (by omega) (by omega)) (by rw [E13, gp]) E11 (by rw [Go _ _ _ (by omega)]; exact C'2) (by rw [E12, G5]), O.zb, cl', w1, w2, w3, w4, w5, w6, w7⟩, y0, y1, fun i => gf _ _ _ (by omega) (by omega) (by omega) (by omega) (by omega) (by omega)⟩
