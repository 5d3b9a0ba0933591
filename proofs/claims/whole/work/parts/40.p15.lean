def pu_m123 : Nat → Int := fun k => if k = 0 then 1 else if k = 1 then 2 else 3
theorem pu_zkG {Z Z' : MiZ} {B B' : MiD} {N6 N7 N23 : Int} (g : pw_G N6 N7 N23 Z Z' B B') (h6 : Z.2 6 ≤ N6) (h7 : Z.2 7 ≤ N7) (h23 : Z.2 23 ≤ N23) : pu_zk Z Z' B B' := by
  refine ⟨fun q j i z a b => g.z q j i ?_ ?_ ?_, fun q j i z a b => g.d q j i ?_ ?_ ?_ ?_⟩
  · rintro ⟨rfl, c⟩; omega
  · rintro ⟨rfl, c⟩; omega
  · rintro ⟨rfl, c⟩; omega
  · rintro ⟨rfl, c⟩; omega
  · rintro ⟨rfl, c⟩; omega
  · rintro ⟨rfl, c⟩; omega
  · omega
theorem pu_endsE {C : MiD} {a k w u : Int} : B_X11_ends u (pu_rm C a k w) = some (if k = 0 then u else mi_w (k - 10), pu_rm (mi_st C 40 0 5 w) a k w) := by
  unfold B_X11_ends B_X11_fine
  rw [pu_letE, pu_rm7, pu_rmso (by omega), pu_rm6]
  by_cases c : k = 0
  · rw [if_neg (fun z => z c), pu_biE, if_neg (by decide), if_pos c]
  · rw [if_pos c, pu_biE, if_pos rfl, if_neg c]
theorem pu_b3E {α : Type} {x : Int} {D : MiD} {Z : MiZ} {f : Int → MiD → MiZ → Option α} : mi_b3 (some (x, (D, Z))) f = f x D Z := Eq.symm (Eq.symm (Eq.refl (f x D Z)))
theorem pu_bwE {α : Type} {D : MiD} {Z : MiZ} {f : MiD → MiZ → Option α} : mi_bw (some (D, Z)) f = f D Z := Eq.symm (Eq.symm (Eq.refl (f D Z)))
theorem pu_emptyE {B : MiD} {v a k w u : Int} : B_X10_emptyTape u (pu_rd B v a k w) = some (pu_rd (mi_st (mi_st B 1 0 1 0) 1 0 2 u) v a k w) := by
  unfold B_X10_emptyTape
  rw [pu_letE, pu_letE, pu_rdso (by omega), pu_rdso (by omega)]
theorem pu_function_yes {Z : MiZ} {D1 D2 : MiD} {f n : Int} (h : pu_LL Z D1 D2) (hf : 0 ≤ f ∧ f < 12) (hn : 0 ≤ n ∧ n ≤ D2 40 0 2) (i1 : B_X11_areIdle (mi_st D2 40 0 0 0) = some 1) : pu_qns pu_m123 Z D1 D2 (B_X10_function_49 f n 1 D1 Z) (B_X11_function_66 f n 0 (mi_st D2 40 0 0 0)) := by
  have L := h.l
  have C := L.c
  have A := L.a
  have fE := pu_fuelE
  have t1 := C.tb1
  have hz : mi_st D2 40 0 0 0 40 0 0 = 0 := pu_st_eq
  have tb : ∀ i : Int, 0 ≤ i → i < n → -128 ≤ D1 10 0 i ∧ D1 10 0 i < 128 := fun i a b => ⟨(C.ta i a (by omega)).1, (C.ta i a (by omega)).2.1⟩
  have X1 := pu_X1.rd (D := D1) h.cl hn.1 (by omega) tb
  generalize hC0 : mi_st (mi_st (mi_st D2 40 0 0 0) 40 0 2 0) 40 0 3 n = C0
  have C0o : ∀ (q : Nat) (j i : Int), ¬ (q = 40 ∧ j = 0 ∧ (i = 0 ∨ i = 2 ∨ i = 3)) → C0 q j i = D2 q j i := fun q j i z => by rw [← hC0, pu_st, if_neg (by omega), pu_st, if_neg (by omega), pu_st, if_neg (by omega)]
  have C00 : C0 40 0 0 = 0 := by rw [← hC0, pu_st, if_neg (by omega), pu_st, if_neg (by omega), pu_st_eq]
  have C02 : C0 40 0 2 = 0 := by rw [← hC0, pu_st, if_neg (by omega), pu_st_eq]
  have X2 : pu_X2 n (fun i => D1 10 0 i) C0 := ⟨hn.1, by omega, by rw [← hC0, pu_st_eq], fun i a b => by rw [C0o _ _ _ (by omega)]; exact (C.ta i a (by omega)).2.2, tb⟩
  have n6 := (pu_nRZn (Z := Z) (r := Z.2 9)).1 6 (by decide)
  have n7 := (pu_nRZn (Z := Z) (r := Z.2 9)).1 7 (by decide)
  have n23 := (pu_nRZn (Z := Z) (r := Z.2 9)).1 23 (by decide)
  have cl0 : CL (pu_nRZ Z (Z.2 9)) := pu_CL.k h.cl fun q j i z => pu_nRZo (by omega)
  have zb0 := pu_nRZB (r := Z.2 9) h.zb
  obtain ⟨Z', B', C', a1, a2, k, w, r1, r2, u1, u2, g, e6, e23, q0, q1, zb', rf, k4, ok⟩ := pu_codeN (v1 := 0) (x := 100) (a := 0) (Or.inl rfl) X1 X2 zb0 cl0 (by rw [n6]; exact h.n6) (by rw [n7]; exact h.n7) (by rw [n23]; exact h.n23) (by decide) (by decide) hn.1
  rw [if_pos rfl] at r2
  have r3 := pu_readC (v := Z.2 9) (v1 := 0) (a := 0) (f := 0) (p := -1) (B := pu_nR D1 (Z.2 9) n) cl0 (by rw [n6]; exact h.n6) (by rw [n23]; exact h.n23)
  rw [if_pos rfl, r1] at r3
  have cl' := g.cl cl0
  have zk := pu_zkG g (Int.le_refl _) (Int.le_refl _) (Int.le_refl _)
  have nR := pu_nR0 (D := D1) (r := Z.2 9) (n := n)
  have Bo : ∀ (q : Nat) (j i : Int), ¬ (q = 6 ∧ Z.2 6 ≤ j) → ¬ (q = 7 ∧ Z.2 7 ≤ j) → ¬ (q = 23 ∧ Z.2 23 ≤ j) → ¬ (q = 9 ∧ j = Z.2 9) → ¬ (q = 0 ∧ j = 0 ∧ (i = 0 ∨ i = 1)) → B' q j i = D1 q j i := fun q j i p1 p2 p3 p4 p5 => by
    rw [g.d q j i (by rw [n6]; exact p1) (by rw [n7]; exact p2) (by rw [n23]; exact p3) p5, pu_nRo p4 p5]
  have Zo : ∀ (q : Nat) (j i : Int), ¬ (q = 6 ∧ Z.2 6 ≤ j) → ¬ (q = 7 ∧ Z.2 7 ≤ j) → ¬ (q = 23 ∧ Z.2 23 ≤ j) → ¬ (q = 9 ∧ j = Z.2 9) → Z'.1 q j i = Z.1 q j i := fun q j i p1 p2 p3 p4 => by
    rw [g.z q j i (by rw [n6]; exact p1) (by rw [n7]; exact p2) (by rw [n23]; exact p3), pu_nRZo p4]
  have Co : ∀ (q : Nat) (j i : Int), ¬ (q = 43 ∧ j = 0 ∧ i = 100) → ¬ (q = 46 ∧ 2400 ≤ j ∧ j < 2424) → ¬ (q = 40 ∧ j = 0 ∧ (i = 0 ∨ i = 2 ∨ i = 3)) → C' q j i = D2 q j i := fun q j i p1 p2 p3 => by
    rw [rf q j i p1 (by omega), C0o q j i p3]
  have C'0 : C' 40 0 0 = 0 := by rw [rf _ _ _ (by omega) (by omega)]; exact C00
  have C'2 : C' 40 0 2 = 0 := by rw [rf _ _ _ (by omega) (by omega)]; exact C02
  have cw' : mi_cw mi_s1 Z' := pu_cwk h.cw fun q p1 p2 p3 p4 p5 p6 => by rw [g.n q p1 p2 p5]; exact pu_nRZn.1 q p4
  have m6 : Z'.2 6 = Z.2 6 + 1 := by rw [e6, n6]
  have m7 : Z.2 7 ≤ Z'.2 7 := by have := g.n7; rw [n7] at this; exact this
  have m8 : Z'.2 8 = Z.2 8 := by rw [g.n 8 (by decide) (by decide) (by decide)]; exact pu_nRZn.1 8 (by decide)
  have m9 : Z'.2 9 = Z.2 9 + 1 := by rw [g.n 9 (by decide) (by decide) (by decide)]; exact pu_nRZn.2.1
  have m23 : Z'.2 23 = Z.2 23 + 1 := by rw [e23, n23]
  have m24 : Z'.2 24 = Z.2 24 := by rw [g.n 24 (by decide) (by decide) (by decide)]; exact pu_nRZn.1 24 (by decide)
  have zkZ : ∀ E : MiD, (∀ (q : Nat) (j i : Int), q ≠ 1 → E q j i = B' q j i) → pu_zk Z Z' D1 E := fun E e => by
    refine ⟨fun q j i z a b => Zo q j i ?_ ?_ ?_ ?_, fun q j i z a b => ?_⟩
    · rintro ⟨rfl, c⟩; omega
    · rintro ⟨rfl, c⟩; omega
    · rintro ⟨rfl, c⟩; omega
    · omega
    · rw [e q j i (by omega)]
      refine Bo q j i ?_ ?_ ?_ ?_ ?_
      · rintro ⟨rfl, c⟩; omega
      · rintro ⟨rfl, c⟩; omega
      · rintro ⟨rfl, c⟩; omega
      · omega
      · omega
  have ha : B_X10_function_49 f n 1 D1 Z = if k = 0 then some (.inl (B' 6 (Z.2 6) 1, (pu_rd (mi_st (mi_st B' 1 0 1 0) 1 0 2 w) (Z.2 9) a1 k w, (mi_st Z'.1 11 0 f (Z.2 6), Z'.2)))) else some (.inl (mi_w (k - 10), (pu_rd (mi_st (mi_st B' 1 0 1 0) 1 0 2 w) (Z.2 9) a1 k w, Z'))) := by
    have clf : CL (mi_st Z'.1 11 0 f (Z.2 6), Z'.2) := pu_CL.k cl' fun q j i z => by
      show mi_st Z'.1 11 0 f (Z.2 6) q j i = _
      rw [pu_st, if_neg (by omega)]
    unfold B_X10_function_49
    rw [if_pos (Or.inr rfl), pu_nS1, pu_newR h.cl h.n9]
    show mi_req (CL (pu_nRZ Z (Z.2 9))) _ = _
    rw [mi_req_t cl0, r3, pu_b3E, mi_req_t cl', pu_rd4, pu_emptyE, pu_biE, pu_rd3, n6]
    by_cases c : k = 0
    · rw [if_pos c, if_pos c, if_pos hf, if_pos h.n6, pu_letE, mi_req_t clf, pu_rdo (by omega), pu_st, if_neg (by omega), pu_st, if_neg (by omega)]
    · rw [if_neg c, if_neg c]
  have hb : B_X11_function_66 f n 0 (mi_st D2 40 0 0 0) = if k = 0 then mi_bi (B_X11_copiesCode 100 f (pu_rm C' a2 k w)) fun D9 => B_X11_function_102 f D9 else B_X11_function_102 f (pu_rm C' a2 k w) := by
    unfold B_X11_function_66 B_X11_fine
    rw [if_pos (Or.inl rfl), pu_bdg32, if_pos rfl, if_pos rfl, pu_startsE, pu_biE, hC0, r2, pu_biE, pu_rm6]
    by_cases c : k = 0
    · rw [if_neg (fun z => z c), pu_biE, if_neg (by decide), if_pos c]
    · rw [if_pos c, pu_biE, if_pos rfl, if_neg c]
  rw [ha, hb]
  have f102 : ∀ (E : MiD) (a k w : Int), B_X11_function_102 f (pu_rm E a k w) = some (if k = 0 then E 43 0 f else mi_w (k - 10), pu_rm (mi_st E 40 0 5 w) a k w) := fun E a k w => by
    unfold B_X11_function_102
    rw [if_pos (by omega), pu_rmo (by omega), pu_endsE, pu_b2E]
  generalize hE1 : pu_rd (mi_st (mi_st B' 1 0 1 0) 1 0 2 w) (Z.2 9) a1 k w = E1
  have Eo : ∀ (q : Nat) (j i : Int), q ≠ 1 → q ≠ 9 → E1 q j i = B' q j i := fun q j i p1 p2 => by rw [← hE1, pu_rdo (by omega), pu_st, if_neg (by omega), pu_st, if_neg (by omega)]
  have E1o : ∀ i : Int, i ≠ 1 → i ≠ 2 → E1 1 0 i = D1 1 0 i := fun i p1 p2 => by rw [← hE1, pu_rdo (by omega), pu_st, if_neg (by omega), pu_st, if_neg (by omega)]; exact Bo _ _ _ (by omega) (by omega) (by omega) (by omega) (by omega)
  have E11 : E1 1 0 1 = 0 := by rw [← hE1, pu_rdo (by omega), pu_st, if_neg (by omega), pu_st_eq]
  have E12 : E1 1 0 2 = w := by rw [← hE1, pu_rdo (by omega), pu_st_eq]
  have zkE : pu_zk Z Z' D1 E1 := by
    have q := zkZ B' (fun _ _ _ _ => rfl)
    exact ⟨q.z, fun q' j i z a b => by rw [Eo q' j i (by omega) (by omega)]; exact q.d q' j i z a b⟩
  have f1 : ∀ (q : Nat) (j i : Int), q = 2 ∨ q = 3 ∨ q = 4 ∨ q = 5 ∨ q = 15 ∨ q = 16 ∨ q = 17 ∨ q = 18 ∨ q = 19 ∨ q = 20 ∨ q = 21 ∨ q = 22 → E1 q j i = D1 q j i := fun q j i z => (Eo q j i (by omega) (by omega)).trans (Bo q j i (by omega) (by omega) (by omega) (by omega) (by omega))
  have x0 : E1 0 0 0 ≤ D1 0 0 0 + 400 := by rw [Eo _ _ _ (by decide) (by decide)]; rw [nR.1] at q0; omega
  have x1 : E1 0 0 1 ≤ D1 0 0 1 + 3000 := by rw [Eo _ _ _ (by decide) (by decide)]; rw [nR.2.1] at q1; omega
  have fin : ∀ (Z2 : MiZ) (G : MiD), pu_P 0 Z2 E1 G → pu_ZB Z2 → CL Z2 → Z2.2 = Z'.2 → (∀ (q : Nat) (j i : Int), q ≠ 43 → q ≠ 46 → ¬ (q = 40 ∧ j = 0 ∧ i ≠ 11) → G q j i = D2 q j i) → G 40 0 2 = 0 → G 40 0 5 = w → pu_LL Z2 E1 G := fun Z2 G hP hZ hC h2 go g2 g5 => by
    have g11 : G 40 0 11 = D2 40 0 11 := go _ _ _ (by decide) (by decide) (by omega)
    refine ⟨L.n hP (L.m.k fun q j i z => go q j i (by omega) (by omega) (by omega)) f1 (fun q j i z => go q j i (by omega) (by omega) (by omega)) (fun p _ _ => go _ _ _ (by decide) (by decide) (by omega)) (by rw [g11]; exact Int.le_refl _) (fun i z => E1o i (by omega) (by omega)) (by rw [E1o 3 (by decide) (by decide), g11]; exact C.pc) E11 g2 (by rw [E12, g5]), hZ, hC, ⟨fun r a b => by rw [h2]; exact cw'.1 r a b, fun r a => by rw [h2]; exact cw'.2 r a⟩, ?_, ?_, ?_, ?_, ?_, ?_⟩
    · rw [h2, m6]; have := h.n6; omega
    · rw [h2]; have := h.n7; omega
    · rw [h2, m8]; exact h.n8
    · rw [h2, m9]; have := h.n9; omega
    · rw [h2, m23]; have := h.n23; omega
    · rw [h2, m24]; exact h.n24
  by_cases c : k = 0
  · subst c
    obtain ⟨w1, cC, -⟩ := ok rfl
    subst w1
    have c24 := cC.2.2.2.2.2.1
    rw [n6] at cC
    obtain ⟨F, F1, F2, F3, F4⟩ := pu_ccE (x := 100) (y := f) (D := pu_rm C' a2 0 (-1)) (by decide) (by omega) (by omega) (by rw [pu_rmo (by omega)]; exact c24)
    rw [pu_rmo (by omega)] at F2 F3
    have Frm : F = pu_rm F a2 0 (-1) := by
      funext q j i
      unfold pu_rm
      by_cases d1 : q = 40 ∧ j = 0 ∧ i = 4
      · rw [if_pos d1, d1.1, d1.2.1, d1.2.2, F4 _ _ _ (by omega) (by omega), pu_rm4]
      · rw [if_neg d1]
        by_cases d2 : q = 40 ∧ j = 0 ∧ i = 6
        · rw [if_pos d2, d2.1, d2.2.1, d2.2.2, F4 _ _ _ (by omega) (by omega), pu_rm6]
        · rw [if_neg d2]
          by_cases d3 : q = 40 ∧ j = 0 ∧ i = 7
          · rw [if_pos d3, d3.1, d3.2.1, d3.2.2, F4 _ _ _ (by omega) (by omega), pu_rm7]
          · rw [if_neg d3]
    rw [if_pos rfl, if_pos rfl, F1, pu_biE, Frm, f102, if_pos rfl, F2]
    generalize hG : pu_rm (mi_st F 40 0 5 (-1)) a2 0 (-1) = G
    have GF : ∀ (q : Nat) (j i : Int), ¬ (q = 40 ∧ j = 0 ∧ (i = 4 ∨ i = 5 ∨ i = 6 ∨ i = 7)) → G q j i = F q j i := fun q j i z => by rw [← hG, pu_rmo (by omega), pu_st, if_neg (by omega)]
    have Go : ∀ (q : Nat) (j i : Int), ¬ (q = 40 ∧ j = 0 ∧ (i = 4 ∨ i = 5 ∨ i = 6 ∨ i = 7)) → ¬ (q = 43 ∧ j = 0 ∧ i = f) → ¬ (q = 46 ∧ 24 * f ≤ j ∧ j < 24 * f + 24) → G q j i = C' q j i := fun q j i z1 z2 z3 => by rw [GF q j i z1, F4 q j i z2 z3, pu_rmo (by omega)]
    have G5 : G 40 0 5 = -1 := by rw [← hG, pu_rmo (by omega), pu_st_eq]
    have gf : ∀ (q : Nat) (j i : Int), q ≠ 43 → q ≠ 46 → ¬ (q = 40 ∧ j = 0 ∧ i ≠ 11) → G q j i = D2 q j i := fun q j i p1 p2 p3 => by rw [Go q j i (by omega) (by omega) (by omega), Co q j i (by omega) (by omega) (by omega)]
    have cf : B' 6 (Z.2 6) 1 = C' 43 0 100 := cC.2.2.2.1
    generalize hZ2 : (mi_st Z'.1 11 0 f (Z.2 6), Z'.2) = Z2
    have z2n : Z2.2 = Z'.2 := by rw [← hZ2]
    have z2o : ∀ (q : Nat) (j i : Int), ¬ (q = 11 ∧ j = 0 ∧ i = f) → Z2.1 q j i = Z'.1 q j i := fun q j i z => by
      rw [← hZ2]; show mi_st Z'.1 11 0 f (Z.2 6) q j i = _; rw [pu_st, if_neg z]
    have z2f : Z2.1 11 0 f = Z.2 6 := by rw [← hZ2]; show mi_st Z'.1 11 0 f (Z.2 6) 11 0 f = _; rw [pu_st_eq]
    have zb2 : pu_ZB Z2 := by
      refine ⟨fun x a b => ?_, fun x i a b d e => ?_, fun x a b => ?_, fun x a b => ?_, fun x a b => ?_, fun x i a b d e => ?_⟩
      · rw [z2n] at b ⊢; rw [z2o _ _ _ (by omega)]; exact zb'.c x a b
      · rw [z2n] at b ⊢; rw [z2o _ _ _ (by omega)]; exact zb'.a x i a b d e
      · rw [z2n]
        by_cases e : x = f
        · rw [e, z2f, m6]; omega
        · rw [z2o _ _ _ (by omega)]; exact zb'.f x a b
      · rw [z2n, z2o _ _ _ (by omega)]; exact zb'.p x a b
      · rw [z2n] at b ⊢; rw [z2o _ _ _ (by omega), z2o _ _ _ (by omega), z2o _ _ _ (by omega), z2o _ _ _ (by omega)]; exact zb'.P x a b
      · rw [z2n] at b ⊢; rw [z2o _ _ _ (by omega)]; exact zb'.k x i a b d e
    have cl2 : CL Z2 := pu_CL.k cl' fun q j i z => z2o q j i (by omega)
    have zk2 : pu_zk Z Z2 D1 E1 := ⟨fun q j i z a b => (z2o q j i (by omega)).trans (zkE.z q j i z a b), zkE.d⟩
    have cN : pu_C Z2 E1 (Z2.1 11 0 f) G f := by
      rw [z2f]
      have s1 : pu_C Z' B' (Z.2 6) G f := cC.cp ⟨by omega, by omega⟩ (by rw [GF _ _ _ (by omega), F2]) (fun l i p1 p2 p3 p4 => by rw [GF _ _ _ (by omega), F3 l i p1 p2 p3 p4, pu_rmo (by omega)])
      obtain ⟨s2, s3, s4, s5, s6, s7, s8⟩ := s1
      refine ⟨s2, s3, by rw [z2o _ _ _ (by omega)]; exact s4, by rw [Eo _ _ _ (by decide) (by decide)]; exact s5, s6, s7, fun i p q => ?_⟩
      rw [z2o 6 _ _ (by omega), z2o 23 _ _ (by omega)]
      exact (s8 i p q).k (z2o _ _ _ (by omega)) (fun j => Eo _ _ _ (by decide) (by decide)) (fun j => rfl)
    refine Or.inl ⟨_, _, _, _, by rw [cf], rfl, by rw [Go _ _ _ (by omega) (by omega) (by omega)]; exact C'0, fin Z2 G ?_ zb2 cl2 z2n gf (by rw [Go _ _ _ (by omega) (by omega) (by omega)]; exact C'2) G5, x0, x1, fun i => gf _ _ _ (by decide) (by decide) (by omega)⟩
    refine pu_P.fnU (f := f) h.zb A.p L.m zk2 (fun x a b d => ?_) (fun p => ?_) (fun x a b d => ⟨?_, fun i j p q => ?_⟩) hf.2 (fun p a b => ⟨gf _ _ _ (by decide) (by decide) (by omega), gf _ _ _ (by decide) (by decide) (by omega), fun x => gf _ _ _ (by decide) (by decide) (by omega)⟩) (gf _ _ _ (by decide) (by decide) (by omega)) (fun _ => cN)
    · rw [z2o _ _ _ (by omega)]; exact Zo _ _ _ (by omega) (by omega) (by omega) (by omega)
    · rw [z2o _ _ _ (by omega)]; exact Zo _ _ _ (by omega) (by omega) (by omega) (by omega)
    · rw [Go _ _ _ (by omega) (by omega) (by omega)]; exact Co _ _ _ (by omega) (by omega) (by omega)
    · rw [Go _ _ _ (by omega) (by omega) (by omega)]; exact Co _ _ _ (by omega) (by omega) (by omega)
  · rw [if_neg c, if_neg c, f102, if_neg c]
    generalize hG : pu_rm (mi_st C' 40 0 5 w) a2 k w = G
    have Go : ∀ (q : Nat) (j i : Int), ¬ (q = 40 ∧ j = 0 ∧ (i = 4 ∨ i = 5 ∨ i = 6 ∨ i = 7)) → G q j i = C' q j i := fun q j i z => by rw [← hG, pu_rmo (by omega), pu_st, if_neg (by omega)]
    have G5 : G 40 0 5 = w := by rw [← hG, pu_rmo (by omega), pu_st_eq]
    have gf : ∀ (q : Nat) (j i : Int), q ≠ 43 → q ≠ 46 → ¬ (q = 40 ∧ j = 0 ∧ i ≠ 11) → G q j i = D2 q j i := fun q j i p1 p2 p3 => by rw [Go q j i (by omega), Co q j i (by omega) (by omega) (by omega)]
    refine Or.inl ⟨_, _, _, _, rfl, rfl, by rw [Go _ _ _ (by omega)]; exact C'0, fin Z' G ?_ zb' cl' rfl gf (by rw [Go _ _ _ (by omega)]; exact C'2) G5, x0, x1, fun i => gf _ _ _ (by decide) (by decide) (by omega)⟩
    refine pu_P.fnU (f := -1) h.zb A.p L.m zkE (fun x a b d => Zo _ _ _ (by omega) (by omega) (by omega) (by omega)) (fun p => Zo _ _ _ (by omega) (by omega) (by omega) (by omega)) (fun x a b d => ⟨?_, fun i j p q => ?_⟩) (by decide) (fun p a b => ⟨gf _ _ _ (by decide) (by decide) (by omega), gf _ _ _ (by decide) (by decide) (by omega), fun x => gf _ _ _ (by decide) (by decide) (by omega)⟩) (gf _ _ _ (by decide) (by decide) (by omega)) (fun z => absurd z (by decide))
    · rw [Go _ _ _ (by omega)]; exact Co _ _ _ (by omega) (by omega) (by omega)
    · rw [Go _ _ _ (by omega)]; exact Co _ _ _ (by omega) (by omega) (by omega)
theorem pu_function {Z : MiZ} {D1 D2 : MiD} {f n : Int} (h : pu_LL Z D1 D2) : pu_qns pu_m123 Z D1 D2 (B_X10_function f n D1 Z) (B_X11_function f n D2) := by
  have L := h.l
  have C := L.c
  have z2 : mi_st D2 40 0 0 0 40 0 2 = D2 40 0 2 := by rw [pu_st, if_neg (by omega)]
  by_cases cf : 0 ≤ f ∧ f < 12
  · have e1 : B_X10_function f n D1 Z = if n < 0 then B_X10_function_27 f n D1 Z else (if D2 40 0 2 < n then B_X10_function_27 f n D1 Z else B_X10_function_28 f n 1 D1 Z) := by
      unfold B_X10_function
      rw [pu_within, if_pos cf, pu_nE1, C.tb]
    have e2 : B_X11_function f n D2 = if 0 ≤ n ∧ n ≤ D2 40 0 2 then B_X11_function_45 f n 0 (mi_st D2 40 0 0 0) else B_X11_function_45 f n 1 (mi_st D2 40 0 0 0) := by
      unfold B_X11_function B_X11_isFunction B_X11_function_19
      rw [pu_letE, pu_in, if_pos (show 0 ≤ f ∧ f ≤ 11 by omega), if_pos (show (1 : Int) ≠ 0 by decide), if_pos (show (0 : Int) = 0 ∨ (0 : Int) = 1 from Or.inl rfl), pu_bdg10, if_pos rfl, if_neg (show ¬ ((0 : Int) ≠ 0) by decide), pu_in, z2]
      by_cases c : 0 ≤ n ∧ n ≤ D2 40 0 2
      · rw [if_pos c, if_pos (show (1 : Int) ≠ 0 by decide), if_pos c]
      · rw [if_neg c, if_neg (show ¬ ((0 : Int) ≠ 0) by decide), if_neg c]
    rw [e1, e2]
    by_cases cn : 0 ≤ n ∧ n ≤ D2 40 0 2
    · obtain ⟨y, b, i1, i2, i3, i4, i5⟩ := pu_idle L.z.a
      rw [if_neg (by omega), if_neg (by omega), if_pos cn]
      have e3 : B_X10_function_28 f n 1 D1 Z = if y ≠ 63 then B_X10_function_49 f n 0 D1 Z else B_X10_function_49 f n 1 D1 Z := by
        unfold B_X10_function_28
        rw [if_pos (Or.inr rfl), pu_nA1, i1, pu_biE]
      have e4 : B_X11_function_45 f n 0 (mi_st D2 40 0 0 0) = if b ≠ 0 then B_X11_function_66 f n 0 (mi_st D2 40 0 0 0) else B_X11_function_66 f n 1 (mi_st D2 40 0 0 0) := by
        unfold B_X11_function_45
        rw [if_pos (Or.inl rfl), pu_bdg21, if_pos rfl, if_neg (show ¬ ((0 : Int) ≠ 0) by decide), i2, pu_biE]
      rw [e3, e4]
      by_cases cb : b = 1
      · rw [if_neg (fun z => z (i4.mpr cb)), if_pos (by omega)]
        exact pu_function_yes h cf cn (by rw [i2, cb])
      · rw [if_pos (fun z => cb (i4.mp z)), if_neg (by omega)]
        refine pu_qns.rf (k := 2) (r := 2) (v := 0) L (by decide) rfl (by decide) ?_ ?_
        · unfold B_X10_function_49
          rw [if_pos (Or.inl rfl), pu_nS]
        · unfold B_X11_function_66
          rw [if_pos (Or.inr rfl), pu_bdg32, if_neg (by decide), if_neg (by decide)]
          rfl
    · refine pu_qns.rf (k := 1) (r := 1) (v := 0) L (by decide) rfl (by decide) ?_ ?_
      · unfold B_X10_function_27 B_X10_function_28
        by_cases c1 : n < 0
        · rw [if_pos c1, if_pos (Or.inl rfl), pu_nA]
        · rw [if_neg c1, if_pos (by omega), if_pos (Or.inl rfl), pu_nA]
      · unfold B_X11_function_45
        rw [if_neg cn, if_pos (Or.inr rfl), pu_bdg21, if_neg (by decide), if_pos (by decide)]
        rfl
  · refine pu_qns.rf (k := 0) (r := 0) (v := 0) L (by decide) rfl (by decide) ?_ ?_
    · unfold B_X10_function
      rw [pu_within, if_neg cf, pu_nE]
    · unfold B_X11_function B_X11_isFunction B_X11_function_19
      rw [pu_letE, pu_in, if_neg (show ¬ (0 ≤ f ∧ f ≤ 11) by omega), if_neg (show ¬ ((0 : Int) ≠ 0) by decide), if_pos (Or.inr rfl), pu_bdg10, if_neg (by decide), if_pos (by decide)]
      rfl
