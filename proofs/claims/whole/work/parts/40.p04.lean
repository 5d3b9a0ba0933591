theorem pu_act {w t : Int} {Z : MiZ} {D1 D2 : MiD} (hw : 0 ≤ w ∧ w < 2) (ht : 0 ≤ t ∧ t < 6) (h : pu_A w Z D1 D2) (h0 : 0 < D2 59 t 0) :
    ∃ E b, B_X9_act Z w t D1 = some E ∧ B_X11_goesOn t D2 = some b ∧ pu_acP w t Z D1 D2 E b := by
  have K := h.t t ht.1 ht.2
  have h10 := K.fr1
  have r0 := K.re0
  by_cases hrest : 0 < D2 59 t 3
  · exact pu_act_rest hw ht h h0 hrest
  have hr : D2 59 t 3 = 0 := by omega
  have F := K.f (D2 59 t 0 - 1) (by omega) (by omega)
  have fa0 := F.a0
  have fa1 := F.a1
  have he : 0 ≤ D2 59 t 0 - 1 ∧ D2 59 t 0 - 1 < 10 := by omega
  have hT : 0 ≤ 6 * w + t ∧ 6 * w + t < 12 := by omega
  obtain ⟨c, k, e1, e2, hC⟩ := pu_codeOf (D1 := D1) (t := t) (e := D2 59 t 0 - 1) h.p ht he ⟨F.p0, F.p1⟩ ⟨F.f0, F.f1⟩ F.h rfl rfl
  have hC5 : pu_C Z (pu_c1 w t D1) c D2 k := hC.kept ⟨fun q j i z => pu_c1_o (by omega), fun _ _ _ _ => rfl, rfl⟩
  obtain ⟨C1, C2, C3, C4, C5, C6, C7⟩ := id hC
  suffices hs : ∃ E G z, B_X9_doDeed Z w t (D2 59 t 0 - 1) (pu_c1 w t D1) = some (z, E) ∧ B_X11_goesOn t D2 = B_X11_goesOn_326 t G ∧ pu_mid w t D1 D2 E G z by
    obtain ⟨E, G, z, s1, s2, s3⟩ := hs
    obtain ⟨F', b, u1, u2, u3⟩ := s3.fin hw ht h
    refine ⟨F', b, ?_, by rw [s2, u2], u3⟩
    unfold B_X9_act
    simp only [mi_let, K.fr, K.re, hr, ht, and_self, if_true, Int.le_refl, pu_within]
    rw [pu_w (x := D2 59 t 0 - 1) (by omega) (by omega), if_pos (show (if 0 ≤ D2 59 t 0 - 1 ∧ D2 59 t 0 - 1 < 10 then (1 : Int) else 0) ≠ 0 by rw [if_pos he]; decide)]
    have e : mi_st D1 4 (6 * w + t) 10 (mi_w (D1 4 (6 * w + t) 10 + 1)) = pu_c1 w t D1 := rfl
    rw [e, s1]
    exact u1
  have l1 : pu_c1 w t D1 19 (6 * w + t) (D2 59 t 0 - 1) = D2 63 (10 * t + (D2 59 t 0 - 1)) 0 := by rw [pu_c1_o (by omega)]; exact F.f
  have l2 : pu_c1 w t D1 20 (6 * w + t) (D2 59 t 0 - 1) = D2 63 (10 * t + (D2 59 t 0 - 1)) 1 := by rw [pu_c1_o (by omega)]; exact F.p
  have l3 : pu_c1 w t D1 21 (6 * w + t) (D2 59 t 0 - 1) = D2 63 (10 * t + (D2 59 t 0 - 1)) 2 := by rw [pu_c1_o (by omega)]; exact F.a
  have e1' : B_X9_codeOf (pu_c1 w t D1) Z w (D2 63 (10 * t + (D2 59 t 0 - 1)) 0) (D2 63 (10 * t + (D2 59 t 0 - 1)) 1) = some c := e1
  unfold B_X9_doDeed B_X11_goesOn
  rw [if_pos ht, if_pos he, l1, l2, l3, e1', if_pos (show 0 ≤ t ∧ t < 7 by omega), if_pos (show D2 59 t 3 ≤ 0 by omega), if_pos ht, pu_w (x := D2 59 t 0 - 1) (by omega) (by omega), if_pos he]
  unfold B_X11_deedsOf
  rw [e2]
  simp only [mi_bi, mi_let]
  rw [if_pos C2]
  rw [pu_w (x := D2 63 (10 * t + (D2 59 t 0 - 1)) 2 + 1) (by omega) (by omega), pu_w (x := D2 63 (10 * t + (D2 59 t 0 - 1)) 2 + 1 - 1) (by omega) (by omega), if_neg (show ¬ c < 0 by omega), if_pos C1, show D2 63 (10 * t + (D2 59 t 0 - 1)) 2 + 1 - 1 = D2 63 (10 * t + (D2 59 t 0 - 1)) 2 by omega]
  dsimp only
  rw [pu_w (x := D2 43 0 k - D2 63 (10 * t + (D2 59 t 0 - 1)) 2) (by omega) (by omega)]
  rcases pu_deedAt hC5 fa0 with ⟨a1, a2, a3⟩ | ⟨a1, a2⟩
  · rw [a2, if_neg (show ¬ D2 43 0 k - D2 63 (10 * t + (D2 59 t 0 - 1)) 2 ≤ 0 by omega), if_pos C2, if_pos (show 0 ≤ D2 63 (10 * t + (D2 59 t 0 - 1)) 2 ∧ D2 63 (10 * t + (D2 59 t 0 - 1)) 2 < 24 by omega)]
    unfold B_X11_goesOn_103
    rw [if_neg (by omega), if_pos (by omega)]
    exact pu_deedA hw ht h h0 hr hC a1 (C7 _ fa0 a1) rfl
  · rw [a2, if_pos (show D2 43 0 k - D2 63 (10 * t + (D2 59 t 0 - 1)) 2 ≤ 0 by omega)]
    unfold B_X11_goesOn_103 B_X9_doDeed_53 B_X11_goesOn_118 B_X7_pop
    have hc2 : mi_st (mi_st D2 59 t 6 (mi_w (D2 59 t 6 + 1))) 59 t 1 0 = pu_c2 t D2 := rfl
    have v4 : pu_c1 w t D1 4 (6 * w + t) 4 = D2 59 t 0 := by rw [pu_c1_o (by omega)]; exact K.fr
    have n2 : pu_c2 t D2 59 t 0 = D2 59 t 0 := pu_c2_o (by omega)
    have hre := K.re
    have fa := F.a
    have fb := F.b
    simp only [mi_let, mi_bi, hc2, v4, n2, hT, and_self, if_true, Int.reduceLT, Int.reduceNeg, Int.reduceEq, if_false, show 0 ≤ t ∧ t < 7 by omega]
    rw [pu_w (x := D2 59 t 0 - 1) (by omega) (by omega), show mi_max (D2 59 t 0 - 1) 0 = D2 59 t 0 - 1 by unfold mi_max; rw [if_neg (by omega)]]
    refine ⟨_, _, _, rfl, rfl, pu_midS (n := D2 59 t 0 - 1) (r := 0) (a := D2 63 (10 * t + (D2 59 t 0 - 1)) 2) (b := D2 63 (10 * t + (D2 59 t 0 - 1)) 3) (z := 0) hw ht h h0 (fun q j i => ?_) (fun q j i => ?_) (by omega) (by decide) (by omega) (by decide) (fun z => by omega)⟩
    · unfold pu_c1; clear h K hC hC5 C7 F e1 e1' a2; grind (splits := 30) [mi_st]
    · unfold pu_c2; clear h K hC hC5 C7 F e1 e1' a2; grind (splits := 30) [mi_st]
theorem pu_act0 {w t : Int} {Z : MiZ} {D1 D2 : MiD} (hw : 0 ≤ w ∧ w < 2) (ht : 0 ≤ t ∧ t < 6) (h : pu_A w Z D1 D2) (h0 : D2 59 t 0 = 0) : B_X9_act Z w t D1 = some D1 := by
  have K := h.t t ht.1 ht.2
  unfold B_X9_act
  simp only [mi_let, K.fr, h0, ht, and_self, if_true]
  rfl
def pu_p1 (w : Int) (D E : MiD) : Prop := ∀ (q : Nat) (j i : Int), ¬ ((q = 3 ∨ q = 17 ∨ q = 18) ∧ 60 * w ≤ j ∧ j < 60 * w + 60) → ¬ (q = 5 ∧ j = 7 * w) → ¬ (q = 2 ∧ j = w ∧ i = 13) → E q j i = D q j i
def pu_p2 (D E : MiD) : Prop := ∀ (q : Nat) (j i : Int), ¬ (q = 52 ∨ q = 53 ∨ q = 55 ∨ q = 57) → ¬ (q = 40 ∧ j = 0 ∧ (i = 25 ∨ i = 26)) → ¬ (q = 59 ∧ j = 6 ∧ i = 2) → ¬ (q = 60 ∧ j = 0 ∧ i = 6) → ¬ (q = 65 ∧ j = 0 ∧ i = 7) → E q j i = D q j i
theorem pu_p1.tr {w : Int} {D E F : MiD} (h : pu_p1 w D E) (k : pu_p1 w E F) : pu_p1 w D F := fun q j i a b c => (k q j i a b c).trans (h q j i a b c)
theorem pu_p2.tr {D E F : MiD} (h : pu_p2 D E) (k : pu_p2 E F) : pu_p2 D F := fun q j i a b c d e => (k q j i a b c d e).trans (h q j i a b c d e)
theorem pu_p1.cd {w : Int} {D1 D2 E1 E2 : MiD} (h : pu_p1 w D1 E1) (k : pu_p2 D2 E2) : pu_cdS D1 D2 E1 E2 :=
  ⟨fun q j i z => h q j i (by omega) (by omega) (by omega), fun q j i z => k q j i (by omega) (by omega) (by omega) (by omega) (by omega), k 40 0 11 (by omega) (by omega) (by omega) (by omega) (by omega)⟩
def pu_pfP (w : Int) (D1 D2 E G : MiD) : Prop := (pu_D w E G) ∧ (pu_v E (7 * w) G 6) ∧ (E 2 w 13 = G 65 0 7) ∧ (pu_p1 w D1 E) ∧ (pu_p2 D2 G)
theorem pu_pfP.d {w : Int} {D1 D2 E G : MiD} (h : pu_pfP w D1 D2 E G) : pu_D w E G := h.1
theorem pu_pfP.v {w : Int} {D1 D2 E G : MiD} (h : pu_pfP w D1 D2 E G) : pu_v E (7 * w) G 6 := h.2.1
theorem pu_pfP.n {w : Int} {D1 D2 E G : MiD} (h : pu_pfP w D1 D2 E G) : E 2 w 13 = G 65 0 7 := h.2.2.1
theorem pu_pfP.f1 {w : Int} {D1 D2 E G : MiD} (h : pu_pfP w D1 D2 E G) : pu_p1 w D1 E := h.2.2.2.1
theorem pu_pfP.f2 {w : Int} {D1 D2 E G : MiD} (h : pu_pfP w D1 D2 E G) : pu_p2 D2 G := h.2.2.2.2
theorem pu_pf_l {w c k : Int} {Z : MiZ} (hw : 0 ≤ w ∧ w < 2) : ∀ (f : Nat) (a : Int) (D1 D2 : MiD), pu_C Z D1 c D2 k → pu_D w D1 D2 → pu_v D1 (7 * w) D2 6 → D1 2 w 13 = D2 65 0 7 → 0 ≤ a → a ≤ 200 → 0 < f → D2 43 0 k - a < f →
    ∃ E G, B_X9_perform_13 Z f w c (7 * w) a D1 = some E ∧ B_X11_doesAll_20 f k a D2 = some G ∧ pu_pfP w D1 D2 E G
  | 0, a, D1, D2, hC, hD, hv, hn, h1, h2, h3, h4 => by omega
  | f + 1, a, D1, D2, hC, hD, hv, hn, h1, h2, h3, h4 => by
    obtain ⟨C1, C2, C3, C4, C5, C6, C7⟩ := id hC
    unfold B_X9_perform_13 B_X11_doesAll_20
    rw [C4, if_pos C2]
    by_cases c0 : D2 43 0 k ≤ a
    · rw [if_pos c0, if_pos c0]
      exact ⟨_, _, rfl, rfl, ⟨hD, hv, hn, fun _ _ _ _ _ _ => rfl, fun _ _ _ _ _ _ _ _ => rfl⟩⟩
    rw [if_neg c0, if_neg c0, if_pos (show 0 ≤ a ∧ a < 24 by omega)]
    rcases pu_deedAt hC h1 with ⟨b1, b2, b3⟩ | ⟨b1, b2⟩
    · obtain ⟨d1, d2, d3, d4, d5, d6, d7, d8, dR⟩ := id b3
      rw [b2]
      generalize hy : Z.1 23 (Z.1 6 c 0) a = y at *
      simp only [mi_bi, d3, d1, d4, and_self, if_true, show ¬ y < 0 by omega, if_false]
      by_cases o1 : D2 46 (24 * k + a) 0 = 1
      · simp only [o1, if_true, ne_eq, not_true_eq_false, if_false]
        exact ⟨_, _, rfl, rfl, ⟨hD, hv, hn, fun _ _ _ _ _ _ => rfl, fun _ _ _ _ _ _ _ _ => rfl⟩⟩
      simp only [o1, if_false, ne_eq, not_false_eq_true, if_true]
      have go : ∀ a' : Int, a ≤ a' → a' ≤ 150 → ∃ E G, B_X9_perform_71 Z (B_X9_perform_13 Z f) w c (7 * w) a' y D1 = some E ∧ B_X11_doesAll_69 (B_X11_doesAll_20 f) k a' (24 * k + a) D2 = some G ∧ pu_pfP w D1 D2 E G := by
        intro a' u1 u2
        obtain ⟨A, eA, B, eB, p1, p2, p3, p4, p5, p6, p7⟩ := pu_does (Z := Z) (t := 6) hw (by decide) hD b3 hv
        unfold B_X9_perform_71 B_X11_doesAll_69
        rw [if_pos d1, if_pos (show 0 ≤ 7 * w ∧ 7 * w < 14 by omega), eA, if_pos d2, eB]
        simp only [mi_b2, mi_bi, mi_let]
        rw [pu_w (x := a' + 1) (by omega) (by omega)]
        have F1 : pu_p1 w D1 A.2 := fun q j i z1 z2 z3 => p6 q j i z1 z2
        have F2 : pu_p2 D2 B.2 := fun q j i z1 z2 z3 z4 z5 => p7 q j i z1 z2 z3 z4
        have n1 : A.2 2 w 13 = D1 2 w 13 := p6 _ _ _ (by omega) (by omega)
        have n2 : B.2 65 0 7 = D2 65 0 7 := p7 _ _ _ (by omega) (by omega) (by omega) (by omega)
        have c43 : B.2 43 0 k = D2 43 0 k := p7 _ _ _ (by omega) (by omega) (by omega) (by omega)
        by_cases z0 : A.1 = 0
        · rw [if_pos z0, if_pos (by omega)]
          obtain ⟨E, G, g1, g2, g3⟩ := pu_pf_l hw f (a' + 1) A.2 B.2 (hC.kept (F1.cd F2)) p4 p5 (by rw [n1, n2]; exact hn) (by omega) (by omega) (by omega) (by rw [c43]; omega)
          exact ⟨E, G, g1, g2, ⟨g3.d, g3.v, g3.n, F1.tr g3.f1, F2.tr g3.f2⟩⟩
        · rw [if_neg z0, if_neg (by omega)]
          generalize hA' : mi_st A.2 2 w 13 (mi_w (A.2 2 w 13 + 1)) = A'
          generalize hB' : mi_st B.2 65 0 7 (mi_w (B.2 65 0 7 + 1)) = B'
          have s1 : ∀ (q : Nat) (j i : Int), ¬ (q = 2 ∧ j = w ∧ i = 13) → A' q j i = A.2 q j i := fun q j i z => by rw [← hA', pu_st, if_neg z]
          have s2 : ∀ (q : Nat) (j i : Int), ¬ (q = 65 ∧ j = 0 ∧ i = 7) → B' q j i = B.2 q j i := fun q j i z => by rw [← hB', pu_st, if_neg z]
          have F1' : pu_p1 w D1 A' := fun q j i z1 z2 z3 => (s1 q j i z3).trans (F1 q j i z1 z2 z3)
          have F2' : pu_p2 D2 B' := fun q j i z1 z2 z3 z4 z5 => (s2 q j i z5).trans (F2 q j i z1 z2 z3 z4 z5)
          obtain ⟨E, G, g1, g2, g3⟩ := pu_pf_l hw f (a' + 1) A' B' (hC.kept (F1'.cd F2')) (p4.o (fun q j i z => s1 q j i (by omega)) (fun q j i z => s2 q j i (by omega))) (by
            unfold pu_v at p5 ⊢
            rw [s1 _ _ _ (by omega), s1 _ _ _ (by omega), s2 _ _ _ (by omega), s2 _ _ _ (by omega)]
            exact p5) (by rw [← hA', ← hB', pu_st_eq, pu_st_eq, n1, n2, hn]) (by omega) (by omega) (by omega) (by rw [s2 _ _ _ (by omega), c43]; omega)
          exact ⟨E, G, g1, g2, ⟨g3.d, g3.v, g3.n, F1'.tr g3.f1, F2'.tr g3.f2⟩⟩
      by_cases o4 : D2 46 (24 * k + a) 0 = 4
      · obtain ⟨q1, q2, q3⟩ := d8 (Or.inr o4)
        simp only [o4, not_true_eq_false, if_false, if_true, show 0 ≤ 7 * w ∧ 7 * w < 14 by omega, and_self]
        rcases pu_nothing (t := 6) (by decide) hv with ⟨n1, n3⟩ | ⟨n1, n3⟩
        · rw [n1, n3]
          simp only [Int.reduceEq, if_false, mi_let, q1]
          rw [pu_w (x := a + D2 46 (24 * k + a) 1) (by omega) (by omega)]
          exact go _ (by omega) (by omega)
        · rw [n1, n3]
          simp only [if_true]
          exact go _ (by omega) (by omega)
      · simp only [o4, not_false_eq_true, if_false, if_true]
        exact go _ (by omega) (by omega)
    · omega
theorem pu_perform {w c k : Int} {Z : MiZ} {D1 D2 : MiD} (hw : 0 ≤ w ∧ w < 2) (hC : pu_C Z D1 c D2 k) (hD : pu_D w D1 D2) (hn : D1 2 w 13 = D2 65 0 7) :
    ∃ E G, B_X9_perform Z w c D1 = some E ∧ B_X11_doesAll k D2 = some G ∧ pu_pfP w D1 D2 E G := by
  unfold B_X9_perform B_X11_doesAll
  rw [pu_be_e]
  simp only [mi_bi, mi_let, pu_valE]
  obtain ⟨p1, p2, p3, p4, p5, p6, p7⟩ := pu_setv (v := 7 * w) (t := 6) (k := -1) (n := 0) hD ⟨by decide, by decide, fun _ => rfl⟩
  dsimp only at p4 p5 p6 p7
  have F1 : pu_p1 w D1 (pu_be D1 (7 * w) (-1) 0) := fun q j i z1 z2 z3 => p6 q j i z1 z2
  have F2 : pu_p2 D2 (pu_val D2 6 (-1) 0) := fun q j i z1 z2 z3 z4 z5 => p7 q j i z1 z2 z3 z4
  have C6 := hC.2.2.2.2.2.1
  have c43 : pu_val D2 6 (-1) 0 43 0 k = D2 43 0 k := p7 _ _ _ (by omega) (by omega) (by omega) (by omega)
  obtain ⟨E, G, g1, g2, g3⟩ := pu_pf_l hw mi_fuel 0 _ _ (hC.kept (F1.cd F2)) p4 p5 (by rw [p6 _ _ _ (by omega) (by omega), p7 _ _ _ (by omega) (by omega) (by omega) (by omega)]; exact hn) (by decide) (by decide) (by decide) (by rw [c43]; have := pu_fuelE; omega)
  exact ⟨E, G, g1, g2, ⟨g3.d, g3.v, g3.n, F1.tr g3.f1, F2.tr g3.f2⟩⟩
theorem pu_hind_l {w t : Int} {Z : MiZ} {D1 D2 : MiD} (hw : 0 ≤ w ∧ w < 2) (ht : 0 ≤ t ∧ t < 6) (h : pu_A w Z D1 D2) (hp : D2 65 0 1 ≠ -1) : ∀ (f : Nat) (k : Int), 0 ≤ k → k ≤ D2 59 t 0 → D2 59 t 0 - k < f →
    ∃ z, B_X9_hindrance_14 D1 Z f w (6 * w + t) (D2 59 t 0 - 1 - k) = some z ∧ B_X11_stuckAt_9 D2 f t (D2 65 0 1) k = some z
  | 0, k, h1, h2, h3 => by omega
  | f + 1, k, h1, h2, h3 => by
    have K := h.t t ht.1 ht.2
    have W := h.w
    have h10 := K.fr1
    have t0 := W.tn0
    have t1 := W.tn1
    have n8 := h.p.n8
    unfold B_X9_hindrance_14 B_X11_stuckAt_9 B_X9_hindrance_45
    rw [if_pos (show 0 ≤ t ∧ t < 7 by omega)]
    by_cases c : D2 59 t 0 ≤ k
    · rw [if_pos c, if_pos (by omega)]
      exact ⟨_, rfl, rfl⟩
    rw [if_neg c, if_neg (by omega), if_pos ht]
    have e1 : mi_w (mi_w (D2 59 t 0 - 1) - k) = D2 59 t 0 - 1 - k := by rw [pu_w (x := D2 59 t 0 - 1) (by omega) (by omega), pu_w (by omega) (by omega)]
    have e2 : mi_w (D2 59 t 0 - 1 - k + -1) = D2 59 t 0 - 1 - (k + 1) := by rw [pu_w (by omega) (by omega)]; omega
    have e3 : mi_w (mi_w (D1 4 (6 * w + t) 4 - 1) - (D2 59 t 0 - 1 - k)) = k := by rw [K.fr, pu_w (x := D2 59 t 0 - 1) (by omega) (by omega), pu_w (by omega) (by omega)]; omega
    have F := K.f (D2 59 t 0 - 1 - k) (by omega) (by omega)
    rw [e1, e2, e3, F.b, F.f, W.tn, if_pos (show 0 ≤ 6 * w + t ∧ 6 * w + t < 12 by omega), if_pos (show 0 ≤ D2 59 t 0 - 1 - k ∧ D2 59 t 0 - 1 - k < 10 by omega), if_pos (show 0 ≤ D2 59 t 0 - 1 - k ∧ D2 59 t 0 - 1 - k < 10 by omega)]
    by_cases c1 : D2 63 (10 * t + (D2 59 t 0 - 1 - k)) 3 = 1
    · rw [if_pos c1, if_pos c1, if_pos (show 0 ≤ 6 * w + t ∧ 6 * w + t < 12 by omega)]
      exact ⟨_, rfl, rfl⟩
    rw [if_neg c1, if_neg c1, if_pos (show 0 ≤ D2 65 0 1 ∧ D2 65 0 1 < 9 by omega), pu_w (x := k + 1) (by omega) (by omega)]
    rcases pu_hasE h.p (p := D2 65 0 1) ⟨t0, t1⟩ ⟨F.f0, F.f1⟩ with ⟨q1, q2⟩ | ⟨q1, q2⟩
    · rw [q2, if_neg q1.2, if_pos (show 0 ≤ 6 * w + t ∧ 6 * w + t < 12 by omega)]
      exact ⟨_, rfl, rfl⟩
    · have q3 : B_X11_isBit (D2 47 0 (D2 65 0 1)) (D2 63 (10 * t + (D2 59 t 0 - 1 - k)) 0) = 0 := by
        by_cases z : B_X11_isBit (D2 47 0 (D2 65 0 1)) (D2 63 (10 * t + (D2 59 t 0 - 1 - k)) 0) = 0
        · exact z
        · exact absurd ⟨by omega, z⟩ q1
      rw [q2, if_pos q3]
      exact pu_hind_l hw ht h hp f (k + 1) (by omega) (by omega) (by omega)
theorem pu_hind {w t : Int} {Z : MiZ} {D1 D2 : MiD} (hw : 0 ≤ w ∧ w < 2) (ht : 0 ≤ t ∧ t < 6) (h : pu_A w Z D1 D2) (hp : D2 65 0 1 ≠ -1) : ∃ z, B_X9_hindrance D1 Z w t = some z ∧ B_X11_stuckAt D2 t = some z := by
  have K := h.t t ht.1 ht.2
  have h10 := K.fr1
  have h0 := K.fr0
  unfold B_X9_hindrance B_X11_stuckAt
  rw [if_pos ht, K.fr]
  simp only [mi_let]
  rw [pu_w (x := D2 59 t 0 - 1) (by omega) (by omega)]
  have := pu_hind_l hw ht h hp mi_fuel 0 (by decide) h0 (by have := pu_fuelE; omega)
  rwa [show D2 59 t 0 - 1 - 0 = D2 59 t 0 - 1 by omega] at this
theorem pu_left_l {w : Int} {Z : MiZ} {D1 D2 : MiD} (hw : 0 ≤ w ∧ w < 2) (h : pu_A w Z D1 D2) (hp : D2 65 0 1 ≠ -1) : ∀ (f : Nat) (t c : Int), 0 ≤ t → t ≤ 6 → 0 ≤ c → c ≤ t → 6 - t < f →
    ∃ z, B_X9_leftToTurn_4 D1 f w c t = some z ∧ B_X11_leftToTurn_4 D2 f c t = some z ∧ c ≤ z ∧ z ≤ c + (6 - t) ∧ (z = c ↔ ∀ s : Int, t ≤ s → s < 6 → D2 59 s 4 = D2 65 0 2)
  | 0, t, c, h1, h2, h3, h4, h5 => by omega
  | f + 1, t, c, h1, h2, h3, h4, h5 => by
    have W := h.w
    unfold B_X9_leftToTurn_4 B_X11_leftToTurn_4 B_X9_hasTurned B_X9_hasTurned_24 B_X11_leftToTurn_43
    by_cases c0 : 6 ≤ t
    · rw [if_pos c0, if_pos c0]
      exact ⟨c, rfl, rfl, by omega, by omega, ⟨fun _ s a b => by omega, fun _ => rfl⟩⟩
    have htu := W.tu t h1 (by omega) hp
    rw [if_neg c0, if_neg c0, if_neg hp, W.tn, if_neg hp, if_pos (show 0 ≤ t ∧ t < 6 by omega), if_pos (show 0 ≤ t ∧ t < 7 by omega), htu, W.on hp]
    simp only [mi_let]
    rw [pu_w (x := c + 1) (by omega) (by omega), pu_w (x := c + 0) (by omega) (by omega), pu_w (x := t + 1) (by omega) (by omega), Int.add_zero]
    by_cases c1 : D2 59 t 4 = D2 65 0 2
    · simp only [c1, ne_eq, not_true_eq_false, if_false, mi_bi, show ¬ ((1 : Int) = 0) by decide, not_false_eq_true, if_true]
      obtain ⟨z, a1, a2, a3, a4, a5⟩ := pu_left_l hw h hp f (t + 1) c (by omega) (by omega) h3 (by omega) (by omega)
      refine ⟨z, a1, a2, a3, by omega, a5.trans ⟨fun u s p q => ?_, fun u s p q => u s (by omega) q⟩⟩
      by_cases e : s = t
      · subst e; exact c1
      · exact u s (by omega) q
    · simp only [c1, ne_eq, not_true_eq_false, if_false, mi_bi, not_false_eq_true, if_true]
      obtain ⟨z, a1, a2, a3, a4, a5⟩ := pu_left_l hw h hp f (t + 1) (c + 1) (by omega) (by omega) (by omega) (by omega) (by omega)
      exact ⟨z, a1, a2, by omega, by omega, ⟨fun u => by omega, fun u => absurd (u t (by omega) (by omega)) c1⟩⟩
theorem pu_left {w : Int} {Z : MiZ} {D1 D2 : MiD} (hw : 0 ≤ w ∧ w < 2) (h : pu_A w Z D1 D2) : ∃ z, B_X9_leftToTurn D1 w = some z ∧ B_X11_leftToTurn D2 = some z ∧ 0 ≤ z ∧ (D2 65 0 1 ≠ -1 → (z = 0 ↔ ∀ s : Int, 0 ≤ s → s < 6 → D2 59 s 4 = D2 65 0 2)) := by
  by_cases hp : D2 65 0 1 = -1
  · have W := h.w
    refine ⟨0, ?_, ?_, by decide, fun z => absurd hp z⟩
    · have : ∀ (f : Nat) (t : Int), 0 ≤ t → t ≤ 6 → 6 - t < f → B_X9_leftToTurn_4 D1 f w 0 t = some 0 := by
        intro f
        induction f with
        | zero => intro t a b c; omega
        | succ f ih =>
          intro t a b c
          unfold B_X9_leftToTurn_4 B_X9_hasTurned B_X9_hasTurned_24
          by_cases c0 : 6 ≤ t
          · rw [if_pos c0]
          · rw [if_neg c0, W.tn, if_pos hp, pu_w (x := t + 1) (by omega) (by omega)]
            exact ih (t + 1) (by omega) (by omega) (by omega)
      exact this mi_fuel 0 (by decide) (by decide) (by decide)
    · unfold B_X11_leftToTurn
      rw [pu_fuelE]
      unfold B_X11_leftToTurn_4
      rw [if_neg (by decide), if_pos hp]
  · obtain ⟨z, a1, a2, a3, a4, a5⟩ := pu_left_l hw h hp mi_fuel 0 0 (by decide) (by decide) (by decide) (by decide) (by decide)
    exact ⟨z, a1, a2, a3, fun _ => a5⟩
theorem pu_Tk.keep {w s : Int} {D1 D2 E1 E2 : MiD} (h : pu_Tk w D1 D2 s) (g4 : ∀ i : Int, i ≠ 8 → E1 4 (6 * w + s) i = D1 4 (6 * w + s) i) (g8 : E1 4 (6 * w + s) 8 = 0 ∨ E1 4 (6 * w + s) 8 = 1) (gq : ∀ (q : Nat) (i : Int), q = 19 ∨ q = 20 ∨ q = 21 ∨ q = 22 → E1 q (6 * w + s) i = D1 q (6 * w + s) i)
    (g5 : ∀ i : Int, E1 5 (6 * w + s + 1 + (6 * w + s) / 6) i = D1 5 (6 * w + s + 1 + (6 * w + s) / 6) i) (k59 : ∀ i : Int, i ≠ 4 → E2 59 s i = D2 59 s i) (k60 : E2 60 0 s = D2 60 0 s) (k63 : ∀ j i : Int, E2 63 j i = D2 63 j i) (k40 : E2 40 0 11 = D2 40 0 11) (k47 : ∀ p : Int, E2 47 0 p = D2 47 0 p) : pu_Tk w E1 E2 s := by
  obtain ⟨a1, a2, a3, a4, a5, a6, a7, a8, a9, a10, a11, a12, a13, a14, a15⟩ := h
  refine ⟨?_, ?_, ?_, ?_, ?_, ?_, ?_, ?_, ?_, ?_, ?_, g8, ?_, fun e x y => ?_, fun y => ?_⟩
  all_goals try (simp only [g4 4 (by decide), g4 5 (by decide), g4 6 (by decide), g4 9 (by decide), g4 10 (by decide), k59 0 (by decide), k59 1 (by decide), k59 3 (by decide), k59 5 (by decide), k59 6 (by decide)]; assumption)
  · unfold pu_v at a13 ⊢
    rw [g5, g5, k59 2 (by decide), k60]
    exact a13
  · rw [k59 0 (by decide)] at y
    exact (a14 e x y).kept (gq _ _ (by decide)) (gq _ _ (by decide)) (gq _ _ (by decide)) (gq _ _ (by decide)) (fun i => k63 _ _) k40 k47
  · rw [k59 3 (by decide)] at y
    rw [k59 1 (by decide), k59 0 (by decide), k63]
    exact a15 y
def pu_s1 (w : Int) (D E : MiD) : Prop := ∀ (q : Nat) (j i : Int), ¬ (q = 4 ∧ 6 * w ≤ j ∧ j < 6 * w + 6 ∧ i = 8) → ¬ (q = 2 ∧ j = w) → ¬ (q = 15 ∧ j = w) → ¬ ((q = 3 ∨ q = 17 ∨ q = 18) ∧ 60 * w ≤ j ∧ j < 60 * w + 60) → ¬ (q = 5 ∧ j = 7 * w) → E q j i = D q j i
def pu_s2 (D E : MiD) : Prop := ∀ (q : Nat) (j i : Int), ¬ (q = 59 ∧ 0 ≤ j ∧ j < 6 ∧ i = 4) → ¬ (q = 65 ∧ j = 0) → ¬ (q = 64 ∧ j = 0) → ¬ (q = 52 ∨ q = 53 ∨ q = 55 ∨ q = 57) → ¬ (q = 40 ∧ j = 0 ∧ (i = 25 ∨ i = 26)) → ¬ (q = 59 ∧ j = 6 ∧ i = 2) → ¬ (q = 60 ∧ j = 0 ∧ i = 6) → E q j i = D q j i
theorem pu_s1.rf {w : Int} {D : MiD} : pu_s1 w D D := fun _ _ _ _ _ _ _ _ => rfl
theorem pu_s2.rf {D : MiD} : pu_s2 D D := fun _ _ _ _ _ _ _ _ _ _ => rfl
theorem pu_s1.tr {w : Int} {D E F : MiD} (h : pu_s1 w D E) (k : pu_s1 w E F) : pu_s1 w D F := fun q j i a b c d e => (k q j i a b c d e).trans (h q j i a b c d e)
theorem pu_s2.tr {D E F : MiD} (h : pu_s2 D E) (k : pu_s2 E F) : pu_s2 D F := fun q j i a b c d e f g => (k q j i a b c d e f g).trans (h q j i a b c d e f g)
theorem pu_p1.s {w : Int} {D E : MiD} (h : pu_p1 w D E) : pu_s1 w D E := fun q j i a b c d e => h q j i d e (by omega)
theorem pu_p2.s {D E : MiD} (h : pu_p2 D E) : pu_s2 D E := fun q j i a b c d e f g => h q j i d e f g (by omega)
theorem pu_A.side {w : Int} {Z : MiZ} {D1 D2 E1 E2 : MiD} (hw : 0 ≤ w ∧ w < 2) (h : pu_A w Z D1 D2) (f1 : pu_s1 w D1 E1) (f2 : pu_s2 D2 E2) (hD : pu_D w E1 E2) (g8 : ∀ s : Int, 0 ≤ s → s < 6 → E1 4 (6 * w + s) 8 = 0 ∨ E1 4 (6 * w + s) 8 = 1) (hW : pu_Wd w E1 E2) : pu_A w Z E1 E2 := by
  refine ⟨hD, h.p.kept ⟨fun q j i z => f1 q j i (by omega) (by omega) (by omega) (by omega) (by omega), fun q j i z => f2 q j i (by omega) (by omega) (by omega) (by omega) (by omega) (by omega) (by omega), f2 _ _ _ (by omega) (by omega) (by omega) (by omega) (by omega) (by omega) (by omega)⟩, fun s a b => ?_, hW⟩
  exact (h.t s a b).keep (fun i u => f1 _ _ _ (by omega) (by omega) (by omega) (by omega) (by omega)) (g8 s a b) (fun q i u => f1 _ _ _ (by omega) (by omega) (by omega) (by omega) (by omega)) (fun i => f1 _ _ _ (by omega) (by omega) (by omega) (by omega) (by omega)) (fun i u => f2 _ _ _ (by omega) (by omega) (by omega) (by omega) (by omega) (by omega) (by omega)) (f2 _ _ _ (by omega) (by omega) (by omega) (by omega) (by omega) (by omega) (by omega)) (fun j i => f2 _ _ _ (by omega) (by omega) (by omega) (by omega) (by omega) (by omega) (by omega)) (f2 _ _ _ (by omega) (by omega) (by omega) (by omega) (by omega) (by omega) (by omega)) (fun p => f2 _ _ _ (by omega) (by omega) (by omega) (by omega) (by omega) (by omega) (by omega))
theorem pu_setT {w t : Int} {Z : MiZ} {D1 D2 : MiD} (hw : 0 ≤ w ∧ w < 2) (ht : 0 ≤ t ∧ t < 6) (h : pu_A w Z D1 D2) (hp : D2 65 0 1 ≠ -1) : pu_A w Z (mi_st D1 4 (6 * w + t) 8 (D1 2 w 9)) (mi_st D2 59 t 4 (D2 65 0 2)) := by
  have W := h.w
  have o1 : ∀ (q : Nat) (j i : Int), ¬ (q = 4 ∧ j = 6 * w + t ∧ i = 8) → mi_st D1 4 (6 * w + t) 8 (D1 2 w 9) q j i = D1 q j i := fun q j i z => by rw [pu_st, if_neg z]
  have o2 : ∀ (q : Nat) (j i : Int), ¬ (q = 59 ∧ j = t ∧ i = 4) → mi_st D2 59 t 4 (D2 65 0 2) q j i = D2 q j i := fun q j i z => by rw [pu_st, if_neg z]
  have v1 : ∀ s : Int, mi_st D1 4 (6 * w + t) 8 (D1 2 w 9) 4 (6 * w + s) 8 = if s = t then D1 2 w 9 else D1 4 (6 * w + s) 8 := fun s => by
    rw [pu_st]
    by_cases c : s = t
    · rw [if_pos c, if_pos ⟨rfl, by omega, rfl⟩]
    · rw [if_neg c, if_neg (by omega)]
  have v2 : ∀ s : Int, mi_st D2 59 t 4 (D2 65 0 2) 59 s 4 = if s = t then D2 65 0 2 else D2 59 s 4 := fun s => by
    rw [pu_st]
    by_cases c : s = t
    · rw [if_pos c, if_pos ⟨rfl, c, rfl⟩]
    · rw [if_neg c, if_neg (by omega)]
  refine h.side hw (fun q j i a b c d e => o1 q j i (by omega)) (fun q j i a b c d e f g => o2 q j i (by omega)) (h.d.o (fun q j i z => o1 q j i (by omega)) (fun q j i z => o2 q j i (by omega))) (fun s a b => ?_) ?_
  · rw [v1]
    split
    · exact W.onb
    · exact (h.t s a b).tu
  · obtain ⟨b1, b2, b3, b4, b5, b6, b7, b8, b9, b10, b11, b12, b13, b14, b15, b16, b17, b18, b19, b20⟩ := W
    have p1 : ∀ i : Int, mi_st D1 4 (6 * w + t) 8 (D1 2 w 9) 2 w i = D1 2 w i := fun i => o1 _ _ _ (by omega)
    have p2 : ∀ i : Int, mi_st D2 59 t 4 (D2 65 0 2) 65 0 i = D2 65 0 i := fun i => o2 _ _ _ (by omega)
    have p3 : ∀ i : Int, mi_st D2 59 t 4 (D2 65 0 2) 64 0 i = D2 64 0 i := fun i => o2 _ _ _ (by omega)
    have p4 : mi_st D2 59 t 4 (D2 65 0 2) 40 0 11 = D2 40 0 11 := o2 _ _ _ (by omega)
    have p5 : ∀ s : Int, mi_st D2 59 t 4 (D2 65 0 2) 59 s 5 = D2 59 s 5 := fun s => o2 _ _ _ (by omega)
    have p6 : ∀ s : Int, mi_st D1 4 (6 * w + t) 8 (D1 2 w 9) 15 w s = D1 15 w s := fun s => o1 _ _ _ (by omega)
    have p7 : ∀ s : Int, mi_st D1 4 (6 * w + t) 8 (D1 2 w 9) 16 w s = D1 16 w s := fun s => o1 _ _ _ (by omega)
    have p8 : ∀ s : Int, mi_st D2 59 t 4 (D2 65 0 2) 49 0 s = D2 49 0 s := fun s => o2 _ _ _ (by omega)
    refine ⟨?_, ?_, ?_, ?_, ?_, ?_, ?_, ?_, ?_, fun s x y z => ?_, fun s x y z => ?_, ?_, ?_, ?_, ?_, ?_, ?_, ?_, ?_, ?_⟩
    all_goals try (simp only [p1, p2, p3, p4, p5, p6, p7, p8]; assumption)
    · rw [v1, v2]
      split
      · exact b8 hp
      · exact b10 s x y hp
    · rw [p2] at z
      exact absurd z hp
theorem pu_look_l {w : Int} {Z : MiZ} (hw : 0 ≤ w ∧ w < 2) : ∀ (f : Nat) (t : Int) (D1 D2 : MiD), pu_A w Z D1 D2 → D2 65 0 1 ≠ -1 → 0 ≤ t → t ≤ 6 → 6 - t < f →
    ∃ (g : Nat) (E1 E2 : MiD), B_X9_settle_11 Z f w t D1 = B_X9_settle_11 Z (g + 1) w 6 E1 ∧ B_X11_looks_13 f t D2 = B_X11_looks_13 (g + 1) 6 E2 ∧ pu_A w Z E1 E2 ∧ pu_s1 w D1 E1 ∧ pu_s2 D2 E2 ∧ (∀ i : Int, E2 65 0 i = D2 65 0 i)
  | 0, t, D1, D2, h, hp, h1, h2, h3 => by omega
  | f + 1, t, D1, D2, h, hp, h1, h2, h3 => by
    by_cases c : 6 ≤ t
    · obtain rfl : t = 6 := by omega
      exact ⟨f, D1, D2, rfl, rfl, h, pu_s1.rf, pu_s2.rf, fun _ => rfl⟩
    have ht : 0 ≤ t ∧ t < 6 := by omega
    have W := h.w
    obtain ⟨z, z1, z2⟩ := pu_hind hw ht h hp
    have hw1 : mi_w (t + 1) = t + 1 := pu_w (by omega) (by omega)
    have u1 : B_X9_settle_11 Z (f + 1) w t D1 = if z ≠ -1 then B_X9_settle_11 Z f w (t + 1) D1 else B_X9_settle_11 Z f w (t + 1) (mi_st D1 4 (6 * w + t) 8 (D1 2 w 9)) := by
      conv => lhs; unfold B_X9_settle_11
      rw [if_neg c, z1]
      simp only [mi_bi, mi_let, ht, and_self, if_true, W.onb, hw1]
    have u2 : B_X11_looks_13 (f + 1) t D2 = if z ≠ -1 then B_X11_looks_13 f (t + 1) D2 else B_X11_looks_13 f (t + 1) (mi_st D2 59 t 4 (D2 65 0 2)) := by
      conv => lhs; unfold B_X11_looks_13
      rw [if_neg c, z2]
      simp only [mi_bi, mi_let, show 0 ≤ t ∧ t < 7 by omega, and_self, if_true, hw1]
      by_cases e : D2 59 t 4 = D2 65 0 2
      · rw [if_pos e]
        have id2 : mi_st D2 59 t 4 (D2 65 0 2) = D2 := by funext q j i; rw [pu_st]; split <;> simp_all
        rw [id2]
        split <;> rfl
      · rw [if_neg e]
    by_cases e : z = -1
    · rw [u1, u2, if_neg (by omega), if_neg (by omega)]
      have hs := pu_setT hw ht h hp
      have q1 : ∀ i : Int, mi_st D2 59 t 4 (D2 65 0 2) 65 0 i = D2 65 0 i := fun i => by rw [pu_st, if_neg (by omega)]
      obtain ⟨g, E1, E2, a1, a2, a3, a4, a5, a6⟩ := pu_look_l hw f (t + 1) _ _ hs (by rw [q1]; exact hp) (by omega) (by omega) (by omega)
      refine ⟨g, E1, E2, a1, a2, a3, pu_s1.tr (fun q j i a b c d e => by rw [pu_st, if_neg (by omega)]) a4, pu_s2.tr (fun q j i a b c d e f g => by rw [pu_st, if_neg (by omega)]) a5, fun i => (a6 i).trans (q1 i)⟩
    · rw [u1, u2, if_pos e, if_pos e]
      exact pu_look_l hw f (t + 1) _ _ h hp (by omega) (by omega) (by omega)
def pu_zero (D : MiD) (t : Int) : MiD := fun q j i => if q = 59 ∧ t ≤ j ∧ j < 6 ∧ i = 4 then 0 else D q j i
theorem pu_zero_l {p o : Int} : ∀ (f : Nat) (t : Int) (D : MiD), 0 ≤ t → t ≤ 6 → 6 - t < f → B_X11_isOver_40 f p o t D = B_X11_isOver_40 1 p o 6 (pu_zero D t)
  | 0, t, D, h1, h2, h3 => by omega
  | f + 1, t, D, h1, h2, h3 => by
    by_cases c : 6 ≤ t
    · obtain rfl : t = 6 := by omega
      have e : pu_zero D 6 = D := by funext q j i; unfold pu_zero; rw [if_neg (by omega)]
      rw [e]
      unfold B_X11_isOver_40
      rfl
    · have hw1 : mi_w (t + 1) = t + 1 := pu_w (by omega) (by omega)
      have u : B_X11_isOver_40 (f + 1) p o t D = B_X11_isOver_40 f p o (t + 1) (mi_st D 59 t 4 0) := by
        conv => lhs; unfold B_X11_isOver_40
        rw [if_neg c, if_pos (by omega)]
        simp only [mi_let, hw1]
      rw [u, pu_zero_l f (t + 1) _ (by omega) (by omega) (by omega)]
      congr 1
      funext q j i
      unfold pu_zero
      grind (splits := 20) [mi_st]
theorem pu_WdO {w m : Int} {D1 D2 E G : MiD} (W : pu_Wd w D1 D2) (f1 : pu_s1 w D1 E) (f2 : pu_s2 D2 G) (a1 : E 2 w 7 = m) (a2 : G 65 0 0 = m) (a3 : 0 ≤ m ∧ m ≤ 8) (a4 : E 2 w 8 = -1) (a5 : G 65 0 1 = -1) (a6 : G 65 0 2 = -1) (a7 : E 2 w 9 = D1 2 w 9) (a8 : E 2 w 10 = D1 2 w 10) (a9 : G 65 0 3 = D2 65 0 3) (a10 : E 2 w 11 = G 65 0 4) (a11 : E 2 w 12 = D1 2 w 12) (a12 : G 65 0 6 = D2 65 0 6) (a13 : E 2 w 13 = G 65 0 7) (a14 : G 65 0 5 = D2 65 0 5) (a15 : ∀ s : Int, 0 ≤ s → s < 6 → G 59 s 4 = 0) (n0 : 0 ≤ D2 40 0 11)
    (a16 : ∀ s : Int, 0 ≤ s → s < m → E 15 w s = G 64 0 s ∧ 0 ≤ G 64 0 s ∧ G 64 0 s < D2 40 0 11) (a17 : ∀ s s' : Int, 0 ≤ s → s < s' → s' < m → G 64 0 s ≠ G 64 0 s') : pu_Wd w E G := by
  have p4 : G 40 0 11 = D2 40 0 11 := f2 _ _ _ (by omega) (by omega) (by omega) (by omega) (by omega) (by omega) (by omega)
  have p5 : ∀ s : Int, G 59 s 5 = D2 59 s 5 := fun s => f2 _ _ _ (by omega) (by omega) (by omega) (by omega) (by omega) (by omega) (by omega)
  have p7 : ∀ s : Int, E 16 w s = D1 16 w s := fun s => f1 _ _ _ (by omega) (by omega) (by omega) (by omega) (by omega)
  have p8 : ∀ s : Int, G 49 0 s = D2 49 0 s := fun s => f2 _ _ _ (by omega) (by omega) (by omega) (by omega) (by omega) (by omega) (by omega)
  refine ⟨by rw [a1, a2], by omega, by omega, by rw [a4, a5], by omega, by omega, by rw [a7]; exact W.onb, fun z => absurd a5 z, fun _ => a6, fun s x y z => absurd a5 z, fun s x y z => a15 s x y, by rw [a8, a9]; exact W.ti, a10, by rw [a11, a12]; exact W.tp, a13, by simp only [a14, p5]; exact W.fs, fun s x y => ?_, fun s s' x y z => a17 s s' x y (by omega), fun z => absurd a5 z, fun p x y => by rw [p7, p8]; exact W.en p x y⟩
  rw [p4]
  exact a16 s x (by omega)
theorem pu_letE {α β : Type} {a : α} {f : α → β} : mi_let a f = f a := Eq.symm (Eq.symm (Eq.refl (f a)))
theorem pu_biE {α β : Type} {a : α} {f : α → Option β} : mi_bi (some a) f = f a := Eq.symm (Eq.symm (Eq.refl (f a)))
theorem pu_over {w : Int} {Z : MiZ} {D1 D2 : MiD} (g : Nat) (hw : 0 ≤ w ∧ w < 2) (h : pu_A w Z D1 D2) (hp : D2 65 0 1 ≠ -1) (hl : ∀ s : Int, 0 ≤ s → s < 6 → D2 59 s 4 = D2 65 0 2) :
    ∃ E G, B_X9_settle_11 Z (g + 1) w 6 D1 = some E ∧ B_X11_isOver D2 = some G ∧ pu_A w Z E G ∧ pu_s1 w D1 E ∧ pu_s2 D2 G := by
  have W := h.w
  have t0 := W.tn0
  have t1 := W.tn1
  have n8 := h.p.n8
  have st0 := W.st0
  have st8 := W.st8
  obtain ⟨top1, top2⟩ := W.top hp
  have P := h.p.pt (D2 65 0 1) (by omega) t1
  obtain ⟨z, z1, z2, z3, z4⟩ := pu_left hw h
  have z0 : z = 0 := (z4 hp).mpr hl
  subst z0
  have hon := W.on hp
  have ca9 : B_X11_codeAt (D2 65 0 1) 9 = 21 + 11 * D2 65 0 1 := by
    unfold B_X11_codeAt
    rw [pu_w (x := 11 * D2 65 0 1) (by omega) (by omega), pu_w (x := 12 + 11 * D2 65 0 1) (by omega) (by omega), pu_w (by omega) (by omega)]
    omega
  have ca10 : B_X11_codeAt (D2 65 0 1) 10 = 22 + 11 * D2 65 0 1 := by
    unfold B_X11_codeAt
    rw [pu_w (x := 11 * D2 65 0 1) (by omega) (by omega), pu_w (x := 12 + 11 * D2 65 0 1) (by omega) (by omega), pu_w (by omega) (by omega)]
    omega
  unfold B_X9_settle_11 B_X11_isOver
  have hf : (6 : Int) - 0 < ((mi_fuel : Nat) : Int) := by have := pu_fuelE; omega
  generalize mi_fuel = u at hf ⊢
  rw [if_pos (show (6 : Int) ≤ 6 by decide), W.tn, if_pos (show 0 ≤ D2 65 0 1 ∧ D2 65 0 1 < 8 by omega), z1]
  simp only [pu_biE, pu_letE]
  rw [if_neg (show ¬ (0 : Int) < 0 by decide), if_neg (show ¬ Z.1 12 w (D2 65 0 1) < 0 by have := P.at0; omega), pu_zero_l _ _ _ (by decide) (by decide) hf]
  unfold B_X11_isOver_40
  rw [if_pos (show (6 : Int) ≤ 6 by decide), ca9, ca10, if_pos P.at0, if_pos P.at0]
  simp only [mi_let]
  generalize hE0 : mi_st (mi_st D1 2 w 8 (-1)) 2 w 11 (mi_w (mi_st D1 2 w 8 (-1) 2 w 11 + 1)) = E0
  generalize hG0 : pu_zero (mi_st (mi_st (mi_st D2 65 0 1 (-1)) 65 0 2 (-1)) 65 0 4 (mi_w (mi_st (mi_st D2 65 0 1 (-1)) 65 0 2 (-1) 65 0 4 + 1))) 0 = G0
  have e1 : ∀ (q : Nat) (j i : Int), ¬ (q = 2 ∧ j = w ∧ (i = 8 ∨ i = 11)) → E0 q j i = D1 q j i := fun q j i u => by rw [← hE0, pu_st, if_neg (by omega), pu_st, if_neg (by omega)]
  have e2 : E0 2 w 8 = -1 := by rw [← hE0, pu_st, if_neg (by omega), pu_st_eq]
  have e3 : E0 2 w 11 = mi_w (D1 2 w 11 + 1) := by rw [← hE0, pu_st_eq, pu_st, if_neg (by omega)]
  have g1 : ∀ (q : Nat) (j i : Int), ¬ (q = 65 ∧ j = 0 ∧ (i = 1 ∨ i = 2 ∨ i = 4)) → ¬ (q = 59 ∧ 0 ≤ j ∧ j < 6 ∧ i = 4) → G0 q j i = D2 q j i := fun q j i u u' => by rw [← hG0]; unfold pu_zero; rw [if_neg u', pu_st, if_neg (by omega), pu_st, if_neg (by omega), pu_st, if_neg (by omega)]
  have g2 : G0 65 0 1 = -1 := by rw [← hG0]; unfold pu_zero; rw [if_neg (by omega), pu_st, if_neg (by omega), pu_st, if_neg (by omega), pu_st_eq]
  have g3 : G0 65 0 2 = -1 := by rw [← hG0]; unfold pu_zero; rw [if_neg (by omega), pu_st, if_neg (by omega), pu_st_eq]
  have g4 : G0 65 0 4 = mi_w (D2 65 0 4 + 1) := by rw [← hG0]; unfold pu_zero; rw [if_neg (by omega), pu_st_eq, pu_st, if_neg (by omega), pu_st, if_neg (by omega)]
  have g5 : ∀ s : Int, 0 ≤ s → s < 6 → G0 59 s 4 = 0 := fun s a b => by rw [← hG0]; unfold pu_zero; rw [if_pos ⟨rfl, a, b, rfl⟩]
  have F1 : pu_s1 w D1 E0 := fun q j i a b c d e => e1 q j i (by omega)
  have F2 : pu_s2 D2 G0 := fun q j i a b c d e f g => g1 q j i (by omega) (by omega)
  have cd0 : pu_cdS D1 D2 E0 G0 := ⟨fun q j i u => e1 q j i (by omega), fun q j i u => g1 q j i (by omega) (by omega), g1 _ _ _ (by omega) (by omega)⟩
  have hD0 : pu_D w E0 G0 := h.d.o (fun q j i u => e1 q j i (by omega)) (fun q j i u => g1 q j i (by omega) (by omega))
  rw [e1 2 w 9 (by omega)]
  by_cases c : D1 2 w 9 = 0
  · rw [if_pos c, if_pos (show D2 65 0 2 ≠ 1 by omega), if_pos P.u.1, e1 2 w 7 (by omega), W.st, g1 65 0 0 (by omega) (by omega)]
    rw [pu_w (x := D2 65 0 0 - 1) (by omega) (by omega)]
    generalize hE1 : mi_st E0 2 w 7 (D2 65 0 0 - 1) = E1
    generalize hG1 : mi_st G0 65 0 0 (D2 65 0 0 - 1) = G1
    have i1 : ∀ (q : Nat) (j i : Int), ¬ (q = 2 ∧ j = w ∧ i = 7) → E1 q j i = E0 q j i := fun q j i u => by rw [← hE1, pu_st, if_neg u]
    have i2 : ∀ (q : Nat) (j i : Int), ¬ (q = 65 ∧ j = 0 ∧ i = 0) → G1 q j i = G0 q j i := fun q j i u => by rw [← hG1, pu_st, if_neg u]
    obtain ⟨E, G, k1, k2, k3⟩ := pu_perform hw (P.u.kept (E1 := E1) (E2 := G1) ⟨fun q j i u => (i1 q j i (by omega)).trans (cd0.1 q j i u), fun q j i u => (i2 q j i (by omega)).trans (cd0.2.1 q j i u), (i2 _ _ _ (by omega)).trans cd0.2.2⟩) (hD0.o (fun q j i u => i1 q j i (by omega)) (fun q j i u => i2 q j i (by omega))) (by rw [i1 _ _ _ (by omega), i2 _ _ _ (by omega), e1 _ _ _ (by omega), g1 _ _ _ (by omega) (by omega)]; exact W.pt)
    rw [k1, k2]
    have F1' : pu_s1 w D1 E := F1.tr ((show pu_s1 w E0 E1 from fun q j i a b c d e => i1 q j i (by omega)).tr k3.f1.s)
    have F2' : pu_s2 D2 G := F2.tr ((show pu_s2 G0 G1 from fun q j i a b c d e f g => i2 q j i (by omega)).tr k3.f2.s)
    have x1 : ∀ i : Int, i ≠ 7 → i ≠ 13 → E 2 w i = E0 2 w i := fun i u v => by rw [k3.f1 _ _ _ (by omega) (by omega) (by omega), i1 _ _ _ (by omega)]
    have x2 : ∀ i : Int, i ≠ 0 → i ≠ 7 → G 65 0 i = G0 65 0 i := fun i u v => by rw [k3.f2 _ _ _ (by omega) (by omega) (by omega) (by omega) (by omega), i2 _ _ _ (by omega)]
    refine ⟨E, G, rfl, rfl, h.side hw F1' F2' k3.d (fun s a b => ?_) (pu_WdO (m := D2 65 0 0 - 1) W F1' F2' ?_ ?_ (by omega) ?_ ?_ ?_ ?_ ?_ ?_ ?_ ?_ ?_ k3.n ?_ (fun s a b => ?_) h.p.n0 (fun s a b => ?_) (fun s s' a b c => ?_)), F1', F2'⟩
    · rw [k3.f1 _ _ _ (by omega) (by omega) (by omega), i1 _ _ _ (by omega), e1 _ _ _ (by omega)]; exact (h.t s a b).tu
    · rw [k3.f1 _ _ _ (by omega) (by omega) (by omega), ← hE1, pu_st_eq]
    · rw [k3.f2 _ _ _ (by omega) (by omega) (by omega) (by omega) (by omega), ← hG1, pu_st_eq]
    · rw [x1 _ (by decide) (by decide)]; exact e2
    · rw [x2 _ (by decide) (by decide)]; exact g2
    · rw [x2 _ (by decide) (by decide)]; exact g3
    · rw [x1 _ (by decide) (by decide)]; exact e1 _ _ _ (by omega)
    · rw [x1 _ (by decide) (by decide)]; exact e1 _ _ _ (by omega)
    · rw [x2 _ (by decide) (by decide)]; exact g1 _ _ _ (by omega) (by omega)
    · rw [x1 _ (by decide) (by decide), x2 _ (by decide) (by decide), e3, g4, W.ov]
    · rw [x1 _ (by decide) (by decide)]; exact e1 _ _ _ (by omega)
    · rw [x2 _ (by decide) (by decide)]; exact g1 _ _ _ (by omega) (by omega)
    · rw [x2 _ (by decide) (by decide)]; exact g1 _ _ _ (by omega) (by omega)
    · rw [k3.f2 _ _ _ (by omega) (by omega) (by omega) (by omega) (by omega), i2 _ _ _ (by omega)]; exact g5 s a b
    · rw [k3.f1 _ _ _ (by omega) (by omega) (by omega), i1 _ _ _ (by omega), e1 _ _ _ (by omega), k3.f2 _ _ _ (by omega) (by omega) (by omega) (by omega) (by omega), i2 _ _ _ (by omega), g1 _ _ _ (by omega) (by omega)]
      exact W.sk s a (by omega)
    · rw [k3.f2 _ _ _ (by omega) (by omega) (by omega) (by omega) (by omega), i2 _ _ _ (by omega), g1 _ _ _ (by omega) (by omega), k3.f2 _ _ _ (by omega) (by omega) (by omega) (by omega) (by omega), i2 _ _ _ (by omega), g1 _ _ _ (by omega) (by omega)]
      exact W.di s s' a b (by omega)
  · have c1 : D2 65 0 2 = 1 := by have := W.onb; omega
    rw [if_neg c, if_neg (show ¬ D2 65 0 2 ≠ 1 by omega), if_pos P.d.1]
    obtain ⟨E, G, k1, k2, k3⟩ := pu_perform hw (P.d.kept cd0) hD0 (by rw [e1 _ _ _ (by omega), g1 _ _ _ (by omega) (by omega)]; exact W.pt)
    rw [k1, k2]
    simp only [mi_bi]
    have y1 : ∀ (q : Nat) (j i : Int), ¬ ((q = 3 ∨ q = 17 ∨ q = 18) ∧ 60 * w ≤ j ∧ j < 60 * w + 60) → ¬ (q = 5 ∧ j = 7 * w) → ¬ (q = 2 ∧ j = w ∧ (i = 13 ∨ i = 8 ∨ i = 11)) → E q j i = D1 q j i := fun q j i a b c => by rw [k3.f1 _ _ _ a b (by omega), e1 _ _ _ (by omega)]
    have y2 : ∀ (q : Nat) (j i : Int), q ≠ 52 → q ≠ 53 → q ≠ 55 → q ≠ 57 → q ≠ 40 → q ≠ 59 → q ≠ 60 → ¬ (q = 65 ∧ j = 0 ∧ (i = 1 ∨ i = 2 ∨ i = 4 ∨ i = 7)) → G q j i = D2 q j i := fun q j i a b c d e f g h => by rw [k3.f2 _ _ _ (by omega) (by omega) (by omega) (by omega) (by omega), g1 _ _ _ (by omega) (by omega)]
    have al : E 8 (Z.1 12 w (D2 65 0 1)) 0 = D2 48 0 (D2 65 0 1) := by rw [y1 _ _ _ (by omega) (by omega) (by omega)]; exact P.al
    have al2 : G 48 0 (D2 65 0 1) = D2 48 0 (D2 65 0 1) := y2 _ _ _ (by decide) (by decide) (by decide) (by decide) (by decide) (by decide) (by decide) (by omega)
    unfold B_X9_unstackBelow
    rw [al, al2, if_pos (show 0 ≤ D2 65 0 1 ∧ D2 65 0 1 < 9 by omega)]
    have x1 : ∀ i : Int, i ≠ 13 → E 2 w i = E0 2 w i := fun i v => by rw [k3.f1 _ _ _ (by omega) (by omega) (by omega)]
    have x2 : ∀ i : Int, i ≠ 7 → G 65 0 i = G0 65 0 i := fun i v => by rw [k3.f2 _ _ _ (by omega) (by omega) (by omega) (by omega) (by omega)]
    have F1' : pu_s1 w D1 E := F1.tr k3.f1.s
    have F2' : pu_s2 D2 G := F2.tr k3.f2.s
    have s7 : E 2 w 7 = D2 65 0 0 := by rw [y1 _ _ _ (by omega) (by omega) (by omega)]; exact W.st
    by_cases ca : D2 48 0 (D2 65 0 1) = 0
    · rw [if_pos ca, if_neg (by omega)]
      refine ⟨E, G, rfl, rfl, h.side hw F1' F2' k3.d (fun s a b => ?_) (pu_WdO (m := D2 65 0 0) W F1' F2' s7 ?_ ⟨st0, st8⟩ ?_ ?_ ?_ ?_ ?_ ?_ ?_ ?_ ?_ k3.n ?_ (fun s a b => ?_) h.p.n0 (fun s a b => ?_) (fun s s' a b c => ?_)), F1', F2'⟩
      · rw [y1 _ _ _ (by omega) (by omega) (by omega)]; exact (h.t s a b).tu
      · exact y2 _ _ _ (by decide) (by decide) (by decide) (by decide) (by decide) (by decide) (by decide) (by omega)
      · rw [x1 _ (by decide)]; exact e2
      · rw [x2 _ (by decide)]; exact g2
      · rw [x2 _ (by decide)]; exact g3
      · rw [x1 _ (by decide)]; exact e1 _ _ _ (by omega)
      · rw [x1 _ (by decide)]; exact e1 _ _ _ (by omega)
      · rw [x2 _ (by decide)]; exact g1 _ _ _ (by omega) (by omega)
      · rw [x1 _ (by decide), x2 _ (by decide), e3, g4, W.ov]
      · rw [x1 _ (by decide)]; exact e1 _ _ _ (by omega)
      · rw [x2 _ (by decide)]; exact g1 _ _ _ (by omega) (by omega)
      · rw [x2 _ (by decide)]; exact g1 _ _ _ (by omega) (by omega)
      · rw [k3.f2 _ _ _ (by omega) (by omega) (by omega) (by omega) (by omega)]; exact g5 s a b
      · rw [y1 _ _ _ (by omega) (by omega) (by omega), y2 _ _ _ (by decide) (by decide) (by decide) (by decide) (by decide) (by decide) (by decide) (by omega)]
        exact W.sk s a b
      · rw [y2 64 _ _ (by decide) (by decide) (by decide) (by decide) (by decide) (by decide) (by decide) (by omega), y2 64 _ _ (by decide) (by decide) (by decide) (by decide) (by decide) (by decide) (by decide) (by omega)]
        exact W.di s s' a b c
    · rw [if_neg ca, if_pos ca, s7, if_neg (by omega)]
      rw [pu_w (x := D2 65 0 0 - 1) (by omega) (by omega), if_pos (by omega)]
      simp only [mi_let]
      have tp : E 15 w (D2 65 0 0 - 1) = D2 65 0 1 := by
        rw [y1 _ _ _ (by omega) (by omega) (by omega), top2]
        exact (W.sk _ (by omega) (by omega)).1
      rw [tp]
      generalize hE2 : mi_st (mi_st E 15 w 0 (D2 65 0 1)) 2 w 7 1 = E2
      generalize hG2 : mi_st (mi_st G 64 0 0 (D2 65 0 1)) 65 0 0 1 = G2
      have r1 : ∀ (q : Nat) (j i : Int), ¬ (q = 15 ∧ j = w ∧ i = 0) → ¬ (q = 2 ∧ j = w ∧ i = 7) → E2 q j i = E q j i := fun q j i u v => by rw [← hE2, pu_st, if_neg v, pu_st, if_neg u]
      have r2 : ∀ (q : Nat) (j i : Int), ¬ (q = 64 ∧ j = 0 ∧ i = 0) → ¬ (q = 65 ∧ j = 0 ∧ i = 0) → G2 q j i = G q j i := fun q j i u v => by rw [← hG2, pu_st, if_neg v, pu_st, if_neg u]
      have F1'' : pu_s1 w D1 E2 := F1'.tr fun q j i a b c d e => r1 q j i (by omega) (by omega)
      have F2'' : pu_s2 D2 G2 := F2'.tr fun q j i a b c d e f g => r2 q j i (by omega) (by omega)
      refine ⟨E2, G2, rfl, rfl, h.side hw F1'' F2'' (k3.d.o (fun q j i u => r1 q j i (by omega) (by omega)) (fun q j i u => r2 q j i (by omega) (by omega))) (fun s a b => ?_) (pu_WdO (m := 1) W F1'' F2'' (by rw [← hE2, pu_st_eq]) (by rw [← hG2, pu_st_eq]) (by decide) ?_ ?_ ?_ ?_ ?_ ?_ ?_ ?_ ?_ ?_ ?_ (fun s a b => ?_) h.p.n0 (fun s a b => ?_) (fun s s' a b c => ?_)), F1'', F2''⟩
      · rw [r1 _ _ _ (by omega) (by omega), y1 _ _ _ (by omega) (by omega) (by omega)]; exact (h.t s a b).tu
      · rw [r1 _ _ _ (by omega) (by omega), x1 _ (by decide)]; exact e2
      · rw [r2 _ _ _ (by omega) (by omega), x2 _ (by decide)]; exact g2
      · rw [r2 _ _ _ (by omega) (by omega), x2 _ (by decide)]; exact g3
      · rw [r1 _ _ _ (by omega) (by omega), x1 _ (by decide)]; exact e1 _ _ _ (by omega)
      · rw [r1 _ _ _ (by omega) (by omega), x1 _ (by decide)]; exact e1 _ _ _ (by omega)
      · rw [r2 _ _ _ (by omega) (by omega), x2 _ (by decide)]; exact g1 _ _ _ (by omega) (by omega)
      · rw [r1 _ _ _ (by omega) (by omega), r2 _ _ _ (by omega) (by omega), x1 _ (by decide), x2 _ (by decide), e3, g4, W.ov]
      · rw [r1 _ _ _ (by omega) (by omega), x1 _ (by decide)]; exact e1 _ _ _ (by omega)
      · rw [r2 _ _ _ (by omega) (by omega), x2 _ (by decide)]; exact g1 _ _ _ (by omega) (by omega)
      · rw [r1 _ _ _ (by omega) (by omega), r2 _ _ _ (by omega) (by omega)]; exact k3.n
      · rw [r2 _ _ _ (by omega) (by omega), x2 _ (by decide)]; exact g1 _ _ _ (by omega) (by omega)
      · rw [r2 _ _ _ (by omega) (by omega), k3.f2 _ _ _ (by omega) (by omega) (by omega) (by omega) (by omega)]; exact g5 s a b
      · obtain rfl : s = 0 := by omega
        have v1 : E2 15 w 0 = D2 65 0 1 := by rw [← hE2, pu_st, if_neg (by omega), pu_st_eq]
        have v2 : G2 64 0 0 = D2 65 0 1 := by rw [← hG2, pu_st, if_neg (by omega), pu_st_eq]
        rw [v1, v2]
        exact ⟨rfl, by omega, t1⟩
      · omega
theorem pu_settle {w : Int} {Z : MiZ} {D1 D2 : MiD} (hw : 0 ≤ w ∧ w < 2) (h : pu_A w Z D1 D2) : ∃ E G, B_X9_settle Z w D1 = some E ∧ B_X11_looks D2 = some G ∧ pu_A w Z E G ∧ pu_s1 w D1 E ∧ pu_s2 D2 G := by
  unfold B_X9_settle B_X11_looks
  rw [h.w.tn]
  by_cases hp : D2 65 0 1 = -1
  · rw [if_neg (fun z => z hp), if_neg (fun z => z hp)]
    exact ⟨D1, D2, rfl, rfl, h, pu_s1.rf, pu_s2.rf⟩
  rw [if_pos hp, if_pos hp]
  obtain ⟨g, E1, E2, a1, a2, a3, a4, a5, a6⟩ := pu_look_l hw mi_fuel 0 D1 D2 h hp (by decide) (by decide) (by have := pu_fuelE; omega)
  rw [a1, a2]
  have hp' : E2 65 0 1 ≠ -1 := by rw [a6]; exact hp
  obtain ⟨z, z1, z2, z3, z4⟩ := pu_left hw a3
  by_cases c : z = 0
  · have hl := (z4 hp').mp c
    obtain ⟨E, G, k1, k2, k3, k4, k5⟩ := pu_over g hw a3 hp' hl
    refine ⟨E, G, k1, ?_, k3, a4.tr k4, a5.tr k5⟩
    unfold B_X11_looks_13
    rw [if_pos (show (6 : Int) ≤ 6 by decide), z2, pu_biE, if_neg (fun u => u c), k2, pu_biE]
  · refine ⟨E1, E2, ?_, ?_, a3, a4, a5⟩
    · have t0 := a3.w.tn0
      have t1 := a3.w.tn1
      have n8 := a3.p.n8
      unfold B_X9_settle_11
      rw [if_pos (show (6 : Int) ≤ 6 by decide), a3.w.tn, if_pos (show 0 ≤ E2 65 0 1 ∧ E2 65 0 1 < 8 by omega), z1, pu_biE, if_pos (by omega)]
    · unfold B_X11_looks_13
      rw [if_pos (show (6 : Int) ≤ 6 by decide), z2, pu_biE, if_pos c]
def pu_t1 (w : Int) (D E : MiD) : Prop := ∀ (q : Nat) (j i : Int), ¬ ((q = 2 ∨ q = 15) ∧ j = w) → ¬ ((q = 3 ∨ q = 17 ∨ q = 18) ∧ 60 * w ≤ j ∧ j < 60 * w + 60) → ¬ ((q = 4 ∨ q = 19 ∨ q = 20 ∨ q = 21 ∨ q = 22) ∧ 6 * w ≤ j ∧ j < 6 * w + 6) → ¬ (q = 5 ∧ 7 * w ≤ j ∧ j < 7 * w + 7) → E q j i = D q j i
def pu_t2 (D E : MiD) : Prop := ∀ (q : Nat) (j i : Int), ¬ (q = 52 ∨ q = 53 ∨ q = 55 ∨ q = 57 ∨ q = 59 ∨ q = 60 ∨ q = 63 ∨ q = 64 ∨ q = 65) → ¬ (q = 40 ∧ j = 0 ∧ (i = 25 ∨ i = 26)) → E q j i = D q j i
theorem pu_t1.rf {w : Int} {D : MiD} : pu_t1 w D D := fun _ _ _ _ _ _ _ => rfl
theorem pu_t2.rf {D : MiD} : pu_t2 D D := fun _ _ _ _ _ => rfl
theorem pu_t1.tr {w : Int} {D E F : MiD} (h : pu_t1 w D E) (k : pu_t1 w E F) : pu_t1 w D F := fun q j i a b c d => (k q j i a b c d).trans (h q j i a b c d)
theorem pu_t2.tr {D E F : MiD} (h : pu_t2 D E) (k : pu_t2 E F) : pu_t2 D F := fun q j i a b => (k q j i a b).trans (h q j i a b)
theorem pu_s1.t {w : Int} {D E : MiD} (h : pu_s1 w D E) : pu_t1 w D E := fun q j i a b c d => h q j i (by omega) (by omega) (by omega) b (by omega)
theorem pu_s2.t {D E : MiD} (h : pu_s2 D E) : pu_t2 D E := fun q j i a b => h q j i (by omega) (by omega) (by omega) (by omega) b (by omega) (by omega)
theorem pu_a1.t {w t : Int} {D E : MiD} (hw : 0 ≤ w ∧ w < 2) (ht : 0 ≤ t ∧ t < 6) (h : pu_a1 w t D E) : pu_t1 w D E := fun q j i a b c d => h q j i (by omega) (by omega) b (by omega)
theorem pu_a2.t {t : Int} {D E : MiD} (h : pu_a2 t D E) : pu_t2 D E := fun q j i a b => h q j i (by omega) (by omega) (by omega) (by omega) b (by omega)
theorem pu_count {w : Int} {Z : MiZ} {D1 D2 : MiD} (hw : 0 ≤ w ∧ w < 2) (h : pu_A w Z D1 D2) : pu_A w Z (mi_st D1 2 w 10 (mi_w (D1 2 w 10 + 1))) (mi_st D2 65 0 3 (mi_w (D2 65 0 3 + 1))) := by
  have W := h.w
  have o1 : ∀ (q : Nat) (j i : Int), ¬ (q = 2 ∧ j = w ∧ i = 10) → mi_st D1 2 w 10 (mi_w (D1 2 w 10 + 1)) q j i = D1 q j i := fun q j i z => by rw [pu_st, if_neg z]
  have o2 : ∀ (q : Nat) (j i : Int), ¬ (q = 65 ∧ j = 0 ∧ i = 3) → mi_st D2 65 0 3 (mi_w (D2 65 0 3 + 1)) q j i = D2 q j i := fun q j i z => by rw [pu_st, if_neg z]
  refine h.side hw (fun q j i a b c d e => o1 q j i (by omega)) (fun q j i a b c d e f g => o2 q j i (by omega)) (h.d.o (fun q j i z => o1 q j i (by omega)) (fun q j i z => o2 q j i (by omega))) (fun s a b => by rw [o1 _ _ _ (by omega)]; exact (h.t s a b).tu) ?_
  obtain ⟨b1, b2, b3, b4, b5, b6, b7, b8, b9, b10, b11, b12, b13, b14, b15, b16, b17, b18, b19, b20⟩ := W
  have p1 : ∀ i : Int, i ≠ 10 → mi_st D1 2 w 10 (mi_w (D1 2 w 10 + 1)) 2 w i = D1 2 w i := fun i u => o1 _ _ _ (by omega)
  have p2 : ∀ i : Int, i ≠ 3 → mi_st D2 65 0 3 (mi_w (D2 65 0 3 + 1)) 65 0 i = D2 65 0 i := fun i u => o2 _ _ _ (by omega)
  have p3 : ∀ i : Int, mi_st D2 65 0 3 (mi_w (D2 65 0 3 + 1)) 64 0 i = D2 64 0 i := fun i => o2 _ _ _ (by omega)
  have p4 : mi_st D2 65 0 3 (mi_w (D2 65 0 3 + 1)) 40 0 11 = D2 40 0 11 := o2 _ _ _ (by omega)
  have p5 : ∀ s i : Int, mi_st D2 65 0 3 (mi_w (D2 65 0 3 + 1)) 59 s i = D2 59 s i := fun s i => o2 _ _ _ (by omega)
  have p6 : ∀ s : Int, mi_st D1 2 w 10 (mi_w (D1 2 w 10 + 1)) 15 w s = D1 15 w s := fun s => o1 _ _ _ (by omega)
  have p7 : ∀ s : Int, mi_st D1 2 w 10 (mi_w (D1 2 w 10 + 1)) 16 w s = D1 16 w s := fun s => o1 _ _ _ (by omega)
  have p8 : ∀ s : Int, mi_st D2 65 0 3 (mi_w (D2 65 0 3 + 1)) 49 0 s = D2 49 0 s := fun s => o2 _ _ _ (by omega)
  have p9 : ∀ s : Int, mi_st D1 2 w 10 (mi_w (D1 2 w 10 + 1)) 4 s 8 = D1 4 s 8 := fun s => o1 _ _ _ (by omega)
  refine ⟨?_, ?_, ?_, ?_, ?_, ?_, ?_, ?_, ?_, ?_, ?_, ?_, ?_, ?_, ?_, ?_, ?_, ?_, ?_, ?_⟩
  all_goals try (simp only [p1 7 (by decide), p1 8 (by decide), p1 9 (by decide), p1 11 (by decide), p1 12 (by decide), p1 13 (by decide), p2 0 (by decide), p2 1 (by decide), p2 2 (by decide), p2 4 (by decide), p2 5 (by decide), p2 6 (by decide), p2 7 (by decide), p3, p4, p5, p6, p7, p8, p9]; assumption)
  · rw [pu_st_eq, pu_st_eq, b12]
theorem pu_tick_l {w : Int} {Z : MiZ} (hw : 0 ≤ w ∧ w < 2) : ∀ (f : Nat) (t : Int) (D1 D2 : MiD), pu_A w Z D1 D2 → 0 ≤ t → t ≤ 6 → 6 - t < f →
    ∃ E G, B_X9_tick_2 Z f w t D1 = some E ∧ B_X11_tick_2 f t D2 = some G ∧ pu_A w Z E G ∧ pu_t1 w D1 E ∧ pu_t2 D2 G
  | 0, t, D1, D2, h, h1, h2, h3 => by omega
  | f + 1, t, D1, D2, h, h1, h2, h3 => by
    unfold B_X9_tick_2 B_X11_tick_2
    by_cases c : 6 ≤ t
    · rw [if_pos c, if_pos c, pu_letE, pu_letE]
      obtain ⟨E, G, k1, k2, k3, k4, k5⟩ := pu_settle hw (pu_count hw h)
      rw [k1, k2, pu_biE, pu_biE]
      exact ⟨E, G, rfl, rfl, k3, (show pu_t1 w D1 _ from fun q j i a b c d => by rw [pu_st, if_neg (by omega)]).tr k4.t, (show pu_t2 D2 _ from fun q j i a b => by rw [pu_st, if_neg (by omega)]).tr k5.t⟩
    · have ht : 0 ≤ t ∧ t < 6 := by omega
      have K := h.t t ht.1 ht.2
      have fr0 := K.fr0
      rw [if_neg c, if_neg c, pu_w (x := t + 1) (by omega) (by omega)]
      unfold B_X11_isIdle
      rw [if_pos (show 0 ≤ t ∧ t < 7 by omega)]
      by_cases i0 : D2 59 t 0 = 0
      · rw [pu_act0 hw ht h i0, pu_biE, if_neg (fun z => z i0), pu_biE, if_pos (show (1 : Int) ≠ 0 by decide)]
        exact pu_tick_l hw f (t + 1) D1 D2 h (by omega) (by omega) (by omega)
      · obtain ⟨E, b, k1, k2, k3⟩ := pu_act hw ht h (by omega)
        rw [k1, k2, pu_biE, if_pos i0, pu_biE, if_neg (fun z => z rfl)]
        obtain ⟨E', G', m1, m2, m3, m4, m5⟩ := pu_tick_l hw f (t + 1) E b.2 k3.a (by omega) (by omega) (by omega)
        exact ⟨E', G', m1, m2, m3, (k3.f1.t hw ht).tr m4, k3.f2.t.tr m5⟩
theorem pu_tick {w : Int} {Z : MiZ} {D1 D2 : MiD} (hw : 0 ≤ w ∧ w < 2) (h : pu_A w Z D1 D2) : ∃ E G, B_X9_tick Z w D1 = some E ∧ B_X11_tick D2 = some G ∧ pu_A w Z E G ∧ pu_t1 w D1 E ∧ pu_t2 D2 G := by
  unfold B_X9_tick B_X11_tick
  exact pu_tick_l hw mi_fuel 0 D1 D2 h (by decide) (by decide) (by have := pu_fuelE; omega)
