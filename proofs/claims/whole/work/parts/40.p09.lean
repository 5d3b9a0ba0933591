theorem pu_room {Z : MiZ} {D1 D2 : MiD} {p : Int} (h : pu_A 0 Z D1 D2) (hp : 0 ≤ p ∧ p < D2 40 0 11) (hn : ∀ s : Int, 0 ≤ s → s < D2 65 0 0 → D2 64 0 s ≠ p) : D2 65 0 0 < 8 := by
  have W := h.w
  have w0 := W.st0
  have n0 := h.p.n0
  have n8 := h.p.n8
  have := pu_pig (D2 40 0 11).toNat ((D2 65 0 0).toNat + 1) (fun i => if i = D2 65 0 0 then p else D2 64 0 i) (fun s a b => by
    show 0 ≤ (if s = D2 65 0 0 then p else D2 64 0 s) ∧ (if s = D2 65 0 0 then p else D2 64 0 s) < _
    by_cases c : s = D2 65 0 0
    · rw [if_pos c]; omega
    · rw [if_neg c]
      have := W.sk s a (by omega)
      omega) (fun s s' a b d => by
    show (if s = D2 65 0 0 then p else D2 64 0 s) ≠ (if s' = D2 65 0 0 then p else D2 64 0 s')
    rw [if_neg (by omega)]
    by_cases c : s' = D2 65 0 0
    · rw [if_pos c]; exact hn s a (by omega)
    · rw [if_neg c]; exact W.di s s' a b (by omega))
  omega
theorem pu_up {Z : MiZ} {D1 D2 : MiD} {p : Int} (h : pu_A 0 Z D1 D2) (hp : 0 ≤ p ∧ p < D2 40 0 11) (hn : ∀ s : Int, 0 ≤ s → s < D2 65 0 0 → D2 64 0 s ≠ p) (ht : D2 65 0 1 = -1) :
    ∃ E G, B_X9_perform Z 0 (Z.1 8 (Z.1 12 0 p) 2) (mi_st D1 16 0 p (mi_w (D1 16 0 p + 1))) = some E ∧ B_X11_doesAll (20 + 11 * p) D2 = some G ∧ E 2 0 7 = D2 65 0 0 ∧ G 65 0 0 = D2 65 0 0 ∧ G 49 0 p = D2 49 0 p ∧
    pu_A 0 Z (mi_st (mi_st E 15 0 (D2 65 0 0) p) 2 0 7 (D2 65 0 0 + 1)) (mi_st (mi_st (mi_st G 64 0 (D2 65 0 0) p) 65 0 0 (D2 65 0 0 + 1)) 49 0 p (mi_w (D2 49 0 p + 1))) ∧ (∀ (q : Nat) (j i : Int), q = 0 ∨ q = 1 ∨ q = 10 → E q j i = D1 q j i) ∧ (∀ (q : Nat) (j i : Int), q = 0 ∨ q = 41 ∨ q = 42 ∨ q = 47 ∨ q = 51 ∨ q = 40 ∧ i ≠ 25 ∧ i ≠ 26 → G q j i = D2 q j i) := by
  have W := h.w
  have w0 := W.st0
  have n8 := h.p.n8
  have r8 := pu_room h hp hn
  have P := h.p.pt p hp.1 hp.2
  have o0 : ∀ (q : Nat) (j i : Int), ¬ (q = 16 ∧ j = 0 ∧ i = p) → mi_st D1 16 0 p (mi_w (D1 16 0 p + 1)) q j i = D1 q j i := fun q j i z => by rw [pu_st, if_neg z]
  have v0 : mi_st D1 16 0 p (mi_w (D1 16 0 p + 1)) 16 0 p = mi_w (D1 16 0 p + 1) := pu_st_eq
  generalize mi_st D1 16 0 p (mi_w (D1 16 0 p + 1)) = D1a at *
  obtain ⟨E, G, g1, g2, g3⟩ := pu_perform (w := 0) (by decide) (P.b.kept ⟨fun q j i z => o0 q j i (by omega), fun _ _ _ _ => rfl, rfl⟩) (h.d.o (fun q j i z => o0 q j i (by omega)) (fun _ _ _ _ => rfl)) (by rw [o0 _ _ _ (by omega)]; exact W.pt)
  have F1 := g3.f1
  have F2 := g3.f2
  have fE : ∀ (q : Nat) (j i : Int), ¬ ((q = 3 ∨ q = 17 ∨ q = 18) ∧ 60 * 0 ≤ j ∧ j < 60 * 0 + 60) → ¬ (q = 5 ∧ j = 7 * 0) → ¬ (q = 2 ∧ j = 0 ∧ i = 13) → ¬ (q = 16 ∧ j = 0 ∧ i = p) → E q j i = D1 q j i := fun q j i a b c d => (F1 q j i a b c).trans (o0 q j i d)
  have e7 : E 2 0 7 = D2 65 0 0 := (fE _ _ _ (by omega) (by omega) (by omega) (by omega)).trans W.st
  have g7 : G 65 0 0 = D2 65 0 0 := F2 _ _ _ (by omega) (by omega) (by omega) (by omega) (by omega)
  have e16 : E 16 0 p = mi_w (D1 16 0 p + 1) := (F1 _ _ _ (by omega) (by omega) (by omega)).trans v0
  refine ⟨E, G, g1, g2, e7, g7, F2 _ _ _ (by omega) (by omega) (by omega) (by omega) (by omega), ?_, fun q j i z => fE q j i (by omega) (by omega) (by omega) (by omega), fun q j i z => F2 q j i (by omega) (by omega) (by omega) (by omega) (by omega)⟩
  generalize hE' : mi_st (mi_st E 15 0 (D2 65 0 0) p) 2 0 7 (D2 65 0 0 + 1) = E'
  generalize hG' : mi_st (mi_st (mi_st G 64 0 (D2 65 0 0) p) 65 0 0 (D2 65 0 0 + 1)) 49 0 p (mi_w (D2 49 0 p + 1)) = G'
  have x1 : ∀ (q : Nat) (j i : Int), ¬ (q = 15 ∧ j = 0 ∧ i = D2 65 0 0) → ¬ (q = 2 ∧ j = 0 ∧ i = 7) → E' q j i = E q j i := fun q j i a b => by rw [← hE', pu_st, if_neg b, pu_st, if_neg a]
  have x2 : ∀ (q : Nat) (j i : Int), ¬ (q = 64 ∧ j = 0 ∧ i = D2 65 0 0) → ¬ (q = 65 ∧ j = 0 ∧ i = 0) → ¬ (q = 49 ∧ j = 0 ∧ i = p) → G' q j i = G q j i := fun q j i a b c => by rw [← hG', pu_st, if_neg c, pu_st, if_neg b, pu_st, if_neg a]
  have y7 : E' 2 0 7 = D2 65 0 0 + 1 := by rw [← hE', pu_st_eq]
  have y15 : E' 15 0 (D2 65 0 0) = p := by rw [← hE', pu_st, if_neg (by omega), pu_st_eq]
  have z0 : G' 65 0 0 = D2 65 0 0 + 1 := by rw [← hG', pu_st, if_neg (by omega), pu_st_eq]
  have z64 : G' 64 0 (D2 65 0 0) = p := by rw [← hG', pu_st, if_neg (by omega), pu_st, if_neg (by omega), pu_st_eq]
  have z49 : G' 49 0 p = mi_w (D2 49 0 p + 1) := by rw [← hG', pu_st_eq]
  have k1 : ∀ (q : Nat) (j i : Int), q ≠ 3 → q ≠ 17 → q ≠ 18 → q ≠ 5 → ¬ (q = 2 ∧ j = 0 ∧ (i = 13 ∨ i = 7)) → ¬ (q = 16 ∧ j = 0 ∧ i = p) → ¬ (q = 15 ∧ j = 0 ∧ i = D2 65 0 0) → E' q j i = D1 q j i := fun q j i a b c d e f g => (x1 q j i (by omega) (by omega)).trans (fE q j i (by omega) (by omega) (by omega) (by omega))
  have k2 : ∀ (q : Nat) (j i : Int), q ≠ 52 → q ≠ 53 → q ≠ 55 → q ≠ 57 → ¬ (q = 40 ∧ (i = 25 ∨ i = 26)) → ¬ (q = 59 ∧ j = 6) → q ≠ 60 → ¬ (q = 65 ∧ (i = 7 ∨ i = 0)) → ¬ (q = 64 ∧ i = D2 65 0 0) → ¬ (q = 49 ∧ i = p) → G' q j i = D2 q j i := fun q j i a b c d e f g h' i' j' => (x2 q j i (by omega) (by omega) (by omega)).trans (F2 q j i (by omega) (by omega) (by omega) (by omega) (by omega))
  refine h.side2 (by decide) (fun q j i a b c d e => (x1 q j i (by omega) (by omega)).trans (fE q j i (by omega) (by omega) (by omega) (by omega))) (fun q j i a b c d e f g => (x2 q j i (by omega) (by omega) (by omega)).trans (F2 q j i (by omega) (by omega) (by omega) (by omega) (by omega))) (g3.d.o (fun q j i z => x1 q j i (by omega) (by omega)) (fun q j i z => x2 q j i (by omega) (by omega) (by omega))) (fun s a b => by rw [k1 _ _ _ (by decide) (by decide) (by decide) (by decide) (by omega) (by omega) (by omega)]; exact (h.t s a b).tu) ?_
  obtain ⟨b1, b2, b3, b4, b5, b6, b7, b8, b9, b10, b11, b12, b13, b14, b15, b16, b17, b18, b19, b20⟩ := W
  have p2 : ∀ i : Int, i ≠ 13 → i ≠ 7 → E' 2 0 i = D1 2 0 i := fun i x y => k1 _ _ _ (by decide) (by decide) (by decide) (by decide) (by omega) (by omega) (by omega)
  have p65 : ∀ i : Int, i ≠ 7 → i ≠ 0 → G' 65 0 i = D2 65 0 i := fun i x y => k2 _ _ _ (by decide) (by decide) (by decide) (by decide) (by omega) (by omega) (by decide) (by omega) (by omega) (by omega)
  have p4 : G' 40 0 11 = D2 40 0 11 := k2 _ _ _ (by decide) (by decide) (by decide) (by decide) (by omega) (by omega) (by decide) (by omega) (by omega) (by omega)
  have p5 : ∀ s i : Int, s ≠ 6 → G' 59 s i = D2 59 s i := fun s i x => k2 _ _ _ (by decide) (by decide) (by decide) (by decide) (by omega) (by omega) (by decide) (by omega) (by omega) (by omega)
  have p9 : ∀ s : Int, E' 4 s 8 = D1 4 s 8 := fun s => k1 _ _ _ (by decide) (by decide) (by decide) (by decide) (by omega) (by omega) (by omega)
  refine ⟨by rw [y7, z0], by omega, by omega, ?_, ?_, ?_, ?_, ?_, ?_, fun t x y z => ?_, fun t x y z => ?_, ?_, ?_, ?_, ?_, ?_, fun s x y => ?_, fun s s' x y z => ?_, fun z => ?_, fun r x y => ?_⟩
  all_goals try (simp only [p2 8 (by decide) (by decide), p2 9 (by decide) (by decide), p2 10 (by decide) (by decide), p2 11 (by decide) (by decide), p2 12 (by decide) (by decide), p65 1 (by decide) (by decide), p65 2 (by decide) (by decide), p65 3 (by decide) (by decide), p65 4 (by decide) (by decide), p65 5 (by decide) (by decide), p65 6 (by decide) (by decide), p4, p5 _ _ (show (0 : Int) ≠ 6 by decide), p5 _ _ (show (1 : Int) ≠ 6 by decide), p5 _ _ (show (2 : Int) ≠ 6 by decide), p5 _ _ (show (3 : Int) ≠ 6 by decide), p5 _ _ (show (4 : Int) ≠ 6 by decide), p5 _ _ (show (5 : Int) ≠ 6 by decide), p9]; assumption)
  · rw [p65 1 (by decide) (by decide)] at z
    exact absurd ht z
  · rw [p5 t 4 (by omega)]
    exact b11 t x y ht
  · rw [x1 _ _ _ (by omega) (by omega), x2 _ _ _ (by omega) (by omega) (by omega)]
    exact g3.n
  · rw [z0] at y
    rw [p4]
    by_cases c : s = D2 65 0 0
    · subst c
      rw [y15, z64]
      exact ⟨rfl, hp⟩
    · rw [k1 _ _ _ (by decide) (by decide) (by decide) (by decide) (by omega) (by omega) (by omega), k2 _ _ _ (by decide) (by decide) (by decide) (by decide) (by omega) (by omega) (by decide) (by omega) (by omega) (by omega)]
      exact b17 s x (by omega)
  · rw [z0] at z
    rw [k2 64 _ s (by decide) (by decide) (by decide) (by decide) (by omega) (by omega) (by decide) (by omega) (by omega) (by omega)]
    by_cases c : s' = D2 65 0 0
    · subst c
      rw [z64]
      exact hn s x y
    · rw [k2 64 _ s' (by decide) (by decide) (by decide) (by decide) (by omega) (by omega) (by decide) (by omega) (by omega) (by omega)]
      exact b18 s s' x y (by omega)
  · rw [p65 1 (by decide) (by decide)] at z
    exact absurd ht z
  · by_cases c : r = p
    · subst c
      rw [x1 _ _ _ (by omega) (by omega), e16, z49, b20 r x y]
    · rw [k1 _ _ _ (by decide) (by decide) (by decide) (by decide) (by omega) (by omega) (by omega), k2 _ _ _ (by decide) (by decide) (by decide) (by decide) (by omega) (by omega) (by decide) (by omega) (by omega) (by omega)]
      exact b20 r x y
theorem pu_enable {Z : MiZ} {D1 D2 : MiD} {p : Int} (h : pu_L Z D1 D2) : pu_ans pu_m02 Z D1 D2 (B_X10_enable Z p D1) (B_X11_enable p D2) := by
  have hL := h.z.a
  have hC := h.z.c
  have W := hL.w
  have n0 := hL.p.n0
  have n8 := hL.p.n8
  have pc := hC.pc
  have fE := pu_fuelE
  have w1 : mi_w (mi_st D2 40 0 0 0 40 0 11 - 1) = mi_st D2 40 0 0 0 40 0 11 - 1 := pu_w (by omega) (by omega)
  by_cases c : 0 ≤ p ∧ p < mi_st D2 40 0 0 0 40 0 11
  · have P := hL.p.pt p c.1 c.2
    have at0 := P.at0
    obtain ⟨s, s1, s2, s3, s4, s5⟩ := pu_height (p := p) hL
    have hb : B_X11_enable p D2 = if s = -1 ∧ mi_st D2 40 0 0 0 65 0 1 = -1 then B_X11_enable_51 p 0 (mi_st D2 40 0 0 0) else B_X11_enable_51 p 1 (mi_st D2 40 0 0 0) := by
      unfold B_X11_enable B_X11_enable_19 B_X11_enable_46 B_X11_isPatch
      rw [pu_letE, pu_biE, pu_in, w1, if_pos (show 0 ≤ p ∧ p ≤ mi_st D2 40 0 0 0 40 0 11 - 1 by omega), if_pos (show (1 : Int) ≠ 0 by decide), if_pos (show (0 : Int) = 0 ∨ (0 : Int) = 1 from Or.inl rfl), pu_bdg10, if_pos rfl, if_neg (show ¬ ((0 : Int) ≠ 0) by decide), s3, pu_biE]
      by_cases e1 : s = -1
      · rw [if_pos e1, if_neg (show ¬ ((0 : Int) ≠ 0) by decide)]
        by_cases e2 : mi_st D2 40 0 0 0 65 0 1 = -1
        · rw [if_pos e2, if_pos ⟨e1, e2⟩]
        · rw [if_neg e2, if_neg (fun z => e2 z.2)]
      · rw [if_neg e1, if_pos (show (1 : Int) ≠ 0 by decide), if_neg (fun z => e1 z.1)]
    have ha : B_X10_enable Z p D1 = if s = -1 ∧ mi_st D2 40 0 0 0 65 0 1 = -1 then B_X10_enable_41 Z p 1 D1 else B_X10_enable_41 Z p 0 D1 := by
      unfold B_X10_enable B_X10_enable_40
      rw [pc, pu_within, if_pos c, pu_nE1, W.tn, s1, pu_biE]
      by_cases e2 : mi_st D2 40 0 0 0 65 0 1 = -1
      · rw [if_neg (fun z => z e2)]
        by_cases e1 : s = -1
        · rw [if_neg (fun z => z e1), if_pos ⟨e1, e2⟩]
        · rw [if_pos e1, if_neg (fun z => e1 z.1)]
      · rw [if_pos e2, if_neg (fun z => e2 z.2)]
    rw [ha, hb]
    by_cases e : s = -1 ∧ mi_st D2 40 0 0 0 65 0 1 = -1
    · rw [if_pos e, if_pos e]
      have hn := s4.mp e.1
      have r8 := pu_room hL c hn
      have w0 := W.st0
      obtain ⟨E, G, g1, g2, g3, g4, g5, g6, g7, g8⟩ := pu_up hL c hn e.2
      have hT := pu_turn (p := p) (v := 1) (Or.inr rfl) g6 (by rw [pu_st, if_neg (by omega), pu_st_eq]; omega) (by
        have e1 : mi_st (mi_st (mi_st G 64 0 (mi_st D2 40 0 0 0 65 0 0) p) 65 0 0 (mi_st D2 40 0 0 0 65 0 0 + 1)) 49 0 p (mi_w (mi_st D2 40 0 0 0 49 0 p + 1)) 65 0 0 = mi_st D2 40 0 0 0 65 0 0 + 1 := by rw [pu_st, if_neg (by omega), pu_st_eq]
        rw [e1, show mi_st D2 40 0 0 0 65 0 0 + 1 - 1 = mi_st D2 40 0 0 0 65 0 0 by omega, pu_st, if_neg (by omega), pu_st, if_neg (by omega), pu_st_eq])
      obtain ⟨E', G', k1, k2, k3, k4, k5⟩ := pu_settle (by decide) hT
      obtain ⟨z, z1, z2, -⟩ := pu_left (by decide) k3
      refine pu_ans.tl h (v := z) k3 (fun q j i x => ?_) (fun q j i x => ?_) ?_ ?_
      · rw [k4 q j i (by omega) (by omega) (by omega) (by omega) (by omega)]
        unfold pu_bt
        rw [if_neg (by omega), pu_st, if_neg (by omega), pu_st, if_neg (by omega), pu_st, if_neg (by omega), pu_st, if_neg (by omega)]
        exact g7 q j i x
      · rw [k5 q j i (by omega) (by omega) (by omega) (by omega) (by omega) (by omega) (by omega)]
        unfold pu_btM
        rw [if_neg (by omega), pu_st, if_neg (by omega), pu_st, if_neg (by omega), pu_st, if_neg (by omega), pu_st, if_neg (by omega), pu_st (r := 64), if_neg (by omega)]
        exact g8 q j i x
      · have wst : mi_w (mi_st D2 40 0 0 0 65 0 0 + 1) = mi_st D2 40 0 0 0 65 0 0 + 1 := pu_w (by omega) (by omega)
        have e15 : mi_st E 15 0 (mi_st D2 40 0 0 0 65 0 0) p 2 0 7 = mi_st D2 40 0 0 0 65 0 0 := by rw [pu_st, if_neg (by omega), g3]
        unfold B_X10_enable_41 B_X9_stackUp B_X9_stackUp_71 B_X9_beginTurning
        rw [if_pos (Or.inr rfl), pu_nS1, W.st, if_neg (show ¬ 8 ≤ mi_st D2 40 0 0 0 65 0 0 by omega), if_pos (show 0 ≤ p ∧ p < 8 by omega), if_neg (show ¬ Z.1 12 0 p < 0 by omega), pu_letE, if_pos at0, if_pos P.b.1, g1, pu_biE, g3, if_pos (show 0 ≤ mi_st D2 40 0 0 0 65 0 0 ∧ mi_st D2 40 0 0 0 65 0 0 < 8 by omega), pu_letE, pu_letE, e15, wst, pu_letE, pu_letE, pu_bt_l (Or.inr rfl) _ _ _ (by decide) (by decide) (by omega), pu_biE, k1, pu_biE, z1, pu_biE, pu_b2E]
      · have wst : mi_w (mi_st D2 40 0 0 0 65 0 0 + 1) = mi_st D2 40 0 0 0 65 0 0 + 1 := pu_w (by omega) (by omega)
        have e64 : mi_st G 64 0 (mi_st D2 40 0 0 0 65 0 0) p 65 0 0 = mi_st D2 40 0 0 0 65 0 0 := by rw [pu_st, if_neg (by omega), g4]
        have e49 : mi_st (mi_st G 64 0 (mi_st D2 40 0 0 0 65 0 0) p) 65 0 0 (mi_st D2 40 0 0 0 65 0 0 + 1) 49 0 p = mi_st D2 40 0 0 0 49 0 p := by rw [pu_st, if_neg (by omega), pu_st, if_neg (by omega), g5]
        unfold B_X11_enable_51 B_X11_turns
        rw [if_pos (show (0 : Int) = 0 ∨ (0 : Int) = 1 from Or.inl rfl), pu_bdg22, if_pos rfl, if_pos rfl, pu_codeAt (by omega) (by decide), show (12 + 11 * p + 8 : Int) = 20 + 11 * p by omega, g2, pu_biE, g4, if_pos (show 0 ≤ mi_st D2 40 0 0 0 65 0 0 ∧ mi_st D2 40 0 0 0 65 0 0 < 8 by omega), pu_letE, pu_letE, e64, wst, if_pos (show 0 ≤ p ∧ p < 8 by omega), pu_letE, e49, pu_letE, pu_letE, pu_btM_l (Or.inr rfl) _ _ _ (by decide) (by decide) (by omega), k2, pu_biE, z2, pu_biE]
    · rw [if_neg e, if_neg e]
      refine pu_ans.e2 h 2 rfl (by decide) ?_ ?_
      · unfold B_X10_enable_41
        rw [if_pos (Or.inl rfl), pu_nS]
      · unfold B_X11_enable_51
        rw [if_pos (Or.inr rfl), pu_bdg22, if_neg (by decide), if_neg (by decide)]
  · refine pu_ans.e0 h rfl ?_ ?_
    · unfold B_X10_enable
      rw [pc, pu_within, if_neg c, pu_nE]
    · unfold B_X11_enable B_X11_enable_19 B_X11_isPatch
      rw [pu_letE, pu_biE, pu_in, w1, if_neg (show ¬ (0 ≤ p ∧ p ≤ mi_st D2 40 0 0 0 40 0 11 - 1) by omega), if_neg (show ¬ ((0 : Int) ≠ 0) by decide), if_pos (show (1 : Int) = 0 ∨ (1 : Int) = 1 from Or.inr rfl), pu_bdg10, if_neg (show ¬ ((1 : Int) = 0) by decide), if_pos (show (1 : Int) ≠ 0 by decide)]
def pu_lf (D : MiD) (R : Nat) (J k len n : Int) : MiD := fun q j i => if q = 66 ∧ j = 0 ∧ n ≤ i ∧ i < n + (len - k) then D R J (k + (i - n)) else if q = 40 ∧ j = 0 ∧ i = 29 then n + (len - k) else D q j i
def pu_lb (D : MiD) (R : Nat) (J k len n : Int) : MiD := fun q j i => if q = R ∧ j = J ∧ k ≤ i ∧ i < len then D 66 0 (n + (i - k)) else if q = 40 ∧ j = 0 ∧ i = 29 then n + (len - k) else D q j i
theorem pu_lf_0 {D : MiD} {R : Nat} {J len n : Int} (h : D 40 0 29 = n) : pu_lf D R J len len n = D := by
  funext q j i
  unfold pu_lf
  rw [if_neg (by omega)]
  split
  · rename_i z
    obtain ⟨rfl, rfl, rfl⟩ := z
    omega
  · rfl
theorem pu_lb_0 {D : MiD} {R : Nat} {J len n : Int} (h : D 40 0 29 = n) : pu_lb D R J len len n = D := by
  funext q j i
  unfold pu_lb
  rw [if_neg (by omega)]
  split
  · rename_i z
    obtain ⟨rfl, rfl, rfl⟩ := z
    omega
  · rfl
theorem pu_lf_s {D : MiD} {R : Nat} {J k len n : Int} (hR : R ≠ 66 ∧ R ≠ 40) (h : D 40 0 29 = n) (hk : k < len) : pu_lf (mi_st (mi_st D 66 0 n (D R J k)) 40 0 29 (n + 1)) R J (k + 1) len (n + 1) = pu_lf D R J k len n := by
  funext q j i
  unfold pu_lf
  by_cases c : q = 66 ∧ j = 0 ∧ n ≤ i ∧ i < n + (len - k)
  · rw [if_pos c]
    by_cases d : i = n
    · rw [if_neg (by omega), if_neg (by omega), pu_st, if_neg (by omega), pu_st, if_pos (by omega), d]
      congr 1; omega
    · rw [if_pos (by omega), pu_st, if_neg (by omega), pu_st, if_neg (by omega)]
      congr 1; omega
  · rw [if_neg c, if_neg (by omega)]
    by_cases d : q = 40 ∧ j = 0 ∧ i = 29
    · rw [if_pos d, if_pos d]; omega
    · rw [if_neg d, if_neg d, pu_st, if_neg (by omega), pu_st, if_neg (by omega)]
theorem pu_lb_s {D : MiD} {R : Nat} {J k len n : Int} (hR : R ≠ 66 ∧ R ≠ 40) (h : D 40 0 29 = n) (hk : k < len) : pu_lb (mi_st (mi_st D R J k (D 66 0 n)) 40 0 29 (n + 1)) R J (k + 1) len (n + 1) = pu_lb D R J k len n := by
  funext q j i
  unfold pu_lb
  by_cases c : q = R ∧ j = J ∧ k ≤ i ∧ i < len
  · rw [if_pos c]
    by_cases d : i = k
    · rw [if_neg (by omega), if_neg (by omega), pu_st, if_neg (by omega), pu_st, if_pos (by omega), d]
      congr 1; omega
    · rw [if_pos (by omega), pu_st, if_neg (by omega), pu_st, if_neg (by omega)]
      congr 1; omega
  · rw [if_neg c, if_neg (by omega)]
    by_cases d : q = 40 ∧ j = 0 ∧ i = 29
    · rw [if_pos d, if_pos d]; omega
    · rw [if_neg d, if_neg d, pu_st, if_neg (by omega), pu_st, if_neg (by omega)]
theorem pu_lf52 : ∀ (f : Nat) (k n : Int) (D : MiD), 0 ≤ k → k ≤ 61 → 61 - k < f → D 40 0 29 = n → 0 ≤ n → n + (61 - k) ≤ 2000 → B_X11_lays_r52_2 f 0 k D = some (pu_lf D 52 0 k 61 n)
  | 0, k, n, D, h1, h2, h3, h, h4, h5 => by omega
  | f + 1, k, n, D, h1, h2, h3, h, h4, h5 => by
    unfold B_X11_lays_r52_2 B_X11_lays_r52_39
    by_cases c : 61 ≤ k
    · have : k = 61 := by omega
      subst this
      rw [if_pos c, pu_lf_0 h]
    · have e : (mi_st D 66 0 n (D 52 0 k)) 40 0 29 = n := by rw [pu_st, if_neg (by omega)]; exact h
      have ih := pu_lf52 f (k + 1) (n + 1) (mi_st (mi_st D 66 0 n (D 52 0 k)) 40 0 29 (n + 1)) (by omega) (by omega) (by omega) pu_st_eq (by omega) (by omega)
      rw [if_neg c, if_pos rfl, if_pos (show 0 ≤ k ∧ k < 61 by omega), h, if_pos (show 0 ≤ n ∧ n < 2000 by omega), pu_letE, pu_letE, e, pu_w (x := n + 1) (by omega) (by omega), pu_w (x := k + 1) (by omega) (by omega), ih, pu_lf_s (by decide) h (by omega)]
theorem pu_lb52 : ∀ (f : Nat) (k n : Int) (D : MiD), 0 ≤ k → k ≤ 61 → 61 - k < f → D 40 0 29 = n → 0 ≤ n → n + (61 - k) ≤ 2000 → B_X11_lays_r52_2 f 1 k D = some (pu_lb D 52 0 k 61 n)
  | 0, k, n, D, h1, h2, h3, h, h4, h5 => by omega
  | f + 1, k, n, D, h1, h2, h3, h, h4, h5 => by
    unfold B_X11_lays_r52_2 B_X11_lays_r52_39
    by_cases c : 61 ≤ k
    · have : k = 61 := by omega
      subst this
      rw [if_pos c, pu_lb_0 h]
    · have e : (mi_st D 52 0 k (D 66 0 n)) 40 0 29 = n := by rw [pu_st, if_neg (by omega)]; exact h
      have ih := pu_lb52 f (k + 1) (n + 1) (mi_st (mi_st D 52 0 k (D 66 0 n)) 40 0 29 (n + 1)) (by omega) (by omega) (by omega) pu_st_eq (by omega) (by omega)
      rw [if_neg c, if_neg (by decide), h, if_pos (show 0 ≤ n ∧ n < 2000 by omega), if_pos (show 0 ≤ k ∧ k < 61 by omega), pu_letE, pu_letE, e, pu_w (x := n + 1) (by omega) (by omega), pu_w (x := k + 1) (by omega) (by omega), ih, pu_lb_s (by decide) h (by omega)]
theorem pu_lf53 : ∀ (f : Nat) (k n : Int) (D : MiD), 0 ≤ k → k ≤ 61 → 61 - k < f → D 40 0 29 = n → 0 ≤ n → n + (61 - k) ≤ 2000 → B_X11_lays_r53_2 f 0 k D = some (pu_lf D 53 0 k 61 n)
  | 0, k, n, D, h1, h2, h3, h, h4, h5 => by omega
  | f + 1, k, n, D, h1, h2, h3, h, h4, h5 => by
    unfold B_X11_lays_r53_2 B_X11_lays_r53_39
    by_cases c : 61 ≤ k
    · have : k = 61 := by omega
      subst this
      rw [if_pos c, pu_lf_0 h]
    · have e : (mi_st D 66 0 n (D 53 0 k)) 40 0 29 = n := by rw [pu_st, if_neg (by omega)]; exact h
      have ih := pu_lf53 f (k + 1) (n + 1) (mi_st (mi_st D 66 0 n (D 53 0 k)) 40 0 29 (n + 1)) (by omega) (by omega) (by omega) pu_st_eq (by omega) (by omega)
      rw [if_neg c, if_pos rfl, if_pos (show 0 ≤ k ∧ k < 61 by omega), h, if_pos (show 0 ≤ n ∧ n < 2000 by omega), pu_letE, pu_letE, e, pu_w (x := n + 1) (by omega) (by omega), pu_w (x := k + 1) (by omega) (by omega), ih, pu_lf_s (by decide) h (by omega)]
theorem pu_lb53 : ∀ (f : Nat) (k n : Int) (D : MiD), 0 ≤ k → k ≤ 61 → 61 - k < f → D 40 0 29 = n → 0 ≤ n → n + (61 - k) ≤ 2000 → B_X11_lays_r53_2 f 1 k D = some (pu_lb D 53 0 k 61 n)
  | 0, k, n, D, h1, h2, h3, h, h4, h5 => by omega
  | f + 1, k, n, D, h1, h2, h3, h, h4, h5 => by
    unfold B_X11_lays_r53_2 B_X11_lays_r53_39
    by_cases c : 61 ≤ k
    · have : k = 61 := by omega
      subst this
      rw [if_pos c, pu_lb_0 h]
    · have e : (mi_st D 53 0 k (D 66 0 n)) 40 0 29 = n := by rw [pu_st, if_neg (by omega)]; exact h
      have ih := pu_lb53 f (k + 1) (n + 1) (mi_st (mi_st D 53 0 k (D 66 0 n)) 40 0 29 (n + 1)) (by omega) (by omega) (by omega) pu_st_eq (by omega) (by omega)
      rw [if_neg c, if_neg (by decide), h, if_pos (show 0 ≤ n ∧ n < 2000 by omega), if_pos (show 0 ≤ k ∧ k < 61 by omega), pu_letE, pu_letE, e, pu_w (x := n + 1) (by omega) (by omega), pu_w (x := k + 1) (by omega) (by omega), ih, pu_lb_s (by decide) h (by omega)]
theorem pu_lf64 : ∀ (f : Nat) (k n : Int) (D : MiD), 0 ≤ k → k ≤ 8 → 8 - k < f → D 40 0 29 = n → 0 ≤ n → n + (8 - k) ≤ 2000 → B_X11_lays_r64_2 f 0 k D = some (pu_lf D 64 0 k 8 n)
  | 0, k, n, D, h1, h2, h3, h, h4, h5 => by omega
  | f + 1, k, n, D, h1, h2, h3, h, h4, h5 => by
    unfold B_X11_lays_r64_2 B_X11_lays_r64_39
    by_cases c : 8 ≤ k
    · have : k = 8 := by omega
      subst this
      rw [if_pos c, pu_lf_0 h]
    · have e : (mi_st D 66 0 n (D 64 0 k)) 40 0 29 = n := by rw [pu_st, if_neg (by omega)]; exact h
      have ih := pu_lf64 f (k + 1) (n + 1) (mi_st (mi_st D 66 0 n (D 64 0 k)) 40 0 29 (n + 1)) (by omega) (by omega) (by omega) pu_st_eq (by omega) (by omega)
      rw [if_neg c, if_pos rfl, if_pos (show 0 ≤ k ∧ k < 8 by omega), h, if_pos (show 0 ≤ n ∧ n < 2000 by omega), pu_letE, pu_letE, e, pu_w (x := n + 1) (by omega) (by omega), pu_w (x := k + 1) (by omega) (by omega), ih, pu_lf_s (by decide) h (by omega)]
theorem pu_lb64 : ∀ (f : Nat) (k n : Int) (D : MiD), 0 ≤ k → k ≤ 8 → 8 - k < f → D 40 0 29 = n → 0 ≤ n → n + (8 - k) ≤ 2000 → B_X11_lays_r64_2 f 1 k D = some (pu_lb D 64 0 k 8 n)
  | 0, k, n, D, h1, h2, h3, h, h4, h5 => by omega
  | f + 1, k, n, D, h1, h2, h3, h, h4, h5 => by
    unfold B_X11_lays_r64_2 B_X11_lays_r64_39
    by_cases c : 8 ≤ k
    · have : k = 8 := by omega
      subst this
      rw [if_pos c, pu_lb_0 h]
    · have e : (mi_st D 64 0 k (D 66 0 n)) 40 0 29 = n := by rw [pu_st, if_neg (by omega)]; exact h
      have ih := pu_lb64 f (k + 1) (n + 1) (mi_st (mi_st D 64 0 k (D 66 0 n)) 40 0 29 (n + 1)) (by omega) (by omega) (by omega) pu_st_eq (by omega) (by omega)
      rw [if_neg c, if_neg (by decide), h, if_pos (show 0 ≤ n ∧ n < 2000 by omega), if_pos (show 0 ≤ k ∧ k < 8 by omega), pu_letE, pu_letE, e, pu_w (x := n + 1) (by omega) (by omega), pu_w (x := k + 1) (by omega) (by omega), ih, pu_lb_s (by decide) h (by omega)]
theorem pu_lf65 : ∀ (f : Nat) (k n : Int) (D : MiD), 0 ≤ k → k ≤ 8 → 8 - k < f → D 40 0 29 = n → 0 ≤ n → n + (8 - k) ≤ 2000 → B_X11_lays_r65_2 f 0 k D = some (pu_lf D 65 0 k 8 n)
  | 0, k, n, D, h1, h2, h3, h, h4, h5 => by omega
  | f + 1, k, n, D, h1, h2, h3, h, h4, h5 => by
    unfold B_X11_lays_r65_2 B_X11_lays_r65_39
    by_cases c : 8 ≤ k
    · have : k = 8 := by omega
      subst this
      rw [if_pos c, pu_lf_0 h]
    · have e : (mi_st D 66 0 n (D 65 0 k)) 40 0 29 = n := by rw [pu_st, if_neg (by omega)]; exact h
      have ih := pu_lf65 f (k + 1) (n + 1) (mi_st (mi_st D 66 0 n (D 65 0 k)) 40 0 29 (n + 1)) (by omega) (by omega) (by omega) pu_st_eq (by omega) (by omega)
      rw [if_neg c, if_pos rfl, if_pos (show 0 ≤ k ∧ k < 8 by omega), h, if_pos (show 0 ≤ n ∧ n < 2000 by omega), pu_letE, pu_letE, e, pu_w (x := n + 1) (by omega) (by omega), pu_w (x := k + 1) (by omega) (by omega), ih, pu_lf_s (by decide) h (by omega)]
theorem pu_lb65 : ∀ (f : Nat) (k n : Int) (D : MiD), 0 ≤ k → k ≤ 8 → 8 - k < f → D 40 0 29 = n → 0 ≤ n → n + (8 - k) ≤ 2000 → B_X11_lays_r65_2 f 1 k D = some (pu_lb D 65 0 k 8 n)
  | 0, k, n, D, h1, h2, h3, h, h4, h5 => by omega
  | f + 1, k, n, D, h1, h2, h3, h, h4, h5 => by
    unfold B_X11_lays_r65_2 B_X11_lays_r65_39
    by_cases c : 8 ≤ k
    · have : k = 8 := by omega
      subst this
      rw [if_pos c, pu_lb_0 h]
    · have e : (mi_st D 65 0 k (D 66 0 n)) 40 0 29 = n := by rw [pu_st, if_neg (by omega)]; exact h
      have ih := pu_lb65 f (k + 1) (n + 1) (mi_st (mi_st D 65 0 k (D 66 0 n)) 40 0 29 (n + 1)) (by omega) (by omega) (by omega) pu_st_eq (by omega) (by omega)
      rw [if_neg c, if_neg (by decide), h, if_pos (show 0 ≤ n ∧ n < 2000 by omega), if_pos (show 0 ≤ k ∧ k < 8 by omega), pu_letE, pu_letE, e, pu_w (x := n + 1) (by omega) (by omega), pu_w (x := k + 1) (by omega) (by omega), ih, pu_lb_s (by decide) h (by omega)]
theorem pu_lf55 {J : Int} : ∀ (f : Nat) (k n : Int) (D : MiD), 0 ≤ k → k ≤ 9 → 9 - k < f → D 40 0 29 = n → 0 ≤ n → n + (9 - k) ≤ 2000 → B_X11_lays_r55_2 f J 0 k D = some (pu_lf D 55 J k 9 n)
  | 0, k, n, D, h1, h2, h3, h, h4, h5 => by omega
  | f + 1, k, n, D, h1, h2, h3, h, h4, h5 => by
    unfold B_X11_lays_r55_2 B_X11_lays_r55_39
    by_cases c : 9 ≤ k
    · have : k = 9 := by omega
      subst this
      rw [if_pos c, pu_lf_0 h]
    · have e : (mi_st D 66 0 n (D 55 J k)) 40 0 29 = n := by rw [pu_st, if_neg (by omega)]; exact h
      have ih := pu_lf55 (J := J) f (k + 1) (n + 1) (mi_st (mi_st D 66 0 n (D 55 J k)) 40 0 29 (n + 1)) (by omega) (by omega) (by omega) pu_st_eq (by omega) (by omega)
      rw [if_neg c, if_pos rfl, if_pos (show 0 ≤ k ∧ k < 9 by omega), h, if_pos (show 0 ≤ n ∧ n < 2000 by omega), pu_letE, pu_letE, e, pu_w (x := n + 1) (by omega) (by omega), pu_w (x := k + 1) (by omega) (by omega), ih, pu_lf_s (by decide) h (by omega)]
theorem pu_lb55 {J : Int} : ∀ (f : Nat) (k n : Int) (D : MiD), 0 ≤ k → k ≤ 9 → 9 - k < f → D 40 0 29 = n → 0 ≤ n → n + (9 - k) ≤ 2000 → B_X11_lays_r55_2 f J 1 k D = some (pu_lb D 55 J k 9 n)
  | 0, k, n, D, h1, h2, h3, h, h4, h5 => by omega
  | f + 1, k, n, D, h1, h2, h3, h, h4, h5 => by
    unfold B_X11_lays_r55_2 B_X11_lays_r55_39
    by_cases c : 9 ≤ k
    · have : k = 9 := by omega
      subst this
      rw [if_pos c, pu_lb_0 h]
    · have e : (mi_st D 55 J k (D 66 0 n)) 40 0 29 = n := by rw [pu_st, if_neg (by omega)]; exact h
      have ih := pu_lb55 (J := J) f (k + 1) (n + 1) (mi_st (mi_st D 55 J k (D 66 0 n)) 40 0 29 (n + 1)) (by omega) (by omega) (by omega) pu_st_eq (by omega) (by omega)
      rw [if_neg c, if_neg (by decide), h, if_pos (show 0 ≤ n ∧ n < 2000 by omega), if_pos (show 0 ≤ k ∧ k < 9 by omega), pu_letE, pu_letE, e, pu_w (x := n + 1) (by omega) (by omega), pu_w (x := k + 1) (by omega) (by omega), ih, pu_lb_s (by decide) h (by omega)]
theorem pu_lf59 {J : Int} : ∀ (f : Nat) (k n : Int) (D : MiD), 0 ≤ k → k ≤ 7 → 7 - k < f → D 40 0 29 = n → 0 ≤ n → n + (7 - k) ≤ 2000 → B_X11_lays_r59_2 f J 0 k D = some (pu_lf D 59 J k 7 n)
  | 0, k, n, D, h1, h2, h3, h, h4, h5 => by omega
  | f + 1, k, n, D, h1, h2, h3, h, h4, h5 => by
    unfold B_X11_lays_r59_2 B_X11_lays_r59_39
    by_cases c : 7 ≤ k
    · have : k = 7 := by omega
      subst this
      rw [if_pos c, pu_lf_0 h]
    · have e : (mi_st D 66 0 n (D 59 J k)) 40 0 29 = n := by rw [pu_st, if_neg (by omega)]; exact h
      have ih := pu_lf59 (J := J) f (k + 1) (n + 1) (mi_st (mi_st D 66 0 n (D 59 J k)) 40 0 29 (n + 1)) (by omega) (by omega) (by omega) pu_st_eq (by omega) (by omega)
      rw [if_neg c, if_pos rfl, if_pos (show 0 ≤ k ∧ k < 7 by omega), h, if_pos (show 0 ≤ n ∧ n < 2000 by omega), pu_letE, pu_letE, e, pu_w (x := n + 1) (by omega) (by omega), pu_w (x := k + 1) (by omega) (by omega), ih, pu_lf_s (by decide) h (by omega)]
theorem pu_lb59 {J : Int} : ∀ (f : Nat) (k n : Int) (D : MiD), 0 ≤ k → k ≤ 7 → 7 - k < f → D 40 0 29 = n → 0 ≤ n → n + (7 - k) ≤ 2000 → B_X11_lays_r59_2 f J 1 k D = some (pu_lb D 59 J k 7 n)
  | 0, k, n, D, h1, h2, h3, h, h4, h5 => by omega
  | f + 1, k, n, D, h1, h2, h3, h, h4, h5 => by
    unfold B_X11_lays_r59_2 B_X11_lays_r59_39
    by_cases c : 7 ≤ k
    · have : k = 7 := by omega
      subst this
      rw [if_pos c, pu_lb_0 h]
    · have e : (mi_st D 59 J k (D 66 0 n)) 40 0 29 = n := by rw [pu_st, if_neg (by omega)]; exact h
      have ih := pu_lb59 (J := J) f (k + 1) (n + 1) (mi_st (mi_st D 59 J k (D 66 0 n)) 40 0 29 (n + 1)) (by omega) (by omega) (by omega) pu_st_eq (by omega) (by omega)
      rw [if_neg c, if_neg (by decide), h, if_pos (show 0 ≤ n ∧ n < 2000 by omega), if_pos (show 0 ≤ k ∧ k < 7 by omega), pu_letE, pu_letE, e, pu_w (x := n + 1) (by omega) (by omega), pu_w (x := k + 1) (by omega) (by omega), ih, pu_lb_s (by decide) h (by omega)]
theorem pu_lf63 {J : Int} : ∀ (f : Nat) (k n : Int) (D : MiD), 0 ≤ k → k ≤ 4 → 4 - k < f → D 40 0 29 = n → 0 ≤ n → n + (4 - k) ≤ 2000 → B_X11_lays_r63_2 f J 0 k D = some (pu_lf D 63 J k 4 n)
  | 0, k, n, D, h1, h2, h3, h, h4, h5 => by omega
  | f + 1, k, n, D, h1, h2, h3, h, h4, h5 => by
    unfold B_X11_lays_r63_2 B_X11_lays_r63_39
    by_cases c : 4 ≤ k
    · have : k = 4 := by omega
      subst this
      rw [if_pos c, pu_lf_0 h]
    · have e : (mi_st D 66 0 n (D 63 J k)) 40 0 29 = n := by rw [pu_st, if_neg (by omega)]; exact h
      have ih := pu_lf63 (J := J) f (k + 1) (n + 1) (mi_st (mi_st D 66 0 n (D 63 J k)) 40 0 29 (n + 1)) (by omega) (by omega) (by omega) pu_st_eq (by omega) (by omega)
      rw [if_neg c, if_pos rfl, if_pos (show 0 ≤ k ∧ k < 4 by omega), h, if_pos (show 0 ≤ n ∧ n < 2000 by omega), pu_letE, pu_letE, e, pu_w (x := n + 1) (by omega) (by omega), pu_w (x := k + 1) (by omega) (by omega), ih, pu_lf_s (by decide) h (by omega)]
theorem pu_lb63 {J : Int} : ∀ (f : Nat) (k n : Int) (D : MiD), 0 ≤ k → k ≤ 4 → 4 - k < f → D 40 0 29 = n → 0 ≤ n → n + (4 - k) ≤ 2000 → B_X11_lays_r63_2 f J 1 k D = some (pu_lb D 63 J k 4 n)
  | 0, k, n, D, h1, h2, h3, h, h4, h5 => by omega
  | f + 1, k, n, D, h1, h2, h3, h, h4, h5 => by
    unfold B_X11_lays_r63_2 B_X11_lays_r63_39
    by_cases c : 4 ≤ k
    · have : k = 4 := by omega
      subst this
      rw [if_pos c, pu_lb_0 h]
    · have e : (mi_st D 63 J k (D 66 0 n)) 40 0 29 = n := by rw [pu_st, if_neg (by omega)]; exact h
      have ih := pu_lb63 (J := J) f (k + 1) (n + 1) (mi_st (mi_st D 63 J k (D 66 0 n)) 40 0 29 (n + 1)) (by omega) (by omega) (by omega) pu_st_eq (by omega) (by omega)
      rw [if_neg c, if_neg (by decide), h, if_pos (show 0 ≤ n ∧ n < 2000 by omega), if_pos (show 0 ≤ k ∧ k < 4 by omega), pu_letE, pu_letE, e, pu_w (x := n + 1) (by omega) (by omega), pu_w (x := k + 1) (by omega) (by omega), ih, pu_lb_s (by decide) h (by omega)]
def pu_pos (q : Nat) (j i : Int) : Int := if q = 52 ∧ j = 0 ∧ 0 ≤ i ∧ i < 61 then i else if q = 53 ∧ j = 0 ∧ 0 ≤ i ∧ i < 61 then 61 + i else if q = 64 ∧ j = 0 ∧ 0 ≤ i ∧ i < 8 then 122 + i else if q = 65 ∧ j = 0 ∧ 0 ≤ i ∧ i < 8 then 130 + i else if q = 55 ∧ 0 ≤ j ∧ j < 60 ∧ 0 ≤ i ∧ i < 9 then 138 + 9 * j + i else if q = 59 ∧ 0 ≤ j ∧ j < 7 ∧ 0 ≤ i ∧ i < 7 then 678 + 7 * j + i else if q = 63 ∧ 0 ≤ j ∧ j < 60 ∧ 0 ≤ i ∧ i < 4 then 727 + 4 * j + i else -1
def pu_po2 (q : Nat) (j i : Int) : Int := if q = 57 ∧ 0 ≤ j ∧ j < 60 ∧ 0 ≤ i ∧ i < 9 then 9 * j + i else if q = 60 ∧ j = 0 ∧ 0 ≤ i ∧ i < 7 then 540 + i else -1
def pu_FI (D0 D : MiD) (n : Int) : Prop := (D 40 0 29 = n) ∧ (∀ (q : Nat) (j i : Int), 0 ≤ pu_pos q j i → pu_pos q j i < n → D 66 0 (pu_pos q j i) = D0 q j i) ∧ (∀ (q : Nat) (j i : Int), q ≠ 66 → ¬ (q = 40 ∧ j = 0 ∧ i = 29) → D q j i = D0 q j i)
theorem pu_FI.c {D0 D : MiD} {n : Int} (h : pu_FI D0 D n) : D 40 0 29 = n := h.1
theorem pu_FI.s {D0 D : MiD} {n : Int} (h : pu_FI D0 D n) : ∀ (q : Nat) (j i : Int), 0 ≤ pu_pos q j i → pu_pos q j i < n → D 66 0 (pu_pos q j i) = D0 q j i := h.2.1
theorem pu_FI.o {D0 D : MiD} {n : Int} (h : pu_FI D0 D n) : ∀ (q : Nat) (j i : Int), q ≠ 66 → ¬ (q = 40 ∧ j = 0 ∧ i = 29) → D q j i = D0 q j i := h.2.2
def pu_BI (A D : MiD) (n : Int) : Prop := (D 40 0 29 = n) ∧ (∀ (q : Nat) (j i : Int), q = 66 ∨ q = 67 → D q j i = A q j i) ∧ (∀ (q : Nat) (j i : Int), 0 ≤ pu_pos q j i → pu_pos q j i < n → D q j i = A 66 0 (pu_pos q j i)) ∧ (∀ (q : Nat) (j i : Int), pu_pos q j i < 0 ∨ n ≤ pu_pos q j i → ¬ (q = 40 ∧ j = 0 ∧ i = 29) → D q j i = A q j i)
theorem pu_BI.c {A D : MiD} {n : Int} (h : pu_BI A D n) : D 40 0 29 = n := h.1
theorem pu_BI.a {A D : MiD} {n : Int} (h : pu_BI A D n) : ∀ (q : Nat) (j i : Int), q = 66 ∨ q = 67 → D q j i = A q j i := h.2.1
theorem pu_BI.s {A D : MiD} {n : Int} (h : pu_BI A D n) : ∀ (q : Nat) (j i : Int), 0 ≤ pu_pos q j i → pu_pos q j i < n → D q j i = A 66 0 (pu_pos q j i) := h.2.2.1
theorem pu_BI.o {A D : MiD} {n : Int} (h : pu_BI A D n) : ∀ (q : Nat) (j i : Int), pu_pos q j i < 0 ∨ n ≤ pu_pos q j i → ¬ (q = 40 ∧ j = 0 ∧ i = 29) → D q j i = A q j i := h.2.2.2
theorem pu_pos66 {j i : Int} : pu_pos 66 j i = -1 ∧ pu_pos 67 j i = -1 ∧ pu_pos 40 j i = -1 := by unfold pu_pos; simp
theorem pu_FI.st {D0 D : MiD} {n J len : Int} {R : Nat} (h : pu_FI D0 D n) (h0 : 0 ≤ n) (hl : 0 ≤ len) (hR : R ≠ 66 ∧ R ≠ 40) (hu : ∀ (q : Nat) (j i : Int), n ≤ pu_pos q j i → pu_pos q j i < n + len → q = R ∧ j = J ∧ pu_pos q j i = n + i) : pu_FI D0 (pu_lf D R J 0 len n) (n + len) := by
  refine ⟨?_, fun q j i a b => ?_, fun q j i a b => ?_⟩
  · unfold pu_lf; rw [if_neg (by omega), if_pos ⟨rfl, rfl, rfl⟩]; omega
  · unfold pu_lf
    by_cases c : n ≤ pu_pos q j i
    · obtain ⟨rfl, rfl, e⟩ := hu q j i c b
      rw [if_pos (by omega), h.o _ _ _ hR.1 (by omega), e]
      congr 1; omega
    · rw [if_neg (by omega), if_neg (by omega)]
      exact h.s q j i a (by omega)
  · unfold pu_lf
    rw [if_neg (by omega), if_neg b]
    exact h.o q j i a b
theorem pu_BI.st {A D : MiD} {n J len : Int} {R : Nat} (h : pu_BI A D n) (h0 : 0 ≤ n) (hl : 0 ≤ len) (hR : R ≠ 66 ∧ R ≠ 40 ∧ R ≠ 67) (hp : ∀ i : Int, 0 ≤ i → i < len → pu_pos R J i = n + i) (hu : ∀ (q : Nat) (j i : Int), n ≤ pu_pos q j i → pu_pos q j i < n + len → q = R ∧ j = J ∧ pu_pos q j i = n + i) : pu_BI A (pu_lb D R J 0 len n) (n + len) := by
  refine ⟨?_, fun q j i a => ?_, fun q j i a b => ?_, fun q j i a b => ?_⟩
  · unfold pu_lb; rw [if_neg (by omega), if_pos ⟨rfl, rfl, rfl⟩]; omega
  · unfold pu_lb; rw [if_neg (by omega), if_neg (by omega)]; exact h.a q j i a
  · unfold pu_lb
    by_cases c : n ≤ pu_pos q j i
    · obtain ⟨rfl, rfl, e⟩ := hu q j i c b
      rw [if_pos (by omega), h.a _ _ _ (Or.inl rfl), e]
      congr 1; omega
    · have d : ¬ (q = R ∧ j = J ∧ 0 ≤ i ∧ i < len) := fun z => by
        obtain ⟨rfl, rfl, z1, z2⟩ := z
        have := hp i z1 z2
        omega
      have e : ¬ (q = 40 ∧ j = 0 ∧ i = 29) := fun z => by
        obtain ⟨rfl, -, -⟩ := z
        have := (pu_pos66 (j := j) (i := i)).2.2
        omega
      rw [if_neg d, if_neg e]
      exact h.s q j i a (by omega)
  · unfold pu_lb
    have d : ¬ (q = R ∧ j = J ∧ 0 ≤ i ∧ i < len) := fun z => by
      obtain ⟨rfl, rfl, z1, z2⟩ := z
      have := hp i z1 z2
      omega
    rw [if_neg d, if_neg b]
    exact h.o q j i (by omega) b
theorem pu_pu52 : ∀ (q : Nat) (j i : Int), 0 ≤ pu_pos q j i → pu_pos q j i < 0 + 61 → q = 52 ∧ j = 0 ∧ pu_pos q j i = 0 + i := fun q j i => by
  unfold pu_pos
  repeat' split
  all_goals omega
theorem pu_pp52 : ∀ i : Int, 0 ≤ i → i < 61 → pu_pos 52 0 i = 0 + i := fun i a b => by
  unfold pu_pos
  grind (splits := 30)
theorem pu_pu53 : ∀ (q : Nat) (j i : Int), 61 ≤ pu_pos q j i → pu_pos q j i < 61 + 61 → q = 53 ∧ j = 0 ∧ pu_pos q j i = 61 + i := fun q j i => by
  unfold pu_pos
  repeat' split
  all_goals omega
theorem pu_pp53 : ∀ i : Int, 0 ≤ i → i < 61 → pu_pos 53 0 i = 61 + i := fun i a b => by
  unfold pu_pos
  grind (splits := 30)
theorem pu_pu64 : ∀ (q : Nat) (j i : Int), 122 ≤ pu_pos q j i → pu_pos q j i < 122 + 8 → q = 64 ∧ j = 0 ∧ pu_pos q j i = 122 + i := fun q j i => by
  unfold pu_pos
  repeat' split
  all_goals omega
theorem pu_pp64 : ∀ i : Int, 0 ≤ i → i < 8 → pu_pos 64 0 i = 122 + i := fun i a b => by
  unfold pu_pos
  grind (splits := 30)
theorem pu_pu65 : ∀ (q : Nat) (j i : Int), 130 ≤ pu_pos q j i → pu_pos q j i < 130 + 8 → q = 65 ∧ j = 0 ∧ pu_pos q j i = 130 + i := fun q j i => by
  unfold pu_pos
  repeat' split
  all_goals omega
theorem pu_pp65 : ∀ i : Int, 0 ≤ i → i < 8 → pu_pos 65 0 i = 130 + i := fun i a b => by
  unfold pu_pos
  grind (splits := 30)
theorem pu_pu55 {J : Int} (hJ : 0 ≤ J ∧ J < 60) : ∀ (q : Nat) (j i : Int), 138 + 9 * J ≤ pu_pos q j i → pu_pos q j i < 138 + 9 * J + 9 → q = 55 ∧ j = J ∧ pu_pos q j i = 138 + 9 * J + i := fun q j i => by
  unfold pu_pos
  repeat' split
  all_goals omega
theorem pu_pp55 {J : Int} (hJ : 0 ≤ J ∧ J < 60) : ∀ i : Int, 0 ≤ i → i < 9 → pu_pos 55 J i = 138 + 9 * J + i := fun i a b => by
  unfold pu_pos
  grind (splits := 30)
theorem pu_pu59 {J : Int} (hJ : 0 ≤ J ∧ J < 7) : ∀ (q : Nat) (j i : Int), 678 + 7 * J ≤ pu_pos q j i → pu_pos q j i < 678 + 7 * J + 7 → q = 59 ∧ j = J ∧ pu_pos q j i = 678 + 7 * J + i := fun q j i => by
  unfold pu_pos
  repeat' split
  all_goals omega
theorem pu_pp59 {J : Int} (hJ : 0 ≤ J ∧ J < 7) : ∀ i : Int, 0 ≤ i → i < 7 → pu_pos 59 J i = 678 + 7 * J + i := fun i a b => by
  unfold pu_pos
  grind (splits := 30)
theorem pu_pu63 {J : Int} (hJ : 0 ≤ J ∧ J < 60) : ∀ (q : Nat) (j i : Int), 727 + 4 * J ≤ pu_pos q j i → pu_pos q j i < 727 + 4 * J + 4 → q = 63 ∧ j = J ∧ pu_pos q j i = 727 + 4 * J + i := fun q j i => by
  unfold pu_pos
  repeat' split
  all_goals omega
theorem pu_pp63 {J : Int} (hJ : 0 ≤ J ∧ J < 60) : ∀ i : Int, 0 ≤ i → i < 4 → pu_pos 63 J i = 727 + 4 * J + i := fun i a b => by
  unfold pu_pos
  grind (splits := 30)
