def pu_h1 (w : Int) (D E : MiD) : Prop := ∀ (q : Nat) (j i : Int), ¬ ((q = 3 ∨ q = 17 ∨ q = 18) ∧ 60 * w ≤ j ∧ j < 60 * w + 60) → ¬ (q = 5 ∧ j = 7 * w) → E q j i = D q j i
theorem pu_A.hd {w : Int} {Z : MiZ} {D1 D2 E1 E2 : MiD} (hw : 0 ≤ w ∧ w < 2) (h : pu_A w Z D1 D2) (hD : pu_D w E1 E2) (f1 : pu_h1 w D1 E1) (f2 : pu_FM D2 E2) : pu_A w Z E1 E2 := by
  have a1 : ∀ (q : Nat) (j i : Int), q ≠ 3 → q ≠ 17 → q ≠ 18 → q ≠ 5 → E1 q j i = D1 q j i := fun q j i x y z u => f1 q j i (by omega) (by omega)
  have a2 : ∀ (q : Nat) (j i : Int), q ≠ 52 → q ≠ 53 → q ≠ 55 → q ≠ 57 → q ≠ 40 → E2 q j i = D2 q j i := fun q j i x y z u v => f2 q j i (by omega) (by omega)
  have p4 : E2 40 0 11 = D2 40 0 11 := f2 _ _ _ (by omega) (by omega)
  have W := h.w
  refine h.side hw (fun q j i a b c d e => f1 q j i d e) (fun q j i a b c d e f g => f2 q j i d e) hD (fun s a b => by rw [a1 _ _ _ (by decide) (by decide) (by decide) (by decide)]; exact (h.t s a b).tu) ?_
  obtain ⟨b1, b2, b3, b4, b5, b6, b7, b8, b9, b10, b11, b12, b13, b14, b15, b16, b17, b18, b19, b20⟩ := W
  have q2 : ∀ i j : Int, E1 2 j i = D1 2 j i := fun i j => a1 _ _ _ (by decide) (by decide) (by decide) (by decide)
  have q4 : ∀ i j : Int, E1 4 j i = D1 4 j i := fun i j => a1 _ _ _ (by decide) (by decide) (by decide) (by decide)
  have q15 : ∀ i j : Int, E1 15 j i = D1 15 j i := fun i j => a1 _ _ _ (by decide) (by decide) (by decide) (by decide)
  have q16 : ∀ i j : Int, E1 16 j i = D1 16 j i := fun i j => a1 _ _ _ (by decide) (by decide) (by decide) (by decide)
  have r65 : ∀ i j : Int, E2 65 j i = D2 65 j i := fun i j => a2 _ _ _ (by decide) (by decide) (by decide) (by decide) (by decide)
  have r64 : ∀ i j : Int, E2 64 j i = D2 64 j i := fun i j => a2 _ _ _ (by decide) (by decide) (by decide) (by decide) (by decide)
  have r59 : ∀ i j : Int, E2 59 j i = D2 59 j i := fun i j => a2 _ _ _ (by decide) (by decide) (by decide) (by decide) (by decide)
  have r49 : ∀ i j : Int, E2 49 j i = D2 49 j i := fun i j => a2 _ _ _ (by decide) (by decide) (by decide) (by decide) (by decide)
  refine ⟨?_, ?_, ?_, ?_, ?_, ?_, ?_, ?_, ?_, ?_, ?_, ?_, ?_, ?_, ?_, ?_, ?_, ?_, ?_, ?_⟩
  all_goals (simp only [q2, q4, q15, q16, r65, r64, r59, r49, p4]; assumption)
theorem pu_ans.hd {mp : Nat → Int} {Z : MiZ} {D1 D2 : MiD} (h : pu_L Z D1 D2) {v : Int} {E G : MiD} {a : Option ((Int × MiD) ⊕ (Nat × MiD))} {b : Option (Int × MiD)} (k4 : pu_D 0 E G) (k5 : pu_h1 0 D1 E) (k6 : pu_FM (mi_st D2 40 0 0 0) G) (ha : a = some (.inl (v, E))) (hb : b = some (v, G)) : pu_ans mp Z D1 D2 a b := by
  have hL := h.z
  obtain ⟨q1, q2, q3, q4⟩ := hL.t (hL.a.hd (by decide) k4 k5 k6) (fun q j i a b c d => k5 q j i b (by omega)) (fun q j i a b => k6 q j i (by omega) b)
  exact Or.inl ⟨v, E, G, ha, hb, q4.trans pu_st_eq, q1, q2, fun i => (q3 i).trans (by rw [pu_st, if_neg (by omega)])⟩
theorem pu_be_h {D : MiD} {k n : Int} : pu_h1 0 D (pu_be D 0 k n) := fun q j i a b => by unfold pu_be; rw [if_neg (by omega), if_neg (by omega)]
theorem pu_got_F {D : MiD} {k n : Int} : pu_FM D (pu_got D k n) := fun q j i a b => by unfold pu_got; rw [if_neg (by omega), if_neg (by omega)]
theorem pu_hand_D {w k n k' n' v : Int} {D1 D2 : MiD} (h : pu_D w D1 D2) : pu_D w (pu_be D1 v k n) (pu_got D2 k' n') := h.o (fun q j i a => by unfold pu_be; rw [if_neg (by omega), if_neg (by omega)]) (fun q j i a => by unfold pu_got; rw [if_neg (by omega), if_neg (by omega)])
theorem pu_get {Z : MiZ} {D1 D2 : MiD} {k d p : Int} (h : pu_L Z D1 D2) : pu_ans pu_m01 Z D1 D2 (B_X10_get k d p D1) (B_X11_get k d p D2) := by
  by_cases c : 0 ≤ d ∧ d < 10
  · by_cases c2 : 0 ≤ k ∧ k < 8
    · have hL := h.z.a
      have hR := hL.d.1 d (-1) c.1 c.2 (by decide) (by decide)
      have hG := hL.d.G c (m := -1) (by decide)
      rw [pu_r0] at hR hG
      have hx := pu_xB (w := 0) (by decide) c (m := -1) (by decide)
      obtain ⟨x, ex, y, ey, hP⟩ := pu_readAs (k := k) (p := p) (v := 7 * 0) hx ⟨c.1, by omega⟩ ⟨c2.1, by omega⟩ hR.1 hR.2 hG
      have ha : B_X10_get k d p D1 = mi_b2 (some x) fun y5 D6 => if y5 ≠ 0 then (some (.inl ((mi_W (y5 - 1000000000)), D6))) else (some (.inl ((D6 5 (7 * 0) 1), D6))) := by
        rw [← ex]
        simp only [B_X10_get, pu_within, if_pos c, if_pos c2, pu_nEg, pu_nAg, pu_rowAt c (show -1 ≤ (-1 : Int) ∧ (-1 : Int) < 5 by decide), pu_biE, if_pos hx]
        simp
      have hb : B_X11_get k d p D2 = mi_b2 (some y) fun y1 D2 => if y1 ≤ 0 then (some ((D2 40 0 26), D2)) else (some ((mi_W (y1 - 1000000000)), D2)) := by
        rw [← ey]
        simp only [B_X11_get, B_X11_get_19, B_X11_get_43, B_X11_get_66, B_X11_isDatum, pu_letE, pu_in, pu_bdg10, pu_bdg21]
        rw [if_pos (show 0 ≤ d ∧ d ≤ 9 by omega), if_pos (show 0 ≤ k ∧ k ≤ 7 by omega)]
        unfold pu_pl
        by_cases e : p < 0
        · rw [if_pos e, if_neg (show ¬ 0 ≤ p by omega)]; simp
        · rw [if_neg e, if_pos (show 0 ≤ p by omega)]; simp
      rw [ha, hb]
      rcases hP with ⟨l, n, l1, l2, l3, rfl, rfl⟩ | ⟨e, e1, rfl, rfl⟩
      · refine pu_ans.hd h (v := n) (E := pu_be D1 0 l n) (G := pu_got (mi_st D2 40 0 0 0) l n) (pu_hand_D hL.d) pu_be_h pu_got_F ?_ ?_
        · rw [pu_b2E, if_neg (fun z => z rfl)]
          simp [pu_be]
        · rw [pu_b2E, if_pos (by decide)]
          simp [pu_got]
      · refine pu_ans.rd h (v := mi_W (e - 1000000000)) ?_ ?_
        · rw [pu_b2E, if_pos (by omega)]
        · rw [pu_b2E, if_neg (by omega)]
    · refine pu_ans.e1 h 2 rfl (by decide) ?_ ?_
      · simp only [B_X10_get, pu_within, if_pos c, if_neg c2, pu_nEg, pu_nAg]; simp
      · simp only [B_X11_get, B_X11_get_19, B_X11_get_43, B_X11_isDatum, pu_letE, pu_in, pu_bdg10, pu_bdg21]
        grind
  · refine pu_ans.e0 h rfl ?_ ?_
    · simp only [B_X10_get, pu_within, if_neg c, pu_nEg]; simp
    · simp only [B_X11_get, B_X11_get_19, B_X11_get_43, B_X11_isDatum, pu_letE, pu_in, pu_bdg10, pu_bdg21]
      grind
theorem pu_move {Z : MiZ} {D1 D2 : MiD} {d p e g : Int} (h : pu_L Z D1 D2) : pu_ans pu_o0 Z D1 D2 (B_X10_move d p e g D1) (B_X11_move d p e g D2) := by
  by_cases c : (0 ≤ d ∧ d < 10) ∧ (0 ≤ e ∧ e < 10)
  · have hL := h.z.a
    have hR := hL.d.1 d (-1) c.1.1 c.1.2 (by decide) (by decide)
    have hG := hL.d.G c.1 (m := -1) (by decide)
    rw [pu_r0] at hR hG
    have hx := pu_xB (w := 0) (by decide) c.1 (m := -1) (by decide)
    have hxe := pu_xB (w := 0) (by decide) c.2 (m := -1) (by decide)
    obtain ⟨x, ex, y, ey, hP⟩ := pu_box (p := p) (v := 7 * 0) hx ⟨c.1.1, by omega⟩ hR.1 hR.2 hG
    have ha : B_X10_move d p e g D1 = mi_b2 (some x) fun y5 D6 => if y5 = 0 then (mi_b2 (B_X6_put (pu_x 0 e (-1)) g (7 * 0) D6) fun y10 D11 => some (.inl ((mi_w (10 + y10)), D11))) else (some (.inl (y5, D6))) := by
      rw [← ex]
      simp only [B_X10_move, B_X10_move_24, pu_within, if_pos c.1, if_pos c.2, pu_nEg, pu_rowAt c.1 (show -1 ≤ (-1 : Int) ∧ (-1 : Int) < 5 by decide), pu_rowAt c.2 (show -1 ≤ (-1 : Int) ∧ (-1 : Int) < 5 by decide), pu_biE, if_pos hx, if_pos hxe]
      simp
    have hb : B_X11_move d p e g D2 = mi_b2 (some y) fun y1 D2 => if y1 ≤ 0 then (mi_b2 (B_X11_puts (D2 40 0 25) (D2 40 0 26) e (pu_pl g) D2) fun y1 D2 => some ((mi_w (10 + y1)), D2)) else (some (y1, D2)) := by
      rw [← ey]
      simp only [B_X11_move, B_X11_move_27, B_X11_move_49, B_X11_move_88, B_X11_isDatum, pu_letE, pu_in, pu_bdg10]
      rw [if_pos (show 0 ≤ d ∧ d ≤ 9 by omega), if_pos (show 0 ≤ e ∧ e ≤ 9 by omega)]
      unfold pu_pl
      by_cases e1 : p < 0 <;> by_cases e2 : g < 0
      · simp only [if_pos e1, if_pos e2, if_neg (show ¬ 0 ≤ p by omega), if_neg (show ¬ 0 ≤ g by omega)]; simp
      · simp only [if_pos e1, if_neg e2, if_neg (show ¬ 0 ≤ p by omega), if_pos (show 0 ≤ g by omega)]; simp
      · simp only [if_neg e1, if_pos e2, if_pos (show 0 ≤ p by omega), if_neg (show ¬ 0 ≤ g by omega)]; simp
      · simp only [if_neg e1, if_neg e2, if_pos (show 0 ≤ p by omega), if_pos (show 0 ≤ g by omega)]; simp
    rw [ha, hb]
    rcases hP with ⟨l, n, l1, l2, l3, rfl, rfl⟩ | ⟨t, e1, rfl, rfl⟩
    · have hD := pu_hand_D (k := l) (n := n) (k' := l) (n' := n) (v := 7 * 0) hL.d
      have hRe := hD.1 e (-1) c.2.1 c.2.2 (by decide) (by decide)
      have hGe := hD.G c.2 (m := -1) (by decide)
      rw [pu_r0] at hRe hGe
      have v0 : pu_be D1 (7 * 0) l n 5 (7 * 0) 0 = l := by simp [pu_be]
      have v1 : pu_be D1 (7 * 0) l n 5 (7 * 0) 1 = n := by simp [pu_be]
      have u0 : pu_got (mi_st D2 40 0 0 0) l n 40 0 25 = l := by simp [pu_got]
      have u1 : pu_got (mi_st D2 40 0 0 0) l n 40 0 26 = n := by simp [pu_got]
      obtain ⟨x', ex', y', ey', hP'⟩ := pu_put (p := g) (v := 7 * 0) hxe ⟨c.2.1, by omega⟩ hRe.1 hRe.2 hGe (by rw [v0, v1]; exact ⟨l1, l2, l3⟩)
      rw [v0, v1] at ey'
      have hd := pu_rwP.da (m := -1) hD c.2 (by decide) (by rw [pu_r0]; exact hP')
      obtain ⟨d1, d2, d3, d4, d5, d6⟩ := hd
      refine pu_ans.hd h (v := mi_w (10 + x'.1)) (E := x'.2) (G := y'.2) d4 (fun q j i a b => (d5 q j i a).trans (pu_be_h q j i a b)) (pu_FM.tr pu_got_F d6) ?_ ?_
      · rw [pu_b2E, if_pos rfl, ex']
        rfl
      · rw [pu_b2E, if_pos (by decide), u0, u1, ey', d1]
        rfl
    · refine pu_ans.rd h (v := t) ?_ ?_
      · rw [pu_b2E, if_neg (by omega)]
      · rw [pu_b2E, if_neg (by omega)]
  · refine pu_ans.e0 h rfl ?_ ?_
    · simp only [B_X10_move, B_X10_move_23, B_X10_move_24, pu_within, pu_nEg]; grind
    · simp only [B_X11_move, B_X11_move_22, B_X11_move_27, B_X11_isDatum, pu_letE, pu_in, pu_bdg10]
      grind
theorem pu_same {Z : MiZ} {D1 D2 : MiD} {d e : Int} (h : pu_L Z D1 D2) : pu_ans pu_o0 Z D1 D2 (B_X10_same d e D1) (B_X11_same d e D2) := by
  by_cases c : (0 ≤ d ∧ d < 10) ∧ (0 ≤ e ∧ e < 10)
  · have hL := h.z.a
    have hR := hL.d.1 d (-1) c.1.1 c.1.2 (by decide) (by decide)
    have hRe := hL.d.1 e (-1) c.2.1 c.2.2 (by decide) (by decide)
    rw [pu_r0] at hR hRe
    have hx := pu_xB (w := 0) (by decide) c.1 (m := -1) (by decide)
    have hxe := pu_xB (w := 0) (by decide) c.2 (m := -1) (by decide)
    have fE := pu_fuelE
    obtain ⟨z, z1, z2⟩ := pu_same_l (show 0 ≤ d ∧ d < 61 by omega) (show 0 ≤ e ∧ e < 61 by omega) hR.1 hR.2 hRe.1 hRe.2 mi_fuel 0 0 (by decide) (by decide) (by decide) (by decide) (by omega)
    refine pu_ans.rd h (v := if 10 < mi_st D2 40 0 0 0 52 0 d then -1 else if 10 < mi_st D2 40 0 0 0 52 0 e then -1 else z) ?_ ?_
    · simp only [B_X10_same, B_X10_same_24, pu_within, if_pos c.1, if_pos c.2, pu_nEg, pu_rowAt c.1 (show -1 ≤ (-1 : Int) ∧ (-1 : Int) < 5 by decide), pu_rowAt c.2 (show -1 ≤ (-1 : Int) ∧ (-1 : Int) < 5 by decide), pu_biE, if_pos hx, if_pos hxe, B_X6_isRow, B_X6_alikePlaces, z1, hR.1.1, hRe.1.1]
      by_cases e1 : 10 < mi_st D2 40 0 0 0 52 0 d
      · simp only [if_pos e1, if_pos (show 11 ≤ mi_st D2 40 0 0 0 52 0 d by omega), pu_biE]; simp
      · simp only [if_neg e1, if_neg (show ¬ 11 ≤ mi_st D2 40 0 0 0 52 0 d by omega), pu_biE]
        by_cases e2 : 10 < mi_st D2 40 0 0 0 52 0 e
        · simp only [if_pos e2, if_pos (show 11 ≤ mi_st D2 40 0 0 0 52 0 e by omega), pu_biE]; simp
        · simp only [if_neg e2, if_neg (show ¬ 11 ≤ mi_st D2 40 0 0 0 52 0 e by omega), pu_biE]; simp
    · simp only [B_X11_same, B_X11_same_27, B_X11_isDatum, pu_letE, pu_in, pu_bdg10, z2]
      grind
  · refine pu_ans.e0 h rfl ?_ ?_
    · simp only [B_X10_same, B_X10_same_23, B_X10_same_24, pu_within, pu_nEg]; grind
    · simp only [B_X11_same, B_X11_same_22, B_X11_same_27, B_X11_isDatum, pu_letE, pu_in, pu_bdg10]
      grind
theorem pu_D.sp {w : Int} {D1 D2 E2 : MiD} (h : pu_D w D1 D2) (k : pu_fm 60 D2 E2) : pu_D w D1 E2 := by
  refine ⟨fun d m a b c e => ?_, fun d m a b c e => ?_⟩
  · have hr := pu_rB ⟨a, b⟩ ⟨c, e⟩
    have hR := h.1 d m a b c e
    exact ⟨hR.1.kept (y := pu_x w d m + 1) (s := 60) (by omega) ⟨by omega, by omega⟩ (fun _ _ _ _ => rfl) k, hR.2.kept (s := 60) ⟨by omega, by omega⟩ k⟩
  · have hr := pu_rB ⟨a, b⟩ ⟨c, e⟩
    rw [k _ _ _ (by omega) (by omega) (by omega), k _ _ _ (by omega) (by omega) (by omega)]
    exact h.2 d m a b c e
theorem pu_fm.tr {r : Int} {D E F : MiD} (h : pu_fm r D E) (k : pu_fm r E F) : pu_fm r D F := fun q j i a b c => (k q j i a b c).trans (h q j i a b c)
theorem pu_shapes_l {D1 : MiD} {d : Int} (hd : 0 ≤ d ∧ d < 10) : ∀ (f : Nat) (a k : Int) (D2 : MiD), pu_D 0 D1 D2 → 0 ≤ k → k ≤ 11 → 11 - k < f → -2147483648 ≤ a → a < 2147483648 →
    ∃ v G, B_X10_shapes_25 f (pu_x 0 d (-1)) a k D1 = some (.inl (v, D1)) ∧ B_X11_shapes_33 f d a k D2 = some (v, G) ∧ pu_fm 60 D2 G
  | 0, a, k, D2, h, h1, h2, h3, h4, h5 => by omega
  | f + 1, a, k, D2, h, h1, h2, h3, h4, h5 => by
    unfold B_X10_shapes_25 B_X11_shapes_33 B_X11_shapes_62
    by_cases c : 11 ≤ k
    · rw [if_pos c, if_pos (by omega)]; exact ⟨_, _, rfl, rfl, fun _ _ _ _ _ _ => rfl⟩
    · have hR := h.1 d (-1) hd.1 hd.2 (by decide) (by decide)
      rw [pu_r0] at hR
      have hx := pu_xB (w := 0) (by decide) hd (m := -1) (by decide)
      obtain ⟨K1, K2, K3, K4, K5⟩ := id hR.2
      obtain ⟨b, b1, b2, b3, b4⟩ := pu_spare (D := D2) (d := d) (k := k) (n := D2 53 0 d) hd hR.2 ⟨h1, by omega⟩ ⟨K3, K4⟩
      have hm : mi_min (D2 53 0 d) (D2 53 0 d) = D2 53 0 d := by unfold mi_min; split <;> rfl
      rw [hm] at b4
      have w1 : mi_w (k + 1) = k + 1 := pu_w (by omega) (by omega)
      have h' := h.sp b2
      obtain ⟨v, G, v1, v2, v3⟩ := pu_shapes_l hd f a (k + 1) b.2 h' (by omega) (by omega) (by omega) h4 h5
      obtain ⟨u, H, u1, u2, u3⟩ := pu_shapes_l hd f (mi_or a (mi_shl 1 k)) (k + 1) b.2 h' (by omega) (by omega) (by omega) pu_orr.1 pu_orr.2
      rw [if_neg c, if_neg (show ¬ 10 < k by omega), if_pos hx, if_pos (show 0 ≤ d ∧ d < 61 by omega), b1]
      show ∃ v G, _ ∧ mi_b2 (some (b.1, b.2)) _ = _ ∧ _
      rw [pu_b2E, pu_or0 h4 h5, w1]
      unfold B_X6_isRow
      rw [hR.1.1, hR.1.2.1]
      by_cases r : 11 ≤ D2 52 0 d
      · rw [if_pos r, pu_biE, if_pos rfl, if_pos (show b.1 ≠ 0 from fun z => by have := (b4.mp z).1; omega), v2]
        have : v = a := by
          cases f with
          | zero => omega
          | succ g =>
            unfold B_X10_shapes_25 B_X6_isRow at v1
            by_cases c' : 11 ≤ k + 1
            · rw [if_pos c'] at v1
              simp only [Option.some.injEq, Sum.inl.injEq, Prod.mk.injEq] at v1
              exact v1.1.symm
            · rw [if_neg c', if_pos hx, hR.1.1, if_pos r, pu_biE, if_pos rfl] at v1
              simp only [Option.some.injEq, Sum.inl.injEq, Prod.mk.injEq] at v1
              exact v1.1.symm
        exact ⟨v, G, by rw [this], rfl, b2.tr v3⟩
      · obtain ⟨g, g1, g2, g3⟩ := pu_fitsAs (D := D1) (x := pu_x 0 d (-1)) (k := k) (n := D2 53 0 d) ⟨h1, by omega⟩ (fun p y z => by rw [(hR.1.2.2 p y z).1]; exact ⟨(K5 p y z).1, (K5 p y z).2.1⟩)
        rw [if_neg r, pu_biE, if_neg (by decide), g1, pu_biE]
        have hq : b.1 = 0 ↔ g = 1 := by
          rw [b4, g3]
          refine ⟨fun z p y1 y2 y3 => ?_, fun z => ⟨by omega, fun p y1 y2 => ?_⟩⟩
          · rw [(hR.1.2.2 p y1 y3).1]; exact z.2 p y1 y2
          · rw [← (hR.1.2.2 p y1 (by omega)).1]; exact z p y1 y2 (by omega)
        by_cases e : g = 0
        · rw [if_pos e, if_pos (show b.1 ≠ 0 from fun z => by have := hq.mp z; omega)]
          exact ⟨v, G, v1, v2, b2.tr v3⟩
        · rw [if_neg e, if_neg (show ¬ (b.1 ≠ 0) from fun z => z (hq.mpr (by omega))), pu_letE]
          exact ⟨u, H, u1, u2, b2.tr u3⟩
theorem pu_shapes {Z : MiZ} {D1 D2 : MiD} {d : Int} (h : pu_L Z D1 D2) : pu_ans pu_o0 Z D1 D2 (B_X10_shapes d D1) (B_X11_shapes d D2) := by
  by_cases c : 0 ≤ d ∧ d < 10
  · have hL := h.z.a
    have fE := pu_fuelE
    obtain ⟨v, G, v1, v2, v3⟩ := pu_shapes_l c mi_fuel 0 0 _ hL.d (by decide) (by decide) (by omega) (by decide) (by decide)
    refine pu_ans.hd h (v := v) (E := D1) (G := G) (hL.d.sp v3) (fun _ _ _ _ _ => rfl) v3.F ?_ ?_
    · simp only [B_X10_shapes, pu_within, if_pos c, pu_nEg, pu_rowAt c (show -1 ≤ (-1 : Int) ∧ (-1 : Int) < 5 by decide), pu_biE, v1]
      simp
    · simp only [B_X11_shapes, B_X11_shapes_19, B_X11_isDatum, pu_letE, pu_in, pu_bdg10, v2]
      grind
  · refine pu_ans.e0 h rfl ?_ ?_
    · simp only [B_X10_shapes, pu_within, if_neg c, pu_nEg]; simp
    · simp only [B_X11_shapes, B_X11_shapes_19, B_X11_isDatum, pu_letE, pu_in, pu_bdg10]
      grind
theorem pu_shgo_l {w d : Int} {D1' D2' : MiD} (hw : 0 ≤ w ∧ w < 2) (hd : 0 ≤ d ∧ d < 10) : ∀ (f : Nat) (m : Int) (D1 D2 : MiD), pu_DR w D1 D2 → (∀ e n : Int, 0 ≤ e → e < 10 → -1 ≤ n → n < 5 → D2 52 0 e = 12 → e ≠ d ∨ n < m → D2 52 0 (pu_r e n) = 12) → 0 ≤ m → m ≤ 5 → 5 - m < f →
    ∃ E G, B_X9_layDatum_14 f w d m D1 = some E ∧ (∀ X, B_X11_datum_83 f d m D2 = some X ↔ (mi_bi (B_X11_places G) fun y2 => some (y2, G)) = some X) ∧ pu_D w E G ∧ pu_FC w D1 E ∧ pu_FM D2 G
  | 0, m, D1, D2, h, h0, h1, h2, h3 => by omega
  | f + 1, m, D1, D2, h, h0, h1, h2, h3 => by
    unfold B_X9_layDatum_14 B_X11_datum_83
    by_cases c : 5 ≤ m
    · rw [if_pos c, if_pos c]
      refine ⟨D1, D2, rfl, fun X => Iff.rfl, ⟨h, fun e n a1 a2 a3 a4 a5 => h0 e n a1 a2 a3 a4 a5 (Or.inr (by omega))⟩, pu_FC.rf, pu_FM.rf⟩
    · have hx := pu_xB (w := w) hw hd (m := m) (by omega)
      have hr := pu_rB hd (m := m) (by omega)
      rw [if_neg c, if_neg c, pu_rowAt hd (by omega), pu_biE, if_pos hx, pu_lay_e hx.1 hx.2, pu_biE, pu_rowOf hd (by omega), pu_layM_e hr.1 (by omega), pu_biE, pu_w (x := m + 1) (by omega) (by omega)]
      have hn := h.upd (D1' := pu_lay D1 (pu_x w d m) 12 0) (D2' := pu_layM D2 (pu_r d m) 12 0) hd (m := m) (by omega) pu_lay_fc pu_layM_fm pu_lay_R (pu_layM_K (by decide) (by decide))
      have hf : pu_fm (pu_r d m) D2 (pu_layM D2 (pu_r d m) 12 0) := pu_layM_fm
      have hoth : ∀ e n : Int, 0 ≤ e → e < 10 → -1 ≤ n → n < 5 → ¬ (e = d ∧ n = m) → pu_layM D2 (pu_r d m) 12 0 52 0 (pu_r e n) = D2 52 0 (pu_r e n) := fun e n a1 a2 a3 a4 z => by
        have c2 : pu_r e n ≠ pu_r d m := fun y => z (pu_ri ⟨a1, a2⟩ ⟨a3, a4⟩ hd (by omega) y)
        have c3 := pu_rB (d := e) (m := n) ⟨a1, a2⟩ ⟨a3, a4⟩
        exact hf _ _ _ (by omega) (by omega) (by omega)
      obtain ⟨E, G, k1, k2, k3, k4, k5⟩ := pu_shgo_l (D1' := D1') (D2' := D2') hw hd f (m + 1) _ _ hn (fun e n a1 a2 a3 a4 a5 a6 => by
        have e0 := hoth e (-1) a1 a2 (by decide) (by decide) (by omega)
        rw [pu_r0] at e0
        by_cases z : e = d ∧ n = m
        · obtain ⟨rfl, rfl⟩ := z; exact pu_layM_k
        · rw [hoth e n a1 a2 a3 a4 z]
          rw [e0] at a5
          exact h0 e n a1 a2 a3 a4 a5 (by omega)) (by omega) (by omega) (by omega)
      exact ⟨E, G, k1, k2, k3, (pu_lay_fc.F hd (by omega)).tr k4, (pu_layM_fm.F).tr k5⟩
theorem pu_datum {Z : MiZ} {D1 D2 : MiD} {d k n : Int} (h : pu_L Z D1 D2) : pu_ans pu_m01 Z D1 D2 (B_X10_datum d k n D1) (B_X11_datum d k n D2) := by
  by_cases c : 0 ≤ d ∧ d < 10
  · by_cases c2 : (0 ≤ k ∧ k ≤ 12) ∧ (0 ≤ n ∧ n ≤ 9) ∧ (10 < k → n = 0)
    · have hL := h.z.a
      have fE := pu_fuelE
      have hx := pu_xB (w := 0) (by decide) c (m := -1) (by decide)
      have hn := hL.d.1.upd (D1' := pu_lay D1 (pu_x 0 d (-1)) k n) (D2' := pu_layM (mi_st D2 40 0 0 0) (pu_r d (-1)) k n) c (m := -1) (by decide) pu_lay_fc pu_layM_fm pu_lay_R (pu_layM_K c2.1 c2.2.1)
      have hf : pu_fm (pu_r d (-1)) (mi_st D2 40 0 0 0) (pu_layM (mi_st D2 40 0 0 0) (pu_r d (-1)) k n) := pu_layM_fm
      obtain ⟨E, G, k1, k2, k3, k4, k5⟩ := pu_shgo_l (D1' := D1) (D2' := D2) (by decide) c mi_fuel 0 _ _ hn (fun e m a1 a2 a3 a4 a5 a6 => by
        by_cases z : e = d
        · subst z
          have : m = -1 := by omega
          subst this
          rw [pu_r0]; rw [pu_r0] at a5; exact a5
        · have c2 : pu_r e m ≠ pu_r d (-1) := fun y => z (pu_ri ⟨a1, a2⟩ ⟨a3, a4⟩ c (by decide) y).1
          have c3 := pu_rB (d := e) (m := m) ⟨a1, a2⟩ ⟨a3, a4⟩
          rw [hf _ _ _ (by rw [pu_r0]; omega) (by omega) (by omega)] at a5
          rw [hf _ _ _ (by omega) (by omega) (by omega)]
          exact hL.d.2 e m a1 a2 a3 a4 a5) (by decide) (by decide) (by omega)
      obtain ⟨v, v1, v2⟩ := pu_places k3
      have k2' := (k2 (v, G)).mpr (by rw [v2, pu_biE])
      refine pu_ans.hd h (v := v) (E := E) (G := G) k3 (fun q j i a b => ((pu_lay_fc.F c (by decide)).tr k4) q j i a) ((pu_layM_fm.F).tr k5) ?_ ?_
      · have u : B_X10_datum_45 d k n 1 D1 = some (.inl (v, E)) := by
          unfold B_X10_datum_45 B_X9_layDatum
          rw [if_pos (Or.inr rfl), pu_nA1, pu_rowAt c (by decide), pu_biE, if_pos hx, pu_lay_e hx.1 hx.2, pu_biE, k1, pu_biE, v1, pu_biE]
        simp only [B_X10_datum, B_X10_datum_37, B_X10_datum_44, pu_within, if_pos c, pu_nEg, u]
        grind
      · have u : B_X11_datum_63 d k n 0 (mi_st D2 40 0 0 0) = some (v, G) := by
          unfold B_X11_datum_63
          rw [if_pos (Or.inl rfl), pu_bdg21, if_pos rfl, if_pos rfl, pu_layM_e c.1 (by omega), pu_biE]
          rw [pu_r0] at k2'
          exact k2'
        simp only [B_X11_datum, B_X11_datum_19, B_X11_datum_58, B_X11_datum_62, B_X11_isDatum, pu_letE, pu_in, pu_bdg10, u]
        grind
    · refine pu_ans.e1 h 2 rfl (by decide) ?_ ?_
      · have u : B_X10_datum_45 d k n 0 D1 = some (.inr (1, pu_rf1 1 D1)) := by
          unfold B_X10_datum_45
          rw [if_pos (Or.inl rfl), pu_nA]
        simp only [B_X10_datum, B_X10_datum_37, B_X10_datum_44, pu_within, if_pos c, pu_nEg, u]
        grind
      · have u : B_X11_datum_63 d k n 1 (mi_st D2 40 0 0 0) = some (0, pu_rf2 2 1 D2) := by
          unfold B_X11_datum_63
          rw [if_pos (Or.inr rfl), pu_bdg21, if_neg (by decide), if_neg (by decide)]
        simp only [B_X11_datum, B_X11_datum_19, B_X11_datum_58, B_X11_datum_62, B_X11_isDatum, pu_letE, pu_in, pu_bdg10, u]
        grind
  · refine pu_ans.e0 h rfl ?_ ?_
    · simp only [B_X10_datum, pu_within, if_neg c, pu_nEg]; simp
    · simp only [B_X11_datum, B_X11_datum_19, B_X11_isDatum, pu_letE, pu_in, pu_bdg10]
      grind
theorem pu_start_yes {Z : MiZ} {D1 D2 : MiD} {t f : Int} (h : pu_L Z D1 D2) (c : 0 ≤ t ∧ t < 6) (cf : 0 ≤ f ∧ f < 12) (i0 : mi_st D2 40 0 0 0 59 t 0 = 0) : ∃ p E G, B_X9_launch Z 0 t f D1 = some (p, E) ∧ B_X11_start_49 t f 0 (mi_st D2 40 0 0 0) = some (p, G) ∧ pu_A 0 Z E G ∧ pu_t1 0 D1 E ∧ pu_t2 (mi_st D2 40 0 0 0) G := by
  have hz : mi_st D2 40 0 0 0 40 0 0 = 0 := pu_st_eq
  have hL := h.z.a
  unfold B_X11_start_49
  rw [if_pos (Or.inl rfl), pu_bdg22, if_pos rfl, if_pos rfl, if_pos (show 0 ≤ t ∧ t < 7 by omega), pu_letE, pu_letE, pu_letE]
  generalize mi_st D2 40 0 0 0 = D2 at *
  have K := hL.t t c.1 c.2
  have re : D2 59 t 3 = 0 := by
    have := K.re0
    have := K.rs
    omega
  have fr1 : D1 4 (6 * 0 + t) 4 = 0 := K.fr.trans i0
  generalize hG : mi_st (mi_st (mi_st D2 59 t 2 (-1)) 60 0 t 0) 59 t 3 0 = G0
  have o2 : ∀ (q : Nat) (j i : Int), ¬ (q = 59 ∧ j = t ∧ (i = 2 ∨ i = 3)) → ¬ (q = 60 ∧ j = 0 ∧ i = t) → G0 q j i = D2 q j i := fun q j i z y => by rw [← hG, pu_st, if_neg (by omega), pu_st, if_neg (by omega), pu_st, if_neg (by omega)]
  have g2 : G0 59 t 2 = -1 := by rw [← hG, pu_st, if_neg (by omega), pu_st, if_neg (by omega), pu_st_eq]
  have g60 : G0 60 0 t = 0 := by rw [← hG, pu_st, if_neg (by omega), pu_st_eq]
  have g3 : G0 59 t 3 = 0 := by rw [← hG, pu_st_eq]
  have g0 : G0 59 t 0 = 0 := (o2 _ _ _ (by omega) (by omega)).trans i0
  obtain ⟨p, p1, p2, p3, p4, p5⟩ := pu_callee (E1 := D1) (E2 := mi_st G0 63 (10 * t + 0) 0 f) (by decide) c cf hL rfl rfl (fun _ => rfl) rfl (by rw [pu_st, if_neg (by omega)]; exact o2 _ _ _ (by omega) (by omega)) (by rw [pu_st, if_neg (by omega)]; exact o2 _ _ _ (by omega) (by omega)) (fun s => by rw [pu_st, if_neg (by omega)]; exact o2 _ _ _ (by omega) (by omega)) (by rw [pu_st, if_neg (by omega)]; exact o2 _ _ _ (by omega) (by omega)) (fun s => by rw [pu_st, if_neg (by omega)]; exact o2 _ _ _ (by omega) (by omega))
  have n0 := hL.p.n0
  refine ⟨p, pu_push (pu_be D1 (6 * 0 + t + 1 + (6 * 0 + t) / 6) (-1) 0) (6 * 0 + t) 0 f p, pu_pushM G0 t 0 f p, ?_, ?_, ?_⟩
  · unfold B_X9_launch
    rw [p1, pu_biE, if_pos c, pu_be_e, pu_biE, pu_push_e (n := 0) (by unfold pu_be; rw [if_neg (by omega), if_neg (by omega)]; exact fr1) (by decide), pu_b2E]
  · rw [pu_pushM_e c g0 (by decide) p2, pu_biE, if_pos c]
    congr 2
    unfold pu_pushM
    rw [if_neg (by omega), if_neg (by omega), if_pos ⟨rfl, rfl, rfl⟩]
  · generalize hE : pu_push (pu_be D1 (6 * 0 + t + 1 + (6 * 0 + t) / 6) (-1) 0) (6 * 0 + t) 0 f p = E
    generalize hG' : pu_pushM G0 t 0 f p = G
    have f1 : ∀ (q : Nat) (j i : Int), ¬ (q = 4 ∧ j = 6 * 0 + t ∧ i = 4) → ¬ ((q = 19 ∨ q = 20 ∨ q = 21 ∨ q = 22) ∧ j = 6 * 0 + t ∧ i = 0) → ¬ (q = 5 ∧ j = 6 * 0 + t + 1 + (6 * 0 + t) / 6) → E q j i = D1 q j i := fun q j i x y z => by
      rw [← hE]; unfold pu_push pu_be
      rw [if_neg (by omega), if_neg (by omega), if_neg (by omega), if_neg (by omega), if_neg (by omega), if_neg (by omega)]
    have f2 : ∀ (q : Nat) (j i : Int), ¬ (q = 59 ∧ j = t ∧ (i = 0 ∨ i = 2 ∨ i = 3)) → ¬ (q = 63 ∧ j = 10 * t) → ¬ (q = 60 ∧ j = 0 ∧ i = t) → G q j i = D2 q j i := fun q j i x y z => by
      rw [← hG']; unfold pu_pushM
      rw [if_neg (by omega), if_neg (by omega), if_neg (by omega), if_neg (by omega)]
      exact o2 q j i (by omega) (by omega)
    have a4 : E 4 (6 * 0 + t) 4 = 1 := by rw [← hE]; unfold pu_push; rw [if_pos ⟨rfl, rfl, rfl⟩]; rfl
    have a19 : E 19 (6 * 0 + t) 0 = f := by rw [← hE]; unfold pu_push; rw [if_neg (by omega), if_pos ⟨rfl, rfl, rfl⟩]
    have a20 : E 20 (6 * 0 + t) 0 = p := by rw [← hE]; unfold pu_push; rw [if_neg (by omega), if_neg (by omega), if_pos ⟨rfl, rfl, rfl⟩]
    have a21 : E 21 (6 * 0 + t) 0 = 0 := by rw [← hE]; unfold pu_push; rw [if_neg (by omega), if_neg (by omega), if_neg (by omega), if_pos (by omega)]
    have a22 : E 22 (6 * 0 + t) 0 = 0 := by rw [← hE]; unfold pu_push; rw [if_neg (by omega), if_neg (by omega), if_neg (by omega), if_pos (by omega)]
    have a5 : E 5 (6 * 0 + t + 1 + (6 * 0 + t) / 6) 0 = -1 ∧ E 5 (6 * 0 + t + 1 + (6 * 0 + t) / 6) 1 = 0 := by
      rw [← hE]; unfold pu_push pu_be
      constructor
      · rw [if_neg (by omega), if_neg (by omega), if_neg (by omega), if_neg (by omega), if_pos ⟨rfl, rfl, rfl⟩]
      · rw [if_neg (by omega), if_neg (by omega), if_neg (by omega), if_neg (by omega), if_neg (by omega), if_pos ⟨rfl, rfl, rfl⟩]
    have b0 : G 59 t 0 = 1 := by rw [← hG']; unfold pu_pushM; rw [if_pos ⟨rfl, rfl, rfl⟩]; rfl
    have b2 : G 59 t 2 = -1 := by rw [← hG']; unfold pu_pushM; rw [if_neg (by omega), if_neg (by omega), if_neg (by omega), if_neg (by omega)]; exact g2
    have b3 : G 59 t 3 = 0 := by rw [← hG']; unfold pu_pushM; rw [if_neg (by omega), if_neg (by omega), if_neg (by omega), if_neg (by omega)]; exact g3
    have b60 : G 60 0 t = 0 := by rw [← hG']; unfold pu_pushM; rw [if_neg (by omega), if_neg (by omega), if_neg (by omega), if_neg (by omega)]; exact g60
    have c0 : G 63 (10 * t + 0) 0 = f := by rw [← hG']; unfold pu_pushM; rw [if_neg (by omega), if_pos ⟨rfl, rfl, rfl⟩]
    have c1 : G 63 (10 * t + 0) 1 = p := by rw [← hG']; unfold pu_pushM; rw [if_neg (by omega), if_neg (by omega), if_pos ⟨rfl, rfl, rfl⟩]
    have c2 : G 63 (10 * t + 0) 2 = 0 := by rw [← hG']; unfold pu_pushM; rw [if_neg (by omega), if_neg (by omega), if_neg (by omega), if_pos (by omega)]
    have c3 : G 63 (10 * t + 0) 3 = 0 := by rw [← hG']; unfold pu_pushM; rw [if_neg (by omega), if_neg (by omega), if_neg (by omega), if_pos (by omega)]
    have k11 : G 40 0 11 = D2 40 0 11 := f2 _ _ _ (by omega) (by omega) (by omega)
    refine ⟨hL.act (by decide) c (fun q j i x y z u => f1 q j i (by omega) (by omega) (by omega)) (fun q j i x y z u v w' => f2 q j i (by omega) (by omega) (by omega)) (hL.d.o (fun q j i z => f1 q j i (by omega) (by omega) (by omega)) (fun q j i z => f2 q j i (by omega) (by omega) (by omega))) ?_ (f1 _ _ _ (by omega) (by omega) (by omega)) (f2 _ _ _ (by omega) (by omega) (by omega)) (f2 _ _ _ (by omega) (by omega) (by omega)) (by rw [f1 _ _ _ (by omega) (by omega) (by omega), f2 _ _ _ (by omega) (by omega) (by omega)]; exact hL.w.tp), fun q j i x y z u => f1 q j i (by omega) (by omega) (by omega), fun q j i x y => f2 q j i (by omega) (by omega) (by omega)⟩
    obtain ⟨k1, k2, k3, k4, k5, k6, k7, k8, k9, k10, k12, k13, k14, k15, k16⟩ := K
    refine ⟨by rw [a4, b0], by omega, by omega, ?_, by omega, by omega, ?_, ?_, ?_, ?_, ?_, ?_, ?_, fun e x y => ?_, fun y => by omega⟩
    · rw [f1 _ _ _ (by omega) (by omega) (by omega), b3, k4, re]
    · rw [f1 _ _ _ (by omega) (by omega) (by omega), f2 _ _ _ (by omega) (by omega) (by omega)]; exact k7
    · rw [f2 _ _ _ (by omega) (by omega) (by omega)]; exact k8
    · rw [f2 _ _ _ (by omega) (by omega) (by omega)]; exact k9
    · rw [f1 _ _ _ (by omega) (by omega) (by omega), f2 _ _ _ (by omega) (by omega) (by omega)]; exact k10
    · rw [f1 _ _ _ (by omega) (by omega) (by omega), f2 _ _ _ (by omega) (by omega) (by omega)]; exact k12
    · rw [f1 _ _ _ (by omega) (by omega) (by omega)]; exact k13
    · unfold pu_v
      rw [a5.1, a5.2, b2, b60]
      exact ⟨rfl, rfl, by decide, by decide, fun _ => rfl⟩
    · have : e = 0 := by omega
      subst this
      refine ⟨by rw [a19, c0], by omega, by omega, by rw [a20, c1], by omega, by omega, fun z => ?_, by rw [a21, c2], by omega, by omega, by rw [a22, c3]⟩
      rw [c1] at z
      rw [c0, c1, f2 _ _ _ (by omega) (by omega) (by omega)]
      exact p5 z
theorem pu_start {Z : MiZ} {D1 D2 : MiD} {t f : Int} (h : pu_L Z D1 D2) : pu_ans pu_m02 Z D1 D2 (B_X10_start Z t f D1) (B_X11_start t f D2) := by
  by_cases c : (0 ≤ t ∧ t < 6) ∧ (0 ≤ f ∧ f < 12)
  · have hL := h.z
    have K := hL.a.t t c.1.1 c.1.2
    by_cases i0 : mi_st D2 40 0 0 0 59 t 0 = 0
    · obtain ⟨p, E, G, e1, e2, e3, e4, e5⟩ := pu_start_yes h c.1 c.2 i0
      obtain ⟨q1, q2, q3, q4⟩ := hL.t e3 e4 e5
      refine Or.inl ⟨p, E, G, ?_, ?_, q4.trans pu_st_eq, q1, q2, fun i => (q3 i).trans (by rw [pu_st, if_neg (by omega)])⟩
      · unfold B_X10_start B_X10_start_24
        rw [pu_within, if_pos c.1, if_neg (by decide), pu_within, if_pos c.2, if_neg (by decide), if_pos (show (1 : Int) = 0 ∨ (1 : Int) = 1 from Or.inr rfl), pu_nE1, if_pos c.1, K.fr, i0, if_neg (by decide)]
        unfold B_X10_start_48
        rw [if_pos (show (1 : Int) = 0 ∨ (1 : Int) = 1 from Or.inr rfl), pu_nS1, e1, pu_b2E]
      · unfold B_X11_start B_X11_start_27 B_X11_isTask B_X11_isFunction B_X11_isIdle
        rw [pu_letE, pu_in, if_pos (show 0 ≤ t ∧ t ≤ 5 by omega), if_neg (by decide), pu_in, if_pos (show 0 ≤ f ∧ f ≤ 11 by omega), if_pos (show (1 : Int) ≠ 0 by decide), if_pos (show (0 : Int) = 0 ∨ (0 : Int) = 1 from Or.inl rfl), pu_bdg10, if_pos rfl, if_neg (show ¬ ((0 : Int) ≠ 0) by decide), if_pos (show 0 ≤ t ∧ t < 7 by omega), i0, if_neg (show ¬ ((0 : Int) ≠ 0) by decide), pu_biE, if_pos (show (1 : Int) ≠ 0 by decide), e2]
    · refine pu_ans.e2 h 2 rfl (by decide) ?_ ?_
      · unfold B_X10_start B_X10_start_24
        rw [pu_within, if_pos c.1, if_neg (by decide), pu_within, if_pos c.2, if_neg (by decide), if_pos (show (1 : Int) = 0 ∨ (1 : Int) = 1 from Or.inr rfl), pu_nE1, if_pos c.1, K.fr, if_pos i0]
        unfold B_X10_start_48
        rw [if_pos (show (0 : Int) = 0 ∨ (0 : Int) = 1 from Or.inl rfl), pu_nS]
      · unfold B_X11_start B_X11_start_27 B_X11_isTask B_X11_isFunction B_X11_isIdle
        rw [pu_letE, pu_in, if_pos (show 0 ≤ t ∧ t ≤ 5 by omega), if_neg (by decide), pu_in, if_pos (show 0 ≤ f ∧ f ≤ 11 by omega), if_pos (show (1 : Int) ≠ 0 by decide), if_pos (show (0 : Int) = 0 ∨ (0 : Int) = 1 from Or.inl rfl), pu_bdg10, if_pos rfl, if_neg (show ¬ ((0 : Int) ≠ 0) by decide), if_pos (show 0 ≤ t ∧ t < 7 by omega), if_pos i0, pu_biE, if_neg (show ¬ ((0 : Int) ≠ 0) by decide)]
        unfold B_X11_start_49
        rw [if_pos (show (1 : Int) = 0 ∨ (1 : Int) = 1 from Or.inr rfl), pu_bdg22, if_neg (show ¬ ((1 : Int) = 0) by decide), if_neg (show ¬ ((1 : Int) = 0) by decide)]
  · refine pu_ans.e0 h rfl ?_ ?_
    · simp only [B_X10_start, B_X10_start_23, B_X10_start_24, pu_within, pu_nEg]; grind
    · simp only [B_X11_start, B_X11_start_22, B_X11_start_27, B_X11_isTask, B_X11_isFunction, pu_letE, pu_in, pu_bdg10]
      grind
theorem pu_height_l {Z : MiZ} {D1 D2 : MiD} {p : Int} (h : pu_A 0 Z D1 D2) : ∀ (f : Nat) (s : Int), 0 ≤ s → s ≤ D2 65 0 0 → D2 65 0 0 - s < f →
    ∃ v, B_X9_heightOf_2 D1 f 0 p s = some v ∧ B_X11_placeOf_2 D2 f p s = some v ∧ B_X11_isStacked_2 D2 f p s = some (if v = -1 then 0 else 1) ∧ (v = -1 ↔ ∀ s' : Int, s ≤ s' → s' < D2 65 0 0 → D2 64 0 s' ≠ p) ∧ -1 ≤ v
  | 0, s, h1, h2, h3 => by omega
  | f + 1, s, h1, h2, h3 => by
    have W := h.w
    have w8 := W.st8
    unfold B_X9_heightOf_2 B_X11_placeOf_2 B_X11_isStacked_2
    rw [W.st]
    by_cases c : D2 65 0 0 ≤ s
    · rw [if_pos c, if_pos c, if_pos c]
      exact ⟨-1, rfl, rfl, by rw [if_pos rfl], ⟨fun _ s' a b => by omega, fun _ => rfl⟩, by decide⟩
    · have h8 : 0 ≤ s ∧ s < 8 := by omega
      rw [if_neg c, if_neg c, if_neg c, if_pos h8, if_pos h8, if_pos h8, (W.sk s h1 (by omega)).1, pu_w (x := s + 1) (by omega) (by omega)]
      by_cases e : D2 64 0 s = p
      · rw [if_neg (fun z => z e), if_neg (fun z => z e), if_neg (fun z => z e)]
        exact ⟨s, rfl, rfl, by rw [if_neg (by omega)], ⟨fun z => by omega, fun z => absurd e (z s (by omega) (by omega))⟩, by omega⟩
      · rw [if_pos e, if_pos e, if_pos e]
        obtain ⟨v, v1, v2, v3, v4, v5⟩ := pu_height_l h f (s + 1) (by omega) (by omega) (by omega)
        refine ⟨v, v1, v2, v3, v4.trans ⟨fun z s' a b => ?_, fun z s' a b => z s' (by omega) b⟩, v5⟩
        by_cases e' : s' = s
        · subst e'; exact e
        · exact z s' (by omega) b
theorem pu_height {Z : MiZ} {D1 D2 : MiD} {p : Int} (h : pu_A 0 Z D1 D2) : ∃ v, B_X9_heightOf D1 0 p = some v ∧ B_X11_placeOf D2 p = some v ∧ B_X11_isStacked D2 p = some (if v = -1 then 0 else 1) ∧ (v = -1 ↔ ∀ s' : Int, 0 ≤ s' → s' < D2 65 0 0 → D2 64 0 s' ≠ p) ∧ -1 ≤ v := by
  have := h.w.st0
  have := h.w.st8
  have := pu_fuelE
  exact pu_height_l h mi_fuel 0 (by decide) (by omega) (by omega)
theorem pu_deeds_l {Z : MiZ} {D1 D2 : MiD} {p : Int} (h : pu_Pt Z D1 (Z.1 12 0 p) D2 p) (hp : 0 ≤ p ∧ p < 8) : ∀ (f : Nat) (a b i : Int), 0 ≤ i → i ≤ 12 → 12 - i < f → 0 ≤ a → a ≤ 72 + 24 * i → 0 ≤ b → b ≤ 24 * i →
    ∃ s, B_X4_allDeeds_26 D1 Z f (Z.1 12 0 p) a i = some (a + s) ∧ B_X11_deedsOfAll_4 D2 f p b i = B_X11_deedsOfAll_52 D2 mi_fuel p (b + s) 8 ∧ 0 ≤ s ∧ s ≤ 24 * (12 - i)
  | 0, a, b, i, h1, h2, h3, h4, h5, h6, h7 => by omega
  | f + 1, a, b, i, h1, h2, h3, h4, h5, h6, h7 => by
    unfold B_X4_allDeeds_26 B_X11_deedsOfAll_4 B_X11_deedsOfAll_41
    by_cases c : 12 ≤ i
    · rw [if_pos c, if_pos c]; exact ⟨0, by rw [Int.add_zero], by rw [Int.add_zero], by decide, by omega⟩
    · rw [if_neg c, if_neg c, if_pos h.cs, if_pos (show 0 ≤ i ∧ i < 12 by omega), if_pos (show 0 ≤ p ∧ p < 9 by omega), pu_w (x := i + 1) (by omega) (by omega)]
      by_cases e : B_X11_isBit (D2 47 0 p) i = 0
      · rw [if_pos (h.no i h1 (by omega) e), if_pos e, pu_letE, pu_w (x := b + 0) (by omega) (by omega)]
        obtain ⟨s, s1, s2, s3, s4⟩ := pu_deeds_l h hp f a (b + 0) (i + 1) (by omega) (by omega) (by omega) h4 (by omega) (by omega) (by omega)
        exact ⟨s, s1, by rw [s2, Int.add_zero], s3, by omega⟩
      · obtain ⟨y1, y2, y3, y4, y5, y6, -⟩ := h.yes i h1 (by omega) e
        rw [if_neg (show ¬ Z.1 24 (Z.1 8 (Z.1 12 0 p) 1) i < 0 by omega), if_pos y1, if_neg e, if_pos (show 0 ≤ i ∧ i < 12 by omega), if_pos y2, pu_letE, pu_letE, y4, pu_w (x := a + _) (by omega) (by omega), pu_w (x := b + _) (by omega) (by omega)]
        obtain ⟨s, s1, s2, s3, s4⟩ := pu_deeds_l h hp f (a + D2 43 0 (D2 51 p i)) (b + D2 43 0 (D2 51 p i)) (i + 1) (by omega) (by omega) (by omega) (by omega) (by omega) (by omega) (by omega)
        exact ⟨D2 43 0 (D2 51 p i) + s, by rw [s1, Int.add_assoc], by rw [s2, Int.add_assoc], by omega, by omega⟩
theorem pu_codeAt {p k : Int} (hp : 0 ≤ p ∧ p < 9) (hk : 0 ≤ k ∧ k < 11) : B_X11_codeAt p k = 12 + 11 * p + k := by
  unfold B_X11_codeAt
  rw [pu_w (x := 11 * p) (by omega) (by omega), pu_w (x := 12 + 11 * p) (by omega) (by omega), pu_w (by omega) (by omega)]
theorem pu_deeds {Z : MiZ} {D1 D2 : MiD} {p : Int} (h : pu_Pt Z D1 (Z.1 12 0 p) D2 p) (hp : 0 ≤ p ∧ p < 8) : ∃ v, B_X4_allDeeds D1 Z (Z.1 12 0 p) = some v ∧ B_X11_deedsOfAll D2 p = some v := by
  have fE := pu_fuelE
  obtain ⟨b1, -, -, b4, b5, b6, -⟩ := h.b
  obtain ⟨d1, -, -, d4, d5, d6, -⟩ := h.d
  obtain ⟨u1, -, -, u4, u5, u6, -⟩ := h.u
  obtain ⟨s, s1, s2, s3, s4⟩ := pu_deeds_l h hp mi_fuel (D2 43 0 (20 + 11 * p) + D2 43 0 (21 + 11 * p) + D2 43 0 (22 + 11 * p)) 0 0 (by decide) (by decide) (by omega) (by omega) (by omega) (by decide) (by decide)
  refine ⟨D2 43 0 (20 + 11 * p) + D2 43 0 (21 + 11 * p) + D2 43 0 (22 + 11 * p) + s, ?_, ?_⟩
  · unfold B_X4_allDeeds
    rw [if_pos b1, if_pos d1, if_pos u1, b4, d4, u4, pu_letE, pu_w (x := D2 43 0 (20 + 11 * p) + D2 43 0 (21 + 11 * p)) (by omega) (by omega), pu_w (by omega) (by omega)]
    exact s1
  · unfold B_X11_deedsOfAll
    rw [s2, show mi_fuel = 3996 + 1 + 1 + 1 + 1 from rfl]
    have e : ∀ (f : Nat) (a i : Int), 8 ≤ i → i ≤ 10 → B_X11_deedsOfAll_52 D2 (f + 1) p a i = B_X11_deedsOfAll_52 D2 f p (mi_w (a + D2 43 0 (12 + 11 * p + i))) (i + 1) := fun f a i x y => by
      conv => lhs; unfold B_X11_deedsOfAll_52
      rw [if_neg (by omega), pu_codeAt (by omega) (by omega), if_pos (by omega), pu_letE, pu_w (x := i + 1) (by omega) (by omega)]
    rw [e _ _ _ (by decide) (by decide), e _ _ _ (by decide) (by decide), e _ _ _ (by decide) (by decide)]
    unfold B_X11_deedsOfAll_52
    rw [if_pos (by decide), show (12 + 11 * p + 8 : Int) = 20 + 11 * p by omega, show (12 + 11 * p + (8 + 1) : Int) = 21 + 11 * p by omega, show (12 + 11 * p + (8 + 1 + 1) : Int) = 22 + 11 * p by omega]
    rw [pu_w (x := 0 + s + _) (by omega) (by omega), pu_w (x := 0 + s + _ + _) (by omega) (by omega), pu_w (by omega) (by omega)]
    congr 1
    omega
theorem pu_patchOf {Z : MiZ} {D1 D2 : MiD} {p k : Int} (h : pu_L Z D1 D2) : pu_ans pu_m01 Z D1 D2 (B_X10_patchOf Z p k D1) (B_X11_patchOf p k D2) := by
  have hL := h.z.a
  have hC := h.z.c
  have n0 := hL.p.n0
  have n8 := hL.p.n8
  have pc := hC.pc
  have w1 : mi_w (mi_st D2 40 0 0 0 40 0 11 - 1) = mi_st D2 40 0 0 0 40 0 11 - 1 := pu_w (by omega) (by omega)
  by_cases c : 0 ≤ p ∧ p < mi_st D2 40 0 0 0 40 0 11
  · have P := hL.p.pt p c.1 c.2
    have at0 := P.at0
    by_cases c2 : 0 ≤ k ∧ k ≤ 4
    · have ha : B_X10_patchOf Z p k D1 = B_X10_patchOf_29 Z p k 1 D1 := by
        unfold B_X10_patchOf
        rw [pc, pu_within, if_pos c, if_neg (by decide), if_pos (by omega), if_neg (by omega)]
      have hb : B_X11_patchOf p k D2 = B_X11_patchOf_42 p k 0 (mi_st D2 40 0 0 0) := by
        simp only [B_X11_patchOf, B_X11_patchOf_19, B_X11_isPatch, pu_letE, pu_in, pu_bdg10, pu_biE, w1]
        simp only [if_pos (show 0 ≤ p ∧ p ≤ mi_st D2 40 0 0 0 40 0 11 - 1 by omega), if_pos c2]
        simp
      rw [ha, hb]
      unfold B_X10_patchOf_29 B_X11_patchOf_42
      rw [if_pos (Or.inr rfl), if_pos (Or.inl rfl), pu_nE1, if_pos (show 0 ≤ p ∧ p < 8 by omega), pu_bdg21, if_pos rfl, if_pos rfl]
      have : k = 0 ∨ k = 1 ∨ k = 2 ∨ k = 3 ∨ k = 4 := by omega
      rcases this with rfl | rfl | rfl | rfl | rfl
      · obtain ⟨v, v1, v2, -⟩ := pu_height (p := p) hL
        refine pu_ans.rd h (v := v) ?_ ?_
        · rw [if_pos rfl, v1, pu_biE]
        · rw [if_neg (by decide), v2, pu_biE]
      · refine pu_ans.rd h (v := mi_st D2 40 0 0 0 47 0 p) ?_ ?_
        · rw [if_neg (by decide), if_pos rfl, if_pos at0, P.bits, pu_biE]
        · rw [if_pos (by decide), if_neg (by decide), if_pos (by omega)]
      · refine pu_ans.rd h (v := mi_st D2 40 0 0 0 48 0 p) ?_ ?_
        · rw [if_neg (by decide), if_neg (by decide), if_pos rfl, if_pos at0, P.al]
          rcases P.alb with e | e <;> rw [e] <;> rfl
        · rw [if_pos (by decide), if_pos (by decide), if_neg (by decide), if_pos (by omega)]
      · obtain ⟨v, v1, v2⟩ := pu_deeds P (by omega)
        refine pu_ans.rd h (v := v) ?_ ?_
        · rw [if_neg (by decide), if_neg (by decide), if_neg (by decide), if_pos rfl, if_pos at0, v1, pu_biE]
        · rw [if_pos (by decide), if_pos (by decide), if_pos (by decide), if_neg (by decide), v2, pu_biE]
      · refine pu_ans.rd h (v := mi_st D2 40 0 0 0 49 0 p) ?_ ?_
        · rw [if_neg (by decide), if_neg (by decide), if_neg (by decide), if_neg (by decide), if_pos rfl, hL.w.en p c.1 (by omega)]
        · rw [if_pos (by decide), if_pos (by decide), if_pos (by decide), if_pos (by decide), if_pos (by omega)]
    · refine pu_ans.e1 h 2 rfl (by decide) ?_ ?_
      · unfold B_X10_patchOf B_X10_patchOf_29
        rw [pc, pu_within, if_pos c, if_neg (by decide), if_pos (by omega), if_neg (by omega), if_pos (Or.inr rfl), pu_nE1, if_pos (show 0 ≤ p ∧ p < 8 by omega), if_neg (by omega), if_neg (by omega), if_neg (by omega), if_neg (by omega), if_neg (by omega), pu_nA]
      · simp only [B_X11_patchOf, B_X11_patchOf_19, B_X11_patchOf_42, B_X11_isPatch, pu_letE, pu_in, pu_bdg10, pu_bdg21, pu_biE, w1]
        simp only [if_pos (show 0 ≤ p ∧ p ≤ mi_st D2 40 0 0 0 40 0 11 - 1 by omega), if_neg c2]
        simp
  · refine pu_ans.e0 h rfl ?_ ?_
    · unfold B_X10_patchOf B_X10_patchOf_28 B_X10_patchOf_29
      rw [pc, pu_within, if_neg c, if_pos rfl, if_pos (Or.inl rfl), pu_nE]
    · simp only [B_X11_patchOf, B_X11_patchOf_19, B_X11_isPatch, pu_letE, pu_in, pu_bdg10, pu_biE, w1]
      simp only [if_neg (show ¬ (0 ≤ p ∧ p ≤ mi_st D2 40 0 0 0 40 0 11 - 1) by omega)]
      simp
