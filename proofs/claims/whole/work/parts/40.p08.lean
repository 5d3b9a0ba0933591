def pu_bt (D : MiD) (u k : Int) : MiD := fun q j i => if q = 4 ∧ k ≤ j ∧ j < 6 ∧ i = 8 then u else D q j i
def pu_btM (D : MiD) (u k : Int) : MiD := fun q j i => if q = 59 ∧ k ≤ j ∧ j < 6 ∧ i = 4 then u else D q j i
theorem pu_bt_s {D : MiD} {u k : Int} (h : k < 6) : pu_bt (mi_st D 4 k 8 u) u (k + 1) = pu_bt D u k := by
  funext q j i
  unfold pu_bt
  grind (splits := 20) [mi_st]
theorem pu_btM_s {D : MiD} {u k : Int} (h : k < 6) : pu_btM (mi_st D 59 k 4 u) u (k + 1) = pu_btM D u k := by
  funext q j i
  unfold pu_btM
  grind (splits := 20) [mi_st]
theorem pu_bt_6 {D : MiD} {u k : Int} (h : 6 ≤ k) : pu_bt D u k = D := by
  funext q j i
  unfold pu_bt
  rw [if_neg (by omega)]
theorem pu_btM_6 {D : MiD} {u k : Int} (h : 6 ≤ k) : pu_btM D u k = D := by
  funext q j i
  unfold pu_btM
  rw [if_neg (by omega)]
theorem pu_bt_l {v : Int} (hv : v = 0 ∨ v = 1) : ∀ (f : Nat) (k : Int) (D : MiD), 0 ≤ k → k ≤ 6 → 6 - k < f → B_X9_beginTurning_12 f 0 v k D = some (pu_bt D (1 - v) k)
  | 0, k, D, h1, h2, h3 => by omega
  | f + 1, k, D, h1, h2, h3 => by
    unfold B_X9_beginTurning_12
    by_cases c : 6 ≤ k
    · rw [if_pos c, pu_bt_6 c]
    · have ih := pu_bt_l hv f (k + 1) (mi_st D 4 k 8 (1 - v)) (by omega) (by omega) (by omega)
      rw [pu_bt_s (by omega)] at ih
      unfold B_X9_beginTurning_33
      rw [if_neg c, if_pos (show 0 ≤ k ∧ k < 6 by omega), show (6 * 0 + k : Int) = k by omega, if_pos (show 0 ≤ k ∧ k < 12 by omega), if_pos (show 0 ≤ k ∧ k < 12 by omega), if_pos (Or.inl rfl), if_pos (Or.inr rfl), pu_w (x := k + 1) (by omega) (by omega), pu_letE, pu_letE]
      rcases hv with rfl | rfl
      · rw [if_neg (fun z => z rfl)]; exact ih
      · rw [if_pos (by decide)]; exact ih
theorem pu_btM_l {v : Int} (hv : v = 0 ∨ v = 1) : ∀ (f : Nat) (k : Int) (D : MiD), 0 ≤ k → k ≤ 6 → 6 - k < f → B_X11_turns_16 f v k D = B_X11_looks (pu_btM D (1 - v) k)
  | 0, k, D, h1, h2, h3 => by omega
  | f + 1, k, D, h1, h2, h3 => by
    unfold B_X11_turns_16
    by_cases c : 6 ≤ k
    · rw [if_pos c, pu_btM_6 c]
      cases B_X11_looks D <;> rfl
    · have ih := pu_btM_l hv f (k + 1) (mi_st D 59 k 4 (1 - v)) (by omega) (by omega) (by omega)
      rw [pu_btM_s (by omega)] at ih
      rw [if_neg c, if_pos (show 0 ≤ k ∧ k < 7 by omega), pu_w (x := k + 1) (by omega) (by omega), pu_letE, pu_w (x := 1 - v) (by omega) (by omega)]
      exact ih
theorem pu_A.side2 {w : Int} {Z : MiZ} {D1 D2 E1 E2 : MiD} (hw : 0 ≤ w ∧ w < 2) (h : pu_A w Z D1 D2) (f1 : ∀ (q : Nat) (j i : Int), ¬ (q = 4 ∧ 6 * w ≤ j ∧ j < 6 * w + 6 ∧ i = 8) → ¬ (q = 2 ∧ j = w) → ¬ ((q = 15 ∨ q = 16) ∧ j = w) → ¬ ((q = 3 ∨ q = 17 ∨ q = 18) ∧ 60 * w ≤ j ∧ j < 60 * w + 60) → ¬ (q = 5 ∧ j = 7 * w) → E1 q j i = D1 q j i)
    (f2 : ∀ (q : Nat) (j i : Int), ¬ (q = 59 ∧ 0 ≤ j ∧ j < 6 ∧ i = 4) → ¬ ((q = 65 ∨ q = 49) ∧ j = 0) → ¬ (q = 64 ∧ j = 0) → ¬ (q = 52 ∨ q = 53 ∨ q = 55 ∨ q = 57) → ¬ (q = 40 ∧ j = 0 ∧ (i = 25 ∨ i = 26)) → ¬ (q = 59 ∧ j = 6 ∧ i = 2) → ¬ (q = 60 ∧ j = 0 ∧ i = 6) → E2 q j i = D2 q j i) (hD : pu_D w E1 E2) (g8 : ∀ s : Int, 0 ≤ s → s < 6 → E1 4 (6 * w + s) 8 = 0 ∨ E1 4 (6 * w + s) 8 = 1) (hW : pu_Wd w E1 E2) : pu_A w Z E1 E2 := by
  refine ⟨hD, h.p.kept ⟨fun q j i z => f1 q j i (by omega) (by omega) (by omega) (by omega) (by omega), fun q j i z => f2 q j i (by omega) (by omega) (by omega) (by omega) (by omega) (by omega) (by omega), f2 _ _ _ (by omega) (by omega) (by omega) (by omega) (by omega) (by omega) (by omega)⟩, fun s a b => ?_, hW⟩
  exact (h.t s a b).keep (fun i u => f1 _ _ _ (by omega) (by omega) (by omega) (by omega) (by omega)) (g8 s a b) (fun q i u => f1 _ _ _ (by omega) (by omega) (by omega) (by omega) (by omega)) (fun i => f1 _ _ _ (by omega) (by omega) (by omega) (by omega) (by omega)) (fun i u => f2 _ _ _ (by omega) (by omega) (by omega) (by omega) (by omega) (by omega) (by omega)) (f2 _ _ _ (by omega) (by omega) (by omega) (by omega) (by omega) (by omega) (by omega)) (fun j i => f2 _ _ _ (by omega) (by omega) (by omega) (by omega) (by omega) (by omega) (by omega)) (f2 _ _ _ (by omega) (by omega) (by omega) (by omega) (by omega) (by omega) (by omega)) (fun p => f2 _ _ _ (by omega) (by omega) (by omega) (by omega) (by omega) (by omega) (by omega))
theorem pu_ans.tl {mp : Nat → Int} {Z : MiZ} {D1 D2 E G : MiD} (h : pu_L Z D1 D2) (hA : pu_A 0 Z E G) (f1 : ∀ (q : Nat) (j i : Int), q = 0 ∨ q = 1 ∨ q = 10 → E q j i = D1 q j i) (f2 : ∀ (q : Nat) (j i : Int), q = 0 ∨ q = 41 ∨ q = 42 ∨ q = 47 ∨ q = 51 ∨ q = 40 ∧ i ≠ 25 ∧ i ≠ 26 → G q j i = mi_st D2 40 0 0 0 q j i) {v : Int} {a : Option ((Int × MiD) ⊕ (Nat × MiD))} {b : Option (Int × MiD)} (ha : a = some (.inl (v, E))) (hb : b = some (v, G)) : pu_ans mp Z D1 D2 a b := by
  have hC := h.z.c
  obtain ⟨c1, c2, c3, c4, c5, c6, c7, c8, c9⟩ := hC
  have p41 : ∀ i : Int, G 41 0 i = mi_st D2 40 0 0 0 41 0 i := fun i => f2 _ _ _ (by omega)
  have p42 : ∀ i : Int, G 42 0 i = mi_st D2 40 0 0 0 42 0 i := fun i => f2 _ _ _ (by omega)
  have p2 : G 40 0 2 = mi_st D2 40 0 0 0 40 0 2 := f2 _ _ _ (by omega)
  have p5 : G 40 0 5 = mi_st D2 40 0 0 0 40 0 5 := f2 _ _ _ (by omega)
  have p11 : G 40 0 11 = mi_st D2 40 0 0 0 40 0 11 := f2 _ _ _ (by omega)
  have q1 : ∀ i : Int, E 1 0 i = D1 1 0 i := fun i => f1 _ _ _ (by omega)
  have q10 : ∀ i : Int, E 10 0 i = D1 10 0 i := fun i => f1 _ _ _ (by omega)
  refine Or.inl ⟨v, E, G, ha, hb, (f2 _ _ _ (by omega)).trans pu_st_eq, ⟨hA, ⟨?_, ?_, ?_, ?_, ?_, ?_, ?_, ?_, fun i x y => ?_⟩, h.z.m.k fun q j i a => f2 q j i (by omega)⟩, fun i => f1 _ _ _ (by omega), fun i => (f2 _ _ _ (by omega)).trans (by rw [pu_st, if_neg (by omega)])⟩
  · rw [q1, p41]; exact c1
  · rw [q1, p41]; exact c2
  · rw [q1, p41]; exact c3
  · rw [q1, p11]; exact c4
  · rw [q1, p2]; exact c5
  · rw [p2]; exact c6
  · rw [p2]; exact c7
  · rw [q1, p5]; exact c8
  · rw [p2] at y
    rw [q10, p42]
    exact c9 i x y
theorem pu_turn {Z : MiZ} {D1 D2 : MiD} {p v : Int} (hv : v = 0 ∨ v = 1) (h : pu_A 0 Z D1 D2) (hn : 0 < D2 65 0 0) (hp : D2 64 0 (D2 65 0 0 - 1) = p) : pu_A 0 Z (pu_bt (mi_st (mi_st D1 2 0 8 p) 2 0 9 v) (1 - v) 0) (pu_btM (mi_st (mi_st D2 65 0 1 p) 65 0 2 v) (1 - v) 0) := by
  have W := h.w
  have hs := W.sk (D2 65 0 0 - 1) (by omega) (by omega)
  rw [hp] at hs
  generalize hE : pu_bt (mi_st (mi_st D1 2 0 8 p) 2 0 9 v) (1 - v) 0 = E
  generalize hG : pu_btM (mi_st (mi_st D2 65 0 1 p) 65 0 2 v) (1 - v) 0 = G
  have o1 : ∀ (q : Nat) (j i : Int), ¬ (q = 4 ∧ 0 ≤ j ∧ j < 6 ∧ i = 8) → ¬ (q = 2 ∧ j = 0 ∧ (i = 8 ∨ i = 9)) → E q j i = D1 q j i := fun q j i a b => by
    rw [← hE]; unfold pu_bt; rw [if_neg a, pu_st, if_neg (by omega), pu_st, if_neg (by omega)]
  have o2 : ∀ (q : Nat) (j i : Int), ¬ (q = 59 ∧ 0 ≤ j ∧ j < 6 ∧ i = 4) → ¬ (q = 65 ∧ j = 0 ∧ (i = 1 ∨ i = 2)) → G q j i = D2 q j i := fun q j i a b => by
    rw [← hG]; unfold pu_btM; rw [if_neg a, pu_st, if_neg (by omega), pu_st, if_neg (by omega)]
  have e8 : E 2 0 8 = p := by rw [← hE]; unfold pu_bt; rw [if_neg (by omega), pu_st, if_neg (by omega), pu_st_eq]
  have e9 : E 2 0 9 = v := by rw [← hE]; unfold pu_bt; rw [if_neg (by omega), pu_st_eq]
  have g1 : G 65 0 1 = p := by rw [← hG]; unfold pu_btM; rw [if_neg (by omega), pu_st, if_neg (by omega), pu_st_eq]
  have g2 : G 65 0 2 = v := by rw [← hG]; unfold pu_btM; rw [if_neg (by omega), pu_st_eq]
  have et : ∀ t : Int, 0 ≤ t → t < 6 → E 4 (6 * 0 + t) 8 = 1 - v := fun t a b => by rw [← hE]; unfold pu_bt; rw [if_pos ⟨rfl, by omega, by omega, rfl⟩]
  have gt : ∀ t : Int, 0 ≤ t → t < 6 → G 59 t 4 = 1 - v := fun t a b => by rw [← hG]; unfold pu_btM; rw [if_pos ⟨rfl, by omega, by omega, rfl⟩]
  refine h.side (by decide) (fun q j i a b c d e => o1 q j i (by omega) (by omega)) (fun q j i a b c d e f g => o2 q j i (by omega) (by omega)) (h.d.o (fun q j i z => o1 q j i (by omega) (by omega)) (fun q j i z => o2 q j i (by omega) (by omega))) (fun s a b => by rw [et s a b]; omega) ?_
  obtain ⟨b1, b2, b3, b4, b5, b6, b7, b8, b9, b10, b11, b12, b13, b14, b15, b16, b17, b18, b19, b20⟩ := W
  have p2 : ∀ i : Int, i ≠ 8 → i ≠ 9 → E 2 0 i = D1 2 0 i := fun i x y => o1 _ _ _ (by omega) (by omega)
  have p65 : ∀ i : Int, i ≠ 1 → i ≠ 2 → G 65 0 i = D2 65 0 i := fun i x y => o2 _ _ _ (by omega) (by omega)
  have p64 : ∀ i : Int, G 64 0 i = D2 64 0 i := fun i => o2 _ _ _ (by omega) (by omega)
  have p4 : G 40 0 11 = D2 40 0 11 := o2 _ _ _ (by omega) (by omega)
  have p5 : ∀ s : Int, G 59 s 5 = D2 59 s 5 := fun s => o2 _ _ _ (by omega) (by omega)
  have p6 : ∀ s : Int, E 15 0 s = D1 15 0 s := fun s => o1 _ _ _ (by omega) (by omega)
  have p7 : ∀ s : Int, E 16 0 s = D1 16 0 s := fun s => o1 _ _ _ (by omega) (by omega)
  have p8 : ∀ s : Int, G 49 0 s = D2 49 0 s := fun s => o2 _ _ _ (by omega) (by omega)
  refine ⟨?_, ?_, ?_, by rw [e8, g1], by omega, by omega, by omega, fun _ => by rw [e9, g2], fun z => by omega, fun s x y z => by rw [et s x y, gt s x y], fun s x y z => by omega, ?_, ?_, ?_, ?_, ?_, ?_, ?_, fun z => ?_, ?_⟩
  all_goals try (simp only [p2 7 (by decide) (by decide), p2 10 (by decide) (by decide), p2 11 (by decide) (by decide), p2 12 (by decide) (by decide), p2 13 (by decide) (by decide), p65 0 (by decide) (by decide), p65 3 (by decide) (by decide), p65 4 (by decide) (by decide), p65 5 (by decide) (by decide), p65 6 (by decide) (by decide), p65 7 (by decide) (by decide), p64, p4, p5, p6, p7, p8]; assumption)
  rw [g1, p64, p65 0 (by decide) (by decide)]
  exact ⟨hn, hp.symm⟩
theorem pu_disable {Z : MiZ} {D1 D2 : MiD} (h : pu_L Z D1 D2) : pu_ans pu_o2 Z D1 D2 (B_X10_disable Z D1) (B_X11_disable D2) := by
  have hL := h.z.a
  have W := hL.w
  have w0 := W.st0
  have w8 := W.st8
  have fE := pu_fuelE
  by_cases c : mi_st D2 40 0 0 0 65 0 1 = -1 ∧ 0 < mi_st D2 40 0 0 0 65 0 0
  · have hT := pu_turn (v := 0) (Or.inl rfl) hL c.2 rfl
    obtain ⟨E, G, k1, k2, k3, k4, k5⟩ := pu_settle (by decide) hT
    obtain ⟨z, z1, z2, -⟩ := pu_left (by decide) k3
    refine pu_ans.tl h (v := z) k3 (fun q j i x => ?_) (fun q j i x => ?_) ?_ ?_
    · rw [k4 q j i (by omega) (by omega) (by omega) (by omega) (by omega)]
      unfold pu_bt
      rw [if_neg (by omega), pu_st, if_neg (by omega), pu_st, if_neg (by omega)]
    · rw [k5 q j i (by omega) (by omega) (by omega) (by omega) (by omega) (by omega) (by omega)]
      unfold pu_btM
      rw [if_neg (by omega), pu_st, if_neg (by omega), pu_st (r := 65), if_neg (by omega)]
    · unfold B_X10_disable B_X10_disable_26 B_X10_disable_27 B_X9_turnOff B_X9_topmost B_X9_beginTurning
      rw [W.tn, W.st, if_neg (fun z => z c.1), if_neg (show ¬ mi_st D2 40 0 0 0 65 0 0 ≤ 0 by omega), if_pos (show (1 : Int) = 0 ∨ (1 : Int) = 1 from Or.inr rfl), pu_nS1, W.st, if_neg (show ¬ mi_st D2 40 0 0 0 65 0 0 ≤ 0 by omega), pu_w (x := mi_st D2 40 0 0 0 65 0 0 - 1) (by omega) (by omega), if_pos (show 0 ≤ mi_st D2 40 0 0 0 65 0 0 - 1 ∧ mi_st D2 40 0 0 0 65 0 0 - 1 < 8 by omega), pu_biE, pu_letE, pu_letE, pu_bt_l (Or.inl rfl) _ _ _ (by decide) (by decide) (by omega), pu_biE, (W.sk (mi_st D2 40 0 0 0 65 0 0 - 1) (by omega) (by omega)).1, k1, pu_biE, z1, pu_biE, pu_b2E]
    · unfold B_X11_disable B_X11_disable_25 B_X11_disable_30 B_X11_turns
      rw [pu_letE, if_neg (show ¬ mi_st D2 40 0 0 0 65 0 0 = 0 by omega), if_pos c.1, if_pos (show (0 : Int) = 0 ∨ (0 : Int) = 1 from Or.inl rfl), pu_bdg12, if_pos rfl, if_pos rfl, pu_w (x := mi_st D2 40 0 0 0 65 0 0 - 1) (by omega) (by omega), if_pos (show 0 ≤ mi_st D2 40 0 0 0 65 0 0 - 1 ∧ mi_st D2 40 0 0 0 65 0 0 - 1 < 8 by omega), pu_letE, pu_letE, pu_btM_l (Or.inl rfl) _ _ _ (by decide) (by decide) (by omega), k2, pu_biE, z2, pu_biE]
  · refine pu_ans.e2 h 1 rfl (by decide) ?_ ?_
    · unfold B_X10_disable B_X10_disable_26 B_X10_disable_27
      rw [W.tn, W.st, if_pos (show (0 : Int) = 0 ∨ (0 : Int) = 1 from Or.inl rfl), pu_nS]
      by_cases d : mi_st D2 40 0 0 0 65 0 1 = -1
      · rw [if_neg (fun z => z d), if_pos (show mi_st D2 40 0 0 0 65 0 0 ≤ 0 by omega)]
      · rw [if_pos d]
    · unfold B_X11_disable B_X11_disable_25
      have u : B_X11_disable_30 1 (mi_st D2 40 0 0 0) = some (0, pu_rf2 1 2 D2) := by
        unfold B_X11_disable_30
        rw [if_pos (Or.inr rfl), pu_bdg12, if_neg (by decide), if_neg (by decide)]
      rw [pu_letE, u]
      by_cases d : mi_st D2 40 0 0 0 65 0 0 = 0
      · rw [if_pos d]
      · rw [if_neg d, if_neg (fun z => c ⟨z, by omega⟩)]
theorem pu_rev {Z : MiZ} {D1 D2 : MiD} (h : pu_A 0 Z D1 D2) (hp : D2 65 0 1 ≠ -1) : pu_A 0 Z (mi_st D1 2 0 9 (1 - D2 65 0 2)) (mi_st D2 65 0 2 (1 - D2 65 0 2)) := by
  have W := h.w
  have onb := W.onb
  have on := W.on hp
  generalize hv : 1 - D2 65 0 2 = v
  generalize hE : mi_st D1 2 0 9 v = E
  generalize hG : mi_st D2 65 0 2 v = G
  have o1 : ∀ (q : Nat) (j i : Int), ¬ (q = 2 ∧ j = 0 ∧ i = 9) → E q j i = D1 q j i := fun q j i b => by
    rw [← hE, pu_st, if_neg (by omega)]
  have o2 : ∀ (q : Nat) (j i : Int), ¬ (q = 65 ∧ j = 0 ∧ i = 2) → G q j i = D2 q j i := fun q j i b => by
    rw [← hG, pu_st, if_neg (by omega)]
  have e9 : E 2 0 9 = v := by rw [← hE, pu_st_eq]
  have g2 : G 65 0 2 = v := by rw [← hG, pu_st_eq]
  have g1 : G 65 0 1 = D2 65 0 1 := o2 _ _ _ (by omega)
  refine h.side (by decide) (fun q j i a b c d e => o1 q j i (by omega)) (fun q j i a b c d e f g => o2 q j i (by omega)) (h.d.o (fun q j i z => o1 q j i (by omega)) (fun q j i z => o2 q j i (by omega))) (fun s a b => by rw [o1 _ _ _ (by omega)]; exact (h.t s a b).tu) ?_
  obtain ⟨b1, b2, b3, b4, b5, b6, b7, b8, b9, b10, b11, b12, b13, b14, b15, b16, b17, b18, b19, b20⟩ := W
  have p2 : ∀ i : Int, i ≠ 9 → E 2 0 i = D1 2 0 i := fun i y => o1 _ _ _ (by omega)
  have p65 : ∀ i : Int, i ≠ 2 → G 65 0 i = D2 65 0 i := fun i y => o2 _ _ _ (by omega)
  have p64 : ∀ i : Int, G 64 0 i = D2 64 0 i := fun i => o2 _ _ _ (by omega)
  have p4 : G 40 0 11 = D2 40 0 11 := o2 _ _ _ (by omega)
  have p5 : ∀ s i : Int, G 59 s i = D2 59 s i := fun s i => o2 _ _ _ (by omega)
  have p6 : ∀ s : Int, E 15 0 s = D1 15 0 s := fun s => o1 _ _ _ (by omega)
  have p7 : ∀ s : Int, E 16 0 s = D1 16 0 s := fun s => o1 _ _ _ (by omega)
  have p8 : ∀ s : Int, G 49 0 s = D2 49 0 s := fun s => o2 _ _ _ (by omega)
  have p9 : ∀ s : Int, E 4 s 8 = D1 4 s 8 := fun s => o1 _ _ _ (by omega)
  refine ⟨?_, ?_, ?_, ?_, ?_, ?_, by omega, fun _ => by rw [e9, g2], fun z => absurd (g1.symm.trans z) hp, ?_, ?_, ?_, ?_, ?_, ?_, ?_, ?_, ?_, ?_, ?_⟩
  all_goals (simp only [p2 7 (by decide), p2 8 (by decide), p2 10 (by decide), p2 11 (by decide), p2 12 (by decide), p2 13 (by decide), p65 0 (by decide), p65 1 (by decide), p65 3 (by decide), p65 4 (by decide), p65 5 (by decide), p65 6 (by decide), p65 7 (by decide), p64, p4, p5, p6, p7, p8, p9]; assumption)
theorem pu_reverse {Z : MiZ} {D1 D2 : MiD} (h : pu_L Z D1 D2) : pu_ans pu_o2 Z D1 D2 (B_X10_reverse Z D1) (B_X11_reverse D2) := by
  have hL := h.z.a
  have W := hL.w
  by_cases c : mi_st D2 40 0 0 0 65 0 1 = -1
  · refine pu_ans.e2 h 1 rfl (by decide) ?_ ?_
    · unfold B_X10_reverse B_X10_reverse_17
      rw [W.tn, if_pos c, if_pos (Or.inl rfl), pu_nS]
    · unfold B_X11_reverse B_X11_reverse_21
      rw [pu_letE, if_neg (fun z => z c), if_pos (show (1 : Int) = 0 ∨ (1 : Int) = 1 from Or.inr rfl), pu_bdg12, if_neg (show ¬ ((1 : Int) = 0) by decide), if_neg (show ¬ ((1 : Int) = 0) by decide)]
  · have onb := W.onb
    have on := W.on c
    have hT := pu_rev hL c
    obtain ⟨E, G, k1, k2, k3, k4, k5⟩ := pu_settle (by decide) hT
    obtain ⟨z, z1, z2, -⟩ := pu_left (by decide) k3
    refine pu_ans.tl h (v := z) k3 (fun q j i x => ?_) (fun q j i x => ?_) ?_ ?_
    · rw [k4 q j i (by omega) (by omega) (by omega) (by omega) (by omega), pu_st, if_neg (by omega)]
    · rw [k5 q j i (by omega) (by omega) (by omega) (by omega) (by omega) (by omega) (by omega), pu_st (r := 65), if_neg (by omega)]
    · have u : B_X10_reverse Z D1 = mi_b2 (B_X9_turnBack_13 Z 0 0 (1 - mi_st D2 40 0 0 0 65 0 2) D1) fun y3 D4 => some (.inl (y3, D4)) := by
        unfold B_X10_reverse B_X10_reverse_17 B_X9_turnBack
        rw [W.tn, if_neg c, if_pos (Or.inr rfl), pu_nS1]
        by_cases e : D1 2 0 9 = 0
        · rw [if_neg (fun z => z e), ← on, e]; rfl
        · rw [if_pos e, ← on, show D1 2 0 9 = 1 by omega]; rfl
      rw [u]
      unfold B_X9_turnBack_13
      rw [if_pos (by decide), if_pos (show 1 - mi_st D2 40 0 0 0 65 0 2 = 0 ∨ 1 - mi_st D2 40 0 0 0 65 0 2 = 1 by omega), pu_letE, k1, pu_biE, z1, pu_biE, pu_b2E]
    · unfold B_X11_reverse B_X11_reverse_21
      rw [pu_letE, if_pos c, if_pos (show (0 : Int) = 0 ∨ (0 : Int) = 1 from Or.inl rfl), pu_bdg12, if_pos rfl, if_pos rfl, pu_letE, pu_w (x := 1 - _) (by omega) (by omega), k2, pu_biE, z2, pu_biE]
theorem pu_incF {Z : MiZ} {D1 D2 : MiD} {t : Int} (ht : 0 ≤ t ∧ t < 6) (h : pu_A 0 Z D1 D2) : pu_A 0 Z (mi_st D1 4 (6 * 0 + t) 9 (mi_w (D1 4 (6 * 0 + t) 9 + 1))) (mi_st (mi_st D2 59 t 5 (mi_w (D2 59 t 5 + 1))) 65 0 5 (mi_w (D2 65 0 5 + 1))) := by
  have W := h.w
  generalize hE : mi_st D1 4 (6 * 0 + t) 9 (mi_w (D1 4 (6 * 0 + t) 9 + 1)) = E
  generalize hG : mi_st (mi_st D2 59 t 5 (mi_w (D2 59 t 5 + 1))) 65 0 5 (mi_w (D2 65 0 5 + 1)) = G
  have o1 : ∀ (q : Nat) (j i : Int), ¬ (q = 4 ∧ j = 6 * 0 + t ∧ i = 9) → E q j i = D1 q j i := fun q j i b => by
    rw [← hE, pu_st, if_neg (by omega)]
  have o2 : ∀ (q : Nat) (j i : Int), ¬ (q = 65 ∧ j = 0 ∧ i = 5) → ¬ (q = 59 ∧ j = t ∧ i = 5) → G q j i = D2 q j i := fun q j i a b => by
    rw [← hG, pu_st, if_neg (by omega), pu_st, if_neg (by omega)]
  have e9 : E 4 (6 * 0 + t) 9 = mi_w (D1 4 (6 * 0 + t) 9 + 1) := by rw [← hE, pu_st_eq]
  have g5 : G 59 t 5 = mi_w (D2 59 t 5 + 1) := by rw [← hG, pu_st, if_neg (by omega), pu_st_eq]
  have g65 : G 65 0 5 = mi_w (D2 65 0 5 + 1) := by rw [← hG, pu_st_eq]
  refine ⟨h.d.o (fun q j i z => o1 q j i (by omega)) (fun q j i z => o2 q j i (by omega) (by omega)), h.p.kept ⟨fun q j i z => o1 q j i (by omega), fun q j i z => o2 q j i (by omega) (by omega), o2 _ _ _ (by omega) (by omega)⟩, fun s a b => ?_, ?_⟩
  · obtain ⟨k1, k2, k3, k4, k5, k6, k7, k8, k9, k10, k12, k13, k14, k15, k16⟩ := h.t s a b
    have p4 : ∀ i : Int, i ≠ 9 → E 4 (6 * 0 + s) i = D1 4 (6 * 0 + s) i := fun i z => o1 _ _ _ (by omega)
    have p59 : ∀ i : Int, i ≠ 5 → G 59 s i = D2 59 s i := fun i z => o2 _ _ _ (by omega) (by omega)
    have p63 : ∀ j i : Int, G 63 j i = D2 63 j i := fun j i => o2 _ _ _ (by omega) (by omega)
    refine ⟨?_, ?_, ?_, ?_, ?_, ?_, ?_, ?_, ?_, ?_, ?_, ?_, ?_, fun e x y => ?_, ?_⟩
    all_goals try (simp only [p4 4 (by decide), p4 5 (by decide), p4 6 (by decide), p4 8 (by decide), p4 10 (by decide), p59 0 (by decide), p59 1 (by decide), p59 3 (by decide), p59 6 (by decide), p63]; assumption)
    · by_cases c : s = t
      · subst c
        rw [e9, g5, k10]
      · rw [o1 _ _ _ (by omega), o2 _ _ _ (by omega) (by omega)]; exact k10
    · unfold pu_v at k14 ⊢
      rw [o1 _ _ _ (by omega), o1 _ _ _ (by omega), o2 _ _ _ (by omega) (by omega), o2 _ _ _ (by omega) (by omega)]
      exact k14
    · rw [p59 0 (by decide)] at y
      exact (k15 e x y).kept (o1 _ _ _ (by omega)) (o1 _ _ _ (by omega)) (o1 _ _ _ (by omega)) (o1 _ _ _ (by omega)) (fun i => p63 _ _) (o2 _ _ _ (by omega) (by omega)) (fun p => o2 _ _ _ (by omega) (by omega))
  · obtain ⟨b1, b2, b3, b4, b5, b6, b7, b8, b9, b10, b11, b12, b13, b14, b15, b16, b17, b18, b19, b20⟩ := W
    have p2 : ∀ i : Int, E 2 0 i = D1 2 0 i := fun i => o1 _ _ _ (by omega)
    have p65 : ∀ i : Int, i ≠ 5 → G 65 0 i = D2 65 0 i := fun i y => o2 _ _ _ (by omega) (by omega)
    have p64 : ∀ i : Int, G 64 0 i = D2 64 0 i := fun i => o2 _ _ _ (by omega) (by omega)
    have p4 : G 40 0 11 = D2 40 0 11 := o2 _ _ _ (by omega) (by omega)
    have p5 : ∀ s : Int, G 59 s 4 = D2 59 s 4 := fun s => o2 _ _ _ (by omega) (by omega)
    have p6 : ∀ s : Int, E 15 0 s = D1 15 0 s := fun s => o1 _ _ _ (by omega)
    have p7 : ∀ s : Int, E 16 0 s = D1 16 0 s := fun s => o1 _ _ _ (by omega)
    have p8 : ∀ s : Int, G 49 0 s = D2 49 0 s := fun s => o2 _ _ _ (by omega) (by omega)
    have p9 : ∀ s : Int, E 4 s 8 = D1 4 s 8 := fun s => o1 _ _ _ (by omega)
    refine ⟨?_, ?_, ?_, ?_, ?_, ?_, ?_, ?_, ?_, ?_, ?_, ?_, ?_, ?_, ?_, ?_, ?_, ?_, ?_, ?_⟩
    all_goals try (simp only [p2, p65 0 (by decide), p65 1 (by decide), p65 2 (by decide), p65 3 (by decide), p65 4 (by decide), p65 6 (by decide), p65 7 (by decide), p64, p4, p5, p6, p7, p8, p9]; assumption)
    · have q : ∀ s : Int, s ≠ t → G 59 s 5 = D2 59 s 5 := fun s z => o2 _ _ _ (by omega) (by omega)
      rw [g65, b16]
      have : t = 0 ∨ t = 1 ∨ t = 2 ∨ t = 3 ∨ t = 4 ∨ t = 5 := by omega
      rcases this with rfl | rfl | rfl | rfl | rfl | rfl
      · rw [g5, q 1 (by decide), q 2 (by decide), q 3 (by decide), q 4 (by decide), q 5 (by decide)]; simp only [pu_wE]; omega
      · rw [g5, q 0 (by decide), q 2 (by decide), q 3 (by decide), q 4 (by decide), q 5 (by decide)]; simp only [pu_wE]; omega
      · rw [g5, q 0 (by decide), q 1 (by decide), q 3 (by decide), q 4 (by decide), q 5 (by decide)]; simp only [pu_wE]; omega
      · rw [g5, q 0 (by decide), q 1 (by decide), q 2 (by decide), q 4 (by decide), q 5 (by decide)]; simp only [pu_wE]; omega
      · rw [g5, q 0 (by decide), q 1 (by decide), q 2 (by decide), q 3 (by decide), q 5 (by decide)]; simp only [pu_wE]; omega
      · rw [g5, q 0 (by decide), q 1 (by decide), q 2 (by decide), q 3 (by decide), q 4 (by decide)]; simp only [pu_wE]; omega
theorem pu_st_id {D : MiD} {r : Nat} {j i v : Int} (h : D r j i = v) : mi_st D r j i v = D := by
  funext r' j' i'
  rw [pu_st]
  split
  · rename_i z
    obtain ⟨rfl, rfl, rfl⟩ := z
    exact h.symm
  · rfl
theorem pu_settle6 {Z : MiZ} {D1 D2 : MiD} (h : pu_A 0 Z D1 D2) (hp : D2 65 0 1 ≠ -1) (hl : ∀ s : Int, 0 ≤ s → s < 6 → D2 59 s 4 = D2 65 0 2) : ∀ (f : Nat) (t : Int), 0 ≤ t → t ≤ 6 → 6 - t < f → ∃ g : Nat, B_X9_settle_11 Z f 0 t D1 = B_X9_settle_11 Z (g + 1) 0 6 D1
  | 0, t, h1, h2, h3 => by omega
  | f + 1, t, h1, h2, h3 => by
    by_cases c : t = 6
    · subst c; exact ⟨f, rfl⟩
    · obtain ⟨g, hg⟩ := pu_settle6 h hp hl f (t + 1) (by omega) (by omega) (by omega)
      obtain ⟨z, z1, -⟩ := pu_hind (t := t) (by decide) ⟨h1, by omega⟩ h hp
      refine ⟨g, ?_⟩
      rw [← hg]
      conv => lhs; unfold B_X9_settle_11
      have W := h.w
      have e : D1 4 (6 * 0 + t) 8 = D1 2 0 9 := by rw [W.tu t h1 (by omega) hp, W.on hp]; exact hl t h1 (by omega)
      rw [if_neg (show ¬ 6 ≤ t by omega), z1, pu_biE, if_pos (show 0 ≤ t ∧ t < 6 by omega), if_pos W.onb, pu_letE, pu_st_id e, pu_w (x := t + 1) (by omega) (by omega)]
      split <;> rfl
theorem pu_force_l {Z : MiZ} : ∀ (f : Nat) (b t : Int) (D1 D2 : MiD), pu_A 0 Z D1 D2 → D2 65 0 1 ≠ -1 → (∀ s : Int, 0 ≤ s → s < t → D2 59 s 4 = D2 65 0 2) → 0 ≤ t → t ≤ 6 → 6 - t < f →
    ∃ v E G, B_X9_forceAll_4 Z f 0 b t D1 = some (v, E) ∧ B_X11_force_35 f b t D2 = some (v, G) ∧ pu_A 0 Z E G ∧ (∀ (q : Nat) (j i : Int), q = 0 ∨ q = 1 ∨ q = 10 → E q j i = D1 q j i) ∧ (∀ (q : Nat) (j i : Int), q = 0 ∨ q = 41 ∨ q = 42 ∨ q = 47 ∨ q = 51 ∨ q = 40 ∧ i ≠ 25 ∧ i ≠ 26 → G q j i = D2 q j i)
  | 0, b, t, D1, D2, h, hp, hl, h1, h2, h3 => by omega
  | f + 1, b, t, D1, D2, h, hp, hl, h1, h2, h3 => by
    have W := h.w
    unfold B_X9_forceAll_4 B_X11_force_35
    by_cases c : 6 ≤ t
    · have hl' : ∀ s : Int, 0 ≤ s → s < 6 → D2 59 s 4 = D2 65 0 2 := fun s a d => hl s a (by omega)
      obtain ⟨g, hg⟩ := pu_settle6 h hp hl' mi_fuel 0 (by decide) (by decide) (by have := pu_fuelE; omega)
      obtain ⟨E, G, k1, k2, k3, k4, k5⟩ := pu_over g (by decide) h hp hl'
      have es : B_X9_settle Z 0 D1 = some E := by
        unfold B_X9_settle
        rw [W.tn, if_pos hp, hg, k1]
      rw [if_pos c, if_pos c, es, k2, pu_biE, pu_biE]
      exact ⟨b, E, G, rfl, rfl, k3, fun q j i z => k4 q j i (by omega) (by omega) (by omega) (by omega) (by omega), fun q j i z => k5 q j i (by omega) (by omega) (by omega) (by omega) (by omega) (by omega) (by omega)⟩
    · have e1 : mi_w (t + 1) = t + 1 := pu_w (by omega) (by omega)
      have tu := W.tu t h1 (by omega) hp
      rw [if_neg c, if_neg c, if_pos (show 0 ≤ t ∧ t < 7 by omega), e1]
      unfold B_X9_hasTurned B_X9_hasTurned_24
      rw [W.tn, if_neg hp, if_pos (show 0 ≤ t ∧ t < 6 by omega), tu, W.on hp]
      by_cases e : D2 59 t 4 = D2 65 0 2
      · rw [if_neg (fun z => z e), if_neg (fun z => z e), pu_biE, if_pos (by decide)]
        exact pu_force_l f b (t + 1) D1 D2 h hp (fun s x y => by
          by_cases d : s = t
          · subst d; exact e
          · exact hl s x (by omega)) (by omega) (by omega) (by omega)
      · have hS := pu_incF ⟨h1, by omega⟩ (pu_setT (by decide) ⟨h1, by omega⟩ h hp)
        rw [if_pos e, if_pos e, pu_biE, if_neg (show ¬ ((0 : Int) ≠ 0) by decide), pu_letE, if_pos (show 0 ≤ t ∧ t < 6 by omega), pu_letE, pu_letE, pu_letE, pu_letE, pu_letE, pu_letE]
        rw [← W.on hp]
        rw [← W.on hp] at e
        have x1 : mi_st (mi_st D2 59 t 4 (D1 2 0 9)) 59 t 5 (mi_w (mi_st D2 59 t 4 (D1 2 0 9) 59 t 5 + 1)) 65 0 5 = mi_st D2 59 t 4 (D1 2 0 9) 65 0 5 := by rw [pu_st, if_neg (by omega)]
        rw [← W.on hp] at hS
        rw [x1]
        obtain ⟨v, E, G, k1, k2, k3, k4, k5⟩ := pu_force_l f (mi_or b (mi_shl 1 t)) (t + 1) _ _ hS (by rw [pu_st, if_neg (by omega), pu_st, if_neg (by omega), pu_st, if_neg (by omega)]; exact hp) (fun s x y => by
          rw [pu_st, if_neg (by omega), pu_st, if_neg (by omega), pu_st (r' := 65), if_neg (by omega), pu_st (r' := 65), if_neg (by omega), pu_st (r' := 65), if_neg (by omega), pu_st]
          by_cases d : s = t
          · rw [if_pos (by omega)]; exact W.on hp
          · rw [if_neg (by omega)]; exact hl s x (by omega)) (by omega) (by omega) (by omega)
        refine ⟨v, E, G, by rw [if_pos W.onb]; exact k1, k2, k3, fun q j i z => (k4 q j i z).trans ?_, fun q j i z => (k5 q j i z).trans ?_⟩
        · rw [pu_st, if_neg (by omega), pu_st, if_neg (by omega)]
        · rw [pu_st, if_neg (by omega), pu_st, if_neg (by omega), pu_st, if_neg (by omega)]
theorem pu_force {Z : MiZ} {D1 D2 : MiD} (h : pu_L Z D1 D2) : pu_ans pu_o2 Z D1 D2 (B_X10_force Z D1) (B_X11_force D2) := by
  have hL := h.z.a
  have W := hL.w
  by_cases c : mi_st D2 40 0 0 0 65 0 1 = -1
  · refine pu_ans.e2 h 1 rfl (by decide) ?_ ?_
    · unfold B_X10_force B_X10_force_17
      rw [W.tn, if_pos c, if_pos (Or.inl rfl), pu_nS]
    · unfold B_X11_force B_X11_force_21
      rw [pu_letE, if_neg (fun z => z c), if_pos (show (1 : Int) = 0 ∨ (1 : Int) = 1 from Or.inr rfl), pu_bdg12, if_neg (show ¬ ((1 : Int) = 0) by decide), if_neg (show ¬ ((1 : Int) = 0) by decide)]
  · obtain ⟨v, E, G, k1, k2, k3, k4, k5⟩ := pu_force_l mi_fuel 0 0 _ _ hL c (fun s x y => by omega) (by decide) (by decide) (by have := pu_fuelE; omega)
    refine pu_ans.tl h (v := v) k3 k4 k5 ?_ ?_
    · unfold B_X10_force B_X10_force_17 B_X9_forceAll
      rw [W.tn, if_neg c, if_pos (Or.inr rfl), pu_nS1, k1, pu_b2E]
    · unfold B_X11_force B_X11_force_21
      rw [pu_letE, if_pos c, if_pos (show (0 : Int) = 0 ∨ (0 : Int) = 1 from Or.inl rfl), pu_bdg12, if_pos rfl, if_pos rfl, k2]
theorem pu_pig : ∀ (m n : Nat) (g : Int → Int), (∀ s : Int, 0 ≤ s → s < n → 0 ≤ g s ∧ g s < m) → (∀ s s' : Int, 0 ≤ s → s < s' → s' < n → g s ≠ g s') → n ≤ m
  | 0, n, g, hb, hi => by
    by_cases c : n = 0
    · omega
    · have := hb 0 (by decide) (by omega)
      omega
  | m + 1, n, g, hb, hi => by
    by_cases c : ∃ s : Int, 0 ≤ s ∧ s < n ∧ g s = m
    · obtain ⟨s, s1, s2, s3⟩ := c
      have := pu_pig m (n - 1) (fun i => if i = s then g (n - 1) else g i) (fun i a b => by
        show 0 ≤ (if i = s then g (n - 1) else g i) ∧ (if i = s then g (n - 1) else g i) < m
        by_cases d : i = s
        · rw [if_pos d]
          have := hb (n - 1) (by omega) (by omega)
          have := hi s (n - 1) s1 (by omega) (by omega)
          omega
        · rw [if_neg d]
          have := hb i a (by omega)
          by_cases e : i < s
          · have := hi i s a e s2
            omega
          · have := hi s i s1 (by omega) (by omega)
            omega) (fun i i' a b e => by
        show (if i = s then g (n - 1) else g i) ≠ (if i' = s then g (n - 1) else g i')
        by_cases d : i = s
        · rw [if_pos d, if_neg (by omega)]
          exact (hi i' (n - 1) (by omega) (by omega) (by omega)).symm
        · rw [if_neg d]
          by_cases d' : i' = s
          · rw [if_pos d']
            exact hi i (n - 1) a (by omega) (by omega)
          · rw [if_neg d']
            exact hi i i' a b (by omega))
      omega
    · have := pu_pig m n g (fun i a b => by
        have := hb i a b
        have : g i ≠ m := fun z => c ⟨i, a, b, z⟩
        omega) hi
      omega
