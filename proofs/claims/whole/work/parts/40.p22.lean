def pu_W0 (Z : MiZ) (r : Nat) (w k : Int) : MiZ := (mi_st (pu_gZ Z r).1 2 w k (Z.2 r), (pu_gZ Z r).2)
theorem pu_W01 {Z : MiZ} {r q : Nat} {w k x j i : Int} (h : Z.2 r = x) : (pu_W0 Z r w k).1 q j i = if q = 2 ∧ j = w ∧ i = k then x else if q = r ∧ j = x then -1 else Z.1 q j i := by
  show mi_st (pu_gZ Z r).1 2 w k (Z.2 r) q j i = _
  unfold mi_st pu_gZ
  rw [h]
theorem pu_W02 {Z : MiZ} {r q : Nat} {w k x : Int} (h : Z.2 r = x) : (pu_W0 Z r w k).2 q = if q = r then x + 1 else Z.2 q := by
  show (if q = r then Z.2 r + 1 else Z.2 q) = _
  rw [h]
theorem pu_ihd {w q4 : Int} (hw : 0 ≤ w) : B_X9_init w (pu_gD (pu_DF (w - 1) 12 60 6) 2 w 14) (pu_gZ (pu_ZZ (w - 1) 12 60 6 q4) 2) = B_X9_init_74 mi_fuel w 0 (pu_DF w 0 0 0) (pu_ZZ w 0 0 0 q4) := by
  have ec : ∀ q : Nat, (pu_gZ (pu_ZZ (w - 1) 12 60 6 q4) 2).2 q = if q = 2 then w + 1 else pu_ZN (w - 1) 12 60 6 q := fun q => by
    show (if q = 2 then (w - 1 + 1) + 1 else pu_ZN (w - 1) 12 60 6 q) = _
    rw [show w - 1 + 1 + 1 = w + 1 by omega]
  have ez : ∀ (q : Nat) (j i : Int), (pu_gZ (pu_ZZ (w - 1) 12 60 6 q4) 2).1 q j i = if q = 2 ∧ j = w then -1 else pu_ZF (w - 1) 12 60 6 q4 q j i := fun q j i => by
    show (if q = 2 ∧ j = w - 1 + 1 then (-1 : Int) else pu_ZF (w - 1) 12 60 6 q4 q j i) = _
    rw [show w - 1 + 1 = w by omega]
  generalize pu_gZ (pu_ZZ (w - 1) 12 60 6 q4) 2 = Z0 at *
  have n11 : Z0.2 11 = w := by rw [ec, if_neg (by decide)]; show w - 1 + 1 = w; omega
  unfold B_X9_init B_X8_init
  have g : ∀ (Zk : MiZ) (r : Nat) (k : Int), (mi_st (pu_gZ Zk r).1 2 w k (Zk.2 r), (pu_gZ Zk r).2) = pu_W0 Zk r w k := fun _ _ _ => rfl
  rw [if_pos (by omega), pu_nlE, show (((12 : Nat) : Nat) : Int) = 12 from rfl, pu_gDE (by decide), pu_letE, g]
  have f1 := fun (q : Nat) => pu_W02 (Z := Z0) (r := 11) (q := q) (w := w) (k := 0) n11
  have h1 := fun (q : Nat) (j i : Int) => pu_W01 (Z := Z0) (r := 11) (q := q) (w := w) (k := 0) (j := j) (i := i) n11
  generalize pu_W0 Z0 11 w 0 = Z1 at *
  have n12 : Z1.2 12 = w := by rw [f1, if_neg (by decide), ec, if_neg (by decide)]; show w - 1 + 1 = w; omega
  rw [if_pos (by omega), pu_nlE, show (((8 : Nat) : Nat) : Int) = 8 from rfl, pu_gDE (by decide), pu_letE, g]
  have f2 := fun (q : Nat) => pu_W02 (Z := Z1) (r := 12) (q := q) (w := w) (k := 1) n12
  have h2 := fun (q : Nat) (j i : Int) => pu_W01 (Z := Z1) (r := 12) (q := q) (w := w) (k := 1) (j := j) (i := i) n12
  generalize pu_W0 Z1 12 w 1 = Z2 at *
  have n13 : Z2.2 13 = w := by rw [f2, if_neg (by decide), f1, if_neg (by decide), ec, if_neg (by decide)]; show w - 1 + 1 = w; omega
  rw [if_pos (by omega), pu_nlE, show (((60 : Nat) : Nat) : Int) = 60 from rfl, pu_gDE (by decide), pu_letE, g]
  have f3 := fun (q : Nat) => pu_W02 (Z := Z2) (r := 13) (q := q) (w := w) (k := 2) n13
  have h3 := fun (q : Nat) (j i : Int) => pu_W01 (Z := Z2) (r := 13) (q := q) (w := w) (k := 2) (j := j) (i := i) n13
  generalize pu_W0 Z2 13 w 2 = Z3 at *
  have n14 : Z3.2 14 = w := by rw [f3, if_neg (by decide), f2, if_neg (by decide), f1, if_neg (by decide), ec, if_neg (by decide)]; show w - 1 + 1 = w; omega
  rw [if_pos (by omega), pu_nlE, show (((6 : Nat) : Nat) : Int) = 6 from rfl, pu_gDE (by decide), pu_letE, g]
  have f4 := fun (q : Nat) => pu_W02 (Z := Z3) (r := 14) (q := q) (w := w) (k := 3) n14
  have h4 := fun (q : Nat) (j i : Int) => pu_W01 (Z := Z3) (r := 14) (q := q) (w := w) (k := 3) (j := j) (i := i) n14
  generalize pu_W0 Z3 14 w 3 = Z4 at *
  have n15 : Z4.2 15 = w := by rw [f4, if_neg (by decide), f3, if_neg (by decide), f2, if_neg (by decide), f1, if_neg (by decide), ec, if_neg (by decide)]; show w - 1 + 1 = w; omega
  rw [if_pos (by omega), pu_nlE, show (((8 : Nat) : Nat) : Int) = 8 from rfl, pu_gDE (by decide), pu_letE, g]
  have f5 := fun (q : Nat) => pu_W02 (Z := Z4) (r := 15) (q := q) (w := w) (k := 4) n15
  have h5 := fun (q : Nat) (j i : Int) => pu_W01 (Z := Z4) (r := 15) (q := q) (w := w) (k := 4) (j := j) (i := i) n15
  generalize pu_W0 Z4 15 w 4 = Z5 at *
  have n16 : Z5.2 16 = w := by rw [f5, if_neg (by decide), f4, if_neg (by decide), f3, if_neg (by decide), f2, if_neg (by decide), f1, if_neg (by decide), ec, if_neg (by decide)]; show w - 1 + 1 = w; omega
  rw [if_pos (by omega), pu_nlE, show (((8 : Nat) : Nat) : Int) = 8 from rfl, pu_gDE (by decide), pu_letE, g]
  have f6 := fun (q : Nat) => pu_W02 (Z := Z5) (r := 16) (q := q) (w := w) (k := 5) n16
  have h6 := fun (q : Nat) (j i : Int) => pu_W01 (Z := Z5) (r := 16) (q := q) (w := w) (k := 5) (j := j) (i := i) n16
  generalize pu_W0 Z5 16 w 5 = Z6 at *
  have n5 : Z6.2 5 = 7 * w := by rw [f6, if_neg (by decide), f5, if_neg (by decide), f4, if_neg (by decide), f3, if_neg (by decide), f2, if_neg (by decide), f1, if_neg (by decide), ec, if_neg (by decide)]; show 7 * (w - 1) + 1 + 6 = 7 * w; omega
  rw [if_pos (by omega), pu_nlE, show (((2 : Nat) : Nat) : Int) = 2 from rfl, pu_gDE (by decide), pu_letE, pu_bwE, pu_letE, g, pu_letE]
  have f7 := fun (q : Nat) => pu_W02 (Z := Z6) (r := 5) (q := q) (w := w) (k := 6) n5
  have h7 := fun (q : Nat) (j i : Int) => pu_W01 (Z := Z6) (r := 5) (q := q) (w := w) (k := 6) (j := j) (i := i) n5
  generalize pu_W0 Z6 5 w 6 = Z7 at *
  rw [n11, n12, n13, n14, n15, n16, n5]
  congr 1
  · funext q j i
    clear f1 f2 f3 f4 f5 f6 f7 h1 h2 h3 h4 h5 h6 h7 n11 n12 n13 n14 n15 n16 n5 ec ez
    unfold pu_gD mi_st pu_DF
    grind (splits := 60)
  · refine Prod.ext ?_ ?_
    · funext q j i
      show Z7.1 q j i = pu_ZF w 0 0 0 q4 q j i
      rw [h7, h6, h5, h4, h3, h2, h1, ez]
      clear f1 f2 f3 f4 f5 f6 f7 h1 h2 h3 h4 h5 h6 h7 n11 n12 n13 n14 n15 n16 n5 ec ez
      unfold pu_ZF
      grind (splits := 80)
    · funext q
      show Z7.2 q = pu_ZN w 0 0 0 q
      rw [f7, f6, f5, f4, f3, f2, f1, ec]
      clear f1 f2 f3 f4 f5 f6 f7 h1 h2 h3 h4 h5 h6 h7 n11 n12 n13 n14 n15 n16 n5 ec ez
      unfold pu_ZN
      grind (splits := 80)
theorem pu_w74 {w q4 : Int} (hw : 0 ≤ w) : ∀ (n : Nat) (f : Nat) (a : Int), 0 ≤ a → a + n = 12 → B_X9_init_74 (f + n) w a (pu_DF w a 0 0) (pu_ZZ w a 0 0 q4) = B_X9_init_74 f w 12 (pu_DF w 12 0 0) (pu_ZZ w 12 0 0 q4)
  | 0, f, a, h1, h2 => by rw [show a = 12 by omega]; rfl
  | n + 1, f, a, h1, h2 => by
    rw [show f + (n + 1) = (f + n) + 1 by omega, pu_i74 hw ⟨h1, by omega⟩]
    exact pu_w74 hw n f (a + 1) (by omega) (by omega)
theorem pu_w101 {w q4 : Int} (hw : 0 ≤ w) : ∀ (n : Nat) (f : Nat) (a : Int), 0 ≤ a → a + n = 60 → B_X9_init_101 (f + n) w a (pu_DF w 12 a 0) (pu_ZZ w 12 a 0 q4) = B_X9_init_101 f w 60 (pu_DF w 12 60 0) (pu_ZZ w 12 60 0 q4)
  | 0, f, a, h1, h2 => by rw [show a = 60 by omega]; rfl
  | n + 1, f, a, h1, h2 => by
    rw [show f + (n + 1) = (f + n) + 1 by omega, pu_i101 hw ⟨h1, by omega⟩]
    exact pu_w101 hw n f (a + 1) (by omega) (by omega)
theorem pu_w131 {w q4 : Int} (hw : 0 ≤ w) : ∀ (n : Nat) (f : Nat) (a : Int), 0 ≤ a → a + n = 6 → B_X9_init_131 (f + n) w a (pu_DF w 12 60 a) (pu_ZZ w 12 60 a q4) = B_X9_init_131 f w 6 (pu_DF w 12 60 6) (pu_ZZ w 12 60 6 q4)
  | 0, f, a, h1, h2 => by rw [show a = 6 by omega]; rfl
  | n + 1, f, a, h1, h2 => by
    rw [show f + (n + 1) = (f + n) + 1 by omega, pu_i131 hw ⟨h1, by omega⟩]
    exact pu_w131 hw n f (a + 1) (by omega) (by omega)
theorem pu_world {w q4 : Int} (hw : 0 ≤ w) : B_X9_init w (pu_gD (pu_DF (w - 1) 12 60 6) 2 w 14) (pu_gZ (pu_ZZ (w - 1) 12 60 6 q4) 2) = some (pu_DF w 12 60 6, pu_ZZ w 12 60 6 q4) := by
  have l2 : (pu_ZZ w 12 60 0 q4).1 2 w 2 = w := by
    show pu_ZF w 12 60 0 q4 2 w 2 = w
    unfold pu_ZF
    simp [hw]
  have l2' : (pu_ZZ w 12 0 0 q4).1 2 w 2 = w := by
    show pu_ZF w 12 0 0 q4 2 w 2 = w
    unfold pu_ZF
    simp [hw]
  have a1 : B_X9_init_74 mi_fuel w 0 (pu_DF w 0 0 0) (pu_ZZ w 0 0 0 q4) = B_X9_init_74 (3987 + 1) w 12 (pu_DF w 12 0 0) (pu_ZZ w 12 0 0 q4) := pu_w74 hw 12 3988 0 (by decide) (by decide)
  have a2 : B_X9_init_101 mi_fuel w 0 (pu_DF w 12 0 0) (pu_ZZ w 12 0 0 q4) = B_X9_init_101 (3939 + 1) w 60 (pu_DF w 12 60 0) (pu_ZZ w 12 60 0 q4) := pu_w101 hw 60 3940 0 (by decide) (by decide)
  have a3 : B_X9_init_131 mi_fuel w 0 (pu_DF w 12 60 0) (pu_ZZ w 12 60 0 q4) = B_X9_init_131 (3993 + 1) w 6 (pu_DF w 12 60 6) (pu_ZZ w 12 60 6 q4) := pu_w131 hw 6 3994 0 (by decide) (by decide)
  rw [pu_ihd hw, a1]
  unfold B_X9_init_74
  rw [if_pos (by decide), a2]
  unfold B_X9_init_101
  rw [l2, if_pos hw, if_pos (by decide), a3]
  unfold B_X9_init_131
  rw [if_pos (by decide)]
def pu_Z1 : MiZ := (mi_st (pu_ZF 1 12 60 6 0) 1 0 5 1, pu_ZN 1 12 60 6)
theorem pu_init1 : B_X10_init (mi_nw mi_i0 1 9).1 (mi_nw mi_i0 1 9).2 = some (pu_DF 1 12 60 6, pu_Z1) := by
  have z10 : (pu_gZ mi_i0.2 1).2 10 = 0 := rfl
  have e0 : mi_nw mi_i0 1 9 = (pu_gD mi_i0.1 1 0 9, pu_gZ mi_i0.2 1) := pu_gDE (D := mi_i0.1) (Z := mi_i0.2) (by decide)
  rw [e0]
  unfold B_X10_init
  rw [z10, if_pos (by decide), pu_nlE, show (((500 : Nat) : Nat) : Int) = 500 from rfl, pu_gDE (by decide), pu_letE, pu_letE, z10]
  have hD : mi_st (pu_gD (pu_gD mi_i0.1 1 0 9) 10 0 500) 1 0 2 (-1) = pu_DF (0 - 1) 12 60 6 := by
    funext q j i
    unfold mi_i0
    unfold mi_st pu_gD pu_DF
    grind (splits := 40)
  have hZ : ((mi_st (pu_gZ (pu_gZ mi_i0.2 1) 10).1 1 0 0 0, (pu_gZ (pu_gZ mi_i0.2 1) 10).2) : MiZ) = pu_ZZ (0 - 1) 12 60 6 (-1) := by
    refine Prod.ext ?_ ?_
    · funext q j i
      have s1 : mi_sn 1 = 0 := rfl
      have s10 : mi_sn 10 = 0 := rfl
      show mi_st (pu_gZ (pu_gZ mi_i0.2 1) 10).1 1 0 0 0 q j i = pu_ZF (0 - 1) 12 60 6 (-1) q j i
      unfold mi_i0
      unfold mi_st pu_gZ pu_ZF
      grind (splits := 60)
    · funext q
      show (pu_gZ (pu_gZ mi_i0.2 1) 10).2 q = pu_ZN (0 - 1) 12 60 6 q
      unfold mi_i0
      unfold pu_gZ pu_ZN mi_sn
      grind (splits := 60)
  rw [hD, hZ]
  have n2 : (pu_ZZ (0 - 1) 12 60 6 (-1)).2 2 = 0 := rfl
  rw [n2, if_pos (by decide), pu_nlE, show (((14 : Nat) : Nat) : Int) = 14 from rfl, pu_gDE (by decide), n2, pu_world (by decide), pu_bwE, pu_letE]
  have hZ' : ((mi_st (pu_ZZ 0 12 60 6 (-1)).1 1 0 4 0, (pu_ZZ 0 12 60 6 (-1)).2) : MiZ) = pu_ZZ (1 - 1) 12 60 6 0 := by
    refine Prod.ext ?_ rfl
    funext q j i
    show mi_st (pu_ZF 0 12 60 6 (-1)) 1 0 4 0 q j i = pu_ZF (1 - 1) 12 60 6 0 q j i
    unfold mi_st pu_ZF
    grind (splits := 40)
  have n2' : (pu_ZZ (1 - 1) 12 60 6 0).2 2 = 1 := rfl
  rw [hZ', n2', if_pos (by decide), pu_nlE, show (((14 : Nat) : Nat) : Int) = 14 from rfl, pu_gDE (by decide), n2', show pu_DF 0 12 60 6 = pu_DF (1 - 1) 12 60 6 from rfl, pu_world (by decide), pu_bwE, pu_letE]
  rfl
theorem pu_Z1o {q : Nat} {j i : Int} (h : ¬ (q = 1 ∧ j = 0 ∧ i = 5)) : pu_Z1.1 q j i = pu_ZF 1 12 60 6 0 q j i := by
  show mi_st (pu_ZF 1 12 60 6 0) 1 0 5 1 q j i = _
  rw [pu_st, if_neg h]
theorem pu_Z1cl : CL pu_Z1 := by
  have e : ∀ (q : Nat) (j i : Int), q ≠ 1 → pu_Z1.1 q j i = pu_ZF 1 12 60 6 0 q j i := fun q j i h => pu_Z1o (by omega)
  refine ⟨⟨?_, ?_, ?_⟩, fun x k a b c => ?_, fun x a b => ?_, fun x k a b c d => ?_, fun x k a b c => ?_, fun x a b => ?_, fun x i a b c d => ?_, fun x i a b c d => ?_⟩
  · rw [pu_Z1o (by omega)]; rfl
  · rw [pu_Z1o (by omega)]; rfl
  · show mi_st (pu_ZF 1 12 60 6 0) 1 0 5 1 1 0 ((5 : Nat) : Int) = 1
    rw [show (((5 : Nat) : Nat) : Int) = 5 from rfl, pu_st_eq]
  · rw [e _ _ _ (by decide)]; unfold pu_ZF; simp; omega
  · rw [e _ _ _ (by decide)]; unfold pu_ZF; simp; omega
  · rw [e _ _ _ (by decide)]; unfold pu_ZF; simp; omega
  · rw [e _ _ _ (by decide)]; unfold pu_ZF; simp; omega
  · rw [e _ _ _ (by decide)]; unfold pu_ZF; simp; omega
  · rw [e _ _ _ (by decide)]; unfold pu_ZF; simp; omega
  · rw [e _ _ _ (by decide)]; unfold pu_ZF; simp; omega
theorem pu_Z1zb : pu_ZB pu_Z1 := by
  have e : ∀ (q : Nat) (j i : Int), q ≠ 1 → pu_Z1.1 q j i = pu_ZF 1 12 60 6 0 q j i := fun q j i h => pu_Z1o (by omega)
  have n6 : pu_Z1.2 6 = 24 := rfl
  have n7 : pu_Z1.2 7 = 0 := rfl
  have n8 : pu_Z1.2 8 = 0 := rfl
  have n23 : pu_Z1.2 23 = 24 := rfl
  have n24 : pu_Z1.2 24 = 0 := rfl
  refine ⟨fun c a b => ?_, fun a i p1 p2 p3 p4 => ?_, fun f p1 p2 => ?_, fun f p1 p2 => ?_, fun P p1 p2 => ?_, fun a f p1 p2 p3 p4 => ?_⟩
  · rw [n6] at b
    rw [n23, e _ _ _ (by decide)]; unfold pu_ZF; simp; omega
  · rw [n23] at p2
    rw [n7, e _ _ _ (by decide)]; unfold pu_ZF; simp; omega
  · rw [n6, e _ _ _ (by decide)]; unfold pu_ZF; simp; omega
  · rw [n8, e _ _ _ (by decide)]; unfold pu_ZF; simp; 
  · rw [n8] at p2; omega
  · rw [n24] at p2; omega
theorem pu_rkF : ∀ r ∈ List.range 25, r ≠ 0 → mi_rk r < 9 := by decide +kernel
theorem pu_rkS : ∀ r ∈ [26, 27, 28, 29, 30, 31, 32, 33], 9 ≤ mi_rk r := by decide +kernel
theorem pu_sn0 {r : Nat} (h : mi_rk r < 9) : mi_sn r ≤ 0 := by
  have k := fun r hr => pu_rkS r hr
  unfold mi_sn
  by_cases c : r ∈ [26, 27, 28, 29, 30, 31, 32, 33]
  · have := k r c; omega
  · simp only [List.mem_cons, List.not_mem_nil, or_false, not_or] at c
    simp [c.1, c.2.1, c.2.2.1, c.2.2.2.1, c.2.2.2.2.1, c.2.2.2.2.2.1, c.2.2.2.2.2.2.1, c.2.2.2.2.2.2.2]
theorem pu_Z1cw : mi_cw mi_s1 pu_Z1 := by
  have e : ∀ r : Nat, ¬ (1 ≤ r ∧ r ≤ 24) → pu_Z1.2 r = mi_sn r := fun r h => by
    show pu_ZN 1 12 60 6 r = _
    unfold pu_ZN
    rw [if_neg (by omega), if_neg (by omega), if_neg (by omega), if_neg (by omega), if_neg (by omega), if_neg (by omega)]
  refine ⟨fun r a b => ?_, fun r a => ?_⟩
  · rw [e r (by unfold mi_s1 at a; simpa using a)]
    exact pu_sn0 b
  · refine e r (fun z => ?_)
    have := pu_rkF r (List.mem_range.mpr (by omega)) (by omega)
    omega
