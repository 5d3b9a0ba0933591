theorem pu_Fr.kept {w t e : Int} {D1 D2 E1 E2 : MiD} (h : pu_Fr w D1 D2 t e) (g1 : E1 19 (6 * w + t) e = D1 19 (6 * w + t) e) (g2 : E1 20 (6 * w + t) e = D1 20 (6 * w + t) e) (g3 : E1 21 (6 * w + t) e = D1 21 (6 * w + t) e) (g4 : E1 22 (6 * w + t) e = D1 22 (6 * w + t) e) (k : ∀ i : Int, E2 63 (10 * t + e) i = D2 63 (10 * t + e) i) (k1 : E2 40 0 11 = D2 40 0 11) (k2 : ∀ p : Int, E2 47 0 p = D2 47 0 p) : pu_Fr w E1 E2 t e := by
  refine ⟨?_, ?_, ?_, ?_, ?_, ?_, fun z => ?_, ?_, ?_, ?_, ?_⟩
  · rw [g1, k]; exact h.f
  · rw [k]; exact h.f0
  · rw [k]; exact h.f1
  · rw [g2, k]; exact h.p
  · rw [k]; exact h.p0
  · rw [k, k1]; exact h.p1
  · rw [k] at z; rw [k, k, k2]; exact h.h z
  · rw [g3, k]; exact h.a
  · rw [k]; exact h.a0
  · rw [k]; exact h.a1
  · rw [g4, k]; exact h.b
theorem pu_Fr.to {w t e : Int} {D1 D2 E1 E2 : MiD} (h : pu_Fr w D1 D2 t e) (g1 : E1 19 (6 * w + t) e = D1 19 (6 * w + t) e) (g2 : E1 20 (6 * w + t) e = D1 20 (6 * w + t) e) (g3 : E1 21 (6 * w + t) e = E2 63 (10 * t + e) 2) (g4 : E1 22 (6 * w + t) e = E2 63 (10 * t + e) 3) (k0 : E2 63 (10 * t + e) 0 = D2 63 (10 * t + e) 0) (k3 : E2 63 (10 * t + e) 1 = D2 63 (10 * t + e) 1) (k4 : 0 ≤ E2 63 (10 * t + e) 2 ∧ E2 63 (10 * t + e) 2 ≤ 24) (k1 : E2 40 0 11 = D2 40 0 11) (k2 : ∀ p : Int, E2 47 0 p = D2 47 0 p) : pu_Fr w E1 E2 t e := by
  refine ⟨?_, ?_, ?_, ?_, ?_, ?_, fun z => ?_, g3, k4.1, k4.2, g4⟩
  · rw [g1, k0]; exact h.f
  · rw [k0]; exact h.f0
  · rw [k0]; exact h.f1
  · rw [g2, k3]; exact h.p
  · rw [k3]; exact h.p0
  · rw [k3, k1]; exact h.p1
  · rw [k3] at z; rw [k3, k0, k2]; exact h.h z
def pu_mid (w t : Int) (D1 D2 E G : MiD) (z : Int) : Prop := (pu_a1 w t D1 E) ∧ (pu_a2 t D2 G) ∧ (pu_D w E G) ∧ (pu_Tk w (mi_st E 4 (6 * w + t) 6 z) G t) ∧ (z = G 59 t 1) ∧ (E 4 (6 * w + t) 8 = D1 4 (6 * w + t) 8) ∧ (G 59 t 4 = D2 59 t 4) ∧ (G 59 t 5 = D2 59 t 5) ∧ (E 2 w 12 = D1 2 w 12) ∧ (G 65 0 6 = D2 65 0 6)
theorem pu_mid.f1 {w t : Int} {D1 D2 E G : MiD} {z : Int} (h : pu_mid w t D1 D2 E G z) : pu_a1 w t D1 E := h.1
theorem pu_mid.f2 {w t : Int} {D1 D2 E G : MiD} {z : Int} (h : pu_mid w t D1 D2 E G z) : pu_a2 t D2 G := h.2.1
theorem pu_mid.d {w t : Int} {D1 D2 E G : MiD} {z : Int} (h : pu_mid w t D1 D2 E G z) : pu_D w E G := h.2.2.1
theorem pu_mid.k {w t : Int} {D1 D2 E G : MiD} {z : Int} (h : pu_mid w t D1 D2 E G z) : pu_Tk w (mi_st E 4 (6 * w + t) 6 z) G t := h.2.2.2.1
theorem pu_mid.z {w t : Int} {D1 D2 E G : MiD} {z : Int} (h : pu_mid w t D1 D2 E G z) : z = G 59 t 1 := h.2.2.2.2.1
theorem pu_mid.e1 {w t : Int} {D1 D2 E G : MiD} {z : Int} (h : pu_mid w t D1 D2 E G z) : E 4 (6 * w + t) 8 = D1 4 (6 * w + t) 8 := h.2.2.2.2.2.1
theorem pu_mid.e2 {w t : Int} {D1 D2 E G : MiD} {z : Int} (h : pu_mid w t D1 D2 E G z) : G 59 t 4 = D2 59 t 4 := h.2.2.2.2.2.2.1
theorem pu_mid.e3 {w t : Int} {D1 D2 E G : MiD} {z : Int} (h : pu_mid w t D1 D2 E G z) : G 59 t 5 = D2 59 t 5 := h.2.2.2.2.2.2.2.1
theorem pu_mid.e4 {w t : Int} {D1 D2 E G : MiD} {z : Int} (h : pu_mid w t D1 D2 E G z) : E 2 w 12 = D1 2 w 12 := h.2.2.2.2.2.2.2.2.1
theorem pu_mid.e5 {w t : Int} {D1 D2 E G : MiD} {z : Int} (h : pu_mid w t D1 D2 E G z) : G 65 0 6 = D2 65 0 6 := h.2.2.2.2.2.2.2.2.2
def pu_acP (w t : Int) (Z : MiZ) (D1 D2 E : MiD) (b : Int × MiD) : Prop := (pu_A w Z E b.2) ∧ (b.1 = b.2 59 t 1) ∧ (pu_a1 w t D1 E) ∧ (pu_a2 t D2 b.2) ∧ (E 4 (6 * w + t) 8 = D1 4 (6 * w + t) 8) ∧ (b.2 59 t 4 = D2 59 t 4)
theorem pu_acP.a {w t : Int} {Z : MiZ} {D1 D2 E : MiD} {b : Int × MiD} (h : pu_acP w t Z D1 D2 E b) : pu_A w Z E b.2 := h.1
theorem pu_acP.r {w t : Int} {Z : MiZ} {D1 D2 E : MiD} {b : Int × MiD} (h : pu_acP w t Z D1 D2 E b) : b.1 = b.2 59 t 1 := h.2.1
theorem pu_acP.f1 {w t : Int} {Z : MiZ} {D1 D2 E : MiD} {b : Int × MiD} (h : pu_acP w t Z D1 D2 E b) : pu_a1 w t D1 E := h.2.2.1
theorem pu_acP.f2 {w t : Int} {Z : MiZ} {D1 D2 E : MiD} {b : Int × MiD} (h : pu_acP w t Z D1 D2 E b) : pu_a2 t D2 b.2 := h.2.2.2.1
theorem pu_acP.e1 {w t : Int} {Z : MiZ} {D1 D2 E : MiD} {b : Int × MiD} (h : pu_acP w t Z D1 D2 E b) : E 4 (6 * w + t) 8 = D1 4 (6 * w + t) 8 := h.2.2.2.2.1
theorem pu_acP.e2 {w t : Int} {Z : MiZ} {D1 D2 E : MiD} {b : Int × MiD} (h : pu_acP w t Z D1 D2 E b) : b.2 59 t 4 = D2 59 t 4 := h.2.2.2.2.2
theorem pu_Tk.o {w t : Int} {D1 D2 E1 E2 : MiD} (h : pu_Tk w D1 D2 t) (g : ∀ (q : Nat) (j i : Int), q ≠ 2 → E1 q j i = D1 q j i) (k : ∀ (q : Nat) (j i : Int), q ≠ 65 → E2 q j i = D2 q j i) : pu_Tk w E1 E2 t := by
  obtain ⟨a1, a2, a3, a4, a5, a6, a7, a8, a9, a10, a11, a12, a13, a14, a15⟩ := h
  refine ⟨?_, ?_, ?_, ?_, ?_, ?_, ?_, ?_, ?_, ?_, ?_, ?_, ?_, fun e x y => ?_, fun z => ?_⟩
  all_goals try (simp only [g 4 _ _ (by decide), k 59 _ _ (by decide)]; assumption)
  · unfold pu_v at a13 ⊢
    simp only [g 5 _ _ (by decide), k 59 _ _ (by decide), k 60 _ _ (by decide)]
    exact a13
  · rw [k 59 _ _ (by decide)] at y
    exact (a14 e x y).kept (g _ _ _ (by decide)) (g _ _ _ (by decide)) (g _ _ _ (by decide)) (g _ _ _ (by decide)) (fun i => k _ _ _ (by decide)) (k _ _ _ (by decide)) (fun p => k _ _ _ (by decide))
  · simp only [k 59 _ _ (by decide), k 63 _ _ (by decide)] at z ⊢
    exact a15 z
theorem pu_mid.fin {w t z : Int} {Z : MiZ} {D1 D2 E G : MiD} (hw : 0 ≤ w ∧ w < 2) (ht : 0 ≤ t ∧ t < 6) (h : pu_A w Z D1 D2) (m : pu_mid w t D1 D2 E G z) :
    ∃ F b, (mi_let (mi_st E 4 (6 * w + t) 6 z) fun D8 => if (D8 4 (6 * w + t) 6) = 0 then (some D8) else (mi_let (mi_st D8 2 w 12 (mi_w ((D8 2 w 12) + 1))) fun D10 => some D10)) = some F ∧ B_X11_goesOn_326 t G = some b ∧ pu_acP w t Z D1 D2 F b := by
  have tr0 := m.k.tr0
  have hz := m.z
  have W := h.w
  simp only [mi_let, pu_st_eq]
  unfold B_X11_goesOn_326
  rw [if_pos (show 0 ≤ t ∧ t < 7 by omega)]
  have o1 : ∀ i : Int, mi_st E 4 (6 * w + t) 6 z 2 w i = E 2 w i := fun i => by rw [pu_st, if_neg (by omega)]
  have F1 : pu_a1 w t D1 (mi_st E 4 (6 * w + t) 6 z) := fun q j i z1 z2 z3 z4 => by
    rw [pu_st, if_neg (by omega)]; exact m.f1 q j i z1 z2 z3 z4
  have hD : pu_D w (mi_st E 4 (6 * w + t) 6 z) G := m.d.o (fun q j i y => by rw [pu_st, if_neg (by omega)]) (fun _ _ _ _ => rfl)
  have g8 : mi_st E 4 (6 * w + t) 6 z 4 (6 * w + t) 8 = D1 4 (6 * w + t) 8 := by rw [pu_st, if_neg (by omega)]; exact m.e1
  by_cases c : z = 0
  · rw [if_pos c, if_pos (by omega)]
    exact ⟨_, _, rfl, rfl, ⟨h.act hw ht F1 m.f2 hD m.k g8 m.e2 m.e3 (by rw [o1]; exact m.e4.trans (W.tp.trans m.e5.symm)), rfl, F1, m.f2, g8, m.e2⟩⟩
  · rw [if_neg c, if_neg (by omega)]
    simp only [mi_let]
    rw [o1]
    have o2 : ∀ (q : Nat) (j i : Int), q ≠ 2 → mi_st (mi_st E 4 (6 * w + t) 6 z) 2 w 12 (mi_w (E 2 w 12 + 1)) q j i = mi_st E 4 (6 * w + t) 6 z q j i := fun q j i y => by rw [pu_st, if_neg (by omega)]
    have o3 : ∀ (q : Nat) (j i : Int), q ≠ 65 → mi_st G 65 0 6 (mi_w (G 65 0 6 + 1)) q j i = G q j i := fun q j i y => by rw [pu_st, if_neg (by omega)]
    have F1' : pu_a1 w t D1 (mi_st (mi_st E 4 (6 * w + t) 6 z) 2 w 12 (mi_w (E 2 w 12 + 1))) := fun q j i z1 z2 z3 z4 => by
      rw [pu_st, if_neg (by omega)]; exact F1 q j i z1 z2 z3 z4
    have F2' : pu_a2 t D2 (mi_st G 65 0 6 (mi_w (G 65 0 6 + 1))) := fun q j i z1 z2 z3 z4 z5 z6 => by
      rw [pu_st, if_neg (by omega)]; exact m.f2 q j i z1 z2 z3 z4 z5 z6
    have E4 : mi_st (mi_st E 4 (6 * w + t) 6 z) 2 w 12 (mi_w (E 2 w 12 + 1)) 2 w 12 = mi_st G 65 0 6 (mi_w (G 65 0 6 + 1)) 65 0 6 := by rw [pu_st_eq, pu_st_eq, m.e4, m.e5, W.tp]
    refine ⟨_, _, rfl, rfl, ⟨h.act hw ht F1' F2' (hD.o (fun q j i y => o2 q j i (by omega)) (fun q j i y => o3 q j i (by omega))) (m.k.o o2 o3) (by rw [o2 _ _ _ (by decide)]; exact g8) (by rw [o3 _ _ _ (by decide)]; exact m.e2) (by rw [o3 _ _ _ (by decide)]; exact m.e3) E4, rfl, F1', F2', by rw [o2 _ _ _ (by decide)]; exact g8, by rw [o3 _ _ _ (by decide)]; exact m.e2⟩⟩
theorem pu_mkT {w t z : Int} {E G : MiD} (a1 : E 4 (6 * w + t) 4 = G 59 t 0) (a2 : 0 ≤ G 59 t 0 ∧ G 59 t 0 ≤ 10) (a3 : E 4 (6 * w + t) 5 = G 59 t 3) (a4 : 0 ≤ G 59 t 3 ∧ G 59 t 3 < 100) (a5 : z = G 59 t 1 ∧ 0 ≤ z ∧ z ≤ 3) (a6 : E 4 (6 * w + t) 9 = G 59 t 5) (a7 : E 4 (6 * w + t) 10 = G 59 t 6) (a8 : E 4 (6 * w + t) 8 = 0 ∨ E 4 (6 * w + t) 8 = 1) (a9 : pu_v E (6 * w + t + 1 + (6 * w + t) / 6) G t) (a10 : ∀ e : Int, 0 ≤ e → e < G 59 t 0 → pu_Fr w E G t e) (a11 : 0 < G 59 t 3 → z = 0 ∧ 0 < G 59 t 0 ∧ G 63 (10 * t + (G 59 t 0 - 1)) 2 ≤ 23) : pu_Tk w (mi_st E 4 (6 * w + t) 6 z) G t := by
  have o : ∀ (q : Nat) (j i : Int), ¬ (q = 4 ∧ i = 6) → mi_st E 4 (6 * w + t) 6 z q j i = E q j i := fun q j i y => by rw [pu_st, if_neg (by omega)]
  refine ⟨?_, a2.1, a2.2, ?_, a4.1, a4.2, ?_, by omega, by omega, ?_, ?_, ?_, ?_, fun e x y => ?_, fun y => ?_⟩
  · rw [o _ _ _ (by decide)]; exact a1
  · rw [o _ _ _ (by decide)]; exact a3
  · rw [pu_st_eq]; exact a5.1
  · rw [o _ _ _ (by decide)]; exact a6
  · rw [o _ _ _ (by decide)]; exact a7
  · rw [o _ _ _ (by decide)]; exact a8
  · unfold pu_v at a9 ⊢
    rw [o _ _ _ (by decide), o _ _ _ (by decide)]
    exact a9
  · exact (a10 e x y).kept (o _ _ _ (by omega)) (o _ _ _ (by omega)) (o _ _ _ (by omega)) (o _ _ _ (by omega)) (fun _ => rfl) rfl (fun _ => rfl)
  · rw [← a5.1]; exact a11 y
def pu_c1 (w t : Int) (D : MiD) : MiD := mi_st D 4 (6 * w + t) 10 (mi_w (D 4 (6 * w + t) 10 + 1))
def pu_c2 (t : Int) (D : MiD) : MiD := mi_st (mi_st D 59 t 6 (mi_w (D 59 t 6 + 1))) 59 t 1 0
theorem pu_c1_o {w t : Int} {D : MiD} {q : Nat} {j i : Int} (h : ¬ (q = 4 ∧ j = 6 * w + t ∧ i = 10)) : pu_c1 w t D q j i = D q j i := by unfold pu_c1; rw [pu_st, if_neg h]
theorem pu_c1_c {w t : Int} {D : MiD} : pu_c1 w t D 4 (6 * w + t) 10 = mi_w (D 4 (6 * w + t) 10 + 1) := by unfold pu_c1; rw [pu_st_eq]
theorem pu_c2_o {t : Int} {D : MiD} {q : Nat} {j i : Int} (h : ¬ (q = 59 ∧ j = t ∧ (i = 1 ∨ i = 6))) : pu_c2 t D q j i = D q j i := by unfold pu_c2; rw [pu_st, if_neg (by omega), pu_st, if_neg (by omega)]
theorem pu_c2_6 {t : Int} {D : MiD} : pu_c2 t D 59 t 6 = mi_w (D 59 t 6 + 1) := by unfold pu_c2; rw [pu_st, if_neg (by omega), pu_st_eq]
theorem pu_c2_1 {t : Int} {D : MiD} : pu_c2 t D 59 t 1 = 0 := by unfold pu_c2; rw [pu_st_eq]
theorem pu_midS {w t n r a b z : Int} {Z : MiZ} {D1 D2 E G : MiD} (hw : 0 ≤ w ∧ w < 2) (ht : 0 ≤ t ∧ t < 6) (h : pu_A w Z D1 D2) (h0 : 0 < D2 59 t 0)
    (hE : ∀ (q : Nat) (j i : Int), E q j i = if q = 4 ∧ j = 6 * w + t ∧ i = 4 then n else if q = 4 ∧ j = 6 * w + t ∧ i = 5 then r else if q = 21 ∧ j = 6 * w + t ∧ i = D2 59 t 0 - 1 then a else if q = 22 ∧ j = 6 * w + t ∧ i = D2 59 t 0 - 1 then b else pu_c1 w t D1 q j i)
    (hG : ∀ (q : Nat) (j i : Int), G q j i = if q = 59 ∧ j = t ∧ i = 0 then n else if q = 59 ∧ j = t ∧ i = 3 then r else if q = 59 ∧ j = t ∧ i = 1 then z else if q = 63 ∧ j = 10 * t + (D2 59 t 0 - 1) ∧ i = 2 then a else if q = 63 ∧ j = 10 * t + (D2 59 t 0 - 1) ∧ i = 3 then b else pu_c2 t D2 q j i)
    (hn : 0 ≤ n ∧ n ≤ D2 59 t 0) (hr : 0 ≤ r ∧ r < 100) (ha : 0 ≤ a ∧ a ≤ 24) (hz : 0 ≤ z ∧ z ≤ 3) (hrs : 0 < r → z = 0 ∧ n = D2 59 t 0 ∧ a ≤ 23) : pu_mid w t D1 D2 E G z := by
  have K := h.t t ht.1 ht.2
  have h10 := K.fr1
  have e59 : ∀ i : Int, i ≠ 0 → i ≠ 3 → i ≠ 1 → G 59 t i = pu_c2 t D2 59 t i := fun i x y z => by rw [hG, if_neg (by omega), if_neg (by omega), if_neg (by omega), if_neg (by omega), if_neg (by omega)]
  have e4 : ∀ i : Int, i ≠ 4 → i ≠ 5 → E 4 (6 * w + t) i = pu_c1 w t D1 4 (6 * w + t) i := fun i x y => by rw [hE, if_neg (by omega), if_neg (by omega), if_neg (by omega), if_neg (by omega)]
  have g0 : G 59 t 0 = n := by rw [hG, if_pos ⟨rfl, rfl, rfl⟩]
  have g3 : G 59 t 3 = r := by rw [hG, if_neg (by omega), if_pos ⟨rfl, rfl, rfl⟩]
  have g1 : G 59 t 1 = z := by rw [hG, if_neg (by omega), if_neg (by omega), if_pos ⟨rfl, rfl, rfl⟩]
  have eo : ∀ (q : Nat) (j i : Int), q ≠ 4 → q ≠ 21 → q ≠ 22 → E q j i = D1 q j i := fun q j i x y z => by rw [hE, if_neg (by omega), if_neg (by omega), if_neg (by omega), if_neg (by omega), pu_c1_o (by omega)]
  have go : ∀ (q : Nat) (j i : Int), q ≠ 59 → q ≠ 63 → G q j i = D2 q j i := fun q j i x y => by rw [hG, if_neg (by omega), if_neg (by omega), if_neg (by omega), if_neg (by omega), if_neg (by omega), pu_c2_o (by omega)]
  refine ⟨fun q j i z1 z2 z3 z4 => ?_, fun q j i z1 z2 z3 z4 z5 z6 => ?_, h.d.o (fun q j i y => eo q j i (by omega) (by omega) (by omega)) (fun q j i y => go q j i (by omega) (by omega)), pu_mkT ?_ ?_ ?_ ?_ ?_ ?_ ?_ ?_ ?_ (fun e x y => ?_) (fun y => ?_), g1.symm, ?_, ?_, ?_, ?_, ?_⟩
  · rw [hE, if_neg (by omega), if_neg (by omega), if_neg (by omega), if_neg (by omega), pu_c1_o (by omega)]
  · rw [hG, if_neg (by omega), if_neg (by omega), if_neg (by omega), if_neg (by omega), if_neg (by omega), pu_c2_o (by omega)]
  · rw [g0, hE, if_pos ⟨rfl, rfl, rfl⟩]
  · rw [g0]; omega
  · rw [g3, hE, if_neg (by omega), if_pos ⟨rfl, rfl, rfl⟩]
  · rw [g3]; exact hr
  · rw [g1]; omega
  · rw [e4 9 (by decide) (by decide), e59 5 (by decide) (by decide) (by decide), pu_c1_o (by omega), pu_c2_o (by omega)]; exact K.fo
  · rw [e4 10 (by decide) (by decide), e59 6 (by decide) (by decide) (by decide), pu_c1_c, pu_c2_6, K.de]
  · rw [e4 8 (by decide) (by decide), pu_c1_o (by omega)]; exact K.tu
  · have := K.v
    unfold pu_v at this ⊢
    rw [eo _ _ _ (by decide) (by decide) (by decide), eo _ _ _ (by decide) (by decide) (by decide), go 60 _ _ (by decide) (by decide), e59 2 (by decide) (by decide) (by decide), pu_c2_o (by omega)]
    exact this
  · rw [g0] at y
    have f := K.f e x (by omega)
    have k1 : G 40 0 11 = D2 40 0 11 := go _ _ _ (by decide) (by decide)
    have k2 : ∀ p : Int, G 47 0 p = D2 47 0 p := fun p => go _ _ _ (by decide) (by decide)
    by_cases c : e = D2 59 t 0 - 1
    · subst c
      have m2 : G 63 (10 * t + (D2 59 t 0 - 1)) 2 = a := by rw [hG, if_neg (by omega), if_neg (by omega), if_neg (by omega), if_pos ⟨rfl, rfl, rfl⟩]
      have m3 : G 63 (10 * t + (D2 59 t 0 - 1)) 3 = b := by rw [hG, if_neg (by omega), if_neg (by omega), if_neg (by omega), if_neg (by omega), if_pos ⟨rfl, rfl, rfl⟩]
      have mo : ∀ i : Int, i ≠ 2 → i ≠ 3 → G 63 (10 * t + (D2 59 t 0 - 1)) i = D2 63 (10 * t + (D2 59 t 0 - 1)) i := fun i p q => by rw [hG, if_neg (by omega), if_neg (by omega), if_neg (by omega), if_neg (by omega), if_neg (by omega), pu_c2_o (by omega)]
      refine f.to (eo _ _ _ (by decide) (by decide) (by decide)) (eo _ _ _ (by decide) (by decide) (by decide)) ?_ ?_ (mo 0 (by decide) (by decide)) (mo 1 (by decide) (by decide)) (by rw [m2]; exact ha) k1 k2
      · rw [m2, hE, if_neg (by omega), if_neg (by omega), if_pos ⟨rfl, rfl, rfl⟩]
      · rw [m3, hE, if_neg (by omega), if_neg (by omega), if_neg (by omega), if_pos ⟨rfl, rfl, rfl⟩]
    · refine f.kept (eo _ _ _ (by decide) (by decide) (by decide)) (eo _ _ _ (by decide) (by decide) (by decide)) ?_ ?_ (fun i => ?_) k1 k2
      · rw [hE, if_neg (by omega), if_neg (by omega), if_neg (by omega), if_neg (by omega), pu_c1_o (by omega)]
      · rw [hE, if_neg (by omega), if_neg (by omega), if_neg (by omega), if_neg (by omega), pu_c1_o (by omega)]
      · rw [hG, if_neg (by omega), if_neg (by omega), if_neg (by omega), if_neg (by omega), if_neg (by omega), pu_c2_o (by omega)]
  · rw [g3] at y
    obtain ⟨y1, y2, y3⟩ := hrs y
    rw [g0, y2]
    refine ⟨y1, h0, ?_⟩
    rw [hG, if_neg (by omega), if_neg (by omega), if_neg (by omega), if_pos ⟨rfl, rfl, rfl⟩]
    exact y3
  · rw [e4 8 (by decide) (by decide), pu_c1_o (by omega)]
  · rw [e59 4 (by decide) (by decide) (by decide), pu_c2_o (by omega)]
  · rw [e59 5 (by decide) (by decide) (by decide), pu_c2_o (by omega)]
  · exact eo _ _ _ (by decide) (by decide) (by decide)
  · exact go _ _ _ (by decide) (by decide)
theorem pu_restS {w t r a : Int} {Z : MiZ} {D1 D2 E G : MiD} (hw : 0 ≤ w ∧ w < 2) (ht : 0 ≤ t ∧ t < 6) (h : pu_A w Z D1 D2) (h0 : 0 < D2 59 t 0) (h1 : D2 59 t 1 = 0)
    (hE : ∀ (q : Nat) (j i : Int), E q j i = if q = 4 ∧ j = 6 * w + t ∧ i = 5 then r else if q = 21 ∧ j = 6 * w + t ∧ i = D2 59 t 0 - 1 then a else D1 q j i)
    (hG : ∀ (q : Nat) (j i : Int), G q j i = if q = 59 ∧ j = t ∧ i = 3 then r else if q = 63 ∧ j = 10 * t + (D2 59 t 0 - 1) ∧ i = 2 then a else D2 q j i)
    (hr : 0 ≤ r ∧ r < 100) (ha : 0 ≤ a ∧ a ≤ 24) (hrs : 0 < r → a ≤ 23) : pu_acP w t Z D1 D2 E (0, G) := by
  have K := h.t t ht.1 ht.2
  have h10 := K.fr1
  have e59 : ∀ i : Int, i ≠ 3 → G 59 t i = D2 59 t i := fun i x => by rw [hG, if_neg (by omega), if_neg (by omega)]
  have e4 : ∀ i : Int, i ≠ 5 → E 4 (6 * w + t) i = D1 4 (6 * w + t) i := fun i x => by rw [hE, if_neg (by omega), if_neg (by omega)]
  have g3 : G 59 t 3 = r := by rw [hG, if_pos ⟨rfl, rfl, rfl⟩]
  have eo : ∀ (q : Nat) (j i : Int), q ≠ 4 → q ≠ 21 → E q j i = D1 q j i := fun q j i x y => by rw [hE, if_neg (by omega), if_neg (by omega)]
  have go : ∀ (q : Nat) (j i : Int), q ≠ 59 → q ≠ 63 → G q j i = D2 q j i := fun q j i x y => by rw [hG, if_neg (by omega), if_neg (by omega)]
  have k1 : G 40 0 11 = D2 40 0 11 := go _ _ _ (by decide) (by decide)
  have k2 : ∀ p : Int, G 47 0 p = D2 47 0 p := fun p => go _ _ _ (by decide) (by decide)
  have F1 : pu_a1 w t D1 E := fun q j i z1 z2 z3 z4 => by rw [hE, if_neg (by omega), if_neg (by omega)]
  have F2 : pu_a2 t D2 G := fun q j i z1 z2 z3 z4 z5 z6 => by rw [hG, if_neg (by omega), if_neg (by omega)]
  have m2 : G 63 (10 * t + (D2 59 t 0 - 1)) 2 = a := by rw [hG, if_neg (by omega), if_pos ⟨rfl, rfl, rfl⟩]
  have hT : pu_Tk w E G t := by
    obtain ⟨a1, a2, a3, a4, a5, a6, a7, a8, a9, a10, a11, a12, a13, a14, a15⟩ := K
    refine ⟨?_, ?_, ?_, ?_, ?_, ?_, ?_, ?_, ?_, ?_, ?_, ?_, ?_, fun e x y => ?_, fun y => ?_⟩
    · rw [e4 4 (by decide), e59 0 (by decide)]; exact a1
    · rw [e59 0 (by decide)]; exact a2
    · rw [e59 0 (by decide)]; exact a3
    · rw [g3, hE, if_pos ⟨rfl, rfl, rfl⟩]
    · rw [g3]; exact hr.1
    · rw [g3]; exact hr.2
    · rw [e4 6 (by decide), e59 1 (by decide)]; exact a7
    · rw [e59 1 (by decide)]; exact a8
    · rw [e59 1 (by decide)]; exact a9
    · rw [e4 9 (by decide), e59 5 (by decide)]; exact a10
    · rw [e4 10 (by decide), e59 6 (by decide)]; exact a11
    · rw [e4 8 (by decide)]; exact a12
    · unfold pu_v at a13 ⊢
      rw [eo _ _ _ (by decide) (by decide), eo _ _ _ (by decide) (by decide), go 60 _ _ (by decide) (by decide), e59 2 (by decide)]
      exact a13
    · rw [e59 0 (by decide)] at y
      have f := a14 e x y
      by_cases c : e = D2 59 t 0 - 1
      · subst c
        have mo : ∀ i : Int, i ≠ 2 → G 63 (10 * t + (D2 59 t 0 - 1)) i = D2 63 (10 * t + (D2 59 t 0 - 1)) i := fun i p => by rw [hG, if_neg (by omega), if_neg (by omega)]
        refine f.to (eo _ _ _ (by decide) (by decide)) (eo _ _ _ (by decide) (by decide)) ?_ ?_ (mo 0 (by decide)) (mo 1 (by decide)) (by rw [m2]; exact ha) k1 k2
        · rw [m2, hE, if_neg (by omega), if_pos ⟨rfl, rfl, rfl⟩]
        · rw [mo 3 (by decide), eo _ _ _ (by decide) (by decide)]; exact f.b
      · refine f.kept (eo _ _ _ (by decide) (by decide)) (eo _ _ _ (by decide) (by decide)) ?_ (eo _ _ _ (by decide) (by decide)) (fun i => ?_) k1 k2
        · rw [hE, if_neg (by omega), if_neg (by omega)]
        · rw [hG, if_neg (by omega), if_neg (by omega)]
    · rw [g3] at y
      rw [e59 1 (by decide), e59 0 (by decide), m2]
      exact ⟨h1, h0, hrs y⟩
  have g8 := e4 8 (by decide)
  refine ⟨h.act hw ht F1 F2 (h.d.o (fun q j i y => eo q j i (by omega) (by omega)) (fun q j i y => go q j i (by omega) (by omega))) hT g8 (e59 4 (by decide)) (e59 5 (by decide)) ?_, ?_, F1, F2, g8, e59 4 (by decide)⟩
  · show E 2 w 12 = G 65 0 6
    rw [eo _ _ _ (by decide) (by decide), go _ _ _ (by decide) (by decide)]
    exact h.w.tp
  · show (0 : Int) = G 59 t 1
    rw [e59 1 (by decide)]
    exact h1.symm
theorem pu_act_rest {w t : Int} {Z : MiZ} {D1 D2 : MiD} (hw : 0 ≤ w ∧ w < 2) (ht : 0 ≤ t ∧ t < 6) (h : pu_A w Z D1 D2) (h0 : 0 < D2 59 t 0) (hr : 0 < D2 59 t 3) :
    ∃ E b, B_X9_act Z w t D1 = some E ∧ B_X11_goesOn t D2 = some b ∧ pu_acP w t Z D1 D2 E b := by
  have K := h.t t ht.1 ht.2
  have h10 := K.fr1
  have r1 := K.re1
  obtain ⟨h1, -, h3⟩ := K.rs hr
  have f := K.f (D2 59 t 0 - 1) (by omega) (by omega)
  have fa0 := f.a0
  unfold B_X9_act B_X11_goesOn B_X7_restOn
  simp only [mi_let, K.fr, K.re, ht, and_self, if_true, show 0 ≤ t ∧ t < 7 by omega, show ¬ D2 59 t 3 ≤ 0 by omega, if_false, pu_within, pu_st_eq]
  rw [pu_w (x := D2 59 t 0 - 1) (by omega) (by omega), pu_w (x := D2 59 t 3 - 1) (by omega) (by omega)]
  have e0 : mi_st D2 59 t 3 (D2 59 t 3 - 1) 59 t 0 = D2 59 t 0 := by rw [pu_st, if_neg (by omega)]
  simp only [show 0 ≤ D2 59 t 0 - 1 ∧ D2 59 t 0 - 1 < 10 by omega, and_self, if_true, ne_eq, show ¬ ((1 : Int) = 0) by decide, not_false_eq_true, mi_bi, e0, pu_w (x := D2 59 t 0 - 1) (by omega) (by omega)]
  by_cases c : D2 59 t 3 - 1 = 0
  · simp only [c, not_true_eq_false, if_false]
    have e1 : mi_st D1 4 (6 * w + t) 5 0 21 (6 * w + t) (D2 59 t 0 - 1) = D2 63 (10 * t + (D2 59 t 0 - 1)) 2 := by rw [pu_st, if_neg (by omega)]; exact f.a
    have e2 : mi_st D2 59 t 3 0 63 (10 * t + (D2 59 t 0 - 1)) 2 = D2 63 (10 * t + (D2 59 t 0 - 1)) 2 := by rw [pu_st, if_neg (by omega)]
    rw [e1, e2, pu_w (by omega) (by omega)]
    refine ⟨_, _, rfl, rfl, pu_restS (r := 0) (a := D2 63 (10 * t + (D2 59 t 0 - 1)) 2 + 1) hw ht h h0 h1 (fun q j i => ?_) (fun q j i => ?_) (by decide) (by omega) (fun z => by omega)⟩
    · clear h K f; grind [mi_st]
    · clear h K f; grind [mi_st]
  · simp only [c, not_false_eq_true, if_true]
    refine ⟨_, _, rfl, rfl, pu_restS (r := D2 59 t 3 - 1) (a := D2 63 (10 * t + (D2 59 t 0 - 1)) 2) hw ht h h0 h1 (fun q j i => ?_) (fun q j i => ?_) (by omega) (by omega) (fun z => h3)⟩
    · have := f.a; clear h K f; grind [mi_st]
    · clear h K f; grind [mi_st]
theorem pu_midD {w t y x : Int} {Z : MiZ} {D1 D2 : MiD} (hw : 0 ≤ w ∧ w < 2) (ht : 0 ≤ t ∧ t < 6) (h : pu_A w Z D1 D2) (h0 : 0 < D2 59 t 0) (hr : D2 59 t 3 = 0) (ha : D2 63 (10 * t + (D2 59 t 0 - 1)) 2 ≤ 23) (hd : pu_dd Z D1 y D2 x) :
    ∃ a b : Int × MiD, B_X9_doOnData Z w y (6 * w + t + 1 + (6 * w + t) / 6) (mi_st (pu_c1 w t D1) 21 (6 * w + t) (D2 59 t 0 - 1) (D2 63 (10 * t + (D2 59 t 0 - 1)) 2 + 1)) = some a ∧ B_X11_does t x (pu_c2 t D2) = some b ∧
      pu_mid w t D1 D2 a.2 (mi_st (mi_st b.2 59 t 1 b.1) 63 (10 * t + (D2 59 t 0 - 1)) 2 (mi_w (mi_st b.2 59 t 1 b.1 63 (10 * t + (D2 59 t 0 - 1)) 2 + 1))) a.1 := by
  have K := h.t t ht.1 ht.2
  have h10 := K.fr1
  have ff := K.f (D2 59 t 0 - 1) (by omega) (by omega)
  have fa0 := ff.a0
  generalize hD34 : mi_st (pu_c1 w t D1) 21 (6 * w + t) (D2 59 t 0 - 1) (D2 63 (10 * t + (D2 59 t 0 - 1)) 2 + 1) = E0
  have o1 : ∀ (q : Nat) (j i : Int), ¬ (q = 21 ∧ j = 6 * w + t ∧ i = D2 59 t 0 - 1) → ¬ (q = 4 ∧ j = 6 * w + t ∧ i = 10) → E0 q j i = D1 q j i := fun q j i p p' => by rw [← hD34, pu_st, if_neg p, pu_c1_o p']
  have o2 : E0 21 (6 * w + t) (D2 59 t 0 - 1) = D2 63 (10 * t + (D2 59 t 0 - 1)) 2 + 1 := by rw [← hD34, pu_st_eq]
  have o3 : E0 4 (6 * w + t) 10 = mi_w (D1 4 (6 * w + t) 10 + 1) := by rw [← hD34, pu_st, if_neg (by omega), pu_c1_c]
  have c2 : ∀ (q : Nat) (j i : Int), ¬ (q = 59 ∧ j = t ∧ (i = 1 ∨ i = 6)) → pu_c2 t D2 q j i = D2 q j i := fun q j i p => pu_c2_o p
  have hD : pu_D w E0 (pu_c2 t D2) := h.d.o (fun q j i p => o1 q j i (by omega) (by omega)) (fun q j i p => c2 q j i (by omega))
  have hdd : pu_dd Z E0 y (pu_c2 t D2) x := hd.kept ⟨fun q j i p => o1 q j i (by omega) (by omega), fun q j i p => c2 q j i (by omega), c2 _ _ _ (by omega)⟩
  have hv : pu_v E0 (6 * w + t + 1 + (6 * w + t) / 6) (pu_c2 t D2) t := by
    have := K.v
    unfold pu_v at this ⊢
    rw [o1 _ _ _ (by omega) (by omega), o1 _ _ _ (by omega) (by omega), c2 59 _ _ (by omega), c2 60 _ _ (by omega)]
    exact this
  obtain ⟨a, ea, b, eb, p1, p2, p3, p4, p5, p6, p7⟩ := pu_does (Z := Z) hw (show 0 ≤ t ∧ t < 7 by omega) hD hdd hv
  refine ⟨a, b, ea, eb, ?_⟩
  have q1 : ∀ (q : Nat) (j i : Int), q ≠ 3 → q ≠ 17 → q ≠ 18 → q ≠ 5 → a.2 q j i = E0 q j i := fun q j i u1 u2 u3 u4 => p6 q j i (by omega) (by omega)
  have q2 : ∀ (q : Nat) (j i : Int), q ≠ 52 → q ≠ 53 → q ≠ 55 → q ≠ 57 → ¬ (q = 40 ∧ j = 0 ∧ (i = 25 ∨ i = 26)) → ¬ (q = 59 ∧ j = t ∧ i = 2) → q ≠ 60 → b.2 q j i = pu_c2 t D2 q j i := fun q j i u1 u2 u3 u4 u5 u6 u7 => p7 q j i (by omega) u5 u6 (by omega)
  generalize hG1 : mi_st b.2 59 t 1 b.1 = G1
  have s1 : ∀ (q : Nat) (j i : Int), ¬ (q = 59 ∧ j = t ∧ i = 1) → G1 q j i = b.2 q j i := fun q j i u => by rw [← hG1, pu_st, if_neg u]
  have s2 : G1 59 t 1 = b.1 := by rw [← hG1, pu_st_eq]
  have pl : G1 63 (10 * t + (D2 59 t 0 - 1)) 2 = D2 63 (10 * t + (D2 59 t 0 - 1)) 2 := by rw [s1 _ _ _ (by omega), q2 _ _ _ (by decide) (by decide) (by decide) (by decide) (by omega) (by omega) (by decide), c2 _ _ _ (by omega)]
  rw [pl, pu_w (by omega) (by omega)]
  generalize hG : mi_st G1 63 (10 * t + (D2 59 t 0 - 1)) 2 (D2 63 (10 * t + (D2 59 t 0 - 1)) 2 + 1) = G
  have r1 : ∀ (q : Nat) (j i : Int), ¬ (q = 63 ∧ j = 10 * t + (D2 59 t 0 - 1) ∧ i = 2) → G q j i = G1 q j i := fun q j i u => by rw [← hG, pu_st, if_neg u]
  have r2 : G 63 (10 * t + (D2 59 t 0 - 1)) 2 = D2 63 (10 * t + (D2 59 t 0 - 1)) 2 + 1 := by rw [← hG, pu_st_eq]
  have g59 : ∀ i : Int, i ≠ 1 → i ≠ 2 → i ≠ 6 → G 59 t i = D2 59 t i := fun i u1 u2 u3 => by rw [r1 _ _ _ (by omega), s1 _ _ _ (by omega), q2 _ _ _ (by decide) (by decide) (by decide) (by decide) (by omega) (by omega) (by decide), c2 _ _ _ (by omega)]
  have go : ∀ (q : Nat) (j i : Int), q ≠ 52 → q ≠ 53 → q ≠ 55 → q ≠ 57 → q ≠ 59 → q ≠ 60 → ¬ (q = 40 ∧ j = 0 ∧ (i = 25 ∨ i = 26)) → ¬ (q = 63 ∧ j = 10 * t + (D2 59 t 0 - 1) ∧ i = 2) → G q j i = D2 q j i := fun q j i u1 u2 u3 u4 u5 u6 u7 u8 => by rw [r1 _ _ _ u8, s1 _ _ _ (by omega), q2 _ _ _ u1 u2 u3 u4 u7 (by omega) u6, c2 _ _ _ (by omega)]
  have g6 : G 59 t 6 = mi_w (D2 59 t 6 + 1) := by rw [r1 _ _ _ (by omega), s1 _ _ _ (by omega), q2 _ _ _ (by decide) (by decide) (by decide) (by decide) (by omega) (by omega) (by decide), pu_c2_6]
  have g1 : G 59 t 1 = b.1 := by rw [r1 _ _ _ (by omega), s2]
  have a4 : ∀ i : Int, i ≠ 10 → a.2 4 (6 * w + t) i = D1 4 (6 * w + t) i := fun i u => by rw [q1 _ _ _ (by decide) (by decide) (by decide) (by decide), o1 _ _ _ (by omega) (by omega)]
  have ao : ∀ (q : Nat) (j i : Int), q ≠ 3 → q ≠ 17 → q ≠ 18 → q ≠ 5 → q ≠ 4 → ¬ (q = 21 ∧ j = 6 * w + t ∧ i = D2 59 t 0 - 1) → a.2 q j i = D1 q j i := fun q j i u1 u2 u3 u4 u5 u6 => by rw [q1 _ _ _ u1 u2 u3 u4, o1 _ _ _ u6 (by omega)]
  have k1 : G 40 0 11 = D2 40 0 11 := go _ _ _ (by decide) (by decide) (by decide) (by decide) (by decide) (by decide) (by omega) (by omega)
  have k2 : ∀ p : Int, G 47 0 p = D2 47 0 p := fun p => go _ _ _ (by decide) (by decide) (by decide) (by decide) (by decide) (by decide) (by omega) (by omega)
  refine ⟨fun q j i z1 z2 z3 z4 => ?_, fun q j i z1 z2 z3 z4 z5 z6 => ?_, p4.o (fun _ _ _ _ => rfl) (fun q j i u => by rw [r1 _ _ _ (by omega), s1 _ _ _ (by omega)]), pu_mkT ?_ ?_ ?_ ?_ ?_ ?_ ?_ ?_ ?_ (fun e u1 u2 => ?_) (fun u => ?_), by rw [g1]; exact p1, a4 8 (by decide), g59 4 (by decide) (by decide) (by decide), g59 5 (by decide) (by decide) (by decide), ao _ _ _ (by decide) (by decide) (by decide) (by decide) (by decide) (by omega), go _ _ _ (by decide) (by decide) (by decide) (by decide) (by decide) (by decide) (by omega) (by omega)⟩
  · rw [p6 q j i z3 z2, o1 _ _ _ (by omega) (by omega)]
  · rw [r1 _ _ _ (by omega), s1 _ _ _ (by omega), p7 q j i z4 z5 (by omega) z2, c2 _ _ _ (by omega)]
  · rw [a4 4 (by decide), g59 0 (by decide) (by decide) (by decide)]; exact K.fr
  · rw [g59 0 (by decide) (by decide) (by decide)]; omega
  · rw [a4 5 (by decide), g59 3 (by decide) (by decide) (by decide)]; exact K.re
  · rw [g59 3 (by decide) (by decide) (by decide)]; omega
  · rw [g1]; exact ⟨p1, p2, p3⟩
  · rw [a4 9 (by decide), g59 5 (by decide) (by decide) (by decide)]; exact K.fo
  · rw [q1 _ _ _ (by decide) (by decide) (by decide) (by decide), o3, g6, K.de]
  · rw [a4 8 (by decide)]; exact K.tu
  · unfold pu_v at p5 ⊢
    rw [r1 _ _ _ (by omega), s1 _ _ _ (by omega), r1 _ _ _ (by omega), s1 _ _ _ (by omega)]
    exact p5
  · rw [g59 0 (by decide) (by decide) (by decide)] at u2
    have f := K.f e u1 u2
    by_cases c : e = D2 59 t 0 - 1
    · subst c
      have mo : ∀ i : Int, i ≠ 2 → G 63 (10 * t + (D2 59 t 0 - 1)) i = D2 63 (10 * t + (D2 59 t 0 - 1)) i := fun i p => go _ _ _ (by decide) (by decide) (by decide) (by decide) (by decide) (by decide) (by omega) (by omega)
      refine f.to (ao _ _ _ (by decide) (by decide) (by decide) (by decide) (by decide) (by omega)) (ao _ _ _ (by decide) (by decide) (by decide) (by decide) (by decide) (by omega)) ?_ ?_ (mo 0 (by decide)) (mo 1 (by decide)) (by rw [r2]; omega) k1 k2
      · rw [r2, q1 _ _ _ (by decide) (by decide) (by decide) (by decide), o2]
      · rw [mo 3 (by decide), ao _ _ _ (by decide) (by decide) (by decide) (by decide) (by decide) (by omega)]; exact f.b
    · refine f.kept (ao _ _ _ (by decide) (by decide) (by decide) (by decide) (by decide) (by omega)) (ao _ _ _ (by decide) (by decide) (by decide) (by decide) (by decide) (by omega)) (ao _ _ _ (by decide) (by decide) (by decide) (by decide) (by decide) (by omega)) (ao _ _ _ (by decide) (by decide) (by decide) (by decide) (by decide) (by omega)) (fun i => go _ _ _ (by decide) (by decide) (by decide) (by decide) (by decide) (by decide) (by omega) (by omega)) k1 k2
  · rw [g59 3 (by decide) (by decide) (by decide)] at u
    omega
theorem pu_midC {w t a f p : Int} {Z : MiZ} {D1 D2 E G : MiD} (hw : 0 ≤ w ∧ w < 2) (ht : 0 ≤ t ∧ t < 6) (h : pu_A w Z D1 D2) (h0 : 0 < D2 59 t 0) (h9 : D2 59 t 0 < 10) (hr : D2 59 t 3 = 0)
    (hE : ∀ (q : Nat) (j i : Int), E q j i = if q = 4 ∧ j = 6 * w + t ∧ i = 4 then D2 59 t 0 + 1 else if q = 21 ∧ j = 6 * w + t ∧ i = D2 59 t 0 - 1 then a else if q = 19 ∧ j = 6 * w + t ∧ i = D2 59 t 0 then f else if q = 20 ∧ j = 6 * w + t ∧ i = D2 59 t 0 then p else if (q = 21 ∨ q = 22) ∧ j = 6 * w + t ∧ i = D2 59 t 0 then 0 else pu_c1 w t D1 q j i)
    (hG : ∀ (q : Nat) (j i : Int), G q j i = if q = 59 ∧ j = t ∧ i = 0 then D2 59 t 0 + 1 else if q = 63 ∧ j = 10 * t + (D2 59 t 0 - 1) ∧ i = 2 then a else if q = 63 ∧ j = 10 * t + D2 59 t 0 ∧ i = 0 then f else if q = 63 ∧ j = 10 * t + D2 59 t 0 ∧ i = 1 then p else if q = 63 ∧ j = 10 * t + D2 59 t 0 ∧ (i = 2 ∨ i = 3) then 0 else pu_c2 t D2 q j i)
    (ha : 0 ≤ a ∧ a ≤ 24) (hf : 0 ≤ f ∧ f < 12) (hp : -1 ≤ p ∧ p < D2 40 0 11) (hb : 0 ≤ p → B_X11_isBit (D2 47 0 p) f ≠ 0) : pu_mid w t D1 D2 E G 0 := by
  have K := h.t t ht.1 ht.2
  have e59 : ∀ i : Int, i ≠ 0 → G 59 t i = pu_c2 t D2 59 t i := fun i x => by rw [hG, if_neg (by omega), if_neg (by omega), if_neg (by omega), if_neg (by omega), if_neg (by omega)]
  have e4 : ∀ i : Int, i ≠ 4 → E 4 (6 * w + t) i = pu_c1 w t D1 4 (6 * w + t) i := fun i x => by rw [hE, if_neg (by omega), if_neg (by omega), if_neg (by omega), if_neg (by omega), if_neg (by omega)]
  have g0 : G 59 t 0 = D2 59 t 0 + 1 := by rw [hG, if_pos ⟨rfl, rfl, rfl⟩]
  have g3 : G 59 t 3 = D2 59 t 3 := by rw [e59 3 (by decide), pu_c2_o (by omega)]
  have g1 : G 59 t 1 = 0 := by rw [e59 1 (by decide), pu_c2_1]
  have eo : ∀ (q : Nat) (j i : Int), q ≠ 4 → q ≠ 19 → q ≠ 20 → q ≠ 21 → q ≠ 22 → E q j i = D1 q j i := fun q j i x y z u v => by rw [hE, if_neg (by omega), if_neg (by omega), if_neg (by omega), if_neg (by omega), if_neg (by omega), pu_c1_o (by omega)]
  have go : ∀ (q : Nat) (j i : Int), q ≠ 59 → q ≠ 63 → G q j i = D2 q j i := fun q j i x y => by rw [hG, if_neg (by omega), if_neg (by omega), if_neg (by omega), if_neg (by omega), if_neg (by omega), pu_c2_o (by omega)]
  have k1 : G 40 0 11 = D2 40 0 11 := go _ _ _ (by decide) (by decide)
  have k2 : ∀ p : Int, G 47 0 p = D2 47 0 p := fun p => go _ _ _ (by decide) (by decide)
  refine ⟨fun q j i z1 z2 z3 z4 => ?_, fun q j i z1 z2 z3 z4 z5 z6 => ?_, h.d.o (fun q j i y => eo q j i (by omega) (by omega) (by omega) (by omega) (by omega)) (fun q j i y => go q j i (by omega) (by omega)), pu_mkT ?_ ?_ ?_ ?_ ?_ ?_ ?_ ?_ ?_ (fun e x y => ?_) (fun y => ?_), g1.symm, ?_, ?_, ?_, ?_, ?_⟩
  · rw [hE, if_neg (by omega), if_neg (by omega), if_neg (by omega), if_neg (by omega), if_neg (by omega), pu_c1_o (by omega)]
  · rw [hG, if_neg (by omega), if_neg (by omega), if_neg (by omega), if_neg (by omega), if_neg (by omega), pu_c2_o (by omega)]
  · rw [g0, hE, if_pos ⟨rfl, rfl, rfl⟩]
  · rw [g0]; omega
  · rw [g3, e4 5 (by decide), pu_c1_o (by omega)]; exact K.re
  · rw [g3]; omega
  · rw [g1]; omega
  · rw [e4 9 (by decide), e59 5 (by decide), pu_c1_o (by omega), pu_c2_o (by omega)]; exact K.fo
  · rw [e4 10 (by decide), e59 6 (by decide), pu_c1_c, pu_c2_6, K.de]
  · rw [e4 8 (by decide), pu_c1_o (by omega)]; exact K.tu
  · have := K.v
    unfold pu_v at this ⊢
    rw [eo _ _ _ (by decide) (by decide) (by decide) (by decide) (by decide), eo _ _ _ (by decide) (by decide) (by decide) (by decide) (by decide), go 60 _ _ (by decide) (by decide), e59 2 (by decide), pu_c2_o (by omega)]
    exact this
  · rw [g0] at y
    by_cases c : e = D2 59 t 0
    · subst c
      have m0 : G 63 (10 * t + D2 59 t 0) 0 = f := by rw [hG, if_neg (by omega), if_neg (by omega), if_pos ⟨rfl, rfl, rfl⟩]
      have m1 : G 63 (10 * t + D2 59 t 0) 1 = p := by rw [hG, if_neg (by omega), if_neg (by omega), if_neg (by omega), if_pos ⟨rfl, rfl, rfl⟩]
      have m2 : G 63 (10 * t + D2 59 t 0) 2 = 0 := by rw [hG, if_neg (by omega), if_neg (by omega), if_neg (by omega), if_neg (by omega), if_pos (by omega)]
      have m3 : G 63 (10 * t + D2 59 t 0) 3 = 0 := by rw [hG, if_neg (by omega), if_neg (by omega), if_neg (by omega), if_neg (by omega), if_pos (by omega)]
      refine ⟨?_, by omega, by omega, ?_, by omega, by omega, fun z => ?_, ?_, by omega, by omega, ?_⟩
      · rw [m0, hE, if_neg (by omega), if_neg (by omega), if_pos ⟨rfl, rfl, rfl⟩]
      · rw [m1, hE, if_neg (by omega), if_neg (by omega), if_neg (by omega), if_pos ⟨rfl, rfl, rfl⟩]
      · rw [m1] at z; rw [m0, m1, k2]; exact hb z
      · rw [m2, hE, if_neg (by omega), if_neg (by omega), if_neg (by omega), if_neg (by omega), if_pos (by omega)]
      · rw [m3, hE, if_neg (by omega), if_neg (by omega), if_neg (by omega), if_neg (by omega), if_pos (by omega)]
    · have f' := K.f e x (by omega)
      by_cases c' : e = D2 59 t 0 - 1
      · subst c'
        have m2 : G 63 (10 * t + (D2 59 t 0 - 1)) 2 = a := by rw [hG, if_neg (by omega), if_pos ⟨rfl, rfl, rfl⟩]
        have mo : ∀ i : Int, i ≠ 2 → G 63 (10 * t + (D2 59 t 0 - 1)) i = D2 63 (10 * t + (D2 59 t 0 - 1)) i := fun i p => by rw [hG, if_neg (by omega), if_neg (by omega), if_neg (by omega), if_neg (by omega), if_neg (by omega), pu_c2_o (by omega)]
        refine f'.to ?_ ?_ ?_ ?_ (mo 0 (by decide)) (mo 1 (by decide)) (by rw [m2]; exact ha) k1 k2
        · rw [hE, if_neg (by omega), if_neg (by omega), if_neg (by omega), if_neg (by omega), if_neg (by omega), pu_c1_o (by omega)]
        · rw [hE, if_neg (by omega), if_neg (by omega), if_neg (by omega), if_neg (by omega), if_neg (by omega), pu_c1_o (by omega)]
        · rw [m2, hE, if_neg (by omega), if_pos ⟨rfl, rfl, rfl⟩]
        · rw [mo 3 (by decide), hE, if_neg (by omega), if_neg (by omega), if_neg (by omega), if_neg (by omega), if_neg (by omega), pu_c1_o (by omega)]; exact f'.b
      · have ek : ∀ q : Nat, q ≠ 4 → E q (6 * w + t) e = D1 q (6 * w + t) e := fun q u => by rw [hE, if_neg (by omega), if_neg (by omega), if_neg (by omega), if_neg (by omega), if_neg (by omega), pu_c1_o (by omega)]
        exact f'.kept (ek _ (by decide)) (ek _ (by decide)) (ek _ (by decide)) (ek _ (by decide)) (fun i => by rw [hG, if_neg (by omega), if_neg (by omega), if_neg (by omega), if_neg (by omega), if_neg (by omega), pu_c2_o (by omega)]) k1 k2
  · rw [g3] at y
    omega
  · rw [e4 8 (by decide), pu_c1_o (by omega)]
  · rw [e59 4 (by decide), pu_c2_o (by omega)]
  · rw [e59 5 (by decide), pu_c2_o (by omega)]
  · exact eo _ _ _ (by decide) (by decide) (by decide) (by decide) (by decide)
  · exact go _ _ _ (by decide) (by decide)
def pu_push (D : MiD) (T n f p : Int) : MiD := fun q j i => if q = 4 ∧ j = T ∧ i = 4 then n + 1 else if q = 19 ∧ j = T ∧ i = n then f else if q = 20 ∧ j = T ∧ i = n then p else if (q = 21 ∨ q = 22) ∧ j = T ∧ i = n then 0 else D q j i
theorem pu_push_e {D : MiD} {T n f p : Int} (h : D 4 T 4 = n) (hn : 0 ≤ n ∧ n < 10) : B_X7_push T f p D = some (1, pu_push D T n f p) := by
  have o : ∀ (D : MiD) (q : Nat) (i v : Int), q ≠ 4 → mi_st D q T i v 4 T 4 = D 4 T 4 := fun D q i v u => by rw [pu_st, if_neg (by omega)]
  unfold B_X7_push
  simp only [mi_let, o _ 19 _ _ (by decide), o _ 20 _ _ (by decide), o _ 21 _ _ (by decide), o _ 22 _ _ (by decide), h, hn, and_self, if_true]
  rw [pu_w (by omega) (by omega)]
  congr 2
  funext q j i
  unfold pu_push
  clear o
  grind (splits := 20) [mi_st]
theorem pu_push_no {D : MiD} {T f p : Int} (h : D 4 T 4 = 10) : B_X7_push T f p D = some (0, D) := by
  unfold B_X7_push
  rw [h]
  rfl
def pu_pushM (D : MiD) (t n f p : Int) : MiD := fun q j i => if q = 59 ∧ j = t ∧ i = 0 then n + 1 else if q = 63 ∧ j = 10 * t + n ∧ i = 0 then f else if q = 63 ∧ j = 10 * t + n ∧ i = 1 then p else if q = 63 ∧ j = 10 * t + n ∧ (i = 2 ∨ i = 3) then 0 else D q j i
theorem pu_pushM_e {D : MiD} {t n f p : Int} (ht : 0 ≤ t ∧ t < 6) (h : D 59 t 0 = n) (hn : 0 ≤ n ∧ n < 10) (hc : B_X11_callsBy (mi_st D 63 (10 * t + n) 0 f) t f = some p) : B_X11_pushes t f D = some (pu_pushM D t n f p) := by
  have o : ∀ (D : MiD) (j i v : Int), mi_st D 63 j i v 59 t 0 = D 59 t 0 := fun D j i v => by rw [pu_st, if_neg (by omega)]
  unfold B_X11_pushes
  simp only [mi_let, o, h, hn, ht, show 0 ≤ t ∧ t < 7 by omega, and_self, if_true]
  rw [hc]
  simp only [mi_bi, o, h]
  rw [pu_w (by omega) (by omega)]
  congr 1
  funext q j i
  unfold pu_pushM
  clear o hc
  grind (splits := 20) [mi_st]
theorem pu_nothing {t : Int} {D1 D2 : MiD} {v : Int} (ht : 0 ≤ t ∧ t < 7) (hv : pu_v D1 v D2 t) : (B_X8_isNothing D1 v = some 1 ∧ B_X11_isNought D2 t = some 1) ∨ (B_X8_isNothing D1 v = some 0 ∧ B_X11_isNought D2 t = some 0) := by
  obtain ⟨v1, v2, v3, v4, v5⟩ := hv
  unfold B_X8_isNothing B_X8_isNothing_26 B_X11_isNought B_X11_isNought_36
  rw [if_pos ht, v1, v2]
  by_cases a : D2 59 t 2 = -1
  · simp [a]
  · by_cases b : D2 59 t 2 = 8
    · simp [a, b]
    · by_cases c : mi_cmp (D2 60 0 t) 0 ≠ 0 <;> simp [a, b, c]
theorem pu_deedA {w t c k x y o : Int} {Z : MiZ} {D1 D2 : MiD} (hw : 0 ≤ w ∧ w < 2) (ht : 0 ≤ t ∧ t < 6) (h : pu_A w Z D1 D2) (h0 : 0 < D2 59 t 0) (hr : D2 59 t 3 = 0)
    (hC : pu_C Z D1 c D2 k) (hlt : D2 63 (10 * t + (D2 59 t 0 - 1)) 2 < D2 43 0 k) (hd : pu_dd Z D1 y D2 x) (ho : D2 46 x 0 = o) :
    ∃ E G z, B_X9_doDeed_53 Z w t (D2 59 t 0 - 1) (6 * w + t) c (D2 63 (10 * t + (D2 59 t 0 - 1)) 2 + 1) y (pu_c1 w t D1) = some (z, E) ∧ B_X11_goesOn_118 t t (10 * t + (D2 59 t 0 - 1)) (D2 43 0 k - D2 63 (10 * t + (D2 59 t 0 - 1)) 2) x o D2 = B_X11_goesOn_326 t G ∧ pu_mid w t D1 D2 E G z := by
  have K := h.t t ht.1 ht.2
  have h10 := K.fr1
  have F := K.f (D2 59 t 0 - 1) (by omega) (by omega)
  have fa := F.a
  have fb := F.b
  have fa0 := F.a0
  have hre := K.re
  have hfr := K.fr
  obtain ⟨C1, C2, C3, C4, C5, C6, C7⟩ := id hC
  obtain ⟨d1, d2, d3, d4, d5, d6, d7, d8, dR⟩ := id hd
  have hT : 0 ≤ 6 * w + t ∧ 6 * w + t < 12 := by omega
  have hq : 0 ≤ 10 * t + (D2 59 t 0 - 1) ∧ 10 * t + (D2 59 t 0 - 1) < 60 := by omega
  have he : 0 ≤ D2 59 t 0 - 1 ∧ D2 59 t 0 - 1 < 10 := by omega
  rw [ho] at d3 d4 d7 d8
  unfold B_X9_doDeed_53 B_X11_goesOn_118
  rw [if_neg (show ¬ y < 0 by omega), if_pos d1, d3, if_pos d4, pu_opo d4, if_pos d4]
  rw [if_pos (show 0 ≤ t ∧ t < 7 by omega)]
  simp only [mi_let]
  have hc2 : mi_st (mi_st D2 59 t 6 (mi_w (D2 59 t 6 + 1))) 59 t 1 0 = pu_c2 t D2 := rfl
  rw [hc2]
  have pl : pu_c2 t D2 63 (10 * t + (D2 59 t 0 - 1)) 2 = D2 63 (10 * t + (D2 59 t 0 - 1)) 2 := pu_c2_o (by omega)
  have n2 : pu_c2 t D2 59 t 0 = D2 59 t 0 := pu_c2_o (by omega)
  have c46 : ∀ i : Int, pu_c2 t D2 46 x i = D2 46 x i := fun i => pu_c2_o (by omega)
  have c7 : ∀ i : Int, pu_c1 w t D1 7 y i = D1 7 y i := fun i => pu_c1_o (by omega)
  have cases : o = 0 ∨ o = 1 ∨ o = 2 ∨ o = 3 ∨ o = 4 ∨ (o = 5 ∨ o = 6) ∨ 7 ≤ o := by omega
  rcases cases with rfl | rfl | rfl | rfl | rfl | h56 | h7
  ·
    have hs : mi_sm 0 = 19 := by rw [pu_sm (by decide)]; rfl
    obtain ⟨q1, q2, q3⟩ := d7 rfl
    rw [hs]
    simp only [Int.reduceEq, if_true, if_false, hT, he, hq, and_self, pl]
    rw [pu_w (x := D2 63 (10 * t + (D2 59 t 0 - 1)) 2 + 1) (by omega) (by omega)]
    generalize hE0 : mi_st (pu_c1 w t D1) 21 (6 * w + t) (D2 59 t 0 - 1) (D2 63 (10 * t + (D2 59 t 0 - 1)) 2 + 1) = E0
    generalize hG0 : mi_st (pu_c2 t D2) 63 (10 * t + (D2 59 t 0 - 1)) 2 (D2 63 (10 * t + (D2 59 t 0 - 1)) 2 + 1) = G0
    have o1 : ∀ (q : Nat) (j i : Int), q ≠ 21 → ¬ (q = 4 ∧ j = 6 * w + t ∧ i = 10) → E0 q j i = D1 q j i := fun q j i p p' => by rw [← hE0, pu_st, if_neg (by omega), pu_c1_o p']
    have o2 : ∀ (q : Nat) (j i : Int), q ≠ 63 → ¬ (q = 59 ∧ j = t ∧ (i = 1 ∨ i = 6)) → G0 q j i = D2 q j i := fun q j i p p' => by rw [← hG0, pu_st, if_neg (by omega), pu_c2_o p']
    have v1 : E0 7 y 5 = D2 46 x 1 := by rw [o1 _ _ _ (by decide) (by omega)]; exact q1
    have v2 : G0 46 x 1 = D2 46 x 1 := o2 _ _ _ (by decide) (by omega)
    have v3 : G0 59 t 0 = D2 59 t 0 := o2 _ _ _ (by decide) (by omega)
    have v4 : E0 4 (6 * w + t) 4 = D2 59 t 0 := by rw [o1 _ _ _ (by decide) (by omega)]; exact hfr
    rw [v1, v2, v3]
    have hcall := fun (G' : MiD) (hG' : ∀ (q : Nat) (j i : Int), q ≠ 63 → G' q j i = G0 q j i) => pu_callee (E1 := E0) (E2 := G') hw ht ⟨q2, q3⟩ h (o1 _ _ _ (by decide) (by omega)) (o1 _ _ _ (by decide) (by omega)) (fun s => o1 _ _ _ (by decide) (by omega)) (o1 _ _ _ (by decide) (by omega)) ((hG' _ _ _ (by decide)).trans (o2 _ _ _ (by decide) (by omega))) ((hG' _ _ _ (by decide)).trans (o2 _ _ _ (by decide) (by omega))) (fun s => (hG' _ _ _ (by decide)).trans (o2 _ _ _ (by decide) (by omega))) ((hG' _ _ _ (by decide)).trans (o2 _ _ _ (by decide) (by omega))) (fun p => (hG' _ _ _ (by decide)).trans (o2 _ _ _ (by decide) (by omega)))
    by_cases c10 : D2 59 t 0 = 10
    · obtain ⟨p, p1, -⟩ := hcall G0 (fun _ _ _ _ => rfl)
      rw [p1]
      simp only [mi_bi]
      rw [pu_push_no (by rw [v4, c10])]
      simp only [mi_b2, mi_bi, c10, ne_eq, not_true_eq_false, if_false, if_true]
      refine ⟨_, _, _, rfl, rfl, pu_midS (n := D2 59 t 0) (r := 0) (a := D2 63 (10 * t + (D2 59 t 0 - 1)) 2 + 1) (b := D2 63 (10 * t + (D2 59 t 0 - 1)) 3) (z := 3) hw ht h h0 (fun q j i => ?_) (fun q j i => ?_) (by omega) (by decide) (by omega) (by decide) (fun z => by omega)⟩
      · rw [← hE0]; unfold pu_c1; clear h K hd hC C7 dR o1 o2 hcall F; grind (splits := 30) [mi_st]
      · rw [← hG0]; unfold pu_c2; clear h K hd hC C7 dR o1 o2 hcall F; grind (splits := 30) [mi_st]
    · obtain ⟨p, p1, p2, p3, p4, p5⟩ := hcall (mi_st G0 63 (10 * t + D2 59 t 0) 0 (D2 46 x 1)) (fun q j i u => by rw [pu_st, if_neg (by omega)])
      rw [p1]
      simp only [mi_bi]
      rw [pu_push_e v4 (by omega)]
      simp only [mi_b2, mi_bi, c10, ne_eq, not_false_eq_true, if_true, d2, and_self, Int.reduceEq, if_false]
      rw [pu_pushM_e ht v3 (by omega) p2]
      refine ⟨_, _, _, rfl, rfl, pu_midC (a := D2 63 (10 * t + (D2 59 t 0 - 1)) 2 + 1) (f := D2 46 x 1) (p := p) hw ht h h0 (by omega) hr (fun q j i => ?_) (fun q j i => ?_) (by omega) ⟨q2, q3⟩ ⟨p3, p4⟩ p5⟩
      · unfold pu_push; rw [← hE0]; clear h K hd hC C7 dR o1 o2 hcall F; grind (splits := 30) [mi_st]
      · unfold pu_pushM; rw [← hG0]; clear h K hd hC C7 dR o1 o2 hcall F; grind (splits := 30) [mi_st]
  ·
    have hs : mi_sm 1 = 13 := by rw [pu_sm (by decide)]; rfl
    rw [hs]
    simp only [Int.reduceEq, if_true, if_false, hT, and_self]
    unfold B_X7_pop
    have v4 : pu_c1 w t D1 4 (6 * w + t) 4 = D2 59 t 0 := by rw [pu_c1_o (by omega)]; exact hfr
    simp only [mi_let, mi_bi, v4, n2]
    rw [pu_w (x := D2 59 t 0 - 1) (by omega) (by omega), show mi_max (D2 59 t 0 - 1) 0 = D2 59 t 0 - 1 by unfold mi_max; rw [if_neg (by omega)]]
    refine ⟨_, _, _, rfl, rfl, pu_midS (n := D2 59 t 0 - 1) (r := 0) (a := D2 63 (10 * t + (D2 59 t 0 - 1)) 2) (b := D2 63 (10 * t + (D2 59 t 0 - 1)) 3) (z := 0) hw ht h h0 (fun q j i => ?_) (fun q j i => ?_) (by omega) (by decide) (by omega) (by decide) (fun z => by omega)⟩
    · unfold pu_c1; clear h K hd hC C7 dR F; grind (splits := 30) [mi_st]
    · unfold pu_c2; clear h K hd hC C7 dR F; grind (splits := 30) [mi_st]
  ·
    have hs : mi_sm 2 = 14 := by rw [pu_sm (by decide)]; rfl
    rw [hs]
    simp only [Int.reduceEq, if_true, if_false, hT, he, hq, and_self]
    refine ⟨_, _, _, rfl, rfl, pu_midS (n := D2 59 t 0) (r := 0) (a := 0) (b := D2 63 (10 * t + (D2 59 t 0 - 1)) 3) (z := 0) hw ht h h0 (fun q j i => ?_) (fun q j i => ?_) (by omega) (by decide) (by omega) (by decide) (fun z => by omega)⟩
    · unfold pu_c1; clear h K hd hC C7 dR F; grind (splits := 30) [mi_st]
    · unfold pu_c2; clear h K hd hC C7 dR F; grind (splits := 30) [mi_st]
  ·
    have hs : mi_sm 3 = 15 := by rw [pu_sm (by decide)]; rfl
    obtain ⟨q1, q2, q3⟩ := d8 (Or.inl rfl)
    have v1 : ∀ v : Int, mi_st (pu_c1 w t D1) 4 (6 * w + t) 5 v 7 y 5 = D2 46 x 1 := fun v => by rw [pu_st, if_neg (by omega), c7]; exact q1
    have v2 : ∀ v : Int, mi_st (pu_c2 t D2) 59 t 3 v 46 x 1 = D2 46 x 1 := fun v => by rw [pu_st, if_neg (by omega), c46]
    have v3 : ∀ v : Int, mi_st (pu_c2 t D2) 59 t 3 v 63 (10 * t + (D2 59 t 0 - 1)) 2 = D2 63 (10 * t + (D2 59 t 0 - 1)) 2 := fun v => by rw [pu_st, if_neg (by omega), pl]
    rw [hs]
    unfold B_X9_doDeed_166
    simp only [Int.reduceEq, if_true, if_false, hT, he, hq, d2, and_self, c7, c46, q1, v1, v2, v3, mi_let]
    by_cases c0 : D2 46 x 1 = 0
    · simp only [c0, Int.le_refl, if_true, ne_eq, not_true_eq_false, if_false]
      rw [pu_w (x := D2 63 (10 * t + (D2 59 t 0 - 1)) 2 + 1) (by omega) (by omega)]
      refine ⟨_, _, _, rfl, rfl, pu_midS (n := D2 59 t 0) (r := 0) (a := D2 63 (10 * t + (D2 59 t 0 - 1)) 2 + 1) (b := D2 63 (10 * t + (D2 59 t 0 - 1)) 3) (z := 0) hw ht h h0 (fun q j i => ?_) (fun q j i => ?_) (by omega) (by decide) (by omega) (by decide) (fun z => by omega)⟩
      · unfold pu_c1; clear h K hd hC C7 dR F v1 v2 v3 c7 c46; grind (splits := 30) [mi_st]
      · unfold pu_c2; clear h K hd hC C7 dR F v1 v2 v3 c7 c46; grind (splits := 30) [mi_st]
    · simp only [c0, show ¬ D2 46 x 1 ≤ 0 by omega, if_true, ne_eq, not_false_eq_true, if_false]
      rw [pu_w (x := D2 63 (10 * t + (D2 59 t 0 - 1)) 2 + 1 - 1) (by omega) (by omega)]
      refine ⟨_, _, _, rfl, rfl, pu_midS (n := D2 59 t 0) (r := D2 46 x 1) (a := D2 63 (10 * t + (D2 59 t 0 - 1)) 2) (b := D2 63 (10 * t + (D2 59 t 0 - 1)) 3) (z := 0) hw ht h h0 (fun q j i => ?_) (fun q j i => ?_) (by omega) (by omega) (by omega) (by decide) (fun z => by omega)⟩
      · unfold pu_c1; clear h K hd hC C7 dR F v1 v2 v3 c7 c46; grind (splits := 30) [mi_st]
      · unfold pu_c2; clear h K hd hC C7 dR F v1 v2 v3 c7 c46; grind (splits := 30) [mi_st]
  ·
    have hs : mi_sm 4 = 16 := by rw [pu_sm (by decide)]; rfl
    obtain ⟨q1, q2, q3⟩ := d8 (Or.inr rfl)
    have hv : pu_v (pu_c1 w t D1) (6 * w + t + 1 + (6 * w + t) / 6) (pu_c2 t D2) t := by
      have := K.v
      unfold pu_v at this ⊢
      rw [pu_c1_o (by omega), pu_c1_o (by omega), pu_c2_o (by omega), pu_c2_o (by omega)]
      exact this
    have v6 : pu_c1 w t D1 6 c 1 = D2 43 0 k := by rw [pu_c1_o (by omega)]; exact C4
    rw [hs]
    unfold B_X9_doDeed_205 B_X11_goesOn_279
    simp only [Int.reduceEq, if_true, if_false, hT, he, hq, d2, C1, and_self, c7, c46, q1, pl, v6, show (0 : Int) ≤ 2 ∧ (2 : Int) < 4 by decide]
    rcases pu_nothing (show 0 ≤ t ∧ t < 7 by omega) hv with ⟨n1, n3⟩ | ⟨n1, n3⟩
    · rw [n1, n3]
      simp only [mi_bi, Int.reduceEq, if_false, mi_let]
      have e1 : mi_min (mi_w (D2 63 (10 * t + (D2 59 t 0 - 1)) 2 + 1 + D2 46 x 1)) (D2 43 0 k) = mi_w (D2 63 (10 * t + (D2 59 t 0 - 1)) 2 + mi_w (1 + B_X11_less (D2 46 x 1) (mi_w (D2 43 0 k - D2 63 (10 * t + (D2 59 t 0 - 1)) 2 - 1)))) := by
        rw [pu_w (x := D2 63 (10 * t + (D2 59 t 0 - 1)) 2 + 1 + D2 46 x 1) (by omega) (by omega), pu_w (x := D2 43 0 k - D2 63 (10 * t + (D2 59 t 0 - 1)) 2 - 1) (by omega) (by omega), pu_less]
        have b1 : mi_min (D2 46 x 1) (D2 43 0 k - D2 63 (10 * t + (D2 59 t 0 - 1)) 2 - 1) ≤ 99 ∧ 0 ≤ mi_min (D2 46 x 1) (D2 43 0 k - D2 63 (10 * t + (D2 59 t 0 - 1)) 2 - 1) := by unfold mi_min; split <;> omega
        rw [pu_w (x := 1 + _) (by omega) (by omega), pu_w (by omega) (by omega)]
        unfold mi_min
        split <;> split <;> omega
      rw [← e1]
      have b2 : 0 ≤ mi_min (mi_w (D2 63 (10 * t + (D2 59 t 0 - 1)) 2 + 1 + D2 46 x 1)) (D2 43 0 k) ∧ mi_min (mi_w (D2 63 (10 * t + (D2 59 t 0 - 1)) 2 + 1 + D2 46 x 1)) (D2 43 0 k) ≤ 24 := by
        rw [pu_w (x := D2 63 (10 * t + (D2 59 t 0 - 1)) 2 + 1 + D2 46 x 1) (by omega) (by omega)]
        unfold mi_min; split <;> omega
      generalize mi_min (mi_w (D2 63 (10 * t + (D2 59 t 0 - 1)) 2 + 1 + D2 46 x 1)) (D2 43 0 k) = a at b2 ⊢
      refine ⟨_, _, _, rfl, rfl, pu_midS (n := D2 59 t 0) (r := 0) (a := a) (b := D2 63 (10 * t + (D2 59 t 0 - 1)) 3) (z := 0) hw ht h h0 (fun q j i => ?_) (fun q j i => ?_) (by omega) (by decide) b2 (by decide) (fun z => by omega)⟩
      · unfold pu_c1; clear h K hd hC C7 dR F c7 c46 e1; grind (splits := 30) [mi_st]
      · unfold pu_c2; clear h K hd hC C7 dR F c7 c46 e1; grind (splits := 30) [mi_st]
    · rw [n1, n3]
      simp only [mi_bi, if_true, mi_let]
      rw [pu_w (x := 1 + 0) (by omega) (by omega), pu_w (x := D2 63 (10 * t + (D2 59 t 0 - 1)) 2 + (1 + 0)) (by omega) (by omega), show D2 63 (10 * t + (D2 59 t 0 - 1)) 2 + (1 + 0) = D2 63 (10 * t + (D2 59 t 0 - 1)) 2 + 1 by omega]
      refine ⟨_, _, _, rfl, rfl, pu_midS (n := D2 59 t 0) (r := 0) (a := D2 63 (10 * t + (D2 59 t 0 - 1)) 2 + 1) (b := D2 63 (10 * t + (D2 59 t 0 - 1)) 3) (z := 0) hw ht h h0 (fun q j i => ?_) (fun q j i => ?_) (by omega) (by decide) (by omega) (by decide) (fun z => by omega)⟩
      · unfold pu_c1; clear h K hd hC C7 dR F c7 c46; grind (splits := 30) [mi_st]
      · unfold pu_c2; clear h K hd hC C7 dR F c7 c46; grind (splits := 30) [mi_st]
  ·
    have v3 : ∀ v : Int, mi_st (pu_c2 t D2) 63 (10 * t + (D2 59 t 0 - 1)) 3 v 63 (10 * t + (D2 59 t 0 - 1)) 2 = D2 63 (10 * t + (D2 59 t 0 - 1)) 2 := fun v => by rw [pu_st, if_neg (by omega), pl]
    unfold B_X9_doDeed_208 B_X9_doDeed_229 B_X11_goesOn_285 B_X11_goesOn_298
    rcases h56 with rfl | rfl
    · have hs : mi_sm 5 = 17 := by rw [pu_sm (by decide)]; rfl
      rw [hs, d3]
      simp only [Int.reduceEq, Int.reduceLT, Int.reduceLE, if_true, if_false, hT, he, hq, d1, and_self, mi_let, v3, ne_eq, not_true_eq_false, not_false_eq_true, show (0 : Int) ≤ 3 ∧ (3 : Int) < 4 by decide]
      rw [pu_w (x := D2 63 (10 * t + (D2 59 t 0 - 1)) 2 + 1) (by omega) (by omega)]
      refine ⟨_, _, _, rfl, rfl, pu_midS (n := D2 59 t 0) (r := 0) (a := D2 63 (10 * t + (D2 59 t 0 - 1)) 2 + 1) (b := 1) (z := 0) hw ht h h0 (fun q j i => ?_) (fun q j i => ?_) (by omega) (by decide) (by omega) (by decide) (fun z => by omega)⟩
      · unfold pu_c1; clear h K hd hC C7 dR F c7 c46 v3; grind (splits := 30) [mi_st]
      · unfold pu_c2; clear h K hd hC C7 dR F c7 c46 v3; grind (splits := 30) [mi_st]
    · have hs : mi_sm 6 = 18 := by rw [pu_sm (by decide)]; rfl
      rw [hs, d3]
      simp only [Int.reduceEq, Int.reduceLT, Int.reduceLE, if_true, if_false, hT, he, hq, d1, and_self, mi_let, v3, ne_eq, not_true_eq_false, not_false_eq_true, show (0 : Int) ≤ 3 ∧ (3 : Int) < 4 by decide]
      rw [pu_w (x := D2 63 (10 * t + (D2 59 t 0 - 1)) 2 + 1) (by omega) (by omega)]
      refine ⟨_, _, _, rfl, rfl, pu_midS (n := D2 59 t 0) (r := 0) (a := D2 63 (10 * t + (D2 59 t 0 - 1)) 2 + 1) (b := 0) (z := 0) hw ht h h0 (fun q j i => ?_) (fun q j i => ?_) (by omega) (by decide) (by omega) (by decide) (fun z => by omega)⟩
      · unfold pu_c1; clear h K hd hC C7 dR F c7 c46 v3; grind (splits := 30) [mi_st]
      · unfold pu_c2; clear h K hd hC C7 dR F c7 c46 v3; grind (splits := 30) [mi_st]
  ·
    have hs : mi_sm o = o - 6 := by rw [pu_sm d4, if_neg (by omega), if_neg (by omega)]
    obtain ⟨a, b, ea, eb, hm⟩ := pu_midD hw ht h h0 hr (by omega) hd
    rw [hs]
    simp only [show ¬ o - 6 = 13 by omega, show ¬ o - 6 = 14 by omega, show ¬ o - 6 = 15 by omega, show ¬ o - 6 = 16 by omega, show ¬ o - 6 = 17 by omega, show ¬ o - 6 = 18 by omega, show ¬ o - 6 = 19 by omega, show ¬ o = 0 by omega, show ¬ o = 1 by omega, show ¬ o = 2 by omega, show ¬ o = 3 by omega, show ¬ o = 4 by omega, show ¬ o = 5 by omega, show ¬ o = 6 by omega, if_false, if_true, hT, he, hq, d2, and_self]
    rw [ea, eb]
    simp only [mi_b2, mi_bi]
    exact ⟨_, _, _, rfl, rfl, hm⟩
