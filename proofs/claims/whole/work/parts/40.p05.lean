theorem pu_A.o {w : Int} {Z : MiZ} {D1 D2 E1 E2 : MiD} (hw : 0 ≤ w ∧ w < 2) (h : pu_A w Z D1 D2) (f1 : ∀ (q : Nat) (j i : Int), q ≠ 0 → q ≠ 1 → q ≠ 9 → q ≠ 10 → E1 q j i = D1 q j i) (f2 : ∀ (q : Nat) (j i : Int), ¬ (q = 40 ∧ i ≠ 11) → q ≠ 41 → q ≠ 42 → q ≠ 0 → q ≠ 66 → q ≠ 67 → E2 q j i = D2 q j i) : pu_A w Z E1 E2 := by
  have g : ∀ (q : Nat) (j i : Int), q ≠ 40 → q ≠ 41 → q ≠ 42 → q ≠ 0 → q ≠ 66 → q ≠ 67 → E2 q j i = D2 q j i := fun q j i a b c d e f => f2 q j i (fun z => a z.1) b c d e f
  have p4 : E2 40 0 11 = D2 40 0 11 := f2 _ _ _ (fun z => z.2 rfl) (by decide) (by decide) (by decide) (by decide) (by decide)
  have W := h.w
  refine ⟨h.d.o (fun q j i z => f1 q j i (by omega) (by omega) (by omega) (by omega)) (fun q j i z => g q j i (by omega) (by omega) (by omega) (by omega) (by omega) (by omega)), h.p.kept ⟨fun q j i z => f1 q j i (by omega) (by omega) (by omega) (by omega), fun q j i z => g q j i (by omega) (by omega) (by omega) (by omega) (by omega) (by omega), p4⟩, fun s a b => ?_, ?_⟩
  · have K := h.t s a b
    refine K.keep (fun i _ => f1 _ _ _ (by decide) (by decide) (by decide) (by decide)) ?_ (fun q i z => f1 _ _ _ (by omega) (by omega) (by omega) (by omega)) (fun i => f1 _ _ _ (by decide) (by decide) (by decide) (by decide)) (fun i _ => g _ _ _ (by decide) (by decide) (by decide) (by decide) (by decide) (by decide)) (g _ _ _ (by decide) (by decide) (by decide) (by decide) (by decide) (by decide)) (fun j i => g _ _ _ (by decide) (by decide) (by decide) (by decide) (by decide) (by decide)) p4 (fun p => g _ _ _ (by decide) (by decide) (by decide) (by decide) (by decide) (by decide))
    rw [f1 _ _ _ (by decide) (by decide) (by decide) (by decide)]
    exact K.tu
  · obtain ⟨b1, b2, b3, b4, b5, b6, b7, b8, b9, b10, b11, b12, b13, b14, b15, b16, b17, b18, b19, b20⟩ := W
    have q2 : ∀ i j : Int, E1 2 j i = D1 2 j i := fun i j => f1 _ _ _ (by decide) (by decide) (by decide) (by decide)
    have q4 : ∀ i j : Int, E1 4 j i = D1 4 j i := fun i j => f1 _ _ _ (by decide) (by decide) (by decide) (by decide)
    have q15 : ∀ i j : Int, E1 15 j i = D1 15 j i := fun i j => f1 _ _ _ (by decide) (by decide) (by decide) (by decide)
    have q16 : ∀ i j : Int, E1 16 j i = D1 16 j i := fun i j => f1 _ _ _ (by decide) (by decide) (by decide) (by decide)
    have r65 : ∀ i j : Int, E2 65 j i = D2 65 j i := fun i j => g _ _ _ (by decide) (by decide) (by decide) (by decide) (by decide) (by decide)
    have r64 : ∀ i j : Int, E2 64 j i = D2 64 j i := fun i j => g _ _ _ (by decide) (by decide) (by decide) (by decide) (by decide) (by decide)
    have r59 : ∀ i j : Int, E2 59 j i = D2 59 j i := fun i j => g _ _ _ (by decide) (by decide) (by decide) (by decide) (by decide) (by decide)
    have r49 : ∀ i j : Int, E2 49 j i = D2 49 j i := fun i j => g _ _ _ (by decide) (by decide) (by decide) (by decide) (by decide) (by decide)
    refine ⟨?_, ?_, ?_, ?_, ?_, ?_, ?_, ?_, ?_, ?_, ?_, ?_, ?_, ?_, ?_, ?_, ?_, ?_, ?_, ?_⟩
    all_goals (simp only [q2, q4, q15, q16, r65, r64, r59, r49, p4]; assumption)
def pu_cl (D1 D2 : MiD) : Prop := (D1 1 0 6 = D2 41 0 0) ∧ (D1 1 0 7 = D2 41 0 1) ∧ (D1 1 0 8 = D2 41 0 2) ∧ (D1 1 0 3 = D2 40 0 11) ∧ (D1 1 0 1 = D2 40 0 2) ∧ (0 ≤ D2 40 0 2) ∧ (D2 40 0 2 ≤ 500) ∧ (D1 1 0 2 = D2 40 0 5) ∧ (∀ i : Int, 0 ≤ i → i < D2 40 0 2 → -128 ≤ D1 10 0 i ∧ D1 10 0 i < 128 ∧ D2 42 0 i = D1 10 0 i % 256)
theorem pu_cl.r0 {D1 D2 : MiD} (h : pu_cl D1 D2) : D1 1 0 6 = D2 41 0 0 := h.1
theorem pu_cl.r1 {D1 D2 : MiD} (h : pu_cl D1 D2) : D1 1 0 7 = D2 41 0 1 := h.2.1
theorem pu_cl.r2 {D1 D2 : MiD} (h : pu_cl D1 D2) : D1 1 0 8 = D2 41 0 2 := h.2.2.1
theorem pu_cl.pc {D1 D2 : MiD} (h : pu_cl D1 D2) : D1 1 0 3 = D2 40 0 11 := h.2.2.2.1
theorem pu_cl.tb {D1 D2 : MiD} (h : pu_cl D1 D2) : D1 1 0 1 = D2 40 0 2 := h.2.2.2.2.1
theorem pu_cl.tb0 {D1 D2 : MiD} (h : pu_cl D1 D2) : 0 ≤ D2 40 0 2 := h.2.2.2.2.2.1
theorem pu_cl.tb1 {D1 D2 : MiD} (h : pu_cl D1 D2) : D2 40 0 2 ≤ 500 := h.2.2.2.2.2.2.1
theorem pu_cl.fp {D1 D2 : MiD} (h : pu_cl D1 D2) : D1 1 0 2 = D2 40 0 5 := h.2.2.2.2.2.2.2.1
theorem pu_cl.ta {D1 D2 : MiD} (h : pu_cl D1 D2) : ∀ i : Int, 0 ≤ i → i < D2 40 0 2 → -128 ≤ D1 10 0 i ∧ D1 10 0 i < 128 ∧ D2 42 0 i = D1 10 0 i % 256 := h.2.2.2.2.2.2.2.2
def pu_MB (D2 : MiD) : Prop := ∀ p f : Int, 0 ≤ p → p < D2 40 0 11 → 0 ≤ f → f < 12 → B_X11_isBit (D2 47 0 p) f ≠ 0 → 12 + 11 * p ≤ D2 51 p f ∧ D2 51 p f < 20 + 11 * p
theorem pu_MB.k {D2 G : MiD} (h : pu_MB D2) (f : ∀ (q : Nat) (j i : Int), q = 47 ∨ q = 51 ∨ q = 40 ∧ i = 11 → G q j i = D2 q j i) : pu_MB G := fun p g a b c d e => by
  rw [f _ _ _ (Or.inr (Or.inr ⟨rfl, rfl⟩))] at b
  rw [f 47 _ _ (Or.inl rfl)] at e
  rw [f 51 _ _ (Or.inr (Or.inl rfl))]
  exact h p g a b c d e
def pu_L (Z : MiZ) (D1 D2 : MiD) : Prop := (pu_A 0 Z D1 D2) ∧ (pu_cl D1 D2) ∧ (pu_MB D2)
theorem pu_L.a {Z : MiZ} {D1 D2 : MiD} (h : pu_L Z D1 D2) : pu_A 0 Z D1 D2 := h.1
theorem pu_L.c {Z : MiZ} {D1 D2 : MiD} (h : pu_L Z D1 D2) : pu_cl D1 D2 := h.2.1
theorem pu_L.m {Z : MiZ} {D1 D2 : MiD} (h : pu_L Z D1 D2) : pu_MB D2 := h.2.2
def pu_o0 : Nat → Int := fun k => if k = 0 then 1 else 0
def pu_o1 : Nat → Int := fun k => if k = 1 then 1 else 0
def pu_o2 : Nat → Int := fun k => if k = 2 then 1 else 0
def pu_m01 : Nat → Int := fun k => if k = 0 then 1 else if k = 1 then 2 else 0
def pu_m02 : Nat → Int := fun k => if k = 0 then 1 else if k = 2 then 2 else 0
def pu_ans (mp : Nat → Int) (Z : MiZ) (D1 D2 : MiD) (a : Option ((Int × MiD) ⊕ (Nat × MiD))) (b : Option (Int × MiD)) : Prop :=
  (∃ v E G, a = some (.inl (v, E)) ∧ b = some (v, G) ∧ G 40 0 0 = 0 ∧ pu_L Z E G ∧ (∀ i : Int, E 0 0 i = D1 0 0 i) ∧ ∀ i : Int, G 0 0 i = D2 0 0 i) ∨
  (∃ k E v G, a = some (.inr (k, E)) ∧ b = some (v, G) ∧ G 40 0 0 = mp k ∧ mp k ≠ 0 ∧ k < 3 ∧ pu_L Z E G ∧ E 0 0 0 = D1 0 0 0 + 1 ∧ E 0 0 1 = D1 0 0 1 + 6 ∧ ∀ i : Int, G 0 0 i = D2 0 0 i)
theorem pu_bad0 {w r : Int} {D : MiD} (h : D 40 0 0 = 0) : B_X11_bad 0 w r D = some (0, D) := by
  unfold B_X11_bad B_X11_bad_26
  rw [if_pos rfl, if_pos h]
theorem pu_bad1 {w r : Int} {D : MiD} (h : D 40 0 0 = 0) (hw : w ≠ 0) (hr : 0 ≤ r ∧ r < 3) : B_X11_bad 1 w r D = some (1, mi_st (mi_st D 40 0 0 w) 41 0 r (mi_w (D 41 0 r + 1))) := by
  unfold B_X11_bad B_X11_bad_26
  rw [if_neg (by decide), if_neg (fun z => z h), pu_letE, if_pos hr, pu_letE]
  have e : mi_st (mi_st D 40 0 0 w) 41 0 r (mi_w (mi_st D 40 0 0 w 41 0 r + 1)) 40 0 0 = w := by rw [pu_st, if_neg (by omega), pu_st_eq]
  rw [if_neg (by rw [e]; exact hw), pu_st (r' := 41) (D := D), if_neg (by omega)]
def pu_rf1 (r : Int) (D : MiD) : MiD := mi_xc (mi_st D 1 0 (6 + r) (mi_w (D 1 0 (6 + r) + 1)))
def pu_rf2 (w r : Int) (D : MiD) : MiD := mi_st (mi_st (mi_st D 40 0 0 0) 40 0 0 w) 41 0 r (mi_w (mi_st D 40 0 0 0 41 0 r + 1))
theorem pu_rf {Z : MiZ} {w r : Int} {D1 D2 : MiD} (hr : 0 ≤ r ∧ r < 3) (h : pu_L Z D1 D2) : pu_L Z (pu_rf1 r D1) (pu_rf2 w r D2) ∧ pu_rf2 w r D2 40 0 0 = w ∧ pu_rf1 r D1 0 0 0 = D1 0 0 0 + 1 ∧ pu_rf1 r D1 0 0 1 = D1 0 0 1 + 6 ∧ ∀ i : Int, pu_rf2 w r D2 0 0 i = D2 0 0 i := by
  have o1 : ∀ (q : Nat) (j i : Int), q ≠ 0 → ¬ (q = 1 ∧ j = 0 ∧ i = 6 + r) → pu_rf1 r D1 q j i = D1 q j i := fun q j i a b => by
    unfold pu_rf1 mi_xc
    rw [pu_st, if_neg (by omega), pu_st, if_neg (by omega), pu_st, if_neg b]
  have o2 : ∀ (q : Nat) (j i : Int), ¬ (q = 40 ∧ j = 0 ∧ i = 0) → ¬ (q = 41 ∧ j = 0 ∧ i = r) → pu_rf2 w r D2 q j i = D2 q j i := fun q j i a b => by
    unfold pu_rf2
    rw [pu_st, if_neg b, pu_st, if_neg a, pu_st, if_neg a]
  have v1 : pu_rf1 r D1 1 0 (6 + r) = mi_w (D1 1 0 (6 + r) + 1) := by
    unfold pu_rf1 mi_xc
    rw [pu_st, if_neg (by omega), pu_st, if_neg (by omega), pu_st_eq]
  have v2 : pu_rf2 w r D2 41 0 r = mi_w (D2 41 0 r + 1) := by
    unfold pu_rf2
    rw [pu_st_eq, pu_st, if_neg (by omega)]
  have C := h.c
  refine ⟨⟨h.a.o (by decide) (fun q j i a b _ _ => o1 q j i a (by omega)) (fun q j i a b _ _ _ _ => o2 q j i (by omega) (by omega)), ?_, h.m.k fun q j i a => o2 q j i (by omega) (by omega)⟩, ?_, ?_, ?_, fun i => o2 _ _ _ (by omega) (by omega)⟩
  · have hr3 : r = 0 ∨ r = 1 ∨ r = 2 := by omega
    obtain ⟨c1, c2, c3, c4, c5, c6, c7, c8, c9⟩ := C
    refine ⟨?_, ?_, ?_, ?_, ?_, ?_, ?_, ?_, fun i a b => ?_⟩
    · by_cases e : r = 0
      · subst e; rw [v2]; exact v1.trans (by rw [show (6 : Int) + 0 = 6 by decide, c1])
      · rw [o1 _ _ _ (by decide) (by omega), o2 _ _ _ (by omega) (by omega)]; exact c1
    · by_cases e : r = 1
      · subst e; rw [v2]; exact v1.trans (by rw [show (6 : Int) + 1 = 7 by decide, c2])
      · rw [o1 _ _ _ (by decide) (by omega), o2 _ _ _ (by omega) (by omega)]; exact c2
    · by_cases e : r = 2
      · subst e; rw [v2]; exact v1.trans (by rw [show (6 : Int) + 2 = 8 by decide, c3])
      · rw [o1 _ _ _ (by decide) (by omega), o2 _ _ _ (by omega) (by omega)]; exact c3
    · rw [o1 _ _ _ (by decide) (by omega), o2 _ _ _ (by omega) (by omega)]; exact c4
    · rw [o1 _ _ _ (by decide) (by omega), o2 _ _ _ (by omega) (by omega)]; exact c5
    · rw [o2 _ _ _ (by omega) (by omega)]; exact c6
    · rw [o2 _ _ _ (by omega) (by omega)]; exact c7
    · rw [o1 _ _ _ (by decide) (by omega), o2 _ _ _ (by omega) (by omega)]; exact c8
    · rw [o2 _ _ _ (by omega) (by omega)] at b
      rw [o1 _ _ _ (by decide) (by omega), o2 _ _ _ (by omega) (by omega)]; exact c9 i a b
  · unfold pu_rf2
    rw [pu_st, if_neg (by omega), pu_st_eq]
  · unfold pu_rf1 mi_xc
    rw [pu_st, if_neg (by omega), pu_st_eq, pu_st, if_neg (by omega)]
  · unfold pu_rf1 mi_xc
    rw [pu_st_eq, pu_st, if_neg (by omega)]
theorem pu_L.z {Z : MiZ} {D1 D2 : MiD} (h : pu_L Z D1 D2) : pu_L Z D1 (mi_st D2 40 0 0 0) := by
  have o2 : ∀ (q : Nat) (j i : Int), ¬ (q = 40 ∧ j = 0 ∧ i = 0) → mi_st D2 40 0 0 0 q j i = D2 q j i := fun q j i a => by rw [pu_st, if_neg a]
  refine ⟨h.a.o (by decide) (fun _ _ _ _ _ _ _ => rfl) (fun q j i a b _ _ _ _ => o2 q j i (by omega)), ?_, h.m.k fun q j i a => o2 q j i (by omega)⟩
  obtain ⟨c1, c2, c3, c4, c5, c6, c7, c8, c9⟩ := h.c
  have p41 : ∀ i : Int, mi_st D2 40 0 0 0 41 0 i = D2 41 0 i := fun i => o2 _ _ _ (by omega)
  have p2 : mi_st D2 40 0 0 0 40 0 2 = D2 40 0 2 := o2 _ _ _ (by omega)
  have p5 : mi_st D2 40 0 0 0 40 0 5 = D2 40 0 5 := o2 _ _ _ (by omega)
  have p11 : mi_st D2 40 0 0 0 40 0 11 = D2 40 0 11 := o2 _ _ _ (by omega)
  refine ⟨by rw [p41]; exact c1, by rw [p41]; exact c2, by rw [p41]; exact c3, by rw [p11]; exact c4, by rw [p2]; exact c5, by rw [p2]; exact c6, by rw [p2]; exact c7, by rw [p5]; exact c8, fun i a b => ?_⟩
  rw [o2 _ _ _ (by omega)] at b
  rw [o2 _ _ _ (by omega)]
  exact c9 i a b
theorem pu_L.t {Z : MiZ} {D1 D2 E G : MiD} (h : pu_L Z D1 D2) (a : pu_A 0 Z E G) (f1 : pu_t1 0 D1 E) (f2 : pu_t2 D2 G) : pu_L Z E G ∧ (∀ i : Int, E 0 0 i = D1 0 0 i) ∧ (∀ i : Int, G 0 0 i = D2 0 0 i) ∧ G 40 0 0 = D2 40 0 0 := by
  have p1 : ∀ i : Int, E 1 0 i = D1 1 0 i := fun i => f1 _ _ _ (by omega) (by omega) (by omega) (by omega)
  have p10 : ∀ i : Int, E 10 0 i = D1 10 0 i := fun i => f1 _ _ _ (by omega) (by omega) (by omega) (by omega)
  have q41 : ∀ i : Int, G 41 0 i = D2 41 0 i := fun i => f2 _ _ _ (by omega) (by omega)
  have q42 : ∀ i : Int, G 42 0 i = D2 42 0 i := fun i => f2 _ _ _ (by omega) (by omega)
  have q2 : G 40 0 2 = D2 40 0 2 := f2 _ _ _ (by omega) (by omega)
  have q5 : G 40 0 5 = D2 40 0 5 := f2 _ _ _ (by omega) (by omega)
  have q11 : G 40 0 11 = D2 40 0 11 := f2 _ _ _ (by omega) (by omega)
  obtain ⟨c1, c2, c3, c4, c5, c6, c7, c8, c9⟩ := h.c
  refine ⟨⟨a, ⟨by rw [p1, q41]; exact c1, by rw [p1, q41]; exact c2, by rw [p1, q41]; exact c3, by rw [p1, q11]; exact c4, by rw [p1, q2]; exact c5, by rw [q2]; exact c6, by rw [q2]; exact c7, by rw [p1, q5]; exact c8, fun i x y => ?_⟩, h.m.k fun q j i a => f2 q j i (by omega) (by omega)⟩, fun i => f1 _ _ _ (by omega) (by omega) (by omega) (by omega), fun i => f2 _ _ _ (by omega) (by omega), f2 _ _ _ (by omega) (by omega)⟩
  rw [q2] at y
  rw [p10, q42]
  exact c9 i x y
theorem pu_b2E {α : Type} {x : Int} {D : MiD} {f : Int → MiD → Option α} : mi_b2 (some (x, D)) f = f x D := Eq.symm (Eq.symm (Eq.refl (f x D)))
theorem pu_nE {γ : Type} {D : MiD} {t : Nat × MiD → γ} {f : MiD → Option γ} : mi_bn (B_X10_needElement 0 D) t f = some (t (0, pu_rf1 0 D)) := rfl
theorem pu_nA {γ : Type} {D : MiD} {t : Nat × MiD → γ} {f : MiD → Option γ} : mi_bn (B_X10_needArgument 0 D) t f = some (t (1, pu_rf1 1 D)) := rfl
theorem pu_nS {γ : Type} {D : MiD} {t : Nat × MiD → γ} {f : MiD → Option γ} : mi_bn (B_X10_needState 0 D) t f = some (t (2, pu_rf1 2 D)) := rfl
theorem pu_nE1 {γ : Type} {D : MiD} {t : Nat × MiD → γ} {f : MiD → Option γ} : mi_bn (B_X10_needElement 1 D) t f = f D := rfl
theorem pu_nA1 {γ : Type} {D : MiD} {t : Nat × MiD → γ} {f : MiD → Option γ} : mi_bn (B_X10_needArgument 1 D) t f = f D := rfl
theorem pu_nS1 {γ : Type} {D : MiD} {t : Nat × MiD → γ} {f : MiD → Option γ} : mi_bn (B_X10_needState 1 D) t f = f D := rfl
theorem pu_ans.rf {mp : Nat → Int} {Z : MiZ} {D1 D2 : MiD} (h : pu_L Z D1 D2) {k : Nat} {v r : Int} {a : Option ((Int × MiD) ⊕ (Nat × MiD))} {b : Option (Int × MiD)} (hk : k < 3) (hr : r = (k : Int)) (hm : mp k ≠ 0) (ha : a = some (.inr (k, pu_rf1 r D1))) (hb : b = some (v, pu_rf2 (mp k) r D2)) : pu_ans mp Z D1 D2 a b := by
  obtain ⟨q1, q2, q3, q4, q5⟩ := pu_rf (w := mp k) (r := r) (by omega) h
  exact Or.inr ⟨k, _, v, _, ha, hb, q2, hm, hk, q1, q3, q4, q5⟩
theorem pu_go_l {Z : MiZ} {n : Int} (hn : n ≤ 60) (b : Int) : ∀ (f : Nat) (i : Int) (D1 D2 : MiD), pu_A 0 Z D1 D2 → 0 ≤ i → i ≤ 60 → 60 - i < f →
    ∃ v E G, B_X10_go_30 Z f n b i D1 = some (.inl (v, E)) ∧ B_X11_go_41 f n b i D2 = some (v, G) ∧ pu_A 0 Z E G ∧ pu_t1 0 D1 E ∧ pu_t2 D2 G
  | 0, i, D1, D2, h, h1, h2, h3 => by omega
  | f + 1, i, D1, D2, h, h1, h2, h3 => by
    unfold B_X10_go_30 B_X11_go_41
    by_cases c : n ≤ i
    · rw [if_pos c, if_pos c, h.w.tp]
      exact ⟨_, _, _, rfl, rfl, h, pu_t1.rf, pu_t2.rf⟩
    · rw [if_neg c, if_neg c, pu_w (x := i + 1) (by omega) (by omega)]
      obtain ⟨E, G, k1, k2, k3, k4, k5⟩ := pu_tick (by decide) h
      rw [k1, k2, pu_biE, pu_biE]
      obtain ⟨v, E', G', m1, m2, m3, m4, m5⟩ := pu_go_l hn b f (i + 1) E G k3 (by omega) (by omega) (by omega)
      exact ⟨v, E', G', m1, m2, m3, k4.tr m4, k5.tr m5⟩
theorem pu_go_no {Z : MiZ} {D1 D2 : MiD} {n : Int} (h : pu_L Z D1 D2) (c : ¬ (1 ≤ n ∧ n ≤ 60)) : pu_ans pu_o1 Z D1 D2 (B_X10_go Z n D1) (B_X11_go n D2) := by
  have hz : mi_st D2 40 0 0 0 40 0 0 = 0 := pu_st_eq
  refine pu_ans.rf (k := 1) (v := 0) (r := 1) h (by decide) rfl (by decide) ?_ ?_
  · unfold B_X10_go B_X10_go_16 B_X10_go_17
    rw [if_pos (show (0 : Int) = 0 ∨ (0 : Int) = 1 from Or.inl rfl), pu_nA]
    by_cases c1 : n < 1
    · rw [if_pos c1]
    · rw [if_neg c1, if_pos (by omega)]
  · unfold B_X11_go B_X11_go_21
    rw [pu_letE, pu_in, if_neg c, if_neg (fun z => z rfl), if_pos (Or.inr rfl), pu_bad1 hz (by decide) (by decide)]
    rfl
theorem pu_go_yes {Z : MiZ} {D1 D2 : MiD} {n : Int} (h : pu_L Z D1 D2) (c : 1 ≤ n ∧ n ≤ 60) : pu_ans pu_o1 Z D1 D2 (B_X10_go Z n D1) (B_X11_go n D2) := by
  have hz : mi_st D2 40 0 0 0 40 0 0 = 0 := pu_st_eq
  have hL := h.z
  have e : mi_st D2 40 0 0 0 65 0 6 = D1 2 0 12 := by rw [pu_st, if_neg (by omega)]; exact h.a.w.tp.symm
  obtain ⟨v, E, G, m1, m2, m3, m4, m5⟩ := pu_go_l (Z := Z) c.2 (D1 2 0 12) mi_fuel 0 D1 _ hL.a (by decide) (by decide) (by have := pu_fuelE; omega)
  obtain ⟨q1, q2, q3, q4⟩ := hL.t m3 m4 m5
  refine Or.inl ⟨v, E, G, ?_, ?_, q4.trans hz, q1, q2, fun i => (q3 i).trans (by rw [pu_st, if_neg (by omega)])⟩
  · unfold B_X10_go B_X10_go_17
    rw [if_neg (by omega), if_neg (by omega), if_pos (show (1 : Int) = 0 ∨ (1 : Int) = 1 from Or.inr rfl), pu_nA1]
    exact m1
  · unfold B_X11_go B_X11_go_21
    rw [pu_letE, pu_in, if_pos c, if_pos (show (1 : Int) ≠ 0 by decide), if_pos (Or.inl rfl), pu_bad0 hz]
    rw [pu_b2E, if_pos rfl, e]
    exact m2
theorem pu_drop {w t : Int} {Z : MiZ} {D1 D2 : MiD} (hw : 0 ≤ w ∧ w < 2) (ht : 0 ≤ t ∧ t < 6) (h : pu_A w Z D1 D2) : pu_A w Z (mi_st (mi_st D1 4 (6 * w + t) 4 0) 4 (6 * w + t) 5 0) (mi_st (mi_st D2 59 t 0 0) 59 t 3 0) := by
  generalize hE : mi_st (mi_st D1 4 (6 * w + t) 4 0) 4 (6 * w + t) 5 0 = E
  generalize hG : mi_st (mi_st D2 59 t 0 0) 59 t 3 0 = G
  have o1 : ∀ (q : Nat) (j i : Int), ¬ (q = 4 ∧ j = 6 * w + t ∧ (i = 4 ∨ i = 5)) → E q j i = D1 q j i := fun q j i z => by rw [← hE, pu_st, if_neg (by omega), pu_st, if_neg (by omega)]
  have o2 : ∀ (q : Nat) (j i : Int), ¬ (q = 59 ∧ j = t ∧ (i = 0 ∨ i = 3)) → G q j i = D2 q j i := fun q j i z => by rw [← hG, pu_st, if_neg (by omega), pu_st, if_neg (by omega)]
  have e4 : E 4 (6 * w + t) 4 = 0 := by rw [← hE, pu_st, if_neg (by omega), pu_st_eq]
  have e5 : E 4 (6 * w + t) 5 = 0 := by rw [← hE, pu_st_eq]
  have g0 : G 59 t 0 = 0 := by rw [← hG, pu_st, if_neg (by omega), pu_st_eq]
  have g3 : G 59 t 3 = 0 := by rw [← hG, pu_st_eq]
  have K := h.t t ht.1 ht.2
  refine h.act hw ht (fun q j i a b c d => o1 q j i (by omega)) (fun q j i a b c d e f => o2 q j i (by omega)) (h.d.o (fun q j i z => o1 q j i (by omega)) (fun q j i z => o2 q j i (by omega))) ?_ (o1 _ _ _ (by omega)) (o2 _ _ _ (by omega)) (o2 _ _ _ (by omega)) (by rw [o1 _ _ _ (by omega), o2 _ _ _ (by omega)]; exact h.w.tp)
  obtain ⟨a1, a2, a3, a4, a5, a6, a7, a8, a9, a10, a11, a12, a13, a14, a15⟩ := K
  refine ⟨by rw [e4, g0], by omega, by omega, by rw [e5, g3], by omega, by omega, ?_, ?_, ?_, ?_, ?_, ?_, ?_, fun e x y => by omega, fun y => by omega⟩
  · rw [o1 _ _ _ (by omega), o2 _ _ _ (by omega)]; exact a7
  · rw [o2 _ _ _ (by omega)]; exact a8
  · rw [o2 _ _ _ (by omega)]; exact a9
  · rw [o1 _ _ _ (by omega), o2 _ _ _ (by omega)]; exact a10
  · rw [o1 _ _ _ (by omega), o2 _ _ _ (by omega)]; exact a11
  · rw [o1 _ _ _ (by omega)]; exact a12
  · unfold pu_v at a13 ⊢
    rw [o1 _ _ _ (by omega), o1 _ _ _ (by omega), o2 _ _ _ (by omega), o2 _ _ _ (by omega)]
    exact a13
theorem pu_kill {Z : MiZ} {D1 D2 : MiD} {t : Int} (h : pu_L Z D1 D2) : pu_ans pu_o0 Z D1 D2 (B_X10_kill Z t D1) (B_X11_kill t D2) := by
  have hz : mi_st D2 40 0 0 0 40 0 0 = 0 := pu_st_eq
  by_cases c : 0 ≤ t ∧ t < 6
  · have hL := h.z
    have hD := pu_drop (by decide) c hL.a
    obtain ⟨E, G, k1, k2, k3, k4, k5⟩ := pu_settle (by decide) hD
    have F1 : pu_t1 0 D1 E := (show pu_t1 0 D1 _ from fun q j i a b c' d => by rw [pu_st, if_neg (by omega), pu_st, if_neg (by omega)]).tr k4.t
    have F2 : pu_t2 (mi_st D2 40 0 0 0) G := (show pu_t2 (mi_st D2 40 0 0 0) _ from fun q j i a b => by rw [pu_st (r := 59), if_neg (by omega), pu_st (r := 59), if_neg (by omega)]).tr k5.t
    obtain ⟨q1, q2, q3, q4⟩ := hL.t k3 F1 F2
    refine Or.inl ⟨D1 4 (6 * 0 + t) 4, E, G, ?_, ?_, q4.trans hz, q1, q2, fun i => (q3 i).trans (by rw [pu_st, if_neg (by omega)])⟩
    · unfold B_X10_kill B_X7_dropAll
      rw [pu_within, if_pos c, pu_nE1, if_pos c, pu_letE, pu_letE, pu_letE, pu_biE, k1, pu_biE]
    · unfold B_X11_kill B_X11_kill_19 B_X11_isTask
      rw [pu_letE, pu_in, if_pos (show 0 ≤ t ∧ t ≤ 5 by omega), if_pos (show (1 : Int) ≠ 0 by decide), if_pos (Or.inl rfl), pu_bad0 hz, pu_b2E, if_pos rfl, if_pos (show 0 ≤ t ∧ t < 7 by omega), pu_letE, pu_letE, k2, pu_biE, (hL.a.t t c.1 c.2).fr]
  · refine pu_ans.rf (k := 0) (v := 0) (r := 0) h (by decide) rfl (by decide) ?_ ?_
    · unfold B_X10_kill
      rw [pu_within, if_neg c, pu_nE]
    · unfold B_X11_kill B_X11_kill_19 B_X11_isTask
      rw [pu_letE, pu_in, if_neg (show ¬ (0 ≤ t ∧ t ≤ 5) by omega), if_neg (fun z => z rfl), if_pos (Or.inr rfl), pu_bad1 hz (by decide) (by decide), pu_b2E, if_neg (by decide)]
      rfl
def pu_m12 : Nat → Int := fun k => if k = 0 then 1 else 2
theorem pu_step {Z : MiZ} {D1 D2 : MiD} {t : Int} (h : pu_L Z D1 D2) : pu_ans pu_m02 Z D1 D2 (B_X10_step Z t D1) (B_X11_step t D2) := by
  have hz : mi_st D2 40 0 0 0 40 0 0 = 0 := pu_st_eq
  by_cases c : 0 ≤ t ∧ t < 6
  · have hL := h.z
    have K := hL.a.t t c.1 c.2
    have fr0 := K.fr0
    by_cases i0 : mi_st D2 40 0 0 0 59 t 0 = 0
    · refine pu_ans.rf (k := 2) (v := 0) (r := 2) h (by decide) rfl (by decide) ?_ ?_
      · unfold B_X10_step B_X10_step_31
        rw [pu_within, if_pos c, pu_nE1, if_pos c, K.fr, if_pos (by omega), if_pos (show (0 : Int) = 0 ∨ (0 : Int) = 1 from Or.inl rfl), pu_nS]
      · unfold B_X11_step B_X11_step_19 B_X11_isTask B_X11_isIdle
        rw [pu_letE, pu_in, if_pos (show 0 ≤ t ∧ t ≤ 5 by omega), if_pos (show (1 : Int) ≠ 0 by decide), if_pos (Or.inl rfl), pu_bad0 hz, pu_b2E, if_neg (fun z => z rfl), if_pos (show 0 ≤ t ∧ t < 7 by omega), if_neg (fun z => z i0), pu_biE, if_pos (Or.inr rfl), pu_bad1 hz (by decide) (by decide), pu_b2E, if_neg (by decide)]
        rfl
    · obtain ⟨E0, b, u1, u2, u3⟩ := pu_act (Z := Z) (by decide) c hL.a (by omega)
      obtain ⟨E, G, k1, k2, k3, k4, k5⟩ := pu_settle (by decide) u3.a
      obtain ⟨q1, q2, q3, q4⟩ := hL.t k3 ((u3.f1.t (by decide) c).tr k4.t) (u3.f2.t.tr k5.t)
      have ans : E 4 (6 * 0 + t) 6 = b.1 := by
        rw [k4 _ _ _ (by omega) (by omega) (by omega) (by omega) (by omega), (u3.a.t t c.1 c.2).tr]
        exact u3.r.symm
      refine Or.inl ⟨b.1, E, G, ?_, ?_, q4.trans hz, q1, q2, fun i => (q3 i).trans (by rw [pu_st, if_neg (by omega)])⟩
      · unfold B_X10_step B_X10_step_31
        rw [pu_within, if_pos c, pu_nE1, if_pos c, K.fr, if_neg (by omega), if_pos (show (1 : Int) = 0 ∨ (1 : Int) = 1 from Or.inr rfl), pu_nS1, u1, pu_biE, k1, pu_biE, if_pos c, ans]
      · unfold B_X11_step B_X11_step_19 B_X11_isTask B_X11_isIdle
        rw [pu_letE, pu_in, if_pos (show 0 ≤ t ∧ t ≤ 5 by omega), if_pos (show (1 : Int) ≠ 0 by decide), if_pos (Or.inl rfl), pu_bad0 hz, pu_b2E, if_neg (fun z => z rfl), if_pos (show 0 ≤ t ∧ t < 7 by omega), if_pos i0, pu_biE, if_pos (Or.inl rfl), pu_bad0 hz, pu_b2E, if_pos rfl, u2]
        show mi_b2 (some (b.1, b.2)) _ = _
        rw [pu_b2E, k2, pu_biE]
  · refine pu_ans.rf (k := 0) (v := 0) (r := 0) h (by decide) rfl (by decide) ?_ ?_
    · unfold B_X10_step
      rw [pu_within, if_neg c, pu_nE]
    · unfold B_X11_step B_X11_step_19 B_X11_isTask
      rw [pu_letE, pu_in, if_neg (show ¬ (0 ≤ t ∧ t ≤ 5) by omega), if_neg (fun z => z rfl), if_pos (Or.inr rfl), pu_bad1 hz (by decide) (by decide), pu_b2E, if_pos (by decide)]
      rfl
theorem pu_ans.rd {mp : Nat → Int} {Z : MiZ} {D1 D2 : MiD} (h : pu_L Z D1 D2) {v : Int} {a : Option ((Int × MiD) ⊕ (Nat × MiD))} {b : Option (Int × MiD)} (ha : a = some (.inl (v, D1))) (hb : b = some (v, mi_st D2 40 0 0 0)) : pu_ans mp Z D1 D2 a b :=
  Or.inl ⟨v, D1, _, ha, hb, pu_st_eq, h.z, fun _ => rfl, fun i => by rw [pu_st, if_neg (by omega)]⟩
theorem pu_number {Z : MiZ} {D1 D2 : MiD} {t : Int} (h : pu_L Z D1 D2) : pu_ans pu_o0 Z D1 D2 (B_X10_number t D1) (B_X11_number_ t D2) := by
  have hz : mi_st D2 40 0 0 0 40 0 0 = 0 := pu_st_eq
  by_cases c : 0 ≤ t ∧ t < 6
  · refine pu_ans.rd h (v := mi_st D2 40 0 0 0 60 0 t) ?_ ?_
    · unfold B_X10_number
      rw [pu_within, if_pos c, pu_nE1, if_pos c, (h.z.a.t t c.1 c.2).v.2.1]
    · unfold B_X11_number_ B_X11_number__19 B_X11_isTask
      rw [pu_letE, pu_in, if_pos (show 0 ≤ t ∧ t ≤ 5 by omega), if_pos (show (1 : Int) ≠ 0 by decide), if_pos (Or.inl rfl), pu_bad0 hz, pu_b2E, if_pos rfl, if_pos (show 0 ≤ t ∧ t < 7 by omega)]
  · refine pu_ans.rf (k := 0) (v := 0) (r := 0) h (by decide) rfl (by decide) ?_ ?_
    · unfold B_X10_number
      rw [pu_within, if_neg c, pu_nE]
    · unfold B_X11_number_ B_X11_number__19 B_X11_isTask
      rw [pu_letE, pu_in, if_neg (show ¬ (0 ≤ t ∧ t ≤ 5) by omega), if_neg (fun z => z rfl), if_pos (Or.inr rfl), pu_bad1 hz (by decide) (by decide), pu_b2E, if_neg (by decide)]
      rfl
theorem pu_calls {Z : MiZ} {D1 D2 : MiD} {t f : Int} (h : pu_L Z D1 D2) : pu_ans pu_o0 Z D1 D2 (B_X10_calls Z t f D1) (B_X11_calls t f D2) := by
  have hz : mi_st D2 40 0 0 0 40 0 0 = 0 := pu_st_eq
  by_cases c : (0 ≤ t ∧ t < 6) ∧ (0 ≤ f ∧ f < 12)
  · have hL := h.z
    obtain ⟨p, p1, p2, -⟩ := pu_callee (E1 := D1) (E2 := mi_st D2 40 0 0 0) (by decide) c.1 c.2 hL.a rfl rfl (fun _ => rfl) rfl rfl rfl (fun _ => rfl) rfl (fun _ => rfl)
    refine pu_ans.rd h (v := p) ?_ ?_
    · unfold B_X10_calls B_X10_calls_24
      rw [pu_within, if_pos c.1, if_neg (by decide), pu_within, if_pos c.2, if_neg (by decide), if_pos (Or.inr rfl), pu_nE1, p1, pu_biE]
    · unfold B_X11_calls B_X11_calls_27 B_X11_isTask B_X11_isFunction
      rw [pu_letE, pu_in, if_pos (show 0 ≤ t ∧ t ≤ 5 by omega), if_neg (by decide), pu_in, if_pos (show 0 ≤ f ∧ f ≤ 11 by omega), if_pos (show (1 : Int) ≠ 0 by decide), if_pos (Or.inl rfl), pu_bad0 hz, pu_b2E, if_pos rfl, p2, pu_biE]
  · refine pu_ans.rf (k := 0) (v := 0) (r := 0) h (by decide) rfl (by decide) ?_ ?_
    · unfold B_X10_calls B_X10_calls_23 B_X10_calls_24
      rw [if_pos (show (0 : Int) = 0 ∨ (0 : Int) = 1 from Or.inl rfl), pu_nE]
      by_cases c1 : 0 ≤ t ∧ t < 6
      · rw [pu_within, if_pos c1, if_neg (by decide), pu_within, if_neg (fun z => c ⟨c1, z⟩), if_pos rfl]
      · rw [pu_within, if_neg c1, if_pos rfl]
    · have u : B_X11_calls_22 t f (mi_st D2 40 0 0 0) = some (0, pu_rf2 1 0 D2) := by
        unfold B_X11_calls_22 B_X11_calls_27
        rw [if_pos (Or.inr rfl), pu_bad1 hz (by decide) (by decide), pu_b2E, if_neg (by decide)]
        rfl
      unfold B_X11_calls B_X11_isTask B_X11_isFunction
      rw [pu_letE, u]
      by_cases c1 : 0 ≤ t ∧ t < 6
      · rw [pu_in, if_pos (show 0 ≤ t ∧ t ≤ 5 by omega), if_neg (by decide), pu_in, if_neg (show ¬ (0 ≤ f ∧ f ≤ 11) from fun z => c ⟨c1, by omega⟩), if_neg (fun z => z rfl)]; rfl
      · rw [pu_in, if_neg (show ¬ (0 ≤ t ∧ t ≤ 5) by omega), if_pos rfl]; rfl
theorem pu_stuck {Z : MiZ} {D1 D2 : MiD} {t : Int} (h : pu_L Z D1 D2) : pu_ans pu_o0 Z D1 D2 (B_X10_stuck Z t D1) (B_X11_stuck t D2) := by
  have hz : mi_st D2 40 0 0 0 40 0 0 = 0 := pu_st_eq
  by_cases c : 0 ≤ t ∧ t < 6
  · have hL := h.z
    have W := hL.a.w
    have aux : ∃ v, (mi_bi (B_X9_hasTurned D1 0 t) fun y2 => if y2 = 0 then (mi_bi (B_X9_hindrance D1 Z 0 t) fun y4 => some (Sum.inl (y4, D1))) else (some (Sum.inl ((-1), D1)))) = (some (Sum.inl (v, D1)) : Option ((Int × MiD) ⊕ (Nat × MiD))) ∧ (if (mi_st D2 40 0 0 0 65 0 1) = (-1) then (B_X11_stuck_56 (mi_st D2 40 0 0 0)) else (if 0 ≤ t ∧ t < 7 then (if (mi_st D2 40 0 0 0 59 t 4) ≠ (mi_st D2 40 0 0 0 65 0 2) then (mi_bi (B_X11_stuckAt (mi_st D2 40 0 0 0) t) fun y8 => some (y8, mi_st D2 40 0 0 0)) else (B_X11_stuck_56 (mi_st D2 40 0 0 0))) else none)) = some (v, mi_st D2 40 0 0 0) := by
      unfold B_X9_hasTurned B_X9_hasTurned_24 B_X11_stuck_56
      rw [W.tn]
      by_cases hp : mi_st D2 40 0 0 0 65 0 1 = -1
      · rw [if_pos hp, if_pos hp, pu_biE, if_neg (by decide)]
        exact ⟨_, rfl, rfl⟩
      · rw [if_neg hp, if_neg hp, if_pos c, if_pos (show 0 ≤ t ∧ t < 7 by omega), W.tu t c.1 c.2 hp, W.on hp]
        by_cases e : mi_st D2 40 0 0 0 59 t 4 = mi_st D2 40 0 0 0 65 0 2
        · rw [if_neg (fun z => z e), if_neg (fun z => z e), pu_biE, if_neg (by decide)]
          exact ⟨_, rfl, rfl⟩
        · obtain ⟨z, z1, z2⟩ := pu_hind (by decide) c hL.a hp
          rw [if_pos e, if_pos e, pu_biE, if_pos rfl, z1, z2, pu_biE, pu_biE]
          exact ⟨_, rfl, rfl⟩
    obtain ⟨v, a1, a2⟩ := aux
    refine pu_ans.rd h (v := v) ?_ ?_
    · unfold B_X10_stuck
      rw [pu_within, if_pos c, pu_nE1]
      exact a1
    · unfold B_X11_stuck B_X11_stuck_19 B_X11_isTask
      rw [pu_letE, pu_in, if_pos (show 0 ≤ t ∧ t ≤ 5 by omega), if_pos (show (1 : Int) ≠ 0 by decide), if_pos (Or.inl rfl), pu_bad0 hz, pu_b2E, if_pos rfl]
      exact a2
  · refine pu_ans.rf (k := 0) (v := 0) (r := 0) h (by decide) rfl (by decide) ?_ ?_
    · unfold B_X10_stuck
      rw [pu_within, if_neg c, pu_nE]
    · unfold B_X11_stuck B_X11_stuck_19 B_X11_isTask
      rw [pu_letE, pu_in, if_neg (show ¬ (0 ≤ t ∧ t ≤ 5) by omega), if_neg (fun z => z rfl), if_pos (Or.inr rfl), pu_bad1 hz (by decide) (by decide), pu_b2E, if_neg (by decide)]
      rfl
theorem pu_A.dt {w : Int} {Z : MiZ} {D1 D2 E1 E2 : MiD} (hw : 0 ≤ w ∧ w < 2) (h : pu_A w Z D1 D2) (hD : pu_D w E1 E2) (f1 : pu_FC w D1 E1) (f2 : pu_FM D2 E2) : pu_A w Z E1 E2 := by
  have a1 : ∀ (q : Nat) (j i : Int), q ≠ 3 → q ≠ 17 → q ≠ 18 → E1 q j i = D1 q j i := fun q j i x y z => f1 q j i (by omega)
  have a2 : ∀ (q : Nat) (j i : Int), q ≠ 52 → q ≠ 53 → q ≠ 55 → q ≠ 57 → q ≠ 40 → E2 q j i = D2 q j i := fun q j i x y z u v => f2 q j i (by omega) (by omega)
  have p4 : E2 40 0 11 = D2 40 0 11 := f2 _ _ _ (by omega) (by omega)
  have W := h.w
  refine h.side hw (fun q j i a b c d e => f1 q j i d) (fun q j i a b c d e f g => f2 q j i d e) hD (fun s a b => by rw [a1 _ _ _ (by decide) (by decide) (by decide)]; exact (h.t s a b).tu) ?_
  obtain ⟨b1, b2, b3, b4, b5, b6, b7, b8, b9, b10, b11, b12, b13, b14, b15, b16, b17, b18, b19, b20⟩ := W
  have q2 : ∀ i j : Int, E1 2 j i = D1 2 j i := fun i j => a1 _ _ _ (by decide) (by decide) (by decide)
  have q4 : ∀ i j : Int, E1 4 j i = D1 4 j i := fun i j => a1 _ _ _ (by decide) (by decide) (by decide)
  have q15 : ∀ i j : Int, E1 15 j i = D1 15 j i := fun i j => a1 _ _ _ (by decide) (by decide) (by decide)
  have q16 : ∀ i j : Int, E1 16 j i = D1 16 j i := fun i j => a1 _ _ _ (by decide) (by decide) (by decide)
  have r65 : ∀ i j : Int, E2 65 j i = D2 65 j i := fun i j => a2 _ _ _ (by decide) (by decide) (by decide) (by decide) (by decide)
  have r64 : ∀ i j : Int, E2 64 j i = D2 64 j i := fun i j => a2 _ _ _ (by decide) (by decide) (by decide) (by decide) (by decide)
  have r59 : ∀ i j : Int, E2 59 j i = D2 59 j i := fun i j => a2 _ _ _ (by decide) (by decide) (by decide) (by decide) (by decide)
  have r49 : ∀ i j : Int, E2 49 j i = D2 49 j i := fun i j => a2 _ _ _ (by decide) (by decide) (by decide) (by decide) (by decide)
  refine ⟨?_, ?_, ?_, ?_, ?_, ?_, ?_, ?_, ?_, ?_, ?_, ?_, ?_, ?_, ?_, ?_, ?_, ?_, ?_, ?_⟩
  all_goals (simp only [q2, q4, q15, q16, r65, r64, r59, r49, p4]; assumption)
theorem pu_ans.dt {mp : Nat → Int} {Z : MiZ} {D1 D2 : MiD} (h : pu_L Z D1 D2) {x y : Int × MiD} {a : Option ((Int × MiD) ⊕ (Nat × MiD))} {b : Option (Int × MiD)} (k : pu_daP 0 D1 (mi_st D2 40 0 0 0) x y) (ha : a = some (.inl (x.1, x.2))) (hb : b = some (y.1, y.2)) : pu_ans mp Z D1 D2 a b := by
  obtain ⟨k1, k2, k3, k4, k5, k6⟩ := k
  have hL := h.z
  obtain ⟨q1, q2, q3, q4⟩ := hL.t (hL.a.dt (by decide) k4 k5 k6) (fun q j i a b c d => k5 q j i b) (fun q j i a b => k6 q j i (by omega) b)
  exact Or.inl ⟨x.1, x.2, y.2, ha, by rw [hb, k1], q4.trans pu_st_eq, q1, q2, fun i => (q3 i).trans (by rw [pu_st, if_neg (by omega)])⟩
theorem pu_shape {Z : MiZ} {D1 D2 : MiD} {d k n : Int} (h : pu_L Z D1 D2) : pu_ans pu_m01 Z D1 D2 (B_X10_shape d k n D1) (B_X11_shape d k n D2) := by
  have hz : mi_st D2 40 0 0 0 40 0 0 = 0 := pu_st_eq
  by_cases c : 0 ≤ d ∧ d < 10
  · have hL := h.z
    by_cases c2 : (0 ≤ k ∧ k < 11) ∧ (0 ≤ n ∧ n ≤ 9)
    · have hR := hL.a.d.1 d (-1) c.1 c.2 (by decide) (by decide)
      rw [pu_r0] at hR
      have hx := pu_xB (w := 0) (by decide) c (m := -1) (by decide)
      obtain ⟨x, ex, y, ey, hP⟩ := pu_reshape hx c hR.1 hR.2 ⟨c2.1.1, by omega⟩ c2.2
      have hd := pu_rwP.da (m := -1) hL.a.d c (by decide) (by rw [pu_r0]; exact hP)
      refine pu_ans.dt h hd ?_ ?_
      · unfold B_X10_shape B_X10_shape_35
        rw [pu_within, if_pos c, pu_nE1, pu_within, if_pos c2.1, if_neg (by decide), if_neg (by omega), if_neg (by omega), if_pos (Or.inr rfl), pu_nA1, pu_rowAt c (by decide), pu_biE, if_pos hx, ex]
        rfl
      · unfold B_X11_shape B_X11_shape_19 B_X11_shape_53 B_X11_isDatum
        rw [pu_letE, pu_in, if_pos (show 0 ≤ d ∧ d ≤ 9 by omega), if_pos (show (1 : Int) ≠ 0 by decide), if_pos (Or.inl rfl), pu_bad0 hz, pu_b2E, if_neg (fun z => z rfl), pu_in, if_pos (show 0 ≤ k ∧ k ≤ 10 by omega), if_neg (by decide), pu_in, if_pos c2.2, if_pos (show (1 : Int) ≠ 0 by decide), if_pos (Or.inl rfl), pu_bad0 hz, pu_b2E, if_pos rfl, ey]
        rfl
    · refine pu_ans.rf (k := 1) (v := 0) (r := 1) h (by decide) rfl (by decide) ?_ ?_
      · have u : B_X10_shape_34 d k n D1 = some (.inr (1, pu_rf1 1 D1)) := by
          unfold B_X10_shape_34 B_X10_shape_35
          rw [if_pos (Or.inl rfl), pu_nA]
        unfold B_X10_shape
        rw [pu_within, if_pos c, pu_nE1, u]
        by_cases e1 : 0 ≤ k ∧ k < 11
        · rw [pu_within, if_pos e1, if_neg (by decide)]
          by_cases e2 : n < 0
          · rw [if_pos e2]
          · rw [if_neg e2, if_pos (show 9 < n from Int.not_le.mp fun z => c2 ⟨e1, by omega⟩)]
        · rw [pu_within, if_neg e1, if_pos rfl]
      · have u : B_X11_shape_48 d k n (mi_st D2 40 0 0 0) = some (0, pu_rf2 2 1 D2) := by
          unfold B_X11_shape_48 B_X11_shape_53
          rw [if_pos (Or.inr rfl), pu_bad1 hz (by decide) (by decide), pu_b2E, if_neg (by decide)]
          rfl
        unfold B_X11_shape B_X11_shape_19 B_X11_isDatum
        rw [pu_letE, pu_in, if_pos (show 0 ≤ d ∧ d ≤ 9 by omega), if_pos (show (1 : Int) ≠ 0 by decide), if_pos (Or.inl rfl), pu_bad0 hz, pu_b2E, if_neg (fun z => z rfl), u]
        by_cases e1 : 0 ≤ k ∧ k ≤ 10
        · rw [pu_in, if_pos e1, if_neg (by decide), pu_in, if_neg (show ¬ (0 ≤ n ∧ n ≤ 9) from fun z => c2 ⟨by omega, z⟩), if_neg (fun z => z rfl)]
          rfl
        · rw [pu_in, if_neg e1, if_pos rfl]
          rfl
  · refine pu_ans.rf (k := 0) (v := 0) (r := 0) h (by decide) rfl (by decide) ?_ ?_
    · unfold B_X10_shape
      rw [pu_within, if_neg c, pu_nE]
    · unfold B_X11_shape B_X11_shape_19 B_X11_isDatum
      rw [pu_letE, pu_in, if_neg (show ¬ (0 ≤ d ∧ d ≤ 9) by omega), if_neg (fun z => z rfl), if_pos (Or.inr rfl), pu_bad1 hz (by decide) (by decide), pu_b2E, if_pos (by decide)]
      rfl
theorem pu_set {Z : MiZ} {D1 D2 : MiD} {k d p v : Int} (h : pu_L Z D1 D2) : pu_ans pu_m01 Z D1 D2 (B_X10_set k d p v D1) (B_X11_set k d p v D2) := by
  have hz : mi_st D2 40 0 0 0 40 0 0 = 0 := pu_st_eq
  by_cases c : 0 ≤ d ∧ d < 10
  · have hL := h.z
    by_cases c2 : (0 ≤ k ∧ k < 8) ∧ (-99999 ≤ v ∧ v ≤ 99999)
    · have hR := hL.a.d.1 d (-1) c.1 c.2 (by decide) (by decide)
      have hG := hL.a.d.G c (m := -1) (by decide)
      rw [pu_r0] at hR hG
      have hx := pu_xB (w := 0) (by decide) c (m := -1) (by decide)
      obtain ⟨x, ex, y, ey, hP⟩ := pu_writeAs (k := k) (p := p) (v := v) hx ⟨c.1, by omega⟩ ⟨c2.1.1, by omega⟩ hR.1 hR.2 hG
      have hd := pu_rwP.da (m := -1) hL.a.d c (by decide) (by rw [pu_r0]; exact hP)
      refine pu_ans.dt h hd ?_ ?_
      · unfold B_X10_set B_X10_set_41
        rw [pu_within, if_pos c, pu_nE1, pu_within, if_pos c2.1, if_neg (by decide), if_neg (by omega), if_neg (by omega), if_pos (Or.inr rfl), pu_nA1, pu_rowAt c (by decide), pu_biE, if_pos hx, ex]
        rfl
      · unfold B_X11_set B_X11_set_19 B_X11_set_56 B_X11_set_79 B_X11_isDatum
        rw [pu_letE, pu_in, if_pos (show 0 ≤ d ∧ d ≤ 9 by omega), if_pos (show (1 : Int) ≠ 0 by decide), if_pos (Or.inl rfl), pu_bad0 hz, pu_b2E, if_neg (fun z => z rfl), pu_in, if_pos (show 0 ≤ k ∧ k ≤ 7 by omega), if_neg (by decide), pu_in, if_pos c2.2, if_pos (show (1 : Int) ≠ 0 by decide), if_pos (Or.inl rfl), pu_bad0 hz, pu_b2E, if_pos rfl]
        unfold pu_pl at ey
        by_cases e : p < 0
        · rw [if_pos e] at ey
          rw [if_neg (by omega), ey]
          rfl
        · rw [if_neg e] at ey
          rw [if_pos (by omega), ey]
          rfl
    · refine pu_ans.rf (k := 1) (v := 0) (r := 1) h (by decide) rfl (by decide) ?_ ?_
      · have u : B_X10_set_40 k d p v D1 = some (.inr (1, pu_rf1 1 D1)) := by
          unfold B_X10_set_40 B_X10_set_41
          rw [if_pos (Or.inl rfl), pu_nA]
        unfold B_X10_set
        rw [pu_within, if_pos c, pu_nE1, u]
        by_cases e1 : 0 ≤ k ∧ k < 8
        · rw [pu_within, if_pos e1, if_neg (by decide)]
          by_cases e2 : v < -99999
          · rw [if_pos e2]
          · rw [if_neg e2, if_pos (show 99999 < v from Int.not_le.mp fun z => c2 ⟨e1, by omega⟩)]
        · rw [pu_within, if_neg e1, if_pos rfl]
      · have u : B_X11_set_51 k d p v (mi_st D2 40 0 0 0) = some (0, pu_rf2 2 1 D2) := by
          unfold B_X11_set_51 B_X11_set_56
          rw [if_pos (Or.inr rfl), pu_bad1 hz (by decide) (by decide), pu_b2E, if_neg (by decide)]
          rfl
        unfold B_X11_set B_X11_set_19 B_X11_isDatum
        rw [pu_letE, pu_in, if_pos (show 0 ≤ d ∧ d ≤ 9 by omega), if_pos (show (1 : Int) ≠ 0 by decide), if_pos (Or.inl rfl), pu_bad0 hz, pu_b2E, if_neg (fun z => z rfl), u]
        by_cases e1 : 0 ≤ k ∧ k ≤ 7
        · rw [pu_in, if_pos e1, if_neg (by decide), pu_in, if_neg (show ¬ (-99999 ≤ v ∧ v ≤ 99999) from fun z => c2 ⟨by omega, z⟩), if_neg (fun z => z rfl)]
          rfl
        · rw [pu_in, if_neg e1, if_pos rfl]
          rfl
  · refine pu_ans.rf (k := 0) (v := 0) (r := 0) h (by decide) rfl (by decide) ?_ ?_
    · unfold B_X10_set
      rw [pu_within, if_neg c, pu_nE]
    · unfold B_X11_set B_X11_set_19 B_X11_isDatum
      rw [pu_letE, pu_in, if_neg (show ¬ (0 ≤ d ∧ d ≤ 9) by omega), if_neg (fun z => z rfl), if_pos (Or.inr rfl), pu_bad1 hz (by decide) (by decide), pu_b2E, if_pos (by decide)]
      rfl
theorem pu_keep_yes {Z : MiZ} {D1 D2 : MiD} {d m k : Int} (h : pu_L Z D1 D2) (c : 0 ≤ d ∧ d < 10) (cm : 0 ≤ m ∧ m < 5) (ck : k = 0 ∨ k = 1) : pu_ans pu_m01 Z D1 D2 (B_X10_keep d m k D1) (B_X11_keep d m k D2) := by
  have hz : mi_st D2 40 0 0 0 40 0 0 = 0 := pu_st_eq
  have hL := h.z
  have e1 : B_X10_keep d m k D1 = B_X10_keep_41 d m k 1 D1 := by
    unfold B_X10_keep B_X10_keep_23 B_X10_keep_36
    rw [pu_within, if_pos c, if_neg (by decide), pu_within, if_pos cm, if_neg (by decide), if_pos (Or.inr rfl), pu_nE1]
    rcases ck with rfl | rfl
    · rw [if_pos rfl]
    · rw [if_neg (by decide), if_neg (fun z => z rfl)]
  have e2 : B_X11_keep d m k D2 = B_X11_keep_51 d m k 0 (mi_st D2 40 0 0 0) := by
    unfold B_X11_keep B_X11_keep_28 B_X11_isDatum
    rw [pu_letE, pu_in, if_pos (show 0 ≤ d ∧ d ≤ 9 by omega), if_neg (by decide), pu_in, if_pos (show 0 ≤ m ∧ m ≤ 4 by omega), if_pos (show (1 : Int) ≠ 0 by decide), if_pos (Or.inl rfl), pu_bad0 hz, pu_b2E, if_neg (fun z => z rfl), pu_in, if_pos (show 0 ≤ k ∧ k ≤ 1 by omega), if_pos (show (1 : Int) ≠ 0 by decide)]
  rw [e1, e2]
  unfold B_X10_keep_41 B_X11_keep_51
  rw [if_pos (show (1 : Int) = 0 ∨ (1 : Int) = 1 from Or.inr rfl), pu_nA1, if_pos (show (0 : Int) = 0 ∨ (0 : Int) = 1 from Or.inl rfl), pu_bad0 hz, pu_b2E, if_pos rfl]
  rcases ck with rfl | rfl
  · rw [if_neg (fun z => z rfl), if_neg (fun z => z rfl)]
    obtain ⟨x, ex, y, ey, hP⟩ := pu_keepS (by decide) c cm hL.a.d
    rw [ex, ey]
    exact pu_ans.dt h hP rfl rfl
  · rw [if_pos (by decide), if_pos (by decide)]
    obtain ⟨x, ex, y, ey, hP⟩ := pu_lift (by decide) c cm hL.a.d
    rw [ex, ey]
    exact pu_ans.dt h hP rfl rfl
