def pu_FJ (D0 D : MiD) (n m : Int) : Prop := (∀ (q : Nat) (j i : Int), 0 ≤ pu_pos q j i → pu_pos q j i < n → D 66 0 (pu_pos q j i) = D0 q j i) ∧ (∀ (q : Nat) (j i : Int), 0 ≤ pu_po2 q j i → pu_po2 q j i < m → D 67 0 (pu_po2 q j i) = D0 q j i) ∧ (∀ (q : Nat) (j i : Int), q ≠ 66 → q ≠ 67 → ¬ (q = 40 ∧ j = 0 ∧ i = 29) → D q j i = D0 q j i)
theorem pu_FJ.s {D0 D : MiD} {n m : Int} (h : pu_FJ D0 D n m) : ∀ (q : Nat) (j i : Int), 0 ≤ pu_pos q j i → pu_pos q j i < n → D 66 0 (pu_pos q j i) = D0 q j i := h.1
theorem pu_FJ.l {D0 D : MiD} {n m : Int} (h : pu_FJ D0 D n m) : ∀ (q : Nat) (j i : Int), 0 ≤ pu_po2 q j i → pu_po2 q j i < m → D 67 0 (pu_po2 q j i) = D0 q j i := h.2.1
theorem pu_FJ.o {D0 D : MiD} {n m : Int} (h : pu_FJ D0 D n m) : ∀ (q : Nat) (j i : Int), q ≠ 66 → q ≠ 67 → ¬ (q = 40 ∧ j = 0 ∧ i = 29) → D q j i = D0 q j i := h.2.2
def pu_BJ (A D : MiD) (n m : Int) : Prop := (∀ (q : Nat) (j i : Int), q = 66 ∨ q = 67 → D q j i = A q j i) ∧ (∀ (q : Nat) (j i : Int), 0 ≤ pu_pos q j i → pu_pos q j i < n → D q j i = A 66 0 (pu_pos q j i)) ∧ (∀ (q : Nat) (j i : Int), 0 ≤ pu_po2 q j i → pu_po2 q j i < m → D q j i = A 67 0 (pu_po2 q j i)) ∧ (∀ (q : Nat) (j i : Int), pu_pos q j i < 0 ∨ n ≤ pu_pos q j i → pu_po2 q j i < 0 ∨ m ≤ pu_po2 q j i → ¬ (q = 40 ∧ j = 0 ∧ i = 29) → D q j i = A q j i)
theorem pu_BJ.a {A D : MiD} {n m : Int} (h : pu_BJ A D n m) : ∀ (q : Nat) (j i : Int), q = 66 ∨ q = 67 → D q j i = A q j i := h.1
theorem pu_BJ.s {A D : MiD} {n m : Int} (h : pu_BJ A D n m) : ∀ (q : Nat) (j i : Int), 0 ≤ pu_pos q j i → pu_pos q j i < n → D q j i = A 66 0 (pu_pos q j i) := h.2.1
theorem pu_BJ.l {A D : MiD} {n m : Int} (h : pu_BJ A D n m) : ∀ (q : Nat) (j i : Int), 0 ≤ pu_po2 q j i → pu_po2 q j i < m → D q j i = A 67 0 (pu_po2 q j i) := h.2.2.1
theorem pu_BJ.o {A D : MiD} {n m : Int} (h : pu_BJ A D n m) : ∀ (q : Nat) (j i : Int), pu_pos q j i < 0 ∨ n ≤ pu_pos q j i → pu_po2 q j i < 0 ∨ m ≤ pu_po2 q j i → ¬ (q = 40 ∧ j = 0 ∧ i = 29) → D q j i = A q j i := h.2.2.2
theorem pu_po2n {q : Nat} {j i : Int} (h : q ≠ 57) (h' : q ≠ 60) : pu_po2 q j i = -1 := by
  unfold pu_po2
  rw [if_neg (fun z => h z.1), if_neg (fun z => h' z.1)]
theorem pu_posn {q : Nat} {j i : Int} (h : q = 57 ∨ q = 60) : pu_pos q j i = -1 := by
  unfold pu_pos
  rw [if_neg (by omega), if_neg (by omega), if_neg (by omega), if_neg (by omega), if_neg (by omega), if_neg (by omega), if_neg (by omega)]
theorem pu_po2u {q : Nat} {j i : Int} {r p : Int} (hr : 0 ≤ r ∧ r < 60) (hp : 0 ≤ p ∧ p < 9) : pu_po2 q j i = 9 * r + p → q = 57 ∧ j = r ∧ i = p := by
  unfold pu_po2
  split
  · omega
  · split
    · omega
    · omega
theorem pu_po2v {q : Nat} {j i : Int} {t : Int} (ht : 0 ≤ t ∧ t < 7) : pu_po2 q j i = 540 + t → q = 60 ∧ j = 0 ∧ i = t := by
  unfold pu_po2
  split
  · omega
  · split
    · omega
    · omega
theorem pu_po2p {r p : Int} (hr : 0 ≤ r ∧ r < 60) (hp : 0 ≤ p ∧ p < 9) : pu_po2 57 r p = 9 * r + p := by
  unfold pu_po2
  rw [if_pos ⟨rfl, hr.1, hr.2, hp.1, hp.2⟩]
theorem pu_po2t {t : Int} (ht : 0 ≤ t ∧ t < 7) : pu_po2 60 0 t = 540 + t := by
  unfold pu_po2
  rw [if_neg (fun z => absurd z.1 (by decide)), if_pos ⟨rfl, rfl, ht.1, ht.2⟩]
theorem pu_FJ.st {D0 D : MiD} {n m j i : Int} {q : Nat} (h : pu_FJ D0 D n m) (hm : pu_po2 q j i = m) (h0 : 0 ≤ m) (hq : q ≠ 66 ∧ q ≠ 67 ∧ q ≠ 40) (hu : ∀ (q' : Nat) (j' i' : Int), pu_po2 q' j' i' = m → q' = q ∧ j' = j ∧ i' = i) : pu_FJ D0 (mi_st D 67 0 m (D q j i)) n (m + 1) := by
  refine ⟨fun q' j' i' a b => ?_, fun q' j' i' a b => ?_, fun q' j' i' a b c => ?_⟩
  · rw [pu_st, if_neg (by omega)]; exact h.s q' j' i' a b
  · rw [pu_st]
    by_cases c : pu_po2 q' j' i' = m
    · obtain ⟨rfl, rfl, rfl⟩ := hu q' j' i' c
      rw [if_pos ⟨rfl, rfl, c⟩]
      exact h.o _ _ _ hq.1 hq.2.1 (fun z => hq.2.2 z.1)
    · rw [if_neg (fun z => c z.2.2)]
      exact h.l q' j' i' a (by omega)
  · rw [pu_st, if_neg (fun z => b z.1)]; exact h.o q' j' i' a b c
theorem pu_BJ.st {A D : MiD} {n m j i : Int} {q : Nat} (h : pu_BJ A D n m) (hm : pu_po2 q j i = m) (h0 : 0 ≤ m) (hq : q ≠ 66 ∧ q ≠ 67 ∧ q ≠ 40) (hs : pu_pos q j i = -1) (hu : ∀ (q' : Nat) (j' i' : Int), pu_po2 q' j' i' = m → q' = q ∧ j' = j ∧ i' = i) : pu_BJ A (mi_st D q j i (D 67 0 m)) n (m + 1) := by
  refine ⟨fun q' j' i' a => ?_, fun q' j' i' a b => ?_, fun q' j' i' a b => ?_, fun q' j' i' a b c => ?_⟩
  · rw [pu_st, if_neg (by omega)]; exact h.a q' j' i' a
  · rw [pu_st, if_neg (fun z => by obtain ⟨rfl, rfl, rfl⟩ := z; omega)]; exact h.s q' j' i' a b
  · rw [pu_st]
    by_cases c : pu_po2 q' j' i' = m
    · obtain ⟨rfl, rfl, rfl⟩ := hu q' j' i' c
      rw [if_pos ⟨rfl, rfl, rfl⟩, h.a _ _ _ (Or.inr rfl), c]
    · rw [if_neg (fun z => by obtain ⟨rfl, rfl, rfl⟩ := z; omega)]
      exact h.l q' j' i' a (by omega)
  · rw [pu_st, if_neg (fun z => by obtain ⟨rfl, rfl, rfl⟩ := z; omega)]; exact h.o q' j' i' a (by omega) c
theorem pu_out180 {D0 : MiD} : ∀ (f : Nat) (t : Int) (D : MiD), pu_FJ D0 D 967 (540 + t) → 0 ≤ t → t ≤ 7 → 7 - t < f → ∃ E, B_X11_laysAll_180 f 0 t D = some E ∧ pu_FJ D0 E 967 547
  | 0, t, D, h, h1, h2, h3 => by omega
  | f + 1, t, D, h, h1, h2, h3 => by
    unfold B_X11_laysAll_180 B_X11_laysLong_r60
    by_cases c : 6 < t
    · rw [if_pos c]
      exact ⟨D, rfl, by rw [show (547 : Int) = 540 + t by omega]; exact h⟩
    · rw [if_neg c, if_pos rfl, if_pos (show 0 ≤ t ∧ t < 7 by omega), pu_w (x := 540 + t) (by omega) (by omega), if_pos (show 0 ≤ 540 + t ∧ 540 + t < 547 by omega), pu_letE, pu_biE, pu_w (x := t + 1) (by omega) (by omega)]
      exact pu_out180 f (t + 1) _ (by rw [show (540 + (t + 1) : Int) = 540 + t + 1 by omega]; exact h.st (pu_po2t ⟨h1, by omega⟩) (by omega) (by decide) (fun q' j' i' z => pu_po2v ⟨h1, by omega⟩ z)) (by omega) (by omega) (by omega)
theorem pu_out142 {D0 : MiD} {k : Int → Int → MiD → Option MiD} {r : Int} (hr : 0 ≤ r ∧ r < 60) : ∀ (f : Nat) (p : Int) (D : MiD), pu_FJ D0 D 967 (9 * r + p) → 0 ≤ p → p ≤ 9 → 9 - p < f → ∃ E, B_X11_laysAll_142 k f 0 r p D = k 0 (r + 1) E ∧ pu_FJ D0 E 967 (9 * (r + 1))
  | 0, p, D, h, h1, h2, h3 => by omega
  | f + 1, p, D, h, h1, h2, h3 => by
    unfold B_X11_laysAll_142 B_X11_laysLong_r57
    rw [pu_w (x := r + 1) (by omega) (by omega), pu_w (x := p + 1) (by omega) (by omega), pu_w (x := r * 9) (by omega) (by omega), pu_w (x := r * 9 + p) (by omega) (by omega)]
    by_cases c : 9 ≤ p
    · rw [if_pos c]
      exact ⟨D, rfl, by rw [show (9 * (r + 1) : Int) = 9 * r + p by omega]; exact h⟩
    · rw [if_neg c, if_pos (show 0 ≤ r ∧ r < 61 by omega), if_pos rfl, if_pos (show 0 ≤ p ∧ p < 9 by omega), if_pos (show 0 ≤ r * 9 + p ∧ r * 9 + p < 547 by omega), pu_letE, pu_biE, show (r * 9 + p : Int) = 9 * r + p by omega]
      exact pu_out142 hr f (p + 1) _ (by rw [show (9 * r + (p + 1) : Int) = 9 * r + p + 1 by omega]; exact h.st (pu_po2p hr ⟨h1, by omega⟩) (by omega) (by decide) (fun q' j' i' z => pu_po2u hr ⟨h1, by omega⟩ z)) (by omega) (by omega) (by omega)
theorem pu_out134 {D0 : MiD} : ∀ (f : Nat) (r : Int) (D : MiD), pu_FJ D0 D 967 (9 * r) → 0 ≤ r → r ≤ 60 → 60 - r < f → ∃ E, B_X11_laysAll_134 f 0 r D = some E ∧ pu_FJ D0 E 967 547
  | 0, r, D, h, h1, h2, h3 => by omega
  | f + 1, r, D, h, h1, h2, h3 => by
    have fE := pu_fuelE
    unfold B_X11_laysAll_134
    by_cases c : 60 ≤ r
    · rw [if_pos c]
      exact pu_out180 mi_fuel 0 D (by rw [show (540 + 0 : Int) = 9 * r by omega]; exact h) (by decide) (by decide) (by omega)
    · obtain ⟨E, e1, e2⟩ := pu_out142 (k := B_X11_laysAll_134 f) ⟨h1, by omega⟩ mi_fuel 0 D (by rw [Int.add_zero]; exact h) (by decide) (by decide) (by omega)
      rw [if_neg c, e1]
      exact pu_out134 f (r + 1) E e2 (by omega) (by omega) (by omega)
theorem pu_out101 {D0 : MiD} {k : Int → Int → MiD → Option MiD} {t : Int} (ht : 0 ≤ t ∧ t < 6) : ∀ (f : Nat) (e : Int) (D : MiD), pu_FI D0 D (727 + 4 * (10 * t + e)) → 0 ≤ e → e ≤ 10 → 10 - e < f → ∃ E, B_X11_laysAll_101 k f 0 t e D = k 0 (t + 1) E ∧ pu_FI D0 E (727 + 4 * (10 * (t + 1) + 0))
  | 0, e, D, h, h1, h2, h3 => by omega
  | f + 1, e, D, h, h1, h2, h3 => by
    have fE := pu_fuelE
    unfold B_X11_laysAll_101 B_X11_lays_r63
    rw [pu_w (x := t + 1) (by omega) (by omega), pu_w (x := e + 1) (by omega) (by omega)]
    by_cases c : 10 ≤ e
    · rw [if_pos c]
      exact ⟨D, rfl, by rw [show (727 + 4 * (10 * (t + 1) + 0) : Int) = 727 + 4 * (10 * t + e) by omega]; exact h⟩
    · rw [if_neg c, if_pos (show 0 ≤ t ∧ t < 6 by omega), if_pos (show 0 ≤ e ∧ e < 10 by omega), pu_lf63 mi_fuel 0 _ D (by decide) (by decide) (by omega) h.c (by omega) (by omega), pu_biE]
      exact pu_out101 ht f (e + 1) _ (by rw [show (727 + 4 * (10 * t + (e + 1)) : Int) = 727 + 4 * (10 * t + e) + 4 by omega]; exact h.st (by omega) (by decide) (by decide) (pu_pu63 (by omega))) (by omega) (by omega) (by omega)
theorem pu_FI.j {D0 D : MiD} {n : Int} (h : pu_FI D0 D n) : pu_FJ D0 D n 0 := ⟨h.s, fun q j i a b => by omega, fun q j i a b c => h.o q j i a c⟩
theorem pu_out93 {D0 : MiD} : ∀ (f : Nat) (t : Int) (D : MiD), pu_FI D0 D (727 + 4 * (10 * t + 0)) → 0 ≤ t → t ≤ 6 → 6 - t < f → ∃ E, B_X11_laysAll_93 f 0 t D = some E ∧ pu_FJ D0 E 967 547
  | 0, r, D, h, h1, h2, h3 => by omega
  | f + 1, t, D, h, h1, h2, h3 => by
    have fE := pu_fuelE
    unfold B_X11_laysAll_93
    by_cases c : 6 ≤ t
    · rw [if_pos c]
      exact pu_out134 mi_fuel 0 D (by rw [show (967 : Int) = 727 + 4 * (10 * t + 0) by omega]; exact h.j) (by decide) (by decide) (by omega)
    · obtain ⟨E, e1, e2⟩ := pu_out101 (k := B_X11_laysAll_93 f) ⟨h1, by omega⟩ mi_fuel 0 D h (by decide) (by decide) (by omega)
      rw [if_neg c, e1]
      exact pu_out93 f (t + 1) E e2 (by omega) (by omega) (by omega)
theorem pu_out68 {D0 : MiD} : ∀ (f : Nat) (t : Int) (D : MiD), pu_FI D0 D (678 + 7 * t) → 0 ≤ t → t ≤ 7 → 7 - t < f → ∃ E, B_X11_laysAll_68 f 0 t D = some E ∧ pu_FJ D0 E 967 547
  | 0, r, D, h, h1, h2, h3 => by omega
  | f + 1, t, D, h, h1, h2, h3 => by
    have fE := pu_fuelE
    unfold B_X11_laysAll_68 B_X11_lays_r59
    by_cases c : 6 < t
    · rw [if_pos c]
      exact pu_out93 mi_fuel 0 D (by rw [show (727 + 4 * (10 * 0 + 0) : Int) = 678 + 7 * t by omega]; exact h) (by decide) (by decide) (by omega)
    · rw [if_neg c, if_pos (show 0 ≤ t ∧ t < 7 by omega), pu_lf59 mi_fuel 0 _ D (by decide) (by decide) (by omega) h.c (by omega) (by omega), pu_biE, pu_w (x := t + 1) (by omega) (by omega)]
      exact pu_out68 f (t + 1) _ (by rw [show (678 + 7 * (t + 1) : Int) = 678 + 7 * t + 7 by omega]; exact h.st (by omega) (by decide) (by decide) (pu_pu59 (by omega))) (by omega) (by omega) (by omega)
theorem pu_out43 {D0 : MiD} : ∀ (f : Nat) (t : Int) (D : MiD), pu_FI D0 D (138 + 9 * t) → 0 ≤ t → t ≤ 60 → 60 - t < f → ∃ E, B_X11_laysAll_43 f 0 t D = some E ∧ pu_FJ D0 E 967 547
  | 0, r, D, h, h1, h2, h3 => by omega
  | f + 1, t, D, h, h1, h2, h3 => by
    have fE := pu_fuelE
    unfold B_X11_laysAll_43 B_X11_lays_r55
    by_cases c : 60 ≤ t
    · rw [if_pos c]
      exact pu_out68 mi_fuel 0 D (by rw [show (678 + 7 * 0 : Int) = 138 + 9 * t by omega]; exact h) (by decide) (by decide) (by omega)
    · rw [if_neg c, if_pos (show 0 ≤ t ∧ t < 61 by omega), pu_lf55 mi_fuel 0 _ D (by decide) (by decide) (by omega) h.c (by omega) (by omega), pu_biE, pu_w (x := t + 1) (by omega) (by omega)]
      exact pu_out43 f (t + 1) _ (by rw [show (138 + 9 * (t + 1) : Int) = 138 + 9 * t + 9 by omega]; exact h.st (by omega) (by decide) (by decide) (pu_pu55 (by omega))) (by omega) (by omega) (by omega)
theorem pu_out {D : MiD} : ∃ E, B_X11_laysAll 0 D = some E ∧ pu_FJ D E 967 547 := by
  have fE := pu_fuelE
  have h0 : pu_FI D (mi_st D 40 0 29 0) 0 := ⟨pu_st_eq, fun q j i a b => by omega, fun q j i a b => by rw [pu_st, if_neg b]⟩
  unfold B_X11_laysAll B_X11_lays_r52 B_X11_lays_r53 B_X11_lays_r64 B_X11_lays_r65
  have h1 := h0.st (R := 52) (J := 0) (len := 61) (by decide) (by decide) (by decide) pu_pu52
  have h2 := h1.st (R := 53) (J := 0) (len := 61) (by decide) (by decide) (by decide) pu_pu53
  have h3 := h2.st (R := 64) (J := 0) (len := 8) (by decide) (by decide) (by decide) pu_pu64
  have h4 := h3.st (R := 65) (J := 0) (len := 8) (by decide) (by decide) (by decide) pu_pu65
  rw [pu_letE, pu_lf52 mi_fuel 0 _ _ (by decide) (by decide) (by omega) h0.c (by decide) (by decide), pu_biE, pu_lf53 mi_fuel 0 _ _ (by decide) (by decide) (by omega) h1.c (by decide) (by decide), pu_biE, pu_lf64 mi_fuel 0 _ _ (by decide) (by decide) (by omega) h2.c (by decide) (by decide), pu_biE, pu_lf65 mi_fuel 0 _ _ (by decide) (by decide) (by omega) h3.c (by decide) (by decide), pu_biE]
  exact pu_out43 mi_fuel 0 _ h4 (by decide) (by decide) (by omega)
theorem pu_bck180 {A : MiD} : ∀ (f : Nat) (t : Int) (D : MiD), pu_BJ A D 967 (540 + t) → 0 ≤ t → t ≤ 7 → 7 - t < f → ∃ E, B_X11_laysAll_180 f 1 t D = some E ∧ pu_BJ A E 967 547
  | 0, t, D, h, h1, h2, h3 => by omega
  | f + 1, t, D, h, h1, h2, h3 => by
    unfold B_X11_laysAll_180 B_X11_laysLong_r60
    by_cases c : 6 < t
    · rw [if_pos c]
      exact ⟨D, rfl, by rw [show (547 : Int) = 540 + t by omega]; exact h⟩
    · rw [if_neg c, if_neg (show ¬ ((1 : Int) = 0) by decide), pu_w (x := 540 + t) (by omega) (by omega), if_pos (show 0 ≤ 540 + t ∧ 540 + t < 547 by omega), if_pos (show 0 ≤ t ∧ t < 7 by omega), pu_letE, pu_biE, pu_w (x := t + 1) (by omega) (by omega)]
      exact pu_bck180 f (t + 1) _ (by rw [show (540 + (t + 1) : Int) = 540 + t + 1 by omega]; exact h.st (pu_po2t ⟨h1, by omega⟩) (by omega) (by decide) (pu_posn (Or.inr rfl)) (fun q' j' i' z => pu_po2v ⟨h1, by omega⟩ z)) (by omega) (by omega) (by omega)
theorem pu_bck142 {A : MiD} {k : Int → Int → MiD → Option MiD} {r : Int} (hr : 0 ≤ r ∧ r < 60) : ∀ (f : Nat) (p : Int) (D : MiD), pu_BJ A D 967 (9 * r + p) → 0 ≤ p → p ≤ 9 → 9 - p < f → ∃ E, B_X11_laysAll_142 k f 1 r p D = k 1 (r + 1) E ∧ pu_BJ A E 967 (9 * (r + 1))
  | 0, p, D, h, h1, h2, h3 => by omega
  | f + 1, p, D, h, h1, h2, h3 => by
    unfold B_X11_laysAll_142 B_X11_laysLong_r57
    rw [pu_w (x := r + 1) (by omega) (by omega), pu_w (x := p + 1) (by omega) (by omega), pu_w (x := r * 9) (by omega) (by omega), pu_w (x := r * 9 + p) (by omega) (by omega)]
    by_cases c : 9 ≤ p
    · rw [if_pos c]
      exact ⟨D, rfl, by rw [show (9 * (r + 1) : Int) = 9 * r + p by omega]; exact h⟩
    · rw [if_neg c, if_pos (show 0 ≤ r ∧ r < 61 by omega), if_neg (show ¬ ((1 : Int) = 0) by decide), if_pos (show 0 ≤ r * 9 + p ∧ r * 9 + p < 547 by omega), if_pos (show 0 ≤ p ∧ p < 9 by omega), pu_letE, pu_biE, show (r * 9 + p : Int) = 9 * r + p by omega]
      exact pu_bck142 hr f (p + 1) _ (by rw [show (9 * r + (p + 1) : Int) = 9 * r + p + 1 by omega]; exact h.st (pu_po2p hr ⟨h1, by omega⟩) (by omega) (by decide) (pu_posn (Or.inl rfl)) (fun q' j' i' z => pu_po2u hr ⟨h1, by omega⟩ z)) (by omega) (by omega) (by omega)
theorem pu_bck134 {A : MiD} : ∀ (f : Nat) (r : Int) (D : MiD), pu_BJ A D 967 (9 * r) → 0 ≤ r → r ≤ 60 → 60 - r < f → ∃ E, B_X11_laysAll_134 f 1 r D = some E ∧ pu_BJ A E 967 547
  | 0, r, D, h, h1, h2, h3 => by omega
  | f + 1, r, D, h, h1, h2, h3 => by
    have fE := pu_fuelE
    unfold B_X11_laysAll_134
    by_cases c : 60 ≤ r
    · rw [if_pos c]
      exact pu_bck180 mi_fuel 0 D (by rw [show (540 + 0 : Int) = 9 * r by omega]; exact h) (by decide) (by decide) (by omega)
    · obtain ⟨E, e1, e2⟩ := pu_bck142 (k := B_X11_laysAll_134 f) ⟨h1, by omega⟩ mi_fuel 0 D (by rw [Int.add_zero]; exact h) (by decide) (by decide) (by omega)
      rw [if_neg c, e1]
      exact pu_bck134 f (r + 1) E e2 (by omega) (by omega) (by omega)
theorem pu_bck101 {A : MiD} {k : Int → Int → MiD → Option MiD} {t : Int} (ht : 0 ≤ t ∧ t < 6) : ∀ (f : Nat) (e : Int) (D : MiD), pu_BI A D (727 + 4 * (10 * t + e)) → 0 ≤ e → e ≤ 10 → 10 - e < f → ∃ E, B_X11_laysAll_101 k f 1 t e D = k 1 (t + 1) E ∧ pu_BI A E (727 + 4 * (10 * (t + 1) + 0))
  | 0, e, D, h, h1, h2, h3 => by omega
  | f + 1, e, D, h, h1, h2, h3 => by
    have fE := pu_fuelE
    unfold B_X11_laysAll_101 B_X11_lays_r63
    rw [pu_w (x := t + 1) (by omega) (by omega), pu_w (x := e + 1) (by omega) (by omega)]
    by_cases c : 10 ≤ e
    · rw [if_pos c]
      exact ⟨D, rfl, by rw [show (727 + 4 * (10 * (t + 1) + 0) : Int) = 727 + 4 * (10 * t + e) by omega]; exact h⟩
    · rw [if_neg c, if_pos (show 0 ≤ t ∧ t < 6 by omega), if_pos (show 0 ≤ e ∧ e < 10 by omega), pu_lb63 mi_fuel 0 _ D (by decide) (by decide) (by omega) h.c (by omega) (by omega), pu_biE]
      exact pu_bck101 ht f (e + 1) _ (by rw [show (727 + 4 * (10 * t + (e + 1)) : Int) = 727 + 4 * (10 * t + e) + 4 by omega]; exact h.st (by omega) (by decide) (by decide) (pu_pp63 (by omega)) (pu_pu63 (by omega))) (by omega) (by omega) (by omega)
theorem pu_BI.j {A D : MiD} {n : Int} (h : pu_BI A D n) : pu_BJ A D n 0 := ⟨h.a, h.s, fun q j i a b => by omega, fun q j i a b c => h.o q j i a c⟩
theorem pu_bck93 {A : MiD} : ∀ (f : Nat) (t : Int) (D : MiD), pu_BI A D (727 + 4 * (10 * t + 0)) → 0 ≤ t → t ≤ 6 → 6 - t < f → ∃ E, B_X11_laysAll_93 f 1 t D = some E ∧ pu_BJ A E 967 547
  | 0, r, D, h, h1, h2, h3 => by omega
  | f + 1, t, D, h, h1, h2, h3 => by
    have fE := pu_fuelE
    unfold B_X11_laysAll_93
    by_cases c : 6 ≤ t
    · rw [if_pos c]
      exact pu_bck134 mi_fuel 0 D (by rw [show (967 : Int) = 727 + 4 * (10 * t + 0) by omega]; exact h.j) (by decide) (by decide) (by omega)
    · obtain ⟨E, e1, e2⟩ := pu_bck101 (k := B_X11_laysAll_93 f) ⟨h1, by omega⟩ mi_fuel 0 D h (by decide) (by decide) (by omega)
      rw [if_neg c, e1]
      exact pu_bck93 f (t + 1) E e2 (by omega) (by omega) (by omega)
theorem pu_bck68 {A : MiD} : ∀ (f : Nat) (t : Int) (D : MiD), pu_BI A D (678 + 7 * t) → 0 ≤ t → t ≤ 7 → 7 - t < f → ∃ E, B_X11_laysAll_68 f 1 t D = some E ∧ pu_BJ A E 967 547
  | 0, r, D, h, h1, h2, h3 => by omega
  | f + 1, t, D, h, h1, h2, h3 => by
    have fE := pu_fuelE
    unfold B_X11_laysAll_68 B_X11_lays_r59
    by_cases c : 6 < t
    · rw [if_pos c]
      exact pu_bck93 mi_fuel 0 D (by rw [show (727 + 4 * (10 * 0 + 0) : Int) = 678 + 7 * t by omega]; exact h) (by decide) (by decide) (by omega)
    · rw [if_neg c, if_pos (show 0 ≤ t ∧ t < 7 by omega), pu_lb59 mi_fuel 0 _ D (by decide) (by decide) (by omega) h.c (by omega) (by omega), pu_biE, pu_w (x := t + 1) (by omega) (by omega)]
      exact pu_bck68 f (t + 1) _ (by rw [show (678 + 7 * (t + 1) : Int) = 678 + 7 * t + 7 by omega]; exact h.st (by omega) (by decide) (by decide) (pu_pp59 (by omega)) (pu_pu59 (by omega))) (by omega) (by omega) (by omega)
theorem pu_bck43 {A : MiD} : ∀ (f : Nat) (t : Int) (D : MiD), pu_BI A D (138 + 9 * t) → 0 ≤ t → t ≤ 60 → 60 - t < f → ∃ E, B_X11_laysAll_43 f 1 t D = some E ∧ pu_BJ A E 967 547
  | 0, r, D, h, h1, h2, h3 => by omega
  | f + 1, t, D, h, h1, h2, h3 => by
    have fE := pu_fuelE
    unfold B_X11_laysAll_43 B_X11_lays_r55
    by_cases c : 60 ≤ t
    · rw [if_pos c]
      exact pu_bck68 mi_fuel 0 D (by rw [show (678 + 7 * 0 : Int) = 138 + 9 * t by omega]; exact h) (by decide) (by decide) (by omega)
    · rw [if_neg c, if_pos (show 0 ≤ t ∧ t < 61 by omega), pu_lb55 mi_fuel 0 _ D (by decide) (by decide) (by omega) h.c (by omega) (by omega), pu_biE, pu_w (x := t + 1) (by omega) (by omega)]
      exact pu_bck43 f (t + 1) _ (by rw [show (138 + 9 * (t + 1) : Int) = 138 + 9 * t + 9 by omega]; exact h.st (by omega) (by decide) (by decide) (pu_pp55 (by omega)) (pu_pu55 (by omega))) (by omega) (by omega) (by omega)
theorem pu_bck {D : MiD} : ∃ E, B_X11_laysAll 1 D = some E ∧ pu_BJ D E 967 547 := by
  have fE := pu_fuelE
  have h0 : pu_BI D (mi_st D 40 0 29 0) 0 := ⟨pu_st_eq, fun q j i a => by rw [pu_st, if_neg (by omega)], fun q j i a b => by omega, fun q j i a b => by rw [pu_st, if_neg b]⟩
  unfold B_X11_laysAll B_X11_lays_r52 B_X11_lays_r53 B_X11_lays_r64 B_X11_lays_r65
  have h1 := h0.st (R := 52) (J := 0) (len := 61) (by decide) (by decide) (by decide) pu_pp52 pu_pu52
  have h2 := h1.st (R := 53) (J := 0) (len := 61) (by decide) (by decide) (by decide) pu_pp53 pu_pu53
  have h3 := h2.st (R := 64) (J := 0) (len := 8) (by decide) (by decide) (by decide) pu_pp64 pu_pu64
  have h4 := h3.st (R := 65) (J := 0) (len := 8) (by decide) (by decide) (by decide) pu_pp65 pu_pu65
  rw [pu_letE, pu_lb52 mi_fuel 0 _ _ (by decide) (by decide) (by omega) h0.c (by decide) (by decide), pu_biE, pu_lb53 mi_fuel 0 _ _ (by decide) (by decide) (by omega) h1.c (by decide) (by decide), pu_biE, pu_lb64 mi_fuel 0 _ _ (by decide) (by decide) (by omega) h2.c (by decide) (by decide), pu_biE, pu_lb65 mi_fuel 0 _ _ (by decide) (by decide) (by omega) h3.c (by decide) (by decide), pu_biE]
  exact pu_bck43 mi_fuel 0 _ h4 (by decide) (by decide) (by omega)
def pu_ZB (Z : MiZ) : Prop := (∀ c : Int, 0 ≤ c → c < Z.2 6 → Z.1 6 c 0 < Z.2 23) ∧ (∀ a i : Int, 0 ≤ a → a < Z.2 23 → 0 ≤ i → i < 24 → Z.1 23 a i < Z.2 7) ∧ (∀ f : Int, 0 ≤ f → f < 12 → Z.1 11 0 f < Z.2 6) ∧ (∀ p : Int, 0 ≤ p → p < 8 → Z.1 12 0 p < Z.2 8) ∧ (∀ P : Int, 0 ≤ P → P < Z.2 8 → Z.1 8 P 1 < Z.2 24 ∧ Z.1 8 P 2 < Z.2 6 ∧ Z.1 8 P 3 < Z.2 6 ∧ Z.1 8 P 4 < Z.2 6) ∧ (∀ a f : Int, 0 ≤ a → a < Z.2 24 → 0 ≤ f → f < 12 → Z.1 24 a f < Z.2 6)
theorem pu_ZB.c {Z : MiZ} (h : pu_ZB Z) : ∀ c : Int, 0 ≤ c → c < Z.2 6 → Z.1 6 c 0 < Z.2 23 := h.1
theorem pu_ZB.a {Z : MiZ} (h : pu_ZB Z) : ∀ a i : Int, 0 ≤ a → a < Z.2 23 → 0 ≤ i → i < 24 → Z.1 23 a i < Z.2 7 := h.2.1
theorem pu_ZB.f {Z : MiZ} (h : pu_ZB Z) : ∀ f : Int, 0 ≤ f → f < 12 → Z.1 11 0 f < Z.2 6 := h.2.2.1
theorem pu_ZB.p {Z : MiZ} (h : pu_ZB Z) : ∀ p : Int, 0 ≤ p → p < 8 → Z.1 12 0 p < Z.2 8 := h.2.2.2.1
theorem pu_ZB.P {Z : MiZ} (h : pu_ZB Z) : ∀ P : Int, 0 ≤ P → P < Z.2 8 → Z.1 8 P 1 < Z.2 24 ∧ Z.1 8 P 2 < Z.2 6 ∧ Z.1 8 P 3 < Z.2 6 ∧ Z.1 8 P 4 < Z.2 6 := h.2.2.2.2.1
theorem pu_ZB.k {Z : MiZ} (h : pu_ZB Z) : ∀ a f : Int, 0 ≤ a → a < Z.2 24 → 0 ≤ f → f < 12 → Z.1 24 a f < Z.2 6 := h.2.2.2.2.2
def pu_zk (Z Z' : MiZ) (D1 E1 : MiD) : Prop := (∀ (q : Nat) (j i : Int), q = 6 ∨ q = 7 ∨ q = 8 ∨ q = 23 ∨ q = 24 → 0 ≤ j → j < Z.2 q → Z'.1 q j i = Z.1 q j i) ∧ (∀ (q : Nat) (j i : Int), q = 6 ∨ q = 7 ∨ q = 8 → 0 ≤ j → j < Z.2 q → E1 q j i = D1 q j i)
theorem pu_zk.z {Z Z' : MiZ} {D1 E1 : MiD} (h : pu_zk Z Z' D1 E1) : ∀ (q : Nat) (j i : Int), q = 6 ∨ q = 7 ∨ q = 8 ∨ q = 23 ∨ q = 24 → 0 ≤ j → j < Z.2 q → Z'.1 q j i = Z.1 q j i := h.1
theorem pu_zk.d {Z Z' : MiZ} {D1 E1 : MiD} (h : pu_zk Z Z' D1 E1) : ∀ (q : Nat) (j i : Int), q = 6 ∨ q = 7 ∨ q = 8 → 0 ≤ j → j < Z.2 q → E1 q j i = D1 q j i := h.2
theorem pu_dd.zk {Z Z' : MiZ} {D1 D2 E1 E2 : MiD} {y x : Int} (h : pu_dd Z D1 y D2 x) (hy : y < Z.2 7) (k : pu_zk Z Z' D1 E1) (k2 : ∀ i : Int, E2 46 x i = D2 46 x i) : pu_dd Z' E1 y E2 x := by
  have y0 := h.1
  unfold pu_dd at h ⊢
  simp only [k2, k.z 7 y _ (Or.inr (Or.inl rfl)) y0 hy, k.d 7 y _ (Or.inr (Or.inl rfl)) y0 hy]
  exact h
theorem pu_C.zk {Z Z' : MiZ} {D1 D2 E1 E2 : MiD} {c x x' : Int} (B : pu_ZB Z) (h : pu_C Z D1 c D2 x) (hc : c < Z.2 6) (k : pu_zk Z Z' D1 E1) (k43 : E2 43 0 x = D2 43 0 x) (k46 : ∀ i j : Int, 0 ≤ i → i < 24 → E2 46 (24 * x + i) j = D2 46 (24 * x + i) j) : pu_C Z' E1 c E2 x := by
  obtain ⟨h1, h2, h3, h4, h5, h6, h7⟩ := h
  have e0 := k.z 6 c 0 (Or.inl rfl) h1 hc
  have b0 := B.c c h1 hc
  refine ⟨h1, h2, by rw [e0]; exact h3, by rw [k.d 6 c 1 (Or.inl rfl) h1 hc, k43]; exact h4, by rw [k43]; exact h5, by rw [k43]; exact h6, fun i a b => ?_⟩
  rw [k43] at b
  rw [e0, k.z 23 _ i (by decide) h3 b0]
  exact (h7 i a b).zk (B.a _ _ h3 b0 a (by omega)) k (fun j => k46 i j a (by omega))
theorem pu_bitsZ {Z Z' : MiZ} {D D' : MiD} {P : Int} (e1 : Z'.1 8 P 1 = Z.1 8 P 1) (e2 : ∀ f : Int, 0 ≤ f → f < 12 → Z'.1 24 (Z.1 8 P 1) f = Z.1 24 (Z.1 8 P 1) f) : ∀ (f : Nat) (a i : Int), 0 ≤ i → B_X4_functionBits_4 D Z' f P a i = B_X4_functionBits_4 D' Z f P a i
  | 0, a, i, h => rfl
  | f + 1, a, i, h => by
    unfold B_X4_functionBits_4
    rw [e1]
    by_cases c : 12 ≤ i
    · rw [if_pos c, if_pos c]
    · rw [if_neg c, if_neg c, e2 i h (by omega), pu_letE, pu_letE, pu_w (x := i + 1) (by omega) (by omega), pu_bitsZ e1 e2 f _ (i + 1) (by omega), pu_bitsZ e1 e2 f _ (i + 1) (by omega)]
theorem pu_Pt.zk {Z Z' : MiZ} {D1 D2 E1 E2 : MiD} {P p : Int} (B : pu_ZB Z) (h : pu_Pt Z D1 P D2 p) (hP : P < Z.2 8) (k : pu_zk Z Z' D1 E1) (k2 : E2 48 0 p = D2 48 0 p ∧ E2 47 0 p = D2 47 0 p) (k51 : ∀ f : Int, E2 51 p f = D2 51 p f) (k43 : ∀ c : Int, c = 20 + 11 * p ∨ c = 21 + 11 * p ∨ c = 22 + 11 * p ∨ (∃ f : Int, 0 ≤ f ∧ f < 12 ∧ B_X11_isBit (D2 47 0 p) f ≠ 0 ∧ c = D2 51 p f) → E2 43 0 c = D2 43 0 c ∧ ∀ i j : Int, 0 ≤ i → i < 24 → E2 46 (24 * c + i) j = D2 46 (24 * c + i) j) : pu_Pt Z' E1 P E2 p := by
  have z8 := fun i => k.z 8 P i (by decide) h.at0 hP
  obtain ⟨b1, b2, b3, b4⟩ := B.P P h.at0 hP
  have z24 := fun f => k.z 24 (Z.1 8 P 1) f (by decide) h.cs b1
  refine ⟨h.at0, by rw [z8]; exact h.cs, by rw [k.d 8 P 0 (by decide) h.at0 hP, k2.1]; exact h.al, by rw [k2.1]; exact h.alb, ?_, ?_, ?_, fun D => ?_, fun f a b c => ?_, fun f a b c => ?_⟩
  · rw [z8]; exact h.b.zk (x' := 0) B b2 k (k43 _ (Or.inl rfl)).1 (k43 _ (Or.inl rfl)).2
  · rw [z8]; exact h.d.zk (x' := 0) B b3 k (k43 _ (Or.inr (Or.inl rfl))).1 (k43 _ (Or.inr (Or.inl rfl))).2
  · rw [z8]; exact h.u.zk (x' := 0) B b4 k (k43 _ (Or.inr (Or.inr (Or.inl rfl)))).1 (k43 _ (Or.inr (Or.inr (Or.inl rfl)))).2
  · unfold B_X4_functionBits
    rw [pu_bitsZ (D' := D) (z8 1) (fun f _ _ => z24 f) _ _ _ (by decide), k2.2]
    exact h.bits D
  · rw [k2.2] at c
    rw [z8, z24]
    exact h.no f a b c
  · rw [k2.2] at c
    rw [z8, z24, k51]
    have e := k43 (D2 51 p f) (Or.inr (Or.inr (Or.inr ⟨f, a, b, c, rfl⟩)))
    exact (h.yes f a b c).zk (x' := 0) B (B.k _ _ h.cs b1 a b) k e.1 e.2
theorem pu_P.zk {w : Int} {Z Z' : MiZ} {D1 D2 E1 E2 : MiD} (B : pu_ZB Z) (h : pu_P 0 Z D1 D2) (k : pu_zk Z Z' D1 E1) (k11 : ∀ f : Int, Z'.1 11 w f = Z.1 11 0 f) (k12 : ∀ p : Int, Z'.1 12 w p = Z.1 12 0 p) (k2 : ∀ (q : Nat) (j i : Int), q = 43 ∨ q = 46 ∨ q = 47 ∨ q = 48 ∨ q = 51 ∨ q = 40 ∧ i = 11 → E2 q j i = D2 q j i) : pu_P w Z' E1 E2 := by
  have e11 : E2 40 0 11 = D2 40 0 11 := k2 _ _ _ (by decide)
  have n8 := h.n8
  refine ⟨by rw [e11]; exact h.n0, by rw [e11]; exact h.n8, fun f a b => ?_, fun p a b => ?_, fun p a b => ?_⟩
  · rw [k11]
    exact (h.fn f a b).zk (x' := 0) B (B.f f a b) k (k2 _ _ _ (by omega)) (fun i j _ _ => k2 _ _ _ (by omega))
  · rw [e11] at b
    rw [k12]
    exact (h.pt p a b).zk B (B.p p a (by omega)) k ⟨k2 _ _ _ (by omega), k2 _ _ _ (by omega)⟩ (fun f => k2 _ _ _ (by omega)) (fun c _ => ⟨k2 _ _ _ (by omega), fun i j _ _ => k2 _ _ _ (by omega)⟩)
  · rw [e11] at a
    rw [k12]
    exact h.nul p a b
def pu_W1 (D E : MiD) : Prop := (∀ x i : Int, 0 ≤ x → x < 60 → (i = 0 ∨ i = 1 → E 3 (60 + x) i = D 3 x i) ∧ E 17 (60 + x) i = D 17 x i ∧ E 18 (60 + x) i = D 18 x i) ∧ (∀ t i : Int, 0 ≤ t → t < 6 → (i = 4 ∨ i = 5 ∨ i = 6 ∨ i = 8 ∨ i = 9 ∨ i = 10 → E 4 (6 + t) i = D 4 t i) ∧ E 19 (6 + t) i = D 19 t i ∧ E 20 (6 + t) i = D 20 t i ∧ E 21 (6 + t) i = D 21 t i ∧ E 22 (6 + t) i = D 22 t i ∧ (i = 0 ∨ i = 1 → E 5 (8 + t) i = D 5 (1 + t) i)) ∧ (∀ i : Int, E 15 1 i = D 15 0 i ∧ E 16 1 i = D 16 0 i) ∧ (∀ i : Int, 7 ≤ i → i ≤ 13 → E 2 1 i = D 2 0 i) ∧ (∀ (q : Nat) (j i : Int), ¬ ((q = 3 ∨ q = 17 ∨ q = 18) ∧ 60 ≤ j) → ¬ ((q = 4 ∨ q = 19 ∨ q = 20 ∨ q = 21 ∨ q = 22) ∧ 6 ≤ j) → ¬ (q = 5 ∧ 7 ≤ j) → ¬ ((q = 2 ∨ q = 15 ∨ q = 16) ∧ j = 1) → E q j i = D q j i)
theorem pu_W1.r {D E : MiD} (h : pu_W1 D E) : ∀ x i : Int, 0 ≤ x → x < 60 → (i = 0 ∨ i = 1 → E 3 (60 + x) i = D 3 x i) ∧ E 17 (60 + x) i = D 17 x i ∧ E 18 (60 + x) i = D 18 x i := h.1
theorem pu_W1.t {D E : MiD} (h : pu_W1 D E) : ∀ t i : Int, 0 ≤ t → t < 6 → (i = 4 ∨ i = 5 ∨ i = 6 ∨ i = 8 ∨ i = 9 ∨ i = 10 → E 4 (6 + t) i = D 4 t i) ∧ E 19 (6 + t) i = D 19 t i ∧ E 20 (6 + t) i = D 20 t i ∧ E 21 (6 + t) i = D 21 t i ∧ E 22 (6 + t) i = D 22 t i ∧ (i = 0 ∨ i = 1 → E 5 (8 + t) i = D 5 (1 + t) i) := h.2.1
theorem pu_W1.s {D E : MiD} (h : pu_W1 D E) : ∀ i : Int, E 15 1 i = D 15 0 i ∧ E 16 1 i = D 16 0 i := h.2.2.1
theorem pu_W1.w {D E : MiD} (h : pu_W1 D E) : ∀ i : Int, 7 ≤ i → i ≤ 13 → E 2 1 i = D 2 0 i := h.2.2.2.1
theorem pu_W1.o {D E : MiD} (h : pu_W1 D E) : ∀ (q : Nat) (j i : Int), ¬ ((q = 3 ∨ q = 17 ∨ q = 18) ∧ 60 ≤ j) → ¬ ((q = 4 ∨ q = 19 ∨ q = 20 ∨ q = 21 ∨ q = 22) ∧ 6 ≤ j) → ¬ (q = 5 ∧ 7 ≤ j) → ¬ ((q = 2 ∨ q = 15 ∨ q = 16) ∧ j = 1) → E q j i = D q j i := h.2.2.2.2
theorem pu_A.w1 {Z Z' : MiZ} {D1 D2 E1 E2 : MiD} (B : pu_ZB Z) (h : pu_A 0 Z D1 D2) (W : pu_W1 D1 E1) (k : pu_zk Z Z' D1 E1) (k11 : ∀ f : Int, Z'.1 11 1 f = Z.1 11 0 f) (k12 : ∀ p : Int, Z'.1 12 1 p = Z.1 12 0 p) (k2 : ∀ (q : Nat) (j i : Int), q ≠ 66 → q ≠ 67 → ¬ (q = 40 ∧ i = 29) → E2 q j i = D2 q j i) : pu_A 1 Z' E1 E2 := by
  have p11 : E2 40 0 11 = D2 40 0 11 := k2 _ _ _ (by decide) (by decide) (by omega)
  have g := fun (q : Nat) (j i : Int) (a : q ≠ 66 ∧ q ≠ 67 ∧ q ≠ 40) => k2 q j i a.1 a.2.1 (fun z => a.2.2 z.1)
  refine ⟨⟨fun d m a b c e => ?_, fun d m a b c e z => ?_⟩, h.p.zk B k k11 k12 (fun q j i z => k2 q j i (by omega) (by omega) (by omega)), fun t a b => ?_, ?_⟩
  · obtain ⟨⟨r1, r2, r3⟩, hK⟩ := h.d.1 d m a b c e
    have hx : pu_x 1 d m = 60 + pu_x 0 d m := by unfold pu_x; omega
    have hb := pu_xB (w := 0) (by decide) ⟨a, b⟩ ⟨c, e⟩
    have hb2 : pu_x 0 d m < 60 := by unfold pu_x; omega
    rw [hx]
    refine ⟨⟨?_, ?_, fun p x y => ⟨?_, ?_⟩⟩, ?_⟩
    · rw [(W.r _ 0 hb.1 hb2).1 (Or.inl rfl), g _ _ _ (by decide)]; exact r1
    · rw [(W.r _ 1 hb.1 hb2).1 (Or.inr rfl), g _ _ _ (by decide)]; exact r2
    · rw [(W.r _ p hb.1 hb2).2.1, g _ _ _ (by decide)]; exact (r3 p x y).1
    · rw [(W.r _ p hb.1 hb2).2.2, g _ _ _ (by decide)]; exact (r3 p x y).2
    · unfold pu_K at hK ⊢
      simp only [g 52 _ _ (by decide), g 53 _ _ (by decide), g 55 _ _ (by decide), g 57 _ _ (by decide)]
      exact hK
  · rw [g _ _ _ (by decide)] at z ⊢
    exact h.d.2 d m a b c e z
  · obtain ⟨k1, k2', k3, k4, k5, k6, k7, k8, k9, k10, k12', k13, k14, k15, k16⟩ := h.t t a b
    have T := fun i => W.t t i a b
    simp only [Int.mul_zero, Int.zero_add] at k1 k4 k7 k10 k12' k13 k14
    refine ⟨?_, ?_, ?_, ?_, ?_, ?_, ?_, ?_, ?_, ?_, ?_, ?_, ?_, fun e x y => ?_, ?_⟩
    all_goals try (simp only [Int.reduceMul, (T 4).1 (by decide), (T 5).1 (by decide), (T 6).1 (by decide), (T 8).1 (by decide), (T 9).1 (by decide), (T 10).1 (by decide), g 59 _ _ (by decide), g 63 _ _ (by decide)]; assumption)
    · unfold pu_v at k14 ⊢
      rw [show (6 * 1 + t + 1 + (6 * 1 + t) / 6 : Int) = 8 + t by omega, (T 0).2.2.2.2.2 (Or.inl rfl), (T 1).2.2.2.2.2 (Or.inr rfl), g _ _ _ (by decide), g _ _ _ (by decide)]
      rw [show (t + 1 + t / 6 : Int) = 1 + t by omega] at k14
      exact k14
    · rw [g _ _ _ (by decide)] at y
      obtain ⟨f1, f2, f3, f4, f5, f6, f7, f8, f9, f10, f11⟩ := k15 e x y
      obtain ⟨-, t1, t2, t3, t4, -⟩ := T e
      simp only [Int.mul_zero, Int.zero_add] at f1 f4 f8 f11
      refine ⟨?_, ?_, ?_, ?_, ?_, ?_, ?_, ?_, ?_, ?_, ?_⟩
      all_goals (simp only [Int.reduceMul, t1, t2, t3, t4, g 63 _ _ (by decide), g 47 _ _ (by decide), p11]; assumption)
  · obtain ⟨b1, b2, b3, b4, b5, b6, b7, b8, b9, b10, b11, b12, b13, b14, b15, b16, b17, b18, b19, b20⟩ := h.w
    refine ⟨?_, ?_, ?_, ?_, ?_, ?_, ?_, ?_, ?_, fun t x y z => ?_, ?_, ?_, ?_, ?_, ?_, ?_, ?_, ?_, ?_, ?_⟩
    all_goals try (simp only [W.w 7 (by decide) (by decide), W.w 8 (by decide) (by decide), W.w 9 (by decide) (by decide), W.w 10 (by decide) (by decide), W.w 11 (by decide) (by decide), W.w 12 (by decide) (by decide), W.w 13 (by decide) (by decide), (W.s _).1, (W.s _).2, g 65 _ _ (by decide), g 64 _ _ (by decide), g 59 _ _ (by decide), g 49 _ _ (by decide), p11]; assumption)
    rw [g _ _ _ (by decide)] at z
    rw [show (6 * 1 + t : Int) = 6 + t by omega, (W.t t 8 x y).1 (by decide), g _ _ _ (by decide)]
    have := b10 t x y z
    rw [show (6 * 0 + t : Int) = t by omega] at this
    exact this
theorem pu_A.bk {Z Z' : MiZ} {D1 D2 E1 E2 : MiD} (B : pu_ZB Z) (h : pu_A 0 Z D1 D2) (k : pu_zk Z Z' D1 E1) (k11 : ∀ f : Int, Z'.1 11 0 f = Z.1 11 0 f) (k12 : ∀ p : Int, Z'.1 12 0 p = Z.1 12 0 p)
    (o : ∀ (q : Nat) (j i : Int), ¬ ((q = 3 ∨ q = 17 ∨ q = 18) ∧ 60 ≤ j) → ¬ ((q = 4 ∨ q = 19 ∨ q = 20 ∨ q = 21 ∨ q = 22) ∧ 6 ≤ j) → ¬ (q = 5 ∧ 7 ≤ j) → ¬ ((q = 2 ∨ q = 15 ∨ q = 16) ∧ j = 1) → E1 q j i = D1 q j i)
    (s : ∀ (q : Nat) (j i : Int), 0 ≤ pu_pos q j i ∨ 0 ≤ pu_po2 q j i ∨ q = 43 ∨ q = 46 ∨ q = 47 ∨ q = 48 ∨ q = 49 ∨ q = 51 ∨ q = 40 ∧ i = 11 → E2 q j i = D2 q j i) : pu_A 0 Z' E1 E2 := by
  have p11 : E2 40 0 11 = D2 40 0 11 := s _ _ _ (by omega)
  have g52 : ∀ r : Int, 0 ≤ r → r < 60 → E2 52 0 r = D2 52 0 r := fun r a b => s _ _ _ (Or.inl (by rw [pu_pp52 r a (by omega)]; omega))
  have g53 : ∀ r : Int, 0 ≤ r → r < 60 → E2 53 0 r = D2 53 0 r := fun r a b => s _ _ _ (Or.inl (by rw [pu_pp53 r a (by omega)]; omega))
  have g55 : ∀ r p : Int, 0 ≤ r → r < 60 → 0 ≤ p → p < 9 → E2 55 r p = D2 55 r p := fun r p a b c d => s _ _ _ (Or.inl (by rw [pu_pp55 ⟨a, b⟩ p c d]; omega))
  have g57 : ∀ r p : Int, 0 ≤ r → r < 60 → 0 ≤ p → p < 9 → E2 57 r p = D2 57 r p := fun r p a b c d => s _ _ _ (Or.inr (Or.inl (by rw [pu_po2p ⟨a, b⟩ ⟨c, d⟩]; omega)))
  have g59 : ∀ t i : Int, 0 ≤ t → t < 6 → 0 ≤ i → i < 7 → E2 59 t i = D2 59 t i := fun t i a b c d => s _ _ _ (Or.inl (by rw [pu_pp59 ⟨a, by omega⟩ i c d]; omega))
  have g60 : ∀ t : Int, 0 ≤ t → t < 6 → E2 60 0 t = D2 60 0 t := fun t a b => s _ _ _ (Or.inr (Or.inl (by rw [pu_po2t ⟨a, by omega⟩]; omega)))
  have g63 : ∀ e i : Int, 0 ≤ e → e < 60 → 0 ≤ i → i < 4 → E2 63 e i = D2 63 e i := fun e i a b c d => s _ _ _ (Or.inl (by rw [pu_pp63 ⟨a, b⟩ i c d]; omega))
  have g64 : ∀ i : Int, 0 ≤ i → i < 8 → E2 64 0 i = D2 64 0 i := fun i a b => s _ _ _ (Or.inl (by rw [pu_pp64 i a b]; omega))
  have g65 : ∀ i : Int, 0 ≤ i → i < 8 → E2 65 0 i = D2 65 0 i := fun i a b => s _ _ _ (Or.inl (by rw [pu_pp65 i a b]; omega))
  refine ⟨⟨fun d m a b c e => ?_, fun d m a b c e z => ?_⟩, h.p.zk B k k11 k12 (fun q j i z => s q j i (by omega)), fun t a b => ?_, ?_⟩
  · obtain ⟨⟨r1, r2, r3⟩, hK⟩ := h.d.1 d m a b c e
    have hb := pu_rB ⟨a, b⟩ ⟨c, e⟩
    have hb2 : pu_x 0 d m < 60 := by unfold pu_x; omega
    refine ⟨⟨?_, ?_, fun p x y => ⟨?_, ?_⟩⟩, ?_, ?_, ?_, ?_, fun p x y => ?_⟩
    · rw [o _ _ _ (by omega) (by omega) (by omega) (by omega), g52 _ hb.1 hb.2]; exact r1
    · rw [o _ _ _ (by omega) (by omega) (by omega) (by omega), g53 _ hb.1 hb.2]; exact r2
    · rw [o _ _ _ (by omega) (by omega) (by omega) (by omega), g55 _ _ hb.1 hb.2 x y]; exact (r3 p x y).1
    · rw [o _ _ _ (by omega) (by omega) (by omega) (by omega), g57 _ _ hb.1 hb.2 x y]; exact (r3 p x y).2
    · rw [g52 _ hb.1 hb.2]; exact hK.1
    · rw [g52 _ hb.1 hb.2]; exact hK.2.1
    · rw [g53 _ hb.1 hb.2]; exact hK.2.2.1
    · rw [g53 _ hb.1 hb.2]; exact hK.2.2.2.1
    · rw [g52 _ hb.1 hb.2, g55 _ _ hb.1 hb.2 x y, g57 _ _ hb.1 hb.2 x y]; exact hK.2.2.2.2 p x y
  · rw [g52 _ a (by omega)] at z
    have hb := pu_rB ⟨a, b⟩ ⟨c, e⟩
    rw [g52 _ hb.1 hb.2]
    exact h.d.2 d m a b c e z
  · obtain ⟨k1, k2', k3, k4, k5, k6, k7, k8, k9, k10, k12', k13, k14, k15, k16⟩ := h.t t a b
    have o4 : ∀ i : Int, E1 4 (6 * 0 + t) i = D1 4 (6 * 0 + t) i := fun i => o _ _ _ (by omega) (by omega) (by omega) (by omega)
    have q : ∀ i : Int, 0 ≤ i → i < 7 → E2 59 t i = D2 59 t i := fun i x y => g59 t i a b x y
    refine ⟨?_, ?_, ?_, ?_, ?_, ?_, ?_, ?_, ?_, ?_, ?_, ?_, ?_, fun e x y => ?_, fun y => ?_⟩
    all_goals try (simp only [o4, q 0 (by decide) (by decide), q 1 (by decide) (by decide), q 3 (by decide) (by decide), q 5 (by decide) (by decide), q 6 (by decide) (by decide)]; assumption)
    · unfold pu_v at k14 ⊢
      rw [o _ _ _ (by omega) (by omega) (by omega) (by omega), o _ _ _ (by omega) (by omega) (by omega) (by omega), q 2 (by decide) (by decide), g60 t a b]
      exact k14
    · rw [q 0 (by decide) (by decide)] at y
      obtain ⟨f1, f2, f3, f4, f5, f6, f7, f8, f9, f10, f11⟩ := k15 e x y
      have o' : ∀ q : Nat, q = 19 ∨ q = 20 ∨ q = 21 ∨ q = 22 → E1 q (6 * 0 + t) e = D1 q (6 * 0 + t) e := fun q z => o _ _ _ (by omega) (by omega) (by omega) (by omega)
      have g' : ∀ i : Int, 0 ≤ i → i < 4 → E2 63 (10 * t + e) i = D2 63 (10 * t + e) i := fun i z z' => g63 _ _ (by omega) (by omega) z z'
      have g47 : ∀ p : Int, E2 47 0 p = D2 47 0 p := fun p => s _ _ _ (by omega)
      refine ⟨?_, ?_, ?_, ?_, ?_, ?_, ?_, ?_, ?_, ?_, ?_⟩
      all_goals (simp only [o' 19 (by decide), o' 20 (by decide), o' 21 (by decide), o' 22 (by decide), g' 0 (by decide) (by decide), g' 1 (by decide) (by decide), g' 2 (by decide) (by decide), g' 3 (by decide) (by decide), g47, p11]; assumption)
    · rw [q 3 (by decide) (by decide)] at y
      obtain ⟨z1, z2, z3⟩ := k16 y
      rw [q 1 (by decide) (by decide), q 0 (by decide) (by decide), g63 _ _ (by omega) (by omega) (by decide) (by decide)]
      exact ⟨z1, z2, z3⟩
  · obtain ⟨b1, b2, b3, b4, b5, b6, b7, b8, b9, b10, b11, b12, b13, b14, b15, b16, b17, b18, b19, b20⟩ := h.w
    have o2 : ∀ i : Int, E1 2 0 i = D1 2 0 i := fun i => o _ _ _ (by omega) (by omega) (by omega) (by omega)
    have o15 : ∀ i : Int, E1 15 0 i = D1 15 0 i := fun i => o _ _ _ (by omega) (by omega) (by omega) (by omega)
    have o16 : ∀ i : Int, E1 16 0 i = D1 16 0 i := fun i => o _ _ _ (by omega) (by omega) (by omega) (by omega)
    have g49 : ∀ i : Int, E2 49 0 i = D2 49 0 i := fun i => s _ _ _ (by omega)
    have q5 : ∀ t : Int, 0 ≤ t → t < 6 → E2 59 t 5 = D2 59 t 5 := fun t a b => g59 t 5 a b (by decide) (by decide)
    refine ⟨?_, ?_, ?_, ?_, ?_, ?_, ?_, ?_, ?_, fun t x y z => ?_, fun t x y z => ?_, ?_, ?_, ?_, ?_, ?_, fun t x y => ?_, fun t t' x y z => ?_, fun z => ?_, ?_⟩
    all_goals try (simp only [o2, o15, o16, g49, g65 0 (by decide) (by decide), g65 1 (by decide) (by decide), g65 2 (by decide) (by decide), g65 3 (by decide) (by decide), g65 4 (by decide) (by decide), g65 5 (by decide) (by decide), g65 6 (by decide) (by decide), g65 7 (by decide) (by decide), q5 0 (by decide) (by decide), q5 1 (by decide) (by decide), q5 2 (by decide) (by decide), q5 3 (by decide) (by decide), q5 4 (by decide) (by decide), q5 5 (by decide) (by decide), p11]; assumption)
    · rw [g65 1 (by decide) (by decide)] at z
      rw [o _ _ _ (by omega) (by omega) (by omega) (by omega), g59 t 4 x y (by decide) (by decide)]
      exact b10 t x y z
    · rw [g65 1 (by decide) (by decide)] at z
      rw [g59 t 4 x y (by decide) (by decide)]
      exact b11 t x y z
    · rw [g65 0 (by decide) (by decide)] at y
      rw [o15, g64 t x (by omega), p11]
      exact b17 t x y
    · rw [g65 0 (by decide) (by decide)] at z
      rw [g64 t x (by omega), g64 t' (by omega) (by omega)]
      exact b18 t t' x y z
    · rw [g65 1 (by decide) (by decide)] at z ⊢
      rw [g65 0 (by decide) (by decide), g64 _ (by have := b19 z; omega) (by omega)]
      exact b19 z
theorem pu_CL.k {Z Z' : MiZ} (h : CL Z) (k : ∀ (q : Nat) (j i : Int), q = 1 ∨ q = 2 ∨ q = 3 ∨ q = 4 ∨ q = 13 ∨ q = 14 → Z'.1 q j i = Z.1 q j i) : CL Z' := by
  unfold CL at h ⊢
  simp only [k 1 _ _ (by decide), k 2 _ _ (by decide), k 3 _ _ (by decide), k 4 _ _ (by decide), k 13 _ _ (by decide), k 14 _ _ (by decide)]
  exact h
def pu_WK (D E : MiD) (k l : Int) : Prop := (∀ x i : Int, 0 ≤ x → x < k → (i = 0 ∨ i = 1 → E 3 (60 + x) i = D 3 x i) ∧ E 17 (60 + x) i = D 17 x i ∧ E 18 (60 + x) i = D 18 x i) ∧ (∀ t i : Int, 0 ≤ t → t < l → (i = 4 ∨ i = 5 ∨ i = 6 ∨ i = 8 ∨ i = 9 ∨ i = 10 → E 4 (6 + t) i = D 4 t i) ∧ E 19 (6 + t) i = D 19 t i ∧ E 20 (6 + t) i = D 20 t i ∧ E 21 (6 + t) i = D 21 t i ∧ E 22 (6 + t) i = D 22 t i ∧ (i = 0 ∨ i = 1 → E 5 (8 + t) i = D 5 (1 + t) i)) ∧ (∀ (q : Nat) (j i : Int), ¬ ((q = 3 ∨ q = 17 ∨ q = 18) ∧ 60 ≤ j) → ¬ ((q = 4 ∨ q = 19 ∨ q = 20 ∨ q = 21 ∨ q = 22) ∧ 6 ≤ j) → ¬ (q = 5 ∧ 7 ≤ j) → E q j i = D q j i)
theorem pu_WK.r {D E : MiD} {k l : Int} (h : pu_WK D E k l) : ∀ x i : Int, 0 ≤ x → x < k → (i = 0 ∨ i = 1 → E 3 (60 + x) i = D 3 x i) ∧ E 17 (60 + x) i = D 17 x i ∧ E 18 (60 + x) i = D 18 x i := h.1
theorem pu_WK.t {D E : MiD} {k l : Int} (h : pu_WK D E k l) : ∀ t i : Int, 0 ≤ t → t < l → (i = 4 ∨ i = 5 ∨ i = 6 ∨ i = 8 ∨ i = 9 ∨ i = 10 → E 4 (6 + t) i = D 4 t i) ∧ E 19 (6 + t) i = D 19 t i ∧ E 20 (6 + t) i = D 20 t i ∧ E 21 (6 + t) i = D 21 t i ∧ E 22 (6 + t) i = D 22 t i ∧ (i = 0 ∨ i = 1 → E 5 (8 + t) i = D 5 (1 + t) i) := h.2.1
theorem pu_WK.o {D E : MiD} {k l : Int} (h : pu_WK D E k l) : ∀ (q : Nat) (j i : Int), ¬ ((q = 3 ∨ q = 17 ∨ q = 18) ∧ 60 ≤ j) → ¬ ((q = 4 ∨ q = 19 ∨ q = 20 ∨ q = 21 ∨ q = 22) ∧ 6 ≤ j) → ¬ (q = 5 ∧ 7 ≤ j) → E q j i = D q j i := h.2.2
theorem pu_WK.row {D E : MiD} {k : Int} (h : pu_WK D E k 0) (hk : 0 ≤ k ∧ k < 60) : pu_WK D (pu_copy E (60 + k) k) (k + 1) 0 := by
  refine ⟨fun x i a b => ?_, fun t i a b => by omega, fun q j i a b c => ?_⟩
  · unfold pu_copy
    by_cases e : x = k
    · subst e
      refine ⟨fun z => ?_, ?_, ?_⟩
      · rcases z with rfl | rfl
        · rw [if_pos ⟨rfl, rfl, rfl⟩]; exact h.o _ _ _ (by omega) (by omega) (by omega)
        · rw [if_neg (by omega), if_pos ⟨rfl, rfl, rfl⟩]; exact h.o _ _ _ (by omega) (by omega) (by omega)
      · rw [if_neg (by omega), if_neg (by omega), if_pos ⟨rfl, rfl⟩]; exact h.o _ _ _ (by omega) (by omega) (by omega)
      · rw [if_neg (by omega), if_neg (by omega), if_neg (by omega), if_pos ⟨rfl, rfl⟩]; exact h.o _ _ _ (by omega) (by omega) (by omega)
    · rw [if_neg (by omega), if_neg (by omega), if_neg (by omega), if_neg (by omega), if_neg (by omega), if_neg (by omega), if_neg (by omega), if_neg (by omega), if_neg (by omega), if_neg (by omega), if_neg (by omega), if_neg (by omega)]
      exact h.r x i a (by omega)
  · unfold pu_copy
    rw [if_neg (by omega), if_neg (by omega), if_neg (by omega), if_neg (by omega)]
    exact h.o q j i a b c
def pu_cpT (D : MiD) (t : Int) : MiD := fun q j i => if (q = 19 ∨ q = 20 ∨ q = 21 ∨ q = 22) ∧ j = 6 + t then D q t i else if q = 4 ∧ j = 6 + t ∧ (i = 4 ∨ i = 5 ∨ i = 6 ∨ i = 8 ∨ i = 9 ∨ i = 10) then D 4 t i else if q = 5 ∧ j = 8 + t ∧ (i = 0 ∨ i = 1) then D 5 (1 + t) i else D q j i
def pu_cpA (D : MiD) (t : Int) : MiD := fun q j i => if (q = 19 ∨ q = 20 ∨ q = 21 ∨ q = 22) ∧ j = 6 + t then D q t i else D q j i
theorem pu_cp1 {D : MiD} {t : Int} : mi_cp (mi_cp (mi_cp (mi_cp D 19 t (6 + t)) 20 t (6 + t)) 21 t (6 + t)) 22 t (6 + t) = pu_cpA D t := by
  funext q j i
  unfold pu_cpA
  simp only [pu_cp]
  by_cases a : j = 6 + t
  · subst a
    by_cases b1 : q = 22
    · subst b1; simp
    by_cases b2 : q = 21
    · subst b2; simp
    by_cases b3 : q = 20
    · subst b3; simp
    by_cases b4 : q = 19
    · subst b4; simp
    simp [b1, b2, b3, b4]
  · simp [a]
theorem pu_cp2 {D : MiD} {t : Int} (ht : 0 ≤ t) : mi_st (mi_st (mi_st D 4 (6 + t) 4 (D 4 t 4)) 4 (6 + t) 5 (D 4 t 5)) 4 (6 + t) 6 (D 4 t 6) = fun q j i => if q = 4 ∧ j = 6 + t ∧ (i = 4 ∨ i = 5 ∨ i = 6) then D 4 t i else D q j i := by
  funext q j i
  grind (splits := 20) [mi_st]
theorem pu_cp3 {D : MiD} {t : Int} (ht : 0 ≤ t) : mi_st (mi_st (mi_st D 4 (6 + t) 8 (D 4 t 8)) 4 (6 + t) 9 (D 4 t 9)) 4 (6 + t) 10 (D 4 t 10) = fun q j i => if q = 4 ∧ j = 6 + t ∧ (i = 8 ∨ i = 9 ∨ i = 10) then D 4 t i else D q j i := by
  funext q j i
  grind (splits := 20) [mi_st]
theorem pu_cpTe {D : MiD} {t : Int} (ht : 0 ≤ t ∧ t < 6) (h8 : D 4 t 8 = 0 ∨ D 4 t 8 = 1) : B_X7_copyFrom (6 * 1 + t) (6 * 0 + t) D = some (pu_cpT D t) := by
  unfold B_X7_copyFrom
  rw [show (6 * 1 + t : Int) = 6 + t by omega, show (6 * 0 + t : Int) = t by omega, show (6 + t + 1 + (6 + t) / 6 : Int) = 8 + t by omega, show (t + 1 + t / 6 : Int) = 1 + t by omega]
  simp only [pu_letE, pu_cp1]
  generalize hA : pu_cpA D t = A
  have a4 : ∀ i : Int, A 4 t i = D 4 t i := fun i => by rw [← hA]; show (if _ then _ else _) = _; rw [if_neg (by omega)]
  have s1 : ∀ v : Int, mi_st A 4 (6 + t) 4 v 4 t 5 = A 4 t 5 := fun v => by rw [pu_st, if_neg (by omega)]
  have s2 : ∀ v u : Int, mi_st (mi_st A 4 (6 + t) 4 v) 4 (6 + t) 5 u 4 t 6 = A 4 t 6 := fun v u => by rw [pu_st, if_neg (by omega), pu_st, if_neg (by omega)]
  rw [s1, s2, pu_cp2 ht.1, pu_be_e, pu_biE]
  generalize hB : (fun (q : Nat) (j i : Int) => if q = 4 ∧ j = 6 + t ∧ (i = 4 ∨ i = 5 ∨ i = 6) then A 4 t i else A q j i) = B
  have b4 : ∀ i : Int, B 4 t i = D 4 t i := fun i => by rw [← hB]; show (if _ then _ else _) = _; rw [if_neg (by omega)]; exact a4 i
  generalize hC : pu_be B (8 + t) (B 5 (1 + t) 0) (B 5 (1 + t) 1) = C
  have c4 : ∀ i : Int, C 4 t i = D 4 t i := fun i => by rw [← hC]; unfold pu_be; rw [if_neg (by omega), if_neg (by omega)]; exact b4 i
  have u1 : ∀ v : Int, mi_st C 4 (6 + t) 8 v 4 t 9 = C 4 t 9 := fun v => by rw [pu_st, if_neg (by omega)]
  have u2 : ∀ v u : Int, mi_st (mi_st C 4 (6 + t) 8 v) 4 (6 + t) 9 u 4 t 10 = C 4 t 10 := fun v u => by rw [pu_st, if_neg (by omega), pu_st, if_neg (by omega)]
  rw [if_pos (by rw [c4]; exact h8), u1, u2, pu_cp3 ht.1]
  congr 1
  funext q j i
  unfold pu_cpT
  show (if _ then _ else _) = _
  by_cases e1 : q = 4 ∧ j = 6 + t ∧ (i = 8 ∨ i = 9 ∨ i = 10)
  · rw [if_pos e1, if_neg (by omega), if_pos (by omega)]; exact c4 i
  · rw [if_neg e1, ← hC]
    unfold pu_be
    have b5 : ∀ k : Int, B 5 (1 + t) k = D 5 (1 + t) k := fun k => by
      rw [← hB]; show (if _ then _ else _) = _; rw [if_neg (by omega), ← hA]; show (if _ then _ else _) = _; rw [if_neg (by omega)]
    by_cases e2 : q = 5 ∧ j = 8 + t ∧ i = 0
    · rw [if_pos e2, if_neg (by omega), if_neg (by omega), if_pos (by omega), e2.2.2, b5]
    · by_cases e3 : q = 5 ∧ j = 8 + t ∧ i = 1
      · rw [if_neg e2, if_pos e3, if_neg (by omega), if_neg (by omega), if_pos (by omega), e3.2.2, b5]
      · rw [if_neg e2, if_neg e3, ← hB]
        show (if _ then _ else _) = _
        by_cases e4 : q = 4 ∧ j = 6 + t ∧ (i = 4 ∨ i = 5 ∨ i = 6)
        · rw [if_pos e4, if_neg (by omega), if_pos (by omega)]; exact a4 i
        · rw [if_neg e4, ← hA]
          show (if _ then _ else _) = _
          by_cases e5 : (q = 19 ∨ q = 20 ∨ q = 21 ∨ q = 22) ∧ j = 6 + t
          · rw [if_pos e5, if_pos e5]
          · rw [if_neg e5, if_neg e5, if_neg (by omega), if_neg (by omega)]
theorem pu_WK.tk {D E : MiD} {l : Int} (h : pu_WK D E 60 l) (hl : 0 ≤ l ∧ l < 6) : pu_WK D (pu_cpT E l) 60 (l + 1) := by
  refine ⟨fun x i a b => ?_, fun t i a b => ?_, fun q j i a b c => ?_⟩
  · unfold pu_cpT
    rw [if_neg (by omega), if_neg (by omega), if_neg (by omega), if_neg (by omega), if_neg (by omega), if_neg (by omega), if_neg (by omega), if_neg (by omega), if_neg (by omega)]
    exact h.r x i a b
  · unfold pu_cpT
    have o : ∀ (q : Nat) (i : Int), q = 4 ∨ q = 19 ∨ q = 20 ∨ q = 21 ∨ q = 22 → E q l i = D q l i := fun q i z => h.o _ _ _ (by omega) (by omega) (by omega)
    by_cases e : t = l
    · subst e
      refine ⟨fun z => ?_, ?_, ?_, ?_, ?_, fun z => ?_⟩
      · rw [if_neg (by omega), if_pos ⟨rfl, rfl, z⟩]; exact o _ _ (by omega)
      · rw [if_pos (by omega)]; exact o _ _ (by omega)
      · rw [if_pos (by omega)]; exact o _ _ (by omega)
      · rw [if_pos (by omega)]; exact o _ _ (by omega)
      · rw [if_pos (by omega)]; exact o _ _ (by omega)
      · rw [if_neg (by omega), if_neg (by omega), if_pos ⟨rfl, rfl, z⟩]; exact h.o _ _ _ (by omega) (by omega) (by omega)
    · obtain ⟨t1, t2, t3, t4, t5, t6⟩ := h.t t i a (by omega)
      refine ⟨fun z => ?_, ?_, ?_, ?_, ?_, fun z => ?_⟩
      · rw [if_neg (by omega), if_neg (by omega), if_neg (by omega)]; exact t1 z
      · rw [if_neg (by omega), if_neg (by omega), if_neg (by omega)]; exact t2
      · rw [if_neg (by omega), if_neg (by omega), if_neg (by omega)]; exact t3
      · rw [if_neg (by omega), if_neg (by omega), if_neg (by omega)]; exact t4
      · rw [if_neg (by omega), if_neg (by omega), if_neg (by omega)]; exact t5
      · rw [if_neg (by omega), if_neg (by omega), if_neg (by omega)]; exact t6 z
  · unfold pu_cpT
    rw [if_neg (by omega), if_neg (by omega), if_neg (by omega)]
    exact h.o q j i a b c
theorem pu_cw64 {Z : MiZ} {D : MiD} (h9 : D 2 0 9 = 0 ∨ D 2 0 9 = 1) (h8 : ∀ t : Int, 0 ≤ t → t < 6 → D 4 t 8 = 0 ∨ D 4 t 8 = 1) : ∀ (f : Nat) (t : Int) (E : MiD), pu_WK D E 60 t → 0 ≤ t → t ≤ 6 → 6 - t < f → ∃ F, B_X9_copyFrom_64 f 1 0 t E Z = some (F, Z) ∧ pu_W1 D F
  | 0, t, E, h, h1, h2, h3 => by omega
  | f + 1, t, E, h, h1, h2, h3 => by
    unfold B_X9_copyFrom_64
    by_cases c : 6 ≤ t
    · rw [if_pos c]
      have e2 : ∀ i : Int, mi_cp (mi_cp E 15 0 1) 16 0 1 2 0 i = D 2 0 i := fun i => by
        rw [pu_cp, if_neg (by omega), pu_cp, if_neg (by omega)]; exact h.o _ _ _ (by omega) (by omega) (by omega)
      have eo : ∀ (q : Nat) (j i : Int), ¬ ((q = 15 ∨ q = 16) ∧ j = 1) → mi_cp (mi_cp E 15 0 1) 16 0 1 q j i = E q j i := fun q j i z => by
        rw [pu_cp, if_neg (by omega), pu_cp, if_neg (by omega)]
      have e15 : ∀ i : Int, mi_cp (mi_cp E 15 0 1) 16 0 1 15 1 i = D 15 0 i := fun i => by
        rw [pu_cp, if_neg (by omega), pu_cp, if_pos ⟨rfl, rfl⟩]; exact h.o _ _ _ (by omega) (by omega) (by omega)
      have e16 : ∀ i : Int, mi_cp (mi_cp E 15 0 1) 16 0 1 16 1 i = D 16 0 i := fun i => by
        rw [pu_cp, if_pos ⟨rfl, rfl⟩, pu_cp, if_neg (by omega)]; exact h.o _ _ _ (by omega) (by omega) (by omega)
      rw [pu_letE, pu_letE]
      generalize mi_cp (mi_cp E 15 0 1) 16 0 1 = A at *
      have n : ∀ (X : MiD) (k i v : Int), mi_st X 2 1 k v 2 0 i = X 2 0 i := fun X k i v => by rw [pu_st, if_neg (by omega)]
      simp only [pu_letE, n, e2]
      rw [if_pos h9]
      refine ⟨_, rfl, fun x i a b => ?_, fun s i a b => ?_, fun i => ⟨?_, ?_⟩, fun i a b => ?_, fun q j i a b d e => ?_⟩
      · simp only [pu_st]
        rw [if_neg (by omega), if_neg (by omega), if_neg (by omega), if_neg (by omega), if_neg (by omega), if_neg (by omega), if_neg (by omega), if_neg (by omega), if_neg (by omega), if_neg (by omega), if_neg (by omega), if_neg (by omega), if_neg (by omega), if_neg (by omega), if_neg (by omega), if_neg (by omega), if_neg (by omega), if_neg (by omega), if_neg (by omega), if_neg (by omega), if_neg (by omega), eo _ _ _ (by omega), eo _ _ _ (by omega), eo _ _ _ (by omega)]
        exact h.r x i a b
      · have q2 : ∀ (q : Nat) (j : Int), q ≠ 2 → q ≠ 15 → q ≠ 16 → mi_st (mi_st (mi_st (mi_st (mi_st (mi_st (mi_st A 2 1 7 (D 2 0 7)) 2 1 8 (D 2 0 8)) 2 1 9 (D 2 0 9)) 2 1 10 (D 2 0 10)) 2 1 11 (D 2 0 11)) 2 1 12 (D 2 0 12)) 2 1 13 (D 2 0 13) q j i = E q j i := fun q j z z' z'' => by
          rw [pu_st, if_neg (by omega), pu_st, if_neg (by omega), pu_st, if_neg (by omega), pu_st, if_neg (by omega), pu_st, if_neg (by omega), pu_st, if_neg (by omega), pu_st, if_neg (by omega), eo _ _ _ (by omega)]
        rw [q2 4 _ (by decide) (by decide) (by decide), q2 19 _ (by decide) (by decide) (by decide), q2 20 _ (by decide) (by decide) (by decide), q2 21 _ (by decide) (by decide) (by decide), q2 22 _ (by decide) (by decide) (by decide), q2 5 _ (by decide) (by decide) (by decide)]
        exact h.t s i a (by omega)
      · rw [pu_st, if_neg (by omega), pu_st, if_neg (by omega), pu_st, if_neg (by omega), pu_st, if_neg (by omega), pu_st, if_neg (by omega), pu_st, if_neg (by omega), pu_st, if_neg (by omega)]; exact e15 i
      · rw [pu_st, if_neg (by omega), pu_st, if_neg (by omega), pu_st, if_neg (by omega), pu_st, if_neg (by omega), pu_st, if_neg (by omega), pu_st, if_neg (by omega), pu_st, if_neg (by omega)]; exact e16 i
      · have : i = 7 ∨ i = 8 ∨ i = 9 ∨ i = 10 ∨ i = 11 ∨ i = 12 ∨ i = 13 := by omega
        simp only [pu_st]
        rcases this with rfl | rfl | rfl | rfl | rfl | rfl | rfl <;> simp
      · rw [pu_st, if_neg (by omega), pu_st, if_neg (by omega), pu_st, if_neg (by omega), pu_st, if_neg (by omega), pu_st, if_neg (by omega), pu_st, if_neg (by omega), pu_st, if_neg (by omega), eo _ _ _ (by omega)]
        exact h.o q j i a b d
    · rw [if_neg c, if_pos (show 0 ≤ t ∧ t < 6 by omega), pu_cpTe ⟨h1, by omega⟩ (by rw [h.o _ _ _ (by omega) (by omega) (by omega)]; exact h8 t h1 (by omega)), pu_biE, pu_w (x := t + 1) (by omega) (by omega)]
      exact pu_cw64 h9 h8 f (t + 1) _ (h.tk ⟨h1, by omega⟩) (by omega) (by omega) (by omega)
theorem pu_cw32 {Z : MiZ} {D : MiD} (h9 : D 2 0 9 = 0 ∨ D 2 0 9 = 1) (h8 : ∀ t : Int, 0 ≤ t → t < 6 → D 4 t 8 = 0 ∨ D 4 t 8 = 1) : ∀ (f : Nat) (k : Int) (E : MiD), pu_WK D E k 0 → 0 ≤ k → k ≤ 60 → 60 - k < f → ∃ F, B_X9_copyFrom_32 f 1 0 k E Z = some (F, Z) ∧ pu_W1 D F
  | 0, t, E, h, h1, h2, h3 => by omega
  | f + 1, k, E, h, h1, h2, h3 => by
    have fE := pu_fuelE
    unfold B_X9_copyFrom_32
    by_cases c : 60 ≤ k
    · rw [if_pos c]
      have : k = 60 := by omega
      subst this
      exact pu_cw64 h9 h8 mi_fuel 0 E h (by decide) (by decide) (by omega)
    · rw [if_neg c, if_pos (show 0 ≤ k ∧ k < 60 by omega), pu_copy_e, pu_biE, pu_w (x := k + 1) (by omega) (by omega), show (60 * 1 + k : Int) = 60 + k by omega, show (60 * 0 + k : Int) = k by omega]
      exact pu_cw32 h9 h8 f (k + 1) _ (h.row ⟨h1, by omega⟩) (by omega) (by omega) (by omega)
theorem pu_cw {Z : MiZ} {D : MiD} (hC : CL Z) (h9 : D 2 0 9 = 0 ∨ D 2 0 9 = 1) (h8 : ∀ t : Int, 0 ≤ t → t < 6 → D 4 t 8 = 0 ∨ D 4 t 8 = 1) : ∃ F, B_X9_copyFrom 1 0 D Z = some (F, (mi_cp (mi_cp Z.1 11 0 1) 12 0 1, Z.2)) ∧ pu_W1 D F ∧ CL (mi_cp (mi_cp Z.1 11 0 1) 12 0 1, Z.2) := by
  have fE := pu_fuelE
  have c1 : CL (mi_cp Z.1 11 0 1, Z.2) := pu_CL.k hC fun q j i z => by
    show mi_cp Z.1 11 0 1 q j i = _
    rw [pu_cp, if_neg (by omega)]
  have c2 : CL (mi_cp (mi_cp Z.1 11 0 1) 12 0 1, Z.2) := pu_CL.k c1 fun q j i z => by
    show mi_cp (mi_cp Z.1 11 0 1) 12 0 1 q j i = mi_cp Z.1 11 0 1 q j i
    rw [pu_cp, if_neg (by omega)]
  obtain ⟨F, f1, f2⟩ := pu_cw32 (Z := (mi_cp (mi_cp Z.1 11 0 1) 12 0 1, Z.2)) h9 h8 mi_fuel 0 D ⟨fun x i a b => by omega, fun t i a b => by omega, fun _ _ _ _ _ _ => rfl⟩ (by decide) (by decide) (by omega)
  refine ⟨F, ?_, f2, c2⟩
  unfold B_X9_copyFrom
  rw [pu_letE, mi_req_t c1, pu_letE, mi_req_t c2]
  exact f1
theorem pu_pos_n {q : Nat} {j i : Int} (h : q ≠ 52 ∧ q ≠ 53 ∧ q ≠ 64 ∧ q ≠ 65 ∧ q ≠ 55 ∧ q ≠ 59 ∧ q ≠ 63) : pu_pos q j i = -1 := by
  unfold pu_pos
  rw [if_neg (by omega), if_neg (by omega), if_neg (by omega), if_neg (by omega), if_neg (by omega), if_neg (by omega), if_neg (by omega)]
theorem pu_pos_lt {q : Nat} {j i : Int} : pu_pos q j i < 967 := by
  unfold pu_pos
  repeat' split
  all_goals omega
theorem pu_po2_lt {q : Nat} {j i : Int} : pu_po2 q j i < 547 := by
  unfold pu_po2
  repeat' split
  all_goals omega
theorem pu_wt_l {Z : MiZ} : ∀ (f : Nat) (n : Int) (D1 D2 : MiD), pu_A 1 Z D1 D2 → D2 65 0 1 ≠ -1 → 0 ≤ n → n ≤ 60 → 60 - n < f →
    ∃ (v E : _) (G : MiD) (k b : Int), B_X10_waits_26 f (n + 1) D1 Z = some (v, (E, Z)) ∧ B_X11_waits_24 f n D2 = B_X11_waits_65 k b G ∧ v = (if b = 0 then -1 else k) ∧ pu_t1 1 D1 E ∧ pu_t2 D2 G
  | 0, n, D1, D2, h, hp, h1, h2, h3 => by omega
  | f + 1, n, D1, D2, h, hp, h1, h2, h3 => by
    unfold B_X10_waits_26
    conv => arg 1; ext v; arg 1; ext E; arg 1; ext G; arg 1; ext k; arg 1; ext b; arg 2; arg 1; arg 1; unfold B_X11_waits_24
    unfold B_X11_waits_50
    by_cases c : n = 60
    · rw [if_pos (show 60 < n + 1 by omega), if_pos (show 60 ≤ n by omega), if_pos hp]
      exact ⟨-1, D1, D2, n, 0, rfl, rfl, rfl, pu_t1.rf, pu_t2.rf⟩
    · obtain ⟨E, G, k1, k2, k3, k4, k5⟩ := pu_tick (by decide) h
      rw [if_neg (show ¬ 60 < n + 1 by omega), if_neg (show ¬ 60 ≤ n by omega), if_neg hp, k1, k2, pu_biE, pu_biE, pu_w (x := n + 1 + 1) (by omega) (by omega), pu_w (x := n + 1) (by omega) (by omega), k3.w.tn]
      by_cases e : G 65 0 1 = -1
      · rw [if_neg (fun z => z e)]
        cases f with
        | zero => omega
        | succ g =>
          unfold B_X11_waits_24 B_X11_waits_50
          rw [if_neg (show ¬ (G 65 0 1 ≠ -1) from fun z => z e)]
          by_cases d : 60 ≤ n + 1
          · rw [if_pos d]; exact ⟨n + 1, E, G, n + 1, 1, rfl, rfl, rfl, k4, k5⟩
          · rw [if_neg d, if_pos e]; exact ⟨n + 1, E, G, n + 1, 1, rfl, rfl, rfl, k4, k5⟩
      · rw [if_pos e]
        obtain ⟨v, E', G', k, b, m1, m2, m3, m4, m5⟩ := pu_wt_l f (n + 1) E G k3 e (by omega) (by omega) (by omega)
        exact ⟨v, E', G', k, b, m1, m2, m3, k4.tr m4, k5.tr m5⟩
theorem pu_waits {Z : MiZ} {D1 D2 : MiD} (h : pu_L Z D1 D2) (B : pu_ZB Z) (hC : CL Z) : ∃ v E Z' G, B_X10_waits D1 Z = some (v, (E, Z')) ∧ B_X11_waits D2 = some (v, G) ∧ pu_L Z' E G ∧ pu_ZB Z' ∧ CL Z' ∧ Z'.2 = Z.2 ∧ (∀ i : Int, E 0 0 i = D1 0 0 i) ∧ ∀ i : Int, G 0 0 i = D2 0 0 i := by
  have hL := h.z
  have W := hL.a.w
  have fE := pu_fuelE
  unfold B_X10_waits B_X11_waits
  rw [pu_letE, W.tn]
  by_cases c : mi_st D2 40 0 0 0 65 0 1 = -1
  · rw [if_neg (fun z => z c), if_neg (fun z => z c)]
    exact ⟨0, D1, Z, _, rfl, rfl, hL, B, hC, rfl, fun _ => rfl, fun i => by rw [pu_st, if_neg (by omega)]⟩
  · rw [if_pos c, if_pos c]
    obtain ⟨F, f1, f2, f3⟩ := pu_cw (D := D1) hC W.onb (fun t a b => by have := (hL.a.t t a b).tu; rw [show (6 * 0 + t : Int) = t by omega] at this; exact this)
    obtain ⟨S, s1, s2⟩ := pu_out (D := mi_st D2 40 0 0 0)
    have e00 : ∀ i : Int, mi_st D2 40 0 0 0 0 0 i = D2 0 0 i := fun i => by rw [pu_st, if_neg (by omega)]
    generalize mi_st D2 40 0 0 0 = D2 at *
    generalize hZ : (mi_cp (mi_cp Z.1 11 0 1) 12 0 1, Z.2) = Z' at *
    have z2 : Z'.2 = Z.2 := by rw [← hZ]
    have zo : ∀ (q : Nat) (j i : Int), ¬ ((q = 11 ∨ q = 12) ∧ j = 1) → Z'.1 q j i = Z.1 q j i := fun q j i a => by
      rw [← hZ]; show mi_cp (mi_cp Z.1 11 0 1) 12 0 1 q j i = _; rw [pu_cp, if_neg (by omega), pu_cp, if_neg (by omega)]
    have z11 : ∀ i : Int, Z'.1 11 1 i = Z.1 11 0 i := fun i => by
      rw [← hZ]; show mi_cp (mi_cp Z.1 11 0 1) 12 0 1 11 1 i = _; rw [pu_cp, if_neg (by omega), pu_cp, if_pos ⟨rfl, rfl⟩]
    have z12 : ∀ i : Int, Z'.1 12 1 i = Z.1 12 0 i := fun i => by
      rw [← hZ]; show mi_cp (mi_cp Z.1 11 0 1) 12 0 1 12 1 i = _; rw [pu_cp, if_pos ⟨rfl, rfl⟩, pu_cp, if_neg (by omega)]
    have B' : pu_ZB Z' := by
      refine ⟨fun x a b => ?_, fun x i a b d e => ?_, fun x a b => ?_, fun x a b => ?_, fun x a b => ?_, fun x i a b d e => ?_⟩
      · rw [z2] at b ⊢; rw [zo _ _ _ (by omega)]; exact B.c x a b
      · rw [z2] at b ⊢; rw [zo _ _ _ (by omega)]; exact B.a x i a b d e
      · rw [z2, zo _ _ _ (by omega)]; exact B.f x a b
      · rw [z2, zo _ _ _ (by omega)]; exact B.p x a b
      · rw [z2] at b ⊢; rw [zo _ _ _ (by omega), zo _ _ _ (by omega), zo _ _ _ (by omega), zo _ _ _ (by omega)]; exact B.P x a b
      · rw [z2] at b ⊢; rw [zo _ _ _ (by omega)]; exact B.k x i a b d e
    have so : ∀ (q : Nat) (j i : Int), q ≠ 66 → q ≠ 67 → ¬ (q = 40 ∧ i = 29) → S q j i = D2 q j i := fun q j i a b d => s2.o q j i a b (by omega)
    have hA1 := hL.a.w1 B f2 ⟨fun q j i a _ _ => zo q j i (by omega), fun q j i a _ _ => f2.o q j i (by omega) (by omega) (by omega) (by omega)⟩ z11 z12 so
    obtain ⟨v, E, G, k, b, m1, m2, m3, m4, m5⟩ := pu_wt_l mi_fuel 0 F S hA1 (by rw [so _ _ _ (by decide) (by decide) (by omega)]; exact c) (by decide) (by decide) (by omega)
    obtain ⟨H, h1, h2⟩ := pu_bck (D := G)
    have oE : ∀ (q : Nat) (j i : Int), ¬ ((q = 3 ∨ q = 17 ∨ q = 18) ∧ 60 ≤ j) → ¬ ((q = 4 ∨ q = 19 ∨ q = 20 ∨ q = 21 ∨ q = 22) ∧ 6 ≤ j) → ¬ (q = 5 ∧ 7 ≤ j) → ¬ ((q = 2 ∨ q = 15 ∨ q = 16) ∧ j = 1) → E q j i = D1 q j i := fun q j i a1 a2 a3 a4 => (m4 q j i (by omega) (by omega) (by omega) (by omega)).trans (f2.o q j i a1 a2 a3 a4)
    have oH : ∀ (q : Nat) (j i : Int), 0 ≤ pu_pos q j i ∨ 0 ≤ pu_po2 q j i ∨ q = 43 ∨ q = 46 ∨ q = 47 ∨ q = 48 ∨ q = 49 ∨ q = 51 ∨ q = 0 ∨ q = 41 ∨ q = 42 ∨ q = 40 ∧ i ≠ 25 ∧ i ≠ 26 ∧ i ≠ 29 → H q j i = D2 q j i := fun q j i a => by
      by_cases a1 : 0 ≤ pu_pos q j i
      · rw [h2.s q j i a1 pu_pos_lt, m5 _ _ _ (by omega) (by omega)]
        exact s2.s q j i a1 pu_pos_lt
      · by_cases a2 : 0 ≤ pu_po2 q j i
        · rw [h2.l q j i a2 pu_po2_lt, m5 _ _ _ (by omega) (by omega)]
          exact s2.l q j i a2 pu_po2_lt
        · rw [h2.o q j i (by omega) (by omega) (by omega), m5 q j i (by omega) (by omega)]
          exact so q j i (by omega) (by omega) (by omega)
    have hA := hL.a.bk (Z' := Z') (E1 := E) (E2 := H) B ⟨fun q j i a _ _ => zo q j i (by omega), fun q j i a _ _ => oE q j i (by omega) (by omega) (by omega) (by omega)⟩ (fun f => zo _ _ _ (by omega)) (fun f => zo _ _ _ (by omega)) oE (fun q j i a => oH q j i (by omega))
    obtain ⟨c1, c2, c3, c4, c5, c6, c7, c8, c9⟩ := hL.c
    have p1 : ∀ i : Int, E 1 0 i = D1 1 0 i := fun i => oE _ _ _ (by omega) (by omega) (by omega) (by omega)
    have q41 : ∀ i : Int, H 41 0 i = D2 41 0 i := fun i => oH _ _ _ (by omega)
    have q40 : ∀ i : Int, i ≠ 25 → i ≠ 26 → i ≠ 29 → H 40 0 i = D2 40 0 i := fun i a b d => oH _ _ _ (by omega)
    refine ⟨v, E, Z', H, ?_, ?_, ⟨hA, ⟨?_, ?_, ?_, ?_, ?_, ?_, ?_, ?_, fun i x y => ?_⟩, hL.m.k fun q j i a => oH q j i (by omega)⟩, B', f3, z2, fun i => oE _ _ _ (by omega) (by omega) (by omega) (by omega), fun i => (oH _ _ _ (by omega)).trans (e00 i)⟩
    · rw [f1]
      show mi_req (CL Z') (B_X10_waits_26 mi_fuel 1 F Z') = _
      rw [mi_req_t f3]
      exact m1
    · rw [s1, pu_biE, m2, m3]
      unfold B_X11_waits_65
      rw [h1, pu_biE]
      by_cases e : b = 0
      · rw [if_pos e, if_pos e]
      · rw [if_neg e, if_neg e]
    · rw [p1, q41]; exact c1
    · rw [p1, q41]; exact c2
    · rw [p1, q41]; exact c3
    · rw [p1, q40 _ (by decide) (by decide) (by decide)]; exact c4
    · rw [p1, q40 _ (by decide) (by decide) (by decide)]; exact c5
    · rw [q40 _ (by decide) (by decide) (by decide)]; exact c6
    · rw [q40 _ (by decide) (by decide) (by decide)]; exact c7
    · rw [p1, q40 _ (by decide) (by decide) (by decide)]; exact c8
    · rw [q40 _ (by decide) (by decide) (by decide)] at y
      rw [oE _ _ _ (by omega) (by omega) (by omega) (by omega), oH 42 _ _ (by omega)]
      exact c9 i x y
