def pu_gD (B : MiD) (r : Nat) (y n : Int) : MiD := fun q j i => if q = r ∧ j = y then 0 else if q = 0 ∧ j = 0 ∧ i = 0 then B 0 0 0 + 1 else if q = 0 ∧ j = 0 ∧ i = 1 then B 0 0 1 + n else B q j i
def pu_gZ (Z : MiZ) (r : Nat) : MiZ := (fun q j i => if q = r ∧ j = Z.2 r then -1 else Z.1 q j i, fun q => if q = r then Z.2 r + 1 else Z.2 q)
theorem pu_gDE {D : MiD} {Z : MiZ} {r : Nat} {n : Int} (hr : r ≠ 0) : mi_nw (D, Z) r n = (pu_gD D r (Z.2 r) n, pu_gZ Z r) := by
  refine Prod.ext ?_ rfl
  funext q j i
  unfold mi_nw mi_st pu_gD
  grind (splits := 30)
theorem pu_gDr {B : MiD} {r : Nat} {y n v a f p : Int} (h9 : r ≠ 9) (h0 : r ≠ 0) : pu_gD (pu_rd B v a f p) r y n = pu_rd (pu_gD B r y n) v a f p := by
  funext q j i
  unfold pu_gD pu_rd
  grind (splits := 30)
theorem pu_gDo {B : MiD} {r : Nat} {y n : Int} {q : Nat} {j i : Int} (h1 : ¬ (q = r ∧ j = y)) (h3 : ¬ (q = 0 ∧ j = 0 ∧ (i = 0 ∨ i = 1))) : pu_gD B r y n q j i = B q j i := by
  unfold pu_gD; rw [if_neg h1, if_neg (by omega), if_neg (by omega)]
theorem pu_gD0 {B : MiD} {r : Nat} {y n : Int} (h0 : r ≠ 0) : pu_gD B r y n 0 0 0 = B 0 0 0 + 1 ∧ pu_gD B r y n 0 0 1 = B 0 0 1 + n := by
  constructor
  · unfold pu_gD; rw [if_neg (by omega), if_pos ⟨rfl, rfl, rfl⟩]
  · unfold pu_gD; rw [if_neg (by omega), if_neg (by omega), if_pos ⟨rfl, rfl, rfl⟩]
theorem pu_gZo {Z : MiZ} {r : Nat} {q : Nat} {j i : Int} (h1 : ¬ (q = r ∧ j = Z.2 r)) : (pu_gZ Z r).1 q j i = Z.1 q j i := by
  show (if q = r ∧ j = Z.2 r then (-1 : Int) else Z.1 q j i) = _
  rw [if_neg h1]
theorem pu_gZm {Z : MiZ} {r : Nat} {i : Int} : (pu_gZ Z r).1 r (Z.2 r) i = -1 := by
  show (if r = r ∧ Z.2 r = Z.2 r then (-1 : Int) else Z.1 r (Z.2 r) i) = _
  rw [if_pos ⟨rfl, rfl⟩]
theorem pu_gZn {Z : MiZ} {r q : Nat} (h : q ≠ r) : (pu_gZ Z r).2 q = Z.2 q := by
  show (if q = r then Z.2 r + 1 else Z.2 q) = _
  rw [if_neg h]
theorem pu_gZs {Z : MiZ} {r : Nat} : (pu_gZ Z r).2 r = Z.2 r + 1 := by
  show (if r = r then Z.2 r + 1 else Z.2 r) = _
  rw [if_pos rfl]
theorem pu_ZB.g8 {Z : MiZ} (zb : pu_ZB Z) (n6 : 0 ≤ Z.2 6) (n24 : 0 ≤ Z.2 24) : pu_ZB (pu_gZ Z 8) := by
  refine ⟨fun c a b => ?_, fun a i p1 p2 p3 p4 => ?_, fun f p1 p2 => ?_, fun f p1 p2 => ?_, fun P p1 p2 => ?_, fun a f p1 p2 p3 p4 => ?_⟩
  · rw [pu_gZn (by decide)] at b ⊢; rw [pu_gZo (by omega)]; exact zb.c c a b
  · rw [pu_gZn (by decide)] at p2 ⊢; rw [pu_gZo (by omega)]; exact zb.a a i p1 p2 p3 p4
  · rw [pu_gZn (by decide), pu_gZo (by omega)]; exact zb.f f p1 p2
  · rw [pu_gZs, pu_gZo (by omega)]; have := zb.p f p1 p2; omega
  · rw [pu_gZs] at p2
    rw [pu_gZn (q := 24) (by decide), pu_gZn (q := 6) (by decide)]
    by_cases e : P = Z.2 8
    · rw [e, pu_gZm, pu_gZm, pu_gZm, pu_gZm]; omega
    · rw [pu_gZo (by omega), pu_gZo (by omega), pu_gZo (by omega), pu_gZo (by omega)]
      exact zb.P P p1 (by omega)
  · rw [pu_gZn (by decide)] at p2 ⊢; rw [pu_gZo (by omega)]; exact zb.k a f p1 p2 p3 p4
theorem pu_ZB.g24 {Z : MiZ} (zb : pu_ZB Z) (n6 : 0 ≤ Z.2 6) : pu_ZB (pu_gZ Z 24) := by
  refine ⟨fun c a b => ?_, fun a i p1 p2 p3 p4 => ?_, fun f p1 p2 => ?_, fun f p1 p2 => ?_, fun P p1 p2 => ?_, fun a f p1 p2 p3 p4 => ?_⟩
  · rw [pu_gZn (by decide)] at b ⊢; rw [pu_gZo (by omega)]; exact zb.c c a b
  · rw [pu_gZn (by decide)] at p2 ⊢; rw [pu_gZo (by omega)]; exact zb.a a i p1 p2 p3 p4
  · rw [pu_gZn (by decide), pu_gZo (by omega)]; exact zb.f f p1 p2
  · rw [pu_gZn (by decide), pu_gZo (by omega)]; exact zb.p f p1 p2
  · rw [pu_gZn (by decide)] at p2
    rw [pu_gZs, pu_gZn (q := 6) (by decide), pu_gZo (by omega), pu_gZo (by omega), pu_gZo (by omega), pu_gZo (by omega)]
    have := zb.P P p1 p2
    omega
  · rw [pu_gZs] at p2
    rw [pu_gZn (by decide)]
    by_cases e : a = Z.2 24
    · rw [e, pu_gZm]; omega
    · rw [pu_gZo (by omega)]
      exact zb.k a f p1 (by omega) p3 p4
theorem pu_ZB.st {Z : MiZ} (zb : pu_ZB Z) {r : Nat} {j k x : Int} (h : (r = 8 ∧ (k = 1 → x < Z.2 24) ∧ (k = 2 ∨ k = 3 ∨ k = 4 → x < Z.2 6)) ∨ (r = 24 ∧ x < Z.2 6) ∨ (r = 12 ∧ x < Z.2 8)) : pu_ZB (mi_st Z.1 r j k x, Z.2) := by
  have o : ∀ (q : Nat) (j' i : Int), ¬ (q = r ∧ j' = j ∧ i = k) → mi_st Z.1 r j k x q j' i = Z.1 q j' i := fun q j' i z => by rw [pu_st, if_neg z]
  have s : ∀ (q : Nat) (j' i : Int), q = r → j' = j → i = k → mi_st Z.1 r j k x q j' i = x := fun q j' i a b c => by rw [pu_st, if_pos ⟨a, b, c⟩]
  refine ⟨fun c a b => ?_, fun a i p1 p2 p3 p4 => ?_, fun f p1 p2 => ?_, fun f p1 p2 => ?_, fun P p1 p2 => ⟨?_, ?_, ?_, ?_⟩, fun a f p1 p2 p3 p4 => ?_⟩
  · show mi_st Z.1 r j k x 6 c 0 < Z.2 23
    rw [o _ _ _ (by omega)]; exact zb.c c a b
  · show mi_st Z.1 r j k x 23 a i < Z.2 7
    rw [o _ _ _ (by omega)]; exact zb.a a i p1 p2 p3 p4
  · show mi_st Z.1 r j k x 11 0 f < Z.2 6
    rw [o _ _ _ (by omega)]; exact zb.f f p1 p2
  · show mi_st Z.1 r j k x 12 0 f < Z.2 8
    by_cases e : 12 = r ∧ 0 = j ∧ f = k
    · rw [s _ _ _ e.1 e.2.1 e.2.2]; omega
    · rw [o _ _ _ e]; exact zb.p f p1 p2
  · show mi_st Z.1 r j k x 8 P 1 < Z.2 24
    by_cases e : 8 = r ∧ P = j ∧ 1 = k
    · rw [s _ _ _ e.1 e.2.1 e.2.2]; omega
    · rw [o _ _ _ e]; exact (zb.P P p1 p2).1
  · show mi_st Z.1 r j k x 8 P 2 < Z.2 6
    by_cases e : 8 = r ∧ P = j ∧ 2 = k
    · rw [s _ _ _ e.1 e.2.1 e.2.2]; omega
    · rw [o _ _ _ e]; exact (zb.P P p1 p2).2.1
  · show mi_st Z.1 r j k x 8 P 3 < Z.2 6
    by_cases e : 8 = r ∧ P = j ∧ 3 = k
    · rw [s _ _ _ e.1 e.2.1 e.2.2]; omega
    · rw [o _ _ _ e]; exact (zb.P P p1 p2).2.2.1
  · show mi_st Z.1 r j k x 8 P 4 < Z.2 6
    by_cases e : 8 = r ∧ P = j ∧ 4 = k
    · rw [s _ _ _ e.1 e.2.1 e.2.2]; omega
    · rw [o _ _ _ e]; exact (zb.P P p1 p2).2.2.2
  · show mi_st Z.1 r j k x 24 a f < Z.2 6
    by_cases e : 24 = r ∧ a = j ∧ f = k
    · rw [s _ _ _ e.1 e.2.1 e.2.2]; omega
    · rw [o _ _ _ e]; exact zb.k a f p1 p2 p3 p4
theorem pu_C.k {Z Z' : MiZ} {B B' C C' : MiD} {c x : Int} (h : pu_C Z B c C x) (zb : pu_ZB Z) (hc : c < Z.2 6) (z6 : Z'.1 6 c 0 = Z.1 6 c 0) (z23 : ∀ j i : Int, 0 ≤ j → j < Z.2 23 → j = Z.1 6 c 0 → Z'.1 23 j i = Z.1 23 j i) (z7 : ∀ y : Int, 0 ≤ y → y < Z.2 7 → Z'.1 7 y 0 = Z.1 7 y 0) (b6 : B' 6 c 1 = B 6 c 1) (b7 : ∀ y i : Int, 0 ≤ y → y < Z.2 7 → B' 7 y i = B 7 y i) (c43 : C' 43 0 x = C 43 0 x) (c46 : ∀ j i : Int, 24 * x ≤ j → j < 24 * x + 24 → C' 46 j i = C 46 j i) : pu_C Z' B' c C' x := by
  obtain ⟨h1, h2, h3, h4, h5, h6, h7⟩ := h
  have aA := zb.c c h1 hc
  refine ⟨h1, h2, by rw [z6]; exact h3, by rw [b6, c43]; exact h4, by rw [c43]; exact h5, by rw [c43]; exact h6, fun i a b => ?_⟩
  rw [c43] at b
  rw [z6, z23 _ i h3 aA rfl]
  have q := h7 i a b
  have lt := zb.a _ i h3 aA a (by omega)
  exact q.k (z7 _ q.1 lt) (fun j => b7 _ j q.1 lt) (fun j => c46 _ j (by omega) (by omega))
def pu_NP (Z : MiZ) (B : MiD) (Z' : MiZ) (B' : MiD) : Prop := (∀ (q : Nat) (j i : Int), ¬ (q = 6 ∧ Z.2 6 ≤ j) → ¬ (q = 23 ∧ Z.2 23 ≤ j) → ¬ (q = 8 ∧ j = Z.2 8) → ¬ (q = 24 ∧ j = Z.2 24) → Z'.1 q j i = Z.1 q j i) ∧ (∀ (q : Nat) (j i : Int), ¬ (q = 6 ∧ Z.2 6 ≤ j) → ¬ (q = 23 ∧ Z.2 23 ≤ j) → ¬ (q = 8 ∧ j = Z.2 8) → ¬ (q = 24 ∧ j = Z.2 24) → ¬ (q = 0 ∧ j = 0 ∧ (i = 0 ∨ i = 1)) → B' q j i = B q j i) ∧ (Z'.2 6 = Z.2 6 + 3) ∧ (Z'.2 23 = Z.2 23 + 3) ∧ (Z'.2 8 = Z.2 8 + 1) ∧ (Z'.2 24 = Z.2 24 + 1) ∧ (∀ q : Nat, q ≠ 6 → q ≠ 23 → q ≠ 8 → q ≠ 24 → Z'.2 q = Z.2 q) ∧ (B' 0 0 0 = B 0 0 0 + 8) ∧ (B' 0 0 1 = B 0 0 1 + 95) ∧ (pu_ZB Z') ∧ (Z'.1 8 (Z.2 8) 1 = Z.2 24) ∧ (Z'.1 8 (Z.2 8) 2 = Z.2 6) ∧ (Z'.1 8 (Z.2 8) 3 = Z.2 6 + 1) ∧ (Z'.1 8 (Z.2 8) 4 = Z.2 6 + 2) ∧ (∀ f : Int, Z'.1 24 (Z.2 24) f = -1) ∧ (∀ (c : Int) (C : MiD) (x : Int), Z.2 6 ≤ c → c < Z.2 6 + 3 → 0 ≤ x → x < 111 → C 43 0 x = 0 → pu_C Z' B' c C x)
theorem pu_NP.z {Z : MiZ} {B : MiD} {Z' : MiZ} {B' : MiD} (h : pu_NP Z B Z' B') : ∀ (q : Nat) (j i : Int), ¬ (q = 6 ∧ Z.2 6 ≤ j) → ¬ (q = 23 ∧ Z.2 23 ≤ j) → ¬ (q = 8 ∧ j = Z.2 8) → ¬ (q = 24 ∧ j = Z.2 24) → Z'.1 q j i = Z.1 q j i := h.1
theorem pu_NP.d {Z : MiZ} {B : MiD} {Z' : MiZ} {B' : MiD} (h : pu_NP Z B Z' B') : ∀ (q : Nat) (j i : Int), ¬ (q = 6 ∧ Z.2 6 ≤ j) → ¬ (q = 23 ∧ Z.2 23 ≤ j) → ¬ (q = 8 ∧ j = Z.2 8) → ¬ (q = 24 ∧ j = Z.2 24) → ¬ (q = 0 ∧ j = 0 ∧ (i = 0 ∨ i = 1)) → B' q j i = B q j i := h.2.1
theorem pu_NP.n6 {Z : MiZ} {B : MiD} {Z' : MiZ} {B' : MiD} (h : pu_NP Z B Z' B') : Z'.2 6 = Z.2 6 + 3 := h.2.2.1
theorem pu_NP.n23 {Z : MiZ} {B : MiD} {Z' : MiZ} {B' : MiD} (h : pu_NP Z B Z' B') : Z'.2 23 = Z.2 23 + 3 := h.2.2.2.1
theorem pu_NP.n8 {Z : MiZ} {B : MiD} {Z' : MiZ} {B' : MiD} (h : pu_NP Z B Z' B') : Z'.2 8 = Z.2 8 + 1 := h.2.2.2.2.1
theorem pu_NP.n24 {Z : MiZ} {B : MiD} {Z' : MiZ} {B' : MiD} (h : pu_NP Z B Z' B') : Z'.2 24 = Z.2 24 + 1 := h.2.2.2.2.2.1
theorem pu_NP.n {Z : MiZ} {B : MiD} {Z' : MiZ} {B' : MiD} (h : pu_NP Z B Z' B') : ∀ q : Nat, q ≠ 6 → q ≠ 23 → q ≠ 8 → q ≠ 24 → Z'.2 q = Z.2 q := h.2.2.2.2.2.2.1
theorem pu_NP.c0 {Z : MiZ} {B : MiD} {Z' : MiZ} {B' : MiD} (h : pu_NP Z B Z' B') : B' 0 0 0 = B 0 0 0 + 8 := h.2.2.2.2.2.2.2.1
theorem pu_NP.c1 {Z : MiZ} {B : MiD} {Z' : MiZ} {B' : MiD} (h : pu_NP Z B Z' B') : B' 0 0 1 = B 0 0 1 + 95 := h.2.2.2.2.2.2.2.2.1
theorem pu_NP.zb {Z : MiZ} {B : MiD} {Z' : MiZ} {B' : MiD} (h : pu_NP Z B Z' B') : pu_ZB Z' := h.2.2.2.2.2.2.2.2.2.1
theorem pu_NP.l1 {Z : MiZ} {B : MiD} {Z' : MiZ} {B' : MiD} (h : pu_NP Z B Z' B') : Z'.1 8 (Z.2 8) 1 = Z.2 24 := h.2.2.2.2.2.2.2.2.2.2.1
theorem pu_NP.l2 {Z : MiZ} {B : MiD} {Z' : MiZ} {B' : MiD} (h : pu_NP Z B Z' B') : Z'.1 8 (Z.2 8) 2 = Z.2 6 := h.2.2.2.2.2.2.2.2.2.2.2.1
theorem pu_NP.l3 {Z : MiZ} {B : MiD} {Z' : MiZ} {B' : MiD} (h : pu_NP Z B Z' B') : Z'.1 8 (Z.2 8) 3 = Z.2 6 + 1 := h.2.2.2.2.2.2.2.2.2.2.2.2.1
theorem pu_NP.l4 {Z : MiZ} {B : MiD} {Z' : MiZ} {B' : MiD} (h : pu_NP Z B Z' B') : Z'.1 8 (Z.2 8) 4 = Z.2 6 + 2 := h.2.2.2.2.2.2.2.2.2.2.2.2.2.1
theorem pu_NP.lf {Z : MiZ} {B : MiD} {Z' : MiZ} {B' : MiD} (h : pu_NP Z B Z' B') : ∀ f : Int, Z'.1 24 (Z.2 24) f = -1 := h.2.2.2.2.2.2.2.2.2.2.2.2.2.2.1
theorem pu_NP.cc {Z : MiZ} {B : MiD} {Z' : MiZ} {B' : MiD} (h : pu_NP Z B Z' B') : ∀ (c : Int) (C : MiD) (x : Int), Z.2 6 ≤ c → c < Z.2 6 + 3 → 0 ≤ x → x < 111 → C 43 0 x = 0 → pu_C Z' B' c C x := h.2.2.2.2.2.2.2.2.2.2.2.2.2.2.2
set_option maxHeartbeats 2000000 in
theorem pu_newP {γ : Type} {B : MiD} {Z : MiZ} {v a f p : Int} {L : MiD → MiZ → Option γ} (cl : CL Z) (zb : pu_ZB Z) (n6 : 0 ≤ Z.2 6) (n7 : 0 ≤ Z.2 7) (n8 : 0 ≤ Z.2 8) (n23 : 0 ≤ Z.2 23) (n24 : 0 ≤ Z.2 24) : ∃ Z' B', (if 0 ≤ Z.2 8 then mi_nl (pu_rd B v a f p) Z 8 5 (fun D8 Z9 => mi_req (CL Z9) (mi_bw (B_X4_init (Z.2 8) D8 Z9) L)) else none) = L (pu_rd B' v a f p) Z' ∧ pu_NP Z B Z' B' := by
  have q1 : CL (pu_gZ Z 8) := pu_CL.k cl fun q j i z => pu_gZo (by omega)
  rw [if_pos n8, pu_nlE, show (((5 : Nat) : Nat) : Int) = 5 from rfl, pu_gDE (by decide), mi_req_t q1, pu_gDr (by decide) (by decide)]
  unfold B_X4_init
  have zb1 := zb.g8 n6 n24
  have e24 : (pu_gZ Z 8).2 24 = Z.2 24 := pu_gZn (by decide)
  rw [if_pos (by rw [e24]; exact n24), pu_nlE, show (((12 : Nat) : Nat) : Int) = 12 from rfl, pu_gDE (by decide), pu_letE, pu_gDr (by decide) (by decide), e24]
  have zb2 := (zb1.g24 (by rw [pu_gZn (by decide)]; exact n6)).st (r := 8) (j := Z.2 8) (k := 1) (x := Z.2 24) (Or.inl ⟨rfl, fun _ => by rw [pu_gZs, e24]; omega, fun z => by omega⟩)
  generalize hB1 : pu_gD (pu_gD B 8 (Z.2 8) 5) 24 (Z.2 24) 12 = B1
  have b1o : ∀ (q : Nat) (j i : Int), ¬ (q = 8 ∧ j = Z.2 8) → ¬ (q = 24 ∧ j = Z.2 24) → ¬ (q = 0 ∧ j = 0 ∧ (i = 0 ∨ i = 1)) → B1 q j i = B q j i := fun q j i p1 p2 p3 => by rw [← hB1, pu_gDo p2 p3, pu_gDo p1 p3]
  have b10 : B1 0 0 0 = B 0 0 0 + 2 ∧ B1 0 0 1 = B 0 0 1 + 17 := by
    rw [← hB1, (pu_gD0 (by decide)).1, (pu_gD0 (by decide)).2, (pu_gD0 (by decide)).1, (pu_gD0 (by decide)).2]
    omega
  generalize hZ1 : (mi_st (pu_gZ (pu_gZ Z 8) 24).1 8 (Z.2 8) 1 (Z.2 24), (pu_gZ (pu_gZ Z 8) 24).2) = Z1 at *
  have z1n : ∀ q : Nat, q ≠ 8 → q ≠ 24 → Z1.2 q = Z.2 q := fun q a b => by
    rw [← hZ1]; show (pu_gZ (pu_gZ Z 8) 24).2 q = _; rw [pu_gZn b, pu_gZn a]
  have z18 : Z1.2 8 = Z.2 8 + 1 := by
    rw [← hZ1]; show (pu_gZ (pu_gZ Z 8) 24).2 8 = _; rw [pu_gZn (by decide), pu_gZs]
  have z124 : Z1.2 24 = Z.2 24 + 1 := by
    rw [← hZ1]; show (pu_gZ (pu_gZ Z 8) 24).2 24 = _; rw [pu_gZs, e24]
  have z1o : ∀ (q : Nat) (j i : Int), ¬ (q = 8 ∧ j = Z.2 8) → ¬ (q = 24 ∧ j = Z.2 24) → Z1.1 q j i = Z.1 q j i := fun q j i p1 p2 => by
    rw [← hZ1]; show mi_st (pu_gZ (pu_gZ Z 8) 24).1 8 (Z.2 8) 1 (Z.2 24) q j i = _
    rw [pu_st, if_neg (by omega), pu_gZo (by rw [e24]; exact p2), pu_gZo p1]
  have z1l : Z1.1 8 (Z.2 8) 1 = Z.2 24 := by
    rw [← hZ1]; show mi_st (pu_gZ (pu_gZ Z 8) 24).1 8 (Z.2 8) 1 (Z.2 24) 8 (Z.2 8) 1 = _
    rw [pu_st_eq]
  have z1f : ∀ f : Int, Z1.1 24 (Z.2 24) f = -1 := fun f => by
    rw [← hZ1]; show mi_st (pu_gZ (pu_gZ Z 8) 24).1 8 (Z.2 8) 1 (Z.2 24) 24 (Z.2 24) f = _
    rw [pu_st, if_neg (by omega)]
    have := pu_gZm (Z := pu_gZ Z 8) (r := 24) (i := f)
    rw [e24] at this
    exact this
  have y6 : Z1.2 6 = Z.2 6 := z1n 6 (by decide) (by decide)
  have y23 : Z1.2 23 = Z.2 23 := z1n 23 (by decide) (by decide)
  have y7 : Z1.2 7 = Z.2 7 := z1n 7 (by decide) (by decide)
  have one : ∀ (Zk : MiZ) (Bk : MiD) (k : Int) (M : MiD → MiZ → Option γ) (g : MiD → MiZ → Option MiM), (k = 2 ∨ k = 3 ∨ k = 4) → 0 ≤ Zk.2 6 → 0 ≤ Zk.2 23 → (if 0 ≤ Zk.2 6 then mi_nl (pu_rd Bk v a f p) Zk 6 2 (fun D5 Z6 => mi_bw (B_X1_init (Zk.2 6) D5 Z6) fun D8 Z9 => mi_let (mi_st Z9.1 8 (Z.2 8) k (Zk.2 6), Z9.2) fun Z10 => g D8 Z10) else none) = g (pu_rd (pu_cD Bk (Zk.2 6) (Zk.2 23)) v a f p) (mi_st (pu_cZ Zk (Zk.2 6) (Zk.2 23)).1 8 (Z.2 8) k (Zk.2 6), (pu_cZ Zk (Zk.2 6) (Zk.2 23)).2) := fun Zk Bk k M g hk h6 h23 => by
    rw [if_pos h6, pu_nlE, show (((2 : Nat) : Nat) : Int) = 2 from rfl, pu_X1iE h23, pu_bwE, pu_letE, pu_cDr]
  rw [one Z1 B1 2 (fun _ _ => none) _ (Or.inl rfl) (by omega) (by omega)]
  have zb3 := (pu_cZB zb2 (by omega)).st (r := 8) (j := Z.2 8) (k := 2) (x := Z1.2 6) (Or.inl ⟨rfl, fun z => by omega, fun _ => by rw [pu_cZn.1]; omega⟩)
  have w1 := pu_cZn (Z := Z1) (c := Z1.2 6) (A := Z1.2 23)
  have v1 := pu_cD0 (B := B1) (c := Z1.2 6) (A := Z1.2 23)
  generalize hZ2 : (mi_st (pu_cZ Z1 (Z1.2 6) (Z1.2 23)).1 8 (Z.2 8) 2 (Z1.2 6), (pu_cZ Z1 (Z1.2 6) (Z1.2 23)).2) = Z2 at *
  have z2c : ∀ q : Nat, Z2.2 q = (pu_cZ Z1 (Z1.2 6) (Z1.2 23)).2 q := fun q => by rw [← hZ2]
  have x6 : Z2.2 6 = Z.2 6 + 1 := by rw [z2c, w1.1, y6]
  have x23 : Z2.2 23 = Z.2 23 + 1 := by rw [z2c, w1.2.1, y23]
  have x7 : Z2.2 7 = Z.2 7 := by rw [z2c, w1.2.2.1 7 (by decide) (by decide), y7]
  rw [one Z2 _ 3 (fun _ _ => none) _ (Or.inr (Or.inl rfl)) (by omega) (by omega)]
  have zb4 := (pu_cZB zb3 (by omega)).st (r := 8) (j := Z.2 8) (k := 3) (x := Z2.2 6) (Or.inl ⟨rfl, fun z => by omega, fun _ => by rw [pu_cZn.1]; omega⟩)
  have w2 := pu_cZn (Z := Z2) (c := Z2.2 6) (A := Z2.2 23)
  have v2 := pu_cD0 (B := pu_cD B1 (Z1.2 6) (Z1.2 23)) (c := Z2.2 6) (A := Z2.2 23)
  generalize hZ3 : (mi_st (pu_cZ Z2 (Z2.2 6) (Z2.2 23)).1 8 (Z.2 8) 3 (Z2.2 6), (pu_cZ Z2 (Z2.2 6) (Z2.2 23)).2) = Z3 at *
  have z3c : ∀ q : Nat, Z3.2 q = (pu_cZ Z2 (Z2.2 6) (Z2.2 23)).2 q := fun q => by rw [← hZ3]
  have u6 : Z3.2 6 = Z.2 6 + 2 := by rw [z3c, w2.1, x6]; omega
  have u23 : Z3.2 23 = Z.2 23 + 2 := by rw [z3c, w2.2.1, x23]; omega
  have u7 : Z3.2 7 = Z.2 7 := by rw [z3c, w2.2.2.1 7 (by decide) (by decide), x7]
  rw [one Z3 _ 4 (fun _ _ => none) _ (Or.inr (Or.inr rfl)) (by omega) (by omega)]
  have zb5 := (pu_cZB zb4 (by omega)).st (r := 8) (j := Z.2 8) (k := 4) (x := Z3.2 6) (Or.inl ⟨rfl, fun z => by omega, fun _ => by rw [pu_cZn.1]; omega⟩)
  have w3 := pu_cZn (Z := Z3) (c := Z3.2 6) (A := Z3.2 23)
  have v3 := pu_cD0 (B := pu_cD (pu_cD B1 (Z1.2 6) (Z1.2 23)) (Z2.2 6) (Z2.2 23)) (c := Z3.2 6) (A := Z3.2 23)
  generalize hZ4 : (mi_st (pu_cZ Z3 (Z3.2 6) (Z3.2 23)).1 8 (Z.2 8) 4 (Z3.2 6), (pu_cZ Z3 (Z3.2 6) (Z3.2 23)).2) = Z4 at *
  have z4c : ∀ q : Nat, Z4.2 q = (pu_cZ Z3 (Z3.2 6) (Z3.2 23)).2 q := fun q => by rw [← hZ4]
  have t2 : ∀ (q : Nat) (j i : Int), ¬ (q = 8 ∧ j = Z.2 8 ∧ i = 2) → ¬ (q = 6 ∧ j = Z.2 6) → ¬ (q = 23 ∧ j = Z.2 23) → Z2.1 q j i = Z1.1 q j i := fun q j i a b c => by
    rw [← hZ2]; show mi_st (pu_cZ Z1 (Z1.2 6) (Z1.2 23)).1 8 (Z.2 8) 2 (Z1.2 6) q j i = _
    rw [pu_st, if_neg a, pu_cZo (by rw [y6]; exact b) (by rw [y23]; exact c)]
  have t3 : ∀ (q : Nat) (j i : Int), ¬ (q = 8 ∧ j = Z.2 8 ∧ i = 3) → ¬ (q = 6 ∧ j = Z.2 6 + 1) → ¬ (q = 23 ∧ j = Z.2 23 + 1) → Z3.1 q j i = Z2.1 q j i := fun q j i a b c => by
    rw [← hZ3]; show mi_st (pu_cZ Z2 (Z2.2 6) (Z2.2 23)).1 8 (Z.2 8) 3 (Z2.2 6) q j i = _
    rw [pu_st, if_neg a, pu_cZo (by rw [x6]; exact b) (by rw [x23]; exact c)]
  have t4 : ∀ (q : Nat) (j i : Int), ¬ (q = 8 ∧ j = Z.2 8 ∧ i = 4) → ¬ (q = 6 ∧ j = Z.2 6 + 2) → ¬ (q = 23 ∧ j = Z.2 23 + 2) → Z4.1 q j i = Z3.1 q j i := fun q j i a b c => by
    rw [← hZ4]; show mi_st (pu_cZ Z3 (Z3.2 6) (Z3.2 23)).1 8 (Z.2 8) 4 (Z3.2 6) q j i = _
    rw [pu_st, if_neg a, pu_cZo (by rw [u6]; exact b) (by rw [u23]; exact c)]
  have l2 : Z2.1 8 (Z.2 8) 2 = Z.2 6 := by
    rw [← hZ2]; show mi_st (pu_cZ Z1 (Z1.2 6) (Z1.2 23)).1 8 (Z.2 8) 2 (Z1.2 6) 8 (Z.2 8) 2 = _
    rw [pu_st_eq, y6]
  have l3 : Z3.1 8 (Z.2 8) 3 = Z.2 6 + 1 := by
    rw [← hZ3]; show mi_st (pu_cZ Z2 (Z2.2 6) (Z2.2 23)).1 8 (Z.2 8) 3 (Z2.2 6) 8 (Z.2 8) 3 = _
    rw [pu_st_eq, x6]
  have l4 : Z4.1 8 (Z.2 8) 4 = Z.2 6 + 2 := by
    rw [← hZ4]; show mi_st (pu_cZ Z3 (Z3.2 6) (Z3.2 23)).1 8 (Z.2 8) 4 (Z3.2 6) 8 (Z.2 8) 4 = _
    rw [pu_st_eq, u6]
  have k2 : Z2.1 6 (Z.2 6) 0 = Z.2 23 := by
    rw [← hZ2]; show mi_st (pu_cZ Z1 (Z1.2 6) (Z1.2 23)).1 8 (Z.2 8) 2 (Z1.2 6) 6 (Z.2 6) 0 = _
    have := w1.2.2.2.1
    rw [y6, y23] at this
    rw [pu_st, if_neg (by omega), y6, y23, this]
  have k3 : Z3.1 6 (Z.2 6 + 1) 0 = Z.2 23 + 1 := by
    rw [← hZ3]; show mi_st (pu_cZ Z2 (Z2.2 6) (Z2.2 23)).1 8 (Z.2 8) 3 (Z2.2 6) 6 (Z.2 6 + 1) 0 = _
    have := w2.2.2.2.1
    rw [x6, x23] at this
    rw [pu_st, if_neg (by omega), x6, x23, this]
  have k4 : Z4.1 6 (Z.2 6 + 2) 0 = Z.2 23 + 2 := by
    rw [← hZ4]; show mi_st (pu_cZ Z3 (Z3.2 6) (Z3.2 23)).1 8 (Z.2 8) 4 (Z3.2 6) 6 (Z.2 6 + 2) 0 = _
    have := w3.2.2.2.1
    rw [u6, u23] at this
    rw [pu_st, if_neg (by omega), u6, u23, this]
  rw [pu_bwE, y6, y23, x6, x23, u6, u23]
  rw [y6, y23] at v1
  rw [y6, y23, x6, x23] at v2
  rw [y6, y23, x6, x23, u6, u23] at v3
  have dO : ∀ (q : Nat) (j i : Int), ¬ (q = 6 ∧ Z.2 6 ≤ j) → ¬ (q = 23 ∧ Z.2 23 ≤ j) → ¬ (q = 0 ∧ j = 0 ∧ (i = 0 ∨ i = 1)) → pu_cD (pu_cD (pu_cD B1 (Z.2 6) (Z.2 23)) (Z.2 6 + 1) (Z.2 23 + 1)) (Z.2 6 + 2) (Z.2 23 + 2) q j i = B1 q j i := fun q j i p1 p2 p3 => by
    rw [pu_cDo (by omega) (by omega) p3, pu_cDo (by omega) (by omega) p3, pu_cDo (by omega) (by omega) p3]
  refine ⟨Z4, _, rfl, ⟨fun q j i p1 p2 p3 p4 => ?_, fun q j i p1 p2 p3 p4 p5 => ?_, ?_, ?_, ?_, ?_, fun q p1 p2 p3 p4 => ?_, ?_, ?_, zb5, ?_, ?_, ?_, l4, fun f => ?_, fun c C x p1 p2 p3 p4 p5 => ?_⟩⟩
  · rw [t4 _ _ _ (by omega) (by omega) (by omega), t3 _ _ _ (by omega) (by omega) (by omega), t2 _ _ _ (by omega) (by omega) (by omega), z1o _ _ _ p3 p4]
  · rw [dO _ _ _ p1 p2 p5, b1o _ _ _ p3 p4 p5]
  · rw [z4c, w3.1, u6]; omega
  · rw [z4c, w3.2.1, u23]; omega
  · rw [z4c, w3.2.2.1 8 (by decide) (by decide), z3c, w2.2.2.1 8 (by decide) (by decide), z2c, w1.2.2.1 8 (by decide) (by decide), z18]
  · rw [z4c, w3.2.2.1 24 (by decide) (by decide), z3c, w2.2.2.1 24 (by decide) (by decide), z2c, w1.2.2.1 24 (by decide) (by decide), z124]
  · rw [z4c, w3.2.2.1 q p1 p2, z3c, w2.2.2.1 q p1 p2, z2c, w1.2.2.1 q p1 p2, z1n q p3 p4]
  · rw [v3.1, v2.1, v1.1, b10.1]; omega
  · rw [v3.2.1, v2.2.1, v1.2.1, b10.2]; omega
  · rw [t4 _ _ _ (by omega) (by omega) (by omega), t3 _ _ _ (by omega) (by omega) (by omega), t2 _ _ _ (by omega) (by omega) (by omega), z1l]
  · rw [t4 _ _ _ (by omega) (by omega) (by omega), t3 _ _ _ (by omega) (by omega) (by omega), l2]
  · rw [t4 _ _ _ (by omega) (by omega) (by omega), l3]
  · rw [t4 _ _ _ (by omega) (by omega) (by omega), t3 _ _ _ (by omega) (by omega) (by omega), t2 _ _ _ (by omega) (by omega) (by omega), z1f]
  · have h6 : 0 ≤ Z4.1 6 c 0 := by
      have : c = Z.2 6 ∨ c = Z.2 6 + 1 ∨ c = Z.2 6 + 2 := by omega
      rcases this with rfl | rfl | rfl
      · rw [t4 _ _ _ (by omega) (by omega) (by omega), t3 _ _ _ (by omega) (by omega) (by omega), k2]; omega
      · rw [t4 _ _ _ (by omega) (by omega) (by omega), k3]; omega
      · rw [k4]; omega
    have hb : pu_cD (pu_cD (pu_cD B1 (Z.2 6) (Z.2 23)) (Z.2 6 + 1) (Z.2 23 + 1)) (Z.2 6 + 2) (Z.2 23 + 2) 6 c 1 = 0 := by
      have : c = Z.2 6 ∨ c = Z.2 6 + 1 ∨ c = Z.2 6 + 2 := by omega
      rcases this with rfl | rfl | rfl
      · rw [pu_cDo (by omega) (by omega) (by omega), pu_cDo (by omega) (by omega) (by omega), v1.2.2]
      · rw [pu_cDo (by omega) (by omega) (by omega), v2.2.2]
      · rw [v3.2.2]
    exact ⟨by omega, ⟨p3, p4⟩, h6, by rw [hb, p5], by omega, by omega, fun i a b => by omega⟩
