def pu_PS (Z : MiZ) (B : MiD) (P ca : Int) (C : MiD) (m : Int) : Prop := (0 ≤ P) ∧ (P < Z.2 8) ∧ (0 ≤ ca) ∧ (ca < Z.2 24) ∧ (Z.1 8 P 1 = ca) ∧ (pu_bits (pu_lkg Z ca) (C 47 0 8)) ∧ (∀ f : Int, 0 ≤ f → f < 12 → 0 ≤ Z.1 24 ca f → (0 ≤ C 51 8 f ∧ C 51 8 f < m) ∧ pu_C Z B (Z.1 24 ca f) C (100 + C 51 8 f)) ∧ (pu_C Z B (Z.1 8 P 2) C 108) ∧ (pu_C Z B (Z.1 8 P 3) C 109) ∧ (pu_C Z B (Z.1 8 P 4) C 110) ∧ (B 8 P 0 = C 48 0 8) ∧ (C 48 0 8 = 0 ∨ C 48 0 8 = 1)
theorem pu_PS.p0 {Z : MiZ} {B : MiD} {P ca : Int} {C : MiD} {m : Int} (h : pu_PS Z B P ca C m) : 0 ≤ P := h.1
theorem pu_PS.pP {Z : MiZ} {B : MiD} {P ca : Int} {C : MiD} {m : Int} (h : pu_PS Z B P ca C m) : P < Z.2 8 := h.2.1
theorem pu_PS.a0 {Z : MiZ} {B : MiD} {P ca : Int} {C : MiD} {m : Int} (h : pu_PS Z B P ca C m) : 0 ≤ ca := h.2.2.1
theorem pu_PS.aA {Z : MiZ} {B : MiD} {P ca : Int} {C : MiD} {m : Int} (h : pu_PS Z B P ca C m) : ca < Z.2 24 := h.2.2.2.1
theorem pu_PS.l1 {Z : MiZ} {B : MiD} {P ca : Int} {C : MiD} {m : Int} (h : pu_PS Z B P ca C m) : Z.1 8 P 1 = ca := h.2.2.2.2.1
theorem pu_PS.bits {Z : MiZ} {B : MiD} {P ca : Int} {C : MiD} {m : Int} (h : pu_PS Z B P ca C m) : pu_bits (pu_lkg Z ca) (C 47 0 8) := h.2.2.2.2.2.1
theorem pu_PS.cod {Z : MiZ} {B : MiD} {P ca : Int} {C : MiD} {m : Int} (h : pu_PS Z B P ca C m) : ∀ f : Int, 0 ≤ f → f < 12 → 0 ≤ Z.1 24 ca f → (0 ≤ C 51 8 f ∧ C 51 8 f < m) ∧ pu_C Z B (Z.1 24 ca f) C (100 + C 51 8 f) := h.2.2.2.2.2.2.1
theorem pu_PS.e2 {Z : MiZ} {B : MiD} {P ca : Int} {C : MiD} {m : Int} (h : pu_PS Z B P ca C m) : pu_C Z B (Z.1 8 P 2) C 108 := h.2.2.2.2.2.2.2.1
theorem pu_PS.e3 {Z : MiZ} {B : MiD} {P ca : Int} {C : MiD} {m : Int} (h : pu_PS Z B P ca C m) : pu_C Z B (Z.1 8 P 3) C 109 := h.2.2.2.2.2.2.2.2.1
theorem pu_PS.e4 {Z : MiZ} {B : MiD} {P ca : Int} {C : MiD} {m : Int} (h : pu_PS Z B P ca C m) : pu_C Z B (Z.1 8 P 4) C 110 := h.2.2.2.2.2.2.2.2.2.1
theorem pu_PS.al {Z : MiZ} {B : MiD} {P ca : Int} {C : MiD} {m : Int} (h : pu_PS Z B P ca C m) : B 8 P 0 = C 48 0 8 := h.2.2.2.2.2.2.2.2.2.2.1
theorem pu_PS.alb {Z : MiZ} {B : MiD} {P ca : Int} {C : MiD} {m : Int} (h : pu_PS Z B P ca C m) : C 48 0 8 = 0 ∨ C 48 0 8 = 1 := h.2.2.2.2.2.2.2.2.2.2.2
def pu_PF (N6 N7 N23 P ca : Int) (Z Z' : MiZ) (B B' C C' : MiD) : Prop := (∀ (q : Nat) (j i : Int), ¬ (q = 6 ∧ N6 ≤ j) → ¬ (q = 7 ∧ N7 ≤ j) → ¬ (q = 23 ∧ N23 ≤ j) → ¬ (q = 8 ∧ j = P) → ¬ (q = 24 ∧ j = ca) → Z'.1 q j i = Z.1 q j i) ∧ (∀ (q : Nat) (j i : Int), ¬ (q = 6 ∧ N6 ≤ j) → ¬ (q = 7 ∧ N7 ≤ j) → ¬ (q = 23 ∧ N23 ≤ j) → ¬ (q = 8 ∧ j = P) → ¬ (q = 0 ∧ j = 0 ∧ (i = 0 ∨ i = 1)) → B' q j i = B q j i) ∧ (∀ q : Nat, q ≠ 6 → q ≠ 7 → q ≠ 23 → Z'.2 q = Z.2 q) ∧ (Z.2 6 ≤ Z'.2 6) ∧ (Z.2 7 ≤ Z'.2 7) ∧ (Z.2 23 ≤ Z'.2 23) ∧ (∀ (q : Nat) (j i : Int), ¬ (q = 43 ∧ 100 ≤ i) → ¬ (q = 46 ∧ 2400 ≤ j) → ¬ (q = 47 ∧ j = 0 ∧ i = 8) → ¬ (q = 48 ∧ j = 0 ∧ i = 8) → ¬ (q = 51 ∧ j = 8) → C' q j i = C q j i)
theorem pu_PF.z {N6 N7 N23 P ca : Int} {Z Z' : MiZ} {B B' C C' : MiD} (h : pu_PF N6 N7 N23 P ca Z Z' B B' C C') : ∀ (q : Nat) (j i : Int), ¬ (q = 6 ∧ N6 ≤ j) → ¬ (q = 7 ∧ N7 ≤ j) → ¬ (q = 23 ∧ N23 ≤ j) → ¬ (q = 8 ∧ j = P) → ¬ (q = 24 ∧ j = ca) → Z'.1 q j i = Z.1 q j i := h.1
theorem pu_PF.d {N6 N7 N23 P ca : Int} {Z Z' : MiZ} {B B' C C' : MiD} (h : pu_PF N6 N7 N23 P ca Z Z' B B' C C') : ∀ (q : Nat) (j i : Int), ¬ (q = 6 ∧ N6 ≤ j) → ¬ (q = 7 ∧ N7 ≤ j) → ¬ (q = 23 ∧ N23 ≤ j) → ¬ (q = 8 ∧ j = P) → ¬ (q = 0 ∧ j = 0 ∧ (i = 0 ∨ i = 1)) → B' q j i = B q j i := h.2.1
theorem pu_PF.n {N6 N7 N23 P ca : Int} {Z Z' : MiZ} {B B' C C' : MiD} (h : pu_PF N6 N7 N23 P ca Z Z' B B' C C') : ∀ q : Nat, q ≠ 6 → q ≠ 7 → q ≠ 23 → Z'.2 q = Z.2 q := h.2.2.1
theorem pu_PF.n6 {N6 N7 N23 P ca : Int} {Z Z' : MiZ} {B B' C C' : MiD} (h : pu_PF N6 N7 N23 P ca Z Z' B B' C C') : Z.2 6 ≤ Z'.2 6 := h.2.2.2.1
theorem pu_PF.n7 {N6 N7 N23 P ca : Int} {Z Z' : MiZ} {B B' C C' : MiD} (h : pu_PF N6 N7 N23 P ca Z Z' B B' C C') : Z.2 7 ≤ Z'.2 7 := h.2.2.2.2.1
theorem pu_PF.n23 {N6 N7 N23 P ca : Int} {Z Z' : MiZ} {B B' C C' : MiD} (h : pu_PF N6 N7 N23 P ca Z Z' B B' C C') : Z.2 23 ≤ Z'.2 23 := h.2.2.2.2.2.1
theorem pu_PF.r {N6 N7 N23 P ca : Int} {Z Z' : MiZ} {B B' C C' : MiD} (h : pu_PF N6 N7 N23 P ca Z Z' B B' C C') : ∀ (q : Nat) (j i : Int), ¬ (q = 43 ∧ 100 ≤ i) → ¬ (q = 46 ∧ 2400 ≤ j) → ¬ (q = 47 ∧ j = 0 ∧ i = 8) → ¬ (q = 48 ∧ j = 0 ∧ i = 8) → ¬ (q = 51 ∧ j = 8) → C' q j i = C q j i := h.2.2.2.2.2.2
theorem pu_PF.rf {N6 N7 N23 P ca : Int} {Z : MiZ} {B C : MiD} : pu_PF N6 N7 N23 P ca Z Z B B C C := ⟨fun _ _ _ _ _ _ _ _ => rfl, fun _ _ _ _ _ _ _ _ => rfl, fun _ _ _ _ => rfl, Int.le_refl _, Int.le_refl _, Int.le_refl _, fun _ _ _ _ _ _ _ _ => rfl⟩
theorem pu_PF.tr {N6 N7 N23 P ca : Int} {Z Z' Z'' : MiZ} {B B' B'' C C' C'' : MiD} (h : pu_PF N6 N7 N23 P ca Z Z' B B' C C') (k : pu_PF N6 N7 N23 P ca Z' Z'' B' B'' C' C'') : pu_PF N6 N7 N23 P ca Z Z'' B B'' C C'' :=
  ⟨fun q j i a b c d e => (k.z q j i a b c d e).trans (h.z q j i a b c d e), fun q j i a b c d e => (k.d q j i a b c d e).trans (h.d q j i a b c d e), fun q a b c => (k.n q a b c).trans (h.n q a b c), Int.le_trans h.n6 k.n6, Int.le_trans h.n7 k.n7, Int.le_trans h.n23 k.n23, fun q j i a b c d e => (k.r q j i a b c d e).trans (h.r q j i a b c d e)⟩
theorem pu_PF.x1 {N6 N7 N23 P ca : Int} {Z Z' : MiZ} {B B' C C' : MiD} {v n : Int} {T : Int → Int} (h : pu_PF N6 N7 N23 P ca Z Z' B B' C C') (x : pu_X1 Z v n T B) : pu_X1 Z' v n T B' :=
  ⟨x.n0, x.n5, by rw [h.z _ _ _ (by omega) (by omega) (by omega) (by omega) (by omega)]; exact x.lk, by rw [h.d _ _ _ (by omega) (by omega) (by omega) (by omega) (by omega)]; exact x.ln, fun i a b => by rw [h.d _ _ _ (by omega) (by omega) (by omega) (by omega) (by omega)]; exact x.t i a b, x.tb⟩
theorem pu_PF.x2 {N6 N7 N23 P ca : Int} {Z Z' : MiZ} {B B' C C' : MiD} {n : Int} {T : Int → Int} (h : pu_PF N6 N7 N23 P ca Z Z' B B' C C') (x : pu_X2 n T C) : pu_X2 n T C' := x.st fun q j i z => h.r q j i (by omega) (by omega) (by omega) (by omega) (by omega)
theorem pu_PF.cl {N6 N7 N23 P ca : Int} {Z Z' : MiZ} {B B' C C' : MiD} (h : pu_PF N6 N7 N23 P ca Z Z' B B' C C') (x : CL Z) : CL Z' := pu_CL.k x fun q j i a => h.z q j i (by omega) (by omega) (by omega) (by omega) (by omega)
theorem pu_C.G {Z Z' : MiZ} {B B' C C' : MiD} {c x : Int} (h : pu_C Z B c C x) (zb : pu_ZB Z) (hc : c < Z.2 6) (g : pw_G (Z.2 6) (Z.2 7) (Z.2 23) Z Z' B B') (c43 : C' 43 0 x = C 43 0 x) (c46 : ∀ j i : Int, 24 * x ≤ j → j < 24 * x + 24 → C' 46 j i = C 46 j i) : pu_C Z' B' c C' x := by
  have a3 := h.2.2.1
  have aA := zb.c c h.1 hc
  refine h.k zb hc (g.z _ _ _ (by omega) (by omega) (by omega)) (fun j i p q e => g.z _ _ _ (by omega) (by omega) (by omega)) (fun y p q => g.z _ _ _ (by omega) (by omega) (by omega)) (g.d _ _ _ (by omega) (by omega) (by omega) (by omega)) (fun y i p q => g.d _ _ _ (by omega) (by omega) (by omega) (by omega)) c43 c46
theorem pu_C.lk {Z Z' : MiZ} {B C : MiD} {c x : Int} (h : pu_C Z B c C x) (e : ∀ (q : Nat) (j i : Int), q = 6 ∨ q = 7 ∨ q = 23 → Z'.1 q j i = Z.1 q j i) : pu_C Z' B c C x := by
  obtain ⟨h1, h2, h3, h4, h5, h6, h7⟩ := h
  refine ⟨h1, h2, by rw [e _ _ _ (by omega)]; exact h3, h4, h5, h6, fun i a b => ?_⟩
  rw [e 6 _ _ (by omega), e 23 _ _ (by omega)]
  exact (h7 i a b).k (e _ _ _ (by omega)) (fun _ => rfl) (fun _ => rfl)
theorem pu_fdm0 {B : MiD} {a p k w : Int} : pu_fdm B a 0 p k w = pu_rm B a k w := by
  unfold pu_fdm
  rw [if_neg (by decide)]
theorem pu_fd0 {B : MiD} {v a p k w : Int} : pu_fd B v a 0 p k w = pu_rd B v a k w := by
  unfold pu_fd
  rw [if_neg (by decide)]
theorem pu_41 {n : Int} {T : Int → Int} {C : MiD} (h2 : pu_X2 n T C) {a m N s : Int} (hs : 1 ≤ s) (hn : ¬ (48 ≤ T (s - 1) ∧ T (s - 1) ≤ 57)) : ∀ (f : Nat) (x : Int), s - 1 ≤ x → x < n → x - s + 1 < f → (∀ i : Int, s ≤ i → i ≤ x → 48 ≤ T i ∧ T i ≤ 57) → B_X11_readsFunc_41 f m N x (pu_rm C a 0 (-1)) = some (pu_rm C a 4 s)
  | 0, x, h1, h3, h4, h5 => by omega
  | f + 1, x, h1, h3, h4, h5 => by
    have n5 := h2.n5
    unfold B_X11_readsFunc_41
    rw [h2.b (by omega), pu_biE, pu_isDg h2 (by omega)]
    by_cases c : x = s - 1
    · rw [if_neg (show ¬ (x < n ∧ pu_dg T x = true) from fun z => hn (by rw [← c]; exact pu_dg_t.mp z.2)), if_pos rfl, pu_wrongE, pu_biE, pu_w (by omega) (by omega), pu_fdm0]
      unfold B_X11_readsFunc_66 B_X11_fine
      rw [pu_rm6, if_pos (by decide), pu_biE, if_neg (by decide), show x + 1 = s by omega]
    · rw [if_pos (show x < n ∧ pu_dg T x = true from ⟨h3, pu_dg_t.mpr (h5 x (by omega) (Int.le_refl _))⟩), if_neg (show ¬ ((1 : Int) = 0) by decide), pu_w (x := x + (-1)) (by omega) (by omega)]
      exact pu_41 h2 hs hn f (x + (-1)) (by omega) (by omega) (by omega) (fun i p q => h5 i p (by omega))
def pu_fO (N6 N7 N23 P ca : Int) (Z Z' : MiZ) (B B' C C' : MiD) (n m a1 a2 k w : Int) : Prop := (0 ≤ a1 ∧ a1 ≤ n) ∧ (0 ≤ a2 ∧ a2 ≤ n) ∧ (pu_PF N6 N7 N23 P ca Z Z' B B' C C') ∧ (B' 0 0 0 ≤ B 0 0 0 + 26 * m) ∧ (B' 0 0 1 ≤ B 0 0 1 + 170 * m) ∧ (pu_ZB Z') ∧ (0 ≤ k ∧ k ≤ 4) ∧ (k = 0 → a1 = a2 ∧ w = -1 ∧ pu_PS Z' B' P ca C' 8)
theorem pu_fO.b1 {N6 N7 N23 P ca : Int} {Z Z' : MiZ} {B B' C C' : MiD} {n m a1 a2 k w : Int} (h : pu_fO N6 N7 N23 P ca Z Z' B B' C C' n m a1 a2 k w) : 0 ≤ a1 ∧ a1 ≤ n := h.1
theorem pu_fO.b2 {N6 N7 N23 P ca : Int} {Z Z' : MiZ} {B B' C C' : MiD} {n m a1 a2 k w : Int} (h : pu_fO N6 N7 N23 P ca Z Z' B B' C C' n m a1 a2 k w) : 0 ≤ a2 ∧ a2 ≤ n := h.2.1
theorem pu_fO.f {N6 N7 N23 P ca : Int} {Z Z' : MiZ} {B B' C C' : MiD} {n m a1 a2 k w : Int} (h : pu_fO N6 N7 N23 P ca Z Z' B B' C C' n m a1 a2 k w) : pu_PF N6 N7 N23 P ca Z Z' B B' C C' := h.2.2.1
theorem pu_fO.c0 {N6 N7 N23 P ca : Int} {Z Z' : MiZ} {B B' C C' : MiD} {n m a1 a2 k w : Int} (h : pu_fO N6 N7 N23 P ca Z Z' B B' C C' n m a1 a2 k w) : B' 0 0 0 ≤ B 0 0 0 + 26 * m := h.2.2.2.1
theorem pu_fO.c1 {N6 N7 N23 P ca : Int} {Z Z' : MiZ} {B B' C C' : MiD} {n m a1 a2 k w : Int} (h : pu_fO N6 N7 N23 P ca Z Z' B B' C C' n m a1 a2 k w) : B' 0 0 1 ≤ B 0 0 1 + 170 * m := h.2.2.2.2.1
theorem pu_fO.zb {N6 N7 N23 P ca : Int} {Z Z' : MiZ} {B B' C C' : MiD} {n m a1 a2 k w : Int} (h : pu_fO N6 N7 N23 P ca Z Z' B B' C C' n m a1 a2 k w) : pu_ZB Z' := h.2.2.2.2.2.1
theorem pu_fO.k4 {N6 N7 N23 P ca : Int} {Z Z' : MiZ} {B B' C C' : MiD} {n m a1 a2 k w : Int} (h : pu_fO N6 N7 N23 P ca Z Z' B B' C C' n m a1 a2 k w) : 0 ≤ k ∧ k ≤ 4 := h.2.2.2.2.2.2.1
theorem pu_fO.ok {N6 N7 N23 P ca : Int} {Z Z' : MiZ} {B B' C C' : MiD} {n m a1 a2 k w : Int} (h : pu_fO N6 N7 N23 P ca Z Z' B B' C C' n m a1 a2 k w) : k = 0 → a1 = a2 ∧ w = -1 ∧ pu_PS Z' B' P ca C' 8 := h.2.2.2.2.2.2.2
theorem pu_func1 {Z : MiZ} {v n e P ca m : Int} {T : Int → Int} {B C : MiD} (h1 : pu_X1 Z v n T B) (h2 : pu_X2 n T C) (zb : pu_ZB Z) (cl : CL Z) (z6 : 0 ≤ Z.2 6) (z7 : 0 ≤ Z.2 7) (z23 : 0 ≤ Z.2 23) (S : pu_PS Z B P ca C m) (hm : 0 ≤ m ∧ m < 8) (he : 1 ≤ e) (hn : e ≤ n) (hT : ¬ (48 ≤ T (e - 1) ∧ T (e - 1) ≤ 57)) :
    ∃ (y : Int) (a k w : Int), B_X5_readFunction Z v P (pu_rd B v e 0 (-1)) = some (y, pu_rd B v a k w) ∧ (0 ≤ a ∧ a ≤ n) ∧ (0 ≤ k ∧ k ≤ 4) ∧ (k ≠ 0 → B_X11_readsFunc m (pu_rm C e 0 (-1)) = some (pu_rm C a k w)) ∧ (k = 0 → w = -1 ∧ 0 ≤ y ∧ y < 12 ∧ Z.1 24 ca y < 0 ∧ B_X11_readsFunc m (pu_rm C e 0 (-1)) = mi_bi (B_X11_block m (pu_rm (mi_st (mi_st C 47 0 8 (mi_or (C 47 0 8) (mi_shl 1 y))) 51 8 y m) a 0 (-1))) some) := by
  have n5 := h1.n5
  have fE := pu_fuelE
  have b1 : e ≤ pu_nx (pu_bl T) n e := pu_nx_le
  have b2 : pu_nx (pu_bl T) n e ≤ n := pu_nx_ge hn
  have bl : pu_nx (pu_bl T) n (pu_nx (pu_bl T) n e) = pu_nx (pu_bl T) n e := pu_nx_nx hn
  have tn : ¬ (48 ≤ T (pu_nx (pu_bl T) n e - 1) ∧ T (pu_nx (pu_bl T) n e - 1) ≤ 57) := by
    by_cases c : pu_nx (pu_bl T) n e = e
    · rw [c]; exact hT
    · have := pu_bl_t.mp (pu_nx_in (p := pu_bl T) (n := n) (a := e) (i := pu_nx (pu_bl T) n e - 1) (by omega) (by omega))
      omega
  unfold B_X5_readFunction B_X11_readsFunc B_X11_fine
  rw [pu_skipE h1 _ e (by omega) hn (by omega), pu_biE, pu_rd2, pu_hereE h2 _ e (by omega) hn (by omega), pu_b2E]
  generalize pu_nx (pu_bl T) n e = s at *
  obtain ⟨y, e1, e2, e3, e4⟩ := pu_readNE h1 (a := s) (hi := 11) (fl := 0) (p := -1) (by omega) b2 (by decide)
  have e5 := pu_numE h2 (a := s) (hi := 11) (by omega) b2 (by decide)
  have nb := pu_ne_b (T := T) (n := n) (a := s) (by omega) b2
  have nn := pu_nn0 (T := T) (n := n) (a := s)
  rw [e1, e5, bl, pu_b2E]
  by_cases c : pu_nk T n s 11 = 0
  · have c2 := pu_nk_0 c
    have hN : 0 ≤ pu_nn T n s ∧ pu_nn T n s < 12 := ⟨nn.1, by omega⟩
    have ne0 : pu_ne T n s ≠ s := fun z => by unfold pu_nk at c; rw [bl, if_pos z] at c; exact absurd c (by decide)
    rw [if_pos c, if_pos c, pu_b2E, pu_rd3, if_neg (show ¬ ((0 : Int) ≠ 0) by decide), S.l1, if_pos S.a0, e2 c2, if_pos hN, pu_rm6, if_neg (show ¬ ((0 : Int) ≠ 0) by decide), pu_biE, if_neg (show ¬ ((1 : Int) = 0) by decide), pu_rmo (by omega), pu_failE, pu_biE]
    have hb := S.bits.is hN
    by_cases d : Z.1 24 ca (pu_nn T n s) < 0
    · have hl : pu_lkg Z ca (pu_nn T n s) = false := decide_eq_false (by omega)
      have hb0 : B_X11_isBit (C 47 0 8) (pu_nn T n s) = 0 := by
        apply Decidable.byContradiction
        intro z
        rw [hb.mp z] at hl
        exact absurd hl (by decide)
      rw [if_pos d, if_pos hb0]
      refine ⟨_, _, 0, -1, rfl, ⟨nb.1, nb.2.1⟩, by decide, fun z => absurd rfl z, fun _ => ⟨rfl, hN.1, hN.2, d, ?_⟩⟩
      unfold B_X11_readsFunc_66 B_X11_fine
      rw [pu_rm6, if_neg (show ¬ ((0 : Int) ≠ 0) by decide), pu_biE, if_pos (show (1 : Int) ≠ 0 by decide), pu_letE, if_pos hN, pu_letE, pu_rmo (by omega), pu_rmso (by omega), pu_rmso (by omega)]
    · have hl : pu_lkg Z ca (pu_nn T n s) = true := decide_eq_true (by omega)
      have hb1 : ¬ B_X11_isBit (C 47 0 8) (pu_nn T n s) = 0 := hb.mpr hl
      unfold pu_fd
      rw [if_neg d, if_neg hb1, if_neg (show ¬ ((0 : Int) ≠ 0) by decide), pu_letE, pu_rm4, pu_w (by omega) (by omega)]
      have dg : ∀ i : Int, s ≤ i → i ≤ pu_ne T n s - 1 → 48 ≤ T i ∧ T i ≤ 57 := fun i p q => by
        have l : pu_ne T n s = pu_nx (pu_dg T) n s := by unfold pu_ne; rw [bl]
        exact pu_dg_t.mp (pu_nx_in (n := n) p (by omega))
      refine ⟨_, _, 4, s, rfl, ⟨nb.1, nb.2.1⟩, by decide, fun _ => pu_41 h2 (by omega) tn mi_fuel _ (by omega) (by omega) (by omega) dg, fun z => absurd z (by decide)⟩
  · have kb := pu_nk_b (T := T) (n := n) (a := s) (hi := 11)
    unfold pu_fd
    rw [if_neg c, if_neg c, if_neg (show ¬ ((0 : Int) ≠ 0) by decide), pu_rd3, if_pos c, pu_b2E, pu_rm6, if_pos c, pu_biE, if_pos rfl]
    refine ⟨_, _, pu_nk T n s 11, s, rfl, ⟨nb.1, nb.2.1⟩, by omega, fun _ => ?_, fun z => absurd z c⟩
    unfold B_X11_readsFunc_66 B_X11_fine
    rw [pu_rm6, if_pos c, pu_biE, if_neg (show ¬ ((0 : Int) ≠ 0) by decide)]
theorem pu_kwP : pu_kw 33 = pu_kw 59 ∧ pu_kw 34 = pu_kw 60 ∧ pu_kw 35 = pu_kw 61 ∧ pu_kw 36 = pu_kw 62 ∧ pu_kw 37 = pu_kw 63 ∧ pu_kw 34 ≠ -1 := by decide +kernel
theorem pu_145F {C : MiD} {a k w : Int} (hk : k ≠ 0) : B_X11_readsPatch_145 (pu_rm C a k w) = some (pu_rm C a k w) := by
  unfold B_X11_readsPatch_145 B_X11_readsPatch_161 B_X11_readsPatch_177 B_X11_readsPatch_193 B_X11_fine
  rw [pu_takesF hk, pu_b2E, if_pos rfl, pu_takesF hk, pu_b2E, if_pos rfl, pu_takesF hk, pu_b2E, if_pos rfl, pu_rm6, if_pos hk, pu_biE, if_pos rfl]
theorem pu_PS.mono {Z : MiZ} {B C : MiD} {P ca m m' : Int} (S : pu_PS Z B P ca C m) (h : m ≤ m') : pu_PS Z B P ca C m' :=
  ⟨S.p0, S.pP, S.a0, S.aA, S.l1, S.bits, fun f a b c => ⟨⟨(S.cod f a b c).1.1, by have := (S.cod f a b c).1.2; omega⟩, (S.cod f a b c).2⟩, S.e2, S.e3, S.e4, S.al, S.alb⟩
theorem pu_PS.up {Z Z' : MiZ} {B B' C C' : MiD} {P ca m y n a1 a2 k w : Int} (S : pu_PS Z B P ca C m) (zb : pu_ZB Z) (z6 : 0 ≤ Z.2 6) (hm : 0 ≤ m ∧ m < 8) (hy : 0 ≤ y ∧ y < 12) (hl : Z.1 24 ca y < 0)
    (O : pu_kO Z B (mi_st (mi_st C 47 0 8 (mi_or (C 47 0 8) (mi_shl 1 y))) 51 8 y m) (100 + m) n Z' B' C' a1 a2 k w) (cC : pu_C Z' B' (Z.2 6) C' (100 + m)) : pu_PS (mi_st Z'.1 24 ca y (Z.2 6), Z'.2) B' P ca C' (m + 1) := by
  have g := O.g
  have zo : ∀ (q : Nat) (j i : Int), ¬ (q = 24 ∧ j = ca ∧ i = y) → (mi_st Z'.1 24 ca y (Z.2 6)) q j i = Z'.1 q j i := fun q j i z => by rw [pu_st, if_neg z]
  have zs : mi_st Z'.1 24 ca y (Z.2 6) 24 ca y = Z.2 6 := pu_st_eq
  have ro : ∀ (q : Nat) (j i : Int), ¬ (q = 43 ∧ j = 0 ∧ i = 100 + m) → ¬ (q = 46 ∧ 24 * (100 + m) ≤ j ∧ j < 24 * (100 + m) + 24) → ¬ (q = 47 ∧ j = 0 ∧ i = 8) → ¬ (q = 51 ∧ j = 8 ∧ i = y) → C' q j i = C q j i := fun q j i p1 p2 p3 p4 => by
    rw [O.rf q j i p1 p2, pu_st, if_neg p4, pu_st, if_neg p3]
  have r47 : C' 47 0 8 = mi_or (C 47 0 8) (mi_shl 1 y) := by
    rw [O.rf _ _ _ (by omega) (by omega), pu_st, if_neg (by omega), pu_st_eq]
  have r51 : C' 51 8 y = m := by rw [O.rf _ _ _ (by omega) (by omega), pu_st_eq]
  have keep : ∀ c x : Int, pu_C Z B c C x → c < Z.2 6 → x ≠ 100 + m → pu_C (mi_st Z'.1 24 ca y (Z.2 6), Z'.2) B' c C' x := fun c x h hc hx => by
    have x0 := h.2.1
    exact (h.G zb hc g (ro _ _ _ (by omega) (by omega) (by omega) (by omega)) (fun j i p q => ro _ _ _ (by omega) (by omega) (by omega) (by omega))).lk (fun q j i z => zo q j i (by omega))
  have q8 : ∀ i : Int, mi_st Z'.1 24 ca y (Z.2 6) 8 P i = Z.1 8 P i := fun i => by rw [zo _ _ _ (by omega)]; exact g.z _ _ _ (by omega) (by omega) (by omega)
  obtain ⟨b1, b2, b3, b4⟩ := zb.P P S.p0 S.pP
  refine ⟨S.p0, ?_, S.a0, ?_, ?_, ?_, fun f p1 p2 p3 => ?_, ?_, ?_, ?_, ?_, ?_⟩
  · show P < Z'.2 8
    rw [g.n 8 (by decide) (by decide) (by decide)]; exact S.pP
  · show ca < Z'.2 24
    rw [g.n 24 (by decide) (by decide) (by decide)]; exact S.aA
  · show mi_st Z'.1 24 ca y (Z.2 6) 8 P 1 = ca
    rw [q8]; exact S.l1
  · rw [r47]
    refine (S.bits.or hy).k fun i p q => ?_
    unfold pu_lkg
    show _ = decide (0 ≤ mi_st Z'.1 24 ca y (Z.2 6) 24 ca i)
    by_cases e : i = y
    · subst e
      rw [zs]
      simp [z6]
    · rw [zo _ _ _ (by omega), g.z _ _ _ (by omega) (by omega) (by omega)]
      simp [e]
  · have p3' : 0 ≤ mi_st Z'.1 24 ca y (Z.2 6) 24 ca f := p3
    show (0 ≤ C' 51 8 f ∧ C' 51 8 f < m + 1) ∧ pu_C _ B' (mi_st Z'.1 24 ca y (Z.2 6) 24 ca f) C' (100 + C' 51 8 f)
    by_cases e : f = y
    · subst e
      rw [zs, r51]
      exact ⟨by omega, cC.lk (fun q j i z => zo q j i (by omega))⟩
    · have e1 : mi_st Z'.1 24 ca y (Z.2 6) 24 ca f = Z.1 24 ca f := by rw [zo _ _ _ (by omega)]; exact g.z _ _ _ (by omega) (by omega) (by omega)
      have e2 : C' 51 8 f = C 51 8 f := ro _ _ _ (by omega) (by omega) (by omega) (by omega)
      rw [e1] at p3'
      obtain ⟨q1, q2⟩ := S.cod f p1 p2 p3'
      rw [e1, e2]
      exact ⟨by omega, keep _ _ q2 (zb.k ca f S.a0 S.aA p1 p2) (by omega)⟩
  · show pu_C _ B' (mi_st Z'.1 24 ca y (Z.2 6) 8 P 2) C' 108
    rw [q8]; exact keep _ _ S.e2 b2 (by omega)
  · show pu_C _ B' (mi_st Z'.1 24 ca y (Z.2 6) 8 P 3) C' 109
    rw [q8]; exact keep _ _ S.e3 b3 (by omega)
  · show pu_C _ B' (mi_st Z'.1 24 ca y (Z.2 6) 8 P 4) C' 110
    rw [q8]; exact keep _ _ S.e4 b4 (by omega)
  · rw [g.d _ _ _ (by omega) (by omega) (by omega) (by omega), ro _ _ _ (by omega) (by omega) (by omega) (by omega)]; exact S.al
  · rw [ro _ _ _ (by omega) (by omega) (by omega) (by omega)]; exact S.alb
theorem pu_fltF {v P : Int} {Z : MiZ} (g : Nat) (m : Int) (B : MiD) (a k w : Int) (p : k ≠ 0) (q : 0 < g) : B_X5_readFuncs_12 g v P m (pu_rd B v a k w) Z = some (pu_rd B v a k w, Z) := by
  cases g with
  | zero => omega
  | succ g =>
    unfold B_X5_readFuncs_12
    rw [pu_rd3]
    by_cases d : 8 < m
    · rw [if_pos d]
    · rw [if_neg d, if_pos p]
theorem pu_flt86 (g : Nat) (m : Int) (C : MiD) (a k w : Int) (p : k ≠ 0) (q : 0 < g) : B_X11_readsPatch_86 g m (pu_rm C a k w) = B_X11_readsPatch_145 (pu_rm C a k w) := by
  cases g with
  | zero => omega
  | succ g =>
    unfold B_X11_readsPatch_86 B_X11_fine
    rw [pu_rm6, if_pos p, pu_biE, if_pos rfl]
theorem pu_funcs_l {v n P ca N6 N7 N23 : Int} {T : Int → Int} : ∀ (f : Nat) (Z : MiZ) (B C : MiD) (a m : Int), pu_X1 Z v n T B → pu_X2 n T C → pu_ZB Z → CL Z → 0 ≤ Z.2 6 → 0 ≤ Z.2 7 → 0 ≤ Z.2 23 → N6 ≤ Z.2 6 → N7 ≤ Z.2 7 → N23 ≤ Z.2 23 → pu_PS Z B P ca C m → 0 ≤ m → m ≤ 8 → 0 ≤ a → a ≤ n → 10 - m ≤ f → (m = 0 → pu_wc T n (pu_nx (pu_bl T) n a) = pu_kw 34) →
    ∃ (Z' : MiZ) (B' C' : MiD) (a1 a2 k w : Int), B_X5_readFuncs_12 f v P m (pu_rd B v a 0 (-1)) Z = some (pu_rd B' v a1 k w, Z') ∧ B_X11_readsPatch_86 f m (pu_rm C a 0 (-1)) = B_X11_readsPatch_145 (pu_rm C' a2 k w) ∧ pu_fO N6 N7 N23 P ca Z Z' B B' C C' n (8 - m) a1 a2 k w
  | 0, Z, B, C, a, m, h1, h2, zb, cl, z6, z7, z23, g6, g7, g23, S, m0, m8, ha, hn, hf, hw => by omega
  | f + 1, Z, B, C, a, m, h1, h2, zb, cl, z6, z7, z23, g6, g7, g23, S, m0, m8, ha, hn, hf, hw => by
    have n5 := h1.n5
    have fE := pu_fuelE
    have b1 : a ≤ pu_nx (pu_bl T) n a := pu_nx_le
    have b2 : pu_nx (pu_bl T) n a ≤ n := pu_nx_ge hn
    have bl : pu_nx (pu_bl T) n (pu_nx (pu_bl T) n a) = pu_nx (pu_bl T) n a := pu_nx_nx hn
    have triv : ∀ (a1 a2 k w : Int), (0 ≤ a1 ∧ a1 ≤ n) → (0 ≤ a2 ∧ a2 ≤ n) → (0 ≤ k ∧ k ≤ 4) → (k = 0 → a1 = a2 ∧ w = -1) → pu_fO N6 N7 N23 P ca Z Z B B C C n (8 - m) a1 a2 k w := fun a1 a2 k w p1 p2 p3 p4 => ⟨p1, p2, pu_PF.rf, by omega, by omega, zb, p3, fun z => ⟨(p4 z).1, (p4 z).2, S.mono m8⟩⟩
    have g34 : pu_gw 34 := pu_gwE 34 (by decide)
    have g60 : pu_gw 60 := pu_gwE 60 (by decide)
    obtain ⟨-, k34, -, -, -, km1⟩ := pu_kwP
    unfold B_X5_readFuncs_12 B_X11_readsPatch_86 B_X11_fine
    rw [if_neg (by omega), pu_rd3, if_neg (show ¬ ((0 : Int) ≠ 0) by decide), pu_skipE h1 _ a ha hn (by omega), pu_biE, pu_passWE h1 g34 (by omega) b2, bl, pu_rd2, pu_rm6, if_neg (show ¬ ((0 : Int) ≠ 0) by decide), pu_biE, if_neg (show ¬ ((1 : Int) = 0) by decide), pu_wordHE h2 ha hn]
    generalize pu_nx (pu_bl T) n a = b at *
    by_cases c : pu_wc T n b = pu_kw 34
    · have lt : b < pu_nx (pu_sl T) n b := by
        have : pu_wc T n b ≠ -1 := by rw [c]; exact km1
        unfold pu_wc at this
        by_cases d : b < pu_nx (pu_sl T) n b ∧ pu_nx (pu_sl T) n b ≤ b + 6
        · exact d.1
        · rw [if_neg d] at this; exact absurd rfl this
      have e2 : pu_nx (pu_sl T) n b ≤ n := pu_nx_ge b2
      have tl := pu_sl_t.mp (pu_nx_in (p := pu_sl T) (n := n) (a := b) (i := pu_nx (pu_sl T) n b - 1) (by omega) (by omega))
      rw [if_pos c, pu_b2E, if_pos (show (1 : Int) ≠ 0 by decide), pu_b2E, pu_codedE g60, pu_biE, if_neg (show ¬ (mi_cmp (pu_wc T n b) (pu_kw 60) ≠ 0) from fun z => z (pu_cmp_0.mpr (by rw [c, k34])))]
      by_cases c8 : m = 8
      · rw [if_neg (fun z => z c8), if_neg (fun z => z c8), pu_failE, pu_biE, pu_rm4, pu_wrongE, pu_biE, pu_fd0, pu_fdm0]
        refine ⟨Z, B, C, _, b, 3, b, rfl, ?_, triv _ _ _ _ ⟨by omega, e2⟩ ⟨by omega, b2⟩ (by decide) (fun z => absurd z (by decide))⟩
        unfold B_X11_readsPatch_122 B_X11_fine
        rw [pu_rm6, if_pos (by decide), pu_biE, if_neg (by decide), pu_145F (by decide)]
      · rw [if_pos c8, if_pos c8]
        unfold B_X11_readsPatch_122 B_X11_fine
        rw [pu_rm6, if_neg (show ¬ ((0 : Int) ≠ 0) by decide), pu_biE, if_pos (show (1 : Int) ≠ 0 by decide), pu_skipWE h2 _ b (by omega) b2 (by omega), pu_biE, pu_w (x := m + 1) (by omega) (by omega)]
        obtain ⟨y, a', k, w, r1, u1, k4, rf1, rf0⟩ := pu_func1 h1 h2 zb cl z6 z7 z23 S ⟨m0, by omega⟩ (by omega : 1 ≤ pu_nx (pu_sl T) n b) e2 (by omega)
        rw [r1, pu_b2E, pu_rd3]
        by_cases hk : k = 0
        · subst hk
          obtain ⟨w1, y0, y12, hl, r2⟩ := rf0 rfl
          subst w1
          rw [if_neg (show ¬ ((0 : Int) ≠ 0) by decide), r2]
          have X2' : pu_X2 n T (mi_st (mi_st C 47 0 8 (mi_or (C 47 0 8) (mi_shl 1 y))) 51 8 y m) := h2.st fun q j i z => by rw [pu_st, if_neg (by omega), pu_st, if_neg (by omega)]
          obtain ⟨Z1, B1, C1, p1, p2, k, w, s1, s2, O⟩ := pu_block (nn := m) h1 X2' zb cl z6 z7 z23 ⟨m0, by omega⟩ u1.1 u1.2
          have cl1 := O.g.cl cl
          have cl2 : CL (mi_st Z1.1 24 ca y (Z.2 6), Z1.2) := pu_CL.k cl1 fun q j i z => by
            show mi_st Z1.1 24 ca y (Z.2 6) q j i = _
            rw [pu_st, if_neg (by omega)]
          have n8 := O.g.n 8 (by decide) (by decide) (by decide)
          have n24 := O.g.n 24 (by decide) (by decide) (by decide)
          have zb2 : pu_ZB (mi_st Z1.1 24 ca y (Z.2 6), Z1.2) := O.zb.st (Or.inr (Or.inl ⟨rfl, by rw [O.e6]; omega⟩))
          have F : pu_PF N6 N7 N23 P ca Z (mi_st Z1.1 24 ca y (Z.2 6), Z1.2) B B1 C C1 := by
            refine ⟨fun q j i a1 a2 a3 a4 a5 => ?_, fun q j i a1 a2 a3 a4 a5 => O.g.d q j i (by omega) (by omega) (by omega) a5, O.g.n, O.g.n6, O.g.n7, O.g.n23, fun q j i a1 a2 a3 a4 a5 => ?_⟩
            · show mi_st Z1.1 24 ca y (Z.2 6) q j i = _
              rw [pu_st, if_neg (by omega)]
              exact O.g.z q j i (by omega) (by omega) (by omega)
            · rw [O.rf q j i (by omega) (by omega), pu_st, if_neg (by omega), pu_st, if_neg (by omega)]
          rw [s1, pu_b3E, mi_req_t cl1, S.l1, if_pos S.a0, if_pos ⟨y0, y12⟩, if_pos z6, pu_letE, mi_req_t cl2, s2, pu_biE, pu_biE]
          by_cases hk : k = 0
          · subst hk
            obtain ⟨q1, q2, q3⟩ := O.ok rfl
            subst q1 q2
            have S' := S.up zb z6 ⟨m0, by omega⟩ ⟨y0, y12⟩ hl O q3
            obtain ⟨Z', B', C', a1, a2, k, w, t1, t2, t3⟩ := pu_funcs_l (N6 := N6) (N7 := N7) (N23 := N23) f _ B1 C1 p1 (m + 1) (F.x1 h1) (F.x2 h2) zb2 cl2 (by show 0 ≤ Z1.2 6; rw [O.e6]; omega) (by show 0 ≤ Z1.2 7; have := O.g.n7; omega) (by show 0 ≤ Z1.2 23; rw [O.e23]; omega) (by show N6 ≤ Z1.2 6; rw [O.e6]; omega) (by show N7 ≤ Z1.2 7; have := O.g.n7; omega) (by show N23 ≤ Z1.2 23; rw [O.e23]; omega) S' (by omega) (by omega) O.b1.1 O.b1.2 (by omega) (fun z => by omega)
            have q0 := t3.c0
            have q1 := t3.c1
            have q2 := O.c0
            have q3 := O.c1
            exact ⟨Z', B', C', a1, a2, k, w, t1, t2, ⟨t3.b1, t3.b2, F.tr t3.f, by omega, by omega, t3.zb, t3.k4, t3.ok⟩⟩
          · rw [pu_fltF _ _ _ _ _ _ hk (by omega), pu_flt86 _ _ _ _ _ _ hk (by omega)]
            have q2 := O.c0
            have q3 := O.c1
            exact ⟨_, B1, C1, p1, p2, k, w, rfl, rfl, ⟨O.b1, O.b2, F, by omega, by omega, zb2, O.k4, fun z => absurd z hk⟩⟩
        · rw [if_pos hk, pu_fltF _ _ _ _ _ _ hk (by omega), rf1 hk, pu_biE, pu_flt86 _ _ _ _ _ _ hk (by omega)]
          exact ⟨Z, B, C, a', a', k, w, rfl, rfl, triv _ _ _ _ u1 u1 k4 (fun z => absurd z hk)⟩
    · have hm : m ≠ 0 := fun z => c (hw z)
      rw [if_neg c, pu_b2E, if_neg (show ¬ ((0 : Int) ≠ 0) by decide), if_pos hm, pu_b2E, pu_codedE g60, pu_biE, if_pos (fun z => c (by rw [k34]; exact pu_cmp_0.mp z))]
      exact ⟨Z, B, C, b, b, 0, -1, rfl, rfl, triv _ _ _ _ ⟨by omega, b2⟩ ⟨by omega, b2⟩ (by decide) (fun _ => ⟨rfl, rfl⟩)⟩
theorem pu_end1 {Z : MiZ} {v n P ca a N6 N7 N23 i nn ws wr : Int} {T : Int → Int} {B C : MiD} (h1 : pu_X1 Z v n T B) (h2 : pu_X2 n T C) (zb : pu_ZB Z) (cl : CL Z) (z6 : 0 ≤ Z.2 6) (z7 : 0 ≤ Z.2 7) (z23 : 0 ≤ Z.2 23) (g6 : N6 ≤ Z.2 6) (g7 : N7 ≤ Z.2 7) (g23 : N23 ≤ Z.2 23) (S : pu_PS Z B P ca C 8) (ha : 0 ≤ a) (hn : a ≤ n)
    (hw : pu_gw ws) (hr : pu_gw wr) (hk : pu_kw ws = pu_kw wr) (hi : (i = 2 ∧ nn = 8) ∨ (i = 3 ∧ nn = 9) ∨ (i = 4 ∧ nn = 10)) :
    ∃ (Z' : MiZ) (B' C' : MiD) (a1 a2 k w : Int), (∀ K : MiD → MiZ → Option MiM, (mi_b2 (B_X5_passWord Z v ws (pu_rd B v a 0 (-1))) fun y2 D3 => if y2 = 0 then K D3 Z else (mi_b3 (B_X5_readCode v 1 D3 Z) fun y5 D6 Z7 => mi_req (CL Z7) (mi_let (mi_st Z7.1 8 P i y5, Z7.2) fun Z8 => mi_req (CL Z8) (K D6 Z8)))) = K (pu_rd B' v a1 k w) Z') ∧
      (∀ K : MiD → Option MiD, (mi_b2 (B_X11_takes wr (pu_rm C a 0 (-1))) fun y1 D2 => if y1 = 0 then K D2 else mi_bi (B_X11_block nn D2) fun D4 => K D4) = K (pu_rm C' a2 k w)) ∧ pu_fO N6 N7 N23 P ca Z Z' B B' C C' n 1 a1 a2 k w := by
  have n5 := h1.n5
  have b1 : a ≤ pu_nx (pu_bl T) n a := pu_nx_le
  have b2 : pu_nx (pu_bl T) n a ≤ n := pu_nx_ge hn
  rw [pu_passWE h1 hw ha hn, pu_takesE h2 hr ha hn, ← hk]
  generalize pu_nx (pu_bl T) n a = b at *
  have e1 : b ≤ pu_nx (pu_sl T) n b := pu_nx_le
  have e2 : pu_nx (pu_sl T) n b ≤ n := pu_nx_ge b2
  by_cases c : pu_wc T n b = pu_kw ws
  · obtain ⟨Z1, B1, C1, p1, p2, k, w, s1, s2, O⟩ := pu_block (nn := nn) (a := pu_nx (pu_sl T) n b) h1 h2 zb cl z6 z7 z23 (by omega) (by omega) e2
    have cl1 := O.g.cl cl
    have cl2 : CL (mi_st Z1.1 8 P i (Z.2 6), Z1.2) := pu_CL.k cl1 fun q j l z => by
      show mi_st Z1.1 8 P i (Z.2 6) q j l = _
      rw [pu_st, if_neg (by omega)]
    have zb2 : pu_ZB (mi_st Z1.1 8 P i (Z.2 6), Z1.2) := O.zb.st (Or.inl ⟨rfl, fun z => by omega, fun _ => by rw [O.e6]; omega⟩)
    have q2 := O.c0
    have q3 := O.c1
    refine ⟨(mi_st Z1.1 8 P i (Z.2 6), Z1.2), B1, C1, p1, p2, k, w, fun K => ?_, fun K => ?_, ⟨O.b1, O.b2, ⟨fun q j l a1 a2 a3 a4 a5 => ?_, fun q j l a1 a2 a3 a4 a5 => O.g.d q j l (by omega) (by omega) (by omega) a5, O.g.n, O.g.n6, O.g.n7, O.g.n23, fun q j l a1 a2 a3 a4 a5 => O.rf q j l (by omega) (by omega)⟩, by omega, by omega, zb2, O.k4, fun z => ?_⟩⟩
    · rw [if_pos c, pu_b2E, if_neg (show ¬ ((1 : Int) = 0) by decide), s1, pu_b3E, mi_req_t cl1, pu_letE, mi_req_t cl2]
    · rw [if_pos c, pu_b2E, if_neg (show ¬ ((1 : Int) = 0) by decide), s2, pu_biE]
    · show mi_st Z1.1 8 P i (Z.2 6) q j l = _
      rw [pu_st, if_neg (by omega)]
      exact O.g.z q j l (by omega) (by omega) (by omega)
    · obtain ⟨t1, t2, t3⟩ := O.ok z
      refine ⟨t1, t2, ?_⟩
      have g := O.g
      have zo : ∀ (q : Nat) (j l : Int), ¬ (q = 8 ∧ j = P ∧ l = i) → mi_st Z1.1 8 P i (Z.2 6) q j l = Z1.1 q j l := fun q j l z => by rw [pu_st, if_neg z]
      have keep : ∀ c x : Int, pu_C Z B c C x → c < Z.2 6 → x ≠ 100 + nn → pu_C (mi_st Z1.1 8 P i (Z.2 6), Z1.2) B1 c C1 x := fun c x h hc hx => by
        have x0 := h.2.1
        exact (h.G zb hc g (O.rf _ _ _ (by omega) (by omega)) (fun j l p q => O.rf _ _ _ (by omega) (by omega))).lk (fun q j l z => zo q j l (by omega))
      have new : pu_C (mi_st Z1.1 8 P i (Z.2 6), Z1.2) B1 (Z.2 6) C1 (100 + nn) := t3.lk (fun q j l z => zo q j l (by omega))
      have q8 : ∀ l : Int, l ≠ i → mi_st Z1.1 8 P i (Z.2 6) 8 P l = Z.1 8 P l := fun l z => by rw [zo _ _ _ (by omega)]; exact g.z _ _ _ (by omega) (by omega) (by omega)
      have q8i : mi_st Z1.1 8 P i (Z.2 6) 8 P i = Z.2 6 := pu_st_eq
      have q24 : ∀ f : Int, mi_st Z1.1 8 P i (Z.2 6) 24 ca f = Z.1 24 ca f := fun f => by rw [zo _ _ _ (by omega)]; exact g.z _ _ _ (by omega) (by omega) (by omega)
      have r51 : ∀ f : Int, C1 51 8 f = C 51 8 f := fun f => O.rf _ _ _ (by omega) (by omega)
      obtain ⟨y1, y2, y3, y4⟩ := zb.P P S.p0 S.pP
      have cd : ∀ f : Int, 0 ≤ f → f < 12 → 0 ≤ Z.1 24 ca f → C 51 8 f < 8 := fun f p q r => (S.cod f p q r).1.2
      refine ⟨S.p0, ?_, S.a0, ?_, ?_, ?_, fun f p1 p2 p3 => ?_, ?_, ?_, ?_, ?_, ?_⟩
      · show P < Z1.2 8
        rw [g.n 8 (by decide) (by decide) (by decide)]; exact S.pP
      · show ca < Z1.2 24
        rw [g.n 24 (by decide) (by decide) (by decide)]; exact S.aA
      · show mi_st Z1.1 8 P i (Z.2 6) 8 P 1 = ca
        rw [q8 1 (by omega)]; exact S.l1
      · rw [O.rf _ _ _ (by omega) (by omega)]
        refine S.bits.k fun f p q => ?_
        unfold pu_lkg
        show _ = decide (0 ≤ mi_st Z1.1 8 P i (Z.2 6) 24 ca f)
        rw [q24]
      · have p3' : 0 ≤ mi_st Z1.1 8 P i (Z.2 6) 24 ca f := p3
        show (0 ≤ C1 51 8 f ∧ C1 51 8 f < 8) ∧ pu_C _ B1 (mi_st Z1.1 8 P i (Z.2 6) 24 ca f) C1 (100 + C1 51 8 f)
        rw [q24] at p3'
        obtain ⟨u1, u2⟩ := S.cod f p1 p2 p3'
        rw [q24, r51]
        exact ⟨u1, keep _ _ u2 (zb.k ca f S.a0 S.aA p1 p2) (by omega)⟩
      · show pu_C _ B1 (mi_st Z1.1 8 P i (Z.2 6) 8 P 2) C1 108
        by_cases e : i = 2
        · subst e
          rw [q8i, show (108 : Int) = 100 + nn by omega]; exact new
        · rw [q8 2 (by omega)]; exact keep _ _ S.e2 y2 (by omega)
      · show pu_C _ B1 (mi_st Z1.1 8 P i (Z.2 6) 8 P 3) C1 109
        by_cases e : i = 3
        · subst e
          rw [q8i, show (109 : Int) = 100 + nn by omega]; exact new
        · rw [q8 3 (by omega)]; exact keep _ _ S.e3 y3 (by omega)
      · show pu_C _ B1 (mi_st Z1.1 8 P i (Z.2 6) 8 P 4) C1 110
        by_cases e : i = 4
        · subst e
          rw [q8i, show (110 : Int) = 100 + nn by omega]; exact new
        · rw [q8 4 (by omega)]; exact keep _ _ S.e4 y4 (by omega)
      · rw [g.d _ _ _ (by omega) (by omega) (by omega) (by omega), O.rf _ _ _ (by omega) (by omega)]; exact S.al
      · rw [O.rf _ _ _ (by omega) (by omega)]; exact S.alb
  · exact ⟨Z, B, C, b, b, 0, -1, fun K => by rw [if_neg c, pu_b2E, if_pos rfl], fun K => by rw [if_neg c, pu_b2E, if_pos rfl], ⟨⟨by omega, b2⟩, ⟨by omega, b2⟩, pu_PF.rf, by omega, by omega, zb, by decide, fun _ => ⟨rfl, rfl, S⟩⟩⟩
theorem pu_fO.nx {Z Z1 : MiZ} {v n P ca N6 N7 N23 i nn ws wr m a1 a2 k w : Int} {T : Int → Int} {B B1 C C1 : MiD} (O : pu_fO N6 N7 N23 P ca Z Z1 B B1 C C1 n m a1 a2 k w) (h1 : pu_X1 Z v n T B) (h2 : pu_X2 n T C) (cl : CL Z) (z6 : 0 ≤ Z.2 6) (z7 : 0 ≤ Z.2 7) (z23 : 0 ≤ Z.2 23) (g6 : N6 ≤ Z.2 6) (g7 : N7 ≤ Z.2 7) (g23 : N23 ≤ Z.2 23)
    (hw : pu_gw ws) (hr : pu_gw wr) (hk : pu_kw ws = pu_kw wr) (hi : (i = 2 ∧ nn = 8) ∨ (i = 3 ∧ nn = 9) ∨ (i = 4 ∧ nn = 10)) (K1 : MiD → MiZ → Option MiM) (K2 : MiD → Option MiD) :
    ∃ (Z' : MiZ) (B' C' : MiD) (b1 b2 k' w' : Int), (if (pu_rd B1 v a1 k w) 9 v 3 ≠ 0 then K1 (pu_rd B1 v a1 k w) Z1 else (mi_b2 (B_X5_passWord Z1 v ws (pu_rd B1 v a1 k w)) fun y2 D3 => if y2 = 0 then K1 D3 Z1 else (mi_b3 (B_X5_readCode v 1 D3 Z1) fun y5 D6 Z7 => mi_req (CL Z7) (mi_let (mi_st Z7.1 8 P i y5, Z7.2) fun Z8 => mi_req (CL Z8) (K1 D6 Z8))))) = K1 (pu_rd B' v b1 k' w') Z' ∧
      (mi_b2 (B_X11_takes wr (pu_rm C1 a2 k w)) fun y1 D2 => if y1 = 0 then K2 D2 else mi_bi (B_X11_block nn D2) fun D4 => K2 D4) = K2 (pu_rm C' b2 k' w') ∧ pu_fO N6 N7 N23 P ca Z Z' B B' C C' n (m + 1) b1 b2 k' w' := by
  rw [pu_rd3]
  have q2 := O.c0
  have q3 := O.c1
  by_cases c : k = 0
  · subst c
    obtain ⟨t1, t2, S⟩ := O.ok rfl
    subst t1 t2
    have f6 := O.f.n6
    have f7 := O.f.n7
    have f23 := O.f.n23
    obtain ⟨Z', B', C', b1, b2, k', w', r1, r2, R⟩ := pu_end1 (i := i) (nn := nn) (N6 := N6) (N7 := N7) (N23 := N23) (O.f.x1 h1) (O.f.x2 h2) O.zb (O.f.cl cl) (by omega) (by omega) (by omega) (by omega) (by omega) (by omega) S O.b1.1 O.b1.2 hw hr hk hi
    have q4 := R.c0
    have q5 := R.c1
    rw [if_neg (show ¬ ((0 : Int) ≠ 0) by decide)]
    exact ⟨Z', B', C', b1, b2, k', w', r1 K1, r2 K2, ⟨R.b1, R.b2, O.f.tr R.f, by omega, by omega, R.zb, R.k4, R.ok⟩⟩
  · rw [if_pos c, pu_takesF c, pu_b2E, if_pos rfl]
    exact ⟨Z1, B1, C1, a1, a2, k, w, rfl, rfl, ⟨O.b1, O.b2, O.f, by omega, by omega, O.zb, O.k4, fun z => absurd z c⟩⟩
theorem pu_ends {Z Z1 : MiZ} {v n P ca N6 N7 N23 m a1 a2 k w : Int} {T : Int → Int} {B B1 C C1 : MiD} (O : pu_fO N6 N7 N23 P ca Z Z1 B B1 C C1 n m a1 a2 k w) (h1 : pu_X1 Z v n T B) (h2 : pu_X2 n T C) (cl : CL Z) (z6 : 0 ≤ Z.2 6) (z7 : 0 ≤ Z.2 7) (z23 : 0 ≤ Z.2 23) (g6 : N6 ≤ Z.2 6) (g7 : N7 ≤ Z.2 7) (g23 : N23 ≤ Z.2 23) :
    ∃ (Z' : MiZ) (B' C' : MiD) (b1 b2 k' w' : Int), B_X5_readEnds v P (pu_rd B1 v a1 k w) Z1 = some (pu_rd B' v b1 k' w', Z') ∧ B_X11_readsPatch_145 (pu_rm C1 a2 k w) = some (pu_rm C' b2 k' w') ∧ pu_fO N6 N7 N23 P ca Z Z' B B' C C' n (m + 3) b1 b2 k' w' := by
  have n5 := h1.n5
  have fE := pu_fuelE
  obtain ⟨k33, k34, k35, k36, k37, -⟩ := pu_kwP
  unfold B_X5_readEnds B_X11_readsPatch_145
  obtain ⟨Z2, B2, C2, c1, c2, k2, w2, r1, r2, O2⟩ := O.nx (i := 2) (nn := 8) (ws := 35) (wr := 61) h1 h2 cl z6 z7 z23 g6 g7 g23 (pu_gwE 35 (by decide)) (pu_gwE 61 (by decide)) k35 (by decide) (B_X5_readEnds_25 v P) B_X11_readsPatch_161
  rw [r1, r2]
  unfold B_X5_readEnds_25 B_X11_readsPatch_161
  obtain ⟨Z3, B3, C3, d1, d2, k3, w3, r3, r4, O3⟩ := O2.nx (i := 3) (nn := 9) (ws := 36) (wr := 62) h1 h2 cl z6 z7 z23 g6 g7 g23 (pu_gwE 36 (by decide)) (pu_gwE 62 (by decide)) k36 (by decide) (B_X5_readEnds_50 v P) B_X11_readsPatch_177
  rw [r3, r4]
  unfold B_X5_readEnds_50 B_X11_readsPatch_177
  obtain ⟨Z4, B4, C4, e1, e2, k4, w4, r5, r6, O4⟩ := O3.nx (i := 4) (nn := 10) (ws := 37) (wr := 63) h1 h2 cl z6 z7 z23 g6 g7 g23 (pu_gwE 37 (by decide)) (pu_gwE 63 (by decide)) k37 (by decide) (B_X5_readEnds_75 v) B_X11_readsPatch_193
  rw [r5, r6]
  have ob1 := O4.b1
  have x1 := O4.f.x1 h1
  have x2 := O4.f.x2 h2
  have q2 := O4.c0
  have q3 := O4.c1
  have b1 : e1 ≤ pu_nx (pu_bl T) n e1 := pu_nx_le
  have b2 : pu_nx (pu_bl T) n e1 ≤ n := pu_nx_ge O4.b1.2
  unfold B_X5_readEnds_75 B_X11_readsPatch_193 B_X11_fine
  rw [pu_skipE x1 _ e1 O4.b1.1 O4.b1.2 (by omega), pu_biE, pu_rdo (by omega), pu_rd2, x1.ln, pu_failE, pu_biE, pu_rm6]
  by_cases c : k4 = 0
  · subst c
    obtain ⟨t1, t2, S⟩ := O4.ok rfl
    subst t1 t2
    rw [if_neg (show ¬ ((0 : Int) ≠ 0) by decide), pu_biE, if_neg (show ¬ ((1 : Int) = 0) by decide), pu_hereE x2 _ e1 ob1.1 ob1.2 (by omega), pu_b2E, pu_rm4, pu_wrongE, pu_biE, pu_fd0, pu_fdm0]
    by_cases d : n ≤ pu_nx (pu_bl T) n e1
    · rw [if_pos d, if_pos (show pu_ba T n (pu_nx (pu_bl T) n e1) = -1 by unfold pu_ba; rw [if_neg (by omega)])]
      exact ⟨_, _, _, _, _, 0, -1, rfl, rfl, ⟨⟨by omega, b2⟩, ⟨by omega, b2⟩, O4.f, by omega, by omega, O4.zb, by decide, fun _ => ⟨rfl, rfl, S⟩⟩⟩
    · rw [if_neg d, if_neg (show ¬ (pu_ba T n (pu_nx (pu_bl T) n e1) = -1) by unfold pu_ba; rw [if_pos (by omega)]; omega)]
      exact ⟨_, _, _, _, _, 1, _, rfl, rfl, ⟨⟨by omega, b2⟩, ⟨by omega, b2⟩, O4.f, by omega, by omega, O4.zb, by decide, fun z => absurd z (by decide)⟩⟩
  · have ef : pu_fd B4 v (pu_nx (pu_bl T) n e1) k4 w4 1 (pu_nx (pu_bl T) n e1) = pu_rd B4 v (pu_nx (pu_bl T) n e1) k4 w4 := by unfold pu_fd; rw [if_pos c]
    rw [if_pos c, pu_biE, if_pos rfl, ef]
    refine ⟨_, _, _, _, _, k4, w4, by split <;> rfl, rfl, ⟨⟨by omega, b2⟩, O4.b2, O4.f, by omega, by omega, O4.zb, O4.k4, fun z => absurd z c⟩⟩
