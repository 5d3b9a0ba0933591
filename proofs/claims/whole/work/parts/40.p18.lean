theorem pu_rp32 {n : Int} {T : Int → Int} {C : MiD} (h2 : pu_X2 n T C) {a : Int} (ha : 0 ≤ a) (hn : a ≤ n) : B_X11_readsPatch_32 mi_fuel 8 (pu_rm C a 0 (-1)) = if pu_wc T n (pu_nx (pu_bl T) n a) = pu_kw 34 then B_X11_readsPatch_86 mi_fuel 0 (pu_rm (mi_st (mi_st (mi_st C 43 0 108 0) 43 0 109 0) 43 0 110 0) (pu_nx (pu_bl T) n a) 0 (-1)) else some (pu_rm (mi_st (mi_st (mi_st C 43 0 108 0) 43 0 109 0) 43 0 110 0) (pu_nx (pu_bl T) n a) 1 (pu_nx (pu_bl T) n a)) := by
  have n5 := h2.n5
  have fE := pu_fuelE
  obtain ⟨-, k34, -, -, -, km1⟩ := pu_kwP
  have st : ∀ (f : Nat) (k : Int) (D : MiD) (a : Int), 8 ≤ k → k ≤ 10 → B_X11_readsPatch_32 (f + 1) k (pu_rm D a 0 (-1)) = B_X11_readsPatch_32 f (k + 1) (pu_rm (mi_st D 43 0 (100 + k) 0) a 0 (-1)) := fun f k D a p q => by
    conv => lhs; unfold B_X11_readsPatch_32
    rw [if_neg (by omega), pu_w (x := 100 + k) (by omega) (by omega), if_pos (by omega), pu_letE, pu_rmso (by omega), pu_w (x := k + 1) (by omega) (by omega)]
  rw [show B_X11_readsPatch_32 mi_fuel 8 (pu_rm C a 0 (-1)) = B_X11_readsPatch_32 (3996 + 1 + 1 + 1 + 1) 8 (pu_rm C a 0 (-1)) from rfl, st _ 8 _ _ (by decide) (by decide), st _ (8 + 1) _ _ (by decide) (by decide), st _ (8 + 1 + 1) _ _ (by decide) (by decide)]
  simp only [Int.reduceAdd]
  have h2' : pu_X2 n T (mi_st (mi_st (mi_st C 43 0 108 0) 43 0 109 0) 43 0 110 0) := h2.st fun q j i z => by rw [pu_st, if_neg (by omega), pu_st, if_neg (by omega), pu_st, if_neg (by omega)]
  generalize mi_st (mi_st (mi_st C 43 0 108 0) 43 0 109 0) 43 0 110 0 = D at *
  have b1 : a ≤ pu_nx (pu_bl T) n a := pu_nx_le
  unfold B_X11_readsPatch_32 B_X11_fine
  rw [if_pos (show (10 : Int) < 11 by decide), pu_rm6, if_neg (show ¬ ((0 : Int) ≠ 0) by decide), pu_biE, if_neg (show ¬ ((1 : Int) = 0) by decide), pu_wordHE h2' ha hn, pu_b2E, pu_codedE (w := 60) (pu_gwE 60 (by decide)), pu_biE, pu_rm4, pu_wrongE, pu_biE, pu_fdm0, ← k34]
  by_cases c : pu_wc T n (pu_nx (pu_bl T) n a) = pu_kw 34
  · rw [if_pos (pu_cmp_0.mpr c), if_pos c]
  · rw [if_neg (fun z => c (pu_cmp_0.mp z)), if_neg c, pu_flt86 _ _ _ _ _ _ (by decide) (by omega), pu_145F (by decide)]
theorem pu_pread {Z : MiZ} {v n P ca : Int} {T : Int → Int} {B C : MiD} (h1 : pu_X1 Z v n T B) (h2 : pu_X2 n T C) (zb : pu_ZB Z) (cl : CL Z) (z6 : 0 ≤ Z.2 6) (z7 : 0 ≤ Z.2 7) (z23 : 0 ≤ Z.2 23)
    (p0 : 0 ≤ P) (pP : P < Z.2 8) (a0 : 0 ≤ ca) (aA : ca < Z.2 24) (l1 : Z.1 8 P 1 = ca) (lf : ∀ f : Int, Z.1 24 ca f = -1) (cc : ∀ (i : Int) (C : MiD) (x : Int), i = 2 ∨ i = 3 ∨ i = 4 → 0 ≤ x → x < 111 → C 43 0 x = 0 → pu_C Z B (Z.1 8 P i) C x) :
    ∃ (Z' : MiZ) (B' C' : MiD) (a1 a2 k w : Int), (mi_bw (B_X5_readFuncs v P (pu_rd B v 0 0 (-1)) Z) fun D13 Z14 => mi_req (CL Z14) (B_X5_readEnds v P D13 Z14)) = some (pu_rd B' v a1 k w, Z') ∧ B_X11_readsPatch (pu_rm C 0 0 (-1)) = some (pu_rm C' a2 k w) ∧ pu_fO (Z.2 6) (Z.2 7) (Z.2 23) P ca Z Z' B B' C C' n 11 a1 a2 k w := by
  have n0 := h1.n0
  have n5 := h1.n5
  have fE := pu_fuelE
  obtain ⟨k33, k34, -⟩ := pu_kwP
  have b2 : pu_nx (pu_bl T) n 0 ≤ n := pu_nx_ge n0
  have b1 : 0 ≤ pu_nx (pu_bl T) n 0 := pu_nx_le
  have X0 : pu_X2 n T (mi_st C 47 0 8 0) := h2.st fun q j i z => by rw [pu_st, if_neg (by omega)]
  obtain ⟨y, a, ya, r1, r2, hy⟩ : ∃ y a : Int, (y = 0 ∨ y = 1) ∧ B_X5_passWord Z v 33 (pu_rd B v 0 0 (-1)) = some (y, pu_rd B v a 0 (-1)) ∧ B_X11_takes 59 (pu_rm (mi_st C 47 0 8 0) 0 0 (-1)) = some (y, pu_rm (mi_st C 47 0 8 0) a 0 (-1)) ∧ 0 ≤ a ∧ a ≤ n := by
    have e1 : pu_nx (pu_bl T) n 0 ≤ pu_nx (pu_sl T) n (pu_nx (pu_bl T) n 0) := pu_nx_le
    have e2 : pu_nx (pu_sl T) n (pu_nx (pu_bl T) n 0) ≤ n := pu_nx_ge b2
    rw [pu_passWE h1 (w := 33) (pu_gwE 33 (by decide)) (by decide) n0, pu_takesE X0 (w := 59) (pu_gwE 59 (by decide)) (by decide) n0]
    by_cases c : pu_wc T n (pu_nx (pu_bl T) n 0) = pu_kw 33
    · exact ⟨1, _, Or.inr rfl, by rw [if_pos (show pu_wc T n (pu_nx (pu_bl T) n 0) = pu_kw 33 from c)], by rw [if_pos (show pu_wc T n (pu_nx (pu_bl T) n 0) = pu_kw 59 from c.trans k33)], by omega, e2⟩
    · exact ⟨0, _, Or.inl rfl, by rw [if_neg (show ¬ (pu_wc T n (pu_nx (pu_bl T) n 0) = pu_kw 33) from c)], by rw [if_neg (show ¬ (pu_wc T n (pu_nx (pu_bl T) n 0) = pu_kw 59) from fun z => c (z.trans k33.symm))], by omega, b2⟩
  have hb : B_X11_readsPatch (pu_rm C 0 0 (-1)) = B_X11_readsPatch_32 mi_fuel 8 (pu_rm (mi_st (mi_st C 47 0 8 0) 48 0 8 y) a 0 (-1)) := by
    unfold B_X11_readsPatch B_X11_readsPatch_28
    rw [pu_letE, pu_rmso (by omega), r2, pu_b2E]
    rcases ya with rfl | rfl
    · rw [if_pos rfl, if_pos (by decide), pu_letE, pu_rmso (by omega)]
    · rw [if_neg (by decide), if_pos (by decide), pu_letE, pu_rmso (by omega)]
  have X0' : pu_X2 n T (mi_st (mi_st C 47 0 8 0) 48 0 8 y) := X0.st fun q j i z => by rw [pu_st, if_neg (by omega)]
  rw [hb, pu_rp32 X0' hy.1 hy.2]
  have ha : B_X5_readFuncs v P (pu_rd B v 0 0 (-1)) Z = B_X5_readFuncs_12 mi_fuel v P 0 (pu_rd (mi_st B 8 P 0 y) v a 0 (-1)) Z := by
    unfold B_X5_readFuncs
    rw [r1, pu_b2E, if_pos ya, pu_letE, pu_rdso (by omega)]
  rw [ha]
  have X1 : pu_X1 Z v n T (mi_st B 8 P 0 y) := h1.st fun q j i z => by rw [pu_st, if_neg (by omega)]
  have Bo : ∀ (q : Nat) (j i : Int), ¬ (q = 8 ∧ j = P) → mi_st B 8 P 0 y q j i = B q j i := fun q j i z => by rw [pu_st, if_neg (by omega)]
  have B8 : mi_st B 8 P 0 y 8 P 0 = y := pu_st_eq
  generalize mi_st B 8 P 0 y = B1 at *
  have Co : ∀ (q : Nat) (j i : Int), ¬ (q = 43 ∧ 100 ≤ i) → ¬ (q = 47 ∧ j = 0 ∧ i = 8) → ¬ (q = 48 ∧ j = 0 ∧ i = 8) → mi_st (mi_st (mi_st (mi_st (mi_st C 47 0 8 0) 48 0 8 y) 43 0 108 0) 43 0 109 0) 43 0 110 0 q j i = C q j i := fun q j i z1 z2 z3 => by rw [pu_st, if_neg (by omega), pu_st, if_neg (by omega), pu_st, if_neg (by omega), pu_st, if_neg z3, pu_st, if_neg z2]
  have C8 : mi_st (mi_st (mi_st (mi_st (mi_st C 47 0 8 0) 48 0 8 y) 43 0 108 0) 43 0 109 0) 43 0 110 0 43 0 108 = 0 := by rw [pu_st, if_neg (by omega), pu_st, if_neg (by omega), pu_st_eq]
  have C9 : mi_st (mi_st (mi_st (mi_st (mi_st C 47 0 8 0) 48 0 8 y) 43 0 108 0) 43 0 109 0) 43 0 110 0 43 0 109 = 0 := by rw [pu_st, if_neg (by omega), pu_st_eq]
  have C10 : mi_st (mi_st (mi_st (mi_st (mi_st C 47 0 8 0) 48 0 8 y) 43 0 108 0) 43 0 109 0) 43 0 110 0 43 0 110 = 0 := by rw [pu_st_eq]
  have C47 : mi_st (mi_st (mi_st (mi_st (mi_st C 47 0 8 0) 48 0 8 y) 43 0 108 0) 43 0 109 0) 43 0 110 0 47 0 8 = 0 := by rw [pu_st, if_neg (by omega), pu_st, if_neg (by omega), pu_st, if_neg (by omega), pu_st, if_neg (by omega), pu_st_eq]
  have C48 : mi_st (mi_st (mi_st (mi_st (mi_st C 47 0 8 0) 48 0 8 y) 43 0 108 0) 43 0 109 0) 43 0 110 0 48 0 8 = y := by rw [pu_st, if_neg (by omega), pu_st, if_neg (by omega), pu_st, if_neg (by omega), pu_st_eq]
  generalize mi_st (mi_st (mi_st (mi_st (mi_st C 47 0 8 0) 48 0 8 y) 43 0 108 0) 43 0 109 0) 43 0 110 0 = C1 at *
  have F1 : pu_PF (Z.2 6) (Z.2 7) (Z.2 23) P ca Z Z B B1 C C1 := ⟨fun _ _ _ _ _ _ _ _ => rfl, fun q j i _ _ _ z _ => Bo q j i z, fun _ _ _ _ => rfl, Int.le_refl _, Int.le_refl _, Int.le_refl _, fun q j i z1 z2 z3 z4 z5 => Co q j i z1 z3 z4⟩
  have toB : ∀ (c x : Int), pu_C Z B c C1 x → pu_C Z B1 c C1 x := fun c x h => by
    obtain ⟨q1, q2, q3, q4, q5, q6, q7⟩ := h
    exact ⟨q1, q2, q3, by rw [Bo _ _ _ (by omega)]; exact q4, q5, q6, fun i p q => (q7 i p q).k rfl (fun j => Bo _ _ _ (by omega)) (fun _ => rfl)⟩
  have S : pu_PS Z B1 P ca C1 0 := by
    refine ⟨p0, pP, a0, aA, l1, ?_, fun f x1 x2 x3 => ?_, toB _ _ (cc 2 C1 108 (by decide) (by decide) (by decide) C8), toB _ _ (cc 3 C1 109 (by decide) (by decide) (by decide) C9), toB _ _ (cc 4 C1 110 (by decide) (by decide) (by decide) C10), by rw [B8, C48], by rw [C48]; exact ya⟩
    · rw [C47]
      exact pu_bits.z.k fun i _ _ => by unfold pu_lkg; rw [lf]; rfl
    · rw [lf] at x3; omega
  have a1 : a ≤ pu_nx (pu_bl T) n a := pu_nx_le
  have a2 : pu_nx (pu_bl T) n a ≤ n := pu_nx_ge hy.2
  have al : pu_nx (pu_bl T) n (pu_nx (pu_bl T) n a) = pu_nx (pu_bl T) n a := pu_nx_nx hy.2
  have e0 : B1 0 0 0 = B 0 0 0 := Bo _ _ _ (by omega)
  have e1 : B1 0 0 1 = B 0 0 1 := Bo _ _ _ (by omega)
  by_cases c : pu_wc T n (pu_nx (pu_bl T) n a) = pu_kw 34
  · obtain ⟨Z2, B2, C2, c1, c2, k, w, s1, s2, O⟩ := pu_funcs_l (N6 := Z.2 6) (N7 := Z.2 7) (N23 := Z.2 23) mi_fuel Z B1 C1 a 0 X1 (F1.x2 h2) zb cl z6 z7 z23 (Int.le_refl _) (Int.le_refl _) (Int.le_refl _) S (by decide) (by decide) hy.1 hy.2 (by omega) (fun _ => c)
    obtain ⟨Z', B', C', d1, d2, k', w', t1, t2, O2⟩ := pu_ends O X1 (F1.x2 h2) cl z6 z7 z23 (Int.le_refl _) (Int.le_refl _) (Int.le_refl _)
    have s3 : B_X11_readsPatch_86 mi_fuel 0 (pu_rm C1 (pu_nx (pu_bl T) n a) 0 (-1)) = B_X11_readsPatch_86 mi_fuel 0 (pu_rm C1 a 0 (-1)) := by
      rw [pu_fuelE]
      unfold B_X11_readsPatch_86 B_X11_fine
      rw [pu_rm6, pu_rm6, if_neg (show ¬ ((0 : Int) ≠ 0) by decide), pu_biE, pu_biE, if_neg (show ¬ ((1 : Int) = 0) by decide), if_neg (show ¬ ((1 : Int) = 0) by decide), pu_wordHE (F1.x2 h2) (by omega) a2, pu_wordHE (F1.x2 h2) hy.1 hy.2, al]
    have q0 := O2.c0
    have q1 := O2.c1
    rw [s1, pu_bwE, mi_req_t (O.f.cl cl), t1, if_pos c, s3, s2, t2]
    exact ⟨Z', B', C', d1, d2, k', w', rfl, rfl, ⟨O2.b1, O2.b2, F1.tr O2.f, by omega, by omega, O2.zb, O2.k4, O2.ok⟩⟩
  · have s1 : B_X5_readFuncs_12 mi_fuel v P 0 (pu_rd B1 v a 0 (-1)) Z = some (pu_rd B1 v (pu_nx (pu_bl T) n a) 1 (pu_nx (pu_bl T) n a), Z) := by
      rw [pu_fuelE]
      unfold B_X5_readFuncs_12
      rw [if_neg (by decide), pu_rd3, if_neg (show ¬ ((0 : Int) ≠ 0) by decide), pu_skipE X1 _ a hy.1 hy.2 (by omega), pu_biE, pu_passWE X1 (w := 34) (pu_gwE 34 (by decide)) (by omega) a2, al, pu_rd2, if_neg (show ¬ (pu_wc T n (pu_nx (pu_bl T) n a) = pu_kw 34) from c), pu_b2E, if_neg (show ¬ ((0 : Int) ≠ 0) by decide), if_neg (show ¬ ((0 : Int) ≠ 0) by decide), pu_failE, pu_biE, pu_fd0]
    have O1 : pu_fO (Z.2 6) (Z.2 7) (Z.2 23) P ca Z Z B1 B1 C1 C1 n 0 (pu_nx (pu_bl T) n a) (pu_nx (pu_bl T) n a) 1 (pu_nx (pu_bl T) n a) := ⟨⟨by omega, a2⟩, ⟨by omega, a2⟩, pu_PF.rf, by omega, by omega, zb, by decide, fun z => absurd z (by decide)⟩
    obtain ⟨Z', B', C', d1, d2, k', w', t1, t2, O2⟩ := pu_ends O1 X1 (F1.x2 h2) cl z6 z7 z23 (Int.le_refl _) (Int.le_refl _) (Int.le_refl _)
    rw [pu_145F (by decide)] at t2
    have q0 := O2.c0
    have q1 := O2.c1
    rw [s1, pu_bwE, mi_req_t cl, t1, if_neg c, t2]
    exact ⟨Z', B', C', d1, d2, k', w', rfl, rfl, ⟨O2.b1, O2.b2, F1.tr O2.f, by omega, by omega, O2.zb, O2.k4, O2.ok⟩⟩
def pu_cpd (p : Int) (C E : MiD) (k : Int) : Prop := E 43 0 (12 + 11 * p + k) = C 43 0 (100 + k) ∧ ∀ l i : Int, 0 ≤ l → l < C 43 0 (100 + k) → 0 ≤ i → i < 6 → E 46 (24 * (12 + 11 * p + k) + l) i = C 46 (24 * (100 + k) + l) i
def pu_cI (p : Int) (C E : MiD) (f : Int) : Prop := (∀ (q : Nat) (j i : Int), ¬ (q = 43 ∧ j = 0 ∧ 12 + 11 * p ≤ i ∧ i < 23 + 11 * p) → ¬ (q = 46 ∧ 24 * (12 + 11 * p) ≤ j ∧ j < 24 * (23 + 11 * p)) → ¬ (q = 51 ∧ j = p) → E q j i = C q j i) ∧ (∀ g : Int, 0 ≤ g → g < f → g < 12 → B_X11_isBit (C 47 0 p) g ≠ 0 → E 51 p g = 12 + 11 * p + C 51 8 g ∧ pu_cpd p C E (C 51 8 g))
theorem pu_cI.o {p : Int} {C E : MiD} {f : Int} (h : pu_cI p C E f) : ∀ (q : Nat) (j i : Int), ¬ (q = 43 ∧ j = 0 ∧ 12 + 11 * p ≤ i ∧ i < 23 + 11 * p) → ¬ (q = 46 ∧ 24 * (12 + 11 * p) ≤ j ∧ j < 24 * (23 + 11 * p)) → ¬ (q = 51 ∧ j = p) → E q j i = C q j i := h.1
theorem pu_cI.g {p : Int} {C E : MiD} {f : Int} (h : pu_cI p C E f) : ∀ g : Int, 0 ≤ g → g < f → g < 12 → B_X11_isBit (C 47 0 p) g ≠ 0 → E 51 p g = 12 + 11 * p + C 51 8 g ∧ pu_cpd p C E (C 51 8 g) := h.2
theorem pu_codeAtE {p k : Int} (hp : 0 ≤ p ∧ p < 8) (hk : 0 ≤ k ∧ k < 11) : B_X11_codeAt p k = 12 + 11 * p + k := by
  unfold B_X11_codeAt
  rw [pu_w (x := 11 * p) (by omega) (by omega), pu_w (x := 12 + 11 * p) (by omega) (by omega), pu_w (by omega) (by omega)]
theorem pu_cI.cp {p f k : Int} {C E F : MiD} (h : pu_cI p C E f) (hp : 0 ≤ p ∧ p < 8) (hk : 0 ≤ k ∧ k < 11) (ck : C 43 0 (100 + k) ≤ 24) (c51 : ∀ g : Int, 0 ≤ g → g < 12 → B_X11_isBit (C 47 0 p) g ≠ 0 → (0 ≤ C 51 8 g ∧ C 51 8 g < 8) ∧ C 43 0 (100 + C 51 8 g) ≤ 24) (e1 : F 43 0 (12 + 11 * p + k) = E 43 0 (100 + k)) (e2 : ∀ l i : Int, 0 ≤ l → l < E 43 0 (100 + k) → 0 ≤ i → i < 6 → F 46 (24 * (12 + 11 * p + k) + l) i = E 46 (24 * (100 + k) + l) i) (e3 : ∀ (q : Nat) (j i : Int), ¬ (q = 43 ∧ j = 0 ∧ i = 12 + 11 * p + k) → ¬ (q = 46 ∧ 24 * (12 + 11 * p + k) ≤ j ∧ j < 24 * (12 + 11 * p + k) + 24) → F q j i = E q j i) : pu_cI p C F f ∧ pu_cpd p C F k ∧ ∀ k' : Int, 0 ≤ k' → k' < 11 → C 43 0 (100 + k') ≤ 24 → pu_cpd p C E k' → pu_cpd p C F k' := by
  have s43 : E 43 0 (100 + k) = C 43 0 (100 + k) := h.o _ _ _ (by omega) (by omega) (by omega)
  have new : pu_cpd p C F k := ⟨e1.trans s43, fun l i a b c d => (e2 l i a (by rw [s43]; exact b) c d).trans (h.o _ _ _ (by omega) (by omega) (by omega))⟩
  have old : ∀ k' : Int, 0 ≤ k' → k' < 11 → C 43 0 (100 + k') ≤ 24 → pu_cpd p C E k' → pu_cpd p C F k' := fun k' a b d q => by
    by_cases c : k' = k
    · subst c; exact new
    · exact ⟨(e3 _ _ _ (by omega) (by omega)).trans q.1, fun l i x y z u => (e3 _ _ _ (by omega) (by omega)).trans (q.2 l i x y z u)⟩
  refine ⟨⟨fun q j i a b c => (e3 q j i (by omega) (by omega)).trans (h.o q j i a b c), fun g a b c d => ?_⟩, new, old⟩
  obtain ⟨x, y⟩ := h.g g a b c d
  have z := c51 g a c d
  exact ⟨(e3 _ _ _ (by omega) (by omega)).trans x, old _ (by omega) (by omega) z.2 y⟩
theorem pu_111 {p : Int} {C : MiD} (hp : 0 ≤ p ∧ p < 8) (c51 : ∀ g : Int, 0 ≤ g → g < 12 → B_X11_isBit (C 47 0 p) g ≠ 0 → (0 ≤ C 51 8 g ∧ C 51 8 g < 8) ∧ C 43 0 (100 + C 51 8 g) ≤ 24) : ∀ (n : Nat) (f : Int) (E : MiD), pu_cI p C E f → 0 ≤ f → f ≤ 12 → 12 - f < n → ∃ F, B_X11_patch_111 n p f E = B_X11_patch_192 mi_fuel p 8 F ∧ pu_cI p C F 12
  | 0, f, E, h, h1, h2, h3 => by omega
  | n + 1, f, E, h, h1, h2, h3 => by
    unfold B_X11_patch_111
    by_cases c : 12 ≤ f
    · rw [if_pos c]
      exact ⟨E, rfl, h.o, fun g a b => h.g g a (by omega)⟩
    · have e47 : E 47 0 p = C 47 0 p := h.o _ _ _ (by omega) (by omega) (by omega)
      have e51 : E 51 8 f = C 51 8 f := h.o _ _ _ (by omega) (by omega) (by omega)
      rw [if_neg c, if_pos (by omega), e47, pu_w (x := f + 1) (by omega) (by omega)]
      by_cases d : B_X11_isBit (C 47 0 p) f = 0
      · rw [if_neg (fun z => z d)]
        exact pu_111 hp c51 n (f + 1) E ⟨h.o, fun g a b x y => h.g g a (by
          by_cases u : g = f
          · subst u; exact absurd d y
          · omega) x y⟩ (by omega) (by omega) (by omega)
      · have z := c51 f h1 (by omega) d
        have s43 : E 43 0 (100 + C 51 8 f) = C 43 0 (100 + C 51 8 f) := h.o _ _ _ (by omega) (by omega) (by omega)
        obtain ⟨F, f1, f2, f3, f4⟩ := pu_ccE (x := 100 + C 51 8 f) (y := 12 + 11 * p + C 51 8 f) (D := E) (by omega) (by omega) (by omega) (by rw [s43]; exact z.2)
        obtain ⟨g1, g2, g3⟩ := h.cp (F := F) hp (k := C 51 8 f) ⟨z.1.1, by omega⟩ z.2 c51 f2 f3 f4
        have s51 : F 51 8 f = C 51 8 f := g1.o _ _ _ (by omega) (by omega) (by omega)
        rw [if_pos d, if_pos (by omega), e51, pu_w (x := 100 + C 51 8 f) (by omega) (by omega), pu_codeAtE hp (by omega), f1, pu_biE, pu_letE, s51, pu_codeAtE hp (by omega)]
        refine pu_111 hp c51 n (f + 1) _ ⟨fun q j i a b x => by rw [pu_st, if_neg (by omega)]; exact g1.o q j i a b x, fun g a b x y => ?_⟩ (by omega) (by omega) (by omega)
        have cpd : ∀ k : Int, pu_cpd p C F k → pu_cpd p C (mi_st F 51 p f (12 + 11 * p + C 51 8 f)) k := fun k q => ⟨by rw [pu_st, if_neg (by omega)]; exact q.1, fun l i a b c d => by rw [pu_st, if_neg (by omega)]; exact q.2 l i a b c d⟩
        by_cases u : g = f
        · subst u
          exact ⟨pu_st_eq, cpd _ g2⟩
        · obtain ⟨q1, q2⟩ := g1.g g a (by omega) x y
          exact ⟨by rw [pu_st, if_neg (by omega)]; exact q1, cpd _ q2⟩
theorem pu_192 {p : Int} {C : MiD} (hp : 0 ≤ p ∧ p < 8) (c51 : ∀ g : Int, 0 ≤ g → g < 12 → B_X11_isBit (C 47 0 p) g ≠ 0 → (0 ≤ C 51 8 g ∧ C 51 8 g < 8) ∧ C 43 0 (100 + C 51 8 g) ≤ 24) (c8 : ∀ k : Int, 8 ≤ k → k < 11 → C 43 0 (100 + k) ≤ 24) : ∀ (n : Nat) (k : Int) (E : MiD), pu_cI p C E 12 → (∀ k' : Int, 8 ≤ k' → k' < k → pu_cpd p C E k') → 8 ≤ k → k ≤ 11 → 11 - k < n → ∃ F, B_X11_patch_192 n p k E = mi_b2 (B_X11_ends p (mi_st F 40 0 11 (mi_w (F 40 0 11 + 1)))) (fun y3 D4 => some (y3, D4)) ∧ pu_cI p C F 12 ∧ ∀ k' : Int, 8 ≤ k' → k' < 11 → pu_cpd p C F k'
  | 0, k, E, h, h4, h1, h2, h3 => by omega
  | n + 1, k, E, h, h4, h1, h2, h3 => by
    unfold B_X11_patch_192
    by_cases c : 10 < k
    · rw [if_pos c, pu_letE]
      exact ⟨E, rfl, h, fun k' a b => h4 k' a (by omega)⟩
    · have s43 : E 43 0 (100 + k) = C 43 0 (100 + k) := h.o _ _ _ (by omega) (by omega) (by omega)
      obtain ⟨F, f1, f2, f3, f4⟩ := pu_ccE (x := 100 + k) (y := 12 + 11 * p + k) (D := E) (by omega) (by omega) (by omega) (by rw [s43]; exact c8 k h1 (by omega))
      obtain ⟨g1, g2, g3⟩ := h.cp (F := F) hp (k := k) ⟨by omega, by omega⟩ (c8 k h1 (by omega)) c51 f2 f3 f4
      rw [if_neg c, pu_w (x := 100 + k) (by omega) (by omega), pu_codeAtE hp (by omega), f1, pu_biE, pu_w (x := k + 1) (by omega) (by omega)]
      exact pu_192 hp c51 c8 n (k + 1) F g1 (fun k' a b => by
        by_cases u : k' = k
        · subst u; exact g2
        · exact g3 k' (by omega) (by omega) (c8 k' a (by omega)) (h4 k' a (by omega))) (by omega) (by omega) (by omega)
