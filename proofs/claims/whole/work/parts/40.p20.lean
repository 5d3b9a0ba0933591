theorem pu_patch {Z : MiZ} {D1 D2 : MiD} {n : Int} (h : pu_LL Z D1 D2) : pu_qns pu_mP Z D1 D2 (B_X10_patch n D1 Z) (B_X11_patch n D2) := by
  have L := h.l
  have C := L.c
  have n0 := L.a.p.n0
  have n8 := L.a.p.n8
  have z2 : mi_st D2 40 0 0 0 40 0 2 = D2 40 0 2 := by rw [pu_st, if_neg (by omega)]
  have zp : mi_st D2 40 0 0 0 40 0 11 = D2 40 0 11 := by rw [pu_st, if_neg (by omega)]
  have e1 : B_X10_patch n D1 Z = if n < 0 then B_X10_patch_17 n D1 Z else (if D2 40 0 2 < n then B_X10_patch_17 n D1 Z else B_X10_patch_18 n 1 D1 Z) := by
    unfold B_X10_patch
    rw [C.tb]
  have e2 : B_X11_patch n D2 = if 0 ≤ n ∧ n ≤ D2 40 0 2 then B_X11_patch_23 n 0 (mi_st D2 40 0 0 0) else B_X11_patch_23 n 1 (mi_st D2 40 0 0 0) := by
    unfold B_X11_patch
    rw [pu_letE, pu_in, z2]
    by_cases c : 0 ≤ n ∧ n ≤ D2 40 0 2
    · rw [if_pos c, if_pos (show (1 : Int) ≠ 0 by decide), if_pos c]
    · rw [if_neg c, if_neg (show ¬ ((0 : Int) ≠ 0) by decide), if_neg c]
  rw [e1, e2]
  by_cases cn : 0 ≤ n ∧ n ≤ D2 40 0 2
  · rw [if_neg (by omega), if_neg (by omega), if_pos cn]
    have e3 : B_X10_patch_18 n 1 D1 Z = if 8 ≤ D2 40 0 11 then B_X10_patch_36 n 0 D1 Z else B_X10_patch_36 n 1 D1 Z := by
      unfold B_X10_patch_18
      rw [if_pos (Or.inr rfl), pu_nA1, C.pc]
    have e4 : B_X11_patch_23 n 0 (mi_st D2 40 0 0 0) = if D2 40 0 11 ≠ 8 then B_X11_patch_46 n 0 (mi_st D2 40 0 0 0) else B_X11_patch_46 n 1 (mi_st D2 40 0 0 0) := by
      unfold B_X11_patch_23
      rw [if_pos (Or.inl rfl), pu_bdg11, if_pos rfl, if_neg (show ¬ ((0 : Int) ≠ 0) by decide), zp]
    rw [e3, e4]
    by_cases cb : D2 40 0 11 = 8
    · rw [if_pos (by omega), if_neg (fun z => z cb)]
      refine pu_qns.rf (k := 2) (r := 2) (v := 0) L (by decide) rfl (by decide) ?_ ?_
      · unfold B_X10_patch_36
        rw [if_pos (Or.inl rfl), pu_nS]
      · unfold B_X11_patch_46
        rw [if_pos (Or.inr rfl), pu_bdg22, if_neg (by decide), if_neg (by decide)]
        rfl
    · rw [if_neg (by omega), if_pos cb]
      exact pu_patch_yes h cn (by omega)
  · refine pu_qns.rf (k := 1) (r := 1) (v := 0) L (by decide) rfl (by decide) ?_ ?_
    · unfold B_X10_patch_17 B_X10_patch_18
      by_cases c1 : n < 0
      · rw [if_pos c1, if_pos (Or.inl rfl), pu_nA]
      · rw [if_neg c1, if_pos (by omega), if_pos (Or.inl rfl), pu_nA]
    · unfold B_X11_patch_23
      rw [if_neg cn, if_pos (Or.inr rfl), pu_bdg11, if_neg (by decide), if_pos (by decide)]
      rfl
theorem pu_and8 (x : Int) : mi_and x 255 = x % 256 := by
  unfold mi_and
  have e : (Int32.ofInt x &&& Int32.ofInt 255).toInt = (BitVec.ofInt 32 x &&& 255#32).toInt := rfl
  rw [e]
  have h : (BitVec.ofInt 32 x &&& 255#32).toNat = (x % 256).toNat := by
    rw [BitVec.toNat_and, BitVec.toNat_ofInt]
    show _ &&& (2 ^ 8 - 1) = _
    rw [Nat.and_two_pow_sub_one_eq_mod]
    omega
  rw [BitVec.toInt_eq_toNat_of_lt (by rw [h]; omega), h]
  omega
theorem pu_b8 (x : Int) : -128 ≤ mi_b (mi_b x) ∧ mi_b (mi_b x) < 128 ∧ mi_b (mi_b x) % 256 = x % 256 := by
  unfold mi_b
  rw [Int.bmod_def, Int.bmod_def]
  repeat' split
  all_goals omega
def pu_FD (D1 D2 E G : MiD) (t : Int) : Prop := (E 1 0 1 = t) ∧ (G 40 0 2 = t) ∧ (∀ i : Int, 0 ≤ i → i < t → -128 ≤ E 10 0 i ∧ E 10 0 i < 128 ∧ G 42 0 i = E 10 0 i % 256) ∧ (∀ (q : Nat) (j i : Int), ¬ (q = 1 ∧ j = 0 ∧ i = 1) → q ≠ 10 → E q j i = D1 q j i) ∧ (∀ (q : Nat) (j i : Int), ¬ (q = 40 ∧ j = 0 ∧ i = 2) → q ≠ 42 → G q j i = D2 q j i)
theorem pu_FD.a {D1 D2 E G : MiD} {t : Int} (h : pu_FD D1 D2 E G t) : E 1 0 1 = t := h.1
theorem pu_FD.b {D1 D2 E G : MiD} {t : Int} (h : pu_FD D1 D2 E G t) : G 40 0 2 = t := h.2.1
theorem pu_FD.c {D1 D2 E G : MiD} {t : Int} (h : pu_FD D1 D2 E G t) : ∀ i : Int, 0 ≤ i → i < t → -128 ≤ E 10 0 i ∧ E 10 0 i < 128 ∧ G 42 0 i = E 10 0 i % 256 := h.2.2.1
theorem pu_FD.d {D1 D2 E G : MiD} {t : Int} (h : pu_FD D1 D2 E G t) : ∀ (q : Nat) (j i : Int), ¬ (q = 1 ∧ j = 0 ∧ i = 1) → q ≠ 10 → E q j i = D1 q j i := h.2.2.2.1
theorem pu_FD.e {D1 D2 E G : MiD} {t : Int} (h : pu_FD D1 D2 E G t) : ∀ (q : Nat) (j i : Int), ¬ (q = 40 ∧ j = 0 ∧ i = 2) → q ≠ 42 → G q j i = D2 q j i := h.2.2.2.2
theorem pu_FD.s {D1 D2 E G : MiD} {t x : Int} (h : pu_FD D1 D2 E G t) (t0 : 0 ≤ t) : pu_FD D1 D2 (mi_st (mi_st E 10 0 t (mi_b (mi_b x))) 1 0 1 (t + 1)) (mi_st (mi_st G 42 0 t (mi_and x 255)) 40 0 2 (t + 1)) (t + 1) := by
  obtain ⟨b1, b2, b3⟩ := pu_b8 x
  refine ⟨pu_st_eq, pu_st_eq, fun i a b => ?_, fun q j i a b => by rw [pu_st, if_neg a, pu_st, if_neg (by omega)]; exact h.d q j i a b, fun q j i a b => by rw [pu_st, if_neg a, pu_st, if_neg (by omega)]; exact h.e q j i a b⟩
  rw [pu_st (r' := 10), if_neg (by omega), pu_st (r' := 42), if_neg (by omega)]
  by_cases c : i = t
  · subst c
    rw [pu_st_eq, pu_st_eq, pu_and8]
    exact ⟨b1, b2, b3.symm⟩
  · rw [pu_st, if_neg (by omega), pu_st, if_neg (by omega)]
    exact h.c i a (by omega)
theorem pu_ap {D1 D2 E G : MiD} {t v s : Int} {f : Nat} (h : pu_FD D1 D2 E G t) (t0 : 0 ≤ t) (t5 : t < 500) (s0 : 0 ≤ s) (s1 : s ≤ 24) : B_X10_append_3 (f + 1) v s E = B_X10_append_3 f v (s - 8) (mi_st (mi_st E 10 0 t (mi_b (mi_b (mi_shr v s)))) 1 0 1 (t + 1)) := by
  conv => lhs; unfold B_X10_append_3
  rw [h.a, if_neg (by omega), if_neg (by omega), if_pos ⟨t0, t5⟩, pu_letE, pu_letE, pu_st (r' := 1), if_neg (by omega), h.a, pu_w (x := t + 1) (by omega) (by omega), pu_w (x := s + (-8)) (by omega) (by omega)]
  rfl
theorem pu_remF : ∀ k : Fin 20, mi_w (24 - mi_w (8 * mi_rem ((k.val : Nat) : Int) 4)) = 24 - 8 * (((k.val : Nat) : Int) % 4) := by decide +kernel
def pu_sel (v1 v2 v3 v4 v5 k : Int) : Int := if 4 ≤ k then (if 8 ≤ k then (if 12 ≤ k then (if 16 ≤ k then v5 else v4) else v3) else v2) else v1
theorem pu_fd1 {D1 D2 E G : MiD} {t v1 v2 v3 v4 v5 k : Int} {f : Nat} (h : pu_FD D1 D2 E G t) (t0 : 0 ≤ t) (t5 : t < 500) (hk : 0 ≤ k ∧ k < 20) : B_X11_feed_23 (f + 1) v1 v2 v3 v4 v5 k G = B_X11_feed_23 f v1 v2 v3 v4 v5 (k + 1) (mi_st (mi_st G 42 0 t (mi_and (mi_shr (pu_sel v1 v2 v3 v4 v5 k) (24 - 8 * (k % 4))) 255)) 40 0 2 (t + 1)) := by
  have st : ∀ s : Int, B_X11_feed_76 (B_X11_feed_23 f) v1 v2 v3 v4 v5 k s G = B_X11_feed_23 f v1 v2 v3 v4 v5 (k + 1) (mi_st (mi_st G 42 0 t (mi_and (mi_shr s (24 - 8 * (k % 4))) 255)) 40 0 2 (t + 1)) := fun s => by
    obtain ⟨m, rfl⟩ := Int.eq_ofNat_of_zero_le hk.1
    have e : mi_w (24 - mi_w (8 * mi_rem (m : Int) 4)) = 24 - 8 * ((m : Int) % 4) := pu_remF ⟨m, by omega⟩
    unfold B_X11_feed_76
    rw [h.b, if_pos ⟨t0, t5⟩, e, pu_letE, pu_letE, pu_st (r' := 40), if_neg (by omega), h.b, pu_w (x := t + 1) (by omega) (by omega), pu_w (x := (m : Int) + 1) (by omega) (by omega)]
  conv => lhs; unfold B_X11_feed_23
  rw [if_neg (by omega), st, st, st, st, st]
  unfold pu_sel
  repeat' split
  all_goals rfl
theorem pu_ap4 {D1 D2 E G : MiD} {t v1 v2 v3 v4 v5 k v : Int} {f : Nat} (h : pu_FD D1 D2 E G t) (t0 : 0 ≤ t) (t5 : t + 4 ≤ 500) (hk : k = 0 ∨ k = 4 ∨ k = 8 ∨ k = 12 ∨ k = 16) (hv : v = pu_sel v1 v2 v3 v4 v5 k) : ∃ E' G', B_X10_append v E = some E' ∧ B_X11_feed_23 (f + 1 + 1 + 1 + 1) v1 v2 v3 v4 v5 k G = B_X11_feed_23 f v1 v2 v3 v4 v5 (k + 4) G' ∧ pu_FD D1 D2 E' G' (t + 4) := by
  have s : ∀ r : Int, 0 ≤ r → r < 4 → pu_sel v1 v2 v3 v4 v5 (k + r) = v ∧ (k + r) % 4 = r := fun r a b => by
    rw [hv]
    unfold pu_sel
    constructor
    · rcases hk with rfl | rfl | rfl | rfl | rfl
      · rw [if_neg (by omega), if_neg (by omega)]
      · rw [if_pos (by omega), if_neg (by omega), if_pos (by omega), if_neg (by omega)]
      · rw [if_pos (by omega), if_pos (by omega), if_neg (by omega), if_pos (by omega), if_pos (by omega), if_neg (by omega)]
      · rw [if_pos (by omega), if_pos (by omega), if_pos (by omega), if_neg (by omega), if_pos (by omega), if_pos (by omega), if_pos (by omega), if_neg (by omega)]
      · rw [if_pos (by omega), if_pos (by omega), if_pos (by omega), if_pos (by omega), if_pos (by omega), if_pos (by omega), if_pos (by omega), if_pos (by omega)]
    · omega
  have h1 := h.s (x := mi_shr v 24) t0
  have h2 := h1.s (x := mi_shr v 16) (by omega)
  have h3 := h2.s (x := mi_shr v 8) (by omega)
  have h4 := h3.s (x := mi_shr v 0) (by omega)
  have e0 := s 0 (by decide) (by decide)
  have e1 := s 1 (by decide) (by decide)
  have e2 := s 2 (by decide) (by decide)
  have e3 := s 3 (by decide) (by decide)
  rw [show k + 0 = k by omega] at e0
  refine ⟨_, _, ?_, ?_, by rw [show t + 1 + 1 + 1 + 1 = t + 4 by omega] at h4; exact h4⟩
  · unfold B_X10_append
    rw [show mi_fuel = 3995 + 1 + 1 + 1 + 1 + 1 from rfl, pu_ap h t0 (by omega) (by decide) (by decide), show (24 - 8 : Int) = 16 by decide, pu_ap h1 (by omega) (by omega) (by decide) (by decide), show (16 - 8 : Int) = 8 by decide, pu_ap h2 (by omega) (by omega) (by decide) (by decide), show (8 - 8 : Int) = 0 by decide, pu_ap h3 (by omega) (by omega) (by decide) (by decide)]
    unfold B_X10_append_3
    rw [if_pos (by decide)]
    rw [show t + 1 + 1 + 1 + 1 = t + 4 by omega]
  · rw [pu_fd1 h t0 (by omega) (by omega), e0.1, e0.2, show (24 - 8 * 0 : Int) = 24 by decide, pu_fd1 h1 (by omega) (by omega) (by omega), e1.1, e1.2, show (24 - 8 * 1 : Int) = 16 by decide, show k + 1 + 1 = k + 2 by omega, pu_fd1 h2 (by omega) (by omega) (by omega), e2.1, e2.2, show (24 - 8 * 2 : Int) = 8 by decide, show k + 2 + 1 = k + 3 by omega, pu_fd1 h3 (by omega) (by omega) (by omega), e3.1, e3.2, show (24 - 8 * 3 : Int) = 0 by decide, show k + 3 + 1 = k + 4 by omega, show t + 1 + 1 + 1 + 1 = t + 4 by omega]
theorem pu_feed {Z : MiZ} {D1 D2 : MiD} {v1 v2 v3 v4 v5 : Int} (h : pu_L Z D1 D2) : ∃ v E G, B_X10_feed v1 v2 v3 v4 v5 D1 = some (v, E) ∧ B_X11_feed v1 v2 v3 v4 v5 D2 = some (v, G) ∧ pu_L Z E G ∧ (∀ i : Int, E 0 0 i = D1 0 0 i) ∧ ∀ i : Int, G 0 0 i = D2 0 0 i := by
  have hL := h.z
  have C := hL.c
  have t0 := C.tb0
  have t1 := C.tb1
  have e00 : ∀ i : Int, mi_st D2 40 0 0 0 0 0 i = D2 0 0 i := fun i => by rw [pu_st, if_neg (by omega)]
  unfold B_X10_feed B_X11_feed
  rw [pu_letE, C.tb]
  generalize mi_st D2 40 0 0 0 = D2 at *
  rw [pu_w (x := D2 40 0 2 + 20) (by omega) (by omega)]
  by_cases c : D2 40 0 2 + 20 ≤ 500
  · have F0 : pu_FD D1 D2 D1 D2 (D2 40 0 2) := ⟨C.tb, rfl, C.ta, fun _ _ _ _ _ => rfl, fun _ _ _ _ _ => rfl⟩
    obtain ⟨E1, G1, a1, b1, F1⟩ := pu_ap4 (f := 3980 + 1 + 1 + 1 + 1 + 1 + 1 + 1 + 1 + 1 + 1 + 1 + 1 + 1 + 1 + 1 + 1) (v1 := v1) (v2 := v2) (v3 := v3) (v4 := v4) (v5 := v5) (k := 0) (v := v1) F0 t0 (by omega) (by decide) rfl
    obtain ⟨E2, G2, a2, b2, F2⟩ := pu_ap4 (f := 3980 + 1 + 1 + 1 + 1 + 1 + 1 + 1 + 1 + 1 + 1 + 1 + 1) (v1 := v1) (v2 := v2) (v3 := v3) (v4 := v4) (v5 := v5) (k := 4) (v := v2) F1 (by omega) (by omega) (by decide) rfl
    obtain ⟨E3, G3, a3, b3, F3⟩ := pu_ap4 (f := 3980 + 1 + 1 + 1 + 1 + 1 + 1 + 1 + 1) (v1 := v1) (v2 := v2) (v3 := v3) (v4 := v4) (v5 := v5) (k := 8) (v := v3) F2 (by omega) (by omega) (by decide) rfl
    obtain ⟨E4, G4, a4, b4, F4⟩ := pu_ap4 (f := 3980 + 1 + 1 + 1 + 1) (v1 := v1) (v2 := v2) (v3 := v3) (v4 := v4) (v5 := v5) (k := 12) (v := v4) F3 (by omega) (by omega) (by decide) rfl
    obtain ⟨E5, G5, a5, b5, F5⟩ := pu_ap4 (f := 3980) (v1 := v1) (v2 := v2) (v3 := v3) (v4 := v4) (v5 := v5) (k := 16) (v := v5) F4 (by omega) (by omega) (by decide) rfl
    have en : B_X11_feed_23 3980 v1 v2 v3 v4 v5 (16 + 4) G5 = some (G5 40 0 2, G5) := by
      unfold B_X11_feed_23
      rw [if_pos (by decide)]
    rw [if_pos c, if_pos c, a1, pu_biE, a2, pu_biE, a3, pu_biE, a4, pu_biE, a5, pu_biE, F5.a, show mi_fuel = 3980 + 1 + 1 + 1 + 1 + 1 + 1 + 1 + 1 + 1 + 1 + 1 + 1 + 1 + 1 + 1 + 1 + 1 + 1 + 1 + 1 from rfl, b1, show (0 + 4 : Int) = 4 by decide, b2, show (4 + 4 : Int) = 8 by decide, b3, show (8 + 4 : Int) = 12 by decide, b4, show (12 + 4 : Int) = 16 by decide, b5, en, F5.b]
    have p1 : ∀ i : Int, i ≠ 1 → E5 1 0 i = D1 1 0 i := fun i z => F5.d _ _ _ (by omega) (by decide)
    have p2 : ∀ i : Int, i ≠ 2 → G5 40 0 i = D2 40 0 i := fun i z => F5.e _ _ _ (by omega) (by decide)
    have p41 : ∀ i : Int, G5 41 0 i = D2 41 0 i := fun i => F5.e _ _ _ (by omega) (by decide)
    refine ⟨_, E5, G5, rfl, rfl, ⟨hL.a.o (by decide) (fun q j i x y z u => F5.d q j i (by omega) u) (fun q j i x y z u w t => F5.e q j i (by omega) z), ⟨?_, ?_, ?_, ?_, ?_, ?_, ?_, ?_, fun i a b => ?_⟩, hL.m.k fun q j i z => F5.e q j i (by omega) (by omega)⟩, fun i => F5.d _ _ _ (by omega) (by decide), fun i => (F5.e _ _ _ (by omega) (by decide)).trans (e00 i)⟩
    · rw [p1 6 (by decide), p41]; exact C.r0
    · rw [p1 7 (by decide), p41]; exact C.r1
    · rw [p1 8 (by decide), p41]; exact C.r2
    · rw [p1 3 (by decide), p2 11 (by decide)]; exact C.pc
    · rw [F5.a, F5.b]
    · rw [F5.b]; omega
    · rw [F5.b]; omega
    · rw [p1 2 (by decide), p2 5 (by decide)]; exact C.fp
    · rw [F5.b] at b
      exact F5.c i a b
  · rw [if_neg c, if_neg c]
    exact ⟨_, _, _, rfl, rfl, hL, fun _ => rfl, e00⟩
