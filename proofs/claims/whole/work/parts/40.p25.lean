theorem pu_rkT : ∀ r ∈ List.range 68, 40 ≤ r → mi_rk r < 9 := by decide +kernel
theorem pu_rs_cw {Z : MiZ} {D dd : MiD} {K k0 k1 : Int} (h : pu_RI 68 K Z D dd k0 k1) : mi_cw mi_s2 Z := by
  refine ⟨fun r a b => ?_, fun r a => ?_⟩
  · have : ¬ (40 ≤ r ∧ r ≤ 67) := by unfold mi_s2 at a; simpa using a
    rw [h.ou r (by omega)]
    exact pu_sn0 b
  · by_cases c : 40 ≤ r ∧ r ≤ 67
    · have := pu_rkT r (List.mem_range.mpr (by omega)) c.1
      omega
    · exact h.ou r (by omega)
theorem pu_rs_ML {Z : MiZ} {D dd : MiD} {k0 k1 : Int} (h : pu_RI 68 28 Z D dd k0 k1) : ML Z :=
  ⟨fun k a => h.lk k (by unfold pu_lkf; omega) (by omega), h.m44 (by decide), h.m45 (by decide), h.m50 (by decide), h.m54 (by decide), h.m56 (by decide), h.m58 (by decide), h.m61 (by decide), h.m62 (by decide)⟩
def pu_d2 : MiD := fun q j i => if q = 59 ∧ 0 ≤ j ∧ j ≤ 6 ∧ i = 2 then -1 else if q = 52 ∧ j = 0 ∧ 0 ≤ i ∧ i ≤ 60 then 12 else if q = 40 ∧ j = 0 ∧ i = 5 then -1 else if q = 65 ∧ j = 0 ∧ (i = 1 ∨ i = 2) then -1 else 0
theorem pu_dd2E : ∀ (q : Nat) (j i : Int), (if q = 59 ∧ 0 ≤ j ∧ j ≤ 6 ∧ i = 2 then -1 else if q = 52 ∧ j = 0 ∧ 0 ≤ i ∧ i ≤ 60 then 12 else pu_dd2 q j i) = pu_d2 q j i := fun q j i => by
  unfold pu_dd2 pu_dd1 pu_dd0 pu_d2
  unfold mi_st
  grind (splits := 40)
theorem pu_LL0 {G : MiD} (hG : ∀ (q : Nat) (j i : Int), q ≠ 0 → G q j i = pu_d2 q j i) : pu_LL pu_Z1 (pu_DF 1 12 60 6) G := by
  have g : ∀ (q : Nat) (j i : Int), q ≠ 0 → q ≠ 59 → q ≠ 52 → q ≠ 40 → q ≠ 65 → G q j i = 0 := fun q j i a b c d e => by
    rw [hG q j i a]; unfold pu_d2; rw [if_neg (fun z => b z.1), if_neg (fun z => c z.1), if_neg (fun z => d z.1), if_neg (fun z => e z.1)]
  have g52 : ∀ r : Int, 0 ≤ r → r ≤ 60 → G 52 0 r = 12 := fun r a b => by
    rw [hG _ _ _ (by decide)]; unfold pu_d2; rw [if_neg (fun z => absurd z.1 (by decide)), if_pos ⟨rfl, rfl, a, b⟩]
  have g59 : ∀ t i : Int, i ≠ 2 → G 59 t i = 0 := fun t i a => by
    rw [hG _ _ _ (by decide)]; unfold pu_d2; rw [if_neg (fun z => a z.2.2.2), if_neg (fun z => absurd z.1 (by decide)), if_neg (fun z => absurd z.1 (by decide)), if_neg (fun z => absurd z.1 (by decide))]
  have g592 : ∀ t : Int, 0 ≤ t → t ≤ 6 → G 59 t 2 = -1 := fun t a b => by
    rw [hG _ _ _ (by decide)]; unfold pu_d2; rw [if_pos ⟨rfl, a, b, rfl⟩]
  have g40 : ∀ i : Int, i ≠ 5 → G 40 0 i = 0 := fun i a => by
    rw [hG _ _ _ (by decide)]; unfold pu_d2; rw [if_neg (fun z => absurd z.1 (by decide)), if_neg (fun z => absurd z.1 (by decide)), if_neg (fun z => a z.2.2), if_neg (fun z => absurd z.1 (by decide))]
  have g405 : G 40 0 5 = -1 := by rw [hG _ _ _ (by decide)]; rfl
  have g65 : ∀ i : Int, i ≠ 1 → i ≠ 2 → G 65 0 i = 0 := fun i a b => by
    rw [hG _ _ _ (by decide)]; unfold pu_d2; rw [if_neg (fun z => absurd z.1 (by decide)), if_neg (fun z => absurd z.1 (by decide)), if_neg (fun z => absurd z.1 (by decide)), if_neg (fun z => by omega)]
  have g651 : G 65 0 1 = -1 := by rw [hG _ _ _ (by decide)]; rfl
  have g652 : G 65 0 2 = -1 := by rw [hG _ _ _ (by decide)]; rfl
  have d : ∀ (q : Nat) (j i : Int), q ≠ 0 → q ≠ 1 → q ≠ 2 → q ≠ 3 → q ≠ 5 → pu_DF 1 12 60 6 q j i = 0 := fun q j i a b c d e => by
    unfold pu_DF; rw [if_neg a, if_neg b, if_neg c, if_neg d, if_neg e]
  have d2 : ∀ i : Int, i ≠ 8 → pu_DF 1 12 60 6 2 0 i = 0 := fun i a => by
    unfold pu_DF; rw [if_neg (by decide), if_neg (by decide), if_pos rfl, if_neg (fun z => a z.2.2)]
  have d28 : pu_DF 1 12 60 6 2 0 8 = -1 := rfl
  have d3 : ∀ x : Int, 0 ≤ x → x < 120 → pu_DF 1 12 60 6 3 x 0 = 12 ∧ pu_DF 1 12 60 6 3 x 1 = 0 := fun x a b => by
    unfold pu_DF
    exact ⟨by rw [if_neg (by decide), if_neg (by decide), if_neg (by decide), if_pos rfl, if_pos ⟨a, by omega, rfl⟩], by rw [if_neg (by decide), if_neg (by decide), if_neg (by decide), if_pos rfl, if_neg (fun z => absurd z.2.2 (by decide))]⟩
  have d5 : ∀ x : Int, 0 ≤ x → x < 14 → pu_DF 1 12 60 6 5 x 0 = -1 ∧ pu_DF 1 12 60 6 5 x 1 = 0 := fun x a b => by
    unfold pu_DF
    exact ⟨by rw [if_neg (by decide), if_neg (by decide), if_neg (by decide), if_neg (by decide), if_pos rfl, if_pos ⟨a, by omega, rfl⟩], by rw [if_neg (by decide), if_neg (by decide), if_neg (by decide), if_neg (by decide), if_pos rfl, if_neg (fun z => absurd z.2.2 (by decide))]⟩
  have d1 : ∀ i : Int, i ≠ 2 → pu_DF 1 12 60 6 1 0 i = 0 := fun i a => by
    unfold pu_DF; rw [if_neg (by decide), if_pos rfl, if_neg (fun z => a z.2)]
  have d12 : pu_DF 1 12 60 6 1 0 2 = -1 := rfl
  have zF : ∀ (q : Nat) (j i : Int), q ≠ 1 → pu_Z1.1 q j i = pu_ZF 1 12 60 6 0 q j i := fun q j i h => pu_Z1o (by omega)
  have z11 : ∀ f : Int, 0 ≤ f → f < 12 → pu_Z1.1 11 0 f = f := fun f a b => by
    rw [zF _ _ _ (by decide)]; unfold pu_ZF; simp; omega
  have z6 : ∀ c : Int, 0 ≤ c → c < 24 → pu_Z1.1 6 c 0 = c := fun f a b => by
    rw [zF _ _ _ (by decide)]; unfold pu_ZF; simp; omega
  have z12 : ∀ p : Int, pu_Z1.1 12 0 p = -1 := fun p => by
    rw [zF _ _ _ (by decide)]; rfl
  generalize pu_DF 1 12 60 6 = D at *
  have K : ∀ r : Int, 0 ≤ r → r < 60 → pu_K G r := fun r a b => by
    unfold pu_K
    rw [g52 r a (by omega), g 53 _ _ (by decide) (by decide) (by decide) (by decide) (by decide)]
    refine ⟨by decide, by decide, by decide, by decide, fun p x y => ?_⟩
    rw [g 55 _ _ (by decide) (by decide) (by decide) (by decide) (by decide), g 57 _ _ (by decide) (by decide) (by decide) (by decide) (by decide)]
    refine ⟨by decide, by decide, fun _ => rfl, fun z => absurd z (by decide)⟩
  refine ⟨⟨⟨⟨fun dd m a b c e => ⟨⟨?_, ?_, fun p x y => ⟨?_, ?_⟩⟩, ?_⟩, fun dd m a b c e z => ?_⟩, ⟨?_, ?_, fun f a b => ?_, fun p a b => ?_, fun p a b => ?_⟩, fun t a b => ?_, ?_⟩, ?_, fun p f a b => ?_⟩, pu_Z1zb, pu_Z1cl, pu_Z1cw, by decide, by decide, by decide, by decide, by decide, by decide⟩
  · have hb := pu_rB ⟨a, b⟩ ⟨c, e⟩
    have hx : 0 ≤ pu_x 0 dd m ∧ pu_x 0 dd m < 60 := by unfold pu_x; omega
    rw [(d3 _ hx.1 (by omega)).1, g52 _ hb.1 (by omega)]
  · have hx : 0 ≤ pu_x 0 dd m ∧ pu_x 0 dd m < 60 := by unfold pu_x; omega
    rw [(d3 _ hx.1 (by omega)).2, g 53 _ _ (by decide) (by decide) (by decide) (by decide) (by decide)]
  · rw [d 17 _ _ (by decide) (by decide) (by decide) (by decide) (by decide), g 55 _ _ (by decide) (by decide) (by decide) (by decide) (by decide)]
  · rw [d 18 _ _ (by decide) (by decide) (by decide) (by decide) (by decide), g 57 _ _ (by decide) (by decide) (by decide) (by decide) (by decide)]
  · have hb := pu_rB ⟨a, b⟩ ⟨c, e⟩
    exact K _ hb.1 hb.2
  · have hb := pu_rB ⟨a, b⟩ ⟨c, e⟩
    exact g52 _ hb.1 (by omega)
  · rw [g40 _ (by decide)]; decide
  · rw [g40 _ (by decide)]; decide
  · rw [z11 f a b]
    have e43 : G 43 0 f = 0 := g 43 _ _ (by decide) (by decide) (by decide) (by decide) (by decide)
    exact ⟨a, ⟨a, by omega⟩, by rw [z6 f a (by omega)]; exact a, by rw [d 6 _ _ (by decide) (by decide) (by decide) (by decide) (by decide), e43], by omega, by omega, fun i x y => by omega⟩
  · rw [g40 _ (by decide)] at b; omega
  · rw [z12]; decide
  · have q4 : ∀ i : Int, D 4 (6 * 0 + t) i = 0 := fun i => d 4 _ _ (by decide) (by decide) (by decide) (by decide) (by decide)
    have v := d5 (6 * 0 + t + 1 + (6 * 0 + t) / 6) (by omega) (by omega)
    refine ⟨by rw [q4, g59 _ _ (by decide)], by rw [g59 _ _ (by decide)]; decide, by rw [g59 _ _ (by decide)]; decide, by rw [q4, g59 _ _ (by decide)], by rw [g59 _ _ (by decide)]; decide, by rw [g59 _ _ (by decide)]; decide, by rw [q4, g59 _ _ (by decide)], by rw [g59 _ _ (by decide)]; decide, by rw [g59 _ _ (by decide)]; decide, by rw [q4, g59 _ _ (by decide)], by rw [q4, g59 _ _ (by decide)], Or.inl (q4 _), ?_, fun e x y => ?_, fun y => ?_⟩
    · refine ⟨by rw [v.1, g592 t a (by omega)], by rw [v.2, g 60 _ _ (by decide) (by decide) (by decide) (by decide) (by decide)], by rw [g592 t a (by omega)]; decide, by rw [g592 t a (by omega)]; decide, fun _ => g 60 _ _ (by decide) (by decide) (by decide) (by decide) (by decide)⟩
    · rw [g59 _ _ (by decide)] at y; omega
    · rw [g59 _ _ (by decide)] at y; omega
  · refine ⟨by rw [d2 _ (by decide), g65 _ (by decide) (by decide)], by rw [g65 _ (by decide) (by decide)]; decide, by rw [g65 _ (by decide) (by decide)]; decide, by rw [d28, g651], by rw [g651]; decide, by rw [g651, g40 _ (by decide)]; decide, Or.inl (d2 _ (by decide)), fun z => absurd g651 z, fun _ => g652, fun t a b z => absurd g651 z, fun t a b z => g59 _ _ (by decide), by rw [d2 _ (by decide), g65 _ (by decide) (by decide)], by rw [d2 _ (by decide), g65 _ (by decide) (by decide)], by rw [d2 _ (by decide), g65 _ (by decide) (by decide)], by rw [d2 _ (by decide), g65 _ (by decide) (by decide)], ?_, fun s a b => ?_, fun s s' a b c => ?_, fun z => absurd g651 z, fun p a b => ?_⟩
    · rw [g65 _ (by decide) (by decide), g59 _ _ (by decide), g59 _ _ (by decide), g59 _ _ (by decide), g59 _ _ (by decide), g59 _ _ (by decide), g59 _ _ (by decide)]; decide
    · rw [g65 _ (by decide) (by decide)] at b; omega
    · rw [g65 _ (by decide) (by decide)] at c; omega
    · rw [d 16 _ _ (by decide) (by decide) (by decide) (by decide) (by decide), g 49 _ _ (by decide) (by decide) (by decide) (by decide) (by decide)]
  · have q41 : ∀ i : Int, G 41 0 i = 0 := fun i => g 41 _ _ (by decide) (by decide) (by decide) (by decide) (by decide)
    refine ⟨by rw [d1 _ (by decide), q41], by rw [d1 _ (by decide), q41], by rw [d1 _ (by decide), q41], by rw [d1 _ (by decide), g40 _ (by decide)], by rw [d1 _ (by decide), g40 _ (by decide)], by rw [g40 _ (by decide)]; decide, by rw [g40 _ (by decide)]; decide, by rw [d12, g405], fun i a b => ?_⟩
    rw [g40 _ (by decide)] at b; omega
  · rw [g40 _ (by decide)] at b; omega
theorem pu_whole (L : Nat) (hL : L ≤ 3072) (xs : Nat → Int32) : ∃ q, B_L_law L xs mi_i0 mi_i0 mi_i0 = some q ∧ q.1 = 1 ∧ q.2.1.1 0 0 0 + q.2.2.1.1 0 0 0 + q.2.2.2.1 0 0 0 ≤ 601024 ∧ q.2.1.1 0 0 1 + q.2.2.1.1 0 0 1 + q.2.2.2.1 0 0 1 ≤ 7293034 := by
  have fE := pu_fuelE
  obtain ⟨Z, D, i2, R⟩ := pu_init2
  have i3 := pu_226 (R.lk 16 (by unfold pu_lkf; omega) (by decide)) (R.lk 20 (by unfold pu_lkf; omega) (by decide)) (R.m58 (by decide)) mi_fuel 0 D (by decide) (by decide) (by omega)
  generalize hG : (fun (q : Nat) (j i : Int) => if q = 59 ∧ 0 ≤ j ∧ j ≤ 6 ∧ i = 2 then (-1 : Int) else if q = 52 ∧ j = 0 ∧ 0 ≤ i ∧ i ≤ 60 then 12 else D q j i) = G at i3
  have hG' : ∀ (q : Nat) (j i : Int), q ≠ 0 → G q j i = pu_d2 q j i := fun q j i a => by
    rw [← hG, ← pu_dd2E q j i]
    show (if q = 59 ∧ 0 ≤ j ∧ j ≤ 6 ∧ i = 2 then (-1 : Int) else if q = 52 ∧ j = 0 ∧ 0 ≤ i ∧ i ≤ 60 then 12 else D q j i) = _
    rw [R.dz q j i a]
  have G0 : G 0 0 0 = 2999 := by
    rw [← hG]
    show (if 0 = 59 ∧ (0 : Int) ≤ 0 ∧ (0 : Int) ≤ 6 ∧ (0 : Int) = 2 then (-1 : Int) else if 0 = 52 ∧ (0 : Int) = 0 ∧ (0 : Int) ≤ 0 ∧ (0 : Int) ≤ 60 then 12 else D 0 0 0) = _
    rw [if_neg (by decide), if_neg (by decide)]; exact R.c0
  have G1 : G 0 0 1 = 23820 := by
    rw [← hG]
    show (if 0 = 59 ∧ (0 : Int) ≤ 0 ∧ (0 : Int) ≤ 6 ∧ (1 : Int) = 2 then (-1 : Int) else if 0 = 52 ∧ (0 : Int) = 0 ∧ (0 : Int) ≤ 1 ∧ (1 : Int) ≤ 60 then 12 else D 0 0 1) = _
    rw [if_neg (by decide), if_neg (by decide)]; exact R.c1
  obtain ⟨q, q1, q2, q3, q4, q5, q6⟩ := pu_loop (xs := xs) (Z2 := Z) hL mi_fuel 0 (mi_nw mi_i0 25 1) (pu_DF 1 12 60 6) pu_Z1 G (pu_LL0 hG') (by decide) (by decide) (by omega)
  refine ⟨q, ?_, q2, ?_, ?_⟩
  · unfold B_L_law
    rw [pu_init1, pu_bwE, mi_req_t pu_Z1cw, i2, i3, pu_bwE, mi_req_t (pu_rs_cw R), mi_req_t (pu_rs_ML R)]
    exact q1
  · have m0 : (mi_nw mi_i0 25 1).1 0 0 0 = 1 := rfl
    have c0 : pu_DF 1 12 60 6 0 0 0 = 2 + 8 * (1 + 1) + 2 * (12 * 1 + 12) + 3 * (60 * 1 + 60) + 6 * (6 * 1 + 6) := rfl
    rw [q3, q6, m0, G0]
    rw [c0] at q4
    omega
  · have m0 : (mi_nw mi_i0 25 1).1 0 0 1 = 1 := rfl
    have c0 : pu_DF 1 12 60 6 0 0 1 = 509 + 118 * (1 + 1) + 26 * (12 * 1 + 12) + 22 * (60 * 1 + 60) + 53 * (6 * 1 + 6) := rfl
    rw [q3, q6, m0, G1]
    rw [c0] at q5
    omega
