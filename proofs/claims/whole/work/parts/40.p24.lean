def pu_lkf (k : Int) : Prop := k = 1 ∨ (8 ≤ k ∧ k ≤ 10) ∨ (12 ≤ k ∧ k ≤ 24) ∨ k = 27 ∨ k = 28
def pu_RI (R : Nat) (K : Int) (Z : MiZ) (D dd : MiD) (k0 k1 : Int) : Prop := (40 < R ∧ R ≤ 68) ∧ (∀ q : Nat, R ≤ q → q ≤ 67 → Z.2 q = 0) ∧ (∀ q : Nat, 40 ≤ q → q < R → 0 ≤ Z.2 q) ∧ (∀ q : Nat, q < 40 ∨ 67 < q → Z.2 q = mi_sn q) ∧ (∀ k : Int, pu_lkf k → k ≤ K → Z.1 40 0 k = 0) ∧ (44 < R → ∀ i : Int, 0 ≤ i → i < 111 → Z.1 44 0 i = i) ∧ (44 < R → ∀ x i : Int, 0 ≤ x → x < 111 → 0 ≤ i → i < 24 → Z.1 45 x i = 24 * x + i) ∧ (50 < R → ∀ i : Int, 0 ≤ i → i < 9 → Z.1 50 0 i = i) ∧ (54 < R → ∀ i : Int, 0 ≤ i → i < 61 → Z.1 54 0 i = i) ∧ (56 < R → ∀ i : Int, 0 ≤ i → i < 61 → Z.1 56 0 i = i) ∧ (58 < R → ∀ i : Int, 0 ≤ i → i < 7 → Z.1 58 0 i = i) ∧ (61 < R → ∀ i : Int, 0 ≤ i → i < 6 → Z.1 61 0 i = i) ∧ (61 < R → ∀ x i : Int, 0 ≤ x → x < 6 → 0 ≤ i → i < 10 → Z.1 62 x i = 10 * x + i) ∧ (∀ (q : Nat) (j i : Int), q ≠ 0 → D q j i = dd q j i) ∧ (D 0 0 0 = k0) ∧ (D 0 0 1 = k1)
theorem pu_RI.r0 {R : Nat} {K : Int} {Z : MiZ} {D dd : MiD} {k0 k1 : Int} (h : pu_RI R K Z D dd k0 k1) : 40 < R ∧ R ≤ 68 := h.1
theorem pu_RI.up {R : Nat} {K : Int} {Z : MiZ} {D dd : MiD} {k0 k1 : Int} (h : pu_RI R K Z D dd k0 k1) : ∀ q : Nat, R ≤ q → q ≤ 67 → Z.2 q = 0 := h.2.1
theorem pu_RI.dn {R : Nat} {K : Int} {Z : MiZ} {D dd : MiD} {k0 k1 : Int} (h : pu_RI R K Z D dd k0 k1) : ∀ q : Nat, 40 ≤ q → q < R → 0 ≤ Z.2 q := h.2.2.1
theorem pu_RI.ou {R : Nat} {K : Int} {Z : MiZ} {D dd : MiD} {k0 k1 : Int} (h : pu_RI R K Z D dd k0 k1) : ∀ q : Nat, q < 40 ∨ 67 < q → Z.2 q = mi_sn q := h.2.2.2.1
theorem pu_RI.lk {R : Nat} {K : Int} {Z : MiZ} {D dd : MiD} {k0 k1 : Int} (h : pu_RI R K Z D dd k0 k1) : ∀ k : Int, pu_lkf k → k ≤ K → Z.1 40 0 k = 0 := h.2.2.2.2.1
theorem pu_RI.m44 {R : Nat} {K : Int} {Z : MiZ} {D dd : MiD} {k0 k1 : Int} (h : pu_RI R K Z D dd k0 k1) : 44 < R → ∀ i : Int, 0 ≤ i → i < 111 → Z.1 44 0 i = i := h.2.2.2.2.2.1
theorem pu_RI.m45 {R : Nat} {K : Int} {Z : MiZ} {D dd : MiD} {k0 k1 : Int} (h : pu_RI R K Z D dd k0 k1) : 44 < R → ∀ x i : Int, 0 ≤ x → x < 111 → 0 ≤ i → i < 24 → Z.1 45 x i = 24 * x + i := h.2.2.2.2.2.2.1
theorem pu_RI.m50 {R : Nat} {K : Int} {Z : MiZ} {D dd : MiD} {k0 k1 : Int} (h : pu_RI R K Z D dd k0 k1) : 50 < R → ∀ i : Int, 0 ≤ i → i < 9 → Z.1 50 0 i = i := h.2.2.2.2.2.2.2.1
theorem pu_RI.m54 {R : Nat} {K : Int} {Z : MiZ} {D dd : MiD} {k0 k1 : Int} (h : pu_RI R K Z D dd k0 k1) : 54 < R → ∀ i : Int, 0 ≤ i → i < 61 → Z.1 54 0 i = i := h.2.2.2.2.2.2.2.2.1
theorem pu_RI.m56 {R : Nat} {K : Int} {Z : MiZ} {D dd : MiD} {k0 k1 : Int} (h : pu_RI R K Z D dd k0 k1) : 56 < R → ∀ i : Int, 0 ≤ i → i < 61 → Z.1 56 0 i = i := h.2.2.2.2.2.2.2.2.2.1
theorem pu_RI.m58 {R : Nat} {K : Int} {Z : MiZ} {D dd : MiD} {k0 k1 : Int} (h : pu_RI R K Z D dd k0 k1) : 58 < R → ∀ i : Int, 0 ≤ i → i < 7 → Z.1 58 0 i = i := h.2.2.2.2.2.2.2.2.2.2.1
theorem pu_RI.m61 {R : Nat} {K : Int} {Z : MiZ} {D dd : MiD} {k0 k1 : Int} (h : pu_RI R K Z D dd k0 k1) : 61 < R → ∀ i : Int, 0 ≤ i → i < 6 → Z.1 61 0 i = i := h.2.2.2.2.2.2.2.2.2.2.2.1
theorem pu_RI.m62 {R : Nat} {K : Int} {Z : MiZ} {D dd : MiD} {k0 k1 : Int} (h : pu_RI R K Z D dd k0 k1) : 61 < R → ∀ x i : Int, 0 ≤ x → x < 6 → 0 ≤ i → i < 10 → Z.1 62 x i = 10 * x + i := h.2.2.2.2.2.2.2.2.2.2.2.2.1
theorem pu_RI.dz {R : Nat} {K : Int} {Z : MiZ} {D dd : MiD} {k0 k1 : Int} (h : pu_RI R K Z D dd k0 k1) : ∀ (q : Nat) (j i : Int), q ≠ 0 → D q j i = dd q j i := h.2.2.2.2.2.2.2.2.2.2.2.2.2.1
theorem pu_RI.c0 {R : Nat} {K : Int} {Z : MiZ} {D dd : MiD} {k0 k1 : Int} (h : pu_RI R K Z D dd k0 k1) : D 0 0 0 = k0 := h.2.2.2.2.2.2.2.2.2.2.2.2.2.2.1
theorem pu_RI.c1 {R : Nat} {K : Int} {Z : MiZ} {D dd : MiD} {k0 k1 : Int} (h : pu_RI R K Z D dd k0 k1) : D 0 0 1 = k1 := h.2.2.2.2.2.2.2.2.2.2.2.2.2.2.2
theorem pu_RI.nn {R : Nat} {K k0 k1 : Int} {Z : MiZ} {D dd : MiD} (h : pu_RI R K Z D dd k0 k1) : ∀ t : Nat, 0 ≤ Z.2 t := fun t => by
  by_cases a : t < 40 ∨ 67 < t
  · rw [h.ou t a]
    unfold mi_sn
    repeat' split
    all_goals omega
  · by_cases b : t < R
    · exact h.dn t (by omega) b
    · rw [h.up t (by omega) (by omega)]; exact Int.le_refl _
def pu_V (Z : MiZ) (r : Nat) (k : Int) : MiZ := (mi_st (pu_gZ Z r).1 40 0 k 0, (pu_gZ Z r).2)
theorem pu_rA {γ : Type} {Z : MiZ} {D : MiD} {r n : Nat} {k : Int} {F : MiD → MiZ → Option γ} (h : Z.2 r = 0) (hr : r ≠ 0) : (if 0 ≤ Z.2 r then mi_nl D Z r n (fun D' Z' => mi_let (mi_st Z'.1 40 0 k (Z.2 r), Z'.2) fun Z4 => F D' Z4) else none) = F (pu_gD D r 0 n) (pu_V Z r k) := by
  rw [h, if_pos (by decide), pu_nlE, pu_gDE hr, pu_letE, h]
  rfl
theorem pu_RI.A {r : Nat} {K k0 k1 : Int} {Z : MiZ} {D dd : MiD} (h : pu_RI r K Z D dd k0 k1) {n : Int} {k : Int} (hr : r ≤ 67) (h44 : r ≠ 44 ∧ r ≠ 45 ∧ r ≠ 50 ∧ r ≠ 54 ∧ r ≠ 56 ∧ r ≠ 58 ∧ r ≠ 61 ∧ r ≠ 62) (hk : ∀ x : Int, pu_lkf x → x ≤ k → x ≤ K ∨ x = k) (hd : ∀ i : Int, dd r 0 i = 0) : pu_RI (r + 1) k (pu_V Z r k) (pu_gD D r 0 n) dd (k0 + 1) (k1 + n) := by
  have r0 := h.r0
  have z2 : ∀ q : Nat, (pu_V Z r k).2 q = if q = r then 1 else Z.2 q := fun q => by
    show (if q = r then Z.2 r + 1 else Z.2 q) = _
    rw [h.up r (Nat.le_refl _) hr]
    rfl
  have zo : ∀ (q : Nat) (j i : Int), q ≠ 40 → q ≠ r → (pu_V Z r k).1 q j i = Z.1 q j i := fun q j i a b => by
    show mi_st (pu_gZ Z r).1 40 0 k 0 q j i = _
    rw [pu_st, if_neg (fun z => a z.1), pu_gZo (fun z => b z.1)]
  refine ⟨by omega, fun q a b => ?_, fun q a b => ?_, fun q a => ?_, fun x a b => ?_, fun a i b c => ?_, fun a x i b c d e => ?_, fun a i b c => ?_, fun a i b c => ?_, fun a i b c => ?_, fun a i b c => ?_, fun a i b c => ?_, fun a x i b c d e => ?_, fun q j i a => ?_, ?_, ?_⟩
  · rw [z2, if_neg (by omega)]; exact h.up q (by omega) b
  · rw [z2]
    by_cases c : q = r
    · rw [if_pos c]; decide
    · rw [if_neg c]; exact h.dn q a (by omega)
  · rw [z2, if_neg (by omega)]; exact h.ou q a
  · show mi_st (pu_gZ Z r).1 40 0 k 0 40 0 x = 0
    rw [pu_st]
    rcases hk x a b with c | c
    · by_cases d : x = k
      · rw [if_pos ⟨rfl, rfl, d⟩]
      · rw [if_neg (by omega), pu_gZo (by omega)]; exact h.lk x a c
    · rw [if_pos ⟨rfl, rfl, c⟩]
  · rw [zo _ _ _ (by omega) (by omega)]; exact h.m44 (by omega) i b c
  · rw [zo _ _ _ (by omega) (by omega)]; exact h.m45 (by omega) x i b c d e
  · rw [zo _ _ _ (by omega) (by omega)]; exact h.m50 (by omega) i b c
  · rw [zo _ _ _ (by omega) (by omega)]; exact h.m54 (by omega) i b c
  · rw [zo _ _ _ (by omega) (by omega)]; exact h.m56 (by omega) i b c
  · rw [zo _ _ _ (by omega) (by omega)]; exact h.m58 (by omega) i b c
  · rw [zo _ _ _ (by omega) (by omega)]; exact h.m61 (by omega) i b c
  · rw [zo _ _ _ (by omega) (by omega)]; exact h.m62 (by omega) x i b c d e
  · by_cases c : q = r ∧ j = 0
    · unfold pu_gD
      rw [if_pos c, c.1, c.2, hd]
    · rw [pu_gDo c (by omega)]; exact h.dz q j i a
  · rw [(pu_gD0 (by omega)).1, h.c0]
  · rw [(pu_gD0 (by omega)).2, h.c1]
theorem pu_mbE {β : Type} {M : MiM} {f : MiD → MiZ → β} : mi_mb M f = f M.1 M.2 := rfl
def pu_V2 (Z : MiZ) (r r2 : Nat) (N k : Int) : MiZ := (mi_st (pu_m2Z Z r r2 0 0 N).1 40 0 k 0, (pu_m2Z Z r r2 0 0 N).2)
theorem pw_rB {γ : Type} {Z : MiZ} {D : MiD} {r r2 N : Nat} {n k : Int} {F : MiD → MiZ → Option γ} (h : Z.2 r = 0) (h' : Z.2 r2 = 0) (hr : r ≠ 0 ∧ r2 ≠ 0) (hrr : r ≠ r2) (nn : ∀ t : Nat, 0 ≤ Z.2 t) : (mi_req (∀ t, 0 ≤ Z.2 t) (mi_mb ((mi_mkN (fun M => mi_nw M r2 n) r r2 N) (D, Z)) fun D' Z' => mi_let (mi_st Z'.1 40 0 k (Z.2 r), Z'.2) fun Z4 => F D' Z4)) = F (pu_m2D D r r2 0 0 N n N) (pu_V2 Z r r2 N k) := by
  rw [mi_req_t nn, pu_mk2 hr hrr h h', pu_mbE, pu_letE, h]
  rfl
theorem pu_RI.B {r r2 : Nat} {K k0 k1 : Int} {Z : MiZ} {D dd : MiD} (h : pu_RI r K Z D dd k0 k1) {N n : Int} {k : Int} (hrn : (r = 50 ∧ r2 = 51 ∧ N = 9) ∨ (r = 54 ∧ r2 = 55 ∧ N = 61) ∨ (r = 56 ∧ r2 = 57 ∧ N = 61) ∨ (r = 58 ∧ r2 = 59 ∧ N = 7)) (hk : ∀ x : Int, pu_lkf x → x ≤ k → x ≤ K ∨ x = k) (hd : ∀ j i : Int, dd r j i = 0 ∧ dd r2 j i = 0) : pu_RI (r + 2) k (pu_V2 Z r r2 N k) (pu_m2D D r r2 0 0 N n N) dd (k0 + 1 + N) (k1 + N + n * N) := by
  have r0 := h.r0
  have z2 : ∀ q : Nat, (pu_V2 Z r r2 N k).2 q = if q = r then 1 else if q = r2 then N else Z.2 q := fun q => by
    show (if q = r then (0 : Int) + 1 else if q = r2 then 0 + N else Z.2 q) = _
    rw [show (0 : Int) + 1 = 1 from rfl, Int.zero_add]
  have zo : ∀ (q : Nat) (j i : Int), q ≠ 40 → q ≠ r → q ≠ r2 → (pu_V2 Z r r2 N k).1 q j i = Z.1 q j i := fun q j i a b c => by
    show (if q = 40 ∧ j = 0 ∧ i = k then (0 : Int) else if q = r ∧ j = 0 then (if 0 ≤ i ∧ i < N then 0 + i else -1) else if q = r2 ∧ 0 ≤ j ∧ j < 0 + N then -1 else Z.1 q j i) = _
    rw [if_neg (fun z => a z.1), if_neg (fun z => b z.1), if_neg (fun z => c z.1)]
  have zr : ∀ i : Int, 0 ≤ i → i < N → (pu_V2 Z r r2 N k).1 r 0 i = i := fun i a b => by
    show (if r = 40 ∧ (0 : Int) = 0 ∧ i = k then (0 : Int) else if r = r ∧ (0 : Int) = 0 then (if 0 ≤ i ∧ i < N then 0 + i else -1) else if r = r2 ∧ (0 : Int) ≤ 0 ∧ 0 < 0 + N then -1 else Z.1 r 0 i) = _
    rw [if_neg (by omega), if_pos ⟨rfl, rfl⟩, if_pos ⟨a, b⟩]
    omega
  refine ⟨by omega, fun q a b => ?_, fun q a b => ?_, fun q a => ?_, fun x a b => ?_, fun a i b c => ?_, fun a x i b c d e => ?_, fun a i b c => ?_, fun a i b c => ?_, fun a i b c => ?_, fun a i b c => ?_, fun a i b c => ?_, fun a x i b c d e => ?_, fun q j i a => ?_, ?_, ?_⟩
  · rw [z2, if_neg (by omega), if_neg (by omega)]; exact h.up q (by omega) b
  · rw [z2]
    by_cases c : q = r
    · rw [if_pos c]; decide
    · rw [if_neg c]
      by_cases d : q = r2
      · rw [if_pos d]; omega
      · rw [if_neg d]; exact h.dn q a (by omega)
  · rw [z2, if_neg (by omega), if_neg (by omega)]; exact h.ou q a
  · show mi_st (pu_m2Z Z r r2 0 0 N).1 40 0 k 0 40 0 x = 0
    rw [pu_st]
    by_cases d : x = k
    · rw [if_pos ⟨rfl, rfl, d⟩]
    · rw [if_neg (by omega)]
      show (if 40 = r ∧ (0 : Int) = 0 then _ else if 40 = r2 ∧ (0 : Int) ≤ 0 ∧ 0 < 0 + N then _ else Z.1 40 0 x) = 0
      rw [if_neg (by omega), if_neg (by omega)]
      exact h.lk x a (by rcases hk x a b with c | c <;> omega)
  · rw [zo _ _ _ (by omega) (by omega) (by omega)]; exact h.m44 (by omega) i b c
  · rw [zo _ _ _ (by omega) (by omega) (by omega)]; exact h.m45 (by omega) x i b c d e
  · by_cases f : r = 50
    · have := zr i b (by omega)
      rw [f] at this
      exact f ▸ this
    · rw [zo _ _ _ (by omega) (by omega) (by omega)]; exact h.m50 (by omega) i b c
  · by_cases f : r = 54
    · have := zr i b (by omega)
      rw [f] at this
      exact f ▸ this
    · rw [zo _ _ _ (by omega) (by omega) (by omega)]; exact h.m54 (by omega) i b c
  · by_cases f : r = 56
    · have := zr i b (by omega)
      rw [f] at this
      exact f ▸ this
    · rw [zo _ _ _ (by omega) (by omega) (by omega)]; exact h.m56 (by omega) i b c
  · by_cases f : r = 58
    · have := zr i b (by omega)
      rw [f] at this
      exact f ▸ this
    · rw [zo _ _ _ (by omega) (by omega) (by omega)]; exact h.m58 (by omega) i b c
  · rw [zo _ _ _ (by omega) (by omega) (by omega)]; exact h.m61 (by omega) i b c
  · rw [zo _ _ _ (by omega) (by omega) (by omega)]; exact h.m62 (by omega) x i b c d e
  · unfold pu_m2D
    by_cases c : q = r ∧ j = 0
    · rw [if_pos c, c.1, (hd _ _).1]
    · rw [if_neg c]
      by_cases d : q = r2 ∧ 0 ≤ j ∧ j < 0 + N
      · rw [if_pos d, d.1, (hd _ _).2]
      · rw [if_neg d, if_neg (by omega), if_neg (by omega)]; exact h.dz q j i a
  · unfold pu_m2D
    rw [if_neg (by omega), if_neg (by omega), if_pos ⟨rfl, rfl, rfl⟩, h.c0]
  · unfold pu_m2D
    rw [if_neg (by omega), if_neg (by omega), if_neg (by omega), if_pos ⟨rfl, rfl, rfl⟩, h.c1]
def pu_V3 (Z : MiZ) (r r2 r3 : Nat) (N n k : Int) : MiZ := (mi_st (pu_m3Z Z r r2 r3 n N).1 40 0 k 0, (pu_m3Z Z r r2 r3 n N).2)
theorem pu_rC {γ : Type} {Z : MiZ} {D : MiD} {r r2 r3 N n : Nat} {m k : Int} {F : MiD → MiZ → Option γ} (h : Z.2 r = 0) (h' : Z.2 r2 = 0) (h'' : Z.2 r3 = 0) (hr : r ≠ 0 ∧ r2 ≠ 0 ∧ r3 ≠ 0) (hrr : r ≠ r2 ∧ r ≠ r3 ∧ r2 ≠ r3) (nn : ∀ t : Nat, 0 ≤ Z.2 t) : (mi_req (∀ t, 0 ≤ Z.2 t) (mi_mb ((mi_mkN (mi_mkN (fun M => mi_nw M r3 m) r2 r3 n) r r2 N) (D, Z)) fun D' Z' => mi_let (mi_st Z'.1 40 0 k (Z.2 r), Z'.2) fun Z4 => F D' Z4)) = F (pu_m3D D r r2 r3 N n m N) (pu_V3 Z r r2 r3 N n k) := by
  rw [mi_req_t nn, pu_mk3 hr hrr h h' h'', pu_mbE, pu_letE, h]
  rfl
theorem pu_RI.C {r r2 r3 : Nat} {K k0 k1 : Int} {Z : MiZ} {D dd : MiD} (h : pu_RI r K Z D dd k0 k1) {N n m : Int} {k : Int} (hrn : (r = 44 ∧ r2 = 45 ∧ r3 = 46 ∧ N = 111 ∧ n = 24) ∨ (r = 61 ∧ r2 = 62 ∧ r3 = 63 ∧ N = 6 ∧ n = 10)) (hk : ∀ x : Int, pu_lkf x → x ≤ k → x ≤ K ∨ x = k) (hd : ∀ j i : Int, dd r j i = 0 ∧ dd r2 j i = 0 ∧ dd r3 j i = 0) : pu_RI (r + 3) k (pu_V3 Z r r2 r3 N n k) (pu_m3D D r r2 r3 N n m N) dd (k0 + 1 + (1 + n) * N) (k1 + N + (n + m * n) * N) := by
  have r0 := h.r0
  have z2 : ∀ q : Nat, (pu_V3 Z r r2 r3 N n k).2 q = if q = r then 1 else if q = r2 then N else if q = r3 then n * N else Z.2 q := fun q => rfl
  have p1 : 0 ≤ n * N := by rcases hrn with ⟨-, -, -, rfl, rfl⟩ | ⟨-, -, -, rfl, rfl⟩ <;> decide
  have zo : ∀ (q : Nat) (j i : Int), q ≠ 40 → q ≠ r → q ≠ r2 → q ≠ r3 → (pu_V3 Z r r2 r3 N n k).1 q j i = Z.1 q j i := fun q j i a b c d => by
    show (if q = 40 ∧ j = 0 ∧ i = k then (0 : Int) else if q = r ∧ j = 0 then (if 0 ≤ i ∧ i < N then i else -1) else if q = r2 ∧ 0 ≤ j ∧ j < N then (if 0 ≤ i ∧ i < n then n * j + i else -1) else if q = r3 ∧ 0 ≤ j ∧ j < n * N then -1 else Z.1 q j i) = _
    rw [if_neg (fun z => a z.1), if_neg (fun z => b z.1), if_neg (fun z => c z.1), if_neg (fun z => d z.1)]
  have zr : ∀ i : Int, 0 ≤ i → i < N → (pu_V3 Z r r2 r3 N n k).1 r 0 i = i := fun i a b => by
    show (if r = 40 ∧ (0 : Int) = 0 ∧ i = k then (0 : Int) else if r = r ∧ (0 : Int) = 0 then (if 0 ≤ i ∧ i < N then i else -1) else _) = _
    rw [if_neg (by omega), if_pos ⟨rfl, rfl⟩, if_pos ⟨a, b⟩]
  have zr2 : ∀ x i : Int, 0 ≤ x → x < N → 0 ≤ i → i < n → (pu_V3 Z r r2 r3 N n k).1 r2 x i = n * x + i := fun x i a b c d => by
    show (if r2 = 40 ∧ x = 0 ∧ i = k then (0 : Int) else if r2 = r ∧ x = 0 then (if 0 ≤ i ∧ i < N then i else -1) else if r2 = r2 ∧ 0 ≤ x ∧ x < N then (if 0 ≤ i ∧ i < n then n * x + i else -1) else _) = _
    rw [if_neg (by omega), if_neg (by omega), if_pos ⟨rfl, a, b⟩, if_pos ⟨c, d⟩]
  refine ⟨by omega, fun q a b => ?_, fun q a b => ?_, fun q a => ?_, fun x a b => ?_, fun a i b c => ?_, fun a x i b c d e => ?_, fun a i b c => ?_, fun a i b c => ?_, fun a i b c => ?_, fun a i b c => ?_, fun a i b c => ?_, fun a x i b c d e => ?_, fun q j i a => ?_, ?_, ?_⟩
  · rw [z2, if_neg (by omega), if_neg (by omega), if_neg (by omega)]; exact h.up q (by omega) b
  · rw [z2]
    by_cases c : q = r
    · rw [if_pos c]; decide
    · rw [if_neg c]
      by_cases d : q = r2
      · rw [if_pos d]; omega
      · rw [if_neg d]
        by_cases e : q = r3
        · rw [if_pos e]; exact p1
        · rw [if_neg e]; exact h.dn q a (by omega)
  · rw [z2, if_neg (by omega), if_neg (by omega), if_neg (by omega)]; exact h.ou q a
  · show mi_st (pu_m3Z Z r r2 r3 n N).1 40 0 k 0 40 0 x = 0
    rw [pu_st]
    by_cases d : x = k
    · rw [if_pos ⟨rfl, rfl, d⟩]
    · rw [if_neg (by omega)]
      show (if 40 = r ∧ (0 : Int) = 0 then _ else if 40 = r2 ∧ (0 : Int) ≤ 0 ∧ 0 < N then _ else if 40 = r3 ∧ (0 : Int) ≤ 0 ∧ 0 < n * N then _ else Z.1 40 0 x) = 0
      rw [if_neg (by omega), if_neg (by omega), if_neg (by omega)]
      exact h.lk x a (by rcases hk x a b with c | c <;> omega)
  · by_cases f : r = 44
    · have := zr i b (by omega)
      rw [f] at this
      exact f ▸ this
    · rw [zo _ _ _ (by omega) (by omega) (by omega) (by omega)]; exact h.m44 (by omega) i b c
  · by_cases f : r2 = 45
    · have := zr2 x i b (by omega) d (by omega)
      rw [show n = 24 by omega] at this
      rw [show n = 24 by omega]
      exact f ▸ this
    · rw [zo _ _ _ (by omega) (by omega) (by omega) (by omega)]; exact h.m45 (by omega) x i b c d e
  · rw [zo _ _ _ (by omega) (by omega) (by omega) (by omega)]; exact h.m50 (by omega) i b c
  · rw [zo _ _ _ (by omega) (by omega) (by omega) (by omega)]; exact h.m54 (by omega) i b c
  · rw [zo _ _ _ (by omega) (by omega) (by omega) (by omega)]; exact h.m56 (by omega) i b c
  · rw [zo _ _ _ (by omega) (by omega) (by omega) (by omega)]; exact h.m58 (by omega) i b c
  · by_cases f : r = 61
    · have := zr i b (by omega)
      rw [f] at this
      exact f ▸ this
    · rw [zo _ _ _ (by omega) (by omega) (by omega) (by omega)]; exact h.m61 (by omega) i b c
  · by_cases f : r2 = 62
    · have := zr2 x i b (by omega) d (by omega)
      rw [show n = 10 by omega] at this
      rw [show n = 10 by omega]
      exact f ▸ this
    · rw [zo _ _ _ (by omega) (by omega) (by omega) (by omega)]; exact h.m62 (by omega) x i b c d e
  · unfold pu_m3D
    by_cases c : q = r ∧ j = 0
    · rw [if_pos c, c.1, (hd _ _).1]
    · rw [if_neg c]
      by_cases d : q = r2 ∧ 0 ≤ j ∧ j < N
      · rw [if_pos d, d.1, (hd _ _).2.1]
      · rw [if_neg d]
        by_cases e : q = r3 ∧ 0 ≤ j ∧ j < n * N
        · rw [if_pos e, e.1, (hd _ _).2.2]
        · rw [if_neg e, if_neg (by omega), if_neg (by omega)]; exact h.dz q j i a
  · unfold pu_m3D
    rw [if_neg (by omega), if_neg (by omega), if_neg (by omega), if_pos ⟨rfl, rfl, rfl⟩, h.c0]
  · unfold pu_m3D
    rw [if_neg (by omega), if_neg (by omega), if_neg (by omega), if_neg (by omega), if_pos ⟨rfl, rfl, rfl⟩, h.c1]
theorem pu_248 {Z : MiZ} (h20 : Z.1 40 0 20 = 0) (h58 : ∀ i : Int, 0 ≤ i → i < 7 → Z.1 58 0 i = i) : ∀ (f : Nat) (v : Int) (D : MiD), 0 ≤ v → v ≤ 7 → 7 - v < f → B_X11_init_248 f v D Z = some ((fun q j i => if q = 59 ∧ v ≤ j ∧ j ≤ 6 ∧ i = 2 then -1 else D q j i), Z)
  | 0, v, D, h1, h2, h3 => by omega
  | f + 1, v, D, h1, h2, h3 => by
    unfold B_X11_init_248
    by_cases c : 6 < v
    · rw [if_pos c]
      congr 2
      funext q j i
      rw [if_neg (by omega)]
    · rw [if_neg c, h20, if_pos (by decide), if_pos ⟨h1, by omega⟩, h58 v h1 (by omega), if_pos h1, pu_letE, pu_w (by omega) (by omega), pu_248 h20 h58 f (v + 1) _ (by omega) (by omega) (by omega)]
      congr 2
      funext q j i
      unfold mi_st
      grind (splits := 20)
theorem pu_226 {Z : MiZ} (h16 : Z.1 40 0 16 = 0) (h20 : Z.1 40 0 20 = 0) (h58 : ∀ i : Int, 0 ≤ i → i < 7 → Z.1 58 0 i = i) : ∀ (f : Nat) (v : Int) (D : MiD), 0 ≤ v → v ≤ 61 → 61 - v < f → B_X11_init_226 f v D Z = some ((fun q j i => if q = 59 ∧ 0 ≤ j ∧ j ≤ 6 ∧ i = 2 then -1 else if q = 52 ∧ j = 0 ∧ v ≤ i ∧ i ≤ 60 then 12 else D q j i), Z)
  | 0, v, D, h1, h2, h3 => by omega
  | f + 1, v, D, h1, h2, h3 => by
    have fE := pu_fuelE
    unfold B_X11_init_226
    by_cases c : 60 < v
    · rw [if_pos c, pu_248 h20 h58 mi_fuel 0 D (by decide) (by decide) (by omega)]
      congr 2
      funext q j i
      grind (splits := 20)
    · rw [if_neg c, h16, if_pos (by decide), if_pos ⟨h1, by omega⟩, pu_letE, pu_w (by omega) (by omega), pu_226 h16 h20 h58 f (v + 1) _ (by omega) (by omega) (by omega)]
      congr 2
      funext q j i
      unfold mi_st
      grind (splits := 20)
theorem pu_RI.sD {R : Nat} {K k0 k1 : Int} {Z : MiZ} {D dd : MiD} (h : pu_RI R K Z D dd k0 k1) {r : Nat} {j i v : Int} (hr : r ≠ 0) : pu_RI R K Z (mi_st D r j i v) (mi_st dd r j i v) k0 k1 :=
  ⟨h.r0, h.up, h.dn, h.ou, h.lk, h.m44, h.m45, h.m50, h.m54, h.m56, h.m58, h.m61, h.m62, fun q j' i' a => by
    rw [pu_st, pu_st]
    by_cases c : q = r ∧ j' = j ∧ i' = i
    · rw [if_pos c, if_pos c]
    · rw [if_neg c, if_neg c]; exact h.dz q j' i' a, by rw [pu_st, if_neg (by omega)]; exact h.c0, by rw [pu_st, if_neg (by omega)]; exact h.c1⟩
def pu_dd0 : MiD := fun _ _ _ => 0
def pu_dd1 : MiD := mi_st pu_dd0 40 0 5 (-1)
def pu_dd2 : MiD := mi_st (mi_st (mi_st (mi_st (mi_st (mi_st (mi_st (mi_st pu_dd1 65 0 0 0) 65 0 1 (-1)) 65 0 2 (-1)) 65 0 3 0) 65 0 4 0) 65 0 5 0) 65 0 6 0) 65 0 7 0
theorem pu_dd1o {q : Nat} {j i : Int} (h : q ≠ 40) : pu_dd1 q j i = 0 := by
  unfold pu_dd1
  rw [pu_st, if_neg (fun z => h z.1)]
  rfl
theorem pu_dd2o {q : Nat} {j i : Int} (h : q ≠ 65) : pu_dd2 q j i = pu_dd1 q j i := by
  unfold pu_dd2
  rw [pu_st, if_neg (fun z => h z.1), pu_st, if_neg (fun z => h z.1), pu_st, if_neg (fun z => h z.1), pu_st, if_neg (fun z => h z.1), pu_st, if_neg (fun z => h z.1), pu_st, if_neg (fun z => h z.1), pu_st, if_neg (fun z => h z.1), pu_st, if_neg (fun z => h z.1)]
theorem pu_rs0 : pu_RI 41 0 (pu_gZ mi_i0.2 40) (pu_gD mi_i0.1 40 0 30) pu_dd0 1 30 := by
  have z2 : ∀ q : Nat, (pu_gZ mi_i0.2 40).2 q = if q = 40 then 1 else mi_sn q := fun q => rfl
  refine ⟨by decide, fun q a b => ?_, fun q a b => ?_, fun q a => ?_, fun x a b => ?_, fun a => absurd a (by decide), fun a => absurd a (by decide), fun a => absurd a (by decide), fun a => absurd a (by decide), fun a => absurd a (by decide), fun a => absurd a (by decide), fun a => absurd a (by decide), fun a => absurd a (by decide), fun q j i a => ?_, rfl, rfl⟩
  · rw [z2, if_neg (by omega)]
    unfold mi_sn
    rw [if_neg (by omega), if_neg (by omega), if_neg (by omega), if_neg (by omega), if_neg (by omega), if_neg (by omega), if_neg (by omega), if_neg (by omega)]
  · rw [z2, if_pos (by omega)]; decide
  · rw [z2, if_neg (by omega)]
  · unfold pu_lkf at a; omega
  · unfold pu_gD
    by_cases c : q = 40 ∧ j = 0
    · rw [if_pos c]; rfl
    · rw [if_neg c, if_neg (by omega), if_neg (by omega)]; rfl
theorem pu_rS {γ : Type} {Z : MiZ} {D : MiD} {F : MiD → MiZ → Option γ} (h : Z.2 65 = 0) : (if 0 ≤ Z.2 65 then mi_nl D Z 65 8 (fun D66 Z67 => mi_let (mi_st D66 65 (Z.2 65) 0 0) fun D69 => mi_let (mi_st D69 65 (Z.2 65) 1 (-1)) fun D70 => mi_let (mi_st D70 65 (Z.2 65) 2 (-1)) fun D71 => mi_let (mi_st D71 65 (Z.2 65) 3 0) fun D72 => mi_let (mi_st D72 65 (Z.2 65) 4 0) fun D73 => mi_let (mi_st D73 65 (Z.2 65) 5 0) fun D74 => mi_let (mi_st D74 65 (Z.2 65) 6 0) fun D75 => mi_let (mi_st D75 65 (Z.2 65) 7 0) fun D76 => mi_let (mi_st Z67.1 40 0 24 (Z.2 65), Z67.2) fun Z77 => F D76 Z77) else none) = F (mi_st (mi_st (mi_st (mi_st (mi_st (mi_st (mi_st (mi_st (pu_gD D 65 0 ((8 : Nat) : Int)) 65 0 0 0) 65 0 1 (-1)) 65 0 2 (-1)) 65 0 3 0) 65 0 4 0) 65 0 5 0) 65 0 6 0) 65 0 7 0) (pu_V Z 65 24) := by
  rw [h, if_pos (by decide), pu_nlE, pu_gDE (by decide), pu_letE, pu_letE, pu_letE, pu_letE, pu_letE, pu_letE, pu_letE, pu_letE, pu_letE, h]
  rfl
set_option maxHeartbeats 2000000 in
theorem pu_init2 : ∃ (Z : MiZ) (D : MiD), B_X11_init (mi_nw mi_i0 40 30).1 (mi_nw mi_i0 40 30).2 = B_X11_init_226 mi_fuel 0 D Z ∧ pu_RI 68 28 Z D pu_dd2 2999 23820 := by
  have e0 : mi_nw mi_i0 40 30 = (pu_gD mi_i0.1 40 0 30, pu_gZ mi_i0.2 40) := pu_gDE (D := mi_i0.1) (Z := mi_i0.2) (by decide)
  have h0 := pu_rs0
  rw [e0]
  show ∃ (Z : MiZ) (D : MiD), B_X11_init (pu_gD mi_i0.1 40 0 30) (pu_gZ mi_i0.2 40) = _ ∧ _
  generalize pu_gD mi_i0.1 40 0 30 = D0 at *
  generalize pu_gZ mi_i0.2 40 = Z0 at *
  unfold B_X11_init
  rw [pu_rA (h0.up 41 (by decide) (by decide)) (by decide)]
  have h1 := h0.A (n := ((3 : Nat) : Int)) (k := 1) (by decide) (by decide) (fun x a b => by unfold pu_lkf at a; omega) (fun _ => rfl)
  generalize pu_gD D0 41 0 ((3 : Nat) : Int) = D1 at *
  generalize pu_V Z0 41 1 = Z1 at *
  rw [pu_letE]
  have h2 : pu_RI _ _ _ _ pu_dd1 _ _ := h1.sD (r := 40) (j := 0) (i := 5) (v := -1) (by decide)
  generalize mi_st D1 40 0 5 (-1) = D2 at *
  generalize Z1 = Z2 at *
  rw [pu_rA (h2.up 42 (by decide) (by decide)) (by decide)]
  have h3 := h2.A (n := ((500 : Nat) : Int)) (k := 8) (by decide) (by decide) (fun x a b => by unfold pu_lkf at a; omega) (fun _ => pu_dd1o (by decide))
  generalize pu_gD D2 42 0 ((500 : Nat) : Int) = D3 at *
  generalize pu_V Z2 42 8 = Z3 at *
  rw [pu_rA (h3.up 43 (by decide) (by decide)) (by decide)]
  have h4 := h3.A (n := ((111 : Nat) : Int)) (k := 9) (by decide) (by decide) (fun x a b => by unfold pu_lkf at a; omega) (fun _ => pu_dd1o (by decide))
  generalize pu_gD D3 43 0 ((111 : Nat) : Int) = D4 at *
  generalize pu_V Z3 43 9 = Z4 at *
  rw [pu_rC (h4.up 44 (by decide) (by decide)) (h4.up 45 (by decide) (by decide)) (h4.up 46 (by decide) (by decide)) (by decide) (by decide) h4.nn]
  have h5 := h4.C (r2 := 45) (r3 := 46) (N := ((111 : Nat) : Int)) (n := ((24 : Nat) : Int)) (m := 6) (k := 10) (by decide) (fun x a b => by unfold pu_lkf at a; omega) (fun _ _ => ⟨pu_dd1o (by decide), pu_dd1o (by decide), pu_dd1o (by decide)⟩)
  generalize pu_m3D D4 44 45 46 ((111 : Nat) : Int) ((24 : Nat) : Int) 6 ((111 : Nat) : Int) = D5 at *
  generalize pu_V3 Z4 44 45 46 ((111 : Nat) : Int) ((24 : Nat) : Int) 10 = Z5 at *
  rw [pu_rA (h5.up 47 (by decide) (by decide)) (by decide)]
  have h6 := h5.A (n := ((9 : Nat) : Int)) (k := 12) (by decide) (by decide) (fun x a b => by unfold pu_lkf at a; omega) (fun _ => pu_dd1o (by decide))
  generalize pu_gD D5 47 0 ((9 : Nat) : Int) = D6 at *
  generalize pu_V Z5 47 12 = Z6 at *
  rw [pu_rA (h6.up 48 (by decide) (by decide)) (by decide)]
  have h7 := h6.A (n := ((9 : Nat) : Int)) (k := 13) (by decide) (by decide) (fun x a b => by unfold pu_lkf at a; omega) (fun _ => pu_dd1o (by decide))
  generalize pu_gD D6 48 0 ((9 : Nat) : Int) = D7 at *
  generalize pu_V Z6 48 13 = Z7 at *
  rw [pu_rA (h7.up 49 (by decide) (by decide)) (by decide)]
  have h8 := h7.A (n := ((8 : Nat) : Int)) (k := 14) (by decide) (by decide) (fun x a b => by unfold pu_lkf at a; omega) (fun _ => pu_dd1o (by decide))
  generalize pu_gD D7 49 0 ((8 : Nat) : Int) = D8 at *
  generalize pu_V Z7 49 14 = Z8 at *
  rw [pw_rB (h8.up 50 (by decide) (by decide)) (h8.up 51 (by decide) (by decide)) (by decide) (by decide) h8.nn]
  have h9 := h8.B (r2 := 51) (N := ((9 : Nat) : Int)) (n := 12) (k := 15) (by decide) (fun x a b => by unfold pu_lkf at a; omega) (fun _ _ => ⟨pu_dd1o (by decide), pu_dd1o (by decide)⟩)
  generalize pu_m2D D8 50 51 0 0 ((9 : Nat) : Int) 12 ((9 : Nat) : Int) = D9 at *
  generalize pu_V2 Z8 50 51 ((9 : Nat) : Int) 15 = Z9 at *
  rw [pu_rA (h9.up 52 (by decide) (by decide)) (by decide)]
  have h10 := h9.A (n := ((61 : Nat) : Int)) (k := 16) (by decide) (by decide) (fun x a b => by unfold pu_lkf at a; omega) (fun _ => pu_dd1o (by decide))
  generalize pu_gD D9 52 0 ((61 : Nat) : Int) = D10 at *
  generalize pu_V Z9 52 16 = Z10 at *
  rw [pu_rA (h10.up 53 (by decide) (by decide)) (by decide)]
  have h11 := h10.A (n := ((61 : Nat) : Int)) (k := 17) (by decide) (by decide) (fun x a b => by unfold pu_lkf at a; omega) (fun _ => pu_dd1o (by decide))
  generalize pu_gD D10 53 0 ((61 : Nat) : Int) = D11 at *
  generalize pu_V Z10 53 17 = Z11 at *
  rw [pw_rB (h11.up 54 (by decide) (by decide)) (h11.up 55 (by decide) (by decide)) (by decide) (by decide) h11.nn]
  have h12 := h11.B (r2 := 55) (N := ((61 : Nat) : Int)) (n := 9) (k := 18) (by decide) (fun x a b => by unfold pu_lkf at a; omega) (fun _ _ => ⟨pu_dd1o (by decide), pu_dd1o (by decide)⟩)
  generalize pu_m2D D11 54 55 0 0 ((61 : Nat) : Int) 9 ((61 : Nat) : Int) = D12 at *
  generalize pu_V2 Z11 54 55 ((61 : Nat) : Int) 18 = Z12 at *
  rw [pw_rB (h12.up 56 (by decide) (by decide)) (h12.up 57 (by decide) (by decide)) (by decide) (by decide) h12.nn]
  have h13 := h12.B (r2 := 57) (N := ((61 : Nat) : Int)) (n := 9) (k := 19) (by decide) (fun x a b => by unfold pu_lkf at a; omega) (fun _ _ => ⟨pu_dd1o (by decide), pu_dd1o (by decide)⟩)
  generalize pu_m2D D12 56 57 0 0 ((61 : Nat) : Int) 9 ((61 : Nat) : Int) = D13 at *
  generalize pu_V2 Z12 56 57 ((61 : Nat) : Int) 19 = Z13 at *
  rw [pw_rB (h13.up 58 (by decide) (by decide)) (h13.up 59 (by decide) (by decide)) (by decide) (by decide) h13.nn]
  have h14 := h13.B (r2 := 59) (N := ((7 : Nat) : Int)) (n := 7) (k := 20) (by decide) (fun x a b => by unfold pu_lkf at a; omega) (fun _ _ => ⟨pu_dd1o (by decide), pu_dd1o (by decide)⟩)
  generalize pu_m2D D13 58 59 0 0 ((7 : Nat) : Int) 7 ((7 : Nat) : Int) = D14 at *
  generalize pu_V2 Z13 58 59 ((7 : Nat) : Int) 20 = Z14 at *
  rw [pu_rA (h14.up 60 (by decide) (by decide)) (by decide)]
  have h15 := h14.A (n := ((7 : Nat) : Int)) (k := 21) (by decide) (by decide) (fun x a b => by unfold pu_lkf at a; omega) (fun _ => pu_dd1o (by decide))
  generalize pu_gD D14 60 0 ((7 : Nat) : Int) = D15 at *
  generalize pu_V Z14 60 21 = Z15 at *
  rw [pu_rC (h15.up 61 (by decide) (by decide)) (h15.up 62 (by decide) (by decide)) (h15.up 63 (by decide) (by decide)) (by decide) (by decide) h15.nn]
  have h16 := h15.C (r2 := 62) (r3 := 63) (N := ((6 : Nat) : Int)) (n := ((10 : Nat) : Int)) (m := 4) (k := 22) (by decide) (fun x a b => by unfold pu_lkf at a; omega) (fun _ _ => ⟨pu_dd1o (by decide), pu_dd1o (by decide), pu_dd1o (by decide)⟩)
  generalize pu_m3D D15 61 62 63 ((6 : Nat) : Int) ((10 : Nat) : Int) 4 ((6 : Nat) : Int) = D16 at *
  generalize pu_V3 Z15 61 62 63 ((6 : Nat) : Int) ((10 : Nat) : Int) 22 = Z16 at *
  rw [pu_rA (h16.up 64 (by decide) (by decide)) (by decide)]
  have h17 := h16.A (n := ((8 : Nat) : Int)) (k := 23) (by decide) (by decide) (fun x a b => by unfold pu_lkf at a; omega) (fun _ => pu_dd1o (by decide))
  generalize pu_gD D16 64 0 ((8 : Nat) : Int) = D17 at *
  generalize pu_V Z16 64 23 = Z17 at *
  rw [pu_rS (h17.up 65 (by decide) (by decide))]
  have h18a := h17.A (n := ((8 : Nat) : Int)) (k := 24) (by decide) (by decide) (fun x a b => by unfold pu_lkf at a; omega) (fun _ => pu_dd1o (by decide))
  have h18 : pu_RI _ _ _ _ pu_dd2 _ _ := (((((((h18a.sD (r := 65) (j := 0) (i := 0) (v := 0) (by decide)).sD (r := 65) (j := 0) (i := 1) (v := -1) (by decide)).sD (r := 65) (j := 0) (i := 2) (v := -1) (by decide)).sD (r := 65) (j := 0) (i := 3) (v := 0) (by decide)).sD (r := 65) (j := 0) (i := 4) (v := 0) (by decide)).sD (r := 65) (j := 0) (i := 5) (v := 0) (by decide)).sD (r := 65) (j := 0) (i := 6) (v := 0) (by decide)).sD (r := 65) (j := 0) (i := 7) (v := 0) (by decide)
  clear h18a
  generalize mi_st (mi_st (mi_st (mi_st (mi_st (mi_st (mi_st (mi_st (pu_gD D17 65 0 ((8 : Nat) : Int)) 65 0 0 0) 65 0 1 (-1)) 65 0 2 (-1)) 65 0 3 0) 65 0 4 0) 65 0 5 0) 65 0 6 0) 65 0 7 0 = D18 at *
  generalize pu_V Z17 65 24 = Z18 at *
  rw [pu_rA (h18.up 66 (by decide) (by decide)) (by decide)]
  have h19 := h18.A (n := ((2000 : Nat) : Int)) (k := 27) (by decide) (by decide) (fun x a b => by unfold pu_lkf at a; omega) (fun _ => (pu_dd2o (by decide)).trans (pu_dd1o (by decide)))
  generalize pu_gD D18 66 0 ((2000 : Nat) : Int) = D19 at *
  generalize pu_V Z18 66 27 = Z19 at *
  rw [pu_rA (h19.up 67 (by decide) (by decide)) (by decide)]
  have h20 := h19.A (n := ((547 : Nat) : Int)) (k := 28) (by decide) (by decide) (fun x a b => by unfold pu_lkf at a; omega) (fun _ => (pu_dd2o (by decide)).trans (pu_dd1o (by decide)))
  generalize pu_gD D19 67 0 ((547 : Nat) : Int) = D20 at *
  generalize pu_V Z19 67 28 = Z20 at *
  exact ⟨_, _, rfl, h20⟩
