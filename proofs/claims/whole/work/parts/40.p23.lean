def pu_m2D (D : MiD) (r r2 : Nat) (x y N n i0 : Int) : MiD := fun q j i => if q = r ∧ j = x then 0 else if q = r2 ∧ y ≤ j ∧ j < y + i0 then 0 else if q = 0 ∧ j = 0 ∧ i = 0 then D 0 0 0 + 1 + i0 else if q = 0 ∧ j = 0 ∧ i = 1 then D 0 0 1 + N + n * i0 else D q j i
def pu_m2Z (Z : MiZ) (r r2 : Nat) (x y i0 : Int) : MiZ := (fun q j i => if q = r ∧ j = x then (if 0 ≤ i ∧ i < i0 then y + i else -1) else if q = r2 ∧ y ≤ j ∧ j < y + i0 then -1 else Z.1 q j i, fun q => if q = r then x + 1 else if q = r2 then y + i0 else Z.2 q)
theorem pu_it2 {D : MiD} {Z : MiZ} {r r2 : Nat} {x y N n : Int} (h0 : r ≠ 0 ∧ r2 ≠ 0) (hr : r ≠ r2) (hx : Z.2 r = x) (hy : Z.2 r2 = y) : ∀ i : Nat, mi_itG (fun M => mi_nw M r2 n) r r2 x i (mi_nw (D, Z) r N) = (pu_m2D D r r2 x y N n i, pu_m2Z Z r r2 x y i)
  | 0 => by
    show mi_nw (D, Z) r N = _
    rw [pu_gDE h0.1, hx]
    refine Prod.ext ?_ (Prod.ext ?_ ?_)
    · funext q j i
      show pu_gD D r x N q j i = pu_m2D D r r2 x y N n ((0 : Nat) : Int) q j i
      unfold pu_gD pu_m2D
      grind (splits := 30)
    · funext q j i
      show (pu_gZ Z r).1 q j i = _
      unfold pu_gZ pu_m2Z
      grind (splits := 30)
    · funext q
      show (pu_gZ Z r).2 q = _
      unfold pu_gZ pu_m2Z
      grind (splits := 30)
  | i + 1 => by
    show mi_pL (mi_nw (mi_itG (fun M => mi_nw M r2 n) r r2 x i (mi_nw (D, Z) r N)) r2 n) r x i _ = _
    rw [pu_it2 h0 hr hx hy i, pu_gDE h0.2]
    have e : (pu_m2Z Z r r2 x y i).2 r2 = y + i := by
      show (if r2 = r then x + 1 else if r2 = r2 then y + i else Z.2 r2) = _
      rw [if_neg (fun z => hr z.symm), if_pos rfl]
    unfold mi_pL
    show (pu_gD (pu_m2D D r r2 x y N n i) r2 ((pu_m2Z Z r r2 x y i).2 r2) n, (mi_st (pu_gZ (pu_m2Z Z r r2 x y i) r2).1 r x i ((pu_m2Z Z r r2 x y i).2 r2), (pu_gZ (pu_m2Z Z r r2 x y i) r2).2)) = _
    rw [e]
    refine Prod.ext ?_ (Prod.ext ?_ ?_)
    · funext q j t
      show pu_gD (pu_m2D D r r2 x y N n i) r2 (y + i) n q j t = pu_m2D D r r2 x y N n ((i + 1 : Nat) : Int) q j t
      have d : n * ((i + 1 : Nat) : Int) = n * (i : Int) + n := by rw [Int.natCast_add, Int.mul_add]; simp
      unfold pu_gD pu_m2D
      rw [d]
      generalize n * (i : Int) = u
      grind (splits := 40)
    · funext q j t
      show mi_st (pu_gZ (pu_m2Z Z r r2 x y i) r2).1 r x i (y + i) q j t = (pu_m2Z Z r r2 x y ((i + 1 : Nat) : Int)).1 q j t
      unfold mi_st pu_gZ
      rw [e]
      unfold pu_m2Z
      grind (splits := 40)
    · funext q
      show (if q = r2 then (pu_m2Z Z r r2 x y i).2 r2 + 1 else (pu_m2Z Z r r2 x y i).2 q) = (pu_m2Z Z r r2 x y ((i + 1 : Nat) : Int)).2 q
      rw [e]
      unfold pu_m2Z
      grind (splits := 40)
theorem pu_mk2 {D : MiD} {Z : MiZ} {r r2 N : Nat} {x y n : Int} (h0 : r ≠ 0 ∧ r2 ≠ 0) (hr : r ≠ r2) (hx : Z.2 r = x) (hy : Z.2 r2 = y) : mi_mkN (fun M => mi_nw M r2 n) r r2 N (D, Z) = (pu_m2D D r r2 x y N n N, pu_m2Z Z r r2 x y N) := by
  unfold mi_mkN
  show mi_itG (fun M => mi_nw M r2 n) r r2 (Z.2 r) N (mi_nw (D, Z) r N) = _
  rw [hx]
  exact pu_it2 h0 hr hx hy N
def pu_m3D (D : MiD) (r r2 r3 : Nat) (N n m i0 : Int) : MiD := fun q j i => if q = r ∧ j = 0 then 0 else if q = r2 ∧ 0 ≤ j ∧ j < i0 then 0 else if q = r3 ∧ 0 ≤ j ∧ j < n * i0 then 0 else if q = 0 ∧ j = 0 ∧ i = 0 then D 0 0 0 + 1 + (1 + n) * i0 else if q = 0 ∧ j = 0 ∧ i = 1 then D 0 0 1 + N + (n + m * n) * i0 else D q j i
def pu_m3Z (Z : MiZ) (r r2 r3 : Nat) (n i0 : Int) : MiZ := (fun q j i => if q = r ∧ j = 0 then (if 0 ≤ i ∧ i < i0 then i else -1) else if q = r2 ∧ 0 ≤ j ∧ j < i0 then (if 0 ≤ i ∧ i < n then n * j + i else -1) else if q = r3 ∧ 0 ≤ j ∧ j < n * i0 then -1 else Z.1 q j i, fun q => if q = r then 1 else if q = r2 then i0 else if q = r3 then n * i0 else Z.2 q)
theorem pu_it3 {D : MiD} {Z : MiZ} {r r2 r3 n : Nat} {N m : Int} (h0 : r ≠ 0 ∧ r2 ≠ 0 ∧ r3 ≠ 0) (hr : r ≠ r2 ∧ r ≠ r3 ∧ r2 ≠ r3) (hx : Z.2 r = 0) (hy : Z.2 r2 = 0) (hz : Z.2 r3 = 0) : ∀ i : Nat, mi_itG (mi_mkN (fun M => mi_nw M r3 m) r2 r3 n) r r2 0 i (mi_nw (D, Z) r N) = (pu_m3D D r r2 r3 N n m i, pu_m3Z Z r r2 r3 n i)
  | 0 => by
    show mi_nw (D, Z) r N = _
    rw [pu_gDE h0.1, hx]
    refine Prod.ext ?_ (Prod.ext ?_ ?_)
    · funext q j i
      show pu_gD D r 0 N q j i = pu_m3D D r r2 r3 N n m ((0 : Nat) : Int) q j i
      unfold pu_gD pu_m3D
      rw [show ((0 : Nat) : Int) = 0 from rfl, Int.mul_zero, Int.mul_zero, Int.mul_zero]
      grind (splits := 30)
    · funext q j i
      show (pu_gZ Z r).1 q j i = _
      unfold pu_gZ pu_m3Z
      rw [show ((0 : Nat) : Int) = 0 from rfl, Int.mul_zero]
      grind (splits := 30)
    · funext q
      show (pu_gZ Z r).2 q = _
      unfold pu_gZ pu_m3Z
      rw [show ((0 : Nat) : Int) = 0 from rfl, Int.mul_zero]
      grind (splits := 30)
  | i + 1 => by
    show mi_pL (mi_mkN (fun M => mi_nw M r3 m) r2 r3 n (mi_itG (mi_mkN (fun M => mi_nw M r3 m) r2 r3 n) r r2 0 i (mi_nw (D, Z) r N))) r 0 i _ = _
    rw [pu_it3 h0 hr hx hy hz i]
    have e2 : (pu_m3Z Z r r2 r3 n i).2 r2 = i := by
      show (if r2 = r then 1 else if r2 = r2 then (i : Int) else if r2 = r3 then (n : Int) * i else Z.2 r2) = _
      rw [if_neg (fun z => hr.1 z.symm), if_pos rfl]
    have e3 : (pu_m3Z Z r r2 r3 n i).2 r3 = n * i := by
      show (if r3 = r then 1 else if r3 = r2 then (i : Int) else if r3 = r3 then (n : Int) * i else Z.2 r3) = _
      rw [if_neg (fun z => hr.2.1 z.symm), if_neg (fun z => hr.2.2 z.symm), if_pos rfl]
    rw [pu_mk2 ⟨h0.2.1, h0.2.2⟩ hr.2.2 e2 e3]
    unfold mi_pL
    show (pu_m2D (pu_m3D D r r2 r3 N n m i) r2 r3 i (n * i) n m n, (mi_st (pu_m2Z (pu_m3Z Z r r2 r3 n i) r2 r3 i (n * i) n).1 r 0 i ((pu_m3Z Z r r2 r3 n i).2 r2), (pu_m2Z (pu_m3Z Z r r2 r3 n i) r2 r3 i (n * i) n).2)) = _
    rw [e2]
    have d1 : (n : Int) * ((i + 1 : Nat) : Int) = (n : Int) * (i : Int) + n := by rw [Int.natCast_add, Int.mul_add]; simp
    have n0 : 0 ≤ (n : Int) := by omega
    refine Prod.ext ?_ (Prod.ext ?_ ?_)
    · funext q j t
      have d2 : (1 + (n : Int)) * ((i + 1 : Nat) : Int) = (1 + (n : Int)) * (i : Int) + (1 + n) := by rw [Int.natCast_add, Int.mul_add]; simp
      have d3 : ((n : Int) + m * n) * ((i + 1 : Nat) : Int) = ((n : Int) + m * n) * (i : Int) + (n + m * n) := by rw [Int.natCast_add, Int.mul_add]; simp
      have p1 : 0 ≤ (n : Int) * (i : Int) := Int.mul_nonneg n0 (by omega)
      show pu_m2D (pu_m3D D r r2 r3 N n m i) r2 r3 i (n * i) n m n q j t = pu_m3D D r r2 r3 N n m ((i + 1 : Nat) : Int) q j t
      unfold pu_m2D pu_m3D
      rw [d1, d2, d3]
      generalize (1 + (n : Int)) * (i : Int) = u2
      generalize ((n : Int) + m * n) * (i : Int) = u3
      generalize (n : Int) * (i : Int) = u1 at *
      generalize m * (n : Int) = u4
      grind (splits := 60)
    · funext q j t
      have p1 : 0 ≤ (n : Int) * (i : Int) := Int.mul_nonneg n0 (by omega)
      show mi_st (pu_m2Z (pu_m3Z Z r r2 r3 n i) r2 r3 i (n * i) n).1 r 0 i i q j t = (pu_m3Z Z r r2 r3 n ((i + 1 : Nat) : Int)).1 q j t
      by_cases c : q = r2 ∧ j = i
      · obtain ⟨rfl, rfl⟩ := c
        unfold mi_st pu_m2Z pu_m3Z
        rw [if_neg (fun z => hr.1 z.1.symm)]
        show (if q = q ∧ (i : Int) = i then (if 0 ≤ t ∧ t < (n : Int) then (n : Int) * i + t else -1) else _) = (if q = r ∧ (i : Int) = 0 then _ else if q = q ∧ 0 ≤ (i : Int) ∧ (i : Int) < ((i + 1 : Nat) : Int) then (if 0 ≤ t ∧ t < (n : Int) then (n : Int) * i + t else -1) else _)
        rw [if_pos (show q = q ∧ (i : Int) = i from ⟨rfl, rfl⟩), if_neg (show ¬ (q = r ∧ (i : Int) = 0) from fun z => hr.1 z.1.symm), if_pos (show q = q ∧ 0 ≤ (i : Int) ∧ (i : Int) < ((i + 1 : Nat) : Int) from ⟨rfl, by omega, by omega⟩)]
      · unfold mi_st pu_m2Z pu_m3Z
        show (if q = r ∧ j = 0 ∧ t = i then (i : Int) else (if q = r2 ∧ j = (i : Int) then (if 0 ≤ t ∧ t < (n : Int) then (n : Int) * i + t else -1) else if q = r3 ∧ (n : Int) * i ≤ j ∧ j < (n : Int) * i + n then -1 else (if q = r ∧ j = 0 then (if 0 ≤ t ∧ t < (i : Int) then t else -1) else if q = r2 ∧ 0 ≤ j ∧ j < (i : Int) then (if 0 ≤ t ∧ t < (n : Int) then (n : Int) * j + t else -1) else if q = r3 ∧ 0 ≤ j ∧ j < (n : Int) * i then -1 else Z.1 q j t))) = (if q = r ∧ j = 0 then (if 0 ≤ t ∧ t < ((i + 1 : Nat) : Int) then t else -1) else if q = r2 ∧ 0 ≤ j ∧ j < ((i + 1 : Nat) : Int) then (if 0 ≤ t ∧ t < (n : Int) then (n : Int) * j + t else -1) else if q = r3 ∧ 0 ≤ j ∧ j < (n : Int) * ((i + 1 : Nat) : Int) then -1 else Z.1 q j t)
        rw [d1]
        generalize (n : Int) * (i : Int) = u1 at *
        generalize (n : Int) * j = u2
        grind (splits := 60)
    · funext q
      show (if q = r2 then (i : Int) + 1 else if q = r3 then (n : Int) * i + n else (if q = r then 1 else if q = r2 then (i : Int) else if q = r3 then (n : Int) * i else Z.2 q)) = (if q = r then 1 else if q = r2 then ((i + 1 : Nat) : Int) else if q = r3 then (n : Int) * ((i + 1 : Nat) : Int) else Z.2 q)
      rw [d1]
      generalize (n : Int) * (i : Int) = u1
      grind (splits := 40)
theorem pu_mk3 {D : MiD} {Z : MiZ} {r r2 r3 n N : Nat} {m : Int} (h0 : r ≠ 0 ∧ r2 ≠ 0 ∧ r3 ≠ 0) (hr : r ≠ r2 ∧ r ≠ r3 ∧ r2 ≠ r3) (hx : Z.2 r = 0) (hy : Z.2 r2 = 0) (hz : Z.2 r3 = 0) : mi_mkN (mi_mkN (fun M => mi_nw M r3 m) r2 r3 n) r r2 N (D, Z) = (pu_m3D D r r2 r3 N n m N, pu_m3Z Z r r2 r3 n N) := by
  show mi_itG (mi_mkN (fun M => mi_nw M r3 m) r2 r3 n) r r2 (Z.2 r) N (mi_nw (D, Z) r N) = _
  rw [hx]
  exact pu_it3 h0 hr hx hy hz N
