theorem pu_st_eq {D : MiD} {r : Nat} {j i v : Int} : mi_st D r j i v r j i = v := by unfold mi_st; simp
theorem pu_st {D : MiD} {r r' : Nat} {j i v j' i' : Int} : mi_st D r j i v r' j' i' = if r' = r ∧ j' = j ∧ i' = i then v else D r' j' i' := rfl
theorem pu_w {x : Int} (h1 : -2147483648 ≤ x) (h2 : x < 2147483648) : mi_w x = x := by
  unfold mi_w
  rw [Int.bmod_def]
  split <;> omega
theorem pu_wE (x : Int) : mi_w x = if x % 4294967296 < 2147483648 then x % 4294967296 else x % 4294967296 - 4294967296 := by
  unfold mi_w
  rw [Int.bmod_def]
  rfl
theorem pu_W {x : Int} (h1 : -9223372036854775808 ≤ x) (h2 : x < 9223372036854775808) : mi_W x = x := by
  unfold mi_W
  rw [Int.bmod_def]
  split <;> omega
theorem pu_wr (x : Int) : -2147483648 ≤ mi_w x ∧ mi_w x < 2147483648 := by rw [pu_wE]; split <;> omega
def pu_ok {α : Type} (o : Option α) (Q : α → Prop) : Prop := ∃ a, o = some a ∧ Q a
theorem pu_ok.some {α : Type} {a : α} {Q : α → Prop} (h : Q a) : pu_ok (some a) Q := ⟨a, rfl, h⟩
theorem pu_ok.ite {α : Type} {c : Prop} [Decidable c] {a b : Option α} {Q : α → Prop} (h : c → pu_ok a Q) (k : ¬ c → pu_ok b Q) : pu_ok (if c then a else b) Q := by
  by_cases hc : c
  · rw [if_pos hc]; exact h hc
  · rw [if_neg hc]; exact k hc
theorem pu_ok.pos {α : Type} {c : Prop} [Decidable c] {a b : Option α} {Q : α → Prop} (hc : c) (h : pu_ok a Q) : pu_ok (if c then a else b) Q := by rw [if_pos hc]; exact h
theorem pu_ok.neg {α : Type} {c : Prop} [Decidable c] {a b : Option α} {Q : α → Prop} (hc : ¬ c) (h : pu_ok b Q) : pu_ok (if c then a else b) Q := by rw [if_neg hc]; exact h
theorem pu_ok.lt {α β : Type} {t : β} {f : β → Option α} {Q : α → Prop} (h : pu_ok (f t) Q) : pu_ok (mi_let t f) Q := h
theorem pu_ok.bi {α β : Type} {o : Option β} {f : β → Option α} {Q : α → Prop} (h : pu_ok o fun b => pu_ok (f b) Q) : pu_ok (mi_bi o f) Q := by
  obtain ⟨b, rfl, h⟩ := h
  exact h
theorem pu_ok.b2 {α : Type} {o : Option (Int × MiD)} {f : Int → MiD → Option α} {Q : α → Prop} (h : pu_ok o fun b => pu_ok (f b.1 b.2) Q) : pu_ok (mi_b2 o f) Q := by
  obtain ⟨b, rfl, h⟩ := h
  exact h
theorem pu_ok.bw {α : Type} {o : Option MiM} {f : MiD → MiZ → Option α} {Q : α → Prop} (h : pu_ok o fun b => pu_ok (f b.1 b.2) Q) : pu_ok (mi_bw o f) Q := by
  obtain ⟨b, rfl, h⟩ := h
  exact h
theorem pu_ok.b3 {α : Type} {o : Option (Int × MiM)} {f : Int → MiD → MiZ → Option α} {Q : α → Prop} (h : pu_ok o fun b => pu_ok (f b.1 b.2.1 b.2.2) Q) : pu_ok (mi_b3 o f) Q := by
  obtain ⟨b, rfl, h⟩ := h
  exact h
theorem pu_ok.rq {α : Type} {c : Prop} {o : Option α} {Q : α → Prop} (hc : c) (h : pu_ok o Q) : pu_ok (mi_req c o) Q := by rw [mi_req_t hc]; exact h
theorem pu_ok.mono {α : Type} {o : Option α} {P Q : α → Prop} (h : pu_ok o P) (k : ∀ a, P a → Q a) : pu_ok o Q := by
  obtain ⟨a, e, p⟩ := h
  exact ⟨a, e, k a p⟩
theorem pu_ok.and {α : Type} {o : Option α} {P Q : α → Prop} (h : pu_ok o P) (k : pu_ok o Q) : pu_ok o (fun a => P a ∧ Q a) := by
  obtain ⟨a, e, p⟩ := h
  obtain ⟨b, e', q⟩ := k
  rw [e] at e'
  cases e'
  exact ⟨a, e, p, q⟩
theorem pu_in {a b c : Int} : B_X11_in a b c = if b ≤ a ∧ a ≤ c then 1 else 0 := by unfold B_X11_in; grind
theorem pu_within {a b : Int} : B_X10_within a b = if 0 ≤ a ∧ a < b then 1 else 0 := by unfold B_X10_within; grind
theorem pu_fuelE : mi_fuel = 3999 + 1 := rfl
theorem pu_cp {D : MiD} {r q : Nat} {x y j i : Int} : mi_cp D r x y q j i = if q = r ∧ j = y then D r x i else D q j i := rfl
def pu_blank (D : MiD) (x a : Int) : MiD := fun q j i => if q = 17 ∧ j = x ∧ a ≤ i ∧ i < 9 then (if 8 ≤ D 3 x 0 then -1 else D 3 x 0) else if q = 18 ∧ j = x ∧ a ≤ i ∧ i < 9 then 0 else D q j i
theorem pu_blank_l : ∀ (f : Nat) (x a : Int) (D : MiD), 0 ≤ x → x < 120 → 0 ≤ a → a ≤ 9 → 9 - a < f → B_X6_blankFrom_2 f x a D = some (pu_blank D x a)
  | 0, x, a, D, h1, h2, h3, h4, h5 => by omega
  | f + 1, x, a, D, h1, h2, h3, h4, h5 => by
    have hw : mi_w (a + 1) = a + 1 := pu_w (by omega) (by omega)
    unfold B_X6_blankFrom_2
    by_cases h : 9 ≤ a
    · rw [if_pos h]
      congr 1
      funext q j i
      grind [pu_blank]
    · rw [if_neg h]
      unfold B_X6_blankFrom_30 mi_let
      rw [hw]
      simp only [h1, h2, h3, show a < 9 by omega, and_self, if_true]
      rw [pu_blank_l f x (a + 1) _ h1 h2 (by omega) (by omega) (by omega), pu_blank_l f x (a + 1) _ h1 h2 (by omega) (by omega) (by omega)]
      split
      all_goals
        congr 1
        funext q j i
        grind (splits := 40) [pu_blank, mi_st]
def pu_lay (D : MiD) (x k n : Int) : MiD := fun q j i => if q = 3 ∧ j = x ∧ i = 0 then k else if q = 3 ∧ j = x ∧ i = 1 then n else if q = 17 ∧ j = x ∧ 0 ≤ i ∧ i < 9 then (if 8 ≤ k then -1 else k) else if q = 18 ∧ j = x ∧ 0 ≤ i ∧ i < 9 then 0 else D q j i
theorem pu_lay_e {D : MiD} {x k n : Int} (h1 : 0 ≤ x) (h2 : x < 120) : B_X6_lay x k n D = some (pu_lay D x k n) := by
  unfold B_X6_lay B_X6_blankFrom
  simp only [mi_let]
  rw [pu_blank_l _ _ _ _ h1 h2 (by omega) (by omega) (by decide)]
  show some _ = some _
  congr 1
  funext q j i
  grind (splits := 40) [pu_blank, pu_lay, mi_st]
def pu_emp (D : MiD) (r k n : Int) (a : Int) : MiD := fun q j i => if q = 55 ∧ j = r ∧ a ≤ i ∧ i < 9 then (if 7 < k then -1 else k) else if q = 57 ∧ j = r ∧ a ≤ i ∧ i < 9 then 0 else D q j i
theorem pu_emp_l : ∀ (f : Nat) (r k n a : Int) (D : MiD), 0 ≤ r → r < 61 → 0 ≤ a → a ≤ 9 → 9 - a < f → B_X11_empties_17 f r k a D = some (pu_emp D r k n a)
  | 0, r, k, n, a, D, h1, h2, h3, h4, h5 => by omega
  | f + 1, r, k, n, a, D, h1, h2, h3, h4, h5 => by
    have hw : mi_w (a + 1) = a + 1 := pu_w (by omega) (by omega)
    unfold B_X11_empties_17
    by_cases h : 9 ≤ a
    · rw [if_pos h]
      congr 1
      funext q j i
      grind [pu_emp]
    · rw [if_neg h]
      unfold B_X11_empties_43 mi_let
      rw [hw]
      simp only [h1, h2, h3, show a < 9 by omega, and_self, if_true]
      rw [pu_emp_l f r k n (a + 1) _ h1 h2 (by omega) (by omega) (by omega), pu_emp_l f r k n (a + 1) _ h1 h2 (by omega) (by omega) (by omega)]
      split
      all_goals
        congr 1
        funext q j i
        grind (splits := 40) [pu_emp, mi_st]
def pu_layM (D : MiD) (r k n : Int) : MiD := fun q j i => if q = 52 ∧ j = 0 ∧ i = r then k else if q = 53 ∧ j = 0 ∧ i = r then n else if q = 55 ∧ j = r ∧ 0 ≤ i ∧ i < 9 then (if 8 ≤ k then -1 else k) else if q = 57 ∧ j = r ∧ 0 ≤ i ∧ i < 9 then 0 else D q j i
theorem pu_layM_e {D : MiD} {r k n : Int} (h1 : 0 ≤ r) (h2 : r < 61) : B_X11_empties r k n D = some (pu_layM D r k n) := by
  unfold B_X11_empties
  simp only [mi_let]
  rw [if_pos ⟨h1, h2⟩, pu_emp_l _ _ _ n _ _ h1 h2 (by omega) (by omega) (by decide)]
  congr 1
  funext q j i
  grind (splits := 40) [pu_emp, pu_layM, mi_st]
def pu_copy (D : MiD) (y x : Int) : MiD := fun q j i => if q = 3 ∧ j = y ∧ i = 0 then D 3 x 0 else if q = 3 ∧ j = y ∧ i = 1 then D 3 x 1 else if q = 17 ∧ j = y then D 17 x i else if q = 18 ∧ j = y then D 18 x i else D q j i
theorem pu_copy_e {D : MiD} {y x : Int} : B_X6_copyFrom y x D = some (pu_copy D y x) := by
  unfold B_X6_copyFrom
  simp only [mi_let]
  congr 1
  funext q j i
  grind (splits := 40) [pu_copy, mi_st, mi_cp]
def pu_cpyL (D : MiD) (x y a : Int) : MiD := fun q j i => if q = 55 ∧ j = y ∧ a ≤ i ∧ i < 9 then D 55 x i else if q = 57 ∧ j = y ∧ a ≤ i ∧ i < 9 then D 57 x i else D q j i
theorem pu_cpy_l : ∀ (f : Nat) (x y a : Int) (D : MiD), 0 ≤ x → x < 61 → 0 ≤ y → y < 61 → 0 ≤ a → a ≤ 9 → 9 - a < f → B_X11_copiesRow_26 f x y a D = some (pu_cpyL D x y a)
  | 0, x, y, a, D, h1, h2, h1', h2', h3, h4, h5 => by omega
  | f + 1, x, y, a, D, h1, h2, h1', h2', h3, h4, h5 => by
    have hw : mi_w (a + 1) = a + 1 := pu_w (by omega) (by omega)
    unfold B_X11_copiesRow_26
    by_cases h : 9 ≤ a
    · rw [if_pos h]
      congr 1
      funext q j i
      grind [pu_cpyL]
    · rw [if_neg h]
      simp only [mi_let]
      rw [hw]
      simp only [h1, h2, h1', h2', h3, show a < 9 by omega, and_self, if_true]
      rw [pu_cpy_l f x y (a + 1) _ h1 h2 h1' h2' (by omega) (by omega) (by omega)]
      congr 1
      funext q j i
      grind (splits := 40) [pu_cpyL, mi_st]
def pu_copyM (D : MiD) (x y : Int) : MiD := fun q j i => if q = 52 ∧ j = 0 ∧ i = y then D 52 0 x else if q = 53 ∧ j = 0 ∧ i = y then D 53 0 x else if q = 55 ∧ j = y ∧ 0 ≤ i ∧ i < 9 then D 55 x i else if q = 57 ∧ j = y ∧ 0 ≤ i ∧ i < 9 then D 57 x i else D q j i
theorem pu_copyM_e {D : MiD} {x y : Int} (h1 : 0 ≤ x) (h2 : x < 61) (h1' : 0 ≤ y) (h2' : y < 61) : B_X11_copiesRow x y D = some (pu_copyM D x y) := by
  unfold B_X11_copiesRow
  simp only [mi_let]
  rw [if_pos ⟨h1, h2⟩, if_pos ⟨h1', h2'⟩, pu_cpy_l _ _ _ _ _ h1 h2 h1' h2' (by omega) (by omega) (by decide)]
  congr 1
  funext q j i
  grind (splits := 40) [pu_cpyL, pu_copyM, mi_st]
def pu_wid (a b : Int) : Bool := decide (B_X11_widens a b ≠ 0)
def pu_fit (a b : Int) : Bool := if b ≤ 7 then pu_wid a b else if b = 8 then decide (a = -1 ∨ a = 8) else if b = 9 then decide (a = -1 ∨ a = 4) else true
theorem pu_fitT : ∀ (a : Fin 10) (b : Fin 11), mi_and (mi_shr (mi_ho ((b : Nat) : Int)) ((a : Nat) : Int)) 1 = if pu_fit (((a : Nat) : Int) - 1) ((b : Nat) : Int) = true then 1 else 0 := by decide +kernel
theorem pu_fits {D : MiD} {a b : Int} (h1 : -1 ≤ a) (h2 : a ≤ 8) (h3 : 0 ≤ b) (h4 : b ≤ 10) : B_X10_fits D a b = some (if pu_fit a b = true then 1 else 0) := by
  have h := pu_fitT ⟨(a + 1).toNat, by omega⟩ ⟨b.toNat, by omega⟩
  have e1 : (((⟨(a + 1).toNat, by omega⟩ : Fin 10) : Nat) : Int) = a + 1 := by show (((a + 1).toNat : Nat) : Int) = _; omega
  have e2 : (((⟨b.toNat, by omega⟩ : Fin 11) : Nat) : Int) = b := by show ((b.toNat : Nat) : Int) = _; omega
  rw [e1, e2, show a + 1 - 1 = a by omega] at h
  unfold B_X10_fits
  rw [if_neg (by omega), if_neg (by omega), if_pos ⟨h3, by omega⟩, pu_w (by omega) (by omega), h]
  cases pu_fit a b <;> rfl
theorem pu_widE {a b : Int} : (B_X11_widens a b ≠ 0) = (pu_wid a b = true) := by unfold pu_wid; simp
theorem pu_fit7 {a b : Int} (h : b ≤ 7) : pu_fit a b = pu_wid a b := by unfold pu_fit; rw [if_pos h]
theorem pu_wid_no {b : Int} (h0 : 0 ≤ b) (h : b ≤ 7) : pu_wid (-1) b = false ∧ pu_wid 8 b = false := by
  have z : ∀ b : Fin 8, pu_wid (-1) ((b : Nat) : Int) = false ∧ pu_wid 8 ((b : Nat) : Int) = false := by decide
  have y := z ⟨b.toNat, by omega⟩
  have e : (((⟨b.toNat, by omega⟩ : Fin 8) : Nat) : Int) = b := by show ((b.toNat : Nat) : Int) = _; omega
  rwa [e] at y
def pu_as (a v b : Int) : Int := if a < 6 ∧ 6 ≤ b then mi_W (v * 4) else v
theorem pu_wdn {v a b : Int} : B_X10_widened v a b = pu_as a v b := by unfold B_X10_widened pu_as; grind
theorem pu_asM {v a b : Int} (ha : a ≤ 7) (hb : b ≤ 7) : B_X11_as a v b = pu_as a v b := by
  unfold B_X11_as B_X11_isQuarters B_X11_isQuarters_12 pu_as
  rw [Int.mul_comm 4 v]
  grind
theorem pu_cut {k v : Int} : B_X11_cut v k = B_X10_cut k v ∨ k = 2 := by unfold B_X11_cut B_X10_cut; grind
theorem pu_and16 (x : Int) : mi_and x 65535 = x % 65536 := by
  unfold mi_and
  have e : (Int32.ofInt x &&& Int32.ofInt 65535).toInt = (BitVec.ofInt 32 x &&& 65535#32).toInt := rfl
  rw [e]
  have h : (BitVec.ofInt 32 x &&& 65535#32).toNat = (x % 65536).toNat := by
    rw [BitVec.toNat_and, BitVec.toNat_ofInt]
    show _ &&& (2 ^ 16 - 1) = _
    rw [Nat.and_two_pow_sub_one_eq_mod]
    omega
  rw [BitVec.toInt_eq_toNat_of_lt (by rw [h]; omega), h]
  omega
theorem pu_cutM {k v : Int} : B_X11_cut v k = B_X10_cut k v := by
  unfold B_X11_cut B_X10_cut
  rw [pu_and16]
  show _ = if k = 0 then _ else if k = 1 then _ else if k = 2 then v % 65536 else _
  grind
def pu_R (D1 : MiD) (x : Int) (D2 : MiD) (r : Int) : Prop := D1 3 x 0 = D2 52 0 r ∧ D1 3 x 1 = D2 53 0 r ∧ ∀ p : Int, 0 ≤ p → p < 9 → D1 17 x p = D2 55 r p ∧ D1 18 x p = D2 57 r p
def pu_K (D : MiD) (r : Int) : Prop := 0 ≤ D 52 0 r ∧ D 52 0 r ≤ 12 ∧ 0 ≤ D 53 0 r ∧ D 53 0 r ≤ 9 ∧ ∀ p : Int, 0 ≤ p → p < 9 → -1 ≤ D 55 r p ∧ D 55 r p ≤ 8 ∧ (D 55 r p = -1 → D 57 r p = 0) ∧ (D 52 0 r ≤ 7 → D 55 r p = D 52 0 r)
def pu_G (D : MiD) (r : Int) : Prop := B_X11_isGone D r = some (if D 52 0 r = 12 then 1 else 0)
def pu_be (D : MiD) (v k n : Int) : MiD := fun q j i => if q = 5 ∧ j = v ∧ i = 0 then k else if q = 5 ∧ j = v ∧ i = 1 then n else D q j i
theorem pu_be_e {D : MiD} {v k n : Int} : B_X8_be v k n D = some (pu_be D v k n) := by
  unfold B_X8_be
  simp only [mi_let]
  congr 1
  funext q j i
  grind [pu_be, mi_st]
def pu_got (D : MiD) (k n : Int) : MiD := fun q j i => if q = 40 ∧ j = 0 ∧ i = 25 then k else if q = 40 ∧ j = 0 ∧ i = 26 then n else D q j i
def pu_pl (p : Int) : Int := if p < 0 then 9 else p
def pu_rdP (D1 : MiD) (v : Int) (D2 : MiD) (a b : Int × MiD) : Prop := (∃ k n : Int, -1 ≤ k ∧ k ≤ 8 ∧ (k = -1 → n = 0) ∧ a = (0, pu_be D1 v k n) ∧ b = (0, pu_got D2 k n)) ∨ (∃ e : Int, (e = 1 ∨ e = 2 ∨ e = 3) ∧ a = (e, D1) ∧ b = (e, D2))
theorem pu_gotE {D : MiD} {k n : Int} : mi_st (mi_st D 40 0 25 k) 40 0 26 n = pu_got D k n := by
  funext q j i
  grind [pu_got, mi_st]
theorem pu_readAs {D1 D2 : MiD} {x r k p v : Int} (hx : 0 ≤ x ∧ x < 120) (hr : 0 ≤ r ∧ r < 61) (hk : 0 ≤ k ∧ k ≤ 7) (hR : pu_R D1 x D2 r) (hK : pu_K D2 r) (hG : pu_G D2 r) :
    pu_ok (B_X6_readAs x k p v D1) fun a => pu_ok (B_X11_gets k r (pu_pl p) D2) fun b => pu_rdP D1 v D2 a b := by
  obtain ⟨r1, r2, r3⟩ := hR
  obtain ⟨k1, k2, k3, k4, k5⟩ := hK
  unfold pu_G at hG
  unfold B_X6_readAs B_X6_trapOfNumbers B_X11_gets
  rw [hG]
  simp only [mi_bi, mi_let, pu_within, pu_be_e, pu_wdn, r1, r2, pu_widE]
  by_cases c1 : D2 52 0 r = 12
  · simp [c1, pu_ok, pu_rdP]
  by_cases c2 : D2 52 0 r < 8
  · rw [pu_fits (by omega) (by omega) (by omega) (by omega), pu_fit7 (by omega)]
    by_cases c3 : 0 ≤ p ∧ p < D2 53 0 r
    · have hp : pu_pl p = p := by unfold pu_pl; rw [if_neg (by omega)]
      obtain ⟨e1, e2⟩ := r3 p c3.1 (by omega)
      rw [hp]
      by_cases c4 : pu_wid (D2 52 0 r) k = true
      · simp only [c1, c2, c3, c4, e2, hr, if_true, if_false, ne_eq, not_true_eq_false, not_false_eq_true, show D2 52 0 r ≤ 7 by omega, show p < 9 by omega, and_self, show ¬ ((1 : Int) = 0) by decide]
        refine ⟨_, rfl, _, rfl, Or.inl ⟨k, pu_as (D2 52 0 r) (D2 57 r p) k, by omega, by omega, by omega, rfl, ?_⟩⟩
        rw [← pu_gotE, ← pu_asM (by omega) (by omega)]
        rfl
      · simp [c1, c2, c3, c4, hr, show D2 52 0 r ≤ 7 by omega, pu_ok, pu_rdP]
    · have hp : ¬ pu_pl p < D2 53 0 r := by unfold pu_pl; split <;> omega
      simp [c1, c2, c3, hp, hr, show D2 52 0 r ≤ 7 by omega, pu_ok, pu_rdP]
  · simp [c1, c2, hr, show ¬ D2 52 0 r ≤ 7 by omega, pu_ok, pu_rdP]
def pu_fc (x : Int) (D D' : MiD) : Prop := ∀ (q : Nat) (j i : Int), ¬ ((q = 3 ∨ q = 17 ∨ q = 18) ∧ j = x) → D' q j i = D q j i
def pu_fm (r : Int) (D D' : MiD) : Prop := ∀ (q : Nat) (j i : Int), ¬ ((q = 52 ∨ q = 53) ∧ j = 0 ∧ (i = r ∨ i = 60)) → ¬ ((q = 55 ∨ q = 57) ∧ (j = r ∨ j = 60)) → ¬ (q = 40 ∧ j = 0 ∧ (i = 25 ∨ i = 26)) → D' q j i = D q j i
def pu_rwP (D1 : MiD) (x : Int) (D2 : MiD) (r : Int) (a b : Int × MiD) : Prop := a.1 = b.1 ∧ 0 ≤ a.1 ∧ a.1 ≤ 3 ∧ pu_R a.2 x b.2 r ∧ pu_K b.2 r ∧ pu_fc x D1 a.2 ∧ pu_fm r D2 b.2 ∧ (b.2 52 0 r = 12 ↔ D2 52 0 r = 12)
theorem pu_rwP.same {D1 D2 : MiD} {x r e : Int} (he : 0 ≤ e ∧ e ≤ 3) (hR : pu_R D1 x D2 r) (hK : pu_K D2 r) : pu_rwP D1 x D2 r (e, D1) (e, D2) := ⟨rfl, he.1, he.2, hR, hK, fun _ _ _ _ => rfl, fun _ _ _ _ _ _ => rfl, Iff.rfl⟩
theorem pu_rwP.ok {D1 D2 : MiD} {x r e : Int} {u : Int × MiD} {w : Int × MiD} (he : 0 ≤ e ∧ e ≤ 3) (hu : u = (e, D1)) (hw : w = (e, D2)) (hR : pu_R D1 x D2 r) (hK : pu_K D2 r) : pu_ok (some u) fun a => pu_ok (some w) fun b => pu_rwP D1 x D2 r a b := by
  subst hu hw
  exact ⟨_, rfl, _, rfl, pu_rwP.same he hR hK⟩
theorem pu_plE {p : Int} (h : 0 ≤ p) : pu_pl p = p := by unfold pu_pl; rw [if_neg (by omega)]
theorem pu_plN {p n : Int} (h : n ≤ 9) (hp : ¬ (0 ≤ p ∧ p < n)) : ¬ pu_pl p < n := by unfold pu_pl; split <;> omega
theorem pu_cellw {D1 D2 : MiD} {x r p k n : Int} (hr : 0 ≤ r ∧ r < 60) (hp : 0 ≤ p ∧ p < 9) (hk : -1 ≤ k ∧ k ≤ 8 ∧ (k = -1 → n = 0) ∧ (D2 52 0 r ≤ 7 → k = D2 52 0 r)) (hR : pu_R D1 x D2 r) (hK : pu_K D2 r) : pu_rwP D1 x D2 r (0, mi_st (mi_st D1 17 x p k) 18 x p n) (0, mi_st (mi_st D2 55 r p k) 57 r p n) := by
  obtain ⟨r1, r2, r3⟩ := hR
  obtain ⟨k1, k2, k3, k4, k5⟩ := hK
  refine ⟨rfl, Int.le_refl 0, (by show (0 : Int) ≤ 3; decide), ⟨?_, ?_, fun q hq hq' => ?_⟩, ⟨?_, ?_, ?_, ?_, fun q hq hq' => ?_⟩, fun q j i h => ?_, fun q j i h h' h'' => ?_, ?_⟩
  all_goals first | (have := r3 q hq hq'; have := k5 q hq hq'; simp only [pu_st]; grind) | (simp only [pu_st]; grind)
theorem pu_cellw1 {D1 D2 : MiD} {x r p n : Int} (hr : 0 ≤ r ∧ r < 60) (hp : 0 ≤ p ∧ p < 9) (hk : D2 55 r p ≠ -1) (hR : pu_R D1 x D2 r) (hK : pu_K D2 r) : pu_rwP D1 x D2 r (0, mi_st D1 18 x p n) (0, mi_st D2 57 r p n) := by
  have h := pu_cellw (n := n) hr hp ⟨(hK.2.2.2.2 p hp.1 hp.2).1, (hK.2.2.2.2 p hp.1 hp.2).2.1, fun h => absurd h hk, (hK.2.2.2.2 p hp.1 hp.2).2.2.2⟩ hR hK
  have e1 : mi_st D1 17 x p (D2 55 r p) = D1 := by funext q j i; have := hR.2.2 p hp.1 hp.2; grind [mi_st]
  have e2 : mi_st D2 55 r p (D2 55 r p) = D2 := by funext q j i; grind [mi_st]
  rwa [e1, e2] at h
theorem pu_writeAs {D1 D2 : MiD} {x r k p v : Int} (hx : 0 ≤ x ∧ x < 120) (hr : 0 ≤ r ∧ r < 60) (hk : 0 ≤ k ∧ k ≤ 7) (hR : pu_R D1 x D2 r) (hK : pu_K D2 r) (hG : pu_G D2 r) :
    pu_ok (B_X6_writeAs x k p v D1) fun a => pu_ok (B_X11_sets k r (pu_pl p) v D2) fun b => pu_rwP D1 x D2 r a b := by
  obtain ⟨r1, r2, r3⟩ := id hR
  obtain ⟨k1, k2, k3, k4, k5⟩ := id hK
  unfold pu_G at hG
  unfold B_X6_writeAs B_X6_trapOfNumbers B_X11_sets
  rw [hG]
  simp only [mi_bi, mi_let, pu_within, pu_be_e, pu_wdn, r1, r2, pu_widE, pu_cutM]
  have hr' : 0 ≤ r ∧ r < 61 := by omega
  by_cases c1 : D2 52 0 r = 12
  · simp only [c1]
    exact pu_rwP.ok ⟨by decide, by decide⟩ rfl rfl hR hK
  by_cases c2 : D2 52 0 r < 8
  · rw [pu_fits (by omega) (by omega) (by omega) (by omega), pu_fit7 (by omega)]
    by_cases c3 : 0 ≤ p ∧ p < D2 53 0 r
    · by_cases c4 : pu_wid k (D2 52 0 r) = true
      · rw [pu_plE c3.1, pu_asM (by omega) (by omega)]
        simp only [c1, c2, c3, c4, hr', if_true, if_false, ne_eq, not_true_eq_false, not_false_eq_true, show D2 52 0 r ≤ 7 by omega, show p < 9 by omega, and_self, show ¬ ((1 : Int) = 0) by decide]
        exact ⟨_, rfl, _, rfl, pu_cellw1 hr ⟨c3.1, by omega⟩ (by have := (k5 p c3.1 (by omega)).2.2.2 (by omega); omega) hR hK⟩
      · simp only [c1, c2, c3, c4, hr', if_true, if_false, ne_eq, not_true_eq_false, not_false_eq_true, show D2 52 0 r ≤ 7 by omega, and_self, show ¬ ((1 : Int) = 0) by decide, pu_plE c3.1]
        exact pu_rwP.ok ⟨by decide, by decide⟩ rfl rfl hR hK
    · have hp := pu_plN k4 c3
      simp only [c1, c2, c3, hp, hr', if_true, if_false, ne_eq, not_true_eq_false, not_false_eq_true, show D2 52 0 r ≤ 7 by omega, and_self, show ¬ ((1 : Int) = 0) by decide]
      exact pu_rwP.ok ⟨by decide, by decide⟩ rfl rfl hR hK
  · simp only [c1, c2, hr', if_true, if_false, ne_eq, not_true_eq_false, not_false_eq_true, show ¬ D2 52 0 r ≤ 7 by omega, and_self, show ¬ ((1 : Int) = 0) by decide, show ¬ ((2 : Int) = 0) by decide]
    exact pu_rwP.ok ⟨by decide, by decide⟩ rfl rfl hR hK
theorem pu_box {D1 D2 : MiD} {x r p v : Int} (hx : 0 ≤ x ∧ x < 120) (hr : 0 ≤ r ∧ r < 61) (hR : pu_R D1 x D2 r) (hK : pu_K D2 r) (hG : pu_G D2 r) :
    pu_ok (B_X6_box x p v D1) fun a => pu_ok (B_X11_boxes r (pu_pl p) D2) fun b => pu_rdP D1 v D2 a b := by
  obtain ⟨r1, r2, r3⟩ := hR
  obtain ⟨k1, k2, k3, k4, k5⟩ := hK
  unfold pu_G at hG
  unfold B_X6_box B_X11_boxes
  rw [hG]
  simp only [mi_bi, mi_let, pu_within, pu_be_e, r1, r2]
  by_cases c1 : D2 52 0 r = 12
  · simp [c1, pu_ok, pu_rdP]
  by_cases c2 : D2 52 0 r = 11
  · simp [c1, c2, hr, pu_ok, pu_rdP]
  by_cases c3 : 0 ≤ p ∧ p < D2 53 0 r
  · obtain ⟨e1, e2⟩ := r3 p c3.1 (by omega)
    obtain ⟨e3, e4, e5, -⟩ := k5 p c3.1 (by omega)
    rw [pu_plE c3.1]
    simp only [c1, c2, c3, e1, e2, hr, if_true, if_false, ne_eq, not_true_eq_false, not_false_eq_true, show p < 9 by omega, and_self, show ¬ ((1 : Int) = 0) by decide]
    refine ⟨_, rfl, _, rfl, Or.inl ⟨D2 55 r p, D2 57 r p, by omega, by omega, e5, rfl, ?_⟩⟩
    rw [← pu_gotE]
    rfl
  · have hp := pu_plN k4 c3
    simp [c1, c2, c3, hp, hr, pu_ok, pu_rdP]
theorem pu_stand_e {D : MiD} {x p k n : Int} (hx : 0 ≤ x ∧ x < 120) (hp : 0 ≤ p ∧ p < 9) : B_X6_stand x p k n D = some (mi_st (mi_st D 17 x p (if 8 ≤ D 3 x 0 then k else D 3 x 0)) 18 x p (if 8 ≤ D 3 x 0 then n else pu_as k n (D 3 x 0))) := by
  unfold B_X6_stand B_X6_stand_14 B_X6_stand_34 B_X6_stand_58
  simp only [mi_let, hx, hp, and_self, if_true, pu_wdn]
  by_cases c : 8 ≤ D 3 x 0
  · simp [c]
  · simp [c, pu_st]
theorem pu_putsE {D : MiD} {r p k n : Int} (hr : 0 ≤ r ∧ r < 61) (hp : 0 ≤ p ∧ p < 9) : B_X11_puts_154 k n r p 0 D = some (0, mi_st (mi_st D 55 r p (if 7 < D 52 0 r then k else D 52 0 r)) 57 r p (if k = -1 then 0 else if 7 < D 52 0 r then n else B_X11_as k n (D 52 0 r))) := by
  unfold B_X11_puts_154 B_X11_puts_195 B_X11_puts_242
  simp only [mi_let, hr, hp, and_self, if_true]
  have e : ∀ z : Int, mi_st D 55 r p z 52 0 r = D 52 0 r := fun z => by rw [pu_st]; rw [if_neg (by omega)]
  simp only [e]
  by_cases c : 7 < D 52 0 r <;> by_cases c' : k = -1 <;> simp [c, c']
theorem pu_put {D1 D2 : MiD} {x r p v : Int} (hx : 0 ≤ x ∧ x < 120) (hr : 0 ≤ r ∧ r < 60) (hR : pu_R D1 x D2 r) (hK : pu_K D2 r) (hG : pu_G D2 r) (hv : -1 ≤ D1 5 v 0 ∧ D1 5 v 0 ≤ 8 ∧ (D1 5 v 0 = -1 → D1 5 v 1 = 0)) :
    pu_ok (B_X6_put x p v D1) fun a => pu_ok (B_X11_puts (D1 5 v 0) (D1 5 v 1) r (pu_pl p) D2) fun b => pu_rwP D1 x D2 r a b := by
  obtain ⟨r1, r2, r3⟩ := id hR
  obtain ⟨k1, k2, k3, k4, k5⟩ := id hK
  unfold pu_G at hG
  unfold B_X6_put B_X6_put_43 B_X11_puts B_X11_puts_48 B_X11_puts_123 B_X11_puts_153
  rw [hG]
  have hr' : 0 ≤ r ∧ r < 61 := by omega
  generalize hk : D1 5 v 0 = k at *
  generalize hn : D1 5 v 1 = n at *
  simp only [mi_bi, mi_let, pu_within, r1, r2, pu_widE]
  by_cases c1 : D2 52 0 r = 12
  · simp only [c1]
    exact pu_rwP.ok ⟨by decide, by decide⟩ rfl rfl hR hK
  by_cases c2 : D2 52 0 r = 11
  · simp only [c1, c2, hr', if_true, if_false, ne_eq, not_true_eq_false, not_false_eq_true, and_self]
    exact pu_rwP.ok ⟨by decide, by decide⟩ rfl rfl hR hK
  rw [pu_fits hv.1 hv.2.1 k1 (by omega)]
  by_cases c3 : 8 ≤ D2 52 0 r
  · by_cases c4 : 0 ≤ p ∧ p < D2 53 0 r
    · rw [pu_plE c4.1, pu_putsE hr' ⟨c4.1, by omega⟩, pu_stand_e hx ⟨c4.1, by omega⟩]
      by_cases c5 : pu_fit k (D2 52 0 r) = true
      · have key := pu_cellw (p := p) (k := k) (n := n) hr ⟨c4.1, by omega⟩ ⟨hv.1, hv.2.1, hv.2.2, fun h => by omega⟩ hR hK
        have f1 : ¬ (D2 52 0 r = 8 ∧ k ≠ -1 ∧ k ≠ 8) := by
          intro z
          unfold pu_fit at c5
          rw [if_neg (by omega), if_pos z.1] at c5
          simp at c5
          omega
        have f2 : ¬ (D2 52 0 r = 9 ∧ k ≠ -1 ∧ k ≠ 4) := by
          intro z
          unfold pu_fit at c5
          rw [if_neg (by omega), if_neg (by omega), if_pos z.1] at c5
          simp at c5
          omega
        have hn0 : (if k = -1 then 0 else if 7 < D2 52 0 r then n else B_X11_as k n (D2 52 0 r)) = n := by
          split
          · have := hv.2.2 (by assumption); omega
          · rw [if_pos (by omega)]
        rw [hn0, if_pos (show 7 < D2 52 0 r by omega)]
        simp only [c1, c2, c3, c4, c5, r1, hr', if_true, if_false, ne_eq, not_true_eq_false, not_false_eq_true, and_self, show ¬ ((1 : Int) = 0) by decide, show 7 < D2 52 0 r by omega]
        by_cases d1 : D2 52 0 r = 8
        · by_cases d2 : k = -1
          · simp only [d1, d2, if_true, if_false, not_true_eq_false] at key ⊢
            exact ⟨_, rfl, _, rfl, by simpa only [d1] using key⟩
          · simp only [d1, d2, show k = 8 by omega, if_true, if_false, not_true_eq_false] at key ⊢
            exact ⟨_, rfl, _, rfl, key⟩
        · by_cases d3 : D2 52 0 r = 9
          · by_cases d2 : k = -1
            · simp only [d1, d3, d2, if_true, if_false, not_true_eq_false, not_false_eq_true, show ¬ ((9 : Int) = 8) by decide] at key ⊢
              exact ⟨_, rfl, _, rfl, key⟩
            · simp only [d1, d3, d2, show k = 4 by omega, if_true, if_false, not_true_eq_false, not_false_eq_true, show ¬ ((9 : Int) = 8) by decide, show ¬ ((4 : Int) = -1) by decide] at key ⊢
              exact ⟨_, rfl, _, rfl, key⟩
          · simp only [d1, d3, if_true, if_false, not_true_eq_false, not_false_eq_true] at key ⊢
            exact ⟨_, rfl, _, rfl, key⟩
      · have f1 : D2 52 0 r = 8 ∧ k ≠ -1 ∧ k ≠ 8 ∨ D2 52 0 r = 9 ∧ k ≠ -1 ∧ k ≠ 4 := by
          unfold pu_fit at c5
          rw [if_neg (by omega)] at c5
          split at c5
          · simp at c5; left; omega
          · split at c5
            · simp at c5; right; omega
            · exact absurd rfl c5
        have hu : B_X11_puts_154 k n r p 1 D2 = some (2, D2) := by unfold B_X11_puts_154; rfl
        rw [hu]
        simp only [c1, c2, c3, c4, c5, hr', if_true, if_false, ne_eq, not_true_eq_false, not_false_eq_true, and_self, show ¬ ((1 : Int) = 0) by decide, show 7 < D2 52 0 r by omega]
        rcases f1 with ⟨d1, d2, d3⟩ | ⟨d1, d2, d3⟩
        · simp only [d1, d2, d3, if_true, if_false, not_true_eq_false]
          exact pu_rwP.ok ⟨by decide, by decide⟩ rfl rfl hR hK
        · simp only [d1, d2, d3, if_true, if_false, not_true_eq_false, not_false_eq_true, show ¬ ((9 : Int) = 8) by decide]
          exact pu_rwP.ok ⟨by decide, by decide⟩ rfl rfl hR hK
    · have hp := pu_plN k4 c4
      simp only [c1, c2, c3, c4, hp, hr', if_true, if_false, ne_eq, not_true_eq_false, not_false_eq_true, show 7 < D2 52 0 r by omega, and_self]
      exact pu_rwP.ok ⟨by decide, by decide⟩ rfl rfl hR hK
  · have c3' : ¬ 7 < D2 52 0 r := by omega
    by_cases d0 : 0 ≤ k ∧ k < 8
    · by_cases c4 : 0 ≤ p ∧ p < D2 53 0 r
      · rw [pu_plE c4.1, pu_putsE hr' ⟨c4.1, by omega⟩, pu_stand_e hx ⟨c4.1, by omega⟩, pu_fit7 (by omega)]
        by_cases c5 : pu_wid k (D2 52 0 r) = true
        · have key := pu_cellw (p := p) (k := D2 52 0 r) (n := pu_as k n (D2 52 0 r)) hr ⟨c4.1, by omega⟩ ⟨by omega, by omega, fun h => by omega, fun h => rfl⟩ hR hK
          simp only [c1, c2, c3, c3', c4, c5, d0, r1, hr', if_true, if_false, ne_eq, not_true_eq_false, not_false_eq_true, and_self, show ¬ ((1 : Int) = 0) by decide, show ¬ k = -1 by omega, show ¬ k = 8 by omega, pu_asM (show k ≤ 7 by omega) (show D2 52 0 r ≤ 7 by omega)]
          exact ⟨_, rfl, _, rfl, key⟩
        · have hu : B_X11_puts_154 k n r p 1 D2 = some (2, D2) := by unfold B_X11_puts_154; rfl
          rw [hu]
          simp only [c1, c2, c3, c3', c4, c5, d0, hr', if_true, if_false, ne_eq, not_true_eq_false, not_false_eq_true, and_self, show ¬ ((1 : Int) = 0) by decide, show ¬ k = -1 by omega, show ¬ k = 8 by omega]
          exact pu_rwP.ok ⟨by decide, by decide⟩ rfl rfl hR hK
      · have hp := pu_plN k4 c4
        simp only [c1, c2, c3, c3', c4, hp, d0, hr', if_true, if_false, ne_eq, not_true_eq_false, not_false_eq_true, and_self, show ¬ ((1 : Int) = 0) by decide, show ¬ k = -1 by omega, show ¬ k = 8 by omega]
        exact pu_rwP.ok ⟨by decide, by decide⟩ rfl rfl hR hK
    · have d1 : k = -1 ∨ k = 8 := by omega
      rcases d1 with d1 | d1
      · simp only [c1, c2, c3, c3', d0, d1, hr', if_true, if_false, ne_eq, not_true_eq_false, not_false_eq_true, and_self]
        exact pu_rwP.ok ⟨by decide, by decide⟩ rfl rfl hR hK
      · simp only [c1, c2, c3, c3', d0, d1, hr', if_true, if_false, ne_eq, not_true_eq_false, not_false_eq_true, and_self, show ¬ ((8 : Int) = -1) by decide]
        exact pu_rwP.ok ⟨by decide, by decide⟩ rfl rfl hR hK
theorem pu_fits_l {D : MiD} {x k n : Int} (hk : 0 ≤ k ∧ k ≤ 10) (hD : ∀ p : Int, 0 ≤ p → p < 9 → -1 ≤ D 17 x p ∧ D 17 x p ≤ 8) : ∀ (f : Nat) (c i : Int), (c = 0 ∨ c = 1) → 0 ≤ i → i ≤ 9 → 9 - i < f →
    ∃ b : Int, B_X6_fitsAs_5 D f x k n c i = some b ∧ (b = 0 ∨ b = 1) ∧ (b = 1 ↔ c = 1 ∧ ∀ p : Int, i ≤ p → p < n → p < 9 → pu_fit (D 17 x p) k = true)
  | 0, c, i, hc, h1, h2, h3 => by omega
  | f + 1, c, i, hc, h1, h2, h3 => by
    unfold B_X6_fitsAs_5
    by_cases c1 : n ≤ i
    · rw [if_pos c1, if_pos hc]
      exact ⟨c, rfl, hc, ⟨fun h => ⟨h, fun p a b _ => by omega⟩, fun h => h.1⟩⟩
    by_cases c2 : 9 ≤ i
    · rw [if_neg c1, if_pos c2, if_pos hc]
      exact ⟨c, rfl, hc, ⟨fun h => ⟨h, fun p a _ b => by omega⟩, fun h => h.1⟩⟩
    rw [if_neg c1, if_neg c2, if_pos ⟨h1, by omega⟩, pu_fits (hD i h1 (by omega)).1 (hD i h1 (by omega)).2 hk.1 hk.2, pu_w (by omega) (by omega)]
    simp only [mi_bi]
    have step : ∀ c' : Int, (c' = 1 ↔ c = 1 ∧ pu_fit (D 17 x i) k = true) → (c' = 0 ∨ c' = 1) → ∃ b : Int, B_X6_fitsAs_5 D f x k n c' (i + 1) = some b ∧ (b = 0 ∨ b = 1) ∧ (b = 1 ↔ c = 1 ∧ ∀ p : Int, i ≤ p → p < n → p < 9 → pu_fit (D 17 x p) k = true) := by
      intro c' hc' hc''
      obtain ⟨b, e1, e2, e3⟩ := pu_fits_l hk hD f c' (i + 1) hc'' (by omega) (by omega) (by omega)
      refine ⟨b, e1, e2, e3.trans ⟨fun h => ⟨(hc'.mp h.1).1, fun p a a' a'' => ?_⟩, fun h => ⟨hc'.mpr ⟨h.1, h.2 i (by omega) (by omega) (by omega)⟩, fun p a a' a'' => h.2 p (by omega) a' a''⟩⟩⟩
      by_cases hp : p = i
      · subst hp; exact (hc'.mp h.1).2
      · exact h.2 p (by omega) a' a''
    rcases hc with rfl | rfl <;> cases hh : pu_fit (D 17 x i) k
    · exact step _ (by simp [hh]; decide) (by decide)
    · exact step _ (by simp [hh]; decide) (by decide)
    · exact step _ (by simp [hh]; decide) (by decide)
    · exact step _ (by simp [hh]; decide) (by decide)
theorem pu_fitsAs {D : MiD} {x k n : Int} (hk : 0 ≤ k ∧ k ≤ 10) (hD : ∀ p : Int, 0 ≤ p → p < 9 → -1 ≤ D 17 x p ∧ D 17 x p ≤ 8) : ∃ b : Int, B_X6_fitsAs D x k n = some b ∧ (b = 0 ∨ b = 1) ∧ (b = 1 ↔ ∀ p : Int, 0 ≤ p → p < n → p < 9 → pu_fit (D 17 x p) k = true) := by
  obtain ⟨b, e1, e2, e3⟩ := pu_fits_l (n := n) hk hD mi_fuel 1 0 (Or.inr rfl) (by decide) (by decide) (by decide)
  exact ⟨b, e1, e2, e3.trans ⟨fun h => h.2, fun h => ⟨rfl, h⟩⟩⟩
theorem pu_putsR {D : MiD} {r p k n : Int} (hr : 0 ≤ r ∧ r < 61) (hG : pu_G D r) (hk : 0 ≤ D 52 0 r ∧ D 52 0 r ≤ 10) (hp : 0 ≤ p ∧ p < D 53 0 r ∧ p < 9) (hv : -1 ≤ k ∧ k ≤ 8 ∧ (k = -1 → n = 0)) :
    B_X11_puts k n r p D = some (if pu_fit k (D 52 0 r) = true then (0, mi_st (mi_st D 55 r p (if 8 ≤ D 52 0 r then k else D 52 0 r)) 57 r p (if 8 ≤ D 52 0 r then n else pu_as k n (D 52 0 r))) else (2, D)) := by
  unfold pu_G at hG
  unfold B_X11_puts B_X11_puts_48 B_X11_puts_123 B_X11_puts_153
  rw [hG, pu_putsE hr ⟨hp.1, hp.2.2⟩]
  have hu : B_X11_puts_154 k n r p 1 D = some (2, D) := by unfold B_X11_puts_154; rfl
  rw [hu]
  simp only [mi_bi, hr, hp, if_true, and_self, show ¬ D 52 0 r = 11 by omega, show ¬ D 52 0 r = 12 by omega, if_false, pu_widE]
  by_cases c3 : 8 ≤ D 52 0 r
  · have c3' : 7 < D 52 0 r := by omega
    have hn0 : (if k = -1 then 0 else if 7 < D 52 0 r then n else B_X11_as k n (D 52 0 r)) = n := by
      split
      · have := hv.2.2 (by assumption); omega
      · first | rfl | rw [if_pos (by omega)]
    rw [hn0]
    unfold pu_fit
    rw [if_neg (show ¬ D 52 0 r ≤ 7 by omega)]
    simp only [c3, c3', if_true]
    by_cases d1 : D 52 0 r = 8
    · by_cases e1 : k = -1
      · simp [d1, e1]
      · by_cases e2 : k = 8 <;> simp [d1, e1, e2]
    · by_cases d2 : D 52 0 r = 9
      · by_cases e1 : k = -1
        · simp [d1, d2, e1]
        · by_cases e2 : k = 4 <;> simp [d1, d2, e1, e2]
      · simp [d1, d2]
  · have c3' : ¬ 7 < D 52 0 r := by omega
    rw [pu_fit7 (by omega)]
    simp only [c3, c3', if_false]
    obtain ⟨w1, w2⟩ := pu_wid_no hk.1 (show D 52 0 r ≤ 7 by omega)
    by_cases e1 : k = -1
    · simp [e1, w1]
    · by_cases e2 : k = 8
      · simp [e1, e2, w2]
      · rw [pu_asM (show k ≤ 7 by omega) (show D 52 0 r ≤ 7 by omega)]
        by_cases e3 : pu_wid k (D 52 0 r) = true <;> simp [e1, e2, e3]
theorem pu_gone28 {D : MiD} {r : Int} (hr : 0 ≤ r ∧ r < 61) (h : r < 10 ∨ 60 ≤ r) : pu_G D r := by
  unfold pu_G B_X11_isGone B_X11_isGone_28 B_X11_isGone_39
  rw [if_pos hr]
  rcases h with h | h
  · rw [if_pos h]; by_cases c : D 52 0 r = 12 <;> simp [c]
  · rw [if_neg (by omega), if_pos h]; by_cases c : D 52 0 r = 12 <;> simp [c]
def pu_rsh (D : MiD) (x k c a : Int) : MiD := fun q j i => if q = 17 ∧ j = x ∧ a ≤ i ∧ i < 9 then (if i < c ∧ 8 ≤ k then D 17 x i else if 8 ≤ k then -1 else k) else if q = 18 ∧ j = x ∧ a ≤ i ∧ i < 9 then (if i < c then (if 8 ≤ k then D 18 x i else pu_as (D 17 x i) (D 18 x i) k) else 0) else D q j i
theorem pu_rsh_l {x k c : Int} (hx : 0 ≤ x ∧ x < 120) (hc : c ≤ 9) : ∀ (f : Nat) (a : Int) (D : MiD), D 3 x 0 = k → 0 ≤ a → a ≤ c → c - a < f → B_X6_reshape_53 f x c a D = some (0, pu_rsh D x k c a)
  | 0, a, D, hk, h1, h2, h3 => by omega
  | f + 1, a, D, hk, h1, h2, h3 => by
    unfold B_X6_reshape_53
    by_cases c1 : c ≤ a
    · rw [if_pos c1]
      unfold B_X6_blankFrom
      rw [pu_blank_l _ _ _ _ hx.1 hx.2 (by omega) (by omega) (by rw [pu_fuelE]; omega)]
      simp only [mi_bi]
      congr 2
      funext q j i
      grind (splits := 40) [pu_rsh, pu_blank]
    · rw [if_neg c1, if_pos ⟨h1, by omega⟩, pu_stand_e hx ⟨h1, by omega⟩, pu_w (by omega) (by omega)]
      simp only [mi_bi]
      rw [pu_rsh_l (k := k) hx hc f (a + 1) _ (by rw [pu_st, pu_st, if_neg (by omega), if_neg (by omega)]; exact hk) (by omega) (by omega) (by omega)]
      congr 2
      funext q j i
      grind (splits := 60) [pu_rsh, mi_st]
def pu_resh (D : MiD) (x k n c : Int) : MiD := pu_rsh (mi_st (mi_st D 3 x 0 k) 3 x 1 n) x k c 0
def pu_sp (D0 D : MiD) (d k n a : Int) : Prop := (∀ (q : Nat) (j i : Int), ¬ ((q = 52 ∨ q = 53) ∧ j = 0 ∧ i = 60) → ¬ ((q = 55 ∨ q = 57) ∧ j = 60) → ¬ (q = 40 ∧ j = 0 ∧ (i = 25 ∨ i = 26)) → D q j i = D0 q j i) ∧ D 52 0 60 = k ∧ D 53 0 60 = n ∧ ∀ i : Int, 0 ≤ i → i < 9 → D 55 60 i = (if i < a ∧ 8 ≤ k then D0 55 d i else if 8 ≤ k then -1 else k) ∧ D 57 60 i = (if i < a then (if 8 ≤ k then D0 57 d i else pu_as (D0 55 d i) (D0 57 d i) k) else 0)
theorem pu_less {a b : Int} : B_X11_less a b = mi_min a b := by unfold B_X11_less mi_min; grind
theorem pu_boxR {D : MiD} {r p : Int} (hr : 0 ≤ r ∧ r < 61) (hG : pu_G D r) (hk : D 52 0 r ≠ 12 ∧ D 52 0 r ≠ 11) (hp : 0 ≤ p ∧ p < D 53 0 r ∧ p < 9) : B_X11_boxes r p D = some (0, pu_got D (D 55 r p) (D 57 r p)) := by
  unfold pu_G at hG
  unfold B_X11_boxes
  rw [hG]
  simp only [mi_bi, mi_let, hr, hp, hk, if_true, if_false, and_self, ne_eq, not_false_eq_true]
  rw [← pu_gotE]
  rfl
theorem pu_sp_l {D0 : MiD} {d k n : Int} (hd : 0 ≤ d ∧ d < 10) (hK : pu_K D0 d) (hk : D0 52 0 d ≤ 10) (hkk : 0 ≤ k ∧ k ≤ 10) (hn : 0 ≤ n ∧ n ≤ 9) : ∀ (f : Nat) (a : Int) (D : MiD), pu_sp D0 D d k n a → 0 ≤ a → a ≤ mi_min n (D0 53 0 d) → mi_min n (D0 53 0 d) - a < f →
    ∃ b : Int × MiD, B_X11_shapesSpare_37 f d n a D = some b ∧ ((b.1 = 0 ∧ pu_sp D0 b.2 d k n (mi_min n (D0 53 0 d)) ∧ ∀ p : Int, a ≤ p → p < mi_min n (D0 53 0 d) → pu_fit (D0 55 d p) k = true) ∨ (b.1 = 2 ∧ pu_fm 60 D0 b.2 ∧ ∃ p : Int, a ≤ p ∧ p < mi_min n (D0 53 0 d) ∧ pu_fit (D0 55 d p) k = false))
  | 0, a, D, hS, h1, h2, h3 => by omega
  | f + 1, a, D, hS, h1, h2, h3 => by
    obtain ⟨s1, s2, s3, s4⟩ := id hS
    obtain ⟨k1, k2, k3, k4, k5⟩ := id hK
    have m1 : D 53 0 d = D0 53 0 d := s1 53 0 d (by omega) (by omega) (by omega)
    have m2 : D 52 0 d = D0 52 0 d := s1 52 0 d (by omega) (by omega) (by omega)
    have hmin : mi_min n (D0 53 0 d) ≤ n ∧ mi_min n (D0 53 0 d) ≤ D0 53 0 d := by unfold mi_min; split <;> omega
    unfold B_X11_shapesSpare_37
    rw [if_pos (show 0 ≤ d ∧ d < 61 by omega), pu_less, m1]
    by_cases c1 : mi_min n (D0 53 0 d) ≤ a
    · rw [if_pos c1]
      obtain rfl : a = mi_min n (D0 53 0 d) := by omega
      exact ⟨_, rfl, Or.inl ⟨rfl, hS, fun p a b => by omega⟩⟩
    · rw [if_neg c1, pu_boxR (show 0 ≤ d ∧ d < 61 by omega) (pu_gone28 (by omega) (Or.inl hd.2)) (by rw [m2]; omega) (by rw [m1]; omega)]
      have v1 : D 55 d a = D0 55 d a := s1 55 d a (by omega) (by omega) (by omega)
      have v2 : D 57 d a = D0 57 d a := s1 57 d a (by omega) (by omega) (by omega)
      obtain ⟨u1, u2, u3, u4⟩ := k5 a h1 (by omega)
      simp only [mi_b2, mi_bi, v1, v2]
      have g1 : pu_got D (D0 55 d a) (D0 57 d a) 40 0 25 = D0 55 d a := by simp [pu_got]
      have g2 : pu_got D (D0 55 d a) (D0 57 d a) 40 0 26 = D0 57 d a := by simp [pu_got]
      have g3 : pu_got D (D0 55 d a) (D0 57 d a) 52 0 60 = k := by simp [pu_got]; exact s2
      have g4 : pu_got D (D0 55 d a) (D0 57 d a) 53 0 60 = n := by simp [pu_got]; exact s3
      rw [g1, g2, pu_putsR (by decide) (pu_gone28 (by decide) (Or.inr (by decide))) (by rw [g3]; exact hkk) (by rw [g4]; omega) ⟨u1, u2, u3⟩, g3]
      cases hh : pu_fit (D0 55 d a) k
      · refine ⟨_, rfl, Or.inr ⟨rfl, ?_, a, by omega, by omega, hh⟩⟩
        intro q j i e1 e2 e3
        show pu_got D _ _ q j i = _
        unfold pu_got
        rw [if_neg (by omega), if_neg (by omega)]
        exact s1 q j i (by omega) (by omega) e3
      · simp only [if_true, Int.le_refl]
        rw [pu_w (by omega) (by omega)]
        obtain ⟨b, e1, e2⟩ := pu_sp_l hd hK hk hkk hn f (a + 1) (mi_st (mi_st (pu_got D (D0 55 d a) (D0 57 d a)) 55 60 a (if 8 ≤ k then D0 55 d a else k)) 57 60 a (if 8 ≤ k then D0 57 d a else pu_as (D0 55 d a) (D0 57 d a) k)) (by
          refine ⟨fun q j i z1 z2 z3 => ?_, ?_, ?_, fun i y1 y2 => ?_⟩
          · have := s1 q j i z1 z2 z3
            grind (splits := 40) [mi_st, pu_got]
          · grind [mi_st, pu_got]
          · grind [mi_st, pu_got]
          · obtain ⟨t1, t2⟩ := s4 i y1 y2
            constructor <;> grind (splits := 40) [mi_st, pu_got]) (by omega) (by omega) (by omega)
        refine ⟨b, e1, ?_⟩
        rcases e2 with ⟨f1, f2, f3⟩ | ⟨f1, f2, p, f3, f4, f5⟩
        · refine Or.inl ⟨f1, f2, fun p a1 a2 => ?_⟩
          by_cases hp : p = a
          · subst hp; exact hh
          · exact f3 p (by omega) a2
        · exact Or.inr ⟨f1, f2, p, by omega, f4, f5⟩
theorem pu_resh_e {D : MiD} {x k n c : Int} (hx : 0 ≤ x ∧ x < 120) (hc : 0 ≤ c ∧ c ≤ 9) : B_X6_reshape_53 mi_fuel x c 0 (mi_st (mi_st D 3 x 0 k) 3 x 1 n) = some (0, pu_resh D x k n c) :=
  pu_rsh_l hx hc.2 _ _ _ (by rw [pu_st, pu_st, if_neg (by omega), if_pos ⟨rfl, rfl, rfl⟩]) (by omega) hc.1 (by have := pu_fuelE; omega)
theorem pu_resh_at {D : MiD} {x k n c : Int} : pu_resh D x k n c 3 x 0 = k ∧ pu_resh D x k n c 3 x 1 = n := by
  unfold pu_resh
  constructor <;> grind [pu_rsh, mi_st]
theorem pu_resh_c {D : MiD} {x k n c p : Int} (h : 0 ≤ p ∧ p < 9) : pu_resh D x k n c 17 x p = (if p < c ∧ 8 ≤ k then D 17 x p else if 8 ≤ k then -1 else k) ∧ pu_resh D x k n c 18 x p = (if p < c then (if 8 ≤ k then D 18 x p else pu_as (D 17 x p) (D 18 x p) k) else 0) := by
  unfold pu_resh
  constructor <;> grind (splits := 20) [pu_rsh, mi_st]
theorem pu_resh_o {D : MiD} {x k n c : Int} {q : Nat} {j i : Int} (h : ¬ ((q = 3 ∨ q = 17 ∨ q = 18) ∧ j = x)) : pu_resh D x k n c q j i = D q j i := by
  unfold pu_resh
  grind (splits := 20) [pu_rsh, mi_st]
theorem pu_copyM_at {D : MiD} {x y : Int} : pu_copyM D x y 52 0 y = D 52 0 x ∧ pu_copyM D x y 53 0 y = D 53 0 x := by
  constructor <;> grind [pu_copyM]
theorem pu_copyM_c {D : MiD} {x y p : Int} (h : 0 ≤ p ∧ p < 9) : pu_copyM D x y 55 y p = D 55 x p ∧ pu_copyM D x y 57 y p = D 57 x p := by
  constructor <;> grind [pu_copyM]
theorem pu_copyM_o {D : MiD} {x y : Int} {q : Nat} {j i : Int} (h : ¬ ((q = 52 ∨ q = 53) ∧ j = 0 ∧ i = y)) (h' : ¬ ((q = 55 ∨ q = 57) ∧ j = y)) : pu_copyM D x y q j i = D q j i := by
  grind (splits := 20) [pu_copyM]
theorem pu_reshape {D1 D2 : MiD} {x d k n : Int} (hx : 0 ≤ x ∧ x < 120) (hd : 0 ≤ d ∧ d < 10) (hR : pu_R D1 x D2 d) (hK : pu_K D2 d) (hk : 0 ≤ k ∧ k ≤ 10) (hn : 0 ≤ n ∧ n ≤ 9) :
    pu_ok (B_X6_reshape x k n D1) fun a => pu_ok (B_X11_becomes d k n D2) fun b => pu_rwP D1 x D2 d a b := by
  obtain ⟨r1, r2, r3⟩ := id hR
  obtain ⟨k1, k2, k3, k4, k5⟩ := id hK
  unfold B_X6_reshape B_X11_becomes B_X11_shapesSpare
  have hd' : 0 ≤ d ∧ d < 61 := by omega
  simp only [mi_let, r1, r2, hd', and_self, if_true]
  by_cases c1 : D2 52 0 d = 12
  · simp only [c1, mi_b2, mi_bi]
    exact pu_rwP.ok ⟨by decide, by decide⟩ rfl rfl hR hK
  by_cases c2 : D2 52 0 d = 11
  · simp only [c1, c2, mi_b2, mi_bi, if_true, if_false, ne_eq, not_true_eq_false, not_false_eq_true]
    exact pu_rwP.ok ⟨by decide, by decide⟩ rfl rfl hR hK
  simp only [c1, c2, if_true, if_false, ne_eq, not_true_eq_false, not_false_eq_true]
  have hmn : mi_min (D2 53 0 d) n = mi_min n (D2 53 0 d) := by unfold mi_min; grind
  rw [hmn]
  generalize hc : mi_min n (D2 53 0 d) = c
  have hcb : 0 ≤ c ∧ c ≤ 9 := by rw [← hc]; unfold mi_min; split <;> omega
  obtain ⟨y, e1, e2, e3⟩ := pu_fitsAs (D := D1) (x := x) (n := c) hk (fun p a b => by have := r3 p a b; have := k5 p a b; omega)
  rw [e1, pu_layM_e (by decide) (by decide)]
  obtain ⟨b, f1, f2⟩ := pu_sp_l hd hK (by omega) hk hn mi_fuel 0 (pu_layM D2 60 k n) ⟨fun q j i z1 z2 z3 => by grind (splits := 20) [pu_layM], by simp [pu_layM], by simp [pu_layM], fun i y1 y2 => by constructor <;> grind (splits := 20) [pu_layM]⟩ (by omega) (by unfold mi_min; split <;> omega) (by rw [hc]; have := pu_fuelE; omega)
  simp only [mi_b2, mi_bi]
  rw [f1]
  rw [hc] at f2
  rcases f2 with ⟨g1, g2, g3⟩ | ⟨g1, g2, p, g3, g4, g5⟩
  · have hy : y = 1 := e3.mpr fun p a a' a'' => by rw [(r3 p a a'').1]; exact g3 p a a'
    obtain ⟨s1, s2, s3, s4⟩ := g2
    rw [pu_resh_e hx hcb]
    simp only [hy, g1, mi_bi, ne_eq, not_true_eq_false, if_false, show ¬ ((1 : Int) = 0) by decide, not_false_eq_true, if_true]
    rw [pu_copyM_e (by decide) (by decide) hd'.1 hd'.2]
    refine ⟨_, rfl, _, rfl, rfl, Int.le_refl 0, (by show (0 : Int) ≤ 3; decide), ⟨?_, ?_, fun p hp hp' => ?_⟩, ⟨?_, ?_, ?_, ?_, fun p hp hp' => ?_⟩, fun q j i h => ?_, fun q j i h h' h'' => ?_, ?_⟩
    · show pu_resh D1 x k n c 3 x 0 = pu_copyM b.2 60 d 52 0 d
      rw [pu_resh_at.1, pu_copyM_at.1, s2]
    · show pu_resh D1 x k n c 3 x 1 = pu_copyM b.2 60 d 53 0 d
      rw [pu_resh_at.2, pu_copyM_at.2, s3]
    · obtain ⟨t1, t2⟩ := s4 p hp hp'
      obtain ⟨t3, t4⟩ := r3 p hp hp'
      show pu_resh D1 x k n c 17 x p = pu_copyM b.2 60 d 55 d p ∧ pu_resh D1 x k n c 18 x p = pu_copyM b.2 60 d 57 d p
      rw [(pu_resh_c ⟨hp, hp'⟩).1, (pu_resh_c ⟨hp, hp'⟩).2, (pu_copyM_c ⟨hp, hp'⟩).1, (pu_copyM_c ⟨hp, hp'⟩).2, t1, t2, t3, t4]
      exact ⟨rfl, rfl⟩
    · show 0 ≤ pu_copyM b.2 60 d 52 0 d
      rw [pu_copyM_at.1, s2]; omega
    · show pu_copyM b.2 60 d 52 0 d ≤ 12
      rw [pu_copyM_at.1, s2]; omega
    · show 0 ≤ pu_copyM b.2 60 d 53 0 d
      rw [pu_copyM_at.2, s3]; omega
    · show pu_copyM b.2 60 d 53 0 d ≤ 9
      rw [pu_copyM_at.2, s3]; omega
    · obtain ⟨t1, t2⟩ := s4 p hp hp'
      obtain ⟨u1, u2, u3, u4⟩ := k5 p hp hp'
      have e55 := (pu_copyM_c (D := b.2) (x := 60) (y := d) ⟨hp, hp'⟩).1
      have e57 := (pu_copyM_c (D := b.2) (x := 60) (y := d) ⟨hp, hp'⟩).2
      have e52 : pu_copyM b.2 60 d 52 0 d = k := pu_copyM_at.1.trans s2
      show -1 ≤ pu_copyM b.2 60 d 55 d p ∧ pu_copyM b.2 60 d 55 d p ≤ 8 ∧ (pu_copyM b.2 60 d 55 d p = -1 → pu_copyM b.2 60 d 57 d p = 0) ∧ (pu_copyM b.2 60 d 52 0 d ≤ 7 → pu_copyM b.2 60 d 55 d p = pu_copyM b.2 60 d 52 0 d)
      rw [e55, e57, e52, t1, t2]
      split <;> split <;> omega
    · exact pu_resh_o h
    · show pu_copyM b.2 60 d q j i = D2 q j i
      rw [pu_copyM_o (by omega) (by omega)]
      exact s1 q j i (by omega) (by omega) h''
    · show pu_copyM b.2 60 d 52 0 d = 12 ↔ D2 52 0 d = 12
      have e52 : pu_copyM b.2 60 d 52 0 d = k := pu_copyM_at.1.trans s2
      omega
  · have hy : y ≠ 1 := fun h => by
      have := e3.mp h p g3 g4 (by omega)
      rw [(r3 p g3 (by omega)).1, g5] at this
      cases this
    simp only [show y = 0 by omega, g1, mi_bi, ne_eq, not_true_eq_false, if_false, show ¬ ((2 : Int) = 0) by decide, not_false_eq_true, if_true]
    refine ⟨_, rfl, _, rfl, rfl, (by show (0 : Int) ≤ 2; decide), (by show (2 : Int) ≤ 3; decide), ?_, ?_, fun _ _ _ _ => rfl, ?_, ?_⟩
    · refine ⟨?_, ?_, fun p a a' => ⟨?_, ?_⟩⟩
      · exact r1.trans (g2 _ _ _ (by omega) (by omega) (by omega)).symm
      · exact r2.trans (g2 _ _ _ (by omega) (by omega) (by omega)).symm
      · exact (r3 p a a').1.trans (g2 _ _ _ (by omega) (by omega) (by omega)).symm
      · exact (r3 p a a').2.trans (g2 _ _ _ (by omega) (by omega) (by omega)).symm
    · have w1 := g2 52 0 d (by omega) (by omega) (by omega)
      have w2 := g2 53 0 d (by omega) (by omega) (by omega)
      refine ⟨(by show 0 ≤ b.2 52 0 d; omega), (by show b.2 52 0 d ≤ 12; omega), (by show 0 ≤ b.2 53 0 d; omega), (by show b.2 53 0 d ≤ 9; omega), fun p a a' => ?_⟩
      have w3 := g2 55 d p (by omega) (by omega) (by omega)
      have w4 := g2 57 d p (by omega) (by omega) (by omega)
      have := k5 p a a'
      show -1 ≤ b.2 55 d p ∧ b.2 55 d p ≤ 8 ∧ (b.2 55 d p = -1 → b.2 57 d p = 0) ∧ (b.2 52 0 d ≤ 7 → b.2 55 d p = b.2 52 0 d)
      rw [w3, w4, w1]
      exact this
    · exact fun q j i z1 z2 z3 => g2 q j i (by omega) (by omega) z3
    · show b.2 52 0 d = 12 ↔ _
      rw [g2 52 0 d (by omega) (by omega) (by omega)]
theorem pu_cmp0 {x y : Int} : mi_cmp x y = 0 ↔ x = y := by unfold mi_cmp; grind
theorem pu_cmpn {x y : Int} : mi_cmp x y ≠ 0 ↔ x ≠ y := not_congr pu_cmp0
def pu_eqv (k n l m : Int) : Prop := if (0 ≤ k ∧ k < 8) ∧ (0 ≤ l ∧ l < 8) then pu_as k n 6 = pu_as l m 6 else k = l ∧ n = m
theorem pu_q6 {k n : Int} (h : 0 ≤ k ∧ k < 8) : (if B_X11_isQuarters k = 0 then mi_W (4 * n) else n) = pu_as k n 6 := by
  unfold B_X11_isQuarters B_X11_isQuarters_12 pu_as
  rw [Int.mul_comm 4 n]
  grind
theorem pu_areSame {k n l m : Int} (hk : -1 ≤ k ∧ k ≤ 8) (hl : -1 ≤ l ∧ l ≤ 8) : (B_X11_areSame k n l m = 1 ∧ pu_eqv k n l m) ∨ (B_X11_areSame k n l m = 0 ∧ ¬ pu_eqv k n l m) := by
  by_cases h : (0 ≤ k ∧ k < 8) ∧ (0 ≤ l ∧ l < 8)
  · have e : B_X11_areSame k n l m = if pu_as k n 6 = pu_as l m 6 then 1 else 0 := by
      unfold B_X11_areSame B_X11_areSame_59 B_X11_areSame_78
      rw [if_neg (by omega), if_neg (by omega), if_neg (by omega), if_pos (by omega), ← pu_q6 (n := n) h.1, ← pu_q6 (n := m) h.2]
      simp only [pu_cmpn]
      by_cases a : B_X11_isQuarters k = 0 <;> by_cases b : B_X11_isQuarters l = 0 <;> simp only [a, b, if_true, if_false] <;> grind
    unfold pu_eqv
    rw [if_pos h, e]
    split <;> simp_all
  · have e : B_X11_areSame k n l m = if k = l ∧ n = m then 1 else 0 := by
      unfold B_X11_areSame B_X11_areSame_24
      simp only [pu_cmpn]
      have : k = -1 ∨ l = -1 ∨ k = 8 ∨ l = 8 := by omega
      grind
    unfold pu_eqv
    rw [if_neg h, e]
    split <;> simp_all
theorem pu_same_l {D1 D2 : MiD} {x y d e : Int} (hd : 0 ≤ d ∧ d < 61) (he : 0 ≤ e ∧ e < 61) (hR : pu_R D1 x D2 d) (hK : pu_K D2 d) (hR' : pu_R D1 y D2 e) (hK' : pu_K D2 e) : ∀ (f : Nat) (p c : Int), 0 ≤ p → p ≤ 9 → 0 ≤ c → c ≤ p → 9 - p < f →
    ∃ z : Int, B_X6_alikePlaces_4 D1 f x y c p = some z ∧ B_X11_same_66 f d e c p D2 = some (z, D2)
  | 0, p, c, h1, h2, h3, h4, h5 => by omega
  | f + 1, p, c, h1, h2, h3, h4, h5 => by
    obtain ⟨r1, r2, r3⟩ := id hR
    obtain ⟨k1, k2, k3, k4, k5⟩ := id hK
    obtain ⟨s1, s2, s3⟩ := id hR'
    obtain ⟨l1, l2, l3, l4, l5⟩ := id hK'
    unfold B_X6_alikePlaces_4 B_X11_same_66
    rw [if_pos hd, if_pos he, pu_less, r2, s2]
    by_cases c1 : D2 53 0 d ≤ p
    · rw [if_pos c1, if_pos (show mi_min (D2 53 0 d) (D2 53 0 e) ≤ p by unfold mi_min; split <;> omega)]
      exact ⟨_, rfl, rfl⟩
    by_cases c2 : D2 53 0 e ≤ p
    · rw [if_neg c1, if_pos c2, if_pos (show mi_min (D2 53 0 d) (D2 53 0 e) ≤ p by unfold mi_min; split <;> omega)]
      exact ⟨_, rfl, rfl⟩
    rw [if_neg c1, if_neg c2, if_neg (show ¬ 9 ≤ p by omega), if_neg (show ¬ mi_min (D2 53 0 d) (D2 53 0 e) ≤ p by unfold mi_min; split <;> omega)]
    have hp : 0 ≤ p ∧ p < 9 := by omega
    have hkA := k5 p hp.1 hp.2
    have hkB := l5 p hp.1 hp.2
    unfold B_X6_alikePlaces_58 B_X6_alikePlaces_59 B_X6_alikePlaces_147 B_X6_alikePlaces_148 B_X11_same_135
    simp only [hp, and_self, if_true, mi_let, pu_within, pu_wdn, (r3 p hp.1 hp.2).1, (r3 p hp.1 hp.2).2, (s3 p hp.1 hp.2).1, (s3 p hp.1 hp.2).2, pu_cmpn]
    rw [pu_w (show -2147483648 ≤ p + 1 by omega) (by omega), pu_w (show -2147483648 ≤ c + 1 by omega) (by omega), pu_w (show -2147483648 ≤ c + 0 by omega) (by omega), Int.add_zero]
    obtain ⟨z0, a0, b0⟩ := pu_same_l hd he hR hK hR' hK' f (p + 1) c (by omega) (by omega) h3 (by omega) (by omega)
    obtain ⟨z1, a1, b1⟩ := pu_same_l hd he hR hK hR' hK' f (p + 1) (c + 1) (by omega) (by omega) (by omega) (by omega) (by omega)
    rw [a0, a1, b0, b1]
    rcases pu_areSame (k := D2 55 d p) (n := D2 57 d p) (l := D2 55 e p) (m := D2 57 e p) ⟨hkA.1, hkA.2.1⟩ ⟨hkB.1, hkB.2.1⟩ with ⟨t1, t2⟩ | ⟨t1, t2⟩
    · refine ⟨z1, ?_, by rw [t1]; rfl⟩
      unfold pu_eqv at t2
      by_cases u1 : 0 ≤ D2 55 d p ∧ D2 55 d p < 8
      · by_cases u2 : 0 ≤ D2 55 e p ∧ D2 55 e p < 8
        · rw [if_pos ⟨u1, u2⟩] at t2
          simp [u1, u2, t2]
        · rw [if_neg (fun h => u2 h.2)] at t2
          simp [u1, u2, t2]
      · rw [if_neg (fun h => u1 h.1)] at t2
        simp [u1, t2]
    · refine ⟨z0, ?_, by rw [t1]; rfl⟩
      unfold pu_eqv at t2
      by_cases u1 : 0 ≤ D2 55 d p ∧ D2 55 d p < 8
      · by_cases u2 : 0 ≤ D2 55 e p ∧ D2 55 e p < 8
        · rw [if_pos ⟨u1, u2⟩] at t2
          simp [u1, u2, t2]
        · rw [if_neg (fun h => u2 h.2)] at t2
          by_cases v1 : D2 55 d p = D2 55 e p
          · have v2 : ¬ D2 57 d p = D2 57 e p := fun h => t2 ⟨v1, h⟩
            simp [u1, u2, v1, v2]
          · simp [u1, u2, v1]
      · rw [if_neg (fun h => u1 h.1)] at t2
        by_cases v1 : D2 55 d p = D2 55 e p
        · have v2 : ¬ D2 57 d p = D2 57 e p := fun h => t2 ⟨v1, h⟩
          rw [v1] at u1
          simp [u1, v1, v2]
        · simp [u1, v1]
theorem pu_orr {x y : Int} : -2147483648 ≤ mi_or x y ∧ mi_or x y < 2147483648 := by
  unfold mi_or
  have h1 := Int32.le_toInt (Int32.ofInt x ||| Int32.ofInt y)
  have h2 := Int32.toInt_lt (Int32.ofInt x ||| Int32.ofInt y)
  omega
theorem pu_or0 {x : Int} (h1 : -2147483648 ≤ x) (h2 : x < 2147483648) : mi_or x 0 = x := by
  unfold mi_or
  have e : Int32.ofInt x ||| Int32.ofInt 0 = Int32.ofInt x := by
    show Int32.ofInt x ||| 0 = _
    exact Int32.or_zero
  rw [e]
  exact Int32.toInt_ofInt_of_le (by omega) (by omega)
theorem pu_spare {D : MiD} {d k n : Int} (hd : 0 ≤ d ∧ d < 10) (hK : pu_K D d) (hkk : 0 ≤ k ∧ k ≤ 10) (hn : 0 ≤ n ∧ n ≤ 9) : ∃ b : Int × MiD, B_X11_shapesSpare d k n D = some b ∧ pu_fm 60 D b.2 ∧ 0 ≤ b.1 ∧ (b.1 = 0 ↔ D 52 0 d ≤ 10 ∧ ∀ p : Int, 0 ≤ p → p < mi_min n (D 53 0 d) → pu_fit (D 55 d p) k = true) := by
  obtain ⟨k1, k2, k3, k4, k5⟩ := id hK
  unfold B_X11_shapesSpare
  rw [if_pos (show 0 ≤ d ∧ d < 61 by omega)]
  by_cases c1 : D 52 0 d = 12
  · exact ⟨(3, D), by simp [c1], fun _ _ _ _ _ _ => rfl, (by show (0 : Int) ≤ 3; decide), by constructor <;> intro h <;> omega⟩
  by_cases c2 : D 52 0 d = 11
  · exact ⟨(2, D), by simp [c1, c2], fun _ _ _ _ _ _ => rfl, (by show (0 : Int) ≤ 2; decide), by constructor <;> intro h <;> omega⟩
  have hcb : 0 ≤ mi_min n (D 53 0 d) ∧ mi_min n (D 53 0 d) ≤ 9 := by unfold mi_min; split <;> omega
  obtain ⟨b, f1, f2⟩ := pu_sp_l hd hK (by omega) hkk hn mi_fuel 0 (pu_layM D 60 k n) ⟨fun q j i z1 z2 z3 => by unfold pu_layM; grind (splits := 20), by simp [pu_layM], by simp [pu_layM], fun i y1 y2 => by constructor <;> (clear k5 hK; grind (splits := 20) [pu_layM])⟩ (by omega) hcb.1 (by have := pu_fuelE; omega)
  rw [if_pos c1, if_pos c2, pu_layM_e (by decide) (by decide)]
  refine ⟨b, f1, ?_⟩
  rcases f2 with ⟨g1, g2, g3⟩ | ⟨g1, g2, p, g3, g4, g5⟩
  · exact ⟨fun q j i z1 z2 z3 => g2.1 q j i (by omega) (by omega) z3, by omega, fun _ => ⟨by omega, fun p a a' => g3 p a a'⟩, fun _ => g1⟩
  · exact ⟨g2, by omega, by omega, fun h => by rw [h.2 p g3 g4] at g5; cases g5⟩
