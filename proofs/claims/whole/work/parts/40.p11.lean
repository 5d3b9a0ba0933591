def pu_fp (p : Int → Bool) : Nat → Int → Int
  | 0, a => a
  | f + 1, a => if p a = true then pu_fp p f (a + 1) else a
def pu_nx (p : Int → Bool) (n a : Int) : Int := pu_fp p (n - a).toNat a
theorem pu_nx_end {p : Int → Bool} {n a : Int} (h : n ≤ a) : pu_nx p n a = a := by
  unfold pu_nx
  rw [show (n - a).toNat = 0 by omega]
  rfl
theorem pu_nx_go {p : Int → Bool} {n a : Int} (h : a < n) (hp : p a = true) : pu_nx p n a = pu_nx p n (a + 1) := by
  unfold pu_nx
  rw [show (n - a).toNat = (n - (a + 1)).toNat + 1 by omega]
  show (if p a = true then _ else _) = _
  rw [if_pos hp]
theorem pu_nx_no {p : Int → Bool} {n a : Int} (hp : p a = false) : pu_nx p n a = a := by
  unfold pu_nx
  cases (n - a).toNat with
  | zero => rfl
  | succ k =>
    show (if p a = true then _ else _) = _
    rw [if_neg (by rw [hp]; decide)]
theorem pu_fp_in {p : Int → Bool} : ∀ (f : Nat) (a : Int), a ≤ pu_fp p f a ∧ pu_fp p f a ≤ a + f ∧ (∀ i : Int, a ≤ i → i < pu_fp p f a → p i = true) ∧ (pu_fp p f a < a + f → p (pu_fp p f a) = false)
  | 0, a => ⟨by unfold pu_fp; omega, by unfold pu_fp; omega, fun i x y => by unfold pu_fp at y; omega, fun x => by unfold pu_fp at x; omega⟩
  | f + 1, a => by
    unfold pu_fp
    by_cases c : p a = true
    · rw [if_pos c]
      obtain ⟨h1, h2, h3, h4⟩ := pu_fp_in (p := p) f (a + 1)
      refine ⟨by omega, by omega, fun i x y => ?_, fun x => h4 (by omega)⟩
      by_cases e : i = a
      · rw [e]; exact c
      · exact h3 i (by omega) y
    · rw [if_neg c]
      refine ⟨by omega, by omega, fun i x y => by omega, fun _ => by simpa using c⟩
theorem pu_nx_le {p : Int → Bool} {n a : Int} : a ≤ pu_nx p n a := (pu_fp_in _ _).1
theorem pu_nx_ge {p : Int → Bool} {n a : Int} (h : a ≤ n) : pu_nx p n a ≤ n := by
  have := (pu_fp_in (p := p) (n - a).toNat a).2.1
  unfold pu_nx
  omega
theorem pu_nx_in {p : Int → Bool} {n a i : Int} (h1 : a ≤ i) (h2 : i < pu_nx p n a) : p i = true := (pu_fp_in _ _).2.2.1 i h1 h2
theorem pu_nx_at {p : Int → Bool} {n a : Int} (ha : a ≤ n) (h : pu_nx p n a < n) : p (pu_nx p n a) = false := (pu_fp_in (p := p) (n - a).toNat a).2.2.2 (by unfold pu_nx at h; omega)
theorem pu_nx_nx {p : Int → Bool} {n a : Int} (ha : a ≤ n) : pu_nx p n (pu_nx p n a) = pu_nx p n a := by
  by_cases c : pu_nx p n a < n
  · exact pu_nx_no (pu_nx_at ha c)
  · exact pu_nx_end (by omega)
def pu_bl (T : Int → Int) : Int → Bool := fun i => decide (T i = 32)
def pu_sl (T : Int → Int) : Int → Bool := fun i => decide (97 ≤ T i ∧ T i ≤ 122)
def pu_dg (T : Int → Int) : Int → Bool := fun i => decide (48 ≤ T i ∧ T i ≤ 57)
theorem pu_bl_t {T : Int → Int} {i : Int} : pu_bl T i = true ↔ T i = 32 := decide_eq_true_iff
theorem pu_sl_t {T : Int → Int} {i : Int} : pu_sl T i = true ↔ 97 ≤ T i ∧ T i ≤ 122 := decide_eq_true_iff
theorem pu_dg_t {T : Int → Int} {i : Int} : pu_dg T i = true ↔ 48 ≤ T i ∧ T i ≤ 57 := decide_eq_true_iff
theorem pu_bl_f {T : Int → Int} {i : Int} : pu_bl T i = false ↔ T i ≠ 32 := decide_eq_false_iff_not
theorem pu_sl_f {T : Int → Int} {i : Int} : pu_sl T i = false ↔ ¬ (97 ≤ T i ∧ T i ≤ 122) := decide_eq_false_iff_not
theorem pu_dg_f {T : Int → Int} {i : Int} : pu_dg T i = false ↔ ¬ (48 ≤ T i ∧ T i ≤ 57) := decide_eq_false_iff_not
def pu_rd (B : MiD) (v a f p : Int) : MiD := fun q j i => if q = 9 ∧ j = v ∧ i = 2 then a else if q = 9 ∧ j = v ∧ i = 3 then f else if q = 9 ∧ j = v ∧ i = 4 then p else B q j i
def pu_rm (B : MiD) (a f p : Int) : MiD := fun q j i => if q = 40 ∧ j = 0 ∧ i = 4 then a else if q = 40 ∧ j = 0 ∧ i = 6 then f else if q = 40 ∧ j = 0 ∧ i = 7 then p else B q j i
theorem pu_rd2 {B : MiD} {v a f p : Int} : pu_rd B v a f p 9 v 2 = a := by unfold pu_rd; rw [if_pos ⟨rfl, rfl, rfl⟩]
theorem pu_rd3 {B : MiD} {v a f p : Int} : pu_rd B v a f p 9 v 3 = f := by unfold pu_rd; rw [if_neg (by omega), if_pos ⟨rfl, rfl, rfl⟩]
theorem pu_rd4 {B : MiD} {v a f p : Int} : pu_rd B v a f p 9 v 4 = p := by unfold pu_rd; rw [if_neg (by omega), if_neg (by omega), if_pos ⟨rfl, rfl, rfl⟩]
theorem pu_rdo {B : MiD} {v a f p : Int} {q : Nat} {j i : Int} (h : ¬ (q = 9 ∧ j = v ∧ (i = 2 ∨ i = 3 ∨ i = 4))) : pu_rd B v a f p q j i = B q j i := by unfold pu_rd; rw [if_neg (by omega), if_neg (by omega), if_neg (by omega)]
theorem pu_rm4 {B : MiD} {a f p : Int} : pu_rm B a f p 40 0 4 = a := by unfold pu_rm; rw [if_pos ⟨rfl, rfl, rfl⟩]
theorem pu_rm6 {B : MiD} {a f p : Int} : pu_rm B a f p 40 0 6 = f := by unfold pu_rm; rw [if_neg (by omega), if_pos ⟨rfl, rfl, rfl⟩]
theorem pu_rm7 {B : MiD} {a f p : Int} : pu_rm B a f p 40 0 7 = p := by unfold pu_rm; rw [if_neg (by omega), if_neg (by omega), if_pos ⟨rfl, rfl, rfl⟩]
theorem pu_rmo {B : MiD} {a f p : Int} {q : Nat} {j i : Int} (h : ¬ (q = 40 ∧ j = 0 ∧ (i = 4 ∨ i = 6 ∨ i = 7))) : pu_rm B a f p q j i = B q j i := by unfold pu_rm; rw [if_neg (by omega), if_neg (by omega), if_neg (by omega)]
theorem pu_rds2 {B : MiD} {v a f p b : Int} : mi_st (pu_rd B v a f p) 9 v 2 b = pu_rd B v b f p := by
  funext q j i
  rw [pu_st]
  unfold pu_rd
  split
  · rfl
  · rfl
theorem pu_rds3 {B : MiD} {v a f p b : Int} : mi_st (pu_rd B v a f p) 9 v 3 b = pu_rd B v a b p := by
  funext q j i
  rw [pu_st]
  unfold pu_rd
  by_cases c : q = 9 ∧ j = v ∧ i = 3
  · rw [if_pos c, if_neg (by omega), if_pos c]
  · rw [if_neg c, if_neg c, if_neg c]
theorem pu_rds4 {B : MiD} {v a f p b : Int} : mi_st (pu_rd B v a f p) 9 v 4 b = pu_rd B v a f b := by
  funext q j i
  rw [pu_st]
  unfold pu_rd
  by_cases c : q = 9 ∧ j = v ∧ i = 4
  · rw [if_pos c, if_neg (by omega), if_neg (by omega), if_pos c]
  · rw [if_neg c, if_neg c, if_neg c]
theorem pu_rdso {B : MiD} {v a f p x j i : Int} {r : Nat} (h : ¬ (r = 9 ∧ j = v ∧ (i = 2 ∨ i = 3 ∨ i = 4))) : mi_st (pu_rd B v a f p) r j i x = pu_rd (mi_st B r j i x) v a f p := by
  funext q j' i'
  rw [pu_st]
  unfold pu_rd
  by_cases c : q = r ∧ j' = j ∧ i' = i
  · rw [if_pos c, if_neg (by omega), if_neg (by omega), if_neg (by omega), pu_st, if_pos c]
  · rw [if_neg c, pu_st, if_neg c]
theorem pu_rms4 {B : MiD} {a f p b : Int} : mi_st (pu_rm B a f p) 40 0 4 b = pu_rm B b f p := by
  funext q j i
  rw [pu_st]
  unfold pu_rm
  split
  · rfl
  · rfl
theorem pu_rms6 {B : MiD} {a f p b : Int} : mi_st (pu_rm B a f p) 40 0 6 b = pu_rm B a b p := by
  funext q j i
  rw [pu_st]
  unfold pu_rm
  by_cases c : q = 40 ∧ j = 0 ∧ i = 6
  · rw [if_pos c, if_neg (by omega), if_pos c]
  · rw [if_neg c, if_neg c, if_neg c]
theorem pu_rms7 {B : MiD} {a f p b : Int} : mi_st (pu_rm B a f p) 40 0 7 b = pu_rm B a f b := by
  funext q j i
  rw [pu_st]
  unfold pu_rm
  by_cases c : q = 40 ∧ j = 0 ∧ i = 7
  · rw [if_pos c, if_neg (by omega), if_neg (by omega), if_pos c]
  · rw [if_neg c, if_neg c, if_neg c]
theorem pu_rmso {B : MiD} {a f p x j i : Int} {r : Nat} (h : ¬ (r = 40 ∧ j = 0 ∧ (i = 4 ∨ i = 6 ∨ i = 7))) : mi_st (pu_rm B a f p) r j i x = pu_rm (mi_st B r j i x) a f p := by
  funext q j' i'
  rw [pu_st]
  unfold pu_rm
  by_cases c : q = r ∧ j' = j ∧ i' = i
  · rw [if_pos c, if_neg (by omega), if_neg (by omega), if_neg (by omega), pu_st, if_pos c]
  · rw [if_neg c, pu_st, if_neg c]
def pu_fd (B : MiD) (v a f p k w : Int) : MiD := if f ≠ 0 then pu_rd B v a f p else pu_rd B v a k w
def pu_fdm (B : MiD) (a f p k w : Int) : MiD := if f ≠ 0 then pu_rm B a f p else pu_rm B a k w
theorem pu_failE {B : MiD} {v a f p k w : Int} : B_X5_fail v k w (pu_rd B v a f p) = some (pu_fd B v a f p k w) := by
  unfold B_X5_fail pu_fd
  rw [pu_rd3]
  by_cases c : f ≠ 0
  · rw [if_pos c, if_pos c]
  · rw [if_neg c, if_neg c, pu_letE, pu_letE, pu_rds3, pu_rds4]
theorem pu_wrongE {B : MiD} {a f p k w : Int} : B_X11_wrong k w (pu_rm B a f p) = some (pu_fdm B a f p k w) := by
  unfold B_X11_wrong pu_fdm
  rw [pu_rm6]
  by_cases c : f ≠ 0
  · rw [if_pos c, if_pos c]
  · rw [if_neg c, if_neg c, pu_letE, pu_letE, pu_rms6, pu_rms7]
def pu_X1 (Z : MiZ) (v n : Int) (T : Int → Int) (B : MiD) : Prop := (0 ≤ n) ∧ (n ≤ 500) ∧ (Z.1 9 v 0 = 0) ∧ (B 9 v 1 = n) ∧ (∀ i : Int, 0 ≤ i → i < n → B 10 0 i = T i) ∧ (∀ i : Int, 0 ≤ i → i < n → -128 ≤ T i ∧ T i < 128)
theorem pu_X1.n0 {Z : MiZ} {v n : Int} {T : Int → Int} {B : MiD} (h : pu_X1 Z v n T B) : 0 ≤ n := h.1
theorem pu_X1.n5 {Z : MiZ} {v n : Int} {T : Int → Int} {B : MiD} (h : pu_X1 Z v n T B) : n ≤ 500 := h.2.1
theorem pu_X1.lk {Z : MiZ} {v n : Int} {T : Int → Int} {B : MiD} (h : pu_X1 Z v n T B) : Z.1 9 v 0 = 0 := h.2.2.1
theorem pu_X1.ln {Z : MiZ} {v n : Int} {T : Int → Int} {B : MiD} (h : pu_X1 Z v n T B) : B 9 v 1 = n := h.2.2.2.1
theorem pu_X1.t {Z : MiZ} {v n : Int} {T : Int → Int} {B : MiD} (h : pu_X1 Z v n T B) : ∀ i : Int, 0 ≤ i → i < n → B 10 0 i = T i := h.2.2.2.2.1
theorem pu_X1.tb {Z : MiZ} {v n : Int} {T : Int → Int} {B : MiD} (h : pu_X1 Z v n T B) : ∀ i : Int, 0 ≤ i → i < n → -128 ≤ T i ∧ T i < 128 := h.2.2.2.2.2
def pu_X2 (n : Int) (T : Int → Int) (B : MiD) : Prop := (0 ≤ n) ∧ (n ≤ 500) ∧ (B 40 0 3 = n) ∧ (∀ i : Int, 0 ≤ i → i < n → B 42 0 i = T i % 256) ∧ (∀ i : Int, 0 ≤ i → i < n → -128 ≤ T i ∧ T i < 128)
theorem pu_X2.n0 {n : Int} {T : Int → Int} {B : MiD} (h : pu_X2 n T B) : 0 ≤ n := h.1
theorem pu_X2.n5 {n : Int} {T : Int → Int} {B : MiD} (h : pu_X2 n T B) : n ≤ 500 := h.2.1
theorem pu_X2.ln {n : Int} {T : Int → Int} {B : MiD} (h : pu_X2 n T B) : B 40 0 3 = n := h.2.2.1
theorem pu_X2.t {n : Int} {T : Int → Int} {B : MiD} (h : pu_X2 n T B) : ∀ i : Int, 0 ≤ i → i < n → B 42 0 i = T i % 256 := h.2.2.2.1
theorem pu_X2.tb {n : Int} {T : Int → Int} {B : MiD} (h : pu_X2 n T B) : ∀ i : Int, 0 ≤ i → i < n → -128 ≤ T i ∧ T i < 128 := h.2.2.2.2
def pu_ba (T : Int → Int) (n i : Int) : Int := if i < n then T i % 256 else -1
theorem pu_X2.b {n : Int} {T : Int → Int} {B : MiD} (h : pu_X2 n T B) {a f p i : Int} (hi : 0 ≤ i) : B_X11_byteAt (pu_rm B a f p) i = some (pu_ba T n i) := by
  unfold B_X11_byteAt pu_ba
  have n5 := h.n5
  rw [pu_rmo (by omega), h.ln]
  by_cases c : i < n
  · rw [if_pos c, if_pos c, if_pos (by omega), pu_rmo (by omega), h.t i hi c]
  · rw [if_neg c, if_neg c]
theorem pu_skipE {Z : MiZ} {v n : Int} {T : Int → Int} {B : MiD} (h : pu_X1 Z v n T B) {fl p : Int} : ∀ (f : Nat) (a : Int), 0 ≤ a → a ≤ n → n - a < f → B_X5_skipBlanks_0 Z f v (pu_rd B v a fl p) = some (pu_rd B v (pu_nx (pu_bl T) n a) fl p)
  | 0, a, h1, h2, h3 => by omega
  | f + 1, a, h1, h2, h3 => by
    have n5 := h.n5
    unfold B_X5_skipBlanks_0
    rw [pu_rdo (by omega), pu_rd2, h.ln, h.lk]
    by_cases c : n ≤ a
    · rw [if_pos c, pu_nx_end c]
    · rw [if_neg c, if_pos (by decide), if_pos (by omega), pu_rdo (by omega), h.t a h1 (by omega)]
      by_cases e : T a = 32
      · rw [if_neg (fun z => z e), pu_letE, pu_rds2, pu_w (by omega) (by omega), pu_skipE h f (a + 1) (by omega) (by omega) (by omega), pu_nx_go (by omega) (pu_bl_t.mpr e)]
      · rw [if_pos e, pu_nx_no (pu_bl_f.mpr e)]
theorem pu_endE {Z : MiZ} {v n : Int} {T : Int → Int} {B : MiD} (h : pu_X1 Z v n T B) {b fl p : Int} : ∀ (f : Nat) (a : Int), 0 ≤ a → a ≤ n → n - a < f → B_X5_wordEnd_5 (pu_rd B v b fl p) Z f v a = some (pu_nx (pu_sl T) n a)
  | 0, a, h1, h2, h3 => by omega
  | f + 1, a, h1, h2, h3 => by
    have n5 := h.n5
    unfold B_X5_wordEnd_5
    rw [pu_rdo (by omega), h.ln, h.lk]
    by_cases c : n ≤ a
    · rw [if_pos c, pu_nx_end c]
    · rw [if_neg c, if_pos (by decide), if_pos (by omega), pu_rdo (by omega), h.t a h1 (by omega)]
      by_cases e : 97 ≤ T a ∧ T a ≤ 122
      · rw [if_neg (by omega), if_neg (by omega), pu_w (by omega) (by omega), pu_endE h f (a + 1) (by omega) (by omega) (by omega), pu_nx_go (by omega) (pu_sl_t.mpr e)]
      · rw [pu_nx_no (pu_sl_f.mpr e)]
        by_cases e1 : T a < 97
        · rw [if_pos e1]
        · rw [if_neg e1, if_pos (by omega)]
theorem pu_hereE {n : Int} {T : Int → Int} {B : MiD} (h : pu_X2 n T B) {fl p : Int} : ∀ (f : Nat) (a : Int), 0 ≤ a → a ≤ n → n - a < f → B_X11_here_0 f (pu_rm B a fl p) = some (pu_ba T n (pu_nx (pu_bl T) n a), pu_rm B (pu_nx (pu_bl T) n a) fl p)
  | 0, a, h1, h2, h3 => by omega
  | f + 1, a, h1, h2, h3 => by
    have n5 := h.n5
    unfold B_X11_here_0
    rw [pu_rm4, h.b h1, pu_biE, pu_biE]
    by_cases c : n ≤ a
    · rw [if_pos (by unfold pu_ba; rw [if_neg (by omega)]; decide), pu_nx_end c]
    · have tb := h.tb a h1 (by omega)
      by_cases e : T a = 32
      · rw [if_neg (by unfold pu_ba; rw [if_pos (by omega), e]; decide), pu_letE, pu_rms4, pu_w (by omega) (by omega), pu_hereE h f (a + 1) (by omega) (by omega) (by omega), pu_nx_go (by omega) (pu_bl_t.mpr e)]
      · rw [if_pos (by unfold pu_ba; rw [if_pos (by omega)]; omega), pu_nx_no (pu_bl_f.mpr e)]
theorem pu_isSm {n : Int} {T : Int → Int} {B : MiD} (h : pu_X2 n T B) {i : Int} (h1 : 0 ≤ i) : B_X11_isSmall (pu_ba T n i) = if i < n ∧ pu_sl T i = true then 1 else 0 := by
  unfold B_X11_isSmall pu_ba
  simp only [pu_sl_t]
  by_cases c : i < n
  · have tb := h.tb i h1 c
    rw [if_pos c]
    simp only [c, true_and]
    repeat' split
    all_goals omega
  · rw [if_neg c, if_pos (by decide), if_neg (fun z => c z.1)]
theorem pu_isDg {n : Int} {T : Int → Int} {B : MiD} (h : pu_X2 n T B) {i : Int} (h1 : 0 ≤ i) : B_X11_isDigit (pu_ba T n i) = if i < n ∧ pu_dg T i = true then 1 else 0 := by
  unfold B_X11_isDigit pu_ba
  simp only [pu_dg_t]
  by_cases c : i < n
  · have tb := h.tb i h1 c
    rw [if_pos c]
    simp only [c, true_and]
    repeat' split
    all_goals omega
  · rw [if_neg c, if_pos (by decide), if_neg (fun z => c z.1)]
theorem pu_skipWE {n : Int} {T : Int → Int} {B : MiD} (h : pu_X2 n T B) {fl p : Int} : ∀ (f : Nat) (a : Int), 0 ≤ a → a ≤ n → n - a < f → B_X11_skipWord_0 f (pu_rm B a fl p) = some (pu_rm B (pu_nx (pu_sl T) n a) fl p)
  | 0, a, h1, h2, h3 => by omega
  | f + 1, a, h1, h2, h3 => by
    have n5 := h.n5
    unfold B_X11_skipWord_0
    rw [pu_rm4, h.b h1, pu_biE, pu_isSm h h1]
    by_cases c : a < n ∧ pu_sl T a = true
    · rw [if_pos c, if_neg (by decide), pu_letE, pu_rms4, pu_w (by omega) (by omega), pu_skipWE h f (a + 1) (by omega) (by omega) (by omega), pu_nx_go c.1 c.2]
    · rw [if_neg c, if_pos rfl]
      by_cases d : a < n
      · rw [pu_nx_no (by simpa using fun z => c ⟨d, z⟩)]
      · rw [pu_nx_end (by omega)]
theorem pu_lenF : ∀ w : Fin 64, mi_shr (mi_sl ((w.val : Nat) : Int)) 0 = mi_sl ((w.val : Nat) : Int) := by decide +kernel
theorem pu_chrF : ∀ w : Fin 64, ∀ i : Fin 17, ((i.val : Nat) : Int) < mi_sl ((w.val : Nat) : Int) → mi_c (mi_and (mi_sc ((w.val : Nat) : Int) ((i.val : Nat) : Int)) 255) = mi_sc ((w.val : Nat) : Int) ((i.val : Nat) : Int) := by decide +kernel
theorem pu_slF : ∀ w : Fin 64, mi_sl ((w.val : Nat) : Int) < 17 := by decide +kernel
theorem pu_lenE {D : MiD} {w : Int} (h : 0 ≤ w ∧ w < 64) : B_J0_length_8abf5 D w = some (mi_sl w) := by
  obtain ⟨k, rfl⟩ := Int.eq_ofNat_of_zero_le h.1
  unfold B_J0_length_8abf5
  rw [pu_lenF ⟨k, by omega⟩]
theorem pu_chrE {D : MiD} {w i : Int} (h : 0 ≤ w ∧ w < 64) (hi : 0 ≤ i ∧ i < mi_sl w) : B_J0_charAt_5068e D w i = some (mi_sc w i) := by
  obtain ⟨k, rfl⟩ := Int.eq_ofNat_of_zero_le h.1
  obtain ⟨j, rfl⟩ := Int.eq_ofNat_of_zero_le hi.1
  have h17 : mi_sl (k : Int) < 17 := pu_slF ⟨k, by omega⟩
  have e := pu_chrF ⟨k, by omega⟩ ⟨j, by omega⟩ hi.2
  have eb : 0 ≤ mi_sc (k : Int) (j : Int) ∧ mi_sc (k : Int) (j : Int) < 65536 := by
    have : mi_c (mi_and (mi_sc (k : Int) (j : Int)) 255) = mi_sc (k : Int) (j : Int) := e
    rw [← this]
    unfold mi_c
    omega
  unfold B_J0_charAt_5068e B_J1_charAt_3b067 B_J0_checkIndex_df160 B_J3_checkIndex_8e157
  rw [if_pos (by omega), if_pos hi.2, pu_biE, pu_biE, if_pos hi, show mi_c (mi_and (mi_sc (k : Int) (j : Int)) 255) = mi_sc (k : Int) (j : Int) from e, if_pos eb, pu_biE, if_pos eb]
def pu_cd (g : Nat → Int) : Nat → Int
  | 0 => 0
  | m + 1 => 27 * pu_cd g m + g m
theorem pu_cd_inj {g g' : Nat → Int} : ∀ (m m' : Nat), (∀ i : Nat, i < m → 1 ≤ g i ∧ g i ≤ 26) → (∀ i : Nat, i < m' → 1 ≤ g' i ∧ g' i ≤ 26) → pu_cd g m = pu_cd g' m' → m = m' ∧ ∀ i : Nat, i < m → g i = g' i
  | 0, 0, h, h', e => ⟨rfl, fun i a => by omega⟩
  | 0, m' + 1, h, h', e => by
    exfalso
    have b := h' m' (by omega)
    have c : ∀ k : Nat, k ≤ m' → 0 ≤ pu_cd g' k := fun k => by
      induction k with
      | zero => intro _; exact Int.le_refl 0
      | succ k ih =>
        intro x
        have := ih (by omega)
        have := h' k (by omega)
        show 0 ≤ 27 * pu_cd g' k + g' k
        omega
    have := c m' (by omega)
    have e' : (0 : Int) = 27 * pu_cd g' m' + g' m' := e
    omega
  | m + 1, 0, h, h', e => by
    exfalso
    have b := h m (by omega)
    have c : ∀ k : Nat, k ≤ m → 0 ≤ pu_cd g k := fun k => by
      induction k with
      | zero => intro _; exact Int.le_refl 0
      | succ k ih =>
        intro x
        have := ih (by omega)
        have := h k (by omega)
        show 0 ≤ 27 * pu_cd g k + g k
        omega
    have := c m (by omega)
    have e' : 27 * pu_cd g m + g m = (0 : Int) := e
    omega
  | m + 1, m' + 1, h, h', e => by
    have b := h m (by omega)
    have b' := h' m' (by omega)
    have e' : 27 * pu_cd g m + g m = 27 * pu_cd g' m' + g' m' := e
    obtain ⟨k1, k2⟩ := pu_cd_inj m m' (fun i a => h i (by omega)) (fun i a => h' i (by omega)) (by omega)
    subst k1
    refine ⟨rfl, fun i a => ?_⟩
    by_cases c : i = m
    · subst c; omega
    · exact k2 i (by omega)
theorem pu_cd_b {g : Nat → Int} : ∀ (m : Nat), (∀ i : Nat, i < m → 1 ≤ g i ∧ g i ≤ 26) → 0 ≤ pu_cd g m ∧ pu_cd g m + 1 ≤ (27 : Int) ^ m
  | 0, h => by
    show (0 : Int) ≤ 0 ∧ (0 : Int) + 1 ≤ 27 ^ 0
    decide
  | m + 1, h => by
    obtain ⟨h1, h2⟩ := pu_cd_b m (fun i a => h i (by omega))
    have b := h m (by omega)
    rw [Int.pow_succ]
    show 0 ≤ 27 * pu_cd g m + g m ∧ 27 * pu_cd g m + g m + 1 ≤ _
    omega
theorem pu_cd_6 {g : Nat → Int} {m : Nat} (hm : m ≤ 6) (h : ∀ i : Nat, i < m → 1 ≤ g i ∧ g i ≤ 26) : 0 ≤ pu_cd g m ∧ pu_cd g m < 387420489 := by
  obtain ⟨h1, h2⟩ := pu_cd_b m h
  have : m = 0 ∨ m = 1 ∨ m = 2 ∨ m = 3 ∨ m = 4 ∨ m = 5 ∨ m = 6 := by omega
  rcases this with rfl | rfl | rfl | rfl | rfl | rfl | rfl <;> omega
theorem pu_cd_e {g g' : Nat → Int} : ∀ (m : Nat), (∀ i : Nat, i < m → g i = g' i) → pu_cd g m = pu_cd g' m
  | 0, h => rfl
  | m + 1, h => by
    show 27 * pu_cd g m + g m = 27 * pu_cd g' m + g' m
    rw [pu_cd_e m (fun i a => h i (by omega)), h m (by omega)]
def pu_wc (T : Int → Int) (n b : Int) : Int := if b < pu_nx (pu_sl T) n b ∧ pu_nx (pu_sl T) n b ≤ b + 6 then pu_cd (fun i => T (b + i) - 96) (pu_nx (pu_sl T) n b - b).toNat else -1
def pu_kw (w : Int) : Int := pu_cd (fun i => mi_sc w i - 96) (mi_sl w).toNat
theorem pu_small {T : Int → Int} {n b : Int} {i : Nat} (h : (i : Int) < pu_nx (pu_sl T) n b - b) : 1 ≤ T (b + i) - 96 ∧ T (b + i) - 96 ≤ 26 := by
  have := pu_sl_t.mp (pu_nx_in (p := pu_sl T) (n := n) (a := b) (i := b + i) (by omega) (by omega))
  omega
def pu_gw (w : Int) : Prop := (0 ≤ w ∧ w < 64) ∧ (0 < mi_sl w ∧ mi_sl w ≤ 6) ∧ ∀ i : Nat, i < (mi_sl w).toNat → 1 ≤ mi_sc w i - 96 ∧ mi_sc w i - 96 ≤ 26
theorem pu_wcE {T : Int → Int} {n b w : Int} (hb : b ≤ n) (hw : pu_gw w) : pu_wc T n b = pu_kw w ↔ pu_nx (pu_sl T) n b - b = mi_sl w ∧ ∀ i : Nat, i < (mi_sl w).toNat → T (b + i) = mi_sc w i := by
  obtain ⟨hw1, hw2, hw3⟩ := hw
  have g0 : b ≤ pu_nx (pu_sl T) n b := pu_nx_le
  unfold pu_wc pu_kw
  by_cases c : b < pu_nx (pu_sl T) n b ∧ pu_nx (pu_sl T) n b ≤ b + 6
  · rw [if_pos c]
    constructor
    · intro e
      obtain ⟨k1, k2⟩ := pu_cd_inj _ _ (fun i a => pu_small (n := n) (by omega)) hw3 e
      refine ⟨by omega, fun i a => ?_⟩
      have := k2 i (by omega)
      show T (b + i) = mi_sc w i
      have e' : T (b + i) - 96 = mi_sc w i - 96 := this
      omega
    · rintro ⟨e1, e2⟩
      rw [show (pu_nx (pu_sl T) n b - b).toNat = (mi_sl w).toNat by omega]
      exact pu_cd_e _ fun i a => by
        show T (b + i) - 96 = mi_sc w i - 96
        rw [e2 i a]
  · rw [if_neg c]
    constructor
    · intro e
      exfalso
      have := (pu_cd_6 (by omega) hw3).1
      omega
    · rintro ⟨e1, e2⟩
      exfalso
      omega
theorem pu_passW_l {Z : MiZ} {v n : Int} {T : Int → Int} {B : MiD} (h : pu_X1 Z v n T B) {w b e fl p : Int} (hw : pu_gw w) (hb : 0 ≤ b) (he : b + mi_sl w ≤ n) : ∀ (f : Nat) (m : Nat), (m : Int) ≤ mi_sl w → 7 - (m : Int) < f → (∀ i : Nat, i < m → T (b + i) = mi_sc w i) →
    B_X5_passWord_26 Z f v w e m (pu_rd B v b fl p) = some (@ite _ (∀ i : Nat, i < (mi_sl w).toNat → T (b + i) = mi_sc w i) (Classical.propDecidable _) (1, pu_rd B v e fl p) (0, pu_rd B v b fl p))
  | 0, m, h1, h2, h3 => by obtain ⟨-, q, -⟩ := hw; omega
  | f + 1, m, h1, h2, h3 => by
    have n5 := h.n5
    obtain ⟨q1, q2, q3⟩ := hw
    unfold B_X5_passWord_26
    rw [pu_lenE q1, pu_biE]
    by_cases c : mi_sl w ≤ m
    · rw [if_pos c, pu_letE, pu_rds2, if_pos (fun i a => h3 i (by omega))]
    · rw [if_neg c, h.lk, if_pos (by decide), pu_rd2, pu_w (x := b + m) (by omega) (by omega), if_pos (by omega), pu_chrE q1 ⟨by omega, by omega⟩, pu_biE, pu_rdo (by omega), h.t (b + m) (by omega) (by omega)]
      by_cases d : T (b + m) = mi_sc w m
      · rw [if_pos d, pu_w (x := (m : Int) + 1) (by omega) (by omega)]
        exact pu_passW_l h ⟨q1, q2, q3⟩ hb he f (m + 1) (by omega) (by omega) (fun i a => by
          by_cases g : i = m
          · subst g; exact d
          · exact h3 i (by omega))
      · rw [if_neg d, if_neg (fun z => d (z m (by omega)))]
theorem pu_passWE {Z : MiZ} {v n : Int} {T : Int → Int} {B : MiD} (h : pu_X1 Z v n T B) {w a fl p : Int} (hw : pu_gw w) (h1 : 0 ≤ a) (h2 : a ≤ n) :
    B_X5_passWord Z v w (pu_rd B v a fl p) = some (if pu_wc T n (pu_nx (pu_bl T) n a) = pu_kw w then (1, pu_rd B v (pu_nx (pu_sl T) n (pu_nx (pu_bl T) n a)) fl p) else (0, pu_rd B v (pu_nx (pu_bl T) n a) fl p)) := by
  have n5 := h.n5
  have fE := pu_fuelE
  have b1 : a ≤ pu_nx (pu_bl T) n a := pu_nx_le
  have b2 : pu_nx (pu_bl T) n a ≤ n := pu_nx_ge h2
  unfold B_X5_passWord B_X5_wordEnd
  rw [pu_skipE h _ a h1 h2 (by omega), pu_biE, pu_rd2]
  generalize pu_nx (pu_bl T) n a = b at *
  have e1 : b ≤ pu_nx (pu_sl T) n b := pu_nx_le
  have e2 : pu_nx (pu_sl T) n b ≤ n := pu_nx_ge b2
  rw [pu_endE h _ b (by omega) b2 (by omega), pu_biE, pu_lenE hw.1, pu_biE, pu_w (by omega) (by omega)]
  have iff := pu_wcE (T := T) b2 hw
  by_cases c : pu_nx (pu_sl T) n b - b = mi_sl w
  · have l := pu_passW_l h (e := pu_nx (pu_sl T) n b) (fl := fl) (p := p) hw (by omega : 0 ≤ b) (by omega) mi_fuel 0 (by have := hw.2.1; omega) (by omega) (fun i a => by omega)
    rw [if_pos c]
    refine l.trans ?_
    by_cases d : ∀ i : Nat, i < (mi_sl w).toNat → T (b + i) = mi_sc w i
    · rw [if_pos d, if_pos (iff.mpr ⟨c, d⟩)]
    · rw [if_neg d, if_neg (fun z => d (iff.mp z).2)]
  · rw [if_neg c, if_neg (fun z => c (iff.mp z).1)]
theorem pu_wordH_l {n : Int} {T : Int → Int} {B : MiD} (h : pu_X2 n T B) {b fl p : Int} (hb : 0 ≤ b) (h2 : b ≤ n) : ∀ (f : Nat) (m : Nat), m ≤ 6 → 6 - m < f → (m : Int) ≤ pu_nx (pu_sl T) n b - b →
    B_X11_wordHere_9 f (pu_cd (fun i => T (b + i) - 96) m) m (pu_rm B b fl p) = some (pu_wc T n b, pu_rm B b fl p)
  | 0, m, h3, h4, h5 => by omega
  | f + 1, m, h3, h4, h5 => by
    have n5 := h.n5
    have e2 : pu_nx (pu_sl T) n b ≤ n := pu_nx_ge h2
    unfold B_X11_wordHere_9
    rw [pu_rm4, pu_w (x := b + m) (by omega) (by omega), h.b (by omega), pu_biE, pu_isSm h (by omega)]
    by_cases c : (m : Int) = pu_nx (pu_sl T) n b - b
    · have d : ¬ (b + m < n ∧ pu_sl T (b + m) = true) := by
        rintro ⟨x, y⟩
        have := pu_nx_at (p := pu_sl T) h2 (by omega)
        rw [show b + (m : Int) = pu_nx (pu_sl T) n b by omega, this] at y
        exact absurd y (by decide)
      rw [if_neg d, if_pos rfl]
      unfold pu_wc
      by_cases g : m = 0
      · subst g
        rw [if_neg (show ¬ (((0 : Nat) : Int) ≠ 0) by decide), if_neg (by omega)]
      · rw [if_pos (by omega), if_pos (by omega), ← c, Int.toNat_natCast]
    · have d : b + m < n ∧ pu_sl T (b + m) = true := ⟨by omega, pu_nx_in (n := n) (a := b) (by omega) (by omega)⟩
      have s := pu_sl_t.mp d.2
      have tb := h.tb (b + m) (by omega) d.1
      obtain ⟨k1, k2⟩ := pu_cd_6 (g := fun i => T (b + i) - 96) h3 (fun i a => pu_small (n := n) (by omega))
      rw [if_pos d, if_neg (by decide), pu_biE, pu_letE]
      generalize hg : (fun i : Nat => T (b + i) - 96) = g at *
      have e : mi_W (mi_W (mi_W (mi_W (27 * pu_cd g m) + pu_ba T n (b + m)) - 97) + 1) = pu_cd g (m + 1) := by
        have e3 : pu_ba T n (b + m) = T (b + m) := by unfold pu_ba; rw [if_pos d.1]; omega
        have e4 : g m = T (b + m) - 96 := by rw [← hg]
        show _ = 27 * pu_cd g m + g m
        rw [e3, e4, pu_W (x := 27 * pu_cd g m) (by omega) (by omega), pu_W (x := 27 * pu_cd g m + T (b + m)) (by omega) (by omega), pu_W (x := 27 * pu_cd g m + T (b + m) - 97) (by omega) (by omega), pu_W (by omega) (by omega)]
        omega
      rw [e, pu_w (x := (m : Int) + 1) (by omega) (by omega)]
      by_cases g6 : m + 1 ≤ 6
      · rw [if_pos (by omega), ← hg]
        exact pu_wordH_l h hb h2 f (m + 1) g6 (by omega) (by omega)
      · rw [if_neg (by omega)]
        unfold pu_wc
        rw [if_neg (by omega)]
theorem pu_wordHE {n : Int} {T : Int → Int} {B : MiD} (h : pu_X2 n T B) {a fl p : Int} (h1 : 0 ≤ a) (h2 : a ≤ n) : B_X11_wordHere (pu_rm B a fl p) = some (pu_wc T n (pu_nx (pu_bl T) n a), pu_rm B (pu_nx (pu_bl T) n a) fl p) := by
  have n5 := h.n5
  have fE := pu_fuelE
  have b1 : a ≤ pu_nx (pu_bl T) n a := pu_nx_le
  have b2 : pu_nx (pu_bl T) n a ≤ n := pu_nx_ge h2
  have e1 : pu_nx (pu_bl T) n a ≤ pu_nx (pu_sl T) n (pu_nx (pu_bl T) n a) := pu_nx_le
  unfold B_X11_wordHere
  rw [pu_hereE h _ a h1 h2 (by omega), pu_b2E]
  exact pu_wordH_l h (by omega) b2 mi_fuel 0 (by omega) (by omega) (by omega)
theorem pu_coded_l {D : MiD} {w : Int} (hw : pu_gw w) : ∀ (f : Nat) (m : Nat), (m : Int) ≤ mi_sl w → 7 - (m : Int) < f → B_X11_coded_4 D f w (pu_cd (fun i => mi_sc w i - 96) m) m = some (pu_kw w)
  | 0, m, h1, h2 => by obtain ⟨-, q, -⟩ := hw; omega
  | f + 1, m, h1, h2 => by
    obtain ⟨q1, q2, q3⟩ := hw
    unfold B_X11_coded_4
    rw [pu_lenE q1, pu_biE]
    by_cases c : mi_sl w ≤ m
    · rw [if_pos c]
      unfold pu_kw
      rw [show m = (mi_sl w).toNat by omega]
    · have b := q3 m (by omega)
      obtain ⟨k1, k2⟩ := pu_cd_6 (g := fun i => mi_sc w i - 96) (m := m) (by omega) (fun i a => q3 i (by omega))
      have e : mi_W (mi_W (mi_W (mi_W (27 * pu_cd (fun i => mi_sc w i - 96) m) + mi_sc w m) - 97) + 1) = pu_cd (fun i => mi_sc w i - 96) (m + 1) := by
        show _ = 27 * pu_cd (fun i => mi_sc w i - 96) m + (mi_sc w m - 96)
        generalize pu_cd (fun i => mi_sc w i - 96) m = x at *
        rw [pu_W (x := 27 * x) (by omega) (by omega), pu_W (x := 27 * x + mi_sc w m) (by omega) (by omega), pu_W (x := 27 * x + mi_sc w m - 97) (by omega) (by omega), pu_W (by omega) (by omega)]
        omega
      rw [if_neg c, pu_chrE q1 ⟨by omega, by omega⟩, pu_biE, pu_letE, e, pu_w (x := (m : Int) + 1) (by omega) (by omega)]
      exact pu_coded_l ⟨q1, q2, q3⟩ f (m + 1) (by omega) (by omega)
theorem pu_codedE {D : MiD} {w : Int} (hw : pu_gw w) : B_X11_coded D w = some (pu_kw w) := by
  have fE := pu_fuelE
  unfold B_X11_coded
  exact pu_coded_l hw mi_fuel 0 (by have := hw.2.1; omega) (by omega)
theorem pu_cmp_0 {x y : Int} : mi_cmp x y = 0 ↔ x = y := by
  unfold mi_cmp
  by_cases c : y < x
  · rw [if_pos c]; constructor <;> intro z <;> omega
  · rw [if_neg c]
    by_cases d : x = y
    · rw [if_pos d]; simp [d]
    · rw [if_neg d]; constructor <;> intro z <;> omega
theorem pu_takesE {n : Int} {T : Int → Int} {B : MiD} (h : pu_X2 n T B) {w a p : Int} (hw : pu_gw w) (h1 : 0 ≤ a) (h2 : a ≤ n) :
    B_X11_takes w (pu_rm B a 0 p) = some (if pu_wc T n (pu_nx (pu_bl T) n a) = pu_kw w then (1, pu_rm B (pu_nx (pu_sl T) n (pu_nx (pu_bl T) n a)) 0 p) else (0, pu_rm B (pu_nx (pu_bl T) n a) 0 p)) := by
  have n5 := h.n5
  have fE := pu_fuelE
  have b1 : a ≤ pu_nx (pu_bl T) n a := pu_nx_le
  have b2 : pu_nx (pu_bl T) n a ≤ n := pu_nx_ge h2
  unfold B_X11_takes B_X11_fine
  rw [pu_rm6, if_neg (by decide), pu_biE, if_neg (by decide), pu_wordHE h h1 h2, pu_b2E, pu_codedE hw, pu_biE]
  by_cases c : pu_wc T n (pu_nx (pu_bl T) n a) = pu_kw w
  · rw [if_pos (pu_cmp_0.mpr c), if_pos c, pu_skipWE h _ _ (by omega) b2 (by omega), pu_biE]
  · rw [if_neg (fun z => c (pu_cmp_0.mp z)), if_neg c]
theorem pu_takesF {B : MiD} {w a f p : Int} (hf : f ≠ 0) : B_X11_takes w (pu_rm B a f p) = some (0, pu_rm B a f p) := by
  unfold B_X11_takes B_X11_fine
  rw [pu_rm6, if_pos hf, pu_biE, if_pos rfl]
theorem pu_passIfE {Z : MiZ} {v n : Int} {T : Int → Int} {B : MiD} (h : pu_X1 Z v n T B) {c a fl p : Int} (h1 : 0 ≤ a) (h2 : a ≤ n) :
    B_X5_passIf Z v c (pu_rd B v a fl p) = some (if pu_nx (pu_bl T) n a < n ∧ T (pu_nx (pu_bl T) n a) = c then (1, pu_rd B v (pu_nx (pu_bl T) n a + 1) fl p) else (0, pu_rd B v (pu_nx (pu_bl T) n a) fl p)) := by
  have n5 := h.n5
  have fE := pu_fuelE
  have b1 : a ≤ pu_nx (pu_bl T) n a := pu_nx_le
  have b2 : pu_nx (pu_bl T) n a ≤ n := pu_nx_ge h2
  unfold B_X5_passIf
  rw [pu_skipE h _ a h1 h2 (by omega), pu_biE, pu_rd2, pu_rdo (by omega), h.ln, h.lk]
  generalize pu_nx (pu_bl T) n a = b at *
  by_cases d : n ≤ b
  · rw [if_pos d, if_neg (by omega)]
  · rw [if_neg d, if_pos (by decide), if_pos (by omega), pu_rdo (by omega), h.t b (by omega) (by omega)]
    by_cases e : T b = c
    · rw [if_pos e, if_pos ⟨by omega, e⟩, pu_letE, pu_rds2, pu_w (by omega) (by omega)]
    · rw [if_neg e, if_neg (fun z => e z.2)]
theorem pu_passSE {Z : MiZ} {v n : Int} {T : Int → Int} {B : MiD} (h : pu_X1 Z v n T B) {c a fl p : Int} (h1 : 0 ≤ a) (h2 : a ≤ n) :
    B_X5_passSign Z v c (pu_rd B v a fl p) = some (if pu_nx (pu_bl T) n a < n ∧ T (pu_nx (pu_bl T) n a) = c then pu_rd B v (pu_nx (pu_bl T) n a + 1) fl p else pu_fd B v (pu_nx (pu_bl T) n a) fl p 1 (pu_nx (pu_bl T) n a)) := by
  unfold B_X5_passSign
  rw [pu_passIfE h h1 h2]
  by_cases e : pu_nx (pu_bl T) n a < n ∧ T (pu_nx (pu_bl T) n a) = c
  · rw [if_pos e, if_pos e, pu_b2E, if_pos (by decide)]
  · rw [if_neg e, if_neg e, pu_b2E, if_neg (by decide), pu_rd2, pu_failE, pu_biE]
theorem pu_baE {n : Int} {T : Int → Int} {B : MiD} (h : pu_X2 n T B) {b c : Int} (hb : 0 ≤ b) (hc : 0 ≤ c ∧ c < 128) : pu_ba T n b = c ↔ b < n ∧ T b = c := by
  unfold pu_ba
  by_cases d : b < n
  · have tb := h.tb b hb d
    rw [if_pos d]
    constructor
    · intro e; exact ⟨d, by omega⟩
    · rintro ⟨-, e⟩; omega
  · rw [if_neg d]
    constructor
    · intro e; omega
    · intro e; exact absurd e.1 d
theorem pu_signE {n : Int} {T : Int → Int} {B : MiD} (h : pu_X2 n T B) {c a p : Int} (hc : 0 ≤ c ∧ c < 128) (h1 : 0 ≤ a) (h2 : a ≤ n) :
    B_X11_sign c (pu_rm B a 0 p) = some (if pu_nx (pu_bl T) n a < n ∧ T (pu_nx (pu_bl T) n a) = c then pu_rm B (pu_nx (pu_bl T) n a + 1) 0 p else pu_rm B (pu_nx (pu_bl T) n a) 1 (pu_nx (pu_bl T) n a)) := by
  have n5 := h.n5
  have fE := pu_fuelE
  have b1 : a ≤ pu_nx (pu_bl T) n a := pu_nx_le
  have b2 : pu_nx (pu_bl T) n a ≤ n := pu_nx_ge h2
  unfold B_X11_sign B_X11_fine
  rw [pu_rm6, if_neg (by decide), pu_biE, if_pos (by decide), pu_hereE h _ a h1 h2 (by omega), pu_b2E, pu_rm4]
  generalize pu_nx (pu_bl T) n a = b at *
  have i := pu_baE h (b := b) (by omega) hc
  by_cases e : b < n ∧ T b = c
  · rw [if_neg (fun z => z (i.mpr e)), if_pos e, pu_letE, pu_rms4, pu_w (by omega) (by omega)]
  · rw [if_pos (fun z => e (i.mp z)), if_neg e, pu_wrongE, pu_biE]
    unfold pu_fdm
    rw [if_neg (by decide)]
theorem pu_signF {B : MiD} {c a f p : Int} (hf : f ≠ 0) : B_X11_sign c (pu_rm B a f p) = some (pu_rm B a f p) := by
  unfold B_X11_sign B_X11_fine
  rw [pu_rm6, if_pos hf, pu_biE, if_neg (by decide)]
def pu_nv (cap : Int) (T : Int → Int) : Nat → Int → Int → Int
  | 0, a, x => x
  | f + 1, a, x => pu_nv cap T f (a + 1) (if cap < 10 * x + T a - 48 then cap else 10 * x + T a - 48)
theorem pu_nv_b {cap : Int} {T : Int → Int} (hc : 0 ≤ cap) : ∀ (f : Nat) (a x : Int), (∀ i : Int, a ≤ i → i < a + f → 48 ≤ T i) → 0 ≤ x → x ≤ cap → 0 ≤ pu_nv cap T f a x ∧ pu_nv cap T f a x ≤ cap
  | 0, a, x, h, h1, h2 => ⟨h1, h2⟩
  | f + 1, a, x, h, h1, h2 => by
    have := h a (Int.le_refl a) (by omega)
    show 0 ≤ pu_nv cap T f (a + 1) _ ∧ pu_nv cap T f (a + 1) _ ≤ cap
    exact pu_nv_b hc f (a + 1) _ (fun i p q => h i (by omega) (by omega)) (by split <;> omega) (by split <;> omega)
theorem pu_nv_2 {T : Int → Int} : ∀ (f : Nat) (a x y : Int), (∀ i : Int, a ≤ i → i < a + f → 48 ≤ T i) → 0 ≤ x → y = (if 100000 < x then 100000 else x) → pu_nv 100000 T f a y = (if 100000 < pu_nv 1000000 T f a x then 100000 else pu_nv 1000000 T f a x)
  | 0, a, x, y, h, h1, h2 => h2
  | f + 1, a, x, y, h, h1, h2 => by
    have := h a (Int.le_refl a) (by omega)
    show pu_nv 100000 T f (a + 1) _ = (if 100000 < pu_nv 1000000 T f (a + 1) _ then 100000 else pu_nv 1000000 T f (a + 1) _)
    refine pu_nv_2 f (a + 1) _ _ (fun i p q => h i (by omega) (by omega)) (by split <;> omega) ?_
    subst h2
    repeat' split
    all_goals omega
def pu_ne (T : Int → Int) (n a : Int) : Int := pu_nx (pu_dg T) n (pu_nx (pu_bl T) n a)
def pu_nn (T : Int → Int) (n a : Int) : Int := pu_nv 1000000 T (pu_ne T n a - pu_nx (pu_bl T) n a).toNat (pu_nx (pu_bl T) n a) 0
def pu_nk (T : Int → Int) (n a hi : Int) : Int := if pu_ne T n a = pu_nx (pu_bl T) n a then 1 else if pu_nn T n a ≤ hi then 0 else 2
theorem pu_dgs {T : Int → Int} {n b : Int} : ∀ i : Int, b ≤ i → i < b + ((pu_nx (pu_dg T) n b - b).toNat : Nat) → 48 ≤ T i ∧ T i ≤ 57 := fun i a c => by
  have l : b ≤ pu_nx (pu_dg T) n b := pu_nx_le
  exact pu_dg_t.mp (pu_nx_in (n := n) a (by omega))
theorem pu_nn0 {T : Int → Int} {n a : Int} : 0 ≤ pu_nn T n a ∧ pu_nn T n a ≤ 1000000 := pu_nv_b (by decide) _ _ _ (fun i x y => (pu_dgs (n := n) i x y).1) (by decide) (by decide)
theorem pu_readN_l {Z : MiZ} {v n : Int} {T : Int → Int} {B : MiD} (h : pu_X1 Z v n T B) {s hi fl p : Int} : ∀ (f : Nat) (a x : Int), 0 ≤ a → a ≤ n → n - a < f → 0 ≤ x → x ≤ 100000 →
    B_X5_readNumber_11 Z f v hi s x (pu_rd B v a fl p) = B_X5_readNumber_86 Z v hi s (pu_nv 100000 T (pu_nx (pu_dg T) n a - a).toNat a x) (pu_rd B v (pu_nx (pu_dg T) n a) fl p)
  | 0, a, x, h1, h2, h3, h4, h5 => by omega
  | f + 1, a, x, h1, h2, h3, h4, h5 => by
    have n5 := h.n5
    unfold B_X5_readNumber_11
    rw [pu_rdo (by omega), pu_rd2, h.ln, h.lk]
    by_cases c : n ≤ a
    · rw [if_pos c, pu_nx_end c, show (a - a).toNat = 0 by omega]
      rfl
    · rw [if_neg c, if_pos (by decide), if_pos (by omega), pu_rdo (by omega), h.t a h1 (by omega)]
      by_cases e : 48 ≤ T a ∧ T a ≤ 57
      · have l : a + 1 ≤ pu_nx (pu_dg T) n (a + 1) := pu_nx_le
        rw [if_neg (by omega), if_neg (by omega), pu_letE, pu_letE, pu_rds2, pu_w (x := a + 1) (by omega) (by omega), pu_w (x := x * 10) (by omega) (by omega), pu_w (x := x * 10 + T a) (by omega) (by omega), pu_w (x := x * 10 + T a - 48) (by omega) (by omega)]
        rw [pu_readN_l h f (a + 1) _ (by omega) (by omega) (by omega) (by unfold mi_min; split <;> omega) (by unfold mi_min; split <;> omega), pu_nx_go (by omega) (pu_dg_t.mpr e), show (pu_nx (pu_dg T) n (a + 1) - a).toNat = (pu_nx (pu_dg T) n (a + 1) - (a + 1)).toNat + 1 by omega]
        conv => rhs; unfold pu_nv
        unfold mi_min
        rw [show 10 * x + T a - 48 = x * 10 + T a - 48 by omega]
      · rw [pu_nx_no (pu_dg_f.mpr e), show (a - a).toNat = 0 by omega]
        by_cases e1 : T a < 48
        · rw [if_pos e1]; rfl
        · rw [if_neg e1, if_pos (by omega)]; rfl
theorem pu_readNE {Z : MiZ} {v n : Int} {T : Int → Int} {B : MiD} (h : pu_X1 Z v n T B) {hi a fl p : Int} (h1 : 0 ≤ a) (h2 : a ≤ n) (hh : 0 ≤ hi ∧ hi < 100000) :
    ∃ y, B_X5_readNumber Z v hi (pu_rd B v a fl p) = some (y, if pu_nk T n a hi = 0 then pu_rd B v (pu_ne T n a) fl p else pu_fd B v (pu_ne T n a) fl p (pu_nk T n a hi) (pu_nx (pu_bl T) n a)) ∧ (pu_nn T n a ≤ hi → y = pu_nn T n a) ∧ 0 ≤ y ∧ y ≤ 100000 := by
  have n5 := h.n5
  have fE := pu_fuelE
  have b1 : a ≤ pu_nx (pu_bl T) n a := pu_nx_le
  have b2 : pu_nx (pu_bl T) n a ≤ n := pu_nx_ge h2
  have y2 := pu_nv_2 (T := T) (pu_ne T n a - pu_nx (pu_bl T) n a).toNat (pu_nx (pu_bl T) n a) 0 0 (fun i x y => (pu_dgs (n := n) i x y).1) (by decide) (by decide)
  have nn := pu_nn0 (T := T) (n := n) (a := a)
  have y3 : pu_nv 100000 T (pu_ne T n a - pu_nx (pu_bl T) n a).toNat (pu_nx (pu_bl T) n a) 0 = if 100000 < pu_nn T n a then 100000 else pu_nn T n a := y2
  refine ⟨pu_nv 100000 T (pu_ne T n a - pu_nx (pu_bl T) n a).toNat (pu_nx (pu_bl T) n a) 0, ?_, fun z => by rw [y3, if_neg (by omega)], by rw [y3]; split <;> omega, by rw [y3]; split <;> omega⟩
  unfold B_X5_readNumber
  rw [pu_skipE h _ a h1 h2 (by omega), pu_biE, pu_rd2, pu_readN_l h mi_fuel _ 0 (by omega) b2 (by omega) (by decide) (by decide)]
  show B_X5_readNumber_86 Z v hi _ (pu_nv 100000 T (pu_ne T n a - pu_nx (pu_bl T) n a).toNat (pu_nx (pu_bl T) n a) 0) (pu_rd B v (pu_ne T n a) fl p) = _
  rw [y3]
  have hy : (if 100000 < pu_nn T n a then 100000 else pu_nn T n a) ≤ hi ↔ pu_nn T n a ≤ hi := by split <;> omega
  generalize (if 100000 < pu_nn T n a then 100000 else pu_nn T n a) = y5 at *
  unfold B_X5_readNumber_86 pu_nk
  rw [pu_rd2]
  by_cases c : pu_ne T n a = pu_nx (pu_bl T) n a
  · rw [if_neg (fun z => z c), pu_failE, pu_biE, if_pos c, if_neg (show ¬ ((1 : Int) = 0) by decide)]
  · rw [if_pos c, if_neg c]
    by_cases d : pu_nn T n a ≤ hi
    · rw [if_pos d, if_pos rfl, if_pos (hy.mpr d)]
    · rw [if_neg d, if_neg (fun z => d (hy.mp z)), if_neg (show ¬ ((2 : Int) = 0) by decide), pu_failE, pu_biE]
theorem pu_num_l {n : Int} {T : Int → Int} {B : MiD} (h : pu_X2 n T B) {s hi fl p : Int} : ∀ (f : Nat) (a x : Int), 0 ≤ a → a ≤ n → n - a < f → 0 ≤ x → x ≤ 1000000 →
    B_X11_number_36 f 0 hi s x (pu_rm B a fl p) = (if pu_nv 1000000 T (pu_nx (pu_dg T) n a - a).toNat a x ≤ hi then B_X11_number_103 (pu_nv 1000000 T (pu_nx (pu_dg T) n a - a).toNat a x) (pu_rm B (pu_nx (pu_dg T) n a) fl p) else B_X11_number_103 (pu_nv 1000000 T (pu_nx (pu_dg T) n a - a).toNat a x) (pu_fdm B (pu_nx (pu_dg T) n a) fl p 2 s))
  | 0, a, x, h1, h2, h3, h4, h5 => by omega
  | f + 1, a, x, h1, h2, h3, h4, h5 => by
    have n5 := h.n5
    unfold B_X11_number_36
    rw [pu_rm4, h.b h1, pu_biE, pu_biE, pu_isDg h h1]
    by_cases c : a < n ∧ pu_dg T a = true
    · have e := pu_dg_t.mp c.2
      have ea : pu_ba T n a = T a := by unfold pu_ba; rw [if_pos c.1]; omega
      have l : a + 1 ≤ pu_nx (pu_dg T) n (a + 1) := pu_nx_le
      rw [if_pos c, if_neg (by decide), pu_letE, pu_letE, pu_rms4, ea, pu_w (x := a + 1) (by omega) (by omega), pu_w (x := 10 * x) (by omega) (by omega), pu_w (x := 10 * x + T a) (by omega) (by omega), pu_w (x := 10 * x + T a - 48) (by omega) (by omega)]
      have eless : B_X11_less 1000000 (10 * x + T a - 48) = if 1000000 < 10 * x + T a - 48 then 1000000 else 10 * x + T a - 48 := by
        unfold B_X11_less
        by_cases g : 10 * x + T a - 48 ≤ 1000000
        · rw [if_pos g, if_neg (by omega)]
        · rw [if_neg g, if_pos (by omega)]
      rw [eless, pu_num_l h f (a + 1) _ (by omega) (by omega) (by omega) (by split <;> omega) (by split <;> omega), pu_nx_go c.1 c.2, show (pu_nx (pu_dg T) n (a + 1) - a).toNat = (pu_nx (pu_dg T) n (a + 1) - (a + 1)).toNat + 1 by omega]
      conv => rhs; unfold pu_nv
    · have en : pu_nx (pu_dg T) n a = a := by
        by_cases d : a < n
        · exact pu_nx_no (by simpa using fun z => c ⟨d, z⟩)
        · exact pu_nx_end (by omega)
      rw [if_neg c, if_pos rfl, en, show (a - a).toNat = 0 by omega, pu_in]
      show _ = if x ≤ hi then B_X11_number_103 x (pu_rm B a fl p) else B_X11_number_103 x (pu_fdm B a fl p 2 s)
      by_cases g : x ≤ hi
      · rw [if_pos (show 0 ≤ x ∧ x ≤ hi from ⟨h4, g⟩), if_pos (show (1 : Int) ≠ 0 by decide), if_pos g]
      · rw [if_neg (show ¬ (0 ≤ x ∧ x ≤ hi) from fun z => g z.2), if_neg (show ¬ ((0 : Int) ≠ 0) by decide), if_neg g, pu_wrongE, pu_biE]
theorem pu_numE {n : Int} {T : Int → Int} {B : MiD} (h : pu_X2 n T B) {hi a : Int} (h1 : 0 ≤ a) (h2 : a ≤ n) (hh : 0 ≤ hi) :
    B_X11_number 0 hi (pu_rm B a 0 (-1)) = some (if pu_nk T n a hi = 0 then (pu_nn T n a, pu_rm B (pu_ne T n a) 0 (-1)) else (0, pu_rm B (pu_ne T n a) (pu_nk T n a hi) (pu_nx (pu_bl T) n a))) := by
  have n5 := h.n5
  have fE := pu_fuelE
  have b1 : a ≤ pu_nx (pu_bl T) n a := pu_nx_le
  have b2 : pu_nx (pu_bl T) n a ≤ n := pu_nx_ge h2
  have f0 : ∀ x a p : Int, B_X11_number_103 x (pu_rm B a 0 p) = some (x, pu_rm B a 0 p) := fun x a p => by
    unfold B_X11_number_103 B_X11_fine
    rw [pu_rm6, if_neg (by decide), pu_biE, if_neg (by decide)]
  have f1 : ∀ x a k p : Int, k ≠ 0 → B_X11_number_103 x (pu_rm B a k p) = some (0, pu_rm B a k p) := fun x a k p z => by
    unfold B_X11_number_103 B_X11_fine
    rw [pu_rm6, if_pos z, pu_biE, if_pos rfl]
  unfold B_X11_number B_X11_number_28 B_X11_fine
  rw [pu_rm6, if_neg (by decide), pu_biE, if_pos (by decide), pu_hereE h _ a h1 h2 (by omega), pu_b2E, pu_isDg h (by omega), pu_rm4, pu_wrongE]
  unfold pu_nk
  by_cases c : pu_nx (pu_bl T) n a < n ∧ pu_dg T (pu_nx (pu_bl T) n a) = true
  · have ne : pu_ne T n a ≠ pu_nx (pu_bl T) n a := by
      unfold pu_ne
      rw [pu_nx_go c.1 c.2]
      have l : pu_nx (pu_bl T) n a + 1 ≤ pu_nx (pu_dg T) n (pu_nx (pu_bl T) n a + 1) := pu_nx_le
      omega
    rw [if_pos c, if_pos (by decide), if_neg ne, pu_num_l h mi_fuel _ 0 (by omega) b2 (by omega) (by decide) (by decide)]
    show (if pu_nn T n a ≤ hi then B_X11_number_103 (pu_nn T n a) (pu_rm B (pu_ne T n a) 0 (-1)) else B_X11_number_103 (pu_nn T n a) (pu_fdm B (pu_ne T n a) 0 (-1) 2 (pu_nx (pu_bl T) n a))) = _
    by_cases d : pu_nn T n a ≤ hi
    · rw [if_pos d, if_pos d, if_pos rfl, f0]
    · unfold pu_fdm
      rw [if_neg d, if_neg d, if_neg (show ¬ ((2 : Int) = 0) by decide), if_neg (by decide), f1 _ _ _ _ (by decide)]
  · have ne : pu_ne T n a = pu_nx (pu_bl T) n a := by
      unfold pu_ne
      by_cases d : pu_nx (pu_bl T) n a < n
      · exact pu_nx_no (by simpa using fun z => c ⟨d, z⟩)
      · exact pu_nx_end (by omega)
    have nn : pu_nn T n a = 0 := by unfold pu_nn; rw [ne, Int.sub_self]; rfl
    unfold pu_fdm
    rw [if_neg c, if_neg (by decide), pu_biE, if_pos ne, if_neg (show ¬ ((0 : Int) ≠ 0) by decide), pu_rm4, pu_num_l h mi_fuel _ 0 (by omega) b2 (by omega) (by decide) (by decide), if_neg (show ¬ ((1 : Int) = 0) by decide), ne]
    show (if pu_nv 1000000 T (pu_ne T n a - pu_nx (pu_bl T) n a).toNat (pu_nx (pu_bl T) n a) 0 ≤ hi then B_X11_number_103 (pu_nn T n a) (pu_rm B (pu_ne T n a) 1 (pu_nx (pu_bl T) n a)) else _) = _
    rw [ne, show (pu_nx (pu_bl T) n a - pu_nx (pu_bl T) n a).toNat = 0 by omega]
    show (if (0 : Int) ≤ hi then _ else _) = _
    rw [if_pos hh, f1 _ _ _ _ (by decide)]
theorem pu_numF {B : MiD} {lo hi a f p : Int} (hf : f ≠ 0) : B_X11_number lo hi (pu_rm B a f p) = some (0, pu_rm B a f p) := by
  unfold B_X11_number B_X11_fine
  rw [pu_rm6, if_pos hf, pu_biE, if_neg (by decide)]
theorem pu_ne_b {T : Int → Int} {n a : Int} (h1 : 0 ≤ a) (h2 : a ≤ n) : 0 ≤ pu_ne T n a ∧ pu_ne T n a ≤ n ∧ a ≤ pu_ne T n a := by
  have b1 : a ≤ pu_nx (pu_bl T) n a := pu_nx_le
  have b2 : pu_nx (pu_bl T) n a ≤ n := pu_nx_ge h2
  have l : pu_nx (pu_bl T) n a ≤ pu_nx (pu_dg T) n (pu_nx (pu_bl T) n a) := pu_nx_le
  have l2 : pu_nx (pu_dg T) n (pu_nx (pu_bl T) n a) ≤ n := pu_nx_ge b2
  unfold pu_ne
  omega
def pu_ki (c : Int) : Int := if c = 122 then 0 else if c = 98 then 1 else if c = 99 then 2 else if c = 115 then 3 else if c = 105 then 4 else if c = 106 then 5 else if c = 102 then 6 else if c = 100 then 7 else if c = 116 then 8 else if c = 110 then 9 else if c = 97 then 10 else -1
theorem pu_ki_b {c : Int} : -1 ≤ pu_ki c ∧ pu_ki c < 11 := by
  unfold pu_ki
  repeat' split
  all_goals omega
theorem pu_l38 : mi_sl 38 = 11 ∧ mi_sc 38 0 = 122 ∧ mi_sc 38 1 = 98 ∧ mi_sc 38 2 = 99 ∧ mi_sc 38 3 = 115 ∧ mi_sc 38 4 = 105 ∧ mi_sc 38 5 = 106 ∧ mi_sc 38 6 = 102 ∧ mi_sc 38 7 = 100 ∧ mi_sc 38 8 = 116 ∧ mi_sc 38 9 = 110 ∧ mi_sc 38 10 = 97 := by decide +kernel
theorem pu_l58 : mi_sl 58 = 11 ∧ mi_sc 58 0 = 122 ∧ mi_sc 58 1 = 98 ∧ mi_sc 58 2 = 99 ∧ mi_sc 58 3 = 115 ∧ mi_sc 58 4 = 105 ∧ mi_sc 58 5 = 106 ∧ mi_sc 58 6 = 102 ∧ mi_sc 58 7 = 100 ∧ mi_sc 58 8 = 116 ∧ mi_sc 58 9 = 110 ∧ mi_sc 58 10 = 97 := by decide +kernel
theorem pu_w1_10 : mi_w (0 + 1) = 1 ∧ mi_w (1 + 1) = 2 ∧ mi_w (2 + 1) = 3 ∧ mi_w (3 + 1) = 4 ∧ mi_w (4 + 1) = 5 ∧ mi_w (5 + 1) = 6 ∧ mi_w (6 + 1) = 7 ∧ mi_w (7 + 1) = 8 ∧ mi_w (8 + 1) = 9 ∧ mi_w (9 + 1) = 10 ∧ mi_w (10 + 1) = 11 := by decide +kernel
theorem pu_ix1 {D : MiD} {c : Int} (k : Nat) : B_J1_indexOfChar_4cfef_7 D (k + 12) 38 11 c 0 = some (pu_ki c) := by
  obtain ⟨l, s0, s1, s2, s3, s4, s5, s6, s7, s8, s9, s10⟩ := pu_l38
  obtain ⟨w0, w1, w2, w3, w4, w5, w6, w7, w8, w9, w10⟩ := pu_w1_10
  have st : ∀ (f : Nat) (j x : Int), 0 ≤ j → j < 11 → mi_sc 38 j = x → B_J1_indexOfChar_4cfef_7 D (f + 1) 38 11 c j = if c = x then some j else B_J1_indexOfChar_4cfef_7 D f 38 11 c (mi_w (j + 1)) := fun f j x a b e => by
    conv => lhs; unfold B_J1_indexOfChar_4cfef_7
    rw [if_neg (by omega), if_pos (by rw [l]; exact ⟨a, b⟩), e]
    by_cases d : c = x
    · rw [if_pos d, if_neg (fun z => z d.symm)]
    · rw [if_neg d, if_pos (fun z => d z.symm)]
  rw [st _ 0 _ (by decide) (by decide) s0]
  by_cases q0 : c = 122
  · rw [if_pos q0]
    unfold pu_ki
    rw [if_pos q0]
  rw [if_neg q0, w0]
  rw [st _ 1 _ (by decide) (by decide) s1]
  by_cases q1 : c = 98
  · rw [if_pos q1]
    unfold pu_ki
    rw [if_neg q0, if_pos q1]
  rw [if_neg q1, w1]
  rw [st _ 2 _ (by decide) (by decide) s2]
  by_cases q2 : c = 99
  · rw [if_pos q2]
    unfold pu_ki
    rw [if_neg q0, if_neg q1, if_pos q2]
  rw [if_neg q2, w2]
  rw [st _ 3 _ (by decide) (by decide) s3]
  by_cases q3 : c = 115
  · rw [if_pos q3]
    unfold pu_ki
    rw [if_neg q0, if_neg q1, if_neg q2, if_pos q3]
  rw [if_neg q3, w3]
  rw [st _ 4 _ (by decide) (by decide) s4]
  by_cases q4 : c = 105
  · rw [if_pos q4]
    unfold pu_ki
    rw [if_neg q0, if_neg q1, if_neg q2, if_neg q3, if_pos q4]
  rw [if_neg q4, w4]
  rw [st _ 5 _ (by decide) (by decide) s5]
  by_cases q5 : c = 106
  · rw [if_pos q5]
    unfold pu_ki
    rw [if_neg q0, if_neg q1, if_neg q2, if_neg q3, if_neg q4, if_pos q5]
  rw [if_neg q5, w5]
  rw [st _ 6 _ (by decide) (by decide) s6]
  by_cases q6 : c = 102
  · rw [if_pos q6]
    unfold pu_ki
    rw [if_neg q0, if_neg q1, if_neg q2, if_neg q3, if_neg q4, if_neg q5, if_pos q6]
  rw [if_neg q6, w6]
  rw [st _ 7 _ (by decide) (by decide) s7]
  by_cases q7 : c = 100
  · rw [if_pos q7]
    unfold pu_ki
    rw [if_neg q0, if_neg q1, if_neg q2, if_neg q3, if_neg q4, if_neg q5, if_neg q6, if_pos q7]
  rw [if_neg q7, w7]
  rw [st _ 8 _ (by decide) (by decide) s8]
  by_cases q8 : c = 116
  · rw [if_pos q8]
    unfold pu_ki
    rw [if_neg q0, if_neg q1, if_neg q2, if_neg q3, if_neg q4, if_neg q5, if_neg q6, if_neg q7, if_pos q8]
  rw [if_neg q8, w8]
  rw [st _ 9 _ (by decide) (by decide) s9]
  by_cases q9 : c = 110
  · rw [if_pos q9]
    unfold pu_ki
    rw [if_neg q0, if_neg q1, if_neg q2, if_neg q3, if_neg q4, if_neg q5, if_neg q6, if_neg q7, if_neg q8, if_pos q9]
  rw [if_neg q9, w9]
  rw [st _ 10 _ (by decide) (by decide) s10]
  by_cases q10 : c = 97
  · rw [if_pos q10]
    unfold pu_ki
    rw [if_neg q0, if_neg q1, if_neg q2, if_neg q3, if_neg q4, if_neg q5, if_neg q6, if_neg q7, if_neg q8, if_neg q9, if_pos q10]
  rw [if_neg q10, w10]
  unfold B_J1_indexOfChar_4cfef_7 pu_ki
  rw [if_pos (show (11 : Int) ≤ 11 by decide), if_neg q0, if_neg q1, if_neg q2, if_neg q3, if_neg q4, if_neg q5, if_neg q6, if_neg q7, if_neg q8, if_neg q9, if_neg q10]
theorem pu_ixE {D : MiD} {c : Int} (h : 97 ≤ c ∧ c ≤ 122) : B_J0_indexOf_0f7a4 D 38 c = some (pu_ki c) := by
  unfold B_J0_indexOf_0f7a4 B_J0_indexOf_7cf53 B_J1_indexOf_4cfef B_J1_canEncode_9a6ad B_J1_indexOfChar_4cfef
  have eb : mi_b c = c := by unfold mi_b; rw [Int.bmod_def]; split <;> omega
  rw [pu_lenE (by decide), pu_biE, if_neg (show ¬ c < 0 by omega), if_neg (show ¬ 255 < c by omega), if_pos (by decide), pu_letE, pu_l38.1, show mi_min 11 11 = 11 by decide, show mi_max 0 0 = 0 by decide, if_pos (by decide), eb, show mi_fuel = 3988 + 12 from rfl, pu_ix1, pu_biE, pu_biE, pu_biE]
def pu_kk (T : Int → Int) (n a : Int) : Int := pu_ki (pu_wc T n (pu_nx (pu_bl T) n a) + 96)
theorem pu_wc1 {T : Int → Int} {n b : Int} (h : pu_nx (pu_sl T) n b - b = 1) : pu_wc T n b = T b - 96 := by
  unfold pu_wc
  rw [if_pos (by omega), h]
  show 27 * (0 : Int) + (T (b + ((0 : Nat) : Int)) - 96) = _
  rw [show b + ((0 : Nat) : Int) = b by omega]
  omega
theorem pu_wcn1 {T : Int → Int} {n b : Int} (h : pu_nx (pu_sl T) n b - b ≠ 1) : pu_wc T n b = -1 ∨ 28 ≤ pu_wc T n b := by
  unfold pu_wc
  by_cases c : b < pu_nx (pu_sl T) n b ∧ pu_nx (pu_sl T) n b ≤ b + 6
  · rw [if_pos c]
    right
    obtain ⟨m, hm⟩ : ∃ m : Nat, (pu_nx (pu_sl T) n b - b).toNat = m + 2 := ⟨(pu_nx (pu_sl T) n b - b).toNat - 2, by omega⟩
    rw [hm]
    show 28 ≤ 27 * (27 * pu_cd (fun i => T (b + i) - 96) m + (T (b + (m : Int)) - 96)) + (T (b + ((m + 1 : Nat) : Int)) - 96)
    have g1 := pu_small (T := T) (n := n) (b := b) (i := m) (by omega)
    have g2 := pu_small (T := T) (n := n) (b := b) (i := m + 1) (by omega)
    have g3 := (pu_cd_b (g := fun i => T (b + i) - 96) m (fun i a => pu_small (n := n) (by omega))).1
    omega
  · rw [if_neg c]; left; rfl
theorem pu_readKE {Z : MiZ} {v n : Int} {T : Int → Int} {B : MiD} (h : pu_X1 Z v n T B) {so a fl p : Int} (h1 : 0 ≤ a) (h2 : a ≤ n) :
    B_X5_readKind Z v so (pu_rd B v a fl p) = some (if 0 ≤ pu_kk T n a ∧ pu_kk T n a < so then (pu_kk T n a, pu_rd B v (pu_nx (pu_bl T) n a + 1) fl p) else (0, pu_fd B v (pu_nx (pu_bl T) n a) fl p 1 (pu_nx (pu_bl T) n a))) := by
  have n5 := h.n5
  have fE := pu_fuelE
  have b1 : a ≤ pu_nx (pu_bl T) n a := pu_nx_le
  have b2 : pu_nx (pu_bl T) n a ≤ n := pu_nx_ge h2
  unfold B_X5_readKind B_X5_wordEnd pu_kk
  rw [pu_skipE h _ a h1 h2 (by omega), pu_biE, pu_rd2]
  generalize pu_nx (pu_bl T) n a = b at *
  have e1 : b ≤ pu_nx (pu_sl T) n b := pu_nx_le
  have e2 : pu_nx (pu_sl T) n b ≤ n := pu_nx_ge b2
  rw [pu_endE h _ b (by omega) b2 (by omega), pu_biE, pu_w (by omega) (by omega), h.lk]
  have K : ∀ k : Int, B_X5_readKind_38 Z v so (pu_nx (pu_sl T) n b) k (pu_rd B v b fl p) = some (if 0 ≤ k ∧ k < so then (k, pu_rd B v (pu_nx (pu_sl T) n b) fl p) else (0, pu_fd B v b fl p 1 b)) := fun k => by
    unfold B_X5_readKind_38
    rw [pu_within]
    by_cases c : 0 ≤ k ∧ k < so
    · rw [if_pos c, if_pos c, if_pos (by decide), pu_letE, pu_rds2]
    · rw [if_neg c, if_neg c, if_neg (by decide), pu_rd2, pu_failE, pu_biE]
  by_cases c : pu_nx (pu_sl T) n b - b = 1
  · have s := pu_sl_t.mp (pu_nx_in (p := pu_sl T) (n := n) (a := b) (i := b) (by omega) (by omega))
    have ec : mi_c (T b) = T b := by unfold mi_c; omega
    rw [if_neg (fun z => z c), if_pos (by decide), if_pos (by omega), pu_rdo (by omega), h.t b (by omega) (by omega), ec, pu_ixE s, pu_biE, K, pu_wc1 c, show T b - 96 + 96 = T b by omega, show pu_nx (pu_sl T) n b = b + 1 by omega]
  · have ek : pu_ki (pu_wc T n b + 96) = -1 := by
      have := pu_wcn1 c
      unfold pu_ki
      rw [if_neg (by omega), if_neg (by omega), if_neg (by omega), if_neg (by omega), if_neg (by omega), if_neg (by omega), if_neg (by omega), if_neg (by omega), if_neg (by omega), if_neg (by omega), if_neg (by omega)]
    rw [if_pos c, K, ek, if_neg (by omega), if_neg (by omega)]
theorem pu_kix {D : MiD} {so c : Int} (hs : so = 8 ∨ so = 11) (k : Nat) : B_X11_kindHere_21 (k + 12) so c 58 0 D = if 0 ≤ pu_ki (c + 96) ∧ pu_ki (c + 96) < so then some (pu_ki (c + 96), mi_st D 40 0 4 (mi_w (D 40 0 4 + 1))) else mi_bi (B_X11_wrong 1 (D 40 0 4) D) fun D2 => some (0, D2) := by
  obtain ⟨l, s0, s1, s2, s3, s4, s5, s6, s7, s8, s9, s10⟩ := pu_l58
  obtain ⟨w0, w1, w2, w3, w4, w5, w6, w7, w8, w9, w10⟩ := pu_w1_10
  have st : ∀ (f : Nat) (j x : Int), 0 ≤ j → j < 11 → j < so → mi_sc 58 j = x → 97 ≤ x ∧ x ≤ 122 → B_X11_kindHere_21 (f + 1) so c 58 j D = if c + 96 = x then some (j, mi_st D 40 0 4 (mi_w (D 40 0 4 + 1))) else B_X11_kindHere_21 f so c 58 (mi_w (j + 1)) D := fun f j x a b b' e r => by
    conv => lhs; unfold B_X11_kindHere_21
    rw [if_neg (by omega), if_pos (by decide), pu_chrE (by decide) (by rw [l]; exact ⟨a, b⟩), pu_biE, e, pu_w (x := x - 97) (by omega) (by omega), pu_w (x := x - 97 + 1) (by omega) (by omega), pu_letE]
    by_cases d : c + 96 = x
    · rw [if_pos d, if_pos (pu_cmp_0.mpr (by omega))]
    · rw [if_neg d, if_neg (fun z => d (by have := pu_cmp_0.mp z; omega))]
  have en : ∀ (f : Nat), B_X11_kindHere_21 (f + 1) so c 58 so D = mi_bi (B_X11_wrong 1 (D 40 0 4) D) fun D2 => some (0, D2) := fun f => by
    conv => lhs; unfold B_X11_kindHere_21
    rw [if_pos (by omega)]
  generalize hw : (mi_bi (B_X11_wrong 1 (D 40 0 4) D) fun D2 => some ((0 : Int), D2)) = w at *
  rw [st _ 0 _ (by decide) (by decide) (by omega) s0 (by decide)]
  by_cases q0 : c + 96 = 122
  · have e : pu_ki (c + 96) = 0 := by
      unfold pu_ki
      rw [if_pos q0]
    rw [if_pos q0, e, if_pos (by omega)]
  rw [if_neg q0, w0]
  rw [st _ 1 _ (by decide) (by decide) (by omega) s1 (by decide)]
  by_cases q1 : c + 96 = 98
  · have e : pu_ki (c + 96) = 1 := by
      unfold pu_ki
      rw [if_neg q0, if_pos q1]
    rw [if_pos q1, e, if_pos (by omega)]
  rw [if_neg q1, w1]
  rw [st _ 2 _ (by decide) (by decide) (by omega) s2 (by decide)]
  by_cases q2 : c + 96 = 99
  · have e : pu_ki (c + 96) = 2 := by
      unfold pu_ki
      rw [if_neg q0, if_neg q1, if_pos q2]
    rw [if_pos q2, e, if_pos (by omega)]
  rw [if_neg q2, w2]
  rw [st _ 3 _ (by decide) (by decide) (by omega) s3 (by decide)]
  by_cases q3 : c + 96 = 115
  · have e : pu_ki (c + 96) = 3 := by
      unfold pu_ki
      rw [if_neg q0, if_neg q1, if_neg q2, if_pos q3]
    rw [if_pos q3, e, if_pos (by omega)]
  rw [if_neg q3, w3]
  rw [st _ 4 _ (by decide) (by decide) (by omega) s4 (by decide)]
  by_cases q4 : c + 96 = 105
  · have e : pu_ki (c + 96) = 4 := by
      unfold pu_ki
      rw [if_neg q0, if_neg q1, if_neg q2, if_neg q3, if_pos q4]
    rw [if_pos q4, e, if_pos (by omega)]
  rw [if_neg q4, w4]
  rw [st _ 5 _ (by decide) (by decide) (by omega) s5 (by decide)]
  by_cases q5 : c + 96 = 106
  · have e : pu_ki (c + 96) = 5 := by
      unfold pu_ki
      rw [if_neg q0, if_neg q1, if_neg q2, if_neg q3, if_neg q4, if_pos q5]
    rw [if_pos q5, e, if_pos (by omega)]
  rw [if_neg q5, w5]
  rw [st _ 6 _ (by decide) (by decide) (by omega) s6 (by decide)]
  by_cases q6 : c + 96 = 102
  · have e : pu_ki (c + 96) = 6 := by
      unfold pu_ki
      rw [if_neg q0, if_neg q1, if_neg q2, if_neg q3, if_neg q4, if_neg q5, if_pos q6]
    rw [if_pos q6, e, if_pos (by omega)]
  rw [if_neg q6, w6]
  rw [st _ 7 _ (by decide) (by decide) (by omega) s7 (by decide)]
  by_cases q7 : c + 96 = 100
  · have e : pu_ki (c + 96) = 7 := by
      unfold pu_ki
      rw [if_neg q0, if_neg q1, if_neg q2, if_neg q3, if_neg q4, if_neg q5, if_neg q6, if_pos q7]
    rw [if_pos q7, e, if_pos (by omega)]
  rw [if_neg q7, w7]
  rcases hs with rfl | rfl
  · have e : ¬ (0 ≤ pu_ki (c + 96) ∧ pu_ki (c + 96) < 8) := by
      unfold pu_ki
      rw [if_neg q0, if_neg q1, if_neg q2, if_neg q3, if_neg q4, if_neg q5, if_neg q6, if_neg q7]
      by_cases r8 : c + 96 = 116
      · rw [if_pos r8]; omega
      rw [if_neg r8]
      by_cases r9 : c + 96 = 110
      · rw [if_pos r9]; omega
      rw [if_neg r9]
      by_cases r10 : c + 96 = 97
      · rw [if_pos r10]; omega
      rw [if_neg r10]; omega
    rw [en, if_neg e]
  rw [st _ 8 _ (by decide) (by decide) (by decide) s8 (by decide)]
  by_cases q8 : c + 96 = 116
  · have e : pu_ki (c + 96) = 8 := by
      unfold pu_ki
      rw [if_neg q0, if_neg q1, if_neg q2, if_neg q3, if_neg q4, if_neg q5, if_neg q6, if_neg q7, if_pos q8]
    rw [if_pos q8, e, if_pos (by omega)]
  rw [if_neg q8, w8]
  rw [st _ 9 _ (by decide) (by decide) (by decide) s9 (by decide)]
  by_cases q9 : c + 96 = 110
  · have e : pu_ki (c + 96) = 9 := by
      unfold pu_ki
      rw [if_neg q0, if_neg q1, if_neg q2, if_neg q3, if_neg q4, if_neg q5, if_neg q6, if_neg q7, if_neg q8, if_pos q9]
    rw [if_pos q9, e, if_pos (by omega)]
  rw [if_neg q9, w9]
  rw [st _ 10 _ (by decide) (by decide) (by decide) s10 (by decide)]
  by_cases q10 : c + 96 = 97
  · have e : pu_ki (c + 96) = 10 := by
      unfold pu_ki
      rw [if_neg q0, if_neg q1, if_neg q2, if_neg q3, if_neg q4, if_neg q5, if_neg q6, if_neg q7, if_neg q8, if_neg q9, if_pos q10]
    rw [if_pos q10, e, if_pos (by omega)]
  rw [if_neg q10, w10]
  have e : pu_ki (c + 96) = -1 := by
    unfold pu_ki
    rw [if_neg q0, if_neg q1, if_neg q2, if_neg q3, if_neg q4, if_neg q5, if_neg q6, if_neg q7, if_neg q8, if_neg q9, if_neg q10]
  rw [en, e, if_neg (by omega)]
theorem pu_kindE {n : Int} {T : Int → Int} {B : MiD} (h : pu_X2 n T B) {so a : Int} (hs : so = 8 ∨ so = 11) (h1 : 0 ≤ a) (h2 : a ≤ n) :
    B_X11_kindHere so (pu_rm B a 0 (-1)) = some (if 0 ≤ pu_kk T n a ∧ pu_kk T n a < so then (pu_kk T n a, pu_rm B (pu_nx (pu_bl T) n a + 1) 0 (-1)) else (0, pu_rm B (pu_nx (pu_bl T) n a) 1 (pu_nx (pu_bl T) n a))) := by
  have n5 := h.n5
  have b1 : a ≤ pu_nx (pu_bl T) n a := pu_nx_le
  have b2 : pu_nx (pu_bl T) n a ≤ n := pu_nx_ge h2
  unfold B_X11_kindHere B_X11_fine pu_kk
  rw [pu_rm6, if_neg (by decide), pu_biE, if_pos (by decide), pu_wordHE h h1 h2, pu_b2E, show mi_fuel = 3988 + 12 from rfl, pu_kix hs, pu_rm4, pu_wrongE, pu_biE]
  unfold pu_fdm
  by_cases c : 0 ≤ pu_ki (pu_wc T n (pu_nx (pu_bl T) n a) + 96) ∧ pu_ki (pu_wc T n (pu_nx (pu_bl T) n a) + 96) < so
  · rw [if_pos c, if_pos c, pu_rms4, pu_w (by omega) (by omega)]
  · rw [if_neg c, if_neg c, if_neg (by decide)]
theorem pu_kindF {B : MiD} {so a f p : Int} (hf : f ≠ 0) : B_X11_kindHere so (pu_rm B a f p) = some (0, pu_rm B a f p) := by
  unfold B_X11_kindHere B_X11_fine
  rw [pu_rm6, if_pos hf, pu_biE, if_neg (by decide)]
theorem pu_readT_l {Z : MiZ} {v n : Int} {T : Int → Int} {B : MiD} (h : pu_X1 Z v n T B) {b fl p : Int} (hb : 0 ≤ b) (h2 : b ≤ n) (h6 : pu_nx (pu_sl T) n b ≤ b + 6) : ∀ (f : Nat) (m : Nat), 7 - (m : Int) < f → (m : Int) ≤ pu_nx (pu_sl T) n b - b →
    B_X5_readText_41 Z f v (pu_nx (pu_sl T) n b) (pu_cd (fun i => T (b + i) - 96) m) (pu_rd B v (b + m) fl p) = some (pu_cd (fun i => T (b + i) - 96) (pu_nx (pu_sl T) n b - b).toNat, pu_rd B v (pu_nx (pu_sl T) n b) fl p)
  | 0, m, h3, h4 => by omega
  | f + 1, m, h3, h4 => by
    have n5 := h.n5
    have e2 : pu_nx (pu_sl T) n b ≤ n := pu_nx_ge h2
    unfold B_X5_readText_41
    rw [pu_rd2, h.lk]
    by_cases c : (m : Int) = pu_nx (pu_sl T) n b - b
    · rw [if_pos (by omega), ← c, Int.toNat_natCast, show b + (m : Int) = pu_nx (pu_sl T) n b by omega]
    · have s := pu_small (T := T) (n := n) (b := b) (i := m) (by omega)
      obtain ⟨k1, k2⟩ := pu_cd_6 (g := fun i => T (b + i) - 96) (m := m) (by omega) (fun i a => pu_small (n := n) (by omega))
      rw [if_neg (by omega), if_pos (by decide), if_pos (by omega), pu_rdo (by omega), h.t (b + m) (by omega) (by omega), pu_letE, pu_letE, pu_rds2, pu_w (x := b + m + 1) (by omega) (by omega)]
      have k3 : 0 ≤ pu_cd (fun i => T (b + i) - 96) m ∧ pu_cd (fun i => T (b + i) - 96) m < 14348907 := by
        obtain ⟨q1, q2⟩ := pu_cd_b (g := fun i => T (b + i) - 96) m (fun i a => pu_small (n := n) (by omega))
        have : m = 0 ∨ m = 1 ∨ m = 2 ∨ m = 3 ∨ m = 4 ∨ m = 5 := by omega
        rcases this with rfl | rfl | rfl | rfl | rfl | rfl <;> omega
      have e : mi_w (mi_w (mi_w (mi_w (pu_cd (fun i => T (b + i) - 96) m * 27) + T (b + m)) - 97) + 1) = pu_cd (fun i => T (b + i) - 96) (m + 1) := by
        show _ = 27 * pu_cd (fun i => T (b + i) - 96) m + (T (b + m) - 96)
        generalize pu_cd (fun i => T (b + i) - 96) m = x at *
        rw [pu_w (x := x * 27) (by omega) (by omega), pu_w (x := x * 27 + T (b + m)) (by omega) (by omega), pu_w (x := x * 27 + T (b + m) - 97) (by omega) (by omega), pu_w (by omega) (by omega)]
        omega
      rw [e, show b + (m : Int) + 1 = b + ((m + 1 : Nat) : Int) by omega]
      exact pu_readT_l h hb h2 h6 f (m + 1) (by omega) (by omega)
theorem pu_readTE {Z : MiZ} {v n : Int} {T : Int → Int} {B : MiD} (h : pu_X1 Z v n T B) {a fl p : Int} (h1 : 0 ≤ a) (h2 : a ≤ n) :
    B_X5_readText Z v (pu_rd B v a fl p) = some (if pu_wc T n (pu_nx (pu_bl T) n a) ≠ -1 then (pu_wc T n (pu_nx (pu_bl T) n a), pu_rd B v (pu_nx (pu_sl T) n (pu_nx (pu_bl T) n a)) fl p) else (0, pu_fd B v (pu_nx (pu_bl T) n a) fl p 1 (pu_nx (pu_bl T) n a))) := by
  have n5 := h.n5
  have fE := pu_fuelE
  have b1 : a ≤ pu_nx (pu_bl T) n a := pu_nx_le
  have b2 : pu_nx (pu_bl T) n a ≤ n := pu_nx_ge h2
  unfold B_X5_readText B_X5_wordEnd B_X5_readText_28
  rw [pu_skipE h _ a h1 h2 (by omega), pu_biE, pu_rd2]
  generalize pu_nx (pu_bl T) n a = b at *
  have e1 : b ≤ pu_nx (pu_sl T) n b := pu_nx_le
  have e2 : pu_nx (pu_sl T) n b ≤ n := pu_nx_ge b2
  rw [pu_endE h _ b (by omega) b2 (by omega), pu_biE, pu_w (by omega) (by omega), pu_failE, pu_biE]
  by_cases c : b < pu_nx (pu_sl T) n b ∧ pu_nx (pu_sl T) n b ≤ b + 6
  · have ew : pu_wc T n b = pu_cd (fun i => T (b + i) - 96) (pu_nx (pu_sl T) n b - b).toNat := by unfold pu_wc; rw [if_pos c]
    have k1 := (pu_cd_6 (g := fun i => T (b + i) - 96) (m := (pu_nx (pu_sl T) n b - b).toNat) (by omega) (fun i a => pu_small (n := n) (by omega))).1
    have l := pu_readT_l h (b := b) (fl := fl) (p := p) (by omega) b2 c.2 mi_fuel 0 (by omega) (by omega)
    rw [show b + ((0 : Nat) : Int) = b by omega] at l
    rw [if_neg (by omega), if_pos (by omega), ew, if_pos (by omega)]
    exact l
  · have ew : pu_wc T n b = -1 := by unfold pu_wc; rw [if_neg c]
    rw [ew, if_neg (show ¬ ((-1 : Int) ≠ -1) from fun z => z rfl)]
    by_cases d : pu_nx (pu_sl T) n b = b
    · rw [if_pos d]
    · rw [if_neg d, if_neg (by omega)]
theorem pu_textE {n : Int} {T : Int → Int} {B : MiD} (h : pu_X2 n T B) {x a : Int} (h1 : 0 ≤ a) (h2 : a ≤ n) :
    B_X11_readsText x (pu_rm B a 0 (-1)) = some (if pu_wc T n (pu_nx (pu_bl T) n a) ≠ -1 then pu_rm (mi_st (mi_st B 46 x 1 (pu_wc T n (pu_nx (pu_bl T) n a) / 19683)) 46 x 2 (pu_wc T n (pu_nx (pu_bl T) n a) % 19683)) (pu_nx (pu_sl T) n (pu_nx (pu_bl T) n a)) 0 (-1) else pu_rm B (pu_nx (pu_bl T) n a) 1 (pu_nx (pu_bl T) n a)) := by
  have n5 := h.n5
  have fE := pu_fuelE
  have b1 : a ≤ pu_nx (pu_bl T) n a := pu_nx_le
  have b2 : pu_nx (pu_bl T) n a ≤ n := pu_nx_ge h2
  unfold B_X11_readsText B_X11_readsText_22 B_X11_fine
  rw [pu_wordHE h h1 h2, pu_b2E, pu_rm4, pu_wrongE]
  generalize pu_nx (pu_bl T) n a = b at *
  by_cases c : pu_wc T n b ≠ -1
  · have hb : 0 ≤ pu_wc T n b ∧ pu_wc T n b < 387420489 := by
      unfold pu_wc at c ⊢
      by_cases d : b < pu_nx (pu_sl T) n b ∧ pu_nx (pu_sl T) n b ≤ b + 6
      · rw [if_pos d]
        exact pu_cd_6 (by omega) (fun i a => pu_small (n := n) (by omega))
      · rw [if_neg d] at c
        exact absurd rfl c
    rw [if_pos c, if_pos (fun z => c (pu_cmp_0.mp z)), pu_rm6, if_neg (by decide), pu_biE, if_pos (by decide), pu_letE, pu_letE]
    generalize pu_wc T n b = w at *
    have e1 : mi_Div w 19683 = w / 19683 := by
      unfold mi_Div
      rw [Int.tdiv_eq_ediv_of_nonneg hb.1, pu_W (by omega) (by omega)]
    have e2 : mi_Rem w 19683 = w % 19683 := by
      unfold mi_Rem
      rw [e1, pu_W (x := w / 19683 * 19683) (by omega) (by omega), pu_W (by omega) (by omega)]
      omega
    rw [e1, e2, pu_w (x := w / 19683) (by omega) (by omega), pu_w (x := w % 19683) (by omega) (by omega), pu_rmso (by omega), pu_rmso (by omega)]
    have h' : pu_X2 n T (mi_st (mi_st B 46 x 1 (w / 19683)) 46 x 2 (w % 19683)) := ⟨h.n0, h.n5, by rw [pu_st, if_neg (by omega), pu_st, if_neg (by omega)]; exact h.ln, fun i a b => by rw [pu_st, if_neg (by omega), pu_st, if_neg (by omega)]; exact h.t i a b, h.tb⟩
    rw [pu_skipWE h' _ b (by omega) b2 (by omega), pu_biE]
  · have c' : pu_wc T n b = -1 := Decidable.not_not.mp c
    unfold pu_fdm
    rw [if_neg c, if_neg (fun z => z (pu_cmp_0.mpr c')), pu_biE, if_neg (show ¬ ((0 : Int) ≠ 0) by decide), pu_rm6, if_pos (by decide), pu_biE, if_neg (by decide)]
