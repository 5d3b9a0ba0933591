def pw_sp (T : Int → Int) (n a : Int) : Int := if pu_nx (pu_bl T) n a < n ∧ T (pu_nx (pu_bl T) n a) = 45 then pu_nx (pu_bl T) n a + 1 else pu_nx (pu_bl T) n a
def pu_sv (T : Int → Int) (n a : Int) : Int := if pu_nx (pu_bl T) n a < n ∧ T (pu_nx (pu_bl T) n a) = 45 then -pu_nn T n (pw_sp T n a) else pu_nn T n (pw_sp T n a)
theorem pu_sp_b {T : Int → Int} {n a : Int} (h1 : 0 ≤ a) (h2 : a ≤ n) : 0 ≤ pw_sp T n a ∧ pw_sp T n a ≤ n := by
  have b1 : a ≤ pu_nx (pu_bl T) n a := pu_nx_le
  have b2 : pu_nx (pu_bl T) n a ≤ n := pu_nx_ge h2
  unfold pw_sp
  split <;> omega
theorem pu_sgn_l {n : Int} {T : Int → Int} {B : MiD} (h : pu_X2 n T B) {s st fl p : Int} : ∀ (f : Nat) (a x : Int), 0 ≤ a → a ≤ n → n - a < f → 0 ≤ x → x ≤ 1000000 →
    B_X11_signed_64 f s x st (pu_rm B a fl p) = (if pu_nv 1000000 T (pu_nx (pu_dg T) n a - a).toNat a x ≤ 99999 then B_X11_signed_125 s (pu_nv 1000000 T (pu_nx (pu_dg T) n a - a).toNat a x) (pu_rm B (pu_nx (pu_dg T) n a) fl p) else B_X11_signed_125 s (pu_nv 1000000 T (pu_nx (pu_dg T) n a - a).toNat a x) (pu_fdm B (pu_nx (pu_dg T) n a) fl p 2 st))
  | 0, a, x, h1, h2, h3, h4, h5 => by omega
  | f + 1, a, x, h1, h2, h3, h4, h5 => by
    have n5 := h.n5
    unfold B_X11_signed_64
    rw [pu_rm4, h.b h1, pu_biE, pu_biE, pu_isDg h h1]
    by_cases c : a < n ∧ pu_dg T a = true
    · have e := pu_dg_t.mp c.2
      have ea : pu_ba T n a = T a := by unfold pu_ba; rw [if_pos c.1]; omega
      have l : a + 1 ≤ pu_nx (pu_dg T) n (a + 1) := pu_nx_le
      rw [if_pos c, if_neg (by decide), pu_letE, pu_letE, pu_rms4, ea, pu_w (x := a + 1) (by omega) (by omega), pu_w (x := 10 * x) (by omega) (by omega), pu_w (x := 10 * x + T a) (by omega) (by omega), pu_w (x := 10 * x + T a - 48) (by omega) (by omega)]
      have eless : B_X11_less 1000000 (10 * x + T a - 48) = if 1000000 < 10 * x + T a - 48 then 1000000 else 10 * x + T a - 48 := by
        unfold B_X11_less
        by_cases g : 10 * x + T a - 48 ≤ 1000000
        · rw [if_pos g, if_neg (by omega)]
        · rw [if_neg g, if_pos (by omega)]
      rw [eless, pu_sgn_l h f (a + 1) _ (by omega) (by omega) (by omega) (by split <;> omega) (by split <;> omega), pu_nx_go c.1 c.2, show (pu_nx (pu_dg T) n (a + 1) - a).toNat = (pu_nx (pu_dg T) n (a + 1) - (a + 1)).toNat + 1 by omega]
      conv => rhs; unfold pu_nv
    · have en : pu_nx (pu_dg T) n a = a := by
        by_cases d : a < n
        · exact pu_nx_no (by simpa using fun z => c ⟨d, z⟩)
        · exact pu_nx_end (by omega)
      rw [if_neg c, if_pos rfl, en, show (a - a).toNat = 0 by omega]
      show _ = if x ≤ 99999 then B_X11_signed_125 s x (pu_rm B a fl p) else B_X11_signed_125 s x (pu_fdm B a fl p 2 st)
      by_cases g : x ≤ 99999
      · rw [if_pos g, if_pos g]
      · rw [if_neg g, if_neg g, pu_wrongE, pu_biE]
theorem pu_sgnE {n : Int} {T : Int → Int} {B : MiD} (h : pu_X2 n T B) {a : Int} (h1 : 0 ≤ a) (h2 : a ≤ n) :
    ∃ y, B_X11_signed (pu_rm B a 0 (-1)) = some (y, if pu_nk T n (pw_sp T n a) 99999 = 0 then pu_rm B (pu_ne T n (pw_sp T n a)) 0 (-1) else pu_rm B (pu_ne T n (pw_sp T n a)) (pu_nk T n (pw_sp T n a) 99999) (pu_nx (pu_bl T) n (pw_sp T n a))) ∧ (pu_nk T n (pw_sp T n a) 99999 = 0 → y = pu_sv T n a) := by
  have n5 := h.n5
  have fE := pu_fuelE
  have b1 : a ≤ pu_nx (pu_bl T) n a := pu_nx_le
  have b2 : pu_nx (pu_bl T) n a ≤ n := pu_nx_ge h2
  obtain ⟨s1, s2⟩ := pu_sp_b (T := T) h1 h2
  have K : ∀ s : Int, B_X11_signed_38 s (pu_rm B (pw_sp T n a) 0 (-1)) = B_X11_signed_125 s (pu_nn T n (pw_sp T n a)) (if pu_nk T n (pw_sp T n a) 99999 = 0 then pu_rm B (pu_ne T n (pw_sp T n a)) 0 (-1) else pu_rm B (pu_ne T n (pw_sp T n a)) (pu_nk T n (pw_sp T n a) 99999) (pu_nx (pu_bl T) n (pw_sp T n a))) := fun s => by
    generalize pw_sp T n a = a at *
    have b1 : a ≤ pu_nx (pu_bl T) n a := pu_nx_le
    have b2 : pu_nx (pu_bl T) n a ≤ n := pu_nx_ge s2
    unfold B_X11_signed_38 pu_nk
    rw [pu_hereE h _ a s1 s2 (by omega), pu_b2E, pu_isDg h (by omega), pu_rm4, pu_wrongE]
    by_cases c : pu_nx (pu_bl T) n a < n ∧ pu_dg T (pu_nx (pu_bl T) n a) = true
    · have ne : pu_ne T n a ≠ pu_nx (pu_bl T) n a := by
        unfold pu_ne
        rw [pu_nx_go c.1 c.2]
        have l : pu_nx (pu_bl T) n a + 1 ≤ pu_nx (pu_dg T) n (pu_nx (pu_bl T) n a + 1) := pu_nx_le
        omega
      rw [if_pos c, if_pos (by decide), if_neg ne, pu_sgn_l h mi_fuel _ 0 (by omega) b2 (by omega) (by decide) (by decide)]
      show (if pu_nn T n a ≤ 99999 then B_X11_signed_125 s (pu_nn T n a) (pu_rm B (pu_ne T n a) 0 (-1)) else B_X11_signed_125 s (pu_nn T n a) (pu_fdm B (pu_ne T n a) 0 (-1) 2 (pu_nx (pu_bl T) n a))) = _
      by_cases d : pu_nn T n a ≤ 99999
      · rw [if_pos d, if_pos d, if_pos rfl]
      · unfold pu_fdm
        rw [if_neg d, if_neg d, if_neg (show ¬ ((2 : Int) = 0) by decide), if_neg (show ¬ ((0 : Int) ≠ 0) by decide)]
    · have ne : pu_ne T n a = pu_nx (pu_bl T) n a := by
        unfold pu_ne
        by_cases d : pu_nx (pu_bl T) n a < n
        · exact pu_nx_no (by simpa using fun z => c ⟨d, z⟩)
        · exact pu_nx_end (by omega)
      have nn : pu_nn T n a = 0 := by unfold pu_nn; rw [ne, Int.sub_self]; rfl
      unfold pu_fdm
      rw [if_neg c, if_neg (show ¬ ((0 : Int) ≠ 0) by decide), pu_biE, if_pos ne, if_neg (show ¬ ((0 : Int) ≠ 0) by decide), pu_rm4, pu_sgn_l h mi_fuel _ 0 (by omega) b2 (by omega) (by decide) (by decide), if_neg (show ¬ ((1 : Int) = 0) by decide), ne]
      show (if pu_nv 1000000 T (pu_ne T n a - pu_nx (pu_bl T) n a).toNat (pu_nx (pu_bl T) n a) 0 ≤ 99999 then B_X11_signed_125 s (pu_nn T n a) (pu_rm B (pu_ne T n a) 1 (pu_nx (pu_bl T) n a)) else _) = _
      rw [ne, show (pu_nx (pu_bl T) n a - pu_nx (pu_bl T) n a).toNat = 0 by omega]
      show (if (0 : Int) ≤ 99999 then _ else _) = _
      rw [if_pos (by decide)]
  have nn := pu_nn0 (T := T) (n := n) (a := pw_sp T n a)
  have H : B_X11_signed (pu_rm B a 0 (-1)) = B_X11_signed_38 (if pu_nx (pu_bl T) n a < n ∧ T (pu_nx (pu_bl T) n a) = 45 then 1 else 0) (pu_rm B (pw_sp T n a) 0 (-1)) := by
    unfold B_X11_signed B_X11_signed_23 B_X11_fine pw_sp
    rw [pu_rm6, if_neg (by decide), pu_biE, if_pos (by decide), pu_hereE h _ a h1 h2 (by omega), pu_b2E]
    have i := pu_baE h (b := pu_nx (pu_bl T) n a) (c := 45) (by omega) (by decide)
    by_cases e : pu_nx (pu_bl T) n a < n ∧ T (pu_nx (pu_bl T) n a) = 45
    · rw [if_neg (fun z => z (i.mpr e)), if_neg (by decide), pu_letE, pu_rm4, pu_rms4, pu_w (by omega) (by omega), if_pos e, if_pos e]
    · rw [if_pos (fun z => e (i.mp z)), if_pos rfl, if_neg e, if_neg e]
  rw [H, K]
  unfold B_X11_signed_125 pu_sv
  by_cases e : pu_nx (pu_bl T) n a < n ∧ T (pu_nx (pu_bl T) n a) = 45
  · rw [if_pos e, if_neg (by decide), if_pos e, pu_w (by omega) (by omega)]
    exact ⟨_, rfl, fun _ => rfl⟩
  · rw [if_neg e, if_pos rfl, if_neg e]
    exact ⟨_, rfl, fun _ => rfl⟩
theorem pu_sgnF {B : MiD} {a f p : Int} (hf : f ≠ 0) : B_X11_signed (pu_rm B a f p) = some (0, pu_rm B a f p) := by
  unfold B_X11_signed B_X11_fine
  rw [pu_rm6, if_pos hf, pu_biE, if_neg (by decide)]
theorem pu_rowF {B : MiD} {a f p : Int} (hf : f ≠ 0) : B_X11_rowHere (pu_rm B a f p) = some (0, pu_rm B a f p) := by
  unfold B_X11_rowHere B_X11_fine
  rw [pu_numF hf, pu_b2E, pu_rm6, if_pos hf, pu_biE, if_pos rfl]
def pu_pt {α : Type} (F : MiD → α) (v n y x : Int) (B C : MiD) (r1 : α) (r2 : Option MiD) (Q : MiD → MiD → Prop) : Prop :=
  ∃ (B' C' : MiD) (a1 a2 k w : Int), r1 = F (pu_rd B' v a1 k w) ∧ r2 = some (pu_rm C' a2 k w) ∧ (0 ≤ a1 ∧ a1 ≤ n) ∧ (0 ≤ a2 ∧ a2 ≤ n) ∧ (∀ (q : Nat) (j i : Int), ¬ (q = 7 ∧ j = y ∧ 1 ≤ i) → B' q j i = B q j i) ∧ (∀ (q : Nat) (j i : Int), ¬ (q = 46 ∧ j = x ∧ 1 ≤ i) → C' q j i = C q j i) ∧ (0 ≤ k ∧ k ≤ 4) ∧ (k = 0 → a1 = a2 ∧ w = -1 ∧ Q B' C')
def pu_S (x s : Int) (o : MiD → Option (Int × MiD)) (D : MiD) : Option MiD := mi_b2 (o D) fun y D' => some (mi_st D' 46 x s y)
def pu_noF (x : Int) (S : MiD → Option MiD) : Prop := ∀ (C : MiD) (a k w : Int), k ≠ 0 → ∃ C', S (pu_rm C a k w) = some (pu_rm C' a k w) ∧ ∀ (q : Nat) (j i : Int), ¬ (q = 46 ∧ j = x ∧ 1 ≤ i) → C' q j i = C q j i
theorem pu_S.f {x s : Int} {o : MiD → Option (Int × MiD)} (hs : 1 ≤ s) (ho : ∀ (C : MiD) (a k w : Int), k ≠ 0 → o (pu_rm C a k w) = some (0, pu_rm C a k w)) : pu_noF x (pu_S x s o) := fun C a k w hk => by
  unfold pu_S
  rw [ho C a k w hk, pu_b2E, pu_rmso (by omega)]
  exact ⟨_, rfl, fun q j i z => by rw [pu_st, if_neg (by omega)]⟩
theorem pu_noF.id {x : Int} : pu_noF x some := fun C a k w hk => ⟨C, rfl, fun _ _ _ _ => rfl⟩
theorem pu_noF.sq {x : Int} {S1 S2 : MiD → Option MiD} (h1 : pu_noF x S1) (h2 : pu_noF x S2) : pu_noF x (fun D => mi_bi (S1 D) S2) := fun C a k w hk => by
  obtain ⟨C1, e1, f1⟩ := h1 C a k w hk
  obtain ⟨C2, e2, f2⟩ := h2 C1 a k w hk
  refine ⟨C2, ?_, fun q j i z => (f2 q j i z).trans (f1 q j i z)⟩
  show mi_bi (S1 _) S2 = _
  rw [e1, pu_biE, e2]
theorem pu_pt.sq {α : Type} {v n y x : Int} {B C : MiD} {L : MiD → Option α} {F' : MiD → Option α} {r1 r2 : Option MiD} {S2 : MiD → Option MiD} {Q1 Q2 : MiD → MiD → Prop}
    (h : pu_pt some v n y x B C r1 r2 Q1) (hL : ∀ (B' : MiD) (a k w : Int), k ≠ 0 → L (pu_rd B' v a k w) = F' (pu_rd B' v a k w)) (hS : pu_noF x S2)
    (hk : ∀ (B' C' : MiD) (a : Int), 0 ≤ a → a ≤ n → (∀ (q : Nat) (j i : Int), ¬ (q = 7 ∧ j = y ∧ 1 ≤ i) → B' q j i = B q j i) → (∀ (q : Nat) (j i : Int), ¬ (q = 46 ∧ j = x ∧ 1 ≤ i) → C' q j i = C q j i) → Q1 B' C' → pu_pt F' v n y x B' C' (L (pu_rd B' v a 0 (-1))) (S2 (pu_rm C' a 0 (-1))) Q2) :
    pu_pt F' v n y x B C (mi_bi r1 L) (mi_bi r2 S2) Q2 := by
  obtain ⟨B', C', a1, a2, k, w, e1, e2, b1, b2, f1, f2, k4, g⟩ := h
  rw [e1, e2, pu_biE, pu_biE]
  by_cases c : k = 0
  · obtain ⟨g1, g2, g3⟩ := g c
    subst g1 g2 c
    obtain ⟨B2, C2, a1', a2', k', w', e1', e2', b1', b2', f1', f2', k4', g'⟩ := hk B' C' a1 b1.1 b1.2 f1 f2 g3
    exact ⟨B2, C2, a1', a2', k', w', e1', e2', b1', b2', fun q j i z => (f1' q j i z).trans (f1 q j i z), fun q j i z => (f2' q j i z).trans (f2 q j i z), k4', g'⟩
  · obtain ⟨C2, e3, f3⟩ := hS C' a2 k w c
    exact ⟨B', C2, a1, a2, k, w, hL B' a1 k w c, e3, b1, b2, f1, fun q j i z => (f3 q j i z).trans (f2 q j i z), k4, fun z => absurd z c⟩
theorem pu_nk_b {T : Int → Int} {n a hi : Int} : 0 ≤ pu_nk T n a hi ∧ pu_nk T n a hi ≤ 2 := by unfold pu_nk; split <;> (try split) <;> decide
theorem pu_nk_0 {T : Int → Int} {n a hi : Int} (h : pu_nk T n a hi = 0) : pu_nn T n a ≤ hi := by
  unfold pu_nk at h
  split at h
  · exact absurd h (by decide)
  · split at h
    · assumption
    · exact absurd h (by decide)
theorem pu_pN {Z : MiZ} {v n y x : Int} {T : Int → Int} {B C : MiD} (h1 : pu_X1 Z v n T B) (h2 : pu_X2 n T C) {a hi s : Int} {g : Int} (ha : 0 ≤ a) (hb : a ≤ n) (hh : 0 ≤ hi ∧ hi < 100000) (hg : 1 ≤ g) (hs : 1 ≤ s) :
    pu_pt some v n y x B C (mi_b2 (B_X5_readNumber Z v hi (pu_rd B v a 0 (-1))) fun z D => mi_let (mi_st D 7 y g z) fun E => some E) (pu_S x s (B_X11_number 0 hi) (pu_rm C a 0 (-1))) (fun B' C' => ∃ z, B' = mi_st B 7 y g z ∧ C' = mi_st C 46 x s z ∧ 0 ≤ z ∧ z ≤ hi) := by
  obtain ⟨z, e1, e2, e3, e4⟩ := pu_readNE h1 (a := a) (hi := hi) (fl := 0) (p := -1) ha hb hh
  have e5 := pu_numE h2 (a := a) ha hb hh.1
  have nb := pu_ne_b (T := T) ha hb
  have n0 := pu_nn0 (T := T) (n := n) (a := a)
  unfold pu_S
  rw [e1, e5, pu_b2E, pu_letE]
  by_cases c : pu_nk T n a hi = 0
  · have c2 := pu_nk_0 c
    rw [if_pos c, if_pos c, pu_b2E, pu_rdso (by omega), pu_rmso (by omega), e2 c2]
    exact ⟨_, _, _, _, 0, -1, rfl, rfl, ⟨nb.1, nb.2.1⟩, ⟨nb.1, nb.2.1⟩, fun q j i z => by rw [pu_st, if_neg (by omega)], fun q j i z => by rw [pu_st, if_neg (by omega)], by decide, fun _ => ⟨rfl, rfl, _, rfl, rfl, n0.1, c2⟩⟩
  · unfold pu_fd
    rw [if_neg c, if_neg c, if_neg (by decide), pu_b2E, pu_rdso (by omega), pu_rmso (by omega)]
    exact ⟨_, _, _, _, pu_nk T n a hi, _, rfl, rfl, ⟨nb.1, nb.2.1⟩, ⟨nb.1, nb.2.1⟩, fun q j i z => by rw [pu_st, if_neg (by omega)], fun q j i z => by rw [pu_st, if_neg (by omega)], by have := pu_nk_b (T := T) (n := n) (a := a) (hi := hi); omega, fun z => absurd z c⟩
theorem pu_pK {Z : MiZ} {v n y x : Int} {T : Int → Int} {B C : MiD} (h1 : pu_X1 Z v n T B) (h2 : pu_X2 n T C) {a so s : Int} {g : Int} (ha : 0 ≤ a) (hb : a ≤ n) (hh : so = 8 ∨ so = 11) (hg : 1 ≤ g) (hs : 1 ≤ s) :
    pu_pt some v n y x B C (mi_b2 (B_X5_readKind Z v so (pu_rd B v a 0 (-1))) fun z D => mi_let (mi_st D 7 y g z) fun E => some E) (pu_S x s (B_X11_kindHere so) (pu_rm C a 0 (-1))) (fun B' C' => ∃ z, B' = mi_st B 7 y g z ∧ C' = mi_st C 46 x s z ∧ 0 ≤ z ∧ z < so) := by
  have e1 := pu_readKE h1 (a := a) (so := so) (fl := 0) (p := -1) ha hb
  have e5 := pu_kindE h2 (a := a) hh ha hb
  have b1 : a ≤ pu_nx (pu_bl T) n a := pu_nx_le
  have b2 : pu_nx (pu_bl T) n a ≤ n := pu_nx_ge hb
  unfold pu_S
  rw [e1, e5]
  by_cases c : 0 ≤ pu_kk T n a ∧ pu_kk T n a < so
  · have b3 : pu_nx (pu_bl T) n a + 1 ≤ n := by
      by_cases d : pu_nx (pu_bl T) n a < n
      · omega
      · exfalso
        have e : pu_wc T n (pu_nx (pu_bl T) n a) = -1 := by
          unfold pu_wc
          rw [pu_nx_end (p := pu_sl T) (by omega : n ≤ pu_nx (pu_bl T) n a), if_neg (by omega)]
        have : pu_kk T n a = -1 := by unfold pu_kk; rw [e]; decide
        omega
    rw [if_pos c, if_pos c, pu_b2E, pu_b2E, pu_letE, pu_rdso (by omega), pu_rmso (by omega)]
    exact ⟨_, _, _, _, 0, -1, rfl, rfl, ⟨by omega, b3⟩, ⟨by omega, b3⟩, fun q j i z => by rw [pu_st, if_neg (by omega)], fun q j i z => by rw [pu_st, if_neg (by omega)], by decide, fun _ => ⟨rfl, rfl, _, rfl, rfl, c⟩⟩
  · unfold pu_fd
    rw [if_neg c, if_neg c, if_neg (show ¬ ((0 : Int) ≠ 0) by decide), pu_b2E, pu_b2E, pu_letE, pu_rdso (by omega), pu_rmso (by omega)]
    exact ⟨_, _, _, _, 1, _, rfl, rfl, ⟨by omega, b2⟩, ⟨by omega, b2⟩, fun q j i z => by rw [pu_st, if_neg (by omega)], fun q j i z => by rw [pu_st, if_neg (by omega)], by decide, fun z => absurd z (by decide)⟩
theorem pu_pV {Z : MiZ} {v n y x : Int} {T : Int → Int} {B C : MiD} (h1 : pu_X1 Z v n T B) (h2 : pu_X2 n T C) {a s : Int} (ha : 0 ≤ a) (hb : a ≤ n) (hs : 1 ≤ s) (hy : 0 ≤ y) :
    pu_pt some v n y x B C (B_X5_readPart Z v 86 y (pu_rd B v a 0 (-1))) (pu_S x s B_X11_signed (pu_rm C a 0 (-1))) (fun B' C' => ∃ z, B' = mi_st B 7 y 5 z ∧ C' = mi_st C 46 x s z) := by
  have s12 := pu_sp_b (T := T) ha hb
  obtain ⟨w, e5, e6⟩ := pu_sgnE h2 (a := a) ha hb
  obtain ⟨z, e1, e2, e3, e4⟩ := pu_readNE h1 (a := pw_sp T n a) (hi := 99999) (fl := 0) (p := -1) s12.1 s12.2 (by decide)
  have nb := pu_ne_b (T := T) s12.1 s12.2
  have n0 := pu_nn0 (T := T) (n := n) (a := pw_sp T n a)
  have H : ∃ z', B_X5_readPart Z v 86 y (pu_rd B v a 0 (-1)) = some (mi_st (if pu_nk T n (pw_sp T n a) 99999 = 0 then pu_rd B v (pu_ne T n (pw_sp T n a)) 0 (-1) else pu_fd B v (pu_ne T n (pw_sp T n a)) 0 (-1) (pu_nk T n (pw_sp T n a) 99999) (pu_nx (pu_bl T) n (pw_sp T n a))) 7 y 5 z') ∧ (pu_nn T n (pw_sp T n a) ≤ 99999 → z' = pu_sv T n a) := by
    unfold B_X5_readPart B_X5_readPart_144 pu_sv
    rw [if_neg (by decide), if_neg (by decide), if_neg (by decide), if_neg (by decide), if_neg (by decide), if_neg (by decide), if_neg (by decide), if_neg (by decide), if_neg (by decide), if_neg (by decide), if_neg (by decide), if_neg (by decide), if_neg (by decide), if_neg (by decide), if_neg (by decide), if_neg (by decide), if_neg (by decide), if_neg (by decide), if_pos rfl, pu_passIfE h1 ha hb]
    by_cases c : pu_nx (pu_bl T) n a < n ∧ T (pu_nx (pu_bl T) n a) = 45
    · have es : pw_sp T n a = pu_nx (pu_bl T) n a + 1 := by unfold pw_sp; rw [if_pos c]
      rw [if_pos c, pu_b2E, if_neg (by decide), ← es, e1, pu_b2E, if_pos hy, pu_letE, pu_w (by omega) (by omega), if_pos c]
      exact ⟨_, rfl, fun q => by rw [e2 q]⟩
    · have es : pw_sp T n a = pu_nx (pu_bl T) n a := by unfold pw_sp; rw [if_neg c]
      rw [if_neg c, pu_b2E, if_pos rfl, ← es, e1, pu_b2E, if_pos hy, pu_letE]
      rw [← es] at c
      refine ⟨_, rfl, fun q => ?_⟩
      rw [e2 q, if_neg c]
  obtain ⟨z', H1, H2⟩ := H
  unfold pu_S
  rw [H1, e5, pu_b2E]
  by_cases c : pu_nk T n (pw_sp T n a) 99999 = 0
  · have c2 := pu_nk_0 c
    rw [if_pos c, if_pos c, pu_rdso (by omega), pu_rmso (by omega), e6 c, H2 c2]
    exact ⟨_, _, _, _, 0, -1, rfl, rfl, ⟨nb.1, nb.2.1⟩, ⟨nb.1, nb.2.1⟩, fun q j i z => by rw [pu_st, if_neg (by omega)], fun q j i z => by rw [pu_st, if_neg (by omega)], by decide, fun _ => ⟨rfl, rfl, _, rfl, rfl⟩⟩
  · unfold pu_fd
    rw [if_neg c, if_neg c, if_neg (by decide), pu_rdso (by omega), pu_rmso (by omega)]
    exact ⟨_, _, _, _, _, _, rfl, rfl, ⟨nb.1, nb.2.1⟩, ⟨nb.1, nb.2.1⟩, fun q j i z => by rw [pu_st, if_neg (by omega)], fun q j i z => by rw [pu_st, if_neg (by omega)], by have := pu_nk_b (T := T) (n := n) (a := pw_sp T n a) (hi := 99999); omega, fun z => absurd z c⟩
theorem pu_X1.st {Z : MiZ} {v n : Int} {T : Int → Int} {B B' : MiD} (h : pu_X1 Z v n T B) (f : ∀ (q : Nat) (j i : Int), q = 9 ∨ q = 10 → B' q j i = B q j i) : pu_X1 Z v n T B' := ⟨h.n0, h.n5, h.lk, by rw [f _ _ _ (by omega)]; exact h.ln, fun i a b => by rw [f _ _ _ (by omega)]; exact h.t i a b, h.tb⟩
theorem pu_X2.st {n : Int} {T : Int → Int} {B B' : MiD} (h : pu_X2 n T B) (f : ∀ (q : Nat) (j i : Int), q = 42 ∨ q = 40 → B' q j i = B q j i) : pu_X2 n T B' := ⟨h.n0, h.n5, by rw [f _ _ _ (by omega)]; exact h.ln, fun i a b => by rw [f _ _ _ (by omega)]; exact h.t i a b, h.tb⟩
theorem pu_readNF {Z : MiZ} {v n : Int} {T : Int → Int} {B : MiD} (h : pu_X1 Z v n T B) {hi a fl p : Int} (h1 : 0 ≤ a) (h2 : a ≤ n) (hh : 0 ≤ hi ∧ hi < 100000) (hf : fl ≠ 0) :
    ∃ y e, B_X5_readNumber Z v hi (pu_rd B v a fl p) = some (y, pu_rd B v e fl p) ∧ 0 ≤ e ∧ e ≤ n := by
  obtain ⟨z, e1, -⟩ := pu_readNE h (a := a) (hi := hi) (fl := fl) (p := p) h1 h2 hh
  have nb := pu_ne_b (T := T) h1 h2
  refine ⟨z, _, ?_, nb.1, nb.2.1⟩
  rw [e1]
  unfold pu_fd
  rw [if_pos hf]
  split <;> rfl
theorem pu_pX {Z : MiZ} {v n y x : Int} {T : Int → Int} {B C : MiD} (h1 : pu_X1 Z v n T B) (h2 : pu_X2 n T C) {a : Int} (ha : 0 ≤ a) (hb : a ≤ n) (h3 : B 7 y 3 = -1) :
    pu_pt some v n y x B C (B_X5_readPart_225 Z v y (pu_rd B v a 0 (-1))) (pu_S x 2 B_X11_rowHere (pu_rm C a 0 (-1))) (fun B' C' => ∃ d m, B' 7 y 2 = d ∧ B' 7 y 3 = m ∧ (∀ i : Int, i ≠ 2 → i ≠ 3 → B' 7 y i = B 7 y i) ∧ C' = mi_st C 46 x 2 (pu_r d m) ∧ (0 ≤ d ∧ d < 10) ∧ -1 ≤ m ∧ m < 5) := by
  obtain ⟨z, e1, e2, e3, e4⟩ := pu_readNE h1 (a := a) (hi := 9) (fl := 0) (p := -1) ha hb (by decide)
  have e5 := pu_numE h2 (a := a) (hi := 9) ha hb (by decide)
  have nb := pu_ne_b (T := T) ha hb
  have n0 := pu_nn0 (T := T) (n := n) (a := a)
  have n5 := h1.n5
  have fE := pu_fuelE
  have X1 : ∀ u : Int, pu_X1 Z v n T (mi_st B 7 y 2 u) := fun u => h1.st fun q j i r => by rw [pu_st, if_neg (by omega)]
  unfold B_X5_readPart_225 pu_S B_X11_rowHere B_X11_fine
  rw [e1, e5]
  have c1 : pu_ne T n a ≤ pu_nx (pu_bl T) n (pu_ne T n a) := pu_nx_le
  have c2 : pu_nx (pu_bl T) n (pu_ne T n a) ≤ n := pu_nx_ge nb.2.1
  by_cases c : pu_nk T n a 9 = 0
  · have q2 := pu_nk_0 c
    rw [if_pos c, if_pos c, pu_b2E, pu_b2E, pu_letE, pu_rdso (by omega), e2 q2, pu_passIfE (X1 _) nb.1 nb.2.1, pu_rm6, if_neg (show ¬ ((0 : Int) ≠ 0) by decide), pu_biE, if_neg (show ¬ ((1 : Int) = 0) by decide), pu_hereE h2 _ _ nb.1 nb.2.1 (by omega), pu_b2E]
    have i := pu_baE h2 (b := pu_nx (pu_bl T) n (pu_ne T n a)) (c := 46) (by omega) (by decide)
    by_cases e : pu_nx (pu_bl T) n (pu_ne T n a) < n ∧ T (pu_nx (pu_bl T) n (pu_ne T n a)) = 46
    · have a1 : 0 ≤ pu_nx (pu_bl T) n (pu_ne T n a) + 1 := by omega
      have a2 : pu_nx (pu_bl T) n (pu_ne T n a) + 1 ≤ n := by omega
      rw [if_pos e, pu_b2E, if_neg (show ¬ ((1 : Int) = 0) by decide), if_pos (i.mpr e), pu_letE, pu_rm4, pu_rms4, pu_w (x := pu_nx (pu_bl T) n (pu_ne T n a) + 1) (by omega) (by omega)]
      generalize pu_nx (pu_bl T) n (pu_ne T n a) + 1 = a' at *
      obtain ⟨z', e1', e2', e3', e4'⟩ := pu_readNE (X1 (pu_nn T n a)) (a := a') (hi := 4) (fl := 0) (p := -1) a1 a2 (by decide)
      have e5' := pu_numE h2 (a := a') (hi := 4) a1 a2 (by decide)
      have nb' := pu_ne_b (T := T) a1 a2
      have n0' := pu_nn0 (T := T) (n := n) (a := a')
      rw [e1', e5']
      by_cases c' : pu_nk T n a' 4 = 0
      · have q2' := pu_nk_0 c'
        rw [if_pos c', if_pos c', pu_b2E, pu_b2E, pu_letE, pu_b2E, pu_rdso (by omega), pu_rmso (by omega), e2' q2']
        refine ⟨_, _, _, _, 0, -1, rfl, rfl, ⟨nb'.1, nb'.2.1⟩, ⟨nb'.1, nb'.2.1⟩, fun q j i z => by rw [pu_st, if_neg (by omega), pu_st, if_neg (by omega)], fun q j i z => by rw [pu_st, if_neg (by omega)], by decide, fun _ => ⟨rfl, rfl, pu_nn T n a, pu_nn T n a', ?_, ?_, fun i p q => ?_, ?_, ⟨n0.1, by omega⟩, by omega, by omega⟩⟩
        · rw [pu_st, if_neg (by omega), pu_st_eq]
        · rw [pu_st_eq]
        · rw [pu_st, if_neg (by omega), pu_st, if_neg (by omega)]
        · unfold pu_r
          rw [if_neg (by omega), pu_w (x := 5 * pu_nn T n a) (by omega) (by omega), pu_w (x := 10 + 5 * pu_nn T n a) (by omega) (by omega), pu_w (x := 10 + 5 * pu_nn T n a + pu_nn T n a') (by omega) (by omega)]
      · unfold pu_fd
        rw [if_neg c', if_neg c', if_neg (show ¬ ((0 : Int) ≠ 0) by decide), pu_b2E, pu_b2E, pu_letE, pu_b2E, pu_rdso (by omega), pu_rmso (by omega)]
        exact ⟨_, _, _, _, _, _, rfl, rfl, ⟨nb'.1, nb'.2.1⟩, ⟨nb'.1, nb'.2.1⟩, fun q j i z => by rw [pu_st, if_neg (by omega), pu_st, if_neg (by omega)], fun q j i z => by rw [pu_st, if_neg (by omega)], by have := pu_nk_b (T := T) (n := n) (a := a') (hi := 4); omega, fun z => absurd z c'⟩
    · rw [if_neg e, pu_b2E, if_pos rfl, if_neg (fun z => e (i.mp z)), pu_b2E, pu_rmso (by omega)]
      refine ⟨_, _, _, _, 0, -1, rfl, rfl, ⟨by omega, c2⟩, ⟨by omega, c2⟩, fun q j i z => by rw [pu_st, if_neg (by omega)], fun q j i z => by rw [pu_st, if_neg (by omega)], by decide, fun _ => ⟨rfl, rfl, pu_nn T n a, -1, pu_st_eq, ?_, fun i p q => ?_, ?_, ⟨n0.1, by omega⟩, by decide, by decide⟩⟩
      · rw [pu_st, if_neg (by omega)]; exact h3
      · rw [pu_st, if_neg (by omega)]
      · unfold pu_r
        rw [if_pos rfl]
  · have kb := pu_nk_b (T := T) (n := n) (a := a) (hi := 9)
    unfold pu_fd
    rw [if_neg c, if_neg c, if_neg (show ¬ ((0 : Int) ≠ 0) by decide), pu_b2E, pu_b2E, pu_letE, pu_rdso (by omega), pu_passIfE (X1 _) nb.1 nb.2.1, pu_rm6, if_pos c, pu_biE, if_pos rfl]
    by_cases e : pu_nx (pu_bl T) n (pu_ne T n a) < n ∧ T (pu_nx (pu_bl T) n (pu_ne T n a)) = 46
    · obtain ⟨z', e', k1, k2, k3⟩ := pu_readNF (X1 z) (a := pu_nx (pu_bl T) n (pu_ne T n a) + 1) (hi := 4) (fl := pu_nk T n a 9) (p := pu_nx (pu_bl T) n a) (by omega) (by omega) (by decide) c
      rw [if_pos e, pu_b2E, if_neg (show ¬ ((1 : Int) = 0) by decide), k1, pu_b2E, pu_letE, pu_rdso (by omega), pu_b2E, pu_rmso (by omega)]
      exact ⟨_, _, _, _, _, _, rfl, rfl, ⟨k2, k3⟩, ⟨nb.1, nb.2.1⟩, fun q j i z => by rw [pu_st, if_neg (by omega), pu_st, if_neg (by omega)], fun q j i z => by rw [pu_st, if_neg (by omega)], by omega, fun z => absurd z c⟩
    · rw [if_neg e, pu_b2E, if_pos rfl, pu_b2E, pu_rmso (by omega)]
      exact ⟨_, _, _, _, _, _, rfl, rfl, ⟨by omega, c2⟩, ⟨nb.1, nb.2.1⟩, fun q j i z => by rw [pu_st, if_neg (by omega)], fun q j i z => by rw [pu_st, if_neg (by omega)], by omega, fun z => absurd z c⟩
theorem pu_pT {Z : MiZ} {v n y x : Int} {T : Int → Int} {B C : MiD} (h1 : pu_X1 Z v n T B) (h2 : pu_X2 n T C) {a : Int} (ha : 0 ≤ a) (hb : a ≤ n) :
    pu_pt some v n y x B C (mi_b2 (B_X5_readText Z v (pu_rd B v a 0 (-1))) fun z D => mi_let (mi_st D 7 y 5 z) fun E => some E) (B_X11_readsText x (pu_rm C a 0 (-1))) (fun B' C' => ∃ z, B' = mi_st B 7 y 5 z ∧ C' = mi_st (mi_st C 46 x 1 (z / 19683)) 46 x 2 (z % 19683) ∧ 0 ≤ z ∧ z < 387420489) := by
  have e1 := pu_readTE h1 (a := a) (fl := 0) (p := -1) ha hb
  have e5 := pu_textE h2 (x := x) (a := a) ha hb
  have b1 : a ≤ pu_nx (pu_bl T) n a := pu_nx_le
  have b2 : pu_nx (pu_bl T) n a ≤ n := pu_nx_ge hb
  rw [e1, e5]
  generalize pu_nx (pu_bl T) n a = b at *
  have b3 : b ≤ pu_nx (pu_sl T) n b := pu_nx_le
  have b4 : pu_nx (pu_sl T) n b ≤ n := pu_nx_ge b2
  by_cases c : pu_wc T n b ≠ -1
  · have hw : 0 ≤ pu_wc T n b ∧ pu_wc T n b < 387420489 := by
      unfold pu_wc at c ⊢
      by_cases d : b < pu_nx (pu_sl T) n b ∧ pu_nx (pu_sl T) n b ≤ b + 6
      · rw [if_pos d]
        exact pu_cd_6 (by omega) (fun i a => pu_small (n := n) (by omega))
      · rw [if_neg d] at c
        exact absurd rfl c
    rw [if_pos c, if_pos c, pu_b2E, pu_letE, pu_rdso (by omega)]
    exact ⟨_, _, _, _, 0, -1, rfl, rfl, ⟨by omega, b4⟩, ⟨by omega, b4⟩, fun q j i z => by rw [pu_st, if_neg (by omega)], fun q j i z => by rw [pu_st, if_neg (by omega), pu_st, if_neg (by omega)], by decide, fun _ => ⟨rfl, rfl, _, rfl, rfl, hw⟩⟩
  · unfold pu_fd
    rw [if_neg c, if_neg c, if_neg (show ¬ ((0 : Int) ≠ 0) by decide), pu_b2E, pu_letE, pu_rdso (by omega)]
    exact ⟨_, _, _, _, 1, _, rfl, rfl, ⟨by omega, b2⟩, ⟨by omega, b2⟩, fun q j i z => by rw [pu_st, if_neg (by omega)], fun q j i z => rfl, by decide, fun z => absurd z (by decide)⟩
def pu_op (c : Int) : Int := if c = 60114 then 0 else if c = 13277 then 1 else if c = 40187 then 2 else if c = 358472 then 3 else if c = 382255 then 4 else if c = 48699 then 5 else if c = 1834209 then 6 else if c = 394691 then 7 else if c = 397973 then 8 else if c = 286880 then 9 else if c = 5258 then 10 else if c = 14006 then 11 else if c = 1887 then 12 else if c = 12251 then 13 else if c = 256910 then 14 else if c = 131360 then 15 else if c = 10256009 then 16 else if c = 220309 then 17 else if c = 242939 then 18 else -1
def pu_gwL : List Nat := [3, 5, 7, 8, 10, 11, 12, 13, 15, 17, 18, 20, 22, 24, 25, 27, 29, 31, 32, 33, 34, 35, 36, 37, 39, 40, 41, 42, 43, 44, 45, 46, 47, 48, 49, 50, 51, 52, 53, 54, 55, 56, 57, 59, 60, 61, 62, 63]
theorem pu_gwF : ∀ k ∈ pu_gwL, k < 64 ∧ (0 < mi_sl ((k : Nat) : Int) ∧ mi_sl ((k : Nat) : Int) ≤ 6) ∧ ∀ i ∈ List.range 6, (i < (mi_sl ((k : Nat) : Int)).toNat → 1 ≤ mi_sc ((k : Nat) : Int) ((i : Nat) : Int) - 96 ∧ mi_sc ((k : Nat) : Int) ((i : Nat) : Int) - 96 ≤ 26) := by decide +kernel
theorem pu_gwE (k : Nat) (h : k ∈ pu_gwL) : pu_gw (k : Int) := by
  obtain ⟨a, p, q⟩ := pu_gwF k h
  exact ⟨by omega, p, fun i a => q i (List.mem_range.mpr (by omega)) a⟩
theorem pu_opwF : ∀ k ∈ List.range 19, (mi_opw ((k : Nat) : Int)).toNat ∈ pu_gwL ∧ 0 ≤ mi_opw ((k : Nat) : Int) ∧ pu_op (pu_kw (mi_opw ((k : Nat) : Int))) = k := by decide +kernel
theorem pu_opg {k : Int} (h : 0 ≤ k ∧ k < 19) : pu_gw (mi_opw k) ∧ pu_op (pu_kw (mi_opw k)) = k := by
  obtain ⟨m, rfl⟩ := Int.eq_ofNat_of_zero_le h.1
  obtain ⟨p, q, r⟩ := pu_opwF m (List.mem_range.mpr (by omega))
  have := pu_gwE _ p
  rw [Int.toNat_of_nonneg q] at this
  exact ⟨this, r⟩
theorem pu_opk : pu_kw (mi_opw 0) = 60114 ∧ pu_kw (mi_opw 1) = 13277 ∧ pu_kw (mi_opw 2) = 40187 ∧ pu_kw (mi_opw 3) = 358472 ∧ pu_kw (mi_opw 4) = 382255 ∧ pu_kw (mi_opw 5) = 48699 ∧ pu_kw (mi_opw 6) = 1834209 ∧ pu_kw (mi_opw 7) = 394691 ∧ pu_kw (mi_opw 8) = 397973 ∧ pu_kw (mi_opw 9) = 286880 ∧ pu_kw (mi_opw 10) = 5258 ∧ pu_kw (mi_opw 11) = 14006 ∧ pu_kw (mi_opw 12) = 1887 ∧ pu_kw (mi_opw 13) = 12251 ∧ pu_kw (mi_opw 14) = 256910 ∧ pu_kw (mi_opw 15) = 131360 ∧ pu_kw (mi_opw 16) = 10256009 ∧ pu_kw (mi_opw 17) = 220309 ∧ pu_kw (mi_opw 18) = 242939 := by decide +kernel
theorem pu_op_c (w : Int) : pu_op w = -1 ∨ ∃ k : Int, (0 ≤ k ∧ k < 19) ∧ w = pu_kw (mi_opw k) ∧ pu_op w = k := by
  obtain ⟨k0, k1, k2, k3, k4, k5, k6, k7, k8, k9, k10, k11, k12, k13, k14, k15, k16, k17, k18⟩ := pu_opk
  by_cases q0 : w = 60114
  · exact Or.inr ⟨0, by decide, by rw [k0]; exact q0, by rw [q0]; decide⟩
  by_cases q1 : w = 13277
  · exact Or.inr ⟨1, by decide, by rw [k1]; exact q1, by rw [q1]; decide⟩
  by_cases q2 : w = 40187
  · exact Or.inr ⟨2, by decide, by rw [k2]; exact q2, by rw [q2]; decide⟩
  by_cases q3 : w = 358472
  · exact Or.inr ⟨3, by decide, by rw [k3]; exact q3, by rw [q3]; decide⟩
  by_cases q4 : w = 382255
  · exact Or.inr ⟨4, by decide, by rw [k4]; exact q4, by rw [q4]; decide⟩
  by_cases q5 : w = 48699
  · exact Or.inr ⟨5, by decide, by rw [k5]; exact q5, by rw [q5]; decide⟩
  by_cases q6 : w = 1834209
  · exact Or.inr ⟨6, by decide, by rw [k6]; exact q6, by rw [q6]; decide⟩
  by_cases q7 : w = 394691
  · exact Or.inr ⟨7, by decide, by rw [k7]; exact q7, by rw [q7]; decide⟩
  by_cases q8 : w = 397973
  · exact Or.inr ⟨8, by decide, by rw [k8]; exact q8, by rw [q8]; decide⟩
  by_cases q9 : w = 286880
  · exact Or.inr ⟨9, by decide, by rw [k9]; exact q9, by rw [q9]; decide⟩
  by_cases q10 : w = 5258
  · exact Or.inr ⟨10, by decide, by rw [k10]; exact q10, by rw [q10]; decide⟩
  by_cases q11 : w = 14006
  · exact Or.inr ⟨11, by decide, by rw [k11]; exact q11, by rw [q11]; decide⟩
  by_cases q12 : w = 1887
  · exact Or.inr ⟨12, by decide, by rw [k12]; exact q12, by rw [q12]; decide⟩
  by_cases q13 : w = 12251
  · exact Or.inr ⟨13, by decide, by rw [k13]; exact q13, by rw [q13]; decide⟩
  by_cases q14 : w = 256910
  · exact Or.inr ⟨14, by decide, by rw [k14]; exact q14, by rw [q14]; decide⟩
  by_cases q15 : w = 131360
  · exact Or.inr ⟨15, by decide, by rw [k15]; exact q15, by rw [q15]; decide⟩
  by_cases q16 : w = 10256009
  · exact Or.inr ⟨16, by decide, by rw [k16]; exact q16, by rw [q16]; decide⟩
  by_cases q17 : w = 220309
  · exact Or.inr ⟨17, by decide, by rw [k17]; exact q17, by rw [q17]; decide⟩
  by_cases q18 : w = 242939
  · exact Or.inr ⟨18, by decide, by rw [k18]; exact q18, by rw [q18]; decide⟩
  left
  unfold pu_op
  rw [if_neg q0, if_neg q1, if_neg q2, if_neg q3, if_neg q4, if_neg q5, if_neg q6, if_neg q7, if_neg q8, if_neg q9, if_neg q10, if_neg q11, if_neg q12, if_neg q13, if_neg q14, if_neg q15, if_neg q16, if_neg q17, if_neg q18]
theorem pu_kwr : pu_kw 39 = 60114 ∧ pu_kw 40 = 13277 ∧ pu_kw 41 = 40187 ∧ pu_kw 42 = 358472 ∧ pu_kw 43 = 382255 ∧ pu_kw 44 = 48699 ∧ pu_kw 45 = 1834209 ∧ pu_kw 46 = 394691 ∧ pu_kw 47 = 397973 ∧ pu_kw 48 = 286880 ∧ pu_kw 49 = 5258 ∧ pu_kw 50 = 14006 ∧ pu_kw 51 = 1887 ∧ pu_kw 52 = 12251 ∧ pu_kw 53 = 256910 ∧ pu_kw 54 = 10256009 ∧ pu_kw 55 = 220309 ∧ pu_kw 56 = 242939 ∧ pu_kw 57 = 131360 := by decide +kernel
theorem pu_deedOfE {D : MiD} {w : Int} : B_X11_deedOf D w = some (pu_op w) := by
  obtain ⟨r0, r1, r2, r3, r4, r5, r6, r7, r8, r9, r10, r11, r12, r13, r14, r16, r17, r18, r15⟩ := pu_kwr
  unfold B_X11_deedOf
  rw [pu_codedE (w := 39) (pu_gwE 39 (by decide)), pu_biE, r0]
  by_cases q0 : w = 60114
  · rw [if_neg (fun z => z (pu_cmp_0.mpr q0)), q0]
    rfl
  rw [if_pos (fun z => q0 (pu_cmp_0.mp z))]
  rw [pu_codedE (w := 40) (pu_gwE 40 (by decide)), pu_biE, r1]
  by_cases q1 : w = 13277
  · rw [if_neg (fun z => z (pu_cmp_0.mpr q1)), q1]
    rfl
  rw [if_pos (fun z => q1 (pu_cmp_0.mp z))]
  rw [pu_codedE (w := 41) (pu_gwE 41 (by decide)), pu_biE, r2]
  by_cases q2 : w = 40187
  · rw [if_neg (fun z => z (pu_cmp_0.mpr q2)), q2]
    rfl
  rw [if_pos (fun z => q2 (pu_cmp_0.mp z))]
  rw [pu_codedE (w := 42) (pu_gwE 42 (by decide)), pu_biE, r3]
  by_cases q3 : w = 358472
  · rw [if_neg (fun z => z (pu_cmp_0.mpr q3)), q3]
    rfl
  rw [if_pos (fun z => q3 (pu_cmp_0.mp z))]
  rw [pu_codedE (w := 43) (pu_gwE 43 (by decide)), pu_biE, r4]
  by_cases q4 : w = 382255
  · rw [if_neg (fun z => z (pu_cmp_0.mpr q4)), q4]
    rfl
  rw [if_pos (fun z => q4 (pu_cmp_0.mp z))]
  rw [pu_codedE (w := 44) (pu_gwE 44 (by decide)), pu_biE, r5]
  by_cases q5 : w = 48699
  · rw [if_neg (fun z => z (pu_cmp_0.mpr q5)), q5]
    rfl
  rw [if_pos (fun z => q5 (pu_cmp_0.mp z))]
  rw [pu_codedE (w := 45) (pu_gwE 45 (by decide)), pu_biE, r6]
  by_cases q6 : w = 1834209
  · rw [if_neg (fun z => z (pu_cmp_0.mpr q6)), q6]
    rfl
  rw [if_pos (fun z => q6 (pu_cmp_0.mp z))]
  rw [pu_codedE (w := 46) (pu_gwE 46 (by decide)), pu_biE, r7]
  by_cases q7 : w = 394691
  · rw [if_neg (fun z => z (pu_cmp_0.mpr q7)), q7]
    rfl
  rw [if_pos (fun z => q7 (pu_cmp_0.mp z))]
  rw [pu_codedE (w := 47) (pu_gwE 47 (by decide)), pu_biE, r8]
  by_cases q8 : w = 397973
  · rw [if_neg (fun z => z (pu_cmp_0.mpr q8)), q8]
    rfl
  rw [if_pos (fun z => q8 (pu_cmp_0.mp z))]
  rw [pu_codedE (w := 48) (pu_gwE 48 (by decide)), pu_biE, r9]
  by_cases q9 : w = 286880
  · rw [if_neg (fun z => z (pu_cmp_0.mpr q9)), q9]
    rfl
  rw [if_pos (fun z => q9 (pu_cmp_0.mp z))]
  rw [pu_codedE (w := 49) (pu_gwE 49 (by decide)), pu_biE, r10]
  by_cases q10 : w = 5258
  · rw [if_neg (fun z => z (pu_cmp_0.mpr q10)), q10]
    rfl
  rw [if_pos (fun z => q10 (pu_cmp_0.mp z))]
  rw [pu_codedE (w := 50) (pu_gwE 50 (by decide)), pu_biE, r11]
  by_cases q11 : w = 14006
  · rw [if_neg (fun z => z (pu_cmp_0.mpr q11)), q11]
    rfl
  rw [if_pos (fun z => q11 (pu_cmp_0.mp z))]
  rw [pu_codedE (w := 51) (pu_gwE 51 (by decide)), pu_biE, r12]
  by_cases q12 : w = 1887
  · rw [if_neg (fun z => z (pu_cmp_0.mpr q12)), q12]
    rfl
  rw [if_pos (fun z => q12 (pu_cmp_0.mp z))]
  rw [pu_codedE (w := 52) (pu_gwE 52 (by decide)), pu_biE, r13]
  by_cases q13 : w = 12251
  · rw [if_neg (fun z => z (pu_cmp_0.mpr q13)), q13]
    rfl
  rw [if_pos (fun z => q13 (pu_cmp_0.mp z))]
  rw [pu_codedE (w := 53) (pu_gwE 53 (by decide)), pu_biE, r14]
  by_cases q14 : w = 256910
  · rw [if_neg (fun z => z (pu_cmp_0.mpr q14)), q14]
    rfl
  rw [if_pos (fun z => q14 (pu_cmp_0.mp z))]
  rw [pu_codedE (w := 54) (pu_gwE 54 (by decide)), pu_biE, r16]
  by_cases q16 : w = 10256009
  · rw [if_neg (fun z => z (pu_cmp_0.mpr q16)), q16]
    rfl
  rw [if_pos (fun z => q16 (pu_cmp_0.mp z))]
  rw [pu_codedE (w := 55) (pu_gwE 55 (by decide)), pu_biE, r17]
  by_cases q17 : w = 220309
  · rw [if_neg (fun z => z (pu_cmp_0.mpr q17)), q17]
    rfl
  rw [if_pos (fun z => q17 (pu_cmp_0.mp z))]
  rw [pu_codedE (w := 56) (pu_gwE 56 (by decide)), pu_biE, r18]
  by_cases q18 : w = 242939
  · rw [if_neg (fun z => z (pu_cmp_0.mpr q18)), q18]
    rfl
  rw [if_pos (fun z => q18 (pu_cmp_0.mp z))]
  rw [pu_codedE (w := 57) (pu_gwE 57 (by decide)), pu_biE, r15]
  by_cases q15 : w = 131360
  · rw [if_neg (fun z => z (pu_cmp_0.mpr q15)), q15]
    rfl
  rw [if_pos (fun z => q15 (pu_cmp_0.mp z))]
  unfold pu_op
  rw [if_neg q0, if_neg q1, if_neg q2, if_neg q3, if_neg q4, if_neg q5, if_neg q6, if_neg q7, if_neg q8, if_neg q9, if_neg q10, if_neg q11, if_neg q12, if_neg q13, if_neg q14, if_neg q15, if_neg q16, if_neg q17, if_neg q18]
theorem pu_oppF : ∀ k ∈ List.range 19, 0 ≤ mi_opp ((k : Nat) : Int) ∧ mi_opp ((k : Nat) : Int) < 64 := by decide +kernel
theorem pu_oppB {k : Int} (h : 0 ≤ k ∧ k < 19) : 0 ≤ mi_opp k ∧ mi_opp k < 64 := by
  obtain ⟨m, rfl⟩ := Int.eq_ofNat_of_zero_le h.1
  exact pu_oppF m (List.mem_range.mpr (by omega))
theorem pu_71s {Z : MiZ} {v c k y i a p : Int} {B : MiD} {f : Nat} (hk : 0 ≤ k ∧ k < 19) (hy : 0 ≤ y) (hi : 0 ≤ i ∧ i < mi_sl (mi_opp k)) (hi2 : i < 100) : B_X5_readDeed_71 (f + 1) v c k y i (pu_rd B v a 0 p) Z = mi_bi (B_X5_readPart Z v (mi_sc (mi_opp k) i) y (pu_rd B v a 0 p)) fun D9 => B_X5_readDeed_71 f v c k y (i + 1) D9 Z := by
  conv => lhs; unfold B_X5_readDeed_71
  rw [if_pos hk, pu_lenE (pu_oppB hk), pu_biE, if_neg (by omega), pu_rd3, if_neg (by decide), pu_chrE (pu_oppB hk) hi, pu_biE, if_pos hy, pu_w (by omega) (by omega)]
theorem pu_71f {Z : MiZ} {v c k y i a fl p : Int} {B : MiD} {f : Nat} (hk : 0 ≤ k ∧ k < 19) (hf : fl ≠ 0) : B_X5_readDeed_71 (f + 1) v c k y i (pu_rd B v a fl p) Z = B_X5_readDeed_113 v c y (pu_rd B v a fl p) Z := by
  conv => lhs; unfold B_X5_readDeed_71
  rw [if_pos hk, pu_lenE (pu_oppB hk), pu_biE, pu_rd3, if_pos hf]
  split <;> rfl
theorem pu_71e {Z : MiZ} {v c k y i : Int} {D : MiD} {f : Nat} (hk : 0 ≤ k ∧ k < 19) (hi : mi_sl (mi_opp k) ≤ i) : B_X5_readDeed_71 (f + 1) v c k y i D Z = B_X5_readDeed_113 v c y D Z := by
  conv => lhs; unfold B_X5_readDeed_71
  rw [if_pos hk, pu_lenE (pu_oppB hk), pu_biE, if_pos hi]
theorem pu_rpD {Z : MiZ} {v y : Int} {D : MiD} : B_X5_readPart Z v 68 y D = mi_b2 (B_X5_readNumber Z v 9 D) fun z E => mi_let (mi_st E 7 y 2 z) fun F => some F := by
  unfold B_X5_readPart
  rw [if_pos rfl]
theorem pu_rpF {Z : MiZ} {v y : Int} {D : MiD} : B_X5_readPart Z v 70 y D = mi_b2 (B_X5_readNumber Z v 11 D) fun z E => mi_let (mi_st E 7 y 5 z) fun F => some F := by
  unfold B_X5_readPart
  rw [if_neg (by decide), if_neg (by decide), if_pos rfl]
theorem pu_rpG {Z : MiZ} {v y : Int} {D : MiD} : B_X5_readPart Z v 71 y D = mi_b2 (B_X5_readKind Z v 11 D) fun z E => mi_let (mi_st E 7 y 1 z) fun F => some F := by
  unfold B_X5_readPart
  rw [if_neg (by decide), if_neg (by decide), if_neg (by decide), if_pos rfl]
theorem pu_rpK {Z : MiZ} {v y : Int} {D : MiD} : B_X5_readPart Z v 75 y D = mi_b2 (B_X5_readKind Z v 8 D) fun z E => mi_let (mi_st E 7 y 1 z) fun F => some F := by
  unfold B_X5_readPart
  rw [if_neg (by decide), if_neg (by decide), if_neg (by decide), if_neg (by decide), if_neg (by decide), if_neg (by decide), if_neg (by decide), if_pos rfl]
theorem pu_rpM {Z : MiZ} {v y : Int} {D : MiD} : B_X5_readPart Z v 77 y D = mi_b2 (B_X5_readNumber Z v 4 D) fun z E => mi_let (mi_st E 7 y 3 z) fun F => some F := by
  unfold B_X5_readPart
  rw [if_neg (by decide), if_neg (by decide), if_neg (by decide), if_neg (by decide), if_neg (by decide), if_neg (by decide), if_neg (by decide), if_neg (by decide), if_neg (by decide), if_pos rfl]
theorem pu_rpN {Z : MiZ} {v y : Int} {D : MiD} : B_X5_readPart Z v 78 y D = mi_b2 (B_X5_readNumber Z v 99 D) fun z E => mi_let (mi_st E 7 y 5 z) fun F => some F := by
  unfold B_X5_readPart
  rw [if_neg (by decide), if_neg (by decide), if_neg (by decide), if_neg (by decide), if_neg (by decide), if_neg (by decide), if_neg (by decide), if_neg (by decide), if_neg (by decide), if_neg (by decide), if_pos rfl]
theorem pu_rpP {Z : MiZ} {v y : Int} {D : MiD} : B_X5_readPart Z v 80 y D = mi_b2 (B_X5_readNumber Z v 9 D) fun z E => mi_let (mi_st E 7 y 4 z) fun F => some F := by
  unfold B_X5_readPart
  rw [if_neg (by decide), if_neg (by decide), if_neg (by decide), if_neg (by decide), if_neg (by decide), if_neg (by decide), if_neg (by decide), if_neg (by decide), if_neg (by decide), if_neg (by decide), if_neg (by decide), if_neg (by decide), if_pos rfl]
theorem pu_rpT {Z : MiZ} {v y : Int} {D : MiD} : B_X5_readPart Z v 84 y D = mi_b2 (B_X5_readText Z v D) fun z E => mi_let (mi_st E 7 y 5 z) fun F => some F := by
  unfold B_X5_readPart
  rw [if_neg (by decide), if_neg (by decide), if_neg (by decide), if_neg (by decide), if_neg (by decide), if_neg (by decide), if_neg (by decide), if_neg (by decide), if_neg (by decide), if_neg (by decide), if_neg (by decide), if_neg (by decide), if_neg (by decide), if_neg (by decide), if_neg (by decide), if_neg (by decide), if_pos rfl]
theorem pu_rpX {Z : MiZ} {v y : Int} {D : MiD} : B_X5_readPart Z v 88 y D = B_X5_readPart_225 Z v y D := by
  unfold B_X5_readPart
  rw [if_neg (by decide), if_neg (by decide), if_neg (by decide), if_neg (by decide), if_neg (by decide), if_neg (by decide), if_neg (by decide), if_neg (by decide), if_neg (by decide), if_neg (by decide), if_neg (by decide), if_neg (by decide), if_neg (by decide), if_neg (by decide), if_neg (by decide), if_neg (by decide), if_neg (by decide), if_neg (by decide), if_neg (by decide)]
theorem pu_opF : mi_sl (mi_opp 0) = 1 ∧ mi_sc (mi_opp 0) 0 = 70 ∧ mi_sl (mi_opp 1) = 0 ∧ mi_sl (mi_opp 2) = 0 ∧ mi_sl (mi_opp 3) = 1 ∧ mi_sc (mi_opp 3) 0 = 78 ∧ mi_sl (mi_opp 4) = 1 ∧ mi_sc (mi_opp 4) 0 = 78 ∧ mi_sl (mi_opp 5) = 0 ∧ mi_sl (mi_opp 6) = 0 ∧ mi_sl (mi_opp 7) = 2 ∧ mi_sc (mi_opp 7) 0 = 75 ∧ mi_sc (mi_opp 7) 1 = 86 ∧ mi_sl (mi_opp 8) = 1 ∧ mi_sc (mi_opp 8) 0 = 84 ∧ mi_sl (mi_opp 9) = 0 ∧ mi_sl (mi_opp 10) = 3 ∧ mi_sc (mi_opp 10) 0 = 75 ∧ mi_sc (mi_opp 10) 1 = 88 ∧ mi_sc (mi_opp 10) 2 = 80 ∧ mi_sl (mi_opp 11) = 4 ∧ mi_sc (mi_opp 11) 0 = 75 ∧ mi_sc (mi_opp 11) 1 = 88 ∧ mi_sc (mi_opp 11) 2 = 80 ∧ mi_sc (mi_opp 11) 3 = 86 ∧ mi_sl (mi_opp 12) = 2 ∧ mi_sc (mi_opp 12) 0 = 88 ∧ mi_sc (mi_opp 12) 1 = 80 ∧ mi_sl (mi_opp 13) = 2 ∧ mi_sc (mi_opp 13) 0 = 88 ∧ mi_sc (mi_opp 13) 1 = 80 ∧ mi_sl (mi_opp 14) = 4 ∧ mi_sc (mi_opp 14) 0 = 68 ∧ mi_sc (mi_opp 14) 1 = 77 ∧ mi_sc (mi_opp 14) 2 = 71 ∧ mi_sc (mi_opp 14) 3 = 80 ∧ mi_sl (mi_opp 15) = 2 ∧ mi_sc (mi_opp 15) 0 = 68 ∧ mi_sc (mi_opp 15) 1 = 77 ∧ mi_sl (mi_opp 16) = 3 ∧ mi_sc (mi_opp 16) 0 = 68 ∧ mi_sc (mi_opp 16) 1 = 71 ∧ mi_sc (mi_opp 16) 2 = 80 ∧ mi_sl (mi_opp 17) = 2 ∧ mi_sc (mi_opp 17) 0 = 68 ∧ mi_sc (mi_opp 17) 1 = 77 ∧ mi_sl (mi_opp 18) = 2 ∧ mi_sc (mi_opp 18) 0 = 68 ∧ mi_sc (mi_opp 18) 1 = 77 := by decide +kernel
def pu_dv (K : Int) (y x : Int) (B C : MiD) : Prop := ∀ Z : MiZ, 0 ≤ y → 0 ≤ x ∧ x < 2664 → Z.1 7 y 0 = K → C 46 x 0 = K → pu_dd Z B y C x
theorem pu_noN {x hi s : Int} (hs : 1 ≤ s) : pu_noF x (pu_S x s (B_X11_number 0 hi)) := pu_S.f hs fun C a k w h => pu_numF h
theorem pu_noK {x so s : Int} (hs : 1 ≤ s) : pu_noF x (pu_S x s (B_X11_kindHere so)) := pu_S.f hs fun C a k w h => pu_kindF h
theorem pu_noV {x s : Int} (hs : 1 ≤ s) : pu_noF x (pu_S x s B_X11_signed) := pu_S.f hs fun C a k w h => pu_sgnF h
theorem pu_noX {x : Int} : pu_noF x (pu_S x 2 B_X11_rowHere) := pu_S.f (by decide) fun C a k w h => pu_rowF h
theorem pu_ptE {α : Type} {F : MiD → α} {v n y x : Int} {B C : MiD} {Q : MiD → MiD → Prop} {a : Int} (ha : 0 ≤ a) (hb : a ≤ n) (h : Q B C) : pu_pt F v n y x B C (F (pu_rd B v a 0 (-1))) (some (pu_rm C a 0 (-1))) Q :=
  ⟨B, C, a, a, 0, -1, rfl, rfl, ⟨ha, hb⟩, ⟨ha, hb⟩, fun _ _ _ _ => rfl, fun _ _ _ _ => rfl, by decide, fun _ => ⟨rfl, rfl, h⟩⟩
def pu_B0 (B : MiD) (y : Int) : Prop := (∀ i : Int, 1 ≤ i → i ≠ 3 → B 7 y i = 0) ∧ (B 7 y 3 = -1)
theorem pu_B0.a {B : MiD} {y : Int} (h : pu_B0 B y) : ∀ i : Int, 1 ≤ i → i ≠ 3 → B 7 y i = 0 := h.1
theorem pu_B0.b {B : MiD} {y : Int} (h : pu_B0 B y) : B 7 y 3 = -1 := h.2
theorem pu_noF.ite {x : Int} {S S' : MiD → Option MiD} {u : Int} (h : pu_noF x S) (h' : pu_noF x S') : pu_noF x (fun D => if D 46 x 0 ≠ u then S D else S' D) := fun C a k w hk => by
  by_cases c : pu_rm C a k w 46 x 0 ≠ u
  · obtain ⟨C', e, f⟩ := h C a k w hk
    exact ⟨C', by show (if _ then _ else _) = _; rw [if_pos c]; exact e, f⟩
  · obtain ⟨C', e, f⟩ := h' C a k w hk
    exact ⟨C', by show (if _ then _ else _) = _; rw [if_neg c]; exact e, f⟩
set_option maxHeartbeats 1000000 in
theorem pu_op0 {Z : MiZ} {v n c y x : Int} {T : Int → Int} {B C : MiD} (h1 : pu_X1 Z v n T B) (h2 : pu_X2 n T C) {a : Int} (ha : 0 ≤ a) (hb : a ≤ n) (hy : 0 ≤ y) (b0 : pu_B0 B y) (hC : C 46 x 0 = 0) (k : Nat) :
    pu_pt (fun D => B_X5_readDeed_113 v c y D Z) v n y x B C (B_X5_readDeed_71 (k + 6) v c 0 y 0 (pu_rd B v a 0 (-1)) Z) ((fun D => mi_bi (pu_S x 1 (B_X11_number 0 11) D) (some)) (pu_rm C a 0 (-1))) (pu_dv 0 y x) := by
  obtain ⟨l0, s0_0, l1, l2, l3, s3_0, l4, s4_0, l5, l6, l7, s7_0, s7_1, l8, s8_0, l9, l10, s10_0, s10_1, s10_2, l11, s11_0, s11_1, s11_2, s11_3, l12, s12_0, s12_1, l13, s13_0, s13_1, l14, s14_0, s14_1, s14_2, s14_3, l15, s15_0, s15_1, l16, s16_0, s16_1, s16_2, l17, s17_0, s17_1, l18, s18_0, s18_1⟩ := pu_opF
  rw [pu_71s (by decide) hy (by rw [l0]; decide) (by decide), s0_0, pu_rpF]
  show pu_pt _ v n y x _ _ _ (mi_bi (pu_S x 1 (B_X11_number 0 11) (pu_rm C a 0 (-1))) (some)) _
  refine (pu_pN h1 h2 (hi := 11) (g := 5) (s := 1) ha hb (by decide) (by decide) (by decide)).sq (fun B' a k w hk => pu_71f (by decide) hk) pu_noF.id (fun B1 C1 a1 u1 w1 f1 g1 q1 => ?_)
  have X1_1 := (h1.st fun q j i r => f1 q j i (by omega))
  have X2_1 := (h2.st fun q j i r => g1 q j i (by omega))
  obtain ⟨z1, rfl, rfl, p1, r1⟩ := q1
  rw [show (0 + 1 : Int) = 1 from rfl]
  rw [pu_71e (by decide) (by rw [l0]; decide)]
  refine pu_ptE u1 w1 (fun Z hy hx hz hc => ?_)
  have b1 := b0.a 1 (by decide) (by decide)
  have b2 := b0.a 2 (by decide) (by decide)
  have b3 := b0.b
  have b4 := b0.a 4 (by decide) (by decide)
  have b5 := b0.a 5 (by decide) (by decide)
  simp [pu_dd, hz, hC, pu_st, hy, hx, b1, b2, b3, b4, b5]
  all_goals omega
set_option maxHeartbeats 1000000 in
theorem pu_op1 {Z : MiZ} {v n c y x : Int} {T : Int → Int} {B C : MiD} (h1 : pu_X1 Z v n T B) (h2 : pu_X2 n T C) {a : Int} (ha : 0 ≤ a) (hb : a ≤ n) (hy : 0 ≤ y) (b0 : pu_B0 B y) (hC : C 46 x 0 = 1) (k : Nat) :
    pu_pt (fun D => B_X5_readDeed_113 v c y D Z) v n y x B C (B_X5_readDeed_71 (k + 6) v c 1 y 0 (pu_rd B v a 0 (-1)) Z) ((some) (pu_rm C a 0 (-1))) (pu_dv 1 y x) := by
  obtain ⟨l0, s0_0, l1, l2, l3, s3_0, l4, s4_0, l5, l6, l7, s7_0, s7_1, l8, s8_0, l9, l10, s10_0, s10_1, s10_2, l11, s11_0, s11_1, s11_2, s11_3, l12, s12_0, s12_1, l13, s13_0, s13_1, l14, s14_0, s14_1, s14_2, s14_3, l15, s15_0, s15_1, l16, s16_0, s16_1, s16_2, l17, s17_0, s17_1, l18, s18_0, s18_1⟩ := pu_opF
  rw [pu_71e (by decide) (by rw [l1]; decide)]
  refine pu_ptE ha hb (fun Z hy hx hz hc => ?_)
  have b1 := b0.a 1 (by decide) (by decide)
  have b2 := b0.a 2 (by decide) (by decide)
  have b3 := b0.b
  have b4 := b0.a 4 (by decide) (by decide)
  have b5 := b0.a 5 (by decide) (by decide)
  simp [pu_dd, hz, hC, pu_st, hy, hx, b1, b2, b3, b4, b5]
  all_goals omega
set_option maxHeartbeats 1000000 in
theorem pu_op2 {Z : MiZ} {v n c y x : Int} {T : Int → Int} {B C : MiD} (h1 : pu_X1 Z v n T B) (h2 : pu_X2 n T C) {a : Int} (ha : 0 ≤ a) (hb : a ≤ n) (hy : 0 ≤ y) (b0 : pu_B0 B y) (hC : C 46 x 0 = 2) (k : Nat) :
    pu_pt (fun D => B_X5_readDeed_113 v c y D Z) v n y x B C (B_X5_readDeed_71 (k + 6) v c 2 y 0 (pu_rd B v a 0 (-1)) Z) ((some) (pu_rm C a 0 (-1))) (pu_dv 2 y x) := by
  obtain ⟨l0, s0_0, l1, l2, l3, s3_0, l4, s4_0, l5, l6, l7, s7_0, s7_1, l8, s8_0, l9, l10, s10_0, s10_1, s10_2, l11, s11_0, s11_1, s11_2, s11_3, l12, s12_0, s12_1, l13, s13_0, s13_1, l14, s14_0, s14_1, s14_2, s14_3, l15, s15_0, s15_1, l16, s16_0, s16_1, s16_2, l17, s17_0, s17_1, l18, s18_0, s18_1⟩ := pu_opF
  rw [pu_71e (by decide) (by rw [l2]; decide)]
  refine pu_ptE ha hb (fun Z hy hx hz hc => ?_)
  have b1 := b0.a 1 (by decide) (by decide)
  have b2 := b0.a 2 (by decide) (by decide)
  have b3 := b0.b
  have b4 := b0.a 4 (by decide) (by decide)
  have b5 := b0.a 5 (by decide) (by decide)
  simp [pu_dd, hz, hC, pu_st, hy, hx, b1, b2, b3, b4, b5]
  all_goals omega
set_option maxHeartbeats 1000000 in
theorem pu_op3 {Z : MiZ} {v n c y x : Int} {T : Int → Int} {B C : MiD} (h1 : pu_X1 Z v n T B) (h2 : pu_X2 n T C) {a : Int} (ha : 0 ≤ a) (hb : a ≤ n) (hy : 0 ≤ y) (b0 : pu_B0 B y) (hC : C 46 x 0 = 3) (k : Nat) :
    pu_pt (fun D => B_X5_readDeed_113 v c y D Z) v n y x B C (B_X5_readDeed_71 (k + 6) v c 3 y 0 (pu_rd B v a 0 (-1)) Z) ((fun D => mi_bi (pu_S x 1 (B_X11_number 0 99) D) (some)) (pu_rm C a 0 (-1))) (pu_dv 3 y x) := by
  obtain ⟨l0, s0_0, l1, l2, l3, s3_0, l4, s4_0, l5, l6, l7, s7_0, s7_1, l8, s8_0, l9, l10, s10_0, s10_1, s10_2, l11, s11_0, s11_1, s11_2, s11_3, l12, s12_0, s12_1, l13, s13_0, s13_1, l14, s14_0, s14_1, s14_2, s14_3, l15, s15_0, s15_1, l16, s16_0, s16_1, s16_2, l17, s17_0, s17_1, l18, s18_0, s18_1⟩ := pu_opF
  rw [pu_71s (by decide) hy (by rw [l3]; decide) (by decide), s3_0, pu_rpN]
  show pu_pt _ v n y x _ _ _ (mi_bi (pu_S x 1 (B_X11_number 0 99) (pu_rm C a 0 (-1))) (some)) _
  refine (pu_pN h1 h2 (hi := 99) (g := 5) (s := 1) ha hb (by decide) (by decide) (by decide)).sq (fun B' a k w hk => pu_71f (by decide) hk) pu_noF.id (fun B1 C1 a1 u1 w1 f1 g1 q1 => ?_)
  have X1_1 := (h1.st fun q j i r => f1 q j i (by omega))
  have X2_1 := (h2.st fun q j i r => g1 q j i (by omega))
  obtain ⟨z1, rfl, rfl, p1, r1⟩ := q1
  rw [show (0 + 1 : Int) = 1 from rfl]
  rw [pu_71e (by decide) (by rw [l3]; decide)]
  refine pu_ptE u1 w1 (fun Z hy hx hz hc => ?_)
  have b1 := b0.a 1 (by decide) (by decide)
  have b2 := b0.a 2 (by decide) (by decide)
  have b3 := b0.b
  have b4 := b0.a 4 (by decide) (by decide)
  have b5 := b0.a 5 (by decide) (by decide)
  simp [pu_dd, hz, hC, pu_st, hy, hx, b1, b2, b3, b4, b5]
  all_goals omega
set_option maxHeartbeats 1000000 in
theorem pu_op4 {Z : MiZ} {v n c y x : Int} {T : Int → Int} {B C : MiD} (h1 : pu_X1 Z v n T B) (h2 : pu_X2 n T C) {a : Int} (ha : 0 ≤ a) (hb : a ≤ n) (hy : 0 ≤ y) (b0 : pu_B0 B y) (hC : C 46 x 0 = 4) (k : Nat) :
    pu_pt (fun D => B_X5_readDeed_113 v c y D Z) v n y x B C (B_X5_readDeed_71 (k + 6) v c 4 y 0 (pu_rd B v a 0 (-1)) Z) ((fun D => mi_bi (pu_S x 1 (B_X11_number 0 99) D) (some)) (pu_rm C a 0 (-1))) (pu_dv 4 y x) := by
  obtain ⟨l0, s0_0, l1, l2, l3, s3_0, l4, s4_0, l5, l6, l7, s7_0, s7_1, l8, s8_0, l9, l10, s10_0, s10_1, s10_2, l11, s11_0, s11_1, s11_2, s11_3, l12, s12_0, s12_1, l13, s13_0, s13_1, l14, s14_0, s14_1, s14_2, s14_3, l15, s15_0, s15_1, l16, s16_0, s16_1, s16_2, l17, s17_0, s17_1, l18, s18_0, s18_1⟩ := pu_opF
  rw [pu_71s (by decide) hy (by rw [l4]; decide) (by decide), s4_0, pu_rpN]
  show pu_pt _ v n y x _ _ _ (mi_bi (pu_S x 1 (B_X11_number 0 99) (pu_rm C a 0 (-1))) (some)) _
  refine (pu_pN h1 h2 (hi := 99) (g := 5) (s := 1) ha hb (by decide) (by decide) (by decide)).sq (fun B' a k w hk => pu_71f (by decide) hk) pu_noF.id (fun B1 C1 a1 u1 w1 f1 g1 q1 => ?_)
  have X1_1 := (h1.st fun q j i r => f1 q j i (by omega))
  have X2_1 := (h2.st fun q j i r => g1 q j i (by omega))
  obtain ⟨z1, rfl, rfl, p1, r1⟩ := q1
  rw [show (0 + 1 : Int) = 1 from rfl]
  rw [pu_71e (by decide) (by rw [l4]; decide)]
  refine pu_ptE u1 w1 (fun Z hy hx hz hc => ?_)
  have b1 := b0.a 1 (by decide) (by decide)
  have b2 := b0.a 2 (by decide) (by decide)
  have b3 := b0.b
  have b4 := b0.a 4 (by decide) (by decide)
  have b5 := b0.a 5 (by decide) (by decide)
  simp [pu_dd, hz, hC, pu_st, hy, hx, b1, b2, b3, b4, b5]
  all_goals omega
set_option maxHeartbeats 1000000 in
theorem pu_op5 {Z : MiZ} {v n c y x : Int} {T : Int → Int} {B C : MiD} (h1 : pu_X1 Z v n T B) (h2 : pu_X2 n T C) {a : Int} (ha : 0 ≤ a) (hb : a ≤ n) (hy : 0 ≤ y) (b0 : pu_B0 B y) (hC : C 46 x 0 = 5) (k : Nat) :
    pu_pt (fun D => B_X5_readDeed_113 v c y D Z) v n y x B C (B_X5_readDeed_71 (k + 6) v c 5 y 0 (pu_rd B v a 0 (-1)) Z) ((some) (pu_rm C a 0 (-1))) (pu_dv 5 y x) := by
  obtain ⟨l0, s0_0, l1, l2, l3, s3_0, l4, s4_0, l5, l6, l7, s7_0, s7_1, l8, s8_0, l9, l10, s10_0, s10_1, s10_2, l11, s11_0, s11_1, s11_2, s11_3, l12, s12_0, s12_1, l13, s13_0, s13_1, l14, s14_0, s14_1, s14_2, s14_3, l15, s15_0, s15_1, l16, s16_0, s16_1, s16_2, l17, s17_0, s17_1, l18, s18_0, s18_1⟩ := pu_opF
  rw [pu_71e (by decide) (by rw [l5]; decide)]
  refine pu_ptE ha hb (fun Z hy hx hz hc => ?_)
  have b1 := b0.a 1 (by decide) (by decide)
  have b2 := b0.a 2 (by decide) (by decide)
  have b3 := b0.b
  have b4 := b0.a 4 (by decide) (by decide)
  have b5 := b0.a 5 (by decide) (by decide)
  simp [pu_dd, hz, hC, pu_st, hy, hx, b1, b2, b3, b4, b5]
  all_goals omega
set_option maxHeartbeats 1000000 in
theorem pu_op6 {Z : MiZ} {v n c y x : Int} {T : Int → Int} {B C : MiD} (h1 : pu_X1 Z v n T B) (h2 : pu_X2 n T C) {a : Int} (ha : 0 ≤ a) (hb : a ≤ n) (hy : 0 ≤ y) (b0 : pu_B0 B y) (hC : C 46 x 0 = 6) (k : Nat) :
    pu_pt (fun D => B_X5_readDeed_113 v c y D Z) v n y x B C (B_X5_readDeed_71 (k + 6) v c 6 y 0 (pu_rd B v a 0 (-1)) Z) ((some) (pu_rm C a 0 (-1))) (pu_dv 6 y x) := by
  obtain ⟨l0, s0_0, l1, l2, l3, s3_0, l4, s4_0, l5, l6, l7, s7_0, s7_1, l8, s8_0, l9, l10, s10_0, s10_1, s10_2, l11, s11_0, s11_1, s11_2, s11_3, l12, s12_0, s12_1, l13, s13_0, s13_1, l14, s14_0, s14_1, s14_2, s14_3, l15, s15_0, s15_1, l16, s16_0, s16_1, s16_2, l17, s17_0, s17_1, l18, s18_0, s18_1⟩ := pu_opF
  rw [pu_71e (by decide) (by rw [l6]; decide)]
  refine pu_ptE ha hb (fun Z hy hx hz hc => ?_)
  have b1 := b0.a 1 (by decide) (by decide)
  have b2 := b0.a 2 (by decide) (by decide)
  have b3 := b0.b
  have b4 := b0.a 4 (by decide) (by decide)
  have b5 := b0.a 5 (by decide) (by decide)
  simp [pu_dd, hz, hC, pu_st, hy, hx, b1, b2, b3, b4, b5]
  all_goals omega
set_option maxHeartbeats 1000000 in
theorem pu_op7 {Z : MiZ} {v n c y x : Int} {T : Int → Int} {B C : MiD} (h1 : pu_X1 Z v n T B) (h2 : pu_X2 n T C) {a : Int} (ha : 0 ≤ a) (hb : a ≤ n) (hy : 0 ≤ y) (b0 : pu_B0 B y) (hC : C 46 x 0 = 7) (k : Nat) :
    pu_pt (fun D => B_X5_readDeed_113 v c y D Z) v n y x B C (B_X5_readDeed_71 (k + 6) v c 7 y 0 (pu_rd B v a 0 (-1)) Z) ((fun D => mi_bi (pu_S x 1 (B_X11_kindHere 8) D) (fun D => mi_bi (pu_S x 2 B_X11_signed D) (some))) (pu_rm C a 0 (-1))) (pu_dv 7 y x) := by
  obtain ⟨l0, s0_0, l1, l2, l3, s3_0, l4, s4_0, l5, l6, l7, s7_0, s7_1, l8, s8_0, l9, l10, s10_0, s10_1, s10_2, l11, s11_0, s11_1, s11_2, s11_3, l12, s12_0, s12_1, l13, s13_0, s13_1, l14, s14_0, s14_1, s14_2, s14_3, l15, s15_0, s15_1, l16, s16_0, s16_1, s16_2, l17, s17_0, s17_1, l18, s18_0, s18_1⟩ := pu_opF
  rw [pu_71s (by decide) hy (by rw [l7]; decide) (by decide), s7_0, pu_rpK]
  show pu_pt _ v n y x _ _ _ (mi_bi (pu_S x 1 (B_X11_kindHere 8) (pu_rm C a 0 (-1))) (fun D => mi_bi (pu_S x 2 B_X11_signed D) (some))) _
  refine (pu_pK h1 h2 (so := 8) (g := 1) (s := 1) ha hb (by decide) (by decide) (by decide)).sq (fun B' a k w hk => pu_71f (by decide) hk) (pu_noF.sq (pu_noV (by decide)) pu_noF.id) (fun B1 C1 a1 u1 w1 f1 g1 q1 => ?_)
  have X1_1 := (h1.st fun q j i r => f1 q j i (by omega))
  have X2_1 := (h2.st fun q j i r => g1 q j i (by omega))
  obtain ⟨z1, rfl, rfl, p1, r1⟩ := q1
  rw [show (0 + 1 : Int) = 1 from rfl]
  rw [pu_71s (by decide) hy (by rw [l7]; decide) (by decide), s7_1]
  show pu_pt _ v n y x _ _ _ (mi_bi (pu_S x 2 B_X11_signed (pu_rm (mi_st C 46 x 1 z1) a1 0 (-1))) (some)) _
  refine (pu_pV X1_1 X2_1 (s := 2) u1 w1 (by decide) hy).sq (fun B' a k w hk => pu_71f (by decide) hk) pu_noF.id (fun B2 C2 a2 u2 w2 f2 g2 q2 => ?_)
  have X1_2 := (X1_1.st fun q j i r => f2 q j i (by omega))
  have X2_2 := (X2_1.st fun q j i r => g2 q j i (by omega))
  obtain ⟨z2, rfl, rfl⟩ := q2
  rw [show (1 + 1 : Int) = 2 from rfl]
  rw [pu_71e (by decide) (by rw [l7]; decide)]
  refine pu_ptE u2 w2 (fun Z hy hx hz hc => ?_)
  have b1 := b0.a 1 (by decide) (by decide)
  have b2 := b0.a 2 (by decide) (by decide)
  have b3 := b0.b
  have b4 := b0.a 4 (by decide) (by decide)
  have b5 := b0.a 5 (by decide) (by decide)
  simp [pu_dd, hz, hC, pu_st, hy, hx, b1, b2, b3, b4, b5]
  all_goals omega
set_option maxHeartbeats 1000000 in
theorem pu_op8 {Z : MiZ} {v n c y x : Int} {T : Int → Int} {B C : MiD} (h1 : pu_X1 Z v n T B) (h2 : pu_X2 n T C) {a : Int} (ha : 0 ≤ a) (hb : a ≤ n) (hy : 0 ≤ y) (b0 : pu_B0 B y) (hC : C 46 x 0 = 8) (k : Nat) :
    pu_pt (fun D => B_X5_readDeed_113 v c y D Z) v n y x B C (B_X5_readDeed_71 (k + 6) v c 8 y 0 (pu_rd B v a 0 (-1)) Z) ((fun D => mi_bi (B_X11_readsText x D) (some)) (pu_rm C a 0 (-1))) (pu_dv 8 y x) := by
  obtain ⟨l0, s0_0, l1, l2, l3, s3_0, l4, s4_0, l5, l6, l7, s7_0, s7_1, l8, s8_0, l9, l10, s10_0, s10_1, s10_2, l11, s11_0, s11_1, s11_2, s11_3, l12, s12_0, s12_1, l13, s13_0, s13_1, l14, s14_0, s14_1, s14_2, s14_3, l15, s15_0, s15_1, l16, s16_0, s16_1, s16_2, l17, s17_0, s17_1, l18, s18_0, s18_1⟩ := pu_opF
  rw [pu_71s (by decide) hy (by rw [l8]; decide) (by decide), s8_0, pu_rpT]
  show pu_pt _ v n y x _ _ _ (mi_bi (B_X11_readsText x (pu_rm C a 0 (-1))) (some)) _
  refine (pu_pT h1 h2 ha hb).sq (fun B' a k w hk => pu_71f (by decide) hk) pu_noF.id (fun B1 C1 a1 u1 w1 f1 g1 q1 => ?_)
  have X1_1 := (h1.st fun q j i r => f1 q j i (by omega))
  have X2_1 := (h2.st fun q j i r => g1 q j i (by omega))
  obtain ⟨z1, rfl, rfl, p1, r1⟩ := q1
  rw [show (0 + 1 : Int) = 1 from rfl]
  rw [pu_71e (by decide) (by rw [l8]; decide)]
  refine pu_ptE u1 w1 (fun Z hy hx hz hc => ?_)
  have b1 := b0.a 1 (by decide) (by decide)
  have b2 := b0.a 2 (by decide) (by decide)
  have b3 := b0.b
  have b4 := b0.a 4 (by decide) (by decide)
  have b5 := b0.a 5 (by decide) (by decide)
  simp [pu_dd, hz, hC, pu_st, hy, hx, b1, b2, b3, b4, b5]
  all_goals omega
set_option maxHeartbeats 1000000 in
theorem pu_op9 {Z : MiZ} {v n c y x : Int} {T : Int → Int} {B C : MiD} (h1 : pu_X1 Z v n T B) (h2 : pu_X2 n T C) {a : Int} (ha : 0 ≤ a) (hb : a ≤ n) (hy : 0 ≤ y) (b0 : pu_B0 B y) (hC : C 46 x 0 = 9) (k : Nat) :
    pu_pt (fun D => B_X5_readDeed_113 v c y D Z) v n y x B C (B_X5_readDeed_71 (k + 6) v c 9 y 0 (pu_rd B v a 0 (-1)) Z) ((some) (pu_rm C a 0 (-1))) (pu_dv 9 y x) := by
  obtain ⟨l0, s0_0, l1, l2, l3, s3_0, l4, s4_0, l5, l6, l7, s7_0, s7_1, l8, s8_0, l9, l10, s10_0, s10_1, s10_2, l11, s11_0, s11_1, s11_2, s11_3, l12, s12_0, s12_1, l13, s13_0, s13_1, l14, s14_0, s14_1, s14_2, s14_3, l15, s15_0, s15_1, l16, s16_0, s16_1, s16_2, l17, s17_0, s17_1, l18, s18_0, s18_1⟩ := pu_opF
  rw [pu_71e (by decide) (by rw [l9]; decide)]
  refine pu_ptE ha hb (fun Z hy hx hz hc => ?_)
  have b1 := b0.a 1 (by decide) (by decide)
  have b2 := b0.a 2 (by decide) (by decide)
  have b3 := b0.b
  have b4 := b0.a 4 (by decide) (by decide)
  have b5 := b0.a 5 (by decide) (by decide)
  simp [pu_dd, hz, hC, pu_st, hy, hx, b1, b2, b3, b4, b5]
  all_goals omega
set_option maxHeartbeats 1000000 in
theorem pu_op10 {Z : MiZ} {v n c y x : Int} {T : Int → Int} {B C : MiD} (h1 : pu_X1 Z v n T B) (h2 : pu_X2 n T C) {a : Int} (ha : 0 ≤ a) (hb : a ≤ n) (hy : 0 ≤ y) (b0 : pu_B0 B y) (hC : C 46 x 0 = 10) (k : Nat) :
    pu_pt (fun D => B_X5_readDeed_113 v c y D Z) v n y x B C (B_X5_readDeed_71 (k + 6) v c 10 y 0 (pu_rd B v a 0 (-1)) Z) ((fun D => mi_bi (pu_S x 1 (B_X11_kindHere 8) D) (fun D => mi_bi (pu_S x 2 B_X11_rowHere D) (fun D => mi_bi (pu_S x 3 (B_X11_number 0 9) D) (fun D => if D 46 x 0 ≠ 11 then some D else (fun D => mi_bi (pu_S x 4 B_X11_signed D) (some)) D)))) (pu_rm C a 0 (-1))) (pu_dv 10 y x) := by
  obtain ⟨l0, s0_0, l1, l2, l3, s3_0, l4, s4_0, l5, l6, l7, s7_0, s7_1, l8, s8_0, l9, l10, s10_0, s10_1, s10_2, l11, s11_0, s11_1, s11_2, s11_3, l12, s12_0, s12_1, l13, s13_0, s13_1, l14, s14_0, s14_1, s14_2, s14_3, l15, s15_0, s15_1, l16, s16_0, s16_1, s16_2, l17, s17_0, s17_1, l18, s18_0, s18_1⟩ := pu_opF
  rw [pu_71s (by decide) hy (by rw [l10]; decide) (by decide), s10_0, pu_rpK]
  show pu_pt _ v n y x _ _ _ (mi_bi (pu_S x 1 (B_X11_kindHere 8) (pu_rm C a 0 (-1))) (fun D => mi_bi (pu_S x 2 B_X11_rowHere D) (fun D => mi_bi (pu_S x 3 (B_X11_number 0 9) D) (fun D => if D 46 x 0 ≠ 11 then some D else (fun D => mi_bi (pu_S x 4 B_X11_signed D) (some)) D)))) _
  refine (pu_pK h1 h2 (so := 8) (g := 1) (s := 1) ha hb (by decide) (by decide) (by decide)).sq (fun B' a k w hk => pu_71f (by decide) hk) (pu_noF.sq pu_noX (pu_noF.sq (pu_noN (by decide)) (pu_noF.ite pu_noF.id (pu_noF.sq (pu_noV (by decide)) pu_noF.id)))) (fun B1 C1 a1 u1 w1 f1 g1 q1 => ?_)
  have X1_1 := (h1.st fun q j i r => f1 q j i (by omega))
  have X2_1 := (h2.st fun q j i r => g1 q j i (by omega))
  obtain ⟨z1, rfl, rfl, p1, r1⟩ := q1
  rw [show (0 + 1 : Int) = 1 from rfl]
  rw [pu_71s (by decide) hy (by rw [l10]; decide) (by decide), s10_1, pu_rpX]
  show pu_pt _ v n y x _ _ _ (mi_bi (pu_S x 2 B_X11_rowHere (pu_rm (mi_st C 46 x 1 z1) a1 0 (-1))) (fun D => mi_bi (pu_S x 3 (B_X11_number 0 9) D) (fun D => if D 46 x 0 ≠ 11 then some D else (fun D => mi_bi (pu_S x 4 B_X11_signed D) (some)) D))) _
  refine (pu_pX X1_1 X2_1 u1 w1 (by simp [pu_st, b0.b])).sq (fun B' a k w hk => pu_71f (by decide) hk) (pu_noF.sq (pu_noN (by decide)) (pu_noF.ite pu_noF.id (pu_noF.sq (pu_noV (by decide)) pu_noF.id))) (fun B2 C2 a2 u2 w2 f2 g2 q2 => ?_)
  have X1_2 := (X1_1.st fun q j i r => f2 q j i (by omega))
  have X2_2 := (X2_1.st fun q j i r => g2 q j i (by omega))
  obtain ⟨d, m, e2, e3, e4, rfl, e5, e6⟩ := q2
  have e41 := e4 1 (by decide) (by decide)
  have e44 := e4 4 (by decide) (by decide)
  have e45 := e4 5 (by decide) (by decide)
  rw [show (1 + 1 : Int) = 2 from rfl]
  rw [pu_71s (by decide) hy (by rw [l10]; decide) (by decide), s10_2, pu_rpP]
  show pu_pt _ v n y x _ _ _ (mi_bi (pu_S x 3 (B_X11_number 0 9) (pu_rm (mi_st (mi_st C 46 x 1 z1) 46 x 2 (pu_r d m)) a2 0 (-1))) (fun D => if D 46 x 0 ≠ 11 then some D else (fun D => mi_bi (pu_S x 4 B_X11_signed D) (some)) D)) _
  refine (pu_pN X1_2 X2_2 (hi := 9) (g := 4) (s := 3) u2 w2 (by decide) (by decide) (by decide)).sq (fun B' a k w hk => pu_71f (by decide) hk) (pu_noF.ite pu_noF.id (pu_noF.sq (pu_noV (by decide)) pu_noF.id)) (fun B3 C3 a3 u3 w3 f3 g3 q3 => ?_)
  have X1_3 := (X1_2.st fun q j i r => f3 q j i (by omega))
  have X2_3 := (X2_2.st fun q j i r => g3 q j i (by omega))
  obtain ⟨z3, rfl, rfl, p3, r3⟩ := q3
  have g0_11 : pu_rm (mi_st (mi_st (mi_st C 46 x 1 z1) 46 x 2 (pu_r d m)) 46 x 3 z3) a3 0 (-1) 46 x 0 = 10 := by rw [pu_rmo (by omega)]; simp only [pu_st]; simp [hC]
  show pu_pt _ v n y x _ _ _ (if pu_rm (mi_st (mi_st (mi_st C 46 x 1 z1) 46 x 2 (pu_r d m)) 46 x 3 z3) a3 0 (-1) 46 x 0 ≠ 11 then _ else _) _
  rw [if_pos (by rw [g0_11]; decide)]
  rw [show (2 + 1 : Int) = 3 from rfl]
  rw [pu_71e (by decide) (by rw [l10]; decide)]
  refine pu_ptE u3 w3 (fun Z hy hx hz hc => ?_)
  have b1 := b0.a 1 (by decide) (by decide)
  have b2 := b0.a 2 (by decide) (by decide)
  have b3 := b0.b
  have b4 := b0.a 4 (by decide) (by decide)
  have b5 := b0.a 5 (by decide) (by decide)
  simp [pu_dd, hz, hC, pu_st, hy, hx, b1, b2, b3, b4, b5, e2, e3, e41, e44, e45]
  all_goals omega
set_option maxHeartbeats 1000000 in
theorem pu_op11 {Z : MiZ} {v n c y x : Int} {T : Int → Int} {B C : MiD} (h1 : pu_X1 Z v n T B) (h2 : pu_X2 n T C) {a : Int} (ha : 0 ≤ a) (hb : a ≤ n) (hy : 0 ≤ y) (b0 : pu_B0 B y) (hC : C 46 x 0 = 11) (k : Nat) :
    pu_pt (fun D => B_X5_readDeed_113 v c y D Z) v n y x B C (B_X5_readDeed_71 (k + 6) v c 11 y 0 (pu_rd B v a 0 (-1)) Z) ((fun D => mi_bi (pu_S x 1 (B_X11_kindHere 8) D) (fun D => mi_bi (pu_S x 2 B_X11_rowHere D) (fun D => mi_bi (pu_S x 3 (B_X11_number 0 9) D) (fun D => if D 46 x 0 ≠ 11 then some D else (fun D => mi_bi (pu_S x 4 B_X11_signed D) (some)) D)))) (pu_rm C a 0 (-1))) (pu_dv 11 y x) := by
  obtain ⟨l0, s0_0, l1, l2, l3, s3_0, l4, s4_0, l5, l6, l7, s7_0, s7_1, l8, s8_0, l9, l10, s10_0, s10_1, s10_2, l11, s11_0, s11_1, s11_2, s11_3, l12, s12_0, s12_1, l13, s13_0, s13_1, l14, s14_0, s14_1, s14_2, s14_3, l15, s15_0, s15_1, l16, s16_0, s16_1, s16_2, l17, s17_0, s17_1, l18, s18_0, s18_1⟩ := pu_opF
  rw [pu_71s (by decide) hy (by rw [l11]; decide) (by decide), s11_0, pu_rpK]
  show pu_pt _ v n y x _ _ _ (mi_bi (pu_S x 1 (B_X11_kindHere 8) (pu_rm C a 0 (-1))) (fun D => mi_bi (pu_S x 2 B_X11_rowHere D) (fun D => mi_bi (pu_S x 3 (B_X11_number 0 9) D) (fun D => if D 46 x 0 ≠ 11 then some D else (fun D => mi_bi (pu_S x 4 B_X11_signed D) (some)) D)))) _
  refine (pu_pK h1 h2 (so := 8) (g := 1) (s := 1) ha hb (by decide) (by decide) (by decide)).sq (fun B' a k w hk => pu_71f (by decide) hk) (pu_noF.sq pu_noX (pu_noF.sq (pu_noN (by decide)) (pu_noF.ite pu_noF.id (pu_noF.sq (pu_noV (by decide)) pu_noF.id)))) (fun B1 C1 a1 u1 w1 f1 g1 q1 => ?_)
  have X1_1 := (h1.st fun q j i r => f1 q j i (by omega))
  have X2_1 := (h2.st fun q j i r => g1 q j i (by omega))
  obtain ⟨z1, rfl, rfl, p1, r1⟩ := q1
  rw [show (0 + 1 : Int) = 1 from rfl]
  rw [pu_71s (by decide) hy (by rw [l11]; decide) (by decide), s11_1, pu_rpX]
  show pu_pt _ v n y x _ _ _ (mi_bi (pu_S x 2 B_X11_rowHere (pu_rm (mi_st C 46 x 1 z1) a1 0 (-1))) (fun D => mi_bi (pu_S x 3 (B_X11_number 0 9) D) (fun D => if D 46 x 0 ≠ 11 then some D else (fun D => mi_bi (pu_S x 4 B_X11_signed D) (some)) D))) _
  refine (pu_pX X1_1 X2_1 u1 w1 (by simp [pu_st, b0.b])).sq (fun B' a k w hk => pu_71f (by decide) hk) (pu_noF.sq (pu_noN (by decide)) (pu_noF.ite pu_noF.id (pu_noF.sq (pu_noV (by decide)) pu_noF.id))) (fun B2 C2 a2 u2 w2 f2 g2 q2 => ?_)
  have X1_2 := (X1_1.st fun q j i r => f2 q j i (by omega))
  have X2_2 := (X2_1.st fun q j i r => g2 q j i (by omega))
  obtain ⟨d, m, e2, e3, e4, rfl, e5, e6⟩ := q2
  have e41 := e4 1 (by decide) (by decide)
  have e44 := e4 4 (by decide) (by decide)
  have e45 := e4 5 (by decide) (by decide)
  rw [show (1 + 1 : Int) = 2 from rfl]
  rw [pu_71s (by decide) hy (by rw [l11]; decide) (by decide), s11_2, pu_rpP]
  show pu_pt _ v n y x _ _ _ (mi_bi (pu_S x 3 (B_X11_number 0 9) (pu_rm (mi_st (mi_st C 46 x 1 z1) 46 x 2 (pu_r d m)) a2 0 (-1))) (fun D => if D 46 x 0 ≠ 11 then some D else (fun D => mi_bi (pu_S x 4 B_X11_signed D) (some)) D)) _
  refine (pu_pN X1_2 X2_2 (hi := 9) (g := 4) (s := 3) u2 w2 (by decide) (by decide) (by decide)).sq (fun B' a k w hk => pu_71f (by decide) hk) (pu_noF.ite pu_noF.id (pu_noF.sq (pu_noV (by decide)) pu_noF.id)) (fun B3 C3 a3 u3 w3 f3 g3 q3 => ?_)
  have X1_3 := (X1_2.st fun q j i r => f3 q j i (by omega))
  have X2_3 := (X2_2.st fun q j i r => g3 q j i (by omega))
  obtain ⟨z3, rfl, rfl, p3, r3⟩ := q3
  have g0_11 : pu_rm (mi_st (mi_st (mi_st C 46 x 1 z1) 46 x 2 (pu_r d m)) 46 x 3 z3) a3 0 (-1) 46 x 0 = 11 := by rw [pu_rmo (by omega)]; simp only [pu_st]; simp [hC]
  show pu_pt _ v n y x _ _ _ (if pu_rm (mi_st (mi_st (mi_st C 46 x 1 z1) 46 x 2 (pu_r d m)) 46 x 3 z3) a3 0 (-1) 46 x 0 ≠ 11 then _ else _) _
  rw [if_neg (by rw [g0_11]; decide)]
  rw [show (2 + 1 : Int) = 3 from rfl]
  rw [pu_71s (by decide) hy (by rw [l11]; decide) (by decide), s11_3]
  show pu_pt _ v n y x _ _ _ (mi_bi (pu_S x 4 B_X11_signed (pu_rm (mi_st (mi_st (mi_st C 46 x 1 z1) 46 x 2 (pu_r d m)) 46 x 3 z3) a3 0 (-1))) (some)) _
  refine (pu_pV X1_3 X2_3 (s := 4) u3 w3 (by decide) hy).sq (fun B' a k w hk => pu_71f (by decide) hk) pu_noF.id (fun B4 C4 a4 u4 w4 f4 g4 q4 => ?_)
  have X1_4 := (X1_3.st fun q j i r => f4 q j i (by omega))
  have X2_4 := (X2_3.st fun q j i r => g4 q j i (by omega))
  obtain ⟨z4, rfl, rfl⟩ := q4
  rw [show (3 + 1 : Int) = 4 from rfl]
  rw [pu_71e (by decide) (by rw [l11]; decide)]
  refine pu_ptE u4 w4 (fun Z hy hx hz hc => ?_)
  have b1 := b0.a 1 (by decide) (by decide)
  have b2 := b0.a 2 (by decide) (by decide)
  have b3 := b0.b
  have b4 := b0.a 4 (by decide) (by decide)
  have b5 := b0.a 5 (by decide) (by decide)
  simp [pu_dd, hz, hC, pu_st, hy, hx, b1, b2, b3, b4, b5, e2, e3, e41, e44, e45]
  all_goals omega
set_option maxHeartbeats 1000000 in
theorem pu_op12 {Z : MiZ} {v n c y x : Int} {T : Int → Int} {B C : MiD} (h1 : pu_X1 Z v n T B) (h2 : pu_X2 n T C) {a : Int} (ha : 0 ≤ a) (hb : a ≤ n) (hy : 0 ≤ y) (b0 : pu_B0 B y) (hC : C 46 x 0 = 12) (k : Nat) :
    pu_pt (fun D => B_X5_readDeed_113 v c y D Z) v n y x B C (B_X5_readDeed_71 (k + 6) v c 12 y 0 (pu_rd B v a 0 (-1)) Z) ((fun D => mi_bi (pu_S x 2 B_X11_rowHere D) (fun D => mi_bi (pu_S x 3 (B_X11_number 0 9) D) (some))) (pu_rm C a 0 (-1))) (pu_dv 12 y x) := by
  obtain ⟨l0, s0_0, l1, l2, l3, s3_0, l4, s4_0, l5, l6, l7, s7_0, s7_1, l8, s8_0, l9, l10, s10_0, s10_1, s10_2, l11, s11_0, s11_1, s11_2, s11_3, l12, s12_0, s12_1, l13, s13_0, s13_1, l14, s14_0, s14_1, s14_2, s14_3, l15, s15_0, s15_1, l16, s16_0, s16_1, s16_2, l17, s17_0, s17_1, l18, s18_0, s18_1⟩ := pu_opF
  rw [pu_71s (by decide) hy (by rw [l12]; decide) (by decide), s12_0, pu_rpX]
  show pu_pt _ v n y x _ _ _ (mi_bi (pu_S x 2 B_X11_rowHere (pu_rm C a 0 (-1))) (fun D => mi_bi (pu_S x 3 (B_X11_number 0 9) D) (some))) _
  refine (pu_pX h1 h2 ha hb (by simp [pu_st, b0.b])).sq (fun B' a k w hk => pu_71f (by decide) hk) (pu_noF.sq (pu_noN (by decide)) pu_noF.id) (fun B1 C1 a1 u1 w1 f1 g1 q1 => ?_)
  have X1_1 := (h1.st fun q j i r => f1 q j i (by omega))
  have X2_1 := (h2.st fun q j i r => g1 q j i (by omega))
  obtain ⟨d, m, e2, e3, e4, rfl, e5, e6⟩ := q1
  have e41 := e4 1 (by decide) (by decide)
  have e44 := e4 4 (by decide) (by decide)
  have e45 := e4 5 (by decide) (by decide)
  rw [show (0 + 1 : Int) = 1 from rfl]
  rw [pu_71s (by decide) hy (by rw [l12]; decide) (by decide), s12_1, pu_rpP]
  show pu_pt _ v n y x _ _ _ (mi_bi (pu_S x 3 (B_X11_number 0 9) (pu_rm (mi_st C 46 x 2 (pu_r d m)) a1 0 (-1))) (some)) _
  refine (pu_pN X1_1 X2_1 (hi := 9) (g := 4) (s := 3) u1 w1 (by decide) (by decide) (by decide)).sq (fun B' a k w hk => pu_71f (by decide) hk) pu_noF.id (fun B2 C2 a2 u2 w2 f2 g2 q2 => ?_)
  have X1_2 := (X1_1.st fun q j i r => f2 q j i (by omega))
  have X2_2 := (X2_1.st fun q j i r => g2 q j i (by omega))
  obtain ⟨z2, rfl, rfl, p2, r2⟩ := q2
  rw [show (1 + 1 : Int) = 2 from rfl]
  rw [pu_71e (by decide) (by rw [l12]; decide)]
  refine pu_ptE u2 w2 (fun Z hy hx hz hc => ?_)
  have b1 := b0.a 1 (by decide) (by decide)
  have b2 := b0.a 2 (by decide) (by decide)
  have b3 := b0.b
  have b4 := b0.a 4 (by decide) (by decide)
  have b5 := b0.a 5 (by decide) (by decide)
  simp [pu_dd, hz, hC, pu_st, hy, hx, b1, b2, b3, b4, b5, e2, e3, e41, e44, e45]
  all_goals omega
set_option maxHeartbeats 1000000 in
theorem pu_op13 {Z : MiZ} {v n c y x : Int} {T : Int → Int} {B C : MiD} (h1 : pu_X1 Z v n T B) (h2 : pu_X2 n T C) {a : Int} (ha : 0 ≤ a) (hb : a ≤ n) (hy : 0 ≤ y) (b0 : pu_B0 B y) (hC : C 46 x 0 = 13) (k : Nat) :
    pu_pt (fun D => B_X5_readDeed_113 v c y D Z) v n y x B C (B_X5_readDeed_71 (k + 6) v c 13 y 0 (pu_rd B v a 0 (-1)) Z) ((fun D => mi_bi (pu_S x 2 B_X11_rowHere D) (fun D => mi_bi (pu_S x 3 (B_X11_number 0 9) D) (some))) (pu_rm C a 0 (-1))) (pu_dv 13 y x) := by
  obtain ⟨l0, s0_0, l1, l2, l3, s3_0, l4, s4_0, l5, l6, l7, s7_0, s7_1, l8, s8_0, l9, l10, s10_0, s10_1, s10_2, l11, s11_0, s11_1, s11_2, s11_3, l12, s12_0, s12_1, l13, s13_0, s13_1, l14, s14_0, s14_1, s14_2, s14_3, l15, s15_0, s15_1, l16, s16_0, s16_1, s16_2, l17, s17_0, s17_1, l18, s18_0, s18_1⟩ := pu_opF
  rw [pu_71s (by decide) hy (by rw [l13]; decide) (by decide), s13_0, pu_rpX]
  show pu_pt _ v n y x _ _ _ (mi_bi (pu_S x 2 B_X11_rowHere (pu_rm C a 0 (-1))) (fun D => mi_bi (pu_S x 3 (B_X11_number 0 9) D) (some))) _
  refine (pu_pX h1 h2 ha hb (by simp [pu_st, b0.b])).sq (fun B' a k w hk => pu_71f (by decide) hk) (pu_noF.sq (pu_noN (by decide)) pu_noF.id) (fun B1 C1 a1 u1 w1 f1 g1 q1 => ?_)
  have X1_1 := (h1.st fun q j i r => f1 q j i (by omega))
  have X2_1 := (h2.st fun q j i r => g1 q j i (by omega))
  obtain ⟨d, m, e2, e3, e4, rfl, e5, e6⟩ := q1
  have e41 := e4 1 (by decide) (by decide)
  have e44 := e4 4 (by decide) (by decide)
  have e45 := e4 5 (by decide) (by decide)
  rw [show (0 + 1 : Int) = 1 from rfl]
  rw [pu_71s (by decide) hy (by rw [l13]; decide) (by decide), s13_1, pu_rpP]
  show pu_pt _ v n y x _ _ _ (mi_bi (pu_S x 3 (B_X11_number 0 9) (pu_rm (mi_st C 46 x 2 (pu_r d m)) a1 0 (-1))) (some)) _
  refine (pu_pN X1_1 X2_1 (hi := 9) (g := 4) (s := 3) u1 w1 (by decide) (by decide) (by decide)).sq (fun B' a k w hk => pu_71f (by decide) hk) pu_noF.id (fun B2 C2 a2 u2 w2 f2 g2 q2 => ?_)
  have X1_2 := (X1_1.st fun q j i r => f2 q j i (by omega))
  have X2_2 := (X2_1.st fun q j i r => g2 q j i (by omega))
  obtain ⟨z2, rfl, rfl, p2, r2⟩ := q2
  rw [show (1 + 1 : Int) = 2 from rfl]
  rw [pu_71e (by decide) (by rw [l13]; decide)]
  refine pu_ptE u2 w2 (fun Z hy hx hz hc => ?_)
  have b1 := b0.a 1 (by decide) (by decide)
  have b2 := b0.a 2 (by decide) (by decide)
  have b3 := b0.b
  have b4 := b0.a 4 (by decide) (by decide)
  have b5 := b0.a 5 (by decide) (by decide)
  simp [pu_dd, hz, hC, pu_st, hy, hx, b1, b2, b3, b4, b5, e2, e3, e41, e44, e45]
  all_goals omega
set_option maxHeartbeats 1000000 in
theorem pu_op14 {Z : MiZ} {v n c y x : Int} {T : Int → Int} {B C : MiD} (h1 : pu_X1 Z v n T B) (h2 : pu_X2 n T C) {a : Int} (ha : 0 ≤ a) (hb : a ≤ n) (hy : 0 ≤ y) (b0 : pu_B0 B y) (hC : C 46 x 0 = 14) (k : Nat) :
    pu_pt (fun D => B_X5_readDeed_113 v c y D Z) v n y x B C (B_X5_readDeed_71 (k + 6) v c 14 y 0 (pu_rd B v a 0 (-1)) Z) ((fun D => mi_bi (pu_S x 2 (B_X11_number 0 9) D) (fun D => mi_bi (pu_S x 3 (B_X11_number 0 4) D) (fun D => if D 46 x 0 ≠ 15 then (fun D => mi_bi (pu_S x 1 (B_X11_kindHere 11) D) (fun D => mi_bi (pu_S x 4 (B_X11_number 0 9) D) (some))) D else some D))) (pu_rm C a 0 (-1))) (pu_dv 14 y x) := by
  obtain ⟨l0, s0_0, l1, l2, l3, s3_0, l4, s4_0, l5, l6, l7, s7_0, s7_1, l8, s8_0, l9, l10, s10_0, s10_1, s10_2, l11, s11_0, s11_1, s11_2, s11_3, l12, s12_0, s12_1, l13, s13_0, s13_1, l14, s14_0, s14_1, s14_2, s14_3, l15, s15_0, s15_1, l16, s16_0, s16_1, s16_2, l17, s17_0, s17_1, l18, s18_0, s18_1⟩ := pu_opF
  rw [pu_71s (by decide) hy (by rw [l14]; decide) (by decide), s14_0, pu_rpD]
  show pu_pt _ v n y x _ _ _ (mi_bi (pu_S x 2 (B_X11_number 0 9) (pu_rm C a 0 (-1))) (fun D => mi_bi (pu_S x 3 (B_X11_number 0 4) D) (fun D => if D 46 x 0 ≠ 15 then (fun D => mi_bi (pu_S x 1 (B_X11_kindHere 11) D) (fun D => mi_bi (pu_S x 4 (B_X11_number 0 9) D) (some))) D else some D))) _
  refine (pu_pN h1 h2 (hi := 9) (g := 2) (s := 2) ha hb (by decide) (by decide) (by decide)).sq (fun B' a k w hk => pu_71f (by decide) hk) (pu_noF.sq (pu_noN (by decide)) (pu_noF.ite (pu_noF.sq (pu_noK (by decide)) (pu_noF.sq (pu_noN (by decide)) pu_noF.id)) pu_noF.id)) (fun B1 C1 a1 u1 w1 f1 g1 q1 => ?_)
  have X1_1 := (h1.st fun q j i r => f1 q j i (by omega))
  have X2_1 := (h2.st fun q j i r => g1 q j i (by omega))
  obtain ⟨z1, rfl, rfl, p1, r1⟩ := q1
  rw [show (0 + 1 : Int) = 1 from rfl]
  rw [pu_71s (by decide) hy (by rw [l14]; decide) (by decide), s14_1, pu_rpM]
  show pu_pt _ v n y x _ _ _ (mi_bi (pu_S x 3 (B_X11_number 0 4) (pu_rm (mi_st C 46 x 2 z1) a1 0 (-1))) (fun D => if D 46 x 0 ≠ 15 then (fun D => mi_bi (pu_S x 1 (B_X11_kindHere 11) D) (fun D => mi_bi (pu_S x 4 (B_X11_number 0 9) D) (some))) D else some D)) _
  refine (pu_pN X1_1 X2_1 (hi := 4) (g := 3) (s := 3) u1 w1 (by decide) (by decide) (by decide)).sq (fun B' a k w hk => pu_71f (by decide) hk) (pu_noF.ite (pu_noF.sq (pu_noK (by decide)) (pu_noF.sq (pu_noN (by decide)) pu_noF.id)) pu_noF.id) (fun B2 C2 a2 u2 w2 f2 g2 q2 => ?_)
  have X1_2 := (X1_1.st fun q j i r => f2 q j i (by omega))
  have X2_2 := (X2_1.st fun q j i r => g2 q j i (by omega))
  obtain ⟨z2, rfl, rfl, p2, r2⟩ := q2
  have g0_15 : pu_rm (mi_st (mi_st C 46 x 2 z1) 46 x 3 z2) a2 0 (-1) 46 x 0 = 14 := by rw [pu_rmo (by omega)]; simp only [pu_st]; simp [hC]
  show pu_pt _ v n y x _ _ _ (if pu_rm (mi_st (mi_st C 46 x 2 z1) 46 x 3 z2) a2 0 (-1) 46 x 0 ≠ 15 then _ else _) _
  rw [if_pos (by rw [g0_15]; decide)]
  rw [show (1 + 1 : Int) = 2 from rfl]
  rw [pu_71s (by decide) hy (by rw [l14]; decide) (by decide), s14_2, pu_rpG]
  show pu_pt _ v n y x _ _ _ (mi_bi (pu_S x 1 (B_X11_kindHere 11) (pu_rm (mi_st (mi_st C 46 x 2 z1) 46 x 3 z2) a2 0 (-1))) (fun D => mi_bi (pu_S x 4 (B_X11_number 0 9) D) (some))) _
  refine (pu_pK X1_2 X2_2 (so := 11) (g := 1) (s := 1) u2 w2 (by decide) (by decide) (by decide)).sq (fun B' a k w hk => pu_71f (by decide) hk) (pu_noF.sq (pu_noN (by decide)) pu_noF.id) (fun B3 C3 a3 u3 w3 f3 g3 q3 => ?_)
  have X1_3 := (X1_2.st fun q j i r => f3 q j i (by omega))
  have X2_3 := (X2_2.st fun q j i r => g3 q j i (by omega))
  obtain ⟨z3, rfl, rfl, p3, r3⟩ := q3
  rw [show (2 + 1 : Int) = 3 from rfl]
  rw [pu_71s (by decide) hy (by rw [l14]; decide) (by decide), s14_3, pu_rpP]
  show pu_pt _ v n y x _ _ _ (mi_bi (pu_S x 4 (B_X11_number 0 9) (pu_rm (mi_st (mi_st (mi_st C 46 x 2 z1) 46 x 3 z2) 46 x 1 z3) a3 0 (-1))) (some)) _
  refine (pu_pN X1_3 X2_3 (hi := 9) (g := 4) (s := 4) u3 w3 (by decide) (by decide) (by decide)).sq (fun B' a k w hk => pu_71f (by decide) hk) pu_noF.id (fun B4 C4 a4 u4 w4 f4 g4 q4 => ?_)
  have X1_4 := (X1_3.st fun q j i r => f4 q j i (by omega))
  have X2_4 := (X2_3.st fun q j i r => g4 q j i (by omega))
  obtain ⟨z4, rfl, rfl, p4, r4⟩ := q4
  rw [show (3 + 1 : Int) = 4 from rfl]
  rw [pu_71e (by decide) (by rw [l14]; decide)]
  refine pu_ptE u4 w4 (fun Z hy hx hz hc => ?_)
  have b1 := b0.a 1 (by decide) (by decide)
  have b2 := b0.a 2 (by decide) (by decide)
  have b3 := b0.b
  have b4 := b0.a 4 (by decide) (by decide)
  have b5 := b0.a 5 (by decide) (by decide)
  simp [pu_dd, hz, hC, pu_st, hy, hx, b1, b2, b3, b4, b5]
  all_goals omega
set_option maxHeartbeats 1000000 in
theorem pu_op15 {Z : MiZ} {v n c y x : Int} {T : Int → Int} {B C : MiD} (h1 : pu_X1 Z v n T B) (h2 : pu_X2 n T C) {a : Int} (ha : 0 ≤ a) (hb : a ≤ n) (hy : 0 ≤ y) (b0 : pu_B0 B y) (hC : C 46 x 0 = 15) (k : Nat) :
    pu_pt (fun D => B_X5_readDeed_113 v c y D Z) v n y x B C (B_X5_readDeed_71 (k + 6) v c 15 y 0 (pu_rd B v a 0 (-1)) Z) ((fun D => mi_bi (pu_S x 2 (B_X11_number 0 9) D) (fun D => mi_bi (pu_S x 3 (B_X11_number 0 4) D) (fun D => if D 46 x 0 ≠ 15 then (fun D => mi_bi (pu_S x 1 (B_X11_kindHere 11) D) (fun D => mi_bi (pu_S x 4 (B_X11_number 0 9) D) (some))) D else some D))) (pu_rm C a 0 (-1))) (pu_dv 15 y x) := by
  obtain ⟨l0, s0_0, l1, l2, l3, s3_0, l4, s4_0, l5, l6, l7, s7_0, s7_1, l8, s8_0, l9, l10, s10_0, s10_1, s10_2, l11, s11_0, s11_1, s11_2, s11_3, l12, s12_0, s12_1, l13, s13_0, s13_1, l14, s14_0, s14_1, s14_2, s14_3, l15, s15_0, s15_1, l16, s16_0, s16_1, s16_2, l17, s17_0, s17_1, l18, s18_0, s18_1⟩ := pu_opF
  rw [pu_71s (by decide) hy (by rw [l15]; decide) (by decide), s15_0, pu_rpD]
  show pu_pt _ v n y x _ _ _ (mi_bi (pu_S x 2 (B_X11_number 0 9) (pu_rm C a 0 (-1))) (fun D => mi_bi (pu_S x 3 (B_X11_number 0 4) D) (fun D => if D 46 x 0 ≠ 15 then (fun D => mi_bi (pu_S x 1 (B_X11_kindHere 11) D) (fun D => mi_bi (pu_S x 4 (B_X11_number 0 9) D) (some))) D else some D))) _
  refine (pu_pN h1 h2 (hi := 9) (g := 2) (s := 2) ha hb (by decide) (by decide) (by decide)).sq (fun B' a k w hk => pu_71f (by decide) hk) (pu_noF.sq (pu_noN (by decide)) (pu_noF.ite (pu_noF.sq (pu_noK (by decide)) (pu_noF.sq (pu_noN (by decide)) pu_noF.id)) pu_noF.id)) (fun B1 C1 a1 u1 w1 f1 g1 q1 => ?_)
  have X1_1 := (h1.st fun q j i r => f1 q j i (by omega))
  have X2_1 := (h2.st fun q j i r => g1 q j i (by omega))
  obtain ⟨z1, rfl, rfl, p1, r1⟩ := q1
  rw [show (0 + 1 : Int) = 1 from rfl]
  rw [pu_71s (by decide) hy (by rw [l15]; decide) (by decide), s15_1, pu_rpM]
  show pu_pt _ v n y x _ _ _ (mi_bi (pu_S x 3 (B_X11_number 0 4) (pu_rm (mi_st C 46 x 2 z1) a1 0 (-1))) (fun D => if D 46 x 0 ≠ 15 then (fun D => mi_bi (pu_S x 1 (B_X11_kindHere 11) D) (fun D => mi_bi (pu_S x 4 (B_X11_number 0 9) D) (some))) D else some D)) _
  refine (pu_pN X1_1 X2_1 (hi := 4) (g := 3) (s := 3) u1 w1 (by decide) (by decide) (by decide)).sq (fun B' a k w hk => pu_71f (by decide) hk) (pu_noF.ite (pu_noF.sq (pu_noK (by decide)) (pu_noF.sq (pu_noN (by decide)) pu_noF.id)) pu_noF.id) (fun B2 C2 a2 u2 w2 f2 g2 q2 => ?_)
  have X1_2 := (X1_1.st fun q j i r => f2 q j i (by omega))
  have X2_2 := (X2_1.st fun q j i r => g2 q j i (by omega))
  obtain ⟨z2, rfl, rfl, p2, r2⟩ := q2
  have g0_15 : pu_rm (mi_st (mi_st C 46 x 2 z1) 46 x 3 z2) a2 0 (-1) 46 x 0 = 15 := by rw [pu_rmo (by omega)]; simp only [pu_st]; simp [hC]
  show pu_pt _ v n y x _ _ _ (if pu_rm (mi_st (mi_st C 46 x 2 z1) 46 x 3 z2) a2 0 (-1) 46 x 0 ≠ 15 then _ else _) _
  rw [if_neg (by rw [g0_15]; decide)]
  rw [show (1 + 1 : Int) = 2 from rfl]
  rw [pu_71e (by decide) (by rw [l15]; decide)]
  refine pu_ptE u2 w2 (fun Z hy hx hz hc => ?_)
  have b1 := b0.a 1 (by decide) (by decide)
  have b2 := b0.a 2 (by decide) (by decide)
  have b3 := b0.b
  have b4 := b0.a 4 (by decide) (by decide)
  have b5 := b0.a 5 (by decide) (by decide)
  simp [pu_dd, hz, hC, pu_st, hy, hx, b1, b2, b3, b4, b5]
  all_goals omega
set_option maxHeartbeats 1000000 in
theorem pu_op16 {Z : MiZ} {v n c y x : Int} {T : Int → Int} {B C : MiD} (h1 : pu_X1 Z v n T B) (h2 : pu_X2 n T C) {a : Int} (ha : 0 ≤ a) (hb : a ≤ n) (hy : 0 ≤ y) (b0 : pu_B0 B y) (hC : C 46 x 0 = 16) (k : Nat) :
    pu_pt (fun D => B_X5_readDeed_113 v c y D Z) v n y x B C (B_X5_readDeed_71 (k + 6) v c 16 y 0 (pu_rd B v a 0 (-1)) Z) ((fun D => mi_bi (pu_S x 2 (B_X11_number 0 9) D) (fun D => mi_bi (pu_S x 1 (B_X11_kindHere 11) D) (fun D => mi_bi (pu_S x 4 (B_X11_number 0 9) D) (some)))) (pu_rm C a 0 (-1))) (pu_dv 16 y x) := by
  obtain ⟨l0, s0_0, l1, l2, l3, s3_0, l4, s4_0, l5, l6, l7, s7_0, s7_1, l8, s8_0, l9, l10, s10_0, s10_1, s10_2, l11, s11_0, s11_1, s11_2, s11_3, l12, s12_0, s12_1, l13, s13_0, s13_1, l14, s14_0, s14_1, s14_2, s14_3, l15, s15_0, s15_1, l16, s16_0, s16_1, s16_2, l17, s17_0, s17_1, l18, s18_0, s18_1⟩ := pu_opF
  rw [pu_71s (by decide) hy (by rw [l16]; decide) (by decide), s16_0, pu_rpD]
  show pu_pt _ v n y x _ _ _ (mi_bi (pu_S x 2 (B_X11_number 0 9) (pu_rm C a 0 (-1))) (fun D => mi_bi (pu_S x 1 (B_X11_kindHere 11) D) (fun D => mi_bi (pu_S x 4 (B_X11_number 0 9) D) (some)))) _
  refine (pu_pN h1 h2 (hi := 9) (g := 2) (s := 2) ha hb (by decide) (by decide) (by decide)).sq (fun B' a k w hk => pu_71f (by decide) hk) (pu_noF.sq (pu_noK (by decide)) (pu_noF.sq (pu_noN (by decide)) pu_noF.id)) (fun B1 C1 a1 u1 w1 f1 g1 q1 => ?_)
  have X1_1 := (h1.st fun q j i r => f1 q j i (by omega))
  have X2_1 := (h2.st fun q j i r => g1 q j i (by omega))
  obtain ⟨z1, rfl, rfl, p1, r1⟩ := q1
  rw [show (0 + 1 : Int) = 1 from rfl]
  rw [pu_71s (by decide) hy (by rw [l16]; decide) (by decide), s16_1, pu_rpG]
  show pu_pt _ v n y x _ _ _ (mi_bi (pu_S x 1 (B_X11_kindHere 11) (pu_rm (mi_st C 46 x 2 z1) a1 0 (-1))) (fun D => mi_bi (pu_S x 4 (B_X11_number 0 9) D) (some))) _
  refine (pu_pK X1_1 X2_1 (so := 11) (g := 1) (s := 1) u1 w1 (by decide) (by decide) (by decide)).sq (fun B' a k w hk => pu_71f (by decide) hk) (pu_noF.sq (pu_noN (by decide)) pu_noF.id) (fun B2 C2 a2 u2 w2 f2 g2 q2 => ?_)
  have X1_2 := (X1_1.st fun q j i r => f2 q j i (by omega))
  have X2_2 := (X2_1.st fun q j i r => g2 q j i (by omega))
  obtain ⟨z2, rfl, rfl, p2, r2⟩ := q2
  rw [show (1 + 1 : Int) = 2 from rfl]
  rw [pu_71s (by decide) hy (by rw [l16]; decide) (by decide), s16_2, pu_rpP]
  show pu_pt _ v n y x _ _ _ (mi_bi (pu_S x 4 (B_X11_number 0 9) (pu_rm (mi_st (mi_st C 46 x 2 z1) 46 x 1 z2) a2 0 (-1))) (some)) _
  refine (pu_pN X1_2 X2_2 (hi := 9) (g := 4) (s := 4) u2 w2 (by decide) (by decide) (by decide)).sq (fun B' a k w hk => pu_71f (by decide) hk) pu_noF.id (fun B3 C3 a3 u3 w3 f3 g3 q3 => ?_)
  have X1_3 := (X1_2.st fun q j i r => f3 q j i (by omega))
  have X2_3 := (X2_2.st fun q j i r => g3 q j i (by omega))
  obtain ⟨z3, rfl, rfl, p3, r3⟩ := q3
  rw [show (2 + 1 : Int) = 3 from rfl]
  rw [pu_71e (by decide) (by rw [l16]; decide)]
  refine pu_ptE u3 w3 (fun Z hy hx hz hc => ?_)
  have b1 := b0.a 1 (by decide) (by decide)
  have b2 := b0.a 2 (by decide) (by decide)
  have b3 := b0.b
  have b4 := b0.a 4 (by decide) (by decide)
  have b5 := b0.a 5 (by decide) (by decide)
  simp [pu_dd, hz, hC, pu_st, hy, hx, b1, b2, b3, b4, b5]
  all_goals omega
set_option maxHeartbeats 1000000 in
theorem pu_op17 {Z : MiZ} {v n c y x : Int} {T : Int → Int} {B C : MiD} (h1 : pu_X1 Z v n T B) (h2 : pu_X2 n T C) {a : Int} (ha : 0 ≤ a) (hb : a ≤ n) (hy : 0 ≤ y) (b0 : pu_B0 B y) (hC : C 46 x 0 = 17) (k : Nat) :
    pu_pt (fun D => B_X5_readDeed_113 v c y D Z) v n y x B C (B_X5_readDeed_71 (k + 6) v c 17 y 0 (pu_rd B v a 0 (-1)) Z) ((fun D => mi_bi (pu_S x 2 (B_X11_number 0 9) D) (fun D => mi_bi (pu_S x 3 (B_X11_number 0 4) D) (some))) (pu_rm C a 0 (-1))) (pu_dv 17 y x) := by
  obtain ⟨l0, s0_0, l1, l2, l3, s3_0, l4, s4_0, l5, l6, l7, s7_0, s7_1, l8, s8_0, l9, l10, s10_0, s10_1, s10_2, l11, s11_0, s11_1, s11_2, s11_3, l12, s12_0, s12_1, l13, s13_0, s13_1, l14, s14_0, s14_1, s14_2, s14_3, l15, s15_0, s15_1, l16, s16_0, s16_1, s16_2, l17, s17_0, s17_1, l18, s18_0, s18_1⟩ := pu_opF
  rw [pu_71s (by decide) hy (by rw [l17]; decide) (by decide), s17_0, pu_rpD]
  show pu_pt _ v n y x _ _ _ (mi_bi (pu_S x 2 (B_X11_number 0 9) (pu_rm C a 0 (-1))) (fun D => mi_bi (pu_S x 3 (B_X11_number 0 4) D) (some))) _
  refine (pu_pN h1 h2 (hi := 9) (g := 2) (s := 2) ha hb (by decide) (by decide) (by decide)).sq (fun B' a k w hk => pu_71f (by decide) hk) (pu_noF.sq (pu_noN (by decide)) pu_noF.id) (fun B1 C1 a1 u1 w1 f1 g1 q1 => ?_)
  have X1_1 := (h1.st fun q j i r => f1 q j i (by omega))
  have X2_1 := (h2.st fun q j i r => g1 q j i (by omega))
  obtain ⟨z1, rfl, rfl, p1, r1⟩ := q1
  rw [show (0 + 1 : Int) = 1 from rfl]
  rw [pu_71s (by decide) hy (by rw [l17]; decide) (by decide), s17_1, pu_rpM]
  show pu_pt _ v n y x _ _ _ (mi_bi (pu_S x 3 (B_X11_number 0 4) (pu_rm (mi_st C 46 x 2 z1) a1 0 (-1))) (some)) _
  refine (pu_pN X1_1 X2_1 (hi := 4) (g := 3) (s := 3) u1 w1 (by decide) (by decide) (by decide)).sq (fun B' a k w hk => pu_71f (by decide) hk) pu_noF.id (fun B2 C2 a2 u2 w2 f2 g2 q2 => ?_)
  have X1_2 := (X1_1.st fun q j i r => f2 q j i (by omega))
  have X2_2 := (X2_1.st fun q j i r => g2 q j i (by omega))
  obtain ⟨z2, rfl, rfl, p2, r2⟩ := q2
  rw [show (1 + 1 : Int) = 2 from rfl]
  rw [pu_71e (by decide) (by rw [l17]; decide)]
  refine pu_ptE u2 w2 (fun Z hy hx hz hc => ?_)
  have b1 := b0.a 1 (by decide) (by decide)
  have b2 := b0.a 2 (by decide) (by decide)
  have b3 := b0.b
  have b4 := b0.a 4 (by decide) (by decide)
  have b5 := b0.a 5 (by decide) (by decide)
  simp [pu_dd, hz, hC, pu_st, hy, hx, b1, b2, b3, b4, b5]
  all_goals omega
set_option maxHeartbeats 1000000 in
theorem pu_op18 {Z : MiZ} {v n c y x : Int} {T : Int → Int} {B C : MiD} (h1 : pu_X1 Z v n T B) (h2 : pu_X2 n T C) {a : Int} (ha : 0 ≤ a) (hb : a ≤ n) (hy : 0 ≤ y) (b0 : pu_B0 B y) (hC : C 46 x 0 = 18) (k : Nat) :
    pu_pt (fun D => B_X5_readDeed_113 v c y D Z) v n y x B C (B_X5_readDeed_71 (k + 6) v c 18 y 0 (pu_rd B v a 0 (-1)) Z) ((fun D => mi_bi (pu_S x 2 (B_X11_number 0 9) D) (fun D => mi_bi (pu_S x 3 (B_X11_number 0 4) D) (some))) (pu_rm C a 0 (-1))) (pu_dv 18 y x) := by
  obtain ⟨l0, s0_0, l1, l2, l3, s3_0, l4, s4_0, l5, l6, l7, s7_0, s7_1, l8, s8_0, l9, l10, s10_0, s10_1, s10_2, l11, s11_0, s11_1, s11_2, s11_3, l12, s12_0, s12_1, l13, s13_0, s13_1, l14, s14_0, s14_1, s14_2, s14_3, l15, s15_0, s15_1, l16, s16_0, s16_1, s16_2, l17, s17_0, s17_1, l18, s18_0, s18_1⟩ := pu_opF
  rw [pu_71s (by decide) hy (by rw [l18]; decide) (by decide), s18_0, pu_rpD]
  show pu_pt _ v n y x _ _ _ (mi_bi (pu_S x 2 (B_X11_number 0 9) (pu_rm C a 0 (-1))) (fun D => mi_bi (pu_S x 3 (B_X11_number 0 4) D) (some))) _
  refine (pu_pN h1 h2 (hi := 9) (g := 2) (s := 2) ha hb (by decide) (by decide) (by decide)).sq (fun B' a k w hk => pu_71f (by decide) hk) (pu_noF.sq (pu_noN (by decide)) pu_noF.id) (fun B1 C1 a1 u1 w1 f1 g1 q1 => ?_)
  have X1_1 := (h1.st fun q j i r => f1 q j i (by omega))
  have X2_1 := (h2.st fun q j i r => g1 q j i (by omega))
  obtain ⟨z1, rfl, rfl, p1, r1⟩ := q1
  rw [show (0 + 1 : Int) = 1 from rfl]
  rw [pu_71s (by decide) hy (by rw [l18]; decide) (by decide), s18_1, pu_rpM]
  show pu_pt _ v n y x _ _ _ (mi_bi (pu_S x 3 (B_X11_number 0 4) (pu_rm (mi_st C 46 x 2 z1) a1 0 (-1))) (some)) _
  refine (pu_pN X1_1 X2_1 (hi := 4) (g := 3) (s := 3) u1 w1 (by decide) (by decide) (by decide)).sq (fun B' a k w hk => pu_71f (by decide) hk) pu_noF.id (fun B2 C2 a2 u2 w2 f2 g2 q2 => ?_)
  have X1_2 := (X1_1.st fun q j i r => f2 q j i (by omega))
  have X2_2 := (X2_1.st fun q j i r => g2 q j i (by omega))
  obtain ⟨z2, rfl, rfl, p2, r2⟩ := q2
  rw [show (1 + 1 : Int) = 2 from rfl]
  rw [pu_71e (by decide) (by rw [l18]; decide)]
  refine pu_ptE u2 w2 (fun Z hy hx hz hc => ?_)
  have b1 := b0.a 1 (by decide) (by decide)
  have b2 := b0.a 2 (by decide) (by decide)
  have b3 := b0.b
  have b4 := b0.a 4 (by decide) (by decide)
  have b5 := b0.a 5 (by decide) (by decide)
  simp [pu_dd, hz, hC, pu_st, hy, hx, b1, b2, b3, b4, b5]
  all_goals omega
