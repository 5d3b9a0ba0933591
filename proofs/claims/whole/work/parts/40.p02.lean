def pu_x (w d m : Int) : Int := 60 * w + (6 * d + m + 1)
def pu_r (d m : Int) : Int := if m = -1 then d else 10 + 5 * d + m
def pu_DR (w : Int) (D1 D2 : MiD) : Prop := ∀ d m : Int, 0 ≤ d → d < 10 → -1 ≤ m → m < 5 → pu_R D1 (pu_x w d m) D2 (pu_r d m) ∧ pu_K D2 (pu_r d m)
def pu_D (w : Int) (D1 D2 : MiD) : Prop := pu_DR w D1 D2 ∧ ∀ d m : Int, 0 ≤ d → d < 10 → -1 ≤ m → m < 5 → D2 52 0 d = 12 → D2 52 0 (pu_r d m) = 12
theorem pu_rowAt {D : MiD} {w d m : Int} (hd : 0 ≤ d ∧ d < 10) (hm : -1 ≤ m ∧ m < 5) : B_X9_rowAt D w d m = some (pu_x w d m) := by
  unfold B_X9_rowAt pu_x
  rw [pu_w (x := d * 6) (by omega) (by omega), pu_w (x := d * 6 + m) (by omega) (by omega), pu_w (by omega) (by omega), if_pos (by omega)]
  congr 1
  omega
theorem pu_rowOf {d m : Int} (hd : 0 ≤ d ∧ d < 10) (hm : -1 ≤ m ∧ m < 5) : B_X11_rowOf d m = pu_r d m := by
  unfold B_X11_rowOf pu_r
  rw [pu_w (x := 5 * d) (by omega) (by omega), pu_w (x := 10 + 5 * d) (by omega) (by omega), pu_w (by omega) (by omega)]
  by_cases h : m = -1 <;> simp [h]
theorem pu_rB {d m : Int} (hd : 0 ≤ d ∧ d < 10) (hm : -1 ≤ m ∧ m < 5) : 0 ≤ pu_r d m ∧ pu_r d m < 60 := by unfold pu_r; split <;> omega
theorem pu_xB {w d m : Int} (hw : 0 ≤ w ∧ w < 2) (hd : 0 ≤ d ∧ d < 10) (hm : -1 ≤ m ∧ m < 5) : 0 ≤ pu_x w d m ∧ pu_x w d m < 120 := by unfold pu_x; omega
theorem pu_xBw {w d m : Int} (hd : 0 ≤ d ∧ d < 10) (hm : -1 ≤ m ∧ m < 5) : 60 * w ≤ pu_x w d m ∧ pu_x w d m < 60 * w + 60 := by unfold pu_x; omega
theorem pu_ri {d m d' m' : Int} (hd : 0 ≤ d ∧ d < 10) (hm : -1 ≤ m ∧ m < 5) (hd' : 0 ≤ d' ∧ d' < 10) (hm' : -1 ≤ m' ∧ m' < 5) (h : pu_r d m = pu_r d' m') : d = d' ∧ m = m' := by unfold pu_r at h; split at h <;> split at h <;> omega
theorem pu_xi {w d m d' m' : Int} (hd : 0 ≤ d ∧ d < 10) (hm : -1 ≤ m ∧ m < 5) (hd' : 0 ≤ d' ∧ d' < 10) (hm' : -1 ≤ m' ∧ m' < 5) (h : pu_x w d m = pu_x w d' m') : d = d' ∧ m = m' := by unfold pu_x at h; omega
theorem pu_r0 {d : Int} : pu_r d (-1) = d := by unfold pu_r; rw [if_pos rfl]
theorem pu_D.G {w : Int} {D1 D2 : MiD} (h : pu_D w D1 D2) {d m : Int} (hd : 0 ≤ d ∧ d < 10) (hm : -1 ≤ m ∧ m < 5) : pu_G D2 (pu_r d m) := by
  by_cases c : m = -1
  · subst c
    rw [pu_r0]
    exact pu_gone28 (by omega) (Or.inl hd.2)
  · have e : pu_r d m = 10 + 5 * d + m := by unfold pu_r; rw [if_neg c]
    have hk := h.2 d m hd.1 hd.2 hm.1 hm.2
    rw [e] at hk ⊢
    unfold pu_G B_X11_isGone B_X11_isGone_28 B_X11_isGone_39
    have e2 : mi_div (mi_w (10 + 5 * d + m - 10)) 5 = d := by
      unfold mi_div
      rw [pu_w (x := 10 + 5 * d + m - 10) (by omega) (by omega), show (10 + 5 * d + m - 10) = 5 * d + m by omega, Int.tdiv_eq_ediv_of_nonneg (by omega), pu_w (by omega) (by omega)]
      omega
    rw [e2, if_neg (by omega), if_neg (by omega), if_pos (by omega)]
    by_cases c1 : D2 52 0 d = 12
    · simp [c1, hk c1]
    · rw [if_neg c1, if_pos (by omega)]
      by_cases c2 : D2 52 0 (10 + 5 * d + m) = 12 <;> simp [c1, c2]
theorem pu_R.kept {D1 D1' D2 D2' : MiD} {x r y s : Int} (h : pu_R D1 x D2 r) (hx : x ≠ y) (hr : r ≠ s ∧ r ≠ 60) (f1 : pu_fc y D1 D1') (f2 : pu_fm s D2 D2') : pu_R D1' x D2' r := by
  refine ⟨?_, ?_, fun p a b => ⟨?_, ?_⟩⟩
  · rw [f1 _ _ _ (by omega), f2 _ _ _ (by omega) (by omega) (by omega)]; exact h.1
  · rw [f1 _ _ _ (by omega), f2 _ _ _ (by omega) (by omega) (by omega)]; exact h.2.1
  · rw [f1 _ _ _ (by omega), f2 _ _ _ (by omega) (by omega) (by omega)]; exact (h.2.2 p a b).1
  · rw [f1 _ _ _ (by omega), f2 _ _ _ (by omega) (by omega) (by omega)]; exact (h.2.2 p a b).2
theorem pu_K.kept {D2 D2' : MiD} {r s : Int} (h : pu_K D2 r) (hr : r ≠ s ∧ r ≠ 60) (f2 : pu_fm s D2 D2') : pu_K D2' r := by
  have e1 := f2 52 0 r (by omega) (by omega) (by omega)
  have e2 := f2 53 0 r (by omega) (by omega) (by omega)
  refine ⟨by rw [e1]; exact h.1, by rw [e1]; exact h.2.1, by rw [e2]; exact h.2.2.1, by rw [e2]; exact h.2.2.2.1, fun p a b => ?_⟩
  have e3 := f2 55 r p (by omega) (by omega) (by omega)
  have e4 := f2 57 r p (by omega) (by omega) (by omega)
  rw [e1, e3, e4]
  exact h.2.2.2.2 p a b
theorem pu_DR.upd {w : Int} {D1 D2 D1' D2' : MiD} (h : pu_DR w D1 D2) {d m : Int} (hd : 0 ≤ d ∧ d < 10) (hm : -1 ≤ m ∧ m < 5) (f1 : pu_fc (pu_x w d m) D1 D1') (f2 : pu_fm (pu_r d m) D2 D2') (hR : pu_R D1' (pu_x w d m) D2' (pu_r d m)) (hK : pu_K D2' (pu_r d m)) : pu_DR w D1' D2' := by
  intro e n a1 a2 a3 a4
  by_cases c : e = d ∧ n = m
  · obtain ⟨rfl, rfl⟩ := c; exact ⟨hR, hK⟩
  · have c1 : pu_x w e n ≠ pu_x w d m := fun z => c (pu_xi ⟨a1, a2⟩ ⟨a3, a4⟩ hd hm z)
    have c2 : pu_r e n ≠ pu_r d m := fun z => c (pu_ri ⟨a1, a2⟩ ⟨a3, a4⟩ hd hm z)
    have c3 := pu_rB (d := e) (m := n) ⟨a1, a2⟩ ⟨a3, a4⟩
    obtain ⟨g1, g2⟩ := h e n a1 a2 a3 a4
    exact ⟨g1.kept c1 ⟨c2, by omega⟩ f1 f2, g2.kept ⟨c2, by omega⟩ f2⟩
theorem pu_D.upd {w : Int} {D1 D2 D1' D2' : MiD} (h : pu_D w D1 D2) {d m : Int} (hd : 0 ≤ d ∧ d < 10) (hm : -1 ≤ m ∧ m < 5) (f1 : pu_fc (pu_x w d m) D1 D1') (f2 : pu_fm (pu_r d m) D2 D2') (hR : pu_R D1' (pu_x w d m) D2' (pu_r d m)) (hK : pu_K D2' (pu_r d m)) (hc : (m = -1 → D2' 52 0 d = 12 → D2 52 0 d = 12) ∧ (m ≠ -1 → D2 52 0 d = 12 → D2' 52 0 (pu_r d m) = 12)) : pu_D w D1' D2' := by
  refine ⟨h.1.upd hd hm f1 f2 hR hK, fun e n a1 a2 a3 a4 k => ?_⟩
  have q := fun e n (a1 : 0 ≤ e) (a2 : e < 10) (a3 : -1 ≤ n) (a4 : n < 5) (c : ¬ (e = d ∧ n = m)) => f2 52 0 (pu_r e n) (by
    have c2 : pu_r e n ≠ pu_r d m := fun z => c (pu_ri ⟨a1, a2⟩ ⟨a3, a4⟩ hd hm z)
    have c3 := pu_rB (d := e) (m := n) ⟨a1, a2⟩ ⟨a3, a4⟩
    omega) (by omega) (by omega)
  have k0 : D2 52 0 e = 12 := by
    by_cases c : e = d ∧ (-1 : Int) = m
    · obtain ⟨rfl, rfl⟩ := c; exact hc.1 rfl k
    · have := q e (-1) a1 a2 (by omega) (by omega) c
      rw [pu_r0] at this
      omega
  by_cases c : e = d ∧ n = m
  · obtain ⟨rfl, rfl⟩ := c
    by_cases c' : n = -1
    · subst c'; rw [pu_r0]; exact k
    · exact hc.2 c' k0
  · rw [q e n a1 a2 a3 a4 c]
    exact h.2 e n a1 a2 a3 a4 k0
theorem pu_lay_fc {D : MiD} {x k n : Int} : pu_fc x D (pu_lay D x k n) := fun q j i h => by unfold pu_lay; grind (splits := 20)
theorem pu_layM_fm {D : MiD} {r k n : Int} : pu_fm r D (pu_layM D r k n) := fun q j i h h' h'' => by unfold pu_layM; grind (splits := 20)
theorem pu_copy_fc {D : MiD} {x y : Int} : pu_fc y D (pu_copy D y x) := fun q j i h => by unfold pu_copy; grind (splits := 20)
theorem pu_copyM_fm {D : MiD} {x y : Int} : pu_fm y D (pu_copyM D x y) := fun q j i h h' h'' => by unfold pu_copyM; grind (splits := 20)
theorem pu_lay_R {D1 D2 : MiD} {x r k n : Int} : pu_R (pu_lay D1 x k n) x (pu_layM D2 r k n) r := by
  refine ⟨?_, ?_, fun p a b => ⟨?_, ?_⟩⟩ <;> unfold pu_lay pu_layM <;> grind (splits := 20)
theorem pu_layM_K {D2 : MiD} {r k n : Int} (hk : 0 ≤ k ∧ k ≤ 12) (hn : 0 ≤ n ∧ n ≤ 9) : pu_K (pu_layM D2 r k n) r := by
  refine ⟨?_, ?_, ?_, ?_, fun p a b => ⟨?_, ?_, ?_, ?_⟩⟩ <;> unfold pu_layM <;> grind (splits := 20)
theorem pu_layM_k {D2 : MiD} {r k n : Int} : pu_layM D2 r k n 52 0 r = k := by unfold pu_layM; grind
theorem pu_copy_R {D1 D2 : MiD} {x y r s : Int} (h : pu_R D1 x D2 r) : pu_R (pu_copy D1 y x) y (pu_copyM D2 r s) s := by
  obtain ⟨h1, h2, h3⟩ := h
  refine ⟨?_, ?_, fun p a b => ?_⟩
  · rw [pu_copyM_at.1, ← h1]; unfold pu_copy; grind
  · rw [pu_copyM_at.2, ← h2]; unfold pu_copy; grind
  · rw [(pu_copyM_c ⟨a, b⟩).1, (pu_copyM_c ⟨a, b⟩).2, ← (h3 p a b).1, ← (h3 p a b).2]; clear h3; constructor <;> unfold pu_copy <;> grind
theorem pu_copyM_K {D2 : MiD} {r s : Int} (h : pu_K D2 r) : pu_K (pu_copyM D2 r s) s := by
  obtain ⟨h1, h2, h3, h4, h5⟩ := h
  refine ⟨?_, ?_, ?_, ?_, fun p a b => ?_⟩
  · rw [pu_copyM_at.1]; exact h1
  · rw [pu_copyM_at.1]; exact h2
  · rw [pu_copyM_at.2]; exact h3
  · rw [pu_copyM_at.2]; exact h4
  · rw [pu_copyM_at.1, (pu_copyM_c ⟨a, b⟩).1, (pu_copyM_c ⟨a, b⟩).2]; exact h5 p a b
def pu_FC (w : Int) (D D' : MiD) : Prop := ∀ (q : Nat) (j i : Int), ¬ ((q = 3 ∨ q = 17 ∨ q = 18) ∧ 60 * w ≤ j ∧ j < 60 * w + 60) → D' q j i = D q j i
def pu_FM (D D' : MiD) : Prop := ∀ (q : Nat) (j i : Int), ¬ (q = 52 ∨ q = 53 ∨ q = 55 ∨ q = 57) → ¬ (q = 40 ∧ j = 0 ∧ (i = 25 ∨ i = 26)) → D' q j i = D q j i
theorem pu_fc.F {w d m : Int} {D D' : MiD} (hd : 0 ≤ d ∧ d < 10) (hm : -1 ≤ m ∧ m < 5) (h : pu_fc (pu_x w d m) D D') : pu_FC w D D' := fun q j i k => h q j i (by have := pu_xBw (w := w) hd hm; omega)
theorem pu_fm.F {r : Int} {D D' : MiD} (h : pu_fm r D D') : pu_FM D D' := fun q j i k k' => h q j i (by omega) (by omega) k'
theorem pu_FC.rf {w : Int} {D : MiD} : pu_FC w D D := fun _ _ _ _ => rfl
theorem pu_FM.rf {D : MiD} : pu_FM D D := fun _ _ _ _ _ => rfl
theorem pu_FC.tr {w : Int} {D E F : MiD} (h : pu_FC w D E) (k : pu_FC w E F) : pu_FC w D F := fun q j i z => (k q j i z).trans (h q j i z)
theorem pu_FM.tr {D E F : MiD} (h : pu_FM D E) (k : pu_FM E F) : pu_FM D F := fun q j i z z' => (k q j i z z').trans (h q j i z z')
def pu_daP (w : Int) (D1 D2 : MiD) (a b : Int × MiD) : Prop := a.1 = b.1 ∧ 0 ≤ a.1 ∧ a.1 ≤ 3 ∧ pu_D w a.2 b.2 ∧ pu_FC w D1 a.2 ∧ pu_FM D2 b.2
theorem pu_daP.same {w e : Int} {D1 D2 : MiD} (he : 0 ≤ e ∧ e ≤ 3) (h : pu_D w D1 D2) : pu_daP w D1 D2 (e, D1) (e, D2) := ⟨rfl, he.1, he.2, h, pu_FC.rf, pu_FM.rf⟩
theorem pu_rwP.da {w d m : Int} {D1 D2 : MiD} {a b : Int × MiD} (h : pu_D w D1 D2) (hd : 0 ≤ d ∧ d < 10) (hm : -1 ≤ m ∧ m < 5) (k : pu_rwP D1 (pu_x w d m) D2 (pu_r d m) a b) : pu_daP w D1 D2 a b := by
  obtain ⟨k1, k2, k3, k4, k5, k6, k7, k8⟩ := k
  refine ⟨k1, k2, k3, h.upd hd hm k6 k7 k4 k5 ⟨fun c z => ?_, fun c z => ?_⟩, k6.F hd hm, k7.F⟩
  · subst c
    rw [pu_r0] at k8
    exact k8.mp z
  · exact k8.mpr (h.2 d m hd.1 hd.2 hm.1 hm.2 z)
theorem pu_make {w d m k n : Int} {D1 D2 : MiD} (hw : 0 ≤ w ∧ w < 2) (hd : 0 ≤ d ∧ d < 10) (hm : 0 ≤ m ∧ m < 5) (hk : 0 ≤ k ∧ k ≤ 10) (hn : 0 ≤ n ∧ n ≤ 9) (h : pu_D w D1 D2) (he : D2 52 0 d ≠ 12) : pu_daP w D1 D2 (0, pu_lay D1 (pu_x w d m) k n) (0, pu_layM D2 (pu_r d m) k n) :=
  ⟨rfl, Int.le_refl 0, (by show (0 : Int) ≤ 3; decide), h.upd hd ⟨by omega, hm.2⟩ pu_lay_fc pu_layM_fm pu_lay_R (pu_layM_K (by omega) hn) ⟨fun z => by omega, fun _ z => absurd z he⟩, pu_fc.F hd ⟨by omega, hm.2⟩ pu_lay_fc, pu_layM_fm.F⟩
theorem pu_free {w d m : Int} {D1 D2 : MiD} (hw : 0 ≤ w ∧ w < 2) (hd : 0 ≤ d ∧ d < 10) (hm : 0 ≤ m ∧ m < 5) (h : pu_D w D1 D2) : pu_daP w D1 D2 (0, pu_lay D1 (pu_x w d m) 12 0) (0, pu_layM D2 (pu_r d m) 12 0) :=
  ⟨rfl, Int.le_refl 0, (by show (0 : Int) ≤ 3; decide), h.upd hd ⟨by omega, hm.2⟩ pu_lay_fc pu_layM_fm pu_lay_R (pu_layM_K (by omega) (by decide)) ⟨fun z => by omega, fun _ _ => pu_layM_k⟩, pu_fc.F hd ⟨by omega, hm.2⟩ pu_lay_fc, pu_layM_fm.F⟩
theorem pu_keepS {w d m : Int} {D1 D2 : MiD} (hw : 0 ≤ w ∧ w < 2) (hd : 0 ≤ d ∧ d < 10) (hm : 0 ≤ m ∧ m < 5) (h : pu_D w D1 D2) : pu_ok (B_X9_keepShadow w d m D1) fun a => pu_ok (B_X11_keeps d m D2) fun b => pu_daP w D1 D2 a b := by
  have hR := h.1 d (-1) hd.1 hd.2 (by decide) (by decide)
  rw [pu_r0] at hR
  have hm' : -1 ≤ m ∧ m < 5 := by omega
  unfold B_X9_keepShadow B_X11_keeps
  rw [pu_rowAt hd (by decide), pu_rowOf hd hm']
  have hx := pu_xB hw hd (m := -1) (by decide)
  have hx' := pu_xB hw hd hm'
  have hr' := pu_rB hd hm'
  simp only [mi_bi, hx, and_self, if_true, hR.1.1, show 0 ≤ d ∧ d < 61 by omega]
  by_cases c1 : D2 52 0 d = 12
  · simp only [c1, ne_eq, not_true_eq_false, if_false]
    exact ⟨_, rfl, _, rfl, pu_daP.same ⟨by decide, by decide⟩ h⟩
  by_cases c2 : D2 52 0 d = 11
  · simp only [c1, c2, ne_eq, not_true_eq_false, not_false_eq_true, if_false, if_true]
    exact ⟨_, rfl, _, rfl, pu_daP.same ⟨by decide, by decide⟩ h⟩
  simp only [c1, c2, ne_eq, not_true_eq_false, not_false_eq_true, if_false, if_true, pu_rowAt hd hm', pu_copy_e, hx', and_self]
  rw [pu_copyM_e (by omega) (by omega) (by omega) (by omega)]
  refine ⟨_, rfl, _, rfl, rfl, Int.le_refl 0, (by show (0 : Int) ≤ 3; decide), h.upd hd hm' pu_copy_fc pu_copyM_fm (pu_copy_R hR.1) (pu_copyM_K hR.2) ⟨fun z => by omega, fun _ z => absurd z c1⟩, pu_fc.F hd hm' pu_copy_fc, pu_copyM_fm.F⟩
theorem pu_lift {w d m : Int} {D1 D2 : MiD} (hw : 0 ≤ w ∧ w < 2) (hd : 0 ≤ d ∧ d < 10) (hm : 0 ≤ m ∧ m < 5) (h : pu_D w D1 D2) : pu_ok (B_X9_liftShadow w d m D1) fun a => pu_ok (B_X11_lifts d m D2) fun b => pu_daP w D1 D2 a b := by
  have hm' : -1 ≤ m ∧ m < 5 := by omega
  have hR := h.1 d m hd.1 hd.2 hm'.1 hm'.2
  have hG := h.G hd hm'
  unfold pu_G at hG
  unfold B_X9_liftShadow B_X11_lifts
  rw [pu_rowAt hd hm', pu_rowOf hd hm']
  simp only [mi_let]
  rw [hG]
  have hx := pu_xB hw hd (m := -1) (by decide)
  have hx' := pu_xB hw hd hm'
  have hr' := pu_rB hd hm'
  simp only [mi_bi, hx', and_self, if_true, hR.1.1]
  by_cases c1 : D2 52 0 (pu_r d m) = 12
  · simp only [c1, ne_eq, not_true_eq_false, if_false, if_true]
    exact ⟨_, rfl, _, rfl, pu_daP.same ⟨by decide, by decide⟩ h⟩
  simp only [c1, ne_eq, not_true_eq_false, not_false_eq_true, if_false, if_true, pu_rowAt hd (show (-1 : Int) ≤ -1 ∧ (-1 : Int) < 5 by decide), pu_copy_e, hx, and_self, mi_bi]
  rw [pu_copyM_e (by omega) (by omega) (by omega) (by omega)]
  simp only [mi_bi]
  rw [pu_lay_e hx'.1 hx'.2, pu_layM_e (by omega) (by omega)]
  have hd12 : D2 52 0 d ≠ 12 := fun z => c1 (h.2 d m hd.1 hd.2 hm'.1 hm'.2 z)
  have s1 : pu_D w (pu_copy D1 (pu_x w d (-1)) (pu_x w d m)) (pu_copyM D2 (pu_r d m) d) := h.upd (m := -1) hd (by decide) pu_copy_fc (by rw [pu_r0]; exact pu_copyM_fm) (by rw [pu_r0]; exact pu_copy_R hR.1) (by rw [pu_r0]; exact pu_copyM_K hR.2) ⟨fun _ z => by rw [pu_copyM_at.1] at z; exact absurd z c1, fun z => absurd rfl z⟩
  obtain ⟨t1, t2, t3, t4, t5, t6⟩ := pu_free hw hd hm s1
  exact ⟨_, rfl, _, rfl, rfl, t2, t3, t4, (pu_fc.F hd (by decide) pu_copy_fc).tr t5, (pu_fm.F pu_copyM_fm).tr t6⟩
def pu_dd (Z : MiZ) (D1 : MiD) (y : Int) (D2 : MiD) (x : Int) : Prop :=
  0 ≤ y ∧ (0 ≤ x ∧ x < 2664) ∧ Z.1 7 y 0 = D2 46 x 0 ∧ (0 ≤ D2 46 x 0 ∧ D2 46 x 0 < 19) ∧ (0 ≤ D1 7 y 2 ∧ D1 7 y 2 < 10) ∧ (-1 ≤ D1 7 y 3 ∧ D1 7 y 3 < 5) ∧
  (D2 46 x 0 = 0 → D1 7 y 5 = D2 46 x 1 ∧ 0 ≤ D2 46 x 1 ∧ D2 46 x 1 < 12) ∧
  (D2 46 x 0 = 3 ∨ D2 46 x 0 = 4 → D1 7 y 5 = D2 46 x 1 ∧ 0 ≤ D2 46 x 1 ∧ D2 46 x 1 < 100) ∧
  (D2 46 x 0 = 7 → D1 7 y 1 = D2 46 x 1 ∧ 0 ≤ D2 46 x 1 ∧ D2 46 x 1 < 8 ∧ D1 7 y 5 = D2 46 x 2) ∧
  (D2 46 x 0 = 8 → D1 7 y 5 = 19683 * D2 46 x 1 + D2 46 x 2 ∧ 0 ≤ D2 46 x 1 ∧ D2 46 x 1 < 19683 ∧ 0 ≤ D2 46 x 2 ∧ D2 46 x 2 < 19683) ∧
  (D2 46 x 0 = 10 ∨ D2 46 x 0 = 11 → D1 7 y 1 = D2 46 x 1 ∧ 0 ≤ D2 46 x 1 ∧ D2 46 x 1 < 8) ∧
  (10 ≤ D2 46 x 0 ∧ D2 46 x 0 ≤ 13 → D2 46 x 2 = pu_r (D1 7 y 2) (D1 7 y 3) ∧ D1 7 y 4 = D2 46 x 3 ∧ 0 ≤ D2 46 x 3 ∧ D2 46 x 3 < 10) ∧
  (D2 46 x 0 = 11 → D1 7 y 5 = D2 46 x 4) ∧
  (D2 46 x 0 = 14 ∨ D2 46 x 0 = 16 → D1 7 y 1 = D2 46 x 1 ∧ 0 ≤ D2 46 x 1 ∧ D2 46 x 1 < 11 ∧ D1 7 y 4 = D2 46 x 4 ∧ 0 ≤ D2 46 x 4 ∧ D2 46 x 4 < 10) ∧
  (14 ≤ D2 46 x 0 → D2 46 x 2 = D1 7 y 2) ∧
  (D2 46 x 0 = 14 ∨ D2 46 x 0 = 15 ∨ D2 46 x 0 = 17 ∨ D2 46 x 0 = 18 → D2 46 x 3 = D1 7 y 3 ∧ 0 ≤ D1 7 y 3) ∧
  (D2 46 x 0 = 16 → D1 7 y 3 = -1)
def pu_v (D1 : MiD) (v : Int) (D2 : MiD) (t : Int) : Prop := D1 5 v 0 = D2 59 t 2 ∧ D1 5 v 1 = D2 60 0 t ∧ -1 ≤ D2 59 t 2 ∧ D2 59 t 2 ≤ 8 ∧ (D2 59 t 2 = -1 → D2 60 0 t = 0)
def pu_FCv (w v : Int) (D D' : MiD) : Prop := ∀ (q : Nat) (j i : Int), ¬ ((q = 3 ∨ q = 17 ∨ q = 18) ∧ 60 * w ≤ j ∧ j < 60 * w + 60) → ¬ (q = 5 ∧ j = v) → D' q j i = D q j i
def pu_FMv (t : Int) (D D' : MiD) : Prop := ∀ (q : Nat) (j i : Int), ¬ (q = 52 ∨ q = 53 ∨ q = 55 ∨ q = 57) → ¬ (q = 40 ∧ j = 0 ∧ (i = 25 ∨ i = 26)) → ¬ (q = 59 ∧ j = t ∧ i = 2) → ¬ (q = 60 ∧ j = 0 ∧ i = t) → D' q j i = D q j i
def pu_doP (w v t : Int) (D1 D2 : MiD) (a b : Int × MiD) : Prop := a.1 = b.1 ∧ 0 ≤ a.1 ∧ a.1 ≤ 3 ∧ pu_D w a.2 b.2 ∧ pu_v a.2 v b.2 t ∧ pu_FCv w v D1 a.2 ∧ pu_FMv t D2 b.2
theorem pu_daP.v {w v t : Int} {D1 D2 : MiD} {a b : Int × MiD} (hv : pu_v D1 v D2 t) (h : pu_daP w D1 D2 a b) : pu_doP w v t D1 D2 a b := by
  obtain ⟨h1, h2, h3, h4, h5, h6⟩ := h
  refine ⟨h1, h2, h3, h4, ?_, fun q j i k _ => h5 q j i k, fun q j i k k' _ _ => h6 q j i k k'⟩
  unfold pu_v
  rw [h5 5 v 0 (by omega), h5 5 v 1 (by omega), h6 59 t 2 (by omega) (by omega), h6 60 0 t (by omega) (by omega)]
  exact hv
def pu_val (D : MiD) (t k n : Int) : MiD := fun q j i => if q = 59 ∧ j = t ∧ i = 2 then k else if q = 60 ∧ j = 0 ∧ i = t then n else D q j i
theorem pu_valE {D : MiD} {t k n : Int} : mi_st (mi_st D 59 t 2 k) 60 0 t n = pu_val D t k n := by
  funext q j i
  grind [pu_val, mi_st]
theorem pu_D.o {w : Int} {D1 D2 D1' D2' : MiD} (h : pu_D w D1 D2) (f1 : ∀ (q : Nat) (j i : Int), q = 3 ∨ q = 17 ∨ q = 18 → D1' q j i = D1 q j i) (f2 : ∀ (q : Nat) (j i : Int), q = 52 ∨ q = 53 ∨ q = 55 ∨ q = 57 → D2' q j i = D2 q j i) : pu_D w D1' D2' := by
  refine ⟨fun d m a1 a2 a3 a4 => ?_, fun d m a1 a2 a3 a4 k => ?_⟩
  · have := h.1 d m a1 a2 a3 a4
    unfold pu_R pu_K at this ⊢
    simp only [f1 3 _ _ (Or.inl rfl), f1 17 _ _ (Or.inr (Or.inl rfl)), f1 18 _ _ (Or.inr (Or.inr rfl)), f2 52 _ _ (Or.inl rfl), f2 53 _ _ (Or.inr (Or.inl rfl)), f2 55 _ _ (Or.inr (Or.inr (Or.inl rfl))), f2 57 _ _ (Or.inr (Or.inr (Or.inr rfl)))]
    exact this
  · rw [f2 _ _ _ (Or.inl rfl)] at k ⊢
    exact h.2 d m a1 a2 a3 a4 k
theorem pu_setv {w v t k n : Int} {D1 D2 : MiD} (h : pu_D w D1 D2) (hk : -1 ≤ k ∧ k ≤ 8 ∧ (k = -1 → n = 0)) : pu_doP w v t D1 D2 (0, pu_be D1 v k n) (0, pu_val D2 t k n) := by
  refine ⟨rfl, Int.le_refl 0, (by show (0 : Int) ≤ 3; decide), h.o (fun q j i z => ?_) (fun q j i z => ?_), ?_, fun q j i z z' => ?_, fun q j i z1 z2 z3 z4 => ?_⟩
  · show pu_be D1 v k n q j i = _; unfold pu_be; grind
  · show pu_val D2 t k n q j i = _; unfold pu_val; grind
  · have e1 : pu_be D1 v k n 5 v 0 = k := by unfold pu_be; grind
    have e2 : pu_be D1 v k n 5 v 1 = n := by unfold pu_be; grind
    have e3 : pu_val D2 t k n 59 t 2 = k := by unfold pu_val; grind
    have e4 : pu_val D2 t k n 60 0 t = n := by unfold pu_val; grind
    show pu_be D1 v k n 5 v 0 = pu_val D2 t k n 59 t 2 ∧ pu_be D1 v k n 5 v 1 = pu_val D2 t k n 60 0 t ∧ -1 ≤ pu_val D2 t k n 59 t 2 ∧ pu_val D2 t k n 59 t 2 ≤ 8 ∧ (pu_val D2 t k n 59 t 2 = -1 → pu_val D2 t k n 60 0 t = 0)
    rw [e1, e2, e3, e4]
    exact ⟨rfl, rfl, hk⟩
  · show pu_be D1 v k n q j i = _; unfold pu_be; grind
  · show pu_val D2 t k n q j i = _; unfold pu_val; grind
theorem pu_doP.got {w v t g u : Int} {D1 D2 : MiD} {a b : Int × MiD} (h : pu_doP w v t D1 (pu_got D2 g u) a b) : pu_doP w v t D1 D2 a b := by
  obtain ⟨h1, h2, h3, h4, h5, h6, h7⟩ := h
  refine ⟨h1, h2, h3, h4, h5, h6, fun q j i z1 z2 z3 z4 => ?_⟩
  rw [h7 q j i z1 z2 z3 z4]
  unfold pu_got
  grind
theorem pu_smE : ∀ o : Fin 19, mi_opo ((o : Nat) : Int) = ((o : Nat) : Int) := by decide +kernel
theorem pu_opo {o : Int} (h : 0 ≤ o ∧ o < 19) : mi_opo o = o := by
  have := pu_smE ⟨o.toNat, by omega⟩
  have e : (((⟨o.toNat, by omega⟩ : Fin 19) : Nat) : Int) = o := by show ((o.toNat : Nat) : Int) = _; omega
  rwa [e] at this
theorem pu_smT : ∀ o : Fin 19, mi_sm ((o : Nat) : Int) = (if (o : Nat) = 0 then 19 else if (o : Nat) < 7 then ((o : Nat) : Int) + 12 else ((o : Nat) : Int) - 6) := by decide +kernel
theorem pu_sm {o : Int} (h : 0 ≤ o ∧ o < 19) : mi_sm o = if o = 0 then 19 else if o < 7 then o + 12 else o - 6 := by
  have := pu_smT ⟨o.toNat, by omega⟩
  have e : (((⟨o.toNat, by omega⟩ : Fin 19) : Nat) : Int) = o := by show ((o.toNat : Nat) : Int) = _; omega
  rw [e] at this
  rw [this]
  show (if o.toNat = 0 then _ else if o.toNat < 7 then _ else _) = _
  by_cases c : o = 0
  · rw [if_pos (by omega), if_pos c]
  · by_cases c' : o < 7
    · rw [if_neg (by omega), if_pos (by omega), if_neg c, if_pos c']
    · rw [if_neg (by omega), if_neg (by omega), if_neg c, if_neg c']
theorem pu_doP.same {w v t : Int} {D1 D2 : MiD} (h : pu_D w D1 D2) (hv : pu_v D1 v D2 t) : pu_doP w v t D1 D2 (0, D1) (0, D2) := (pu_daP.same (e := 0) ⟨by decide, by decide⟩ h).v hv
theorem pu_take {w v t : Int} {D1 D2 : MiD} {a b : Int × MiD} (ht : 0 ≤ t ∧ t < 7) (h : pu_D w D1 D2) (hv : pu_v D1 v D2 t) (k : pu_rdP D1 v D2 a b) : ∃ c, B_X11_does_179 t b.1 b.2 = some c ∧ pu_doP w v t D1 D2 a c := by
  unfold B_X11_does_179
  rcases k with ⟨g, n, k1, k2, k3, rfl, rfl⟩ | ⟨e, k1, rfl, rfl⟩
  · simp only [ht, and_self, if_true, mi_let, Int.le_refl]
    have e1 : pu_got D2 g n 40 0 25 = g := by unfold pu_got; grind
    have e2 : mi_st (pu_got D2 g n) 59 t 2 g 40 0 26 = n := by unfold mi_st pu_got; grind
    rw [e1, e2, pu_valE]
    exact ⟨_, rfl, (pu_setv (h.o (fun _ _ _ _ => rfl) (fun q j i z => by unfold pu_got; grind)) ⟨k1, k2, k3⟩).got⟩
  · rw [if_neg (by show ¬ e ≤ 0; omega)]
    exact ⟨_, rfl, (pu_daP.same (by omega) h).v hv⟩
theorem pu_cutB {k v : Int} (hk : 0 ≤ k) : True := trivial
set_option maxHeartbeats 1000000 in
theorem pu_does {Z : MiZ} {w y v t x : Int} {D1 D2 : MiD} (hw : 0 ≤ w ∧ w < 2) (ht : 0 ≤ t ∧ t < 7) (h : pu_D w D1 D2) (hd : pu_dd Z D1 y D2 x) (hv : pu_v D1 v D2 t) :
    pu_ok (B_X9_doOnData Z w y v D1) fun a => pu_ok (B_X11_does t x D2) fun b => pu_doP w v t D1 D2 a b := by
  obtain ⟨d1, d2, d3, d4, d5, d6, d7, d8, d9, d10, d11, d12, d13, d14, d15, d16, d17⟩ := hd
  unfold B_X9_doOnData B_X11_does
  rw [pu_rowAt d5 d6, d3, pu_opo d4]
  have hx := pu_xB hw d5 d6
  have hr := pu_rB d5 d6
  have hRK := h.1 _ _ d5.1 d5.2 d6.1 d6.2
  have hG := h.G d5 d6
  simp only [mi_bi, d4, and_self, if_true]
  generalize ho : D2 46 x 0 = o at *
  by_cases c : o < 7
  · have e : 13 ≤ mi_sm o := by rw [pu_sm d4]; split <;> (try split) <;> omega
    rw [if_neg (by omega), if_neg (by omega), if_neg (by omega), if_neg (by omega), if_neg (by omega), if_neg (by omega), if_neg (by omega), if_neg (by omega), if_neg (by omega), if_neg (by omega), if_neg (by omega), if_neg (by omega)]
    rw [if_neg (by omega), if_neg (by omega), if_neg (by omega), if_neg (by omega), if_neg (by omega), if_neg (by omega), if_neg (by omega), if_neg (by omega), if_neg (by omega), if_neg (by omega), if_neg (by omega), if_neg (by omega)]
    exact ⟨_, rfl, _, rfl, pu_doP.same h hv⟩
  have c' : o = 7 ∨ o = 8 ∨ o = 9 ∨ o = 10 ∨ o = 11 ∨ o = 12 ∨ o = 13 ∨ o = 14 ∨ o = 15 ∨ o = 16 ∨ o = 17 ∨ o = 18 := by omega
  have hsm : mi_sm o = o - 6 := by rw [pu_sm d4, if_neg (by omega), if_neg c]
  rw [hsm]
  rcases c' with rfl | rfl | rfl | rfl | rfl | rfl | rfl | rfl | rfl | rfl | rfl | rfl
  · obtain ⟨q1, q2, q3, q4⟩ := d9 rfl
    simp only [Int.reduceSub, Int.reduceEq, if_true, if_false, ht, and_self, mi_let, pu_be_e, mi_bi, q1, q4]
    have e1 : mi_st D2 59 t 2 (D2 46 x 1) 46 x 2 = D2 46 x 2 := by rw [pu_st, if_neg (by omega)]
    have e2 : mi_st D2 59 t 2 (D2 46 x 1) 46 x 1 = D2 46 x 1 := by rw [pu_st, if_neg (by omega)]
    rw [e1, e2, pu_valE, pu_cutM]
    exact ⟨_, rfl, _, rfl, pu_setv h ⟨by omega, by omega, fun z => by omega⟩⟩
  · obtain ⟨q1, q2, q3, q4, q5⟩ := d10 rfl
    simp only [Int.reduceSub, Int.reduceEq, if_true, if_false, ht, and_self, mi_let, pu_be_e, mi_bi, q1]
    have e1 : mi_st D2 59 t 2 8 46 x 2 = D2 46 x 2 := by rw [pu_st, if_neg (by omega)]
    have e2 : mi_st D2 59 t 2 8 46 x 1 = D2 46 x 1 := by rw [pu_st, if_neg (by omega)]
    rw [e1, e2, pu_valE, pu_W (x := 19683 * D2 46 x 1) (by omega) (by omega), pu_W (by omega) (by omega)]
    exact ⟨_, rfl, _, rfl, pu_setv h ⟨by omega, by omega, fun z => by omega⟩⟩
  · simp only [Int.reduceSub, Int.reduceEq, if_true, if_false, ht, and_self, mi_let, pu_be_e, mi_bi, pu_valE]
    exact ⟨_, rfl, _, rfl, pu_setv h ⟨by omega, by omega, fun z => rfl⟩⟩
  · obtain ⟨q1, q2, q3⟩ := d11 (Or.inl rfl)
    obtain ⟨q4, q5, q6, q7⟩ := d12 ⟨by decide, by decide⟩
    unfold B_X11_does_145
    rw [ho]
    simp only [Int.reduceSub, Int.reduceEq, if_true, if_false, ht, and_self, hx, mi_b2, mi_bi, q1, q4, q5, ne_eq, not_true_eq_false, not_false_eq_true]
    obtain ⟨a, ea, b, eb, hP⟩ := pu_readAs (k := D2 46 x 1) (p := D2 46 x 3) (v := v) hx ⟨hr.1, by omega⟩ ⟨q2, by omega⟩ hRK.1 hRK.2 hG
    rw [pu_plE q6] at eb
    rw [ea, eb]
    obtain ⟨c, ec, hc⟩ := pu_take ht h hv hP
    exact ⟨a, rfl, c, ec, hc⟩
  · obtain ⟨q1, q2, q3⟩ := d11 (Or.inr rfl)
    obtain ⟨q4, q5, q6, q7⟩ := d12 ⟨by decide, by decide⟩
    have q8 := d13 rfl
    simp only [Int.reduceSub, Int.reduceEq, if_true, if_false, ht, and_self, hx, mi_b2, mi_bi, q1, q4, q5, q8, ne_eq, not_true_eq_false, not_false_eq_true]
    obtain ⟨a, ea, b, eb, hP⟩ := pu_writeAs (k := D2 46 x 1) (p := D2 46 x 3) (v := D2 46 x 4) hx hr ⟨q2, by omega⟩ hRK.1 hRK.2 hG
    rw [pu_plE q6] at eb
    rw [ea, eb]
    exact ⟨a, rfl, b, rfl, (hP.da h d5 d6).v hv⟩
  · obtain ⟨q4, q5, q6, q7⟩ := d12 ⟨by decide, by decide⟩
    unfold B_X11_does_145
    rw [ho]
    simp only [Int.reduceSub, Int.reduceEq, if_true, if_false, ht, and_self, hx, mi_b2, mi_bi, q4, q5, ne_eq, not_true_eq_false, not_false_eq_true]
    obtain ⟨a, ea, b, eb, hP⟩ := pu_box (p := D2 46 x 3) (v := v) hx ⟨hr.1, by omega⟩ hRK.1 hRK.2 hG
    rw [pu_plE q6] at eb
    rw [ea, eb]
    obtain ⟨c, ec, hc⟩ := pu_take ht h hv hP
    exact ⟨a, rfl, c, ec, hc⟩
  · obtain ⟨q4, q5, q6, q7⟩ := d12 ⟨by decide, by decide⟩
    simp only [Int.reduceSub, Int.reduceEq, if_true, if_false, ht, and_self, hx, mi_b2, mi_bi, q4, q5, ne_eq, not_true_eq_false, not_false_eq_true]
    obtain ⟨a, ea, b, eb, hP⟩ := pu_put (p := D2 46 x 3) (v := v) hx hr hRK.1 hRK.2 hG (by rw [hv.1, hv.2.1]; exact hv.2.2)
    rw [pu_plE q6, hv.1, hv.2.1] at eb
    rw [ea, eb]
    exact ⟨a, rfl, b, rfl, (hP.da h d5 d6).v hv⟩
  · obtain ⟨q1, q2, q3, q4, q5, q6⟩ := d14 (Or.inl rfl)
    have q7 := d15 (by decide)
    obtain ⟨q8, q9⟩ := d16 (Or.inl rfl)
    unfold B_X11_does_252 B_X11_makes B_X9_makeShadow
    rw [ho]
    simp only [Int.reduceSub, Int.reduceEq, if_true, if_false, and_self, mi_b2, mi_bi, mi_let, q7, q8, q1, q4, ne_eq, not_true_eq_false, not_false_eq_true, pu_rowAt d5 d6, pu_rowAt d5 (show (-1 : Int) ≤ -1 ∧ (-1 : Int) < 5 by decide), pu_rowOf d5 d6, pu_xB hw d5 (show (-1 : Int) ≤ -1 ∧ (-1 : Int) < 5 by decide), hx, show 0 ≤ D1 7 y 2 ∧ D1 7 y 2 < 61 by omega, show 0 ≤ pu_r (D1 7 y 2) (D1 7 y 3) ∧ pu_r (D1 7 y 2) (D1 7 y 3) < 61 by omega]
    have hR0 := (h.1 _ (-1) d5.1 d5.2 (by decide) (by decide)).1.1
    rw [pu_r0] at hR0
    rw [hR0, hRK.1.1]
    by_cases c1 : D2 52 0 (D1 7 y 2) = 12
    · simp only [c1, if_true, if_false, not_true_eq_false]
      exact ⟨_, rfl, _, rfl, (pu_daP.same (by decide) h).v hv⟩
    · by_cases c2 : D2 52 0 (pu_r (D1 7 y 2) (D1 7 y 3)) = 12
      · rw [pu_lay_e hx.1 hx.2, pu_layM_e hr.1 (by omega)]
        simp only [c1, c2, if_true, if_false, not_true_eq_false, not_false_eq_true]
        exact ⟨_, rfl, _, rfl, (pu_make hw d5 ⟨q9, d6.2⟩ ⟨q2, by omega⟩ ⟨q5, by omega⟩ h c1).v hv⟩
      · simp only [c1, c2, if_true, if_false, not_true_eq_false, not_false_eq_true]
        exact ⟨_, rfl, _, rfl, pu_doP.same h hv⟩
  · have q7 := d15 (by decide)
    obtain ⟨q8, q9⟩ := d16 (Or.inr (Or.inl rfl))
    unfold B_X11_does_252 B_X11_makes B_X9_freeShadow
    rw [ho]
    simp only [Int.reduceSub, Int.reduceEq, if_true, if_false, and_self, mi_b2, mi_bi, mi_let, q7, q8, ne_eq, not_true_eq_false, not_false_eq_true, pu_rowAt d5 d6, pu_rowOf d5 d6, hx, show 0 ≤ D1 7 y 2 ∧ D1 7 y 2 < 61 by omega, show 0 ≤ pu_r (D1 7 y 2) (D1 7 y 3) ∧ pu_r (D1 7 y 2) (D1 7 y 3) < 61 by omega]
    rw [hRK.1.1]
    by_cases c1 : D2 52 0 (D1 7 y 2) = 12
    · have c2 := h.2 _ _ d5.1 d5.2 d6.1 d6.2 c1
      simp only [c1, c2, if_true, if_false, not_true_eq_false]
      exact ⟨_, rfl, _, rfl, (pu_daP.same (by decide) h).v hv⟩
    · by_cases c2 : D2 52 0 (pu_r (D1 7 y 2) (D1 7 y 3)) = 12
      · simp only [c1, c2, if_true, if_false, not_true_eq_false, not_false_eq_true]
        exact ⟨_, rfl, _, rfl, (pu_daP.same (by decide) h).v hv⟩
      · rw [pu_lay_e hx.1 hx.2, pu_layM_e hr.1 (by omega)]
        simp only [c1, c2, if_true, if_false, not_true_eq_false, not_false_eq_true]
        exact ⟨_, rfl, _, rfl, (pu_free hw d5 ⟨q9, d6.2⟩ h).v hv⟩
  · obtain ⟨q1, q2, q3, q4, q5, q6⟩ := d14 (Or.inr rfl)
    have q7 := d15 (by decide)
    have q8 := d17 rfl
    simp only [Int.reduceSub, Int.reduceEq, if_true, if_false, ht, and_self, hx, mi_b2, mi_bi, q1, q4, q7, ne_eq, not_true_eq_false, not_false_eq_true]
    rw [q8] at hx hRK ⊢
    rw [pu_r0] at hRK
    obtain ⟨a, ea, b, eb, hP⟩ := pu_reshape (k := D2 46 x 1) (n := D2 46 x 4) hx d5 hRK.1 hRK.2 ⟨q2, by omega⟩ ⟨q5, by omega⟩
    rw [ea, eb]
    exact ⟨a, rfl, b, rfl, (pu_rwP.da (m := -1) h d5 (by decide) (by rw [pu_r0]; exact hP)).v hv⟩
  · have q7 := d15 (by decide)
    obtain ⟨q8, q9⟩ := d16 (Or.inr (Or.inr (Or.inl rfl)))
    simp only [Int.reduceSub, Int.reduceEq, if_true, if_false, ht, and_self, hx, mi_b2, mi_bi, q7, q8, ne_eq, not_true_eq_false, not_false_eq_true]
    obtain ⟨a, ea, b, eb, hP⟩ := pu_keepS hw d5 ⟨q9, d6.2⟩ h
    rw [ea, eb]
    exact ⟨a, rfl, b, rfl, hP.v hv⟩
  · have q7 := d15 (by decide)
    obtain ⟨q8, q9⟩ := d16 (Or.inr (Or.inr (Or.inr rfl)))
    simp only [Int.reduceSub, Int.reduceEq, if_true, if_false, ht, and_self, hx, mi_b2, mi_bi, q7, q8, ne_eq, not_true_eq_false, not_false_eq_true]
    obtain ⟨a, ea, b, eb, hP⟩ := pu_lift hw d5 ⟨q9, d6.2⟩ h
    rw [ea, eb]
    exact ⟨a, rfl, b, rfl, hP.v hv⟩
def pu_C (Z : MiZ) (D1 : MiD) (c : Int) (D2 : MiD) (k : Int) : Prop := 0 ≤ c ∧ (0 ≤ k ∧ k < 111) ∧ 0 ≤ Z.1 6 c 0 ∧ D1 6 c 1 = D2 43 0 k ∧ 0 ≤ D2 43 0 k ∧ D2 43 0 k ≤ 24 ∧ ∀ i : Int, 0 ≤ i → i < D2 43 0 k → pu_dd Z D1 (Z.1 23 (Z.1 6 c 0) i) D2 (24 * k + i)
def pu_Pt (Z : MiZ) (D1 : MiD) (P : Int) (D2 : MiD) (p : Int) : Prop := (0 ≤ P) ∧ (0 ≤ Z.1 8 P 1) ∧ (D1 8 P 0 = D2 48 0 p) ∧ (D2 48 0 p = 0 ∨ D2 48 0 p = 1) ∧ (pu_C Z D1 (Z.1 8 P 2) D2 (20 + 11 * p)) ∧ (pu_C Z D1 (Z.1 8 P 3) D2 (21 + 11 * p)) ∧ (pu_C Z D1 (Z.1 8 P 4) D2 (22 + 11 * p)) ∧ (∀ D : MiD, B_X4_functionBits D Z P = some (D2 47 0 p)) ∧ (∀ f : Int, 0 ≤ f → f < 12 → B_X11_isBit (D2 47 0 p) f = 0 → Z.1 24 (Z.1 8 P 1) f < 0) ∧ (∀ f : Int, 0 ≤ f → f < 12 → B_X11_isBit (D2 47 0 p) f ≠ 0 → pu_C Z D1 (Z.1 24 (Z.1 8 P 1) f) D2 (D2 51 p f))
theorem pu_Pt.at0 {Z : MiZ} {D1 : MiD} {P : Int} {D2 : MiD} {p : Int} (h : pu_Pt Z D1 P D2 p) : 0 ≤ P := h.1
theorem pu_Pt.cs {Z : MiZ} {D1 : MiD} {P : Int} {D2 : MiD} {p : Int} (h : pu_Pt Z D1 P D2 p) : 0 ≤ Z.1 8 P 1 := h.2.1
theorem pu_Pt.al {Z : MiZ} {D1 : MiD} {P : Int} {D2 : MiD} {p : Int} (h : pu_Pt Z D1 P D2 p) : D1 8 P 0 = D2 48 0 p := h.2.2.1
theorem pu_Pt.alb {Z : MiZ} {D1 : MiD} {P : Int} {D2 : MiD} {p : Int} (h : pu_Pt Z D1 P D2 p) : D2 48 0 p = 0 ∨ D2 48 0 p = 1 := h.2.2.2.1
theorem pu_Pt.b {Z : MiZ} {D1 : MiD} {P : Int} {D2 : MiD} {p : Int} (h : pu_Pt Z D1 P D2 p) : pu_C Z D1 (Z.1 8 P 2) D2 (20 + 11 * p) := h.2.2.2.2.1
theorem pu_Pt.d {Z : MiZ} {D1 : MiD} {P : Int} {D2 : MiD} {p : Int} (h : pu_Pt Z D1 P D2 p) : pu_C Z D1 (Z.1 8 P 3) D2 (21 + 11 * p) := h.2.2.2.2.2.1
theorem pu_Pt.u {Z : MiZ} {D1 : MiD} {P : Int} {D2 : MiD} {p : Int} (h : pu_Pt Z D1 P D2 p) : pu_C Z D1 (Z.1 8 P 4) D2 (22 + 11 * p) := h.2.2.2.2.2.2.1
theorem pu_Pt.bits {Z : MiZ} {D1 : MiD} {P : Int} {D2 : MiD} {p : Int} (h : pu_Pt Z D1 P D2 p) : ∀ D : MiD, B_X4_functionBits D Z P = some (D2 47 0 p) := h.2.2.2.2.2.2.2.1
theorem pu_Pt.no {Z : MiZ} {D1 : MiD} {P : Int} {D2 : MiD} {p : Int} (h : pu_Pt Z D1 P D2 p) : ∀ f : Int, 0 ≤ f → f < 12 → B_X11_isBit (D2 47 0 p) f = 0 → Z.1 24 (Z.1 8 P 1) f < 0 := h.2.2.2.2.2.2.2.2.1
theorem pu_Pt.yes {Z : MiZ} {D1 : MiD} {P : Int} {D2 : MiD} {p : Int} (h : pu_Pt Z D1 P D2 p) : ∀ f : Int, 0 ≤ f → f < 12 → B_X11_isBit (D2 47 0 p) f ≠ 0 → pu_C Z D1 (Z.1 24 (Z.1 8 P 1) f) D2 (D2 51 p f) := h.2.2.2.2.2.2.2.2.2
def pu_P (w : Int) (Z : MiZ) (D1 D2 : MiD) : Prop := (0 ≤ D2 40 0 11) ∧ (D2 40 0 11 ≤ 8) ∧ (∀ f : Int, 0 ≤ f → f < 12 → pu_C Z D1 (Z.1 11 w f) D2 f) ∧ (∀ p : Int, 0 ≤ p → p < D2 40 0 11 → pu_Pt Z D1 (Z.1 12 w p) D2 p) ∧ (∀ p : Int, D2 40 0 11 ≤ p → p < 8 → Z.1 12 w p < 0)
theorem pu_P.n0 {w : Int} {Z : MiZ} {D1 D2 : MiD} (h : pu_P w Z D1 D2) : 0 ≤ D2 40 0 11 := h.1
theorem pu_P.n8 {w : Int} {Z : MiZ} {D1 D2 : MiD} (h : pu_P w Z D1 D2) : D2 40 0 11 ≤ 8 := h.2.1
theorem pu_P.fn {w : Int} {Z : MiZ} {D1 D2 : MiD} (h : pu_P w Z D1 D2) : ∀ f : Int, 0 ≤ f → f < 12 → pu_C Z D1 (Z.1 11 w f) D2 f := h.2.2.1
theorem pu_P.pt {w : Int} {Z : MiZ} {D1 D2 : MiD} (h : pu_P w Z D1 D2) : ∀ p : Int, 0 ≤ p → p < D2 40 0 11 → pu_Pt Z D1 (Z.1 12 w p) D2 p := h.2.2.2.1
theorem pu_P.nul {w : Int} {Z : MiZ} {D1 D2 : MiD} (h : pu_P w Z D1 D2) : ∀ p : Int, D2 40 0 11 ≤ p → p < 8 → Z.1 12 w p < 0 := h.2.2.2.2
def pu_cdS (D1 D2 E1 E2 : MiD) : Prop := (∀ (q : Nat) (j i : Int), q = 6 ∨ q = 7 ∨ q = 8 → E1 q j i = D1 q j i) ∧ (∀ (q : Nat) (j i : Int), q = 43 ∨ q = 46 ∨ q = 47 ∨ q = 48 ∨ q = 51 → E2 q j i = D2 q j i) ∧ E2 40 0 11 = D2 40 0 11
theorem pu_dd.kept {Z : MiZ} {D1 D2 E1 E2 : MiD} {y x : Int} (h : pu_dd Z D1 y D2 x) (k : pu_cdS D1 D2 E1 E2) : pu_dd Z E1 y E2 x := by
  obtain ⟨k1, k2, -⟩ := k
  unfold pu_dd at h ⊢
  simp only [k1 7 _ _ (Or.inr (Or.inl rfl)), k2 46 _ _ (Or.inr (Or.inl rfl))]
  exact h
theorem pu_C.kept {Z : MiZ} {D1 D2 E1 E2 : MiD} {c x : Int} (h : pu_C Z D1 c D2 x) (k : pu_cdS D1 D2 E1 E2) : pu_C Z E1 c E2 x := by
  obtain ⟨h1, h2, h3, h4, h5, h6, h7⟩ := h
  have e1 := k.1 6 c 1 (Or.inl rfl)
  have e2 := k.2.1 43 0 x (Or.inl rfl)
  exact ⟨h1, h2, h3, by rw [e1, e2]; exact h4, by rw [e2]; exact h5, by rw [e2]; exact h6, fun i a b => (h7 i a (by rw [← e2]; exact b)).kept k⟩
theorem pu_Pt.kept {Z : MiZ} {D1 D2 E1 E2 : MiD} {c x : Int} (h : pu_Pt Z D1 c D2 x) (k : pu_cdS D1 D2 E1 E2) : pu_Pt Z E1 c E2 x := by
  have e1 := k.1 8 c 0 (by decide)
  have e2 := k.2.1 48 0 x (by decide)
  have e3 := k.2.1 47 0 x (by decide)
  refine ⟨h.at0, h.cs, by rw [e1, e2]; exact h.al, by rw [e2]; exact h.alb, h.b.kept k, h.d.kept k, h.u.kept k, fun D => by rw [e3]; exact h.bits D, fun f a b => by rw [e3]; exact h.no f a b, fun f a b => ?_⟩
  rw [e3, k.2.1 51 x f (by decide)]
  exact fun z => (h.yes f a b z).kept k
theorem pu_P.kept {w : Int} {Z : MiZ} {D1 D2 E1 E2 : MiD} (h : pu_P w Z D1 D2) (k : pu_cdS D1 D2 E1 E2) : pu_P w Z E1 E2 := by
  have e := k.2.2
  exact ⟨by rw [e]; exact h.n0, by rw [e]; exact h.n8, fun f a b => (h.fn f a b).kept k, fun p a b => (h.pt p a (by rw [← e]; exact b)).kept k, fun p a b => h.nul p (by rw [← e]; exact a) b⟩
def pu_has (D2 : MiD) (p f : Int) : Prop := 0 ≤ p ∧ B_X11_isBit (D2 47 0 p) f ≠ 0
theorem pu_hasE {w : Int} {Z : MiZ} {D1 D2 : MiD} (h : pu_P w Z D1 D2) {p f : Int} (hp : -1 ≤ p ∧ p < D2 40 0 11) (hf : 0 ≤ f ∧ f < 12) : (pu_has D2 p f ∧ B_X9_has D1 Z w p f = some 1) ∨ (¬ pu_has D2 p f ∧ B_X9_has D1 Z w p f = some 0) := by
  unfold B_X9_has pu_has
  rw [pu_within]
  have n8 := h.n8
  by_cases c : 0 ≤ p
  · have P := h.pt p c hp.2
    simp only [c, show p < 8 by omega, and_self, if_true, P.at0, P.cs, hf, show ¬ Z.1 12 w p < 0 by have := P.at0; omega, if_false, show ¬ ((1 : Int) = 0) by decide, true_and]
    by_cases b : B_X11_isBit (D2 47 0 p) f = 0
    · right
      have := P.no f hf.1 hf.2 b
      simp [b, this]
    · left
      have := (P.yes f hf.1 hf.2 b).1
      rw [if_neg (by omega)]
      exact ⟨b, rfl⟩
  · right
    simp [c]
theorem pu_codeOf {w : Int} {Z : MiZ} {D1 D2 : MiD} (h : pu_P w Z D1 D2) {p f t e : Int} (ht : 0 ≤ t ∧ t < 6) (he : 0 ≤ e ∧ e < 10) (hp : -1 ≤ p ∧ p < D2 40 0 11) (hf : 0 ≤ f ∧ f < 12) (hh : 0 ≤ p → B_X11_isBit (D2 47 0 p) f ≠ 0) (e1 : D2 63 (10 * t + e) 0 = f) (e2 : D2 63 (10 * t + e) 1 = p) : ∃ c k : Int, B_X9_codeOf D1 Z w f p = some c ∧ B_X11_codeIn D2 t e = some k ∧ pu_C Z D1 c D2 k := by
  have n8 := h.n8
  unfold B_X9_codeOf B_X11_codeIn
  rw [pu_within, if_pos ht, if_pos he, e1, e2]
  by_cases c : 0 ≤ p
  · have P := h.pt p c hp.2
    have Y := P.yes f hf.1 hf.2 (hh c)
    simp only [c, show p < 8 by omega, show p < 9 by omega, show ¬ p = -1 by omega, and_self, if_true, P.at0, P.cs, hf, show ¬ Z.1 12 w p < 0 by have := P.at0; omega, if_false, show ¬ ((1 : Int) = 0) by decide, ne_eq, not_false_eq_true]
    exact ⟨_, _, rfl, rfl, Y⟩
  · obtain rfl : p = -1 := by omega
    simp only [show ¬ ((0 : Int) ≤ -1) by decide, false_and, if_false, ne_eq, not_true_eq_false, hf, and_self, if_true]
    exact ⟨_, _, rfl, rfl, h.fn f hf.1 hf.2⟩
theorem pu_deedAt {Z : MiZ} {D1 D2 : MiD} {c k i : Int} (h : pu_C Z D1 c D2 k) (hi : 0 ≤ i) : (i < D2 43 0 k ∧ B_X1_deedAt D1 Z c i = some (Z.1 23 (Z.1 6 c 0) i) ∧ pu_dd Z D1 (Z.1 23 (Z.1 6 c 0) i) D2 (24 * k + i)) ∨ (D2 43 0 k ≤ i ∧ B_X1_deedAt D1 Z c i = some (-1)) := by
  obtain ⟨h1, h2, h3, h4, h5, h6, h7⟩ := h
  unfold B_X1_deedAt
  rw [if_neg (by omega), h4]
  by_cases a : D2 43 0 k ≤ i
  · right
    rw [if_pos a]
    exact ⟨a, rfl⟩
  · left
    rw [if_neg a, if_pos h3, if_pos (by omega)]
    exact ⟨by omega, rfl, h7 i hi (by omega)⟩
def pu_Fr (w : Int) (D1 D2 : MiD) (t e : Int) : Prop := (D1 19 (6 * w + t) e = D2 63 (10 * t + e) 0) ∧ (0 ≤ D2 63 (10 * t + e) 0) ∧ (D2 63 (10 * t + e) 0 < 12) ∧ (D1 20 (6 * w + t) e = D2 63 (10 * t + e) 1) ∧ (-1 ≤ D2 63 (10 * t + e) 1) ∧ (D2 63 (10 * t + e) 1 < D2 40 0 11) ∧ (0 ≤ D2 63 (10 * t + e) 1 → B_X11_isBit (D2 47 0 (D2 63 (10 * t + e) 1)) (D2 63 (10 * t + e) 0) ≠ 0) ∧ (D1 21 (6 * w + t) e = D2 63 (10 * t + e) 2) ∧ (0 ≤ D2 63 (10 * t + e) 2) ∧ (D2 63 (10 * t + e) 2 ≤ 24) ∧ (D1 22 (6 * w + t) e = D2 63 (10 * t + e) 3)
theorem pu_Fr.f {w : Int} {D1 D2 : MiD} {t e : Int} (h : pu_Fr w D1 D2 t e) : D1 19 (6 * w + t) e = D2 63 (10 * t + e) 0 := h.1
theorem pu_Fr.f0 {w : Int} {D1 D2 : MiD} {t e : Int} (h : pu_Fr w D1 D2 t e) : 0 ≤ D2 63 (10 * t + e) 0 := h.2.1
theorem pu_Fr.f1 {w : Int} {D1 D2 : MiD} {t e : Int} (h : pu_Fr w D1 D2 t e) : D2 63 (10 * t + e) 0 < 12 := h.2.2.1
theorem pu_Fr.p {w : Int} {D1 D2 : MiD} {t e : Int} (h : pu_Fr w D1 D2 t e) : D1 20 (6 * w + t) e = D2 63 (10 * t + e) 1 := h.2.2.2.1
theorem pu_Fr.p0 {w : Int} {D1 D2 : MiD} {t e : Int} (h : pu_Fr w D1 D2 t e) : -1 ≤ D2 63 (10 * t + e) 1 := h.2.2.2.2.1
theorem pu_Fr.p1 {w : Int} {D1 D2 : MiD} {t e : Int} (h : pu_Fr w D1 D2 t e) : D2 63 (10 * t + e) 1 < D2 40 0 11 := h.2.2.2.2.2.1
theorem pu_Fr.h {w : Int} {D1 D2 : MiD} {t e : Int} (h : pu_Fr w D1 D2 t e) : 0 ≤ D2 63 (10 * t + e) 1 → B_X11_isBit (D2 47 0 (D2 63 (10 * t + e) 1)) (D2 63 (10 * t + e) 0) ≠ 0 := h.2.2.2.2.2.2.1
theorem pu_Fr.a {w : Int} {D1 D2 : MiD} {t e : Int} (h : pu_Fr w D1 D2 t e) : D1 21 (6 * w + t) e = D2 63 (10 * t + e) 2 := h.2.2.2.2.2.2.2.1
theorem pu_Fr.a0 {w : Int} {D1 D2 : MiD} {t e : Int} (h : pu_Fr w D1 D2 t e) : 0 ≤ D2 63 (10 * t + e) 2 := h.2.2.2.2.2.2.2.2.1
theorem pu_Fr.a1 {w : Int} {D1 D2 : MiD} {t e : Int} (h : pu_Fr w D1 D2 t e) : D2 63 (10 * t + e) 2 ≤ 24 := h.2.2.2.2.2.2.2.2.2.1
theorem pu_Fr.b {w : Int} {D1 D2 : MiD} {t e : Int} (h : pu_Fr w D1 D2 t e) : D1 22 (6 * w + t) e = D2 63 (10 * t + e) 3 := h.2.2.2.2.2.2.2.2.2.2
def pu_Tk (w : Int) (D1 D2 : MiD) (t : Int) : Prop := (D1 4 (6 * w + t) 4 = D2 59 t 0) ∧ (0 ≤ D2 59 t 0) ∧ (D2 59 t 0 ≤ 10) ∧ (D1 4 (6 * w + t) 5 = D2 59 t 3) ∧ (0 ≤ D2 59 t 3) ∧ (D2 59 t 3 < 100) ∧ (D1 4 (6 * w + t) 6 = D2 59 t 1) ∧ (0 ≤ D2 59 t 1) ∧ (D2 59 t 1 ≤ 3) ∧ (D1 4 (6 * w + t) 9 = D2 59 t 5) ∧ (D1 4 (6 * w + t) 10 = D2 59 t 6) ∧ (D1 4 (6 * w + t) 8 = 0 ∨ D1 4 (6 * w + t) 8 = 1) ∧ (pu_v D1 (6 * w + t + 1 + (6 * w + t) / 6) D2 t) ∧ (∀ e : Int, 0 ≤ e → e < D2 59 t 0 → pu_Fr w D1 D2 t e) ∧ (0 < D2 59 t 3 → D2 59 t 1 = 0 ∧ 0 < D2 59 t 0 ∧ D2 63 (10 * t + (D2 59 t 0 - 1)) 2 ≤ 23)
theorem pu_Tk.fr {w : Int} {D1 D2 : MiD} {t : Int} (h : pu_Tk w D1 D2 t) : D1 4 (6 * w + t) 4 = D2 59 t 0 := h.1
theorem pu_Tk.fr0 {w : Int} {D1 D2 : MiD} {t : Int} (h : pu_Tk w D1 D2 t) : 0 ≤ D2 59 t 0 := h.2.1
theorem pu_Tk.fr1 {w : Int} {D1 D2 : MiD} {t : Int} (h : pu_Tk w D1 D2 t) : D2 59 t 0 ≤ 10 := h.2.2.1
theorem pu_Tk.re {w : Int} {D1 D2 : MiD} {t : Int} (h : pu_Tk w D1 D2 t) : D1 4 (6 * w + t) 5 = D2 59 t 3 := h.2.2.2.1
theorem pu_Tk.re0 {w : Int} {D1 D2 : MiD} {t : Int} (h : pu_Tk w D1 D2 t) : 0 ≤ D2 59 t 3 := h.2.2.2.2.1
theorem pu_Tk.re1 {w : Int} {D1 D2 : MiD} {t : Int} (h : pu_Tk w D1 D2 t) : D2 59 t 3 < 100 := h.2.2.2.2.2.1
theorem pu_Tk.tr {w : Int} {D1 D2 : MiD} {t : Int} (h : pu_Tk w D1 D2 t) : D1 4 (6 * w + t) 6 = D2 59 t 1 := h.2.2.2.2.2.2.1
theorem pu_Tk.tr0 {w : Int} {D1 D2 : MiD} {t : Int} (h : pu_Tk w D1 D2 t) : 0 ≤ D2 59 t 1 := h.2.2.2.2.2.2.2.1
theorem pu_Tk.tr1 {w : Int} {D1 D2 : MiD} {t : Int} (h : pu_Tk w D1 D2 t) : D2 59 t 1 ≤ 3 := h.2.2.2.2.2.2.2.2.1
theorem pu_Tk.fo {w : Int} {D1 D2 : MiD} {t : Int} (h : pu_Tk w D1 D2 t) : D1 4 (6 * w + t) 9 = D2 59 t 5 := h.2.2.2.2.2.2.2.2.2.1
theorem pu_Tk.de {w : Int} {D1 D2 : MiD} {t : Int} (h : pu_Tk w D1 D2 t) : D1 4 (6 * w + t) 10 = D2 59 t 6 := h.2.2.2.2.2.2.2.2.2.2.1
theorem pu_Tk.tu {w : Int} {D1 D2 : MiD} {t : Int} (h : pu_Tk w D1 D2 t) : D1 4 (6 * w + t) 8 = 0 ∨ D1 4 (6 * w + t) 8 = 1 := h.2.2.2.2.2.2.2.2.2.2.2.1
theorem pu_Tk.v {w : Int} {D1 D2 : MiD} {t : Int} (h : pu_Tk w D1 D2 t) : pu_v D1 (6 * w + t + 1 + (6 * w + t) / 6) D2 t := h.2.2.2.2.2.2.2.2.2.2.2.2.1
theorem pu_Tk.f {w : Int} {D1 D2 : MiD} {t : Int} (h : pu_Tk w D1 D2 t) : ∀ e : Int, 0 ≤ e → e < D2 59 t 0 → pu_Fr w D1 D2 t e := h.2.2.2.2.2.2.2.2.2.2.2.2.2.1
theorem pu_Tk.rs {w : Int} {D1 D2 : MiD} {t : Int} (h : pu_Tk w D1 D2 t) : 0 < D2 59 t 3 → D2 59 t 1 = 0 ∧ 0 < D2 59 t 0 ∧ D2 63 (10 * t + (D2 59 t 0 - 1)) 2 ≤ 23 := h.2.2.2.2.2.2.2.2.2.2.2.2.2.2
def pu_Wd (w : Int) (D1 D2 : MiD) : Prop := (D1 2 w 7 = D2 65 0 0) ∧ (0 ≤ D2 65 0 0) ∧ (D2 65 0 0 ≤ 8) ∧ (D1 2 w 8 = D2 65 0 1) ∧ (-1 ≤ D2 65 0 1) ∧ (D2 65 0 1 < D2 40 0 11) ∧ (D1 2 w 9 = 0 ∨ D1 2 w 9 = 1) ∧ (D2 65 0 1 ≠ -1 → D1 2 w 9 = D2 65 0 2) ∧ (D2 65 0 1 = -1 → D2 65 0 2 = -1) ∧ (∀ t : Int, 0 ≤ t → t < 6 → D2 65 0 1 ≠ -1 → D1 4 (6 * w + t) 8 = D2 59 t 4) ∧ (∀ t : Int, 0 ≤ t → t < 6 → D2 65 0 1 = -1 → D2 59 t 4 = 0) ∧ (D1 2 w 10 = D2 65 0 3) ∧ (D1 2 w 11 = D2 65 0 4) ∧ (D1 2 w 12 = D2 65 0 6) ∧ (D1 2 w 13 = D2 65 0 7) ∧ (D2 65 0 5 = mi_w (D2 59 0 5 + D2 59 1 5 + D2 59 2 5 + D2 59 3 5 + D2 59 4 5 + D2 59 5 5)) ∧ (∀ s : Int, 0 ≤ s → s < D2 65 0 0 → D1 15 w s = D2 64 0 s ∧ 0 ≤ D2 64 0 s ∧ D2 64 0 s < D2 40 0 11) ∧ (∀ s s' : Int, 0 ≤ s → s < s' → s' < D2 65 0 0 → D2 64 0 s ≠ D2 64 0 s') ∧ (D2 65 0 1 ≠ -1 → 0 < D2 65 0 0 ∧ D2 65 0 1 = D2 64 0 (D2 65 0 0 - 1)) ∧ (∀ p : Int, 0 ≤ p → p < 8 → D1 16 w p = D2 49 0 p)
theorem pu_Wd.st {w : Int} {D1 D2 : MiD} (h : pu_Wd w D1 D2) : D1 2 w 7 = D2 65 0 0 := h.1
theorem pu_Wd.st0 {w : Int} {D1 D2 : MiD} (h : pu_Wd w D1 D2) : 0 ≤ D2 65 0 0 := h.2.1
theorem pu_Wd.st8 {w : Int} {D1 D2 : MiD} (h : pu_Wd w D1 D2) : D2 65 0 0 ≤ 8 := h.2.2.1
theorem pu_Wd.tn {w : Int} {D1 D2 : MiD} (h : pu_Wd w D1 D2) : D1 2 w 8 = D2 65 0 1 := h.2.2.2.1
theorem pu_Wd.tn0 {w : Int} {D1 D2 : MiD} (h : pu_Wd w D1 D2) : -1 ≤ D2 65 0 1 := h.2.2.2.2.1
theorem pu_Wd.tn1 {w : Int} {D1 D2 : MiD} (h : pu_Wd w D1 D2) : D2 65 0 1 < D2 40 0 11 := h.2.2.2.2.2.1
theorem pu_Wd.onb {w : Int} {D1 D2 : MiD} (h : pu_Wd w D1 D2) : D1 2 w 9 = 0 ∨ D1 2 w 9 = 1 := h.2.2.2.2.2.2.1
theorem pu_Wd.on {w : Int} {D1 D2 : MiD} (h : pu_Wd w D1 D2) : D2 65 0 1 ≠ -1 → D1 2 w 9 = D2 65 0 2 := h.2.2.2.2.2.2.2.1
theorem pu_Wd.on' {w : Int} {D1 D2 : MiD} (h : pu_Wd w D1 D2) : D2 65 0 1 = -1 → D2 65 0 2 = -1 := h.2.2.2.2.2.2.2.2.1
theorem pu_Wd.tu {w : Int} {D1 D2 : MiD} (h : pu_Wd w D1 D2) : ∀ t : Int, 0 ≤ t → t < 6 → D2 65 0 1 ≠ -1 → D1 4 (6 * w + t) 8 = D2 59 t 4 := h.2.2.2.2.2.2.2.2.2.1
theorem pu_Wd.tu' {w : Int} {D1 D2 : MiD} (h : pu_Wd w D1 D2) : ∀ t : Int, 0 ≤ t → t < 6 → D2 65 0 1 = -1 → D2 59 t 4 = 0 := h.2.2.2.2.2.2.2.2.2.2.1
theorem pu_Wd.ti {w : Int} {D1 D2 : MiD} (h : pu_Wd w D1 D2) : D1 2 w 10 = D2 65 0 3 := h.2.2.2.2.2.2.2.2.2.2.2.1
theorem pu_Wd.ov {w : Int} {D1 D2 : MiD} (h : pu_Wd w D1 D2) : D1 2 w 11 = D2 65 0 4 := h.2.2.2.2.2.2.2.2.2.2.2.2.1
theorem pu_Wd.tp {w : Int} {D1 D2 : MiD} (h : pu_Wd w D1 D2) : D1 2 w 12 = D2 65 0 6 := h.2.2.2.2.2.2.2.2.2.2.2.2.2.1
theorem pu_Wd.pt {w : Int} {D1 D2 : MiD} (h : pu_Wd w D1 D2) : D1 2 w 13 = D2 65 0 7 := h.2.2.2.2.2.2.2.2.2.2.2.2.2.2.1
theorem pu_Wd.fs {w : Int} {D1 D2 : MiD} (h : pu_Wd w D1 D2) : D2 65 0 5 = mi_w (D2 59 0 5 + D2 59 1 5 + D2 59 2 5 + D2 59 3 5 + D2 59 4 5 + D2 59 5 5) := h.2.2.2.2.2.2.2.2.2.2.2.2.2.2.2.1
theorem pu_Wd.sk {w : Int} {D1 D2 : MiD} (h : pu_Wd w D1 D2) : ∀ s : Int, 0 ≤ s → s < D2 65 0 0 → D1 15 w s = D2 64 0 s ∧ 0 ≤ D2 64 0 s ∧ D2 64 0 s < D2 40 0 11 := h.2.2.2.2.2.2.2.2.2.2.2.2.2.2.2.2.1
theorem pu_Wd.di {w : Int} {D1 D2 : MiD} (h : pu_Wd w D1 D2) : ∀ s s' : Int, 0 ≤ s → s < s' → s' < D2 65 0 0 → D2 64 0 s ≠ D2 64 0 s' := h.2.2.2.2.2.2.2.2.2.2.2.2.2.2.2.2.2.1
theorem pu_Wd.top {w : Int} {D1 D2 : MiD} (h : pu_Wd w D1 D2) : D2 65 0 1 ≠ -1 → 0 < D2 65 0 0 ∧ D2 65 0 1 = D2 64 0 (D2 65 0 0 - 1) := h.2.2.2.2.2.2.2.2.2.2.2.2.2.2.2.2.2.2.1
theorem pu_Wd.en {w : Int} {D1 D2 : MiD} (h : pu_Wd w D1 D2) : ∀ p : Int, 0 ≤ p → p < 8 → D1 16 w p = D2 49 0 p := h.2.2.2.2.2.2.2.2.2.2.2.2.2.2.2.2.2.2.2
def pu_A (w : Int) (Z : MiZ) (D1 D2 : MiD) : Prop := (pu_D w D1 D2) ∧ (pu_P w Z D1 D2) ∧ (∀ t : Int, 0 ≤ t → t < 6 → pu_Tk w D1 D2 t) ∧ (pu_Wd w D1 D2)
theorem pu_A.d {w : Int} {Z : MiZ} {D1 D2 : MiD} (h : pu_A w Z D1 D2) : pu_D w D1 D2 := h.1
theorem pu_A.p {w : Int} {Z : MiZ} {D1 D2 : MiD} (h : pu_A w Z D1 D2) : pu_P w Z D1 D2 := h.2.1
theorem pu_A.t {w : Int} {Z : MiZ} {D1 D2 : MiD} (h : pu_A w Z D1 D2) : ∀ t : Int, 0 ≤ t → t < 6 → pu_Tk w D1 D2 t := h.2.2.1
theorem pu_A.w {w : Int} {Z : MiZ} {D1 D2 : MiD} (h : pu_A w Z D1 D2) : pu_Wd w D1 D2 := h.2.2.2
def pu_a1 (w t : Int) (D E : MiD) : Prop := ∀ (q : Nat) (j i : Int), ¬ ((q = 4 ∨ q = 19 ∨ q = 20 ∨ q = 21 ∨ q = 22) ∧ j = 6 * w + t) → ¬ (q = 5 ∧ j = 6 * w + t + 1 + (6 * w + t) / 6) → ¬ ((q = 3 ∨ q = 17 ∨ q = 18) ∧ 60 * w ≤ j ∧ j < 60 * w + 60) → ¬ (q = 2 ∧ j = w ∧ i = 12) → E q j i = D q j i
def pu_a2 (t : Int) (D E : MiD) : Prop := ∀ (q : Nat) (j i : Int), ¬ (q = 59 ∧ j = t) → ¬ (q = 60 ∧ j = 0 ∧ i = t) → ¬ (q = 63 ∧ 10 * t ≤ j ∧ j < 10 * t + 10) → ¬ (q = 52 ∨ q = 53 ∨ q = 55 ∨ q = 57) → ¬ (q = 40 ∧ j = 0 ∧ (i = 25 ∨ i = 26)) → ¬ (q = 65 ∧ j = 0 ∧ i = 6) → E q j i = D q j i
theorem pu_a1.cd {w t : Int} {D1 D2 E1 E2 : MiD} (h : pu_a1 w t D1 E1) (k : pu_a2 t D2 E2) : pu_cdS D1 D2 E1 E2 :=
  ⟨fun q j i z => h q j i (by omega) (by omega) (by omega) (by omega), fun q j i z => k q j i (by omega) (by omega) (by omega) (by omega) (by omega) (by omega), k 40 0 11 (by omega) (by omega) (by omega) (by omega) (by omega) (by omega)⟩
theorem pu_Tk.kept {w t s : Int} {D1 D2 E1 E2 : MiD} (hw : 0 ≤ w ∧ w < 2) (ht : 0 ≤ t ∧ t < 6) (hs : 0 ≤ s ∧ s < 6) (hne : s ≠ t) (h : pu_Tk w D1 D2 s) (f1 : pu_a1 w t D1 E1) (f2 : pu_a2 t D2 E2) : pu_Tk w E1 E2 s := by
  have g1 : ∀ (q : Nat) (i : Int), (q = 4 ∨ q = 19 ∨ q = 20 ∨ q = 21 ∨ q = 22) → E1 q (6 * w + s) i = D1 q (6 * w + s) i := fun q i z => f1 q _ i (by omega) (by omega) (by omega) (by omega)
  have g2 : ∀ i : Int, E1 5 (6 * w + s + 1 + (6 * w + s) / 6) i = D1 5 (6 * w + s + 1 + (6 * w + s) / 6) i := fun i => f1 5 _ i (by omega) (by omega) (by omega) (by omega)
  have g3 : ∀ i : Int, E2 59 s i = D2 59 s i := fun i => f2 59 s i (by omega) (by omega) (by omega) (by omega) (by omega) (by omega)
  have g4 : E2 60 0 s = D2 60 0 s := f2 60 0 s (by omega) (by omega) (by omega) (by omega) (by omega) (by omega)
  have g5 : ∀ e i : Int, 0 ≤ e → e < 10 → E2 63 (10 * s + e) i = D2 63 (10 * s + e) i := fun e i a b => f2 63 _ i (by omega) (by omega) (by omega) (by omega) (by omega) (by omega)
  have g6 : E2 40 0 11 = D2 40 0 11 := f2 40 0 11 (by omega) (by omega) (by omega) (by omega) (by omega) (by omega)
  have g7 : ∀ p : Int, E2 47 0 p = D2 47 0 p := fun p => f2 47 0 p (by omega) (by omega) (by omega) (by omega) (by omega) (by omega)
  have k := h
  obtain ⟨a1, a2, a3, a4, a5, a6, a7, a8, a9, a10, a11, a12, a13, a14, a15⟩ := k
  refine ⟨?_, ?_, ?_, ?_, ?_, ?_, ?_, ?_, ?_, ?_, ?_, ?_, ?_, fun e x y => ?_, fun z => ?_⟩
  all_goals try (simp only [g1 4 _ (Or.inl rfl), g3]; assumption)
  · unfold pu_v at a13 ⊢
    rw [g2, g2, g3, g4]
    exact a13
  · rw [g3] at y
    have b := a14 e x y
    have y' : e < 10 := by omega
    refine ⟨?_, ?_, ?_, ?_, ?_, ?_, fun z => ?_, ?_, ?_, ?_, ?_⟩
    · rw [g1 19 _ (by decide), g5 e _ x y']; exact b.f
    · rw [g5 e _ x y']; exact b.f0
    · rw [g5 e _ x y']; exact b.f1
    · rw [g1 20 _ (by decide), g5 e _ x y']; exact b.p
    · rw [g5 e _ x y']; exact b.p0
    · rw [g5 e _ x y', g6]; exact b.p1
    · rw [g5 e _ x y'] at z
      rw [g5 e _ x y', g5 e _ x y', g7]; exact b.h z
    · rw [g1 21 _ (by decide), g5 e _ x y']; exact b.a
    · rw [g5 e _ x y']; exact b.a0
    · rw [g5 e _ x y']; exact b.a1
    · rw [g1 22 _ (by decide), g5 e _ x y']; exact b.b
  · rw [g3] at z
    obtain ⟨z1, z2, z3⟩ := a15 z
    rw [g3, g3, g5 _ _ (by omega) (by omega)]
    exact ⟨z1, z2, z3⟩
theorem pu_A.act {w t : Int} {Z : MiZ} {D1 D2 E1 E2 : MiD} (hw : 0 ≤ w ∧ w < 2) (ht : 0 ≤ t ∧ t < 6) (h : pu_A w Z D1 D2) (f1 : pu_a1 w t D1 E1) (f2 : pu_a2 t D2 E2) (hD : pu_D w E1 E2) (hT : pu_Tk w E1 E2 t)
    (e1 : E1 4 (6 * w + t) 8 = D1 4 (6 * w + t) 8) (e2 : E2 59 t 4 = D2 59 t 4) (e3 : E2 59 t 5 = D2 59 t 5) (e4 : E1 2 w 12 = E2 65 0 6) : pu_A w Z E1 E2 := by
  refine ⟨hD, h.p.kept (f1.cd f2), fun s a b => ?_, ?_⟩
  · by_cases c : s = t
    · subst c; exact hT
    · exact (h.t s a b).kept hw ht ⟨a, b⟩ c f1 f2
  · have k := h.w
    have g1 : ∀ i : Int, i ≠ 12 → E1 2 w i = D1 2 w i := fun i z => f1 2 w i (by omega) (by omega) (by omega) (by omega)
    have g2 : ∀ i : Int, i ≠ 6 → E2 65 0 i = D2 65 0 i := fun i z => f2 65 0 i (by omega) (by omega) (by omega) (by omega) (by omega) (by omega)
    have g3 : ∀ s : Int, E2 64 0 s = D2 64 0 s := fun s => f2 64 0 s (by omega) (by omega) (by omega) (by omega) (by omega) (by omega)
    have g4 : ∀ s : Int, E1 15 w s = D1 15 w s := fun s => f1 15 w s (by omega) (by omega) (by omega) (by omega)
    have g5 : ∀ s : Int, E1 16 w s = D1 16 w s := fun s => f1 16 w s (by omega) (by omega) (by omega) (by omega)
    have g6 : ∀ s : Int, E2 49 0 s = D2 49 0 s := fun s => f2 49 0 s (by omega) (by omega) (by omega) (by omega) (by omega) (by omega)
    have g7 : E2 40 0 11 = D2 40 0 11 := f2 40 0 11 (by omega) (by omega) (by omega) (by omega) (by omega) (by omega)
    have g8 : ∀ s : Int, 0 ≤ s → s < 6 → E1 4 (6 * w + s) 8 = D1 4 (6 * w + s) 8 := fun s a b => by
      by_cases c : s = t
      · subst c; exact e1
      · exact f1 4 _ 8 (by omega) (by omega) (by omega) (by omega)
    have g9 : ∀ s i : Int, i = 4 ∨ i = 5 → E2 59 s i = D2 59 s i := fun s i z => by
      by_cases c : s = t
      · subst c
        rcases z with rfl | rfl
        · exact e2
        · exact e3
      · exact f2 59 s i (by omega) (by omega) (by omega) (by omega) (by omega) (by omega)
    obtain ⟨b1, b2, b3, b4, b5, b6, b7, b8, b9, b10, b11, b12, b13, b14, b15, b16, b17, b18, b19, b20⟩ := k
    refine ⟨?_, ?_, ?_, ?_, ?_, ?_, ?_, ?_, ?_, fun s x y => ?_, fun s x y => ?_, ?_, ?_, e4, ?_, ?_, fun s x y => ?_, fun s s' x y z => ?_, ?_, fun p x y => ?_⟩
    all_goals try (simp only [g1 7 (by decide), g1 8 (by decide), g1 9 (by decide), g1 10 (by decide), g1 11 (by decide), g1 13 (by decide), g2 0 (by decide), g2 1 (by decide), g2 2 (by decide), g2 3 (by decide), g2 4 (by decide), g2 7 (by decide), g3, g7]; assumption)
    · rw [g2 1 (by decide), g8 s x y, g9 s 4 (Or.inl rfl)]; exact b10 s x y
    · rw [g2 1 (by decide), g9 s 4 (Or.inl rfl)]; exact b11 s x y
    · rw [g2 5 (by decide)]; simp only [g9 _ 5 (Or.inr rfl)]; exact b16
    · rw [g2 0 (by decide)] at y; rw [g3, g4, g7]; exact b17 s x y
    · rw [g2 0 (by decide)] at z; rw [g3, g3]; exact b18 s s' x y z
    · rw [g5, g6]; exact b20 p x y
theorem pu_has_any {D E : MiD} {Z : MiZ} {w p f : Int} : B_X9_has D Z w p f = B_X9_has E Z w p f := rfl
theorem pu_callee_l {w t f : Int} {Z : MiZ} {D1 D2 E1 E2 : MiD} (hw : 0 ≤ w ∧ w < 2) (ht : 0 ≤ t ∧ t < 6) (hf : 0 ≤ f ∧ f < 12) (h : pu_A w Z D1 D2)
    (k2 : E1 2 w 8 = D1 2 w 8) (k3 : ∀ s : Int, E1 15 w s = D1 15 w s) (k4 : E1 4 (6 * w + t) 8 = D1 4 (6 * w + t) 8)
    (l2 : E2 65 0 1 = D2 65 0 1) (l3 : ∀ s : Int, E2 64 0 s = D2 64 0 s) (l4 : E2 59 t 4 = D2 59 t 4) (l5 : ∀ p : Int, E2 47 0 p = D2 47 0 p) : ∀ (u : Nat) (s : Int), -1 ≤ s → s < D2 65 0 0 → s + 1 < u →
    ∃ p : Int, B_X9_callee_7 E1 Z u w t f s = some p ∧ B_X11_callsBy_9 E2 u t f s = some p ∧ -1 ≤ p ∧ p < D2 40 0 11 ∧ (0 ≤ p → B_X11_isBit (D2 47 0 p) f ≠ 0)
  | 0, s, h1, h2, h3 => by omega
  | u + 1, s, h1, h2, h3 => by
    have W := h.w
    have n0 := h.p.n0
    have n8 := h.p.n8
    unfold B_X9_callee_7 B_X11_callsBy_9
    by_cases c : s < 0
    · rw [if_pos c, if_pos c]
      exact ⟨-1, rfl, rfl, by omega, by omega, fun z => by omega⟩
    rw [if_neg c, if_neg c]
    have st8 := W.st8
    obtain ⟨s1, s2, s3⟩ := W.sk s (by omega) h2
    obtain ⟨p, i1, i2, i3⟩ := pu_callee_l hw ht hf h k2 k3 k4 l2 l3 l4 l5 u (s - 1) (by omega) (by omega) (by omega)
    have hm : mi_w (s + -1) = s - 1 := pu_w (by omega) (by omega)
    unfold B_X9_callee_40 B_X9_callee_41 B_X11_isLeft
    rw [hm, i1, i2]
    simp only [k2, k3, k4, l2, l3, l4, l5, s1, show 0 ≤ s ∧ s < 8 by omega, show 0 ≤ D2 64 0 s ∧ D2 64 0 s < 9 by omega, and_self, if_true, ht, show 0 ≤ t ∧ t < 7 by omega, W.tn, show ¬ ((1 : Int) = 0) by decide, ne_eq, not_true_eq_false, not_false_eq_true, if_false]
    rw [pu_has_any (E := D1)]
    have key : ∀ lo : Bool, ((lo = true) ↔ (D2 64 0 s = D2 65 0 1 ∧ D2 59 t 4 = 0)) → ∃ p', (if lo = true then some p else mi_bi (B_X9_has D1 Z w (D2 64 0 s) f) fun y3 => if y3 = 0 then some p else some (D2 64 0 s)) = some p' ∧ (if B_X11_isBit (D2 47 0 (D2 64 0 s)) f = 0 then some p else if lo = true then some p else some (D2 64 0 s)) = some p' ∧ -1 ≤ p' ∧ p' < D2 40 0 11 ∧ (0 ≤ p' → B_X11_isBit (D2 47 0 p') f ≠ 0) := by
      intro lo hlo
      rcases pu_hasE h.p (p := D2 64 0 s) (f := f) ⟨by omega, s3⟩ hf with ⟨q1, q2⟩ | ⟨q1, q2⟩
      · rw [q2]
        cases lo
        · simp only [mi_bi, q1.2, show ¬ ((1 : Int) = 0) by decide, if_false, Bool.false_eq_true]
          exact ⟨_, rfl, rfl, by omega, s3, fun _ => q1.2⟩
        · simp only [mi_bi, q1.2, if_true, if_false]
          exact ⟨_, rfl, rfl, i3⟩
      · have q3 : B_X11_isBit (D2 47 0 (D2 64 0 s)) f = 0 := by
          by_cases z : B_X11_isBit (D2 47 0 (D2 64 0 s)) f = 0
          · exact z
          · exact absurd ⟨s2, z⟩ q1
        rw [q2]
        cases lo
        · simp only [mi_bi, q3, if_true, if_false, Bool.false_eq_true]
          exact ⟨_, rfl, rfl, i3⟩
        · simp only [mi_bi, q3, if_true]
          exact ⟨_, rfl, rfl, i3⟩
    by_cases c1 : D2 64 0 s = D2 65 0 1
    · have htu := W.tu t ht.1 ht.2 (by omega)
      rw [htu]
      by_cases c2 : D2 59 t 4 = 0
      · obtain ⟨p', a1, a2, a3⟩ := key true (by simp [c1, c2])
        refine ⟨p', ?_, ?_, a3⟩
        · simpa [c1, c2] using a1
        · simpa [c1, c2, mi_bi] using a2
      · obtain ⟨p', a1, a2, a3⟩ := key false (by simp [c1, c2])
        refine ⟨p', ?_, ?_, a3⟩
        · simpa [c1, c2] using a1
        · simpa [c1, c2, mi_bi] using a2
    · have c1' : ¬ D2 65 0 1 = D2 64 0 s := fun z => c1 z.symm
      obtain ⟨p', a1, a2, a3⟩ := key false (by simp [c1])
      refine ⟨p', ?_, ?_, a3⟩
      · simpa [c1] using a1
      · simpa [c1', mi_bi] using a2
theorem pu_callee {w t f : Int} {Z : MiZ} {D1 D2 E1 E2 : MiD} (hw : 0 ≤ w ∧ w < 2) (ht : 0 ≤ t ∧ t < 6) (hf : 0 ≤ f ∧ f < 12) (h : pu_A w Z D1 D2)
    (k1 : E1 2 w 7 = D1 2 w 7) (k2 : E1 2 w 8 = D1 2 w 8) (k3 : ∀ s : Int, E1 15 w s = D1 15 w s) (k4 : E1 4 (6 * w + t) 8 = D1 4 (6 * w + t) 8)
    (l1 : E2 65 0 0 = D2 65 0 0) (l2 : E2 65 0 1 = D2 65 0 1) (l3 : ∀ s : Int, E2 64 0 s = D2 64 0 s) (l4 : E2 59 t 4 = D2 59 t 4) (l5 : ∀ p : Int, E2 47 0 p = D2 47 0 p) :
    ∃ p : Int, B_X9_callee E1 Z w t f = some p ∧ B_X11_callsBy E2 t f = some p ∧ -1 ≤ p ∧ p < D2 40 0 11 ∧ (0 ≤ p → B_X11_isBit (D2 47 0 p) f ≠ 0) := by
  have W := h.w
  have h0 := W.st0
  have h8 := W.st8
  unfold B_X9_callee B_X11_callsBy
  simp only [mi_let]
  rw [k1, l1, W.st, pu_w (by omega) (by omega)]
  exact pu_callee_l hw ht hf h k2 k3 k4 l2 l3 l4 l5 mi_fuel (D2 65 0 0 - 1) (by omega) (by omega) (by have := pu_fuelE; omega)
