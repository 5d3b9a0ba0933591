/-! ===== the law's memory: its own array, the class's world, the reference's ===== -/
def mi_s1 (r : Nat) : Bool := decide (1 ≤ r ∧ r ≤ 24)
def mi_s2 (r : Nat) : Bool := decide (40 ≤ r ∧ r ≤ 67)
theorem mi_rk_out {r : Nat} (h : 68 ≤ r) : mi_rk r = 9 := by
  unfold mi_rk
  rw [List.getD_eq_getElem?_getD, List.getElem?_eq_none (by exact h)]
  rfl
theorem mi_rt_out {r k : Nat} (hr : r < 68) (h : 30 ≤ k) : mi_rt r k = 0 := by
  unfold mi_rt
  have hl : ∀ q : Fin 68, (mi_rtL.getD q []).length ≤ 30 := by decide +kernel
  rw [List.getD_eq_getElem?_getD, List.getElem?_eq_none (Nat.le_trans (hl ⟨r, hr⟩) h)]
  rfl
theorem mi_side_of {S : Nat → Bool} (h0 : S 0 = false) (h1 : ∀ (r : Fin 68) (k : Fin 30), mi_rk r < 9 → 2 ≤ mi_rt r k → mi_rk (mi_rt r k - 2) < 9 → S (mi_rt r k - 2) = S r) (h2 : ∀ r : Fin 68, 9 ≤ mi_rk r → S r = false) (h3 : ∀ r, 68 ≤ r → S r = false) : MiSide S := by
  refine ⟨h0, fun r k ρ k1 k2 k3 => ?_, fun r hr => ?_⟩
  · have hr : r < 68 := by
      by_cases h : r < 68
      · exact h
      · rw [mi_rk_out (by omega)] at k1; omega
    have hk : k < 30 := by
      by_cases h : k < 30
      · exact h
      · rw [mi_rt_out hr (by omega)] at k2; omega
    have h := h1 ⟨r, hr⟩ ⟨k, hk⟩ k1 (by show 2 ≤ mi_rt r k; omega) (by show mi_rk (mi_rt r k - 2) < 9; rw [show mi_rt r k - 2 = ρ by omega]; exact k3)
    have e : mi_rt r k - 2 = ρ := by omega
    rw [← e]
    exact h
  · by_cases h : r < 68
    · exact h2 ⟨r, h⟩ hr
    · exact h3 r (by omega)
theorem mi_s1_side : MiSide mi_s1 := mi_side_of (by decide) (by decide +kernel) (by decide +kernel) (fun r h => decide_eq_false (by omega))
theorem mi_s2_side : MiSide mi_s2 := mi_side_of (by decide) (by decide +kernel) (by decide +kernel) (fun r h => decide_eq_false (by omega))
/-- nothing but this side (and the constants) is there -/
def mi_cw (S : Nat → Bool) (Z : MiZ) : Prop := (∀ r, S r = false → mi_rk r < 9 → Z.2 r ≤ 0) ∧ ∀ r, 9 ≤ mi_rk r → Z.2 r = mi_sn r
def mi_cb (M0 M1 M2 : MiM) : MiM := (fun r x i => if r = 0 then M0.1 r x i + M1.1 r x i + M2.1 r x i else if mi_s1 r = true then M1.1 r x i else if mi_s2 r = true then M2.1 r x i else M0.1 r x i, fun r x i => if mi_s1 r = true then M1.2.1 r x i else if mi_s2 r = true then M2.2.1 r x i else M0.2.1 r x i, fun r => if mi_s1 r = true then M1.2.2 r else if mi_s2 r = true then M2.2.2 r else M0.2.2 r)
theorem mi_s12 {r : Nat} (h : mi_s2 r = true) : mi_s1 r = false := by
  have := of_decide_eq_true h
  exact decide_eq_false (by omega)
section MiCb
variable {M0 M1 M2 M1' M2' : MiM}
theorem mi_cb_c1 {r : Nat} (h : mi_s1 r = true) : (mi_cb M0 M1 M2).2.2 r = M1.2.2 r := if_pos h
theorem mi_cb_c2 {r : Nat} (h : mi_s2 r = true) : (mi_cb M0 M1 M2).2.2 r = M2.2.2 r := (if_neg (by rw [mi_s12 h]; exact Bool.false_ne_true)).trans (if_pos h)
theorem mi_cb_00 {x i : Int} : (mi_cb M0 M1 M2).1 0 x i = M0.1 0 x i + M1.1 0 x i + M2.1 0 x i := rfl
theorem mi_s1_0 {r : Nat} (h : mi_s1 r = true) : r ≠ 0 := by rintro rfl; cases h
theorem mi_s2_0 {r : Nat} (h : mi_s2 r = true) : r ≠ 0 := by rintro rfl; cases h
theorem mi_cb_p1 (h : mi_cw mi_s1 M1.2) : MiPart mi_s1 (mi_cb M0 M1 M2) M1 := by
  refine ⟨fun r hr => ⟨?_, ?_, ?_⟩, h.1, h.2⟩
  · funext x i
    show _ = if r = 0 then _ else if mi_s1 r = true then _ else _
    rw [if_neg (mi_s1_0 hr), if_pos hr]
  · funext x i
    show _ = if mi_s1 r = true then _ else _
    rw [if_pos hr]
  · show _ = if mi_s1 r = true then _ else _
    rw [if_pos hr]
theorem mi_cb_p2 (h : mi_cw mi_s2 M2.2) : MiPart mi_s2 (mi_cb M0 M1 M2) M2 := by
  refine ⟨fun r hr => ?_, h.1, h.2⟩
  have hn : ¬ mi_s1 r = true := by rw [mi_s12 hr]; exact Bool.false_ne_true
  refine ⟨?_, ?_, ?_⟩
  · funext x i
    show _ = if r = 0 then _ else if mi_s1 r = true then _ else if mi_s2 r = true then _ else _
    rw [if_neg (mi_s2_0 hr), if_neg hn, if_pos hr]
  · funext x i
    show _ = if mi_s1 r = true then _ else if mi_s2 r = true then _ else _
    rw [if_neg hn, if_pos hr]
  · show _ = if mi_s1 r = true then _ else if mi_s2 r = true then _ else _
    rw [if_neg hn, if_pos hr]
theorem mi_cb_u1 : mi_up mi_s1 (mi_cb M0 M1 M2) M1 M1' = mi_cb M0 M1' M2 := by
  refine Prod.ext ?_ (Prod.ext ?_ ?_)
  · funext r x i
    show (if r = 0 then (if r = 0 then _ else _) + _ else if mi_s1 r = true then _ else (if r = 0 then _ else _)) = if r = 0 then _ else _
    by_cases h : r = 0
    · simp only [if_pos h]; omega
    · simp only [if_neg h]
      by_cases h1 : mi_s1 r = true
      · simp only [if_pos h1]
      · simp only [if_neg h1]
  · funext r x i
    show (if mi_s1 r = true then _ else (if mi_s1 r = true then _ else _)) = if mi_s1 r = true then _ else _
    by_cases h1 : mi_s1 r = true
    · simp only [if_pos h1]
    · simp only [if_neg h1]
  · funext r
    show (if mi_s1 r = true then _ else (if mi_s1 r = true then _ else _)) = if mi_s1 r = true then _ else _
    by_cases h1 : mi_s1 r = true
    · simp only [if_pos h1]
    · simp only [if_neg h1]
theorem mi_cb_u2 : mi_up mi_s2 (mi_cb M0 M1 M2) M2 M2' = mi_cb M0 M1 M2' := by
  have hd : ∀ r, mi_s2 r = true → ¬ mi_s1 r = true := fun r hr => by rw [mi_s12 hr]; exact Bool.false_ne_true
  refine Prod.ext ?_ (Prod.ext ?_ ?_)
  · funext r x i
    show (if r = 0 then (if r = 0 then _ else _) + _ else if mi_s2 r = true then _ else (if r = 0 then _ else _)) = if r = 0 then _ else _
    by_cases h : r = 0
    · simp only [if_pos h]; omega
    · simp only [if_neg h]
      by_cases h2 : mi_s2 r = true
      · simp only [if_pos h2, if_neg (hd r h2)]
      · simp only [if_neg h2]
  · funext r x i
    show (if mi_s2 r = true then _ else (if mi_s1 r = true then _ else if mi_s2 r = true then _ else _)) = if mi_s1 r = true then _ else if mi_s2 r = true then _ else _
    by_cases h2 : mi_s2 r = true
    · simp only [if_pos h2, if_neg (hd r h2)]
    · simp only [if_neg h2]
  · funext r
    show (if mi_s2 r = true then _ else (if mi_s1 r = true then _ else if mi_s2 r = true then _ else _)) = if mi_s1 r = true then _ else if mi_s2 r = true then _ else _
    by_cases h2 : mi_s2 r = true
    · simp only [if_pos h2, if_neg (hd r h2)]
    · simp only [if_neg h2]
/-- arguments of a side (or constants) -/
def mi_ta (S : Nat → Bool) (args : List MiV) : Bool := (args.map Prod.fst).all (fun t => decide (t < 2) || S (t - 2) || decide (9 ≤ mi_rk (t - 2)))
theorem mi_ta_of {S : Nat → Bool} {args : List MiV} (h : mi_ta S args = true) : ∀ v ∈ args, ∀ ρ : Nat, v.1 = ρ + 2 → S ρ = true ∨ 9 ≤ mi_rk ρ := by
  intro v hv ρ hρ
  have h1 := List.all_eq_true.mp h v.1 (List.mem_map_of_mem hv)
  rw [hρ] at h1
  simp only [Nat.add_sub_cancel, Bool.or_eq_true, decide_eq_true_eq] at h1
  rcases h1 with (h1 | h1) | h1
  · omega
  · exact Or.inl h1
  · exact Or.inr h1
theorem MC.l1 {μ : MiI} {args : List MiV} {r1 : MiO} (h : MC μ args M1 r1) (hc : mi_cw mi_s1 M1.2) (hc' : mi_cw mi_s1 r1.2.2) (ha : mi_ta mi_s1 args = true) (hr : r1.1.1 = 1 → r1.1.2.1 < 2) : MC μ args (mi_cb M0 M1 M2) (r1.1, mi_cb M0 r1.2 M2) := by
  have h2 := h.frame mi_s1 mi_s1_side (M := mi_cb M0 M1 M2) (mi_cb_p1 hc) hc'.1 (mi_ta_of ha) (fun h ρ hρ => by have := hr h; omega)
  rw [mi_cb_u1] at h2
  exact h2
theorem MC.l2 {μ : MiI} {args : List MiV} {r1 : MiO} (h : MC μ args M2 r1) (hc : mi_cw mi_s2 M2.2) (hc' : mi_cw mi_s2 r1.2.2) (ha : mi_ta mi_s2 args = true) (hr : r1.1.1 = 1 → r1.1.2.1 < 2) : MC μ args (mi_cb M0 M1 M2) (r1.1, mi_cb M0 M1 r1.2) := by
  have h2 := h.frame mi_s2 mi_s2_side (M := mi_cb M0 M1 M2) (mi_cb_p2 hc) hc'.1 (mi_ta_of ha) (fun h ρ hρ => by have := hr h; omega)
  rw [mi_cb_u2] at h2
  exact h2
/-- the law's own array -/
theorem mi_cb_o {v : Int} : mi_pD (mi_cb M0 M1 M2) 25 0 0 v = mi_cb (mi_pD M0 25 0 0 v) M1 M2 := by
  refine Prod.ext ?_ rfl
  funext r x i
  show mi_st _ 25 0 0 v r x i = if r = 0 then (mi_st M0.1 25 0 0 v r x i) + _ + _ else if mi_s1 r = true then _ else if mi_s2 r = true then _ else mi_st M0.1 25 0 0 v r x i
  by_cases h : r = 25
  · subst h
    have a1 : ¬ mi_s1 25 = true := by decide
    have a2 : ¬ mi_s2 25 = true := by decide
    simp only [if_neg a1, if_neg a2]
    rw [if_neg (by decide)]
    unfold mi_st
    split
    · rfl
    · rfl
  · rw [mi_st_r h, mi_st_r h]
    rfl
theorem mi_cb_ro {x i : Int} : (mi_cb M0 M1 M2).1 25 x i = M0.1 25 x i := rfl
theorem mi_cb_n1 {r n : Nat} (h : mi_s1 r = true) : mi_nw (mi_cb M0 M1 M2) r n = mi_cb M0 (mi_nw M1 r n) M2 := by
  have h0 := mi_s1_0 h
  refine Prod.ext ?_ (Prod.ext ?_ ?_)
  · funext q x i
    show mi_st (mi_st _ 0 0 0 _) 0 0 1 _ q x i = if q = 0 then _ + mi_st (mi_st _ 0 0 0 _) 0 0 1 _ q x i + _ else if mi_s1 q = true then mi_st (mi_st _ 0 0 0 _) 0 0 1 _ q x i else _
    by_cases hq : q = 0
    · subst hq
      rw [if_pos rfl]
      unfold mi_st
      have hr : ¬ (0 = r ∧ x = (mi_cb M0 M1 M2).2.2 r) := fun z => h0 z.1.symm
      have hr2 : ¬ (0 = r ∧ x = M1.2.2 r) := fun z => h0 z.1.symm
      simp only [if_neg hr, if_neg hr2]
      simp only [mi_cb_00]
      by_cases z1 : True ∧ x = 0 ∧ i = 1
      · obtain ⟨-, rfl, rfl⟩ := z1
        simp; omega
      · by_cases z2 : True ∧ x = 0 ∧ i = 0
        · obtain ⟨-, rfl, rfl⟩ := z2
          simp; omega
        · simp only [if_neg z1, if_neg z2]
    · rw [if_neg hq, mi_st_r hq, mi_st_r hq, mi_st_r hq, mi_st_r hq]
      show (if _ ∧ _ then _ else (if q = 0 then _ else _)) = _
      rw [mi_cb_c1 h, if_neg hq]
      by_cases q1 : mi_s1 q = true
      · simp only [if_pos q1]
      · have : ¬ (q = r ∧ x = M1.2.2 r) := fun z => q1 (by rw [z.1]; exact h)
        simp only [if_neg this, if_neg q1]
  · funext q x i
    show (if q = r ∧ x = (mi_cb M0 M1 M2).2.2 r then _ else (if mi_s1 q = true then _ else _)) = if mi_s1 q = true then (if q = r ∧ x = M1.2.2 r then _ else _) else _
    rw [mi_cb_c1 h]
    by_cases q1 : mi_s1 q = true
    · simp only [if_pos q1]
    · have : ¬ (q = r ∧ x = M1.2.2 r) := fun z => q1 (by rw [z.1]; exact h)
      simp only [if_neg this, if_neg q1]
  · funext q
    show (if q = r then (mi_cb M0 M1 M2).2.2 r + 1 else (if mi_s1 q = true then _ else _)) = if mi_s1 q = true then (if q = r then M1.2.2 r + 1 else _) else _
    rw [mi_cb_c1 h]
    by_cases q1 : mi_s1 q = true
    · simp only [if_pos q1]
    · have : ¬ q = r := fun z => q1 (by rw [z]; exact h)
      simp only [if_neg this, if_neg q1]
theorem mi_cb_n2 {r n : Nat} (h : mi_s2 r = true) : mi_nw (mi_cb M0 M1 M2) r n = mi_cb M0 M1 (mi_nw M2 r n) := by
  have h0 := mi_s2_0 h
  have hd : ∀ r, mi_s2 r = true → ¬ mi_s1 r = true := fun r hr => by rw [mi_s12 hr]; exact Bool.false_ne_true
  refine Prod.ext ?_ (Prod.ext ?_ ?_)
  · funext q x i
    show mi_st (mi_st _ 0 0 0 _) 0 0 1 _ q x i = if q = 0 then _ + _ + mi_st (mi_st _ 0 0 0 _) 0 0 1 _ q x i else if mi_s1 q = true then _ else if mi_s2 q = true then mi_st (mi_st _ 0 0 0 _) 0 0 1 _ q x i else _
    by_cases hq : q = 0
    · subst hq
      rw [if_pos rfl]
      unfold mi_st
      have hr : ¬ (0 = r ∧ x = (mi_cb M0 M1 M2).2.2 r) := fun z => h0 z.1.symm
      have hr2 : ¬ (0 = r ∧ x = M2.2.2 r) := fun z => h0 z.1.symm
      simp only [if_neg hr, if_neg hr2]
      simp only [mi_cb_00]
      by_cases z1 : True ∧ x = 0 ∧ i = 1
      · obtain ⟨-, rfl, rfl⟩ := z1
        simp; omega
      · by_cases z2 : True ∧ x = 0 ∧ i = 0
        · obtain ⟨-, rfl, rfl⟩ := z2
          simp; omega
        · simp only [if_neg z1, if_neg z2]
    · rw [if_neg hq, mi_st_r hq, mi_st_r hq, mi_st_r hq, mi_st_r hq]
      show (if _ ∧ _ then _ else (if q = 0 then _ else _)) = _
      rw [mi_cb_c2 h, if_neg hq]
      by_cases q1 : mi_s2 q = true
      · simp only [if_pos q1, if_neg (hd q q1)]
      · have : ¬ (q = r ∧ x = M2.2.2 r) := fun z => q1 (by rw [z.1]; exact h)
        simp only [if_neg this, if_neg q1]
  · funext q x i
    show (if q = r ∧ x = (mi_cb M0 M1 M2).2.2 r then _ else (if mi_s1 q = true then _ else if mi_s2 q = true then _ else _)) = if mi_s1 q = true then _ else if mi_s2 q = true then (if q = r ∧ x = M2.2.2 r then _ else _) else _
    rw [mi_cb_c2 h]
    by_cases q1 : mi_s2 q = true
    · simp only [if_pos q1, if_neg (hd q q1)]
    · have : ¬ (q = r ∧ x = M2.2.2 r) := fun z => q1 (by rw [z.1]; exact h)
      simp only [if_neg this, if_neg q1]
  · funext q
    show (if q = r then (mi_cb M0 M1 M2).2.2 r + 1 else (if mi_s1 q = true then _ else if mi_s2 q = true then _ else _)) = if mi_s1 q = true then _ else if mi_s2 q = true then (if q = r then M2.2.2 r + 1 else _) else _
    rw [mi_cb_c2 h]
    by_cases q1 : mi_s2 q = true
    · simp only [if_pos q1, if_neg (hd q q1)]
    · have : ¬ q = r := fun z => q1 (by rw [z]; exact h)
      simp only [if_neg this, if_neg q1]
theorem mi_cb_n0 {n : Nat} : mi_nw (mi_cb M0 M1 M2) 25 n = mi_cb (mi_nw M0 25 n) M1 M2 := by
  have a1 : ¬ mi_s1 25 = true := by decide
  have a2 : ¬ mi_s2 25 = true := by decide
  have hc : (mi_cb M0 M1 M2).2.2 25 = M0.2.2 25 := rfl
  refine Prod.ext ?_ (Prod.ext ?_ ?_)
  · funext q x i
    show mi_st (mi_st _ 0 0 0 _) 0 0 1 _ q x i = if q = 0 then mi_st (mi_st _ 0 0 0 _) 0 0 1 _ q x i + _ + _ else if mi_s1 q = true then _ else if mi_s2 q = true then _ else mi_st (mi_st _ 0 0 0 _) 0 0 1 _ q x i
    by_cases hq : q = 0
    · subst hq
      rw [if_pos rfl]
      unfold mi_st
      have hr : ¬ (0 = 25 ∧ x = (mi_cb M0 M1 M2).2.2 25) := fun z => absurd z.1 (by decide)
      have hr2 : ¬ (0 = 25 ∧ x = M0.2.2 25) := fun z => absurd z.1 (by decide)
      simp only [if_neg hr, if_neg hr2]
      simp only [mi_cb_00]
      by_cases z1 : True ∧ x = 0 ∧ i = 1
      · obtain ⟨-, rfl, rfl⟩ := z1
        simp; omega
      · by_cases z2 : True ∧ x = 0 ∧ i = 0
        · obtain ⟨-, rfl, rfl⟩ := z2
          simp; omega
        · simp only [if_neg z1, if_neg z2]
    · rw [if_neg hq, mi_st_r hq, mi_st_r hq, mi_st_r hq, mi_st_r hq]
      show (if _ ∧ _ then _ else (if q = 0 then _ else _)) = _
      rw [hc, if_neg hq]
      by_cases q1 : q = 25
      · subst q1
        simp only [if_neg a1, if_neg a2]
      · have : ¬ (q = 25 ∧ x = M0.2.2 25) := fun z => q1 z.1
        simp only [if_neg this]
  · funext q x i
    show (if q = 25 ∧ x = (mi_cb M0 M1 M2).2.2 25 then _ else (if mi_s1 q = true then _ else if mi_s2 q = true then _ else _)) = if mi_s1 q = true then _ else if mi_s2 q = true then _ else (if q = 25 ∧ x = M0.2.2 25 then _ else _)
    rw [hc]
    by_cases q1 : q = 25
    · subst q1
      simp only [if_neg a1, if_neg a2]
    · have : ¬ (q = 25 ∧ x = M0.2.2 25) := fun z => q1 z.1
      simp only [if_neg this]
  · funext q
    show (if q = 25 then (mi_cb M0 M1 M2).2.2 25 + 1 else (if mi_s1 q = true then _ else if mi_s2 q = true then _ else _)) = if mi_s1 q = true then _ else if mi_s2 q = true then _ else (if q = 25 then M0.2.2 25 + 1 else _)
    rw [hc]
    by_cases q1 : q = 25
    · subst q1
      simp only [if_neg a1, if_neg a2]
    · simp only [if_neg q1]
end MiCb
/-! ===== the script; calls of the law's own methods ===== -/
def mi_lP (L : Nat) (xs : Nat → Int32) : MiP := fun gl s _ A _ => va_T .int (gl.2.2 33 0) L (fun j => .int (xs j)) A s s.heap
section MiScr
variable {μ μ' : MiI} {pc : Nat} {ls st args : List MiV} {M : MiM} {L : Nat} {xs : Nat → Int32}
theorem mi_scr {i : Int} (hdg : decode μ.2.1 pc = .ok (.iaload, 1)) (hi : 0 ≤ i ∧ i < L) : MiStepP (mi_lP L xs) μ pc ls ((0, i) :: (35, 0) :: st) M (pc + 1) ls ((0, (xs i.toNat).toInt) :: st) := by
  intro gl p l e R s m args below meth c A C0 HP H locs cells slots lsA stA ad Q hS hR hL hst k
  have hst_ := hst.cons
  clear hst
  obtain ⟨_, _, rfl, ⟨i', rfl, rfl⟩, hst⟩ := hst_
  have hst_ := hst.cons
  clear hst
  obtain ⟨_, _, rfl, hv, hst⟩ := hst_
  obtain ⟨j, hj0, hj, rfl⟩ := mi_c9o (r := 33) hR (by decide) (Int.le_refl 0) hv
  have hj1 : j = 0 := by have : (j : Int) = 0 := hj0.symm; omega
  subst hj1
  have HP' : va_T .int (gl.2.2 33 0) L (fun j => .int (xs j)) A s s.heap := HP
  exact va_ti C0.1 C0.2.1 HP' hS (vp_in_iff.mpr hi) rfl hdg (k _ _ hL ⟨⟨_, rfl, rfl⟩, hst⟩)
theorem mi_scrlen (hdg : decode μ.2.1 pc = .ok (.arraylength, 1)) (hL3 : L ≤ 3072) : MiStepP (mi_lP L xs) μ pc ls ((35, 0) :: st) M (pc + 1) ls ((0, (L : Int)) :: st) := by
  intro gl p l e R s m args below meth c A C0 HP H locs cells slots lsA stA ad Q hS hR hL hst k
  have hst_ := hst.cons
  clear hst
  obtain ⟨_, _, rfl, hv, hst⟩ := hst_
  obtain ⟨j, hj0, hj, rfl⟩ := mi_c9o (r := 33) hR (by decide) (Int.le_refl 0) hv
  have hj1 : j = 0 := by have : (j : Int) = 0 := hj0.symm; omega
  subst hj1
  have HP' : va_T .int (gl.2.2 33 0) L (fun j => .int (xs j)) A s s.heap := HP
  exact va_tlen C0.1 C0.2.1 HP' hS rfl hdg (k _ _ hL ⟨⟨_, rfl, nI_toInt (n := L) (by omega)⟩, hst⟩)
/-- a static method with handlers -/
theorem mi_invSH {ix n : Nat} {tb : List (Nat × Nat × Nat × Nat)} (hdg : decode μ.2.1 pc = .ok (.invokestatic ix, 3)) (htab : μ'.2.2.2.2.2 = some tb) (hn : MiN μ'.1 n) (hln : args.length = n) (hlv : mi_lv μ μ')
    (w1 : Cond.methodLink μ.1.cls ix μ'.1 ∈ mi_tb) (w2 : Cond.static μ'.1 ∈ mi_tb) (w4 : Cond.initialized μ'.1.cls ∈ mi_tb) (w5 : Cond.codeWith μ'.1 μ'.2.1 μ'.2.2.1 μ'.2.2.2.1 tb ∈ mi_tb) : MiInv μ pc μ' args := by
  intro gl p l e R s m argsA below meth c A C0 H locs cells slots lsA vals rest ad M Pc Qc XC mc ms rm hR hS hsr hsz hM hrc hrs hrf hrl hbl hPc hW hroom
  have hlen := (mi_sr_len hsr).trans hln
  have hts := C0.2.2.2.2.2.2.2.1
  have hws : mi_ws μ' = Cond.codeWith μ'.1 μ'.2.1 μ'.2.2.1 μ'.2.2.2.1 tb :: mi_tb := by unfold mi_ws; rw [htab]
  have hG : GoodIn mi_tb (va_wsS μ.1.cls ix μ'.1 (mi_ws μ')) := by
    rw [hws]
    intro w hw
    simp only [va_wsS, List.cons_append, List.nil_append, List.mem_cons] at hw
    rcases hw with rfl | rfl | rfl | rfl | h
    · exact mi_good w1
    · exact mi_good w2
    · exact mi_good w4
    · exact mi_good w5
    · exact mi_good h
  exact vx_runSX ⟨C0.1, C0.2.1, C0.2.2.1, C0.2.2.2.2.2.1, hts⟩ hM (vx_cwSW n hts hG hws hrc hrs hn ⟨by rw [hrf, C0.2.2.2.2.2.2.2.2.2.2.2.1]; exact hlv.1, by rw [hrl, C0.2.2.2.2.2.2.2.2.2.2.2.2.1]; have := hlv.1; have := hlv.2; omega⟩) ⟨hbl, hPc⟩ rfl hlen hsz rfl (by show 2 * 0 + _ ≤ 8; omega) hdg hroom
end MiScr
