theorem pu_nEg {γ : Type} {s : Int} {D : MiD} {t : Nat × MiD → γ} {f : MiD → Option γ} : mi_bn (B_X10_needElement s D) t f = if s = 0 then some (t (0, pu_rf1 0 D)) else f D := by
  by_cases h : s = 0
  · subst h; rw [if_pos rfl, pu_nE]
  · rw [if_neg h]; unfold B_X10_needElement; rw [if_pos h]; rfl
theorem pu_nAg {γ : Type} {s : Int} {D : MiD} {t : Nat × MiD → γ} {f : MiD → Option γ} : mi_bn (B_X10_needArgument s D) t f = if s = 0 then some (t (1, pu_rf1 1 D)) else f D := by
  by_cases h : s = 0
  · subst h; rw [if_pos rfl, pu_nA]
  · rw [if_neg h]; unfold B_X10_needArgument; rw [if_pos h]; rfl
theorem pu_nSg {γ : Type} {s : Int} {D : MiD} {t : Nat × MiD → γ} {f : MiD → Option γ} : mi_bn (B_X10_needState s D) t f = if s = 0 then some (t (2, pu_rf1 2 D)) else f D := by
  by_cases h : s = 0
  · subst h; rw [if_pos rfl, pu_nS]
  · rw [if_neg h]; unfold B_X10_needState; rw [if_pos h]; rfl
theorem pu_bdg {β : Type} {s w r : Int} {D : MiD} {f : Int → MiD → Option β} (hw : w ≠ 0) (hr : 0 ≤ r ∧ r < 3) : mi_b2 (B_X11_bad s w r (mi_st D 40 0 0 0)) f = if s = 0 then f 0 (mi_st D 40 0 0 0) else f 1 (pu_rf2 w r D) := by
  have hz : mi_st D 40 0 0 0 40 0 0 = 0 := pu_st_eq
  by_cases h : s = 0
  · subst h; rw [if_pos rfl, pu_bad0 hz, pu_b2E]
  · rw [if_neg h]
    have : B_X11_bad s w r (mi_st D 40 0 0 0) = B_X11_bad 1 w r (mi_st D 40 0 0 0) := by
      unfold B_X11_bad; rw [if_neg h, if_neg (show ¬ ((1 : Int) = 0) by decide)]
    rw [this, pu_bad1 hz hw hr, pu_b2E]
    rfl
theorem pu_bdg10 {β : Type} {s : Int} {D : MiD} {f : Int → MiD → Option β} : mi_b2 (B_X11_bad s 1 0 (mi_st D 40 0 0 0)) f = if s = 0 then f 0 (mi_st D 40 0 0 0) else f 1 (pu_rf2 1 0 D) := pu_bdg (by decide) (by decide)
theorem pu_bdg11 {β : Type} {s : Int} {D : MiD} {f : Int → MiD → Option β} : mi_b2 (B_X11_bad s 1 1 (mi_st D 40 0 0 0)) f = if s = 0 then f 0 (mi_st D 40 0 0 0) else f 1 (pu_rf2 1 1 D) := pu_bdg (by decide) (by decide)
theorem pu_bdg12 {β : Type} {s : Int} {D : MiD} {f : Int → MiD → Option β} : mi_b2 (B_X11_bad s 1 2 (mi_st D 40 0 0 0)) f = if s = 0 then f 0 (mi_st D 40 0 0 0) else f 1 (pu_rf2 1 2 D) := pu_bdg (by decide) (by decide)
theorem pu_bdg21 {β : Type} {s : Int} {D : MiD} {f : Int → MiD → Option β} : mi_b2 (B_X11_bad s 2 1 (mi_st D 40 0 0 0)) f = if s = 0 then f 0 (mi_st D 40 0 0 0) else f 1 (pu_rf2 2 1 D) := pu_bdg (by decide) (by decide)
theorem pu_bdg22 {β : Type} {s : Int} {D : MiD} {f : Int → MiD → Option β} : mi_b2 (B_X11_bad s 2 2 (mi_st D 40 0 0 0)) f = if s = 0 then f 0 (mi_st D 40 0 0 0) else f 1 (pu_rf2 2 2 D) := pu_bdg (by decide) (by decide)
theorem pu_bdg32 {β : Type} {s : Int} {D : MiD} {f : Int → MiD → Option β} : mi_b2 (B_X11_bad s 3 2 (mi_st D 40 0 0 0)) f = if s = 0 then f 0 (mi_st D 40 0 0 0) else f 1 (pu_rf2 3 2 D) := pu_bdg (by decide) (by decide)
theorem pu_b1 {c : Prop} [Decidable c] : ((if c then (1 : Int) else 0) = 0) = ¬ c := by by_cases h : c <;> simp [h]
theorem pu_ans.e0 {mp : Nat → Int} {Z : MiZ} {D1 D2 : MiD} (h : pu_L Z D1 D2) {a : Option ((Int × MiD) ⊕ (Nat × MiD))} {b : Option (Int × MiD)} (hm : mp 0 = 1) (ha : a = some (.inr (0, pu_rf1 0 D1))) (hb : b = some (0, pu_rf2 1 0 D2)) : pu_ans mp Z D1 D2 a b := pu_ans.rf (k := 0) h (by decide) rfl (by rw [hm]; decide) ha (by rw [hm]; exact hb)
theorem pu_ans.e1 {mp : Nat → Int} {Z : MiZ} {D1 D2 : MiD} (h : pu_L Z D1 D2) {a : Option ((Int × MiD) ⊕ (Nat × MiD))} {b : Option (Int × MiD)} (w : Int) (hm : mp 1 = w) (hw : w ≠ 0) (ha : a = some (.inr (1, pu_rf1 1 D1))) (hb : b = some (0, pu_rf2 w 1 D2)) : pu_ans mp Z D1 D2 a b := pu_ans.rf (k := 1) h (by decide) rfl (by rw [hm]; exact hw) ha (by rw [hm]; exact hb)
theorem pu_ans.e2 {mp : Nat → Int} {Z : MiZ} {D1 D2 : MiD} (h : pu_L Z D1 D2) {a : Option ((Int × MiD) ⊕ (Nat × MiD))} {b : Option (Int × MiD)} (w : Int) (hm : mp 2 = w) (hw : w ≠ 0) (ha : a = some (.inr (2, pu_rf1 2 D1))) (hb : b = some (0, pu_rf2 w 2 D2)) : pu_ans mp Z D1 D2 a b := pu_ans.rf (k := 2) h (by decide) rfl (by rw [hm]; exact hw) ha (by rw [hm]; exact hb)
theorem pu_task {Z : MiZ} {D1 D2 : MiD} {t k : Int} (h : pu_L Z D1 D2) : pu_ans pu_m01 Z D1 D2 (B_X10_task t k D1) (B_X11_task t k D2) := by
  by_cases c : 0 ≤ t ∧ t < 6
  · by_cases c2 : 0 ≤ k ∧ k ≤ 6
    · have hL := h.z.a
      have K := hL.t t c.1 c.2
      have W := hL.w
      refine pu_ans.rd h (v := mi_st D2 40 0 0 0 59 t k) ?_ ?_
      · simp only [B_X10_task, pu_within, if_pos c, pu_nEg]
        rw [if_neg (by decide)]
        simp only [Int.mul_zero, Int.zero_add]
        have k1 := K.fr; have k2 := K.tr; have k3 := K.v.1; have k4 := K.re; have k5 := K.fo; have k6 := K.de; have k7 := K.tu; have k8 := W.tn; have k9 := W.tu t c.1 c.2; have k10 := W.tu' t c.1 c.2
        simp only [Int.mul_zero, Int.zero_add] at k1 k2 k3 k4 k5 k6 k7 k8 k9 k10
        have : k = 0 ∨ k = 1 ∨ k = 2 ∨ k = 3 ∨ k = 4 ∨ k = 5 ∨ k = 6 := by omega
        rcases this with rfl | rfl | rfl | rfl | rfl | rfl | rfl
        · simp [k1]
        · simp [k2]
        · simp [k3]
        · simp [k4]
        · simp only [k8]; grind
        · simp [k5]
        · simp [k6]
      · simp only [B_X11_task, B_X11_task_19, B_X11_task_43, B_X11_isTask, pu_letE, pu_in, pu_bdg10, pu_bdg21]
        grind
    · refine pu_ans.e1 h 2 rfl (by decide) ?_ ?_
      · simp only [B_X10_task, pu_within, if_pos c, pu_nEg, pu_nAg]
        grind
      · simp only [B_X11_task, B_X11_task_19, B_X11_task_43, B_X11_isTask, pu_letE, pu_in, pu_bdg10, pu_bdg21]
        grind
  · refine pu_ans.e0 h rfl ?_ ?_
    · simp only [B_X10_task, pu_within, if_neg c, pu_nEg]; rfl
    · simp only [B_X11_task, B_X11_task_19, B_X11_task_43, B_X11_isTask, pu_letE, pu_in, pu_bdg10, pu_bdg21]
      grind
theorem pu_frame {Z : MiZ} {D1 D2 : MiD} {t e k : Int} (h : pu_L Z D1 D2) : pu_ans pu_m01 Z D1 D2 (B_X10_frame t e k D1) (B_X11_frame t e k D2) := by
  by_cases c : 0 ≤ t ∧ t < 6
  · have hL := h.z.a
    have K := hL.t t c.1 c.2
    have k1 := K.fr
    have k2 := K.fr0
    have k3 := K.fr1
    simp only [Int.mul_zero, Int.zero_add] at k1
    have w1 : mi_w (mi_st D2 40 0 0 0 59 t 0 - 1) = mi_st D2 40 0 0 0 59 t 0 - 1 := pu_w (by omega) (by omega)
    by_cases ce : 0 ≤ e ∧ e < mi_st D2 40 0 0 0 59 t 0
    · have w2 : mi_w (mi_st D2 40 0 0 0 59 t 0 - 1 - e) = mi_st D2 40 0 0 0 59 t 0 - 1 - e := pu_w (by omega) (by omega)
      by_cases c2 : 0 ≤ k ∧ k ≤ 3
      · refine pu_ans.rd h (v := mi_st D2 40 0 0 0 63 (10 * t + (mi_st D2 40 0 0 0 59 t 0 - 1 - e)) k) ?_ ?_
        · simp only [B_X10_frame, B_X10_frame_34, pu_within, pu_letE, Int.mul_zero, Int.zero_add, k1, w1, w2, if_pos c, if_pos ce, pu_nEg]
          have F := K.f (mi_st D2 40 0 0 0 59 t 0 - 1 - e) (by omega) (by omega)
          have f1 := F.f; have f2 := F.p; have f3 := F.a; have f4 := F.b
          simp only [Int.mul_zero, Int.zero_add] at f1 f2 f3 f4
          have : k = 0 ∨ k = 1 ∨ k = 2 ∨ k = 3 := by omega
          rcases this with rfl | rfl | rfl | rfl
          · rw [f1]; simp; omega
          · rw [f2]; simp; omega
          · rw [f3]; simp; omega
          · rw [f4]; simp; omega
        · simp only [B_X11_frame, B_X11_frame_36, B_X11_frame_49, B_X11_frame_72, B_X11_isTask, pu_letE, pu_in, pu_bdg10, pu_bdg21, w1, w2]
          grind
      · refine pu_ans.e1 h 2 rfl (by decide) ?_ ?_
        · simp only [B_X10_frame, B_X10_frame_34, pu_within, pu_letE, Int.mul_zero, Int.zero_add, k1, w1, w2, if_pos c, if_pos ce, pu_nEg, pu_nAg]
          grind
        · simp only [B_X11_frame, B_X11_frame_36, B_X11_frame_49, B_X11_frame_72, B_X11_isTask, pu_letE, pu_in, pu_bdg10, pu_bdg21, w1, w2]
          grind
    · refine pu_ans.e0 h rfl ?_ ?_
      · simp only [B_X10_frame, B_X10_frame_33, B_X10_frame_34, pu_within, Int.mul_zero, Int.zero_add, if_pos c, if_neg ce, k1, pu_nEg]; simp
      · simp only [B_X11_frame, B_X11_frame_35, B_X11_frame_36, B_X11_frame_49, B_X11_isTask, pu_letE, pu_in, pu_bdg10, pu_bdg21, w1]
        grind
  · refine pu_ans.e0 h rfl ?_ ?_
    · simp only [B_X10_frame, B_X10_frame_33, B_X10_frame_34, pu_within, if_neg c, pu_nEg]; simp
    · simp only [B_X11_frame, B_X11_frame_35, B_X11_frame_36, B_X11_frame_49, B_X11_isTask, pu_letE, pu_in, pu_bdg10, pu_bdg21]
      grind
theorem pu_shadowOf {Z : MiZ} {D1 D2 : MiD} {d m k : Int} (h : pu_L Z D1 D2) : pu_ans pu_m01 Z D1 D2 (B_X10_shadowOf d m k D1) (B_X11_shadowOf d m k D2) := by
  by_cases c : (0 ≤ d ∧ d < 10) ∧ (0 ≤ m ∧ m < 5)
  · have hL := h.z.a
    have hR := hL.d.1 d m c.1.1 c.1.2 (by omega) (by omega)
    have hx := pu_xB (w := 0) (by decide) c.1 (m := m) (by omega)
    have hr := pu_rB c.1 (m := m) (by omega)
    by_cases c2 : 0 ≤ k ∧ k ≤ 1
    · refine pu_ans.rd h (v := if k = 0 then mi_st D2 40 0 0 0 52 0 (pu_r d m) else mi_st D2 40 0 0 0 53 0 (pu_r d m)) ?_ ?_
      · simp only [B_X10_shadowOf, B_X10_shadowOf_23, B_X10_shadowOf_36, B_X10_shadowOf_41, pu_within, if_pos c.1, if_pos c.2, pu_nEg, pu_nAg, pu_rowAt c.1 (show -1 ≤ m ∧ m < 5 by omega), pu_biE, if_pos hx, hR.1.1, hR.1.2.1]
        grind
      · simp only [B_X11_shadowOf, B_X11_shadowOf_28, B_X11_shadowOf_51, B_X11_isDatum, pu_letE, pu_in, pu_bdg10, pu_bdg21, pu_rowOf c.1 (show -1 ≤ m ∧ m < 5 by omega)]
        grind
    · refine pu_ans.e1 h 2 rfl (by decide) ?_ ?_
      · simp only [B_X10_shadowOf, B_X10_shadowOf_23, B_X10_shadowOf_36, B_X10_shadowOf_41, pu_within, if_pos c.1, if_pos c.2, pu_nEg, pu_nAg]
        grind
      · simp only [B_X11_shadowOf, B_X11_shadowOf_28, B_X11_shadowOf_51, B_X11_isDatum, pu_letE, pu_in, pu_bdg10, pu_bdg21, pu_rowOf c.1 (show -1 ≤ m ∧ m < 5 by omega)]
        grind
  · refine pu_ans.e0 h rfl ?_ ?_
    · simp only [B_X10_shadowOf, B_X10_shadowOf_22, B_X10_shadowOf_23, pu_within, pu_nEg]; grind
    · simp only [B_X11_shadowOf, B_X11_shadowOf_23, B_X11_shadowOf_28, B_X11_isDatum, pu_letE, pu_in, pu_bdg10, pu_bdg21]
      grind
theorem pu_cell {Z : MiZ} {D1 D2 : MiD} {d m p : Int} (h : pu_L Z D1 D2) : pu_ans pu_o0 Z D1 D2 (B_X10_cell d m p D1) (B_X11_cell d m p D2) := by
  by_cases c : (0 ≤ d ∧ d < 10) ∧ (-1 ≤ m ∧ m < 5)
  · have hL := h.z.a
    have hR := hL.d.1 d m c.1.1 c.1.2 (by omega) (by omega)
    have hx := pu_xB (w := 0) (by decide) c.1 (m := m) (by omega)
    have hr := pu_rB c.1 (m := m) (by omega)
    have hK := hR.2
    obtain ⟨K1, K2, K3, K4, K5⟩ := hK
    have w1 : mi_w (mi_st D2 40 0 0 0 53 0 (pu_r d m) - 1) = mi_st D2 40 0 0 0 53 0 (pu_r d m) - 1 := pu_w (by omega) (by omega)
    refine pu_ans.rd h (v := if 0 ≤ p ∧ p < mi_st D2 40 0 0 0 53 0 (pu_r d m) then mi_st D2 40 0 0 0 57 (pu_r d m) p else 0) ?_ ?_
    · have hq := hR.1.2.2
      simp only [B_X10_cell, B_X10_cell_23, B_X10_cell_28, pu_within, if_pos c.1, pu_nEg, pu_rowAt c.1 (show -1 ≤ m ∧ m < 5 by omega), pu_biE, if_pos hx, hR.1.2.1]
      by_cases cp : 0 ≤ p ∧ p < mi_st D2 40 0 0 0 53 0 (pu_r d m)
      · have := (hq p cp.1 (by omega)).2
        simp only [if_pos cp, this]
        grind
      · simp only [if_neg cp]
        grind
    · simp only [B_X11_cell, B_X11_cell_28, B_X11_isDatum, pu_letE, pu_in, pu_bdg10, pu_rowOf c.1 (show -1 ≤ m ∧ m < 5 by omega), w1]
      grind
  · refine pu_ans.e0 h rfl ?_ ?_
    · simp only [B_X10_cell, B_X10_cell_23, B_X10_cell_27, B_X10_cell_28, pu_within, pu_nEg]; grind
    · simp only [B_X11_cell, B_X11_cell_23, B_X11_cell_28, B_X11_isDatum, pu_letE, pu_in, pu_bdg10]
      grind
theorem pu_keep {Z : MiZ} {D1 D2 : MiD} {d m k : Int} (h : pu_L Z D1 D2) : pu_ans pu_m01 Z D1 D2 (B_X10_keep d m k D1) (B_X11_keep d m k D2) := by
  by_cases c : (0 ≤ d ∧ d < 10) ∧ (0 ≤ m ∧ m < 5)
  · by_cases c2 : 0 ≤ k ∧ k ≤ 1
    · exact pu_keep_yes h c.1 c.2 (by omega)
    · refine pu_ans.e1 h 2 rfl (by decide) ?_ ?_
      · simp only [B_X10_keep, B_X10_keep_23, B_X10_keep_36, B_X10_keep_41, pu_within, if_pos c.1, if_pos c.2, pu_nEg, pu_nAg]
        grind
      · simp only [B_X11_keep, B_X11_keep_28, B_X11_keep_51, B_X11_isDatum, pu_letE, pu_in, pu_bdg10, pu_bdg21]
        grind
  · refine pu_ans.e0 h rfl ?_ ?_
    · simp only [B_X10_keep, B_X10_keep_22, B_X10_keep_23, pu_within, pu_nEg]; grind
    · simp only [B_X11_keep, B_X11_keep_23, B_X11_keep_28, B_X11_isDatum, pu_letE, pu_in, pu_bdg10, pu_bdg21]
      grind
theorem pu_told_l {Z : MiZ} {D1 D2 : MiD} {k : Int} (h : pu_A 0 Z D1 D2) : ∀ (f : Nat) (b i : Int), 0 ≤ i → i ≤ 6 → 6 - i < f → -2147483648 ≤ b → b < 2147483648 →
    ∃ b', B_X11_told_35 f k b i D2 = B_X11_told_35 1 k b' 6 D2 ∧ (k = 6 → B_X9_idleBits_4 D1 f 0 b i = some b') ∧ (k ≠ 6 → B_X9_turnedBits_4 D1 f 0 b i = some b')
  | 0, b, i, h1, h2, h3, h4, h5 => by omega
  | f + 1, b, i, h1, h2, h3, h4, h5 => by
    by_cases c : 6 ≤ i
    · have : i = 6 := by omega
      subst this
      refine ⟨b, ?_, fun z => ?_, fun z => ?_⟩
      · unfold B_X11_told_35; rw [if_pos c, if_pos c]
      · unfold B_X9_idleBits_4; rw [if_pos c]
      · unfold B_X9_turnedBits_4; rw [if_pos c]
    · have K := h.t i h1 (by omega)
      have W := h.w
      have tu := W.tu i h1 (by omega)
      have tub := K.tu
      have e0 : mi_w (i + 1) = i + 1 := pu_w (by omega) (by omega)
      obtain ⟨b1, p1, p2, p3⟩ := pu_told_l h f b (i + 1) (by omega) (by omega) (by omega) h4 h5
      obtain ⟨b2, q1, q2, q3⟩ := pu_told_l h f (mi_or b (mi_shl 1 i)) (i + 1) (by omega) (by omega) (by omega) pu_orr.1 pu_orr.2
      unfold B_X11_told_35 B_X9_idleBits_4 B_X9_turnedBits_4
      simp only [if_neg c, B_X11_told_87, B_X11_told_81, B_X11_told_88, B_X11_isIdle, pu_or0 h4 h5, e0, pu_letE, W.tn]
      have c6 : 0 ≤ i ∧ i < 6 := by omega
      have c7 : 0 ≤ i ∧ i < 7 := by omega
      simp only [if_pos c6, if_pos c7, K.fr]
      by_cases k6 : k = 6
      · rw [if_neg (fun z => z k6)]
        by_cases ci : D2 59 i 0 ≠ 0
        · rw [if_pos ci, if_pos ci, pu_biE, if_pos rfl]
          exact ⟨b1, p1, fun _ => p2 k6, fun z => absurd k6 z⟩
        · rw [if_neg ci, if_neg ci, pu_biE, if_neg (by decide)]
          exact ⟨b2, q1, fun _ => q2 k6, fun z => absurd k6 z⟩
      · rw [if_pos k6]
        by_cases ct : D2 65 0 1 = -1
        · rw [if_pos ct, if_pos ct]
          exact ⟨b1, p1, fun z => absurd z k6, fun _ => p3 k6⟩
        · rw [if_neg ct, if_neg ct]
          have := tu ct
          by_cases cu : D2 59 i 4 = 1
          · rw [if_neg (fun z => z cu), if_neg (show ¬ D1 4 (6 * 0 + i) 8 = 0 by omega)]
            exact ⟨b2, q1, fun z => absurd z k6, fun _ => q3 k6⟩
          · rw [if_pos cu, if_pos (show D1 4 (6 * 0 + i) 8 = 0 by omega)]
            exact ⟨b1, p1, fun z => absurd z k6, fun _ => p3 k6⟩
theorem pu_deep_l {Z : MiZ} {D1 D2 : MiD} (h : pu_A 0 Z D1 D2) : ∀ (f : Nat) (m d i : Int), 0 ≤ i → i ≤ 6 → 6 - i < f → (d = -1 ∧ m = 0 ∨ 0 ≤ d ∧ d < 6 ∧ m = D2 59 d 0 ∧ 0 < m) →
    ∃ v, B_X10_deepest_6 D1 f m d i = some v ∧ B_X11_deepest_9 f d i D2 = some (v, D2)
  | 0, m, d, i, h1, h2, h3, h4 => by omega
  | f + 1, m, d, i, h1, h2, h3, h4 => by
    unfold B_X10_deepest_6 B_X11_deepest_9
    by_cases c : 6 ≤ i
    · rw [if_pos c, if_pos c]; exact ⟨d, rfl, rfl⟩
    · have K := h.t i h1 (by omega)
      have k2 := K.fr0
      have e0 : mi_w (i + 1) = i + 1 := pu_w (by omega) (by omega)
      have c6 : 0 ≤ i ∧ i < 6 := by omega
      have c7 : 0 ≤ i ∧ i < 7 := by omega
      simp only [if_neg c, if_pos c6, if_pos c7, B_X11_isIdle, B_X11_deepest_47, e0, pu_letE, K.fr]
      by_cases z : D2 59 i 0 = 0
      · rw [if_neg (show ¬ (D2 59 i 0 ≠ 0) from fun y => y z), pu_biE, if_pos (show (1 : Int) ≠ 0 by decide), if_pos (show D2 59 i 0 ≤ m by omega)]
        exact pu_deep_l h f m d (i + 1) (by omega) (by omega) (by omega) h4
      · rw [if_pos (show D2 59 i 0 ≠ 0 from z), pu_biE, if_neg (show ¬ ((0 : Int) ≠ 0) by decide)]
        rcases h4 with ⟨rfl, rfl⟩ | ⟨a1, a2, a3, a4⟩
        · rw [if_pos rfl, if_neg (show ¬ (D2 59 i 0 ≤ 0) by omega)]
          exact pu_deep_l h f _ i (i + 1) (by omega) (by omega) (by omega) (Or.inr ⟨by omega, by omega, rfl, by omega⟩)
        · rw [if_neg (show ¬ (d = -1) by omega), if_pos (show 0 ≤ d ∧ d < 7 by omega), ← a3]
          by_cases y : D2 59 i 0 ≤ m
          · rw [if_pos y, if_pos y]
            exact pu_deep_l h f m d (i + 1) (by omega) (by omega) (by omega) (Or.inr ⟨a1, a2, a3, a4⟩)
          · rw [if_neg y, if_neg y]
            exact pu_deep_l h f _ i (i + 1) (by omega) (by omega) (by omega) (Or.inr ⟨by omega, by omega, rfl, by omega⟩)
def pu_an0 (Z : MiZ) (D1 D2 : MiD) (a : Option Int) (b : Option (Int × MiD)) : Prop := ∃ v, a = some v ∧ b = some (v, mi_st D2 40 0 0 0)
theorem pu_deepest {Z : MiZ} {D1 D2 : MiD} (h : pu_L Z D1 D2) : pu_an0 Z D1 D2 (B_X10_deepest D1) (B_X11_deepest D2) := by
  unfold B_X10_deepest B_X11_deepest
  rw [pu_letE]
  exact pu_deep_l h.z.a mi_fuel 0 (-1) 0 (by decide) (by decide) (by have := pu_fuelE; omega) (Or.inl ⟨rfl, rfl⟩)
theorem pu_fault {Z : MiZ} {D1 D2 : MiD} (h : pu_L Z D1 D2) : pu_an0 Z D1 D2 (B_X10_fault D1) (B_X11_fault D2) := by
  unfold B_X10_fault B_X11_fault
  rw [pu_letE, h.z.c.fp]
  exact ⟨_, rfl, rfl⟩
theorem pu_status {Z : MiZ} {D1 D2 : MiD} {k : Int} (h : pu_L Z D1 D2) : pu_an0 Z D1 D2 (B_X10_status D1 k) (B_X11_status k D2) := by
  unfold B_X10_status B_X11_status
  rw [pu_letE, pu_in, h.z.c.r0, h.z.c.r1, h.z.c.r2]
  by_cases c0 : k = 0
  · subst c0; exact ⟨_, rfl, rfl⟩
  by_cases c1 : k = 1
  · subst c1; exact ⟨_, rfl, rfl⟩
  by_cases c2 : k = 2
  · subst c2; exact ⟨_, rfl, rfl⟩
  rw [if_neg c0, if_neg c1, if_neg c2, if_neg (show ¬ (0 ≤ k ∧ k ≤ 2) by omega), if_pos rfl]
  exact ⟨_, rfl, rfl⟩
theorem pu_entry_l {Z : MiZ} {D1 D2 : MiD} {k : Int} (hk : 0 ≤ k ∧ k < 12) (h : pu_A 0 Z D1 D2) : ∀ (f : Nat) (s : Int), -1 ≤ s → s < D2 65 0 0 → s + 1 < f →
    ∃ v, B_X9_topmostWith_7 D1 Z f 0 k s = some v ∧ B_X11_entry_38 f k s D2 = some (v, D2)
  | 0, s, h1, h2, h3 => by omega
  | f + 1, s, h1, h2, h3 => by
    unfold B_X9_topmostWith_7 B_X11_entry_38
    have W := h.w
    have w8 := W.st8
    by_cases c : s < 0
    · rw [if_pos c, if_pos c]; exact ⟨_, rfl, rfl⟩
    · obtain ⟨s1, s2, s3⟩ := W.sk s (by omega) h2
      have pc8 := h.p.n8
      rw [if_neg c, if_neg c, if_pos (show 0 ≤ s ∧ s < 8 by omega), if_pos (show 0 ≤ s ∧ s < 8 by omega), if_pos (show 0 ≤ D2 64 0 s ∧ D2 64 0 s < 9 by omega), s1, pu_w (x := s + -1) (by omega) (by omega)]
      rcases pu_hasE h.p (p := D2 64 0 s) (f := k) ⟨by omega, s3⟩ hk with ⟨a, b⟩ | ⟨a, b⟩
      · rw [b, pu_biE, if_neg (by decide), if_neg a.2]
        exact ⟨_, rfl, rfl⟩
      · rw [b, pu_biE, if_pos rfl, if_pos (Classical.byContradiction fun z => a ⟨s2, z⟩)]
        exact pu_entry_l hk h f (s + -1) (by omega) (by omega) (by omega)
theorem pu_entry {Z : MiZ} {D1 D2 : MiD} {k : Int} (h : pu_L Z D1 D2) : pu_ans pu_o0 Z D1 D2 (B_X10_entry Z k D1) (B_X11_entry k D2) := by
  by_cases c : 0 ≤ k ∧ k < 12
  · have hL := h.z.a
    have W := hL.w
    have w0 := W.st0
    have w8 := W.st8
    have fE := pu_fuelE
    obtain ⟨v, v1, v2⟩ := pu_entry_l c hL mi_fuel (mi_st D2 40 0 0 0 65 0 0 - 1) (by omega) (by omega) (by omega)
    refine pu_ans.rd h (v := v) ?_ ?_
    · simp only [B_X10_entry, B_X9_topmostWith, pu_within, if_pos c, pu_nEg, pu_letE, W.st, pu_w (x := mi_st D2 40 0 0 0 65 0 0 - 1) (by omega) (by omega), v1, pu_biE]
      simp
    · simp only [B_X11_entry, B_X11_entry_19, B_X11_isFunction, pu_letE, pu_in, pu_bdg10, pu_w (x := mi_st D2 40 0 0 0 65 0 0 - 1) (by omega) (by omega), v2]
      rw [if_pos (show 0 ≤ k ∧ k ≤ 11 by omega)]
      simp
  · refine pu_ans.e0 h rfl ?_ ?_
    · simp only [B_X10_entry, pu_within, if_neg c, pu_nEg]; simp
    · simp only [B_X11_entry, B_X11_entry_19, B_X11_isFunction, pu_letE, pu_in, pu_bdg10]
      rw [if_neg (show ¬ (0 ≤ k ∧ k ≤ 11) by omega)]
      simp
def pu_ts (g : Int → Int) : Nat → Int → Int
  | 0, _ => 0
  | n + 1, i => g i + pu_ts g n (i + 1)
theorem pu_ap_l {D1 : MiD} (hb : ∀ r : Int, 0 ≤ r → r < 60 → 0 ≤ D1 3 r 1 ∧ D1 3 r 1 ≤ 9) : ∀ (n f : Nat) (a i : Int), i + n = 60 → 0 ≤ i → n < f → 0 ≤ a → a ≤ 9 * i → B_X9_allPlaces_4 D1 f 0 a i = some (a + pu_ts (fun r => D1 3 r 1) n i)
  | n, 0, a, i, h1, h2, h3, h4, h5 => by omega
  | 0, f + 1, a, i, h1, h2, h3, h4, h5 => by
    unfold B_X9_allPlaces_4 pu_ts
    rw [if_pos (by omega), Int.add_zero]
  | n + 1, f + 1, a, i, h1, h2, h3, h4, h5 => by
    have := hb i h2 (by omega)
    unfold B_X9_allPlaces_4 pu_ts
    rw [if_neg (by omega), if_pos (by omega), pu_letE, show (60 * 0 + i : Int) = i by omega, pu_w (x := a + D1 3 i 1) (by omega) (by omega), pu_w (x := i + 1) (by omega) (by omega), pu_ap_l hb n f _ (i + 1) (by omega) (by omega) (by omega) (by omega) (by omega), Int.add_assoc]
theorem pu_apM_l {D2 : MiD} (hb : ∀ r : Int, 0 ≤ r → r < 60 → 0 ≤ D2 53 0 r ∧ D2 53 0 r ≤ 9) : ∀ (n f : Nat) (a i : Int), i + n = 60 → 0 ≤ i → n < f → 0 ≤ a → a ≤ 9 * i → B_X11_places_4 D2 f a i = some (a + pu_ts (fun r => D2 53 0 r) n i)
  | n, 0, a, i, h1, h2, h3, h4, h5 => by omega
  | 0, f + 1, a, i, h1, h2, h3, h4, h5 => by
    unfold B_X11_places_4 pu_ts
    rw [if_pos (by omega), Int.add_zero]
  | n + 1, f + 1, a, i, h1, h2, h3, h4, h5 => by
    have := hb i h2 (by omega)
    unfold B_X11_places_4 pu_ts
    rw [if_neg (by omega), if_pos (by omega), pu_letE, pu_w (x := a + D2 53 0 i) (by omega) (by omega), pu_w (x := i + 1) (by omega) (by omega), pu_apM_l hb n f _ (i + 1) (by omega) (by omega) (by omega) (by omega) (by omega), Int.add_assoc]
theorem pu_shM_l {D2 : MiD} : ∀ (n f : Nat) (a i : Int), i + n = 60 → 0 ≤ i → n < f → 0 ≤ a → a ≤ i → B_X11_shadows_5 D2 f a i = some (a + pu_ts (fun r => if D2 52 0 r = 12 then 0 else 1) n i)
  | n, 0, a, i, h1, h2, h3, h4, h5 => by omega
  | 0, f + 1, a, i, h1, h2, h3, h4, h5 => by
    unfold B_X11_shadows_5 pu_ts
    rw [if_pos (by omega), Int.add_zero]
  | n + 1, f + 1, a, i, h1, h2, h3, h4, h5 => by
    unfold B_X11_shadows_5 pu_ts B_X11_shadows_28
    rw [if_neg (by omega), if_pos (by omega), pu_letE, pu_letE, pu_w (x := i + 1) (by omega) (by omega), pu_w (x := a + 0) (by omega) (by omega), pu_w (x := a + 1) (by omega) (by omega)]
    by_cases c : D2 52 0 i = 12
    · rw [if_pos c, if_pos c, pu_shM_l n f _ (i + 1) (by omega) (by omega) (by omega) (by omega) (by omega), Int.add_assoc]
    · rw [if_neg c, if_neg c, pu_shM_l n f _ (i + 1) (by omega) (by omega) (by omega) (by omega) (by omega), Int.add_assoc]
def pu_sb1 (a : Bool) (x k : Int) : Int := if a then mi_or x (mi_shl 1 k) else x
def pu_sb0 (a b c d e : Bool) : Int := pu_sb1 e (pu_sb1 d (pu_sb1 c (pu_sb1 b (pu_sb1 a 0 0) 1) 2) 3) 4
def pu_b01 (a : Bool) : Int := if a then 1 else 0
theorem pu_sbC : ∀ a b c d e : Bool, B_J6_bitCount_0f7a4 (pu_sb0 a b c d e) = pu_b01 a + pu_b01 b + pu_b01 c + pu_b01 d + pu_b01 e := by decide +kernel
def pu_there (D2 : MiD) (r : Int) : Bool := decide (D2 52 0 r ≠ 12)
def pu_sb (D2 : MiD) (d : Int) : Int := pu_sb0 (pu_there D2 (10 + 5 * d + 0)) (pu_there D2 (10 + 5 * d + 1)) (pu_there D2 (10 + 5 * d + 2)) (pu_there D2 (10 + 5 * d + 3)) (pu_there D2 (10 + 5 * d + 4))
theorem pu_sb_s {w d m : Int} {D1 D2 : MiD} (hw : 0 ≤ w ∧ w < 2) (h : pu_D w D1 D2) (hd : 0 ≤ d ∧ d < 10) (hm : 0 ≤ m ∧ m < 5) {f : Nat} {a : Int} : B_X9_shadowBits_4 D1 (f + 1) w d a m = B_X9_shadowBits_4 D1 f w d (pu_sb1 (pu_there D2 (10 + 5 * d + m)) a m) (m + 1) := by
  have hR := (h.1 d m hd.1 hd.2 (by omega) (by omega)).1.1
  have hx := pu_xB (w := w) hw hd (m := m) (by omega)
  have hr : pu_r d m = 10 + 5 * d + m := by unfold pu_r; rw [if_neg (by omega)]
  rw [hr] at hR
  conv => lhs; unfold B_X9_shadowBits_4
  rw [if_neg (by omega), pu_rowAt hd (by omega), pu_biE, if_pos hx, hR, pu_w (x := m + 1) (by omega) (by omega), pu_letE]
  unfold pu_sb1 pu_there
  by_cases c : D2 52 0 (10 + 5 * d + m) = 12
  · rw [if_pos c, if_neg (by simp [c])]
  · rw [if_neg c, if_pos (by simp [c])]
theorem pu_sbE {w d : Int} {D1 D2 : MiD} (hw : 0 ≤ w ∧ w < 2) (h : pu_D w D1 D2) (hd : 0 ≤ d ∧ d < 10) : B_X9_shadowBits D1 w d = some (pu_sb D2 d) := by
  unfold B_X9_shadowBits
  rw [show mi_fuel = 3994 + 1 + 1 + 1 + 1 + 1 + 1 from rfl, pu_sb_s hw h hd (by decide), pu_sb_s hw h hd (by decide), pu_sb_s hw h hd (by decide), pu_sb_s hw h hd (by decide), pu_sb_s hw h hd (by decide)]
  unfold B_X9_shadowBits_4
  rw [if_pos (by decide)]
  rfl
theorem pu_sbB {D2 : MiD} {d : Int} : B_J6_bitCount_0f7a4 (pu_sb D2 d) = (if D2 52 0 (10 + 5 * d + 0) = 12 then 0 else 1) + (if D2 52 0 (10 + 5 * d + 1) = 12 then 0 else 1) + (if D2 52 0 (10 + 5 * d + 2) = 12 then 0 else 1) + (if D2 52 0 (10 + 5 * d + 3) = 12 then 0 else 1) + (if D2 52 0 (10 + 5 * d + 4) = 12 then 0 else 1) := by
  have e : ∀ r : Int, pu_b01 (pu_there D2 r) = if D2 52 0 r = 12 then 0 else 1 := fun r => by
    unfold pu_b01 pu_there
    by_cases c : D2 52 0 r = 12 <;> simp [c]
  unfold pu_sb
  rw [pu_sbC, e, e, e, e, e]
theorem pu_sh_l {D1 D2 : MiD} (h : pu_D 0 D1 D2) : ∀ (n f : Nat) (a i : Int), i + n = 10 → 0 ≤ i → n < f → 0 ≤ a → a ≤ 5 * i → B_X9_allShadows_4 D1 f 0 a i = some (a + pu_ts (fun d => B_J6_bitCount_0f7a4 (pu_sb D2 d)) n i)
  | n, 0, a, i, h1, h2, h3, h4, h5 => by omega
  | 0, f + 1, a, i, h1, h2, h3, h4, h5 => by
    unfold B_X9_allShadows_4 pu_ts
    rw [if_pos (by omega), Int.add_zero]
  | n + 1, f + 1, a, i, h1, h2, h3, h4, h5 => by
    have hB : 0 ≤ B_J6_bitCount_0f7a4 (pu_sb D2 i) ∧ B_J6_bitCount_0f7a4 (pu_sb D2 i) ≤ 5 := by
      rw [pu_sbB]
      split <;> split <;> split <;> split <;> split <;> decide
    unfold B_X9_allShadows_4 pu_ts
    rw [if_neg (by omega), pu_sbE (by decide) h ⟨h2, by omega⟩, pu_biE, pu_letE, pu_w (x := a + B_J6_bitCount_0f7a4 (pu_sb D2 i)) (by omega) (by omega), pu_w (x := i + 1) (by omega) (by omega), pu_sh_l h n f _ (i + 1) (by omega) (by omega) (by omega) (by omega) (by omega), Int.add_assoc]
theorem pu_sums {D1 D2 : MiD} (h : pu_D 0 D1 D2) : pu_ts (fun r => D1 3 r 1) 60 0 = pu_ts (fun r => D2 53 0 r) 60 0 := by
  have hr : ∀ d m : Int, 0 ≤ d → d < 10 → -1 ≤ m → m < 5 → D1 3 (6 * d + m + 1) 1 = D2 53 0 (if m = -1 then d else 10 + 5 * d + m) := fun d m a b c e => by
    have := (h.1 d m a b c e).1.2.1
    unfold pu_x pu_r at this
    rw [show (60 * 0 + (6 * d + m + 1) : Int) = 6 * d + m + 1 by omega] at this
    exact this
  have e0_0 : D1 3 0 1 = D2 53 0 0 := by simpa using hr 0 (-1) (by decide) (by decide) (by decide) (by decide)
  have e0_1 : D1 3 1 1 = D2 53 0 10 := hr 0 (0) (by decide) (by decide) (by decide) (by decide)
  have e0_2 : D1 3 2 1 = D2 53 0 11 := hr 0 (1) (by decide) (by decide) (by decide) (by decide)
  have e0_3 : D1 3 3 1 = D2 53 0 12 := hr 0 (2) (by decide) (by decide) (by decide) (by decide)
  have e0_4 : D1 3 4 1 = D2 53 0 13 := hr 0 (3) (by decide) (by decide) (by decide) (by decide)
  have e0_5 : D1 3 5 1 = D2 53 0 14 := hr 0 (4) (by decide) (by decide) (by decide) (by decide)
  have e1_0 : D1 3 6 1 = D2 53 0 1 := by simpa using hr 1 (-1) (by decide) (by decide) (by decide) (by decide)
  have e1_1 : D1 3 7 1 = D2 53 0 15 := hr 1 (0) (by decide) (by decide) (by decide) (by decide)
  have e1_2 : D1 3 8 1 = D2 53 0 16 := hr 1 (1) (by decide) (by decide) (by decide) (by decide)
  have e1_3 : D1 3 9 1 = D2 53 0 17 := hr 1 (2) (by decide) (by decide) (by decide) (by decide)
  have e1_4 : D1 3 10 1 = D2 53 0 18 := hr 1 (3) (by decide) (by decide) (by decide) (by decide)
  have e1_5 : D1 3 11 1 = D2 53 0 19 := hr 1 (4) (by decide) (by decide) (by decide) (by decide)
  have e2_0 : D1 3 12 1 = D2 53 0 2 := by simpa using hr 2 (-1) (by decide) (by decide) (by decide) (by decide)
  have e2_1 : D1 3 13 1 = D2 53 0 20 := hr 2 (0) (by decide) (by decide) (by decide) (by decide)
  have e2_2 : D1 3 14 1 = D2 53 0 21 := hr 2 (1) (by decide) (by decide) (by decide) (by decide)
  have e2_3 : D1 3 15 1 = D2 53 0 22 := hr 2 (2) (by decide) (by decide) (by decide) (by decide)
  have e2_4 : D1 3 16 1 = D2 53 0 23 := hr 2 (3) (by decide) (by decide) (by decide) (by decide)
  have e2_5 : D1 3 17 1 = D2 53 0 24 := hr 2 (4) (by decide) (by decide) (by decide) (by decide)
  have e3_0 : D1 3 18 1 = D2 53 0 3 := by simpa using hr 3 (-1) (by decide) (by decide) (by decide) (by decide)
  have e3_1 : D1 3 19 1 = D2 53 0 25 := hr 3 (0) (by decide) (by decide) (by decide) (by decide)
  have e3_2 : D1 3 20 1 = D2 53 0 26 := hr 3 (1) (by decide) (by decide) (by decide) (by decide)
  have e3_3 : D1 3 21 1 = D2 53 0 27 := hr 3 (2) (by decide) (by decide) (by decide) (by decide)
  have e3_4 : D1 3 22 1 = D2 53 0 28 := hr 3 (3) (by decide) (by decide) (by decide) (by decide)
  have e3_5 : D1 3 23 1 = D2 53 0 29 := hr 3 (4) (by decide) (by decide) (by decide) (by decide)
  have e4_0 : D1 3 24 1 = D2 53 0 4 := by simpa using hr 4 (-1) (by decide) (by decide) (by decide) (by decide)
  have e4_1 : D1 3 25 1 = D2 53 0 30 := hr 4 (0) (by decide) (by decide) (by decide) (by decide)
  have e4_2 : D1 3 26 1 = D2 53 0 31 := hr 4 (1) (by decide) (by decide) (by decide) (by decide)
  have e4_3 : D1 3 27 1 = D2 53 0 32 := hr 4 (2) (by decide) (by decide) (by decide) (by decide)
  have e4_4 : D1 3 28 1 = D2 53 0 33 := hr 4 (3) (by decide) (by decide) (by decide) (by decide)
  have e4_5 : D1 3 29 1 = D2 53 0 34 := hr 4 (4) (by decide) (by decide) (by decide) (by decide)
  have e5_0 : D1 3 30 1 = D2 53 0 5 := by simpa using hr 5 (-1) (by decide) (by decide) (by decide) (by decide)
  have e5_1 : D1 3 31 1 = D2 53 0 35 := hr 5 (0) (by decide) (by decide) (by decide) (by decide)
  have e5_2 : D1 3 32 1 = D2 53 0 36 := hr 5 (1) (by decide) (by decide) (by decide) (by decide)
  have e5_3 : D1 3 33 1 = D2 53 0 37 := hr 5 (2) (by decide) (by decide) (by decide) (by decide)
  have e5_4 : D1 3 34 1 = D2 53 0 38 := hr 5 (3) (by decide) (by decide) (by decide) (by decide)
  have e5_5 : D1 3 35 1 = D2 53 0 39 := hr 5 (4) (by decide) (by decide) (by decide) (by decide)
  have e6_0 : D1 3 36 1 = D2 53 0 6 := by simpa using hr 6 (-1) (by decide) (by decide) (by decide) (by decide)
  have e6_1 : D1 3 37 1 = D2 53 0 40 := hr 6 (0) (by decide) (by decide) (by decide) (by decide)
  have e6_2 : D1 3 38 1 = D2 53 0 41 := hr 6 (1) (by decide) (by decide) (by decide) (by decide)
  have e6_3 : D1 3 39 1 = D2 53 0 42 := hr 6 (2) (by decide) (by decide) (by decide) (by decide)
  have e6_4 : D1 3 40 1 = D2 53 0 43 := hr 6 (3) (by decide) (by decide) (by decide) (by decide)
  have e6_5 : D1 3 41 1 = D2 53 0 44 := hr 6 (4) (by decide) (by decide) (by decide) (by decide)
  have e7_0 : D1 3 42 1 = D2 53 0 7 := by simpa using hr 7 (-1) (by decide) (by decide) (by decide) (by decide)
  have e7_1 : D1 3 43 1 = D2 53 0 45 := hr 7 (0) (by decide) (by decide) (by decide) (by decide)
  have e7_2 : D1 3 44 1 = D2 53 0 46 := hr 7 (1) (by decide) (by decide) (by decide) (by decide)
  have e7_3 : D1 3 45 1 = D2 53 0 47 := hr 7 (2) (by decide) (by decide) (by decide) (by decide)
  have e7_4 : D1 3 46 1 = D2 53 0 48 := hr 7 (3) (by decide) (by decide) (by decide) (by decide)
  have e7_5 : D1 3 47 1 = D2 53 0 49 := hr 7 (4) (by decide) (by decide) (by decide) (by decide)
  have e8_0 : D1 3 48 1 = D2 53 0 8 := by simpa using hr 8 (-1) (by decide) (by decide) (by decide) (by decide)
  have e8_1 : D1 3 49 1 = D2 53 0 50 := hr 8 (0) (by decide) (by decide) (by decide) (by decide)
  have e8_2 : D1 3 50 1 = D2 53 0 51 := hr 8 (1) (by decide) (by decide) (by decide) (by decide)
  have e8_3 : D1 3 51 1 = D2 53 0 52 := hr 8 (2) (by decide) (by decide) (by decide) (by decide)
  have e8_4 : D1 3 52 1 = D2 53 0 53 := hr 8 (3) (by decide) (by decide) (by decide) (by decide)
  have e8_5 : D1 3 53 1 = D2 53 0 54 := hr 8 (4) (by decide) (by decide) (by decide) (by decide)
  have e9_0 : D1 3 54 1 = D2 53 0 9 := by simpa using hr 9 (-1) (by decide) (by decide) (by decide) (by decide)
  have e9_1 : D1 3 55 1 = D2 53 0 55 := hr 9 (0) (by decide) (by decide) (by decide) (by decide)
  have e9_2 : D1 3 56 1 = D2 53 0 56 := hr 9 (1) (by decide) (by decide) (by decide) (by decide)
  have e9_3 : D1 3 57 1 = D2 53 0 57 := hr 9 (2) (by decide) (by decide) (by decide) (by decide)
  have e9_4 : D1 3 58 1 = D2 53 0 58 := hr 9 (3) (by decide) (by decide) (by decide) (by decide)
  have e9_5 : D1 3 59 1 = D2 53 0 59 := hr 9 (4) (by decide) (by decide) (by decide) (by decide)
  simp only [pu_ts, Int.reduceAdd, Int.add_zero]
  omega
theorem pu_shsums {D2 : MiD} : pu_ts (fun d => B_J6_bitCount_0f7a4 (pu_sb D2 d)) 10 0 = pu_ts (fun r => if D2 52 0 r = 12 then 0 else 1) 50 10 := by
  generalize hg : (fun r => if D2 52 0 r = 12 then (0 : Int) else 1) = g
  have e : ∀ d : Int, B_J6_bitCount_0f7a4 (pu_sb D2 d) = g (10 + 5 * d + 0) + g (10 + 5 * d + 1) + g (10 + 5 * d + 2) + g (10 + 5 * d + 3) + g (10 + 5 * d + 4) := fun d => by
    rw [pu_sbB, ← hg]
  simp only [pu_ts, e, Int.reduceAdd, Int.reduceMul, Int.add_zero]
  omega
theorem pu_rowsB {D1 D2 : MiD} (h : pu_D 0 D1 D2) : (∀ r : Int, 0 ≤ r → r < 60 → 0 ≤ D2 53 0 r ∧ D2 53 0 r ≤ 9) ∧ ∀ r : Int, 0 ≤ r → r < 60 → 0 ≤ D1 3 r 1 ∧ D1 3 r 1 ≤ 9 := by
  refine ⟨fun r a b => ?_, fun r a b => ?_⟩
  · by_cases c : r < 10
    · have := (h.1 r (-1) a c (by decide) (by decide)).2
      rw [pu_r0] at this
      exact ⟨this.2.2.1, this.2.2.2.1⟩
    · have := (h.1 ((r - 10) / 5) ((r - 10) % 5) (by omega) (by omega) (by omega) (by omega)).2
      rw [show pu_r ((r - 10) / 5) ((r - 10) % 5) = r by unfold pu_r; rw [if_neg (by omega)]; omega] at this
      exact ⟨this.2.2.1, this.2.2.2.1⟩
  · have := h.1 (r / 6) (r % 6 - 1) (by omega) (by omega) (by omega) (by omega)
    have e := this.1.2.1
    rw [show pu_x 0 (r / 6) (r % 6 - 1) = r by unfold pu_x; omega] at e
    rw [e]
    exact ⟨this.2.2.2.1, this.2.2.2.2.1⟩
theorem pu_places {D1 D2 : MiD} (h : pu_D 0 D1 D2) : ∃ v, B_X9_allPlaces D1 0 = some v ∧ B_X11_places D2 = some v := by
  obtain ⟨b2, b1⟩ := pu_rowsB h
  have fE := pu_fuelE
  refine ⟨0 + pu_ts (fun r => D2 53 0 r) 60 0, ?_, ?_⟩
  · unfold B_X9_allPlaces
    rw [← pu_sums h]
    exact pu_ap_l b1 60 _ _ _ (by decide) (by decide) (by omega) (by decide) (by decide)
  · unfold B_X11_places
    exact pu_apM_l b2 60 _ _ _ (by decide) (by decide) (by omega) (by decide) (by decide)
theorem pu_shadows {D1 D2 : MiD} (h : pu_D 0 D1 D2) : ∃ v, B_X9_allShadows D1 0 = some v ∧ B_X11_shadows D2 = some v := by
  have fE := pu_fuelE
  refine ⟨0 + pu_ts (fun r => if D2 52 0 r = 12 then 0 else 1) 50 10, ?_, ?_⟩
  · unfold B_X9_allShadows
    rw [← pu_shsums]
    exact pu_sh_l h 10 _ _ _ (by decide) (by decide) (by omega) (by decide) (by decide)
  · unfold B_X11_shadows
    exact pu_shM_l 50 _ _ _ (by decide) (by decide) (by omega) (by decide) (by decide)
theorem pu_forced_l {D1 D2 : MiD} {Z : MiZ} (h : pu_A 0 Z D1 D2) : B_X9_allForced D1 0 = some (D2 65 0 5) := by
  have e : ∀ t : Int, 0 ≤ t → t < 6 → D1 4 (6 * 0 + t) 9 = D2 59 t 5 := fun t a b => (h.t t a b).fo
  have s : ∀ (f : Nat) (a t : Int), 0 ≤ t → t < 6 → B_X9_allForced_4 D1 (f + 1) 0 a t = B_X9_allForced_4 D1 f 0 (mi_w (a + D2 59 t 5)) (t + 1) := fun f a t x y => by
    conv => lhs; unfold B_X9_allForced_4
    rw [if_neg (by omega), if_pos ⟨x, y⟩, pu_letE, e t x y, pu_w (x := t + 1) (by omega) (by omega)]
  unfold B_X9_allForced
  rw [show mi_fuel = 3993 + 1 + 1 + 1 + 1 + 1 + 1 + 1 from rfl, s _ _ _ (by decide) (by decide), s _ _ _ (by decide) (by decide), s _ _ _ (by decide) (by decide), s _ _ _ (by decide) (by decide), s _ _ _ (by decide) (by decide), s _ _ _ (by decide) (by decide)]
  unfold B_X9_allForced_4
  rw [if_pos (by decide), h.w.fs]
  congr 1
  simp only [pu_wE, Int.reduceAdd]
  omega
theorem pu_told {Z : MiZ} {D1 D2 : MiD} {k : Int} (h : pu_L Z D1 D2) : pu_ans pu_o1 Z D1 D2 (B_X10_told k D1) (B_X11_told k D2) := by
  by_cases c : 0 ≤ k ∧ k ≤ 14
  · have hL := h.z.a
    have hC := h.z.c
    have W := hL.w
    have fE := pu_fuelE
    obtain ⟨b, b1, b2, b3⟩ := pu_told_l (k := k) hL mi_fuel 0 0 (by decide) (by decide) (by omega) (by decide) (by decide)
    have hb : B_X11_told k D2 = B_X11_told_35 1 k b 6 (mi_st D2 40 0 0 0) := by
      unfold B_X11_told B_X11_told_21
      rw [pu_letE, pu_in, if_pos c, if_pos (show (1 : Int) ≠ 0 by decide), if_pos (Or.inl rfl), pu_bdg11, if_pos rfl, if_pos rfl, b1]
    rw [hb]
    have : k = 0 ∨ k = 1 ∨ k = 2 ∨ k = 3 ∨ k = 4 ∨ k = 5 ∨ k = 6 ∨ k = 7 ∨ k = 8 ∨ k = 9 ∨ k = 10 ∨ k = 11 ∨ k = 12 ∨ k = 13 ∨ k = 14 := by omega
    rcases this with rfl | rfl | rfl | rfl | rfl | rfl | rfl | rfl | rfl | rfl | rfl | rfl | rfl | rfl | rfl
    · exact pu_ans.rd h (v := mi_st D2 40 0 0 0 40 0 11) (by unfold B_X10_told; rw [if_pos rfl, hC.pc]) rfl
    · exact pu_ans.rd h (v := mi_st D2 40 0 0 0 65 0 0) (by unfold B_X10_told; rw [W.st]; rfl) rfl
    · have w0 := W.st0
      have w8 := W.st8
      have st := W.st
      generalize hG : mi_st D2 40 0 0 0 = G at *
      have e : ∃ v, B_X9_topmost D1 0 = some v ∧ (if (G 65 0 0) ≠ 0 then (if 0 ≤ (mi_w ((G 65 0 0) - 1)) ∧ (mi_w ((G 65 0 0) - 1)) < 8 then (some ((G 64 0 (mi_w ((G 65 0 0) - 1))), G)) else none) else (some ((-1), G))) = some (v, G) := by
        unfold B_X9_topmost
        rw [st, pu_w (x := G 65 0 0 - 1) (by omega) (by omega)]
        by_cases z : G 65 0 0 = 0
        · rw [if_pos (by omega), if_neg (fun y => y z)]; exact ⟨_, rfl, rfl⟩
        · rw [if_neg (by omega), if_pos z, if_pos (by omega), if_pos (by omega), (W.sk (G 65 0 0 - 1) (by omega) (by omega)).1]; exact ⟨_, rfl, rfl⟩
      obtain ⟨v, v1, v2⟩ := e
      refine pu_ans.rd h (v := v) ?_ (by rw [hG]; exact v2)
      unfold B_X10_told
      rw [if_neg (by decide), if_neg (by decide), if_pos rfl, v1, pu_biE]
    · exact pu_ans.rd h (v := mi_st D2 40 0 0 0 65 0 1) (by unfold B_X10_told; rw [W.tn]; rfl) rfl
    · refine pu_ans.rd h (v := mi_st D2 40 0 0 0 65 0 2) ?_ rfl
      unfold B_X10_told
      rw [if_neg (by decide), if_neg (by decide), if_neg (by decide), if_neg (by decide), if_pos rfl, W.tn]
      by_cases z : mi_st D2 40 0 0 0 65 0 1 = -1
      · rw [if_neg (fun y => y z), W.on' z]
      · rw [if_pos z]
        have := W.on z
        have := W.onb
        by_cases y : D1 2 0 9 = 0
        · rw [if_pos y, ← W.on z, y]
        · rw [if_neg y, ← W.on z, show D1 2 0 9 = 1 by omega]
    · refine pu_ans.rd h (v := b) ?_ rfl
      unfold B_X10_told B_X9_turnedBits
      rw [if_neg (by decide), if_neg (by decide), if_neg (by decide), if_neg (by decide), if_neg (by decide), if_pos rfl, b3 (by decide), pu_biE]
    · refine pu_ans.rd h (v := b) ?_ rfl
      unfold B_X10_told B_X9_idleBits
      rw [if_neg (by decide), if_neg (by decide), if_neg (by decide), if_neg (by decide), if_neg (by decide), if_neg (by decide), if_pos rfl, b2 rfl, pu_biE]
    · exact pu_ans.rd h (v := mi_st D2 40 0 0 0 65 0 3) (by unfold B_X10_told; rw [W.ti]; rfl) rfl
    · exact pu_ans.rd h (v := mi_st D2 40 0 0 0 65 0 4) (by unfold B_X10_told; rw [W.ov]; rfl) rfl
    · exact pu_ans.rd h (v := mi_st D2 40 0 0 0 65 0 5) (by unfold B_X10_told; rw [pu_forced_l hL]; rfl) rfl
    · exact pu_ans.rd h (v := mi_st D2 40 0 0 0 65 0 6) (by unfold B_X10_told; rw [W.tp]; rfl) rfl
    · exact pu_ans.rd h (v := mi_st D2 40 0 0 0 65 0 7) (by unfold B_X10_told; rw [W.pt]; rfl) rfl
    · obtain ⟨v, v1, v2⟩ := pu_places hL.d
      refine pu_ans.rd h (v := v) (by unfold B_X10_told; rw [v1]; rfl) ?_
      unfold B_X11_told_35
      rw [if_pos (by decide), if_neg (by decide), if_neg (by decide), if_neg (by decide), if_neg (by decide), if_neg (by decide), if_neg (by decide), if_neg (by decide), if_neg (by decide), if_neg (by decide), if_neg (by decide), if_neg (by decide), if_neg (by decide), if_pos rfl, v2, pu_biE]
    · obtain ⟨v, v1, v2⟩ := pu_shadows hL.d
      refine pu_ans.rd h (v := v) (by unfold B_X10_told; rw [v1]; rfl) ?_
      unfold B_X11_told_35
      rw [if_pos (by decide), if_neg (by decide), if_neg (by decide), if_neg (by decide), if_neg (by decide), if_neg (by decide), if_neg (by decide), if_neg (by decide), if_neg (by decide), if_neg (by decide), if_neg (by decide), if_neg (by decide), if_neg (by decide), if_neg (by decide), if_pos rfl, v2, pu_biE]
    · exact pu_ans.rd h (v := mi_st D2 40 0 0 0 40 0 2) (by unfold B_X10_told; rw [hC.tb]; rfl) rfl
  · refine pu_ans.e1 h 1 rfl (by decide) ?_ ?_
    · unfold B_X10_told
      rw [if_neg (by omega), if_neg (by omega), if_neg (by omega), if_neg (by omega), if_neg (by omega), if_neg (by omega), if_neg (by omega), if_neg (by omega), if_neg (by omega), if_neg (by omega), if_neg (by omega), if_neg (by omega), if_neg (by omega), if_neg (by omega), if_neg (by omega), pu_nA]
    · simp only [B_X11_told, B_X11_told_21, pu_letE, pu_in, pu_bdg11, if_neg c]; simp
theorem pu_dof_s {D2 : MiD} {d m k a : Int} (hd : 0 ≤ d ∧ d < 10) (hm : 0 ≤ m ∧ m < 5) (ha : -2147483648 ≤ a ∧ a < 2147483648) {f : Nat} : B_X11_datumOf_57 (f + 1) d k a m D2 = B_X11_datumOf_57 f d k (pu_sb1 (pu_there D2 (10 + 5 * d + m)) a m) (m + 1) D2 := by
  have hr := pu_rB hd (m := m) (by omega)
  have hr' : pu_r d m = 10 + 5 * d + m := by unfold pu_r; rw [if_neg (by omega)]
  conv => lhs; unfold B_X11_datumOf_57
  unfold B_X11_datumOf_89
  rw [if_neg (by omega), pu_rowOf hd (by omega), if_pos (by omega), hr', pu_w (x := m + 1) (by omega) (by omega), pu_or0 ha.1 ha.2]
  unfold pu_sb1 pu_there
  by_cases c : D2 52 0 (10 + 5 * d + m) = 12
  · rw [if_pos c, if_neg (by simp [c])]
  · rw [if_neg c, if_pos (by simp [c])]
theorem pu_sb1r {a : Bool} {x k : Int} (h : -2147483648 ≤ x ∧ x < 2147483648) : -2147483648 ≤ pu_sb1 a x k ∧ pu_sb1 a x k < 2147483648 := by
  unfold pu_sb1
  split
  · exact pu_orr
  · exact h
theorem pu_dofE {D2 : MiD} {d k : Int} (hd : 0 ≤ d ∧ d < 10) : B_X11_datumOf_57 mi_fuel d k 0 0 D2 = B_X11_datumOf_57 1 d k (pu_sb D2 d) 5 D2 := by
  have r0 : -2147483648 ≤ (0 : Int) ∧ (0 : Int) < 2147483648 := by decide
  rw [show mi_fuel = 3994 + 1 + 1 + 1 + 1 + 1 + 1 from rfl, pu_dof_s hd (by decide) r0, pu_dof_s hd (by decide) (pu_sb1r r0), pu_dof_s hd (by decide) (pu_sb1r (pu_sb1r r0)), pu_dof_s hd (by decide) (pu_sb1r (pu_sb1r (pu_sb1r r0))), pu_dof_s hd (by decide) (pu_sb1r (pu_sb1r (pu_sb1r (pu_sb1r r0))))]
  conv => lhs; unfold B_X11_datumOf_57
  conv => rhs; unfold B_X11_datumOf_57
  rw [if_pos (show (5 : Int) ≤ 0 + 1 + 1 + 1 + 1 + 1 by decide), if_pos (show (5 : Int) ≤ 5 by decide)]
  rfl
theorem pu_datumOf {Z : MiZ} {D1 D2 : MiD} {d k : Int} (h : pu_L Z D1 D2) : pu_ans pu_m01 Z D1 D2 (B_X10_datumOf d k D1) (B_X11_datumOf d k D2) := by
  by_cases c : 0 ≤ d ∧ d < 10
  · have hL := h.z.a
    have hR := hL.d.1 d (-1) c.1 c.2 (by decide) (by decide)
    rw [pu_r0] at hR
    have hx := pu_xB (w := 0) (by decide) c (m := -1) (by decide)
    by_cases c2 : 0 ≤ k ∧ k ≤ 2
    · have hb : B_X11_datumOf d k D2 = B_X11_datumOf_57 1 d k (pu_sb (mi_st D2 40 0 0 0) d) 5 (mi_st D2 40 0 0 0) := by
        simp only [B_X11_datumOf, B_X11_datumOf_19, B_X11_datumOf_42, B_X11_isDatum, pu_letE, pu_in, pu_bdg10, pu_bdg21, pu_dofE c]
        grind
      rw [hb]
      have : k = 0 ∨ k = 1 ∨ k = 2 := by omega
      rcases this with rfl | rfl | rfl
      · refine pu_ans.rd h (v := mi_st D2 40 0 0 0 52 0 d) ?_ ?_
        · simp only [B_X10_datumOf, pu_within, if_pos c, pu_nEg, pu_rowAt c (show -1 ≤ (-1 : Int) ∧ (-1 : Int) < 5 by decide), pu_biE, if_pos hx, hR.1.1]
          rfl
        · unfold B_X11_datumOf_57
          rw [if_pos (by decide), if_neg (by decide), if_pos (by omega)]
      · refine pu_ans.rd h (v := mi_st D2 40 0 0 0 53 0 d) ?_ ?_
        · simp only [B_X10_datumOf, pu_within, if_pos c, pu_nEg, pu_rowAt c (show -1 ≤ (-1 : Int) ∧ (-1 : Int) < 5 by decide), pu_biE, if_pos hx, hR.1.2.1]
          rfl
        · unfold B_X11_datumOf_57
          rw [if_pos (by decide), if_pos (by decide), if_neg (by decide), if_pos (by omega)]
      · refine pu_ans.rd h (v := pu_sb (mi_st D2 40 0 0 0) d) ?_ ?_
        · simp only [B_X10_datumOf, pu_within, if_pos c, pu_nEg, pu_rowAt c (show -1 ≤ (-1 : Int) ∧ (-1 : Int) < 5 by decide), pu_biE, if_pos hx, pu_sbE (by decide) hL.d c]
          rfl
        · unfold B_X11_datumOf_57
          rw [if_pos (by decide), if_pos (by decide), if_pos (by decide)]
    · refine pu_ans.e1 h 2 rfl (by decide) ?_ ?_
      · simp only [B_X10_datumOf, pu_within, if_pos c, pu_nEg, pu_nAg, pu_rowAt c (show -1 ≤ (-1 : Int) ∧ (-1 : Int) < 5 by decide), pu_biE, if_pos hx]
        grind
      · simp only [B_X11_datumOf, B_X11_datumOf_19, B_X11_datumOf_42, B_X11_isDatum, pu_letE, pu_in, pu_bdg10, pu_bdg21]
        grind
  · refine pu_ans.e0 h rfl ?_ ?_
    · simp only [B_X10_datumOf, pu_within, if_neg c, pu_nEg]; simp
    · simp only [B_X11_datumOf, B_X11_datumOf_19, B_X11_isDatum, pu_letE, pu_in, pu_bdg10]
      grind
