/-! ===== writes ===== -/
/-- M with number v at region r, index x, slot k -/
def mi_pD (M : MiM) (r : Nat) (x k v : Int) : MiM := (mi_st M.1 r x k v, M.2)
/-- M with reference v there -/
def mi_pL (M : MiM) (r : Nat) (x k v : Int) : MiM := (M.1, (mi_st M.2.1 r x k v, M.2.2))
theorem mi_st_ne {f : MiD} {r r' : Nat} {x x' k v : Int} (h : ¬ (r' = r ∧ x' = x)) : mi_st f r x k v r' x' = f r' x' := by
  funext i
  unfold mi_st
  rw [if_neg]
  rintro ⟨h1, h2, -⟩
  exact h ⟨h1, h2⟩
theorem mi_st_r {f : MiD} {r r' : Nat} {x x' k k' v : Int} (h : r' ≠ r) : mi_st f r x k v r' x' k' = f r' x' k' := by
  unfold mi_st
  rw [if_neg]
  rintro ⟨h1, -⟩
  exact h h1
theorem mi_st_eq {f : MiD} {r : Nat} {x k v : Int} : mi_st f r x k v r x k = v := by unfold mi_st; rw [if_pos ⟨rfl, rfl, rfl⟩]
theorem mi_st_k {f : MiD} {r : Nat} {x x' k k' v : Int} (h : k' ≠ k) : mi_st f r x k v r x' k' = f r x' k' := by
  unfold mi_st
  rw [if_neg]
  rintro ⟨-, -, h1⟩
  exact h h1
theorem mi_pD_c {M : MiM} {r : Nat} {x k v : Int} (h : r ≠ 0) : (mi_pD M r x k v).2.2 = M.2.2 ∧ (mi_pD M r x k v).1 0 0 0 = M.1 0 0 0 ∧ (mi_pD M r x k v).1 0 0 1 = M.1 0 0 1 := ⟨rfl, mi_st_r (Ne.symm h), mi_st_r (Ne.symm h)⟩
theorem mi_r0 {r : Nat} (h : mi_rk r < 9) : r ≠ 0 := by
  rintro rfl
  exact absurd h (by decide)
theorem mi_pD_at {M : MiM} {r : Nat} {x i v q : Int} : (mi_pD M r x i v).1 r x q = if q = i then v else M.1 r x q := by
  show mi_st M.1 r x i v r x q = _
  by_cases h : q = i
  · subst h; rw [mi_st_eq, if_pos rfl]
  · rw [mi_st_k h, if_neg h]
theorem mi_pL_at {M : MiM} {r : Nat} {x i v q : Int} : (mi_pL M r x i v).2.1 r x q = if q = i then v else M.2.1 r x q := by
  show mi_st M.2.1 r x i v r x q = _
  by_cases h : q = i
  · subst h; rw [mi_st_eq, if_pos rfl]
  · rw [mi_st_k h, if_neg h]
section MiStore
variable {μ : MiI} {pc : Nat} {ls st : List MiV} {M : MiM}
theorem mi_iastoreG {r : Nat} {x i v : Int} (hdg : decode μ.2.1 pc = .ok (.iastore, 1)) (hk : mi_rk r = 0) (h0 : 0 ≤ x) (hi0 : 0 ≤ i) (hi1 : i < mi_rn r) : MiStepM μ pc ls ((0, v) :: (0, i) :: (r + 2, x) :: st) M (pc + 1) ls st (mi_pD M r x i v) := by
  refine ⟨mi_pD_c (mi_r0 (by rw [hk]; decide)), ?_⟩
  intro gl p l e R s m args below meth c A C0 H locs cells slots lsA stA ad Q hS hR hL hst kk
  have hst_ := hst.cons
  clear hst
  obtain ⟨_, _, rfl, ⟨y, rfl, hy⟩, hst⟩ := hst_
  have hst_ := hst.cons
  clear hst
  obtain ⟨_, _, rfl, ⟨j, rfl, hj⟩, hst⟩ := hst_
  have hst_ := hst.cons
  clear hst
  obtain ⟨_, _, rfl, hv, hst⟩ := hst_
  rcases hv with ⟨z, -⟩ | ⟨-, h1, rfl⟩
  · exact absurd z (by omega)
  obtain ⟨hA, e0, hat, hen⟩ := hR.1 r x (by rw [hk]; decide) h0 h1
  obtain ⟨f, rfl, e2⟩ := mi_en0 hk hen
  obtain ⟨g1, g2, g3⟩ := mi_idx hj hi0 hi1
  have hK := C0.2.2.2.2.2.2.2.2.1.1
  refine W.iast C0.1 C0.2.1 hat ((hK.2 0 (gl.2.1 0, .int) rfl).1 (mi_rn r) (fun j => .int (f j))) (fun q => by cases q) (by show ¬ (j < 0 ∨ (arrV _ _ _).slots.size ≤ _); rw [arrV_size]; exact g1) rfl rfl hdg fun H1 e1 z1 oq => ?_
  have hat1 : va_at gl.1 vwCl (ad r x, .inl (gl.2.1 0, mi_rn r, .inl (upd f j.toNatClampNeg y))) H1 := by
    show H1[ad r x]? = some (vp_cell _ _)
    rw [e1]
    rw [vp_cell_i, vp_cell_i, arrV_store]
    congr 2
    funext q
    by_cases hq : q = j.toNatClampNeg
    · subst hq; simp [updV, upd]
    · simp [updV, upd, hq]
  refine kk _ _ H1 _ (hS.put z1 oq hA) (hR.set (by rw [hk]; decide) h0 h1 rfl hat1 ?_ oq (fun r' x' hn => ⟨mi_st_ne hn, rfl⟩)) hL hst
  unfold mi_en
  rw [hk]
  refine ⟨_, rfl, fun q hq => ?_⟩
  rw [mi_pD_at]
  unfold upd
  by_cases hqj : q = j.toNatClampNeg
  · subst hqj
    rw [if_pos rfl, if_pos g3]
    exact hy
  · rw [if_neg hqj, if_neg (by omega)]
    exact e2 q hq
theorem mi_bastoreG {r : Nat} {x i v : Int} (hdg : decode μ.2.1 pc = .ok (.bastore, 1)) (hk : mi_rk r = 4) (h0 : 0 ≤ x) (hi0 : 0 ≤ i) (hi1 : i < mi_rn r) : MiStepM μ pc ls ((0, v) :: (0, i) :: (r + 2, x) :: st) M (pc + 1) ls st (mi_pD M r x i (mi_b v)) := by
  refine ⟨mi_pD_c (mi_r0 (by rw [hk]; decide)), ?_⟩
  intro gl p l e R s m args below meth c A C0 H locs cells slots lsA stA ad Q hS hR hL hst kk
  have hst_ := hst.cons
  clear hst
  obtain ⟨_, _, rfl, ⟨y, rfl, hy⟩, hst⟩ := hst_
  have hst_ := hst.cons
  clear hst
  obtain ⟨_, _, rfl, ⟨j, rfl, hj⟩, hst⟩ := hst_
  have hst_ := hst.cons
  clear hst
  obtain ⟨_, _, rfl, hv, hst⟩ := hst_
  rcases hv with ⟨z, -⟩ | ⟨-, h1, rfl⟩
  · exact absurd z (by omega)
  obtain ⟨hA, e0, hat, hen⟩ := hR.1 r x (by rw [hk]; decide) h0 h1
  obtain ⟨f, rfl, e2⟩ := mi_en4 hk hen
  obtain ⟨g1, g2, g3⟩ := mi_idx hj hi0 hi1
  have hK := C0.2.2.2.2.2.2.2.2.1.1
  refine W.bast C0.1 C0.2.1 hat ((hK.2 2 (gl.2.1 2, .byte) rfl).1 (mi_rn r) (fun j => .int (f j))) (fun q => by cases q) (by show ¬ (j < 0 ∨ (arrV _ _ _).slots.size ≤ _); rw [arrV_size]; exact g1) rfl rfl hdg fun H1 e1 z1 oq => ?_
  have hat1 : va_at gl.1 vwCl (ad r x, .inl (gl.2.1 2, mi_rn r, .inl (upd f j.toNatClampNeg y.toInt8.toInt32))) H1 := by
    show H1[ad r x]? = some (vp_cell _ _)
    rw [e1]
    rw [vp_cell_i, vp_cell_i, arrV_store]
    congr 2
    funext q
    by_cases hq : q = j.toNatClampNeg
    · subst hq; simp [updV, upd]; rfl
    · simp [updV, upd, hq]
  refine kk _ _ H1 _ (hS.put z1 oq hA) (hR.set (by rw [hk]; decide) h0 h1 rfl hat1 ?_ oq (fun r' x' hn => ⟨mi_st_ne hn, rfl⟩)) hL hst
  unfold mi_en
  rw [hk]
  refine ⟨_, rfl, fun q hq => ?_⟩
  rw [mi_pD_at]
  unfold upd
  by_cases hqj : q = j.toNatClampNeg
  · subst hqj
    rw [if_pos rfl, if_pos g3, Int8.toInt_toInt32, Int32.toInt_toInt8, hy]
    rfl
  · rw [if_neg hqj, if_neg (by omega)]
    exact e2 q hq
theorem mi_lastoreG {r : Nat} {x i v : Int} (hdg : decode μ.2.1 pc = .ok (.lastore, 1)) (hk : mi_rk r = 1) (h0 : 0 ≤ x) (hi0 : 0 ≤ i) (hi1 : i < mi_rn r) : MiStepM μ pc ls ((1, v) :: (0, i) :: (r + 2, x) :: st) M (pc + 1) ls st (mi_pD M r x i v) := by
  refine ⟨mi_pD_c (mi_r0 (by rw [hk]; decide)), ?_⟩
  intro gl p l e R s m args below meth c A C0 H locs cells slots lsA stA ad Q hS hR hL hst kk
  have hst_ := hst.cons
  clear hst
  obtain ⟨_, _, rfl, ⟨y, rfl, hy⟩, hst⟩ := hst_
  have hst_ := hst.cons
  clear hst
  obtain ⟨_, _, rfl, ⟨j, rfl, hj⟩, hst⟩ := hst_
  have hst_ := hst.cons
  clear hst
  obtain ⟨_, _, rfl, hv, hst⟩ := hst_
  rcases hv with ⟨z, -⟩ | ⟨-, h1, rfl⟩
  · exact absurd z (by omega)
  obtain ⟨hA, e0, hat, hen⟩ := hR.1 r x (by rw [hk]; decide) h0 h1
  obtain ⟨f, rfl, e2⟩ := mi_en1 hk hen
  obtain ⟨g1, g2, g3⟩ := mi_idx hj hi0 hi1
  have hK := C0.2.2.2.2.2.2.2.2.1.1
  refine W.last C0.1 C0.2.1 hat ((hK.2 1 (gl.2.1 1, .long) rfl).1 (mi_rn r) (fun j => .long (f j))) (fun q => by cases q) (by show ¬ (j < 0 ∨ (arrV _ _ _).slots.size ≤ _); rw [arrV_size]; exact g1) rfl rfl hdg fun H1 e1 z1 oq => ?_
  have hat1 : va_at gl.1 vwCl (ad r x, .inl (gl.2.1 1, mi_rn r, .inr (.inl (va_up f j.toNatClampNeg y)))) H1 := by
    show H1[ad r x]? = some (vp_cell _ _)
    rw [e1]
    rw [vp_cell_l, vp_cell_l, arrV_store]
    congr 2
    funext q
    by_cases hq : q = j.toNatClampNeg
    · subst hq; simp [updV, va_up]
    · simp [updV, va_up, hq]
  refine kk _ _ H1 _ (hS.put z1 oq hA) (hR.set (by rw [hk]; decide) h0 h1 rfl hat1 ?_ oq (fun r' x' hn => ⟨mi_st_ne hn, rfl⟩)) hL hst
  unfold mi_en
  rw [hk]
  refine ⟨_, rfl, fun q hq => ?_⟩
  rw [mi_pD_at]
  unfold va_up
  by_cases hqj : q = j.toNatClampNeg
  · subst hqj
    rw [if_pos rfl, if_pos g3]
    exact hy
  · rw [if_neg hqj, if_neg (by omega)]
    exact e2 q hq
/-- an object of ours into a row of references to its class -/
theorem mi_aastoreG {r t : Nat} {x i v : Int} {C : String} {T : u_T} {N : Nat} {ty : Nat → FieldType} (hdg : decode μ.2.1 pc = .ok (.aastore, 1)) (hk : mi_rk r = 2) (hC : MiC t C T N ty) (hrt : mi_rt r 0 = t + 2) (hc : mi_rc r < 11 ∧ mi_ty.getD (mi_rc r) .int = .object C) (h0 : 0 ≤ x) (hv0 : 0 ≤ v) (hi0 : 0 ≤ i) (hi1 : i < mi_rn r) : MiStepM μ pc ls ((t + 2, v) :: (0, i) :: (r + 2, x) :: st) M (pc + 1) ls st (mi_pL M r x i v) := by
  refine ⟨⟨rfl, rfl, rfl⟩, ?_⟩
  intro gl p l e R s m args below meth c A C0 H locs cells slots lsA stA ad Q hS hR hL hst kk
  have hst_ := hst.cons
  clear hst
  obtain ⟨_, _, rfl, hvv, hst⟩ := hst_
  have hst_ := hst.cons
  clear hst
  obtain ⟨_, _, rfl, ⟨j, rfl, hj⟩, hst⟩ := hst_
  have hst_ := hst.cons
  clear hst
  obtain ⟨_, _, rfl, hv, hst⟩ := hst_
  rcases hv with ⟨z, -⟩ | ⟨-, h1, rfl⟩
  · exact absurd z (by omega)
  rcases hvv with ⟨z, -⟩ | ⟨-, hv1, rfl⟩
  · exact absurd z (by omega)
  obtain ⟨hA, e0, hat, hen⟩ := hR.1 r x (by rw [hk]; decide) h0 h1
  obtain ⟨g, rfl, e2⟩ := mi_en2 hk hen
  obtain ⟨g1, g2, g3⟩ := mi_idx hj hi0 hi1
  obtain ⟨c1, c2, c3, c4, c5, c6, c7⟩ := hC
  obtain ⟨-, e9, hat9, hen9⟩ := hR.1 t v (by rw [c1]; decide) hv0 hv1
  obtain ⟨fs9, rfl, -⟩ := mi_en3 c1 hen9
  obtain ⟨r9, hr9, cellV, q1, q2, q3, -⟩ := hat9
  have hK := C0.2.2.2.2.2.2.2.2.1.1
  have hcls := (hK.1 _ _ c2).2
  have ht : (mi_tl gl)[mi_rc r]? = some (gl.2.1 (mi_rc r), .object C) := by
    unfold mi_tl
    rw [List.getElem?_map, List.getElem?_range hc.1, ← hc.2]; rfl
  obtain ⟨kA, comp, k1, k2, k3, -⟩ := (hK.2 _ _ ht).2
  have hcomp : comp = gl.1.1 (mi_rc t) := Option.some.inj (k3.symm.trans hcls.1)
  subst hcomp
  obtain ⟨kC, hkC, -⟩ := hcls.2
  have h0j : ¬ j < 0 := fun q => g1 (Or.inl q)
  refine W.aast C0.1 C0.2.1 hat (fun q h => by cases h) (fun h => by cases h) k1 k2 rfl hkC ⟨h0j, by show _ < (arrV _ _ _).slots.size; rw [arrV_size]; exact g2⟩ q1 (fun q h => by rw [q3] at h; cases h) (by rw [q2]; exact hkC) (by rw [q2]; exact va_assign hcls) rfl rfl hdg fun H1 e1 z1 oq => ?_
  have hat1 : va_at gl.1 vwCl (ad r x, .inl (gl.2.1 (mi_rc r), mi_rn r, .inr (.inr (.inr (.inr (va_up g j.toNatClampNeg (some (ad t v)))))))) H1 := by
    show H1[ad r x]? = some (vp_cell _ _)
    rw [e1]
    rw [vp_cell_q, vp_cell_q, arrV_store]
    congr 2
    funext q
    by_cases hq : q = j.toNatClampNeg
    · subst hq; simp [updV, va_up, va_rf]
    · simp [updV, va_up, hq]
  refine kk _ _ H1 _ (hS.put z1 oq hA) (hR.set (by rw [hk]; decide) h0 h1 rfl hat1 ?_ oq (fun r' x' hn => ⟨rfl, mi_st_ne hn⟩)) hL hst
  unfold mi_en
  rw [hk]
  refine ⟨_, rfl, fun q hq => ?_⟩
  rw [mi_pL_at]
  unfold va_up
  by_cases hqj : q = j.toNatClampNeg
  · subst hqj
    rw [if_pos rfl, if_pos g3, hrt]
    exact Or.inr ⟨hv0, hv1, rfl⟩
  · rw [if_neg hqj, if_neg (by omega)]
    exact e2 q hq
/-- what may be put into a slot of type ty, and is it then -/
def mi_ok (ty : FieldType) (v : MiV) : Prop := (ty = .int ∧ v.1 = 0) ∨ (ty = .long ∧ v.1 = 1) ∨ (ty = .boolean ∧ v.1 = 0 ∧ (v.2 = 0 ∨ v.2 = 1)) ∨ (2 ≤ v.1 ∧ ((∃ n, ty = .object n) ∨ ∃ t, ty = .array t))
theorem mi_ok_fit {ad : Nat → Int → Nat} {cn : Nat → Int} {ty : FieldType} {v : MiV} {w : Value} (h : mi_ok ty v) (hv : mi_vr ad cn v w) : narrow ty w = w ∧ fits ty w = true := by
  obtain ⟨t, x⟩ := v
  rcases h with ⟨rfl, h⟩ | ⟨rfl, h⟩ | ⟨rfl, h, h2⟩ | ⟨h, h2⟩
  · obtain rfl : t = 0 := h
    obtain ⟨i, rfl, -⟩ := hv
    exact ⟨rfl, rfl⟩
  · obtain rfl : t = 1 := h
    obtain ⟨i, rfl, -⟩ := hv
    exact ⟨rfl, rfl⟩
  · obtain rfl : t = 0 := h
    obtain ⟨i, rfl, hi⟩ := hv
    rcases h2 with h2 | h2
    · have : i = 0 := Int32.toInt_inj.mp (hi.trans h2)
      subst this; exact ⟨rfl, by decide⟩
    · have : i = 1 := Int32.toInt_inj.mp (hi.trans h2)
      subst this; exact ⟨rfl, by decide⟩
  · obtain ⟨r, rfl⟩ : ∃ r, t = r + 2 := ⟨t - 2, by have : 2 ≤ t := h; omega⟩
    rcases hv with ⟨-, rfl⟩ | ⟨-, -, rfl⟩ <;> rcases h2 with ⟨n, rfl⟩ | ⟨n, rfl⟩ <;> exact ⟨rfl, rfl⟩
/-- M with v in field k of the object r, x -/
def mi_pf (M : MiM) (r : Nat) (x : Int) (k : Nat) (v : MiV) : MiM := if v.1 < 2 then mi_pD M r x k v.2 else mi_pL M r x k v.2
theorem mi_put_en {gl : MiG} {ad : Nat → Int → Nat} {r k N : Nat} {x : Int} {v : MiV} {w : Value} {fs : List Value} (c1 : mi_rk r = 3) (hk : k < mi_rn r) (hl : fs.length = mi_rn r) (ht : mi_rt r k = v.1) (hv : mi_vr ad M.2.2 v w) (h : ∀ k : Nat, k < mi_rn r → ∃ w, fs[k]? = some w ∧ mi_vr ad M.2.2 (mi_fv M r x k) w) : mi_en gl ad (mi_pf M r x k v) r x (.inr (mi_rc r, fs.set k w)) := by
  have hc : (mi_pf M r x k v).2.2 = M.2.2 := by unfold mi_pf; split <;> rfl
  unfold mi_en
  rw [c1]
  refine ⟨_, rfl, by rw [List.length_set]; exact hl, fun j hj => ?_⟩
  rw [hc]
  by_cases e : j = k
  · subst e
    refine ⟨w, List.getElem?_set_self (by omega), ?_⟩
    have hf : mi_fv (mi_pf M r x j v) r x j = v := by
      unfold mi_fv mi_pf
      rw [ht]
      by_cases h2 : v.1 < 2
      · rw [if_pos h2, if_pos h2, mi_pD_at, if_pos rfl]
      · rw [if_neg h2, if_neg h2, mi_pL_at, if_pos rfl]
    rw [hf]; exact hv
  · obtain ⟨w', a1, a2⟩ := h j hj
    refine ⟨w', by rw [List.getElem?_set_ne (Ne.symm e)]; exact a1, ?_⟩
    have hf : mi_fv (mi_pf M r x k v) r x j = mi_fv M r x j := by
      unfold mi_fv mi_pf
      by_cases h2 : v.1 < 2
      · rw [if_pos h2, mi_pD_at, if_neg (show ¬ ((j : Int) = (k : Int)) by omega)]; rfl
      · rw [if_neg h2, mi_pL_at, if_neg (show ¬ ((j : Int) = (k : Int)) by omega)]; rfl
    rw [hf]; exact a2
theorem mi_pf_c {r k : Nat} {x : Int} {v : MiV} (h : r ≠ 0) : (mi_pf M r x k v).2.2 = M.2.2 ∧ (mi_pf M r x k v).1 0 0 0 = M.1 0 0 0 ∧ (mi_pf M r x k v).1 0 0 1 = M.1 0 0 1 := by
  unfold mi_pf
  split
  · exact mi_pD_c h
  · exact ⟨rfl, rfl, rfl⟩
theorem mi_pf_ne {r k : Nat} {x : Int} {v : MiV} {r' : Nat} {x' : Int} (h : ¬ (r' = r ∧ x' = x)) : (mi_pf M r x k v).1 r' x' = M.1 r' x' ∧ (mi_pf M r x k v).2.1 r' x' = M.2.1 r' x' := by
  unfold mi_pf
  split
  · exact ⟨mi_st_ne h, rfl⟩
  · exact ⟨rfl, mi_st_ne h⟩
theorem mi_putf {r k ix : Nat} {x : Int} {C : String} {T : u_T} {N : Nat} {ty : Nat → FieldType} {v : MiV} {M' : MiM} (hdg : decode μ.2.1 pc = .ok (.putfield ix, 3)) (hC : MiC r C T N ty) (hk : k < N) (hT : (T k).1 = C) (hfin : (T k).2.2.2 = false) (hw : Cond.fieldLink μ.1.cls ix C (T k).2.1 (T k).2.2.1 ∈ mi_tb) (h0 : 0 ≤ x) (ht : mi_rt r k = v.1) (hok : mi_ok (ty k) v) (hM : mi_pf M r x k v = M') : MiStepM μ pc ls (v :: (r + 2, x) :: st) M (pc + 3) ls st M' := by
  subst hM
  refine ⟨mi_pf_c hC.2.2.2.2.2.2, ?_⟩
  intro gl p l e R s m args below meth c A C0 H locs cells slots lsA stA ad Q hS hR hL hst kk
  obtain ⟨c1, c2, c3, c4, c5, c6, c7⟩ := hC
  have hst_ := hst.cons
  clear hst
  obtain ⟨w, _, rfl, hvv, hst⟩ := hst_
  have hst_ := hst.cons
  clear hst
  obtain ⟨_, _, rfl, hv, hst⟩ := hst_
  rcases hv with ⟨z, -⟩ | ⟨-, h1, rfl⟩
  · exact absurd z (by omega)
  obtain ⟨hA, e0, hat, hen⟩ := hR.1 r x (by rw [c1]; decide) h0 h1
  obtain ⟨fs, rfl, e2, e3⟩ := mi_en3 c1 hen
  obtain ⟨hn, hfit⟩ := mi_ok_fit hok hvv
  have hK := C0.2.2.2.2.2.2.2.2.1.1
  have hts := C0.2.2.2.2.2.2.2.1
  have hown := C0.2.2.2.2.2.1
  have hap := va_apart (own := C) hts c4 ty c5 c6 hK c2
  obtain ⟨r9, h9, cell, q1, q2, q3, q4⟩ := hat
  have hr : r9 = (C, T, N) := Option.some.inj (h9.symm.trans c2)
  subst hr
  obtain ⟨hSl, hfc, kC, hkC, hkind⟩ := hK.1 _ _ c2
  obtain ⟨cf, kf, fi, f, hi, hsl⟩ := hSl k hk
  have hlay := hts _ (c4 _ (u_in_lay hk))
  unfold u_lay at hlay
  rw [if_neg (by rw [hfin]; decide)] at hlay
  have hstat := (u_facts hfc hkC (u_lays hts c4 hk) hi).1
  have h6 := u_store hfc hkC hkind hlay hi (c5 k hk) hn hfit
  have hi' : s.fieldFound? C (T k).2.1 (T k).2.2.1 = some (cf, kf, fi, f) := by rw [← hT]; exact hi
  refine W.putK C0.1 C0.2.1 (f := f) ⟨hown, hts _ hw, ⟨_, _, _, hi'⟩, hstat⟩ (by rw [q2]; exact h6) q1 q3 (by rw [hsl]; exact k2_hasslot (q4 k hk)) rfl rfl hdg fun H' e1 e4 e5 => ?_
  rw [hsl] at e1
  have hlen : k < fs.length := by rw [e2, c3]; exact hk
  have hat1 : va_at gl.1 vwCl (ad r x, .inr (mi_rc r, fs.set k w)) H' := ⟨_, c2, t_OB.to (V := updV (vp_V fs) k w) ⟨_, e1, q2, q3, t_set q4 hap hk w⟩ (fun j _ => vp_updV_set hlen w j)⟩
  exact kk _ _ H' _ (hS.put e4 e5 hA) (hR.set (by rw [c1]; decide) h0 h1 (mi_pf_c c7).1 hat1 (mi_put_en (N := N) c1 (by rw [c3]; exact hk) e2 ht hvv e3) e5 (fun r' x' hn => mi_pf_ne hn)) (by rw [(mi_pf_c c7).1]; exact hL) (by rw [(mi_pf_c c7).1]; exact hst)
/-- a final field, in its class's constructor -/
theorem mi_putF {r k ix : Nat} {x : Int} {C : String} {T : u_T} {N : Nat} {ty : Nat → FieldType} {v : MiV} {M' : MiM} (hdg : decode μ.2.1 pc = .ok (.putfield ix, 3)) (hC : MiC r C T N ty) (hk : k < N) (hT : (T k).1 = C) (hfin : (T k).2.2.2 = true) (hin : μ.1.name = "<init>") (hcl : μ.1.cls = C) (hw : Cond.fieldLink μ.1.cls ix C (T k).2.1 (T k).2.2.1 ∈ mi_tb) (h0 : 0 ≤ x) (ht : mi_rt r k = v.1) (hok : mi_ok (ty k) v) (hM : mi_pf M r x k v = M') : MiStepM μ pc ls (v :: (r + 2, x) :: st) M (pc + 3) ls st M' := by
  subst hM
  refine ⟨mi_pf_c hC.2.2.2.2.2.2, ?_⟩
  intro gl p l e R s m args below meth c A C0 H locs cells slots lsA stA ad Q hS hR hL hst kk
  obtain ⟨c1, c2, c3, c4, c5, c6, c7⟩ := hC
  have hst_ := hst.cons
  clear hst
  obtain ⟨w, _, rfl, hvv, hst⟩ := hst_
  have hst_ := hst.cons
  clear hst
  obtain ⟨_, _, rfl, hv, hst⟩ := hst_
  rcases hv with ⟨z, -⟩ | ⟨-, h1, rfl⟩
  · exact absurd z (by omega)
  obtain ⟨hA, e0, hat, hen⟩ := hR.1 r x (by rw [c1]; decide) h0 h1
  obtain ⟨fs, rfl, e2, e3⟩ := mi_en3 c1 hen
  obtain ⟨hn, hfit⟩ := mi_ok_fit hok hvv
  have hK := C0.2.2.2.2.2.2.2.2.1.1
  have hts := C0.2.2.2.2.2.2.2.1
  have hown := C0.2.2.2.2.2.1
  have hap := va_apart (own := C) hts c4 ty c5 c6 hK c2
  obtain ⟨r9, h9, cell, q1, q2, q3, q4⟩ := hat
  have hr : r9 = (C, T, N) := Option.some.inj (h9.symm.trans c2)
  subst hr
  obtain ⟨hSl, hfc, kC, hkC, hkind⟩ := hK.1 _ _ c2
  obtain ⟨cf, kf, fi, f, hi, hsl⟩ := hSl k hk
  have hlay := hts _ (c4 _ (u_in_lay hk))
  unfold u_lay at hlay
  rw [if_pos hfin] at hlay
  have hstat := (u_facts hfc hkC (u_lays hts c4 hk) hi).1
  have hcf : m.cls = cf := by
    obtain ⟨_, _, c', _, _, _, -, -, hf', -, -, -, hown2, -⟩ := Cond.laysFinal_spec hlay
    have e1 : c' = cf := by have := hi.symm.trans hf'; simp at this; exact this.1.symm
    rw [hT, ← hcl] at hown2
    rw [← e1]; exact Option.some.inj (hown.symm.trans hown2)
  have h6 := u_fits hfc hkC hkind (Or.inr hlay) hi (c5 k hk) hn hfit
  have hi' : s.fieldFound? C (T k).2.1 (T k).2.2.1 = some (cf, kf, fi, f) := by rw [← hT]; exact hi
  refine W.putFinK C0.1 C0.2.1 hown (hts _ hw) hi' hstat hcf (by rw [C0.2.2.2.2.2.2.1]; exact hin) (by rw [q2]; exact h6) q1 q3 (by rw [hsl]; exact k2_hasslot (q4 k hk)) rfl rfl hdg fun H' e1 e4 e5 => ?_
  rw [hsl] at e1
  have hlen : k < fs.length := by rw [e2, c3]; exact hk
  have hat1 : va_at gl.1 vwCl (ad r x, .inr (mi_rc r, fs.set k w)) H' := ⟨_, c2, t_OB.to (V := updV (vp_V fs) k w) ⟨_, e1, q2, q3, t_set q4 hap hk w⟩ (fun j _ => vp_updV_set hlen w j)⟩
  exact kk _ _ H' _ (hS.put e4 e5 hA) (hR.set (by rw [c1]; decide) h0 h1 (mi_pf_c c7).1 hat1 (mi_put_en (N := N) c1 (by rw [c3]; exact hk) e2 ht hvv e3) e5 (fun r' x' hn => mi_pf_ne hn)) (by rw [(mi_pf_c c7).1]; exact hL) (by rw [(mi_pf_c c7).1]; exact hst)
end MiStore
