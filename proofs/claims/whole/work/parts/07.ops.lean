/-! ===== the small machine's steps that leave the memory as it is ===== -/
def mi_w (x : Int) : Int := x.bmod 4294967296
def mi_W (x : Int) : Int := x.bmod 18446744073709551616
def mi_and (x y : Int) : Int := (Int32.ofInt x &&& Int32.ofInt y).toInt
def mi_or (x y : Int) : Int := (Int32.ofInt x ||| Int32.ofInt y).toInt
def mi_shl (x y : Int) : Int := (Int32.ofInt x <<< (Int32.ofInt y &&& 31)).toInt
def mi_shr (x y : Int) : Int := (Int32.ofInt x >>> (Int32.ofInt y &&& 31)).toInt
def mi_ushr (x y : Int) : Int := ((Int32.ofInt x).toUInt32 >>> ((Int32.ofInt y).toUInt32 &&& Int32.toUInt32 31)).toInt32.toInt
def mi_div (x y : Int) : Int := mi_w (x.tdiv y)
def mi_rem (x y : Int) : Int := mi_w (x - mi_w (mi_div x y * y))
def mi_Div (x y : Int) : Int := mi_W (x.tdiv y)
def mi_Rem (x y : Int) : Int := mi_W (x - mi_W (mi_Div x y * y))
def mi_cmp (x y : Int) : Int := if y < x then 1 else if x = y then 0 else -1
def mi_b (x : Int) : Int := x.bmod 256
def mi_s (x : Int) : Int := x.bmod 65536
def mi_c (x : Int) : Int := x % 65536
theorem mi_asI (x : Int32) : Int32.ofInt x.toInt = x := Int32.ofInt_toInt x
def mi_put (l : List MiV) (i : Nat) (v : MiV) : List MiV := ((match i with | 0 => l | j + 1 => if (l.getD j mi_un).1 = 1 then l.set j mi_un else l)).set i v
def mi_put2 (l : List MiV) (i : Nat) (v : MiV) : List MiV := (mi_put l i v).set (i + 1) mi_un
/-- the machine goes from one place to another, nothing but locals and stack changing -/
def MiStep (μ : MiI) (pc : Nat) (ls st : List MiV) (M : MiM) (pc' : Nat) (ls' st' : List MiV) : Prop :=
  ∀ (gl : MiG) (p : Program) (l : Launch) (e : Env) (R : Room) (s : State) (m : MethodId) (args : Array Value) (below : List Frame) (meth : Method) (c : Code) (A : Nat → Prop), mi_cx μ gl p l R s m args meth c A →
    ∀ (H : Heap) (locs : List Loc) (cells slots : Nat) (lsA : Array Slot) (stA : List Value) (ad : Nat → Int → Nat) (Q : State → Prop), va_S A s.heap H locs → mi_rp gl A ad M H → mi_lr ad M.2.2 μ.2.2.1 ls lsA → mi_sr ad M.2.2 st stA →
      (∀ lsA' stA', mi_lr ad M.2.2 μ.2.2.1 ls' lsA' → mi_sr ad M.2.2 st' stA' → W p l e R s m args below meth c H locs cells slots Q (F0 m pc' lsA' stA')) → W p l e R s m args below meth c H locs cells slots Q (F0 m pc lsA stA)
theorem Sim.go {μ : MiI} {pc pc' : Nat} {ls st ls' st' : List MiV} {M : MiM} {o : Option MiO} (h : MiStep μ pc ls st M pc' ls' st') (k : Sim μ pc' ls' st' M o) : Sim μ pc ls st M o := by
  intro r hr
  obtain ⟨hle, K⟩ := k r hr
  refine ⟨hle, fun gl p l e R s m args below meth c A C H locs cells slots lsA stA ad ad0 cn0 k0 n0 S => ?_⟩
  obtain ⟨s1, s2, s3, s4, s5⟩ := S
  exact h gl p l e R s m args below meth c A C H locs cells slots lsA stA ad _ s1 s2 s3 s4 fun lsA' stA' hL hT => K gl p l e R s m args below meth c A C H locs cells slots lsA' stA' ad ad0 cn0 k0 n0 ⟨s1, s2, hL, hT, s5⟩
theorem mi_cat {ad : Nat → Int → Nat} {cn : Nat → Int} {v : MiV} {w : Value} (h : mi_vr ad cn v w) : w.category = if v.1 = 1 then 2 else 1 := by
  obtain ⟨t, x⟩ := v
  match t with
  | 0 => obtain ⟨i, rfl, -⟩ := h; rfl
  | 1 => obtain ⟨i, rfl, -⟩ := h; rfl
  | r + 2 => rcases h with ⟨-, rfl⟩ | ⟨-, -, rfl⟩ <;> (rw [if_neg (show ¬ r + 2 = 1 by omega)]; rfl)
/-- all that the locals hold, as a list -/
def mi_al (ls : Array Slot) : List (Nat × Value) := (List.range ls.size).filterMap (fun (i : Nat) => match ls[i]? with | some (Slot.val w) => some (i, w) | _ => none)
theorem mi_al_has {ls : Array Slot} {nL : Nat} (h1 : ls.size = nL) (h2 : lv_wf ls) : lv_has ls nL (mi_al ls) := by
  refine ⟨h1, h2, fun q hq => ?_⟩
  unfold mi_al at hq
  obtain ⟨i, -, hi⟩ := List.mem_filterMap.mp hq
  split at hi
  · rename_i w hw
    cases hi
    exact hw
  · cases hi
theorem mi_al_mem {ls : Array Slot} {i : Nat} {w : Value} (h : ls[i]? = some (.val w)) : (i, w) ∈ mi_al ls := by
  unfold mi_al
  refine List.mem_filterMap.mpr ⟨i, List.mem_range.mpr (lv_lt h), ?_⟩
  rw [h]
theorem mi_getD {l : List MiV} {i : Nat} {v : MiV} (h : l[i]? = some v) : l.getD i mi_un = v := by rw [List.getD_eq_getElem?_getD, h]; rfl
theorem mi_set_get {l : List MiV} {i j : Nat} {v u : MiV} (h : (l.set i v)[j]? = some u) : (j = i ∧ u = v) ∨ (j ≠ i ∧ l[j]? = some u) := by
  by_cases e : j = i
  · subst e
    rw [List.getElem?_set_self' ] at h
    cases hl : l[j]? with
    | none => rw [hl] at h; cases h
    | some z => rw [hl] at h; cases h; exact Or.inl ⟨rfl, rfl⟩
  · rw [List.getElem?_set_ne (Ne.symm e)] at h
    exact Or.inr ⟨e, h⟩
theorem mi_put_get {l : List MiV} {i j : Nat} {v u : MiV} (h : (mi_put l i v)[j]? = some u) (hu : u.1 ≠ 9999) : (j = i ∧ u = v) ∨ (j ≠ i ∧ l[j]? = some u ∧ (j + 1 = i → u.1 ≠ 1)) := by
  unfold mi_put at h
  rcases mi_set_get h with h | ⟨e, h⟩
  · exact Or.inl h
  · refine Or.inr ⟨e, ?_⟩
    match i, h with
    | 0, h => exact ⟨h, fun z => absurd z (by omega)⟩
    | k + 1, h =>
      dsimp only at h
      split at h
      · rcases mi_set_get h with ⟨e1, e2⟩ | ⟨e1, e2⟩
        · exact absurd (by rw [e2]; rfl) hu
        · exact ⟨e2, fun z => absurd (Nat.succ.inj z) e1⟩
      · rename_i hn
        refine ⟨h, fun z => ?_⟩
        have z' := Nat.succ.inj z
        subst z'
        rw [mi_getD h] at hn
        exact hn
theorem mi_lr.put {ad : Nat → Int → Nat} {cn : Nat → Int} {nL : Nat} {l : List MiV} {ls ls' : Array Slot} {i : Nat} {v : MiV} {w : Value} (hL : mi_lr ad cn nL l ls) (h' : lv_has ls' nL ((i, w) :: (mi_al ls).filter (fun q => !(q.1 == i) && !(q.1 + 1 == i && q.2.category == 2)))) (hv : mi_vr ad cn v w) : mi_lr ad cn nL (mi_put l i v) ls' := by
  refine ⟨h'.1, h'.2.1, fun j u hj hu => ?_⟩
  rcases mi_put_get hj hu with ⟨rfl, rfl⟩ | ⟨e, hj, hk⟩
  · exact ⟨w, h'.2.2 (j, w) List.mem_cons_self, hv⟩
  · obtain ⟨z, hz, hzv⟩ := hL.2.2 j u hj hu
    refine ⟨z, h'.2.2 (j, z) (List.mem_cons_of_mem _ (List.mem_filter.mpr ⟨mi_al_mem hz, ?_⟩)), hzv⟩
    have hc := mi_cat hzv
    by_cases f : j + 1 = i
    · rw [if_neg (hk f)] at hc
      simp [e, hc]
    · simp [e, f]
theorem mi_lr.put2 {ad : Nat → Int → Nat} {cn : Nat → Int} {nL : Nat} {l : List MiV} {ls ls' : Array Slot} {i : Nat} {v : MiV} {w : Value} (hL : mi_lr ad cn nL l ls) (h' : lv_has ls' nL ((i, w) :: (mi_al ls).filter (fun q => !(q.1 == i) && (!(q.1 == i + 1) && !(q.1 + 1 == i && q.2.category == 2))))) (hv : mi_vr ad cn v w) : mi_lr ad cn nL (mi_put2 l i v) ls' := by
  refine ⟨h'.1, h'.2.1, fun j u hj hu => ?_⟩
  unfold mi_put2 at hj
  rcases mi_set_get hj with ⟨-, e2⟩ | ⟨e1, hj⟩
  · exact absurd (by rw [e2]; rfl) hu
  rcases mi_put_get hj hu with ⟨rfl, rfl⟩ | ⟨e, hj, hk⟩
  · exact ⟨w, h'.2.2 (j, w) List.mem_cons_self, hv⟩
  · obtain ⟨z, hz, hzv⟩ := hL.2.2 j u hj hu
    refine ⟨z, h'.2.2 (j, z) (List.mem_cons_of_mem _ (List.mem_filter.mpr ⟨mi_al_mem hz, ?_⟩)), hzv⟩
    have hc := mi_cat hzv
    by_cases f : j + 1 = i
    · rw [if_neg (hk f)] at hc
      simp [e, e1, hc]
    · simp [e, e1, f]
section MiOps
variable {μ : MiI} {pc : Nat} {ls st : List MiV} {M : MiM}
theorem mi_iconst {n : Int} {z : Int} (hdg : decode μ.2.1 pc = .ok (.iconst n, 1)) (hv : (Int32.ofInt n).toInt = z) : MiStep μ pc ls st M (pc + 1) ls ((0, z) :: st) := by
  intro gl p l e R s m args below meth c A C H locs cells slots lsA stA ad Q hS hR hL hT k
  exact lv_iconst C.1 C.2.1 hdg rfl (k _ _ hL ⟨⟨_, rfl, hv⟩, hT⟩)
theorem mi_bipush {n : Int} {z : Int} (hdg : decode μ.2.1 pc = .ok (.bipush n, 2)) (hv : (Int8.ofInt n).toInt32.toInt = z) : MiStep μ pc ls st M (pc + 2) ls ((0, z) :: st) := by
  intro gl p l e R s m args below meth c A C H locs cells slots lsA stA ad Q hS hR hL hT k
  exact lv_bipush C.1 C.2.1 hdg rfl (k _ _ hL ⟨⟨_, rfl, hv⟩, hT⟩)
theorem mi_sipush {n : Int} {z : Int} (hdg : decode μ.2.1 pc = .ok (.sipush n, 3)) (hv : (Int16.ofInt n).toInt32.toInt = z) : MiStep μ pc ls st M (pc + 3) ls ((0, z) :: st) := by
  intro gl p l e R s m args below meth c A C H locs cells slots lsA stA ad Q hS hR hL hT k
  exact lv_sipush C.1 C.2.1 hdg rfl (k _ _ hL ⟨⟨_, rfl, hv⟩, hT⟩)
theorem mi_lconst {n : Fin 2} {z : Int} (hdg : decode μ.2.1 pc = .ok (.lconst n, 1)) (hv : (Int64.ofNat (n : Nat)).toInt = z) : MiStep μ pc ls st M (pc + 1) ls ((1, z) :: st) := by
  intro gl p l e R s m args below meth c A C H locs cells slots lsA stA ad Q hS hR hL hT k
  exact lv_lconst C.1 C.2.1 hdg rfl (k _ _ hL ⟨⟨_, rfl, hv⟩, hT⟩)
theorem mi_ldc {ix : Nat} {v : Int32} {z : Int} (hdg : decode μ.2.1 pc = .ok (.ldc ix, 2)) (hw : Cond.constant μ.1.cls ix v ∈ mi_tb) (hv : v.toInt = z) : MiStep μ pc ls st M (pc + 2) ls ((0, z) :: st) := by
  intro gl p l e R s m args below meth c A C H locs cells slots lsA stA ad Q hS hR hL hT k
  exact lv_ldc C.1 C.2.1 C.2.2.2.2.2.1 (C.2.2.2.2.2.2.2.1 _ hw) hdg (k _ _ hL ⟨⟨_, rfl, hv⟩, hT⟩)
theorem mi_ldcw {ix : Nat} {v : Int32} {z : Int} (hdg : decode μ.2.1 pc = .ok (.ldc_w ix, 3)) (hw : Cond.constant μ.1.cls ix v ∈ mi_tb) (hv : v.toInt = z) : MiStep μ pc ls st M (pc + 3) ls ((0, z) :: st) := by
  intro gl p l e R s m args below meth c A C H locs cells slots lsA stA ad Q hS hR hL hT k
  exact lv_ldcw C.1 C.2.1 C.2.2.2.2.2.1 (C.2.2.2.2.2.2.2.1 _ hw) hdg (k _ _ hL ⟨⟨_, rfl, hv⟩, hT⟩)
theorem mi_ldc2 {ix : Nat} {v : Int64} {z : Int} (hdg : decode μ.2.1 pc = .ok (.ldc2_w ix, 3)) (hw : Cond.constantLong μ.1.cls ix v ∈ mi_tb) (hv : v.toInt = z) : MiStep μ pc ls st M (pc + 3) ls ((1, z) :: st) := by
  intro gl p l e R s m args below meth c A C H locs cells slots lsA stA ad Q hS hR hL hT k
  exact lv_ldc2 C.1 C.2.1 C.2.2.2.2.2.1 (C.2.2.2.2.2.2.2.1 _ hw) hdg (k _ _ hL ⟨⟨_, rfl, hv⟩, hT⟩)
theorem mi_null {r : Nat} (hdg : decode μ.2.1 pc = .ok (.aconst_null, 1)) : MiStep μ pc ls st M (pc + 1) ls ((r + 2, -1) :: st) := by
  intro gl p l e R s m args below meth c A C H locs cells slots lsA stA ad Q hS hR hL hT k
  exact lv_null C.1 C.2.1 hdg (k _ _ hL ⟨Or.inl ⟨by decide, rfl⟩, hT⟩)
theorem mi_iload_n {i : Fin 4} {x : Int} (hdg : decode μ.2.1 pc = .ok (.iload_n i, 1)) (hl : ls[(i : Nat)]? = some (0, x)) : MiStep μ pc ls st M (pc + 1) ls ((0, x) :: st) := by
  intro gl p l e R s m args below meth c A C H locs cells slots lsA stA ad Q hS hR hL hT k
  obtain ⟨_, hw, j, rfl, rfl⟩ := hL.2.2 _ _ hl (by decide : (0 : Nat) ≠ 9999)
  exact lv_iload_n C.1 C.2.1 hdg rfl hw (k _ _ hL ⟨⟨_, rfl, rfl⟩, hT⟩)
theorem mi_iload {i : Nat} {x : Int} (hdg : decode μ.2.1 pc = .ok (.iload i, 2)) (hl : ls[i]? = some (0, x)) : MiStep μ pc ls st M (pc + 2) ls ((0, x) :: st) := by
  intro gl p l e R s m args below meth c A C H locs cells slots lsA stA ad Q hS hR hL hT k
  obtain ⟨_, hw, j, rfl, rfl⟩ := hL.2.2 _ _ hl (by decide : (0 : Nat) ≠ 9999)
  exact lv_iload C.1 C.2.1 hdg hw (k _ _ hL ⟨⟨_, rfl, rfl⟩, hT⟩)
theorem mi_lload_n {i : Fin 4} {x : Int} (hdg : decode μ.2.1 pc = .ok (.lload_n i, 1)) (hl : ls[(i : Nat)]? = some (1, x)) : MiStep μ pc ls st M (pc + 1) ls ((1, x) :: st) := by
  intro gl p l e R s m args below meth c A C H locs cells slots lsA stA ad Q hS hR hL hT k
  obtain ⟨_, hw, j, rfl, rfl⟩ := hL.2.2 _ _ hl (by decide : (1 : Nat) ≠ 9999)
  exact lv_lload_n C.1 C.2.1 hdg rfl hw (k _ _ hL ⟨⟨_, rfl, rfl⟩, hT⟩)
theorem mi_lload {i : Nat} {x : Int} (hdg : decode μ.2.1 pc = .ok (.lload i, 2)) (hl : ls[i]? = some (1, x)) : MiStep μ pc ls st M (pc + 2) ls ((1, x) :: st) := by
  intro gl p l e R s m args below meth c A C H locs cells slots lsA stA ad Q hS hR hL hT k
  obtain ⟨_, hw, j, rfl, rfl⟩ := hL.2.2 _ _ hl (by decide : (1 : Nat) ≠ 9999)
  exact lv_lload C.1 C.2.1 hdg hw (k _ _ hL ⟨⟨_, rfl, rfl⟩, hT⟩)
theorem mi_aload_n {i : Fin 4} {r : Nat} {x : Int} (hdg : decode μ.2.1 pc = .ok (.aload_n i, 1)) (hl : ls[(i : Nat)]? = some (r + 2, x)) (hr : r < 100 := by decide) : MiStep μ pc ls st M (pc + 1) ls ((r + 2, x) :: st) := by
  intro gl p l e R s m args below meth c A C H locs cells slots lsA stA ad Q hS hR hL hT k
  obtain ⟨_, hw, hv⟩ := hL.2.2 _ _ hl (by show r + 2 ≠ 9999; omega)
  rcases hv with ⟨h0, rfl⟩ | ⟨h0, h1, rfl⟩
  · exact lv_aload_nN C.1 C.2.1 hdg rfl hw (k _ _ hL ⟨Or.inl ⟨h0, rfl⟩, hT⟩)
  · exact lv_aload_n C.1 C.2.1 hdg rfl hw (k _ _ hL ⟨Or.inr ⟨h0, h1, rfl⟩, hT⟩)
theorem mi_aload {i : Nat} {r : Nat} {x : Int} (hdg : decode μ.2.1 pc = .ok (.aload i, 2)) (hl : ls[i]? = some (r + 2, x)) (hr : r < 100 := by decide) : MiStep μ pc ls st M (pc + 2) ls ((r + 2, x) :: st) := by
  intro gl p l e R s m args below meth c A C H locs cells slots lsA stA ad Q hS hR hL hT k
  obtain ⟨_, hw, hv⟩ := hL.2.2 _ _ hl (by show r + 2 ≠ 9999; omega)
  rcases hv with ⟨h0, rfl⟩ | ⟨h0, h1, rfl⟩
  · exact lv_aloadN C.1 C.2.1 hdg hw (k _ _ hL ⟨Or.inl ⟨h0, rfl⟩, hT⟩)
  · exact lv_aload C.1 C.2.1 hdg hw (k _ _ hL ⟨Or.inr ⟨h0, h1, rfl⟩, hT⟩)
theorem mi_istore_n {i : Fin 4} {x : Int} {ls1 : List MiV} (hdg : decode μ.2.1 pc = .ok (.istore_n i, 1)) (hn : (i : Nat) < μ.2.2.1) (hp : mi_put ls (i : Nat) (0, x) = ls1) : MiStep μ pc ls ((0, x) :: st) M (pc + 1) ls1 st := by
  subst hp
  intro gl p l e R s m args below meth c A C H locs cells slots lsA stA ad Q hS hR hL hT k
  have hT_ := hT.cons
  clear hT
  obtain ⟨_, _, rfl, ⟨j, rfl, rfl⟩, hT⟩ := hT_
  exact lv_istore_n C.1 C.2.1 hdg rfl (mi_al_has hL.1 hL.2.1) hn rfl fun ls1 h1 => k _ _ (hL.put h1 ⟨_, rfl, rfl⟩) hT
theorem mi_istore {i : Nat} {x : Int} {ls1 : List MiV} (hdg : decode μ.2.1 pc = .ok (.istore i, 2)) (hn : i < μ.2.2.1) (hp : mi_put ls i (0, x) = ls1) : MiStep μ pc ls ((0, x) :: st) M (pc + 2) ls1 st := by
  subst hp
  intro gl p l e R s m args below meth c A C H locs cells slots lsA stA ad Q hS hR hL hT k
  have hT_ := hT.cons
  clear hT
  obtain ⟨_, _, rfl, ⟨j, rfl, rfl⟩, hT⟩ := hT_
  exact lv_istore C.1 C.2.1 hdg (mi_al_has hL.1 hL.2.1) hn rfl fun ls1 h1 => k _ _ (hL.put h1 ⟨_, rfl, rfl⟩) hT
theorem mi_lstore_n {i : Fin 4} {x : Int} {ls1 : List MiV} (hdg : decode μ.2.1 pc = .ok (.lstore_n i, 1)) (hn : (i : Nat) + 1 < μ.2.2.1) (hp : mi_put2 ls (i : Nat) (1, x) = ls1) : MiStep μ pc ls ((1, x) :: st) M (pc + 1) ls1 st := by
  subst hp
  intro gl p l e R s m args below meth c A C H locs cells slots lsA stA ad Q hS hR hL hT k
  have hT_ := hT.cons
  clear hT
  obtain ⟨_, _, rfl, ⟨j, rfl, rfl⟩, hT⟩ := hT_
  exact lv_lstore_n C.1 C.2.1 hdg rfl (mi_al_has hL.1 hL.2.1) hn rfl fun ls1 h1 => k _ _ (hL.put2 h1 ⟨_, rfl, rfl⟩) hT
theorem mi_lstore {i : Nat} {x : Int} {ls1 : List MiV} (hdg : decode μ.2.1 pc = .ok (.lstore i, 2)) (hn : i + 1 < μ.2.2.1) (hp : mi_put2 ls i (1, x) = ls1) : MiStep μ pc ls ((1, x) :: st) M (pc + 2) ls1 st := by
  subst hp
  intro gl p l e R s m args below meth c A C H locs cells slots lsA stA ad Q hS hR hL hT k
  have hT_ := hT.cons
  clear hT
  obtain ⟨_, _, rfl, ⟨j, rfl, rfl⟩, hT⟩ := hT_
  exact lv_lstore C.1 C.2.1 hdg (mi_al_has hL.1 hL.2.1) hn rfl fun ls1 h1 => k _ _ (hL.put2 h1 ⟨_, rfl, rfl⟩) hT
theorem mi_astore_n {i : Fin 4} {r : Nat} {x : Int} {ls1 : List MiV} (hdg : decode μ.2.1 pc = .ok (.astore_n i, 1)) (hn : (i : Nat) < μ.2.2.1) (hp : mi_put ls (i : Nat) (r + 2, x) = ls1) : MiStep μ pc ls ((r + 2, x) :: st) M (pc + 1) ls1 st := by
  subst hp
  intro gl p l e R s m args below meth c A C H locs cells slots lsA stA ad Q hS hR hL hT k
  have hT_ := hT.cons
  clear hT
  obtain ⟨_, _, rfl, hv, hT⟩ := hT_
  rcases id hv with ⟨h0, rfl⟩ | ⟨h0, h1, rfl⟩
  · exact lv_astore_nN C.1 C.2.1 hdg rfl (mi_al_has hL.1 hL.2.1) hn rfl fun ls1 h1 => k _ _ (hL.put h1 hv) hT
  · exact lv_astore_n C.1 C.2.1 hdg rfl (mi_al_has hL.1 hL.2.1) hn rfl fun ls1 h1 => k _ _ (hL.put h1 hv) hT
theorem mi_astore {i : Nat} {r : Nat} {x : Int} {ls1 : List MiV} (hdg : decode μ.2.1 pc = .ok (.astore i, 2)) (hn : i < μ.2.2.1) (hp : mi_put ls i (r + 2, x) = ls1) : MiStep μ pc ls ((r + 2, x) :: st) M (pc + 2) ls1 st := by
  subst hp
  intro gl p l e R s m args below meth c A C H locs cells slots lsA stA ad Q hS hR hL hT k
  have hT_ := hT.cons
  clear hT
  obtain ⟨_, _, rfl, hv, hT⟩ := hT_
  rcases id hv with ⟨h0, rfl⟩ | ⟨h0, h1, rfl⟩
  · exact lv_astoreN C.1 C.2.1 hdg (mi_al_has hL.1 hL.2.1) hn rfl fun ls1 h1 => k _ _ (hL.put h1 hv) hT
  · exact lv_astore C.1 C.2.1 hdg (mi_al_has hL.1 hL.2.1) hn rfl fun ls1 h1 => k _ _ (hL.put h1 hv) hT
theorem mi_iinc {i : Nat} {n x z : Int} {ls1 : List MiV} (hdg : decode μ.2.1 pc = .ok (.iinc i n, 3)) (hn : i < μ.2.2.1) (hl : ls[i]? = some (0, x)) (hz : (Int32.ofInt n).toInt = z) (hp : mi_put ls i (0, mi_w (x + z)) = ls1) : MiStep μ pc ls st M (pc + 3) ls1 st := by
  subst hp
  intro gl p l e R s m args below meth c A C H locs cells slots lsA stA ad Q hS hR hL hT k
  obtain ⟨_, hw, j, rfl, rfl⟩ := hL.2.2 _ _ hl (by decide : (0 : Nat) ≠ 9999)
  obtain ⟨q, hq⟩ := List.getElem?_of_mem (mi_al_mem hw)
  exact lv_iinc C.1 C.2.1 hdg (mi_al_has hL.1 hL.2.1) hq rfl hn rfl fun ls1 h1 => k _ _ (hL.put h1 ⟨_, rfl, by rw [Int32.toInt_add, hz]; rfl⟩) hT
theorem mi_iadd {x y : Int} (hdg : decode μ.2.1 pc = .ok (.iadd, 1)) : MiStep μ pc ls ((0, y) :: (0, x) :: st) M (pc + 1) ls ((0, mi_w (x + y)) :: st) := by
  intro gl p l e R s m args below meth c A C H locs cells slots lsA stA ad Q hS hR hL hT k
  have hT_ := hT.cons
  clear hT
  obtain ⟨_, _, rfl, ⟨j, rfl, rfl⟩, hT⟩ := hT_
  have hT_ := hT.cons
  clear hT
  obtain ⟨_, _, rfl, ⟨i, rfl, rfl⟩, hT⟩ := hT_
  exact lv_iadd C.1 C.2.1 hdg (k _ _ hL ⟨⟨_, rfl, by rw [Int32.toInt_add]; rfl⟩, hT⟩)
theorem mi_isub {x y : Int} (hdg : decode μ.2.1 pc = .ok (.isub, 1)) : MiStep μ pc ls ((0, y) :: (0, x) :: st) M (pc + 1) ls ((0, mi_w (x - y)) :: st) := by
  intro gl p l e R s m args below meth c A C H locs cells slots lsA stA ad Q hS hR hL hT k
  have hT_ := hT.cons
  clear hT
  obtain ⟨_, _, rfl, ⟨j, rfl, rfl⟩, hT⟩ := hT_
  have hT_ := hT.cons
  clear hT
  obtain ⟨_, _, rfl, ⟨i, rfl, rfl⟩, hT⟩ := hT_
  exact lv_isub C.1 C.2.1 hdg (k _ _ hL ⟨⟨_, rfl, by rw [Int32.toInt_sub]; rfl⟩, hT⟩)
theorem mi_imul {x y : Int} (hdg : decode μ.2.1 pc = .ok (.imul, 1)) : MiStep μ pc ls ((0, y) :: (0, x) :: st) M (pc + 1) ls ((0, mi_w (x * y)) :: st) := by
  intro gl p l e R s m args below meth c A C H locs cells slots lsA stA ad Q hS hR hL hT k
  have hT_ := hT.cons
  clear hT
  obtain ⟨_, _, rfl, ⟨j, rfl, rfl⟩, hT⟩ := hT_
  have hT_ := hT.cons
  clear hT
  obtain ⟨_, _, rfl, ⟨i, rfl, rfl⟩, hT⟩ := hT_
  exact lv_imul C.1 C.2.1 hdg (k _ _ hL ⟨⟨_, rfl, by rw [Int32.toInt_mul]; rfl⟩, hT⟩)
theorem mi_ladd {x y : Int} (hdg : decode μ.2.1 pc = .ok (.ladd, 1)) : MiStep μ pc ls ((1, y) :: (1, x) :: st) M (pc + 1) ls ((1, mi_W (x + y)) :: st) := by
  intro gl p l e R s m args below meth c A C H locs cells slots lsA stA ad Q hS hR hL hT k
  have hT_ := hT.cons
  clear hT
  obtain ⟨_, _, rfl, ⟨j, rfl, rfl⟩, hT⟩ := hT_
  have hT_ := hT.cons
  clear hT
  obtain ⟨_, _, rfl, ⟨i, rfl, rfl⟩, hT⟩ := hT_
  exact lv_ladd C.1 C.2.1 hdg (k _ _ hL ⟨⟨_, rfl, by rw [Int64.toInt_add]; rfl⟩, hT⟩)
theorem mi_lsub {x y : Int} (hdg : decode μ.2.1 pc = .ok (.lsub, 1)) : MiStep μ pc ls ((1, y) :: (1, x) :: st) M (pc + 1) ls ((1, mi_W (x - y)) :: st) := by
  intro gl p l e R s m args below meth c A C H locs cells slots lsA stA ad Q hS hR hL hT k
  have hT_ := hT.cons
  clear hT
  obtain ⟨_, _, rfl, ⟨j, rfl, rfl⟩, hT⟩ := hT_
  have hT_ := hT.cons
  clear hT
  obtain ⟨_, _, rfl, ⟨i, rfl, rfl⟩, hT⟩ := hT_
  exact lv_lsub C.1 C.2.1 hdg (k _ _ hL ⟨⟨_, rfl, by rw [Int64.toInt_sub]; rfl⟩, hT⟩)
theorem mi_lmul {x y : Int} (hdg : decode μ.2.1 pc = .ok (.lmul, 1)) : MiStep μ pc ls ((1, y) :: (1, x) :: st) M (pc + 1) ls ((1, mi_W (x * y)) :: st) := by
  intro gl p l e R s m args below meth c A C H locs cells slots lsA stA ad Q hS hR hL hT k
  have hT_ := hT.cons
  clear hT
  obtain ⟨_, _, rfl, ⟨j, rfl, rfl⟩, hT⟩ := hT_
  have hT_ := hT.cons
  clear hT
  obtain ⟨_, _, rfl, ⟨i, rfl, rfl⟩, hT⟩ := hT_
  exact lv_lmul C.1 C.2.1 hdg (k _ _ hL ⟨⟨_, rfl, by rw [Int64.toInt_mul]; rfl⟩, hT⟩)
theorem mi_iand {x y : Int} (hdg : decode μ.2.1 pc = .ok (.iand, 1)) : MiStep μ pc ls ((0, y) :: (0, x) :: st) M (pc + 1) ls ((0, mi_and x y) :: st) := by
  intro gl p l e R s m args below meth c A C H locs cells slots lsA stA ad Q hS hR hL hT k
  have hT_ := hT.cons
  clear hT
  obtain ⟨_, _, rfl, ⟨j, rfl, rfl⟩, hT⟩ := hT_
  have hT_ := hT.cons
  clear hT
  obtain ⟨_, _, rfl, ⟨i, rfl, rfl⟩, hT⟩ := hT_
  exact lv_iand C.1 C.2.1 hdg (k _ _ hL ⟨⟨_, rfl, by unfold mi_and; rw [mi_asI, mi_asI]⟩, hT⟩)
theorem mi_ior {x y : Int} (hdg : decode μ.2.1 pc = .ok (.ior, 1)) : MiStep μ pc ls ((0, y) :: (0, x) :: st) M (pc + 1) ls ((0, mi_or x y) :: st) := by
  intro gl p l e R s m args below meth c A C H locs cells slots lsA stA ad Q hS hR hL hT k
  have hT_ := hT.cons
  clear hT
  obtain ⟨_, _, rfl, ⟨j, rfl, rfl⟩, hT⟩ := hT_
  have hT_ := hT.cons
  clear hT
  obtain ⟨_, _, rfl, ⟨i, rfl, rfl⟩, hT⟩ := hT_
  exact lv_ior C.1 C.2.1 hdg (k _ _ hL ⟨⟨_, rfl, by unfold mi_or; rw [mi_asI, mi_asI]⟩, hT⟩)
theorem mi_ishl {x y : Int} (hdg : decode μ.2.1 pc = .ok (.ishl, 1)) : MiStep μ pc ls ((0, y) :: (0, x) :: st) M (pc + 1) ls ((0, mi_shl x y) :: st) := by
  intro gl p l e R s m args below meth c A C H locs cells slots lsA stA ad Q hS hR hL hT k
  have hT_ := hT.cons
  clear hT
  obtain ⟨_, _, rfl, ⟨j, rfl, rfl⟩, hT⟩ := hT_
  have hT_ := hT.cons
  clear hT
  obtain ⟨_, _, rfl, ⟨i, rfl, rfl⟩, hT⟩ := hT_
  exact lv_ishl C.1 C.2.1 hdg (k _ _ hL ⟨⟨_, rfl, by unfold mi_shl; rw [mi_asI, mi_asI]⟩, hT⟩)
theorem mi_ishr {x y : Int} (hdg : decode μ.2.1 pc = .ok (.ishr, 1)) : MiStep μ pc ls ((0, y) :: (0, x) :: st) M (pc + 1) ls ((0, mi_shr x y) :: st) := by
  intro gl p l e R s m args below meth c A C H locs cells slots lsA stA ad Q hS hR hL hT k
  have hT_ := hT.cons
  clear hT
  obtain ⟨_, _, rfl, ⟨j, rfl, rfl⟩, hT⟩ := hT_
  have hT_ := hT.cons
  clear hT
  obtain ⟨_, _, rfl, ⟨i, rfl, rfl⟩, hT⟩ := hT_
  exact lv_ishr C.1 C.2.1 hdg (k _ _ hL ⟨⟨_, rfl, by unfold mi_shr; rw [mi_asI, mi_asI]⟩, hT⟩)
theorem mi_iushr {x y : Int} (hdg : decode μ.2.1 pc = .ok (.iushr, 1)) : MiStep μ pc ls ((0, y) :: (0, x) :: st) M (pc + 1) ls ((0, mi_ushr x y) :: st) := by
  intro gl p l e R s m args below meth c A C H locs cells slots lsA stA ad Q hS hR hL hT k
  have hT_ := hT.cons
  clear hT
  obtain ⟨_, _, rfl, ⟨j, rfl, rfl⟩, hT⟩ := hT_
  have hT_ := hT.cons
  clear hT
  obtain ⟨_, _, rfl, ⟨i, rfl, rfl⟩, hT⟩ := hT_
  exact lv_iushr C.1 C.2.1 hdg rfl (k _ _ hL ⟨⟨_, rfl, by unfold mi_ushr; rw [mi_asI, mi_asI]⟩, hT⟩)
theorem mi_ineg {x : Int} (hdg : decode μ.2.1 pc = .ok (.ineg, 1)) : MiStep μ pc ls ((0, x) :: st) M (pc + 1) ls ((0, mi_w (-x)) :: st) := by
  intro gl p l e R s m args below meth c A C H locs cells slots lsA stA ad Q hS hR hL hT k
  have hT_ := hT.cons
  clear hT
  obtain ⟨_, _, rfl, ⟨i, rfl, rfl⟩, hT⟩ := hT_
  exact lv_ineg C.1 C.2.1 hdg (k _ _ hL ⟨⟨_, rfl, by rw [Int32.toInt_neg]; rfl⟩, hT⟩)
theorem mi_idiv {x y : Int} (hdg : decode μ.2.1 pc = .ok (.idiv, 1)) (hy : y ≠ 0) : MiStep μ pc ls ((0, y) :: (0, x) :: st) M (pc + 1) ls ((0, mi_div x y) :: st) := by
  intro gl p l e R s m args below meth c A C H locs cells slots lsA stA ad Q hS hR hL hT k
  have hT_ := hT.cons
  clear hT
  obtain ⟨_, _, rfl, ⟨j, rfl, rfl⟩, hT⟩ := hT_
  have hT_ := hT.cons
  clear hT
  obtain ⟨_, _, rfl, ⟨i, rfl, rfl⟩, hT⟩ := hT_
  exact lv_idiv C.1 C.2.1 hdg (fun h => hy (by rw [h]; rfl)) (k _ _ hL ⟨⟨_, rfl, by rw [Int32.toInt_div]; rfl⟩, hT⟩)
theorem mi_ldiv {x y : Int} (hdg : decode μ.2.1 pc = .ok (.ldiv, 1)) (hy : y ≠ 0) : MiStep μ pc ls ((1, y) :: (1, x) :: st) M (pc + 1) ls ((1, mi_Div x y) :: st) := by
  intro gl p l e R s m args below meth c A C H locs cells slots lsA stA ad Q hS hR hL hT k
  have hT_ := hT.cons
  clear hT
  obtain ⟨_, _, rfl, ⟨j, rfl, rfl⟩, hT⟩ := hT_
  have hT_ := hT.cons
  clear hT
  obtain ⟨_, _, rfl, ⟨i, rfl, rfl⟩, hT⟩ := hT_
  exact lv_ldiv C.1 C.2.1 hdg (fun h => hy (by rw [h]; rfl)) (k _ _ hL ⟨⟨_, rfl, by rw [Int64.toInt_div]; rfl⟩, hT⟩)
theorem mi_irem_ {x y : Int} (hdg : decode μ.2.1 pc = .ok (.irem, 1)) (hy : y ≠ 0) : MiStep μ pc ls ((0, y) :: (0, x) :: st) M (pc + 1) ls ((0, mi_rem x y) :: st) := by
  intro gl p l e R s m args below meth c A C H locs cells slots lsA stA ad Q hS hR hL hT k
  have hT_ := hT.cons
  clear hT
  obtain ⟨_, _, rfl, ⟨j, rfl, rfl⟩, hT⟩ := hT_
  have hT_ := hT.cons
  clear hT
  obtain ⟨_, _, rfl, ⟨i, rfl, rfl⟩, hT⟩ := hT_
  exact lv_irem C.1 C.2.1 hdg (fun h => hy (by rw [h]; rfl)) (k _ _ hL ⟨⟨_, rfl, by rw [Int32.toInt_sub, Int32.toInt_mul, Int32.toInt_div]; rfl⟩, hT⟩)
theorem mi_lrem_ {x y : Int} (hdg : decode μ.2.1 pc = .ok (.lrem, 1)) (hy : y ≠ 0) : MiStep μ pc ls ((1, y) :: (1, x) :: st) M (pc + 1) ls ((1, mi_Rem x y) :: st) := by
  intro gl p l e R s m args below meth c A C H locs cells slots lsA stA ad Q hS hR hL hT k
  have hT_ := hT.cons
  clear hT
  obtain ⟨_, _, rfl, ⟨j, rfl, rfl⟩, hT⟩ := hT_
  have hT_ := hT.cons
  clear hT
  obtain ⟨_, _, rfl, ⟨i, rfl, rfl⟩, hT⟩ := hT_
  exact lv_lrem C.1 C.2.1 hdg (fun h => hy (by rw [h]; rfl)) (k _ _ hL ⟨⟨_, rfl, by rw [Int64.toInt_sub, Int64.toInt_mul, Int64.toInt_div]; rfl⟩, hT⟩)
theorem mi_i2l {x : Int} (hdg : decode μ.2.1 pc = .ok (.i2l, 1)) : MiStep μ pc ls ((0, x) :: st) M (pc + 1) ls ((1, x) :: st) := by
  intro gl p l e R s m args below meth c A C H locs cells slots lsA stA ad Q hS hR hL hT k
  have hT_ := hT.cons
  clear hT
  obtain ⟨_, _, rfl, ⟨i, rfl, rfl⟩, hT⟩ := hT_
  exact lv_i2l C.1 C.2.1 hdg rfl (k _ _ hL ⟨⟨_, rfl, Int32.toInt_toInt64 _⟩, hT⟩)
theorem mi_l2i {x : Int} (hdg : decode μ.2.1 pc = .ok (.l2i, 1)) : MiStep μ pc ls ((1, x) :: st) M (pc + 1) ls ((0, mi_w x) :: st) := by
  intro gl p l e R s m args below meth c A C H locs cells slots lsA stA ad Q hS hR hL hT k
  have hT_ := hT.cons
  clear hT
  obtain ⟨_, _, rfl, ⟨i, rfl, rfl⟩, hT⟩ := hT_
  exact lv_l2i C.1 C.2.1 hdg rfl (k _ _ hL ⟨⟨_, rfl, Int64.toInt_toInt32 _⟩, hT⟩)
theorem mi_i2b {x : Int} (hdg : decode μ.2.1 pc = .ok (.i2b, 1)) : MiStep μ pc ls ((0, x) :: st) M (pc + 1) ls ((0, mi_b x) :: st) := by
  intro gl p l e R s m args below meth c A C H locs cells slots lsA stA ad Q hS hR hL hT k
  have hT_ := hT.cons
  clear hT
  obtain ⟨_, _, rfl, ⟨i, rfl, rfl⟩, hT⟩ := hT_
  exact lv_i2b C.1 C.2.1 hdg rfl (k _ _ hL ⟨⟨_, rfl, by rw [Int8.toInt_toInt32, Int32.toInt_toInt8]; rfl⟩, hT⟩)
theorem mi_i2s {x : Int} (hdg : decode μ.2.1 pc = .ok (.i2s, 1)) : MiStep μ pc ls ((0, x) :: st) M (pc + 1) ls ((0, mi_s x) :: st) := by
  intro gl p l e R s m args below meth c A C H locs cells slots lsA stA ad Q hS hR hL hT k
  have hT_ := hT.cons
  clear hT
  obtain ⟨_, _, rfl, ⟨i, rfl, rfl⟩, hT⟩ := hT_
  exact lv_i2s C.1 C.2.1 hdg rfl (k _ _ hL ⟨⟨_, rfl, by rw [Int16.toInt_toInt32, Int32.toInt_toInt16]; rfl⟩, hT⟩)
theorem mi_c_eq (i : Int32) : (i.toUInt32 % 65536).toInt32.toInt = mi_c i.toInt := by
  rw [pk_char, nI_toInt (by omega)]
  unfold mi_c
  have h : i.toInt = i.toBitVec.toInt := rfl
  rw [h, BitVec.toInt_eq_toNat_cond]
  split <;> omega
theorem mi_i2c {x : Int} (hdg : decode μ.2.1 pc = .ok (.i2c, 1)) : MiStep μ pc ls ((0, x) :: st) M (pc + 1) ls ((0, mi_c x) :: st) := by
  intro gl p l e R s m args below meth c A C H locs cells slots lsA stA ad Q hS hR hL hT k
  have hT_ := hT.cons
  clear hT
  obtain ⟨_, _, rfl, ⟨i, rfl, rfl⟩, hT⟩ := hT_
  exact lv_i2c C.1 C.2.1 hdg rfl (k _ _ hL ⟨⟨_, rfl, mi_c_eq _⟩, hT⟩)
theorem mi_lcmp {x y : Int} (hdg : decode μ.2.1 pc = .ok (.lcmp, 1)) : MiStep μ pc ls ((1, y) :: (1, x) :: st) M (pc + 1) ls ((0, mi_cmp x y) :: st) := by
  intro gl p l e R s m args below meth c A C H locs cells slots lsA stA ad Q hS hR hL hT k
  have hT_ := hT.cons
  clear hT
  obtain ⟨_, _, rfl, ⟨j, rfl, rfl⟩, hT⟩ := hT_
  have hT_ := hT.cons
  clear hT
  obtain ⟨_, _, rfl, ⟨i, rfl, rfl⟩, hT⟩ := hT_
  refine W.lcmp C.1 C.2.1 hdg (k _ _ hL ⟨⟨_, rfl, ?_⟩, hT⟩)
  unfold lg_cmp mi_cmp
  by_cases h1 : j < i
  · rw [if_pos h1, if_pos (Int64.lt_iff_toInt_lt.mp h1)]; rfl
  · rw [if_neg h1, if_neg (fun q => h1 (Int64.lt_iff_toInt_lt.mpr q))]
    by_cases h2 : i = j
    · rw [if_pos h2, if_pos (by rw [h2])]; rfl
    · rw [if_neg h2, if_neg (fun q => h2 (Int64.toInt_inj.mp q))]; rfl
theorem mi_dup {v : MiV} (hdg : decode μ.2.1 pc = .ok (.dup, 1)) (hv : v.1 ≠ 1 := by decide) : MiStep μ pc ls (v :: st) M (pc + 1) ls (v :: v :: st) := by
  intro gl p l e R s m args below meth c A C H locs cells slots lsA stA ad Q hS hR hL hT k
  have hT_ := hT.cons
  clear hT
  obtain ⟨w, _, rfl, h, hT⟩ := hT_
  exact lv_dup C.1 C.2.1 hdg (by rw [mi_cat h, if_neg hv]) (k _ _ hL ⟨h, h, hT⟩)
theorem mi_pop {v : MiV} (hdg : decode μ.2.1 pc = .ok (.pop, 1)) (hv : v.1 ≠ 1 := by decide) : MiStep μ pc ls (v :: st) M (pc + 1) ls st := by
  intro gl p l e R s m args below meth c A C H locs cells slots lsA stA ad Q hS hR hL hT k
  have hT_ := hT.cons
  clear hT
  obtain ⟨w, _, rfl, h, hT⟩ := hT_
  exact lv_pop C.1 C.2.1 hdg (by rw [mi_cat h, if_neg hv]) (k _ _ hL hT)
theorem mi_dup2 {v u : MiV} (hdg : decode μ.2.1 pc = .ok (.dup2, 1)) (hv : v.1 ≠ 1 := by decide) (hu : u.1 ≠ 1 := by decide) : MiStep μ pc ls (v :: u :: st) M (pc + 1) ls (v :: u :: v :: u :: st) := by
  intro gl p l e R s m args below meth c A C H locs cells slots lsA stA ad Q hS hR hL hT k
  have hT_ := hT.cons
  clear hT
  obtain ⟨w, _, rfl, h, hT⟩ := hT_
  have hT_ := hT.cons
  clear hT
  obtain ⟨w2, _, rfl, h2, hT⟩ := hT_
  exact lv_dup2_11 C.1 C.2.1 hdg (by rw [mi_cat h, if_neg hv]) (by rw [mi_cat h2, if_neg hu]) (k _ _ hL ⟨h, h2, h, h2, hT⟩)
theorem mi_ne0 {i : Int32} : (¬ i = 0) ↔ i.toInt ≠ 0 := not_congr (Int32.toInt_inj (x := i) (y := 0)).symm
theorem mi_neI {i j : Int32} : (¬ i = j) ↔ i.toInt ≠ j.toInt := not_congr Int32.toInt_inj.symm
theorem mi_ifeq_t {x : Int} {off : Int} {tgt : Nat} (hdg : decode μ.2.1 pc = .ok (.ifCond .eq off, 3)) (ht : (pc : Int) + off = (tgt : Int)) (h : x = 0) : MiStep μ pc ls ((0, x) :: st) M (tgt) ls st := by
  intro gl p l e R s m args below meth c A C H locs cells slots lsA stA ad Q hS hR hL hT k
  have hT_ := hT.cons
  clear hT
  obtain ⟨_, _, rfl, ⟨ix, rfl, rfl⟩, hT⟩ := hT_
  exact lv_if_eq C.1 C.2.1 hdg ht (fun _ => k _ _ hL hT) (fun q => absurd ((Int32.toInt_inj (x := ix) (y := 0)).symm.mpr h) q)
theorem mi_ifeq_f {x : Int} {off : Int} {tgt : Nat} (hdg : decode μ.2.1 pc = .ok (.ifCond .eq off, 3)) (ht : (pc : Int) + off = (tgt : Int)) (h : ¬ x = 0) : MiStep μ pc ls ((0, x) :: st) M (pc + 3) ls st := by
  intro gl p l e R s m args below meth c A C H locs cells slots lsA stA ad Q hS hR hL hT k
  have hT_ := hT.cons
  clear hT
  obtain ⟨_, _, rfl, ⟨ix, rfl, rfl⟩, hT⟩ := hT_
  exact lv_if_eq C.1 C.2.1 hdg ht (fun q => absurd ((Int32.toInt_inj (x := ix) (y := 0)).symm.mp q) h) (fun _ => k _ _ hL hT)
theorem smi_ifeq {x : Int} {off : Int} {tgt : Nat} {o1 o2 : Option MiO} (hdg : decode μ.2.1 pc = .ok (.ifCond .eq off, 3)) (ht : (pc : Int) + off = (tgt : Int)) (k1 : x = 0 → Sim μ tgt ls st M o1) (k2 : ¬ x = 0 → Sim μ (pc + 3) ls st M o2) : Sim μ pc ls ((0, x) :: st) M (if x = 0 then o1 else o2) := Sim.ite (fun h => Sim.go (mi_ifeq_t hdg ht h) (k1 h)) (fun h => Sim.go (mi_ifeq_f hdg ht h) (k2 h))
theorem mi_ifne_t {x : Int} {off : Int} {tgt : Nat} (hdg : decode μ.2.1 pc = .ok (.ifCond .ne off, 3)) (ht : (pc : Int) + off = (tgt : Int)) (h : x ≠ 0) : MiStep μ pc ls ((0, x) :: st) M (tgt) ls st := by
  intro gl p l e R s m args below meth c A C H locs cells slots lsA stA ad Q hS hR hL hT k
  have hT_ := hT.cons
  clear hT
  obtain ⟨_, _, rfl, ⟨ix, rfl, rfl⟩, hT⟩ := hT_
  exact lv_if_ne C.1 C.2.1 hdg ht (fun _ => k _ _ hL hT) (fun q => absurd q (mi_ne0.mpr h))
theorem mi_ifne_f {x : Int} {off : Int} {tgt : Nat} (hdg : decode μ.2.1 pc = .ok (.ifCond .ne off, 3)) (ht : (pc : Int) + off = (tgt : Int)) (h : ¬ x ≠ 0) : MiStep μ pc ls ((0, x) :: st) M (pc + 3) ls st := by
  intro gl p l e R s m args below meth c A C H locs cells slots lsA stA ad Q hS hR hL hT k
  have hT_ := hT.cons
  clear hT
  obtain ⟨_, _, rfl, ⟨ix, rfl, rfl⟩, hT⟩ := hT_
  exact lv_if_ne C.1 C.2.1 hdg ht (fun q => absurd (mi_ne0.mp q) h) (fun _ => k _ _ hL hT)
theorem smi_ifne {x : Int} {off : Int} {tgt : Nat} {o1 o2 : Option MiO} (hdg : decode μ.2.1 pc = .ok (.ifCond .ne off, 3)) (ht : (pc : Int) + off = (tgt : Int)) (k1 : x ≠ 0 → Sim μ tgt ls st M o1) (k2 : ¬ x ≠ 0 → Sim μ (pc + 3) ls st M o2) : Sim μ pc ls ((0, x) :: st) M (if x ≠ 0 then o1 else o2) := Sim.ite (fun h => Sim.go (mi_ifne_t hdg ht h) (k1 h)) (fun h => Sim.go (mi_ifne_f hdg ht h) (k2 h))
theorem mi_iflt_t {x : Int} {off : Int} {tgt : Nat} (hdg : decode μ.2.1 pc = .ok (.ifCond .lt off, 3)) (ht : (pc : Int) + off = (tgt : Int)) (h : x < 0) : MiStep μ pc ls ((0, x) :: st) M (tgt) ls st := by
  intro gl p l e R s m args below meth c A C H locs cells slots lsA stA ad Q hS hR hL hT k
  have hT_ := hT.cons
  clear hT
  obtain ⟨_, _, rfl, ⟨ix, rfl, rfl⟩, hT⟩ := hT_
  exact lv_if_lt C.1 C.2.1 hdg ht (fun _ => k _ _ hL hT) (fun q => absurd ((Int32.lt_iff_toInt_lt (x := ix) (y := 0)).mpr h) q)
theorem mi_iflt_f {x : Int} {off : Int} {tgt : Nat} (hdg : decode μ.2.1 pc = .ok (.ifCond .lt off, 3)) (ht : (pc : Int) + off = (tgt : Int)) (h : ¬ x < 0) : MiStep μ pc ls ((0, x) :: st) M (pc + 3) ls st := by
  intro gl p l e R s m args below meth c A C H locs cells slots lsA stA ad Q hS hR hL hT k
  have hT_ := hT.cons
  clear hT
  obtain ⟨_, _, rfl, ⟨ix, rfl, rfl⟩, hT⟩ := hT_
  exact lv_if_lt C.1 C.2.1 hdg ht (fun q => absurd ((Int32.lt_iff_toInt_lt (x := ix) (y := 0)).mp q) h) (fun _ => k _ _ hL hT)
theorem smi_iflt {x : Int} {off : Int} {tgt : Nat} {o1 o2 : Option MiO} (hdg : decode μ.2.1 pc = .ok (.ifCond .lt off, 3)) (ht : (pc : Int) + off = (tgt : Int)) (k1 : x < 0 → Sim μ tgt ls st M o1) (k2 : ¬ x < 0 → Sim μ (pc + 3) ls st M o2) : Sim μ pc ls ((0, x) :: st) M (if x < 0 then o1 else o2) := Sim.ite (fun h => Sim.go (mi_iflt_t hdg ht h) (k1 h)) (fun h => Sim.go (mi_iflt_f hdg ht h) (k2 h))
theorem mi_ifge_t {x : Int} {off : Int} {tgt : Nat} (hdg : decode μ.2.1 pc = .ok (.ifCond .ge off, 3)) (ht : (pc : Int) + off = (tgt : Int)) (h : 0 ≤ x) : MiStep μ pc ls ((0, x) :: st) M (tgt) ls st := by
  intro gl p l e R s m args below meth c A C H locs cells slots lsA stA ad Q hS hR hL hT k
  have hT_ := hT.cons
  clear hT
  obtain ⟨_, _, rfl, ⟨ix, rfl, rfl⟩, hT⟩ := hT_
  exact lv_if_ge C.1 C.2.1 hdg ht (fun _ => k _ _ hL hT) (fun q => absurd ((Int32.le_iff_toInt_le (x := 0) (y := ix)).mpr h) q)
theorem mi_ifge_f {x : Int} {off : Int} {tgt : Nat} (hdg : decode μ.2.1 pc = .ok (.ifCond .ge off, 3)) (ht : (pc : Int) + off = (tgt : Int)) (h : ¬ 0 ≤ x) : MiStep μ pc ls ((0, x) :: st) M (pc + 3) ls st := by
  intro gl p l e R s m args below meth c A C H locs cells slots lsA stA ad Q hS hR hL hT k
  have hT_ := hT.cons
  clear hT
  obtain ⟨_, _, rfl, ⟨ix, rfl, rfl⟩, hT⟩ := hT_
  exact lv_if_ge C.1 C.2.1 hdg ht (fun q => absurd ((Int32.le_iff_toInt_le (x := 0) (y := ix)).mp q) h) (fun _ => k _ _ hL hT)
theorem smi_ifge {x : Int} {off : Int} {tgt : Nat} {o1 o2 : Option MiO} (hdg : decode μ.2.1 pc = .ok (.ifCond .ge off, 3)) (ht : (pc : Int) + off = (tgt : Int)) (k1 : 0 ≤ x → Sim μ tgt ls st M o1) (k2 : ¬ 0 ≤ x → Sim μ (pc + 3) ls st M o2) : Sim μ pc ls ((0, x) :: st) M (if 0 ≤ x then o1 else o2) := Sim.ite (fun h => Sim.go (mi_ifge_t hdg ht h) (k1 h)) (fun h => Sim.go (mi_ifge_f hdg ht h) (k2 h))
theorem mi_ifgt_t {x : Int} {off : Int} {tgt : Nat} (hdg : decode μ.2.1 pc = .ok (.ifCond .gt off, 3)) (ht : (pc : Int) + off = (tgt : Int)) (h : 0 < x) : MiStep μ pc ls ((0, x) :: st) M (tgt) ls st := by
  intro gl p l e R s m args below meth c A C H locs cells slots lsA stA ad Q hS hR hL hT k
  have hT_ := hT.cons
  clear hT
  obtain ⟨_, _, rfl, ⟨ix, rfl, rfl⟩, hT⟩ := hT_
  exact lv_if_gt C.1 C.2.1 hdg ht (fun _ => k _ _ hL hT) (fun q => absurd ((Int32.lt_iff_toInt_lt (x := 0) (y := ix)).mpr h) q)
theorem mi_ifgt_f {x : Int} {off : Int} {tgt : Nat} (hdg : decode μ.2.1 pc = .ok (.ifCond .gt off, 3)) (ht : (pc : Int) + off = (tgt : Int)) (h : ¬ 0 < x) : MiStep μ pc ls ((0, x) :: st) M (pc + 3) ls st := by
  intro gl p l e R s m args below meth c A C H locs cells slots lsA stA ad Q hS hR hL hT k
  have hT_ := hT.cons
  clear hT
  obtain ⟨_, _, rfl, ⟨ix, rfl, rfl⟩, hT⟩ := hT_
  exact lv_if_gt C.1 C.2.1 hdg ht (fun q => absurd ((Int32.lt_iff_toInt_lt (x := 0) (y := ix)).mp q) h) (fun _ => k _ _ hL hT)
theorem smi_ifgt {x : Int} {off : Int} {tgt : Nat} {o1 o2 : Option MiO} (hdg : decode μ.2.1 pc = .ok (.ifCond .gt off, 3)) (ht : (pc : Int) + off = (tgt : Int)) (k1 : 0 < x → Sim μ tgt ls st M o1) (k2 : ¬ 0 < x → Sim μ (pc + 3) ls st M o2) : Sim μ pc ls ((0, x) :: st) M (if 0 < x then o1 else o2) := Sim.ite (fun h => Sim.go (mi_ifgt_t hdg ht h) (k1 h)) (fun h => Sim.go (mi_ifgt_f hdg ht h) (k2 h))
theorem mi_ifle_t {x : Int} {off : Int} {tgt : Nat} (hdg : decode μ.2.1 pc = .ok (.ifCond .le off, 3)) (ht : (pc : Int) + off = (tgt : Int)) (h : x ≤ 0) : MiStep μ pc ls ((0, x) :: st) M (tgt) ls st := by
  intro gl p l e R s m args below meth c A C H locs cells slots lsA stA ad Q hS hR hL hT k
  have hT_ := hT.cons
  clear hT
  obtain ⟨_, _, rfl, ⟨ix, rfl, rfl⟩, hT⟩ := hT_
  exact lv_if_le C.1 C.2.1 hdg ht (fun _ => k _ _ hL hT) (fun q => absurd ((Int32.le_iff_toInt_le (x := ix) (y := 0)).mpr h) q)
theorem mi_ifle_f {x : Int} {off : Int} {tgt : Nat} (hdg : decode μ.2.1 pc = .ok (.ifCond .le off, 3)) (ht : (pc : Int) + off = (tgt : Int)) (h : ¬ x ≤ 0) : MiStep μ pc ls ((0, x) :: st) M (pc + 3) ls st := by
  intro gl p l e R s m args below meth c A C H locs cells slots lsA stA ad Q hS hR hL hT k
  have hT_ := hT.cons
  clear hT
  obtain ⟨_, _, rfl, ⟨ix, rfl, rfl⟩, hT⟩ := hT_
  exact lv_if_le C.1 C.2.1 hdg ht (fun q => absurd ((Int32.le_iff_toInt_le (x := ix) (y := 0)).mp q) h) (fun _ => k _ _ hL hT)
theorem smi_ifle {x : Int} {off : Int} {tgt : Nat} {o1 o2 : Option MiO} (hdg : decode μ.2.1 pc = .ok (.ifCond .le off, 3)) (ht : (pc : Int) + off = (tgt : Int)) (k1 : x ≤ 0 → Sim μ tgt ls st M o1) (k2 : ¬ x ≤ 0 → Sim μ (pc + 3) ls st M o2) : Sim μ pc ls ((0, x) :: st) M (if x ≤ 0 then o1 else o2) := Sim.ite (fun h => Sim.go (mi_ifle_t hdg ht h) (k1 h)) (fun h => Sim.go (mi_ifle_f hdg ht h) (k2 h))
theorem mi_icmpeq_t {x y : Int} {off : Int} {tgt : Nat} (hdg : decode μ.2.1 pc = .ok (.if_icmp .eq off, 3)) (ht : (pc : Int) + off = (tgt : Int)) (h : x = y) : MiStep μ pc ls ((0, y) :: (0, x) :: st) M (tgt) ls st := by
  intro gl p l e R s m args below meth c A C H locs cells slots lsA stA ad Q hS hR hL hT k
  have hT_ := hT.cons
  clear hT
  obtain ⟨_, _, rfl, ⟨iy, rfl, rfl⟩, hT⟩ := hT_
  have hT_ := hT.cons
  clear hT
  obtain ⟨_, _, rfl, ⟨ix, rfl, rfl⟩, hT⟩ := hT_
  exact lv_icmp_eq C.1 C.2.1 hdg ht (fun _ => k _ _ hL hT) (fun q => absurd ((Int32.toInt_inj (x := ix) (y := iy)).symm.mpr h) q)
theorem mi_icmpeq_f {x y : Int} {off : Int} {tgt : Nat} (hdg : decode μ.2.1 pc = .ok (.if_icmp .eq off, 3)) (ht : (pc : Int) + off = (tgt : Int)) (h : ¬ x = y) : MiStep μ pc ls ((0, y) :: (0, x) :: st) M (pc + 3) ls st := by
  intro gl p l e R s m args below meth c A C H locs cells slots lsA stA ad Q hS hR hL hT k
  have hT_ := hT.cons
  clear hT
  obtain ⟨_, _, rfl, ⟨iy, rfl, rfl⟩, hT⟩ := hT_
  have hT_ := hT.cons
  clear hT
  obtain ⟨_, _, rfl, ⟨ix, rfl, rfl⟩, hT⟩ := hT_
  exact lv_icmp_eq C.1 C.2.1 hdg ht (fun q => absurd ((Int32.toInt_inj (x := ix) (y := iy)).symm.mp q) h) (fun _ => k _ _ hL hT)
theorem smi_icmpeq {x y : Int} {off : Int} {tgt : Nat} {o1 o2 : Option MiO} (hdg : decode μ.2.1 pc = .ok (.if_icmp .eq off, 3)) (ht : (pc : Int) + off = (tgt : Int)) (k1 : x = y → Sim μ tgt ls st M o1) (k2 : ¬ x = y → Sim μ (pc + 3) ls st M o2) : Sim μ pc ls ((0, y) :: (0, x) :: st) M (if x = y then o1 else o2) := Sim.ite (fun h => Sim.go (mi_icmpeq_t hdg ht h) (k1 h)) (fun h => Sim.go (mi_icmpeq_f hdg ht h) (k2 h))
theorem mi_icmpne_t {x y : Int} {off : Int} {tgt : Nat} (hdg : decode μ.2.1 pc = .ok (.if_icmp .ne off, 3)) (ht : (pc : Int) + off = (tgt : Int)) (h : x ≠ y) : MiStep μ pc ls ((0, y) :: (0, x) :: st) M (tgt) ls st := by
  intro gl p l e R s m args below meth c A C H locs cells slots lsA stA ad Q hS hR hL hT k
  have hT_ := hT.cons
  clear hT
  obtain ⟨_, _, rfl, ⟨iy, rfl, rfl⟩, hT⟩ := hT_
  have hT_ := hT.cons
  clear hT
  obtain ⟨_, _, rfl, ⟨ix, rfl, rfl⟩, hT⟩ := hT_
  exact lv_icmp_ne C.1 C.2.1 hdg ht (fun _ => k _ _ hL hT) (fun q => absurd q (mi_neI.mpr h))
theorem mi_icmpne_f {x y : Int} {off : Int} {tgt : Nat} (hdg : decode μ.2.1 pc = .ok (.if_icmp .ne off, 3)) (ht : (pc : Int) + off = (tgt : Int)) (h : ¬ x ≠ y) : MiStep μ pc ls ((0, y) :: (0, x) :: st) M (pc + 3) ls st := by
  intro gl p l e R s m args below meth c A C H locs cells slots lsA stA ad Q hS hR hL hT k
  have hT_ := hT.cons
  clear hT
  obtain ⟨_, _, rfl, ⟨iy, rfl, rfl⟩, hT⟩ := hT_
  have hT_ := hT.cons
  clear hT
  obtain ⟨_, _, rfl, ⟨ix, rfl, rfl⟩, hT⟩ := hT_
  exact lv_icmp_ne C.1 C.2.1 hdg ht (fun q => absurd (mi_neI.mp q) h) (fun _ => k _ _ hL hT)
theorem smi_icmpne {x y : Int} {off : Int} {tgt : Nat} {o1 o2 : Option MiO} (hdg : decode μ.2.1 pc = .ok (.if_icmp .ne off, 3)) (ht : (pc : Int) + off = (tgt : Int)) (k1 : x ≠ y → Sim μ tgt ls st M o1) (k2 : ¬ x ≠ y → Sim μ (pc + 3) ls st M o2) : Sim μ pc ls ((0, y) :: (0, x) :: st) M (if x ≠ y then o1 else o2) := Sim.ite (fun h => Sim.go (mi_icmpne_t hdg ht h) (k1 h)) (fun h => Sim.go (mi_icmpne_f hdg ht h) (k2 h))
theorem mi_icmplt_t {x y : Int} {off : Int} {tgt : Nat} (hdg : decode μ.2.1 pc = .ok (.if_icmp .lt off, 3)) (ht : (pc : Int) + off = (tgt : Int)) (h : x < y) : MiStep μ pc ls ((0, y) :: (0, x) :: st) M (tgt) ls st := by
  intro gl p l e R s m args below meth c A C H locs cells slots lsA stA ad Q hS hR hL hT k
  have hT_ := hT.cons
  clear hT
  obtain ⟨_, _, rfl, ⟨iy, rfl, rfl⟩, hT⟩ := hT_
  have hT_ := hT.cons
  clear hT
  obtain ⟨_, _, rfl, ⟨ix, rfl, rfl⟩, hT⟩ := hT_
  exact lv_icmp_lt C.1 C.2.1 hdg ht (fun _ => k _ _ hL hT) (fun q => absurd ((Int32.lt_iff_toInt_lt (x := ix) (y := iy)).mpr h) q)
theorem mi_icmplt_f {x y : Int} {off : Int} {tgt : Nat} (hdg : decode μ.2.1 pc = .ok (.if_icmp .lt off, 3)) (ht : (pc : Int) + off = (tgt : Int)) (h : ¬ x < y) : MiStep μ pc ls ((0, y) :: (0, x) :: st) M (pc + 3) ls st := by
  intro gl p l e R s m args below meth c A C H locs cells slots lsA stA ad Q hS hR hL hT k
  have hT_ := hT.cons
  clear hT
  obtain ⟨_, _, rfl, ⟨iy, rfl, rfl⟩, hT⟩ := hT_
  have hT_ := hT.cons
  clear hT
  obtain ⟨_, _, rfl, ⟨ix, rfl, rfl⟩, hT⟩ := hT_
  exact lv_icmp_lt C.1 C.2.1 hdg ht (fun q => absurd ((Int32.lt_iff_toInt_lt (x := ix) (y := iy)).mp q) h) (fun _ => k _ _ hL hT)
theorem smi_icmplt {x y : Int} {off : Int} {tgt : Nat} {o1 o2 : Option MiO} (hdg : decode μ.2.1 pc = .ok (.if_icmp .lt off, 3)) (ht : (pc : Int) + off = (tgt : Int)) (k1 : x < y → Sim μ tgt ls st M o1) (k2 : ¬ x < y → Sim μ (pc + 3) ls st M o2) : Sim μ pc ls ((0, y) :: (0, x) :: st) M (if x < y then o1 else o2) := Sim.ite (fun h => Sim.go (mi_icmplt_t hdg ht h) (k1 h)) (fun h => Sim.go (mi_icmplt_f hdg ht h) (k2 h))
theorem mi_icmpge_t {x y : Int} {off : Int} {tgt : Nat} (hdg : decode μ.2.1 pc = .ok (.if_icmp .ge off, 3)) (ht : (pc : Int) + off = (tgt : Int)) (h : y ≤ x) : MiStep μ pc ls ((0, y) :: (0, x) :: st) M (tgt) ls st := by
  intro gl p l e R s m args below meth c A C H locs cells slots lsA stA ad Q hS hR hL hT k
  have hT_ := hT.cons
  clear hT
  obtain ⟨_, _, rfl, ⟨iy, rfl, rfl⟩, hT⟩ := hT_
  have hT_ := hT.cons
  clear hT
  obtain ⟨_, _, rfl, ⟨ix, rfl, rfl⟩, hT⟩ := hT_
  exact lv_icmp_ge C.1 C.2.1 hdg ht (fun _ => k _ _ hL hT) (fun q => absurd ((Int32.le_iff_toInt_le (x := iy) (y := ix)).mpr h) q)
theorem mi_icmpge_f {x y : Int} {off : Int} {tgt : Nat} (hdg : decode μ.2.1 pc = .ok (.if_icmp .ge off, 3)) (ht : (pc : Int) + off = (tgt : Int)) (h : ¬ y ≤ x) : MiStep μ pc ls ((0, y) :: (0, x) :: st) M (pc + 3) ls st := by
  intro gl p l e R s m args below meth c A C H locs cells slots lsA stA ad Q hS hR hL hT k
  have hT_ := hT.cons
  clear hT
  obtain ⟨_, _, rfl, ⟨iy, rfl, rfl⟩, hT⟩ := hT_
  have hT_ := hT.cons
  clear hT
  obtain ⟨_, _, rfl, ⟨ix, rfl, rfl⟩, hT⟩ := hT_
  exact lv_icmp_ge C.1 C.2.1 hdg ht (fun q => absurd ((Int32.le_iff_toInt_le (x := iy) (y := ix)).mp q) h) (fun _ => k _ _ hL hT)
theorem smi_icmpge {x y : Int} {off : Int} {tgt : Nat} {o1 o2 : Option MiO} (hdg : decode μ.2.1 pc = .ok (.if_icmp .ge off, 3)) (ht : (pc : Int) + off = (tgt : Int)) (k1 : y ≤ x → Sim μ tgt ls st M o1) (k2 : ¬ y ≤ x → Sim μ (pc + 3) ls st M o2) : Sim μ pc ls ((0, y) :: (0, x) :: st) M (if y ≤ x then o1 else o2) := Sim.ite (fun h => Sim.go (mi_icmpge_t hdg ht h) (k1 h)) (fun h => Sim.go (mi_icmpge_f hdg ht h) (k2 h))
theorem mi_icmpgt_t {x y : Int} {off : Int} {tgt : Nat} (hdg : decode μ.2.1 pc = .ok (.if_icmp .gt off, 3)) (ht : (pc : Int) + off = (tgt : Int)) (h : y < x) : MiStep μ pc ls ((0, y) :: (0, x) :: st) M (tgt) ls st := by
  intro gl p l e R s m args below meth c A C H locs cells slots lsA stA ad Q hS hR hL hT k
  have hT_ := hT.cons
  clear hT
  obtain ⟨_, _, rfl, ⟨iy, rfl, rfl⟩, hT⟩ := hT_
  have hT_ := hT.cons
  clear hT
  obtain ⟨_, _, rfl, ⟨ix, rfl, rfl⟩, hT⟩ := hT_
  exact lv_icmp_gt C.1 C.2.1 hdg ht (fun _ => k _ _ hL hT) (fun q => absurd ((Int32.lt_iff_toInt_lt (x := iy) (y := ix)).mpr h) q)
theorem mi_icmpgt_f {x y : Int} {off : Int} {tgt : Nat} (hdg : decode μ.2.1 pc = .ok (.if_icmp .gt off, 3)) (ht : (pc : Int) + off = (tgt : Int)) (h : ¬ y < x) : MiStep μ pc ls ((0, y) :: (0, x) :: st) M (pc + 3) ls st := by
  intro gl p l e R s m args below meth c A C H locs cells slots lsA stA ad Q hS hR hL hT k
  have hT_ := hT.cons
  clear hT
  obtain ⟨_, _, rfl, ⟨iy, rfl, rfl⟩, hT⟩ := hT_
  have hT_ := hT.cons
  clear hT
  obtain ⟨_, _, rfl, ⟨ix, rfl, rfl⟩, hT⟩ := hT_
  exact lv_icmp_gt C.1 C.2.1 hdg ht (fun q => absurd ((Int32.lt_iff_toInt_lt (x := iy) (y := ix)).mp q) h) (fun _ => k _ _ hL hT)
theorem smi_icmpgt {x y : Int} {off : Int} {tgt : Nat} {o1 o2 : Option MiO} (hdg : decode μ.2.1 pc = .ok (.if_icmp .gt off, 3)) (ht : (pc : Int) + off = (tgt : Int)) (k1 : y < x → Sim μ tgt ls st M o1) (k2 : ¬ y < x → Sim μ (pc + 3) ls st M o2) : Sim μ pc ls ((0, y) :: (0, x) :: st) M (if y < x then o1 else o2) := Sim.ite (fun h => Sim.go (mi_icmpgt_t hdg ht h) (k1 h)) (fun h => Sim.go (mi_icmpgt_f hdg ht h) (k2 h))
theorem mi_icmple_t {x y : Int} {off : Int} {tgt : Nat} (hdg : decode μ.2.1 pc = .ok (.if_icmp .le off, 3)) (ht : (pc : Int) + off = (tgt : Int)) (h : x ≤ y) : MiStep μ pc ls ((0, y) :: (0, x) :: st) M (tgt) ls st := by
  intro gl p l e R s m args below meth c A C H locs cells slots lsA stA ad Q hS hR hL hT k
  have hT_ := hT.cons
  clear hT
  obtain ⟨_, _, rfl, ⟨iy, rfl, rfl⟩, hT⟩ := hT_
  have hT_ := hT.cons
  clear hT
  obtain ⟨_, _, rfl, ⟨ix, rfl, rfl⟩, hT⟩ := hT_
  exact lv_icmp_le C.1 C.2.1 hdg ht (fun _ => k _ _ hL hT) (fun q => absurd ((Int32.le_iff_toInt_le (x := ix) (y := iy)).mpr h) q)
theorem mi_icmple_f {x y : Int} {off : Int} {tgt : Nat} (hdg : decode μ.2.1 pc = .ok (.if_icmp .le off, 3)) (ht : (pc : Int) + off = (tgt : Int)) (h : ¬ x ≤ y) : MiStep μ pc ls ((0, y) :: (0, x) :: st) M (pc + 3) ls st := by
  intro gl p l e R s m args below meth c A C H locs cells slots lsA stA ad Q hS hR hL hT k
  have hT_ := hT.cons
  clear hT
  obtain ⟨_, _, rfl, ⟨iy, rfl, rfl⟩, hT⟩ := hT_
  have hT_ := hT.cons
  clear hT
  obtain ⟨_, _, rfl, ⟨ix, rfl, rfl⟩, hT⟩ := hT_
  exact lv_icmp_le C.1 C.2.1 hdg ht (fun q => absurd ((Int32.le_iff_toInt_le (x := ix) (y := iy)).mp q) h) (fun _ => k _ _ hL hT)
theorem smi_icmple {x y : Int} {off : Int} {tgt : Nat} {o1 o2 : Option MiO} (hdg : decode μ.2.1 pc = .ok (.if_icmp .le off, 3)) (ht : (pc : Int) + off = (tgt : Int)) (k1 : x ≤ y → Sim μ tgt ls st M o1) (k2 : ¬ x ≤ y → Sim μ (pc + 3) ls st M o2) : Sim μ pc ls ((0, y) :: (0, x) :: st) M (if x ≤ y then o1 else o2) := Sim.ite (fun h => Sim.go (mi_icmple_t hdg ht h) (k1 h)) (fun h => Sim.go (mi_icmple_f hdg ht h) (k2 h))
theorem mi_goto {off : Int} {tgt : Nat} (hdg : decode μ.2.1 pc = .ok (.goto off, 3)) (ht : (pc : Int) + off = (tgt : Int)) : MiStep μ pc ls st M tgt ls st := by
  intro gl p l e R s m args below meth c A C H locs cells slots lsA stA ad Q hS hR hL hT k
  exact lv_goto C.1 C.2.1 hdg ht (k _ _ hL hT)
theorem mi_ifnull_t {r : Nat} {x : Int} {off : Int} {tgt : Nat} (hdg : decode μ.2.1 pc = .ok (.ifnull off, 3)) (ht : (pc : Int) + off = (tgt : Int)) (h : x < 0) : MiStep μ pc ls ((r + 2, x) :: st) M (tgt) ls st := by
  intro gl p l e R s m args below meth c A C H locs cells slots lsA stA ad Q hS hR hL hT k
  have hT_ := hT.cons
  clear hT
  obtain ⟨_, _, rfl, hv, hT⟩ := hT_
  rcases hv with ⟨h0, rfl⟩ | ⟨h0, h1, rfl⟩
  · exact lv_ifnullN C.1 C.2.1 hdg ht (k _ _ hL hT)
  · exact absurd h (by omega)
theorem mi_ifnull_f {r : Nat} {x : Int} {off : Int} {tgt : Nat} (hdg : decode μ.2.1 pc = .ok (.ifnull off, 3)) (ht : (pc : Int) + off = (tgt : Int)) (h : ¬ x < 0) : MiStep μ pc ls ((r + 2, x) :: st) M (pc + 3) ls st := by
  intro gl p l e R s m args below meth c A C H locs cells slots lsA stA ad Q hS hR hL hT k
  have hT_ := hT.cons
  clear hT
  obtain ⟨_, _, rfl, hv, hT⟩ := hT_
  rcases hv with ⟨h0, rfl⟩ | ⟨h0, h1, rfl⟩
  · exact absurd h (by omega)
  · exact lv_ifnull C.1 C.2.1 hdg (k _ _ hL hT)
theorem mi_ifnonnull_t {r : Nat} {x : Int} {off : Int} {tgt : Nat} (hdg : decode μ.2.1 pc = .ok (.ifnonnull off, 3)) (ht : (pc : Int) + off = (tgt : Int)) (h : ¬ x < 0) : MiStep μ pc ls ((r + 2, x) :: st) M (tgt) ls st := by
  intro gl p l e R s m args below meth c A C H locs cells slots lsA stA ad Q hS hR hL hT k
  have hT_ := hT.cons
  clear hT
  obtain ⟨_, _, rfl, hv, hT⟩ := hT_
  rcases hv with ⟨h0, rfl⟩ | ⟨h0, h1, rfl⟩
  · exact absurd h (by omega)
  · exact lv_ifnonnull C.1 C.2.1 hdg ht (k _ _ hL hT)
theorem mi_ifnonnull_f {r : Nat} {x : Int} {off : Int} {tgt : Nat} (hdg : decode μ.2.1 pc = .ok (.ifnonnull off, 3)) (ht : (pc : Int) + off = (tgt : Int)) (h : x < 0) : MiStep μ pc ls ((r + 2, x) :: st) M (pc + 3) ls st := by
  intro gl p l e R s m args below meth c A C H locs cells slots lsA stA ad Q hS hR hL hT k
  have hT_ := hT.cons
  clear hT
  obtain ⟨_, _, rfl, hv, hT⟩ := hT_
  rcases hv with ⟨h0, rfl⟩ | ⟨h0, h1, rfl⟩
  · exact lv_ifnonnullN C.1 C.2.1 hdg (k _ _ hL hT)
  · exact absurd h (by omega)
theorem smi_ifnull {r : Nat} {x : Int} {off : Int} {tgt : Nat} {o1 o2 : Option MiO} (hdg : decode μ.2.1 pc = .ok (.ifnull off, 3)) (ht : (pc : Int) + off = (tgt : Int)) (k1 : x < 0 → Sim μ tgt ls st M o1) (k2 : ¬ x < 0 → Sim μ (pc + 3) ls st M o2) : Sim μ pc ls ((r + 2, x) :: st) M (if x < 0 then o1 else o2) := Sim.ite (fun h => Sim.go (mi_ifnull_t hdg ht h) (k1 h)) (fun h => Sim.go (mi_ifnull_f hdg ht h) (k2 h))
theorem smi_ifnonnull {r : Nat} {x : Int} {off : Int} {tgt : Nat} {o1 o2 : Option MiO} (hdg : decode μ.2.1 pc = .ok (.ifnonnull off, 3)) (ht : (pc : Int) + off = (tgt : Int)) (k1 : x < 0 → Sim μ (pc + 3) ls st M o1) (k2 : ¬ x < 0 → Sim μ tgt ls st M o2) : Sim μ pc ls ((r + 2, x) :: st) M (if x < 0 then o1 else o2) := Sim.ite (fun h => Sim.go (mi_ifnonnull_f hdg ht h) (k1 h)) (fun h => Sim.go (mi_ifnonnull_t hdg ht h) (k2 h))
theorem mi_tabOut {dflt lo hi : Int} {offs : Array Int} {len : Nat} {x : Int} {tgt : Nat} (hdg : decode μ.2.1 pc = .ok (.tableswitch dflt lo hi offs, len)) (h : x < lo ∨ hi < x) (ht : (pc : Int) + dflt = (tgt : Int)) : MiStep μ pc ls ((0, x) :: st) M tgt ls st := by
  intro gl p l e R s m args below meth c A C H locs cells slots lsA stA ad Q hS hR hL hT k
  have hT_ := hT.cons
  clear hT
  obtain ⟨_, _, rfl, ⟨i, rfl, rfl⟩, hT⟩ := hT_
  exact lv_tableOut C.1 C.2.1 hdg h ht (k _ _ hL hT)
theorem mi_tabIn {dflt lo hi off : Int} {offs : Array Int} {len : Nat} {x : Int} {tgt : Nat} (hdg : decode μ.2.1 pc = .ok (.tableswitch dflt lo hi offs, len)) (h1 : ¬ x < lo) (h2 : ¬ hi < x) (ho : offs[(x - lo).toNat]? = some off) (ht : (pc : Int) + off = (tgt : Int)) : MiStep μ pc ls ((0, x) :: st) M tgt ls st := by
  intro gl p l e R s m args below meth c A C H locs cells slots lsA stA ad Q hS hR hL hT k
  have hT_ := hT.cons
  clear hT
  obtain ⟨_, _, rfl, ⟨i, rfl, rfl⟩, hT⟩ := hT_
  exact lv_tableIn C.1 C.2.1 hdg h1 h2 ho ht (k _ _ hL hT)
end MiOps
