/-! ===== the small machine's steps that read and write the memory ===== -/
theorem mi_P1 {D : va_G} {cl : List vw_C} {q : Nat × va_E} {H : Heap} (h : va_at D cl q H) : va_P D cl [q] H := by
  intro k x hk
  match k with
  | 0 => cases hk; exact h
  | k + 1 => cases hk
theorem mi_en.cong {gl : MiG} {ad ad' : Nat → Int → Nat} {M M' : MiM} {r : Nat} {x : Int} {e : va_E} (h : mi_en gl ad M r x e) (h1 : M'.1 r x = M.1 r x) (h2 : M'.2.1 r x = M.2.1 r x) (h3 : ∀ v w, mi_vr ad M.2.2 v w → mi_vr ad' M'.2.2 v w) : mi_en gl ad' M' r x e := by
  unfold mi_en at h ⊢
  split at h
  · obtain ⟨f, e1, e2⟩ := h; exact ⟨f, e1, by rw [h1]; exact e2⟩
  · obtain ⟨f, e1, e2⟩ := h; exact ⟨f, e1, by rw [h1]; exact e2⟩
  · obtain ⟨f, e1, e2⟩ := h; exact ⟨f, e1, fun i hi => by rw [h2]; exact h3 _ _ (e2 i hi)⟩
  · obtain ⟨fs, e1, e2, e3⟩ := h
    refine ⟨fs, e1, e2, fun k hk => ?_⟩
    obtain ⟨w, a1, a2⟩ := e3 k hk
    have hf : mi_fv M' r x k = mi_fv M r x k := by unfold mi_fv; rw [h1, h2]
    exact ⟨w, a1, by rw [hf]; exact h3 _ _ a2⟩
  · obtain ⟨f, e1, e2⟩ := h; exact ⟨f, e1, by rw [h1]; exact e2⟩
  · exact h
theorem mi_rp.set {gl : MiG} {A : Nat → Prop} {ad : Nat → Int → Nat} {M M' : MiM} {H H1 : Heap} {r : Nat} {x : Int} {e : va_E} (h : mi_rp gl A ad M H) (hr : mi_rk r < 9) (h0 : 0 ≤ x) (h1 : x < M.2.2 r) (hc : M'.2.2 = M.2.2)
    (hat : va_at gl.1 vwCl (ad r x, e) H1) (hen : mi_en gl ad M' r x e) (oq : ∀ q : Nat, q ≠ ad r x → H1[q]? = H[q]?) (ho : ∀ r' x', ¬ (r' = r ∧ x' = x) → M'.1 r' x' = M.1 r' x' ∧ M'.2.1 r' x' = M.2.1 r' x') : mi_rp gl A ad M' H1 := by
  obtain ⟨a1, a2, a3⟩ := h
  refine ⟨fun r' x' k1 k2 k3 => ?_, fun r' x' r'' x'' => by rw [hc]; exact a2 r' x' r'' x'', fun r' hr' => by rw [hc]; exact a3 r' hr'⟩
  rw [hc] at k3
  obtain ⟨b1, e', b2, b3⟩ := a1 r' x' k1 k2 k3
  refine ⟨b1, ?_⟩
  by_cases q : r' = r ∧ x' = x
  · obtain ⟨rfl, rfl⟩ := q
    exact ⟨e, hat, hen⟩
  · refine ⟨e', b2.kept (oq _ fun z => q (a2 _ _ _ _ k1 hr k2 k3 h0 h1 z)), b3.cong (ho r' x' q).1 (ho r' x' q).2 (fun v w hv => by rw [hc]; exact hv)⟩
/-- the machine goes from one place to another, the memory changing, nothing made -/
def MiStepM (μ : MiI) (pc : Nat) (ls st : List MiV) (M : MiM) (pc' : Nat) (ls' st' : List MiV) (M' : MiM) : Prop :=
  (M'.2.2 = M.2.2 ∧ M'.1 0 0 0 = M.1 0 0 0 ∧ M'.1 0 0 1 = M.1 0 0 1) ∧ ∀ (gl : MiG) (p : Program) (l : Launch) (e : Env) (R : Room) (s : State) (m : MethodId) (args : Array Value) (below : List Frame) (meth : Method) (c : Code) (A : Nat → Prop), mi_cx μ gl p l R s m args meth c A →
    ∀ (H : Heap) (locs : List Loc) (cells slots : Nat) (lsA : Array Slot) (stA : List Value) (ad : Nat → Int → Nat) (Q : State → Prop), va_S A s.heap H locs → mi_rp gl A ad M H → mi_lr ad M.2.2 μ.2.2.1 ls lsA → mi_sr ad M.2.2 st stA →
      (∀ lsA' stA' H' locs', va_S A s.heap H' locs' → mi_rp gl A ad M' H' → mi_lr ad M'.2.2 μ.2.2.1 ls' lsA' → mi_sr ad M'.2.2 st' stA' → W p l e R s m args below meth c H' locs' cells slots Q (F0 m pc' lsA' stA')) → W p l e R s m args below meth c H locs cells slots Q (F0 m pc lsA stA)
theorem Sim.goM {μ : MiI} {pc pc' : Nat} {ls st ls' st' : List MiV} {M M' : MiM} {o : Option MiO} (h : MiStepM μ pc ls st M pc' ls' st' M') (k : Sim μ pc' ls' st' M' o) : Sim μ pc ls st M o := by
  intro r hr
  obtain ⟨hle, K⟩ := k r hr
  obtain ⟨⟨c1, c2, c3⟩, h⟩ := h
  refine ⟨⟨fun q => by rw [← c1]; exact hle.1 q, by rw [← c2]; exact hle.2.1, by rw [← c3]; exact hle.2.2⟩, fun gl p l e R s m args below meth c A C H locs cells slots lsA stA ad ad0 cn0 k0 n0 S => ?_⟩
  obtain ⟨s1, s2, s3, s4, s5, s6, s7, s8, s9⟩ := S
  exact h gl p l e R s m args below meth c A C H locs cells slots lsA stA ad _ s1 s2 s3 s4 fun lsA' stA' H' locs' hS hR hL hT => K gl p l e R s m args below meth c A C H' locs' cells slots lsA' stA' ad ad0 cn0 k0 n0 ⟨hS, hR, hL, hT, s5, fun r => by rw [c1]; exact s6 r, by rw [c2]; exact s7, by rw [c3]; exact s8, s9⟩
/-- what the tables say of a class of ours: its place, fields, their words -/
def MiC (r : Nat) (C : String) (T : u_T) (N : Nat) (ty : Nat → FieldType) : Prop :=
  mi_rk r = 3 ∧ vwCl[mi_rc r]? = some (C, T, N) ∧ mi_rn r = N ∧ (∀ w ∈ u_ws C T N, w ∈ mi_tb) ∧ (∀ k, k < N → parseFieldDescriptor (T k).2.2.1 = some (ty k)) ∧ (∀ a, a < N → ∀ b, b < N → a ≠ b → (T a).2.1 ≠ (T b).2.1) ∧ r ≠ 0
section MiHeap
variable {μ : MiI} {pc : Nat} {ls st : List MiV} {M : MiM}
theorem mi_en3 {gl : MiG} {ad : Nat → Int → Nat} {r : Nat} {x : Int} {e : va_E} (hk : mi_rk r = 3) (h : mi_en gl ad M r x e) : ∃ fs : List Value, e = .inr (mi_rc r, fs) ∧ fs.length = mi_rn r ∧ ∀ k : Nat, k < mi_rn r → ∃ w, fs[k]? = some w ∧ mi_vr ad M.2.2 (mi_fv M r x k) w := by
  unfold mi_en at h; rw [hk] at h; exact h
theorem mi_en0 {gl : MiG} {ad : Nat → Int → Nat} {r : Nat} {x : Int} {e : va_E} (hk : mi_rk r = 0) (h : mi_en gl ad M r x e) : ∃ f : Nat → Int32, e = .inl (gl.2.1 0, mi_rn r, .inl f) ∧ ∀ i : Nat, i < mi_rn r → (f i).toInt = M.1 r x i := by
  unfold mi_en at h; rw [hk] at h; exact h
theorem mi_en1 {gl : MiG} {ad : Nat → Int → Nat} {r : Nat} {x : Int} {e : va_E} (hk : mi_rk r = 1) (h : mi_en gl ad M r x e) : ∃ f : Nat → Int64, e = .inl (gl.2.1 1, mi_rn r, .inr (.inl f)) ∧ ∀ i : Nat, i < mi_rn r → (f i).toInt = M.1 r x i := by
  unfold mi_en at h; rw [hk] at h; exact h
theorem mi_en2 {gl : MiG} {ad : Nat → Int → Nat} {r : Nat} {x : Int} {e : va_E} (hk : mi_rk r = 2) (h : mi_en gl ad M r x e) : ∃ g : Nat → Option Nat, e = .inl (gl.2.1 (mi_rc r), mi_rn r, .inr (.inr (.inr (.inr g)))) ∧ ∀ i : Nat, i < mi_rn r → mi_vr ad M.2.2 (mi_rt r 0, M.2.1 r x i) (va_rf (g i)) := by
  unfold mi_en at h; rw [hk] at h; exact h
theorem mi_en4 {gl : MiG} {ad : Nat → Int → Nat} {r : Nat} {x : Int} {e : va_E} (hk : mi_rk r = 4) (h : mi_en gl ad M r x e) : ∃ f : Nat → Int32, e = .inl (gl.2.1 2, mi_rn r, .inl f) ∧ ∀ i : Nat, i < mi_rn r → (f i).toInt = M.1 r x i := by
  unfold mi_en at h; rw [hk] at h; exact h
theorem mi_getf {r k ix : Nat} {x : Int} {C : String} {T : u_T} {N : Nat} {ty : Nat → FieldType} {v : MiV} (hdg : decode μ.2.1 pc = .ok (.getfield ix, 3)) (hC : MiC r C T N ty) (hk : k < N) (hT : (T k).1 = C) (hw : Cond.fieldLink μ.1.cls ix C (T k).2.1 (T k).2.2.1 ∈ mi_tb) (h0 : 0 ≤ x) (hv : mi_fv M r x k = v) : MiStep μ pc ls ((r + 2, x) :: st) M (pc + 3) ls (v :: st) := by
  subst hv
  intro gl p l e R s m args below meth c A C0 H locs cells slots lsA stA ad Q hS hR hL hst kk
  obtain ⟨c1, c2, c3, c4, c5, c6, c7⟩ := hC
  have hst_ := hst.cons
  clear hst
  obtain ⟨_, _, rfl, hv, hst⟩ := hst_
  rcases hv with ⟨z, -⟩ | ⟨-, h1, rfl⟩
  · exact absurd z (by omega)
  obtain ⟨-, e0, hat, hen⟩ := hR.1 r x (by rw [c1]; decide) h0 h1
  obtain ⟨fs, rfl, e2, e3⟩ := mi_en3 c1 hen
  obtain ⟨w, hw1, hw2⟩ := e3 k (by rw [c3]; exact hk)
  exact va_get C0.1 C0.2.1 C0.2.2.2.2.2.2.2.1 c4 C0.2.2.2.2.2.1 C0.2.2.2.2.2.2.2.2.1.1 (mi_P1 hat) 0 rfl c2 k hk (C0.2.2.2.2.2.2.2.1 _ hw) (fun q hq => by rw [hT] at hq; exact hq) hw1 hdg (kk _ _ hL ⟨hw2, hst⟩)
theorem mi_getfN {r k ix : Nat} {x : Int} {C host : String} {T : u_T} {N : Nat} {ty : Nat → FieldType} {v : MiV} (hdg : decode μ.2.1 pc = .ok (.getfield ix, 3)) (hC : MiC r C T N ty) (hk : k < N) (hT : (T k).1 = C) (hw : Cond.fieldLinkNest μ.1.cls ix C (T k).2.1 (T k).2.2.1 host ∈ mi_nest) (h0 : 0 ≤ x) (hv : mi_fv M r x k = v) : MiStep μ pc ls ((r + 2, x) :: st) M (pc + 3) ls (v :: st) := by
  subst hv
  intro gl p l e R s m args below meth c A C0 H locs cells slots lsA stA ad Q hS hR hL hst kk
  obtain ⟨c1, c2, c3, c4, c5, c6, c7⟩ := hC
  have hst_ := hst.cons
  clear hst
  obtain ⟨_, _, rfl, hv, hst⟩ := hst_
  rcases hv with ⟨z, -⟩ | ⟨-, h1, rfl⟩
  · exact absurd z (by omega)
  obtain ⟨-, e0, hat, hen⟩ := hR.1 r x (by rw [c1]; decide) h0 h1
  obtain ⟨fs, rfl, e2, e3⟩ := mi_en3 c1 hen
  obtain ⟨w, hw1, hw2⟩ := e3 k (by rw [c3]; exact hk)
  exact va_getN C0.1 C0.2.1 C0.2.2.2.2.2.2.2.1 c4 C0.2.2.2.2.2.1 C0.2.2.2.2.2.2.2.2.1.1 (mi_P1 hat) 0 rfl c2 k hk (va_Nw.use rfl (C0.2.2.2.2.2.2.2.2.1.2.1.2.2.2.2.2.2.2.2.2.2.2.2.2.2 _ hw)) (fun q hq => by rw [hT] at hq; exact hq) hw1 hdg (kk _ _ hL ⟨hw2, hst⟩)
theorem mi_idx {i : Int} {n : Nat} {j : Int32} (hj : j.toInt = i) (h0 : 0 ≤ i) (h1 : i < n) : vp_in j n ∧ j.toNatClampNeg < n ∧ (j.toNatClampNeg : Int) = i := by
  subst hj
  have h2 : (j.toNatClampNeg : Int) = j.toInt := by
    show ((j.toInt.toNat : Nat) : Int) = j.toInt
    omega
  refine ⟨vp_in_iff.mpr ⟨h0, h1⟩, by omega, h2⟩
theorem mi_ialoadG {r : Nat} {x i : Int} (hdg : decode μ.2.1 pc = .ok (.iaload, 1)) (hk : mi_rk r = 0) (h0 : 0 ≤ x) (hi0 : 0 ≤ i) (hi1 : i < mi_rn r) : MiStep μ pc ls ((0, i) :: (r + 2, x) :: st) M (pc + 1) ls ((0, M.1 r x i) :: st) := by
  intro gl p l e R s m args below meth c A C0 H locs cells slots lsA stA ad Q hS hR hL hst kk
  have hst_ := hst.cons
  clear hst
  obtain ⟨_, _, rfl, ⟨j, rfl, hj⟩, hst⟩ := hst_
  have hst_ := hst.cons
  clear hst
  obtain ⟨_, _, rfl, hv, hst⟩ := hst_
  rcases hv with ⟨z, -⟩ | ⟨-, h1, rfl⟩
  · exact absurd z (by omega)
  obtain ⟨-, e0, hat, hen⟩ := hR.1 r x (by rw [hk]; decide) h0 h1
  obtain ⟨f, rfl, e2⟩ := mi_en0 hk hen
  obtain ⟨g1, g2, g3⟩ := mi_idx hj hi0 hi1
  exact va_iald C0.1 C0.2.1 C0.2.2.2.2.2.2.2.2.1.1 (mi_P1 hat) 0 0 rfl rfl g1 hdg (kk _ _ hL ⟨⟨_, rfl, by rw [e2 _ g2, g3]⟩, hst⟩)
theorem mi_baloadG {r : Nat} {x i : Int} (hdg : decode μ.2.1 pc = .ok (.baload, 1)) (hk : mi_rk r = 4) (h0 : 0 ≤ x) (hi0 : 0 ≤ i) (hi1 : i < mi_rn r) : MiStep μ pc ls ((0, i) :: (r + 2, x) :: st) M (pc + 1) ls ((0, M.1 r x i) :: st) := by
  intro gl p l e R s m args below meth c A C0 H locs cells slots lsA stA ad Q hS hR hL hst kk
  have hst_ := hst.cons
  clear hst
  obtain ⟨_, _, rfl, ⟨j, rfl, hj⟩, hst⟩ := hst_
  have hst_ := hst.cons
  clear hst
  obtain ⟨_, _, rfl, hv, hst⟩ := hst_
  rcases hv with ⟨z, -⟩ | ⟨-, h1, rfl⟩
  · exact absurd z (by omega)
  obtain ⟨-, e0, hat, hen⟩ := hR.1 r x (by rw [hk]; decide) h0 h1
  obtain ⟨f, rfl, e2⟩ := mi_en4 hk hen
  obtain ⟨g1, g2, g3⟩ := mi_idx hj hi0 hi1
  exact va_bald C0.1 C0.2.1 C0.2.2.2.2.2.2.2.2.1.1 (mi_P1 hat) 0 2 rfl rfl g1 hdg (kk _ _ hL ⟨⟨_, rfl, by rw [e2 _ g2, g3]⟩, hst⟩)
theorem mi_laloadG {r : Nat} {x i : Int} (hdg : decode μ.2.1 pc = .ok (.laload, 1)) (hk : mi_rk r = 1) (h0 : 0 ≤ x) (hi0 : 0 ≤ i) (hi1 : i < mi_rn r) : MiStep μ pc ls ((0, i) :: (r + 2, x) :: st) M (pc + 1) ls ((1, M.1 r x i) :: st) := by
  intro gl p l e R s m args below meth c A C0 H locs cells slots lsA stA ad Q hS hR hL hst kk
  have hst_ := hst.cons
  clear hst
  obtain ⟨_, _, rfl, ⟨j, rfl, hj⟩, hst⟩ := hst_
  have hst_ := hst.cons
  clear hst
  obtain ⟨_, _, rfl, hv, hst⟩ := hst_
  rcases hv with ⟨z, -⟩ | ⟨-, h1, rfl⟩
  · exact absurd z (by omega)
  obtain ⟨-, e0, hat, hen⟩ := hR.1 r x (by rw [hk]; decide) h0 h1
  obtain ⟨f, rfl, e2⟩ := mi_en1 hk hen
  obtain ⟨g1, g2, g3⟩ := mi_idx hj hi0 hi1
  exact va_lald C0.1 C0.2.1 C0.2.2.2.2.2.2.2.2.1.1 (mi_P1 hat) 0 1 rfl rfl g1 hdg (kk _ _ hL ⟨⟨_, rfl, by rw [e2 _ g2, g3]⟩, hst⟩)
theorem mi_aaloadG {r : Nat} {x i : Int} {v : MiV} (hdg : decode μ.2.1 pc = .ok (.aaload, 1)) (hk : mi_rk r = 2) (hc : ∃ ty : FieldType, ty.isReference = true ∧ mi_rc r < 11 ∧ mi_ty.getD (mi_rc r) .int = ty) (h0 : 0 ≤ x) (hi0 : 0 ≤ i) (hi1 : i < mi_rn r) (hv : (mi_rt r 0, M.2.1 r x i) = v) : MiStep μ pc ls ((0, i) :: (r + 2, x) :: st) M (pc + 1) ls (v :: st) := by
  subst hv
  intro gl p l e R s m args below meth c A C0 H locs cells slots lsA stA ad Q hS hR hL hst kk
  have hst_ := hst.cons
  clear hst
  obtain ⟨_, _, rfl, ⟨j, rfl, hj⟩, hst⟩ := hst_
  have hst_ := hst.cons
  clear hst
  obtain ⟨_, _, rfl, hv, hst⟩ := hst_
  rcases hv with ⟨z, -⟩ | ⟨-, h1, rfl⟩
  · exact absurd z (by omega)
  obtain ⟨-, e0, hat, hen⟩ := hR.1 r x (by rw [hk]; decide) h0 h1
  obtain ⟨g, rfl, e2⟩ := mi_en2 hk hen
  obtain ⟨g1, g2, g3⟩ := mi_idx hj hi0 hi1
  obtain ⟨ty, t1, t2, t3⟩ := hc
  have ht : (mi_tl gl)[mi_rc r]? = some (gl.2.1 (mi_rc r), ty) := by
    unfold mi_tl
    rw [List.getElem?_map, List.getElem?_range t2, ← t3]; rfl
  have hK := C0.2.2.2.2.2.2.2.2.1.1
  have hlt : j.toNatClampNeg < mi_rn r := g2
  have hrel := e2 _ g2
  rw [g3] at hrel
  exact W.aald (v := va_rf (g j.toNatClampNeg)) (ty := ty) C0.1 C0.2.1 hat ((hK.2 _ _ ht).1 (mi_rn r) (fun j => va_rf (g j))) t1 (fun q => by cases q) (by show ¬ (j < 0 ∨ (arrV _ _ _).slots.size ≤ _); rw [arrV_size]; exact g1) (by show (arrV _ _ _).slots[_]? = _; rw [arrV_read _ _ hlt]) rfl rfl hdg (kk _ _ hL ⟨hrel, hst⟩)
theorem mi_alen {r : Nat} {x : Int} {z : Int} (hdg : decode μ.2.1 pc = .ok (.arraylength, 1)) (hk : mi_rk r = 0 ∨ mi_rk r = 1) (h0 : 0 ≤ x) (hz : (Int32.ofNat (mi_rn r)).toInt = z) : MiStep μ pc ls ((r + 2, x) :: st) M (pc + 1) ls ((0, z) :: st) := by
  intro gl p l e R s m args below meth c A C0 H locs cells slots lsA stA ad Q hS hR hL hst kk
  have hst_ := hst.cons
  clear hst
  obtain ⟨_, _, rfl, hv, hst⟩ := hst_
  rcases hv with ⟨z, -⟩ | ⟨-, h1, rfl⟩
  · exact absurd z (by omega)
  rcases hk with hk | hk
  · obtain ⟨-, e0, hat, hen⟩ := hR.1 r x (by rw [hk]; decide) h0 h1
    obtain ⟨f, rfl, e2⟩ := mi_en0 hk hen
    exact va_alen C0.1 C0.2.1 C0.2.2.2.2.2.2.2.2.1.1 (mi_P1 hat) 0 0 rfl rfl rfl hdg (kk _ _ hL ⟨⟨_, rfl, hz⟩, hst⟩)
  · obtain ⟨-, e0, hat, hen⟩ := hR.1 r x (by rw [hk]; decide) h0 h1
    obtain ⟨f, rfl, e2⟩ := mi_en1 hk hen
    exact va_alen C0.1 C0.2.1 C0.2.2.2.2.2.2.2.2.1.1 (mi_P1 hat) 0 1 rfl rfl rfl hdg (kk _ _ hL ⟨⟨_, rfl, hz⟩, hst⟩)
end MiHeap
