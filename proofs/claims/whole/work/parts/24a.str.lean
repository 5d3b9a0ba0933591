/-! ===== a static of which only 'null, or a reference' is known ===== -/
theorem Sg.goOr {α : Type} {μ : MiI} {pc ix : Nat} {ls st : List MiV} {M : MiM} {L : α → MiO} {o : Option α} (hdg : decode μ.2.1 pc = .ok (.getstatic ix, 3)) (hw : Cond.fieldLink μ.1.cls ix "jdk/internal/util/Preconditions" "SIOOBE_FORMATTER" "Ljava/util/function/BiFunction;" ∈ mi_tb)
    (k0 : Sg μ (pc + 3) ls ((34, -1) :: st) M L o) (k1 : Sg μ (pc + 3) ls ((34, 0) :: st) M L o) : Sg μ pc ls st M L o := by
  intro a ha r hr
  obtain ⟨hle, K0⟩ := k0 a ha r hr
  obtain ⟨-, K1⟩ := k1 a ha r hr
  refine ⟨hle, fun gl p l e R s m args below meth c A C H locs cells slots lsA stA ad ad0 cn0 i0 n0 S => ?_⟩
  obtain ⟨s1, s2, s3, s4, s5⟩ := S
  rcases C.2.2.2.2.2.2.2.2.1.2.2.2.2.1 with hz | hz
  · exact va_gets C.1 C.2.1 hz s1 C.2.2.2.2.2.1 (C.2.2.2.2.2.2.2.1 _ hw) (fun x hx => hx) hdg (K0 gl p l e R s m args below meth c A C H locs cells slots lsA _ ad ad0 cn0 i0 n0 ⟨s1, s2, s3, ⟨Or.inl ⟨by decide, rfl⟩, s4⟩, s5⟩)
  · exact va_gets C.1 C.2.1 hz s1 C.2.2.2.2.2.1 (C.2.2.2.2.2.2.2.1 _ hw) (fun x hx => hx) hdg (K1 gl p l e R s m args below meth c A C H locs cells slots lsA _ ad ad0 cn0 i0 n0 ⟨s1, s2, s3, ⟨mi_c9 (r := 32) s2 (by decide) rfl (by decide), s4⟩, s5⟩)
/-! ===== texts by ldc_w, OPS's length, calls without answer that change nothing ===== -/
theorem mi_ldcwS {μ : MiI} {pc j ix : Nat} {ls st : List MiV} {M : MiM} {z : Int} {tx : String} (hdg : decode μ.2.1 pc = .ok (.ldc_w ix, 3)) (hq : mi_str[j]? = some (μ.1.cls, ix, tx)) (hz : (j : Int) = z) (hj : j < 64) : MiStep μ pc ls st M (pc + 3) ls ((29, z) :: st) := by
  intro gl p l e R s m args below meth c A C0 H locs cells slots lsA stA ad Q hS hR hL hT k
  have hZ := C0.2.2.2.2.2.2.2.2.1.2.1.2.2.2.2.1 j _ hq
  intro T hT' X
  obtain ⟨t, a1, b1⟩ := k lsA (.ref (gl.2.2 27 j) :: stA) hL ⟨mi_c9 (r := 27) hR (by decide) hz (by show (j : Int) < 64; omega), hT⟩ T hT' X
  exact ⟨t, X.ldcStringW C0.1 C0.2.2.2.2.2.1 (text := tx) hZ.1 hZ.2 (g := F0 m pc lsA stA) rfl (by rw [C0.2.1]; exact hdg) t a1, b1⟩
theorem mi_oplen {μ : MiI} {pc : Nat} {ls st : List MiV} {M : MiM} (hdg : decode μ.2.1 pc = .ok (.arraylength, 1)) : MiStep μ pc ls ((32, 0) :: st) M (pc + 1) ls ((0, 19) :: st) := by
  intro gl p l e R s m args below meth c A C0 H locs cells slots lsA stA ad Q hS hR hL hst k
  have hst_ := hst.cons
  clear hst
  obtain ⟨_, _, rfl, hv, hst⟩ := hst_
  obtain ⟨j, hj0, hj, rfl⟩ := mi_c9o (r := 30) hR (by decide) (Int.le_refl 0) hv
  exact va_tlen C0.1 C0.2.1 (mi_fOp gl A s C0.2.2.2.2.2.2.2.2.1 j hj) hS rfl hdg (k _ _ hL ⟨⟨_, rfl, rfl⟩, hst⟩)
def mi_LU (M : MiM) : Unit → MiO := fun _ => ((0, (0, 0)), M)
theorem Sg.callU {α : Type} {μ μ' : MiI} {pc pc' : Nat} {ls st st' args : List MiV} {D : MiD} {Z : MiZ} {L : α → MiO} {ob : Option Unit} {o : Option α} (hI : MiInv μ pc μ' args) (hM : ∀ v, ob = some v → MC μ' args (D, Z) (mi_LU (D, Z) v)) (hW : mi_cs st ≤ 8) (he : args.reverse ++ st = st') (hp : pc + 3 = pc') (k : Sg μ pc' ls st (D, Z) L o) : Sg μ pc ls st' (D, Z) L (mi_bi ob fun _ => o) := by
  subst hp
  exact Sg.callB (f := fun _ => o) hI hM (fun _ => by show 0 < 2; decide) hW he (fun _ => k)
