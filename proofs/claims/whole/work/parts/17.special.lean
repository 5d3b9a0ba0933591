/-! ===== steps of a special kind: constants that are there from the start, Object(), Math ===== -/
section MiSpec
variable {μ : MiI} {pc : Nat} {ls st : List MiV} {M : MiM}
theorem mi_c9 {gl : MiG} {A : Nat → Prop} {ad : Nat → Int → Nat} {H : Heap} (hR : mi_rp gl A ad M H) {r j : Nat} {z : Int} (hr : 9 ≤ mi_rk r) (hz : (j : Int) = z) (hj : (j : Int) < mi_sn r) : mi_vr ad M.2.2 (r + 2, z) (.ref (gl.2.2 r j)) := by
  subst hz
  exact Or.inr ⟨Int.natCast_nonneg j, by rw [(hR.2.2 r hr).1]; exact hj, by rw [(hR.2.2 r hr).2]; rfl⟩
theorem mi_c9o {gl : MiG} {A : Nat → Prop} {ad : Nat → Int → Nat} {H : Heap} (hR : mi_rp gl A ad M H) {r : Nat} {x : Int} {w : Value} (hr : 9 ≤ mi_rk r) (h0 : 0 ≤ x) (h : mi_vr ad M.2.2 (r + 2, x) w) : ∃ j : Nat, x = j ∧ (j : Int) < mi_sn r ∧ w = .ref (gl.2.2 r j) := by
  obtain ⟨j, rfl⟩ := Int.eq_ofNat_of_zero_le h0
  rcases h with ⟨z, -⟩ | ⟨-, h1, rfl⟩
  · exact absurd z (by omega)
  · exact ⟨j, rfl, by rw [(hR.2.2 r hr).1] at h1; exact h1, by rw [(hR.2.2 r hr).2]; rfl⟩
/-- a static that refers to a constant -/
theorem mi_gs {r j ix : Nat} {z : Int} {C n d : String} (hdg : decode μ.2.1 pc = .ok (.getstatic ix, 3)) (hZ : ∀ (gl : MiG) (A : Nat → Prop) (s : State), mi_k gl A s → va_Z C n d (.ref (gl.2.2 r j)) A s s.heap) (hw : Cond.fieldLink μ.1.cls ix C n d ∈ mi_tb) (hr : 9 ≤ mi_rk r) (hz : (j : Int) = z) (hj : (j : Int) < mi_sn r) : MiStep μ pc ls st M (pc + 3) ls ((r + 2, z) :: st) := by
  intro gl p l e R s m args below meth c A C0 H locs cells slots lsA stA ad Q hS hR hL hT k
  exact va_gets C0.1 C0.2.1 (hZ gl A s C0.2.2.2.2.2.2.2.2.1) hS C0.2.2.2.2.2.1 (C0.2.2.2.2.2.2.2.1 _ hw) (fun x hx => hx) hdg (k _ _ hL ⟨mi_c9 hR hr hz hj, hT⟩)
theorem mi_gsN {r j ix : Nat} {z : Int} {C n d host : String} (hdg : decode μ.2.1 pc = .ok (.getstatic ix, 3)) (hZ : ∀ (gl : MiG) (A : Nat → Prop) (s : State), mi_k gl A s → va_Z C n d (.ref (gl.2.2 r j)) A s s.heap) (hw : Cond.fieldLinkNest μ.1.cls ix C n d host ∈ mi_nest) (hr : 9 ≤ mi_rk r) (hz : (j : Int) = z) (hj : (j : Int) < mi_sn r) : MiStep μ pc ls st M (pc + 3) ls ((r + 2, z) :: st) := by
  intro gl p l e R s m args below meth c A C0 H locs cells slots lsA stA ad Q hS hR hL hT k
  exact va_getsN C0.1 C0.2.1 (hZ gl A s C0.2.2.2.2.2.2.2.2.1) hS C0.2.2.2.2.2.1 (va_Nw.use rfl (C0.2.2.2.2.2.2.2.2.1.2.1.2.2.2.2.2.2.2.2.2.2.2.2.2.2 _ hw)) (fun x hx => hx) hdg (k _ _ hL ⟨mi_c9 hR hr hz hj, hT⟩)
theorem mi_zHo (gl : MiG) (A : Nat → Prop) (s : State) (h : mi_k gl A s) : va_Z RX10 "HOLDS" "[I" (.ref (gl.2.2 28 0)) A s s.heap := h.2.1.2.2.2.2.2.1
theorem mi_zSm (gl : MiG) (A : Nat → Prop) (s : State) (h : mi_k gl A s) : va_Z RX0 "$SwitchMap$MendedProgram$Op" "[I" (.ref (gl.2.2 29 0)) A s s.heap := h.2.1.2.2.2.2.2.2.2.1
theorem mi_zOp (gl : MiG) (A : Nat → Prop) (s : State) (h : mi_k gl A s) : va_Z RX10 "OPS" "[LMendedProgram$Op;" (.ref (gl.2.2 30 0)) A s s.heap := h.2.1.2.2.2.2.2.2.2.2.2.1
theorem mi_zEn {n : String} (j : Nat) (hj : j < 19) (hn : mi_opN.getD j "" = n) (gl : MiG) (A : Nat → Prop) (s : State) (h : mi_k gl A s) : va_Z RX3 n "LMendedProgram$Op;" (.ref (gl.2.2 26 j)) A s s.heap := by
  rw [← hn]; exact (h.2.1.1.1 j hj).1
theorem mi_gsC {ix : Nat} (hdg : decode μ.2.1 pc = .ok (.getstatic ix, 3)) (hw : Cond.fieldLink μ.1.cls ix RJ0 "COMPACT_STRINGS" "Z" ∈ mi_tb) : MiStep μ pc ls st M (pc + 3) ls ((0, 1) :: st) := by
  intro gl p l e R s m args below meth c A C0 H locs cells slots lsA stA ad Q hS hR hL hT k
  exact va_gets C0.1 C0.2.1 C0.2.2.2.2.2.2.2.2.1.2.1.2.2.2.2.2.2.2.2.2.2.2.1 hS C0.2.2.2.2.2.1 (C0.2.2.2.2.2.2.2.1 _ hw) (fun x hx => hx) hdg (k _ _ hL ⟨⟨_, rfl, rfl⟩, hT⟩)
/-- a text's constant -/
theorem mi_ldcS {j ix : Nat} {z : Int} {tx : String} (hdg : decode μ.2.1 pc = .ok (.ldc ix, 2)) (hq : mi_str[j]? = some (μ.1.cls, ix, tx)) (hz : (j : Int) = z) (hj : j < 64) : MiStep μ pc ls st M (pc + 2) ls ((29, z) :: st) := by
  intro gl p l e R s m args below meth c A C0 H locs cells slots lsA stA ad Q hS hR hL hT k
  exact va_ldcS C0.1 C0.2.1 C0.2.2.2.2.2.1 (C0.2.2.2.2.2.2.2.2.1.2.1.2.2.2.2.1 j _ hq) hdg (k _ _ hL ⟨mi_c9 (r := 27) hR (by decide) hz (by show (j : Int) < 64; omega), hT⟩)
/-- fields of the constants: of an Op its word and parts, of a text its coder and bytes -/
theorem mi_gcR {r r' ix : Nat} {x y : Int} {C n d : String} (g : Nat → Nat) (hdg : decode μ.2.1 pc = .ok (.getfield ix, 3)) (hZ : ∀ (gl : MiG) (A : Nat → Prop) (s : State), mi_k gl A s → ∀ j : Nat, (j : Int) < mi_sn r → va_OF C n d (.ref (gl.2.2 r' (g j))) (gl.2.2 r j) A s s.heap) (hw : Cond.fieldLink μ.1.cls ix C n d ∈ mi_tb) (hr : 9 ≤ mi_rk r) (hr' : 9 ≤ mi_rk r') (h0 : 0 ≤ x) (hy : ((g x.toNat : Nat) : Int) = y) (hg : (y : Int) < mi_sn r') : MiStep μ pc ls ((r + 2, x) :: st) M (pc + 3) ls ((r' + 2, y) :: st) := by
  intro gl p l e R s m args below meth c A C0 H locs cells slots lsA stA ad Q hS hR hL hst k
  have hst_ := hst.cons
  clear hst
  obtain ⟨_, _, rfl, hv, hst⟩ := hst_
  obtain ⟨j, rfl, hj, rfl⟩ := mi_c9o hR hr h0 hv
  exact vk_getf C0.1 C0.2.1 (hZ gl A s C0.2.2.2.2.2.2.2.2.1 j hj) hS C0.2.2.2.2.2.1 (C0.2.2.2.2.2.2.2.1 _ hw) (fun x hx => hx) hdg (k _ _ hL ⟨mi_c9 hR hr' hy (by rw [show ((g j : Nat) : Int) = y from hy]; exact hg), hst⟩)
theorem mi_gcI {r ix : Nat} {x y : Int} {C n d : String} (g : Nat → Int32) (hdg : decode μ.2.1 pc = .ok (.getfield ix, 3)) (hZ : ∀ (gl : MiG) (A : Nat → Prop) (s : State), mi_k gl A s → ∀ j : Nat, (j : Int) < mi_sn r → va_OF C n d (.int (g j)) (gl.2.2 r j) A s s.heap) (hw : Cond.fieldLink μ.1.cls ix C n d ∈ mi_tb) (hr : 9 ≤ mi_rk r) (h0 : 0 ≤ x) (hy : (g x.toNat).toInt = y) : MiStep μ pc ls ((r + 2, x) :: st) M (pc + 3) ls ((0, y) :: st) := by
  intro gl p l e R s m args below meth c A C0 H locs cells slots lsA stA ad Q hS hR hL hst k
  have hst_ := hst.cons
  clear hst
  obtain ⟨_, _, rfl, hv, hst⟩ := hst_
  obtain ⟨j, rfl, hj, rfl⟩ := mi_c9o hR hr h0 hv
  exact vk_getf C0.1 C0.2.1 (hZ gl A s C0.2.2.2.2.2.2.2.2.1 j hj) hS C0.2.2.2.2.2.1 (C0.2.2.2.2.2.2.2.1 _ hw) (fun x hx => hx) hdg (k _ _ hL ⟨⟨_, rfl, hy⟩, hst⟩)
theorem mi_fWo (gl : MiG) (A : Nat → Prop) (s : State) (h : mi_k gl A s) (j : Nat) (hj : (j : Int) < mi_sn 26) : va_OF RX3 "word" "Ljava/lang/String;" (.ref (gl.2.2 27 (mi_wIx.getD j 0))) (gl.2.2 26 j) A s s.heap := h.2.1.2.1 j (Int.ofNat_lt.mp hj)
theorem mi_fPa (gl : MiG) (A : Nat → Prop) (s : State) (h : mi_k gl A s) (j : Nat) (hj : (j : Int) < mi_sn 26) : va_OF RX3 "parts" "Ljava/lang/String;" (.ref (gl.2.2 27 (mi_pIx.getD j 0))) (gl.2.2 26 j) A s s.heap := h.2.1.2.2.1 j (Int.ofNat_lt.mp hj)
theorem mi_fOr (gl : MiG) (A : Nat → Prop) (s : State) (h : mi_k gl A s) (j : Nat) (hj : (j : Int) < mi_sn 26) : va_OF "java/lang/Enum" "ordinal" "I" (.int (((List.range 19).map Int32.ofNat).getD j 0)) (gl.2.2 26 j) A s s.heap := (h.2.1.1.1 j (Int.ofNat_lt.mp hj)).2.2 _ (List.mem_singleton.mpr rfl)
theorem mi_fCo (gl : MiG) (A : Nat → Prop) (s : State) (h : mi_k gl A s) (j : Nat) (hj : (j : Int) < mi_sn 27) : va_OF "java/lang/String" "coder" "B" (.int 0) (gl.2.2 27 j) A s s.heap := (h.2.1.2.2.2.1 j (Int.ofNat_lt.mp hj)).2.1
theorem mi_fVa (gl : MiG) (A : Nat → Prop) (s : State) (h : mi_k gl A s) (j : Nat) (hj : (j : Int) < mi_sn 27) : va_OF "java/lang/String" "value" "[B" (.ref (gl.2.2 31 j)) (gl.2.2 27 j) A s s.heap := (h.2.1.2.2.2.1 j (Int.ofNat_lt.mp hj)).2.2.1
/-- places of the constant arrays -/
theorem mi_fHo (gl : MiG) (A : Nat → Prop) (s : State) (h : mi_k gl A s) (j : Nat) (hj : (j : Int) < mi_sn 28) : va_T .int (gl.2.2 28 j) 11 (fun i => .int (mi_hoL.getD i 0)) A s s.heap := by
  have : j = 0 := by have : (j : Int) < 1 := hj; omega
  subst this; exact h.2.1.2.2.2.2.2.2.1
theorem mi_fSm (gl : MiG) (A : Nat → Prop) (s : State) (h : mi_k gl A s) (j : Nat) (hj : (j : Int) < mi_sn 29) : va_T .int (gl.2.2 29 j) 19 (fun i => .int (mi_smL.getD i 0)) A s s.heap := by
  have : j = 0 := by have : (j : Int) < 1 := hj; omega
  subst this; exact h.2.1.2.2.2.2.2.2.2.2.1
theorem mi_fOp (gl : MiG) (A : Nat → Prop) (s : State) (h : mi_k gl A s) (j : Nat) (hj : (j : Int) < mi_sn 30) : va_T (.object RX3) (gl.2.2 30 j) 19 (fun i => .ref (gl.2.2 26 i)) A s s.heap := by
  have : j = 0 := by have : (j : Int) < 1 := hj; omega
  subst this; exact h.2.1.2.2.2.2.2.2.2.2.2.2.1
theorem mi_fBy (gl : MiG) (A : Nat → Prop) (s : State) (h : mi_k gl A s) (j : Nat) (hj : (j : Int) < mi_sn 31) : va_T .byte (gl.2.2 31 j) (mi_len.getD j 0) (fun i => .int ((mi_chr.getD j []).getD i 0)) A s s.heap := (h.2.1.2.2.2.1 j (Int.ofNat_lt.mp hj)).2.2.2
theorem mi_cl {i : Int32} {z : Int} (h : i.toInt = z) (h0 : 0 ≤ z) : i.toNatClampNeg = z.toNat := by
  subst h; rfl
theorem mi_cald {r : Nat} {x i y : Int} (n : Nat → Nat) (f : Nat → Nat → Int32) (hdg : decode μ.2.1 pc = .ok (.iaload, 1)) (hZ : ∀ (gl : MiG) (A : Nat → Prop) (s : State), mi_k gl A s → ∀ j : Nat, (j : Int) < mi_sn r → va_T .int (gl.2.2 r j) (n j) (fun i => .int (f j i)) A s s.heap) (hr : 9 ≤ mi_rk r) (h0 : 0 ≤ x) (hi : 0 ≤ i ∧ i < n x.toNat) (hy : (f x.toNat i.toNat).toInt = y) : MiStep μ pc ls ((0, i) :: (r + 2, x) :: st) M (pc + 1) ls ((0, y) :: st) := by
  intro gl p l e R s m args below meth c A C0 H locs cells slots lsA stA ad Q hS hR hL hst k
  have hst_ := hst.cons
  clear hst
  obtain ⟨_, _, rfl, ⟨i', rfl, rfl⟩, hst⟩ := hst_
  have hst_ := hst.cons
  clear hst
  obtain ⟨_, _, rfl, hv, hst⟩ := hst_
  obtain ⟨j, rfl, hj, rfl⟩ := mi_c9o hR hr h0 hv
  exact va_ti C0.1 C0.2.1 (hZ gl A s C0.2.2.2.2.2.2.2.2.1 j hj) hS (vp_in_iff.mpr hi) rfl hdg (k _ _ hL ⟨⟨_, rfl, hy⟩, hst⟩)
theorem mi_cbld {r : Nat} {x i y : Int} (n : Nat → Nat) (f : Nat → Nat → Int32) (hdg : decode μ.2.1 pc = .ok (.baload, 1)) (hZ : ∀ (gl : MiG) (A : Nat → Prop) (s : State), mi_k gl A s → ∀ j : Nat, (j : Int) < mi_sn r → va_T .byte (gl.2.2 r j) (n j) (fun i => .int (f j i)) A s s.heap) (hr : 9 ≤ mi_rk r) (h0 : 0 ≤ x) (hi : 0 ≤ i ∧ i < n x.toNat) (hy : (f x.toNat i.toNat).toInt = y) : MiStep μ pc ls ((0, i) :: (r + 2, x) :: st) M (pc + 1) ls ((0, y) :: st) := by
  intro gl p l e R s m args below meth c A C0 H locs cells slots lsA stA ad Q hS hR hL hst k
  have hst_ := hst.cons
  clear hst
  obtain ⟨_, _, rfl, ⟨i', rfl, rfl⟩, hst⟩ := hst_
  have hst_ := hst.cons
  clear hst
  obtain ⟨_, _, rfl, hv, hst⟩ := hst_
  obtain ⟨j, rfl, hj, rfl⟩ := mi_c9o hR hr h0 hv
  exact va_tb C0.1 C0.2.1 (hZ gl A s C0.2.2.2.2.2.2.2.2.1 j hj) hS (vp_in_iff.mpr hi) rfl hdg (k _ _ hL ⟨⟨_, rfl, hy⟩, hst⟩)
theorem mi_calen {r : Nat} {x y : Int} {ty : FieldType} (n : Nat → Nat) (f : Nat → Nat → Value) (hdg : decode μ.2.1 pc = .ok (.arraylength, 1)) (hZ : ∀ (gl : MiG) (A : Nat → Prop) (s : State), mi_k gl A s → ∀ j : Nat, (j : Int) < mi_sn r → va_T ty (gl.2.2 r j) (n j) (f j) A s s.heap) (hr : 9 ≤ mi_rk r) (h0 : 0 ≤ x) (hy : (Int32.ofNat (n x.toNat)).toInt = y) : MiStep μ pc ls ((r + 2, x) :: st) M (pc + 1) ls ((0, y) :: st) := by
  intro gl p l e R s m args below meth c A C0 H locs cells slots lsA stA ad Q hS hR hL hst k
  have hst_ := hst.cons
  clear hst
  obtain ⟨_, _, rfl, hv, hst⟩ := hst_
  obtain ⟨j, rfl, hj, rfl⟩ := mi_c9o hR hr h0 hv
  exact va_tlen C0.1 C0.2.1 (hZ gl A s C0.2.2.2.2.2.2.2.2.1 j hj) hS rfl hdg (k _ _ hL ⟨⟨_, rfl, hy⟩, hst⟩)
/-- OPS[i] -/
theorem mi_opld {i : Int} (hdg : decode μ.2.1 pc = .ok (.aaload, 1)) (hi : 0 ≤ i ∧ i < 19) : MiStep μ pc ls ((0, i) :: (32, 0) :: st) M (pc + 1) ls ((28, i) :: st) := by
  intro gl p l e R s m args below meth c A C0 H locs cells slots lsA stA ad Q hS hR hL hst k
  have hst_ := hst.cons
  clear hst
  obtain ⟨_, _, rfl, ⟨i', rfl, rfl⟩, hst⟩ := hst_
  have hst_ := hst.cons
  clear hst
  obtain ⟨_, _, rfl, hv, hst⟩ := hst_
  obtain ⟨j, hj0, hj, rfl⟩ := mi_c9o (r := 30) hR (by decide) (Int.le_refl 0) hv
  exact vb_tq C0.1 C0.2.1 (mi_fOp gl A s C0.2.2.2.2.2.2.2.2.1 j hj) hS (vp_in_iff.mpr hi) rfl hdg (k _ _ hL ⟨mi_c9 (r := 26) hR (by decide) (Int.toNat_of_nonneg hi.1) (by show ((i'.toInt.toNat : Nat) : Int) < 19; omega), hst⟩)
theorem mi_objInit {r ix : Nat} {x : Int} (hdg : decode μ.2.1 pc = .ok (.invokespecial ix, 3)) (w1 : Cond.methodLink μ.1.cls ix Lib.objectInit ∈ mi_tb) (w2 : Cond.instanceMethod Lib.objectInit ∈ mi_tb) (w3 : Cond.code Lib.objectInit ⟨#[0xb1]⟩ 1 none ∈ mi_tb) (hl : 1 ≤ μ.2.2.2.2.1) (h0 : 0 ≤ x) (hW : mi_cs st ≤ 8) : MiStep μ pc ls ((r + 2, x) :: st) M (pc + 3) ls st := by
  intro gl p l e R s m args below meth c A C0 H locs cells slots lsA stA ad Q hS hR hL hst kk
  have hst_ := hst.cons
  clear hst
  obtain ⟨_, _, rfl, hv, hst⟩ := hst_
  rcases hv with ⟨z, -⟩ | ⟨-, h1, rfl⟩
  · exact absurd z (by omega)
  have hts := C0.2.2.2.2.2.2.2.1
  have hf := C0.2.2.2.2.2.2.2.2.2.2.2.1
  have hlo := C0.2.2.2.2.2.2.2.2.2.2.2.2.1
  have hc := mi_cs_eq hst
  exact W.objInit (g := F0 m pc lsA _) C0.1 C0.2.1 C0.2.2.2.2.2.1 (hts _ w1) (hts _ w2) (hts _ w3) rfl (by rw [C0.2.2.1]; exact hL.1) rfl hdg (by omega) (by show 2 * 0 + _ + 12 ≤ _; omega) (kk _ _ hL hst)
/-- a step that asks for the room left -/
def MiStepB (μ : MiI) (pc : Nat) (ls st : List MiV) (M : MiM) (pc' : Nat) (ls' st' : List MiV) : Prop :=
  ∀ (gl : MiG) (p : Program) (l : Launch) (e : Env) (R : Room) (s : State) (m : MethodId) (args : Array Value) (below : List Frame) (meth : Method) (c : Code) (A : Nat → Prop), mi_cx μ gl p l R s m args meth c A →
    ∀ (H : Heap) (locs : List Loc) (cells slots : Nat) (lsA : Array Slot) (stA : List Value) (ad : Nat → Int → Nat) (Q : State → Prop), cells ≤ R.cells → slots ≤ R.slots → va_S A s.heap H locs → mi_rp gl A ad M H → mi_lr ad M.2.2 μ.2.2.1 ls lsA → mi_sr ad M.2.2 st stA →
      (∀ lsA' stA', mi_lr ad M.2.2 μ.2.2.1 ls' lsA' → mi_sr ad M.2.2 st' stA' → W p l e R s m args below meth c H locs cells slots Q (F0 m pc' lsA' stA')) → W p l e R s m args below meth c H locs cells slots Q (F0 m pc lsA stA)
theorem Sim.goB {pc' : Nat} {ls' st' : List MiV} {o : Option MiO} (h : MiStepB μ pc ls st M pc' ls' st') (k : Sim μ pc' ls' st' M o) : Sim μ pc ls st M o := by
  intro r hr
  obtain ⟨hle, K⟩ := k r hr
  refine ⟨hle, fun gl p l e R s m args below meth c A C H locs cells slots lsA stA ad ad0 cn0 k0 n0 S => ?_⟩
  obtain ⟨s1, s2, s3, s4, s5, s6, s7, s8, s9, s10⟩ := S
  exact h gl p l e R s m args below meth c A C H locs cells slots lsA stA ad _ (by have := hle.2.1; omega) (by have := hle.2.2; omega) s1 s2 s3 s4 fun lsA' stA' hL hT => K gl p l e R s m args below meth c A C H locs cells slots lsA' stA' ad ad0 cn0 k0 n0 ⟨s1, s2, hL, hT, s5, s6, s7, s8, s9, s10⟩
theorem Sg.goB {α : Type} {pc' : Nat} {ls' st' : List MiV} {L : α → MiO} {o : Option α} (h : MiStepB μ pc ls st M pc' ls' st') (k : Sg μ pc' ls' st' M L o) : Sg μ pc ls st M L o := fun a ha => Sim.goB h (k a ha)
def mi_min (x y : Int) : Int := if y < x then y else x
def mi_max (x y : Int) : Int := if x < y then y else x
theorem mi_minS {ix : Nat} {x y : Int} (hdg : decode μ.2.1 pc = .ok (.invokestatic ix, 3)) (w1 : Cond.methodLink μ.1.cls ix Lib.Math.min.name ∈ mi_tb) (w2 : Cond.static Lib.Math.min.name ∈ mi_tb) (w3 : Cond.initialized "java/lang/Math" ∈ mi_tb) (w4 : Cond.code Lib.Math.min.name Lib.Math.min.code 2 (some .int) ∈ mi_tb) (hl : 1 ≤ μ.2.2.2.2.1) (hW : mi_cs st ≤ 8) : MiStepB μ pc ls ((0, y) :: (0, x) :: st) M (pc + 3) ls ((0, mi_min x y) :: st) := by
  intro gl p l e R s m args below meth c A C0 H locs cells slots lsA stA ad Q hc1 hc2 hS hR hL hst kk
  have hst_ := hst.cons
  clear hst
  obtain ⟨_, _, rfl, ⟨j, rfl, rfl⟩, hst⟩ := hst_
  have hst_ := hst.cons
  clear hst
  obtain ⟨_, _, rfl, ⟨i, rfl, rfl⟩, hst⟩ := hst_
  have hts := C0.2.2.2.2.2.2.2.1
  have hf := C0.2.2.2.2.2.2.2.2.2.2.2.1
  have hlo := C0.2.2.2.2.2.2.2.2.2.2.2.2.1
  have hc := mi_cs_eq hst
  refine va_mmin C0.1 C0.2.1 (by rw [C0.2.2.1]; exact hL.1.symm) C0.2.2.2.2.2.1 (hts _ w1) (hts _ w2) (hts _ w3) (hts _ w4) (by omega) (by omega) hc1 hc2 hdg (kk _ _ hL ⟨⟨_, rfl, ?_⟩, hst⟩)
  unfold mi_min
  by_cases h : j < i
  · rw [if_pos h, if_pos (Int32.lt_iff_toInt_lt.mp h)]
  · rw [if_neg h, if_neg (fun z => h (Int32.lt_iff_toInt_lt.mpr z))]
theorem mi_maxS {ix : Nat} {x y : Int} (hdg : decode μ.2.1 pc = .ok (.invokestatic ix, 3)) (w1 : Cond.methodLink μ.1.cls ix Lib.Math.max.name ∈ mi_tb) (w2 : Cond.static Lib.Math.max.name ∈ mi_tb) (w3 : Cond.initialized "java/lang/Math" ∈ mi_tb) (w4 : Cond.code Lib.Math.max.name Lib.Math.max.code 2 (some .int) ∈ mi_tb) (hl : 1 ≤ μ.2.2.2.2.1) (hW : mi_cs st ≤ 8) : MiStepB μ pc ls ((0, y) :: (0, x) :: st) M (pc + 3) ls ((0, mi_max x y) :: st) := by
  intro gl p l e R s m args below meth c A C0 H locs cells slots lsA stA ad Q hc1 hc2 hS hR hL hst kk
  have hst_ := hst.cons
  clear hst
  obtain ⟨_, _, rfl, ⟨j, rfl, rfl⟩, hst⟩ := hst_
  have hst_ := hst.cons
  clear hst
  obtain ⟨_, _, rfl, ⟨i, rfl, rfl⟩, hst⟩ := hst_
  have hts := C0.2.2.2.2.2.2.2.1
  have hf := C0.2.2.2.2.2.2.2.2.2.2.2.1
  have hlo := C0.2.2.2.2.2.2.2.2.2.2.2.2.1
  have hc := mi_cs_eq hst
  refine va_mmax C0.1 C0.2.1 (by rw [C0.2.2.1]; exact hL.1.symm) C0.2.2.2.2.2.1 (hts _ w1) (hts _ w2) (hts _ w3) (hts _ w4) (by omega) (by omega) hc1 hc2 hdg (kk _ _ hL ⟨⟨_, rfl, ?_⟩, hst⟩)
  unfold mi_max
  by_cases h : i < j
  · rw [if_pos h, if_pos (Int32.lt_iff_toInt_lt.mp h)]
  · rw [if_neg h, if_neg (fun z => h (Int32.lt_iff_toInt_lt.mpr z))]
theorem mi_acE {r tgt : Nat} {off x y : Int} {α : Type} {L : α → MiO} {a b : Option α} (hdg : decode μ.2.1 pc = .ok (.if_acmp .eq off, 3)) (ht : (pc : Int) + off = (tgt : Int)) (hx : 0 ≤ x) (hy : 0 ≤ y) (hi : ∀ (gl : MiG) (A : Nat → Prop) (s : State), mi_k gl A s → ∀ i j : Nat, (i : Int) < mi_sn r → (j : Int) < mi_sn r → gl.2.2 r i = gl.2.2 r j → i = j) (hr : 9 ≤ mi_rk r) (kt : x = y → Sg μ tgt ls st M L a) (kf : ¬ x = y → Sg μ (pc + 3) ls st M L b) : Sg μ pc ls ((r + 2, y) :: (r + 2, x) :: st) M L (if x = y then a else b) := by
  have step : ∀ (n : Nat), ((x = y ∧ n = tgt) ∨ (¬ x = y ∧ n = pc + 3)) → MiStep μ pc ls ((r + 2, y) :: (r + 2, x) :: st) M n ls st := by
    intro n hn gl p l e R s m args below meth c A C0 H locs cells slots lsA stA ad Q hS hR hL hst k
    have hst_ := hst.cons
    clear hst
    obtain ⟨_, _, rfl, hv1, hst⟩ := hst_
    have hst_ := hst.cons
    clear hst
    obtain ⟨_, _, rfl, hv2, hst⟩ := hst_
    obtain ⟨j, rfl, hj, rfl⟩ := mi_c9o hR hr hy hv1
    obtain ⟨i, rfl, hi', rfl⟩ := mi_c9o hR hr hx hv2
    refine lv_acmp_eq (rx := some (gl.2.2 r i)) (ry := some (gl.2.2 r j)) C0.1 C0.2.1 hdg ht (fun q => ?_) (fun q => ?_)
    · rcases hn with ⟨-, rfl⟩ | ⟨h1, -⟩
      · exact k _ _ hL hst
      · exact absurd (by rw [hi gl A s C0.2.2.2.2.2.2.2.2.1 i j hi' hj (Option.some.inj q)]) h1
    · rcases hn with ⟨h1, -⟩ | ⟨-, rfl⟩
      · exact absurd (by rw [Int.ofNat.inj h1]) q
      · exact k _ _ hL hst
  by_cases h : x = y
  · rw [if_pos h]; exact Sg.go (step tgt (Or.inl ⟨h, rfl⟩)) (kt h)
  · rw [if_neg h]; exact Sg.go (step (pc + 3) (Or.inr ⟨h, rfl⟩)) (kf h)
theorem mi_jOp (gl : MiG) (A : Nat → Prop) (s : State) (h : mi_k gl A s) (i j : Nat) (hi : (i : Int) < mi_sn 26) (hj : (j : Int) < mi_sn 26) (q : gl.2.2 26 i = gl.2.2 26 j) : i = j := h.2.1.1.2 i j (Int.ofNat_lt.mp hi) (Int.ofNat_lt.mp hj) q
end MiSpec
