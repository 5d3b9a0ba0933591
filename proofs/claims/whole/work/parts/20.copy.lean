/-! ===== System.arraycopy of a whole array onto another of its kind ===== -/
section MiCp
theorem mi_copyW {p : Program} {l : Launch} {e : Env} {R : Room} {s : State} {m : MethodId} {args : Array Value} {below : List Frame} {meth : Method} {c : Code} {H : Heap} {locs : List Loc} {cells slots : Nat} {Q : State → Prop} {cc : ByteArray} {pc : Nat} {ls : Array Slot} {rest : List Value} {A : Nat → Prop} {H0 : Heap}
    (hexec : p.tables.exec = Jvm.exec) (hb : c.code = cc) (hml : c.maxLocals = ls.size) {own : String} {index : Nat} (hown : s.vm.findClass own = some m.cls) (hlink : (Cond.methodLink own index arraycopyName).before args s = true) (hnat : (Cond.native arraycopyName).before args s = true) (hstat : (Cond.static arraycopyName).before args s = true) (hini : (Cond.initialized "java/lang/System").before args s = true)
    {α : Type} (mk : α → Value) {c0 : ClassId} {N : Nat} (f g : Nat → α) {a0 a : Nat} (hc0 : H[a0]? = some (arrV c0 N (fun j => mk (f j)))) (hc1 : H[a]? = some (arrV c0 N (fun j => mk (g j)))) {k0 : Class} {cm0 : ClassId} {ty : FieldType} (hk0 : s.vm.classes[c0]? = some k0) (hkk0 : k0.kind = .array cm0 ty)
    (hvals : ∀ T : State, T.heap = H → ∀ vm', s.vm.Alike vm' → ∀ i, i < N → fits ty (mk (f i)) = true ∧ (T.setVm vm').takes cm0 (mk (f i))) {n : Int32} (hn : n.toInt = N)
    (hframes : 1 ≤ R.frames) (hlocals : (rest.map fun v => v.category).sum + (nativeFrameWords "java/lang/System" "arraycopy" 5 + 11) ≤ R.locals) (hdg : decode cc pc = .ok (.invokestatic index, 3)) (hA : A a) (hS : va_S A H0 H locs)
    (kk : ∀ (H1 : Heap) (locs1 : List Loc), H1[a]? = some (arrV c0 N (fun j => mk (va_cpy f g 0 0 N j))) → (∀ q : Nat, q ≠ a → H1[q]? = H[q]?) → va_S A H0 H1 locs1 → W p l e R s m args below meth c H1 locs1 cells slots Q (F0 m (pc + 3) ls rest)) : W p l e R s m args below meth c H locs cells slots Q (F0 m pc ls (.int n :: .int 0 :: .ref a :: .int 0 :: .ref a0 :: rest)) := by
  have hcl : n.toNatClampNeg = N := by show n.toInt.toNat = N; rw [hn]; rfl
  have hn0 : ¬ n < 0 := fun q => by
    have := Int32.lt_iff_toInt_lt.mp q
    rw [hn] at this
    have h2 : (N : Int) < 0 := this
    omega
  intro T hT X
  obtain ⟨vm', X', step⟩ := X.arraycopy hexec hown hlink hnat hstat hini (src := a0) (dst := a) (cs := arrV c0 N (fun j => mk (f j))) (cd := arrV c0 N (fun j => mk (g j))) (srcPos := 0) (destPos := 0) (n := n) (by rw [hT]; exact hc0) (by rw [hT]; exact hc1)
    (fun _ h => by cases h) (fun _ h => by cases h) (fun h => by cases h) (fun h => by cases h) hk0 hk0 hkk0 hkk0 (by simp) (by decide) (by decide) hn0
    (by rw [hn, arrV_size]; show ¬ (0 : Int) + N > N; omega)
    (by rw [hn, arrV_size]; show ¬ (0 : Int) + N > N; omega)
    (fun vm₁ hal i hi => by
      rw [hcl] at hi
      have e : (arrV c0 N (fun j => mk (f j))).slots.getD ((0 : Int32).toNatClampNeg + i) .null = mk (f i) := by
        rw [show (0 : Int32).toNatClampNeg + i = i from Nat.zero_add i, Array.getD_eq_getD_getElem?, arrV_read _ _ hi]
        rfl
      rw [e]
      exact hvals T hT vm₁ hal i hi)
    (g := F0 m pc ls (.int n :: .int 0 :: .ref a :: .int 0 :: .ref a0 :: rest)) rfl (by rw [hml]) (rest := rest) rfl (by rw [hb]; exact hdg) hframes (by show 2 * 0 + _ + _ ≤ _; omega)
  have e1 : copied (arrV c0 N (fun j => mk (f j))) (arrV c0 N (fun j => mk (g j))) 0 0 n = arrV c0 N (fun j => mk (va_cpy f g 0 0 N j)) := by
    have h9 := va_copied mk c0 c0 (n0 := N) (n1 := N) (sp := 0) (dp := 0) (n := N) f g (by omega)
    unfold copied
    rw [hcl]
    exact h9
  rw [e1] at X' step
  have hl : a < H.size := (Array.getElem?_eq_some_iff.mp hc1).1
  have hheap : ((T.setVm vm').setCell a (arrV c0 N (fun j => mk (va_cpy f g 0 0 N j)))).heap = H.setIfInBounds a (arrV c0 N (fun j => mk (va_cpy f g 0 0 N j))) := by rw [← hT]; rfl
  have oq : ∀ q : Nat, q ≠ a → (H.setIfInBounds a (arrV c0 N (fun j => mk (va_cpy f g 0 0 N j))))[q]? = H[q]? := fun q hq => by simp [Array.getElem?_setIfInBounds, Ne.symm hq]
  obtain ⟨t, a1, b1⟩ := kk _ _ (show (H.setIfInBounds a _)[a]? = some _ by simp [Array.getElem?_setIfInBounds, hl]) oq ⟨by simp; exact hS.1, fun q g1 g2 => by
      rw [oq q (fun e => g2 (by rw [e]; exact hA))]
      exact hS.2.1 q g1 g2, fun q hq => by
      rcases List.mem_append.mp hq with h | h
      · exact hS.2.2 q h
      · obtain ⟨z, -, hz⟩ := List.mem_map.mp h
        rw [← hz]
        exact hA⟩ _ hheap X'
  exact ⟨t, step t a1, b1⟩
/-- array x of region r onto array y of the same region -/
def mi_cp (D : MiD) (r : Nat) (x y : Int) : MiD := fun q j i => if q = r ∧ j = y then D r x i else D q j i
theorem mi_cpy0 {α : Type} {f g : Nat → α} {N i : Nat} (hi : i < N) : va_cpy f g 0 0 N i = f i := by
  unfold va_cpy
  rw [if_pos ⟨Nat.zero_le _, by omega⟩]
  congr 1
  omega
theorem mi_cp_o {D : MiD} {r q : Nat} {x y j : Int} (h : ¬ (q = r ∧ j = y)) : mi_cp D r x y q j = D q j := funext fun i => by
  unfold mi_cp; rw [if_neg h]
theorem mi_cp_c {D : MiD} {Z : MiZ} {r : Nat} {x y : Int} (h : r ≠ 0) : (mi_cp D r x y, Z).2.2 = (D, Z).2.2 ∧ mi_cp D r x y 0 0 0 = D 0 0 0 ∧ mi_cp D r x y 0 0 1 = D 0 0 1 :=
  ⟨rfl, by rw [mi_cp_o (fun q => h q.1.symm)], by rw [mi_cp_o (fun q => h q.1.symm)]⟩
variable {μ : MiI} {pc : Nat} {ls st : List MiV} {D : MiD} {Z : MiZ}
theorem mi_cpI {r ix : Nat} {x y n : Int} (hdg : decode μ.2.1 pc = .ok (.invokestatic ix, 3)) (hk : mi_rk r = 0) (w1 : Cond.methodLink μ.1.cls ix arraycopyName ∈ mi_tb) (w2 : Cond.native arraycopyName ∈ mi_tb) (w3 : Cond.static arraycopyName ∈ mi_tb) (w4 : Cond.initialized "java/lang/System" ∈ mi_tb) (hl : 1 ≤ μ.2.2.2.2.1) (hW : mi_cs st ≤ 8) (hn : (mi_rn r : Int) = n) (hx : 0 ≤ x) (hy : 0 ≤ y) : MiStepM μ pc ls ((0, n) :: (0, 0) :: (r + 2, y) :: (0, 0) :: (r + 2, x) :: st) (D, Z) (pc + 3) ls st (mi_cp D r x y, Z) := by
  refine ⟨mi_cp_c (mi_r0 (by rw [hk]; decide)), ?_⟩
  intro gl p l e R s m args below meth c A C0 H locs cells slots lsA stA ad Q hS hR hL hst kk
  have hst_ := hst.cons
  clear hst
  obtain ⟨_, _, rfl, ⟨z, rfl, hz⟩, hst⟩ := hst_
  have hst_ := hst.cons
  clear hst
  obtain ⟨_, _, rfl, ⟨d0, rfl, hd0⟩, hst⟩ := hst_
  have hst_ := hst.cons
  clear hst
  obtain ⟨_, _, rfl, hvy, hst⟩ := hst_
  have hst_ := hst.cons
  clear hst
  obtain ⟨_, _, rfl, ⟨s0, rfl, hs0⟩, hst⟩ := hst_
  have hst_ := hst.cons
  clear hst
  obtain ⟨_, _, rfl, hvx, hst⟩ := hst_
  rcases hvy with ⟨q, -⟩ | ⟨-, hy1, rfl⟩
  · exact absurd q (by omega)
  rcases hvx with ⟨q, -⟩ | ⟨-, hx1, rfl⟩
  · exact absurd q (by omega)
  have e0 : d0 = 0 := Int32.toInt_inj.mp hd0
  have e9 : s0 = 0 := Int32.toInt_inj.mp hs0
  subst e0 e9
  obtain ⟨-, ex, hatx, henx⟩ := hR.1 r x (by rw [hk]; decide) hx hx1
  obtain ⟨hA, ey, haty, heny⟩ := hR.1 r y (by rw [hk]; decide) hy hy1
  obtain ⟨f, rfl, f2⟩ := mi_en0 hk henx
  obtain ⟨g, rfl, g2⟩ := mi_en0 hk heny
  have hK := C0.2.2.2.2.2.2.2.2.1.1
  have hts := C0.2.2.2.2.2.2.2.1
  have hf := C0.2.2.2.2.2.2.2.2.2.2.2.1
  have hlo := C0.2.2.2.2.2.2.2.2.2.2.2.2.1
  have hc := mi_cs_eq hst
  obtain ⟨-, k0, hk0, cm0, hkk0⟩ := (hK.2 0 (gl.2.1 0, .int) rfl).1 (mi_rn r) (fun j => .int (f j))
  have hw : nativeFrameWords "java/lang/System" "arraycopy" 5 ≤ 20 := by decide
  refine mi_copyW C0.1 C0.2.1 (by rw [C0.2.2.1]; exact hL.1.symm) C0.2.2.2.2.2.1 (hts _ w1) (hts _ w2) (hts _ w3) (hts _ w4) (fun z => Value.int z) f g hatx haty hk0 hkk0 (fun T _ vm' _ i _ => ⟨rfl, trivial⟩) (by rw [hz, hn]) (by omega) (by omega) hdg hA hS fun H1 locs1 h1 oq hS1 => kk _ _ _ _ hS1 ?_ hL hst
  exact hR.set (M' := (mi_cp D r x y, Z)) (e := .inl (gl.2.1 0, mi_rn r, .inl (va_cpy f g 0 0 (mi_rn r)))) (by rw [hk]; decide) hy hy1 rfl h1 (by
    unfold mi_en; rw [hk]
    refine ⟨_, rfl, fun i hi => ?_⟩
    rw [mi_cpy0 hi]
    show _ = mi_cp D r x y r y i
    unfold mi_cp
    rw [if_pos ⟨rfl, rfl⟩]
    exact f2 i hi) oq (fun r' x' h => ⟨mi_cp_o h, rfl⟩)
theorem mi_cpJ {r ix : Nat} {x y n : Int} (hdg : decode μ.2.1 pc = .ok (.invokestatic ix, 3)) (hk : mi_rk r = 1) (w1 : Cond.methodLink μ.1.cls ix arraycopyName ∈ mi_tb) (w2 : Cond.native arraycopyName ∈ mi_tb) (w3 : Cond.static arraycopyName ∈ mi_tb) (w4 : Cond.initialized "java/lang/System" ∈ mi_tb) (hl : 1 ≤ μ.2.2.2.2.1) (hW : mi_cs st ≤ 8) (hn : (mi_rn r : Int) = n) (hx : 0 ≤ x) (hy : 0 ≤ y) : MiStepM μ pc ls ((0, n) :: (0, 0) :: (r + 2, y) :: (0, 0) :: (r + 2, x) :: st) (D, Z) (pc + 3) ls st (mi_cp D r x y, Z) := by
  refine ⟨mi_cp_c (mi_r0 (by rw [hk]; decide)), ?_⟩
  intro gl p l e R s m args below meth c A C0 H locs cells slots lsA stA ad Q hS hR hL hst kk
  have hst_ := hst.cons
  clear hst
  obtain ⟨_, _, rfl, ⟨z, rfl, hz⟩, hst⟩ := hst_
  have hst_ := hst.cons
  clear hst
  obtain ⟨_, _, rfl, ⟨d0, rfl, hd0⟩, hst⟩ := hst_
  have hst_ := hst.cons
  clear hst
  obtain ⟨_, _, rfl, hvy, hst⟩ := hst_
  have hst_ := hst.cons
  clear hst
  obtain ⟨_, _, rfl, ⟨s0, rfl, hs0⟩, hst⟩ := hst_
  have hst_ := hst.cons
  clear hst
  obtain ⟨_, _, rfl, hvx, hst⟩ := hst_
  rcases hvy with ⟨q, -⟩ | ⟨-, hy1, rfl⟩
  · exact absurd q (by omega)
  rcases hvx with ⟨q, -⟩ | ⟨-, hx1, rfl⟩
  · exact absurd q (by omega)
  have e0 : d0 = 0 := Int32.toInt_inj.mp hd0
  have e9 : s0 = 0 := Int32.toInt_inj.mp hs0
  subst e0 e9
  obtain ⟨-, ex, hatx, henx⟩ := hR.1 r x (by rw [hk]; decide) hx hx1
  obtain ⟨hA, ey, haty, heny⟩ := hR.1 r y (by rw [hk]; decide) hy hy1
  obtain ⟨f, rfl, f2⟩ := mi_en1 hk henx
  obtain ⟨g, rfl, g2⟩ := mi_en1 hk heny
  have hK := C0.2.2.2.2.2.2.2.2.1.1
  have hts := C0.2.2.2.2.2.2.2.1
  have hf := C0.2.2.2.2.2.2.2.2.2.2.2.1
  have hlo := C0.2.2.2.2.2.2.2.2.2.2.2.2.1
  have hc := mi_cs_eq hst
  obtain ⟨-, k0, hk0, cm0, hkk0⟩ := (hK.2 1 (gl.2.1 1, .long) rfl).1 (mi_rn r) (fun j => .long (f j))
  have hw : nativeFrameWords "java/lang/System" "arraycopy" 5 ≤ 20 := by decide
  refine mi_copyW C0.1 C0.2.1 (by rw [C0.2.2.1]; exact hL.1.symm) C0.2.2.2.2.2.1 (hts _ w1) (hts _ w2) (hts _ w3) (hts _ w4) (fun z => Value.long z) f g hatx haty hk0 hkk0 (fun T _ vm' _ i _ => ⟨rfl, trivial⟩) (by rw [hz, hn]) (by omega) (by omega) hdg hA hS fun H1 locs1 h1 oq hS1 => kk _ _ _ _ hS1 ?_ hL hst
  exact hR.set (M' := (mi_cp D r x y, Z)) (e := .inl (gl.2.1 1, mi_rn r, .inr (.inl (va_cpy f g 0 0 (mi_rn r))))) (by rw [hk]; decide) hy hy1 rfl h1 (by
    unfold mi_en; rw [hk]
    refine ⟨_, rfl, fun i hi => ?_⟩
    rw [mi_cpy0 hi]
    show _ = mi_cp D r x y r y i
    unfold mi_cp
    rw [if_pos ⟨rfl, rfl⟩]
    exact f2 i hi) oq (fun r' x' h => ⟨mi_cp_o h, rfl⟩)
theorem mi_cpQ {r t ix : Nat} {C : String} {T0 : u_T} {N0 : Nat} {ty0 : Nat → FieldType} {x y n : Int} (hdg : decode μ.2.1 pc = .ok (.invokestatic ix, 3)) (hk : mi_rk r = 2) (hC : MiC t C T0 N0 ty0) (hrt : mi_rt r 0 = t + 2) (hcc : mi_rc r < 11 ∧ mi_ty.getD (mi_rc r) .int = .object C) (w1 : Cond.methodLink μ.1.cls ix arraycopyName ∈ mi_tb) (w2 : Cond.native arraycopyName ∈ mi_tb) (w3 : Cond.static arraycopyName ∈ mi_tb) (w4 : Cond.initialized "java/lang/System" ∈ mi_tb) (hl : 1 ≤ μ.2.2.2.2.1) (hW : mi_cs st ≤ 8) (hn : (mi_rn r : Int) = n) (hx : 0 ≤ x) (hy : 0 ≤ y) : MiStepM μ pc ls ((0, n) :: (0, 0) :: (r + 2, y) :: (0, 0) :: (r + 2, x) :: st) (D, Z) (pc + 3) ls st (D, (mi_cp Z.1 r x y, Z.2)) := by
  refine ⟨⟨rfl, rfl, rfl⟩, ?_⟩
  intro gl p l e R s m args below meth c A C0 H locs cells slots lsA stA ad Q hS hR hL hst kk
  have hst_ := hst.cons
  clear hst
  obtain ⟨_, _, rfl, ⟨z, rfl, hz⟩, hst⟩ := hst_
  have hst_ := hst.cons
  clear hst
  obtain ⟨_, _, rfl, ⟨d0, rfl, hd0⟩, hst⟩ := hst_
  have hst_ := hst.cons
  clear hst
  obtain ⟨_, _, rfl, hvy, hst⟩ := hst_
  have hst_ := hst.cons
  clear hst
  obtain ⟨_, _, rfl, ⟨s0, rfl, hs0⟩, hst⟩ := hst_
  have hst_ := hst.cons
  clear hst
  obtain ⟨_, _, rfl, hvx, hst⟩ := hst_
  rcases hvy with ⟨q, -⟩ | ⟨-, hy1, rfl⟩
  · exact absurd q (by omega)
  rcases hvx with ⟨q, -⟩ | ⟨-, hx1, rfl⟩
  · exact absurd q (by omega)
  have e0 : d0 = 0 := Int32.toInt_inj.mp hd0
  have e9 : s0 = 0 := Int32.toInt_inj.mp hs0
  subst e0 e9
  obtain ⟨-, ex, hatx, henx⟩ := hR.1 r x (by rw [hk]; decide) hx hx1
  obtain ⟨hA, ey, haty, heny⟩ := hR.1 r y (by rw [hk]; decide) hy hy1
  obtain ⟨f, rfl, f2⟩ := mi_en2 hk henx
  obtain ⟨g, rfl, g2⟩ := mi_en2 hk heny
  have hK := C0.2.2.2.2.2.2.2.2.1.1
  have hts := C0.2.2.2.2.2.2.2.1
  have hf := C0.2.2.2.2.2.2.2.2.2.2.2.1
  have hlo := C0.2.2.2.2.2.2.2.2.2.2.2.2.1
  have hc := mi_cs_eq hst
  obtain ⟨c1, c2, c3, c4, c5, c6, c7⟩ := hC
  have hcls := (hK.1 _ _ c2).2
  have ht : (mi_tl gl)[mi_rc r]? = some (gl.2.1 (mi_rc r), .object C) := by
    unfold mi_tl
    rw [List.getElem?_map, List.getElem?_range hcc.1, ← hcc.2]; rfl
  obtain ⟨-, k0, hk0, cm0, hkk0⟩ := (hK.2 _ _ ht).1 (mi_rn r) (fun j => va_rf (f j))
  obtain ⟨kA, comp, k1, k2, k3, -⟩ := (hK.2 _ _ ht).2
  have hcomp : comp = gl.1.1 (mi_rc t) := Option.some.inj (k3.symm.trans hcls.1)
  subst hcomp
  cases hk0.symm.trans k1
  cases hkk0.symm.trans k2
  obtain ⟨kC, hkC, -⟩ := hcls.2
  have hw : nativeFrameWords "java/lang/System" "arraycopy" 5 ≤ 20 := by decide
  refine mi_copyW C0.1 C0.2.1 (by rw [C0.2.2.1]; exact hL.1.symm) C0.2.2.2.2.2.1 (hts _ w1) (hts _ w2) (hts _ w3) (hts _ w4) (fun z => va_rf z) f g (by rw [← vp_cell_q]; exact hatx) (by rw [← vp_cell_q]; exact haty) hk0 hkk0 (fun T hT vm' hal i hi => ?_) (by rw [hz, hn]) (by omega) (by omega) hdg hA hS fun H1 locs1 h1 oq hS1 => kk _ _ _ _ hS1 ?_ hL hst
  · have f3 := f2 i hi
    rw [hrt] at f3
    generalize hfi : f i = w at f3
    rcases f3 with ⟨-, q⟩ | ⟨v0, v1, q⟩
    · cases w with
      | none => exact ⟨rfl, trivial⟩
      | some y => cases q
    · cases w with
      | none => cases q
      | some y9 =>
        cases q
        obtain ⟨-, e9, hat9, hen9⟩ := hR.1 t _ (by rw [c1]; decide) v0 v1
        obtain ⟨fs9, rfl, -⟩ := mi_en3 c1 hen9
        obtain ⟨r9, hr9, cellV, q1, q2, q3, -⟩ := hat9
        obtain ⟨kC', hkC', -⟩ := hal.2.2 _ _ hkC
        refine ⟨rfl, cellV, (show T.heap[_]? = some cellV by rw [hT]; exact q1), (fun q h => by rw [q3] at h; cases h), ⟨kC', by rw [q2]; exact hkC'⟩, ⟨kC', hkC'⟩, ?_⟩
        show vm'.assignable _ _ = true
        rw [hal.assignable, q2]
        exact va_assign hcls
  rw [← vp_cell_q] at h1
  exact hR.set (M' := (D, (mi_cp Z.1 r x y, Z.2))) (e := .inl (gl.2.1 (mi_rc r), mi_rn r, .inr (.inr (.inr (.inr (va_cpy f g 0 0 (mi_rn r))))))) (by rw [hk]; decide) hy hy1 rfl h1 (by
    unfold mi_en; rw [hk]
    refine ⟨_, rfl, fun i hi => ?_⟩
    rw [mi_cpy0 hi]
    show mi_vr _ _ (_, mi_cp Z.1 r x y r y i) _
    unfold mi_cp
    rw [if_pos ⟨rfl, rfl⟩]
    exact f2 i hi) oq (fun r' x' h => ⟨rfl, mi_cp_o h⟩)
end MiCp
