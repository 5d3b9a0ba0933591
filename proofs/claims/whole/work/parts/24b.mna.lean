/-! ===== arrays of arrays ===== -/
/-- the rows of an array of references one by one: slot i of x (region r) holds what body made in region r2 -/
def mi_itG (body : MiM → MiM) (r r2 : Nat) (x : Int) : Nat → MiM → MiM
  | 0, M => M
  | i + 1, M => mi_pL (body (mi_itG body r r2 x i M)) r x i ((mi_itG body r r2 x i M).2.2 r2)
def mi_mkN (body : MiM → MiM) (r r2 N : Nat) (M : MiM) : MiM := mi_itG body r r2 (M.2.2 r) N (mi_nw M r N)
/-- what a making keeps: no count falls, the new one is there; cells and slots -/
def MiBd (body : MiM → MiM) (r k n : Nat) : Prop := ∀ M : MiM, (∀ t, M.2.2 t ≤ (body M).2.2 t) ∧ M.2.2 r < (body M).2.2 r ∧ (body M).1 0 0 0 = M.1 0 0 0 + k ∧ (body M).1 0 0 1 = M.1 0 0 1 + n
theorem mi_bd1 {r N : Nat} : MiBd (fun M => mi_nw M r N) r 1 N := fun M => ⟨mi_nw_cn, by
  show _ < if r = r then _ else _
  rw [if_pos rfl]; omega, mi_nw_0, mi_nw_1⟩
theorem mi_itG_bd {body : MiM → MiM} {r r2 k n : Nat} {x : Int} (h : MiBd body r2 k n) (M : MiM) : ∀ i : Nat, (∀ t, M.2.2 t ≤ (mi_itG body r r2 x i M).2.2 t) ∧ (mi_itG body r r2 x i M).1 0 0 0 = M.1 0 0 0 + (i * k : Nat) ∧ (mi_itG body r r2 x i M).1 0 0 1 = M.1 0 0 1 + (i * n : Nat)
  | 0 => ⟨fun t => Int.le_refl _, by simp [mi_itG], by simp [mi_itG]⟩
  | i + 1 => by
    obtain ⟨a1, a2, a3⟩ := mi_itG_bd h M i
    obtain ⟨b1, -, b2, b3⟩ := h (mi_itG body r r2 x i M)
    refine ⟨fun t => Int.le_trans (a1 t) (b1 t), ?_, ?_⟩
    · show (body _).1 0 0 0 = _
      rw [b2, a2, Nat.succ_mul, Int.natCast_add]; omega
    · show (body _).1 0 0 1 = _
      rw [b3, a3, Nat.succ_mul, Int.natCast_add]; omega
theorem mi_bdN {body : MiM → MiM} {r r2 k n N : Nat} (h : MiBd body r2 k n) : MiBd (mi_mkN body r r2 N) r (1 + N * k) (N + N * n) := fun M => by
  obtain ⟨a1, a2, a3⟩ := mi_itG_bd (r := r) (x := M.2.2 r) h (mi_nw M r N) N
  refine ⟨fun t => Int.le_trans (mi_nw_cn t) (a1 t), Int.lt_of_lt_of_le ?_ (a1 r), ?_, ?_⟩
  · show _ < if r = r then _ else _
    rw [if_pos rfl]; omega
  · show (mi_itG _ _ _ _ _ _).1 0 0 0 = _
    rw [a2, mi_nw_0, Int.natCast_add]; omega
  · show (mi_itG _ _ _ _ _ _).1 0 0 1 = _
    rw [a3, mi_nw_1, Int.natCast_add]; omega
section MiMna
variable {p : Program} {l : Launch} {e : Env} {R : Room} {s : State} {m : MethodId} {args : Array Value} {below : List Frame} {meth : Method} {c : Code} {A : Nat → Prop} {gl : MiG}
/-- one array in the middle of an instruction -/
theorem mi_wpNew {U : State} {locs : List Loc} {cells slots : Nat} {ad : Nat → Int → Nat} {M : MiM} {r N : Nat} {ty : FieldType} {dv : Value} {cI comp : ClassId} {k : Class} {ev : va_E}
    (X : Stand p l e R s m args below meth c U locs cells slots) (hS : va_S A s.heap U.heap locs) (hR : mi_rp gl A ad M U.heap) (hA : ∀ q : Nat, s.heap.size ≤ q → A q) (hc : cells + 1 ≤ R.cells) (hs : slots + N ≤ R.slots) (h0 : 0 ≤ M.2.2 r) (hr : mi_rk r < 9)
    (hk : s.vm.classes[cI]? = some k) (hkind : k.kind = .array comp ty) (hN : N ≤ 10000) (hcb : componentBytes ty ≤ 8) (hfit : fits ty dv = true)
    (hev : ∀ H1 : Heap, H1[U.heap.size]? = some (arrV cI N (fun _ => dv)) → va_at gl.1 vwCl (U.heap.size, ev) H1) (hen : mi_en gl (mi_na ad r (M.2.2 r) U.heap.size) (mi_nw M r N) r (M.2.2 r) ev) :
    ∃ U' : State, Stand p l e R s m args below meth c U' locs (cells + 1) (slots + N) ∧ va_S A s.heap U'.heap locs ∧ mi_rp gl A (mi_na ad r (M.2.2 r) U.heap.size) (mi_nw M r N) U'.heap ∧
      ∀ (f : JFrame) (E : CtlPost) (d : Bool) (acts : List Action) (Q : Addr → Pre), (∀ acts' : List Action, Q U.heap.size d acts' (U'.setTop f)) → wp (Jvm.newArray cI N dv) Q E e d acts (U.setTop f) := by
  obtain ⟨hr1, hr2⟩ := X.roomAbove hc hs
  obtain ⟨k1, hk1, he⟩ := X.warmed.alike.2.2 _ _ hk
  have hmul : N * componentBytes ty ≤ 10000 * 8 := Nat.mul_le_mul hN hcb
  have e1 := arrV_new cI N dv
  have XP := X.pushed (arrV cI N (fun _ => dv))
  rw [arrV_size] at XP
  generalize hU : U.pushCell (arrV cI N (fun _ => dv)) = U' at XP
  have hH : U'.heap = U.heap.push (arrV cI N (fun _ => dv)) := by rw [← hU]; rfl
  have o1 : ∀ q : Nat, q < U.heap.size → U'.heap[q]? = U.heap[q]? := fun q hq => by rw [hH, Array.getElem?_push, if_neg (Nat.ne_of_lt hq)]
  have z1 : U'.heap.size = U.heap.size + 1 := by rw [hH, Array.size_push]
  refine ⟨U', XP, ⟨Nat.le_trans hS.1 (by omega), fun x h1 h2 => (o1 x (Nat.lt_of_lt_of_le h1 hS.1)).trans (hS.2.1 x h1 h2), hS.2.2⟩, hR.new hr h0 (hA _ hS.1) (hev _ (by rw [hH, Array.getElem?_push_size])) o1 hen, fun f E d acts Q hQ => ?_⟩
  refine W.newArray_of (s := U.setTop f) (k := k1) (comp := comp) (type := ty) hk1 (by rw [he]; exact hkind) ?_ ?_ ?_ ?_ hfit ?_
  · rw [Launch.admits_arrayLengthLimit X.admits]; omega
  · rw [Launch.admits_maxHeapBytes X.admits]; omega
  · show U.heap.size < _; omega
  · show U.slotsUsed + N ≤ _; omega
  · intro acts'
    have e2 : (U.setTop f).pushCell { cls := cI, slots := Array.replicate N dv, vm := .none } = U'.setTop f := by
      rw [e1, State.pushCell_setTop, hU]
    rw [e2]
    exact hQ acts'
end MiMna
/-- 'make' at class ci with these lengths does what body says -/
def MiMk (cs : List Int32) (gl : MiG) (ci : ClassId) (r : Nat) (body : MiM → MiM) (k n : Nat) : Prop :=
  ∀ (p : Program) (l : Launch) (e : Env) (R : Room) (s : State) (m : MethodId) (args : Array Value) (below : List Frame) (meth : Method) (c : Code) (A : Nat → Prop), va_K gl.1 vwCl (mi_tl gl) s → mi_ma s → (∀ q : Nat, s.heap.size ≤ q → A q) →
    ∀ (U : State) (locs : List Loc) (cells slots : Nat) (ad : Nat → Int → Nat) (M : MiM),
      Stand p l e R s m args below meth c U locs cells slots → va_S A s.heap U.heap locs → mi_rp gl A ad M U.heap → cells + k ≤ R.cells → slots + n ≤ R.slots → (∀ t, 0 ≤ M.2.2 t) →
      ∃ (U' : State) (locs' : List Loc) (ad' : Nat → Int → Nat), Stand p l e R s m args below meth c U' locs' (cells + k) (slots + n) ∧ va_S A s.heap U'.heap locs' ∧ mi_rp gl A ad' (body M) U'.heap ∧ mi_ext ad ad' M.2.2 ∧
        ∀ (f : JFrame) (E : CtlPost) (d : Bool) (acts : List Action) (Q : Addr → Pre), (∀ (d' : Bool) (acts' : List Action), Q (ad' r (M.2.2 r)) d' acts' (U'.setTop f)) → wp (Jvm.Op.multianewarray.make ci cs) Q E e d acts (U.setTop f)
theorem mi_na_at {ad : Nat → Int → Nat} {r : Nat} {x : Int} {q : Nat} : mi_na ad r x q r x = q := by unfold mi_na; rw [if_pos ⟨rfl, rfl⟩]
theorem mi_mkI {gl : MiG} {r N : Nat} {n : Int32} (hk : mi_rk r = 0) (hN : mi_rn r = N) (hn : n.toInt = N) (hb : N ≤ 10000) : MiMk [n] gl (gl.2.1 0) r (fun M => mi_nw M r N) 1 N := by
  intro p l e R s m args below meth c A hK hma hA U locs cells slots ad M X hS hR hc hs h0
  obtain ⟨g1, g2⟩ := mi_nlen hn rfl
  obtain ⟨-, k, hk1, comp, hkind⟩ := (hK.2 0 (gl.2.1 0, .int) rfl).1 0 (fun _ => .null)
  have hk1' : s.vm.classes[gl.2.1 0]? = some k := hk1
  obtain ⟨k1, hk2, he⟩ := X.warmed.alike.2.2 _ _ hk1'
  have hkd : k1.kind = .array comp .int := by rw [he]; exact hkind
  obtain ⟨U', a1, a2, a3, a4⟩ := mi_wpNew (ev := .inl (gl.2.1 0, N, .inl (fun _ => 0))) X hS hR hA hc hs (h0 r) (by rw [hk]; decide) hk1' hkind hb (Nat.le_of_ble_eq_true rfl) rfl (fun H1 h => h) (by
    unfold mi_en
    rw [hk, hN]
    refine ⟨_, rfl, fun i hi => ?_⟩
    rw [mi_nw_D (mi_r0 (by rw [hk]; decide)), if_pos ⟨rfl, rfl⟩]; rfl)
  refine ⟨U', locs, _, a1, a2, a3, mi_na_ext, fun f E d acts Q hQ => ?_⟩
  have hk3 : (U.setTop f).vm.classes[gl.2.1 0]? = some k1 := hk2
  rw [Jvm.Op.multianewarray.make]
  simp only [wp_bind', W.ite, g1, if_false, wp_pure', W.theClass, hk3, hkd, Option.some.injEq, exists_eq_left', g2]
  refine a4 f E d acts Q fun acts' => ?_
  have h2 := hQ d acts'
  rw [mi_na_at] at h2
  exact h2
theorem mi_mkJ {gl : MiG} {r N : Nat} {n : Int32} (hk : mi_rk r = 1) (hN : mi_rn r = N) (hn : n.toInt = N) (hb : N ≤ 10000) : MiMk [n] gl (gl.2.1 1) r (fun M => mi_nw M r N) 1 N := by
  intro p l e R s m args below meth c A hK hma hA U locs cells slots ad M X hS hR hc hs h0
  obtain ⟨g1, g2⟩ := mi_nlen hn rfl
  obtain ⟨-, k, hk1, comp, hkind⟩ := (hK.2 1 (gl.2.1 1, .long) rfl).1 0 (fun _ => .null)
  have hk1' : s.vm.classes[gl.2.1 1]? = some k := hk1
  obtain ⟨k1, hk2, he⟩ := X.warmed.alike.2.2 _ _ hk1'
  have hkd : k1.kind = .array comp .long := by rw [he]; exact hkind
  obtain ⟨U', a1, a2, a3, a4⟩ := mi_wpNew (ev := .inl (gl.2.1 1, N, .inr (.inl (fun _ => 0)))) X hS hR hA hc hs (h0 r) (by rw [hk]; decide) hk1' hkind hb (Nat.le_of_ble_eq_true rfl) rfl (fun H1 h => h) (by
    unfold mi_en
    rw [hk, hN]
    refine ⟨_, rfl, fun i hi => ?_⟩
    rw [mi_nw_D (mi_r0 (by rw [hk]; decide)), if_pos ⟨rfl, rfl⟩]; rfl)
  refine ⟨U', locs, _, a1, a2, a3, mi_na_ext, fun f E d acts Q hQ => ?_⟩
  have hk3 : (U.setTop f).vm.classes[gl.2.1 1]? = some k1 := hk2
  rw [Jvm.Op.multianewarray.make]
  simp only [wp_bind', W.ite, g1, if_false, wp_pure', W.theClass, hk3, hkd, Option.some.injEq, exists_eq_left', g2]
  refine a4 f E d acts Q fun acts' => ?_
  have h2 := hQ d acts'
  rw [mi_na_at] at h2
  exact h2
theorem mi_mkNode {gl : MiG} {r r2 N ix jx kb nb : Nat} {n q : Int32} {rest : List Int32} {t : FieldType} {body : MiM → MiM} (hk : mi_rk r = 2) (hrN : mi_rn r = N) (hrt : mi_rt r 0 = r2 + 2) (hrc : mi_rc r = ix) (hix : (mi_tl gl)[ix]? = some (gl.2.1 ix, .array t)) (hjx : (mi_tl gl)[jx]? = some (gl.2.1 jx, t))
    (ht : .array t ∈ mi_aaL) (hra : ∀ (s : State) (cA : ClassId), va_RA s cA t → s.vm.findClass (FieldType.array t).toString = some cA) (hn : n.toInt = N) (hN0 : 0 < N) (hb : N ≤ 10000) (hbd : MiBd body r2 kb nb) (h : MiMk (q :: rest) gl (gl.2.1 jx) r2 body kb nb) : MiMk (n :: q :: rest) gl (gl.2.1 ix) r (mi_mkN body r r2 N) (1 + N * kb) (N + N * nb) := by
  intro p l e R s m args below meth c A hK hma hA U locs cells slots ad M X hS hR hc hs h0
  obtain ⟨g1, g2⟩ := mi_nlen hn rfl
  have g3 : (n == 0) = false := by
    rw [beq_eq_false_iff_ne]
    rintro rfl
    have : (0 : Int) = N := hn
    omega
  obtain ⟨comp, cA, k, w1, -, w2, hkind, w3⟩ := arrayOverA_spec (hma _ ht)
  have w4 : s.vm.findClass ("[" ++ (FieldType.array t).toString) = some (gl.2.1 ix) := (hK.2 ix _ hix).2
  obtain rfl : cA = gl.2.1 ix := Option.some.inj (w3.symm.trans w4)
  obtain rfl : comp = gl.2.1 jx := Option.some.inj (w1.symm.trans (hra s _ (hK.2 jx _ hjx).2))
  obtain ⟨k1, hk2, he⟩ := X.warmed.alike.2.2 _ _ w2
  have hkd : k1.kind = .array (gl.2.1 jx) (.array t) := by rw [he]; exact hkind
  have hx0 : 0 ≤ M.2.2 r := h0 r
  obtain ⟨U1, X1, hS1, hR1, hnew⟩ := mi_wpNew (N := N) (ev := .inl (gl.2.1 ix, N, .inr (.inr (.inr (.inr (fun _ => none)))))) X hS hR hA (by omega) (by omega) hx0 (by rw [hk]; decide) w2 hkind hb (Nat.le_of_ble_eq_true rfl) rfl (fun H1 h => h) (by
    unfold mi_en
    rw [hk, hrN, hrc]
    refine ⟨_, rfl, fun i hi => ?_⟩
    have h2 : (mi_nw M r N).2.1 r (M.2.2 r) i = -1 := by
      show (if _ then _ else _) = _
      rw [if_pos ⟨rfl, rfl⟩]
    rw [h2, hrt]
    exact Or.inl ⟨by decide, rfl⟩)
  generalize U.heap.size = a0 at hR1 hnew
  have loop : ∀ (j i : Nat) (U2 : State) (locs2 : List Loc) (ad2 : Nat → Int → Nat), i + j = N → Stand p l e R s m args below meth c U2 locs2 (cells + 1 + i * kb) (slots + N + i * nb) → va_S A s.heap U2.heap locs2 → mi_rp gl A ad2 (mi_itG body r r2 (M.2.2 r) i (mi_nw M r N)) U2.heap → mi_ext ad ad2 M.2.2 → ad2 r (M.2.2 r) = a0 →
      ∃ (U3 : State) (locs3 : List Loc) (ad3 : Nat → Int → Nat), Stand p l e R s m args below meth c U3 locs3 (cells + 1 + N * kb) (slots + N + N * nb) ∧ va_S A s.heap U3.heap locs3 ∧ mi_rp gl A ad3 (mi_itG body r r2 (M.2.2 r) N (mi_nw M r N)) U3.heap ∧ mi_ext ad ad3 M.2.2 ∧ ad3 r (M.2.2 r) = a0 ∧
        ∀ (F : Nat → PUnit → Sem (ForInStep PUnit)) (f : JFrame) (E : CtlPost) (d : Bool) (acts : List Action) (Q : PUnit → Pre),
          (∀ (i : Nat) (d : Bool) (acts : List Action) (s : State) (Q : ForInStep PUnit → Pre), wp (Jvm.Op.multianewarray.make (gl.2.1 jx) (q :: rest)) (fun v => wp (Jvm.writeLoc a0 i (.ref v)) (fun _ d acts s => Q (ForInStep.yield PUnit.unit) d acts s) E e) E e d acts s → wp (F i PUnit.unit) Q E e d acts s) →
          (∀ (d' : Bool) (acts' : List Action), Q PUnit.unit d' acts' (U3.setTop f)) → wp (forIn (List.range' i j 1) PUnit.unit F) Q E e d acts (U2.setTop f) := by
    intro j
    induction j with
    | zero =>
      intro i U2 locs2 ad2 hij X2 hS2 hR2 hext had
      obtain rfl : i = N := by omega
      refine ⟨U2, locs2, ad2, X2, hS2, hR2, hext, had, fun F f E d acts Q hF hQ => ?_⟩
      simp only [List.range'_zero, List.forIn_nil, wp_pure']
      exact hQ d acts
    | succ j ih =>
      intro i U2 locs2 ad2 hij X2 hS2 hR2 hext had
      have hlt : i < N := by omega
      have hmk : (i + 1) * kb ≤ N * kb := Nat.mul_le_mul_right kb hlt
      have hmn : (i + 1) * nb ≤ N * nb := Nat.mul_le_mul_right nb hlt
      rw [Nat.succ_mul] at hmk hmn
      obtain ⟨b1, b2, b3⟩ := mi_itG_bd (r := r) (x := M.2.2 r) hbd (mi_nw M r N) i
      obtain ⟨B1, B2, B3, B4⟩ := hbd (mi_itG body r r2 (M.2.2 r) i (mi_nw M r N))
      have hcnt : ∀ q, M.2.2 q ≤ (mi_itG body r r2 (M.2.2 r) i (mi_nw M r N)).2.2 q := fun q => Int.le_trans (mi_nw_cn q) (b1 q)
      have hxlt : M.2.2 r < (mi_itG body r r2 (M.2.2 r) i (mi_nw M r N)).2.2 r := Int.lt_of_lt_of_le (by
        show _ < if r = r then _ else _
        rw [if_pos rfl]; omega) (b1 r)
      obtain ⟨U3, locs3, ad3, X3, hS3, hR3, hext3, hmake⟩ := h p l e R s m args below meth c A hK hma hA U2 locs2 _ _ ad2 _ X2 hS2 hR2 (by omega) (by omega) (fun q => Int.le_trans (h0 q) (hcnt q))
      have had3 : ad3 r (M.2.2 r) = a0 := (hext3 r (M.2.2 r) hx0 hxlt).trans had
      obtain ⟨hA3, e3, hat3, hen3⟩ := hR3.1 r (M.2.2 r) (by rw [hk]; decide) hx0 (Int.lt_of_lt_of_le hxlt (B1 r))
      obtain ⟨g, rfl, hg⟩ := mi_en2 hk hen3
      rw [had3, hrc, hrN] at hat3
      have hcell : U3.heap[a0]? = some (arrV (gl.2.1 ix) N (fun j => va_rf (g j))) := hat3
      obtain ⟨k4, hk4, he4⟩ := X3.warmed.alike.2.2 _ _ w2
      have hkd4 : k4.kind = .array (gl.2.1 jx) (.array t) := by rw [he4]; exact hkind
      generalize hv : ad3 r2 ((mi_itG body r r2 (M.2.2 r) i (mi_nw M r N)).2.2 r2) = v at hmake
      have X4 := X3.stored hcell i (.ref v)
      have q1 : cells + 1 + i * kb + kb = cells + 1 + (i + 1) * kb := by rw [Nat.succ_mul]; omega
      have q2 : slots + N + i * nb + nb = slots + N + (i + 1) * nb := by rw [Nat.succ_mul]; omega
      rw [q1, q2] at X4
      have hlt3 : a0 < U3.heap.size := (Array.getElem?_eq_some_iff.mp hcell).1
      have hat4 : va_at gl.1 vwCl (ad3 r (M.2.2 r), .inl (gl.2.1 (mi_rc r), mi_rn r, .inr (.inr (.inr (.inr (va_up g i (some v))))))) (U3.setCell a0 ((arrV (gl.2.1 ix) N (fun j => va_rf (g j))).setSlot i (.ref v))).heap := by
        show _ = some (vp_cell _ _)
        rw [had3, hrc, hrN, State.heap_setCell_self hcell, vp_cell_q, arrV_store]
        congr 2
        funext j
        by_cases hj : j = i
        · subst hj; simp [updV, va_up, va_rf]
        · simp [updV, va_up, hj]
      have hR4 := hR3.set (M' := mi_pL (body (mi_itG body r r2 (M.2.2 r) i (mi_nw M r N))) r (M.2.2 r) i ((mi_itG body r r2 (M.2.2 r) i (mi_nw M r N)).2.2 r2)) (by rw [hk]; decide) hx0 (Int.lt_of_lt_of_le hxlt (B1 r)) rfl hat4 (by
        unfold mi_en
        rw [hk]
        refine ⟨_, rfl, fun j hj => ?_⟩
        rw [mi_pL_at]
        unfold va_up
        by_cases hjx2 : j = i
        · subst hjx2
          rw [if_pos rfl, if_pos rfl, hrt, ← hv]
          exact Or.inr ⟨Int.le_trans (h0 r2) (hcnt r2), B2, rfl⟩
        · rw [if_neg hjx2, if_neg (by omega)]
          exact hg j hj) (fun q hq => by rw [State.heap_setCell_other]; rw [← had3]; exact Ne.symm hq) (fun r' x' hn => ⟨rfl, mi_st_ne hn⟩)
      obtain ⟨U5, locs5, ad5, X5, hS5, hR5, hext5, had5, hloop⟩ := ih (i + 1) _ _ ad3 (by omega) X4 (hS3.put (by simp [State.setCell]) (fun q hq => by rw [State.heap_setCell_other (Ne.symm hq)]) (by rw [← had3]; exact hA3)) hR4 (fun q y y0 y1 => (hext3 q y y0 (Int.lt_of_lt_of_le y1 (hcnt q))).trans (hext q y y0 y1)) had3
      refine ⟨U5, locs5, ad5, X5, hS5, hR5, hext5, had5, fun F f E d acts Q hF hQ => ?_⟩
      simp only [List.range'_succ, List.forIn_cons, wp_bind']
      refine hF _ _ _ _ _ (hmake f E d acts _ fun d' acts' => ?_)
      simp only [W.writeLoc]
      have hk5 : U3.vm.classes[gl.2.1 ix]? = some k4 := hk4
      refine ⟨_, hcell, (fun q => by cases q), by rw [arrV_size]; exact hlt, ?_, ?_⟩
      · simp [State.fitsSlot, State.slotType?, arrV, hk5, hkd4]
        rfl
      · rw [State.setCell_setTop]
        exact hloop F f E _ _ Q hF hQ
  obtain ⟨U3, locs3, ad3, X3, hS3, hR3, hext3, had3, hloop⟩ := loop N 0 U1 locs _ (by omega) (by simpa using X1) hS1 hR1 mi_na_ext mi_na_at
  have q1 : cells + 1 + N * kb = cells + (1 + N * kb) := by omega
  have q2 : slots + N + N * nb = slots + (N + N * nb) := by omega
  rw [q1, q2] at X3
  refine ⟨U3, locs3, ad3, X3, hS3, hR3, hext3, fun f E d acts Q hQ => ?_⟩
  have hk3 : (U.setTop f).vm.classes[gl.2.1 ix]? = some k1 := hk2
  rw [Jvm.Op.multianewarray.make]
  simp only [wp_bind', W.ite, g1, if_false, wp_pure', W.theClass, hk3, hkd, Option.some.injEq, exists_eq_left', g2, g3]
  refine hnew f E d acts _ fun acts1 => ?_
  simp only [Bool.false_eq_true, if_false, wp_bind', Std.Legacy.Range.forIn_eq_forIn_range']
  have hsz : ([:N] : Std.Legacy.Range).size = N := by simp [Std.Legacy.Range.size]
  rw [hsz]
  refine hloop _ f E d acts1 _ (fun i d acts s Q hw => ?_) fun d' acts' => ?_
  · simp only [wp_bind', wp_pure']
    exact hw
  · have h2 := hQ d' acts'
    rw [had3] at h2
    exact h2
theorem mi_mapInt {E : CtlPost} {e : Env} {F : Value → Sem Int32} (hF : ∀ n : Int32, F (.int n) = Pure.pure n) : ∀ (cs : List Int32) {d : Bool} {acts : List Action} {s : State} {Q : List Int32 → Pre}, Q cs d acts s → wp ((cs.map Value.int).mapM F) Q E e d acts s
  | [], _, _, _, _, h => by simp only [List.map_nil, List.mapM_nil, wp_pure']; exact h
  | c :: cs, d, acts, s, Q, h => by
    simp only [List.map_cons, List.mapM_cons, wp_bind', hF, wp_pure']
    exact mi_mapInt (Q := fun r => Q (c :: r)) hF cs h
/-- the instruction -/
theorem Sim.mna {μ : MiI} {pc ix dims r k n : Nat} {ls st : List MiV} {M : MiM} {o : Option MiO} {cs : List Int32} {cI : Nat} {t : FieldType} {body : MiM → MiM} {st0 : List MiV} (hdg : decode μ.2.1 pc = .ok (.multianewarray ix dims, 4)) (hlen : cs.length = dims) (hd0 : dims ≠ 0) (h0 : ∀ t, 0 ≤ M.2.2 t)
    (hw : Cond.classLink μ.1.cls ix ("[" ++ (FieldType.array t).toString) ∈ mi_tb) (hix : ∀ gl : MiG, (mi_tl gl)[cI]? = some (gl.2.1 cI, .array t)) (hst0 : st0 = (cs.reverse.map (fun j => ((0, j.toInt) : MiV))) ++ st) (hbd : MiBd body r k n) (hmk : ∀ gl : MiG, MiMk cs gl (gl.2.1 cI) r body k n)
    (kk : Sim μ (pc + 4) ls ((r + 2, M.2.2 r) :: st) (body M) o) : Sim μ pc ls st0 M o := by
  intro q hq
  obtain ⟨hle, K⟩ := kk q hq
  obtain ⟨l1, l2, l3⟩ := hle
  obtain ⟨B1, B2, B3, B4⟩ := hbd M
  rw [B3] at l2
  rw [B4] at l3
  refine ⟨⟨fun t => Int.le_trans (B1 t) (l1 t), by omega, by omega⟩, fun gl p l e R s m args below meth c A C H locs cells slots lsA stA ad ad0 cn0 k0 n0 S => ?_⟩
  obtain ⟨s1, s2, s3, s4, s5, s6, s7, s8, s9, s10⟩ := S
  have hK := C.2.2.2.2.2.2.2.2.1.1
  have hma := C.2.2.2.2.2.2.2.2.1.2.2.2.2.2
  have hts := C.2.2.2.2.2.2.2.1
  have hown := C.2.2.2.2.2.1
  have hAA := C.2.2.2.2.2.2.2.2.2.1
  have hcode := C.2.1
  have hexec := C.1
  obtain ⟨stR, hstk, hsr⟩ : ∃ stR : List Value, stA = (cs.reverse.map (fun j => Value.int j)) ++ stR ∧ mi_sr ad M.2.2 st stR := by
    rw [hst0] at s4
    clear K l1 l2 l3 hst0 hmk hlen
    generalize cs.reverse = js at s4 ⊢
    induction js generalizing stA with
    | nil => exact ⟨stA, rfl, s4⟩
    | cons j js ih =>
      obtain ⟨w, k', rfl, ⟨i, rfl, hi⟩, h2⟩ := mi_sr.cons s4
      obtain ⟨stR, rfl, h3⟩ := ih k' h2
      have : i = j := Int32.toInt_inj.mp hi
      subst this
      exact ⟨stR, rfl, h3⟩
  intro T hT X
  subst hT
  have hpl : e.platform.magicAccessors = ({} : Platform).magicAccessors := by rw [X.admits.platform]
  obtain ⟨c0, hfc0, hcl⟩ := Cond.classLink_spec hown (hts _ hw) e.platform hpl
  obtain rfl : c0 = gl.2.1 cI := Option.some.inj (hfc0.symm.trans (hK.2 cI _ (hix gl)).2)
  obtain ⟨hg1, hwarm1, hready1⟩ := State.classEntry (e := e) X.warmed hcl
  generalize T.vm.noted m.cls ix (.cls (gl.2.1 cI)) = vm1 at hg1 hwarm1 hready1
  have X1 := X.noted hwarm1
  have hdg2 : decode c.code pc = .ok (.multianewarray ix dims, 4) := by rw [hcode]; exact hdg
  obtain ⟨U', locs', ad', X', hS', hR', hext, hmake⟩ := hmk gl p l e R s m args below meth c A hK hma hAA (T.setVm vm1) locs cells slots ad M X1 s1 s2 (by omega) (by omega) h0
  obtain ⟨tt, ht1, ht2⟩ := K gl p l e R s m args below meth c A C U'.heap locs' (cells + k) (slots + n) lsA (.ref (ad' r (M.2.2 r)) :: stR) ad' ad0 cn0 k0 n0 ⟨hS', hR', s3.mono hext B1, ⟨Or.inr ⟨h0 r, B2, rfl⟩, hsr.mono hext B1⟩, fun t x a b => (hext t x a (Int.lt_of_lt_of_le b (s6 t))).trans (s5 t x a b), fun t => Int.le_trans (s6 t) (B1 t), by rw [B3]; omega, by rw [B4]; omega, s9, s10⟩ U' rfl X'
  refine ⟨tt, ?_, ht2⟩
  jvm_step X.here [hexec, hdg2]
  simp only [Jvm.Op.multianewarray.sem, wp_bind', W.resolveClassAt_links (State.method?_setTop (F0 m pc lsA stA) X.here.top) hg1]
  rw [W.popN, if_neg hd0]
  refine ⟨F0 m pc lsA stA, State.topJava?_setTop' (s := T.setVm vm1) _ X.here.top, cs.map Value.int, stR, by rw [List.length_map, hlen], by rw [← List.map_reverse]; exact hstk, ?_⟩
  simp only [wp_bind']
  refine mi_mapInt ?_ cs ?_
  · intro n; rfl
  have eS : ((T.setTop (F0 m pc lsA stA)).setVm vm1).setTop (F0 m pc lsA stR) = (T.setVm vm1).setTop (F0 m pc lsA stR) := by
    show ((T.setVm vm1).setTop _).setTop _ = _
    rw [State.setTop_setTop]
  show wp _ _ _ _ _ _ (((T.setTop (F0 m pc lsA stA)).setVm vm1).setTop (F0 m pc lsA stR))
  rw [eS]
  simp only [wp_bind']
  refine hmake (F0 m pc lsA stR) _ _ _ _ fun d' acts' => ?_
  show wp _ _ _ _ _ _ _
  simp only [wp_bind', W.mark, W.pushRef, State.topJava?_setTop' _ X'.here.top, Option.some.injEq, exists_eq_left', State.setTop_setTop]
  intro acts
  simp [jvm, X'.here.top]
  exact ht1
/-- a memory's new numbers and links by name -/
def mi_mb {β : Type} (M : MiM) (f : MiD → MiZ → β) : β := f M.1 M.2
theorem Sg.mna {α : Type} {μ : MiI} {pc ix dims r k n : Nat} {ls st : List MiV} {D : MiD} {Z : MiZ} {L : α → MiO} {cs : List Int32} {cI : Nat} {t : FieldType} {body : MiM → MiM} {st0 : List MiV} {f : MiD → MiZ → Option α} (hdg : decode μ.2.1 pc = .ok (.multianewarray ix dims, 4)) (hlen : cs.length = dims) (hd0 : dims ≠ 0)
    (hw : Cond.classLink μ.1.cls ix ("[" ++ (FieldType.array t).toString) ∈ mi_tb) (hix : ∀ gl : MiG, (mi_tl gl)[cI]? = some (gl.2.1 cI, .array t)) (hst0 : st0 = (cs.reverse.map (fun j => ((0, j.toInt) : MiV))) ++ st) (hbd : MiBd body r k n) (hmk : ∀ gl : MiG, MiMk cs gl (gl.2.1 cI) r body k n)
    (kk : 0 ≤ Z.2 r → ∀ D1 Z1, Sg μ (pc + 4) ls ((r + 2, Z.2 r) :: st) (D1, Z1) L (f D1 Z1)) : Sg μ pc ls st0 (D, Z) L (mi_req (∀ t, 0 ≤ Z.2 t) (mi_mb (body (D, Z)) f)) := by
  refine Sg.rq fun h0 => ?_
  intro a ha
  exact Sim.mna hdg hlen hd0 h0 hw hix hst0 hbd hmk (kk (h0 r) _ _ a ha)
theorem mi_clE {own a b : String} {ix : Nat} (h : Cond.classLink own ix b ∈ mi_tb) (e : a = b) : Cond.classLink own ix a ∈ mi_tb := by rw [e]; exact h
