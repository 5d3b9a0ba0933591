/-! ===== the small machine: values (tag, number), memory (numbers, references, counts), outcomes; what a heap holds of it ===== -/
abbrev MiV : Type := Nat × Int
abbrev MiD : Type := Nat → Int → Int → Int
abbrev MiZ : Type := MiD × (Nat → Int)
abbrev MiM : Type := MiD × MiZ
/-- (0, _) nothing answered, (1, v) answered, (2, (k, _)) thrown -/
abbrev MiO : Type := (Nat × MiV) × MiM
abbrev MiG : Type := va_G × (Nat → ClassId) × (Nat → Nat → Nat)
/-- a method: name, bytes, locals, answer, level, its table of handlers -/
abbrev MiI : Type := MethodName × ByteArray × Nat × Option FieldType × Nat × Option (List (Nat × Nat × Nat × Nat))
def mi_un : MiV := (9999, 0)
def mi_st (f : MiD) (r : Nat) (j i v : Int) : MiD := fun r' j' i' => if r' = r ∧ j' = j ∧ i' = i then v else f r' j' i'
def mi_vr (ad : Nat → Int → Nat) (cn : Nat → Int) (v : MiV) (w : Value) : Prop := match v with
  | (0, x) => ∃ i : Int32, w = .int i ∧ i.toInt = x
  | (1, x) => ∃ i : Int64, w = .long i ∧ i.toInt = x
  | (r + 2, x) => (x < 0 ∧ w = .null) ∨ (0 ≤ x ∧ x < cn r ∧ w = .ref (ad r x))
def mi_ext (ad ad' : Nat → Int → Nat) (cn : Nat → Int) : Prop := ∀ r x, 0 ≤ x → x < cn r → ad' r x = ad r x
def mi_le (M M' : MiM) : Prop := (∀ r, M.2.2 r ≤ M'.2.2 r) ∧ M.1 0 0 0 ≤ M'.1 0 0 0 ∧ M.1 0 0 1 ≤ M'.1 0 0 1
def mi_fv (M : MiM) (r : Nat) (x : Int) (k : Nat) : MiV := (mi_rt r k, if mi_rt r k < 2 then M.1 r x k else M.2.1 r x k)
def mi_en (gl : MiG) (ad : Nat → Int → Nat) (M : MiM) (r : Nat) (x : Int) (e : va_E) : Prop := match mi_rk r with
  | 0 => ∃ f : Nat → Int32, e = .inl (gl.2.1 0, mi_rn r, .inl f) ∧ ∀ i : Nat, i < mi_rn r → (f i).toInt = M.1 r x i
  | 1 => ∃ f : Nat → Int64, e = .inl (gl.2.1 1, mi_rn r, .inr (.inl f)) ∧ ∀ i : Nat, i < mi_rn r → (f i).toInt = M.1 r x i
  | 2 => ∃ g : Nat → Option Nat, e = .inl (gl.2.1 (mi_rc r), mi_rn r, .inr (.inr (.inr (.inr g)))) ∧ ∀ i : Nat, i < mi_rn r → mi_vr ad M.2.2 (mi_rt r 0, M.2.1 r x i) (va_rf (g i))
  | 3 => ∃ fs : List Value, e = .inr (mi_rc r, fs) ∧ fs.length = mi_rn r ∧ ∀ k : Nat, k < mi_rn r → ∃ w, fs[k]? = some w ∧ mi_vr ad M.2.2 (mi_fv M r x k) w
  | 4 => ∃ f : Nat → Int32, e = .inl (gl.2.1 2, mi_rn r, .inl f) ∧ ∀ i : Nat, i < mi_rn r → (f i).toInt = M.1 r x i
  | _ => False
def mi_sn : Nat → Int := fun r => if r = 26 then 19 else if r = 27 then 64 else if r = 31 then 64 else if r = 28 then 1 else if r = 29 then 1 else if r = 30 then 1 else if r = 32 then 1 else if r = 33 then 1 else 0
def mi_rp (gl : MiG) (A : Nat → Prop) (ad : Nat → Int → Nat) (M : MiM) (H : Heap) : Prop :=
  (∀ (r : Nat) (x : Int), mi_rk r < 9 → 0 ≤ x → x < M.2.2 r → A (ad r x) ∧ ∃ e, va_at gl.1 vwCl (ad r x, e) H ∧ mi_en gl ad M r x e) ∧
  (∀ (r : Nat) (x : Int) (r' : Nat) (x' : Int), mi_rk r < 9 → mi_rk r' < 9 → 0 ≤ x → x < M.2.2 r → 0 ≤ x' → x' < M.2.2 r' → ad r x = ad r' x' → r = r' ∧ x = x') ∧
  (∀ r : Nat, 9 ≤ mi_rk r → M.2.2 r = mi_sn r ∧ ∀ x : Int, ad r x = gl.2.2 r x.toNat)
def mi_tl (gl : MiG) : List (ClassId × FieldType) := (List.range 11).map (fun i => (gl.2.1 i, mi_ty.getD i .int))
def mi_sS (gl : MiG) (A : Nat → Prop) (U : State) (H : Heap) : Prop := ∀ i : Nat, i < 64 → va_O "java/lang/String" (gl.2.2 27 i) A U H ∧ va_OF "java/lang/String" "coder" "B" (.int 0) (gl.2.2 27 i) A U H ∧ va_OF "java/lang/String" "value" "[B" (.ref (gl.2.2 31 i)) (gl.2.2 27 i) A U H ∧ va_T .byte (gl.2.2 31 i) (mi_len.getD i 0) (fun j => .int ((mi_chr.getD i []).getD j 0)) A U H
def mi_sR (gl : MiG) (U : State) : Prop := ∀ (i : Nat) (q : String × Nat × String), mi_str[i]? = some q → vk_R q.1 q.2.1 q.2.2 (gl.2.2 27 i) U
/-- the words of the tables that go with a call -/
def mi_tb : List Cond := lw_tbl.filter goodWord
/-- the words that are told with a nest mate's host -/
def mi_nest : List Cond := lw_tbl.filter (fun w => match w with | .methodLinkNest .. => true | .fieldLinkNest .. => true | .castable .. => true | .declares .. => true | _ => false)
/-- what is there from the start and stays: constants, texts, static arrays -/
def mi_sk (gl : MiG) (A : Nat → Prop) (U : State) (H : Heap) : Prop :=
  va_En RX3 "LMendedProgram$Op;" mi_opN [("java/lang/Enum", "ordinal", "I", (List.range 19).map Int32.ofNat)] (gl.2.2 26) A U H ∧
  va_Ef 19 RX3 "word" "Ljava/lang/String;" (fun i => .ref (gl.2.2 27 (mi_wIx.getD i 0))) (gl.2.2 26) A U H ∧
  va_Ef 19 RX3 "parts" "Ljava/lang/String;" (fun i => .ref (gl.2.2 27 (mi_pIx.getD i 0))) (gl.2.2 26) A U H ∧
  mi_sS gl A U H ∧ mi_sR gl U ∧
  va_Z RX10 "HOLDS" "[I" (.ref (gl.2.2 28 0)) A U H ∧ va_T .int (gl.2.2 28 0) 11 (fun i => .int (mi_hoL.getD i 0)) A U H ∧
  va_Z RX0 "$SwitchMap$MendedProgram$Op" "[I" (.ref (gl.2.2 29 0)) A U H ∧ va_T .int (gl.2.2 29 0) 19 (fun i => .int (mi_smL.getD i 0)) A U H ∧
  va_Z RX10 "OPS" "[LMendedProgram$Op;" (.ref (gl.2.2 30 0)) A U H ∧ va_T (.object RX3) (gl.2.2 30 0) 19 (fun i => .ref (gl.2.2 26 i)) A U H ∧
  va_Z RJ0 "COMPACT_STRINGS" "Z" (.int 1) A U H ∧
  vx_Zq Bundle.tN "UNASSIGNED_STACK" Bundle.steD A U H ∧ vx_Zq Bundle.tN "SUPPRESSED_SENTINEL" Bundle.listD A U H ∧
  ∀ w ∈ mi_nest, va_Nw w U
def mi_aoL : List String := [RX1, RX2, RX4, RX6, RX7]
def mi_ncL : List (String × String) := [("java/lang/IllegalArgumentException", "java/util/NoSuchElementException"), ("java/lang/IllegalStateException", "java/util/NoSuchElementException"), ("java/lang/IllegalStateException", "java/lang/IllegalArgumentException")]
/-- a static of which only this is known: null, or one reference (region 32) -/
def mi_fm (gl : MiG) (A : Nat → Prop) (U : State) (H : Heap) : Prop := va_Z "jdk/internal/util/Preconditions" "SIOOBE_FORMATTER" "Ljava/util/function/BiFunction;" .null A U H ∨ va_Z "jdk/internal/util/Preconditions" "SIOOBE_FORMATTER" "Ljava/util/function/BiFunction;" (.ref (gl.2.2 32 0)) A U H
/-- the arrays of arrays that are there -/
def mi_aaL : List FieldType := [.array .int, .array (.array .int), .array .long]
def mi_ma (U : State) : Prop := ∀ t ∈ mi_aaL, (Cond.arrayOver t).before #[] U = true
theorem mi_ma.moved {u U : State} (hvm : u.vm.Alike U.vm) (h : mi_ma u) : mi_ma U := by
  intro t ht
  have h2 := (Cond.arrayOver_setVmC (args := #[]) hvm t).trans (h t ht)
  unfold Cond.before Cond.holds at h2 ⊢
  simp only [Cond.value] at h2 ⊢
  exact h2
def mi_k (gl : MiG) (A : Nat → Prop) (U : State) : Prop := va_K gl.1 vwCl (mi_tl gl) U ∧ mi_sk gl A U U.heap ∧ (∀ C ∈ mi_aoL, va_AO C U) ∧ (∀ q ∈ mi_ncL, va_Nc q.1 q.2 U) ∧ mi_fm gl A U U.heap ∧ mi_ma U
theorem mi_nest_warm {w : Cond} (h : w ∈ mi_nest) {s U : State} (hW : s.WarmedH U.vm) (hZ : va_Nw w s) : va_Nw w U := by
  unfold mi_nest at h
  have h2 := (List.mem_filter.mp h).2
  cases w <;> first | exact va_Nw.warmF hW hZ | exact va_Nw.warmM hW hZ | exact va_Nw.warmC hW hZ | exact va_Nw.warmD hW hZ | cases h2
theorem mi_nest_same {w : Cond} (h : w ∈ mi_nest) {u U : State} (hv : u.vm = U.vm) (hZ : va_Nw w u) : va_Nw w U := by
  unfold mi_nest at h
  have h2 := (List.mem_filter.mp h).2
  cases w <;> first | exact va_Nw.same rfl hv hZ | cases h2
theorem mi_sk.to {gl : MiG} {A : Nat → Prop} {s U : State} {H H1 : Heap} (h : mi_sk gl A s H) (hvm : s.vm.Alike U.vm) (hR : mi_sR gl s → mi_sR gl U) (hN : ∀ w ∈ mi_nest, va_Nw w s → va_Nw w U) (hq : ∀ a : Nat, a < H.size → ¬ A a → H1[a]? = H[a]?) : mi_sk gl A U H1 := by
  obtain ⟨h1, h2, h3, h4, h5, h6, h7, h8, h9, h10, h11, h12, h13, h14, h15⟩ := h
  refine ⟨(h1.moved hvm).kept hq, (h2.moved hvm).kept hq, (h3.moved hvm).kept hq, fun i hi => ?_, hR h5, (h6.moved hvm).kept hq, (h7.moved hvm).kept hq, (h8.moved hvm).kept hq, (h9.moved hvm).kept hq, (h10.moved hvm).kept hq, (h11.moved hvm).kept hq, (h12.moved hvm).kept hq, (h13.moved hvm).kept hq, (h14.moved hvm).kept hq, fun w hw => hN w hw (h15 w hw)⟩
  obtain ⟨a1, a2, a3, a4⟩ := h4 i hi
  exact ⟨(a1.moved hvm).kept hq, (a2.moved hvm).kept hq, (a3.moved hvm).kept hq, (a4.moved hvm).kept hq⟩
theorem mi_k.warm {gl : MiG} {A : Nat → Prop} {s U : State} (h : mi_k gl A s) (hW : s.WarmedH U.vm) (hq : ∀ a : Nat, a < s.heap.size → ¬ A a → U.heap[a]? = s.heap[a]?) : mi_k gl A U :=
  ⟨va_K.moved hW.alike h.1, h.2.1.to hW.alike (fun hR i q hi => vk_R.warm hW (hR i q hi)) (fun w hw hZ => mi_nest_warm hw hW hZ) hq, fun C hC => va_AO.moved hW.alike (h.2.2.1 C hC), fun q hq => va_Nc.moved hW.alike (h.2.2.2.1 q hq), h.2.2.2.2.1.imp (fun z => (z.moved hW.alike).kept hq) (fun z => (z.moved hW.alike).kept hq), h.2.2.2.2.2.moved hW.alike⟩
theorem mi_k.same {gl : MiG} {A : Nat → Prop} {s U : State} (h : mi_k gl A s) (hv : U.vm = s.vm) (hH : U.heap = s.heap) : mi_k gl A U := by
  have ha : s.vm.Alike U.vm := by rw [hv]; exact Vm.Alike.refl _
  exact ⟨va_K.moved ha h.1, h.2.1.to ha (fun hR i q hi => vk_R.same hv (hR i q hi)) (fun w hw hZ => mi_nest_same hw hv.symm hZ) (fun a _ _ => by rw [hH]), fun C hC => va_AO.moved ha (h.2.2.1 C hC), fun q hq => va_Nc.moved ha (h.2.2.2.1 q hq), h.2.2.2.2.1.imp (fun z => (z.moved ha).kept (fun a _ _ => by rw [hH])) (fun z => (z.moved ha).kept (fun a _ _ => by rw [hH])), h.2.2.2.2.2.moved ha⟩
def mi_sr (ad : Nat → Int → Nat) (cn : Nat → Int) : List MiV → List Value → Prop
  | [], [] => True
  | v :: l, w :: k => mi_vr ad cn v w ∧ mi_sr ad cn l k
  | _, _ => False
def mi_lr (ad : Nat → Int → Nat) (cn : Nat → Int) (nL : Nat) (l : List MiV) (ls : Array Slot) : Prop := ls.size = nL ∧ lv_wf ls ∧ ∀ (i : Nat) (v : MiV), l[i]? = some v → v.1 ≠ 9999 → ∃ w, ls[i]? = some (.val w) ∧ mi_vr ad cn v w
def mi_rv (ad : Nat → Int → Nat) (cn : Nat → Int) (q : Nat × MiV) (v : Option Value) : Prop := (q.1 = 0 ∧ v = none) ∨ (q.1 = 1 ∧ ∃ w, v = some w ∧ mi_vr ad cn q.2 w)
def mi_po (gl : MiG) (A : Nat → Prop) (ad0 : Nat → Int → Nat) (cn0 : Nat → Int) (r : MiO) (st t : State) (ad' : Nat → Int → Nat) : Prop := mi_ext ad0 ad' cn0 ∧ mi_rp gl A ad' r.2 t.heap ∧ va_F A st t
def mi_q (gl : MiG) (A : Nat → Prop) (ad0 : Nat → Int → Nat) (cn0 : Nat → Int) (r : MiO) : Array Value → State → Outcome → State → Prop := fun _ st o t => ∃ (ad' : Nat → Int → Nat) (v : Option Value), o = .returned v ∧ mi_rv ad' r.2.2.2 r.1 v ∧ mi_po gl A ad0 cn0 r st t ad'
def mi_exn (k : Nat) : String := if k = 0 then "java/util/NoSuchElementException" else if k = 1 then "java/lang/IllegalArgumentException" else "java/lang/IllegalStateException"
def mi_x (gl : MiG) (A : Nat → Prop) (ad0 : Nat → Int → Nat) (cn0 : Nat → Int) (r : MiO) : String → State → State → Prop := fun E st t => r.1.1 = 2 ∧ E = mi_exn r.1.2.1 ∧ ∃ ad', mi_po gl A ad0 cn0 r st t ad'
/-- what is known where a method's frame stands -/
def mi_cx (μ : MiI) (gl : MiG) (p : Program) (l : Launch) (R : Room) (s : State) (m : MethodId) (args : Array Value) (meth : Method) (c : Code) (A : Nat → Prop) : Prop :=
  p.tables.exec = Jvm.exec ∧ c.code = μ.2.1 ∧ c.maxLocals = μ.2.2.1 ∧ meth.sig.returnType = μ.2.2.2.1 ∧ meth.locks = false ∧ s.vm.findClass μ.1.cls = some m.cls ∧ meth.name = μ.1.name ∧ (∀ w ∈ mi_tb, w.before args s = true) ∧ mi_k gl A s ∧ (∀ q : Nat, s.heap.size ≤ q → A q) ∧ l.stackTraces = false ∧ R.frames = μ.2.2.2.2.1 ∧ R.locals = 40 * μ.2.2.2.2.1 ∧ (μ.2.2.2.2.2 = none → ∀ x ∈ c.exceptionTable.toList, False)
def mi_S (gl : MiG) (nL : Nat) (R : Room) (s : State) (A : Nat → Prop) (ls st : List MiV) (M : MiM) (r : MiO) (H : Heap) (locs : List Loc) (cells slots : Nat) (lsA : Array Slot) (stA : List Value) (ad ad0 : Nat → Int → Nat) (cn0 : Nat → Int) (k0 n0 : Int) : Prop :=
  va_S A s.heap H locs ∧ mi_rp gl A ad M H ∧ mi_lr ad M.2.2 nL ls lsA ∧ mi_sr ad M.2.2 st stA ∧ mi_ext ad0 ad cn0 ∧ (∀ r, cn0 r ≤ M.2.2 r) ∧ (cells : Int) = M.1 0 0 0 - k0 ∧ (slots : Int) = M.1 0 0 1 - n0 ∧ (R.cells : Int) = r.2.1 0 0 0 - k0 ∧ (R.slots : Int) = r.2.1 0 0 1 - n0
/-- from this place the method answers o, if o is an answer -/
def Sim (μ : MiI) (pc : Nat) (ls st : List MiV) (M : MiM) (o : Option MiO) : Prop :=
  ∀ r, o = some r → mi_le M r.2 ∧ ∀ (gl : MiG) (p : Program) (l : Launch) (e : Env) (R : Room) (s : State) (m : MethodId) (args : Array Value) (below : List Frame) (meth : Method) (c : Code) (A : Nat → Prop), mi_cx μ gl p l R s m args meth c A →
    ∀ (H : Heap) (locs : List Loc) (cells slots : Nat) (lsA : Array Slot) (stA : List Value) (ad ad0 : Nat → Int → Nat) (cn0 : Nat → Int) (k0 n0 : Int), mi_S gl μ.2.2.1 R s A ls st M r H locs cells slots lsA stA ad ad0 cn0 k0 n0 →
      W p l e R s m args below meth c H locs cells slots (vx_MQ below (mi_q gl A ad0 cn0 r) (mi_x gl A ad0 cn0 r) args s R.cells R.slots A) (F0 m pc lsA stA)
theorem mi_le.refl (M : MiM) : mi_le M M := ⟨fun _ => Int.le_refl _, Int.le_refl _, Int.le_refl _⟩
theorem mi_le.trans {a b c : MiM} (h : mi_le a b) (k : mi_le b c) : mi_le a c := ⟨fun r => Int.le_trans (h.1 r) (k.1 r), Int.le_trans h.2.1 k.2.1, Int.le_trans h.2.2 k.2.2⟩
theorem mi_sr.cons {ad : Nat → Int → Nat} {cn : Nat → Int} {v : MiV} {l : List MiV} {k : List Value} (h : mi_sr ad cn (v :: l) k) : ∃ w k', k = w :: k' ∧ mi_vr ad cn v w ∧ mi_sr ad cn l k' := by
  cases k with
  | nil => exact h.elim
  | cons w k' => exact ⟨w, k', rfl, h.1, h.2⟩
theorem Sim.nope {μ : MiI} {pc : Nat} {ls st : List MiV} {M : MiM} : Sim μ pc ls st M none := fun r h => by cases h
theorem Sim.ite {μ : MiI} {pc : Nat} {ls st : List MiV} {M : MiM} {c : Prop} [Decidable c] {a b : Option MiO} (ha : c → Sim μ pc ls st M a) (hb : ¬ c → Sim μ pc ls st M b) : Sim μ pc ls st M (if c then a else b) := by
  by_cases h : c
  · rw [if_pos h]; exact ha h
  · rw [if_neg h]; exact hb h
