/-! ===== walks that know more of their start (the law: its script; methods with handlers: their table) ===== -/
abbrev MiP : Type := MiG → State → Array Value → (Nat → Prop) → Code → Prop
def SimP (P : MiP) (μ : MiI) (pc : Nat) (ls st : List MiV) (M : MiM) (o : Option MiO) : Prop :=
  ∀ r, o = some r → mi_le M r.2 ∧ ∀ (gl : MiG) (p : Program) (l : Launch) (e : Env) (R : Room) (s : State) (m : MethodId) (args : Array Value) (below : List Frame) (meth : Method) (c : Code) (A : Nat → Prop), mi_cx μ gl p l R s m args meth c A → P gl s args A c →
    ∀ (H : Heap) (locs : List Loc) (cells slots : Nat) (lsA : Array Slot) (stA : List Value) (ad ad0 : Nat → Int → Nat) (cn0 : Nat → Int) (k0 n0 : Int), mi_S gl μ.2.2.1 R s A ls st M r H locs cells slots lsA stA ad ad0 cn0 k0 n0 →
      W p l e R s m args below meth c H locs cells slots (vx_MQ below (mi_q gl A ad0 cn0 r) (mi_x gl A ad0 cn0 r) args s R.cells R.slots A) (F0 m pc lsA stA)
def MiStepP (P : MiP) (μ : MiI) (pc : Nat) (ls st : List MiV) (M : MiM) (pc' : Nat) (ls' st' : List MiV) : Prop :=
  ∀ (gl : MiG) (p : Program) (l : Launch) (e : Env) (R : Room) (s : State) (m : MethodId) (args : Array Value) (below : List Frame) (meth : Method) (c : Code) (A : Nat → Prop), mi_cx μ gl p l R s m args meth c A → P gl s args A c →
    ∀ (H : Heap) (locs : List Loc) (cells slots : Nat) (lsA : Array Slot) (stA : List Value) (ad : Nat → Int → Nat) (Q : State → Prop), va_S A s.heap H locs → mi_rp gl A ad M H → mi_lr ad M.2.2 μ.2.2.1 ls lsA → mi_sr ad M.2.2 st stA →
      (∀ lsA' stA', mi_lr ad M.2.2 μ.2.2.1 ls' lsA' → mi_sr ad M.2.2 st' stA' → W p l e R s m args below meth c H locs cells slots Q (F0 m pc' lsA' stA')) → W p l e R s m args below meth c H locs cells slots Q (F0 m pc lsA stA)
section MiLaw
variable {P : MiP} {μ μ' : MiI} {pc pc' : Nat} {ls st ls' st' args : List MiV} {M M' : MiM} {o : Option MiO}
theorem MiStep.toP (h : MiStep μ pc ls st M pc' ls' st') : MiStepP P μ pc ls st M pc' ls' st' := fun gl p l e R s m args below meth c A C _ => h gl p l e R s m args below meth c A C
theorem SimP.ofSim (h : Sim μ pc ls st M o) : SimP P μ pc ls st M o := fun r hr => ⟨(h r hr).1, fun gl p l e R s m args below meth c A C _ => (h r hr).2 gl p l e R s m args below meth c A C⟩
theorem SimP.goP (h : MiStepP P μ pc ls st M pc' ls' st') (k : SimP P μ pc' ls' st' M o) : SimP P μ pc ls st M o := by
  intro r hr
  obtain ⟨hle, K⟩ := k r hr
  refine ⟨hle, fun gl p l e R s m args below meth c A C HP H locs cells slots lsA stA ad ad0 cn0 k0 n0 S => ?_⟩
  obtain ⟨s1, s2, s3, s4, s5⟩ := S
  exact h gl p l e R s m args below meth c A C HP H locs cells slots lsA stA ad _ s1 s2 s3 s4 fun lsA' stA' hL hT => K gl p l e R s m args below meth c A C HP H locs cells slots lsA' stA' ad ad0 cn0 k0 n0 ⟨s1, s2, hL, hT, s5⟩
theorem SimP.goM (h : MiStepM μ pc ls st M pc' ls' st' M') (k : SimP P μ pc' ls' st' M' o) : SimP P μ pc ls st M o := by
  intro r hr
  obtain ⟨hle, K⟩ := k r hr
  obtain ⟨⟨c1, c2, c3⟩, h⟩ := h
  refine ⟨⟨fun q => by rw [← c1]; exact hle.1 q, by rw [← c2]; exact hle.2.1, by rw [← c3]; exact hle.2.2⟩, fun gl p l e R s m args below meth c A C HP H locs cells slots lsA stA ad ad0 cn0 k0 n0 S => ?_⟩
  obtain ⟨s1, s2, s3, s4, s5, s6, s7, s8, s9⟩ := S
  exact h gl p l e R s m args below meth c A C H locs cells slots lsA stA ad _ s1 s2 s3 s4 fun lsA' stA' H' locs' hS hR hL hT => K gl p l e R s m args below meth c A C HP H' locs' cells slots lsA' stA' ad ad0 cn0 k0 n0 ⟨hS, hR, hL, hT, s5, fun r => by rw [c1]; exact s6 r, by rw [c2]; exact s7, by rw [c3]; exact s8, s9⟩
theorem SimP.goA {r n : Nat} (h : MiStepA μ pc ls st M pc' ls' st' r n) (hn : 0 ≤ M.2.2 r) (hr : mi_rk r < 9) (k : SimP P μ pc' ls' st' (mi_nw M r n) o) : SimP P μ pc ls st M o := by
  intro q hq
  obtain ⟨hle, K⟩ := k q hq
  obtain ⟨l1, l2, l3⟩ := hle
  rw [mi_nw_0] at l2
  rw [mi_nw_1] at l3
  refine ⟨⟨fun t => Int.le_trans (mi_nw_cn t) (l1 t), by omega, by omega⟩, fun gl p l e R s m args below meth c A C HP H locs cells slots lsA stA ad ad0 cn0 k0 n0 S => ?_⟩
  obtain ⟨s1, s2, s3, s4, s5, s6, s7, s8, s9, s10⟩ := S
  refine h ⟨hn, hr⟩ gl p l e R s m args below meth c A C H locs cells slots lsA stA ad _ s1 s2 s3 s4 (by omega) (by omega) fun lsA' stA' H' hS hR hL hT => K gl p l e R s m args below meth c A C HP H' locs (cells + 1) (slots + n) lsA' stA' (mi_na ad r (M.2.2 r) H.size) ad0 cn0 k0 n0 ⟨hS, hR, hL, hT, fun t x a b => (mi_na_ext (cn := M.2.2) t x a (Int.lt_of_lt_of_le b (s6 t))).trans (s5 t x a b), fun t => Int.le_trans (s6 t) (mi_nw_cn t), by rw [mi_nw_0]; omega, by rw [mi_nw_1]; omega, s9, s10⟩
/-- what catches an exception of kind k that comes out of a call at pc: the row's handler (its own end follows) -/
def MiCatch (μ : MiI) (pc : Nat) (k : Nat) (h : Nat) : Prop := ∃ (hh : List (Nat × Nat × Nat × Nat)) (pre : List ExceptionTableEntry) (x : ExceptionTableEntry) (suf : List ExceptionTableEntry) (nm : String), μ.2.2.2.2.2 = some hh ∧ tableOf hh = pre ++ x :: suf ∧
  (∀ z ∈ pre, covers z pc = false ∨ (z.catchType ≠ 0 ∧ ∃ nm' : String, Cond.classLink μ.1.cls z.catchType nm' ∈ mi_tb ∧ (mi_exn k, nm') ∈ mi_ncL)) ∧ covers x pc = true ∧ x.catchType ≠ 0 ∧ x.handlerPc = h ∧ Cond.classLink μ.1.cls x.catchType nm ∈ mi_tb ∧ Cond.castable (mi_exn k) nm ∈ mi_nest
/-- a handler that lays the exception aside and answers z -/
def MiHand (μ : MiI) (h : Nat) (z : Int) : Prop := μ.2.2.2.1 = some .int ∧ ∃ (h1 : Nat) (n : Int), (Int32.ofInt n).toInt = z ∧ ((∃ (i : Nat), decode μ.2.1 h = .ok (.astore i, 2) ∧ h1 = h + 2 ∧ i < μ.2.2.1) ∨ ∃ i : Fin 4, decode μ.2.1 h = .ok (.astore_n i, 1) ∧ h1 = h + 1 ∧ (i : Nat) < μ.2.2.1) ∧ decode μ.2.1 h1 = .ok (.iconst n, 1) ∧ decode μ.2.1 (h1 + 1) = .ok (.ireturn, 1)
theorem mi_cst {a b : String} {args args' : Array Value} {s : State} (h : (Cond.castable a b).before args s = true) : (Cond.castable a b).before args' s = true := by
  unfold Cond.before Cond.holds at h ⊢
  simp only [Cond.value] at h ⊢
  exact h
/-- the table's words are those of the method -/
def mi_tP (μ : MiI) : MiP := fun _ _ _ _ c => ∀ hh, μ.2.2.2.2.2 = some hh → c.exceptionTable.toList = tableOf hh
theorem SimP.call {r' : MiO} (hI : MiInv μ pc μ' args) (hM : MC μ' args M r') (hW : mi_cs st ≤ 8) (k : r'.1.1 ≠ 2 → SimP P μ (pc + 3) ls (mi_rs r'.1 ++ st) r'.2 o)
    (kx : r'.1.1 = 2 → (∀ r, o = some r → mi_le r'.2 r.2) ∧ ∀ r, o = some r → ∀ (gl : MiG) (p : Program) (l : Launch) (e : Env) (R : Room) (s : State) (m : MethodId) (argsA : Array Value) (below : List Frame) (meth : Method) (c : Code) (A : Nat → Prop), mi_cx μ gl p l R s m argsA meth c A → P gl s argsA A c →
      ∀ (H : Heap) (locs : List Loc) (cells slots : Nat) (lsA : Array Slot) (rest : List Value) (ad ad0 : Nat → Int → Nat) (cn0 : Nat → Int) (k0 n0 : Int) (q : Addr) (ce : Cell), mi_S gl μ.2.2.1 R s A ls [] r'.2 r H locs cells slots lsA [] ad ad0 cn0 k0 n0 → H[q]? = some ce → ce.vm = .none → s.vm.findClass (mi_exn r'.1.2.1) = some ce.cls →
        vx_W p l e R s m argsA below meth c H locs cells slots (vx_MQ below (mi_q gl A ad0 cn0 r) (mi_x gl A ad0 cn0 r) argsA s R.cells R.slots A) (F0 m pc lsA rest) q) : SimP P μ pc ls (args.reverse ++ st) M o := by
  intro r hr
  obtain ⟨hle', hMet⟩ := hM
  have hl1 := hle'.2.1
  have hl2 := hle'.2.2
  have hle : mi_le r'.2 r.2 := by
    by_cases h2 : r'.1.1 = 2
    · exact (kx h2).1 r hr
    · exact (k h2 r hr).1
  have hl3 := hle.2.1
  have hl4 := hle.2.2
  refine ⟨hle'.trans hle, fun gl p l e R s m argsA below meth c A C HP H locs cells slots lsA stA ad ad0 cn0 k0 n0 S => ?_⟩
  obtain ⟨s1, s2, s3, s4, s5, s6, s7, s8, s9, s10⟩ := S
  obtain ⟨u, rest, rfl, hu, hrest⟩ := mi_sr_app s4
  have hv := mi_sr_rev hu
  rw [List.reverse_reverse] at hv
  have hkc : ((mi_kc M r' : Nat) : Int) = r'.2.1 0 0 0 - M.1 0 0 0 := by unfold mi_kc; omega
  have hks : ((mi_ks M r' : Nat) : Int) = r'.2.1 0 0 1 - M.1 0 0 1 := by unfold mi_ks; omega
  have hrun := hI gl p l e R s m argsA below meth c A C H locs cells slots lsA u.reverse rest ad M _ _ _ (mi_kc M r') (mi_ks M r') (mi_rm μ' M r') s2 s1 hv s3.1 (hMet gl l A ad C.2.2.2.2.2.2.2.2.2.2.1) rfl rfl rfl rfl mi_pc_blind
    (fun U hU hWU => ⟨u.reverse, rfl, hv, by rw [hU]; exact s2, C.2.2.2.2.2.2.2.2.1.warm hWU (fun a h1 h2 => by rw [hU]; exact s1.2.1 a h1 h2), fun q hq => C.2.2.2.2.2.2.2.2.2.1 q (Nat.le_trans s1.1 (by rw [← hU]; exact hq))⟩) (by rw [mi_cs_eq hrest]; exact hW) ⟨by omega, by omega⟩
  rw [List.reverse_reverse] at hrun
  intro T hT X
  rcases hrun T hT X with ⟨v, st₀, t, T', L, h0, X', hL, e1, e2, hQ, hgo⟩ | ⟨q, st₀, t, T', L, E, ce, h0, X', hL, e1, e2, hQ, hce, hcv, hcl, hst⟩
  · obtain ⟨ad', v', hv', hrv, hext, hrp, hF⟩ := hQ
    cases hv'
    obtain ⟨k1, k2, k3⟩ := vx_keep h0 e1 s1 (fun _ _ z => z) (fun _ z => z) hL hF
    have hne : r'.1.1 ≠ 2 := by
      rcases hrv with ⟨z, -⟩ | ⟨z, -⟩ <;> omega
    have hstk : mi_sr ad' r'.2.2.2 (mi_rs r'.1 ++ st) (v.toList ++ rest) := by
      unfold mi_rs
      rcases hrv with ⟨z, rfl⟩ | ⟨z, w, rfl, hw⟩
      · rw [if_neg (by omega)]
        exact hrest.mono hext hle'.1
      · rw [if_pos z]
        exact ⟨hw, hrest.mono hext hle'.1⟩
    obtain ⟨t2, a1, b1⟩ := (k hne r hr).2 gl p l e R s m argsA below meth c A C HP T'.heap (locs ++ L) (cells + mi_kc M r') (slots + mi_ks M r') lsA (v.toList ++ rest) ad' ad0 cn0 k0 n0
      ⟨k3, by rw [e1]; exact hrp, s3.mono hext hle'.1, hstk, fun t x a b => (hext t x a (Int.lt_of_lt_of_le b (s6 t))).trans (s5 t x a b), fun t => Int.le_trans (s6 t) (hle'.1 t), by omega, by omega, s9, s10⟩ T' rfl X'
    exact ⟨t2, hgo t2 a1, b1⟩
  · obtain ⟨x1, rfl, ad', hext, hrp, hF⟩ := hQ
    obtain ⟨k1, k2, k3⟩ := vx_keep h0 e1 s1 (fun _ _ z => z) (fun _ z => z) hL hF
    obtain ⟨t2, a1, b1⟩ := (kx x1).2 r hr gl p l e R s m argsA below meth c A C HP T'.heap (locs ++ L) (cells + mi_kc M r') (slots + mi_ks M r') lsA rest ad' ad0 cn0 k0 n0 q ce
      ⟨k3, by rw [e1]; exact hrp, s3.mono hext hle'.1, trivial, fun t x a b => (hext t x a (Int.lt_of_lt_of_le b (s6 t))).trans (s5 t x a b), fun t => Int.le_trans (s6 t) (hle'.1 t), by omega, by omega, s9, s10⟩ (by rw [e1]; exact hce) hcv hcl T' rfl X'
    exact ⟨t2, hst.trans a1, b1⟩
end MiLaw
def SgP {α : Type} (P : MiP) (μ : MiI) (pc : Nat) (ls st : List MiV) (M : MiM) (L : α → MiO) (o : Option α) : Prop := ∀ a, o = some a → SimP P μ pc ls st M (some (L a))
section SgPRows
variable {P : MiP} {α : Type} {μ μ' : MiI} {pc pc' : Nat} {ls st ls' st' args : List MiV} {M M' : MiM} {L : α → MiO} {o : Option α}
theorem SgP.nope : SgP P μ pc ls st M L Option.none := fun a h => by cases h
theorem SgP.ite {c : Prop} [Decidable c] {a b : Option α} (ha : c → SgP P μ pc ls st M L a) (hb : ¬ c → SgP P μ pc ls st M L b) : SgP P μ pc ls st M L (if c then a else b) := by
  by_cases h : c
  · rw [if_pos h]; exact ha h
  · rw [if_neg h]; exact hb h
theorem SgP.ck {c : Prop} [Decidable c] {a : Option α} (h : c → SgP P μ pc ls st M L a) : SgP P μ pc ls st M L (if c then a else Option.none) := SgP.ite h fun _ => SgP.nope
theorem SgP.rq {c : Prop} {a : Option α} (h : c → SgP P μ pc ls st M L a) : SgP P μ pc ls st M L (mi_req c a) := by
  intro b hb
  by_cases hc : c
  · rw [mi_req_t hc] at hb; exact h hc b hb
  · unfold mi_req at hb; rw [if_neg hc] at hb; cases hb
theorem SgP.goP (h : MiStepP P μ pc ls st M pc' ls' st') (k : SgP P μ pc' ls' st' M L o) : SgP P μ pc ls st M L o := fun a ha => SimP.goP h (k a ha)
theorem SgP.go (h : MiStep μ pc ls st M pc' ls' st') (k : SgP P μ pc' ls' st' M L o) : SgP P μ pc ls st M L o := fun a ha => SimP.goP h.toP (k a ha)
theorem SgP.goM (h : MiStepM μ pc ls st M pc' ls' st' M') (k : SgP P μ pc' ls' st' M' L o) : SgP P μ pc ls st M L o := fun a ha => SimP.goM h (k a ha)
theorem SgP.goA {r n : Nat} (h : MiStepA μ pc ls st M pc' ls' st' r n) (hn : 0 ≤ M.2.2 r) (hr : mi_rk r < 9) (k : SgP P μ pc' ls' st' (mi_nw M r n) L o) : SgP P μ pc ls st M L o := fun a ha => SimP.goA h hn hr (k a ha)
theorem SgP.ret {a : α} (h : Sim μ pc ls st M (some (L a))) : SgP P μ pc ls st M L (some a) := fun b hb => by cases hb; exact SimP.ofSim h
/-- a callee that answers -/
theorem SgP.call {r' : MiO} (hI : MiInv μ pc μ' args) (hM : MC μ' args M r') (hnt : r'.1.1 ≠ 2) (hW : mi_cs st ≤ 8) (k : SgP P μ (pc + 3) ls (mi_rs r'.1 ++ st) r'.2 L o) (he : args.reverse ++ st = st') : SgP P μ pc ls st' M L o := fun a ha => by
  rw [← he]
  exact SimP.call hI hM hW (fun _ => k a ha) (fun h => absurd h hnt)
/-- a callee whose throw is caught here, and answered -/
theorem SgP.callH {r' : MiO} {h : Nat} {z : Int} {a : α} (hI : MiInv μ pc μ' args) (hM : MC μ' args M r') (hx : r'.1.1 = 2) (hW : mi_cs st ≤ 8) (he : args.reverse ++ st = st') (hP : ∀ gl s a A c, P gl s a A c → mi_tP μ gl s a A c) (hc : MiCatch μ pc r'.1.2.1 h) (hh : MiHand μ h z) (hL : L a = ((1, (0, z)), r'.2)) : SgP P μ pc ls st' M L (some a) := by
  intro b hb
  cases hb
  rw [← he, hL]
  refine SimP.call hI hM hW (fun h2 => absurd hx h2) fun _ => ⟨fun r hr => by cases hr; exact mi_le.refl _, fun r hr gl p l e R s m argsA below meth c A C HP H locs cells slots lsA rest ad ad0 cn0 k0 n0 q ce S hce hcv hcl => ?_⟩
  cases hr
  obtain ⟨tb, pre, x, suf, nm, h1, h2, h3, h4, h5, h6, h7, h8⟩ := hc
  have hts := C.2.2.2.2.2.2.2.1
  have hown := C.2.2.2.2.2.1
  have hk := C.2.2.2.2.2.2.2.2.1
  obtain ⟨s1, s2, s3, s4, s5, s6, s7, s8, s9, s10⟩ := S
  refine vx_catch (name := nm) hown pre x suf (by rw [hP gl s argsA A c HP tb h1, h2]) (fun y hy => ?_) h4 h5 (hts _ h7) (mi_cst (hk.2.1.2.2.2.2.2.2.2.2.2.2.2.2.2.2 _ h8)) hce hcv hcl ?_
  · rcases h3 y hy with g | ⟨g1, nm', g2, g3⟩
    · exact Or.inl g
    · exact Or.inr ⟨g1, nm', hts _ g2, hk.2.2.2.1 _ g3⟩
  · obtain ⟨hret, hp1, nz, hz, hst, hd1, hd2⟩ := hh
    rw [h6]
    dsimp only at s9 s10
    have e1 : R.cells = cells := by omega
    have e2 : R.slots = slots := by omega
    have fin : ∀ lsB : Array Slot, W p l e R s m argsA below meth c H locs cells slots (vx_MQ below (mi_q gl A ad0 cn0 ((1, (0, z)), r'.2)) (mi_x gl A ad0 cn0 ((1, (0, z)), r'.2)) argsA s R.cells R.slots A) (F0 m hp1 lsB []) := fun lsB => by
      refine lv_iconst C.1 C.2.1 hd1 rfl ?_
      rw [e1, e2]
      exact vx_ret (W.iret C.1 C.2.1 (C.2.2.2.1.trans hret) (fun t ht hW => ⟨ad, _, rfl, Or.inr ⟨rfl, _, rfl, _, rfl, hz⟩, s5, by rw [ht]; exact s2, s1.F ht⟩) s1.2.2 hd2 C.2.2.2.2.1)
    rcases hst with ⟨i, hd, rfl, hi⟩ | ⟨i, hd, rfl, hi⟩
    · exact lv_astore C.1 C.2.1 hd (mi_al_has s3.1 s3.2.1) hi rfl fun lsB _ => fin lsB
    · exact lv_astore_n C.1 C.2.1 hd rfl (mi_al_has s3.1 s3.2.1) hi rfl fun lsB _ => fin lsB
end SgPRows
/-- contracts of methods with handlers -/
theorem MC.ofH {α : Type} {μ : MiI} {args : List MiV} {M : MiM} {L : α → MiO} {o : Option α} {tb : List (Nat × Nat × Nat × Nat)} (hh : μ.2.2.2.2.2 = some tb) (hpl : plainName μ.1.cls = true) (hlen : (mi_el args).length ≤ μ.2.2.1) (h : SgP (mi_tP μ) μ 0 (mi_ent args μ.2.2.1) [] M L o) {a : α} (ha : o = some a) : MC μ args M (L a) := by
  obtain ⟨hle, K⟩ := h a ha _ rfl
  refine ⟨hle, fun gl l A ad hl => ?_⟩
  refine vx_ofWH (cc := μ.2.1) (maxL := μ.2.2.1) (ret := μ.2.2.2.1) (hh := tb) (ws' := mi_tb) hpl (by unfold mi_ws; rw [hh]) ?_
  intro p e s m args' below meth c s₁ B hml hv
  obtain ⟨vals, rfl, hsr, hrp, hk, hA⟩ := hv
  have hts := atoms_spec (ws := mi_ws μ) B.pre
  have hown : s.vm.findClass μ.1.cls = some m.cls := findClass_of_methodNamed B.named
  have hnm : meth.name = μ.1.name := (name_of_methodNamed B.named B.method).1
  have hl1 := hle.2.1
  have hl2 := hle.2.2
  rw [lg_entry_eq]
  exact K gl p l e (mi_rm μ M (L a)) s m _ below meth c A ⟨B.exec, B.bytes, hml, B.returns, B.notSynchronized, hown, hnm, fun w hw => hts w (List.mem_cons_of_mem _ hw), hk, hA, hl, rfl, rfl, fun h0 => by rw [hh] at h0; cases h0⟩
    (fun tb' htb' => by
      rw [hh] at htb'
      cases htb'
      exact vx_table (x := μ.1) B (hts _ (by unfold mi_ws; rw [hh]; exact List.mem_cons_self))) s.heap [] 0 0 _ [] ad ad M.2.2 (M.1 0 0 0) (M.1 0 0 1)
    ⟨va_S.rf, hrp, mi_ent_lr hsr hlen, trivial, fun _ _ _ _ => rfl, fun _ => Int.le_refl _, by omega, by omega, by show ((mi_kc M (L a) : Nat) : Int) = _; unfold mi_kc; omega, by show ((mi_ks M (L a) : Nat) : Int) = _; unfold mi_ks; omega⟩
