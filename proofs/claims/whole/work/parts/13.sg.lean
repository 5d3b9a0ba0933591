/-! ===== answers of any shape: L says what outcome an answer is ===== -/
def Sg {α : Type} (μ : MiI) (pc : Nat) (ls st : List MiV) (M : MiM) (L : α → MiO) (o : Option α) : Prop := ∀ a, o = some a → Sim μ pc ls st M (some (L a))
def mi_let {α β : Type} (a : α) (f : α → β) : β := f a
def mi_bi {α β : Type} (o : Option α) (f : α → Option β) : Option β := match o with | some a => f a | none => none
/-- outcomes: a number (int, long, a reference) with the memory as it was; with new numbers; with a new memory; nothing -/
def mi_LI (t : Nat) (M : MiM) : Int → MiO := fun v => ((1, (t, v)), M)
def mi_LD (t : Nat) (Z : MiZ) : Int × MiD → MiO := fun q => ((1, (t, q.1)), (q.2, Z))
def mi_LV (Z : MiZ) : MiD → MiO := fun D => ((0, (0, 0)), (D, Z))
def mi_LZ (t : Nat) : Int × MiM → MiO := fun q => ((1, (t, q.1)), q.2)
def mi_LW : MiM → MiO := fun M => ((0, (0, 0)), M)
/-- may throw: .inl answered, .inr (k, D) thrown -/
def mi_LT (t : Nat) (Z : MiZ) : (Int × MiD) ⊕ (Nat × MiD) → MiO := fun q => match q with | .inl a => ((1, (t, a.1)), (a.2, Z)) | .inr a => ((2, (a.1, 0)), (a.2, Z))
def mi_LTZ (t : Nat) : (Int × MiM) ⊕ (Nat × MiM) → MiO := fun q => match q with | .inl a => ((1, (t, a.1)), a.2) | .inr a => ((2, (a.1, 0)), a.2)
section SgRows
variable {α : Type} {μ μ' : MiI} {pc pc' : Nat} {ls st ls' st' args : List MiV} {M M' : MiM} {L : α → MiO} {o : Option α}
theorem Sg.nope : Sg μ pc ls st M L Option.none := fun a h => by cases h
theorem Sg.ite {c : Prop} [Decidable c] {a b : Option α} (ha : c → Sg μ pc ls st M L a) (hb : ¬ c → Sg μ pc ls st M L b) : Sg μ pc ls st M L (if c then a else b) := by
  by_cases h : c
  · rw [if_pos h]; exact ha h
  · rw [if_neg h]; exact hb h
theorem Sg.iteS {c : Prop} [Decidable c] {a b : α} (ha : c → Sg μ pc ls st M L (some a)) (hb : ¬ c → Sg μ pc ls st M L (some b)) : Sg μ pc ls st M L (some (if c then a else b)) := by
  by_cases h : c
  · rw [if_pos h]; exact ha h
  · rw [if_neg h]; exact hb h
theorem Sg.go (h : MiStep μ pc ls st M pc' ls' st') (k : Sg μ pc' ls' st' M L o) : Sg μ pc ls st M L o := fun a ha => Sim.go h (k a ha)
theorem Sg.goM (h : MiStepM μ pc ls st M pc' ls' st' M') (k : Sg μ pc' ls' st' M' L o) : Sg μ pc ls st M L o := fun a ha => Sim.goM h (k a ha)
theorem Sg.goA {r n : Nat} (h : MiStepA μ pc ls st M pc' ls' st' r n) (hn : 0 ≤ M.2.2 r) (hr : mi_rk r < 9) (k : Sg μ pc' ls' st' (mi_nw M r n) L o) : Sg μ pc ls st M L o := fun a ha => Sim.goA h hn hr (k a ha)
theorem Sg.ret {a : α} (h : Sim μ pc ls st M (some (L a))) : Sg μ pc ls st M L (some a) := fun b hb => by cases hb; exact h
theorem Sg.llet {β : Type} {t : β} {f : β → Option α} (h : ∀ x, x = t → Sg μ pc ls st M L (f x)) : Sg μ pc ls st M L (mi_let t f) := h t rfl
/-- a test of the answer's own -/
theorem Sg.ck {c : Prop} [Decidable c] {a : Option α} (h : c → Sg μ pc ls st M L a) : Sg μ pc ls st M L (if c then a else Option.none) := Sg.ite h fun _ => Sg.nope
def mi_wk : List MiV → List MiV → Prop
  | [], [] => True
  | a :: l, b :: k => (a = b ∨ a = mi_un) ∧ mi_wk l k
  | _, _ => False
theorem mi_wk_get : ∀ {l k : List MiV}, mi_wk l k → ∀ (i : Nat) (v : MiV), l[i]? = some v → v.1 ≠ 9999 → k[i]? = some v
  | [], [], _, i, v, h, _ => by simp at h
  | [], _ :: _, h, _, _, _, _ => h.elim
  | _ :: _, [], h, _, _, _, _ => h.elim
  | a :: l, b :: k, h, 0, v, hv, hu => by
    cases hv
    rcases h.1 with rfl | rfl
    · rfl
    · exact absurd rfl hu
  | a :: l, b :: k, h, i + 1, v, hv, hu => mi_wk_get h.2 i v hv hu
/-- locals forgotten -/
theorem MiStep.weak (h : mi_wk ls' ls) : MiStep μ pc ls st M pc ls' st := by
  intro gl p l e R s m args below meth c A C H locs cells slots lsA stA ad Q hS hR hL hT k
  exact k lsA stA ⟨hL.1, hL.2.1, fun i v hi hv => hL.2.2 i v (mi_wk_get h i v hi hv) hv⟩ hT
/-- a callee that answers -/
theorem Sg.call {r' : MiO} (hI : MiInv μ pc μ' args) (hM : MC μ' args M r') (hnt : r'.1.1 < 2) (hW : mi_cs st ≤ 8) (k : Sg μ (pc + 3) ls (mi_rs r'.1 ++ st) r'.2 L o) (he : args.reverse ++ st = st') : Sg μ pc ls st' M L o := fun a ha => by rw [← he]; exact Sim.call hI hM hnt hW (k a ha)
/-- one that may have no answer, and gives a number, a number and new numbers, .. -/
theorem Sg.callB {β : Type} {ob : Option β} {L' : β → MiO} {f : β → Option α} (hI : MiInv μ pc μ' args) (hM : ∀ b, ob = some b → MC μ' args M (L' b)) (hnt : ∀ b, (L' b).1.1 < 2) (hW : mi_cs st ≤ 8) (he : args.reverse ++ st = st') (k : ∀ b, Sg μ (pc + 3) ls (mi_rs (L' b).1 ++ st) (L' b).2 L (f b)) : Sg μ pc ls st' M L (mi_bi ob f) := by
  intro a ha
  match ob, ha, hM with
  | some b, ha, hM => rw [← he]; exact Sim.call hI (hM b rfl) (hnt b) hW (k b a ha)
/-- contracts out of walks -/
theorem MC.ofSg (hh : μ.2.2.2.2.2 = Option.none) (hpl : plainName μ.1.cls = true) (hlen : (mi_el args).length ≤ μ.2.2.1) (h : Sg μ 0 (mi_ent args μ.2.2.1) [] M L o) {a : α} (ha : o = some a) : MC μ args M (L a) := MC.of hh hpl hlen (h a ha)
theorem mi_fvL {r k t : Nat} {x v : Int} (ht : mi_rt r k = t + 2) (h : M.2.1 r x k = v) : mi_fv M r x k = (t + 2, v) := by
  unfold mi_fv
  rw [ht, if_neg (by omega), h]
theorem mi_fv0 {r k : Nat} {x : Int} (ht : mi_rt r k = 0) : mi_fv M r x k = (0, M.1 r x k) := by
  unfold mi_fv
  rw [ht, if_pos (by decide)]
theorem mi_fv1 {r k : Nat} {x : Int} (ht : mi_rt r k = 1) : mi_fv M r x k = (1, M.1 r x k) := by
  unfold mi_fv
  rw [ht, if_pos (by decide)]
end SgRows
def mi_b2 {β : Type} (o : Option (Int × MiD)) (f : Int → MiD → Option β) : Option β := mi_bi o (fun a => f a.1 a.2)
def mi_b3 {β : Type} (o : Option (Int × MiM)) (f : Int → MiD → MiZ → Option β) : Option β := mi_bi o (fun a => f a.1 a.2.1 a.2.2)
def mi_bw {β : Type} (o : Option MiM) (f : MiD → MiZ → Option β) : Option β := mi_bi o (fun a => f a.1 a.2)
def mi_bt {γ : Type} (o : Option ((Int × MiD) ⊕ (Nat × MiD))) (t : Nat × MiD → γ) (f : Int → MiD → Option γ) : Option γ := match o with | some (.inl a) => f a.1 a.2 | some (.inr b) => some (t b) | none => none
section SgCalls
variable {α : Type} {μ μ' : MiI} {pc pc' : Nat} {ls st ls' st' args : List MiV} {D : MiD} {Z : MiZ} {L : α → MiO} {o : Option α}
theorem Sg.callP {t : Nat} {v : Int} (hI : MiInv μ pc μ' args) (hM : MC μ' args (D, Z) (mi_LI t (D, Z) v)) (hW : mi_cs st ≤ 8) (he : args.reverse ++ st = st') (hp : pc + 3 = pc') (k : Sg μ pc' ls ((t, v) :: st) (D, Z) L o) : Sg μ pc ls st' (D, Z) L o := by
  subst hp
  exact Sg.call hI hM (by show 1 < 2; decide) hW k he
theorem Sg.callI {t : Nat} {ob : Option Int} {f : Int → Option α} (hI : MiInv μ pc μ' args) (hM : ∀ v, ob = some v → MC μ' args (D, Z) (mi_LI t (D, Z) v)) (hW : mi_cs st ≤ 8) (he : args.reverse ++ st = st') (hp : pc + 3 = pc') (k : ∀ v, Sg μ pc' ls ((t, v) :: st) (D, Z) L (f v)) : Sg μ pc ls st' (D, Z) L (mi_bi ob f) := by
  subst hp
  exact Sg.callB hI hM (fun _ => by show 1 < 2; decide) hW he k
theorem Sg.callV {ob : Option MiD} {f : MiD → Option α} (hI : MiInv μ pc μ' args) (hM : ∀ v, ob = some v → MC μ' args (D, Z) (mi_LV Z v)) (hW : mi_cs st ≤ 8) (he : args.reverse ++ st = st') (hp : pc + 3 = pc') (k : ∀ D', Sg μ pc' ls st (D', Z) L (f D')) : Sg μ pc ls st' (D, Z) L (mi_bi ob f) := by
  subst hp
  exact Sg.callB hI hM (fun _ => by show 0 < 2; decide) hW he k
theorem Sg.callD {t : Nat} {ob : Option (Int × MiD)} {f : Int → MiD → Option α} (hI : MiInv μ pc μ' args) (hM : ∀ v, ob = some v → MC μ' args (D, Z) (mi_LD t Z v)) (hW : mi_cs st ≤ 8) (he : args.reverse ++ st = st') (hp : pc + 3 = pc') (k : ∀ v D', Sg μ pc' ls ((t, v) :: st) (D', Z) L (f v D')) : Sg μ pc ls st' (D, Z) L (mi_b2 ob f) := by
  subst hp
  exact Sg.callB (f := fun q => f q.1 q.2) hI hM (fun _ => by show 1 < 2; decide) hW he (fun b => k b.1 b.2)
theorem Sg.callZ {t : Nat} {ob : Option (Int × MiM)} {f : Int → MiD → MiZ → Option α} (hI : MiInv μ pc μ' args) (hM : ∀ v, ob = some v → MC μ' args (D, Z) (mi_LZ t v)) (hW : mi_cs st ≤ 8) (he : args.reverse ++ st = st') (hp : pc + 3 = pc') (k : ∀ v D' Z', Sg μ pc' ls ((t, v) :: st) (D', Z') L (f v D' Z')) : Sg μ pc ls st' (D, Z) L (mi_b3 ob f) := by
  subst hp
  exact Sg.callB (f := fun q => f q.1 q.2.1 q.2.2) hI hM (fun _ => by show 1 < 2; decide) hW he (fun b => k b.1 b.2.1 b.2.2)
theorem Sg.callW {ob : Option MiM} {f : MiD → MiZ → Option α} (hI : MiInv μ pc μ' args) (hM : ∀ v, ob = some v → MC μ' args (D, Z) (mi_LW v)) (hW : mi_cs st ≤ 8) (he : args.reverse ++ st = st') (hp : pc + 3 = pc') (k : ∀ D' Z', Sg μ pc' ls st (D', Z') L (f D' Z')) : Sg μ pc ls st' (D, Z) L (mi_bw ob f) := by
  subst hp
  exact Sg.callB (f := fun q => f q.1 q.2) hI hM (fun _ => by show 0 < 2; decide) hW he (fun b => k b.1 b.2)
end SgCalls
