/-! ===== ends of a method; its contract ===== -/
section MiEnds
variable {μ : MiI} {pc : Nat} {ls st : List MiV} {M : MiM}
theorem mi_room {R : Room} {cells : Nat} {a k : Int} (h1 : (cells : Int) = a - k) (h2 : (R.cells : Int) = a - k) : R.cells = cells := by omega
theorem fb_bm {z : Int} (h1 : -128 ≤ z) (h2 : z < 128) : z.bmod (2 ^ 8) = z := by
  rw [Int.bmod_eq_of_le] <;> omega
theorem mi_ireturn {x : Int} {ty : FieldType} (hdg : decode μ.2.1 pc = .ok (.ireturn, 1)) (hret : μ.2.2.2.1 = some ty) (hty : ty = .int ∨ (ty = .boolean ∧ (x = 0 ∨ x = 1)) ∨ (ty = .char ∧ 0 ≤ x ∧ x < 65536) ∨ (ty = .byte ∧ -128 ≤ x ∧ x < 128)) : Sim μ pc ls [(0, x)] M (some ((1, (0, x)), M)) := by
  intro r hr
  cases hr
  refine ⟨mi_le.refl _, fun gl p l e R s m args below meth c A C H locs cells slots lsA stA ad ad0 cn0 k0 n0 S => ?_⟩
  obtain ⟨s1, s2, s3, s4, s5, s6, s7, s8, s9, s10⟩ := S
  have hT_ := s4.cons
  clear s4
  obtain ⟨_, k', rfl, ⟨i, rfl, hi⟩, s4⟩ := hT_
  have hk' : k' = [] := by cases k' with | nil => rfl | cons a b => exact s4.elim
  subst hk'
  dsimp only at s9 s10
  have e1 : R.cells = cells := by omega
  have e2 : R.slots = slots := by omega
  have hn : narrow ty (.int i) = .int i := by
    rcases hty with rfl | ⟨rfl, h⟩ | ⟨rfl, h1, h2⟩ | ⟨rfl, h1, h2⟩
    · rfl
    · rcases h with h | h
      · have : i = 0 := Int32.toInt_inj.mp (hi.trans h)
        subst this; rfl
      · have : i = 1 := Int32.toInt_inj.mp (hi.trans h)
        subst this; rfl
    · have h3 : i = nI i.toInt.toNat := Int32.toInt_inj.mp (by rw [nI_toInt (by omega)]; omega)
      rw [h3]
      exact (pk_charN (by omega)).1
    · show Value.int i.toInt8.toInt32 = Value.int i
      rw [show i.toInt8.toInt32 = i from Int32.toInt_inj.mp (by rw [Int8.toInt_toInt32, Int32.toInt_toInt8]; exact fb_bm (by omega) (by omega))]
  rw [e1, e2]
  exact vx_ret (W.zret C.1 C.2.1 (C.2.2.2.1.trans hret) hn (fun t ht hW => ⟨ad, _, rfl, Or.inr ⟨rfl, _, rfl, _, rfl, hi⟩, s5, by rw [ht]; exact s2, s1.F ht⟩) s1.2.2 hdg C.2.2.2.2.1)
theorem mi_lreturn {x : Int} (hdg : decode μ.2.1 pc = .ok (.lreturn, 1)) (hret : μ.2.2.2.1 = some .long) : Sim μ pc ls [(1, x)] M (some ((1, (1, x)), M)) := by
  intro r hr
  cases hr
  refine ⟨mi_le.refl _, fun gl p l e R s m args below meth c A C H locs cells slots lsA stA ad ad0 cn0 k0 n0 S => ?_⟩
  obtain ⟨s1, s2, s3, s4, s5, s6, s7, s8, s9, s10⟩ := S
  have hT_ := s4.cons
  clear s4
  obtain ⟨_, k', rfl, ⟨i, rfl, hi⟩, s4⟩ := hT_
  have hk' : k' = [] := by cases k' with | nil => rfl | cons a b => exact s4.elim
  subst hk'
  dsimp only at s9 s10
  have e1 : R.cells = cells := by omega
  have e2 : R.slots = slots := by omega
  rw [e1, e2]
  exact vx_ret (W.lret C.1 C.2.1 (C.2.2.2.1.trans hret) (fun t ht hW => ⟨ad, _, rfl, Or.inr ⟨rfl, _, rfl, _, rfl, hi⟩, s5, by rw [ht]; exact s2, s1.F ht⟩) s1.2.2 hdg C.2.2.2.2.1)
theorem mi_areturn {q : Nat} {x : Int} {ty : FieldType} (hdg : decode μ.2.1 pc = .ok (.areturn, 1)) (hret : μ.2.2.2.1 = some ty) (hty : (∃ n, ty = .object n) ∨ ∃ t, ty = .array t) : Sim μ pc ls [(q + 2, x)] M (some ((1, (q + 2, x)), M)) := by
  intro r hr
  cases hr
  refine ⟨mi_le.refl _, fun gl p l e R s m args below meth c A C H locs cells slots lsA stA ad ad0 cn0 k0 n0 S => ?_⟩
  obtain ⟨s1, s2, s3, s4, s5, s6, s7, s8, s9, s10⟩ := S
  have hT_ := s4.cons
  clear s4
  obtain ⟨w, k', rfl, hi, s4⟩ := hT_
  have hk' : k' = [] := by cases k' with | nil => rfl | cons a b => exact s4.elim
  subst hk'
  dsimp only at s9 s10
  have e1 : R.cells = cells := by omega
  have e2 : R.slots = slots := by omega
  rw [e1, e2]
  have hw : w = .null ∨ ∃ a, w = .ref a := by
    rcases hi with ⟨-, h⟩ | ⟨-, -, h⟩
    · exact Or.inl h
    · exact Or.inr ⟨_, h⟩
  exact vx_ret (W.aret C.1 C.2.1 (C.2.2.2.1.trans hret) hty hw (fun t ht hW => ⟨ad, _, rfl, Or.inr ⟨rfl, _, rfl, hi⟩, s5, by rw [ht]; exact s2, s1.F ht⟩) s1.2.2 hdg C.2.2.2.2.1)
theorem mi_return (hdg : decode μ.2.1 pc = .ok (.return_, 1)) (hret : μ.2.2.2.1 = none) (v : MiV) : Sim μ pc ls [] M (some ((0, v), M)) := by
  intro r hr
  cases hr
  refine ⟨mi_le.refl _, fun gl p l e R s m args below meth c A C H locs cells slots lsA stA ad ad0 cn0 k0 n0 S => ?_⟩
  obtain ⟨s1, s2, s3, s4, s5, s6, s7, s8, s9, s10⟩ := S
  have hk' : stA = [] := by cases stA with | nil => rfl | cons a b => exact s4.elim
  subst hk'
  dsimp only at s9 s10
  have e1 : R.cells = cells := by omega
  have e2 : R.slots = slots := by omega
  rw [e1, e2]
  exact vx_ret (W.vret C.1 C.2.1 (C.2.2.2.1.trans hret) (fun t ht hW => ⟨ad, _, rfl, Or.inl ⟨rfl, rfl⟩, s5, by rw [ht]; exact s2, s1.F ht⟩) s1.2.2 hdg C.2.2.2.2.1)
end MiEnds
/-- a contract: the method, with these arguments over this memory, comes to this outcome -/
def mi_ws (μ : MiI) : List Cond := (match μ.2.2.2.2.2 with | none => Cond.code μ.1 μ.2.1 μ.2.2.1 μ.2.2.2.1 | some hh => Cond.codeWith μ.1 μ.2.1 μ.2.2.1 μ.2.2.2.1 hh) :: mi_tb
def mi_kc (M : MiM) (r : MiO) : Nat := (r.2.1 0 0 0 - M.1 0 0 0).toNat
def mi_ks (M : MiM) (r : MiO) : Nat := (r.2.1 0 0 1 - M.1 0 0 1).toNat
def mi_rm (μ : MiI) (M : MiM) (r : MiO) : Room := { frames := μ.2.2.2.2.1, cells := mi_kc M r, slots := mi_ks M r, locals := 40 * μ.2.2.2.2.1 }
def mi_pc (gl : MiG) (A : Nat → Prop) (ad : Nat → Int → Nat) (args : List MiV) (M : MiM) : Array Value → State → Prop := fun v U => ∃ vals : List Value, v = vals.toArray ∧ mi_sr ad M.2.2 args vals ∧ mi_rp gl A ad M U.heap ∧ mi_k gl A U ∧ ∀ q : Nat, U.heap.size ≤ q → A q
def MC (μ : MiI) (args : List MiV) (M : MiM) (r : MiO) : Prop := mi_le M r.2 ∧ ∀ (gl : MiG) (l : Launch) (A : Nat → Prop) (ad : Nat → Int → Nat), l.stackTraces = false → vx_Met l μ.1 (mi_ws μ) (mi_rm μ M r) (mi_pc gl A ad args M) (mi_q gl A ad M.2.2 r) (mi_x gl A ad M.2.2 r) (mi_kc M r) (mi_ks M r) A
def mi_el : List MiV → List MiV
  | [] => []
  | v :: l => if v.1 = 1 then v :: mi_un :: mi_el l else v :: mi_el l
def mi_ent (args : List MiV) (n : Nat) : List MiV := mi_el args ++ List.replicate (n - (mi_el args).length) mi_un
theorem mi_el_args {ad : Nat → Int → Nat} {cn : Nat → Int} : ∀ {args : List MiV} {vals : List Value} (k : Nat), mi_sr ad cn args vals → ∀ (i : Nat) (v : MiV), (mi_el args)[i]? = some v → v.1 ≠ 9999 → ∃ w, (k + i, w) ∈ lv_args k vals ∧ mi_vr ad cn v w
  | [], _, _, _, i, v, h, _ => by simp [mi_el] at h
  | _ :: _, [], _, h, _, _, _, _ => h.elim
  | u :: l, w :: k', k, h, i, v, hi, hv => by
    have hc := mi_cat h.1
    unfold mi_el at hi
    by_cases e : u.1 = 1
    · rw [if_pos e] at hi hc
      match i, hi with
      | 0, hi => cases hi; exact ⟨w, by unfold lv_args; exact List.mem_cons_self, h.1⟩
      | 1, hi => cases hi; exact absurd rfl hv
      | i + 2, hi =>
        obtain ⟨z, a, b⟩ := mi_el_args (k + 2) h.2 i v hi hv
        refine ⟨z, ?_, b⟩
        unfold lv_args
        rw [if_pos hc, show k + (i + 2) = k + 2 + i by omega]
        exact List.mem_cons_of_mem _ a
    · rw [if_neg e] at hi hc
      match i, hi with
      | 0, hi => cases hi; exact ⟨w, by unfold lv_args; exact List.mem_cons_self, h.1⟩
      | i + 1, hi =>
        obtain ⟨z, a, b⟩ := mi_el_args (k + 1) h.2 i v hi hv
        refine ⟨z, ?_, b⟩
        unfold lv_args
        rw [if_neg (by omega), show k + (i + 1) = k + 1 + i by omega]
        exact List.mem_cons_of_mem _ a
theorem mi_el_len {ad : Nat → Int → Nat} {cn : Nat → Int} : ∀ {args : List MiV} {vals : List Value}, mi_sr ad cn args vals → (lg_sl vals).length = (mi_el args).length
  | [], [], _ => rfl
  | [], _ :: _, h => h.elim
  | _ :: _, [], h => h.elim
  | u :: l, w :: k', h => by
    have hc := mi_cat h.1
    have ih := mi_el_len h.2
    unfold mi_el
    unfold lg_sl at ih ⊢
    rw [List.flatMap_cons, List.length_append, ih]
    by_cases e : u.1 = 1
    · rw [if_pos e] at hc ⊢
      rw [if_pos hc]; simp; omega
    · rw [if_neg e] at hc ⊢
      rw [if_neg (by omega)]; simp; omega
theorem mi_ent_lr {ad : Nat → Int → Nat} {cn : Nat → Int} {args : List MiV} {vals : List Value} {n : Nat} (h : mi_sr ad cn args vals) (hn : (mi_el args).length ≤ n) : mi_lr ad cn n (mi_ent args n) ((lg_sl vals ++ List.replicate (n - (lg_sl vals).length) Slot.unset).toArray) := by
  have hl := lv_entry vals (n := n) (by rw [mi_el_len h]; exact hn)
  refine ⟨hl.1, hl.2.1, fun i v hi hv => ?_⟩
  unfold mi_ent at hi
  by_cases e : i < (mi_el args).length
  · rw [List.getElem?_append_left e] at hi
    obtain ⟨w, a, b⟩ := mi_el_args 0 h i v hi hv
    rw [Nat.zero_add] at a
    exact ⟨w, hl.2.2 _ a, b⟩
  · rw [List.getElem?_append_right (by omega)] at hi
    have := List.mem_of_getElem? hi
    rw [(List.mem_replicate.mp this).2] at hv
    exact absurd rfl hv
theorem MC.of {μ : MiI} {args : List MiV} {M : MiM} {r : MiO} (hh : μ.2.2.2.2.2 = none) (hpl : plainName μ.1.cls = true) (hlen : (mi_el args).length ≤ μ.2.2.1) (h : Sim μ 0 (mi_ent args μ.2.2.1) [] M (some r)) : MC μ args M r := by
  obtain ⟨hle, K⟩ := h r rfl
  refine ⟨hle, fun gl l A ad hl => ?_⟩
  refine vx_ofW (cc := μ.2.1) (maxL := μ.2.2.1) (ret := μ.2.2.2.1) (ws' := mi_tb) hpl (by unfold mi_ws; rw [hh]) ?_
  intro p e s m args' below meth c s₁ B hml hx hv
  obtain ⟨vals, rfl, hsr, hrp, hk, hA⟩ := hv
  have hts := atoms_spec (ws := mi_ws μ) B.pre
  have hown : s.vm.findClass μ.1.cls = some m.cls := findClass_of_methodNamed B.named
  have hnm : meth.name = μ.1.name := (name_of_methodNamed B.named B.method).1
  have hl1 := hle.2.1
  have hl2 := hle.2.2
  rw [lg_entry_eq]
  exact K gl p l e (mi_rm μ M r) s m _ below meth c A ⟨B.exec, B.bytes, hml, B.returns, B.notSynchronized, hown, hnm, fun w hw => hts w (List.mem_cons_of_mem _ hw), hk, hA, hl, rfl, rfl, fun _ => hx⟩ s.heap [] 0 0 _ [] ad ad M.2.2 (M.1 0 0 0) (M.1 0 0 1)
    ⟨va_S.rf, hrp, mi_ent_lr hsr hlen, trivial, fun _ _ _ _ => rfl, fun _ => Int.le_refl _, by omega, by omega, by show ((mi_kc M r : Nat) : Int) = _; unfold mi_kc; omega, by show ((mi_ks M r : Nat) : Int) = _; unfold mi_ks; omega⟩
