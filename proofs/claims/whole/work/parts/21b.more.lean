/-! ===== calls that may throw; more of the constants ===== -/
def mi_LN (Z : MiZ) : MiD ⊕ (Nat × MiD) → MiO := fun q => match q with | .inl D => ((0, (0, 0)), (D, Z)) | .inr a => ((2, (a.1, 0)), (a.2, Z))
def mi_bn {γ : Type} (o : Option (MiD ⊕ (Nat × MiD))) (t : Nat × MiD → γ) (f : MiD → Option γ) : Option γ := match o with | some (.inl D) => f D | some (.inr b) => some (t b) | none => none
section MiMore
variable {α : Type} {μ μ' : MiI} {pc pc' : Nat} {ls st ls' st' args : List MiV} {M : MiM} {D : MiD} {Z : MiZ} {L : α → MiO} {o : Option α}
theorem Sg.callNg {t : Nat × MiD → α} (ht : ∀ b, L (t b) = ((2, (b.1, 0)), (b.2, Z))) {ob : Option (MiD ⊕ (Nat × MiD))} {f : MiD → Option α} (hI : MiInv μ pc μ' args) (hM : ∀ v, ob = some v → MC μ' args (D, Z) (mi_LN Z v)) (htab : μ.2.2.2.2.2 = Option.none) (hW : mi_cs st ≤ 8) (he : args.reverse ++ st = st') (hp : pc + 3 = pc') (k : ∀ D', Sg μ pc' ls st (D', Z) L (f D')) : Sg μ pc ls st' (D, Z) L (mi_bn ob t f) := by
  subst hp
  intro a ha
  match ob, ha, hM with
  | some (.inl D'), ha, hM => rw [← he]; exact Sim.call hI (hM _ rfl) (show (0 : Nat) < 2 by decide) hW (k D' a ha)
  | some (.inr b), ha, hM =>
    cases ha
    rw [← he, ht]
    exact Sim.callX hI (hM _ rfl) htab rfl hW
theorem Sg.callTg {t : Nat × MiD → α} (ht : ∀ b, L (t b) = ((2, (b.1, 0)), (b.2, Z))) {tg : Nat} {ob : Option ((Int × MiD) ⊕ (Nat × MiD))} {f : Int → MiD → Option α} (hI : MiInv μ pc μ' args) (hM : ∀ v, ob = some v → MC μ' args (D, Z) (mi_LT tg Z v)) (htab : μ.2.2.2.2.2 = Option.none) (hW : mi_cs st ≤ 8) (he : args.reverse ++ st = st') (hp : pc + 3 = pc') (k : ∀ v D', Sg μ pc' ls ((tg, v) :: st) (D', Z) L (f v D')) : Sg μ pc ls st' (D, Z) L (mi_bt ob t f) := by
  subst hp
  intro a ha
  match ob, ha, hM with
  | some (.inl q), ha, hM => rw [← he]; exact Sim.call hI (hM _ rfl) (show (1 : Nat) < 2 by decide) hW (k q.1 q.2 a ha)
  | some (.inr b), ha, hM =>
    cases ha
    rw [← he, ht]
    exact Sim.callX hI (hM _ rfl) htab rfl hW
theorem Sg.callNT {tg : Nat} {ob : Option (MiD ⊕ (Nat × MiD))} {f : MiD → Option ((Int × MiD) ⊕ (Nat × MiD))} (hI : MiInv μ pc μ' args) (hM : ∀ v, ob = some v → MC μ' args (D, Z) (mi_LN Z v)) (htab : μ.2.2.2.2.2 = Option.none) (hW : mi_cs st ≤ 8) (he : args.reverse ++ st = st') (hp : pc + 3 = pc') (k : ∀ D', Sg μ pc' ls st (D', Z) (mi_LT tg Z) (f D')) : Sg μ pc ls st' (D, Z) (mi_LT tg Z) (mi_bn ob Sum.inr f) := Sg.callNg (fun _ => rfl) hI hM htab hW he hp k
theorem Sg.callNN {ob : Option (MiD ⊕ (Nat × MiD))} {f : MiD → Option (MiD ⊕ (Nat × MiD))} (hI : MiInv μ pc μ' args) (hM : ∀ v, ob = some v → MC μ' args (D, Z) (mi_LN Z v)) (htab : μ.2.2.2.2.2 = Option.none) (hW : mi_cs st ≤ 8) (he : args.reverse ++ st = st') (hp : pc + 3 = pc') (k : ∀ D', Sg μ pc' ls st (D', Z) (mi_LN Z) (f D')) : Sg μ pc ls st' (D, Z) (mi_LN Z) (mi_bn ob Sum.inr f) := Sg.callNg (fun _ => rfl) hI hM htab hW he hp k
theorem Sg.callTT {tg t : Nat} {ob : Option ((Int × MiD) ⊕ (Nat × MiD))} {f : Int → MiD → Option ((Int × MiD) ⊕ (Nat × MiD))} (hI : MiInv μ pc μ' args) (hM : ∀ v, ob = some v → MC μ' args (D, Z) (mi_LT t Z v)) (htab : μ.2.2.2.2.2 = Option.none) (hW : mi_cs st ≤ 8) (he : args.reverse ++ st = st') (hp : pc + 3 = pc') (k : ∀ v D', Sg μ pc' ls ((t, v) :: st) (D', Z) (mi_LT tg Z) (f v D')) : Sg μ pc ls st' (D, Z) (mi_LT tg Z) (mi_bt ob Sum.inr f) := Sg.callTg (fun _ => rfl) hI hM htab hW he hp k
theorem mi_alenQ {r : Nat} {x : Int} {z : Int} (hdg : decode μ.2.1 pc = .ok (.arraylength, 1)) (hk : mi_rk r = 2) (hc : ∃ ty : FieldType, ty.isReference = true ∧ mi_rc r < 11 ∧ mi_ty.getD (mi_rc r) .int = ty) (h0 : 0 ≤ x) (hz : (Int32.ofNat (mi_rn r)).toInt = z) : MiStep μ pc ls ((r + 2, x) :: st) M (pc + 1) ls ((0, z) :: st) := by
  intro gl p l e R s m args below meth c A C0 H locs cells slots lsA stA ad Q hS hR hL hst kk
  have hst_ := hst.cons
  clear hst
  obtain ⟨_, _, rfl, hv, hst⟩ := hst_
  rcases hv with ⟨z, -⟩ | ⟨-, h1, rfl⟩
  · exact absurd z (by omega)
  obtain ⟨-, e0, hat, hen⟩ := hR.1 r x (by rw [hk]; decide) h0 h1
  obtain ⟨g, rfl, e2⟩ := mi_en2 hk hen
  obtain ⟨ty, t1, t2, t3⟩ := hc
  have ht : (mi_tl gl)[mi_rc r]? = some (gl.2.1 (mi_rc r), ty) := by
    unfold mi_tl
    rw [List.getElem?_map, List.getElem?_range t2, ← t3]; rfl
  exact va_alen C0.1 C0.2.1 C0.2.2.2.2.2.2.2.2.1.1 (mi_P1 hat) 0 (mi_rc r) rfl ht rfl hdg (kk _ _ hL ⟨⟨_, rfl, hz⟩, hst⟩)
theorem mi_acN {r tgt : Nat} {off x y : Int} {a b : Option α} (hdg : decode μ.2.1 pc = .ok (.if_acmp .ne off, 3)) (ht : (pc : Int) + off = (tgt : Int)) (hx : 0 ≤ x) (hy : 0 ≤ y) (hi : ∀ (gl : MiG) (A : Nat → Prop) (s : State), mi_k gl A s → ∀ i j : Nat, (i : Int) < mi_sn r → (j : Int) < mi_sn r → gl.2.2 r i = gl.2.2 r j → i = j) (hr : 9 ≤ mi_rk r) (kt : x = y → Sg μ (pc + 3) ls st M L a) (kf : ¬ x = y → Sg μ tgt ls st M L b) : Sg μ pc ls ((r + 2, y) :: (r + 2, x) :: st) M L (if x = y then a else b) := by
  have step : ∀ (n : Nat), ((¬ x = y ∧ n = tgt) ∨ (x = y ∧ n = pc + 3)) → MiStep μ pc ls ((r + 2, y) :: (r + 2, x) :: st) M n ls st := by
    intro n hn gl p l e R s m args below meth c A C0 H locs cells slots lsA stA ad Q hS hR hL hst k
    have hst_ := hst.cons
    clear hst
    obtain ⟨_, _, rfl, hv1, hst⟩ := hst_
    have hst_ := hst.cons
    clear hst
    obtain ⟨_, _, rfl, hv2, hst⟩ := hst_
    obtain ⟨j, rfl, hj, rfl⟩ := mi_c9o hR hr hy hv1
    obtain ⟨i, rfl, hi', rfl⟩ := mi_c9o hR hr hx hv2
    refine lv_acmp_ne (rx := some (gl.2.2 r i)) (ry := some (gl.2.2 r j)) C0.1 C0.2.1 hdg ht (fun q => ?_) (fun q => ?_)
    · rcases hn with ⟨-, rfl⟩ | ⟨h1, -⟩
      · exact k _ _ hL hst
      · exact absurd (by rw [Int.ofNat.inj h1]) q
    · rcases hn with ⟨h1, -⟩ | ⟨-, rfl⟩
      · exact absurd (by rw [hi gl A s C0.2.2.2.2.2.2.2.2.1 i j hi' hj (Option.some.inj q)]) h1
      · exact k _ _ hL hst
  by_cases h : x = y
  · rw [if_pos h]; exact Sg.go (step (pc + 3) (Or.inr ⟨h, rfl⟩)) (kt h)
  · rw [if_neg h]; exact Sg.go (step tgt (Or.inl ⟨h, rfl⟩)) (kf h)
end MiMore
