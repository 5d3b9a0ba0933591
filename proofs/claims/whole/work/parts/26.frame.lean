/-! ===== the frame rule: a contract over a part of the memory holds over the whole ===== -/
theorem mi_sk.narrow {gl : MiG} {A B : Nat → Prop} {U : State} {H : Heap} (h : mi_sk gl A U H) (hAB : ∀ q, B q → A q) : mi_sk gl B U H := by
  obtain ⟨h1, h2, h3, h4, h5, h6, h7, h8, h9, h10, h11, h12, h13, h14, h15⟩ := h
  refine ⟨h1.narrow hAB, h2.narrow hAB, h3.narrow hAB, fun i hi => ?_, h5, h6.narrow hAB, h7.narrow hAB, h8.narrow hAB, h9.narrow hAB, h10.narrow hAB, h11.narrow hAB, h12.narrow hAB, h13.narrow hAB, h14.narrow hAB, h15⟩
  obtain ⟨a1, a2, a3, a4⟩ := h4 i hi
  exact ⟨a1.narrow hAB, a2.narrow hAB, a3.narrow hAB, a4.narrow hAB⟩
theorem mi_k.narrow {gl : MiG} {A B : Nat → Prop} {U : State} (h : mi_k gl A U) (hAB : ∀ q, B q → A q) : mi_k gl B U :=
  ⟨h.1, h.2.1.narrow hAB, h.2.2.1, h.2.2.2.1, h.2.2.2.2.1.imp (fun z => z.narrow hAB) (fun z => z.narrow hAB), h.2.2.2.2.2⟩
theorem mi_en.cong2 {gl : MiG} {ad ad' : Nat → Int → Nat} {M M' : MiM} {r : Nat} {x : Int} {e : va_E} (h : mi_en gl ad M r x e) (h1 : M'.1 r x = M.1 r x) (h2 : M'.2.1 r x = M.2.1 r x) (h3 : ∀ (k : Nat) (y : Int) (w : Value), mi_vr ad M.2.2 (mi_rt r k, y) w → mi_vr ad' M'.2.2 (mi_rt r k, y) w) : mi_en gl ad' M' r x e := by
  unfold mi_en at h ⊢
  split at h
  · obtain ⟨f, e1, e2⟩ := h; exact ⟨f, e1, by rw [h1]; exact e2⟩
  · obtain ⟨f, e1, e2⟩ := h; exact ⟨f, e1, by rw [h1]; exact e2⟩
  · obtain ⟨f, e1, e2⟩ := h; exact ⟨f, e1, fun i hi => by rw [h2]; exact h3 _ _ _ (e2 i hi)⟩
  · obtain ⟨fs, e1, e2, e3⟩ := h
    refine ⟨fs, e1, e2, fun k hk => ?_⟩
    obtain ⟨w, a1, a2⟩ := e3 k hk
    have hf : mi_fv M' r x k = mi_fv M r x k := by unfold mi_fv; rw [h1, h2]
    exact ⟨w, a1, by rw [hf]; exact h3 k _ _ a2⟩
  · obtain ⟨f, e1, e2⟩ := h; exact ⟨f, e1, by rw [h1]; exact e2⟩
  · exact h
theorem mi_vr_mv {ad ad' : Nat → Int → Nat} {cn cn' : Nat → Int} {t : Nat} {x : Int} {w : Value} (h : mi_vr ad cn (t, x) w) (k : ∀ ρ : Nat, t = ρ + 2 → ∀ y : Int, 0 ≤ y → y < cn ρ → ad' ρ y = ad ρ y ∧ y < cn' ρ) : mi_vr ad' cn' (t, x) w := by
  match t, h, k with
  | 0, h, _ => exact h
  | 1, h, _ => exact h
  | ρ + 2, h, k =>
    rcases h with ⟨h0, h1⟩ | ⟨h0, h1, h2⟩
    · exact Or.inl ⟨h0, h1⟩
    · obtain ⟨a, b⟩ := k ρ rfl x h0 h1
      exact Or.inr ⟨h0, b, by rw [a]; exact h2⟩
/-- M with the regions of S as M2 has them; what M1 cost on the way to M2 is added -/
def mi_up (S : Nat → Bool) (M M1 M2 : MiM) : MiM := (fun r x i => if r = 0 then M.1 r x i + (M2.1 r x i - M1.1 r x i) else if S r = true then M2.1 r x i else M.1 r x i, fun r x i => if S r = true then M2.2.1 r x i else M.2.1 r x i, fun r => if S r = true then M2.2.2 r else M.2.2 r)
/-- a side: closed under links, nothing of the constants -/
def MiSide (S : Nat → Bool) : Prop := S 0 = false ∧ (∀ (r k ρ : Nat), mi_rk r < 9 → mi_rt r k = ρ + 2 → mi_rk ρ < 9 → S ρ = S r) ∧ ∀ r, 9 ≤ mi_rk r → S r = false
/-- M1 is M's part on S -/
def MiPart (S : Nat → Bool) (M M1 : MiM) : Prop := (∀ r, S r = true → M1.1 r = M.1 r ∧ M1.2.1 r = M.2.1 r ∧ M1.2.2 r = M.2.2 r) ∧ (∀ r, S r = false → mi_rk r < 9 → M1.2.2 r ≤ 0) ∧ ∀ r, 9 ≤ mi_rk r → M1.2.2 r = mi_sn r
theorem mi_up_c {S : Nat → Bool} {M M1 M2 : MiM} (r : Nat) : (mi_up S M M1 M2).2.2 r = if S r = true then M2.2.2 r else M.2.2 r := rfl
theorem mi_sr_mv {ad ad' : Nat → Int → Nat} {cn cn' : Nat → Int} : ∀ {l : List MiV} {k : List Value}, mi_sr ad cn l k → (∀ v ∈ l, ∀ ρ : Nat, v.1 = ρ + 2 → ∀ y : Int, 0 ≤ y → y < cn ρ → ad' ρ y = ad ρ y ∧ y < cn' ρ) → mi_sr ad' cn' l k
  | [], [], _, _ => trivial
  | [], _ :: _, h, _ => h.elim
  | _ :: _, [], h, _ => h.elim
  | v :: l, w :: k, h, g => ⟨mi_vr_mv (t := v.1) (x := v.2) h.1 (g v List.mem_cons_self), mi_sr_mv h.2 (fun u hu => g u (List.mem_cons_of_mem _ hu))⟩
theorem MC.frame {μ : MiI} {args : List MiV} {M M1 : MiM} {r1 : MiO} (S : Nat → Bool) (hS : MiSide S) (h : MC μ args M1 r1) (hp : MiPart S M M1) (e2 : ∀ r, S r = false → mi_rk r < 9 → r1.2.2.2 r ≤ 0)
    (ha : ∀ v ∈ args, ∀ ρ : Nat, v.1 = ρ + 2 → S ρ = true ∨ 9 ≤ mi_rk ρ) (hr : r1.1.1 = 1 → ∀ ρ : Nat, r1.1.2.1 = ρ + 2 → S ρ = true ∨ 9 ≤ mi_rk ρ) : MC μ args M (r1.1, mi_up S M M1 r1.2) := by
  obtain ⟨s0, s1, s2⟩ := hS
  obtain ⟨p1, p2, p3⟩ := hp
  obtain ⟨hle, hM⟩ := h
  have u0 : (mi_up S M M1 r1.2).1 0 0 0 = M.1 0 0 0 + (r1.2.1 0 0 0 - M1.1 0 0 0) := rfl
  have u1 : (mi_up S M M1 r1.2).1 0 0 1 = M.1 0 0 1 + (r1.2.1 0 0 1 - M1.1 0 0 1) := rfl
  have hl1 := hle.2.1
  have hl2 := hle.2.2
  have kc : mi_kc M (r1.1, mi_up S M M1 r1.2) = mi_kc M1 r1 := by
    unfold mi_kc
    show ((mi_up S M M1 r1.2).1 0 0 0 - M.1 0 0 0).toNat = _
    rw [u0]; congr 1; omega
  have ks : mi_ks M (r1.1, mi_up S M M1 r1.2) = mi_ks M1 r1 := by
    unfold mi_ks
    show ((mi_up S M M1 r1.2).1 0 0 1 - M.1 0 0 1).toNat = _
    rw [u1]; congr 1; omega
  have rm : mi_rm μ M (r1.1, mi_up S M M1 r1.2) = mi_rm μ M1 r1 := by
    unfold mi_rm
    rw [kc, ks]
  refine ⟨⟨fun r => ?_, ?_, ?_⟩, fun gl l A ad hl => ?_⟩
  · show M.2.2 r ≤ if S r = true then r1.2.2.2 r else M.2.2 r
    split
    · rename_i hq
      rw [← (p1 r hq).2.2]; exact hle.1 r
    · exact Int.le_refl _
  · show M.1 0 0 0 ≤ (mi_up S M M1 r1.2).1 0 0 0
    rw [u0]; omega
  · show M.1 0 0 1 ≤ (mi_up S M M1 r1.2).1 0 0 1
    rw [u1]; omega
  rw [kc, ks, rm]
  unfold vx_Met MetFree
  intro p e ha' hc hk s m args' below hf happ hP hT
  obtain ⟨vals, rfl, hsr, hrp, hkk, hA⟩ := hP
  obtain ⟨b1, b2, b3⟩ := hrp
  have hlt : ∀ r x, mi_rk r < 9 → 0 ≤ x → x < M.2.2 r → ad r x < s.heap.size := fun r x k1 k2 k3 => by
    obtain ⟨-, e', c2, -⟩ := b1 r x k1 k2 k3
    exact c2.lt
  have hcn : ∀ ρ, S ρ = true ∨ 9 ≤ mi_rk ρ → M1.2.2 ρ = M.2.2 ρ := fun ρ h => by
    rcases h with h | h
    · exact (p1 ρ h).2.2
    · rw [p3 ρ h, (b3 ρ h).1]
  generalize hA1 : (fun q : Nat => A q ∧ ∀ (r : Nat) (x : Int), S r = false → mi_rk r < 9 → 0 ≤ x → x < M.2.2 r → q ≠ ad r x) = A1
  have hA1i : ∀ q, A1 q ↔ A q ∧ ∀ (r : Nat) (x : Int), S r = false → mi_rk r < 9 → 0 ≤ x → x < M.2.2 r → q ≠ ad r x := fun q => by rw [← hA1]
  have hin : ∀ r x, mi_rk r < 9 → 0 ≤ x → x < M1.2.2 r → S r = true := fun r x k1 k2 k3 => by
    cases hq : S r with
    | true => rfl
    | false => have := p2 r hq k1; omega
  have hrp1 : mi_rp gl A1 ad M1 s.heap := by
    refine ⟨fun r x k1 k2 k3 => ?_, fun r x r' x' k1 k1' k2 k3 k2' k3' hq => ?_, fun r hr9 => ⟨p3 r hr9, (b3 r hr9).2⟩⟩
    · have hs := hin r x k1 k2 k3
      rw [(p1 r hs).2.2] at k3
      obtain ⟨c1, e', c2, c3⟩ := b1 r x k1 k2 k3
      refine ⟨(hA1i _).mpr ⟨c1, fun r' x' q1 q2 q3 q4 q5 => ?_⟩, e', c2, c3.cong2 (by rw [(p1 r hs).1]) (by rw [(p1 r hs).2.1]) fun k y w hv => mi_vr_mv hv fun ρ hρ y' y0 y1 => ⟨rfl, ?_⟩⟩
      · obtain ⟨rfl, -⟩ := b2 _ _ _ _ k1 q2 k2 k3 q3 q4 q5
        rw [hs] at q1; cases q1
      · rw [hcn ρ]
        · exact y1
        · by_cases q9 : mi_rk ρ < 9
          · exact Or.inl ((s1 r k ρ k1 hρ q9).trans hs)
          · exact Or.inr (by omega)
    · have hs := hin r x k1 k2 k3
      have hs' := hin r' x' k1' k2' k3'
      rw [(p1 r hs).2.2] at k3
      rw [(p1 r' hs').2.2] at k3'
      exact b2 _ _ _ _ k1 k1' k2 k3 k2' k3' hq
  have hsr1 : mi_sr ad M1.2.2 args vals := mi_sr_mv hsr fun v hv ρ hρ y y0 y1 => ⟨rfl, by rw [hcn ρ (ha v hv ρ hρ)]; exact y1⟩
  have hAs : ∀ q : Nat, s.heap.size ≤ q → A1 q := fun q hq => (hA1i q).mpr ⟨hA q hq, fun r x q1 q2 q3 q4 q5 => by
    have := hlt r x q2 q3 q4
    omega⟩
  have hsub : ∀ q, A1 q → A q := fun q hq => ((hA1i q).mp hq).1
  obtain ⟨n, o, z1, z2, z3, hQ⟩ := hM gl l A1 ad hl p e ha' hc hk s m vals.toArray below hf happ ⟨vals, rfl, hsr1, hrp1, hkk.narrow hsub, hAs⟩ trivial
  refine ⟨n, o, z1, z2, z3, ?_⟩
  have key : ∀ (ad1 : Nat → Int → Nat) (t : State), mi_po gl A1 ad M1.2.2 r1 s t ad1 → ∃ ad2 : Nat → Int → Nat, (∀ ρ, S ρ = true ∨ 9 ≤ mi_rk ρ → ∀ y, ad2 ρ y = ad1 ρ y) ∧ mi_po gl A ad M.2.2 (r1.1, mi_up S M M1 r1.2) s t ad2 := by
    intro ad1 t ⟨hext, ⟨c1, c2, c3⟩, hF⟩
    generalize had2 : (fun (r : Nat) (x : Int) => if S r = true ∨ 9 ≤ mi_rk r then ad1 r x else ad r x) = ad2
    have i1 : ∀ r, S r = true ∨ 9 ≤ mi_rk r → ∀ x, ad2 r x = ad1 r x := fun r hq x => by rw [← had2]; exact if_pos hq
    have i2 : ∀ r, ¬ (S r = true ∨ 9 ≤ mi_rk r) → ∀ x, ad2 r x = ad r x := fun r hq x => by rw [← had2]; exact if_neg hq
    have hc9 : ∀ r, 9 ≤ mi_rk r → r1.2.2.2 r = M.2.2 r := fun r hq => by rw [(c3 r hq).1, (b3 r hq).1]
    have hout : ∀ r x, S r = false → mi_rk r < 9 → 0 ≤ x → x < M.2.2 r → ¬ A1 (ad r x) := fun r x q1 q2 q3 q4 hq => ((hA1i _).mp hq).2 r x q1 q2 q3 q4 rfl
    refine ⟨ad2, i1, fun r x x0 x1 => ?_, ⟨fun r x k1 k2 k3 => ?_, fun r x r' x' k1 k1' k2 k3 k2' k3' hq => ?_, fun r hr9 => ⟨?_, fun x => by rw [i1 r (Or.inr hr9)]; exact (c3 r hr9).2 x⟩⟩, hF.1, fun q q1 q2 => hF.2 q q1 fun q3 => q2 (hsub q q3)⟩
    · by_cases hq : S r = true ∨ 9 ≤ mi_rk r
      · rw [i1 r hq]
        exact hext r x x0 (by rw [hcn r hq]; exact x1)
      · exact i2 r hq x
    · rw [mi_up_c] at k3
      cases hs : S r with
      | true =>
        rw [if_pos hs] at k3
        obtain ⟨d1, e', d2, d3⟩ := c1 r x k1 k2 k3
        rw [i1 r (Or.inl hs)]
        refine ⟨hsub _ d1, e', d2, d3.cong2 ?_ ?_ fun k y w hv => mi_vr_mv hv fun ρ hρ y' y0 y1 => ?_⟩
        · funext i
          show (if r = 0 then _ else if S r = true then _ else _) = _
          rw [if_neg (mi_r0 k1), if_pos hs]
        · funext i
          show (if S r = true then _ else _) = _
          rw [if_pos hs]
        · by_cases q9 : mi_rk ρ < 9
          · have hsρ : S ρ = true := (s1 r k ρ k1 hρ q9).trans hs
            exact ⟨i1 ρ (Or.inl hsρ) y', by rw [mi_up_c, if_pos hsρ]; exact y1⟩
          · have h9 : 9 ≤ mi_rk ρ := by omega
            refine ⟨i1 ρ (Or.inr h9) y', ?_⟩
            rw [mi_up_c, if_neg (by rw [s2 ρ h9]; exact Bool.false_ne_true), ← hc9 ρ h9]
            exact y1
      | false =>
        rw [if_neg (by rw [hs]; exact Bool.false_ne_true)] at k3
        obtain ⟨d1, e', d2, d3⟩ := b1 r x k1 k2 k3
        have hn : ¬ (S r = true ∨ 9 ≤ mi_rk r) := by
          rintro (z | z)
          · rw [hs] at z; cases z
          · omega
        rw [i2 r hn]
        refine ⟨d1, e', d2.kept (hF.2 _ (hlt r x k1 k2 k3) (hout r x hs k1 k2 k3)), d3.cong2 ?_ ?_ fun k y w hv => mi_vr_mv hv fun ρ hρ y' y0 y1 => ?_⟩
        · funext i
          show (if r = 0 then _ else if S r = true then _ else _) = _
          rw [if_neg (mi_r0 k1), if_neg (by rw [hs]; exact Bool.false_ne_true)]
        · funext i
          show (if S r = true then _ else _) = _
          rw [if_neg (by rw [hs]; exact Bool.false_ne_true)]
        · by_cases q9 : mi_rk ρ < 9
          · have hsρ : S ρ = false := (s1 r k ρ k1 hρ q9).trans hs
            have hnρ : ¬ (S ρ = true ∨ 9 ≤ mi_rk ρ) := by
              rintro (z | z)
              · rw [hsρ] at z; cases z
              · omega
            exact ⟨i2 ρ hnρ y', by rw [mi_up_c, if_neg (by rw [hsρ]; exact Bool.false_ne_true)]; exact y1⟩
          · have h9 : 9 ≤ mi_rk ρ := by omega
            refine ⟨?_, by rw [mi_up_c, if_neg (by rw [s2 ρ h9]; exact Bool.false_ne_true)]; exact y1⟩
            rw [i1 ρ (Or.inr h9), (c3 ρ h9).2, (b3 ρ h9).2]
    · rw [mi_up_c] at k3 k3'
      have hS2 : ∀ r x, mi_rk r < 9 → S r = false → 0 ≤ x → x < M.2.2 r → ad2 r x = ad r x := fun r x q1 q2 _ _ => i2 r (by
        rintro (z | z)
        · rw [q2] at z; cases z
        · omega) x
      cases hs : S r with
      | true =>
        rw [if_pos hs] at k3
        rw [i1 r (Or.inl hs)] at hq
        cases hs' : S r' with
        | true =>
          rw [if_pos hs'] at k3'
          rw [i1 r' (Or.inl hs')] at hq
          exact c2 _ _ _ _ k1 k1' k2 k3 k2' k3' hq
        | false =>
          rw [if_neg (by rw [hs']; exact Bool.false_ne_true)] at k3'
          rw [hS2 r' x' k1' hs' k2' k3'] at hq
          exact absurd (by rw [← hq]; exact (c1 r x k1 k2 k3).1) (hout r' x' hs' k1' k2' k3')
      | false =>
        rw [if_neg (by rw [hs]; exact Bool.false_ne_true)] at k3
        rw [hS2 r x k1 hs k2 k3] at hq
        cases hs' : S r' with
        | true =>
          rw [if_pos hs'] at k3'
          rw [i1 r' (Or.inl hs')] at hq
          exact absurd (by rw [hq]; exact (c1 r' x' k1' k2' k3').1) (hout r x hs k1 k2 k3)
        | false =>
          rw [if_neg (by rw [hs']; exact Bool.false_ne_true)] at k3'
          rw [hS2 r' x' k1' hs' k2' k3'] at hq
          exact b2 _ _ _ _ k1 k1' k2 k3 k2' k3' hq
    · rw [mi_up_c, if_neg (by rw [s2 r hr9]; exact Bool.false_ne_true)]
      exact (b3 r hr9).1
  rcases hQ with ⟨⟨ad1, v, ho, hrv, hpo⟩, L, hFE, hLL⟩ | ⟨q, ho, E, ce, L, ⟨x1, x2, ad1, hpo⟩, x3⟩
  · obtain ⟨ad2, j1, j2⟩ := key ad1 _ hpo
    refine Or.inl ⟨⟨ad2, v, ho, ?_, j2⟩, L, hFE, fun q hq => hsub _ (hLL q hq)⟩
    rcases hrv with ⟨q1, rfl⟩ | ⟨q1, w, rfl, hw⟩
    · exact Or.inl ⟨q1, rfl⟩
    · refine Or.inr ⟨q1, w, rfl, ?_⟩
      have hw2 : mi_vr ad1 r1.2.2.2 (r1.1.2.1, r1.1.2.2) w := hw
      refine mi_vr_mv hw2 fun ρ hρ y y0 y1 => ⟨j1 ρ (hr q1 ρ hρ) y, ?_⟩
      rw [mi_up_c]
      rcases hr q1 ρ hρ with hq | hq
      · rw [if_pos hq]; exact y1
      · rw [if_neg (by rw [s2 ρ hq]; exact Bool.false_ne_true), ← (show r1.2.2.2 ρ = M.2.2 ρ by rw [(hpo.2.1.2.2 ρ hq).1, (b3 ρ hq).1])]
        exact y1
  · obtain ⟨ad2, j1, j2⟩ := key ad1 _ hpo
    obtain ⟨y1, y2, y3, y4, y5, y6⟩ := x3
    exact Or.inr ⟨q, ho, E, ce, L, ⟨x1, x2, ad2, j2⟩, y1, y2, y3, y4, y5, fun z hz => hsub _ (y6 z hz)⟩
