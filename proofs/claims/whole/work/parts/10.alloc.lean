/-! ===== making objects and arrays ===== -/
theorem mi_vr.mono {ad ad' : Nat → Int → Nat} {cn cn' : Nat → Int} {v : MiV} {w : Value} (h : mi_vr ad cn v w) (he : mi_ext ad ad' cn) (hc : ∀ r, cn r ≤ cn' r) : mi_vr ad' cn' v w := by
  obtain ⟨t, x⟩ := v
  match t with
  | 0 => exact h
  | 1 => exact h
  | r + 2 =>
    rcases h with ⟨h0, h1⟩ | ⟨h0, h1, h2⟩
    · exact Or.inl ⟨h0, h1⟩
    · exact Or.inr ⟨h0, Int.lt_of_lt_of_le h1 (hc r), by rw [he r x h0 h1]; exact h2⟩
theorem mi_sr.mono {ad ad' : Nat → Int → Nat} {cn cn' : Nat → Int} (he : mi_ext ad ad' cn) (hc : ∀ r, cn r ≤ cn' r) : ∀ {st : List MiV} {k : List Value}, mi_sr ad cn st k → mi_sr ad' cn' st k
  | [], [], _ => trivial
  | _ :: _, _ :: _, h => ⟨h.1.mono he hc, mi_sr.mono he hc h.2⟩
  | [], _ :: _, h => h.elim
  | _ :: _, [], h => h.elim
theorem mi_lr.mono {ad ad' : Nat → Int → Nat} {cn cn' : Nat → Int} {nL : Nat} {l : List MiV} {ls : Array Slot} (h : mi_lr ad cn nL l ls) (he : mi_ext ad ad' cn) (hc : ∀ r, cn r ≤ cn' r) : mi_lr ad' cn' nL l ls :=
  ⟨h.1, h.2.1, fun i v hi hu => by obtain ⟨w, a, b⟩ := h.2.2 i v hi hu; exact ⟨w, a, b.mono he hc⟩⟩
/-- one more in region r, of n slots: numbers 0, references null -/
def mi_nw (M : MiM) (r : Nat) (n : Int) : MiM :=
  (mi_st (mi_st (fun r' j' i' => if r' = r ∧ j' = M.2.2 r then 0 else M.1 r' j' i') 0 0 0 (M.1 0 0 0 + 1)) 0 0 1 (M.1 0 0 1 + n),
   (fun r' j' i' => if r' = r ∧ j' = M.2.2 r then -1 else M.2.1 r' j' i'), fun r' => if r' = r then M.2.2 r + 1 else M.2.2 r')
def mi_na (ad : Nat → Int → Nat) (r : Nat) (x : Int) (q : Nat) : Nat → Int → Nat := fun r' x' => if r' = r ∧ x' = x then q else ad r' x'
theorem mi_nw_cn {M : MiM} {r : Nat} {n : Int} (r' : Nat) : M.2.2 r' ≤ (mi_nw M r n).2.2 r' := by
  show _ ≤ if r' = r then M.2.2 r + 1 else M.2.2 r'
  split
  · rename_i h; subst h; omega
  · exact Int.le_refl _
theorem mi_nw_0 {M : MiM} {r : Nat} {n : Int} : (mi_nw M r n).1 0 0 0 = M.1 0 0 0 + 1 := by
  unfold mi_nw
  dsimp only
  rw [mi_st_k (by decide), mi_st_eq]
theorem mi_nw_1 {M : MiM} {r : Nat} {n : Int} : (mi_nw M r n).1 0 0 1 = M.1 0 0 1 + n := by
  unfold mi_nw
  dsimp only
  rw [mi_st_eq]
theorem mi_nw_D {M : MiM} {r : Nat} {n : Int} {r' : Nat} {x' i' : Int} (h0 : r' ≠ 0) : (mi_nw M r n).1 r' x' i' = if r' = r ∧ x' = M.2.2 r then 0 else M.1 r' x' i' := by
  show mi_st (mi_st _ 0 0 0 _) 0 0 1 _ r' x' i' = _
  rw [mi_st_r h0, mi_st_r h0]
theorem mi_rp.new {gl : MiG} {A : Nat → Prop} {ad : Nat → Int → Nat} {M : MiM} {H H1 : Heap} {r : Nat} {n : Int} {e : va_E} (h : mi_rp gl A ad M H) (hr : mi_rk r < 9) (hn : 0 ≤ M.2.2 r) (hA : A H.size) (hat : va_at gl.1 vwCl (H.size, e) H1) (o1 : ∀ q : Nat, q < H.size → H1[q]? = H[q]?)
    (hen : mi_en gl (mi_na ad r (M.2.2 r) H.size) (mi_nw M r n) r (M.2.2 r) e) : mi_rp gl A (mi_na ad r (M.2.2 r) H.size) (mi_nw M r n) H1 := by
  obtain ⟨a1, a2, a3⟩ := h
  have hr0 := mi_r0 hr
  have hlt : ∀ r' x', mi_rk r' < 9 → 0 ≤ x' → x' < M.2.2 r' → ad r' x' < H.size := fun r' x' k1 k2 k3 => by
    obtain ⟨-, e', b2, -⟩ := a1 r' x' k1 k2 k3
    exact b2.lt
  have hold : ∀ r' x', x' < (mi_nw M r n).2.2 r' → ¬ (r' = r ∧ x' = M.2.2 r) → x' < M.2.2 r' := fun r' x' k3 q => by
    have k4 : x' < if r' = r then M.2.2 r + 1 else M.2.2 r' := k3
    split at k4
    · rename_i hh; subst hh
      have : x' ≠ M.2.2 r' := fun z => q ⟨rfl, z⟩
      omega
    · exact k4
  have hext : mi_ext ad (mi_na ad r (M.2.2 r) H.size) M.2.2 := fun r' x' k2 k3 => by
    unfold mi_na
    rw [if_neg]
    rintro ⟨rfl, rfl⟩
    omega
  have hna : mi_na ad r (M.2.2 r) H.size r (M.2.2 r) = H.size := by unfold mi_na; rw [if_pos ⟨rfl, rfl⟩]
  refine ⟨fun r' x' k1 k2 k3 => ?_, fun r' x' r'' x'' k1 j1 k2 k3 j2 j3 hq => ?_, fun r' hr' => ?_⟩
  · by_cases q : r' = r ∧ x' = M.2.2 r
    · obtain ⟨rfl, rfl⟩ := q
      rw [hna]
      exact ⟨hA, e, hat, hen⟩
    · have k4 := hold r' x' k3 q
      obtain ⟨b1, e', b2, b3⟩ := a1 r' x' k1 k2 k4
      rw [hext r' x' k2 k4]
      refine ⟨b1, e', b2.kept (o1 _ (hlt r' x' k1 k2 k4)), b3.cong ?_ ?_ (fun v w hv => hv.mono hext mi_nw_cn)⟩
      · funext i
        rw [mi_nw_D (mi_r0 k1), if_neg q]
      · funext i
        show (if _ then _ else _) = _
        rw [if_neg q]
  · by_cases q : r' = r ∧ x' = M.2.2 r
    · by_cases q2 : r'' = r ∧ x'' = M.2.2 r
      · exact ⟨q.1.trans q2.1.symm, q.2.trans q2.2.symm⟩
      · have j4 := hold r'' x'' j3 q2
        rw [hext r'' x'' j2 j4] at hq
        obtain ⟨rfl, rfl⟩ := q
        rw [hna] at hq
        have := hlt r'' x'' j1 j2 j4
        omega
    · have k4 := hold r' x' k3 q
      rw [hext r' x' k2 k4] at hq
      by_cases q2 : r'' = r ∧ x'' = M.2.2 r
      · obtain ⟨rfl, rfl⟩ := q2
        rw [hna] at hq
        have := hlt r' x' k1 k2 k4
        omega
      · have j4 := hold r'' x'' j3 q2
        rw [hext r'' x'' j2 j4] at hq
        exact a2 _ _ _ _ k1 j1 k2 k4 j2 j4 hq
  · have hne : r' ≠ r := by rintro rfl; omega
    refine ⟨?_, fun x => ?_⟩
    · show (if r' = r then _ else _) = _
      rw [if_neg hne]; exact (a3 r' hr').1
    · unfold mi_na
      rw [if_neg (fun z => hne z.1)]
      exact (a3 r' hr').2 x
/-- a step that makes one cell of n slots in region r -/
def MiStepA (μ : MiI) (pc : Nat) (ls st : List MiV) (M : MiM) (pc' : Nat) (ls' st' : List MiV) (r n : Nat) : Prop :=
  (0 ≤ M.2.2 r ∧ mi_rk r < 9) → ∀ (gl : MiG) (p : Program) (l : Launch) (e : Env) (R : Room) (s : State) (m : MethodId) (args : Array Value) (below : List Frame) (meth : Method) (c : Code) (A : Nat → Prop), mi_cx μ gl p l R s m args meth c A →
    ∀ (H : Heap) (locs : List Loc) (cells slots : Nat) (lsA : Array Slot) (stA : List Value) (ad : Nat → Int → Nat) (Q : State → Prop), va_S A s.heap H locs → mi_rp gl A ad M H → mi_lr ad M.2.2 μ.2.2.1 ls lsA → mi_sr ad M.2.2 st stA → cells + 1 ≤ R.cells → slots + n ≤ R.slots →
      (∀ lsA' stA' H', va_S A s.heap H' locs → mi_rp gl A (mi_na ad r (M.2.2 r) H.size) (mi_nw M r n) H' → mi_lr (mi_na ad r (M.2.2 r) H.size) (mi_nw M r n).2.2 μ.2.2.1 ls' lsA' → mi_sr (mi_na ad r (M.2.2 r) H.size) (mi_nw M r n).2.2 st' stA' → W p l e R s m args below meth c H' locs (cells + 1) (slots + n) Q (F0 m pc' lsA' stA')) → W p l e R s m args below meth c H locs cells slots Q (F0 m pc lsA stA)
theorem mi_na_ext {ad : Nat → Int → Nat} {r : Nat} {q : Nat} {cn : Nat → Int} : mi_ext ad (mi_na ad r (cn r) q) cn := fun r' x' k2 k3 => by
  unfold mi_na
  rw [if_neg]
  rintro ⟨rfl, rfl⟩
  omega
theorem Sim.goA {μ : MiI} {pc pc' : Nat} {ls st ls' st' : List MiV} {M : MiM} {r n : Nat} {o : Option MiO} (h : MiStepA μ pc ls st M pc' ls' st' r n) (hn : 0 ≤ M.2.2 r) (hr : mi_rk r < 9) (k : Sim μ pc' ls' st' (mi_nw M r n) o) : Sim μ pc ls st M o := by
  intro q hq
  obtain ⟨hle, K⟩ := k q hq
  obtain ⟨l1, l2, l3⟩ := hle
  rw [mi_nw_0] at l2
  rw [mi_nw_1] at l3
  refine ⟨⟨fun t => Int.le_trans (mi_nw_cn t) (l1 t), by omega, by omega⟩, fun gl p l e R s m args below meth c A C H locs cells slots lsA stA ad ad0 cn0 k0 n0 S => ?_⟩
  obtain ⟨s1, s2, s3, s4, s5, s6, s7, s8, s9, s10⟩ := S
  refine h ⟨hn, hr⟩ gl p l e R s m args below meth c A C H locs cells slots lsA stA ad _ s1 s2 s3 s4 (by omega) (by omega) fun lsA' stA' H' hS hR hL hT => K gl p l e R s m args below meth c A C H' locs (cells + 1) (slots + n) lsA' stA' (mi_na ad r (M.2.2 r) H.size) ad0 cn0 k0 n0 ⟨hS, hR, hL, hT, fun t x a b => (mi_na_ext (cn := M.2.2) t x a (Int.lt_of_lt_of_le b (s6 t))).trans (s5 t x a b), fun t => Int.le_trans (s6 t) (mi_nw_cn t), by rw [mi_nw_0]; omega, by rw [mi_nw_1]; omega, s9, s10⟩
theorem mi_sr_new {ad : Nat → Int → Nat} {M : MiM} {r : Nat} {n : Int} {q : Nat} {st : List MiV} {k : List Value} (hn : 0 ≤ M.2.2 r) (h : mi_sr ad M.2.2 st k) : mi_sr (mi_na ad r (M.2.2 r) q) (mi_nw M r n).2.2 ((r + 2, M.2.2 r) :: st) (.ref q :: k) := by
  refine ⟨Or.inr ⟨hn, ?_, ?_⟩, h.mono mi_na_ext mi_nw_cn⟩
  · show _ < if r = r then _ else _
    rw [if_pos rfl]; omega
  · unfold mi_na; rw [if_pos ⟨rfl, rfl⟩]
section MiAlloc
variable {μ : MiI} {pc : Nat} {ls st : List MiV} {M : MiM}
/-- the fields of a new object: defaults -/
theorem mi_new {r ix : Nat} {C : String} {T : u_T} {N : Nat} {ty : Nat → FieldType} {fs : List Value} (hdg : decode μ.2.1 pc = .ok (.new ix, 3)) (hC : MiC r C T N ty) (hcl : Cond.classLink μ.1.cls ix C ∈ mi_tb) (hin : Cond.instantiable C N ∈ mi_tb) (hini : Cond.initialized C ∈ mi_tb)
    (hfs : ∀ j, j < N → defaultValue (ty j) = vp_V fs j) (hl : fs.length = N) (hd : ∀ k, k < N → (mi_rt r k = 0 ∧ vp_V fs k = .int 0) ∨ (mi_rt r k = 1 ∧ vp_V fs k = .long 0) ∨ (2 ≤ mi_rt r k ∧ vp_V fs k = .null)) : MiStepA μ pc ls st M (pc + 3) ls ((r + 2, M.2.2 r) :: st) r N := by
  intro hn gl p l e R s m args below meth c A C0 H locs cells slots lsA stA ad Q hS hR hL hst hcl1 hsl1 kk
  obtain ⟨c1, c2, c3, c4, c5, c6, c7⟩ := hC
  have hK := C0.2.2.2.2.2.2.2.2.1.1
  have hts := C0.2.2.2.2.2.2.2.1
  have hown := C0.2.2.2.2.2.1
  have hKn := hK.1 _ _ c2
  have hAA := C0.2.2.2.2.2.2.2.2.2.1
  refine W.newcK C0.1 C0.2.1 hown (hts _ hcl) (hts _ hin) (hts _ hini) rfl hdg hcl1 hsl1 hKn.2.1 rfl fun H1 kC hkC e1 z1 o1 => ?_
  have hat : va_at gl.1 vwCl (H.size, .inr (mi_rc r, fs)) H1 := ⟨_, c2, (u_born ty hts c4 hKn hkC e1 c5).to hfs⟩
  refine kk _ _ H1 ⟨Nat.le_trans hS.1 (by omega), fun x h1 h2 => (o1 x (Nat.lt_of_lt_of_le h1 hS.1)).trans (hS.2.1 x h1 h2), hS.2.2⟩ (hR.new hn.2 hn.1 (hAA _ hS.1) hat o1 ?_) (hL.mono mi_na_ext mi_nw_cn) (mi_sr_new hn.1 hst)
  unfold mi_en
  rw [c1]
  refine ⟨fs, rfl, by rw [c3]; exact hl, fun k hk => ?_⟩
  rw [c3] at hk
  refine ⟨vp_V fs k, ?_, ?_⟩
  · unfold vp_V
    rw [List.getD_eq_getElem?_getD, List.getElem?_eq_getElem (by omega)]
    rfl
  · have h1 : (mi_nw M r N).1 r (M.2.2 r) k = 0 := by rw [mi_nw_D c7, if_pos ⟨rfl, rfl⟩]
    have h2 : (mi_nw M r N).2.1 r (M.2.2 r) k = -1 := by
      show (if _ then _ else _) = _
      rw [if_pos ⟨rfl, rfl⟩]
    unfold mi_fv
    rw [h1, h2]
    rcases hd k hk with ⟨d1, d2⟩ | ⟨d1, d2⟩ | ⟨d1, d2⟩
    · rw [d1, d2, if_pos (by decide)]; exact ⟨0, rfl, rfl⟩
    · rw [d1, d2, if_pos (by decide)]; exact ⟨0, rfl, rfl⟩
    · rw [d2, if_neg (by omega)]
      obtain ⟨t, ht⟩ : ∃ t, mi_rt r k = t + 2 := ⟨mi_rt r k - 2, by omega⟩
      rw [ht]
      exact Or.inl ⟨by decide, rfl⟩
theorem mi_nlen {n : Int} {N : Nat} {j : Int32} (hj : j.toInt = n) (hn : n = N) : ¬ j < 0 ∧ j.toNatClampNeg = N := by
  subst hj
  refine ⟨fun h => ?_, ?_⟩
  · have h2 : j.toInt < 0 := Int32.lt_iff_toInt_lt.mp h
    omega
  · show j.toInt.toNat = N
    omega
theorem mi_newarrI {r N : Nat} {n : Int} (hdg : decode μ.2.1 pc = .ok (.newarray .int, 2)) (hk : mi_rk r = 0) (hw : Cond.arrayClass .int ∈ mi_tb) (hN : mi_rn r = N) (hn : n = N) (hb : N ≤ 10000) : MiStepA μ pc ls ((0, n) :: st) M (pc + 2) ls ((r + 2, M.2.2 r) :: st) r N := by
  intro hn0 gl p l e R s m args below meth c A C0 H locs cells slots lsA stA ad Q hS hR hL hst hcl1 hsl1 kk
  have hst_ := hst.cons
  clear hst
  obtain ⟨_, _, rfl, ⟨j, rfl, hj⟩, hst⟩ := hst_
  have hK := C0.2.2.2.2.2.2.2.2.1.1
  have hts := C0.2.2.2.2.2.2.2.1
  have hAA := C0.2.2.2.2.2.2.2.2.2.1
  obtain ⟨g1, g2⟩ := mi_nlen hj hn
  refine va_newaK (atype := .int) C0.1 C0.2.1 (hts _ hw) rfl hdg rfl g1 g2 (by show N * 4 ≤ _; omega) hcl1 hsl1 rfl fun H1 cA e1 z1 o1 hAr hNm => ?_
  have hcA : cA = gl.2.1 0 := Option.some.inj (hNm.symm.trans (hK.2 0 (gl.2.1 0, .int) rfl).2)
  subst hcA
  have hat : va_at gl.1 vwCl (H.size, .inl (gl.2.1 0, N, .inl (fun _ => 0))) H1 := e1
  refine kk _ _ H1 ⟨Nat.le_trans hS.1 (by omega), fun x h1 h2 => (o1 x (Nat.lt_of_lt_of_le h1 hS.1)).trans (hS.2.1 x h1 h2), hS.2.2⟩ (hR.new hn0.2 hn0.1 (hAA _ hS.1) hat o1 ?_) (hL.mono mi_na_ext mi_nw_cn) (mi_sr_new hn0.1 hst)
  unfold mi_en
  rw [hk, hN]
  refine ⟨_, rfl, fun i hi => ?_⟩
  rw [mi_nw_D (mi_r0 hn0.2), if_pos ⟨rfl, rfl⟩]; rfl
theorem mi_newarrJ {r N : Nat} {n : Int} (hdg : decode μ.2.1 pc = .ok (.newarray .long, 2)) (hk : mi_rk r = 1) (hw : Cond.arrayClass .long ∈ mi_tb) (hN : mi_rn r = N) (hn : n = N) (hb : N ≤ 10000) : MiStepA μ pc ls ((0, n) :: st) M (pc + 2) ls ((r + 2, M.2.2 r) :: st) r N := by
  intro hn0 gl p l e R s m args below meth c A C0 H locs cells slots lsA stA ad Q hS hR hL hst hcl1 hsl1 kk
  have hst_ := hst.cons
  clear hst
  obtain ⟨_, _, rfl, ⟨j, rfl, hj⟩, hst⟩ := hst_
  have hK := C0.2.2.2.2.2.2.2.2.1.1
  have hts := C0.2.2.2.2.2.2.2.1
  have hAA := C0.2.2.2.2.2.2.2.2.2.1
  obtain ⟨g1, g2⟩ := mi_nlen hj hn
  refine va_newaK (atype := .long) C0.1 C0.2.1 (hts _ hw) rfl hdg rfl g1 g2 (by show N * 8 ≤ _; omega) hcl1 hsl1 rfl fun H1 cA e1 z1 o1 hAr hNm => ?_
  have hcA : cA = gl.2.1 1 := Option.some.inj (hNm.symm.trans (hK.2 1 (gl.2.1 1, .long) rfl).2)
  subst hcA
  have hat : va_at gl.1 vwCl (H.size, .inl (gl.2.1 1, N, .inr (.inl (fun _ => 0)))) H1 := e1
  refine kk _ _ H1 ⟨Nat.le_trans hS.1 (by omega), fun x h1 h2 => (o1 x (Nat.lt_of_lt_of_le h1 hS.1)).trans (hS.2.1 x h1 h2), hS.2.2⟩ (hR.new hn0.2 hn0.1 (hAA _ hS.1) hat o1 ?_) (hL.mono mi_na_ext mi_nw_cn) (mi_sr_new hn0.1 hst)
  unfold mi_en
  rw [hk, hN]
  refine ⟨_, rfl, fun i hi => ?_⟩
  rw [mi_nw_D (mi_r0 hn0.2), if_pos ⟨rfl, rfl⟩]; rfl
theorem mi_newarrB {r N : Nat} {n : Int} (hdg : decode μ.2.1 pc = .ok (.newarray .byte, 2)) (hk : mi_rk r = 4) (hw : Cond.arrayClass .byte ∈ mi_tb) (hN : mi_rn r = N) (hn : n = N) (hb : N ≤ 10000) : MiStepA μ pc ls ((0, n) :: st) M (pc + 2) ls ((r + 2, M.2.2 r) :: st) r N := by
  intro hn0 gl p l e R s m args below meth c A C0 H locs cells slots lsA stA ad Q hS hR hL hst hcl1 hsl1 kk
  have hst_ := hst.cons
  clear hst
  obtain ⟨_, _, rfl, ⟨j, rfl, hj⟩, hst⟩ := hst_
  have hK := C0.2.2.2.2.2.2.2.2.1.1
  have hts := C0.2.2.2.2.2.2.2.1
  have hAA := C0.2.2.2.2.2.2.2.2.2.1
  obtain ⟨g1, g2⟩ := mi_nlen hj hn
  refine va_newaK (atype := .byte) C0.1 C0.2.1 (hts _ hw) rfl hdg rfl g1 g2 (by show N * 1 ≤ _; omega) hcl1 hsl1 rfl fun H1 cA e1 z1 o1 hAr hNm => ?_
  have hcA : cA = gl.2.1 2 := Option.some.inj (hNm.symm.trans (hK.2 2 (gl.2.1 2, .byte) rfl).2)
  subst hcA
  have hat : va_at gl.1 vwCl (H.size, .inl (gl.2.1 2, N, .inl (fun _ => 0))) H1 := e1
  refine kk _ _ H1 ⟨Nat.le_trans hS.1 (by omega), fun x h1 h2 => (o1 x (Nat.lt_of_lt_of_le h1 hS.1)).trans (hS.2.1 x h1 h2), hS.2.2⟩ (hR.new hn0.2 hn0.1 (hAA _ hS.1) hat o1 ?_) (hL.mono mi_na_ext mi_nw_cn) (mi_sr_new hn0.1 hst)
  unfold mi_en
  rw [hk, hN]
  refine ⟨_, rfl, fun i hi => ?_⟩
  rw [mi_nw_D (mi_r0 hn0.2), if_pos ⟨rfl, rfl⟩]; rfl
theorem mi_anew {r N ix : Nat} {n : Int} {C : String} (hdg : decode μ.2.1 pc = .ok (.anewarray ix, 3)) (hk : mi_rk r = 2) (hw : Cond.classLink μ.1.cls ix C ∈ mi_tb) (hao : C ∈ mi_aoL) (hc : mi_rc r < 11 ∧ mi_ty.getD (mi_rc r) .int = .object C) (ht2 : 2 ≤ mi_rt r 0) (hN : mi_rn r = N) (hn : n = N) (hb : N ≤ 10000) : MiStepA μ pc ls ((0, n) :: st) M (pc + 3) ls ((r + 2, M.2.2 r) :: st) r N := by
  intro hn0 gl p l e R s m args below meth c A C0 H locs cells slots lsA stA ad Q hS hR hL hst hcl1 hsl1 kk
  have hst_ := hst.cons
  clear hst
  obtain ⟨_, _, rfl, ⟨j, rfl, hj⟩, hst⟩ := hst_
  have hK := C0.2.2.2.2.2.2.2.2.1.1
  have hts := C0.2.2.2.2.2.2.2.1
  have hAA := C0.2.2.2.2.2.2.2.2.2.1
  have hown := C0.2.2.2.2.2.1
  obtain ⟨g1, g2⟩ := mi_nlen hj hn
  have ht : (mi_tl gl)[mi_rc r]? = some (gl.2.1 (mi_rc r), .object C) := by
    unfold mi_tl
    rw [List.getElem?_map, List.getElem?_range hc.1, ← hc.2]; rfl
  obtain ⟨kA, comp, -, -, -, k4⟩ := (hK.2 _ _ ht).2
  refine W.anew C0.1 C0.2.1 hown (hts _ hw) (va_AO.use (C0.2.2.2.2.2.2.2.2.1.2.2.1 C hao)) rfl hdg rfl g1 (by rw [g2]; omega) hcl1 (by rw [g2]; exact hsl1) fun cA kA comp f1 f2 f3 f4 => ?_
  have hcA : cA = gl.2.1 (mi_rc r) := Option.some.inj (f1.symm.trans k4)
  subst hcA
  rw [g2]
  generalize hH1 : H.push ({ cls := gl.2.1 (mi_rc r), slots := Array.replicate N .null, vm := .none } : Cell) = H1
  have z1 : H1.size = H.size + 1 := by rw [← hH1, Array.size_push]
  have e1 : H1[H.size]? = some (arrV (gl.2.1 (mi_rc r)) N (fun _ => .null)) := by rw [← hH1, Array.getElem?_push_size, ← arrV_new]
  have o1 : ∀ q : Nat, q < H.size → H1[q]? = H[q]? := fun q hq => by rw [← hH1, Array.getElem?_push, if_neg (Nat.ne_of_lt hq)]
  have hat : va_at gl.1 vwCl (H.size, .inl (gl.2.1 (mi_rc r), N, .inr (.inr (.inr (.inr (fun _ => none)))))) H1 := e1
  refine kk _ _ H1 ⟨Nat.le_trans hS.1 (by omega), fun x h1 h2 => (o1 x (Nat.lt_of_lt_of_le h1 hS.1)).trans (hS.2.1 x h1 h2), hS.2.2⟩ (hR.new hn0.2 hn0.1 (hAA _ hS.1) hat o1 ?_) (hL.mono mi_na_ext mi_nw_cn) (mi_sr_new hn0.1 hst)
  unfold mi_en
  rw [hk, hN]
  refine ⟨_, rfl, fun i hi => ?_⟩
  have h2 : (mi_nw M r N).2.1 r (M.2.2 r) i = -1 := by
    show (if _ then _ else _) = _
    rw [if_pos ⟨rfl, rfl⟩]
  rw [h2]
  obtain ⟨t, ht⟩ : ∃ t, mi_rt r 0 = t + 2 := ⟨mi_rt r 0 - 2, by omega⟩
  rw [ht]
  exact Or.inl ⟨by decide, rfl⟩
end MiAlloc
