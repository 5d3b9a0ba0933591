/-! ===== the start: what is there, and the claim out of the law's walk ===== -/
section MiStart
variable {args : Array Value} {s : State} {A : Nat → Prop}
theorem mi_wN (h : ∀ w ∈ mi_nar, w.before args s = true) {i : Nat} {w : Cond} (hi : mi_nar[i]? = some w) : w.before args s = true := h w (List.mem_of_getElem? hi)
theorem mi_wT (h : ∀ w ∈ lw_tbl, w.before args s = true) {i : Nat} {w : Cond} (hi : lw_tbl[i]? = some w) : w.before args s = true := h w (List.mem_of_getElem? hi)
theorem mi_len0 {i : Nat} (hi : i < 64) : mi_len.getD i 0 ≤ 16 := mi_nS6 ⟨i, hi⟩
theorem mi_st_S (h : ∀ w ∈ mi_nar, w.before args s = true) (hA : ∀ a : Nat, a < s.heap.size → ¬ A a) : ∃ adK adV : Nat → Nat, ∀ i : Nat, i < 64 → (mi_tS i).eval args s none [] s = some (.ref (adK i)) ∧ va_O "java/lang/String" (adK i) A s s.heap ∧ va_OF "java/lang/String" "coder" "B" (.int 0) (adK i) A s s.heap ∧ va_OF "java/lang/String" "value" "[B" (.ref (adV i)) (adK i) A s s.heap ∧ va_T .byte (adV i) (mi_len.getD i 0) (fun j => .int ((mi_chr.getD i []).getD j 0)) A s s.heap := by
  have h0 : ∀ i : Nat, ∃ q : Nat × Nat, i < 64 → (mi_tS i).eval args s none [] s = some (.ref q.1) ∧ va_O "java/lang/String" q.1 A s s.heap ∧ va_OF "java/lang/String" "coder" "B" (.int 0) q.1 A s s.heap ∧ va_OF "java/lang/String" "value" "[B" (.ref q.2) q.1 A s s.heap ∧ va_T .byte q.2 (mi_len.getD i 0) (fun j => .int ((mi_chr.getD i []).getD j 0)) A s s.heap := by
    intro i
    by_cases hi : i < 64
    · have hl := mi_len0 hi
      obtain ⟨k, v, hS, he⟩ := vk_Sof (A := A) (N := 1) (tm := fun _ => mi_tS i) (len := [mi_len.getD i 0]) (byt := [mi_chr.getD i []]) (args := args) (s := s)
        (fun j hj => by
          obtain rfl : j = 0 := by omega
          show mi_len.getD i 0 < 2 ^ 31
          omega)
        (fun j hj => mi_wN h (mi_nS1 ⟨i, hi⟩)) (fun j hj => mi_wN h (mi_nS2 ⟨i, hi⟩)) (fun j hj => mi_wN h (mi_nS3 ⟨i, hi⟩))
        (fun j hj => by
          obtain rfl : j = 0 := by omega
          exact mi_wN h (mi_nS4 ⟨i, hi⟩))
        (fun j hj q hq => by
          obtain rfl : j = 0 := by omega
          have hq' : q < mi_len.getD i 0 := hq
          exact mi_wN h (mi_nS5 ⟨i, hi⟩ ⟨q, by omega⟩ hq'))
        (fun j j' hj hj' hne => absurd (show j = j' by omega) hne) hA
      exact ⟨(k 0, v 0), fun _ => ⟨he 0 (by decide), hS.1 0 (by decide)⟩⟩
    · exact ⟨(0, 0), fun h => absurd h hi⟩
  obtain ⟨ad, had⟩ := Classical.axiomOfChoice h0
  exact ⟨fun i => (ad i).1, fun i => (ad i).2, had⟩
theorem mi_st_E (h : ∀ w ∈ mi_nar, w.before args s = true) (ht : ∀ w ∈ lw_tbl, w.before args s = true) (hA : ∀ a : Nat, a < s.heap.size → ¬ A a) : ∃ ad : Nat → Nat, (∀ i, i < 19 → (mi_tE i).eval args s none [] s = some (.ref (ad i))) ∧ va_En RX3 "LMendedProgram$Op;" mi_opN [("java/lang/Enum", "ordinal", "I", (List.range 19).map Int32.ofNat)] ad A s s.heap := by
  have h0 : ∀ i : Nat, ∃ t : Nat, i < 19 → (mi_tE i).eval args s none [] s = some (.ref t) := by
    intro i
    by_cases hi : i < 19
    · obtain ⟨a, c, cell, k, q1, -⟩ := Cond.exactly_spec (mi_wN h (mi_nE1 ⟨i, hi⟩))
      exact ⟨a, fun _ => q1⟩
    · exact ⟨0, fun h => absurd h hi⟩
  obtain ⟨ad, had⟩ := Classical.axiomOfChoice h0
  refine ⟨ad, had, fun i hi => ?_, fun i j hi hj e => ?_⟩
  · have hi' : i < 19 := hi
    refine ⟨va_Zof (mi_wT ht (mi_nE4 ⟨i, hi'⟩)) (mi_wT ht mi_e5) (had i hi') hA, va_Oof (mi_wN h (mi_nE1 ⟨i, hi'⟩)) (had i hi') hA, fun q hq => ?_⟩
    rw [List.mem_singleton] at hq
    subst hq
    exact vk_OFof (had i hi') (va_eqt (mi_wN h (mi_nE2 ⟨i, hi'⟩))) hA
  · have hi' : i < 19 := hi
    have hj' : j < 19 := hj
    rcases Nat.lt_trichotomy i j with hlt | rfl | hlt
    · rcases mi_nE3 ⟨i, hi'⟩ ⟨j, hj'⟩ hlt with z | z
      · exact absurd e (va_neR (mi_wN h z) (had i hi') (had j hj'))
      · exact absurd e.symm (va_neR (mi_wN h z) (had j hj') (had i hi'))
    · rfl
    · rcases mi_nE3 ⟨j, hj'⟩ ⟨i, hi'⟩ hlt with z | z
      · exact absurd e.symm (va_neR (mi_wN h z) (had j hj') (had i hi'))
      · exact absurd e (va_neR (mi_wN h z) (had i hi') (had j hj'))
theorem mi_yp {t : FieldType} (h : (Cond.arrayClass t).before args s = true) : ∃ c : ClassId, ArrOfT s c t ∧ s.vm.findClass ("[" ++ t.toString) = some c := by
  obtain ⟨c, k, comp, h1, h2, h3⟩ := Cond.arrayClass_spec h
  exact ⟨c, fun n z => ⟨(fun q h => by cases h), k, h2, comp, h3⟩, h1⟩
theorem mi_yo {C : String} (h : (Cond.arrayOver (.object C)).before args s = true) : ∃ c : ClassId, ArrOfT s c (.object C) ∧ va_RA s c (.object C) := by
  obtain ⟨comp, c, k, h1, -, h2, h3, h4⟩ := Cond.arrayOver_spec h
  exact ⟨c, fun n z => ⟨(fun q h => by cases h), k, h2, comp, h3⟩, k, comp, h2, h3, h1, h4⟩
theorem mi_ya {t : FieldType} (h : (Cond.arrayOver (.array t)).before args s = true) : ∃ c : ClassId, ArrOfT s c (.array t) ∧ va_RA s c (.array t) := by
  obtain ⟨comp, c, k, h1, -, h2, h3, h4⟩ := arrayOverA_spec h
  exact ⟨c, fun n z => ⟨(fun q h => by cases h), k, h2, comp, h3⟩, h4⟩
theorem mi_st_y (ht : ∀ w ∈ lw_tbl, w.before args s = true) : ∃ y : Nat → ClassId, ∀ k : Nat, k < 11 → ArrOfT s (y k) (mi_ty.getD k .int) ∧ va_RA s (y k) (mi_ty.getD k .int) := by
  have h0 : ∀ k : Nat, ∃ c : ClassId, k < 11 → ArrOfT s c (mi_ty.getD k .int) ∧ va_RA s c (mi_ty.getD k .int) := by
    intro k
    match k with
    | 0 => obtain ⟨c, h⟩ := mi_yp (mi_wT ht mi_o23); exact ⟨c, fun _ => h⟩
    | 1 => obtain ⟨c, h⟩ := mi_yp (mi_wT ht mi_o24); exact ⟨c, fun _ => h⟩
    | 2 => obtain ⟨c, h⟩ := mi_yp (mi_wT ht mi_o25); exact ⟨c, fun _ => h⟩
    | 3 => obtain ⟨c, h⟩ := mi_yo (mi_wT ht mi_o15); exact ⟨c, fun _ => h⟩
    | 4 => obtain ⟨c, h⟩ := mi_yo (mi_wT ht mi_o17); exact ⟨c, fun _ => h⟩
    | 5 => obtain ⟨c, h⟩ := mi_yo (mi_wT ht mi_o18); exact ⟨c, fun _ => h⟩
    | 6 => obtain ⟨c, h⟩ := mi_yo (mi_wT ht mi_o19); exact ⟨c, fun _ => h⟩
    | 7 => obtain ⟨c, h⟩ := mi_yo (mi_wT ht mi_o16); exact ⟨c, fun _ => h⟩
    | 8 => obtain ⟨c, h⟩ := mi_ya (mi_wT ht mi_o20); exact ⟨c, fun _ => h⟩
    | 9 => obtain ⟨c, h⟩ := mi_ya (mi_wT ht mi_o21); exact ⟨c, fun _ => h⟩
    | 10 => obtain ⟨c, h⟩ := mi_ya (mi_wT ht mi_o22); exact ⟨c, fun _ => h⟩
    | k + 11 => exact ⟨0, fun h => absurd h (by omega)⟩
  obtain ⟨y, hy⟩ := Classical.axiomOfChoice h0
  exact ⟨y, hy⟩
theorem mi_st_c (ht : ∀ w ∈ lw_tbl, w.before args s = true) : ∃ D : va_G, ∀ (c : Nat) (q : vw_C), vwCl[c]? = some q → u_Kn s q.1 q.2.1 q.2.2 (D.1 c) (D.2 c) := by
  have hts : ∀ w ∈ mi_tb, w.before args s = true := fun w hw => ht w (List.mem_filter.mp hw).1
  have h0 : ∀ c : Nat, ∃ d : ClassId × (Nat → Nat), ∀ q : vw_C, vwCl[c]? = some q → u_Kn s q.1 q.2.1 q.2.2 d.1 d.2 := by
    intro c
    match c with
    | 0 => obtain ⟨a, b, h⟩ := u_known hts hC_6.2.2.2.1 (hts _ wG_X1); exact ⟨(a, b), fun q hq => by cases hq; exact h⟩
    | 1 => obtain ⟨a, b, h⟩ := u_known hts hC_7.2.2.2.1 (hts _ wG_X2); exact ⟨(a, b), fun q hq => by cases hq; exact h⟩
    | 2 => obtain ⟨a, b, h⟩ := u_known hts hC_8.2.2.2.1 (hts _ wG_X4); exact ⟨(a, b), fun q hq => by cases hq; exact h⟩
    | 3 => obtain ⟨a, b, h⟩ := u_known hts hC_9.2.2.2.1 (hts _ wG_X5); exact ⟨(a, b), fun q hq => by cases hq; exact h⟩
    | 4 => obtain ⟨a, b, h⟩ := u_known hts hC_3.2.2.2.1 (hts _ wG_X6); exact ⟨(a, b), fun q hq => by cases hq; exact h⟩
    | 5 => obtain ⟨a, b, h⟩ := u_known hts hC_4.2.2.2.1 (hts _ wG_X7); exact ⟨(a, b), fun q hq => by cases hq; exact h⟩
    | 6 => obtain ⟨a, b, h⟩ := u_known hts hC_5.2.2.2.1 (hts _ wG_X8); exact ⟨(a, b), fun q hq => by cases hq; exact h⟩
    | 7 => obtain ⟨a, b, h⟩ := u_known hts hC_2.2.2.2.1 (hts _ wG_X9); exact ⟨(a, b), fun q hq => by cases hq; exact h⟩
    | 8 => obtain ⟨a, b, h⟩ := u_known hts hC_1.2.2.2.1 (hts _ wG_X10); exact ⟨(a, b), fun q hq => by cases hq; exact h⟩
    | 9 => obtain ⟨a, b, h⟩ := u_known hts hC_40.2.2.2.1 (hts _ wG_X11); exact ⟨(a, b), fun q hq => by cases hq; exact h⟩
    | c + 10 => exact ⟨(0, fun _ => 0), fun q hq => by simp at hq⟩
  obtain ⟨d, hd⟩ := Classical.axiomOfChoice h0
  exact ⟨(fun c => (d c).1, fun c => (d c).2), hd⟩
theorem mi_st_n (ht : ∀ w ∈ lw_tbl, w.before args s = true) : ∀ w ∈ mi_nest, va_Nw w s := by
  intro w hw
  have h1 := ht w (List.mem_filter.mp hw).1
  have h2 : (mi_nest.all (fun w => w.onTables)) = true := by decide +kernel
  exact va_tabs (List.all_eq_true.mp h2 w hw) rfl h1
/-- all that the walks take as known -/
theorem mi_stAll (h : ∀ w ∈ mi_nar, w.before args s = true) (ht : ∀ w ∈ lw_tbl, w.before args s = true) (hA : ∀ a : Nat, a < s.heap.size → ¬ A a) (b : Nat) : ∃ gl : MiG, mi_k gl A s ∧ gl.2.2 33 0 = b := by
  obtain ⟨D, hD⟩ := mi_st_c ht
  obtain ⟨y, hy⟩ := mi_st_y ht
  obtain ⟨adK, adV, hS⟩ := mi_st_S h hA
  obtain ⟨adE, hE1, hE2⟩ := mi_st_E h ht hA
  obtain ⟨tH, hH1, hH2⟩ := va_Tof (tm := mi_aH_t) (N := 11) (f := fun i => .int (mi_hoL.getD i 0)) (by decide) (mi_wN h mi_aH_1) (va_eqt (mi_wN h mi_aH_2)) (fun j hj => va_eqt (mi_wN h (mi_aH_3 ⟨j, hj⟩))) hA
  obtain ⟨tM, hM1, hM2⟩ := va_Tof (tm := mi_aM_t) (N := 19) (f := fun i => .int (mi_smL.getD i 0)) (by decide) (mi_wN h mi_aM_1) (va_eqt (mi_wN h mi_aM_2)) (fun j hj => va_eqt (mi_wN h (mi_aM_3 ⟨j, hj⟩))) hA
  obtain ⟨tP, hP1, hP2⟩ := va_Tof (tm := mi_aP_t) (N := 19) (f := fun i => .ref (adE i)) (by decide) (mi_wN h mi_aP_1) (va_eqt (mi_wN h mi_aP_2)) (fun j hj => va_eqv (mi_wN h (mi_aP_3 ⟨j, hj⟩)) (hE1 j hj)) hA
  obtain ⟨tF, hF⟩ : ∃ t : Nat, va_Z "jdk/internal/util/Preconditions" "SIOOBE_FORMATTER" "Ljava/util/function/BiFunction;" .null A s s.heap ∨ va_Z "jdk/internal/util/Preconditions" "SIOOBE_FORMATTER" "Ljava/util/function/BiFunction;" (.ref t) A s s.heap := by
    rcases va_Zqof (mi_wT ht mi_o5) (mi_wT ht mi_o6) (mi_wN h mi_o4) hA with z | ⟨t, z⟩
    · exact ⟨0, Or.inl z⟩
    · exact ⟨t, Or.inr z⟩
  refine ⟨(D, y, fun r x => if r = 26 then adE x else if r = 27 then adK x else if r = 31 then adV x else if r = 28 then tH else if r = 29 then tM else if r = 30 then tP else if r = 32 then tF else b), ⟨⟨hD, fun k q hq => ?_⟩, ⟨hE2, ?_, ?_, ?_, ?_, ?_, hH2, ?_, hM2, ?_, hP2, ?_, ?_, ?_, mi_st_n ht⟩, ?_, ?_, hF, ?_⟩, rfl⟩
  · unfold mi_tl at hq
    rw [List.getElem?_map] at hq
    by_cases hk : k < 11
    · rw [List.getElem?_range hk] at hq
      cases hq
      exact hy k hk
    · rw [List.getElem?_eq_none (by rw [List.length_range]; omega)] at hq
      cases hq
  · intro i hi
    have hw : mi_wIx.getD i 0 < 64 := mi_gd (by decide) (by decide) i
    exact vk_OFof (hE1 i hi) (va_eqv (mi_wN h (mi_pWo_n ⟨i, hi⟩)) (hS _ hw).1) hA
  · intro i hi
    have hw : mi_pIx.getD i 0 < 64 := mi_gd (by decide) (by decide) i
    exact vk_OFof (hE1 i hi) (va_eqv (mi_wN h (mi_pPa_n ⟨i, hi⟩)) (hS _ hw).1) hA
  · intro i hi
    exact (hS i hi).2
  · intro i q hq
    have hi : i < 64 := (List.getElem?_eq_some_iff.mp hq).1
    have e : mi_str.getD i ("", 0, "") = q := by rw [List.getD_eq_getElem?_getD, hq]; rfl
    have h1 := mi_wT ht (mi_nR ⟨i, hi⟩)
    have h2 := (hS i hi).1
    unfold mi_tS at h2
    dsimp only at h1
    rw [e] at h1 h2
    exact vk_R.of h1 h2
  · exact va_Zof (mi_wT ht mi_aH_4) (mi_wT ht mi_aH_5) hH1 hA
  · exact va_Zof (mi_wT ht mi_aM_4) (mi_wT ht mi_aM_5) hM1 hA
  · exact va_Zof (mi_wT ht mi_aP_4) (mi_wT ht mi_aP_5) hP1 hA
  · exact va_Zof (mi_wT ht mi_o2) (mi_wT ht mi_o3) (va_eqi (mi_wN h mi_o1)) hA
  · exact vx_Zqof (mi_wT ht mi_o8) (mi_wT ht mi_o11) (mi_wN h mi_o7) hA
  · exact vx_Zqof (mi_wT ht mi_o10) (mi_wT ht mi_o11) (mi_wN h mi_o9) hA
  · intro C hC
    unfold mi_aoL at hC
    simp only [List.mem_cons, List.not_mem_nil, or_false] at hC
    rcases hC with rfl | rfl | rfl | rfl | rfl
    · exact va_AO.of (mi_wT ht mi_o15)
    · exact va_AO.of (mi_wT ht mi_o16)
    · exact va_AO.of (mi_wT ht mi_o17)
    · exact va_AO.of (mi_wT ht mi_o18)
    · exact va_AO.of (mi_wT ht mi_o19)
  · intro q hq
    unfold mi_ncL at hq
    simp only [List.mem_cons, List.not_mem_nil, or_false] at hq
    rcases hq with rfl | rfl | rfl
    · exact va_Nc.of (mi_wN h mi_o12)
    · exact va_Nc.of (mi_wN h mi_o13)
    · exact va_Nc.of (mi_wN h mi_o14)
  · intro t hT
    unfold mi_aaL at hT
    simp only [List.mem_cons, List.not_mem_nil, or_false] at hT
    have hb : ∀ t : FieldType, (Cond.arrayOver t).before args s = true → (Cond.arrayOver t).before #[] s = true := fun t h => by
      unfold Cond.before Cond.holds at h ⊢
      simp only [Cond.value] at h ⊢
      exact h
    rcases hT with rfl | rfl | rfl
    · exact hb _ (mi_wT ht mi_o20)
    · exact hb _ (mi_wT ht mi_o21)
    · exact hb _ (mi_wT ht mi_o22)
end MiStart
/-- nothing made yet -/
def mi_i0 : MiM := (fun _ _ _ => 0, fun _ _ _ => 0, mi_sn)
theorem mi_sn9 {r : Nat} (h : mi_rk r < 9) : mi_sn r = 0 := by
  unfold mi_sn
  repeat' split
  all_goals first | rfl | (rename_i z; subst z; exact absurd h (by decide))
theorem mi_cw0 (S : Nat → Bool) : mi_cw S mi_i0.2 := ⟨fun r _ h => Int.le_of_eq (mi_sn9 h), fun _ _ => rfl⟩
theorem mi_cb0 : (mi_cb mi_i0 mi_i0 mi_i0).2.2 = mi_sn := by
  funext r
  show (if _ then _ else if _ then _ else _) = _
  split
  · rfl
  · split <;> rfl
theorem mi_roomLe {p : Program} {l : Launch} {e : Env} {R R' : Room} {s : State} {m : MethodId} {args : Array Value} {below : List Frame} {meth : Method} {c : Code} {T : State} {locs : List Loc} {cells slots : Nat} (X : Stand p l e R s m args below meth c T locs cells slots) (h1 : R'.frames ≤ R.frames) (h2 : R'.locals ≤ R.locals) (h3 : R'.cells ≤ R.cells) (h4 : R'.slots ≤ R.slots) : Stand p l e R' s m args below meth c T locs cells slots := by
  refine ⟨X.admits, X.cas, X.clock, X.frames, ?_, X.hears, X.method, X.code, X.here, X.tail, X.warmed, X.limits, X.bytes, X.same⟩
  have h := X.room
  simp only [State.hasRoom, Bool.and_eq_true, decide_eq_true_eq] at h ⊢
  obtain ⟨⟨⟨⟨g1, g2, g3, g4, g5, g6⟩, g7⟩, g8⟩, g9⟩ := h
  exact ⟨⟨⟨⟨by omega, by omega, by omega, by omega, by omega, g6⟩, by omega⟩, by omega⟩, g9⟩
/-- the claim's walk, if the law's function comes to 1 in the claim's room -/
theorem mi_whole {p : Program} {e : Env} {s : State} {m : MethodId} {below : List Frame} {meth : Method} {c : Code} (l : Launch) (hflags : l.flags = flags0) {b L : Nat} {xs : Nat → Int32} (hL : L ≤ 3072) (C0 : lw_At p s m meth c b L xs) (hnm : meth.name = "law") (htab : ∀ x ∈ c.exceptionTable.toList, False)
    {q : Int × (MiM × (MiM × MiM))} (hq : B_L_law L xs mi_i0 mi_i0 mi_i0 = some q) (hq1 : q.1 = 1) (hqc : q.2.1.1 0 0 0 + q.2.2.1.1 0 0 0 + q.2.2.2.1 0 0 0 ≤ 601024) (hqs : q.2.1.1 0 0 1 + q.2.2.1.1 0 0 1 + q.2.2.2.1 0 0 1 ≤ 7293034) :
    W p l e room_1 s m #[Value.ref b] below meth c s.heap [] 0 0 (lw_Z below #[Value.ref b] s) (entryFrame m ([Value.ref b] : List Value).toArray 8) := by
  obtain ⟨hx, hb, hr, hml, hown, hts, hX, hbl, hlocks, hgv⟩ := id C0
  have hnar : ∀ w ∈ mi_nar, w.before #[Value.ref b] s = true := flat_of_before _ hgv
  have hA0 : ∀ a : Nat, a < s.heap.size → ¬ (fun q : Nat => s.heap.size ≤ q) a := fun a ha => Nat.not_le.mpr ha
  obtain ⟨gl, hk, h33⟩ := mi_stAll (A := fun q : Nat => s.heap.size ≤ q) hnar hts hA0 b
  have hT : mi_lP L xs gl s #[Value.ref b] (fun q : Nat => s.heap.size ≤ q) c := by
    obtain ⟨scr, x1, x2, x3, x4, x5⟩ := hX
    show va_T .int (gl.2.2 33 0) L _ _ s s.heap
    rw [h33]
    exact ⟨scr, x1, x2, x3, by omega, by rw [x4], x5, hA0 b hbl⟩
  have hS := S_L_law hL (M0 := mi_i0) (M1 := mi_i0) (M2 := mi_i0) (xs := xs) rfl rfl rfl (mi_cw0 _) (mi_cw0 _) q hq _ rfl
  obtain ⟨hle, K⟩ := hS
  obtain ⟨l1, l2, l3⟩ := hle
  have z0 : (mi_cb mi_i0 mi_i0 mi_i0).1 0 0 0 = 0 := rfl
  have z1 : (mi_cb mi_i0 mi_i0 mi_i0).1 0 0 1 = 0 := rfl
  have y0 : (mi_cb q.2.1 q.2.2.1 q.2.2.2).1 0 0 0 = q.2.1.1 0 0 0 + q.2.2.1.1 0 0 0 + q.2.2.2.1 0 0 0 := rfl
  have y1 : (mi_cb q.2.1 q.2.2.1 q.2.2.2).1 0 0 1 = q.2.1.1 0 0 1 + q.2.2.1.1 0 0 1 + q.2.2.2.1 0 0 1 := rfl
  dsimp only at l2 l3
  rw [z0, y0] at l2
  rw [z1, y1] at l3
  generalize hR0 : ({ frames := 16, cells := (q.2.1.1 0 0 0 + q.2.2.1.1 0 0 0 + q.2.2.2.1 0 0 0).toNat, slots := (q.2.1.1 0 0 1 + q.2.2.1.1 0 0 1 + q.2.2.2.1 0 0 1).toNat, locals := 640 } : Room) = R0
  have r1 : R0.frames = 16 := by rw [← hR0]
  have r2 : R0.locals = 640 := by rw [← hR0]
  have r3 : (R0.cells : Int) = q.2.1.1 0 0 0 + q.2.2.1.1 0 0 0 + q.2.2.2.1 0 0 0 := by rw [← hR0]; exact Int.toNat_of_nonneg l2
  have r4 : (R0.slots : Int) = q.2.1.1 0 0 1 + q.2.2.1.1 0 0 1 + q.2.2.2.1 0 0 1 := by rw [← hR0]; exact Int.toNat_of_nonneg l3
  intro T hTT X
  have X0 : Stand p l e R0 s m #[Value.ref b] below meth c T [] 0 0 := mi_roomLe X (by rw [r1]; decide) (by rw [r2]; decide) (by show R0.cells ≤ 601024; omega) (by show R0.slots ≤ 7293034; omega)
  have hst : l.stackTraces = false := by
    unfold Launch.stackTraces
    rw [hflags]
    decide
  have hsr : mi_sr (fun r x => gl.2.2 r x.toNat) mi_sn [((35, 0) : MiV)] [Value.ref b] := ⟨Or.inr ⟨Int.le_refl 0, by decide, by show Value.ref b = .ref (gl.2.2 33 0); rw [h33]⟩, trivial⟩
  have hlr := mi_ent_lr (n := 8) hsr (by decide)
  rw [lg_entry_eq] at *
  obtain ⟨t, a1, o, a2, a3, a4⟩ := K gl p l e R0 s m #[Value.ref b] below meth c (fun q : Nat => s.heap.size ≤ q) ⟨hx, hb, hml, hr, hlocks, hown, hnm, fun w hw => hts w (List.mem_filter.mp hw).1, hk, fun q hq => hq, hst, r1, r2, fun _ => htab⟩ hT
    s.heap [] 0 0 _ [] (fun r x => gl.2.2 r x.toNat) (fun r x => gl.2.2 r x.toNat) mi_sn 0 0
    ⟨va_S.rf, ⟨fun r x k1 k2 k3 => by rw [mi_cb0, mi_sn9 k1] at k3; omega, fun r x r' x' k1 _ k2 k3 => by rw [mi_cb0, mi_sn9 k1] at k3; omega, fun r hr9 => ⟨by rw [mi_cb0], fun x => rfl⟩⟩, by rw [mi_cb0]; exact hlr, trivial, fun _ _ _ _ => rfl, fun r => by rw [mi_cb0]; exact Int.le_refl _, by rw [z0]; rfl, by rw [z1]; rfl, by dsimp only; rw [y0]; omega, by dsimp only; rw [y1]; omega⟩ T hTT X0
  refine ⟨t, a1, o, a2, a3, ?_⟩
  rcases a4 with ⟨⟨ad', v, ho, hrv, -⟩, LL, ⟨-, f2, f3⟩, hLL⟩ | ⟨qq, ho, E, ce, L9, ⟨x1, -⟩, -⟩
  · subst ho
    rcases hrv with ⟨g1, -⟩ | ⟨-, w, rfl, i, rfl, hi⟩
    · exact absurd (show (1 : Nat) = 0 from g1) (by decide)
    · have hi2 : i = 1 := Int32.toInt_inj.mp (hi.trans hq1)
      subst hi2
      exact ⟨rfl, ⟨_, rfl⟩, f2, f3.weaken (fun y hy hlt => absurd (hLL y hy) (Nat.not_le.mpr hlt)) (by omega) (by omega)⟩
  · exact absurd (show (1 : Nat) = 2 from x1) (by decide)
