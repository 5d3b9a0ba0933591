/-! ===== throwing, in the small machine ===== -/
def mi_xN : List String := ["java/lang/RuntimeException", "java/lang/Exception"]
def mi_xc (D : MiD) : MiD := mi_st (mi_st D 0 0 0 (D 0 0 0 + 1)) 0 0 1 (D 0 0 1 + 6)
theorem mi_places {L : List Cond} (is : List Nat) (h : L.map some = is.map (fun i => lw_tbl[i]?)) : ∀ w ∈ L, w ∈ lw_tbl := by
  intro w hw
  have h1 : some w ∈ L.map some := List.mem_map.mpr ⟨w, hw, rfl⟩
  rw [h] at h1
  obtain ⟨i, -, hi⟩ := List.mem_map.mp h1
  exact List.mem_of_getElem? hi
def mi_isN (w : Cond) : Bool := match w with | .methodLinkNest .. => true | .fieldLinkNest .. => true | .castable .. => true | .declares .. => true | _ => false
theorem mi_split {L : List Cond} (h : ∀ w ∈ L, w ∈ lw_tbl) (g : L.all (fun w => goodWord w || mi_isN w) = true) : ∀ w ∈ L, w ∈ mi_tb ∨ w ∈ mi_nest := by
  intro w hw
  have h1 := List.all_eq_true.mp g w hw
  rcases Bool.or_eq_true _ _ ▸ h1 with h2 | h2
  · exact Or.inl (List.mem_filter.mpr ⟨h w hw, h2⟩)
  · refine Or.inr (List.mem_filter.mpr ⟨h w hw, ?_⟩)
    cases w <;> first | rfl | cases h2
theorem mi_nest_use {w : Cond} (h : w ∈ mi_nest) {A : Array Value} {U : State} (hZ : va_Nw w U) : w.before A U = true := by
  unfold mi_nest at h
  have h2 := (List.mem_filter.mp h).2
  cases w <;> first | exact va_Nw.use rfl hZ | cases h2
theorem mi_rp.grow {gl : MiG} {A : Nat → Prop} {ad : Nat → Int → Nat} {D D' : MiD} {Z : MiZ} {H H1 : Heap} (h : mi_rp gl A ad (D, Z) H) (hD : ∀ r j i, r ≠ 0 → D' r j i = D r j i) (hq : ∀ q : Nat, q < H.size → H1[q]? = H[q]?) : mi_rp gl A ad (D', Z) H1 := by
  obtain ⟨a1, a2, a3⟩ := h
  refine ⟨fun r x k1 k2 k3 => ?_, a2, a3⟩
  obtain ⟨b1, e, b2, b3⟩ := a1 r x k1 k2 k3
  exact ⟨b1, e, b2.kept (hq _ b2.lt), b3.cong (funext fun i => hD r x i (mi_r0 k1)) rfl (fun v w hv => hv)⟩
theorem mi_throw {μ : MiI} {pc : Nat} {ls st : List MiV} {D : MiD} {Z : MiZ} {k ik is ic ix j : Nat} {rx : ByteArray} {cls tx : String} (hk : cls = mi_exn k) (r0 : decode rx 0 = .ok (.aload_n 0, 1)) (r1 : decode rx 1 = .ok (.aload_n 1, 1)) (r2 : decode rx 2 = .ok (.invokespecial ix, 3)) (r5 : decode rx 5 = .ok (.return_, 1)) (hcls : Bundle.fit cls = true)
    (w1 : Cond.classLink μ.1.cls ik cls ∈ mi_tb) (w2 : Cond.initialized cls ∈ mi_tb) (hq : mi_str[j]? = some (μ.1.cls, is, tx)) (hat : ∀ w ∈ (mi_own μ.1.cls ic cls ix rx mi_xN).filter vx_no, w ∈ mi_tb ∨ w ∈ mi_nest) (hgood : ∀ w ∈ Cond.classLink μ.1.cls ik cls :: Cond.initialized cls :: (mi_own μ.1.cls ic cls ix rx mi_xN).filter vx_no, vx_ot w = true)
    (hl : 6 ≤ μ.2.2.2.2.1) (hh : μ.2.2.2.2.2 = none) (hW : mi_cs st ≤ 8) (d0 : decode μ.2.1 pc = .ok (.new ik, 3)) (d3 : decode μ.2.1 (pc + 3) = .ok (.dup, 1)) (d4 : decode μ.2.1 (pc + 4) = .ok (.ldc_w is, 3)) (d7 : decode μ.2.1 (pc + 7) = .ok (.invokespecial ic, 3)) (d10 : decode μ.2.1 (pc + 10) = .ok (.athrow, 1)) :
    Sim μ pc ls st (D, Z) (some ((2, (k, 0)), (mi_xc D, Z))) := by
  intro r hr
  cases hr
  have x0 : mi_xc D 0 0 0 = D 0 0 0 + 1 := by simp [mi_xc, mi_st]
  have x1 : mi_xc D 0 0 1 = D 0 0 1 + 6 := by simp [mi_xc, mi_st]
  have xo : ∀ r j i, r ≠ 0 → mi_xc D r j i = D r j i := fun r j i h => by simp [mi_xc, mi_st, h]
  refine ⟨⟨fun _ => Int.le_refl _, by show D 0 0 0 ≤ mi_xc D 0 0 0; omega, by show D 0 0 1 ≤ mi_xc D 0 0 1; omega⟩, fun gl p l e R s m args below meth c A C0 H locs cells slots lsA stA ad ad0 cn0 k0 n0 S => ?_⟩
  obtain ⟨s1, s2, s3, s4, s5, s6, s7, s8, s9, s10⟩ := S
  have hts := C0.2.2.2.2.2.2.2.1
  have hK := C0.2.2.2.2.2.2.2.2.1
  have hf := C0.2.2.2.2.2.2.2.2.2.2.2.1
  have hlo := C0.2.2.2.2.2.2.2.2.2.2.2.2.1
  have hc := mi_cs_eq s4
  have s7' : (cells : Int) = D 0 0 0 - k0 := s7
  have s8' : (slots : Int) = D 0 0 1 - n0 := s8
  have s9' : (R.cells : Int) = mi_xc D 0 0 0 - k0 := s9
  have s10' : (R.slots : Int) = mi_xc D 0 0 1 - n0 := s10
  rw [x0] at s9'
  rw [x1] at s10'
  exact mi_throwW (names := mi_xN) C0.1 C0.2.1 C0.2.2.2.2.2.2.2.2.2.2.1 r0 r1 r2 r5 C0.2.2.2.2.2.1 hcls (by decide +kernel) (hts _ w1) (hts _ w2) (hK.2.1.2.2.2.2.1 j _ hq)
    (fun w hw => (hat w hw).elim (fun h => hts _ h) (fun h => mi_nest_use h (hK.2.1.2.2.2.2.2.2.2.2.2.2.2.2.2.2 _ h))) hgood hK.2.1.2.2.2.2.2.2.2.2.2.2.2.2.1 hK.2.1.2.2.2.2.2.2.2.2.2.2.2.2.2.1 s1 (by rw [C0.2.2.1]; exact s3.1)
    d0 d3 d4 d7 d10 (fun x hx => (C0.2.2.2.2.2.2.2.2.2.2.2.2.2 hh x hx).elim) (by show 2 + 3 < _; omega) (by show _ + (13 * (2 + 1) + 43) ≤ _; omega) (by omega) (by omega) C0.2.2.2.2.1
    (fun t _ h1 h2 => ⟨rfl, hk, ad, s5, s2.grow xo h2, Nat.le_trans s1.1 h1, fun q hq hA => by rw [h2 q (Nat.lt_of_lt_of_le hq s1.1)]; exact s1.2.1 q hq hA⟩) s1.2.2 (by omega) (by omega)
def mi_rxE : ByteArray := ⟨#[0x2a, 0x2b, 0xb7, 0x00, 0x0d, 0xb1]⟩
theorem mi_xwE : ∀ w ∈ (mi_own RX10 317 "java/util/NoSuchElementException" 13 mi_rxE mi_xN).filter vx_no, w ∈ lw_tbl := mi_places [100, 605, 614, 618, 621, 623, 606, 607, 126, 127, 608, 613, 619, 639, 595, 640, 597, 641, 599, 609, 611, 601, 635, 636, 638, 601, 626, 627, 628, 629, 587, 629, 630, 631, 632, 589, 632, 633, 634, 635, 591, 625, 584, 585, 592, 593, 594, 596, 598, 600, 604, 603, 602] (by decide +kernel)
theorem mi_xaE : ∀ w ∈ (mi_own RX10 317 "java/util/NoSuchElementException" 13 mi_rxE mi_xN).filter vx_no, w ∈ mi_tb ∨ w ∈ mi_nest := mi_split mi_xwE (by decide +kernel)
theorem mi_xgE : ∀ w ∈ Cond.classLink RX10 313 "java/util/NoSuchElementException" :: Cond.initialized "java/util/NoSuchElementException" :: (mi_own RX10 317 "java/util/NoSuchElementException" 13 mi_rxE mi_xN).filter vx_no, vx_ot w = true := List.all_eq_true.mp (by decide +kernel)
theorem mi_xlE : Cond.classLink RX10 313 "java/util/NoSuchElementException" ∈ mi_tb := mi_tbI 583 (by decide +kernel) rfl
theorem mi_xiE : Cond.initialized "java/util/NoSuchElementException" ∈ mi_tb := mi_tbI 103 (by decide +kernel) rfl
abbrev m_X10_needElement : MiI := (yX10_needElement, cX10_needElement, 2, none, 6, none)
theorem mi_xtE {ls : List MiV} {D : MiD} {Z : MiZ} : Sim m_X10_needElement 14 ls [] (D, Z) (some ((2, (0, 0)), (mi_xc D, Z))) := mi_throw (rx := mi_rxE) (j := 0) (ix := 13) rfl (by decide +kernel) (by decide +kernel) (by decide +kernel) (by decide +kernel) (by decide +kernel) mi_xlE mi_xiE rfl mi_xaE mi_xgE (Nat.le_refl _) rfl (by decide) dX10_needElement_14 dX10_needElement_17 dX10_needElement_18 dX10_needElement_21 dX10_needElement_24
def mi_rxA : ByteArray := ⟨#[0x2a, 0x2b, 0xb7, 0x00, 0x07, 0xb1]⟩
theorem mi_xwA : ∀ w ∈ (mi_own RX10 324 "java/lang/IllegalArgumentException" 7 mi_rxA mi_xN).filter vx_no, w ∈ lw_tbl := mi_places [100, 605, 614, 618, 621, 623, 606, 607, 126, 127, 608, 613, 619, 639, 595, 640, 597, 641, 599, 609, 611, 601, 635, 636, 638, 601, 665, 666, 667, 629, 587, 629, 630, 631, 632, 589, 632, 633, 634, 635, 591, 664, 655, 656, 657, 616, 658, 659, 660, 661, 604, 603, 662] (by decide +kernel)
theorem mi_xaA : ∀ w ∈ (mi_own RX10 324 "java/lang/IllegalArgumentException" 7 mi_rxA mi_xN).filter vx_no, w ∈ mi_tb ∨ w ∈ mi_nest := mi_split mi_xwA (by decide +kernel)
theorem mi_xgA : ∀ w ∈ Cond.classLink RX10 320 "java/lang/IllegalArgumentException" :: Cond.initialized "java/lang/IllegalArgumentException" :: (mi_own RX10 324 "java/lang/IllegalArgumentException" 7 mi_rxA mi_xN).filter vx_no, vx_ot w = true := List.all_eq_true.mp (by decide +kernel)
theorem mi_xlA : Cond.classLink RX10 320 "java/lang/IllegalArgumentException" ∈ mi_tb := mi_tbI 654 (by decide +kernel) rfl
theorem mi_xiA : Cond.initialized "java/lang/IllegalArgumentException" ∈ mi_tb := mi_tbI 104 (by decide +kernel) rfl
abbrev m_X10_needArgument : MiI := (yX10_needArgument, cX10_needArgument, 2, none, 6, none)
theorem mi_xtA {ls : List MiV} {D : MiD} {Z : MiZ} : Sim m_X10_needArgument 14 ls [] (D, Z) (some ((2, (1, 0)), (mi_xc D, Z))) := mi_throw (rx := mi_rxA) (j := 1) (ix := 7) rfl (by decide +kernel) (by decide +kernel) (by decide +kernel) (by decide +kernel) (by decide +kernel) mi_xlA mi_xiA rfl mi_xaA mi_xgA (Nat.le_refl _) rfl (by decide) dX10_needArgument_14 dX10_needArgument_17 dX10_needArgument_18 dX10_needArgument_21 dX10_needArgument_24
def mi_rxS : ByteArray := ⟨#[0x2a, 0x2b, 0xb7, 0x00, 0x07, 0xb1]⟩
theorem mi_xwS : ∀ w ∈ (mi_own RX10 329 "java/lang/IllegalStateException" 7 mi_rxS mi_xN).filter vx_no, w ∈ lw_tbl := mi_places [100, 605, 614, 618, 621, 623, 606, 607, 126, 127, 608, 613, 619, 639, 595, 640, 597, 641, 599, 609, 611, 601, 635, 636, 638, 601, 689, 690, 691, 629, 587, 629, 630, 631, 632, 589, 632, 633, 634, 635, 591, 688, 679, 680, 681, 617, 682, 683, 684, 685, 604, 603, 686] (by decide +kernel)
theorem mi_xaS : ∀ w ∈ (mi_own RX10 329 "java/lang/IllegalStateException" 7 mi_rxS mi_xN).filter vx_no, w ∈ mi_tb ∨ w ∈ mi_nest := mi_split mi_xwS (by decide +kernel)
theorem mi_xgS : ∀ w ∈ Cond.classLink RX10 325 "java/lang/IllegalStateException" :: Cond.initialized "java/lang/IllegalStateException" :: (mi_own RX10 329 "java/lang/IllegalStateException" 7 mi_rxS mi_xN).filter vx_no, vx_ot w = true := List.all_eq_true.mp (by decide +kernel)
theorem mi_xlS : Cond.classLink RX10 325 "java/lang/IllegalStateException" ∈ mi_tb := mi_tbI 678 (by decide +kernel) rfl
theorem mi_xiS : Cond.initialized "java/lang/IllegalStateException" ∈ mi_tb := mi_tbI 105 (by decide +kernel) rfl
abbrev m_X10_needState : MiI := (yX10_needState, cX10_needState, 2, none, 6, none)
theorem mi_xtS {ls : List MiV} {D : MiD} {Z : MiZ} : Sim m_X10_needState 14 ls [] (D, Z) (some ((2, (2, 0)), (mi_xc D, Z))) := mi_throw (rx := mi_rxS) (j := 2) (ix := 7) rfl (by decide +kernel) (by decide +kernel) (by decide +kernel) (by decide +kernel) (by decide +kernel) mi_xlS mi_xiS rfl mi_xaS mi_xgS (Nat.le_refl _) rfl (by decide) dX10_needState_14 dX10_needState_17 dX10_needState_18 dX10_needState_21 dX10_needState_24
