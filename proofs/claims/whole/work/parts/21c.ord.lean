/-! ===== Op's place in its order: a method that Enum has ===== -/
abbrev m_ord : MiI := (yJx29ce0_ordinal_8abf5, cJx29ce0_ordinal_8abf5, 1, some .int, 1, none)
section MiOrd
variable {μ μ' : MiI} {pc : Nat} {args : List MiV}
theorem mi_invU {ix n : Nat} {x : Int} {y : MethodName} (hdg : decode μ.2.1 pc = .ok (.invokevirtual ix, 3)) (h0 : 0 ≤ x) (htab : μ'.2.2.2.2.2 = none) (hn : μ'.1.cls ≠ "java/lang/invoke/MethodHandle" ∧ μ'.1.cls ≠ "java/lang/invoke/VarHandle" ∧ (parseMethodDescriptor y.desc).map (fun d => d.parameters.length) = some n) (hln : args.length = n) (hlv : mi_lv μ μ')
    (w1 : Cond.methodLink μ.1.cls ix y ∈ mi_tb) (w6 : Cond.sameMethod y.cls μ'.1.cls y.name y.desc ∈ mi_tb) (w2 : Cond.instanceMethod μ'.1 ∈ mi_tb) (w3 : Cond.selects RX3 y μ'.1 ∈ mi_tb) (w4 : Cond.initialized μ'.1.cls ∈ mi_tb) (w7 : Cond.declares ⟨μ'.1.cls, y.name, y.desc⟩ ∈ mi_nest) (w5 : Cond.code μ'.1 μ'.2.1 μ'.2.2.1 μ'.2.2.2.1 ∈ mi_tb) : MiInv μ pc μ' ((28, x) :: args) := by
  intro gl p l e R s m argsA below meth c A C0 H locs cells slots lsA vals rest ad M Pc Qc XC mc ms rm hR hS hsr hsz hM hrc hrs hrf hrl hbl hPc hW hroom
  have hsr_ := hsr.cons
  clear hsr
  obtain ⟨_, vals', rfl, hv, hsr⟩ := hsr_
  obtain ⟨j, rfl, hj, rfl⟩ := mi_c9o (r := 26) hR (by decide) h0 hv
  have hlen : vals'.length = n := (mi_sr_len hsr).trans hln
  have hts := C0.2.2.2.2.2.2.2.1
  have hK := C0.2.2.2.2.2.2.2.2.1
  have hws : mi_ws μ' = Cond.code μ'.1 μ'.2.1 μ'.2.2.1 μ'.2.2.2.1 :: mi_tb := by unfold mi_ws; rw [htab]
  have hG : GoodIn mi_tb (va_wsU μ.1.cls ix RX3 μ'.1.cls y μ'.1 (mi_ws μ')) := by
    rw [hws]
    intro w hw
    simp only [va_wsU, List.cons_append, List.nil_append, List.mem_cons] at hw
    rcases hw with rfl | rfl | rfl | rfl | rfl | rfl | h
    · exact mi_good w1
    · exact mi_good w6
    · exact mi_good w3
    · exact mi_good w2
    · exact mi_good w4
    · exact mi_good w5
    · exact mi_good h
  rw [mi_rev]
  obtain ⟨cell, q1, q2, q3, -⟩ := ((hK.2.1.1.1 j (Int.ofNat_lt.mp hj)).2.1).kept hS.2.1
  exact vx_runU (As := vals') ⟨C0.1, C0.2.1, C0.2.2.1, C0.2.2.2.2.2.1, hts⟩ hM (va_cwA n hts hG hws hrc hrs (hK.2.1.2.2.2.2.2.2.2.2.2.2.2.2.2.2 _ w7) hn ⟨by rw [hrf, C0.2.2.2.2.2.2.2.2.2.2.2.1]; exact hlv.1, by rw [hrl, C0.2.2.2.2.2.2.2.2.2.2.2.2.1]; have := hlv.1; have := hlv.2; omega⟩) ⟨hbl, ⟨cell, q1, q2, q3⟩, hPc⟩ rfl hlen hsz rfl (by show 2 * 0 + _ ≤ 8; omega) hdg hroom
end MiOrd
theorem wo_1 : Cond.methodLink RX9 132 (⟨RX3, "ordinal", "()I"⟩ : MethodName) ∈ mi_tb := mi_tbI 424 (by decide +kernel) rfl
theorem wo_6 : Cond.sameMethod RX3 RJx29ce0 "ordinal" "()I" ∈ mi_tb := mi_tbI 425 (by decide +kernel) rfl
theorem wo_2 : Cond.instanceMethod yJx29ce0_ordinal_8abf5 ∈ mi_tb := mi_tbI 428 (by decide +kernel) rfl
theorem wo_3 : Cond.selects RX3 (⟨RX3, "ordinal", "()I"⟩ : MethodName) yJx29ce0_ordinal_8abf5 ∈ mi_tb := mi_tbI 427 (by decide +kernel) rfl
theorem wo_4 : Cond.initialized RJx29ce0 ∈ mi_tb := mi_tbI 116 (by decide +kernel) rfl
theorem wo_7 : Cond.declares (⟨RJx29ce0, "ordinal", "()I"⟩ : MethodName) ∈ mi_nest := mi_nsI 426 (by decide +kernel) rfl
theorem wo_5 : Cond.code yJx29ce0_ordinal_8abf5 cJx29ce0_ordinal_8abf5 1 (some .int) ∈ mi_tb := mi_tbI 429 (by decide +kernel) rfl
theorem wo_8 : Cond.fieldLink RJx29ce0 7 RJx29ce0 "ordinal" "I" ∈ mi_tb := mi_tbI 1868 (by decide +kernel) rfl
theorem C_ord {D : MiD} {Z : MiZ} (x : Int) (h0 : 0 ≤ x) : MC m_ord [(28, x)] (D, Z) (mi_LI 0 (D, Z) (mi_opo x)) := MC.ofSg (L := mi_LI 0 (D, Z)) (μ := m_ord) (args := [(28, x)]) (M := (D, Z)) rfl (by decide +kernel) (Nat.le_of_ble_eq_true rfl) (show Sg m_ord 0 [(28, x)] [] (D, Z) (mi_LI 0 (D, Z)) (some (mi_opo x)) from
  Sg.go (pc' := 1) (mi_aload_n dJx29ce0_ordinal_8abf5_0 rfl) (Sg.go (pc' := 4) (mi_gfO dJx29ce0_ordinal_8abf5_1 wo_8 h0) (Sg.ret (mi_ireturn dJx29ce0_ordinal_8abf5_4 rfl (Or.inl rfl))))) rfl
theorem mi_ordI {pc : Nat} {μ : MiI} {x : Int} (hc : μ.1.cls = RX9) (hdg : decode μ.2.1 pc = .ok (.invokevirtual 132, 3)) (h0 : 0 ≤ x) (hlv : mi_lv μ m_ord) : MiInv μ pc m_ord [(28, x)] := mi_invU (n := 0) (args := []) (y := ⟨RX3, "ordinal", "()I"⟩) hdg h0 rfl ⟨by decide +kernel, by decide +kernel, by decide +kernel⟩ rfl hlv (by rw [hc]; exact wo_1) wo_6 wo_2 wo_3 wo_4 wo_7 wo_5
/-! ===== methods of texts; new links and new objects in walks ===== -/
theorem mi_oSt (gl : MiG) (A : Nat → Prop) (s : State) (h : mi_k gl A s) (j : Nat) (hj : (j : Int) < mi_sn 27) : va_O "java/lang/String" (gl.2.2 27 j) A s s.heap := (h.2.1.2.2.2.1 j (Int.ofNat_lt.mp hj)).1
section MiOrd2
variable {μ μ' : MiI} {pc : Nat} {args : List MiV}
theorem mi_invC {ix n r : Nat} {x : Int} {C : String} (hdg : decode μ.2.1 pc = .ok (.invokevirtual ix, 3)) (hr : 9 ≤ mi_rk r) (hO : ∀ (gl : MiG) (A : Nat → Prop) (s : State), mi_k gl A s → ∀ j : Nat, (j : Int) < mi_sn r → va_O C (gl.2.2 r j) A s s.heap) (h0 : 0 ≤ x) (htab : μ'.2.2.2.2.2 = none) (hcl : μ'.1.cls = C) (hn : MiN μ'.1 n) (hln : args.length = n) (hlv : mi_lv μ μ')
    (w1 : Cond.methodLink μ.1.cls ix μ'.1 ∈ mi_tb) (w2 : Cond.instanceMethod μ'.1 ∈ mi_tb) (w3 : Cond.selects C μ'.1 μ'.1 ∈ mi_tb) (w4 : Cond.initialized C ∈ mi_tb) (w5 : Cond.code μ'.1 μ'.2.1 μ'.2.2.1 μ'.2.2.2.1 ∈ mi_tb) : MiInv μ pc μ' ((r + 2, x) :: args) := by
  intro gl p l e R s m argsA below meth c A C0 H locs cells slots lsA vals rest ad M Pc Qc XC mc ms rm hR hS hsr hsz hM hrc hrs hrf hrl hbl hPc hW hroom
  have hsr_ := hsr.cons
  clear hsr
  obtain ⟨_, vals', rfl, hv, hsr⟩ := hsr_
  obtain ⟨j, rfl, hj, rfl⟩ := mi_c9o hR hr h0 hv
  have hlen : vals'.length = n := (mi_sr_len hsr).trans hln
  have hts := C0.2.2.2.2.2.2.2.1
  have hws : mi_ws μ' = Cond.code μ'.1 μ'.2.1 μ'.2.2.1 μ'.2.2.2.1 :: mi_tb := by unfold mi_ws; rw [htab]
  have hG : GoodIn mi_tb (wsV μ.1.cls ix C μ'.1 (mi_ws μ')) := by
    rw [hws]
    intro w hw
    simp only [wsV, List.cons_append, List.nil_append, List.mem_cons] at hw
    rcases hw with rfl | rfl | rfl | rfl | rfl | h
    · exact mi_good w1
    · exact mi_good w2
    · exact mi_good w3
    · exact mi_good w4
    · exact mi_good w5
    · exact mi_good h
  rw [mi_rev]
  obtain ⟨cell, q1, q2, q3, -⟩ := (hO gl A s C0.2.2.2.2.2.2.2.2.1 j hj).kept hS.2.1
  exact vx_runV (As := vals') ⟨C0.1, C0.2.1, C0.2.2.1, C0.2.2.2.2.2.1, hts⟩ hM (cwV n hts hG hws hrc hrs ⟨hcl, hn⟩ ⟨by rw [hrf, C0.2.2.2.2.2.2.2.2.2.2.2.1]; exact hlv.1, by rw [hrl, C0.2.2.2.2.2.2.2.2.2.2.2.2.1]; have := hlv.1; have := hlv.2; omega⟩) ⟨hbl, ⟨cell, q1, q2, q3⟩, hPc⟩ rfl hlen hsz rfl (by show 2 * 0 + _ ≤ 8; omega) hdg hroom
variable {α : Type} {pc' : Nat} {ls st ls' st' : List MiV} {D : MiD} {Z : MiZ} {L : α → MiO}
theorem Sg.letZ {t : MiZ} {f : MiZ → Option α} (h : ∀ Z', Z' = t → Sg μ pc ls st (D, Z') L (f Z')) : Sg μ pc ls st (D, t) L (mi_let t f) := h t rfl
def mi_nl {β : Type} (D : MiD) (Z : MiZ) (r n : Nat) (f : MiD → MiZ → β) : β := f (mi_nw (D, Z) r n).1 (mi_nw (D, Z) r n).2
theorem Sg.nl {r n : Nat} {f : MiD → MiZ → Option α} (h : MiStepA μ pc ls st (D, Z) pc' ls' st' r n) (hr : mi_rk r < 9) (k : 0 ≤ Z.2 r → ∀ D1 Z1, Sg μ pc' ls' st' (D1, Z1) L (f D1 Z1)) : Sg μ pc ls st (D, Z) L (if 0 ≤ Z.2 r then mi_nl D Z r n f else Option.none) :=
  Sg.ck fun h0 => Sg.goA h h0 hr (k h0 _ _)
end MiOrd2
