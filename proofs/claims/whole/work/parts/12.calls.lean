/-! ===== calls ===== -/
theorem mi_good {w : Cond} (h : w ∈ mi_tb) : w ∈ mi_tb ∧ ((w.onTables && w.keeps) = true ∨ ∃ ty, w = .arrayClass ty) := ⟨h, good_of_word (List.mem_filter.mp h).2⟩
theorem mi_pc_blind {gl : MiG} {A : Nat → Prop} {ad : Nat → Int → Nat} {args : List MiV} {M : MiM} : FrameBlind (mi_pc gl A ad args M) := by
  intro a U g mk h
  obtain ⟨vals, h1, h2, h3, h4, h5⟩ := h
  exact ⟨vals, h1, h2, h3, mi_k.same h4 rfl rfl, h5⟩
/-- how an instruction of calling runs the method: with its contract, the machine comes back or throws -/
def MiInv (μ : MiI) (pc : Nat) (μ' : MiI) (args : List MiV) : Prop :=
  ∀ (gl : MiG) (p : Program) (l : Launch) (e : Env) (R : Room) (s : State) (m : MethodId) (argsA : Array Value) (below : List Frame) (meth : Method) (c : Code) (A : Nat → Prop), mi_cx μ gl p l R s m argsA meth c A →
    ∀ (H : Heap) (locs : List Loc) (cells slots : Nat) (lsA : Array Slot) (vals rest : List Value) (ad : Nat → Int → Nat) (M : MiM) (Pc : Array Value → State → Prop) (Qc : Array Value → State → Outcome → State → Prop) (XC : String → State → State → Prop) (mc ms : Nat) (rm : Room),
      mi_rp gl A ad M H → va_S A s.heap H locs → mi_sr ad M.2.2 args vals → lsA.size = μ.2.2.1 → vx_Met l μ'.1 (mi_ws μ') rm Pc Qc XC mc ms A → rm.cells = mc → rm.slots = ms → rm.frames = μ'.2.2.2.2.1 → rm.locals = 40 * μ'.2.2.2.2.1 → FrameBlind Pc →
      (∀ U : State, U.heap = H → s.WarmedH U.vm → Pc vals.toArray U) → (rest.map fun v => v.category).sum ≤ 8 → cells + mc ≤ R.cells ∧ slots + ms ≤ R.slots →
      vx_Run p l e R s m argsA below meth c H locs cells slots mc ms (F0 m pc lsA (vals.reverse ++ rest)) rest (Qc vals.toArray) XC A
/-- a name that may be called, with so many arguments (its own object aside) -/
def MiN (y : MethodName) (n : Nat) : Prop := y.cls ≠ "java/lang/invoke/MethodHandle" ∧ y.cls ≠ "java/lang/invoke/VarHandle" ∧ (parseMethodDescriptor y.desc).map (fun d => d.parameters.length) = some n
def mi_lv (μ μ' : MiI) : Prop := μ'.2.2.2.2.1 + 1 ≤ μ.2.2.2.2.1 ∧ μ'.2.2.1 ≤ 20
theorem mi_recv {gl : MiG} {A : Nat → Prop} {ad : Nat → Int → Nat} {M : MiM} {H : Heap} {s : State} {r : Nat} {x : Int} {C : String} {T : u_T} {N : Nat} {ty : Nat → FieldType} (hK : va_K gl.1 vwCl (mi_tl gl) s) (hR : mi_rp gl A ad M H) (hC : MiC r C T N ty) (h0 : 0 ≤ x) (h1 : x < M.2.2 r) : ∃ cell : Cell, H[ad r x]? = some cell ∧ cell.vm.isStatics = false ∧ s.vm.findClass C = some cell.cls := by
  obtain ⟨-, e0, hat, hen⟩ := hR.1 r x (by rw [hC.1]; decide) h0 h1
  obtain ⟨fs, rfl, -⟩ := mi_en3 hC.1 hen
  exact va_recv hK (mi_P1 hat) hC.2.1 (q0 := 0) rfl
theorem mi_rev {a : Value} {l rest : List Value} : (a :: l).reverse ++ rest = l.reverse ++ a :: rest := by simp
section MiCalls
variable {μ μ' : MiI} {pc : Nat} {args : List MiV}
/-- a method of an object of ours (a private one of the own class, too) -/
theorem mi_invV {ix n r : Nat} {x : Int} {C : String} {T : u_T} {N : Nat} {ty : Nat → FieldType} (hdg : decode μ.2.1 pc = .ok (.invokevirtual ix, 3)) (hC : MiC r C T N ty) (h0 : 0 ≤ x) (htab : μ'.2.2.2.2.2 = none) (hcl : μ'.1.cls = C) (hn : MiN μ'.1 n) (hln : args.length = n) (hlv : mi_lv μ μ')
    (w1 : Cond.methodLink μ.1.cls ix μ'.1 ∈ mi_tb) (w2 : Cond.instanceMethod μ'.1 ∈ mi_tb) (w3 : Cond.selects C μ'.1 μ'.1 ∈ mi_tb) (w4 : Cond.initialized C ∈ mi_tb) (w5 : Cond.code μ'.1 μ'.2.1 μ'.2.2.1 μ'.2.2.2.1 ∈ mi_tb) : MiInv μ pc μ' ((r + 2, x) :: args) := by
  intro gl p l e R s m argsA below meth c A C0 H locs cells slots lsA vals rest ad M Pc Qc XC mc ms rm hR hS hsr hsz hM hrc hrs hrf hrl hbl hPc hW hroom
  have hsr_ := hsr.cons
  clear hsr
  obtain ⟨_, vals', rfl, hv, hsr⟩ := hsr_
  rcases hv with ⟨z, -⟩ | ⟨-, h1, rfl⟩
  · exact absurd z (by omega)
  have hlen : vals'.length = n := by
    rw [← hln]
    clear hPc hln
    induction args generalizing vals' with
    | nil => cases vals' with | nil => rfl | cons a b => exact hsr.elim
    | cons a b ih => cases vals' with | nil => exact hsr.elim | cons u v => simp [ih v hsr.2]
  have hts := C0.2.2.2.2.2.2.2.1
  have hws : mi_ws μ' = Cond.code μ'.1 μ'.2.1 μ'.2.2.1 μ'.2.2.2.1 :: mi_tb := by unfold mi_ws; rw [htab]
  have hG : GoodIn mi_tb (wsV μ.1.cls ix C μ'.1 (mi_ws μ')) := by
    rw [hws]
    intro w hw
    simp only [wsV, List.cons_append, List.nil_append, List.mem_cons] at hw
    rcases hw with rfl | rfl | rfl | rfl | rfl | h
    · exact mi_good w1
    · exact mi_good w2
    · exact mi_good w3
    · exact mi_good w4
    · exact mi_good w5
    · exact mi_good h
  rw [mi_rev]
  exact vx_runV (As := vals') ⟨C0.1, C0.2.1, C0.2.2.1, C0.2.2.2.2.2.1, hts⟩ hM (cwV n hts hG hws hrc hrs ⟨hcl, hn⟩ ⟨by rw [hrf, C0.2.2.2.2.2.2.2.2.2.2.2.1]; exact hlv.1, by rw [hrl, C0.2.2.2.2.2.2.2.2.2.2.2.2.1]; have := hlv.1; have := hlv.2; omega⟩) ⟨hbl, mi_recv C0.2.2.2.2.2.2.2.2.1.1 hR hC h0 h1, hPc⟩ rfl hlen hsz rfl (by show 2 * 0 + _ ≤ 8; omega) hdg hroom
theorem mi_sr_len {ad : Nat → Int → Nat} {cn : Nat → Int} : ∀ {args : List MiV} {vals : List Value}, mi_sr ad cn args vals → vals.length = args.length
  | [], [], _ => rfl
  | [], _ :: _, h => h.elim
  | _ :: _, [], h => h.elim
  | _ :: l, _ :: k, h => by simp [mi_sr_len h.2]
/-- a static method -/
theorem mi_invS {ix n : Nat} (hdg : decode μ.2.1 pc = .ok (.invokestatic ix, 3)) (htab : μ'.2.2.2.2.2 = none) (hn : MiN μ'.1 n) (hln : args.length = n) (hlv : mi_lv μ μ')
    (w1 : Cond.methodLink μ.1.cls ix μ'.1 ∈ mi_tb) (w2 : Cond.static μ'.1 ∈ mi_tb) (w4 : Cond.initialized μ'.1.cls ∈ mi_tb) (w5 : Cond.code μ'.1 μ'.2.1 μ'.2.2.1 μ'.2.2.2.1 ∈ mi_tb) : MiInv μ pc μ' args := by
  intro gl p l e R s m argsA below meth c A C0 H locs cells slots lsA vals rest ad M Pc Qc XC mc ms rm hR hS hsr hsz hM hrc hrs hrf hrl hbl hPc hW hroom
  have hlen := (mi_sr_len hsr).trans hln
  have hts := C0.2.2.2.2.2.2.2.1
  have hws : mi_ws μ' = Cond.code μ'.1 μ'.2.1 μ'.2.2.1 μ'.2.2.2.1 :: mi_tb := by unfold mi_ws; rw [htab]
  have hG : GoodIn mi_tb (va_wsS μ.1.cls ix μ'.1 (mi_ws μ')) := by
    rw [hws]
    intro w hw
    simp only [va_wsS, List.cons_append, List.nil_append, List.mem_cons] at hw
    rcases hw with rfl | rfl | rfl | rfl | h
    · exact mi_good w1
    · exact mi_good w2
    · exact mi_good w4
    · exact mi_good w5
    · exact mi_good h
  exact vx_runS ⟨C0.1, C0.2.1, C0.2.2.1, C0.2.2.2.2.2.1, hts⟩ hM (va_cwS n hts hG hws hrc hrs hn ⟨by rw [hrf, C0.2.2.2.2.2.2.2.2.2.2.2.1]; exact hlv.1, by rw [hrl, C0.2.2.2.2.2.2.2.2.2.2.2.2.1]; have := hlv.1; have := hlv.2; omega⟩) ⟨hbl, hPc⟩ rfl hlen hsz rfl (by show 2 * 0 + _ ≤ 8; omega) hdg hroom
/-- a constructor -/
theorem mi_invI {ix n r : Nat} {x : Int} (hdg : decode μ.2.1 pc = .ok (.invokespecial ix, 3)) (h0 : 0 ≤ x) (htab : μ'.2.2.2.2.2 = none) (hret : μ'.2.2.2.1 = none) (hnm : μ'.1.name = "<init>") (hn : MiN μ'.1 n) (hln : args.length = n) (hlv : mi_lv μ μ')
    (w1 : Cond.methodLink μ.1.cls ix μ'.1 ∈ mi_tb) (w2 : Cond.instanceMethod μ'.1 ∈ mi_tb) (w4 : Cond.initialized μ'.1.cls ∈ mi_tb) (w5 : Cond.code μ'.1 μ'.2.1 μ'.2.2.1 none ∈ mi_tb) : MiInv μ pc μ' ((r + 2, x) :: args) := by
  intro gl p l e R s m argsA below meth c A C0 H locs cells slots lsA vals rest ad M Pc Qc XC mc ms rm hR hS hsr hsz hM hrc hrs hrf hrl hbl hPc hW hroom
  have hsr_ := hsr.cons
  clear hsr
  obtain ⟨_, vals', rfl, hv, hsr⟩ := hsr_
  rcases hv with ⟨z, -⟩ | ⟨-, h1, rfl⟩
  · exact absurd z (by omega)
  have hlen := (mi_sr_len hsr).trans hln
  have hts := C0.2.2.2.2.2.2.2.1
  have hws : mi_ws μ' = Cond.code μ'.1 μ'.2.1 μ'.2.2.1 none :: mi_tb := by unfold mi_ws; rw [htab, hret]
  have hG : GoodIn mi_tb (mi_ws μ') := by
    rw [hws]
    intro w hw
    simp only [List.mem_cons] at hw
    rcases hw with rfl | h
    · exact mi_good w5
    · exact mi_good h
  rw [mi_rev]
  exact vx_runI (As := vals') ⟨C0.1, C0.2.1, C0.2.2.1, C0.2.2.2.2.2.1, hts⟩ hM (cwI n hts hG hws hrc hrs (hts _ w4) (hts _ w1) (hts _ w2) hnm hn ⟨by rw [hrf, C0.2.2.2.2.2.2.2.2.2.2.2.1]; exact hlv.1, by rw [hrl, C0.2.2.2.2.2.2.2.2.2.2.2.2.1]; have := hlv.1; have := hlv.2; omega⟩) ⟨hbl, hPc⟩ rfl hlen hsz rfl (by show 2 * 0 + _ ≤ 8; omega) hdg hroom
/-- a private constructor of a nest mate -/
theorem mi_invIN {ix n r : Nat} {x : Int} {host : String} (hdg : decode μ.2.1 pc = .ok (.invokespecial ix, 3)) (h0 : 0 ≤ x) (htab : μ'.2.2.2.2.2 = none) (hret : μ'.2.2.2.1 = none) (hnm : μ'.1.name = "<init>") (hn : MiN μ'.1 n) (hln : args.length = n) (hlv : mi_lv μ μ')
    (w1 : Cond.methodLinkNest μ.1.cls ix μ'.1 host ∈ mi_nest) (w2 : Cond.instanceMethod μ'.1 ∈ mi_tb) (w4 : Cond.initialized μ'.1.cls ∈ mi_tb) (w5 : Cond.code μ'.1 μ'.2.1 μ'.2.2.1 none ∈ mi_tb) : MiInv μ pc μ' ((r + 2, x) :: args) := by
  intro gl p l e R s m argsA below meth c A C0 H locs cells slots lsA vals rest ad M Pc Qc XC mc ms rm hR hS hsr hsz hM hrc hrs hrf hrl hbl hPc hW hroom
  have hsr_ := hsr.cons
  clear hsr
  obtain ⟨_, vals', rfl, hv, hsr⟩ := hsr_
  rcases hv with ⟨z, -⟩ | ⟨-, h1, rfl⟩
  · exact absurd z (by omega)
  have hlen := (mi_sr_len hsr).trans hln
  have hts := C0.2.2.2.2.2.2.2.1
  have hws : mi_ws μ' = Cond.code μ'.1 μ'.2.1 μ'.2.2.1 none :: mi_tb := by unfold mi_ws; rw [htab, hret]
  have hG : GoodIn mi_tb (mi_ws μ') := by
    rw [hws]
    intro w hw
    simp only [List.mem_cons] at hw
    rcases hw with rfl | h
    · exact mi_good w5
    · exact mi_good h
  rw [mi_rev]
  exact vx_runIN (As := vals') ⟨C0.1, C0.2.1, C0.2.2.1, C0.2.2.2.2.2.1, hts⟩ hM ⟨va_cnB n hts hG hws hrc hrs (C0.2.2.2.2.2.2.2.2.1.2.1.2.2.2.2.2.2.2.2.2.2.2.2.2.2 _ w1) (hts _ w4) hn ⟨by rw [hrf, C0.2.2.2.2.2.2.2.2.2.2.2.1]; exact hlv.1, by rw [hrl, C0.2.2.2.2.2.2.2.2.2.2.2.2.1]; have := hlv.1; have := hlv.2; omega⟩, hnm, hts _ w2⟩ ⟨hbl, hPc⟩ rfl hlen hsz rfl (by show 2 * 0 + _ ≤ 8; omega) hdg hroom
/-- a private static method of a nest mate -/
theorem mi_invSN {ix n : Nat} {host : String} (hdg : decode μ.2.1 pc = .ok (.invokestatic ix, 3)) (htab : μ'.2.2.2.2.2 = none) (hn : MiN μ'.1 n) (hln : args.length = n) (hlv : mi_lv μ μ')
    (w1 : Cond.methodLinkNest μ.1.cls ix μ'.1 host ∈ mi_nest) (w2 : Cond.static μ'.1 ∈ mi_tb) (w4 : Cond.initialized μ'.1.cls ∈ mi_tb) (w5 : Cond.code μ'.1 μ'.2.1 μ'.2.2.1 μ'.2.2.2.1 ∈ mi_tb) : MiInv μ pc μ' args := by
  intro gl p l e R s m argsA below meth c A C0 H locs cells slots lsA vals rest ad M Pc Qc XC mc ms rm hR hS hsr hsz hM hrc hrs hrf hrl hbl hPc hW hroom
  have hlen := (mi_sr_len hsr).trans hln
  have hts := C0.2.2.2.2.2.2.2.1
  have hws : mi_ws μ' = Cond.code μ'.1 μ'.2.1 μ'.2.2.1 μ'.2.2.2.1 :: mi_tb := by unfold mi_ws; rw [htab]
  have hG : GoodIn mi_tb (mi_ws μ') := by
    rw [hws]
    intro w hw
    simp only [List.mem_cons] at hw
    rcases hw with rfl | h
    · exact mi_good w5
    · exact mi_good h
  exact vx_runSN ⟨C0.1, C0.2.1, C0.2.2.1, C0.2.2.2.2.2.1, hts⟩ hM ⟨va_cnB n hts hG hws hrc hrs (C0.2.2.2.2.2.2.2.2.1.2.1.2.2.2.2.2.2.2.2.2.2.2.2.2.2 _ w1) (hts _ w4) hn ⟨by rw [hrf, C0.2.2.2.2.2.2.2.2.2.2.2.1]; exact hlv.1, by rw [hrl, C0.2.2.2.2.2.2.2.2.2.2.2.2.1]; have := hlv.1; have := hlv.2; omega⟩, hts _ w2, trivial⟩ ⟨hbl, hPc⟩ rfl hlen hsz rfl (by show 2 * 0 + _ ≤ 8; omega) hdg hroom
end MiCalls
/-- what a call leaves on the stack -/
def mi_rs (q : Nat × MiV) : List MiV := if q.1 = 1 then [q.2] else []
def mi_cs (st : List MiV) : Nat := (st.map (fun v => if v.1 = 1 then 2 else 1)).sum
theorem mi_cs_eq {ad : Nat → Int → Nat} {cn : Nat → Int} : ∀ {st : List MiV} {k : List Value}, mi_sr ad cn st k → (k.map fun v => v.category).sum = mi_cs st
  | [], [], _ => rfl
  | [], _ :: _, h => h.elim
  | _ :: _, [], h => h.elim
  | u :: l, w :: k, h => by
    have ih := mi_cs_eq h.2
    unfold mi_cs at ih ⊢
    simp only [List.map_cons, List.sum_cons, ih, mi_cat h.1]
theorem mi_sr_app {ad : Nat → Int → Nat} {cn : Nat → Int} : ∀ {a b : List MiV} {k : List Value}, mi_sr ad cn (a ++ b) k → ∃ u v, k = u ++ v ∧ mi_sr ad cn a u ∧ mi_sr ad cn b v
  | [], b, k, h => ⟨[], k, rfl, trivial, h⟩
  | _ :: _, _, [], h => h.elim
  | x :: a, b, w :: k, h => by
    obtain ⟨u, v, rfl, h1, h2⟩ := mi_sr_app (a := a) h.2
    exact ⟨w :: u, v, rfl, ⟨h.1, h1⟩, h2⟩
theorem mi_sr_snoc {ad : Nat → Int → Nat} {cn : Nat → Int} {x : MiV} {w : Value} (hx : mi_vr ad cn x w) : ∀ {a : List MiV} {k : List Value}, mi_sr ad cn a k → mi_sr ad cn (a ++ [x]) (k ++ [w])
  | [], [], _ => ⟨hx, trivial⟩
  | [], _ :: _, h => h.elim
  | _ :: _, [], h => h.elim
  | _ :: _, _ :: _, h => ⟨h.1, mi_sr_snoc hx h.2⟩
theorem mi_sr_rev {ad : Nat → Int → Nat} {cn : Nat → Int} : ∀ {a : List MiV} {k : List Value}, mi_sr ad cn a k → mi_sr ad cn a.reverse k.reverse
  | [], [], _ => trivial
  | [], _ :: _, h => h.elim
  | _ :: _, [], h => h.elim
  | x :: a, w :: k, h => by
    rw [List.reverse_cons, List.reverse_cons]
    exact mi_sr_snoc h.1 (mi_sr_rev h.2)
theorem Sim.call {μ μ' : MiI} {pc : Nat} {ls st args : List MiV} {M : MiM} {r' : MiO} {o : Option MiO} (hI : MiInv μ pc μ' args) (hM : MC μ' args M r') (hnt : r'.1.1 < 2) (hW : mi_cs st ≤ 8) (k : Sim μ (pc + 3) ls (mi_rs r'.1 ++ st) r'.2 o) : Sim μ pc ls (args.reverse ++ st) M o := by
  intro r hr
  obtain ⟨hle, K⟩ := k r hr
  obtain ⟨hle', hMet⟩ := hM
  have hl1 := hle'.2.1
  have hl2 := hle'.2.2
  have hl3 := hle.2.1
  have hl4 := hle.2.2
  refine ⟨hle'.trans hle, fun gl p l e R s m argsA below meth c A C H locs cells slots lsA stA ad ad0 cn0 k0 n0 S => ?_⟩
  obtain ⟨s1, s2, s3, s4, s5, s6, s7, s8, s9, s10⟩ := S
  obtain ⟨u, rest, rfl, hu, hrest⟩ := mi_sr_app s4
  have hv := mi_sr_rev hu
  rw [List.reverse_reverse] at hv
  have hkc : ((mi_kc M r' : Nat) : Int) = r'.2.1 0 0 0 - M.1 0 0 0 := by unfold mi_kc; omega
  have hks : ((mi_ks M r' : Nat) : Int) = r'.2.1 0 0 1 - M.1 0 0 1 := by unfold mi_ks; omega
  have hrun := hI gl p l e R s m argsA below meth c A C H locs cells slots lsA u.reverse rest ad M _ _ _ (mi_kc M r') (mi_ks M r') (mi_rm μ' M r') s2 s1 hv s3.1 (hMet gl l A ad C.2.2.2.2.2.2.2.2.2.2.1) rfl rfl rfl rfl mi_pc_blind
    (fun U hU hWU => ⟨u.reverse, rfl, hv, by rw [hU]; exact s2, C.2.2.2.2.2.2.2.2.1.warm hWU (fun a h1 h2 => by rw [hU]; exact s1.2.1 a h1 h2), fun q hq => C.2.2.2.2.2.2.2.2.2.1 q (Nat.le_trans s1.1 (by rw [← hU]; exact hq))⟩) (by rw [mi_cs_eq hrest]; exact hW) ⟨by omega, by omega⟩
  rw [List.reverse_reverse] at hrun
  intro T hT X
  rcases hrun T hT X with ⟨v, st₀, t, T', L, h0, X', hL, e1, e2, hQ, hgo⟩ | ⟨q, st₀, t, T', L, E, ce, h0, X', hL, e1, e2, hQ, -⟩
  · obtain ⟨ad', v', hv', hrv, hext, hrp, hF⟩ := hQ
    cases hv'
    obtain ⟨k1, k2, k3⟩ := vx_keep h0 e1 s1 (fun _ _ z => z) (fun _ z => z) hL hF
    have hstk : mi_sr ad' r'.2.2.2 (mi_rs r'.1 ++ st) (v.toList ++ rest) := by
      unfold mi_rs
      rcases hrv with ⟨z, rfl⟩ | ⟨z, w, rfl, hw⟩
      · rw [if_neg (by omega)]
        exact hrest.mono hext hle'.1
      · rw [if_pos z]
        exact ⟨hw, hrest.mono hext hle'.1⟩
    obtain ⟨t2, a1, b1⟩ := K gl p l e R s m argsA below meth c A C T'.heap (locs ++ L) (cells + mi_kc M r') (slots + mi_ks M r') lsA (v.toList ++ rest) ad' ad0 cn0 k0 n0
      ⟨k3, by rw [e1]; exact hrp, s3.mono hext hle'.1, hstk, fun t x a b => (hext t x a (Int.lt_of_lt_of_le b (s6 t))).trans (s5 t x a b), fun t => Int.le_trans (s6 t) (hle'.1 t), by omega, by omega, s9, s10⟩ T' rfl X'
    exact ⟨t2, hgo t2 a1, b1⟩
  · exact absurd hQ.1 (by omega)
/-- what the callee throws goes on to the caller's caller -/
theorem Sim.callX {μ μ' : MiI} {pc : Nat} {ls st args : List MiV} {M : MiM} {r' : MiO} (hI : MiInv μ pc μ' args) (hM : MC μ' args M r') (htab : μ.2.2.2.2.2 = none) (hnt : r'.1.1 = 2) (hW : mi_cs st ≤ 8) : Sim μ pc ls (args.reverse ++ st) M (some r') := by
  intro r hr
  cases hr
  obtain ⟨hle', hMet⟩ := hM
  have hl1 := hle'.2.1
  have hl2 := hle'.2.2
  refine ⟨hle', fun gl p l e R s m argsA below meth c A C H locs cells slots lsA stA ad ad0 cn0 k0 n0 S => ?_⟩
  obtain ⟨s1, s2, s3, s4, s5, s6, s7, s8, s9, s10⟩ := S
  obtain ⟨u, rest, rfl, hu, hrest⟩ := mi_sr_app s4
  have hv := mi_sr_rev hu
  rw [List.reverse_reverse] at hv
  have hkc : ((mi_kc M r' : Nat) : Int) = r'.2.1 0 0 0 - M.1 0 0 0 := by unfold mi_kc; omega
  have hks : ((mi_ks M r' : Nat) : Int) = r'.2.1 0 0 1 - M.1 0 0 1 := by unfold mi_ks; omega
  have hrun := hI gl p l e R s m argsA below meth c A C H locs cells slots lsA u.reverse rest ad M _ _ _ (mi_kc M r') (mi_ks M r') (mi_rm μ' M r') s2 s1 hv s3.1 (hMet gl l A ad C.2.2.2.2.2.2.2.2.2.2.1) rfl rfl rfl rfl mi_pc_blind
    (fun U hU hWU => ⟨u.reverse, rfl, hv, by rw [hU]; exact s2, C.2.2.2.2.2.2.2.2.1.warm hWU (fun a h1 h2 => by rw [hU]; exact s1.2.1 a h1 h2), fun q hq => C.2.2.2.2.2.2.2.2.2.1 q (Nat.le_trans s1.1 (by rw [← hU]; exact hq))⟩) (by rw [mi_cs_eq hrest]; exact hW) ⟨by omega, by omega⟩
  rw [List.reverse_reverse] at hrun
  intro T hT X
  rcases hrun T hT X with ⟨v, st₀, t, T', L, h0, X', hL, e1, e2, hQ, hgo⟩ | ⟨q, st₀, t, T', L, E, ce, h0, X', hL, e1, e2, hQ, hce, hcv, hcl, hgo⟩
  · obtain ⟨ad', v', hv', hrv, -⟩ := hQ
    rcases hrv with ⟨z, -⟩ | ⟨z, -⟩ <;> exact absurd hnt (by omega)
  · obtain ⟨-, hE, ad', hext, hrp, hF⟩ := hQ
    obtain ⟨k1, k2, k3⟩ := vx_keep h0 e1 s1 (fun _ _ z => z) (fun _ z => z) hL hF
    obtain ⟨t2, a1, b1⟩ := vx_out (E := E) (q := q) (pc := pc) (rest := rest) (ls := lsA) (p := p) (l := l) (e := e) (R := R) (s := s) (m := m) (args := argsA) (below := below) (meth := meth) (c := c) (H := T'.heap) (locs := locs ++ L) (cells := cells + mi_kc M r') (slots := slots + mi_ks M r') (mc := R.cells) (ms := R.slots) (free := A) (Qc := mi_q gl A ad0 cn0 r') (XC := mi_x gl A ad0 cn0 r')
      (fun x hx => absurd (C.2.2.2.2.2.2.2.2.2.2.2.2.2 htab x hx) id) C.2.2.2.2.1 (by rw [e1]; exact hce) hcv hcl (fun t9 ht9 _ => ⟨hnt, hE, ad', fun t x a b => (hext t x a (Int.lt_of_lt_of_le b (s6 t))).trans (s5 t x a b), by rw [ht9, e1]; exact hrp, k3.F ht9⟩) k3.2.2 (by omega) (by omega) T' rfl X'
    exact ⟨t2, hgo.trans a1, b1⟩
