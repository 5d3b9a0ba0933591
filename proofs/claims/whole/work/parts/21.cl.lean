/-! ===== the class's own lasting links; constants' rows in the shape that walks ask for ===== -/
/-- links of the class that never change once its objects stand: the program's tape and worlds, a world's arrays, its tasks and rows, theirs -/
def CL (Z : MiZ) : Prop := (Z.1 1 0 ((0 : Nat) : Int) = 0 ∧ Z.1 1 0 ((4 : Nat) : Int) = 0 ∧ Z.1 1 0 ((5 : Nat) : Int) = 1) ∧ (∀ (x : Int) (k : Nat), 0 ≤ x → x < 2 → k < 6 → Z.1 2 x k = x) ∧ (∀ x : Int, 0 ≤ x → x < 2 → Z.1 2 x ((6 : Nat) : Int) = 7 * x) ∧ (∀ (x : Int) (k : Nat), 0 ≤ x → x < 120 → 2 ≤ k → k < 4 → Z.1 3 x k = x) ∧
  (∀ (x : Int) (k : Nat), 0 ≤ x → x < 12 → k < 4 → Z.1 4 x k = x) ∧ (∀ x : Int, 0 ≤ x → x < 12 → Z.1 4 x ((7 : Nat) : Int) = x + 1 + x / 6) ∧ (∀ x i : Int, 0 ≤ x → x < 2 → 0 ≤ i → i < 60 → Z.1 13 x i = 60 * x + i) ∧ (∀ x i : Int, 0 ≤ x → x < 2 → 0 ≤ i → i < 6 → Z.1 14 x i = 6 * x + i)
/-- an answer under a condition -/
noncomputable def mi_req {α : Type} (c : Prop) (a : Option α) : Option α := @ite _ c (Classical.propDecidable c) a Option.none
theorem mi_req_t {α : Type} {c : Prop} {a : Option α} (h : c) : mi_req c a = a := by
  unfold mi_req; exact if_pos h
theorem Sg.rq {α : Type} {μ : MiI} {pc : Nat} {ls st : List MiV} {M : MiM} {L : α → MiO} {c : Prop} {a : Option α} (h : c → Sg μ pc ls st M L a) : Sg μ pc ls st M L (mi_req c a) := by
  intro b hb
  by_cases hc : c
  · rw [mi_req_t hc] at hb; exact h hc b hb
  · unfold mi_req at hb; rw [if_neg hc] at hb; cases hb
/-- nothing known -/
def XL (_ : MiZ) : Prop := True
theorem mi_nsI {w : Cond} (i : Nat) (h : lw_tbl[i]? = some w) (g : mi_isN w = true) : w ∈ mi_nest := List.mem_filter.mpr ⟨List.mem_of_getElem? h, by cases w <;> first | rfl | cases g⟩
def mi_ho (i : Int) : Int := (mi_hoL.getD i.toNat 0).toInt
def mi_sm (i : Int) : Int := (mi_smL.getD i.toNat 0).toInt
def mi_opw (x : Int) : Int := ((mi_wIx.getD x.toNat 0 : Nat) : Int)
def mi_opp (x : Int) : Int := ((mi_pIx.getD x.toNat 0 : Nat) : Int)
def mi_opo (x : Int) : Int := (((List.range 19).map Int32.ofNat).getD x.toNat 0).toInt
def mi_sl (x : Int) : Int := ((mi_len.getD x.toNat 0 : Nat) : Int)
def mi_sc (x i : Int) : Int := ((mi_chr.getD x.toNat []).getD i.toNat 0).toInt
theorem mi_gd {l : List Nat} {b : Nat} (h : ∀ i : Fin l.length, l.getD i 0 < b) (hb : 0 < b) (n : Nat) : l.getD n 0 < b := by
  by_cases hn : n < l.length
  · exact h ⟨n, hn⟩
  · rw [List.getD_eq_getElem?_getD, List.getElem?_eq_none (Nat.le_of_not_lt hn)]; exact hb
theorem mi_opw_b (x : Int) : 0 ≤ mi_opw x ∧ mi_opw x < 64 := ⟨Int.natCast_nonneg _, Int.ofNat_lt.mpr (mi_gd (b := 64) (by decide) (by decide) _)⟩
theorem mi_opp_b (x : Int) : 0 ≤ mi_opp x ∧ mi_opp x < 64 := ⟨Int.natCast_nonneg _, Int.ofNat_lt.mpr (mi_gd (b := 64) (by decide) (by decide) _)⟩
theorem mi_sl_b (x : Int) : 0 ≤ mi_sl x ∧ mi_sl x < 64 := ⟨Int.natCast_nonneg _, Int.ofNat_lt.mpr (mi_gd (b := 64) (by decide) (by decide) _)⟩
section MiCl
variable {μ : MiI} {pc : Nat} {ls st : List MiV} {M : MiM}
theorem mi_hold {i : Int} (hdg : decode μ.2.1 pc = .ok (.iaload, 1)) (hi : 0 ≤ i ∧ i < 11) : MiStep μ pc ls ((0, i) :: (30, 0) :: st) M (pc + 1) ls ((0, mi_ho i) :: st) := mi_cald (fun _ => 11) (fun _ i => mi_hoL.getD i 0) hdg mi_fHo (by decide) (Int.le_refl 0) hi rfl
theorem mi_smld {i : Int} (hdg : decode μ.2.1 pc = .ok (.iaload, 1)) (hi : 0 ≤ i ∧ i < 19) : MiStep μ pc ls ((0, i) :: (31, 0) :: st) M (pc + 1) ls ((0, mi_sm i) :: st) := mi_cald (fun _ => 19) (fun _ i => mi_smL.getD i 0) hdg mi_fSm (by decide) (Int.le_refl 0) hi rfl
theorem mi_gfW {ix : Nat} {x : Int} (hdg : decode μ.2.1 pc = .ok (.getfield ix, 3)) (hw : Cond.fieldLink μ.1.cls ix RX3 "word" "Ljava/lang/String;" ∈ mi_tb) (h0 : 0 ≤ x) : MiStep μ pc ls ((28, x) :: st) M (pc + 3) ls ((29, mi_opw x) :: st) := mi_gcR (r := 26) (r' := 27) (fun j => mi_wIx.getD j 0) hdg mi_fWo hw (by decide) (by decide) h0 rfl (mi_opw_b x).2
theorem mi_gfP {ix : Nat} {x : Int} (hdg : decode μ.2.1 pc = .ok (.getfield ix, 3)) (hw : Cond.fieldLink μ.1.cls ix RX3 "parts" "Ljava/lang/String;" ∈ mi_tb) (h0 : 0 ≤ x) : MiStep μ pc ls ((28, x) :: st) M (pc + 3) ls ((29, mi_opp x) :: st) := mi_gcR (r := 26) (r' := 27) (fun j => mi_pIx.getD j 0) hdg mi_fPa hw (by decide) (by decide) h0 rfl (mi_opp_b x).2
theorem mi_gfO {ix : Nat} {x : Int} (hdg : decode μ.2.1 pc = .ok (.getfield ix, 3)) (hw : Cond.fieldLink μ.1.cls ix "java/lang/Enum" "ordinal" "I" ∈ mi_tb) (h0 : 0 ≤ x) : MiStep μ pc ls ((28, x) :: st) M (pc + 3) ls ((0, mi_opo x) :: st) := mi_gcI (r := 26) (fun j => ((List.range 19).map Int32.ofNat).getD j 0) hdg mi_fOr hw (by decide) h0 rfl
theorem mi_gfCo {ix : Nat} {x : Int} (hdg : decode μ.2.1 pc = .ok (.getfield ix, 3)) (hw : Cond.fieldLink μ.1.cls ix "java/lang/String" "coder" "B" ∈ mi_tb) (h0 : 0 ≤ x) : MiStep μ pc ls ((29, x) :: st) M (pc + 3) ls ((0, 0) :: st) := mi_gcI (r := 27) (fun _ => 0) hdg mi_fCo hw (by decide) h0 rfl
theorem mi_gfVa {ix : Nat} {x : Int} (hdg : decode μ.2.1 pc = .ok (.getfield ix, 3)) (hw : Cond.fieldLink μ.1.cls ix "java/lang/String" "value" "[B" ∈ mi_tb) (h0 : 0 ≤ x ∧ x < 64) : MiStep μ pc ls ((29, x) :: st) M (pc + 3) ls ((33, x) :: st) := mi_gcR (r := 27) (r' := 31) (fun j => j) hdg mi_fVa hw (by decide) (by decide) h0.1 (Int.toNat_of_nonneg h0.1) h0.2
theorem mi_sbld {x i : Int} (hdg : decode μ.2.1 pc = .ok (.baload, 1)) (h0 : 0 ≤ x) (hi : 0 ≤ i ∧ i < mi_sl x) : MiStep μ pc ls ((0, i) :: (33, x) :: st) M (pc + 1) ls ((0, mi_sc x i) :: st) := mi_cbld (r := 31) (fun j => mi_len.getD j 0) (fun j i => (mi_chr.getD j []).getD i 0) hdg mi_fBy (by decide) h0 hi rfl
theorem mi_slen {x : Int} (hdg : decode μ.2.1 pc = .ok (.arraylength, 1)) (h0 : 0 ≤ x) : MiStep μ pc ls ((33, x) :: st) M (pc + 1) ls ((0, mi_sl x) :: st) := mi_calen (r := 31) (fun j => mi_len.getD j 0) (fun j i => .int ((mi_chr.getD j []).getD i 0)) hdg mi_fBy (by decide) h0 (by
  have h := (mi_sl_b x).2
  have h2 : mi_len.getD x.toNat 0 < 64 := Int.ofNat_lt.mp h
  exact nI_toInt (n := mi_len.getD x.toNat 0) (by omega))
end MiCl
