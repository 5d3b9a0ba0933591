/-! ===== rows of the law: calls on either side ===== -/
/-- what a method of the law's own, that calls the class, comes to: answered, or caught -/
def mi_hT (ps : Nat → Int) (M0 : MiM) (Z1 : MiZ) (M2 : MiM) : (Int × MiD) ⊕ (Nat × MiD) → MiO := fun q => match q with | .inl a => ((1, (0, 0)), mi_cb (mi_pD M0 25 0 0 a.1) (a.2, Z1) M2) | .inr a => ((1, (0, ps a.1)), mi_cb M0 (a.2, Z1) M2)
def mi_hQ (ps : Nat → Int) (M0 : MiM) (M2 : MiM) : (Int × MiM) ⊕ (Nat × MiM) → MiO := fun q => match q with | .inl a => ((1, (0, 0)), mi_cb (mi_pD M0 25 0 0 a.1) a.2 M2) | .inr a => ((1, (0, ps a.1)), mi_cb M0 a.2 M2)
def mi_bhT {β : Type} (ob : Option ((Int × MiD) ⊕ (Nat × MiD))) (rg : Nat → Bool) (ps : Nat → Int) (M0 : MiM) (f : Int → MiM → MiD → Option β) : Option β := match ob with | some (.inl a) => f 0 (mi_pD M0 25 0 0 a.1) a.2 | some (.inr a) => if rg a.1 = true then f (ps a.1) M0 a.2 else none | none => none
noncomputable def mi_bhQ {β : Type} (ob : Option ((Int × MiM) ⊕ (Nat × MiM))) (rg : Nat → Bool) (ps : Nat → Int) (M0 : MiM) (f : Int → MiM → MiD → MiZ → Option β) : Option β := match ob with | some (.inl a) => mi_req (mi_cw mi_s1 a.2.2) (f 0 (mi_pD M0 25 0 0 a.1) a.2.1 a.2.2) | some (.inr a) => if rg a.1 = true then mi_req (mi_cw mi_s1 a.2.2) (f (ps a.1) M0 a.2.1 a.2.2) else none | none => none
noncomputable def mi_bz1 {β : Type} (ob : Option (Int × MiM)) (f : Int → MiD → MiZ → Option β) : Option β := mi_bi ob fun q => mi_req (mi_cw mi_s1 q.2.2) (f q.1 q.2.1 q.2.2)
section SgPLaw
variable {P : MiP} {α : Type} {μ μ' : MiI} {pc pc' t : Nat} {ls st st' args : List MiV} {M0 M1 M2 : MiM} {D1 D2 : MiD} {Z1 Z2 : MiZ} {L : α → MiO}
theorem SgP.callD1 {ob : Option (Int × MiD)} {f : Int → MiD → Option α} (hI : MiInv μ pc μ' args) (hM : ∀ v, ob = some v → MC μ' args (D1, Z1) (mi_LD t Z1 v)) (hW : mi_cw mi_s1 Z1) (ht : t < 2) (ha : mi_ta mi_s1 args = true) (hcs : mi_cs st ≤ 8) (he : args.reverse ++ st = st') (hp : pc + 3 = pc') (k : ∀ v D', SgP P μ pc' ls ((t, v) :: st) (mi_cb M0 (D', Z1) M2) L (f v D')) : SgP P μ pc ls st' (mi_cb M0 (D1, Z1) M2) L (mi_b2 ob f) := by
  subst hp
  intro a ha'
  match ob, ha', hM with
  | some b, ha', hM => exact SgP.call hI ((hM b rfl).l1 hW hW ha (fun _ => ht)) (show (1 : Nat) ≠ 2 by decide) hcs (k b.1 b.2) he a ha'
theorem SgP.callI1 {ob : Option Int} {f : Int → Option α} (hI : MiInv μ pc μ' args) (hM : ∀ v, ob = some v → MC μ' args (D1, Z1) (mi_LI t (D1, Z1) v)) (hW : mi_cw mi_s1 Z1) (ht : t < 2) (ha : mi_ta mi_s1 args = true) (hcs : mi_cs st ≤ 8) (he : args.reverse ++ st = st') (hp : pc + 3 = pc') (k : ∀ v, SgP P μ pc' ls ((t, v) :: st) (mi_cb M0 (D1, Z1) M2) L (f v)) : SgP P μ pc ls st' (mi_cb M0 (D1, Z1) M2) L (mi_bi ob f) := by
  subst hp
  intro a ha'
  match ob, ha', hM with
  | some b, ha', hM => exact SgP.call hI ((hM b rfl).l1 hW hW ha (fun _ => ht)) (show (1 : Nat) ≠ 2 by decide) hcs (k b) he a ha'
theorem SgP.callZ1 {ob : Option (Int × MiM)} {f : Int → MiD → MiZ → Option α} (hI : MiInv μ pc μ' args) (hM : ∀ v, ob = some v → MC μ' args (D1, Z1) (mi_LZ t v)) (hW : mi_cw mi_s1 Z1) (ht : t < 2) (ha : mi_ta mi_s1 args = true) (hcs : mi_cs st ≤ 8) (he : args.reverse ++ st = st') (hp : pc + 3 = pc') (k : ∀ v D' Z', SgP P μ pc' ls ((t, v) :: st) (mi_cb M0 (D', Z') M2) L (f v D' Z')) : SgP P μ pc ls st' (mi_cb M0 (D1, Z1) M2) L (mi_bz1 ob f) := by
  subst hp
  intro a ha'
  match ob, ha', hM with
  | some b, ha', hM => exact SgP.rq (fun hc => SgP.call hI ((hM b rfl).l1 hW hc ha (fun _ => ht)) (show (1 : Nat) ≠ 2 by decide) hcs (k b.1 b.2.1 b.2.2) he) a ha'
theorem SgP.callW1 {ob : Option MiM} {f : MiD → MiZ → Option α} (hI : MiInv μ pc μ' args) (hM : ∀ v, ob = some v → MC μ' args (D1, Z1) (mi_LW v)) (hW : mi_cw mi_s1 Z1) (ha : mi_ta mi_s1 args = true) (hcs : mi_cs st ≤ 8) (he : args.reverse ++ st = st') (hp : pc + 3 = pc') (k : ∀ D' Z', mi_cw mi_s1 Z' → SgP P μ pc' ls st (mi_cb M0 (D', Z') M2) L (f D' Z')) : SgP P μ pc ls st' (mi_cb M0 (D1, Z1) M2) L (mi_bw ob fun D Z => mi_req (mi_cw mi_s1 Z) (f D Z)) := by
  subst hp
  intro a ha'
  match ob, ha', hM with
  | some b, ha', hM => exact SgP.rq (fun hc => SgP.call hI ((hM b rfl).l1 hW hc ha (fun _ => show (0 : Nat) < 2 by decide)) (show (0 : Nat) ≠ 2 by decide) hcs (k b.1 b.2 hc) he) a ha'
theorem SgP.callW2 {ob : Option MiM} {f : MiD → MiZ → Option α} (hI : MiInv μ pc μ' args) (hM : ∀ v, ob = some v → MC μ' args (D2, Z2) (mi_LW v)) (hW : mi_cw mi_s2 Z2) (ha : mi_ta mi_s2 args = true) (hcs : mi_cs st ≤ 8) (he : args.reverse ++ st = st') (hp : pc + 3 = pc') (k : ∀ D' Z', mi_cw mi_s2 Z' → SgP P μ pc' ls st (mi_cb M0 M1 (D', Z')) L (f D' Z')) : SgP P μ pc ls st' (mi_cb M0 M1 (D2, Z2)) L (mi_bw ob fun D Z => mi_req (mi_cw mi_s2 Z) (f D Z)) := by
  subst hp
  intro a ha'
  match ob, ha', hM with
  | some b, ha', hM => exact SgP.rq (fun hc => SgP.call hI ((hM b rfl).l2 hW hc ha (fun _ => show (0 : Nat) < 2 by decide)) (show (0 : Nat) ≠ 2 by decide) hcs (k b.1 b.2 hc) he) a ha'
theorem SgP.callD2 {ob : Option (Int × MiD)} {f : Int → MiD → Option α} (hI : MiInv μ pc μ' args) (hM : ∀ v, ob = some v → MC μ' args (D2, Z2) (mi_LD t Z2 v)) (hW : mi_cw mi_s2 Z2) (ht : t < 2) (ha : mi_ta mi_s2 args = true) (hcs : mi_cs st ≤ 8) (he : args.reverse ++ st = st') (hp : pc + 3 = pc') (k : ∀ v D', SgP P μ pc' ls ((t, v) :: st) (mi_cb M0 M1 (D', Z2)) L (f v D')) : SgP P μ pc ls st' (mi_cb M0 M1 (D2, Z2)) L (mi_b2 ob f) := by
  subst hp
  intro a ha'
  match ob, ha', hM with
  | some b, ha', hM => exact SgP.call hI ((hM b rfl).l2 hW hW ha (fun _ => ht)) (show (1 : Nat) ≠ 2 by decide) hcs (k b.1 b.2) he a ha'
theorem SgP.callI2 {ob : Option Int} {f : Int → Option α} (hI : MiInv μ pc μ' args) (hM : ∀ v, ob = some v → MC μ' args (D2, Z2) (mi_LI t (D2, Z2) v)) (hW : mi_cw mi_s2 Z2) (ht : t < 2) (ha : mi_ta mi_s2 args = true) (hcs : mi_cs st ≤ 8) (he : args.reverse ++ st = st') (hp : pc + 3 = pc') (k : ∀ v, SgP P μ pc' ls ((t, v) :: st) (mi_cb M0 M1 (D2, Z2)) L (f v)) : SgP P μ pc ls st' (mi_cb M0 M1 (D2, Z2)) L (mi_bi ob f) := by
  subst hp
  intro a ha'
  match ob, ha', hM with
  | some b, ha', hM => exact SgP.call hI ((hM b rfl).l2 hW hW ha (fun _ => ht)) (show (1 : Nat) ≠ 2 by decide) hcs (k b) he a ha'
theorem SgP.callHT {rg : Nat → Bool} {ps : Nat → Int} {ob : Option ((Int × MiD) ⊕ (Nat × MiD))} {f : Int → MiM → MiD → Option α} (hI : MiInv μ pc μ' args) (hM : ∀ b, ob = some b → (∀ a, b = .inr a → rg a.1 = true) → MC μ' args (mi_cb M0 (D1, Z1) M2) (mi_hT ps M0 Z1 M2 b)) (hcs : mi_cs st ≤ 8) (he : args.reverse ++ st = st') (hp : pc + 3 = pc') (k : ∀ v M' D', SgP P μ pc' ls ((0, v) :: st) (mi_cb M' (D', Z1) M2) L (f v M' D')) : SgP P μ pc ls st' (mi_cb M0 (D1, Z1) M2) L (mi_bhT ob rg ps M0 f) := by
  subst hp
  intro a ha'
  match ob, ha', hM with
  | some (.inl b), ha', hM => exact SgP.call hI (hM _ rfl (fun a h => by cases h)) (show (1 : Nat) ≠ 2 by decide) hcs (k 0 _ b.2) he a ha'
  | some (.inr b), ha', hM => exact SgP.ck (fun hc => SgP.call hI (hM _ rfl (fun a h => by cases h; exact hc)) (show (1 : Nat) ≠ 2 by decide) hcs (k _ _ b.2) he) a ha'
theorem SgP.callHQ {rg : Nat → Bool} {ps : Nat → Int} {ob : Option ((Int × MiM) ⊕ (Nat × MiM))} {f : Int → MiM → MiD → MiZ → Option α} (hI : MiInv μ pc μ' args) (hM : ∀ b, ob = some b → (∀ a, b = .inl a → mi_cw mi_s1 a.2.2) → (∀ a, b = .inr a → rg a.1 = true ∧ mi_cw mi_s1 a.2.2) → MC μ' args (mi_cb M0 (D1, Z1) M2) (mi_hQ ps M0 M2 b)) (hcs : mi_cs st ≤ 8) (he : args.reverse ++ st = st') (hp : pc + 3 = pc') (k : ∀ v M' D' Z', SgP P μ pc' ls ((0, v) :: st) (mi_cb M' (D', Z') M2) L (f v M' D' Z')) : SgP P μ pc ls st' (mi_cb M0 (D1, Z1) M2) L (mi_bhQ ob rg ps M0 f) := by
  subst hp
  intro a ha'
  match ob, ha', hM with
  | some (.inl b), ha', hM => exact SgP.rq (fun hc => SgP.call hI (hM _ rfl (fun a h => by cases h; exact hc) (fun a h => by cases h)) (show (1 : Nat) ≠ 2 by decide) hcs (k 0 _ b.2.1 b.2.2) he) a ha'
  | some (.inr b), ha', hM => exact SgP.ck (fun hc => SgP.rq (fun hw => SgP.call hI (hM _ rfl (fun a h => by cases h) (fun a h => by cases h; exact ⟨hc, hw⟩)) (show (1 : Nat) ≠ 2 by decide) hcs (k _ _ b.2.1 b.2.2) he)) a ha'
/-- out[0] -/
theorem mi_outld (hdg : decode μ.2.1 pc = .ok (.laload, 1)) : MiStep μ pc ls ((0, 0) :: (27, 0) :: st) (mi_cb M0 M1 M2) (pc + 1) ls ((1, M0.1 25 0 0) :: st) := mi_laloadG (M := mi_cb M0 M1 M2) (r := 25) (x := 0) (i := 0) hdg rfl (by decide) (by decide) (by decide)
end SgPLaw
