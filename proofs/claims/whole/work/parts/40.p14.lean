theorem pu_dno {Z : MiZ} {v n c b : Int} {T : Int → Int} {B : MiD} (h1 : pu_X1 Z v n T B) (hb : 0 ≤ b) (hn : b ≤ n) (bl : pu_nx (pu_bl T) n b = b) (hK : pu_op (pu_wc T n b) = -1) : B_X5_readDeed v c (pu_rd B v b 0 (-1)) Z = some (pu_rd B v b 1 b, Z) := by
  unfold B_X5_readDeed
  rw [pu_rd2, pu_16no h1 hb hn bl hK]
  unfold pu_fd
  rw [if_neg (by decide)]
theorem pu_dmany {Z : MiZ} {v n c b K : Int} {T : Int → Int} {B : MiD} (h1 : pu_X1 Z v n T B) (hb : 0 ≤ b) (hn : b ≤ n) (bl : pu_nx (pu_bl T) n b = b) (hK : pu_op (pu_wc T n b) = K) (hk : 0 ≤ K ∧ K < 19) (cl : CL Z) (z7 : 0 ≤ Z.2 7) (hm : B 6 c 1 = 24) : B_X5_readDeed v c (pu_rd B v b 0 (-1)) Z = some (pu_rd B v (pu_nx (pu_sl T) n b) 3 b, Z) := by
  unfold B_X5_readDeed
  rw [pu_rd2, pu_16yes h1 hb hn bl hK hk cl z7, if_neg (fun z => z hm)]
  unfold pu_fd
  rw [if_neg (by decide)]
theorem pu_bb {α : Type} {X : Option MiD} {S : MiD → Option MiD} {g : MiD → MiD} {L : MiD → Option α} {E : MiD} (h : (mi_bi X fun D5 => mi_bi (S D5) fun D6 => some (g D6)) = some E) : (mi_bi X fun D5 => mi_bi (S D5) fun D6 => mi_let (g D6) fun D7 => L D7) = L E := by
  cases X with
  | none => exact absurd h (by intro z; cases z)
  | some D5 =>
    rw [pu_biE] at h ⊢
    cases hS : S D5 with
    | none => rw [hS] at h; exact absurd h (by intro z; cases z)
    | some D6 =>
      rw [hS, pu_biE] at h
      rw [pu_biE, pu_letE]
      cases h
      rfl
def pu_cO (Z : MiZ) (B : MiD) (c : Int) (C : MiD) (x n : Int) (Z' : MiZ) (B' C' : MiD) (a1 a2 k w : Int) : Prop := (0 ≤ a1 ∧ a1 ≤ n) ∧ (0 ≤ a2 ∧ a2 ≤ n) ∧ (pw_G c (Z.2 7) (Z.1 6 c 0) Z Z' B B') ∧ (Z'.2 6 = Z.2 6) ∧ (Z'.2 23 = Z.2 23) ∧ (∃ d : Int, 0 ≤ d ∧ d ≤ 24 - C 43 0 x ∧ B' 0 0 0 = B 0 0 0 + d ∧ B' 0 0 1 = B 0 0 1 + 6 * d) ∧ (pu_ZB Z') ∧ (∀ j i : Int, ¬ (j = c ∧ i = 1) → B' 6 j i = B 6 j i) ∧ (∀ j i : Int, Z'.1 6 j i = Z.1 6 j i) ∧ (∀ (q : Nat) (j i : Int), ¬ (q = 43 ∧ j = 0 ∧ i = x) → ¬ (q = 46 ∧ 24 * x ≤ j ∧ j < 24 * x + 24) → C' q j i = C q j i) ∧ (0 ≤ k ∧ k ≤ 4) ∧ (k = 0 → w = -1 ∧ pu_C Z' B' c C' x)
theorem pu_cO.b1 {Z : MiZ} {B : MiD} {c : Int} {C : MiD} {x n : Int} {Z' : MiZ} {B' C' : MiD} {a1 a2 k w : Int} (h : pu_cO Z B c C x n Z' B' C' a1 a2 k w) : 0 ≤ a1 ∧ a1 ≤ n := h.1
theorem pu_cO.b2 {Z : MiZ} {B : MiD} {c : Int} {C : MiD} {x n : Int} {Z' : MiZ} {B' C' : MiD} {a1 a2 k w : Int} (h : pu_cO Z B c C x n Z' B' C' a1 a2 k w) : 0 ≤ a2 ∧ a2 ≤ n := h.2.1
theorem pu_cO.g {Z : MiZ} {B : MiD} {c : Int} {C : MiD} {x n : Int} {Z' : MiZ} {B' C' : MiD} {a1 a2 k w : Int} (h : pu_cO Z B c C x n Z' B' C' a1 a2 k w) : pw_G c (Z.2 7) (Z.1 6 c 0) Z Z' B B' := h.2.2.1
theorem pu_cO.e6 {Z : MiZ} {B : MiD} {c : Int} {C : MiD} {x n : Int} {Z' : MiZ} {B' C' : MiD} {a1 a2 k w : Int} (h : pu_cO Z B c C x n Z' B' C' a1 a2 k w) : Z'.2 6 = Z.2 6 := h.2.2.2.1
theorem pu_cO.e23 {Z : MiZ} {B : MiD} {c : Int} {C : MiD} {x n : Int} {Z' : MiZ} {B' C' : MiD} {a1 a2 k w : Int} (h : pu_cO Z B c C x n Z' B' C' a1 a2 k w) : Z'.2 23 = Z.2 23 := h.2.2.2.2.1
theorem pu_cO.cost {Z : MiZ} {B : MiD} {c : Int} {C : MiD} {x n : Int} {Z' : MiZ} {B' C' : MiD} {a1 a2 k w : Int} (h : pu_cO Z B c C x n Z' B' C' a1 a2 k w) : ∃ d : Int, 0 ≤ d ∧ d ≤ 24 - C 43 0 x ∧ B' 0 0 0 = B 0 0 0 + d ∧ B' 0 0 1 = B 0 0 1 + 6 * d := h.2.2.2.2.2.1
theorem pu_cO.zb {Z : MiZ} {B : MiD} {c : Int} {C : MiD} {x n : Int} {Z' : MiZ} {B' C' : MiD} {a1 a2 k w : Int} (h : pu_cO Z B c C x n Z' B' C' a1 a2 k w) : pu_ZB Z' := h.2.2.2.2.2.2.1
theorem pu_cO.oc {Z : MiZ} {B : MiD} {c : Int} {C : MiD} {x n : Int} {Z' : MiZ} {B' C' : MiD} {a1 a2 k w : Int} (h : pu_cO Z B c C x n Z' B' C' a1 a2 k w) : ∀ j i : Int, ¬ (j = c ∧ i = 1) → B' 6 j i = B 6 j i := h.2.2.2.2.2.2.2.1
theorem pu_cO.lk {Z : MiZ} {B : MiD} {c : Int} {C : MiD} {x n : Int} {Z' : MiZ} {B' C' : MiD} {a1 a2 k w : Int} (h : pu_cO Z B c C x n Z' B' C' a1 a2 k w) : ∀ j i : Int, Z'.1 6 j i = Z.1 6 j i := h.2.2.2.2.2.2.2.2.1
theorem pu_cO.rf {Z : MiZ} {B : MiD} {c : Int} {C : MiD} {x n : Int} {Z' : MiZ} {B' C' : MiD} {a1 a2 k w : Int} (h : pu_cO Z B c C x n Z' B' C' a1 a2 k w) : ∀ (q : Nat) (j i : Int), ¬ (q = 43 ∧ j = 0 ∧ i = x) → ¬ (q = 46 ∧ 24 * x ≤ j ∧ j < 24 * x + 24) → C' q j i = C q j i := h.2.2.2.2.2.2.2.2.2.1
theorem pu_cO.k4 {Z : MiZ} {B : MiD} {c : Int} {C : MiD} {x n : Int} {Z' : MiZ} {B' C' : MiD} {a1 a2 k w : Int} (h : pu_cO Z B c C x n Z' B' C' a1 a2 k w) : 0 ≤ k ∧ k ≤ 4 := h.2.2.2.2.2.2.2.2.2.2.1
theorem pu_cO.ok {Z : MiZ} {B : MiD} {c : Int} {C : MiD} {x n : Int} {Z' : MiZ} {B' C' : MiD} {a1 a2 k w : Int} (h : pu_cO Z B c C x n Z' B' C' a1 a2 k w) : k = 0 → w = -1 ∧ pu_C Z' B' c C' x := h.2.2.2.2.2.2.2.2.2.2.2
def pu_ce (T : Int → Int) (n v1 a1 a2 : Int) : Prop := if v1 = 0 then a1 = a2 else a1 = a2 + 1 ∧ a2 < n ∧ T a2 = 125
theorem pu_code_l {v n c x v1 : Int} {T : Int → Int} (hv : v1 = 0 ∨ v1 = 1) : ∀ (f : Nat) (Z : MiZ) (B C : MiD) (a : Int), pu_X1 Z v n T B → pu_X2 n T C → pu_C Z B c C x → pu_ZB Z → CL Z → c < Z.2 6 → 0 ≤ Z.2 7 → 0 ≤ a → a ≤ n → 26 - C 43 0 x ≤ f →
    ∃ (Z' : MiZ) (B' C' : MiD) (a1 a2 k w : Int), B_X5_readCode_20 f v v1 c (C 43 0 x) (pu_rd B v a 0 (-1)) Z = some (c, (pu_rd B' v a1 k w, Z')) ∧ B_X11_readsCode_7 f x (if v1 = 0 then -1 else 125) (pu_rm C a 0 (-1)) = some (pu_rm C' a2 k w) ∧ pu_cO Z B c C x n Z' B' C' a1 a2 k w ∧ (k = 0 → pu_ce T n v1 a1 a2)
  | 0, Z, B, C, a, h1, h2, hC, zb, cl, hc, z7, ha, hn, hf => by
    have := hC.2.2.2.2.2.1
    omega
  | f + 1, Z, B, C, a, h1, h2, hC, zb, cl, hc, z7, ha, hn, hf => by
    have n5 := h1.n5
    have fE := pu_fuelE
    have c0 := hC.1
    have x0 := hC.2.1
    have cm := hC.2.2.2.1
    have m0 := hC.2.2.2.2.1
    have m24 := hC.2.2.2.2.2.1
    have b1 : a ≤ pu_nx (pu_bl T) n a := pu_nx_le
    have b2 : pu_nx (pu_bl T) n a ≤ n := pu_nx_ge hn
    have bl : pu_nx (pu_bl T) n (pu_nx (pu_bl T) n a) = pu_nx (pu_bl T) n a := pu_nx_nx hn
    have triv : ∀ (a1 a2 k w : Int), (0 ≤ a1 ∧ a1 ≤ n) → (0 ≤ a2 ∧ a2 ≤ n) → (0 ≤ k ∧ k ≤ 4) → (k = 0 → w = -1) → pu_cO Z B c C x n Z B C a1 a2 k w := fun a1 a2 k w p1 p2 p3 p4 => ⟨p1, p2, pw_G.rf, rfl, rfl, ⟨0, by omega, by omega, by omega, by omega⟩, zb, fun _ _ _ => rfl, fun _ _ => rfl, fun _ _ _ _ _ => rfl, p3, fun z => ⟨p4 z, hC⟩⟩
    have flt : ∀ (g : Nat) (m : Int) (B' : MiD) (Z' : MiZ) (a1 k w : Int), k ≠ 0 → 0 < g → B_X5_readCode_20 g v v1 c m (pu_rd B' v a1 k w) Z' = some (c, (pu_rd B' v a1 k w, Z')) := fun g m B' Z' a1 k w p q => by
      cases g with
      | zero => omega
      | succ g =>
        unfold B_X5_readCode_20
        rw [pu_rd3]
        by_cases d : 24 < m
        · rw [if_pos d]
        · rw [if_neg d, if_pos p]
    have fltM : ∀ (g : Nat) (u : Int) (C' : MiD) (a2 k w : Int), k ≠ 0 → 0 < g → B_X11_readsCode_7 g x u (pu_rm C' a2 k w) = some (pu_rm C' a2 k w) := fun g u C' a2 k w p q => by
      cases g with
      | zero => omega
      | succ g =>
        unfold B_X11_readsCode_7 B_X11_fine
        rw [pu_rm6, if_pos p, pu_biE, if_pos rfl]
    have flt77 : ∀ (L : Int → Int → MiD → Option MiD) (u : Int) (C' : MiD) (a2 k w : Int), k ≠ 0 → B_X11_readsCode_77 L x u (pu_rm C' a2 k w) = some (pu_rm C' a2 k w) := fun L u C' a2 k w p => by
      unfold B_X11_readsCode_77 B_X11_fine
      rw [pu_rm6, if_pos p, pu_biE, if_neg (fun z => z rfl)]
    have f45 : ∀ (L : Int → Int → MiD → Option MiD) (u b : Int), B_X11_readsCode_45 L x u (pu_rm C b 0 (-1)) = some (pu_rm C b 1 b) := fun L u b => by
      unfold B_X11_readsCode_45
      rw [pu_rm4, pu_wrongE, pu_biE]
      unfold pu_fdm
      rw [if_neg (by decide), flt77 _ _ _ _ _ _ (by decide)]
    have H1 : B_X5_readCode_20 (f + 1) v v1 c (C 43 0 x) (pu_rd B v a 0 (-1)) Z = (if (v1 = 0 ∧ ¬ pu_nx (pu_bl T) n a < n) ∨ (v1 = 1 ∧ pu_nx (pu_bl T) n a < n ∧ T (pu_nx (pu_bl T) n a) = 125) then some (c, (pu_rd B v (if v1 = 0 then pu_nx (pu_bl T) n a else pu_nx (pu_bl T) n a + 1) 0 (-1), Z)) else B_X5_readCode_66 (B_X5_readCode_20 f) v v1 c (C 43 0 x) (pu_rd B v (pu_nx (pu_bl T) n a) 0 (-1)) Z) := by
      conv => lhs; unfold B_X5_readCode_20
      rw [if_neg (by omega), pu_rd3, if_neg (by decide), pu_skipE h1 _ a ha hn (by omega), pu_biE, pu_rd2, pu_rdo (by omega), h1.ln, pu_passIfE h1 (by omega) b2, bl]
      rcases hv with rfl | rfl
      · rw [if_pos rfl, if_pos rfl]
        by_cases d : pu_nx (pu_bl T) n a < n
        · rw [if_pos d, if_neg (by omega)]
        · rw [if_neg d, if_pos (Or.inl ⟨rfl, d⟩)]
      · rw [if_neg (show ¬ ((1 : Int) = 0) by decide), if_neg (show ¬ ((1 : Int) = 0) by decide)]
        by_cases d : pu_nx (pu_bl T) n a < n ∧ T (pu_nx (pu_bl T) n a) = 125
        · rw [if_pos d, if_pos (Or.inr ⟨rfl, d⟩), pu_b2E, if_neg (by decide)]
        · rw [if_neg d, if_neg (by omega), pu_b2E, if_pos rfl]
    have i125 := pu_baE h2 (b := pu_nx (pu_bl T) n a) (c := 125) (by omega) (by decide)
    have im1 : pu_ba T n (pu_nx (pu_bl T) n a) = -1 ↔ ¬ pu_nx (pu_bl T) n a < n := by
      unfold pu_ba
      by_cases d : pu_nx (pu_bl T) n a < n
      · rw [if_pos d]
        constructor
        · intro z; omega
        · intro z; exact absurd d z
      · rw [if_neg d]
        exact ⟨fun _ => d, fun _ => rfl⟩
    have iu : pu_ba T n (pu_nx (pu_bl T) n a) = (if v1 = 0 then -1 else 125) ↔ ((v1 = 0 ∧ ¬ pu_nx (pu_bl T) n a < n) ∨ (v1 = 1 ∧ pu_nx (pu_bl T) n a < n ∧ T (pu_nx (pu_bl T) n a) = 125)) := by
      rcases hv with rfl | rfl
      · rw [if_pos rfl, im1]; omega
      · rw [if_neg (by decide), i125]; omega
    rw [H1]
    unfold B_X11_readsCode_7 B_X11_fine
    rw [pu_rm6, if_neg (show ¬ ((0 : Int) ≠ 0) by decide), pu_biE, if_neg (show ¬ ((1 : Int) = 0) by decide), pu_hereE h2 _ a ha hn (by omega), pu_b2E]
    generalize hu : (if v1 = 0 then (-1 : Int) else 125) = u at *
    have hb0 : 0 ≤ pu_nx (pu_bl T) n a := by omega
    generalize hbb : pu_nx (pu_bl T) n a = b at *
    by_cases p : (v1 = 0 ∧ ¬ b < n) ∨ (v1 = 1 ∧ b < n ∧ T b = 125)
    · rw [if_pos (iu.mpr p), if_pos p]
      rcases hv with rfl | rfl
      · rw [if_pos rfl]
        exact ⟨_, _, _, _, _, _, _, rfl, rfl, triv _ _ _ _ ⟨hb0, b2⟩ ⟨hb0, b2⟩ (by decide) (fun _ => rfl), fun _ => by unfold pu_ce; rw [if_pos rfl]⟩
      · rw [if_neg (by decide)]
        have p : b < n ∧ T b = 125 := by omega
        exact ⟨_, _, _, _, _, _, _, rfl, rfl, triv _ _ _ _ ⟨by omega, by omega⟩ ⟨hb0, b2⟩ (by decide) (fun _ => rfl), fun _ => by unfold pu_ce; rw [if_neg (by decide)]; exact ⟨rfl, p⟩⟩
    · rw [if_neg (fun z => p (iu.mp z)), if_neg p, pu_hereE h2 _ b hb0 b2 (by omega), bl, pu_b2E, pu_letE, pu_isSm h2 hb0]
      unfold B_X5_readCode_66
      rw [if_pos c0]
      have no : pu_op (pu_wc T n b) = -1 → ∃ (Z' : MiZ) (B' C' : MiD) (a1 a2 k w : Int), (mi_bw (B_X5_readDeed v c (pu_rd B v b 0 (-1)) Z) fun D2 Z3 => mi_req (CL Z3) (B_X5_readCode_20 f v v1 c (mi_w (C 43 0 x + 1)) D2 Z3)) = some (c, (pu_rd B' v a1 k w, Z')) ∧ some (pu_rm C b 1 b) = some (pu_rm C' a2 k w) ∧ pu_cO Z B c C x n Z' B' C' a1 a2 k w ∧ (k = 0 → pu_ce T n v1 a1 a2) := fun hK => by
        rw [pu_dno h1 hb0 b2 bl hK]
        refine ⟨Z, B, C, b, b, 1, b, ?_, rfl, triv _ _ _ _ ⟨hb0, b2⟩ ⟨hb0, b2⟩ (by decide) (fun z => absurd z (by decide)), fun z => absurd z (by decide)⟩
        show mi_req (CL Z) (B_X5_readCode_20 f v v1 c (mi_w (C 43 0 x + 1)) (pu_rd B v b 1 b) Z) = _
        rw [mi_req_t cl, flt _ _ _ _ _ _ _ (by decide) (by omega)]
      by_cases s : b < n ∧ pu_sl T b = true
      · rw [if_pos s, if_neg (show ¬ ((1 : Int) = 0) by decide), pu_wordHE h2 hb0 b2, bl, pu_b2E, pu_deedOfE, pu_biE]
        by_cases hK : pu_op (pu_wc T n b) = -1
        · rw [if_neg (fun z => z hK), f45]
          exact no hK
        · have hk19 : 0 ≤ pu_op (pu_wc T n b) ∧ pu_op (pu_wc T n b) < 19 := by
            rcases pu_op_c (pu_wc T n b) with e | ⟨k, h, e, e'⟩ <;> omega
          rw [if_pos hK, if_pos x0, pu_rmo (by omega)]
          by_cases m : C 43 0 x = 24
          · rw [if_neg (fun z => z m), pu_rm4, pu_wrongE, pu_biE, pu_dmany h1 hb0 b2 bl rfl hk19 cl z7 (cm.trans m)]
            unfold pu_fdm
            have e1 : b ≤ pu_nx (pu_sl T) n b := pu_nx_le
            have e2 : pu_nx (pu_sl T) n b ≤ n := pu_nx_ge b2
            rw [if_neg (show ¬ ((0 : Int) ≠ 0) by decide), flt77 _ _ _ _ _ _ (by decide)]
            refine ⟨Z, B, C, _, b, 3, b, ?_, rfl, triv _ _ _ _ ⟨by omega, e2⟩ ⟨hb0, b2⟩ (by decide) (fun z => absurd z (by decide)), fun z => absurd z (by decide)⟩
            show mi_req (CL Z) (B_X5_readCode_20 f v v1 c (mi_w (C 43 0 x + 1)) (pu_rd B v (pu_nx (pu_sl T) n b) 3 b) Z) = _
            rw [mi_req_t cl, flt _ _ _ _ _ _ _ (by decide) (by omega)]
          · obtain ⟨Z1, B1, C1, a1, a2, k, w, r1, r2, O⟩ := pu_deed h1 h2 hC zb cl hc z7 hb0 b2 bl rfl hk19.1 (by omega)
            have cl1 := O.g.cl cl
            rw [if_pos m, r1]
            unfold B_X11_readsCode_77 B_X11_fine
            rw [pu_rm6, if_neg (show ¬ ((0 : Int) ≠ 0) by decide), pu_biE, if_pos (show (1 : Int) ≠ 0 by decide), if_pos x0, pu_rmo (by omega), if_pos (by omega), pu_bb r2, pu_w (x := C 43 0 x + 1) (by omega) (by omega)]
            show ∃ (Z' : MiZ) (B' C' : MiD) (a1' a2' k' w' : Int), mi_req (CL Z1) (B_X5_readCode_20 f v v1 c (C 43 0 x + 1) (pu_rd B1 v a1 k w) Z1) = _ ∧ _
            rw [mi_req_t cl1]
            have gw : ∀ {Z' : MiZ} {B' C' : MiD} {a1' a2' k' w' : Int}, pu_cO Z1 B1 c C1 x n Z' B' C' a1' a2' k' w' → C1 43 0 x = C 43 0 x + 1 → pu_cO Z B c C x n Z' B' C' a1' a2' k' w' := fun {Z' B' C' a1' a2' k' w'} P hm1 => by
              obtain ⟨d, d1, d2, d3, d4⟩ := P.cost
              refine ⟨P.b1, P.b2, O.g.tr (P.g.wk (Int.le_refl _) ?_ ?_), P.e6.trans O.e6, P.e23.trans O.e23, ⟨d + 1, by omega, by omega, ?_, ?_⟩, P.zb, fun j i z => (P.oc j i z).trans (O.oc j i z), fun j i => (P.lk j i).trans (O.lk j i), fun q j i z1 z2 => (P.rf q j i z1 z2).trans (O.rf q j i z1 z2), P.k4, P.ok⟩
              · rw [O.e7]; omega
              · rw [O.lk]; exact Int.le_refl _
              · rw [d3, O.c0]; omega
              · rw [d4, O.c1]; omega
            by_cases hk : k = 0
            · obtain ⟨q1, q2, q3, q4⟩ := O.ok hk
              subst hk q1 q2
              have x1 := O.g.x1 h1
              have x2 : pu_X2 n T C1 := h2.st fun q j i z => O.rf q j i (by omega) (by omega)
              have ih := pu_code_l (v1 := v1) (x := x) hv f Z1 B1 C1 a1 x1 x2 q3 O.zb cl1 (by rw [O.e6]; exact hc) (by rw [O.e7]; omega) O.b1.1 O.b1.2 (by rw [q4]; omega)
              rw [hu, q4] at ih
              obtain ⟨Z', B', C', a1', a2', k', w', i1, i2, i3, i4⟩ := ih
              exact ⟨Z', B', C', a1', a2', k', w', i1, i2, gw i3 q4, i4⟩
            · rw [flt _ _ _ _ _ _ _ hk (by omega), fltM _ _ _ _ _ _ hk (by omega)]
              exact ⟨Z1, B1, C1, a1, a2, k, w, rfl, rfl, ⟨O.b1, O.b2, O.g, O.e6, O.e23, ⟨1, by omega, by omega, O.c0, by rw [O.c1]; omega⟩, O.zb, O.oc, O.lk, O.rf, O.k4, fun z => absurd z hk⟩, fun z => absurd z hk⟩
      · rw [if_neg s, if_pos rfl, f45]
        refine no ?_
        have en : pu_nx (pu_sl T) n b = b := by
          by_cases d : b < n
          · exact pu_nx_no (by simpa using fun z => s ⟨d, z⟩)
          · exact pu_nx_end (by omega)
        have : pu_wc T n b = -1 := by unfold pu_wc; rw [en, if_neg (by omega)]
        rw [this]
        decide
def pu_cD (B : MiD) (c A : Int) : MiD := fun q j i => if q = 6 ∧ j = c then 0 else if q = 23 ∧ j = A then 0 else if q = 0 ∧ j = 0 ∧ i = 0 then B 0 0 0 + 2 else if q = 0 ∧ j = 0 ∧ i = 1 then B 0 0 1 + 26 else B q j i
def pu_cZ (Z : MiZ) (c A : Int) : MiZ := (fun q j i => if q = 6 ∧ j = c then (if i = 0 then A else -1) else if q = 23 ∧ j = A then -1 else Z.1 q j i, fun q => if q = 6 then Z.2 6 + 1 else if q = 23 then Z.2 23 + 1 else Z.2 q)
theorem pu_X1iE {D : MiD} {Z : MiZ} (h : 0 ≤ Z.2 23) : B_X1_init (Z.2 6) (mi_nw (D, Z) 6 2).1 (mi_nw (D, Z) 6 2).2 = some (pu_cD D (Z.2 6) (Z.2 23), pu_cZ Z (Z.2 6) (Z.2 23)) := by
  have e : (mi_nw (D, Z) 6 2).2.2 23 = Z.2 23 := by
    show (if 23 = 6 then Z.2 6 + 1 else Z.2 23) = _
    rw [if_neg (by decide)]
  unfold B_X1_init
  rw [e, if_pos h, pu_nlE, pu_letE]
  refine congrArg some (Prod.ext ?_ (Prod.ext ?_ ?_))
  · funext q j i
    unfold mi_nw mi_st pu_cD
    grind (splits := 30)
  · funext q j i
    unfold mi_nw mi_st pu_cZ
    grind (splits := 30)
  · funext q
    unfold mi_nw pu_cZ
    grind (splits := 30)
theorem pu_cDo {B : MiD} {c A : Int} {q : Nat} {j i : Int} (h1 : ¬ (q = 6 ∧ j = c)) (h2 : ¬ (q = 23 ∧ j = A)) (h3 : ¬ (q = 0 ∧ j = 0 ∧ (i = 0 ∨ i = 1))) : pu_cD B c A q j i = B q j i := by
  unfold pu_cD; rw [if_neg h1, if_neg h2, if_neg (by omega), if_neg (by omega)]
theorem pu_cD0 {B : MiD} {c A : Int} : pu_cD B c A 0 0 0 = B 0 0 0 + 2 ∧ pu_cD B c A 0 0 1 = B 0 0 1 + 26 ∧ ∀ i : Int, pu_cD B c A 6 c i = 0 := by
  refine ⟨?_, ?_, fun i => ?_⟩
  · unfold pu_cD; rw [if_neg (by omega), if_neg (by omega), if_pos ⟨rfl, rfl, rfl⟩]
  · unfold pu_cD; rw [if_neg (by omega), if_neg (by omega), if_neg (by omega), if_pos ⟨rfl, rfl, rfl⟩]
  · unfold pu_cD; rw [if_pos ⟨rfl, rfl⟩]
theorem pu_cZo {Z : MiZ} {c A : Int} {q : Nat} {j i : Int} (h1 : ¬ (q = 6 ∧ j = c)) (h2 : ¬ (q = 23 ∧ j = A)) : (pu_cZ Z c A).1 q j i = Z.1 q j i := by
  show (if q = 6 ∧ j = c then _ else if q = 23 ∧ j = A then _ else Z.1 q j i) = _
  rw [if_neg h1, if_neg h2]
theorem pu_cZn {Z : MiZ} {c A : Int} : (pu_cZ Z c A).2 6 = Z.2 6 + 1 ∧ (pu_cZ Z c A).2 23 = Z.2 23 + 1 ∧ (∀ q : Nat, q ≠ 6 → q ≠ 23 → (pu_cZ Z c A).2 q = Z.2 q) ∧ (pu_cZ Z c A).1 6 c 0 = A ∧ ∀ i : Int, (pu_cZ Z c A).1 23 A i = -1 := by
  refine ⟨rfl, rfl, fun q a b => ?_, ?_, fun i => ?_⟩
  · show (if q = 6 then _ else if q = 23 then _ else Z.2 q) = _
    rw [if_neg a, if_neg b]
  · show (if 6 = 6 ∧ c = c then (if (0 : Int) = 0 then A else -1) else (if 6 = 23 ∧ c = A then -1 else Z.1 6 c 0)) = _
    rw [if_pos ⟨rfl, rfl⟩, if_pos rfl]
  · show (if 23 = 6 ∧ A = c then (if i = 0 then A else -1) else if 23 = 23 ∧ A = A then -1 else Z.1 23 A i) = _
    rw [if_neg (by omega), if_pos ⟨rfl, rfl⟩]
theorem pu_cZB {Z : MiZ} (zb : pu_ZB Z) (z7 : 0 ≤ Z.2 7) : pu_ZB (pu_cZ Z (Z.2 6) (Z.2 23)) := by
  obtain ⟨n6, n23, nq, l, m⟩ := pu_cZn (Z := Z) (c := Z.2 6) (A := Z.2 23)
  refine ⟨fun c a b => ?_, fun a i p1 p2 p3 p4 => ?_, fun f p1 p2 => ?_, fun f p1 p2 => ?_, fun P p1 p2 => ?_, fun a f p1 p2 p3 p4 => ?_⟩
  · rw [n6] at b
    rw [n23]
    by_cases e : c = Z.2 6
    · rw [e, l]; omega
    · rw [pu_cZo (by omega) (by omega)]
      have := zb.c c a (by omega)
      omega
  · rw [n23] at p2
    rw [nq 7 (by decide) (by decide)]
    by_cases e : a = Z.2 23
    · rw [e, m]; omega
    · rw [pu_cZo (by omega) (by omega)]
      exact zb.a a i p1 (by omega) p3 p4
  · rw [pu_cZo (by omega) (by omega), n6]
    have := zb.f f p1 p2
    omega
  · rw [pu_cZo (by omega) (by omega), nq 8 (by decide) (by decide)]
    exact zb.p f p1 p2
  · rw [nq 8 (by decide) (by decide)] at p2
    rw [pu_cZo (by omega) (by omega), pu_cZo (by omega) (by omega), pu_cZo (by omega) (by omega), pu_cZo (by omega) (by omega), nq 24 (by decide) (by decide), n6]
    have := zb.P P p1 p2
    omega
  · rw [nq 24 (by decide) (by decide)] at p2
    rw [pu_cZo (by omega) (by omega), n6]
    have := zb.k a f p1 p2 p3 p4
    omega
theorem pu_cG {Z : MiZ} {B : MiD} {N7 : Int} : pw_G (Z.2 6) N7 (Z.2 23) Z (pu_cZ Z (Z.2 6) (Z.2 23)) B (pu_cD B (Z.2 6) (Z.2 23)) := by
  obtain ⟨n6, n23, nq, l, m⟩ := pu_cZn (Z := Z) (c := Z.2 6) (A := Z.2 23)
  refine ⟨fun q j i a b c => pu_cZo (by omega) (by omega), fun q j i a b c d => pu_cDo (by omega) (by omega) (by omega), fun q a b c => nq q a c, by omega, ?_, by omega⟩
  rw [nq 7 (by decide) (by decide)]
  exact Int.le_refl _
theorem pu_cDr {B : MiD} {c A v a f p : Int} : pu_cD (pu_rd B v a f p) c A = pu_rd (pu_cD B c A) v a f p := by
  funext q j i
  unfold pu_cD pu_rd
  grind (splits := 30)
theorem pu_cC {Z : MiZ} {B C : MiD} {x : Int} (z6 : 0 ≤ Z.2 6) (z23 : 0 ≤ Z.2 23) (hx : 0 ≤ x ∧ x < 111) (h : C 43 0 x = 0) : pu_C (pu_cZ Z (Z.2 6) (Z.2 23)) (pu_cD B (Z.2 6) (Z.2 23)) (Z.2 6) C x := by
  obtain ⟨n6, n23, nq, l, m⟩ := pu_cZn (Z := Z) (c := Z.2 6) (A := Z.2 23)
  exact ⟨z6, hx, by rw [l]; exact z23, by rw [pu_cD0.2.2, h], by omega, by omega, fun i a b => by omega⟩
def pu_kO (Z : MiZ) (B C : MiD) (x n : Int) (Z' : MiZ) (B' C' : MiD) (a1 a2 k w : Int) : Prop := (0 ≤ a1 ∧ a1 ≤ n) ∧ (0 ≤ a2 ∧ a2 ≤ n) ∧ (pw_G (Z.2 6) (Z.2 7) (Z.2 23) Z Z' B B') ∧ (Z'.2 6 = Z.2 6 + 1) ∧ (Z'.2 23 = Z.2 23 + 1) ∧ (B' 0 0 0 ≤ B 0 0 0 + 26) ∧ (B' 0 0 1 ≤ B 0 0 1 + 170) ∧ (pu_ZB Z') ∧ (∀ (q : Nat) (j i : Int), ¬ (q = 43 ∧ j = 0 ∧ i = x) → ¬ (q = 46 ∧ 24 * x ≤ j ∧ j < 24 * x + 24) → C' q j i = C q j i) ∧ (0 ≤ k ∧ k ≤ 4) ∧ (k = 0 → a1 = a2 ∧ w = -1 ∧ pu_C Z' B' (Z.2 6) C' x)
theorem pu_kO.b1 {Z : MiZ} {B C : MiD} {x n : Int} {Z' : MiZ} {B' C' : MiD} {a1 a2 k w : Int} (h : pu_kO Z B C x n Z' B' C' a1 a2 k w) : 0 ≤ a1 ∧ a1 ≤ n := h.1
theorem pu_kO.b2 {Z : MiZ} {B C : MiD} {x n : Int} {Z' : MiZ} {B' C' : MiD} {a1 a2 k w : Int} (h : pu_kO Z B C x n Z' B' C' a1 a2 k w) : 0 ≤ a2 ∧ a2 ≤ n := h.2.1
theorem pu_kO.g {Z : MiZ} {B C : MiD} {x n : Int} {Z' : MiZ} {B' C' : MiD} {a1 a2 k w : Int} (h : pu_kO Z B C x n Z' B' C' a1 a2 k w) : pw_G (Z.2 6) (Z.2 7) (Z.2 23) Z Z' B B' := h.2.2.1
theorem pu_kO.e6 {Z : MiZ} {B C : MiD} {x n : Int} {Z' : MiZ} {B' C' : MiD} {a1 a2 k w : Int} (h : pu_kO Z B C x n Z' B' C' a1 a2 k w) : Z'.2 6 = Z.2 6 + 1 := h.2.2.2.1
theorem pu_kO.e23 {Z : MiZ} {B C : MiD} {x n : Int} {Z' : MiZ} {B' C' : MiD} {a1 a2 k w : Int} (h : pu_kO Z B C x n Z' B' C' a1 a2 k w) : Z'.2 23 = Z.2 23 + 1 := h.2.2.2.2.1
theorem pu_kO.c0 {Z : MiZ} {B C : MiD} {x n : Int} {Z' : MiZ} {B' C' : MiD} {a1 a2 k w : Int} (h : pu_kO Z B C x n Z' B' C' a1 a2 k w) : B' 0 0 0 ≤ B 0 0 0 + 26 := h.2.2.2.2.2.1
theorem pu_kO.c1 {Z : MiZ} {B C : MiD} {x n : Int} {Z' : MiZ} {B' C' : MiD} {a1 a2 k w : Int} (h : pu_kO Z B C x n Z' B' C' a1 a2 k w) : B' 0 0 1 ≤ B 0 0 1 + 170 := h.2.2.2.2.2.2.1
theorem pu_kO.zb {Z : MiZ} {B C : MiD} {x n : Int} {Z' : MiZ} {B' C' : MiD} {a1 a2 k w : Int} (h : pu_kO Z B C x n Z' B' C' a1 a2 k w) : pu_ZB Z' := h.2.2.2.2.2.2.2.1
theorem pu_kO.rf {Z : MiZ} {B C : MiD} {x n : Int} {Z' : MiZ} {B' C' : MiD} {a1 a2 k w : Int} (h : pu_kO Z B C x n Z' B' C' a1 a2 k w) : ∀ (q : Nat) (j i : Int), ¬ (q = 43 ∧ j = 0 ∧ i = x) → ¬ (q = 46 ∧ 24 * x ≤ j ∧ j < 24 * x + 24) → C' q j i = C q j i := h.2.2.2.2.2.2.2.2.1
theorem pu_kO.k4 {Z : MiZ} {B C : MiD} {x n : Int} {Z' : MiZ} {B' C' : MiD} {a1 a2 k w : Int} (h : pu_kO Z B C x n Z' B' C' a1 a2 k w) : 0 ≤ k ∧ k ≤ 4 := h.2.2.2.2.2.2.2.2.2.1
theorem pu_kO.ok {Z : MiZ} {B C : MiD} {x n : Int} {Z' : MiZ} {B' C' : MiD} {a1 a2 k w : Int} (h : pu_kO Z B C x n Z' B' C' a1 a2 k w) : k = 0 → a1 = a2 ∧ w = -1 ∧ pu_C Z' B' (Z.2 6) C' x := h.2.2.2.2.2.2.2.2.2.2
theorem pu_readC {Z : MiZ} {v v1 a f p : Int} {B : MiD} (cl : CL Z) (z6 : 0 ≤ Z.2 6) (z23 : 0 ≤ Z.2 23) : B_X5_readCode v v1 (pu_rd B v a f p) Z = if v1 = 0 then B_X5_readCode_20 mi_fuel v v1 (Z.2 6) 0 (pu_rd (pu_cD B (Z.2 6) (Z.2 23)) v a f p) (pu_cZ Z (Z.2 6) (Z.2 23)) else mi_bi (B_X5_passSign (pu_cZ Z (Z.2 6) (Z.2 23)) v 123 (pu_rd (pu_cD B (Z.2 6) (Z.2 23)) v a f p)) fun D7 => B_X5_readCode_20 mi_fuel v v1 (Z.2 6) 0 D7 (pu_cZ Z (Z.2 6) (Z.2 23)) := by
  have q1 : CL (mi_nw (pu_rd B v a f p, Z) 6 2).2 := pu_CL.k cl fun q j i z => by
    show (if q = 6 ∧ j = Z.2 6 then (-1 : Int) else Z.1 q j i) = _
    rw [if_neg (by omega)]
  have q2 : CL (pu_cZ Z (Z.2 6) (Z.2 23)) := pu_CL.k cl fun q j i z => pu_cZo (by omega) (by omega)
  unfold B_X5_readCode
  rw [if_pos z6, pu_nlE, show (((2 : Nat) : Nat) : Int) = 2 from rfl, mi_req_t q1, pu_X1iE z23]
  show mi_req (CL (pu_cZ Z (Z.2 6) (Z.2 23))) _ = _
  rw [mi_req_t q2, pu_cDr]
theorem pu_fltC {v v1 c : Int} {Z' : MiZ} (g : Nat) (m : Int) (B' : MiD) (a1 k w : Int) (p : k ≠ 0) (q : 0 < g) : B_X5_readCode_20 g v v1 c m (pu_rd B' v a1 k w) Z' = some (c, (pu_rd B' v a1 k w, Z')) := by
  cases g with
  | zero => omega
  | succ g =>
    unfold B_X5_readCode_20
    rw [pu_rd3]
    by_cases d : 24 < m
    · rw [if_pos d]
    · rw [if_neg d, if_pos p]
theorem pu_codeN {Z : MiZ} {v n x v1 a : Int} {T : Int → Int} {B C : MiD} (hv : v1 = 0 ∨ v1 = 1) (h1 : pu_X1 Z v n T B) (h2 : pu_X2 n T C) (zb : pu_ZB Z) (cl : CL Z) (z6 : 0 ≤ Z.2 6) (z7 : 0 ≤ Z.2 7) (z23 : 0 ≤ Z.2 23) (hx : 0 ≤ x ∧ x < 111) (ha : 0 ≤ a) (hn : a ≤ n) :
    ∃ (Z' : MiZ) (B' C' : MiD) (a1 a2 k w : Int), B_X5_readCode_20 mi_fuel v v1 (Z.2 6) 0 (pu_rd (pu_cD B (Z.2 6) (Z.2 23)) v a 0 (-1)) (pu_cZ Z (Z.2 6) (Z.2 23)) = some (Z.2 6, (pu_rd B' v a1 k w, Z')) ∧ B_X11_readsCode x (if v1 = 0 then -1 else 125) (pu_rm C a 0 (-1)) = some (pu_rm C' a2 k w) ∧ (0 ≤ a1 ∧ a1 ≤ n) ∧ (0 ≤ a2 ∧ a2 ≤ n) ∧ pw_G (Z.2 6) (Z.2 7) (Z.2 23) Z Z' B B' ∧ Z'.2 6 = Z.2 6 + 1 ∧ Z'.2 23 = Z.2 23 + 1 ∧ B' 0 0 0 ≤ B 0 0 0 + 26 ∧ B' 0 0 1 ≤ B 0 0 1 + 170 ∧ pu_ZB Z' ∧ (∀ (q : Nat) (j i : Int), ¬ (q = 43 ∧ j = 0 ∧ i = x) → ¬ (q = 46 ∧ 24 * x ≤ j ∧ j < 24 * x + 24) → C' q j i = C q j i) ∧ (0 ≤ k ∧ k ≤ 4) ∧ (k = 0 → w = -1 ∧ pu_C Z' B' (Z.2 6) C' x ∧ pu_ce T n v1 a1 a2) := by
  have fE := pu_fuelE
  obtain ⟨n6, n23, nq, l, m⟩ := pu_cZn (Z := Z) (c := Z.2 6) (A := Z.2 23)
  have G := pu_cG (Z := Z) (B := B) (N7 := Z.2 7)
  have c43 : mi_st C 43 0 x 0 43 0 x = 0 := pu_st_eq
  have L := pu_code_l (c := Z.2 6) (x := x) hv mi_fuel (pu_cZ Z (Z.2 6) (Z.2 23)) (pu_cD B (Z.2 6) (Z.2 23)) (mi_st C 43 0 x 0) a (G.x1 h1) (h2.st fun q j i z => by rw [pu_st, if_neg (by omega)]) (pu_cC z6 z23 hx c43) (pu_cZB zb z7) (G.cl cl) (by omega) (by rw [nq 7 (by decide) (by decide)]; exact z7) ha hn (by rw [c43]; omega)
  rw [c43] at L
  obtain ⟨Z', B', C', a1, a2, k, w, r1, r2, O, E⟩ := L
  obtain ⟨d, d1, d2, d3, d4⟩ := O.cost
  rw [c43] at d2
  have c := pu_cD0 (B := B) (c := Z.2 6) (A := Z.2 23)
  refine ⟨Z', B', C', a1, a2, k, w, r1, ?_, O.b1, O.b2, G.tr (O.g.wk (Int.le_refl _) (by rw [nq 7 (by decide) (by decide)]; exact Int.le_refl _) (by rw [l]; exact Int.le_refl _)), O.e6.trans n6, O.e23.trans n23, by rw [d3, c.1]; omega, by rw [d4, c.2.1]; omega, O.zb, fun q j i z1 z2 => (O.rf q j i z1 z2).trans (by rw [pu_st, if_neg z1]), O.k4, fun z => ⟨(O.ok z).1, (O.ok z).2, E z⟩⟩
  unfold B_X11_readsCode
  rw [if_pos hx, pu_letE, pu_rmso (by omega), r2]
theorem pu_block {Z : MiZ} {v n a nn : Int} {T : Int → Int} {B C : MiD} (h1 : pu_X1 Z v n T B) (h2 : pu_X2 n T C) (zb : pu_ZB Z) (cl : CL Z) (z6 : 0 ≤ Z.2 6) (z7 : 0 ≤ Z.2 7) (z23 : 0 ≤ Z.2 23) (hx : 0 ≤ nn ∧ nn < 11) (ha : 0 ≤ a) (hn : a ≤ n) :
    ∃ (Z' : MiZ) (B' C' : MiD) (a1 a2 k w : Int), B_X5_readCode v 1 (pu_rd B v a 0 (-1)) Z = some (Z.2 6, (pu_rd B' v a1 k w, Z')) ∧ B_X11_block nn (pu_rm C a 0 (-1)) = some (pu_rm C' a2 k w) ∧ pu_kO Z B C (100 + nn) n Z' B' C' a1 a2 k w := by
  have fE := pu_fuelE
  have n5 := h1.n5
  obtain ⟨n6, n23, nq, l, m⟩ := pu_cZn (Z := Z) (c := Z.2 6) (A := Z.2 23)
  have G := pu_cG (Z := Z) (B := B) (N7 := Z.2 7)
  have c := pu_cD0 (B := B) (c := Z.2 6) (A := Z.2 23)
  have b1 : a ≤ pu_nx (pu_bl T) n a := pu_nx_le
  have b2 : pu_nx (pu_bl T) n a ≤ n := pu_nx_ge hn
  unfold B_X11_block B_X11_fine
  rw [pu_readC cl z6 z23, if_neg (by decide), pu_passSE (G.x1 h1) ha hn, pu_signE h2 (by decide) ha hn, pu_biE, pu_biE, pu_w (x := 100 + nn) (by omega) (by omega)]
  by_cases e : pu_nx (pu_bl T) n a < n ∧ T (pu_nx (pu_bl T) n a) = 123
  · obtain ⟨Z', B', C', a1, a2, k, w, r1, r2, u1, u2, g, e6, e23, q0, q1, zb', rf, k4, ok⟩ := pu_codeN (v1 := 1) (x := 100 + nn) (a := pu_nx (pu_bl T) n a + 1) (Or.inr rfl) h1 h2 zb cl z6 z7 z23 (by omega) (by omega) (by omega)
    rw [if_neg (show ¬ ((1 : Int) = 0) by decide)] at r2
    rw [if_pos e, if_pos e, r1, pu_rm6, if_neg (show ¬ ((0 : Int) ≠ 0) by decide), pu_biE, if_pos (show (1 : Int) ≠ 0 by decide), r2, pu_biE]
    by_cases hk : k = 0
    · subst hk
      obtain ⟨t1, t2, t3⟩ := ok rfl
      subst t1
      unfold pu_ce at t3
      rw [if_neg (show ¬ ((1 : Int) = 0) by decide)] at t3
      obtain ⟨t3, t4, t5⟩ := t3
      have en : pu_nx (pu_bl T) n a2 = a2 := pu_nx_no (pu_bl_f.mpr (by omega))
      rw [pu_signE (h2.st fun q j i z => rf q j i (by omega) (by omega)) (by decide) u2.1 u2.2, en, if_pos ⟨t4, t5⟩, pu_biE]
      exact ⟨Z', B', C', a1, a2 + 1, 0, -1, rfl, rfl, ⟨u1, by omega, g, e6, e23, q0, q1, zb', rf, by decide, fun _ => ⟨t3, rfl, t2⟩⟩⟩
    · rw [pu_signF hk, pu_biE]
      exact ⟨Z', B', C', a1, a2, k, w, rfl, rfl, ⟨u1, u2, g, e6, e23, q0, q1, zb', rf, k4, fun z => absurd z hk⟩⟩
  · unfold pu_fd
    rw [if_neg e, if_neg e, if_neg (show ¬ ((0 : Int) ≠ 0) by decide), pu_fltC _ _ _ _ _ _ (by decide) (by omega), pu_rm6, if_pos (show (1 : Int) ≠ 0 by decide), pu_biE, if_neg (show ¬ ((0 : Int) ≠ 0) by decide)]
    exact ⟨_, _, _, _, _, 1, _, rfl, rfl, ⟨⟨by omega, b2⟩, ⟨by omega, b2⟩, G, n6, n23, by rw [c.1]; omega, by rw [c.2.1]; omega, pu_cZB zb z7, fun _ _ _ _ _ => rfl, by decide, fun z => absurd z (by decide)⟩⟩
def pu_bit (x : Int) (i : Nat) : Bool := (Int32.ofInt x).toBitVec.getLsbD i
theorem pu_bit_s (X : Int32) (f : Fin 12) : (X >>> (Int32.ofInt ((f.val : Nat) : Int) &&& 31)).toBitVec.getLsbD 0 = X.toBitVec.getLsbD f.val := by
  rw [Int32.toBitVec_shiftRight]
  have e : ((Int32.ofInt ((f.val : Nat) : Int) &&& 31).toBitVec.smod 32).toNat = f.val := by
    revert f; decide +kernel
  rw [BitVec.sshiftRight_eq', BitVec.getLsbD_sshiftRight, e]
  have := f.isLt
  simp
  omega
theorem pu_isBitE (x : Int) (f : Nat) (hf : f < 12) : B_X11_isBit x f = if pu_bit x f = true then 1 else 0 := by
  have e := pu_bit_s (Int32.ofInt x) ⟨f, hf⟩
  have e' : (Int32.ofInt x >>> (Int32.ofInt (f : Int) &&& 31)).toBitVec.getLsbD 0 = pu_bit x f := e
  have k : ∀ Y : Int32, Y &&& Int32.ofInt 1 = if Y.toBitVec.getLsbD 0 = true then 1 else 0 := fun Y => by
    apply Int32.toBitVec_inj.mp
    rw [Int32.toBitVec_and]
    have : (Int32.ofInt 1).toBitVec = 1#32 := rfl
    rw [this, BitVec.and_one_eq_setWidth_ofBool_getLsbD]
    cases Y.toBitVec.getLsbD 0 <;> rfl
  unfold B_X11_isBit mi_and mi_shr
  rw [Int32.ofInt_toInt, k, e']
  cases pu_bit x f
  · rw [if_neg (show ¬ (false = true) by decide), if_neg (show ¬ (false = true) by decide)]; rfl
  · rw [if_pos rfl, if_pos rfl]; rfl
def pu_bits (g : Int → Bool) (x : Int) : Prop := ((Int32.ofInt x).toInt = x) ∧ (∀ i : Nat, i < 32 → pu_bit x i = (decide (i < 12) && g i))
theorem pu_bits.r {g : Int → Bool} {x : Int} (h : pu_bits g x) : (Int32.ofInt x).toInt = x := h.1
theorem pu_bits.b {g : Int → Bool} {x : Int} (h : pu_bits g x) : ∀ i : Nat, i < 32 → pu_bit x i = (decide (i < 12) && g i) := h.2
theorem pu_bits.eq {g : Int → Bool} {x y : Int} (h : pu_bits g x) (k : pu_bits g y) : x = y := by
  have e : Int32.ofInt x = Int32.ofInt y := by
    apply Int32.toBitVec_inj.mp
    apply BitVec.eq_of_getLsbD_eq
    intro i hi
    exact (h.b i hi).trans (k.b i hi).symm
  rw [← h.r, ← k.r, e]
theorem pu_bits.z : pu_bits (fun _ => false) 0 := ⟨rfl, fun i h => by unfold pu_bit; simp⟩
theorem pu_shlF : ∀ f : Fin 12, ∀ i : Fin 32, (Int32.ofInt (mi_shl 1 ((f.val : Nat) : Int))).toBitVec.getLsbD i.val = decide (i.val = f.val) := by decide +kernel
theorem pu_bits.or {g : Int → Bool} {x f : Int} (h : pu_bits g x) (hf : 0 ≤ f ∧ f < 12) : pu_bits (fun i => g i || decide (i = f)) (mi_or x (mi_shl 1 f)) := by
  obtain ⟨m, rfl⟩ := Int.eq_ofNat_of_zero_le hf.1
  refine ⟨by unfold mi_or; rw [Int32.ofInt_toInt], fun i hi => ?_⟩
  have e := pu_shlF ⟨m, by omega⟩ ⟨i, hi⟩
  have e' : (Int32.ofInt (mi_shl 1 (m : Int))).toBitVec.getLsbD i = decide (i = m) := e
  have hb := h.b i hi
  unfold pu_bit at hb ⊢
  unfold mi_or
  rw [Int32.ofInt_toInt, Int32.toBitVec_or, BitVec.getLsbD_or, hb, e']
  by_cases c : i = m
  · subst c
    have : i < 12 := by omega
    simp [this]
  · have : ¬ ((i : Int) = (m : Int)) := by omega
    simp [c, this]
theorem pu_bits.is {g : Int → Bool} {x f : Int} (h : pu_bits g x) (hf : 0 ≤ f ∧ f < 12) : B_X11_isBit x f ≠ 0 ↔ g f = true := by
  obtain ⟨m, rfl⟩ := Int.eq_ofNat_of_zero_le hf.1
  have hm : m < 12 := by omega
  have e := h.b m (by omega)
  rw [pu_isBitE x m hm, e]
  cases g (m : Int) <;> simp [hm]
theorem pu_bits.k {g g' : Int → Bool} {x : Int} (h : pu_bits g x) (e : ∀ i : Int, 0 ≤ i → i < 12 → g i = g' i) : pu_bits g' x := ⟨h.r, fun i hi => by
  rw [h.b i hi]
  by_cases c : i < 12
  · rw [e i (by omega) (by omega)]
  · simp [c]⟩
def pu_lkg (Z : MiZ) (a : Int) : Int → Bool := fun f => decide (0 ≤ Z.1 24 a f)
theorem pu_fb_l {D : MiD} {Z : MiZ} {P a : Int} (ha : Z.1 8 P 1 = a) (a0 : 0 ≤ a) : ∀ (f : Nat) (x i : Int), pu_bits (fun j => decide (j < i) && pu_lkg Z a j) x → 0 ≤ i → i ≤ 12 → 12 - i < f → ∃ y, B_X4_functionBits_4 D Z f P x i = some y ∧ pu_bits (pu_lkg Z a) y
  | 0, x, i, h, h1, h2, h3 => by omega
  | f + 1, x, i, h, h1, h2, h3 => by
    unfold B_X4_functionBits_4
    rw [ha]
    by_cases c : 12 ≤ i
    · rw [if_pos c]
      exact ⟨x, rfl, h.k fun j a b => by simp [show j < i by omega]⟩
    · rw [if_neg c, if_pos a0, if_pos ⟨h1, by omega⟩, pu_w (by omega) (by omega)]
      by_cases d : Z.1 24 a i < 0
      · rw [if_pos d]
        refine pu_fb_l ha a0 f x (i + 1) (h.k fun j p q => ?_) (by omega) (by omega) (by omega)
        by_cases e : j = i
        · subst e
          have : pu_lkg Z a j = false := decide_eq_false (by omega)
          rw [this]; simp
        · simp [show (j < i) ↔ (j < i + 1) by omega]
      · rw [if_neg d, pu_letE]
        refine pu_fb_l ha a0 f _ (i + 1) ((h.or ⟨h1, by omega⟩).k fun j p q => ?_) (by omega) (by omega) (by omega)
        by_cases e : j = i
        · subst e
          have : pu_lkg Z a j = true := decide_eq_true (by omega)
          rw [this]; simp; omega
        · simp [e, show (j < i) ↔ (j < i + 1) by omega]
theorem pu_fbE {D : MiD} {Z : MiZ} {P a : Int} (ha : Z.1 8 P 1 = a) (a0 : 0 ≤ a) : ∃ y, B_X4_functionBits D Z P = some y ∧ pu_bits (pu_lkg Z a) y := by
  have fE := pu_fuelE
  unfold B_X4_functionBits
  exact pu_fb_l ha a0 mi_fuel 0 0 (pu_bits.z.k fun j p q => by simp [show ¬ j < 0 by omega]) (by decide) (by decide) (by omega)
def pu_id (D2 : MiD) (t : Int) : Bool := decide (D2 59 t 0 = 0)
theorem pu_idF : ∀ a b c d e f : Bool, pu_sb1 f (pu_sb1 e (pu_sb1 d (pu_sb1 c (pu_sb1 b (pu_sb1 a 0 0) 1) 2) 3) 4) 5 = 63 ↔ a = true ∧ b = true ∧ c = true ∧ d = true ∧ e = true ∧ f = true := by decide +kernel
theorem pu_idle {Z : MiZ} {D1 D2 : MiD} (h : pu_A 0 Z D1 D2) : ∃ y b, B_X9_idleBits D1 0 = some y ∧ B_X11_areIdle D2 = some b ∧ (b = 0 ∨ b = 1) ∧ (y = 63 ↔ b = 1) ∧ (b = 1 → ∀ t : Int, 0 ≤ t → t < 6 → D2 59 t 0 = 0) := by
  have st : ∀ (f : Nat) (x t : Int), 0 ≤ t → t < 6 → B_X9_idleBits_4 D1 (f + 1) 0 x t = B_X9_idleBits_4 D1 f 0 (pu_sb1 (pu_id D2 t) x t) (t + 1) := fun f x t a b => by
    have k := (h.t t a b).fr
    conv => lhs; unfold B_X9_idleBits_4
    rw [if_neg (by omega), if_pos ⟨a, b⟩, k, pu_w (by omega) (by omega), pu_letE]
    unfold pu_sb1 pu_id
    by_cases c : D2 59 t 0 = 0
    · rw [if_neg (fun z => z c), if_pos (decide_eq_true c)]
    · rw [if_pos c, if_neg (by simp [c])]
  have e1 : B_X9_idleBits D1 0 = some (pu_sb1 (pu_id D2 5) (pu_sb1 (pu_id D2 4) (pu_sb1 (pu_id D2 3) (pu_sb1 (pu_id D2 2) (pu_sb1 (pu_id D2 1) (pu_sb1 (pu_id D2 0) 0 0) 1) 2) 3) 4) 5) := by
    unfold B_X9_idleBits
    rw [show mi_fuel = 3993 + 1 + 1 + 1 + 1 + 1 + 1 + 1 from rfl, st _ _ 0 (by decide) (by decide), st _ _ (0 + 1) (by decide) (by decide), st _ _ (0 + 1 + 1) (by decide) (by decide), st _ _ (0 + 1 + 1 + 1) (by decide) (by decide), st _ _ (0 + 1 + 1 + 1 + 1) (by decide) (by decide), st _ _ (0 + 1 + 1 + 1 + 1 + 1) (by decide) (by decide)]
    unfold B_X9_idleBits_4
    rw [if_pos (by decide)]
    rfl
  have sm : ∀ (f : Nat) (t : Int), 0 ≤ t → t < 6 → B_X11_areIdle_2 D2 (f + 1) t = if pu_id D2 t = true then B_X11_areIdle_2 D2 f (t + 1) else some 0 := fun f t a b => by
    conv => lhs; unfold B_X11_areIdle_2
    unfold B_X11_isIdle pu_id
    rw [if_neg (by omega), if_pos (by omega), pu_w (by omega) (by omega)]
    by_cases c : D2 59 t 0 = 0
    · rw [if_neg (fun z => z c), pu_biE, if_pos (by decide), if_pos (decide_eq_true c)]
    · rw [if_pos c, pu_biE, if_neg (by decide), if_neg (by simp [c])]
  have e2 : B_X11_areIdle D2 = some (if pu_id D2 0 = true ∧ pu_id D2 1 = true ∧ pu_id D2 2 = true ∧ pu_id D2 3 = true ∧ pu_id D2 4 = true ∧ pu_id D2 5 = true then 1 else 0) := by
    unfold B_X11_areIdle
    rw [show mi_fuel = 3993 + 1 + 1 + 1 + 1 + 1 + 1 + 1 from rfl, sm _ 0 (by decide) (by decide), sm _ (0 + 1) (by decide) (by decide), sm _ (0 + 1 + 1) (by decide) (by decide), sm _ (0 + 1 + 1 + 1) (by decide) (by decide), sm _ (0 + 1 + 1 + 1 + 1) (by decide) (by decide), sm _ (0 + 1 + 1 + 1 + 1 + 1) (by decide) (by decide)]
    have en : B_X11_areIdle_2 D2 (3993 + 1) (0 + 1 + 1 + 1 + 1 + 1 + 1) = some 1 := by
      unfold B_X11_areIdle_2
      rw [if_pos (by decide)]
    rw [en]
    simp only [Int.reduceAdd]
    by_cases q0 : pu_id D2 0 = true <;> by_cases q1 : pu_id D2 1 = true <;> by_cases q2 : pu_id D2 2 = true <;> by_cases q3 : pu_id D2 3 = true <;> by_cases q4 : pu_id D2 4 = true <;> by_cases q5 : pu_id D2 5 = true <;> simp [q0, q1, q2, q3, q4, q5]
  refine ⟨_, _, e1, e2, by split <;> simp, ?_, fun z t a b => ?_⟩
  · rw [pu_idF]
    split
    · rename_i z; simp [z]
    · rename_i z; simp [z]
  · split at z
    · rename_i u
      have : t = 0 ∨ t = 1 ∨ t = 2 ∨ t = 3 ∨ t = 4 ∨ t = 5 := by omega
      unfold pu_id at u
      simp only [decide_eq_true_eq] at u
      rcases this with rfl | rfl | rfl | rfl | rfl | rfl <;> omega
    · exact absurd z (by decide)
theorem pu_cc27 {L : Int → Int → Int → MiD → Option MiD} {x y k : Int} (hx : 0 ≤ x ∧ x < 111) (hy : 0 ≤ y ∧ y < 111) (hk : 0 ≤ k ∧ k < 24) (hxy : x ≠ y) : ∀ (f : Nat) (i : Int) (D : MiD), 0 ≤ i → i ≤ 6 → 6 - i < f → ∃ E, B_X11_copiesCode_27 L f x y k i D = L x y (k + 1) E ∧ (∀ q j i', ¬ (q = 46 ∧ j = 24 * y + k) → E q j i' = D q j i') ∧ (∀ i' : Int, i ≤ i' → i' < 6 → E 46 (24 * y + k) i' = D 46 (24 * x + k) i') ∧ ∀ i' : Int, i' < i → E 46 (24 * y + k) i' = D 46 (24 * y + k) i'
  | 0, i, D, h1, h2, h3 => by omega
  | f + 1, i, D, h1, h2, h3 => by
    unfold B_X11_copiesCode_27
    rw [pu_w (x := k + 1) (by omega) (by omega), pu_w (x := i + 1) (by omega) (by omega)]
    by_cases c : 6 ≤ i
    · rw [if_pos c]
      exact ⟨D, rfl, fun _ _ _ _ => rfl, fun i' a b => by omega, fun _ _ => rfl⟩
    · rw [if_neg c, if_pos hy, if_pos hk, if_pos hx, if_pos ⟨h1, by omega⟩, pu_letE]
      obtain ⟨E, e1, e2, e3, e4⟩ := pu_cc27 (L := L) hx hy hk hxy f (i + 1) (mi_st D 46 (24 * y + k) i (D 46 (24 * x + k) i)) (by omega) (by omega) (by omega)
      refine ⟨E, e1, fun q j i' z => by rw [e2 q j i' z, pu_st, if_neg (by omega)], fun i' a b => ?_, fun i' a => by rw [e4 i' (by omega), pu_st, if_neg (by omega)]⟩
      by_cases d : i' = i
      · subst d
        rw [e4 i' (by omega), pu_st_eq]
      · rw [e3 i' (by omega) b, pu_st, if_neg (by omega)]
theorem pu_cc14 {x y : Int} (hx : 0 ≤ x ∧ x < 111) (hy : 0 ≤ y ∧ y < 111) (hxy : x ≠ y) : ∀ (f : Nat) (k : Int) (D : MiD), 0 ≤ k → k ≤ 24 → D 43 0 x ≤ 24 → 25 - k < f → ∃ E, B_X11_copiesCode_14 f x y k D = some E ∧ (∀ q j i', ¬ (q = 46 ∧ 24 * y ≤ j ∧ j < 24 * y + 24) → E q j i' = D q j i') ∧ (∀ l i' : Int, k ≤ l → l < D 43 0 x → 0 ≤ i' → i' < 6 → E 46 (24 * y + l) i' = D 46 (24 * x + l) i') ∧ ∀ l i' : Int, l < k → E 46 (24 * y + l) i' = D 46 (24 * y + l) i'
  | 0, k, D, h1, h2, h3, h4 => by omega
  | f + 1, k, D, h1, h2, h3, h4 => by
    have fE := pu_fuelE
    unfold B_X11_copiesCode_14
    rw [if_pos hx]
    by_cases c : D 43 0 x ≤ k
    · rw [if_pos c]
      exact ⟨D, rfl, fun _ _ _ _ => rfl, fun l i' a b => by omega, fun _ _ _ => rfl⟩
    · rw [if_neg c]
      obtain ⟨E, e1, e2, e3, e4⟩ := pu_cc27 (L := B_X11_copiesCode_14 f) hx hy (k := k) ⟨h1, by omega⟩ hxy mi_fuel 0 D (by decide) (by decide) (by omega)
      obtain ⟨F, f1, f2, f3, f4⟩ := pu_cc14 hx hy hxy f (k + 1) E (by omega) (by omega) (by rw [e2 _ _ _ (by omega)]; exact h3) (by omega)
      rw [e2 43 0 x (by omega)] at f3
      refine ⟨F, e1.trans f1, fun q j i' z => by rw [f2 q j i' z, e2 q j i' (by omega)], fun l i' a b p q => ?_, fun l i' a => by rw [f4 l i' (by omega), e2 _ _ _ (by omega)]⟩
      by_cases d : l = k
      · subst d
        rw [f4 l i' (by omega), e3 i' p q]
      · rw [f3 l i' (by omega) b p q, e2 _ _ _ (by omega)]
theorem pu_ccE {x y : Int} {D : MiD} (hx : 0 ≤ x ∧ x < 111) (hy : 0 ≤ y ∧ y < 111) (hxy : x ≠ y) (h24 : D 43 0 x ≤ 24) : ∃ E, B_X11_copiesCode x y D = some E ∧ E 43 0 y = D 43 0 x ∧ (∀ l i' : Int, 0 ≤ l → l < D 43 0 x → 0 ≤ i' → i' < 6 → E 46 (24 * y + l) i' = D 46 (24 * x + l) i') ∧ ∀ (q : Nat) (j i' : Int), ¬ (q = 43 ∧ j = 0 ∧ i' = y) → ¬ (q = 46 ∧ 24 * y ≤ j ∧ j < 24 * y + 24) → E q j i' = D q j i' := by
  have fE := pu_fuelE
  have e0 : mi_st D 43 0 y (D 43 0 x) 43 0 x = D 43 0 x := by rw [pu_st, if_neg (by omega)]
  obtain ⟨E, e1, e2, e3, e4⟩ := pu_cc14 hx hy hxy mi_fuel 0 (mi_st D 43 0 y (D 43 0 x)) (by decide) (by decide) (by rw [e0]; exact h24) (by omega)
  rw [e0] at e3
  refine ⟨E, ?_, ?_, fun l i' a b p q => ?_, fun q j i' z1 z2 => ?_⟩
  · unfold B_X11_copiesCode
    rw [if_pos hx, if_pos hy, pu_letE]
    exact e1
  · rw [e2 _ _ _ (by omega), pu_st_eq]
  · rw [e3 l i' a b p q, pu_st, if_neg (by omega)]
  · rw [e2 _ _ _ z2, pu_st, if_neg z1]
theorem pu_dd.cp {Z : MiZ} {D1 D2 E2 : MiD} {y x x' : Int} (h : pu_dd Z D1 y D2 x) (hx : 0 ≤ x' ∧ x' < 2664) (e : ∀ i : Int, 0 ≤ i → i < 6 → E2 46 x' i = D2 46 x i) : pu_dd Z D1 y E2 x' := by
  unfold pu_dd at h ⊢
  rw [e 0 (by decide) (by decide), e 1 (by decide) (by decide), e 2 (by decide) (by decide), e 3 (by decide) (by decide), e 4 (by decide) (by decide)]
  exact ⟨h.1, hx, h.2.2⟩
theorem pu_C.cp {Z : MiZ} {D1 D2 E2 : MiD} {c x x' : Int} (h : pu_C Z D1 c D2 x) (hx : 0 ≤ x' ∧ x' < 111) (e1 : E2 43 0 x' = D2 43 0 x) (e2 : ∀ l i : Int, 0 ≤ l → l < D2 43 0 x → 0 ≤ i → i < 6 → E2 46 (24 * x' + l) i = D2 46 (24 * x + l) i) : pu_C Z D1 c E2 x' := by
  obtain ⟨h1, h2, h3, h4, h5, h6, h7⟩ := h
  refine ⟨h1, hx, h3, by rw [e1]; exact h4, by rw [e1]; exact h5, by rw [e1]; exact h6, fun i a b => ?_⟩
  rw [e1] at b
  exact (h7 i a b).cp ⟨by omega, by omega⟩ (fun j p q => e2 i j a b p q)
theorem pu_P.fnU {Z Z' : MiZ} {D1 D2 E1 E2 : MiD} {f : Int} (B : pu_ZB Z) (h : pu_P 0 Z D1 D2) (m : pu_MB D2) (k : pu_zk Z Z' D1 E1) (k11 : ∀ g : Int, 0 ≤ g → g < 12 → g ≠ f → Z'.1 11 0 g = Z.1 11 0 g) (k12 : ∀ p : Int, Z'.1 12 0 p = Z.1 12 0 p)
    (kc : ∀ c : Int, 0 ≤ c → c < 100 → c ≠ f → E2 43 0 c = D2 43 0 c ∧ ∀ i j : Int, 0 ≤ i → i < 24 → E2 46 (24 * c + i) j = D2 46 (24 * c + i) j) (hf12 : f < 12)
    (k47 : ∀ p : Int, 0 ≤ p → p < 8 → E2 47 0 p = D2 47 0 p ∧ E2 48 0 p = D2 48 0 p ∧ ∀ g : Int, E2 51 p g = D2 51 p g) (e11 : E2 40 0 11 = D2 40 0 11) (hf : 0 ≤ f → pu_C Z' E1 (Z'.1 11 0 f) E2 f) : pu_P 0 Z' E1 E2 := by
  have n8 := h.n8
  refine ⟨by rw [e11]; exact h.n0, by rw [e11]; exact n8, fun g a b => ?_, fun p a b => ?_, fun p a b => ?_⟩
  · by_cases c : g = f
    · subst c; exact hf a
    · rw [k11 g a b c]
      exact (h.fn g a b).zk (x' := 0) B (B.f g a b) k (kc g a (by omega) c).1 (kc g a (by omega) c).2
  · rw [e11] at b
    obtain ⟨q1, q2, q3⟩ := k47 p a (by omega)
    rw [k12]
    refine (h.pt p a b).zk B (B.p p a (by omega)) k ⟨q2, q1⟩ q3 (fun c hc => ?_)
    have : 12 ≤ c ∧ c < 100 := by
      rcases hc with rfl | rfl | rfl | ⟨g, g1, g2, g3, rfl⟩
      · omega
      · omega
      · omega
      · have := m p g a b g1 g2 g3
        omega
    exact kc c (by omega) this.2 (by omega)
  · rw [e11] at a
    rw [k12]
    exact h.nul p a b
theorem pu_L.n {Z Z' : MiZ} {D1 D2 E1 E2 : MiD} (h : pu_L Z D1 D2) (hp : pu_P 0 Z' E1 E2) (hm : pu_MB E2) (f1 : ∀ (q : Nat) (j i : Int), q = 2 ∨ q = 3 ∨ q = 4 ∨ q = 5 ∨ q = 15 ∨ q = 16 ∨ q = 17 ∨ q = 18 ∨ q = 19 ∨ q = 20 ∨ q = 21 ∨ q = 22 → E1 q j i = D1 q j i)
    (f2 : ∀ (q : Nat) (j i : Int), q = 41 ∨ q = 49 ∨ q = 52 ∨ q = 53 ∨ q = 55 ∨ q = 57 ∨ q = 59 ∨ q = 60 ∨ q = 63 ∨ q = 64 ∨ q = 65 → E2 q j i = D2 q j i) (e47 : ∀ p : Int, 0 ≤ p → p < D2 40 0 11 → E2 47 0 p = D2 47 0 p) (e11 : D2 40 0 11 ≤ E2 40 0 11)
    (r6 : ∀ i : Int, i = 6 ∨ i = 7 ∨ i = 8 → E1 1 0 i = D1 1 0 i) (c3 : E1 1 0 3 = E2 40 0 11) (c1 : E1 1 0 1 = 0) (c1' : E2 40 0 2 = 0) (c2 : E1 1 0 2 = E2 40 0 5) : pu_L Z' E1 E2 := by
  refine ⟨⟨h.a.d.o (fun q j i z => f1 q j i (by omega)) (fun q j i z => f2 q j i (by omega)), hp, fun t a b => ?_, ?_⟩, ?_, hm⟩
  · obtain ⟨k1, k2', k3, k4, k5, k6, k7, k8, k9, k10, k12', k13, k14, k15, k16⟩ := h.a.t t a b
    have q4 : ∀ i : Int, E1 4 (6 * 0 + t) i = D1 4 (6 * 0 + t) i := fun i => f1 _ _ _ (by omega)
    have q59 : ∀ i : Int, E2 59 t i = D2 59 t i := fun i => f2 _ _ _ (by omega)
    have q63 : ∀ j i : Int, E2 63 j i = D2 63 j i := fun j i => f2 _ _ _ (by omega)
    refine ⟨?_, ?_, ?_, ?_, ?_, ?_, ?_, ?_, ?_, ?_, ?_, ?_, ?_, fun e x y => ?_, ?_⟩
    all_goals try (simp only [q4, q59, q63]; assumption)
    · unfold pu_v at k14 ⊢
      rw [f1 5 _ _ (by omega), f1 5 _ _ (by omega), q59, f2 60 _ _ (by omega)]
      exact k14
    · rw [q59] at y
      have F := k15 e x y
      refine ⟨?_, ?_, ?_, ?_, ?_, ?_, fun z => ?_, ?_, ?_, ?_, ?_⟩
      · rw [f1 19 _ _ (by omega), q63]; exact F.f
      · rw [q63]; exact F.f0
      · rw [q63]; exact F.f1
      · rw [f1 20 _ _ (by omega), q63]; exact F.p
      · rw [q63]; exact F.p0
      · rw [q63]; have := F.p1; omega
      · rw [q63] at z
        rw [q63, q63, e47 _ z F.p1]
        exact F.h z
      · rw [f1 21 _ _ (by omega), q63]; exact F.a
      · rw [q63]; exact F.a0
      · rw [q63]; exact F.a1
      · rw [f1 22 _ _ (by omega), q63]; exact F.b
  · obtain ⟨b1, b2, b3, b4, b5, b6, b7, b8, b9, b10, b11, b12, b13, b14, b15, b16, b17, b18, b19, b20⟩ := h.a.w
    have q2 : ∀ i j : Int, E1 2 j i = D1 2 j i := fun i j => f1 _ _ _ (by omega)
    have q4 : ∀ i j : Int, E1 4 j i = D1 4 j i := fun i j => f1 _ _ _ (by omega)
    have q15 : ∀ i j : Int, E1 15 j i = D1 15 j i := fun i j => f1 _ _ _ (by omega)
    have q16 : ∀ i j : Int, E1 16 j i = D1 16 j i := fun i j => f1 _ _ _ (by omega)
    have r65 : ∀ i j : Int, E2 65 j i = D2 65 j i := fun i j => f2 _ _ _ (by omega)
    have r64 : ∀ i j : Int, E2 64 j i = D2 64 j i := fun i j => f2 _ _ _ (by omega)
    have r59 : ∀ i j : Int, E2 59 j i = D2 59 j i := fun i j => f2 _ _ _ (by omega)
    have r49 : ∀ i j : Int, E2 49 j i = D2 49 j i := fun i j => f2 _ _ _ (by omega)
    refine ⟨?_, ?_, ?_, ?_, ?_, by rw [r65]; omega, ?_, ?_, ?_, ?_, ?_, ?_, ?_, ?_, ?_, ?_, fun s x y => ?_, ?_, ?_, ?_⟩
    all_goals try (simp only [q2, q4, q15, q16, r65, r64, r59, r49]; assumption)
    rw [r65] at y
    rw [q15, r64]
    have := b17 s x y
    omega
  · obtain ⟨x1, x2, x3, x4, x5, x6, x7, x8, x9⟩ := h.c
    refine ⟨by rw [r6 6 (by decide), f2 41 _ _ (by omega)]; exact x1, by rw [r6 7 (by decide), f2 41 _ _ (by omega)]; exact x2, by rw [r6 8 (by decide), f2 41 _ _ (by omega)]; exact x3, c3, by rw [c1, c1'], by rw [c1']; decide, by rw [c1']; decide, c2, fun i a b => by rw [c1'] at b; omega⟩
def pu_LL (Z : MiZ) (D1 D2 : MiD) : Prop := (pu_L Z D1 D2) ∧ (pu_ZB Z) ∧ (CL Z) ∧ (mi_cw mi_s1 Z) ∧ (0 ≤ Z.2 6) ∧ (0 ≤ Z.2 7) ∧ (0 ≤ Z.2 8) ∧ (0 ≤ Z.2 9) ∧ (0 ≤ Z.2 23) ∧ (0 ≤ Z.2 24)
theorem pu_LL.l {Z : MiZ} {D1 D2 : MiD} (h : pu_LL Z D1 D2) : pu_L Z D1 D2 := h.1
theorem pu_LL.zb {Z : MiZ} {D1 D2 : MiD} (h : pu_LL Z D1 D2) : pu_ZB Z := h.2.1
theorem pu_LL.cl {Z : MiZ} {D1 D2 : MiD} (h : pu_LL Z D1 D2) : CL Z := h.2.2.1
theorem pu_LL.cw {Z : MiZ} {D1 D2 : MiD} (h : pu_LL Z D1 D2) : mi_cw mi_s1 Z := h.2.2.2.1
theorem pu_LL.n6 {Z : MiZ} {D1 D2 : MiD} (h : pu_LL Z D1 D2) : 0 ≤ Z.2 6 := h.2.2.2.2.1
theorem pu_LL.n7 {Z : MiZ} {D1 D2 : MiD} (h : pu_LL Z D1 D2) : 0 ≤ Z.2 7 := h.2.2.2.2.2.1
theorem pu_LL.n8 {Z : MiZ} {D1 D2 : MiD} (h : pu_LL Z D1 D2) : 0 ≤ Z.2 8 := h.2.2.2.2.2.2.1
theorem pu_LL.n9 {Z : MiZ} {D1 D2 : MiD} (h : pu_LL Z D1 D2) : 0 ≤ Z.2 9 := h.2.2.2.2.2.2.2.1
theorem pu_LL.n23 {Z : MiZ} {D1 D2 : MiD} (h : pu_LL Z D1 D2) : 0 ≤ Z.2 23 := h.2.2.2.2.2.2.2.2.1
theorem pu_LL.n24 {Z : MiZ} {D1 D2 : MiD} (h : pu_LL Z D1 D2) : 0 ≤ Z.2 24 := h.2.2.2.2.2.2.2.2.2
theorem pu_cwk {Z Z' : MiZ} (h : mi_cw mi_s1 Z) (k : ∀ q : Nat, q ≠ 6 → q ≠ 7 → q ≠ 8 → q ≠ 9 → q ≠ 23 → q ≠ 24 → Z'.2 q = Z.2 q) : mi_cw mi_s1 Z' := by
  refine ⟨fun r a b => ?_, fun r a => ?_⟩
  · rw [k r (fun z => by subst z; exact absurd a (by decide)) (fun z => by subst z; exact absurd a (by decide)) (fun z => by subst z; exact absurd a (by decide)) (fun z => by subst z; exact absurd a (by decide)) (fun z => by subst z; exact absurd a (by decide)) (fun z => by subst z; exact absurd a (by decide))]
    exact h.1 r a b
  · rw [k r (fun z => by subst z; exact absurd a (by decide)) (fun z => by subst z; exact absurd a (by decide)) (fun z => by subst z; exact absurd a (by decide)) (fun z => by subst z; exact absurd a (by decide)) (fun z => by subst z; exact absurd a (by decide)) (fun z => by subst z; exact absurd a (by decide))]
    exact h.2 r a
def pu_qns (mp : Nat → Int) (Z : MiZ) (D1 D2 : MiD) (a : Option ((Int × MiM) ⊕ (Nat × MiM))) (b : Option (Int × MiD)) : Prop :=
  (∃ v E Z' G, a = some (.inl (v, (E, Z'))) ∧ b = some (v, G) ∧ G 40 0 0 = 0 ∧ pu_LL Z' E G ∧ E 0 0 0 ≤ D1 0 0 0 + 400 ∧ E 0 0 1 ≤ D1 0 0 1 + 3000 ∧ ∀ i : Int, G 0 0 i = D2 0 0 i) ∨
  (∃ k E v G, a = some (.inr (k, (E, Z))) ∧ b = some (v, G) ∧ G 40 0 0 = mp k ∧ mp k ≠ 0 ∧ k < 3 ∧ pu_L Z E G ∧ E 0 0 0 = D1 0 0 0 + 1 ∧ E 0 0 1 = D1 0 0 1 + 6 ∧ ∀ i : Int, G 0 0 i = D2 0 0 i)
theorem pu_qns.rf {mp : Nat → Int} {Z : MiZ} {D1 D2 : MiD} (h : pu_L Z D1 D2) {k : Nat} {v r : Int} {a : Option ((Int × MiM) ⊕ (Nat × MiM))} {b : Option (Int × MiD)} (hk : k < 3) (hr : r = (k : Int)) (hm : mp k ≠ 0) (ha : a = some (.inr (k, (pu_rf1 r D1, Z)))) (hb : b = some (v, pu_rf2 (mp k) r D2)) : pu_qns mp Z D1 D2 a b := by
  obtain ⟨q1, q2, q3, q4, q5⟩ := pu_rf (w := mp k) (r := r) (by omega) h
  exact Or.inr ⟨k, _, v, _, ha, hb, q2, hm, hk, q1, q3, q4, q5⟩
def pu_nR (D : MiD) (r n : Int) : MiD := fun q j i => if q = 9 ∧ j = r then (if i = 1 then n else if i = 4 then -1 else 0) else if q = 0 ∧ j = 0 ∧ i = 0 then D 0 0 0 + 1 else if q = 0 ∧ j = 0 ∧ i = 1 then D 0 0 1 + 5 else D q j i
def pu_nRZ (Z : MiZ) (r : Int) : MiZ := (fun q j i => if q = 9 ∧ j = r then (if i = 0 then 0 else -1) else Z.1 q j i, fun q => if q = 9 then Z.2 9 + 1 else Z.2 q)
theorem pu_newR {γ : Type} {D : MiD} {Z : MiZ} {n : Int} {L : MiD → MiZ → Option γ} (cl : CL Z) (h9 : 0 ≤ Z.2 9) : (if 0 ≤ Z.2 9 then mi_nl D Z 9 5 (fun D3 Z4 => mi_req (CL Z4) (mi_bw (B_X5_init (Z.2 9) n D3 Z4) L)) else none) = L (pu_rd (pu_nR D (Z.2 9) n) (Z.2 9) 0 0 (-1)) (pu_nRZ Z (Z.2 9)) := by
  have q1 : CL (mi_nw (D, Z) 9 5).2 := pu_CL.k cl fun q j i z => by
    show (if q = 9 ∧ j = Z.2 9 then (-1 : Int) else Z.1 q j i) = _
    rw [if_neg (by omega)]
  have e1 : mi_st (mi_st (mi_nw (D, Z) 9 5).1 9 (Z.2 9) 4 (-1)) 9 (Z.2 9) 1 n = pu_rd (pu_nR D (Z.2 9) n) (Z.2 9) 0 0 (-1) := by
    funext q j i
    unfold mi_nw mi_st pu_nR pu_rd
    grind (splits := 30)
  have e2 : (mi_st (mi_nw (D, Z) 9 5).2.1 9 (Z.2 9) 0 0, (mi_nw (D, Z) 9 5).2.2) = pu_nRZ Z (Z.2 9) := by
    refine Prod.ext ?_ ?_
    · funext q j i
      unfold mi_nw mi_st pu_nRZ
      grind (splits := 30)
    · rfl
  unfold B_X5_init
  rw [if_pos h9, pu_nlE, show (((5 : Nat) : Nat) : Int) = 5 from rfl, mi_req_t q1, pu_letE, pu_letE, pu_letE, e1, e2]
  rfl
theorem pu_nRo {D : MiD} {r n : Int} {q : Nat} {j i : Int} (h1 : ¬ (q = 9 ∧ j = r)) (h3 : ¬ (q = 0 ∧ j = 0 ∧ (i = 0 ∨ i = 1))) : pu_nR D r n q j i = D q j i := by
  unfold pu_nR; rw [if_neg h1, if_neg (by omega), if_neg (by omega)]
theorem pu_nR0 {D : MiD} {r n : Int} : pu_nR D r n 0 0 0 = D 0 0 0 + 1 ∧ pu_nR D r n 0 0 1 = D 0 0 1 + 5 ∧ pu_nR D r n 9 r 1 = n := by
  refine ⟨?_, ?_, ?_⟩
  · unfold pu_nR; rw [if_neg (by omega), if_pos ⟨rfl, rfl, rfl⟩]
  · unfold pu_nR; rw [if_neg (by omega), if_neg (by omega), if_pos ⟨rfl, rfl, rfl⟩]
  · unfold pu_nR; rw [if_pos ⟨rfl, rfl⟩, if_pos rfl]
theorem pu_nRZo {Z : MiZ} {r : Int} {q : Nat} {j i : Int} (h1 : ¬ (q = 9 ∧ j = r)) : (pu_nRZ Z r).1 q j i = Z.1 q j i := by
  show (if q = 9 ∧ j = r then (if i = 0 then (0 : Int) else -1) else Z.1 q j i) = _
  rw [if_neg h1]
theorem pu_nRZn {Z : MiZ} {r : Int} : (∀ q : Nat, q ≠ 9 → (pu_nRZ Z r).2 q = Z.2 q) ∧ (pu_nRZ Z r).2 9 = Z.2 9 + 1 ∧ (pu_nRZ Z r).1 9 r 0 = 0 := by
  refine ⟨fun q a => ?_, rfl, ?_⟩
  · show (if q = 9 then Z.2 9 + 1 else Z.2 q) = _
    rw [if_neg a]
  · show (if 9 = 9 ∧ r = r then (if (0 : Int) = 0 then (0 : Int) else -1) else Z.1 9 r 0) = _
    rw [if_pos ⟨rfl, rfl⟩, if_pos rfl]
theorem pu_nRZB {Z : MiZ} {r : Int} (zb : pu_ZB Z) : pu_ZB (pu_nRZ Z r) := by
  obtain ⟨nq, n9, l⟩ := pu_nRZn (Z := Z) (r := r)
  refine ⟨fun c a b => ?_, fun a i p1 p2 p3 p4 => ?_, fun f p1 p2 => ?_, fun f p1 p2 => ?_, fun P p1 p2 => ?_, fun a f p1 p2 p3 p4 => ?_⟩
  · rw [nq _ (by decide)] at b ⊢; rw [pu_nRZo (by omega)]; exact zb.c c a b
  · rw [nq _ (by decide)] at p2 ⊢; rw [pu_nRZo (by omega)]; exact zb.a a i p1 p2 p3 p4
  · rw [nq _ (by decide)]; rw [pu_nRZo (by omega)]; exact zb.f f p1 p2
  · rw [nq _ (by decide)]; rw [pu_nRZo (by omega)]; exact zb.p f p1 p2
  · rw [nq _ (by decide)] at p2 ⊢; rw [nq _ (by decide), pu_nRZo (by omega), pu_nRZo (by omega), pu_nRZo (by omega), pu_nRZo (by omega)]; exact zb.P P p1 p2
  · rw [nq _ (by decide)] at p2 ⊢; rw [pu_nRZo (by omega)]; exact zb.k a f p1 p2 p3 p4
theorem pu_startsE {n : Int} {D : MiD} : B_X11_starts n D = some (pu_rm (mi_st (mi_st D 40 0 2 0) 40 0 3 n) 0 0 (-1)) := by
  unfold B_X11_starts
  rw [pu_letE, pu_letE, pu_letE, pu_letE, pu_letE]
  congr 1
  funext q j i
  unfold pu_rm mi_st
  grind (splits := 30)
theorem pu_X1.rd {Z : MiZ} {n : Int} {D : MiD} (cl : CL Z) (hn : 0 ≤ n) (n5 : n ≤ 500) (tb : ∀ i : Int, 0 ≤ i → i < n → -128 ≤ D 10 0 i ∧ D 10 0 i < 128) : pu_X1 (pu_nRZ Z (Z.2 9)) (Z.2 9) n (fun i => D 10 0 i) (pu_nR D (Z.2 9) n) :=
  ⟨hn, n5, pu_nRZn.2.2, pu_nR0.2.2, fun i a b => pu_nRo (by omega) (by omega), tb⟩
