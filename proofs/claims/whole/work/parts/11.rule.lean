/-! RuleCourt$Term, RuleCourt$Rule -/
abbrev tC (f : Nat → Int32) : xCel := .inr (9, [.int (f 0), .int (f 1), .int (f 2), .int (f 3), .int (f 4), .int (f 5), .int (f 6)])
def tClr (f : Nat → Int32) (t : Int32) : Nat → Int32 := upd (upd (upd (upd f 0 t) 1 (-1)) 2 (-1)) 3 (-1)
def tArg (f : Nat → Int32) (b : Bool) (x p : Int32) : Nat → Int32 := if b then upd (upd f 2 x) 5 p else upd (upd f 3 x) 6 p
/-- 'whether P' -/
abbrev xAsk (P : Prop) (h : xHp) : Option Value ⊕ Nat → xHp → Prop := fun o h' => ∃ b : Bool, o = .inl (some (.int (bi b))) ∧ h' = h ∧ (b = true ↔ P)
theorem xAsk_t {P : Prop} {h : xHp} (hp : P) : xAsk P h (.inl (some (.int 1))) h := ⟨true, rfl, rfl, fun _ => hp, fun _ => rfl⟩
theorem xAsk_f {P : Prop} {h : xHp} (hp : ¬ P) : xAsk P h (.inl (some (.int 0))) h := ⟨false, rfl, rfl, fun q => (by cases q), fun q => absurd q hp⟩
set_option maxRecDepth 100000 in
set_option maxHeartbeats 4000000 in
theorem k_X9_clear {G : xG} {h : xHp} {a : Nat} {f : Nat → Int32} {t : Int32} (hc : h.1 a = some (tC f)) : MX G mX9_clear 1 0 0 [.ref a, .int t] h (xVoid (xup h a (tC (tClr f t)))) := by
  refine MX.of [(0, .ref a), (1, .int t)] (by decide) rfl (Nat.le_of_ble_eq_true rfl) rfl ?_
  refine x_aload_n dX9_clear_0 rfl ?_
  refine x_iload_n dX9_clear_1 rfl ?_
  refine x_put [.int t, .int (f 1), .int (f 2), .int (f 3), .int (f 4), .int (f 5), .int (f 6)] lf_X9_9 dX9_clear_2 hc (Nat.le_of_ble_eq_true rfl) rfl rfl rfl ?_
  refine x_aload_n dX9_clear_5 rfl ?_
  refine x_iconst (v := (-1)) dX9_clear_6 (by decide) ?_
  refine x_put [.int t, .int (-1), .int (f 2), .int (f 3), .int (f 4), .int (f 5), .int (f 6)] lf_X9_15 dX9_clear_7 (xup_self _ _ _) (Nat.le_of_ble_eq_true rfl) rfl rfl rfl ?_
  refine x_aload_n dX9_clear_10 rfl ?_
  refine x_iconst (v := (-1)) dX9_clear_11 (by decide) ?_
  refine x_put [.int t, .int (-1), .int (-1), .int (f 3), .int (f 4), .int (f 5), .int (f 6)] lf_X9_18 dX9_clear_12 (xup_self _ _ _) (Nat.le_of_ble_eq_true rfl) rfl rfl rfl ?_
  refine x_aload_n dX9_clear_15 rfl ?_
  refine x_iconst (v := (-1)) dX9_clear_16 (by decide) ?_
  refine x_put [.int t, .int (-1), .int (-1), .int (-1), .int (f 4), .int (f 5), .int (f 6)] lf_X9_21 dX9_clear_17 (xup_self _ _ _) (Nat.le_of_ble_eq_true rfl) rfl rfl rfl ?_
  exact x_vret dX9_clear_20 rfl (Nat.le_refl _) (Nat.le_refl _) ⟨rfl, by simp only [xup_up]; rfl⟩
set_option maxRecDepth 100000 in
set_option maxHeartbeats 4000000 in
theorem k_X9_setArg {G : xG} {h : xHp} {a : Nat} {f : Nat → Int32} {b : Bool} {x p : Int32} (hc : h.1 a = some (tC f)) : MX G mX9_setArg 1 0 0 [.ref a, .int (bi b), .int x, .int p] h (xVoid (xup h a (tC (tArg f b x p)))) := by
  refine MX.of [(0, .ref a), (1, .int (bi b)), (2, .int x), (3, .int p)] (by decide) rfl (Nat.le_of_ble_eq_true rfl) rfl ?_
  refine x_iload_n dX9_setArg_0 rfl ?_
  refine x_if_eq 17 dX9_setArg_1 (by decide) (fun c_1 => ?_) (fun c_1 => ?_)
  · have c_1 := bi_f c_1
    refine x_aload_n dX9_setArg_17 rfl ?_
    refine x_iload_n dX9_setArg_18 rfl ?_
    refine x_put [.int (f 0), .int (f 1), .int (f 2), .int x, .int (f 4), .int (f 5), .int (f 6)] lf_X9_21 dX9_setArg_19 hc (Nat.le_of_ble_eq_true rfl) rfl rfl rfl ?_
    refine x_aload_n dX9_setArg_22 rfl ?_
    refine x_iload_n dX9_setArg_23 rfl ?_
    refine x_put [.int (f 0), .int (f 1), .int (f 2), .int x, .int (f 4), .int (f 5), .int p] lf_X9_27 dX9_setArg_24 (xup_self _ _ _) (Nat.le_of_ble_eq_true rfl) rfl rfl rfl ?_
    exact x_vret dX9_setArg_27 rfl (Nat.le_refl _) (Nat.le_refl _) ⟨rfl, by cases b <;> simp only [xup_up] <;> first | rfl | cases c_1⟩
  · have c_1 := bi_t c_1
    refine x_aload_n dX9_setArg_4 rfl ?_
    refine x_iload_n dX9_setArg_5 rfl ?_
    refine x_put [.int (f 0), .int (f 1), .int x, .int (f 3), .int (f 4), .int (f 5), .int (f 6)] lf_X9_18 dX9_setArg_6 hc (Nat.le_of_ble_eq_true rfl) rfl rfl rfl ?_
    refine x_aload_n dX9_setArg_9 rfl ?_
    refine x_iload_n dX9_setArg_10 rfl ?_
    refine x_put [.int (f 0), .int (f 1), .int x, .int (f 3), .int (f 4), .int p, .int (f 6)] lf_X9_24 dX9_setArg_11 (xup_self _ _ _) (Nat.le_of_ble_eq_true rfl) rfl rfl rfl ?_
    refine x_goto 27 dX9_setArg_14 (by decide) ?_
    exact x_vret dX9_setArg_27 rfl (Nat.le_refl _) (Nat.le_refl _) ⟨rfl, by cases b <;> simp only [xup_up] <;> first | rfl | cases c_1⟩
set_option maxRecDepth 100000 in
set_option maxHeartbeats 4000000 in
theorem k_X9_init {G : xG} {h : xHp} {a : Nat} : MX G mX9_init 1 0 0 [.ref a] h (xVoid h) := by
  refine MX.of [(0, .ref a)] (by decide) rfl (Nat.le_of_ble_eq_true rfl) rfl ?_
  refine x_aload_n dX9_init_0 rfl ?_
  refine x_objInit ml_X9_3 oi_i oi_c dX9_init_1 (Nat.le_of_ble_eq_true rfl) (Nat.le_of_ble_eq_true rfl) ?_
  exact x_vret dX9_init_4 rfl (Nat.le_refl _) (Nat.le_refl _) ⟨rfl, rfl⟩
abbrev rC (a sz sg : Nat) : xCel := .inr (8, [.ref (a + 1), .ref (a + 2), .int (nI sz), .ref (a + 3), .int (nI sg)])
def rTs (a : Nat) : Nat → Option Nat := fun j => if j < 4 then some (a + 4 + j) else none
/-- the RULE at a: its first ATOM hd, TERMS tm (so many), letters lt (so many) -/
def rlAt (h : xHp) (a : Nat) (hd : Nat → Int32) (tm : Nat → Nat → Int32) (sz : Nat) (lt : Nat → Int32) (sg : Nat) : Prop :=
  h.1 a = some (rC a sz sg) ∧ h.1 (a + 1) = some (tC hd) ∧ h.1 (a + 2) = some (.inl (5, 4, .inr (.inr (rTs a)))) ∧ h.1 (a + 3) = some (.inl (0, 3, .inl lt)) ∧ ∀ i, i < 4 → h.1 (a + 4 + i) = some (tC (tm i))
theorem rTs_at {a j : Nat} (h : j < 4) : rTs a j = some (a + 4 + j) := by simp [rTs, h]
set_option maxRecDepth 100000 in
set_option maxHeartbeats 4000000 in
theorem k_X8_clear {G : xG} {h : xHp} {a sz sg : Nat} (hc : h.1 a = some (rC a sz sg)) : MX G mX8_clear 1 0 0 [.ref a] h (xVoid (xup h a (rC a 0 0))) := by
  refine MX.of [(0, .ref a)] (by decide) rfl (Nat.le_of_ble_eq_true rfl) rfl ?_
  refine x_aload_n dX8_clear_0 rfl ?_
  refine x_iconst (v := 0) dX8_clear_1 (by decide) ?_
  refine x_put [.ref (a + 1), .ref (a + 2), .int 0, .ref (a + 3), .int (nI sg)] lf_X8_26 dX8_clear_2 hc (Nat.le_of_ble_eq_true rfl) rfl rfl rfl ?_
  refine x_aload_n dX8_clear_5 rfl ?_
  refine x_iconst (v := 0) dX8_clear_6 (by decide) ?_
  refine x_put [.ref (a + 1), .ref (a + 2), .int 0, .ref (a + 3), .int 0] lf_X8_30 dX8_clear_7 (xup_self _ _ _) (Nat.le_of_ble_eq_true rfl) rfl rfl rfl ?_
  exact x_vret dX8_clear_10 rfl (Nat.le_refl _) (Nat.le_refl _) ⟨rfl, by simp only [xup_up]; rfl⟩
def sg_Q (a : Nat) (lt : Nat → Int32) (sz sg : Nat) (c : Int32) (h : xHp) : Option Value ⊕ Nat → xHp → Prop := fun o h' =>
  (∃ k, k < sg ∧ lt k = c ∧ (∀ j, j < k → lt j ≠ c) ∧ o = .inl (some (.int (nI (100 + k)))) ∧ h' = h) ∨
  ((∀ j, j < sg → lt j ≠ c) ∧ ((sg = 3 ∧ o = .inl (some (.int (-1))) ∧ h' = h) ∨ (sg < 3 ∧ o = .inl (some (.int (nI (100 + sg)))) ∧ h' = xup (xup h (a + 3) (.inl (0, 3, .inl (upd lt sg c)))) a (rC a sz (sg + 1)))))
set_option maxRecDepth 100000 in
set_option maxHeartbeats 4000000 in
theorem l_X8_findOrAddSign {G : xG} {h : xHp} {a sz sg : Nat} {lt : Nat → Int32} {c : Int32} (hc : h.1 a = some (rC a sz sg)) (hl : h.1 (a + 3) = some (.inl (0, 3, .inl lt))) (hs : sg ≤ 3) : ∀ (k i : Nat), i ≤ sg → sg + 1 ≤ i + k → (∀ j, j < i → lt j ≠ c) → Wx G mX8_findOrAddSign (xRm 1 0 0) (xF G (sg_Q a lt sz sg c h) 0 0) 0 0 2 [(0, .ref a), (1, .int c), (2, .int (nI i))] [] h := by
  intro k
  induction k with
  | zero => exact fun i h1 h2 => absurd h2 (by omega)
  | succ k ih =>
    intro i hk hk2 hi
    refine x_iload_n dX8_findOrAddSign_2 rfl ?_
    refine x_aload_n dX8_findOrAddSign_3 rfl ?_
    refine x_get lf_X8_30 dX8_findOrAddSign_4 hc rfl ?_
    refine x_icmp_ge 31 dX8_findOrAddSign_7 (by decide) (fun c_7 => ?_) (fun c_7 => ?_)
    · rw [nI_leI (by omega) (by omega)] at c_7
      have hall : ∀ j, j < sg → lt j ≠ c := fun j hj => hi j (by omega)
      refine x_aload_n dX8_findOrAddSign_31 rfl ?_
      refine x_get lf_X8_30 dX8_findOrAddSign_32 hc rfl ?_
      refine x_iconst (v := 3) dX8_findOrAddSign_35 (by decide) ?_
      refine x_icmp_lt 41 dX8_findOrAddSign_36 (by decide) (fun c_36 => ?_) (fun c_36 => ?_)
      · rw [show (3 : Int32) = nI 3 from rfl, nI_ltI (by omega) (by omega)] at c_36
        refine x_aload_n dX8_findOrAddSign_41 rfl ?_
        refine x_get lf_X8_22 dX8_findOrAddSign_42 hc rfl ?_
        refine x_aload_n dX8_findOrAddSign_45 rfl ?_
        refine x_get lf_X8_30 dX8_findOrAddSign_46 hc rfl ?_
        refine x_iload_n dX8_findOrAddSign_49 rfl ?_
        refine x_iastN (j := sg) hl rfl (by omega) (by decide) dX8_findOrAddSign_50 ?_
        refine x_aload_n dX8_findOrAddSign_51 rfl ?_
        refine x_dup dX8_findOrAddSign_52 rfl ?_
        refine x_get lf_X8_30 dX8_findOrAddSign_53 ((xup_ne (by omega)).trans hc) rfl ?_
        refine x_iconst (v := 1) dX8_findOrAddSign_56 (by decide) ?_
        refine x_iadd dX8_findOrAddSign_57 ?_
        refine x_top (y := nI (sg + 1)) (nI_add sg 1) ?_
        refine x_put [.ref (a + 1), .ref (a + 2), .int (nI sz), .ref (a + 3), .int (nI (sg + 1))] lf_X8_30 dX8_findOrAddSign_58 ((xup_ne (by omega)).trans hc) (Nat.le_of_ble_eq_true rfl) rfl rfl rfl ?_
        refine x_bipush (v := 100) dX8_findOrAddSign_61 (by decide) ?_
        refine x_aload_n dX8_findOrAddSign_63 rfl ?_
        refine x_get lf_X8_30 dX8_findOrAddSign_64 (xup_self _ _ _) rfl ?_
        refine x_iadd dX8_findOrAddSign_67 ?_
        refine x_top (y := nI (100 + (sg + 1))) (nI_add 100 (sg + 1)) ?_
        refine x_iconst (v := 1) dX8_findOrAddSign_68 (by decide) ?_
        refine x_isub dX8_findOrAddSign_69 ?_
        refine x_top (show nI (100 + (sg + 1)) - 1 = nI (100 + sg) from nI_pred (100 + sg)) ?_
        exact x_iret dX8_findOrAddSign_70 rfl rfl (Nat.le_refl _) (Nat.le_refl _) (Or.inr ⟨hall, Or.inr ⟨by omega, rfl, rfl⟩⟩)
      · rw [show (3 : Int32) = nI 3 from rfl, nI_ltI (by omega) (by omega)] at c_36
        refine x_iconst (v := (-1)) dX8_findOrAddSign_39 (by decide) ?_
        exact x_iret dX8_findOrAddSign_40 rfl rfl (Nat.le_refl _) (Nat.le_refl _) (Or.inr ⟨hall, Or.inl ⟨by omega, rfl, rfl⟩⟩)
    · rw [nI_leI (by omega) (by omega)] at c_7
      refine x_aload_n dX8_findOrAddSign_10 rfl ?_
      refine x_get lf_X8_22 dX8_findOrAddSign_11 hc rfl ?_
      refine x_iload_n dX8_findOrAddSign_14 rfl ?_
      refine x_ialdN (j := i) hl rfl (by omega) (by decide) dX8_findOrAddSign_15 ?_
      refine x_iload_n dX8_findOrAddSign_16 rfl ?_
      refine x_icmp_ne 25 dX8_findOrAddSign_17 (by decide) (fun c_17 => ?_) (fun c_17 => ?_)
      · refine x_iinc (v := nI (i + 1)) [(0, .ref a), (1, .int c), (2, .int (nI (i + 1)))] dX8_findOrAddSign_25 rfl (nI_add i 1) (by decide) rfl rfl ?_
        refine x_goto 2 dX8_findOrAddSign_28 (by decide) ?_
        exact ih (i + 1) (by omega) (by omega) (lt_s hi c_17)
      · refine x_bipush (v := 100) dX8_findOrAddSign_20 (by decide) ?_
        refine x_iload_n dX8_findOrAddSign_22 rfl ?_
        refine x_iadd dX8_findOrAddSign_23 ?_
        refine x_top (y := nI (100 + i)) (nI_add 100 i) ?_
        exact x_iret dX8_findOrAddSign_24 rfl rfl (Nat.le_refl _) (Nat.le_refl _) (Or.inl ⟨i, by omega, c_17, hi, rfl, rfl⟩)
set_option maxRecDepth 100000 in
set_option maxHeartbeats 4000000 in
theorem k_X8_findOrAddSign {G : xG} {h : xHp} {a sz sg : Nat} {lt : Nat → Int32} {c : Int32} (hc : h.1 a = some (rC a sz sg)) (hl : h.1 (a + 3) = some (.inl (0, 3, .inl lt))) (hs : sg ≤ 3) : MX G mX8_findOrAddSign 1 0 0 [.ref a, .int c] h (sg_Q a lt sz sg c h) := by
  refine MX.of [(0, .ref a), (1, .int c)] (by decide) rfl (Nat.le_of_ble_eq_true rfl) rfl ?_
  refine x_iconst (v := 0) dX8_findOrAddSign_0 (by decide) ?_
  refine x_istore_n [(0, .ref a), (1, .int c), (2, .int 0)] dX8_findOrAddSign_1 (by decide) rfl rfl ?_
  exact l_X8_findOrAddSign hc hl hs (sg + 1) 0 (by omega) (by omega) (fun j hj => absurd hj (by omega))
def tHas (f : Nat → Int32) (x : Int32) : Prop := f 0 = 0 ∧ (f 2 = x ∨ f 3 = x)
def rLoose (tm : Nat → Nat → Int32) (sz : Nat) (x : Int32) : Prop := 100 ≤ x ∧ ∀ i, i < sz → ¬ tHas (tm i) x
set_option maxRecDepth 100000 in
set_option maxHeartbeats 4000000 in
theorem l_X8_isLoose {G : xG} {h : xHp} {a sz sg : Nat} {hd : Nat → Int32} {tm : Nat → Nat → Int32} {lt : Nat → Int32} {x : Int32} (hr : rlAt h a hd tm sz lt sg) (hs : sz ≤ 4) (hx : 100 ≤ x) : ∀ (k i : Nat), i ≤ sz → sz + 1 ≤ i + k → (∀ j, j < i → ¬ tHas (tm j) x) → ∀ t3, Wx G mX8_isLoose (xRm 1 0 0) (xF G (xAsk (rLoose tm sz x) h) 0 0) 0 0 10 [(0, .ref a), (1, .int x), (2, .int (nI i)), (3, .ref t3)] [] h := by
  intro k
  induction k with
  | zero => exact fun i h1 h2 => absurd h2 (by omega)
  | succ k ih =>
    intro i hk hk2 hi t3
    refine x_iload_n dX8_isLoose_10 rfl ?_
    refine x_aload_n dX8_isLoose_11 rfl ?_
    refine x_get lf_X8_26 dX8_isLoose_12 hr.1 rfl ?_
    refine x_icmp_ge 56 dX8_isLoose_15 (by decide) (fun c_15 => ?_) (fun c_15 => ?_)
    · rw [nI_leI (by omega) (by omega)] at c_15
      refine x_iconst (v := 1) dX8_isLoose_56 (by decide) ?_
      exact x_iret dX8_isLoose_57 rfl rfl (Nat.le_refl _) (Nat.le_refl _) (by first | exact xAsk_t ⟨hx, fun j hj => hi j (by omega)⟩ | exact xAsk_f (fun q => q.2 i (by omega) ⟨c_29, Or.inl c_37⟩) | exact xAsk_f (fun q => q.2 i (by omega) ⟨c_29, Or.inr c_45⟩))
    · rw [nI_leI (by omega) (by omega)] at c_15
      refine x_aload_n dX8_isLoose_18 rfl ?_
      refine x_get lf_X8_18 dX8_isLoose_19 hr.1 rfl ?_
      refine x_iload_n dX8_isLoose_22 rfl ?_
      refine x_aaldN (b := a + 4 + i) (j := i) hr.2.2.1 rfl rfl (by omega) (by decide) (rTs_at (by omega)) dX8_isLoose_23 ?_
      refine x_astore_n [(0, .ref a), (1, .int x), (2, .int (nI i)), (3, .ref (a + 4 + i))] dX8_isLoose_24 (by decide) rfl rfl ?_
      refine x_aload_n dX8_isLoose_25 rfl ?_
      refine x_get lf_X8_49 dX8_isLoose_26 (hr.2.2.2.2 i (by omega)) rfl ?_
      refine x_if_ne 50 dX8_isLoose_29 (by decide) (fun c_29 => ?_) (fun c_29 => ?_)
      · refine x_iinc (v := nI (i + 1)) [(0, .ref a), (1, .int x), (2, .int (nI (i + 1))), (3, .ref (a + 4 + i))] dX8_isLoose_50 rfl (nI_add i 1) (by decide) rfl rfl ?_
        refine x_goto 10 dX8_isLoose_53 (by decide) ?_
        exact ih (i + 1) (by omega) (by omega) (lt_s hi (fun q => by first | exact c_29 q.1 | exact q.2.elim c_37 c_45)) _
      · refine x_aload_n dX8_isLoose_32 rfl ?_
        refine x_get lf_X8_33 dX8_isLoose_33 (hr.2.2.2.2 i (by omega)) rfl ?_
        refine x_iload_n dX8_isLoose_36 rfl ?_
        refine x_icmp_eq 48 dX8_isLoose_37 (by decide) (fun c_37 => ?_) (fun c_37 => ?_)
        · refine x_iconst (v := 0) dX8_isLoose_48 (by decide) ?_
          exact x_iret dX8_isLoose_49 rfl rfl (Nat.le_refl _) (Nat.le_refl _) (by first | exact xAsk_t ⟨hx, fun j hj => hi j (by omega)⟩ | exact xAsk_f (fun q => q.2 i (by omega) ⟨c_29, Or.inl c_37⟩) | exact xAsk_f (fun q => q.2 i (by omega) ⟨c_29, Or.inr c_45⟩))
        · refine x_aload_n dX8_isLoose_40 rfl ?_
          refine x_get lf_X8_43 dX8_isLoose_41 (hr.2.2.2.2 i (by omega)) rfl ?_
          refine x_iload_n dX8_isLoose_44 rfl ?_
          refine x_icmp_ne 50 dX8_isLoose_45 (by decide) (fun c_45 => ?_) (fun c_45 => ?_)
          · refine x_iinc (v := nI (i + 1)) [(0, .ref a), (1, .int x), (2, .int (nI (i + 1))), (3, .ref (a + 4 + i))] dX8_isLoose_50 rfl (nI_add i 1) (by decide) rfl rfl ?_
            refine x_goto 10 dX8_isLoose_53 (by decide) ?_
            exact ih (i + 1) (by omega) (by omega) (lt_s hi (fun q => by first | exact c_29 q.1 | exact q.2.elim c_37 c_45)) _
          · refine x_iconst (v := 0) dX8_isLoose_48 (by decide) ?_
            exact x_iret dX8_isLoose_49 rfl rfl (Nat.le_refl _) (Nat.le_refl _) (by first | exact xAsk_t ⟨hx, fun j hj => hi j (by omega)⟩ | exact xAsk_f (fun q => q.2 i (by omega) ⟨c_29, Or.inl c_37⟩) | exact xAsk_f (fun q => q.2 i (by omega) ⟨c_29, Or.inr c_45⟩))
set_option maxRecDepth 100000 in
set_option maxHeartbeats 4000000 in
theorem k_X8_isLoose {G : xG} {h : xHp} {a sz sg : Nat} {hd : Nat → Int32} {tm : Nat → Nat → Int32} {lt : Nat → Int32} {x : Int32} (hr : rlAt h a hd tm sz lt sg) (hs : sz ≤ 4) : MX G mX8_isLoose 1 0 0 [.ref a, .int x] h (xAsk (rLoose tm sz x) h) := by
  refine MX.of [(0, .ref a), (1, .int x)] (by decide) rfl (Nat.le_of_ble_eq_true rfl) rfl ?_
  refine x_iload_n dX8_isLoose_0 rfl ?_
  refine x_bipush (v := 100) dX8_isLoose_1 (by decide) ?_
  refine x_icmp_ge 8 dX8_isLoose_3 (by decide) (fun c_3 => ?_) (fun c_3 => ?_)
  · refine x_iconst (v := 0) dX8_isLoose_8 (by decide) ?_
    refine x_istore_n [(0, .ref a), (1, .int x), (2, .int 0)] dX8_isLoose_9 (by decide) rfl rfl ?_
    refine x_iload_n dX8_isLoose_10 rfl ?_
    refine x_aload_n dX8_isLoose_11 rfl ?_
    refine x_get lf_X8_26 dX8_isLoose_12 hr.1 rfl ?_
    refine x_icmp_ge 56 dX8_isLoose_15 (by decide) (fun c_15 => ?_) (fun c_15 => ?_)
    · rw [show (0 : Int32) = nI 0 from rfl, nI_leI (by omega) (by omega)] at c_15
      refine x_iconst (v := 1) dX8_isLoose_56 (by decide) ?_
      exact x_iret dX8_isLoose_57 rfl rfl (Nat.le_refl _) (Nat.le_refl _) (by first | exact xAsk_f (fun q => c_3 q.1) | exact xAsk_t ⟨c_3, fun j hj => absurd hj (by omega)⟩ | exact xAsk_f (fun q => q.2 0 (by omega) ⟨c_29, Or.inl c_37⟩) | exact xAsk_f (fun q => q.2 0 (by omega) ⟨c_29, Or.inr c_45⟩))
    · rw [show (0 : Int32) = nI 0 from rfl, nI_leI (by omega) (by omega)] at c_15
      refine x_aload_n dX8_isLoose_18 rfl ?_
      refine x_get lf_X8_18 dX8_isLoose_19 hr.1 rfl ?_
      refine x_iload_n dX8_isLoose_22 rfl ?_
      refine x_aaldN (b := a + 4 + 0) (j := 0) hr.2.2.1 rfl rfl (by omega) (by decide) (rTs_at (by decide)) dX8_isLoose_23 ?_
      refine x_astore_n [(0, .ref a), (1, .int x), (2, .int 0), (3, .ref (a + 4 + 0))] dX8_isLoose_24 (by decide) rfl rfl ?_
      refine x_aload_n dX8_isLoose_25 rfl ?_
      refine x_get lf_X8_49 dX8_isLoose_26 (hr.2.2.2.2 0 (by decide)) rfl ?_
      refine x_if_ne 50 dX8_isLoose_29 (by decide) (fun c_29 => ?_) (fun c_29 => ?_)
      · refine x_iinc (v := nI (0 + 1)) [(0, .ref a), (1, .int x), (2, .int (nI (0 + 1))), (3, .ref (a + 4 + 0))] dX8_isLoose_50 rfl (nI_add 0 1) (by decide) rfl rfl ?_
        refine x_goto 10 dX8_isLoose_53 (by decide) ?_
        exact l_X8_isLoose hr hs c_3 sz 1 (by omega) (by omega) (lt_s lt_0 (fun q => by first | exact c_29 q.1 | exact q.2.elim c_37 c_45)) _
      · refine x_aload_n dX8_isLoose_32 rfl ?_
        refine x_get lf_X8_33 dX8_isLoose_33 (hr.2.2.2.2 0 (by decide)) rfl ?_
        refine x_iload_n dX8_isLoose_36 rfl ?_
        refine x_icmp_eq 48 dX8_isLoose_37 (by decide) (fun c_37 => ?_) (fun c_37 => ?_)
        · refine x_iconst (v := 0) dX8_isLoose_48 (by decide) ?_
          exact x_iret dX8_isLoose_49 rfl rfl (Nat.le_refl _) (Nat.le_refl _) (by first | exact xAsk_f (fun q => c_3 q.1) | exact xAsk_t ⟨c_3, fun j hj => absurd hj (by omega)⟩ | exact xAsk_f (fun q => q.2 0 (by omega) ⟨c_29, Or.inl c_37⟩) | exact xAsk_f (fun q => q.2 0 (by omega) ⟨c_29, Or.inr c_45⟩))
        · refine x_aload_n dX8_isLoose_40 rfl ?_
          refine x_get lf_X8_43 dX8_isLoose_41 (hr.2.2.2.2 0 (by decide)) rfl ?_
          refine x_iload_n dX8_isLoose_44 rfl ?_
          refine x_icmp_ne 50 dX8_isLoose_45 (by decide) (fun c_45 => ?_) (fun c_45 => ?_)
          · refine x_iinc (v := nI (0 + 1)) [(0, .ref a), (1, .int x), (2, .int (nI (0 + 1))), (3, .ref (a + 4 + 0))] dX8_isLoose_50 rfl (nI_add 0 1) (by decide) rfl rfl ?_
            refine x_goto 10 dX8_isLoose_53 (by decide) ?_
            exact l_X8_isLoose hr hs c_3 sz 1 (by omega) (by omega) (lt_s lt_0 (fun q => by first | exact c_29 q.1 | exact q.2.elim c_37 c_45)) _
          · refine x_iconst (v := 0) dX8_isLoose_48 (by decide) ?_
            exact x_iret dX8_isLoose_49 rfl rfl (Nat.le_refl _) (Nat.le_refl _) (by first | exact xAsk_f (fun q => c_3 q.1) | exact xAsk_t ⟨c_3, fun j hj => absurd hj (by omega)⟩ | exact xAsk_f (fun q => q.2 0 (by omega) ⟨c_29, Or.inl c_37⟩) | exact xAsk_f (fun q => q.2 0 (by omega) ⟨c_29, Or.inr c_45⟩))
  · refine x_iconst (v := 0) dX8_isLoose_6 (by decide) ?_
    exact x_iret dX8_isLoose_7 rfl rfl (Nat.le_refl _) (Nat.le_refl _) (by first | exact xAsk_f (fun q => c_3 q.1) | exact xAsk_t ⟨c_3, fun j hj => absurd hj (by omega)⟩ | exact xAsk_f (fun q => q.2 0 (by omega) ⟨c_29, Or.inl c_37⟩) | exact xAsk_f (fun q => q.2 0 (by omega) ⟨c_29, Or.inr c_45⟩))
def rLp (tm : Nat → Nat → Int32) (sz : Nat) (f : Nat → Int32) (r : Int32) : Prop := (rLoose tm sz (f 2) ∧ r = f 5) ∨ (¬ rLoose tm sz (f 2) ∧ rLoose tm sz (f 3) ∧ r = f 6) ∨ (¬ rLoose tm sz (f 2) ∧ ¬ rLoose tm sz (f 3) ∧ r = -1)
set_option maxRecDepth 100000 in
set_option maxHeartbeats 4000000 in
theorem k_X8_loosePlace {G : xG} {h : xHp} {a sz sg : Nat} {hd : Nat → Int32} {tm : Nat → Nat → Int32} {lt : Nat → Int32} (hr : rlAt h a hd tm sz lt sg) (hs : sz ≤ 4) {b : Nat} {f : Nat → Int32} (hb : h.1 b = some (tC f)) : MX G mX8_loosePlace 2 0 0 [.ref a, .ref b] h (fun o h' => ∃ r, o = .inl (some (.int r)) ∧ h' = h ∧ rLp tm sz f r) := by
  refine MX.of [(0, .ref a), (1, .ref b)] (by decide) rfl (Nat.le_of_ble_eq_true rfl) rfl ?_
  refine x_aload_n dX8_loosePlace_0 rfl ?_
  refine x_aload_n dX8_loosePlace_1 rfl ?_
  refine x_get lf_X8_33 dX8_loosePlace_2 hb rfl ?_
  refine x_callV (As := [.int (f 2)]) (st := []) lv_X8_36 (k_X8_isLoose hr hs) dX8_loosePlace_5 hr.1 rfl rfl (Nat.le_of_ble_eq_true rfl) ⟨by decide, by decide⟩ ⟨by decide, by decide⟩ (fun v h1 q => ?_) (fun _ _ _ _ _ q => by obtain ⟨_, q, _⟩ := q; cases q)
  obtain ⟨b1, ev, rfl, hb1⟩ := q
  cases ev
  refine x_if_eq 16 dX8_loosePlace_8 (by decide) (fun c_8 => ?_) (fun c_8 => ?_)
  · have c_8 := bi_f c_8
    refine x_aload_n dX8_loosePlace_16 rfl ?_
    refine x_aload_n dX8_loosePlace_17 rfl ?_
    refine x_get lf_X8_43 dX8_loosePlace_18 hb rfl ?_
    refine x_callV (As := [.int (f 3)]) (st := []) lv_X8_36 (k_X8_isLoose hr hs) dX8_loosePlace_21 hr.1 rfl rfl (Nat.le_of_ble_eq_true rfl) ⟨by decide, by decide⟩ ⟨by decide, by decide⟩ (fun v h1 q => ?_) (fun _ _ _ _ _ q => by obtain ⟨_, q, _⟩ := q; cases q)
    obtain ⟨b2, ev, rfl, hb2⟩ := q
    cases ev
    refine x_if_eq 34 dX8_loosePlace_24 (by decide) (fun c_24 => ?_) (fun c_24 => ?_)
    · have c_24 := bi_f c_24
      refine x_iconst (v := (-1)) dX8_loosePlace_34 (by decide) ?_
      exact x_iret dX8_loosePlace_35 rfl rfl (Nat.le_refl _) (Nat.le_refl _) ⟨_, rfl, rfl, by first | exact Or.inl ⟨hb1.mp c_8, rfl⟩ | exact Or.inr (Or.inl ⟨fun q => (by rw [hb1.mpr q] at c_8; cases c_8), hb2.mp c_24, rfl⟩) | exact Or.inr (Or.inr ⟨fun q => (by rw [hb1.mpr q] at c_8; cases c_8), fun q => (by rw [hb2.mpr q] at c_24; cases c_24), rfl⟩)⟩
    · have c_24 := bi_t c_24
      refine x_aload_n dX8_loosePlace_27 rfl ?_
      refine x_get lf_X8_46 dX8_loosePlace_28 hb rfl ?_
      refine x_goto 35 dX8_loosePlace_31 (by decide) ?_
      exact x_iret dX8_loosePlace_35 rfl rfl (Nat.le_refl _) (Nat.le_refl _) ⟨_, rfl, rfl, by first | exact Or.inl ⟨hb1.mp c_8, rfl⟩ | exact Or.inr (Or.inl ⟨fun q => (by rw [hb1.mpr q] at c_8; cases c_8), hb2.mp c_24, rfl⟩) | exact Or.inr (Or.inr ⟨fun q => (by rw [hb1.mpr q] at c_8; cases c_8), fun q => (by rw [hb2.mpr q] at c_24; cases c_24), rfl⟩)⟩
  · have c_8 := bi_t c_8
    refine x_aload_n dX8_loosePlace_11 rfl ?_
    refine x_get lf_X8_40 dX8_loosePlace_12 hb rfl ?_
    exact x_iret dX8_loosePlace_15 rfl rfl (Nat.le_refl _) (Nat.le_refl _) ⟨_, rfl, rfl, by first | exact Or.inl ⟨hb1.mp c_8, rfl⟩ | exact Or.inr (Or.inl ⟨fun q => (by rw [hb1.mpr q] at c_8; cases c_8), hb2.mp c_24, rfl⟩) | exact Or.inr (Or.inr ⟨fun q => (by rw [hb1.mpr q] at c_8; cases c_8), fun q => (by rw [hb2.mpr q] at c_24; cases c_24), rfl⟩)⟩
