/-! RuleCourt$Names -/
set_option maxRecDepth 100000 in
set_option maxHeartbeats 4000000 in
theorem k_X6_has {G : xG} {h : xHp} {a w n : Nat} {k : Int32} (hc : h.1 a = some (.inr (6, [.ref w, .int (nI n)]))) : MX G mX6_has 1 0 0 [.ref a, .int k] h (xAns (.int (bi (inR k n))) h) := by
  refine MX.of [(0, .ref a), (1, .int k)] (by decide) rfl (Nat.le_of_ble_eq_true rfl) rfl ?_
  refine x_iload_n dX6_has_0 rfl ?_
  refine x_if_lt 16 dX6_has_1 (by decide) (fun c_1 => ?_) (fun c_1 => ?_)
  · refine x_iconst (v := 0) dX6_has_16 (by decide) ?_
    exact x_iret dX6_has_17 rfl rfl (Nat.le_refl _) (Nat.le_refl _) ⟨by simp [inR, bi, *], rfl⟩
  · refine x_iload_n dX6_has_4 rfl ?_
    refine x_aload_n dX6_has_5 rfl ?_
    refine x_get lf_X6_15 dX6_has_6 hc rfl ?_
    refine x_icmp_ge 16 dX6_has_9 (by decide) (fun c_9 => ?_) (fun c_9 => ?_)
    · refine x_iconst (v := 0) dX6_has_16 (by decide) ?_
      exact x_iret dX6_has_17 rfl rfl (Nat.le_refl _) (Nat.le_refl _) ⟨by simp [inR, bi, *], rfl⟩
    · refine x_iconst (v := 1) dX6_has_12 (by decide) ?_
      refine x_goto 17 dX6_has_13 (by decide) ?_
      exact x_iret dX6_has_17 rfl rfl (Nat.le_refl _) (Nat.le_refl _) ⟨by simp [inR, bi, *], rfl⟩
def nm_let (x : Int64) (i : Int32) : Int32 := ((x.toUInt64 >>> ((8 * i).toInt64.toUInt64 &&& Int64.toUInt64 63)).toInt64).toInt32 &&& 255
def nm_letter (f : Nat → Int64) (n : Nat) (k i : Int32) : Int32 := if inR k n = true ∧ ¬ i < 0 ∧ i < 8 ∧ ¬ nm_let (f k.toNatClampNeg) i = 0 then nm_let (f k.toNatClampNeg) i else -1
set_option maxRecDepth 100000 in
set_option maxHeartbeats 4000000 in
theorem k_X6_letter {G : xG} {h : xHp} {a w n : Nat} {f : Nat → Int64} {k i : Int32} (hc : h.1 a = some (.inr (6, [.ref w, .int (nI n)]))) (hw : h.1 w = some (.inl (1, 10, .inr (.inl f)))) (hn : n ≤ 10) : MX G mX6_letter 2 0 0 [.ref a, .int k, .int i] h (xAns (.int (nm_letter f n k i)) h) := by
  refine MX.of [(0, .ref a), (1, .int k), (2, .int i)] (by decide) rfl (Nat.le_of_ble_eq_true rfl) rfl ?_
  refine x_aload_n dX6_letter_0 rfl ?_
  refine x_iload_n dX6_letter_1 rfl ?_
  refine x_callV (As := [.int k]) (st := []) lv_X6_19 (k_X6_has hc) dX6_letter_2 hc rfl rfl (Nat.le_of_ble_eq_true rfl) ⟨by decide, by decide⟩ ⟨by decide, by decide⟩ (fun v h1 q => ?_) (fun _ _ _ _ _ q => by cases q.1)
  obtain ⟨ev, rfl⟩ := q
  cases ev
  refine x_if_eq 18 dX6_letter_5 (by decide) (fun c_5 => ?_) (fun c_5 => ?_)
  · have c_5 := bi_f c_5
    refine x_iconst (v := (-1)) dX6_letter_18 (by decide) ?_
    exact x_iret dX6_letter_19 rfl rfl (Nat.le_refl _) (Nat.le_refl _) ⟨by first | (simp [nm_letter, *]; done) | (rw [nm_letter, nI_clamp (by omega), if_pos ⟨by assumption, c_9, c_15, c_38⟩]; rfl) | (rw [nm_letter, nI_clamp (by omega), if_neg (fun q => q.2.2.2 c_38)]), rfl⟩
  · have c_5 := bi_t c_5
    obtain ⟨j, hj, rfl⟩ := inR_of (id c_5) (by omega)
    refine x_iload_n dX6_letter_8 rfl ?_
    refine x_if_lt 18 dX6_letter_9 (by decide) (fun c_9 => ?_) (fun c_9 => ?_)
    · refine x_iconst (v := (-1)) dX6_letter_18 (by decide) ?_
      exact x_iret dX6_letter_19 rfl rfl (Nat.le_refl _) (Nat.le_refl _) ⟨by first | (simp [nm_letter, *]; done) | (rw [nm_letter, nI_clamp (by omega), if_pos ⟨by assumption, c_9, c_15, c_38⟩]; rfl) | (rw [nm_letter, nI_clamp (by omega), if_neg (fun q => q.2.2.2 c_38)]), rfl⟩
    · refine x_iload_n dX6_letter_12 rfl ?_
      refine x_bipush (v := 8) dX6_letter_13 (by decide) ?_
      refine x_icmp_lt 20 dX6_letter_15 (by decide) (fun c_15 => ?_) (fun c_15 => ?_)
      · have hj10 : j < 10 := by omega
        refine x_aload_n dX6_letter_20 rfl ?_
        refine x_get lf_X6_9 dX6_letter_21 hc rfl ?_
        refine x_iload_n dX6_letter_24 rfl ?_
        refine x_laldN (j := j) hw rfl hj10 (by decide) dX6_letter_25 ?_
        refine x_bipush (v := 8) dX6_letter_26 (by decide) ?_
        refine x_iload_n dX6_letter_28 rfl ?_
        refine x_imul dX6_letter_29 ?_
        refine x_lushr dX6_letter_30 ?_
        refine x_l2i dX6_letter_31 ?_
        refine x_sipush (v := 255) dX6_letter_32 (by decide) ?_
        refine x_iand dX6_letter_35 ?_
        refine x_istore_n [(0, .ref a), (1, .int (nI j)), (2, .int i), (3, .int (((((f j).toUInt64 >>> ((8 * i).toInt64.toUInt64 &&& Int64.toUInt64 63)).toInt64).toInt32) &&& 255))] dX6_letter_36 (by decide) rfl rfl ?_
        refine x_iload_n dX6_letter_37 rfl ?_
        refine x_if_ne 45 dX6_letter_38 (by decide) (fun c_38 => ?_) (fun c_38 => ?_)
        · refine x_iload_n dX6_letter_45 rfl ?_
          exact x_iret dX6_letter_46 rfl rfl (Nat.le_refl _) (Nat.le_refl _) ⟨by first | (simp [nm_letter, *]; done) | (rw [nm_letter, nI_clamp (by omega), if_pos ⟨by assumption, c_9, c_15, c_38⟩]; rfl) | (rw [nm_letter, nI_clamp (by omega), if_neg (fun q => q.2.2.2 c_38)]), rfl⟩
        · refine x_iconst (v := (-1)) dX6_letter_41 (by decide) ?_
          refine x_goto 46 dX6_letter_42 (by decide) ?_
          exact x_iret dX6_letter_46 rfl rfl (Nat.le_refl _) (Nat.le_refl _) ⟨by first | (simp [nm_letter, *]; done) | (rw [nm_letter, nI_clamp (by omega), if_pos ⟨by assumption, c_9, c_15, c_38⟩]; rfl) | (rw [nm_letter, nI_clamp (by omega), if_neg (fun q => q.2.2.2 c_38)]), rfl⟩
      · refine x_iconst (v := (-1)) dX6_letter_18 (by decide) ?_
        exact x_iret dX6_letter_19 rfl rfl (Nat.le_refl _) (Nat.le_refl _) ⟨by first | (simp [nm_letter, *]; done) | (rw [nm_letter, nI_clamp (by omega), if_pos ⟨by assumption, c_9, c_15, c_38⟩]; rfl) | (rw [nm_letter, nI_clamp (by omega), if_neg (fun q => q.2.2.2 c_38)]), rfl⟩
def nm_Q (f : Nat → Int64) (n a w : Nat) (x : Int64) (h : xHp) : Option Value ⊕ Nat → xHp → Prop := fun o h' =>
  (∃ k, k < n ∧ f k = x ∧ (∀ j, j < k → f j ≠ x) ∧ o = .inl (some (.int (nI k))) ∧ h' = h) ∨
  ((∀ j, j < n → f j ≠ x) ∧ ((n = 10 ∧ o = .inl (some (.int (-1))) ∧ h' = h) ∨ (n < 10 ∧ o = .inl (some (.int (nI n))) ∧ h' = xup (xup h w (.inl (1, 10, .inr (.inl (vp_updL f n x))))) a (.inr (6, [.ref w, .int (nI (n + 1))])))))
set_option maxRecDepth 100000 in
set_option maxHeartbeats 4000000 in
theorem l_X6_findOrAdd {G : xG} {h : xHp} {a w n : Nat} {f : Nat → Int64} {x : Int64} (hc : h.1 a = some (.inr (6, [.ref w, .int (nI n)]))) (hw : h.1 w = some (.inl (1, 10, .inr (.inl f)))) (hn : n ≤ 10) : ∀ (k i : Nat), i ≤ n → n + 1 ≤ i + k → (∀ j, j < i → f j ≠ x) → Wx G mX6_findOrAdd (xRm 1 0 0) (xF G (nm_Q f n a w x h) 0 0) 0 0 2 [(0, .ref a), (1, .long x), (3, .int (nI i))] [] h := by
  have haw : a ≠ w := xne_oa hc hw
  intro k
  induction k with
  | zero => exact fun i h1 h2 => absurd h2 (by omega)
  | succ k ih =>
    intro i hk hk2 hi
    refine x_iload_n dX6_findOrAdd_2 rfl ?_
    refine x_aload_n dX6_findOrAdd_3 rfl ?_
    refine x_get lf_X6_15 dX6_findOrAdd_4 hc rfl ?_
    refine x_icmp_ge 29 dX6_findOrAdd_7 (by decide) (fun c_7 => ?_) (fun c_7 => ?_)
    · rw [nI_leI (by omega) (by omega)] at c_7
      have hall : ∀ j, j < n → f j ≠ x := fun j hj => hi j (by omega)
      refine x_aload_n dX6_findOrAdd_29 rfl ?_
      refine x_get lf_X6_15 dX6_findOrAdd_30 hc rfl ?_
      refine x_bipush (v := 10) dX6_findOrAdd_33 (by decide) ?_
      refine x_icmp_lt 40 dX6_findOrAdd_35 (by decide) (fun c_35 => ?_) (fun c_35 => ?_)
      · rw [show (10 : Int32) = nI 10 from rfl, nI_ltI (by omega) (by omega)] at c_35
        refine x_aload_n dX6_findOrAdd_40 rfl ?_
        refine x_get lf_X6_9 dX6_findOrAdd_41 hc rfl ?_
        refine x_aload_n dX6_findOrAdd_44 rfl ?_
        refine x_get lf_X6_15 dX6_findOrAdd_45 hc rfl ?_
        refine x_lload_n dX6_findOrAdd_48 rfl ?_
        refine x_lastN (j := n) hw rfl (by omega) (by decide) dX6_findOrAdd_49 ?_
        refine x_aload_n dX6_findOrAdd_50 rfl ?_
        refine x_dup dX6_findOrAdd_51 rfl ?_
        refine x_get lf_X6_15 dX6_findOrAdd_52 ((xup_ne haw).trans hc) rfl ?_
        refine x_iconst (v := 1) dX6_findOrAdd_55 (by decide) ?_
        refine x_iadd dX6_findOrAdd_56 ?_
        refine x_top (y := nI (n + 1)) (nI_add n 1) ?_
        refine x_put [.ref w, .int (nI (n + 1))] lf_X6_15 dX6_findOrAdd_57 ((xup_ne haw).trans hc) (Nat.le_of_ble_eq_true rfl) rfl rfl rfl ?_
        refine x_aload_n dX6_findOrAdd_60 rfl ?_
        refine x_get lf_X6_15 dX6_findOrAdd_61 (xup_self _ _ _) rfl ?_
        refine x_iconst (v := 1) dX6_findOrAdd_64 (by decide) ?_
        refine x_isub dX6_findOrAdd_65 ?_
        refine x_top (nI_pred n) ?_
        exact x_iret dX6_findOrAdd_66 rfl rfl (Nat.le_refl _) (Nat.le_refl _) (Or.inr ⟨hall, Or.inr ⟨by omega, rfl, rfl⟩⟩)
      · rw [show (10 : Int32) = nI 10 from rfl, nI_ltI (by omega) (by omega)] at c_35
        refine x_iconst (v := (-1)) dX6_findOrAdd_38 (by decide) ?_
        exact x_iret dX6_findOrAdd_39 rfl rfl (Nat.le_refl _) (Nat.le_refl _) (Or.inr ⟨hall, Or.inl ⟨by omega, rfl, rfl⟩⟩)
    · rw [nI_leI (by omega) (by omega)] at c_7
      refine x_aload_n dX6_findOrAdd_10 rfl ?_
      refine x_get lf_X6_9 dX6_findOrAdd_11 hc rfl ?_
      refine x_iload_n dX6_findOrAdd_14 rfl ?_
      refine x_laldN (j := i) hw rfl (by omega) (by decide) dX6_findOrAdd_15 ?_
      refine x_lload_n dX6_findOrAdd_16 rfl ?_
      refine x_lcmp dX6_findOrAdd_17 ?_
      refine x_if_ne 23 dX6_findOrAdd_18 (by decide) (fun c_18 => ?_) (fun c_18 => ?_)
      · refine x_iinc (v := nI (i + 1)) [(0, .ref a), (1, .long x), (3, .int (nI (i + 1)))] dX6_findOrAdd_23 rfl (nI_add i 1) (by decide) rfl rfl ?_
        refine x_goto 2 dX6_findOrAdd_26 (by decide) ?_
        exact ih (i + 1) (by omega) (by omega) (lt_s hi (fun q => c_18 ((lg_cmp_eq _ _).mpr q)))
      · refine x_iload_n dX6_findOrAdd_21 rfl ?_
        exact x_iret dX6_findOrAdd_22 rfl rfl (Nat.le_refl _) (Nat.le_refl _) (Or.inl ⟨i, by omega, (lg_cmp_eq _ _).mp c_18, hi, rfl, rfl⟩)
set_option maxRecDepth 100000 in
set_option maxHeartbeats 4000000 in
theorem k_X6_findOrAdd {G : xG} {h : xHp} {a w n : Nat} {f : Nat → Int64} {x : Int64} (hc : h.1 a = some (.inr (6, [.ref w, .int (nI n)]))) (hw : h.1 w = some (.inl (1, 10, .inr (.inl f)))) (hn : n ≤ 10) : MX G mX6_findOrAdd 1 0 0 [.ref a, .long x] h (nm_Q f n a w x h) := by
  refine MX.of [(0, .ref a), (1, .long x)] (by decide) rfl (Nat.le_of_ble_eq_true rfl) rfl ?_
  refine x_iconst (v := 0) dX6_findOrAdd_0 (by decide) ?_
  refine x_istore_n [(0, .ref a), (1, .long x), (3, .int 0)] dX6_findOrAdd_1 (by decide) rfl rfl ?_
  exact l_X6_findOrAdd hc hw hn (n + 1) 0 (by omega) (by omega) (fun j hj => absurd hj (by omega))
