theorem bi_ct {b : Bool} (h : b = true) : ¬ bi b = 0 := by subst h; decide
theorem bi_cf {b : Bool} (h : b = false) : bi b = 0 := by subst h; rfl
/-! RuleCourt$Model: countBeyond, take, start -/
theorem isRows_beyond {f f' : Nat → Int32} {S S' : Nat → Bool} (h : isRows f S) (h' : isRows f' S') {r : Nat} (hr : r < 100) : xBC (f r &&& (f' r ^^^ (-1))) = nI (fb_ct (fun j => S (10 * r + j) && !S' (10 * r + j)) 10) := by
  obtain ⟨m, h1, h2, h3⟩ := h r hr
  obtain ⟨m', h1', h2', h3'⟩ := h' r hr
  rw [h2, h2', b10_beyond, b10_count _ (b10_beyond_lt m' h1)]
  congr 1
  exact fb_ct_cong (fun k hk => by rw [b10_beyond_bit m m' hk, h3 k hk, h3' k hk])
theorem cnt_row (p : Nat → Bool) (r : Nat) : fb_ct p (10 * r) + fb_ct (fun j => p (10 * r + j)) 10 = fb_ct p (10 * (r + 1)) := by
  rw [show 10 * (r + 1) = 10 * r + 10 by omega, fb_ct_split]
set_option maxRecDepth 100000 in
set_option maxHeartbeats 4000000 in
theorem l_X5_countBeyond {G : xG} {h : xHp} {a rw9 sp ch a' rw9' sp' ch' : Nat} {b b' : Bool} {clk clk' : Int32} {f f' : Nat → Int32} {S S' : Nat → Bool} (hc : h.1 a = some (mC b rw9 sp ch clk)) (hf : h.1 rw9 = some (.inl (0, 100, .inl f))) (hc' : h.1 a' = some (mC b' rw9' sp' ch' clk')) (hf' : h.1 rw9' = some (.inl (0, 100, .inl f'))) (hS : isRows f S) (hS' : isRows f' S') : ∀ (k i : Nat), i ≤ 100 → 101 ≤ i + k → Wx G mX5_countBeyond (xRm 2 0 0) (xF G (xAns (.int (nI (fb_ct (fun n => S n && !S' n) 1000))) h) 0 0) 0 0 4 [(0, .ref a), (1, .ref (a')), (2, .int (nI (fb_ct (fun n => S n && !S' n) (10 * i)))), (3, .int (nI i))] [] h := by
  intro k
  induction k with
  | zero => exact fun i h1 h2 => absurd h2 (by omega)
  | succ k ih =>
    intro i hk hk2
    refine x_iload_n dX5_countBeyond_4 rfl ?_
    refine x_bipush (v := 100) dX5_countBeyond_5 (by decide) ?_
    refine x_icmp_ge 37 dX5_countBeyond_7 (by decide) (fun c_7 => ?_) (fun c_7 => ?_)
    · rw [show (100 : Int32) = nI 100 from rfl, nI_leI (by omega) (by omega)] at c_7
      refine x_iload_n dX5_countBeyond_37 rfl ?_
      exact x_iret dX5_countBeyond_38 rfl rfl (Nat.le_refl _) (Nat.le_refl _) ⟨by rw [show i = 100 by omega], rfl⟩
    · rw [show (100 : Int32) = nI 100 from rfl, nI_leI (by omega) (by omega)] at c_7
      refine x_iload_n dX5_countBeyond_10 rfl ?_
      refine x_aload_n dX5_countBeyond_11 rfl ?_
      refine x_get lf_X5_11 dX5_countBeyond_12 hc rfl ?_
      refine x_iload_n dX5_countBeyond_15 rfl ?_
      refine x_ialdN (j := i) hf rfl (by omega) (by decide) dX5_countBeyond_16 ?_
      refine x_aload_n dX5_countBeyond_17 rfl ?_
      refine x_get lf_X5_11 dX5_countBeyond_18 hc' rfl ?_
      refine x_iload_n dX5_countBeyond_21 rfl ?_
      refine x_ialdN (j := i) hf' rfl (by omega) (by decide) dX5_countBeyond_22 ?_
      refine x_iconst (v := (-1)) dX5_countBeyond_23 (by decide) ?_
      refine x_ixor dX5_countBeyond_24 ?_
      refine x_iand dX5_countBeyond_25 ?_
      refine x_callS (As := [.int ((f i) &&& (((f') i) ^^^ (-1)))]) (st := [.int (nI (fb_ct (fun n => S n && !S' n) (10 * i)))]) ls_X5_55 k_bitCount dX5_countBeyond_26 rfl rfl (Nat.le_of_ble_eq_true rfl) ⟨by decide, by decide⟩ ⟨by decide, by decide⟩ (fun v h1 q => ?_) (fun _ _ _ _ _ q => by cases q.1)
      obtain ⟨ev, rfl⟩ := q
      cases ev
      refine x_top (isRows_beyond hS hS' (by omega)) ?_
      refine x_iadd dX5_countBeyond_29 ?_
      refine x_top ((nI_add _ _).trans (congrArg nI (cnt_row (fun n => S n && !S' n) i))) ?_
      refine x_istore_n [(0, .ref a), (1, .ref (a')), (2, .int (nI (fb_ct (fun n => S n && !S' n) (10 * (i + 1))))), (3, .int (nI i))] dX5_countBeyond_30 (by decide) rfl rfl ?_
      refine x_iinc (v := nI (i + 1)) [(0, .ref a), (1, .ref (a')), (2, .int (nI (fb_ct (fun n => S n && !S' n) (10 * (i + 1))))), (3, .int (nI (i + 1)))] dX5_countBeyond_31 rfl (nI_add i 1) (by decide) rfl rfl ?_
      refine x_goto 4 dX5_countBeyond_34 (by decide) ?_
      exact ih (i + 1) (by omega) (by omega)
set_option maxRecDepth 100000 in
set_option maxHeartbeats 4000000 in
theorem k_X5_countBeyond {G : xG} {h : xHp} {a rw9 sp ch a' rw9' sp' ch' : Nat} {b b' : Bool} {clk clk' : Int32} {f f' : Nat → Int32} {S S' : Nat → Bool} (hc : h.1 a = some (mC b rw9 sp ch clk)) (hf : h.1 rw9 = some (.inl (0, 100, .inl f))) (hc' : h.1 a' = some (mC b' rw9' sp' ch' clk')) (hf' : h.1 rw9' = some (.inl (0, 100, .inl f'))) (hS : isRows f S) (hS' : isRows f' S') : MX G mX5_countBeyond 2 0 0 [.ref a, .ref (a')] h (xAns (.int (nI (fb_ct (fun n => S n && !S' n) 1000))) h) := by
  refine MX.of [(0, .ref a), (1, .ref (a'))] (by decide) rfl (Nat.le_of_ble_eq_true rfl) rfl ?_
  refine x_iconst (v := 0) dX5_countBeyond_0 (by decide) ?_
  refine x_istore_n [(0, .ref a), (1, .ref (a')), (2, .int 0)] dX5_countBeyond_1 (by decide) rfl rfl ?_
  refine x_iconst (v := 0) dX5_countBeyond_2 (by decide) ?_
  refine x_istore_n [(0, .ref a), (1, .ref (a')), (2, .int 0), (3, .int 0)] dX5_countBeyond_3 (by decide) rfl rfl ?_
  exact l_X5_countBeyond hc hf hc' hf' hS hS' 101 0 (by omega) (by omega)
/-- the model at a -/
def mdAt (h : xHp) (a rw9 sp ch : Nat) (b : Bool) (f g c : Nat → Int32) (clk : Int32) : Prop :=
  h.1 a = some (mC b rw9 sp ch clk) ∧ h.1 rw9 = some (.inl (0, 100, .inl f)) ∧ h.1 sp = some (.inl (0, 1000, .inl g)) ∧ h.1 ch = some (.inl (0, 10, .inl c))
def mdNe (a rw9 sp ch : Nat) : Prop := a ≠ rw9 ∧ a ≠ sp ∧ a ≠ ch ∧ rw9 ≠ sp ∧ rw9 ≠ ch ∧ sp ≠ ch
def tk_Q (a rw9 sp ch : Nat) (b : Bool) (f g c : Nat → Int32) (S : Nat → Bool) (clk : Int32) (n : Nat) (s : Int32) (h : xHp) : Option Value ⊕ Nat → xHp → Prop := fun o h' => o = .inl none ∧
  ((S n = true ∧ (b = true → g n ≤ s) ∧ h' = h) ∨
   ((S n = true → b = true ∧ ¬ g n ≤ s) ∧ ∃ f' g' : Nat → Int32, (S n = true → f' = f) ∧ (S n = false → f' = fRow f n) ∧ (b = true → g' = upd g n s) ∧ (b = false → g' = g) ∧ mdAt h' a rw9 sp ch b f' g' (upd c (n / 100) (clk + 1)) (clk + 1) ∧ xfr h h' [a, rw9, sp, ch]))
set_option maxRecDepth 100000 in
set_option maxHeartbeats 4000000 in
theorem k_X5_take {G : xG} {h : xHp} {a rw9 sp ch n : Nat} {b : Bool} {clk s : Int32} {f g c : Nat → Int32} {S : Nat → Bool} (hm : mdAt h a rw9 sp ch b f g c clk) (hS : isRows f S) (hn : n < 1000) (hne : mdNe a rw9 sp ch) : MX G mX5_take 2 0 0 [.ref a, .int (nI n), .int s] h (tk_Q a rw9 sp ch b f g c S clk n s h) := by
  refine MX.of [(0, .ref a), (1, .int (nI n)), (2, .int s)] (by decide) rfl (Nat.le_of_ble_eq_true rfl) rfl ?_
  refine x_iload_n dX5_take_0 rfl ?_
  refine x_if_lt 11 dX5_take_1 (by decide) (fun c_1 => absurd c_1 (nI_pos (by omega))) (fun c_1 => ?_)
  refine x_iload_n dX5_take_4 rfl ?_
  refine x_sipush (v := 1000) dX5_take_5 (by decide) ?_
  refine x_icmp_lt 12 dX5_take_8 (by decide) (fun c_8 => ?_) (fun c_8 => absurd (nI_lt hn (by decide)) c_8)
  refine x_aload_n dX5_take_12 rfl ?_
  refine x_iload_n dX5_take_13 rfl ?_
  refine x_callV (As := [.int (nI n)]) (st := []) lv_X5_48 (k_X5_has hm.1 hm.2.1 hS hn) dX5_take_14 hm.1 rfl rfl (Nat.le_of_ble_eq_true rfl) ⟨by decide, by decide⟩ ⟨by decide, by decide⟩ (fun v h1 q => ?_) (fun _ _ _ _ _ q => by cases q.1)
  obtain ⟨ev, rfl⟩ := q
  cases ev
  refine x_istore_n [(0, .ref a), (1, .int (nI n)), (2, .int s), (3, .int (bi (S n)))] dX5_take_17 (by decide) rfl rfl ?_
  refine x_iload_n dX5_take_18 rfl ?_
  refine x_if_eq 40 dX5_take_19 (by decide) (fun c_19 => ?_) (fun c_19 => ?_)
  · have c_19 := bi_f c_19
    refine x_aload_n dX5_take_40 rfl ?_
    refine x_get lf_X5_23 dX5_take_41 hm.1 rfl ?_
    refine x_if_eq 54 dX5_take_44 (by decide) (fun c_44 => ?_) (fun c_44 => ?_)
    · have c_44 := bi_f c_44
      refine x_iload_n dX5_take_54 rfl ?_
      refine x_if_ne 63 dX5_take_55 (by decide) (fun c => absurd (bi_cf c_19) c) (fun _ => ?_)
      refine x_aload_n dX5_take_58 rfl ?_
      refine x_iload_n dX5_take_59 rfl ?_
      refine x_callV (As := [.int (nI n)]) (st := []) lv_X5_52 (k_X5_turn hm.1 hm.2.1 hn) dX5_take_60 hm.1 rfl rfl (Nat.le_of_ble_eq_true rfl) ⟨by decide, by decide⟩ ⟨by decide, by decide⟩ (fun v h1 q => ?_) (fun _ _ _ _ _ q => by cases q.1)
      obtain ⟨ev, rfl⟩ := q
      cases ev
      refine x_aload_n dX5_take_63 rfl ?_
      refine x_dup dX5_take_64 rfl ?_
      refine x_get lf_X5_39 dX5_take_65 ((xup_ne hne.1).trans hm.1) rfl ?_
      refine x_iconst (v := 1) dX5_take_68 (by decide) ?_
      refine x_iadd dX5_take_69 ?_
      refine x_put [.int (bi b), .ref rw9, .ref sp, .ref ch, .int (clk + 1)] lf_X5_39 dX5_take_70 ((xup_ne hne.1).trans hm.1) (Nat.le_of_ble_eq_true rfl) rfl rfl rfl ?_
      refine x_aload_n dX5_take_73 rfl ?_
      refine x_get lf_X5_20 dX5_take_74 (xup_self _ _ _) rfl ?_
      refine x_iload_n dX5_take_77 rfl ?_
      refine x_bipush (v := 100) dX5_take_78 (by decide) ?_
      refine x_idiv dX5_take_80 (by decide) ?_
      refine x_top (y := nI (n / 100)) (pk_div (a := n) (d := 100) (by omega) (by omega) (by omega)) ?_
      refine x_aload_n dX5_take_81 rfl ?_
      refine x_get lf_X5_39 dX5_take_82 (xup_self _ _ _) rfl ?_
      refine x_iastN (j := n / 100) ((xup_ne hne.2.2.1.symm).trans ((xup_ne hne.2.2.2.2.1.symm).trans hm.2.2.2)) rfl (by omega) (by decide) dX5_take_85 ?_
      exact x_vret dX5_take_86 rfl (Nat.le_refl _) (Nat.le_refl _) ⟨rfl, Or.inr ⟨fun z => (by first | exact ⟨c_26, Int32.not_le.mpr c_36⟩ | (rw [z] at c_19; cases c_19)), _, _, fun z => (by first | rfl | (rw [z] at c_19; cases c_19)), fun z => (by first | rfl | (rw [z] at c_19; cases c_19)), fun z => (by first | rfl | (rw [z] at c_26; cases c_26) | (rw [z] at c_44; cases c_44)), fun z => (by first | rfl | (rw [z] at c_26; cases c_26) | (rw [z] at c_44; cases c_44)), ⟨((xup_ne hne.2.2.1).trans (xup_self _ _ _)), ((xup_ne hne.2.2.2.2.1).trans ((xup_ne hne.1.symm).trans (xup_self _ _ _))), ((xup_ne hne.2.2.2.2.2).trans ((xup_ne hne.2.1.symm).trans ((xup_ne hne.2.2.2.1.symm).trans hm.2.2.1))), (xup_self _ _ _)⟩, ((((xfr_rf _ _).up (by simp)).up (by simp)).up (by simp))⟩⟩
    · have c_44 := bi_t c_44
      refine x_aload_n dX5_take_47 rfl ?_
      refine x_get lf_X5_17 dX5_take_48 hm.1 rfl ?_
      refine x_iload_n dX5_take_51 rfl ?_
      refine x_iload_n dX5_take_52 rfl ?_
      refine x_iastN (j := n) hm.2.2.1 rfl (by omega) (by decide) dX5_take_53 ?_
      refine x_iload_n dX5_take_54 rfl ?_
      refine x_if_ne 63 dX5_take_55 (by decide) (fun c => absurd (bi_cf c_19) c) (fun _ => ?_)
      refine x_aload_n dX5_take_58 rfl ?_
      refine x_iload_n dX5_take_59 rfl ?_
      refine x_callV (As := [.int (nI n)]) (st := []) lv_X5_52 (k_X5_turn ((xup_ne hne.2.1).trans hm.1) ((xup_ne hne.2.2.2.1).trans hm.2.1) hn) dX5_take_60 ((xup_ne hne.2.1).trans hm.1) rfl rfl (Nat.le_of_ble_eq_true rfl) ⟨by decide, by decide⟩ ⟨by decide, by decide⟩ (fun v h1 q => ?_) (fun _ _ _ _ _ q => by cases q.1)
      obtain ⟨ev, rfl⟩ := q
      cases ev
      refine x_aload_n dX5_take_63 rfl ?_
      refine x_dup dX5_take_64 rfl ?_
      refine x_get lf_X5_39 dX5_take_65 ((xup_ne hne.1).trans ((xup_ne hne.2.1).trans hm.1)) rfl ?_
      refine x_iconst (v := 1) dX5_take_68 (by decide) ?_
      refine x_iadd dX5_take_69 ?_
      refine x_put [.int (bi b), .ref rw9, .ref sp, .ref ch, .int (clk + 1)] lf_X5_39 dX5_take_70 ((xup_ne hne.1).trans ((xup_ne hne.2.1).trans hm.1)) (Nat.le_of_ble_eq_true rfl) rfl rfl rfl ?_
      refine x_aload_n dX5_take_73 rfl ?_
      refine x_get lf_X5_20 dX5_take_74 (xup_self _ _ _) rfl ?_
      refine x_iload_n dX5_take_77 rfl ?_
      refine x_bipush (v := 100) dX5_take_78 (by decide) ?_
      refine x_idiv dX5_take_80 (by decide) ?_
      refine x_top (y := nI (n / 100)) (pk_div (a := n) (d := 100) (by omega) (by omega) (by omega)) ?_
      refine x_aload_n dX5_take_81 rfl ?_
      refine x_get lf_X5_39 dX5_take_82 (xup_self _ _ _) rfl ?_
      refine x_iastN (j := n / 100) ((xup_ne hne.2.2.1.symm).trans ((xup_ne hne.2.2.2.2.1.symm).trans ((xup_ne hne.2.2.2.2.2.symm).trans hm.2.2.2))) rfl (by omega) (by decide) dX5_take_85 ?_
      exact x_vret dX5_take_86 rfl (Nat.le_refl _) (Nat.le_refl _) ⟨rfl, Or.inr ⟨fun z => (by first | exact ⟨c_26, Int32.not_le.mpr c_36⟩ | (rw [z] at c_19; cases c_19)), _, _, fun z => (by first | rfl | (rw [z] at c_19; cases c_19)), fun z => (by first | rfl | (rw [z] at c_19; cases c_19)), fun z => (by first | rfl | (rw [z] at c_26; cases c_26) | (rw [z] at c_44; cases c_44)), fun z => (by first | rfl | (rw [z] at c_26; cases c_26) | (rw [z] at c_44; cases c_44)), ⟨((xup_ne hne.2.2.1).trans (xup_self _ _ _)), ((xup_ne hne.2.2.2.2.1).trans ((xup_ne hne.1.symm).trans (xup_self _ _ _))), ((xup_ne hne.2.2.2.2.2).trans ((xup_ne hne.2.1.symm).trans ((xup_ne hne.2.2.2.1.symm).trans (xup_self _ _ _)))), (xup_self _ _ _)⟩, (((((xfr_rf _ _).up (by simp)).up (by simp)).up (by simp)).up (by simp))⟩⟩
  · have c_19 := bi_t c_19
    refine x_aload_n dX5_take_22 rfl ?_
    refine x_get lf_X5_23 dX5_take_23 hm.1 rfl ?_
    refine x_if_eq 39 dX5_take_26 (by decide) (fun c_26 => ?_) (fun c_26 => ?_)
    · have c_26 := bi_f c_26
      exact x_vret dX5_take_39 rfl (Nat.le_refl _) (Nat.le_refl _) ⟨rfl, Or.inl ⟨c_19, fun z => (by first | exact Int32.not_lt.mp c_36 | (rw [z] at c_26; cases c_26)), rfl⟩⟩
    · have c_26 := bi_t c_26
      refine x_aload_n dX5_take_29 rfl ?_
      refine x_get lf_X5_17 dX5_take_30 hm.1 rfl ?_
      refine x_iload_n dX5_take_33 rfl ?_
      refine x_ialdN (j := n) hm.2.2.1 rfl (by omega) (by decide) dX5_take_34 ?_
      refine x_iload_n dX5_take_35 rfl ?_
      refine x_icmp_gt 40 dX5_take_36 (by decide) (fun c_36 => ?_) (fun c_36 => ?_)
      · refine x_aload_n dX5_take_40 rfl ?_
        refine x_get lf_X5_23 dX5_take_41 hm.1 rfl ?_
        refine x_if_eq 54 dX5_take_44 (by decide) (fun c => absurd c (bi_ct c_26)) (fun _ => ?_)
        refine x_aload_n dX5_take_47 rfl ?_
        refine x_get lf_X5_17 dX5_take_48 hm.1 rfl ?_
        refine x_iload_n dX5_take_51 rfl ?_
        refine x_iload_n dX5_take_52 rfl ?_
        refine x_iastN (j := n) hm.2.2.1 rfl (by omega) (by decide) dX5_take_53 ?_
        refine x_iload_n dX5_take_54 rfl ?_
        refine x_if_ne 63 dX5_take_55 (by decide) (fun _ => ?_) (fun c => absurd c (bi_ct c_19))
        refine x_aload_n dX5_take_63 rfl ?_
        refine x_dup dX5_take_64 rfl ?_
        refine x_get lf_X5_39 dX5_take_65 ((xup_ne hne.2.1).trans hm.1) rfl ?_
        refine x_iconst (v := 1) dX5_take_68 (by decide) ?_
        refine x_iadd dX5_take_69 ?_
        refine x_put [.int (bi b), .ref rw9, .ref sp, .ref ch, .int (clk + 1)] lf_X5_39 dX5_take_70 ((xup_ne hne.2.1).trans hm.1) (Nat.le_of_ble_eq_true rfl) rfl rfl rfl ?_
        refine x_aload_n dX5_take_73 rfl ?_
        refine x_get lf_X5_20 dX5_take_74 (xup_self _ _ _) rfl ?_
        refine x_iload_n dX5_take_77 rfl ?_
        refine x_bipush (v := 100) dX5_take_78 (by decide) ?_
        refine x_idiv dX5_take_80 (by decide) ?_
        refine x_top (y := nI (n / 100)) (pk_div (a := n) (d := 100) (by omega) (by omega) (by omega)) ?_
        refine x_aload_n dX5_take_81 rfl ?_
        refine x_get lf_X5_39 dX5_take_82 (xup_self _ _ _) rfl ?_
        refine x_iastN (j := n / 100) ((xup_ne hne.2.2.1.symm).trans ((xup_ne hne.2.2.2.2.2.symm).trans hm.2.2.2)) rfl (by omega) (by decide) dX5_take_85 ?_
        exact x_vret dX5_take_86 rfl (Nat.le_refl _) (Nat.le_refl _) ⟨rfl, Or.inr ⟨fun z => (by first | exact ⟨c_26, Int32.not_le.mpr c_36⟩ | (rw [z] at c_19; cases c_19)), _, _, fun z => (by first | rfl | (rw [z] at c_19; cases c_19)), fun z => (by first | rfl | (rw [z] at c_19; cases c_19)), fun z => (by first | rfl | (rw [z] at c_26; cases c_26) | (rw [z] at c_44; cases c_44)), fun z => (by first | rfl | (rw [z] at c_26; cases c_26) | (rw [z] at c_44; cases c_44)), ⟨((xup_ne hne.2.2.1).trans (xup_self _ _ _)), ((xup_ne hne.2.2.2.2.1).trans ((xup_ne hne.1.symm).trans ((xup_ne hne.2.2.2.1).trans hm.2.1))), ((xup_ne hne.2.2.2.2.2).trans ((xup_ne hne.2.1.symm).trans (xup_self _ _ _))), (xup_self _ _ _)⟩, ((((xfr_rf _ _).up (by simp)).up (by simp)).up (by simp))⟩⟩
      · exact x_vret dX5_take_39 rfl (Nat.le_refl _) (Nat.le_refl _) ⟨rfl, Or.inl ⟨c_19, fun z => (by first | exact Int32.not_lt.mp c_36 | (rw [z] at c_26; cases c_26)), rfl⟩⟩
