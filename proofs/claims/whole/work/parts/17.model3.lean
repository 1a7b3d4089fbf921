/-! RuleCourt$Model: start -/
set_option maxRecDepth 20000 in
theorem ac_n : Cond.native arraycopyName ∈ lw_tbl := xm3 140 rfl
set_option maxRecDepth 20000 in
theorem ac_s : Cond.static arraycopyName ∈ lw_tbl := xm3 139 rfl
set_option maxRecDepth 20000 in
theorem in_System : Cond.initialized "java/lang/System" ∈ lw_tbl := xm1 22 rfl
def gSt (S : Nat → Bool) (r : Nat) (g : Nat → Int32) : Nat → Int32 := fun k => if k < 10 * r ∧ S k = true then 0 else g k
theorem gSt_0 (S : Nat → Bool) (g : Nat → Int32) : gSt S 0 g = g := by
  funext k
  rw [gSt, if_neg (by omega)]
theorem gSt_s (S : Nat → Bool) (r : Nat) (g : Nat → Int32) : gNo S r 10 (gSt S r g) = gSt S (r + 1) g := by
  funext k
  simp only [gNo, gSt]
  by_cases q : 10 * r ≤ k ∧ k < 10 * r + 10 ∧ S k = true
  · rw [if_pos q, if_pos ⟨by omega, q.2.2⟩]
  · rw [if_neg q]
    by_cases q2 : k < 10 * r ∧ S k = true
    · rw [if_pos q2, if_pos ⟨by omega, q2.2⟩]
    · rw [if_neg q2, if_neg]
      rintro ⟨z1, z2⟩
      rcases Nat.lt_or_ge k (10 * r) with e | e
      · exact q2 ⟨e, z2⟩
      · exact q ⟨e, by omega, z2⟩
set_option maxRecDepth 100000 in
set_option maxHeartbeats 4000000 in
theorem l_X5_start {G : xG} {h : xHp} {a rw9 sp ch fr : Nat} {b : Bool} {clk : Int32} {f g c : Nat → Int32} {S : Nat → Bool} (hm : mdAt h a rw9 sp ch b f g c clk) (hS : isRows f S) (hne : mdNe a rw9 sp ch) : ∀ (k i : Nat), i ≤ 100 → 101 ≤ i + k → Wx G mX5_start (xRm 2 0 0) (xF G (xVoid (xup h sp (.inl (0, 1000, .inl (gSt S 100 g))))) 0 0) 0 0 43 [(0, .ref a), (1, .ref fr), (2, .int (nI i))] [] (xup h sp (.inl (0, 1000, .inl (gSt S i g)))) := by
  intro k
  induction k with
  | zero => exact fun i h1 h2 => absurd h2 (by omega)
  | succ k ih =>
    intro i hk hk2
    refine x_iload_n dX5_start_43 rfl ?_
    refine x_bipush (v := 100) dX5_start_44 (by decide) ?_
    refine x_icmp_ge 60 dX5_start_46 (by decide) (fun c_46 => ?_) (fun c_46 => ?_)
    · rw [show (100 : Int32) = nI 100 from rfl, nI_leI (by omega) (by omega)] at c_46
      exact x_vret dX5_start_60 rfl (Nat.le_refl _) (Nat.le_refl _) ⟨rfl, by rw [show i = 100 by omega]⟩
    · rw [show (100 : Int32) = nI 100 from rfl, nI_leI (by omega) (by omega)] at c_46
      refine x_aload_n dX5_start_49 rfl ?_
      refine x_iload_n dX5_start_50 rfl ?_
      refine x_callV (As := [.int (nI i)]) (st := []) lv_X5_44 (k_X5_setNoSteps ((xup_ne hne.2.1).trans hm.1) ((xup_ne hne.2.2.2.1).trans hm.2.1) (xup_self _ _ _) hS (by omega) hne.2.2.2.1) dX5_start_51 ((xup_ne hne.2.1).trans hm.1) rfl rfl (Nat.le_of_ble_eq_true rfl) ⟨by decide, by decide⟩ ⟨by decide, by decide⟩ (fun v h1 q => ?_) (fun _ _ _ _ _ q => by cases q.1)
      obtain ⟨ev, rfl⟩ := q
      cases ev
      refine x_iinc (v := nI (i + 1)) [(0, .ref a), (1, .ref fr), (2, .int (nI (i + 1)))] dX5_start_54 rfl (nI_add i 1) (by decide) rfl rfl ?_
      refine x_goto 43 dX5_start_57 (by decide) ?_
      exact x_heap (by rw [xup_up, gSt_s]) (ih (i + 1) (by omega) (by omega))
def st_Q (a rw9 sp ch : Nat) (b : Bool) (g : Nat → Int32) (S : Nat → Bool) (h : xHp) : Option Value ⊕ Nat → xHp → Prop := fun o h' => o = .inl none ∧
  ∃ f' g' c' : Nat → Int32, mdAt h' a rw9 sp ch b f' g' c' 0 ∧ isRows f' S ∧ (∀ k, k < 10 → c' k = 0) ∧ (b = true → ∀ k, k < 1000 → g' k = if S k = true then 0 else 2147483647) ∧ (b = false → g' = g) ∧ xfr h h' [a, rw9, sp, ch]
theorem isRows_cpy {f g : Nat → Int32} {S : Nat → Bool} (h : isRows f S) : isRows (va_cpy f g 0 0 100) S := isRows_cong h (fun r hr => by rw [pk_cpy_in (by omega) (by omega)]; congr 1; omega)
theorem x_post {G : xG} {M : xM} {R : Room} {Q Q' : Option Value ⊕ Nat → xHp → Prop} {mc ms uc us pc : Nat} {ls : List (Nat × Value)} {st : List Value} {h : xHp} (k : Wx G M R (xF G Q mc ms) uc us pc ls st h) (hq : ∀ o h', Q o h' → Q' o h') : Wx G M R (xF G Q' mc ms) uc us pc ls st h := by
  intro p e s m args below meth c H locs lsA hC hR hL hl T hT X
  obtain ⟨t, a1, o, b1, b2, L, h', c1, c2, c3, c4, c5⟩ := k p e s m args below meth c H locs lsA hC hR hL hl T hT X
  refine ⟨t, a1, o, b1, b2, L, h', c1, c2, c3, c4, ?_⟩
  rcases c5 with ⟨v, d1, d2⟩ | ⟨q, ci, fs, d1, d2, d3⟩
  · exact Or.inl ⟨v, d1, hq _ _ d2⟩
  · exact Or.inr ⟨q, ci, fs, d1, d2, hq _ _ d3⟩
set_option maxRecDepth 100000 in
set_option maxHeartbeats 4000000 in
theorem k_X5_start {G : xG} {h : xHp} {a rw9 sp ch fr : Nat} {b : Bool} {clk : Int32} {f g c fs : Nat → Int32} {S : Nat → Bool} (hm : mdAt h a rw9 sp ch b f g c clk) (hr : h.1 fr = some (.inl (0, 100, .inl fs))) (hS : isRows fs S) (hne : mdNe a rw9 sp ch) : MX G mX5_start 2 0 0 [.ref a, .ref fr] h (st_Q a rw9 sp ch b g S h) := by
  refine MX.of [(0, .ref a), (1, .ref fr)] (by decide) rfl (Nat.le_of_ble_eq_true rfl) rfl ?_
  refine x_aload_n dX5_start_0 rfl ?_
  refine x_iconst (v := 0) dX5_start_1 (by decide) ?_
  refine x_aload_n dX5_start_2 rfl ?_
  refine x_get lf_X5_11 dX5_start_3 hm.1 rfl ?_
  refine x_iconst (v := 0) dX5_start_6 (by decide) ?_
  refine x_bipush (v := 100) dX5_start_7 (by decide) ?_
  refine x_copyi 0 0 100 ml_X5_27 ac_n ac_s in_System hr hm.2.1 rfl rfl rfl (by decide) (by decide) (by decide) (by decide) (by decide) (Nat.le_of_ble_eq_true rfl) (Nat.le_of_ble_eq_true rfl) dX5_start_9 ?_
  refine x_aload_n dX5_start_12 rfl ?_
  refine x_get lf_X5_20 dX5_start_13 ((xup_ne hne.1).trans hm.1) rfl ?_
  refine x_iconst (v := 0) dX5_start_16 (by decide) ?_
  refine x_callS (As := [.ref ch, .int 0]) (st := []) ls_X5_33 (k_fill ((xup_ne hne.2.2.2.2.1.symm).trans hm.2.2.2) (by decide)) dX5_start_17 rfl rfl (Nat.le_of_ble_eq_true rfl) ⟨by decide, by decide⟩ ⟨by decide, by decide⟩ (fun v h1 q => ?_) (fun _ _ _ _ _ q => by cases q.1)
  obtain ⟨ev, rfl⟩ := q
  cases ev
  refine x_aload_n dX5_start_20 rfl ?_
  refine x_iconst (v := 0) dX5_start_21 (by decide) ?_
  refine x_put [.int (bi b), .ref rw9, .ref sp, .ref ch, .int 0] lf_X5_39 dX5_start_22 ((xup_ne hne.2.2.1).trans ((xup_ne hne.1).trans hm.1)) (Nat.le_of_ble_eq_true rfl) rfl rfl rfl ?_
  refine x_aload_n dX5_start_25 rfl ?_
  refine x_get lf_X5_23 dX5_start_26 (xup_self _ _ _) rfl ?_
  refine x_if_eq 60 dX5_start_29 (by decide) (fun c_29 => ?_) (fun c_29 => ?_)
  · have c_29 := bi_f c_29
    exact x_vret dX5_start_60 rfl (Nat.le_refl _) (Nat.le_refl _) ⟨rfl, _, _, _, ⟨(xup_self _ _ _), ((xup_ne hne.1.symm).trans ((xup_ne hne.2.2.2.2.1).trans (xup_self _ _ _))), ((xup_ne hne.2.1.symm).trans ((xup_ne hne.2.2.2.2.2).trans ((xup_ne hne.2.2.2.1.symm).trans hm.2.2.1))), ((xup_ne hne.2.2.1.symm).trans (xup_self _ _ _))⟩, isRows_cpy hS, fun k hk => (by rw [fa_fill_in hk]), fun z => (by rw [z] at c_29; cases c_29), fun _ => rfl, ((((xfr_rf _ _).up (by simp)).up (by simp)).up (by simp))⟩
  · have c_29 := bi_t c_29
    refine x_aload_n dX5_start_32 rfl ?_
    refine x_get lf_X5_17 dX5_start_33 (xup_self _ _ _) rfl ?_
    refine x_ldc kc_X5_43 dX5_start_36 ?_
    refine x_callS (As := [.ref sp, .int 2147483647]) (st := []) ls_X5_33 (k_fill ((xup_ne hne.2.1.symm).trans ((xup_ne hne.2.2.2.2.2).trans ((xup_ne hne.2.2.2.1.symm).trans hm.2.2.1))) (by decide)) dX5_start_38 rfl rfl (Nat.le_of_ble_eq_true rfl) ⟨by decide, by decide⟩ ⟨by decide, by decide⟩ (fun v h1 q => ?_) (fun _ _ _ _ _ q => by cases q.1)
    obtain ⟨ev, rfl⟩ := q
    cases ev
    refine x_iconst (v := 0) dX5_start_41 (by decide) ?_
    refine x_istore_n [(0, .ref a), (1, .ref fr), (2, .int 0)] dX5_start_42 (by decide) rfl rfl ?_
    have hm2 : mdAt (xup (xup (xup (xup h rw9 (.inl (0, 100, .inl (va_cpy fs f 0 0 100)))) ch (.inl (0, 10, .inl (fa_fill (fun _ => 0) c 10)))) a (.inr (5, [.int (bi b), .ref rw9, .ref sp, .ref ch, .int 0]))) sp (.inl (0, 1000, .inl (fa_fill (fun _ => 2147483647) g 1000)))) a rw9 sp ch b _ _ _ _ := ⟨((xup_ne hne.2.1).trans (xup_self _ _ _)), ((xup_ne hne.2.2.2.1).trans ((xup_ne hne.1.symm).trans ((xup_ne hne.2.2.2.2.1).trans (xup_self _ _ _)))), (xup_self _ _ _), ((xup_ne hne.2.2.2.2.2.symm).trans ((xup_ne hne.2.2.1.symm).trans (xup_self _ _ _)))⟩
    refine x_heap (h' := xup (xup (xup (xup (xup h rw9 (.inl (0, 100, .inl (va_cpy fs f 0 0 100)))) ch (.inl (0, 10, .inl (fa_fill (fun _ => 0) c 10)))) a (.inr (5, [.int (bi b), .ref rw9, .ref sp, .ref ch, .int 0]))) sp (.inl (0, 1000, .inl (fa_fill (fun _ => 2147483647) g 1000)))) sp (.inl (0, 1000, .inl (gSt S 0 (fa_fill (fun _ => 2147483647) g 1000))))) (by rw [gSt_0, xup_id hm2.2.2.1]) ?_
    refine x_post (l_X5_start hm2 (isRows_cpy hS) hne 101 0 (by omega) (by omega)) (fun o h9 q => ?_)
    obtain ⟨rfl, rfl⟩ := q
    exact ⟨rfl, _, _, _, ⟨(xup_ne hne.2.1).trans hm2.1, (xup_ne hne.2.2.2.1).trans hm2.2.1, xup_self _ _ _, (xup_ne hne.2.2.2.2.2.symm).trans hm2.2.2.2⟩, isRows_cpy hS, fun k hk => (by rw [fa_fill_in hk]), fun _ k hk => (by simp only [gSt]; rw [fa_fill_in hk]; by_cases z : S k = true <;> simp [z]; omega), fun z => (by rw [z] at c_29; cases c_29), ((((((xfr_rf _ _).up (by simp)).up (by simp)).up (by simp)).up (by simp)).up (by simp))⟩
