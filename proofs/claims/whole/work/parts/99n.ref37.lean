/-! the reference: fact -/
theorem bi_inj9 {a b : Bool} (h : bi a = bi b) : a = b := by revert h; cases a <;> cases b <;> decide
set_option maxRecDepth 100000 in
set_option maxHeartbeats 4000000 in
theorem k_X14_fact {G : xG} {h : xHp} {g : Nat → Int32} {w : Int64} {nw : Value} {ar : Nat → Nat → Int32} {tw : Nat → Int64} {kw : Nat → Int64} {rf : Nat → Option Nat} (M : MH h g w nw ar tw kw rf) {S : Nat → Bool} (h12 : ∀ j, j < 1000 → ar 212 j = bi (S j)) {nk nt : Nat} {pc : Nat → Nat} (h4 : g 4 = nI nt) (h5 : g 5 = nI nk) (hnk : nk ≤ 10) (hn : nt ≤ 10) (hpc : ∀ k, k < nk → ar 210 k = nI (pc k) ∧ pc k < 3) {a : Int32} {v : Bool} : MX G mX14_fact 2 0 0 [.ref 205, .int a, .int (bi v)] h (fun o h' => ((¬ ∃ n, a = nI n ∧ n < 2 ^ 31 ∧ okAtom nk nt pc n) ∧ o = .inl (some (.int (-1))) ∧ yfr h h' ∧ MH h' (upd (upd (upd g 0 0) 1 1) 2 (-1)) w nw ar tw kw rf) ∨ (∃ n, a = nI n ∧ okAtom nk nt pc n ∧ o = .inl (some (.int (if S n = v then 0 else 1))) ∧ yfr h h' ∧ MH h' (upd (upd (upd g 0 0) 1 0) 2 (-1)) w nw (apF ar 212 (upd (ar 212) n (bi v))) tw kw rf)) := by
  refine MX.of [(0, .ref 205), (1, .int a), (2, .int (bi v))] (by decide) rfl (Nat.le_of_ble_eq_true rfl) rfl ?_
  refine x_aload_n dX14_fact_0 rfl ?_
  refine x_iconst (v := 0) dX14_fact_1 (by decide) ?_
  refine x_put (mL (upd g 0 0) w nw) lf_X14_84 dX14_fact_2 M.o (Nat.le_of_ble_eq_true rfl) rfl rfl rfl ?_
  refine x_aload_n dX14_fact_5 rfl ?_
  refine x_iload_n dX14_fact_6 rfl ?_
  refine x_callV (As := [.int a]) (st := []) lv_X14_239 (k_X14_isAtom (M.g9 (upd g 0 0) w nw) ((upd_nq (by decide)).trans h4) ((upd_nq (by decide)).trans h5) hpc hnk hn) dX14_fact_7 (xup_self _ _ _) rfl rfl (Nat.le_of_ble_eq_true rfl) ⟨by decide, by decide⟩ ⟨by decide, by decide⟩ (fun v9 h9 z => ?_) (fun _ _ _ _ _ z => by obtain ⟨_, z, _⟩ := z; cases z)
  obtain ⟨b9, ev, eh, hb9⟩ := z
  rw [eh]
  cases ev
  refine x_if_ne 19 dX14_fact_10 (by decide) (fun c_10 => ?_) (fun c_10 => ?_)
  · have c_10 := bi_t c_10
    obtain ⟨n, ea, hn31, hok⟩ := hb9.mp (by first | exact c_10 | exact bi_t c_10)
    have hn9 : n < 1000 := by have := hok.1; omega
    refine x_aload_n dX14_fact_19 rfl ?_
    refine x_get lf_X14_33 dX14_fact_20 (xup_self _ _ _) rfl ?_
    refine x_iload_n dX14_fact_23 rfl ?_
    refine x_top (y := nI n) ea ?_
    refine x_zaldN (j := n) ((xup_ne (by omega)).trans (M.a 212 3 1000 rfl)) rfl (by omega) (by decide) dX14_fact_24 ?_
    refine x_top (h12 n hn9) ?_
    refine x_istore_n [(0, .ref 205), (1, .int a), (2, .int (bi v)), (3, .int (bi (S n)))] dX14_fact_25 (by decide) rfl rfl ?_
    refine x_aload_n dX14_fact_26 rfl ?_
    refine x_get lf_X14_33 dX14_fact_27 (xup_self _ _ _) rfl ?_
    refine x_iload_n dX14_fact_30 rfl ?_
    refine x_top (y := nI n) ea ?_
    refine x_iload_n dX14_fact_31 rfl ?_
    refine x_zastN (j := n) ((xup_ne (by omega)).trans (M.a 212 3 1000 rfl)) rfl (by omega) (by decide) (bi01 _) dX14_fact_32 ?_
    refine x_aload_n dX14_fact_33 rfl ?_
    refine x_iload_n dX14_fact_34 rfl ?_
    refine x_iload_n dX14_fact_35 rfl ?_
    refine x_icmp_ne 43 dX14_fact_36 (by decide) (fun c_36 => ?_) (fun c_36 => ?_)
    · refine x_iconst (v := 1) dX14_fact_43 (by decide) ?_
      have Y1 : yfr h (xup (xup h 205 (.inr (14, mL (upd g 0 0) w nw))) 212 (.inl (3, 1000, .inl (upd (ar 212) n (bi v))))) := (((yfr_rf _).up (by decide)).up (by decide))
      refine x_callV (As := [.int 1]) (st := []) lv_X14_229 (k_X14_done ((M.g9 (upd g 0 0) w nw).a9 (c := 212) rfl (upd (ar 212) n (bi v)))) dX14_fact_44 ((xup_ne (by omega)).trans (xup_self _ _ _)) rfl rfl (Nat.le_of_ble_eq_true rfl) ⟨by decide, by decide⟩ ⟨by decide, by decide⟩ (fun v9 h2 z => ?_) (fun _ _ _ _ _ z => by cases z.1)
      obtain ⟨ev, Y2, M2⟩ := z
      cases ev
      refine x_iret dX14_fact_47 rfl rfl (Nat.le_refl _) (Nat.le_refl _) (Or.inr ⟨n, ea, hok, ?_, Y1.tr Y2, M2⟩)
      first | rw [if_pos (bi_inj9 c_36)] | rw [if_neg (fun z => c_36 (by rw [z]))]
    · refine x_iconst (v := 0) dX14_fact_39 (by decide) ?_
      refine x_goto 44 dX14_fact_40 (by decide) ?_
      have Y1 : yfr h (xup (xup h 205 (.inr (14, mL (upd g 0 0) w nw))) 212 (.inl (3, 1000, .inl (upd (ar 212) n (bi v))))) := (((yfr_rf _).up (by decide)).up (by decide))
      refine x_callV (As := [.int 0]) (st := []) lv_X14_229 (k_X14_done ((M.g9 (upd g 0 0) w nw).a9 (c := 212) rfl (upd (ar 212) n (bi v)))) dX14_fact_44 ((xup_ne (by omega)).trans (xup_self _ _ _)) rfl rfl (Nat.le_of_ble_eq_true rfl) ⟨by decide, by decide⟩ ⟨by decide, by decide⟩ (fun v9 h2 z => ?_) (fun _ _ _ _ _ z => by cases z.1)
      obtain ⟨ev, Y2, M2⟩ := z
      cases ev
      refine x_iret dX14_fact_47 rfl rfl (Nat.le_refl _) (Nat.le_refl _) (Or.inr ⟨n, ea, hok, ?_, Y1.tr Y2, M2⟩)
      first | rw [if_pos (bi_inj9 c_36)] | rw [if_neg (fun z => c_36 (by rw [z]))]
  · have c_10 := bi_f c_10
    refine x_aload_n dX14_fact_13 rfl ?_
    refine x_iconst (v := 1) dX14_fact_14 (by decide) ?_
    have Y1 : yfr h (xup h 205 (.inr (14, mL (upd g 0 0) w nw))) := ((yfr_rf _).up (by decide))
    refine x_callV (As := [.int 1]) (st := []) lv_X14_214 (k_X14_refused (M.g9 (upd g 0 0) w nw)) dX14_fact_15 (xup_self _ _ _) rfl rfl (Nat.le_of_ble_eq_true rfl) ⟨by decide, by decide⟩ ⟨by decide, by decide⟩ (fun v9 h2 z => ?_) (fun _ _ _ _ _ z => by cases z.1)
    obtain ⟨ev, Y2, M2⟩ := z
    cases ev
    exact x_iret dX14_fact_18 rfl rfl (Nat.le_refl _) (Nat.le_refl _) (Or.inl ⟨fun z => by have := hb9.mpr z; first | (rw [this] at c_10; cases c_10; done) | (rw [this] at c_10; exact absurd c_10 (by decide)), rfl, Y1.tr Y2, M2⟩)
