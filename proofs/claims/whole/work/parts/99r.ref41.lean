/-! the reference: drop -/
def rfD (rf : Nat → Option Nat) (ρ r : Nat) (rf9 : Nat → Option Nat) : Prop := ∀ j, rf9 j = if ρ ≤ j ∧ j < r then rf (j + 1) else rf j
theorem rfD_0 {rf : Nat → Option Nat} {ρ : Nat} : rfD rf ρ ρ rf := fun j => by rw [if_neg (by omega)]
theorem rfD_s {rf rf9 : Nat → Option Nat} {ρ r a : Nat} (h : rfD rf ρ r rf9) (hr : ρ ≤ r) (e : rf (r + 1) = some a) : rfD rf ρ (r + 1) (va_up rf9 r (some a)) := fun j => by
  unfold va_up
  by_cases z : j = r
  · rw [if_pos z, if_pos (by omega), z, e]
  · rw [if_neg z, h j]
    by_cases y : ρ ≤ j ∧ j < r
    · rw [if_pos y, if_pos (by omega)]
    · rw [if_neg y, if_neg (by omega)]
theorem rfD_T {h : xHp} {rf rf9 : Nat → Option Nat} {ρ rc : Nat} {V : Nat → RV} (hT : rmT h rf rc V) (hd : rfD rf ρ (rc - 1) rf9) : rmT h rf9 (rc - 1) (rmv ρ rc V) := fun r hr => by
  unfold rmv
  rw [hd r]
  by_cases z : ρ ≤ r
  · rw [if_pos ⟨z, hr⟩, if_neg (by omega), if_pos (by omega)]; exact hT (r + 1) (by omega)
  · rw [if_neg (by omega), if_pos (by omega)]; exact hT r (by omega)
set_option maxRecDepth 100000 in
set_option maxHeartbeats 4000000 in
theorem l_X14_drop {G : xG} {h : xHp} {g : Nat → Int32} {w : Int64} {nw : Value} {ar : Nat → Nat → Int32} {tw : Nat → Int64} {kw : Nat → Int64} {rf : Nat → Option Nat} (M : MH h g w nw ar tw kw rf) {V : Nat → RV} {rc : Nat} (hrc : rc ≤ 20) (h6 : g 6 = nI rc) (hT : rmT h rf rc V) {k : Int32} {ρ : Nat} (hρ : ρ < rc) (ek : k = nI ρ) : ∀ (m r : Nat) {h1 : xHp} {rf9 : Nat → Option Nat}, ρ ≤ r → r ≤ rc - 1 → rc ≤ r + m → MH h1 (upd (upd g 0 0) 6 (nI (rc - 1))) w nw ar tw kw rf9 → yfr h h1 → rfD rf ρ r rf9 → Wx G mX14_drop (xRm 2 0 0) (xF G (fun o h' => (inR k rc = false ∧ o = .inl (some (.int 0)) ∧ yfr h h' ∧ MH h' (upd (upd (upd g 0 0) 1 1) 2 (-1)) w nw ar tw kw rf) ∨ (∃ ρ rf', ρ < rc ∧ k = nI ρ ∧ o = .inl (some (.int 1)) ∧ yfr h h' ∧ MH h' (upd (upd (upd (upd g 0 0) 6 (nI (rc - 1))) 1 0) 2 (-1)) w nw ar tw kw rf' ∧ rmT h' rf' (rc - 1) (rmv ρ rc V))) 0 0) 0 0 31 [(0, .ref 205), (1, .int k), (2, .int (nI r))] [] h1 := by
  intro m
  induction m with
  | zero => intro r h1 rf9 a1 a2 a3; exact absurd a3 (by omega)
  | succ m ih =>
    intro r h1 rf9 hr1 hr2 hr3 M1 Y1 hd
    refine x_iload_n dX14_drop_31 rfl ?_
    refine x_aload_n dX14_drop_32 rfl ?_
    refine x_get lf_X14_93 dX14_drop_33 M1.o rfl ?_
    refine x_top (y := nI (rc - 1)) rfl ?_
    refine x_icmp_ge 59 dX14_drop_36 (by decide) (fun c_36 => ?_) (fun c_36 => ?_)
    · rw [nI_leI (by omega) (by omega)] at c_36
      refine x_aload_n dX14_drop_59 rfl ?_
      refine x_callV (As := []) (st := []) lv_X14_250 (k_X14_granted M1) dX14_drop_60 M1.o rfl rfl (Nat.le_of_ble_eq_true rfl) ⟨by decide, by decide⟩ ⟨by decide, by decide⟩ (fun v9 h2 z => ?_) (fun _ _ _ _ _ z => by cases z.1)
      obtain ⟨ev, Y2, M2⟩ := z
      cases ev
      exact x_iret dX14_drop_63 rfl rfl (Nat.le_refl _) (Nat.le_refl _) (Or.inr ⟨ρ, rf9, hρ, ek, rfl, Y1.tr Y2, M2, rfD_T (hT.y (Y1.tr Y2)) (by rw [show rc - 1 = r by omega]; exact hd)⟩)
    · rw [nI_leI (by omega) (by omega)] at c_36
      obtain ⟨a, hra, ha1, ha2, rv1⟩ := (hT.y Y1) (r + 1) (by omega)
      obtain ⟨so, kd, on, tz, lt, rc9, rI⟩ := id rv1
      refine x_aload_n dX14_drop_39 rfl ?_
      refine x_get lf_X14_42 dX14_drop_40 M1.o rfl ?_
      refine x_iload_n dX14_drop_43 rfl ?_
      refine x_aload_n dX14_drop_44 rfl ?_
      refine x_get lf_X14_42 dX14_drop_45 M1.o rfl ?_
      refine x_iload_n dX14_drop_48 rfl ?_
      refine x_iconst (v := 1) dX14_drop_49 (by decide) ?_
      refine x_iadd dX14_drop_50 ?_
      refine x_top (y := nI (r + 1)) (nI_add r 1) ?_
      refine x_aaldN (b := a) (j := r + 1) M1.r rfl rfl (by omega) (by decide) ((hd (r + 1)).trans ((if_neg (by omega)).trans hra)) dX14_drop_51 ?_
      refine x_aastN (ci := 12) (j := r) M1.r rfl rc9.1 rfl rfl (by omega) (by decide) dX14_drop_52 ?_
      refine x_iinc (v := nI (r + 1)) [(0, .ref 205), (1, .int k), (2, .int (nI (r + 1)))] dX14_drop_53 rfl (nI_add r 1) (by decide) rfl rfl ?_
      refine x_goto 31 dX14_drop_56 (by decide) ?_
      exact ih (r + 1) (by omega) (by omega) (by omega) (M1.r9 (va_up rf9 r (some a))) (Y1.tr ((yfr_rf _).up (by decide))) (rfD_s hd hr1 hra)
set_option maxRecDepth 100000 in
set_option maxHeartbeats 4000000 in
theorem k_X14_drop {G : xG} {h : xHp} {g : Nat → Int32} {w : Int64} {nw : Value} {ar : Nat → Nat → Int32} {tw : Nat → Int64} {kw : Nat → Int64} {rf : Nat → Option Nat} (M : MH h g w nw ar tw kw rf) {V : Nat → RV} {rc : Nat} (hrc : rc ≤ 20) (h6 : g 6 = nI rc) (hT : rmT h rf rc V) {k : Int32} : MX G mX14_drop 2 0 0 [.ref 205, .int k] h (fun o h' => (inR k rc = false ∧ o = .inl (some (.int 0)) ∧ yfr h h' ∧ MH h' (upd (upd (upd g 0 0) 1 1) 2 (-1)) w nw ar tw kw rf) ∨ (∃ ρ rf', ρ < rc ∧ k = nI ρ ∧ o = .inl (some (.int 1)) ∧ yfr h h' ∧ MH h' (upd (upd (upd (upd g 0 0) 6 (nI (rc - 1))) 1 0) 2 (-1)) w nw ar tw kw rf' ∧ rmT h' rf' (rc - 1) (rmv ρ rc V))) := by
  refine MX.of [(0, .ref 205), (1, .int k)] (by decide) rfl (Nat.le_of_ble_eq_true rfl) rfl ?_
  refine x_aload_n dX14_drop_0 rfl ?_
  refine x_iconst (v := 0) dX14_drop_1 (by decide) ?_
  refine x_put (mL (upd g 0 0) w nw) lf_X14_84 dX14_drop_2 M.o (Nat.le_of_ble_eq_true rfl) rfl rfl rfl ?_
  refine x_aload_n dX14_drop_5 rfl ?_
  refine x_iload_n dX14_drop_6 rfl ?_
  refine x_callV (As := [.int k]) (st := []) lv_X14_244 (k_X14_isRule (M.g9 (upd g 0 0) w nw) ((upd_nq (by decide)).trans h6)) dX14_drop_7 (xup_self _ _ _) rfl rfl (Nat.le_of_ble_eq_true rfl) ⟨by decide, by decide⟩ ⟨by decide, by decide⟩ (fun v9 h9 z => ?_) (fun _ _ _ _ _ z => by cases z.1)
  obtain ⟨ev, eh⟩ := z
  rw [eh]
  cases ev
  refine x_if_ne 19 dX14_drop_10 (by decide) (fun c_10 => ?_) (fun c_10 => ?_)
  · have c_10 := bi_t c_10
    refine x_aload_n dX14_drop_19 rfl ?_
    refine x_dup dX14_drop_20 rfl ?_
    obtain ⟨ρ, hρ, ek⟩ := inR_of (show inR k rc = true by first | assumption | exact bi_t c_10) (by omega)
    refine x_get lf_X14_93 dX14_drop_21 (xup_self _ _ _) rfl ?_
    refine x_top (y := nI rc) h6 ?_
    refine x_iconst (v := 1) dX14_drop_24 (by decide) ?_
    refine x_isub dX14_drop_25 ?_
    refine x_top (y := nI (rc - 1)) (pk_sub (a := rc) (b := 1) (by omega)) ?_
    refine x_put (mL (upd (upd g 0 0) 6 (nI (rc - 1))) w nw) lf_X14_93 dX14_drop_26 (xup_self _ _ _) (Nat.le_of_ble_eq_true rfl) rfl rfl rfl ?_
    refine x_iload_n dX14_drop_29 rfl ?_
    refine x_istore_n [(0, .ref 205), (1, .int k), (2, .int k)] dX14_drop_30 (by decide) rfl rfl ?_
    subst ek
    exact l_X14_drop (k := nI ρ) M hrc h6 hT hρ rfl rc ρ (Nat.le_refl _) (by omega) (by omega) ((M.g9 (upd g 0 0) w nw).g9 (upd (upd g 0 0) 6 (nI (rc - 1))) w nw) (((yfr_rf _).up (by decide)).up (by decide)) rfD_0
  · have c_10 := bi_f c_10
    refine x_aload_n dX14_drop_13 rfl ?_
    refine x_iconst (v := 1) dX14_drop_14 (by decide) ?_
    have Y1 : yfr h (xup h 205 (.inr (14, mL (upd g 0 0) w nw))) := ((yfr_rf _).up (by decide))
    refine x_callV (As := [.int 1]) (st := []) lv_X14_247 (k_X14_denied (M.g9 (upd g 0 0) w nw)) dX14_drop_15 (xup_self _ _ _) rfl rfl (Nat.le_of_ble_eq_true rfl) ⟨by decide, by decide⟩ ⟨by decide, by decide⟩ (fun v9 h2 z => ?_) (fun _ _ _ _ _ z => by cases z.1)
    obtain ⟨ev, Y2, M2⟩ := z
    cases ev
    exact x_iret dX14_drop_18 rfl rfl (Nat.le_refl _) (Nat.le_refl _) (Or.inl ⟨by first | assumption | exact bi_f c_10, rfl, Y1.tr Y2, M2⟩)
