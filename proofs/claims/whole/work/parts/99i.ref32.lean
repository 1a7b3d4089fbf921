/-! the reference: deepest, oneOf -/
theorem mxS_b {s : Nat → Option Nat} (h : ∀ n, n < 1000 → ∀ d, s n = some d → d < 1000000) : ∀ n, n ≤ 1000 → mxS s n < 1000000
  | 0, _ => by show 0 < 1000000; omega
  | n + 1, hn => by
    have a := mxS_b h n (by omega)
    show max (mxS s n) ((s n).getD 0) < 1000000
    cases z : s n with
    | none => show max (mxS s n) 0 < 1000000; omega
    | some d => have := h n (by omega) d z; show max (mxS s n) d < 1000000; omega
theorem enS_some {o : Option Nat} (h : ¬ o = none) : enS o = nI (o.getD 0) := by
  cases o with
  | none => exact absurd rfl h
  | some d => rfl
set_option maxRecDepth 100000 in
set_option maxHeartbeats 4000000 in
theorem l_X14_deepest {G : xG} {mc ms : Nat} {Q : Option Value ⊕ Nat → xHp → Prop} {h : xHp} {g : Nat → Int32} {w : Int64} {nw : Value} {ar : Nat → Nat → Int32} {tw : Nat → Int64} {kw : Nat → Int64} {rf : Nat → Option Nat} (M : MH h g w nw ar tw kw rf) {s0 : Nat → Option Nat} (hst : stO (ar 219) s0) (hQ : Q (.inl (some (.int (nI (mxS s0 1000))))) h) : ∀ (m n : Nat), n ≤ 1000 → 1001 ≤ n + m → Wx G mX14_deepest (xRm 12 0 0) (xF G Q mc ms) 0 0 14 [(0, .ref 205), (1, .int (nI (mxS s0 n))), (2, .int (nI n))] [] h := by
  intro m
  induction m with
  | zero => exact fun n h1 h2 => absurd h2 (by omega)
  | succ m ih =>
    intro n hk hk2
    have hbd := mxS_b (fun k hk => (hst k hk).2) n hk
    refine x_iload_n dX14_deepest_14 rfl ?_
    refine x_sipush (v := 1000) dX14_deepest_15 (by decide) ?_
    refine x_icmp_ge 53 dX14_deepest_18 (by decide) (fun c_18 => ?_) (fun c_18 => ?_)
    · rw [show (1000 : Int32) = nI 1000 from rfl, nI_leI (by omega) (by omega)] at c_18
      refine x_iload_n dX14_deepest_53 rfl ?_
      rw [show n = 1000 by omega]
      exact x_iret dX14_deepest_54 rfl rfl (Nat.zero_le _) (Nat.zero_le _) hQ
    · rw [show (1000 : Int32) = nI 1000 from rfl, nI_leI (by omega) (by omega)] at c_18
      have hs9 := hst n (by omega)
      refine x_aload_n dX14_deepest_21 rfl ?_
      refine x_get lf_X14_63 dX14_deepest_22 M.o rfl ?_
      refine x_iload_n dX14_deepest_25 rfl ?_
      refine x_ialdN (j := n) (M.a 219 0 1000 rfl) rfl (by omega) (by decide) dX14_deepest_26 ?_
      refine x_top hs9.1 ?_
      refine x_ldc kc_X14_253 dX14_deepest_27 ?_
      refine x_icmp_ge 45 dX14_deepest_29 (by decide) (fun c_29 => ?_) (fun c_29 => ?_)
      · refine x_iload_n dX14_deepest_45 rfl ?_
        refine x_istore_n [(0, .ref 205), (1, .int (nI (mxS s0 n))), (2, .int (nI n))] dX14_deepest_46 (by decide) rfl rfl ?_
        refine x_iinc (v := nI (n + 1)) [(0, .ref 205), (1, .int (nI (mxS s0 n))), (2, .int (nI (n + 1)))] dX14_deepest_47 rfl (nI_add n 1) (by decide) rfl rfl ?_
        refine x_goto 14 dX14_deepest_50 (by decide) ?_
        have K := ih (n + 1) (by omega) (by omega)
        rw [mxS_no (by rw [(enS_ge hs9.2).mp c_29]; rfl)] at K
        exact K
      · have hno : ¬ s0 n = none := fun z => c_29 ((enS_ge hs9.2).mpr z)
        have hv9 : ar 219 n = nI ((s0 n).getD 0) := hs9.1.trans (enS_some hno)
        have hg9 : (s0 n).getD 0 < 1000000 := by cases z : s0 n with | none => exact absurd z hno | some d => exact hs9.2 d z
        refine x_iload_n dX14_deepest_32 rfl ?_
        refine x_aload_n dX14_deepest_33 rfl ?_
        refine x_get lf_X14_63 dX14_deepest_34 M.o rfl ?_
        refine x_iload_n dX14_deepest_37 rfl ?_
        refine x_ialdN (j := n) (M.a 219 0 1000 rfl) rfl (by omega) (by decide) dX14_deepest_38 ?_
        refine x_top hv9 ?_
        refine x_max ml_X14_205 mx_s in_Math mx_c dX14_deepest_39 (Nat.le_of_ble_eq_true rfl) (Nat.le_of_ble_eq_true rfl) ⟨Nat.le_of_ble_eq_true rfl, Nat.le_of_ble_eq_true rfl⟩ ?_
        refine x_top (y := nI (max (mxS s0 n) ((s0 n).getD 0))) (nI_max (by omega) (by omega)) ?_
        refine x_goto 46 dX14_deepest_42 (by decide) ?_
        refine x_istore_n [(0, .ref 205), (1, .int (nI (max (mxS s0 n) ((s0 n).getD 0)))), (2, .int (nI n))] dX14_deepest_46 (by decide) rfl rfl ?_
        refine x_iinc (v := nI (n + 1)) [(0, .ref 205), (1, .int (nI (max (mxS s0 n) ((s0 n).getD 0)))), (2, .int (nI (n + 1)))] dX14_deepest_47 rfl (nI_add n 1) (by decide) rfl rfl ?_
        refine x_goto 14 dX14_deepest_50 (by decide) ?_
        exact ih (n + 1) (by omega) (by omega)
set_option maxRecDepth 100000 in
set_option maxHeartbeats 4000000 in
theorem k_X14_deepest {G : xG} {h : xHp} {g : Nat → Int32} {w : Int64} {nw : Value} {ar : Nat → Nat → Int32} {tw : Nat → Int64} {kw : Nat → Int64} {rf : Nat → Option Nat} (M : MH h g w nw ar tw kw rf) {S : Nat → Bool} {V : Nat → RV} {rc nt : Nat} {s0 : Nat → Option Nat} (hs : IsSt S V rc (uR (-1)) nt s0) (hV : ∀ r, r < rc → okRl nt (V r)) (hn : nt ≤ 10) (hrc : rc ≤ 20) (h6 : g 6 = nI rc) (hT : rmT h rf rc V) (hcv : ∀ r, r < rc → covR (V r)) (hpw : pwA V rc nt s0) (hK : ∀ r, r < rc → okK (V r)) (hsat : ∃ S9, Sat V rc S9) (h12 : ∀ j, j < 1000 → ar 212 j = bi (S j)) : MX G mX14_deepest 12 0 0 [.ref 205] h (fun o h' => yfr h h' ∧ (∃ g' ar', MH h' g' w nw ar' tw kw rf ∧ (g' 0 = 0 ∧ ∀ k, k ≠ 0 → k ≠ 34 → g' k = g k) ∧ ∀ c, c ≠ 211 → c ≠ 219 → c ≠ 220 → ar' c = ar c) ∧ o = .inl (some (.int (nI (mxS s0 1000))))) := by
  refine MX.of [(0, .ref 205)] (by decide) rfl (Nat.le_of_ble_eq_true rfl) rfl ?_
  refine x_aload_n dX14_deepest_0 rfl ?_
  refine x_iconst (v := 0) dX14_deepest_1 (by decide) ?_
  refine x_put (mL (upd g 0 0) w nw) lf_X14_84 dX14_deepest_2 M.o (Nat.le_of_ble_eq_true rfl) rfl rfl rfl ?_
  refine x_aload_n dX14_deepest_5 rfl ?_
  refine x_iconst (v := (-1)) dX14_deepest_6 (by decide) ?_
  have Y1 : yfr h (xup h 205 (.inr (14, mL (upd g 0 0) w nw))) := ((yfr_rf _).up (by decide))
  refine x_callV (As := [.int (-1)]) (st := []) lv_X14_284 (k_X14_works (M.g9 (upd g 0 0) w nw) hs hV hn hrc ((upd_nq (by decide)).trans h6) (hT.y Y1) hcv hpw hK hsat h12) dX14_deepest_7 (xup_self _ _ _) rfl rfl (Nat.le_of_ble_eq_true rfl) ⟨by decide, by decide⟩ ⟨by decide, by decide⟩ (fun v9 h2 z => ?_) (fun _ _ _ _ _ z => by cases z.1)
  obtain ⟨ev, g2, ar2, M2, Y2, gk2, ak2, hst⟩ := z
  cases ev
  refine x_iconst (v := 0) dX14_deepest_10 (by decide) ?_
  refine x_istore_n [(0, .ref 205), (1, .int 0)] dX14_deepest_11 (by decide) rfl rfl ?_
  refine x_iconst (v := 0) dX14_deepest_12 (by decide) ?_
  refine x_istore_n [(0, .ref 205), (1, .int 0), (2, .int 0)] dX14_deepest_13 (by decide) rfl rfl ?_
  exact l_X14_deepest M2 hst ⟨Y1.tr Y2, ⟨g2, ar2, M2, ⟨(gk2 0 (by decide)).trans rfl, fun k h1 h2 => (gk2 k h2).trans (upd_nq h1)⟩, ak2⟩, rfl⟩ 1001 0 (by omega) (by omega)
