/-! the reference: derived, deepest -/
set_option maxRecDepth 100000 in
set_option maxHeartbeats 4000000 in
theorem l_X14_derived {G : xG} {R : Room} {mc ms : Nat} {Q : Option Value ⊕ Nat → xHp → Prop} {h : xHp} {g : Nat → Int32} {w : Int64} {nw : Value} {ar : Nat → Nat → Int32} {tw : Nat → Int64} {kw : Nat → Int64} {rf : Nat → Option Nat} (M : MH h g w nw ar tw kw rf) {S : Nat → Bool} {s0 : Nat → Option Nat} (hst : stO (ar 219) s0) (h12 : ∀ j, j < 1000 → ar 212 j = bi (S j)) (hQ : Q (.inl (some (.int (nI (fb_ct (fun n => (s0 n).isSome && !S n) 1000))))) h) : ∀ (m n : Nat), n ≤ 1000 → 1001 ≤ n + m → Wx G mX14_derived R (xF G Q mc ms) 0 0 14 [(0, .ref 205), (1, .int (nI (fb_ct (fun n => (s0 n).isSome && !S n) n))), (2, .int (nI n))] [] h := by
  intro m
  induction m with
  | zero => exact fun n h1 h2 => absurd h2 (by omega)
  | succ m ih =>
    intro n hk hk2
    have hbd := fb_ct_le (fun n => (s0 n).isSome && !S n) n
    refine x_iload_n dX14_derived_14 rfl ?_
    refine x_sipush (v := 1000) dX14_derived_15 (by decide) ?_
    refine x_icmp_ge 55 dX14_derived_18 (by decide) (fun c_18 => ?_) (fun c_18 => ?_)
    · rw [show (1000 : Int32) = nI 1000 from rfl, nI_leI (by omega) (by omega)] at c_18
      refine x_iload_n dX14_derived_55 rfl ?_
      rw [show n = 1000 by omega]
      exact x_iret dX14_derived_56 rfl rfl (Nat.zero_le _) (Nat.zero_le _) hQ
    · rw [show (1000 : Int32) = nI 1000 from rfl, nI_leI (by omega) (by omega)] at c_18
      have hs9 := hst n (by omega)
      refine x_iload_n dX14_derived_21 rfl ?_
      refine x_aload_n dX14_derived_22 rfl ?_
      refine x_get lf_X14_63 dX14_derived_23 M.o rfl ?_
      refine x_iload_n dX14_derived_26 rfl ?_
      refine x_ialdN (j := n) (M.a 219 0 1000 rfl) rfl (by omega) (by decide) dX14_derived_27 ?_
      refine x_top (hst n (by omega)).1 ?_
      refine x_ldc kc_X14_253 dX14_derived_28 ?_
      refine x_icmp_ge 46 dX14_derived_30 (by decide) (fun c_30 => ?_) (fun c_30 => ?_)
      · refine x_iconst (v := 0) dX14_derived_46 (by decide) ?_
        refine x_iadd dX14_derived_47 ?_
        refine x_top (y := nI ((fb_ct (fun n => (s0 n).isSome && !S n) n) + 0)) (nI_add (fb_ct (fun n => (s0 n).isSome && !S n) n) 0) ?_
        refine x_istore_n [(0, .ref 205), (1, .int (nI ((fb_ct (fun n => (s0 n).isSome && !S n) n) + 0))), (2, .int (nI n))] dX14_derived_48 (by decide) rfl rfl ?_
        refine x_iinc (v := nI (n + 1)) [(0, .ref 205), (1, .int (nI ((fb_ct (fun n => (s0 n).isSome && !S n) n) + 0))), (2, .int (nI (n + 1)))] dX14_derived_49 rfl (nI_add n 1) (by decide) rfl rfl ?_
        refine x_goto 14 dX14_derived_52 (by decide) ?_
        have e9 : fb_ct (fun n => (s0 n).isSome && !S n) (n + 1) = fb_ct (fun n => (s0 n).isSome && !S n) n + 0 := by show fb_ct (fun n => (s0 n).isSome && !S n) n + (if ((s0 n).isSome && !S n) = true then 1 else 0) = _; congr 1; first | exact if_pos (by rw [c_39]; cases z : s0 n with | none => exact absurd ((enS_ge hs9.2).mpr z) c_30 | some d => rfl) | exact if_neg (by rw [c_39]; simp) | exact if_neg (by rw [(enS_ge hs9.2).mp c_30]; simp)
        have K := ih (n + 1) (by omega) (by omega)
        rw [e9] at K
        exact K
      · refine x_aload_n dX14_derived_33 rfl ?_
        refine x_get lf_X14_33 dX14_derived_34 M.o rfl ?_
        refine x_iload_n dX14_derived_37 rfl ?_
        refine x_zaldN (j := n) (M.a 212 3 1000 rfl) rfl (by omega) (by decide) dX14_derived_38 ?_
        refine x_top (h12 n (by omega)) ?_
        refine x_if_ne 46 dX14_derived_39 (by decide) (fun c_39 => ?_) (fun c_39 => ?_)
        · have c_39 := bi_t c_39
          refine x_iconst (v := 0) dX14_derived_46 (by decide) ?_
          refine x_iadd dX14_derived_47 ?_
          refine x_top (y := nI ((fb_ct (fun n => (s0 n).isSome && !S n) n) + 0)) (nI_add (fb_ct (fun n => (s0 n).isSome && !S n) n) 0) ?_
          refine x_istore_n [(0, .ref 205), (1, .int (nI ((fb_ct (fun n => (s0 n).isSome && !S n) n) + 0))), (2, .int (nI n))] dX14_derived_48 (by decide) rfl rfl ?_
          refine x_iinc (v := nI (n + 1)) [(0, .ref 205), (1, .int (nI ((fb_ct (fun n => (s0 n).isSome && !S n) n) + 0))), (2, .int (nI (n + 1)))] dX14_derived_49 rfl (nI_add n 1) (by decide) rfl rfl ?_
          refine x_goto 14 dX14_derived_52 (by decide) ?_
          have e9 : fb_ct (fun n => (s0 n).isSome && !S n) (n + 1) = fb_ct (fun n => (s0 n).isSome && !S n) n + 0 := by show fb_ct (fun n => (s0 n).isSome && !S n) n + (if ((s0 n).isSome && !S n) = true then 1 else 0) = _; congr 1; first | exact if_pos (by rw [c_39]; cases z : s0 n with | none => exact absurd ((enS_ge hs9.2).mpr z) c_30 | some d => rfl) | exact if_neg (by rw [c_39]; simp) | exact if_neg (by rw [(enS_ge hs9.2).mp c_30]; simp)
          have K := ih (n + 1) (by omega) (by omega)
          rw [e9] at K
          exact K
        · have c_39 := bi_f c_39
          refine x_iconst (v := 1) dX14_derived_42 (by decide) ?_
          refine x_goto 47 dX14_derived_43 (by decide) ?_
          refine x_iadd dX14_derived_47 ?_
          refine x_top (y := nI ((fb_ct (fun n => (s0 n).isSome && !S n) n) + 1)) (nI_add (fb_ct (fun n => (s0 n).isSome && !S n) n) 1) ?_
          refine x_istore_n [(0, .ref 205), (1, .int (nI ((fb_ct (fun n => (s0 n).isSome && !S n) n) + 1))), (2, .int (nI n))] dX14_derived_48 (by decide) rfl rfl ?_
          refine x_iinc (v := nI (n + 1)) [(0, .ref 205), (1, .int (nI ((fb_ct (fun n => (s0 n).isSome && !S n) n) + 1))), (2, .int (nI (n + 1)))] dX14_derived_49 rfl (nI_add n 1) (by decide) rfl rfl ?_
          refine x_goto 14 dX14_derived_52 (by decide) ?_
          have e9 : fb_ct (fun n => (s0 n).isSome && !S n) (n + 1) = fb_ct (fun n => (s0 n).isSome && !S n) n + 1 := by show fb_ct (fun n => (s0 n).isSome && !S n) n + (if ((s0 n).isSome && !S n) = true then 1 else 0) = _; congr 1; first | exact if_pos (by rw [c_39]; cases z : s0 n with | none => exact absurd ((enS_ge hs9.2).mpr z) c_30 | some d => rfl) | exact if_neg (by rw [c_39]; simp) | exact if_neg (by rw [(enS_ge hs9.2).mp c_30]; simp)
          have K := ih (n + 1) (by omega) (by omega)
          rw [e9] at K
          exact K
set_option maxRecDepth 100000 in
set_option maxHeartbeats 4000000 in
theorem k_X14_derived {G : xG} {h : xHp} {g : Nat → Int32} {w : Int64} {nw : Value} {ar : Nat → Nat → Int32} {tw : Nat → Int64} {kw : Nat → Int64} {rf : Nat → Option Nat} (M : MH h g w nw ar tw kw rf) {S : Nat → Bool} {V : Nat → RV} {rc nt : Nat} {s0 : Nat → Option Nat} (hs : IsSt S V rc (uR (-1)) nt s0) (hV : ∀ r, r < rc → okRl nt (V r)) (hn : nt ≤ 10) (hrc : rc ≤ 20) (h6 : g 6 = nI rc) (hT : rmT h rf rc V) (hcv : ∀ r, r < rc → covR (V r)) (hpw : pwA V rc nt s0) (hK : ∀ r, r < rc → okK (V r)) (hsat : ∃ S9, Sat V rc S9) (h12 : ∀ j, j < 1000 → ar 212 j = bi (S j)) : MX G mX14_derived 12 0 0 [.ref 205] h (fun o h' => yfr h h' ∧ (∃ g' ar', MH h' g' w nw ar' tw kw rf ∧ (g' 0 = 0 ∧ ∀ k, k ≠ 0 → k ≠ 34 → g' k = g k) ∧ ∀ c, c ≠ 211 → c ≠ 219 → c ≠ 220 → ar' c = ar c) ∧ o = .inl (some (.int (nI (fb_ct (fun n => (s0 n).isSome && !S n) 1000))))) := by
  refine MX.of [(0, .ref 205)] (by decide) rfl (Nat.le_of_ble_eq_true rfl) rfl ?_
  refine x_aload_n dX14_derived_0 rfl ?_
  refine x_iconst (v := 0) dX14_derived_1 (by decide) ?_
  refine x_put (mL (upd g 0 0) w nw) lf_X14_84 dX14_derived_2 M.o (Nat.le_of_ble_eq_true rfl) rfl rfl rfl ?_
  refine x_aload_n dX14_derived_5 rfl ?_
  refine x_iconst (v := (-1)) dX14_derived_6 (by decide) ?_
  have Y1 : yfr h (xup h 205 (.inr (14, mL (upd g 0 0) w nw))) := ((yfr_rf _).up (by decide))
  refine x_callV (As := [.int (-1)]) (st := []) lv_X14_284 (k_X14_works (M.g9 (upd g 0 0) w nw) hs hV hn hrc ((upd_nq (by decide)).trans h6) (hT.y Y1) hcv hpw hK hsat h12) dX14_derived_7 (xup_self _ _ _) rfl rfl (Nat.le_of_ble_eq_true rfl) ⟨by decide, by decide⟩ ⟨by decide, by decide⟩ (fun v9 h2 z => ?_) (fun _ _ _ _ _ z => by cases z.1)
  obtain ⟨ev, g2, ar2, M2, Y2, gk2, ak2, hst⟩ := z
  cases ev
  refine x_iconst (v := 0) dX14_derived_10 (by decide) ?_
  refine x_istore_n [(0, .ref 205), (1, .int 0)] dX14_derived_11 (by decide) rfl rfl ?_
  refine x_iconst (v := 0) dX14_derived_12 (by decide) ?_
  refine x_istore_n [(0, .ref 205), (1, .int 0), (2, .int 0)] dX14_derived_13 (by decide) rfl rfl ?_
  exact l_X14_derived M2 hst (fun j hj => (congrFun (ak2 212 (by decide) (by decide) (by decide)) j).trans (h12 j hj)) ⟨Y1.tr Y2, ⟨g2, ar2, M2, ⟨(gk2 0 (by decide)).trans rfl, fun k h1 h2 => (gk2 k h2).trans (upd_nq h1)⟩, ak2⟩, rfl⟩ 1001 0 (by omega) (by omega)
