/-! the reference: layer -/
set_option maxRecDepth 100000 in
set_option maxHeartbeats 4000000 in
theorem k_X14_layer {G : xG} {h : xHp} {g : Nat → Int32} {w : Int64} {nw : Value} {ar : Nat → Nat → Int32} {tw : Nat → Int64} {kw : Nat → Int64} {rf : Nat → Option Nat} (M : MH h g w nw ar tw kw rf) {V : Nat → RV} {rc nk : Nat} (hrc : rc ≤ 20) (h6 : g 6 = nI rc) (h5 : g 5 = nI nk) (hnk : nk ≤ 10) (hT : rmT h rf rc V) (hK : ∀ r, r < rc → okK (V r)) (hsat : ∃ S9, Sat V rc S9) {k : Int32} : MX G mX14_layer 2 0 0 [.ref 205, .int k] h (fun o h' => (inR k nk = false ∧ o = .inl (some (.int (-1))) ∧ yfr h h' ∧ MH h' (upd g 0 0) w nw ar tw kw rf) ∨ (∃ lf' L j, j < nk ∧ k = nI j ∧ lyOk V rc lf' L ∧ o = .inl (some (.int (nI (L j)))) ∧ yfr h h' ∧ MH h' (upd g 0 0) w nw (apF ar 211 lf') tw kw rf)) := by
  refine MX.of [(0, .ref 205), (1, .int k)] (by decide) rfl (Nat.le_of_ble_eq_true rfl) rfl ?_
  refine x_aload_n dX14_layer_0 rfl ?_
  refine x_iconst (v := 0) dX14_layer_1 (by decide) ?_
  refine x_put (mL (upd g 0 0) w nw) lf_X14_84 dX14_layer_2 M.o (Nat.le_of_ble_eq_true rfl) rfl rfl rfl ?_
  refine x_aload_n dX14_layer_5 rfl ?_
  refine x_iload_n dX14_layer_6 rfl ?_
  refine x_callV (As := [.int k]) (st := []) lv_X14_232 (k_X14_isKind (M.g9 (upd g 0 0) w nw) ((upd_nq (by decide)).trans h5)) dX14_layer_7 (xup_self _ _ _) rfl rfl (Nat.le_of_ble_eq_true rfl) ⟨by decide, by decide⟩ ⟨by decide, by decide⟩ (fun v9 h9 z => ?_) (fun _ _ _ _ _ z => by cases z.1)
  obtain ⟨ev, eh⟩ := z
  rw [eh]
  cases ev
  refine x_if_ne 15 dX14_layer_10 (by decide) (fun c_10 => ?_) (fun c_10 => ?_)
  · have c_10 := bi_t c_10
    refine x_aload_n dX14_layer_15 rfl ?_
    refine x_aload_n dX14_layer_16 rfl ?_
    refine x_get lf_X14_93 dX14_layer_17 (xup_self _ _ _) rfl ?_
    refine x_top (y := nI rc) h6 ?_
    have Y1 : yfr h (xup h 205 (.inr (14, mL (upd g 0 0) w nw))) := ((yfr_rf _).up (by decide))
    have M1 := (M.g9 (upd g 0 0) w nw)
    refine x_callV (As := [.int (nI rc)]) (st := []) lv_X14_226 (k_X14_layers M1 hrc hK (hT.y Y1)) dX14_layer_20 (xup_self _ _ _) rfl rfl (Nat.le_of_ble_eq_true rfl) ⟨by decide, by decide⟩ ⟨by decide, by decide⟩ (fun v9 h9 z => ?_) (fun _ _ _ _ _ z => by obtain ⟨_, _, z, _⟩ := z; cases z)
    obtain ⟨b9, lf9, ev, eh, hb1, hb0⟩ := z
    cases ev
    have hbt : b9 = true := by cases b9 with | true => rfl | false => exact absurd hsat (hb0 rfl)
    obtain ⟨L, hl⟩ := hb1 hbt
    have M2 : MH h9 (upd g 0 0) w nw (apF ar 211 lf9) tw kw rf := by rw [eh]; exact M1.a9 (c := 211) rfl _
    have Y2 : yfr h h9 := by rw [eh]; exact Y1.tr ((yfr_rf _).up (by decide))
    generalize h9 = h2 at M2 Y2 ⊢
    obtain ⟨j, hj, ek⟩ := inR_of (show inR k nk = true by first | exact c_10 | exact bi_t c_10) (by omega)
    refine x_istore_n [(0, .ref 205), (1, .int k), (2, .int (bi b9))] dX14_layer_23 (by decide) rfl rfl ?_
    refine x_aload_n dX14_layer_24 rfl ?_
    refine x_get lf_X14_30 dX14_layer_25 M2.o rfl ?_
    refine x_iload_n dX14_layer_28 rfl ?_
    refine x_top (y := nI j) ek ?_
    refine x_ialdN (j := j) (M2.a 211 0 10 rfl) rfl (by omega) (by decide) dX14_layer_29 ?_
    refine x_top ((congrFun (apF_at _ _ _) j).trans (hl.1 j (by omega))) ?_
    exact x_iret dX14_layer_30 rfl rfl (Nat.le_refl _) (Nat.le_refl _) (Or.inr ⟨lf9, L, j, hj, ek, hl, rfl, Y2, M2⟩)
  · have c_10 := bi_f c_10
    refine x_iconst (v := (-1)) dX14_layer_13 (by decide) ?_
    exact x_iret dX14_layer_14 rfl rfl (Nat.le_refl _) (Nat.le_refl _) (Or.inl ⟨by first | exact c_10 | exact bi_f c_10, rfl, ((yfr_rf _).up (by decide)), (M.g9 (upd g 0 0) w nw)⟩)
