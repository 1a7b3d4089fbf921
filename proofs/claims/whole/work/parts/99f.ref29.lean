/-! the reference: small askers -/
set_option maxRecDepth 100000 in
set_option maxHeartbeats 4000000 in
theorem k_X14_fault {G : xG} {h : xHp} {g : Nat → Int32} {w : Int64} {nw : Value} {ar : Nat → Nat → Int32} {tw : Nat → Int64} {kw : Nat → Int64} {rf : Nat → Option Nat} (M : MH h g w nw ar tw kw rf) : MX G mX14_fault 1 0 0 [.ref 205] h (fun o h' => o = .inl (some (.int (g 3))) ∧ yfr h h' ∧ MH h' (upd g 0 0) w nw ar tw kw rf) := by
  refine MX.of [(0, .ref 205)] (by decide) rfl (Nat.le_of_ble_eq_true rfl) rfl ?_
  refine x_aload_n dX14_fault_0 rfl ?_
  refine x_iconst (v := 0) dX14_fault_1 (by decide) ?_
  refine x_put (mL (upd g 0 0) w nw) lf_X14_84 dX14_fault_2 M.o (Nat.le_of_ble_eq_true rfl) rfl rfl rfl ?_
  refine x_aload_n dX14_fault_5 rfl ?_
  refine x_get lf_X14_217 dX14_fault_6 (xup_self _ _ _) rfl ?_
  exact x_iret dX14_fault_9 rfl rfl (Nat.le_refl _) (Nat.le_refl _) ⟨rfl, ((yfr_rf _).up (by decide)), (M.g9 (upd g 0 0) w nw)⟩
set_option maxRecDepth 100000 in
set_option maxHeartbeats 4000000 in
theorem k_X14_where {G : xG} {h : xHp} {g : Nat → Int32} {w : Int64} {nw : Value} {ar : Nat → Nat → Int32} {tw : Nat → Int64} {kw : Nat → Int64} {rf : Nat → Option Nat} (M : MH h g w nw ar tw kw rf) : MX G mX14_where 1 0 0 [.ref 205] h (fun o h' => o = .inl (some (.int (g 2))) ∧ yfr h h' ∧ MH h' (upd g 0 0) w nw ar tw kw rf) := by
  refine MX.of [(0, .ref 205)] (by decide) rfl (Nat.le_of_ble_eq_true rfl) rfl ?_
  refine x_aload_n dX14_where_0 rfl ?_
  refine x_iconst (v := 0) dX14_where_1 (by decide) ?_
  refine x_put (mL (upd g 0 0) w nw) lf_X14_84 dX14_where_2 M.o (Nat.le_of_ble_eq_true rfl) rfl rfl rfl ?_
  refine x_aload_n dX14_where_5 rfl ?_
  refine x_get lf_X14_9 dX14_where_6 (xup_self _ _ _) rfl ?_
  exact x_iret dX14_where_9 rfl rfl (Nat.le_refl _) (Nat.le_refl _) ⟨rfl, ((yfr_rf _).up (by decide)), (M.g9 (upd g 0 0) w nw)⟩
set_option maxRecDepth 100000 in
set_option maxHeartbeats 4000000 in
theorem k_X14_trouble {G : xG} {h : xHp} {g : Nat → Int32} {w : Int64} {nw : Value} {ar : Nat → Nat → Int32} {tw : Nat → Int64} {kw : Nat → Int64} {rf : Nat → Option Nat} (M : MH h g w nw ar tw kw rf) : MX G mX14_trouble 1 0 0 [.ref 205] h (fun o h' => o = .inl (some (.int (g 1))) ∧ yfr h h' ∧ MH h' (upd g 0 0) w nw ar tw kw rf) := by
  refine MX.of [(0, .ref 205)] (by decide) rfl (Nat.le_of_ble_eq_true rfl) rfl ?_
  refine x_aload_n dX14_trouble_0 rfl ?_
  refine x_iconst (v := 0) dX14_trouble_1 (by decide) ?_
  refine x_put (mL (upd g 0 0) w nw) lf_X14_84 dX14_trouble_2 M.o (Nat.le_of_ble_eq_true rfl) rfl rfl rfl ?_
  refine x_aload_n dX14_trouble_5 rfl ?_
  refine x_get lf_X14_87 dX14_trouble_6 (xup_self _ _ _) rfl ?_
  exact x_iret dX14_trouble_9 rfl rfl (Nat.le_refl _) (Nat.le_refl _) ⟨rfl, ((yfr_rf _).up (by decide)), (M.g9 (upd g 0 0) w nw)⟩
set_option maxRecDepth 100000 in
set_option maxHeartbeats 4000000 in
theorem k_X14_because {G : xG} {h : xHp} {g : Nat → Int32} {w : Int64} {nw : Value} {ar : Nat → Nat → Int32} {tw : Nat → Int64} {kw : Nat → Int64} {rf : Nat → Option Nat} (M : MH h g w nw ar tw kw rf) {rn : Nat} (hg : g 36 = nI rn) (hr : rn ≤ 4) {i : Int32} : MX G mX14_because 1 0 0 [.ref 205, .int i] h (fun o h' => o = .inl (some (.int (jn rn i (ar 221)))) ∧ yfr h h' ∧ MH h' (upd g 0 0) w nw ar tw kw rf) := by
  refine MX.of [(0, .ref 205), (1, .int i)] (by decide) rfl (Nat.le_of_ble_eq_true rfl) rfl ?_
  refine x_aload_n dX14_because_0 rfl ?_
  refine x_iconst (v := 0) dX14_because_1 (by decide) ?_
  refine x_put (mL (upd g 0 0) w nw) lf_X14_84 dX14_because_2 M.o (Nat.le_of_ble_eq_true rfl) rfl rfl rfl ?_
  refine x_iload_n dX14_because_5 rfl ?_
  refine x_if_lt 26 dX14_because_6 (by decide) (fun c_6 => ?_) (fun c_6 => ?_)
  · refine x_iconst (v := (-1)) dX14_because_26 (by decide) ?_
    refine x_iret dX14_because_27 rfl rfl (Nat.le_refl _) (Nat.le_refl _) ⟨?_, ((yfr_rf _).up (by decide)), (M.g9 (upd g 0 0) w nw)⟩
    first | exact jn_f (by simp [inR, *]) | exact jn_t (by simp [inR, *])
  · refine x_iload_n dX14_because_9 rfl ?_
    refine x_aload_n dX14_because_10 rfl ?_
    refine x_get lf_X14_303 dX14_because_11 (xup_self _ _ _) rfl ?_
    refine x_top (y := nI rn) hg ?_
    refine x_icmp_ge 26 dX14_because_14 (by decide) (fun c_14 => ?_) (fun c_14 => ?_)
    · refine x_iconst (v := (-1)) dX14_because_26 (by decide) ?_
      refine x_iret dX14_because_27 rfl rfl (Nat.le_refl _) (Nat.le_refl _) ⟨?_, ((yfr_rf _).up (by decide)), (M.g9 (upd g 0 0) w nw)⟩
      first | exact jn_f (by simp [inR, *]) | exact jn_t (by simp [inR, *])
    · refine x_aload_n dX14_because_17 rfl ?_
      refine x_get lf_X14_69 dX14_because_18 (xup_self _ _ _) rfl ?_
      refine x_iload_n dX14_because_21 rfl ?_
      refine x_iald ((xup_ne (by omega)).trans (M.a 221 0 4 rfl)) (vin_of c_6 c_14 (by omega)) dX14_because_22 ?_
      refine x_goto 27 dX14_because_23 (by decide) ?_
      refine x_iret dX14_because_27 rfl rfl (Nat.le_refl _) (Nat.le_refl _) ⟨?_, ((yfr_rf _).up (by decide)), (M.g9 (upd g 0 0) w nw)⟩
      first | exact jn_f (by simp [inR, *]) | exact jn_t (by simp [inR, *])
set_option maxRecDepth 100000 in
set_option maxHeartbeats 4000000 in
theorem k_X14_gone {G : xG} {h : xHp} {g : Nat → Int32} {w : Int64} {nw : Value} {ar : Nat → Nat → Int32} {tw : Nat → Int64} {kw : Nat → Int64} {rf : Nat → Option Nat} (M : MH h g w nw ar tw kw rf) {cn : Nat} (hg : g 42 = nI cn) (hr : cn ≤ 3) {i : Int32} : MX G mX14_gone 1 0 0 [.ref 205, .int i] h (fun o h' => o = .inl (some (.int (jn cn i (ar 224)))) ∧ yfr h h' ∧ MH h' (upd g 0 0) w nw ar tw kw rf) := by
  refine MX.of [(0, .ref 205), (1, .int i)] (by decide) rfl (Nat.le_of_ble_eq_true rfl) rfl ?_
  refine x_aload_n dX14_gone_0 rfl ?_
  refine x_iconst (v := 0) dX14_gone_1 (by decide) ?_
  refine x_put (mL (upd g 0 0) w nw) lf_X14_84 dX14_gone_2 M.o (Nat.le_of_ble_eq_true rfl) rfl rfl rfl ?_
  refine x_iload_n dX14_gone_5 rfl ?_
  refine x_if_lt 26 dX14_gone_6 (by decide) (fun c_6 => ?_) (fun c_6 => ?_)
  · refine x_iconst (v := (-1)) dX14_gone_26 (by decide) ?_
    refine x_iret dX14_gone_27 rfl rfl (Nat.le_refl _) (Nat.le_refl _) ⟨?_, ((yfr_rf _).up (by decide)), (M.g9 (upd g 0 0) w nw)⟩
    first | exact jn_f (by simp [inR, *]) | exact jn_t (by simp [inR, *])
  · refine x_iload_n dX14_gone_9 rfl ?_
    refine x_aload_n dX14_gone_10 rfl ?_
    refine x_get lf_X14_322 dX14_gone_11 (xup_self _ _ _) rfl ?_
    refine x_top (y := nI cn) hg ?_
    refine x_icmp_ge 26 dX14_gone_14 (by decide) (fun c_14 => ?_) (fun c_14 => ?_)
    · refine x_iconst (v := (-1)) dX14_gone_26 (by decide) ?_
      refine x_iret dX14_gone_27 rfl rfl (Nat.le_refl _) (Nat.le_refl _) ⟨?_, ((yfr_rf _).up (by decide)), (M.g9 (upd g 0 0) w nw)⟩
      first | exact jn_f (by simp [inR, *]) | exact jn_t (by simp [inR, *])
    · refine x_aload_n dX14_gone_17 rfl ?_
      refine x_get lf_X14_78 dX14_gone_18 (xup_self _ _ _) rfl ?_
      refine x_iload_n dX14_gone_21 rfl ?_
      refine x_iald ((xup_ne (by omega)).trans (M.a 224 0 3 rfl)) (vin_of c_6 c_14 (by omega)) dX14_gone_22 ?_
      refine x_goto 27 dX14_gone_23 (by decide) ?_
      refine x_iret dX14_gone_27 rfl rfl (Nat.le_refl _) (Nat.le_refl _) ⟨?_, ((yfr_rf _).up (by decide)), (M.g9 (upd g 0 0) w nw)⟩
      first | exact jn_f (by simp [inR, *]) | exact jn_t (by simp [inR, *])
set_option maxRecDepth 100000 in
set_option maxHeartbeats 4000000 in
theorem k_X14_places {G : xG} {h : xHp} {g : Nat → Int32} {w : Int64} {nw : Value} {ar : Nat → Nat → Int32} {tw : Nat → Int64} {kw : Nat → Int64} {rf : Nat → Option Nat} (M : MH h g w nw ar tw kw rf) {nk : Nat} (hg : g 5 = nI nk) (hnk : nk ≤ 10) {k : Int32} : MX G mX14_places 2 0 0 [.ref 205, .int k] h (fun o h' => o = .inl (some (.int (jn nk k (ar 210)))) ∧ yfr h h' ∧ MH h' (upd g 0 0) w nw ar tw kw rf) := by
  refine MX.of [(0, .ref 205), (1, .int k)] (by decide) rfl (Nat.le_of_ble_eq_true rfl) rfl ?_
  refine x_aload_n dX14_places_0 rfl ?_
  refine x_iconst (v := 0) dX14_places_1 (by decide) ?_
  refine x_put (mL (upd g 0 0) w nw) lf_X14_84 dX14_places_2 M.o (Nat.le_of_ble_eq_true rfl) rfl rfl rfl ?_
  refine x_aload_n dX14_places_5 rfl ?_
  refine x_iload_n dX14_places_6 rfl ?_
  refine x_callV (As := [.int k]) (st := []) lv_X14_232 (k_X14_isKind (M.g9 (upd g 0 0) w nw) hg) dX14_places_7 (xup_self _ _ _) rfl rfl (Nat.le_of_ble_eq_true rfl) ⟨by decide, by decide⟩ ⟨by decide, by decide⟩ (fun v9 h9 z => ?_) (fun _ _ _ _ _ z => by cases z.1)
  obtain ⟨ev, eh⟩ := z
  rw [eh]
  cases ev
  refine x_if_eq 22 dX14_places_10 (by decide) (fun c_10 => ?_) (fun c_10 => ?_)
  · have c_10 := bi_f c_10
    refine x_iconst (v := (-1)) dX14_places_22 (by decide) ?_
    refine x_iret dX14_places_23 rfl rfl (Nat.le_refl _) (Nat.le_refl _) ⟨?_, ((yfr_rf _).up (by decide)), (M.g9 (upd g 0 0) w nw)⟩
    first | exact jn_f (by first | exact c_10 | exact bi_f c_10) | exact jn_t (by first | exact c_10 | exact bi_t c_10)
  · have c_10 := bi_t c_10
    refine x_aload_n dX14_places_13 rfl ?_
    refine x_get lf_X14_27 dX14_places_14 (xup_self _ _ _) rfl ?_
    refine x_iload_n dX14_places_17 rfl ?_
    refine x_iald ((xup_ne (by omega)).trans (M.a 210 0 10 rfl)) (vin_t (by first | exact c_10 | exact bi_t c_10) (by omega)) dX14_places_18 ?_
    refine x_goto 23 dX14_places_19 (by decide) ?_
    refine x_iret dX14_places_23 rfl rfl (Nat.le_refl _) (Nat.le_refl _) ⟨?_, ((yfr_rf _).up (by decide)), (M.g9 (upd g 0 0) w nw)⟩
    first | exact jn_f (by first | exact c_10 | exact bi_f c_10) | exact jn_t (by first | exact c_10 | exact bi_t c_10)
