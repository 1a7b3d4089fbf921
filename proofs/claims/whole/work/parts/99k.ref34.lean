/-! the reference: one -/
theorem i_nn {i : Int32} (h : ¬ i < 0) : ∃ j, j < 2 ^ 31 ∧ i = nI j := by
  have h0 : 0 ≤ i.toInt := by
    rw [Int32.lt_iff_toInt_lt] at h
    have e : (0 : Int32).toInt = 0 := rfl
    rw [e] at h
    omega
  have h1 := Int32.toInt_lt i
  refine ⟨i.toInt.toNat, by omega, ?_⟩
  apply Int32.toInt_inj.mp
  have : (nI i.toInt.toNat).toInt = (i.toInt.toNat : Int) := by
    show (Int32.ofNat i.toInt.toNat).toInt = _
    rw [Int32.toInt_ofNat_of_lt (by omega)]
  rw [this]; omega
set_option maxRecDepth 100000 in
set_option maxHeartbeats 4000000 in
theorem k_X14_one {G : xG} {h : xHp} {g : Nat → Int32} {w : Int64} {nw : Value} {ar : Nat → Nat → Int32} {tw : Nat → Int64} {kw : Nat → Int64} {rf : Nat → Option Nat} (M : MH h g w nw ar tw kw rf) {S : Nat → Bool} {V : Nat → RV} {rc nt : Nat} {s0 : Nat → Option Nat} (hs : IsSt S V rc (uR (-1)) nt s0) (hV : ∀ r, r < rc → okRl nt (V r)) (hn : nt ≤ 10) (hrc : rc ≤ 20) (h6 : g 6 = nI rc) (hT : rmT h rf rc V) (hcv : ∀ r, r < rc → covR (V r)) (hpw : pwA V rc nt s0) (hK : ∀ r, r < rc → okK (V r)) (hsat : ∃ S9, Sat V rc S9) (h12 : ∀ j, j < 1000 → ar 212 j = bi (S j)) {nk : Nat} (h5 : g 5 = nI nk) (hnk : nk ≤ 10) {kd i : Int32} : MX G mX14_one 12 0 0 [.ref 205, .int kd, .int i] h (fun o h' => yfr h h' ∧ (∃ g' ar', MH h' g' w nw ar' tw kw rf ∧ (g' 0 = 0 ∧ ∀ k, k ≠ 0 → k ≠ 34 → g' k = g k) ∧ ∀ c, c ≠ 211 → c ≠ 219 → c ≠ 220 → ar' c = ar c) ∧ ∃ r, o = .inl (some (.int r)) ∧ ((∃ k, k < nk ∧ kd = nI k ∧ ∃ j, j < 2 ^ 31 ∧ i = nI j ∧ oneP s0 k j r) ∨ ((inR kd nk = false ∨ i < 0) ∧ r = -1))) := by
  refine MX.of [(0, .ref 205), (1, .int kd), (2, .int i)] (by decide) rfl (Nat.le_of_ble_eq_true rfl) rfl ?_
  refine x_aload_n dX14_one_0 rfl ?_
  refine x_iconst (v := 0) dX14_one_1 (by decide) ?_
  refine x_put (mL (upd g 0 0) w nw) lf_X14_84 dX14_one_2 M.o (Nat.le_of_ble_eq_true rfl) rfl rfl rfl ?_
  refine x_aload_n dX14_one_5 rfl ?_
  refine x_iload_n dX14_one_6 rfl ?_
  refine x_callV (As := [.int kd]) (st := []) lv_X14_232 (k_X14_isKind (M.g9 (upd g 0 0) w nw) ((upd_nq (by decide)).trans h5)) dX14_one_7 (xup_self _ _ _) rfl rfl (Nat.le_of_ble_eq_true rfl) ⟨by decide, by decide⟩ ⟨by decide, by decide⟩ (fun v9 h9 z => ?_) (fun _ _ _ _ _ z => by cases z.1)
  obtain ⟨ev, eh⟩ := z
  rw [eh]
  cases ev
  refine x_if_eq 17 dX14_one_10 (by decide) (fun c_10 => ?_) (fun c_10 => ?_)
  · have c_10 := bi_f c_10
    refine x_iconst (v := (-1)) dX14_one_17 (by decide) ?_
    exact x_iret dX14_one_18 rfl rfl (Nat.le_refl _) (Nat.le_refl _) ⟨((yfr_rf _).up (by decide)), ⟨_, ar, (M.g9 (upd g 0 0) w nw), ⟨rfl, fun k h1 _ => upd_nq h1⟩, fun _ _ _ _ => rfl⟩, _, rfl, Or.inr ⟨by first | exact Or.inl c_10 | exact Or.inl (bi_f c_10) | exact Or.inr (Int32.not_le.mp c_14), rfl⟩⟩
  · have c_10 := bi_t c_10
    refine x_iload_n dX14_one_13 rfl ?_
    refine x_if_ge 19 dX14_one_14 (by decide) (fun c_14 => ?_) (fun c_14 => ?_)
    · refine x_aload_n dX14_one_19 rfl ?_
      refine x_iconst (v := (-1)) dX14_one_20 (by decide) ?_
      have Y1 : yfr h (xup h 205 (.inr (14, mL (upd g 0 0) w nw))) := ((yfr_rf _).up (by decide))
      refine x_callV (As := [.int (-1)]) (st := []) lv_X14_284 (k_X14_works (M.g9 (upd g 0 0) w nw) hs hV hn hrc ((upd_nq (by decide)).trans h6) (hT.y Y1) hcv hpw hK hsat h12) dX14_one_21 (xup_self _ _ _) rfl rfl (Nat.le_of_ble_eq_true rfl) ⟨by decide, by decide⟩ ⟨by decide, by decide⟩ (fun v9 h2 z => ?_) (fun _ _ _ _ _ z => by cases z.1)
      obtain ⟨ev, g2, ar2, M2, Y2, gk2, ak2, hst⟩ := z
      cases ev
      refine x_aload_n dX14_one_24 rfl ?_
      refine x_iload_n dX14_one_25 rfl ?_
      refine x_iload_n dX14_one_26 rfl ?_
      obtain ⟨k, hk, ek⟩ := inR_of (show inR kd nk = true by first | exact c_10 | exact bi_t c_10) (by omega)
      obtain ⟨j, hj, ej⟩ := i_nn (show ¬ i < 0 by first | exact c_14 | exact fun z => absurd c_14 (Int32.not_le.mpr z))
      refine x_callV (As := [.int kd, .int i]) (st := []) lv_X14_288 (by rw [ek, ej]; exact k_X14_oneOf M2 hst (k := k) (j := j) (by omega) hj) dX14_one_27 M2.o rfl rfl (Nat.le_of_ble_eq_true rfl) ⟨by decide, by decide⟩ ⟨by decide, by decide⟩ (fun v9 h9 z => ?_) (fun _ _ _ _ _ z => by obtain ⟨_, z, _⟩ := z; cases z)
      obtain ⟨r9, ev, eh, ho⟩ := z
      rw [eh]
      cases ev
      exact x_iret dX14_one_30 rfl rfl (Nat.le_refl _) (Nat.le_refl _) ⟨Y1.tr Y2, ⟨g2, ar2, M2, ⟨(gk2 0 (by decide)).trans rfl, fun k h1 h2 => (gk2 k h2).trans (upd_nq h1)⟩, ak2⟩, r9, rfl, Or.inl ⟨k, hk, ek, j, hj, ej, ho⟩⟩
    · refine x_iconst (v := (-1)) dX14_one_17 (by decide) ?_
      exact x_iret dX14_one_18 rfl rfl (Nat.le_refl _) (Nat.le_refl _) ⟨((yfr_rf _).up (by decide)), ⟨_, ar, (M.g9 (upd g 0 0) w nw), ⟨rfl, fun k h1 _ => upd_nq h1⟩, fun _ _ _ _ => rfl⟩, _, rfl, Or.inr ⟨by first | exact Or.inl c_10 | exact Or.inl (bi_f c_10) | exact Or.inr (Int32.not_le.mp c_14), rfl⟩⟩
