/-! the reference: rule -/
set_option maxRecDepth 100000 in
set_option maxHeartbeats 4000000 in
theorem k_X14_rule {G : xG} {h : xHp} {g : Nat → Int32} {w : Int64} {nw : Value} {ar : Nat → Nat → Int32} {tw : Nat → Int64} {kw : Nat → Int64} {rf : Nat → Option Nat} (M : MH h g w nw ar tw kw rf) {S : Nat → Bool} {V : Nat → RV} {rc nt : Nat} {s0 : Nat → Option Nat} (hs : IsSt S V rc (uR (-1)) nt s0) (hV : ∀ r, r < rc → okRl nt (V r)) (hn : nt ≤ 10) (hrc : rc ≤ 20) (h6 : g 6 = nI rc) (hT : rmT h rf rc V) (hcv : ∀ r, r < rc → covR (V r)) (hpw : pwA V rc nt s0) (hK : ∀ r, r < rc → okK (V r)) (hsat : ∃ S9, Sat V rc S9) (h12 : ∀ j, j < 1000 → ar 212 j = bi (S j)) (h4 : g 4 = nI nt) (hsR : ∀ r, r < rc → sgR (V r)) (hcS : ∀ r, r < rc → cvS (V r)) {s3 : Nat → Nat → Option Nat} (hs3 : ∀ ρ, ρ < rc → IsSt S V rc (uR (nI ρ)) nt (s3 ρ) ∧ pwA V rc nt (s3 ρ)) {k w9 : Int32} : MX G mX14_rule 13 0 0 [.ref 205, .int k, .int w9] h (fun o h' => ∃ r, o = .inl (some (.int r)) ∧ yfr h h' ∧ (∃ g' ar', MH h' g' w nw ar' tw kw rf ∧ (g' 0 = 0 ∧ ∀ k, k ≠ 0 → k ≠ 34 → g' k = g k) ∧ ∀ c, c ≠ 211 → c ≠ 219 → c ≠ 220 → c ≠ 222 → ar' c = ar c) ∧ ((∃ ρ, ρ < rc ∧ k = nI ρ ∧ rlW V nt s0 s3 ρ w9 r) ∨ (inR k rc = false ∧ r = -1))) := by
  refine MX.of [(0, .ref 205), (1, .int k), (2, .int w9)] (by decide) rfl (Nat.le_of_ble_eq_true rfl) rfl ?_
  refine x_aload_n dX14_rule_0 rfl ?_
  refine x_iconst (v := 0) dX14_rule_1 (by decide) ?_
  refine x_put (mL (upd g 0 0) w nw) lf_X14_84 dX14_rule_2 M.o (Nat.le_of_ble_eq_true rfl) rfl rfl rfl ?_
  refine x_aload_n dX14_rule_5 rfl ?_
  refine x_iload_n dX14_rule_6 rfl ?_
  refine x_callV (As := [.int k]) (st := []) lv_X14_244 (k_X14_isRule (M.g9 (upd g 0 0) w nw) ((upd_nq (by decide)).trans h6)) dX14_rule_7 (xup_self _ _ _) rfl rfl (Nat.le_of_ble_eq_true rfl) ⟨by decide, by decide⟩ ⟨by decide, by decide⟩ (fun v9 h9 z => ?_) (fun _ _ _ _ _ z => by cases z.1)
  obtain ⟨ev, eh⟩ := z
  rw [eh]
  cases ev
  refine x_if_ne 15 dX14_rule_10 (by decide) (fun c_10 => ?_) (fun c_10 => ?_)
  · have c_10 := bi_t c_10
    obtain ⟨ρ, hρ, ek⟩ := inR_of (show inR k rc = true by assumption) (by omega)
    obtain ⟨a, hra, ha, ha2, rv⟩ := hT ρ hρ
    have hv := hV ρ hρ
    have hsg := hsR ρ hρ
    have hc := hcS ρ hρ
    obtain ⟨so, kd, on, tz, lt, rc9, rI⟩ := id rv
    have z1 : kd 0 = (V ρ).1 1 := (rI 0 (Nat.zero_le _)).2.1
    refine x_iload_n dX14_rule_15 rfl ?_
    rcases sw5 w9 with rfl | rfl | rfl | rfl | rfl | e9
    · refine x_tswIn (off := 36) 52 dX14_rule_16 (by decide) (by decide) (by decide) (by decide) ?_
      refine x_aload_n dX14_rule_52 rfl ?_
      refine x_get lf_X14_42 dX14_rule_53 (xup_self _ _ _) rfl ?_
      refine x_iload_n dX14_rule_56 rfl ?_
      refine x_top (y := nI ρ) ek ?_
      refine x_aaldN (b := a) (j := ρ) ((xup_ne (by omega)).trans M.r) rfl rfl (by omega) (by decide) hra dX14_rule_57 ?_
      refine x_get lf_X14_171 dX14_rule_58 ((xup_ne (by omega)).trans rc9.1) rfl ?_
      refine x_iconst (v := 0) dX14_rule_61 (by decide) ?_
      refine x_ialdN (j := 0) ((xup_ne (by omega)).trans rc9.2.2.1) rfl (by omega) (by decide) dX14_rule_62 ?_
      refine x_top z1 ?_
      exact x_iret dX14_rule_63 rfl rfl (Nat.le_refl _) (Nat.le_refl _) ⟨_, rfl, ((yfr_rf _).up (by decide)), ⟨_, ar, (M.g9 (upd g 0 0) w nw), ⟨rfl, fun k h1 _ => upd_nq h1⟩, fun _ _ _ _ _ => rfl⟩, Or.inl ⟨ρ, hρ, ek, Or.inl ⟨rfl, rfl⟩⟩⟩
    · refine x_tswIn (off := 48) 64 dX14_rule_16 (by decide) (by decide) (by decide) (by decide) ?_
      refine x_aload_n dX14_rule_64 rfl ?_
      refine x_get lf_X14_42 dX14_rule_65 (xup_self _ _ _) rfl ?_
      refine x_iload_n dX14_rule_68 rfl ?_
      refine x_top (y := nI ρ) ek ?_
      refine x_aaldN (b := a) (j := ρ) ((xup_ne (by omega)).trans M.r) rfl rfl (by omega) (by decide) hra dX14_rule_69 ?_
      refine x_get lf_X14_199 dX14_rule_70 ((xup_ne (by omega)).trans rc9.1) rfl ?_
      exact x_iret dX14_rule_73 rfl rfl (Nat.le_refl _) (Nat.le_refl _) ⟨_, rfl, ((yfr_rf _).up (by decide)), ⟨_, ar, (M.g9 (upd g 0 0) w nw), ⟨rfl, fun k h1 _ => upd_nq h1⟩, fun _ _ _ _ _ => rfl⟩, Or.inl ⟨ρ, hρ, ek, Or.inr (Or.inl ⟨rfl, rfl⟩)⟩⟩
    · refine x_tswIn (off := 58) 74 dX14_rule_16 (by decide) (by decide) (by decide) (by decide) ?_
      refine x_aload_n dX14_rule_74 rfl ?_
      refine x_get lf_X14_42 dX14_rule_75 (xup_self _ _ _) rfl ?_
      refine x_iload_n dX14_rule_78 rfl ?_
      refine x_top (y := nI ρ) ek ?_
      refine x_aaldN (b := a) (j := ρ) ((xup_ne (by omega)).trans M.r) rfl rfl (by omega) (by decide) hra dX14_rule_79 ?_
      refine x_get lf_X14_153 dX14_rule_80 ((xup_ne (by omega)).trans rc9.1) rfl ?_
      exact x_iret dX14_rule_83 rfl rfl (Nat.le_refl _) (Nat.le_refl _) ⟨_, rfl, ((yfr_rf _).up (by decide)), ⟨_, ar, (M.g9 (upd g 0 0) w nw), ⟨rfl, fun k h1 _ => upd_nq h1⟩, fun _ _ _ _ _ => rfl⟩, Or.inl ⟨ρ, hρ, ek, Or.inr (Or.inr (Or.inl ⟨rfl, rfl⟩))⟩⟩
    · refine x_tswIn (off := 68) 84 dX14_rule_16 (by decide) (by decide) (by decide) (by decide) ?_
      refine x_aload_n dX14_rule_84 rfl ?_
      refine x_aload_n dX14_rule_85 rfl ?_
      refine x_get lf_X14_42 dX14_rule_86 (xup_self _ _ _) rfl ?_
      refine x_iload_n dX14_rule_89 rfl ?_
      refine x_top (y := nI ρ) ek ?_
      refine x_aaldN (b := a) (j := ρ) ((xup_ne (by omega)).trans M.r) rfl rfl (by omega) (by decide) hra dX14_rule_90 ?_
      have Y1 : yfr h (xup h 205 (.inr (14, mL (upd g 0 0) w nw))) := ((yfr_rf _).up (by decide))
      refine x_callV (As := [.ref a]) (st := []) lv_X14_309 (k_X14_isIdle (M.g9 (upd g 0 0) w nw) hs hV hn hrc ((upd_nq (by decide)).trans h6) (hT.y Y1) hcv hpw hK hsat h12 ((upd_nq (by decide)).trans h4) ha (rv.yf Y1 ha) hv hsg hc) dX14_rule_91 (xup_self _ _ _) rfl rfl (Nat.le_of_ble_eq_true rfl) ⟨by decide, by decide⟩ ⟨by decide, by decide⟩ (fun v9 h2 z => ?_) (fun _ _ _ _ _ z => by obtain ⟨_, z, _⟩ := z; cases z)
      obtain ⟨b9, ev, Y2, ⟨g2, ar2, M2, gk2, ak2⟩, hb9⟩ := z
      cases ev
      refine x_if_eq 101 dX14_rule_94 (by decide) (fun c_94 => ?_) (fun c_94 => ?_)
      · have c_94 := bi_f c_94
        refine x_iconst (v := 0) dX14_rule_101 (by decide) ?_
        exact x_iret dX14_rule_102 rfl rfl (Nat.le_refl _) (Nat.le_refl _) ⟨_, rfl, Y1.tr Y2, ⟨g2, ar2, M2, ⟨(gk2 0 (by decide)).trans rfl, fun k h1 h2 => (gk2 k h2).trans (upd_nq h1)⟩, fun c a1 a2 a3 _ => ak2 c a1 a2 a3⟩, Or.inl ⟨ρ, hρ, ek, Or.inr (Or.inr (Or.inr (Or.inl ⟨rfl, b9, by rw [c_94]; rfl, hb9⟩)))⟩⟩
      · have c_94 := bi_t c_94
        refine x_iconst (v := 1) dX14_rule_97 (by decide) ?_
        refine x_goto 102 dX14_rule_98 (by decide) ?_
        exact x_iret dX14_rule_102 rfl rfl (Nat.le_refl _) (Nat.le_refl _) ⟨_, rfl, Y1.tr Y2, ⟨g2, ar2, M2, ⟨(gk2 0 (by decide)).trans rfl, fun k h1 h2 => (gk2 k h2).trans (upd_nq h1)⟩, fun c a1 a2 a3 _ => ak2 c a1 a2 a3⟩, Or.inl ⟨ρ, hρ, ek, Or.inr (Or.inr (Or.inr (Or.inl ⟨rfl, b9, by rw [c_94]; rfl, hb9⟩)))⟩⟩
    · refine x_tswIn (off := 87) 103 dX14_rule_16 (by decide) (by decide) (by decide) (by decide) ?_
      refine x_aload_n dX14_rule_103 rfl ?_
      refine x_iload_n dX14_rule_104 rfl ?_
      refine x_top (y := nI ρ) ek ?_
      have Y1 : yfr h (xup h 205 (.inr (14, mL (upd g 0 0) w nw))) := ((yfr_rf _).up (by decide))
      refine x_callV (As := [.int (nI ρ)]) (st := []) lv_X14_312 (k_X14_isSpare (M.g9 (upd g 0 0) w nw) hs hV hn hrc ((upd_nq (by decide)).trans h6) (hT.y Y1) hcv hpw hK hsat h12 (hs3 ρ hρ).1 (hs3 ρ hρ).2) dX14_rule_105 (xup_self _ _ _) rfl rfl (Nat.le_of_ble_eq_true rfl) ⟨by decide, by decide⟩ ⟨by decide, by decide⟩ (fun v9 h2 z => ?_) (fun _ _ _ _ _ z => by obtain ⟨_, z, _⟩ := z; cases z)
      obtain ⟨b9, ev, Y2, ⟨g2, ar2, M2, gk2, ak2⟩, hb9⟩ := z
      cases ev
      refine x_if_eq 115 dX14_rule_108 (by decide) (fun c_108 => ?_) (fun c_108 => ?_)
      · have c_108 := bi_f c_108
        refine x_iconst (v := 0) dX14_rule_115 (by decide) ?_
        exact x_iret dX14_rule_116 rfl rfl (Nat.le_refl _) (Nat.le_refl _) ⟨_, rfl, Y1.tr Y2, ⟨g2, ar2, M2, ⟨(gk2 0 (by decide)).trans rfl, fun k h1 h2 => (gk2 k h2).trans (upd_nq h1)⟩, ak2⟩, Or.inl ⟨ρ, hρ, ek, Or.inr (Or.inr (Or.inr (Or.inr (Or.inl ⟨rfl, b9, by rw [c_108]; rfl, hb9⟩))))⟩⟩
      · have c_108 := bi_t c_108
        refine x_iconst (v := 1) dX14_rule_111 (by decide) ?_
        refine x_goto 116 dX14_rule_112 (by decide) ?_
        exact x_iret dX14_rule_116 rfl rfl (Nat.le_refl _) (Nat.le_refl _) ⟨_, rfl, Y1.tr Y2, ⟨g2, ar2, M2, ⟨(gk2 0 (by decide)).trans rfl, fun k h1 h2 => (gk2 k h2).trans (upd_nq h1)⟩, ak2⟩, Or.inl ⟨ρ, hρ, ek, Or.inr (Or.inr (Or.inr (Or.inr (Or.inl ⟨rfl, b9, by rw [c_108]; rfl, hb9⟩))))⟩⟩
    · refine x_tswOut 117 dX14_rule_16 e9 (by decide) ?_
      refine x_iconst (v := (-1)) dX14_rule_117 (by decide) ?_
      exact x_iret dX14_rule_118 rfl rfl (Nat.le_refl _) (Nat.le_refl _) ⟨_, rfl, ((yfr_rf _).up (by decide)), ⟨_, ar, (M.g9 (upd g 0 0) w nw), ⟨rfl, fun k h1 _ => upd_nq h1⟩, fun _ _ _ _ _ => rfl⟩, Or.inl ⟨ρ, hρ, ek, Or.inr (Or.inr (Or.inr (Or.inr (Or.inr ⟨e9, rfl⟩))))⟩⟩
  · have c_10 := bi_f c_10
    refine x_iconst (v := (-1)) dX14_rule_13 (by decide) ?_
    exact x_iret dX14_rule_14 rfl rfl (Nat.le_refl _) (Nat.le_refl _) ⟨_, rfl, ((yfr_rf _).up (by decide)), ⟨_, ar, (M.g9 (upd g 0 0) w nw), ⟨rfl, fun k h1 _ => upd_nq h1⟩, fun _ _ _ _ _ => rfl⟩, Or.inr ⟨c_10, rfl⟩⟩
