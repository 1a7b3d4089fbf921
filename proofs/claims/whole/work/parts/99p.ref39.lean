/-! the reference: term -/
set_option maxRecDepth 100000 in
set_option maxHeartbeats 4000000 in
theorem k_X14_term {G : xG} {h : xHp} {g : Nat → Int32} {w : Int64} {nw : Value} {ar : Nat → Nat → Int32} {tw : Nat → Int64} {kw : Nat → Int64} {rf : Nat → Option Nat} (M : MH h g w nw ar tw kw rf) {V : Nat → RV} {rc : Nat} (hrc : rc ≤ 20) (h6 : g 6 = nI rc) (hT : rmT h rf rc V) (hz : ∀ r, r < rc → (V r).2.2.1 ≤ 4) {k i w9 : Int32} : MX G mX14_term 2 0 0 [.ref 205, .int k, .int i, .int w9] h (fun o h' => ∃ r, o = .inl (some (.int r)) ∧ yfr h h' ∧ MH h' (upd g 0 0) w nw ar tw kw rf ∧ ((∃ ρ j, tmS V rc k i ρ j ∧ r = tmW ((V ρ).2.1 j) w9) ∨ ((¬ ∃ ρ j, tmS V rc k i ρ j) ∧ r = -1))) := by
  refine MX.of [(0, .ref 205), (1, .int k), (2, .int i), (3, .int w9)] (by decide) rfl (Nat.le_of_ble_eq_true rfl) rfl ?_
  refine x_aload_n dX14_term_0 rfl ?_
  refine x_iconst (v := 0) dX14_term_1 (by decide) ?_
  refine x_put (mL (upd g 0 0) w nw) lf_X14_84 dX14_term_2 M.o (Nat.le_of_ble_eq_true rfl) rfl rfl rfl ?_
  refine x_aload_n dX14_term_5 rfl ?_
  refine x_iload_n dX14_term_6 rfl ?_
  refine x_callV (As := [.int k]) (st := []) lv_X14_244 (k_X14_isRule (M.g9 (upd g 0 0) w nw) ((upd_nq (by decide)).trans h6)) dX14_term_7 (xup_self _ _ _) rfl rfl (Nat.le_of_ble_eq_true rfl) ⟨by decide, by decide⟩ ⟨by decide, by decide⟩ (fun v9 h9 z => ?_) (fun _ _ _ _ _ z => by cases z.1)
  obtain ⟨ev, eh⟩ := z
  rw [eh]
  cases ev
  refine x_if_eq 30 dX14_term_10 (by decide) (fun c_10 => ?_) (fun c_10 => ?_)
  · have c_10 := bi_f c_10
    refine x_iconst (v := (-1)) dX14_term_30 (by decide) ?_
    refine x_iret dX14_term_31 rfl rfl (Nat.le_refl _) (Nat.le_refl _) ⟨_, rfl, ((yfr_rf _).up (by decide)), (M.g9 (upd g 0 0) w nw), Or.inr ⟨?_, rfl⟩⟩
    rintro ⟨r9, j9, q1, q2, q3, q4⟩
    have q5 := hz r9 q1
    first | exact inR_f (by first | assumption | exact bi_f c_10) (by omega) r9 q1 q2 | (rw [q4] at c_14; exact nI_pos (by omega) c_14) | (have e9 : ρ = r9 := (nI_eq (by omega) (by omega)).mp (ek.symm.trans q2); subst e9; exact c_27 (by rw [q4, nI_ltI (by omega) (by omega)]; exact q3))
  · have c_10 := bi_t c_10
    refine x_iload_n dX14_term_13 rfl ?_
    refine x_if_lt 30 dX14_term_14 (by decide) (fun c_14 => ?_) (fun c_14 => ?_)
    · refine x_iconst (v := (-1)) dX14_term_30 (by decide) ?_
      refine x_iret dX14_term_31 rfl rfl (Nat.le_refl _) (Nat.le_refl _) ⟨_, rfl, ((yfr_rf _).up (by decide)), (M.g9 (upd g 0 0) w nw), Or.inr ⟨?_, rfl⟩⟩
      rintro ⟨r9, j9, q1, q2, q3, q4⟩
      have q5 := hz r9 q1
      first | exact inR_f (by first | assumption | exact bi_f c_10) (by omega) r9 q1 q2 | (rw [q4] at c_14; exact nI_pos (by omega) c_14) | (have e9 : ρ = r9 := (nI_eq (by omega) (by omega)).mp (ek.symm.trans q2); subst e9; exact c_27 (by rw [q4, nI_ltI (by omega) (by omega)]; exact q3))
    · obtain ⟨ρ, hρ, ek⟩ := inR_of (show inR k rc = true by first | assumption | exact bi_t c_10) (by omega)
      obtain ⟨a, hra, ha1, ha2, rv1⟩ := hT ρ hρ
      obtain ⟨so, kd, on, tz, lt, rc9, rI⟩ := id rv1
      have hz4 := hz ρ hρ
      refine x_iload_n dX14_term_17 rfl ?_
      refine x_aload_n dX14_term_18 rfl ?_
      refine x_get lf_X14_42 dX14_term_19 (xup_self _ _ _) rfl ?_
      refine x_iload_n dX14_term_22 rfl ?_
      refine x_top (y := nI ρ) ek ?_
      refine x_aaldN (b := a) (j := ρ) ((xup_ne (by omega)).trans M.r) rfl rfl (by omega) (by decide) hra dX14_term_23 ?_
      refine x_get lf_X14_199 dX14_term_24 ((xup_ne (by omega)).trans rc9.1) rfl ?_
      refine x_icmp_lt 32 dX14_term_27 (by decide) (fun c_27 => ?_) (fun c_27 => ?_)
      · obtain ⟨j, hj, ei⟩ := inR_of (k := i) (n := (V ρ).2.2.1) (by simp only [inR, Bool.and_eq_true, decide_eq_true_eq]; exact ⟨c_14, fun z => absurd c_27 (Int32.not_lt.mpr z)⟩) (by omega)
        have r9 := rmI_t rI hj
        refine x_aload_n dX14_term_32 rfl ?_
        refine x_get lf_X14_42 dX14_term_33 (xup_self _ _ _) rfl ?_
        refine x_iload_n dX14_term_36 rfl ?_
        refine x_top (y := nI ρ) ek ?_
        refine x_aaldN (b := a) (j := ρ) ((xup_ne (by omega)).trans M.r) rfl rfl (by omega) (by decide) hra dX14_term_37 ?_
        refine x_astore [(0, .ref 205), (1, .int k), (2, .int i), (3, .int w9), (4, .ref a)] dX14_term_38 (by decide) rfl rfl ?_
        refine x_iload_n dX14_term_40 rfl ?_
        rcases sw4 w9 with rfl | rfl | rfl | rfl | e9
        · refine x_tswIn (off := 31) 72 dX14_term_41 (by decide) (by decide) (by decide) (by decide) ?_
          refine x_aload dX14_term_72 rfl ?_
          refine x_get lf_X14_169 dX14_term_74 ((xup_ne (by omega)).trans rc9.1) rfl ?_
          refine x_iload_n dX14_term_77 rfl ?_
          refine x_top (y := nI j) ei ?_
          refine x_iconst (v := 1) dX14_term_78 (by decide) ?_
          refine x_iadd dX14_term_79 ?_
          refine x_top (y := nI (j + 1)) (nI_add j 1) ?_
          refine x_ialdN (j := j + 1) ((xup_ne (by omega)).trans rc9.2.1) rfl (by omega) (by decide) dX14_term_80 ?_
          refine x_top r9.1 ?_
          exact x_iret dX14_term_81 rfl rfl (Nat.le_refl _) (Nat.le_refl _) ⟨_, rfl, ((yfr_rf _).up (by decide)), (M.g9 (upd g 0 0) w nw), Or.inl ⟨ρ, j, ⟨hρ, ek, hj, ei⟩, by first | rfl | (simp [tmW]; done)⟩⟩
        · refine x_tswIn (off := 41) 82 dX14_term_41 (by decide) (by decide) (by decide) (by decide) ?_
          refine x_aload dX14_term_82 rfl ?_
          refine x_get lf_X14_171 dX14_term_84 ((xup_ne (by omega)).trans rc9.1) rfl ?_
          refine x_iload_n dX14_term_87 rfl ?_
          refine x_top (y := nI j) ei ?_
          refine x_iconst (v := 1) dX14_term_88 (by decide) ?_
          refine x_iadd dX14_term_89 ?_
          refine x_top (y := nI (j + 1)) (nI_add j 1) ?_
          refine x_ialdN (j := j + 1) ((xup_ne (by omega)).trans rc9.2.2.1) rfl (by omega) (by decide) dX14_term_90 ?_
          refine x_top r9.2.1 ?_
          exact x_iret dX14_term_91 rfl rfl (Nat.le_refl _) (Nat.le_refl _) ⟨_, rfl, ((yfr_rf _).up (by decide)), (M.g9 (upd g 0 0) w nw), Or.inl ⟨ρ, j, ⟨hρ, ek, hj, ei⟩, by first | rfl | (simp [tmW]; done)⟩⟩
        · refine x_tswIn (off := 51) 92 dX14_term_41 (by decide) (by decide) (by decide) (by decide) ?_
          refine x_aload dX14_term_92 rfl ?_
          refine x_get lf_X14_173 dX14_term_94 ((xup_ne (by omega)).trans rc9.1) rfl ?_
          refine x_iload_n dX14_term_97 rfl ?_
          refine x_top (y := nI j) ei ?_
          refine x_iconst (v := 1) dX14_term_98 (by decide) ?_
          refine x_iadd dX14_term_99 ?_
          refine x_top (y := nI (j + 1)) (nI_add j 1) ?_
          refine x_ialdN (j := j + 1) ((xup_ne (by omega)).trans rc9.2.2.2.1) rfl (by omega) (by decide) dX14_term_100 ?_
          refine x_top r9.2.2.1 ?_
          exact x_iret dX14_term_101 rfl rfl (Nat.le_refl _) (Nat.le_refl _) ⟨_, rfl, ((yfr_rf _).up (by decide)), (M.g9 (upd g 0 0) w nw), Or.inl ⟨ρ, j, ⟨hρ, ek, hj, ei⟩, by first | rfl | (simp [tmW]; done)⟩⟩
        · refine x_tswIn (off := 61) 102 dX14_term_41 (by decide) (by decide) (by decide) (by decide) ?_
          refine x_aload dX14_term_102 rfl ?_
          refine x_get lf_X14_176 dX14_term_104 ((xup_ne (by omega)).trans rc9.1) rfl ?_
          refine x_iload_n dX14_term_107 rfl ?_
          refine x_top (y := nI j) ei ?_
          refine x_iconst (v := 1) dX14_term_108 (by decide) ?_
          refine x_iadd dX14_term_109 ?_
          refine x_top (y := nI (j + 1)) (nI_add j 1) ?_
          refine x_ialdN (j := j + 1) ((xup_ne (by omega)).trans rc9.2.2.2.2.1) rfl (by omega) (by decide) dX14_term_110 ?_
          refine x_top r9.2.2.2 ?_
          exact x_iret dX14_term_111 rfl rfl (Nat.le_refl _) (Nat.le_refl _) ⟨_, rfl, ((yfr_rf _).up (by decide)), (M.g9 (upd g 0 0) w nw), Or.inl ⟨ρ, j, ⟨hρ, ek, hj, ei⟩, by first | rfl | (simp [tmW]; done)⟩⟩
        · refine x_tswOut 112 dX14_term_41 e9 (by decide) ?_
          refine x_iconst (v := (-1)) dX14_term_112 (by decide) ?_
          exact x_iret dX14_term_113 rfl rfl (Nat.le_refl _) (Nat.le_refl _) ⟨_, rfl, ((yfr_rf _).up (by decide)), (M.g9 (upd g 0 0) w nw), Or.inl ⟨ρ, j, ⟨hρ, ek, hj, ei⟩, by first | exact tmW_out e9 | rfl⟩⟩
      · refine x_iconst (v := (-1)) dX14_term_30 (by decide) ?_
        refine x_iret dX14_term_31 rfl rfl (Nat.le_refl _) (Nat.le_refl _) ⟨_, rfl, ((yfr_rf _).up (by decide)), (M.g9 (upd g 0 0) w nw), Or.inr ⟨?_, rfl⟩⟩
        rintro ⟨r9, j9, q1, q2, q3, q4⟩
        have q5 := hz r9 q1
        first | exact inR_f (by first | assumption | exact bi_f c_10) (by omega) r9 q1 q2 | (rw [q4] at c_14; exact nI_pos (by omega) c_14) | (have e9 : ρ = r9 := (nI_eq (by omega) (by omega)).mp (ek.symm.trans q2); subst e9; exact c_27 (by rw [q4, nI_ltI (by omega) (by omega)]; exact q3))
