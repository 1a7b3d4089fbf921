/-! the reference: readAtom, from its beginning -/
set_option maxRecDepth 100000 in
set_option maxHeartbeats 4000000 in
theorem l_X14_kind {G : xG} {Q : Option Value ⊕ Nat → xHp → Prop} {h1 : xHp} {g0 : Nat → Int32} {ar0 : Nat → Nat → Int32} {rf : Nat → Option Nat} {rc : Nat} {ts : Nat} {tk : Nat → Tk} {pos : Nat → Nat} {h : xHp} {q : PQ} {v : RV} {k i m T : Nat} {pl : Int32} {X : XP} {g : Nat → Int32} {w : Int64} {ar : Nat → Nat → Int32} {tw kw : Nat → Int64} (MM : MR9 h1 h g0 ar0 rf rc tk pos q v k i m T pl X g w ar tw kw) (hk : k < ts) {wt : Int32} {pl9 : Nat} {l : List Nat} (hl : okW l) (h8 : l.length ≤ 8) (hw : w = lN (mw l)) (k1 : wLook q.2.2.2.1 l q.2.2.1 < q.2.2.1 → Wx G mX14_readAtom (xRm 4 0 0) (xF G Q 0 0) 0 0 63 [(0, .ref 205), (1, .int (nI i)), (2, .int wt), (3, .int (nI pl9)), (4, .int (nI (wLook q.2.2.2.1 l q.2.2.1)))] [] h) (k2 : ¬ wLook q.2.2.2.1 l q.2.2.1 < q.2.2.1 → Wx G mX14_readAtom (xRm 4 0 0) (xF G Q 0 0) 0 0 63 [(0, .ref 205), (1, .int (nI i)), (2, .int wt), (3, .int (nI pl9)), (4, .int (nI q.2.2.1))] [] h) : ∀ (f j : Nat), j ≤ q.2.2.1 → q.2.2.1 + 1 ≤ j + f → (∀ i9, i9 < j → q.2.2.2.1 i9 ≠ l) → Wx G mX14_readAtom (xRm 4 0 0) (xF G Q 0 0) 0 0 33 [(0, .ref 205), (1, .int (nI i)), (2, .int wt), (3, .int (nI pl9)), (4, .int (nI j))] [] h := by
  obtain ⟨M1, cu1, gk1, ak1, qm1, gg1, dr1, sm1, bd1, fr1⟩ := id MM
  obtain ⟨so1, kd1, on1, tz1, lt1, dc1, de1, dl1, dx1⟩ := id dr1
  have hz10 := qm1.2.2.2.2
  intro f
  induction f with
  | zero => exact fun j h1 h2 => absurd h2 (by omega)
  | succ f ih =>
    intro j hj1 hj2 hj
    refine x_iload dX14_readAtom_33 rfl ?_
    refine x_aload_n dX14_readAtom_35 rfl ?_
    refine x_get lf_X14_90 dX14_readAtom_36 M1.o rfl ?_
    refine x_top (y := nI q.2.2.1) gg1.2.1 ?_
    refine x_icmp_ge 63 dX14_readAtom_39 (by decide) (fun c_39 => ?_) (fun c_39 => ?_)
    · rw [nI_leI (by omega) (by omega)] at c_39
      first | (have hno : ¬ wLook q.2.2.2.1 l q.2.2.1 < q.2.2.1 := first_none (fun i9 hi9 => by simpa using hj i9 (by omega)); rw [show j = q.2.2.1 by omega]; exact k2 hno) | (have hf9 : q.2.2.2.1 j = l := (wM_eq qm1.2.1 hl h8 (by omega)).mp (hw ▸ (lg_cmp_eq _ _).mp c_54); have e9 : wLook q.2.2.2.1 l q.2.2.1 = j := first_at (by simpa using hf9) (fun i9 hi9 => by simpa using hj i9 hi9) (by omega); exact e9 ▸ k1 (by rw [e9]; omega))
    · rw [nI_leI (by omega) (by omega)] at c_39
      refine x_aload_n dX14_readAtom_42 rfl ?_
      refine x_get lf_X14_17 dX14_readAtom_43 M1.o rfl ?_
      refine x_iload dX14_readAtom_46 rfl ?_
      refine x_laldN (j := j) M1.k rfl (by omega) (by decide) dX14_readAtom_48 ?_
      refine x_aload_n dX14_readAtom_49 rfl ?_
      refine x_get lf_X14_125 dX14_readAtom_50 M1.o rfl ?_
      refine x_lcmp dX14_readAtom_53 ?_
      refine x_if_eq 63 dX14_readAtom_54 (by decide) (fun c_54 => ?_) (fun c_54 => ?_)
      · first | (have hno : ¬ wLook q.2.2.2.1 l q.2.2.1 < q.2.2.1 := first_none (fun i9 hi9 => by simpa using hj i9 (by omega)); rw [show j = q.2.2.1 by omega]; exact k2 hno) | (have hf9 : q.2.2.2.1 j = l := (wM_eq qm1.2.1 hl h8 (by omega)).mp (hw ▸ (lg_cmp_eq _ _).mp c_54); have e9 : wLook q.2.2.2.1 l q.2.2.1 = j := first_at (by simpa using hf9) (fun i9 hi9 => by simpa using hj i9 hi9) (by omega); exact e9 ▸ k1 (by rw [e9]; omega))
      · refine x_iinc (v := nI (j + 1)) [(0, .ref 205), (1, .int (nI i)), (2, .int wt), (3, .int (nI pl9)), (4, .int (nI (j + 1)))] dX14_readAtom_57 rfl (nI_add j 1) (by decide) rfl rfl ?_
        refine x_goto 33 dX14_readAtom_60 (by decide) ?_
        exact ih (j + 1) (by omega) (by omega) (fun i9 hi9 => by by_cases e : i9 = j; (subst e; exact fun z => c_54 ((lg_cmp_eq _ _).mpr (hw.symm ▸ (wM_eq qm1.2.1 hl h8 (by omega)).mpr z))); exact hj i9 (by omega))
set_option maxRecDepth 100000 in
set_option maxHeartbeats 4000000 in
theorem k_X14_readAtom {G : xG} {h1 : xHp} {g0 : Nat → Int32} {ar0 : Nat → Nat → Int32} {rf : Nat → Option Nat} {rc : Nat} {b : Nat → Nat} {n ts : Nat} {tk : Nat → Tk} {pos : Nat → Nat} (tT : tkT b n ts tk pos) (hn4 : n ≤ 400) (hb : ∀ k, k < n → b k < 256) (h09 : g0 19 = nI n) (hT0 : tpM ar0 b n) {h : xHp} {q : PQ} {v : RV} {k i T : Nat} {pl : Int32} {X : XP} {g : Nat → Int32} {w : Int64} {ar : Nat → Nat → Int32} {tw kw : Nat → Int64} (MM : MR9 h1 h g0 ar0 rf rc tk pos q v k i i T pl X g w ar tw kw) (hk : k < ts) (hi : i ≤ 4) {wt : Int32} (hv : rdP q v i) (hA2 : tmI v i 2 = -1) (hA3 : tmI v i 3 = -1) (hwt : tmI v i 0 = wt) : MX G mX14_readAtom 4 0 0 [.ref 205, .int (nI i), .int wt] h (fun o h' => (∃ e p, pAtom tk q v k i = .inl (e, p) ∧ o = .inr 215 ∧ h'.1 215 = some (sC (nI e) (nI p)) ∧ ∃ q', extQ q q' ∧ MB h1 h' g0 ar0 rf q') ∨ (∃ q' v' k', pAtom tk q v k i = .inr (q', v', k') ∧ o = .inl none ∧ k' < ts ∧ ∃ g' w' ar' tw' kw', MR9 h1 h' g0 ar0 rf rc tk pos (q') (v') (k') i (i + 1) T pl XT9 g' w' ar' tw' kw')) := by
  obtain ⟨M1, cu1, gk1, ak1, qm1, gg1, dr1, sm1, bd1, fr1⟩ := id MM
  obtain ⟨so1, kd1, on1, tz1, lt1, dc1, de1, dl1, dx1⟩ := id dr1
  have hO := (tkT_ok tT hn4 hb).1
  have hTT := fun {ar : Nat → Nat → Int32} (ak : aK ar0 ar) => hTT9 hT0 ak
  have h77 := fr1.1.1
  refine MX.of [(0, .ref 205), (1, .int (nI i)), (2, .int wt)] (by decide) rfl (Nat.le_of_ble_eq_true rfl) rfl ?_
  refine x_aload_n dX14_readAtom_0 rfl ?_
  refine x_get lf_X14_115 dX14_readAtom_1 M1.o rfl ?_
  refine x_iconst (v := 2) dX14_readAtom_4 (by decide) ?_
  refine x_icmp_ne 15 dX14_readAtom_5 (by decide) (fun c_5 => ?_) (fun c_5 => ?_)
  · refine x_aload_n dX14_readAtom_15 rfl ?_
    refine x_iconst (v := 1) dX14_readAtom_16 (by decide) ?_
    refine x_aload_n dX14_readAtom_17 rfl ?_
    refine x_get lf_X14_114 dX14_readAtom_18 M1.o rfl ?_
    refine x_callV (As := [.int 1, .int (g 22)]) (st := []) lv_X14_136 (k_X14_stop M1) dX14_readAtom_21 M1.o rfl rfl (Nat.le_of_ble_eq_true rfl) ⟨by decide, by decide⟩ ⟨by decide, by decide⟩ (fun v9 h9 z => ?_) (fun _ _ _ _ _ z => by cases z.1)
    obtain ⟨ev, eh⟩ := z
    rw [eh]
    cases ev
    refine x_athrow dX14_readAtom_24 (x_out (fun x hx => by cases hx) (xup_self _ _ _) (Nat.le_refl _) (Nat.le_refl _) (Or.inl ⟨1, (tk k).2.1, (by unfold pAtom; first | rw [if_neg (fun z => c_5 ((cur_s cu1).1.mpr z.1))] | rw [if_neg (fun z => z.2 (hbn.mp c_12).2)]), rfl, (by rw [← cu1.1]; exact xup_self _ _ _), q, extQ_rf q, MM.bad⟩))
  · refine x_aload_n dX14_readAtom_8 rfl ?_
    refine x_callV (As := []) (st := []) lv_X14_165 (k_X14_isNot M1 cu1 (hO k hk).2.2) dX14_readAtom_9 M1.o rfl rfl (Nat.le_of_ble_eq_true rfl) ⟨by decide, by decide⟩ ⟨by decide, by decide⟩ (fun v9 h9 z => ?_) (fun _ _ _ _ _ z => by obtain ⟨_, z, _⟩ := z; cases z)
    obtain ⟨bn9, ev, eh, hbn⟩ := z
    rw [eh]
    cases ev
    refine x_if_eq 25 dX14_readAtom_12 (by decide) (fun c_12 => ?_) (fun c_12 => ?_)
    · have c_12 := bi_f c_12
      have e2 := (cur_s cu1).1.mp c_5
      have hnt : ¬ (tk k).2.2 = NOTW := fun z => by rw [hbn.mpr ⟨e2, z⟩] at c_12; cases c_12
      obtain ⟨cw1, cw2, cw3, cw4, cw5⟩ := cu1.2.2.2.1 e2
      have hz10 := qm1.2.2.2.2
      refine x_aload_n dX14_readAtom_25 rfl ?_
      refine x_get lf_X14_114 dX14_readAtom_26 M1.o rfl ?_
      refine x_top (y := nI ((tk k).2.1)) cu1.1 ?_
      refine x_istore_n [(0, .ref 205), (1, .int (nI i)), (2, .int wt), (3, .int (nI ((tk k).2.1)))] dX14_readAtom_29 (by decide) rfl rfl ?_
      refine x_iconst (v := 0) dX14_readAtom_30 (by decide) ?_
      refine x_istore [(0, .ref 205), (1, .int (nI i)), (2, .int wt), (3, .int (nI ((tk k).2.1))), (4, .int 0)] dX14_readAtom_31 (by decide) rfl rfl ?_
      refine l_X14_kind MM hk ((hO k hk).2.2 e2).1 ((hO k hk).2.2 e2).2 cw3 (fun hlk => ?_) (fun hlk => ?_) (q.2.2.1 + 1) 0 (by omega) (by omega) (fun i9 hi9 => absurd hi9 (by omega))
      · refine x_iload dX14_readAtom_63 rfl ?_
        refine x_aload_n dX14_readAtom_65 rfl ?_
        refine x_get lf_X14_90 dX14_readAtom_66 M1.o rfl ?_
        refine x_top (y := nI q.2.2.1) gg1.2.1 ?_
        refine x_icmp_ne 76 dX14_readAtom_69 (by decide) (fun c_69 => ?_) (fun c_69 => absurd c_69 (by rw [nI_eq (by omega) (by omega)]; omega))
        refine x_iconst (v := 0) dX14_readAtom_76 (by decide) ?_
        refine x_istore [(0, .ref 205), (1, .int (nI i)), (2, .int wt), (3, .int (nI ((tk k).2.1))), (4, .int (nI (wLook q.2.2.2.1 (tk k).2.2 q.2.2.1))), (5, .int 0)] dX14_readAtom_77 (by decide) rfl rfl ?_
        refine x_iload dX14_readAtom_79 rfl ?_
        refine x_if_eq 139 dX14_readAtom_81 (by decide) (fun _ => ?_) (fun c => absurd c (by decide))
        refine x_aload_n dX14_readAtom_139 rfl ?_
        obtain ⟨hk2, hlx2⟩ := tkT_nx tT hk (by omega)
        refine x_callV (As := []) (st := []) lv_X14_143 (k_X14_next M1 (hTT ak1) hlx2 ((gk1 19 (by omega)).trans h09) (cw5)) dX14_readAtom_140 M1.o rfl rfl (Nat.le_of_ble_eq_true rfl) ⟨by decide, by decide⟩ ⟨by decide, by decide⟩ (fun v9 h2 z => ?_) (fun _ _ _ _ _ z => by cases z.1)
        obtain ⟨ev, y2, g2, w2, Mx2, s2, cx2⟩ := z
        cases ev
        have MM2 : MR9 h1 h2 g0 ar0 rf rc tk pos q v (k + 1) i i T pl X g2 w2 ar tw kw := MM.nx y2 Mx2 s2 cx2
        obtain ⟨M2, cu2, gk2, ak2, qm2, gg2, dr2, sm2, bd2, fr2⟩ := id MM2
        obtain ⟨so2, kd2, on2, tz2, lt2, dc2, de2, dl2, dx2⟩ := id dr2
        refine x_aload_n dX14_readAtom_143 rfl ?_
        refine x_get lf_X14_146 dX14_readAtom_144 M2.o rfl ?_
        refine x_get lf_X14_169 dX14_readAtom_147 dc2.1 rfl ?_
        refine x_iload_n dX14_readAtom_150 rfl ?_
        refine x_iload_n dX14_readAtom_151 rfl ?_
        refine x_iastN (j := i) dc2.2.1 rfl (by omega) (by decide) dX14_readAtom_152 ?_
        refine x_aload_n dX14_readAtom_153 rfl ?_
        refine x_get lf_X14_146 dX14_readAtom_154 ((xup_ne (by omega)).trans M2.o) rfl ?_
        refine x_get lf_X14_171 dX14_readAtom_157 ((xup_ne (by omega)).trans dc2.1) rfl ?_
        refine x_iload_n dX14_readAtom_160 rfl ?_
        refine x_iload dX14_readAtom_161 rfl ?_
        refine x_iastN (j := i) ((xup_ne (by omega)).trans dc2.2.2.1) rfl (by omega) (by decide) dX14_readAtom_163 ?_
        refine x_aload_n dX14_readAtom_164 rfl ?_
        refine x_get lf_X14_146 dX14_readAtom_165 ((xup_ne (by omega)).trans ((xup_ne (by omega)).trans M2.o)) rfl ?_
        refine x_get lf_X14_173 dX14_readAtom_168 ((xup_ne (by omega)).trans ((xup_ne (by omega)).trans dc2.1)) rfl ?_
        refine x_iload_n dX14_readAtom_171 rfl ?_
        refine x_iconst (v := (-1)) dX14_readAtom_172 (by decide) ?_
        refine x_iastN (j := i) ((xup_ne (by omega)).trans ((xup_ne (by omega)).trans dc2.2.2.2.1)) rfl (by omega) (by decide) dX14_readAtom_173 ?_
        refine x_aload_n dX14_readAtom_174 rfl ?_
        refine x_get lf_X14_146 dX14_readAtom_175 ((xup_ne (by omega)).trans ((xup_ne (by omega)).trans ((xup_ne (by omega)).trans M2.o))) rfl ?_
        refine x_get lf_X14_176 dX14_readAtom_178 ((xup_ne (by omega)).trans ((xup_ne (by omega)).trans ((xup_ne (by omega)).trans dc2.1))) rfl ?_
        refine x_iload_n dX14_readAtom_181 rfl ?_
        refine x_iconst (v := (-1)) dX14_readAtom_182 (by decide) ?_
        refine x_iastN (j := i) ((xup_ne (by omega)).trans ((xup_ne (by omega)).trans ((xup_ne (by omega)).trans dc2.2.2.2.2.1))) rfl (by omega) (by decide) dX14_readAtom_183 ?_
        refine x_iconst (v := 0) dX14_readAtom_184 (by decide) ?_
        refine x_istore [(0, .ref 205), (1, .int (nI i)), (2, .int wt), (3, .int (nI ((tk k).2.1))), (4, .int (nI (wLook q.2.2.2.1 (tk k).2.2 q.2.2.1))), (5, .int 0), (6, .int 0)] dX14_readAtom_185 (by decide) rfl rfl ?_
        have hrk := rdP_kd (kd := wLook q.2.2.2.1 (tk k).2.2 q.2.2.1) (pl := (tk k).2.1) hv
        have D9 : dr9 (xup (xup (xup (xup h2 (h1.2 + 1) (.inl (0, 5, .inl (upd so2 i wt)))) (h1.2 + 2) (.inl (0, 5, .inl (upd kd2 i (nI (wLook q.2.2.2.1 (tk k).2.2 q.2.2.1)))))) (h1.2 + 3) (.inl (0, 5, .inl (upd on2 i (-1))))) (h1.2 + 4) (.inl (0, 5, .inl (upd tz2 i (-1))))) h1.2 (kdV v i (wLook q.2.2.2.1 (tk k).2.2 q.2.2.1) (tk k).2.1) i T pl (fun so kd on tz => so i = tmI (kdV v i (wLook q.2.2.2.1 (tk k).2.2 q.2.2.1) (tk k).2.1) i 0 ∧ kd i = tmI (kdV v i (wLook q.2.2.2.1 (tk k).2.2 q.2.2.1) (tk k).2.1) i 1 ∧ on i = tmI (kdV v i (wLook q.2.2.2.1 (tk k).2.2 q.2.2.1) (tk k).2.1) i 2 ∧ tz i = tmI (kdV v i (wLook q.2.2.2.1 (tk k).2.2 q.2.2.1) (tk k).2.1) i 3) := by
          refine ⟨upd so2 i wt, upd kd2 i (nI (wLook q.2.2.2.1 (tk k).2.2 q.2.2.1)), upd on2 i (-1), upd tz2 i (-1), lt2, ⟨((xup_ne (by omega)).trans ((xup_ne (by omega)).trans ((xup_ne (by omega)).trans ((xup_ne (by omega)).trans (by rw [kdV_get, stT_sz]; exact dc2.1))))), ((xup_ne (by omega)).trans ((xup_ne (by omega)).trans ((xup_ne (by omega)).trans (xup_self _ _ _)))), ((xup_ne (by omega)).trans ((xup_ne (by omega)).trans (xup_self _ _ _))), ((xup_ne (by omega)).trans (xup_self _ _ _)), (xup_self _ _ _), ((xup_ne (by omega)).trans ((xup_ne (by omega)).trans ((xup_ne (by omega)).trans ((xup_ne (by omega)).trans dc2.2.2.2.2.2))))⟩, fun j hj => ?_, ?_, ?_⟩
          · rw [upd_nq (by omega), upd_nq (by omega), upd_nq (by omega), upd_nq (by omega), hrk.2.1 j hj]; exact de2 j hj
          · rw [kdV_get, stT_sz]; exact dl2
          · exact ⟨upd_at9.trans (hwt.symm.trans hrk.2.2.1.symm), upd_at9.trans (kdV_1 v i _ _).1.symm, upd_at9.trans (hA2.symm.trans hrk.2.2.2.1.symm), upd_at9.trans (hA3.symm.trans hrk.2.2.2.2.symm)⟩
        have MM8 : MR9 h1 (xup (xup (xup (xup h2 (h1.2 + 1) (.inl (0, 5, .inl (upd so2 i wt)))) (h1.2 + 2) (.inl (0, 5, .inl (upd kd2 i (nI (wLook q.2.2.2.1 (tk k).2.2 q.2.2.1)))))) (h1.2 + 3) (.inl (0, 5, .inl (upd on2 i (-1))))) (h1.2 + 4) (.inl (0, 5, .inl (upd tz2 i (-1))))) g0 ar0 rf rc tk pos q (kdV v i (wLook q.2.2.2.1 (tk k).2.2 q.2.2.1) (tk k).2.1) (k + 1) i i T pl (fun so kd on tz => so i = tmI (kdV v i (wLook q.2.2.2.1 (tk k).2.2 q.2.2.1) (tk k).2.1) i 0 ∧ kd i = tmI (kdV v i (wLook q.2.2.2.1 (tk k).2.2 q.2.2.1) (tk k).2.1) i 1 ∧ on i = tmI (kdV v i (wLook q.2.2.2.1 (tk k).2.2 q.2.2.1) (tk k).2.1) i 2 ∧ tz i = tmI (kdV v i (wLook q.2.2.2.1 (tk k).2.2 q.2.2.1) (tk k).2.1) i 3) g2 w2 ar tw kw := (MM2.vv (v' := kdV v i (wLook q.2.2.2.1 (tk k).2.2 q.2.2.1) (tk k).2.1) (m' := i) (Y := XT9) (stL_st (v := v) (i := i) (f := upd (upd (tmI v i) 1 (nI (wLook q.2.2.2.1 (tk k).2.2 q.2.2.1))) 4 (nI (tk k).2.1)) rfl rfl rfl rfl rfl) (fun s9 _ => inA_st (v := v) (i := i) (f := upd (upd (tmI v i) 1 (nI (wLook q.2.2.2.1 (tk k).2.2 q.2.2.1))) 4 (nI (tk k).2.1)) rfl rfl rfl s9) ⟨so2, kd2, on2, tz2, lt2, (by rw [kdV_get, stT_sz]; exact dc2), (fun j hj => by rw [hrk.2.1 j hj]; exact de2 j hj), (by rw [kdV_get, stT_sz]; exact dl2), trivial⟩).re rfl (fun q9 hq9 => (xup_ne (by omega)).trans ((xup_ne (by omega)).trans ((xup_ne (by omega)).trans (xup_ne (by omega))))) D9
        generalize xup (xup (xup (xup h2 (h1.2 + 1) (.inl (0, 5, .inl (upd so2 i wt)))) (h1.2 + 2) (.inl (0, 5, .inl (upd kd2 i (nI (wLook q.2.2.2.1 (tk k).2.2 q.2.2.1)))))) (h1.2 + 3) (.inl (0, 5, .inl (upd on2 i (-1))))) (h1.2 + 4) (.inl (0, 5, .inl (upd tz2 i (-1)))) = h8 at MM8 ⊢
        have L9 := l_X14_at1 (G := G) tT hn4 hb h09 hT0 (kd9 := wLook q.2.2.2.1 (tk k).2.2 q.2.2.1) (pl9 := (tk k).2.1) hi (wt := wt) (nwb := false) (q0 := q) MM8 hk2 hrk.1 (hrk.2.2.2.1.trans hA2) (hrk.2.2.2.2.trans hA3) (hrk.2.2.1.trans hwt) (by omega) (extQ_rf q)
        have e7 : pAtom tk q v k i = pAt1 tk q (kdV v i (wLook q.2.2.2.1 (tk k).2.2 q.2.2.1) (tk k).2.1) (k + 1) i (wLook q.2.2.2.1 (tk k).2.2 q.2.2.1) (tk k).2.1 false := by unfold pAtom; rw [if_pos ⟨e2, hnt⟩, if_pos hlk]
        rw [e7]
        exact L9
      · refine x_iload dX14_readAtom_63 rfl ?_
        refine x_aload_n dX14_readAtom_65 rfl ?_
        refine x_get lf_X14_90 dX14_readAtom_66 M1.o rfl ?_
        refine x_top (y := nI q.2.2.1) gg1.2.1 ?_
        refine x_icmp_ne 76 dX14_readAtom_69 (by decide) (fun c_69 => absurd c_69 (fun z => z rfl)) (fun c_69 => ?_)
        refine x_iconst (v := 1) dX14_readAtom_72 (by decide) ?_
        refine x_goto 77 dX14_readAtom_73 (by decide) ?_
        refine x_istore [(0, .ref 205), (1, .int (nI i)), (2, .int wt), (3, .int (nI ((tk k).2.1))), (4, .int (nI (q.2.2.1))), (5, .int 1)] dX14_readAtom_77 (by decide) rfl rfl ?_
        refine x_iload dX14_readAtom_79 rfl ?_
        refine x_if_eq 139 dX14_readAtom_81 (by decide) (fun c => absurd c (by decide)) (fun _ => ?_)
        refine x_aload_n dX14_readAtom_84 rfl ?_
        refine x_get lf_X14_90 dX14_readAtom_85 M1.o rfl ?_
        refine x_top (y := nI q.2.2.1) gg1.2.1 ?_
        refine x_bipush (v := 10) dX14_readAtom_88 (by decide) ?_
        refine x_icmp_ne 103 dX14_readAtom_90 (by decide) (fun c_90 => ?_) (fun c_90 => ?_)
        · rw [show (10 : Int32) = nI 10 from rfl, nI_eq (by omega) (by omega)] at c_90
          refine x_aload_n dX14_readAtom_103 rfl ?_
          refine x_get lf_X14_17 dX14_readAtom_104 M1.o rfl ?_
          refine x_aload_n dX14_readAtom_107 rfl ?_
          refine x_get lf_X14_90 dX14_readAtom_108 M1.o rfl ?_
          refine x_top (y := nI q.2.2.1) gg1.2.1 ?_
          refine x_aload_n dX14_readAtom_111 rfl ?_
          refine x_get lf_X14_125 dX14_readAtom_112 M1.o rfl ?_
          refine x_lastN (j := q.2.2.1) M1.k rfl (by omega) (by decide) dX14_readAtom_115 ?_
          refine x_aload_n dX14_readAtom_116 rfl ?_
          refine x_get lf_X14_24 dX14_readAtom_117 ((xup_ne (by omega)).trans M1.o) rfl ?_
          refine x_aload_n dX14_readAtom_120 rfl ?_
          refine x_get lf_X14_90 dX14_readAtom_121 ((xup_ne (by omega)).trans M1.o) rfl ?_
          refine x_top (y := nI q.2.2.1) gg1.2.1 ?_
          refine x_aload_n dX14_readAtom_124 rfl ?_
          refine x_get lf_X14_131 dX14_readAtom_125 ((xup_ne (by omega)).trans M1.o) rfl ?_
          refine x_iastN (j := q.2.2.1) ((xup_ne (by omega)).trans (M1.a 209 0 10 rfl)) rfl (by omega) (by decide) dX14_readAtom_128 ?_
          refine x_aload_n dX14_readAtom_129 rfl ?_
          refine x_dup dX14_readAtom_130 rfl ?_
          refine x_get lf_X14_90 dX14_readAtom_131 ((xup_ne (by omega)).trans ((xup_ne (by omega)).trans M1.o)) rfl ?_
          refine x_top (y := nI q.2.2.1) gg1.2.1 ?_
          refine x_iconst (v := 1) dX14_readAtom_134 (by decide) ?_
          refine x_iadd dX14_readAtom_135 ?_
          refine x_top (y := nI (q.2.2.1 + 1)) (nI_add q.2.2.1 1) ?_
          refine x_put (mL (upd g 5 (nI (q.2.2.1 + 1))) w (.ref h1.2)) lf_X14_90 dX14_readAtom_136 ((xup_ne (by omega)).trans ((xup_ne (by omega)).trans M1.o)) (Nat.le_of_ble_eq_true rfl) rfl rfl rfl ?_
          have yk : yfr h (xup (xup (xup h 207 (.inl (1, 10, .inr (.inl (vp_updL kw q.2.2.1 w))))) 209 (.inl (0, 10, .inl (upd (ar 209) q.2.2.1 (g 24))))) 205 (.inr (14, mL (upd g 5 (nI (q.2.2.1 + 1))) w (.ref h1.2)))) := (((yfr_rf _).up (by decide)).up (by decide)).up (by decide)
          have MM2 : MR9 h1 (xup (xup (xup h 207 (.inl (1, 10, .inr (.inl (vp_updL kw q.2.2.1 w))))) 209 (.inl (0, 10, .inl (upd (ar 209) q.2.2.1 (g 24))))) 205 (.inr (14, mL (upd g 5 (nI (q.2.2.1 + 1))) w (.ref h1.2)))) g0 ar0 rf rc tk pos (q.1, q.2.1, q.2.2.1 + 1, apF q.2.2.2.1 q.2.2.1 (tk k).2.2, q.2.2.2.2) v k i i T pl X (upd g 5 (nI (q.2.2.1 + 1))) w (apF ar 209 (upd (ar 209) q.2.2.1 (g 24))) tw (vp_updL kw q.2.2.1 w) := ⟨(((M1.k9 (vp_updL kw q.2.2.1 w)).a9 (c := 209) rfl (upd (ar 209) q.2.2.1 (g 24))).g9 (upd g 5 (nI (q.2.2.1 + 1))) w (.ref h1.2)), cu1, gk1.up (by omega), ak1.up (by omega), ⟨qm1.1, (by rw [cw3, cw4]; exact wM_add qm1.2.1 ((hO k hk).2.2 e2).1 ((hO k hk).2.2 e2).2), qm1.2.2.1, qm1.2.2.2.1, (show q.2.2.1 + 1 ≤ 10 by omega)⟩, ⟨gg1.1, rfl, gg1.2.2⟩, dr1.y (by omega) yk, stM_eq sm1 rfl rfl rfl rfl, bd1, fr1.y yk⟩
          generalize xup (xup (xup h 207 (.inl (1, 10, .inr (.inl (vp_updL kw q.2.2.1 w))))) 209 (.inl (0, 10, .inl (upd (ar 209) q.2.2.1 (g 24))))) 205 (.inr (14, mL (upd g 5 (nI (q.2.2.1 + 1))) w (.ref h1.2))) = h2 at MM2 yk ⊢
          obtain ⟨M2, cu2, gk2, ak2, qm2, gg2, dr2, sm2, bd2, fr2⟩ := id MM2
          obtain ⟨so2, kd2, on2, tz2, lt2, dc2, de2, dl2, dx2⟩ := id dr2
          refine x_aload_n dX14_readAtom_139 rfl ?_
          obtain ⟨hk3, hlx3⟩ := tkT_nx tT hk (by omega)
          refine x_callV (As := []) (st := []) lv_X14_143 (k_X14_next M2 (hTT ak2) hlx3 ((gk2 19 (by omega)).trans h09) (cw5)) dX14_readAtom_140 M2.o rfl rfl (Nat.le_of_ble_eq_true rfl) ⟨by decide, by decide⟩ ⟨by decide, by decide⟩ (fun v9 h3 z => ?_) (fun _ _ _ _ _ z => by cases z.1)
          obtain ⟨ev, y3, g3, w3, Mx3, s3, cx3⟩ := z
          cases ev
          have MM3 : MR9 h1 h3 g0 ar0 rf rc tk pos (q.1, q.2.1, q.2.2.1 + 1, apF q.2.2.2.1 q.2.2.1 (tk k).2.2, q.2.2.2.2) v (k + 1) i i T pl X g3 w3 (apF ar 209 (upd (ar 209) q.2.2.1 (g 24))) tw (vp_updL kw q.2.2.1 w) := MM2.nx y3 Mx3 s3 cx3
          obtain ⟨M3, cu3, gk3, ak3, qm3, gg3, dr3, sm3, bd3, fr3⟩ := id MM3
          obtain ⟨so3, kd3, on3, tz3, lt3, dc3, de3, dl3, dx3⟩ := id dr3
          refine x_aload_n dX14_readAtom_143 rfl ?_
          refine x_get lf_X14_146 dX14_readAtom_144 M3.o rfl ?_
          refine x_get lf_X14_169 dX14_readAtom_147 dc3.1 rfl ?_
          refine x_iload_n dX14_readAtom_150 rfl ?_
          refine x_iload_n dX14_readAtom_151 rfl ?_
          refine x_iastN (j := i) dc3.2.1 rfl (by omega) (by decide) dX14_readAtom_152 ?_
          refine x_aload_n dX14_readAtom_153 rfl ?_
          refine x_get lf_X14_146 dX14_readAtom_154 ((xup_ne (by omega)).trans M3.o) rfl ?_
          refine x_get lf_X14_171 dX14_readAtom_157 ((xup_ne (by omega)).trans dc3.1) rfl ?_
          refine x_iload_n dX14_readAtom_160 rfl ?_
          refine x_iload dX14_readAtom_161 rfl ?_
          refine x_iastN (j := i) ((xup_ne (by omega)).trans dc3.2.2.1) rfl (by omega) (by decide) dX14_readAtom_163 ?_
          refine x_aload_n dX14_readAtom_164 rfl ?_
          refine x_get lf_X14_146 dX14_readAtom_165 ((xup_ne (by omega)).trans ((xup_ne (by omega)).trans M3.o)) rfl ?_
          refine x_get lf_X14_173 dX14_readAtom_168 ((xup_ne (by omega)).trans ((xup_ne (by omega)).trans dc3.1)) rfl ?_
          refine x_iload_n dX14_readAtom_171 rfl ?_
          refine x_iconst (v := (-1)) dX14_readAtom_172 (by decide) ?_
          refine x_iastN (j := i) ((xup_ne (by omega)).trans ((xup_ne (by omega)).trans dc3.2.2.2.1)) rfl (by omega) (by decide) dX14_readAtom_173 ?_
          refine x_aload_n dX14_readAtom_174 rfl ?_
          refine x_get lf_X14_146 dX14_readAtom_175 ((xup_ne (by omega)).trans ((xup_ne (by omega)).trans ((xup_ne (by omega)).trans M3.o))) rfl ?_
          refine x_get lf_X14_176 dX14_readAtom_178 ((xup_ne (by omega)).trans ((xup_ne (by omega)).trans ((xup_ne (by omega)).trans dc3.1))) rfl ?_
          refine x_iload_n dX14_readAtom_181 rfl ?_
          refine x_iconst (v := (-1)) dX14_readAtom_182 (by decide) ?_
          refine x_iastN (j := i) ((xup_ne (by omega)).trans ((xup_ne (by omega)).trans ((xup_ne (by omega)).trans dc3.2.2.2.2.1))) rfl (by omega) (by decide) dX14_readAtom_183 ?_
          refine x_iconst (v := 0) dX14_readAtom_184 (by decide) ?_
          refine x_istore [(0, .ref 205), (1, .int (nI i)), (2, .int wt), (3, .int (nI ((tk k).2.1))), (4, .int (nI (q.2.2.1))), (5, .int 1), (6, .int 0)] dX14_readAtom_185 (by decide) rfl rfl ?_
          have hrk := rdP_kd (kd := q.2.2.1) (pl := (tk k).2.1) (hv.ext (extQ_ki q (tk k).2.2) ⟨hv.1.1, (show q.2.2.1 + 1 ≤ 10 by omega)⟩)
          have D9 : dr9 (xup (xup (xup (xup h3 (h1.2 + 1) (.inl (0, 5, .inl (upd so3 i wt)))) (h1.2 + 2) (.inl (0, 5, .inl (upd kd3 i (nI (q.2.2.1)))))) (h1.2 + 3) (.inl (0, 5, .inl (upd on3 i (-1))))) (h1.2 + 4) (.inl (0, 5, .inl (upd tz3 i (-1))))) h1.2 (kdV v i q.2.2.1 (tk k).2.1) i T pl (fun so kd on tz => so i = tmI (kdV v i q.2.2.1 (tk k).2.1) i 0 ∧ kd i = tmI (kdV v i q.2.2.1 (tk k).2.1) i 1 ∧ on i = tmI (kdV v i q.2.2.1 (tk k).2.1) i 2 ∧ tz i = tmI (kdV v i q.2.2.1 (tk k).2.1) i 3) := by
            refine ⟨upd so3 i wt, upd kd3 i (nI (q.2.2.1)), upd on3 i (-1), upd tz3 i (-1), lt3, ⟨((xup_ne (by omega)).trans ((xup_ne (by omega)).trans ((xup_ne (by omega)).trans ((xup_ne (by omega)).trans (by rw [kdV_get, stT_sz]; exact dc3.1))))), ((xup_ne (by omega)).trans ((xup_ne (by omega)).trans ((xup_ne (by omega)).trans (xup_self _ _ _)))), ((xup_ne (by omega)).trans ((xup_ne (by omega)).trans (xup_self _ _ _))), ((xup_ne (by omega)).trans (xup_self _ _ _)), (xup_self _ _ _), ((xup_ne (by omega)).trans ((xup_ne (by omega)).trans ((xup_ne (by omega)).trans ((xup_ne (by omega)).trans dc3.2.2.2.2.2))))⟩, fun j hj => ?_, ?_, ?_⟩
            · rw [upd_nq (by omega), upd_nq (by omega), upd_nq (by omega), upd_nq (by omega), hrk.2.1 j hj]; exact de3 j hj
            · rw [kdV_get, stT_sz]; exact dl3
            · exact ⟨upd_at9.trans (hwt.symm.trans hrk.2.2.1.symm), upd_at9.trans (kdV_1 v i _ _).1.symm, upd_at9.trans (hA2.symm.trans hrk.2.2.2.1.symm), upd_at9.trans (hA3.symm.trans hrk.2.2.2.2.symm)⟩
          have MM8 : MR9 h1 (xup (xup (xup (xup h3 (h1.2 + 1) (.inl (0, 5, .inl (upd so3 i wt)))) (h1.2 + 2) (.inl (0, 5, .inl (upd kd3 i (nI (q.2.2.1)))))) (h1.2 + 3) (.inl (0, 5, .inl (upd on3 i (-1))))) (h1.2 + 4) (.inl (0, 5, .inl (upd tz3 i (-1))))) g0 ar0 rf rc tk pos (q.1, q.2.1, q.2.2.1 + 1, apF q.2.2.2.1 q.2.2.1 (tk k).2.2, q.2.2.2.2) (kdV v i q.2.2.1 (tk k).2.1) (k + 1) i i T pl (fun so kd on tz => so i = tmI (kdV v i q.2.2.1 (tk k).2.1) i 0 ∧ kd i = tmI (kdV v i q.2.2.1 (tk k).2.1) i 1 ∧ on i = tmI (kdV v i q.2.2.1 (tk k).2.1) i 2 ∧ tz i = tmI (kdV v i q.2.2.1 (tk k).2.1) i 3) g3 w3 (apF ar 209 (upd (ar 209) q.2.2.1 (g 24))) tw (vp_updL kw q.2.2.1 w) := (MM3.vv (v' := kdV v i q.2.2.1 (tk k).2.1) (m' := i) (Y := XT9) (stL_st (v := v) (i := i) (f := upd (upd (tmI v i) 1 (nI (q.2.2.1))) 4 (nI (tk k).2.1)) rfl rfl rfl rfl rfl) (fun s9 _ => inA_st (v := v) (i := i) (f := upd (upd (tmI v i) 1 (nI (q.2.2.1))) 4 (nI (tk k).2.1)) rfl rfl rfl s9) ⟨so3, kd3, on3, tz3, lt3, (by rw [kdV_get, stT_sz]; exact dc3), (fun j hj => by rw [hrk.2.1 j hj]; exact de3 j hj), (by rw [kdV_get, stT_sz]; exact dl3), trivial⟩).re rfl (fun q9 hq9 => (xup_ne (by omega)).trans ((xup_ne (by omega)).trans ((xup_ne (by omega)).trans (xup_ne (by omega))))) D9
          generalize xup (xup (xup (xup h3 (h1.2 + 1) (.inl (0, 5, .inl (upd so3 i wt)))) (h1.2 + 2) (.inl (0, 5, .inl (upd kd3 i (nI (q.2.2.1)))))) (h1.2 + 3) (.inl (0, 5, .inl (upd on3 i (-1))))) (h1.2 + 4) (.inl (0, 5, .inl (upd tz3 i (-1)))) = h8 at MM8 ⊢
          have L9 := l_X14_at1 (G := G) tT hn4 hb h09 hT0 (kd9 := q.2.2.1) (pl9 := (tk k).2.1) hi (wt := wt) (nwb := true) (q0 := q) MM8 hk3 hrk.1 (hrk.2.2.2.1.trans hA2) (hrk.2.2.2.2.trans hA3) (hrk.2.2.1.trans hwt) (by omega) (extQ_ki q _)
          have e7 : pAtom tk q v k i = pAt1 tk (q.1, q.2.1, q.2.2.1 + 1, apF q.2.2.2.1 q.2.2.1 (tk k).2.2, q.2.2.2.2) (kdV v i q.2.2.1 (tk k).2.1) (k + 1) i (q.2.2.1) (tk k).2.1 true := by unfold pAtom; rw [if_pos ⟨e2, hnt⟩, if_neg hlk, if_pos (by omega)]
          rw [e7]
          exact L9
        · rw [show (10 : Int32) = nI 10 from rfl, nI_eq (by omega) (by omega)] at c_90
          refine x_aload_n dX14_readAtom_93 rfl ?_
          refine x_iconst (v := 4) dX14_readAtom_94 (by decide) ?_
          refine x_aload_n dX14_readAtom_95 rfl ?_
          refine x_get lf_X14_114 dX14_readAtom_96 M1.o rfl ?_
          refine x_callV (As := [.int 4, .int (g 22)]) (st := []) lv_X14_136 (k_X14_stop M1) dX14_readAtom_99 M1.o rfl rfl (Nat.le_of_ble_eq_true rfl) ⟨by decide, by decide⟩ ⟨by decide, by decide⟩ (fun v9 h9 z => ?_) (fun _ _ _ _ _ z => by cases z.1)
          obtain ⟨ev, eh⟩ := z
          rw [eh]
          cases ev
          refine x_athrow dX14_readAtom_102 (x_out (fun x hx => by cases hx) (xup_self _ _ _) (Nat.le_refl _) (Nat.le_refl _) (Or.inl ⟨4, (tk k).2.1, (by unfold pAtom; rw [if_pos ⟨e2, hnt⟩, if_neg hlk, if_neg (by omega)]), rfl, (by rw [← cu1.1]; exact xup_self _ _ _), q, extQ_rf q, MM.bad⟩))
    · have c_12 := bi_t c_12
      refine x_aload_n dX14_readAtom_15 rfl ?_
      refine x_iconst (v := 1) dX14_readAtom_16 (by decide) ?_
      refine x_aload_n dX14_readAtom_17 rfl ?_
      refine x_get lf_X14_114 dX14_readAtom_18 M1.o rfl ?_
      refine x_callV (As := [.int 1, .int (g 22)]) (st := []) lv_X14_136 (k_X14_stop M1) dX14_readAtom_21 M1.o rfl rfl (Nat.le_of_ble_eq_true rfl) ⟨by decide, by decide⟩ ⟨by decide, by decide⟩ (fun v9 h9 z => ?_) (fun _ _ _ _ _ z => by cases z.1)
      obtain ⟨ev, eh⟩ := z
      rw [eh]
      cases ev
      refine x_athrow dX14_readAtom_24 (x_out (fun x hx => by cases hx) (xup_self _ _ _) (Nat.le_refl _) (Nat.le_refl _) (Or.inl ⟨1, (tk k).2.1, (by unfold pAtom; first | rw [if_neg (fun z => c_5 ((cur_s cu1).1.mpr z.1))] | rw [if_neg (fun z => z.2 (hbn.mp c_12).2)]), rfl, (by rw [← cu1.1]; exact xup_self _ _ _), q, extQ_rf q, MM.bad⟩))
