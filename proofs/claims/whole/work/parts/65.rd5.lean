/-! RuleCourt$Reader: readUnlike, readTerm -/
def clV (v : RV) (i : Nat) (t : Int32) : RV := stT v i (tClr (tmI v i) t)
def pUn2 (tk : Nat → Tk) (q : PQ) (v : RV) (k i : Nat) : (Nat × Nat) ⊕ (PQ × RV × Nat) := match pArg tk q v k i false with
  | .inl e => .inl e
  | .inr (q3, v3) => .inr (q3, v3, k + 1)
def pUnl (tk : Nat → Tk) (q : PQ) (v : RV) (k i : Nat) : (Nat × Nat) ⊕ (PQ × RV × Nat) := match pArg tk q (clV v i 2) k i true with
  | .inl e => .inl e
  | .inr (q2, v2) => if (tk (k + 1)).1 = 35 then pUn2 tk q2 v2 (k + 2) i else .inl (1, (tk (k + 1)).2.1)
def pTerm (tk : Nat → Tk) (q : PQ) (v : RV) (k i : Nat) : (Nat × Nat) ⊕ (PQ × RV × Nat) :=
  if (tk k).1 = 3 ∨ ((tk k).1 = 2 ∧ (tk (k + 1)).1 = 35) then pUnl tk q v k i
  else if (tk k).1 = 2 ∧ (tk k).2.2 = NOTW then pAtom tk q (clV v i 1) (k + 1) i
  else pAtom tk q (clV v i 0) k i
set_option maxRecDepth 100000 in
set_option maxHeartbeats 4000000 in
theorem k_X7_readUnlike {G : xG} {h0 h : xHp} {rc : Nat} {fc : Int32} {lf : Nat → Int32} {ra : Nat → Nat} {V : Nat → RV} {fr : Nat → Int32} {fn : Nat} {fs : Nat → Int32} {cl : Nat} {ts : Nat} {ty : Nat → Int32} {st : Nat → Int32} {wd : Nat → Int64} {q : PQ} {v : RV} {k : Nat} {flt plc : Int32} (R : RS h0 h rc fc lf ra V fr fn fs cl ts ty st wd q v k flt plc) {tk : Nat → Tk} (O : tkO ts tk ty st wd) (hk : k < ts) {i : Nat} (hi : i ≤ 4) : MX G mX7_readUnlike 3 0 0 [.ref 181, .ref (ra rc), .ref (tAd (ra rc) i)] h (fun o h' => (∃ e p, pUnl tk q v k i = .inl (e, p) ∧ o = .inl (some (.int 0)) ∧ ∃ q' v' k', extQ q q' ∧ RS h0 h' rc fc lf ra V fr fn fs cl ts ty st wd (q') (v') (k') (nI e) (nI p)) ∨ (∃ q' v' k', pUnl tk q v k i = .inr (q', v', k') ∧ o = .inl (some (.int 1)) ∧ extQ q q' ∧ k' < ts ∧ RS h0 h' rc fc lf ra V fr fn fs cl ts ty st wd (q') (v') (k') flt plc)) := by
  have hts := O.1.2
  refine MX.of [(0, .ref 181), (1, .ref (ra rc)), (2, .ref (tAd (ra rc) i))] (by decide) rfl (Nat.le_of_ble_eq_true rfl) rfl ?_
  refine x_aload_n dX7_readUnlike_0 rfl ?_
  refine x_iconst (v := 2) dX7_readUnlike_1 (by decide) ?_
  refine x_callV (As := [.int 2]) (st := []) lv_X7_111 (k_X9_clear (R.tm hi)) dX7_readUnlike_2 (R.tm hi) rfl rfl (Nat.le_of_ble_eq_true rfl) ⟨by decide, by decide⟩ ⟨by decide, by decide⟩ (fun v9 g1 z => ?_) (fun _ _ _ _ _ z => by cases z.1)
  obtain ⟨ev, eh⟩ := z
  cases ev
  have S1 : RS h0 g1 rc fc lf ra V fr fn fs cl ts ty st wd q (clV v i 2) k flt plc := by rw [eh]; exact R.term hi _
  refine x_aload_n dX7_readUnlike_5 rfl ?_
  refine x_aload_n dX7_readUnlike_6 rfl ?_
  refine x_aload_n dX7_readUnlike_7 rfl ?_
  refine x_iconst (v := 1) dX7_readUnlike_8 (by decide) ?_
  refine x_callV (As := [.ref (ra rc), .ref (tAd (ra rc) i), .int 1]) (st := []) lv_X7_173 (k_X7_readArg S1 O hk hi (b := true)) dX7_readUnlike_9 S1.r rfl rfl (Nat.le_of_ble_eq_true rfl) ⟨by decide, by decide⟩ ⟨by decide, by decide⟩ (fun v9 g2 z => ?_) (fun _ _ _ _ _ z => by rcases z with ⟨_, _, _, z, _⟩ | ⟨_, _, _, z, _⟩ <;> cases z)
  rcases z with ⟨e2, p2, y2, ev, q2, v2, k2, x2, S2⟩ | ⟨q2, v2, y2, ev, x2, S2⟩ <;> cases ev
  · refine x_if_ne 17 dX7_readUnlike_12 (by decide) (fun c => absurd c (by decide)) (fun _ => ?_)
    refine x_iconst (v := 0) dX7_readUnlike_15 (by decide) ?_
    exact x_iret dX7_readUnlike_16 rfl rfl (Nat.le_refl _) (Nat.le_refl _) (Or.inl ⟨e2, p2, (by unfold pUnl; rw [y2]), rfl, q2, v2, k2, (extQ_rf q).tr x2, S2⟩)
  · have S2 : RS h0 g2 rc fc lf ra V fr fn fs cl ts ty st wd q2 v2 (k + 1) flt plc := S2
    have hq2 : k + 1 < ts := tkO_next O hk (pArg_ty y2)
    refine x_if_ne 17 dX7_readUnlike_12 (by decide) (fun _ => ?_) (fun c => absurd c (by decide))
    refine x_aload_n dX7_readUnlike_17 rfl ?_
    refine x_callV (As := []) (st := []) lv_X7_63 (k_X7_type S2 O hq2) dX7_readUnlike_18 S2.r rfl rfl (Nat.le_of_ble_eq_true rfl) ⟨by decide, by decide⟩ ⟨by decide, by decide⟩ (fun v9 h9 z => ?_) (fun _ _ _ _ _ z => by cases z.1)
    obtain ⟨ev, eh⟩ := z
    rw [eh]
    cases ev
    have tb18 := (O.2.2.2.2 (k + 1) hq2).1
    refine x_bipush (v := 35) dX7_readUnlike_21 (by decide) ?_
    refine x_icmp_eq 36 dX7_readUnlike_23 (by decide) (fun c_23 => ?_) (fun c_23 => ?_)
    · rw [show (35 : Int32) = nI 35 from rfl, nI_eq (by omega) (by omega)] at c_23
      refine x_aload_n dX7_readUnlike_36 rfl ?_
      refine x_dup dX7_readUnlike_37 rfl ?_
      refine x_get lf_X7_48 dX7_readUnlike_38 S2.r rfl ?_
      refine x_iconst (v := 1) dX7_readUnlike_41 (by decide) ?_
      refine x_iadd dX7_readUnlike_42 ?_
      refine x_top (y := nI ((k + 1) + 1)) (nI_add (k + 1) 1) ?_
      refine x_put [.ref 3, .ref 182, .int (nI ((k + 1) + 1)), .ref 186, .int (nI fn), .int (nI cl), .int flt, .int plc] lf_X7_48 dX7_readUnlike_43 S2.r (Nat.le_of_ble_eq_true rfl) rfl rfl rfl ?_
      have hk3 := tkO_next O hq2 (by omega)
      have S3 := S2.rd (k + 2) flt plc
      generalize xup g2 181 (.inr (7, [.ref 3, .ref 182, .int (nI ((k + 1) + 1)), .ref 186, .int (nI fn), .int (nI cl), .int flt, .int plc])) = g3 at S3 ⊢
      refine x_aload_n dX7_readUnlike_46 rfl ?_
      refine x_aload_n dX7_readUnlike_47 rfl ?_
      refine x_aload_n dX7_readUnlike_48 rfl ?_
      refine x_iconst (v := 0) dX7_readUnlike_49 (by decide) ?_
      refine x_callV (As := [.ref (ra rc), .ref (tAd (ra rc) i), .int 0]) (st := []) lv_X7_173 (k_X7_readArg S3 O hk3 hi (b := false)) dX7_readUnlike_50 S3.r rfl rfl (Nat.le_of_ble_eq_true rfl) ⟨by decide, by decide⟩ ⟨by decide, by decide⟩ (fun v9 g4 z => ?_) (fun _ _ _ _ _ z => by rcases z with ⟨_, _, _, z, _⟩ | ⟨_, _, _, z, _⟩ <;> cases z)
      rcases z with ⟨e4, p4, y4, ev, q4, v4, k4, x4, S4⟩ | ⟨q4, v4, y4, ev, x4, S4⟩ <;> cases ev
      · exact x_iret dX7_readUnlike_53 rfl rfl (Nat.le_refl _) (Nat.le_refl _) (Or.inl ⟨e4, p4, (by unfold pUnl; rw [y2]; simp only []; rw [if_pos c_23]; unfold pUn2; rw [y4]), rfl, q4, v4, k4, ((extQ_rf q).tr x2).tr x4, S4⟩)
      · have S4 : RS h0 g4 rc fc lf ra V fr fn fs cl ts ty st wd q4 v4 (k + 3) flt plc := S4
        have hq4 : k + 3 < ts := tkO_next O hk3 (pArg_ty y4)
        exact x_iret dX7_readUnlike_53 rfl rfl (Nat.le_refl _) (Nat.le_refl _) (Or.inr ⟨_, _, _, (by unfold pUnl; rw [y2]; simp only []; rw [if_pos c_23]; unfold pUn2; rw [y4]), rfl, (((extQ_rf q).tr x2).tr x4), hq4, S4⟩)
    · rw [show (35 : Int32) = nI 35 from rfl, nI_eq (by omega) (by omega)] at c_23
      refine x_aload_n dX7_readUnlike_26 rfl ?_
      refine x_iconst (v := 1) dX7_readUnlike_27 (by decide) ?_
      refine x_aload_n dX7_readUnlike_28 rfl ?_
      refine x_callV (As := []) (st := [.int 1, .ref 181]) lv_X7_122 (k_X7_start S2 O hq2) dX7_readUnlike_29 S2.r rfl rfl (Nat.le_of_ble_eq_true rfl) ⟨by decide, by decide⟩ ⟨by decide, by decide⟩ (fun v9 h9 z => ?_) (fun _ _ _ _ _ z => by cases z.1)
      obtain ⟨ev, eh⟩ := z
      rw [eh]
      cases ev
      refine x_callV (As := [.int 1, .int (nI ((tk (k + 1)).2.1))]) (st := []) lv_X7_104 (k_X7_fail S2) dX7_readUnlike_32 S2.r rfl rfl (Nat.le_of_ble_eq_true rfl) ⟨by decide, by decide⟩ ⟨by decide, by decide⟩ (fun v9 hF z => ?_) (fun _ _ _ _ _ z => by cases z.1)
      obtain ⟨ev, RF⟩ := z
      cases ev
      exact x_iret dX7_readUnlike_35 rfl rfl (Nat.le_refl _) (Nat.le_refl _) (Or.inl ⟨1, _, (by unfold pUnl; rw [y2]; simp only []; rw [if_neg c_23]), rfl, _, _, _, ((extQ_rf q).tr x2), RF⟩)
set_option maxRecDepth 100000 in
set_option maxHeartbeats 4000000 in
theorem k_X7_readTerm {G : xG} {h0 h : xHp} {rc : Nat} {fc : Int32} {lf : Nat → Int32} {ra : Nat → Nat} {V : Nat → RV} {fr : Nat → Int32} {fn : Nat} {fs : Nat → Int32} {cl : Nat} {ts : Nat} {ty : Nat → Int32} {st : Nat → Int32} {wd : Nat → Int64} {q : PQ} {v : RV} {k : Nat} {flt plc : Int32} (R : RS h0 h rc fc lf ra V fr fn fs cl ts ty st wd q v k flt plc) {tk : Nat → Tk} (O : tkO ts tk ty st wd) (hk : k < ts) {i : Nat} (hi : i ≤ 4) : MX G mX7_readTerm 4 0 0 [.ref 181, .ref (ra rc), .ref (tAd (ra rc) i)] h (fun o h' => (∃ e p, pTerm tk q v k i = .inl (e, p) ∧ o = .inl (some (.int 0)) ∧ ∃ q' v' k', extQ q q' ∧ RS h0 h' rc fc lf ra V fr fn fs cl ts ty st wd (q') (v') (k') (nI e) (nI p)) ∨ (∃ q' v' k', pTerm tk q v k i = .inr (q', v', k') ∧ o = .inl (some (.int 1)) ∧ extQ q q' ∧ k' < ts ∧ RS h0 h' rc fc lf ra V fr fn fs cl ts ty st wd (q') (v') (k') flt plc)) := by
  have hts := O.1.2
  refine MX.of [(0, .ref 181), (1, .ref (ra rc)), (2, .ref (tAd (ra rc) i))] (by decide) rfl (Nat.le_of_ble_eq_true rfl) rfl ?_
  refine x_aload_n dX7_readTerm_0 rfl ?_
  refine x_callV (As := []) (st := []) lv_X7_63 (k_X7_type R O hk) dX7_readTerm_1 R.r rfl rfl (Nat.le_of_ble_eq_true rfl) ⟨by decide, by decide⟩ ⟨by decide, by decide⟩ (fun v9 h9 z => ?_) (fun _ _ _ _ _ z => by cases z.1)
  obtain ⟨ev, eh⟩ := z
  rw [eh]
  cases ev
  have tb1 := (O.2.2.2.2 (k) hk).1
  refine x_iconst (v := 3) dX7_readTerm_4 (by decide) ?_
  refine x_icmp_eq 25 dX7_readTerm_5 (by decide) (fun c_5 => ?_) (fun c_5 => ?_)
  · rw [show (3 : Int32) = nI 3 from rfl, nI_eq (by omega) (by omega)] at c_5
    refine x_aload_n dX7_readTerm_25 rfl ?_
    refine x_aload_n dX7_readTerm_26 rfl ?_
    refine x_aload_n dX7_readTerm_27 rfl ?_
    refine x_callV (As := [.ref (ra rc), .ref (tAd (ra rc) i)]) (st := []) lv_X7_164 (k_X7_readUnlike R O hk hi) dX7_readTerm_28 R.r rfl rfl (Nat.le_of_ble_eq_true rfl) ⟨by decide, by decide⟩ ⟨by decide, by decide⟩ (fun v9 g1 z => ?_) (fun _ _ _ _ _ z => by rcases z with ⟨_, _, _, z, _⟩ | ⟨_, _, _, _, z, _⟩ <;> cases z)
    rcases z with ⟨e1, p1, y1, ev, q1, v1, k1, x1, S1⟩ | ⟨q1, v1, k1, y1, ev, x1, hq1, S1⟩ <;> cases ev
    · exact x_iret dX7_readTerm_31 rfl rfl (Nat.le_refl _) (Nat.le_refl _) (Or.inl ⟨e1, p1, (by unfold pTerm; rw [if_pos (by first | exact Or.inl c_5 | exact Or.inr ⟨c_13, c_22⟩)]; exact y1), rfl, q1, v1, k1, (extQ_rf q).tr x1, S1⟩)
    · exact x_iret dX7_readTerm_31 rfl rfl (Nat.le_refl _) (Nat.le_refl _) (Or.inr ⟨q1, v1, k1, (by unfold pTerm; rw [if_pos (by first | exact Or.inl c_5 | exact Or.inr ⟨c_13, c_22⟩)]; exact y1), rfl, ((extQ_rf q).tr x1), hq1, S1⟩)
  · rw [show (3 : Int32) = nI 3 from rfl, nI_eq (by omega) (by omega)] at c_5
    refine x_aload_n dX7_readTerm_8 rfl ?_
    refine x_callV (As := []) (st := []) lv_X7_63 (k_X7_type R O hk) dX7_readTerm_9 R.r rfl rfl (Nat.le_of_ble_eq_true rfl) ⟨by decide, by decide⟩ ⟨by decide, by decide⟩ (fun v9 h9 z => ?_) (fun _ _ _ _ _ z => by cases z.1)
    obtain ⟨ev, eh⟩ := z
    rw [eh]
    cases ev
    have tb9 := (O.2.2.2.2 (k) hk).1
    refine x_iconst (v := 2) dX7_readTerm_12 (by decide) ?_
    refine x_icmp_ne 32 dX7_readTerm_13 (by decide) (fun c_13 => ?_) (fun c_13 => ?_)
    · rw [show (2 : Int32) = nI 2 from rfl, nI_eq (by omega) (by omega)] at c_13
      have hnu : ¬ ((tk k).1 = 3 ∨ ((tk k).1 = 2 ∧ (tk (k + 1)).1 = 35)) := fun z => z.elim c_5 (fun z => by first | exact c_13 z.1 | exact c_22 z.2)
      refine x_aload_n dX7_readTerm_32 rfl ?_
      refine x_callV (As := []) (st := []) lv_X7_63 (k_X7_type R O hk) dX7_readTerm_33 R.r rfl rfl (Nat.le_of_ble_eq_true rfl) ⟨by decide, by decide⟩ ⟨by decide, by decide⟩ (fun v9 h9 z => ?_) (fun _ _ _ _ _ z => by cases z.1)
      obtain ⟨ev, eh⟩ := z
      rw [eh]
      cases ev
      have tb33 := (O.2.2.2.2 (k) hk).1
      refine x_iconst (v := 2) dX7_readTerm_36 (by decide) ?_
      refine x_icmp_ne 77 dX7_readTerm_37 (by decide) (fun c_37 => ?_) (fun c_37 => ?_)
      · rw [show (2 : Int32) = nI 2 from rfl, nI_eq (by omega) (by omega)] at c_37
        have hnn : ¬ ((tk k).1 = 2 ∧ (tk k).2.2 = NOTW) := fun z => by first | exact c_37 z.1 | exact c_56 ((lg_cmp_eq _ _).mpr ((not_w hwd.1 hwd.2).mpr z.2))
        refine x_aload_n dX7_readTerm_77 rfl ?_
        refine x_iconst (v := 0) dX7_readTerm_78 (by decide) ?_
        refine x_callV (As := [.int 0]) (st := []) lv_X7_111 (k_X9_clear (R.tm hi)) dX7_readTerm_79 (R.tm hi) rfl rfl (Nat.le_of_ble_eq_true rfl) ⟨by decide, by decide⟩ ⟨by decide, by decide⟩ (fun v9 g1 z => ?_) (fun _ _ _ _ _ z => by cases z.1)
        obtain ⟨ev, eh⟩ := z
        cases ev
        have S1 : RS h0 g1 rc fc lf ra V fr fn fs cl ts ty st wd q (clV v i 0) k flt plc := by rw [eh]; exact R.term hi _
        refine x_aload_n dX7_readTerm_82 rfl ?_
        refine x_aload_n dX7_readTerm_83 rfl ?_
        refine x_aload_n dX7_readTerm_84 rfl ?_
        refine x_callV (As := [.ref (ra rc), .ref (tAd (ra rc) i)]) (st := []) lv_X7_114 (k_X7_readAtom S1 O hk hi) dX7_readTerm_85 S1.r rfl rfl (Nat.le_of_ble_eq_true rfl) ⟨by decide, by decide⟩ ⟨by decide, by decide⟩ (fun v9 g2 z => ?_) (fun _ _ _ _ _ z => by rcases z with ⟨_, _, _, z, _⟩ | ⟨_, _, _, _, z, _⟩ <;> cases z)
        rcases z with ⟨e2, p2, y2, ev, q2, v2, k2, x2, S2⟩ | ⟨q2, v2, k2, y2, ev, x2, hq2, S2⟩ <;> cases ev
        · exact x_iret dX7_readTerm_88 rfl rfl (Nat.le_refl _) (Nat.le_refl _) (Or.inl ⟨e2, p2, (by unfold pTerm; rw [if_neg hnu, if_neg hnn]; exact y2), rfl, q2, v2, k2, (extQ_rf q).tr x2, S2⟩)
        · exact x_iret dX7_readTerm_88 rfl rfl (Nat.le_refl _) (Nat.le_refl _) (Or.inr ⟨q2, v2, k2, (by unfold pTerm; rw [if_neg hnu, if_neg hnn]; exact y2), rfl, ((extQ_rf q).tr x2), hq2, S2⟩)
      · rw [show (2 : Int32) = nI 2 from rfl, nI_eq (by omega) (by omega)] at c_37
        have hwd := (O.2.2.2.2 k hk).2.2 c_37
        refine x_aload_n dX7_readTerm_40 rfl ?_
        refine x_get lf_X7_12 dX7_readTerm_41 R.r rfl ?_
        refine x_get lf_X7_167 dX7_readTerm_44 R.t.1 rfl ?_
        refine x_aload_n dX7_readTerm_47 rfl ?_
        refine x_get lf_X7_48 dX7_readTerm_48 R.r rfl ?_
        refine x_laldN (j := k) R.t.2.2.2 rfl (by omega) (by decide) dX7_readTerm_51 ?_
        refine x_topl ((O.2.1 k hk).2.2.1 c_37) ?_
        refine x_ldc2 kl_X7_171 dX7_readTerm_52 ?_
        refine x_lcmp dX7_readTerm_55 ?_
        refine x_if_ne 77 dX7_readTerm_56 (by decide) (fun c_56 => ?_) (fun c_56 => ?_)
        · have hnn : ¬ ((tk k).1 = 2 ∧ (tk k).2.2 = NOTW) := fun z => by first | exact c_37 z.1 | exact c_56 ((lg_cmp_eq _ _).mpr ((not_w hwd.1 hwd.2).mpr z.2))
          refine x_aload_n dX7_readTerm_77 rfl ?_
          refine x_iconst (v := 0) dX7_readTerm_78 (by decide) ?_
          refine x_callV (As := [.int 0]) (st := []) lv_X7_111 (k_X9_clear (R.tm hi)) dX7_readTerm_79 (R.tm hi) rfl rfl (Nat.le_of_ble_eq_true rfl) ⟨by decide, by decide⟩ ⟨by decide, by decide⟩ (fun v9 g1 z => ?_) (fun _ _ _ _ _ z => by cases z.1)
          obtain ⟨ev, eh⟩ := z
          cases ev
          have S1 : RS h0 g1 rc fc lf ra V fr fn fs cl ts ty st wd q (clV v i 0) k flt plc := by rw [eh]; exact R.term hi _
          refine x_aload_n dX7_readTerm_82 rfl ?_
          refine x_aload_n dX7_readTerm_83 rfl ?_
          refine x_aload_n dX7_readTerm_84 rfl ?_
          refine x_callV (As := [.ref (ra rc), .ref (tAd (ra rc) i)]) (st := []) lv_X7_114 (k_X7_readAtom S1 O hk hi) dX7_readTerm_85 S1.r rfl rfl (Nat.le_of_ble_eq_true rfl) ⟨by decide, by decide⟩ ⟨by decide, by decide⟩ (fun v9 g2 z => ?_) (fun _ _ _ _ _ z => by rcases z with ⟨_, _, _, z, _⟩ | ⟨_, _, _, _, z, _⟩ <;> cases z)
          rcases z with ⟨e2, p2, y2, ev, q2, v2, k2, x2, S2⟩ | ⟨q2, v2, k2, y2, ev, x2, hq2, S2⟩ <;> cases ev
          · exact x_iret dX7_readTerm_88 rfl rfl (Nat.le_refl _) (Nat.le_refl _) (Or.inl ⟨e2, p2, (by unfold pTerm; rw [if_neg hnu, if_neg hnn]; exact y2), rfl, q2, v2, k2, (extQ_rf q).tr x2, S2⟩)
          · exact x_iret dX7_readTerm_88 rfl rfl (Nat.le_refl _) (Nat.le_refl _) (Or.inr ⟨q2, v2, k2, (by unfold pTerm; rw [if_neg hnu, if_neg hnn]; exact y2), rfl, ((extQ_rf q).tr x2), hq2, S2⟩)
        · refine x_aload_n dX7_readTerm_59 rfl ?_
          refine x_iconst (v := 1) dX7_readTerm_60 (by decide) ?_
          refine x_callV (As := [.int 1]) (st := []) lv_X7_111 (k_X9_clear (R.tm hi)) dX7_readTerm_61 (R.tm hi) rfl rfl (Nat.le_of_ble_eq_true rfl) ⟨by decide, by decide⟩ ⟨by decide, by decide⟩ (fun v9 g1 z => ?_) (fun _ _ _ _ _ z => by cases z.1)
          obtain ⟨ev, eh⟩ := z
          cases ev
          have S1 : RS h0 g1 rc fc lf ra V fr fn fs cl ts ty st wd q (clV v i 1) k flt plc := by rw [eh]; exact R.term hi _
          refine x_aload_n dX7_readTerm_64 rfl ?_
          refine x_dup dX7_readTerm_65 rfl ?_
          refine x_get lf_X7_48 dX7_readTerm_66 S1.r rfl ?_
          refine x_iconst (v := 1) dX7_readTerm_69 (by decide) ?_
          refine x_iadd dX7_readTerm_70 ?_
          refine x_top (y := nI (k + 1)) (nI_add k 1) ?_
          refine x_put [.ref 3, .ref 182, .int (nI (k + 1)), .ref 186, .int (nI fn), .int (nI cl), .int flt, .int plc] lf_X7_48 dX7_readTerm_71 S1.r (Nat.le_of_ble_eq_true rfl) rfl rfl rfl ?_
          refine x_goto 82 dX7_readTerm_74 (by decide) ?_
          have hk2 := tkO_next O hk (by omega)
          have S2 := S1.rd (k + 1) flt plc
          generalize xup g1 181 (.inr (7, [.ref 3, .ref 182, .int (nI (k + 1)), .ref 186, .int (nI fn), .int (nI cl), .int flt, .int plc])) = g2 at S2 ⊢
          refine x_aload_n dX7_readTerm_82 rfl ?_
          refine x_aload_n dX7_readTerm_83 rfl ?_
          refine x_aload_n dX7_readTerm_84 rfl ?_
          refine x_callV (As := [.ref (ra rc), .ref (tAd (ra rc) i)]) (st := []) lv_X7_114 (k_X7_readAtom S2 O hk2 hi) dX7_readTerm_85 S2.r rfl rfl (Nat.le_of_ble_eq_true rfl) ⟨by decide, by decide⟩ ⟨by decide, by decide⟩ (fun v9 g3 z => ?_) (fun _ _ _ _ _ z => by rcases z with ⟨_, _, _, z, _⟩ | ⟨_, _, _, _, z, _⟩ <;> cases z)
          rcases z with ⟨e3, p3, y3, ev, q3, v3, k3, x3, S3⟩ | ⟨q3, v3, k3, y3, ev, x3, hq3, S3⟩ <;> cases ev
          · exact x_iret dX7_readTerm_88 rfl rfl (Nat.le_refl _) (Nat.le_refl _) (Or.inl ⟨e3, p3, (by unfold pTerm; rw [if_neg hnu, if_pos ⟨c_37, (not_w hwd.1 hwd.2).mp ((lg_cmp_eq _ _).mp c_56)⟩]; exact y3), rfl, q3, v3, k3, (extQ_rf q).tr x3, S3⟩)
          · exact x_iret dX7_readTerm_88 rfl rfl (Nat.le_refl _) (Nat.le_refl _) (Or.inr ⟨q3, v3, k3, (by unfold pTerm; rw [if_neg hnu, if_pos ⟨c_37, (not_w hwd.1 hwd.2).mp ((lg_cmp_eq _ _).mp c_56)⟩]; exact y3), rfl, ((extQ_rf q).tr x3), hq3, S3⟩)
    · rw [show (2 : Int32) = nI 2 from rfl, nI_eq (by omega) (by omega)] at c_13
      refine x_aload_n dX7_readTerm_16 rfl ?_
      have hk1 := tkO_next O hk (by omega)
      have tb17 := (O.2.2.2.2 (k + 1) hk1).1
      refine x_callV (As := []) (st := []) lv_X7_161 (k_X7_nextType R O hk hk1) dX7_readTerm_17 R.r rfl rfl (Nat.le_of_ble_eq_true rfl) ⟨by decide, by decide⟩ ⟨by decide, by decide⟩ (fun v9 h9 z => ?_) (fun _ _ _ _ _ z => by cases z.1)
      obtain ⟨ev, eh⟩ := z
      rw [eh]
      cases ev
      refine x_bipush (v := 35) dX7_readTerm_20 (by decide) ?_
      refine x_icmp_ne 32 dX7_readTerm_22 (by decide) (fun c_22 => ?_) (fun c_22 => ?_)
      · rw [show (35 : Int32) = nI 35 from rfl, nI_eq (by omega) (by omega)] at c_22
        have hnu : ¬ ((tk k).1 = 3 ∨ ((tk k).1 = 2 ∧ (tk (k + 1)).1 = 35)) := fun z => z.elim c_5 (fun z => by first | exact c_13 z.1 | exact c_22 z.2)
        refine x_aload_n dX7_readTerm_32 rfl ?_
        refine x_callV (As := []) (st := []) lv_X7_63 (k_X7_type R O hk) dX7_readTerm_33 R.r rfl rfl (Nat.le_of_ble_eq_true rfl) ⟨by decide, by decide⟩ ⟨by decide, by decide⟩ (fun v9 h9 z => ?_) (fun _ _ _ _ _ z => by cases z.1)
        obtain ⟨ev, eh⟩ := z
        rw [eh]
        cases ev
        have tb33 := (O.2.2.2.2 (k) hk).1
        refine x_iconst (v := 2) dX7_readTerm_36 (by decide) ?_
        refine x_icmp_ne 77 dX7_readTerm_37 (by decide) (fun c_37 => ?_) (fun c_37 => ?_)
        · rw [show (2 : Int32) = nI 2 from rfl, nI_eq (by omega) (by omega)] at c_37
          have hnn : ¬ ((tk k).1 = 2 ∧ (tk k).2.2 = NOTW) := fun z => by first | exact c_37 z.1 | exact c_56 ((lg_cmp_eq _ _).mpr ((not_w hwd.1 hwd.2).mpr z.2))
          refine x_aload_n dX7_readTerm_77 rfl ?_
          refine x_iconst (v := 0) dX7_readTerm_78 (by decide) ?_
          refine x_callV (As := [.int 0]) (st := []) lv_X7_111 (k_X9_clear (R.tm hi)) dX7_readTerm_79 (R.tm hi) rfl rfl (Nat.le_of_ble_eq_true rfl) ⟨by decide, by decide⟩ ⟨by decide, by decide⟩ (fun v9 g1 z => ?_) (fun _ _ _ _ _ z => by cases z.1)
          obtain ⟨ev, eh⟩ := z
          cases ev
          have S1 : RS h0 g1 rc fc lf ra V fr fn fs cl ts ty st wd q (clV v i 0) k flt plc := by rw [eh]; exact R.term hi _
          refine x_aload_n dX7_readTerm_82 rfl ?_
          refine x_aload_n dX7_readTerm_83 rfl ?_
          refine x_aload_n dX7_readTerm_84 rfl ?_
          refine x_callV (As := [.ref (ra rc), .ref (tAd (ra rc) i)]) (st := []) lv_X7_114 (k_X7_readAtom S1 O hk hi) dX7_readTerm_85 S1.r rfl rfl (Nat.le_of_ble_eq_true rfl) ⟨by decide, by decide⟩ ⟨by decide, by decide⟩ (fun v9 g2 z => ?_) (fun _ _ _ _ _ z => by rcases z with ⟨_, _, _, z, _⟩ | ⟨_, _, _, _, z, _⟩ <;> cases z)
          rcases z with ⟨e2, p2, y2, ev, q2, v2, k2, x2, S2⟩ | ⟨q2, v2, k2, y2, ev, x2, hq2, S2⟩ <;> cases ev
          · exact x_iret dX7_readTerm_88 rfl rfl (Nat.le_refl _) (Nat.le_refl _) (Or.inl ⟨e2, p2, (by unfold pTerm; rw [if_neg hnu, if_neg hnn]; exact y2), rfl, q2, v2, k2, (extQ_rf q).tr x2, S2⟩)
          · exact x_iret dX7_readTerm_88 rfl rfl (Nat.le_refl _) (Nat.le_refl _) (Or.inr ⟨q2, v2, k2, (by unfold pTerm; rw [if_neg hnu, if_neg hnn]; exact y2), rfl, ((extQ_rf q).tr x2), hq2, S2⟩)
        · rw [show (2 : Int32) = nI 2 from rfl, nI_eq (by omega) (by omega)] at c_37
          have hwd := (O.2.2.2.2 k hk).2.2 c_37
          refine x_aload_n dX7_readTerm_40 rfl ?_
          refine x_get lf_X7_12 dX7_readTerm_41 R.r rfl ?_
          refine x_get lf_X7_167 dX7_readTerm_44 R.t.1 rfl ?_
          refine x_aload_n dX7_readTerm_47 rfl ?_
          refine x_get lf_X7_48 dX7_readTerm_48 R.r rfl ?_
          refine x_laldN (j := k) R.t.2.2.2 rfl (by omega) (by decide) dX7_readTerm_51 ?_
          refine x_topl ((O.2.1 k hk).2.2.1 c_37) ?_
          refine x_ldc2 kl_X7_171 dX7_readTerm_52 ?_
          refine x_lcmp dX7_readTerm_55 ?_
          refine x_if_ne 77 dX7_readTerm_56 (by decide) (fun c_56 => ?_) (fun c_56 => ?_)
          · have hnn : ¬ ((tk k).1 = 2 ∧ (tk k).2.2 = NOTW) := fun z => by first | exact c_37 z.1 | exact c_56 ((lg_cmp_eq _ _).mpr ((not_w hwd.1 hwd.2).mpr z.2))
            refine x_aload_n dX7_readTerm_77 rfl ?_
            refine x_iconst (v := 0) dX7_readTerm_78 (by decide) ?_
            refine x_callV (As := [.int 0]) (st := []) lv_X7_111 (k_X9_clear (R.tm hi)) dX7_readTerm_79 (R.tm hi) rfl rfl (Nat.le_of_ble_eq_true rfl) ⟨by decide, by decide⟩ ⟨by decide, by decide⟩ (fun v9 g1 z => ?_) (fun _ _ _ _ _ z => by cases z.1)
            obtain ⟨ev, eh⟩ := z
            cases ev
            have S1 : RS h0 g1 rc fc lf ra V fr fn fs cl ts ty st wd q (clV v i 0) k flt plc := by rw [eh]; exact R.term hi _
            refine x_aload_n dX7_readTerm_82 rfl ?_
            refine x_aload_n dX7_readTerm_83 rfl ?_
            refine x_aload_n dX7_readTerm_84 rfl ?_
            refine x_callV (As := [.ref (ra rc), .ref (tAd (ra rc) i)]) (st := []) lv_X7_114 (k_X7_readAtom S1 O hk hi) dX7_readTerm_85 S1.r rfl rfl (Nat.le_of_ble_eq_true rfl) ⟨by decide, by decide⟩ ⟨by decide, by decide⟩ (fun v9 g2 z => ?_) (fun _ _ _ _ _ z => by rcases z with ⟨_, _, _, z, _⟩ | ⟨_, _, _, _, z, _⟩ <;> cases z)
            rcases z with ⟨e2, p2, y2, ev, q2, v2, k2, x2, S2⟩ | ⟨q2, v2, k2, y2, ev, x2, hq2, S2⟩ <;> cases ev
            · exact x_iret dX7_readTerm_88 rfl rfl (Nat.le_refl _) (Nat.le_refl _) (Or.inl ⟨e2, p2, (by unfold pTerm; rw [if_neg hnu, if_neg hnn]; exact y2), rfl, q2, v2, k2, (extQ_rf q).tr x2, S2⟩)
            · exact x_iret dX7_readTerm_88 rfl rfl (Nat.le_refl _) (Nat.le_refl _) (Or.inr ⟨q2, v2, k2, (by unfold pTerm; rw [if_neg hnu, if_neg hnn]; exact y2), rfl, ((extQ_rf q).tr x2), hq2, S2⟩)
          · refine x_aload_n dX7_readTerm_59 rfl ?_
            refine x_iconst (v := 1) dX7_readTerm_60 (by decide) ?_
            refine x_callV (As := [.int 1]) (st := []) lv_X7_111 (k_X9_clear (R.tm hi)) dX7_readTerm_61 (R.tm hi) rfl rfl (Nat.le_of_ble_eq_true rfl) ⟨by decide, by decide⟩ ⟨by decide, by decide⟩ (fun v9 g1 z => ?_) (fun _ _ _ _ _ z => by cases z.1)
            obtain ⟨ev, eh⟩ := z
            cases ev
            have S1 : RS h0 g1 rc fc lf ra V fr fn fs cl ts ty st wd q (clV v i 1) k flt plc := by rw [eh]; exact R.term hi _
            refine x_aload_n dX7_readTerm_64 rfl ?_
            refine x_dup dX7_readTerm_65 rfl ?_
            refine x_get lf_X7_48 dX7_readTerm_66 S1.r rfl ?_
            refine x_iconst (v := 1) dX7_readTerm_69 (by decide) ?_
            refine x_iadd dX7_readTerm_70 ?_
            refine x_top (y := nI (k + 1)) (nI_add k 1) ?_
            refine x_put [.ref 3, .ref 182, .int (nI (k + 1)), .ref 186, .int (nI fn), .int (nI cl), .int flt, .int plc] lf_X7_48 dX7_readTerm_71 S1.r (Nat.le_of_ble_eq_true rfl) rfl rfl rfl ?_
            refine x_goto 82 dX7_readTerm_74 (by decide) ?_
            have hk2 := tkO_next O hk (by omega)
            have S2 := S1.rd (k + 1) flt plc
            generalize xup g1 181 (.inr (7, [.ref 3, .ref 182, .int (nI (k + 1)), .ref 186, .int (nI fn), .int (nI cl), .int flt, .int plc])) = g2 at S2 ⊢
            refine x_aload_n dX7_readTerm_82 rfl ?_
            refine x_aload_n dX7_readTerm_83 rfl ?_
            refine x_aload_n dX7_readTerm_84 rfl ?_
            refine x_callV (As := [.ref (ra rc), .ref (tAd (ra rc) i)]) (st := []) lv_X7_114 (k_X7_readAtom S2 O hk2 hi) dX7_readTerm_85 S2.r rfl rfl (Nat.le_of_ble_eq_true rfl) ⟨by decide, by decide⟩ ⟨by decide, by decide⟩ (fun v9 g3 z => ?_) (fun _ _ _ _ _ z => by rcases z with ⟨_, _, _, z, _⟩ | ⟨_, _, _, _, z, _⟩ <;> cases z)
            rcases z with ⟨e3, p3, y3, ev, q3, v3, k3, x3, S3⟩ | ⟨q3, v3, k3, y3, ev, x3, hq3, S3⟩ <;> cases ev
            · exact x_iret dX7_readTerm_88 rfl rfl (Nat.le_refl _) (Nat.le_refl _) (Or.inl ⟨e3, p3, (by unfold pTerm; rw [if_neg hnu, if_pos ⟨c_37, (not_w hwd.1 hwd.2).mp ((lg_cmp_eq _ _).mp c_56)⟩]; exact y3), rfl, q3, v3, k3, (extQ_rf q).tr x3, S3⟩)
            · exact x_iret dX7_readTerm_88 rfl rfl (Nat.le_refl _) (Nat.le_refl _) (Or.inr ⟨q3, v3, k3, (by unfold pTerm; rw [if_neg hnu, if_pos ⟨c_37, (not_w hwd.1 hwd.2).mp ((lg_cmp_eq _ _).mp c_56)⟩]; exact y3), rfl, ((extQ_rf q).tr x3), hq3, S3⟩)
      · rw [show (35 : Int32) = nI 35 from rfl, nI_eq (by omega) (by omega)] at c_22
        refine x_aload_n dX7_readTerm_25 rfl ?_
        refine x_aload_n dX7_readTerm_26 rfl ?_
        refine x_aload_n dX7_readTerm_27 rfl ?_
        refine x_callV (As := [.ref (ra rc), .ref (tAd (ra rc) i)]) (st := []) lv_X7_164 (k_X7_readUnlike R O hk hi) dX7_readTerm_28 R.r rfl rfl (Nat.le_of_ble_eq_true rfl) ⟨by decide, by decide⟩ ⟨by decide, by decide⟩ (fun v9 g1 z => ?_) (fun _ _ _ _ _ z => by rcases z with ⟨_, _, _, z, _⟩ | ⟨_, _, _, _, z, _⟩ <;> cases z)
        rcases z with ⟨e1, p1, y1, ev, q1, v1, k1, x1, S1⟩ | ⟨q1, v1, k1, y1, ev, x1, hq1, S1⟩ <;> cases ev
        · exact x_iret dX7_readTerm_31 rfl rfl (Nat.le_refl _) (Nat.le_refl _) (Or.inl ⟨e1, p1, (by unfold pTerm; rw [if_pos (by first | exact Or.inl c_5 | exact Or.inr ⟨c_13, c_22⟩)]; exact y1), rfl, q1, v1, k1, (extQ_rf q).tr x1, S1⟩)
        · exact x_iret dX7_readTerm_31 rfl rfl (Nat.le_refl _) (Nat.le_refl _) (Or.inr ⟨q1, v1, k1, (by unfold pTerm; rw [if_pos (by first | exact Or.inl c_5 | exact Or.inr ⟨c_13, c_22⟩)]; exact y1), rfl, ((extQ_rf q).tr x1), hq1, S1⟩)
