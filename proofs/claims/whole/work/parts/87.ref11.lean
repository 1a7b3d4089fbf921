/-! the reference: readClause, from its start -/
theorem curT.kp {t : Tk} {p : Nat} {g g' : Nat → Int32} {w : Int64} (c : curT t p g w) (e : ∀ j, 20 ≤ j → j ≤ 24 → g' j = g j) : curT t p g' w := by
  unfold curT at c ⊢
  rw [e 20 (by omega) (by omega), e 21 (by omega) (by omega), e 22 (by omega) (by omega), e 23 (by omega) (by omega), e 24 (by omega) (by omega)]
  exact c
theorem pC_bad {tk : Nat → Tk} {rc : Nat} {q : PQ} {v0 : RV} {k : Nat} {e p : Nat} (y : pAtom tk q (clV (rv0 v0) 0 0) k 0 = .inl (e, p)) : pClause tk rc q v0 k = .inl (e, nI p) := by unfold pClause; rw [y]
theorem pC_ok {tk : Nat → Tk} {rc : Nat} {q : PQ} {v0 : RV} {k : Nat} {q2 : PQ} {v2 : RV} {k2 : Nat} (y : pAtom tk q (clV (rv0 v0) 0 0) k 0 = .inr (q2, v2, k2)) : pClause tk rc q v0 k = (if (tk k2).1 = 46 then pEndF q2 v2 k2 else if (tk k2).1 = 58 then (if rc < 20 then pTerms tk 4 q2 v2 k2 0 else .inl (4, nI (tk k2).2.1)) else .inl (1, nI (tk k2).2.1)) := by unfold pClause; rw [y]
theorem qM.ap {q : PQ} {ar : Nat → Nat → Int32} {tw kw : Nat → Int64} (h : qM q ar tw kw) {c : Nat} {f : Nat → Int32} (h1 : c ≠ 208) (h2 : c ≠ 209) (h3 : c ≠ 210) : qM q (apF ar c f) tw kw := by
  unfold qM
  rw [apF_ne h1.symm, apF_ne h2.symm, apF_ne h3.symm]
  exact h
theorem aK.ap {ar0 ar : Nat → Nat → Int32} (h : aK ar0 ar) {n : Nat} {x : Int32} : aK (apF ar0 212 (upd (ar0 212) n x)) (apF ar 212 (upd (ar 212) n x)) := fun c hc => by
  by_cases e : c = 212
  · rw [e, apF_at, apF_at, h 212 (by decide)]
  · rw [apF_ne e, apF_ne e]; exact h c hc
set_option maxRecDepth 100000 in
set_option maxHeartbeats 4000000 in
theorem k_X14_readClause {G : xG} {h1 : xHp} {g0 : Nat → Int32} {ar0 : Nat → Nat → Int32} {rf : Nat → Option Nat} {rc : Nat} {b : Nat → Nat} {n ts : Nat} {tk : Nat → Tk} {pos : Nat → Nat} (tT : tkT b n ts tk pos) (hn4 : n ≤ 400) (hb : ∀ k, k < n → b k < 256) (h09 : g0 19 = nI n) (hT0 : tpM ar0 b n) {q : PQ} {k : Nat} {w : Int64} {nw : Value} {tw kw : Nat → Int64} (M : MH h1 g0 w nw ar0 tw kw rf) (cu : curT (tk k) (pos (k + 1)) g0 w) (qm : qM q ar0 tw kw) (gg : g0 4 = nI q.1 ∧ g0 5 = nI q.2.2.1 ∧ g0 6 = nI rc) (hrc0 : rc ≤ 20) (hk : k < ts) (h77 : 227 ≤ h1.2) (v0 : RV) : MX G mX14_readClause 6 6 31 [.ref 205] h1 (fun o h' => (∃ e p, pClause tk rc q v0 k = .inl (e, p) ∧ o = .inr 215 ∧ h'.1 215 = some (sC (nI e) p) ∧ ∃ q', extQ q q' ∧ MB h1 h' g0 ar0 rf q') ∨ (∃ x q' v' k', pClause tk rc q v0 k = .inr (some x, q', v', k') ∧ o = .inl none ∧ k' < ts ∧ ∃ n9, n9 < 1000 ∧ x = nI n9 ∧ ∃ g' w' ar' tw' kw', MH h' g' w' (.ref h1.2) ar' tw' kw' rf ∧ curT (tk k') (pos (k' + 1)) g' w' ∧ gK g0 g' ∧ aK (apF ar0 212 (upd (ar0 212) n9 1)) ar' ∧ qM q' ar' tw' kw' ∧ (g' 4 = nI q'.1 ∧ g' 5 = nI q'.2.2.1 ∧ g' 6 = nI rc) ∧ frM h1 h') ∨ (∃ q' v' k', pClause tk rc q v0 k = .inr (none, q', v', k') ∧ o = .inl none ∧ k' < ts ∧ ∃ g' w' ar' tw' kw', MH h' g' w' (.ref h1.2) ar' tw' kw' (va_up rf rc (some h1.2)) ∧ curT (tk k') (pos (k' + 1)) g' w' ∧ gK g0 g' ∧ aK ar0 ar' ∧ qM q' ar' tw' kw' ∧ (g' 4 = nI q'.1 ∧ g' 5 = nI q'.2.2.1 ∧ g' 6 = nI (rc + 1)) ∧ rmV h' h1.2 v' ∧ frM h1 h')) := by
  have hO := (tkT_ok tT hn4 hb).1
  have hp := (tkT_ok tT hn4 hb).2.1
  have hTT := fun {ar : Nat → Nat → Int32} (ak : aK ar0 ar) => hTT9 hT0 ak
  refine MX.of [(0, .ref 205)] (by decide) rfl (Nat.le_of_ble_eq_true rfl) rfl ?_
  refine x_aload_n dX14_readClause_0 rfl ?_
  refine x_new [.int 0, .int 0, .int 0, .null, .null, .null, .null, .null] xc12 ck_X14_40 it_X12 in_X12 rfl (by decide) (by decide) dX14_readClause_1 ?_
  refine x_nwA (a := h1.2) rfl ?_
  refine x_dup dX14_readClause_4 rfl ?_
  have hX := k_X12_init (G := G) (h := (xnwA h1 h1.2 (.inr (12, [.int 0, .int 0, .int 0, .null, .null, .null, .null, .null])))) (a := h1.2) (xnwA_self _ _ _) rfl
  refine x_callI (As := []) (st := [.ref h1.2, .ref 205]) li_X14_186 hX (fun _ _ q => by cases q.1) dX14_readClause_5 rfl rfl (Nat.le_of_ble_eq_true rfl) ⟨by decide, by decide⟩ ⟨by decide, by decide⟩ (fun v9 h3 z => ?_)
  obtain ⟨ev, e32, e3f, rcz⟩ := z
  cases ev
  have e3g : ∀ q, q < h1.2 → h3.1 q = h1.1 q := fun q hq => (e3f q hq).trans (xnwA_ne (by omega))
  have M3 : MH h3 g0 w nw ar0 tw kw rf := M.fr2 (by omega) (fun q _ _ => e3g q (by omega))
  refine x_put (mL g0 w (.ref h1.2)) lf_X14_146 dX14_readClause_8 M3.o (Nat.le_of_ble_eq_true rfl) rfl rfl rfl ?_
  refine x_aload_n dX14_readClause_11 rfl ?_
  refine x_get lf_X14_146 dX14_readClause_12 (xup_self _ _ _) rfl ?_
  refine x_aload_n dX14_readClause_15 rfl ?_
  refine x_get lf_X14_114 dX14_readClause_16 (xup_self _ _ _) rfl ?_
  refine x_put [.int 0, .int 0, .int (g0 22), .ref (h1.2 + 1), .ref (h1.2 + 2), .ref (h1.2 + 3), .ref (h1.2 + 4), .ref (h1.2 + 5)] lf_X14_187 dX14_readClause_19 ((xup_ne (by omega)).trans rcz.1) (Nat.le_of_ble_eq_true rfl) rfl rfl rfl ?_
  refine x_aload_n dX14_readClause_22 rfl ?_
  refine x_iconst (v := 0) dX14_readClause_23 (by decide) ?_
  refine x_put (mL (upd g0 28 0) w (.ref h1.2)) lf_X14_162 dX14_readClause_24 ((xup_ne (by omega)).trans (xup_self _ _ _)) (Nat.le_of_ble_eq_true rfl) rfl rfl rfl ?_
  refine x_aload_n dX14_readClause_27 rfl ?_
  refine x_iconst (v := 0) dX14_readClause_28 (by decide) ?_
  refine x_put (mL (upd (upd g0 28 0) 29 0) w (.ref h1.2)) lf_X14_159 dX14_readClause_29 (xup_self _ _ _) (Nat.le_of_ble_eq_true rfl) rfl rfl rfl ?_
  have MM4 : MR9 h1 (xup (xup (xup (xup h3 205 (.inr (14, mL g0 w (.ref h1.2)))) h1.2 (.inr (12, [.int 0, .int 0, .int (g0 22), .ref (h1.2 + 1), .ref (h1.2 + 2), .ref (h1.2 + 3), .ref (h1.2 + 4), .ref (h1.2 + 5)]))) 205 (.inr (14, mL (upd g0 28 0) w (.ref h1.2)))) 205 (.inr (14, mL (upd (upd g0 28 0) 29 0) w (.ref h1.2)))) g0 ar0 rf rc tk pos q (clV (rv0 v0) 0 0) k 0 0 0 (nI (tk k).2.1) XT9 (upd (upd g0 28 0) 29 0) w ar0 tw kw := by
    refine ⟨((((M3.g9 g0 w (.ref h1.2)).x9 (by omega)).g9 (upd g0 28 0) w (.ref h1.2)).g9 (upd (upd g0 28 0) 29 0) w (.ref h1.2)), cu.kp (fun j _ _ => (upd_nq (by omega)).trans (upd_nq (by omega))), ((gK_rf g0).up (by omega)).up (by omega), aK_rf ar0, qm, ⟨(upd_nq (by decide)).trans ((upd_nq (by decide)).trans gg.1), (upd_nq (by decide)).trans ((upd_nq (by decide)).trans gg.2.1), (upd_nq (by decide)).trans ((upd_nq (by decide)).trans gg.2.2)⟩, ⟨_, _, _, _, _, ⟨?_, ((xup_ne (by omega)).trans ((xup_ne (by omega)).trans ((xup_ne (by omega)).trans ((xup_ne (by omega)).trans rcz.2.1)))), ((xup_ne (by omega)).trans ((xup_ne (by omega)).trans ((xup_ne (by omega)).trans ((xup_ne (by omega)).trans rcz.2.2.1)))), ((xup_ne (by omega)).trans ((xup_ne (by omega)).trans ((xup_ne (by omega)).trans ((xup_ne (by omega)).trans rcz.2.2.2.1)))), ((xup_ne (by omega)).trans ((xup_ne (by omega)).trans ((xup_ne (by omega)).trans ((xup_ne (by omega)).trans rcz.2.2.2.2.1)))), ((xup_ne (by omega)).trans ((xup_ne (by omega)).trans ((xup_ne (by omega)).trans ((xup_ne (by omega)).trans rcz.2.2.2.2.2))))⟩, fun j hj => absurd hj (by omega), fun j hj => absurd hj (Nat.not_lt_zero _), trivial⟩, ⟨(upd_nq (by decide)).trans upd_at9, fun j s p e => ?_⟩, ⟨0, by decide, upd_at9, fun s hs => ⟨fun z => ?_, fun z => ?_⟩⟩, ⟨⟨h77, e32⟩, fun q hq => ?_⟩⟩
    · rw [← cu.1]; exact ((xup_ne (by omega)).trans ((xup_ne (by omega)).trans (xup_self _ _ _)))
    · exact absurd e (by show ¬ ([] : List (Nat × Int32))[j]? = some (s, p); simp)
    · rw [Nat.zero_testBit] at z; cases z
    · obtain ⟨j, j1, j2, _⟩ := z; omega
    · exact (xup_ne (by omega)).trans ((xup_ne (by omega)).trans ((xup_ne (by omega)).trans ((xup_ne (by omega)).trans ((e3g q (by omega))))))
  generalize xup (xup (xup (xup h3 205 (.inr (14, mL g0 w (.ref h1.2)))) h1.2 (.inr (12, [.int 0, .int 0, .int (g0 22), .ref (h1.2 + 1), .ref (h1.2 + 2), .ref (h1.2 + 3), .ref (h1.2 + 4), .ref (h1.2 + 5)]))) 205 (.inr (14, mL (upd g0 28 0) w (.ref h1.2)))) 205 (.inr (14, mL (upd (upd g0 28 0) 29 0) w (.ref h1.2))) = h4 at MM4 ⊢
  obtain ⟨M4, cu4, gk4, ak4, qm4, gg4, dr4, sm4, bd4, fr4⟩ := id MM4
  obtain ⟨so4, kd4, on4, tz4, lt4, dc4, de4, dl4, dx4⟩ := id dr4
  refine x_aload_n dX14_readClause_32 rfl ?_
  refine x_iconst (v := 0) dX14_readClause_33 (by decide) ?_
  refine x_iconst (v := 0) dX14_readClause_34 (by decide) ?_
  obtain ⟨gt0, gt1, gt2, gt3⟩ := clV_get (rv0 v0) 0 0
  have hp0 : rdP q (clV (rv0 v0) 0 0) 0 := rdP_0 v0 qm.2.2.2 0
  refine x_callV (As := [.int (nI 0), .int 0]) (st := []) lv_X14_188 (k_X14_readAtom tT hn4 hb h09 hT0 MM4 hk (by decide) hp0 gt2 gt3 gt0) dX14_readClause_35 M4.o rfl rfl (Nat.le_of_ble_eq_true rfl) ⟨by decide, by decide⟩ ⟨by decide, by decide⟩ (fun v9 h5 z => ?_) (fun q8 ci9 fs9 h9 hc9 z => ?_)
  · rcases z with ⟨_, _, _, ev, _⟩ | ⟨q2, v2, k2, y2, ev, hk2, g2, w2, ar2, tw2, kw2, MN2⟩ <;> cases ev
    obtain ⟨M2, cu2, gk2, ak2, qm2, gg2, dr2, sm2, bd2, fr2⟩ := id MN2
    obtain ⟨so2, kd2, on2, tz2, lt2, dc2, de2, dl2, dx2⟩ := id dr2
    obtain ⟨hP2, hD2, hx2, ht20, _⟩ := rdP_atom y2 hp hp0 (Or.inl gt0) gt2 gt3
    have ln2 : (stL v2 0).length ≤ 2 := tmL_ln _
    refine x_aload_n dX14_readClause_38 rfl ?_
    refine x_bipush (v := 46) dX14_readClause_39 (by decide) ?_
    refine x_callV (As := [.int (nI 46)]) (st := []) lv_X14_179 (k_X14_is M2 cu2 (hO k2 hk2).1 (by omega) (by omega)) dX14_readClause_41 M2.o rfl rfl (Nat.le_of_ble_eq_true rfl) ⟨by decide, by decide⟩ ⟨by decide, by decide⟩ (fun v9 h9 z => ?_) (fun _ _ _ _ _ z => by obtain ⟨_, z, _⟩ := z; cases z)
    obtain ⟨bq41, ev, eh, hq41⟩ := z
    rw [eh]
    cases ev
    refine x_if_eq 85 dX14_readClause_44 (by decide) (fun c_44 => ?_) (fun c_44 => ?_)
    · have c_44 := bi_f c_44
      refine x_aload_n dX14_readClause_85 rfl ?_
      refine x_bipush (v := 58) dX14_readClause_86 (by decide) ?_
      refine x_callV (As := [.int (nI 58)]) (st := []) lv_X14_179 (k_X14_is M2 cu2 (hO k2 hk2).1 (by omega) (by omega)) dX14_readClause_88 M2.o rfl rfl (Nat.le_of_ble_eq_true rfl) ⟨by decide, by decide⟩ ⟨by decide, by decide⟩ (fun v9 h9 z => ?_) (fun _ _ _ _ _ z => by obtain ⟨_, z, _⟩ := z; cases z)
      obtain ⟨bq88, ev, eh, hq88⟩ := z
      rw [eh]
      cases ev
      refine x_if_ne 104 dX14_readClause_91 (by decide) (fun c_91 => ?_) (fun c_91 => ?_)
      · have c_91 := bi_t c_91
        refine x_aload_n dX14_readClause_104 rfl ?_
        refine x_get lf_X14_93 dX14_readClause_105 M2.o rfl ?_
        refine x_top (y := nI rc) gg2.2.2 ?_
        refine x_bipush (v := 20) dX14_readClause_108 (by decide) ?_
        refine x_icmp_ne 123 dX14_readClause_110 (by decide) (fun c_110 => ?_) (fun c_110 => ?_)
        · rw [show (20 : Int32) = nI 20 from rfl, nI_eq (by omega) (by omega)] at c_110
          refine x_iconst (v := 1) dX14_readClause_123 (by decide) ?_
          refine x_istore_n [(0, .ref 205), (1, .int 1)] dX14_readClause_124 (by decide) rfl rfl ?_
          refine x_iload_n dX14_readClause_125 rfl ?_
          refine x_if_eq 147 dX14_readClause_126 (by decide) (fun c_126 => absurd c_126 (fun z => absurd z (by decide))) (fun c_126 => ?_)
          have hrc : rc < 20 := by omega
          have e9 : pClause tk rc q v0 k = pTerms tk 4 q2 v2 k2 0 := by rw [pC_ok y2, if_neg (by rw [hq88.mp c_91]; decide), if_pos (hq88.mp c_91), if_pos hrc]
          rw [e9]
          exact l_X14_terms tT hn4 hb h09 hT0 hrc 4 MN2 hk2 (Or.inr (hq88.mp c_91)) ⟨hP2, hD2⟩ hx2 (atom_4 y2) rfl
        · rw [show (20 : Int32) = nI 20 from rfl, nI_eq (by omega) (by omega)] at c_110
          refine x_aload_n dX14_readClause_113 rfl ?_
          refine x_iconst (v := 4) dX14_readClause_114 (by decide) ?_
          refine x_aload_n dX14_readClause_115 rfl ?_
          refine x_get lf_X14_114 dX14_readClause_116 M2.o rfl ?_
          refine x_callV (As := [.int 4, .int (g2 22)]) (st := []) lv_X14_136 (k_X14_stop M2) dX14_readClause_119 M2.o rfl rfl (Nat.le_of_ble_eq_true rfl) ⟨by decide, by decide⟩ ⟨by decide, by decide⟩ (fun v9 h9 z => ?_) (fun _ _ _ _ _ z => by cases z.1)
          obtain ⟨ev, eh⟩ := z
          rw [eh]
          cases ev
          refine x_athrow dX14_readClause_122 (x_out (fun x hx => by cases hx) (xup_self _ _ _) (Nat.le_refl _) (Nat.le_refl _) (Or.inl ⟨4, nI (tk k2).2.1, (by rw [pC_ok y2, if_neg (fun z => by rw [hq41.mpr z] at c_44; cases c_44), if_pos (hq88.mp c_91), if_neg (by omega)]), rfl, (by rw [← cu2.1]; exact xup_self _ _ _), q2, hx2, MN2.bad⟩))
      · have c_91 := bi_f c_91
        refine x_aload_n dX14_readClause_94 rfl ?_
        refine x_iconst (v := 1) dX14_readClause_95 (by decide) ?_
        refine x_aload_n dX14_readClause_96 rfl ?_
        refine x_get lf_X14_114 dX14_readClause_97 M2.o rfl ?_
        refine x_callV (As := [.int 1, .int (g2 22)]) (st := []) lv_X14_136 (k_X14_stop M2) dX14_readClause_100 M2.o rfl rfl (Nat.le_of_ble_eq_true rfl) ⟨by decide, by decide⟩ ⟨by decide, by decide⟩ (fun v9 h9 z => ?_) (fun _ _ _ _ _ z => by cases z.1)
        obtain ⟨ev, eh⟩ := z
        rw [eh]
        cases ev
        refine x_athrow dX14_readClause_103 (x_out (fun x hx => by cases hx) (xup_self _ _ _) (Nat.le_refl _) (Nat.le_refl _) (Or.inl ⟨1, nI (tk k2).2.1, (by rw [pC_ok y2, if_neg (fun z => by rw [hq41.mpr z] at c_44; cases c_44), if_neg (fun z => by rw [hq88.mpr z] at c_91; cases c_91)]), rfl, (by rw [← cu2.1]; exact xup_self _ _ _), q2, hx2, MN2.bad⟩))
    · have c_44 := bi_t c_44
      refine x_aload_n dX14_readClause_47 rfl ?_
      refine x_get lf_X14_162 dX14_readClause_48 M2.o rfl ?_
      refine x_top (y := nI (stL v2 0).length) sm2.1 ?_
      refine x_if_le 66 dX14_readClause_51 (by decide) (fun c_51 => ?_) (fun c_51 => ?_)
      · have hle : (stL v2 0).length ≤ 0 := by rw [show (0 : Int32) = nI 0 from rfl, nI_leI (by omega) (by omega)] at c_51; omega
        refine x_aload_n dX14_readClause_66 rfl ?_
        refine x_get lf_X14_33 dX14_readClause_67 M2.o rfl ?_
        refine x_aload_n dX14_readClause_70 rfl ?_
        refine x_get lf_X14_146 dX14_readClause_71 M2.o rfl ?_
        refine x_iconst (v := 0) dX14_readClause_74 (by decide) ?_
        have hlt := endF_ok hD2.2.1 hD2.2.2.1 hP2.1.1 hle
        obtain ⟨n9, hn9, hft, _⟩ := ft_num hD2 (ht20.trans gt0) hP2.1 hlt.1 hlt.2
        have hnum : 100 * kd2 0 + 10 * (if 0 < on2 0 then on2 0 else 0) + (if 0 < tz2 0 then tz2 0 else 0) = nI n9 := by obtain ⟨d0, d1, d2, d3⟩ := de2 0 (by omega); rw [d1, d2, d3]; exact (num_ft hD2 hP2.1.1 hlt.1 hlt.2).trans hft
        refine x_callS (As := [.ref h1.2, .int 0]) (st := [.ref 212]) ls_X14_192 (k_X14_numberOf dc2) dX14_readClause_75 rfl rfl (Nat.le_of_ble_eq_true rfl) ⟨by decide, by decide⟩ ⟨by decide, by decide⟩ (fun v9 h9 z => ?_) (fun _ _ _ _ _ z => by cases z.1)
        obtain ⟨ev, eh⟩ := z
        rw [eh]
        cases ev
        rw [hnum]
        refine x_iconst (v := 1) dX14_readClause_78 (by decide) ?_
        refine x_zastN (j := n9) (M2.a 212 3 1000 rfl) rfl (by omega) (by decide) (by decide) dX14_readClause_79 ?_
        refine x_aload_n dX14_readClause_80 rfl ?_
        obtain ⟨hk5, hlx5⟩ := tkT_nx tT hk2 (by rw [hq41.mp c_44]; decide)
        refine x_callV (As := []) (st := []) lv_X14_143 (k_X14_next (M2.a9 (c := 212) rfl (upd (ar2 212) n9 1)) (b := b) (n := n) ⟨hT0.1, fun i hi => by rw [apF_ne (by decide)]; exact (hTT ak2).2 i hi⟩ hlx5 ((gk2 19 (by omega)).trans h09) ((cu2.2.2.2.2.2 (by rw [hq41.mp c_44]; decide)).2.2)) dX14_readClause_81 ((xup_ne (by omega)).trans M2.o) rfl rfl (Nat.le_of_ble_eq_true rfl) ⟨by decide, by decide⟩ ⟨by decide, by decide⟩ (fun v9 h6 z => ?_) (fun _ _ _ _ _ z => by cases z.1)
        obtain ⟨ev, y6, g6, w6, M6, s6, cx6⟩ := z
        cases ev
        have hres : pClause tk rc q v0 k = .inr (some (ftN v2.1), q2, v2, k2 + 1) := by rw [pC_ok y2, if_pos (hq41.mp c_44)]; unfold pEndF; rw [if_pos hlt.1, if_pos hlt.2]
        exact x_vret dX14_readClause_84 rfl (Nat.le_refl _) (Nat.le_refl _) (Or.inr (Or.inl ⟨ftN v2.1, q2, v2, k2 + 1, hres, rfl, hk5, n9, hn9, hft, g6, w6, _, tw2, kw2, M6, cx6, gk2.same s6, ak2.ap, qm2.ap (by decide) (by decide) (by decide), ⟨(s6 4 (by omega)).trans gg2.1, (s6 5 (by omega)).trans gg2.2.1, (s6 6 (by omega)).trans gg2.2.2⟩, fr2.y (((yfr_rf _).up (by decide)).tr y6)⟩))
      · have hgt : 0 < (stL v2 0).length := by rw [show (0 : Int32) = nI 0 from rfl, nI_leI (by omega) (by omega)] at c_51; omega
        obtain ⟨s9, p9, hget, hres⟩ := endF_bad (q := q2) (v := v2) (k := k2) hD2.2.1 hD2.2.2.1 hP2.1.1 hgt
        have hsp := sm2.2 0 s9 p9 hget
        refine x_aload_n dX14_readClause_54 rfl ?_
        refine x_iconst (v := 3) dX14_readClause_55 (by decide) ?_
        refine x_aload_n dX14_readClause_56 rfl ?_
        refine x_get lf_X14_57 dX14_readClause_57 M2.o rfl ?_
        refine x_iconst (v := 0) dX14_readClause_60 (by decide) ?_
        refine x_ialdN (j := 0) (M2.a 217 0 10 rfl) rfl (by decide) (by decide) dX14_readClause_61 ?_
        refine x_top hsp.2 ?_
        refine x_callV (As := [.int 3, .int p9]) (st := []) lv_X14_136 (k_X14_stop M2) dX14_readClause_62 M2.o rfl rfl (Nat.le_of_ble_eq_true rfl) ⟨by decide, by decide⟩ ⟨by decide, by decide⟩ (fun v9 h9 z => ?_) (fun _ _ _ _ _ z => by cases z.1)
        obtain ⟨ev, eh⟩ := z
        rw [eh]
        cases ev
        refine x_athrow dX14_readClause_65 (x_out (fun x hx => by cases hx) (xup_self _ _ _) (Nat.le_refl _) (Nat.le_refl _) (Or.inl ⟨3, p9, (by rw [pC_ok y2, if_pos (hq41.mp c_44)]; exact hres), rfl, xup_self _ _ _, q2, hx2, MN2.bad⟩))
  · rcases z with ⟨e8, p8, y8, ev, z1, qz, z2, z3⟩ | ⟨_, _, _, _, ev, _⟩ <;> cases ev
    exact x_out (fun x hx => by cases hx) hc9 (Nat.le_refl _) (Nat.le_refl _) (Or.inl ⟨e8, nI p8, pC_bad y8, rfl, z1, qz, z2, z3⟩)
