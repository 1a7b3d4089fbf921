/-! the reference: readTerm -/
theorem MR9.new {h1 h : xHp} {g0 : Nat → Int32} {ar0 : Nat → Nat → Int32} {rf : Nat → Option Nat} {rc : Nat} {tk : Nat → Tk} {pos : Nat → Nat} {q : PQ} {v : RV} {k T : Nat} {pl : Int32} {X : XP} {g : Nat → Int32} {w : Int64} {ar : Nat → Nat → Int32} {tw kw : Nat → Int64} (MM : MR9 h1 h g0 ar0 rf rc tk pos q v k T (T + 1) T pl X g w ar tw kw) {i : Nat} (hi : i = T + 1) (t : Int32) : MR9 h1 h g0 ar0 rf rc tk pos q (clV (szV v i) i t) k i i T pl XT9 g w ar tw kw := by
  subst hi
  obtain ⟨M, cu, gk, ak, qm, gg, dr, sm, bd, fr⟩ := MM
  obtain ⟨g0', g1', g2', g3'⟩ := clV_get (szV v (T + 1)) (T + 1) t
  have hoth : ∀ j, j < T + 1 → tmI (clV (szV v (T + 1)) (T + 1) t) j = tmI v j := fun j hj => (tmI_st_ne (by omega)).trans (tmI_sz v _ j)
  have hsz : (clV (szV v (T + 1)) (T + 1) t).2.2 = (T + 1, v.2.2.2) := stT_sz _ _ _
  obtain ⟨so, kd, on, tz, lt, dc, de, dl, dx⟩ := dr
  refine ⟨M, cu, gk, ak, qm, gg, ⟨so, kd, on, tz, lt, (by rw [hsz]; exact dc), (fun j hj => by rw [hoth j hj]; exact de j hj), (fun j hj => by rw [hsz] at hj ⊢; exact dl j hj), trivial⟩, stM_eq sm ?_ rfl rfl rfl, bdS_eq bd rfl (fun s hs => ?_), fr⟩
  · rw [stL_eq]
    show stL _ T ++ _ = _
    rw [stL_lt (w := v) (fun m hm => hoth m (by omega))]
    have e : tmL (tmI (clV (szV v (T + 1)) (T + 1) t) (T + 1)) = [] := by unfold tmL; rw [g2', g3']; rfl
    rw [e]
    split <;> simp
  · constructor
    · rintro ⟨j, a, b, c, d⟩
      by_cases e : j = T + 1
      · subst e
        unfold sgIn at d
        rw [g2', g3'] at d
        rcases d with z | z <;> exact absurd z.symm (sg_ne hs)
      · rw [hoth j (by omega)] at c d
        exact ⟨j, a, by omega, c, d⟩
    · rintro ⟨j, a, b, c, d⟩
      exact ⟨j, a, by omega, by rw [hoth j (by omega)]; exact c, by rw [hoth j (by omega)]; exact d⟩
set_option maxRecDepth 100000 in
set_option maxHeartbeats 4000000 in
theorem k_X14_readTerm {G : xG} {h1 : xHp} {g0 : Nat → Int32} {ar0 : Nat → Nat → Int32} {rf : Nat → Option Nat} {rc : Nat} {b : Nat → Nat} {n ts : Nat} {tk : Nat → Tk} {pos : Nat → Nat} (tT : tkT b n ts tk pos) (hn4 : n ≤ 400) (hb : ∀ k, k < n → b k < 256) (h09 : g0 19 = nI n) (hT0 : tpM ar0 b n) {h : xHp} {q : PQ} {v : RV} {k T : Nat} {pl : Int32} {g : Nat → Int32} {w : Int64} {ar : Nat → Nat → Int32} {tw kw : Nat → Int64} (MM : MR9 h1 h g0 ar0 rf rc tk pos q v k T (T + 1) T pl XT9 g w ar tw kw) (hk : k < ts) {i : Nat} (hiT : i = T + 1) (hi : i ≤ 4) (hD : rdD q v T) : MX G mX14_readTerm 5 0 0 [.ref 205] h (fun o h' => (∃ e p, pTerm tk q (szV v i) k i = .inl (e, p) ∧ o = .inr 215 ∧ h'.1 215 = some (sC (nI e) (nI p)) ∧ ∃ q', extQ q q' ∧ MB h1 h' g0 ar0 rf q') ∨ (∃ q' v' k', pTerm tk q (szV v i) k i = .inr (q', v', k') ∧ o = .inl none ∧ k' < ts ∧ ∃ g' w' ar' tw' kw', MR9 h1 h' g0 ar0 rf rc tk pos (q') (v') (k') i (i + 1) i pl XT9 g' w' ar' tw' kw')) := by
  have hnew : ∀ t, rdP q (clV (szV v i) i t) i := fun t => by subst hiT; exact (rdP_new hD hi t).1
  obtain ⟨M1, cu1, gk1, ak1, qm1, gg1, dr1, sm1, bd1, fr1⟩ := id MM
  obtain ⟨so1, kd1, on1, tz1, lt1, dc1, de1, dl1, dx1⟩ := id dr1
  have hO := (tkT_ok tT hn4 hb).1
  have hTT := fun {ar : Nat → Nat → Int32} (ak : aK ar0 ar) => hTT9 hT0 ak
  have h77 := fr1.1.1
  refine MX.of [(0, .ref 205)] (by decide) rfl (Nat.le_of_ble_eq_true rfl) rfl ?_
  refine x_aload_n dX14_readTerm_0 rfl ?_
  refine x_get lf_X14_115 dX14_readTerm_1 M1.o rfl ?_
  refine x_iconst (v := 2) dX14_readTerm_4 (by decide) ?_
  refine x_icmp_eq 26 dX14_readTerm_5 (by decide) (fun c_5 => ?_) (fun c_5 => ?_)
  · refine x_aload_n dX14_readTerm_26 rfl ?_
    refine x_get lf_X14_146 dX14_readTerm_27 M1.o rfl ?_
    refine x_get lf_X14_199 dX14_readTerm_30 dc1.1 rfl ?_
    refine x_iconst (v := 4) dX14_readTerm_33 (by decide) ?_
    refine x_icmp_ne 47 dX14_readTerm_34 (by decide) (fun c_34 => ?_) (fun c_34 => absurd c_34 (by rw [show (4 : Int32) = nI 4 from rfl, nI_eq (by omega) (by omega)]; omega))
    refine x_aload_n dX14_readTerm_47 rfl ?_
    refine x_get lf_X14_146 dX14_readTerm_48 M1.o rfl ?_
    refine x_get lf_X14_199 dX14_readTerm_51 dc1.1 rfl ?_
    refine x_iconst (v := 1) dX14_readTerm_54 (by decide) ?_
    refine x_iadd dX14_readTerm_55 ?_
    refine x_top (y := nI (T + 1)) (nI_add T 1) ?_
    refine x_istore_n [(0, .ref 205), (1, .int (nI (T + 1)))] dX14_readTerm_56 (by decide) rfl rfl ?_
    rw [show T + 1 = i from hiT.symm]
    refine x_aload_n dX14_readTerm_57 rfl ?_
    refine x_get lf_X14_115 dX14_readTerm_58 M1.o rfl ?_
    refine x_iconst (v := 3) dX14_readTerm_61 (by decide) ?_
    refine x_icmp_eq 72 dX14_readTerm_62 (by decide) (fun c_62 => ?_) (fun c_62 => ?_)
    · have hun : (tk k).1 = 3 ∨ ((tk k).1 = 2 ∧ (tk (k + 1)).1 = 35) := by first | exact Or.inl ((cur_s cu1).2.1.mp c_62) | exact Or.inr ⟨e2, hbu.mp c_69⟩
      have MV := MM.new hiT 2
      obtain ⟨gt0, gt1, gt2, gt3⟩ := clV_get (szV v i) i 2
      obtain ⟨M2, cu2, gk2, ak2, qm2, gg2, dr2, sm2, bd2, fr2⟩ := id MV
      obtain ⟨so2, kd2, on2, tz2, lt2, dc2, de2, dl2, dx2⟩ := id dr2
      refine x_aload_n dX14_readTerm_72 rfl ?_
      refine x_get lf_X14_146 dX14_readTerm_73 M2.o rfl ?_
      refine x_get lf_X14_169 dX14_readTerm_76 dc2.1 rfl ?_
      refine x_iload_n dX14_readTerm_79 rfl ?_
      refine x_iconst (v := 2) dX14_readTerm_80 (by decide) ?_
      refine x_iastN (j := i) dc2.2.1 rfl (by omega) (by decide) dX14_readTerm_81 ?_
      refine x_aload_n dX14_readTerm_82 rfl ?_
      refine x_get lf_X14_146 dX14_readTerm_83 ((xup_ne (by omega)).trans M2.o) rfl ?_
      refine x_get lf_X14_171 dX14_readTerm_86 ((xup_ne (by omega)).trans dc2.1) rfl ?_
      refine x_iload_n dX14_readTerm_89 rfl ?_
      refine x_iconst (v := (-1)) dX14_readTerm_90 (by decide) ?_
      refine x_iastN (j := i) ((xup_ne (by omega)).trans dc2.2.2.1) rfl (by omega) (by decide) dX14_readTerm_91 ?_
      have D3 : dr9 (xup (xup h (h1.2 + 1) (.inl (0, 5, .inl (upd so2 i 2)))) (h1.2 + 2) (.inl (0, 5, .inl (upd kd2 i (-1))))) h1.2 (clV (szV v i) i 2) i T pl (fun so kd on tz => so i = tmI (clV (szV v i) i 2) i 0 ∧ kd i = tmI (clV (szV v i) i 2) i 1) := by
        refine ⟨upd so2 i 2, upd kd2 i (-1), on2, tz2, lt2, ⟨((xup_ne (by omega)).trans ((xup_ne (by omega)).trans dc2.1)), ((xup_ne (by omega)).trans (xup_self _ _ _)), (xup_self _ _ _), ((xup_ne (by omega)).trans ((xup_ne (by omega)).trans dc2.2.2.2.1)), ((xup_ne (by omega)).trans ((xup_ne (by omega)).trans dc2.2.2.2.2.1)), ((xup_ne (by omega)).trans ((xup_ne (by omega)).trans dc2.2.2.2.2.2))⟩, fun j hj => by rw [upd_nq (by omega), upd_nq (by omega)]; exact de2 j hj, dl2, ?_⟩
        exact ⟨upd_at9.trans gt0.symm, upd_at9.trans gt1.symm⟩
      have MM3 : MR9 h1 (xup (xup h (h1.2 + 1) (.inl (0, 5, .inl (upd so2 i 2)))) (h1.2 + 2) (.inl (0, 5, .inl (upd kd2 i (-1))))) g0 ar0 rf rc tk pos q (clV (szV v i) i 2) k i i T pl (fun so kd on tz => so i = tmI (clV (szV v i) i 2) i 0 ∧ kd i = tmI (clV (szV v i) i 2) i 1) g w ar tw kw := MV.re rfl (fun q9 hq9 => (xup_ne (by omega)).trans (xup_ne (by omega))) D3
      generalize xup (xup h (h1.2 + 1) (.inl (0, 5, .inl (upd so2 i 2)))) (h1.2 + 2) (.inl (0, 5, .inl (upd kd2 i (-1)))) = h3 at MM3 ⊢
      obtain ⟨M3, cu3, gk3, ak3, qm3, gg3, dr3, sm3, bd3, fr3⟩ := id MM3
      obtain ⟨so3, kd3, on3, tz3, lt3, dc3, de3, dl3, dx3⟩ := id dr3
      refine x_aload_n dX14_readTerm_92 rfl ?_
      refine x_get lf_X14_146 dX14_readTerm_93 M3.o rfl ?_
      refine x_get lf_X14_173 dX14_readTerm_96 dc3.1 rfl ?_
      refine x_iload_n dX14_readTerm_99 rfl ?_
      refine x_aload_n dX14_readTerm_100 rfl ?_
      refine x_iconst (v := 0) dX14_readTerm_101 (by decide) ?_
      refine x_top (y := bi (decide (1 ≤ i ∧ tmI (clV (szV v i) i 2) i 0 = 0))) (by rw [decide_eq_false (show ¬ (1 ≤ i ∧ tmI (clV (szV v i) i 2) i 0 = 0) from fun z => absurd ((gt0).symm.trans z.2) (by decide))]; rfl) ?_
      refine x_callV (As := [.int (bi (decide (1 ≤ i ∧ tmI (clV (szV v i) i 2) i 0 = 0)))]) (st := [.int (nI i), .ref (h1.2 + 3)]) lv_X14_182 (k_X14_readArg tT hn4 hb h09 hT0 MM3 hk (Nat.le_refl _) hi (hnew 2).2.1.2.2 (bf := true) (bd9 := (decide (1 ≤ i ∧ tmI (clV (szV v i) i 2) i 0 = 0))) (by rw [decide_eq_true_iff]) gt3 (fun _ => gt2) (stL_l1 hi gt3)) dX14_readTerm_102 M3.o rfl rfl (Nat.le_of_ble_eq_true rfl) ⟨by decide, by decide⟩ ⟨by decide, by decide⟩ (fun v9 h4 z => ?_) (fun q9 ci9 fs9 h9 hc9 z => ?_)
      · rcases z with ⟨_, _, _, ev, _⟩ | ⟨q4, v4, x4, y4, ev, ex4, g4, w4, ar4, tw4, kw4, MN4⟩ <;> cases ev
        have hk4 : k + 1 < ts := (tkT_nx tT hk (pArg_ty y4)).1
        have hpp4 : (tk (k)).2.1 ≤ 400 := (hO (k) hk).2.1
        obtain ⟨r4, ro4, rx4, rq4, ⟨ra4, rb4, rc4⟩, rt4, rf4⟩ := rdP_arg y4 (hnew 2) hpp4 (fun _ => gt2) gt3
        obtain ⟨M4, cu4, gk4, ak4, qm4, gg4, dr4, sm4, bd4, fr4⟩ := id MN4
        obtain ⟨so4, kd4, on4, tz4, lt4, dc4, de4, dl4, dx4⟩ := id dr4
        refine x_iastN (j := i) dc4.2.2.2.1 rfl (by omega) (by decide) dX14_readTerm_105 ?_
        have D5 : dr9 (xup h4 (h1.2 + 3) (.inl (0, 5, .inl (upd on4 i x4)))) h1.2 v4 i T pl (fun so kd on tz => so i = tmI v4 i 0 ∧ kd i = tmI v4 i 1 ∧ on i = tmI v4 i 2) := by
          refine ⟨so4, kd4, (upd on4 i x4), tz4, lt4, ⟨((xup_ne (by omega)).trans dc4.1), ((xup_ne (by omega)).trans dc4.2.1), ((xup_ne (by omega)).trans dc4.2.2.1), (xup_self _ _ _), ((xup_ne (by omega)).trans dc4.2.2.2.2.1), ((xup_ne (by omega)).trans dc4.2.2.2.2.2)⟩, fun j hj => by rw [upd_nq (by omega)]; exact de4 j hj, dl4, ?_⟩
          obtain ⟨a1, a2⟩ := dx4
          exact ⟨a1.trans ra4.symm, a2.trans rb4.symm, upd_at9.trans ex4⟩
        have MM5 : MR9 h1 (xup h4 (h1.2 + 3) (.inl (0, 5, .inl (upd on4 i x4)))) g0 ar0 rf rc tk pos q4 v4 (k + 1) i i T pl (fun so kd on tz => so i = tmI v4 i 0 ∧ kd i = tmI v4 i 1 ∧ on i = tmI v4 i 2) g4 w4 ar4 tw4 kw4 := MN4.re rfl (fun q9 hq9 => xup_ne (by omega)) D5
        generalize xup h4 (h1.2 + 3) (.inl (0, 5, .inl (upd on4 i x4))) = h5 at MM5 ⊢
        obtain ⟨M5, cu5, gk5, ak5, qm5, gg5, dr5, sm5, bd5, fr5⟩ := id MM5
        obtain ⟨so5, kd5, on5, tz5, lt5, dc5, de5, dl5, dx5⟩ := id dr5
        refine x_aload_n dX14_readTerm_106 rfl ?_
        refine x_bipush (v := 35) dX14_readTerm_107 (by decide) ?_
        refine x_callV (As := [.int (nI 35)]) (st := []) lv_X14_179 (k_X14_is M5 cu5 (hO (k + 1) hk4).1 (by omega) (by omega)) dX14_readTerm_109 M5.o rfl rfl (Nat.le_of_ble_eq_true rfl) ⟨by decide, by decide⟩ ⟨by decide, by decide⟩ (fun v9 h9 z => ?_) (fun _ _ _ _ _ z => by obtain ⟨_, z, _⟩ := z; cases z)
        obtain ⟨bq109, ev, eh, hq109⟩ := z
        rw [eh]
        cases ev
        refine x_if_ne 125 dX14_readTerm_112 (by decide) (fun c_112 => ?_) (fun c_112 => ?_)
        · have c_112 := bi_t c_112
          refine x_aload_n dX14_readTerm_125 rfl ?_
          have ht5 : (tk (k + 1)).1 = 35 := hq109.mp c_112
          obtain ⟨hk6, hlx6⟩ := tkT_nx tT hk4 (by omega)
          refine x_callV (As := []) (st := []) lv_X14_143 (k_X14_next M5 (hTT ak5) hlx6 ((gk5 19 (by omega)).trans h09) ((cu5.2.2.2.2.2 (by omega)).2.2)) dX14_readTerm_126 M5.o rfl rfl (Nat.le_of_ble_eq_true rfl) ⟨by decide, by decide⟩ ⟨by decide, by decide⟩ (fun v9 h6 z => ?_) (fun _ _ _ _ _ z => by cases z.1)
          obtain ⟨ev, y6, g6, w6, Mx6, s6, cx6⟩ := z
          cases ev
          have MM6 : MR9 h1 h6 g0 ar0 rf rc tk pos q4 v4 (k + 2) i i T pl (fun so kd on tz => so i = tmI v4 i 0 ∧ kd i = tmI v4 i 1 ∧ on i = tmI v4 i 2) g6 w6 ar4 tw4 kw4 := MM5.nx y6 Mx6 s6 cx6
          obtain ⟨M6, cu6, gk6, ak6, qm6, gg6, dr6, sm6, bd6, fr6⟩ := id MM6
          obtain ⟨so6, kd6, on6, tz6, lt6, dc6, de6, dl6, dx6⟩ := id dr6
          refine x_aload_n dX14_readTerm_129 rfl ?_
          refine x_get lf_X14_146 dX14_readTerm_130 M6.o rfl ?_
          refine x_get lf_X14_176 dX14_readTerm_133 dc6.1 rfl ?_
          refine x_iload_n dX14_readTerm_136 rfl ?_
          refine x_aload_n dX14_readTerm_137 rfl ?_
          refine x_iconst (v := 0) dX14_readTerm_138 (by decide) ?_
          refine x_top (y := bi (decide (1 ≤ i ∧ tmI v4 i 0 = 0))) (by rw [decide_eq_false (show ¬ (1 ≤ i ∧ tmI v4 i 0 = 0) from fun z => absurd (((ra4.trans gt0)).symm.trans z.2) (by decide))]; rfl) ?_
          refine x_callV (As := [.int (bi (decide (1 ≤ i ∧ tmI v4 i 0 = 0)))]) (st := [.int (nI i), .ref (h1.2 + 4)]) lv_X14_182 (k_X14_readArg tT hn4 hb h09 hT0 MM6 hk6 (Nat.le_refl _) hi r4.2.1.2.2 (bf := false) (bd9 := (decide (1 ≤ i ∧ tmI v4 i 0 = 0))) (by rw [decide_eq_true_iff]) (rt4 rfl).2 (fun z => by cases z) (stL_l1 hi (rt4 rfl).2)) dX14_readTerm_139 M6.o rfl rfl (Nat.le_of_ble_eq_true rfl) ⟨by decide, by decide⟩ ⟨by decide, by decide⟩ (fun v9 h7 z => ?_) (fun q9 ci9 fs9 h9 hc9 z => ?_)
          · rcases z with ⟨_, _, _, ev, _⟩ | ⟨q7, v7, x7, y7, ev, ex7, g7, w7, ar7, tw7, kw7, MN7⟩ <;> cases ev
            have hk7 : k + 3 < ts := (tkT_nx tT hk6 (pArg_ty y7)).1
            have hpp7 : (tk (k + 2)).2.1 ≤ 400 := (hO (k + 2) hk6).2.1
            obtain ⟨r7, ro7, rx7, rq7, ⟨ra7, rb7, rc7⟩, rt7, rf7⟩ := rdP_arg y7 r4 hpp7 (fun z => by cases z) (rt4 rfl).2
            obtain ⟨M7, cu7, gk7, ak7, qm7, gg7, dr7, sm7, bd7, fr7⟩ := id MN7
            obtain ⟨so7, kd7, on7, tz7, lt7, dc7, de7, dl7, dx7⟩ := id dr7
            refine x_iastN (j := i) dc7.2.2.2.2.1 rfl (by omega) (by decide) dX14_readTerm_142 ?_
            have D8 : dr9 (xup h7 (h1.2 + 4) (.inl (0, 5, .inl (upd tz7 i x7)))) h1.2 v7 i T pl (fun so kd on tz => so i = tmI v7 i 0 ∧ kd i = tmI v7 i 1 ∧ on i = tmI v7 i 2 ∧ tz i = tmI v7 i 3) := by
              refine ⟨so7, kd7, on7, (upd tz7 i x7), lt7, ⟨((xup_ne (by omega)).trans dc7.1), ((xup_ne (by omega)).trans dc7.2.1), ((xup_ne (by omega)).trans dc7.2.2.1), ((xup_ne (by omega)).trans dc7.2.2.2.1), (xup_self _ _ _), ((xup_ne (by omega)).trans dc7.2.2.2.2.2)⟩, fun j hj => by rw [upd_nq (by omega)]; exact de7 j hj, dl7, ?_⟩
              obtain ⟨a1, a2, a3⟩ := dx7
              exact ⟨a1.trans ra7.symm, a2.trans rb7.symm, a3.trans (rf7 rfl).1.symm, upd_at9.trans ex7⟩
            have MM8 : MR9 h1 (xup h7 (h1.2 + 4) (.inl (0, 5, .inl (upd tz7 i x7)))) g0 ar0 rf rc tk pos q7 v7 (k + 3) i i T pl (fun so kd on tz => so i = tmI v7 i 0 ∧ kd i = tmI v7 i 1 ∧ on i = tmI v7 i 2 ∧ tz i = tmI v7 i 3) g7 w7 ar7 tw7 kw7 := MN7.re rfl (fun q9 hq9 => xup_ne (by omega)) D8
            generalize xup h7 (h1.2 + 4) (.inl (0, 5, .inl (upd tz7 i x7))) = h8 at MM8 ⊢
            obtain ⟨M8, cu8, gk8, ak8, qm8, gg8, dr8, sm8, bd8, fr8⟩ := id MM8
            obtain ⟨so8, kd8, on8, tz8, lt8, dc8, de8, dl8, dx8⟩ := id dr8
            refine x_goto 172 dX14_readTerm_143 (by decide) ?_
            refine x_aload_n dX14_readTerm_172 rfl ?_
            refine x_get lf_X14_146 dX14_readTerm_173 M8.o rfl ?_
            refine x_dup dX14_readTerm_176 rfl ?_
            refine x_get lf_X14_199 dX14_readTerm_177 dc8.1 rfl ?_
            refine x_iconst (v := 1) dX14_readTerm_180 (by decide) ?_
            refine x_iadd dX14_readTerm_181 ?_
            refine x_top (y := nI i) (by rw [show (1 : Int32) = nI 1 from rfl, nI_add, hiT]) ?_
            refine x_put [.int (nI i), .int (nI v7.2.2.2.2), .int pl, .ref (h1.2 + 1), .ref (h1.2 + 2), .ref (h1.2 + 3), .ref (h1.2 + 4), .ref (h1.2 + 5)] lf_X14_199 dX14_readTerm_182 dc8.1 (Nat.le_of_ble_eq_true rfl) rfl rfl rfl ?_
            have D9 : dr9 (xup h8 h1.2 (.inr (12, [.int (nI i), .int (nI v7.2.2.2.2), .int pl, .ref (h1.2 + 1), .ref (h1.2 + 2), .ref (h1.2 + 3), .ref (h1.2 + 4), .ref (h1.2 + 5)]))) h1.2 v7 (i + 1) i pl XT9 := ⟨so8, kd8, on8, tz8, lt8, ⟨(xup_self _ _ _), ((xup_ne (by omega)).trans dc8.2.1), ((xup_ne (by omega)).trans dc8.2.2.1), ((xup_ne (by omega)).trans dc8.2.2.2.1), ((xup_ne (by omega)).trans dc8.2.2.2.2.1), ((xup_ne (by omega)).trans dc8.2.2.2.2.2)⟩, (fun j hj => by by_cases e : j = i; (subst e; exact dx8); exact de8 j (by omega)), dl8, trivial⟩
            exact x_vret dX14_readTerm_185 rfl (Nat.le_refl _) (Nat.le_refl _) (Or.inr ⟨q7, v7, k + 3, (by unfold pTerm; rw [if_pos hun]; unfold pUnl; rw [y4]; simp only []; rw [if_pos (hq109.mp c_112)]; unfold pUn2; rw [y7]), rfl, hk7, g7, w7, ar7, tw7, kw7, MM8.re rfl (fun q9 hq9 => xup_ne (by omega)) D9⟩)
          · rcases z with ⟨e9, p9, y9, ev, z1, q9, z2, z3⟩ | ⟨_, _, _, _, ev, _⟩ <;> cases ev
            exact x_out (fun x hx => by cases hx) hc9 (Nat.le_refl _) (Nat.le_refl _) (Or.inl ⟨e9, p9, (by unfold pTerm; rw [if_pos hun]; unfold pUnl; rw [y4]; simp only []; rw [if_pos (hq109.mp c_112)]; unfold pUn2; rw [y9]), rfl, z1, q9, ((extQ_rf q).tr rx4).tr z2, z3⟩)
        · have c_112 := bi_f c_112
          refine x_aload_n dX14_readTerm_115 rfl ?_
          refine x_iconst (v := 1) dX14_readTerm_116 (by decide) ?_
          refine x_aload_n dX14_readTerm_117 rfl ?_
          refine x_get lf_X14_114 dX14_readTerm_118 M5.o rfl ?_
          refine x_callV (As := [.int 1, .int (g4 22)]) (st := []) lv_X14_136 (k_X14_stop M5) dX14_readTerm_121 M5.o rfl rfl (Nat.le_of_ble_eq_true rfl) ⟨by decide, by decide⟩ ⟨by decide, by decide⟩ (fun v9 h9 z => ?_) (fun _ _ _ _ _ z => by cases z.1)
          obtain ⟨ev, eh⟩ := z
          rw [eh]
          cases ev
          refine x_athrow dX14_readTerm_124 (x_out (fun x hx => by cases hx) (xup_self _ _ _) (Nat.le_refl _) (Nat.le_refl _) (Or.inl ⟨1, (tk (k + 1)).2.1, (by unfold pTerm; rw [if_pos hun]; unfold pUnl; rw [y4]; simp only []; rw [if_neg (fun z => by rw [hq109.mpr z] at c_112; cases c_112)]), rfl, (by rw [← cu5.1]; exact xup_self _ _ _), q4, ((extQ_rf q).tr rx4), MM5.bad⟩))
      · rcases z with ⟨e9, p9, y9, ev, z1, q9, z2, z3⟩ | ⟨_, _, _, _, ev, _⟩ <;> cases ev
        exact x_out (fun x hx => by cases hx) hc9 (Nat.le_refl _) (Nat.le_refl _) (Or.inl ⟨e9, p9, (by unfold pTerm; rw [if_pos hun]; unfold pUnl; rw [y9]), rfl, z1, q9, (extQ_rf q).tr z2, z3⟩)
    · refine x_aload_n dX14_readTerm_65 rfl ?_
      have e2 : (tk k).1 = 2 := (cur_s cu1).1.mp (by first | exact c_5 | exact absurd (by assumption) c_62)
      obtain ⟨cw1, cw2, cw3, cw4, cw5⟩ := cu1.2.2.2.1 e2
      obtain ⟨hku, hlxu⟩ := tkT_nx tT hk (by omega)
      refine x_callV (As := []) (st := []) lv_X14_202 (k_X14_unl M1 (hTT ak1) hlxu ((gk1 19 (by omega)).trans h09) cw5) dX14_readTerm_66 M1.o rfl rfl (Nat.le_of_ble_eq_true rfl) ⟨by decide, by decide⟩ ⟨by decide, by decide⟩ (fun v9 h9 z => ?_) (fun _ _ _ _ _ z => by obtain ⟨_, z, _⟩ := z; cases z)
      obtain ⟨bu9, ev, eh, hbu⟩ := z
      rw [eh]
      cases ev
      refine x_if_eq 146 dX14_readTerm_69 (by decide) (fun c_69 => ?_) (fun c_69 => ?_)
      · have c_69 := bi_f c_69
        have hun : ¬ ((tk k).1 = 3 ∨ ((tk k).1 = 2 ∧ (tk (k + 1)).1 = 35)) := fun z => z.elim (fun y => c_62 ((cur_s cu1).2.1.mpr y)) (fun y => by rw [hbu.mpr y.2] at c_69; cases c_69)
        refine x_aload_n dX14_readTerm_146 rfl ?_
        refine x_callV (As := []) (st := []) lv_X14_165 (k_X14_isNot M1 cu1 (hO k hk).2.2) dX14_readTerm_147 M1.o rfl rfl (Nat.le_of_ble_eq_true rfl) ⟨by decide, by decide⟩ ⟨by decide, by decide⟩ (fun v9 h9 z => ?_) (fun _ _ _ _ _ z => by obtain ⟨_, z, _⟩ := z; cases z)
        obtain ⟨bn9, ev, eh, hbn⟩ := z
        rw [eh]
        cases ev
        refine x_if_eq 166 dX14_readTerm_150 (by decide) (fun c_150 => ?_) (fun c_150 => ?_)
        · have c_150 := bi_f c_150
          refine x_aload_n dX14_readTerm_166 rfl ?_
          refine x_iload_n dX14_readTerm_167 rfl ?_
          refine x_iconst (v := 0) dX14_readTerm_168 (by decide) ?_
          have MV2 := MM.new hiT 0
          obtain ⟨gt0, gt1, gt2, gt3⟩ := clV_get (szV v i) i 0
          refine x_callV (As := [.int (nI i), .int 0]) (st := []) lv_X14_188 (k_X14_readAtom tT hn4 hb h09 hT0 MV2 hk hi (hnew 0) gt2 gt3 gt0) dX14_readTerm_169 M1.o rfl rfl (Nat.le_of_ble_eq_true rfl) ⟨by decide, by decide⟩ ⟨by decide, by decide⟩ (fun v9 h2 z => ?_) (fun q9 ci9 fs9 h9 hc9 z => ?_)
          · rcases z with ⟨_, _, _, ev, _⟩ | ⟨q2, v2, k2, y2, ev, hk2, g2, w2, ar2, tw2, kw2, MN2⟩ <;> cases ev
            obtain ⟨M2, cu2, gk2, ak2, qm2, gg2, dr2, sm2, bd2, fr2⟩ := id MN2
            obtain ⟨so2, kd2, on2, tz2, lt2, dc2, de2, dl2, dx2⟩ := id dr2
            refine x_aload_n dX14_readTerm_172 rfl ?_
            refine x_get lf_X14_146 dX14_readTerm_173 M2.o rfl ?_
            refine x_dup dX14_readTerm_176 rfl ?_
            refine x_get lf_X14_199 dX14_readTerm_177 dc2.1 rfl ?_
            refine x_iconst (v := 1) dX14_readTerm_180 (by decide) ?_
            refine x_iadd dX14_readTerm_181 ?_
            refine x_top (y := nI i) (by rw [show (1 : Int32) = nI 1 from rfl, nI_add, hiT]) ?_
            refine x_put [.int (nI i), .int (nI v2.2.2.2.2), .int pl, .ref (h1.2 + 1), .ref (h1.2 + 2), .ref (h1.2 + 3), .ref (h1.2 + 4), .ref (h1.2 + 5)] lf_X14_199 dX14_readTerm_182 dc2.1 (Nat.le_of_ble_eq_true rfl) rfl rfl rfl ?_
            have D9 : dr9 (xup h2 h1.2 (.inr (12, [.int (nI i), .int (nI v2.2.2.2.2), .int pl, .ref (h1.2 + 1), .ref (h1.2 + 2), .ref (h1.2 + 3), .ref (h1.2 + 4), .ref (h1.2 + 5)]))) h1.2 v2 (i + 1) i pl XT9 := ⟨so2, kd2, on2, tz2, lt2, ⟨(xup_self _ _ _), ((xup_ne (by omega)).trans dc2.2.1), ((xup_ne (by omega)).trans dc2.2.2.1), ((xup_ne (by omega)).trans dc2.2.2.2.1), ((xup_ne (by omega)).trans dc2.2.2.2.2.1), ((xup_ne (by omega)).trans dc2.2.2.2.2.2)⟩, de2, dl2, trivial⟩
            exact x_vret dX14_readTerm_185 rfl (Nat.le_refl _) (Nat.le_refl _) (Or.inr ⟨q2, v2, k2, (by unfold pTerm; rw [if_neg hun, if_neg (fun z => by rw [hbn.mpr z] at c_150; cases c_150)]; exact y2), rfl, hk2, g2, w2, ar2, tw2, kw2, MN2.re rfl (fun q9 hq9 => xup_ne (by omega)) D9⟩)
          · rcases z with ⟨e9, p9, y9, ev, z1, q9, z2, z3⟩ | ⟨_, _, _, _, ev, _⟩ <;> cases ev
            exact x_out (fun x hx => by cases hx) hc9 (Nat.le_refl _) (Nat.le_refl _) (Or.inl ⟨e9, p9, (by unfold pTerm; rw [if_neg hun, if_neg (fun z => by rw [hbn.mpr z] at c_150; cases c_150)]; exact y9), rfl, z1, q9, z2, z3⟩)
        · have c_150 := bi_t c_150
          refine x_aload_n dX14_readTerm_153 rfl ?_
          obtain ⟨cn1, cn2, cn3, cn4, cn5⟩ := cu1.2.2.2.1 (hbn.mp c_150).1
          have htn : (tk k).1 = 2 := (hbn.mp c_150).1
          obtain ⟨hk2, hlx2⟩ := tkT_nx tT hk (by omega)
          refine x_callV (As := []) (st := []) lv_X14_143 (k_X14_next M1 (hTT ak1) hlx2 ((gk1 19 (by omega)).trans h09) cn5) dX14_readTerm_154 M1.o rfl rfl (Nat.le_of_ble_eq_true rfl) ⟨by decide, by decide⟩ ⟨by decide, by decide⟩ (fun v9 h2 z => ?_) (fun _ _ _ _ _ z => by cases z.1)
          obtain ⟨ev, y2, g2, w2, Mx2, s2, cx2⟩ := z
          cases ev
          have MM2 : MR9 h1 h2 g0 ar0 rf rc tk pos q v (k + 1) T (T + 1) T pl XT9 g2 w2 ar tw kw := MM.nx y2 Mx2 s2 cx2
          obtain ⟨M2, cu2, gk2, ak2, qm2, gg2, dr2, sm2, bd2, fr2⟩ := id MM2
          obtain ⟨so2, kd2, on2, tz2, lt2, dc2, de2, dl2, dx2⟩ := id dr2
          refine x_aload_n dX14_readTerm_157 rfl ?_
          refine x_iload_n dX14_readTerm_158 rfl ?_
          refine x_iconst (v := 1) dX14_readTerm_159 (by decide) ?_
          have MV3 := MM2.new hiT 1
          obtain ⟨gt0, gt1, gt2, gt3⟩ := clV_get (szV v i) i 1
          refine x_callV (As := [.int (nI i), .int 1]) (st := []) lv_X14_188 (k_X14_readAtom tT hn4 hb h09 hT0 MV3 hk2 hi (hnew 1) gt2 gt3 gt0) dX14_readTerm_160 M2.o rfl rfl (Nat.le_of_ble_eq_true rfl) ⟨by decide, by decide⟩ ⟨by decide, by decide⟩ (fun v9 h3 z => ?_) (fun q9 ci9 fs9 h9 hc9 z => ?_)
          · rcases z with ⟨_, _, _, ev, _⟩ | ⟨q3, v3, k3, y3, ev, hk3, g3, w3, ar3, tw3, kw3, MN3⟩ <;> cases ev
            obtain ⟨M3, cu3, gk3, ak3, qm3, gg3, dr3, sm3, bd3, fr3⟩ := id MN3
            obtain ⟨so3, kd3, on3, tz3, lt3, dc3, de3, dl3, dx3⟩ := id dr3
            refine x_goto 172 dX14_readTerm_163 (by decide) ?_
            refine x_aload_n dX14_readTerm_172 rfl ?_
            refine x_get lf_X14_146 dX14_readTerm_173 M3.o rfl ?_
            refine x_dup dX14_readTerm_176 rfl ?_
            refine x_get lf_X14_199 dX14_readTerm_177 dc3.1 rfl ?_
            refine x_iconst (v := 1) dX14_readTerm_180 (by decide) ?_
            refine x_iadd dX14_readTerm_181 ?_
            refine x_top (y := nI i) (by rw [show (1 : Int32) = nI 1 from rfl, nI_add, hiT]) ?_
            refine x_put [.int (nI i), .int (nI v3.2.2.2.2), .int pl, .ref (h1.2 + 1), .ref (h1.2 + 2), .ref (h1.2 + 3), .ref (h1.2 + 4), .ref (h1.2 + 5)] lf_X14_199 dX14_readTerm_182 dc3.1 (Nat.le_of_ble_eq_true rfl) rfl rfl rfl ?_
            have D9 : dr9 (xup h3 h1.2 (.inr (12, [.int (nI i), .int (nI v3.2.2.2.2), .int pl, .ref (h1.2 + 1), .ref (h1.2 + 2), .ref (h1.2 + 3), .ref (h1.2 + 4), .ref (h1.2 + 5)]))) h1.2 v3 (i + 1) i pl XT9 := ⟨so3, kd3, on3, tz3, lt3, ⟨(xup_self _ _ _), ((xup_ne (by omega)).trans dc3.2.1), ((xup_ne (by omega)).trans dc3.2.2.1), ((xup_ne (by omega)).trans dc3.2.2.2.1), ((xup_ne (by omega)).trans dc3.2.2.2.2.1), ((xup_ne (by omega)).trans dc3.2.2.2.2.2)⟩, de3, dl3, trivial⟩
            exact x_vret dX14_readTerm_185 rfl (Nat.le_refl _) (Nat.le_refl _) (Or.inr ⟨q3, v3, k3, (by unfold pTerm; rw [if_neg hun, if_pos (hbn.mp c_150)]; exact y3), rfl, hk3, g3, w3, ar3, tw3, kw3, MN3.re rfl (fun q9 hq9 => xup_ne (by omega)) D9⟩)
          · rcases z with ⟨e9, p9, y9, ev, z1, q9, z2, z3⟩ | ⟨_, _, _, _, ev, _⟩ <;> cases ev
            exact x_out (fun x hx => by cases hx) hc9 (Nat.le_refl _) (Nat.le_refl _) (Or.inl ⟨e9, p9, (by unfold pTerm; rw [if_neg hun, if_pos (hbn.mp c_150)]; exact y9), rfl, z1, q9, z2, z3⟩)
      · have c_69 := bi_t c_69
        have hun : (tk k).1 = 3 ∨ ((tk k).1 = 2 ∧ (tk (k + 1)).1 = 35) := by first | exact Or.inl ((cur_s cu1).2.1.mp c_62) | exact Or.inr ⟨e2, hbu.mp c_69⟩
        have MV := MM.new hiT 2
        obtain ⟨gt0, gt1, gt2, gt3⟩ := clV_get (szV v i) i 2
        obtain ⟨M2, cu2, gk2, ak2, qm2, gg2, dr2, sm2, bd2, fr2⟩ := id MV
        obtain ⟨so2, kd2, on2, tz2, lt2, dc2, de2, dl2, dx2⟩ := id dr2
        refine x_aload_n dX14_readTerm_72 rfl ?_
        refine x_get lf_X14_146 dX14_readTerm_73 M2.o rfl ?_
        refine x_get lf_X14_169 dX14_readTerm_76 dc2.1 rfl ?_
        refine x_iload_n dX14_readTerm_79 rfl ?_
        refine x_iconst (v := 2) dX14_readTerm_80 (by decide) ?_
        refine x_iastN (j := i) dc2.2.1 rfl (by omega) (by decide) dX14_readTerm_81 ?_
        refine x_aload_n dX14_readTerm_82 rfl ?_
        refine x_get lf_X14_146 dX14_readTerm_83 ((xup_ne (by omega)).trans M2.o) rfl ?_
        refine x_get lf_X14_171 dX14_readTerm_86 ((xup_ne (by omega)).trans dc2.1) rfl ?_
        refine x_iload_n dX14_readTerm_89 rfl ?_
        refine x_iconst (v := (-1)) dX14_readTerm_90 (by decide) ?_
        refine x_iastN (j := i) ((xup_ne (by omega)).trans dc2.2.2.1) rfl (by omega) (by decide) dX14_readTerm_91 ?_
        have D3 : dr9 (xup (xup h (h1.2 + 1) (.inl (0, 5, .inl (upd so2 i 2)))) (h1.2 + 2) (.inl (0, 5, .inl (upd kd2 i (-1))))) h1.2 (clV (szV v i) i 2) i T pl (fun so kd on tz => so i = tmI (clV (szV v i) i 2) i 0 ∧ kd i = tmI (clV (szV v i) i 2) i 1) := by
          refine ⟨upd so2 i 2, upd kd2 i (-1), on2, tz2, lt2, ⟨((xup_ne (by omega)).trans ((xup_ne (by omega)).trans dc2.1)), ((xup_ne (by omega)).trans (xup_self _ _ _)), (xup_self _ _ _), ((xup_ne (by omega)).trans ((xup_ne (by omega)).trans dc2.2.2.2.1)), ((xup_ne (by omega)).trans ((xup_ne (by omega)).trans dc2.2.2.2.2.1)), ((xup_ne (by omega)).trans ((xup_ne (by omega)).trans dc2.2.2.2.2.2))⟩, fun j hj => by rw [upd_nq (by omega), upd_nq (by omega)]; exact de2 j hj, dl2, ?_⟩
          exact ⟨upd_at9.trans gt0.symm, upd_at9.trans gt1.symm⟩
        have MM3 : MR9 h1 (xup (xup h (h1.2 + 1) (.inl (0, 5, .inl (upd so2 i 2)))) (h1.2 + 2) (.inl (0, 5, .inl (upd kd2 i (-1))))) g0 ar0 rf rc tk pos q (clV (szV v i) i 2) k i i T pl (fun so kd on tz => so i = tmI (clV (szV v i) i 2) i 0 ∧ kd i = tmI (clV (szV v i) i 2) i 1) g w ar tw kw := MV.re rfl (fun q9 hq9 => (xup_ne (by omega)).trans (xup_ne (by omega))) D3
        generalize xup (xup h (h1.2 + 1) (.inl (0, 5, .inl (upd so2 i 2)))) (h1.2 + 2) (.inl (0, 5, .inl (upd kd2 i (-1)))) = h3 at MM3 ⊢
        obtain ⟨M3, cu3, gk3, ak3, qm3, gg3, dr3, sm3, bd3, fr3⟩ := id MM3
        obtain ⟨so3, kd3, on3, tz3, lt3, dc3, de3, dl3, dx3⟩ := id dr3
        refine x_aload_n dX14_readTerm_92 rfl ?_
        refine x_get lf_X14_146 dX14_readTerm_93 M3.o rfl ?_
        refine x_get lf_X14_173 dX14_readTerm_96 dc3.1 rfl ?_
        refine x_iload_n dX14_readTerm_99 rfl ?_
        refine x_aload_n dX14_readTerm_100 rfl ?_
        refine x_iconst (v := 0) dX14_readTerm_101 (by decide) ?_
        refine x_top (y := bi (decide (1 ≤ i ∧ tmI (clV (szV v i) i 2) i 0 = 0))) (by rw [decide_eq_false (show ¬ (1 ≤ i ∧ tmI (clV (szV v i) i 2) i 0 = 0) from fun z => absurd ((gt0).symm.trans z.2) (by decide))]; rfl) ?_
        refine x_callV (As := [.int (bi (decide (1 ≤ i ∧ tmI (clV (szV v i) i 2) i 0 = 0)))]) (st := [.int (nI i), .ref (h1.2 + 3)]) lv_X14_182 (k_X14_readArg tT hn4 hb h09 hT0 MM3 hk (Nat.le_refl _) hi (hnew 2).2.1.2.2 (bf := true) (bd9 := (decide (1 ≤ i ∧ tmI (clV (szV v i) i 2) i 0 = 0))) (by rw [decide_eq_true_iff]) gt3 (fun _ => gt2) (stL_l1 hi gt3)) dX14_readTerm_102 M3.o rfl rfl (Nat.le_of_ble_eq_true rfl) ⟨by decide, by decide⟩ ⟨by decide, by decide⟩ (fun v9 h4 z => ?_) (fun q9 ci9 fs9 h9 hc9 z => ?_)
        · rcases z with ⟨_, _, _, ev, _⟩ | ⟨q4, v4, x4, y4, ev, ex4, g4, w4, ar4, tw4, kw4, MN4⟩ <;> cases ev
          have hk4 : k + 1 < ts := (tkT_nx tT hk (pArg_ty y4)).1
          have hpp4 : (tk (k)).2.1 ≤ 400 := (hO (k) hk).2.1
          obtain ⟨r4, ro4, rx4, rq4, ⟨ra4, rb4, rc4⟩, rt4, rf4⟩ := rdP_arg y4 (hnew 2) hpp4 (fun _ => gt2) gt3
          obtain ⟨M4, cu4, gk4, ak4, qm4, gg4, dr4, sm4, bd4, fr4⟩ := id MN4
          obtain ⟨so4, kd4, on4, tz4, lt4, dc4, de4, dl4, dx4⟩ := id dr4
          refine x_iastN (j := i) dc4.2.2.2.1 rfl (by omega) (by decide) dX14_readTerm_105 ?_
          have D5 : dr9 (xup h4 (h1.2 + 3) (.inl (0, 5, .inl (upd on4 i x4)))) h1.2 v4 i T pl (fun so kd on tz => so i = tmI v4 i 0 ∧ kd i = tmI v4 i 1 ∧ on i = tmI v4 i 2) := by
            refine ⟨so4, kd4, (upd on4 i x4), tz4, lt4, ⟨((xup_ne (by omega)).trans dc4.1), ((xup_ne (by omega)).trans dc4.2.1), ((xup_ne (by omega)).trans dc4.2.2.1), (xup_self _ _ _), ((xup_ne (by omega)).trans dc4.2.2.2.2.1), ((xup_ne (by omega)).trans dc4.2.2.2.2.2)⟩, fun j hj => by rw [upd_nq (by omega)]; exact de4 j hj, dl4, ?_⟩
            obtain ⟨a1, a2⟩ := dx4
            exact ⟨a1.trans ra4.symm, a2.trans rb4.symm, upd_at9.trans ex4⟩
          have MM5 : MR9 h1 (xup h4 (h1.2 + 3) (.inl (0, 5, .inl (upd on4 i x4)))) g0 ar0 rf rc tk pos q4 v4 (k + 1) i i T pl (fun so kd on tz => so i = tmI v4 i 0 ∧ kd i = tmI v4 i 1 ∧ on i = tmI v4 i 2) g4 w4 ar4 tw4 kw4 := MN4.re rfl (fun q9 hq9 => xup_ne (by omega)) D5
          generalize xup h4 (h1.2 + 3) (.inl (0, 5, .inl (upd on4 i x4))) = h5 at MM5 ⊢
          obtain ⟨M5, cu5, gk5, ak5, qm5, gg5, dr5, sm5, bd5, fr5⟩ := id MM5
          obtain ⟨so5, kd5, on5, tz5, lt5, dc5, de5, dl5, dx5⟩ := id dr5
          refine x_aload_n dX14_readTerm_106 rfl ?_
          refine x_bipush (v := 35) dX14_readTerm_107 (by decide) ?_
          refine x_callV (As := [.int (nI 35)]) (st := []) lv_X14_179 (k_X14_is M5 cu5 (hO (k + 1) hk4).1 (by omega) (by omega)) dX14_readTerm_109 M5.o rfl rfl (Nat.le_of_ble_eq_true rfl) ⟨by decide, by decide⟩ ⟨by decide, by decide⟩ (fun v9 h9 z => ?_) (fun _ _ _ _ _ z => by obtain ⟨_, z, _⟩ := z; cases z)
          obtain ⟨bq109, ev, eh, hq109⟩ := z
          rw [eh]
          cases ev
          refine x_if_ne 125 dX14_readTerm_112 (by decide) (fun c_112 => ?_) (fun c_112 => ?_)
          · have c_112 := bi_t c_112
            refine x_aload_n dX14_readTerm_125 rfl ?_
            have ht5 : (tk (k + 1)).1 = 35 := hq109.mp c_112
            obtain ⟨hk6, hlx6⟩ := tkT_nx tT hk4 (by omega)
            refine x_callV (As := []) (st := []) lv_X14_143 (k_X14_next M5 (hTT ak5) hlx6 ((gk5 19 (by omega)).trans h09) ((cu5.2.2.2.2.2 (by omega)).2.2)) dX14_readTerm_126 M5.o rfl rfl (Nat.le_of_ble_eq_true rfl) ⟨by decide, by decide⟩ ⟨by decide, by decide⟩ (fun v9 h6 z => ?_) (fun _ _ _ _ _ z => by cases z.1)
            obtain ⟨ev, y6, g6, w6, Mx6, s6, cx6⟩ := z
            cases ev
            have MM6 : MR9 h1 h6 g0 ar0 rf rc tk pos q4 v4 (k + 2) i i T pl (fun so kd on tz => so i = tmI v4 i 0 ∧ kd i = tmI v4 i 1 ∧ on i = tmI v4 i 2) g6 w6 ar4 tw4 kw4 := MM5.nx y6 Mx6 s6 cx6
            obtain ⟨M6, cu6, gk6, ak6, qm6, gg6, dr6, sm6, bd6, fr6⟩ := id MM6
            obtain ⟨so6, kd6, on6, tz6, lt6, dc6, de6, dl6, dx6⟩ := id dr6
            refine x_aload_n dX14_readTerm_129 rfl ?_
            refine x_get lf_X14_146 dX14_readTerm_130 M6.o rfl ?_
            refine x_get lf_X14_176 dX14_readTerm_133 dc6.1 rfl ?_
            refine x_iload_n dX14_readTerm_136 rfl ?_
            refine x_aload_n dX14_readTerm_137 rfl ?_
            refine x_iconst (v := 0) dX14_readTerm_138 (by decide) ?_
            refine x_top (y := bi (decide (1 ≤ i ∧ tmI v4 i 0 = 0))) (by rw [decide_eq_false (show ¬ (1 ≤ i ∧ tmI v4 i 0 = 0) from fun z => absurd (((ra4.trans gt0)).symm.trans z.2) (by decide))]; rfl) ?_
            refine x_callV (As := [.int (bi (decide (1 ≤ i ∧ tmI v4 i 0 = 0)))]) (st := [.int (nI i), .ref (h1.2 + 4)]) lv_X14_182 (k_X14_readArg tT hn4 hb h09 hT0 MM6 hk6 (Nat.le_refl _) hi r4.2.1.2.2 (bf := false) (bd9 := (decide (1 ≤ i ∧ tmI v4 i 0 = 0))) (by rw [decide_eq_true_iff]) (rt4 rfl).2 (fun z => by cases z) (stL_l1 hi (rt4 rfl).2)) dX14_readTerm_139 M6.o rfl rfl (Nat.le_of_ble_eq_true rfl) ⟨by decide, by decide⟩ ⟨by decide, by decide⟩ (fun v9 h7 z => ?_) (fun q9 ci9 fs9 h9 hc9 z => ?_)
            · rcases z with ⟨_, _, _, ev, _⟩ | ⟨q7, v7, x7, y7, ev, ex7, g7, w7, ar7, tw7, kw7, MN7⟩ <;> cases ev
              have hk7 : k + 3 < ts := (tkT_nx tT hk6 (pArg_ty y7)).1
              have hpp7 : (tk (k + 2)).2.1 ≤ 400 := (hO (k + 2) hk6).2.1
              obtain ⟨r7, ro7, rx7, rq7, ⟨ra7, rb7, rc7⟩, rt7, rf7⟩ := rdP_arg y7 r4 hpp7 (fun z => by cases z) (rt4 rfl).2
              obtain ⟨M7, cu7, gk7, ak7, qm7, gg7, dr7, sm7, bd7, fr7⟩ := id MN7
              obtain ⟨so7, kd7, on7, tz7, lt7, dc7, de7, dl7, dx7⟩ := id dr7
              refine x_iastN (j := i) dc7.2.2.2.2.1 rfl (by omega) (by decide) dX14_readTerm_142 ?_
              have D8 : dr9 (xup h7 (h1.2 + 4) (.inl (0, 5, .inl (upd tz7 i x7)))) h1.2 v7 i T pl (fun so kd on tz => so i = tmI v7 i 0 ∧ kd i = tmI v7 i 1 ∧ on i = tmI v7 i 2 ∧ tz i = tmI v7 i 3) := by
                refine ⟨so7, kd7, on7, (upd tz7 i x7), lt7, ⟨((xup_ne (by omega)).trans dc7.1), ((xup_ne (by omega)).trans dc7.2.1), ((xup_ne (by omega)).trans dc7.2.2.1), ((xup_ne (by omega)).trans dc7.2.2.2.1), (xup_self _ _ _), ((xup_ne (by omega)).trans dc7.2.2.2.2.2)⟩, fun j hj => by rw [upd_nq (by omega)]; exact de7 j hj, dl7, ?_⟩
                obtain ⟨a1, a2, a3⟩ := dx7
                exact ⟨a1.trans ra7.symm, a2.trans rb7.symm, a3.trans (rf7 rfl).1.symm, upd_at9.trans ex7⟩
              have MM8 : MR9 h1 (xup h7 (h1.2 + 4) (.inl (0, 5, .inl (upd tz7 i x7)))) g0 ar0 rf rc tk pos q7 v7 (k + 3) i i T pl (fun so kd on tz => so i = tmI v7 i 0 ∧ kd i = tmI v7 i 1 ∧ on i = tmI v7 i 2 ∧ tz i = tmI v7 i 3) g7 w7 ar7 tw7 kw7 := MN7.re rfl (fun q9 hq9 => xup_ne (by omega)) D8
              generalize xup h7 (h1.2 + 4) (.inl (0, 5, .inl (upd tz7 i x7))) = h8 at MM8 ⊢
              obtain ⟨M8, cu8, gk8, ak8, qm8, gg8, dr8, sm8, bd8, fr8⟩ := id MM8
              obtain ⟨so8, kd8, on8, tz8, lt8, dc8, de8, dl8, dx8⟩ := id dr8
              refine x_goto 172 dX14_readTerm_143 (by decide) ?_
              refine x_aload_n dX14_readTerm_172 rfl ?_
              refine x_get lf_X14_146 dX14_readTerm_173 M8.o rfl ?_
              refine x_dup dX14_readTerm_176 rfl ?_
              refine x_get lf_X14_199 dX14_readTerm_177 dc8.1 rfl ?_
              refine x_iconst (v := 1) dX14_readTerm_180 (by decide) ?_
              refine x_iadd dX14_readTerm_181 ?_
              refine x_top (y := nI i) (by rw [show (1 : Int32) = nI 1 from rfl, nI_add, hiT]) ?_
              refine x_put [.int (nI i), .int (nI v7.2.2.2.2), .int pl, .ref (h1.2 + 1), .ref (h1.2 + 2), .ref (h1.2 + 3), .ref (h1.2 + 4), .ref (h1.2 + 5)] lf_X14_199 dX14_readTerm_182 dc8.1 (Nat.le_of_ble_eq_true rfl) rfl rfl rfl ?_
              have D9 : dr9 (xup h8 h1.2 (.inr (12, [.int (nI i), .int (nI v7.2.2.2.2), .int pl, .ref (h1.2 + 1), .ref (h1.2 + 2), .ref (h1.2 + 3), .ref (h1.2 + 4), .ref (h1.2 + 5)]))) h1.2 v7 (i + 1) i pl XT9 := ⟨so8, kd8, on8, tz8, lt8, ⟨(xup_self _ _ _), ((xup_ne (by omega)).trans dc8.2.1), ((xup_ne (by omega)).trans dc8.2.2.1), ((xup_ne (by omega)).trans dc8.2.2.2.1), ((xup_ne (by omega)).trans dc8.2.2.2.2.1), ((xup_ne (by omega)).trans dc8.2.2.2.2.2)⟩, (fun j hj => by by_cases e : j = i; (subst e; exact dx8); exact de8 j (by omega)), dl8, trivial⟩
              exact x_vret dX14_readTerm_185 rfl (Nat.le_refl _) (Nat.le_refl _) (Or.inr ⟨q7, v7, k + 3, (by unfold pTerm; rw [if_pos hun]; unfold pUnl; rw [y4]; simp only []; rw [if_pos (hq109.mp c_112)]; unfold pUn2; rw [y7]), rfl, hk7, g7, w7, ar7, tw7, kw7, MM8.re rfl (fun q9 hq9 => xup_ne (by omega)) D9⟩)
            · rcases z with ⟨e9, p9, y9, ev, z1, q9, z2, z3⟩ | ⟨_, _, _, _, ev, _⟩ <;> cases ev
              exact x_out (fun x hx => by cases hx) hc9 (Nat.le_refl _) (Nat.le_refl _) (Or.inl ⟨e9, p9, (by unfold pTerm; rw [if_pos hun]; unfold pUnl; rw [y4]; simp only []; rw [if_pos (hq109.mp c_112)]; unfold pUn2; rw [y9]), rfl, z1, q9, ((extQ_rf q).tr rx4).tr z2, z3⟩)
          · have c_112 := bi_f c_112
            refine x_aload_n dX14_readTerm_115 rfl ?_
            refine x_iconst (v := 1) dX14_readTerm_116 (by decide) ?_
            refine x_aload_n dX14_readTerm_117 rfl ?_
            refine x_get lf_X14_114 dX14_readTerm_118 M5.o rfl ?_
            refine x_callV (As := [.int 1, .int (g4 22)]) (st := []) lv_X14_136 (k_X14_stop M5) dX14_readTerm_121 M5.o rfl rfl (Nat.le_of_ble_eq_true rfl) ⟨by decide, by decide⟩ ⟨by decide, by decide⟩ (fun v9 h9 z => ?_) (fun _ _ _ _ _ z => by cases z.1)
            obtain ⟨ev, eh⟩ := z
            rw [eh]
            cases ev
            refine x_athrow dX14_readTerm_124 (x_out (fun x hx => by cases hx) (xup_self _ _ _) (Nat.le_refl _) (Nat.le_refl _) (Or.inl ⟨1, (tk (k + 1)).2.1, (by unfold pTerm; rw [if_pos hun]; unfold pUnl; rw [y4]; simp only []; rw [if_neg (fun z => by rw [hq109.mpr z] at c_112; cases c_112)]), rfl, (by rw [← cu5.1]; exact xup_self _ _ _), q4, ((extQ_rf q).tr rx4), MM5.bad⟩))
        · rcases z with ⟨e9, p9, y9, ev, z1, q9, z2, z3⟩ | ⟨_, _, _, _, ev, _⟩ <;> cases ev
          exact x_out (fun x hx => by cases hx) hc9 (Nat.le_refl _) (Nat.le_refl _) (Or.inl ⟨e9, p9, (by unfold pTerm; rw [if_pos hun]; unfold pUnl; rw [y9]), rfl, z1, q9, (extQ_rf q).tr z2, z3⟩)
  · refine x_aload_n dX14_readTerm_8 rfl ?_
    refine x_get lf_X14_115 dX14_readTerm_9 M1.o rfl ?_
    refine x_iconst (v := 3) dX14_readTerm_12 (by decide) ?_
    refine x_icmp_eq 26 dX14_readTerm_13 (by decide) (fun c_13 => ?_) (fun c_13 => ?_)
    · refine x_aload_n dX14_readTerm_26 rfl ?_
      refine x_get lf_X14_146 dX14_readTerm_27 M1.o rfl ?_
      refine x_get lf_X14_199 dX14_readTerm_30 dc1.1 rfl ?_
      refine x_iconst (v := 4) dX14_readTerm_33 (by decide) ?_
      refine x_icmp_ne 47 dX14_readTerm_34 (by decide) (fun c_34 => ?_) (fun c_34 => absurd c_34 (by rw [show (4 : Int32) = nI 4 from rfl, nI_eq (by omega) (by omega)]; omega))
      refine x_aload_n dX14_readTerm_47 rfl ?_
      refine x_get lf_X14_146 dX14_readTerm_48 M1.o rfl ?_
      refine x_get lf_X14_199 dX14_readTerm_51 dc1.1 rfl ?_
      refine x_iconst (v := 1) dX14_readTerm_54 (by decide) ?_
      refine x_iadd dX14_readTerm_55 ?_
      refine x_top (y := nI (T + 1)) (nI_add T 1) ?_
      refine x_istore_n [(0, .ref 205), (1, .int (nI (T + 1)))] dX14_readTerm_56 (by decide) rfl rfl ?_
      rw [show T + 1 = i from hiT.symm]
      refine x_aload_n dX14_readTerm_57 rfl ?_
      refine x_get lf_X14_115 dX14_readTerm_58 M1.o rfl ?_
      refine x_iconst (v := 3) dX14_readTerm_61 (by decide) ?_
      refine x_icmp_eq 72 dX14_readTerm_62 (by decide) (fun c_62 => ?_) (fun c_62 => ?_)
      · have hun : (tk k).1 = 3 ∨ ((tk k).1 = 2 ∧ (tk (k + 1)).1 = 35) := by first | exact Or.inl ((cur_s cu1).2.1.mp c_62) | exact Or.inr ⟨e2, hbu.mp c_69⟩
        have MV := MM.new hiT 2
        obtain ⟨gt0, gt1, gt2, gt3⟩ := clV_get (szV v i) i 2
        obtain ⟨M2, cu2, gk2, ak2, qm2, gg2, dr2, sm2, bd2, fr2⟩ := id MV
        obtain ⟨so2, kd2, on2, tz2, lt2, dc2, de2, dl2, dx2⟩ := id dr2
        refine x_aload_n dX14_readTerm_72 rfl ?_
        refine x_get lf_X14_146 dX14_readTerm_73 M2.o rfl ?_
        refine x_get lf_X14_169 dX14_readTerm_76 dc2.1 rfl ?_
        refine x_iload_n dX14_readTerm_79 rfl ?_
        refine x_iconst (v := 2) dX14_readTerm_80 (by decide) ?_
        refine x_iastN (j := i) dc2.2.1 rfl (by omega) (by decide) dX14_readTerm_81 ?_
        refine x_aload_n dX14_readTerm_82 rfl ?_
        refine x_get lf_X14_146 dX14_readTerm_83 ((xup_ne (by omega)).trans M2.o) rfl ?_
        refine x_get lf_X14_171 dX14_readTerm_86 ((xup_ne (by omega)).trans dc2.1) rfl ?_
        refine x_iload_n dX14_readTerm_89 rfl ?_
        refine x_iconst (v := (-1)) dX14_readTerm_90 (by decide) ?_
        refine x_iastN (j := i) ((xup_ne (by omega)).trans dc2.2.2.1) rfl (by omega) (by decide) dX14_readTerm_91 ?_
        have D3 : dr9 (xup (xup h (h1.2 + 1) (.inl (0, 5, .inl (upd so2 i 2)))) (h1.2 + 2) (.inl (0, 5, .inl (upd kd2 i (-1))))) h1.2 (clV (szV v i) i 2) i T pl (fun so kd on tz => so i = tmI (clV (szV v i) i 2) i 0 ∧ kd i = tmI (clV (szV v i) i 2) i 1) := by
          refine ⟨upd so2 i 2, upd kd2 i (-1), on2, tz2, lt2, ⟨((xup_ne (by omega)).trans ((xup_ne (by omega)).trans dc2.1)), ((xup_ne (by omega)).trans (xup_self _ _ _)), (xup_self _ _ _), ((xup_ne (by omega)).trans ((xup_ne (by omega)).trans dc2.2.2.2.1)), ((xup_ne (by omega)).trans ((xup_ne (by omega)).trans dc2.2.2.2.2.1)), ((xup_ne (by omega)).trans ((xup_ne (by omega)).trans dc2.2.2.2.2.2))⟩, fun j hj => by rw [upd_nq (by omega), upd_nq (by omega)]; exact de2 j hj, dl2, ?_⟩
          exact ⟨upd_at9.trans gt0.symm, upd_at9.trans gt1.symm⟩
        have MM3 : MR9 h1 (xup (xup h (h1.2 + 1) (.inl (0, 5, .inl (upd so2 i 2)))) (h1.2 + 2) (.inl (0, 5, .inl (upd kd2 i (-1))))) g0 ar0 rf rc tk pos q (clV (szV v i) i 2) k i i T pl (fun so kd on tz => so i = tmI (clV (szV v i) i 2) i 0 ∧ kd i = tmI (clV (szV v i) i 2) i 1) g w ar tw kw := MV.re rfl (fun q9 hq9 => (xup_ne (by omega)).trans (xup_ne (by omega))) D3
        generalize xup (xup h (h1.2 + 1) (.inl (0, 5, .inl (upd so2 i 2)))) (h1.2 + 2) (.inl (0, 5, .inl (upd kd2 i (-1)))) = h3 at MM3 ⊢
        obtain ⟨M3, cu3, gk3, ak3, qm3, gg3, dr3, sm3, bd3, fr3⟩ := id MM3
        obtain ⟨so3, kd3, on3, tz3, lt3, dc3, de3, dl3, dx3⟩ := id dr3
        refine x_aload_n dX14_readTerm_92 rfl ?_
        refine x_get lf_X14_146 dX14_readTerm_93 M3.o rfl ?_
        refine x_get lf_X14_173 dX14_readTerm_96 dc3.1 rfl ?_
        refine x_iload_n dX14_readTerm_99 rfl ?_
        refine x_aload_n dX14_readTerm_100 rfl ?_
        refine x_iconst (v := 0) dX14_readTerm_101 (by decide) ?_
        refine x_top (y := bi (decide (1 ≤ i ∧ tmI (clV (szV v i) i 2) i 0 = 0))) (by rw [decide_eq_false (show ¬ (1 ≤ i ∧ tmI (clV (szV v i) i 2) i 0 = 0) from fun z => absurd ((gt0).symm.trans z.2) (by decide))]; rfl) ?_
        refine x_callV (As := [.int (bi (decide (1 ≤ i ∧ tmI (clV (szV v i) i 2) i 0 = 0)))]) (st := [.int (nI i), .ref (h1.2 + 3)]) lv_X14_182 (k_X14_readArg tT hn4 hb h09 hT0 MM3 hk (Nat.le_refl _) hi (hnew 2).2.1.2.2 (bf := true) (bd9 := (decide (1 ≤ i ∧ tmI (clV (szV v i) i 2) i 0 = 0))) (by rw [decide_eq_true_iff]) gt3 (fun _ => gt2) (stL_l1 hi gt3)) dX14_readTerm_102 M3.o rfl rfl (Nat.le_of_ble_eq_true rfl) ⟨by decide, by decide⟩ ⟨by decide, by decide⟩ (fun v9 h4 z => ?_) (fun q9 ci9 fs9 h9 hc9 z => ?_)
        · rcases z with ⟨_, _, _, ev, _⟩ | ⟨q4, v4, x4, y4, ev, ex4, g4, w4, ar4, tw4, kw4, MN4⟩ <;> cases ev
          have hk4 : k + 1 < ts := (tkT_nx tT hk (pArg_ty y4)).1
          have hpp4 : (tk (k)).2.1 ≤ 400 := (hO (k) hk).2.1
          obtain ⟨r4, ro4, rx4, rq4, ⟨ra4, rb4, rc4⟩, rt4, rf4⟩ := rdP_arg y4 (hnew 2) hpp4 (fun _ => gt2) gt3
          obtain ⟨M4, cu4, gk4, ak4, qm4, gg4, dr4, sm4, bd4, fr4⟩ := id MN4
          obtain ⟨so4, kd4, on4, tz4, lt4, dc4, de4, dl4, dx4⟩ := id dr4
          refine x_iastN (j := i) dc4.2.2.2.1 rfl (by omega) (by decide) dX14_readTerm_105 ?_
          have D5 : dr9 (xup h4 (h1.2 + 3) (.inl (0, 5, .inl (upd on4 i x4)))) h1.2 v4 i T pl (fun so kd on tz => so i = tmI v4 i 0 ∧ kd i = tmI v4 i 1 ∧ on i = tmI v4 i 2) := by
            refine ⟨so4, kd4, (upd on4 i x4), tz4, lt4, ⟨((xup_ne (by omega)).trans dc4.1), ((xup_ne (by omega)).trans dc4.2.1), ((xup_ne (by omega)).trans dc4.2.2.1), (xup_self _ _ _), ((xup_ne (by omega)).trans dc4.2.2.2.2.1), ((xup_ne (by omega)).trans dc4.2.2.2.2.2)⟩, fun j hj => by rw [upd_nq (by omega)]; exact de4 j hj, dl4, ?_⟩
            obtain ⟨a1, a2⟩ := dx4
            exact ⟨a1.trans ra4.symm, a2.trans rb4.symm, upd_at9.trans ex4⟩
          have MM5 : MR9 h1 (xup h4 (h1.2 + 3) (.inl (0, 5, .inl (upd on4 i x4)))) g0 ar0 rf rc tk pos q4 v4 (k + 1) i i T pl (fun so kd on tz => so i = tmI v4 i 0 ∧ kd i = tmI v4 i 1 ∧ on i = tmI v4 i 2) g4 w4 ar4 tw4 kw4 := MN4.re rfl (fun q9 hq9 => xup_ne (by omega)) D5
          generalize xup h4 (h1.2 + 3) (.inl (0, 5, .inl (upd on4 i x4))) = h5 at MM5 ⊢
          obtain ⟨M5, cu5, gk5, ak5, qm5, gg5, dr5, sm5, bd5, fr5⟩ := id MM5
          obtain ⟨so5, kd5, on5, tz5, lt5, dc5, de5, dl5, dx5⟩ := id dr5
          refine x_aload_n dX14_readTerm_106 rfl ?_
          refine x_bipush (v := 35) dX14_readTerm_107 (by decide) ?_
          refine x_callV (As := [.int (nI 35)]) (st := []) lv_X14_179 (k_X14_is M5 cu5 (hO (k + 1) hk4).1 (by omega) (by omega)) dX14_readTerm_109 M5.o rfl rfl (Nat.le_of_ble_eq_true rfl) ⟨by decide, by decide⟩ ⟨by decide, by decide⟩ (fun v9 h9 z => ?_) (fun _ _ _ _ _ z => by obtain ⟨_, z, _⟩ := z; cases z)
          obtain ⟨bq109, ev, eh, hq109⟩ := z
          rw [eh]
          cases ev
          refine x_if_ne 125 dX14_readTerm_112 (by decide) (fun c_112 => ?_) (fun c_112 => ?_)
          · have c_112 := bi_t c_112
            refine x_aload_n dX14_readTerm_125 rfl ?_
            have ht5 : (tk (k + 1)).1 = 35 := hq109.mp c_112
            obtain ⟨hk6, hlx6⟩ := tkT_nx tT hk4 (by omega)
            refine x_callV (As := []) (st := []) lv_X14_143 (k_X14_next M5 (hTT ak5) hlx6 ((gk5 19 (by omega)).trans h09) ((cu5.2.2.2.2.2 (by omega)).2.2)) dX14_readTerm_126 M5.o rfl rfl (Nat.le_of_ble_eq_true rfl) ⟨by decide, by decide⟩ ⟨by decide, by decide⟩ (fun v9 h6 z => ?_) (fun _ _ _ _ _ z => by cases z.1)
            obtain ⟨ev, y6, g6, w6, Mx6, s6, cx6⟩ := z
            cases ev
            have MM6 : MR9 h1 h6 g0 ar0 rf rc tk pos q4 v4 (k + 2) i i T pl (fun so kd on tz => so i = tmI v4 i 0 ∧ kd i = tmI v4 i 1 ∧ on i = tmI v4 i 2) g6 w6 ar4 tw4 kw4 := MM5.nx y6 Mx6 s6 cx6
            obtain ⟨M6, cu6, gk6, ak6, qm6, gg6, dr6, sm6, bd6, fr6⟩ := id MM6
            obtain ⟨so6, kd6, on6, tz6, lt6, dc6, de6, dl6, dx6⟩ := id dr6
            refine x_aload_n dX14_readTerm_129 rfl ?_
            refine x_get lf_X14_146 dX14_readTerm_130 M6.o rfl ?_
            refine x_get lf_X14_176 dX14_readTerm_133 dc6.1 rfl ?_
            refine x_iload_n dX14_readTerm_136 rfl ?_
            refine x_aload_n dX14_readTerm_137 rfl ?_
            refine x_iconst (v := 0) dX14_readTerm_138 (by decide) ?_
            refine x_top (y := bi (decide (1 ≤ i ∧ tmI v4 i 0 = 0))) (by rw [decide_eq_false (show ¬ (1 ≤ i ∧ tmI v4 i 0 = 0) from fun z => absurd (((ra4.trans gt0)).symm.trans z.2) (by decide))]; rfl) ?_
            refine x_callV (As := [.int (bi (decide (1 ≤ i ∧ tmI v4 i 0 = 0)))]) (st := [.int (nI i), .ref (h1.2 + 4)]) lv_X14_182 (k_X14_readArg tT hn4 hb h09 hT0 MM6 hk6 (Nat.le_refl _) hi r4.2.1.2.2 (bf := false) (bd9 := (decide (1 ≤ i ∧ tmI v4 i 0 = 0))) (by rw [decide_eq_true_iff]) (rt4 rfl).2 (fun z => by cases z) (stL_l1 hi (rt4 rfl).2)) dX14_readTerm_139 M6.o rfl rfl (Nat.le_of_ble_eq_true rfl) ⟨by decide, by decide⟩ ⟨by decide, by decide⟩ (fun v9 h7 z => ?_) (fun q9 ci9 fs9 h9 hc9 z => ?_)
            · rcases z with ⟨_, _, _, ev, _⟩ | ⟨q7, v7, x7, y7, ev, ex7, g7, w7, ar7, tw7, kw7, MN7⟩ <;> cases ev
              have hk7 : k + 3 < ts := (tkT_nx tT hk6 (pArg_ty y7)).1
              have hpp7 : (tk (k + 2)).2.1 ≤ 400 := (hO (k + 2) hk6).2.1
              obtain ⟨r7, ro7, rx7, rq7, ⟨ra7, rb7, rc7⟩, rt7, rf7⟩ := rdP_arg y7 r4 hpp7 (fun z => by cases z) (rt4 rfl).2
              obtain ⟨M7, cu7, gk7, ak7, qm7, gg7, dr7, sm7, bd7, fr7⟩ := id MN7
              obtain ⟨so7, kd7, on7, tz7, lt7, dc7, de7, dl7, dx7⟩ := id dr7
              refine x_iastN (j := i) dc7.2.2.2.2.1 rfl (by omega) (by decide) dX14_readTerm_142 ?_
              have D8 : dr9 (xup h7 (h1.2 + 4) (.inl (0, 5, .inl (upd tz7 i x7)))) h1.2 v7 i T pl (fun so kd on tz => so i = tmI v7 i 0 ∧ kd i = tmI v7 i 1 ∧ on i = tmI v7 i 2 ∧ tz i = tmI v7 i 3) := by
                refine ⟨so7, kd7, on7, (upd tz7 i x7), lt7, ⟨((xup_ne (by omega)).trans dc7.1), ((xup_ne (by omega)).trans dc7.2.1), ((xup_ne (by omega)).trans dc7.2.2.1), ((xup_ne (by omega)).trans dc7.2.2.2.1), (xup_self _ _ _), ((xup_ne (by omega)).trans dc7.2.2.2.2.2)⟩, fun j hj => by rw [upd_nq (by omega)]; exact de7 j hj, dl7, ?_⟩
                obtain ⟨a1, a2, a3⟩ := dx7
                exact ⟨a1.trans ra7.symm, a2.trans rb7.symm, a3.trans (rf7 rfl).1.symm, upd_at9.trans ex7⟩
              have MM8 : MR9 h1 (xup h7 (h1.2 + 4) (.inl (0, 5, .inl (upd tz7 i x7)))) g0 ar0 rf rc tk pos q7 v7 (k + 3) i i T pl (fun so kd on tz => so i = tmI v7 i 0 ∧ kd i = tmI v7 i 1 ∧ on i = tmI v7 i 2 ∧ tz i = tmI v7 i 3) g7 w7 ar7 tw7 kw7 := MN7.re rfl (fun q9 hq9 => xup_ne (by omega)) D8
              generalize xup h7 (h1.2 + 4) (.inl (0, 5, .inl (upd tz7 i x7))) = h8 at MM8 ⊢
              obtain ⟨M8, cu8, gk8, ak8, qm8, gg8, dr8, sm8, bd8, fr8⟩ := id MM8
              obtain ⟨so8, kd8, on8, tz8, lt8, dc8, de8, dl8, dx8⟩ := id dr8
              refine x_goto 172 dX14_readTerm_143 (by decide) ?_
              refine x_aload_n dX14_readTerm_172 rfl ?_
              refine x_get lf_X14_146 dX14_readTerm_173 M8.o rfl ?_
              refine x_dup dX14_readTerm_176 rfl ?_
              refine x_get lf_X14_199 dX14_readTerm_177 dc8.1 rfl ?_
              refine x_iconst (v := 1) dX14_readTerm_180 (by decide) ?_
              refine x_iadd dX14_readTerm_181 ?_
              refine x_top (y := nI i) (by rw [show (1 : Int32) = nI 1 from rfl, nI_add, hiT]) ?_
              refine x_put [.int (nI i), .int (nI v7.2.2.2.2), .int pl, .ref (h1.2 + 1), .ref (h1.2 + 2), .ref (h1.2 + 3), .ref (h1.2 + 4), .ref (h1.2 + 5)] lf_X14_199 dX14_readTerm_182 dc8.1 (Nat.le_of_ble_eq_true rfl) rfl rfl rfl ?_
              have D9 : dr9 (xup h8 h1.2 (.inr (12, [.int (nI i), .int (nI v7.2.2.2.2), .int pl, .ref (h1.2 + 1), .ref (h1.2 + 2), .ref (h1.2 + 3), .ref (h1.2 + 4), .ref (h1.2 + 5)]))) h1.2 v7 (i + 1) i pl XT9 := ⟨so8, kd8, on8, tz8, lt8, ⟨(xup_self _ _ _), ((xup_ne (by omega)).trans dc8.2.1), ((xup_ne (by omega)).trans dc8.2.2.1), ((xup_ne (by omega)).trans dc8.2.2.2.1), ((xup_ne (by omega)).trans dc8.2.2.2.2.1), ((xup_ne (by omega)).trans dc8.2.2.2.2.2)⟩, (fun j hj => by by_cases e : j = i; (subst e; exact dx8); exact de8 j (by omega)), dl8, trivial⟩
              exact x_vret dX14_readTerm_185 rfl (Nat.le_refl _) (Nat.le_refl _) (Or.inr ⟨q7, v7, k + 3, (by unfold pTerm; rw [if_pos hun]; unfold pUnl; rw [y4]; simp only []; rw [if_pos (hq109.mp c_112)]; unfold pUn2; rw [y7]), rfl, hk7, g7, w7, ar7, tw7, kw7, MM8.re rfl (fun q9 hq9 => xup_ne (by omega)) D9⟩)
            · rcases z with ⟨e9, p9, y9, ev, z1, q9, z2, z3⟩ | ⟨_, _, _, _, ev, _⟩ <;> cases ev
              exact x_out (fun x hx => by cases hx) hc9 (Nat.le_refl _) (Nat.le_refl _) (Or.inl ⟨e9, p9, (by unfold pTerm; rw [if_pos hun]; unfold pUnl; rw [y4]; simp only []; rw [if_pos (hq109.mp c_112)]; unfold pUn2; rw [y9]), rfl, z1, q9, ((extQ_rf q).tr rx4).tr z2, z3⟩)
          · have c_112 := bi_f c_112
            refine x_aload_n dX14_readTerm_115 rfl ?_
            refine x_iconst (v := 1) dX14_readTerm_116 (by decide) ?_
            refine x_aload_n dX14_readTerm_117 rfl ?_
            refine x_get lf_X14_114 dX14_readTerm_118 M5.o rfl ?_
            refine x_callV (As := [.int 1, .int (g4 22)]) (st := []) lv_X14_136 (k_X14_stop M5) dX14_readTerm_121 M5.o rfl rfl (Nat.le_of_ble_eq_true rfl) ⟨by decide, by decide⟩ ⟨by decide, by decide⟩ (fun v9 h9 z => ?_) (fun _ _ _ _ _ z => by cases z.1)
            obtain ⟨ev, eh⟩ := z
            rw [eh]
            cases ev
            refine x_athrow dX14_readTerm_124 (x_out (fun x hx => by cases hx) (xup_self _ _ _) (Nat.le_refl _) (Nat.le_refl _) (Or.inl ⟨1, (tk (k + 1)).2.1, (by unfold pTerm; rw [if_pos hun]; unfold pUnl; rw [y4]; simp only []; rw [if_neg (fun z => by rw [hq109.mpr z] at c_112; cases c_112)]), rfl, (by rw [← cu5.1]; exact xup_self _ _ _), q4, ((extQ_rf q).tr rx4), MM5.bad⟩))
        · rcases z with ⟨e9, p9, y9, ev, z1, q9, z2, z3⟩ | ⟨_, _, _, _, ev, _⟩ <;> cases ev
          exact x_out (fun x hx => by cases hx) hc9 (Nat.le_refl _) (Nat.le_refl _) (Or.inl ⟨e9, p9, (by unfold pTerm; rw [if_pos hun]; unfold pUnl; rw [y9]), rfl, z1, q9, (extQ_rf q).tr z2, z3⟩)
      · refine x_aload_n dX14_readTerm_65 rfl ?_
        have e2 : (tk k).1 = 2 := (cur_s cu1).1.mp (by first | exact c_5 | exact absurd (by assumption) c_62)
        obtain ⟨cw1, cw2, cw3, cw4, cw5⟩ := cu1.2.2.2.1 e2
        obtain ⟨hku, hlxu⟩ := tkT_nx tT hk (by omega)
        refine x_callV (As := []) (st := []) lv_X14_202 (k_X14_unl M1 (hTT ak1) hlxu ((gk1 19 (by omega)).trans h09) cw5) dX14_readTerm_66 M1.o rfl rfl (Nat.le_of_ble_eq_true rfl) ⟨by decide, by decide⟩ ⟨by decide, by decide⟩ (fun v9 h9 z => ?_) (fun _ _ _ _ _ z => by obtain ⟨_, z, _⟩ := z; cases z)
        obtain ⟨bu9, ev, eh, hbu⟩ := z
        rw [eh]
        cases ev
        refine x_if_eq 146 dX14_readTerm_69 (by decide) (fun c_69 => ?_) (fun c_69 => ?_)
        · have c_69 := bi_f c_69
          have hun : ¬ ((tk k).1 = 3 ∨ ((tk k).1 = 2 ∧ (tk (k + 1)).1 = 35)) := fun z => z.elim (fun y => c_62 ((cur_s cu1).2.1.mpr y)) (fun y => by rw [hbu.mpr y.2] at c_69; cases c_69)
          refine x_aload_n dX14_readTerm_146 rfl ?_
          refine x_callV (As := []) (st := []) lv_X14_165 (k_X14_isNot M1 cu1 (hO k hk).2.2) dX14_readTerm_147 M1.o rfl rfl (Nat.le_of_ble_eq_true rfl) ⟨by decide, by decide⟩ ⟨by decide, by decide⟩ (fun v9 h9 z => ?_) (fun _ _ _ _ _ z => by obtain ⟨_, z, _⟩ := z; cases z)
          obtain ⟨bn9, ev, eh, hbn⟩ := z
          rw [eh]
          cases ev
          refine x_if_eq 166 dX14_readTerm_150 (by decide) (fun c_150 => ?_) (fun c_150 => ?_)
          · have c_150 := bi_f c_150
            refine x_aload_n dX14_readTerm_166 rfl ?_
            refine x_iload_n dX14_readTerm_167 rfl ?_
            refine x_iconst (v := 0) dX14_readTerm_168 (by decide) ?_
            have MV2 := MM.new hiT 0
            obtain ⟨gt0, gt1, gt2, gt3⟩ := clV_get (szV v i) i 0
            refine x_callV (As := [.int (nI i), .int 0]) (st := []) lv_X14_188 (k_X14_readAtom tT hn4 hb h09 hT0 MV2 hk hi (hnew 0) gt2 gt3 gt0) dX14_readTerm_169 M1.o rfl rfl (Nat.le_of_ble_eq_true rfl) ⟨by decide, by decide⟩ ⟨by decide, by decide⟩ (fun v9 h2 z => ?_) (fun q9 ci9 fs9 h9 hc9 z => ?_)
            · rcases z with ⟨_, _, _, ev, _⟩ | ⟨q2, v2, k2, y2, ev, hk2, g2, w2, ar2, tw2, kw2, MN2⟩ <;> cases ev
              obtain ⟨M2, cu2, gk2, ak2, qm2, gg2, dr2, sm2, bd2, fr2⟩ := id MN2
              obtain ⟨so2, kd2, on2, tz2, lt2, dc2, de2, dl2, dx2⟩ := id dr2
              refine x_aload_n dX14_readTerm_172 rfl ?_
              refine x_get lf_X14_146 dX14_readTerm_173 M2.o rfl ?_
              refine x_dup dX14_readTerm_176 rfl ?_
              refine x_get lf_X14_199 dX14_readTerm_177 dc2.1 rfl ?_
              refine x_iconst (v := 1) dX14_readTerm_180 (by decide) ?_
              refine x_iadd dX14_readTerm_181 ?_
              refine x_top (y := nI i) (by rw [show (1 : Int32) = nI 1 from rfl, nI_add, hiT]) ?_
              refine x_put [.int (nI i), .int (nI v2.2.2.2.2), .int pl, .ref (h1.2 + 1), .ref (h1.2 + 2), .ref (h1.2 + 3), .ref (h1.2 + 4), .ref (h1.2 + 5)] lf_X14_199 dX14_readTerm_182 dc2.1 (Nat.le_of_ble_eq_true rfl) rfl rfl rfl ?_
              have D9 : dr9 (xup h2 h1.2 (.inr (12, [.int (nI i), .int (nI v2.2.2.2.2), .int pl, .ref (h1.2 + 1), .ref (h1.2 + 2), .ref (h1.2 + 3), .ref (h1.2 + 4), .ref (h1.2 + 5)]))) h1.2 v2 (i + 1) i pl XT9 := ⟨so2, kd2, on2, tz2, lt2, ⟨(xup_self _ _ _), ((xup_ne (by omega)).trans dc2.2.1), ((xup_ne (by omega)).trans dc2.2.2.1), ((xup_ne (by omega)).trans dc2.2.2.2.1), ((xup_ne (by omega)).trans dc2.2.2.2.2.1), ((xup_ne (by omega)).trans dc2.2.2.2.2.2)⟩, de2, dl2, trivial⟩
              exact x_vret dX14_readTerm_185 rfl (Nat.le_refl _) (Nat.le_refl _) (Or.inr ⟨q2, v2, k2, (by unfold pTerm; rw [if_neg hun, if_neg (fun z => by rw [hbn.mpr z] at c_150; cases c_150)]; exact y2), rfl, hk2, g2, w2, ar2, tw2, kw2, MN2.re rfl (fun q9 hq9 => xup_ne (by omega)) D9⟩)
            · rcases z with ⟨e9, p9, y9, ev, z1, q9, z2, z3⟩ | ⟨_, _, _, _, ev, _⟩ <;> cases ev
              exact x_out (fun x hx => by cases hx) hc9 (Nat.le_refl _) (Nat.le_refl _) (Or.inl ⟨e9, p9, (by unfold pTerm; rw [if_neg hun, if_neg (fun z => by rw [hbn.mpr z] at c_150; cases c_150)]; exact y9), rfl, z1, q9, z2, z3⟩)
          · have c_150 := bi_t c_150
            refine x_aload_n dX14_readTerm_153 rfl ?_
            obtain ⟨cn1, cn2, cn3, cn4, cn5⟩ := cu1.2.2.2.1 (hbn.mp c_150).1
            have htn : (tk k).1 = 2 := (hbn.mp c_150).1
            obtain ⟨hk2, hlx2⟩ := tkT_nx tT hk (by omega)
            refine x_callV (As := []) (st := []) lv_X14_143 (k_X14_next M1 (hTT ak1) hlx2 ((gk1 19 (by omega)).trans h09) cn5) dX14_readTerm_154 M1.o rfl rfl (Nat.le_of_ble_eq_true rfl) ⟨by decide, by decide⟩ ⟨by decide, by decide⟩ (fun v9 h2 z => ?_) (fun _ _ _ _ _ z => by cases z.1)
            obtain ⟨ev, y2, g2, w2, Mx2, s2, cx2⟩ := z
            cases ev
            have MM2 : MR9 h1 h2 g0 ar0 rf rc tk pos q v (k + 1) T (T + 1) T pl XT9 g2 w2 ar tw kw := MM.nx y2 Mx2 s2 cx2
            obtain ⟨M2, cu2, gk2, ak2, qm2, gg2, dr2, sm2, bd2, fr2⟩ := id MM2
            obtain ⟨so2, kd2, on2, tz2, lt2, dc2, de2, dl2, dx2⟩ := id dr2
            refine x_aload_n dX14_readTerm_157 rfl ?_
            refine x_iload_n dX14_readTerm_158 rfl ?_
            refine x_iconst (v := 1) dX14_readTerm_159 (by decide) ?_
            have MV3 := MM2.new hiT 1
            obtain ⟨gt0, gt1, gt2, gt3⟩ := clV_get (szV v i) i 1
            refine x_callV (As := [.int (nI i), .int 1]) (st := []) lv_X14_188 (k_X14_readAtom tT hn4 hb h09 hT0 MV3 hk2 hi (hnew 1) gt2 gt3 gt0) dX14_readTerm_160 M2.o rfl rfl (Nat.le_of_ble_eq_true rfl) ⟨by decide, by decide⟩ ⟨by decide, by decide⟩ (fun v9 h3 z => ?_) (fun q9 ci9 fs9 h9 hc9 z => ?_)
            · rcases z with ⟨_, _, _, ev, _⟩ | ⟨q3, v3, k3, y3, ev, hk3, g3, w3, ar3, tw3, kw3, MN3⟩ <;> cases ev
              obtain ⟨M3, cu3, gk3, ak3, qm3, gg3, dr3, sm3, bd3, fr3⟩ := id MN3
              obtain ⟨so3, kd3, on3, tz3, lt3, dc3, de3, dl3, dx3⟩ := id dr3
              refine x_goto 172 dX14_readTerm_163 (by decide) ?_
              refine x_aload_n dX14_readTerm_172 rfl ?_
              refine x_get lf_X14_146 dX14_readTerm_173 M3.o rfl ?_
              refine x_dup dX14_readTerm_176 rfl ?_
              refine x_get lf_X14_199 dX14_readTerm_177 dc3.1 rfl ?_
              refine x_iconst (v := 1) dX14_readTerm_180 (by decide) ?_
              refine x_iadd dX14_readTerm_181 ?_
              refine x_top (y := nI i) (by rw [show (1 : Int32) = nI 1 from rfl, nI_add, hiT]) ?_
              refine x_put [.int (nI i), .int (nI v3.2.2.2.2), .int pl, .ref (h1.2 + 1), .ref (h1.2 + 2), .ref (h1.2 + 3), .ref (h1.2 + 4), .ref (h1.2 + 5)] lf_X14_199 dX14_readTerm_182 dc3.1 (Nat.le_of_ble_eq_true rfl) rfl rfl rfl ?_
              have D9 : dr9 (xup h3 h1.2 (.inr (12, [.int (nI i), .int (nI v3.2.2.2.2), .int pl, .ref (h1.2 + 1), .ref (h1.2 + 2), .ref (h1.2 + 3), .ref (h1.2 + 4), .ref (h1.2 + 5)]))) h1.2 v3 (i + 1) i pl XT9 := ⟨so3, kd3, on3, tz3, lt3, ⟨(xup_self _ _ _), ((xup_ne (by omega)).trans dc3.2.1), ((xup_ne (by omega)).trans dc3.2.2.1), ((xup_ne (by omega)).trans dc3.2.2.2.1), ((xup_ne (by omega)).trans dc3.2.2.2.2.1), ((xup_ne (by omega)).trans dc3.2.2.2.2.2)⟩, de3, dl3, trivial⟩
              exact x_vret dX14_readTerm_185 rfl (Nat.le_refl _) (Nat.le_refl _) (Or.inr ⟨q3, v3, k3, (by unfold pTerm; rw [if_neg hun, if_pos (hbn.mp c_150)]; exact y3), rfl, hk3, g3, w3, ar3, tw3, kw3, MN3.re rfl (fun q9 hq9 => xup_ne (by omega)) D9⟩)
            · rcases z with ⟨e9, p9, y9, ev, z1, q9, z2, z3⟩ | ⟨_, _, _, _, ev, _⟩ <;> cases ev
              exact x_out (fun x hx => by cases hx) hc9 (Nat.le_refl _) (Nat.le_refl _) (Or.inl ⟨e9, p9, (by unfold pTerm; rw [if_neg hun, if_pos (hbn.mp c_150)]; exact y9), rfl, z1, q9, z2, z3⟩)
        · have c_69 := bi_t c_69
          have hun : (tk k).1 = 3 ∨ ((tk k).1 = 2 ∧ (tk (k + 1)).1 = 35) := by first | exact Or.inl ((cur_s cu1).2.1.mp c_62) | exact Or.inr ⟨e2, hbu.mp c_69⟩
          have MV := MM.new hiT 2
          obtain ⟨gt0, gt1, gt2, gt3⟩ := clV_get (szV v i) i 2
          obtain ⟨M2, cu2, gk2, ak2, qm2, gg2, dr2, sm2, bd2, fr2⟩ := id MV
          obtain ⟨so2, kd2, on2, tz2, lt2, dc2, de2, dl2, dx2⟩ := id dr2
          refine x_aload_n dX14_readTerm_72 rfl ?_
          refine x_get lf_X14_146 dX14_readTerm_73 M2.o rfl ?_
          refine x_get lf_X14_169 dX14_readTerm_76 dc2.1 rfl ?_
          refine x_iload_n dX14_readTerm_79 rfl ?_
          refine x_iconst (v := 2) dX14_readTerm_80 (by decide) ?_
          refine x_iastN (j := i) dc2.2.1 rfl (by omega) (by decide) dX14_readTerm_81 ?_
          refine x_aload_n dX14_readTerm_82 rfl ?_
          refine x_get lf_X14_146 dX14_readTerm_83 ((xup_ne (by omega)).trans M2.o) rfl ?_
          refine x_get lf_X14_171 dX14_readTerm_86 ((xup_ne (by omega)).trans dc2.1) rfl ?_
          refine x_iload_n dX14_readTerm_89 rfl ?_
          refine x_iconst (v := (-1)) dX14_readTerm_90 (by decide) ?_
          refine x_iastN (j := i) ((xup_ne (by omega)).trans dc2.2.2.1) rfl (by omega) (by decide) dX14_readTerm_91 ?_
          have D3 : dr9 (xup (xup h (h1.2 + 1) (.inl (0, 5, .inl (upd so2 i 2)))) (h1.2 + 2) (.inl (0, 5, .inl (upd kd2 i (-1))))) h1.2 (clV (szV v i) i 2) i T pl (fun so kd on tz => so i = tmI (clV (szV v i) i 2) i 0 ∧ kd i = tmI (clV (szV v i) i 2) i 1) := by
            refine ⟨upd so2 i 2, upd kd2 i (-1), on2, tz2, lt2, ⟨((xup_ne (by omega)).trans ((xup_ne (by omega)).trans dc2.1)), ((xup_ne (by omega)).trans (xup_self _ _ _)), (xup_self _ _ _), ((xup_ne (by omega)).trans ((xup_ne (by omega)).trans dc2.2.2.2.1)), ((xup_ne (by omega)).trans ((xup_ne (by omega)).trans dc2.2.2.2.2.1)), ((xup_ne (by omega)).trans ((xup_ne (by omega)).trans dc2.2.2.2.2.2))⟩, fun j hj => by rw [upd_nq (by omega), upd_nq (by omega)]; exact de2 j hj, dl2, ?_⟩
            exact ⟨upd_at9.trans gt0.symm, upd_at9.trans gt1.symm⟩
          have MM3 : MR9 h1 (xup (xup h (h1.2 + 1) (.inl (0, 5, .inl (upd so2 i 2)))) (h1.2 + 2) (.inl (0, 5, .inl (upd kd2 i (-1))))) g0 ar0 rf rc tk pos q (clV (szV v i) i 2) k i i T pl (fun so kd on tz => so i = tmI (clV (szV v i) i 2) i 0 ∧ kd i = tmI (clV (szV v i) i 2) i 1) g w ar tw kw := MV.re rfl (fun q9 hq9 => (xup_ne (by omega)).trans (xup_ne (by omega))) D3
          generalize xup (xup h (h1.2 + 1) (.inl (0, 5, .inl (upd so2 i 2)))) (h1.2 + 2) (.inl (0, 5, .inl (upd kd2 i (-1)))) = h3 at MM3 ⊢
          obtain ⟨M3, cu3, gk3, ak3, qm3, gg3, dr3, sm3, bd3, fr3⟩ := id MM3
          obtain ⟨so3, kd3, on3, tz3, lt3, dc3, de3, dl3, dx3⟩ := id dr3
          refine x_aload_n dX14_readTerm_92 rfl ?_
          refine x_get lf_X14_146 dX14_readTerm_93 M3.o rfl ?_
          refine x_get lf_X14_173 dX14_readTerm_96 dc3.1 rfl ?_
          refine x_iload_n dX14_readTerm_99 rfl ?_
          refine x_aload_n dX14_readTerm_100 rfl ?_
          refine x_iconst (v := 0) dX14_readTerm_101 (by decide) ?_
          refine x_top (y := bi (decide (1 ≤ i ∧ tmI (clV (szV v i) i 2) i 0 = 0))) (by rw [decide_eq_false (show ¬ (1 ≤ i ∧ tmI (clV (szV v i) i 2) i 0 = 0) from fun z => absurd ((gt0).symm.trans z.2) (by decide))]; rfl) ?_
          refine x_callV (As := [.int (bi (decide (1 ≤ i ∧ tmI (clV (szV v i) i 2) i 0 = 0)))]) (st := [.int (nI i), .ref (h1.2 + 3)]) lv_X14_182 (k_X14_readArg tT hn4 hb h09 hT0 MM3 hk (Nat.le_refl _) hi (hnew 2).2.1.2.2 (bf := true) (bd9 := (decide (1 ≤ i ∧ tmI (clV (szV v i) i 2) i 0 = 0))) (by rw [decide_eq_true_iff]) gt3 (fun _ => gt2) (stL_l1 hi gt3)) dX14_readTerm_102 M3.o rfl rfl (Nat.le_of_ble_eq_true rfl) ⟨by decide, by decide⟩ ⟨by decide, by decide⟩ (fun v9 h4 z => ?_) (fun q9 ci9 fs9 h9 hc9 z => ?_)
          · rcases z with ⟨_, _, _, ev, _⟩ | ⟨q4, v4, x4, y4, ev, ex4, g4, w4, ar4, tw4, kw4, MN4⟩ <;> cases ev
            have hk4 : k + 1 < ts := (tkT_nx tT hk (pArg_ty y4)).1
            have hpp4 : (tk (k)).2.1 ≤ 400 := (hO (k) hk).2.1
            obtain ⟨r4, ro4, rx4, rq4, ⟨ra4, rb4, rc4⟩, rt4, rf4⟩ := rdP_arg y4 (hnew 2) hpp4 (fun _ => gt2) gt3
            obtain ⟨M4, cu4, gk4, ak4, qm4, gg4, dr4, sm4, bd4, fr4⟩ := id MN4
            obtain ⟨so4, kd4, on4, tz4, lt4, dc4, de4, dl4, dx4⟩ := id dr4
            refine x_iastN (j := i) dc4.2.2.2.1 rfl (by omega) (by decide) dX14_readTerm_105 ?_
            have D5 : dr9 (xup h4 (h1.2 + 3) (.inl (0, 5, .inl (upd on4 i x4)))) h1.2 v4 i T pl (fun so kd on tz => so i = tmI v4 i 0 ∧ kd i = tmI v4 i 1 ∧ on i = tmI v4 i 2) := by
              refine ⟨so4, kd4, (upd on4 i x4), tz4, lt4, ⟨((xup_ne (by omega)).trans dc4.1), ((xup_ne (by omega)).trans dc4.2.1), ((xup_ne (by omega)).trans dc4.2.2.1), (xup_self _ _ _), ((xup_ne (by omega)).trans dc4.2.2.2.2.1), ((xup_ne (by omega)).trans dc4.2.2.2.2.2)⟩, fun j hj => by rw [upd_nq (by omega)]; exact de4 j hj, dl4, ?_⟩
              obtain ⟨a1, a2⟩ := dx4
              exact ⟨a1.trans ra4.symm, a2.trans rb4.symm, upd_at9.trans ex4⟩
            have MM5 : MR9 h1 (xup h4 (h1.2 + 3) (.inl (0, 5, .inl (upd on4 i x4)))) g0 ar0 rf rc tk pos q4 v4 (k + 1) i i T pl (fun so kd on tz => so i = tmI v4 i 0 ∧ kd i = tmI v4 i 1 ∧ on i = tmI v4 i 2) g4 w4 ar4 tw4 kw4 := MN4.re rfl (fun q9 hq9 => xup_ne (by omega)) D5
            generalize xup h4 (h1.2 + 3) (.inl (0, 5, .inl (upd on4 i x4))) = h5 at MM5 ⊢
            obtain ⟨M5, cu5, gk5, ak5, qm5, gg5, dr5, sm5, bd5, fr5⟩ := id MM5
            obtain ⟨so5, kd5, on5, tz5, lt5, dc5, de5, dl5, dx5⟩ := id dr5
            refine x_aload_n dX14_readTerm_106 rfl ?_
            refine x_bipush (v := 35) dX14_readTerm_107 (by decide) ?_
            refine x_callV (As := [.int (nI 35)]) (st := []) lv_X14_179 (k_X14_is M5 cu5 (hO (k + 1) hk4).1 (by omega) (by omega)) dX14_readTerm_109 M5.o rfl rfl (Nat.le_of_ble_eq_true rfl) ⟨by decide, by decide⟩ ⟨by decide, by decide⟩ (fun v9 h9 z => ?_) (fun _ _ _ _ _ z => by obtain ⟨_, z, _⟩ := z; cases z)
            obtain ⟨bq109, ev, eh, hq109⟩ := z
            rw [eh]
            cases ev
            refine x_if_ne 125 dX14_readTerm_112 (by decide) (fun c_112 => ?_) (fun c_112 => ?_)
            · have c_112 := bi_t c_112
              refine x_aload_n dX14_readTerm_125 rfl ?_
              have ht5 : (tk (k + 1)).1 = 35 := hq109.mp c_112
              obtain ⟨hk6, hlx6⟩ := tkT_nx tT hk4 (by omega)
              refine x_callV (As := []) (st := []) lv_X14_143 (k_X14_next M5 (hTT ak5) hlx6 ((gk5 19 (by omega)).trans h09) ((cu5.2.2.2.2.2 (by omega)).2.2)) dX14_readTerm_126 M5.o rfl rfl (Nat.le_of_ble_eq_true rfl) ⟨by decide, by decide⟩ ⟨by decide, by decide⟩ (fun v9 h6 z => ?_) (fun _ _ _ _ _ z => by cases z.1)
              obtain ⟨ev, y6, g6, w6, Mx6, s6, cx6⟩ := z
              cases ev
              have MM6 : MR9 h1 h6 g0 ar0 rf rc tk pos q4 v4 (k + 2) i i T pl (fun so kd on tz => so i = tmI v4 i 0 ∧ kd i = tmI v4 i 1 ∧ on i = tmI v4 i 2) g6 w6 ar4 tw4 kw4 := MM5.nx y6 Mx6 s6 cx6
              obtain ⟨M6, cu6, gk6, ak6, qm6, gg6, dr6, sm6, bd6, fr6⟩ := id MM6
              obtain ⟨so6, kd6, on6, tz6, lt6, dc6, de6, dl6, dx6⟩ := id dr6
              refine x_aload_n dX14_readTerm_129 rfl ?_
              refine x_get lf_X14_146 dX14_readTerm_130 M6.o rfl ?_
              refine x_get lf_X14_176 dX14_readTerm_133 dc6.1 rfl ?_
              refine x_iload_n dX14_readTerm_136 rfl ?_
              refine x_aload_n dX14_readTerm_137 rfl ?_
              refine x_iconst (v := 0) dX14_readTerm_138 (by decide) ?_
              refine x_top (y := bi (decide (1 ≤ i ∧ tmI v4 i 0 = 0))) (by rw [decide_eq_false (show ¬ (1 ≤ i ∧ tmI v4 i 0 = 0) from fun z => absurd (((ra4.trans gt0)).symm.trans z.2) (by decide))]; rfl) ?_
              refine x_callV (As := [.int (bi (decide (1 ≤ i ∧ tmI v4 i 0 = 0)))]) (st := [.int (nI i), .ref (h1.2 + 4)]) lv_X14_182 (k_X14_readArg tT hn4 hb h09 hT0 MM6 hk6 (Nat.le_refl _) hi r4.2.1.2.2 (bf := false) (bd9 := (decide (1 ≤ i ∧ tmI v4 i 0 = 0))) (by rw [decide_eq_true_iff]) (rt4 rfl).2 (fun z => by cases z) (stL_l1 hi (rt4 rfl).2)) dX14_readTerm_139 M6.o rfl rfl (Nat.le_of_ble_eq_true rfl) ⟨by decide, by decide⟩ ⟨by decide, by decide⟩ (fun v9 h7 z => ?_) (fun q9 ci9 fs9 h9 hc9 z => ?_)
              · rcases z with ⟨_, _, _, ev, _⟩ | ⟨q7, v7, x7, y7, ev, ex7, g7, w7, ar7, tw7, kw7, MN7⟩ <;> cases ev
                have hk7 : k + 3 < ts := (tkT_nx tT hk6 (pArg_ty y7)).1
                have hpp7 : (tk (k + 2)).2.1 ≤ 400 := (hO (k + 2) hk6).2.1
                obtain ⟨r7, ro7, rx7, rq7, ⟨ra7, rb7, rc7⟩, rt7, rf7⟩ := rdP_arg y7 r4 hpp7 (fun z => by cases z) (rt4 rfl).2
                obtain ⟨M7, cu7, gk7, ak7, qm7, gg7, dr7, sm7, bd7, fr7⟩ := id MN7
                obtain ⟨so7, kd7, on7, tz7, lt7, dc7, de7, dl7, dx7⟩ := id dr7
                refine x_iastN (j := i) dc7.2.2.2.2.1 rfl (by omega) (by decide) dX14_readTerm_142 ?_
                have D8 : dr9 (xup h7 (h1.2 + 4) (.inl (0, 5, .inl (upd tz7 i x7)))) h1.2 v7 i T pl (fun so kd on tz => so i = tmI v7 i 0 ∧ kd i = tmI v7 i 1 ∧ on i = tmI v7 i 2 ∧ tz i = tmI v7 i 3) := by
                  refine ⟨so7, kd7, on7, (upd tz7 i x7), lt7, ⟨((xup_ne (by omega)).trans dc7.1), ((xup_ne (by omega)).trans dc7.2.1), ((xup_ne (by omega)).trans dc7.2.2.1), ((xup_ne (by omega)).trans dc7.2.2.2.1), (xup_self _ _ _), ((xup_ne (by omega)).trans dc7.2.2.2.2.2)⟩, fun j hj => by rw [upd_nq (by omega)]; exact de7 j hj, dl7, ?_⟩
                  obtain ⟨a1, a2, a3⟩ := dx7
                  exact ⟨a1.trans ra7.symm, a2.trans rb7.symm, a3.trans (rf7 rfl).1.symm, upd_at9.trans ex7⟩
                have MM8 : MR9 h1 (xup h7 (h1.2 + 4) (.inl (0, 5, .inl (upd tz7 i x7)))) g0 ar0 rf rc tk pos q7 v7 (k + 3) i i T pl (fun so kd on tz => so i = tmI v7 i 0 ∧ kd i = tmI v7 i 1 ∧ on i = tmI v7 i 2 ∧ tz i = tmI v7 i 3) g7 w7 ar7 tw7 kw7 := MN7.re rfl (fun q9 hq9 => xup_ne (by omega)) D8
                generalize xup h7 (h1.2 + 4) (.inl (0, 5, .inl (upd tz7 i x7))) = h8 at MM8 ⊢
                obtain ⟨M8, cu8, gk8, ak8, qm8, gg8, dr8, sm8, bd8, fr8⟩ := id MM8
                obtain ⟨so8, kd8, on8, tz8, lt8, dc8, de8, dl8, dx8⟩ := id dr8
                refine x_goto 172 dX14_readTerm_143 (by decide) ?_
                refine x_aload_n dX14_readTerm_172 rfl ?_
                refine x_get lf_X14_146 dX14_readTerm_173 M8.o rfl ?_
                refine x_dup dX14_readTerm_176 rfl ?_
                refine x_get lf_X14_199 dX14_readTerm_177 dc8.1 rfl ?_
                refine x_iconst (v := 1) dX14_readTerm_180 (by decide) ?_
                refine x_iadd dX14_readTerm_181 ?_
                refine x_top (y := nI i) (by rw [show (1 : Int32) = nI 1 from rfl, nI_add, hiT]) ?_
                refine x_put [.int (nI i), .int (nI v7.2.2.2.2), .int pl, .ref (h1.2 + 1), .ref (h1.2 + 2), .ref (h1.2 + 3), .ref (h1.2 + 4), .ref (h1.2 + 5)] lf_X14_199 dX14_readTerm_182 dc8.1 (Nat.le_of_ble_eq_true rfl) rfl rfl rfl ?_
                have D9 : dr9 (xup h8 h1.2 (.inr (12, [.int (nI i), .int (nI v7.2.2.2.2), .int pl, .ref (h1.2 + 1), .ref (h1.2 + 2), .ref (h1.2 + 3), .ref (h1.2 + 4), .ref (h1.2 + 5)]))) h1.2 v7 (i + 1) i pl XT9 := ⟨so8, kd8, on8, tz8, lt8, ⟨(xup_self _ _ _), ((xup_ne (by omega)).trans dc8.2.1), ((xup_ne (by omega)).trans dc8.2.2.1), ((xup_ne (by omega)).trans dc8.2.2.2.1), ((xup_ne (by omega)).trans dc8.2.2.2.2.1), ((xup_ne (by omega)).trans dc8.2.2.2.2.2)⟩, (fun j hj => by by_cases e : j = i; (subst e; exact dx8); exact de8 j (by omega)), dl8, trivial⟩
                exact x_vret dX14_readTerm_185 rfl (Nat.le_refl _) (Nat.le_refl _) (Or.inr ⟨q7, v7, k + 3, (by unfold pTerm; rw [if_pos hun]; unfold pUnl; rw [y4]; simp only []; rw [if_pos (hq109.mp c_112)]; unfold pUn2; rw [y7]), rfl, hk7, g7, w7, ar7, tw7, kw7, MM8.re rfl (fun q9 hq9 => xup_ne (by omega)) D9⟩)
              · rcases z with ⟨e9, p9, y9, ev, z1, q9, z2, z3⟩ | ⟨_, _, _, _, ev, _⟩ <;> cases ev
                exact x_out (fun x hx => by cases hx) hc9 (Nat.le_refl _) (Nat.le_refl _) (Or.inl ⟨e9, p9, (by unfold pTerm; rw [if_pos hun]; unfold pUnl; rw [y4]; simp only []; rw [if_pos (hq109.mp c_112)]; unfold pUn2; rw [y9]), rfl, z1, q9, ((extQ_rf q).tr rx4).tr z2, z3⟩)
            · have c_112 := bi_f c_112
              refine x_aload_n dX14_readTerm_115 rfl ?_
              refine x_iconst (v := 1) dX14_readTerm_116 (by decide) ?_
              refine x_aload_n dX14_readTerm_117 rfl ?_
              refine x_get lf_X14_114 dX14_readTerm_118 M5.o rfl ?_
              refine x_callV (As := [.int 1, .int (g4 22)]) (st := []) lv_X14_136 (k_X14_stop M5) dX14_readTerm_121 M5.o rfl rfl (Nat.le_of_ble_eq_true rfl) ⟨by decide, by decide⟩ ⟨by decide, by decide⟩ (fun v9 h9 z => ?_) (fun _ _ _ _ _ z => by cases z.1)
              obtain ⟨ev, eh⟩ := z
              rw [eh]
              cases ev
              refine x_athrow dX14_readTerm_124 (x_out (fun x hx => by cases hx) (xup_self _ _ _) (Nat.le_refl _) (Nat.le_refl _) (Or.inl ⟨1, (tk (k + 1)).2.1, (by unfold pTerm; rw [if_pos hun]; unfold pUnl; rw [y4]; simp only []; rw [if_neg (fun z => by rw [hq109.mpr z] at c_112; cases c_112)]), rfl, (by rw [← cu5.1]; exact xup_self _ _ _), q4, ((extQ_rf q).tr rx4), MM5.bad⟩))
          · rcases z with ⟨e9, p9, y9, ev, z1, q9, z2, z3⟩ | ⟨_, _, _, _, ev, _⟩ <;> cases ev
            exact x_out (fun x hx => by cases hx) hc9 (Nat.le_refl _) (Nat.le_refl _) (Or.inl ⟨e9, p9, (by unfold pTerm; rw [if_pos hun]; unfold pUnl; rw [y9]), rfl, z1, q9, (extQ_rf q).tr z2, z3⟩)
    · refine x_aload_n dX14_readTerm_16 rfl ?_
      refine x_iconst (v := 1) dX14_readTerm_17 (by decide) ?_
      refine x_aload_n dX14_readTerm_18 rfl ?_
      refine x_get lf_X14_114 dX14_readTerm_19 M1.o rfl ?_
      refine x_callV (As := [.int 1, .int (g 22)]) (st := []) lv_X14_136 (k_X14_stop M1) dX14_readTerm_22 M1.o rfl rfl (Nat.le_of_ble_eq_true rfl) ⟨by decide, by decide⟩ ⟨by decide, by decide⟩ (fun v9 h9 z => ?_) (fun _ _ _ _ _ z => by cases z.1)
      obtain ⟨ev, eh⟩ := z
      rw [eh]
      cases ev
      have x2 : ¬ (tk k).1 = 2 := fun z => c_5 ((cur_s cu1).1.mpr z)
      have x3 : ¬ (tk k).1 = 3 := fun z => c_13 ((cur_s cu1).2.1.mpr z)
      refine x_athrow dX14_readTerm_25 (x_out (fun x hx => by cases hx) (xup_self _ _ _) (Nat.le_refl _) (Nat.le_refl _) (Or.inl ⟨1, (tk k).2.1, (by unfold pTerm; rw [if_neg (fun z => z.elim x3 (fun y => x2 y.1)), if_neg (fun z => x2 z.1)]; unfold pAtom; rw [if_neg (fun z => x2 z.1)]), rfl, (by rw [← cu1.1]; exact xup_self _ _ _), q, extQ_rf q, MM.bad⟩))
set_option maxRecDepth 100000 in
set_option maxHeartbeats 4000000 in
theorem k_X14_readTerm4 {G : xG} {h1 : xHp} {g0 : Nat → Int32} {ar0 : Nat → Nat → Int32} {rf : Nat → Option Nat} {rc : Nat} {b : Nat → Nat} {n ts : Nat} {tk : Nat → Tk} {pos : Nat → Nat} (tT : tkT b n ts tk pos) (hn4 : n ≤ 400) (hb : ∀ k, k < n → b k < 256) (h09 : g0 19 = nI n) (hT0 : tpM ar0 b n) {h : xHp} {q : PQ} {v : RV} {k T : Nat} {pl : Int32} {g : Nat → Int32} {w : Int64} {ar : Nat → Nat → Int32} {tw kw : Nat → Int64} (MM : MR9 h1 h g0 ar0 rf rc tk pos q v k T (T + 1) T pl XT9 g w ar tw kw) (hk : k < ts) (h4 : T = 4) : MX G mX14_readTerm 5 0 0 [.ref 205] h (fun o h' => ∃ e p, ((if (tk k).1 = 2 ∨ (tk k).1 = 3 then 4 else 1 : Nat), (tk k).2.1) = (e, p) ∧ o = .inr 215 ∧ h'.1 215 = some (sC (nI e) (nI p)) ∧ ∃ q', extQ q q' ∧ MB h1 h' g0 ar0 rf q') := by
  obtain ⟨M1, cu1, gk1, ak1, qm1, gg1, dr1, sm1, bd1, fr1⟩ := id MM
  obtain ⟨so1, kd1, on1, tz1, lt1, dc1, de1, dl1, dx1⟩ := id dr1
  have hO := (tkT_ok tT hn4 hb).1
  have hTT := fun {ar : Nat → Nat → Int32} (ak : aK ar0 ar) => hTT9 hT0 ak
  have h77 := fr1.1.1
  refine MX.of [(0, .ref 205)] (by decide) rfl (Nat.le_of_ble_eq_true rfl) rfl ?_
  refine x_aload_n dX14_readTerm_0 rfl ?_
  refine x_get lf_X14_115 dX14_readTerm_1 M1.o rfl ?_
  refine x_iconst (v := 2) dX14_readTerm_4 (by decide) ?_
  refine x_icmp_eq 26 dX14_readTerm_5 (by decide) (fun c_5 => ?_) (fun c_5 => ?_)
  · refine x_aload_n dX14_readTerm_26 rfl ?_
    refine x_get lf_X14_146 dX14_readTerm_27 M1.o rfl ?_
    refine x_get lf_X14_199 dX14_readTerm_30 dc1.1 rfl ?_
    refine x_iconst (v := 4) dX14_readTerm_33 (by decide) ?_
    refine x_icmp_ne 47 dX14_readTerm_34 (by decide) (fun c_34 => absurd c_34 (fun z => z (by rw [h4]; rfl))) (fun c_34 => ?_)
    refine x_aload_n dX14_readTerm_37 rfl ?_
    refine x_iconst (v := 4) dX14_readTerm_38 (by decide) ?_
    refine x_aload_n dX14_readTerm_39 rfl ?_
    refine x_get lf_X14_114 dX14_readTerm_40 M1.o rfl ?_
    refine x_callV (As := [.int 4, .int (g 22)]) (st := []) lv_X14_136 (k_X14_stop M1) dX14_readTerm_43 M1.o rfl rfl (Nat.le_of_ble_eq_true rfl) ⟨by decide, by decide⟩ ⟨by decide, by decide⟩ (fun v9 h9 z => ?_) (fun _ _ _ _ _ z => by cases z.1)
    obtain ⟨ev, eh⟩ := z
    rw [eh]
    cases ev
    refine x_athrow dX14_readTerm_46 (x_out (fun x hx => by cases hx) (xup_self _ _ _) (Nat.le_refl _) (Nat.le_refl _) (⟨4, (tk k).2.1, (by rw [if_pos (by first | exact Or.inl ((cur_s cu1).1.mp c_5) | exact Or.inr ((cur_s cu1).2.1.mp c_13))]), rfl, (by rw [← cu1.1]; exact xup_self _ _ _), q, extQ_rf q, MM.bad⟩))
  · refine x_aload_n dX14_readTerm_8 rfl ?_
    refine x_get lf_X14_115 dX14_readTerm_9 M1.o rfl ?_
    refine x_iconst (v := 3) dX14_readTerm_12 (by decide) ?_
    refine x_icmp_eq 26 dX14_readTerm_13 (by decide) (fun c_13 => ?_) (fun c_13 => ?_)
    · refine x_aload_n dX14_readTerm_26 rfl ?_
      refine x_get lf_X14_146 dX14_readTerm_27 M1.o rfl ?_
      refine x_get lf_X14_199 dX14_readTerm_30 dc1.1 rfl ?_
      refine x_iconst (v := 4) dX14_readTerm_33 (by decide) ?_
      refine x_icmp_ne 47 dX14_readTerm_34 (by decide) (fun c_34 => absurd c_34 (fun z => z (by rw [h4]; rfl))) (fun c_34 => ?_)
      refine x_aload_n dX14_readTerm_37 rfl ?_
      refine x_iconst (v := 4) dX14_readTerm_38 (by decide) ?_
      refine x_aload_n dX14_readTerm_39 rfl ?_
      refine x_get lf_X14_114 dX14_readTerm_40 M1.o rfl ?_
      refine x_callV (As := [.int 4, .int (g 22)]) (st := []) lv_X14_136 (k_X14_stop M1) dX14_readTerm_43 M1.o rfl rfl (Nat.le_of_ble_eq_true rfl) ⟨by decide, by decide⟩ ⟨by decide, by decide⟩ (fun v9 h9 z => ?_) (fun _ _ _ _ _ z => by cases z.1)
      obtain ⟨ev, eh⟩ := z
      rw [eh]
      cases ev
      refine x_athrow dX14_readTerm_46 (x_out (fun x hx => by cases hx) (xup_self _ _ _) (Nat.le_refl _) (Nat.le_refl _) (⟨4, (tk k).2.1, (by rw [if_pos (by first | exact Or.inl ((cur_s cu1).1.mp c_5) | exact Or.inr ((cur_s cu1).2.1.mp c_13))]), rfl, (by rw [← cu1.1]; exact xup_self _ _ _), q, extQ_rf q, MM.bad⟩))
    · refine x_aload_n dX14_readTerm_16 rfl ?_
      refine x_iconst (v := 1) dX14_readTerm_17 (by decide) ?_
      refine x_aload_n dX14_readTerm_18 rfl ?_
      refine x_get lf_X14_114 dX14_readTerm_19 M1.o rfl ?_
      refine x_callV (As := [.int 1, .int (g 22)]) (st := []) lv_X14_136 (k_X14_stop M1) dX14_readTerm_22 M1.o rfl rfl (Nat.le_of_ble_eq_true rfl) ⟨by decide, by decide⟩ ⟨by decide, by decide⟩ (fun v9 h9 z => ?_) (fun _ _ _ _ _ z => by cases z.1)
      obtain ⟨ev, eh⟩ := z
      rw [eh]
      cases ev
      have x2 : ¬ (tk k).1 = 2 := fun z => c_5 ((cur_s cu1).1.mpr z)
      have x3 : ¬ (tk k).1 = 3 := fun z => c_13 ((cur_s cu1).2.1.mpr z)
      refine x_athrow dX14_readTerm_25 (x_out (fun x hx => by cases hx) (xup_self _ _ _) (Nat.le_refl _) (Nat.le_refl _) (⟨1, (tk k).2.1, (by rw [if_neg (fun z => z.elim x2 x3)]), rfl, (by rw [← cu1.1]; exact xup_self _ _ _), q, extQ_rf q, MM.bad⟩))
