/-! the reference: readAtom -/
theorem MR9.nx {h1 h : xHp} {g0 : Nat → Int32} {ar0 : Nat → Nat → Int32} {rf : Nat → Option Nat} {rc : Nat} {tk : Nat → Tk} {pos : Nat → Nat} {q : PQ} {v : RV} {k i m T : Nat} {pl : Int32} {X : XP} {g : Nat → Int32} {w : Int64} {ar : Nat → Nat → Int32} {tw kw : Nat → Int64} (MM : MR9 h1 h g0 ar0 rf rc tk pos q v k i m T pl X g w ar tw kw) {h' : xHp} {g' : Nat → Int32} {w' : Int64} (y : yfr h h') (M' : MH h' g' w' (.ref h1.2) ar tw kw rf) (s : gSame g g') (c : curT (tk (k + 1)) (pos (k + 2)) g' w') : MR9 h1 h' g0 ar0 rf rc tk pos q v (k + 1) i m T pl X g' w' ar tw kw := by
  obtain ⟨M, cu, gk, ak, qm, ⟨hg4, hg5, hg6⟩, dr, sm, bd, fr⟩ := MM
  have ha6 : 226 ≤ h1.2 := by have := fr.1.1; omega
  exact ⟨M', c, gk.same s, ak, qm, ⟨(s 4 (by omega)).trans hg4, (s 5 (by omega)).trans hg5, (s 6 (by omega)).trans hg6⟩, dr.y ha6 y, stM_eq sm rfl (s 28 (by omega)) rfl rfl, bdS_eq bd (s 29 (by omega)) (fun _ _ => Iff.rfl), fr.y y⟩
theorem MR9.re {h1 h : xHp} {g0 : Nat → Int32} {ar0 : Nat → Nat → Int32} {rf : Nat → Option Nat} {rc : Nat} {tk : Nat → Tk} {pos : Nat → Nat} {q : PQ} {v : RV} {k i m T : Nat} {pl : Int32} {X : XP} {g : Nat → Int32} {w : Int64} {ar : Nat → Nat → Int32} {tw kw : Nat → Int64} (MM : MR9 h1 h g0 ar0 rf rc tk pos q v k i m T pl X g w ar tw kw) {h' : xHp} {m' T' : Nat} {Y : XP} (e2 : h'.2 = h.2) (e : ∀ q, q < h1.2 → h'.1 q = h.1 q) (d : dr9 h' h1.2 v m' T' pl Y) : MR9 h1 h' g0 ar0 rf rc tk pos q v k i (m') (T') pl Y g w ar tw kw := by
  obtain ⟨M, cu, gk, ak, qm, gg, dr, sm, bd, fr⟩ := MM
  have h7 := fr.1.1
  exact ⟨M.fr e2 (fun q h1 h2 => e q (by omega)), cu, gk, ak, qm, gg, d, sm, bd, ⟨⟨h7, e2.trans fr.1.2⟩, fun q hq => (e q (by omega)).trans (fr.2 q hq)⟩⟩
theorem MR9.vv {h1 h : xHp} {g0 : Nat → Int32} {ar0 : Nat → Nat → Int32} {rf : Nat → Option Nat} {rc : Nat} {tk : Nat → Tk} {pos : Nat → Nat} {q : PQ} {v : RV} {k i m T : Nat} {pl : Int32} {X : XP} {g : Nat → Int32} {w : Int64} {ar : Nat → Nat → Int32} {tw kw : Nat → Int64} (MM : MR9 h1 h g0 ar0 rf rc tk pos q v k i m T pl X g w ar tw kw) {v' : RV} {m' : Nat} {Y : XP} (hs : stL v' i = stL v i) (hi : ∀ s, s < 3 → (inA v' i s ↔ inA v i s)) (d : dr9 h h1.2 v' m' T pl Y) : MR9 h1 h g0 ar0 rf rc tk pos q (v') k i (m') T pl Y g w ar tw kw := by
  obtain ⟨M, cu, gk, ak, qm, gg, dr, sm, bd, fr⟩ := MM
  exact ⟨M, cu, gk, ak, qm, gg, d, stM_eq sm hs rfl rfl rfl, bdS_eq bd rfl hi, fr⟩
theorem MR9.bad {h1 h : xHp} {g0 : Nat → Int32} {ar0 : Nat → Nat → Int32} {rf : Nat → Option Nat} {rc : Nat} {tk : Nat → Tk} {pos : Nat → Nat} {q : PQ} {v : RV} {k i m T : Nat} {pl : Int32} {X : XP} {g : Nat → Int32} {w : Int64} {ar : Nat → Nat → Int32} {tw kw : Nat → Int64} (MM : MR9 h1 h g0 ar0 rf rc tk pos q v k i m T pl X g w ar tw kw) {e p : Int32} : MB h1 (xup h 215 (sC e p)) g0 ar0 rf q := ⟨_, _, _, _, _, _, MM.1.s9 _ _, MM.2.2.1, MM.2.2.2.1, MM.2.2.2.2.1, MM.2.2.2.2.2.2.2.2.2.y ((yfr_rf _).up (by decide))⟩
theorem stL_st {v : RV} {i : Nat} {f : Nat → Int32} (h0 : f 0 = tmI v i 0) (h2 : f 2 = tmI v i 2) (h3 : f 3 = tmI v i 3) (h5 : f 5 = tmI v i 5) (h6 : f 6 = tmI v i 6) : stL (stT v i f) i = stL v i := by
  rw [stL_eq, stL_eq v i, stT_tm, h0]
  have e : stB (stT v i f) i = stB v i := by
    cases i with
    | zero => rfl
    | succ j => exact stL_lt (fun m hm => tmI_st_ne (by omega))
  rw [e]
  unfold tmL
  rw [h2, h3, h5, h6]
theorem inA_st {v : RV} {i : Nat} {f : Nat → Int32} (h0 : f 0 = tmI v i 0) (h2 : f 2 = tmI v i 2) (h3 : f 3 = tmI v i 3) (s : Nat) : inA (stT v i f) i s ↔ inA v i s := by
  have key : ∀ j, tmI (stT v i f) j 0 = tmI v j 0 ∧ (sgIn (tmI (stT v i f) j) s ↔ sgIn (tmI v j) s) := fun j => by
    by_cases e : j = i
    · subst e; rw [stT_tm]; unfold sgIn; rw [h0, h2, h3]; exact ⟨rfl, Iff.rfl⟩
    · rw [tmI_st_ne e]; exact ⟨rfl, Iff.rfl⟩
  constructor
  · rintro ⟨j, a, b, c, d⟩; exact ⟨j, a, b, (key j).1 ▸ c, (key j).2.mp d⟩
  · rintro ⟨j, a, b, c, d⟩; exact ⟨j, a, b, (key j).1.symm ▸ c, (key j).2.mpr d⟩
theorem stB_ln (v : RV) (i : Nat) : (stB v i).length ≤ 2 * i := by
  cases i with
  | zero => exact Nat.le_refl _
  | succ j => exact stL_ln v j
theorem stL_l1 {v : RV} {i : Nat} (hi : i ≤ 4) (h3 : tmI v i 3 = -1) : (stL v i).length < 10 := by
  have h1 := stB_ln v i
  have h2 := argL_ln (tmI v i 2) (tmI v i 5)
  rw [stL_eq, List.length_append]
  split
  · simp only [List.length_nil]; omega
  · unfold tmL; rw [h3, argL_m1, List.append_nil]; omega
theorem hTT9 {ar0 ar : Nat → Nat → Int32} {b : Nat → Nat} {n : Nat} (hT0 : tpM ar0 b n) (ak : aK ar0 ar) : tpM ar b n := ⟨hT0.1, fun i hi => by rw [ak 216 (by decide)]; exact hT0.2 i hi⟩
theorem pFin_t (q : PQ) (v : RV) (i kd pl k : Nat) : pFin q v i kd pl true k = .inr (pcU q kd (plC (tmI v i)), v, k) := by
  unfold pFin pHas
  have e : (if true = true then pcU q kd (plC (tmI v i)) else q) = pcU q kd (plC (tmI v i)) := if_pos rfl
  rw [e]
  have c : (pcU q kd (plC (tmI v i))).2.2.2.2 kd = plC (tmI v i) := apF_at _ _ _
  rw [if_pos c]
theorem pFin_f {q : PQ} {v : RV} {i kd pl k : Nat} (c : q.2.2.2.2 kd = plC (tmI v i)) : pFin q v i kd pl false k = .inr (q, v, k) := by
  unfold pFin pHas
  have e : (if false = true then pcU q kd (plC (tmI v i)) else q) = q := if_neg (by decide)
  rw [e, if_pos c]
theorem pFin_b {q : PQ} {v : RV} {i kd pl k : Nat} (c : ¬ q.2.2.2.2 kd = plC (tmI v i)) : pFin q v i kd pl false k = .inl (2, pl) := by
  unfold pFin pHas
  have e : (if false = true then pcU q kd (plC (tmI v i)) else q) = q := if_neg (by decide)
  rw [e, if_neg c]
theorem pl_up {f : Nat → Int32} {pc : Nat → Nat} {kd x : Nat} (h : ∀ j, j < 10 → f j = nI (pc j) ∧ pc j < 3) (hx : x < 3) : ∀ j, j < 10 → upd f kd (nI x) j = nI (apF pc kd x j) ∧ apF pc kd x j < 3 := fun j hj => by
  by_cases e : j = kd
  · rw [e, upd_at9, apF_at]; exact ⟨rfl, hx⟩
  · rw [upd_nq e, apF_ne e]; exact h j hj
set_option maxRecDepth 100000 in
set_option maxHeartbeats 4000000 in
theorem l_X14_fin {G : xG} {h1 : xHp} {g0 : Nat → Int32} {ar0 : Nat → Nat → Int32} {rf : Nat → Option Nat} {rc : Nat} {b : Nat → Nat} {n ts : Nat} {tk : Nat → Tk} {pos : Nat → Nat} (tT : tkT b n ts tk pos) (hn4 : n ≤ 400) (hb : ∀ k, k < n → b k < 256) (h09 : g0 19 = nI n) (hT0 : tpM ar0 b n) {i kd9 pl9 T : Nat} {pl : Int32} (hi : i ≤ 4) {wt : Int32} {nwb : Bool} {q0 : PQ} {h : xHp} {q : PQ} {v : RV} {k : Nat} {g : Nat → Int32} {w : Int64} {ar : Nat → Nat → Int32} {tw kw : Nat → Int64} (MM : MR9 h1 h g0 ar0 rf rc tk pos q v k i i T pl (fun so kd on tz => so i = tmI v i 0 ∧ kd i = tmI v i 1 ∧ on i = tmI v i 2 ∧ tz i = tmI v i 3) g w ar tw kw) (hk : k < ts) (hkd : kd9 < 10) (hx0 : extQ q0 q) : Wx G mX14_readAtom (xRm 4 0 0) (xF G (fun o h' => (∃ e p, pFin q v i kd9 pl9 nwb k = .inl (e, p) ∧ o = .inr 215 ∧ h'.1 215 = some (sC (nI e) (nI p)) ∧ ∃ q', extQ q0 q' ∧ MB h1 h' g0 ar0 rf q') ∨ (∃ q' v' k', pFin q v i kd9 pl9 nwb k = .inr (q', v', k') ∧ o = .inl none ∧ k' < ts ∧ ∃ g' w' ar' tw' kw', MR9 h1 h' g0 ar0 rf rc tk pos (q') (v') (k') i (i + 1) T pl XT9 g' w' ar' tw' kw')) 0 0) 0 0 294 [(0, .ref 205), (1, .int (nI i)), (2, .int wt), (3, .int (nI pl9)), (4, .int (nI kd9)), (5, .int (bi nwb)), (6, .int (nI (plC (tmI v i))))] [] h := by
  obtain ⟨M1, cu1, gk1, ak1, qm1, gg1, dr1, sm1, bd1, fr1⟩ := id MM
  obtain ⟨so1, kd1, on1, tz1, lt1, dc1, de1, dl1, dx1⟩ := id dr1
  have hkd9 := hkd
  rcases Bool.eq_false_or_eq_true nwb with hnw | hnw
  · refine x_iload dX14_readAtom_294 rfl ?_
    refine x_if_eq 308 dX14_readAtom_296 (by decide) (fun c => absurd c (bi_ct hnw)) (fun _ => ?_)
    refine x_aload_n dX14_readAtom_299 rfl ?_
    refine x_get lf_X14_27 dX14_readAtom_300 M1.o rfl ?_
    refine x_iload dX14_readAtom_303 rfl ?_
    refine x_iload dX14_readAtom_305 rfl ?_
    refine x_iastN (j := kd9) (M1.a 210 0 10 rfl) rfl (by omega) (by decide) dX14_readAtom_307 ?_
    refine x_aload_n dX14_readAtom_308 rfl ?_
    refine x_get lf_X14_27 dX14_readAtom_309 ((xup_ne (by omega)).trans M1.o) rfl ?_
    refine x_iload dX14_readAtom_312 rfl ?_
    refine x_ialdN (j := kd9) (xup_self _ _ _) rfl (by omega) (by decide) dX14_readAtom_314 ?_
    refine x_top (y := nI (plC (tmI v i))) upd_at9 ?_
    refine x_iload dX14_readAtom_315 rfl ?_
    refine x_icmp_eq 327 dX14_readAtom_317 (by decide) (fun c_317 => ?_) (fun c_317 => absurd rfl c_317)
    have hd9 : dr9 h h1.2 v (i + 1) T pl XT9 := ⟨so1, kd1, on1, tz1, lt1, dc1, fun j hj => (by by_cases e : j = i; (subst e; exact dx1); exact de1 j (by omega)), dl1, trivial⟩
    exact x_vret dX14_readAtom_327 rfl (Nat.le_refl _) (Nat.le_refl _) (Or.inr ⟨pcU q kd9 (plC (tmI v i)), v, k, (by rw [hnw]; exact pFin_t q v i kd9 pl9 k), rfl, hk, g, w, _, tw, kw, M1.a9 (c := 210) rfl _, cu1, gk1, ak1.up (by omega), ⟨qm1.1, qm1.2.1, pl_up qm1.2.2.1 (plC_lt _), qm1.2.2.2⟩, gg1, hd9.y (by have := fr1.1.1; omega) ((yfr_rf _).up (by decide)), stM_eq sm1 rfl rfl rfl rfl, bd1, fr1.y ((yfr_rf _).up (by decide))⟩)
  · refine x_iload dX14_readAtom_294 rfl ?_
    refine x_if_eq 308 dX14_readAtom_296 (by decide) (fun _ => ?_) (fun c => absurd (bi_cf hnw) c)
    refine x_aload_n dX14_readAtom_308 rfl ?_
    refine x_get lf_X14_27 dX14_readAtom_309 M1.o rfl ?_
    refine x_iload dX14_readAtom_312 rfl ?_
    refine x_ialdN (j := kd9) (M1.a 210 0 10 rfl) rfl (by omega) (by decide) dX14_readAtom_314 ?_
    refine x_top (y := nI (q.2.2.2.2 kd9)) ((qm1.2.2.1 kd9 hkd).1) ?_
    have hp3 := (qm1.2.2.1 kd9 hkd).2
    have hp4 := plC_lt (tmI v i)
    refine x_iload dX14_readAtom_315 rfl ?_
    refine x_icmp_eq 327 dX14_readAtom_317 (by decide) (fun c_317 => ?_) (fun c_317 => ?_)
    · rw [nI_eq (by omega) (by omega)] at c_317
      have hd9 : dr9 h h1.2 v (i + 1) T pl XT9 := ⟨so1, kd1, on1, tz1, lt1, dc1, fun j hj => (by by_cases e : j = i; (subst e; exact dx1); exact de1 j (by omega)), dl1, trivial⟩
      exact x_vret dX14_readAtom_327 rfl (Nat.le_refl _) (Nat.le_refl _) (Or.inr ⟨q, v, k, (by rw [hnw]; exact pFin_f c_317), rfl, hk, g, w, ar, tw, kw, MM.re rfl (fun _ _ => rfl) hd9⟩)
    · rw [nI_eq (by omega) (by omega)] at c_317
      refine x_aload_n dX14_readAtom_320 rfl ?_
      refine x_iconst (v := 2) dX14_readAtom_321 (by decide) ?_
      refine x_iload_n dX14_readAtom_322 rfl ?_
      refine x_callV (As := [.int 2, .int (nI pl9)]) (st := []) lv_X14_136 (k_X14_stop M1) dX14_readAtom_323 M1.o rfl rfl (Nat.le_of_ble_eq_true rfl) ⟨by decide, by decide⟩ ⟨by decide, by decide⟩ (fun v9 h9 z => ?_) (fun _ _ _ _ _ z => by cases z.1)
      obtain ⟨ev, eh⟩ := z
      rw [eh]
      cases ev
      refine x_athrow dX14_readAtom_326 (x_out (fun x hx => by cases hx) (xup_self _ _ _) (Nat.le_refl _) (Nat.le_refl _) (Or.inl ⟨2, pl9, (by rw [hnw]; exact pFin_b c_317), rfl, xup_self _ _ _, q, hx0, MM.bad⟩))
set_option maxRecDepth 100000 in
set_option maxHeartbeats 4000000 in
theorem l_X14_at1 {G : xG} {h1 : xHp} {g0 : Nat → Int32} {ar0 : Nat → Nat → Int32} {rf : Nat → Option Nat} {rc : Nat} {b : Nat → Nat} {n ts : Nat} {tk : Nat → Tk} {pos : Nat → Nat} (tT : tkT b n ts tk pos) (hn4 : n ≤ 400) (hb : ∀ k, k < n → b k < 256) (h09 : g0 19 = nI n) (hT0 : tpM ar0 b n) {i kd9 pl9 T : Nat} {pl : Int32} (hi : i ≤ 4) {wt : Int32} {nwb : Bool} {q0 : PQ} {h : xHp} {q : PQ} {v : RV} {k : Nat} {g : Nat → Int32} {w : Int64} {ar : Nat → Nat → Int32} {tw kw : Nat → Int64} (MM : MR9 h1 h g0 ar0 rf rc tk pos q v k i i T pl (fun so kd on tz => so i = tmI v i 0 ∧ kd i = tmI v i 1 ∧ on i = tmI v i 2 ∧ tz i = tmI v i 3) g w ar tw kw) (hk : k < ts) (hv : rdP q v i) (hA2 : tmI v i 2 = -1) (hA3 : tmI v i 3 = -1) (hwt : tmI v i 0 = wt) (hkd : kd9 < 10) (hx0 : extQ q0 q) : Wx G mX14_readAtom (xRm 4 0 0) (xF G (fun o h' => (∃ e p, pAt1 tk q v k i kd9 pl9 nwb = .inl (e, p) ∧ o = .inr 215 ∧ h'.1 215 = some (sC (nI e) (nI p)) ∧ ∃ q', extQ q0 q' ∧ MB h1 h' g0 ar0 rf q') ∨ (∃ q' v' k', pAt1 tk q v k i kd9 pl9 nwb = .inr (q', v', k') ∧ o = .inl none ∧ k' < ts ∧ ∃ g' w' ar' tw' kw', MR9 h1 h' g0 ar0 rf rc tk pos (q') (v') (k') i (i + 1) T pl XT9 g' w' ar' tw' kw')) 0 0) 0 0 187 [(0, .ref 205), (1, .int (nI i)), (2, .int wt), (3, .int (nI pl9)), (4, .int (nI kd9)), (5, .int (bi nwb)), (6, .int 0)] [] h := by
  obtain ⟨M1, cu1, gk1, ak1, qm1, gg1, dr1, sm1, bd1, fr1⟩ := id MM
  obtain ⟨so1, kd1, on1, tz1, lt1, dc1, de1, dl1, dx1⟩ := id dr1
  have hO := (tkT_ok tT hn4 hb).1
  have hTT := fun {ar : Nat → Nat → Int32} (ak : aK ar0 ar) => hTT9 hT0 ak
  have hkq := hkd
  have h77 := fr1.1.1
  refine x_aload_n dX14_readAtom_187 rfl ?_
  refine x_bipush (v := 40) dX14_readAtom_188 (by decide) ?_
  refine x_callV (As := [.int (nI 40)]) (st := []) lv_X14_179 (k_X14_is M1 cu1 (hO k hk).1 (by omega) (by omega)) dX14_readAtom_190 M1.o rfl rfl (Nat.le_of_ble_eq_true rfl) ⟨by decide, by decide⟩ ⟨by decide, by decide⟩ (fun v9 h9 z => ?_) (fun _ _ _ _ _ z => by obtain ⟨_, z, _⟩ := z; cases z)
  obtain ⟨bq190, ev, eh, hq190⟩ := z
  rw [eh]
  cases ev
  refine x_if_eq 294 dX14_readAtom_193 (by decide) (fun c_193 => ?_) (fun c_193 => ?_)
  · have c_193 := bi_f c_193
    have e6 : plC (tmI v i) = 0 := by unfold plC; rw [if_pos hA2]
    have L9 := l_X14_fin (G := G) tT hn4 hb h09 hT0 (kd9 := kd9) (pl9 := pl9) hi (wt := wt) (nwb := nwb) (q0 := q0) MM hk hkd hx0
    rw [e6] at L9
    have e7 : pAt1 tk q v k i kd9 pl9 nwb = pFin q v i kd9 pl9 nwb (k) := by unfold pAt1; rw [if_neg (fun z => by rw [hq190.mpr z] at c_193; cases c_193)]
    rw [e7]
    exact L9
  · have c_193 := bi_t c_193
    refine x_aload_n dX14_readAtom_196 rfl ?_
    have ht1 : (tk (k)).1 = 40 := hq190.mp c_193
    obtain ⟨hk2, hlx2⟩ := tkT_nx tT hk (by omega)
    refine x_callV (As := []) (st := []) lv_X14_143 (k_X14_next M1 (hTT ak1) hlx2 ((gk1 19 (by omega)).trans h09) ((cu1.2.2.2.2.2 (by omega)).2.2)) dX14_readAtom_197 M1.o rfl rfl (Nat.le_of_ble_eq_true rfl) ⟨by decide, by decide⟩ ⟨by decide, by decide⟩ (fun v9 h2 z => ?_) (fun _ _ _ _ _ z => by cases z.1)
    obtain ⟨ev, y2, g2, w2, Mx2, s2, cx2⟩ := z
    cases ev
    have MM2 : MR9 h1 h2 g0 ar0 rf rc tk pos q v (k + 1) i i T pl (fun so kd on tz => so i = tmI v i 0 ∧ kd i = tmI v i 1 ∧ on i = tmI v i 2 ∧ tz i = tmI v i 3) g2 w2 ar tw kw := MM.nx y2 Mx2 s2 cx2
    obtain ⟨M2, cu2, gk2, ak2, qm2, gg2, dr2, sm2, bd2, fr2⟩ := id MM2
    obtain ⟨so2, kd2, on2, tz2, lt2, dc2, de2, dl2, dx2⟩ := id dr2
    refine x_aload_n dX14_readAtom_200 rfl ?_
    refine x_get lf_X14_146 dX14_readAtom_201 M2.o rfl ?_
    refine x_get lf_X14_173 dX14_readAtom_204 dc2.1 rfl ?_
    refine x_iload_n dX14_readAtom_207 rfl ?_
    refine x_aload_n dX14_readAtom_208 rfl ?_
    refine x_iload_n dX14_readAtom_209 rfl ?_
    refine x_if_le 221 dX14_readAtom_210 (by decide) (fun c_210 => ?_) (fun c_210 => ?_)
    · rw [show (0 : Int32) = nI 0 from rfl, nI_leI (by omega) (by omega)] at c_210
      refine x_iconst (v := 0) dX14_readAtom_221 (by decide) ?_
      refine x_top (y := bi (decide (1 ≤ i ∧ tmI v i 0 = 0))) (by rw [decide_eq_false (show ¬ (1 ≤ i ∧ tmI v i 0 = 0) from fun z => by first | omega | exact c_214 ((hwt).symm.trans z.2))]; rfl) ?_
      refine x_callV (As := [.int (bi (decide (1 ≤ i ∧ tmI v i 0 = 0)))]) (st := [.int (nI i), .ref (h1.2 + 3)]) lv_X14_182 (k_X14_readArg tT hn4 hb h09 hT0 MM2 hk2 (Nat.le_refl _) hi hv.2.1.2.2 (bf := true) (bd9 := (decide (1 ≤ i ∧ tmI v i 0 = 0))) (by rw [decide_eq_true_iff]) hA3 (fun _ => hA2) (stL_l1 hi hA3)) dX14_readAtom_222 M2.o rfl rfl (Nat.le_of_ble_eq_true rfl) ⟨by decide, by decide⟩ ⟨by decide, by decide⟩ (fun v9 h3 z => ?_) (fun q9 ci9 fs9 h9 hc9 z => ?_)
      · rcases z with ⟨_, _, _, ev, _⟩ | ⟨q3, v3, x3, y3, ev, ex3, g3, w3, ar3, tw3, kw3, MN3⟩ <;> cases ev
        have hk3 : k + 2 < ts := (tkT_nx tT hk2 (pArg_ty y3)).1
        have hpp3 : (tk (k + 1)).2.1 ≤ 400 := (hO (k + 1) hk2).2.1
        obtain ⟨r3, ro3, rx3, rq3, ⟨ra3, rb3, rc3⟩, rt3, rf3⟩ := rdP_arg y3 hv hpp3 (fun _ => hA2) hA3
        obtain ⟨M3, cu3, gk3, ak3, qm3, gg3, dr3, sm3, bd3, fr3⟩ := id MN3
        obtain ⟨so3, kd3, on3, tz3, lt3, dc3, de3, dl3, dx3⟩ := id dr3
        refine x_iastN (j := i) dc3.2.2.2.1 rfl (by omega) (by decide) dX14_readAtom_225 ?_
        have D4 : dr9 (xup h3 (h1.2 + 3) (.inl (0, 5, .inl (upd on3 i x3)))) h1.2 v3 i T pl (fun so kd on tz => so i = tmI v3 i 0 ∧ kd i = tmI v3 i 1 ∧ on i = tmI v3 i 2 ∧ tz i = tmI v3 i 3) := by
          refine ⟨so3, kd3, (upd on3 i x3), tz3, lt3, ⟨((xup_ne (by omega)).trans dc3.1), ((xup_ne (by omega)).trans dc3.2.1), ((xup_ne (by omega)).trans dc3.2.2.1), (xup_self _ _ _), ((xup_ne (by omega)).trans dc3.2.2.2.2.1), ((xup_ne (by omega)).trans dc3.2.2.2.2.2)⟩, fun j hj => by rw [upd_nq (by omega)]; exact de3 j hj, dl3, ?_⟩
          obtain ⟨a1, a2, a3, a4⟩ := dx3
          exact ⟨a1.trans ra3.symm, a2.trans rb3.symm, by rw [upd_at9]; exact ex3, a4.trans (hA3.trans (rt3 rfl).2.symm)⟩
        have MM4 : MR9 h1 (xup h3 (h1.2 + 3) (.inl (0, 5, .inl (upd on3 i x3)))) g0 ar0 rf rc tk pos q3 v3 (k + 2) i i T pl (fun so kd on tz => so i = tmI v3 i 0 ∧ kd i = tmI v3 i 1 ∧ on i = tmI v3 i 2 ∧ tz i = tmI v3 i 3) g3 w3 ar3 tw3 kw3 := MN3.re rfl (fun q9 hq9 => xup_ne (by omega)) D4
        generalize xup h3 (h1.2 + 3) (.inl (0, 5, .inl (upd on3 i x3))) = h4 at MM4 ⊢
        obtain ⟨M4, cu4, gk4, ak4, qm4, gg4, dr4, sm4, bd4, fr4⟩ := id MM4
        obtain ⟨so4, kd4, on4, tz4, lt4, dc4, de4, dl4, dx4⟩ := id dr4
        refine x_iconst (v := 1) dX14_readAtom_226 (by decide) ?_
        refine x_istore [(0, .ref 205), (1, .int (nI i)), (2, .int wt), (3, .int (nI pl9)), (4, .int (nI kd9)), (5, .int (bi nwb)), (6, .int 1)] dX14_readAtom_227 (by decide) rfl rfl ?_
        refine x_aload_n dX14_readAtom_229 rfl ?_
        refine x_bipush (v := 44) dX14_readAtom_230 (by decide) ?_
        refine x_callV (As := [.int (nI 44)]) (st := []) lv_X14_179 (k_X14_is M4 cu4 (hO (k + 2) hk3).1 (by omega) (by omega)) dX14_readAtom_232 M4.o rfl rfl (Nat.le_of_ble_eq_true rfl) ⟨by decide, by decide⟩ ⟨by decide, by decide⟩ (fun v9 h9 z => ?_) (fun _ _ _ _ _ z => by obtain ⟨_, z, _⟩ := z; cases z)
        obtain ⟨bq232, ev, eh, hq232⟩ := z
        rw [eh]
        cases ev
        refine x_if_eq 271 dX14_readAtom_235 (by decide) (fun c_235 => ?_) (fun c_235 => ?_)
        · have c_235 := bi_f c_235
          refine x_aload_n dX14_readAtom_271 rfl ?_
          refine x_bipush (v := 41) dX14_readAtom_272 (by decide) ?_
          refine x_callV (As := [.int (nI 41)]) (st := []) lv_X14_179 (k_X14_is M4 cu4 (hO (k + 2) hk3).1 (by omega) (by omega)) dX14_readAtom_274 M4.o rfl rfl (Nat.le_of_ble_eq_true rfl) ⟨by decide, by decide⟩ ⟨by decide, by decide⟩ (fun v9 h9 z => ?_) (fun _ _ _ _ _ z => by obtain ⟨_, z, _⟩ := z; cases z)
          obtain ⟨bq274, ev, eh, hq274⟩ := z
          rw [eh]
          cases ev
          refine x_if_ne 290 dX14_readAtom_277 (by decide) (fun c_277 => ?_) (fun c_277 => ?_)
          · have c_277 := bi_t c_277
            refine x_aload_n dX14_readAtom_290 rfl ?_
            have ht4 : (tk (k + 2)).1 = 41 := hq274.mp c_277
            obtain ⟨hk5, hlx5⟩ := tkT_nx tT hk3 (by omega)
            refine x_callV (As := []) (st := []) lv_X14_143 (k_X14_next M4 (hTT ak4) hlx5 ((gk4 19 (by omega)).trans h09) ((cu4.2.2.2.2.2 (by omega)).2.2)) dX14_readAtom_291 M4.o rfl rfl (Nat.le_of_ble_eq_true rfl) ⟨by decide, by decide⟩ ⟨by decide, by decide⟩ (fun v9 h5 z => ?_) (fun _ _ _ _ _ z => by cases z.1)
            obtain ⟨ev, y5, g5, w5, Mx5, s5, cx5⟩ := z
            cases ev
            have MM5 : MR9 h1 h5 g0 ar0 rf rc tk pos q3 v3 (k + 3) i i T pl (fun so kd on tz => so i = tmI v3 i 0 ∧ kd i = tmI v3 i 1 ∧ on i = tmI v3 i 2 ∧ tz i = tmI v3 i 3) g5 w5 ar3 tw3 kw3 := MM4.nx y5 Mx5 s5 cx5
            obtain ⟨M5, cu5, gk5, ak5, qm5, gg5, dr5, sm5, bd5, fr5⟩ := id MM5
            obtain ⟨so5, kd5, on5, tz5, lt5, dc5, de5, dl5, dx5⟩ := id dr5
            have e6 : plC (tmI v3 i) = 1 := by unfold plC; rw [if_neg (rt3 rfl).1, if_pos (rt3 rfl).2]
            have L9 := l_X14_fin (G := G) tT hn4 hb h09 hT0 (kd9 := kd9) (pl9 := pl9) hi (wt := wt) (nwb := nwb) (q0 := q0) MM5 hk5 hkd (hx0.tr rx3)
            rw [e6] at L9
            have e7 : pAt1 tk q v k i kd9 pl9 nwb = pFin q3 v3 i kd9 pl9 nwb (k + 3) := by unfold pAt1; rw [if_pos (hq190.mp c_193), y3]; simp only []; rw [if_neg (fun z => by rw [hq232.mpr z] at c_235; cases c_235)]; unfold pAt2; rw [if_pos (hq274.mp c_277)]
            rw [e7]
            exact L9
          · have c_277 := bi_f c_277
            refine x_aload_n dX14_readAtom_280 rfl ?_
            refine x_iconst (v := 1) dX14_readAtom_281 (by decide) ?_
            refine x_aload_n dX14_readAtom_282 rfl ?_
            refine x_get lf_X14_114 dX14_readAtom_283 M4.o rfl ?_
            refine x_callV (As := [.int 1, .int (g3 22)]) (st := []) lv_X14_136 (k_X14_stop M4) dX14_readAtom_286 M4.o rfl rfl (Nat.le_of_ble_eq_true rfl) ⟨by decide, by decide⟩ ⟨by decide, by decide⟩ (fun v9 h9 z => ?_) (fun _ _ _ _ _ z => by cases z.1)
            obtain ⟨ev, eh⟩ := z
            rw [eh]
            cases ev
            refine x_athrow dX14_readAtom_289 (x_out (fun x hx => by cases hx) (xup_self _ _ _) (Nat.le_refl _) (Nat.le_refl _) (Or.inl ⟨1, (tk (k + 2)).2.1, (by unfold pAt1; rw [if_pos (hq190.mp c_193), y3]; simp only []; rw [if_neg (fun z => by rw [hq232.mpr z] at c_235; cases c_235)]; unfold pAt2; rw [if_neg (fun z => by rw [hq274.mpr z] at c_277; cases c_277)]), rfl, (by rw [← cu4.1]; exact xup_self _ _ _), q3, (hx0.tr rx3), MM4.bad⟩))
        · have c_235 := bi_t c_235
          refine x_aload_n dX14_readAtom_238 rfl ?_
          have ht4 : (tk (k + 2)).1 = 44 := hq232.mp c_235
          obtain ⟨hk5, hlx5⟩ := tkT_nx tT hk3 (by omega)
          refine x_callV (As := []) (st := []) lv_X14_143 (k_X14_next M4 (hTT ak4) hlx5 ((gk4 19 (by omega)).trans h09) ((cu4.2.2.2.2.2 (by omega)).2.2)) dX14_readAtom_239 M4.o rfl rfl (Nat.le_of_ble_eq_true rfl) ⟨by decide, by decide⟩ ⟨by decide, by decide⟩ (fun v9 h5 z => ?_) (fun _ _ _ _ _ z => by cases z.1)
          obtain ⟨ev, y5, g5, w5, Mx5, s5, cx5⟩ := z
          cases ev
          have MM5 : MR9 h1 h5 g0 ar0 rf rc tk pos q3 v3 (k + 3) i i T pl (fun so kd on tz => so i = tmI v3 i 0 ∧ kd i = tmI v3 i 1 ∧ on i = tmI v3 i 2 ∧ tz i = tmI v3 i 3) g5 w5 ar3 tw3 kw3 := MM4.nx y5 Mx5 s5 cx5
          obtain ⟨M5, cu5, gk5, ak5, qm5, gg5, dr5, sm5, bd5, fr5⟩ := id MM5
          obtain ⟨so5, kd5, on5, tz5, lt5, dc5, de5, dl5, dx5⟩ := id dr5
          refine x_aload_n dX14_readAtom_242 rfl ?_
          refine x_get lf_X14_146 dX14_readAtom_243 M5.o rfl ?_
          refine x_get lf_X14_176 dX14_readAtom_246 dc5.1 rfl ?_
          refine x_iload_n dX14_readAtom_249 rfl ?_
          refine x_aload_n dX14_readAtom_250 rfl ?_
          refine x_iload_n dX14_readAtom_251 rfl ?_
          refine x_if_le 263 dX14_readAtom_252 (by decide) (fun c_252 => ?_) (fun c_252 => ?_)
          · rw [show (0 : Int32) = nI 0 from rfl, nI_leI (by omega) (by omega)] at c_252
            refine x_iconst (v := 0) dX14_readAtom_263 (by decide) ?_
            refine x_top (y := bi (decide (1 ≤ i ∧ tmI v3 i 0 = 0))) (by rw [decide_eq_false (show ¬ (1 ≤ i ∧ tmI v3 i 0 = 0) from fun z => by first | omega | exact c_256 (((ra3.trans hwt)).symm.trans z.2))]; rfl) ?_
            refine x_callV (As := [.int (bi (decide (1 ≤ i ∧ tmI v3 i 0 = 0)))]) (st := [.int (nI i), .ref (h1.2 + 4)]) lv_X14_182 (k_X14_readArg tT hn4 hb h09 hT0 MM5 hk5 (Nat.le_refl _) hi r3.2.1.2.2 (bf := false) (bd9 := (decide (1 ≤ i ∧ tmI v3 i 0 = 0))) (by rw [decide_eq_true_iff]) (rt3 rfl).2 (fun z => by cases z) (stL_l1 hi (rt3 rfl).2)) dX14_readAtom_264 M5.o rfl rfl (Nat.le_of_ble_eq_true rfl) ⟨by decide, by decide⟩ ⟨by decide, by decide⟩ (fun v9 h6 z => ?_) (fun q9 ci9 fs9 h9 hc9 z => ?_)
            · rcases z with ⟨_, _, _, ev, _⟩ | ⟨q6, v6, x6, y6, ev, ex6, g6, w6, ar6, tw6, kw6, MN6⟩ <;> cases ev
              have hk6 : k + 4 < ts := (tkT_nx tT hk5 (pArg_ty y6)).1
              have hpp6 : (tk (k + 3)).2.1 ≤ 400 := (hO (k + 3) hk5).2.1
              obtain ⟨r6, ro6, rx6, rq6, ⟨ra6, rb6, rc6⟩, rt6, rf6⟩ := rdP_arg y6 r3 hpp6 (fun z => by cases z) (rt3 rfl).2
              obtain ⟨M6, cu6, gk6, ak6, qm6, gg6, dr6, sm6, bd6, fr6⟩ := id MN6
              obtain ⟨so6, kd6, on6, tz6, lt6, dc6, de6, dl6, dx6⟩ := id dr6
              refine x_iastN (j := i) dc6.2.2.2.2.1 rfl (by omega) (by decide) dX14_readAtom_267 ?_
              have D7 : dr9 (xup h6 (h1.2 + 4) (.inl (0, 5, .inl (upd tz6 i x6)))) h1.2 v6 i T pl (fun so kd on tz => so i = tmI v6 i 0 ∧ kd i = tmI v6 i 1 ∧ on i = tmI v6 i 2 ∧ tz i = tmI v6 i 3) := by
                refine ⟨so6, kd6, on6, (upd tz6 i x6), lt6, ⟨((xup_ne (by omega)).trans dc6.1), ((xup_ne (by omega)).trans dc6.2.1), ((xup_ne (by omega)).trans dc6.2.2.1), ((xup_ne (by omega)).trans dc6.2.2.2.1), (xup_self _ _ _), ((xup_ne (by omega)).trans dc6.2.2.2.2.2)⟩, fun j hj => by rw [upd_nq (by omega)]; exact de6 j hj, dl6, ?_⟩
                obtain ⟨a1, a2, a3, a4⟩ := dx6
                exact ⟨a1.trans ra6.symm, a2.trans rb6.symm, a3.trans (rf6 rfl).1.symm, by rw [upd_at9]; exact ex6⟩
              have MM7 : MR9 h1 (xup h6 (h1.2 + 4) (.inl (0, 5, .inl (upd tz6 i x6)))) g0 ar0 rf rc tk pos q6 v6 (k + 4) i i T pl (fun so kd on tz => so i = tmI v6 i 0 ∧ kd i = tmI v6 i 1 ∧ on i = tmI v6 i 2 ∧ tz i = tmI v6 i 3) g6 w6 ar6 tw6 kw6 := MN6.re rfl (fun q9 hq9 => xup_ne (by omega)) D7
              generalize xup h6 (h1.2 + 4) (.inl (0, 5, .inl (upd tz6 i x6))) = h7 at MM7 ⊢
              obtain ⟨M7, cu7, gk7, ak7, qm7, gg7, dr7, sm7, bd7, fr7⟩ := id MM7
              obtain ⟨so7, kd7, on7, tz7, lt7, dc7, de7, dl7, dx7⟩ := id dr7
              refine x_iconst (v := 2) dX14_readAtom_268 (by decide) ?_
              refine x_istore [(0, .ref 205), (1, .int (nI i)), (2, .int wt), (3, .int (nI pl9)), (4, .int (nI kd9)), (5, .int (bi nwb)), (6, .int 2)] dX14_readAtom_269 (by decide) rfl rfl ?_
              refine x_aload_n dX14_readAtom_271 rfl ?_
              refine x_bipush (v := 41) dX14_readAtom_272 (by decide) ?_
              refine x_callV (As := [.int (nI 41)]) (st := []) lv_X14_179 (k_X14_is M7 cu7 (hO (k + 4) hk6).1 (by omega) (by omega)) dX14_readAtom_274 M7.o rfl rfl (Nat.le_of_ble_eq_true rfl) ⟨by decide, by decide⟩ ⟨by decide, by decide⟩ (fun v9 h9 z => ?_) (fun _ _ _ _ _ z => by obtain ⟨_, z, _⟩ := z; cases z)
              obtain ⟨bq274, ev, eh, hq274⟩ := z
              rw [eh]
              cases ev
              refine x_if_ne 290 dX14_readAtom_277 (by decide) (fun c_277 => ?_) (fun c_277 => ?_)
              · have c_277 := bi_t c_277
                refine x_aload_n dX14_readAtom_290 rfl ?_
                have ht7 : (tk (k + 4)).1 = 41 := hq274.mp c_277
                obtain ⟨hk8, hlx8⟩ := tkT_nx tT hk6 (by omega)
                refine x_callV (As := []) (st := []) lv_X14_143 (k_X14_next M7 (hTT ak7) hlx8 ((gk7 19 (by omega)).trans h09) ((cu7.2.2.2.2.2 (by omega)).2.2)) dX14_readAtom_291 M7.o rfl rfl (Nat.le_of_ble_eq_true rfl) ⟨by decide, by decide⟩ ⟨by decide, by decide⟩ (fun v9 h8 z => ?_) (fun _ _ _ _ _ z => by cases z.1)
                obtain ⟨ev, y8, g8, w8, Mx8, s8, cx8⟩ := z
                cases ev
                have MM8 : MR9 h1 h8 g0 ar0 rf rc tk pos q6 v6 (k + 5) i i T pl (fun so kd on tz => so i = tmI v6 i 0 ∧ kd i = tmI v6 i 1 ∧ on i = tmI v6 i 2 ∧ tz i = tmI v6 i 3) g8 w8 ar6 tw6 kw6 := MM7.nx y8 Mx8 s8 cx8
                obtain ⟨M8, cu8, gk8, ak8, qm8, gg8, dr8, sm8, bd8, fr8⟩ := id MM8
                obtain ⟨so8, kd8, on8, tz8, lt8, dc8, de8, dl8, dx8⟩ := id dr8
                have e6 : plC (tmI v6 i) = 2 := by unfold plC; rw [if_neg (by rw [(rf6 rfl).1]; exact (rt3 rfl).1), if_neg (rf6 rfl).2]
                have L9 := l_X14_fin (G := G) tT hn4 hb h09 hT0 (kd9 := kd9) (pl9 := pl9) hi (wt := wt) (nwb := nwb) (q0 := q0) MM8 hk8 hkd ((hx0.tr rx3).tr rx6)
                rw [e6] at L9
                have e7 : pAt1 tk q v k i kd9 pl9 nwb = pFin q6 v6 i kd9 pl9 nwb (k + 5) := by unfold pAt1; rw [if_pos (hq190.mp c_193), y3]; simp only []; rw [if_pos (hq232.mp c_235), y6]; simp only []; unfold pAt2; rw [if_pos (hq274.mp c_277)]
                rw [e7]
                exact L9
              · have c_277 := bi_f c_277
                refine x_aload_n dX14_readAtom_280 rfl ?_
                refine x_iconst (v := 1) dX14_readAtom_281 (by decide) ?_
                refine x_aload_n dX14_readAtom_282 rfl ?_
                refine x_get lf_X14_114 dX14_readAtom_283 M7.o rfl ?_
                refine x_callV (As := [.int 1, .int (g6 22)]) (st := []) lv_X14_136 (k_X14_stop M7) dX14_readAtom_286 M7.o rfl rfl (Nat.le_of_ble_eq_true rfl) ⟨by decide, by decide⟩ ⟨by decide, by decide⟩ (fun v9 h9 z => ?_) (fun _ _ _ _ _ z => by cases z.1)
                obtain ⟨ev, eh⟩ := z
                rw [eh]
                cases ev
                refine x_athrow dX14_readAtom_289 (x_out (fun x hx => by cases hx) (xup_self _ _ _) (Nat.le_refl _) (Nat.le_refl _) (Or.inl ⟨1, (tk (k + 4)).2.1, (by unfold pAt1; rw [if_pos (hq190.mp c_193), y3]; simp only []; rw [if_pos (hq232.mp c_235), y6]; simp only []; unfold pAt2; rw [if_neg (fun z => by rw [hq274.mpr z] at c_277; cases c_277)]), rfl, (by rw [← cu7.1]; exact xup_self _ _ _), q6, ((hx0.tr rx3).tr rx6), MM7.bad⟩))
            · rcases z with ⟨e9, p9, y9, ev, z1, q9, z2, z3⟩ | ⟨_, _, _, _, ev, _⟩ <;> cases ev
              exact x_out (fun x hx => by cases hx) hc9 (Nat.le_refl _) (Nat.le_refl _) (Or.inl ⟨e9, p9, (by unfold pAt1; rw [if_pos (hq190.mp c_193), y3]; simp only []; rw [if_pos (hq232.mp c_235), y9]), rfl, z1, q9, (hx0.tr rx3).tr z2, z3⟩)
          · rw [show (0 : Int32) = nI 0 from rfl, nI_leI (by omega) (by omega)] at c_252
            refine x_iload_n dX14_readAtom_255 rfl ?_
            refine x_if_ne 263 dX14_readAtom_256 (by decide) (fun c_256 => ?_) (fun c_256 => ?_)
            · refine x_iconst (v := 0) dX14_readAtom_263 (by decide) ?_
              refine x_top (y := bi (decide (1 ≤ i ∧ tmI v3 i 0 = 0))) (by rw [decide_eq_false (show ¬ (1 ≤ i ∧ tmI v3 i 0 = 0) from fun z => by first | omega | exact c_256 (((ra3.trans hwt)).symm.trans z.2))]; rfl) ?_
              refine x_callV (As := [.int (bi (decide (1 ≤ i ∧ tmI v3 i 0 = 0)))]) (st := [.int (nI i), .ref (h1.2 + 4)]) lv_X14_182 (k_X14_readArg tT hn4 hb h09 hT0 MM5 hk5 (Nat.le_refl _) hi r3.2.1.2.2 (bf := false) (bd9 := (decide (1 ≤ i ∧ tmI v3 i 0 = 0))) (by rw [decide_eq_true_iff]) (rt3 rfl).2 (fun z => by cases z) (stL_l1 hi (rt3 rfl).2)) dX14_readAtom_264 M5.o rfl rfl (Nat.le_of_ble_eq_true rfl) ⟨by decide, by decide⟩ ⟨by decide, by decide⟩ (fun v9 h6 z => ?_) (fun q9 ci9 fs9 h9 hc9 z => ?_)
              · rcases z with ⟨_, _, _, ev, _⟩ | ⟨q6, v6, x6, y6, ev, ex6, g6, w6, ar6, tw6, kw6, MN6⟩ <;> cases ev
                have hk6 : k + 4 < ts := (tkT_nx tT hk5 (pArg_ty y6)).1
                have hpp6 : (tk (k + 3)).2.1 ≤ 400 := (hO (k + 3) hk5).2.1
                obtain ⟨r6, ro6, rx6, rq6, ⟨ra6, rb6, rc6⟩, rt6, rf6⟩ := rdP_arg y6 r3 hpp6 (fun z => by cases z) (rt3 rfl).2
                obtain ⟨M6, cu6, gk6, ak6, qm6, gg6, dr6, sm6, bd6, fr6⟩ := id MN6
                obtain ⟨so6, kd6, on6, tz6, lt6, dc6, de6, dl6, dx6⟩ := id dr6
                refine x_iastN (j := i) dc6.2.2.2.2.1 rfl (by omega) (by decide) dX14_readAtom_267 ?_
                have D7 : dr9 (xup h6 (h1.2 + 4) (.inl (0, 5, .inl (upd tz6 i x6)))) h1.2 v6 i T pl (fun so kd on tz => so i = tmI v6 i 0 ∧ kd i = tmI v6 i 1 ∧ on i = tmI v6 i 2 ∧ tz i = tmI v6 i 3) := by
                  refine ⟨so6, kd6, on6, (upd tz6 i x6), lt6, ⟨((xup_ne (by omega)).trans dc6.1), ((xup_ne (by omega)).trans dc6.2.1), ((xup_ne (by omega)).trans dc6.2.2.1), ((xup_ne (by omega)).trans dc6.2.2.2.1), (xup_self _ _ _), ((xup_ne (by omega)).trans dc6.2.2.2.2.2)⟩, fun j hj => by rw [upd_nq (by omega)]; exact de6 j hj, dl6, ?_⟩
                  obtain ⟨a1, a2, a3, a4⟩ := dx6
                  exact ⟨a1.trans ra6.symm, a2.trans rb6.symm, a3.trans (rf6 rfl).1.symm, by rw [upd_at9]; exact ex6⟩
                have MM7 : MR9 h1 (xup h6 (h1.2 + 4) (.inl (0, 5, .inl (upd tz6 i x6)))) g0 ar0 rf rc tk pos q6 v6 (k + 4) i i T pl (fun so kd on tz => so i = tmI v6 i 0 ∧ kd i = tmI v6 i 1 ∧ on i = tmI v6 i 2 ∧ tz i = tmI v6 i 3) g6 w6 ar6 tw6 kw6 := MN6.re rfl (fun q9 hq9 => xup_ne (by omega)) D7
                generalize xup h6 (h1.2 + 4) (.inl (0, 5, .inl (upd tz6 i x6))) = h7 at MM7 ⊢
                obtain ⟨M7, cu7, gk7, ak7, qm7, gg7, dr7, sm7, bd7, fr7⟩ := id MM7
                obtain ⟨so7, kd7, on7, tz7, lt7, dc7, de7, dl7, dx7⟩ := id dr7
                refine x_iconst (v := 2) dX14_readAtom_268 (by decide) ?_
                refine x_istore [(0, .ref 205), (1, .int (nI i)), (2, .int wt), (3, .int (nI pl9)), (4, .int (nI kd9)), (5, .int (bi nwb)), (6, .int 2)] dX14_readAtom_269 (by decide) rfl rfl ?_
                refine x_aload_n dX14_readAtom_271 rfl ?_
                refine x_bipush (v := 41) dX14_readAtom_272 (by decide) ?_
                refine x_callV (As := [.int (nI 41)]) (st := []) lv_X14_179 (k_X14_is M7 cu7 (hO (k + 4) hk6).1 (by omega) (by omega)) dX14_readAtom_274 M7.o rfl rfl (Nat.le_of_ble_eq_true rfl) ⟨by decide, by decide⟩ ⟨by decide, by decide⟩ (fun v9 h9 z => ?_) (fun _ _ _ _ _ z => by obtain ⟨_, z, _⟩ := z; cases z)
                obtain ⟨bq274, ev, eh, hq274⟩ := z
                rw [eh]
                cases ev
                refine x_if_ne 290 dX14_readAtom_277 (by decide) (fun c_277 => ?_) (fun c_277 => ?_)
                · have c_277 := bi_t c_277
                  refine x_aload_n dX14_readAtom_290 rfl ?_
                  have ht7 : (tk (k + 4)).1 = 41 := hq274.mp c_277
                  obtain ⟨hk8, hlx8⟩ := tkT_nx tT hk6 (by omega)
                  refine x_callV (As := []) (st := []) lv_X14_143 (k_X14_next M7 (hTT ak7) hlx8 ((gk7 19 (by omega)).trans h09) ((cu7.2.2.2.2.2 (by omega)).2.2)) dX14_readAtom_291 M7.o rfl rfl (Nat.le_of_ble_eq_true rfl) ⟨by decide, by decide⟩ ⟨by decide, by decide⟩ (fun v9 h8 z => ?_) (fun _ _ _ _ _ z => by cases z.1)
                  obtain ⟨ev, y8, g8, w8, Mx8, s8, cx8⟩ := z
                  cases ev
                  have MM8 : MR9 h1 h8 g0 ar0 rf rc tk pos q6 v6 (k + 5) i i T pl (fun so kd on tz => so i = tmI v6 i 0 ∧ kd i = tmI v6 i 1 ∧ on i = tmI v6 i 2 ∧ tz i = tmI v6 i 3) g8 w8 ar6 tw6 kw6 := MM7.nx y8 Mx8 s8 cx8
                  obtain ⟨M8, cu8, gk8, ak8, qm8, gg8, dr8, sm8, bd8, fr8⟩ := id MM8
                  obtain ⟨so8, kd8, on8, tz8, lt8, dc8, de8, dl8, dx8⟩ := id dr8
                  have e6 : plC (tmI v6 i) = 2 := by unfold plC; rw [if_neg (by rw [(rf6 rfl).1]; exact (rt3 rfl).1), if_neg (rf6 rfl).2]
                  have L9 := l_X14_fin (G := G) tT hn4 hb h09 hT0 (kd9 := kd9) (pl9 := pl9) hi (wt := wt) (nwb := nwb) (q0 := q0) MM8 hk8 hkd ((hx0.tr rx3).tr rx6)
                  rw [e6] at L9
                  have e7 : pAt1 tk q v k i kd9 pl9 nwb = pFin q6 v6 i kd9 pl9 nwb (k + 5) := by unfold pAt1; rw [if_pos (hq190.mp c_193), y3]; simp only []; rw [if_pos (hq232.mp c_235), y6]; simp only []; unfold pAt2; rw [if_pos (hq274.mp c_277)]
                  rw [e7]
                  exact L9
                · have c_277 := bi_f c_277
                  refine x_aload_n dX14_readAtom_280 rfl ?_
                  refine x_iconst (v := 1) dX14_readAtom_281 (by decide) ?_
                  refine x_aload_n dX14_readAtom_282 rfl ?_
                  refine x_get lf_X14_114 dX14_readAtom_283 M7.o rfl ?_
                  refine x_callV (As := [.int 1, .int (g6 22)]) (st := []) lv_X14_136 (k_X14_stop M7) dX14_readAtom_286 M7.o rfl rfl (Nat.le_of_ble_eq_true rfl) ⟨by decide, by decide⟩ ⟨by decide, by decide⟩ (fun v9 h9 z => ?_) (fun _ _ _ _ _ z => by cases z.1)
                  obtain ⟨ev, eh⟩ := z
                  rw [eh]
                  cases ev
                  refine x_athrow dX14_readAtom_289 (x_out (fun x hx => by cases hx) (xup_self _ _ _) (Nat.le_refl _) (Nat.le_refl _) (Or.inl ⟨1, (tk (k + 4)).2.1, (by unfold pAt1; rw [if_pos (hq190.mp c_193), y3]; simp only []; rw [if_pos (hq232.mp c_235), y6]; simp only []; unfold pAt2; rw [if_neg (fun z => by rw [hq274.mpr z] at c_277; cases c_277)]), rfl, (by rw [← cu7.1]; exact xup_self _ _ _), q6, ((hx0.tr rx3).tr rx6), MM7.bad⟩))
              · rcases z with ⟨e9, p9, y9, ev, z1, q9, z2, z3⟩ | ⟨_, _, _, _, ev, _⟩ <;> cases ev
                exact x_out (fun x hx => by cases hx) hc9 (Nat.le_refl _) (Nat.le_refl _) (Or.inl ⟨e9, p9, (by unfold pAt1; rw [if_pos (hq190.mp c_193), y3]; simp only []; rw [if_pos (hq232.mp c_235), y9]), rfl, z1, q9, (hx0.tr rx3).tr z2, z3⟩)
            · refine x_iconst (v := 1) dX14_readAtom_259 (by decide) ?_
              refine x_goto 264 dX14_readAtom_260 (by decide) ?_
              refine x_top (y := bi (decide (1 ≤ i ∧ tmI v3 i 0 = 0))) (by rw [decide_eq_true (show 1 ≤ i ∧ tmI v3 i 0 = 0 from ⟨by omega, ((ra3.trans hwt)).trans c_256⟩)]; rfl) ?_
              refine x_callV (As := [.int (bi (decide (1 ≤ i ∧ tmI v3 i 0 = 0)))]) (st := [.int (nI i), .ref (h1.2 + 4)]) lv_X14_182 (k_X14_readArg tT hn4 hb h09 hT0 MM5 hk5 (Nat.le_refl _) hi r3.2.1.2.2 (bf := false) (bd9 := (decide (1 ≤ i ∧ tmI v3 i 0 = 0))) (by rw [decide_eq_true_iff]) (rt3 rfl).2 (fun z => by cases z) (stL_l1 hi (rt3 rfl).2)) dX14_readAtom_264 M5.o rfl rfl (Nat.le_of_ble_eq_true rfl) ⟨by decide, by decide⟩ ⟨by decide, by decide⟩ (fun v9 h6 z => ?_) (fun q9 ci9 fs9 h9 hc9 z => ?_)
              · rcases z with ⟨_, _, _, ev, _⟩ | ⟨q6, v6, x6, y6, ev, ex6, g6, w6, ar6, tw6, kw6, MN6⟩ <;> cases ev
                have hk6 : k + 4 < ts := (tkT_nx tT hk5 (pArg_ty y6)).1
                have hpp6 : (tk (k + 3)).2.1 ≤ 400 := (hO (k + 3) hk5).2.1
                obtain ⟨r6, ro6, rx6, rq6, ⟨ra6, rb6, rc6⟩, rt6, rf6⟩ := rdP_arg y6 r3 hpp6 (fun z => by cases z) (rt3 rfl).2
                obtain ⟨M6, cu6, gk6, ak6, qm6, gg6, dr6, sm6, bd6, fr6⟩ := id MN6
                obtain ⟨so6, kd6, on6, tz6, lt6, dc6, de6, dl6, dx6⟩ := id dr6
                refine x_iastN (j := i) dc6.2.2.2.2.1 rfl (by omega) (by decide) dX14_readAtom_267 ?_
                have D7 : dr9 (xup h6 (h1.2 + 4) (.inl (0, 5, .inl (upd tz6 i x6)))) h1.2 v6 i T pl (fun so kd on tz => so i = tmI v6 i 0 ∧ kd i = tmI v6 i 1 ∧ on i = tmI v6 i 2 ∧ tz i = tmI v6 i 3) := by
                  refine ⟨so6, kd6, on6, (upd tz6 i x6), lt6, ⟨((xup_ne (by omega)).trans dc6.1), ((xup_ne (by omega)).trans dc6.2.1), ((xup_ne (by omega)).trans dc6.2.2.1), ((xup_ne (by omega)).trans dc6.2.2.2.1), (xup_self _ _ _), ((xup_ne (by omega)).trans dc6.2.2.2.2.2)⟩, fun j hj => by rw [upd_nq (by omega)]; exact de6 j hj, dl6, ?_⟩
                  obtain ⟨a1, a2, a3, a4⟩ := dx6
                  exact ⟨a1.trans ra6.symm, a2.trans rb6.symm, a3.trans (rf6 rfl).1.symm, by rw [upd_at9]; exact ex6⟩
                have MM7 : MR9 h1 (xup h6 (h1.2 + 4) (.inl (0, 5, .inl (upd tz6 i x6)))) g0 ar0 rf rc tk pos q6 v6 (k + 4) i i T pl (fun so kd on tz => so i = tmI v6 i 0 ∧ kd i = tmI v6 i 1 ∧ on i = tmI v6 i 2 ∧ tz i = tmI v6 i 3) g6 w6 ar6 tw6 kw6 := MN6.re rfl (fun q9 hq9 => xup_ne (by omega)) D7
                generalize xup h6 (h1.2 + 4) (.inl (0, 5, .inl (upd tz6 i x6))) = h7 at MM7 ⊢
                obtain ⟨M7, cu7, gk7, ak7, qm7, gg7, dr7, sm7, bd7, fr7⟩ := id MM7
                obtain ⟨so7, kd7, on7, tz7, lt7, dc7, de7, dl7, dx7⟩ := id dr7
                refine x_iconst (v := 2) dX14_readAtom_268 (by decide) ?_
                refine x_istore [(0, .ref 205), (1, .int (nI i)), (2, .int wt), (3, .int (nI pl9)), (4, .int (nI kd9)), (5, .int (bi nwb)), (6, .int 2)] dX14_readAtom_269 (by decide) rfl rfl ?_
                refine x_aload_n dX14_readAtom_271 rfl ?_
                refine x_bipush (v := 41) dX14_readAtom_272 (by decide) ?_
                refine x_callV (As := [.int (nI 41)]) (st := []) lv_X14_179 (k_X14_is M7 cu7 (hO (k + 4) hk6).1 (by omega) (by omega)) dX14_readAtom_274 M7.o rfl rfl (Nat.le_of_ble_eq_true rfl) ⟨by decide, by decide⟩ ⟨by decide, by decide⟩ (fun v9 h9 z => ?_) (fun _ _ _ _ _ z => by obtain ⟨_, z, _⟩ := z; cases z)
                obtain ⟨bq274, ev, eh, hq274⟩ := z
                rw [eh]
                cases ev
                refine x_if_ne 290 dX14_readAtom_277 (by decide) (fun c_277 => ?_) (fun c_277 => ?_)
                · have c_277 := bi_t c_277
                  refine x_aload_n dX14_readAtom_290 rfl ?_
                  have ht7 : (tk (k + 4)).1 = 41 := hq274.mp c_277
                  obtain ⟨hk8, hlx8⟩ := tkT_nx tT hk6 (by omega)
                  refine x_callV (As := []) (st := []) lv_X14_143 (k_X14_next M7 (hTT ak7) hlx8 ((gk7 19 (by omega)).trans h09) ((cu7.2.2.2.2.2 (by omega)).2.2)) dX14_readAtom_291 M7.o rfl rfl (Nat.le_of_ble_eq_true rfl) ⟨by decide, by decide⟩ ⟨by decide, by decide⟩ (fun v9 h8 z => ?_) (fun _ _ _ _ _ z => by cases z.1)
                  obtain ⟨ev, y8, g8, w8, Mx8, s8, cx8⟩ := z
                  cases ev
                  have MM8 : MR9 h1 h8 g0 ar0 rf rc tk pos q6 v6 (k + 5) i i T pl (fun so kd on tz => so i = tmI v6 i 0 ∧ kd i = tmI v6 i 1 ∧ on i = tmI v6 i 2 ∧ tz i = tmI v6 i 3) g8 w8 ar6 tw6 kw6 := MM7.nx y8 Mx8 s8 cx8
                  obtain ⟨M8, cu8, gk8, ak8, qm8, gg8, dr8, sm8, bd8, fr8⟩ := id MM8
                  obtain ⟨so8, kd8, on8, tz8, lt8, dc8, de8, dl8, dx8⟩ := id dr8
                  have e6 : plC (tmI v6 i) = 2 := by unfold plC; rw [if_neg (by rw [(rf6 rfl).1]; exact (rt3 rfl).1), if_neg (rf6 rfl).2]
                  have L9 := l_X14_fin (G := G) tT hn4 hb h09 hT0 (kd9 := kd9) (pl9 := pl9) hi (wt := wt) (nwb := nwb) (q0 := q0) MM8 hk8 hkd ((hx0.tr rx3).tr rx6)
                  rw [e6] at L9
                  have e7 : pAt1 tk q v k i kd9 pl9 nwb = pFin q6 v6 i kd9 pl9 nwb (k + 5) := by unfold pAt1; rw [if_pos (hq190.mp c_193), y3]; simp only []; rw [if_pos (hq232.mp c_235), y6]; simp only []; unfold pAt2; rw [if_pos (hq274.mp c_277)]
                  rw [e7]
                  exact L9
                · have c_277 := bi_f c_277
                  refine x_aload_n dX14_readAtom_280 rfl ?_
                  refine x_iconst (v := 1) dX14_readAtom_281 (by decide) ?_
                  refine x_aload_n dX14_readAtom_282 rfl ?_
                  refine x_get lf_X14_114 dX14_readAtom_283 M7.o rfl ?_
                  refine x_callV (As := [.int 1, .int (g6 22)]) (st := []) lv_X14_136 (k_X14_stop M7) dX14_readAtom_286 M7.o rfl rfl (Nat.le_of_ble_eq_true rfl) ⟨by decide, by decide⟩ ⟨by decide, by decide⟩ (fun v9 h9 z => ?_) (fun _ _ _ _ _ z => by cases z.1)
                  obtain ⟨ev, eh⟩ := z
                  rw [eh]
                  cases ev
                  refine x_athrow dX14_readAtom_289 (x_out (fun x hx => by cases hx) (xup_self _ _ _) (Nat.le_refl _) (Nat.le_refl _) (Or.inl ⟨1, (tk (k + 4)).2.1, (by unfold pAt1; rw [if_pos (hq190.mp c_193), y3]; simp only []; rw [if_pos (hq232.mp c_235), y6]; simp only []; unfold pAt2; rw [if_neg (fun z => by rw [hq274.mpr z] at c_277; cases c_277)]), rfl, (by rw [← cu7.1]; exact xup_self _ _ _), q6, ((hx0.tr rx3).tr rx6), MM7.bad⟩))
              · rcases z with ⟨e9, p9, y9, ev, z1, q9, z2, z3⟩ | ⟨_, _, _, _, ev, _⟩ <;> cases ev
                exact x_out (fun x hx => by cases hx) hc9 (Nat.le_refl _) (Nat.le_refl _) (Or.inl ⟨e9, p9, (by unfold pAt1; rw [if_pos (hq190.mp c_193), y3]; simp only []; rw [if_pos (hq232.mp c_235), y9]), rfl, z1, q9, (hx0.tr rx3).tr z2, z3⟩)
      · rcases z with ⟨e9, p9, y9, ev, z1, q9, z2, z3⟩ | ⟨_, _, _, _, ev, _⟩ <;> cases ev
        exact x_out (fun x hx => by cases hx) hc9 (Nat.le_refl _) (Nat.le_refl _) (Or.inl ⟨e9, p9, (by unfold pAt1; rw [if_pos (hq190.mp c_193), y9]), rfl, z1, q9, hx0.tr z2, z3⟩)
    · rw [show (0 : Int32) = nI 0 from rfl, nI_leI (by omega) (by omega)] at c_210
      refine x_iload_n dX14_readAtom_213 rfl ?_
      refine x_if_ne 221 dX14_readAtom_214 (by decide) (fun c_214 => ?_) (fun c_214 => ?_)
      · refine x_iconst (v := 0) dX14_readAtom_221 (by decide) ?_
        refine x_top (y := bi (decide (1 ≤ i ∧ tmI v i 0 = 0))) (by rw [decide_eq_false (show ¬ (1 ≤ i ∧ tmI v i 0 = 0) from fun z => by first | omega | exact c_214 ((hwt).symm.trans z.2))]; rfl) ?_
        refine x_callV (As := [.int (bi (decide (1 ≤ i ∧ tmI v i 0 = 0)))]) (st := [.int (nI i), .ref (h1.2 + 3)]) lv_X14_182 (k_X14_readArg tT hn4 hb h09 hT0 MM2 hk2 (Nat.le_refl _) hi hv.2.1.2.2 (bf := true) (bd9 := (decide (1 ≤ i ∧ tmI v i 0 = 0))) (by rw [decide_eq_true_iff]) hA3 (fun _ => hA2) (stL_l1 hi hA3)) dX14_readAtom_222 M2.o rfl rfl (Nat.le_of_ble_eq_true rfl) ⟨by decide, by decide⟩ ⟨by decide, by decide⟩ (fun v9 h3 z => ?_) (fun q9 ci9 fs9 h9 hc9 z => ?_)
        · rcases z with ⟨_, _, _, ev, _⟩ | ⟨q3, v3, x3, y3, ev, ex3, g3, w3, ar3, tw3, kw3, MN3⟩ <;> cases ev
          have hk3 : k + 2 < ts := (tkT_nx tT hk2 (pArg_ty y3)).1
          have hpp3 : (tk (k + 1)).2.1 ≤ 400 := (hO (k + 1) hk2).2.1
          obtain ⟨r3, ro3, rx3, rq3, ⟨ra3, rb3, rc3⟩, rt3, rf3⟩ := rdP_arg y3 hv hpp3 (fun _ => hA2) hA3
          obtain ⟨M3, cu3, gk3, ak3, qm3, gg3, dr3, sm3, bd3, fr3⟩ := id MN3
          obtain ⟨so3, kd3, on3, tz3, lt3, dc3, de3, dl3, dx3⟩ := id dr3
          refine x_iastN (j := i) dc3.2.2.2.1 rfl (by omega) (by decide) dX14_readAtom_225 ?_
          have D4 : dr9 (xup h3 (h1.2 + 3) (.inl (0, 5, .inl (upd on3 i x3)))) h1.2 v3 i T pl (fun so kd on tz => so i = tmI v3 i 0 ∧ kd i = tmI v3 i 1 ∧ on i = tmI v3 i 2 ∧ tz i = tmI v3 i 3) := by
            refine ⟨so3, kd3, (upd on3 i x3), tz3, lt3, ⟨((xup_ne (by omega)).trans dc3.1), ((xup_ne (by omega)).trans dc3.2.1), ((xup_ne (by omega)).trans dc3.2.2.1), (xup_self _ _ _), ((xup_ne (by omega)).trans dc3.2.2.2.2.1), ((xup_ne (by omega)).trans dc3.2.2.2.2.2)⟩, fun j hj => by rw [upd_nq (by omega)]; exact de3 j hj, dl3, ?_⟩
            obtain ⟨a1, a2, a3, a4⟩ := dx3
            exact ⟨a1.trans ra3.symm, a2.trans rb3.symm, by rw [upd_at9]; exact ex3, a4.trans (hA3.trans (rt3 rfl).2.symm)⟩
          have MM4 : MR9 h1 (xup h3 (h1.2 + 3) (.inl (0, 5, .inl (upd on3 i x3)))) g0 ar0 rf rc tk pos q3 v3 (k + 2) i i T pl (fun so kd on tz => so i = tmI v3 i 0 ∧ kd i = tmI v3 i 1 ∧ on i = tmI v3 i 2 ∧ tz i = tmI v3 i 3) g3 w3 ar3 tw3 kw3 := MN3.re rfl (fun q9 hq9 => xup_ne (by omega)) D4
          generalize xup h3 (h1.2 + 3) (.inl (0, 5, .inl (upd on3 i x3))) = h4 at MM4 ⊢
          obtain ⟨M4, cu4, gk4, ak4, qm4, gg4, dr4, sm4, bd4, fr4⟩ := id MM4
          obtain ⟨so4, kd4, on4, tz4, lt4, dc4, de4, dl4, dx4⟩ := id dr4
          refine x_iconst (v := 1) dX14_readAtom_226 (by decide) ?_
          refine x_istore [(0, .ref 205), (1, .int (nI i)), (2, .int wt), (3, .int (nI pl9)), (4, .int (nI kd9)), (5, .int (bi nwb)), (6, .int 1)] dX14_readAtom_227 (by decide) rfl rfl ?_
          refine x_aload_n dX14_readAtom_229 rfl ?_
          refine x_bipush (v := 44) dX14_readAtom_230 (by decide) ?_
          refine x_callV (As := [.int (nI 44)]) (st := []) lv_X14_179 (k_X14_is M4 cu4 (hO (k + 2) hk3).1 (by omega) (by omega)) dX14_readAtom_232 M4.o rfl rfl (Nat.le_of_ble_eq_true rfl) ⟨by decide, by decide⟩ ⟨by decide, by decide⟩ (fun v9 h9 z => ?_) (fun _ _ _ _ _ z => by obtain ⟨_, z, _⟩ := z; cases z)
          obtain ⟨bq232, ev, eh, hq232⟩ := z
          rw [eh]
          cases ev
          refine x_if_eq 271 dX14_readAtom_235 (by decide) (fun c_235 => ?_) (fun c_235 => ?_)
          · have c_235 := bi_f c_235
            refine x_aload_n dX14_readAtom_271 rfl ?_
            refine x_bipush (v := 41) dX14_readAtom_272 (by decide) ?_
            refine x_callV (As := [.int (nI 41)]) (st := []) lv_X14_179 (k_X14_is M4 cu4 (hO (k + 2) hk3).1 (by omega) (by omega)) dX14_readAtom_274 M4.o rfl rfl (Nat.le_of_ble_eq_true rfl) ⟨by decide, by decide⟩ ⟨by decide, by decide⟩ (fun v9 h9 z => ?_) (fun _ _ _ _ _ z => by obtain ⟨_, z, _⟩ := z; cases z)
            obtain ⟨bq274, ev, eh, hq274⟩ := z
            rw [eh]
            cases ev
            refine x_if_ne 290 dX14_readAtom_277 (by decide) (fun c_277 => ?_) (fun c_277 => ?_)
            · have c_277 := bi_t c_277
              refine x_aload_n dX14_readAtom_290 rfl ?_
              have ht4 : (tk (k + 2)).1 = 41 := hq274.mp c_277
              obtain ⟨hk5, hlx5⟩ := tkT_nx tT hk3 (by omega)
              refine x_callV (As := []) (st := []) lv_X14_143 (k_X14_next M4 (hTT ak4) hlx5 ((gk4 19 (by omega)).trans h09) ((cu4.2.2.2.2.2 (by omega)).2.2)) dX14_readAtom_291 M4.o rfl rfl (Nat.le_of_ble_eq_true rfl) ⟨by decide, by decide⟩ ⟨by decide, by decide⟩ (fun v9 h5 z => ?_) (fun _ _ _ _ _ z => by cases z.1)
              obtain ⟨ev, y5, g5, w5, Mx5, s5, cx5⟩ := z
              cases ev
              have MM5 : MR9 h1 h5 g0 ar0 rf rc tk pos q3 v3 (k + 3) i i T pl (fun so kd on tz => so i = tmI v3 i 0 ∧ kd i = tmI v3 i 1 ∧ on i = tmI v3 i 2 ∧ tz i = tmI v3 i 3) g5 w5 ar3 tw3 kw3 := MM4.nx y5 Mx5 s5 cx5
              obtain ⟨M5, cu5, gk5, ak5, qm5, gg5, dr5, sm5, bd5, fr5⟩ := id MM5
              obtain ⟨so5, kd5, on5, tz5, lt5, dc5, de5, dl5, dx5⟩ := id dr5
              have e6 : plC (tmI v3 i) = 1 := by unfold plC; rw [if_neg (rt3 rfl).1, if_pos (rt3 rfl).2]
              have L9 := l_X14_fin (G := G) tT hn4 hb h09 hT0 (kd9 := kd9) (pl9 := pl9) hi (wt := wt) (nwb := nwb) (q0 := q0) MM5 hk5 hkd (hx0.tr rx3)
              rw [e6] at L9
              have e7 : pAt1 tk q v k i kd9 pl9 nwb = pFin q3 v3 i kd9 pl9 nwb (k + 3) := by unfold pAt1; rw [if_pos (hq190.mp c_193), y3]; simp only []; rw [if_neg (fun z => by rw [hq232.mpr z] at c_235; cases c_235)]; unfold pAt2; rw [if_pos (hq274.mp c_277)]
              rw [e7]
              exact L9
            · have c_277 := bi_f c_277
              refine x_aload_n dX14_readAtom_280 rfl ?_
              refine x_iconst (v := 1) dX14_readAtom_281 (by decide) ?_
              refine x_aload_n dX14_readAtom_282 rfl ?_
              refine x_get lf_X14_114 dX14_readAtom_283 M4.o rfl ?_
              refine x_callV (As := [.int 1, .int (g3 22)]) (st := []) lv_X14_136 (k_X14_stop M4) dX14_readAtom_286 M4.o rfl rfl (Nat.le_of_ble_eq_true rfl) ⟨by decide, by decide⟩ ⟨by decide, by decide⟩ (fun v9 h9 z => ?_) (fun _ _ _ _ _ z => by cases z.1)
              obtain ⟨ev, eh⟩ := z
              rw [eh]
              cases ev
              refine x_athrow dX14_readAtom_289 (x_out (fun x hx => by cases hx) (xup_self _ _ _) (Nat.le_refl _) (Nat.le_refl _) (Or.inl ⟨1, (tk (k + 2)).2.1, (by unfold pAt1; rw [if_pos (hq190.mp c_193), y3]; simp only []; rw [if_neg (fun z => by rw [hq232.mpr z] at c_235; cases c_235)]; unfold pAt2; rw [if_neg (fun z => by rw [hq274.mpr z] at c_277; cases c_277)]), rfl, (by rw [← cu4.1]; exact xup_self _ _ _), q3, (hx0.tr rx3), MM4.bad⟩))
          · have c_235 := bi_t c_235
            refine x_aload_n dX14_readAtom_238 rfl ?_
            have ht4 : (tk (k + 2)).1 = 44 := hq232.mp c_235
            obtain ⟨hk5, hlx5⟩ := tkT_nx tT hk3 (by omega)
            refine x_callV (As := []) (st := []) lv_X14_143 (k_X14_next M4 (hTT ak4) hlx5 ((gk4 19 (by omega)).trans h09) ((cu4.2.2.2.2.2 (by omega)).2.2)) dX14_readAtom_239 M4.o rfl rfl (Nat.le_of_ble_eq_true rfl) ⟨by decide, by decide⟩ ⟨by decide, by decide⟩ (fun v9 h5 z => ?_) (fun _ _ _ _ _ z => by cases z.1)
            obtain ⟨ev, y5, g5, w5, Mx5, s5, cx5⟩ := z
            cases ev
            have MM5 : MR9 h1 h5 g0 ar0 rf rc tk pos q3 v3 (k + 3) i i T pl (fun so kd on tz => so i = tmI v3 i 0 ∧ kd i = tmI v3 i 1 ∧ on i = tmI v3 i 2 ∧ tz i = tmI v3 i 3) g5 w5 ar3 tw3 kw3 := MM4.nx y5 Mx5 s5 cx5
            obtain ⟨M5, cu5, gk5, ak5, qm5, gg5, dr5, sm5, bd5, fr5⟩ := id MM5
            obtain ⟨so5, kd5, on5, tz5, lt5, dc5, de5, dl5, dx5⟩ := id dr5
            refine x_aload_n dX14_readAtom_242 rfl ?_
            refine x_get lf_X14_146 dX14_readAtom_243 M5.o rfl ?_
            refine x_get lf_X14_176 dX14_readAtom_246 dc5.1 rfl ?_
            refine x_iload_n dX14_readAtom_249 rfl ?_
            refine x_aload_n dX14_readAtom_250 rfl ?_
            refine x_iload_n dX14_readAtom_251 rfl ?_
            refine x_if_le 263 dX14_readAtom_252 (by decide) (fun c_252 => ?_) (fun c_252 => ?_)
            · rw [show (0 : Int32) = nI 0 from rfl, nI_leI (by omega) (by omega)] at c_252
              refine x_iconst (v := 0) dX14_readAtom_263 (by decide) ?_
              refine x_top (y := bi (decide (1 ≤ i ∧ tmI v3 i 0 = 0))) (by rw [decide_eq_false (show ¬ (1 ≤ i ∧ tmI v3 i 0 = 0) from fun z => by first | omega | exact c_256 (((ra3.trans hwt)).symm.trans z.2))]; rfl) ?_
              refine x_callV (As := [.int (bi (decide (1 ≤ i ∧ tmI v3 i 0 = 0)))]) (st := [.int (nI i), .ref (h1.2 + 4)]) lv_X14_182 (k_X14_readArg tT hn4 hb h09 hT0 MM5 hk5 (Nat.le_refl _) hi r3.2.1.2.2 (bf := false) (bd9 := (decide (1 ≤ i ∧ tmI v3 i 0 = 0))) (by rw [decide_eq_true_iff]) (rt3 rfl).2 (fun z => by cases z) (stL_l1 hi (rt3 rfl).2)) dX14_readAtom_264 M5.o rfl rfl (Nat.le_of_ble_eq_true rfl) ⟨by decide, by decide⟩ ⟨by decide, by decide⟩ (fun v9 h6 z => ?_) (fun q9 ci9 fs9 h9 hc9 z => ?_)
              · rcases z with ⟨_, _, _, ev, _⟩ | ⟨q6, v6, x6, y6, ev, ex6, g6, w6, ar6, tw6, kw6, MN6⟩ <;> cases ev
                have hk6 : k + 4 < ts := (tkT_nx tT hk5 (pArg_ty y6)).1
                have hpp6 : (tk (k + 3)).2.1 ≤ 400 := (hO (k + 3) hk5).2.1
                obtain ⟨r6, ro6, rx6, rq6, ⟨ra6, rb6, rc6⟩, rt6, rf6⟩ := rdP_arg y6 r3 hpp6 (fun z => by cases z) (rt3 rfl).2
                obtain ⟨M6, cu6, gk6, ak6, qm6, gg6, dr6, sm6, bd6, fr6⟩ := id MN6
                obtain ⟨so6, kd6, on6, tz6, lt6, dc6, de6, dl6, dx6⟩ := id dr6
                refine x_iastN (j := i) dc6.2.2.2.2.1 rfl (by omega) (by decide) dX14_readAtom_267 ?_
                have D7 : dr9 (xup h6 (h1.2 + 4) (.inl (0, 5, .inl (upd tz6 i x6)))) h1.2 v6 i T pl (fun so kd on tz => so i = tmI v6 i 0 ∧ kd i = tmI v6 i 1 ∧ on i = tmI v6 i 2 ∧ tz i = tmI v6 i 3) := by
                  refine ⟨so6, kd6, on6, (upd tz6 i x6), lt6, ⟨((xup_ne (by omega)).trans dc6.1), ((xup_ne (by omega)).trans dc6.2.1), ((xup_ne (by omega)).trans dc6.2.2.1), ((xup_ne (by omega)).trans dc6.2.2.2.1), (xup_self _ _ _), ((xup_ne (by omega)).trans dc6.2.2.2.2.2)⟩, fun j hj => by rw [upd_nq (by omega)]; exact de6 j hj, dl6, ?_⟩
                  obtain ⟨a1, a2, a3, a4⟩ := dx6
                  exact ⟨a1.trans ra6.symm, a2.trans rb6.symm, a3.trans (rf6 rfl).1.symm, by rw [upd_at9]; exact ex6⟩
                have MM7 : MR9 h1 (xup h6 (h1.2 + 4) (.inl (0, 5, .inl (upd tz6 i x6)))) g0 ar0 rf rc tk pos q6 v6 (k + 4) i i T pl (fun so kd on tz => so i = tmI v6 i 0 ∧ kd i = tmI v6 i 1 ∧ on i = tmI v6 i 2 ∧ tz i = tmI v6 i 3) g6 w6 ar6 tw6 kw6 := MN6.re rfl (fun q9 hq9 => xup_ne (by omega)) D7
                generalize xup h6 (h1.2 + 4) (.inl (0, 5, .inl (upd tz6 i x6))) = h7 at MM7 ⊢
                obtain ⟨M7, cu7, gk7, ak7, qm7, gg7, dr7, sm7, bd7, fr7⟩ := id MM7
                obtain ⟨so7, kd7, on7, tz7, lt7, dc7, de7, dl7, dx7⟩ := id dr7
                refine x_iconst (v := 2) dX14_readAtom_268 (by decide) ?_
                refine x_istore [(0, .ref 205), (1, .int (nI i)), (2, .int wt), (3, .int (nI pl9)), (4, .int (nI kd9)), (5, .int (bi nwb)), (6, .int 2)] dX14_readAtom_269 (by decide) rfl rfl ?_
                refine x_aload_n dX14_readAtom_271 rfl ?_
                refine x_bipush (v := 41) dX14_readAtom_272 (by decide) ?_
                refine x_callV (As := [.int (nI 41)]) (st := []) lv_X14_179 (k_X14_is M7 cu7 (hO (k + 4) hk6).1 (by omega) (by omega)) dX14_readAtom_274 M7.o rfl rfl (Nat.le_of_ble_eq_true rfl) ⟨by decide, by decide⟩ ⟨by decide, by decide⟩ (fun v9 h9 z => ?_) (fun _ _ _ _ _ z => by obtain ⟨_, z, _⟩ := z; cases z)
                obtain ⟨bq274, ev, eh, hq274⟩ := z
                rw [eh]
                cases ev
                refine x_if_ne 290 dX14_readAtom_277 (by decide) (fun c_277 => ?_) (fun c_277 => ?_)
                · have c_277 := bi_t c_277
                  refine x_aload_n dX14_readAtom_290 rfl ?_
                  have ht7 : (tk (k + 4)).1 = 41 := hq274.mp c_277
                  obtain ⟨hk8, hlx8⟩ := tkT_nx tT hk6 (by omega)
                  refine x_callV (As := []) (st := []) lv_X14_143 (k_X14_next M7 (hTT ak7) hlx8 ((gk7 19 (by omega)).trans h09) ((cu7.2.2.2.2.2 (by omega)).2.2)) dX14_readAtom_291 M7.o rfl rfl (Nat.le_of_ble_eq_true rfl) ⟨by decide, by decide⟩ ⟨by decide, by decide⟩ (fun v9 h8 z => ?_) (fun _ _ _ _ _ z => by cases z.1)
                  obtain ⟨ev, y8, g8, w8, Mx8, s8, cx8⟩ := z
                  cases ev
                  have MM8 : MR9 h1 h8 g0 ar0 rf rc tk pos q6 v6 (k + 5) i i T pl (fun so kd on tz => so i = tmI v6 i 0 ∧ kd i = tmI v6 i 1 ∧ on i = tmI v6 i 2 ∧ tz i = tmI v6 i 3) g8 w8 ar6 tw6 kw6 := MM7.nx y8 Mx8 s8 cx8
                  obtain ⟨M8, cu8, gk8, ak8, qm8, gg8, dr8, sm8, bd8, fr8⟩ := id MM8
                  obtain ⟨so8, kd8, on8, tz8, lt8, dc8, de8, dl8, dx8⟩ := id dr8
                  have e6 : plC (tmI v6 i) = 2 := by unfold plC; rw [if_neg (by rw [(rf6 rfl).1]; exact (rt3 rfl).1), if_neg (rf6 rfl).2]
                  have L9 := l_X14_fin (G := G) tT hn4 hb h09 hT0 (kd9 := kd9) (pl9 := pl9) hi (wt := wt) (nwb := nwb) (q0 := q0) MM8 hk8 hkd ((hx0.tr rx3).tr rx6)
                  rw [e6] at L9
                  have e7 : pAt1 tk q v k i kd9 pl9 nwb = pFin q6 v6 i kd9 pl9 nwb (k + 5) := by unfold pAt1; rw [if_pos (hq190.mp c_193), y3]; simp only []; rw [if_pos (hq232.mp c_235), y6]; simp only []; unfold pAt2; rw [if_pos (hq274.mp c_277)]
                  rw [e7]
                  exact L9
                · have c_277 := bi_f c_277
                  refine x_aload_n dX14_readAtom_280 rfl ?_
                  refine x_iconst (v := 1) dX14_readAtom_281 (by decide) ?_
                  refine x_aload_n dX14_readAtom_282 rfl ?_
                  refine x_get lf_X14_114 dX14_readAtom_283 M7.o rfl ?_
                  refine x_callV (As := [.int 1, .int (g6 22)]) (st := []) lv_X14_136 (k_X14_stop M7) dX14_readAtom_286 M7.o rfl rfl (Nat.le_of_ble_eq_true rfl) ⟨by decide, by decide⟩ ⟨by decide, by decide⟩ (fun v9 h9 z => ?_) (fun _ _ _ _ _ z => by cases z.1)
                  obtain ⟨ev, eh⟩ := z
                  rw [eh]
                  cases ev
                  refine x_athrow dX14_readAtom_289 (x_out (fun x hx => by cases hx) (xup_self _ _ _) (Nat.le_refl _) (Nat.le_refl _) (Or.inl ⟨1, (tk (k + 4)).2.1, (by unfold pAt1; rw [if_pos (hq190.mp c_193), y3]; simp only []; rw [if_pos (hq232.mp c_235), y6]; simp only []; unfold pAt2; rw [if_neg (fun z => by rw [hq274.mpr z] at c_277; cases c_277)]), rfl, (by rw [← cu7.1]; exact xup_self _ _ _), q6, ((hx0.tr rx3).tr rx6), MM7.bad⟩))
              · rcases z with ⟨e9, p9, y9, ev, z1, q9, z2, z3⟩ | ⟨_, _, _, _, ev, _⟩ <;> cases ev
                exact x_out (fun x hx => by cases hx) hc9 (Nat.le_refl _) (Nat.le_refl _) (Or.inl ⟨e9, p9, (by unfold pAt1; rw [if_pos (hq190.mp c_193), y3]; simp only []; rw [if_pos (hq232.mp c_235), y9]), rfl, z1, q9, (hx0.tr rx3).tr z2, z3⟩)
            · rw [show (0 : Int32) = nI 0 from rfl, nI_leI (by omega) (by omega)] at c_252
              refine x_iload_n dX14_readAtom_255 rfl ?_
              refine x_if_ne 263 dX14_readAtom_256 (by decide) (fun c_256 => ?_) (fun c_256 => ?_)
              · refine x_iconst (v := 0) dX14_readAtom_263 (by decide) ?_
                refine x_top (y := bi (decide (1 ≤ i ∧ tmI v3 i 0 = 0))) (by rw [decide_eq_false (show ¬ (1 ≤ i ∧ tmI v3 i 0 = 0) from fun z => by first | omega | exact c_256 (((ra3.trans hwt)).symm.trans z.2))]; rfl) ?_
                refine x_callV (As := [.int (bi (decide (1 ≤ i ∧ tmI v3 i 0 = 0)))]) (st := [.int (nI i), .ref (h1.2 + 4)]) lv_X14_182 (k_X14_readArg tT hn4 hb h09 hT0 MM5 hk5 (Nat.le_refl _) hi r3.2.1.2.2 (bf := false) (bd9 := (decide (1 ≤ i ∧ tmI v3 i 0 = 0))) (by rw [decide_eq_true_iff]) (rt3 rfl).2 (fun z => by cases z) (stL_l1 hi (rt3 rfl).2)) dX14_readAtom_264 M5.o rfl rfl (Nat.le_of_ble_eq_true rfl) ⟨by decide, by decide⟩ ⟨by decide, by decide⟩ (fun v9 h6 z => ?_) (fun q9 ci9 fs9 h9 hc9 z => ?_)
                · rcases z with ⟨_, _, _, ev, _⟩ | ⟨q6, v6, x6, y6, ev, ex6, g6, w6, ar6, tw6, kw6, MN6⟩ <;> cases ev
                  have hk6 : k + 4 < ts := (tkT_nx tT hk5 (pArg_ty y6)).1
                  have hpp6 : (tk (k + 3)).2.1 ≤ 400 := (hO (k + 3) hk5).2.1
                  obtain ⟨r6, ro6, rx6, rq6, ⟨ra6, rb6, rc6⟩, rt6, rf6⟩ := rdP_arg y6 r3 hpp6 (fun z => by cases z) (rt3 rfl).2
                  obtain ⟨M6, cu6, gk6, ak6, qm6, gg6, dr6, sm6, bd6, fr6⟩ := id MN6
                  obtain ⟨so6, kd6, on6, tz6, lt6, dc6, de6, dl6, dx6⟩ := id dr6
                  refine x_iastN (j := i) dc6.2.2.2.2.1 rfl (by omega) (by decide) dX14_readAtom_267 ?_
                  have D7 : dr9 (xup h6 (h1.2 + 4) (.inl (0, 5, .inl (upd tz6 i x6)))) h1.2 v6 i T pl (fun so kd on tz => so i = tmI v6 i 0 ∧ kd i = tmI v6 i 1 ∧ on i = tmI v6 i 2 ∧ tz i = tmI v6 i 3) := by
                    refine ⟨so6, kd6, on6, (upd tz6 i x6), lt6, ⟨((xup_ne (by omega)).trans dc6.1), ((xup_ne (by omega)).trans dc6.2.1), ((xup_ne (by omega)).trans dc6.2.2.1), ((xup_ne (by omega)).trans dc6.2.2.2.1), (xup_self _ _ _), ((xup_ne (by omega)).trans dc6.2.2.2.2.2)⟩, fun j hj => by rw [upd_nq (by omega)]; exact de6 j hj, dl6, ?_⟩
                    obtain ⟨a1, a2, a3, a4⟩ := dx6
                    exact ⟨a1.trans ra6.symm, a2.trans rb6.symm, a3.trans (rf6 rfl).1.symm, by rw [upd_at9]; exact ex6⟩
                  have MM7 : MR9 h1 (xup h6 (h1.2 + 4) (.inl (0, 5, .inl (upd tz6 i x6)))) g0 ar0 rf rc tk pos q6 v6 (k + 4) i i T pl (fun so kd on tz => so i = tmI v6 i 0 ∧ kd i = tmI v6 i 1 ∧ on i = tmI v6 i 2 ∧ tz i = tmI v6 i 3) g6 w6 ar6 tw6 kw6 := MN6.re rfl (fun q9 hq9 => xup_ne (by omega)) D7
                  generalize xup h6 (h1.2 + 4) (.inl (0, 5, .inl (upd tz6 i x6))) = h7 at MM7 ⊢
                  obtain ⟨M7, cu7, gk7, ak7, qm7, gg7, dr7, sm7, bd7, fr7⟩ := id MM7
                  obtain ⟨so7, kd7, on7, tz7, lt7, dc7, de7, dl7, dx7⟩ := id dr7
                  refine x_iconst (v := 2) dX14_readAtom_268 (by decide) ?_
                  refine x_istore [(0, .ref 205), (1, .int (nI i)), (2, .int wt), (3, .int (nI pl9)), (4, .int (nI kd9)), (5, .int (bi nwb)), (6, .int 2)] dX14_readAtom_269 (by decide) rfl rfl ?_
                  refine x_aload_n dX14_readAtom_271 rfl ?_
                  refine x_bipush (v := 41) dX14_readAtom_272 (by decide) ?_
                  refine x_callV (As := [.int (nI 41)]) (st := []) lv_X14_179 (k_X14_is M7 cu7 (hO (k + 4) hk6).1 (by omega) (by omega)) dX14_readAtom_274 M7.o rfl rfl (Nat.le_of_ble_eq_true rfl) ⟨by decide, by decide⟩ ⟨by decide, by decide⟩ (fun v9 h9 z => ?_) (fun _ _ _ _ _ z => by obtain ⟨_, z, _⟩ := z; cases z)
                  obtain ⟨bq274, ev, eh, hq274⟩ := z
                  rw [eh]
                  cases ev
                  refine x_if_ne 290 dX14_readAtom_277 (by decide) (fun c_277 => ?_) (fun c_277 => ?_)
                  · have c_277 := bi_t c_277
                    refine x_aload_n dX14_readAtom_290 rfl ?_
                    have ht7 : (tk (k + 4)).1 = 41 := hq274.mp c_277
                    obtain ⟨hk8, hlx8⟩ := tkT_nx tT hk6 (by omega)
                    refine x_callV (As := []) (st := []) lv_X14_143 (k_X14_next M7 (hTT ak7) hlx8 ((gk7 19 (by omega)).trans h09) ((cu7.2.2.2.2.2 (by omega)).2.2)) dX14_readAtom_291 M7.o rfl rfl (Nat.le_of_ble_eq_true rfl) ⟨by decide, by decide⟩ ⟨by decide, by decide⟩ (fun v9 h8 z => ?_) (fun _ _ _ _ _ z => by cases z.1)
                    obtain ⟨ev, y8, g8, w8, Mx8, s8, cx8⟩ := z
                    cases ev
                    have MM8 : MR9 h1 h8 g0 ar0 rf rc tk pos q6 v6 (k + 5) i i T pl (fun so kd on tz => so i = tmI v6 i 0 ∧ kd i = tmI v6 i 1 ∧ on i = tmI v6 i 2 ∧ tz i = tmI v6 i 3) g8 w8 ar6 tw6 kw6 := MM7.nx y8 Mx8 s8 cx8
                    obtain ⟨M8, cu8, gk8, ak8, qm8, gg8, dr8, sm8, bd8, fr8⟩ := id MM8
                    obtain ⟨so8, kd8, on8, tz8, lt8, dc8, de8, dl8, dx8⟩ := id dr8
                    have e6 : plC (tmI v6 i) = 2 := by unfold plC; rw [if_neg (by rw [(rf6 rfl).1]; exact (rt3 rfl).1), if_neg (rf6 rfl).2]
                    have L9 := l_X14_fin (G := G) tT hn4 hb h09 hT0 (kd9 := kd9) (pl9 := pl9) hi (wt := wt) (nwb := nwb) (q0 := q0) MM8 hk8 hkd ((hx0.tr rx3).tr rx6)
                    rw [e6] at L9
                    have e7 : pAt1 tk q v k i kd9 pl9 nwb = pFin q6 v6 i kd9 pl9 nwb (k + 5) := by unfold pAt1; rw [if_pos (hq190.mp c_193), y3]; simp only []; rw [if_pos (hq232.mp c_235), y6]; simp only []; unfold pAt2; rw [if_pos (hq274.mp c_277)]
                    rw [e7]
                    exact L9
                  · have c_277 := bi_f c_277
                    refine x_aload_n dX14_readAtom_280 rfl ?_
                    refine x_iconst (v := 1) dX14_readAtom_281 (by decide) ?_
                    refine x_aload_n dX14_readAtom_282 rfl ?_
                    refine x_get lf_X14_114 dX14_readAtom_283 M7.o rfl ?_
                    refine x_callV (As := [.int 1, .int (g6 22)]) (st := []) lv_X14_136 (k_X14_stop M7) dX14_readAtom_286 M7.o rfl rfl (Nat.le_of_ble_eq_true rfl) ⟨by decide, by decide⟩ ⟨by decide, by decide⟩ (fun v9 h9 z => ?_) (fun _ _ _ _ _ z => by cases z.1)
                    obtain ⟨ev, eh⟩ := z
                    rw [eh]
                    cases ev
                    refine x_athrow dX14_readAtom_289 (x_out (fun x hx => by cases hx) (xup_self _ _ _) (Nat.le_refl _) (Nat.le_refl _) (Or.inl ⟨1, (tk (k + 4)).2.1, (by unfold pAt1; rw [if_pos (hq190.mp c_193), y3]; simp only []; rw [if_pos (hq232.mp c_235), y6]; simp only []; unfold pAt2; rw [if_neg (fun z => by rw [hq274.mpr z] at c_277; cases c_277)]), rfl, (by rw [← cu7.1]; exact xup_self _ _ _), q6, ((hx0.tr rx3).tr rx6), MM7.bad⟩))
                · rcases z with ⟨e9, p9, y9, ev, z1, q9, z2, z3⟩ | ⟨_, _, _, _, ev, _⟩ <;> cases ev
                  exact x_out (fun x hx => by cases hx) hc9 (Nat.le_refl _) (Nat.le_refl _) (Or.inl ⟨e9, p9, (by unfold pAt1; rw [if_pos (hq190.mp c_193), y3]; simp only []; rw [if_pos (hq232.mp c_235), y9]), rfl, z1, q9, (hx0.tr rx3).tr z2, z3⟩)
              · refine x_iconst (v := 1) dX14_readAtom_259 (by decide) ?_
                refine x_goto 264 dX14_readAtom_260 (by decide) ?_
                refine x_top (y := bi (decide (1 ≤ i ∧ tmI v3 i 0 = 0))) (by rw [decide_eq_true (show 1 ≤ i ∧ tmI v3 i 0 = 0 from ⟨by omega, ((ra3.trans hwt)).trans c_256⟩)]; rfl) ?_
                refine x_callV (As := [.int (bi (decide (1 ≤ i ∧ tmI v3 i 0 = 0)))]) (st := [.int (nI i), .ref (h1.2 + 4)]) lv_X14_182 (k_X14_readArg tT hn4 hb h09 hT0 MM5 hk5 (Nat.le_refl _) hi r3.2.1.2.2 (bf := false) (bd9 := (decide (1 ≤ i ∧ tmI v3 i 0 = 0))) (by rw [decide_eq_true_iff]) (rt3 rfl).2 (fun z => by cases z) (stL_l1 hi (rt3 rfl).2)) dX14_readAtom_264 M5.o rfl rfl (Nat.le_of_ble_eq_true rfl) ⟨by decide, by decide⟩ ⟨by decide, by decide⟩ (fun v9 h6 z => ?_) (fun q9 ci9 fs9 h9 hc9 z => ?_)
                · rcases z with ⟨_, _, _, ev, _⟩ | ⟨q6, v6, x6, y6, ev, ex6, g6, w6, ar6, tw6, kw6, MN6⟩ <;> cases ev
                  have hk6 : k + 4 < ts := (tkT_nx tT hk5 (pArg_ty y6)).1
                  have hpp6 : (tk (k + 3)).2.1 ≤ 400 := (hO (k + 3) hk5).2.1
                  obtain ⟨r6, ro6, rx6, rq6, ⟨ra6, rb6, rc6⟩, rt6, rf6⟩ := rdP_arg y6 r3 hpp6 (fun z => by cases z) (rt3 rfl).2
                  obtain ⟨M6, cu6, gk6, ak6, qm6, gg6, dr6, sm6, bd6, fr6⟩ := id MN6
                  obtain ⟨so6, kd6, on6, tz6, lt6, dc6, de6, dl6, dx6⟩ := id dr6
                  refine x_iastN (j := i) dc6.2.2.2.2.1 rfl (by omega) (by decide) dX14_readAtom_267 ?_
                  have D7 : dr9 (xup h6 (h1.2 + 4) (.inl (0, 5, .inl (upd tz6 i x6)))) h1.2 v6 i T pl (fun so kd on tz => so i = tmI v6 i 0 ∧ kd i = tmI v6 i 1 ∧ on i = tmI v6 i 2 ∧ tz i = tmI v6 i 3) := by
                    refine ⟨so6, kd6, on6, (upd tz6 i x6), lt6, ⟨((xup_ne (by omega)).trans dc6.1), ((xup_ne (by omega)).trans dc6.2.1), ((xup_ne (by omega)).trans dc6.2.2.1), ((xup_ne (by omega)).trans dc6.2.2.2.1), (xup_self _ _ _), ((xup_ne (by omega)).trans dc6.2.2.2.2.2)⟩, fun j hj => by rw [upd_nq (by omega)]; exact de6 j hj, dl6, ?_⟩
                    obtain ⟨a1, a2, a3, a4⟩ := dx6
                    exact ⟨a1.trans ra6.symm, a2.trans rb6.symm, a3.trans (rf6 rfl).1.symm, by rw [upd_at9]; exact ex6⟩
                  have MM7 : MR9 h1 (xup h6 (h1.2 + 4) (.inl (0, 5, .inl (upd tz6 i x6)))) g0 ar0 rf rc tk pos q6 v6 (k + 4) i i T pl (fun so kd on tz => so i = tmI v6 i 0 ∧ kd i = tmI v6 i 1 ∧ on i = tmI v6 i 2 ∧ tz i = tmI v6 i 3) g6 w6 ar6 tw6 kw6 := MN6.re rfl (fun q9 hq9 => xup_ne (by omega)) D7
                  generalize xup h6 (h1.2 + 4) (.inl (0, 5, .inl (upd tz6 i x6))) = h7 at MM7 ⊢
                  obtain ⟨M7, cu7, gk7, ak7, qm7, gg7, dr7, sm7, bd7, fr7⟩ := id MM7
                  obtain ⟨so7, kd7, on7, tz7, lt7, dc7, de7, dl7, dx7⟩ := id dr7
                  refine x_iconst (v := 2) dX14_readAtom_268 (by decide) ?_
                  refine x_istore [(0, .ref 205), (1, .int (nI i)), (2, .int wt), (3, .int (nI pl9)), (4, .int (nI kd9)), (5, .int (bi nwb)), (6, .int 2)] dX14_readAtom_269 (by decide) rfl rfl ?_
                  refine x_aload_n dX14_readAtom_271 rfl ?_
                  refine x_bipush (v := 41) dX14_readAtom_272 (by decide) ?_
                  refine x_callV (As := [.int (nI 41)]) (st := []) lv_X14_179 (k_X14_is M7 cu7 (hO (k + 4) hk6).1 (by omega) (by omega)) dX14_readAtom_274 M7.o rfl rfl (Nat.le_of_ble_eq_true rfl) ⟨by decide, by decide⟩ ⟨by decide, by decide⟩ (fun v9 h9 z => ?_) (fun _ _ _ _ _ z => by obtain ⟨_, z, _⟩ := z; cases z)
                  obtain ⟨bq274, ev, eh, hq274⟩ := z
                  rw [eh]
                  cases ev
                  refine x_if_ne 290 dX14_readAtom_277 (by decide) (fun c_277 => ?_) (fun c_277 => ?_)
                  · have c_277 := bi_t c_277
                    refine x_aload_n dX14_readAtom_290 rfl ?_
                    have ht7 : (tk (k + 4)).1 = 41 := hq274.mp c_277
                    obtain ⟨hk8, hlx8⟩ := tkT_nx tT hk6 (by omega)
                    refine x_callV (As := []) (st := []) lv_X14_143 (k_X14_next M7 (hTT ak7) hlx8 ((gk7 19 (by omega)).trans h09) ((cu7.2.2.2.2.2 (by omega)).2.2)) dX14_readAtom_291 M7.o rfl rfl (Nat.le_of_ble_eq_true rfl) ⟨by decide, by decide⟩ ⟨by decide, by decide⟩ (fun v9 h8 z => ?_) (fun _ _ _ _ _ z => by cases z.1)
                    obtain ⟨ev, y8, g8, w8, Mx8, s8, cx8⟩ := z
                    cases ev
                    have MM8 : MR9 h1 h8 g0 ar0 rf rc tk pos q6 v6 (k + 5) i i T pl (fun so kd on tz => so i = tmI v6 i 0 ∧ kd i = tmI v6 i 1 ∧ on i = tmI v6 i 2 ∧ tz i = tmI v6 i 3) g8 w8 ar6 tw6 kw6 := MM7.nx y8 Mx8 s8 cx8
                    obtain ⟨M8, cu8, gk8, ak8, qm8, gg8, dr8, sm8, bd8, fr8⟩ := id MM8
                    obtain ⟨so8, kd8, on8, tz8, lt8, dc8, de8, dl8, dx8⟩ := id dr8
                    have e6 : plC (tmI v6 i) = 2 := by unfold plC; rw [if_neg (by rw [(rf6 rfl).1]; exact (rt3 rfl).1), if_neg (rf6 rfl).2]
                    have L9 := l_X14_fin (G := G) tT hn4 hb h09 hT0 (kd9 := kd9) (pl9 := pl9) hi (wt := wt) (nwb := nwb) (q0 := q0) MM8 hk8 hkd ((hx0.tr rx3).tr rx6)
                    rw [e6] at L9
                    have e7 : pAt1 tk q v k i kd9 pl9 nwb = pFin q6 v6 i kd9 pl9 nwb (k + 5) := by unfold pAt1; rw [if_pos (hq190.mp c_193), y3]; simp only []; rw [if_pos (hq232.mp c_235), y6]; simp only []; unfold pAt2; rw [if_pos (hq274.mp c_277)]
                    rw [e7]
                    exact L9
                  · have c_277 := bi_f c_277
                    refine x_aload_n dX14_readAtom_280 rfl ?_
                    refine x_iconst (v := 1) dX14_readAtom_281 (by decide) ?_
                    refine x_aload_n dX14_readAtom_282 rfl ?_
                    refine x_get lf_X14_114 dX14_readAtom_283 M7.o rfl ?_
                    refine x_callV (As := [.int 1, .int (g6 22)]) (st := []) lv_X14_136 (k_X14_stop M7) dX14_readAtom_286 M7.o rfl rfl (Nat.le_of_ble_eq_true rfl) ⟨by decide, by decide⟩ ⟨by decide, by decide⟩ (fun v9 h9 z => ?_) (fun _ _ _ _ _ z => by cases z.1)
                    obtain ⟨ev, eh⟩ := z
                    rw [eh]
                    cases ev
                    refine x_athrow dX14_readAtom_289 (x_out (fun x hx => by cases hx) (xup_self _ _ _) (Nat.le_refl _) (Nat.le_refl _) (Or.inl ⟨1, (tk (k + 4)).2.1, (by unfold pAt1; rw [if_pos (hq190.mp c_193), y3]; simp only []; rw [if_pos (hq232.mp c_235), y6]; simp only []; unfold pAt2; rw [if_neg (fun z => by rw [hq274.mpr z] at c_277; cases c_277)]), rfl, (by rw [← cu7.1]; exact xup_self _ _ _), q6, ((hx0.tr rx3).tr rx6), MM7.bad⟩))
                · rcases z with ⟨e9, p9, y9, ev, z1, q9, z2, z3⟩ | ⟨_, _, _, _, ev, _⟩ <;> cases ev
                  exact x_out (fun x hx => by cases hx) hc9 (Nat.le_refl _) (Nat.le_refl _) (Or.inl ⟨e9, p9, (by unfold pAt1; rw [if_pos (hq190.mp c_193), y3]; simp only []; rw [if_pos (hq232.mp c_235), y9]), rfl, z1, q9, (hx0.tr rx3).tr z2, z3⟩)
        · rcases z with ⟨e9, p9, y9, ev, z1, q9, z2, z3⟩ | ⟨_, _, _, _, ev, _⟩ <;> cases ev
          exact x_out (fun x hx => by cases hx) hc9 (Nat.le_refl _) (Nat.le_refl _) (Or.inl ⟨e9, p9, (by unfold pAt1; rw [if_pos (hq190.mp c_193), y9]), rfl, z1, q9, hx0.tr z2, z3⟩)
      · refine x_iconst (v := 1) dX14_readAtom_217 (by decide) ?_
        refine x_goto 222 dX14_readAtom_218 (by decide) ?_
        refine x_top (y := bi (decide (1 ≤ i ∧ tmI v i 0 = 0))) (by rw [decide_eq_true (show 1 ≤ i ∧ tmI v i 0 = 0 from ⟨by omega, (hwt).trans c_214⟩)]; rfl) ?_
        refine x_callV (As := [.int (bi (decide (1 ≤ i ∧ tmI v i 0 = 0)))]) (st := [.int (nI i), .ref (h1.2 + 3)]) lv_X14_182 (k_X14_readArg tT hn4 hb h09 hT0 MM2 hk2 (Nat.le_refl _) hi hv.2.1.2.2 (bf := true) (bd9 := (decide (1 ≤ i ∧ tmI v i 0 = 0))) (by rw [decide_eq_true_iff]) hA3 (fun _ => hA2) (stL_l1 hi hA3)) dX14_readAtom_222 M2.o rfl rfl (Nat.le_of_ble_eq_true rfl) ⟨by decide, by decide⟩ ⟨by decide, by decide⟩ (fun v9 h3 z => ?_) (fun q9 ci9 fs9 h9 hc9 z => ?_)
        · rcases z with ⟨_, _, _, ev, _⟩ | ⟨q3, v3, x3, y3, ev, ex3, g3, w3, ar3, tw3, kw3, MN3⟩ <;> cases ev
          have hk3 : k + 2 < ts := (tkT_nx tT hk2 (pArg_ty y3)).1
          have hpp3 : (tk (k + 1)).2.1 ≤ 400 := (hO (k + 1) hk2).2.1
          obtain ⟨r3, ro3, rx3, rq3, ⟨ra3, rb3, rc3⟩, rt3, rf3⟩ := rdP_arg y3 hv hpp3 (fun _ => hA2) hA3
          obtain ⟨M3, cu3, gk3, ak3, qm3, gg3, dr3, sm3, bd3, fr3⟩ := id MN3
          obtain ⟨so3, kd3, on3, tz3, lt3, dc3, de3, dl3, dx3⟩ := id dr3
          refine x_iastN (j := i) dc3.2.2.2.1 rfl (by omega) (by decide) dX14_readAtom_225 ?_
          have D4 : dr9 (xup h3 (h1.2 + 3) (.inl (0, 5, .inl (upd on3 i x3)))) h1.2 v3 i T pl (fun so kd on tz => so i = tmI v3 i 0 ∧ kd i = tmI v3 i 1 ∧ on i = tmI v3 i 2 ∧ tz i = tmI v3 i 3) := by
            refine ⟨so3, kd3, (upd on3 i x3), tz3, lt3, ⟨((xup_ne (by omega)).trans dc3.1), ((xup_ne (by omega)).trans dc3.2.1), ((xup_ne (by omega)).trans dc3.2.2.1), (xup_self _ _ _), ((xup_ne (by omega)).trans dc3.2.2.2.2.1), ((xup_ne (by omega)).trans dc3.2.2.2.2.2)⟩, fun j hj => by rw [upd_nq (by omega)]; exact de3 j hj, dl3, ?_⟩
            obtain ⟨a1, a2, a3, a4⟩ := dx3
            exact ⟨a1.trans ra3.symm, a2.trans rb3.symm, by rw [upd_at9]; exact ex3, a4.trans (hA3.trans (rt3 rfl).2.symm)⟩
          have MM4 : MR9 h1 (xup h3 (h1.2 + 3) (.inl (0, 5, .inl (upd on3 i x3)))) g0 ar0 rf rc tk pos q3 v3 (k + 2) i i T pl (fun so kd on tz => so i = tmI v3 i 0 ∧ kd i = tmI v3 i 1 ∧ on i = tmI v3 i 2 ∧ tz i = tmI v3 i 3) g3 w3 ar3 tw3 kw3 := MN3.re rfl (fun q9 hq9 => xup_ne (by omega)) D4
          generalize xup h3 (h1.2 + 3) (.inl (0, 5, .inl (upd on3 i x3))) = h4 at MM4 ⊢
          obtain ⟨M4, cu4, gk4, ak4, qm4, gg4, dr4, sm4, bd4, fr4⟩ := id MM4
          obtain ⟨so4, kd4, on4, tz4, lt4, dc4, de4, dl4, dx4⟩ := id dr4
          refine x_iconst (v := 1) dX14_readAtom_226 (by decide) ?_
          refine x_istore [(0, .ref 205), (1, .int (nI i)), (2, .int wt), (3, .int (nI pl9)), (4, .int (nI kd9)), (5, .int (bi nwb)), (6, .int 1)] dX14_readAtom_227 (by decide) rfl rfl ?_
          refine x_aload_n dX14_readAtom_229 rfl ?_
          refine x_bipush (v := 44) dX14_readAtom_230 (by decide) ?_
          refine x_callV (As := [.int (nI 44)]) (st := []) lv_X14_179 (k_X14_is M4 cu4 (hO (k + 2) hk3).1 (by omega) (by omega)) dX14_readAtom_232 M4.o rfl rfl (Nat.le_of_ble_eq_true rfl) ⟨by decide, by decide⟩ ⟨by decide, by decide⟩ (fun v9 h9 z => ?_) (fun _ _ _ _ _ z => by obtain ⟨_, z, _⟩ := z; cases z)
          obtain ⟨bq232, ev, eh, hq232⟩ := z
          rw [eh]
          cases ev
          refine x_if_eq 271 dX14_readAtom_235 (by decide) (fun c_235 => ?_) (fun c_235 => ?_)
          · have c_235 := bi_f c_235
            refine x_aload_n dX14_readAtom_271 rfl ?_
            refine x_bipush (v := 41) dX14_readAtom_272 (by decide) ?_
            refine x_callV (As := [.int (nI 41)]) (st := []) lv_X14_179 (k_X14_is M4 cu4 (hO (k + 2) hk3).1 (by omega) (by omega)) dX14_readAtom_274 M4.o rfl rfl (Nat.le_of_ble_eq_true rfl) ⟨by decide, by decide⟩ ⟨by decide, by decide⟩ (fun v9 h9 z => ?_) (fun _ _ _ _ _ z => by obtain ⟨_, z, _⟩ := z; cases z)
            obtain ⟨bq274, ev, eh, hq274⟩ := z
            rw [eh]
            cases ev
            refine x_if_ne 290 dX14_readAtom_277 (by decide) (fun c_277 => ?_) (fun c_277 => ?_)
            · have c_277 := bi_t c_277
              refine x_aload_n dX14_readAtom_290 rfl ?_
              have ht4 : (tk (k + 2)).1 = 41 := hq274.mp c_277
              obtain ⟨hk5, hlx5⟩ := tkT_nx tT hk3 (by omega)
              refine x_callV (As := []) (st := []) lv_X14_143 (k_X14_next M4 (hTT ak4) hlx5 ((gk4 19 (by omega)).trans h09) ((cu4.2.2.2.2.2 (by omega)).2.2)) dX14_readAtom_291 M4.o rfl rfl (Nat.le_of_ble_eq_true rfl) ⟨by decide, by decide⟩ ⟨by decide, by decide⟩ (fun v9 h5 z => ?_) (fun _ _ _ _ _ z => by cases z.1)
              obtain ⟨ev, y5, g5, w5, Mx5, s5, cx5⟩ := z
              cases ev
              have MM5 : MR9 h1 h5 g0 ar0 rf rc tk pos q3 v3 (k + 3) i i T pl (fun so kd on tz => so i = tmI v3 i 0 ∧ kd i = tmI v3 i 1 ∧ on i = tmI v3 i 2 ∧ tz i = tmI v3 i 3) g5 w5 ar3 tw3 kw3 := MM4.nx y5 Mx5 s5 cx5
              obtain ⟨M5, cu5, gk5, ak5, qm5, gg5, dr5, sm5, bd5, fr5⟩ := id MM5
              obtain ⟨so5, kd5, on5, tz5, lt5, dc5, de5, dl5, dx5⟩ := id dr5
              have e6 : plC (tmI v3 i) = 1 := by unfold plC; rw [if_neg (rt3 rfl).1, if_pos (rt3 rfl).2]
              have L9 := l_X14_fin (G := G) tT hn4 hb h09 hT0 (kd9 := kd9) (pl9 := pl9) hi (wt := wt) (nwb := nwb) (q0 := q0) MM5 hk5 hkd (hx0.tr rx3)
              rw [e6] at L9
              have e7 : pAt1 tk q v k i kd9 pl9 nwb = pFin q3 v3 i kd9 pl9 nwb (k + 3) := by unfold pAt1; rw [if_pos (hq190.mp c_193), y3]; simp only []; rw [if_neg (fun z => by rw [hq232.mpr z] at c_235; cases c_235)]; unfold pAt2; rw [if_pos (hq274.mp c_277)]
              rw [e7]
              exact L9
            · have c_277 := bi_f c_277
              refine x_aload_n dX14_readAtom_280 rfl ?_
              refine x_iconst (v := 1) dX14_readAtom_281 (by decide) ?_
              refine x_aload_n dX14_readAtom_282 rfl ?_
              refine x_get lf_X14_114 dX14_readAtom_283 M4.o rfl ?_
              refine x_callV (As := [.int 1, .int (g3 22)]) (st := []) lv_X14_136 (k_X14_stop M4) dX14_readAtom_286 M4.o rfl rfl (Nat.le_of_ble_eq_true rfl) ⟨by decide, by decide⟩ ⟨by decide, by decide⟩ (fun v9 h9 z => ?_) (fun _ _ _ _ _ z => by cases z.1)
              obtain ⟨ev, eh⟩ := z
              rw [eh]
              cases ev
              refine x_athrow dX14_readAtom_289 (x_out (fun x hx => by cases hx) (xup_self _ _ _) (Nat.le_refl _) (Nat.le_refl _) (Or.inl ⟨1, (tk (k + 2)).2.1, (by unfold pAt1; rw [if_pos (hq190.mp c_193), y3]; simp only []; rw [if_neg (fun z => by rw [hq232.mpr z] at c_235; cases c_235)]; unfold pAt2; rw [if_neg (fun z => by rw [hq274.mpr z] at c_277; cases c_277)]), rfl, (by rw [← cu4.1]; exact xup_self _ _ _), q3, (hx0.tr rx3), MM4.bad⟩))
          · have c_235 := bi_t c_235
            refine x_aload_n dX14_readAtom_238 rfl ?_
            have ht4 : (tk (k + 2)).1 = 44 := hq232.mp c_235
            obtain ⟨hk5, hlx5⟩ := tkT_nx tT hk3 (by omega)
            refine x_callV (As := []) (st := []) lv_X14_143 (k_X14_next M4 (hTT ak4) hlx5 ((gk4 19 (by omega)).trans h09) ((cu4.2.2.2.2.2 (by omega)).2.2)) dX14_readAtom_239 M4.o rfl rfl (Nat.le_of_ble_eq_true rfl) ⟨by decide, by decide⟩ ⟨by decide, by decide⟩ (fun v9 h5 z => ?_) (fun _ _ _ _ _ z => by cases z.1)
            obtain ⟨ev, y5, g5, w5, Mx5, s5, cx5⟩ := z
            cases ev
            have MM5 : MR9 h1 h5 g0 ar0 rf rc tk pos q3 v3 (k + 3) i i T pl (fun so kd on tz => so i = tmI v3 i 0 ∧ kd i = tmI v3 i 1 ∧ on i = tmI v3 i 2 ∧ tz i = tmI v3 i 3) g5 w5 ar3 tw3 kw3 := MM4.nx y5 Mx5 s5 cx5
            obtain ⟨M5, cu5, gk5, ak5, qm5, gg5, dr5, sm5, bd5, fr5⟩ := id MM5
            obtain ⟨so5, kd5, on5, tz5, lt5, dc5, de5, dl5, dx5⟩ := id dr5
            refine x_aload_n dX14_readAtom_242 rfl ?_
            refine x_get lf_X14_146 dX14_readAtom_243 M5.o rfl ?_
            refine x_get lf_X14_176 dX14_readAtom_246 dc5.1 rfl ?_
            refine x_iload_n dX14_readAtom_249 rfl ?_
            refine x_aload_n dX14_readAtom_250 rfl ?_
            refine x_iload_n dX14_readAtom_251 rfl ?_
            refine x_if_le 263 dX14_readAtom_252 (by decide) (fun c_252 => ?_) (fun c_252 => ?_)
            · rw [show (0 : Int32) = nI 0 from rfl, nI_leI (by omega) (by omega)] at c_252
              refine x_iconst (v := 0) dX14_readAtom_263 (by decide) ?_
              refine x_top (y := bi (decide (1 ≤ i ∧ tmI v3 i 0 = 0))) (by rw [decide_eq_false (show ¬ (1 ≤ i ∧ tmI v3 i 0 = 0) from fun z => by first | omega | exact c_256 (((ra3.trans hwt)).symm.trans z.2))]; rfl) ?_
              refine x_callV (As := [.int (bi (decide (1 ≤ i ∧ tmI v3 i 0 = 0)))]) (st := [.int (nI i), .ref (h1.2 + 4)]) lv_X14_182 (k_X14_readArg tT hn4 hb h09 hT0 MM5 hk5 (Nat.le_refl _) hi r3.2.1.2.2 (bf := false) (bd9 := (decide (1 ≤ i ∧ tmI v3 i 0 = 0))) (by rw [decide_eq_true_iff]) (rt3 rfl).2 (fun z => by cases z) (stL_l1 hi (rt3 rfl).2)) dX14_readAtom_264 M5.o rfl rfl (Nat.le_of_ble_eq_true rfl) ⟨by decide, by decide⟩ ⟨by decide, by decide⟩ (fun v9 h6 z => ?_) (fun q9 ci9 fs9 h9 hc9 z => ?_)
              · rcases z with ⟨_, _, _, ev, _⟩ | ⟨q6, v6, x6, y6, ev, ex6, g6, w6, ar6, tw6, kw6, MN6⟩ <;> cases ev
                have hk6 : k + 4 < ts := (tkT_nx tT hk5 (pArg_ty y6)).1
                have hpp6 : (tk (k + 3)).2.1 ≤ 400 := (hO (k + 3) hk5).2.1
                obtain ⟨r6, ro6, rx6, rq6, ⟨ra6, rb6, rc6⟩, rt6, rf6⟩ := rdP_arg y6 r3 hpp6 (fun z => by cases z) (rt3 rfl).2
                obtain ⟨M6, cu6, gk6, ak6, qm6, gg6, dr6, sm6, bd6, fr6⟩ := id MN6
                obtain ⟨so6, kd6, on6, tz6, lt6, dc6, de6, dl6, dx6⟩ := id dr6
                refine x_iastN (j := i) dc6.2.2.2.2.1 rfl (by omega) (by decide) dX14_readAtom_267 ?_
                have D7 : dr9 (xup h6 (h1.2 + 4) (.inl (0, 5, .inl (upd tz6 i x6)))) h1.2 v6 i T pl (fun so kd on tz => so i = tmI v6 i 0 ∧ kd i = tmI v6 i 1 ∧ on i = tmI v6 i 2 ∧ tz i = tmI v6 i 3) := by
                  refine ⟨so6, kd6, on6, (upd tz6 i x6), lt6, ⟨((xup_ne (by omega)).trans dc6.1), ((xup_ne (by omega)).trans dc6.2.1), ((xup_ne (by omega)).trans dc6.2.2.1), ((xup_ne (by omega)).trans dc6.2.2.2.1), (xup_self _ _ _), ((xup_ne (by omega)).trans dc6.2.2.2.2.2)⟩, fun j hj => by rw [upd_nq (by omega)]; exact de6 j hj, dl6, ?_⟩
                  obtain ⟨a1, a2, a3, a4⟩ := dx6
                  exact ⟨a1.trans ra6.symm, a2.trans rb6.symm, a3.trans (rf6 rfl).1.symm, by rw [upd_at9]; exact ex6⟩
                have MM7 : MR9 h1 (xup h6 (h1.2 + 4) (.inl (0, 5, .inl (upd tz6 i x6)))) g0 ar0 rf rc tk pos q6 v6 (k + 4) i i T pl (fun so kd on tz => so i = tmI v6 i 0 ∧ kd i = tmI v6 i 1 ∧ on i = tmI v6 i 2 ∧ tz i = tmI v6 i 3) g6 w6 ar6 tw6 kw6 := MN6.re rfl (fun q9 hq9 => xup_ne (by omega)) D7
                generalize xup h6 (h1.2 + 4) (.inl (0, 5, .inl (upd tz6 i x6))) = h7 at MM7 ⊢
                obtain ⟨M7, cu7, gk7, ak7, qm7, gg7, dr7, sm7, bd7, fr7⟩ := id MM7
                obtain ⟨so7, kd7, on7, tz7, lt7, dc7, de7, dl7, dx7⟩ := id dr7
                refine x_iconst (v := 2) dX14_readAtom_268 (by decide) ?_
                refine x_istore [(0, .ref 205), (1, .int (nI i)), (2, .int wt), (3, .int (nI pl9)), (4, .int (nI kd9)), (5, .int (bi nwb)), (6, .int 2)] dX14_readAtom_269 (by decide) rfl rfl ?_
                refine x_aload_n dX14_readAtom_271 rfl ?_
                refine x_bipush (v := 41) dX14_readAtom_272 (by decide) ?_
                refine x_callV (As := [.int (nI 41)]) (st := []) lv_X14_179 (k_X14_is M7 cu7 (hO (k + 4) hk6).1 (by omega) (by omega)) dX14_readAtom_274 M7.o rfl rfl (Nat.le_of_ble_eq_true rfl) ⟨by decide, by decide⟩ ⟨by decide, by decide⟩ (fun v9 h9 z => ?_) (fun _ _ _ _ _ z => by obtain ⟨_, z, _⟩ := z; cases z)
                obtain ⟨bq274, ev, eh, hq274⟩ := z
                rw [eh]
                cases ev
                refine x_if_ne 290 dX14_readAtom_277 (by decide) (fun c_277 => ?_) (fun c_277 => ?_)
                · have c_277 := bi_t c_277
                  refine x_aload_n dX14_readAtom_290 rfl ?_
                  have ht7 : (tk (k + 4)).1 = 41 := hq274.mp c_277
                  obtain ⟨hk8, hlx8⟩ := tkT_nx tT hk6 (by omega)
                  refine x_callV (As := []) (st := []) lv_X14_143 (k_X14_next M7 (hTT ak7) hlx8 ((gk7 19 (by omega)).trans h09) ((cu7.2.2.2.2.2 (by omega)).2.2)) dX14_readAtom_291 M7.o rfl rfl (Nat.le_of_ble_eq_true rfl) ⟨by decide, by decide⟩ ⟨by decide, by decide⟩ (fun v9 h8 z => ?_) (fun _ _ _ _ _ z => by cases z.1)
                  obtain ⟨ev, y8, g8, w8, Mx8, s8, cx8⟩ := z
                  cases ev
                  have MM8 : MR9 h1 h8 g0 ar0 rf rc tk pos q6 v6 (k + 5) i i T pl (fun so kd on tz => so i = tmI v6 i 0 ∧ kd i = tmI v6 i 1 ∧ on i = tmI v6 i 2 ∧ tz i = tmI v6 i 3) g8 w8 ar6 tw6 kw6 := MM7.nx y8 Mx8 s8 cx8
                  obtain ⟨M8, cu8, gk8, ak8, qm8, gg8, dr8, sm8, bd8, fr8⟩ := id MM8
                  obtain ⟨so8, kd8, on8, tz8, lt8, dc8, de8, dl8, dx8⟩ := id dr8
                  have e6 : plC (tmI v6 i) = 2 := by unfold plC; rw [if_neg (by rw [(rf6 rfl).1]; exact (rt3 rfl).1), if_neg (rf6 rfl).2]
                  have L9 := l_X14_fin (G := G) tT hn4 hb h09 hT0 (kd9 := kd9) (pl9 := pl9) hi (wt := wt) (nwb := nwb) (q0 := q0) MM8 hk8 hkd ((hx0.tr rx3).tr rx6)
                  rw [e6] at L9
                  have e7 : pAt1 tk q v k i kd9 pl9 nwb = pFin q6 v6 i kd9 pl9 nwb (k + 5) := by unfold pAt1; rw [if_pos (hq190.mp c_193), y3]; simp only []; rw [if_pos (hq232.mp c_235), y6]; simp only []; unfold pAt2; rw [if_pos (hq274.mp c_277)]
                  rw [e7]
                  exact L9
                · have c_277 := bi_f c_277
                  refine x_aload_n dX14_readAtom_280 rfl ?_
                  refine x_iconst (v := 1) dX14_readAtom_281 (by decide) ?_
                  refine x_aload_n dX14_readAtom_282 rfl ?_
                  refine x_get lf_X14_114 dX14_readAtom_283 M7.o rfl ?_
                  refine x_callV (As := [.int 1, .int (g6 22)]) (st := []) lv_X14_136 (k_X14_stop M7) dX14_readAtom_286 M7.o rfl rfl (Nat.le_of_ble_eq_true rfl) ⟨by decide, by decide⟩ ⟨by decide, by decide⟩ (fun v9 h9 z => ?_) (fun _ _ _ _ _ z => by cases z.1)
                  obtain ⟨ev, eh⟩ := z
                  rw [eh]
                  cases ev
                  refine x_athrow dX14_readAtom_289 (x_out (fun x hx => by cases hx) (xup_self _ _ _) (Nat.le_refl _) (Nat.le_refl _) (Or.inl ⟨1, (tk (k + 4)).2.1, (by unfold pAt1; rw [if_pos (hq190.mp c_193), y3]; simp only []; rw [if_pos (hq232.mp c_235), y6]; simp only []; unfold pAt2; rw [if_neg (fun z => by rw [hq274.mpr z] at c_277; cases c_277)]), rfl, (by rw [← cu7.1]; exact xup_self _ _ _), q6, ((hx0.tr rx3).tr rx6), MM7.bad⟩))
              · rcases z with ⟨e9, p9, y9, ev, z1, q9, z2, z3⟩ | ⟨_, _, _, _, ev, _⟩ <;> cases ev
                exact x_out (fun x hx => by cases hx) hc9 (Nat.le_refl _) (Nat.le_refl _) (Or.inl ⟨e9, p9, (by unfold pAt1; rw [if_pos (hq190.mp c_193), y3]; simp only []; rw [if_pos (hq232.mp c_235), y9]), rfl, z1, q9, (hx0.tr rx3).tr z2, z3⟩)
            · rw [show (0 : Int32) = nI 0 from rfl, nI_leI (by omega) (by omega)] at c_252
              refine x_iload_n dX14_readAtom_255 rfl ?_
              refine x_if_ne 263 dX14_readAtom_256 (by decide) (fun c_256 => ?_) (fun c_256 => ?_)
              · refine x_iconst (v := 0) dX14_readAtom_263 (by decide) ?_
                refine x_top (y := bi (decide (1 ≤ i ∧ tmI v3 i 0 = 0))) (by rw [decide_eq_false (show ¬ (1 ≤ i ∧ tmI v3 i 0 = 0) from fun z => by first | omega | exact c_256 (((ra3.trans hwt)).symm.trans z.2))]; rfl) ?_
                refine x_callV (As := [.int (bi (decide (1 ≤ i ∧ tmI v3 i 0 = 0)))]) (st := [.int (nI i), .ref (h1.2 + 4)]) lv_X14_182 (k_X14_readArg tT hn4 hb h09 hT0 MM5 hk5 (Nat.le_refl _) hi r3.2.1.2.2 (bf := false) (bd9 := (decide (1 ≤ i ∧ tmI v3 i 0 = 0))) (by rw [decide_eq_true_iff]) (rt3 rfl).2 (fun z => by cases z) (stL_l1 hi (rt3 rfl).2)) dX14_readAtom_264 M5.o rfl rfl (Nat.le_of_ble_eq_true rfl) ⟨by decide, by decide⟩ ⟨by decide, by decide⟩ (fun v9 h6 z => ?_) (fun q9 ci9 fs9 h9 hc9 z => ?_)
                · rcases z with ⟨_, _, _, ev, _⟩ | ⟨q6, v6, x6, y6, ev, ex6, g6, w6, ar6, tw6, kw6, MN6⟩ <;> cases ev
                  have hk6 : k + 4 < ts := (tkT_nx tT hk5 (pArg_ty y6)).1
                  have hpp6 : (tk (k + 3)).2.1 ≤ 400 := (hO (k + 3) hk5).2.1
                  obtain ⟨r6, ro6, rx6, rq6, ⟨ra6, rb6, rc6⟩, rt6, rf6⟩ := rdP_arg y6 r3 hpp6 (fun z => by cases z) (rt3 rfl).2
                  obtain ⟨M6, cu6, gk6, ak6, qm6, gg6, dr6, sm6, bd6, fr6⟩ := id MN6
                  obtain ⟨so6, kd6, on6, tz6, lt6, dc6, de6, dl6, dx6⟩ := id dr6
                  refine x_iastN (j := i) dc6.2.2.2.2.1 rfl (by omega) (by decide) dX14_readAtom_267 ?_
                  have D7 : dr9 (xup h6 (h1.2 + 4) (.inl (0, 5, .inl (upd tz6 i x6)))) h1.2 v6 i T pl (fun so kd on tz => so i = tmI v6 i 0 ∧ kd i = tmI v6 i 1 ∧ on i = tmI v6 i 2 ∧ tz i = tmI v6 i 3) := by
                    refine ⟨so6, kd6, on6, (upd tz6 i x6), lt6, ⟨((xup_ne (by omega)).trans dc6.1), ((xup_ne (by omega)).trans dc6.2.1), ((xup_ne (by omega)).trans dc6.2.2.1), ((xup_ne (by omega)).trans dc6.2.2.2.1), (xup_self _ _ _), ((xup_ne (by omega)).trans dc6.2.2.2.2.2)⟩, fun j hj => by rw [upd_nq (by omega)]; exact de6 j hj, dl6, ?_⟩
                    obtain ⟨a1, a2, a3, a4⟩ := dx6
                    exact ⟨a1.trans ra6.symm, a2.trans rb6.symm, a3.trans (rf6 rfl).1.symm, by rw [upd_at9]; exact ex6⟩
                  have MM7 : MR9 h1 (xup h6 (h1.2 + 4) (.inl (0, 5, .inl (upd tz6 i x6)))) g0 ar0 rf rc tk pos q6 v6 (k + 4) i i T pl (fun so kd on tz => so i = tmI v6 i 0 ∧ kd i = tmI v6 i 1 ∧ on i = tmI v6 i 2 ∧ tz i = tmI v6 i 3) g6 w6 ar6 tw6 kw6 := MN6.re rfl (fun q9 hq9 => xup_ne (by omega)) D7
                  generalize xup h6 (h1.2 + 4) (.inl (0, 5, .inl (upd tz6 i x6))) = h7 at MM7 ⊢
                  obtain ⟨M7, cu7, gk7, ak7, qm7, gg7, dr7, sm7, bd7, fr7⟩ := id MM7
                  obtain ⟨so7, kd7, on7, tz7, lt7, dc7, de7, dl7, dx7⟩ := id dr7
                  refine x_iconst (v := 2) dX14_readAtom_268 (by decide) ?_
                  refine x_istore [(0, .ref 205), (1, .int (nI i)), (2, .int wt), (3, .int (nI pl9)), (4, .int (nI kd9)), (5, .int (bi nwb)), (6, .int 2)] dX14_readAtom_269 (by decide) rfl rfl ?_
                  refine x_aload_n dX14_readAtom_271 rfl ?_
                  refine x_bipush (v := 41) dX14_readAtom_272 (by decide) ?_
                  refine x_callV (As := [.int (nI 41)]) (st := []) lv_X14_179 (k_X14_is M7 cu7 (hO (k + 4) hk6).1 (by omega) (by omega)) dX14_readAtom_274 M7.o rfl rfl (Nat.le_of_ble_eq_true rfl) ⟨by decide, by decide⟩ ⟨by decide, by decide⟩ (fun v9 h9 z => ?_) (fun _ _ _ _ _ z => by obtain ⟨_, z, _⟩ := z; cases z)
                  obtain ⟨bq274, ev, eh, hq274⟩ := z
                  rw [eh]
                  cases ev
                  refine x_if_ne 290 dX14_readAtom_277 (by decide) (fun c_277 => ?_) (fun c_277 => ?_)
                  · have c_277 := bi_t c_277
                    refine x_aload_n dX14_readAtom_290 rfl ?_
                    have ht7 : (tk (k + 4)).1 = 41 := hq274.mp c_277
                    obtain ⟨hk8, hlx8⟩ := tkT_nx tT hk6 (by omega)
                    refine x_callV (As := []) (st := []) lv_X14_143 (k_X14_next M7 (hTT ak7) hlx8 ((gk7 19 (by omega)).trans h09) ((cu7.2.2.2.2.2 (by omega)).2.2)) dX14_readAtom_291 M7.o rfl rfl (Nat.le_of_ble_eq_true rfl) ⟨by decide, by decide⟩ ⟨by decide, by decide⟩ (fun v9 h8 z => ?_) (fun _ _ _ _ _ z => by cases z.1)
                    obtain ⟨ev, y8, g8, w8, Mx8, s8, cx8⟩ := z
                    cases ev
                    have MM8 : MR9 h1 h8 g0 ar0 rf rc tk pos q6 v6 (k + 5) i i T pl (fun so kd on tz => so i = tmI v6 i 0 ∧ kd i = tmI v6 i 1 ∧ on i = tmI v6 i 2 ∧ tz i = tmI v6 i 3) g8 w8 ar6 tw6 kw6 := MM7.nx y8 Mx8 s8 cx8
                    obtain ⟨M8, cu8, gk8, ak8, qm8, gg8, dr8, sm8, bd8, fr8⟩ := id MM8
                    obtain ⟨so8, kd8, on8, tz8, lt8, dc8, de8, dl8, dx8⟩ := id dr8
                    have e6 : plC (tmI v6 i) = 2 := by unfold plC; rw [if_neg (by rw [(rf6 rfl).1]; exact (rt3 rfl).1), if_neg (rf6 rfl).2]
                    have L9 := l_X14_fin (G := G) tT hn4 hb h09 hT0 (kd9 := kd9) (pl9 := pl9) hi (wt := wt) (nwb := nwb) (q0 := q0) MM8 hk8 hkd ((hx0.tr rx3).tr rx6)
                    rw [e6] at L9
                    have e7 : pAt1 tk q v k i kd9 pl9 nwb = pFin q6 v6 i kd9 pl9 nwb (k + 5) := by unfold pAt1; rw [if_pos (hq190.mp c_193), y3]; simp only []; rw [if_pos (hq232.mp c_235), y6]; simp only []; unfold pAt2; rw [if_pos (hq274.mp c_277)]
                    rw [e7]
                    exact L9
                  · have c_277 := bi_f c_277
                    refine x_aload_n dX14_readAtom_280 rfl ?_
                    refine x_iconst (v := 1) dX14_readAtom_281 (by decide) ?_
                    refine x_aload_n dX14_readAtom_282 rfl ?_
                    refine x_get lf_X14_114 dX14_readAtom_283 M7.o rfl ?_
                    refine x_callV (As := [.int 1, .int (g6 22)]) (st := []) lv_X14_136 (k_X14_stop M7) dX14_readAtom_286 M7.o rfl rfl (Nat.le_of_ble_eq_true rfl) ⟨by decide, by decide⟩ ⟨by decide, by decide⟩ (fun v9 h9 z => ?_) (fun _ _ _ _ _ z => by cases z.1)
                    obtain ⟨ev, eh⟩ := z
                    rw [eh]
                    cases ev
                    refine x_athrow dX14_readAtom_289 (x_out (fun x hx => by cases hx) (xup_self _ _ _) (Nat.le_refl _) (Nat.le_refl _) (Or.inl ⟨1, (tk (k + 4)).2.1, (by unfold pAt1; rw [if_pos (hq190.mp c_193), y3]; simp only []; rw [if_pos (hq232.mp c_235), y6]; simp only []; unfold pAt2; rw [if_neg (fun z => by rw [hq274.mpr z] at c_277; cases c_277)]), rfl, (by rw [← cu7.1]; exact xup_self _ _ _), q6, ((hx0.tr rx3).tr rx6), MM7.bad⟩))
                · rcases z with ⟨e9, p9, y9, ev, z1, q9, z2, z3⟩ | ⟨_, _, _, _, ev, _⟩ <;> cases ev
                  exact x_out (fun x hx => by cases hx) hc9 (Nat.le_refl _) (Nat.le_refl _) (Or.inl ⟨e9, p9, (by unfold pAt1; rw [if_pos (hq190.mp c_193), y3]; simp only []; rw [if_pos (hq232.mp c_235), y9]), rfl, z1, q9, (hx0.tr rx3).tr z2, z3⟩)
              · refine x_iconst (v := 1) dX14_readAtom_259 (by decide) ?_
                refine x_goto 264 dX14_readAtom_260 (by decide) ?_
                refine x_top (y := bi (decide (1 ≤ i ∧ tmI v3 i 0 = 0))) (by rw [decide_eq_true (show 1 ≤ i ∧ tmI v3 i 0 = 0 from ⟨by omega, ((ra3.trans hwt)).trans c_256⟩)]; rfl) ?_
                refine x_callV (As := [.int (bi (decide (1 ≤ i ∧ tmI v3 i 0 = 0)))]) (st := [.int (nI i), .ref (h1.2 + 4)]) lv_X14_182 (k_X14_readArg tT hn4 hb h09 hT0 MM5 hk5 (Nat.le_refl _) hi r3.2.1.2.2 (bf := false) (bd9 := (decide (1 ≤ i ∧ tmI v3 i 0 = 0))) (by rw [decide_eq_true_iff]) (rt3 rfl).2 (fun z => by cases z) (stL_l1 hi (rt3 rfl).2)) dX14_readAtom_264 M5.o rfl rfl (Nat.le_of_ble_eq_true rfl) ⟨by decide, by decide⟩ ⟨by decide, by decide⟩ (fun v9 h6 z => ?_) (fun q9 ci9 fs9 h9 hc9 z => ?_)
                · rcases z with ⟨_, _, _, ev, _⟩ | ⟨q6, v6, x6, y6, ev, ex6, g6, w6, ar6, tw6, kw6, MN6⟩ <;> cases ev
                  have hk6 : k + 4 < ts := (tkT_nx tT hk5 (pArg_ty y6)).1
                  have hpp6 : (tk (k + 3)).2.1 ≤ 400 := (hO (k + 3) hk5).2.1
                  obtain ⟨r6, ro6, rx6, rq6, ⟨ra6, rb6, rc6⟩, rt6, rf6⟩ := rdP_arg y6 r3 hpp6 (fun z => by cases z) (rt3 rfl).2
                  obtain ⟨M6, cu6, gk6, ak6, qm6, gg6, dr6, sm6, bd6, fr6⟩ := id MN6
                  obtain ⟨so6, kd6, on6, tz6, lt6, dc6, de6, dl6, dx6⟩ := id dr6
                  refine x_iastN (j := i) dc6.2.2.2.2.1 rfl (by omega) (by decide) dX14_readAtom_267 ?_
                  have D7 : dr9 (xup h6 (h1.2 + 4) (.inl (0, 5, .inl (upd tz6 i x6)))) h1.2 v6 i T pl (fun so kd on tz => so i = tmI v6 i 0 ∧ kd i = tmI v6 i 1 ∧ on i = tmI v6 i 2 ∧ tz i = tmI v6 i 3) := by
                    refine ⟨so6, kd6, on6, (upd tz6 i x6), lt6, ⟨((xup_ne (by omega)).trans dc6.1), ((xup_ne (by omega)).trans dc6.2.1), ((xup_ne (by omega)).trans dc6.2.2.1), ((xup_ne (by omega)).trans dc6.2.2.2.1), (xup_self _ _ _), ((xup_ne (by omega)).trans dc6.2.2.2.2.2)⟩, fun j hj => by rw [upd_nq (by omega)]; exact de6 j hj, dl6, ?_⟩
                    obtain ⟨a1, a2, a3, a4⟩ := dx6
                    exact ⟨a1.trans ra6.symm, a2.trans rb6.symm, a3.trans (rf6 rfl).1.symm, by rw [upd_at9]; exact ex6⟩
                  have MM7 : MR9 h1 (xup h6 (h1.2 + 4) (.inl (0, 5, .inl (upd tz6 i x6)))) g0 ar0 rf rc tk pos q6 v6 (k + 4) i i T pl (fun so kd on tz => so i = tmI v6 i 0 ∧ kd i = tmI v6 i 1 ∧ on i = tmI v6 i 2 ∧ tz i = tmI v6 i 3) g6 w6 ar6 tw6 kw6 := MN6.re rfl (fun q9 hq9 => xup_ne (by omega)) D7
                  generalize xup h6 (h1.2 + 4) (.inl (0, 5, .inl (upd tz6 i x6))) = h7 at MM7 ⊢
                  obtain ⟨M7, cu7, gk7, ak7, qm7, gg7, dr7, sm7, bd7, fr7⟩ := id MM7
                  obtain ⟨so7, kd7, on7, tz7, lt7, dc7, de7, dl7, dx7⟩ := id dr7
                  refine x_iconst (v := 2) dX14_readAtom_268 (by decide) ?_
                  refine x_istore [(0, .ref 205), (1, .int (nI i)), (2, .int wt), (3, .int (nI pl9)), (4, .int (nI kd9)), (5, .int (bi nwb)), (6, .int 2)] dX14_readAtom_269 (by decide) rfl rfl ?_
                  refine x_aload_n dX14_readAtom_271 rfl ?_
                  refine x_bipush (v := 41) dX14_readAtom_272 (by decide) ?_
                  refine x_callV (As := [.int (nI 41)]) (st := []) lv_X14_179 (k_X14_is M7 cu7 (hO (k + 4) hk6).1 (by omega) (by omega)) dX14_readAtom_274 M7.o rfl rfl (Nat.le_of_ble_eq_true rfl) ⟨by decide, by decide⟩ ⟨by decide, by decide⟩ (fun v9 h9 z => ?_) (fun _ _ _ _ _ z => by obtain ⟨_, z, _⟩ := z; cases z)
                  obtain ⟨bq274, ev, eh, hq274⟩ := z
                  rw [eh]
                  cases ev
                  refine x_if_ne 290 dX14_readAtom_277 (by decide) (fun c_277 => ?_) (fun c_277 => ?_)
                  · have c_277 := bi_t c_277
                    refine x_aload_n dX14_readAtom_290 rfl ?_
                    have ht7 : (tk (k + 4)).1 = 41 := hq274.mp c_277
                    obtain ⟨hk8, hlx8⟩ := tkT_nx tT hk6 (by omega)
                    refine x_callV (As := []) (st := []) lv_X14_143 (k_X14_next M7 (hTT ak7) hlx8 ((gk7 19 (by omega)).trans h09) ((cu7.2.2.2.2.2 (by omega)).2.2)) dX14_readAtom_291 M7.o rfl rfl (Nat.le_of_ble_eq_true rfl) ⟨by decide, by decide⟩ ⟨by decide, by decide⟩ (fun v9 h8 z => ?_) (fun _ _ _ _ _ z => by cases z.1)
                    obtain ⟨ev, y8, g8, w8, Mx8, s8, cx8⟩ := z
                    cases ev
                    have MM8 : MR9 h1 h8 g0 ar0 rf rc tk pos q6 v6 (k + 5) i i T pl (fun so kd on tz => so i = tmI v6 i 0 ∧ kd i = tmI v6 i 1 ∧ on i = tmI v6 i 2 ∧ tz i = tmI v6 i 3) g8 w8 ar6 tw6 kw6 := MM7.nx y8 Mx8 s8 cx8
                    obtain ⟨M8, cu8, gk8, ak8, qm8, gg8, dr8, sm8, bd8, fr8⟩ := id MM8
                    obtain ⟨so8, kd8, on8, tz8, lt8, dc8, de8, dl8, dx8⟩ := id dr8
                    have e6 : plC (tmI v6 i) = 2 := by unfold plC; rw [if_neg (by rw [(rf6 rfl).1]; exact (rt3 rfl).1), if_neg (rf6 rfl).2]
                    have L9 := l_X14_fin (G := G) tT hn4 hb h09 hT0 (kd9 := kd9) (pl9 := pl9) hi (wt := wt) (nwb := nwb) (q0 := q0) MM8 hk8 hkd ((hx0.tr rx3).tr rx6)
                    rw [e6] at L9
                    have e7 : pAt1 tk q v k i kd9 pl9 nwb = pFin q6 v6 i kd9 pl9 nwb (k + 5) := by unfold pAt1; rw [if_pos (hq190.mp c_193), y3]; simp only []; rw [if_pos (hq232.mp c_235), y6]; simp only []; unfold pAt2; rw [if_pos (hq274.mp c_277)]
                    rw [e7]
                    exact L9
                  · have c_277 := bi_f c_277
                    refine x_aload_n dX14_readAtom_280 rfl ?_
                    refine x_iconst (v := 1) dX14_readAtom_281 (by decide) ?_
                    refine x_aload_n dX14_readAtom_282 rfl ?_
                    refine x_get lf_X14_114 dX14_readAtom_283 M7.o rfl ?_
                    refine x_callV (As := [.int 1, .int (g6 22)]) (st := []) lv_X14_136 (k_X14_stop M7) dX14_readAtom_286 M7.o rfl rfl (Nat.le_of_ble_eq_true rfl) ⟨by decide, by decide⟩ ⟨by decide, by decide⟩ (fun v9 h9 z => ?_) (fun _ _ _ _ _ z => by cases z.1)
                    obtain ⟨ev, eh⟩ := z
                    rw [eh]
                    cases ev
                    refine x_athrow dX14_readAtom_289 (x_out (fun x hx => by cases hx) (xup_self _ _ _) (Nat.le_refl _) (Nat.le_refl _) (Or.inl ⟨1, (tk (k + 4)).2.1, (by unfold pAt1; rw [if_pos (hq190.mp c_193), y3]; simp only []; rw [if_pos (hq232.mp c_235), y6]; simp only []; unfold pAt2; rw [if_neg (fun z => by rw [hq274.mpr z] at c_277; cases c_277)]), rfl, (by rw [← cu7.1]; exact xup_self _ _ _), q6, ((hx0.tr rx3).tr rx6), MM7.bad⟩))
                · rcases z with ⟨e9, p9, y9, ev, z1, q9, z2, z3⟩ | ⟨_, _, _, _, ev, _⟩ <;> cases ev
                  exact x_out (fun x hx => by cases hx) hc9 (Nat.le_refl _) (Nat.le_refl _) (Or.inl ⟨e9, p9, (by unfold pAt1; rw [if_pos (hq190.mp c_193), y3]; simp only []; rw [if_pos (hq232.mp c_235), y9]), rfl, z1, q9, (hx0.tr rx3).tr z2, z3⟩)
        · rcases z with ⟨e9, p9, y9, ev, z1, q9, z2, z3⟩ | ⟨_, _, _, _, ev, _⟩ <;> cases ev
          exact x_out (fun x hx => by cases hx) hc9 (Nat.le_refl _) (Nat.le_refl _) (Or.inl ⟨e9, p9, (by unfold pAt1; rw [if_pos (hq190.mp c_193), y9]), rfl, z1, q9, hx0.tr z2, z3⟩)
