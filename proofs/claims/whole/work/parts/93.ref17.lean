/-! the reference: tell, whole -/
set_option maxRecDepth 100000 in
set_option maxHeartbeats 4000000 in
theorem k_X14_tell0 {G : xG} {h : xHp} {g : Nat → Int32} {w : Int64} {nw : Value} {ar : Nat → Nat → Int32} {tw : Nat → Int64} {kw : Nat → Int64} {rf : Nat → Option Nat} (M : MH h g w nw ar tw kw rf) {tsz : Nat} (htz : tsz ≤ 400) (h18 : g 18 = nI tsz) {a : Int32} (hno : ¬ ∃ n, n ≤ tsz ∧ a = nI n) : MX G mX14_tell 7 0 0 [.ref 205, .int a] h (fun o h' => o = .inl (some (.int (-1))) ∧ yfr h h' ∧ MH h' (upd (upd (upd g 0 0) 1 2) 2 (-1)) w nw ar tw kw rf) := by
  refine MX.ofH [(0, .ref 205), (1, .int a)] (by decide) (by decide) (Nat.le_of_ble_eq_true rfl) rfl ?_
  refine x_aload_n dX14_tell_0 rfl ?_
  refine x_iconst (v := 0) dX14_tell_1 (by decide) ?_
  refine x_put (mL (upd g 0 0) w nw) lf_X14_84 dX14_tell_2 M.o (Nat.le_of_ble_eq_true rfl) rfl rfl rfl ?_
  refine x_iload_n dX14_tell_5 rfl ?_
  refine x_if_lt 17 dX14_tell_6 (by decide) (fun c_6 => ?_) (fun c_6 => ?_)
  · refine x_aload_n dX14_tell_17 rfl ?_
    refine x_iconst (v := 2) dX14_tell_18 (by decide) ?_
    refine x_callV (As := [.int 2]) (st := []) lv_X14_214 (k_X14_refused (M.g9 (upd g 0 0) w nw)) dX14_tell_19 (xup_self _ _ _) rfl rfl (Nat.le_of_ble_eq_true rfl) ⟨by decide, by decide⟩ ⟨by decide, by decide⟩ (fun v9 h9 z => ?_) (fun _ _ _ _ _ z => by cases z.1)
    obtain ⟨ev, y9, M9⟩ := z
    cases ev
    have y9 : yfr h h9 := (show yfr h (xup h 205 (.inr (14, mL (upd g 0 0) w nw))) from ((yfr_rf _).up (by decide))).tr y9
    exact x_iret dX14_tell_22 rfl rfl (Nat.le_refl _) (Nat.le_refl _) ⟨rfl, y9, M9⟩
  · refine x_iload_n dX14_tell_9 rfl ?_
    refine x_aload_n dX14_tell_10 rfl ?_
    refine x_get lf_X14_211 dX14_tell_11 (xup_self _ _ _) rfl ?_
    refine x_top (y := nI tsz) h18 ?_
    refine x_icmp_le 23 dX14_tell_14 (by decide) (fun c_14 => ?_) (fun c_14 => ?_)
    · exact absurd (tell_n htz c_6 c_14) hno
    · refine x_aload_n dX14_tell_17 rfl ?_
      refine x_iconst (v := 2) dX14_tell_18 (by decide) ?_
      refine x_callV (As := [.int 2]) (st := []) lv_X14_214 (k_X14_refused (M.g9 (upd g 0 0) w nw)) dX14_tell_19 (xup_self _ _ _) rfl rfl (Nat.le_of_ble_eq_true rfl) ⟨by decide, by decide⟩ ⟨by decide, by decide⟩ (fun v9 h9 z => ?_) (fun _ _ _ _ _ z => by cases z.1)
      obtain ⟨ev, y9, M9⟩ := z
      cases ev
      have y9 : yfr h h9 := (show yfr h (xup h 205 (.inr (14, mL (upd g 0 0) w nw))) from ((yfr_rf _).up (by decide))).tr y9
      exact x_iret dX14_tell_22 rfl rfl (Nat.le_refl _) (Nat.le_refl _) ⟨rfl, y9, M9⟩
set_option maxRecDepth 100000 in
set_option maxHeartbeats 4000000 in
theorem k_X14_tell {G : xG} {h : xHp} {g : Nat → Int32} {w : Int64} {nw : Value} {ar : Nat → Nat → Int32} {tw : Nat → Int64} {kw : Nat → Int64} {rf : Nat → Option Nat} (M : MH h g w nw ar tw kw rf) {b : Nat → Nat} {n ts : Nat} {tk : Nat → Tk} {pos : Nat → Nat} (tT : tkT b n ts tk pos) (hn4 : n ≤ 400) (hb : ∀ k, k < n → b k < 256) (hT0 : tpM ar b n) {tsz : Nat} (htz : tsz ≤ 400) (h18 : g 18 = nI tsz) (hnt : n ≤ tsz) {q : PQ} (qm : qM q ar tw kw) {rc : Nat} (gg : g 4 = nI q.1 ∧ g 5 = nI q.2.2.1 ∧ g 6 = nI rc) (hrc : rc ≤ 20) (h77 : 227 ≤ h.2) {V : Nat → RV} (hrl : ∀ r, r < rc → rlD q (V r)) {S : Nat → Bool} (hS : ∀ j, j < 1000 → ar 212 j = bi (S j)) (rT : rmT h rf rc V) {S0 : Nat → Nat} (hs0 : Sat V rc S0) (fs0 : Nat → Int32) : MX G mX14_tell 7 (3 * n + 6) (16 * n + 31) [.ref 205, .int (nI n)] h (fun o h' => ∃ g0 ar0, (g0 0 = 0 ∧ g0 3 = 0 ∧ g0 18 = 0 ∧ ∀ j, (6 < j ∧ j < 18) ∨ 30 < j → g0 j = g j) ∧ (∀ c, c ≠ 213 → ar0 c = ar c) ∧ tlQ tk n h g0 ar0 rc V q S (rc, V, 0, fs0, q, 0, 0) o h') := by
  refine MX.ofH [(0, .ref 205), (1, .int (nI n))] (by decide) (by decide) (Nat.le_of_ble_eq_true rfl) rfl ?_
  refine x_aload_n dX14_tell_0 rfl ?_
  refine x_iconst (v := 0) dX14_tell_1 (by decide) ?_
  refine x_put (mL (upd g 0 0) w nw) lf_X14_84 dX14_tell_2 M.o (Nat.le_of_ble_eq_true rfl) rfl rfl rfl ?_
  refine x_iload_n dX14_tell_5 rfl ?_
  refine x_if_lt 17 dX14_tell_6 (by decide) (fun c_6 => absurd c_6 (by rw [show (0 : Int32) = nI 0 from rfl, nI_ltI (by omega) (by omega)]; omega)) (fun c_6 => ?_)
  refine x_iload_n dX14_tell_9 rfl ?_
  refine x_aload_n dX14_tell_10 rfl ?_
  refine x_get lf_X14_211 dX14_tell_11 (xup_self _ _ _) rfl ?_
  refine x_top (y := nI tsz) h18 ?_
  refine x_icmp_le 23 dX14_tell_14 (by decide) (fun c_14 => ?_) (fun c_14 => absurd c_14 (by rw [nI_leI (by omega) (by omega)]; omega))
  refine x_aload_n dX14_tell_23 rfl ?_
  refine x_iload_n dX14_tell_24 rfl ?_
  refine x_put (mL (upd (upd g 0 0) 19 (nI n)) w nw) lf_X14_104 dX14_tell_25 (xup_self _ _ _) (Nat.le_of_ble_eq_true rfl) rfl rfl rfl ?_
  refine x_aload_n dX14_tell_28 rfl ?_
  refine x_iconst (v := 0) dX14_tell_29 (by decide) ?_
  refine x_put (mL (upd (upd (upd g 0 0) 18 0) 19 (nI n)) w nw) lf_X14_211 dX14_tell_30 (xup_self _ _ _) (Nat.le_of_ble_eq_true rfl) rfl rfl rfl ?_
  refine x_aload_n dX14_tell_33 rfl ?_
  refine x_iconst (v := 0) dX14_tell_34 (by decide) ?_
  refine x_put (mL (upd (upd (upd (upd g 0 0) 18 0) 19 (nI n)) 20 0) w nw) lf_X14_107 dX14_tell_35 (xup_self _ _ _) (Nat.le_of_ble_eq_true rfl) rfl rfl rfl ?_
  refine x_aload_n dX14_tell_38 rfl ?_
  refine x_iconst (v := 0) dX14_tell_39 (by decide) ?_
  refine x_put (mL (upd (upd (upd (upd (upd g 0 0) 3 0) 18 0) 19 (nI n)) 20 0) w nw) lf_X14_217 dX14_tell_40 (xup_self _ _ _) (Nat.le_of_ble_eq_true rfl) rfl rfl rfl ?_
  refine x_aload_n dX14_tell_43 rfl ?_
  refine x_get lf_X14_96 dX14_tell_44 (xup_self _ _ _) rfl ?_
  refine x_top (y := nI q.1) gg.1 ?_
  refine x_istore_n [(0, .ref 205), (1, .int (nI n)), (2, .int (nI q.1))] dX14_tell_47 (by decide) rfl rfl ?_
  refine x_aload_n dX14_tell_48 rfl ?_
  refine x_get lf_X14_90 dX14_tell_49 (xup_self _ _ _) rfl ?_
  refine x_top (y := nI q.2.2.1) gg.2.1 ?_
  refine x_istore_n [(0, .ref 205), (1, .int (nI n)), (2, .int (nI q.1)), (3, .int (nI q.2.2.1))] dX14_tell_52 (by decide) rfl rfl ?_
  refine x_aload_n dX14_tell_53 rfl ?_
  refine x_get lf_X14_93 dX14_tell_54 (xup_self _ _ _) rfl ?_
  refine x_top (y := nI rc) gg.2.2 ?_
  refine x_istore [(0, .ref 205), (1, .int (nI n)), (2, .int (nI q.1)), (3, .int (nI q.2.2.1)), (4, .int (nI rc))] dX14_tell_57 (by decide) rfl rfl ?_
  refine x_iconst (v := 0) dX14_tell_59 (by decide) ?_
  refine x_istore [(0, .ref 205), (1, .int (nI n)), (2, .int (nI q.1)), (3, .int (nI q.2.2.1)), (4, .int (nI rc)), (5, .int 0)] dX14_tell_60 (by decide) rfl rfl ?_
  have M2 := (((((M.g9 (upd g 0 0) w nw).g9 (upd (upd g 0 0) 19 (nI n)) w nw).g9 (upd (upd (upd g 0 0) 18 0) 19 (nI n)) w nw).g9 (upd (upd (upd (upd g 0 0) 18 0) 19 (nI n)) 20 0) w nw).g9 (upd (upd (upd (upd (upd g 0 0) 3 0) 18 0) 19 (nI n)) 20 0) w nw)
  have Y2 : yfr h (xup (xup (xup (xup (xup h 205 (.inr (14, mL (upd g 0 0) w nw))) 205 (.inr (14, mL (upd (upd g 0 0) 19 (nI n)) w nw))) 205 (.inr (14, mL (upd (upd (upd g 0 0) 18 0) 19 (nI n)) w nw))) 205 (.inr (14, mL (upd (upd (upd (upd g 0 0) 18 0) 19 (nI n)) 20 0) w nw))) 205 (.inr (14, mL (upd (upd (upd (upd (upd g 0 0) 3 0) 18 0) 19 (nI n)) 20 0) w nw))) := ((((((yfr_rf _).up (by decide)).up (by decide)).up (by decide)).up (by decide)).up (by decide))
  have eg : ∃ g2, g2 = upd (upd (upd (upd (upd g 0 0) 3 0) 18 0) 19 (nI n)) 20 0 := ⟨_, rfl⟩
  obtain ⟨g2, eg2⟩ := eg
  generalize xup (xup (xup (xup (xup h 205 (.inr (14, mL (upd g 0 0) w nw))) 205 (.inr (14, mL (upd (upd g 0 0) 19 (nI n)) w nw))) 205 (.inr (14, mL (upd (upd (upd g 0 0) 18 0) 19 (nI n)) w nw))) 205 (.inr (14, mL (upd (upd (upd (upd g 0 0) 18 0) 19 (nI n)) 20 0) w nw))) 205 (.inr (14, mL (upd (upd (upd (upd (upd g 0 0) 3 0) 18 0) 19 (nI n)) 20 0) w nw)) = h2 at M2 Y2 ⊢
  rw [← eg2] at M2
  refine x_heap (xup_id (M2.a 213 3 1000 rfl)).symm ?_
  refine l_X14_keep M2 hS (fun f hf => ?_) 1001 0 (ar 213) (by omega) (by omega) (fun q hq => absurd hq (by omega))
  refine x_aload_n dX14_tell_90 rfl ?_
  refine x_iconst (v := 0) dX14_tell_91 (by decide) ?_
  refine x_put (mL (upd g2 30 0) w nw) lf_X14_220 dX14_tell_92 ((xup_ne (by omega)).trans M2.o) (Nat.le_of_ble_eq_true rfl) rfl rfl rfl ?_
  refine x_aload_n dX14_tell_95 rfl ?_
  have hlx := tT.1.2.1 0 (by have := tT.1.2.2.1; omega)
  rw [tT.1.1] at hlx
  refine x_callV (As := []) (st := []) lv_X14_143 (k_X14_next ((M2.a9 (c := 213) rfl f).g9 (upd g2 30 0) w nw) (b := b) (n := n) ⟨hT0.1, fun i hi => by rw [apF_ne (by decide)]; exact hT0.2 i hi⟩ hlx (by rw [eg2]; rfl) (by rw [eg2]; rfl)) dX14_tell_96 (xup_self _ _ _) rfl rfl (Nat.le_of_ble_eq_true rfl) ⟨Nat.le_of_ble_eq_true rfl, Nat.le_of_ble_eq_true rfl⟩ ⟨Nat.zero_le _, Nat.zero_le _⟩ (fun v9 h9 z => ?_) (fun _ _ _ _ _ z => by cases z.1)
  obtain ⟨ev, y9, g9, w9, M9, s9, cx9⟩ := z
  cases ev
  have Y9 : yfr h h9 := (Y2.tr (show yfr h2 (xup (xup h2 213 (.inl (3, 1000, .inl f))) 205 (.inr (14, mL (upd g2 30 0) w nw))) from (((yfr_rf _).up (by decide)).up (by decide)))).tr y9
  refine x_iconst (v := 1) dX14_tell_99 (by decide) ?_
  refine x_istore [(0, .ref 205), (1, .int (nI n)), (2, .int (nI q.1)), (3, .int (nI q.2.2.1)), (4, .int (nI rc)), (5, .int 1)] dX14_tell_100 (by decide) rfl rfl ?_
  refine x_iload dX14_tell_102 rfl ?_
  refine x_if_eq 139 dX14_tell_104 (by decide) (fun c_104 => absurd c_104 (fun z => absurd z (by decide))) (fun c_104 => ?_)
  have ts1 : 0 < ts := by have := tT.1.2.2.1; omega
  have I0 : tsI rc V q (rc, V, 0, fs0, q, 0, 0) := ⟨⟨hrc, Nat.le_refl _⟩, qm.2.2.2, extQ_rf q, fun _ _ => rfl, hrl, fun i hi => absurd hi (Nat.not_lt_zero _), Nat.le_refl _, Nat.le_refl _⟩
  have T0 : MT n h g9 (apF ar 213 f) S (rc, V, 0, fs0, q, 0, 0) h9 g9 w9 nw (apF ar 213 f) tw kw rf := ⟨M9, gT_rf _, fun _ _ => rfl, qm.ap (by decide) (by decide) (by decide), ⟨(s9 4 (by omega)).trans (by rw [eg2]; exact gg.1), (s9 5 (by omega)).trans (by rw [eg2]; exact gg.2.1), (s9 6 (by omega)).trans (by rw [eg2]; exact gg.2.2)⟩, (s9 30 (by omega)).trans (by rw [eg2]; rfl), fun j hj => by rw [apF_ne (by decide)]; exact hS j hj, rT.y Y9, ⟨Y9.1, fun q hq => Y9.2 q (by omega)⟩, Nat.zero_le _⟩
  refine x_post (l_X14_text tT hn4 hb ((s9 19 (by omega)).trans (by rw [eg2]; rfl)) ⟨hT0.1, fun i hi => by rw [apF_ne (by decide)]; exact hT0.2 i hi⟩ h77 (fun j hj => by rw [apF_at]; exact hf j hj) hs0 201 T0 cx9 ts1 I0 rfl rfl rfl rfl rfl) (fun o h9 z => ?_)
  exact ⟨g9, apF ar 213 f, ⟨(s9 0 (by omega)).trans (by rw [eg2]; rfl), (s9 3 (by omega)).trans (by rw [eg2]; rfl), (s9 18 (by omega)).trans (by rw [eg2]; rfl), fun j hj => (s9 j (by omega)).trans (by rw [eg2, upd_nq (by omega), upd_nq (by omega), upd_nq (by omega), upd_nq (by omega), upd_nq (by omega), upd_nq (by omega)])⟩, fun c hc => apF_ne hc, z⟩
