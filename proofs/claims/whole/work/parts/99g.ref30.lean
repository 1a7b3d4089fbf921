/-! the reference: follows, steps -/
theorem fl_2 {S : Nat → Bool} {s : Nat → Option Nat} {n : Nat} (h : S n = true) : 2 = flA S s n := by unfold flA; rw [if_pos h]
theorem fl_1 {S : Nat → Bool} {s : Nat → Option Nat} {n : Nat} (h : S n = false) (h2 : ¬ s n = none) : 1 = flA S s n := by
  unfold flA; rw [if_neg (by rw [h]; decide)]
  cases z : s n with
  | none => exact absurd z h2
  | some d => rfl
theorem fl_0 {S : Nat → Bool} {s : Nat → Option Nat} {n : Nat} (h : S n = false) (h2 : s n = none) : 0 = flA S s n := by
  unfold flA; rw [if_neg (by rw [h]; decide), h2]; rfl
theorem st_d {s : Nat → Option Nat} {n : Nat} (h2 : ¬ s n = none) : enS (s n) = stA s n := by
  unfold stA
  cases z : s n with
  | none => exact absurd z h2
  | some d => rfl
theorem st_n {s : Nat → Option Nat} {n : Nat} (h2 : s n = none) : -2 = stA s n := by unfold stA; rw [h2]
set_option maxRecDepth 100000 in
set_option maxHeartbeats 4000000 in
theorem k_X14_follows {G : xG} {h : xHp} {g : Nat → Int32} {w : Int64} {nw : Value} {ar : Nat → Nat → Int32} {tw : Nat → Int64} {kw : Nat → Int64} {rf : Nat → Option Nat} (M : MH h g w nw ar tw kw rf) {S : Nat → Bool} {V : Nat → RV} {rc nt : Nat} {s0 : Nat → Option Nat} (hs : IsSt S V rc (uR (-1)) nt s0) (hV : ∀ r, r < rc → okRl nt (V r)) (hn : nt ≤ 10) (hrc : rc ≤ 20) (h6 : g 6 = nI rc) (hT : rmT h rf rc V) (hcv : ∀ r, r < rc → covR (V r)) (hpw : pwA V rc nt s0) (hK : ∀ r, r < rc → okK (V r)) (hsat : ∃ S9, Sat V rc S9) (h12 : ∀ j, j < 1000 → ar 212 j = bi (S j)) {nk : Nat} {pc : Nat → Nat} (h4 : g 4 = nI nt) (h5 : g 5 = nI nk) (hnk : nk ≤ 10) (hpc : ∀ k, k < nk → ar 210 k = nI (pc k) ∧ pc k < 3) {a : Int32} : MX G mX14_follows 12 0 0 [.ref 205, .int a] h (fun o h' => yfr h h' ∧ (∃ g' ar', MH h' g' w nw ar' tw kw rf ∧ (g' 0 = 0 ∧ ∀ k, k ≠ 0 → k ≠ 34 → g' k = g k) ∧ ∀ c, c ≠ 211 → c ≠ 219 → c ≠ 220 → ar' c = ar c) ∧ ∃ r, o = .inl (some (.int r)) ∧ askA nk nt pc a r (fun n r => r = flA S s0 n)) := by
  refine MX.of [(0, .ref 205), (1, .int a)] (by decide) rfl (Nat.le_of_ble_eq_true rfl) rfl ?_
  refine x_aload_n dX14_follows_0 rfl ?_
  refine x_iconst (v := 0) dX14_follows_1 (by decide) ?_
  refine x_put (mL (upd g 0 0) w nw) lf_X14_84 dX14_follows_2 M.o (Nat.le_of_ble_eq_true rfl) rfl rfl rfl ?_
  refine x_aload_n dX14_follows_5 rfl ?_
  refine x_iload_n dX14_follows_6 rfl ?_
  refine x_callV (As := [.int a]) (st := []) lv_X14_239 (k_X14_isAtom (M.g9 (upd g 0 0) w nw) ((upd_nq (by decide)).trans h4) ((upd_nq (by decide)).trans h5) hpc hnk hn) dX14_follows_7 (xup_self _ _ _) rfl rfl (Nat.le_of_ble_eq_true rfl) ⟨by decide, by decide⟩ ⟨by decide, by decide⟩ (fun v9 h9 z => ?_) (fun _ _ _ _ _ z => by obtain ⟨_, z, _⟩ := z; cases z)
  obtain ⟨b9, ev, eh, hb9⟩ := z
  rw [eh]
  cases ev
  refine x_if_ne 15 dX14_follows_10 (by decide) (fun c_10 => ?_) (fun c_10 => ?_)
  · have c_10 := bi_t c_10
    refine x_aload_n dX14_follows_15 rfl ?_
    refine x_iconst (v := (-1)) dX14_follows_16 (by decide) ?_
    obtain ⟨n, ea, hn31, hok⟩ := hb9.mp (by first | exact c_10 | exact bi_t c_10)
    have hn9 : n < 1000 := by have := hok.1; omega
    have Y1 : yfr h (xup h 205 (.inr (14, mL (upd g 0 0) w nw))) := ((yfr_rf _).up (by decide))
    refine x_callV (As := [.int (-1)]) (st := []) lv_X14_284 (k_X14_works (M.g9 (upd g 0 0) w nw) hs hV hn hrc ((upd_nq (by decide)).trans h6) (hT.y Y1) hcv hpw hK hsat h12) dX14_follows_17 (xup_self _ _ _) rfl rfl (Nat.le_of_ble_eq_true rfl) ⟨by decide, by decide⟩ ⟨by decide, by decide⟩ (fun v9 h2 z => ?_) (fun _ _ _ _ _ z => by cases z.1)
    obtain ⟨ev, g2, ar2, M2, Y2, gk2, ak2, hst⟩ := z
    cases ev
    have hs9 := hst n hn9
    refine x_aload_n dX14_follows_20 rfl ?_
    refine x_get lf_X14_33 dX14_follows_21 M2.o rfl ?_
    refine x_iload_n dX14_follows_24 rfl ?_
    refine x_top (y := nI n) ea ?_
    refine x_zaldN (j := n) (M2.a 212 3 1000 rfl) rfl (by omega) (by decide) dX14_follows_25 ?_
    refine x_top ((congrFun (ak2 212 (by decide) (by decide) (by decide)) n).trans (h12 n hn9)) ?_
    refine x_if_eq 33 dX14_follows_26 (by decide) (fun c_26 => ?_) (fun c_26 => ?_)
    · have c_26 := bi_f c_26
      refine x_aload_n dX14_follows_33 rfl ?_
      refine x_get lf_X14_63 dX14_follows_34 M2.o rfl ?_
      refine x_iload_n dX14_follows_37 rfl ?_
      refine x_top (y := nI n) ea ?_
      refine x_ialdN (j := n) (M2.a 219 0 1000 rfl) rfl (by omega) (by decide) dX14_follows_38 ?_
      refine x_top hs9.1 ?_
      refine x_ldc kc_X14_253 dX14_follows_39 ?_
      refine x_icmp_ge 48 dX14_follows_41 (by decide) (fun c_41 => ?_) (fun c_41 => ?_)
      · refine x_iconst (v := 0) dX14_follows_48 (by decide) ?_
        refine x_iret dX14_follows_49 rfl rfl (Nat.le_refl _) (Nat.le_refl _) ⟨Y1.tr Y2, ⟨g2, ar2, M2, ⟨(gk2 0 (by decide)).trans rfl, fun k h1 h2 => (gk2 k h2).trans (upd_nq h1)⟩, ak2⟩, _, rfl, Or.inl ⟨n, ea, hok, ?_⟩⟩
        first | exact fl_2 c_26 | exact fl_1 c_26 (fun z => c_41 ((enS_ge hs9.2).mpr z)) | exact fl_0 c_26 ((enS_ge hs9.2).mp c_41)
      · refine x_iconst (v := 1) dX14_follows_44 (by decide) ?_
        refine x_goto 49 dX14_follows_45 (by decide) ?_
        refine x_iret dX14_follows_49 rfl rfl (Nat.le_refl _) (Nat.le_refl _) ⟨Y1.tr Y2, ⟨g2, ar2, M2, ⟨(gk2 0 (by decide)).trans rfl, fun k h1 h2 => (gk2 k h2).trans (upd_nq h1)⟩, ak2⟩, _, rfl, Or.inl ⟨n, ea, hok, ?_⟩⟩
        first | exact fl_2 c_26 | exact fl_1 c_26 (fun z => c_41 ((enS_ge hs9.2).mpr z)) | exact fl_0 c_26 ((enS_ge hs9.2).mp c_41)
    · have c_26 := bi_t c_26
      refine x_iconst (v := 2) dX14_follows_29 (by decide) ?_
      refine x_goto 49 dX14_follows_30 (by decide) ?_
      refine x_iret dX14_follows_49 rfl rfl (Nat.le_refl _) (Nat.le_refl _) ⟨Y1.tr Y2, ⟨g2, ar2, M2, ⟨(gk2 0 (by decide)).trans rfl, fun k h1 h2 => (gk2 k h2).trans (upd_nq h1)⟩, ak2⟩, _, rfl, Or.inl ⟨n, ea, hok, ?_⟩⟩
      first | exact fl_2 c_26 | exact fl_1 c_26 (fun z => c_41 ((enS_ge hs9.2).mpr z)) | exact fl_0 c_26 ((enS_ge hs9.2).mp c_41)
  · have c_10 := bi_f c_10
    refine x_iconst (v := (-1)) dX14_follows_13 (by decide) ?_
    exact x_iret dX14_follows_14 rfl rfl (Nat.le_refl _) (Nat.le_refl _) ⟨((yfr_rf _).up (by decide)), ⟨_, ar, (M.g9 (upd g 0 0) w nw), ⟨rfl, fun k h1 _ => upd_nq h1⟩, fun _ _ _ _ => rfl⟩, _, rfl, Or.inr ⟨fun z => by have := hb9.mpr z; first | (rw [this] at c_10; cases c_10; done) | (rw [this] at c_10; exact absurd c_10 (by decide)), rfl⟩⟩
set_option maxRecDepth 100000 in
set_option maxHeartbeats 4000000 in
theorem k_X14_steps {G : xG} {h : xHp} {g : Nat → Int32} {w : Int64} {nw : Value} {ar : Nat → Nat → Int32} {tw : Nat → Int64} {kw : Nat → Int64} {rf : Nat → Option Nat} (M : MH h g w nw ar tw kw rf) {S : Nat → Bool} {V : Nat → RV} {rc nt : Nat} {s0 : Nat → Option Nat} (hs : IsSt S V rc (uR (-1)) nt s0) (hV : ∀ r, r < rc → okRl nt (V r)) (hn : nt ≤ 10) (hrc : rc ≤ 20) (h6 : g 6 = nI rc) (hT : rmT h rf rc V) (hcv : ∀ r, r < rc → covR (V r)) (hpw : pwA V rc nt s0) (hK : ∀ r, r < rc → okK (V r)) (hsat : ∃ S9, Sat V rc S9) (h12 : ∀ j, j < 1000 → ar 212 j = bi (S j)) {nk : Nat} {pc : Nat → Nat} (h4 : g 4 = nI nt) (h5 : g 5 = nI nk) (hnk : nk ≤ 10) (hpc : ∀ k, k < nk → ar 210 k = nI (pc k) ∧ pc k < 3) {a : Int32} : MX G mX14_steps 12 0 0 [.ref 205, .int a] h (fun o h' => yfr h h' ∧ (∃ g' ar', MH h' g' w nw ar' tw kw rf ∧ (g' 0 = 0 ∧ ∀ k, k ≠ 0 → k ≠ 34 → g' k = g k) ∧ ∀ c, c ≠ 211 → c ≠ 219 → c ≠ 220 → ar' c = ar c) ∧ ∃ r, o = .inl (some (.int r)) ∧ askA nk nt pc a r (fun n r => r = stA s0 n)) := by
  refine MX.of [(0, .ref 205), (1, .int a)] (by decide) rfl (Nat.le_of_ble_eq_true rfl) rfl ?_
  refine x_aload_n dX14_steps_0 rfl ?_
  refine x_iconst (v := 0) dX14_steps_1 (by decide) ?_
  refine x_put (mL (upd g 0 0) w nw) lf_X14_84 dX14_steps_2 M.o (Nat.le_of_ble_eq_true rfl) rfl rfl rfl ?_
  refine x_aload_n dX14_steps_5 rfl ?_
  refine x_iload_n dX14_steps_6 rfl ?_
  refine x_callV (As := [.int a]) (st := []) lv_X14_239 (k_X14_isAtom (M.g9 (upd g 0 0) w nw) ((upd_nq (by decide)).trans h4) ((upd_nq (by decide)).trans h5) hpc hnk hn) dX14_steps_7 (xup_self _ _ _) rfl rfl (Nat.le_of_ble_eq_true rfl) ⟨by decide, by decide⟩ ⟨by decide, by decide⟩ (fun v9 h9 z => ?_) (fun _ _ _ _ _ z => by obtain ⟨_, z, _⟩ := z; cases z)
  obtain ⟨b9, ev, eh, hb9⟩ := z
  rw [eh]
  cases ev
  refine x_if_ne 15 dX14_steps_10 (by decide) (fun c_10 => ?_) (fun c_10 => ?_)
  · have c_10 := bi_t c_10
    refine x_aload_n dX14_steps_15 rfl ?_
    refine x_iconst (v := (-1)) dX14_steps_16 (by decide) ?_
    obtain ⟨n, ea, hn31, hok⟩ := hb9.mp (by first | exact c_10 | exact bi_t c_10)
    have hn9 : n < 1000 := by have := hok.1; omega
    have Y1 : yfr h (xup h 205 (.inr (14, mL (upd g 0 0) w nw))) := ((yfr_rf _).up (by decide))
    refine x_callV (As := [.int (-1)]) (st := []) lv_X14_284 (k_X14_works (M.g9 (upd g 0 0) w nw) hs hV hn hrc ((upd_nq (by decide)).trans h6) (hT.y Y1) hcv hpw hK hsat h12) dX14_steps_17 (xup_self _ _ _) rfl rfl (Nat.le_of_ble_eq_true rfl) ⟨by decide, by decide⟩ ⟨by decide, by decide⟩ (fun v9 h2 z => ?_) (fun _ _ _ _ _ z => by cases z.1)
    obtain ⟨ev, g2, ar2, M2, Y2, gk2, ak2, hst⟩ := z
    cases ev
    have hs9 := hst n hn9
    refine x_aload_n dX14_steps_20 rfl ?_
    refine x_get lf_X14_63 dX14_steps_21 M2.o rfl ?_
    refine x_iload_n dX14_steps_24 rfl ?_
    refine x_top (y := nI n) ea ?_
    refine x_ialdN (j := n) (M2.a 219 0 1000 rfl) rfl (by omega) (by decide) dX14_steps_25 ?_
    refine x_top hs9.1 ?_
    refine x_ldc kc_X14_253 dX14_steps_26 ?_
    refine x_icmp_ge 40 dX14_steps_28 (by decide) (fun c_28 => ?_) (fun c_28 => ?_)
    · refine x_bipush (v := (-2)) dX14_steps_40 (by decide) ?_
      refine x_iret dX14_steps_42 rfl rfl (Nat.le_refl _) (Nat.le_refl _) ⟨Y1.tr Y2, ⟨g2, ar2, M2, ⟨(gk2 0 (by decide)).trans rfl, fun k h1 h2 => (gk2 k h2).trans (upd_nq h1)⟩, ak2⟩, _, rfl, Or.inl ⟨n, ea, hok, ?_⟩⟩
      first | exact st_d (fun z => c_28 ((enS_ge hs9.2).mpr z)) | exact st_n ((enS_ge hs9.2).mp c_28)
    · refine x_aload_n dX14_steps_31 rfl ?_
      refine x_get lf_X14_63 dX14_steps_32 M2.o rfl ?_
      refine x_iload_n dX14_steps_35 rfl ?_
      refine x_top (y := nI n) ea ?_
      refine x_ialdN (j := n) (M2.a 219 0 1000 rfl) rfl (by omega) (by decide) dX14_steps_36 ?_
      refine x_top hs9.1 ?_
      refine x_goto 42 dX14_steps_37 (by decide) ?_
      refine x_iret dX14_steps_42 rfl rfl (Nat.le_refl _) (Nat.le_refl _) ⟨Y1.tr Y2, ⟨g2, ar2, M2, ⟨(gk2 0 (by decide)).trans rfl, fun k h1 h2 => (gk2 k h2).trans (upd_nq h1)⟩, ak2⟩, _, rfl, Or.inl ⟨n, ea, hok, ?_⟩⟩
      first | exact st_d (fun z => c_28 ((enS_ge hs9.2).mpr z)) | exact st_n ((enS_ge hs9.2).mp c_28)
  · have c_10 := bi_f c_10
    refine x_iconst (v := (-1)) dX14_steps_13 (by decide) ?_
    exact x_iret dX14_steps_14 rfl rfl (Nat.le_refl _) (Nat.le_refl _) ⟨((yfr_rf _).up (by decide)), ⟨_, ar, (M.g9 (upd g 0 0) w nw), ⟨rfl, fun k h1 _ => upd_nq h1⟩, fun _ _ _ _ => rfl⟩, _, rfl, Or.inr ⟨fun z => by have := hb9.mpr z; first | (rw [this] at c_10; cases c_10; done) | (rw [this] at c_10; exact absurd c_10 (by decide)), rfl⟩⟩
