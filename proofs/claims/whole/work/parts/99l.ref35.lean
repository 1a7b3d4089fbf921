/-! the reference: many -/
set_option maxRecDepth 100000 in
set_option maxHeartbeats 4000000 in
theorem l_X14_many {G : xG} {mc ms : Nat} {Q : Option Value ⊕ Nat → xHp → Prop} {h : xHp} {g : Nat → Int32} {w : Int64} {nw : Value} {ar : Nat → Nat → Int32} {tw : Nat → Int64} {kw : Nat → Int64} {rf : Nat → Option Nat} (M : MH h g w nw ar tw kw rf) {s0 : Nat → Option Nat} (hst : stO (ar 219) s0) {k : Nat} (hk : k < 10) (hQ : Q (.inl (some (.int (nI (fb_ct (fun i => (s0 (100 * k + i)).isSome) 100))))) h) : ∀ (m i : Nat), i ≤ fb_ct (fun i => (s0 (100 * k + i)).isSome) 100 → 101 ≤ i + m → Wx G mX14_many (xRm 12 0 0) (xF G Q mc ms) 0 0 22 [(0, .ref 205), (1, .int (nI k)), (2, .int (nI i))] [] h := by
  have h100 := fb_ct_le (fun i => (s0 (100 * k + i)).isSome) 100
  intro m
  induction m with
  | zero => exact fun i h1 h2 => absurd h2 (by omega)
  | succ m ih =>
    intro i hi him
    refine x_aload_n dX14_many_22 rfl ?_
    refine x_iload_n dX14_many_23 rfl ?_
    refine x_iload_n dX14_many_24 rfl ?_
    refine x_callV (As := [.int (nI k), .int (nI i)]) (st := []) lv_X14_288 (k_X14_oneOf M hst (k := k) (j := i) hk (by omega)) dX14_many_25 M.o rfl rfl (Nat.le_of_ble_eq_true rfl) ⟨by decide, by decide⟩ ⟨by decide, by decide⟩ (fun v9 h9 z => ?_) (fun _ _ _ _ _ z => by obtain ⟨_, z, _⟩ := z; cases z)
    obtain ⟨r9, ev, eh, ho⟩ := z
    rw [eh]
    cases ev
    refine x_iconst (v := (-1)) dX14_many_28 (by decide) ?_
    refine x_icmp_eq 38 dX14_many_29 (by decide) (fun c_29 => ?_) (fun c_29 => ?_)
    · refine x_iload_n dX14_many_38 rfl ?_
      have e9 : i = fb_ct (fun i => (s0 (100 * k + i)).isSome) 100 := by rcases ho with ⟨m9, hm9, hp9, hc9, hr9⟩ | ⟨hr8, _⟩; (rw [hr9] at c_29; exact absurd c_29 (nI_m1 (by omega))); omega
      rw [e9]
      exact x_iret dX14_many_39 rfl rfl (Nat.zero_le _) (Nat.zero_le _) hQ
    · refine x_iinc (v := nI (i + 1)) [(0, .ref 205), (1, .int (nI k)), (2, .int (nI (i + 1)))] dX14_many_32 rfl (nI_add i 1) (by decide) rfl rfl ?_
      refine x_goto 22 dX14_many_35 (by decide) ?_
      refine ih (i + 1) ?_ (by omega)
      rcases ho with ⟨m9, hm9, hp9, hc9, _⟩ | ⟨_, hr9⟩
      · have e9 : fb_ct (fun i => (s0 (100 * k + i)).isSome) (m9 + 1) = fb_ct (fun i => (s0 (100 * k + i)).isSome) m9 + 1 := by show fb_ct (fun i => (s0 (100 * k + i)).isSome) m9 + (if (s0 (100 * k + m9)).isSome = true then 1 else 0) = _; congr 1; exact if_pos hp9
        have := fb_ct_mono (fun i => (s0 (100 * k + i)).isSome) (m := m9 + 1) (n := 100) (by omega)
        omega
      · exact absurd hr9 c_29
set_option maxRecDepth 100000 in
set_option maxHeartbeats 4000000 in
theorem k_X14_many {G : xG} {h : xHp} {g : Nat → Int32} {w : Int64} {nw : Value} {ar : Nat → Nat → Int32} {tw : Nat → Int64} {kw : Nat → Int64} {rf : Nat → Option Nat} (M : MH h g w nw ar tw kw rf) {S : Nat → Bool} {V : Nat → RV} {rc nt : Nat} {s0 : Nat → Option Nat} (hs : IsSt S V rc (uR (-1)) nt s0) (hV : ∀ r, r < rc → okRl nt (V r)) (hn : nt ≤ 10) (hrc : rc ≤ 20) (h6 : g 6 = nI rc) (hT : rmT h rf rc V) (hcv : ∀ r, r < rc → covR (V r)) (hpw : pwA V rc nt s0) (hK : ∀ r, r < rc → okK (V r)) (hsat : ∃ S9, Sat V rc S9) (h12 : ∀ j, j < 1000 → ar 212 j = bi (S j)) {nk : Nat} (h5 : g 5 = nI nk) (hnk : nk ≤ 10) {kd : Int32} : MX G mX14_many 12 0 0 [.ref 205, .int kd] h (fun o h' => yfr h h' ∧ (∃ g' ar', MH h' g' w nw ar' tw kw rf ∧ (g' 0 = 0 ∧ ∀ k, k ≠ 0 → k ≠ 34 → g' k = g k) ∧ ∀ c, c ≠ 211 → c ≠ 219 → c ≠ 220 → ar' c = ar c) ∧ ∃ r, o = .inl (some (.int r)) ∧ askK nk kd r (fun j r => r = nI (fb_ct (fun i => (s0 (100 * j + i)).isSome) 100))) := by
  refine MX.of [(0, .ref 205), (1, .int kd)] (by decide) rfl (Nat.le_of_ble_eq_true rfl) rfl ?_
  refine x_aload_n dX14_many_0 rfl ?_
  refine x_iconst (v := 0) dX14_many_1 (by decide) ?_
  refine x_put (mL (upd g 0 0) w nw) lf_X14_84 dX14_many_2 M.o (Nat.le_of_ble_eq_true rfl) rfl rfl rfl ?_
  refine x_aload_n dX14_many_5 rfl ?_
  refine x_iload_n dX14_many_6 rfl ?_
  refine x_callV (As := [.int kd]) (st := []) lv_X14_232 (k_X14_isKind (M.g9 (upd g 0 0) w nw) ((upd_nq (by decide)).trans h5)) dX14_many_7 (xup_self _ _ _) rfl rfl (Nat.le_of_ble_eq_true rfl) ⟨by decide, by decide⟩ ⟨by decide, by decide⟩ (fun v9 h9 z => ?_) (fun _ _ _ _ _ z => by cases z.1)
  obtain ⟨ev, eh⟩ := z
  rw [eh]
  cases ev
  refine x_if_ne 15 dX14_many_10 (by decide) (fun c_10 => ?_) (fun c_10 => ?_)
  · have c_10 := bi_t c_10
    refine x_aload_n dX14_many_15 rfl ?_
    refine x_iconst (v := (-1)) dX14_many_16 (by decide) ?_
    have Y1 : yfr h (xup h 205 (.inr (14, mL (upd g 0 0) w nw))) := ((yfr_rf _).up (by decide))
    refine x_callV (As := [.int (-1)]) (st := []) lv_X14_284 (k_X14_works (M.g9 (upd g 0 0) w nw) hs hV hn hrc ((upd_nq (by decide)).trans h6) (hT.y Y1) hcv hpw hK hsat h12) dX14_many_17 (xup_self _ _ _) rfl rfl (Nat.le_of_ble_eq_true rfl) ⟨by decide, by decide⟩ ⟨by decide, by decide⟩ (fun v9 h2 z => ?_) (fun _ _ _ _ _ z => by cases z.1)
    obtain ⟨ev, g2, ar2, M2, Y2, gk2, ak2, hst⟩ := z
    cases ev
    refine x_iconst (v := 0) dX14_many_20 (by decide) ?_
    refine x_istore_n [(0, .ref 205), (1, .int kd), (2, .int 0)] dX14_many_21 (by decide) rfl rfl ?_
    obtain ⟨k, hk, ek⟩ := inR_of (show inR kd nk = true by first | exact c_10 | exact bi_t c_10) (by omega)
    subst ek
    exact l_X14_many M2 hst (by omega) ⟨Y1.tr Y2, ⟨g2, ar2, M2, ⟨(gk2 0 (by decide)).trans rfl, fun k h1 h2 => (gk2 k h2).trans (upd_nq h1)⟩, ak2⟩, _, rfl, Or.inl ⟨k, hk, rfl, rfl⟩⟩ 101 0 (Nat.zero_le _) (by omega)
  · have c_10 := bi_f c_10
    refine x_iconst (v := (-1)) dX14_many_13 (by decide) ?_
    exact x_iret dX14_many_14 rfl rfl (Nat.le_refl _) (Nat.le_refl _) ⟨((yfr_rf _).up (by decide)), ⟨_, ar, (M.g9 (upd g 0 0) w nw), ⟨rfl, fun k h1 _ => upd_nq h1⟩, fun _ _ _ _ => rfl⟩, _, rfl, Or.inr ⟨by first | exact c_10 | exact bi_f c_10, rfl⟩⟩
