/-! the reference: oneOf -/
theorem enS_l {o : Option Nat} (h : ∀ d, o = some d → d < 1000000) : enS o < 1000000 ↔ ¬ o = none := by
  cases o with
  | none => exact ⟨fun z => absurd z (by decide), fun z => absurd rfl z⟩
  | some d =>
    have hd := h d rfl
    show nI d < 1000000 ↔ _
    rw [show (1000000 : Int32) = nI 1000000 from rfl, nI_ltI (by omega) (by omega)]
    exact ⟨fun _ z => (by cases z), fun _ => hd⟩
set_option maxRecDepth 100000 in
set_option maxHeartbeats 4000000 in
theorem l_X14_oneOf {G : xG} {h : xHp} {g : Nat → Int32} {w : Int64} {nw : Value} {ar : Nat → Nat → Int32} {tw : Nat → Int64} {kw : Nat → Int64} {rf : Nat → Option Nat} (M : MH h g w nw ar tw kw rf) {s0 : Nat → Option Nat} (hst : stO (ar 219) s0) {k j : Nat} (hk : k < 10) (hj : j < 2 ^ 31) : ∀ (m x : Nat), x ≤ 100 → 101 ≤ x + m → fb_ct (fun i => (s0 (100 * k + i)).isSome) x ≤ j → Wx G mX14_oneOf (xRm 1 0 0) (xF G (fun o h' => ∃ r, o = .inl (some (.int r)) ∧ h' = h ∧ oneP s0 k j r) 0 0) 0 0 8 [(0, .ref 205), (1, .int (nI k)), (2, .int (nI j)), (3, .int (nI (fb_ct (fun i => (s0 (100 * k + i)).isSome) x))), (4, .int (nI (100 * k + x)))] [] h := by
  intro m
  induction m with
  | zero => exact fun x h1 h2 => absurd h2 (by omega)
  | succ m ih =>
    intro x hx hx2 hle
    have hb9 := fb_ct_le (fun i => (s0 (100 * k + i)).isSome) x
    refine x_iload dX14_oneOf_8 rfl ?_
    refine x_bipush (v := 100) dX14_oneOf_10 (by decide) ?_
    refine x_iload_n dX14_oneOf_12 rfl ?_
    refine x_imul dX14_oneOf_13 ?_
    refine x_top (y := nI (100 * k)) (pk_mul 100 k) ?_
    refine x_bipush (v := 100) dX14_oneOf_14 (by decide) ?_
    refine x_iadd dX14_oneOf_16 ?_
    refine x_top (y := nI ((100 * k) + 100)) (nI_add (100 * k) 100) ?_
    refine x_icmp_ge 52 dX14_oneOf_17 (by decide) (fun c_17 => ?_) (fun c_17 => ?_)
    · rw [nI_leI (by omega) (by omega)] at c_17
      refine x_iconst (v := (-1)) dX14_oneOf_52 (by decide) ?_
      exact x_iret dX14_oneOf_53 rfl rfl (Nat.le_refl _) (Nat.le_refl _) ⟨_, rfl, rfl, Or.inr ⟨by rw [show x = 100 by omega] at hle; exact hle, rfl⟩⟩
    · rw [nI_leI (by omega) (by omega)] at c_17
      have hs9 := hst (100 * k + x) (by omega)
      refine x_aload_n dX14_oneOf_20 rfl ?_
      refine x_get lf_X14_63 dX14_oneOf_21 M.o rfl ?_
      refine x_iload dX14_oneOf_24 rfl ?_
      refine x_ialdN (j := 100 * k + x) (M.a 219 0 1000 rfl) rfl (by omega) (by decide) dX14_oneOf_26 ?_
      refine x_top hs9.1 ?_
      refine x_ldc kc_X14_253 dX14_oneOf_27 ?_
      refine x_icmp_lt 35 dX14_oneOf_29 (by decide) (fun c_29 => ?_) (fun c_29 => ?_)
      · refine x_iload_n dX14_oneOf_35 rfl ?_
        refine x_iload_n dX14_oneOf_36 rfl ?_
        refine x_icmp_ne 43 dX14_oneOf_37 (by decide) (fun c_37 => ?_) (fun c_37 => ?_)
        · rw [nI_eq (by omega) (by omega)] at c_37
          refine x_iinc (v := nI ((fb_ct (fun i => (s0 (100 * k + i)).isSome) x) + 1)) [(0, .ref 205), (1, .int (nI k)), (2, .int (nI j)), (3, .int (nI ((fb_ct (fun i => (s0 (100 * k + i)).isSome) x) + 1))), (4, .int (nI (100 * k + x)))] dX14_oneOf_43 rfl (nI_add (fb_ct (fun i => (s0 (100 * k + i)).isSome) x) 1) (by decide) rfl rfl ?_
          refine x_iinc (v := nI ((100 * k + x) + 1)) [(0, .ref 205), (1, .int (nI k)), (2, .int (nI j)), (3, .int (nI ((fb_ct (fun i => (s0 (100 * k + i)).isSome) x) + 1))), (4, .int (nI ((100 * k + x) + 1)))] dX14_oneOf_46 rfl (nI_add (100 * k + x) 1) (by decide) rfl rfl ?_
          refine x_goto 8 dX14_oneOf_49 (by decide) ?_
          have e9 : fb_ct (fun i => (s0 (100 * k + i)).isSome) (x + 1) = fb_ct (fun i => (s0 (100 * k + i)).isSome) x + 1 := by show fb_ct (fun i => (s0 (100 * k + i)).isSome) x + (if (s0 (100 * k + x)).isSome = true then 1 else 0) = _; congr 1; exact if_pos (by cases z : s0 (100 * k + x) with | none => exact absurd z ((enS_l hs9.2).mp c_29) | some d => rfl)
          have K := ih (x + 1) (by omega) (by omega) (by omega)
          rw [e9] at K
          exact K
        · rw [nI_eq (by omega) (by omega)] at c_37
          refine x_iload dX14_oneOf_40 rfl ?_
          exact x_iret dX14_oneOf_42 rfl rfl (Nat.le_refl _) (Nat.le_refl _) ⟨_, rfl, rfl, Or.inl ⟨x, by omega, (by cases z : s0 (100 * k + x) with | none => exact absurd z ((enS_l hs9.2).mp c_29) | some d => rfl), c_37, rfl⟩⟩
      · refine x_goto 46 dX14_oneOf_32 (by decide) ?_
        refine x_iinc (v := nI ((100 * k + x) + 1)) [(0, .ref 205), (1, .int (nI k)), (2, .int (nI j)), (3, .int (nI (fb_ct (fun i => (s0 (100 * k + i)).isSome) x))), (4, .int (nI ((100 * k + x) + 1)))] dX14_oneOf_46 rfl (nI_add (100 * k + x) 1) (by decide) rfl rfl ?_
        refine x_goto 8 dX14_oneOf_49 (by decide) ?_
        have hz : s0 (100 * k + x) = none := by cases z : s0 (100 * k + x) with | none => rfl | some d => exact absurd ((enS_l hs9.2).mpr (by rw [z]; intro y; cases y)) c_29
        have e9 : fb_ct (fun i => (s0 (100 * k + i)).isSome) (x + 1) = fb_ct (fun i => (s0 (100 * k + i)).isSome) x := by show fb_ct (fun i => (s0 (100 * k + i)).isSome) x + (if (s0 (100 * k + x)).isSome = true then 1 else 0) = _; rw [hz]; rfl
        have K := ih (x + 1) (by omega) (by omega) (by omega)
        rw [e9] at K
        exact K
set_option maxRecDepth 100000 in
set_option maxHeartbeats 4000000 in
theorem k_X14_oneOf {G : xG} {h : xHp} {g : Nat → Int32} {w : Int64} {nw : Value} {ar : Nat → Nat → Int32} {tw : Nat → Int64} {kw : Nat → Int64} {rf : Nat → Option Nat} (M : MH h g w nw ar tw kw rf) {s0 : Nat → Option Nat} (hst : stO (ar 219) s0) {k j : Nat} (hk : k < 10) (hj : j < 2 ^ 31) : MX G mX14_oneOf 1 0 0 [.ref 205, .int (nI k), .int (nI j)] h (fun o h' => ∃ r, o = .inl (some (.int r)) ∧ h' = h ∧ oneP s0 k j r) := by
  refine MX.of [(0, .ref 205), (1, .int (nI k)), (2, .int (nI j))] (by decide) rfl (Nat.le_of_ble_eq_true rfl) rfl ?_
  refine x_iconst (v := 0) dX14_oneOf_0 (by decide) ?_
  refine x_istore_n [(0, .ref 205), (1, .int (nI k)), (2, .int (nI j)), (3, .int 0)] dX14_oneOf_1 (by decide) rfl rfl ?_
  refine x_bipush (v := 100) dX14_oneOf_2 (by decide) ?_
  refine x_iload_n dX14_oneOf_4 rfl ?_
  refine x_imul dX14_oneOf_5 ?_
  refine x_top (y := nI (100 * k)) (pk_mul 100 k) ?_
  refine x_istore [(0, .ref 205), (1, .int (nI k)), (2, .int (nI j)), (3, .int 0), (4, .int (nI (100 * k)))] dX14_oneOf_6 (by decide) rfl rfl ?_
  exact l_X14_oneOf M hst hk hj 101 0 (by omega) (by omega) (Nat.zero_le _)
