/-! the reference: hold -/
set_option maxRecDepth 100000 in
set_option maxHeartbeats 4000000 in
theorem l_X14_hold {G : xG} {h : xHp} {g : Nat → Int32} {w : Int64} {nw : Value} {ar : Nat → Nat → Int32} {tw : Nat → Int64} {kw : Nat → Int64} {rf : Nat → Option Nat} (M : MH h g w nw ar tw kw rf) {nt : Nat} {θ : Nat → Option Nat} (hgv : ∀ s, s < 3 → ar 220 s = enT (θ s)) (hn : nt ≤ 10) (hθ : okTh nt θ) {a : Nat} {v : RV} (rv : rmV h a v) (hv : okRl nt v) {s : Nat → Option Nat} (hs : stO (ar 219) s) (hb : ∀ j, j < v.2.2.1 → ∀ s, s < 3 → sgIn (v.2.1 j) s → θ s ≠ none) : ∀ (m j : Nat) (b : Bool), j ≤ v.2.2.1 → v.2.2.1 + 1 ≤ j + m → (b = true ↔ ∀ i, i < j → ¬ v.2.1 i 0 = 0 → tmH (v.2.1 i) θ s) → Wx G mX14_hold (xRm 4 0 0) (xF G (xAsk (∀ j, j < v.2.2.1 → ¬ v.2.1 j 0 = 0 → tmH (v.2.1 j) θ s) h) 0 0) 0 0 4 [(0, .ref 205), (1, .ref a), (2, .int (bi b)), (3, .int (nI (j + 1)))] [] h := by
  have hz4 := hv.1
  obtain ⟨so, kd, on, tz, lt, rc9, rI⟩ := id rv
  intro m
  induction m with
  | zero => exact fun j b h1 h2 => absurd h2 (by omega)
  | succ m ih =>
    intro j b hk hk2 hI
    refine x_iload_n dX14_hold_4 rfl ?_
    refine x_aload_n dX14_hold_5 rfl ?_
    refine x_get lf_X14_199 dX14_hold_6 rc9.1 rfl ?_
    refine x_top (y := nI (v.2.2.1)) rfl ?_
    refine x_icmp_gt 46 dX14_hold_9 (by decide) (fun c_9 => ?_) (fun c_9 => ?_)
    · rw [nI_ltI (by omega) (by omega)] at c_9
      refine x_iload_n dX14_hold_46 rfl ?_
      exact x_iret dX14_hold_47 rfl (by cases b <;> rfl) (Nat.le_refl _) (Nat.le_refl _) ⟨b, rfl, rfl, by rw [hI, show j = v.2.2.1 by omega]⟩
    · rw [nI_ltI (by omega) (by omega)] at c_9
      refine x_iload_n dX14_hold_12 rfl ?_
      refine x_if_eq 38 dX14_hold_13 (by decide) (fun c_13 => ?_) (fun c_13 => ?_)
      · have c_13 := bi_f c_13
        refine x_iconst (v := 0) dX14_hold_38 (by decide) ?_
        refine x_istore_n [(0, .ref 205), (1, .ref a), (2, .int 0), (3, .int (nI (j + 1)))] dX14_hold_39 (by decide) rfl rfl ?_
        refine x_iinc (v := nI ((j + 1) + 1)) [(0, .ref 205), (1, .ref a), (2, .int 0), (3, .int (nI ((j + 1) + 1)))] dX14_hold_40 rfl (nI_add (j + 1) 1) (by decide) rfl rfl ?_
        refine x_goto 4 dX14_hold_43 (by decide) ?_
        refine ih (j + 1) false (by omega) (by omega) ?_
        first | exact ⟨fun _ i hi h0 => by rcases Nat.lt_or_ge i j with z | z; exact hI.mp (by first | exact c_13 | exact bi_t c_13) i z h0; rw [show i = j by omega] at h0 ⊢; first | exact absurd c_22 h0 | exact hb9.mp (by first | exact c_31 | exact bi_t c_31), fun _ => rfl⟩ | exact ⟨fun z => (by cases z), fun z => absurd (hb9.mpr (z j (by omega) c_22)) (by first | (rw [c_31]; decide) | (rw [bi_f c_31]; decide))⟩ | exact ⟨fun z => (by cases z), fun z => absurd (hI.mpr (fun i hi => z i (by omega))) (by first | (rw [c_13]; decide) | (rw [bi_f c_13]; decide))⟩
      · have c_13 := bi_t c_13
        have r9 := rmI_t rI (j := j) (by omega)
        refine x_aload_n dX14_hold_16 rfl ?_
        refine x_get lf_X14_169 dX14_hold_17 rc9.1 rfl ?_
        refine x_iload_n dX14_hold_20 rfl ?_
        refine x_ialdN (j := j + 1) rc9.2.1 rfl (by omega) (by decide) dX14_hold_21 ?_
        refine x_top (y := v.2.1 j 0) r9.1 ?_
        refine x_if_eq 34 dX14_hold_22 (by decide) (fun c_22 => ?_) (fun c_22 => ?_)
        · refine x_iconst (v := 1) dX14_hold_34 (by decide) ?_
          refine x_goto 39 dX14_hold_35 (by decide) ?_
          refine x_istore_n [(0, .ref 205), (1, .ref a), (2, .int 1), (3, .int (nI (j + 1)))] dX14_hold_39 (by decide) rfl rfl ?_
          refine x_iinc (v := nI ((j + 1) + 1)) [(0, .ref 205), (1, .ref a), (2, .int 1), (3, .int (nI ((j + 1) + 1)))] dX14_hold_40 rfl (nI_add (j + 1) 1) (by decide) rfl rfl ?_
          refine x_goto 4 dX14_hold_43 (by decide) ?_
          refine ih (j + 1) true (by omega) (by omega) ?_
          first | exact ⟨fun _ i hi h0 => by rcases Nat.lt_or_ge i j with z | z; exact hI.mp (by first | exact c_13 | exact bi_t c_13) i z h0; rw [show i = j by omega] at h0 ⊢; first | exact absurd c_22 h0 | exact hb9.mp (by first | exact c_31 | exact bi_t c_31), fun _ => rfl⟩ | exact ⟨fun z => (by cases z), fun z => absurd (hb9.mpr (z j (by omega) c_22)) (by first | (rw [c_31]; decide) | (rw [bi_f c_31]; decide))⟩ | exact ⟨fun z => (by cases z), fun z => absurd (hI.mpr (fun i hi => z i (by omega))) (by first | (rw [c_13]; decide) | (rw [bi_f c_13]; decide))⟩
        · refine x_aload_n dX14_hold_25 rfl ?_
          refine x_aload_n dX14_hold_26 rfl ?_
          refine x_iload_n dX14_hold_27 rfl ?_
          refine x_callV (As := [.ref a, .int (nI (j + 1))]) (st := []) lv_X14_280 (k_X14_holds M hgv hn hθ rv hv hs (by omega) (hb j (by omega))) dX14_hold_28 M.o rfl rfl (Nat.le_of_ble_eq_true rfl) ⟨by decide, by decide⟩ ⟨by decide, by decide⟩ (fun v9 h9 z => ?_) (fun _ _ _ _ _ z => by obtain ⟨_, z, _⟩ := z; cases z)
          obtain ⟨b9, ev, eh, hb9⟩ := z
          rw [eh]
          cases ev
          refine x_if_eq 38 dX14_hold_31 (by decide) (fun c_31 => ?_) (fun c_31 => ?_)
          · have c_31 := bi_f c_31
            refine x_iconst (v := 0) dX14_hold_38 (by decide) ?_
            refine x_istore_n [(0, .ref 205), (1, .ref a), (2, .int 0), (3, .int (nI (j + 1)))] dX14_hold_39 (by decide) rfl rfl ?_
            refine x_iinc (v := nI ((j + 1) + 1)) [(0, .ref 205), (1, .ref a), (2, .int 0), (3, .int (nI ((j + 1) + 1)))] dX14_hold_40 rfl (nI_add (j + 1) 1) (by decide) rfl rfl ?_
            refine x_goto 4 dX14_hold_43 (by decide) ?_
            refine ih (j + 1) false (by omega) (by omega) ?_
            first | exact ⟨fun _ i hi h0 => by rcases Nat.lt_or_ge i j with z | z; exact hI.mp (by first | exact c_13 | exact bi_t c_13) i z h0; rw [show i = j by omega] at h0 ⊢; first | exact absurd c_22 h0 | exact hb9.mp (by first | exact c_31 | exact bi_t c_31), fun _ => rfl⟩ | exact ⟨fun z => (by cases z), fun z => absurd (hb9.mpr (z j (by omega) c_22)) (by first | (rw [c_31]; decide) | (rw [bi_f c_31]; decide))⟩ | exact ⟨fun z => (by cases z), fun z => absurd (hI.mpr (fun i hi => z i (by omega))) (by first | (rw [c_13]; decide) | (rw [bi_f c_13]; decide))⟩
          · have c_31 := bi_t c_31
            refine x_iconst (v := 1) dX14_hold_34 (by decide) ?_
            refine x_goto 39 dX14_hold_35 (by decide) ?_
            refine x_istore_n [(0, .ref 205), (1, .ref a), (2, .int 1), (3, .int (nI (j + 1)))] dX14_hold_39 (by decide) rfl rfl ?_
            refine x_iinc (v := nI ((j + 1) + 1)) [(0, .ref 205), (1, .ref a), (2, .int 1), (3, .int (nI ((j + 1) + 1)))] dX14_hold_40 rfl (nI_add (j + 1) 1) (by decide) rfl rfl ?_
            refine x_goto 4 dX14_hold_43 (by decide) ?_
            refine ih (j + 1) true (by omega) (by omega) ?_
            first | exact ⟨fun _ i hi h0 => by rcases Nat.lt_or_ge i j with z | z; exact hI.mp (by first | exact c_13 | exact bi_t c_13) i z h0; rw [show i = j by omega] at h0 ⊢; first | exact absurd c_22 h0 | exact hb9.mp (by first | exact c_31 | exact bi_t c_31), fun _ => rfl⟩ | exact ⟨fun z => (by cases z), fun z => absurd (hb9.mpr (z j (by omega) c_22)) (by first | (rw [c_31]; decide) | (rw [bi_f c_31]; decide))⟩ | exact ⟨fun z => (by cases z), fun z => absurd (hI.mpr (fun i hi => z i (by omega))) (by first | (rw [c_13]; decide) | (rw [bi_f c_13]; decide))⟩
set_option maxRecDepth 100000 in
set_option maxHeartbeats 4000000 in
theorem k_X14_hold {G : xG} {h : xHp} {g : Nat → Int32} {w : Int64} {nw : Value} {ar : Nat → Nat → Int32} {tw : Nat → Int64} {kw : Nat → Int64} {rf : Nat → Option Nat} (M : MH h g w nw ar tw kw rf) {nt : Nat} {θ : Nat → Option Nat} (hgv : ∀ s, s < 3 → ar 220 s = enT (θ s)) (hn : nt ≤ 10) (hθ : okTh nt θ) {a : Nat} {v : RV} (rv : rmV h a v) (hv : okRl nt v) {s : Nat → Option Nat} (hs : stO (ar 219) s) (hb : ∀ j, j < v.2.2.1 → ∀ s, s < 3 → sgIn (v.2.1 j) s → θ s ≠ none) : MX G mX14_hold 4 0 0 [.ref 205, .ref a] h (xAsk (∀ j, j < v.2.2.1 → ¬ v.2.1 j 0 = 0 → tmH (v.2.1 j) θ s) h) := by
  refine MX.of [(0, .ref 205), (1, .ref a)] (by decide) rfl (Nat.le_of_ble_eq_true rfl) rfl ?_
  refine x_iconst (v := 1) dX14_hold_0 (by decide) ?_
  refine x_istore_n [(0, .ref 205), (1, .ref a), (2, .int 1)] dX14_hold_1 (by decide) rfl rfl ?_
  refine x_iconst (v := 1) dX14_hold_2 (by decide) ?_
  refine x_istore_n [(0, .ref 205), (1, .ref a), (2, .int 1), (3, .int 1)] dX14_hold_3 (by decide) rfl rfl ?_
  exact l_X14_hold M hgv hn hθ rv hv hs hb (v.2.2.1 + 1) 0 true (by omega) (by omega) ⟨fun _ i hi => absurd hi (by omega), fun _ => rfl⟩
