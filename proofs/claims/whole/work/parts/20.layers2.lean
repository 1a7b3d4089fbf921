/-! Layers.settle -/
theorem rlV_up {h : xHp} {a q n : Nat} {v : RV} {g : Nat → Int32} {c : xCel} (hr : rlV h a v) (hq : h.1 q = some (.inl (0, n, .inl g))) (hn : n ≠ 3) : rlV (xup h q c) a v := by
  obtain ⟨h1, h2, h3, h4, h5⟩ := hr
  refine ⟨(xup_ne (xne_oa h1 hq)).trans h1, (xup_ne (xne_oa h2 hq)).trans h2, (xup_ne (xne_of h3 hq (fun e => by cases e))).trans h3, (xup_ne (xne_of h4 hq (fun e => ?_))).trans h4, fun i hi => (xup_ne (xne_oa (h5 i hi) hq)).trans (h5 i hi)⟩
  injection e with e
  injection e with e1 e2
  injection e2 with e3 e4
  exact hn e3.symm
def sl_Q (V : Nat → RV) (n ofs : Nat) (h : xHp) : Option Value ⊕ Nat → xHp → Prop := fun o h' => ∃ (b : Bool) (lf' : Nat → Int32) (L' : Nat → Nat), o = .inl (some (.int (bi b))) ∧ h' = xup h ofs (.inl (0, 10, .inl lf')) ∧ (∀ k, k < 10 → lf' k = nI (L' k)) ∧ (∀ k, L' k ≤ 9) ∧ (b = true → Sat V n L' ∧ ∀ S, Sat V n S → ∀ k, k < 10 → L' k ≤ S k) ∧ (b = false → ¬ ∃ S, Sat V n S)
theorem sum_up {L : Nat → Nat} {i x : Nat} (hi : i < 10) (hx : L i < x) : fb_sm L 10 + 1 ≤ fb_sm (fun k => if k = i then x else L k) 10 := by
  have := fb_sm_upd L x hi
  omega
theorem upd_L {lf : Nat → Int32} {L : Nat → Nat} {i x : Nat} (h : ∀ k, k < 10 → lf k = nI (L k)) : ∀ k, k < 10 → upd lf i (nI x) k = nI (if k = i then x else L k) := by
  intro k hk
  simp only [upd]
  split
  · rfl
  · exact h k hk
set_option maxRecDepth 100000 in
set_option maxHeartbeats 4000000 in
theorem l_X4_settle {G : xG} {h : xHp} {l ofs rs n : Nat} {ra : Nat → Nat} {V : Nat → RV} {lf0 : Nat → Int32} (hl : h.1 l = some (.inr (4, [.ref ofs]))) (ho : h.1 ofs = some (.inl (0, 10, .inl lf0))) (hrs : rsAt h rs ra V) (hn : n ≤ 20) (hV : ∀ r, r < n → okK (V r)) {j s0 : Nat} (hcont : (∀ (lf' : Nat → Int32) (L' : Nat → Nat) (b' : Bool), (∀ k, k < 10 → lf' k = nI (L' k)) → lyInv V n L' → (b' = true → s0 + 1 ≤ fb_sm L' 10) → (b' = false → Sat V n L') → Wx G mX4_settle (xRm 2 0 0) (xF G (sl_Q V n ofs h) 0 0) 0 0 100 [(0, .ref l), (1, .ref rs), (2, .int (nI n)), (3, .int (nI j)), (4, .int (bi b')), (5, .int (nI n))] [] (xup h ofs (.inl (0, 10, .inl lf'))))) : ∀ (k r : Nat) (lf : Nat → Int32) (L : Nat → Nat) (b : Bool), r ≤ n → n + 1 ≤ r + k → (∀ k, k < 10 → lf k = nI (L k)) → lyInv V n L → (b = true → s0 + 1 ≤ fb_sm L 10) → (b = false → ∀ r', r' < r → lfor (V r') L (V r').2.2.1 ≤ L (rvH (V r'))) → s0 ≤ fb_sm L 10 → Wx G mX4_settle (xRm 2 0 0) (xF G (sl_Q V n ofs h) 0 0) 0 0 22 [(0, .ref l), (1, .ref rs), (2, .int (nI n)), (3, .int (nI j)), (4, .int (bi b)), (5, .int (nI r))] [] (xup h ofs (.inl (0, 10, .inl lf))) := by
  obtain ⟨⟨rf, hrs1, hrf⟩, hrl⟩ := hrs
  intro k
  induction k with
  | zero => exact fun r lf L b h1 h2 => absurd h2 (by omega)
  | succ k ih =>
    intro r lf L b hk hk2 hL hI hb1 hb0 hs0
    refine x_iload dX4_settle_22 rfl ?_
    refine x_iload_n dX4_settle_24 rfl ?_
    refine x_icmp_ge 100 dX4_settle_25 (by decide) (fun c_25 => ?_) (fun c_25 => ?_)
    · rw [nI_leI (by omega) (by omega)] at c_25
      rw [show r = n by omega]
      exact hcont lf L b hL hI hb1 (fun q r hr => hb0 q r (by omega))
    · rw [nI_leI (by omega) (by omega)] at c_25
      refine x_iload dX4_settle_28 rfl ?_
      refine x_aload_n dX4_settle_30 rfl ?_
      refine x_alen ((xup_ne (xne_of hrs1 ho (fun e => by cases e))).trans hrs1) (by decide) dX4_settle_31 ?_
      refine x_icmp_ge 100 dX4_settle_32 (by decide) (fun c_32 => absurd c_32 (nI_ge (show r < 21 by omega) (by decide))) (fun c_32 => ?_)
      refine x_aload_n dX4_settle_35 rfl ?_
      refine x_aload_n dX4_settle_36 rfl ?_
      refine x_iload dX4_settle_37 rfl ?_
      refine x_aaldN (b := ra r) (j := r) ((xup_ne (xne_of hrs1 ho (fun e => by cases e))).trans hrs1) rfl rfl (by omega) (by decide) (hrf r (by omega)) dX4_settle_39 ?_
      refine x_callV (As := [.ref (ra r)]) (st := []) lv_X4_21 (k_X4_leastFor ((xup_ne (xne_oa hl ho)).trans hl) (xup_self _ _ _) (rlV_up (hrl r (by omega)) ho (by decide)) (hV r (by omega)) hL hI.1) dX4_settle_40 ((xup_ne (xne_oa hl ho)).trans hl) rfl rfl (Nat.le_of_ble_eq_true rfl) ⟨by decide, by decide⟩ ⟨by decide, by decide⟩ (fun v h1 q => ?_) (fun _ _ _ _ _ q => by cases q.1)
      obtain ⟨ev, rfl⟩ := q
      cases ev
      have hb := lfor_b (v := V r) hI.1 (V r).2.2.1
      refine x_istore [(0, .ref l), (1, .ref rs), (2, .int (nI n)), (3, .int (nI j)), (4, .int (bi b)), (5, .int (nI r)), (6, .int (nI (lfor (V r) L (V r).2.2.1)))] dX4_settle_43 (by decide) rfl rfl ?_
      refine x_iload dX4_settle_45 rfl ?_
      refine x_bipush (v := 10) dX4_settle_47 (by decide) ?_
      refine x_icmp_lt 54 dX4_settle_49 (by decide) (fun c_49 => ?_) (fun c_49 => ?_)
      · rw [show (10 : Int32) = nI 10 from rfl, nI_ltI (by omega) (by omega)] at c_49
        obtain ⟨hh1, hh2⟩ := (hV r (by omega)).2.1
        refine x_iload dX4_settle_54 rfl ?_
        refine x_aload_n dX4_settle_56 rfl ?_
        refine x_get lf_X4_9 dX4_settle_57 ((xup_ne (xne_oa hl ho)).trans hl) rfl ?_
        refine x_aload_n dX4_settle_60 rfl ?_
        refine x_iload dX4_settle_61 rfl ?_
        refine x_aaldN (b := ra r) (j := r) ((xup_ne (xne_of hrs1 ho (fun e => by cases e))).trans hrs1) rfl rfl (by omega) (by decide) (hrf r (by omega)) dX4_settle_63 ?_
        refine x_get lf_X4_25 dX4_settle_64 ((xup_ne (xne_oa (hrl r (by omega)).1 ho)).trans (hrl r (by omega)).1) rfl ?_
        refine x_get lf_X4_31 dX4_settle_67 ((xup_ne (xne_oa (hrl r (by omega)).2.1 ho)).trans (hrl r (by omega)).2.1) rfl ?_
        refine x_top hh1 ?_
        refine x_ialdN (j := rvH (V r)) (xup_self _ _ _) rfl (by omega) (by decide) dX4_settle_70 ?_
        refine x_top (hL _ hh2) ?_
        have hb3 := hI.1 (rvH (V r))
        refine x_icmp_le 94 dX4_settle_71 (by decide) (fun c_71 => ?_) (fun c_71 => ?_)
        · rw [nI_leI (by omega) (by omega)] at c_71
          refine x_iinc (v := nI (r + 1)) [(0, .ref l), (1, .ref rs), (2, .int (nI n)), (3, .int (nI j)), (4, .int (bi b)), (5, .int (nI (r + 1))), (6, .int (nI (lfor (V r) L (V r).2.2.1)))] dX4_settle_94 rfl (nI_add r 1) (by decide) rfl rfl ?_
          refine x_goto 22 dX4_settle_97 (by decide) ?_
          exact x_ls _ [0, 1, 2, 3, 4, 5] rfl (ih (r + 1) lf L b (by omega) (by omega) hL hI hb1 (fun q => lt_s (hb0 q) c_71) hs0)
        · rw [nI_leI (by omega) (by omega)] at c_71
          refine x_aload_n dX4_settle_74 rfl ?_
          refine x_get lf_X4_9 dX4_settle_75 ((xup_ne (xne_oa hl ho)).trans hl) rfl ?_
          refine x_aload_n dX4_settle_78 rfl ?_
          refine x_iload dX4_settle_79 rfl ?_
          refine x_aaldN (b := ra r) (j := r) ((xup_ne (xne_of hrs1 ho (fun e => by cases e))).trans hrs1) rfl rfl (by omega) (by decide) (hrf r (by omega)) dX4_settle_81 ?_
          refine x_get lf_X4_25 dX4_settle_82 ((xup_ne (xne_oa (hrl r (by omega)).1 ho)).trans (hrl r (by omega)).1) rfl ?_
          refine x_get lf_X4_31 dX4_settle_85 ((xup_ne (xne_oa (hrl r (by omega)).2.1 ho)).trans (hrl r (by omega)).2.1) rfl ?_
          refine x_top hh1 ?_
          refine x_iload dX4_settle_88 rfl ?_
          refine x_iastN (j := rvH (V r)) (xup_self _ _ _) rfl (by omega) (by decide) dX4_settle_90 ?_
          refine x_iconst (v := 1) dX4_settle_91 (by decide) ?_
          refine x_istore [(0, .ref l), (1, .ref rs), (2, .int (nI n)), (3, .int (nI j)), (4, .int 1), (5, .int (nI r)), (6, .int (nI (lfor (V r) L (V r).2.2.1)))] dX4_settle_92 (by decide) rfl rfl ?_
          refine x_iinc (v := nI (r + 1)) [(0, .ref l), (1, .ref rs), (2, .int (nI n)), (3, .int (nI j)), (4, .int 1), (5, .int (nI (r + 1))), (6, .int (nI (lfor (V r) L (V r).2.2.1)))] dX4_settle_94 rfl (nI_add r 1) (by decide) rfl rfl ?_
          refine x_goto 22 dX4_settle_97 (by decide) ?_
          refine x_heap (xup_up _ _ _ _) ?_
          exact x_ls _ [0, 1, 2, 3, 4, 5] rfl (ih (r + 1) _ _ true (by omega) (by omega) (upd_L hL) (lyInv_up hV hI (by omega) (by omega)) (fun _ => Nat.le_trans (Nat.succ_le_succ hs0) (sum_up hh2 (by omega))) (fun q => by cases q) (Nat.le_trans hs0 (Nat.le_of_succ_le (sum_up hh2 (by omega)))))
      · rw [show (10 : Int32) = nI 10 from rfl, nI_ltI (by omega) (by omega)] at c_49
        refine x_iconst (v := 0) dX4_settle_52 (by decide) ?_
        exact x_iret dX4_settle_53 rfl rfl (Nat.le_refl _) (Nat.le_refl _) ⟨false, lf, L, rfl, rfl, hL, hI.1, fun q => (by cases q), fun _ => lyInv_no (r := r) hV hI (by omega) (by omega)⟩
set_option maxRecDepth 100000 in
set_option maxHeartbeats 4000000 in
theorem m_X4_settle {G : xG} {h : xHp} {l ofs rs n : Nat} {ra : Nat → Nat} {V : Nat → RV} {lf0 : Nat → Int32} (hl : h.1 l = some (.inr (4, [.ref ofs]))) (ho : h.1 ofs = some (.inl (0, 10, .inl lf0))) (hrs : rsAt h rs ra V) (hn : n ≤ 20) (hV : ∀ r, r < n → okK (V r)) : ∀ (k j : Nat) (lf : Nat → Int32) (L : Nat → Nat), j ≤ 111 → 112 ≤ j + k → (∀ k, k < 10 → lf k = nI (L k)) → lyInv V n L → j ≤ fb_sm L 10 → Wx G mX4_settle (xRm 2 0 0) (xF G (sl_Q V n ofs h) 0 0) 0 0 10 [(0, .ref l), (1, .ref rs), (2, .int (nI n)), (3, .int (nI j))] [] (xup h ofs (.inl (0, 10, .inl lf))) := by
  intro k
  induction k with
  | zero => exact fun j lf L h1 h2 => absurd h2 (by omega)
  | succ k ih =>
    intro j lf L hk hk2 hL hI hj
    refine x_iload_n dX4_settle_10 rfl ?_
    refine x_bipush (v := 110) dX4_settle_11 (by decide) ?_
    refine x_icmp_gt 113 dX4_settle_13 (by decide) (fun c_13 => ?_) (fun c_13 => ?_)
    · rw [show (110 : Int32) = nI 110 from rfl, nI_ltI (by omega) (by omega)] at c_13
      refine x_iconst (v := 0) dX4_settle_113 (by decide) ?_
      exact absurd (fb_sm_bound (f := L) (c := 9) (n := 10) (fun k _ => hI.1 k)) (by omega)
    · rw [show (110 : Int32) = nI 110 from rfl, nI_ltI (by omega) (by omega)] at c_13
      refine x_iconst (v := 0) dX4_settle_16 (by decide) ?_
      refine x_istore [(0, .ref l), (1, .ref rs), (2, .int (nI n)), (3, .int (nI j)), (4, .int 0)] dX4_settle_17 (by decide) rfl rfl ?_
      refine x_iconst (v := 0) dX4_settle_19 (by decide) ?_
      refine x_istore [(0, .ref l), (1, .ref rs), (2, .int (nI n)), (3, .int (nI j)), (4, .int 0), (5, .int 0)] dX4_settle_20 (by decide) rfl rfl ?_
      refine l_X4_settle hl ho hrs hn hV (s0 := fb_sm L 10) (fun lf L b hL hI hb1 hb0 => ?_) (n + 1) 0 lf L false (by omega) (by omega) hL hI (fun q => by cases q) (fun _ r hr => absurd hr (by omega)) (Nat.le_refl _)
      refine x_iload dX4_settle_100 rfl ?_
      refine x_if_ne 107 dX4_settle_102 (by decide) (fun c_102 => ?_) (fun c_102 => ?_)
      · have c_102 := bi_t c_102
        refine x_iinc (v := nI (j + 1)) [(0, .ref l), (1, .ref rs), (2, .int (nI n)), (3, .int (nI (j + 1))), (4, .int (bi b)), (5, .int (nI n))] dX4_settle_107 rfl (nI_add j 1) (by decide) rfl rfl ?_
        refine x_goto 10 dX4_settle_110 (by decide) ?_
        exact x_ls _ [0, 1, 2, 3] rfl (ih (j + 1) lf L (by omega) (by omega) hL hI (by have := hb1 c_102; omega))
      · have c_102 := bi_f c_102
        refine x_iconst (v := 1) dX4_settle_105 (by decide) ?_
        exact x_iret dX4_settle_106 rfl rfl (Nat.le_refl _) (Nat.le_refl _) ⟨true, lf, L, rfl, rfl, hL, hI.1, fun _ => ⟨hb0 c_102, lyInv_least hV hI (hb0 c_102)⟩, fun q => (by cases q)⟩
set_option maxRecDepth 100000 in
set_option maxHeartbeats 4000000 in
theorem k_X4_settle {G : xG} {h : xHp} {l ofs rs n : Nat} {ra : Nat → Nat} {V : Nat → RV} {lf0 : Nat → Int32} (hl : h.1 l = some (.inr (4, [.ref ofs]))) (ho : h.1 ofs = some (.inl (0, 10, .inl lf0))) (hrs : rsAt h rs ra V) (hn : n ≤ 20) (hV : ∀ r, r < n → okK (V r)) : MX G mX4_settle 2 0 0 [.ref l, .ref rs, .int (nI n)] h (sl_Q V n ofs h) := by
  refine MX.of [(0, .ref l), (1, .ref rs), (2, .int (nI n))] (by decide) rfl (Nat.le_of_ble_eq_true rfl) rfl ?_
  refine x_aload_n dX4_settle_0 rfl ?_
  refine x_get lf_X4_9 dX4_settle_1 hl rfl ?_
  refine x_iconst (v := 0) dX4_settle_4 (by decide) ?_
  refine x_callS (As := [.ref ofs, .int 0]) (st := []) ls_X4_15 (k_fill ho (by decide)) dX4_settle_5 rfl rfl (Nat.le_of_ble_eq_true rfl) ⟨by decide, by decide⟩ ⟨by decide, by decide⟩ (fun v h1 q => ?_) (fun _ _ _ _ _ q => by cases q.1)
  obtain ⟨ev, rfl⟩ := q
  cases ev
  refine x_iconst (v := 0) dX4_settle_8 (by decide) ?_
  refine x_istore_n [(0, .ref l), (1, .ref rs), (2, .int (nI n)), (3, .int 0)] dX4_settle_9 (by decide) rfl rfl ?_
  exact m_X4_settle hl ho hrs hn hV 112 0 _ (fun _ => 0) (by omega) (by omega) (fun k hk => by rw [fa_fill_in hk]; rfl) ⟨fun _ => Nat.zero_le _, fun S _ _ k _ => Nat.zero_le _⟩ (Nat.zero_le _)
