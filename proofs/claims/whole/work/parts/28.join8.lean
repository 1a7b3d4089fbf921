/-! RuleCourt$Join: reachFor, seekLeast, leastNumberOf -/
theorem bdP_keep {a : Int32} {x : Nat} {θ : Nat → Option Nat} {s : Nat} (h : θ s ≠ none) : (bdP a x θ).2 s ≠ none := by
  unfold bdP
  split
  · exact h
  · split
    · simp only [va_up]
      split
      · exact fun q => by cases q
      · exact h
    · exact h
set_option maxRecDepth 100000 in
set_option maxHeartbeats 4000000 in
theorem k_X2_reachFor {G : xG} {h : xHp} {md rl nt : Nat} {cs : Bool} {clk : Int32} {f g c : Nat → Int32} (hI : jnI h) (hM : mdAt h md (md + 1) (md + 2) (md + 3) cs f g c clk) {rc n : Nat} {fc : Int32} {v : RV} (hT : jnSt h rl rc fc nt v) (hm : okMd md) (hr : okRa rl) (hv : okRl nt v) (hn : nt ≤ 10) (hw : wfR f) (h2 : ¬ v.1 2 < 100 → n / 10 % 10 < nt) (h3 : ¬ v.1 3 < 100 → n % 10 < nt) (hn1 : n < 1000) : MX G mX2_reachFor 14 0 0 [.ref 187, .ref md, .ref rl, .int (nI n)] h (fun o h' => ∃ (wt0 : Int32) (θ0 lθ : Nat → Option Nat), o = .inl (some (.int (if (bhP v n (clT θ0)).1 = true then (wkP v nt cs 1 wt0 v.2.2.1 0 0 (bhP v n (clT θ0)).2 (f, g, c, clk, 0, false, bfP lθ)).2.2.2.2.1 else -2))) ∧ jnI h' ∧ mdAt h' md (md + 1) (md + 2) (md + 3) cs f g c clk ∧ xfr h h' [187, 188, 189]) := by
  obtain ⟨m0, r0, aim0, rd0, wt0, en0, θ0, lθ, e1, e2, e3⟩ := hI
  refine MX.of [(0, .ref 187), (1, .ref md), (2, .ref rl), (3, .int (nI n))] (by decide) rfl (Nat.le_of_ble_eq_true rfl) rfl ?_
  refine x_aload_n dX2_reachFor_0 rfl ?_
  refine x_aload_n dX2_reachFor_1 rfl ?_
  refine x_aload_n dX2_reachFor_2 rfl ?_
  refine x_iconst (v := 1) dX2_reachFor_3 (by decide) ?_
  refine x_callV (As := [.ref md, .ref rl, .int (nI 1)]) (st := []) lv_X2_22 (k_X2_begin (aim := 1) e1 e2 e3 hM hm) dX2_reachFor_4 e1 rfl rfl (Nat.le_of_ble_eq_true rfl) ⟨by decide, by decide⟩ ⟨by decide, by decide⟩ (fun v9 h1 q => ?_) (fun _ _ _ _ _ q => by cases q.1)
  obtain ⟨ev, hJ1, hf1⟩ := q
  cases ev
  have hf1j := hf1.wd (L' := jL md) (fun q hq => by simp only [jL, List.mem_cons, List.not_mem_nil, or_false] at hq ⊢; omega)
  have hT1 := hT.kept hf1j hm hr
  refine x_aload_n dX2_reachFor_7 rfl ?_
  refine x_iload_n dX2_reachFor_8 rfl ?_
  refine x_callV (As := [.int (nI n)]) (st := []) lv_X2_34 (k_X2_bindHead hJ1 hT1 hm hr hv hn (okTh_cl nt θ0) h2 h3 hn1) dX2_reachFor_9 hJ1.1 rfl rfl (Nat.le_of_ble_eq_true rfl) ⟨by decide, by decide⟩ ⟨by decide, by decide⟩ (fun v9 h5 q => ?_) (fun _ _ _ _ _ q => by cases q.1)
  obtain ⟨ev, hJ5, hf5⟩ := q
  cases ev
  have hf5j := hf5.wd (L' := jL md) (fun q hq => by simp only [jL, List.mem_cons, List.not_mem_nil, or_false] at hq ⊢; omega)
  have hT5 := hT1.kept hf5j hm hr
  refine x_if_ne 18 dX2_reachFor_12 (by decide) (fun c_12 => ?_) (fun c_12 => ?_)
  · have c_12 := bi_t c_12
    refine x_aload_n dX2_reachFor_18 rfl ?_
    refine x_iconst (v := 0) dX2_reachFor_19 (by decide) ?_
    refine x_iconst (v := 0) dX2_reachFor_20 (by decide) ?_
    have hv4 := hv.1
    refine x_callV (As := [.int (nI 0), .int 0]) (st := []) lv_X2_26 (k_X2_walk hm hr hv hn (show 1 < 3 by decide) v.2.2.1 0 0 (bhP v n (clT θ0)).2 (f, g, c, clk, 0, false, bfP lθ) _ (by omega) hJ5 hT5 (bhP_ok h2 h3 (okTh_cl nt θ0)) hw (fun j hj => absurd hj (by omega))) dX2_reachFor_21 hJ5.1 rfl rfl (Nat.le_of_ble_eq_true rfl) ⟨by show 2 * v.2.2.1 + 4 + 1 ≤ 14; omega, by show 8 + (9 + 11) + 100 * (2 * v.2.2.1 + 4) ≤ 100 * 14; omega⟩ ⟨Nat.le_refl _, Nat.le_refl _⟩ (fun v9 h9 q => ?_) (fun _ _ _ _ _ q => by cases q.1)
    obtain ⟨ev, hJ9, hw9, hf9⟩ := q
    cases ev
    refine x_aload_n dX2_reachFor_24 rfl ?_
    refine x_get lf_X2_30 dX2_reachFor_25 hJ9.1 rfl ?_
    have hK9 := md_keep (by decide) hJ9
    exact x_iret dX2_reachFor_28 rfl rfl (Nat.le_refl _) (Nat.le_refl _) ⟨wt0, θ0, lθ, by rw [if_pos c_12], hJ9.idle (wkP_least _ _ _ _ _ ⟨lθ, rfl⟩), hK9, xfr_md hM hK9 ((hf1j.tr hf5j).tr hf9)⟩
  · have c_12 := bi_f c_12
    refine x_bipush (v := (-2)) dX2_reachFor_15 (by decide) ?_
    exact x_iret dX2_reachFor_17 rfl rfl (Nat.le_refl _) (Nat.le_refl _) ⟨wt0, θ0, lθ, by rw [if_neg (by rw [c_12]; decide)], hJ5.idle ⟨lθ, rfl⟩, hJ5.2.2.2, xfr_md hM hJ5.2.2.2 (hf1j.tr hf5j)⟩
def sl2_Q (v : RV) (nt : Nat) (cs : Bool) (f g c : Nat → Int32) (clk : Int32) (n md : Nat) (h : xHp) : Option Value ⊕ Nat → xHp → Prop := fun o h' =>
  (¬ (v.1 1).toNatClampNeg = n / 100 ∧ o = .inl (some (.int 0)) ∧ h' = h) ∨
  ((v.1 1).toNatClampNeg = n / 100 ∧ ∃ (θ0 lθ lθ2 : Nat → Option Nat), o = .inl (some (.int (bi (if (bhP v n (clT θ0)).1 = true then (wkP v nt cs 2 (g n - 1) v.2.2.1 0 0 (bhP v n (clT θ0)).2 (f, g, c, clk, 0, false, bfP lθ)).2.2.2.2.2.1 else false)))) ∧
    (if (bhP v n (clT θ0)).1 = true then (wkP v nt cs 2 (g n - 1) v.2.2.1 0 0 (bhP v n (clT θ0)).2 (f, g, c, clk, 0, false, bfP lθ)).2.2.2.2.2.2 else bfP lθ) = bfP lθ2 ∧ jnI h' ∧ h'.1 189 = some (.inl (0, 3, .inl (bfP lθ2))) ∧ mdAt h' md (md + 1) (md + 2) (md + 3) cs f g c clk ∧ xfr h h' [187, 188, 189])
set_option maxRecDepth 100000 in
set_option maxHeartbeats 4000000 in
theorem k_X2_seekLeast {G : xG} {h : xHp} {md rl nt : Nat} {cs : Bool} {clk : Int32} {f g c : Nat → Int32} (hI : jnI h) (hM : mdAt h md (md + 1) (md + 2) (md + 3) cs f g c clk) {rc n : Nat} {fc : Int32} {v : RV} (hT : jnSt h rl rc fc nt v) (hm : okMd md) (hr : okRa rl) (hv : okRl nt v) (hn : nt ≤ 10) (hw : wfR f) (h2 : ¬ v.1 2 < 100 → n / 10 % 10 < nt) (h3 : ¬ v.1 3 < 100 → n % 10 < nt) (hn1 : n < 1000) : MX G mX2_seekLeast 14 0 0 [.ref 187, .ref md, .ref rl, .int (nI n)] h (sl2_Q v nt cs f g c clk n md h) := by
  obtain ⟨m0, r0, aim0, rd0, wt0, en0, θ0, lθ, e1, e2, e3⟩ := hI
  refine MX.of [(0, .ref 187), (1, .ref md), (2, .ref rl), (3, .int (nI n))] (by decide) rfl (Nat.le_of_ble_eq_true rfl) rfl ?_
  refine x_aload_n dX2_seekLeast_0 rfl ?_
  have hkk := hv.2.2.1.2
  refine x_get lf_X2_38 dX2_seekLeast_1 hT.2.2.1 rfl ?_
  refine x_get lf_X2_44 dX2_seekLeast_4 hT.2.2.2.1 rfl ?_
  refine x_top (y := nI ((v.1 1).toNatClampNeg)) hv.2.2.1.1 ?_
  refine x_iload_n dX2_seekLeast_7 rfl ?_
  refine x_bipush (v := 100) dX2_seekLeast_8 (by decide) ?_
  refine x_idiv dX2_seekLeast_10 (by decide) ?_
  refine x_top (y := nI (n / 100)) (pk_div (a := n) (d := 100) (by omega) (by omega) (by omega)) ?_
  refine x_icmp_eq 16 dX2_seekLeast_11 (by decide) (fun c_11 => ?_) (fun c_11 => ?_)
  · rw [nI_eq (by omega) (by omega)] at c_11
    refine x_aload_n dX2_seekLeast_16 rfl ?_
    refine x_aload_n dX2_seekLeast_17 rfl ?_
    refine x_aload_n dX2_seekLeast_18 rfl ?_
    refine x_iconst (v := 2) dX2_seekLeast_19 (by decide) ?_
    refine x_callV (As := [.ref md, .ref rl, .int (nI 2)]) (st := []) lv_X2_22 (k_X2_begin (aim := 2) e1 e2 e3 hM hm) dX2_seekLeast_20 e1 rfl rfl (Nat.le_of_ble_eq_true rfl) ⟨by decide, by decide⟩ ⟨by decide, by decide⟩ (fun v9 h1 q => ?_) (fun _ _ _ _ _ q => by cases q.1)
    obtain ⟨ev, hJ1, hf1⟩ := q
    cases ev
    have hf1j := hf1.wd (L' := jL md) (fun q hq => by simp only [jL, List.mem_cons, List.not_mem_nil, or_false] at hq ⊢; omega)
    have hT1 := hT.kept hf1j hm hr
    refine x_aload_n dX2_seekLeast_23 rfl ?_
    refine x_aload_n dX2_seekLeast_24 rfl ?_
    refine x_get lf_X2_49 dX2_seekLeast_25 hJ1.2.2.2.1 rfl ?_
    refine x_iload_n dX2_seekLeast_28 rfl ?_
    refine x_ialdN (j := n) hJ1.2.2.2.2.2.1 rfl (by omega) (by decide) dX2_seekLeast_29 ?_
    refine x_iconst (v := 1) dX2_seekLeast_30 (by decide) ?_
    refine x_isub dX2_seekLeast_31 ?_
    refine x_put [.ref 3, .ref md, .ref rl, .int (nI 2), .ref 188, .int 0, .int (bi false), .int ((g n) - 1), .ref 189] lf_X2_54 dX2_seekLeast_32 hJ1.1 (Nat.le_of_ble_eq_true rfl) rfl rfl rfl ?_
    refine x_aload_n dX2_seekLeast_35 rfl ?_
    refine x_iload_n dX2_seekLeast_36 rfl ?_
    have hJ2 : jnAt (xup h1 187 (.inr (2, [.ref 3, .ref md, .ref rl, .int (nI 2), .ref 188, .int 0, .int (bi false), .int ((g n) - 1), .ref 189]))) md rl cs 2 (g n - 1) (clT θ0) (f, g, c, clk, 0, false, bfP lθ) := ⟨xup_self _ _ _, (xup_ne (by decide)).trans hJ1.2.1, (xup_ne (by decide)).trans hJ1.2.2.1, (xup_ne (by unfold okMd at hm; omega)).trans hJ1.2.2.2.1, (xup_ne (by unfold okMd at hm; omega)).trans hJ1.2.2.2.2.1, (xup_ne (by unfold okMd at hm; omega)).trans hJ1.2.2.2.2.2.1, (xup_ne (by unfold okMd at hm; omega)).trans hJ1.2.2.2.2.2.2⟩
    have hf2j : xfr h1 (xup h1 187 (.inr (2, [.ref 3, .ref md, .ref rl, .int (nI 2), .ref 188, .int 0, .int (bi false), .int ((g n) - 1), .ref 189]))) (jL md) := (xfr_rf _ _).up (by simp [jL])
    have hT2 := hT1.kept hf2j hm hr
    refine x_callV (As := [.int (nI n)]) (st := []) lv_X2_34 (k_X2_bindHead hJ2 hT2 hm hr hv hn (okTh_cl nt θ0) h2 h3 hn1) dX2_seekLeast_37 hJ2.1 rfl rfl (Nat.le_of_ble_eq_true rfl) ⟨by decide, by decide⟩ ⟨by decide, by decide⟩ (fun v9 h5 q => ?_) (fun _ _ _ _ _ q => by cases q.1)
    obtain ⟨ev, hJ5, hf5⟩ := q
    cases ev
    have hf5j := hf5.wd (L' := jL md) (fun q hq => by simp only [jL, List.mem_cons, List.not_mem_nil, or_false] at hq ⊢; omega)
    have hT5 := hT2.kept hf5j hm hr
    refine x_if_eq 49 dX2_seekLeast_40 (by decide) (fun c_40 => ?_) (fun c_40 => ?_)
    · have c_40 := bi_f c_40
      refine x_aload_n dX2_seekLeast_49 rfl ?_
      refine x_get lf_X2_57 dX2_seekLeast_50 hJ5.1 rfl ?_
      exact x_iret dX2_seekLeast_53 rfl (bi_nar _) (Nat.le_refl _) (Nat.le_refl _) (Or.inr ⟨c_11, θ0, lθ, lθ, by rw [if_neg (by rw [c_40]; decide)], by rw [if_neg (by rw [c_40]; decide)], hJ5.idle ⟨lθ, rfl⟩, hJ5.2.2.1, hJ5.2.2.2, xfr_md hM hJ5.2.2.2 ((hf1j.tr hf2j).tr hf5j)⟩)
    · have c_40 := bi_t c_40
      refine x_aload_n dX2_seekLeast_43 rfl ?_
      refine x_iconst (v := 0) dX2_seekLeast_44 (by decide) ?_
      refine x_iconst (v := 0) dX2_seekLeast_45 (by decide) ?_
      have hv4 := hv.1
      refine x_callV (As := [.int (nI 0), .int 0]) (st := []) lv_X2_26 (k_X2_walk hm hr hv hn (show 2 < 3 by decide) v.2.2.1 0 0 (bhP v n (clT θ0)).2 (f, g, c, clk, 0, false, bfP lθ) _ (by omega) hJ5 hT5 (bhP_ok h2 h3 (okTh_cl nt θ0)) hw (fun j hj => absurd hj (by omega))) dX2_seekLeast_46 hJ5.1 rfl rfl (Nat.le_of_ble_eq_true rfl) ⟨by show 2 * v.2.2.1 + 4 + 1 ≤ 14; omega, by show 8 + (9 + 11) + 100 * (2 * v.2.2.1 + 4) ≤ 100 * 14; omega⟩ ⟨Nat.le_refl _, Nat.le_refl _⟩ (fun v9 h9 q => ?_) (fun _ _ _ _ _ q => by cases q.1)
      obtain ⟨ev, hJ9, hw9, hf9⟩ := q
      cases ev
      refine x_aload_n dX2_seekLeast_49 rfl ?_
      refine x_get lf_X2_57 dX2_seekLeast_50 hJ9.1 rfl ?_
      have hK9 := md_keep (by decide) hJ9
      obtain ⟨lθ2, e9⟩ := wkP_least (v := v) (nt := nt) (cs := cs) (aim := 2) (want := g n - 1) v.2.2.1 0 0 (bhP v n (clT θ0)).2 (f, g, c, clk, 0, false, bfP lθ) ⟨lθ, rfl⟩
      exact x_iret dX2_seekLeast_53 rfl (bi_nar _) (Nat.le_refl _) (Nat.le_refl _) (Or.inr ⟨c_11, θ0, lθ, lθ2, by rw [if_pos c_40], by rw [if_pos c_40]; exact e9, hJ9.idle ⟨lθ2, e9⟩, by rw [← e9]; exact hJ9.2.2.1, hK9, xfr_md hM hK9 (((hf1j.tr hf2j).tr hf5j).tr hf9)⟩)
  · rw [nI_eq (by omega) (by omega)] at c_11
    refine x_iconst (v := 0) dX2_seekLeast_14 (by decide) ?_
    exact x_iret dX2_seekLeast_15 rfl rfl (Nat.le_refl _) (Nat.le_refl _) (Or.inl ⟨c_11, rfl, rfl⟩)
set_option maxRecDepth 100000 in
set_option maxHeartbeats 4000000 in
theorem k_X2_leastNumberOf {G : xG} {h : xHp} {m0 r0 : Value} {aim0 rd0 wt0 : Int32} {en0 : Bool} {b nt : Nat} {t : Nat → Int32} {lθ : Nat → Option Nat} (h1 : h.1 187 = some (.inr (2, [.ref 3, m0, r0, .int aim0, .ref 188, .int rd0, .int (bi en0), .int wt0, .ref 189]))) (hc : h.1 189 = some (.inl (0, 3, .inl (bfP lθ)))) (ht : h.1 b = some (tC t)) (h2 : okA nt (t 2)) (h3 : okA nt (t 3)) (hk : t 1 = nI (t 1).toNatClampNeg ∧ (t 1).toNatClampNeg < 10) (hn : nt ≤ 10) (hθ : okTh nt lθ) (hb2 : ∀ s, s < 3 → t 2 = nI (100 + s) → lθ s ≠ none) (hb3 : ∀ s, s < 3 → t 3 = nI (100 + s) → lθ s ≠ none) : MX G mX2_leastNumberOf 3 0 0 [.ref 187, .ref b] h (xAns (.int (nI (nmP t lθ))) h) := by
  refine MX.of [(0, .ref 187), (1, .ref b)] (by decide) rfl (Nat.le_of_ble_eq_true rfl) rfl ?_
  refine x_aload_n dX2_leastNumberOf_0 rfl ?_
  refine x_aload_n dX2_leastNumberOf_1 rfl ?_
  refine x_get lf_X2_15 dX2_leastNumberOf_2 h1 rfl ?_
  refine x_callS (As := [.ref b, .ref 189]) (st := []) ls_X2_61 (k_X2_numberOf hc ht h2 h3 hk hn hθ hb2 hb3) dX2_leastNumberOf_5 rfl rfl (Nat.le_of_ble_eq_true rfl) ⟨by decide, by decide⟩ ⟨by decide, by decide⟩ (fun v h1 q => ?_) (fun _ _ _ _ _ q => by cases q.1)
  obtain ⟨ev, eh⟩ := q
  rw [eh]
  cases ev
  exact x_iret dX2_leastNumberOf_8 rfl rfl (Nat.le_refl _) (Nat.le_refl _) ⟨rfl, rfl⟩
