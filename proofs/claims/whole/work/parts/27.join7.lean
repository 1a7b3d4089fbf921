/-! RuleCourt$Join: bindHead, reach, reachFor, seekLeast, leastNumberOf -/
theorem bdP_ok2 {nt : Nat} {a : Int32} {x : Nat} {θ : Nat → Option Nat} (hx : ¬ a < 100 → x < nt) (h : okTh nt θ) : okTh nt (bdP a x θ).2 := by
  by_cases e : a < 100
  · rw [bdP_th e]; exact h
  · exact bdP_ok (hx e) h
theorem bhP_ok {nt : Nat} {v : RV} {n : Nat} {θ : Nat → Option Nat} (h2 : ¬ v.1 2 < 100 → n / 10 % 10 < nt) (h3 : ¬ v.1 3 < 100 → n % 10 < nt) (h : okTh nt θ) : okTh nt (bhP v n θ).2 := by
  unfold bhP
  split
  · exact bdP_ok2 h3 (bdP_ok2 h2 h)
  · exact bdP_ok2 h2 h
theorem xfr_md {h h' : xHp} {md : Nat} {b : Bool} {f g c : Nat → Int32} {clk : Int32} (h1 : mdAt h md (md + 1) (md + 2) (md + 3) b f g c clk) (h2 : mdAt h' md (md + 1) (md + 2) (md + 3) b f g c clk) (hf : xfr h h' (jL md)) : xfr h h' [187, 188, 189] := by
  refine ⟨hf.1, fun q hq => ?_⟩
  by_cases e : q ∈ jL md
  · simp only [jL, List.mem_cons, List.not_mem_nil, or_false, not_or] at e hq
    rcases e with e | e | e | e | e | e | e
    · exact absurd e hq.1
    · exact absurd e hq.2.1
    · exact absurd e hq.2.2
    · rw [e, h1.1, h2.1]
    · rw [e, h1.2.1, h2.2.1]
    · rw [e, h1.2.2.1, h2.2.2.1]
    · rw [e, h1.2.2.2, h2.2.2.2]
  · exact hf.2 q e
theorem md_keep {h' : xHp} {md rl aim : Nat} {cs : Bool} {wt : Int32} {θ : Nat → Option Nat} {v : RV} {nt n i : Nat} {high want : Int32} {τ : Nat → Option Nat} {σ : JS} (h0 : aim ≠ 0) (hJ : jnAt h' md rl cs aim wt θ (wkP v nt cs aim want n i high τ σ)) : mdAt h' md (md + 1) (md + 2) (md + 3) cs σ.1 σ.2.1 σ.2.2.1 σ.2.2.2.1 := by
  obtain ⟨e1, e2, e3, e4⟩ := wkP_keep (v := v) (nt := nt) (cs := cs) (want := want) h0 n i high τ σ
  have h9 := hJ.2.2.2
  rw [e1, e2, e3, e4] at h9
  exact h9
set_option maxRecDepth 100000 in
set_option maxHeartbeats 4000000 in
theorem k_X2_bindHead {G : xG} {h : xHp} {md rl aim nt : Nat} {cs : Bool} {wt : Int32} {θ : Nat → Option Nat} {σ : JS} (hJ : jnAt h md rl cs aim wt θ σ) {rc n : Nat} {fc : Int32} {v : RV} (hT : jnSt h rl rc fc nt v) (hm : okMd md) (hr : okRa rl) (hv : okRl nt v) (hn : nt ≤ 10) (hθ : okTh nt θ) (h2 : ¬ v.1 2 < 100 → n / 10 % 10 < nt) (h3 : ¬ v.1 3 < 100 → n % 10 < nt) (hn1 : n < 1000) : MX G mX2_bindHead 2 0 0 [.ref 187, .int (nI n)] h (bd_Q md rl cs aim wt (bhP v n θ) σ h) := by
  refine MX.of [(0, .ref 187), (1, .int (nI n))] (by decide) rfl (Nat.le_of_ble_eq_true rfl) rfl ?_
  refine x_aload_n dX2_bindHead_0 rfl ?_
  refine x_aload_n dX2_bindHead_1 rfl ?_
  refine x_get lf_X2_69 dX2_bindHead_2 hJ.1 rfl ?_
  refine x_get lf_X2_38 dX2_bindHead_5 hT.2.2.1 rfl ?_
  refine x_get lf_X2_82 dX2_bindHead_8 hT.2.2.2.1 rfl ?_
  refine x_iload_n dX2_bindHead_11 rfl ?_
  refine x_bipush (v := 10) dX2_bindHead_12 (by decide) ?_
  refine x_idiv dX2_bindHead_14 (by decide) ?_
  refine x_top (y := nI (n / 10)) (pk_div (a := n) (d := 10) (by omega) (by omega) (by omega)) ?_
  refine x_bipush (v := 10) dX2_bindHead_15 (by decide) ?_
  refine x_irem dX2_bindHead_17 (by decide) ?_
  refine x_top (y := nI ((n / 10) % 10)) (pk_rem (a := n / 10) (d := 10) (by omega) (by omega) (by omega)) ?_
  refine x_callV (As := [.int (v.1 2), .int (nI (n / 10 % 10))]) (st := []) lv_X2_85 (k_X2_bind hJ hv.2.2.2.1 (by omega) hn hθ hm) dX2_bindHead_18 hJ.1 rfl rfl (Nat.le_of_ble_eq_true rfl) ⟨by decide, by decide⟩ ⟨by decide, by decide⟩ (fun v9 h1 q => ?_) (fun _ _ _ _ _ q => by cases q.1)
  obtain ⟨ev, hJ1, hf1⟩ := q
  cases ev
  have hT1 := hT.kept (hf1.wd (L' := jL md) (fun q hq => by simp only [jL, List.mem_cons, List.not_mem_nil, or_false] at hq ⊢; omega)) hm hr
  refine x_if_eq 49 dX2_bindHead_21 (by decide) (fun c_21 => ?_) (fun c_21 => ?_)
  · have c_21 := bi_f c_21
    refine x_iconst (v := 0) dX2_bindHead_49 (by decide) ?_
    exact x_iret dX2_bindHead_50 rfl rfl (Nat.le_refl _) (Nat.le_refl _) (by rw [bhP, if_neg (by rw [c_21]; decide)]; exact ⟨rfl, hJ1, hf1⟩)
  · have c_21 := bi_t c_21
    refine x_aload_n dX2_bindHead_24 rfl ?_
    refine x_aload_n dX2_bindHead_25 rfl ?_
    refine x_get lf_X2_69 dX2_bindHead_26 hJ1.1 rfl ?_
    refine x_get lf_X2_38 dX2_bindHead_29 hT1.2.2.1 rfl ?_
    refine x_get lf_X2_89 dX2_bindHead_32 hT1.2.2.2.1 rfl ?_
    refine x_iload_n dX2_bindHead_35 rfl ?_
    refine x_bipush (v := 10) dX2_bindHead_36 (by decide) ?_
    refine x_irem dX2_bindHead_38 (by decide) ?_
    refine x_top (y := nI (n % 10)) (pk_rem (a := n) (d := 10) (by omega) (by omega) (by omega)) ?_
    refine x_callV (As := [.int (v.1 3), .int (nI (n % 10))]) (st := []) lv_X2_85 (k_X2_bind hJ1 hv.2.2.2.2.1 (by omega) hn (bdP_ok2 h2 hθ) hm) dX2_bindHead_39 hJ1.1 rfl rfl (Nat.le_of_ble_eq_true rfl) ⟨by decide, by decide⟩ ⟨by decide, by decide⟩ (fun v9 h2 q => ?_) (fun _ _ _ _ _ q => by cases q.1)
    obtain ⟨ev, hJ2, hf2⟩ := q
    cases ev
    refine x_if_eq 49 dX2_bindHead_42 (by decide) (fun c_42 => ?_) (fun c_42 => ?_)
    · have c_42 := bi_f c_42
      refine x_iconst (v := 0) dX2_bindHead_49 (by decide) ?_
      exact x_iret dX2_bindHead_50 rfl rfl (Nat.le_refl _) (Nat.le_refl _) (by rw [bhP, if_pos c_21]; exact ⟨by rw [c_42]; rfl, hJ2, hf1.tr hf2⟩)
    · have c_42 := bi_t c_42
      refine x_iconst (v := 1) dX2_bindHead_45 (by decide) ?_
      refine x_goto 50 dX2_bindHead_46 (by decide) ?_
      exact x_iret dX2_bindHead_50 rfl rfl (Nat.le_refl _) (Nat.le_refl _) (by rw [bhP, if_pos c_21]; exact ⟨by rw [c_42]; rfl, hJ2, hf1.tr hf2⟩)
set_option maxRecDepth 100000 in
set_option maxHeartbeats 4000000 in
theorem k_X2_reach {G : xG} {h : xHp} {md rl nt : Nat} {cs : Bool} {clk : Int32} {f g c : Nat → Int32} (hI : jnI h) (hM : mdAt h md (md + 1) (md + 2) (md + 3) cs f g c clk) {rc : Nat} {fc : Int32} {v : RV} (hT : jnSt h rl rc fc nt v) (hm : okMd md) (hr : okRa rl) (hv : okRl nt v) (hn : nt ≤ 10) (hw : wfR f) : MX G mX2_reach 14 0 0 [.ref 187, .ref md, .ref rl] h (fun o h' => ∃ (wt0 : Int32) (θ0 lθ : Nat → Option Nat), o = .inl (some (.int (wkP v nt cs 1 wt0 v.2.2.1 0 0 (clT θ0) (f, g, c, clk, 0, false, bfP lθ)).2.2.2.2.1)) ∧ jnI h' ∧ mdAt h' md (md + 1) (md + 2) (md + 3) cs f g c clk ∧ xfr h h' [187, 188, 189]) := by
  obtain ⟨m0, r0, aim0, rd0, wt0, en0, θ0, lθ, e1, e2, e3⟩ := hI
  refine MX.of [(0, .ref 187), (1, .ref md), (2, .ref rl)] (by decide) rfl (Nat.le_of_ble_eq_true rfl) rfl ?_
  refine x_aload_n dX2_reach_0 rfl ?_
  refine x_aload_n dX2_reach_1 rfl ?_
  refine x_aload_n dX2_reach_2 rfl ?_
  refine x_iconst (v := 1) dX2_reach_3 (by decide) ?_
  refine x_callV (As := [.ref md, .ref rl, .int (nI 1)]) (st := []) lv_X2_22 (k_X2_begin (aim := 1) e1 e2 e3 hM hm) dX2_reach_4 e1 rfl rfl (Nat.le_of_ble_eq_true rfl) ⟨by decide, by decide⟩ ⟨by decide, by decide⟩ (fun v9 h1 q => ?_) (fun _ _ _ _ _ q => by cases q.1)
  obtain ⟨ev, hJ1, hf1⟩ := q
  cases ev
  have hf1j := hf1.wd (L' := jL md) (fun q hq => by simp only [jL, List.mem_cons, List.not_mem_nil, or_false] at hq ⊢; omega)
  have hT1 := hT.kept hf1j hm hr
  refine x_aload_n dX2_reach_7 rfl ?_
  refine x_iconst (v := 0) dX2_reach_8 (by decide) ?_
  refine x_iconst (v := 0) dX2_reach_9 (by decide) ?_
  have hv4 := hv.1
  refine x_callV (As := [.int (nI 0), .int 0]) (st := []) lv_X2_26 (k_X2_walk hm hr hv hn (show 1 < 3 by decide) v.2.2.1 0 0 (clT θ0) (f, g, c, clk, 0, false, bfP lθ) _ (by omega) hJ1 hT1 (okTh_cl nt θ0) hw (fun j hj => absurd hj (by omega))) dX2_reach_10 hJ1.1 rfl rfl (Nat.le_of_ble_eq_true rfl) ⟨by show 2 * v.2.2.1 + 4 + 1 ≤ 14; omega, by show 8 + (9 + 11) + 100 * (2 * v.2.2.1 + 4) ≤ 100 * 14; omega⟩ ⟨Nat.le_refl _, Nat.le_refl _⟩ (fun v9 h9 q => ?_) (fun _ _ _ _ _ q => by cases q.1)
  obtain ⟨ev, hJ9, hw9, hf9⟩ := q
  cases ev
  refine x_aload_n dX2_reach_13 rfl ?_
  refine x_get lf_X2_30 dX2_reach_14 hJ9.1 rfl ?_
  have hK9 := md_keep (by decide) hJ9
  exact x_iret dX2_reach_17 rfl rfl (Nat.le_refl _) (Nat.le_refl _) ⟨wt0, θ0, lθ, rfl, hJ9.idle (wkP_least _ _ _ _ _ ⟨lθ, rfl⟩), hK9, xfr_md hM hK9 (hf1j.tr hf9)⟩
