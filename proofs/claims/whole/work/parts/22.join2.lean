/-! RuleCourt$Join: secondsFor, arrive; where its things lie -/
def jnAt (h : xHp) (md rl : Nat) (cs : Bool) (aim : Nat) (wt : Int32) (θ : Nat → Option Nat) (σ : JS) : Prop :=
  h.1 187 = some (jC 3 md rl 188 189 (nI aim) σ.2.2.2.2.1 wt σ.2.2.2.2.2.1) ∧ h.1 188 = some (.inl (0, 3, .inl (bfP θ))) ∧ h.1 189 = some (.inl (0, 3, .inl σ.2.2.2.2.2.2)) ∧ mdAt h md (md + 1) (md + 2) (md + 3) cs σ.1 σ.2.1 σ.2.2.1 σ.2.2.2.1
def jnSt (h : xHp) (rl rc : Nat) (fc : Int32) (nt : Nat) (v : RV) : Prop := h.1 3 = some (bC 4 6 8 9 11 rc 12 fc) ∧ h.1 6 = some (.inr (6, [.ref 7, .int (nI nt)])) ∧ rlV h rl v
def jL (md : Nat) : List Nat := [187, 188, 189, md, md + 1, md + 2, md + 3]
def okMd (md : Nat) : Prop := md = 192 ∨ md = 196
def okRa (rl : Nat) : Prop := ∃ ρ, ρ < 21 ∧ rl = 13 + 8 * ρ
theorem jL_no {md q : Nat} (hm : okMd md) (h : q < 187) : q ∉ jL md := by
  unfold okMd at hm
  simp only [jL, List.mem_cons, List.not_mem_nil, or_false]
  omega
theorem jnSt.kept {h h' : xHp} {md rl rc nt : Nat} {fc : Int32} {v : RV} (hs : jnSt h rl rc fc nt v) (hf : xfr h h' (jL md)) (hm : okMd md) (hr : okRa rl) : jnSt h' rl rc fc nt v := by
  obtain ⟨ρ, h1, rfl⟩ := hr
  obtain ⟨a, b, c1, c2, c3, c4, c5⟩ := hs
  exact ⟨hf.at a (jL_no hm (by omega)), hf.at b (jL_no hm (by omega)), hf.at c1 (jL_no hm (by omega)), hf.at c2 (jL_no hm (by omega)), hf.at c3 (jL_no hm (by omega)), hf.at c4 (jL_no hm (by omega)), fun i hi => hf.at (c5 i hi) (jL_no hm (by omega))⟩
/-- a TERM's parts are numbers of theirs -/
def okTm (nt : Nat) (t : Nat → Int32) : Prop := (t 0 = 0 ∨ t 0 = 1 ∨ t 0 = 2) ∧ (¬ t 0 = 2 → t 1 = nI ((t 1).toNatClampNeg) ∧ (t 1).toNatClampNeg < 10) ∧ okA nt (t 2) ∧ okA nt (t 3)
def sgIn (t : Nat → Int32) (s : Nat) : Prop := t 2 = nI (100 + s) ∨ t 3 = nI (100 + s)
def okRl (nt : Nat) (v : RV) : Prop := v.2.2.1 ≤ 4 ∧ (∀ i, i < v.2.2.1 → okTm nt (v.2.1 i)) ∧ (v.1 1 = nI ((v.1 1).toNatClampNeg) ∧ (v.1 1).toNatClampNeg < 10) ∧ okA nt (v.1 2) ∧ okA nt (v.1 3) ∧ ∀ s, s < 3 → sgIn v.1 s → ∃ i, i < v.2.2.1 ∧ sgIn (v.2.1 i) s
def bnTo (v : RV) (θ : Nat → Option Nat) (i : Nat) : Prop := ∀ j, j < i → ∀ s, s < 3 → sgIn (v.2.1 j) s → θ s ≠ none
theorem nmP_lt {nt : Nat} {t : Nat → Int32} {θ : Nat → Option Nat} (h1 : (t 1).toNatClampNeg < 10) (h2 : okA nt (t 2)) (h3 : okA nt (t 3)) (hθ : okTh nt θ) (hn : nt ≤ 10) : nmP t θ < 1000 := by
  have a := thO_lt h2 hθ hn
  have b := thO_lt h3 hθ hn
  unfold nmP
  omega
set_option maxRecDepth 100000 in
set_option maxHeartbeats 4000000 in
theorem k_X2_secondsFor {G : xG} {h : xHp} {md rl aim nt : Nat} {cs : Bool} {wt : Int32} {θ : Nat → Option Nat} {σ : JS} (hJ : jnAt h md rl cs aim wt θ σ) {b x : Nat} {t : Nat → Int32} (hb : h.1 b = some (tC t)) (ht : okTm nt t) (hx : x < 10) : MX G mX2_secondsFor 1 0 0 [.ref 187, .ref b, .int (nI x)] h (xAns (.int (secP t x σ.1)) h) := by
  refine MX.of [(0, .ref 187), (1, .ref b), (2, .int (nI x))] (by decide) rfl (Nat.le_of_ble_eq_true rfl) rfl ?_
  refine x_aload_n dX2_secondsFor_0 rfl ?_
  refine x_get lf_X2_134 dX2_secondsFor_1 hb rfl ?_
  refine x_iconst (v := 2) dX2_secondsFor_4 (by decide) ?_
  refine x_icmp_ne 14 dX2_secondsFor_5 (by decide) (fun c_5 => ?_) (fun c_5 => ?_)
  · obtain ⟨hk1, hk2⟩ := ht.2.1 c_5
    refine x_aload_n dX2_secondsFor_14 rfl ?_
    refine x_get lf_X2_65 dX2_secondsFor_15 hJ.1 rfl ?_
    refine x_get lf_X2_137 dX2_secondsFor_18 hJ.2.2.2.1 rfl ?_
    refine x_aload_n dX2_secondsFor_21 rfl ?_
    refine x_get lf_X2_44 dX2_secondsFor_22 hb rfl ?_
    refine x_top hk1 ?_
    refine x_bipush (v := 10) dX2_secondsFor_25 (by decide) ?_
    refine x_imul dX2_secondsFor_27 ?_
    refine x_top (y := nI (((t 1).toNatClampNeg) * 10)) (pk_mul ((t 1).toNatClampNeg) 10) ?_
    refine x_iload_n dX2_secondsFor_28 rfl ?_
    refine x_iadd dX2_secondsFor_29 ?_
    refine x_top (y := nI ((((t 1).toNatClampNeg) * 10) + x)) (nI_add (((t 1).toNatClampNeg) * 10) x) ?_
    refine x_ialdN (j := (((t 1).toNatClampNeg) * 10) + x) hJ.2.2.2.2.1 rfl (by omega) (by decide) dX2_secondsFor_30 ?_
    refine x_istore_n [(0, .ref 187), (1, .ref b), (2, .int (nI x)), (3, .int (σ.1 ((((t 1).toNatClampNeg) * 10) + x)))] dX2_secondsFor_31 (by decide) rfl rfl ?_
    refine x_aload_n dX2_secondsFor_32 rfl ?_
    refine x_get lf_X2_134 dX2_secondsFor_33 hb rfl ?_
    refine x_if_ne 43 dX2_secondsFor_36 (by decide) (fun c_36 => ?_) (fun c_36 => ?_)
    · refine x_iload_n dX2_secondsFor_43 rfl ?_
      refine x_iconst (v := (-1)) dX2_secondsFor_44 (by decide) ?_
      refine x_ixor dX2_secondsFor_45 ?_
      exact x_iret dX2_secondsFor_46 rfl rfl (Nat.le_refl _) (Nat.le_refl _) ⟨by unfold secP; first | (rw [if_pos c_5]; done) | (rw [if_neg c_5, if_pos c_36]; done) | (rw [if_neg c_5, if_neg c_36]; done), rfl⟩
    · refine x_iload_n dX2_secondsFor_39 rfl ?_
      refine x_goto 46 dX2_secondsFor_40 (by decide) ?_
      exact x_iret dX2_secondsFor_46 rfl rfl (Nat.le_refl _) (Nat.le_refl _) ⟨by unfold secP; first | (rw [if_pos c_5]; done) | (rw [if_neg c_5, if_pos c_36]; done) | (rw [if_neg c_5, if_neg c_36]; done), rfl⟩
  · refine x_iconst (v := 1) dX2_secondsFor_8 (by decide) ?_
    refine x_iload_n dX2_secondsFor_9 rfl ?_
    refine x_ishl dX2_secondsFor_10 ?_
    refine x_iconst (v := (-1)) dX2_secondsFor_11 (by decide) ?_
    refine x_ixor dX2_secondsFor_12 ?_
    exact x_iret dX2_secondsFor_13 rfl rfl (Nat.le_refl _) (Nat.le_refl _) ⟨by unfold secP; first | (rw [if_pos c_5]; done) | (rw [if_neg c_5, if_pos c_36]; done) | (rw [if_neg c_5, if_neg c_36]; done), rfl⟩
def ar_Q (md rl : Nat) (cs : Bool) (aim : Nat) (wt : Int32) (θ : Nat → Option Nat) (σ : JS) (h : xHp) : Option Value ⊕ Nat → xHp → Prop := fun o h' => o = .inl none ∧ jnAt h' md rl cs aim wt θ σ ∧ wfR σ.1 ∧ xfr h h' (jL md)
theorem okMd_ne {md : Nat} : mdNe md (md + 1) (md + 2) (md + 3) := ⟨by omega, by omega, by omega, by omega, by omega, by omega⟩
theorem tk_done {h h1 : xHp} {md rl aim n : Nat} {cs : Bool} {wt s : Int32} {θ : Nat → Option Nat} {σ : JS} (hJ : jnAt h md rl cs aim wt θ σ) (hw : wfR σ.1) (hn : n < 1000) (hm : okMd md) (q : (rowS σ.1 n = true ∧ (cs = true → σ.2.1 n ≤ s) ∧ h1 = h) ∨ ((rowS σ.1 n = true → cs = true ∧ ¬ σ.2.1 n ≤ s) ∧ ∃ f' g' : Nat → Int32, (rowS σ.1 n = true → f' = σ.1) ∧ (rowS σ.1 n = false → f' = fRow σ.1 n) ∧ (cs = true → g' = upd σ.2.1 n s) ∧ (cs = false → g' = σ.2.1) ∧ mdAt h1 md (md + 1) (md + 2) (md + 3) cs f' g' (upd σ.2.2.1 (n / 100) (σ.2.2.2.1 + 1)) (σ.2.2.2.1 + 1) ∧ xfr h h1 [md, md + 1, md + 2, md + 3])) : jnAt h1 md rl cs aim wt θ (tkP cs n s σ) ∧ wfR (tkP cs n s σ).1 ∧ xfr h h1 (jL md) := by
  rcases q with ⟨a, b, rfl⟩ | ⟨a, f', g', b1, b2, b3, b4, b5, b6⟩
  · rw [tkP, if_pos ⟨a, b⟩]
    exact ⟨hJ, hw, xfr_rf _ _⟩
  · have hno : ∀ q, q < 190 → q ∉ [md, md + 1, md + 2, md + 3] := by
      intro q hq
      unfold okMd at hm
      simp only [List.mem_cons, List.not_mem_nil, or_false]
      omega
    have e : tkP cs n s σ = (f', g', upd σ.2.2.1 (n / 100) (σ.2.2.2.1 + 1), σ.2.2.2.1 + 1, σ.2.2.2.2) := by
      rw [tkP, if_neg (fun q => (a q.1).2 (q.2 (a q.1).1))]
      congr 1
      · cases e : rowS σ.1 n with
        | true => exact (b1 e).symm
        | false => exact (b2 e).symm
      · congr 1
        cases cs with
        | true => exact (b3 rfl).symm
        | false => exact (b4 rfl).symm
    rw [e]
    refine ⟨⟨b6.at hJ.1 (hno _ (by omega)), b6.at hJ.2.1 (hno _ (by omega)), b6.at hJ.2.2.1 (hno _ (by omega)), b5⟩, ?_, b6.wd (fun q hq => by simp only [jL, List.mem_cons, List.not_mem_nil, or_false] at hq ⊢; omega)⟩
    show wfR f'
    cases e : rowS σ.1 n with
    | true => rw [b1 e]; exact hw
    | false => rw [b2 e]; exact wfR_row hw hn
set_option maxRecDepth 100000 in
set_option maxHeartbeats 4000000 in
theorem k_X2_arrive {G : xG} {h : xHp} {md rl aim nt : Nat} {cs : Bool} {wt : Int32} {θ : Nat → Option Nat} {σ : JS} (hJ : jnAt h md rl cs aim wt θ σ) {rc : Nat} {fc high : Int32} {v : RV} (hT : jnSt h rl rc fc nt v) (hm : okMd md) (hr : okRa rl) (hv : okRl nt v) (hn : nt ≤ 10) (hθ : okTh nt θ) (hw : wfR σ.1) (hbn : bnTo v θ v.2.2.1) (ha : aim < 3) : MX G mX2_arrive 3 0 0 [.ref 187, .int high] h (ar_Q md rl cs aim wt θ (arrP v cs aim wt high θ σ) h) := by
  refine MX.of [(0, .ref 187), (1, .int high)] (by decide) rfl (Nat.le_of_ble_eq_true rfl) rfl ?_
  refine x_aload_n dX2_arrive_0 rfl ?_
  refine x_get lf_X2_73 dX2_arrive_1 hJ.1 rfl ?_
  refine x_if_ne 34 dX2_arrive_4 (by decide) (fun c_4 => ?_) (fun c_4 => ?_)
  · have ha0 : ¬ aim = 0 := fun q => c_4 (by rw [q]; rfl)
    refine x_aload_n dX2_arrive_34 rfl ?_
    refine x_get lf_X2_73 dX2_arrive_35 hJ.1 rfl ?_
    refine x_iconst (v := 1) dX2_arrive_38 (by decide) ?_
    refine x_icmp_ne 50 dX2_arrive_39 (by decide) (fun c_39 => ?_) (fun c_39 => ?_)
    · have ha1 : ¬ aim = 1 := fun q => c_39 (by rw [q]; rfl)
      refine x_iload_n dX2_arrive_50 rfl ?_
      refine x_aload_n dX2_arrive_51 rfl ?_
      refine x_get lf_X2_54 dX2_arrive_52 hJ.1 rfl ?_
      refine x_icmp_ne 77 dX2_arrive_55 (by decide) (fun c_55 => ?_) (fun c_55 => ?_)
      · exact x_vret dX2_arrive_77 rfl (Nat.le_refl _) (Nat.le_refl _) (by rw [arrP, if_neg ha0, if_neg ha1, if_neg c_55]; exact ⟨rfl, ⟨hJ.1, hJ.2.1, hJ.2.2.1, hJ.2.2.2.1, hJ.2.2.2.2.1, hJ.2.2.2.2.2.1, hJ.2.2.2.2.2.2⟩, hw, (xfr_rf _ _)⟩)
      · refine x_aload_n dX2_arrive_58 rfl ?_
        refine x_iconst (v := 1) dX2_arrive_59 (by decide) ?_
        refine x_put [.ref 3, .ref md, .ref rl, .int (nI aim), .ref 188, .int σ.2.2.2.2.1, .int 1, .int wt, .ref 189] lf_X2_57 dX2_arrive_60 hJ.1 (Nat.le_of_ble_eq_true rfl) rfl rfl rfl ?_
        refine x_aload_n dX2_arrive_63 rfl ?_
        refine x_get lf_X2_9 dX2_arrive_64 (xup_self _ _ _) rfl ?_
        refine x_iconst (v := 0) dX2_arrive_67 (by decide) ?_
        refine x_aload_n dX2_arrive_68 rfl ?_
        refine x_get lf_X2_15 dX2_arrive_69 (xup_self _ _ _) rfl ?_
        refine x_iconst (v := 0) dX2_arrive_72 (by decide) ?_
        refine x_iconst (v := 3) dX2_arrive_73 (by decide) ?_
        refine x_copyi 0 0 3 ml_X2_143 ac_n ac_s in_System ((xup_ne (by decide)).trans hJ.2.1) ((xup_ne (by decide)).trans hJ.2.2.1) rfl rfl rfl (by decide) (by decide) (by decide) (by decide) (by decide) (Nat.le_of_ble_eq_true rfl) (Nat.le_of_ble_eq_true rfl) dX2_arrive_74 ?_
        exact x_vret dX2_arrive_77 rfl (Nat.le_refl _) (Nat.le_refl _) (by rw [arrP, if_neg ha0, if_neg ha1, if_pos c_55]; exact ⟨rfl, ⟨((xup_ne (by decide)).trans (xup_self _ _ _)), ((xup_ne (by decide)).trans ((xup_ne (by decide)).trans hJ.2.1)), (xup_self _ _ _), ((xup_ne (by unfold okMd at hm; omega)).trans ((xup_ne (by unfold okMd at hm; omega)).trans hJ.2.2.2.1)), ((xup_ne (by unfold okMd at hm; omega)).trans ((xup_ne (by unfold okMd at hm; omega)).trans hJ.2.2.2.2.1)), ((xup_ne (by unfold okMd at hm; omega)).trans ((xup_ne (by unfold okMd at hm; omega)).trans hJ.2.2.2.2.2.1)), ((xup_ne (by unfold okMd at hm; omega)).trans ((xup_ne (by unfold okMd at hm; omega)).trans hJ.2.2.2.2.2.2))⟩, hw, (((xfr_rf _ _).up (by simp [jL])).up (by simp [jL]))⟩)
    · have ha1 : aim = 1 := (nI_eq (by omega) (by omega)).mp c_39
      refine x_aload_n dX2_arrive_42 rfl ?_
      refine x_iconst (v := 1) dX2_arrive_43 (by decide) ?_
      refine x_put [.ref 3, .ref md, .ref rl, .int (nI aim), .ref 188, .int σ.2.2.2.2.1, .int 1, .int wt, .ref 189] lf_X2_57 dX2_arrive_44 hJ.1 (Nat.le_of_ble_eq_true rfl) rfl rfl rfl ?_
      refine x_goto 77 dX2_arrive_47 (by decide) ?_
      exact x_vret dX2_arrive_77 rfl (Nat.le_refl _) (Nat.le_refl _) (by rw [arrP, if_neg ha0, if_pos ha1]; exact ⟨rfl, ⟨(xup_self _ _ _), ((xup_ne (by decide)).trans hJ.2.1), ((xup_ne (by decide)).trans hJ.2.2.1), ((xup_ne (by unfold okMd at hm; omega)).trans hJ.2.2.2.1), ((xup_ne (by unfold okMd at hm; omega)).trans hJ.2.2.2.2.1), ((xup_ne (by unfold okMd at hm; omega)).trans hJ.2.2.2.2.2.1), ((xup_ne (by unfold okMd at hm; omega)).trans hJ.2.2.2.2.2.2)⟩, hw, ((xfr_rf _ _).up (by simp [jL]))⟩)
  · have ha0 : aim = 0 := (nI_eq (by omega) (by omega)).mp c_4
    have hd2 : ∀ {k : Nat}, (∀ s, v.1 k = nI (100 + s) → sgIn v.1 s) → ∀ s, s < 3 → v.1 k = nI (100 + s) → θ s ≠ none := fun hk s hs e => by obtain ⟨i, hi, hs2⟩ := hv.2.2.2.2.2 s hs (hk s e); exact hbn i hi s hs hs2
    have hnm := nmP_lt (θ := θ) hv.2.2.1.2 hv.2.2.2.1 hv.2.2.2.2.1 hθ hn
    have hne := okMd_ne (md := md)
    refine x_aload_n dX2_arrive_7 rfl ?_
    refine x_get lf_X2_65 dX2_arrive_8 hJ.1 rfl ?_
    refine x_aload_n dX2_arrive_11 rfl ?_
    refine x_get lf_X2_69 dX2_arrive_12 hJ.1 rfl ?_
    refine x_get lf_X2_38 dX2_arrive_15 hT.2.2.1 rfl ?_
    refine x_aload_n dX2_arrive_18 rfl ?_
    refine x_get lf_X2_9 dX2_arrive_19 hJ.1 rfl ?_
    refine x_callS (As := [.ref (rl + 1), .ref 188]) (st := [.ref md]) ls_X2_61 (k_X2_numberOf hJ.2.1 hT.2.2.2.1 hv.2.2.2.1 hv.2.2.2.2.1 hv.2.2.1 hn hθ (hd2 (fun _ q => Or.inl q)) (hd2 (fun _ q => Or.inr q))) dX2_arrive_22 rfl rfl (Nat.le_of_ble_eq_true rfl) ⟨by decide, by decide⟩ ⟨by decide, by decide⟩ (fun v h1 q => ?_) (fun _ _ _ _ _ q => by cases q.1)
    obtain ⟨ev, rfl⟩ := q
    cases ev
    refine x_iload_n dX2_arrive_25 rfl ?_
    refine x_iconst (v := 1) dX2_arrive_26 (by decide) ?_
    refine x_iadd dX2_arrive_27 ?_
    refine x_callV (As := [.int (nI (nmP v.1 θ)), .int (high + 1)]) (st := []) lv_X2_140 (k_X5_take hJ.2.2.2 hw hnm hne) dX2_arrive_28 hJ.2.2.2.1 rfl rfl (Nat.le_of_ble_eq_true rfl) ⟨by decide, by decide⟩ ⟨by decide, by decide⟩ (fun v9 h1 q => ?_) (fun _ _ _ _ _ q => by cases q.1)
    obtain ⟨ev, q⟩ := q
    cases ev
    refine x_goto 77 dX2_arrive_31 (by decide) ?_
    have hq := tk_done hJ hw hnm hm q
    exact x_vret dX2_arrive_77 rfl (Nat.le_refl _) (Nat.le_refl _) (by rw [arrP, if_pos ha0]; exact ⟨rfl, hq⟩)
