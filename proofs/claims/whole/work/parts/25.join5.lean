/-! RuleCourt$Join: walk -/
theorem bnd_first {nt : Nat} {a : Int32} {θ : Nat → Option Nat} {x : Nat} (ha : okA nt a) (hn : nt ≤ 10) : ∀ s, s < 3 → a = nI (100 + s) → bndS a θ x s ≠ none := by
  intro s hs e
  cases h : frS a θ with
  | none => rw [bndS_none h]; exact frS_no (nt := nt) h s hs e
  | some z =>
    obtain ⟨z1, z2, z3⟩ := frS_spec ha hn h
    rw [bndS_some h]
    have : z = s := by
      rw [e] at z2
      have := (nI_eq (by omega) (by omega)).mp z2
      omega
    subst this
    simp only [va_up, if_pos]
    exact fun q => by cases q
theorem bnTo_b {v : RV} {a : Int32} {θ : Nat → Option Nat} {i x : Nat} (h : bnTo v θ i) : bnTo v (bndS a θ x) i := by
  cases e : frS a θ with
  | none => rw [bndS_none e]; exact h
  | some z => rw [bndS_some e]; exact bnTo_up h
set_option maxRecDepth 100000 in
set_option maxHeartbeats 4000000 in
theorem l_wk_S {G : xG} {md rl aim nt rc i d : Nat} {cs : Bool} {wt fc high : Int32} {θ : Nat → Option Nat} {v : RV} {t : Nat → Int32} {go : Int32 → (Nat → Option Nat) → JS → JS} (hm : okMd md) (hr : okRa rl) (hv : okRl nt v) (hn : nt ≤ 10) (hi : i < v.2.2.1) (ht : t = v.2.1 i) (hθ : okTh nt θ) (hbn : bnTo v θ i) (hd : 3 ≤ d) (hgo : ∀ (hi9 : Int32) (τ : Nat → Option Nat) (ρ : JS) (h : xHp), jnAt h md rl cs aim wt τ ρ → jnSt h rl rc fc nt v → okTh nt τ → wfR ρ.1 → bnTo v τ (i + 1) → MX G mX2_walk d 0 0 [.ref 187, .int (nI (i + 1)), .int hi9] h (ar_Q md rl cs aim wt τ (go hi9 τ ρ) h)) {s hi9 : Nat} (hfr : frS (t 2) θ = some s) (hs : s < 3) (hsn : θ s = none) (hhi : hi9 = nt) {h0 : xHp} {tt : Int32} (htt : ∀ y, y < 20 → (tt < nI y ↔ hi9 ≤ y)) : ∀ (k : Nat) (x : Nat) (θc : Nat → Option Nat) (σ : JS) (h : xHp), x ≤ hi9 → hi9 + 1 ≤ x + k → (θc = θ ∨ ∃ z, z < nt ∧ θc = va_up θ s (some z)) → jnAt h md rl cs aim wt θc σ → jnSt h rl rc fc nt v → wfR σ.1 → xfr h0 h (jL md) → Wx G mX2_walk (xRm (d + 2) 0 0) (xF G (ar_Q md rl cs aim wt θ (w1P t nt high θ go (List.range' x (hi9 - x)) σ) h0) 0 0) 0 0 106 [(0, .ref 187), (1, .int (nI i)), (2, .int high), (3, .ref (rl + 4 + i)), (4, .int (nI s)), (6, .int tt), (7, .int (nI x))] [] h := by
  intro k
  induction k with
  | zero => exact fun x θc σ h h1 h2 => absurd h2 (by omega)
  | succ k ih =>
    intro x θc σ h hk hk2 hθc hJ hT hw hf0
    have hi4 : i < 4 := Nat.lt_of_lt_of_le hi hv.1
    have hok : okTm nt t := by rw [ht]; exact hv.2.1 i hi
    refine x_iload dX2_walk_106 rfl ?_
    refine x_iload dX2_walk_108 rfl ?_
    refine x_icmp_gt 165 dX2_walk_110 (by decide) (fun c_110 => ?_) (fun c_110 => ?_)
    · have hw2 : w1P t nt high θ go (List.range' x (hi9 - x)) σ = σ := by first | (rw [rng_0 ((htt x (by omega)).mp c_110)]; rfl) | (rw [rng_s hxn9, w1P, if_pos c_117])
      refine x_iload dX2_walk_165 rfl ?_
      refine x_iconst (v := (-1)) dX2_walk_167 (by decide) ?_
      refine x_icmp_eq 179 dX2_walk_168 (by decide) (fun c_168 => absurd c_168 (nI_m1 (by omega))) (fun c_168 => ?_)
      refine x_aload_n dX2_walk_171 rfl ?_
      refine x_get lf_X2_9 dX2_walk_172 hJ.1 rfl ?_
      refine x_iload dX2_walk_175 rfl ?_
      refine x_iconst (v := (-1)) dX2_walk_177 (by decide) ?_
      refine x_iastN (j := s) hJ.2.1 rfl (by omega) (by decide) dX2_walk_178 ?_
      have hbf := bfP_res hsn hθc
      exact x_vret dX2_walk_179 rfl (Nat.le_refl _) (Nat.le_refl _) (by rw [hw2]; exact ⟨rfl, ⟨((xup_ne (by decide)).trans hJ.1), (by rw [← hbf]; exact xup_self _ _ _), ((xup_ne (by decide)).trans hJ.2.2.1), ((xup_ne (by unfold okMd at hm; omega)).trans hJ.2.2.2.1), ((xup_ne (by unfold okMd at hm; omega)).trans hJ.2.2.2.2.1), ((xup_ne (by unfold okMd at hm; omega)).trans hJ.2.2.2.2.2.1), ((xup_ne (by unfold okMd at hm; omega)).trans hJ.2.2.2.2.2.2)⟩, hw, hf0.up (by simp [jL])⟩)
    · have hxn9 : x < hi9 := Nat.lt_of_not_le (fun q => c_110 ((htt x (by omega)).mpr q))
      have hxn : x < nt := by omega
      have hx10 : x < 10 := by omega
      have htc : h.1 (rl + 4 + i) = some (tC t) := by rw [ht]; exact hT.2.2.2.2.2.2 i hi4
      refine x_aload_n dX2_walk_113 rfl ?_
      refine x_get lf_X2_57 dX2_walk_114 hJ.1 rfl ?_
      refine x_if_ne 165 dX2_walk_117 (by decide) (fun c_117 => ?_) (fun c_117 => ?_)
      · have c_117 := bi_t c_117
        have hw2 : w1P t nt high θ go (List.range' x (hi9 - x)) σ = σ := by first | (rw [rng_0 ((htt x (by omega)).mp c_110)]; rfl) | (rw [rng_s hxn9, w1P, if_pos c_117])
        refine x_iload dX2_walk_165 rfl ?_
        refine x_iconst (v := (-1)) dX2_walk_167 (by decide) ?_
        refine x_icmp_eq 179 dX2_walk_168 (by decide) (fun c_168 => absurd c_168 (nI_m1 (by omega))) (fun c_168 => ?_)
        refine x_aload_n dX2_walk_171 rfl ?_
        refine x_get lf_X2_9 dX2_walk_172 hJ.1 rfl ?_
        refine x_iload dX2_walk_175 rfl ?_
        refine x_iconst (v := (-1)) dX2_walk_177 (by decide) ?_
        refine x_iastN (j := s) hJ.2.1 rfl (by omega) (by decide) dX2_walk_178 ?_
        have hbf := bfP_res hsn hθc
        exact x_vret dX2_walk_179 rfl (Nat.le_refl _) (Nat.le_refl _) (by rw [hw2]; exact ⟨rfl, ⟨((xup_ne (by decide)).trans hJ.1), (by rw [← hbf]; exact xup_self _ _ _), ((xup_ne (by decide)).trans hJ.2.2.1), ((xup_ne (by unfold okMd at hm; omega)).trans hJ.2.2.2.1), ((xup_ne (by unfold okMd at hm; omega)).trans hJ.2.2.2.2.1), ((xup_ne (by unfold okMd at hm; omega)).trans hJ.2.2.2.2.2.1), ((xup_ne (by unfold okMd at hm; omega)).trans hJ.2.2.2.2.2.2)⟩, hw, hf0.up (by simp [jL])⟩)
      · have c_117 := bi_f c_117
        refine x_aload_n dX2_walk_120 rfl ?_
        refine x_aload_n dX2_walk_121 rfl ?_
        refine x_iload dX2_walk_122 rfl ?_
        refine x_callV (As := [.ref (rl + 4 + i), .int (nI x)]) (st := []) lv_X2_126 (k_X2_secondsFor hJ htc hok hx10) dX2_walk_124 hJ.1 rfl rfl (Nat.le_of_ble_eq_true rfl) ⟨by show 1 + 1 ≤ d + 2; omega, by show 8 + (4 + 11) + 100 * 1 ≤ 100 * (d + 2); omega⟩ ⟨Nat.le_refl _, Nat.le_refl _⟩ (fun v h1 q => ?_) (fun _ _ _ _ _ q => by cases q.1)
        obtain ⟨ev, eh⟩ := q
        rw [eh]
        cases ev
        refine x_istore [(0, .ref 187), (1, .int (nI i)), (2, .int high), (3, .ref (rl + 4 + i)), (4, .int (nI s)), (6, .int tt), (7, .int (nI x)), (8, .int (secP t x σ.1))] dX2_walk_127 (by decide) rfl rfl ?_
        refine x_iload dX2_walk_129 rfl ?_
        refine x_if_eq 159 dX2_walk_131 (by decide) (fun c_131 => ?_) (fun c_131 => ?_)
        · refine x_iinc (v := nI (x + 1)) [(0, .ref 187), (1, .int (nI i)), (2, .int high), (3, .ref (rl + 4 + i)), (4, .int (nI s)), (6, .int tt), (7, .int (nI (x + 1))), (8, .int (secP t x σ.1))] dX2_walk_159 rfl (nI_add x 1) (by decide) rfl rfl ?_
          refine x_goto 106 dX2_walk_162 (by decide) ?_
          have hw2 : w1P t nt high θ go (List.range' x (hi9 - x)) σ = w1P t nt high θ go (List.range' (x + 1) (hi9 - (x + 1))) σ := by rw [rng_s hxn9, w1P, if_neg (by rw [c_117]; decide), if_pos c_131]
          rw [hw2]
          exact x_ls _ [0, 1, 2, 3, 4, 5, 6] rfl (ih (x + 1) θc σ h (by omega) (by omega) hθc hJ hT hw hf0)
        · refine x_iload dX2_walk_134 rfl ?_
          refine x_iconst (v := (-1)) dX2_walk_136 (by decide) ?_
          refine x_icmp_eq 149 dX2_walk_137 (by decide) (fun c_137 => absurd c_137 (nI_m1 (by omega))) (fun c_137 => ?_)
          refine x_aload_n dX2_walk_140 rfl ?_
          refine x_get lf_X2_9 dX2_walk_141 hJ.1 rfl ?_
          refine x_iload dX2_walk_144 rfl ?_
          refine x_iload dX2_walk_146 rfl ?_
          refine x_iastN (j := s) hJ.2.1 rfl (by omega) (by decide) dX2_walk_148 ?_
          refine x_aload_n dX2_walk_149 rfl ?_
          refine x_iload_n dX2_walk_150 rfl ?_
          refine x_iload dX2_walk_151 rfl ?_
          refine x_iload dX2_walk_153 rfl ?_
          refine x_iload_n dX2_walk_155 rfl ?_
          refine x_heap (h' := xup h 188 (.inl (0, 3, .inl (bfP (bndS (t 2) θ x))))) (by rw [bfP_set x hθc, bndS_some hfr]) ?_
          have hJ2 : jnAt (xup h 188 (.inl (0, 3, .inl (bfP (bndS (t 2) θ x))))) md rl cs aim wt (bndS (t 2) θ x) σ := ⟨(xup_ne (by decide)).trans hJ.1, xup_self _ _ _, (xup_ne (by decide)).trans hJ.2.2.1, (xup_ne (by unfold okMd at hm; omega)).trans hJ.2.2.2.1, (xup_ne (by unfold okMd at hm; omega)).trans hJ.2.2.2.2.1, (xup_ne (by unfold okMd at hm; omega)).trans hJ.2.2.2.2.2.1, (xup_ne (by unfold okMd at hm; omega)).trans hJ.2.2.2.2.2.2⟩
          have hf2 : xfr h (xup h 188 (.inl (0, 3, .inl (bfP (bndS (t 2) θ x))))) (jL md) := (xfr_rf _ _).up (by simp [jL])
          have hT2 := hT.kept hf2 hm hr
          have hτ : okTh nt (bndS (t 2) θ x) := by first | (rw [bndS_none hfr]; exact hθ) | (rw [bndS_some hfr]; exact okTh_up hθ hxn)
          refine x_callV (As := [.int (nI i), .int (nI x), .int (secP t x σ.1), .int high]) (st := []) lv_X2_130 (k_X2_walkSecond hm hr hv hn hi ht hx10 hτ (bnTo_b hbn) (bnd_first hok.2.2.1 hn) hd hgo hJ2 hT2 hw) dX2_walk_156 hJ2.1 rfl rfl (Nat.le_of_ble_eq_true rfl) ⟨Nat.le_refl _, by show 8 + (14 + 11) + 100 * (d + 1) ≤ 100 * (d + 2); omega⟩ ⟨Nat.le_refl _, Nat.le_refl _⟩ (fun v9 h1 q => ?_) (fun _ _ _ _ _ q => by cases q.1)
          obtain ⟨ev, hJ3, hw3, hf3⟩ := q
          cases ev
          refine x_iinc (v := nI (x + 1)) [(0, .ref 187), (1, .int (nI i)), (2, .int high), (3, .ref (rl + 4 + i)), (4, .int (nI s)), (6, .int tt), (7, .int (nI (x + 1))), (8, .int (secP t x σ.1))] dX2_walk_159 rfl (nI_add x 1) (by decide) rfl rfl ?_
          refine x_goto 106 dX2_walk_162 (by decide) ?_
          have hw2 : w1P t nt high θ go (List.range' x (hi9 - x)) σ = w1P t nt high θ go (List.range' (x + 1) (hi9 - (x + 1))) (w2P t x (secP t x σ.1) high (bndS (t 2) θ x) go (rng (t 3) (bndS (t 2) θ x) nt) σ) := by rw [rng_s hxn9, w1P, if_neg (by rw [c_117]; decide), if_neg c_131]
          rw [hw2]
          exact x_ls _ [0, 1, 2, 3, 4, 5, 6] rfl (ih (x + 1) _ _ h1 (by omega) (by omega) (Or.inr ⟨x, hxn, bndS_some hfr x⟩) hJ3 (hT2.kept hf3 hm hr) hw3 ((hf0.tr hf2).tr hf3))
set_option maxRecDepth 100000 in
set_option maxHeartbeats 4000000 in
theorem l_wk_N {G : xG} {md rl aim nt rc i d : Nat} {cs : Bool} {wt fc high : Int32} {θ : Nat → Option Nat} {v : RV} {t : Nat → Int32} {go : Int32 → (Nat → Option Nat) → JS → JS} (hm : okMd md) (hr : okRa rl) (hv : okRl nt v) (hn : nt ≤ 10) (hi : i < v.2.2.1) (ht : t = v.2.1 i) (hθ : okTh nt θ) (hbn : bnTo v θ i) (hd : 3 ≤ d) (hgo : ∀ (hi9 : Int32) (τ : Nat → Option Nat) (ρ : JS) (h : xHp), jnAt h md rl cs aim wt τ ρ → jnSt h rl rc fc nt v → okTh nt τ → wfR ρ.1 → bnTo v τ (i + 1) → MX G mX2_walk d 0 0 [.ref 187, .int (nI (i + 1)), .int hi9] h (ar_Q md rl cs aim wt τ (go hi9 τ ρ) h)) {hi9 : Nat} (hfr : frS (t 2) θ = none) (hhi : hi9 ≤ 10) {h0 : xHp} {tt : Int32} (htt : ∀ y, y < 20 → (tt < nI y ↔ hi9 ≤ y)) : ∀ (k : Nat) (x : Nat) (σ : JS) (h : xHp), x ≤ hi9 → hi9 + 1 ≤ x + k → jnAt h md rl cs aim wt θ σ → jnSt h rl rc fc nt v → wfR σ.1 → xfr h0 h (jL md) → Wx G mX2_walk (xRm (d + 2) 0 0) (xF G (ar_Q md rl cs aim wt θ (w1P t nt high θ go (List.range' x (hi9 - x)) σ) h0) 0 0) 0 0 106 [(0, .ref 187), (1, .int (nI i)), (2, .int high), (3, .ref (rl + 4 + i)), (4, .int (-1)), (6, .int tt), (7, .int (nI x))] [] h := by
  intro k
  induction k with
  | zero => exact fun x  σ h h1 h2 => absurd h2 (by omega)
  | succ k ih =>
    intro x σ h hk hk2 hJ hT hw hf0
    have hi4 : i < 4 := Nat.lt_of_lt_of_le hi hv.1
    have hok : okTm nt t := by rw [ht]; exact hv.2.1 i hi
    refine x_iload dX2_walk_106 rfl ?_
    refine x_iload dX2_walk_108 rfl ?_
    refine x_icmp_gt 165 dX2_walk_110 (by decide) (fun c_110 => ?_) (fun c_110 => ?_)
    · have hw2 : w1P t nt high θ go (List.range' x (hi9 - x)) σ = σ := by first | (rw [rng_0 ((htt x (by omega)).mp c_110)]; rfl) | (rw [rng_s hxn9, w1P, if_pos c_117])
      refine x_iload dX2_walk_165 rfl ?_
      refine x_iconst (v := (-1)) dX2_walk_167 (by decide) ?_
      refine x_icmp_eq 179 dX2_walk_168 (by decide) (fun _ => ?_) (fun c => absurd c (by decide))
      exact x_vret dX2_walk_179 rfl (Nat.le_refl _) (Nat.le_refl _) (by rw [hw2]; exact ⟨rfl, hJ, hw, hf0⟩)
    · have hxn9 : x < hi9 := Nat.lt_of_not_le (fun q => c_110 ((htt x (by omega)).mpr q))
      have hx10 : x < 10 := by omega
      have htc : h.1 (rl + 4 + i) = some (tC t) := by rw [ht]; exact hT.2.2.2.2.2.2 i hi4
      refine x_aload_n dX2_walk_113 rfl ?_
      refine x_get lf_X2_57 dX2_walk_114 hJ.1 rfl ?_
      refine x_if_ne 165 dX2_walk_117 (by decide) (fun c_117 => ?_) (fun c_117 => ?_)
      · have c_117 := bi_t c_117
        have hw2 : w1P t nt high θ go (List.range' x (hi9 - x)) σ = σ := by first | (rw [rng_0 ((htt x (by omega)).mp c_110)]; rfl) | (rw [rng_s hxn9, w1P, if_pos c_117])
        refine x_iload dX2_walk_165 rfl ?_
        refine x_iconst (v := (-1)) dX2_walk_167 (by decide) ?_
        refine x_icmp_eq 179 dX2_walk_168 (by decide) (fun _ => ?_) (fun c => absurd c (by decide))
        exact x_vret dX2_walk_179 rfl (Nat.le_refl _) (Nat.le_refl _) (by rw [hw2]; exact ⟨rfl, hJ, hw, hf0⟩)
      · have c_117 := bi_f c_117
        refine x_aload_n dX2_walk_120 rfl ?_
        refine x_aload_n dX2_walk_121 rfl ?_
        refine x_iload dX2_walk_122 rfl ?_
        refine x_callV (As := [.ref (rl + 4 + i), .int (nI x)]) (st := []) lv_X2_126 (k_X2_secondsFor hJ htc hok hx10) dX2_walk_124 hJ.1 rfl rfl (Nat.le_of_ble_eq_true rfl) ⟨by show 1 + 1 ≤ d + 2; omega, by show 8 + (4 + 11) + 100 * 1 ≤ 100 * (d + 2); omega⟩ ⟨Nat.le_refl _, Nat.le_refl _⟩ (fun v h1 q => ?_) (fun _ _ _ _ _ q => by cases q.1)
        obtain ⟨ev, eh⟩ := q
        rw [eh]
        cases ev
        refine x_istore [(0, .ref 187), (1, .int (nI i)), (2, .int high), (3, .ref (rl + 4 + i)), (4, .int (-1)), (6, .int tt), (7, .int (nI x)), (8, .int (secP t x σ.1))] dX2_walk_127 (by decide) rfl rfl ?_
        refine x_iload dX2_walk_129 rfl ?_
        refine x_if_eq 159 dX2_walk_131 (by decide) (fun c_131 => ?_) (fun c_131 => ?_)
        · refine x_iinc (v := nI (x + 1)) [(0, .ref 187), (1, .int (nI i)), (2, .int high), (3, .ref (rl + 4 + i)), (4, .int (-1)), (6, .int tt), (7, .int (nI (x + 1))), (8, .int (secP t x σ.1))] dX2_walk_159 rfl (nI_add x 1) (by decide) rfl rfl ?_
          refine x_goto 106 dX2_walk_162 (by decide) ?_
          have hw2 : w1P t nt high θ go (List.range' x (hi9 - x)) σ = w1P t nt high θ go (List.range' (x + 1) (hi9 - (x + 1))) σ := by rw [rng_s hxn9, w1P, if_neg (by rw [c_117]; decide), if_pos c_131]
          rw [hw2]
          exact x_ls _ [0, 1, 2, 3, 4, 5, 6] rfl (ih (x + 1) σ h (by omega) (by omega) hJ hT hw hf0)
        · refine x_iload dX2_walk_134 rfl ?_
          refine x_iconst (v := (-1)) dX2_walk_136 (by decide) ?_
          refine x_icmp_eq 149 dX2_walk_137 (by decide) (fun _ => ?_) (fun c => absurd c (by decide))
          refine x_aload_n dX2_walk_149 rfl ?_
          refine x_iload_n dX2_walk_150 rfl ?_
          refine x_iload dX2_walk_151 rfl ?_
          refine x_iload dX2_walk_153 rfl ?_
          refine x_iload_n dX2_walk_155 rfl ?_
          have hJ2 : jnAt h md rl cs aim wt (bndS (t 2) θ x) σ := by rw [bndS_none hfr]; exact hJ
          have hf2 : xfr h h (jL md) := xfr_rf _ _
          have hT2 := hT.kept hf2 hm hr
          have hτ : okTh nt (bndS (t 2) θ x) := by first | (rw [bndS_none hfr]; exact hθ) | (rw [bndS_some hfr]; exact okTh_up hθ hxn)
          refine x_callV (As := [.int (nI i), .int (nI x), .int (secP t x σ.1), .int high]) (st := []) lv_X2_130 (k_X2_walkSecond hm hr hv hn hi ht hx10 hτ (bnTo_b hbn) (bnd_first hok.2.2.1 hn) hd hgo hJ2 hT2 hw) dX2_walk_156 hJ2.1 rfl rfl (Nat.le_of_ble_eq_true rfl) ⟨Nat.le_refl _, by show 8 + (14 + 11) + 100 * (d + 1) ≤ 100 * (d + 2); omega⟩ ⟨Nat.le_refl _, Nat.le_refl _⟩ (fun v9 h1 q => ?_) (fun _ _ _ _ _ q => by cases q.1)
          obtain ⟨ev, hJ3, hw3, hf3⟩ := q
          cases ev
          refine x_iinc (v := nI (x + 1)) [(0, .ref 187), (1, .int (nI i)), (2, .int high), (3, .ref (rl + 4 + i)), (4, .int (-1)), (6, .int tt), (7, .int (nI (x + 1))), (8, .int (secP t x σ.1))] dX2_walk_159 rfl (nI_add x 1) (by decide) rfl rfl ?_
          refine x_goto 106 dX2_walk_162 (by decide) ?_
          have hw2 : w1P t nt high θ go (List.range' x (hi9 - x)) σ = w1P t nt high θ go (List.range' (x + 1) (hi9 - (x + 1))) (w2P t x (secP t x σ.1) high (bndS (t 2) θ x) go (rng (t 3) (bndS (t 2) θ x) nt) σ) := by rw [rng_s hxn9, w1P, if_neg (by rw [c_117]; decide), if_neg c_131]
          rw [hw2]
          exact x_ls _ [0, 1, 2, 3, 4, 5, 6] rfl (ih (x + 1) _ h1 (by omega) (by omega) (by rw [bndS_none hfr] at hJ3 ⊢; exact hJ3) (hT2.kept hf3 hm hr) hw3 ((hf0.tr hf2).tr hf3))
theorem jn_rch {h : xHp} {md rl aim i : Nat} {cs : Bool} {wt : Int32} {θ : Nat → Option Nat} {σ : JS} (hJ : jnAt h md rl cs aim wt θ σ) (hm : okMd md) : jnAt (xup h 187 (.inr (2, [.ref 3, .ref md, .ref rl, .int (nI aim), .ref 188, .int (if σ.2.2.2.2.1 < nI i then nI i else σ.2.2.2.2.1), .int (bi σ.2.2.2.2.2.1), .int wt, .ref 189]))) md rl cs aim wt θ (rchP i σ) := by
  unfold okMd at hm
  exact ⟨xup_self _ _ _, (xup_ne (by decide)).trans hJ.2.1, (xup_ne (by decide)).trans hJ.2.2.1, (xup_ne (by omega)).trans hJ.2.2.2.1, (xup_ne (by omega)).trans hJ.2.2.2.2.1, (xup_ne (by omega)).trans hJ.2.2.2.2.2.1, (xup_ne (by omega)).trans hJ.2.2.2.2.2.2⟩
set_option maxRecDepth 100000 in
set_option maxHeartbeats 4000000 in
theorem k_walk_0 {G : xG} {md rl aim nt rc : Nat} {cs : Bool} {wt fc : Int32} {v : RV} (hm : okMd md) (hr : okRa rl) (hv : okRl nt v) (hn : nt ≤ 10) (ha : aim < 3) {i : Nat} {high : Int32} {θ : Nat → Option Nat} {σ : JS} {h : xHp} (hi : i = v.2.2.1) (hθ : okTh nt θ) (hbn : bnTo v θ i) (hJ : jnAt h md rl cs aim wt θ σ) (hT : jnSt h rl rc fc nt v) (hw : wfR σ.1) : MX G mX2_walk 4 0 0 [.ref 187, .int (nI i), .int high] h (ar_Q md rl cs aim wt θ (arrP v cs aim wt high θ (rchP i σ)) h) := by
  refine MX.of [(0, .ref 187), (1, .int (nI i)), (2, .int high)] (by decide) rfl (Nat.le_of_ble_eq_true rfl) rfl ?_
  refine x_aload_n dX2_walk_0 rfl ?_
  refine x_aload_n dX2_walk_1 rfl ?_
  refine x_get lf_X2_30 dX2_walk_2 hJ.1 rfl ?_
  refine x_iload_n dX2_walk_5 rfl ?_
  refine x_max ml_X2_92 mx_s in_Math mx_c dX2_walk_6 (by show 1 ≤ 4; omega) (by show _ + 13 ≤ 100 * (4); simp [Value.category]) ⟨Nat.le_refl _, Nat.le_refl _⟩ ?_
  refine x_put [.ref 3, .ref md, .ref rl, .int (nI aim), .ref 188, .int (if σ.2.2.2.2.1 < nI i then nI i else σ.2.2.2.2.1), .int (bi σ.2.2.2.2.2.1), .int wt, .ref 189] lf_X2_30 dX2_walk_9 hJ.1 (Nat.le_of_ble_eq_true rfl) rfl rfl rfl ?_
  have hJ1 := jn_rch (i := i) hJ hm
  have hf1 : xfr h (xup h 187 (.inr (2, [.ref 3, .ref md, .ref rl, .int (nI aim), .ref 188, .int (if σ.2.2.2.2.1 < nI i then nI i else σ.2.2.2.2.1), .int (bi σ.2.2.2.2.2.1), .int wt, .ref 189]))) (jL md) := (xfr_rf _ _).up (by simp [jL])
  have hT1 := hT.kept hf1 hm hr
  refine x_iload_n dX2_walk_12 rfl ?_
  refine x_aload_n dX2_walk_13 rfl ?_
  refine x_get lf_X2_69 dX2_walk_14 (xup_self _ _ _) rfl ?_
  refine x_get lf_X2_98 dX2_walk_17 ((xup_ne (by obtain ⟨ρ, hρ, hρ2⟩ := hr; omega)).trans hT.2.2.1) rfl ?_
  refine x_icmp_ge 28 dX2_walk_20 (by decide) (fun c_20 => ?_) (fun c_20 => absurd (by rw [hi]; exact Int32.le_refl _) c_20)
  refine x_aload_n dX2_walk_28 rfl ?_
  refine x_iload_n dX2_walk_29 rfl ?_
  refine x_callV (As := [.int high]) (st := []) lv_X2_101 (k_X2_arrive hJ1 hT1 hm hr hv hn hθ hw (by rw [← hi]; exact hbn) ha) dX2_walk_30 hJ1.1 rfl rfl (Nat.le_of_ble_eq_true rfl) ⟨by decide, by decide⟩ ⟨by decide, by decide⟩ (fun v9 h1 q => ?_) (fun _ _ _ _ _ q => by cases q.1)
  obtain ⟨ev, hJ3, hw3, hf3⟩ := q
  cases ev
  exact x_vret dX2_walk_33 rfl (Nat.le_refl _) (Nat.le_refl _) ⟨rfl, hJ3, hw3, hf1.tr hf3⟩
set_option maxRecDepth 100000 in
set_option maxHeartbeats 4000000 in
theorem k_walk_s {G : xG} {md rl aim nt rc i d : Nat} {cs : Bool} {wt fc high : Int32} {θ : Nat → Option Nat} {v : RV} {t : Nat → Int32} {go : Int32 → (Nat → Option Nat) → JS → JS} (hm : okMd md) (hr : okRa rl) (hv : okRl nt v) (hn : nt ≤ 10) (hi : i < v.2.2.1) (ht : t = v.2.1 i) (hθ : okTh nt θ) (hbn : bnTo v θ i) (hd : 3 ≤ d) (hgo : ∀ (hi9 : Int32) (τ : Nat → Option Nat) (ρ : JS) (h : xHp), jnAt h md rl cs aim wt τ ρ → jnSt h rl rc fc nt v → okTh nt τ → wfR ρ.1 → bnTo v τ (i + 1) → MX G mX2_walk d 0 0 [.ref 187, .int (nI (i + 1)), .int hi9] h (ar_Q md rl cs aim wt τ (go hi9 τ ρ) h)) {σ : JS} {h : xHp} (hJ : jnAt h md rl cs aim wt θ σ) (hT : jnSt h rl rc fc nt v) (hw : wfR σ.1) : MX G mX2_walk (d + 2) 0 0 [.ref 187, .int (nI i), .int high] h (ar_Q md rl cs aim wt θ (w1P t nt high θ go (rng (t 2) θ nt) (rchP i σ)) h) := by
  have hi4 : i < 4 := Nat.lt_of_lt_of_le hi hv.1
  have hvz := hv.1
  have htc : h.1 (rl + 4 + i) = some (tC t) := by rw [ht]; exact hT.2.2.2.2.2.2 i hi4
  have hok : okTm nt t := by rw [ht]; exact hv.2.1 i hi
  refine MX.of [(0, .ref 187), (1, .int (nI i)), (2, .int high)] (by decide) rfl (Nat.le_of_ble_eq_true rfl) rfl ?_
  cases hfr : frS (t 2) θ with
  | some s =>
    obtain ⟨hs, hs2, hsn⟩ := frS_spec hok.2.2.1 hn hfr
    refine x_aload_n dX2_walk_0 rfl ?_
    refine x_aload_n dX2_walk_1 rfl ?_
    refine x_get lf_X2_30 dX2_walk_2 hJ.1 rfl ?_
    refine x_iload_n dX2_walk_5 rfl ?_
    refine x_max ml_X2_92 mx_s in_Math mx_c dX2_walk_6 (by show 1 ≤ d + 2; omega) (by show _ + 13 ≤ 100 * (d + 2); simp [Value.category]; omega) ⟨Nat.le_refl _, Nat.le_refl _⟩ ?_
    refine x_put [.ref 3, .ref md, .ref rl, .int (nI aim), .ref 188, .int (if σ.2.2.2.2.1 < nI i then nI i else σ.2.2.2.2.1), .int (bi σ.2.2.2.2.2.1), .int wt, .ref 189] lf_X2_30 dX2_walk_9 hJ.1 (Nat.le_of_ble_eq_true rfl) rfl rfl rfl ?_
    have hJ1 := jn_rch (i := i) hJ hm
    have hf1 : xfr h (xup h 187 (.inr (2, [.ref 3, .ref md, .ref rl, .int (nI aim), .ref 188, .int (if σ.2.2.2.2.1 < nI i then nI i else σ.2.2.2.2.1), .int (bi σ.2.2.2.2.2.1), .int wt, .ref 189]))) (jL md) := (xfr_rf _ _).up (by simp [jL])
    have hT1 := hT.kept hf1 hm hr
    refine x_iload_n dX2_walk_12 rfl ?_
    refine x_aload_n dX2_walk_13 rfl ?_
    refine x_get lf_X2_69 dX2_walk_14 (xup_self _ _ _) rfl ?_
    refine x_get lf_X2_98 dX2_walk_17 ((xup_ne (by obtain ⟨ρ, hρ, hρ2⟩ := hr; omega)).trans hT.2.2.1) rfl ?_
    refine x_icmp_ge 28 dX2_walk_20 (by decide) (fun c_20 => absurd c_20 (nI_ge hi (by omega))) (fun c_20 => ?_)
    refine x_iload_n dX2_walk_23 rfl ?_
    refine x_iconst (v := 4) dX2_walk_24 (by decide) ?_
    refine x_icmp_lt 34 dX2_walk_25 (by decide) (fun c_25 => ?_) (fun c_25 => absurd (nI_lt (show i < 4 by omega) (by decide)) c_25)
    refine x_aload_n dX2_walk_34 rfl ?_
    refine x_get lf_X2_69 dX2_walk_35 (xup_self _ _ _) rfl ?_
    refine x_get lf_X2_105 dX2_walk_38 ((xup_ne (by obtain ⟨ρ, hρ, hρ2⟩ := hr; omega)).trans hT.2.2.1) rfl ?_
    refine x_iload_n dX2_walk_41 rfl ?_
    refine x_aaldN (b := rl + 4 + i) (j := i) ((xup_ne (by obtain ⟨ρ, hρ, hρ2⟩ := hr; omega)).trans hT.2.2.2.2.1) rfl rfl (by omega) (by decide) (rTs_at (by omega)) dX2_walk_42 ?_
    refine x_astore_n [(0, .ref 187), (1, .int (nI i)), (2, .int high), (3, .ref (rl + 4 + i))] dX2_walk_43 (by decide) rfl rfl ?_
    refine x_aload_n dX2_walk_44 rfl ?_
    refine x_aload_n dX2_walk_45 rfl ?_
    refine x_get lf_X2_82 dX2_walk_46 ((xup_ne (by obtain ⟨ρ, hρ, hρ2⟩ := hr; omega)).trans htc) rfl ?_
    refine x_callV (As := [.int (t 2)]) (st := []) lv_X2_109 (k_X2_freeSign hJ1.1 hJ1.2.1 hok.2.2.1 hn hθ) dX2_walk_49 (xup_self _ _ _) rfl rfl (Nat.le_of_ble_eq_true rfl) ⟨by show 1 + 1 ≤ d + 2; omega, by show 8 + (3 + 11) + 100 * 1 ≤ 100 * (d + 2); omega⟩ ⟨Nat.le_refl _, Nat.le_refl _⟩ (fun v h1 q => ?_) (fun _ _ _ _ _ q => by cases q.1)
    obtain ⟨ev, eh⟩ := q
    rw [eh]
    cases ev
    refine x_top (y := nI s) (by rw [hfr]; rfl) ?_
    refine x_istore [(0, .ref 187), (1, .int (nI i)), (2, .int high), (3, .ref (rl + 4 + i)), (4, .int (nI s))] dX2_walk_52 (by decide) rfl rfl ?_
    refine x_iload dX2_walk_54 rfl ?_
    refine x_iconst (v := (-1)) dX2_walk_56 (by decide) ?_
    refine x_icmp_ne 74 dX2_walk_57 (by decide) (fun c_57 => ?_) (fun c_57 => absurd c_57 (nI_m1 (show s < 2 ^ 31 by omega)))
    refine x_iconst (v := 0) dX2_walk_74 (by decide) ?_
    refine x_istore [(0, .ref 187), (1, .int (nI i)), (2, .int high), (3, .ref (rl + 4 + i)), (4, .int (nI s)), (5, .int 0)] dX2_walk_75 (by decide) rfl rfl ?_
    refine x_iload dX2_walk_77 rfl ?_
    refine x_iconst (v := (-1)) dX2_walk_79 (by decide) ?_
    refine x_icmp_ne 88 dX2_walk_80 (by decide) (fun c_80 => ?_) (fun c_80 => absurd c_80 (nI_m1 (show s < 2 ^ 31 by omega)))
    refine x_aload_n dX2_walk_88 rfl ?_
    refine x_get lf_X2_18 dX2_walk_89 (xup_self _ _ _) rfl ?_
    refine x_get lf_X2_117 dX2_walk_92 ((xup_ne (by decide)).trans hT.1) rfl ?_
    refine x_get lf_X2_123 dX2_walk_95 ((xup_ne (by decide)).trans hT.2.1) rfl ?_
    refine x_iconst (v := 1) dX2_walk_98 (by decide) ?_
    refine x_isub dX2_walk_99 ?_
    refine x_istore [(0, .ref 187), (1, .int (nI i)), (2, .int high), (3, .ref (rl + 4 + i)), (4, .int (nI s)), (5, .int 0), (6, .int ((nI nt) - 1))] dX2_walk_100 (by decide) rfl rfl ?_
    refine x_iload dX2_walk_102 rfl ?_
    refine x_istore [(0, .ref 187), (1, .int (nI i)), (2, .int high), (3, .ref (rl + 4 + i)), (4, .int (nI s)), (5, .int 0), (6, .int ((nI nt) - 1)), (7, .int 0)] dX2_walk_104 (by decide) rfl rfl ?_
    refine x_ls _ [0, 1, 2, 3, 4, 6, 7] rfl ?_
    rw [show rng (t 2) θ nt = List.range' 0 (nt - 0) by rw [rng, hfr, List.range_eq_range']; rfl]
    exact l_wk_S hm hr hv hn hi ht hθ hbn hd hgo hfr hs hsn rfl (tt_m1 hn) (nt + 1) 0 θ _ _ (by omega) (by omega) (Or.inl rfl) hJ1 hT1 hw hf1
  | none =>
    have hth := thO_lt hok.2.2.1 hθ hn
    refine x_aload_n dX2_walk_0 rfl ?_
    refine x_aload_n dX2_walk_1 rfl ?_
    refine x_get lf_X2_30 dX2_walk_2 hJ.1 rfl ?_
    refine x_iload_n dX2_walk_5 rfl ?_
    refine x_max ml_X2_92 mx_s in_Math mx_c dX2_walk_6 (by show 1 ≤ d + 2; omega) (by show _ + 13 ≤ 100 * (d + 2); simp [Value.category]; omega) ⟨Nat.le_refl _, Nat.le_refl _⟩ ?_
    refine x_put [.ref 3, .ref md, .ref rl, .int (nI aim), .ref 188, .int (if σ.2.2.2.2.1 < nI i then nI i else σ.2.2.2.2.1), .int (bi σ.2.2.2.2.2.1), .int wt, .ref 189] lf_X2_30 dX2_walk_9 hJ.1 (Nat.le_of_ble_eq_true rfl) rfl rfl rfl ?_
    have hJ1 := jn_rch (i := i) hJ hm
    have hf1 : xfr h (xup h 187 (.inr (2, [.ref 3, .ref md, .ref rl, .int (nI aim), .ref 188, .int (if σ.2.2.2.2.1 < nI i then nI i else σ.2.2.2.2.1), .int (bi σ.2.2.2.2.2.1), .int wt, .ref 189]))) (jL md) := (xfr_rf _ _).up (by simp [jL])
    have hT1 := hT.kept hf1 hm hr
    refine x_iload_n dX2_walk_12 rfl ?_
    refine x_aload_n dX2_walk_13 rfl ?_
    refine x_get lf_X2_69 dX2_walk_14 (xup_self _ _ _) rfl ?_
    refine x_get lf_X2_98 dX2_walk_17 ((xup_ne (by obtain ⟨ρ, hρ, hρ2⟩ := hr; omega)).trans hT.2.2.1) rfl ?_
    refine x_icmp_ge 28 dX2_walk_20 (by decide) (fun c_20 => absurd c_20 (nI_ge hi (by omega))) (fun c_20 => ?_)
    refine x_iload_n dX2_walk_23 rfl ?_
    refine x_iconst (v := 4) dX2_walk_24 (by decide) ?_
    refine x_icmp_lt 34 dX2_walk_25 (by decide) (fun c_25 => ?_) (fun c_25 => absurd (nI_lt (show i < 4 by omega) (by decide)) c_25)
    refine x_aload_n dX2_walk_34 rfl ?_
    refine x_get lf_X2_69 dX2_walk_35 (xup_self _ _ _) rfl ?_
    refine x_get lf_X2_105 dX2_walk_38 ((xup_ne (by obtain ⟨ρ, hρ, hρ2⟩ := hr; omega)).trans hT.2.2.1) rfl ?_
    refine x_iload_n dX2_walk_41 rfl ?_
    refine x_aaldN (b := rl + 4 + i) (j := i) ((xup_ne (by obtain ⟨ρ, hρ, hρ2⟩ := hr; omega)).trans hT.2.2.2.2.1) rfl rfl (by omega) (by decide) (rTs_at (by omega)) dX2_walk_42 ?_
    refine x_astore_n [(0, .ref 187), (1, .int (nI i)), (2, .int high), (3, .ref (rl + 4 + i))] dX2_walk_43 (by decide) rfl rfl ?_
    refine x_aload_n dX2_walk_44 rfl ?_
    refine x_aload_n dX2_walk_45 rfl ?_
    refine x_get lf_X2_82 dX2_walk_46 ((xup_ne (by obtain ⟨ρ, hρ, hρ2⟩ := hr; omega)).trans htc) rfl ?_
    refine x_callV (As := [.int (t 2)]) (st := []) lv_X2_109 (k_X2_freeSign hJ1.1 hJ1.2.1 hok.2.2.1 hn hθ) dX2_walk_49 (xup_self _ _ _) rfl rfl (Nat.le_of_ble_eq_true rfl) ⟨by show 1 + 1 ≤ d + 2; omega, by show 8 + (3 + 11) + 100 * 1 ≤ 100 * (d + 2); omega⟩ ⟨Nat.le_refl _, Nat.le_refl _⟩ (fun v h1 q => ?_) (fun _ _ _ _ _ q => by cases q.1)
    obtain ⟨ev, eh⟩ := q
    rw [eh]
    cases ev
    refine x_top (y := -1) (by rw [hfr]; rfl) ?_
    refine x_istore [(0, .ref 187), (1, .int (nI i)), (2, .int high), (3, .ref (rl + 4 + i)), (4, .int (-1))] dX2_walk_52 (by decide) rfl rfl ?_
    refine x_iload dX2_walk_54 rfl ?_
    refine x_iconst (v := (-1)) dX2_walk_56 (by decide) ?_
    refine x_icmp_ne 74 dX2_walk_57 (by decide) (fun c => absurd c (by decide)) (fun _ => ?_)
    refine x_aload_n dX2_walk_60 rfl ?_
    refine x_get lf_X2_82 dX2_walk_61 ((xup_ne (by obtain ⟨ρ, hρ, hρ2⟩ := hr; omega)).trans htc) rfl ?_
    refine x_aload_n dX2_walk_64 rfl ?_
    refine x_get lf_X2_9 dX2_walk_65 (xup_self _ _ _) rfl ?_
    refine x_callS (As := [.int (t 2), .ref 188]) (st := []) ls_X2_113 (k_X2_thingOf hJ1.2.1 hok.2.2.1 hn (frS_no (nt := nt) hfr)) dX2_walk_68 rfl rfl (Nat.le_of_ble_eq_true rfl) ⟨by show 1 + 1 ≤ d + 2; omega, by show 8 + (2 + 11) + 100 * 1 ≤ 100 * (d + 2); omega⟩ ⟨Nat.le_refl _, Nat.le_refl _⟩ (fun v h1 q => ?_) (fun _ _ _ _ _ q => by cases q.1)
    obtain ⟨ev, eh⟩ := q
    rw [eh]
    cases ev
    refine x_goto 75 dX2_walk_71 (by decide) ?_
    refine x_istore [(0, .ref 187), (1, .int (nI i)), (2, .int high), (3, .ref (rl + 4 + i)), (4, .int (-1)), (5, .int (nI (thO (t 2) θ)))] dX2_walk_75 (by decide) rfl rfl ?_
    refine x_iload dX2_walk_77 rfl ?_
    refine x_iconst (v := (-1)) dX2_walk_79 (by decide) ?_
    refine x_icmp_ne 88 dX2_walk_80 (by decide) (fun c => absurd c (by decide)) (fun _ => ?_)
    refine x_iload dX2_walk_83 rfl ?_
    refine x_goto 100 dX2_walk_85 (by decide) ?_
    refine x_istore [(0, .ref 187), (1, .int (nI i)), (2, .int high), (3, .ref (rl + 4 + i)), (4, .int (-1)), (5, .int (nI (thO (t 2) θ))), (6, .int (nI (thO (t 2) θ)))] dX2_walk_100 (by decide) rfl rfl ?_
    refine x_iload dX2_walk_102 rfl ?_
    refine x_istore [(0, .ref 187), (1, .int (nI i)), (2, .int high), (3, .ref (rl + 4 + i)), (4, .int (-1)), (5, .int (nI (thO (t 2) θ))), (6, .int (nI (thO (t 2) θ))), (7, .int (nI (thO (t 2) θ)))] dX2_walk_104 (by decide) rfl rfl ?_
    refine x_ls _ [0, 1, 2, 3, 4, 6, 7] rfl ?_
    rw [show rng (t 2) θ nt = List.range' (thO (t 2) θ) (thO (t 2) θ + 1 - thO (t 2) θ) by rw [rng, hfr, show thO (t 2) θ + 1 - thO (t 2) θ = 1 by omega]; rfl]
    exact l_wk_N hm hr hv hn hi ht hθ hbn hd hgo hfr (by omega) (tt_y hth) 2 _ _ _ (by omega) (by omega) hJ1 hT1 hw hf1
set_option maxRecDepth 100000 in
set_option maxHeartbeats 4000000 in
theorem k_X2_walk {G : xG} {md rl aim nt rc : Nat} {cs : Bool} {wt fc : Int32} {v : RV} (hm : okMd md) (hr : okRa rl) (hv : okRl nt v) (hn : nt ≤ 10) (ha : aim < 3) : ∀ (n i : Nat) (high : Int32) (θ : Nat → Option Nat) (σ : JS) (h : xHp), i + n = v.2.2.1 → jnAt h md rl cs aim wt θ σ → jnSt h rl rc fc nt v → okTh nt θ → wfR σ.1 → bnTo v θ i → MX G mX2_walk (2 * n + 4) 0 0 [.ref 187, .int (nI i), .int high] h (ar_Q md rl cs aim wt θ (wkP v nt cs aim wt n i high θ σ) h) := by
  intro n
  induction n with
  | zero => exact fun i high θ σ h hi hJ hT hθ hw hbn => k_walk_0 hm hr hv hn ha hi hθ hbn hJ hT hw
  | succ n ih =>
    intro i high θ σ h hi hJ hT hθ hw hbn
    exact k_walk_s (d := 2 * n + 4) hm hr hv hn (by omega) rfl hθ hbn (by omega) (fun hi9 τ ρ h q1 q2 q3 q4 q5 => ih (i + 1) hi9 τ ρ h (by omega) q1 q2 q3 q4 q5) hJ hT hw
