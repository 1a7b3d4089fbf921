/-! RuleCourt$Join: walkSecond -/
theorem bndS_some {a : Int32} {θ : Nat → Option Nat} {s : Nat} (h : frS a θ = some s) (y : Nat) : bndS a θ y = va_up θ s (some y) := by
  unfold bndS; rw [h]
theorem bndS_none {a : Int32} {θ : Nat → Option Nat} (h : frS a θ = none) (y : Nat) : bndS a θ y = θ := by
  unfold bndS; rw [h]
theorem frS_spec {nt : Nat} {a : Int32} {θ : Nat → Option Nat} {s : Nat} (ha : okA nt a) (hn : nt ≤ 10) (h : frS a θ = some s) : s < 3 ∧ a = nI (100 + s) ∧ θ s = none := by
  by_cases h1 : a < 100
  · rw [frS_th h1] at h; cases h
  · obtain ⟨s', hs, rfl⟩ := okA_ge ha hn h1
    rw [frS_sg hs] at h
    split at h
    next e => cases h; exact ⟨hs, rfl, e⟩
    next => cases h
theorem frS_no {nt : Nat} {a : Int32} {θ : Nat → Option Nat} (h : frS a θ = none) : ∀ s, s < 3 → a = nI (100 + s) → θ s ≠ none := by
  rintro s hs rfl q
  rw [frS_sg hs, if_pos q] at h
  cases h
theorem bfP_res {θ θc : Nat → Option Nat} {s nt : Nat} (h : θ s = none) (hc : θc = θ ∨ ∃ z, z < nt ∧ θc = va_up θ s (some z)) : upd (bfP θc) s (-1) = bfP θ := by
  rcases hc with rfl | ⟨z, -, rfl⟩
  · funext k
    simp only [upd, bfP]
    split
    next e => rw [e, h]; rfl
    next => rfl
  · exact bfP_no h
theorem bfP_set {θ θc : Nat → Option Nat} {s nt : Nat} (y : Nat) (hc : θc = θ ∨ ∃ z, z < nt ∧ θc = va_up θ s (some z)) : upd (bfP θc) s (nI y) = bfP (va_up θ s (some y)) := by
  rcases hc with rfl | ⟨z, -, rfl⟩
  · exact bfP_up _ _ _
  · rw [bfP_up]
    congr 1
    funext k
    simp only [va_up]
    split <;> rfl
theorem okTh_up {nt : Nat} {θ : Nat → Option Nat} {s y : Nat} (h : okTh nt θ) (hy : y < nt) : okTh nt (va_up θ s (some y)) := by
  intro k t hk e
  simp only [va_up] at e
  split at e
  next => cases e; exact hy
  next => exact h k t hk e
theorem bnTo_up {v : RV} {θ : Nat → Option Nat} {i s y : Nat} (h : bnTo v θ i) : bnTo v (va_up θ s (some y)) i := by
  intro j hj k hk hs
  simp only [va_up]
  split
  · exact fun q => by cases q
  · exact h j hj k hk hs
theorem bnTo_s {v : RV} {θ : Nat → Option Nat} {i : Nat} (h : bnTo v θ i) (h2 : ∀ s, s < 3 → sgIn (v.2.1 i) s → θ s ≠ none) : bnTo v θ (i + 1) := by
  intro j hj
  rcases Nat.lt_or_ge j i with e | e
  · exact h j e
  · rw [show j = i by omega]; exact h2
theorem bnTo_2 {nt : Nat} {v : RV} {θ : Nat → Option Nat} {i y : Nat} (h : bnTo v θ i) (ha : okA nt (v.2.1 i 3)) (hn : nt ≤ 10) (h2 : ∀ s, s < 3 → v.2.1 i 2 = nI (100 + s) → θ s ≠ none) : bnTo v (bndS (v.2.1 i 3) θ y) (i + 1) := by
  cases e : frS (v.2.1 i 3) θ with
  | none =>
    rw [bndS_none e]
    refine bnTo_s h (fun s hs q => ?_)
    rcases q with q | q
    · exact h2 s hs q
    · exact frS_no (nt := nt) e s hs q
  | some z =>
    obtain ⟨z1, z2, z3⟩ := frS_spec ha hn e
    rw [bndS_some e]
    refine bnTo_s (bnTo_up h) (fun s hs q => ?_)
    simp only [va_up]
    split
    · exact fun q => by cases q
    next hne =>
      rcases q with q | q
      · exact h2 s hs q
      · rw [z2] at q
        have := (nI_eq (by omega) (by omega)).mp q
        omega
theorem rng_s {y hi : Nat} (h : y < hi) : List.range' y (hi - y) = y :: List.range' (y + 1) (hi - (y + 1)) := by
  rw [show hi - y = (hi - (y + 1)) + 1 by omega, List.range'_succ]
theorem rng_0 {y hi : Nat} (h : hi ≤ y) : List.range' y (hi - y) = [] := by
  rw [show hi - y = 0 by omega]; rfl
theorem tt_m1 {nt : Nat} (hn : nt ≤ 10) : ∀ y, y < 20 → (nI nt - 1 < nI y ↔ nt ≤ y) := by
  have h : ∀ nt, nt ≤ 10 → ∀ y, y < 20 → (nI nt - 1 < nI y ↔ nt ≤ y) := by decide +kernel
  exact h nt hn
theorem tt_y {y0 : Nat} (hn : y0 < 10) : ∀ y, y < 20 → (nI y0 < nI y ↔ y0 + 1 ≤ y) := fun y hy => (nI_ltI (by omega) (by omega)).trans (by omega)
set_option maxRecDepth 100000 in
set_option maxHeartbeats 4000000 in
theorem l_ws_S {G : xG} {md rl aim nt rc i x d : Nat} {cs : Bool} {wt fc fit high : Int32} {θ : Nat → Option Nat} {v : RV} {t : Nat → Int32} {go : Int32 → (Nat → Option Nat) → JS → JS} (hm : okMd md) (hr : okRa rl) (hv : okRl nt v) (hn : nt ≤ 10) (hi : i < v.2.2.1) (ht : t = v.2.1 i) (hx : x < 10) (hθ : okTh nt θ) (hbn : bnTo v θ i) (hb2 : ∀ s, s < 3 → t 2 = nI (100 + s) → θ s ≠ none) (hd : 3 ≤ d) (hgo : ∀ (hi9 : Int32) (τ : Nat → Option Nat) (ρ : JS) (h : xHp), jnAt h md rl cs aim wt τ ρ → jnSt h rl rc fc nt v → okTh nt τ → wfR ρ.1 → bnTo v τ (i + 1) → MX G mX2_walk d 0 0 [.ref 187, .int (nI (i + 1)), .int hi9] h (ar_Q md rl cs aim wt τ (go hi9 τ ρ) h)) {s hi9 : Nat} (hfr : frS (t 3) θ = some s) (hs : s < 3) (hsn : θ s = none) (hhi : hi9 = nt) {h0 : xHp} {ia : Bool} {tt rowv : Int32} (hia : ia = true ↔ t 0 = 0) (htt : ∀ y, y < 20 → (tt < nI y ↔ hi9 ≤ y)) (hrow : ia = true → rowv = nI (((t 1).toNatClampNeg) * 10 + x)) : ∀ (k : Nat) (y : Nat) (θc : Nat → Option Nat) (σ : JS) (h : xHp), y ≤ hi9 → hi9 + 1 ≤ y + k → (θc = θ ∨ ∃ z, z < nt ∧ θc = va_up θ s (some z)) → jnAt h md rl cs aim wt θc σ → jnSt h rl rc fc nt v → wfR σ.1 → xfr h0 h (jL md) → Wx G mX2_walkSecond (xRm (d + 1) 0 0) (xF G (ar_Q md rl cs aim wt θ (w2P t x fit high θ go (List.range' y (hi9 - y)) σ) h0) 0 0) 0 0 102 [(0, .ref 187), (1, .int (nI i)), (2, .int (nI x)), (3, .int fit), (4, .int high), (6, .int (nI s)), (8, .int tt), (9, .int (bi ia)), (10, .int rowv), (11, .int (nI y))] [] h := by
  intro k
  induction k with
  | zero => exact fun y θc σ h h1 h2 => absurd h2 (by omega)
  | succ k ih =>
    intro y θc σ h hk hk2 hθc hJ hT hw hf0
    have hK := fun q : ¬ t 0 = 2 => (by rw [ht] at q ⊢; exact (hv.2.1 i hi).2.1 q : t 1 = nI ((t 1).toNatClampNeg) ∧ ((t 1).toNatClampNeg) < 10)
    have hK2 : ia = true → ((t 1).toNatClampNeg) < 10 := fun q => (hK (by rw [hia.mp q]; decide)).2
    refine x_iload dX2_walkSecond_102 rfl ?_
    refine x_iload dX2_walkSecond_104 rfl ?_
    refine x_icmp_gt 209 dX2_walkSecond_106 (by decide) (fun c_106 => ?_) (fun c_106 => ?_)
    · have hw2 : w2P t x fit high θ go (List.range' y (hi9 - y)) σ = σ := by first | (rw [rng_0 ((htt y (by omega)).mp c_106)]; rfl) | (rw [rng_s hyn9, w2P, if_pos c_113])
      refine x_iload dX2_walkSecond_209 rfl ?_
      refine x_iconst (v := (-1)) dX2_walkSecond_211 (by decide) ?_
      refine x_icmp_eq 223 dX2_walkSecond_212 (by decide) (fun c_212 => absurd c_212 (nI_m1 (by omega))) (fun c_212 => ?_)
      refine x_aload_n dX2_walkSecond_215 rfl ?_
      refine x_get lf_X2_9 dX2_walkSecond_216 hJ.1 rfl ?_
      refine x_iload dX2_walkSecond_219 rfl ?_
      refine x_iconst (v := (-1)) dX2_walkSecond_221 (by decide) ?_
      refine x_iastN (j := s) hJ.2.1 rfl (by omega) (by decide) dX2_walkSecond_222 ?_
      have hbf := bfP_res hsn hθc
      exact x_vret dX2_walkSecond_223 rfl (Nat.le_refl _) (Nat.le_refl _) (by rw [hw2]; exact ⟨rfl, ⟨((xup_ne (by decide)).trans hJ.1), (by rw [← hbf]; exact xup_self _ _ _), ((xup_ne (by decide)).trans hJ.2.2.1), ((xup_ne (by unfold okMd at hm; omega)).trans hJ.2.2.2.1), ((xup_ne (by unfold okMd at hm; omega)).trans hJ.2.2.2.2.1), ((xup_ne (by unfold okMd at hm; omega)).trans hJ.2.2.2.2.2.1), ((xup_ne (by unfold okMd at hm; omega)).trans hJ.2.2.2.2.2.2)⟩, hw, hf0.up (by simp [jL])⟩)
    · have hyn9 : y < hi9 := Nat.lt_of_not_le (fun q => c_106 ((htt y (by omega)).mpr q))
      have hyn : y < nt := by omega
      have hy10 : y < 10 := by omega
      refine x_aload_n dX2_walkSecond_109 rfl ?_
      refine x_get lf_X2_57 dX2_walkSecond_110 hJ.1 rfl ?_
      refine x_if_ne 209 dX2_walkSecond_113 (by decide) (fun c_113 => ?_) (fun c_113 => ?_)
      · have c_113 := bi_t c_113
        have hw2 : w2P t x fit high θ go (List.range' y (hi9 - y)) σ = σ := by first | (rw [rng_0 ((htt y (by omega)).mp c_106)]; rfl) | (rw [rng_s hyn9, w2P, if_pos c_113])
        refine x_iload dX2_walkSecond_209 rfl ?_
        refine x_iconst (v := (-1)) dX2_walkSecond_211 (by decide) ?_
        refine x_icmp_eq 223 dX2_walkSecond_212 (by decide) (fun c_212 => absurd c_212 (nI_m1 (by omega))) (fun c_212 => ?_)
        refine x_aload_n dX2_walkSecond_215 rfl ?_
        refine x_get lf_X2_9 dX2_walkSecond_216 hJ.1 rfl ?_
        refine x_iload dX2_walkSecond_219 rfl ?_
        refine x_iconst (v := (-1)) dX2_walkSecond_221 (by decide) ?_
        refine x_iastN (j := s) hJ.2.1 rfl (by omega) (by decide) dX2_walkSecond_222 ?_
        have hbf := bfP_res hsn hθc
        exact x_vret dX2_walkSecond_223 rfl (Nat.le_refl _) (Nat.le_refl _) (by rw [hw2]; exact ⟨rfl, ⟨((xup_ne (by decide)).trans hJ.1), (by rw [← hbf]; exact xup_self _ _ _), ((xup_ne (by decide)).trans hJ.2.2.1), ((xup_ne (by unfold okMd at hm; omega)).trans hJ.2.2.2.1), ((xup_ne (by unfold okMd at hm; omega)).trans hJ.2.2.2.2.1), ((xup_ne (by unfold okMd at hm; omega)).trans hJ.2.2.2.2.2.1), ((xup_ne (by unfold okMd at hm; omega)).trans hJ.2.2.2.2.2.2)⟩, hw, hf0.up (by simp [jL])⟩)
      · have c_113 := bi_f c_113
        refine x_iload dX2_walkSecond_116 rfl ?_
        refine x_if_eq 134 dX2_walkSecond_118 (by decide) (fun c_118 => ?_) (fun c_118 => ?_)
        · have c_118 := bi_f c_118
          have ht0 : ¬ t 0 = 0 := fun q => by rw [hia.mpr q] at c_118; cases c_118
          refine x_iload_n dX2_walkSecond_134 rfl ?_
          refine x_istore [(0, .ref 187), (1, .int (nI i)), (2, .int (nI x)), (3, .int fit), (4, .int high), (6, .int (nI s)), (8, .int tt), (9, .int (bi ia)), (10, .int rowv), (11, .int (nI y)), (12, .int fit)] dX2_walkSecond_135 (by decide) rfl rfl ?_
          refine x_iload dX2_walkSecond_137 rfl ?_
          refine x_iload dX2_walkSecond_139 rfl ?_
          refine x_ishr dX2_walkSecond_141 ?_
          refine x_iconst (v := 1) dX2_walkSecond_142 (by decide) ?_
          refine x_iand dX2_walkSecond_143 ?_
          refine x_if_eq 203 dX2_walkSecond_144 (by decide) (fun c_144 => ?_) (fun c_144 => ?_)
          · have hbit : ((if t 0 = 0 then σ.1 (((t 1).toNatClampNeg) * 10 + x) else fit) >>> (nI y &&& 31)) &&& 1 = 0 := by first | (rw [if_pos ht0]; exact c_144) | (rw [if_neg ht0]; exact c_144)
            refine x_iinc (v := nI (y + 1)) [(0, .ref 187), (1, .int (nI i)), (2, .int (nI x)), (3, .int fit), (4, .int high), (6, .int (nI s)), (8, .int tt), (9, .int (bi ia)), (10, .int rowv), (11, .int (nI (y + 1))), (12, .int fit)] dX2_walkSecond_203 rfl (nI_add y 1) (by decide) rfl rfl ?_
            refine x_goto 102 dX2_walkSecond_206 (by decide) ?_
            have hw2 : w2P t x fit high θ go (List.range' y (hi9 - y)) σ = w2P t x fit high θ go (List.range' (y + 1) (hi9 - (y + 1))) σ := by rw [rng_s hyn9, w2P, if_neg (by rw [c_113]; decide), if_pos hbit]
            rw [hw2]
            exact x_ls _ [0, 1, 2, 3, 4, 5, 6, 7, 8, 9] rfl (ih (y + 1) θc σ h (by omega) (by omega) hθc hJ hT hw hf0)
          · have hbit : ¬ ((if t 0 = 0 then σ.1 (((t 1).toNatClampNeg) * 10 + x) else fit) >>> (nI y &&& 31)) &&& 1 = 0 := by first | (rw [if_pos ht0]; exact c_144) | (rw [if_neg ht0]; exact c_144)
            refine x_iload dX2_walkSecond_147 rfl ?_
            refine x_iconst (v := (-1)) dX2_walkSecond_149 (by decide) ?_
            refine x_icmp_eq 162 dX2_walkSecond_150 (by decide) (fun c_150 => absurd c_150 (nI_m1 (by omega))) (fun c_150 => ?_)
            refine x_aload_n dX2_walkSecond_153 rfl ?_
            refine x_get lf_X2_9 dX2_walkSecond_154 hJ.1 rfl ?_
            refine x_iload dX2_walkSecond_157 rfl ?_
            refine x_iload dX2_walkSecond_159 rfl ?_
            refine x_iastN (j := s) hJ.2.1 rfl (by omega) (by decide) dX2_walkSecond_161 ?_
            refine x_iload dX2_walkSecond_162 rfl ?_
            refine x_if_eq 186 dX2_walkSecond_164 (by decide) (fun _ => ?_) (fun c => absurd (bi_cf c_118) c)
            refine x_iconst (v := 0) dX2_walkSecond_186 (by decide) ?_
            refine x_istore [(0, .ref 187), (1, .int (nI i)), (2, .int (nI x)), (3, .int fit), (4, .int high), (6, .int (nI s)), (8, .int tt), (9, .int (bi ia)), (10, .int rowv), (11, .int (nI y)), (12, .int fit), (13, .int 0)] dX2_walkSecond_187 (by decide) rfl rfl ?_
            refine x_aload_n dX2_walkSecond_189 rfl ?_
            refine x_iload_n dX2_walkSecond_190 rfl ?_
            refine x_iconst (v := 1) dX2_walkSecond_191 (by decide) ?_
            refine x_iadd dX2_walkSecond_192 ?_
            refine x_top (y := nI (i + 1)) (nI_add i 1) ?_
            refine x_iload dX2_walkSecond_193 rfl ?_
            refine x_iload dX2_walkSecond_195 rfl ?_
            refine x_max ml_X2_92 mx_s in_Math mx_c dX2_walkSecond_197 (by show 1 ≤ d + 1; omega) (by show _ + 13 ≤ 100 * (d + 1); simp [Value.category]; omega) ⟨Nat.le_refl _, Nat.le_refl _⟩ ?_
            refine x_top (y := imax high (if t 0 = 0 then σ.2.1 ((((t 1).toNatClampNeg) * 10 + x) * 10 + y) else 0)) (by first | (rw [if_pos ht0]; rfl) | (rw [if_neg ht0]; rfl)) ?_
            refine x_heap (h' := xup h 188 (.inl (0, 3, .inl (bfP (bndS (t 3) θ y))))) (by rw [bfP_set y hθc, bndS_some hfr]) ?_
            have hJ2 : jnAt (xup h 188 (.inl (0, 3, .inl (bfP (bndS (t 3) θ y))))) md rl cs aim wt (bndS (t 3) θ y) σ := ⟨(xup_ne (by decide)).trans hJ.1, xup_self _ _ _, (xup_ne (by decide)).trans hJ.2.2.1, (xup_ne (by unfold okMd at hm; omega)).trans hJ.2.2.2.1, (xup_ne (by unfold okMd at hm; omega)).trans hJ.2.2.2.2.1, (xup_ne (by unfold okMd at hm; omega)).trans hJ.2.2.2.2.2.1, (xup_ne (by unfold okMd at hm; omega)).trans hJ.2.2.2.2.2.2⟩
            have hf2 : xfr h (xup h 188 (.inl (0, 3, .inl (bfP (bndS (t 3) θ y))))) (jL md) := (xfr_rf _ _).up (by simp [jL])
            have hT2 := hT.kept hf2 hm hr
            have hτ : okTh nt (bndS (t 3) θ y) := by first | (rw [bndS_none hfr]; exact hθ) | (rw [bndS_some hfr]; exact okTh_up hθ hyn)
            refine x_callV (As := [.int (nI (i + 1)), .int (imax high (if t 0 = 0 then σ.2.1 ((((t 1).toNatClampNeg) * 10 + x) * 10 + y) else 0))]) (st := []) lv_X2_26 (hgo _ (bndS (t 3) θ y) σ _ hJ2 hT2 hτ hw (by rw [ht]; exact bnTo_2 hbn (hv.2.1 i hi).2.2.2 hn (by rw [← ht]; exact hb2))) dX2_walkSecond_200 hJ2.1 rfl rfl (Nat.le_of_ble_eq_true rfl) ⟨Nat.le_refl _, by show 8 + (9 + 11) + 100 * d ≤ 100 * (d + 1); omega⟩ ⟨Nat.le_refl _, Nat.le_refl _⟩ (fun v9 h1 q => ?_) (fun _ _ _ _ _ q => by cases q.1)
            obtain ⟨ev, hJ3, hw3, hf3⟩ := q
            cases ev
            refine x_iinc (v := nI (y + 1)) [(0, .ref 187), (1, .int (nI i)), (2, .int (nI x)), (3, .int fit), (4, .int high), (6, .int (nI s)), (8, .int tt), (9, .int (bi ia)), (10, .int rowv), (11, .int (nI (y + 1))), (12, .int fit), (13, .int 0)] dX2_walkSecond_203 rfl (nI_add y 1) (by decide) rfl rfl ?_
            refine x_goto 102 dX2_walkSecond_206 (by decide) ?_
            have hw2 : w2P t x fit high θ go (List.range' y (hi9 - y)) σ = w2P t x fit high θ go (List.range' (y + 1) (hi9 - (y + 1))) (go (imax high (if t 0 = 0 then σ.2.1 (((t 1).toNatClampNeg * 10 + x) * 10 + y) else 0)) (bndS (t 3) θ y) σ) := by rw [rng_s hyn9, w2P, if_neg (by rw [c_113]; decide), if_neg hbit]
            rw [hw2]
            exact x_ls _ [0, 1, 2, 3, 4, 5, 6, 7, 8, 9] rfl (ih (y + 1) _ _ h1 (by omega) (by omega) (Or.inr ⟨y, hyn, bndS_some hfr y⟩) hJ3 (hT2.kept hf3 hm hr) hw3 ((hf0.tr hf2).tr hf3))
        · have c_118 := bi_t c_118
          have ht0 := hia.mp c_118
          have hk10 := hK2 c_118
          refine x_aload_n dX2_walkSecond_121 rfl ?_
          refine x_get lf_X2_65 dX2_walkSecond_122 hJ.1 rfl ?_
          refine x_get lf_X2_137 dX2_walkSecond_125 hJ.2.2.2.1 rfl ?_
          refine x_iload dX2_walkSecond_128 rfl ?_
          refine x_top (y := nI (((t 1).toNatClampNeg) * 10 + x)) (hrow c_118) ?_
          refine x_ialdN (j := ((t 1).toNatClampNeg) * 10 + x) hJ.2.2.2.2.1 rfl (by omega) (by decide) dX2_walkSecond_130 ?_
          refine x_goto 135 dX2_walkSecond_131 (by decide) ?_
          refine x_istore [(0, .ref 187), (1, .int (nI i)), (2, .int (nI x)), (3, .int fit), (4, .int high), (6, .int (nI s)), (8, .int tt), (9, .int (bi ia)), (10, .int rowv), (11, .int (nI y)), (12, .int (σ.1 (((t 1).toNatClampNeg) * 10 + x)))] dX2_walkSecond_135 (by decide) rfl rfl ?_
          refine x_iload dX2_walkSecond_137 rfl ?_
          refine x_iload dX2_walkSecond_139 rfl ?_
          refine x_ishr dX2_walkSecond_141 ?_
          refine x_iconst (v := 1) dX2_walkSecond_142 (by decide) ?_
          refine x_iand dX2_walkSecond_143 ?_
          refine x_if_eq 203 dX2_walkSecond_144 (by decide) (fun c_144 => ?_) (fun c_144 => ?_)
          · have hbit : ((if t 0 = 0 then σ.1 (((t 1).toNatClampNeg) * 10 + x) else fit) >>> (nI y &&& 31)) &&& 1 = 0 := by first | (rw [if_pos ht0]; exact c_144) | (rw [if_neg ht0]; exact c_144)
            refine x_iinc (v := nI (y + 1)) [(0, .ref 187), (1, .int (nI i)), (2, .int (nI x)), (3, .int fit), (4, .int high), (6, .int (nI s)), (8, .int tt), (9, .int (bi ia)), (10, .int rowv), (11, .int (nI (y + 1))), (12, .int (σ.1 (((t 1).toNatClampNeg) * 10 + x)))] dX2_walkSecond_203 rfl (nI_add y 1) (by decide) rfl rfl ?_
            refine x_goto 102 dX2_walkSecond_206 (by decide) ?_
            have hw2 : w2P t x fit high θ go (List.range' y (hi9 - y)) σ = w2P t x fit high θ go (List.range' (y + 1) (hi9 - (y + 1))) σ := by rw [rng_s hyn9, w2P, if_neg (by rw [c_113]; decide), if_pos hbit]
            rw [hw2]
            exact x_ls _ [0, 1, 2, 3, 4, 5, 6, 7, 8, 9] rfl (ih (y + 1) θc σ h (by omega) (by omega) hθc hJ hT hw hf0)
          · have hbit : ¬ ((if t 0 = 0 then σ.1 (((t 1).toNatClampNeg) * 10 + x) else fit) >>> (nI y &&& 31)) &&& 1 = 0 := by first | (rw [if_pos ht0]; exact c_144) | (rw [if_neg ht0]; exact c_144)
            refine x_iload dX2_walkSecond_147 rfl ?_
            refine x_iconst (v := (-1)) dX2_walkSecond_149 (by decide) ?_
            refine x_icmp_eq 162 dX2_walkSecond_150 (by decide) (fun c_150 => absurd c_150 (nI_m1 (by omega))) (fun c_150 => ?_)
            refine x_aload_n dX2_walkSecond_153 rfl ?_
            refine x_get lf_X2_9 dX2_walkSecond_154 hJ.1 rfl ?_
            refine x_iload dX2_walkSecond_157 rfl ?_
            refine x_iload dX2_walkSecond_159 rfl ?_
            refine x_iastN (j := s) hJ.2.1 rfl (by omega) (by decide) dX2_walkSecond_161 ?_
            refine x_iload dX2_walkSecond_162 rfl ?_
            refine x_if_eq 186 dX2_walkSecond_164 (by decide) (fun c => absurd c (bi_ct c_118)) (fun _ => ?_)
            refine x_aload_n dX2_walkSecond_167 rfl ?_
            refine x_get lf_X2_65 dX2_walkSecond_168 ((xup_ne (by decide)).trans hJ.1) rfl ?_
            refine x_get lf_X2_49 dX2_walkSecond_171 ((xup_ne (by unfold okMd at hm; omega)).trans hJ.2.2.2.1) rfl ?_
            refine x_iload dX2_walkSecond_174 rfl ?_
            refine x_top (y := nI (((t 1).toNatClampNeg) * 10 + x)) (hrow c_118) ?_
            refine x_bipush (v := 10) dX2_walkSecond_176 (by decide) ?_
            refine x_imul dX2_walkSecond_178 ?_
            refine x_top (y := nI ((((t 1).toNatClampNeg) * 10 + x) * 10)) (pk_mul (((t 1).toNatClampNeg) * 10 + x) 10) ?_
            refine x_iload dX2_walkSecond_179 rfl ?_
            refine x_iadd dX2_walkSecond_181 ?_
            refine x_top (y := nI (((((t 1).toNatClampNeg) * 10 + x) * 10) + y)) (nI_add ((((t 1).toNatClampNeg) * 10 + x) * 10) y) ?_
            refine x_ialdN (j := ((((t 1).toNatClampNeg) * 10 + x) * 10) + y) ((xup_ne (by unfold okMd at hm; omega)).trans hJ.2.2.2.2.2.1) rfl (by omega) (by decide) dX2_walkSecond_182 ?_
            refine x_goto 187 dX2_walkSecond_183 (by decide) ?_
            refine x_istore [(0, .ref 187), (1, .int (nI i)), (2, .int (nI x)), (3, .int fit), (4, .int high), (6, .int (nI s)), (8, .int tt), (9, .int (bi ia)), (10, .int rowv), (11, .int (nI y)), (12, .int (σ.1 (((t 1).toNatClampNeg) * 10 + x))), (13, .int (σ.2.1 (((((t 1).toNatClampNeg) * 10 + x) * 10) + y)))] dX2_walkSecond_187 (by decide) rfl rfl ?_
            refine x_aload_n dX2_walkSecond_189 rfl ?_
            refine x_iload_n dX2_walkSecond_190 rfl ?_
            refine x_iconst (v := 1) dX2_walkSecond_191 (by decide) ?_
            refine x_iadd dX2_walkSecond_192 ?_
            refine x_top (y := nI (i + 1)) (nI_add i 1) ?_
            refine x_iload dX2_walkSecond_193 rfl ?_
            refine x_iload dX2_walkSecond_195 rfl ?_
            refine x_max ml_X2_92 mx_s in_Math mx_c dX2_walkSecond_197 (by show 1 ≤ d + 1; omega) (by show _ + 13 ≤ 100 * (d + 1); simp [Value.category]; omega) ⟨Nat.le_refl _, Nat.le_refl _⟩ ?_
            refine x_top (y := imax high (if t 0 = 0 then σ.2.1 ((((t 1).toNatClampNeg) * 10 + x) * 10 + y) else 0)) (by first | (rw [if_pos ht0]; rfl) | (rw [if_neg ht0]; rfl)) ?_
            refine x_heap (h' := xup h 188 (.inl (0, 3, .inl (bfP (bndS (t 3) θ y))))) (by rw [bfP_set y hθc, bndS_some hfr]) ?_
            have hJ2 : jnAt (xup h 188 (.inl (0, 3, .inl (bfP (bndS (t 3) θ y))))) md rl cs aim wt (bndS (t 3) θ y) σ := ⟨(xup_ne (by decide)).trans hJ.1, xup_self _ _ _, (xup_ne (by decide)).trans hJ.2.2.1, (xup_ne (by unfold okMd at hm; omega)).trans hJ.2.2.2.1, (xup_ne (by unfold okMd at hm; omega)).trans hJ.2.2.2.2.1, (xup_ne (by unfold okMd at hm; omega)).trans hJ.2.2.2.2.2.1, (xup_ne (by unfold okMd at hm; omega)).trans hJ.2.2.2.2.2.2⟩
            have hf2 : xfr h (xup h 188 (.inl (0, 3, .inl (bfP (bndS (t 3) θ y))))) (jL md) := (xfr_rf _ _).up (by simp [jL])
            have hT2 := hT.kept hf2 hm hr
            have hτ : okTh nt (bndS (t 3) θ y) := by first | (rw [bndS_none hfr]; exact hθ) | (rw [bndS_some hfr]; exact okTh_up hθ hyn)
            refine x_callV (As := [.int (nI (i + 1)), .int (imax high (if t 0 = 0 then σ.2.1 ((((t 1).toNatClampNeg) * 10 + x) * 10 + y) else 0))]) (st := []) lv_X2_26 (hgo _ (bndS (t 3) θ y) σ _ hJ2 hT2 hτ hw (by rw [ht]; exact bnTo_2 hbn (hv.2.1 i hi).2.2.2 hn (by rw [← ht]; exact hb2))) dX2_walkSecond_200 hJ2.1 rfl rfl (Nat.le_of_ble_eq_true rfl) ⟨Nat.le_refl _, by show 8 + (9 + 11) + 100 * d ≤ 100 * (d + 1); omega⟩ ⟨Nat.le_refl _, Nat.le_refl _⟩ (fun v9 h1 q => ?_) (fun _ _ _ _ _ q => by cases q.1)
            obtain ⟨ev, hJ3, hw3, hf3⟩ := q
            cases ev
            refine x_iinc (v := nI (y + 1)) [(0, .ref 187), (1, .int (nI i)), (2, .int (nI x)), (3, .int fit), (4, .int high), (6, .int (nI s)), (8, .int tt), (9, .int (bi ia)), (10, .int rowv), (11, .int (nI (y + 1))), (12, .int (σ.1 (((t 1).toNatClampNeg) * 10 + x))), (13, .int (σ.2.1 (((((t 1).toNatClampNeg) * 10 + x) * 10) + y)))] dX2_walkSecond_203 rfl (nI_add y 1) (by decide) rfl rfl ?_
            refine x_goto 102 dX2_walkSecond_206 (by decide) ?_
            have hw2 : w2P t x fit high θ go (List.range' y (hi9 - y)) σ = w2P t x fit high θ go (List.range' (y + 1) (hi9 - (y + 1))) (go (imax high (if t 0 = 0 then σ.2.1 (((t 1).toNatClampNeg * 10 + x) * 10 + y) else 0)) (bndS (t 3) θ y) σ) := by rw [rng_s hyn9, w2P, if_neg (by rw [c_113]; decide), if_neg hbit]
            rw [hw2]
            exact x_ls _ [0, 1, 2, 3, 4, 5, 6, 7, 8, 9] rfl (ih (y + 1) _ _ h1 (by omega) (by omega) (Or.inr ⟨y, hyn, bndS_some hfr y⟩) hJ3 (hT2.kept hf3 hm hr) hw3 ((hf0.tr hf2).tr hf3))
set_option maxRecDepth 100000 in
set_option maxHeartbeats 4000000 in
theorem l_ws_N {G : xG} {md rl aim nt rc i x d : Nat} {cs : Bool} {wt fc fit high : Int32} {θ : Nat → Option Nat} {v : RV} {t : Nat → Int32} {go : Int32 → (Nat → Option Nat) → JS → JS} (hm : okMd md) (hr : okRa rl) (hv : okRl nt v) (hn : nt ≤ 10) (hi : i < v.2.2.1) (ht : t = v.2.1 i) (hx : x < 10) (hθ : okTh nt θ) (hbn : bnTo v θ i) (hb2 : ∀ s, s < 3 → t 2 = nI (100 + s) → θ s ≠ none) (hd : 3 ≤ d) (hgo : ∀ (hi9 : Int32) (τ : Nat → Option Nat) (ρ : JS) (h : xHp), jnAt h md rl cs aim wt τ ρ → jnSt h rl rc fc nt v → okTh nt τ → wfR ρ.1 → bnTo v τ (i + 1) → MX G mX2_walk d 0 0 [.ref 187, .int (nI (i + 1)), .int hi9] h (ar_Q md rl cs aim wt τ (go hi9 τ ρ) h)) {hi9 : Nat} (hfr : frS (t 3) θ = none) (hhi : hi9 ≤ 10) {h0 : xHp} {ia : Bool} {tt rowv : Int32} (hia : ia = true ↔ t 0 = 0) (htt : ∀ y, y < 20 → (tt < nI y ↔ hi9 ≤ y)) (hrow : ia = true → rowv = nI (((t 1).toNatClampNeg) * 10 + x)) : ∀ (k : Nat) (y : Nat) (σ : JS) (h : xHp), y ≤ hi9 → hi9 + 1 ≤ y + k → jnAt h md rl cs aim wt θ σ → jnSt h rl rc fc nt v → wfR σ.1 → xfr h0 h (jL md) → Wx G mX2_walkSecond (xRm (d + 1) 0 0) (xF G (ar_Q md rl cs aim wt θ (w2P t x fit high θ go (List.range' y (hi9 - y)) σ) h0) 0 0) 0 0 102 [(0, .ref 187), (1, .int (nI i)), (2, .int (nI x)), (3, .int fit), (4, .int high), (6, .int (-1)), (8, .int tt), (9, .int (bi ia)), (10, .int rowv), (11, .int (nI y))] [] h := by
  intro k
  induction k with
  | zero => exact fun y  σ h h1 h2 => absurd h2 (by omega)
  | succ k ih =>
    intro y σ h hk hk2 hJ hT hw hf0
    have hK := fun q : ¬ t 0 = 2 => (by rw [ht] at q ⊢; exact (hv.2.1 i hi).2.1 q : t 1 = nI ((t 1).toNatClampNeg) ∧ ((t 1).toNatClampNeg) < 10)
    have hK2 : ia = true → ((t 1).toNatClampNeg) < 10 := fun q => (hK (by rw [hia.mp q]; decide)).2
    refine x_iload dX2_walkSecond_102 rfl ?_
    refine x_iload dX2_walkSecond_104 rfl ?_
    refine x_icmp_gt 209 dX2_walkSecond_106 (by decide) (fun c_106 => ?_) (fun c_106 => ?_)
    · have hw2 : w2P t x fit high θ go (List.range' y (hi9 - y)) σ = σ := by first | (rw [rng_0 ((htt y (by omega)).mp c_106)]; rfl) | (rw [rng_s hyn9, w2P, if_pos c_113])
      refine x_iload dX2_walkSecond_209 rfl ?_
      refine x_iconst (v := (-1)) dX2_walkSecond_211 (by decide) ?_
      refine x_icmp_eq 223 dX2_walkSecond_212 (by decide) (fun _ => ?_) (fun c => absurd c (by decide))
      exact x_vret dX2_walkSecond_223 rfl (Nat.le_refl _) (Nat.le_refl _) (by rw [hw2]; exact ⟨rfl, hJ, hw, hf0⟩)
    · have hyn9 : y < hi9 := Nat.lt_of_not_le (fun q => c_106 ((htt y (by omega)).mpr q))
      have hy10 : y < 10 := by omega
      refine x_aload_n dX2_walkSecond_109 rfl ?_
      refine x_get lf_X2_57 dX2_walkSecond_110 hJ.1 rfl ?_
      refine x_if_ne 209 dX2_walkSecond_113 (by decide) (fun c_113 => ?_) (fun c_113 => ?_)
      · have c_113 := bi_t c_113
        have hw2 : w2P t x fit high θ go (List.range' y (hi9 - y)) σ = σ := by first | (rw [rng_0 ((htt y (by omega)).mp c_106)]; rfl) | (rw [rng_s hyn9, w2P, if_pos c_113])
        refine x_iload dX2_walkSecond_209 rfl ?_
        refine x_iconst (v := (-1)) dX2_walkSecond_211 (by decide) ?_
        refine x_icmp_eq 223 dX2_walkSecond_212 (by decide) (fun _ => ?_) (fun c => absurd c (by decide))
        exact x_vret dX2_walkSecond_223 rfl (Nat.le_refl _) (Nat.le_refl _) (by rw [hw2]; exact ⟨rfl, hJ, hw, hf0⟩)
      · have c_113 := bi_f c_113
        refine x_iload dX2_walkSecond_116 rfl ?_
        refine x_if_eq 134 dX2_walkSecond_118 (by decide) (fun c_118 => ?_) (fun c_118 => ?_)
        · have c_118 := bi_f c_118
          have ht0 : ¬ t 0 = 0 := fun q => by rw [hia.mpr q] at c_118; cases c_118
          refine x_iload_n dX2_walkSecond_134 rfl ?_
          refine x_istore [(0, .ref 187), (1, .int (nI i)), (2, .int (nI x)), (3, .int fit), (4, .int high), (6, .int (-1)), (8, .int tt), (9, .int (bi ia)), (10, .int rowv), (11, .int (nI y)), (12, .int fit)] dX2_walkSecond_135 (by decide) rfl rfl ?_
          refine x_iload dX2_walkSecond_137 rfl ?_
          refine x_iload dX2_walkSecond_139 rfl ?_
          refine x_ishr dX2_walkSecond_141 ?_
          refine x_iconst (v := 1) dX2_walkSecond_142 (by decide) ?_
          refine x_iand dX2_walkSecond_143 ?_
          refine x_if_eq 203 dX2_walkSecond_144 (by decide) (fun c_144 => ?_) (fun c_144 => ?_)
          · have hbit : ((if t 0 = 0 then σ.1 (((t 1).toNatClampNeg) * 10 + x) else fit) >>> (nI y &&& 31)) &&& 1 = 0 := by first | (rw [if_pos ht0]; exact c_144) | (rw [if_neg ht0]; exact c_144)
            refine x_iinc (v := nI (y + 1)) [(0, .ref 187), (1, .int (nI i)), (2, .int (nI x)), (3, .int fit), (4, .int high), (6, .int (-1)), (8, .int tt), (9, .int (bi ia)), (10, .int rowv), (11, .int (nI (y + 1))), (12, .int fit)] dX2_walkSecond_203 rfl (nI_add y 1) (by decide) rfl rfl ?_
            refine x_goto 102 dX2_walkSecond_206 (by decide) ?_
            have hw2 : w2P t x fit high θ go (List.range' y (hi9 - y)) σ = w2P t x fit high θ go (List.range' (y + 1) (hi9 - (y + 1))) σ := by rw [rng_s hyn9, w2P, if_neg (by rw [c_113]; decide), if_pos hbit]
            rw [hw2]
            exact x_ls _ [0, 1, 2, 3, 4, 5, 6, 7, 8, 9] rfl (ih (y + 1) σ h (by omega) (by omega) hJ hT hw hf0)
          · have hbit : ¬ ((if t 0 = 0 then σ.1 (((t 1).toNatClampNeg) * 10 + x) else fit) >>> (nI y &&& 31)) &&& 1 = 0 := by first | (rw [if_pos ht0]; exact c_144) | (rw [if_neg ht0]; exact c_144)
            refine x_iload dX2_walkSecond_147 rfl ?_
            refine x_iconst (v := (-1)) dX2_walkSecond_149 (by decide) ?_
            refine x_icmp_eq 162 dX2_walkSecond_150 (by decide) (fun _ => ?_) (fun c => absurd c (by decide))
            refine x_iload dX2_walkSecond_162 rfl ?_
            refine x_if_eq 186 dX2_walkSecond_164 (by decide) (fun _ => ?_) (fun c => absurd (bi_cf c_118) c)
            refine x_iconst (v := 0) dX2_walkSecond_186 (by decide) ?_
            refine x_istore [(0, .ref 187), (1, .int (nI i)), (2, .int (nI x)), (3, .int fit), (4, .int high), (6, .int (-1)), (8, .int tt), (9, .int (bi ia)), (10, .int rowv), (11, .int (nI y)), (12, .int fit), (13, .int 0)] dX2_walkSecond_187 (by decide) rfl rfl ?_
            refine x_aload_n dX2_walkSecond_189 rfl ?_
            refine x_iload_n dX2_walkSecond_190 rfl ?_
            refine x_iconst (v := 1) dX2_walkSecond_191 (by decide) ?_
            refine x_iadd dX2_walkSecond_192 ?_
            refine x_top (y := nI (i + 1)) (nI_add i 1) ?_
            refine x_iload dX2_walkSecond_193 rfl ?_
            refine x_iload dX2_walkSecond_195 rfl ?_
            refine x_max ml_X2_92 mx_s in_Math mx_c dX2_walkSecond_197 (by show 1 ≤ d + 1; omega) (by show _ + 13 ≤ 100 * (d + 1); simp [Value.category]; omega) ⟨Nat.le_refl _, Nat.le_refl _⟩ ?_
            refine x_top (y := imax high (if t 0 = 0 then σ.2.1 ((((t 1).toNatClampNeg) * 10 + x) * 10 + y) else 0)) (by first | (rw [if_pos ht0]; rfl) | (rw [if_neg ht0]; rfl)) ?_
            have hJ2 : jnAt h md rl cs aim wt (bndS (t 3) θ y) σ := by rw [bndS_none hfr]; exact hJ
            have hf2 : xfr h h (jL md) := xfr_rf _ _
            have hT2 := hT.kept hf2 hm hr
            have hτ : okTh nt (bndS (t 3) θ y) := by first | (rw [bndS_none hfr]; exact hθ) | (rw [bndS_some hfr]; exact okTh_up hθ hyn)
            refine x_callV (As := [.int (nI (i + 1)), .int (imax high (if t 0 = 0 then σ.2.1 ((((t 1).toNatClampNeg) * 10 + x) * 10 + y) else 0))]) (st := []) lv_X2_26 (hgo _ (bndS (t 3) θ y) σ _ hJ2 hT2 hτ hw (by rw [ht]; exact bnTo_2 hbn (hv.2.1 i hi).2.2.2 hn (by rw [← ht]; exact hb2))) dX2_walkSecond_200 hJ2.1 rfl rfl (Nat.le_of_ble_eq_true rfl) ⟨Nat.le_refl _, by show 8 + (9 + 11) + 100 * d ≤ 100 * (d + 1); omega⟩ ⟨Nat.le_refl _, Nat.le_refl _⟩ (fun v9 h1 q => ?_) (fun _ _ _ _ _ q => by cases q.1)
            obtain ⟨ev, hJ3, hw3, hf3⟩ := q
            cases ev
            refine x_iinc (v := nI (y + 1)) [(0, .ref 187), (1, .int (nI i)), (2, .int (nI x)), (3, .int fit), (4, .int high), (6, .int (-1)), (8, .int tt), (9, .int (bi ia)), (10, .int rowv), (11, .int (nI (y + 1))), (12, .int fit), (13, .int 0)] dX2_walkSecond_203 rfl (nI_add y 1) (by decide) rfl rfl ?_
            refine x_goto 102 dX2_walkSecond_206 (by decide) ?_
            have hw2 : w2P t x fit high θ go (List.range' y (hi9 - y)) σ = w2P t x fit high θ go (List.range' (y + 1) (hi9 - (y + 1))) (go (imax high (if t 0 = 0 then σ.2.1 (((t 1).toNatClampNeg * 10 + x) * 10 + y) else 0)) (bndS (t 3) θ y) σ) := by rw [rng_s hyn9, w2P, if_neg (by rw [c_113]; decide), if_neg hbit]
            rw [hw2]
            exact x_ls _ [0, 1, 2, 3, 4, 5, 6, 7, 8, 9] rfl (ih (y + 1) _ h1 (by omega) (by omega) (by rw [bndS_none hfr] at hJ3 ⊢; exact hJ3) (hT2.kept hf3 hm hr) hw3 ((hf0.tr hf2).tr hf3))
        · have c_118 := bi_t c_118
          have ht0 := hia.mp c_118
          have hk10 := hK2 c_118
          refine x_aload_n dX2_walkSecond_121 rfl ?_
          refine x_get lf_X2_65 dX2_walkSecond_122 hJ.1 rfl ?_
          refine x_get lf_X2_137 dX2_walkSecond_125 hJ.2.2.2.1 rfl ?_
          refine x_iload dX2_walkSecond_128 rfl ?_
          refine x_top (y := nI (((t 1).toNatClampNeg) * 10 + x)) (hrow c_118) ?_
          refine x_ialdN (j := ((t 1).toNatClampNeg) * 10 + x) hJ.2.2.2.2.1 rfl (by omega) (by decide) dX2_walkSecond_130 ?_
          refine x_goto 135 dX2_walkSecond_131 (by decide) ?_
          refine x_istore [(0, .ref 187), (1, .int (nI i)), (2, .int (nI x)), (3, .int fit), (4, .int high), (6, .int (-1)), (8, .int tt), (9, .int (bi ia)), (10, .int rowv), (11, .int (nI y)), (12, .int (σ.1 (((t 1).toNatClampNeg) * 10 + x)))] dX2_walkSecond_135 (by decide) rfl rfl ?_
          refine x_iload dX2_walkSecond_137 rfl ?_
          refine x_iload dX2_walkSecond_139 rfl ?_
          refine x_ishr dX2_walkSecond_141 ?_
          refine x_iconst (v := 1) dX2_walkSecond_142 (by decide) ?_
          refine x_iand dX2_walkSecond_143 ?_
          refine x_if_eq 203 dX2_walkSecond_144 (by decide) (fun c_144 => ?_) (fun c_144 => ?_)
          · have hbit : ((if t 0 = 0 then σ.1 (((t 1).toNatClampNeg) * 10 + x) else fit) >>> (nI y &&& 31)) &&& 1 = 0 := by first | (rw [if_pos ht0]; exact c_144) | (rw [if_neg ht0]; exact c_144)
            refine x_iinc (v := nI (y + 1)) [(0, .ref 187), (1, .int (nI i)), (2, .int (nI x)), (3, .int fit), (4, .int high), (6, .int (-1)), (8, .int tt), (9, .int (bi ia)), (10, .int rowv), (11, .int (nI (y + 1))), (12, .int (σ.1 (((t 1).toNatClampNeg) * 10 + x)))] dX2_walkSecond_203 rfl (nI_add y 1) (by decide) rfl rfl ?_
            refine x_goto 102 dX2_walkSecond_206 (by decide) ?_
            have hw2 : w2P t x fit high θ go (List.range' y (hi9 - y)) σ = w2P t x fit high θ go (List.range' (y + 1) (hi9 - (y + 1))) σ := by rw [rng_s hyn9, w2P, if_neg (by rw [c_113]; decide), if_pos hbit]
            rw [hw2]
            exact x_ls _ [0, 1, 2, 3, 4, 5, 6, 7, 8, 9] rfl (ih (y + 1) σ h (by omega) (by omega) hJ hT hw hf0)
          · have hbit : ¬ ((if t 0 = 0 then σ.1 (((t 1).toNatClampNeg) * 10 + x) else fit) >>> (nI y &&& 31)) &&& 1 = 0 := by first | (rw [if_pos ht0]; exact c_144) | (rw [if_neg ht0]; exact c_144)
            refine x_iload dX2_walkSecond_147 rfl ?_
            refine x_iconst (v := (-1)) dX2_walkSecond_149 (by decide) ?_
            refine x_icmp_eq 162 dX2_walkSecond_150 (by decide) (fun _ => ?_) (fun c => absurd c (by decide))
            refine x_iload dX2_walkSecond_162 rfl ?_
            refine x_if_eq 186 dX2_walkSecond_164 (by decide) (fun c => absurd c (bi_ct c_118)) (fun _ => ?_)
            refine x_aload_n dX2_walkSecond_167 rfl ?_
            refine x_get lf_X2_65 dX2_walkSecond_168 hJ.1 rfl ?_
            refine x_get lf_X2_49 dX2_walkSecond_171 hJ.2.2.2.1 rfl ?_
            refine x_iload dX2_walkSecond_174 rfl ?_
            refine x_top (y := nI (((t 1).toNatClampNeg) * 10 + x)) (hrow c_118) ?_
            refine x_bipush (v := 10) dX2_walkSecond_176 (by decide) ?_
            refine x_imul dX2_walkSecond_178 ?_
            refine x_top (y := nI ((((t 1).toNatClampNeg) * 10 + x) * 10)) (pk_mul (((t 1).toNatClampNeg) * 10 + x) 10) ?_
            refine x_iload dX2_walkSecond_179 rfl ?_
            refine x_iadd dX2_walkSecond_181 ?_
            refine x_top (y := nI (((((t 1).toNatClampNeg) * 10 + x) * 10) + y)) (nI_add ((((t 1).toNatClampNeg) * 10 + x) * 10) y) ?_
            refine x_ialdN (j := ((((t 1).toNatClampNeg) * 10 + x) * 10) + y) hJ.2.2.2.2.2.1 rfl (by omega) (by decide) dX2_walkSecond_182 ?_
            refine x_goto 187 dX2_walkSecond_183 (by decide) ?_
            refine x_istore [(0, .ref 187), (1, .int (nI i)), (2, .int (nI x)), (3, .int fit), (4, .int high), (6, .int (-1)), (8, .int tt), (9, .int (bi ia)), (10, .int rowv), (11, .int (nI y)), (12, .int (σ.1 (((t 1).toNatClampNeg) * 10 + x))), (13, .int (σ.2.1 (((((t 1).toNatClampNeg) * 10 + x) * 10) + y)))] dX2_walkSecond_187 (by decide) rfl rfl ?_
            refine x_aload_n dX2_walkSecond_189 rfl ?_
            refine x_iload_n dX2_walkSecond_190 rfl ?_
            refine x_iconst (v := 1) dX2_walkSecond_191 (by decide) ?_
            refine x_iadd dX2_walkSecond_192 ?_
            refine x_top (y := nI (i + 1)) (nI_add i 1) ?_
            refine x_iload dX2_walkSecond_193 rfl ?_
            refine x_iload dX2_walkSecond_195 rfl ?_
            refine x_max ml_X2_92 mx_s in_Math mx_c dX2_walkSecond_197 (by show 1 ≤ d + 1; omega) (by show _ + 13 ≤ 100 * (d + 1); simp [Value.category]; omega) ⟨Nat.le_refl _, Nat.le_refl _⟩ ?_
            refine x_top (y := imax high (if t 0 = 0 then σ.2.1 ((((t 1).toNatClampNeg) * 10 + x) * 10 + y) else 0)) (by first | (rw [if_pos ht0]; rfl) | (rw [if_neg ht0]; rfl)) ?_
            have hJ2 : jnAt h md rl cs aim wt (bndS (t 3) θ y) σ := by rw [bndS_none hfr]; exact hJ
            have hf2 : xfr h h (jL md) := xfr_rf _ _
            have hT2 := hT.kept hf2 hm hr
            have hτ : okTh nt (bndS (t 3) θ y) := by first | (rw [bndS_none hfr]; exact hθ) | (rw [bndS_some hfr]; exact okTh_up hθ hyn)
            refine x_callV (As := [.int (nI (i + 1)), .int (imax high (if t 0 = 0 then σ.2.1 ((((t 1).toNatClampNeg) * 10 + x) * 10 + y) else 0))]) (st := []) lv_X2_26 (hgo _ (bndS (t 3) θ y) σ _ hJ2 hT2 hτ hw (by rw [ht]; exact bnTo_2 hbn (hv.2.1 i hi).2.2.2 hn (by rw [← ht]; exact hb2))) dX2_walkSecond_200 hJ2.1 rfl rfl (Nat.le_of_ble_eq_true rfl) ⟨Nat.le_refl _, by show 8 + (9 + 11) + 100 * d ≤ 100 * (d + 1); omega⟩ ⟨Nat.le_refl _, Nat.le_refl _⟩ (fun v9 h1 q => ?_) (fun _ _ _ _ _ q => by cases q.1)
            obtain ⟨ev, hJ3, hw3, hf3⟩ := q
            cases ev
            refine x_iinc (v := nI (y + 1)) [(0, .ref 187), (1, .int (nI i)), (2, .int (nI x)), (3, .int fit), (4, .int high), (6, .int (-1)), (8, .int tt), (9, .int (bi ia)), (10, .int rowv), (11, .int (nI (y + 1))), (12, .int (σ.1 (((t 1).toNatClampNeg) * 10 + x))), (13, .int (σ.2.1 (((((t 1).toNatClampNeg) * 10 + x) * 10) + y)))] dX2_walkSecond_203 rfl (nI_add y 1) (by decide) rfl rfl ?_
            refine x_goto 102 dX2_walkSecond_206 (by decide) ?_
            have hw2 : w2P t x fit high θ go (List.range' y (hi9 - y)) σ = w2P t x fit high θ go (List.range' (y + 1) (hi9 - (y + 1))) (go (imax high (if t 0 = 0 then σ.2.1 (((t 1).toNatClampNeg * 10 + x) * 10 + y) else 0)) (bndS (t 3) θ y) σ) := by rw [rng_s hyn9, w2P, if_neg (by rw [c_113]; decide), if_neg hbit]
            rw [hw2]
            exact x_ls _ [0, 1, 2, 3, 4, 5, 6, 7, 8, 9] rfl (ih (y + 1) _ h1 (by omega) (by omega) (by rw [bndS_none hfr] at hJ3 ⊢; exact hJ3) (hT2.kept hf3 hm hr) hw3 ((hf0.tr hf2).tr hf3))
