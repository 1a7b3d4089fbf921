set_option maxRecDepth 100000 in
set_option maxHeartbeats 4000000 in
theorem k_X2_walkSecond {G : xG} {md rl aim nt rc i x d : Nat} {cs : Bool} {wt fc fit high : Int32} {θ : Nat → Option Nat} {v : RV} {t : Nat → Int32} {go : Int32 → (Nat → Option Nat) → JS → JS} (hm : okMd md) (hr : okRa rl) (hv : okRl nt v) (hn : nt ≤ 10) (hi : i < v.2.2.1) (ht : t = v.2.1 i) (hx : x < 10) (hθ : okTh nt θ) (hbn : bnTo v θ i) (hb2 : ∀ s, s < 3 → t 2 = nI (100 + s) → θ s ≠ none) (hd : 3 ≤ d) (hgo : ∀ (hi9 : Int32) (τ : Nat → Option Nat) (ρ : JS) (h : xHp), jnAt h md rl cs aim wt τ ρ → jnSt h rl rc fc nt v → okTh nt τ → wfR ρ.1 → bnTo v τ (i + 1) → MX G mX2_walk d 0 0 [.ref 187, .int (nI (i + 1)), .int hi9] h (ar_Q md rl cs aim wt τ (go hi9 τ ρ) h)) {σ : JS} {h : xHp} (hJ : jnAt h md rl cs aim wt θ σ) (hT : jnSt h rl rc fc nt v) (hw : wfR σ.1) : MX G mX2_walkSecond (d + 1) 0 0 [.ref 187, .int (nI i), .int (nI x), .int fit, .int high] h (ar_Q md rl cs aim wt θ (w2P t x fit high θ go (rng (t 3) θ nt) σ) h) := by
  have hi4 : i < 4 := Nat.lt_of_lt_of_le hi hv.1
  have htc : h.1 (rl + 4 + i) = some (tC t) := by rw [ht]; exact hT.2.2.2.2.2.2 i hi4
  have hok : okTm nt t := by rw [ht]; exact hv.2.1 i hi
  refine MX.of [(0, .ref 187), (1, .int (nI i)), (2, .int (nI x)), (3, .int fit), (4, .int high)] (by decide) rfl (Nat.le_of_ble_eq_true rfl) rfl ?_
  cases hfr : frS (t 3) θ with
  | some s =>
    obtain ⟨hs, hs2, hsn⟩ := frS_spec hok.2.2.2 hn hfr
    refine x_aload_n dX2_walkSecond_0 rfl ?_
    refine x_get lf_X2_69 dX2_walkSecond_1 hJ.1 rfl ?_
    refine x_get lf_X2_105 dX2_walkSecond_4 hT.2.2.1 rfl ?_
    refine x_iload_n dX2_walkSecond_7 rfl ?_
    refine x_aaldN (b := rl + 4 + i) (j := i) hT.2.2.2.2.1 rfl rfl (by omega) (by decide) (rTs_at (by omega)) dX2_walkSecond_8 ?_
    refine x_astore [(0, .ref 187), (1, .int (nI i)), (2, .int (nI x)), (3, .int fit), (4, .int high), (5, .ref (rl + 4 + i))] dX2_walkSecond_9 (by decide) rfl rfl ?_
    refine x_aload_n dX2_walkSecond_11 rfl ?_
    refine x_aload dX2_walkSecond_12 rfl ?_
    refine x_get lf_X2_89 dX2_walkSecond_14 htc rfl ?_
    refine x_callV (As := [.int (t 3)]) (st := []) lv_X2_109 (k_X2_freeSign hJ.1 hJ.2.1 hok.2.2.2 hn hθ) dX2_walkSecond_17 hJ.1 rfl rfl (Nat.le_of_ble_eq_true rfl) ⟨by show 1 + 1 ≤ d + 1; omega, by show 8 + (3 + 11) + 100 * 1 ≤ 100 * (d + 1); omega⟩ ⟨Nat.le_refl _, Nat.le_refl _⟩ (fun v h1 q => ?_) (fun _ _ _ _ _ q => by cases q.1)
    obtain ⟨ev, eh⟩ := q
    rw [eh]
    cases ev
    refine x_top (y := nI s) (by rw [hfr]; rfl) ?_
    refine x_istore [(0, .ref 187), (1, .int (nI i)), (2, .int (nI x)), (3, .int fit), (4, .int high), (5, .ref (rl + 4 + i)), (6, .int (nI s))] dX2_walkSecond_20 (by decide) rfl rfl ?_
    refine x_iload dX2_walkSecond_22 rfl ?_
    refine x_iconst (v := (-1)) dX2_walkSecond_24 (by decide) ?_
    refine x_icmp_ne 43 dX2_walkSecond_25 (by decide) (fun c_25 => ?_) (fun c_25 => absurd c_25 (nI_m1 (show s < 2 ^ 31 by omega)))
    refine x_iconst (v := 0) dX2_walkSecond_43 (by decide) ?_
    refine x_istore [(0, .ref 187), (1, .int (nI i)), (2, .int (nI x)), (3, .int fit), (4, .int high), (5, .ref (rl + 4 + i)), (6, .int (nI s)), (7, .int 0)] dX2_walkSecond_44 (by decide) rfl rfl ?_
    refine x_iload dX2_walkSecond_46 rfl ?_
    refine x_iconst (v := (-1)) dX2_walkSecond_48 (by decide) ?_
    refine x_icmp_ne 57 dX2_walkSecond_49 (by decide) (fun c_49 => ?_) (fun c_49 => absurd c_49 (nI_m1 (show s < 2 ^ 31 by omega)))
    refine x_aload_n dX2_walkSecond_57 rfl ?_
    refine x_get lf_X2_18 dX2_walkSecond_58 hJ.1 rfl ?_
    refine x_get lf_X2_117 dX2_walkSecond_61 hT.1 rfl ?_
    refine x_get lf_X2_123 dX2_walkSecond_64 hT.2.1 rfl ?_
    refine x_iconst (v := 1) dX2_walkSecond_67 (by decide) ?_
    refine x_isub dX2_walkSecond_68 ?_
    refine x_istore [(0, .ref 187), (1, .int (nI i)), (2, .int (nI x)), (3, .int fit), (4, .int high), (5, .ref (rl + 4 + i)), (6, .int (nI s)), (7, .int 0), (8, .int ((nI nt) - 1))] dX2_walkSecond_69 (by decide) rfl rfl ?_
    refine x_aload dX2_walkSecond_71 rfl ?_
    refine x_get lf_X2_134 dX2_walkSecond_73 htc rfl ?_
    refine x_if_ne 83 dX2_walkSecond_76 (by decide) (fun c_76 => ?_) (fun c_76 => ?_)
    · refine x_iconst (v := 0) dX2_walkSecond_83 (by decide) ?_
      refine x_istore [(0, .ref 187), (1, .int (nI i)), (2, .int (nI x)), (3, .int fit), (4, .int high), (5, .ref (rl + 4 + i)), (6, .int (nI s)), (7, .int 0), (8, .int ((nI nt) - 1)), (9, .int 0)] dX2_walkSecond_84 (by decide) rfl rfl ?_
      refine x_aload dX2_walkSecond_86 rfl ?_
      refine x_get lf_X2_44 dX2_walkSecond_88 htc rfl ?_
      refine x_bipush (v := 10) dX2_walkSecond_91 (by decide) ?_
      refine x_imul dX2_walkSecond_93 ?_
      refine x_iload_n dX2_walkSecond_94 rfl ?_
      refine x_iadd dX2_walkSecond_95 ?_
      refine x_istore [(0, .ref 187), (1, .int (nI i)), (2, .int (nI x)), (3, .int fit), (4, .int high), (5, .ref (rl + 4 + i)), (6, .int (nI s)), (7, .int 0), (8, .int ((nI nt) - 1)), (9, .int 0), (10, .int (((t 1) * 10) + (nI x)))] dX2_walkSecond_96 (by decide) rfl rfl ?_
      refine x_iload dX2_walkSecond_98 rfl ?_
      refine x_istore [(0, .ref 187), (1, .int (nI i)), (2, .int (nI x)), (3, .int fit), (4, .int high), (5, .ref (rl + 4 + i)), (6, .int (nI s)), (7, .int 0), (8, .int ((nI nt) - 1)), (9, .int 0), (10, .int (((t 1) * 10) + (nI x))), (11, .int 0)] dX2_walkSecond_100 (by decide) rfl rfl ?_
      refine x_ls _ [0, 1, 2, 3, 4, 6, 8, 9, 10, 11] rfl ?_
      rw [show rng (t 3) θ nt = List.range' 0 (nt - 0) by rw [rng, hfr, List.range_eq_range']; rfl]
      exact l_ws_S hm hr hv hn hi ht hx hθ hbn hb2 hd hgo hfr hs hsn rfl (ia := false) ⟨fun q => (by cases q), fun q => absurd q c_76⟩ (tt_m1 hn) (fun q => by cases q) (nt + 1) 0 θ σ h (by omega) (by omega) (Or.inl rfl) hJ hT hw (xfr_rf _ _)
    · refine x_iconst (v := 1) dX2_walkSecond_79 (by decide) ?_
      refine x_goto 84 dX2_walkSecond_80 (by decide) ?_
      refine x_istore [(0, .ref 187), (1, .int (nI i)), (2, .int (nI x)), (3, .int fit), (4, .int high), (5, .ref (rl + 4 + i)), (6, .int (nI s)), (7, .int 0), (8, .int ((nI nt) - 1)), (9, .int 1)] dX2_walkSecond_84 (by decide) rfl rfl ?_
      refine x_aload dX2_walkSecond_86 rfl ?_
      refine x_get lf_X2_44 dX2_walkSecond_88 htc rfl ?_
      refine x_bipush (v := 10) dX2_walkSecond_91 (by decide) ?_
      refine x_imul dX2_walkSecond_93 ?_
      refine x_iload_n dX2_walkSecond_94 rfl ?_
      refine x_iadd dX2_walkSecond_95 ?_
      refine x_istore [(0, .ref 187), (1, .int (nI i)), (2, .int (nI x)), (3, .int fit), (4, .int high), (5, .ref (rl + 4 + i)), (6, .int (nI s)), (7, .int 0), (8, .int ((nI nt) - 1)), (9, .int 1), (10, .int (((t 1) * 10) + (nI x)))] dX2_walkSecond_96 (by decide) rfl rfl ?_
      refine x_iload dX2_walkSecond_98 rfl ?_
      refine x_istore [(0, .ref 187), (1, .int (nI i)), (2, .int (nI x)), (3, .int fit), (4, .int high), (5, .ref (rl + 4 + i)), (6, .int (nI s)), (7, .int 0), (8, .int ((nI nt) - 1)), (9, .int 1), (10, .int (((t 1) * 10) + (nI x))), (11, .int 0)] dX2_walkSecond_100 (by decide) rfl rfl ?_
      refine x_ls _ [0, 1, 2, 3, 4, 6, 8, 9, 10, 11] rfl ?_
      rw [show rng (t 3) θ nt = List.range' 0 (nt - 0) by rw [rng, hfr, List.range_eq_range']; rfl]
      exact l_ws_S hm hr hv hn hi ht hx hθ hbn hb2 hd hgo hfr hs hsn rfl (ia := true) ⟨fun _ => c_76, fun _ => rfl⟩ (tt_m1 hn) (fun _ => by rw [(hok.2.1 (by rw [c_76]; decide)).1, show (10 : Int32) = nI 10 from rfl, pk_mul, nI_add, nI_clamp (by have := (hok.2.1 (by rw [c_76]; decide)).2; omega)]) (nt + 1) 0 θ σ h (by omega) (by omega) (Or.inl rfl) hJ hT hw (xfr_rf _ _)
  | none =>
    have hth := thO_lt hok.2.2.2 hθ hn
    refine x_aload_n dX2_walkSecond_0 rfl ?_
    refine x_get lf_X2_69 dX2_walkSecond_1 hJ.1 rfl ?_
    refine x_get lf_X2_105 dX2_walkSecond_4 hT.2.2.1 rfl ?_
    refine x_iload_n dX2_walkSecond_7 rfl ?_
    refine x_aaldN (b := rl + 4 + i) (j := i) hT.2.2.2.2.1 rfl rfl (by omega) (by decide) (rTs_at (by omega)) dX2_walkSecond_8 ?_
    refine x_astore [(0, .ref 187), (1, .int (nI i)), (2, .int (nI x)), (3, .int fit), (4, .int high), (5, .ref (rl + 4 + i))] dX2_walkSecond_9 (by decide) rfl rfl ?_
    refine x_aload_n dX2_walkSecond_11 rfl ?_
    refine x_aload dX2_walkSecond_12 rfl ?_
    refine x_get lf_X2_89 dX2_walkSecond_14 htc rfl ?_
    refine x_callV (As := [.int (t 3)]) (st := []) lv_X2_109 (k_X2_freeSign hJ.1 hJ.2.1 hok.2.2.2 hn hθ) dX2_walkSecond_17 hJ.1 rfl rfl (Nat.le_of_ble_eq_true rfl) ⟨by show 1 + 1 ≤ d + 1; omega, by show 8 + (3 + 11) + 100 * 1 ≤ 100 * (d + 1); omega⟩ ⟨Nat.le_refl _, Nat.le_refl _⟩ (fun v h1 q => ?_) (fun _ _ _ _ _ q => by cases q.1)
    obtain ⟨ev, eh⟩ := q
    rw [eh]
    cases ev
    refine x_top (y := -1) (by rw [hfr]; rfl) ?_
    refine x_istore [(0, .ref 187), (1, .int (nI i)), (2, .int (nI x)), (3, .int fit), (4, .int high), (5, .ref (rl + 4 + i)), (6, .int (-1))] dX2_walkSecond_20 (by decide) rfl rfl ?_
    refine x_iload dX2_walkSecond_22 rfl ?_
    refine x_iconst (v := (-1)) dX2_walkSecond_24 (by decide) ?_
    refine x_icmp_ne 43 dX2_walkSecond_25 (by decide) (fun c => absurd c (by decide)) (fun _ => ?_)
    refine x_aload dX2_walkSecond_28 rfl ?_
    refine x_get lf_X2_89 dX2_walkSecond_30 htc rfl ?_
    refine x_aload_n dX2_walkSecond_33 rfl ?_
    refine x_get lf_X2_9 dX2_walkSecond_34 hJ.1 rfl ?_
    refine x_callS (As := [.int (t 3), .ref 188]) (st := []) ls_X2_113 (k_X2_thingOf hJ.2.1 hok.2.2.2 hn (frS_no (nt := nt) hfr)) dX2_walkSecond_37 rfl rfl (Nat.le_of_ble_eq_true rfl) ⟨by show 1 + 1 ≤ d + 1; omega, by show 8 + (2 + 11) + 100 * 1 ≤ 100 * (d + 1); omega⟩ ⟨Nat.le_refl _, Nat.le_refl _⟩ (fun v h1 q => ?_) (fun _ _ _ _ _ q => by cases q.1)
    obtain ⟨ev, eh⟩ := q
    rw [eh]
    cases ev
    refine x_goto 44 dX2_walkSecond_40 (by decide) ?_
    refine x_istore [(0, .ref 187), (1, .int (nI i)), (2, .int (nI x)), (3, .int fit), (4, .int high), (5, .ref (rl + 4 + i)), (6, .int (-1)), (7, .int (nI (thO (t 3) θ)))] dX2_walkSecond_44 (by decide) rfl rfl ?_
    refine x_iload dX2_walkSecond_46 rfl ?_
    refine x_iconst (v := (-1)) dX2_walkSecond_48 (by decide) ?_
    refine x_icmp_ne 57 dX2_walkSecond_49 (by decide) (fun c => absurd c (by decide)) (fun _ => ?_)
    refine x_iload dX2_walkSecond_52 rfl ?_
    refine x_goto 69 dX2_walkSecond_54 (by decide) ?_
    refine x_istore [(0, .ref 187), (1, .int (nI i)), (2, .int (nI x)), (3, .int fit), (4, .int high), (5, .ref (rl + 4 + i)), (6, .int (-1)), (7, .int (nI (thO (t 3) θ))), (8, .int (nI (thO (t 3) θ)))] dX2_walkSecond_69 (by decide) rfl rfl ?_
    refine x_aload dX2_walkSecond_71 rfl ?_
    refine x_get lf_X2_134 dX2_walkSecond_73 htc rfl ?_
    refine x_if_ne 83 dX2_walkSecond_76 (by decide) (fun c_76 => ?_) (fun c_76 => ?_)
    · refine x_iconst (v := 0) dX2_walkSecond_83 (by decide) ?_
      refine x_istore [(0, .ref 187), (1, .int (nI i)), (2, .int (nI x)), (3, .int fit), (4, .int high), (5, .ref (rl + 4 + i)), (6, .int (-1)), (7, .int (nI (thO (t 3) θ))), (8, .int (nI (thO (t 3) θ))), (9, .int 0)] dX2_walkSecond_84 (by decide) rfl rfl ?_
      refine x_aload dX2_walkSecond_86 rfl ?_
      refine x_get lf_X2_44 dX2_walkSecond_88 htc rfl ?_
      refine x_bipush (v := 10) dX2_walkSecond_91 (by decide) ?_
      refine x_imul dX2_walkSecond_93 ?_
      refine x_iload_n dX2_walkSecond_94 rfl ?_
      refine x_iadd dX2_walkSecond_95 ?_
      refine x_istore [(0, .ref 187), (1, .int (nI i)), (2, .int (nI x)), (3, .int fit), (4, .int high), (5, .ref (rl + 4 + i)), (6, .int (-1)), (7, .int (nI (thO (t 3) θ))), (8, .int (nI (thO (t 3) θ))), (9, .int 0), (10, .int (((t 1) * 10) + (nI x)))] dX2_walkSecond_96 (by decide) rfl rfl ?_
      refine x_iload dX2_walkSecond_98 rfl ?_
      refine x_istore [(0, .ref 187), (1, .int (nI i)), (2, .int (nI x)), (3, .int fit), (4, .int high), (5, .ref (rl + 4 + i)), (6, .int (-1)), (7, .int (nI (thO (t 3) θ))), (8, .int (nI (thO (t 3) θ))), (9, .int 0), (10, .int (((t 1) * 10) + (nI x))), (11, .int (nI (thO (t 3) θ)))] dX2_walkSecond_100 (by decide) rfl rfl ?_
      refine x_ls _ [0, 1, 2, 3, 4, 6, 8, 9, 10, 11] rfl ?_
      rw [show rng (t 3) θ nt = List.range' (thO (t 3) θ) (thO (t 3) θ + 1 - thO (t 3) θ) by rw [rng, hfr, show thO (t 3) θ + 1 - thO (t 3) θ = 1 by omega]; rfl]
      exact l_ws_N hm hr hv hn hi ht hx hθ hbn hb2 hd hgo hfr (by omega) (ia := false) ⟨fun q => (by cases q), fun q => absurd q c_76⟩ (tt_y hth) (fun q => by cases q) 2 _ σ h (by omega) (by omega) hJ hT hw (xfr_rf _ _)
    · refine x_iconst (v := 1) dX2_walkSecond_79 (by decide) ?_
      refine x_goto 84 dX2_walkSecond_80 (by decide) ?_
      refine x_istore [(0, .ref 187), (1, .int (nI i)), (2, .int (nI x)), (3, .int fit), (4, .int high), (5, .ref (rl + 4 + i)), (6, .int (-1)), (7, .int (nI (thO (t 3) θ))), (8, .int (nI (thO (t 3) θ))), (9, .int 1)] dX2_walkSecond_84 (by decide) rfl rfl ?_
      refine x_aload dX2_walkSecond_86 rfl ?_
      refine x_get lf_X2_44 dX2_walkSecond_88 htc rfl ?_
      refine x_bipush (v := 10) dX2_walkSecond_91 (by decide) ?_
      refine x_imul dX2_walkSecond_93 ?_
      refine x_iload_n dX2_walkSecond_94 rfl ?_
      refine x_iadd dX2_walkSecond_95 ?_
      refine x_istore [(0, .ref 187), (1, .int (nI i)), (2, .int (nI x)), (3, .int fit), (4, .int high), (5, .ref (rl + 4 + i)), (6, .int (-1)), (7, .int (nI (thO (t 3) θ))), (8, .int (nI (thO (t 3) θ))), (9, .int 1), (10, .int (((t 1) * 10) + (nI x)))] dX2_walkSecond_96 (by decide) rfl rfl ?_
      refine x_iload dX2_walkSecond_98 rfl ?_
      refine x_istore [(0, .ref 187), (1, .int (nI i)), (2, .int (nI x)), (3, .int fit), (4, .int high), (5, .ref (rl + 4 + i)), (6, .int (-1)), (7, .int (nI (thO (t 3) θ))), (8, .int (nI (thO (t 3) θ))), (9, .int 1), (10, .int (((t 1) * 10) + (nI x))), (11, .int (nI (thO (t 3) θ)))] dX2_walkSecond_100 (by decide) rfl rfl ?_
      refine x_ls _ [0, 1, 2, 3, 4, 6, 8, 9, 10, 11] rfl ?_
      rw [show rng (t 3) θ nt = List.range' (thO (t 3) θ) (thO (t 3) θ + 1 - thO (t 3) θ) by rw [rng, hfr, show thO (t 3) θ + 1 - thO (t 3) θ = 1 by omega]; rfl]
      exact l_ws_N hm hr hv hn hi ht hx hθ hbn hb2 hd hgo hfr (by omega) (ia := true) ⟨fun _ => c_76, fun _ => rfl⟩ (tt_y hth) (fun _ => by rw [(hok.2.1 (by rw [c_76]; decide)).1, show (10 : Int32) = nI 10 from rfl, pk_mul, nI_add, nI_clamp (by have := (hok.2.1 (by rw [c_76]; decide)).2; omega)]) 2 _ σ h (by omega) (by omega) hJ hT hw (xfr_rf _ _)
