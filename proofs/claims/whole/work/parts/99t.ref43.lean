/-! the reference: atomOf, holds where not all SIGNS are given -/
set_option maxRecDepth 100000 in
set_option maxHeartbeats 4000000 in
theorem k_X14_argOfB {G : xG} {h : xHp} {g : Nat → Int32} {w : Int64} {nw : Value} {ar : Nat → Nat → Int32} {tw : Nat → Int64} {kw : Nat → Int64} {rf : Nat → Option Nat} (M : MH h g w nw ar tw kw rf) {nt : Nat} {θ : Nat → Option Nat} (hgv : ∀ s, s < 3 → θ s ≠ none → ar 220 s = enT (θ s)) (hn : nt ≤ 10) {x : Int32} (hx : okA nt x) (hb : ∀ s, s < 3 → x = nI (100 + s) → θ s ≠ none) : MX G mX14_argOf 1 0 0 [.ref 205, .int x] h (xAns (.int (nI (thO x θ))) h) := by
  refine MX.of [(0, .ref 205), (1, .int x)] (by decide) rfl (Nat.le_of_ble_eq_true rfl) rfl ?_
  refine x_iload_n dX14_argOf_0 rfl ?_
  refine x_iconst (v := (-1)) dX14_argOf_1 (by decide) ?_
  refine x_icmp_ne 9 dX14_argOf_2 (by decide) (fun c_2 => ?_) (fun c_2 => ?_)
  · refine x_iload_n dX14_argOf_9 rfl ?_
    refine x_bipush (v := 100) dX14_argOf_10 (by decide) ?_
    refine x_icmp_lt 27 dX14_argOf_12 (by decide) (fun c_12 => ?_) (fun c_12 => ?_)
    · have eX : x = nI (thO x θ) := by rcases okA_lt hx hn c_12 with e | ⟨t, ht, e⟩; exact absurd e c_2; rw [e, thO_th (by omega)]
      refine x_iload_n dX14_argOf_27 rfl ?_
      exact x_iret dX14_argOf_28 rfl rfl (Nat.le_refl _) (Nat.le_refl _) (⟨by rw [← eX], rfl⟩)
    · obtain ⟨s, hs, rfl⟩ := okA_ge hx hn c_12
      have eT : ar 220 s = nI (thO (nI (100 + s)) θ) := by rw [hgv s hs (hb s hs rfl), thO_sg hs]; cases e : θ s with | none => exact absurd e (hb s hs rfl) | some t => rfl
      refine x_aload_n dX14_argOf_15 rfl ?_
      refine x_get lf_X14_66 dX14_argOf_16 M.o rfl ?_
      refine x_iload_n dX14_argOf_19 rfl ?_
      refine x_bipush (v := 100) dX14_argOf_20 (by decide) ?_
      refine x_isub dX14_argOf_22 ?_
      refine x_top (y := nI s) (sg_sub hs) ?_
      refine x_ialdN (j := s) (M.a 220 0 3 rfl) rfl (by omega) (by decide) dX14_argOf_23 ?_
      refine x_goto 28 dX14_argOf_24 (by decide) ?_
      exact x_iret dX14_argOf_28 rfl rfl (Nat.le_refl _) (Nat.le_refl _) (⟨by rw [eT], rfl⟩)
  · refine x_iconst (v := 0) dX14_argOf_5 (by decide) ?_
    refine x_goto 28 dX14_argOf_6 (by decide) ?_
    exact x_iret dX14_argOf_28 rfl rfl (Nat.le_refl _) (Nat.le_refl _) (⟨by rw [c_2]; rfl, rfl⟩)
set_option maxRecDepth 100000 in
set_option maxHeartbeats 4000000 in
theorem k_X14_atomOfB {G : xG} {h : xHp} {g : Nat → Int32} {w : Int64} {nw : Value} {ar : Nat → Nat → Int32} {tw : Nat → Int64} {kw : Nat → Int64} {rf : Nat → Option Nat} (M : MH h g w nw ar tw kw rf) {nt : Nat} {θ : Nat → Option Nat} (hgv : ∀ s, s < 3 → θ s ≠ none → ar 220 s = enT (θ s)) (hn : nt ≤ 10) {a : Nat} {v : RV} (rv : rmV h a v) (hz : v.2.2.1 ≤ 4) {i kd9 : Nat} (hi : i ≤ v.2.2.1) (hk : tmI v i 1 = nI kd9) (hk9 : kd9 < 10) (h2 : okA nt (tmI v i 2)) (h3 : okA nt (tmI v i 3)) (hb2 : ∀ s, s < 3 → tmI v i 2 = nI (100 + s) → θ s ≠ none) (hb3 : ∀ s, s < 3 → tmI v i 3 = nI (100 + s) → θ s ≠ none) : MX G mX14_atomOf 2 0 0 [.ref 205, .ref a, .int (nI i)] h (xAns (.int (nI (nmP (tmI v i) θ))) h) := by
  obtain ⟨so, kd, on, tz, lt, rc9, ri⟩ := rv
  refine MX.of [(0, .ref 205), (1, .ref a), (2, .int (nI i))] (by decide) rfl (Nat.le_of_ble_eq_true rfl) rfl ?_
  refine x_bipush (v := 100) dX14_atomOf_0 (by decide) ?_
  refine x_aload_n dX14_atomOf_2 rfl ?_
  refine x_get lf_X14_171 dX14_atomOf_3 rc9.1 rfl ?_
  refine x_iload_n dX14_atomOf_6 rfl ?_
  refine x_ialdN (j := i) rc9.2.2.1 rfl (by omega) (by decide) dX14_atomOf_7 ?_
  refine x_top ((ri i hi).2.1.trans hk) ?_
  refine x_imul dX14_atomOf_8 ?_
  refine x_top (y := nI (100 * kd9)) (pk_mul 100 kd9) ?_
  refine x_bipush (v := 10) dX14_atomOf_9 (by decide) ?_
  refine x_aload_n dX14_atomOf_11 rfl ?_
  refine x_aload_n dX14_atomOf_12 rfl ?_
  refine x_get lf_X14_173 dX14_atomOf_13 rc9.1 rfl ?_
  refine x_iload_n dX14_atomOf_16 rfl ?_
  refine x_ialdN (j := i) rc9.2.2.2.1 rfl (by omega) (by decide) dX14_atomOf_17 ?_
  refine x_top (ri i hi).2.2.1 ?_
  refine x_callV (As := [.int (tmI v i 2)]) (st := [.int 10, .int (nI (100 * kd9))]) lv_X14_266 (k_X14_argOfB M hgv hn h2 hb2) dX14_atomOf_18 M.o rfl rfl (Nat.le_of_ble_eq_true rfl) ⟨by decide, by decide⟩ ⟨by decide, by decide⟩ (fun v9 h9 z => ?_) (fun _ _ _ _ _ z => by cases z.1)
  obtain ⟨ev, eh⟩ := z
  rw [eh]
  cases ev
  refine x_imul dX14_atomOf_21 ?_
  refine x_top (y := nI (10 * (thO (tmI v i 2) θ))) (pk_mul 10 (thO (tmI v i 2) θ)) ?_
  refine x_iadd dX14_atomOf_22 ?_
  refine x_top (y := nI ((100 * kd9) + (10 * (thO (tmI v i 2) θ)))) (nI_add (100 * kd9) (10 * (thO (tmI v i 2) θ))) ?_
  refine x_aload_n dX14_atomOf_23 rfl ?_
  refine x_aload_n dX14_atomOf_24 rfl ?_
  refine x_get lf_X14_176 dX14_atomOf_25 rc9.1 rfl ?_
  refine x_iload_n dX14_atomOf_28 rfl ?_
  refine x_ialdN (j := i) rc9.2.2.2.2.1 rfl (by omega) (by decide) dX14_atomOf_29 ?_
  refine x_top (ri i hi).2.2.2 ?_
  refine x_callV (As := [.int (tmI v i 3)]) (st := [.int (nI ((100 * kd9) + (10 * (thO (tmI v i 2) θ))))]) lv_X14_266 (k_X14_argOfB M hgv hn h3 hb3) dX14_atomOf_30 M.o rfl rfl (Nat.le_of_ble_eq_true rfl) ⟨by decide, by decide⟩ ⟨by decide, by decide⟩ (fun v9 h9 z => ?_) (fun _ _ _ _ _ z => by cases z.1)
  obtain ⟨ev, eh⟩ := z
  rw [eh]
  cases ev
  refine x_iadd dX14_atomOf_33 ?_
  refine x_top (y := nI (((100 * kd9) + (10 * (thO (tmI v i 2) θ))) + (thO (tmI v i 3) θ))) (nI_add ((100 * kd9) + (10 * (thO (tmI v i 2) θ))) (thO (tmI v i 3) θ)) ?_
  refine x_iret dX14_atomOf_34 rfl rfl (Nat.le_refl _) (Nat.le_refl _) ⟨?_, rfl⟩
  rw [show nmP (tmI v i) θ = 100 * kd9 + 10 * thO (tmI v i 2) θ + thO (tmI v i 3) θ by unfold nmP; rw [hk, nI_clamp (by omega)]; omega]
set_option maxRecDepth 100000 in
set_option maxHeartbeats 4000000 in
theorem k_X14_holdsB {G : xG} {h : xHp} {g : Nat → Int32} {w : Int64} {nw : Value} {ar : Nat → Nat → Int32} {tw : Nat → Int64} {kw : Nat → Int64} {rf : Nat → Option Nat} (M : MH h g w nw ar tw kw rf) {nt : Nat} {θ : Nat → Option Nat} (hgv : ∀ s, s < 3 → θ s ≠ none → ar 220 s = enT (θ s)) (hn : nt ≤ 10) (hθ : okTh nt θ) {a : Nat} {v : RV} (rv : rmV h a v) (hv : okRl nt v) {s : Nat → Option Nat} (hs : stO (ar 219) s) {j : Nat} (hj : j < v.2.2.1) (hb : ∀ s, s < 3 → sgIn (v.2.1 j) s → θ s ≠ none) : MX G mX14_holds 3 0 0 [.ref 205, .ref a, .int (nI (j + 1))] h (xAsk (tmH (v.2.1 j) θ s) h) := by
  refine MX.of [(0, .ref 205), (1, .ref a), (2, .int (nI (j + 1)))] (by decide) rfl (Nat.le_of_ble_eq_true rfl) rfl ?_
  have hz4 := hv.1
  obtain ⟨so, kd, on, tz, lt, rc9, rI⟩ := id rv
  have r9 := rmI_t rI hj
  have ht := hv.2.1 j hj
  refine x_aload_n dX14_holds_0 rfl ?_
  refine x_get lf_X14_169 dX14_holds_1 rc9.1 rfl ?_
  refine x_iload_n dX14_holds_4 rfl ?_
  refine x_ialdN (j := j + 1) rc9.2.1 rfl (by omega) (by decide) dX14_holds_5 ?_
  refine x_top (y := v.2.1 j 0) r9.1 ?_
  refine x_iconst (v := 2) dX14_holds_6 (by decide) ?_
  refine x_icmp_ne 39 dX14_holds_7 (by decide) (fun c_7 => ?_) (fun c_7 => ?_)
  · refine x_aload_n dX14_holds_39 rfl ?_
    refine x_get lf_X14_63 dX14_holds_40 M.o rfl ?_
    refine x_aload_n dX14_holds_43 rfl ?_
    refine x_aload_n dX14_holds_44 rfl ?_
    refine x_iload_n dX14_holds_45 rfl ?_
    obtain ⟨hk1, hk2⟩ := ht.2.1 c_7
    have hnl : nmP (v.2.1 j) θ < 1000 := nmP_lt hk2 ht.2.2.1 ht.2.2.2 hθ hn
    have hs9 := hs _ hnl
    refine x_callV (As := [.ref a, .int (nI (j + 1))]) (st := [.ref 219]) lv_X14_273 (k_X14_atomOfB M hgv hn rv hv.1 (i := j + 1) (kd9 := (v.2.1 j 1).toNatClampNeg) hj hk1 hk2 ht.2.2.1 ht.2.2.2 (fun s h1 h2 => hb s h1 (Or.inl h2)) (fun s h1 h2 => hb s h1 (Or.inr h2))) dX14_holds_46 M.o rfl rfl (Nat.le_of_ble_eq_true rfl) ⟨by decide, by decide⟩ ⟨by decide, by decide⟩ (fun v9 h9 z => ?_) (fun _ _ _ _ _ z => by cases z.1)
    obtain ⟨ev, eh⟩ := z
    rw [eh]
    cases ev
    refine x_ialdN (j := nmP (v.2.1 j) θ) (M.a 219 0 1000 rfl) rfl (by omega) (by decide) dX14_holds_49 ?_
    refine x_top hs9.1 ?_
    refine x_ldc kc_X14_253 dX14_holds_50 ?_
    refine x_icmp_ge 59 dX14_holds_52 (by decide) (fun c_52 => ?_) (fun c_52 => ?_)
    · refine x_iconst (v := 0) dX14_holds_59 (by decide) ?_
      refine x_aload_n dX14_holds_60 rfl ?_
      refine x_get lf_X14_169 dX14_holds_61 rc9.1 rfl ?_
      refine x_iload_n dX14_holds_64 rfl ?_
      refine x_ialdN (j := j + 1) rc9.2.1 rfl (by omega) (by decide) dX14_holds_65 ?_
      refine x_top (y := v.2.1 j 0) r9.1 ?_
      refine x_if_ne 73 dX14_holds_66 (by decide) (fun c_66 => ?_) (fun c_66 => ?_)
      · refine x_iconst (v := 0) dX14_holds_73 (by decide) ?_
        refine x_icmp_ne 81 dX14_holds_74 (by decide) (fun c => absurd c (by decide)) (fun _ => ?_)
        refine x_iconst (v := 1) dX14_holds_77 (by decide) ?_
        refine x_goto 82 dX14_holds_78 (by decide) ?_
        exact x_iret dX14_holds_82 rfl rfl (Nat.le_refl _) (Nat.le_refl _) ⟨true, rfl, rfl, (by first | exact absurd rfl c_74 | exact absurd c_74 (by decide) | (rw [tmH_0 c_7 c_66, ← enS_ge hs9.2]; exact ⟨fun z => by first | exact c_52 | (cases z; done), fun z => by first | rfl | exact absurd c_52 z⟩) | (rw [tmH_1 c_7 c_66, ← enS_ge hs9.2]; exact ⟨fun z => by first | exact c_52 | (cases z; done), fun z => by first | rfl | exact absurd z c_52⟩))⟩
      · refine x_iconst (v := 1) dX14_holds_69 (by decide) ?_
        refine x_goto 74 dX14_holds_70 (by decide) ?_
        refine x_icmp_ne 81 dX14_holds_74 (by decide) (fun _ => ?_) (fun c => absurd c (by decide))
        refine x_iconst (v := 0) dX14_holds_81 (by decide) ?_
        exact x_iret dX14_holds_82 rfl rfl (Nat.le_refl _) (Nat.le_refl _) ⟨false, rfl, rfl, (by first | exact absurd rfl c_74 | exact absurd c_74 (by decide) | (rw [tmH_0 c_7 c_66, ← enS_ge hs9.2]; exact ⟨fun z => by first | exact c_52 | (cases z; done), fun z => by first | rfl | exact absurd c_52 z⟩) | (rw [tmH_1 c_7 c_66, ← enS_ge hs9.2]; exact ⟨fun z => by first | exact c_52 | (cases z; done), fun z => by first | rfl | exact absurd z c_52⟩))⟩
    · refine x_iconst (v := 1) dX14_holds_55 (by decide) ?_
      refine x_goto 60 dX14_holds_56 (by decide) ?_
      refine x_aload_n dX14_holds_60 rfl ?_
      refine x_get lf_X14_169 dX14_holds_61 rc9.1 rfl ?_
      refine x_iload_n dX14_holds_64 rfl ?_
      refine x_ialdN (j := j + 1) rc9.2.1 rfl (by omega) (by decide) dX14_holds_65 ?_
      refine x_top (y := v.2.1 j 0) r9.1 ?_
      refine x_if_ne 73 dX14_holds_66 (by decide) (fun c_66 => ?_) (fun c_66 => ?_)
      · refine x_iconst (v := 0) dX14_holds_73 (by decide) ?_
        refine x_icmp_ne 81 dX14_holds_74 (by decide) (fun _ => ?_) (fun c => absurd c (by decide))
        refine x_iconst (v := 0) dX14_holds_81 (by decide) ?_
        exact x_iret dX14_holds_82 rfl rfl (Nat.le_refl _) (Nat.le_refl _) ⟨false, rfl, rfl, (by first | exact absurd rfl c_74 | exact absurd c_74 (by decide) | (rw [tmH_0 c_7 c_66, ← enS_ge hs9.2]; exact ⟨fun z => by first | exact c_52 | (cases z; done), fun z => by first | rfl | exact absurd c_52 z⟩) | (rw [tmH_1 c_7 c_66, ← enS_ge hs9.2]; exact ⟨fun z => by first | exact c_52 | (cases z; done), fun z => by first | rfl | exact absurd z c_52⟩))⟩
      · refine x_iconst (v := 1) dX14_holds_69 (by decide) ?_
        refine x_goto 74 dX14_holds_70 (by decide) ?_
        refine x_icmp_ne 81 dX14_holds_74 (by decide) (fun c => absurd c (by decide)) (fun _ => ?_)
        refine x_iconst (v := 1) dX14_holds_77 (by decide) ?_
        refine x_goto 82 dX14_holds_78 (by decide) ?_
        exact x_iret dX14_holds_82 rfl rfl (Nat.le_refl _) (Nat.le_refl _) ⟨true, rfl, rfl, (by first | exact absurd rfl c_74 | exact absurd c_74 (by decide) | (rw [tmH_0 c_7 c_66, ← enS_ge hs9.2]; exact ⟨fun z => by first | exact c_52 | (cases z; done), fun z => by first | rfl | exact absurd c_52 z⟩) | (rw [tmH_1 c_7 c_66, ← enS_ge hs9.2]; exact ⟨fun z => by first | exact c_52 | (cases z; done), fun z => by first | rfl | exact absurd z c_52⟩))⟩
  · refine x_aload_n dX14_holds_10 rfl ?_
    refine x_aload_n dX14_holds_11 rfl ?_
    refine x_get lf_X14_173 dX14_holds_12 rc9.1 rfl ?_
    refine x_iload_n dX14_holds_15 rfl ?_
    refine x_ialdN (j := j + 1) rc9.2.2.2.1 rfl (by omega) (by decide) dX14_holds_16 ?_
    refine x_top (y := v.2.1 j 2) r9.2.2.1 ?_
    have ht2 := thO_lt (θ := θ) ht.2.2.1 hθ hn
    refine x_callV (As := [.int (v.2.1 j 2)]) (st := []) lv_X14_266 (k_X14_argOfB M hgv hn ht.2.2.1 (fun s h1 h2 => hb s h1 (Or.inl h2))) dX14_holds_17 M.o rfl rfl (Nat.le_of_ble_eq_true rfl) ⟨by decide, by decide⟩ ⟨by decide, by decide⟩ (fun v9 h9 z => ?_) (fun _ _ _ _ _ z => by cases z.1)
    obtain ⟨ev, eh⟩ := z
    rw [eh]
    cases ev
    refine x_aload_n dX14_holds_20 rfl ?_
    refine x_aload_n dX14_holds_21 rfl ?_
    refine x_get lf_X14_176 dX14_holds_22 rc9.1 rfl ?_
    refine x_iload_n dX14_holds_25 rfl ?_
    refine x_ialdN (j := j + 1) rc9.2.2.2.2.1 rfl (by omega) (by decide) dX14_holds_26 ?_
    refine x_top (y := v.2.1 j 3) r9.2.2.2 ?_
    have ht3 := thO_lt (θ := θ) ht.2.2.2 hθ hn
    refine x_callV (As := [.int (v.2.1 j 3)]) (st := [.int (nI (thO (v.2.1 j 2) θ))]) lv_X14_266 (k_X14_argOfB M hgv hn ht.2.2.2 (fun s h1 h2 => hb s h1 (Or.inr h2))) dX14_holds_27 M.o rfl rfl (Nat.le_of_ble_eq_true rfl) ⟨by decide, by decide⟩ ⟨by decide, by decide⟩ (fun v9 h9 z => ?_) (fun _ _ _ _ _ z => by cases z.1)
    obtain ⟨ev, eh⟩ := z
    rw [eh]
    cases ev
    refine x_icmp_eq 37 dX14_holds_30 (by decide) (fun c_30 => ?_) (fun c_30 => ?_)
    · refine x_iconst (v := 0) dX14_holds_37 (by decide) ?_
      exact x_iret dX14_holds_38 rfl rfl (Nat.le_refl _) (Nat.le_refl _) ⟨false, rfl, rfl, (by rw [tmH_2 (by first | exact c_7 | exact Classical.not_not.mp c_7)]; first | exact ⟨fun _ z => c_30 (by rw [z]), fun _ => rfl⟩ | exact ⟨fun z => (by cases z), fun z => absurd ((nI_eq (by omega) (by omega)).mp c_30) z⟩)⟩
    · refine x_iconst (v := 1) dX14_holds_33 (by decide) ?_
      refine x_goto 38 dX14_holds_34 (by decide) ?_
      exact x_iret dX14_holds_38 rfl rfl (Nat.le_refl _) (Nat.le_refl _) ⟨true, rfl, rfl, (by rw [tmH_2 (by first | exact c_7 | exact Classical.not_not.mp c_7)]; first | exact ⟨fun _ z => c_30 (by rw [z]), fun _ => rfl⟩ | exact ⟨fun z => (by cases z), fun z => absurd ((nI_eq (by omega) (by omega)).mp c_30) z⟩)⟩
/-- so many SIGNS have THINGS -/
def tauO (sg : Nat) (τ : Nat → Nat) : Nat → Option Nat := fun s => if s < sg then some (τ s) else none
def gvT (f : Nat → Int32) (nt sg : Nat) (τ : Nat → Nat) : Prop := sg ≤ 3 ∧ ∀ s, s < sg → f s = nI (τ s) ∧ τ s < nt
theorem tau_thO {nt sg : Nat} {τ : Nat → Nat} {a : Int32} (hn : nt ≤ 10) (ha : okA nt a) (hb : ∀ s, s < 3 → a = nI (100 + s) → s < sg) : thO a (tauO sg τ) = thT a τ := by
  rcases ha with rfl | ⟨t, ht, rfl⟩ | ⟨s, hs, rfl⟩
  · rfl
  · rw [thO_th (by omega)]; exact (thO_th (by omega) _).symm
  · rw [thO_sg hs, thT_sg hs]
    show ((if s < sg then some (τ s) else none) : Option Nat).getD 0 = _
    rw [if_pos (hb s hs rfl)]; rfl
theorem tau_nm {nt sg : Nat} {τ : Nat → Nat} {t : Nat → Int32} (hn : nt ≤ 10) (h2 : okA nt (t 2)) (h3 : okA nt (t 3)) (hb : ∀ s, s < 3 → sgIn t s → s < sg) : nmP t (tauO sg τ) = nmT t τ := by
  unfold nmT nmP
  rw [tau_thO hn h2 (fun s h e => hb s h (Or.inl e)), tau_thO hn h3 (fun s h e => hb s h (Or.inr e))]
theorem tau_tm {nt sg : Nat} {τ : Nat → Nat} {t : Nat → Int32} {s : Nat → Option Nat} (hn : nt ≤ 10) (h2 : okA nt (t 2)) (h3 : okA nt (t 3)) (hb : ∀ s, s < 3 → sgIn t s → s < sg) : tmH t (tauO sg τ) s = tmHold t τ (fun n => (s n).isSome) := by
  unfold tmH tmHold
  rw [tau_nm hn h2 h3 hb, tau_thO hn h2 (fun s h e => hb s h (Or.inl e)), tau_thO hn h3 (fun s h e => hb s h (Or.inr e))]
theorem tau_ne {sg : Nat} {τ : Nat → Nat} {s : Nat} : tauO sg τ s ≠ none ↔ s < sg := by
  unfold tauO
  by_cases h : s < sg
  · rw [if_pos h]; exact ⟨fun _ => h, fun _ z => by cases z⟩
  · rw [if_neg h]; exact ⟨fun z => absurd rfl z, fun z => absurd z h⟩
theorem gvT.gv {f : Nat → Int32} {nt sg : Nat} {τ : Nat → Nat} (h : gvT f nt sg τ) : ∀ s, s < 3 → tauO sg τ s ≠ none → f s = enT (tauO sg τ s) := fun s _ z => by
  have hs := tau_ne.mp z
  rw [(h.2 s hs).1]
  unfold tauO
  rw [if_pos hs]; rfl
theorem gvT.ok {f : Nat → Int32} {nt sg : Nat} {τ : Nat → Nat} (h : gvT f nt sg τ) : okTh nt (tauO sg τ) := fun s t _ e => by
  have hs := tau_ne.mp (show tauO sg τ s ≠ none by rw [e]; intro z; cases z)
  unfold tauO at e
  rw [if_pos hs] at e
  cases e
  exact (h.2 s hs).2
theorem k_X14_holdsT {G : xG} {h : xHp} {g : Nat → Int32} {w : Int64} {nw : Value} {ar : Nat → Nat → Int32} {tw : Nat → Int64} {kw : Nat → Int64} {rf : Nat → Option Nat} (M : MH h g w nw ar tw kw rf) {nt sg : Nat} {τ : Nat → Nat} (hgv : gvT (ar 220) nt sg τ) (hn : nt ≤ 10) {a : Nat} {v : RV} (rv : rmV h a v) (hv : okRl nt v) {s : Nat → Option Nat} (hs : stO (ar 219) s) {j : Nat} (hj : j < v.2.2.1) (hb : ∀ s, s < 3 → sgIn (v.2.1 j) s → s < sg) : MX G mX14_holds 3 0 0 [.ref 205, .ref a, .int (nI (j + 1))] h (xAsk (tmHold (v.2.1 j) τ (fun n => (s n).isSome)) h) := by
  have ht := hv.2.1 j hj
  have K := k_X14_holdsB (G := G) M hgv.gv hn hgv.ok rv hv hs hj (fun s h1 h2 => tau_ne.mpr (hb s h1 h2))
  rw [tau_tm hn ht.2.2.1 ht.2.2.2 hb] at K
  exact K
theorem k_X14_atomT {G : xG} {h : xHp} {g : Nat → Int32} {w : Int64} {nw : Value} {ar : Nat → Nat → Int32} {tw : Nat → Int64} {kw : Nat → Int64} {rf : Nat → Option Nat} (M : MH h g w nw ar tw kw rf) {nt sg : Nat} {τ : Nat → Nat} (hgv : gvT (ar 220) nt sg τ) (hn : nt ≤ 10) {a : Nat} {v : RV} (rv : rmV h a v) (hv : okRl nt v) {i : Nat} (hi : i ≤ v.2.2.1) (hk : tmI v i 1 = nI ((tmI v i 1).toNatClampNeg)) (hk9 : (tmI v i 1).toNatClampNeg < 10) (h2 : okA nt (tmI v i 2)) (h3 : okA nt (tmI v i 3)) (hb : ∀ s, s < 3 → sgIn (tmI v i) s → s < sg) : MX G mX14_atomOf 2 0 0 [.ref 205, .ref a, .int (nI i)] h (xAns (.int (nI (nmT (tmI v i) τ))) h) := by
  have K := k_X14_atomOfB (G := G) M hgv.gv hn rv hv.1 hi hk hk9 h2 h3 (fun s h1 e => tau_ne.mpr (hb s h1 (Or.inl e))) (fun s h1 e => tau_ne.mpr (hb s h1 (Or.inr e)))
  rw [tau_nm hn h2 h3 hb] at K
  exact K
