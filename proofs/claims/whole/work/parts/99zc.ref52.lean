/-! the reference: loses -/
set_option maxRecDepth 100000 in
set_option maxHeartbeats 4000000 in
theorem k_X14_loses0 {G : xG} {w : Int64} {nw : Value} {tw kw : Nat → Int64} {rf : Nat → Option Nat} {S : Nat → Bool} {V : Nat → RV} {rc nt : Nat} (hV : ∀ r, r < rc → okRl nt (V r)) (hn : nt ≤ 10) (hrc : rc ≤ 20) (hcv : ∀ r, r < rc → covR (V r)) (hK : ∀ r, r < rc → okK (V r)) (hsat : ∃ S9, Sat V rc S9) {n9 : Nat} (hn9 : n9 < 1000) (hcut : ∀ m D, ∃ s, IsSt (minS S m D) V rc (uR (-1)) nt s ∧ pwA V rc nt s ∧ (s n9 = none ↔ cutS S V rc nt n9 m D)) {N : Nat} {cd : Nat → Nat} (hcd : cdO S N cd) (hN : N ≤ 12) {h : xHp} {g : Nat → Int32} {ar : Nat → Nat → Int32} {t p : Nat} {D : Nat → Nat} (Z : (MH h g w nw ar tw kw rf ∧ rmT h rf rc V ∧ g 6 = nI rc ∧ g 41 = nI N ∧ (∀ k, k < N → ar 223 k = nI (cd k)) ∧ (∀ j, j < 1000 → ar 212 j = bi (minS S t D j)) ∧ (∀ i, i < t → ar 225 i = nI (D i)))) : MX G mX14_loses 12 0 0 [.ref 205, .int (nI n9), .int (nI p), .int 0, .int (nI t)] h (fun o h' => ∃ b : Bool, o = .inl (some (.int (bi b))) ∧ yfr h h' ∧ ∃ g' ar', MH h' g' w nw ar' tw kw rf ∧ (∀ k, k ≠ 34 → g' k = g k) ∧ (∀ c, c ≠ 211 → c ≠ 212 → c ≠ 219 → c ≠ 220 → c ≠ 225 → ar' c = ar c) ∧ (∀ j, j < 1000 → ar' 212 j = bi (minS S t D j)) ∧ (∀ i, i < t → ar' 225 i = nI (D i)) ∧ (b = true → ∃ E, fnP (cutS S V rc nt n9) cd N t p 0 D E ∧ ∀ i, i < t + 0 → ar' 225 i = nI (E i)) ∧ (b = false → noP (cutS S V rc nt n9) cd N t p 0 D)) := by
  obtain ⟨M, hT, h6, h41, h23, h12, h25⟩ := Z
  refine MX.of [(0, .ref 205), (1, .int (nI n9)), (2, .int (nI p)), (3, .int 0), (4, .int (nI t))] (by decide) rfl (Nat.le_of_ble_eq_true rfl) rfl ?_
  refine x_iload_n dX14_loses_0 rfl ?_
  refine x_if_ne 26 dX14_loses_1 (by decide) (fun c => absurd c (by decide)) (fun _ => ?_)
  refine x_aload_n dX14_loses_4 rfl ?_
  refine x_iconst (v := (-1)) dX14_loses_5 (by decide) ?_
  obtain ⟨s, hs, hpw, hsn⟩ := hcut t D
  refine x_callV (As := [.int (-1)]) (st := []) lv_X14_284 (k_X14_works M hs hV hn hrc h6 hT hcv hpw hK hsat h12) dX14_loses_6 M.o rfl rfl (Nat.le_of_ble_eq_true rfl) ⟨by decide, by decide⟩ ⟨by decide, by decide⟩ (fun v9 h1 z => ?_) (fun _ _ _ _ _ z => by cases z.1)
  obtain ⟨ev, g1, ar1, M1, Y1, gk1, ak1, hst1⟩ := z
  cases ev
  have hs9 := hst1 n9 hn9
  refine x_aload_n dX14_loses_9 rfl ?_
  refine x_get lf_X14_63 dX14_loses_10 M1.o rfl ?_
  refine x_iload_n dX14_loses_13 rfl ?_
  refine x_ialdN (j := n9) (M1.a 219 0 1000 rfl) rfl (by omega) (by decide) dX14_loses_14 ?_
  refine x_top hs9.1 ?_
  refine x_ldc kc_X14_253 dX14_loses_15 ?_
  refine x_icmp_lt 24 dX14_loses_17 (by decide) (fun c_17 => ?_) (fun c_17 => ?_)
  · refine x_iconst (v := 0) dX14_loses_24 (by decide) ?_
    have hcu : ¬ cutS S V rc nt n9 t D := fun z => ((enS_l hs9.2).mp c_17) (hsn.mpr z)
    exact x_iret dX14_loses_25 rfl rfl (Nat.le_refl _) (Nat.le_refl _) ⟨false, rfl, Y1, g1, ar1, M1, gk1, fun c a1 _ a3 a4 _ => ak1 c a1 a3 a4, fun j hj => (congrFun (ak1 212 (by decide) (by decide) (by decide)) j).trans (h12 j hj), fun i hi => (congrFun (ak1 225 (by decide) (by decide) (by decide)) i).trans (h25 i hi), fun z => (by cases z), fun _ => no_0 cut_cg hcu⟩
  · refine x_iconst (v := 1) dX14_loses_20 (by decide) ?_
    refine x_goto 25 dX14_loses_21 (by decide) ?_
    have hcu : cutS S V rc nt n9 t D := hsn.mp (Classical.byContradiction (fun z => c_17 ((enS_l hs9.2).mpr z)))
    exact x_iret dX14_loses_25 rfl rfl (Nat.le_refl _) (Nat.le_refl _) ⟨true, rfl, Y1, g1, ar1, M1, gk1, fun c a1 _ a3 a4 _ => ak1 c a1 a3 a4, fun j hj => (congrFun (ak1 212 (by decide) (by decide) (by decide)) j).trans (h12 j hj), fun i hi => (congrFun (ak1 225 (by decide) (by decide) (by decide)) i).trans (h25 i hi), fun _ => ⟨D, fn_0 hcu, fun i hi => (congrFun (ak1 225 (by decide) (by decide) (by decide)) i).trans (h25 i hi)⟩, fun z => (by cases z)⟩
theorem lz_tr {f : Nat → Int32} {D : Nat → Nat} {t c : Nat} (h : ∀ i, i < t → f i = nI (D i)) : ∀ i, i < t + 1 → upd f t (nI c) i = nI (apF D t c i) := fun i hi => by
  by_cases q : i = t
  · rw [q, upd_at9, apF_at]
  · rw [upd_nq q, apF_ne q]; exact h i (by omega)
set_option maxRecDepth 100000 in
set_option maxHeartbeats 4000000 in
theorem l_X14_loses {G : xG} {w : Int64} {nw : Value} {tw kw : Nat → Int64} {rf : Nat → Option Nat} {S : Nat → Bool} {V : Nat → RV} {rc nt : Nat} (hV : ∀ r, r < rc → okRl nt (V r)) (hn : nt ≤ 10) (hrc : rc ≤ 20) (hcv : ∀ r, r < rc → covR (V r)) (hK : ∀ r, r < rc → okK (V r)) (hsat : ∃ S9, Sat V rc S9) {n9 : Nat} (hn9 : n9 < 1000) (hcut : ∀ m D, ∃ s, IsSt (minS S m D) V rc (uR (-1)) nt s ∧ pwA V rc nt s ∧ (s n9 = none ↔ cutS S V rc nt n9 m D)) {N : Nat} {cd : Nat → Nat} (hcd : cdO S N cd) (hN : N ≤ 12) {l : Nat} (ih : ∀ {h : xHp} {g : Nat → Int32} {ar : Nat → Nat → Int32} {t p : Nat} {D : Nat → Nat}, t + l ≤ 3 → p ≤ N → (∀ i, i < t → ∃ j, j < p ∧ D i = cd j) → (MH h g w nw ar tw kw rf ∧ rmT h rf rc V ∧ g 6 = nI rc ∧ g 41 = nI N ∧ (∀ k, k < N → ar 223 k = nI (cd k)) ∧ (∀ j, j < 1000 → ar 212 j = bi (minS S t D j)) ∧ (∀ i, i < t → ar 225 i = nI (D i))) → MX G mX14_loses (12 + l) 0 0 [.ref 205, .int (nI n9), .int (nI p), .int (nI l), .int (nI t)] h (fun o h' => ∃ b : Bool, o = .inl (some (.int (bi b))) ∧ yfr h h' ∧ ∃ g' ar', MH h' g' w nw ar' tw kw rf ∧ (∀ k, k ≠ 34 → g' k = g k) ∧ (∀ c, c ≠ 211 → c ≠ 212 → c ≠ 219 → c ≠ 220 → c ≠ 225 → ar' c = ar c) ∧ (∀ j, j < 1000 → ar' 212 j = bi (minS S t D j)) ∧ (∀ i, i < t → ar' 225 i = nI (D i)) ∧ (b = true → ∃ E, fnP (cutS S V rc nt n9) cd N t p l D E ∧ ∀ i, i < t + l → ar' 225 i = nI (E i)) ∧ (b = false → noP (cutS S V rc nt n9) cd N t p l D))) {h : xHp} {g : Nat → Int32} {ar : Nat → Nat → Int32} {t p : Nat} {D : Nat → Nat} (htl : t + (l + 1) ≤ 3) (hp : p ≤ N) (hDp : ∀ i, i < t → ∃ j, j < p ∧ D i = cd j) (Z : (MH h g w nw ar tw kw rf ∧ rmT h rf rc V ∧ g 6 = nI rc ∧ g 41 = nI N ∧ (∀ k, k < N → ar 223 k = nI (cd k)) ∧ (∀ j, j < 1000 → ar 212 j = bi (minS S t D j)) ∧ (∀ i, i < t → ar 225 i = nI (D i)))) : ∀ (m k : Nat) {h1 : xHp} {g1 : Nat → Int32} {ar1 : Nat → Nat → Int32}, p ≤ k → k ≤ N → N + 1 ≤ k + m → MH h1 g1 w nw ar1 tw kw rf → yfr h h1 → (∀ q, q ≠ 34 → g1 q = g q) → (∀ c, c ≠ 211 → c ≠ 212 → c ≠ 219 → c ≠ 220 → c ≠ 225 → ar1 c = ar c) → (∀ j, j < 1000 → ar1 212 j = bi (minS S t D j)) → (∀ i, i < t → ar1 225 i = nI (D i)) → (∀ k', p ≤ k' → k' < k → noP (cutS S V rc nt n9) cd N (t + 1) (k' + 1) l (apF D t (cd k'))) → Wx G mX14_loses (xRm (12 + (l + 1)) 0 0) (xF G (fun o h' => ∃ b : Bool, o = .inl (some (.int (bi b))) ∧ yfr h h' ∧ ∃ g' ar', MH h' g' w nw ar' tw kw rf ∧ (∀ k, k ≠ 34 → g' k = g k) ∧ (∀ c, c ≠ 211 → c ≠ 212 → c ≠ 219 → c ≠ 220 → c ≠ 225 → ar' c = ar c) ∧ (∀ j, j < 1000 → ar' 212 j = bi (minS S t D j)) ∧ (∀ i, i < t → ar' 225 i = nI (D i)) ∧ (b = true → ∃ E, fnP (cutS S V rc nt n9) cd N t p (l + 1) D E ∧ ∀ i, i < t + (l + 1) → ar' 225 i = nI (E i)) ∧ (b = false → noP (cutS S V rc nt n9) cd N t p (l + 1) D)) 0 0) 0 0 29 [(0, .ref 205), (1, .int (nI n9)), (2, .int (nI p)), (3, .int (nI (l + 1))), (4, .int (nI t)), (5, .int (nI k))] [] h1 := by
  obtain ⟨M, hT, h6, h41, h23, h12, h25⟩ := Z
  intro m
  induction m with
  | zero => intro k h1 g1 ar1 a1 a2 a3; exact absurd a3 (by omega)
  | succ m ih2 =>
    intro k h1 g1 ar1 hk1 hk2 hk3 M1 Y1 gk1 ak1 a12 a25 hno
    refine x_iload dX14_loses_29 rfl ?_
    refine x_aload_n dX14_loses_31 rfl ?_
    refine x_get lf_X14_315 dX14_loses_32 M1.o rfl ?_
    refine x_top (y := nI N) ((gk1 41 (by decide)).trans h41) ?_
    refine x_icmp_ge 109 dX14_loses_35 (by decide) (fun c_35 => ?_) (fun c_35 => ?_)
    · rw [nI_leI (by omega) (by omega)] at c_35
      refine x_iconst (v := 0) dX14_loses_109 (by decide) ?_
      exact x_iret dX14_loses_110 rfl rfl (Nat.le_refl _) (Nat.le_refl _) ⟨false, rfl, Y1, g1, ar1, M1, gk1, ak1, a12, a25, fun z => (by cases z), fun _ => no_s (fun k' q1 q2 => hno k' q1 (by omega))⟩
    · rw [nI_leI (by omega) (by omega)] at c_35
      have hk9 : k < N := by omega
      obtain ⟨hc1, hc2, hc3⟩ := hcd k hk9
      have hDk : ∀ i, i < t → D i ≠ cd k := fun i hi z => by obtain ⟨j, j1, j2⟩ := hDp i hi; have := hcd.lt (show j < k by omega) hk9; omega
      have e23 : ar1 223 k = nI (cd k) := (congrFun (ak1 223 (by decide) (by decide) (by decide) (by decide) (by decide)) k).trans (h23 k hk9)
      refine x_aload_n dX14_loses_38 rfl ?_
      refine x_get lf_X14_33 dX14_loses_39 M1.o rfl ?_
      refine x_aload_n dX14_loses_42 rfl ?_
      refine x_get lf_X14_75 dX14_loses_43 M1.o rfl ?_
      refine x_iload dX14_loses_46 rfl ?_
      refine x_ialdN (j := k) (M1.a 223 0 12 rfl) rfl (by omega) (by decide) dX14_loses_48 ?_
      refine x_top e23 ?_
      refine x_iconst (v := 0) dX14_loses_49 (by decide) ?_
      refine x_zastN (j := cd k) (M1.a 212 3 1000 rfl) rfl (by omega) (by decide) (by decide) dX14_loses_50 ?_
      refine x_aload_n dX14_loses_51 rfl ?_
      refine x_get lf_X14_81 dX14_loses_52 ((xup_ne (by omega)).trans M1.o) rfl ?_
      refine x_iload dX14_loses_55 rfl ?_
      refine x_aload_n dX14_loses_57 rfl ?_
      refine x_get lf_X14_75 dX14_loses_58 ((xup_ne (by omega)).trans M1.o) rfl ?_
      refine x_iload dX14_loses_61 rfl ?_
      refine x_ialdN (j := k) ((xup_ne (by omega)).trans (M1.a 223 0 12 rfl)) rfl (by omega) (by decide) dX14_loses_63 ?_
      refine x_top e23 ?_
      refine x_iastN (j := t) ((xup_ne (by omega)).trans (M1.a 225 0 3 rfl)) rfl (by omega) (by decide) dX14_loses_64 ?_
      refine x_aload_n dX14_loses_65 rfl ?_
      refine x_iload_n dX14_loses_66 rfl ?_
      refine x_iload dX14_loses_67 rfl ?_
      refine x_iconst (v := 1) dX14_loses_69 (by decide) ?_
      refine x_iadd dX14_loses_70 ?_
      refine x_top (y := nI (k + 1)) (nI_add k 1) ?_
      refine x_iload_n dX14_loses_71 rfl ?_
      refine x_iconst (v := 1) dX14_loses_72 (by decide) ?_
      refine x_isub dX14_loses_73 ?_
      refine x_top (y := nI l) (by rw [show (1 : Int32) = nI 1 from rfl, pk_sub (by omega)]; congr 1) ?_
      refine x_iload dX14_loses_74 rfl ?_
      refine x_iconst (v := 1) dX14_loses_76 (by decide) ?_
      refine x_iadd dX14_loses_77 ?_
      refine x_top (y := nI (t + 1)) (nI_add t 1) ?_
      have Y2 : yfr h1 (xup (xup h1 212 (.inl (3, 1000, .inl (upd (ar1 212) (cd k) 0)))) 225 (.inl (0, 3, .inl (upd (ar1 225) t (nI (cd k)))))) := (((yfr_rf _).up (by decide)).up (by decide))
      have K2 := ih (t := t + 1) (p := k + 1) (D := apF D t (cd k)) (by omega) (by omega) (fun i hi => by by_cases q : i = t; (rw [q, apF_at]; exact ⟨k, by omega, rfl⟩); (rw [apF_ne q]; obtain ⟨j, j1, j2⟩ := hDp i (by omega); exact ⟨j, by omega, j2⟩)) ⟨((M1.a9 (c := 212) rfl (upd (ar1 212) (cd k) 0)).a9 (c := 225) rfl (upd (ar1 225) t (nI (cd k)))), (hT.y Y1).y Y2, (gk1 6 (by decide)).trans h6, (gk1 41 (by decide)).trans h41, fun q hq => (congrFun ((apF_ne (by decide)).trans (apF_ne (by decide))) q).trans ((congrFun (ak1 223 (by decide) (by decide) (by decide) (by decide) (by decide)) q).trans (h23 q hq)), fun j hj => (congrFun ((apF_ne (by decide)).trans (apF_at _ _ _)) j).trans (lz_dn a12 hc2 hDk j hj), fun i hi => (congrFun (apF_at _ _ _) i).trans (lz_tr a25 i hi)⟩
      refine x_callV (As := [.int (nI n9), .int (nI (k + 1)), .int (nI l), .int (nI (t + 1))]) (st := []) lv_X14_318 K2 dX14_loses_78 ((xup_ne (by omega)).trans ((xup_ne (by omega)).trans M1.o)) rfl rfl (Nat.le_of_ble_eq_true rfl) ⟨by show 12 + l + 1 ≤ 12 + (l + 1); omega, by show 8 + (7 + 11) + 100 * (12 + l) ≤ 100 * (12 + (l + 1)); omega⟩ ⟨Nat.le_refl _, Nat.le_refl _⟩ (fun v9 h2 z => ?_) (fun _ _ _ _ _ z => by obtain ⟨_, z, _⟩ := z; cases z)
      obtain ⟨b9, ev, Z2, g2, ar2, M2, gk2, ak2, a12b, a25b, hfn, hnn⟩ := z
      cases ev
      refine x_istore [(0, .ref 205), (1, .int (nI n9)), (2, .int (nI p)), (3, .int (nI (l + 1))), (4, .int (nI t)), (5, .int (nI k)), (6, .int (bi b9))] dX14_loses_81 (by decide) rfl rfl ?_
      refine x_aload_n dX14_loses_83 rfl ?_
      refine x_get lf_X14_33 dX14_loses_84 M2.o rfl ?_
      refine x_aload_n dX14_loses_87 rfl ?_
      refine x_get lf_X14_75 dX14_loses_88 M2.o rfl ?_
      refine x_iload dX14_loses_91 rfl ?_
      refine x_ialdN (j := k) (M2.a 223 0 12 rfl) rfl (by omega) (by decide) dX14_loses_93 ?_
      refine x_top ((congrFun (ak2 223 (by decide) (by decide) (by decide) (by decide) (by decide)) k).trans ((congrFun ((apF_ne (by decide)).trans (apF_ne (by decide))) k).trans e23)) ?_
      refine x_iconst (v := 1) dX14_loses_94 (by decide) ?_
      refine x_zastN (j := cd k) (M2.a 212 3 1000 rfl) rfl (by omega) (by decide) (by decide) dX14_loses_95 ?_
      refine x_iload dX14_loses_96 rfl ?_
      refine x_if_eq 103 dX14_loses_98 (by decide) (fun c_98 => ?_) (fun c_98 => ?_)
      · have c_98 := bi_f c_98
        refine x_iinc (v := nI (k + 1)) [(0, .ref 205), (1, .int (nI n9)), (2, .int (nI p)), (3, .int (nI (l + 1))), (4, .int (nI t)), (5, .int (nI (k + 1))), (6, .int (bi b9))] dX14_loses_103 rfl (nI_add k 1) (by decide) rfl rfl ?_
        refine x_goto 29 dX14_loses_106 (by decide) ?_
        exact x_ls _ [0, 1, 2, 3, 4, 5] rfl (ih2 (k + 1) (by omega) (by omega) (by omega) (M2.a9 (c := 212) rfl (upd (ar2 212) (cd k) 1)) ((Y1.tr Y2).tr (Z2.tr ((yfr_rf _).up (by decide)))) (fun q hq => (gk2 q hq).trans (gk1 q hq)) (fun c a1 a2 a3 a4 a5 => (apF_ne a2).trans ((ak2 c a1 a2 a3 a4 a5).trans ((apF_ne a5).trans ((apF_ne a2).trans (ak1 c a1 a2 a3 a4 a5))))) (fun j hj => (congrFun (apF_at _ _ _) j).trans (lz_up a12b hc2 hDk j hj)) (fun i hi => (congrFun (apF_ne (by decide)) i).trans ((a25b i (by omega)).trans (by rw [apF_ne (by omega)]))) (fun k' q1 q2 => by by_cases q : k' = k; (rw [q]; exact hnn c_98); exact hno k' q1 (by omega)))
      · have c_98 := bi_t c_98
        refine x_iconst (v := 1) dX14_loses_101 (by decide) ?_
        obtain ⟨E, e1, e2⟩ := hfn c_98
        exact x_iret dX14_loses_102 rfl rfl (Nat.le_refl _) (Nat.le_refl _) ⟨true, rfl, (Y1.tr Y2).tr (Z2.tr ((yfr_rf _).up (by decide))), g2, _, (M2.a9 (c := 212) rfl (upd (ar2 212) (cd k) 1)), fun q hq => (gk2 q hq).trans (gk1 q hq), (fun c a1 a2 a3 a4 a5 => (apF_ne a2).trans ((ak2 c a1 a2 a3 a4 a5).trans ((apF_ne a5).trans ((apF_ne a2).trans (ak1 c a1 a2 a3 a4 a5))))), (fun j hj => (congrFun (apF_at _ _ _) j).trans (lz_up a12b hc2 hDk j hj)), (fun i hi => (congrFun (apF_ne (by decide)) i).trans ((a25b i (by omega)).trans (by rw [apF_ne (by omega)]))), fun _ => ⟨E, fn_s hcd hk1 hk9 hno e1, fun i hi => (congrFun (apF_ne (by decide)) i).trans (e2 i (by omega))⟩, fun z => (by cases z)⟩
set_option maxRecDepth 100000 in
set_option maxHeartbeats 4000000 in
theorem k_X14_losesS {G : xG} {w : Int64} {nw : Value} {tw kw : Nat → Int64} {rf : Nat → Option Nat} {S : Nat → Bool} {V : Nat → RV} {rc nt : Nat} (hV : ∀ r, r < rc → okRl nt (V r)) (hn : nt ≤ 10) (hrc : rc ≤ 20) (hcv : ∀ r, r < rc → covR (V r)) (hK : ∀ r, r < rc → okK (V r)) (hsat : ∃ S9, Sat V rc S9) {n9 : Nat} (hn9 : n9 < 1000) (hcut : ∀ m D, ∃ s, IsSt (minS S m D) V rc (uR (-1)) nt s ∧ pwA V rc nt s ∧ (s n9 = none ↔ cutS S V rc nt n9 m D)) {N : Nat} {cd : Nat → Nat} (hcd : cdO S N cd) (hN : N ≤ 12) {l : Nat} (ih : ∀ {h : xHp} {g : Nat → Int32} {ar : Nat → Nat → Int32} {t p : Nat} {D : Nat → Nat}, t + l ≤ 3 → p ≤ N → (∀ i, i < t → ∃ j, j < p ∧ D i = cd j) → (MH h g w nw ar tw kw rf ∧ rmT h rf rc V ∧ g 6 = nI rc ∧ g 41 = nI N ∧ (∀ k, k < N → ar 223 k = nI (cd k)) ∧ (∀ j, j < 1000 → ar 212 j = bi (minS S t D j)) ∧ (∀ i, i < t → ar 225 i = nI (D i))) → MX G mX14_loses (12 + l) 0 0 [.ref 205, .int (nI n9), .int (nI p), .int (nI l), .int (nI t)] h (fun o h' => ∃ b : Bool, o = .inl (some (.int (bi b))) ∧ yfr h h' ∧ ∃ g' ar', MH h' g' w nw ar' tw kw rf ∧ (∀ k, k ≠ 34 → g' k = g k) ∧ (∀ c, c ≠ 211 → c ≠ 212 → c ≠ 219 → c ≠ 220 → c ≠ 225 → ar' c = ar c) ∧ (∀ j, j < 1000 → ar' 212 j = bi (minS S t D j)) ∧ (∀ i, i < t → ar' 225 i = nI (D i)) ∧ (b = true → ∃ E, fnP (cutS S V rc nt n9) cd N t p l D E ∧ ∀ i, i < t + l → ar' 225 i = nI (E i)) ∧ (b = false → noP (cutS S V rc nt n9) cd N t p l D))) : ∀ {h : xHp} {g : Nat → Int32} {ar : Nat → Nat → Int32} {t p : Nat} {D : Nat → Nat}, t + (l + 1) ≤ 3 → p ≤ N → (∀ i, i < t → ∃ j, j < p ∧ D i = cd j) → (MH h g w nw ar tw kw rf ∧ rmT h rf rc V ∧ g 6 = nI rc ∧ g 41 = nI N ∧ (∀ k, k < N → ar 223 k = nI (cd k)) ∧ (∀ j, j < 1000 → ar 212 j = bi (minS S t D j)) ∧ (∀ i, i < t → ar 225 i = nI (D i))) → MX G mX14_loses (12 + (l + 1)) 0 0 [.ref 205, .int (nI n9), .int (nI p), .int (nI (l + 1)), .int (nI t)] h (fun o h' => ∃ b : Bool, o = .inl (some (.int (bi b))) ∧ yfr h h' ∧ ∃ g' ar', MH h' g' w nw ar' tw kw rf ∧ (∀ k, k ≠ 34 → g' k = g k) ∧ (∀ c, c ≠ 211 → c ≠ 212 → c ≠ 219 → c ≠ 220 → c ≠ 225 → ar' c = ar c) ∧ (∀ j, j < 1000 → ar' 212 j = bi (minS S t D j)) ∧ (∀ i, i < t → ar' 225 i = nI (D i)) ∧ (b = true → ∃ E, fnP (cutS S V rc nt n9) cd N t p (l + 1) D E ∧ ∀ i, i < t + (l + 1) → ar' 225 i = nI (E i)) ∧ (b = false → noP (cutS S V rc nt n9) cd N t p (l + 1) D)) := by
  intro h g ar t p D htl hp hDp Z
  refine MX.of [(0, .ref 205), (1, .int (nI n9)), (2, .int (nI p)), (3, .int (nI (l + 1))), (4, .int (nI t))] (by decide) rfl (Nat.le_of_ble_eq_true rfl) rfl ?_
  refine x_iload_n dX14_loses_0 rfl ?_
  refine x_if_ne 26 dX14_loses_1 (by decide) (fun c_1 => ?_) (fun c_1 => absurd c_1 (show ¬ nI (l + 1) = 0 by rw [show (0 : Int32) = nI 0 from rfl, nI_eq (by omega) (by omega)]; omega))
  refine x_iload_n dX14_loses_26 rfl ?_
  refine x_istore [(0, .ref 205), (1, .int (nI n9)), (2, .int (nI p)), (3, .int (nI (l + 1))), (4, .int (nI t)), (5, .int (nI p))] dX14_loses_27 (by decide) rfl rfl ?_
  exact l_X14_loses hV hn hrc hcv hK hsat hn9 hcut hcd hN ih htl hp hDp Z (N + 1) p (Nat.le_refl _) hp (by omega) Z.1 (yfr_rf _) (fun _ _ => rfl) (fun _ _ _ _ _ _ => rfl) Z.2.2.2.2.2.1 Z.2.2.2.2.2.2 (fun k' q1 q2 => absurd q1 (by omega))
theorem k_X14_loses {G : xG} {w : Int64} {nw : Value} {tw kw : Nat → Int64} {rf : Nat → Option Nat} {S : Nat → Bool} {V : Nat → RV} {rc nt : Nat} (hV : ∀ r, r < rc → okRl nt (V r)) (hn : nt ≤ 10) (hrc : rc ≤ 20) (hcv : ∀ r, r < rc → covR (V r)) (hK : ∀ r, r < rc → okK (V r)) (hsat : ∃ S9, Sat V rc S9) {n9 : Nat} (hn9 : n9 < 1000) (hcut : ∀ m D, ∃ s, IsSt (minS S m D) V rc (uR (-1)) nt s ∧ pwA V rc nt s ∧ (s n9 = none ↔ cutS S V rc nt n9 m D)) {N : Nat} {cd : Nat → Nat} (hcd : cdO S N cd) (hN : N ≤ 12) : ∀ (l : Nat), ∀ {h : xHp} {g : Nat → Int32} {ar : Nat → Nat → Int32} {t p : Nat} {D : Nat → Nat}, t + l ≤ 3 → p ≤ N → (∀ i, i < t → ∃ j, j < p ∧ D i = cd j) → (MH h g w nw ar tw kw rf ∧ rmT h rf rc V ∧ g 6 = nI rc ∧ g 41 = nI N ∧ (∀ k, k < N → ar 223 k = nI (cd k)) ∧ (∀ j, j < 1000 → ar 212 j = bi (minS S t D j)) ∧ (∀ i, i < t → ar 225 i = nI (D i))) → MX G mX14_loses (12 + l) 0 0 [.ref 205, .int (nI n9), .int (nI p), .int (nI l), .int (nI t)] h (fun o h' => ∃ b : Bool, o = .inl (some (.int (bi b))) ∧ yfr h h' ∧ ∃ g' ar', MH h' g' w nw ar' tw kw rf ∧ (∀ k, k ≠ 34 → g' k = g k) ∧ (∀ c, c ≠ 211 → c ≠ 212 → c ≠ 219 → c ≠ 220 → c ≠ 225 → ar' c = ar c) ∧ (∀ j, j < 1000 → ar' 212 j = bi (minS S t D j)) ∧ (∀ i, i < t → ar' 225 i = nI (D i)) ∧ (b = true → ∃ E, fnP (cutS S V rc nt n9) cd N t p l D E ∧ ∀ i, i < t + l → ar' 225 i = nI (E i)) ∧ (b = false → noP (cutS S V rc nt n9) cd N t p l D))
  | 0 => fun _ _ _ Z => k_X14_loses0 hV hn hrc hcv hK hsat hn9 hcut hcd hN Z
  | l + 1 => k_X14_losesS hV hn hrc hcv hK hsat hn9 hcut hcd hN (k_X14_loses hV hn hrc hcv hK hsat hn9 hcut hcd hN l)
