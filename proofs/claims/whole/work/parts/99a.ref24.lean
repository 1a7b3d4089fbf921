/-! the reference: goes, whole -/
set_option maxRecDepth 100000 in
set_option maxHeartbeats 4000000 in
theorem k_X14_goesS {G : xG} {w : Int64} {nw : Value} {tw kw : Nat → Int64} {rf : Nat → Option Nat} {nt : Nat} (hn : nt ≤ 10) {a : Nat} {v : RV} (ha : 227 ≤ a) (hv : okRl nt v) {Inv : (Nat → Option Nat) → Prop} (hst : stepI v nt Inv) (hbd : ∀ s, Inv s → ∀ n d, n < 1000 → s n = some d → d ≤ ctS s) (hco : covR v) (hpa : plA v nt Inv) {j : Nat} (hj : j < v.2.2.1) {D : Nat} (hD : 1 ≤ D) (ih : ∀ {h : xHp} {g : Nat → Int32} {ar : Nat → Nat → Int32} {θ s : Nat → Option Nat} {deep : Nat} (_ : MH h g w nw ar tw kw rf) (_ : rmV h a v) (_ : ∀ s, s < 3 → ar 220 s = enT (θ s)) (_ : okTh nt θ) (_ : stO (ar 219) s) (_ : Inv s) (_ : deep ≤ ctS s) (_ : sgB v θ (j + 1)) (_ : posL v θ s (j + 1) deep), MX G mX14_goes D 0 0 [.ref 205, .ref a, .int (nI ((j + 1) + 1)), .int (nI deep)] h (gQ Inv (CLo v nt θ (j + 1) deep s) θ s h g w nw ar tw kw rf)) : ∀ {h : xHp} {g : Nat → Int32} {ar : Nat → Nat → Int32} {θ s : Nat → Option Nat} {deep : Nat} (_ : MH h g w nw ar tw kw rf) (_ : rmV h a v) (_ : ∀ s, s < 3 → ar 220 s = enT (θ s)) (_ : okTh nt θ) (_ : stO (ar 219) s) (_ : Inv s) (_ : deep ≤ ctS s) (_ : sgB v θ j) (_ : posL v θ s j deep), MX G mX14_goes (D + 1) 0 0 [.ref 205, .ref a, .int (nI (j + 1)), .int (nI deep)] h (gQ Inv (CLo v nt θ j deep s) θ s h g w nw ar tw kw rf) := by
  intro h g ar θ s deep M rv hgv hθ hs hI hd hbn hpo
  have hz4 := hv.1
  obtain ⟨so, kd, on, tz, lt, rc9, rI⟩ := id rv
  have r9 := rmI_t rI hj
  refine MX.of [(0, .ref 205), (1, .ref a), (2, .int (nI (j + 1))), (3, .int (nI deep))] (by decide) rfl (Nat.le_of_ble_eq_true rfl) rfl ?_
  refine x_iload_n dX14_goes_0 rfl ?_
  refine x_aload_n dX14_goes_1 rfl ?_
  refine x_get lf_X14_199 dX14_goes_2 rc9.1 rfl ?_
  refine x_top (y := nI (v.2.2.1)) rfl ?_
  refine x_icmp_le 55 dX14_goes_5 (by decide) (fun c_5 => ?_) (fun c_5 => absurd c_5 (by rw [nI_leI (by omega) (by omega)]; omega))
  refine x_aload_n dX14_goes_55 rfl ?_
  refine x_get lf_X14_169 dX14_goes_56 rc9.1 rfl ?_
  refine x_iload_n dX14_goes_59 rfl ?_
  refine x_ialdN (j := j + 1) rc9.2.1 rfl (by omega) (by decide) dX14_goes_60 ?_
  refine x_top (y := v.2.1 j 0) r9.1 ?_
  refine x_if_eq 74 dX14_goes_61 (by decide) (fun c_61 => ?_) (fun c_61 => ?_)
  · obtain ⟨hkk, hk10⟩ := (hv.2.1 j hj).2.1 (by rw [c_61]; decide)
    obtain ⟨kk, ekk⟩ : ∃ kk, kk = (v.2.1 j 1).toNatClampNeg := ⟨_, rfl⟩
    rw [← ekk] at hkk hk10
    have hkk9 : kd (j + 1) = nI kk := r9.2.1.trans hkk
    refine x_bipush (v := 100) dX14_goes_74 (by decide) ?_
    refine x_aload_n dX14_goes_76 rfl ?_
    refine x_get lf_X14_171 dX14_goes_77 rc9.1 rfl ?_
    refine x_iload_n dX14_goes_80 rfl ?_
    refine x_ialdN (j := j + 1) rc9.2.2.1 rfl (by omega) (by decide) dX14_goes_81 ?_
    refine x_top (y := nI kk) hkk9 ?_
    refine x_imul dX14_goes_82 ?_
    refine x_top (y := nI (100 * kk)) (pk_mul 100 kk) ?_
    refine x_istore [(0, .ref 205), (1, .ref a), (2, .int (nI (j + 1))), (3, .int (nI deep)), (4, .int (nI (100 * kk)))] dX14_goes_83 (by decide) rfl rfl ?_
    have Q := l_X14_goes M hn hθ ha rv hv (s := s) hst hbd hco hpa hd hbn hpo hj c_61 (D := D) ih hD 101 (100 * kk) (by omega) (by omega) (by omega) ⟨M, yfr_rf _, fun _ _ => rfl, fun _ _ _ => rfl, hgv, hs, hI, lowS_rf s, Or.inr ⟨rfl, rfl, by rw [ekk]; exact CLn_0⟩⟩
    exact Q
  · refine x_aload_n dX14_goes_64 rfl ?_
    refine x_aload_n dX14_goes_65 rfl ?_
    refine x_iload_n dX14_goes_66 rfl ?_
    refine x_iconst (v := 1) dX14_goes_67 (by decide) ?_
    refine x_iadd dX14_goes_68 ?_
    refine x_top (y := nI ((j + 1) + 1)) (nI_add (j + 1) 1) ?_
    refine x_iload_n dX14_goes_69 rfl ?_
    refine x_callV (As := [.ref a, .int (nI (j + 1 + 1)), .int (nI deep)]) (st := []) lv_X14_262 (ih M rv hgv hθ hs hI hd (fun m hm z => by by_cases e : m = j; (rw [e] at z; exact absurd z c_61); exact hbn m (by omega) z) (fun m hm z => by by_cases e : m = j; (rw [e] at z; exact absurd z c_61); exact hpo m (by omega) z)) dX14_goes_70 M.o rfl rfl (Nat.le_of_ble_eq_true rfl) ⟨by show D + 1 ≤ D + 1; omega, by show 8 + (9 + 11) + 100 * D ≤ 100 * (D + 1); omega⟩ ⟨Nat.le_refl _, Nat.le_refl _⟩ (fun v9 h2 z => ?_) (fun _ _ _ _ _ z => by cases z.1)
    obtain ⟨ev, g2, ar2, s2, M2, Y2, gk2, ak2, hgv2, hs2, hI2, gr2⟩ := z
    cases ev
    exact x_vret dX14_goes_73 rfl (Nat.le_refl _) (Nat.le_refl _) ⟨rfl, g2, ar2, s2, M2, Y2, gk2, ak2, hgv2, hs2, hI2, gr2.imp (fun _ cl τ e he hok hh hde hpos => cl τ e he hok hh hde (fun m hm => hpos m (by omega)))⟩
theorem k_X14_goes {G : xG} {w : Int64} {nw : Value} {tw kw : Nat → Int64} {rf : Nat → Option Nat} {nt : Nat} (hn : nt ≤ 10) {a : Nat} {v : RV} (ha : 227 ≤ a) (hv : okRl nt v) {Inv : (Nat → Option Nat) → Prop} (hst : stepI v nt Inv) (hbd : ∀ s, Inv s → ∀ n d, n < 1000 → s n = some d → d ≤ ctS s) (hco : covR v) (hpa : plA v nt Inv) : ∀ (m : Nat) {j : Nat} (_ : j + m = v.2.2.1), ∀ {h : xHp} {g : Nat → Int32} {ar : Nat → Nat → Int32} {θ s : Nat → Option Nat} {deep : Nat} (_ : MH h g w nw ar tw kw rf) (_ : rmV h a v) (_ : ∀ s, s < 3 → ar 220 s = enT (θ s)) (_ : okTh nt θ) (_ : stO (ar 219) s) (_ : Inv s) (_ : deep ≤ ctS s) (_ : sgB v θ j) (_ : posL v θ s j deep), MX G mX14_goes (5 + m) 0 0 [.ref 205, .ref a, .int (nI (j + 1)), .int (nI deep)] h (gQ Inv (CLo v nt θ j deep s) θ s h g w nw ar tw kw rf) := by
  intro m
  induction m with
  | zero =>
    intro j hj h g ar θ s deep M rv hgv hθ hs hI hd hbn hpo
    exact k_X14_goes0 M hgv hn hθ ha rv hv hs hI hst hbd hco hd hbn hpo (by omega)
  | succ m ih =>
    intro j hj
    exact k_X14_goesS hn ha hv hst hbd hco hpa (j := j) (by omega) (D := 5 + m) (by omega) (ih (j := j + 1) (by omega))
