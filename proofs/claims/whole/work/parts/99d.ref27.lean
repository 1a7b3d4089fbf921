/-! the reference: works -/
def uR (u : Int32) : Nat → Bool := fun r => decide (¬ nI r = u)
def pwA (V : Nat → RV) (rc nt : Nat) (s0 : Nat → Option Nat) : Prop := ∀ r, r < rc → ∀ n j, n < 1000 → s0 n ≠ none → j < (V r).2.2.1 → (V r).2.1 j 0 = 0 → n / 100 = ((V r).2.1 j 1).toNatClampNeg → (¬ (V r).2.1 j 2 < 100 → n / 10 % 10 < nt) ∧ (¬ (V r).2.1 j 3 < 100 → n % 10 < nt)
theorem pwA.pl {V : Nat → RV} {rc nt : Nat} {s0 : Nat → Option Nat} (h : pwA V rc nt s0) {r : Nat} (hr : r < rc) {S : Nat → Bool} {L : Nat → Nat} {l : Nat} : plA (V r) nt (wkI S L s0 l) := fun s n j hI hn hs hj h0 hk => h r hr n j hn (by
  cases z : s n with
  | none => exact absurd z hs
  | some d => obtain ⟨d0, e, _⟩ := hI.2.1 n d hn z; rw [e]; intro y; cases y) hj h0 hk
def WS (S : Nat → Bool) (L : Nat → Nat) (s0 : Nat → Option Nat) (h : xHp) (g : Nat → Int32) (w : Int64) (nw : Value) (ar : Nat → Nat → Int32) (tw kw : Nat → Int64) (rf : Nat → Option Nat) (lf : Nat → Int32) (l : Nat) (h1 : xHp) (g1 : Nat → Int32) (ar1 : Nat → Nat → Int32) (t : Nat → Option Nat) : Prop := MH h1 g1 w nw ar1 tw kw rf ∧ yfr h h1 ∧ (∀ k, k ≠ 34 → g1 k = g k) ∧ (∀ c, c ≠ 211 → c ≠ 219 → c ≠ 220 → ar1 c = ar c) ∧ ar1 211 = lf ∧ stO (ar1 219) t ∧ wkI S L s0 l t
def clW (V : Nat → RV) (nt : Nat) (u : Int32) (L : Nat → Nat) (l r : Nat) (t : Nat → Option Nat) : Prop := ∀ r9, r9 < r → uR u r9 = true → L (rvH (V r9)) = l → CLo (V r9) nt (fun _ => none) 0 0 t
set_option maxRecDepth 100000 in
set_option maxHeartbeats 4000000 in
theorem l_X14_wkR {G : xG} {h : xHp} {g : Nat → Int32} {w : Int64} {nw : Value} {ar : Nat → Nat → Int32} {tw : Nat → Int64} {kw : Nat → Int64} {rf : Nat → Option Nat} (M : MH h g w nw ar tw kw rf) {S : Nat → Bool} {V : Nat → RV} {rc nt : Nat} {u : Int32} {s0 : Nat → Option Nat} (hs : IsSt S V rc (uR u) nt s0) (hV : ∀ r, r < rc → okRl nt (V r)) (hn : nt ≤ 10) (hrc : rc ≤ 20) (h6 : g 6 = nI rc) (hT : rmT h rf rc V) (hcv : ∀ r, r < rc → covR (V r)) (hpw : pwA V rc nt s0) {L : Nat → Nat} {lf : Nat → Int32} (hS : Sat V rc L) (hlf : ∀ k, k < 10 → lf k = nI (L k)) (hLb : ∀ k, L k ≤ 9) {x2 : Int32} {l : Nat} (hl : l ≤ 10) {t0 : Nat → Option Nat} (hcont : ∀ {h1 : xHp} {g1 : Nat → Int32} {ar1 : Nat → Nat → Int32} {t : Nat → Option Nat}, WS S L s0 h g w nw ar tw kw rf lf l h1 g1 ar1 t → GRel (clW V nt u L l rc t0) t0 t 0 (g1 34) → Wx G mX14_works (xRm 11 0 0) (xF G (fun o h' => o = .inl none ∧ ∃ g' ar', MH h' g' w nw ar' tw kw rf ∧ yfr h h' ∧ (∀ k, k ≠ 34 → g' k = g k) ∧ (∀ c, c ≠ 211 → c ≠ 219 → c ≠ 220 → ar' c = ar c) ∧ stO (ar' 219) s0) 0 0) 0 0 126 [(0, .ref 205), (1, .int u), (2, .int x2), (3, .int (nI l)), (4, .int (nI rc))] [] h1) : ∀ (m r : Nat) {h1 : xHp} {g1 : Nat → Int32} {ar1 : Nat → Nat → Int32} {t : Nat → Option Nat}, r ≤ rc → rc + 1 ≤ r + m → WS S L s0 h g w nw ar tw kw rf lf l h1 g1 ar1 t → GRel (clW V nt u L l r t0) t0 t 0 (g1 34) → Wx G mX14_works (xRm 11 0 0) (xF G (fun o h' => o = .inl none ∧ ∃ g' ar', MH h' g' w nw ar' tw kw rf ∧ yfr h h' ∧ (∀ k, k ≠ 34 → g' k = g k) ∧ (∀ c, c ≠ 211 → c ≠ 219 → c ≠ 220 → ar' c = ar c) ∧ stO (ar' 219) s0) 0 0) 0 0 73 [(0, .ref 205), (1, .int u), (2, .int x2), (3, .int (nI l)), (4, .int (nI r))] [] h1 := by
  intro m
  induction m with
  | zero => exact fun r {h1} {g1} {ar1} {t} a1 a2 => absurd a2 (by omega)
  | succ m ih =>
    intro r h1 g1 ar1 t a1 a2 T gr
    obtain ⟨M1, Y1, gk1, ak1, e211, hs1, hI1⟩ := id T
    refine x_iload dX14_works_73 rfl ?_
    refine x_aload_n dX14_works_75 rfl ?_
    refine x_get lf_X14_93 dX14_works_76 M1.o rfl ?_
    refine x_top (y := nI rc) ((gk1 6 (by decide)).trans h6) ?_
    refine x_icmp_ge 126 dX14_works_79 (by decide) (fun c_79 => ?_) (fun c_79 => ?_)
    · rw [nI_leI (by omega) (by omega)] at c_79
      rw [show r = rc by omega]
      exact hcont T (gr.imp (fun _ P r9 hr9 => P r9 (by omega)))
    · rw [nI_leI (by omega) (by omega)] at c_79
      refine x_iload dX14_works_82 rfl ?_
      refine x_iload_n dX14_works_84 rfl ?_
      refine x_icmp_eq 120 dX14_works_85 (by decide) (fun c_85 => ?_) (fun c_85 => ?_)
      · refine x_iinc (v := nI (r + 1)) [(0, .ref 205), (1, .int u), (2, .int x2), (3, .int (nI l)), (4, .int (nI (r + 1)))] dX14_works_120 rfl (nI_add r 1) (by decide) rfl rfl ?_
        refine x_goto 73 dX14_works_123 (by decide) ?_
        exact ih (r + 1) (by omega) (by omega) T (gr.imp (fun es P r9 hr9 hU9 hl9 => by by_cases e : r9 = r; (rw [e] at hU9 hl9; first | exact absurd c_85 (of_decide_eq_true hU9) | exact absurd (by rw [hl9]) c_106); exact P r9 (by omega) hU9 hl9))
      · obtain ⟨a, hra, ha1, ha2, rv1⟩ := (hT.y Y1) r (by omega)
        obtain ⟨so, kd, on, tz, lt, rc9, rI⟩ := id rv1
        obtain ⟨hh1, hh2⟩ := (hV r (by omega)).2.2.1
        have z1 : kd 0 = nI (rvH (V r)) := (rI 0 (Nat.zero_le _)).2.1.trans hh1
        have hh2 : rvH (V r) < 10 := hh2
        refine x_aload_n dX14_works_88 rfl ?_
        refine x_get lf_X14_30 dX14_works_89 M1.o rfl ?_
        refine x_aload_n dX14_works_92 rfl ?_
        refine x_get lf_X14_42 dX14_works_93 M1.o rfl ?_
        refine x_iload dX14_works_96 rfl ?_
        refine x_aaldN (b := a) (j := r) M1.r rfl rfl (by omega) (by decide) hra dX14_works_98 ?_
        refine x_get lf_X14_171 dX14_works_99 rc9.1 rfl ?_
        refine x_iconst (v := 0) dX14_works_102 (by decide) ?_
        refine x_ialdN (j := 0) rc9.2.2.1 rfl (by decide) (by decide) dX14_works_103 ?_
        refine x_top (y := nI (rvH (V r))) z1 ?_
        refine x_ialdN (j := rvH (V r)) (M1.a 211 0 10 rfl) rfl (by omega) (by decide) dX14_works_104 ?_
        refine x_top ((congrFun e211 _).trans (hlf _ hh2)) ?_
        refine x_iload_n dX14_works_105 rfl ?_
        refine x_icmp_ne 120 dX14_works_106 (by decide) (fun c_106 => ?_) (fun c_106 => ?_)
        · refine x_iinc (v := nI (r + 1)) [(0, .ref 205), (1, .int u), (2, .int x2), (3, .int (nI l)), (4, .int (nI (r + 1)))] dX14_works_120 rfl (nI_add r 1) (by decide) rfl rfl ?_
          refine x_goto 73 dX14_works_123 (by decide) ?_
          exact ih (r + 1) (by omega) (by omega) T (gr.imp (fun es P r9 hr9 hU9 hl9 => by by_cases e : r9 = r; (rw [e] at hU9 hl9; first | exact absurd c_85 (of_decide_eq_true hU9) | exact absurd (by rw [hl9]) c_106); exact P r9 (by omega) hU9 hl9))
        · refine x_aload_n dX14_works_109 rfl ?_
          refine x_aload_n dX14_works_110 rfl ?_
          refine x_get lf_X14_42 dX14_works_111 M1.o rfl ?_
          refine x_iload dX14_works_114 rfl ?_
          refine x_aaldN (b := a) (j := r) M1.r rfl rfl (by omega) (by decide) hra dX14_works_116 ?_
          have hL9 := hI1.2.2.2
          have hb9 := hLb (rvH (V r))
          have qL : nI (L (rvH (V r))) = nI l := by first | exact c_106 | exact Classical.not_not.mp c_106
          have hLl : L (rvH (V r)) = l := (nI_eq (by omega) (by omega)).mp qL
          refine x_callV (As := [.ref a]) (st := []) lv_X14_258 (k_X14_takes M1 hn ha1 (hV r (by omega)) (wkI_step hs hV hn hS (by omega) (by unfold uR; exact decide_eq_true c_85) hLl) (fun s h n d h1 h2 => h.2.2.2 n d h1 h2) (hcv r (by omega)) (hpw.pl (by omega)) rv1 hs1 hI1) dX14_works_117 M1.o rfl rfl (Nat.le_of_ble_eq_true rfl) ⟨by decide, by decide⟩ ⟨by decide, by decide⟩ (fun v9 h2 z => ?_) (fun _ _ _ _ _ z => by cases z.1)
          obtain ⟨ev, g2, ar2, t2, M2, Y2, gk2, ak2, hgv2, hs2, hI2, gr2⟩ := z
          cases ev
          refine x_iinc (v := nI (r + 1)) [(0, .ref 205), (1, .int u), (2, .int x2), (3, .int (nI l)), (4, .int (nI (r + 1)))] dX14_works_120 rfl (nI_add r 1) (by decide) rfl rfl ?_
          refine x_goto 73 dX14_works_123 (by decide) ?_
          exact ih (r + 1) (by omega) (by omega) ⟨M2, Y1.tr Y2, fun k hk => (gk2 k hk).trans (gk1 k hk), fun c a1 a2 a3 => (ak2 c a2 a3).trans (ak1 c a1 a2 a3), (ak2 211 (by decide) (by decide)).trans e211, hs2, hI2⟩ (gr.go gr2 (fun es P co r9 hr9 hU9 hl9 => by by_cases e : r9 = r; (rw [e, ← es]; exact co); exact P r9 (by omega) hU9 hl9))
set_option maxRecDepth 100000 in
set_option maxHeartbeats 4000000 in
theorem l_X14_wkL {G : xG} {h : xHp} {g : Nat → Int32} {w : Int64} {nw : Value} {ar : Nat → Nat → Int32} {tw : Nat → Int64} {kw : Nat → Int64} {rf : Nat → Option Nat} (M : MH h g w nw ar tw kw rf) {S : Nat → Bool} {V : Nat → RV} {rc nt : Nat} {u : Int32} {s0 : Nat → Option Nat} (hs : IsSt S V rc (uR u) nt s0) (hV : ∀ r, r < rc → okRl nt (V r)) (hn : nt ≤ 10) (hrc : rc ≤ 20) (h6 : g 6 = nI rc) (hT : rmT h rf rc V) (hcv : ∀ r, r < rc → covR (V r)) (hpw : pwA V rc nt s0) {L : Nat → Nat} {lf : Nat → Int32} (hS : Sat V rc L) (hlf : ∀ k, k < 10 → lf k = nI (L k)) (hLb : ∀ k, L k ≤ 9) {x2 : Int32} {l : Nat} (hl : l ≤ 10) (hcont : ∀ {h1 : xHp} {g1 : Nat → Int32} {ar1 : Nat → Nat → Int32} {t : Nat → Option Nat}, WS S L s0 h g w nw ar tw kw rf lf (l + 1) h1 g1 ar1 t → Wx G mX14_works (xRm 11 0 0) (xF G (fun o h' => o = .inl none ∧ ∃ g' ar', MH h' g' w nw ar' tw kw rf ∧ yfr h h' ∧ (∀ k, k ≠ 34 → g' k = g k) ∧ (∀ c, c ≠ 211 → c ≠ 219 → c ≠ 220 → ar' c = ar c) ∧ stO (ar' 219) s0) 0 0) 0 0 129 [(0, .ref 205), (1, .int u), (2, .int x2), (3, .int (nI l))] [] h1) : ∀ (m : Nat) {h1 : xHp} {g1 : Nat → Int32} {ar1 : Nat → Nat → Int32} {t : Nat → Option Nat}, WS S L s0 h g w nw ar tw kw rf lf l h1 g1 ar1 t → ((g1 34 = 1 ∧ muS t < m) ∨ (g1 34 = 0 ∧ clW V nt u L l rc t)) → Wx G mX14_works (xRm 11 0 0) (xF G (fun o h' => o = .inl none ∧ ∃ g' ar', MH h' g' w nw ar' tw kw rf ∧ yfr h h' ∧ (∀ k, k ≠ 34 → g' k = g k) ∧ (∀ c, c ≠ 211 → c ≠ 219 → c ≠ 220 → ar' c = ar c) ∧ stO (ar' 219) s0) 0 0) 0 0 58 [(0, .ref 205), (1, .int u), (2, .int x2), (3, .int (nI l))] [] h1 := by
  intro m
  induction m with
  | zero =>
    intro h1 g1 ar1 t T hc0
    obtain ⟨M1, Y1, gk1, ak1, e211, hs1, hI1⟩ := id T
    rcases hc0 with ⟨_, z⟩ | ⟨hc, hcl⟩
    · omega
    · refine x_aload_n dX14_works_58 rfl ?_
      refine x_get lf_X14_254 dX14_works_59 M1.o rfl ?_
      refine x_top (y := 0) hc ?_
      refine x_if_eq 129 dX14_works_62 (by decide) (fun c_62 => ?_) (fun c_62 => absurd c_62 (fun z => z rfl))
      exact x_ls _ [0, 1, 2, 3] rfl (hcont ⟨M1, Y1, gk1, ak1, e211, hs1, wkI_next hs hV hn hS hI1 (fun r hr => hcl r hr)⟩)
  | succ m ih =>
    intro h1 g1 ar1 t T hc0
    obtain ⟨M1, Y1, gk1, ak1, e211, hs1, hI1⟩ := id T
    rcases hc0 with ⟨hc, hmu⟩ | ⟨hc, hcl⟩
    · refine x_aload_n dX14_works_58 rfl ?_
      refine x_get lf_X14_254 dX14_works_59 M1.o rfl ?_
      refine x_top (y := 1) hc ?_
      refine x_if_eq 129 dX14_works_62 (by decide) (fun c_62 => absurd c_62 (fun z => absurd z (by decide))) (fun c_62 => ?_)
      refine x_aload_n dX14_works_65 rfl ?_
      refine x_iconst (v := 0) dX14_works_66 (by decide) ?_
      refine x_put (mL (upd g1 34 0) w nw) lf_X14_254 dX14_works_67 M1.o (Nat.le_of_ble_eq_true rfl) rfl rfl rfl ?_
      refine x_iconst (v := 0) dX14_works_70 (by decide) ?_
      refine x_istore [(0, .ref 205), (1, .int u), (2, .int x2), (3, .int (nI l)), (4, .int 0)] dX14_works_71 (by decide) rfl rfl ?_
      refine l_X14_wkR M hs hV hn hrc h6 hT hcv hpw hS hlf hLb hl (t0 := t) (fun {h2} {g2} {ar2} {t2} T2 gr2 => ?_) (rc + 1) 0 (Nat.zero_le _) (by omega) ⟨(M1.g9 (upd g1 34 0) w nw), Y1.tr ((yfr_rf _).up (by decide)), fun k hk => (upd_nq hk).trans (gk1 k hk), ak1, e211, hs1, hI1⟩ ⟨lowS_rf t, Or.inr ⟨upd_at9, rfl, fun r9 hr9 => absurd hr9 (by omega)⟩⟩
      refine x_goto 58 dX14_works_126 (by decide) ?_
      refine x_ls _ [0, 1, 2, 3] rfl (ih T2 ?_)
      rcases gr2.2 with ⟨z1, z2 | z2⟩ | ⟨z1, z2, z3⟩
      · exact absurd z2 (by decide)
      · exact Or.inl ⟨z1, by omega⟩
      · exact Or.inr ⟨z1, by rw [z2]; exact z3⟩
    · refine x_aload_n dX14_works_58 rfl ?_
      refine x_get lf_X14_254 dX14_works_59 M1.o rfl ?_
      refine x_top (y := 0) hc ?_
      refine x_if_eq 129 dX14_works_62 (by decide) (fun c_62 => ?_) (fun c_62 => absurd c_62 (fun z => z rfl))
      exact x_ls _ [0, 1, 2, 3] rfl (hcont ⟨M1, Y1, gk1, ak1, e211, hs1, wkI_next hs hV hn hS hI1 (fun r hr => hcl r hr)⟩)
set_option maxRecDepth 100000 in
set_option maxHeartbeats 4000000 in
theorem l_X14_wkO {G : xG} {h : xHp} {g : Nat → Int32} {w : Int64} {nw : Value} {ar : Nat → Nat → Int32} {tw : Nat → Int64} {kw : Nat → Int64} {rf : Nat → Option Nat} (M : MH h g w nw ar tw kw rf) {S : Nat → Bool} {V : Nat → RV} {rc nt : Nat} {u : Int32} {s0 : Nat → Option Nat} (hs : IsSt S V rc (uR u) nt s0) (hV : ∀ r, r < rc → okRl nt (V r)) (hn : nt ≤ 10) (hrc : rc ≤ 20) (h6 : g 6 = nI rc) (hT : rmT h rf rc V) (hcv : ∀ r, r < rc → covR (V r)) (hpw : pwA V rc nt s0) {L : Nat → Nat} {lf : Nat → Int32} (hS : Sat V rc L) (hlf : ∀ k, k < 10 → lf k = nI (L k)) (hLb : ∀ k, L k ≤ 9) {x2 : Int32} : ∀ (m l : Nat) {h1 : xHp} {g1 : Nat → Int32} {ar1 : Nat → Nat → Int32} {t : Nat → Option Nat}, l ≤ 11 → 12 ≤ l + m → WS S L s0 h g w nw ar tw kw rf lf l h1 g1 ar1 t → Wx G mX14_works (xRm 11 0 0) (xF G (fun o h' => o = .inl none ∧ ∃ g' ar', MH h' g' w nw ar' tw kw rf ∧ yfr h h' ∧ (∀ k, k ≠ 34 → g' k = g k) ∧ (∀ c, c ≠ 211 → c ≠ 219 → c ≠ 220 → ar' c = ar c) ∧ stO (ar' 219) s0) 0 0) 0 0 47 [(0, .ref 205), (1, .int u), (2, .int x2), (3, .int (nI l))] [] h1 := by
  intro m
  induction m with
  | zero => exact fun l {h1} {g1} {ar1} {t} a1 a2 => absurd a2 (by omega)
  | succ m ih =>
    intro l h1 g1 ar1 t a1 a2 T
    obtain ⟨M1, Y1, gk1, ak1, e211, hs1, hI1⟩ := id T
    refine x_iload_n dX14_works_47 rfl ?_
    refine x_bipush (v := 10) dX14_works_48 (by decide) ?_
    refine x_icmp_gt 135 dX14_works_50 (by decide) (fun c_50 => ?_) (fun c_50 => ?_)
    · rw [show (10 : Int32) = nI 10 from rfl, nI_ltI (by omega) (by omega)] at c_50
      exact x_vret dX14_works_135 rfl (Nat.le_refl _) (Nat.le_refl _) ⟨rfl, g1, ar1, M1, Y1, gk1, ak1, wkI_end hI1 hLb (by omega) hs1⟩
    · rw [show (10 : Int32) = nI 10 from rfl, nI_ltI (by omega) (by omega)] at c_50
      refine x_aload_n dX14_works_53 rfl ?_
      refine x_iconst (v := 1) dX14_works_54 (by decide) ?_
      refine x_put (mL (upd g1 34 1) w nw) lf_X14_254 dX14_works_55 M1.o (Nat.le_of_ble_eq_true rfl) rfl rfl rfl ?_
      refine l_X14_wkL M hs hV hn hrc h6 hT hcv hpw hS hlf hLb (by omega) (fun {h2} {g2} {ar2} {t2} T2 => ?_) (muS t + 1) ⟨(M1.g9 (upd g1 34 1) w nw), Y1.tr ((yfr_rf _).up (by decide)), fun k hk => (upd_nq hk).trans (gk1 k hk), ak1, e211, hs1, hI1⟩ (Or.inl ⟨upd_at9, Nat.lt_succ_self _⟩)
      refine x_iinc (v := nI (l + 1)) [(0, .ref 205), (1, .int u), (2, .int x2), (3, .int (nI (l + 1)))] dX14_works_129 rfl (nI_add l 1) (by decide) rfl rfl ?_
      refine x_goto 47 dX14_works_132 (by decide) ?_
      exact ih (l + 1) (by omega) (by omega) T2
