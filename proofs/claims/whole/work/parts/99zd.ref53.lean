/-! the reference: go -/
def goF (S : Nat → Bool) (f : Nat → Int32) (x : Nat) : Prop := ∀ n, n < x → S n = true → f (fb_ct S n) = nI n
theorem goF_n {S : Nat → Bool} {f : Nat → Int32} {x : Nat} (h : goF S f x) (hS : S x = false) : goF S f (x + 1) := fun n hn hs => by
  by_cases q : n = x
  · rw [q, hS] at hs; cases hs
  · exact h n (by omega) hs
theorem goF_y {S : Nat → Bool} {f : Nat → Int32} {x : Nat} (h : goF S f x) : goF S (upd f (fb_ct S x) (nI x)) (x + 1) := fun n hn hs => by
  by_cases q : n = x
  · rw [q, upd_at9]
  · have h1 := fb_ct_mono S (show n + 1 ≤ x by omega)
    rw [fb_ct_succ, hs] at h1
    simp at h1
    rw [upd_nq (by omega)]; exact h n (by omega) hs
theorem goF_cd {S : Nat → Bool} {f : Nat → Int32} (h : goF S f 1000) : ∃ cd, cdO S (fb_ct S 1000) cd ∧ ∀ k, k < fb_ct S 1000 → f k = nI (cd k) := by
  refine ⟨fun k => (f k).toNatClampNeg, ?_, ?_⟩
  · intro k hk
    obtain ⟨i, i1, i2, i3⟩ := fb_ct_kth hk
    have e := h i i1 i2
    rw [i3] at e
    show (f k).toNatClampNeg < 1000 ∧ S (f k).toNatClampNeg = true ∧ fb_ct S (f k).toNatClampNeg = k
    rw [e, nI_clamp (by omega)]
    exact ⟨i1, i2, i3⟩
  · intro k hk
    obtain ⟨i, i1, i2, i3⟩ := fb_ct_kth hk
    have e := h i i1 i2
    rw [i3] at e
    show f k = nI (f k).toNatClampNeg
    rw [e, nI_clamp (by omega)]
set_option maxRecDepth 100000 in
set_option maxHeartbeats 4000000 in
theorem l_X14_go1 {G : xG} {Q : Option Value ⊕ Nat → xHp → Prop} {h : xHp} {g : Nat → Int32} {w : Int64} {nw : Value} {ar : Nat → Nat → Int32} {tw kw : Nat → Int64} {rf : Nat → Option Nat} {S : Nat → Bool} (h12 : ∀ j, j < 1000 → ar 212 j = bi (S j)) {n9 : Nat} (hQ6 : ∀ h' g1 ar', yfr h h' → MH h' (upd (upd g1 1 6) 2 (-1)) w nw ar' tw kw rf → (∀ q, q ≠ 41 → g1 q = g q) → (∀ c, c ≠ 223 → ar' c = ar c) → 12 < fb_ct S 1000 → Q (.inl (some (.int (-1)))) h') (hcont : ∀ {h1 : xHp} {g1 : Nat → Int32} {ar1 : Nat → Nat → Int32}, MH h1 g1 w nw ar1 tw kw rf → yfr h h1 → g1 41 = nI (fb_ct S 1000) → (∀ q, q ≠ 41 → g1 q = g q) → (∀ c, c ≠ 223 → ar1 c = ar c) → fb_ct S 1000 ≤ 12 → goF S (ar1 223) 1000 → Wx G mX14_go (xRm 16 0 0) (xF G Q 0 0) 0 0 109 [(0, .ref 205), (1, .int (nI n9))] [] h1) : ∀ (m x : Nat) {h1 : xHp} {g1 : Nat → Int32} {ar1 : Nat → Nat → Int32}, x ≤ 1000 → 1001 ≤ x + m → fb_ct S x ≤ 12 → MH h1 g1 w nw ar1 tw kw rf → yfr h h1 → g1 41 = nI (fb_ct S x) → (∀ q, q ≠ 41 → g1 q = g q) → (∀ c, c ≠ 223 → ar1 c = ar c) → goF S (ar1 223) x → Wx G mX14_go (xRm 16 0 0) (xF G Q 0 0) 0 0 48 [(0, .ref 205), (1, .int (nI n9)), (2, .int (nI x))] [] h1 := by
  intro m
  induction m with
  | zero => intro x h1 g1 ar1 a1 a2; exact absurd a2 (by omega)
  | succ m ih =>
    intro x h1 g1 ar1 hx hx2 h12c M1 Y1 g41 gk1 ak1 hF
    refine x_iload_n dX14_go_48 rfl ?_
    refine x_sipush (v := 1000) dX14_go_49 (by decide) ?_
    refine x_icmp_ge 109 dX14_go_52 (by decide) (fun c_52 => ?_) (fun c_52 => ?_)
    · rw [show (1000 : Int32) = nI 1000 from rfl, nI_leI (by omega) (by omega)] at c_52
      rw [show x = 1000 by omega] at g41 h12c hF
      exact x_ls _ [0, 1] rfl (hcont M1 Y1 g41 gk1 ak1 h12c hF)
    · rw [show (1000 : Int32) = nI 1000 from rfl, nI_leI (by omega) (by omega)] at c_52
      have hs9 : ar1 212 x = bi (S x) := (congrFun (ak1 212 (by decide)) x).trans (h12 x (by omega))
      have hct : fb_ct S (x + 1) = fb_ct S x + (if S x = true then 1 else 0) := rfl
      refine x_aload_n dX14_go_55 rfl ?_
      refine x_get lf_X14_33 dX14_go_56 M1.o rfl ?_
      refine x_iload_n dX14_go_59 rfl ?_
      refine x_zaldN (j := x) (M1.a 212 3 1000 rfl) rfl (by omega) (by decide) dX14_go_60 ?_
      refine x_top hs9 ?_
      refine x_if_ne 67 dX14_go_61 (by decide) (fun c_61 => ?_) (fun c_61 => ?_)
      · have c_61 := bi_t c_61
        refine x_aload_n dX14_go_67 rfl ?_
        refine x_get lf_X14_315 dX14_go_68 M1.o rfl ?_
        refine x_top (y := nI (fb_ct S x)) g41 ?_
        refine x_bipush (v := 12) dX14_go_71 (by decide) ?_
        refine x_icmp_ne 83 dX14_go_73 (by decide) (fun c_73 => ?_) (fun c_73 => ?_)
        · rw [show (12 : Int32) = nI 12 from rfl, nI_eq (by omega) (by omega)] at c_73
          refine x_aload_n dX14_go_83 rfl ?_
          refine x_get lf_X14_75 dX14_go_84 M1.o rfl ?_
          refine x_aload_n dX14_go_87 rfl ?_
          refine x_get lf_X14_315 dX14_go_88 M1.o rfl ?_
          refine x_top (y := nI (fb_ct S x)) g41 ?_
          refine x_iload_n dX14_go_91 rfl ?_
          refine x_iastN (j := fb_ct S x) (M1.a 223 0 12 rfl) rfl (by omega) (by decide) dX14_go_92 ?_
          refine x_aload_n dX14_go_93 rfl ?_
          refine x_dup dX14_go_94 rfl ?_
          refine x_get lf_X14_315 dX14_go_95 ((xup_ne (by omega)).trans M1.o) rfl ?_
          refine x_top (y := nI (fb_ct S x)) g41 ?_
          refine x_iconst (v := 1) dX14_go_98 (by decide) ?_
          refine x_iadd dX14_go_99 ?_
          refine x_top (y := nI ((fb_ct S x) + 1)) (nI_add (fb_ct S x) 1) ?_
          refine x_put (mL (upd g1 41 (nI ((fb_ct S x) + 1))) w nw) lf_X14_315 dX14_go_100 ((xup_ne (by omega)).trans M1.o) (Nat.le_of_ble_eq_true rfl) rfl rfl rfl ?_
          refine x_iinc (v := nI (x + 1)) [(0, .ref 205), (1, .int (nI n9)), (2, .int (nI (x + 1)))] dX14_go_103 rfl (nI_add x 1) (by decide) rfl rfl ?_
          refine x_goto 48 dX14_go_106 (by decide) ?_
          rw [if_pos c_61] at hct
          exact ih (x + 1) (by omega) (by omega) (by omega) ((M1.a9 (c := 223) rfl (upd (ar1 223) (fb_ct S x) (nI x))).g9 (upd g1 41 (nI ((fb_ct S x) + 1))) w nw) (Y1.tr (((yfr_rf _).up (by decide)).up (by decide))) (by rw [hct]; rfl) (fun q hq => (upd_nq hq).trans (gk1 q hq)) (fun c hc => (apF_ne hc).trans (ak1 c hc)) (by rw [apF_at]; exact goF_y hF)
        · rw [show (12 : Int32) = nI 12 from rfl, nI_eq (by omega) (by omega)] at c_73
          refine x_aload_n dX14_go_76 rfl ?_
          refine x_bipush (v := 6) dX14_go_77 (by decide) ?_
          refine x_callV (As := [.int 6]) (st := []) lv_X14_214 (k_X14_refused M1) dX14_go_79 M1.o rfl rfl (Nat.le_of_ble_eq_true rfl) ⟨by decide, by decide⟩ ⟨by decide, by decide⟩ (fun v9 h9 z => ?_) (fun _ _ _ _ _ z => by cases z.1)
          obtain ⟨ev, Y9, M9⟩ := z
          cases ev
          have hmo := fb_ct_mono S (show x + 1 ≤ 1000 by omega)
          rw [if_pos c_61] at hct
          exact x_iret dX14_go_82 rfl rfl (Nat.le_refl _) (Nat.le_refl _) (hQ6 _ _ ar1 (Y1.tr Y9) M9 gk1 ak1 (by omega))
      · have c_61 := bi_f c_61
        refine x_goto 103 dX14_go_64 (by decide) ?_
        refine x_iinc (v := nI (x + 1)) [(0, .ref 205), (1, .int (nI n9)), (2, .int (nI (x + 1)))] dX14_go_103 rfl (nI_add x 1) (by decide) rfl rfl ?_
        refine x_goto 48 dX14_go_106 (by decide) ?_
        rw [c_61] at hct
        have hct : fb_ct S (x + 1) = fb_ct S x := hct
        exact ih (x + 1) (by omega) (by omega) (by omega) M1 Y1 (by rw [hct]; exact g41) gk1 ak1 (goF_n hF c_61)
set_option maxRecDepth 100000 in
set_option maxHeartbeats 4000000 in
theorem l_X14_go3 {G : xG} {Q : Option Value ⊕ Nat → xHp → Prop} {h : xHp} {g : Nat → Int32} {w : Int64} {nw : Value} {ar : Nat → Nat → Int32} {tw kw : Nat → Int64} {rf : Nat → Option Nat} {n9 x : Nat} (hx3 : x ≤ 3) (hQ : ∀ h' ar', yfr h h' → MH h' (upd (upd g 1 0) 2 (-1)) w nw ar' tw kw rf → (∀ c, c ≠ 224 → ar' c = ar c) → (∀ j, j < x → ar' 224 j = ar 225 j) → Q (.inl (some (.int (nI x)))) h') : ∀ (m i : Nat) {h1 : xHp} {ar1 : Nat → Nat → Int32}, i ≤ x → x + 1 ≤ i + m → MH h1 g w nw ar1 tw kw rf → yfr h h1 → (∀ c, c ≠ 224 → ar1 c = ar c) → (∀ j, j < i → ar1 224 j = ar 225 j) → Wx G mX14_go (xRm 16 0 0) (xF G Q 0 0) 0 0 137 [(0, .ref 205), (1, .int (nI n9)), (2, .int (nI x)), (3, .int (nI i))] [] h1 := by
  intro m
  induction m with
  | zero => intro i h1 ar1 a1 a2; exact absurd a2 (by omega)
  | succ m ih =>
    intro i h1 ar1 hi hi2 M1 Y1 ak1 hr
    refine x_iload_n dX14_go_137 rfl ?_
    refine x_iload_n dX14_go_138 rfl ?_
    refine x_icmp_ge 160 dX14_go_139 (by decide) (fun c_139 => ?_) (fun c_139 => ?_)
    · rw [nI_leI (by omega) (by omega)] at c_139
      refine x_aload_n dX14_go_160 rfl ?_
      refine x_iload_n dX14_go_161 rfl ?_
      refine x_callV (As := [.int (nI x)]) (st := []) lv_X14_229 (k_X14_done M1) dX14_go_162 M1.o rfl rfl (Nat.le_of_ble_eq_true rfl) ⟨by decide, by decide⟩ ⟨by decide, by decide⟩ (fun v9 h9 z => ?_) (fun _ _ _ _ _ z => by cases z.1)
      obtain ⟨ev, Y9, M9⟩ := z
      cases ev
      exact x_iret dX14_go_165 rfl rfl (Nat.le_refl _) (Nat.le_refl _) (hQ _ ar1 (Y1.tr Y9) M9 ak1 (fun j hj => hr j (by omega)))
    · rw [nI_leI (by omega) (by omega)] at c_139
      refine x_aload_n dX14_go_142 rfl ?_
      refine x_get lf_X14_78 dX14_go_143 M1.o rfl ?_
      refine x_iload_n dX14_go_146 rfl ?_
      refine x_aload_n dX14_go_147 rfl ?_
      refine x_get lf_X14_81 dX14_go_148 M1.o rfl ?_
      refine x_iload_n dX14_go_151 rfl ?_
      refine x_ialdN (j := i) (M1.a 225 0 3 rfl) rfl (by omega) (by decide) dX14_go_152 ?_
      refine x_iastN (j := i) (M1.a 224 0 3 rfl) rfl (by omega) (by decide) dX14_go_153 ?_
      refine x_iinc (v := nI (i + 1)) [(0, .ref 205), (1, .int (nI n9)), (2, .int (nI x)), (3, .int (nI (i + 1)))] dX14_go_154 rfl (nI_add i 1) (by decide) rfl rfl ?_
      refine x_goto 137 dX14_go_157 (by decide) ?_
      exact ih (i + 1) (by omega) (by omega) (M1.a9 (c := 224) rfl (upd (ar1 224) i ((ar1 225) i))) (Y1.tr ((yfr_rf _).up (by decide))) (fun c hc => (apF_ne hc).trans (ak1 c hc)) (fun j hj => (congrFun (apF_at _ _ _) j).trans (by by_cases q : j = i; (rw [q, upd_at9]; exact congrFun (ak1 225 (by decide)) i); (rw [upd_nq q]; exact hr j (by omega))))
set_option maxRecDepth 100000 in
set_option maxHeartbeats 4000000 in
theorem l_X14_go2 {G : xG} {Q : Option Value ⊕ Nat → xHp → Prop} {h : xHp} {w : Int64} {nw : Value} {tw kw : Nat → Int64} {rf : Nat → Option Nat} {S : Nat → Bool} {V : Nat → RV} {rc nt : Nat} (hV : ∀ r, r < rc → okRl nt (V r)) (hn : nt ≤ 10) (hrc : rc ≤ 20) (hcv : ∀ r, r < rc → covR (V r)) (hK : ∀ r, r < rc → okK (V r)) (hsat : ∃ S9, Sat V rc S9) {n9 : Nat} (hn9 : n9 < 1000) (hcut : ∀ m D, ∃ s, IsSt (minS S m D) V rc (uR (-1)) nt s ∧ pwA V rc nt s ∧ (s n9 = none ↔ cutS S V rc nt n9 m D)) {N : Nat} {cd : Nat → Nat} (hcd : cdO S N cd) (hN : N ≤ 12) {g : Nat → Int32} {ar : Nat → Nat → Int32} (hT : rmT h rf rc V) (h6 : g 6 = nI rc) (h41 : g 41 = nI N) (h23 : ∀ k, k < N → ar 223 k = nI (cd k)) (hQf : ∀ x E, x ≤ 3 → fnP (cutS S V rc nt n9) cd N 0 0 x (fun _ => 0) E → (∀ m', m' < x → noP (cutS S V rc nt n9) cd N 0 0 m' (fun _ => 0)) → ∀ h' g1 ar', yfr h h' → MH h' (upd (upd g1 1 0) 2 (-1)) w nw ar' tw kw rf → g1 42 = nI x → (∀ q, q ≠ 34 → q ≠ 42 → g1 q = g q) → (∀ j, j < 1000 → ar' 212 j = bi (S j)) → (∀ j, j < x → ar' 224 j = nI (E j)) → (∀ c, c ≠ 211 → c ≠ 212 → c ≠ 219 → c ≠ 220 → c ≠ 225 → c ≠ 224 → ar' c = ar c) → Q (.inl (some (.int (nI x)))) h') (hQn : ∀ h' g1 ar', yfr h h' → MH h' (upd (upd g1 1 0) 2 (-1)) w nw ar' tw kw rf → (∀ q, q ≠ 34 → g1 q = g q) → (∀ j, j < 1000 → ar' 212 j = bi (S j)) → (∀ c, c ≠ 211 → c ≠ 212 → c ≠ 219 → c ≠ 220 → c ≠ 225 → ar' c = ar c) → (∀ m', m' < 4 → noP (cutS S V rc nt n9) cd N 0 0 m' (fun _ => 0)) → Q (.inl (some (.int (-2)))) h') : ∀ (m x : Nat) {h1 : xHp} {g1 : Nat → Int32} {ar1 : Nat → Nat → Int32}, x ≤ 4 → 5 ≤ x + m → MH h1 g1 w nw ar1 tw kw rf → yfr h h1 → (∀ q, q ≠ 34 → g1 q = g q) → (∀ c, c ≠ 211 → c ≠ 212 → c ≠ 219 → c ≠ 220 → c ≠ 225 → ar1 c = ar c) → (∀ j, j < 1000 → ar1 212 j = bi (S j)) → (∀ m', m' < x → noP (cutS S V rc nt n9) cd N 0 0 m' (fun _ => 0)) → Wx G mX14_go (xRm 16 0 0) (xF G Q 0 0) 0 0 111 [(0, .ref 205), (1, .int (nI n9)), (2, .int (nI x))] [] h1 := by
  intro m
  induction m with
  | zero => intro x h1 g1 ar1 a1 a2; exact absurd a2 (by omega)
  | succ m ih =>
    intro x h1 g1 ar1 hx hx2 M1 Y1 gk1 ak1 a12 hno
    refine x_iload_n dX14_go_111 rfl ?_
    refine x_iconst (v := 3) dX14_go_112 (by decide) ?_
    refine x_icmp_gt 172 dX14_go_113 (by decide) (fun c_113 => ?_) (fun c_113 => ?_)
    · rw [show (3 : Int32) = nI 3 from rfl, nI_ltI (by omega) (by omega)] at c_113
      refine x_aload_n dX14_go_172 rfl ?_
      refine x_bipush (v := (-2)) dX14_go_173 (by decide) ?_
      refine x_callV (As := [.int (-2)]) (st := []) lv_X14_229 (k_X14_done M1) dX14_go_175 M1.o rfl rfl (Nat.le_of_ble_eq_true rfl) ⟨by decide, by decide⟩ ⟨by decide, by decide⟩ (fun v9 h9 z => ?_) (fun _ _ _ _ _ z => by cases z.1)
      obtain ⟨ev, Y9, M9⟩ := z
      cases ev
      exact x_iret dX14_go_178 rfl rfl (Nat.le_refl _) (Nat.le_refl _) (hQn _ _ ar1 (Y1.tr Y9) M9 gk1 a12 ak1 (fun m' hm => hno m' (by omega)))
    · rw [show (3 : Int32) = nI 3 from rfl, nI_ltI (by omega) (by omega)] at c_113
      refine x_aload_n dX14_go_116 rfl ?_
      refine x_iload_n dX14_go_117 rfl ?_
      refine x_iconst (v := 0) dX14_go_118 (by decide) ?_
      refine x_iload_n dX14_go_119 rfl ?_
      refine x_iconst (v := 0) dX14_go_120 (by decide) ?_
      have K2 := k_X14_loses (G := G) hV hn hrc hcv hK hsat hn9 hcut hcd hN x (t := 0) (p := 0) (D := fun _ => 0) (by omega) (Nat.zero_le _) (fun i hi => absurd hi (Nat.not_lt_zero _)) ⟨M1, hT.y Y1, (gk1 6 (by decide)).trans h6, (gk1 41 (by decide)).trans h41, fun k hk => (congrFun (ak1 223 (by decide) (by decide) (by decide) (by decide) (by decide)) k).trans (h23 k hk), fun j hj => by rw [minS_0]; exact a12 j hj, fun i hi => absurd hi (Nat.not_lt_zero _)⟩
      refine x_callV (As := [.int (nI n9), .int 0, .int (nI x), .int 0]) (st := []) lv_X14_318 K2 dX14_go_121 M1.o rfl rfl (Nat.le_of_ble_eq_true rfl) ⟨by show 12 + x + 1 ≤ 16; omega, by show 8 + (7 + 11) + 100 * (12 + x) ≤ 100 * 16; omega⟩ ⟨Nat.le_refl _, Nat.le_refl _⟩ (fun v9 h2 z => ?_) (fun _ _ _ _ _ z => by obtain ⟨_, z, _⟩ := z; cases z)
      obtain ⟨b9, ev, Z2, g2, ar2, M2, gk2, ak2, a12b, a25b, hfn, hnn⟩ := z
      cases ev
      rw [minS_0] at a12b
      refine x_if_ne 130 dX14_go_124 (by decide) (fun c_124 => ?_) (fun c_124 => ?_)
      · have c_124 := bi_t c_124
        refine x_aload_n dX14_go_130 rfl ?_
        refine x_iload_n dX14_go_131 rfl ?_
        refine x_put (mL (upd g2 42 (nI x)) w nw) lf_X14_322 dX14_go_132 M2.o (Nat.le_of_ble_eq_true rfl) rfl rfl rfl ?_
        refine x_iconst (v := 0) dX14_go_135 (by decide) ?_
        refine x_istore_n [(0, .ref 205), (1, .int (nI n9)), (2, .int (nI x)), (3, .int 0)] dX14_go_136 (by decide) rfl rfl ?_
        obtain ⟨E, e1, e2⟩ := hfn c_124
        refine l_X14_go3 (by omega) (fun h' ar' y m1 k1 r1 => hQf x E (by omega) e1 hno _ _ ar' ((Y1.tr Z2).tr (((yfr_rf _).up (by decide)).tr y)) m1 rfl (fun q q1 q2 => (upd_nq q2).trans ((gk2 q q1).trans (gk1 q q1))) (fun j hj => (congrFun (k1 212 (by decide)) j).trans (a12b j hj)) (fun j hj => (r1 j hj).trans (e2 j (by omega))) (fun c a1 a2 a3 a4 a5 a6 => (k1 c a6).trans ((ak2 c a1 a2 a3 a4 a5).trans (ak1 c a1 a2 a3 a4 a5)))) (x + 1) 0 (Nat.zero_le _) (by omega) (M2.g9 (upd g2 42 (nI x)) w nw) (yfr_rf _) (fun _ _ => rfl) (fun j hj => absurd hj (Nat.not_lt_zero _))
      · have c_124 := bi_f c_124
        refine x_goto 166 dX14_go_127 (by decide) ?_
        refine x_iinc (v := nI (x + 1)) [(0, .ref 205), (1, .int (nI n9)), (2, .int (nI (x + 1)))] dX14_go_166 rfl (nI_add x 1) (by decide) rfl rfl ?_
        refine x_goto 111 dX14_go_169 (by decide) ?_
        exact ih (x + 1) (by omega) (by omega) M2 (Y1.tr Z2) (fun q hq => (gk2 q hq).trans (gk1 q hq)) (fun c a1 a2 a3 a4 a5 => (ak2 c a1 a2 a3 a4 a5).trans (ak1 c a1 a2 a3 a4 a5)) a12b (fun m' hm => by by_cases q : m' = x; (rw [q]; exact hnn c_124); exact hno m' (by omega))
set_option maxRecDepth 100000 in
set_option maxHeartbeats 4000000 in
theorem k_X14_go {G : xG} {h : xHp} {g : Nat → Int32} {w : Int64} {nw : Value} {ar : Nat → Nat → Int32} {tw : Nat → Int64} {kw : Nat → Int64} {rf : Nat → Option Nat} (M : MH h g w nw ar tw kw rf) {S : Nat → Bool} {V : Nat → RV} {rc nt : Nat} {s0 : Nat → Option Nat} (hs : IsSt S V rc (uR (-1)) nt s0) (hV : ∀ r, r < rc → okRl nt (V r)) (hn : nt ≤ 10) (hrc : rc ≤ 20) (h6 : g 6 = nI rc) (hT : rmT h rf rc V) (hcv : ∀ r, r < rc → covR (V r)) (hpw : pwA V rc nt s0) (hK : ∀ r, r < rc → okK (V r)) (hsat : ∃ S9, Sat V rc S9) (h12 : ∀ j, j < 1000 → ar 212 j = bi (S j)) {nk : Nat} {pc : Nat → Nat} (h4 : g 4 = nI nt) (h5 : g 5 = nI nk) (hnk : nk ≤ 10) (hpc : ∀ k, k < nk → ar 210 k = nI (pc k) ∧ pc k < 3) (hcut : ∀ n, okAtom nk nt pc n → ∀ m D, ∃ s, IsSt (minS S m D) V rc (uR (-1)) nt s ∧ pwA V rc nt s ∧ (s n = none ↔ cutS S V rc nt n m D)) (hc0 : ∀ n, okAtom nk nt pc n → (s0 n).isSome = true → ∀ E, ¬ cutS S V rc nt n 0 E) {a9 : Int32} : MX G mX14_go 16 0 0 [.ref 205, .int a9] h (fun o h' => ∃ r, o = .inl (some (.int r)) ∧ yfr h h' ∧ (((¬ ∃ n, a9 = nI n ∧ n < 2 ^ 31 ∧ okAtom nk nt pc n) ∧ r = -1 ∧ MH h' (upd (upd (upd g 0 0) 1 1) 2 (-1)) w nw ar tw kw rf) ∨ (∃ n, a9 = nI n ∧ okAtom nk nt pc n ∧ ((s0 n = none ∧ r = -1 ∧ ∃ g' ar', MH h' g' w nw ar' tw kw rf ∧ (g' 0 = 0 ∧ g' 1 = 5 ∧ g' 2 = -1 ∧ ∀ k, k ≠ 0 → k ≠ 1 → k ≠ 2 → k ≠ 34 → k ≠ 41 → g' k = g k) ∧ (∀ j, j < 1000 → ar' 212 j = bi (S j)) ∧ ∀ c, c ≠ 211 → c ≠ 212 → c ≠ 219 → c ≠ 220 → c ≠ 225 → c ≠ 223 → ar' c = ar c) ∨ ((s0 n).isSome = true ∧ 12 < fb_ct S 1000 ∧ r = -1 ∧ ∃ g' ar', MH h' g' w nw ar' tw kw rf ∧ (g' 0 = 0 ∧ g' 1 = 6 ∧ g' 2 = -1 ∧ ∀ k, k ≠ 0 → k ≠ 1 → k ≠ 2 → k ≠ 34 → k ≠ 41 → g' k = g k) ∧ (∀ j, j < 1000 → ar' 212 j = bi (S j)) ∧ ∀ c, c ≠ 211 → c ≠ 212 → c ≠ 219 → c ≠ 220 → c ≠ 225 → c ≠ 223 → ar' c = ar c) ∨ ((s0 n).isSome = true ∧ fb_ct S 1000 ≤ 12 ∧ ((∃ m D, 1 ≤ m ∧ m ≤ 3 ∧ goP S V rc nt n m D ∧ r = nI m ∧ ∃ g' ar', MH h' g' w nw ar' tw kw rf ∧ (g' 0 = 0 ∧ g' 1 = 0 ∧ g' 2 = -1 ∧ g' 42 = nI m ∧ ∀ k, k ≠ 0 → k ≠ 1 → k ≠ 2 → k ≠ 34 → k ≠ 41 → k ≠ 42 → g' k = g k) ∧ (∀ j, j < 1000 → ar' 212 j = bi (S j)) ∧ (∀ j, j < m → ar' 224 j = nI (D j)) ∧ ∀ c, c ≠ 211 → c ≠ 212 → c ≠ 219 → c ≠ 220 → c ≠ 225 → c ≠ 223 → c ≠ 224 → ar' c = ar c) ∨ ((∀ m D, 1 ≤ m → m ≤ 3 → dOk S m D → ¬ cutS S V rc nt n m D) ∧ r = -2 ∧ ∃ g' ar', MH h' g' w nw ar' tw kw rf ∧ (g' 0 = 0 ∧ g' 1 = 0 ∧ g' 2 = -1 ∧ ∀ k, k ≠ 0 → k ≠ 1 → k ≠ 2 → k ≠ 34 → k ≠ 41 → g' k = g k) ∧ (∀ j, j < 1000 → ar' 212 j = bi (S j)) ∧ ∀ c, c ≠ 211 → c ≠ 212 → c ≠ 219 → c ≠ 220 → c ≠ 225 → c ≠ 223 → ar' c = ar c))))))) := by
  refine MX.of [(0, .ref 205), (1, .int a9)] (by decide) rfl (Nat.le_of_ble_eq_true rfl) rfl ?_
  refine x_aload_n dX14_go_0 rfl ?_
  refine x_iconst (v := 0) dX14_go_1 (by decide) ?_
  refine x_put (mL (upd g 0 0) w nw) lf_X14_84 dX14_go_2 M.o (Nat.le_of_ble_eq_true rfl) rfl rfl rfl ?_
  refine x_aload_n dX14_go_5 rfl ?_
  refine x_iload_n dX14_go_6 rfl ?_
  refine x_callV (As := [.int a9]) (st := []) lv_X14_239 (k_X14_isAtom (M.g9 (upd g 0 0) w nw) ((upd_nq (by decide)).trans h4) ((upd_nq (by decide)).trans h5) hpc hnk hn) dX14_go_7 (xup_self _ _ _) rfl rfl (Nat.le_of_ble_eq_true rfl) ⟨by decide, by decide⟩ ⟨by decide, by decide⟩ (fun v9 h9 z => ?_) (fun _ _ _ _ _ z => by obtain ⟨_, z, _⟩ := z; cases z)
  obtain ⟨b9, ev, eh, hb9⟩ := z
  rw [eh]
  cases ev
  refine x_if_ne 19 dX14_go_10 (by decide) (fun c_10 => ?_) (fun c_10 => ?_)
  · have c_10 := bi_t c_10
    obtain ⟨n9, ea, hn31, hok⟩ := hb9.mp (by first | exact c_10 | exact bi_t c_10)
    have hn9 : n9 < 1000 := by have := hok.1; omega
    subst ea
    refine x_aload_n dX14_go_19 rfl ?_
    refine x_iconst (v := (-1)) dX14_go_20 (by decide) ?_
    have Y1 : yfr h (xup h 205 (.inr (14, mL (upd g 0 0) w nw))) := ((yfr_rf _).up (by decide))
    refine x_callV (As := [.int (-1)]) (st := []) lv_X14_284 (k_X14_works (M.g9 (upd g 0 0) w nw) hs hV hn hrc ((upd_nq (by decide)).trans h6) (hT.y Y1) hcv hpw hK hsat h12) dX14_go_21 (xup_self _ _ _) rfl rfl (Nat.le_of_ble_eq_true rfl) ⟨by decide, by decide⟩ ⟨by decide, by decide⟩ (fun v9 h1 z => ?_) (fun _ _ _ _ _ z => by cases z.1)
    obtain ⟨ev, g1, ar1, M1, Z1, gk1, ak1, hst1⟩ := z
    cases ev
    have Y1 := Y1.tr Z1
    refine x_aload_n dX14_go_24 rfl ?_
    have hs9 := hst1 n9 hn9
    have hS1 : ∀ j, j < 1000 → ar1 212 j = bi (S j) := fun j hj => (congrFun (ak1 212 (by decide) (by decide) (by decide)) j).trans (h12 j hj)
    refine x_get lf_X14_63 dX14_go_25 M1.o rfl ?_
    refine x_iload_n dX14_go_28 rfl ?_
    refine x_ialdN (j := n9) (M1.a 219 0 1000 rfl) rfl (by omega) (by decide) dX14_go_29 ?_
    refine x_top hs9.1 ?_
    refine x_ldc kc_X14_253 dX14_go_30 ?_
    refine x_icmp_lt 41 dX14_go_32 (by decide) (fun c_32 => ?_) (fun c_32 => ?_)
    · refine x_aload_n dX14_go_41 rfl ?_
      refine x_iconst (v := 0) dX14_go_42 (by decide) ?_
      refine x_put (mL (upd g1 41 0) w nw) lf_X14_315 dX14_go_43 M1.o (Nat.le_of_ble_eq_true rfl) rfl rfl rfl ?_
      refine x_iconst (v := 0) dX14_go_46 (by decide) ?_
      refine x_istore_n [(0, .ref 205), (1, .int (nI n9)), (2, .int 0)] dX14_go_47 (by decide) rfl rfl ?_
      have hsm : (s0 n9).isSome = true := by cases z : s0 n9 with | none => exact absurd z ((enS_l hs9.2).mp c_32) | some d => rfl
      have Y2 : yfr h (xup h1 205 (.inr (14, mL (upd g1 41 0) w nw))) := Y1.tr ((yfr_rf _).up (by decide))
      refine l_X14_go1 hS1 (fun h' g5 ar' y m1 k1 k2 hl => ⟨_, rfl, Y1.tr y, Or.inr ⟨n9, rfl, hok, Or.inr (Or.inl ⟨hsm, hl, rfl, _, ar', m1, ⟨(upd_nq (by decide)).trans ((upd_nq (by decide)).trans ((k1 0 (by decide)).trans ((gk1 0 (by decide)).trans rfl))), rfl, rfl, fun k a0 a1 a2 a3 a4 => (upd_nq a2).trans ((upd_nq a1).trans ((k1 k a4).trans ((gk1 k a3).trans (upd_nq a0))))⟩, fun j hj => (congrFun (k2 212 (by decide)) j).trans (hS1 j hj), fun c b1 b2 b3 b4 b5 b6 => (k2 c b6).trans (ak1 c b1 b3 b4)⟩)⟩⟩) (fun {h2} {g2} {ar2} M2 Z2 g41 k1 k2 hle hF => ?_) 1001 0 (Nat.zero_le _) (by omega) (by show 0 ≤ 12; omega) (M1.g9 (upd g1 41 0) w nw) ((yfr_rf _).up (by decide)) rfl (fun q hq => upd_nq hq) (fun _ _ => rfl) (fun n hn => absurd hn (Nat.not_lt_zero _))
      refine x_iconst (v := 0) dX14_go_109 (by decide) ?_
      refine x_istore_n [(0, .ref 205), (1, .int (nI n9)), (2, .int 0)] dX14_go_110 (by decide) rfl rfl ?_
      obtain ⟨cd, hcd, hcd2⟩ := goF_cd hF
      exact l_X14_go2 hV hn hrc hcv hK hsat hn9 (hcut n9 hok) hcd hle ((hT.y Y1).y Z2) ((k1 6 (by decide)).trans ((gk1 6 (by decide)).trans ((upd_nq (by decide)).trans h6))) g41 hcd2 (fun x E hx hf hno h' g5 ar' y m1 e42 k3 a12 a24 k4 => ⟨_, rfl, (Y1.tr Z2).tr y, Or.inr ⟨n9, rfl, hok, Or.inr (Or.inr ⟨hsm, hle, Or.inl ⟨x, E, Nat.pos_of_ne_zero (fun z => by subst z; exact hc0 n9 hok hsm E hf.2.1), hx, ⟨(ex_ok hcd rfl).mp hf.1, by have := hf.2.1; rw [Nat.zero_add] at this; exact this, fun m' D' q1 q2 q3 q4 => hno m' q2 D' ((ex_ok hcd rfl).mpr q3) (by rw [Nat.zero_add]; exact q4), fun D' q3 q4 => by have := hf.2.2 D' ((ex_ok hcd rfl).mpr q3) (by rw [Nat.zero_add]; exact q4); rw [Nat.zero_add] at this; exact this⟩, rfl, _, ar', m1, ⟨(upd_nq (by decide)).trans ((upd_nq (by decide)).trans ((k3 0 (by decide) (by decide)).trans ((k1 0 (by decide)).trans ((gk1 0 (by decide)).trans rfl)))), rfl, rfl, (upd_nq (by decide)).trans ((upd_nq (by decide)).trans e42), fun k a0 a1 a2 a3 a4 a5 => (upd_nq a2).trans ((upd_nq a1).trans ((k3 k a3 a5).trans ((k1 k a4).trans ((gk1 k a3).trans (upd_nq a0)))))⟩, a12, a24, fun c b1 b2 b3 b4 b5 b6 b7 => (k4 c b1 b2 b3 b4 b5 b7).trans ((k2 c b6).trans (ak1 c b1 b3 b4))⟩⟩)⟩⟩) (fun h' g5 ar' y m1 k3 a12 k4 hno => ⟨_, rfl, (Y1.tr Z2).tr y, Or.inr ⟨n9, rfl, hok, Or.inr (Or.inr ⟨hsm, hle, Or.inr ⟨fun m D q1 q2 q3 q4 => hno m (by omega) D ((ex_ok hcd rfl).mpr q3) (by rw [Nat.zero_add]; exact q4), rfl, _, ar', m1, ⟨(upd_nq (by decide)).trans ((upd_nq (by decide)).trans ((k3 0 (by decide)).trans ((k1 0 (by decide)).trans ((gk1 0 (by decide)).trans rfl)))), rfl, rfl, fun k a0 a1 a2 a3 a4 => (upd_nq a2).trans ((upd_nq a1).trans ((k3 k a3).trans ((k1 k a4).trans ((gk1 k a3).trans (upd_nq a0)))))⟩, a12, fun c b1 b2 b3 b4 b5 b6 => (k4 c b1 b2 b3 b4 b5).trans ((k2 c b6).trans (ak1 c b1 b3 b4))⟩⟩)⟩⟩) 5 0 (Nat.zero_le _) (by omega) M2 (yfr_rf _) (fun _ _ => rfl) (fun _ _ _ _ _ _ => rfl) (fun j hj => (congrFun (k2 212 (by decide)) j).trans (hS1 j hj)) (fun m' hm => absurd hm (Nat.not_lt_zero _))
    · refine x_aload_n dX14_go_35 rfl ?_
      refine x_iconst (v := 5) dX14_go_36 (by decide) ?_
      refine x_callV (As := [.int 5]) (st := []) lv_X14_214 (k_X14_refused M1) dX14_go_37 M1.o rfl rfl (Nat.le_of_ble_eq_true rfl) ⟨by decide, by decide⟩ ⟨by decide, by decide⟩ (fun v9 h9 z => ?_) (fun _ _ _ _ _ z => by cases z.1)
      obtain ⟨ev, Y9, M9⟩ := z
      cases ev
      exact x_iret dX14_go_40 rfl rfl (Nat.le_refl _) (Nat.le_refl _) ⟨_, rfl, Y1.tr Y9, Or.inr ⟨n9, rfl, hok, Or.inl ⟨Classical.byContradiction (fun z => c_32 ((enS_l hs9.2).mpr z)), rfl, _, ar1, M9, ⟨(upd_nq (by decide)).trans ((upd_nq (by decide)).trans ((gk1 0 (by decide)).trans rfl)), rfl, rfl, fun k a0 a1 a2 a3 _ => (upd_nq a2).trans ((upd_nq a1).trans ((gk1 k a3).trans (upd_nq a0)))⟩, hS1, fun c b1 b2 b3 b4 b5 b6 => ak1 c b1 b3 b4⟩⟩⟩
  · have c_10 := bi_f c_10
    refine x_aload_n dX14_go_13 rfl ?_
    refine x_iconst (v := 1) dX14_go_14 (by decide) ?_
    have Y8 : yfr h (xup h 205 (.inr (14, mL (upd g 0 0) w nw))) := ((yfr_rf _).up (by decide))
    refine x_callV (As := [.int 1]) (st := []) lv_X14_214 (k_X14_refused (M.g9 (upd g 0 0) w nw)) dX14_go_15 (xup_self _ _ _) rfl rfl (Nat.le_of_ble_eq_true rfl) ⟨by decide, by decide⟩ ⟨by decide, by decide⟩ (fun v9 h9 z => ?_) (fun _ _ _ _ _ z => by cases z.1)
    obtain ⟨ev, Y9, M9⟩ := z
    cases ev
    exact x_iret dX14_go_18 rfl rfl (Nat.le_refl _) (Nat.le_refl _) ⟨_, rfl, Y8.tr Y9, Or.inl ⟨fun z => (by have := hb9.mpr z; first | (rw [this] at c_10; cases c_10; done) | (rw [this] at c_10; exact absurd c_10 (by decide))), rfl, M9⟩⟩
