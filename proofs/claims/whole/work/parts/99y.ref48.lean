/-! the reference: isIdle, comes -/
theorem cmB_end {v : RV} {nt : Nat} {s : Nat → Option Nat} {n x : Nat} {r : Int32} (e : nt ^ v.2.2.2.2 = x) (h : cmB v nt s n x r) : cmB v nt s n (nt ^ v.2.2.2.2) r := by rw [e]; exact h
theorem rmV.yf {h h' : xHp} {a : Nat} {v : RV} (r : rmV h a v) (y : yfr h h') (ha : 227 ≤ a) : rmV h' a v := r.fr (fun q q1 q2 => y.2 q (Or.inr (by omega)))
theorem pw_1000 {nt sg : Nat} (hn : nt ≤ 10) (hs : sg ≤ 3) : nt ^ sg ≤ 1000 := Nat.le_trans (Nat.pow_le_pow_left hn sg) (Nat.le_trans (Nat.pow_le_pow_right (by omega) hs) (by decide))
set_option maxRecDepth 100000 in
set_option maxHeartbeats 4000000 in
theorem l_X14_idIn {G : xG} {Q : Option Value ⊕ Nat → xHp → Prop} {h : xHp} {g : Nat → Int32} {w : Int64} {nw : Value} {ar : Nat → Nat → Int32} {tw : Nat → Int64} {kw : Nat → Int64} {rf : Nat → Option Nat} (M : MH h g w nw ar tw kw rf) {nt : Nat} {τ : Nat → Nat} {a : Nat} {v : RV} (hgv : gvT (ar 220) nt v.2.2.2.2 τ) (hn : nt ≤ 10) (rv : rmV h a v) (hv : okRl nt v) (hsg : sgR v) {s : Nat → Option Nat} (hs : stO (ar 219) s) {x : Nat} (hcont : ∀ n, n ≤ v.2.2.1 → (∀ m, m < n → hdS v τ s m) → (n = v.2.2.1 ∨ ¬ hdS v τ s n) → Wx G mX14_isIdle (xRm 12 0 0) (xF G Q 0 0) 0 0 54 [(0, .ref 205), (1, .ref a), (2, .int (nI (nt ^ v.2.2.2.2))), (3, .int (nI x)), (4, .int (nI n))] [] h) : ∀ (m n : Nat), n ≤ v.2.2.1 → v.2.2.1 + 1 ≤ n + m → (∀ i, i < n → hdS v τ s i) → Wx G mX14_isIdle (xRm 12 0 0) (xF G Q 0 0) 0 0 27 [(0, .ref 205), (1, .ref a), (2, .int (nI (nt ^ v.2.2.2.2))), (3, .int (nI x)), (4, .int (nI n))] [] h := by
  intro m
  induction m with
  | zero => exact fun n h1 h2 => absurd h2 (by omega)
  | succ m ih =>
    intro n hn1 hn2 hall
    have hz4 := hv.1
    obtain ⟨so, kd, on, tz, lt, rc9, rI⟩ := id rv
    refine x_iload dX14_isIdle_27 rfl ?_
    refine x_aload_n dX14_isIdle_29 rfl ?_
    refine x_get lf_X14_199 dX14_isIdle_30 rc9.1 rfl ?_
    refine x_icmp_ge 54 dX14_isIdle_33 (by decide) (fun c_33 => ?_) (fun c_33 => ?_)
    · rw [nI_leI (by omega) (by omega)] at c_33
      exact hcont n hn1 hall (Or.inl (by omega))
    · rw [nI_leI (by omega) (by omega)] at c_33
      refine x_aload_n dX14_isIdle_36 rfl ?_
      refine x_aload_n dX14_isIdle_37 rfl ?_
      refine x_iload dX14_isIdle_38 rfl ?_
      refine x_iconst (v := 1) dX14_isIdle_40 (by decide) ?_
      refine x_iadd dX14_isIdle_41 ?_
      refine x_top (y := nI (n + 1)) (nI_add n 1) ?_
      have hj9 : n < v.2.2.1 := by omega
      refine x_callV (As := [.ref a, .int (nI (n + 1))]) (st := []) lv_X14_280 (k_X14_holdsT M hgv hn rv hv hs hj9 (fun s h1 h2 => hsg.2 (n + 1) s hj9 h1 h2)) dX14_isIdle_42 M.o rfl rfl (Nat.le_of_ble_eq_true rfl) ⟨by decide, by decide⟩ ⟨by decide, by decide⟩ (fun v9 h9 z => ?_) (fun _ _ _ _ _ z => by obtain ⟨_, z, _⟩ := z; cases z)
      obtain ⟨b9, ev, eh, hb9⟩ := z
      rw [eh]
      cases ev
      refine x_if_eq 54 dX14_isIdle_45 (by decide) (fun c_45 => ?_) (fun c_45 => ?_)
      · have c_45 := bi_f c_45
        exact hcont n hn1 hall (Or.inr (fun z => by rw [hb9.mpr z] at c_45; cases c_45))
      · have c_45 := bi_t c_45
        refine x_iinc (v := nI (n + 1)) [(0, .ref 205), (1, .ref a), (2, .int (nI (nt ^ v.2.2.2.2))), (3, .int (nI x)), (4, .int (nI (n + 1)))] dX14_isIdle_48 rfl (nI_add n 1) (by decide) rfl rfl ?_
        refine x_goto 27 dX14_isIdle_51 (by decide) ?_
        exact ih (n + 1) (by omega) (by omega) (fun i hi => by by_cases q : i = n; (rw [q]; exact hb9.mp c_45); exact hall i (by omega))
set_option maxRecDepth 100000 in
set_option maxHeartbeats 4000000 in
theorem l_X14_idle {G : xG} {h : xHp} {g : Nat → Int32} {w : Int64} {nw : Value} {ar : Nat → Nat → Int32} {tw kw : Nat → Int64} {rf : Nat → Option Nat} {nt : Nat} (hn : nt ≤ 10) {a : Nat} (ha : 227 ≤ a) {v : RV} (hv : okRl nt v) (hsg : sgR v) (hc : cvS v) {s0 : Nat → Option Nat} (rv : rmV h a v) : ∀ (m x : Nat) {h1 : xHp} {g1 : Nat → Int32} {ar1 : Nat → Nat → Int32}, x ≤ nt ^ v.2.2.2.2 → nt ^ v.2.2.2.2 + 1 ≤ x + m → MH h1 g1 w nw ar1 tw kw rf → yfr h h1 → (∀ k, k ≠ 34 → g1 k = g k) → (∀ c, c ≠ 211 → c ≠ 219 → c ≠ 220 → ar1 c = ar c) → g1 4 = nI nt → stO (ar1 219) s0 → (∀ y, y < x → ¬ ∀ j, j < v.2.2.1 → hdS v (wyT nt v.2.2.2.2 y) s0 j) → Wx G mX14_isIdle (xRm 12 0 0) (xF G (fun o h' => ∃ b : Bool, o = .inl (some (.int (bi b))) ∧ yfr h h' ∧ (∃ g' ar', MH h' g' w nw ar' tw kw rf ∧ (∀ k, k ≠ 34 → g' k = g k) ∧ ∀ c, c ≠ 211 → c ≠ 219 → c ≠ 220 → ar' c = ar c) ∧ (b = true ↔ ¬ canH v nt s0)) 0 0) 0 0 13 [(0, .ref 205), (1, .ref a), (2, .int (nI (nt ^ v.2.2.2.2))), (3, .int (nI x))] [] h1 := by
  intro m
  induction m with
  | zero => intro x h1 g1 ar1 a1 a2; exact absurd a2 (by omega)
  | succ m ih =>
    intro x h1 g1 ar1 hx hx2 M1 Y1 gk1 ak1 g14 hs1 hno
    have hpw9 := pw_1000 hn hsg.1
    have hz4 := hv.1
    have rv1 := rv.yf Y1 ha
    obtain ⟨so, kd, on, tz, lt, rc9, rI⟩ := id rv1
    refine x_iload_n dX14_isIdle_13 rfl ?_
    refine x_iload_n dX14_isIdle_14 rfl ?_
    refine x_icmp_ge 71 dX14_isIdle_15 (by decide) (fun c_15 => ?_) (fun c_15 => ?_)
    · rw [nI_leI (by omega) (by omega)] at c_15
      refine x_iconst (v := 1) dX14_isIdle_71 (by decide) ?_
      exact x_iret dX14_isIdle_72 rfl rfl (Nat.le_refl _) (Nat.le_refl _) ⟨true, rfl, Y1, ⟨g1, ar1, M1, gk1, ak1⟩, fun _ z => (by obtain ⟨y, y1, y2⟩ := (can_w hn hv hsg hc).mp z; exact hno y (by omega) y2), fun _ => rfl⟩
    · rw [nI_leI (by omega) (by omega)] at c_15
      refine x_aload_n dX14_isIdle_18 rfl ?_
      refine x_aload_n dX14_isIdle_19 rfl ?_
      refine x_iload_n dX14_isIdle_20 rfl ?_
      refine x_callV (As := [.ref a, .int (nI x)]) (st := []) lv_X14_295 (k_X14_gives M1 hn g14 ha rv1 hsg.1 (by omega)) dX14_isIdle_21 M1.o rfl rfl (Nat.le_of_ble_eq_true rfl) ⟨by decide, by decide⟩ ⟨by decide, by decide⟩ (fun v9 h2 z => ?_) (fun _ _ _ _ _ z => by cases z.1)
      obtain ⟨ev, Z2, ar2, M2, ak2, gv2⟩ := z
      cases ev
      have rv2 := rv1.yf Z2 ha
      have hs2 : stO (ar2 219) s0 := by rw [ak2 219 (by decide)]; exact hs1
      obtain ⟨so8, kd8, on8, tz8, lt8, rc8, rI8⟩ := id rv2
      refine x_iconst (v := 0) dX14_isIdle_24 (by decide) ?_
      refine x_istore [(0, .ref 205), (1, .ref a), (2, .int (nI (nt ^ v.2.2.2.2))), (3, .int (nI x)), (4, .int 0)] dX14_isIdle_25 (by decide) rfl rfl ?_
      refine l_X14_idIn M2 gv2 hn rv2 hv hsg hs2 (fun n hn1 hall hend => ?_) (v.2.2.1 + 1) 0 (Nat.zero_le _) (by omega) (fun i hi => absurd hi (Nat.not_lt_zero _))
      refine x_iload dX14_isIdle_54 rfl ?_
      refine x_aload_n dX14_isIdle_56 rfl ?_
      refine x_get lf_X14_199 dX14_isIdle_57 rc8.1 rfl ?_
      refine x_icmp_ne 65 dX14_isIdle_60 (by decide) (fun c_60 => ?_) (fun c_60 => ?_)
      · rw [nI_eq (by omega) (by omega)] at c_60
        refine x_iinc (v := nI (x + 1)) [(0, .ref 205), (1, .ref a), (2, .int (nI (nt ^ v.2.2.2.2))), (3, .int (nI (x + 1))), (4, .int (nI n))] dX14_isIdle_65 rfl (nI_add x 1) (by decide) rfl rfl ?_
        refine x_goto 13 dX14_isIdle_68 (by decide) ?_
        exact x_ls _ [0, 1, 2, 3] rfl (ih (x + 1) (by omega) (by omega) M2 (Y1.tr Z2) gk1 (fun c a1 a2 a3 => (ak2 c a3).trans (ak1 c a1 a2 a3)) g14 hs2 (fun y hy hh => by by_cases q : y = x; (rw [q] at hh; rcases hend with z | z; omega; exact z (hh n (by omega))); exact hno y (by omega) hh))
      · rw [nI_eq (by omega) (by omega)] at c_60
        refine x_iconst (v := 0) dX14_isIdle_63 (by decide) ?_
        exact x_iret dX14_isIdle_64 rfl rfl (Nat.le_refl _) (Nat.le_refl _) ⟨false, rfl, Y1.tr Z2, ⟨g1, ar2, M2, gk1, fun c a1 a2 a3 => (ak2 c a3).trans (ak1 c a1 a2 a3)⟩, fun z => (by cases z), fun z => absurd ((can_w hn hv hsg hc).mpr ⟨x, by omega, fun j hj => hall j (by omega)⟩) z⟩
set_option maxRecDepth 100000 in
set_option maxHeartbeats 4000000 in
theorem k_X14_isIdle {G : xG} {h : xHp} {g : Nat → Int32} {w : Int64} {nw : Value} {ar : Nat → Nat → Int32} {tw : Nat → Int64} {kw : Nat → Int64} {rf : Nat → Option Nat} (M : MH h g w nw ar tw kw rf) {S : Nat → Bool} {V : Nat → RV} {rc nt : Nat} {s0 : Nat → Option Nat} (hs : IsSt S V rc (uR (-1)) nt s0) (hV : ∀ r, r < rc → okRl nt (V r)) (hn : nt ≤ 10) (hrc : rc ≤ 20) (h6 : g 6 = nI rc) (hT : rmT h rf rc V) (hcv : ∀ r, r < rc → covR (V r)) (hpw : pwA V rc nt s0) (hK : ∀ r, r < rc → okK (V r)) (hsat : ∃ S9, Sat V rc S9) (h12 : ∀ j, j < 1000 → ar 212 j = bi (S j)) (h4 : g 4 = nI nt) {a : Nat} (ha : 227 ≤ a) {v : RV} (rv : rmV h a v) (hv : okRl nt v) (hsg : sgR v) (hc : cvS v) : MX G mX14_isIdle 12 0 0 [.ref 205, .ref a] h (fun o h' => ∃ b : Bool, o = .inl (some (.int (bi b))) ∧ yfr h h' ∧ (∃ g' ar', MH h' g' w nw ar' tw kw rf ∧ (∀ k, k ≠ 34 → g' k = g k) ∧ ∀ c, c ≠ 211 → c ≠ 219 → c ≠ 220 → ar' c = ar c) ∧ (b = true ↔ ¬ canH v nt s0)) := by
  refine MX.of [(0, .ref 205), (1, .ref a)] (by decide) rfl (Nat.le_of_ble_eq_true rfl) rfl ?_
  refine x_aload_n dX14_isIdle_0 rfl ?_
  refine x_iconst (v := (-1)) dX14_isIdle_1 (by decide) ?_
  have Y1 : yfr h h := (yfr_rf _)
  refine x_callV (As := [.int (-1)]) (st := []) lv_X14_284 (k_X14_works M hs hV hn hrc h6 (hT.y Y1) hcv hpw hK hsat h12) dX14_isIdle_2 M.o rfl rfl (Nat.le_of_ble_eq_true rfl) ⟨by decide, by decide⟩ ⟨by decide, by decide⟩ (fun v9 h1 z => ?_) (fun _ _ _ _ _ z => by cases z.1)
  obtain ⟨ev, g1, ar1, M1, Z1, gk1, ak1, hst1⟩ := z
  cases ev
  have Y1 := Y1.tr Z1
  refine x_aload_n dX14_isIdle_5 rfl ?_
  refine x_aload_n dX14_isIdle_6 rfl ?_
  refine x_callV (As := [.ref a]) (st := []) lv_X14_291 (k_X14_ways M1 hn ((gk1 4 (by decide)).trans h4) ha (rv.yf Y1 ha) hsg.1) dX14_isIdle_7 M1.o rfl rfl (Nat.le_of_ble_eq_true rfl) ⟨by decide, by decide⟩ ⟨by decide, by decide⟩ (fun v9 h9 z => ?_) (fun _ _ _ _ _ z => by cases z.1)
  obtain ⟨ev, eh⟩ := z
  rw [eh]
  cases ev
  refine x_istore_n [(0, .ref 205), (1, .ref a), (2, .int (nI (nt ^ v.2.2.2.2)))] dX14_isIdle_10 (by decide) rfl rfl ?_
  refine x_iconst (v := 0) dX14_isIdle_11 (by decide) ?_
  refine x_istore_n [(0, .ref 205), (1, .ref a), (2, .int (nI (nt ^ v.2.2.2.2))), (3, .int 0)] dX14_isIdle_12 (by decide) rfl rfl ?_
  exact l_X14_idle hn ha hv hsg hc rv (nt ^ v.2.2.2.2 + 1) 0 (Nat.zero_le _) (by omega) M1 Y1 gk1 ak1 ((gk1 4 (by decide)).trans h4) hst1 (fun y hy => absurd hy (Nat.not_lt_zero _))
set_option maxRecDepth 100000 in
set_option maxHeartbeats 4000000 in
theorem l_X14_cmIn {G : xG} {Q : Option Value ⊕ Nat → xHp → Prop} {h : xHp} {g : Nat → Int32} {w : Int64} {nw : Value} {ar : Nat → Nat → Int32} {tw : Nat → Int64} {kw : Nat → Int64} {rf : Nat → Option Nat} (M : MH h g w nw ar tw kw rf) {nt : Nat} {τ : Nat → Nat} {a : Nat} {v : RV} (hgv : gvT (ar 220) nt v.2.2.2.2 τ) (hn : nt ≤ 10) (rv : rmV h a v) (hv : okRl nt v) (hsg : sgR v) {s : Nat → Option Nat} (hs : stO (ar 219) s) {x n9 : Nat} {x1 r4 x6 : Int32} (hcont : ∀ n, n ≤ v.2.2.1 → (∀ m, m < n → hdS v τ s m) → (n = v.2.2.1 ∨ ¬ hdS v τ s n) → Wx G mX14_comes (xRm 12 0 0) (xF G Q 0 0) 0 0 195 [(0, .ref 205), (1, .int x1), (2, .int (nI n9)), (3, .ref a), (4, .int r4), (5, .int (nI (nt ^ v.2.2.2.2))), (6, .int x6), (7, .int (nI x)), (8, .int (nI n))] [] h) : ∀ (m n : Nat), n ≤ v.2.2.1 → v.2.2.1 + 1 ≤ n + m → (∀ i, i < n → hdS v τ s i) → Wx G mX14_comes (xRm 12 0 0) (xF G Q 0 0) 0 0 168 [(0, .ref 205), (1, .int x1), (2, .int (nI n9)), (3, .ref a), (4, .int r4), (5, .int (nI (nt ^ v.2.2.2.2))), (6, .int x6), (7, .int (nI x)), (8, .int (nI n))] [] h := by
  intro m
  induction m with
  | zero => exact fun n h1 h2 => absurd h2 (by omega)
  | succ m ih =>
    intro n hn1 hn2 hall
    have hz4 := hv.1
    obtain ⟨so, kd, on, tz, lt, rc9, rI⟩ := id rv
    refine x_iload dX14_comes_168 rfl ?_
    refine x_aload_n dX14_comes_170 rfl ?_
    refine x_get lf_X14_199 dX14_comes_171 rc9.1 rfl ?_
    refine x_icmp_ge 195 dX14_comes_174 (by decide) (fun c_174 => ?_) (fun c_174 => ?_)
    · rw [nI_leI (by omega) (by omega)] at c_174
      exact hcont n hn1 hall (Or.inl (by omega))
    · rw [nI_leI (by omega) (by omega)] at c_174
      refine x_aload_n dX14_comes_177 rfl ?_
      refine x_aload_n dX14_comes_178 rfl ?_
      refine x_iload dX14_comes_179 rfl ?_
      refine x_iconst (v := 1) dX14_comes_181 (by decide) ?_
      refine x_iadd dX14_comes_182 ?_
      refine x_top (y := nI (n + 1)) (nI_add n 1) ?_
      have hj9 : n < v.2.2.1 := by omega
      refine x_callV (As := [.ref a, .int (nI (n + 1))]) (st := []) lv_X14_280 (k_X14_holdsT M hgv hn rv hv hs hj9 (fun s h1 h2 => hsg.2 (n + 1) s hj9 h1 h2)) dX14_comes_183 M.o rfl rfl (Nat.le_of_ble_eq_true rfl) ⟨by decide, by decide⟩ ⟨by decide, by decide⟩ (fun v9 h9 z => ?_) (fun _ _ _ _ _ z => by obtain ⟨_, z, _⟩ := z; cases z)
      obtain ⟨b9, ev, eh, hb9⟩ := z
      rw [eh]
      cases ev
      refine x_if_eq 195 dX14_comes_186 (by decide) (fun c_186 => ?_) (fun c_186 => ?_)
      · have c_186 := bi_f c_186
        exact hcont n hn1 hall (Or.inr (fun z => by rw [hb9.mpr z] at c_186; cases c_186))
      · have c_186 := bi_t c_186
        refine x_iinc (v := nI (n + 1)) [(0, .ref 205), (1, .int x1), (2, .int (nI n9)), (3, .ref a), (4, .int r4), (5, .int (nI (nt ^ v.2.2.2.2))), (6, .int x6), (7, .int (nI x)), (8, .int (nI (n + 1)))] dX14_comes_189 rfl (nI_add n 1) (by decide) rfl rfl ?_
        refine x_goto 168 dX14_comes_192 (by decide) ?_
        exact ih (n + 1) (by omega) (by omega) (fun i hi => by by_cases q : i = n; (rw [q]; exact hb9.mp c_186); exact hall i (by omega))
set_option maxRecDepth 100000 in
set_option maxHeartbeats 4000000 in
theorem l_X14_bare {G : xG} {Q : Option Value ⊕ Nat → xHp → Prop} {h : xHp} {g : Nat → Int32} {w : Int64} {nw : Value} {ar : Nat → Nat → Int32} {tw : Nat → Int64} {kw : Nat → Int64} {rf : Nat → Option Nat} (M : MH h g w nw ar tw kw rf) {nt : Nat} {a : Nat} {v : RV} (hn : nt ≤ 10) (rv : rmV h a v) (hv : okRl nt v) {s : Nat → Option Nat} (hs : stO (ar 219) s) {n9 : Nat} {x1 : Int32} (hcont : ∀ b, b ≤ v.2.2.1 → baS v s b → (b = v.2.2.1 ∨ ¬ v.2.1 b 2 < 100 ∨ ¬ v.2.1 b 3 < 100 ∨ ¬ hdS v (fun _ => 0) s b) → Wx G mX14_comes (xRm 12 0 0) (xF G Q 0 0) 0 0 126 [(0, .ref 205), (1, .int x1), (2, .int (nI n9)), (3, .ref a), (4, .int (-2)), (5, .int (nI (nt ^ v.2.2.2.2))), (6, .int (nI b))] [] h) : ∀ (m b : Nat), b ≤ v.2.2.1 → v.2.2.1 + 1 ≤ b + m → baS v s b → Wx G mX14_comes (xRm 12 0 0) (xF G Q 0 0) 0 0 71 [(0, .ref 205), (1, .int x1), (2, .int (nI n9)), (3, .ref a), (4, .int (-2)), (5, .int (nI (nt ^ v.2.2.2.2))), (6, .int (nI b))] [] h := by
  intro m
  induction m with
  | zero => exact fun b h1 h2 => absurd h2 (by omega)
  | succ m ih =>
    intro b hb1 hb2 hbs
    have hz4 := hv.1
    obtain ⟨so, kd, on, tz, lt, rc9, rI⟩ := id rv
    refine x_iload dX14_comes_71 rfl ?_
    refine x_aload_n dX14_comes_73 rfl ?_
    refine x_get lf_X14_199 dX14_comes_74 rc9.1 rfl ?_
    refine x_icmp_ge 126 dX14_comes_77 (by decide) (fun c_77 => ?_) (fun c_77 => ?_)
    · rw [nI_leI (by omega) (by omega)] at c_77
      exact hcont b hb1 hbs (by first | exact Or.inl (by omega) | exact Or.inr (Or.inl (Int32.not_lt.mpr c_91)) | exact Or.inr (Or.inr (Or.inl (Int32.not_lt.mpr c_105))) | exact Or.inr (Or.inr (Or.inr (fun z => by rw [hb9.mpr z] at c_117; cases c_117))))
    · rw [nI_leI (by omega) (by omega)] at c_77
      have hj9 : b < v.2.2.1 := by omega
      have r9 := rmI_t rI hj9
      refine x_aload_n dX14_comes_80 rfl ?_
      refine x_get lf_X14_173 dX14_comes_81 rc9.1 rfl ?_
      refine x_iload dX14_comes_84 rfl ?_
      refine x_iconst (v := 1) dX14_comes_86 (by decide) ?_
      refine x_iadd dX14_comes_87 ?_
      refine x_top (y := nI (b + 1)) (nI_add b 1) ?_
      refine x_ialdN (j := b + 1) rc9.2.2.2.1 rfl (by omega) (by decide) dX14_comes_88 ?_
      refine x_top r9.2.2.1 ?_
      refine x_bipush (v := 100) dX14_comes_89 (by decide) ?_
      refine x_icmp_ge 126 dX14_comes_91 (by decide) (fun c_91 => ?_) (fun c_91 => ?_)
      · exact hcont b hb1 hbs (by first | exact Or.inl (by omega) | exact Or.inr (Or.inl (Int32.not_lt.mpr c_91)) | exact Or.inr (Or.inr (Or.inl (Int32.not_lt.mpr c_105))) | exact Or.inr (Or.inr (Or.inr (fun z => by rw [hb9.mpr z] at c_117; cases c_117))))
      · refine x_aload_n dX14_comes_94 rfl ?_
        refine x_get lf_X14_176 dX14_comes_95 rc9.1 rfl ?_
        refine x_iload dX14_comes_98 rfl ?_
        refine x_iconst (v := 1) dX14_comes_100 (by decide) ?_
        refine x_iadd dX14_comes_101 ?_
        refine x_top (y := nI (b + 1)) (nI_add b 1) ?_
        refine x_ialdN (j := b + 1) rc9.2.2.2.2.1 rfl (by omega) (by decide) dX14_comes_102 ?_
        refine x_top r9.2.2.2 ?_
        refine x_bipush (v := 100) dX14_comes_103 (by decide) ?_
        refine x_icmp_ge 126 dX14_comes_105 (by decide) (fun c_105 => ?_) (fun c_105 => ?_)
        · exact hcont b hb1 hbs (by first | exact Or.inl (by omega) | exact Or.inr (Or.inl (Int32.not_lt.mpr c_91)) | exact Or.inr (Or.inr (Or.inl (Int32.not_lt.mpr c_105))) | exact Or.inr (Or.inr (Or.inr (fun z => by rw [hb9.mpr z] at c_117; cases c_117))))
        · refine x_aload_n dX14_comes_108 rfl ?_
          refine x_aload_n dX14_comes_109 rfl ?_
          refine x_iload dX14_comes_110 rfl ?_
          refine x_iconst (v := 1) dX14_comes_112 (by decide) ?_
          refine x_iadd dX14_comes_113 ?_
          refine x_top (y := nI (b + 1)) (nI_add b 1) ?_
          have q2 : v.2.1 b 2 < 100 := Int32.not_le.mp c_91
          have q3 : v.2.1 b 3 < 100 := Int32.not_le.mp c_105
          refine x_callV (As := [.ref a, .int (nI (b + 1))]) (st := []) lv_X14_280 (k_X14_holdsT M (sg := 0) (τ := fun _ => 0) ⟨Nat.zero_le _, fun s hs => absurd hs (Nat.not_lt_zero _)⟩ hn rv hv hs hj9 (fun s h1 h2 => (sg_no q2 q3 h1 h2).elim)) dX14_comes_114 M.o rfl rfl (Nat.le_of_ble_eq_true rfl) ⟨by decide, by decide⟩ ⟨by decide, by decide⟩ (fun v9 h9 z => ?_) (fun _ _ _ _ _ z => by obtain ⟨_, z, _⟩ := z; cases z)
          obtain ⟨b9, ev, eh, hb9⟩ := z
          rw [eh]
          cases ev
          refine x_if_eq 126 dX14_comes_117 (by decide) (fun c_117 => ?_) (fun c_117 => ?_)
          · have c_117 := bi_f c_117
            exact hcont b hb1 hbs (by first | exact Or.inl (by omega) | exact Or.inr (Or.inl (Int32.not_lt.mpr c_91)) | exact Or.inr (Or.inr (Or.inl (Int32.not_lt.mpr c_105))) | exact Or.inr (Or.inr (Or.inr (fun z => by rw [hb9.mpr z] at c_117; cases c_117))))
          · have c_117 := bi_t c_117
            refine x_iinc (v := nI (b + 1)) [(0, .ref 205), (1, .int x1), (2, .int (nI n9)), (3, .ref a), (4, .int (-2)), (5, .int (nI (nt ^ v.2.2.2.2))), (6, .int (nI (b + 1)))] dX14_comes_120 rfl (nI_add b 1) (by decide) rfl rfl ?_
            refine x_goto 71 dX14_comes_123 (by decide) ?_
            exact ih (b + 1) (by omega) (by omega) (fun i hi => by by_cases q : i = b; (rw [q]; exact ⟨⟨q2, q3⟩, hb9.mp c_117⟩); exact hbs i (by omega))
set_option maxRecDepth 100000 in
set_option maxHeartbeats 4000000 in
theorem l_X14_comes {G : xG} {Q : Option Value ⊕ Nat → xHp → Prop} {h : xHp} {g : Nat → Int32} {w : Int64} {nw : Value} {ar : Nat → Nat → Int32} {tw : Nat → Int64} {kw : Nat → Int64} {rf : Nat → Option Nat} (M : MH h g w nw ar tw kw rf) {nt : Nat} (hn : nt ≤ 10) {a : Nat} (ha : 227 ≤ a) {v : RV} (hv : okRl nt v) (hsg : sgR v) (hc : cvS v) {s0 : Nat → Option Nat} (h4 : g 4 = nI nt) (rv : rmV h a v) {n9 : Nat} (hn9 : n9 < 1000) (hk : rvH v = n9 / 100) (b2 : ¬ v.1 2 < 100 → n9 / 10 % 10 < nt) (b3 : ¬ v.1 3 < 100 → n9 % 10 < nt) {x1 x6 : Int32} (hQ : ∀ r h' ar', yfr h h' → comR v nt s0 n9 r → MH h' (upd (upd g 1 0) 2 (-1)) w nw ar' tw kw rf → (∀ c, c ≠ 220 → ar' c = ar c) → Q (.inl (some (.int r))) h') : ∀ (m x : Nat) {r4 : Int32} (hQ0 : nt ^ v.2.2.2.2 = 0 → comR v nt s0 n9 r4) {h1 : xHp} {ar1 : Nat → Nat → Int32}, x ≤ nt ^ v.2.2.2.2 → nt ^ v.2.2.2.2 + 1 ≤ x + m → MH h1 g w nw ar1 tw kw rf → yfr h h1 → (∀ c, c ≠ 220 → ar1 c = ar c) → stO (ar1 219) s0 → ((0 < nt ^ v.2.2.2.2 → cmB v nt s0 n9 x r4) ∨ (nt ^ v.2.2.2.2 = 0 ∧ x = 0)) → Wx G mX14_comes (xRm 12 0 0) (xF G Q 0 0) 0 0 138 [(0, .ref 205), (1, .int x1), (2, .int (nI n9)), (3, .ref a), (4, .int r4), (5, .int (nI (nt ^ v.2.2.2.2))), (6, .int x6), (7, .int (nI x))] [] h1 := by
  intro m
  induction m with
  | zero => intro x r4 hQ0 h1 ar1 a1 a2; exact absurd a2 (by omega)
  | succ m ih =>
    intro x r4 hQ0 h1 ar1 hx hx2 M1 Y1 ak1 hs1 hB
    have hpw9 := pw_1000 hn hsg.1
    have hz4 := hv.1
    have rv1 := rv.yf Y1 ha
    obtain ⟨so, kd, on, tz, lt, rc9, rI⟩ := id rv1
    refine x_iload dX14_comes_138 rfl ?_
    refine x_iload dX14_comes_140 rfl ?_
    refine x_icmp_ge 210 dX14_comes_142 (by decide) (fun c_142 => ?_) (fun c_142 => ?_)
    · rw [nI_leI (by omega) (by omega)] at c_142
      refine x_aload_n dX14_comes_210 rfl ?_
      refine x_iload dX14_comes_211 rfl ?_
      refine x_callV (As := [.int r4]) (st := []) lv_X14_229 (k_X14_done M1) dX14_comes_213 M1.o rfl rfl (Nat.le_of_ble_eq_true rfl) ⟨by decide, by decide⟩ ⟨by decide, by decide⟩ (fun v9 h9 z => ?_) (fun _ _ _ _ _ z => by cases z.1)
      obtain ⟨ev, Y9, M9⟩ := z
      cases ev
      refine x_iret dX14_comes_216 rfl rfl (Nat.le_refl _) (Nat.le_refl _) (hQ _ _ ar1 (Y1.tr Y9) ?_ M9 ak1)
      rcases hB with q | q
      · by_cases z : 0 < nt ^ v.2.2.2.2
        · exact cmB_com hn hv hsg hk z b2 b3 (cmB_end (by omega) (q z))
        · exact hQ0 (by omega)
      · exact hQ0 q.1
    · rw [nI_leI (by omega) (by omega)] at c_142
      refine x_aload_n dX14_comes_145 rfl ?_
      refine x_aload_n dX14_comes_146 rfl ?_
      refine x_iload dX14_comes_147 rfl ?_
      refine x_callV (As := [.ref a, .int (nI x)]) (st := []) lv_X14_295 (k_X14_gives M1 hn h4 ha rv1 hsg.1 (by omega)) dX14_comes_149 M1.o rfl rfl (Nat.le_of_ble_eq_true rfl) ⟨by decide, by decide⟩ ⟨by decide, by decide⟩ (fun v9 h2 z => ?_) (fun _ _ _ _ _ z => by cases z.1)
      obtain ⟨ev, Z2, ar2, M2, ak2, gv2⟩ := z
      cases ev
      have rv2 := rv1.yf Z2 ha
      have hs2 : stO (ar2 219) s0 := by rw [ak2 219 (by decide)]; exact hs1
      obtain ⟨so8, kd8, on8, tz8, lt8, rc8, rI8⟩ := id rv2
      refine x_aload_n dX14_comes_152 rfl ?_
      refine x_aload_n dX14_comes_153 rfl ?_
      refine x_iconst (v := 0) dX14_comes_154 (by decide) ?_
      have hhn := hd_nm hv hn gv2 (fun s h1 h2 => hsg.2 0 s (Nat.zero_le _) h1 h2)
      refine x_callV (As := [.ref a, .int (nI 0)]) (st := []) lv_X14_273 (k_X14_atomT M2 gv2 hn rv2 hv (i := 0) (Nat.zero_le _) hv.2.2.1.1 hv.2.2.1.2 hv.2.2.2.1 hv.2.2.2.2.1 (fun s h1 h2 => hsg.2 0 s (Nat.zero_le _) h1 h2)) dX14_comes_155 M2.o rfl rfl (Nat.le_of_ble_eq_true rfl) ⟨by decide, by decide⟩ ⟨by decide, by decide⟩ (fun v9 h9 z => ?_) (fun _ _ _ _ _ z => by cases z.1)
      obtain ⟨ev, eh⟩ := z
      rw [eh]
      cases ev
      refine x_top (y := nI (nmT v.1 (wyT nt v.2.2.2.2 x))) rfl ?_
      refine x_iload_n dX14_comes_158 rfl ?_
      refine x_icmp_eq 165 dX14_comes_159 (by decide) (fun c_159 => ?_) (fun c_159 => ?_)
      · rw [nI_eq (by omega) (by omega)] at c_159
        refine x_iconst (v := 0) dX14_comes_165 (by decide) ?_
        refine x_istore [(0, .ref 205), (1, .int x1), (2, .int (nI n9)), (3, .ref a), (4, .int r4), (5, .int (nI (nt ^ v.2.2.2.2))), (6, .int x6), (7, .int (nI x)), (8, .int 0)] dX14_comes_166 (by decide) rfl rfl ?_
        refine l_X14_cmIn M2 gv2 hn rv2 hv hsg hs2 (fun n hn1 hall hend => ?_) (v.2.2.1 + 1) 0 (Nat.zero_le _) (by omega) (fun i hi => absurd hi (Nat.not_lt_zero _))
        refine x_iload dX14_comes_195 rfl ?_
        refine x_iload dX14_comes_197 rfl ?_
        refine x_max ml_X14_205 mx_s in_Math mx_c dX14_comes_199 (Nat.le_of_ble_eq_true rfl) (Nat.le_of_ble_eq_true rfl) ⟨Nat.le_of_ble_eq_true rfl, Nat.le_of_ble_eq_true rfl⟩ ?_
        refine x_istore [(0, .ref 205), (1, .int x1), (2, .int (nI n9)), (3, .ref a), (4, .int (if r4 < nI n then nI n else r4)), (5, .int (nI (nt ^ v.2.2.2.2))), (6, .int x6), (7, .int (nI x)), (8, .int (nI n))] dX14_comes_202 (by decide) rfl rfl ?_
        refine x_iinc (v := nI (x + 1)) [(0, .ref 205), (1, .int x1), (2, .int (nI n9)), (3, .ref a), (4, .int (if r4 < nI n then nI n else r4)), (5, .int (nI (nt ^ v.2.2.2.2))), (6, .int x6), (7, .int (nI (x + 1))), (8, .int (nI n))] dX14_comes_204 rfl (nI_add x 1) (by decide) rfl rfl ?_
        refine x_goto 138 dX14_comes_207 (by decide) ?_
        exact x_ls _ [0, 1, 2, 3, 4, 5, 6, 7] rfl (ih (x + 1) (fun q => absurd q (by omega)) (by omega) (by omega) M2 (Y1.tr Z2) (fun c a1 => (ak2 c a1).trans (ak1 c a1)) hs2 (hB.imp (fun q p => cmB_yes hv.1 (q p) (by first | exact c_159 | exact Classical.not_not.mp c_159) hn1 hall hend) (fun q => by omega)))
      · rw [nI_eq (by omega) (by omega)] at c_159
        refine x_goto 204 dX14_comes_162 (by decide) ?_
        refine x_iinc (v := nI (x + 1)) [(0, .ref 205), (1, .int x1), (2, .int (nI n9)), (3, .ref a), (4, .int r4), (5, .int (nI (nt ^ v.2.2.2.2))), (6, .int x6), (7, .int (nI (x + 1)))] dX14_comes_204 rfl (nI_add x 1) (by decide) rfl rfl ?_
        refine x_goto 138 dX14_comes_207 (by decide) ?_
        exact ih (x + 1) (fun q => absurd q (by omega)) (by omega) (by omega) M2 (Y1.tr Z2) (fun c a1 => (ak2 c a1).trans (ak1 c a1)) hs2 (hB.imp (fun q p => cmB_no (q p) c_159) (fun q => absurd q.1 (by omega)))
set_option maxRecDepth 100000 in
set_option maxHeartbeats 4000000 in
theorem k_X14_comes {G : xG} {h : xHp} {g : Nat → Int32} {w : Int64} {nw : Value} {ar : Nat → Nat → Int32} {tw : Nat → Int64} {kw : Nat → Int64} {rf : Nat → Option Nat} (M : MH h g w nw ar tw kw rf) {S : Nat → Bool} {V : Nat → RV} {rc nt : Nat} {s0 : Nat → Option Nat} (hs : IsSt S V rc (uR (-1)) nt s0) (hV : ∀ r, r < rc → okRl nt (V r)) (hn : nt ≤ 10) (hrc : rc ≤ 20) (h6 : g 6 = nI rc) (hT : rmT h rf rc V) (hcv : ∀ r, r < rc → covR (V r)) (hpw : pwA V rc nt s0) (hK : ∀ r, r < rc → okK (V r)) (hsat : ∃ S9, Sat V rc S9) (h12 : ∀ j, j < 1000 → ar 212 j = bi (S j)) {nk : Nat} {pc : Nat → Nat} (h4 : g 4 = nI nt) (h5 : g 5 = nI nk) (hnk : nk ≤ 10) (hpc : ∀ k, k < nk → ar 210 k = nI (pc k) ∧ pc k < 3) (hsR : ∀ r, r < rc → sgR (V r)) (hcS : ∀ r, r < rc → cvS (V r)) (hplH : ∀ r, r < rc → plH pc (V r).1) {k a9 : Int32} : MX G mX14_comes 12 0 0 [.ref 205, .int k, .int a9] h (fun o h' => ∃ r, o = .inl (some (.int r)) ∧ yfr h h' ∧ (((¬ ∃ ρ n, cmS V rc nk nt pc k a9 ρ n) ∧ r = -1 ∧ MH h' (upd (upd (upd g 0 0) 1 1) 2 (-1)) w nw ar tw kw rf) ∨ (∃ ρ n, cmS V rc nk nt pc k a9 ρ n ∧ comR (V ρ) nt s0 n r ∧ ∃ g' ar', MH h' g' w nw ar' tw kw rf ∧ (g' 0 = 0 ∧ g' 1 = 0 ∧ g' 2 = -1 ∧ ∀ k, k ≠ 0 → k ≠ 1 → k ≠ 2 → k ≠ 34 → g' k = g k) ∧ ∀ c, c ≠ 211 → c ≠ 219 → c ≠ 220 → ar' c = ar c))) := by
  refine MX.of [(0, .ref 205), (1, .int k), (2, .int a9)] (by decide) rfl (Nat.le_of_ble_eq_true rfl) rfl ?_
  refine x_aload_n dX14_comes_0 rfl ?_
  refine x_iconst (v := 0) dX14_comes_1 (by decide) ?_
  refine x_put (mL (upd g 0 0) w nw) lf_X14_84 dX14_comes_2 M.o (Nat.le_of_ble_eq_true rfl) rfl rfl rfl ?_
  refine x_aload_n dX14_comes_5 rfl ?_
  refine x_iload_n dX14_comes_6 rfl ?_
  refine x_callV (As := [.int k]) (st := []) lv_X14_244 (k_X14_isRule (M.g9 (upd g 0 0) w nw) ((upd_nq (by decide)).trans h6)) dX14_comes_7 (xup_self _ _ _) rfl rfl (Nat.le_of_ble_eq_true rfl) ⟨by decide, by decide⟩ ⟨by decide, by decide⟩ (fun v9 h9 z => ?_) (fun _ _ _ _ _ z => by cases z.1)
  obtain ⟨ev, eh⟩ := z
  rw [eh]
  cases ev
  refine x_if_eq 39 dX14_comes_10 (by decide) (fun c_10 => ?_) (fun c_10 => ?_)
  · have c_10 := bi_f c_10
    refine x_aload_n dX14_comes_39 rfl ?_
    refine x_iconst (v := 1) dX14_comes_40 (by decide) ?_
    have Y8 : yfr h (xup h 205 (.inr (14, mL (upd g 0 0) w nw))) := ((yfr_rf _).up (by decide))
    refine x_callV (As := [.int 1]) (st := []) lv_X14_214 (k_X14_refused (M.g9 (upd g 0 0) w nw)) dX14_comes_41 (xup_self _ _ _) rfl rfl (Nat.le_of_ble_eq_true rfl) ⟨by decide, by decide⟩ ⟨by decide, by decide⟩ (fun v9 h9 z => ?_) (fun _ _ _ _ _ z => by cases z.1)
    obtain ⟨ev, Y9, M9⟩ := z
    cases ev
    exact x_iret dX14_comes_44 rfl rfl (Nat.le_refl _) (Nat.le_refl _) ⟨_, rfl, Y8.tr Y9, Or.inl ⟨(by rintro ⟨ρ, n9, q1, q2, _⟩; exact inR_f c_10 (by omega) ρ q1 q2), rfl, M9⟩⟩
  · have c_10 := bi_t c_10
    refine x_aload_n dX14_comes_13 rfl ?_
    refine x_iload_n dX14_comes_14 rfl ?_
    refine x_callV (As := [.int a9]) (st := []) lv_X14_239 (k_X14_isAtom (M.g9 (upd g 0 0) w nw) ((upd_nq (by decide)).trans h4) ((upd_nq (by decide)).trans h5) hpc hnk hn) dX14_comes_15 (xup_self _ _ _) rfl rfl (Nat.le_of_ble_eq_true rfl) ⟨by decide, by decide⟩ ⟨by decide, by decide⟩ (fun v9 h9 z => ?_) (fun _ _ _ _ _ z => by obtain ⟨_, z, _⟩ := z; cases z)
    obtain ⟨b9, ev, eh, hb9⟩ := z
    rw [eh]
    cases ev
    refine x_if_eq 39 dX14_comes_18 (by decide) (fun c_18 => ?_) (fun c_18 => ?_)
    · have c_18 := bi_f c_18
      refine x_aload_n dX14_comes_39 rfl ?_
      refine x_iconst (v := 1) dX14_comes_40 (by decide) ?_
      have Y8 : yfr h (xup h 205 (.inr (14, mL (upd g 0 0) w nw))) := ((yfr_rf _).up (by decide))
      refine x_callV (As := [.int 1]) (st := []) lv_X14_214 (k_X14_refused (M.g9 (upd g 0 0) w nw)) dX14_comes_41 (xup_self _ _ _) rfl rfl (Nat.le_of_ble_eq_true rfl) ⟨by decide, by decide⟩ ⟨by decide, by decide⟩ (fun v9 h9 z => ?_) (fun _ _ _ _ _ z => by cases z.1)
      obtain ⟨ev, Y9, M9⟩ := z
      cases ev
      exact x_iret dX14_comes_44 rfl rfl (Nat.le_refl _) (Nat.le_refl _) ⟨_, rfl, Y8.tr Y9, Or.inl ⟨(by rintro ⟨ρ, n9, _, _, q3, q4, _⟩; rw [hb9.mpr ⟨n9, q3, by have := q4.1; omega, q4⟩] at c_18; cases c_18), rfl, M9⟩⟩
    · have c_18 := bi_t c_18
      obtain ⟨ρ, hρ, ek⟩ := inR_of (show inR k rc = true by assumption) (by omega)
      obtain ⟨n9, ea, hn31, hok⟩ := hb9.mp (by assumption)
      have hn9 : n9 < 1000 := by have := hok.1; omega
      obtain ⟨a, hra, ha, ha2, rv⟩ := hT ρ hρ
      have hv := hV ρ hρ
      have hsg := hsR ρ hρ
      have hc := hcS ρ hρ
      have hpl := hplH ρ hρ
      have hv1 := hv.2.2.1
      generalize ev9 : V ρ = v at rv hv hsg hc hpl hv1
      obtain ⟨so, kd, on, tz, lt, rc9, rI⟩ := id rv
      have z1 : kd 0 = nI (rvH v) := (rI 0 (Nat.zero_le _)).2.1.trans hv1.1
      have hv2 : rvH v < 10 := hv1.2
      refine x_aload_n dX14_comes_21 rfl ?_
      refine x_get lf_X14_42 dX14_comes_22 (xup_self _ _ _) rfl ?_
      refine x_iload_n dX14_comes_25 rfl ?_
      refine x_top (y := nI ρ) ek ?_
      refine x_aaldN (b := a) (j := ρ) ((xup_ne (by omega)).trans M.r) rfl rfl (by omega) (by decide) hra dX14_comes_26 ?_
      refine x_get lf_X14_171 dX14_comes_27 ((xup_ne (by omega)).trans rc9.1) rfl ?_
      refine x_iconst (v := 0) dX14_comes_30 (by decide) ?_
      refine x_ialdN (j := 0) ((xup_ne (by omega)).trans rc9.2.2.1) rfl (by omega) (by decide) dX14_comes_31 ?_
      refine x_top z1 ?_
      refine x_iload_n dX14_comes_32 rfl ?_
      refine x_top (y := nI n9) ea ?_
      refine x_bipush (v := 100) dX14_comes_33 (by decide) ?_
      refine x_idiv dX14_comes_35 (by decide) ?_
      refine x_top (y := nI (n9 / 100)) (pk_div (a := n9) (d := 100) (by omega) (by omega) (by omega)) ?_
      refine x_icmp_eq 45 dX14_comes_36 (by decide) (fun c_36 => ?_) (fun c_36 => ?_)
      · rw [nI_eq (by omega) (by omega)] at c_36
        have hkk : rvH v = n9 / 100 := by first | exact c_36 | exact Classical.not_not.mp c_36
        obtain ⟨pl9, b2, b3⟩ := hd_ok hpl hkk hok
        subst ea
        refine x_aload_n dX14_comes_45 rfl ?_
        refine x_iconst (v := (-1)) dX14_comes_46 (by decide) ?_
        have Y1 : yfr h (xup h 205 (.inr (14, mL (upd g 0 0) w nw))) := ((yfr_rf _).up (by decide))
        refine x_callV (As := [.int (-1)]) (st := []) lv_X14_284 (k_X14_works (M.g9 (upd g 0 0) w nw) hs hV hn hrc ((upd_nq (by decide)).trans h6) (hT.y Y1) hcv hpw hK hsat h12) dX14_comes_47 (xup_self _ _ _) rfl rfl (Nat.le_of_ble_eq_true rfl) ⟨by decide, by decide⟩ ⟨by decide, by decide⟩ (fun v9 h1 z => ?_) (fun _ _ _ _ _ z => by cases z.1)
        obtain ⟨ev, g1, ar1, M1, Z1, gk1, ak1, hst1⟩ := z
        cases ev
        have Y1 := Y1.tr Z1
        have rv1 := rv.yf Y1 ha
        obtain ⟨so8, kd8, on8, tz8, lt8, rc8, rI8⟩ := id rv1
        refine x_aload_n dX14_comes_50 rfl ?_
        refine x_get lf_X14_42 dX14_comes_51 M1.o rfl ?_
        refine x_iload_n dX14_comes_54 rfl ?_
        refine x_top (y := nI ρ) ek ?_
        refine x_aaldN (b := a) (j := ρ) M1.r rfl rfl (by omega) (by decide) hra dX14_comes_55 ?_
        refine x_astore_n [(0, .ref 205), (1, .int k), (2, .int (nI n9)), (3, .ref a)] dX14_comes_56 (by decide) rfl rfl ?_
        refine x_bipush (v := (-2)) dX14_comes_57 (by decide) ?_
        refine x_istore [(0, .ref 205), (1, .int k), (2, .int (nI n9)), (3, .ref a), (4, .int (-2))] dX14_comes_59 (by decide) rfl rfl ?_
        refine x_aload_n dX14_comes_61 rfl ?_
        refine x_aload_n dX14_comes_62 rfl ?_
        refine x_callV (As := [.ref a]) (st := []) lv_X14_291 (k_X14_ways M1 hn ((gk1 4 (by decide)).trans ((upd_nq (by decide)).trans h4)) ha rv1 hsg.1) dX14_comes_63 M1.o rfl rfl (Nat.le_of_ble_eq_true rfl) ⟨by decide, by decide⟩ ⟨by decide, by decide⟩ (fun v9 h9 z => ?_) (fun _ _ _ _ _ z => by cases z.1)
        obtain ⟨ev, eh⟩ := z
        rw [eh]
        cases ev
        refine x_istore [(0, .ref 205), (1, .int k), (2, .int (nI n9)), (3, .ref a), (4, .int (-2)), (5, .int (nI (nt ^ v.2.2.2.2)))] dX14_comes_66 (by decide) rfl rfl ?_
        refine x_iconst (v := 0) dX14_comes_68 (by decide) ?_
        refine x_istore [(0, .ref 205), (1, .int k), (2, .int (nI n9)), (3, .ref a), (4, .int (-2)), (5, .int (nI (nt ^ v.2.2.2.2))), (6, .int 0)] dX14_comes_69 (by decide) rfl rfl ?_
        refine l_X14_bare M1 hn rv1 hv hst1 (fun b hb1 hbs hend => ?_) (v.2.2.1 + 1) 0 (Nat.zero_le _) (by omega) (fun i hi => absurd hi (Nat.not_lt_zero _))
        have hpw9 := pw_1000 hn hsg.1
        refine x_iload dX14_comes_126 rfl ?_
        refine x_if_ne 135 dX14_comes_128 (by decide) (fun c_128 => ?_) (fun c_128 => ?_)
        · rw [show (0 : Int32) = nI 0 from rfl, nI_eq (by omega) (by omega)] at c_128
          refine x_iconst (v := 0) dX14_comes_135 (by decide) ?_
          refine x_istore [(0, .ref 205), (1, .int k), (2, .int (nI n9)), (3, .ref a), (4, .int (-2)), (5, .int (nI (nt ^ v.2.2.2.2))), (6, .int (nI b)), (7, .int 0)] dX14_comes_136 (by decide) rfl rfl ?_
          exact l_X14_comes M1 hn ha hv hsg hc ((gk1 4 (by decide)).trans ((upd_nq (by decide)).trans h4)) rv1 hn9 hkk b2 b3 (fun r h9 ar9 y cr M9 ak9 => ⟨r, rfl, Y1.tr y, Or.inr ⟨ρ, n9, ⟨hρ, ek, rfl, hok, by rw [ev9]; exact hkk⟩, by rw [ev9]; exact cr, _, ar9, M9, ⟨(upd_nq (by decide)).trans ((upd_nq (by decide)).trans ((gk1 0 (by decide)).trans rfl)), rfl, rfl, fun k a0 a1 a2 a3 => (upd_nq a2).trans ((upd_nq a1).trans ((gk1 k a3).trans (upd_nq a0)))⟩, fun c a1 a2 a3 => (ak9 c a3).trans (ak1 c a1 a2 a3)⟩⟩) (nt ^ v.2.2.2.2 + 1) 0 (fun q => absurd q c_128) (Nat.zero_le _) (by omega) M1 (yfr_rf _) (fun _ _ => rfl) hst1 (Or.inl (fun _ => cmB_0))
        · rw [show (0 : Int32) = nI 0 from rfl, nI_eq (by omega) (by omega)] at c_128
          refine x_iload dX14_comes_131 rfl ?_
          refine x_istore [(0, .ref 205), (1, .int k), (2, .int (nI n9)), (3, .ref a), (4, .int (nI b)), (5, .int (nI (nt ^ v.2.2.2.2))), (6, .int (nI b))] dX14_comes_133 (by decide) rfl rfl ?_
          refine x_iconst (v := 0) dX14_comes_135 (by decide) ?_
          refine x_istore [(0, .ref 205), (1, .int k), (2, .int (nI n9)), (3, .ref a), (4, .int (nI b)), (5, .int (nI (nt ^ v.2.2.2.2))), (6, .int (nI b)), (7, .int 0)] dX14_comes_136 (by decide) rfl rfl ?_
          exact l_X14_comes M1 hn ha hv hsg hc ((gk1 4 (by decide)).trans ((upd_nq (by decide)).trans h4)) rv1 hn9 hkk b2 b3 (fun r h9 ar9 y cr M9 ak9 => ⟨r, rfl, Y1.tr y, Or.inr ⟨ρ, n9, ⟨hρ, ek, rfl, hok, by rw [ev9]; exact hkk⟩, by rw [ev9]; exact cr, _, ar9, M9, ⟨(upd_nq (by decide)).trans ((upd_nq (by decide)).trans ((gk1 0 (by decide)).trans rfl)), rfl, rfl, fun k a0 a1 a2 a3 => (upd_nq a2).trans ((upd_nq a1).trans ((gk1 k a3).trans (upd_nq a0)))⟩, fun c a1 a2 a3 => (ak9 c a3).trans (ak1 c a1 a2 a3)⟩⟩) (nt ^ v.2.2.2.2 + 1) 0 (fun q => bare_com hn hv q pl9 b2 b3 hb1 hbs hend) (Nat.zero_le _) (by omega) M1 (yfr_rf _) (fun _ _ => rfl) hst1 (Or.inr ⟨by omega, rfl⟩)
      · rw [nI_eq (by omega) (by omega)] at c_36
        refine x_aload_n dX14_comes_39 rfl ?_
        refine x_iconst (v := 1) dX14_comes_40 (by decide) ?_
        have Y8 : yfr h (xup h 205 (.inr (14, mL (upd g 0 0) w nw))) := ((yfr_rf _).up (by decide))
        refine x_callV (As := [.int 1]) (st := []) lv_X14_214 (k_X14_refused (M.g9 (upd g 0 0) w nw)) dX14_comes_41 (xup_self _ _ _) rfl rfl (Nat.le_of_ble_eq_true rfl) ⟨by decide, by decide⟩ ⟨by decide, by decide⟩ (fun v9 h9 z => ?_) (fun _ _ _ _ _ z => by cases z.1)
        obtain ⟨ev, Y9, M9⟩ := z
        cases ev
        exact x_iret dX14_comes_44 rfl rfl (Nat.le_refl _) (Nat.le_refl _) ⟨_, rfl, Y8.tr Y9, Or.inl ⟨(by rintro ⟨ρ8, n8, q1, q2, q3, q4, q5⟩; have e1 : ρ = ρ8 := (nI_eq (by omega) (by omega)).mp (ek.symm.trans q2); have e2 : n9 = n8 := (nI_eq (by omega) (by have := q4.1; omega)).mp (ea.symm.trans q3); subst e1; subst e2; rw [ev9] at q5; exact c_36 q5), rfl, M9⟩⟩
