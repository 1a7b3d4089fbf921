/-! the reference: leads -/
theorem mxT_s {v : RV} {τ : Nat → Nat} {s : Nat → Option Nat} {j : Nat} : mxT v τ s (j + 1) = max (mxT v τ s j) (if v.2.1 j 0 = 0 then (s (nmT (v.2.1 j) τ)).getD 0 else 0) := rfl
theorem mxT_n {v : RV} {τ : Nat → Nat} {s : Nat → Option Nat} {j : Nat} (h : ¬ v.2.1 j 0 = 0) : mxT v τ s (j + 1) = mxT v τ s j := by rw [mxT_s, if_neg h]; omega
theorem mxT_y {v : RV} {τ : Nat → Nat} {s : Nat → Option Nat} {j e : Nat} (h : v.2.1 j 0 = 0) (he : s (nmT (v.2.1 j) τ) = some e) : mxT v τ s (j + 1) = max (mxT v τ s j) e := by rw [mxT_s, if_pos h, he]; rfl
theorem max_nI {a b : Nat} (ha : a < 2 ^ 31) (hb : b < 2 ^ 31) : (if nI a < nI b then nI b else nI a) = nI (max a b) := by
  by_cases z : a < b
  · rw [if_pos ((nI_ltI ha hb).mpr z)]; congr 1; omega
  · rw [if_neg (fun y => z ((nI_ltI ha hb).mp y))]; congr 1; omega
/-- the SIGNS of a RULE -/
def sgR (v : RV) : Prop := v.2.2.2.2 ≤ 3 ∧ ∀ i s, i ≤ v.2.2.1 → s < 3 → sgIn (tmI v i) s → s < v.2.2.2.2
theorem tm_nm {nt sg : Nat} {v : RV} {τ : Nat → Nat} {f : Nat → Int32} (hv : okRl nt v) (hn : nt ≤ 10) (hg : gvT f nt sg τ) {j : Nat} (hj : j < v.2.2.1) (h2 : ¬ v.2.1 j 0 = 2) (hb : ∀ s, s < 3 → sgIn (v.2.1 j) s → s < sg) : nmT (v.2.1 j) τ < 1000 := by
  have hok := hv.2.1 j hj
  have h9 := nmT_k (t := v.2.1 j) (τ := τ) hok.2.2.1 hok.2.2.2 hn (fun k hk q => by have := (hg.2 k (hb k hk q)).2; omega)
  have := (hok.2.1 h2).2
  omega
theorem hd_nm {nt sg : Nat} {v : RV} {τ : Nat → Nat} {f : Nat → Int32} (hv : okRl nt v) (hn : nt ≤ 10) (hg : gvT f nt sg τ) (hb : ∀ s, s < 3 → sgIn v.1 s → s < sg) : nmT v.1 τ < 1000 := by
  have h9 := nmT_k (t := v.1) (τ := τ) hv.2.2.2.1 hv.2.2.2.2.1 hn (fun k hk q => by have := (hg.2 k (hb k hk q)).2; omega)
  have := hv.2.2.1.2
  omega
set_option maxRecDepth 100000 in
set_option maxHeartbeats 4000000 in
theorem l_X14_leads {G : xG} {h : xHp} {g : Nat → Int32} {w : Int64} {nw : Value} {ar : Nat → Nat → Int32} {tw : Nat → Int64} {kw : Nat → Int64} {rf : Nat → Option Nat} (M : MH h g w nw ar tw kw rf) {nt : Nat} {τ : Nat → Nat} {a : Nat} {v : RV} (hgv : gvT (ar 220) nt v.2.2.2.2 τ) (hn : nt ≤ 10) (rv : rmV h a v) (hv : okRl nt v) (hsg : sgR v) {s : Nat → Option Nat} (hs : stO (ar 219) s) {n d : Nat} (hn9 : n < 1000) (hd9 : d < 2000000) (hhd : nmT v.1 τ = n) : ∀ (m j : Nat), j ≤ v.2.2.1 → v.2.2.1 + 1 ≤ j + m → (∀ i, i < j → tmHold (v.2.1 i) τ (fun n => (s n).isSome)) → mxT v τ s j < 1000000 → Wx G mX14_leads (xRm 4 0 0) (xF G (xAsk (nmT v.1 τ = n ∧ (∀ j, j < v.2.2.1 → tmHold (v.2.1 j) τ (fun n => (s n).isSome)) ∧ mxT v τ s v.2.2.1 + 1 = d) h) 0 0) 0 0 18 [(0, .ref 205), (1, .ref a), (2, .int (nI n)), (3, .int (nI d)), (4, .int (nI (mxT v τ s j))), (5, .int (nI (j + 1)))] [] h := by
  intro m
  induction m with
  | zero => exact fun j h1 h2 => absurd h2 (by omega)
  | succ m ih =>
    intro j hj1 hj2 hall hm9
    have hz4 := hv.1
    obtain ⟨so, kd, on, tz, lt, rc9, rI⟩ := id rv
    refine x_iload dX14_leads_18 rfl ?_
    refine x_aload_n dX14_leads_20 rfl ?_
    refine x_get lf_X14_199 dX14_leads_21 rc9.1 rfl ?_
    refine x_icmp_gt 74 dX14_leads_24 (by decide) (fun c_24 => ?_) (fun c_24 => ?_)
    · rw [nI_ltI (by omega) (by omega)] at c_24
      refine x_iload dX14_leads_74 rfl ?_
      refine x_iconst (v := 1) dX14_leads_76 (by decide) ?_
      refine x_iadd dX14_leads_77 ?_
      refine x_top (y := nI ((mxT v τ s j) + 1)) (nI_add (mxT v τ s j) 1) ?_
      refine x_iload_n dX14_leads_78 rfl ?_
      refine x_icmp_ne 86 dX14_leads_79 (by decide) (fun c_79 => ?_) (fun c_79 => ?_)
      · rw [nI_eq (by omega) (by omega)] at c_79
        refine x_iconst (v := 0) dX14_leads_86 (by decide) ?_
        have ej : j = v.2.2.1 := by omega
        rw [ej] at c_79 hall
        exact x_iret dX14_leads_87 rfl rfl (Nat.le_refl _) (Nat.le_refl _) ⟨false, rfl, rfl, fun z => (by cases z), fun z => absurd z.2.2 (by omega)⟩
      · rw [nI_eq (by omega) (by omega)] at c_79
        refine x_iconst (v := 1) dX14_leads_82 (by decide) ?_
        refine x_goto 87 dX14_leads_83 (by decide) ?_
        have ej : j = v.2.2.1 := by omega
        rw [ej] at c_79 hall
        exact x_iret dX14_leads_87 rfl rfl (Nat.le_refl _) (Nat.le_refl _) ⟨true, rfl, rfl, fun _ => ⟨hhd, hall, by omega⟩, fun _ => rfl⟩
    · rw [nI_ltI (by omega) (by omega)] at c_24
      have hj9 : j < v.2.2.1 := by omega
      have ht := hv.2.1 j hj9
      have r9 := rmI_t rI hj9
      refine x_aload_n dX14_leads_27 rfl ?_
      refine x_aload_n dX14_leads_28 rfl ?_
      refine x_iload dX14_leads_29 rfl ?_
      refine x_callV (As := [.ref a, .int (nI (j + 1))]) (st := []) lv_X14_280 (k_X14_holdsT M hgv hn rv hv hs hj9 (fun s h1 h2 => hsg.2 (j + 1) s hj9 h1 h2)) dX14_leads_31 M.o rfl rfl (Nat.le_of_ble_eq_true rfl) ⟨by decide, by decide⟩ ⟨by decide, by decide⟩ (fun v9 h9 z => ?_) (fun _ _ _ _ _ z => by obtain ⟨_, z, _⟩ := z; cases z)
      obtain ⟨b9, ev, eh, hb9⟩ := z
      rw [eh]
      cases ev
      refine x_if_ne 39 dX14_leads_34 (by decide) (fun c_34 => ?_) (fun c_34 => ?_)
      · have c_34 := bi_t c_34
        refine x_aload_n dX14_leads_39 rfl ?_
        refine x_get lf_X14_169 dX14_leads_40 rc9.1 rfl ?_
        refine x_iload dX14_leads_43 rfl ?_
        refine x_ialdN (j := j + 1) rc9.2.1 rfl (by omega) (by decide) dX14_leads_45 ?_
        refine x_top (y := v.2.1 j 0) r9.1 ?_
        refine x_if_ne 68 dX14_leads_46 (by decide) (fun c_46 => ?_) (fun c_46 => ?_)
        · refine x_iinc (v := nI ((j + 1) + 1)) [(0, .ref 205), (1, .ref a), (2, .int (nI n)), (3, .int (nI d)), (4, .int (nI (mxT v τ s j))), (5, .int (nI ((j + 1) + 1)))] dX14_leads_68 rfl (nI_add (j + 1) 1) (by decide) rfl rfl ?_
          refine x_goto 18 dX14_leads_71 (by decide) ?_
          have c_46 : ¬ v.2.1 j 0 = 0 := c_46
          have K := ih (j + 1) (by omega) (by omega) (fun i hi => by by_cases q : i = j; (rw [q]; exact hb9.mp c_34); exact hall i (by omega)) (by rw [mxT_n c_46]; exact hm9)
          rw [mxT_n c_46] at K
          exact K
        · obtain ⟨e, he⟩ : ∃ e, s (nmT (v.2.1 j) τ) = some e := Option.isSome_iff_exists.mp ((hold_0 (by first | exact c_46 | exact Classical.not_not.mp c_46)).mp (hb9.mp c_34))
          have c_46 : v.2.1 j 0 = 0 := by first | exact c_46 | exact Classical.not_not.mp c_46
          have hnm := tm_nm hv hn hgv hj9 (by rw [c_46]; decide) (fun s h1 h2 => hsg.2 (j + 1) s hj9 h1 h2)
          have hs9 := hs _ hnm
          have hs8 := hs9.2 e he
          refine x_iload dX14_leads_49 rfl ?_
          refine x_aload_n dX14_leads_51 rfl ?_
          refine x_get lf_X14_63 dX14_leads_52 M.o rfl ?_
          refine x_aload_n dX14_leads_55 rfl ?_
          refine x_aload_n dX14_leads_56 rfl ?_
          refine x_iload dX14_leads_57 rfl ?_
          refine x_callV (As := [.ref a, .int (nI (j + 1))]) (st := [.ref 219, .int (nI (mxT v τ s j))]) lv_X14_273 (k_X14_atomT M hgv hn rv hv (i := j + 1) hj9 (ht.2.1 (by rw [c_46]; decide)).1 (ht.2.1 (by rw [c_46]; decide)).2 ht.2.2.1 ht.2.2.2 (fun s h1 h2 => hsg.2 (j + 1) s hj9 h1 h2)) dX14_leads_59 M.o rfl rfl (Nat.le_of_ble_eq_true rfl) ⟨by decide, by decide⟩ ⟨by decide, by decide⟩ (fun v9 h9 z => ?_) (fun _ _ _ _ _ z => by cases z.1)
          obtain ⟨ev, eh⟩ := z
          rw [eh]
          cases ev
          refine x_top (y := nI (nmT (v.2.1 j) τ)) rfl ?_
          refine x_ialdN (j := nmT (v.2.1 j) τ) (M.a 219 0 1000 rfl) rfl (by omega) (by decide) dX14_leads_62 ?_
          refine x_top (hs9.1.trans (by rw [he])) ?_
          refine x_max ml_X14_205 mx_s in_Math mx_c dX14_leads_63 (Nat.le_of_ble_eq_true rfl) (Nat.le_of_ble_eq_true rfl) ⟨Nat.le_of_ble_eq_true rfl, Nat.le_of_ble_eq_true rfl⟩ ?_
          refine x_istore [(0, .ref 205), (1, .ref a), (2, .int (nI n)), (3, .int (nI d)), (4, .int (if nI (mxT v τ s j) < nI e then nI e else nI (mxT v τ s j))), (5, .int (nI (j + 1)))] dX14_leads_66 (by decide) rfl rfl ?_
          refine x_iinc (v := nI ((j + 1) + 1)) [(0, .ref 205), (1, .ref a), (2, .int (nI n)), (3, .int (nI d)), (4, .int (if nI (mxT v τ s j) < nI e then nI e else nI (mxT v τ s j))), (5, .int (nI ((j + 1) + 1)))] dX14_leads_68 rfl (nI_add (j + 1) 1) (by decide) rfl rfl ?_
          refine x_goto 18 dX14_leads_71 (by decide) ?_
          rw [max_nI (by omega) (by omega), ← mxT_y c_46 he]
          exact ih (j + 1) (by omega) (by omega) (fun i hi => by by_cases q : i = j; (rw [q]; exact hb9.mp c_34); exact hall i (by omega)) (by rw [mxT_y c_46 he]; omega)
      · have c_34 := bi_f c_34
        refine x_iconst (v := 0) dX14_leads_37 (by decide) ?_
        exact x_iret dX14_leads_38 rfl rfl (Nat.le_refl _) (Nat.le_refl _) ⟨false, rfl, rfl, fun z => (by cases z), fun z => by have := hb9.mpr (z.2.1 j hj9); rw [this] at c_34; cases c_34⟩
set_option maxRecDepth 100000 in
set_option maxHeartbeats 4000000 in
theorem k_X14_leads {G : xG} {h : xHp} {g : Nat → Int32} {w : Int64} {nw : Value} {ar : Nat → Nat → Int32} {tw : Nat → Int64} {kw : Nat → Int64} {rf : Nat → Option Nat} (M : MH h g w nw ar tw kw rf) {nt : Nat} {τ : Nat → Nat} {a : Nat} {v : RV} (hgv : gvT (ar 220) nt v.2.2.2.2 τ) (hn : nt ≤ 10) (rv : rmV h a v) (hv : okRl nt v) (hsg : sgR v) {s : Nat → Option Nat} (hs : stO (ar 219) s) {n d : Nat} (hn9 : n < 1000) (hd9 : d < 2000000) : MX G mX14_leads 4 0 0 [.ref 205, .ref a, .int (nI n), .int (nI d)] h (xAsk (nmT v.1 τ = n ∧ (∀ j, j < v.2.2.1 → tmHold (v.2.1 j) τ (fun n => (s n).isSome)) ∧ mxT v τ s v.2.2.1 + 1 = d) h) := by
  refine MX.of [(0, .ref 205), (1, .ref a), (2, .int (nI n)), (3, .int (nI d))] (by decide) rfl (Nat.le_of_ble_eq_true rfl) rfl ?_
  have hhn := hd_nm hv hn hgv (fun s h1 h2 => hsg.2 0 s (Nat.zero_le _) h1 h2)
  refine x_aload_n dX14_leads_0 rfl ?_
  refine x_aload_n dX14_leads_1 rfl ?_
  refine x_iconst (v := 0) dX14_leads_2 (by decide) ?_
  refine x_callV (As := [.ref a, .int (nI 0)]) (st := []) lv_X14_273 (k_X14_atomT M hgv hn rv hv (i := 0) (Nat.zero_le _) hv.2.2.1.1 hv.2.2.1.2 hv.2.2.2.1 hv.2.2.2.2.1 (fun s h1 h2 => hsg.2 0 s (Nat.zero_le _) h1 h2)) dX14_leads_3 M.o rfl rfl (Nat.le_of_ble_eq_true rfl) ⟨by decide, by decide⟩ ⟨by decide, by decide⟩ (fun v9 h9 z => ?_) (fun _ _ _ _ _ z => by cases z.1)
  obtain ⟨ev, eh⟩ := z
  rw [eh]
  cases ev
  refine x_top (y := nI (nmT v.1 τ)) rfl ?_
  refine x_iload_n dX14_leads_6 rfl ?_
  refine x_icmp_eq 12 dX14_leads_7 (by decide) (fun c_7 => ?_) (fun c_7 => ?_)
  · rw [nI_eq (by omega) (by omega)] at c_7
    refine x_iconst (v := 0) dX14_leads_12 (by decide) ?_
    refine x_istore [(0, .ref 205), (1, .ref a), (2, .int (nI n)), (3, .int (nI d)), (4, .int 0)] dX14_leads_13 (by decide) rfl rfl ?_
    refine x_iconst (v := 1) dX14_leads_15 (by decide) ?_
    refine x_istore [(0, .ref 205), (1, .ref a), (2, .int (nI n)), (3, .int (nI d)), (4, .int 0), (5, .int 1)] dX14_leads_16 (by decide) rfl rfl ?_
    exact l_X14_leads M hgv hn rv hv hsg hs hn9 hd9 (by first | exact c_7 | exact Classical.not_not.mp c_7) (v.2.2.1 + 1) 0 (Nat.zero_le _) (by omega) (fun i hi => absurd hi (Nat.not_lt_zero _)) (by show 0 < 1000000; omega)
  · rw [nI_eq (by omega) (by omega)] at c_7
    refine x_iconst (v := 0) dX14_leads_10 (by decide) ?_
    exact x_iret dX14_leads_11 rfl rfl (Nat.le_refl _) (Nat.le_refl _) ⟨false, rfl, rfl, fun z => (by cases z), fun z => absurd z.1 c_7⟩
