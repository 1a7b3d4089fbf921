/-! the reference: count -/
theorem ly_uq {V : Nat → RV} {rc : Nat} {lf lf' : Nat → Int32} {L L' : Nat → Nat} (a : lyOk V rc lf L) (b : lyOk V rc lf' L') : ∀ k, k < 10 → L k = L' k := fun k hk => Nat.le_antisymm (a.2.2.2 L' b.2.2.1 k hk) (b.2.2.2 L a.2.2.1 k hk)
theorem lcnt_cg {L L' : Nat → Nat} : ∀ {n : Nat}, (∀ k, k < n → L k = L' k) → lcnt L n = lcnt L' n
  | 0, _ => rfl
  | n + 1, h => by
    simp only [lcnt]
    rw [lcnt_cg (fun k hk => h k (by omega)), h n (by omega)]
set_option maxRecDepth 100000 in
set_option maxHeartbeats 4000000 in
theorem l_X14_cnt {G : xG} {R : Room} {mc ms : Nat} {Q : Option Value ⊕ Nat → xHp → Prop} {h : xHp} {g : Nat → Int32} {w : Int64} {nw : Value} {ar : Nat → Nat → Int32} {tw : Nat → Int64} {kw : Nat → Int64} {rf : Nat → Option Nat} (M : MH h g w nw ar tw kw rf) {S : Nat → Bool} (h12 : ∀ j, j < 1000 → ar 212 j = bi (S j)) (hQ : Q (.inl (some (.int (nI (fb_ct S 1000))))) h) : ∀ (m n : Nat), n ≤ 1000 → 1001 ≤ n + m → Wx G mX14_count R (xF G Q mc ms) 0 0 65 [(0, .ref 205), (1, .int 3), (2, .int (nI (fb_ct S n))), (3, .int (nI n))] [] h := by
  intro m
  induction m with
  | zero => exact fun n h1 h2 => absurd h2 (by omega)
  | succ m ih =>
    intro n hk hk2
    have hbd := fb_ct_le S n
    refine x_iload_n dX14_count_65 rfl ?_
    refine x_sipush (v := 1000) dX14_count_66 (by decide) ?_
    refine x_icmp_ge 95 dX14_count_69 (by decide) (fun c_69 => ?_) (fun c_69 => ?_)
    · rw [show (1000 : Int32) = nI 1000 from rfl, nI_leI (by omega) (by omega)] at c_69
      refine x_iload_n dX14_count_95 rfl ?_
      rw [show n = 1000 by omega]
      exact x_iret dX14_count_96 rfl rfl (Nat.zero_le _) (Nat.zero_le _) hQ
    · rw [show (1000 : Int32) = nI 1000 from rfl, nI_leI (by omega) (by omega)] at c_69
      refine x_iload_n dX14_count_72 rfl ?_
      refine x_aload_n dX14_count_73 rfl ?_
      refine x_get lf_X14_33 dX14_count_74 M.o rfl ?_
      refine x_iload_n dX14_count_77 rfl ?_
      refine x_zaldN (j := n) (M.a 212 3 1000 rfl) rfl (by omega) (by decide) dX14_count_78 ?_
      refine x_top (h12 n (by omega)) ?_
      refine x_if_eq 86 dX14_count_79 (by decide) (fun c_79 => ?_) (fun c_79 => ?_)
      · have c_79 := bi_f c_79
        refine x_iconst (v := 0) dX14_count_86 (by decide) ?_
        refine x_iadd dX14_count_87 ?_
        refine x_top (y := nI ((fb_ct S n) + 0)) (nI_add (fb_ct S n) 0) ?_
        refine x_istore_n [(0, .ref 205), (1, .int 3), (2, .int (nI ((fb_ct S n) + 0))), (3, .int (nI n))] dX14_count_88 (by decide) rfl rfl ?_
        refine x_iinc (v := nI (n + 1)) [(0, .ref 205), (1, .int 3), (2, .int (nI ((fb_ct S n) + 0))), (3, .int (nI (n + 1)))] dX14_count_89 rfl (nI_add n 1) (by decide) rfl rfl ?_
        refine x_goto 65 dX14_count_92 (by decide) ?_
        have e9 : fb_ct S (n + 1) = fb_ct S n + 0 := by show fb_ct S n + (if S n = true then 1 else 0) = _; congr 1; first | exact if_pos c_79 | exact if_neg (by rw [c_79]; decide)
        have K := ih (n + 1) (by omega) (by omega)
        rw [e9] at K
        exact K
      · have c_79 := bi_t c_79
        refine x_iconst (v := 1) dX14_count_82 (by decide) ?_
        refine x_goto 87 dX14_count_83 (by decide) ?_
        refine x_iadd dX14_count_87 ?_
        refine x_top (y := nI ((fb_ct S n) + 1)) (nI_add (fb_ct S n) 1) ?_
        refine x_istore_n [(0, .ref 205), (1, .int 3), (2, .int (nI ((fb_ct S n) + 1))), (3, .int (nI n))] dX14_count_88 (by decide) rfl rfl ?_
        refine x_iinc (v := nI (n + 1)) [(0, .ref 205), (1, .int 3), (2, .int (nI ((fb_ct S n) + 1))), (3, .int (nI (n + 1)))] dX14_count_89 rfl (nI_add n 1) (by decide) rfl rfl ?_
        refine x_goto 65 dX14_count_92 (by decide) ?_
        have e9 : fb_ct S (n + 1) = fb_ct S n + 1 := by show fb_ct S n + (if S n = true then 1 else 0) = _; congr 1; first | exact if_pos c_79 | exact if_neg (by rw [c_79]; decide)
        have K := ih (n + 1) (by omega) (by omega)
        rw [e9] at K
        exact K
theorem lcnt_le9 {L : Nat → Nat} (h : ∀ k, k < 10 → L k ≤ 9) : ∀ n, n ≤ 10 → lcnt L n ≤ 10
  | 0, _ => by simp only [lcnt]; omega
  | n + 1, hn => by
    have := lcnt_le9 h n (by omega)
    have := h n (by omega)
    simp only [lcnt]
    omega
set_option maxRecDepth 100000 in
set_option maxHeartbeats 4000000 in
theorem l_X14_cnt5 {G : xG} {Q : Option Value ⊕ Nat → xHp → Prop} {h : xHp} {g : Nat → Int32} {w : Int64} {nw : Value} {ar : Nat → Nat → Int32} {tw : Nat → Int64} {kw : Nat → Int64} {rf : Nat → Option Nat} (M : MH h g w nw ar tw kw rf) {nk : Nat} (hnk : nk ≤ 10) (h5 : g 5 = nI nk) {L : Nat → Nat} (hlf : ∀ k, k < 10 → ar 211 k = nI (L k)) (hLb : ∀ k, k < 10 → L k ≤ 9) {x3 : Int32} (hQ : Q (.inl (some (.int (nI (lcnt L nk))))) h) : ∀ (m n : Nat), n ≤ nk → nk + 1 ≤ n + m → Wx G mX14_count (xRm 2 0 0) (xF G Q 0 0) 0 0 114 [(0, .ref 205), (1, .int 5), (2, .int (nI (lcnt L n))), (3, .int x3), (4, .int (nI n))] [] h := by
  intro m
  induction m with
  | zero => exact fun n h1 h2 => absurd h2 (by omega)
  | succ m ih =>
    intro n hk hk2
    refine x_iload dX14_count_114 rfl ?_
    refine x_aload_n dX14_count_116 rfl ?_
    refine x_get lf_X14_90 dX14_count_117 M.o rfl ?_
    refine x_top (y := nI nk) h5 ?_
    refine x_icmp_ge 143 dX14_count_120 (by decide) (fun c_120 => ?_) (fun c_120 => ?_)
    · rw [nI_leI (by omega) (by omega)] at c_120
      refine x_iload_n dX14_count_143 rfl ?_
      rw [show n = nk by omega]
      exact x_iret dX14_count_144 rfl rfl (Nat.zero_le _) (Nat.zero_le _) hQ
    · rw [nI_leI (by omega) (by omega)] at c_120
      have hbd := hLb n (by omega)
      have hbd2 := lcnt_le9 hLb n (by omega)
      refine x_iload_n dX14_count_123 rfl ?_
      refine x_aload_n dX14_count_124 rfl ?_
      refine x_get lf_X14_30 dX14_count_125 M.o rfl ?_
      refine x_iload dX14_count_128 rfl ?_
      refine x_ialdN (j := n) (M.a 211 0 10 rfl) rfl (by omega) (by decide) dX14_count_130 ?_
      refine x_top (hlf n (by omega)) ?_
      refine x_iconst (v := 1) dX14_count_131 (by decide) ?_
      refine x_iadd dX14_count_132 ?_
      refine x_top (y := nI ((L n) + 1)) (nI_add (L n) 1) ?_
      refine x_max ml_X14_205 mx_s in_Math mx_c dX14_count_133 (Nat.le_of_ble_eq_true rfl) (Nat.le_of_ble_eq_true rfl) ⟨Nat.le_of_ble_eq_true rfl, Nat.le_of_ble_eq_true rfl⟩ ?_
      refine x_istore_n [(0, .ref 205), (1, .int 5), (2, .int (if nI (lcnt L n) < nI ((L n) + 1) then nI ((L n) + 1) else nI (lcnt L n))), (3, .int x3), (4, .int (nI n))] dX14_count_136 (by decide) rfl rfl ?_
      refine x_iinc (v := nI (n + 1)) [(0, .ref 205), (1, .int 5), (2, .int (if nI (lcnt L n) < nI ((L n) + 1) then nI ((L n) + 1) else nI (lcnt L n))), (3, .int x3), (4, .int (nI (n + 1)))] dX14_count_137 rfl (nI_add n 1) (by decide) rfl rfl ?_
      refine x_goto 114 dX14_count_140 (by decide) ?_
      have e9 : (if nI (lcnt L n) < nI (L n + 1) then nI (L n + 1) else nI (lcnt L n)) = nI (lcnt L (n + 1)) := by
        simp only [lcnt]
        by_cases z : lcnt L n < L n + 1
        · rw [if_pos ((nI_ltI (by omega) (by omega)).mpr z)]; congr 1; omega
        · rw [if_neg (fun y => z ((nI_ltI (by omega) (by omega)).mp y))]; congr 1; omega
      rw [e9]
      exact ih (n + 1) (by omega) (by omega)
set_option maxRecDepth 100000 in
set_option maxHeartbeats 4000000 in
theorem k_X14_count {G : xG} {h : xHp} {g : Nat → Int32} {w : Int64} {nw : Value} {ar : Nat → Nat → Int32} {tw : Nat → Int64} {kw : Nat → Int64} {rf : Nat → Option Nat} (M : MH h g w nw ar tw kw rf) {V : Nat → RV} {rc nt nk tsz : Nat} {S : Nat → Bool} (hrc : rc ≤ 20) (h6 : g 6 = nI rc) (h4 : g 4 = nI nt) (h5 : g 5 = nI nk) (h18 : g 18 = nI tsz) (hnk : nk ≤ 10) (hT : rmT h rf rc V) (hK : ∀ r, r < rc → okK (V r)) (h12 : ∀ j, j < 1000 → ar 212 j = bi (S j)) {lf0 : Nat → Int32} {L : Nat → Nat} (hL : lyOk V rc lf0 L) {k : Int32} : MX G mX14_count 2 0 0 [.ref 205, .int k] h (fun o h' => ∃ r, o = .inl (some (.int r)) ∧ yfr h h' ∧ (∃ ar', MH h' (upd g 0 0) w nw ar' tw kw rf ∧ ∀ c, c ≠ 211 → ar' c = ar c) ∧ r = cnA nt nk rc (nI (fb_ct S 1000)) tsz (lcnt L nk) k) := by
  refine MX.of [(0, .ref 205), (1, .int k)] (by decide) rfl (Nat.le_of_ble_eq_true rfl) rfl ?_
  refine x_aload_n dX14_count_0 rfl ?_
  refine x_iconst (v := 0) dX14_count_1 (by decide) ?_
  refine x_put (mL (upd g 0 0) w nw) lf_X14_84 dX14_count_2 M.o (Nat.le_of_ble_eq_true rfl) rfl rfl rfl ?_
  refine x_iconst (v := 0) dX14_count_5 (by decide) ?_
  refine x_istore_n [(0, .ref 205), (1, .int k), (2, .int 0)] dX14_count_6 (by decide) rfl rfl ?_
  refine x_iload_n dX14_count_7 rfl ?_
  rcases sw6 k with rfl | rfl | rfl | rfl | rfl | rfl | e9
  · refine x_tswIn (off := 40) 48 dX14_count_8 (by decide) (by decide) (by decide) (by decide) ?_
    refine x_aload_n dX14_count_48 rfl ?_
    refine x_get lf_X14_96 dX14_count_49 (xup_self _ _ _) rfl ?_
    refine x_top (y := nI nt) h4 ?_
    exact x_iret dX14_count_52 rfl rfl (Nat.le_refl _) (Nat.le_refl _) ⟨_, rfl, ((yfr_rf _).up (by decide)), ⟨ar, (M.g9 (upd g 0 0) w nw), fun _ _ => rfl⟩, rfl⟩
  · refine x_tswIn (off := 45) 53 dX14_count_8 (by decide) (by decide) (by decide) (by decide) ?_
    refine x_aload_n dX14_count_53 rfl ?_
    refine x_get lf_X14_90 dX14_count_54 (xup_self _ _ _) rfl ?_
    refine x_top (y := nI nk) h5 ?_
    exact x_iret dX14_count_57 rfl rfl (Nat.le_refl _) (Nat.le_refl _) ⟨_, rfl, ((yfr_rf _).up (by decide)), ⟨ar, (M.g9 (upd g 0 0) w nw), fun _ _ => rfl⟩, rfl⟩
  · refine x_tswIn (off := 50) 58 dX14_count_8 (by decide) (by decide) (by decide) (by decide) ?_
    refine x_aload_n dX14_count_58 rfl ?_
    refine x_get lf_X14_93 dX14_count_59 (xup_self _ _ _) rfl ?_
    refine x_top (y := nI rc) h6 ?_
    exact x_iret dX14_count_62 rfl rfl (Nat.le_refl _) (Nat.le_refl _) ⟨_, rfl, ((yfr_rf _).up (by decide)), ⟨ar, (M.g9 (upd g 0 0) w nw), fun _ _ => rfl⟩, rfl⟩
  · refine x_tswIn (off := 55) 63 dX14_count_8 (by decide) (by decide) (by decide) (by decide) ?_
    refine x_iconst (v := 0) dX14_count_63 (by decide) ?_
    refine x_istore_n [(0, .ref 205), (1, .int 3), (2, .int 0), (3, .int 0)] dX14_count_64 (by decide) rfl rfl ?_
    exact l_X14_cnt (M.g9 (upd g 0 0) w nw) h12 ⟨_, rfl, ((yfr_rf _).up (by decide)), ⟨ar, (M.g9 (upd g 0 0) w nw), fun _ _ => rfl⟩, rfl⟩ 1001 0 (by omega) (by omega)
  · refine x_tswIn (off := 89) 97 dX14_count_8 (by decide) (by decide) (by decide) (by decide) ?_
    refine x_aload_n dX14_count_97 rfl ?_
    refine x_get lf_X14_211 dX14_count_98 (xup_self _ _ _) rfl ?_
    refine x_top (y := nI tsz) h18 ?_
    exact x_iret dX14_count_101 rfl rfl (Nat.le_refl _) (Nat.le_refl _) ⟨_, rfl, ((yfr_rf _).up (by decide)), ⟨ar, (M.g9 (upd g 0 0) w nw), fun _ _ => rfl⟩, rfl⟩
  · refine x_tswIn (off := 94) 102 dX14_count_8 (by decide) (by decide) (by decide) (by decide) ?_
    refine x_aload_n dX14_count_102 rfl ?_
    refine x_aload_n dX14_count_103 rfl ?_
    refine x_get lf_X14_93 dX14_count_104 (xup_self _ _ _) rfl ?_
    refine x_top (y := nI rc) h6 ?_
    have Y1 : yfr h (xup h 205 (.inr (14, mL (upd g 0 0) w nw))) := ((yfr_rf _).up (by decide))
    have M1 := (M.g9 (upd g 0 0) w nw)
    refine x_callV (As := [.int (nI rc)]) (st := []) lv_X14_226 (k_X14_layers M1 hrc hK (hT.y Y1)) dX14_count_107 (xup_self _ _ _) rfl rfl (Nat.le_of_ble_eq_true rfl) ⟨by decide, by decide⟩ ⟨by decide, by decide⟩ (fun v9 h9 z => ?_) (fun _ _ _ _ _ z => by obtain ⟨_, _, z, _⟩ := z; cases z)
    obtain ⟨b9, lf9, ev, eh, hb1, hb0⟩ := z
    cases ev
    have hbt : b9 = true := by cases b9 with | true => rfl | false => exact absurd ⟨L, hL.2.2.1⟩ (hb0 rfl)
    obtain ⟨L9, hl⟩ := hb1 hbt
    have M2 : MH h9 (upd g 0 0) w nw (apF ar 211 lf9) tw kw rf := by rw [eh]; exact M1.a9 (c := 211) rfl _
    have Y2 : yfr h h9 := by rw [eh]; exact Y1.tr ((yfr_rf _).up (by decide))
    generalize h9 = h2 at M2 Y2 ⊢
    refine x_istore_n [(0, .ref 205), (1, .int 5), (2, .int 0), (3, .int (bi b9))] dX14_count_110 (by decide) rfl rfl ?_
    refine x_iconst (v := 0) dX14_count_111 (by decide) ?_
    refine x_istore [(0, .ref 205), (1, .int 5), (2, .int 0), (3, .int (bi b9)), (4, .int 0)] dX14_count_112 (by decide) rfl rfl ?_
    refine l_X14_cnt5 M2 hnk h5 (L := L9) (fun k hk => (congrFun (apF_at _ _ _) k).trans (hl.1 k hk)) (fun k _ => hl.2.1 k) ⟨_, rfl, Y2, ⟨_, M2, fun c hc => apF_ne hc⟩, ?_⟩ (nk + 1) 0 (by omega) (by omega)
    rw [lcnt_cg (fun k hk => ly_uq hl hL k (by omega))]; rfl
  · refine x_tswOut 145 dX14_count_8 e9 (by decide) ?_
    refine x_iconst (v := (-1)) dX14_count_145 (by decide) ?_
    refine x_iret dX14_count_146 rfl rfl (Nat.le_refl _) (Nat.le_refl _) ⟨_, rfl, ((yfr_rf _).up (by decide)), ⟨ar, (M.g9 (upd g 0 0) w nw), fun _ _ => rfl⟩, ?_⟩
    have z9 := cn_out (nt := nt) (nk := nk) (rc := rc) (fc := nI (fb_ct S 1000)) (tsz := tsz) (lc := lcnt L nk) e9
    injection z9 with z9; injection z9 with z9; injection z9
