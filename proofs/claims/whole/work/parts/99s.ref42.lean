/-! the reference: name -/
theorem xw_at : ∀ {l : List Nat}, okW l → ∀ m, xw l / 256 ^ m % 256 = if m < l.length then l.getD m 0 + 96 else 0
  | [], _, m => by simp [xw]
  | c :: l, h, 0 => by
    have := h c List.mem_cons_self
    simp [xw]; omega
  | c :: l, h, m + 1 => by
    have hc := h c List.mem_cons_self
    have e : xw (c :: l) / 256 ^ (m + 1) = xw l / 256 ^ m := by
      rw [Nat.pow_succ, Nat.mul_comm, ← Nat.div_div_eq_div_mul]
      congr 1
      simp only [xw]; omega
    rw [e, xw_at (fun z hz => h z (List.mem_cons_of_mem _ hz)) m]
    simp
theorem mwr_at : ∀ {l : List Nat}, okW l → ∀ m, m < l.length → mwr l / 32 ^ m % 32 = l.getD m 0
  | [], _, m, hm => absurd hm (Nat.not_lt_zero _)
  | c :: l, h, 0, _ => by
    have := h c List.mem_cons_self
    simp [mwr]; omega
  | c :: l, h, m + 1, hm => by
    have hc := h c List.mem_cons_self
    have e : mwr (c :: l) / 32 ^ (m + 1) = mwr l / 32 ^ m := by
      rw [Nat.pow_succ, Nat.mul_comm, ← Nat.div_div_eq_div_mul]
      congr 1
      simp only [mwr]; omega
    rw [e, mwr_at (fun z hz => h z (List.mem_cons_of_mem _ hz)) m (by simpa using hm)]
    simp
theorem mw_at {l : List Nat} (h : okW l) {m : Nat} (hm : m < l.length) : mw l / 32 ^ (l.length - 1 - m) % 32 = l.getD m 0 := by
  unfold mw
  rw [mwr_at (okW_rev h) _ (by rw [List.length_reverse]; omega)]
  have h1 : l.length - 1 - m < l.reverse.length := by rw [List.length_reverse]; omega
  rw [List.getD_eq_getElem?_getD, List.getD_eq_getElem?_getD, List.getElem?_reverse (by omega), show l.length - 1 - (l.length - 1 - m) = m by omega]
theorem pf_lI9 {n : Nat} (h : n < 2 ^ 63) : (lN n).toInt = (n : Int) := lg_ofNat_toInt h
theorem pf_shr9 {a d : Nat} {D : Int64} (hD : (D.toBitVec.smod 64).toNat = d) (h : a < 2 ^ 62) : lN a >>> D = lN (a / 2 ^ d) := by
  have hd : a / 2 ^ d ≤ a := Nat.div_le_self _ _
  apply Int64.toInt_inj.mp
  have e : (lN a >>> D).toInt = (lN a).toInt >>> d := by
    rw [← hD]
    exact BitVec.toInt_sshiftRight ..
  rw [e, Int.shiftRight_eq_div_pow, pf_lI9 (by omega), pf_lI9 (by omega)]
  rfl
theorem sm64 : ∀ k, k < 64 → ((lN k).toBitVec.smod 64).toNat = k := by decide +kernel
theorem nm_m {l : List Nat} (h : okW l) (h8 : l.length ≤ 8) {m : Nat} (hm : m < l.length) : ((lN (mw l) >>> ((nI (5 * (l.length - 1 - m))).toInt64 &&& 63)) &&& 31).toInt32 = nI (l.getD m 0) := by
  have h40 := mw_40 h h8
  rw [wb_c _ (by omega), pf_shr9 (sm64 _ (by omega)) (by omega), show (31 : Int64) = lN (2 ^ 5 - 1) from rfl, fb_maskL, lN_i, ← mw_at h hm, Nat.pow_mul]
theorem nm_let_x {x : Nat} (hx : x < 2 ^ 64) {m : Nat} (hm : m < 8) : nm_let (lN x) (nI m) = nI (x / 256 ^ m % 256) := by
  unfold nm_let
  rw [show (8 : Int32) * nI m = nI (8 * m) from pk_mul 8 m, wb_shr hx (by omega), lN_i, show (255 : Int32) = nI (2 ^ 8 - 1) from rfl, fa_mask, Nat.pow_mul]
def nmS (n : Nat) (T : Nat → List Nat) (k i : Int32) (j m : Nat) : Prop := j < n ∧ k = nI j ∧ m < (T j).length ∧ i = nI m
theorem nm_x {n : Nat} {T : Nat → List Nat} {f : Nat → Int64} {k i : Int32} (h : wOk n T f) (hn : n ≤ 10) : (∃ j m, nmS n T k i j m ∧ nm_letter f n k i = nI ((T j).getD m 0 + 96)) ∨ ((¬ ∃ j m, nmS n T k i j m) ∧ nm_letter f n k i = -1) := by
  by_cases c : ∃ j m, nmS n T k i j m
  · obtain ⟨j, m, h1, rfl, h3, rfl⟩ := c
    refine Or.inl ⟨j, m, ⟨h1, rfl, h3, rfl⟩, ?_⟩
    obtain ⟨l1, l2, l3⟩ := h j h1
    have h63 := xw_63 l2 l3
    have hg : (T j).getD m 0 ≤ 26 := by
      rw [List.getD_eq_getElem?_getD, List.getElem?_eq_getElem h3]; exact (l2 _ (List.getElem_mem h3)).2
    have e : nm_let (lN (xw (T j))) (nI m) = nI ((T j).getD m 0 + 96) := (nm_let_x (by omega) (by omega)).trans (by rw [xw_at l2, if_pos h3])
    unfold nm_letter
    rw [nI_clamp (by omega), l1, e, if_pos ⟨by rw [inR_nI (by omega) (by omega)]; simpa using h1, nI_pos (by omega), by rw [show (8 : Int32) = nI 8 from rfl, nI_ltI (by omega) (by omega)]; omega, fun z => by rw [show (0 : Int32) = nI 0 from rfl, nI_eq (by omega) (by omega)] at z; omega⟩]
  · refine Or.inr ⟨c, ?_⟩
    unfold nm_letter
    rw [if_neg]
    rintro ⟨a1, a2, a3, a4⟩
    obtain ⟨j, hj, rfl⟩ := inR_of a1 (by omega)
    obtain ⟨m, hm, rfl⟩ := inR_of (k := i) (n := 8) (by simp only [inR, Bool.and_eq_true, decide_eq_true_eq]; exact ⟨a2, fun z => absurd a3 (Int32.not_lt.mpr z)⟩) (by omega)
    obtain ⟨l1, l2, l3⟩ := h j hj
    have h63 := xw_63 l2 l3
    rw [nI_clamp (by omega), l1, nm_let_x (by omega) hm, xw_at l2] at a4
    by_cases z : m < (T j).length
    · exact c ⟨j, m, hj, rfl, z, rfl⟩
    · rw [if_neg z] at a4; exact a4 rfl
def nmR (n : Nat) (T : Nat → List Nat) (k i r t : Int32) : Prop := (∃ j m, nmS n T k i j m ∧ r = nI ((T j).getD m 0 + 96) ∧ t = 0) ∨ ((¬ ∃ j m, nmS n T k i j m) ∧ r = 0 ∧ t = 1)
def nmQ (b : Bool) (nk nt : Nat) (K T : Nat → List Nat) (k i r t : Int32) : Prop := nmR (if b = true then nk else nt) (if b = true then K else T) k i r t
theorem nmQ_k {b : Bool} {nk nt : Nat} {K T : Nat → List Nat} {k i r t : Int32} (e : b = true) (h : nmR nk K k i r t) : nmQ b nk nt K T k i r t := by subst e; exact h
theorem nmQ_t {b : Bool} {nk nt : Nat} {K T : Nat → List Nat} {k i r t : Int32} (e : b = false) (h : nmR nt T k i r t) : nmQ b nk nt K T k i r t := by subst e; exact h
theorem nmR_no1 {n : Nat} {T : Nat → List Nat} {k i : Int32} (h : inR k n = false) (hn : n ≤ 10) : nmR n T k i 0 1 := Or.inr ⟨fun ⟨j, m, h1, h2, _⟩ => inR_f h (by omega) j h1 h2, rfl, rfl⟩
theorem nmR_no2 {n : Nat} {T : Nat → List Nat} {k i : Int32} (h : ∀ j, j < n → (T j).length ≤ 8) (hi : i < 0) : nmR n T k i 0 1 := Or.inr ⟨fun ⟨j, m, h1, h2, h3, h4⟩ => by rw [h4] at hi; have := h j h1; exact nI_pos (by omega) hi, rfl, rfl⟩
theorem nmR_no3 {n : Nat} {T : Nat → List Nat} {k i : Int32} {j : Nat} (hj : j < n) (hn : n ≤ 10) (ek : k = nI j) (h8 : (T j).length ≤ 8) (hi : ¬ i < nI (T j).length) : nmR n T k i 0 1 := Or.inr ⟨fun ⟨j', m, h1, h2, h3, h4⟩ => by
  have e : j = j' := (nI_eq (by omega) (by omega)).mp (ek.symm.trans h2)
  subst e
  exact hi (by rw [h4, nI_ltI (by omega) (by omega)]; exact h3), rfl, rfl⟩
set_option maxRecDepth 100000 in
set_option maxHeartbeats 4000000 in
theorem k_X14_name {G : xG} {h : xHp} {g : Nat → Int32} {w : Int64} {nw : Value} {ar : Nat → Nat → Int32} {tw : Nat → Int64} {kw : Nat → Int64} {rf : Nat → Option Nat} (M : MH h g w nw ar tw kw rf) {nt nk : Nat} {T K : Nat → List Nat} (hTT : wM nt T tw (ar 208)) (hKK : wM nk K kw (ar 209)) (h4 : g 4 = nI nt) (h5 : g 5 = nI nk) (hnk : nk ≤ 10) (hn : nt ≤ 10) {k i : Int32} {b : Bool} : MX G mX14_name 2 0 0 [.ref 205, .int k, .int i, .int (bi b)] h (fun o h' => ∃ r t, o = .inl (some (.int r)) ∧ yfr h h' ∧ MH h' (upd g 0 t) w nw ar tw kw rf ∧ nmQ b nk nt K T k i r t) := by
  refine MX.of [(0, .ref 205), (1, .int k), (2, .int i), (3, .int (bi b))] (by decide) rfl (Nat.le_of_ble_eq_true rfl) rfl ?_
  refine x_iload_n dX14_name_0 rfl ?_
  refine x_if_eq 12 dX14_name_1 (by decide) (fun c_1 => ?_) (fun c_1 => ?_)
  · have c_1 := bi_f c_1
    refine x_iload_n dX14_name_12 rfl ?_
    refine x_if_lt 28 dX14_name_13 (by decide) (fun c_13 => ?_) (fun c_13 => ?_)
    · refine x_iconst (v := 0) dX14_name_28 (by decide) ?_
      refine x_istore [(0, .ref 205), (1, .int k), (2, .int i), (3, .int (bi b)), (4, .int 0)] dX14_name_29 (by decide) rfl rfl ?_
      refine x_iload dX14_name_31 rfl ?_
      refine x_if_ne 40 dX14_name_33 (by decide) (fun c => absurd c (by decide)) (fun _ => ?_)
      refine x_iconst (v := 0) dX14_name_36 (by decide) ?_
      refine x_goto 59 dX14_name_37 (by decide) ?_
      refine x_istore [(0, .ref 205), (1, .int k), (2, .int i), (3, .int (bi b)), (4, .int 0), (5, .int 0)] dX14_name_59 (by decide) rfl rfl ?_
      refine x_aload_n dX14_name_61 rfl ?_
      refine x_iload_n dX14_name_62 rfl ?_
      refine x_if_lt 72 dX14_name_63 (by decide) (fun c_63 => ?_) (fun c_63 => ?_)
      · refine x_iconst (v := 1) dX14_name_72 (by decide) ?_
        refine x_goto 77 dX14_name_73 (by decide) ?_
        refine x_put (mL (upd g 0 1) w nw) lf_X14_84 dX14_name_77 M.o (Nat.le_of_ble_eq_true rfl) rfl rfl rfl ?_
        refine x_aload_n dX14_name_80 rfl ?_
        refine x_get lf_X14_84 dX14_name_81 (xup_self _ _ _) rfl ?_
        refine x_top (y := 1) rfl ?_
        refine x_if_le 89 dX14_name_84 (by decide) (fun c => absurd c (by decide)) (fun _ => ?_)
        refine x_iconst (v := 0) dX14_name_87 (by decide) ?_
        exact x_iret dX14_name_88 rfl rfl (Nat.le_refl _) (Nat.le_refl _) ⟨_, 1, rfl, ((yfr_rf _).up (by decide)), (M.g9 (upd g 0 1) w nw), nmQ_t (by assumption) (by first | exact nmR_no2 (fun j hj => (hTT j hj).2.2.2) c_63 | exact nmR_no3 hj (by omega) ek hw9.2.2.2 c_69 | exact nmR_no1 (by first | assumption | (simp [inR, *]; done)) (by omega))⟩
      · refine x_iload_n dX14_name_66 rfl ?_
        refine x_iload dX14_name_67 rfl ?_
        refine x_icmp_lt 76 dX14_name_69 (by decide) (fun c_69 => absurd c_69 c_63) (fun c_69 => ?_)
        refine x_iconst (v := 1) dX14_name_72 (by decide) ?_
        refine x_goto 77 dX14_name_73 (by decide) ?_
        refine x_put (mL (upd g 0 1) w nw) lf_X14_84 dX14_name_77 M.o (Nat.le_of_ble_eq_true rfl) rfl rfl rfl ?_
        refine x_aload_n dX14_name_80 rfl ?_
        refine x_get lf_X14_84 dX14_name_81 (xup_self _ _ _) rfl ?_
        refine x_top (y := 1) rfl ?_
        refine x_if_le 89 dX14_name_84 (by decide) (fun c => absurd c (by decide)) (fun _ => ?_)
        refine x_iconst (v := 0) dX14_name_87 (by decide) ?_
        exact x_iret dX14_name_88 rfl rfl (Nat.le_refl _) (Nat.le_refl _) ⟨_, 1, rfl, ((yfr_rf _).up (by decide)), (M.g9 (upd g 0 1) w nw), nmQ_t (by assumption) (by first | exact nmR_no2 (fun j hj => (hTT j hj).2.2.2) c_63 | exact nmR_no3 hj (by omega) ek hw9.2.2.2 c_69 | exact nmR_no1 (by first | assumption | (simp [inR, *]; done)) (by omega))⟩
    · refine x_iload_n dX14_name_16 rfl ?_
      refine x_aload_n dX14_name_17 rfl ?_
      refine x_get lf_X14_96 dX14_name_18 M.o rfl ?_
      refine x_top (y := nI nt) h4 ?_
      refine x_icmp_ge 28 dX14_name_21 (by decide) (fun c_21 => ?_) (fun c_21 => ?_)
      · refine x_iconst (v := 0) dX14_name_28 (by decide) ?_
        refine x_istore [(0, .ref 205), (1, .int k), (2, .int i), (3, .int (bi b)), (4, .int 0)] dX14_name_29 (by decide) rfl rfl ?_
        refine x_iload dX14_name_31 rfl ?_
        refine x_if_ne 40 dX14_name_33 (by decide) (fun c => absurd c (by decide)) (fun _ => ?_)
        refine x_iconst (v := 0) dX14_name_36 (by decide) ?_
        refine x_goto 59 dX14_name_37 (by decide) ?_
        refine x_istore [(0, .ref 205), (1, .int k), (2, .int i), (3, .int (bi b)), (4, .int 0), (5, .int 0)] dX14_name_59 (by decide) rfl rfl ?_
        refine x_aload_n dX14_name_61 rfl ?_
        refine x_iload_n dX14_name_62 rfl ?_
        refine x_if_lt 72 dX14_name_63 (by decide) (fun c_63 => ?_) (fun c_63 => ?_)
        · refine x_iconst (v := 1) dX14_name_72 (by decide) ?_
          refine x_goto 77 dX14_name_73 (by decide) ?_
          refine x_put (mL (upd g 0 1) w nw) lf_X14_84 dX14_name_77 M.o (Nat.le_of_ble_eq_true rfl) rfl rfl rfl ?_
          refine x_aload_n dX14_name_80 rfl ?_
          refine x_get lf_X14_84 dX14_name_81 (xup_self _ _ _) rfl ?_
          refine x_top (y := 1) rfl ?_
          refine x_if_le 89 dX14_name_84 (by decide) (fun c => absurd c (by decide)) (fun _ => ?_)
          refine x_iconst (v := 0) dX14_name_87 (by decide) ?_
          exact x_iret dX14_name_88 rfl rfl (Nat.le_refl _) (Nat.le_refl _) ⟨_, 1, rfl, ((yfr_rf _).up (by decide)), (M.g9 (upd g 0 1) w nw), nmQ_t (by assumption) (by first | exact nmR_no2 (fun j hj => (hTT j hj).2.2.2) c_63 | exact nmR_no3 hj (by omega) ek hw9.2.2.2 c_69 | exact nmR_no1 (by first | assumption | (simp [inR, *]; done)) (by omega))⟩
        · refine x_iload_n dX14_name_66 rfl ?_
          refine x_iload dX14_name_67 rfl ?_
          refine x_icmp_lt 76 dX14_name_69 (by decide) (fun c_69 => absurd c_69 c_63) (fun c_69 => ?_)
          refine x_iconst (v := 1) dX14_name_72 (by decide) ?_
          refine x_goto 77 dX14_name_73 (by decide) ?_
          refine x_put (mL (upd g 0 1) w nw) lf_X14_84 dX14_name_77 M.o (Nat.le_of_ble_eq_true rfl) rfl rfl rfl ?_
          refine x_aload_n dX14_name_80 rfl ?_
          refine x_get lf_X14_84 dX14_name_81 (xup_self _ _ _) rfl ?_
          refine x_top (y := 1) rfl ?_
          refine x_if_le 89 dX14_name_84 (by decide) (fun c => absurd c (by decide)) (fun _ => ?_)
          refine x_iconst (v := 0) dX14_name_87 (by decide) ?_
          exact x_iret dX14_name_88 rfl rfl (Nat.le_refl _) (Nat.le_refl _) ⟨_, 1, rfl, ((yfr_rf _).up (by decide)), (M.g9 (upd g 0 1) w nw), nmQ_t (by assumption) (by first | exact nmR_no2 (fun j hj => (hTT j hj).2.2.2) c_63 | exact nmR_no3 hj (by omega) ek hw9.2.2.2 c_69 | exact nmR_no1 (by first | assumption | (simp [inR, *]; done)) (by omega))⟩
      · refine x_iconst (v := 1) dX14_name_24 (by decide) ?_
        refine x_goto 29 dX14_name_25 (by decide) ?_
        refine x_istore [(0, .ref 205), (1, .int k), (2, .int i), (3, .int (bi b)), (4, .int 1)] dX14_name_29 (by decide) rfl rfl ?_
        refine x_iload dX14_name_31 rfl ?_
        refine x_if_ne 40 dX14_name_33 (by decide) (fun _ => ?_) (fun c => absurd c (by decide))
        refine x_iload_n dX14_name_40 rfl ?_
        refine x_if_eq 53 dX14_name_41 (by decide) (fun _ => ?_) (fun c => absurd (bi_cf c_1) c)
        obtain ⟨j, hj, ek⟩ := inR_of (show inR k nt = true by simp only [inR, Bool.and_eq_true, decide_eq_true_eq]; exact ⟨c_13, c_21⟩) (by omega)
        have hw9 := hTT j hj
        refine x_aload_n dX14_name_53 rfl ?_
        refine x_get lf_X14_20 dX14_name_54 M.o rfl ?_
        refine x_iload_n dX14_name_57 rfl ?_
        refine x_top (y := nI j) ek ?_
        refine x_ialdN (j := j) (M.a 208 0 10 rfl) rfl (by omega) (by decide) dX14_name_58 ?_
        refine x_top hw9.2.1 ?_
        refine x_istore [(0, .ref 205), (1, .int k), (2, .int i), (3, .int (bi b)), (4, .int 1), (5, .int (nI ((T j).length)))] dX14_name_59 (by decide) rfl rfl ?_
        refine x_aload_n dX14_name_61 rfl ?_
        refine x_iload_n dX14_name_62 rfl ?_
        refine x_if_lt 72 dX14_name_63 (by decide) (fun c_63 => ?_) (fun c_63 => ?_)
        · refine x_iconst (v := 1) dX14_name_72 (by decide) ?_
          refine x_goto 77 dX14_name_73 (by decide) ?_
          refine x_put (mL (upd g 0 1) w nw) lf_X14_84 dX14_name_77 M.o (Nat.le_of_ble_eq_true rfl) rfl rfl rfl ?_
          refine x_aload_n dX14_name_80 rfl ?_
          refine x_get lf_X14_84 dX14_name_81 (xup_self _ _ _) rfl ?_
          refine x_top (y := 1) rfl ?_
          refine x_if_le 89 dX14_name_84 (by decide) (fun c => absurd c (by decide)) (fun _ => ?_)
          refine x_iconst (v := 0) dX14_name_87 (by decide) ?_
          exact x_iret dX14_name_88 rfl rfl (Nat.le_refl _) (Nat.le_refl _) ⟨_, 1, rfl, ((yfr_rf _).up (by decide)), (M.g9 (upd g 0 1) w nw), nmQ_t (by assumption) (by first | exact nmR_no2 (fun j hj => (hTT j hj).2.2.2) c_63 | exact nmR_no3 hj (by omega) ek hw9.2.2.2 c_69 | exact nmR_no1 (by first | assumption | (simp [inR, *]; done)) (by omega))⟩
        · refine x_iload_n dX14_name_66 rfl ?_
          refine x_iload dX14_name_67 rfl ?_
          refine x_icmp_lt 76 dX14_name_69 (by decide) (fun c_69 => ?_) (fun c_69 => ?_)
          · refine x_iconst (v := 0) dX14_name_76 (by decide) ?_
            refine x_put (mL (upd g 0 0) w nw) lf_X14_84 dX14_name_77 M.o (Nat.le_of_ble_eq_true rfl) rfl rfl rfl ?_
            refine x_aload_n dX14_name_80 rfl ?_
            refine x_get lf_X14_84 dX14_name_81 (xup_self _ _ _) rfl ?_
            refine x_top (y := 0) rfl ?_
            refine x_if_le 89 dX14_name_84 (by decide) (fun _ => ?_) (fun c => absurd c (by decide))
            have hw8 := hw9.2.2.2
            obtain ⟨m, hm, ei⟩ := inR_of (k := i) (n := (T j).length) (by simp only [inR, Bool.and_eq_true, decide_eq_true_eq]; exact ⟨c_63, fun z => absurd c_69 (Int32.not_lt.mpr z)⟩) (by omega)
            refine x_bipush (v := 96) dX14_name_89 (by decide) ?_
            refine x_iload_n dX14_name_91 rfl ?_
            refine x_if_eq 104 dX14_name_92 (by decide) (fun _ => ?_) (fun c => absurd (bi_cf c_1) c)
            refine x_aload_n dX14_name_104 rfl ?_
            refine x_get lf_X14_13 dX14_name_105 (xup_self _ _ _) rfl ?_
            refine x_iload_n dX14_name_108 rfl ?_
            refine x_top (y := nI j) ek ?_
            refine x_laldN (j := j) ((xup_ne (by omega)).trans M.t) rfl (by omega) (by decide) dX14_name_109 ?_
            refine x_topl hw9.1 ?_
            refine x_iconst (v := 5) dX14_name_110 (by decide) ?_
            refine x_iload dX14_name_111 rfl ?_
            refine x_iconst (v := 1) dX14_name_113 (by decide) ?_
            refine x_isub dX14_name_114 ?_
            refine x_top (y := nI (((T j).length) - 1)) (pk_sub (a := (T j).length) (b := 1) (by omega)) ?_
            refine x_iload_n dX14_name_115 rfl ?_
            refine x_top (y := nI m) ei ?_
            refine x_isub dX14_name_116 ?_
            refine x_top (y := nI ((((T j).length) - 1) - m)) (pk_sub (a := ((T j).length) - 1) (b := m) (by omega)) ?_
            refine x_imul dX14_name_117 ?_
            refine x_top (y := nI (5 * ((((T j).length) - 1) - m))) (pk_mul 5 ((((T j).length) - 1) - m)) ?_
            refine x_lshr dX14_name_118 ?_
            refine x_ldc2 kl_X14_242 dX14_name_119 ?_
            refine x_land dX14_name_122 ?_
            refine x_l2i dX14_name_123 ?_
            refine x_top (y := nI ((T j).getD m 0)) (nm_m hw9.2.2.1 hw9.2.2.2 hm) ?_
            refine x_iadd dX14_name_124 ?_
            refine x_top (y := nI (96 + ((T j).getD m 0))) (nI_add 96 ((T j).getD m 0)) ?_
            exact x_iret dX14_name_125 rfl rfl (Nat.le_refl _) (Nat.le_refl _) ⟨_, 0, rfl, ((yfr_rf _).up (by decide)), (M.g9 (upd g 0 0) w nw), nmQ_t (by assumption) (Or.inl ⟨j, m, ⟨hj, ek, hm, ei⟩, by congr 1; omega, rfl⟩)⟩
          · refine x_iconst (v := 1) dX14_name_72 (by decide) ?_
            refine x_goto 77 dX14_name_73 (by decide) ?_
            refine x_put (mL (upd g 0 1) w nw) lf_X14_84 dX14_name_77 M.o (Nat.le_of_ble_eq_true rfl) rfl rfl rfl ?_
            refine x_aload_n dX14_name_80 rfl ?_
            refine x_get lf_X14_84 dX14_name_81 (xup_self _ _ _) rfl ?_
            refine x_top (y := 1) rfl ?_
            refine x_if_le 89 dX14_name_84 (by decide) (fun c => absurd c (by decide)) (fun _ => ?_)
            refine x_iconst (v := 0) dX14_name_87 (by decide) ?_
            exact x_iret dX14_name_88 rfl rfl (Nat.le_refl _) (Nat.le_refl _) ⟨_, 1, rfl, ((yfr_rf _).up (by decide)), (M.g9 (upd g 0 1) w nw), nmQ_t (by assumption) (by first | exact nmR_no2 (fun j hj => (hTT j hj).2.2.2) c_63 | exact nmR_no3 hj (by omega) ek hw9.2.2.2 c_69 | exact nmR_no1 (by first | assumption | (simp [inR, *]; done)) (by omega))⟩
  · have c_1 := bi_t c_1
    refine x_aload_n dX14_name_4 rfl ?_
    refine x_iload_n dX14_name_5 rfl ?_
    refine x_callV (As := [.int k]) (st := []) lv_X14_232 (k_X14_isKind M h5) dX14_name_6 M.o rfl rfl (Nat.le_of_ble_eq_true rfl) ⟨by decide, by decide⟩ ⟨by decide, by decide⟩ (fun v9 h9 z => ?_) (fun _ _ _ _ _ z => by cases z.1)
    obtain ⟨ev, eh⟩ := z
    rw [eh]
    cases ev
    refine x_goto 29 dX14_name_9 (by decide) ?_
    refine x_istore [(0, .ref 205), (1, .int k), (2, .int i), (3, .int (bi b)), (4, .int (bi (inR k nk)))] dX14_name_29 (by decide) rfl rfl ?_
    refine x_iload dX14_name_31 rfl ?_
    refine x_if_ne 40 dX14_name_33 (by decide) (fun c_33 => ?_) (fun c_33 => ?_)
    · have c_33 := bi_t c_33
      refine x_iload_n dX14_name_40 rfl ?_
      refine x_if_eq 53 dX14_name_41 (by decide) (fun c => absurd c (bi_ct c_1)) (fun _ => ?_)
      obtain ⟨j, hj, ek⟩ := inR_of (show inR k nk = true by assumption) (by omega)
      have hw9 := hKK j hj
      refine x_aload_n dX14_name_44 rfl ?_
      refine x_get lf_X14_24 dX14_name_45 M.o rfl ?_
      refine x_iload_n dX14_name_48 rfl ?_
      refine x_top (y := nI j) ek ?_
      refine x_ialdN (j := j) (M.a 209 0 10 rfl) rfl (by omega) (by decide) dX14_name_49 ?_
      refine x_top hw9.2.1 ?_
      refine x_goto 59 dX14_name_50 (by decide) ?_
      refine x_istore [(0, .ref 205), (1, .int k), (2, .int i), (3, .int (bi b)), (4, .int (bi (inR k nk))), (5, .int (nI ((K j).length)))] dX14_name_59 (by decide) rfl rfl ?_
      refine x_aload_n dX14_name_61 rfl ?_
      refine x_iload_n dX14_name_62 rfl ?_
      refine x_if_lt 72 dX14_name_63 (by decide) (fun c_63 => ?_) (fun c_63 => ?_)
      · refine x_iconst (v := 1) dX14_name_72 (by decide) ?_
        refine x_goto 77 dX14_name_73 (by decide) ?_
        refine x_put (mL (upd g 0 1) w nw) lf_X14_84 dX14_name_77 M.o (Nat.le_of_ble_eq_true rfl) rfl rfl rfl ?_
        refine x_aload_n dX14_name_80 rfl ?_
        refine x_get lf_X14_84 dX14_name_81 (xup_self _ _ _) rfl ?_
        refine x_top (y := 1) rfl ?_
        refine x_if_le 89 dX14_name_84 (by decide) (fun c => absurd c (by decide)) (fun _ => ?_)
        refine x_iconst (v := 0) dX14_name_87 (by decide) ?_
        exact x_iret dX14_name_88 rfl rfl (Nat.le_refl _) (Nat.le_refl _) ⟨_, 1, rfl, ((yfr_rf _).up (by decide)), (M.g9 (upd g 0 1) w nw), nmQ_k (by assumption) (by first | exact nmR_no2 (fun j hj => (hKK j hj).2.2.2) c_63 | exact nmR_no3 hj (by omega) ek hw9.2.2.2 c_69 | exact nmR_no1 (by first | assumption | (simp [inR, *]; done)) (by omega))⟩
      · refine x_iload_n dX14_name_66 rfl ?_
        refine x_iload dX14_name_67 rfl ?_
        refine x_icmp_lt 76 dX14_name_69 (by decide) (fun c_69 => ?_) (fun c_69 => ?_)
        · refine x_iconst (v := 0) dX14_name_76 (by decide) ?_
          refine x_put (mL (upd g 0 0) w nw) lf_X14_84 dX14_name_77 M.o (Nat.le_of_ble_eq_true rfl) rfl rfl rfl ?_
          refine x_aload_n dX14_name_80 rfl ?_
          refine x_get lf_X14_84 dX14_name_81 (xup_self _ _ _) rfl ?_
          refine x_top (y := 0) rfl ?_
          refine x_if_le 89 dX14_name_84 (by decide) (fun _ => ?_) (fun c => absurd c (by decide))
          have hw8 := hw9.2.2.2
          obtain ⟨m, hm, ei⟩ := inR_of (k := i) (n := (K j).length) (by simp only [inR, Bool.and_eq_true, decide_eq_true_eq]; exact ⟨c_63, fun z => absurd c_69 (Int32.not_lt.mpr z)⟩) (by omega)
          refine x_bipush (v := 96) dX14_name_89 (by decide) ?_
          refine x_iload_n dX14_name_91 rfl ?_
          refine x_if_eq 104 dX14_name_92 (by decide) (fun c => absurd c (bi_ct c_1)) (fun _ => ?_)
          refine x_aload_n dX14_name_95 rfl ?_
          refine x_get lf_X14_17 dX14_name_96 (xup_self _ _ _) rfl ?_
          refine x_iload_n dX14_name_99 rfl ?_
          refine x_top (y := nI j) ek ?_
          refine x_laldN (j := j) ((xup_ne (by omega)).trans M.k) rfl (by omega) (by decide) dX14_name_100 ?_
          refine x_topl hw9.1 ?_
          refine x_goto 110 dX14_name_101 (by decide) ?_
          refine x_iconst (v := 5) dX14_name_110 (by decide) ?_
          refine x_iload dX14_name_111 rfl ?_
          refine x_iconst (v := 1) dX14_name_113 (by decide) ?_
          refine x_isub dX14_name_114 ?_
          refine x_top (y := nI (((K j).length) - 1)) (pk_sub (a := (K j).length) (b := 1) (by omega)) ?_
          refine x_iload_n dX14_name_115 rfl ?_
          refine x_top (y := nI m) ei ?_
          refine x_isub dX14_name_116 ?_
          refine x_top (y := nI ((((K j).length) - 1) - m)) (pk_sub (a := ((K j).length) - 1) (b := m) (by omega)) ?_
          refine x_imul dX14_name_117 ?_
          refine x_top (y := nI (5 * ((((K j).length) - 1) - m))) (pk_mul 5 ((((K j).length) - 1) - m)) ?_
          refine x_lshr dX14_name_118 ?_
          refine x_ldc2 kl_X14_242 dX14_name_119 ?_
          refine x_land dX14_name_122 ?_
          refine x_l2i dX14_name_123 ?_
          refine x_top (y := nI ((K j).getD m 0)) (nm_m hw9.2.2.1 hw9.2.2.2 hm) ?_
          refine x_iadd dX14_name_124 ?_
          refine x_top (y := nI (96 + ((K j).getD m 0))) (nI_add 96 ((K j).getD m 0)) ?_
          exact x_iret dX14_name_125 rfl rfl (Nat.le_refl _) (Nat.le_refl _) ⟨_, 0, rfl, ((yfr_rf _).up (by decide)), (M.g9 (upd g 0 0) w nw), nmQ_k (by assumption) (Or.inl ⟨j, m, ⟨hj, ek, hm, ei⟩, by congr 1; omega, rfl⟩)⟩
        · refine x_iconst (v := 1) dX14_name_72 (by decide) ?_
          refine x_goto 77 dX14_name_73 (by decide) ?_
          refine x_put (mL (upd g 0 1) w nw) lf_X14_84 dX14_name_77 M.o (Nat.le_of_ble_eq_true rfl) rfl rfl rfl ?_
          refine x_aload_n dX14_name_80 rfl ?_
          refine x_get lf_X14_84 dX14_name_81 (xup_self _ _ _) rfl ?_
          refine x_top (y := 1) rfl ?_
          refine x_if_le 89 dX14_name_84 (by decide) (fun c => absurd c (by decide)) (fun _ => ?_)
          refine x_iconst (v := 0) dX14_name_87 (by decide) ?_
          exact x_iret dX14_name_88 rfl rfl (Nat.le_refl _) (Nat.le_refl _) ⟨_, 1, rfl, ((yfr_rf _).up (by decide)), (M.g9 (upd g 0 1) w nw), nmQ_k (by assumption) (by first | exact nmR_no2 (fun j hj => (hKK j hj).2.2.2) c_63 | exact nmR_no3 hj (by omega) ek hw9.2.2.2 c_69 | exact nmR_no1 (by first | assumption | (simp [inR, *]; done)) (by omega))⟩
    · have c_33 := bi_f c_33
      refine x_iconst (v := 0) dX14_name_36 (by decide) ?_
      refine x_goto 59 dX14_name_37 (by decide) ?_
      refine x_istore [(0, .ref 205), (1, .int k), (2, .int i), (3, .int (bi b)), (4, .int (bi (inR k nk))), (5, .int 0)] dX14_name_59 (by decide) rfl rfl ?_
      refine x_aload_n dX14_name_61 rfl ?_
      refine x_iload_n dX14_name_62 rfl ?_
      refine x_if_lt 72 dX14_name_63 (by decide) (fun c_63 => ?_) (fun c_63 => ?_)
      · refine x_iconst (v := 1) dX14_name_72 (by decide) ?_
        refine x_goto 77 dX14_name_73 (by decide) ?_
        refine x_put (mL (upd g 0 1) w nw) lf_X14_84 dX14_name_77 M.o (Nat.le_of_ble_eq_true rfl) rfl rfl rfl ?_
        refine x_aload_n dX14_name_80 rfl ?_
        refine x_get lf_X14_84 dX14_name_81 (xup_self _ _ _) rfl ?_
        refine x_top (y := 1) rfl ?_
        refine x_if_le 89 dX14_name_84 (by decide) (fun c => absurd c (by decide)) (fun _ => ?_)
        refine x_iconst (v := 0) dX14_name_87 (by decide) ?_
        exact x_iret dX14_name_88 rfl rfl (Nat.le_refl _) (Nat.le_refl _) ⟨_, 1, rfl, ((yfr_rf _).up (by decide)), (M.g9 (upd g 0 1) w nw), nmQ_k (by assumption) (by first | exact nmR_no2 (fun j hj => (hKK j hj).2.2.2) c_63 | exact nmR_no3 hj (by omega) ek hw9.2.2.2 c_69 | exact nmR_no1 (by first | assumption | (simp [inR, *]; done)) (by omega))⟩
      · refine x_iload_n dX14_name_66 rfl ?_
        refine x_iload dX14_name_67 rfl ?_
        refine x_icmp_lt 76 dX14_name_69 (by decide) (fun c_69 => absurd c_69 c_63) (fun c_69 => ?_)
        refine x_iconst (v := 1) dX14_name_72 (by decide) ?_
        refine x_goto 77 dX14_name_73 (by decide) ?_
        refine x_put (mL (upd g 0 1) w nw) lf_X14_84 dX14_name_77 M.o (Nat.le_of_ble_eq_true rfl) rfl rfl rfl ?_
        refine x_aload_n dX14_name_80 rfl ?_
        refine x_get lf_X14_84 dX14_name_81 (xup_self _ _ _) rfl ?_
        refine x_top (y := 1) rfl ?_
        refine x_if_le 89 dX14_name_84 (by decide) (fun c => absurd c (by decide)) (fun _ => ?_)
        refine x_iconst (v := 0) dX14_name_87 (by decide) ?_
        exact x_iret dX14_name_88 rfl rfl (Nat.le_refl _) (Nat.le_refl _) ⟨_, 1, rfl, ((yfr_rf _).up (by decide)), (M.g9 (upd g 0 1) w nw), nmQ_k (by assumption) (by first | exact nmR_no2 (fun j hj => (hKK j hj).2.2.2) c_63 | exact nmR_no3 hj (by omega) ek hw9.2.2.2 c_69 | exact nmR_no1 (by first | assumption | (simp [inR, *]; done)) (by omega))⟩
