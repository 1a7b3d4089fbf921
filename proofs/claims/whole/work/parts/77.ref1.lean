/-! the reference: small methods -/
set_option maxRecDepth 100000 in
set_option maxHeartbeats 4000000 in
theorem k_X14_thrown {G : xG} {h : xHp} {g : Nat → Int32} {w : Int64} {nw : Value} {ar : Nat → Nat → Int32} {tw : Nat → Int64} {kw : Nat → Int64} {rf : Nat → Option Nat} (M : MH h g w nw ar tw kw rf) : MX G mX14_thrown 1 0 0 [.ref 205] h (xAns (.int (g 0)) h) := by
  refine MX.of [(0, .ref 205)] (by decide) rfl (Nat.le_of_ble_eq_true rfl) rfl ?_
  refine x_aload_n dX14_thrown_0 rfl ?_
  refine x_get lf_X14_84 dX14_thrown_1 M.o rfl ?_
  exact x_iret dX14_thrown_4 rfl rfl (Nat.le_refl _) (Nat.le_refl _) (⟨rfl, rfl⟩)
set_option maxRecDepth 100000 in
set_option maxHeartbeats 4000000 in
theorem k_X14_refused {G : xG} {h : xHp} {g : Nat → Int32} {w : Int64} {nw : Value} {ar : Nat → Nat → Int32} {tw : Nat → Int64} {kw : Nat → Int64} {rf : Nat → Option Nat} (M : MH h g w nw ar tw kw rf) {v : Int32} : MX G mX14_refused 1 0 0 [.ref 205, .int v] h (fun o h' => o = .inl (some (.int (-1))) ∧ yfr h h' ∧ MH h' (upd (upd g 1 v) 2 (-1)) w nw ar tw kw rf) := by
  refine MX.of [(0, .ref 205), (1, .int v)] (by decide) rfl (Nat.le_of_ble_eq_true rfl) rfl ?_
  refine x_aload_n dX14_refused_0 rfl ?_
  refine x_iload_n dX14_refused_1 rfl ?_
  refine x_put (mL (upd g 1 v) w nw) lf_X14_87 dX14_refused_2 M.o (Nat.le_of_ble_eq_true rfl) rfl rfl rfl ?_
  refine x_aload_n dX14_refused_5 rfl ?_
  refine x_iconst (v := (-1)) dX14_refused_6 (by decide) ?_
  refine x_put (mL (upd (upd g 1 v) 2 (-1)) w nw) lf_X14_9 dX14_refused_7 (xup_self _ _ _) (Nat.le_of_ble_eq_true rfl) rfl rfl rfl ?_
  refine x_iconst (v := (-1)) dX14_refused_10 (by decide) ?_
  exact x_iret dX14_refused_11 rfl rfl (Nat.le_refl _) (Nat.le_refl _) (⟨rfl, (((yfr_rf _).up (by decide)).up (by decide)), ((M.g9 (upd g 1 v) w nw).g9 (upd (upd g 1 v) 2 (-1)) w nw)⟩)
set_option maxRecDepth 100000 in
set_option maxHeartbeats 4000000 in
theorem k_X14_denied {G : xG} {h : xHp} {g : Nat → Int32} {w : Int64} {nw : Value} {ar : Nat → Nat → Int32} {tw : Nat → Int64} {kw : Nat → Int64} {rf : Nat → Option Nat} (M : MH h g w nw ar tw kw rf) {v : Int32} : MX G mX14_denied 1 0 0 [.ref 205, .int v] h (fun o h' => o = .inl (some (.int 0)) ∧ yfr h h' ∧ MH h' (upd (upd g 1 v) 2 (-1)) w nw ar tw kw rf) := by
  refine MX.of [(0, .ref 205), (1, .int v)] (by decide) rfl (Nat.le_of_ble_eq_true rfl) rfl ?_
  refine x_aload_n dX14_denied_0 rfl ?_
  refine x_iload_n dX14_denied_1 rfl ?_
  refine x_put (mL (upd g 1 v) w nw) lf_X14_87 dX14_denied_2 M.o (Nat.le_of_ble_eq_true rfl) rfl rfl rfl ?_
  refine x_aload_n dX14_denied_5 rfl ?_
  refine x_iconst (v := (-1)) dX14_denied_6 (by decide) ?_
  refine x_put (mL (upd (upd g 1 v) 2 (-1)) w nw) lf_X14_9 dX14_denied_7 (xup_self _ _ _) (Nat.le_of_ble_eq_true rfl) rfl rfl rfl ?_
  refine x_iconst (v := 0) dX14_denied_10 (by decide) ?_
  exact x_iret dX14_denied_11 rfl rfl (Nat.le_refl _) (Nat.le_refl _) (⟨rfl, (((yfr_rf _).up (by decide)).up (by decide)), ((M.g9 (upd g 1 v) w nw).g9 (upd (upd g 1 v) 2 (-1)) w nw)⟩)
set_option maxRecDepth 100000 in
set_option maxHeartbeats 4000000 in
theorem k_X14_done {G : xG} {h : xHp} {g : Nat → Int32} {w : Int64} {nw : Value} {ar : Nat → Nat → Int32} {tw : Nat → Int64} {kw : Nat → Int64} {rf : Nat → Option Nat} (M : MH h g w nw ar tw kw rf) {v : Int32} : MX G mX14_done 1 0 0 [.ref 205, .int v] h (fun o h' => o = .inl (some (.int v)) ∧ yfr h h' ∧ MH h' (upd (upd g 1 0) 2 (-1)) w nw ar tw kw rf) := by
  refine MX.of [(0, .ref 205), (1, .int v)] (by decide) rfl (Nat.le_of_ble_eq_true rfl) rfl ?_
  refine x_aload_n dX14_done_0 rfl ?_
  refine x_iconst (v := 0) dX14_done_1 (by decide) ?_
  refine x_put (mL (upd g 1 0) w nw) lf_X14_87 dX14_done_2 M.o (Nat.le_of_ble_eq_true rfl) rfl rfl rfl ?_
  refine x_aload_n dX14_done_5 rfl ?_
  refine x_iconst (v := (-1)) dX14_done_6 (by decide) ?_
  refine x_put (mL (upd (upd g 1 0) 2 (-1)) w nw) lf_X14_9 dX14_done_7 (xup_self _ _ _) (Nat.le_of_ble_eq_true rfl) rfl rfl rfl ?_
  refine x_iload_n dX14_done_10 rfl ?_
  exact x_iret dX14_done_11 rfl rfl (Nat.le_refl _) (Nat.le_refl _) (⟨rfl, (((yfr_rf _).up (by decide)).up (by decide)), ((M.g9 (upd g 1 0) w nw).g9 (upd (upd g 1 0) 2 (-1)) w nw)⟩)
set_option maxRecDepth 100000 in
set_option maxHeartbeats 4000000 in
theorem k_X14_granted {G : xG} {h : xHp} {g : Nat → Int32} {w : Int64} {nw : Value} {ar : Nat → Nat → Int32} {tw : Nat → Int64} {kw : Nat → Int64} {rf : Nat → Option Nat} (M : MH h g w nw ar tw kw rf) : MX G mX14_granted 1 0 0 [.ref 205] h (fun o h' => o = .inl (some (.int 1)) ∧ yfr h h' ∧ MH h' (upd (upd g 1 0) 2 (-1)) w nw ar tw kw rf) := by
  refine MX.of [(0, .ref 205)] (by decide) rfl (Nat.le_of_ble_eq_true rfl) rfl ?_
  refine x_aload_n dX14_granted_0 rfl ?_
  refine x_iconst (v := 0) dX14_granted_1 (by decide) ?_
  refine x_put (mL (upd g 1 0) w nw) lf_X14_87 dX14_granted_2 M.o (Nat.le_of_ble_eq_true rfl) rfl rfl rfl ?_
  refine x_aload_n dX14_granted_5 rfl ?_
  refine x_iconst (v := (-1)) dX14_granted_6 (by decide) ?_
  refine x_put (mL (upd (upd g 1 0) 2 (-1)) w nw) lf_X14_9 dX14_granted_7 (xup_self _ _ _) (Nat.le_of_ble_eq_true rfl) rfl rfl rfl ?_
  refine x_iconst (v := 1) dX14_granted_10 (by decide) ?_
  exact x_iret dX14_granted_11 rfl rfl (Nat.le_refl _) (Nat.le_refl _) (⟨rfl, (((yfr_rf _).up (by decide)).up (by decide)), ((M.g9 (upd g 1 0) w nw).g9 (upd (upd g 1 0) 2 (-1)) w nw)⟩)
set_option maxRecDepth 100000 in
set_option maxHeartbeats 4000000 in
theorem k_X14_in {G : xG} {h : xHp} {v lo hi : Int32} : MX G mX14_in 1 0 0 [.int v, .int lo, .int hi] h (xAsk (lo ≤ v ∧ v ≤ hi) h) := by
  refine MX.of [(0, .int v), (1, .int lo), (2, .int hi)] (by decide) rfl (Nat.le_of_ble_eq_true rfl) rfl ?_
  refine x_iload_n dX14_in_0 rfl ?_
  refine x_iload_n dX14_in_1 rfl ?_
  refine x_icmp_lt 14 dX14_in_2 (by decide) (fun c_2 => ?_) (fun c_2 => ?_)
  · refine x_iconst (v := 0) dX14_in_14 (by decide) ?_
    exact x_iret dX14_in_15 rfl rfl (Nat.le_refl _) (Nat.le_refl _) (xAsk_f (fun z => by first | exact (fa_of_lt c_2).2.1 z.1 | exact (fa_of_lt c_7).2.1 z.2))
  · refine x_iload_n dX14_in_5 rfl ?_
    refine x_iload_n dX14_in_6 rfl ?_
    refine x_icmp_gt 14 dX14_in_7 (by decide) (fun c_7 => ?_) (fun c_7 => ?_)
    · refine x_iconst (v := 0) dX14_in_14 (by decide) ?_
      exact x_iret dX14_in_15 rfl rfl (Nat.le_refl _) (Nat.le_refl _) (xAsk_f (fun z => by first | exact (fa_of_lt c_2).2.1 z.1 | exact (fa_of_lt c_7).2.1 z.2))
    · refine x_iconst (v := 1) dX14_in_10 (by decide) ?_
      refine x_goto 15 dX14_in_11 (by decide) ?_
      exact x_iret dX14_in_15 rfl rfl (Nat.le_refl _) (Nat.le_refl _) (xAsk_t ⟨fa_of_nlt c_2, fa_of_nlt c_7⟩)
set_option maxRecDepth 100000 in
set_option maxHeartbeats 4000000 in
theorem k_X14_isKind {G : xG} {h : xHp} {g : Nat → Int32} {w : Int64} {nw : Value} {ar : Nat → Nat → Int32} {tw : Nat → Int64} {kw : Nat → Int64} {rf : Nat → Option Nat} (M : MH h g w nw ar tw kw rf) {k : Int32} {nk : Nat} (hg : g 5 = nI nk) : MX G mX14_isKind 1 0 0 [.ref 205, .int k] h (xAns (.int (bi (inR k nk))) h) := by
  refine MX.of [(0, .ref 205), (1, .int k)] (by decide) rfl (Nat.le_of_ble_eq_true rfl) rfl ?_
  refine x_iload_n dX14_isKind_0 rfl ?_
  refine x_if_lt 16 dX14_isKind_1 (by decide) (fun c_1 => ?_) (fun c_1 => ?_)
  · refine x_iconst (v := 0) dX14_isKind_16 (by decide) ?_
    exact x_iret dX14_isKind_17 rfl rfl (Nat.le_refl _) (Nat.le_refl _) ⟨by simp [inR, bi, *], rfl⟩
  · refine x_iload_n dX14_isKind_4 rfl ?_
    refine x_aload_n dX14_isKind_5 rfl ?_
    refine x_get lf_X14_90 dX14_isKind_6 M.o rfl ?_
    refine x_top (y := nI nk) hg ?_
    refine x_icmp_ge 16 dX14_isKind_9 (by decide) (fun c_9 => ?_) (fun c_9 => ?_)
    · refine x_iconst (v := 0) dX14_isKind_16 (by decide) ?_
      exact x_iret dX14_isKind_17 rfl rfl (Nat.le_refl _) (Nat.le_refl _) ⟨by simp [inR, bi, *], rfl⟩
    · refine x_iconst (v := 1) dX14_isKind_12 (by decide) ?_
      refine x_goto 17 dX14_isKind_13 (by decide) ?_
      exact x_iret dX14_isKind_17 rfl rfl (Nat.le_refl _) (Nat.le_refl _) ⟨by simp [inR, bi, *], rfl⟩
set_option maxRecDepth 100000 in
set_option maxHeartbeats 4000000 in
theorem k_X14_isRule {G : xG} {h : xHp} {g : Nat → Int32} {w : Int64} {nw : Value} {ar : Nat → Nat → Int32} {tw : Nat → Int64} {kw : Nat → Int64} {rf : Nat → Option Nat} (M : MH h g w nw ar tw kw rf) {k : Int32} {rc : Nat} (hg : g 6 = nI rc) : MX G mX14_isRule 1 0 0 [.ref 205, .int k] h (xAns (.int (bi (inR k rc))) h) := by
  refine MX.of [(0, .ref 205), (1, .int k)] (by decide) rfl (Nat.le_of_ble_eq_true rfl) rfl ?_
  refine x_iload_n dX14_isRule_0 rfl ?_
  refine x_if_lt 16 dX14_isRule_1 (by decide) (fun c_1 => ?_) (fun c_1 => ?_)
  · refine x_iconst (v := 0) dX14_isRule_16 (by decide) ?_
    exact x_iret dX14_isRule_17 rfl rfl (Nat.le_refl _) (Nat.le_refl _) ⟨by simp [inR, bi, *], rfl⟩
  · refine x_iload_n dX14_isRule_4 rfl ?_
    refine x_aload_n dX14_isRule_5 rfl ?_
    refine x_get lf_X14_93 dX14_isRule_6 M.o rfl ?_
    refine x_top (y := nI rc) hg ?_
    refine x_icmp_ge 16 dX14_isRule_9 (by decide) (fun c_9 => ?_) (fun c_9 => ?_)
    · refine x_iconst (v := 0) dX14_isRule_16 (by decide) ?_
      exact x_iret dX14_isRule_17 rfl rfl (Nat.le_refl _) (Nat.le_refl _) ⟨by simp [inR, bi, *], rfl⟩
    · refine x_iconst (v := 1) dX14_isRule_12 (by decide) ?_
      refine x_goto 17 dX14_isRule_13 (by decide) ?_
      exact x_iret dX14_isRule_17 rfl rfl (Nat.le_refl _) (Nat.le_refl _) ⟨by simp [inR, bi, *], rfl⟩
set_option maxRecDepth 100000 in
set_option maxHeartbeats 4000000 in
theorem k_X14_isAtom {G : xG} {h : xHp} {g : Nat → Int32} {w : Int64} {nw : Value} {ar : Nat → Nat → Int32} {tw : Nat → Int64} {kw : Nat → Int64} {rf : Nat → Option Nat} (M : MH h g w nw ar tw kw rf) {nk nt : Nat} {pc : Nat → Nat} (hg4 : g 4 = nI nt) (hg5 : g 5 = nI nk) (hpc : ∀ k, k < nk → ar 210 k = nI (pc k) ∧ pc k < 3) (hnk : nk ≤ 10) (hnt : nt ≤ 10) {x : Int32} : MX G mX14_isAtom 1 0 0 [.ref 205, .int x] h (xAsk (∃ n, x = nI n ∧ n < 2 ^ 31 ∧ okAtom nk nt pc n) h) := by
  refine MX.of [(0, .ref 205), (1, .int x)] (by decide) rfl (Nat.le_of_ble_eq_true rfl) rfl ?_
  refine x_iload_n dX14_isAtom_0 rfl ?_
  refine x_if_lt 15 dX14_isAtom_1 (by decide) (fun c_1 => ?_) (fun c_1 => ?_)
  · refine x_iconst (v := 0) dX14_isAtom_15 (by decide) ?_
    exact x_iret dX14_isAtom_16 rfl rfl (Nat.le_refl _) (Nat.le_refl _) (xAsk_f (by first | (rintro ⟨n, rfl, hn, -⟩; exact nI_pos hn c_1) | (rintro ⟨m, e, hm, q⟩; have e := (nI_eq (by omega) (by omega)).mp e; subst e; have q1 := q.1; first | omega | (have q2 := q.2.1; first | (rw [if_pos (by omega)] at q2; omega) | (rw [if_neg (by omega)] at q2; omega)) | (have q3 := q.2.2; first | (rw [if_pos (by omega)] at q3; omega) | (rw [if_neg (by omega)] at q3; omega)))))
  · obtain ⟨n, hn, rfl⟩ := nI_of c_1
    refine x_iload_n dX14_isAtom_4 rfl ?_
    refine x_bipush (v := 100) dX14_isAtom_5 (by decide) ?_
    refine x_idiv dX14_isAtom_7 (by decide) ?_
    refine x_top (y := nI (n / 100)) (pk_div (a := n) (d := 100) (by omega) (by omega) (by omega)) ?_
    refine x_aload_n dX14_isAtom_8 rfl ?_
    refine x_get lf_X14_90 dX14_isAtom_9 M.o rfl ?_
    refine x_top (y := nI nk) hg5 ?_
    refine x_icmp_lt 17 dX14_isAtom_12 (by decide) (fun c_12 => ?_) (fun c_12 => ?_)
    · rw [nI_ltI (by omega) (by omega)] at c_12
      have hlt : n / 100 < nk := c_12
      obtain ⟨hp1, hp2⟩ := hpc _ hlt
      refine x_aload_n dX14_isAtom_17 rfl ?_
      refine x_get lf_X14_27 dX14_isAtom_18 M.o rfl ?_
      refine x_iload_n dX14_isAtom_21 rfl ?_
      refine x_bipush (v := 100) dX14_isAtom_22 (by decide) ?_
      refine x_idiv dX14_isAtom_24 (by decide) ?_
      refine x_top (y := nI (n / 100)) (pk_div (a := n) (d := 100) (by omega) (by omega) (by omega)) ?_
      refine x_ialdN (j := n / 100) (M.a 210 0 10 rfl) rfl (by omega) (by decide) dX14_isAtom_25 ?_
      refine x_top (y := nI (pc (n / 100))) hp1 ?_
      refine x_istore_n [(0, .ref 205), (1, .int (nI n)), (2, .int (nI (pc (n / 100))))] dX14_isAtom_26 (by decide) rfl rfl ?_
      refine x_iload_n dX14_isAtom_27 rfl ?_
      refine x_if_le 48 dX14_isAtom_28 (by decide) (fun c_28 => ?_) (fun c_28 => ?_)
      · rw [show (0 : Int32) = nI 0 from rfl, nI_leI (by omega) (by omega)] at c_28
        refine x_iload_n dX14_isAtom_48 rfl ?_
        refine x_bipush (v := 10) dX14_isAtom_49 (by decide) ?_
        refine x_idiv dX14_isAtom_51 (by decide) ?_
        refine x_top (y := nI (n / 10)) (pk_div (a := n) (d := 10) (by omega) (by omega) (by omega)) ?_
        refine x_bipush (v := 10) dX14_isAtom_52 (by decide) ?_
        refine x_irem dX14_isAtom_54 (by decide) ?_
        refine x_top (y := nI ((n / 10) % 10)) (pk_rem (a := n / 10) (d := 10) (by omega) (by omega) (by omega)) ?_
        refine x_if_ne 88 dX14_isAtom_55 (by decide) (fun c_55 => ?_) (fun c_55 => ?_)
        · rw [show (0 : Int32) = nI 0 from rfl, nI_eq (by omega) (by omega)] at c_55
          refine x_iconst (v := 0) dX14_isAtom_88 (by decide) ?_
          exact x_iret dX14_isAtom_89 rfl rfl (Nat.le_refl _) (Nat.le_refl _) (xAsk_f (by first | (rintro ⟨n, rfl, hn, -⟩; exact nI_pos hn c_1) | (rintro ⟨m, e, hm, q⟩; have e := (nI_eq (by omega) (by omega)).mp e; subst e; have q1 := q.1; first | omega | (have q2 := q.2.1; first | (rw [if_pos (by omega)] at q2; omega) | (rw [if_neg (by omega)] at q2; omega)) | (have q3 := q.2.2; first | (rw [if_pos (by omega)] at q3; omega) | (rw [if_neg (by omega)] at q3; omega)))))
        · rw [show (0 : Int32) = nI 0 from rfl, nI_eq (by omega) (by omega)] at c_55
          refine x_iload_n dX14_isAtom_58 rfl ?_
          refine x_iconst (v := 1) dX14_isAtom_59 (by decide) ?_
          refine x_icmp_le 77 dX14_isAtom_60 (by decide) (fun c_60 => ?_) (fun c_60 => ?_)
          · rw [show (1 : Int32) = nI 1 from rfl, nI_leI (by omega) (by omega)] at c_60
            refine x_iload_n dX14_isAtom_77 rfl ?_
            refine x_bipush (v := 10) dX14_isAtom_78 (by decide) ?_
            refine x_irem dX14_isAtom_80 (by decide) ?_
            refine x_top (y := nI (n % 10)) (pk_rem (a := n) (d := 10) (by omega) (by omega) (by omega)) ?_
            refine x_if_ne 88 dX14_isAtom_81 (by decide) (fun c_81 => ?_) (fun c_81 => ?_)
            · rw [show (0 : Int32) = nI 0 from rfl, nI_eq (by omega) (by omega)] at c_81
              refine x_iconst (v := 0) dX14_isAtom_88 (by decide) ?_
              exact x_iret dX14_isAtom_89 rfl rfl (Nat.le_refl _) (Nat.le_refl _) (xAsk_f (by first | (rintro ⟨n, rfl, hn, -⟩; exact nI_pos hn c_1) | (rintro ⟨m, e, hm, q⟩; have e := (nI_eq (by omega) (by omega)).mp e; subst e; have q1 := q.1; first | omega | (have q2 := q.2.1; first | (rw [if_pos (by omega)] at q2; omega) | (rw [if_neg (by omega)] at q2; omega)) | (have q3 := q.2.2; first | (rw [if_pos (by omega)] at q3; omega) | (rw [if_neg (by omega)] at q3; omega)))))
            · rw [show (0 : Int32) = nI 0 from rfl, nI_eq (by omega) (by omega)] at c_81
              refine x_iconst (v := 1) dX14_isAtom_84 (by decide) ?_
              refine x_goto 89 dX14_isAtom_85 (by decide) ?_
              exact x_iret dX14_isAtom_89 rfl rfl (Nat.le_refl _) (Nat.le_refl _) (xAsk_t ⟨n, rfl, hn, hlt, by first | (rw [if_pos (by omega)]; omega) | (rw [if_neg (by omega)]; omega), by first | (rw [if_pos (by omega)]; omega) | (rw [if_neg (by omega)]; omega)⟩)
          · rw [show (1 : Int32) = nI 1 from rfl, nI_leI (by omega) (by omega)] at c_60
            refine x_iload_n dX14_isAtom_63 rfl ?_
            refine x_bipush (v := 10) dX14_isAtom_64 (by decide) ?_
            refine x_irem dX14_isAtom_66 (by decide) ?_
            refine x_top (y := nI (n % 10)) (pk_rem (a := n) (d := 10) (by omega) (by omega) (by omega)) ?_
            refine x_aload_n dX14_isAtom_67 rfl ?_
            refine x_get lf_X14_96 dX14_isAtom_68 M.o rfl ?_
            refine x_top (y := nI nt) hg4 ?_
            refine x_icmp_ge 88 dX14_isAtom_71 (by decide) (fun c_71 => ?_) (fun c_71 => ?_)
            · rw [nI_leI (by omega) (by omega)] at c_71
              refine x_iconst (v := 0) dX14_isAtom_88 (by decide) ?_
              exact x_iret dX14_isAtom_89 rfl rfl (Nat.le_refl _) (Nat.le_refl _) (xAsk_f (by first | (rintro ⟨n, rfl, hn, -⟩; exact nI_pos hn c_1) | (rintro ⟨m, e, hm, q⟩; have e := (nI_eq (by omega) (by omega)).mp e; subst e; have q1 := q.1; first | omega | (have q2 := q.2.1; first | (rw [if_pos (by omega)] at q2; omega) | (rw [if_neg (by omega)] at q2; omega)) | (have q3 := q.2.2; first | (rw [if_pos (by omega)] at q3; omega) | (rw [if_neg (by omega)] at q3; omega)))))
            · rw [nI_leI (by omega) (by omega)] at c_71
              refine x_goto 84 dX14_isAtom_74 (by decide) ?_
              refine x_iconst (v := 1) dX14_isAtom_84 (by decide) ?_
              refine x_goto 89 dX14_isAtom_85 (by decide) ?_
              exact x_iret dX14_isAtom_89 rfl rfl (Nat.le_refl _) (Nat.le_refl _) (xAsk_t ⟨n, rfl, hn, hlt, by first | (rw [if_pos (by omega)]; omega) | (rw [if_neg (by omega)]; omega), by first | (rw [if_pos (by omega)]; omega) | (rw [if_neg (by omega)]; omega)⟩)
      · rw [show (0 : Int32) = nI 0 from rfl, nI_leI (by omega) (by omega)] at c_28
        refine x_iload_n dX14_isAtom_31 rfl ?_
        refine x_bipush (v := 10) dX14_isAtom_32 (by decide) ?_
        refine x_idiv dX14_isAtom_34 (by decide) ?_
        refine x_top (y := nI (n / 10)) (pk_div (a := n) (d := 10) (by omega) (by omega) (by omega)) ?_
        refine x_bipush (v := 10) dX14_isAtom_35 (by decide) ?_
        refine x_irem dX14_isAtom_37 (by decide) ?_
        refine x_top (y := nI ((n / 10) % 10)) (pk_rem (a := n / 10) (d := 10) (by omega) (by omega) (by omega)) ?_
        refine x_aload_n dX14_isAtom_38 rfl ?_
        refine x_get lf_X14_96 dX14_isAtom_39 M.o rfl ?_
        refine x_top (y := nI nt) hg4 ?_
        refine x_icmp_ge 88 dX14_isAtom_42 (by decide) (fun c_42 => ?_) (fun c_42 => ?_)
        · rw [nI_leI (by omega) (by omega)] at c_42
          refine x_iconst (v := 0) dX14_isAtom_88 (by decide) ?_
          exact x_iret dX14_isAtom_89 rfl rfl (Nat.le_refl _) (Nat.le_refl _) (xAsk_f (by first | (rintro ⟨n, rfl, hn, -⟩; exact nI_pos hn c_1) | (rintro ⟨m, e, hm, q⟩; have e := (nI_eq (by omega) (by omega)).mp e; subst e; have q1 := q.1; first | omega | (have q2 := q.2.1; first | (rw [if_pos (by omega)] at q2; omega) | (rw [if_neg (by omega)] at q2; omega)) | (have q3 := q.2.2; first | (rw [if_pos (by omega)] at q3; omega) | (rw [if_neg (by omega)] at q3; omega)))))
        · rw [nI_leI (by omega) (by omega)] at c_42
          refine x_goto 58 dX14_isAtom_45 (by decide) ?_
          refine x_iload_n dX14_isAtom_58 rfl ?_
          refine x_iconst (v := 1) dX14_isAtom_59 (by decide) ?_
          refine x_icmp_le 77 dX14_isAtom_60 (by decide) (fun c_60 => ?_) (fun c_60 => ?_)
          · rw [show (1 : Int32) = nI 1 from rfl, nI_leI (by omega) (by omega)] at c_60
            refine x_iload_n dX14_isAtom_77 rfl ?_
            refine x_bipush (v := 10) dX14_isAtom_78 (by decide) ?_
            refine x_irem dX14_isAtom_80 (by decide) ?_
            refine x_top (y := nI (n % 10)) (pk_rem (a := n) (d := 10) (by omega) (by omega) (by omega)) ?_
            refine x_if_ne 88 dX14_isAtom_81 (by decide) (fun c_81 => ?_) (fun c_81 => ?_)
            · rw [show (0 : Int32) = nI 0 from rfl, nI_eq (by omega) (by omega)] at c_81
              refine x_iconst (v := 0) dX14_isAtom_88 (by decide) ?_
              exact x_iret dX14_isAtom_89 rfl rfl (Nat.le_refl _) (Nat.le_refl _) (xAsk_f (by first | (rintro ⟨n, rfl, hn, -⟩; exact nI_pos hn c_1) | (rintro ⟨m, e, hm, q⟩; have e := (nI_eq (by omega) (by omega)).mp e; subst e; have q1 := q.1; first | omega | (have q2 := q.2.1; first | (rw [if_pos (by omega)] at q2; omega) | (rw [if_neg (by omega)] at q2; omega)) | (have q3 := q.2.2; first | (rw [if_pos (by omega)] at q3; omega) | (rw [if_neg (by omega)] at q3; omega)))))
            · rw [show (0 : Int32) = nI 0 from rfl, nI_eq (by omega) (by omega)] at c_81
              refine x_iconst (v := 1) dX14_isAtom_84 (by decide) ?_
              refine x_goto 89 dX14_isAtom_85 (by decide) ?_
              exact x_iret dX14_isAtom_89 rfl rfl (Nat.le_refl _) (Nat.le_refl _) (xAsk_t ⟨n, rfl, hn, hlt, by first | (rw [if_pos (by omega)]; omega) | (rw [if_neg (by omega)]; omega), by first | (rw [if_pos (by omega)]; omega) | (rw [if_neg (by omega)]; omega)⟩)
          · rw [show (1 : Int32) = nI 1 from rfl, nI_leI (by omega) (by omega)] at c_60
            refine x_iload_n dX14_isAtom_63 rfl ?_
            refine x_bipush (v := 10) dX14_isAtom_64 (by decide) ?_
            refine x_irem dX14_isAtom_66 (by decide) ?_
            refine x_top (y := nI (n % 10)) (pk_rem (a := n) (d := 10) (by omega) (by omega) (by omega)) ?_
            refine x_aload_n dX14_isAtom_67 rfl ?_
            refine x_get lf_X14_96 dX14_isAtom_68 M.o rfl ?_
            refine x_top (y := nI nt) hg4 ?_
            refine x_icmp_ge 88 dX14_isAtom_71 (by decide) (fun c_71 => ?_) (fun c_71 => ?_)
            · rw [nI_leI (by omega) (by omega)] at c_71
              refine x_iconst (v := 0) dX14_isAtom_88 (by decide) ?_
              exact x_iret dX14_isAtom_89 rfl rfl (Nat.le_refl _) (Nat.le_refl _) (xAsk_f (by first | (rintro ⟨n, rfl, hn, -⟩; exact nI_pos hn c_1) | (rintro ⟨m, e, hm, q⟩; have e := (nI_eq (by omega) (by omega)).mp e; subst e; have q1 := q.1; first | omega | (have q2 := q.2.1; first | (rw [if_pos (by omega)] at q2; omega) | (rw [if_neg (by omega)] at q2; omega)) | (have q3 := q.2.2; first | (rw [if_pos (by omega)] at q3; omega) | (rw [if_neg (by omega)] at q3; omega)))))
            · rw [nI_leI (by omega) (by omega)] at c_71
              refine x_goto 84 dX14_isAtom_74 (by decide) ?_
              refine x_iconst (v := 1) dX14_isAtom_84 (by decide) ?_
              refine x_goto 89 dX14_isAtom_85 (by decide) ?_
              exact x_iret dX14_isAtom_89 rfl rfl (Nat.le_refl _) (Nat.le_refl _) (xAsk_t ⟨n, rfl, hn, hlt, by first | (rw [if_pos (by omega)]; omega) | (rw [if_neg (by omega)]; omega), by first | (rw [if_pos (by omega)]; omega) | (rw [if_neg (by omega)]; omega)⟩)
    · rw [nI_ltI (by omega) (by omega)] at c_12
      refine x_iconst (v := 0) dX14_isAtom_15 (by decide) ?_
      exact x_iret dX14_isAtom_16 rfl rfl (Nat.le_refl _) (Nat.le_refl _) (xAsk_f (by first | (rintro ⟨n, rfl, hn, -⟩; exact nI_pos hn c_1) | (rintro ⟨m, e, hm, q⟩; have e := (nI_eq (by omega) (by omega)).mp e; subst e; have q1 := q.1; first | omega | (have q2 := q.2.1; first | (rw [if_pos (by omega)] at q2; omega) | (rw [if_neg (by omega)] at q2; omega)) | (have q3 := q.2.2; first | (rw [if_pos (by omega)] at q3; omega) | (rw [if_neg (by omega)] at q3; omega)))))
set_option maxRecDepth 100000 in
set_option maxHeartbeats 4000000 in
theorem k_X14_stop {G : xG} {h : xHp} {g : Nat → Int32} {w : Int64} {nw : Value} {ar : Nat → Nat → Int32} {tw : Nat → Int64} {kw : Nat → Int64} {rf : Nat → Option Nat} (M : MH h g w nw ar tw kw rf) {k p : Int32} : MX G mX14_stop 1 0 0 [.ref 205, .int k, .int p] h (fun o h' => o = .inl (some (.ref 215)) ∧ h' = xup h 215 (sC k p)) := by
  obtain ⟨k0, p0, hs⟩ := M.s
  refine MX.of [(0, .ref 205), (1, .int k), (2, .int p)] (by decide) rfl (Nat.le_of_ble_eq_true rfl) rfl ?_
  refine x_aload_n dX14_stop_0 rfl ?_
  refine x_get lf_X14_49 dX14_stop_1 M.o rfl ?_
  refine x_iload_n dX14_stop_4 rfl ?_
  refine x_put [.null, .null, .null, .null, .null, .int 0, .int k, .int p0] lf_X14_99 dX14_stop_5 hs (Nat.le_of_ble_eq_true rfl) rfl rfl rfl ?_
  refine x_aload_n dX14_stop_8 rfl ?_
  refine x_get lf_X14_49 dX14_stop_9 ((xup_ne (by decide)).trans M.o) rfl ?_
  refine x_iload_n dX14_stop_12 rfl ?_
  refine x_put [.null, .null, .null, .null, .null, .int 0, .int k, .int p] lf_X14_101 dX14_stop_13 (xup_self _ _ _) (Nat.le_of_ble_eq_true rfl) rfl rfl rfl ?_
  refine x_aload_n dX14_stop_16 rfl ?_
  refine x_get lf_X14_49 dX14_stop_17 ((xup_ne (by decide)).trans ((xup_ne (by decide)).trans M.o)) rfl ?_
  rw [xup_up]
  exact x_aret dX14_stop_20 rfl (Nat.le_refl _) (Nat.le_refl _) ⟨rfl, rfl⟩
/-! the reference's RULES -/
abbrev rO (a : Nat) (t s p : Int32) : xCel := .inr (12, [.int t, .int s, .int p, .ref (a + 1), .ref (a + 2), .ref (a + 3), .ref (a + 4), .ref (a + 5)])
def rmC (h : xHp) (a : Nat) (t s p : Int32) (so kd on tz lt : Nat → Int32) : Prop := h.1 a = some (rO a t s p) ∧ h.1 (a + 1) = some (.inl (0, 5, .inl so)) ∧ h.1 (a + 2) = some (.inl (0, 5, .inl kd)) ∧ h.1 (a + 3) = some (.inl (0, 5, .inl on)) ∧ h.1 (a + 4) = some (.inl (0, 5, .inl tz)) ∧ h.1 (a + 5) = some (.inl (0, 3, .inl lt))
def rmI (v : RV) (n : Nat) (so kd on tz : Nat → Int32) : Prop := ∀ i, i ≤ n → so i = tmI v i 0 ∧ kd i = tmI v i 1 ∧ on i = tmI v i 2 ∧ tz i = tmI v i 3
def rmV (h : xHp) (a : Nat) (v : RV) : Prop := ∃ so kd on tz lt : Nat → Int32, rmC h a (nI v.2.2.1) (nI v.2.2.2.2) (v.1 4) so kd on tz lt ∧ rmI v v.2.2.1 so kd on tz
def rmT (h : xHp) (rf : Nat → Option Nat) (rc : Nat) (V : Nat → RV) : Prop := ∀ r, r < rc → ∃ a, rf r = some a ∧ 227 ≤ a ∧ a + 6 ≤ h.2 ∧ rmV h a (V r)
theorem rmC.kp {h h' : xHp} {a : Nat} {t s p : Int32} {so kd on tz lt : Nat → Int32} (x : rmC h a t s p so kd on tz lt) (e : ∀ q, a ≤ q → q < a + 6 → h'.1 q = h.1 q) : rmC h' a t s p so kd on tz lt := ⟨(e _ (by omega) (by omega)).trans x.1, (e _ (by omega) (by omega)).trans x.2.1, (e _ (by omega) (by omega)).trans x.2.2.1, (e _ (by omega) (by omega)).trans x.2.2.2.1, (e _ (by omega) (by omega)).trans x.2.2.2.2.1, (e _ (by omega) (by omega)).trans x.2.2.2.2.2⟩
theorem rmV.kp {h h' : xHp} {a : Nat} {v : RV} (x : rmV h a v) (e : ∀ q, a ≤ q → q < a + 6 → h'.1 q = h.1 q) : rmV h' a v := by
  obtain ⟨so, kd, on, tz, lt, c, i⟩ := x
  exact ⟨so, kd, on, tz, lt, c.kp e, i⟩
theorem rmT.kp {h h' : xHp} {rf : Nat → Option Nat} {rc : Nat} {V : Nat → RV} (x : rmT h rf rc V) (f : yfr h h') : rmT h' rf rc V := fun r hr => by
  obtain ⟨a, a1, a2, a3, a4⟩ := x r hr
  exact ⟨a, a1, a2, by rw [f.1]; exact a3, a4.kp (fun q h1 h2 => f.2 q (by omega))⟩
theorem sg_sub {s : Nat} (hs : s < 3) : nI (100 + s) - 100 = nI s := by
  rw [show (100 : Int32) = nI 100 from rfl, pk_sub (by omega)]
  congr 1
  omega
set_option maxRecDepth 100000 in
set_option maxHeartbeats 4000000 in
theorem k_X14_argOf {G : xG} {h : xHp} {g : Nat → Int32} {w : Int64} {nw : Value} {ar : Nat → Nat → Int32} {tw : Nat → Int64} {kw : Nat → Int64} {rf : Nat → Option Nat} (M : MH h g w nw ar tw kw rf) {nt : Nat} {θ : Nat → Option Nat} (hgv : ∀ s, s < 3 → ar 220 s = enT (θ s)) (hn : nt ≤ 10) {x : Int32} (hx : okA nt x) (hb : ∀ s, s < 3 → x = nI (100 + s) → θ s ≠ none) : MX G mX14_argOf 1 0 0 [.ref 205, .int x] h (xAns (.int (nI (thO x θ))) h) := by
  refine MX.of [(0, .ref 205), (1, .int x)] (by decide) rfl (Nat.le_of_ble_eq_true rfl) rfl ?_
  refine x_iload_n dX14_argOf_0 rfl ?_
  refine x_iconst (v := (-1)) dX14_argOf_1 (by decide) ?_
  refine x_icmp_ne 9 dX14_argOf_2 (by decide) (fun c_2 => ?_) (fun c_2 => ?_)
  · refine x_iload_n dX14_argOf_9 rfl ?_
    refine x_bipush (v := 100) dX14_argOf_10 (by decide) ?_
    refine x_icmp_lt 27 dX14_argOf_12 (by decide) (fun c_12 => ?_) (fun c_12 => ?_)
    · have eX : x = nI (thO x θ) := by rcases okA_lt hx hn c_12 with e | ⟨t, ht, e⟩; exact absurd e c_2; rw [e, thO_th (by omega)]
      refine x_iload_n dX14_argOf_27 rfl ?_
      exact x_iret dX14_argOf_28 rfl rfl (Nat.le_refl _) (Nat.le_refl _) (⟨by rw [← eX], rfl⟩)
    · obtain ⟨s, hs, rfl⟩ := okA_ge hx hn c_12
      have eT : ar 220 s = nI (thO (nI (100 + s)) θ) := by rw [hgv s hs, thO_sg hs]; cases e : θ s with | none => exact absurd e (hb s hs rfl) | some t => rfl
      refine x_aload_n dX14_argOf_15 rfl ?_
      refine x_get lf_X14_66 dX14_argOf_16 M.o rfl ?_
      refine x_iload_n dX14_argOf_19 rfl ?_
      refine x_bipush (v := 100) dX14_argOf_20 (by decide) ?_
      refine x_isub dX14_argOf_22 ?_
      refine x_top (y := nI s) (sg_sub hs) ?_
      refine x_ialdN (j := s) (M.a 220 0 3 rfl) rfl (by omega) (by decide) dX14_argOf_23 ?_
      refine x_goto 28 dX14_argOf_24 (by decide) ?_
      exact x_iret dX14_argOf_28 rfl rfl (Nat.le_refl _) (Nat.le_refl _) (⟨by rw [eT], rfl⟩)
  · refine x_iconst (v := 0) dX14_argOf_5 (by decide) ?_
    refine x_goto 28 dX14_argOf_6 (by decide) ?_
    exact x_iret dX14_argOf_28 rfl rfl (Nat.le_refl _) (Nat.le_refl _) (⟨by rw [c_2]; rfl, rfl⟩)
set_option maxRecDepth 100000 in
set_option maxHeartbeats 4000000 in
theorem k_X14_atomOf {G : xG} {h : xHp} {g : Nat → Int32} {w : Int64} {nw : Value} {ar : Nat → Nat → Int32} {tw : Nat → Int64} {kw : Nat → Int64} {rf : Nat → Option Nat} (M : MH h g w nw ar tw kw rf) {nt : Nat} {θ : Nat → Option Nat} (hgv : ∀ s, s < 3 → ar 220 s = enT (θ s)) (hn : nt ≤ 10) {a : Nat} {v : RV} (rv : rmV h a v) (hz : v.2.2.1 ≤ 4) {i kd9 : Nat} (hi : i ≤ v.2.2.1) (hk : tmI v i 1 = nI kd9) (hk9 : kd9 < 10) (h2 : okA nt (tmI v i 2)) (h3 : okA nt (tmI v i 3)) (hb2 : ∀ s, s < 3 → tmI v i 2 = nI (100 + s) → θ s ≠ none) (hb3 : ∀ s, s < 3 → tmI v i 3 = nI (100 + s) → θ s ≠ none) : MX G mX14_atomOf 2 0 0 [.ref 205, .ref a, .int (nI i)] h (xAns (.int (nI (nmP (tmI v i) θ))) h) := by
  obtain ⟨so, kd, on, tz, lt, rc9, ri⟩ := rv
  refine MX.of [(0, .ref 205), (1, .ref a), (2, .int (nI i))] (by decide) rfl (Nat.le_of_ble_eq_true rfl) rfl ?_
  refine x_bipush (v := 100) dX14_atomOf_0 (by decide) ?_
  refine x_aload_n dX14_atomOf_2 rfl ?_
  refine x_get lf_X14_171 dX14_atomOf_3 rc9.1 rfl ?_
  refine x_iload_n dX14_atomOf_6 rfl ?_
  refine x_ialdN (j := i) rc9.2.2.1 rfl (by omega) (by decide) dX14_atomOf_7 ?_
  refine x_top ((ri i hi).2.1.trans hk) ?_
  refine x_imul dX14_atomOf_8 ?_
  refine x_top (y := nI (100 * kd9)) (pk_mul 100 kd9) ?_
  refine x_bipush (v := 10) dX14_atomOf_9 (by decide) ?_
  refine x_aload_n dX14_atomOf_11 rfl ?_
  refine x_aload_n dX14_atomOf_12 rfl ?_
  refine x_get lf_X14_173 dX14_atomOf_13 rc9.1 rfl ?_
  refine x_iload_n dX14_atomOf_16 rfl ?_
  refine x_ialdN (j := i) rc9.2.2.2.1 rfl (by omega) (by decide) dX14_atomOf_17 ?_
  refine x_top (ri i hi).2.2.1 ?_
  refine x_callV (As := [.int (tmI v i 2)]) (st := [.int 10, .int (nI (100 * kd9))]) lv_X14_266 (k_X14_argOf M hgv hn h2 hb2) dX14_atomOf_18 M.o rfl rfl (Nat.le_of_ble_eq_true rfl) ⟨by decide, by decide⟩ ⟨by decide, by decide⟩ (fun v9 h9 z => ?_) (fun _ _ _ _ _ z => by cases z.1)
  obtain ⟨ev, eh⟩ := z
  rw [eh]
  cases ev
  refine x_imul dX14_atomOf_21 ?_
  refine x_top (y := nI (10 * (thO (tmI v i 2) θ))) (pk_mul 10 (thO (tmI v i 2) θ)) ?_
  refine x_iadd dX14_atomOf_22 ?_
  refine x_top (y := nI ((100 * kd9) + (10 * (thO (tmI v i 2) θ)))) (nI_add (100 * kd9) (10 * (thO (tmI v i 2) θ))) ?_
  refine x_aload_n dX14_atomOf_23 rfl ?_
  refine x_aload_n dX14_atomOf_24 rfl ?_
  refine x_get lf_X14_176 dX14_atomOf_25 rc9.1 rfl ?_
  refine x_iload_n dX14_atomOf_28 rfl ?_
  refine x_ialdN (j := i) rc9.2.2.2.2.1 rfl (by omega) (by decide) dX14_atomOf_29 ?_
  refine x_top (ri i hi).2.2.2 ?_
  refine x_callV (As := [.int (tmI v i 3)]) (st := [.int (nI ((100 * kd9) + (10 * (thO (tmI v i 2) θ))))]) lv_X14_266 (k_X14_argOf M hgv hn h3 hb3) dX14_atomOf_30 M.o rfl rfl (Nat.le_of_ble_eq_true rfl) ⟨by decide, by decide⟩ ⟨by decide, by decide⟩ (fun v9 h9 z => ?_) (fun _ _ _ _ _ z => by cases z.1)
  obtain ⟨ev, eh⟩ := z
  rw [eh]
  cases ev
  refine x_iadd dX14_atomOf_33 ?_
  refine x_top (y := nI (((100 * kd9) + (10 * (thO (tmI v i 2) θ))) + (thO (tmI v i 3) θ))) (nI_add ((100 * kd9) + (10 * (thO (tmI v i 2) θ))) (thO (tmI v i 3) θ)) ?_
  refine x_iret dX14_atomOf_34 rfl rfl (Nat.le_refl _) (Nat.le_refl _) ⟨?_, rfl⟩
  rw [show nmP (tmI v i) θ = 100 * kd9 + 10 * thO (tmI v i 2) θ + thO (tmI v i 3) θ by unfold nmP; rw [hk, nI_clamp (by omega)]; omega]
def fitP (x : Int32) (t : Nat) (θ : Nat → Option Nat) : Prop := if x < 100 then (if x = -1 then t = 0 else x = nI t) else (θ (x.toNatClampNeg - 100) = none ∨ θ (x.toNatClampNeg - 100) = some t)
theorem enT_none {θ : Nat → Option Nat} {s nt : Nat} {x : Int32} {hθ : okTh nt θ} {hn : nt ≤ 10} {hs : s < 3} (h : x = -1) (e : x = enT (θ s)) : θ s = none := by
  cases z : θ s with
  | none => rfl
  | some t =>
    rw [e, z] at h
    exact absurd h (nI_m1 (by have := hθ s t hs z; omega))
theorem enT_some {θ : Nat → Option Nat} {s nt t : Nat} {x : Int32} {hθ : okTh nt θ} {hn : nt ≤ 10} {hs : s < 3} (ht : t < 10) (e : x = enT (θ s)) (h : x = nI t) : θ s = some t := by
  cases z : θ s with
  | none => rw [e, z] at h; exact absurd h.symm (nI_m1 (by omega))
  | some u =>
    rw [e, z] at h
    have hu := hθ s u hs z
    have : nI u = nI t := h
    rw [nI_eq (by omega) (by omega)] at this
    rw [this]
set_option maxRecDepth 100000 in
set_option maxHeartbeats 4000000 in
theorem k_X14_fits {G : xG} {h : xHp} {g : Nat → Int32} {w : Int64} {nw : Value} {ar : Nat → Nat → Int32} {tw : Nat → Int64} {kw : Nat → Int64} {rf : Nat → Option Nat} (M : MH h g w nw ar tw kw rf) {nt : Nat} {θ : Nat → Option Nat} (hgv : ∀ s, s < 3 → ar 220 s = enT (θ s)) (hn : nt ≤ 10) (hθ : okTh nt θ) {x : Int32} {t : Nat} (hx : okA nt x) (ht : t < 10) : MX G mX14_fits 1 0 0 [.ref 205, .int x, .int (nI t)] h (xAsk (fitP x t θ) h) := by
  refine MX.of [(0, .ref 205), (1, .int x), (2, .int (nI t))] (by decide) rfl (Nat.le_of_ble_eq_true rfl) rfl ?_
  refine x_iload_n dX14_fits_0 rfl ?_
  refine x_bipush (v := 100) dX14_fits_1 (by decide) ?_
  refine x_icmp_ge 34 dX14_fits_3 (by decide) (fun c_3 => ?_) (fun c_3 => ?_)
  · obtain ⟨s, hs, rfl⟩ := okA_ge hx hn (fun z => (fa_of_lt z).2.1 c_3)
    have e9 := hgv s hs
    refine x_aload_n dX14_fits_34 rfl ?_
    refine x_get lf_X14_66 dX14_fits_35 M.o rfl ?_
    refine x_iload_n dX14_fits_38 rfl ?_
    refine x_bipush (v := 100) dX14_fits_39 (by decide) ?_
    refine x_isub dX14_fits_41 ?_
    refine x_top (y := nI s) (sg_sub hs) ?_
    refine x_ialdN (j := s) (M.a 220 0 3 rfl) rfl (by omega) (by decide) dX14_fits_42 ?_
    refine x_iconst (v := (-1)) dX14_fits_43 (by decide) ?_
    refine x_icmp_eq 60 dX14_fits_44 (by decide) (fun c_44 => ?_) (fun c_44 => ?_)
    · refine x_iconst (v := 1) dX14_fits_60 (by decide) ?_
      refine x_goto 65 dX14_fits_61 (by decide) ?_
      exact x_iret dX14_fits_65 rfl rfl (Nat.le_refl _) (Nat.le_refl _) (xAsk_t (by unfold fitP; first | (rw [if_pos (fa_of_nle c_3), if_pos c_8]; omega) | (rw [if_pos (fa_of_nle c_3), if_neg c_8]; exact c_25) | (rw [if_neg (sg_not hs), sg_cl hs]; first | exact Or.inl (enT_none (hθ := hθ) (hn := hn) (hs := hs) c_44 e9) | exact Or.inr (enT_some (hθ := hθ) (hn := hn) (hs := hs) (by omega) e9 c_57))))
    · refine x_aload_n dX14_fits_47 rfl ?_
      refine x_get lf_X14_66 dX14_fits_48 M.o rfl ?_
      refine x_iload_n dX14_fits_51 rfl ?_
      refine x_bipush (v := 100) dX14_fits_52 (by decide) ?_
      refine x_isub dX14_fits_54 ?_
      refine x_top (y := nI s) (sg_sub hs) ?_
      refine x_ialdN (j := s) (M.a 220 0 3 rfl) rfl (by omega) (by decide) dX14_fits_55 ?_
      refine x_iload_n dX14_fits_56 rfl ?_
      refine x_icmp_ne 64 dX14_fits_57 (by decide) (fun c_57 => ?_) (fun c_57 => ?_)
      · refine x_iconst (v := 0) dX14_fits_64 (by decide) ?_
        exact x_iret dX14_fits_65 rfl rfl (Nat.le_refl _) (Nat.le_refl _) (xAsk_f (by unfold fitP; first | (rw [if_pos (fa_of_nle c_3), if_pos c_8]; omega) | (rw [if_pos (fa_of_nle c_3), if_neg c_8]; exact c_25) | (rw [if_neg (sg_not hs), sg_cl hs]; rintro (z | z); exact c_44 (by rw [e9, z]; rfl); exact c_57 (by rw [e9, z]; rfl))))
      · refine x_iconst (v := 1) dX14_fits_60 (by decide) ?_
        refine x_goto 65 dX14_fits_61 (by decide) ?_
        exact x_iret dX14_fits_65 rfl rfl (Nat.le_refl _) (Nat.le_refl _) (xAsk_t (by unfold fitP; first | (rw [if_pos (fa_of_nle c_3), if_pos c_8]; omega) | (rw [if_pos (fa_of_nle c_3), if_neg c_8]; exact c_25) | (rw [if_neg (sg_not hs), sg_cl hs]; first | exact Or.inl (enT_none (hθ := hθ) (hn := hn) (hs := hs) c_44 e9) | exact Or.inr (enT_some (hθ := hθ) (hn := hn) (hs := hs) (by omega) e9 c_57))))
  · refine x_iload_n dX14_fits_6 rfl ?_
    refine x_iconst (v := (-1)) dX14_fits_7 (by decide) ?_
    refine x_icmp_ne 23 dX14_fits_8 (by decide) (fun c_8 => ?_) (fun c_8 => ?_)
    · refine x_iload_n dX14_fits_23 rfl ?_
      refine x_iload_n dX14_fits_24 rfl ?_
      refine x_icmp_ne 32 dX14_fits_25 (by decide) (fun c_25 => ?_) (fun c_25 => ?_)
      · refine x_iconst (v := 0) dX14_fits_32 (by decide) ?_
        exact x_iret dX14_fits_33 rfl rfl (Nat.le_refl _) (Nat.le_refl _) (xAsk_f (by unfold fitP; first | (rw [if_pos (fa_of_nle c_3), if_pos c_8]; omega) | (rw [if_pos (fa_of_nle c_3), if_neg c_8]; exact c_25) | (rw [if_neg (sg_not hs), sg_cl hs]; rintro (z | z); exact c_44 (by rw [e9, z]; rfl); exact c_57 (by rw [e9, z]; rfl))))
      · refine x_iconst (v := 1) dX14_fits_28 (by decide) ?_
        refine x_goto 33 dX14_fits_29 (by decide) ?_
        exact x_iret dX14_fits_33 rfl rfl (Nat.le_refl _) (Nat.le_refl _) (xAsk_t (by unfold fitP; first | (rw [if_pos (fa_of_nle c_3), if_pos c_8]; omega) | (rw [if_pos (fa_of_nle c_3), if_neg c_8]; exact c_25) | (rw [if_neg (sg_not hs), sg_cl hs]; first | exact Or.inl (enT_none (hθ := hθ) (hn := hn) (hs := hs) c_44 e9) | exact Or.inr (enT_some (hθ := hθ) (hn := hn) (hs := hs) (by omega) e9 c_57))))
    · refine x_iload_n dX14_fits_11 rfl ?_
      refine x_if_ne 19 dX14_fits_12 (by decide) (fun c_12 => ?_) (fun c_12 => ?_)
      · rw [show (0 : Int32) = nI 0 from rfl, nI_eq (by omega) (by omega)] at c_12
        refine x_iconst (v := 0) dX14_fits_19 (by decide) ?_
        refine x_goto 33 dX14_fits_20 (by decide) ?_
        exact x_iret dX14_fits_33 rfl rfl (Nat.le_refl _) (Nat.le_refl _) (xAsk_f (by unfold fitP; first | (rw [if_pos (fa_of_nle c_3), if_pos c_8]; omega) | (rw [if_pos (fa_of_nle c_3), if_neg c_8]; exact c_25) | (rw [if_neg (sg_not hs), sg_cl hs]; rintro (z | z); exact c_44 (by rw [e9, z]; rfl); exact c_57 (by rw [e9, z]; rfl))))
      · rw [show (0 : Int32) = nI 0 from rfl, nI_eq (by omega) (by omega)] at c_12
        refine x_iconst (v := 1) dX14_fits_15 (by decide) ?_
        refine x_goto 33 dX14_fits_16 (by decide) ?_
        exact x_iret dX14_fits_33 rfl rfl (Nat.le_refl _) (Nat.le_refl _) (xAsk_t (by unfold fitP; first | (rw [if_pos (fa_of_nle c_3), if_pos c_8]; omega) | (rw [if_pos (fa_of_nle c_3), if_neg c_8]; exact c_25) | (rw [if_neg (sg_not hs), sg_cl hs]; first | exact Or.inl (enT_none (hθ := hθ) (hn := hn) (hs := hs) c_44 e9) | exact Or.inr (enT_some (hθ := hθ) (hn := hn) (hs := hs) (by omega) e9 c_57))))
