/-! RuleCourt$Book: what asks -/
def okAtom (nk nt : Nat) (pc : Nat → Nat) (n : Nat) : Prop := n / 100 < nk ∧ (if 0 < pc (n / 100) then n / 10 % 10 < nt else n / 10 % 10 = 0) ∧ (if 1 < pc (n / 100) then n % 10 < nt else n % 10 = 0)
theorem okAtom_lt {nk nt : Nat} {pc : Nat → Nat} {n : Nat} (h : okAtom nk nt pc n) (hk : nk ≤ 10) : n < 1000 := by
  have := h.1
  omega
theorem nI_max {a b : Nat} (ha : a < 2 ^ 31) (hb : b < 2 ^ 31) : (if nI a < nI b then nI b else nI a) = nI (max a b) := by
  by_cases h : a < b
  · rw [if_pos ((nI_ltI ha hb).mpr h), Nat.max_eq_right (by omega)]
  · rw [if_neg (fun q => h ((nI_ltI ha hb).mp q)), Nat.max_eq_left (by omega)]
set_option maxRecDepth 100000 in
set_option maxHeartbeats 4000000 in
theorem k_X0_hasRule {G : xG} {h : xHp} {a kn tn pl ly rs rc fr : Nat} {fc : Int32} (hc : h.1 a = some (bC kn tn pl ly rs rc fr fc)) {k : Int32} : MX G mX0_hasRule 1 0 0 [.ref a, .int k] h (xAns (.int (bi (inR k rc))) h) := by
  refine MX.of [(0, .ref a), (1, .int k)] (by decide) rfl (Nat.le_of_ble_eq_true rfl) rfl ?_
  refine x_iload_n dX0_hasRule_0 rfl ?_
  refine x_if_lt 16 dX0_hasRule_1 (by decide) (fun c_1 => ?_) (fun c_1 => ?_)
  · refine x_iconst (v := 0) dX0_hasRule_16 (by decide) ?_
    exact x_iret dX0_hasRule_17 rfl rfl (Nat.le_refl _) (Nat.le_refl _) ⟨by simp [inR, bi, *], rfl⟩
  · refine x_iload_n dX0_hasRule_4 rfl ?_
    refine x_aload_n dX0_hasRule_5 rfl ?_
    refine x_get lf_X0_42 dX0_hasRule_6 hc rfl ?_
    refine x_icmp_ge 16 dX0_hasRule_9 (by decide) (fun c_9 => ?_) (fun c_9 => ?_)
    · refine x_iconst (v := 0) dX0_hasRule_16 (by decide) ?_
      exact x_iret dX0_hasRule_17 rfl rfl (Nat.le_refl _) (Nat.le_refl _) ⟨by simp [inR, bi, *], rfl⟩
    · refine x_iconst (v := 1) dX0_hasRule_12 (by decide) ?_
      refine x_goto 17 dX0_hasRule_13 (by decide) ?_
      exact x_iret dX0_hasRule_17 rfl rfl (Nat.le_refl _) (Nat.le_refl _) ⟨by simp [inR, bi, *], rfl⟩
set_option maxRecDepth 100000 in
set_option maxHeartbeats 4000000 in
theorem k_X0_hasAtom {G : xG} {h : xHp} {a kn tn pl ly rs rc fr : Nat} {fc : Int32} (hc : h.1 a = some (bC kn tn pl ly rs rc fr fc)) {nk nt wk wt : Nat} {pf : Nat → Int32} {pc : Nat → Nat} {x : Int32} (hk : h.1 kn = some (.inr (6, [.ref wk, .int (nI nk)]))) (ht : h.1 tn = some (.inr (6, [.ref wt, .int (nI nt)]))) (hp : h.1 pl = some (.inl (0, 10, .inl pf))) (hpc : ∀ k, k < nk → pf k = nI (pc k) ∧ pc k < 3) (hnk : nk ≤ 10) (hnt : nt ≤ 10) : MX G mX0_hasAtom 2 0 0 [.ref a, .int x] h (xAsk (∃ n, x = nI n ∧ n < 2 ^ 31 ∧ okAtom nk nt pc n) h) := by
  refine MX.of [(0, .ref a), (1, .int x)] (by decide) rfl (Nat.le_of_ble_eq_true rfl) rfl ?_
  refine x_iload_n dX0_hasAtom_0 rfl ?_
  refine x_if_lt 18 dX0_hasAtom_1 (by decide) (fun c_1 => ?_) (fun c_1 => ?_)
  · refine x_iconst (v := 0) dX0_hasAtom_18 (by decide) ?_
    exact x_iret dX0_hasAtom_19 rfl rfl (Nat.le_refl _) (Nat.le_refl _) (xAsk_f (by first | (rintro ⟨n, rfl, hn, -⟩; exact nI_pos hn c_1) | (rintro ⟨m, e, hm, q⟩; have e := (nI_eq (by omega) (by omega)).mp e; subst e; have q1 := q.1; first | omega | (have q2 := q.2.1; first | (rw [if_pos (by omega)] at q2; omega) | (rw [if_neg (by omega)] at q2; omega)) | (have q3 := q.2.2; first | (rw [if_pos (by omega)] at q3; omega) | (rw [if_neg (by omega)] at q3; omega)))))
  · obtain ⟨n, hn, rfl⟩ := nI_of c_1
    refine x_aload_n dX0_hasAtom_4 rfl ?_
    refine x_get lf_X0_12 dX0_hasAtom_5 hc rfl ?_
    refine x_iload_n dX0_hasAtom_8 rfl ?_
    refine x_bipush (v := 100) dX0_hasAtom_9 (by decide) ?_
    refine x_idiv dX0_hasAtom_11 (by decide) ?_
    refine x_top (y := nI (n / 100)) (pk_div (a := n) (d := 100) (by omega) (by omega) (by omega)) ?_
    refine x_callV (As := [.int (nI (n / 100))]) (st := []) lv_X0_46 (k_X6_has hk) dX0_hasAtom_12 hk rfl rfl (Nat.le_of_ble_eq_true rfl) ⟨by decide, by decide⟩ ⟨by decide, by decide⟩ (fun v h1 q => ?_) (fun _ _ _ _ _ q => by cases q.1)
    obtain ⟨ev, rfl⟩ := q
    cases ev
    refine x_if_ne 20 dX0_hasAtom_15 (by decide) (fun c_15 => ?_) (fun c_15 => ?_)
    · have hlt : n / 100 < nk := by have z := bi_t c_15; rw [inR_nI (by omega) (by omega)] at z; simpa using z
      obtain ⟨hp1, hp2⟩ := hpc _ hlt
      refine x_aload_n dX0_hasAtom_20 rfl ?_
      refine x_get lf_X0_21 dX0_hasAtom_21 hc rfl ?_
      refine x_iload_n dX0_hasAtom_24 rfl ?_
      refine x_bipush (v := 100) dX0_hasAtom_25 (by decide) ?_
      refine x_idiv dX0_hasAtom_27 (by decide) ?_
      refine x_top (y := nI (n / 100)) (pk_div (a := n) (d := 100) (by omega) (by omega) (by omega)) ?_
      refine x_ialdN (j := n / 100) hp rfl (by omega) (by decide) dX0_hasAtom_28 ?_
      refine x_top hp1 ?_
      refine x_istore_n [(0, .ref a), (1, .int (nI n)), (2, .int (nI (pc (n / 100))))] dX0_hasAtom_29 (by decide) rfl rfl ?_
      refine x_iload_n dX0_hasAtom_30 rfl ?_
      refine x_bipush (v := 10) dX0_hasAtom_31 (by decide) ?_
      refine x_idiv dX0_hasAtom_33 (by decide) ?_
      refine x_top (y := nI (n / 10)) (pk_div (a := n) (d := 10) (by omega) (by omega) (by omega)) ?_
      refine x_bipush (v := 10) dX0_hasAtom_34 (by decide) ?_
      refine x_irem dX0_hasAtom_36 (by decide) ?_
      refine x_top (y := nI ((n / 10) % 10)) (pk_rem (a := n / 10) (d := 10) (by omega) (by omega) (by omega)) ?_
      refine x_istore_n [(0, .ref a), (1, .int (nI n)), (2, .int (nI (pc (n / 100)))), (3, .int (nI ((n / 10) % 10)))] dX0_hasAtom_37 (by decide) rfl rfl ?_
      refine x_iload_n dX0_hasAtom_38 rfl ?_
      refine x_bipush (v := 10) dX0_hasAtom_39 (by decide) ?_
      refine x_irem dX0_hasAtom_41 (by decide) ?_
      refine x_top (y := nI (n % 10)) (pk_rem (a := n) (d := 10) (by omega) (by omega) (by omega)) ?_
      refine x_istore [(0, .ref a), (1, .int (nI n)), (2, .int (nI (pc (n / 100)))), (3, .int (nI ((n / 10) % 10))), (4, .int (nI (n % 10)))] dX0_hasAtom_42 (by decide) rfl rfl ?_
      refine x_iload_n dX0_hasAtom_44 rfl ?_
      refine x_if_le 62 dX0_hasAtom_45 (by decide) (fun c_45 => ?_) (fun c_45 => ?_)
      · rw [show (0 : Int32) = nI 0 from rfl, nI_leI (by omega) (by omega)] at c_45
        refine x_iload_n dX0_hasAtom_62 rfl ?_
        refine x_if_ne 95 dX0_hasAtom_63 (by decide) (fun c_63 => ?_) (fun c_63 => ?_)
        · rw [show (0 : Int32) = nI 0 from rfl, nI_eq (by omega) (by omega)] at c_63
          refine x_iconst (v := 0) dX0_hasAtom_95 (by decide) ?_
          exact x_iret dX0_hasAtom_96 rfl rfl (Nat.le_refl _) (Nat.le_refl _) (xAsk_f (by first | (rintro ⟨n, rfl, hn, -⟩; exact nI_pos hn c_1) | (rintro ⟨m, e, hm, q⟩; have e := (nI_eq (by omega) (by omega)).mp e; subst e; have q1 := q.1; first | omega | (have q2 := q.2.1; first | (rw [if_pos (by omega)] at q2; omega) | (rw [if_neg (by omega)] at q2; omega)) | (have q3 := q.2.2; first | (rw [if_pos (by omega)] at q3; omega) | (rw [if_neg (by omega)] at q3; omega)))))
        · rw [show (0 : Int32) = nI 0 from rfl, nI_eq (by omega) (by omega)] at c_63
          refine x_iload_n dX0_hasAtom_66 rfl ?_
          refine x_iconst (v := 1) dX0_hasAtom_67 (by decide) ?_
          refine x_icmp_le 86 dX0_hasAtom_68 (by decide) (fun c_68 => ?_) (fun c_68 => ?_)
          · rw [show (1 : Int32) = nI 1 from rfl, nI_leI (by omega) (by omega)] at c_68
            refine x_iload dX0_hasAtom_86 rfl ?_
            refine x_if_ne 95 dX0_hasAtom_88 (by decide) (fun c_88 => ?_) (fun c_88 => ?_)
            · rw [show (0 : Int32) = nI 0 from rfl, nI_eq (by omega) (by omega)] at c_88
              refine x_iconst (v := 0) dX0_hasAtom_95 (by decide) ?_
              exact x_iret dX0_hasAtom_96 rfl rfl (Nat.le_refl _) (Nat.le_refl _) (xAsk_f (by first | (rintro ⟨n, rfl, hn, -⟩; exact nI_pos hn c_1) | (rintro ⟨m, e, hm, q⟩; have e := (nI_eq (by omega) (by omega)).mp e; subst e; have q1 := q.1; first | omega | (have q2 := q.2.1; first | (rw [if_pos (by omega)] at q2; omega) | (rw [if_neg (by omega)] at q2; omega)) | (have q3 := q.2.2; first | (rw [if_pos (by omega)] at q3; omega) | (rw [if_neg (by omega)] at q3; omega)))))
            · rw [show (0 : Int32) = nI 0 from rfl, nI_eq (by omega) (by omega)] at c_88
              refine x_iconst (v := 1) dX0_hasAtom_91 (by decide) ?_
              refine x_goto 96 dX0_hasAtom_92 (by decide) ?_
              exact x_iret dX0_hasAtom_96 rfl rfl (Nat.le_refl _) (Nat.le_refl _) (xAsk_t ⟨n, rfl, hn, hlt, by first | (rw [if_pos (by omega)]; omega) | (rw [if_neg (by omega)]; omega), by first | (rw [if_pos (by omega)]; omega) | (rw [if_neg (by omega)]; omega)⟩)
          · rw [show (1 : Int32) = nI 1 from rfl, nI_leI (by omega) (by omega)] at c_68
            refine x_iload dX0_hasAtom_71 rfl ?_
            refine x_aload_n dX0_hasAtom_73 rfl ?_
            refine x_get lf_X0_18 dX0_hasAtom_74 hc rfl ?_
            refine x_get lf_X0_50 dX0_hasAtom_77 ht rfl ?_
            refine x_icmp_ge 95 dX0_hasAtom_80 (by decide) (fun c_80 => ?_) (fun c_80 => ?_)
            · rw [nI_leI (by omega) (by omega)] at c_80
              refine x_iconst (v := 0) dX0_hasAtom_95 (by decide) ?_
              exact x_iret dX0_hasAtom_96 rfl rfl (Nat.le_refl _) (Nat.le_refl _) (xAsk_f (by first | (rintro ⟨n, rfl, hn, -⟩; exact nI_pos hn c_1) | (rintro ⟨m, e, hm, q⟩; have e := (nI_eq (by omega) (by omega)).mp e; subst e; have q1 := q.1; first | omega | (have q2 := q.2.1; first | (rw [if_pos (by omega)] at q2; omega) | (rw [if_neg (by omega)] at q2; omega)) | (have q3 := q.2.2; first | (rw [if_pos (by omega)] at q3; omega) | (rw [if_neg (by omega)] at q3; omega)))))
            · rw [nI_leI (by omega) (by omega)] at c_80
              refine x_goto 91 dX0_hasAtom_83 (by decide) ?_
              refine x_iconst (v := 1) dX0_hasAtom_91 (by decide) ?_
              refine x_goto 96 dX0_hasAtom_92 (by decide) ?_
              exact x_iret dX0_hasAtom_96 rfl rfl (Nat.le_refl _) (Nat.le_refl _) (xAsk_t ⟨n, rfl, hn, hlt, by first | (rw [if_pos (by omega)]; omega) | (rw [if_neg (by omega)]; omega), by first | (rw [if_pos (by omega)]; omega) | (rw [if_neg (by omega)]; omega)⟩)
      · rw [show (0 : Int32) = nI 0 from rfl, nI_leI (by omega) (by omega)] at c_45
        refine x_iload_n dX0_hasAtom_48 rfl ?_
        refine x_aload_n dX0_hasAtom_49 rfl ?_
        refine x_get lf_X0_18 dX0_hasAtom_50 hc rfl ?_
        refine x_get lf_X0_50 dX0_hasAtom_53 ht rfl ?_
        refine x_icmp_ge 95 dX0_hasAtom_56 (by decide) (fun c_56 => ?_) (fun c_56 => ?_)
        · rw [nI_leI (by omega) (by omega)] at c_56
          refine x_iconst (v := 0) dX0_hasAtom_95 (by decide) ?_
          exact x_iret dX0_hasAtom_96 rfl rfl (Nat.le_refl _) (Nat.le_refl _) (xAsk_f (by first | (rintro ⟨n, rfl, hn, -⟩; exact nI_pos hn c_1) | (rintro ⟨m, e, hm, q⟩; have e := (nI_eq (by omega) (by omega)).mp e; subst e; have q1 := q.1; first | omega | (have q2 := q.2.1; first | (rw [if_pos (by omega)] at q2; omega) | (rw [if_neg (by omega)] at q2; omega)) | (have q3 := q.2.2; first | (rw [if_pos (by omega)] at q3; omega) | (rw [if_neg (by omega)] at q3; omega)))))
        · rw [nI_leI (by omega) (by omega)] at c_56
          refine x_goto 66 dX0_hasAtom_59 (by decide) ?_
          refine x_iload_n dX0_hasAtom_66 rfl ?_
          refine x_iconst (v := 1) dX0_hasAtom_67 (by decide) ?_
          refine x_icmp_le 86 dX0_hasAtom_68 (by decide) (fun c_68 => ?_) (fun c_68 => ?_)
          · rw [show (1 : Int32) = nI 1 from rfl, nI_leI (by omega) (by omega)] at c_68
            refine x_iload dX0_hasAtom_86 rfl ?_
            refine x_if_ne 95 dX0_hasAtom_88 (by decide) (fun c_88 => ?_) (fun c_88 => ?_)
            · rw [show (0 : Int32) = nI 0 from rfl, nI_eq (by omega) (by omega)] at c_88
              refine x_iconst (v := 0) dX0_hasAtom_95 (by decide) ?_
              exact x_iret dX0_hasAtom_96 rfl rfl (Nat.le_refl _) (Nat.le_refl _) (xAsk_f (by first | (rintro ⟨n, rfl, hn, -⟩; exact nI_pos hn c_1) | (rintro ⟨m, e, hm, q⟩; have e := (nI_eq (by omega) (by omega)).mp e; subst e; have q1 := q.1; first | omega | (have q2 := q.2.1; first | (rw [if_pos (by omega)] at q2; omega) | (rw [if_neg (by omega)] at q2; omega)) | (have q3 := q.2.2; first | (rw [if_pos (by omega)] at q3; omega) | (rw [if_neg (by omega)] at q3; omega)))))
            · rw [show (0 : Int32) = nI 0 from rfl, nI_eq (by omega) (by omega)] at c_88
              refine x_iconst (v := 1) dX0_hasAtom_91 (by decide) ?_
              refine x_goto 96 dX0_hasAtom_92 (by decide) ?_
              exact x_iret dX0_hasAtom_96 rfl rfl (Nat.le_refl _) (Nat.le_refl _) (xAsk_t ⟨n, rfl, hn, hlt, by first | (rw [if_pos (by omega)]; omega) | (rw [if_neg (by omega)]; omega), by first | (rw [if_pos (by omega)]; omega) | (rw [if_neg (by omega)]; omega)⟩)
          · rw [show (1 : Int32) = nI 1 from rfl, nI_leI (by omega) (by omega)] at c_68
            refine x_iload dX0_hasAtom_71 rfl ?_
            refine x_aload_n dX0_hasAtom_73 rfl ?_
            refine x_get lf_X0_18 dX0_hasAtom_74 hc rfl ?_
            refine x_get lf_X0_50 dX0_hasAtom_77 ht rfl ?_
            refine x_icmp_ge 95 dX0_hasAtom_80 (by decide) (fun c_80 => ?_) (fun c_80 => ?_)
            · rw [nI_leI (by omega) (by omega)] at c_80
              refine x_iconst (v := 0) dX0_hasAtom_95 (by decide) ?_
              exact x_iret dX0_hasAtom_96 rfl rfl (Nat.le_refl _) (Nat.le_refl _) (xAsk_f (by first | (rintro ⟨n, rfl, hn, -⟩; exact nI_pos hn c_1) | (rintro ⟨m, e, hm, q⟩; have e := (nI_eq (by omega) (by omega)).mp e; subst e; have q1 := q.1; first | omega | (have q2 := q.2.1; first | (rw [if_pos (by omega)] at q2; omega) | (rw [if_neg (by omega)] at q2; omega)) | (have q3 := q.2.2; first | (rw [if_pos (by omega)] at q3; omega) | (rw [if_neg (by omega)] at q3; omega)))))
            · rw [nI_leI (by omega) (by omega)] at c_80
              refine x_goto 91 dX0_hasAtom_83 (by decide) ?_
              refine x_iconst (v := 1) dX0_hasAtom_91 (by decide) ?_
              refine x_goto 96 dX0_hasAtom_92 (by decide) ?_
              exact x_iret dX0_hasAtom_96 rfl rfl (Nat.le_refl _) (Nat.le_refl _) (xAsk_t ⟨n, rfl, hn, hlt, by first | (rw [if_pos (by omega)]; omega) | (rw [if_neg (by omega)]; omega), by first | (rw [if_pos (by omega)]; omega) | (rw [if_neg (by omega)]; omega)⟩)
    · have hno : nk ≤ n / 100 := by have z := bi_f c_15; rw [inR_nI (by omega) (by omega)] at z; simpa using z
      refine x_iconst (v := 0) dX0_hasAtom_18 (by decide) ?_
      exact x_iret dX0_hasAtom_19 rfl rfl (Nat.le_refl _) (Nat.le_refl _) (xAsk_f (by first | (rintro ⟨n, rfl, hn, -⟩; exact nI_pos hn c_1) | (rintro ⟨m, e, hm, q⟩; have e := (nI_eq (by omega) (by omega)).mp e; subst e; have q1 := q.1; first | omega | (have q2 := q.2.1; first | (rw [if_pos (by omega)] at q2; omega) | (rw [if_neg (by omega)] at q2; omega)) | (have q3 := q.2.2; first | (rw [if_pos (by omega)] at q3; omega) | (rw [if_neg (by omega)] at q3; omega)))))
set_option maxRecDepth 100000 in
set_option maxHeartbeats 4000000 in
theorem k_X0_isFact {G : xG} {h : xHp} {a kn tn pl ly rs rc fr : Nat} {fc : Int32} (hc : h.1 a = some (bC kn tn pl ly rs rc fr fc)) {n : Nat} {f : Nat → Int32} {S : Nat → Bool} (hf : h.1 fr = some (.inl (0, 100, .inl f))) (hS : isRows f S) (hn : n < 1000) : MX G mX0_isFact 1 0 0 [.ref a, .int (nI n)] h (xAns (.int (bi (S n))) h) := by
  refine MX.of [(0, .ref a), (1, .int (nI n))] (by decide) rfl (Nat.le_of_ble_eq_true rfl) rfl ?_
  refine x_aload_n dX0_isFact_0 rfl ?_
  refine x_get lf_X0_38 dX0_isFact_1 hc rfl ?_
  refine x_iload_n dX0_isFact_4 rfl ?_
  refine x_bipush (v := 10) dX0_isFact_5 (by decide) ?_
  refine x_idiv dX0_isFact_7 (by decide) ?_
  refine x_top (y := nI (n / 10)) (pk_div (a := n) (d := 10) (by omega) (by omega) (by omega)) ?_
  refine x_ialdN (j := n / 10) hf rfl (by omega) (by decide) dX0_isFact_8 ?_
  refine x_iload_n dX0_isFact_9 rfl ?_
  refine x_bipush (v := 10) dX0_isFact_10 (by decide) ?_
  refine x_irem dX0_isFact_12 (by decide) ?_
  refine x_top (y := nI (n % 10)) (pk_rem (a := n) (d := 10) (by omega) (by omega) (by omega)) ?_
  refine x_ishr dX0_isFact_13 ?_
  refine x_iconst (v := 1) dX0_isFact_14 (by decide) ?_
  refine x_iand dX0_isFact_15 ?_
  refine x_top (isRows_get hS hn) ?_
  refine x_if_eq 23 dX0_isFact_16 (by decide) (fun c_16 => ?_) (fun c_16 => ?_)
  · have c_16 := bi_f c_16
    refine x_iconst (v := 0) dX0_isFact_23 (by decide) ?_
    exact x_iret dX0_isFact_24 rfl rfl (Nat.le_refl _) (Nat.le_refl _) ⟨by rw [c_16]; rfl, rfl⟩
  · have c_16 := bi_t c_16
    refine x_iconst (v := 1) dX0_isFact_19 (by decide) ?_
    refine x_goto 24 dX0_isFact_20 (by decide) ?_
    exact x_iret dX0_isFact_24 rfl rfl (Nat.le_refl _) (Nat.le_refl _) ⟨by rw [c_16]; rfl, rfl⟩
def sf_Q (a kn tn pl ly rs rc fr n : Nat) (f : Nat → Int32) (S : Nat → Bool) (fc : Int32) (v : Bool) (h : xHp) : Option Value ⊕ Nat → xHp → Prop := fun o h' =>
  (S n = v ∧ o = .inl (some (.int 0)) ∧ h' = h) ∨ (S n = !v ∧ o = .inl (some (.int 1)) ∧ h' = xup (xup h fr (.inl (0, 100, .inl (fRow f n)))) a (bC kn tn pl ly rs rc fr (fc + if v then 1 else -1)))
set_option maxRecDepth 100000 in
set_option maxHeartbeats 4000000 in
theorem k_X0_setFact {G : xG} {h : xHp} {a kn tn pl ly rs rc fr : Nat} {fc : Int32} (hc : h.1 a = some (bC kn tn pl ly rs rc fr fc)) {n : Nat} {f : Nat → Int32} {S : Nat → Bool} (hf : h.1 fr = some (.inl (0, 100, .inl f))) (hS : isRows f S) (hn : n < 1000) {v : Bool} : MX G mX0_setFact 2 0 0 [.ref a, .int (nI n), .int (bi v)] h (sf_Q a kn tn pl ly rs rc fr n f S fc v h) := by
  refine MX.of [(0, .ref a), (1, .int (nI n)), (2, .int (bi v))] (by decide) rfl (Nat.le_of_ble_eq_true rfl) rfl ?_
  refine x_aload_n dX0_setFact_0 rfl ?_
  refine x_iload_n dX0_setFact_1 rfl ?_
  refine x_callV (As := [.int (nI n)]) (st := []) lv_X0_53 (k_X0_isFact hc hf hS hn) dX0_setFact_2 hc rfl rfl (Nat.le_of_ble_eq_true rfl) ⟨by decide, by decide⟩ ⟨by decide, by decide⟩ (fun v h1 q => ?_) (fun _ _ _ _ _ q => by cases q.1)
  obtain ⟨ev, rfl⟩ := q
  cases ev
  refine x_iload_n dX0_setFact_5 rfl ?_
  refine x_icmp_ne 11 dX0_setFact_6 (by decide) (fun c_6 => ?_) (fun c_6 => ?_)
  · rw [bi_inj] at c_6
    refine x_aload_n dX0_setFact_11 rfl ?_
    refine x_get lf_X0_38 dX0_setFact_12 hc rfl ?_
    refine x_iload_n dX0_setFact_15 rfl ?_
    refine x_bipush (v := 10) dX0_setFact_16 (by decide) ?_
    refine x_idiv dX0_setFact_18 (by decide) ?_
    refine x_top (y := nI (n / 10)) (pk_div (a := n) (d := 10) (by omega) (by omega) (by omega)) ?_
    refine x_dup2 dX0_setFact_19 rfl rfl ?_
    refine x_ialdN (j := n / 10) hf rfl (by omega) (by decide) dX0_setFact_20 ?_
    refine x_iconst (v := 1) dX0_setFact_21 (by decide) ?_
    refine x_iload_n dX0_setFact_22 rfl ?_
    refine x_bipush (v := 10) dX0_setFact_23 (by decide) ?_
    refine x_irem dX0_setFact_25 (by decide) ?_
    refine x_top (y := nI (n % 10)) (pk_rem (a := n) (d := 10) (by omega) (by omega) (by omega)) ?_
    refine x_ishl dX0_setFact_26 ?_
    refine x_ixor dX0_setFact_27 ?_
    refine x_iastN (j := n / 10) hf rfl (by omega) (by decide) dX0_setFact_28 ?_
    refine x_aload_n dX0_setFact_29 rfl ?_
    refine x_dup dX0_setFact_30 rfl ?_
    refine x_get lf_X0_56 dX0_setFact_31 ((xup_ne (xne_oa hc hf)).trans hc) rfl ?_
    refine x_iload_n dX0_setFact_34 rfl ?_
    refine x_if_eq 42 dX0_setFact_35 (by decide) (fun c_35 => ?_) (fun c_35 => ?_)
    · have c_35 := bi_f c_35
      refine x_iconst (v := (-1)) dX0_setFact_42 (by decide) ?_
      refine x_iadd dX0_setFact_43 ?_
      refine x_put [.ref kn, .ref tn, .ref pl, .ref ly, .ref rs, .int (nI rc), .ref fr, .int (fc + (-1))] lf_X0_56 dX0_setFact_44 ((xup_ne (xne_oa hc hf)).trans hc) (Nat.le_of_ble_eq_true rfl) rfl rfl rfl ?_
      refine x_iconst (v := 1) dX0_setFact_47 (by decide) ?_
      exact x_iret dX0_setFact_48 rfl rfl (Nat.le_refl _) (Nat.le_refl _) (Or.inr ⟨by revert c_6; rw [c_35]; cases S n <;> simp, rfl, by rw [c_35]; rfl⟩)
    · have c_35 := bi_t c_35
      refine x_iconst (v := 1) dX0_setFact_38 (by decide) ?_
      refine x_goto 43 dX0_setFact_39 (by decide) ?_
      refine x_iadd dX0_setFact_43 ?_
      refine x_put [.ref kn, .ref tn, .ref pl, .ref ly, .ref rs, .int (nI rc), .ref fr, .int (fc + 1)] lf_X0_56 dX0_setFact_44 ((xup_ne (xne_oa hc hf)).trans hc) (Nat.le_of_ble_eq_true rfl) rfl rfl rfl ?_
      refine x_iconst (v := 1) dX0_setFact_47 (by decide) ?_
      exact x_iret dX0_setFact_48 rfl rfl (Nat.le_refl _) (Nat.le_refl _) (Or.inr ⟨by revert c_6; rw [c_35]; cases S n <;> simp, rfl, by rw [c_35]; rfl⟩)
  · rw [bi_inj] at c_6
    refine x_iconst (v := 0) dX0_setFact_9 (by decide) ?_
    exact x_iret dX0_setFact_10 rfl rfl (Nat.le_refl _) (Nat.le_refl _) (Or.inl ⟨c_6, rfl, rfl⟩)
def lcnt (L : Nat → Nat) : Nat → Nat
  | 0 => 0
  | k + 1 => max (lcnt L k) (L k + 1)
theorem lcnt_lt {L : Nat → Nat} {B : Nat} (h : ∀ k, L k < B) : ∀ n, lcnt L n ≤ B
  | 0 => Nat.zero_le _
  | n + 1 => by
    have h1 := lcnt_lt h n
    have h2 := h n
    show max (lcnt L n) (L n + 1) ≤ B
    omega
set_option maxRecDepth 100000 in
set_option maxHeartbeats 4000000 in
theorem l_X0_layerCount {G : xG} {h : xHp} {a kn tn pl ly rs rc fr : Nat} {fc : Int32} (hc : h.1 a = some (bC kn tn pl ly rs rc fr fc)) {nk wk ofs : Nat} {lf : Nat → Int32} {L : Nat → Nat} (hk : h.1 kn = some (.inr (6, [.ref wk, .int (nI nk)]))) (hl : h.1 ly = some (.inr (4, [.ref ofs]))) (ho : h.1 ofs = some (.inl (0, 10, .inl lf))) (hL : ∀ k, k < 10 → lf k = nI (L k)) (hB : ∀ k, L k < 100) (hnk : nk ≤ 10) : ∀ (k i : Nat), i ≤ nk → nk + 1 ≤ i + k → Wx G mX0_layerCount (xRm 1 0 0) (xF G (xAns (.int (nI (lcnt L nk))) h) 0 0) 0 0 4 [(0, .ref a), (1, .int (nI (lcnt L i))), (2, .int (nI i))] [] h := by
  intro k
  induction k with
  | zero => exact fun i h1 h2 => absurd h2 (by omega)
  | succ k ih =>
    intro i hk1 hk2
    refine x_iload_n dX0_layerCount_4 rfl ?_
    refine x_aload_n dX0_layerCount_5 rfl ?_
    refine x_get lf_X0_12 dX0_layerCount_6 hc rfl ?_
    refine x_get lf_X0_50 dX0_layerCount_9 hk rfl ?_
    refine x_icmp_ge 37 dX0_layerCount_12 (by decide) (fun c_12 => ?_) (fun c_12 => ?_)
    · rw [nI_leI (by omega) (by omega)] at c_12
      refine x_iload_n dX0_layerCount_37 rfl ?_
      exact x_iret dX0_layerCount_38 rfl rfl (Nat.le_refl _) (Nat.le_refl _) ⟨by rw [show i = nk by omega], rfl⟩
    · rw [nI_leI (by omega) (by omega)] at c_12
      have hb1 := hB i
      have hb2 := lcnt_lt hB i
      refine x_iload_n dX0_layerCount_15 rfl ?_
      refine x_aload_n dX0_layerCount_16 rfl ?_
      refine x_get lf_X0_28 dX0_layerCount_17 hc rfl ?_
      refine x_get lf_X0_63 dX0_layerCount_20 hl rfl ?_
      refine x_iload_n dX0_layerCount_23 rfl ?_
      refine x_ialdN (j := i) ho rfl (by omega) (by decide) dX0_layerCount_24 ?_
      refine x_top (hL i (by omega)) ?_
      refine x_iconst (v := 1) dX0_layerCount_25 (by decide) ?_
      refine x_iadd dX0_layerCount_26 ?_
      refine x_top (y := nI ((L i) + 1)) (nI_add (L i) 1) ?_
      refine x_max ml_X0_66 mx_s in_Math mx_c dX0_layerCount_27 (Nat.le_of_ble_eq_true rfl) (Nat.le_of_ble_eq_true rfl) ⟨Nat.le_of_ble_eq_true rfl, Nat.le_of_ble_eq_true rfl⟩ ?_
      refine x_top (nI_max (by omega) (by omega)) ?_
      refine x_istore_n [(0, .ref a), (1, .int (nI (lcnt L (i + 1)))), (2, .int (nI i))] dX0_layerCount_30 (by decide) rfl rfl ?_
      refine x_iinc (v := nI (i + 1)) [(0, .ref a), (1, .int (nI (lcnt L (i + 1)))), (2, .int (nI (i + 1)))] dX0_layerCount_31 rfl (nI_add i 1) (by decide) rfl rfl ?_
      refine x_goto 4 dX0_layerCount_34 (by decide) ?_
      exact ih (i + 1) (by omega) (by omega)
set_option maxRecDepth 100000 in
set_option maxHeartbeats 4000000 in
theorem k_X0_layerCount {G : xG} {h : xHp} {a kn tn pl ly rs rc fr : Nat} {fc : Int32} (hc : h.1 a = some (bC kn tn pl ly rs rc fr fc)) {nk wk ofs : Nat} {lf : Nat → Int32} {L : Nat → Nat} (hk : h.1 kn = some (.inr (6, [.ref wk, .int (nI nk)]))) (hl : h.1 ly = some (.inr (4, [.ref ofs]))) (ho : h.1 ofs = some (.inl (0, 10, .inl lf))) (hL : ∀ k, k < 10 → lf k = nI (L k)) (hB : ∀ k, L k < 100) (hnk : nk ≤ 10) : MX G mX0_layerCount 1 0 0 [.ref a] h (xAns (.int (nI (lcnt L nk))) h) := by
  refine MX.of [(0, .ref a)] (by decide) rfl (Nat.le_of_ble_eq_true rfl) rfl ?_
  refine x_iconst (v := 0) dX0_layerCount_0 (by decide) ?_
  refine x_istore_n [(0, .ref a), (1, .int 0)] dX0_layerCount_1 (by decide) rfl rfl ?_
  refine x_iconst (v := 0) dX0_layerCount_2 (by decide) ?_
  refine x_istore_n [(0, .ref a), (1, .int 0), (2, .int 0)] dX0_layerCount_3 (by decide) rfl rfl ?_
  exact l_X0_layerCount hc hk hl ho hL hB hnk (nk + 1) 0 (by omega) (by omega)
