/-! the reference: atom -/
theorem i32_09 {x : Int32} : (0 ≤ x ∧ x ≤ 9) ↔ inR x 10 = true := by
  have e0 : (0 : Int32).toInt = 0 := by decide
  have e9 : (9 : Int32).toInt = 9 := by decide
  have e10 : (nI 10).toInt = 10 := by decide
  simp only [inR, Bool.and_eq_true, decide_eq_true_eq, Int32.lt_iff_toInt_lt, Int32.le_iff_toInt_le, e0, e9, e10]
  omega
theorem at_no {nk nt : Nat} {pc : Nat → Nat} {kd fs sc : Int32} (hn : nt ≤ 10) (hnk : nk ≤ 10) (h : inR kd nk = false ∨ ¬ (0 ≤ fs ∧ fs ≤ 9) ∨ ¬ (0 ≤ sc ∧ sc ≤ 9)) : ¬ ∃ k a b, atS nk nt pc kd fs sc k a b := by
  rintro ⟨k, a, b, h1, h2, h3, h4, h5, h6, h7, h8⟩
  have ha : a < 10 := by
    split at h7 <;> omega
  have hb : b < 10 := by
    split at h8 <;> omega
  rcases h with z | z | z
  · exact inR_f z (by omega) k h1 h2
  · exact z (i32_09.mpr (by rw [h4, inR_nI h3 (by omega)]; simpa using ha))
  · exact z (i32_09.mpr (by rw [h6, inR_nI h5 (by omega)]; simpa using hb))
theorem at_ok {nk nt : Nat} {pc : Nat → Nat} {k a b : Nat} (hk : k < nk) (ha : a < 10) (hb : b < 10) : okAtom nk nt pc (100 * k + 10 * a + b) ↔ okAt3 nt (pc k) a b := by
  unfold okAtom okAt3
  rw [show (100 * k + 10 * a + b) / 100 = k by omega, show (100 * k + 10 * a + b) / 10 % 10 = a by omega, show (100 * k + 10 * a + b) % 10 = b by omega]
  exact ⟨fun z => z.2, fun z => ⟨hk, z⟩⟩
theorem at_yes {nk nt : Nat} {pc : Nat → Nat} {kd fs sc : Int32} {k a b : Nat} (hk : k < nk) (ek : kd = nI k) (ha : a < 10) (ea : fs = nI a) (hb : b < 10) (eb : sc = nI b) (hnk : nk ≤ 10) {b9 : Bool} (h : b9 = true ↔ ∃ n, nI (100 * k + 10 * a + b) = nI n ∧ n < 2 ^ 31 ∧ okAtom nk nt pc n) : atQ nk nt pc kd fs sc (if b9 = true then nI (100 * k + 10 * a + b) else -1) := by
  have h2 : b9 = true ↔ okAt3 nt (pc k) a b := by
    rw [h, ← at_ok hk ha hb]
    constructor
    · rintro ⟨n, e, hn, ho⟩
      rw [(nI_eq (by omega) hn).mp e]; exact ho
    · exact fun z => ⟨_, rfl, by omega, z⟩
  by_cases z : b9 = true
  · rw [if_pos z]
    exact Or.inl ⟨k, a, b, ⟨hk, ek, by omega, ea, by omega, eb, h2.mp z⟩, by congr 1; omega⟩
  · rw [if_neg z]
    refine Or.inr ⟨?_, rfl⟩
    rintro ⟨k', a', b', h1, e2, h3, e4, h5, e6, h7⟩
    have q1 : k = k' := (nI_eq (by omega) (by omega)).mp (ek.symm.trans e2)
    have q2 : a = a' := (nI_eq (by omega) h3).mp (ea.symm.trans e4)
    have q3 : b = b' := (nI_eq (by omega) h5).mp (eb.symm.trans e6)
    subst q1; subst q2; subst q3
    exact z (h2.mpr h7)
set_option maxRecDepth 100000 in
set_option maxHeartbeats 4000000 in
theorem k_X14_atom {G : xG} {h : xHp} {g : Nat → Int32} {w : Int64} {nw : Value} {ar : Nat → Nat → Int32} {tw : Nat → Int64} {kw : Nat → Int64} {rf : Nat → Option Nat} (M : MH h g w nw ar tw kw rf) {nk nt : Nat} {pc : Nat → Nat} (h4 : g 4 = nI nt) (h5 : g 5 = nI nk) (hnk : nk ≤ 10) (hn : nt ≤ 10) (hpc : ∀ k, k < nk → ar 210 k = nI (pc k) ∧ pc k < 3) {kd fs sc : Int32} : MX G mX14_atom 2 0 0 [.ref 205, .int kd, .int fs, .int sc] h (fun o h' => ∃ r, o = .inl (some (.int r)) ∧ yfr h h' ∧ MH h' (upd g 0 0) w nw ar tw kw rf ∧ atQ nk nt pc kd fs sc r) := by
  refine MX.of [(0, .ref 205), (1, .int kd), (2, .int fs), (3, .int sc)] (by decide) rfl (Nat.le_of_ble_eq_true rfl) rfl ?_
  refine x_aload_n dX14_atom_0 rfl ?_
  refine x_iconst (v := 0) dX14_atom_1 (by decide) ?_
  refine x_put (mL (upd g 0 0) w nw) lf_X14_84 dX14_atom_2 M.o (Nat.le_of_ble_eq_true rfl) rfl rfl rfl ?_
  refine x_aload_n dX14_atom_5 rfl ?_
  refine x_iload_n dX14_atom_6 rfl ?_
  refine x_callV (As := [.int kd]) (st := []) lv_X14_232 (k_X14_isKind (M.g9 (upd g 0 0) w nw) ((upd_nq (by decide)).trans h5)) dX14_atom_7 (xup_self _ _ _) rfl rfl (Nat.le_of_ble_eq_true rfl) ⟨by decide, by decide⟩ ⟨by decide, by decide⟩ (fun v9 h9 z => ?_) (fun _ _ _ _ _ z => by cases z.1)
  obtain ⟨ev, eh⟩ := z
  rw [eh]
  cases ev
  refine x_if_eq 33 dX14_atom_10 (by decide) (fun c_10 => ?_) (fun c_10 => ?_)
  · have c_10 := bi_f c_10
    refine x_iconst (v := (-1)) dX14_atom_33 (by decide) ?_
    exact x_iret dX14_atom_34 rfl rfl (Nat.le_refl _) (Nat.le_refl _) ⟨_, rfl, ((yfr_rf _).up (by decide)), (M.g9 (upd g 0 0) w nw), Or.inr ⟨at_no hn hnk (Or.inl c_10), rfl⟩⟩
  · have c_10 := bi_t c_10
    refine x_iload_n dX14_atom_13 rfl ?_
    refine x_iconst (v := 0) dX14_atom_14 (by decide) ?_
    refine x_bipush (v := 9) dX14_atom_15 (by decide) ?_
    refine x_callS (As := [.int fs, .int 0, .int 9]) (st := []) ls_X14_235 k_X14_in dX14_atom_17 rfl rfl (Nat.le_of_ble_eq_true rfl) ⟨by decide, by decide⟩ ⟨by decide, by decide⟩ (fun v9 h9 z => ?_) (fun _ _ _ _ _ z => by obtain ⟨_, z, _⟩ := z; cases z)
    obtain ⟨b1, ev, eh, hb1⟩ := z
    rw [eh]
    cases ev
    refine x_if_eq 33 dX14_atom_20 (by decide) (fun c_20 => ?_) (fun c_20 => ?_)
    · have c_20 := bi_f c_20
      refine x_iconst (v := (-1)) dX14_atom_33 (by decide) ?_
      exact x_iret dX14_atom_34 rfl rfl (Nat.le_refl _) (Nat.le_refl _) ⟨_, rfl, ((yfr_rf _).up (by decide)), (M.g9 (upd g 0 0) w nw), Or.inr ⟨at_no hn hnk (Or.inr (Or.inl (fun z => by rw [hb1.mpr z] at c_20; cases c_20))), rfl⟩⟩
    · have c_20 := bi_t c_20
      refine x_iload_n dX14_atom_23 rfl ?_
      refine x_iconst (v := 0) dX14_atom_24 (by decide) ?_
      refine x_bipush (v := 9) dX14_atom_25 (by decide) ?_
      refine x_callS (As := [.int sc, .int 0, .int 9]) (st := []) ls_X14_235 k_X14_in dX14_atom_27 rfl rfl (Nat.le_of_ble_eq_true rfl) ⟨by decide, by decide⟩ ⟨by decide, by decide⟩ (fun v9 h9 z => ?_) (fun _ _ _ _ _ z => by obtain ⟨_, z, _⟩ := z; cases z)
      obtain ⟨b2, ev, eh, hb2⟩ := z
      rw [eh]
      cases ev
      refine x_if_ne 35 dX14_atom_30 (by decide) (fun c_30 => ?_) (fun c_30 => ?_)
      · have c_30 := bi_t c_30
        have k1 := hb1.mp (by assumption)
        have k2 := hb2.mp (by assumption)
        obtain ⟨k, hk9, ek⟩ := inR_of (show inR kd nk = true by assumption) (by omega)
        obtain ⟨a, ha9, ea⟩ := inR_of (i32_09.mp k1) (by omega)
        obtain ⟨b, hb8, eb⟩ := inR_of (i32_09.mp k2) (by omega)
        refine x_bipush (v := 100) dX14_atom_35 (by decide) ?_
        refine x_iload_n dX14_atom_37 rfl ?_
        refine x_top (y := nI k) ek ?_
        refine x_imul dX14_atom_38 ?_
        refine x_top (y := nI (100 * k)) (pk_mul 100 k) ?_
        refine x_bipush (v := 10) dX14_atom_39 (by decide) ?_
        refine x_iload_n dX14_atom_41 rfl ?_
        refine x_top (y := nI a) ea ?_
        refine x_imul dX14_atom_42 ?_
        refine x_top (y := nI (10 * a)) (pk_mul 10 a) ?_
        refine x_iadd dX14_atom_43 ?_
        refine x_top (y := nI ((100 * k) + (10 * a))) (nI_add (100 * k) (10 * a)) ?_
        refine x_iload_n dX14_atom_44 rfl ?_
        refine x_top (y := nI b) eb ?_
        refine x_iadd dX14_atom_45 ?_
        refine x_top (y := nI (((100 * k) + (10 * a)) + b)) (nI_add ((100 * k) + (10 * a)) b) ?_
        refine x_istore [(0, .ref 205), (1, .int kd), (2, .int fs), (3, .int sc), (4, .int (nI (((100 * k) + (10 * a)) + b)))] dX14_atom_46 (by decide) rfl rfl ?_
        refine x_aload_n dX14_atom_48 rfl ?_
        refine x_iload dX14_atom_49 rfl ?_
        refine x_callV (As := [.int (nI (((100 * k) + (10 * a)) + b))]) (st := []) lv_X14_239 (k_X14_isAtom (M.g9 (upd g 0 0) w nw) ((upd_nq (by decide)).trans h4) ((upd_nq (by decide)).trans h5) hpc hnk hn) dX14_atom_51 (xup_self _ _ _) rfl rfl (Nat.le_of_ble_eq_true rfl) ⟨by decide, by decide⟩ ⟨by decide, by decide⟩ (fun v9 h9 z => ?_) (fun _ _ _ _ _ z => by obtain ⟨_, z, _⟩ := z; cases z)
        obtain ⟨b9, ev, eh, hb9⟩ := z
        rw [eh]
        cases ev
        have Q9 := at_yes (pc := pc) hk9 ek ha9 ea hb8 eb hnk hb9
        refine x_if_eq 62 dX14_atom_54 (by decide) (fun c_54 => ?_) (fun c_54 => ?_)
        · have c_54 := bi_f c_54
          refine x_iconst (v := (-1)) dX14_atom_62 (by decide) ?_
          rw [if_neg (by rw [c_54]; decide)] at Q9
          exact x_iret dX14_atom_63 rfl rfl (Nat.le_refl _) (Nat.le_refl _) ⟨_, rfl, ((yfr_rf _).up (by decide)), (M.g9 (upd g 0 0) w nw), Q9⟩
        · have c_54 := bi_t c_54
          refine x_iload dX14_atom_57 rfl ?_
          refine x_goto 63 dX14_atom_59 (by decide) ?_
          rw [if_pos c_54] at Q9
          exact x_iret dX14_atom_63 rfl rfl (Nat.le_refl _) (Nat.le_refl _) ⟨_, rfl, ((yfr_rf _).up (by decide)), (M.g9 (upd g 0 0) w nw), Q9⟩
      · have c_30 := bi_f c_30
        refine x_iconst (v := (-1)) dX14_atom_33 (by decide) ?_
        exact x_iret dX14_atom_34 rfl rfl (Nat.le_refl _) (Nat.le_refl _) ⟨_, rfl, ((yfr_rf _).up (by decide)), (M.g9 (upd g 0 0) w nw), Or.inr ⟨at_no hn hnk (Or.inr (Or.inr (fun z => by rw [hb2.mpr z] at c_30; cases c_30))), rfl⟩⟩
