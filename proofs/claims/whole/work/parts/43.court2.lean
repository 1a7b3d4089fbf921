/-! the court: atom, places, layer, count, term, fact -/
theorem mst9 {n a : Nat} (hn : n ≤ 10) (ha : a < 2 ^ 31) : nI n - 1 < nI a ↔ n ≤ a := by
  rw [Int32.lt_iff_toInt_lt, fb_subI (by rw [nI_toInt (by omega), i1]; omega) (by rw [nI_toInt (by omega), i1]; omega), nI_toInt (by omega), nI_toInt ha, i1]
  omega
def okAt3 (nt p a b : Nat) : Prop := (if 0 < p then a < nt else a = 0) ∧ (if 1 < p then b < nt else b = 0)
def atS (nk nt : Nat) (pc : Nat → Nat) (kd fs sc : Int32) (k a b : Nat) : Prop := k < nk ∧ kd = nI k ∧ a < 2 ^ 31 ∧ fs = nI a ∧ b < 2 ^ 31 ∧ sc = nI b ∧ okAt3 nt (pc k) a b
/-- what atom answers -/
def atQ (nk nt : Nat) (pc : Nat → Nat) (kd fs sc r : Int32) : Prop := (∃ k a b, atS nk nt pc kd fs sc k a b ∧ r = nI ((k * 10 + a) * 10 + b)) ∨ ((¬ ∃ k a b, atS nk nt pc kd fs sc k a b) ∧ r = -1)
theorem vin_t {i : Int32} {n N : Nat} (h1 : inR i n = true) (h : n ≤ N ∧ N < 2 ^ 31) : vp_in i N := by
  obtain ⟨j, hj, rfl⟩ := inR_of h1 (by omega)
  exact vp_in_nI (by omega) (by omega)
set_option maxRecDepth 100000 in
set_option maxHeartbeats 4000000 in
theorem k_X11_places {G : xG} {h : xHp} {tsz : Nat} {tp : Nat → Int32} {rc : Nat} {fc : Int32} {nt : Nat} {nk : Nat} {lf : Nat → Int32} {ra : Nat → Nat} {V : Nat → RV} {kw : Nat → Int64} {tw : Nat → Int64} {pf : Nat → Int32} {fr : Nat → Int32} {cl : Int32} {flt : Int32} {plc : Int32} {ns : Bool} {f : Nat → Int32} {g : Nat → Int32} {cn : Nat} {ct : Nat → Int32} {rn : Nat} {rs : Nat → Int32} {tr : Int32} (x : XH h tsz tp rc fc nt nk lf ra V kw tw pf fr cl flt plc ns f g cn ct rn rs tr) {k : Int32} (hnk : nk ≤ 10) : MX G mX11_places 2 0 0 [.ref 1, .int k] h (xAns (.int (jn nk k pf)) h) := by
  refine MX.of [(0, .ref 1), (1, .int k)] (by decide) rfl (Nat.le_of_ble_eq_true rfl) rfl ?_
  refine x_aload_n dX11_places_0 rfl ?_
  refine x_get lf_X11_16 dX11_places_1 x.c rfl ?_
  refine x_get lf_X11_101 dX11_places_4 x.b.1.1 rfl ?_
  refine x_iload_n dX11_places_7 rfl ?_
  refine x_callV (As := [.int k]) (st := []) lv_X11_105 (k_X6_has x.b.1.2.1) dX11_places_8 x.b.1.2.1 rfl rfl (Nat.le_of_ble_eq_true rfl) ⟨by decide, by decide⟩ ⟨by decide, by decide⟩ (fun v h1 q => ?_) (fun _ _ _ _ _ q => by cases q.1)
  obtain ⟨ev, eh⟩ := q
  rw [eh]
  cases ev
  refine x_if_eq 26 dX11_places_11 (by decide) (fun c_11 => ?_) (fun c_11 => ?_)
  · refine x_iconst (v := (-1)) dX11_places_26 (by decide) ?_
    exact x_iret dX11_places_27 rfl rfl (Nat.le_refl _) (Nat.le_refl _) ⟨jn_f (bi_f c_11), rfl⟩
  · refine x_aload_n dX11_places_14 rfl ?_
    refine x_get lf_X11_16 dX11_places_15 x.c rfl ?_
    refine x_get lf_X11_117 dX11_places_18 x.b.1.1 rfl ?_
    refine x_iload_n dX11_places_21 rfl ?_
    refine x_iald x.b.2.2.2.1 (vin_t (bi_t c_11) (by omega)) dX11_places_22 ?_
    refine x_goto 27 dX11_places_23 (by decide) ?_
    exact x_iret dX11_places_27 rfl rfl (Nat.le_refl _) (Nat.le_refl _) ⟨jn_t (bi_t c_11), rfl⟩
set_option maxRecDepth 100000 in
set_option maxHeartbeats 4000000 in
theorem k_X11_layer {G : xG} {h : xHp} {tsz : Nat} {tp : Nat → Int32} {rc : Nat} {fc : Int32} {nt : Nat} {nk : Nat} {lf : Nat → Int32} {ra : Nat → Nat} {V : Nat → RV} {kw : Nat → Int64} {tw : Nat → Int64} {pf : Nat → Int32} {fr : Nat → Int32} {cl : Int32} {flt : Int32} {plc : Int32} {ns : Bool} {f : Nat → Int32} {g : Nat → Int32} {cn : Nat} {ct : Nat → Int32} {rn : Nat} {rs : Nat → Int32} {tr : Int32} (x : XH h tsz tp rc fc nt nk lf ra V kw tw pf fr cl flt plc ns f g cn ct rn rs tr) {k : Int32} (hnk : nk ≤ 10) : MX G mX11_layer 2 0 0 [.ref 1, .int k] h (xAns (.int (jn nk k lf)) h) := by
  refine MX.of [(0, .ref 1), (1, .int k)] (by decide) rfl (Nat.le_of_ble_eq_true rfl) rfl ?_
  refine x_aload_n dX11_layer_0 rfl ?_
  refine x_get lf_X11_16 dX11_layer_1 x.c rfl ?_
  refine x_get lf_X11_101 dX11_layer_4 x.b.1.1 rfl ?_
  refine x_iload_n dX11_layer_7 rfl ?_
  refine x_callV (As := [.int k]) (st := []) lv_X11_105 (k_X6_has x.b.1.2.1) dX11_layer_8 x.b.1.2.1 rfl rfl (Nat.le_of_ble_eq_true rfl) ⟨by decide, by decide⟩ ⟨by decide, by decide⟩ (fun v h1 q => ?_) (fun _ _ _ _ _ q => by cases q.1)
  obtain ⟨ev, eh⟩ := q
  rw [eh]
  cases ev
  refine x_if_eq 29 dX11_layer_11 (by decide) (fun c_11 => ?_) (fun c_11 => ?_)
  · refine x_iconst (v := (-1)) dX11_layer_29 (by decide) ?_
    exact x_iret dX11_layer_30 rfl rfl (Nat.le_refl _) (Nat.le_refl _) ⟨jn_f (bi_f c_11), rfl⟩
  · refine x_aload_n dX11_layer_14 rfl ?_
    refine x_get lf_X11_16 dX11_layer_15 x.c rfl ?_
    refine x_get lf_X11_131 dX11_layer_18 x.b.1.1 rfl ?_
    refine x_get lf_X11_135 dX11_layer_21 x.b.1.2.2.2.1 rfl ?_
    refine x_iload_n dX11_layer_24 rfl ?_
    refine x_iald x.b.1.2.2.2.2.1 (vin_t (bi_t c_11) (by omega)) dX11_layer_25 ?_
    refine x_goto 30 dX11_layer_26 (by decide) ?_
    exact x_iret dX11_layer_30 rfl rfl (Nat.le_refl _) (Nat.le_refl _) ⟨jn_t (bi_t c_11), rfl⟩
def cnA (nt nk rc : Nat) (fc : Int32) (tsz lc : Nat) (k : Int32) : Int32 := if k = 0 then nI nt else if k = 1 then nI nk else if k = 2 then nI rc else if k = 3 then fc else if k = 4 then nI tsz else if k = 5 then nI lc else -1
theorem cn_out {nt nk rc : Nat} {fc : Int32} {tsz lc : Nat} {k : Int32} (h : k.toInt < 0 ∨ 5 < k.toInt) : (.inl (some (Value.int (-1))) : Option Value ⊕ Nat) = .inl (some (.int (cnA nt nk rc fc tsz lc k))) := by
  have e : ∀ j : Int32, 0 ≤ j.toInt → j.toInt ≤ 5 → ¬ k = j := fun j a b z => by rw [z] at h; omega
  rw [cnA, if_neg (e 0 (by decide) (by decide)), if_neg (e 1 (by decide) (by decide)), if_neg (e 2 (by decide) (by decide)), if_neg (e 3 (by decide) (by decide)), if_neg (e 4 (by decide) (by decide)), if_neg (e 5 (by decide) (by decide))]
set_option maxRecDepth 100000 in
set_option maxHeartbeats 4000000 in
theorem k_X11_count {G : xG} {h : xHp} {tsz : Nat} {tp : Nat → Int32} {rc : Nat} {fc : Int32} {nt : Nat} {nk : Nat} {lf : Nat → Int32} {ra : Nat → Nat} {V : Nat → RV} {kw : Nat → Int64} {tw : Nat → Int64} {pf : Nat → Int32} {fr : Nat → Int32} {cl : Int32} {flt : Int32} {plc : Int32} {ns : Bool} {f : Nat → Int32} {g : Nat → Int32} {cn : Nat} {ct : Nat → Int32} {rn : Nat} {rs : Nat → Int32} {tr : Int32} (x : XH h tsz tp rc fc nt nk lf ra V kw tw pf fr cl flt plc ns f g cn ct rn rs tr) {k : Int32} {L : Nat → Nat} (hL : ∀ k, k < 10 → lf k = nI (L k)) (hL9 : ∀ k, L k ≤ 9) (hnk : nk ≤ 10) : MX G mX11_count 2 0 0 [.ref 1, .int k] h (xAns (.int (cnA nt nk rc fc tsz (lcnt L nk) k)) h) := by
  refine MX.of [(0, .ref 1), (1, .int k)] (by decide) rfl (Nat.le_of_ble_eq_true rfl) rfl ?_
  refine x_iload_n dX11_count_0 rfl ?_
  rcases sw6 k with rfl | rfl | rfl | rfl | rfl | rfl | e9
  · refine x_tswIn (off := 39) 40 dX11_count_1 (by decide) (by decide) (by decide) (by decide) ?_
    refine x_aload_n dX11_count_40 rfl ?_
    refine x_get lf_X11_16 dX11_count_41 x.c rfl ?_
    refine x_get lf_X11_111 dX11_count_44 x.b.1.1 rfl ?_
    refine x_get lf_X11_114 dX11_count_47 x.b.1.2.2.1 rfl ?_
    exact x_iret dX11_count_50 rfl rfl (Nat.le_refl _) (Nat.le_refl _) ⟨rfl, rfl⟩
  · refine x_tswIn (off := 50) 51 dX11_count_1 (by decide) (by decide) (by decide) (by decide) ?_
    refine x_aload_n dX11_count_51 rfl ?_
    refine x_get lf_X11_16 dX11_count_52 x.c rfl ?_
    refine x_get lf_X11_101 dX11_count_55 x.b.1.1 rfl ?_
    refine x_get lf_X11_114 dX11_count_58 x.b.1.2.1 rfl ?_
    exact x_iret dX11_count_61 rfl rfl (Nat.le_refl _) (Nat.le_refl _) ⟨rfl, rfl⟩
  · refine x_tswIn (off := 61) 62 dX11_count_1 (by decide) (by decide) (by decide) (by decide) ?_
    refine x_aload_n dX11_count_62 rfl ?_
    refine x_get lf_X11_16 dX11_count_63 x.c rfl ?_
    refine x_get lf_X11_172 dX11_count_66 x.b.1.1 rfl ?_
    exact x_iret dX11_count_69 rfl rfl (Nat.le_refl _) (Nat.le_refl _) ⟨rfl, rfl⟩
  · refine x_tswIn (off := 69) 70 dX11_count_1 (by decide) (by decide) (by decide) (by decide) ?_
    refine x_aload_n dX11_count_70 rfl ?_
    refine x_get lf_X11_16 dX11_count_71 x.c rfl ?_
    refine x_get lf_X11_249 dX11_count_74 x.b.1.1 rfl ?_
    exact x_iret dX11_count_77 rfl rfl (Nat.le_refl _) (Nat.le_refl _) ⟨rfl, rfl⟩
  · refine x_tswIn (off := 77) 78 dX11_count_1 (by decide) (by decide) (by decide) (by decide) ?_
    refine x_aload_n dX11_count_78 rfl ?_
    refine x_get lf_X11_69 dX11_count_79 x.c rfl ?_
    exact x_iret dX11_count_82 rfl rfl (Nat.le_refl _) (Nat.le_refl _) ⟨rfl, rfl⟩
  · refine x_tswIn (off := 82) 83 dX11_count_1 (by decide) (by decide) (by decide) (by decide) ?_
    refine x_aload_n dX11_count_83 rfl ?_
    refine x_get lf_X11_16 dX11_count_84 x.c rfl ?_
    refine x_callV (As := []) (st := []) lv_X11_272 (k_X0_layerCount x.b.1.1 x.b.1.2.1 x.b.1.2.2.2.1 x.b.1.2.2.2.2.1 hL (fun k => by have := hL9 k; omega) hnk) dX11_count_87 x.b.1.1 rfl rfl (Nat.le_of_ble_eq_true rfl) ⟨by decide, by decide⟩ ⟨by decide, by decide⟩ (fun v h1 q => ?_) (fun _ _ _ _ _ q => by cases q.1)
    obtain ⟨ev, eh⟩ := q
    rw [eh]
    cases ev
    exact x_iret dX11_count_90 rfl rfl (Nat.le_refl _) (Nat.le_refl _) ⟨rfl, rfl⟩
  · refine x_tswOut 91 dX11_count_1 e9 (by decide) ?_
    refine x_iconst (v := (-1)) dX11_count_91 (by decide) ?_
    exact x_iret dX11_count_92 rfl rfl (Nat.le_refl _) (Nat.le_refl _) ⟨cn_out e9, rfl⟩
set_option maxRecDepth 100000 in
set_option maxHeartbeats 4000000 in
theorem k_X11_atom {G : xG} {h : xHp} {tsz : Nat} {tp : Nat → Int32} {rc : Nat} {fc : Int32} {nt : Nat} {nk : Nat} {lf : Nat → Int32} {ra : Nat → Nat} {V : Nat → RV} {kw : Nat → Int64} {tw : Nat → Int64} {pf : Nat → Int32} {fr : Nat → Int32} {cl : Int32} {flt : Int32} {plc : Int32} {ns : Bool} {f : Nat → Int32} {g : Nat → Int32} {cn : Nat} {ct : Nat → Int32} {rn : Nat} {rs : Nat → Int32} {tr : Int32} (x : XH h tsz tp rc fc nt nk lf ra V kw tw pf fr cl flt plc ns f g cn ct rn rs tr) {pc : Nat → Nat} (hpc : ∀ k, k < nk → pf k = nI (pc k) ∧ pc k < 3) (hnk : nk ≤ 10) (hnt : nt ≤ 10) {kd fs sc : Int32} : MX G mX11_atom 2 0 0 [.ref 1, .int kd, .int fs, .int sc] h (fun o h' => ∃ r, o = .inl (some (.int r)) ∧ h' = h ∧ atQ nk nt pc kd fs sc r) := by
  refine MX.of [(0, .ref 1), (1, .int kd), (2, .int fs), (3, .int sc)] (by decide) rfl (Nat.le_of_ble_eq_true rfl) rfl ?_
  refine x_aload_n dX11_atom_0 rfl ?_
  refine x_get lf_X11_16 dX11_atom_1 x.c rfl ?_
  refine x_get lf_X11_101 dX11_atom_4 x.b.1.1 rfl ?_
  refine x_iload_n dX11_atom_7 rfl ?_
  refine x_callV (As := [.int kd]) (st := []) lv_X11_105 (k_X6_has x.b.1.2.1) dX11_atom_8 x.b.1.2.1 rfl rfl (Nat.le_of_ble_eq_true rfl) ⟨by decide, by decide⟩ ⟨by decide, by decide⟩ (fun v h1 q => ?_) (fun _ _ _ _ _ q => by cases q.1)
  obtain ⟨ev, eh⟩ := q
  rw [eh]
  cases ev
  refine x_if_ne 16 dX11_atom_11 (by decide) (fun c_11 => ?_) (fun c_11 => ?_)
  · obtain ⟨j9, hj9, rfl⟩ := inR_of (bi_t c_11) (by omega)
    obtain ⟨hp1, hp2⟩ := hpc j9 hj9
    refine x_aload_n dX11_atom_16 rfl ?_
    refine x_get lf_X11_16 dX11_atom_17 x.c rfl ?_
    refine x_get lf_X11_111 dX11_atom_20 x.b.1.1 rfl ?_
    refine x_get lf_X11_114 dX11_atom_23 x.b.1.2.2.1 rfl ?_
    refine x_iconst (v := 1) dX11_atom_26 (by decide) ?_
    refine x_isub dX11_atom_27 ?_
    refine x_istore [(0, .ref 1), (1, .int (nI j9)), (2, .int fs), (3, .int sc), (4, .int ((nI nt) - 1))] dX11_atom_28 (by decide) rfl rfl ?_
    refine x_aload_n dX11_atom_30 rfl ?_
    refine x_get lf_X11_16 dX11_atom_31 x.c rfl ?_
    refine x_get lf_X11_117 dX11_atom_34 x.b.1.1 rfl ?_
    refine x_iload_n dX11_atom_37 rfl ?_
    refine x_ialdN (j := j9) x.b.2.2.2.1 rfl (by omega) (by decide) dX11_atom_38 ?_
    refine x_top (y := nI (pc j9)) hp1 ?_
    refine x_if_le 47 dX11_atom_39 (by decide) (fun c_39 => ?_) (fun c_39 => ?_)
    · rw [show (0 : Int32) = nI 0 from rfl, nI_leI (by omega) (by omega)] at c_39
      refine x_iconst (v := 0) dX11_atom_47 (by decide) ?_
      refine x_istore [(0, .ref 1), (1, .int (nI j9)), (2, .int fs), (3, .int sc), (4, .int ((nI nt) - 1)), (5, .int 0)] dX11_atom_48 (by decide) rfl rfl ?_
      refine x_aload_n dX11_atom_50 rfl ?_
      refine x_get lf_X11_16 dX11_atom_51 x.c rfl ?_
      refine x_get lf_X11_117 dX11_atom_54 x.b.1.1 rfl ?_
      refine x_iload_n dX11_atom_57 rfl ?_
      refine x_ialdN (j := j9) x.b.2.2.2.1 rfl (by omega) (by decide) dX11_atom_58 ?_
      refine x_top (y := nI (pc j9)) hp1 ?_
      refine x_iconst (v := 1) dX11_atom_59 (by decide) ?_
      refine x_icmp_le 68 dX11_atom_60 (by decide) (fun c_60 => ?_) (fun c_60 => ?_)
      · rw [show (1 : Int32) = nI 1 from rfl, nI_leI (by omega) (by omega)] at c_60
        refine x_iconst (v := 0) dX11_atom_68 (by decide) ?_
        refine x_istore [(0, .ref 1), (1, .int (nI j9)), (2, .int fs), (3, .int sc), (4, .int ((nI nt) - 1)), (5, .int 0), (6, .int 0)] dX11_atom_69 (by decide) rfl rfl ?_
        refine x_iload_n dX11_atom_71 rfl ?_
        refine x_if_lt 91 dX11_atom_72 (by decide) (fun c_72 => ?_) (fun c_72 => ?_)
        · refine x_iconst (v := (-1)) dX11_atom_91 (by decide) ?_
          exact x_iret dX11_atom_92 rfl rfl (Nat.le_refl _) (Nat.le_refl _) ⟨_, rfl, rfl, Or.inr ⟨by rintro ⟨k, a, b, q1, q2, q3, q4, q5, q6, q7, q8⟩; have q2 := (nI_eq (by omega) (by omega)).mp q2; subst q2; subst q4; exact nI_pos q3 c_72, rfl⟩⟩
        · obtain ⟨a9, ha9, rfl⟩ := nI_of c_72
          refine x_iload_n dX11_atom_75 rfl ?_
          refine x_iload dX11_atom_76 rfl ?_
          refine x_icmp_gt 91 dX11_atom_78 (by decide) (fun c_78 => ?_) (fun c_78 => ?_)
          · refine x_iconst (v := (-1)) dX11_atom_91 (by decide) ?_
            exact x_iret dX11_atom_92 rfl rfl (Nat.le_refl _) (Nat.le_refl _) ⟨_, rfl, rfl, Or.inr ⟨by rintro ⟨k, a, b, q1, q2, q3, q4, q5, q6, q7, q8⟩; have q2 := (nI_eq (by omega) (by omega)).mp q2; subst q2; have q4 := (nI_eq (by omega) (by omega)).mp q4; subst q4; first | (subst q6; exact nI_pos q5 c_82) | (rw [if_neg (by omega)] at q7; have z := (nI_ltI (a := 0) (by omega) (by omega)).mp c_78; omega), rfl⟩⟩
          · refine x_iload_n dX11_atom_81 rfl ?_
            refine x_if_lt 91 dX11_atom_82 (by decide) (fun c_82 => ?_) (fun c_82 => ?_)
            · refine x_iconst (v := (-1)) dX11_atom_91 (by decide) ?_
              exact x_iret dX11_atom_92 rfl rfl (Nat.le_refl _) (Nat.le_refl _) ⟨_, rfl, rfl, Or.inr ⟨by rintro ⟨k, a, b, q1, q2, q3, q4, q5, q6, q7, q8⟩; have q2 := (nI_eq (by omega) (by omega)).mp q2; subst q2; have q4 := (nI_eq (by omega) (by omega)).mp q4; subst q4; first | (subst q6; exact nI_pos q5 c_82) | (rw [if_neg (by omega)] at q7; have z := (nI_ltI (a := 0) (by omega) (by omega)).mp c_78; omega), rfl⟩⟩
            · obtain ⟨b9, hb9, rfl⟩ := nI_of c_82
              refine x_iload_n dX11_atom_85 rfl ?_
              refine x_iload dX11_atom_86 rfl ?_
              refine x_icmp_le 93 dX11_atom_88 (by decide) (fun c_88 => ?_) (fun c_88 => ?_)
              · refine x_iload_n dX11_atom_93 rfl ?_
                refine x_bipush (v := 10) dX11_atom_94 (by decide) ?_
                refine x_imul dX11_atom_96 ?_
                refine x_top (y := nI (j9 * 10)) (pk_mul j9 10) ?_
                refine x_iload_n dX11_atom_97 rfl ?_
                refine x_iadd dX11_atom_98 ?_
                refine x_top (y := nI ((j9 * 10) + a9)) (nI_add (j9 * 10) a9) ?_
                refine x_bipush (v := 10) dX11_atom_99 (by decide) ?_
                refine x_imul dX11_atom_101 ?_
                refine x_top (y := nI (((j9 * 10) + a9) * 10)) (pk_mul ((j9 * 10) + a9) 10) ?_
                refine x_iload_n dX11_atom_102 rfl ?_
                refine x_iadd dX11_atom_103 ?_
                refine x_top (y := nI ((((j9 * 10) + a9) * 10) + b9)) (nI_add (((j9 * 10) + a9) * 10) b9) ?_
                have z5 : ¬ 0 < a9 := fun z => c_78 ((nI_ltI (a := 0) (by omega) (by omega)).mpr z)
                have z6 : ¬ 0 < b9 := fun z => absurd c_88 (Int32.not_le.mpr ((nI_ltI (a := 0) (by omega) (by omega)).mpr z))
                exact x_iret dX11_atom_104 rfl rfl (Nat.le_refl _) (Nat.le_refl _) ⟨_, rfl, rfl, Or.inl ⟨j9, a9, b9, ⟨hj9, rfl, ha9, rfl, hb9, rfl, by rw [if_neg (by omega)]; omega, by rw [if_neg (by omega)]; omega⟩, rfl⟩⟩
              · refine x_iconst (v := (-1)) dX11_atom_91 (by decide) ?_
                exact x_iret dX11_atom_92 rfl rfl (Nat.le_refl _) (Nat.le_refl _) ⟨_, rfl, rfl, Or.inr ⟨by rintro ⟨k, a, b, q1, q2, q3, q4, q5, q6, q7, q8⟩; have q2 := (nI_eq (by omega) (by omega)).mp q2; subst q2; have q6 := (nI_eq (by omega) (by omega)).mp q6; subst q6; rw [if_neg (by omega)] at q8; have z := (nI_ltI (a := 0) (by omega) (by omega)).mp (Int32.not_le.mp c_88); omega, rfl⟩⟩
      · rw [show (1 : Int32) = nI 1 from rfl, nI_leI (by omega) (by omega)] at c_60
        refine x_iload dX11_atom_63 rfl ?_
        refine x_goto 69 dX11_atom_65 (by decide) ?_
        refine x_istore [(0, .ref 1), (1, .int (nI j9)), (2, .int fs), (3, .int sc), (4, .int ((nI nt) - 1)), (5, .int 0), (6, .int ((nI nt) - 1))] dX11_atom_69 (by decide) rfl rfl ?_
        refine x_iload_n dX11_atom_71 rfl ?_
        refine x_if_lt 91 dX11_atom_72 (by decide) (fun c_72 => ?_) (fun c_72 => ?_)
        · refine x_iconst (v := (-1)) dX11_atom_91 (by decide) ?_
          exact x_iret dX11_atom_92 rfl rfl (Nat.le_refl _) (Nat.le_refl _) ⟨_, rfl, rfl, Or.inr ⟨by rintro ⟨k, a, b, q1, q2, q3, q4, q5, q6, q7, q8⟩; have q2 := (nI_eq (by omega) (by omega)).mp q2; subst q2; subst q4; exact nI_pos q3 c_72, rfl⟩⟩
        · obtain ⟨a9, ha9, rfl⟩ := nI_of c_72
          refine x_iload_n dX11_atom_75 rfl ?_
          refine x_iload dX11_atom_76 rfl ?_
          refine x_icmp_gt 91 dX11_atom_78 (by decide) (fun c_78 => ?_) (fun c_78 => ?_)
          · refine x_iconst (v := (-1)) dX11_atom_91 (by decide) ?_
            exact x_iret dX11_atom_92 rfl rfl (Nat.le_refl _) (Nat.le_refl _) ⟨_, rfl, rfl, Or.inr ⟨by rintro ⟨k, a, b, q1, q2, q3, q4, q5, q6, q7, q8⟩; have q2 := (nI_eq (by omega) (by omega)).mp q2; subst q2; have q4 := (nI_eq (by omega) (by omega)).mp q4; subst q4; first | (subst q6; exact nI_pos q5 c_82) | (rw [if_neg (by omega)] at q7; have z := (nI_ltI (a := 0) (by omega) (by omega)).mp c_78; omega), rfl⟩⟩
          · refine x_iload_n dX11_atom_81 rfl ?_
            refine x_if_lt 91 dX11_atom_82 (by decide) (fun c_82 => ?_) (fun c_82 => ?_)
            · refine x_iconst (v := (-1)) dX11_atom_91 (by decide) ?_
              exact x_iret dX11_atom_92 rfl rfl (Nat.le_refl _) (Nat.le_refl _) ⟨_, rfl, rfl, Or.inr ⟨by rintro ⟨k, a, b, q1, q2, q3, q4, q5, q6, q7, q8⟩; have q2 := (nI_eq (by omega) (by omega)).mp q2; subst q2; have q4 := (nI_eq (by omega) (by omega)).mp q4; subst q4; first | (subst q6; exact nI_pos q5 c_82) | (rw [if_neg (by omega)] at q7; have z := (nI_ltI (a := 0) (by omega) (by omega)).mp c_78; omega), rfl⟩⟩
            · obtain ⟨b9, hb9, rfl⟩ := nI_of c_82
              refine x_iload_n dX11_atom_85 rfl ?_
              refine x_iload dX11_atom_86 rfl ?_
              refine x_icmp_le 93 dX11_atom_88 (by decide) (fun c_88 => ?_) (fun c_88 => ?_)
              · refine x_iload_n dX11_atom_93 rfl ?_
                refine x_bipush (v := 10) dX11_atom_94 (by decide) ?_
                refine x_imul dX11_atom_96 ?_
                refine x_top (y := nI (j9 * 10)) (pk_mul j9 10) ?_
                refine x_iload_n dX11_atom_97 rfl ?_
                refine x_iadd dX11_atom_98 ?_
                refine x_top (y := nI ((j9 * 10) + a9)) (nI_add (j9 * 10) a9) ?_
                refine x_bipush (v := 10) dX11_atom_99 (by decide) ?_
                refine x_imul dX11_atom_101 ?_
                refine x_top (y := nI (((j9 * 10) + a9) * 10)) (pk_mul ((j9 * 10) + a9) 10) ?_
                refine x_iload_n dX11_atom_102 rfl ?_
                refine x_iadd dX11_atom_103 ?_
                refine x_top (y := nI ((((j9 * 10) + a9) * 10) + b9)) (nI_add (((j9 * 10) + a9) * 10) b9) ?_
                have z5 : ¬ 0 < a9 := fun z => c_78 ((nI_ltI (a := 0) (by omega) (by omega)).mpr z)
                have z6 : ¬ nt ≤ b9 := fun z => absurd c_88 (Int32.not_le.mpr ((mst9 hnt (by omega)).mpr z))
                exact x_iret dX11_atom_104 rfl rfl (Nat.le_refl _) (Nat.le_refl _) ⟨_, rfl, rfl, Or.inl ⟨j9, a9, b9, ⟨hj9, rfl, ha9, rfl, hb9, rfl, by rw [if_neg (by omega)]; omega, by rw [if_pos (by omega)]; omega⟩, rfl⟩⟩
              · refine x_iconst (v := (-1)) dX11_atom_91 (by decide) ?_
                exact x_iret dX11_atom_92 rfl rfl (Nat.le_refl _) (Nat.le_refl _) ⟨_, rfl, rfl, Or.inr ⟨by rintro ⟨k, a, b, q1, q2, q3, q4, q5, q6, q7, q8⟩; have q2 := (nI_eq (by omega) (by omega)).mp q2; subst q2; have q6 := (nI_eq (by omega) (by omega)).mp q6; subst q6; rw [if_pos (by omega)] at q8; have z := (mst9 hnt (by omega)).mp (Int32.not_le.mp c_88); omega, rfl⟩⟩
    · rw [show (0 : Int32) = nI 0 from rfl, nI_leI (by omega) (by omega)] at c_39
      refine x_iload dX11_atom_42 rfl ?_
      refine x_goto 48 dX11_atom_44 (by decide) ?_
      refine x_istore [(0, .ref 1), (1, .int (nI j9)), (2, .int fs), (3, .int sc), (4, .int ((nI nt) - 1)), (5, .int ((nI nt) - 1))] dX11_atom_48 (by decide) rfl rfl ?_
      refine x_aload_n dX11_atom_50 rfl ?_
      refine x_get lf_X11_16 dX11_atom_51 x.c rfl ?_
      refine x_get lf_X11_117 dX11_atom_54 x.b.1.1 rfl ?_
      refine x_iload_n dX11_atom_57 rfl ?_
      refine x_ialdN (j := j9) x.b.2.2.2.1 rfl (by omega) (by decide) dX11_atom_58 ?_
      refine x_top (y := nI (pc j9)) hp1 ?_
      refine x_iconst (v := 1) dX11_atom_59 (by decide) ?_
      refine x_icmp_le 68 dX11_atom_60 (by decide) (fun c_60 => ?_) (fun c_60 => ?_)
      · rw [show (1 : Int32) = nI 1 from rfl, nI_leI (by omega) (by omega)] at c_60
        refine x_iconst (v := 0) dX11_atom_68 (by decide) ?_
        refine x_istore [(0, .ref 1), (1, .int (nI j9)), (2, .int fs), (3, .int sc), (4, .int ((nI nt) - 1)), (5, .int ((nI nt) - 1)), (6, .int 0)] dX11_atom_69 (by decide) rfl rfl ?_
        refine x_iload_n dX11_atom_71 rfl ?_
        refine x_if_lt 91 dX11_atom_72 (by decide) (fun c_72 => ?_) (fun c_72 => ?_)
        · refine x_iconst (v := (-1)) dX11_atom_91 (by decide) ?_
          exact x_iret dX11_atom_92 rfl rfl (Nat.le_refl _) (Nat.le_refl _) ⟨_, rfl, rfl, Or.inr ⟨by rintro ⟨k, a, b, q1, q2, q3, q4, q5, q6, q7, q8⟩; have q2 := (nI_eq (by omega) (by omega)).mp q2; subst q2; subst q4; exact nI_pos q3 c_72, rfl⟩⟩
        · obtain ⟨a9, ha9, rfl⟩ := nI_of c_72
          refine x_iload_n dX11_atom_75 rfl ?_
          refine x_iload dX11_atom_76 rfl ?_
          refine x_icmp_gt 91 dX11_atom_78 (by decide) (fun c_78 => ?_) (fun c_78 => ?_)
          · refine x_iconst (v := (-1)) dX11_atom_91 (by decide) ?_
            exact x_iret dX11_atom_92 rfl rfl (Nat.le_refl _) (Nat.le_refl _) ⟨_, rfl, rfl, Or.inr ⟨by rintro ⟨k, a, b, q1, q2, q3, q4, q5, q6, q7, q8⟩; have q2 := (nI_eq (by omega) (by omega)).mp q2; subst q2; have q4 := (nI_eq (by omega) (by omega)).mp q4; subst q4; first | (subst q6; exact nI_pos q5 c_82) | (rw [if_pos (by omega)] at q7; have z := (mst9 hnt (by omega)).mp c_78; omega), rfl⟩⟩
          · refine x_iload_n dX11_atom_81 rfl ?_
            refine x_if_lt 91 dX11_atom_82 (by decide) (fun c_82 => ?_) (fun c_82 => ?_)
            · refine x_iconst (v := (-1)) dX11_atom_91 (by decide) ?_
              exact x_iret dX11_atom_92 rfl rfl (Nat.le_refl _) (Nat.le_refl _) ⟨_, rfl, rfl, Or.inr ⟨by rintro ⟨k, a, b, q1, q2, q3, q4, q5, q6, q7, q8⟩; have q2 := (nI_eq (by omega) (by omega)).mp q2; subst q2; have q4 := (nI_eq (by omega) (by omega)).mp q4; subst q4; first | (subst q6; exact nI_pos q5 c_82) | (rw [if_pos (by omega)] at q7; have z := (mst9 hnt (by omega)).mp c_78; omega), rfl⟩⟩
            · obtain ⟨b9, hb9, rfl⟩ := nI_of c_82
              refine x_iload_n dX11_atom_85 rfl ?_
              refine x_iload dX11_atom_86 rfl ?_
              refine x_icmp_le 93 dX11_atom_88 (by decide) (fun c_88 => ?_) (fun c_88 => ?_)
              · refine x_iload_n dX11_atom_93 rfl ?_
                refine x_bipush (v := 10) dX11_atom_94 (by decide) ?_
                refine x_imul dX11_atom_96 ?_
                refine x_top (y := nI (j9 * 10)) (pk_mul j9 10) ?_
                refine x_iload_n dX11_atom_97 rfl ?_
                refine x_iadd dX11_atom_98 ?_
                refine x_top (y := nI ((j9 * 10) + a9)) (nI_add (j9 * 10) a9) ?_
                refine x_bipush (v := 10) dX11_atom_99 (by decide) ?_
                refine x_imul dX11_atom_101 ?_
                refine x_top (y := nI (((j9 * 10) + a9) * 10)) (pk_mul ((j9 * 10) + a9) 10) ?_
                refine x_iload_n dX11_atom_102 rfl ?_
                refine x_iadd dX11_atom_103 ?_
                refine x_top (y := nI ((((j9 * 10) + a9) * 10) + b9)) (nI_add (((j9 * 10) + a9) * 10) b9) ?_
                have z5 : ¬ nt ≤ a9 := fun z => c_78 ((mst9 hnt (by omega)).mpr z)
                have z6 : ¬ 0 < b9 := fun z => absurd c_88 (Int32.not_le.mpr ((nI_ltI (a := 0) (by omega) (by omega)).mpr z))
                exact x_iret dX11_atom_104 rfl rfl (Nat.le_refl _) (Nat.le_refl _) ⟨_, rfl, rfl, Or.inl ⟨j9, a9, b9, ⟨hj9, rfl, ha9, rfl, hb9, rfl, by rw [if_pos (by omega)]; omega, by rw [if_neg (by omega)]; omega⟩, rfl⟩⟩
              · refine x_iconst (v := (-1)) dX11_atom_91 (by decide) ?_
                exact x_iret dX11_atom_92 rfl rfl (Nat.le_refl _) (Nat.le_refl _) ⟨_, rfl, rfl, Or.inr ⟨by rintro ⟨k, a, b, q1, q2, q3, q4, q5, q6, q7, q8⟩; have q2 := (nI_eq (by omega) (by omega)).mp q2; subst q2; have q6 := (nI_eq (by omega) (by omega)).mp q6; subst q6; rw [if_neg (by omega)] at q8; have z := (nI_ltI (a := 0) (by omega) (by omega)).mp (Int32.not_le.mp c_88); omega, rfl⟩⟩
      · rw [show (1 : Int32) = nI 1 from rfl, nI_leI (by omega) (by omega)] at c_60
        refine x_iload dX11_atom_63 rfl ?_
        refine x_goto 69 dX11_atom_65 (by decide) ?_
        refine x_istore [(0, .ref 1), (1, .int (nI j9)), (2, .int fs), (3, .int sc), (4, .int ((nI nt) - 1)), (5, .int ((nI nt) - 1)), (6, .int ((nI nt) - 1))] dX11_atom_69 (by decide) rfl rfl ?_
        refine x_iload_n dX11_atom_71 rfl ?_
        refine x_if_lt 91 dX11_atom_72 (by decide) (fun c_72 => ?_) (fun c_72 => ?_)
        · refine x_iconst (v := (-1)) dX11_atom_91 (by decide) ?_
          exact x_iret dX11_atom_92 rfl rfl (Nat.le_refl _) (Nat.le_refl _) ⟨_, rfl, rfl, Or.inr ⟨by rintro ⟨k, a, b, q1, q2, q3, q4, q5, q6, q7, q8⟩; have q2 := (nI_eq (by omega) (by omega)).mp q2; subst q2; subst q4; exact nI_pos q3 c_72, rfl⟩⟩
        · obtain ⟨a9, ha9, rfl⟩ := nI_of c_72
          refine x_iload_n dX11_atom_75 rfl ?_
          refine x_iload dX11_atom_76 rfl ?_
          refine x_icmp_gt 91 dX11_atom_78 (by decide) (fun c_78 => ?_) (fun c_78 => ?_)
          · refine x_iconst (v := (-1)) dX11_atom_91 (by decide) ?_
            exact x_iret dX11_atom_92 rfl rfl (Nat.le_refl _) (Nat.le_refl _) ⟨_, rfl, rfl, Or.inr ⟨by rintro ⟨k, a, b, q1, q2, q3, q4, q5, q6, q7, q8⟩; have q2 := (nI_eq (by omega) (by omega)).mp q2; subst q2; have q4 := (nI_eq (by omega) (by omega)).mp q4; subst q4; first | (subst q6; exact nI_pos q5 c_82) | (rw [if_pos (by omega)] at q7; have z := (mst9 hnt (by omega)).mp c_78; omega), rfl⟩⟩
          · refine x_iload_n dX11_atom_81 rfl ?_
            refine x_if_lt 91 dX11_atom_82 (by decide) (fun c_82 => ?_) (fun c_82 => ?_)
            · refine x_iconst (v := (-1)) dX11_atom_91 (by decide) ?_
              exact x_iret dX11_atom_92 rfl rfl (Nat.le_refl _) (Nat.le_refl _) ⟨_, rfl, rfl, Or.inr ⟨by rintro ⟨k, a, b, q1, q2, q3, q4, q5, q6, q7, q8⟩; have q2 := (nI_eq (by omega) (by omega)).mp q2; subst q2; have q4 := (nI_eq (by omega) (by omega)).mp q4; subst q4; first | (subst q6; exact nI_pos q5 c_82) | (rw [if_pos (by omega)] at q7; have z := (mst9 hnt (by omega)).mp c_78; omega), rfl⟩⟩
            · obtain ⟨b9, hb9, rfl⟩ := nI_of c_82
              refine x_iload_n dX11_atom_85 rfl ?_
              refine x_iload dX11_atom_86 rfl ?_
              refine x_icmp_le 93 dX11_atom_88 (by decide) (fun c_88 => ?_) (fun c_88 => ?_)
              · refine x_iload_n dX11_atom_93 rfl ?_
                refine x_bipush (v := 10) dX11_atom_94 (by decide) ?_
                refine x_imul dX11_atom_96 ?_
                refine x_top (y := nI (j9 * 10)) (pk_mul j9 10) ?_
                refine x_iload_n dX11_atom_97 rfl ?_
                refine x_iadd dX11_atom_98 ?_
                refine x_top (y := nI ((j9 * 10) + a9)) (nI_add (j9 * 10) a9) ?_
                refine x_bipush (v := 10) dX11_atom_99 (by decide) ?_
                refine x_imul dX11_atom_101 ?_
                refine x_top (y := nI (((j9 * 10) + a9) * 10)) (pk_mul ((j9 * 10) + a9) 10) ?_
                refine x_iload_n dX11_atom_102 rfl ?_
                refine x_iadd dX11_atom_103 ?_
                refine x_top (y := nI ((((j9 * 10) + a9) * 10) + b9)) (nI_add (((j9 * 10) + a9) * 10) b9) ?_
                have z5 : ¬ nt ≤ a9 := fun z => c_78 ((mst9 hnt (by omega)).mpr z)
                have z6 : ¬ nt ≤ b9 := fun z => absurd c_88 (Int32.not_le.mpr ((mst9 hnt (by omega)).mpr z))
                exact x_iret dX11_atom_104 rfl rfl (Nat.le_refl _) (Nat.le_refl _) ⟨_, rfl, rfl, Or.inl ⟨j9, a9, b9, ⟨hj9, rfl, ha9, rfl, hb9, rfl, by rw [if_pos (by omega)]; omega, by rw [if_pos (by omega)]; omega⟩, rfl⟩⟩
              · refine x_iconst (v := (-1)) dX11_atom_91 (by decide) ?_
                exact x_iret dX11_atom_92 rfl rfl (Nat.le_refl _) (Nat.le_refl _) ⟨_, rfl, rfl, Or.inr ⟨by rintro ⟨k, a, b, q1, q2, q3, q4, q5, q6, q7, q8⟩; have q2 := (nI_eq (by omega) (by omega)).mp q2; subst q2; have q6 := (nI_eq (by omega) (by omega)).mp q6; subst q6; rw [if_pos (by omega)] at q8; have z := (mst9 hnt (by omega)).mp (Int32.not_le.mp c_88); omega, rfl⟩⟩
  · refine x_iconst (v := (-1)) dX11_atom_14 (by decide) ?_
    exact x_iret dX11_atom_15 rfl rfl (Nat.le_refl _) (Nat.le_refl _) ⟨_, rfl, rfl, Or.inr ⟨by rintro ⟨k, a, b, q1, rfl, -⟩; have z := bi_f c_11; rw [inR_nI (by omega) (by omega)] at z; simp [q1] at z, rfl⟩⟩
set_option maxRecDepth 100000 in
set_option maxHeartbeats 4000000 in
theorem k_X11_refuse {G : xG} {h : xHp} {tsz : Nat} {tp : Nat → Int32} {rc : Nat} {fc : Int32} {nt : Nat} {nk : Nat} {lf : Nat → Int32} {ra : Nat → Nat} {V : Nat → RV} {kw : Nat → Int64} {tw : Nat → Int64} {pf : Nat → Int32} {fr : Nat → Int32} {cl : Int32} {flt : Int32} {plc : Int32} {ns : Bool} {f : Nat → Int32} {g : Nat → Int32} {cn : Nat} {ct : Nat → Int32} {rn : Nat} {rs : Nat → Int32} {tr : Int32} (x : XH h tsz tp rc fc nt nk lf ra V kw tw pf fr cl flt plc ns f g cn ct rn rs tr) {v : Int32} : MX G mX11_refuse 1 0 0 [.ref 1, .int v] h (fun o h' => o = .inl (some (.int (-1))) ∧ xKp h h' ∧ XH h' tsz tp rc fc nt nk lf ra V kw tw pf fr cl flt plc ns f g cn ct rn rs v) := by
  refine MX.of [(0, .ref 1), (1, .int v)] (by decide) rfl (Nat.le_of_ble_eq_true rfl) rfl ?_
  refine x_aload_n dX11_refuse_0 rfl ?_
  refine x_iload_n dX11_refuse_1 rfl ?_
  refine x_put [.ref 2, .int (nI tsz), .ref 3, .ref 181, .ref 187, .ref 190, .ref 192, .int (bi ns), .ref 196, .ref 200, .ref 204, .int (nI rn), .int v] lf_X11_89 dX11_refuse_2 x.c (Nat.le_of_ble_eq_true rfl) rfl rfl rfl ?_
  refine x_iconst (v := (-1)) dX11_refuse_5 (by decide) ?_
  have hf : xfr h (xup h 1 (.inr (11, [.ref 2, .int (nI tsz), .ref 3, .ref 181, .ref 187, .ref 190, .ref 192, .int (bi ns), .ref 196, .ref 200, .ref 204, .int (nI rn), .int v]))) [1] := ((xfr_rf _ _).up (by simp))
  exact x_iret dX11_refuse_6 rfl rfl (Nat.le_refl _) (Nat.le_refl _) ⟨rfl, xKp.of hf (by decide), ⟨(by rw [hf.1]; exact x.n), ((xup_self _ _ _)), (hf.at x.t (by decide)), (x.b.kp hf (by decide)), (x.r.kp hf (by decide)), (jnI_kp x.j hf (by decide)), (x.g.kp hf (by decide)), (md_kp x.m hf (by decide)), (x.s.kp hf (by decide)), (x.k.kp hf (by decide)), (hf.at x.e (by decide))⟩⟩
theorem rlV_fr {h h' : xHp} {a : Nat} {v : RV} {L : List Nat} (hr : rlV h a v) (hf : xfr h h' L) (ha : okRa a) (hL : ∀ q ∈ L, q < 13 ∨ 181 ≤ q) : rlV h' a v := by
  obtain ⟨ρ, r1, rfl⟩ := ha
  have hno : ∀ q, 13 ≤ q → q < 181 → q ∉ L := fun q a b z => by have := hL q z; omega
  obtain ⟨c1, c2, c3, c4, c5⟩ := hr
  exact ⟨hf.at c1 (hno _ (by omega) (by omega)), hf.at c2 (hno _ (by omega) (by omega)), hf.at c3 (hno _ (by omega) (by omega)), hf.at c4 (hno _ (by omega) (by omega)), fun i hi => hf.at (c5 i hi) (hno _ (by omega) (by omega))⟩
set_option maxRecDepth 100000 in
set_option maxHeartbeats 4000000 in
theorem k_X11_fact {G : xG} {h : xHp} {tsz : Nat} {tp : Nat → Int32} {rc : Nat} {fc : Int32} {nt : Nat} {nk : Nat} {lf : Nat → Int32} {ra : Nat → Nat} {V : Nat → RV} {kw : Nat → Int64} {tw : Nat → Int64} {pf : Nat → Int32} {fr : Nat → Int32} {cl : Int32} {flt : Int32} {plc : Int32} {ns : Bool} {f : Nat → Int32} {g : Nat → Int32} {cn : Nat} {ct : Nat → Int32} {rn : Nat} {rs : Nat → Int32} {tr : Int32} (x : XH h tsz tp rc fc nt nk lf ra V kw tw pf fr cl flt plc ns f g cn ct rn rs tr) {pc : Nat → Nat} (hpc : ∀ k, k < nk → pf k = nI (pc k) ∧ pc k < 3) (hnk : nk ≤ 10) (hnt : nt ≤ 10) {a : Int32} {v : Bool} {S : Nat → Bool} (hS : isRows fr S) : MX G mX11_fact 4 0 0 [.ref 1, .int a, .int (bi v)] h (fun o h' => (¬ (∃ n, a = nI n ∧ n < 2 ^ 31 ∧ okAtom nk nt pc n) ∧ o = .inl (some (.int (-1))) ∧ xKp h h' ∧ XH h' tsz tp rc fc nt nk lf ra V kw tw pf fr cl flt plc ns f g cn ct rn rs 1) ∨ ∃ n, a = nI n ∧ okAtom nk nt pc n ∧ ((S n = v ∧ o = .inl (some (.int 0)) ∧ xKp h h' ∧ XH h' tsz tp rc fc nt nk lf ra V kw tw pf fr cl flt plc ns f g cn ct rn rs 0) ∨ (S n = !v ∧ o = .inl (some (.int 1)) ∧ xKp h h' ∧ XH h' tsz tp rc (fc + if v then 1 else -1) nt nk lf ra V kw tw pf (fRow fr n) cl flt plc false f g cn ct rn rs 0))) := by
  obtain ⟨⟨rf, hrs1, hrf⟩, hrl⟩ := x.b.1.2.2.2.2.2.1
  have hra := x.b.1.2.2.2.2.2.2
  refine MX.of [(0, .ref 1), (1, .int a), (2, .int (bi v))] (by decide) rfl (Nat.le_of_ble_eq_true rfl) rfl ?_
  refine x_aload_n dX11_fact_0 rfl ?_
  refine x_get lf_X11_16 dX11_fact_1 x.c rfl ?_
  refine x_iload_n dX11_fact_4 rfl ?_
  refine x_callV (As := [.int a]) (st := []) lv_X11_140 (k_X0_hasAtom x.b.1.1 x.b.1.2.1 x.b.1.2.2.1 x.b.2.2.2.1 hpc hnk hnt) dX11_fact_5 x.b.1.1 rfl rfl (Nat.le_of_ble_eq_true rfl) ⟨by decide, by decide⟩ ⟨by decide, by decide⟩ (fun v9 h1 q => ?_) (fun _ _ _ _ _ q => by obtain ⟨_, q, _⟩ := q; cases q)
  obtain ⟨b9, ev, eh, hb9⟩ := q
  rw [eh]
  cases ev
  refine x_if_ne 17 dX11_fact_8 (by decide) (fun c_8 => ?_) (fun c_8 => ?_)
  · have c_8 := bi_t c_8
    obtain ⟨n, rfl, hn31, hok⟩ := hb9.mp c_8
    have hn := okAtom_lt hok hnk
    refine x_aload_n dX11_fact_17 rfl ?_
    refine x_iconst (v := 0) dX11_fact_18 (by decide) ?_
    refine x_put [.ref 2, .int (nI tsz), .ref 3, .ref 181, .ref 187, .ref 190, .ref 192, .int (bi ns), .ref 196, .ref 200, .ref 204, .int (nI rn), .int 0] lf_X11_89 dX11_fact_19 x.c (Nat.le_of_ble_eq_true rfl) rfl rfl rfl ?_
    refine x_aload_n dX11_fact_22 rfl ?_
    refine x_get lf_X11_16 dX11_fact_23 (xup_self _ _ _) rfl ?_
    refine x_iload_n dX11_fact_26 rfl ?_
    refine x_iload_n dX11_fact_27 rfl ?_
    refine x_callV (As := [.int (nI n), .int (bi v)]) (st := []) lv_X11_143 (k_X0_setFact ((xup_ne (by decide)).trans x.b.1.1) ((xup_ne (by decide)).trans x.b.2.2.2.2.1) hS hn) dX11_fact_28 ((xup_ne (by decide)).trans x.b.1.1) rfl rfl (Nat.le_of_ble_eq_true rfl) ⟨by decide, by decide⟩ ⟨by decide, by decide⟩ (fun v9 h1 q => ?_) (fun _ _ _ _ _ q => by rcases q with ⟨_, q, _⟩ | ⟨_, q, _⟩ <;> cases q)
    rcases q with ⟨q1, ev, rfl⟩ | ⟨q1, ev, rfl⟩ <;> cases ev
    · refine x_if_ne 36 dX11_fact_31 (by decide) (fun c => absurd c (by decide)) (fun _ => ?_)
      refine x_iconst (v := 0) dX11_fact_34 (by decide) ?_
      have hf : xfr h (xup h 1 (.inr (11, [.ref 2, .int (nI tsz), .ref 3, .ref 181, .ref 187, .ref 190, .ref 192, .int (bi ns), .ref 196, .ref 200, .ref 204, .int (nI rn), .int 0]))) [1] := ((xfr_rf _ _).up (by simp))
      exact x_iret dX11_fact_35 rfl rfl (Nat.le_refl _) (Nat.le_refl _) (Or.inr ⟨n, rfl, hok, Or.inl ⟨q1, rfl, xKp.of hf (by decide), ⟨(by rw [hf.1]; exact x.n), ((xup_self _ _ _)), (hf.at x.t (by decide)), (x.b.kp hf (by decide)), (x.r.kp hf (by decide)), (jnI_kp x.j hf (by decide)), (x.g.kp hf (by decide)), (md_kp x.m hf (by decide)), (x.s.kp hf (by decide)), (x.k.kp hf (by decide)), (hf.at x.e (by decide))⟩⟩⟩)
    · refine x_if_ne 36 dX11_fact_31 (by decide) (fun _ => ?_) (fun c => absurd c (by decide))
      refine x_aload_n dX11_fact_36 rfl ?_
      refine x_iconst (v := 0) dX11_fact_37 (by decide) ?_
      refine x_put [.ref 2, .int (nI tsz), .ref 3, .ref 181, .ref 187, .ref 190, .ref 192, .int 0, .ref 196, .ref 200, .ref 204, .int (nI rn), .int 0] lf_X11_85 dX11_fact_38 ((xup_ne (by decide)).trans ((xup_ne (by decide)).trans (xup_self _ _ _))) (Nat.le_of_ble_eq_true rfl) rfl rfl rfl ?_
      refine x_iconst (v := 1) dX11_fact_41 (by decide) ?_
      have hf : xfr h (xup (xup (xup (xup h 1 (.inr (11, [.ref 2, .int (nI tsz), .ref 3, .ref 181, .ref 187, .ref 190, .ref 192, .int (bi ns), .ref 196, .ref 200, .ref 204, .int (nI rn), .int 0]))) 12 (.inl (0, 100, .inl (fRow fr n)))) 3 (.inr (0, [.ref 4, .ref 6, .ref 8, .ref 9, .ref 11, .int (nI rc), .ref 12, .int (fc + if v then 1 else -1)]))) 1 (.inr (11, [.ref 2, .int (nI tsz), .ref 3, .ref 181, .ref 187, .ref 190, .ref 192, .int 0, .ref 196, .ref 200, .ref 204, .int (nI rn), .int 0]))) [1, 3, 12] := (((((xfr_rf _ _).up (by simp)).up (by simp)).up (by simp)).up (by simp))
      exact x_iret dX11_fact_42 rfl rfl (Nat.le_refl _) (Nat.le_refl _) (Or.inr ⟨n, rfl, hok, Or.inr ⟨q1, rfl, xKp.of hf (by decide), ⟨(by rw [hf.1]; exact x.n), ((xup_self _ _ _)), (hf.at x.t (by decide)), ⟨⟨((xup_ne (by decide)).trans (xup_self _ _ _)), hf.at x.b.1.2.1 (by decide), hf.at x.b.1.2.2.1 (by decide), hf.at x.b.1.2.2.2.1 (by decide), hf.at x.b.1.2.2.2.2.1 (by decide), ⟨⟨rf, hf.at hrs1 (by decide), hrf⟩, fun j hj => rlV_fr (hrl j hj) hf (hra j hj) (by decide)⟩, hra⟩, hf.at x.b.2.1 (by decide), hf.at x.b.2.2.1 (by decide), hf.at x.b.2.2.2.1 (by decide), ((xup_ne (by decide)).trans ((xup_ne (by decide)).trans (xup_self _ _ _))), x.b.2.2.2.2.2⟩, (x.r.kp hf (by decide)), (jnI_kp x.j hf (by decide)), (x.g.kp hf (by decide)), (md_kp x.m hf (by decide)), (x.s.kp hf (by decide)), (x.k.kp hf (by decide)), (hf.at x.e (by decide))⟩⟩⟩)
  · have c_8 := bi_f c_8
    refine x_aload_n dX11_fact_11 rfl ?_
    refine x_iconst (v := 1) dX11_fact_12 (by decide) ?_
    refine x_callV (As := [.int 1]) (st := []) lv_X11_77 (k_X11_refuse x) dX11_fact_13 x.c rfl rfl (Nat.le_of_ble_eq_true rfl) ⟨by decide, by decide⟩ ⟨by decide, by decide⟩ (fun v9 h9 q => ?_) (fun _ _ _ _ _ q => by cases q.1)
    obtain ⟨ev, f9, x9⟩ := q
    cases ev
    exact x_iret dX11_fact_16 rfl rfl (Nat.le_refl _) (Nat.le_refl _) (Or.inl ⟨fun q => (by rw [hb9.mpr q] at c_8; cases c_8), rfl, f9, x9⟩)
