/-! the court: go -/
set_option maxRecDepth 100000 in
set_option maxHeartbeats 4000000 in
theorem l_X11_go {G : xG} {tsz : Nat} {tp : Nat → Int32} {rc : Nat} {fc : Int32} {nt : Nat} {nk : Nat} {lf : Nat → Int32} {ra : Nat → Nat} {V : Nat → RV} {kw : Nat → Int64} {tw : Nat → Int64} {pf : Nat → Int32} {fr : Nat → Int32} {cl : Int32} {flt : Int32} {plc : Int32} {s : Nat → Option Nat} {cn : Nat} {ct : Nat → Int32} {rn : Nat} {rs : Nat → Int32} {tr : Int32} {h : xHp} {f1 g1 : Nat → Int32} (st1 : stl s f1 g1) {pc : Nat → Nat} {L : Nat → Nat} {S : Nat → Bool} (c : cOk rc nt nk V pf pc lf L fr S) (hs : IsSt S V rc (fun _ => true) nt s) {n9 m9 N : Nat} {ca : Nat → Int32} {cd : Nat → Nat} (hn9 : n9 < 1000) (hok : okAtom nk nt pc n9) (hsn : (s n9).isSome = true) (hct : fb_ct S 1000 ≤ 12) (hm9 : m9 < 1024) (hk : m9.testBit (n9 / 100) = true) (hcl : clK V rc m9) (hN : N ≤ 12) (hcd : candOk S m9 N cd) (hca : ∀ j, j < N → ca j = nI (cd j)) : ∀ (k m : Nat) (pk : Nat → Int32) (h1 : xHp), 1 ≤ m → m ≤ 4 → 5 ≤ m + k → xKp h h1 → XH h1 tsz tp rc fc nt nk lf ra V kw tw pf fr cl flt plc true f1 g1 cn ct rn rs 0 → ctE h1 (nI n9) (nI m9) N ca pk cn ct → (∀ m' P, 1 ≤ m' → m' < m → vP m' N P → cutK S V rc nt n9 m9 m' (fun i => cd (P i)) true) → Wx G mX11_go (xRm 18 0 0) (xF G (fun o h' => xKp h h' ∧ ∃ r, o = .inl (some (.int r)) ∧ ((∃ j9, (nI n9) = nI j9 ∧ okAtom nk nt pc j9 ∧ ((s j9 = none ∧ r = -1 ∧ XT h' tsz tp rc fc nt nk lf ra V kw tw pf fr cl flt plc s cn ct rn rs 5) ∨ ((s j9).isSome = true ∧ 12 < fb_ct S 1000 ∧ r = -1 ∧ XT h' tsz tp rc fc nt nk lf ra V kw tw pf fr cl flt plc s cn ct rn rs 6) ∨ ((s j9).isSome = true ∧ fb_ct S 1000 ≤ 12 ∧ ((∃ m D ct', 1 ≤ m ∧ m ≤ 3 ∧ goP S V rc nt j9 m D ∧ r = nI m ∧ (∀ i, i < m → ct' i = nI (D i)) ∧ XT h' tsz tp rc fc nt nk lf ra V kw tw pf fr cl flt plc s m ct' rn rs 0) ∨ ((∀ m D, 1 ≤ m → m ≤ 3 → dOk S m D → ¬ cutS S V rc nt j9 m D) ∧ r = -2 ∧ XT h' tsz tp rc fc nt nk lf ra V kw tw pf fr cl flt plc s cn ct rn rs 0))))) ∨ ((¬ ∃ j9, (nI n9) = nI j9 ∧ j9 < 2 ^ 31 ∧ okAtom nk nt pc j9) ∧ r = -1 ∧ XT h' tsz tp rc fc nt nk lf ra V kw tw pf fr cl flt plc s cn ct rn rs 1))) 0 0) 0 0 68 [(0, .ref 1), (1, .int (nI n9)), (2, .int (nI m))] [] h1 := by
  intro k
  induction k with
  | zero => exact fun m pk h1 q0 q1 q2 => absurd q2 (by omega)
  | succ k ih =>
    intro m pk h1 hm1 q1 q2 w1 x1 e hlow
    refine x_iload_n dX11_go_68 rfl ?_
    refine x_iconst (v := 3) dX11_go_69 (by decide) ?_
    refine x_icmp_gt 92 dX11_go_70 (by decide) (fun c_70 => ?_) (fun c_70 => ?_)
    · rw [show (3 : Int32) = nI 3 from rfl, nI_ltI (by omega) (by omega)] at c_70
      refine x_bipush (v := (-2)) dX11_go_92 (by decide) ?_
      refine x_iret dX11_go_94 rfl rfl (Nat.le_refl _) (Nat.le_refl _) ⟨w1, _, rfl, Or.inl ⟨n9, rfl, hok, Or.inr (Or.inr ⟨hsn, hct, Or.inr ⟨fun m' D h1 h3 hD hcut => ?_, rfl, ⟨true, f1, g1, fun _ => st1, x1⟩⟩⟩)⟩⟩
      obtain ⟨P, p1, p2⟩ := go_no c.2.2.1 c.1.1 c.2.2.2.2.1 hcl hn9 hk hcd hs hsn hD (fun m2 P2 a b q => hlow m2 P2 a (by omega) q) hcut
      refine cut_k c.2.2.1 c.1.1 c.2.2.2.2.1 hcl hn9 hk (fun a _ _ => ?_) hcut (hlow m' P h1 (by omega) p1)
      rw [minS_cg (D := fun i => cd (P i)) (D' := D) (fun i hi => (p2 i hi).symm)]
    · rw [show (3 : Int32) = nI 3 from rfl, nI_ltI (by omega) (by omega)] at c_70
      refine x_aload_n dX11_go_73 rfl ?_
      refine x_get lf_X11_62 dX11_go_74 x1.c rfl ?_
      refine x_iload_n dX11_go_77 rfl ?_
      refine x_callV (As := [.int (nI m)]) (st := []) lv_X11_255 (k_X1_seek c hn9 hm9 hN hcd hca hm1 (by omega) x1 e) dX11_go_78 e.1 rfl rfl (Nat.le_of_ble_eq_true rfl) ⟨by decide, by decide⟩ ⟨by decide, by decide⟩ (fun v2 h2 q => ?_) (fun _ _ _ _ _ q => by obtain ⟨_, _, _, _, q, _⟩ := q; cases q)
      obtain ⟨b8, cn', ct', pk', ev, w2, x2, e2, hb8⟩ := q
      cases ev
      refine x_if_eq 86 dX11_go_81 (by decide) (fun c_81 => ?_) (fun c_81 => ?_)
      · have c_81 := bi_f c_81
        refine x_iinc (v := nI (m + 1)) [(0, .ref 1), (1, .int (nI n9)), (2, .int (nI (m + 1)))] dX11_go_86 rfl (nI_add m 1) (by decide) rfl rfl ?_
        refine x_goto 68 dX11_go_89 (by decide) ?_
        rcases hb8 with ⟨-, rfl, rfl, p1⟩ | ⟨q, -⟩
        · exact x_ls _ [0, 1, 2] rfl (ih (m + 1) pk' h2 (by omega) (by omega) (by omega) (w1.tr w2) x2 e2 (fun m' P a b q => (by rcases Nat.lt_or_ge m' m with z | z; exact hlow m' P a z q; rw [show m' = m by omega] at q ⊢; exact p1 P q)))
        · rw [q] at c_81; cases c_81
      · have c_81 := bi_t c_81
        refine x_iload_n dX11_go_84 rfl ?_
        rcases hb8 with ⟨q, -⟩ | ⟨-, P, p1, p2, p3, rfl, rfl⟩
        · rw [q] at c_81; cases c_81
        · exact x_iret dX11_go_85 rfl rfl (Nat.le_refl _) (Nat.le_refl _) ⟨w1.tr w2, _, rfl, Or.inl ⟨n9, rfl, hok, Or.inr (Or.inr ⟨hsn, hct, Or.inl ⟨_, fun i => cd (P i), _, hm1, by omega, go_yes c.2.2.1 c.1.1 c.2.2.2.2.1 c.2.2.2.2.2.2.1 hcl hn9 hk hcd hs hsn p1 hlow p2 p3, rfl, fun i hi => (by unfold ctF; rw [if_pos hi]), ⟨true, f1, g1, fun _ => st1, x2⟩⟩⟩)⟩⟩
set_option maxRecDepth 100000 in
set_option maxHeartbeats 4000000 in
theorem k_X11_go {G : xG} {h : xHp} {tsz : Nat} {tp : Nat → Int32} {rc : Nat} {fc : Int32} {nt : Nat} {nk : Nat} {lf : Nat → Int32} {ra : Nat → Nat} {V : Nat → RV} {kw : Nat → Int64} {tw : Nat → Int64} {pf : Nat → Int32} {fr : Nat → Int32} {cl : Int32} {flt : Int32} {plc : Int32} {s : Nat → Option Nat} {cn : Nat} {ct : Nat → Int32} {rn : Nat} {rs : Nat → Int32} {tr : Int32} (X : XT h tsz tp rc fc nt nk lf ra V kw tw pf fr cl flt plc s cn ct rn rs tr) {pc : Nat → Nat} {L : Nat → Nat} {S : Nat → Bool} (c : cOk rc nt nk V pf pc lf L fr S) (hs : IsSt S V rc (fun _ => true) nt s) (hfc : fc = nI (fb_ct S 1000)) {a : Int32} : MX G mX11_go 18 0 0 [.ref 1, .int a] h (fun o h' => xKp h h' ∧ ∃ r, o = .inl (some (.int r)) ∧ ((∃ j9, a = nI j9 ∧ okAtom nk nt pc j9 ∧ ((s j9 = none ∧ r = -1 ∧ XT h' tsz tp rc fc nt nk lf ra V kw tw pf fr cl flt plc s cn ct rn rs 5) ∨ ((s j9).isSome = true ∧ 12 < fb_ct S 1000 ∧ r = -1 ∧ XT h' tsz tp rc fc nt nk lf ra V kw tw pf fr cl flt plc s cn ct rn rs 6) ∨ ((s j9).isSome = true ∧ fb_ct S 1000 ≤ 12 ∧ ((∃ m D ct', 1 ≤ m ∧ m ≤ 3 ∧ goP S V rc nt j9 m D ∧ r = nI m ∧ (∀ i, i < m → ct' i = nI (D i)) ∧ XT h' tsz tp rc fc nt nk lf ra V kw tw pf fr cl flt plc s m ct' rn rs 0) ∨ ((∀ m D, 1 ≤ m → m ≤ 3 → dOk S m D → ¬ cutS S V rc nt j9 m D) ∧ r = -2 ∧ XT h' tsz tp rc fc nt nk lf ra V kw tw pf fr cl flt plc s cn ct rn rs 0))))) ∨ ((¬ ∃ j9, a = nI j9 ∧ j9 < 2 ^ 31 ∧ okAtom nk nt pc j9) ∧ r = -1 ∧ XT h' tsz tp rc fc nt nk lf ra V kw tw pf fr cl flt plc s cn ct rn rs 1))) := by
  obtain ⟨ns, f, g, hst, x⟩ := X
  refine MX.of [(0, .ref 1), (1, .int a)] (by decide) rfl (Nat.le_of_ble_eq_true rfl) rfl ?_
  refine x_aload_n dX11_go_0 rfl ?_
  refine x_get lf_X11_16 dX11_go_1 x.c rfl ?_
  refine x_iload_n dX11_go_4 rfl ?_
  refine x_callV (As := [.int a]) (st := []) lv_X11_140 (k_X0_hasAtom x.b.1.1 x.b.1.2.1 x.b.1.2.2.1 x.b.2.2.2.1 c.2.1 c.1.2.1 c.1.1) dX11_go_5 x.b.1.1 rfl rfl (Nat.le_of_ble_eq_true rfl) ⟨by decide, by decide⟩ ⟨by decide, by decide⟩ (fun v9 h9 q => ?_) (fun _ _ _ _ _ q => by obtain ⟨_, q, _⟩ := q; cases q)
  obtain ⟨b9, ev, eh, hb9⟩ := q
  rw [eh]
  cases ev
  refine x_if_ne 17 dX11_go_8 (by decide) (fun c_8 => ?_) (fun c_8 => ?_)
  · have c_8 := bi_t c_8
    obtain ⟨n, rfl, hn31, hok⟩ := hb9.mp c_8
    have hn := okAtom_lt hok c.1.2.1
    refine x_aload_n dX11_go_17 rfl ?_
    refine x_callV (As := []) (st := []) lv_X11_156 (k_X11_settled x c hs hst) dX11_go_18 x.c rfl rfl (Nat.le_of_ble_eq_true rfl) ⟨by decide, by decide⟩ ⟨by decide, by decide⟩ (fun v1 h1 q => ?_) (fun _ _ _ _ _ q => by cases q.1)
    obtain ⟨ev, w1, f1, g1, st1, x1⟩ := q
    cases ev
    obtain ⟨c1, clk1, m1⟩ := x1.m
    obtain ⟨⟨rf1, hrs1, hrf1⟩, hrl1⟩ := x1.b.1.2.2.2.2.2.1
    refine x_iload_n dX11_go_21 rfl ?_
    refine x_callV (As := [.int (nI n)]) (st := []) lv_X11_160 (k_X5_has (n := n) m1.1 m1.2.1 st1.1 hn) dX11_go_22 m1.1 rfl rfl (Nat.le_of_ble_eq_true rfl) ⟨by decide, by decide⟩ ⟨by decide, by decide⟩ (fun v hq9 q => ?_) (fun _ _ _ _ _ q => by cases q.1)
    obtain ⟨ev, eh⟩ := q
    rw [eh]
    cases ev
    refine x_if_ne 34 dX11_go_25 (by decide) (fun c_25 => ?_) (fun c_25 => ?_)
    · have c_25 := bi_t c_25
      refine x_aload_n dX11_go_34 rfl ?_
      refine x_get lf_X11_16 dX11_go_35 x1.c rfl ?_
      refine x_get lf_X11_249 dX11_go_38 x1.b.1.1 rfl ?_
      refine x_bipush (v := 12) dX11_go_41 (by decide) ?_
      refine x_icmp_le 53 dX11_go_43 (by decide) (fun c_43 => ?_) (fun c_43 => ?_)
      · refine x_aload_n dX11_go_53 rfl ?_
        refine x_iconst (v := 0) dX11_go_54 (by decide) ?_
        refine x_put [.ref 2, .int (nI tsz), .ref 3, .ref 181, .ref 187, .ref 190, .ref 192, .int (bi true), .ref 196, .ref 200, .ref 204, .int (nI rn), .int 0] lf_X11_89 dX11_go_55 x1.c (Nat.le_of_ble_eq_true rfl) rfl rfl rfl ?_
        have hf8 : xfr h1 (xup h1 1 (.inr (11, [.ref 2, .int (nI tsz), .ref 3, .ref 181, .ref 187, .ref 190, .ref 192, .int (bi true), .ref 196, .ref 200, .ref 204, .int (nI rn), .int 0]))) [1] := (xfr_rf _ _).up (by decide)
        have x8 : XH (xup h1 1 (.inr (11, [.ref 2, .int (nI tsz), .ref 3, .ref 181, .ref 187, .ref 190, .ref 192, .int (bi true), .ref 196, .ref 200, .ref 204, .int (nI rn), .int 0]))) tsz tp rc fc nt nk lf ra V kw tw pf fr cl flt plc true f1 g1 cn ct rn rs 0 := ⟨(by rw [hf8.1]; exact x1.n), (xup_self _ _ _), (hf8.at x1.t (by decide)), (x1.b.kp hf8 (by decide)), (x1.r.kp hf8 (by decide)), (jnI_kp x1.j hf8 (by decide)), (x1.g.kp hf8 (by decide)), (md_kp x1.m hf8 (by decide)), (x1.s.kp hf8 (by decide)), (x1.k.kp hf8 (by decide)), (hf8.at x1.e (by decide))⟩
        have w8 := w1.tr (xKp.of hf8 (by decide))
        generalize xup h1 1 (.inr (11, [.ref 2, .int (nI tsz), .ref 3, .ref 181, .ref 187, .ref 190, .ref 192, .int (bi true), .ref 196, .ref 200, .ref 204, .int (nI rn), .int 0])) = h8 at hf8 x8 w8
        obtain ⟨gl9, kb9, cc9, ca9, pk9, k1, k2⟩ := x8.k
        have hct : fb_ct S 1000 ≤ 12 := by rw [hfc] at c_43; exact (nI_leI (b := 12) (Nat.lt_of_le_of_lt (fb_ct_le _ _) (by omega)) (by omega)).mp c_43
        refine x_aload_n dX11_go_58 rfl ?_
        refine x_get lf_X11_62 dX11_go_59 x8.c rfl ?_
        refine x_iload_n dX11_go_62 rfl ?_
        refine x_callV (As := [.int (nI n)]) (st := []) lv_X11_252 (k_X1_aimAt x8.b ⟨k1, k2⟩ c.2.2.2.2.2.2.2 hct hn c.1.2.2 c.2.2.1) dX11_go_63 k1 rfl rfl (Nat.le_of_ble_eq_true rfl) ⟨by decide, by decide⟩ ⟨by decide, by decide⟩ (fun v3 h3 q => ?_) (fun _ _ _ _ _ q => by cases q.1)
        obtain ⟨ev, w3, m9, N, cd, ca, e3, hm9, hk, hcl, hN, hcd, hca⟩ := q
        cases ev
        have x3 : XH h3 tsz tp rc fc nt nk lf ra V kw tw pf fr cl flt plc true f1 g1 cn ct rn rs 0 := ⟨(by rw [w3.1]; exact x8.n), w3.at x8.c (by decide), w3.at x8.t (by decide), x8.b.kp w3 (by decide), x8.r.kp w3 (by decide), jnI_kp x8.j w3 (by decide), x8.g.kp w3 (by decide), md_kp x8.m w3 (by decide), x8.s.kp w3 (by decide), e3.H, w3.at x8.e (by decide)⟩
        refine x_iconst (v := 1) dX11_go_66 (by decide) ?_
        refine x_istore_n [(0, .ref 1), (1, .int (nI n)), (2, .int 1)] dX11_go_67 (by decide) rfl rfl ?_
        exact l_X11_go (tr := 0) st1 c hs hn hok c_25 hct hm9 hk hcl hN hcd hca 4 1 pk9 h3 (by omega) (by omega) (by omega) (w8.tr (xKp.of w3 (by decide))) x3 e3 (fun m P a b => absurd a (by omega))
      · refine x_aload_n dX11_go_46 rfl ?_
        refine x_bipush (v := 6) dX11_go_47 (by decide) ?_
        refine x_callV (As := [.int 6]) (st := []) lv_X11_77 (k_X11_refuse x1) dX11_go_49 x1.c rfl rfl (Nat.le_of_ble_eq_true rfl) ⟨by decide, by decide⟩ ⟨by decide, by decide⟩ (fun v9 h9 q => ?_) (fun _ _ _ _ _ q => by cases q.1)
        obtain ⟨ev, w9, x9⟩ := q
        cases ev
        first | exact x_iret dX11_go_52 rfl rfl (Nat.le_refl _) (Nat.le_refl _) ⟨w1.tr w9, _, rfl, Or.inl ⟨n, rfl, hok, Or.inl ⟨opt_no c_25, rfl, ⟨true, f1, g1, fun _ => st1, x9⟩⟩⟩⟩ | exact x_iret dX11_go_52 rfl rfl (Nat.le_refl _) (Nat.le_refl _) ⟨w1.tr w9, _, rfl, Or.inl ⟨n, rfl, hok, Or.inr (Or.inl ⟨c_25, (by rw [hfc] at c_43; have := mt (nI_leI (b := 12) (Nat.lt_of_le_of_lt (fb_ct_le _ _) (by omega)) (by omega)).mpr c_43; omega), rfl, ⟨true, f1, g1, fun _ => st1, x9⟩⟩)⟩⟩
    · have c_25 := bi_f c_25
      refine x_aload_n dX11_go_28 rfl ?_
      refine x_iconst (v := 5) dX11_go_29 (by decide) ?_
      refine x_callV (As := [.int 5]) (st := []) lv_X11_77 (k_X11_refuse x1) dX11_go_30 x1.c rfl rfl (Nat.le_of_ble_eq_true rfl) ⟨by decide, by decide⟩ ⟨by decide, by decide⟩ (fun v9 h9 q => ?_) (fun _ _ _ _ _ q => by cases q.1)
      obtain ⟨ev, w9, x9⟩ := q
      cases ev
      first | exact x_iret dX11_go_33 rfl rfl (Nat.le_refl _) (Nat.le_refl _) ⟨w1.tr w9, _, rfl, Or.inl ⟨n, rfl, hok, Or.inl ⟨opt_no c_25, rfl, ⟨true, f1, g1, fun _ => st1, x9⟩⟩⟩⟩ | exact x_iret dX11_go_33 rfl rfl (Nat.le_refl _) (Nat.le_refl _) ⟨w1.tr w9, _, rfl, Or.inl ⟨n, rfl, hok, Or.inr (Or.inl ⟨c_25, (by rw [hfc] at c_43; have := mt (nI_leI (b := 12) (Nat.lt_of_le_of_lt (fb_ct_le _ _) (by omega)) (by omega)).mpr c_43; omega), rfl, ⟨true, f1, g1, fun _ => st1, x9⟩⟩)⟩⟩
  · have c_8 := bi_f c_8
    refine x_aload_n dX11_go_11 rfl ?_
    refine x_iconst (v := 1) dX11_go_12 (by decide) ?_
    refine x_callV (As := [.int 1]) (st := []) lv_X11_77 (k_X11_refuse x) dX11_go_13 x.c rfl rfl (Nat.le_of_ble_eq_true rfl) ⟨by decide, by decide⟩ ⟨by decide, by decide⟩ (fun v9 h9 q => ?_) (fun _ _ _ _ _ q => by cases q.1)
    obtain ⟨ev, w9, x9⟩ := q
    cases ev
    exact x_iret dX11_go_16 rfl rfl (Nat.le_refl _) (Nat.le_refl _) ⟨w9, _, rfl, Or.inr ⟨fun q => (by rw [hb9.mpr q] at c_8; cases c_8), rfl, ⟨ns, f, g, hst, x9⟩⟩⟩
