/-! the court: RULES and TERMS, why, how far -/
def plH (pc : Nat → Nat) (t : Nat → Int32) : Prop := (t 2 = -1 ↔ pc (t 1).toNatClampNeg = 0) ∧ (t 3 = -1 ↔ pc (t 1).toNatClampNeg < 2)
/-- what more holds of the RULES: SIGNS in their order, PLACES, a THING for each SIGN -/
def cOk2 (rc nk : Nat) (V : Nat → RV) (pc : Nat → Nat) : Prop := ∀ r, r < rc → ordR (V r) ∧ mS (V r) (V r).2.2.1 = (V r).2.2.2.2 ∧ plH pc (V r).1 ∧ (∀ i, i < (V r).2.2.1 → ¬ (V r).2.1 i 0 = 2 → plH pc ((V r).2.1 i) ∧ rvK (V r) i < nk) ∧ ∀ s, s < mS (V r) (V r).2.2.1 → ∃ i, i < (V r).2.2.1 ∧ (V r).2.1 i 0 = 0 ∧ sgIn ((V r).2.1 i) s
theorem hd_ok {nk nt : Nat} {pc : Nat → Nat} {v : RV} {n : Nat} (hp : plH pc v.1) (hk : rvH v = n / 100) (hok : okAtom nk nt pc n) : plN v n ∧ (¬ v.1 2 < 100 → n / 10 % 10 < nt) ∧ (¬ v.1 3 < 100 → n % 10 < nt) := by
  have hk : (v.1 1).toNatClampNeg = n / 100 := hk
  obtain ⟨p1, p2⟩ := hp
  rw [hk] at p1 p2
  obtain ⟨-, o1, o2⟩ := hok
  refine ⟨⟨fun e => ?_, fun e => ?_⟩, fun e => ?_, fun e => ?_⟩
  · rw [if_neg (by have := p1.mp e; omega)] at o1; exact o1
  · rw [if_neg (by have := p2.mp e; omega)] at o2; exact o2
  · rw [if_pos (by
      rcases Nat.eq_zero_or_pos (pc (n / 100)) with z | z
      · exact absurd (by rw [p1.mpr z]; decide) e
      · exact z)] at o1; exact o1
  · rw [if_pos (by
      rcases Nat.lt_or_ge (pc (n / 100)) 2 with z | z
      · exact absurd (by rw [p2.mpr z]; decide) e
      · omega)] at o2; exact o2
def tmW (f : Nat → Int32) (w : Int32) : Int32 := if w = 0 then f 0 else if w = 1 then f 1 else if w = 2 then f 2 else if w = 3 then f 3 else -1
theorem tmW_out {f : Nat → Int32} {k : Int32} (h : k.toInt < 0 ∨ 3 < k.toInt) : -1 = tmW f k := by
  have e : ∀ j : Int32, 0 ≤ j.toInt → j.toInt ≤ 3 → ¬ k = j := fun j a b z => by rw [z] at h; omega
  rw [tmW, if_neg (e 0 (by decide) (by decide)), if_neg (e 1 (by decide) (by decide)), if_neg (e 2 (by decide) (by decide)), if_neg (e 3 (by decide) (by decide))]
def tmS (V : Nat → RV) (rc : Nat) (k i : Int32) (r j : Nat) : Prop := r < rc ∧ k = nI r ∧ j < (V r).2.2.1 ∧ i = nI j
set_option maxRecDepth 100000 in
set_option maxHeartbeats 4000000 in
theorem k_X11_term {G : xG} {h : xHp} {tsz : Nat} {tp : Nat → Int32} {rc : Nat} {fc : Int32} {nt : Nat} {nk : Nat} {lf : Nat → Int32} {ra : Nat → Nat} {V : Nat → RV} {kw : Nat → Int64} {tw : Nat → Int64} {pf : Nat → Int32} {fr : Nat → Int32} {cl : Int32} {flt : Int32} {plc : Int32} {s : Nat → Option Nat} {cn : Nat} {ct : Nat → Int32} {rn : Nat} {rs : Nat → Int32} {tr : Int32} (X : XT h tsz tp rc fc nt nk lf ra V kw tw pf fr cl flt plc s cn ct rn rs tr) {pc : Nat → Nat} {L : Nat → Nat} {S : Nat → Bool} (c : cOk rc nt nk V pf pc lf L fr S) {k i w : Int32} : MX G mX11_term 2 0 0 [.ref 1, .int k, .int i, .int w] h (fun o h' => ∃ r, o = .inl (some (.int r)) ∧ h' = h ∧ ((∃ ρ j, tmS V rc k i ρ j ∧ r = tmW ((V ρ).2.1 j) w) ∨ ((¬ ∃ ρ j, tmS V rc k i ρ j) ∧ r = -1))) := by
  obtain ⟨ns, f, g, hst, x⟩ := X
  obtain ⟨⟨rf, hrs1, hrf⟩, hrl⟩ := x.b.1.2.2.2.2.2.1
  have hra := x.b.1.2.2.2.2.2.2
  have hc20 := c.1.2.2
  refine MX.of [(0, .ref 1), (1, .int k), (2, .int i), (3, .int w)] (by decide) rfl (Nat.le_of_ble_eq_true rfl) rfl ?_
  refine x_aload_n dX11_term_0 rfl ?_
  refine x_get lf_X11_16 dX11_term_1 x.c rfl ?_
  refine x_iload_n dX11_term_4 rfl ?_
  refine x_callV (As := [.int k]) (st := []) lv_X11_147 (k_X0_hasRule x.b.1.1) dX11_term_5 x.b.1.1 rfl rfl (Nat.le_of_ble_eq_true rfl) ⟨by decide, by decide⟩ ⟨by decide, by decide⟩ (fun v h1 q => ?_) (fun _ _ _ _ _ q => by cases q.1)
  obtain ⟨ev, eh⟩ := q
  rw [eh]
  cases ev
  refine x_if_eq 31 dX11_term_8 (by decide) (fun c_8 => ?_) (fun c_8 => ?_)
  · have c_8 := bi_f c_8
    refine x_iconst (v := (-1)) dX11_term_31 (by decide) ?_
    exact x_iret dX11_term_32 rfl rfl (Nat.le_refl _) (Nat.le_refl _) ⟨_, rfl, rfl, Or.inr ⟨by rintro ⟨r, j, q1, rfl, -⟩; rw [inR_nI (by omega) (by omega)] at c_8; simp [q1] at c_8, rfl⟩⟩
  · have c_8 := bi_t c_8
    obtain ⟨r9, hr9, rfl⟩ := inR_of c_8 (by omega)
    have hsz := (c.2.2.1 r9 hr9).1
    refine x_iload_n dX11_term_11 rfl ?_
    refine x_if_lt 31 dX11_term_12 (by decide) (fun c_12 => ?_) (fun c_12 => ?_)
    · refine x_iconst (v := (-1)) dX11_term_31 (by decide) ?_
      exact x_iret dX11_term_32 rfl rfl (Nat.le_refl _) (Nat.le_refl _) ⟨_, rfl, rfl, Or.inr ⟨by rintro ⟨r, j, q1, q2, q3, rfl⟩; have q2 := (nI_eq (by omega) (by omega)).mp q2; subst q2; exact nI_pos (by omega) c_12, rfl⟩⟩
    · obtain ⟨j9, hj9, rfl⟩ := nI_of c_12
      refine x_iload_n dX11_term_15 rfl ?_
      refine x_aload_n dX11_term_16 rfl ?_
      refine x_get lf_X11_16 dX11_term_17 x.c rfl ?_
      refine x_get lf_X11_175 dX11_term_20 x.b.1.1 rfl ?_
      refine x_iload_n dX11_term_23 rfl ?_
      refine x_aaldN (b := ra r9) (j := r9) hrs1 rfl rfl (by omega) (by decide) (hrf r9 (by omega)) dX11_term_24 ?_
      refine x_get lf_X11_187 dX11_term_25 (hrl r9 (by omega)).1 rfl ?_
      refine x_icmp_lt 33 dX11_term_28 (by decide) (fun c_28 => ?_) (fun c_28 => ?_)
      · rw [nI_ltI (by omega) (by omega)] at c_28
        refine x_aload_n dX11_term_33 rfl ?_
        refine x_get lf_X11_16 dX11_term_34 x.c rfl ?_
        refine x_get lf_X11_175 dX11_term_37 x.b.1.1 rfl ?_
        refine x_iload_n dX11_term_40 rfl ?_
        refine x_aaldN (b := ra r9) (j := r9) hrs1 rfl rfl (by omega) (by decide) (hrf r9 (by omega)) dX11_term_41 ?_
        refine x_get lf_X11_193 dX11_term_42 (hrl r9 (by omega)).1 rfl ?_
        refine x_iload_n dX11_term_45 rfl ?_
        refine x_aaldN (b := ra r9 + 4 + j9) (j := j9) (hrl r9 (by omega)).2.2.1 rfl rfl (by omega) (by decide) (rTs_at (by omega)) dX11_term_46 ?_
        refine x_astore [(0, .ref 1), (1, .int (nI r9)), (2, .int (nI j9)), (3, .int w), (4, .ref (ra r9 + 4 + j9))] dX11_term_47 (by decide) rfl rfl ?_
        refine x_iload_n dX11_term_49 rfl ?_
        rcases sw4 w with rfl | rfl | rfl | rfl | e9
        · refine x_tswIn (off := 30) 80 dX11_term_50 (by decide) (by decide) (by decide) (by decide) ?_
          refine x_aload dX11_term_80 rfl ?_
          refine x_get lf_X11_197 dX11_term_82 ((hrl r9 (by omega)).2.2.2.2 j9 (by omega)) rfl ?_
          exact x_iret dX11_term_85 rfl rfl (Nat.le_refl _) (Nat.le_refl _) ⟨_, rfl, rfl, Or.inl ⟨r9, j9, ⟨hr9, rfl, by omega, rfl⟩, rfl⟩⟩
        · refine x_tswIn (off := 36) 86 dX11_term_50 (by decide) (by decide) (by decide) (by decide) ?_
          refine x_aload dX11_term_86 rfl ?_
          refine x_get lf_X11_210 dX11_term_88 ((hrl r9 (by omega)).2.2.2.2 j9 (by omega)) rfl ?_
          exact x_iret dX11_term_91 rfl rfl (Nat.le_refl _) (Nat.le_refl _) ⟨_, rfl, rfl, Or.inl ⟨r9, j9, ⟨hr9, rfl, by omega, rfl⟩, rfl⟩⟩
        · refine x_tswIn (off := 42) 92 dX11_term_50 (by decide) (by decide) (by decide) (by decide) ?_
          refine x_aload dX11_term_92 rfl ?_
          refine x_get lf_X11_243 dX11_term_94 ((hrl r9 (by omega)).2.2.2.2 j9 (by omega)) rfl ?_
          exact x_iret dX11_term_97 rfl rfl (Nat.le_refl _) (Nat.le_refl _) ⟨_, rfl, rfl, Or.inl ⟨r9, j9, ⟨hr9, rfl, by omega, rfl⟩, rfl⟩⟩
        · refine x_tswIn (off := 48) 98 dX11_term_50 (by decide) (by decide) (by decide) (by decide) ?_
          refine x_aload dX11_term_98 rfl ?_
          refine x_get lf_X11_246 dX11_term_100 ((hrl r9 (by omega)).2.2.2.2 j9 (by omega)) rfl ?_
          exact x_iret dX11_term_103 rfl rfl (Nat.le_refl _) (Nat.le_refl _) ⟨_, rfl, rfl, Or.inl ⟨r9, j9, ⟨hr9, rfl, by omega, rfl⟩, rfl⟩⟩
        · refine x_tswOut 104 dX11_term_50 e9 (by decide) ?_
          refine x_iconst (v := (-1)) dX11_term_104 (by decide) ?_
          exact x_iret dX11_term_105 rfl rfl (Nat.le_refl _) (Nat.le_refl _) ⟨_, rfl, rfl, Or.inl ⟨r9, j9, ⟨hr9, rfl, by omega, rfl⟩, tmW_out e9⟩⟩
      · rw [nI_ltI (by omega) (by omega)] at c_28
        refine x_iconst (v := (-1)) dX11_term_31 (by decide) ?_
        exact x_iret dX11_term_32 rfl rfl (Nat.le_refl _) (Nat.le_refl _) ⟨_, rfl, rfl, Or.inr ⟨by rintro ⟨r, j, q1, q2, q3, q4⟩; have q2 := (nI_eq (by omega) (by omega)).mp q2; subst q2; have q4 := (nI_eq (by omega) (by omega)).mp q4; omega, rfl⟩⟩
theorem u_wo {rc nt nk : Nat} {V : Nat → RV} {k : Nat} (hk : k < rc) (hrc : rc ≤ 20) (hnk : nk ≤ 10) (hh : ∀ r, r < rc → rvH (V r) < nk) : ∀ r, r < rc → ((fun r => decide (r ≠ k)) r = true ↔ ¬ nI r = nI k ∧ ¬ (((1023 : Int32) >>> (nI (rvH (V r)) &&& 31)) &&& 1) = 0) := by
  intro r hr
  have h1 := hh r hr
  rw [nI_eq (by omega) (by omega)]
  simp only [decide_eq_true_eq]
  exact ⟨fun q => ⟨q, all_bit (by omega)⟩, fun q => q.1⟩
theorem cnt_eq {p q : Nat → Bool} (h1 : fb_ct (fun n => p n && !q n) 1000 = 0) (h2 : fb_ct (fun n => q n && !p n) 1000 = 0) : ∀ n, n < 1000 → p n = q n := by
  intro n hn
  have a := fb_ct_zero.mp h1 n hn
  have b := fb_ct_zero.mp h2 n hn
  cases e1 : p n <;> cases e2 : q n <;> simp [e1, e2] at a b ⊢
theorem cnt_ne {p q : Nat → Bool} (h : ∀ n, n < 1000 → p n = q n) : fb_ct (fun n => p n && !q n) 1000 = 0 := fb_ct_zero.mpr (fun n hn => by rw [h n hn]; cases q n <;> rfl)
set_option maxRecDepth 100000 in
set_option maxHeartbeats 4000000 in
theorem k_X11_isSpare {G : xG} {tsz : Nat} {tp : Nat → Int32} {rc : Nat} {fc : Int32} {nt : Nat} {nk : Nat} {lf : Nat → Int32} {ra : Nat → Nat} {V : Nat → RV} {kw : Nat → Int64} {tw : Nat → Int64} {pf : Nat → Int32} {fr : Nat → Int32} {cl : Int32} {flt : Int32} {plc : Int32} {s : Nat → Option Nat} {cn : Nat} {ct : Nat → Int32} {rn : Nat} {rs : Nat → Int32} {tr : Int32} {f1 g1 : Nat → Int32} {h1 : xHp} (st1 : stl s f1 g1) (x1 : XH h1 tsz tp rc fc nt nk lf ra V kw tw pf fr cl flt plc true f1 g1 cn ct rn rs tr) {pc : Nat → Nat} {L : Nat → Nat} {S : Nat → Bool} (c : cOk rc nt nk V pf pc lf L fr S) {k9 : Nat} (hk9 : k9 < rc) {s3 : Nat → Option Nat} (hs3 : IsSt S V rc (fun r => decide (r ≠ k9)) nt s3) : MX G mX11_isSpare 15 0 0 [.ref 1, .int (nI k9), .ref 192] h1 (fun o h' => ∃ b : Bool, o = .inl (some (.int (bi b))) ∧ xKp h1 h' ∧ XH h' tsz tp rc fc nt nk lf ra V kw tw pf fr cl flt plc true f1 g1 cn ct rn rs tr ∧ (b = true ↔ ∀ n, n < 1000 → (s n).isSome = (s3 n).isSome)) := by
  obtain ⟨c1, clk1, m1⟩ := x1.m
  obtain ⟨⟨rf1, hrs1, hrf1⟩, hrl1⟩ := x1.b.1.2.2.2.2.2.1
  refine MX.of [(0, .ref 1), (1, .int (nI k9)), (2, .ref 192)] (by decide) rfl (Nat.le_of_ble_eq_true rfl) rfl ?_
  refine x_aload_n dX11_isSpare_0 rfl ?_
  refine x_get lf_X11_54 dX11_isSpare_1 x1.c rfl ?_
  refine x_aload_n dX11_isSpare_4 rfl ?_
  refine x_get lf_X11_16 dX11_isSpare_5 x1.c rfl ?_
  refine x_get lf_X11_228 dX11_isSpare_8 x1.b.1.1 rfl ?_
  obtain ⟨f5, g5, c5, clk5, m5, z5⟩ := x1.s
  refine x_callV (As := [.ref 12]) (st := []) lv_X11_231 (k_X5_start (a := 196) m5 x1.b.2.2.2.2.1 c.2.2.2.2.2.2.2 (okMd_ne (md := 196))) dX11_isSpare_11 m5.1 rfl rfl (Nat.le_of_ble_eq_true rfl) ⟨by decide, by decide⟩ ⟨by decide, by decide⟩ (fun v h2 q => ?_) (fun _ _ _ _ _ q => by cases q.1)
  obtain ⟨ev, f2, g2, c2, m2, i2, -, -, k2, w2⟩ := q
  cases ev
  rw [k2 rfl] at m2
  refine x_aload_n dX11_isSpare_14 rfl ?_
  refine x_get lf_X11_41 dX11_isSpare_15 (w2.at x1.c (by decide)) rfl ?_
  refine x_aload_n dX11_isSpare_18 rfl ?_
  refine x_get lf_X11_54 dX11_isSpare_19 (w2.at x1.c (by decide)) rfl ?_
  refine x_iload_n dX11_isSpare_22 rfl ?_
  refine x_sipush (v := 1023) dX11_isSpare_23 (by decide) ?_
  refine x_iconst (v := (-1)) dX11_isSpare_26 (by decide) ?_
  obtain ⟨rn9, hrn9⟩ := x1.g.2
  have hH1 : jgH h2 h2 rc fc nt nk lf ra V 196 false (f2, g5, c2, 0, 0, false, fun _ => 0) rn9 := ⟨x1.b.1.kept w2 (by decide), w2.at x1.g.1 (by decide), w2.at hrn9 (by decide), jnI_kp x1.j w2 (by decide), m2, xfr_rf _ _⟩
  refine x_callV (As := [.ref 196, .int (nI k9), .int 1023, .int (-1)]) (st := []) lv_X11_235 (k_X3_settle hs3 c.2.2.1 c.1.1 c.2.2.2.2.1 c.2.2.2.2.2.1 c.2.2.2.2.2.2.1 c.1.2.2 (Or.inr rfl) (u_wo (nt := nt) hk9 c.1.2.2 c.1.2.1 c.2.2.2.1) (Or.inl rfl) c.1.2.1 c.2.2.2.1 hH1 (bs_start hs3 i2 (fun z => by cases z) (fun _ => z5))) dX11_isSpare_27 (w2.at x1.g.1 (by decide)) rfl rfl (Nat.le_of_ble_eq_true rfl) ⟨by decide, by decide⟩ ⟨by decide, by decide⟩ (fun v h4 q => ?_) (fun _ _ _ _ _ q => by cases q.1)
  obtain ⟨ev, σ4, rn4, m4, j4, n4, w4, r4⟩ := q
  cases ev
  have w5 : xfr h1 h4 [191, 187, 188, 189, 196, 197, 198, 199] := (w2.wd (by decide)).tr w4
  have i4 := jgR_rows r4
  have m1b := md_kp ⟨c1, clk1, m1⟩ w5 (by decide)
  obtain ⟨c6, clk6, m6⟩ := m1b
  refine x_aload_n dX11_isSpare_30 rfl ?_
  refine x_get lf_X11_54 dX11_isSpare_31 (w5.at x1.c (by decide)) rfl ?_
  refine x_aload_n dX11_isSpare_34 rfl ?_
  refine x_callV (As := [.ref 192]) (st := []) lv_X11_239 (k_X5_countBeyond m4.1 m4.2.1 m6.1 m6.2.1 i4 st1.1) dX11_isSpare_35 m4.1 rfl rfl (Nat.le_of_ble_eq_true rfl) ⟨by decide, by decide⟩ ⟨by decide, by decide⟩ (fun v h7 q => ?_) (fun _ _ _ _ _ q => by cases q.1)
  obtain ⟨ev, eh⟩ := q
  rw [eh]
  cases ev
  refine x_if_ne 56 dX11_isSpare_38 (by decide) (fun c_38 => ?_) (fun c_38 => ?_)
  · refine x_iconst (v := 0) dX11_isSpare_56 (by decide) ?_
    have hx4 : XH h4 tsz tp rc fc nt nk lf ra V kw tw pf fr cl flt plc true f1 g1 cn ct rn rs tr := ⟨(by rw [w5.1]; exact x1.n), w5.at x1.c (by decide), w5.at x1.t (by decide), x1.b.kp w5 (by decide), x1.r.kp w5 (by decide), j4, ⟨w5.at x1.g.1 (by decide), rn4, n4⟩, ⟨_, _, m6⟩, ⟨σ4.1, σ4.2.1, σ4.2.2.1, σ4.2.2.2.1, m4, r4.2.2.1 rfl⟩, x1.k.kp w5 (by decide), w5.at x1.e (by decide)⟩
    refine x_iret dX11_isSpare_57 rfl rfl (Nat.le_refl _) (Nat.le_refl _) ⟨false, rfl, xKp.of w5 (by decide), hx4, ?_⟩
    refine ⟨fun q => (by cases q), fun q => ?_⟩
    first | exact absurd (by rw [cnt_ne (p := fun m => (s m).isSome) (q := fun m => (s3 m).isSome) q]; rfl) c_49 | exact absurd (by rw [cnt_ne (p := fun m => (s3 m).isSome) (q := fun m => (s m).isSome) (fun n hn => (q n hn).symm)]; rfl) c_38
  · refine x_aload_n dX11_isSpare_41 rfl ?_
    refine x_aload_n dX11_isSpare_42 rfl ?_
    refine x_get lf_X11_54 dX11_isSpare_43 (w5.at x1.c (by decide)) rfl ?_
    refine x_callV (As := [.ref 196]) (st := []) lv_X11_239 (k_X5_countBeyond m6.1 m6.2.1 m4.1 m4.2.1 st1.1 i4) dX11_isSpare_46 m6.1 rfl rfl (Nat.le_of_ble_eq_true rfl) ⟨by decide, by decide⟩ ⟨by decide, by decide⟩ (fun v h7 q => ?_) (fun _ _ _ _ _ q => by cases q.1)
    obtain ⟨ev, eh⟩ := q
    rw [eh]
    cases ev
    refine x_if_ne 56 dX11_isSpare_49 (by decide) (fun c_49 => ?_) (fun c_49 => ?_)
    · refine x_iconst (v := 0) dX11_isSpare_56 (by decide) ?_
      have hx4 : XH h4 tsz tp rc fc nt nk lf ra V kw tw pf fr cl flt plc true f1 g1 cn ct rn rs tr := ⟨(by rw [w5.1]; exact x1.n), w5.at x1.c (by decide), w5.at x1.t (by decide), x1.b.kp w5 (by decide), x1.r.kp w5 (by decide), j4, ⟨w5.at x1.g.1 (by decide), rn4, n4⟩, ⟨_, _, m6⟩, ⟨σ4.1, σ4.2.1, σ4.2.2.1, σ4.2.2.2.1, m4, r4.2.2.1 rfl⟩, x1.k.kp w5 (by decide), w5.at x1.e (by decide)⟩
      refine x_iret dX11_isSpare_57 rfl rfl (Nat.le_refl _) (Nat.le_refl _) ⟨false, rfl, xKp.of w5 (by decide), hx4, ?_⟩
      refine ⟨fun q => (by cases q), fun q => ?_⟩
      first | exact absurd (by rw [cnt_ne (p := fun m => (s m).isSome) (q := fun m => (s3 m).isSome) q]; rfl) c_49 | exact absurd (by rw [cnt_ne (p := fun m => (s3 m).isSome) (q := fun m => (s m).isSome) (fun n hn => (q n hn).symm)]; rfl) c_38
    · refine x_iconst (v := 1) dX11_isSpare_52 (by decide) ?_
      refine x_goto 57 dX11_isSpare_53 (by decide) ?_
      have hx4 : XH h4 tsz tp rc fc nt nk lf ra V kw tw pf fr cl flt plc true f1 g1 cn ct rn rs tr := ⟨(by rw [w5.1]; exact x1.n), w5.at x1.c (by decide), w5.at x1.t (by decide), x1.b.kp w5 (by decide), x1.r.kp w5 (by decide), j4, ⟨w5.at x1.g.1 (by decide), rn4, n4⟩, ⟨_, _, m6⟩, ⟨σ4.1, σ4.2.1, σ4.2.2.1, σ4.2.2.2.1, m4, r4.2.2.1 rfl⟩, x1.k.kp w5 (by decide), w5.at x1.e (by decide)⟩
      refine x_iret dX11_isSpare_57 rfl rfl (Nat.le_refl _) (Nat.le_refl _) ⟨true, rfl, xKp.of w5 (by decide), hx4, ?_⟩
      have z1 := (nI_eq (a := _) (b := 0) (Nat.lt_of_le_of_lt (fb_ct_le _ _) (by omega)) (by omega)).mp c_38
      have z2 := (nI_eq (a := _) (b := 0) (Nat.lt_of_le_of_lt (fb_ct_le _ _) (by omega)) (by omega)).mp c_49
      exact ⟨fun _ n hn => (cnt_eq z1 z2 n hn).symm, fun _ => rfl⟩
/-- what rule tells -/
def rlW (V : Nat → RV) (nt : Nat) (s : Nat → Option Nat) (s3 : Nat → Nat → Option Nat) (ρ : Nat) (w r : Int32) : Prop := (w = 0 ∧ r = (V ρ).1 1) ∨ (w = 1 ∧ r = nI (V ρ).2.2.1) ∨ (w = 2 ∧ r = nI (V ρ).2.2.2.2) ∨ (w = 3 ∧ ∃ b : Bool, r = bi b ∧ (b = true ↔ ¬ canH (V ρ) nt s)) ∨ (w = 4 ∧ ∃ b : Bool, r = bi b ∧ (b = true ↔ ∀ n, n < 1000 → (s n).isSome = (s3 ρ n).isSome)) ∨ ((w.toInt < 0 ∨ 4 < w.toInt) ∧ r = -1)
theorem can_t {v : RV} {nt ρ : Nat} {s : Nat → Option Nat} {f : Nat → Int32} {θ : Nat → Option Nat} (hv : okRl nt v) (hn : nt ≤ 10) (hf : isRows f (fun n => (s n).isSome)) (h1 : ρ ≤ v.2.2.1) (h2 : pfx v nt (clT θ) f 0 ρ) (h3 : ∀ j, j ≤ v.2.2.1 → pfx v nt (clT θ) f 0 j → j ≤ ρ) : ρ < v.2.2.1 ↔ ¬ canH v nt s := by
  constructor
  · rintro h ⟨τ, q⟩
    have := h3 _ (Nat.le_refl _) ((pfx_s hv hn hf (Nat.le_refl _)).mpr ⟨τ, ext_cl θ τ, q⟩)
    omega
  · intro h
    rcases Nat.lt_or_ge ρ v.2.2.1 with z | z
    · exact z
    · have e : ρ = v.2.2.1 := by omega
      rw [e] at h2
      obtain ⟨τ, -, q⟩ := (pfx_s hv hn hf (Nat.le_refl _)).mp h2
      exact absurd ⟨τ, q⟩ h
set_option maxRecDepth 100000 in
set_option maxHeartbeats 4000000 in
theorem k_X11_rule {G : xG} {h : xHp} {tsz : Nat} {tp : Nat → Int32} {rc : Nat} {fc : Int32} {nt : Nat} {nk : Nat} {lf : Nat → Int32} {ra : Nat → Nat} {V : Nat → RV} {kw : Nat → Int64} {tw : Nat → Int64} {pf : Nat → Int32} {fr : Nat → Int32} {cl : Int32} {flt : Int32} {plc : Int32} {s : Nat → Option Nat} {cn : Nat} {ct : Nat → Int32} {rn : Nat} {rs : Nat → Int32} {tr : Int32} (X : XT h tsz tp rc fc nt nk lf ra V kw tw pf fr cl flt plc s cn ct rn rs tr) {pc : Nat → Nat} {L : Nat → Nat} {S : Nat → Bool} (c : cOk rc nt nk V pf pc lf L fr S) (hs : IsSt S V rc (fun _ => true) nt s) {k w : Int32} {s3 : Nat → Nat → Option Nat} (hs3 : ∀ ρ, ρ < rc → IsSt S V rc (fun r => decide (r ≠ ρ)) nt (s3 ρ)) : MX G mX11_rule 16 0 0 [.ref 1, .int k, .int w] h (fun o h' => xKp h h' ∧ XT h' tsz tp rc fc nt nk lf ra V kw tw pf fr cl flt plc s cn ct rn rs tr ∧ ∃ r, o = .inl (some (.int r)) ∧ ((∃ ρ, ρ < rc ∧ k = nI ρ ∧ rlW V nt s s3 ρ w r) ∨ (inR k rc = false ∧ r = -1))) := by
  obtain ⟨ns, f, g, hst, x⟩ := X
  obtain ⟨⟨rf, hrs1, hrf⟩, hrl⟩ := x.b.1.2.2.2.2.2.1
  have hra := x.b.1.2.2.2.2.2.2
  have hc20 := c.1.2.2
  refine MX.of [(0, .ref 1), (1, .int k), (2, .int w)] (by decide) rfl (Nat.le_of_ble_eq_true rfl) rfl ?_
  refine x_aload_n dX11_rule_0 rfl ?_
  refine x_get lf_X11_16 dX11_rule_1 x.c rfl ?_
  refine x_iload_n dX11_rule_4 rfl ?_
  refine x_callV (As := [.int k]) (st := []) lv_X11_147 (k_X0_hasRule x.b.1.1) dX11_rule_5 x.b.1.1 rfl rfl (Nat.le_of_ble_eq_true rfl) ⟨by decide, by decide⟩ ⟨by decide, by decide⟩ (fun v h1 q => ?_) (fun _ _ _ _ _ q => by cases q.1)
  obtain ⟨ev, eh⟩ := q
  rw [eh]
  cases ev
  refine x_if_ne 13 dX11_rule_8 (by decide) (fun c_8 => ?_) (fun c_8 => ?_)
  · have c_8 := bi_t c_8
    obtain ⟨r9, hr9, rfl⟩ := inR_of c_8 (by omega)
    have hsz := (c.2.2.1 r9 hr9).1
    refine x_aload_n dX11_rule_13 rfl ?_
    refine x_get lf_X11_16 dX11_rule_14 x.c rfl ?_
    refine x_get lf_X11_175 dX11_rule_17 x.b.1.1 rfl ?_
    refine x_iload_n dX11_rule_20 rfl ?_
    refine x_aaldN (b := ra r9) (j := r9) hrs1 rfl rfl (by omega) (by decide) (hrf r9 (by omega)) dX11_rule_21 ?_
    refine x_astore_n [(0, .ref 1), (1, .int (nI r9)), (2, .int w), (3, .ref (ra r9))] dX11_rule_22 (by decide) rfl rfl ?_
    refine x_iload_n dX11_rule_23 rfl ?_
    rcases sw5 w with rfl | rfl | rfl | rfl | rfl | e9
    · refine x_tswIn (off := 36) 60 dX11_rule_24 (by decide) (by decide) (by decide) (by decide) ?_
      refine x_aload_n dX11_rule_60 rfl ?_
      refine x_get lf_X11_206 dX11_rule_61 (hrl r9 (by omega)).1 rfl ?_
      refine x_get lf_X11_210 dX11_rule_64 (hrl r9 (by omega)).2.1 rfl ?_
      exact x_iret dX11_rule_67 rfl rfl (Nat.le_refl _) (Nat.le_refl _) ⟨xKp_rf h, ⟨ns, f, g, hst, x⟩, _, rfl, Or.inl ⟨r9, hr9, rfl, Or.inl ⟨rfl, rfl⟩⟩⟩
    · refine x_tswIn (off := 44) 68 dX11_rule_24 (by decide) (by decide) (by decide) (by decide) ?_
      refine x_aload_n dX11_rule_68 rfl ?_
      refine x_get lf_X11_187 dX11_rule_69 (hrl r9 (by omega)).1 rfl ?_
      exact x_iret dX11_rule_72 rfl rfl (Nat.le_refl _) (Nat.le_refl _) ⟨xKp_rf h, ⟨ns, f, g, hst, x⟩, _, rfl, Or.inl ⟨r9, hr9, rfl, Or.inr (Or.inl ⟨rfl, rfl⟩)⟩⟩
    · refine x_tswIn (off := 49) 73 dX11_rule_24 (by decide) (by decide) (by decide) (by decide) ?_
      refine x_aload_n dX11_rule_73 rfl ?_
      refine x_get lf_X11_217 dX11_rule_74 (hrl r9 (by omega)).1 rfl ?_
      exact x_iret dX11_rule_77 rfl rfl (Nat.le_refl _) (Nat.le_refl _) ⟨xKp_rf h, ⟨ns, f, g, hst, x⟩, _, rfl, Or.inl ⟨r9, hr9, rfl, Or.inr (Or.inr (Or.inl ⟨rfl, rfl⟩))⟩⟩
    · refine x_tswIn (off := 54) 78 dX11_rule_24 (by decide) (by decide) (by decide) (by decide) ?_
      refine x_aload_n dX11_rule_78 rfl ?_
      refine x_get lf_X11_32 dX11_rule_79 x.c rfl ?_
      refine x_aload_n dX11_rule_82 rfl ?_
      refine x_callV (As := []) (st := [.ref 187]) lv_X11_156 (k_X11_settled x c hs hst) dX11_rule_83 x.c rfl rfl (Nat.le_of_ble_eq_true rfl) ⟨by decide, by decide⟩ ⟨by decide, by decide⟩ (fun v1 h1 q => ?_) (fun _ _ _ _ _ q => by cases q.1)
      obtain ⟨ev, w1, f1, g1, st1, x1⟩ := q
      cases ev
      obtain ⟨c1, clk1, m1⟩ := x1.m
      obtain ⟨⟨rf1, hrs1, hrf1⟩, hrl1⟩ := x1.b.1.2.2.2.2.2.1
      obtain ⟨jm0, jr0, ja0, jd0, jw0, je0, jθ0, jl0, j1⟩ := x1.j
      refine x_aload_n dX11_rule_86 rfl ?_
      have hra1 := x1.b.1.2.2.2.2.2.2
      refine x_callV (As := [.ref 192, .ref (ra r9)]) (st := []) lv_X11_220 (k_X2_reach x1.j m1 (x1.b.1.jn (by omega)) (Or.inl rfl) (hra1 r9 (by omega)) (c.2.2.1 r9 hr9) c.1.1 (wfR_of st1.1)) dX11_rule_87 j1.1 rfl rfl (Nat.le_of_ble_eq_true rfl) ⟨by decide, by decide⟩ ⟨by decide, by decide⟩ (fun v2 h2 q => ?_) (fun _ _ _ _ _ q => by obtain ⟨_, _, _, q, _⟩ := q; cases q)
      obtain ⟨wt0, θ0, lθ, ev, j2, m2, w2⟩ := q
      obtain ⟨ρ9, e8, hρ1, hρ2, hρ3⟩ := reach_spec (cs := true) (want := wt0) (clk := clk1) (g := g1) (c := c1) (le := bfP lθ) (c.2.2.1 r9 hr9) c.1.1 (wfR_of st1.1) (okTh_cl nt θ0)
      rw [e8] at ev
      cases ev
      have hrl2 := (x1.b.kp w2 (by decide)).1.2.2.2.2.2.1.2
      refine x_aload_n dX11_rule_90 rfl ?_
      refine x_get lf_X11_187 dX11_rule_91 (hrl2 r9 (by omega)).1 rfl ?_
      refine x_icmp_ge 101 dX11_rule_94 (by decide) (fun c_94 => ?_) (fun c_94 => ?_)
      · rw [nI_leI (by omega) (by omega)] at c_94
        refine x_iconst (v := 0) dX11_rule_101 (by decide) ?_
        have hsz := (c.2.2.1 r9 hr9).1
        have hx2 : XH h2 tsz tp rc fc nt nk lf ra V kw tw pf fr cl flt plc true f1 g1 cn ct rn rs tr := ⟨(by rw [w2.1]; exact x1.n), w2.at x1.c (by decide), w2.at x1.t (by decide), x1.b.kp w2 (by decide), x1.r.kp w2 (by decide), j2, x1.g.kp w2 (by decide), ⟨_, _, m2⟩, x1.s.kp w2 (by decide), x1.k.kp w2 (by decide), w2.at x1.e (by decide)⟩
        exact x_iret dX11_rule_102 rfl rfl (Nat.le_refl _) (Nat.le_refl _) ⟨w1.tr (xKp.of w2 (by decide)), ⟨true, f1, g1, fun _ => st1, hx2⟩, _, rfl, Or.inl ⟨r9, hr9, rfl, Or.inr (Or.inr (Or.inr (Or.inl ⟨rfl, false, rfl, ⟨fun q => (by cases q), fun q => absurd ((can_t (c.2.2.1 r9 hr9) c.1.1 st1.1 hρ1 hρ2 hρ3).mpr q) (by omega)⟩⟩)))⟩⟩
      · rw [nI_leI (by omega) (by omega)] at c_94
        refine x_iconst (v := 1) dX11_rule_97 (by decide) ?_
        refine x_goto 102 dX11_rule_98 (by decide) ?_
        have hsz := (c.2.2.1 r9 hr9).1
        have hx2 : XH h2 tsz tp rc fc nt nk lf ra V kw tw pf fr cl flt plc true f1 g1 cn ct rn rs tr := ⟨(by rw [w2.1]; exact x1.n), w2.at x1.c (by decide), w2.at x1.t (by decide), x1.b.kp w2 (by decide), x1.r.kp w2 (by decide), j2, x1.g.kp w2 (by decide), ⟨_, _, m2⟩, x1.s.kp w2 (by decide), x1.k.kp w2 (by decide), w2.at x1.e (by decide)⟩
        exact x_iret dX11_rule_102 rfl rfl (Nat.le_refl _) (Nat.le_refl _) ⟨w1.tr (xKp.of w2 (by decide)), ⟨true, f1, g1, fun _ => st1, hx2⟩, _, rfl, Or.inl ⟨r9, hr9, rfl, Or.inr (Or.inr (Or.inr (Or.inl ⟨rfl, true, rfl, ⟨fun _ => (can_t (c.2.2.1 r9 hr9) c.1.1 st1.1 hρ1 hρ2 hρ3).mp (by omega), fun _ => rfl⟩⟩)))⟩⟩
    · refine x_tswIn (off := 79) 103 dX11_rule_24 (by decide) (by decide) (by decide) (by decide) ?_
      refine x_aload_n dX11_rule_103 rfl ?_
      refine x_iload_n dX11_rule_104 rfl ?_
      refine x_aload_n dX11_rule_105 rfl ?_
      refine x_callV (As := []) (st := [.int (nI r9), .ref 1]) lv_X11_156 (k_X11_settled x c hs hst) dX11_rule_106 x.c rfl rfl (Nat.le_of_ble_eq_true rfl) ⟨by decide, by decide⟩ ⟨by decide, by decide⟩ (fun v1 h1 q => ?_) (fun _ _ _ _ _ q => by cases q.1)
      obtain ⟨ev, w1, f1, g1, st1, x1⟩ := q
      cases ev
      obtain ⟨c1, clk1, m1⟩ := x1.m
      obtain ⟨⟨rf1, hrs1, hrf1⟩, hrl1⟩ := x1.b.1.2.2.2.2.2.1
      obtain ⟨jm0, jr0, ja0, jd0, jw0, je0, jθ0, jl0, j1⟩ := x1.j
      refine x_callV (As := [.int (nI r9), .ref 192]) (st := []) lv_X11_224 (k_X11_isSpare st1 x1 c hr9 (hs3 r9 hr9)) dX11_rule_109 x1.c rfl rfl (Nat.le_of_ble_eq_true rfl) ⟨by decide, by decide⟩ ⟨by decide, by decide⟩ (fun v2 h2 q => ?_) (fun _ _ _ _ _ q => by obtain ⟨_, q, _⟩ := q; cases q)
      obtain ⟨b8, ev, w2, x2, hb8⟩ := q
      cases ev
      refine x_if_eq 119 dX11_rule_112 (by decide) (fun c_112 => ?_) (fun c_112 => ?_)
      · have c_112 := bi_f c_112
        refine x_iconst (v := 0) dX11_rule_119 (by decide) ?_
        exact x_iret dX11_rule_120 rfl rfl (Nat.le_refl _) (Nat.le_refl _) ⟨w1.tr w2, ⟨true, f1, g1, fun _ => st1, x2⟩, _, rfl, Or.inl ⟨r9, hr9, rfl, Or.inr (Or.inr (Or.inr (Or.inr (Or.inl ⟨rfl, b8, by rw [c_112]; rfl, hb8⟩))))⟩⟩
      · have c_112 := bi_t c_112
        refine x_iconst (v := 1) dX11_rule_115 (by decide) ?_
        refine x_goto 120 dX11_rule_116 (by decide) ?_
        exact x_iret dX11_rule_120 rfl rfl (Nat.le_refl _) (Nat.le_refl _) ⟨w1.tr w2, ⟨true, f1, g1, fun _ => st1, x2⟩, _, rfl, Or.inl ⟨r9, hr9, rfl, Or.inr (Or.inr (Or.inr (Or.inr (Or.inl ⟨rfl, b8, by rw [c_112]; rfl, hb8⟩))))⟩⟩
    · refine x_tswOut 121 dX11_rule_24 e9 (by decide) ?_
      refine x_iconst (v := (-1)) dX11_rule_121 (by decide) ?_
      exact x_iret dX11_rule_122 rfl rfl (Nat.le_refl _) (Nat.le_refl _) ⟨xKp_rf h, ⟨ns, f, g, hst, x⟩, _, rfl, Or.inl ⟨r9, hr9, rfl, Or.inr (Or.inr (Or.inr (Or.inr (Or.inr ⟨e9, rfl⟩))))⟩⟩
  · have c_8 := bi_f c_8
    refine x_iconst (v := (-1)) dX11_rule_11 (by decide) ?_
    exact x_iret dX11_rule_12 rfl rfl (Nat.le_refl _) (Nat.le_refl _) ⟨xKp_rf h, ⟨ns, f, g, hst, x⟩, _, rfl, Or.inr ⟨c_8, rfl⟩⟩
