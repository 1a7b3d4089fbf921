/-! the court: comes, why -/
theorem opt_yes {o : Option Nat} (h : o.isSome = true) : ∃ d, o = some d := by
  cases o with
  | none => cases h
  | some d => exact ⟨d, rfl⟩
theorem opt_no {o : Option Nat} (h : o.isSome = false) : o = none := by
  cases o with
  | none => rfl
  | some d => cases h
theorem com_spec {v : RV} {nt n : Nat} {s : Nat → Option Nat} {cs : Bool} {f g c le : Nat → Int32} {wt clk : Int32} {θ0 : Nat → Option Nat} (hv : okRl nt v) (hn : nt ≤ 10) (hf : isRows f (fun n => (s n).isSome)) (hp : plN v n) (h2 : ¬ v.1 2 < 100 → n / 10 % 10 < nt) (h3 : ¬ v.1 3 < 100 → n % 10 < nt) : comR v nt s n (if (bhP v n (clT θ0)).1 = true then (wkP v nt cs 1 wt v.2.2.1 0 0 (bhP v n (clT θ0)).2 (f, g, c, clk, 0, false, le)).2.2.2.2.1 else -2) := by
  have hb := bh_spec (θ := θ0) hv hn hp
  cases e : (bhP v n (clT θ0)).1 with
  | false => rw [if_neg (by decide)]; exact Or.inl ⟨hb.2 e, rfl⟩
  | true =>
    rw [if_pos rfl]
    obtain ⟨ρ, e1, e2, e3, e4⟩ := reach_spec (cs := cs) (want := wt) (clk := clk) (g := g) (c := c) (le := le) hv hn (wfR_of hf) (bhP_ok h2 h3 (okTh_cl nt θ0))
    rw [e1]
    refine Or.inr ⟨ρ, rfl, e2, ?_, fun j τ hj a b => ?_⟩
    · obtain ⟨τ, a, b⟩ := (pfx_s hv hn hf e2).mp e3
      exact ⟨τ, (hb.1 e τ).mp a, b⟩
    · exact e4 j hj ((pfx_s hv hn hf hj).mpr ⟨τ, (hb.1 e τ).mpr a, b⟩)
def cmS (V : Nat → RV) (rc nk nt : Nat) (pc : Nat → Nat) (k a : Int32) (ρ n : Nat) : Prop := ρ < rc ∧ k = nI ρ ∧ a = nI n ∧ okAtom nk nt pc n ∧ rvH (V ρ) = n / 100
set_option maxRecDepth 100000 in
set_option maxHeartbeats 4000000 in
theorem k_X11_comes {G : xG} {h : xHp} {tsz : Nat} {tp : Nat → Int32} {rc : Nat} {fc : Int32} {nt : Nat} {nk : Nat} {lf : Nat → Int32} {ra : Nat → Nat} {V : Nat → RV} {kw : Nat → Int64} {tw : Nat → Int64} {pf : Nat → Int32} {fr : Nat → Int32} {cl : Int32} {flt : Int32} {plc : Int32} {s : Nat → Option Nat} {cn : Nat} {ct : Nat → Int32} {rn : Nat} {rs : Nat → Int32} {tr : Int32} (X : XT h tsz tp rc fc nt nk lf ra V kw tw pf fr cl flt plc s cn ct rn rs tr) {pc : Nat → Nat} {L : Nat → Nat} {S : Nat → Bool} (c : cOk rc nt nk V pf pc lf L fr S) (hs : IsSt S V rc (fun _ => true) nt s) (c2 : cOk2 rc nk V pc) {k a : Int32} : MX G mX11_comes 16 0 0 [.ref 1, .int k, .int a] h (fun o h' => xKp h h' ∧ ∃ r, o = .inl (some (.int r)) ∧ ((∃ ρ n, cmS V rc nk nt pc k a ρ n ∧ XT h' tsz tp rc fc nt nk lf ra V kw tw pf fr cl flt plc s cn ct rn rs 0 ∧ comR (V ρ) nt s n r) ∨ ((¬ ∃ ρ n, cmS V rc nk nt pc k a ρ n) ∧ XT h' tsz tp rc fc nt nk lf ra V kw tw pf fr cl flt plc s cn ct rn rs 1 ∧ r = -1))) := by
  obtain ⟨ns, f, g, hst, x⟩ := X
  obtain ⟨⟨rf, hrs1, hrf⟩, hrl⟩ := x.b.1.2.2.2.2.2.1
  have hra := x.b.1.2.2.2.2.2.2
  have hc20 := c.1.2.2
  refine MX.of [(0, .ref 1), (1, .int k), (2, .int a)] (by decide) rfl (Nat.le_of_ble_eq_true rfl) rfl ?_
  refine x_aload_n dX11_comes_0 rfl ?_
  refine x_get lf_X11_16 dX11_comes_1 x.c rfl ?_
  refine x_iload_n dX11_comes_4 rfl ?_
  refine x_callV (As := [.int k]) (st := []) lv_X11_147 (k_X0_hasRule x.b.1.1) dX11_comes_5 x.b.1.1 rfl rfl (Nat.le_of_ble_eq_true rfl) ⟨by decide, by decide⟩ ⟨by decide, by decide⟩ (fun v hq9 q => ?_) (fun _ _ _ _ _ q => by cases q.1)
  obtain ⟨ev, eh⟩ := q
  rw [eh]
  cases ev
  refine x_if_eq 22 dX11_comes_8 (by decide) (fun c_8 => ?_) (fun c_8 => ?_)
  · have c_8 := bi_f c_8
    refine x_aload_n dX11_comes_22 rfl ?_
    refine x_iconst (v := 1) dX11_comes_23 (by decide) ?_
    refine x_callV (As := [.int 1]) (st := []) lv_X11_77 (k_X11_refuse x) dX11_comes_24 x.c rfl rfl (Nat.le_of_ble_eq_true rfl) ⟨by decide, by decide⟩ ⟨by decide, by decide⟩ (fun v9 h9 q => ?_) (fun _ _ _ _ _ q => by cases q.1)
    obtain ⟨ev, w9, x9⟩ := q
    cases ev
    exact x_iret dX11_comes_27 rfl rfl (Nat.le_refl _) (Nat.le_refl _) ⟨w9, _, rfl, Or.inr ⟨(by rintro ⟨ρ, n, q1, rfl, -⟩; rw [inR_nI (by omega) (by omega)] at c_8; simp [q1] at c_8), ⟨ns, f, g, hst, x9⟩, rfl⟩⟩
  · have c_8 := bi_t c_8
    obtain ⟨r9, hr9, rfl⟩ := inR_of c_8 (by omega)
    have hsz := (c.2.2.1 r9 hr9).1
    refine x_aload_n dX11_comes_11 rfl ?_
    refine x_get lf_X11_16 dX11_comes_12 x.c rfl ?_
    refine x_iload_n dX11_comes_15 rfl ?_
    refine x_callV (As := [.int a]) (st := []) lv_X11_140 (k_X0_hasAtom x.b.1.1 x.b.1.2.1 x.b.1.2.2.1 x.b.2.2.2.1 c.2.1 c.1.2.1 c.1.1) dX11_comes_16 x.b.1.1 rfl rfl (Nat.le_of_ble_eq_true rfl) ⟨by decide, by decide⟩ ⟨by decide, by decide⟩ (fun v9 h9 q => ?_) (fun _ _ _ _ _ q => by obtain ⟨_, q, _⟩ := q; cases q)
    obtain ⟨b9, ev, eh, hb9⟩ := q
    rw [eh]
    cases ev
    refine x_if_ne 28 dX11_comes_19 (by decide) (fun c_19 => ?_) (fun c_19 => ?_)
    · have c_19 := bi_t c_19
      obtain ⟨n, rfl, hn31, hok⟩ := hb9.mp c_19
      have hn := okAtom_lt hok c.1.2.1
      have hkk := (c.2.2.1 r9 hr9).2.2.1
      refine x_aload_n dX11_comes_28 rfl ?_
      refine x_get lf_X11_16 dX11_comes_29 x.c rfl ?_
      refine x_get lf_X11_175 dX11_comes_32 x.b.1.1 rfl ?_
      refine x_iload_n dX11_comes_35 rfl ?_
      refine x_aaldN (b := ra r9) (j := r9) hrs1 rfl rfl (by omega) (by decide) (hrf r9 (by omega)) dX11_comes_36 ?_
      refine x_get lf_X11_206 dX11_comes_37 (hrl r9 (by omega)).1 rfl ?_
      refine x_get lf_X11_210 dX11_comes_40 (hrl r9 (by omega)).2.1 rfl ?_
      refine x_top (y := nI (rvH (V r9))) hkk.1 ?_
      refine x_iload_n dX11_comes_43 rfl ?_
      refine x_bipush (v := 100) dX11_comes_44 (by decide) ?_
      refine x_idiv dX11_comes_46 (by decide) ?_
      refine x_top (y := nI (n / 100)) (pk_div (a := n) (d := 100) (by omega) (by omega) (by omega)) ?_
      have hkk2 : rvH (V r9) < 10 := hkk.2
      refine x_icmp_eq 56 dX11_comes_47 (by decide) (fun c_47 => ?_) (fun c_47 => ?_)
      · rw [nI_eq (by omega) (by omega)] at c_47
        have hdo := hd_ok (c2 r9 hr9).2.2.1 c_47 hok
        refine x_aload_n dX11_comes_56 rfl ?_
        refine x_iconst (v := 0) dX11_comes_57 (by decide) ?_
        refine x_put [.ref 2, .int (nI tsz), .ref 3, .ref 181, .ref 187, .ref 190, .ref 192, .int (bi ns), .ref 196, .ref 200, .ref 204, .int (nI rn), .int 0] lf_X11_89 dX11_comes_58 x.c (Nat.le_of_ble_eq_true rfl) rfl rfl rfl ?_
        have hf8 : xfr h (xup h 1 (.inr (11, [.ref 2, .int (nI tsz), .ref 3, .ref 181, .ref 187, .ref 190, .ref 192, .int (bi ns), .ref 196, .ref 200, .ref 204, .int (nI rn), .int 0]))) [1] := (xfr_rf _ _).up (by decide)
        have x8 : XH (xup h 1 (.inr (11, [.ref 2, .int (nI tsz), .ref 3, .ref 181, .ref 187, .ref 190, .ref 192, .int (bi ns), .ref 196, .ref 200, .ref 204, .int (nI rn), .int 0]))) tsz tp rc fc nt nk lf ra V kw tw pf fr cl flt plc ns f g cn ct rn rs 0 := ⟨(by rw [hf8.1]; exact x.n), (xup_self _ _ _), (hf8.at x.t (by decide)), (x.b.kp hf8 (by decide)), (x.r.kp hf8 (by decide)), (jnI_kp x.j hf8 (by decide)), (x.g.kp hf8 (by decide)), (md_kp x.m hf8 (by decide)), (x.s.kp hf8 (by decide)), (x.k.kp hf8 (by decide)), (hf8.at x.e (by decide))⟩
        have w8 := xKp.of hf8 (by decide)
        generalize xup h 1 (.inr (11, [.ref 2, .int (nI tsz), .ref 3, .ref 181, .ref 187, .ref 190, .ref 192, .int (bi ns), .ref 196, .ref 200, .ref 204, .int (nI rn), .int 0])) = h8 at hf8 x8 w8
        refine x_aload_n dX11_comes_61 rfl ?_
        refine x_get lf_X11_32 dX11_comes_62 x8.c rfl ?_
        refine x_aload_n dX11_comes_65 rfl ?_
        refine x_callV (As := []) (st := [.ref 187]) lv_X11_156 (k_X11_settled x8 c hs hst) dX11_comes_66 x8.c rfl rfl (Nat.le_of_ble_eq_true rfl) ⟨by decide, by decide⟩ ⟨by decide, by decide⟩ (fun v1 h1 q => ?_) (fun _ _ _ _ _ q => by cases q.1)
        obtain ⟨ev, w1, f1, g1, st1, x1⟩ := q
        cases ev
        obtain ⟨c1, clk1, m1⟩ := x1.m
        obtain ⟨⟨rf1, hrs1, hrf1⟩, hrl1⟩ := x1.b.1.2.2.2.2.2.1
        obtain ⟨jm0, jr0, ja0, jd0, jw0, je0, jθ0, jl0, j1⟩ := x1.j
        refine x_aload_n dX11_comes_69 rfl ?_
        refine x_get lf_X11_16 dX11_comes_70 x1.c rfl ?_
        refine x_get lf_X11_175 dX11_comes_73 x1.b.1.1 rfl ?_
        refine x_iload_n dX11_comes_76 rfl ?_
        refine x_aaldN (b := ra r9) (j := r9) hrs1 rfl rfl (by omega) (by decide) (hrf1 r9 (by omega)) dX11_comes_77 ?_
        refine x_iload_n dX11_comes_78 rfl ?_
        have hra1 := x1.b.1.2.2.2.2.2.2
        refine x_callV (As := [.ref 192, .ref (ra r9), .int (nI n)]) (st := []) lv_X11_213 (k_X2_reachFor x1.j m1 (x1.b.1.jn (by omega)) (Or.inl rfl) (hra1 r9 (by omega)) (c.2.2.1 r9 hr9) c.1.1 (wfR_of st1.1) hdo.2.1 hdo.2.2 hn) dX11_comes_79 j1.1 rfl rfl (Nat.le_of_ble_eq_true rfl) ⟨by decide, by decide⟩ ⟨by decide, by decide⟩ (fun v2 h2 q => ?_) (fun _ _ _ _ _ q => by obtain ⟨_, _, _, q, _⟩ := q; cases q)
        obtain ⟨wt0, θ0, lθ, ev, j2, m2, w2⟩ := q
        have hcm := com_spec (cs := true) (g := g1) (c := c1) (le := bfP lθ) (wt := wt0) (clk := clk1) (θ0 := θ0) (c.2.2.1 r9 hr9) c.1.1 st1.1 hdo.1 hdo.2.1 hdo.2.2
        generalize (if (bhP (V r9) n (clT θ0)).1 = true then (wkP (V r9) nt true 1 wt0 (V r9).2.2.1 0 0 (bhP (V r9) n (clT θ0)).2 (f1, g1, c1, clk1, 0, false, bfP lθ)).2.2.2.2.1 else -2) = r8 at ev hcm
        cases ev
        have hx2 : XH h2 tsz tp rc fc nt nk lf ra V kw tw pf fr cl flt plc true f1 g1 cn ct rn rs 0 := ⟨(by rw [w2.1]; exact x1.n), w2.at x1.c (by decide), w2.at x1.t (by decide), x1.b.kp w2 (by decide), x1.r.kp w2 (by decide), j2, x1.g.kp w2 (by decide), ⟨_, _, m2⟩, x1.s.kp w2 (by decide), x1.k.kp w2 (by decide), w2.at x1.e (by decide)⟩
        exact x_iret dX11_comes_82 rfl rfl (Nat.le_refl _) (Nat.le_refl _) ⟨(w8.tr w1).tr (xKp.of w2 (by decide)), _, rfl, Or.inl ⟨r9, n, ⟨hr9, rfl, rfl, hok, c_47⟩, ⟨true, f1, g1, fun _ => st1, hx2⟩, hcm⟩⟩
      · rw [nI_eq (by omega) (by omega)] at c_47
        refine x_aload_n dX11_comes_50 rfl ?_
        refine x_iconst (v := 1) dX11_comes_51 (by decide) ?_
        refine x_callV (As := [.int 1]) (st := []) lv_X11_77 (k_X11_refuse x) dX11_comes_52 x.c rfl rfl (Nat.le_of_ble_eq_true rfl) ⟨by decide, by decide⟩ ⟨by decide, by decide⟩ (fun v9 h9 q => ?_) (fun _ _ _ _ _ q => by cases q.1)
        obtain ⟨ev, w9, x9⟩ := q
        cases ev
        exact x_iret dX11_comes_55 rfl rfl (Nat.le_refl _) (Nat.le_refl _) ⟨w9, _, rfl, Or.inr ⟨(by rintro ⟨ρ, n2, q1, q2, q3, q4, q5⟩; have q2 := (nI_eq (by omega) (by omega)).mp q2; subst q2; have z := okAtom_lt q4 c.1.2.1; have q3 := (nI_eq (by omega) (by omega)).mp q3; subst q3; exact c_47 q5), ⟨ns, f, g, hst, x9⟩, rfl⟩⟩
    · have c_19 := bi_f c_19
      refine x_aload_n dX11_comes_22 rfl ?_
      refine x_iconst (v := 1) dX11_comes_23 (by decide) ?_
      refine x_callV (As := [.int 1]) (st := []) lv_X11_77 (k_X11_refuse x) dX11_comes_24 x.c rfl rfl (Nat.le_of_ble_eq_true rfl) ⟨by decide, by decide⟩ ⟨by decide, by decide⟩ (fun v9 h9 q => ?_) (fun _ _ _ _ _ q => by cases q.1)
      obtain ⟨ev, w9, x9⟩ := q
      cases ev
      exact x_iret dX11_comes_27 rfl rfl (Nat.le_refl _) (Nat.le_refl _) ⟨w9, _, rfl, Or.inr ⟨(by rintro ⟨ρ, n, q1, q2, q3, q4, q5⟩; rw [hb9.mpr ⟨n, q3, Nat.lt_trans (okAtom_lt q4 c.1.2.1) (by omega), q4⟩] at c_19; cases c_19), ⟨ns, f, g, hst, x9⟩, rfl⟩⟩
def rsF (v : RV) (lθ : Nat → Option Nat) (i : Nat) (rs : Nat → Int32) : Nat → Int32 := fun j => if j < i then (if v.2.1 j 0 = 2 then -2 else nI (nmP (v.2.1 j) lθ)) else rs j
theorem rsF_0 (v : RV) (lθ : Nat → Option Nat) (rs : Nat → Int32) : rsF v lθ 0 rs = rs := rfl
theorem rsF_s {v : RV} {lθ : Nat → Option Nat} {i : Nat} {rs : Nat → Int32} {x : Int32} (h : x = if v.2.1 i 0 = 2 then -2 else nI (nmP (v.2.1 i) lθ)) : upd (rsF v lθ i rs) i x = rsF v lθ (i + 1) rs := by
  funext j
  unfold upd rsF
  by_cases e : j = i
  · rw [if_pos e, if_pos (by omega), e]; exact h
  · rw [if_neg e]
    by_cases e2 : j < i
    · rw [if_pos e2, if_pos (show j < i + 1 by omega)]
    · rw [if_neg e2, if_neg (show ¬ j < i + 1 by omega)]
set_option maxRecDepth 100000 in
set_option maxHeartbeats 4000000 in
theorem l_X11_keepReasons {G : xG} {h : xHp} {tsz : Nat} {tp : Nat → Int32} {rc : Nat} {fc : Int32} {nt : Nat} {nk : Nat} {lf : Nat → Int32} {ra : Nat → Nat} {V : Nat → RV} {kw : Nat → Int64} {tw : Nat → Int64} {pf : Nat → Int32} {fr : Nat → Int32} {cl : Int32} {flt : Int32} {plc : Int32} {ns : Bool} {f : Nat → Int32} {g : Nat → Int32} {cn : Nat} {ct : Nat → Int32} {rn : Nat} {rs : Nat → Int32} {tr : Int32} (x : XH h tsz tp rc fc nt nk lf ra V kw tw pf fr cl flt plc ns f g cn ct rn rs tr) {r9 : Nat} (hr9 : r9 < 21) {m0 rl0 : Value} {aim0 rd0 wt0 : Int32} {en0 : Bool} {lθ : Nat → Option Nat} (hj : h.1 187 = some (.inr (2, [.ref 3, m0, rl0, .int aim0, .ref 188, .int rd0, .int (bi en0), .int wt0, .ref 189]))) (hl : h.1 189 = some (.inl (0, 3, .inl (bfP lθ)))) (hn : nt ≤ 10) (hv : okRl nt (V r9)) (hθ : okTh nt lθ) (hb : ∀ s, s < 3 → ∀ i, i < (V r9).2.2.1 → sgIn ((V r9).2.1 i) s → lθ s ≠ none) : ∀ (k i : Nat), i ≤ (V r9).2.2.1 → (V r9).2.2.1 + 1 ≤ i + k → Wx G mX11_keepReasons (xRm 4 0 0) (xF G ((fun o h' => o = .inl none ∧ xKp h h' ∧ XH h' tsz tp rc fc nt nk lf ra V kw tw pf fr cl flt plc ns f g cn ct ((V r9).2.2.1) (rsF (V r9) lθ (V r9).2.2.1 rs) tr)) 0 0) 0 0 10 [(0, .ref 1), (1, .ref (ra r9)), (2, .int (nI i))] [] (xup (xup h 1 (.inr (11, [.ref 2, .int (nI tsz), .ref 3, .ref 181, .ref 187, .ref 190, .ref 192, .int (bi ns), .ref 196, .ref 200, .ref 204, .int (nI ((V r9).2.2.1)), .int tr]))) 204 (.inl (0, 4, .inl (rsF (V r9) lθ i rs)))) := by
  obtain ⟨⟨rf, hrs1, hrf⟩, hrl⟩ := x.b.1.2.2.2.2.2.1
  obtain ⟨ρ9, hρ9, hra9⟩ := x.b.1.2.2.2.2.2.2 r9 hr9
  have hsz := hv.1
  intro k
  induction k with
  | zero => exact fun i q1 h2 => absurd h2 (by omega)
  | succ k ih =>
    intro i q1 h2
    refine x_iload_n dX11_keepReasons_10 rfl ?_
    refine x_aload_n dX11_keepReasons_11 rfl ?_
    refine x_get lf_X11_187 dX11_keepReasons_12 ((xup_ne (by omega)).trans ((xup_ne (by omega)).trans (hrl r9 (by omega)).1)) rfl ?_
    refine x_icmp_ge 58 dX11_keepReasons_15 (by decide) (fun c_15 => ?_) (fun c_15 => ?_)
    · rw [nI_leI (by omega) (by omega)] at c_15
      have e9 : i = (V r9).2.2.1 := by omega
      subst e9
      have hf : xfr h (xup (xup h 1 (.inr (11, [.ref 2, .int (nI tsz), .ref 3, .ref 181, .ref 187, .ref 190, .ref 192, .int (bi ns), .ref 196, .ref 200, .ref 204, .int (nI ((V r9).2.2.1)), .int tr]))) 204 (.inl (0, 4, .inl (rsF (V r9) lθ (V r9).2.2.1 rs)))) [1, 204] := (((xfr_rf _ _).up (by simp)).up (by simp))
      exact x_vret dX11_keepReasons_58 rfl (Nat.le_refl _) (Nat.le_refl _) ⟨rfl, xKp.of hf (by decide), ⟨(by rw [hf.1]; exact x.n), (((xup_ne (by decide)).trans (xup_self _ _ _))), (hf.at x.t (by decide)), (x.b.kp hf (by decide)), (x.r.kp hf (by decide)), (jnI_kp x.j hf (by decide)), (x.g.kp hf (by decide)), (md_kp x.m hf (by decide)), (x.s.kp hf (by decide)), (x.k.kp hf (by decide)), (xup_self _ _ _)⟩⟩
    · rw [nI_leI (by omega) (by omega)] at c_15
      have hok := hv.2.1 i (by omega)
      have hsz := hv.1
      refine x_aload_n dX11_keepReasons_18 rfl ?_
      refine x_get lf_X11_193 dX11_keepReasons_19 ((xup_ne (by omega)).trans ((xup_ne (by omega)).trans (hrl r9 (by omega)).1)) rfl ?_
      refine x_iload_n dX11_keepReasons_22 rfl ?_
      refine x_aaldN (b := ra r9 + 4 + i) (j := i) ((xup_ne (by omega)).trans ((xup_ne (by omega)).trans (hrl r9 (by omega)).2.2.1)) rfl rfl (by omega) (by decide) (rTs_at (by omega)) dX11_keepReasons_23 ?_
      refine x_astore_n [(0, .ref 1), (1, .ref (ra r9)), (2, .int (nI i)), (3, .ref (ra r9 + 4 + i))] dX11_keepReasons_24 (by decide) rfl rfl ?_
      refine x_aload_n dX11_keepReasons_25 rfl ?_
      refine x_get lf_X11_66 dX11_keepReasons_26 ((xup_ne (by decide)).trans (xup_self _ _ _)) rfl ?_
      refine x_iload_n dX11_keepReasons_29 rfl ?_
      refine x_aload_n dX11_keepReasons_30 rfl ?_
      refine x_get lf_X11_197 dX11_keepReasons_31 ((xup_ne (by omega)).trans ((xup_ne (by omega)).trans ((hrl r9 (by omega)).2.2.2.2 i (by omega)))) rfl ?_
      refine x_iconst (v := 2) dX11_keepReasons_34 (by decide) ?_
      refine x_icmp_ne 43 dX11_keepReasons_35 (by decide) (fun c_35 => ?_) (fun c_35 => ?_)
      · refine x_aload_n dX11_keepReasons_43 rfl ?_
        refine x_get lf_X11_32 dX11_keepReasons_44 ((xup_ne (by decide)).trans (xup_self _ _ _)) rfl ?_
        refine x_aload_n dX11_keepReasons_47 rfl ?_
        refine x_callV (As := [.ref (ra r9 + 4 + i)]) (st := [.int (nI i), .ref 204]) lv_X11_202 (k_X2_leastNumberOf ((xup_ne (by decide)).trans ((xup_ne (by decide)).trans hj)) ((xup_ne (by decide)).trans ((xup_ne (by decide)).trans hl)) ((xup_ne (by omega)).trans ((xup_ne (by omega)).trans ((hrl r9 (by omega)).2.2.2.2 i (by omega)))) hok.2.2.1 hok.2.2.2 (hok.2.1 c_35) hn hθ (fun s hs q => hb s hs i (by omega) (Or.inl q)) (fun s hs q => hb s hs i (by omega) (Or.inr q))) dX11_keepReasons_48 ((xup_ne (by decide)).trans ((xup_ne (by decide)).trans hj)) rfl rfl (Nat.le_of_ble_eq_true rfl) ⟨by decide, by decide⟩ ⟨by decide, by decide⟩ (fun v hq9 q => ?_) (fun _ _ _ _ _ q => by cases q.1)
        obtain ⟨ev, eh⟩ := q
        rw [eh]
        cases ev
        refine x_iastN (j := i) (xup_self _ _ _) rfl (by omega) (by decide) dX11_keepReasons_51 ?_
        refine x_iinc (v := nI (i + 1)) [(0, .ref 1), (1, .ref (ra r9)), (2, .int (nI (i + 1))), (3, .ref (ra r9 + 4 + i))] dX11_keepReasons_52 rfl (nI_add i 1) (by decide) rfl rfl ?_
        refine x_goto 10 dX11_keepReasons_55 (by decide) ?_
        refine x_heap (by rw [xup_up, rsF_s (by rw [if_neg c_35])]) (x_ls _ [0, 1, 2] rfl (ih (i + 1) (by omega) (by omega)))
      · refine x_bipush (v := (-2)) dX11_keepReasons_38 (by decide) ?_
        refine x_goto 51 dX11_keepReasons_40 (by decide) ?_
        refine x_iastN (j := i) (xup_self _ _ _) rfl (by omega) (by decide) dX11_keepReasons_51 ?_
        refine x_iinc (v := nI (i + 1)) [(0, .ref 1), (1, .ref (ra r9)), (2, .int (nI (i + 1))), (3, .ref (ra r9 + 4 + i))] dX11_keepReasons_52 rfl (nI_add i 1) (by decide) rfl rfl ?_
        refine x_goto 10 dX11_keepReasons_55 (by decide) ?_
        refine x_heap (by rw [xup_up, rsF_s (by rw [if_pos c_35])]) (x_ls _ [0, 1, 2] rfl (ih (i + 1) (by omega) (by omega)))
set_option maxRecDepth 100000 in
set_option maxHeartbeats 4000000 in
theorem k_X11_keepReasons {G : xG} {h : xHp} {tsz : Nat} {tp : Nat → Int32} {rc : Nat} {fc : Int32} {nt : Nat} {nk : Nat} {lf : Nat → Int32} {ra : Nat → Nat} {V : Nat → RV} {kw : Nat → Int64} {tw : Nat → Int64} {pf : Nat → Int32} {fr : Nat → Int32} {cl : Int32} {flt : Int32} {plc : Int32} {ns : Bool} {f : Nat → Int32} {g : Nat → Int32} {cn : Nat} {ct : Nat → Int32} {rn : Nat} {rs : Nat → Int32} {tr : Int32} (x : XH h tsz tp rc fc nt nk lf ra V kw tw pf fr cl flt plc ns f g cn ct rn rs tr) {r9 : Nat} (hr9 : r9 < 21) {m0 rl0 : Value} {aim0 rd0 wt0 : Int32} {en0 : Bool} {lθ : Nat → Option Nat} (hj : h.1 187 = some (.inr (2, [.ref 3, m0, rl0, .int aim0, .ref 188, .int rd0, .int (bi en0), .int wt0, .ref 189]))) (hl : h.1 189 = some (.inl (0, 3, .inl (bfP lθ)))) (hn : nt ≤ 10) (hv : okRl nt (V r9)) (hθ : okTh nt lθ) (hb : ∀ s, s < 3 → ∀ i, i < (V r9).2.2.1 → sgIn ((V r9).2.1 i) s → lθ s ≠ none) : MX G mX11_keepReasons 4 0 0 [.ref 1, .ref (ra r9)] h (fun o h' => o = .inl none ∧ xKp h h' ∧ XH h' tsz tp rc fc nt nk lf ra V kw tw pf fr cl flt plc ns f g cn ct ((V r9).2.2.1) (rsF (V r9) lθ (V r9).2.2.1 rs) tr) := by
  obtain ⟨⟨rf, hrs1, hrf⟩, hrl⟩ := x.b.1.2.2.2.2.2.1
  obtain ⟨ρ9, hρ9, hra9⟩ := x.b.1.2.2.2.2.2.2 r9 hr9
  have hsz := hv.1
  refine MX.of [(0, .ref 1), (1, .ref (ra r9))] (by decide) rfl (Nat.le_of_ble_eq_true rfl) rfl ?_
  refine x_aload_n dX11_keepReasons_0 rfl ?_
  refine x_aload_n dX11_keepReasons_1 rfl ?_
  refine x_get lf_X11_187 dX11_keepReasons_2 (hrl r9 (by omega)).1 rfl ?_
  refine x_put [.ref 2, .int (nI tsz), .ref 3, .ref 181, .ref 187, .ref 190, .ref 192, .int (bi ns), .ref 196, .ref 200, .ref 204, .int (nI ((V r9).2.2.1)), .int tr] lf_X11_190 dX11_keepReasons_5 x.c (Nat.le_of_ble_eq_true rfl) rfl rfl rfl ?_
  refine x_iconst (v := 0) dX11_keepReasons_8 (by decide) ?_
  refine x_istore_n [(0, .ref 1), (1, .ref (ra r9)), (2, .int 0)] dX11_keepReasons_9 (by decide) rfl rfl ?_
  refine x_heap (h' := xup (xup h 1 (.inr (11, [.ref 2, .int (nI tsz), .ref 3, .ref 181, .ref 187, .ref 190, .ref 192, .int (bi ns), .ref 196, .ref 200, .ref 204, .int (nI ((V r9).2.2.1)), .int tr]))) 204 (.inl (0, 4, .inl (rsF (V r9) lθ 0 rs)))) (by rw [rsF_0, xup_id ((xup_ne (by decide)).trans x.e)]) ?_
  exact l_X11_keepReasons x hr9 hj hl hn hv hθ hb ((V r9).2.2.1 + 1) 0 (by omega) (by omega)
theorem sg_lt {v : RV} (ho : ordR v) : ∀ i s, i < v.2.2.1 → s < 3 → sgIn (v.2.1 i) s → s < mS v v.2.2.1 := by
  intro i s hi hs q
  have h1 : mS v (i + 1) ≤ mS v v.2.2.1 := mS_mono (by omega)
  refine Nat.lt_of_lt_of_le ?_ h1
  show s < nxA (v.2.1 i 3) (nxA (v.2.1 i 2) (mS v i))
  rcases q with q | q
  · have h2 := (ho.2 i hi).1 s hs q
    have h3 : s < nxA (v.2.1 i 2) (mS v i) := by
      rw [q, nxA_sg hs h2]; split <;> omega
    exact Nat.lt_of_lt_of_le h3 (nxA_le _ _)
  · have h2 := (ho.2 i hi).2 s hs q
    rw [q, nxA_sg hs h2]; split <;> omega
theorem lead_ex {F : Nat → Bool} {V : Nat → RV} {rc nt n d : Nat} {s : Nat → Option Nat} (hs : IsSt F V rc (fun _ => true) nt s) (hV : ∀ r, r < rc → okRl nt (V r)) (hn : nt ≤ 10) (hn9 : n < 1000) (hd : s n = some d) (hF : F n = false) : 0 < d ∧ ∃ r, r < rc ∧ rvH (V r) = n / 100 ∧ ∃ τ, leadS (V r) nt s n d τ := by
  rcases hs.2.2 n d hn9 hd with q | ⟨r, hr, -, τ, h1, h2, h3, h4, h5⟩
  · rw [hF] at q; cases q
  · have hv := hV r hr
    have hk := head_k hv hn h1
    have hg := nmT_k (t := (V r).1) (τ := τ) hv.2.2.2.1 hv.2.2.2.2.1 hn (fun s hs q => by have := h1 s hs (hv.2.2.2.2.2 s hs q); omega)
    have hmx : ∀ m, m ≤ (V r).2.2.1 → mxT (V r) τ s m < d := by
      intro m
      induction m with
      | zero => exact fun _ => h4
      | succ m ih =>
        intro hm
        simp only [mxT]
        refine Nat.max_lt.mpr ⟨ih (by omega), ?_⟩
        split
        next t0 => obtain ⟨e, e1, e2⟩ := h5 m (by omega) t0; rw [e1]; exact e2
        next => exact h4
    have hle : ∀ m, m ≤ (V r).2.2.1 → ∀ j, j < m → (V r).2.1 j 0 = 0 → ∃ d, s (nmT ((V r).2.1 j) τ) = some d ∧ d ≤ mxT (V r) τ s m := by
      intro m
      induction m with
      | zero => exact fun _ j hj => absurd hj (by omega)
      | succ m ih =>
        intro hm j hj t0
        rcases Nat.lt_or_ge j m with z | z
        · obtain ⟨e, e1, e2⟩ := ih (by omega) j z t0
          exact ⟨e, e1, Nat.le_trans e2 (Nat.le_max_left _ _)⟩
        · have z : j = m := by omega
          subst z
          obtain ⟨e, e1, e2⟩ := h5 j (by omega) t0
          refine ⟨e, e1, ?_⟩
          simp only [mxT]
          rw [if_pos t0, e1]
          exact Nat.le_max_right _ _
    obtain ⟨e, e1, e2⟩ := hs.2.1 r τ (mxT (V r) τ s (V r).2.2.1) hr rfl h1 h2 (hle _ (Nat.le_refl _))
    rw [h3, hd] at e1
    injection e1 with e1
    have hlt := hmx _ (Nat.le_refl _)
    refine ⟨h4, r, hr, ?_, τ, ⟨?_, ?_⟩, ⟨fun s hs ⟨m, _, m2, m3⟩ => h1 s hs ⟨m, m2, m3⟩, h2⟩, by omega⟩
    · rw [← h3]; exact hk.2.symm
    · rw [← h3]; exact hg.2.1.symm
    · rw [← h3]; exact hg.2.2.symm
/-- the REASONS by these THINGS -/
def rsW (v : RV) (τ : Nat → Nat) (rs : Nat → Int32) : Prop := ∀ i, i < v.2.2.1 → rs i = if v.2.1 i 0 = 2 then -2 else nI (nmT (v.2.1 i) τ)
theorem bf_least {nt K : Nat} {lθ : Nat → Option Nat} {τ : Nat → Nat} (h : ∀ s, s < 3 → bfP lθ s = if s < K then nI (τ s) else -1) : bfP lθ = bfP (fun s => if s < 3 then (if s < K then some (τ s) else none) else lθ s) := by
  funext s
  by_cases e : s < 3
  · rw [h s e]
    show _ = enT (if s < 3 then (if s < K then some (τ s) else none) else lθ s)
    rw [if_pos e]
    split <;> rfl
  · show _ = enT (if s < 3 then (if s < K then some (τ s) else none) else lθ s)
    rw [if_neg e]; rfl
theorem whyS {v : RV} {nt K : Nat} {τ : Nat → Nat} {lθ lθ' : Nat → Option Nat} {rs : Nat → Int32} (hv : okRl nt v) (hn : nt ≤ 10) (ho : ordR v) (hK : K = mS v v.2.2.1) (hθ : lθ = fun s => if s < 3 then (if s < K then some (τ s) else none) else lθ' s) : rsW v τ (rsF v lθ v.2.2.1 rs) := by
  intro i hi
  unfold rsF
  rw [if_pos hi]
  by_cases t2 : v.2.1 i 0 = 2
  · rw [if_pos t2, if_pos t2]
  · rw [if_neg t2, if_neg t2]
    congr 1
    have hok := hv.2.1 i hi
    have hth : ∀ a, okA nt a → (∀ s, s < 3 → a = nI (100 + s) → s < K) → thO a lθ = thT a τ := by
      intro a ha hs
      refine th_ext ha hn (fun s t h3 q => ?_) (fun s h3 q => ?_)
      · rw [hθ] at q
        have q : (if s < 3 then (if s < K then some (τ s) else none) else lθ' s) = some t := q
        rw [if_pos h3] at q
        split at q
        · injection q
        · cases q
      · rw [hθ]
        show (if s < 3 then (if s < K then some (τ s) else none) else lθ' s) ≠ none
        rw [if_pos h3, if_pos (hs s h3 q)]
        exact fun z => by cases z
    show ((v.2.1 i 1).toNatClampNeg * 10 + thO (v.2.1 i 2) lθ) * 10 + thO (v.2.1 i 3) lθ = ((v.2.1 i 1).toNatClampNeg * 10 + thT (v.2.1 i 2) τ) * 10 + thT (v.2.1 i 3) τ
    rw [hth _ hok.2.2.1 (fun s h3 q => by rw [hK]; exact sg_lt ho i s hi h3 (Or.inl q)), hth _ hok.2.2.2 (fun s h3 q => by rw [hK]; exact sg_lt ho i s hi h3 (Or.inr q))]
set_option maxRecDepth 100000 in
set_option maxHeartbeats 4000000 in
theorem seek_no {G : xG} {h : xHp} {md rl nt : Nat} {cs : Bool} {clk : Int32} {f g c : Nat → Int32} (hI : jnI h) (hM : mdAt h md (md + 1) (md + 2) (md + 3) cs f g c clk) {rc n : Nat} {fc : Int32} {v : RV} (hT : jnSt h rl rc fc nt v) (hv : okRl nt v) (hn1 : n < 1000) (hk : ¬ (v.1 1).toNatClampNeg = n / 100) : MX G mX2_seekLeast 14 0 0 [.ref 187, .ref md, .ref rl, .int (nI n)] h (fun o h' => o = .inl (some (.int 0)) ∧ h' = h) := by
  obtain ⟨m0, r0, aim0, rd0, wt0, en0, θ0, lθ, e1, e2, e3⟩ := hI
  refine MX.of [(0, .ref 187), (1, .ref md), (2, .ref rl), (3, .int (nI n))] (by decide) rfl (Nat.le_of_ble_eq_true rfl) rfl ?_
  refine x_aload_n dX2_seekLeast_0 rfl ?_
  have hkk := hv.2.2.1.2
  refine x_get lf_X2_38 dX2_seekLeast_1 hT.2.2.1 rfl ?_
  refine x_get lf_X2_44 dX2_seekLeast_4 hT.2.2.2.1 rfl ?_
  refine x_top (y := nI ((v.1 1).toNatClampNeg)) hv.2.2.1.1 ?_
  refine x_iload_n dX2_seekLeast_7 rfl ?_
  refine x_bipush (v := 100) dX2_seekLeast_8 (by decide) ?_
  refine x_idiv dX2_seekLeast_10 (by decide) ?_
  refine x_top (y := nI (n / 100)) (pk_div (a := n) (d := 100) (by omega) (by omega) (by omega)) ?_
  refine x_icmp_eq 16 dX2_seekLeast_11 (by decide) (fun c_11 => absurd c_11 (fun z => hk ((nI_eq (by omega) (by omega)).mp z))) (fun c_11 => ?_)
  refine x_iconst (v := 0) dX2_seekLeast_14 (by decide) ?_
  exact x_iret dX2_seekLeast_15 rfl rfl (Nat.le_refl _) (Nat.le_refl _) ⟨rfl, rfl⟩
set_option maxRecDepth 100000 in
set_option maxHeartbeats 4000000 in
theorem seek_spec {G : xG} {tsz : Nat} {tp : Nat → Int32} {rc : Nat} {fc : Int32} {nt : Nat} {nk : Nat} {lf : Nat → Int32} {ra : Nat → Nat} {V : Nat → RV} {kw : Nat → Int64} {tw : Nat → Int64} {pf : Nat → Int32} {fr : Nat → Int32} {cl : Int32} {flt : Int32} {plc : Int32} {s : Nat → Option Nat} {cn : Nat} {ct : Nat → Int32} {rn : Nat} {rs : Nat → Int32} {tr : Int32} {f1 g1 c1 : Nat → Int32} {clk1 : Int32} {h1 : xHp} (x1 : XH h1 tsz tp rc fc nt nk lf ra V kw tw pf fr cl flt plc true f1 g1 cn ct rn rs tr) (m1 : mdAt h1 192 193 194 195 true f1 g1 c1 clk1) (st1 : stl s f1 g1) {pc : Nat → Nat} {L : Nat → Nat} {S : Nat → Bool} (c : cOk rc nt nk V pf pc lf L fr S) (c2 : cOk2 rc nk V pc) {n d r : Nat} (hn : n < 1000) (hok : okAtom nk nt pc n) (hd : s n = some d) (hd0 : 0 < d) (hle : ∀ n d, n < 1000 → s n = some d → d ≤ 1000) (hr : r < rc) : MX G mX2_seekLeast 14 0 0 [.ref 187, .ref 192, .ref (ra r), .int (nI n)] h1 (fun o h' => ∃ b : Bool, o = .inl (some (.int (bi b))) ∧ xKp h1 h' ∧ XH h' tsz tp rc fc nt nk lf ra V kw tw pf fr cl flt plc true f1 g1 cn ct rn rs tr ∧ ((b = true → rvH (V r) = n / 100 ∧ ∃ τ, leadS (V r) nt s n d τ ∧ (∀ τ', leadS (V r) nt s n d τ' → lexL (mS (V r) (V r).2.2.1) τ τ') ∧ ∃ (m0 rl0 : Value) (aim0 rd0 wt0 : Int32) (en0 : Bool) (lθ : Nat → Option Nat), h'.1 187 = some (.inr (2, [.ref 3, m0, rl0, .int aim0, .ref 188, .int rd0, .int (bi en0), .int wt0, .ref 189])) ∧ h'.1 189 = some (.inl (0, 3, .inl (bfP lθ))) ∧ okTh nt lθ ∧ (∀ s, s < 3 → ∀ i, i < (V r).2.2.1 → sgIn ((V r).2.1 i) s → lθ s ≠ none) ∧ ∀ rs, rsW (V r) τ (rsF (V r) lθ (V r).2.2.1 rs)) ∧ (b = false → rvH (V r) = n / 100 → ∀ τ, ¬ leadS (V r) nt s n d τ))) := by
  have hc20 := c.1.2.2
  have hv := c.2.2.1 r hr
  have hnt := c.1.1
  by_cases hk : rvH (V r) = n / 100
  · have hdo := hd_ok (c2 r hr).2.2.1 hk hok
    refine MX.weaken (k_X2_seekLeast x1.j m1 (x1.b.1.jn (by omega)) (Or.inl rfl) (x1.b.1.2.2.2.2.2.2 r (by omega)) hv hnt (wfR_of st1.1) hdo.2.1 hdo.2.2 hn) (fun o h' q => ?_)
    rcases q with ⟨q, -⟩ | ⟨-, θ0, lθ, lθ2, ev, e2, j2, e189, m2, w2⟩
    · exact absurd hk q
    · have hx2 : XH h' tsz tp rc fc nt nk lf ra V kw tw pf fr cl flt plc true f1 g1 cn ct rn rs tr := ⟨(by rw [w2.1]; exact x1.n), w2.at x1.c (by decide), w2.at x1.t (by decide), x1.b.kp w2 (by decide), x1.r.kp w2 (by decide), j2, x1.g.kp w2 (by decide), ⟨_, _, m2⟩, x1.s.kp w2 (by decide), x1.k.kp w2 (by decide), w2.at x1.e (by decide)⟩
      have hb := bh_spec (θ := θ0) hv hnt hdo.1
      cases e : (bhP (V r) n (clT θ0)).1 with
      | false =>
        rw [e, if_neg (by decide)] at ev
        exact ⟨false, ev, xKp.of w2 (by decide), hx2, fun z => (by cases z), fun _ _ τ q => hb.2 e τ q.1⟩
      | true =>
        rw [e, if_pos rfl] at ev e2
        have hl := le_wk (cs := true) (g := g1) (want := g1 n - 1) hv hnt (wfR_of st1.1) (c2 r hr).1 (V r).2.2.1 0 0 _ (f1, g1, c1, clk1, 0, false, bfP lθ) (by omega) rfl rfl (bhP_ok hdo.2.1 hdo.2.2 (okTh_cl nt θ0)) (bh_pre hv hnt (c2 r hr).1 e) rfl
        have hsl : ∀ τ, sat2 (V r) nt (bhP (V r) n (clT θ0)).2 f1 g1 (g1 n - 1) (V r).2.2.1 0 0 τ ↔ leadS (V r) nt s n d τ := sat2_lead hv hnt st1 hle hn hd hd0 (fun τ => hb.1 e τ)
        rcases hl.2.2 with ⟨b1, -, b3⟩ | ⟨b1, τ, b2, b3, b4⟩
        · rw [b1] at ev
          exact ⟨false, ev, xKp.of w2 (by decide), hx2, fun z => (by cases z), fun _ _ τ q => b3 τ ((hsl τ).mpr q)⟩
        · rw [b1] at ev
          rw [e2] at b3
          have e3 := bf_least (nt := nt) b3
          rw [e3] at e189
          obtain ⟨jm0, jr0, ja0, jd0, jw0, je0, jθ0, jl0, j9⟩ := j2
          have hτ := (hsl τ).mp b2
          refine ⟨true, ev, xKp.of w2 (by decide), hx2, fun _ => ⟨hk, τ, hτ, fun τ' q => b4 τ' ((hsl τ').mpr q), jm0, jr0, ja0, jd0, jw0, je0, _, j9.1, e189, fun k t hk3 q => ?_, fun k hk3 i hi q => ?_, fun rs => whyS hv hnt (c2 r hr).1 rfl rfl⟩, fun z => (by cases z)⟩
          · have q : (if k < 3 then (if k < mS (V r) (V r).2.2.1 then some (τ k) else none) else lθ2 k) = some t := q
            rw [if_pos hk3] at q
            split at q
            next z =>
              injection q with q
              rw [← q]
              obtain ⟨i, i1, -, i3⟩ := (c2 r hr).2.2.2.2 k z
              exact hτ.2.1.1 k hk3 ⟨i, by omega, i1, i3⟩
            next => cases q
          · show (if k < 3 then (if k < mS (V r) (V r).2.2.1 then some (τ k) else none) else lθ2 k) ≠ none
            rw [if_pos hk3, if_pos (sg_lt (c2 r hr).1 i k hi hk3 q)]
            exact fun z => by cases z
  · have hz : MX G mX2_seekLeast 14 0 0 [.ref 187, .ref 192, .ref (ra r), .int (nI n)] h1 (fun o h' => o = .inl (some (.int 0)) ∧ h' = h1) := seek_no x1.j m1 (x1.b.1.jn (by omega)) hv hn hk
    refine MX.weaken hz (fun o h' q => ?_)
    obtain ⟨rfl, rfl⟩ := q
    exact ⟨false, rfl, xKp_rf _, x1, fun z => (by cases z), fun _ z => absurd z hk⟩
set_option maxRecDepth 100000 in
set_option maxHeartbeats 4000000 in
theorem l_X11_why {G : xG} {tsz : Nat} {tp : Nat → Int32} {rc : Nat} {fc : Int32} {nt : Nat} {nk : Nat} {lf : Nat → Int32} {ra : Nat → Nat} {V : Nat → RV} {kw : Nat → Int64} {tw : Nat → Int64} {pf : Nat → Int32} {fr : Nat → Int32} {cl : Int32} {flt : Int32} {plc : Int32} {s : Nat → Option Nat} {cn : Nat} {ct : Nat → Int32} {rn : Nat} {rs : Nat → Int32} {tr : Int32} {h : xHp} {f1 g1 : Nat → Int32} (st1 : stl s f1 g1) {pc : Nat → Nat} {L : Nat → Nat} {S : Nat → Bool} (c : cOk rc nt nk V pf pc lf L fr S) (c2 : cOk2 rc nk V pc) {n d : Nat} (hn : n < 1000) (hok : okAtom nk nt pc n) (hd : s n = some d) (hd0 : 0 < d) (hle : ∀ n d, n < 1000 → s n = some d → d ≤ 1000) (hSn : S n = false) (hex : ∃ ρ, ρ < rc ∧ rvH (V ρ) = n / 100 ∧ ∃ τ, leadS (V ρ) nt s n d τ) : ∀ (k r : Nat) (c1 : Nat → Int32) (clk1 : Int32) (h1 : xHp), r ≤ rc → rc + 1 ≤ r + k → xKp h h1 → XH h1 tsz tp rc fc nt nk lf ra V kw tw pf fr cl flt plc true f1 g1 cn ct rn rs 0 → mdAt h1 192 193 194 195 true f1 g1 c1 clk1 → (∀ ρ, ρ < r → rvH (V ρ) = n / 100 → ∀ τ, ¬ leadS (V ρ) nt s n d τ) → Wx G mX11_why (xRm 16 0 0) (xF G (fun o h' => xKp h h' ∧ ∃ r, o = .inl (some (.int r)) ∧ ((∃ m9, (nI n) = nI m9 ∧ okAtom nk nt pc m9 ∧ ((s m9 = none ∧ r = -1 ∧ XT h' tsz tp rc fc nt nk lf ra V kw tw pf fr cl flt plc s cn ct rn rs 5) ∨ (S m9 = true ∧ r = -2 ∧ XT h' tsz tp rc fc nt nk lf ra V kw tw pf fr cl flt plc s cn ct rn rs 0) ∨ (S m9 = false ∧ ∃ d ρ τ rs', s m9 = some d ∧ whyP V rc nt s m9 d ρ τ ∧ r = nI ρ ∧ rsW (V ρ) τ rs' ∧ XT h' tsz tp rc fc nt nk lf ra V kw tw pf fr cl flt plc s cn ct ((V ρ).2.2.1) rs' 0))) ∨ ((¬ ∃ m9, (nI n) = nI m9 ∧ m9 < 2 ^ 31 ∧ okAtom nk nt pc m9) ∧ r = -1 ∧ XT h' tsz tp rc fc nt nk lf ra V kw tw pf fr cl flt plc s cn ct rn rs 1))) 0 0) 0 0 57 [(0, .ref 1), (1, .int (nI n)), (2, .ref 192), (3, .int (nI r))] [] h1 := by
  have hc20 := c.1.2.2
  intro k
  induction k with
  | zero => exact fun r c1 clk1 h1 q1 q2 => absurd q2 (by omega)
  | succ k ih =>
    intro r c1 clk1 h1 q1 q2 w1 x1 m1 hno
    obtain ⟨⟨rf1, hrs1, hrf1⟩, hrl1⟩ := x1.b.1.2.2.2.2.2.1
    refine x_iload_n dX11_why_57 rfl ?_
    refine x_aload_n dX11_why_58 rfl ?_
    refine x_get lf_X11_16 dX11_why_59 x1.c rfl ?_
    refine x_get lf_X11_172 dX11_why_62 x1.b.1.1 rfl ?_
    refine x_icmp_ge 110 dX11_why_65 (by decide) (fun c_65 => ?_) (fun c_65 => ?_)
    · rw [nI_leI (by omega) (by omega)] at c_65
      refine x_iconst (v := (-1)) dX11_why_110 (by decide) ?_
      exfalso
      obtain ⟨ρ, q1, q2, τ, q3⟩ := hex
      exact hno ρ (by omega) q2 τ q3
    · rw [nI_leI (by omega) (by omega)] at c_65
      have hr : r < rc := by omega
      obtain ⟨jm0, jr0, ja0, jd0, jw0, je0, jθ0, jl0, j1⟩ := x1.j
      refine x_aload_n dX11_why_68 rfl ?_
      refine x_get lf_X11_32 dX11_why_69 x1.c rfl ?_
      refine x_aload_n dX11_why_72 rfl ?_
      refine x_aload_n dX11_why_73 rfl ?_
      refine x_get lf_X11_16 dX11_why_74 x1.c rfl ?_
      refine x_get lf_X11_175 dX11_why_77 x1.b.1.1 rfl ?_
      refine x_iload_n dX11_why_80 rfl ?_
      refine x_aaldN (b := ra r) (j := r) hrs1 rfl rfl (by omega) (by decide) (hrf1 r (by omega)) dX11_why_81 ?_
      refine x_iload_n dX11_why_82 rfl ?_
      refine x_callV (As := [.ref 192, .ref (ra r), .int (nI n)]) (st := []) lv_X11_179 (seek_spec x1 m1 st1 c c2 hn hok hd hd0 hle hr) dX11_why_83 j1.1 rfl rfl (Nat.le_of_ble_eq_true rfl) ⟨by decide, by decide⟩ ⟨by decide, by decide⟩ (fun v2 h2 q => ?_) (fun _ _ _ _ _ q => by obtain ⟨_, q, _⟩ := q; cases q)
      obtain ⟨b8, ev, w2, x2, hb8⟩ := q
      cases ev
      obtain ⟨⟨rf2, hrs2, hrf2⟩, hrl2⟩ := x2.b.1.2.2.2.2.2.1
      refine x_if_eq 104 dX11_why_86 (by decide) (fun c_86 => ?_) (fun c_86 => ?_)
      · have c_86 := bi_f c_86
        refine x_iinc (v := nI (r + 1)) [(0, .ref 1), (1, .int (nI n)), (2, .ref 192), (3, .int (nI (r + 1)))] dX11_why_104 rfl (nI_add r 1) (by decide) rfl rfl ?_
        refine x_goto 57 dX11_why_107 (by decide) ?_
        obtain ⟨c8, clk8, m8⟩ := x2.m
        refine x_ls _ [0, 1, 2, 3] rfl (ih (r + 1) c8 clk8 h2 (by omega) (by omega) (w1.tr w2) x2 m8 (fun ρ hρ hk τ q => ?_))
        rcases Nat.lt_or_ge ρ r with z | z
        · exact hno ρ z hk τ q
        · have z : ρ = r := by omega
          subst z
          exact hb8.2 c_86 hk τ q
      · have c_86 := bi_t c_86
        refine x_aload_n dX11_why_89 rfl ?_
        refine x_aload_n dX11_why_90 rfl ?_
        refine x_get lf_X11_16 dX11_why_91 x2.c rfl ?_
        refine x_get lf_X11_175 dX11_why_94 x2.b.1.1 rfl ?_
        refine x_iload_n dX11_why_97 rfl ?_
        refine x_aaldN (b := ra r) (j := r) hrs2 rfl rfl (by omega) (by decide) (hrf2 r (by omega)) dX11_why_98 ?_
        obtain ⟨hkd, τ, hτ, hmin, m0, rl0, aim0, rd0, wt0, en0, lθ, e187, e189, hlθ, hlb, hlt⟩ := hb8.1 c_86
        refine x_callV (As := [.ref (ra r)]) (st := []) lv_X11_183 (k_X11_keepReasons x2 (by omega) e187 e189 c.1.1 (c.2.2.1 r hr) hlθ hlb) dX11_why_99 x2.c rfl rfl (Nat.le_of_ble_eq_true rfl) ⟨by decide, by decide⟩ ⟨by decide, by decide⟩ (fun v3 h3 q => ?_) (fun _ _ _ _ _ q => by cases q.1)
        obtain ⟨ev, w3, x3⟩ := q
        cases ev
        refine x_iload_n dX11_why_102 rfl ?_
        exact x_iret dX11_why_103 rfl rfl (Nat.le_refl _) (Nat.le_refl _) ⟨(w1.tr w2).tr w3, _, rfl, Or.inl ⟨n, rfl, hok, Or.inr (Or.inr ⟨hSn, d, r, τ, _, hd, ⟨hr, hkd, hτ, hno, hmin⟩, rfl, hlt rs, ⟨true, f1, g1, fun _ => st1, x3⟩⟩)⟩⟩
set_option maxRecDepth 100000 in
set_option maxHeartbeats 4000000 in
theorem k_X11_why {G : xG} {h : xHp} {tsz : Nat} {tp : Nat → Int32} {rc : Nat} {fc : Int32} {nt : Nat} {nk : Nat} {lf : Nat → Int32} {ra : Nat → Nat} {V : Nat → RV} {kw : Nat → Int64} {tw : Nat → Int64} {pf : Nat → Int32} {fr : Nat → Int32} {cl : Int32} {flt : Int32} {plc : Int32} {s : Nat → Option Nat} {cn : Nat} {ct : Nat → Int32} {rn : Nat} {rs : Nat → Int32} {tr : Int32} (X : XT h tsz tp rc fc nt nk lf ra V kw tw pf fr cl flt plc s cn ct rn rs tr) {pc : Nat → Nat} {L : Nat → Nat} {S : Nat → Bool} (c : cOk rc nt nk V pf pc lf L fr S) (hs : IsSt S V rc (fun _ => true) nt s) (c2 : cOk2 rc nk V pc) {a : Int32} : MX G mX11_why 16 0 0 [.ref 1, .int a] h (fun o h' => xKp h h' ∧ ∃ r, o = .inl (some (.int r)) ∧ ((∃ m9, a = nI m9 ∧ okAtom nk nt pc m9 ∧ ((s m9 = none ∧ r = -1 ∧ XT h' tsz tp rc fc nt nk lf ra V kw tw pf fr cl flt plc s cn ct rn rs 5) ∨ (S m9 = true ∧ r = -2 ∧ XT h' tsz tp rc fc nt nk lf ra V kw tw pf fr cl flt plc s cn ct rn rs 0) ∨ (S m9 = false ∧ ∃ d ρ τ rs', s m9 = some d ∧ whyP V rc nt s m9 d ρ τ ∧ r = nI ρ ∧ rsW (V ρ) τ rs' ∧ XT h' tsz tp rc fc nt nk lf ra V kw tw pf fr cl flt plc s cn ct ((V ρ).2.2.1) rs' 0))) ∨ ((¬ ∃ m9, a = nI m9 ∧ m9 < 2 ^ 31 ∧ okAtom nk nt pc m9) ∧ r = -1 ∧ XT h' tsz tp rc fc nt nk lf ra V kw tw pf fr cl flt plc s cn ct rn rs 1))) := by
  obtain ⟨ns, f, g, hst, x⟩ := X
  refine MX.of [(0, .ref 1), (1, .int a)] (by decide) rfl (Nat.le_of_ble_eq_true rfl) rfl ?_
  refine x_aload_n dX11_why_0 rfl ?_
  refine x_get lf_X11_16 dX11_why_1 x.c rfl ?_
  refine x_iload_n dX11_why_4 rfl ?_
  refine x_callV (As := [.int a]) (st := []) lv_X11_140 (k_X0_hasAtom x.b.1.1 x.b.1.2.1 x.b.1.2.2.1 x.b.2.2.2.1 c.2.1 c.1.2.1 c.1.1) dX11_why_5 x.b.1.1 rfl rfl (Nat.le_of_ble_eq_true rfl) ⟨by decide, by decide⟩ ⟨by decide, by decide⟩ (fun v9 h9 q => ?_) (fun _ _ _ _ _ q => by obtain ⟨_, q, _⟩ := q; cases q)
  obtain ⟨b9, ev, eh, hb9⟩ := q
  rw [eh]
  cases ev
  refine x_if_ne 17 dX11_why_8 (by decide) (fun c_8 => ?_) (fun c_8 => ?_)
  · have c_8 := bi_t c_8
    obtain ⟨n, rfl, hn31, hok⟩ := hb9.mp c_8
    have hn := okAtom_lt hok c.1.2.1
    refine x_aload_n dX11_why_17 rfl ?_
    refine x_callV (As := []) (st := []) lv_X11_156 (k_X11_settled x c hs hst) dX11_why_18 x.c rfl rfl (Nat.le_of_ble_eq_true rfl) ⟨by decide, by decide⟩ ⟨by decide, by decide⟩ (fun v1 h1 q => ?_) (fun _ _ _ _ _ q => by cases q.1)
    obtain ⟨ev, w1, f1, g1, st1, x1⟩ := q
    cases ev
    obtain ⟨c1, clk1, m1⟩ := x1.m
    obtain ⟨⟨rf1, hrs1, hrf1⟩, hrl1⟩ := x1.b.1.2.2.2.2.2.1
    refine x_astore_n [(0, .ref 1), (1, .int (nI n)), (2, .ref 192)] dX11_why_21 (by decide) rfl rfl ?_
    refine x_aload_n dX11_why_22 rfl ?_
    refine x_iload_n dX11_why_23 rfl ?_
    refine x_callV (As := [.int (nI n)]) (st := []) lv_X11_160 (k_X5_has (n := n) m1.1 m1.2.1 st1.1 hn) dX11_why_24 m1.1 rfl rfl (Nat.le_of_ble_eq_true rfl) ⟨by decide, by decide⟩ ⟨by decide, by decide⟩ (fun v hq9 q => ?_) (fun _ _ _ _ _ q => by cases q.1)
    obtain ⟨ev, eh⟩ := q
    rw [eh]
    cases ev
    refine x_if_ne 36 dX11_why_27 (by decide) (fun c_27 => ?_) (fun c_27 => ?_)
    · have c_27 := bi_t c_27
      refine x_aload_n dX11_why_36 rfl ?_
      refine x_iconst (v := 0) dX11_why_37 (by decide) ?_
      refine x_put [.ref 2, .int (nI tsz), .ref 3, .ref 181, .ref 187, .ref 190, .ref 192, .int (bi true), .ref 196, .ref 200, .ref 204, .int (nI rn), .int 0] lf_X11_89 dX11_why_38 x1.c (Nat.le_of_ble_eq_true rfl) rfl rfl rfl ?_
      have hf8 : xfr h1 (xup h1 1 (.inr (11, [.ref 2, .int (nI tsz), .ref 3, .ref 181, .ref 187, .ref 190, .ref 192, .int (bi true), .ref 196, .ref 200, .ref 204, .int (nI rn), .int 0]))) [1] := (xfr_rf _ _).up (by decide)
      have x8 : XH (xup h1 1 (.inr (11, [.ref 2, .int (nI tsz), .ref 3, .ref 181, .ref 187, .ref 190, .ref 192, .int (bi true), .ref 196, .ref 200, .ref 204, .int (nI rn), .int 0]))) tsz tp rc fc nt nk lf ra V kw tw pf fr cl flt plc true f1 g1 cn ct rn rs 0 := ⟨(by rw [hf8.1]; exact x1.n), (xup_self _ _ _), (hf8.at x1.t (by decide)), (x1.b.kp hf8 (by decide)), (x1.r.kp hf8 (by decide)), (jnI_kp x1.j hf8 (by decide)), (x1.g.kp hf8 (by decide)), (md_kp x1.m hf8 (by decide)), (x1.s.kp hf8 (by decide)), (x1.k.kp hf8 (by decide)), (hf8.at x1.e (by decide))⟩
      have w8 := w1.tr (xKp.of hf8 (by decide))
      generalize xup h1 1 (.inr (11, [.ref 2, .int (nI tsz), .ref 3, .ref 181, .ref 187, .ref 190, .ref 192, .int (bi true), .ref 196, .ref 200, .ref 204, .int (nI rn), .int 0])) = h8 at hf8 x8 w8
      refine x_aload_n dX11_why_41 rfl ?_
      refine x_get lf_X11_16 dX11_why_42 x8.c rfl ?_
      refine x_iload_n dX11_why_45 rfl ?_
      refine x_callV (As := [.int (nI n)]) (st := []) lv_X11_153 (k_X0_isFact (n := n) x8.b.1.1 x8.b.2.2.2.2.1 c.2.2.2.2.2.2.2 hn) dX11_why_46 x8.b.1.1 rfl rfl (Nat.le_of_ble_eq_true rfl) ⟨by decide, by decide⟩ ⟨by decide, by decide⟩ (fun v hq9 q => ?_) (fun _ _ _ _ _ q => by cases q.1)
      obtain ⟨ev, eh⟩ := q
      rw [eh]
      cases ev
      refine x_if_eq 55 dX11_why_49 (by decide) (fun c_49 => ?_) (fun c_49 => ?_)
      · have c_49 := bi_f c_49
        refine x_iconst (v := 0) dX11_why_55 (by decide) ?_
        refine x_istore_n [(0, .ref 1), (1, .int (nI n)), (2, .ref 192), (3, .int 0)] dX11_why_56 (by decide) rfl rfl ?_
        obtain ⟨d, hd⟩ := opt_yes c_27
        obtain ⟨hd0, hex⟩ := lead_ex hs c.2.2.1 c.1.1 hn hd c_49
        obtain ⟨c8, clk8, m8⟩ := x8.m
        exact l_X11_why (tr := 0) st1 c c2 hn hok hd hd0 (fun n d hn hd => st_le c.2.2.1 c.1.1 hs hn hd) c_49 hex (rc + 1) 0 c8 clk8 h8 (by omega) (by omega) w8 x8 m8 (fun ρ hρ => absurd hρ (by omega))
      · have c_49 := bi_t c_49
        refine x_bipush (v := (-2)) dX11_why_52 (by decide) ?_
        exact x_iret dX11_why_54 rfl rfl (Nat.le_refl _) (Nat.le_refl _) ⟨w8, _, rfl, Or.inl ⟨n, rfl, hok, Or.inr (Or.inl ⟨c_49, rfl, ⟨true, f1, g1, fun _ => st1, x8⟩⟩)⟩⟩
    · have c_27 := bi_f c_27
      refine x_aload_n dX11_why_30 rfl ?_
      refine x_iconst (v := 5) dX11_why_31 (by decide) ?_
      refine x_callV (As := [.int 5]) (st := []) lv_X11_77 (k_X11_refuse x1) dX11_why_32 x1.c rfl rfl (Nat.le_of_ble_eq_true rfl) ⟨by decide, by decide⟩ ⟨by decide, by decide⟩ (fun v9 h9 q => ?_) (fun _ _ _ _ _ q => by cases q.1)
      obtain ⟨ev, w9, x9⟩ := q
      cases ev
      have hno : s n = none := opt_no c_27
      exact x_iret dX11_why_35 rfl rfl (Nat.le_refl _) (Nat.le_refl _) ⟨w1.tr w9, _, rfl, Or.inl ⟨n, rfl, hok, Or.inl ⟨hno, rfl, ⟨true, f1, g1, fun _ => st1, x9⟩⟩⟩⟩
  · have c_8 := bi_f c_8
    refine x_aload_n dX11_why_11 rfl ?_
    refine x_iconst (v := 1) dX11_why_12 (by decide) ?_
    refine x_callV (As := [.int 1]) (st := []) lv_X11_77 (k_X11_refuse x) dX11_why_13 x.c rfl rfl (Nat.le_of_ble_eq_true rfl) ⟨by decide, by decide⟩ ⟨by decide, by decide⟩ (fun v9 h9 q => ?_) (fun _ _ _ _ _ q => by cases q.1)
    obtain ⟨ev, w9, x9⟩ := q
    cases ev
    exact x_iret dX11_why_16 rfl rfl (Nat.le_refl _) (Nat.le_refl _) ⟨w9, _, rfl, Or.inr ⟨fun q => (by rw [hb9.mpr q] at c_8; cases c_8), rfl, ⟨ns, f, g, hst, x9⟩⟩⟩
