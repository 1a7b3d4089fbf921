/-! the court: settling -/
def stl (s : Nat → Option Nat) (f g : Nat → Int32) : Prop := isRows f (fun n => (s n).isSome) ∧ ∀ n d, n < 1000 → s n = some d → g n = nI d
/-- what holds of all that has been told -/
def cOk (rc nt nk : Nat) (V : Nat → RV) (pf : Nat → Int32) (pc : Nat → Nat) (lf : Nat → Int32) (L : Nat → Nat) (fr : Nat → Int32) (S : Nat → Bool) : Prop := (nt ≤ 10 ∧ nk ≤ 10 ∧ rc ≤ 20) ∧ (∀ k, k < nk → pf k = nI (pc k) ∧ pc k < 3) ∧ (∀ r, r < rc → okRl nt (V r)) ∧ (∀ r, r < rc → rvH (V r) < nk) ∧ Sat V rc L ∧ (∀ k, k < 10 → lf k = nI (L k)) ∧ (∀ k, L k ≤ 9) ∧ isRows fr S
theorem all_bit {k : Nat} (hk : k < 10) : ¬ (((1023 : Int32) >>> (nI k &&& 31)) &&& 1) = 0 := by
  have h : ∀ k, k < 10 → ¬ (((1023 : Int32) >>> (nI k &&& 31)) &&& 1) = 0 := by decide +kernel
  exact h k hk
theorem bs_start {F : Nat → Bool} {V : Nat → RV} {rc : Nat} {U : Nat → Bool} {nt : Nat} {L : Nat → Nat} {s : Nat → Option Nat} {cs : Bool} {f' g' c' le : Nat → Int32} (hs : IsSt F V rc U nt s) (hF : isRows f' F) (hg : cs = true → ∀ k, k < 1000 → g' k = if F k = true then 0 else 2147483647) (hg0 : cs = false → ∀ n, n < 1000 → g' n = 0) : bsI F L s cs 0 (f', g', c', 0, 0, false, le) := by
  have hz : ∀ n, n < 1000 → F n = true → g' n = 0 := fun n hn q => by
    cases cs with
    | false => exact hg0 rfl n hn
    | true => rw [hg rfl n hn, if_pos q]
  refine ⟨⟨wfR_of hF, rfl, fun n hn q => ?_⟩, fun n hn q => ?_, fun n d hn hd q => ?_, ⟨Int32.le_refl _, ?_⟩, hg0⟩
  · have q : F n = true := (rowS_of hF hn).symm.trans q
    show hiOk _ (g' n)
    rw [hz n hn q]; exact hiOk_0 _
  · have q : F n = true := (rowS_of hF hn).symm.trans q
    refine ⟨0, hs.1 n hn q, fun _ => ?_⟩
    show nI 0 ≤ g' n
    rw [hz n hn q]; exact Int32.le_refl _
  · rcases q with q | q
    · have e := hs.1 n hn q
      rw [e] at hd; cases hd
      exact ⟨(rowS_of hF hn).trans q, fun _ => hz n hn q⟩
    · exact absurd q (Nat.not_lt_zero _)
  · have hb : pot cs (f', g', c', 0, 0, false, le) ≤ 1000 * 1001 := by
      refine fb_sm_bound (fun k hk => ?_)
      unfold wgt
      split
      next q =>
        split
        next => show (g' k).toNatClampNeg ≤ 1001; rw [hz k hk ((rowS_of hF hk).symm.trans q)]; decide
        next => omega
      next => omega
    show ((0 : Int32)).toInt + (pot cs (f', g', c', 0, 0, false, le) : Int) ≤ 1002000
    rw [i0]; omega
theorem jgR_rows {s : Nat → Option Nat} {cs : Bool} {σ : JS} (h : jgR s cs (-1) σ) : isRows σ.1 (fun n => (s n).isSome) := by
  obtain ⟨h1, h2, -, h4⟩ := h
  have h5 : ∀ n d, n < 1000 → s n = some d → fin1 cs s σ n d := by
    rcases h4 with q | ⟨n, hn, e, -⟩
    · exact q
    · exact absurd e.symm (nI_m1 (by omega))
  refine isRows_ext h1 (fun n hn => ?_)
  cases e : s n with
  | none =>
    cases q : rowS σ.1 n with
    | false => rfl
    | true => obtain ⟨d, hd⟩ := h2 n hn q; rw [e] at hd; cases hd
  | some d => exact (h5 n d hn e).1
theorem jgR_stl {s : Nat → Option Nat} {σ : JS} (h : jgR s true (-1) σ) : stl s σ.1 σ.2.1 := by
  refine ⟨jgR_rows h, fun n d hn hd => ?_⟩
  rcases h.2.2.2 with q | ⟨n, hn, e, -⟩
  · exact (q n d hn hd).2 rfl
  · exact absurd e.symm (nI_m1 (by omega))
def XT (h : xHp) (tsz : Nat) (tp : Nat → Int32) (rc : Nat) (fc : Int32) (nt : Nat) (nk : Nat) (lf : Nat → Int32) (ra : Nat → Nat) (V : Nat → RV) (kw : Nat → Int64) (tw : Nat → Int64) (pf : Nat → Int32) (fr : Nat → Int32) (cl : Int32) (flt : Int32) (plc : Int32) (s : Nat → Option Nat) (cn : Nat) (ct : Nat → Int32) (rn : Nat) (rs : Nat → Int32) (tr : Int32) : Prop := ∃ (ns : Bool) (f g : Nat → Int32), (ns = true → stl s f g) ∧ XH h tsz tp rc fc nt nk lf ra V kw tw pf fr cl flt plc ns f g cn ct rn rs tr
set_option maxRecDepth 100000 in
set_option maxHeartbeats 4000000 in
theorem k_X11_settled {G : xG} {h : xHp} {tsz : Nat} {tp : Nat → Int32} {rc : Nat} {fc : Int32} {nt : Nat} {nk : Nat} {lf : Nat → Int32} {ra : Nat → Nat} {V : Nat → RV} {kw : Nat → Int64} {tw : Nat → Int64} {pf : Nat → Int32} {fr : Nat → Int32} {cl : Int32} {flt : Int32} {plc : Int32} {ns : Bool} {f : Nat → Int32} {g : Nat → Int32} {cn : Nat} {ct : Nat → Int32} {rn : Nat} {rs : Nat → Int32} {tr : Int32} (x : XH h tsz tp rc fc nt nk lf ra V kw tw pf fr cl flt plc ns f g cn ct rn rs tr) {s : Nat → Option Nat} {pc : Nat → Nat} {L : Nat → Nat} {S : Nat → Bool} (c : cOk rc nt nk V pf pc lf L fr S) (hs : IsSt S V rc (fun _ => true) nt s) (hns : ns = true → stl s f g) : MX G mX11_settled 15 0 0 [.ref 1] h (fun o h' => o = .inl (some (.ref 192)) ∧ xKp h h' ∧ ∃ f' g', stl s f' g' ∧ XH h' tsz tp rc fc nt nk lf ra V kw tw pf fr cl flt plc true f' g' cn ct rn rs tr) := by
  obtain ⟨⟨rf, hrs1, hrf⟩, hrl⟩ := x.b.1.2.2.2.2.2.1
  have hra := x.b.1.2.2.2.2.2.2
  obtain ⟨c0, clk0, m0⟩ := x.m
  obtain ⟨rn9, hrn9⟩ := x.g.2
  refine MX.of [(0, .ref 1)] (by decide) rfl (Nat.le_of_ble_eq_true rfl) rfl ?_
  refine x_aload_n dX11_settled_0 rfl ?_
  refine x_get lf_X11_85 dX11_settled_1 x.c rfl ?_
  refine x_if_ne 42 dX11_settled_4 (by decide) (fun c_4 => ?_) (fun c_4 => ?_)
  · have c_4 := bi_t c_4
    refine x_aload_n dX11_settled_42 rfl ?_
    refine x_get lf_X11_50 dX11_settled_43 x.c rfl ?_
    exact x_aret dX11_settled_46 rfl (Nat.le_refl _) (Nat.le_refl _) ⟨rfl, xKp_rf h, f, g, hns c_4, by subst c_4; exact x⟩
  · have c_4 := bi_f c_4
    refine x_aload_n dX11_settled_7 rfl ?_
    refine x_get lf_X11_50 dX11_settled_8 x.c rfl ?_
    refine x_aload_n dX11_settled_11 rfl ?_
    refine x_get lf_X11_16 dX11_settled_12 x.c rfl ?_
    refine x_get lf_X11_228 dX11_settled_15 x.b.1.1 rfl ?_
    refine x_callV (As := [.ref 12]) (st := []) lv_X11_231 (k_X5_start (a := 192) m0 x.b.2.2.2.2.1 c.2.2.2.2.2.2.2 (okMd_ne (md := 192))) dX11_settled_18 m0.1 rfl rfl (Nat.le_of_ble_eq_true rfl) ⟨by decide, by decide⟩ ⟨by decide, by decide⟩ (fun v h1 q => ?_) (fun _ _ _ _ _ q => by cases q.1)
    obtain ⟨ev, f1, g1, c1, m1, i1, -, j1, k1, w1⟩ := q
    cases ev
    refine x_aload_n dX11_settled_21 rfl ?_
    refine x_get lf_X11_41 dX11_settled_22 (w1.at x.c (by decide)) rfl ?_
    refine x_aload_n dX11_settled_25 rfl ?_
    refine x_get lf_X11_50 dX11_settled_26 (w1.at x.c (by decide)) rfl ?_
    refine x_iconst (v := (-1)) dX11_settled_29 (by decide) ?_
    refine x_sipush (v := 1023) dX11_settled_30 (by decide) ?_
    refine x_iconst (v := (-1)) dX11_settled_33 (by decide) ?_
    have hH1 : jgH h1 h1 rc fc nt nk lf ra V 192 true (f1, g1, c1, 0, 0, false, fun _ => 0) rn9 := ⟨x.b.1.kept w1 (by decide), w1.at x.g.1 (by decide), w1.at hrn9 (by decide), jnI_kp x.j w1 (by decide), m1, xfr_rf _ _⟩
    refine x_callV (As := [.ref 192, .int (-1), .int 1023, .int (-1)]) (st := []) lv_X11_235 (k_X3_settle hs c.2.2.1 c.1.1 c.2.2.2.2.1 c.2.2.2.2.2.1 c.2.2.2.2.2.2.1 c.1.2.2 (Or.inl rfl) (fun r hr => ⟨fun _ => ⟨nI_m1 (by have := c.1.2.2; omega), all_bit (by have := c.2.2.2.1 r hr; have := c.1.2.1; omega)⟩, fun _ => rfl⟩) (Or.inl rfl) c.1.2.1 c.2.2.2.1 hH1 (bs_start hs i1 j1 (fun z => by cases z))) dX11_settled_34 (w1.at x.g.1 (by decide)) rfl rfl (Nat.le_of_ble_eq_true rfl) ⟨by decide, by decide⟩ ⟨by decide, by decide⟩ (fun v h2 q => ?_) (fun _ _ _ _ _ q => by cases q.1)
    obtain ⟨ev, σ2, rn2, m2, j2, n2, w2, r2⟩ := q
    cases ev
    have w3 : xfr h h2 [191, 187, 188, 189, 192, 193, 194, 195] := (w1.wd (by decide)).tr w2
    refine x_aload_n dX11_settled_37 rfl ?_
    refine x_iconst (v := 1) dX11_settled_38 (by decide) ?_
    refine x_put [.ref 2, .int (nI tsz), .ref 3, .ref 181, .ref 187, .ref 190, .ref 192, .int 1, .ref 196, .ref 200, .ref 204, .int (nI rn), .int tr] lf_X11_85 dX11_settled_39 (w3.at x.c (by decide)) (Nat.le_of_ble_eq_true rfl) rfl rfl rfl ?_
    refine x_aload_n dX11_settled_42 rfl ?_
    refine x_get lf_X11_50 dX11_settled_43 (xup_self _ _ _) rfl ?_
    have hf : xfr h (xup h2 1 (.inr (11, [.ref 2, .int (nI tsz), .ref 3, .ref 181, .ref 187, .ref 190, .ref 192, .int 1, .ref 196, .ref 200, .ref 204, .int (nI rn), .int tr]))) [1, 191, 187, 188, 189, 192, 193, 194, 195] := (w3.wd (by decide)).up (by decide)
    exact x_aret dX11_settled_46 rfl (Nat.le_refl _) (Nat.le_refl _) ⟨rfl, xKp.of hf (by decide), σ2.1, σ2.2.1, jgR_stl r2, ⟨(by rw [hf.1]; exact x.n), ((xup_self _ _ _)), (hf.at x.t (by decide)), (x.b.kp hf (by decide)), (x.r.kp hf (by decide)), (jnI_kp j2 (L := [1]) ((xfr_rf _ _).up (by decide)) (by decide)), ⟨hf.at x.g.1 (by decide), rn2, (xup_ne (by decide)).trans n2⟩, (md_kp ⟨_, _, m2⟩ (L := [1]) ((xfr_rf _ _).up (by decide)) (by decide)), (x.s.kp hf (by decide)), (x.k.kp hf (by decide)), (hf.at x.e (by decide))⟩⟩
