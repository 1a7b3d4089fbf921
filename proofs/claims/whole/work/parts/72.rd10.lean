/-! RuleCourt$Reader: read; RuleCourt: tell -/
theorem lexR_lt {b : Nat → Nat} {n p p' : Nat} {t : Tk} (h : lexR b n p t p') : (¬ t.1 = 0 → t.2.1 < n) ∧ (2 ≤ t.1 → p + 1 ≤ p') := by
  obtain ⟨h1, h2, h3, h4⟩ := h
  rcases h4 with ⟨a, c, d⟩ | ⟨m, a, c, d, e, f, g, i, j⟩ | ⟨a, c, d⟩ | ⟨a, c, d, e, f⟩ | ⟨a, c, d, e⟩ | ⟨a, c, d, e, f, g⟩
  · exact ⟨fun z => absurd c z, fun z => by omega⟩
  · exact ⟨fun _ => by omega, fun _ => by omega⟩
  · exact ⟨fun _ => by omega, fun z => by omega⟩
  · exact ⟨fun _ => a, fun _ => by omega⟩
  · exact ⟨fun _ => a, fun _ => by omega⟩
  · exact ⟨fun _ => a, fun z => by omega⟩
theorem wd_ok {b : Nat → Nat} {st m : Nat} (h : ∀ j, j < m → isL (b (st + j))) : okW (wdL b st m) ∧ (wdL b st m).length = m := by
  refine ⟨fun c hc => ?_, by simp [wdL]⟩
  simp only [wdL, List.mem_map, List.mem_range] at hc
  obtain ⟨j, hj, e⟩ := hc
  have := h j hj
  unfold isL at this
  omega
theorem tk_pos {b : Nat → Nat} {n ts : Nat} {tk : Nat → Tk} {pos : Nat → Nat} (h : tkC b n ts tk pos) : ∀ i, i < ts → i ≤ pos i
  | 0, _ => Nat.zero_le _
  | i + 1, hi => by
    have h1 := tk_pos h i (by omega)
    have h2 := (lexR_lt (h.2.1 i (by omega))).2 (h.2.2.2.2 i hi)
    omega
/-- the TOKENS of a text -/
def tkT (b : Nat → Nat) (n ts : Nat) (tk : Nat → Tk) (pos : Nat → Nat) : Prop := tkC b n ts tk pos ∧ (∀ j, ts ≤ j → tk j = (0, 0, [])) ∧ ts ≤ 401
theorem tkT_of {b : Nat → Nat} {n ts : Nat} {ty st : Nat → Int32} {wd : Nat → Int64} (h : tkF b n ts ty st wd) : ∃ tk pos, tkT b n ts tk pos ∧ tkX ts tk ty st wd := by
  obtain ⟨h1, tk, pos, ⟨c1, c2, c3, c4, c5⟩, hx⟩ := h
  have e : ∀ i, i < ts → (fun j => if j < ts then tk j else ((0, 0, []) : Tk)) i = tk i := fun i hi => if_pos hi
  refine ⟨fun j => if j < ts then tk j else (0, 0, []), pos, ⟨⟨c1, fun i hi => by rw [e i hi]; exact c2 i hi, c3, by rw [e _ (by omega)]; exact c4, fun i hi => by rw [e i (by omega)]; exact c5 i hi⟩, fun j hj => if_neg (by omega), h1⟩, fun i hi => by rw [e i hi]; exact hx i hi⟩
theorem tkT_ok {b : Nat → Nat} {n ts : Nat} {tk : Nat → Tk} {pos : Nat → Nat} (h : tkT b n ts tk pos) (hn : n ≤ 400) (hb : ∀ k, k < n → b k < 256) : (∀ i, i < ts → (tk i).1 < 256 ∧ (tk i).2.1 ≤ 400 ∧ ((tk i).1 = 2 → okW (tk i).2.2 ∧ (tk i).2.2.length ≤ 8)) ∧ (∀ j, (tk j).2.1 ≤ 400 ∨ (tk j).1 < 2) ∧ ∀ i, i < ts → (tk i).1 ≠ 0 → i < n := by
  have key : ∀ i, i < ts → (tk i).1 < 256 ∧ (tk i).2.1 ≤ 400 ∧ ((tk i).1 = 2 → okW (tk i).2.2 ∧ (tk i).2.2.length ≤ 8) := fun i hi => by
    obtain ⟨h1, h2, h3, h4⟩ := h.1.2.1 i hi
    refine ⟨?_, by omega, fun z => ?_⟩
    · rcases h4 with ⟨a, c, d⟩ | ⟨m, a, c, d, e, f, g, i, j⟩ | ⟨a, c, d⟩ | ⟨a, c, d, e, f⟩ | ⟨a, c, d, e⟩ | ⟨a, c, d, e, f, g⟩
      · omega
      · omega
      · omega
      · omega
      · rw [d]; exact hb _ a
      · omega
    · rcases h4 with ⟨a, c, d⟩ | ⟨m, a, c, d, e, f, g, i, j⟩ | ⟨a, c, d⟩ | ⟨a, c, d, e, f⟩ | ⟨a, c, d, e⟩ | ⟨a, c, d, e, f, g⟩
      · omega
      · rw [i]; exact ⟨(wd_ok e).1, by rw [(wd_ok e).2]; exact c⟩
      · omega
      · omega
      · unfold isM at c; omega
      · omega
  refine ⟨key, fun j => ?_, fun i hi z => ?_⟩
  · rcases Nat.lt_or_ge j ts with z | z
    · exact Or.inl (key j z).2.1
    · rw [h.2.1 j z]; exact Or.inr (by decide)
  · have h1 := tk_pos h.1 i hi
    have h2 := (lexR_lt (h.1.2.1 i hi)).1 z
    have h3 := (h.1.2.1 i hi).1
    omega
theorem tkT_O {b : Nat → Nat} {n ts : Nat} {tk : Nat → Tk} {pos : Nat → Nat} {ty st : Nat → Int32} {wd : Nat → Int64} (h : tkT b n ts tk pos) (hn : n ≤ 400) (hb : ∀ k, k < n → b k < 256) (hx : tkX ts tk ty st wd) : tkO ts tk ty st wd := ⟨⟨h.1.2.2.1, h.2.2⟩, hx, h.1.2.2.2.1, h.1.2.2.2.2, (tkT_ok h hn hb).1⟩
set_option maxRecDepth 100000 in
set_option maxHeartbeats 4000000 in
theorem k_X7_read {G : xG} {h : xHp} {rc : Nat} {fc : Int32} {q : PQ} {lf : Nat → Int32} {ra : Nat → Nat} {V : Nat → RV} {kw tw : Nat → Int64} {pf fr : Nat → Int32} (bk : bkF h rc fc q.1 q.2.2.1 lf ra V kw tw pf fr) (wT : wOk q.1 q.2.1 tw) (wK : wOk q.2.2.1 q.2.2.2.1 kw) (hpf : ∀ j, j < 10 → pf j = nI (q.2.2.2.2 j) ∧ q.2.2.2.2 j < 3) (hq : q.1 ≤ 10 ∧ q.2.2.1 ≤ 10) (hrc : rc ≤ 20) (hrl : ∀ r, r < rc → rlD q (V r)) {S : Nat → Bool} (hS : isRows fr S) (hfc : fc = nI (fb_ct S 1000)) {S0 : Nat → Nat} (hs0 : Sat V rc S0) {cl flt plc : Int32} (rd : rdH h cl flt plc) {tp : Nat → Int32} (htp : h.1 2 = some (.inl (0, 400, .inl tp))) {b : Nat → Nat} {n : Nat} (hn : n ≤ 400) (hb : ∀ k, k < n → tp k = nI (b k) ∧ b k < 256) : MX G mX7_read 6 0 0 [.ref 181, .ref 2, .int (nI n)] h (fun o h' => ∃ ts tk pos, tkT b n ts tk pos ∧ ∃ fs0, rdQ tk h rc fc ra V q fr fs0 S o h') := by
  obtain ⟨at9, fn9, ts9, ty9, st9, wd9, fs9, r1, r2, r3, r4, r5, r6⟩ := rd
  refine MX.of [(0, .ref 181), (1, .ref 2), (2, .int (nI n))] (by decide) rfl (Nat.le_of_ble_eq_true rfl) rfl ?_
  refine x_aload_n dX7_read_0 rfl ?_
  refine x_get lf_X7_22 dX7_read_1 r1 rfl ?_
  refine x_get lf_X7_26 dX7_read_4 bk.1.1 rfl ?_
  refine x_get lf_X7_32 dX7_read_7 bk.1.2.1 rfl ?_
  refine x_istore_n [(0, .ref 181), (1, .ref 2), (2, .int (nI n)), (3, .int (nI q.2.2.1))] dX7_read_10 (by decide) rfl rfl ?_
  refine x_aload_n dX7_read_11 rfl ?_
  refine x_get lf_X7_22 dX7_read_12 r1 rfl ?_
  refine x_get lf_X7_38 dX7_read_15 bk.1.1 rfl ?_
  refine x_get lf_X7_32 dX7_read_18 bk.1.2.2.1 rfl ?_
  refine x_istore [(0, .ref 181), (1, .ref 2), (2, .int (nI n)), (3, .int (nI q.2.2.1)), (4, .int (nI q.1))] dX7_read_21 (by decide) rfl rfl ?_
  refine x_aload_n dX7_read_23 rfl ?_
  refine x_get lf_X7_22 dX7_read_24 r1 rfl ?_
  refine x_get lf_X7_41 dX7_read_27 bk.1.1 rfl ?_
  refine x_istore [(0, .ref 181), (1, .ref 2), (2, .int (nI n)), (3, .int (nI q.2.2.1)), (4, .int (nI q.1)), (5, .int (nI rc))] dX7_read_30 (by decide) rfl rfl ?_
  refine x_aload_n dX7_read_32 rfl ?_
  refine x_get lf_X7_12 dX7_read_33 r1 rfl ?_
  refine x_aload_n dX7_read_36 rfl ?_
  refine x_iload_n dX7_read_37 rfl ?_
  refine x_callV (As := [.ref 2, .int (nI n)]) (st := []) lv_X7_44 (k_X10_read htp hn hb ⟨r2, r3, r4, r5⟩) dX7_read_38 r2 rfl rfl (Nat.le_of_ble_eq_true rfl) ⟨by decide, by decide⟩ ⟨by decide, by decide⟩ (fun v9 h1 z => ?_) (fun _ _ _ _ _ z => by cases z.1)
  obtain ⟨ev, xf1, ts, ty, st, wd, t1, tF⟩ := z
  cases ev
  refine x_aload_n dX7_read_41 rfl ?_
  refine x_iconst (v := 0) dX7_read_42 (by decide) ?_
  refine x_put [.ref 3, .ref 182, .int 0, .ref 186, .int fn9, .int cl, .int flt, .int plc] lf_X7_48 dX7_read_43 (xf1.at r1 (by decide)) (Nat.le_of_ble_eq_true rfl) rfl rfl rfl ?_
  refine x_aload_n dX7_read_46 rfl ?_
  refine x_iconst (v := 0) dX7_read_47 (by decide) ?_
  refine x_put [.ref 3, .ref 182, .int 0, .ref 186, .int 0, .int cl, .int flt, .int plc] lf_X7_51 dX7_read_48 (xup_self _ _ _) (Nat.le_of_ble_eq_true rfl) rfl rfl rfl ?_
  refine x_aload_n dX7_read_51 rfl ?_
  refine x_iconst (v := 0) dX7_read_52 (by decide) ?_
  refine x_put [.ref 3, .ref 182, .int 0, .ref 186, .int 0, .int 0, .int flt, .int plc] lf_X7_54 dX7_read_53 (xup_self _ _ _) (Nat.le_of_ble_eq_true rfl) rfl rfl rfl ?_
  refine x_aload_n dX7_read_56 rfl ?_
  refine x_iconst (v := 0) dX7_read_57 (by decide) ?_
  refine x_put [.ref 3, .ref 182, .int 0, .ref 186, .int 0, .int 0, .int 0, .int plc] lf_X7_57 dX7_read_58 (xup_self _ _ _) (Nat.le_of_ble_eq_true rfl) rfl rfl rfl ?_
  refine x_aload_n dX7_read_61 rfl ?_
  refine x_iconst (v := (-1)) dX7_read_62 (by decide) ?_
  refine x_put [.ref 3, .ref 182, .int 0, .ref 186, .int 0, .int 0, .int 0, .int (-1)] lf_X7_60 dX7_read_63 (xup_self _ _ _) (Nat.le_of_ble_eq_true rfl) rfl rfl rfl ?_
  refine x_iconst (v := 1) dX7_read_66 (by decide) ?_
  refine x_istore [(0, .ref 181), (1, .ref 2), (2, .int (nI n)), (3, .int (nI q.2.2.1)), (4, .int (nI q.1)), (5, .int (nI rc)), (6, .int 1)] dX7_read_67 (by decide) rfl rfl ?_
  obtain ⟨tk, pos, tT, tX⟩ := tkT_of tF
  have O := tkT_O tT hn (fun k hk => (hb k hk).2) tX
  obtain ⟨-, hp, hE⟩ := tkT_ok tT hn (fun k hk => (hb k hk).2)
  rw [xup_up, xup_up, xup_up, xup_up]
  have Z0 : RZ h (xup h1 181 (.inr (7, [.ref 3, .ref 182, .int (nI 0), .ref 186, .int (nI 0), .int (nI 0), .int 0, .int (-1)]))) rc fc lf ra V fr 0 fs9 0 ts ty st wd q 0 0 (-1) := by
    have hx : xfr h (xup h1 181 (.inr (7, [.ref 3, .ref 182, .int (nI 0), .ref 186, .int (nI 0), .int (nI 0), .int 0, .int (-1)]))) [182, 183, 184, 185, 181] := (xf1.wd (by decide)).up (by decide)
    exact ⟨⟨kw, tw, pf, bk.kp hx (by decide), wT, wK, hpf⟩, xup_self _ _ _, ⟨(xup_ne (by decide)).trans t1.1, (xup_ne (by decide)).trans t1.2.1, (xup_ne (by decide)).trans t1.2.2.1, (xup_ne (by decide)).trans t1.2.2.2⟩, hx.at r6 (by decide), ⟨hx.1, fun a ha => hx.2 a (by simp; omega)⟩, hq.1, hq.2, hrc⟩
  refine x_post (l_X7_loop (q0 := q) hs0 hrc hS hfc O hp (fun i hi z => Nat.lt_of_lt_of_le (hE i hi z) hn) 201 rfl Z0 ⟨⟨hrc, Nat.le_refl _⟩, hq, extQ_rf q, fun _ _ => rfl, hrl, fun i hi => absurd (show i < 0 from hi) (by omega), Nat.le_refl _, Nat.le_refl _⟩ (Or.inl rfl) (by have := O.1.1; omega) rfl) (fun o h' z => ⟨ts, tk, pos, tT, fs9, z⟩)
theorem XH.rd {h h' : xHp} {tsz : Nat} {tp : Nat → Int32} {rc : Nat} {fc : Int32} {nt : Nat} {nk : Nat} {lf : Nat → Int32} {ra : Nat → Nat} {V : Nat → RV} {kw : Nat → Int64} {tw : Nat → Int64} {pf : Nat → Int32} {fr : Nat → Int32} {cl : Int32} {flt : Int32} {plc : Int32} {ns : Bool} {f : Nat → Int32} {g : Nat → Int32} {cn : Nat} {ct : Nat → Int32} {rn : Nat} {rs : Nat → Int32} {tr : Int32} (x : XH h tsz tp rc fc nt nk lf ra V kw tw pf fr cl flt plc ns f g cn ct rn rs tr) {rc9 : Nat} {fc9 : Int32} {nt9 nk9 : Nat} {lf9 : Nat → Int32} {V9 : Nat → RV} {kw9 tw9 : Nat → Int64} {pf9 fr9 : Nat → Int32} {cl9 flt9 plc9 : Int32} (f9 : rdF h h') (b : bkF h' rc9 fc9 nt9 nk9 lf9 ra V9 kw9 tw9 pf9 fr9) (r : rdH h' cl9 flt9 plc9) : XH h' tsz tp rc9 fc9 nt9 nk9 lf9 ra V9 kw9 tw9 pf9 fr9 cl9 flt9 plc9 ns f g cn ct rn rs tr := by
  have at9 : ∀ {a : Nat} {c : xCel}, a < 3 ∨ 187 ≤ a → h.1 a = some c → h'.1 a = some c := fun ha e => (f9.2 _ ha).trans e
  obtain ⟨x1, x2, x3, x4, x5, x6, x7, ⟨c1, clk1, m1, m2, m3, m4⟩, x9, x10, x11⟩ := x
  refine ⟨by rw [f9.1]; exact x1, at9 (by omega) x2, at9 (by omega) x3, b, r, ?_, ?_, ⟨c1, clk1, at9 (by omega) m1, at9 (by omega) m2, at9 (by omega) m3, at9 (by omega) m4⟩, ?_, ?_, at9 (by omega) x11⟩
  · obtain ⟨m0, r0, aim0, rd0, wt0, en0, θ0, lθ, e1, e2, e3⟩ := x6
    exact ⟨m0, r0, aim0, rd0, wt0, en0, θ0, lθ, at9 (by omega) e1, at9 (by omega) e2, at9 (by omega) e3⟩
  · obtain ⟨e1, rn9, e2⟩ := x7
    exact ⟨at9 (by omega) e1, rn9, at9 (by omega) e2⟩
  · obtain ⟨f9, g9, c9, clk9, ⟨e1, e2, e3, e4⟩, e5⟩ := x9
    exact ⟨f9, g9, c9, clk9, ⟨at9 (by omega) e1, at9 (by omega) e2, at9 (by omega) e3, at9 (by omega) e4⟩, e5⟩
  · obtain ⟨gl, kb, cc, ca, pk, e1, e2, e3, e4⟩ := x10
    exact ⟨gl, kb, cc, ca, pk, at9 (by omega) e1, at9 (by omega) e2, at9 (by omega) e3, at9 (by omega) e4⟩
theorem tell_n {a : Int32} {m : Nat} (hm : m ≤ 400) (h1 : ¬ a < 0) (h2 : a ≤ nI m) : ∃ n, n ≤ m ∧ a = nI n := by
  have h0 : (0 : Int32) ≤ a := fa_of_nlt h1
  obtain ⟨e, e2, e3⟩ := nI_toN h0
  refine ⟨a.toNatClampNeg, ?_, e.symm⟩
  rw [← e, nI_leI e2 (by omega)] at h2
  exact h2
theorem tell_no {a : Int32} {m : Nat} (hm : m ≤ 400) (h : a < 0 ∨ ¬ a ≤ nI m) : ¬ ∃ n, n ≤ m ∧ a = nI n := by
  rintro ⟨n, hn, rfl⟩
  rcases h with z | z
  · rw [show (0 : Int32) = nI 0 from rfl, nI_ltI (by omega) (by omega)] at z; omega
  · rw [nI_leI (by omega) (by omega)] at z; omega
set_option maxRecDepth 100000 in
set_option maxHeartbeats 4000000 in
theorem k_X11_tell {G : xG} {h : xHp} {tsz : Nat} {tp : Nat → Int32} {rc : Nat} {fc : Int32} {lf : Nat → Int32} {ra : Nat → Nat} {V : Nat → RV} {kw : Nat → Int64} {tw : Nat → Int64} {pf : Nat → Int32} {fr : Nat → Int32} {cl : Int32} {flt : Int32} {plc : Int32} {ns : Bool} {f : Nat → Int32} {g : Nat → Int32} {cn : Nat} {ct : Nat → Int32} {rn : Nat} {rs : Nat → Int32} {tr : Int32} {q : PQ} (x : XH h tsz tp rc fc q.1 q.2.2.1 lf ra V kw tw pf fr cl flt plc ns f g cn ct rn rs tr) (wT : wOk q.1 q.2.1 tw) (wK : wOk q.2.2.1 q.2.2.2.1 kw) (hpf : ∀ j, j < 10 → pf j = nI (q.2.2.2.2 j) ∧ q.2.2.2.2 j < 3) (hq : q.1 ≤ 10 ∧ q.2.2.1 ≤ 10) (hrc : rc ≤ 20) (hrl : ∀ r, r < rc → rlD q (V r)) {S : Nat → Bool} (hS : isRows fr S) (hfc : fc = nI (fb_ct S 1000)) {S0 : Nat → Nat} (hs0 : Sat V rc S0) {b : Nat → Nat} (htz : tsz ≤ 400) (hb : ∀ k, k < tsz → tp k = nI (b k) ∧ b k < 256) {a : Int32} : MX G mX11_tell 7 0 0 [.ref 1, .int a] h (fun o h' => ((¬ ∃ n, n ≤ tsz ∧ a = nI n) ∧ o = .inl (some (.int (-1))) ∧ xKp h h' ∧ XH h' tsz tp rc fc q.1 q.2.2.1 lf ra V kw tw pf fr cl flt plc ns f g cn ct rn rs 2) ∨ ∃ n, n ≤ tsz ∧ a = nI n ∧ ∃ ts tk pos, tkT b n ts tk pos ∧ ∃ fs0, (∃ e p, tellP tk rc (rc, V, 0, fs0, q, 0, 0) (.inl (e, p)) ∧ o = .inl (some (.int (-1))) ∧ xKp h h' ∧ ∃ (V9 : Nat → RV) (kw9 tw9 : Nat → Int64) (pf9 : Nat → Int32) (pc9 : Nat → Nat) (lf9 : Nat → Int32) (L9 : Nat → Nat) (cl9 : Int32), (∀ r, r < rc → V9 r = V r) ∧ wOk q.1 q.2.1 tw9 ∧ wOk q.2.2.1 q.2.2.2.1 kw9 ∧ (∀ j, j < 10 → pf9 j = nI (pc9 j) ∧ pc9 j < 3) ∧ (∀ j, j < q.2.2.1 → pc9 j = q.2.2.2.2 j) ∧ lyOk V9 rc lf9 L9 ∧ XH h' 0 tp rc fc q.1 q.2.2.1 lf9 ra V9 kw9 tw9 pf9 fr cl9 (nI e) p ns f g cn ct rn rs 4) ∨ (∃ s, tellP tk rc (rc, V, 0, fs0, q, 0, 0) (.inr s) ∧ tsI rc V q s ∧ o = .inl (some (.int (nI s.2.2.2.2.2.2))) ∧ xKp h h' ∧ ∃ (kw9 tw9 : Nat → Int64) (pf9 : Nat → Int32) (lf9 : Nat → Int32) (L9 : Nat → Nat) (fr9 : Nat → Int32), wOk s.2.2.2.2.1.1 s.2.2.2.2.1.2.1 tw9 ∧ wOk s.2.2.2.2.1.2.2.1 s.2.2.2.2.1.2.2.2.1 kw9 ∧ (∀ j, j < 10 → pf9 j = nI (s.2.2.2.2.1.2.2.2.2 j) ∧ s.2.2.2.2.1.2.2.2.2 j < 3) ∧ lyOk s.2.1 s.1 lf9 L9 ∧ isRows fr9 (addF S s.2.2.2.1 s.2.2.1) ∧ XH h' 0 tp s.1 (nI (fb_ct (addF S s.2.2.2.1 s.2.2.1) 1000)) s.2.2.2.2.1.1 s.2.2.2.2.1.2.2.1 lf9 ra s.2.1 kw9 tw9 pf9 fr9 (nI s.2.2.2.2.2.2) 0 (-1) false f g cn ct rn rs 0)) := by
  refine MX.of [(0, .ref 1), (1, .int a)] (by decide) rfl (Nat.le_of_ble_eq_true rfl) rfl ?_
  refine x_iload_n dX11_tell_0 rfl ?_
  refine x_if_lt 12 dX11_tell_1 (by decide) (fun c_1 => ?_) (fun c_1 => ?_)
  · refine x_aload_n dX11_tell_12 rfl ?_
    refine x_iconst (v := 2) dX11_tell_13 (by decide) ?_
    refine x_callV (As := [.int 2]) (st := []) lv_X11_77 (k_X11_refuse x) dX11_tell_14 x.c rfl rfl (Nat.le_of_ble_eq_true rfl) ⟨by decide, by decide⟩ ⟨by decide, by decide⟩ (fun v9 h9 q9 => ?_) (fun _ _ _ _ _ q9 => by cases q9.1)
    obtain ⟨ev, f9, x9⟩ := q9
    cases ev
    exact x_iret dX11_tell_17 rfl rfl (Nat.le_refl _) (Nat.le_refl _) (Or.inl ⟨tell_no htz (by first | exact Or.inl c_1 | exact Or.inr c_9), rfl, f9, x9⟩)
  · refine x_iload_n dX11_tell_4 rfl ?_
    refine x_aload_n dX11_tell_5 rfl ?_
    refine x_get lf_X11_69 dX11_tell_6 x.c rfl ?_
    refine x_icmp_le 18 dX11_tell_9 (by decide) (fun c_9 => ?_) (fun c_9 => ?_)
    · obtain ⟨n, hn, rfl⟩ : ∃ n, n ≤ tsz ∧ a = nI n := tell_n htz c_1 c_9
      refine x_aload_n dX11_tell_18 rfl ?_
      refine x_iconst (v := 0) dX11_tell_19 (by decide) ?_
      refine x_put [.ref 2, .int 0, .ref 3, .ref 181, .ref 187, .ref 190, .ref 192, .int (bi ns), .ref 196, .ref 200, .ref 204, .int (nI rn), .int tr] lf_X11_69 dX11_tell_20 x.c (Nat.le_of_ble_eq_true rfl) rfl rfl rfl ?_
      refine x_aload_n dX11_tell_23 rfl ?_
      refine x_get lf_X11_25 dX11_tell_24 (xup_self _ _ _) rfl ?_
      refine x_aload_n dX11_tell_27 rfl ?_
      refine x_get lf_X11_9 dX11_tell_28 (xup_self _ _ _) rfl ?_
      refine x_iload_n dX11_tell_31 rfl ?_
      have hf1 : xfr h (xup h 1 (.inr (11, [.ref 2, .int 0, .ref 3, .ref 181, .ref 187, .ref 190, .ref 192, .int (bi ns), .ref 196, .ref 200, .ref 204, .int (nI rn), .int tr]))) [1] := ((xfr_rf _ _).up (by simp))
      have x1 : XH (xup h 1 (.inr (11, [.ref 2, .int 0, .ref 3, .ref 181, .ref 187, .ref 190, .ref 192, .int (bi ns), .ref 196, .ref 200, .ref 204, .int (nI rn), .int tr]))) 0 tp rc fc q.1 q.2.2.1 lf ra V kw tw pf fr cl flt plc ns f g cn ct rn rs tr := ⟨(by rw [hf1.1]; exact x.n), (xup_self _ _ _), (hf1.at x.t (by decide)), (x.b.kp hf1 (by decide)), (x.r.kp hf1 (by decide)), (jnI_kp x.j hf1 (by decide)), (x.g.kp hf1 (by decide)), (md_kp x.m hf1 (by decide)), (x.s.kp hf1 (by decide)), (x.k.kp hf1 (by decide)), (hf1.at x.e (by decide))⟩
      generalize xup h 1 (.inr (11, [.ref 2, .int 0, .ref 3, .ref 181, .ref 187, .ref 190, .ref 192, .int (bi ns), .ref 196, .ref 200, .ref 204, .int (nI rn), .int tr])) = h1 at hf1 x1 ⊢
      refine x_callV (As := [.ref 2, .int (nI n)]) (st := []) lv_X11_81 (k_X7_read x1.b wT wK hpf hq hrc hrl hS hfc hs0 x1.r x1.t (by omega) (fun k hk => hb k (by omega))) dX11_tell_32 (x1.r).choose_spec.choose_spec.choose_spec.choose_spec.choose_spec.choose_spec.choose_spec.1 rfl rfl (Nat.le_of_ble_eq_true rfl) ⟨by decide, by decide⟩ ⟨by decide, by decide⟩ (fun v9 h2 z => ?_) (fun _ _ _ _ _ z => by obtain ⟨_, _, _, _, _, z⟩ := z; rcases z with ⟨_, _, _, z, _⟩ | ⟨_, _, _, z, _⟩ <;> cases z)
      obtain ⟨ts, tk, pos, tT, fs0, z⟩ := z
      rcases z with ⟨e, p, tP, ev, V9, kw9, tw9, pf9, pc9, lf9, L9, cl9, b9, g1, g2, g3, g4, g5, g6, g7, g8⟩ | ⟨s, tP, hI, ev, kw9, tw9, pf9, lf9, L9, fr9, b9, g2, g3, g4, g6, g5, g7, g8⟩ <;> cases ev
      · have x2 := x1.rd g8 b9 g7
        have k2 : xKp h h2 := (xKp.of hf1 (by decide)).tr ⟨g8.1, fun a ha => g8.2 a (by omega)⟩
        refine x_if_ne 44 dX11_tell_35 (by decide) (fun c => absurd c (by decide)) (fun _ => ?_)
        refine x_aload_n dX11_tell_38 rfl ?_
        refine x_iconst (v := 4) dX11_tell_39 (by decide) ?_
        refine x_callV (As := [.int 4]) (st := []) lv_X11_77 (k_X11_refuse x2) dX11_tell_40 x2.c rfl rfl (Nat.le_of_ble_eq_true rfl) ⟨by decide, by decide⟩ ⟨by decide, by decide⟩ (fun v9 h9 q9 => ?_) (fun _ _ _ _ _ q9 => by cases q9.1)
        obtain ⟨ev, f9, x9⟩ := q9
        cases ev
        exact x_iret dX11_tell_43 rfl rfl (Nat.le_refl _) (Nat.le_refl _) (Or.inr ⟨n, hn, rfl, ts, tk, pos, tT, fs0, Or.inl ⟨e, p, tP, rfl, k2.tr f9, V9, kw9, tw9, pf9, pc9, lf9, L9, cl9, g1, g2, g3, g4, g5, g6, x9⟩⟩)
      · have x2 := x1.rd g8 b9 g7
        have k2 : xKp h h2 := (xKp.of hf1 (by decide)).tr ⟨g8.1, fun a ha => g8.2 a (by omega)⟩
        obtain ⟨at9, fn9, ts9, ty9, st9, wd9, fs9, r1, r2, r3, r4, r5, r6⟩ := g7
        refine x_if_ne 44 dX11_tell_35 (by decide) (fun _ => ?_) (fun c => absurd c (by decide))
        refine x_aload_n dX11_tell_44 rfl ?_
        refine x_iconst (v := 0) dX11_tell_45 (by decide) ?_
        refine x_put [.ref 2, .int (nI 0), .ref 3, .ref 181, .ref 187, .ref 190, .ref 192, .int 0, .ref 196, .ref 200, .ref 204, .int (nI rn), .int tr] lf_X11_85 dX11_tell_46 x2.c (Nat.le_of_ble_eq_true rfl) rfl rfl rfl ?_
        refine x_aload_n dX11_tell_49 rfl ?_
        refine x_iconst (v := 0) dX11_tell_50 (by decide) ?_
        refine x_put [.ref 2, .int (nI 0), .ref 3, .ref 181, .ref 187, .ref 190, .ref 192, .int 0, .ref 196, .ref 200, .ref 204, .int (nI rn), .int 0] lf_X11_89 dX11_tell_51 (xup_self _ _ _) (Nat.le_of_ble_eq_true rfl) rfl rfl rfl ?_
        refine x_aload_n dX11_tell_54 rfl ?_
        refine x_get lf_X11_25 dX11_tell_55 (xup_self _ _ _) rfl ?_
        refine x_get lf_X11_92 dX11_tell_58 ((xup_ne (by decide)).trans ((xup_ne (by decide)).trans r1)) rfl ?_
        have hf3 : xfr h2 (xup (xup h2 1 (.inr (11, [.ref 2, .int (nI 0), .ref 3, .ref 181, .ref 187, .ref 190, .ref 192, .int 0, .ref 196, .ref 200, .ref 204, .int (nI rn), .int tr]))) 1 (.inr (11, [.ref 2, .int (nI 0), .ref 3, .ref 181, .ref 187, .ref 190, .ref 192, .int 0, .ref 196, .ref 200, .ref 204, .int (nI rn), .int 0]))) [1] := (((xfr_rf _ _).up (by simp)).up (by simp))
        exact x_iret dX11_tell_61 rfl rfl (Nat.le_refl _) (Nat.le_refl _) (Or.inr ⟨n, hn, rfl, ts, tk, pos, tT, fs0, Or.inr ⟨s, tP, hI, rfl, k2.tr (xKp.of hf3 (by decide)), kw9, tw9, pf9, lf9, L9, fr9, g2, g3, g4, g6, g5, ⟨(by rw [hf3.1]; exact x2.n), ((xup_self _ _ _)), (hf3.at x2.t (by decide)), (x2.b.kp hf3 (by decide)), (x2.r.kp hf3 (by decide)), (jnI_kp x2.j hf3 (by decide)), (x2.g.kp hf3 (by decide)), (md_kp x2.m hf3 (by decide)), (x2.s.kp hf3 (by decide)), (x2.k.kp hf3 (by decide)), (hf3.at x2.e (by decide))⟩⟩⟩)
    · refine x_aload_n dX11_tell_12 rfl ?_
      refine x_iconst (v := 2) dX11_tell_13 (by decide) ?_
      refine x_callV (As := [.int 2]) (st := []) lv_X11_77 (k_X11_refuse x) dX11_tell_14 x.c rfl rfl (Nat.le_of_ble_eq_true rfl) ⟨by decide, by decide⟩ ⟨by decide, by decide⟩ (fun v9 h9 q9 => ?_) (fun _ _ _ _ _ q9 => by cases q9.1)
      obtain ⟨ev, f9, x9⟩ := q9
      cases ev
      exact x_iret dX11_tell_17 rfl rfl (Nat.le_refl _) (Nat.le_refl _) (Or.inl ⟨tell_no htz (by first | exact Or.inl c_1 | exact Or.inr c_9), rfl, f9, x9⟩)
