/-! RuleCourt$Reader: read, its loops -/
theorem RZ.fa {h0 h : xHp} {rc : Nat} {fc : Int32} {lf : Nat → Int32} {ra : Nat → Nat} {V : Nat → RV} {fr : Nat → Int32} {fn : Nat} {fs : Nat → Int32} {cl : Nat} {ts : Nat} {ty : Nat → Int32} {st : Nat → Int32} {wd : Nat → Int64} {q : PQ} {k : Nat} {flt plc : Int32} (Z : RZ h0 h rc fc lf ra V fr fn fs cl ts ty st wd q k flt plc) {fr9 : Nat → Int32} {fc9 : Int32} : RZ h0 (xup (xup h 12 (.inl (0, 100, .inl fr9))) 3 (bC 4 6 8 9 11 rc 12 fc9)) rc fc9 lf ra V fr9 fn fs cl ts ty st wd q k flt plc := by
  obtain ⟨⟨kw, tw, pf, b, r1⟩, r2, ⟨t1, t2, t3, t4⟩, r3, ⟨r4, r5⟩, r6⟩ := Z
  have hx : xfr h (xup (xup h 12 (.inl (0, 100, .inl fr9))) 3 (bC 4 6 8 9 11 rc 12 fc9)) [12, 3] := ((xfr_rf _ _).up (by decide)).up (by decide)
  obtain ⟨⟨b1, b2, b3, b4, b5, ⟨⟨rf, b6, b7⟩, b8⟩, b9⟩, c1, c2, c3, c4, c5⟩ := b
  exact ⟨⟨kw, tw, pf, ⟨⟨xup_self _ _ _, hx.at b2 (by decide), hx.at b3 (by decide), hx.at b4 (by decide), hx.at b5 (by decide), ⟨⟨rf, hx.at b6 (by decide), b7⟩, fun j hj => rlV_fr (b8 j hj) hx (b9 j hj) (by decide)⟩, b9⟩, hx.at c1 (by decide), hx.at c2 (by decide), hx.at c3 (by decide), (xup_ne (by decide)).trans (xup_self _ _ _), c5⟩, r1⟩, hx.at r2 (by decide), ⟨hx.at t1 (by decide), hx.at t2 (by decide), hx.at t3 (by decide), hx.at t4 (by decide)⟩, hx.at r3 (by decide), ⟨r4, fun a ha => ((xup_ne (by omega)).trans (xup_ne (by omega))).trans (r5 a ha)⟩, r6⟩
theorem RZ.f12 {h0 h : xHp} {rc : Nat} {fc : Int32} {lf : Nat → Int32} {ra : Nat → Nat} {V : Nat → RV} {fr : Nat → Int32} {fn : Nat} {fs : Nat → Int32} {cl : Nat} {ts : Nat} {ty : Nat → Int32} {st : Nat → Int32} {wd : Nat → Int64} {q : PQ} {k : Nat} {flt plc : Int32} (Z : RZ h0 h rc fc lf ra V fr fn fs cl ts ty st wd q k flt plc) : h.1 12 = some (.inl (0, 100, .inl fr)) := by
  obtain ⟨⟨kw, tw, pf, b, r1⟩, r2⟩ := Z
  exact b.2.2.2.2.1
theorem flip_or {S : Nat → Bool} {n : Nat} (h : S n = false) : ∀ k, k < 1000 → flipS S n k = (S k || decide (k = n)) := fun k _ => by
  unfold flipS
  by_cases z : k = n
  · rw [if_pos z, z, h]; simp
  · rw [if_neg z]; simp [z]
theorem add_same {S : Nat → Bool} {fs : Nat → Int32} {i n : Nat} (hn : n < 1000) (en : fs i = nI n) (h : addF S fs i n = true) : ∀ k, k < 1000 → addF S fs i k = addF S fs (i + 1) k := fun k hk => by
  rw [addF_lt, en]
  by_cases z : k = n
  · rw [z, h]; rfl
  · have : ¬ nI n = nI k := fun e => by rw [nI_eq (by omega) (by omega)] at e; omega
    simp [this]
theorem add_flip {S : Nat → Bool} {fs : Nat → Int32} {i n : Nat} (hn : n < 1000) (en : fs i = nI n) (h : addF S fs i n = false) : ∀ k, k < 1000 → flipS (addF S fs i) n k = addF S fs (i + 1) k := fun k hk => by
  rw [flip_or h k hk, addF_lt, en]
  have : (nI n = nI k) ↔ k = n := by rw [nI_eq (by omega) (by omega)]; omega
  simp [this]
theorem add_cnt {S : Nat → Bool} {fs : Nat → Int32} {i n : Nat} (hn : n < 1000) (en : fs i = nI n) (h : addF S fs i n = false) : fb_ct (addF S fs (i + 1)) 1000 = fb_ct (addF S fs i) 1000 + 1 := fb_flip hn h (fun k hk => by rw [← add_flip hn en h k hk]; exact flip_or h k hk)
set_option maxRecDepth 100000 in
set_option maxHeartbeats 4000000 in
theorem l_X7_facts {G : xG} {Q : Option Value ⊕ Nat → xHp → Prop} {h0 : xHp} {rc : Nat} {lf : Nat → Int32} {ra : Nat → Nat} {V : Nat → RV} {fn : Nat} {fs : Nat → Int32} {cl : Nat} {ts : Nat} {ty : Nat → Int32} {st : Nat → Int32} {wd : Nat → Int64} {q q0 : PQ} {k rc0 : Nat} {flt plc n9 a6 : Int32} {S : Nat → Bool} (hfn : fn ≤ 200) (hfs : ∀ i, i < fn → ∃ n, n < 1000 ∧ fs i = nI n) (hend : ∀ (h' : xHp) (fr' : Nat → Int32), isRows fr' (addF S fs fn) → RZ h0 h' rc (nI (fb_ct (addF S fs fn) 1000)) lf ra V (fr') fn fs cl ts ty st wd q k flt plc → Q (.inl (some (.int 1))) h') : ∀ (m i : Nat), i ≤ fn → fn + 1 ≤ i + m → ∀ {h : xHp} {fr : Nat → Int32} {fc : Int32}, RZ h0 h rc fc lf ra V fr fn fs cl ts ty st wd q k flt plc → isRows fr (addF S fs i) → fc = nI (fb_ct (addF S fs i) 1000) → Wx G mX7_read (xRm 6 0 0) (xF G Q 0 0) 0 0 149 [(0, .ref 181), (1, .ref 2), (2, .int n9), (3, .int (nI q0.2.2.1)), (4, .int (nI q0.1)), (5, .int (nI rc0)), (6, .int a6), (7, .int (nI i))] [] h := by
  intro m
  induction m with
  | zero => exact fun i h1 h2 => absurd h2 (by omega)
  | succ m ih =>
    intro i hi1 hi2 h fr fc Z hS hfc
    refine x_iload dX7_read_149 rfl ?_
    refine x_aload_n dX7_read_151 rfl ?_
    refine x_get lf_X7_51 dX7_read_152 Z.r rfl ?_
    refine x_icmp_ge 180 dX7_read_155 (by decide) (fun c_155 => ?_) (fun c_155 => ?_)
    · rw [nI_leI (by omega) (by omega)] at c_155
      refine x_iconst (v := 1) dX7_read_180 (by decide) ?_
      exact x_iret dX7_read_181 rfl rfl (Nat.le_refl _) (Nat.le_refl _) (hend _ _ ((show i = fn by omega) ▸ hS) (((show i = fn by omega) ▸ hfc) ▸ Z))
    · rw [nI_leI (by omega) (by omega)] at c_155
      obtain ⟨n, hn, en⟩ := hfs i (by omega)
      refine x_aload_n dX7_read_158 rfl ?_
      refine x_get lf_X7_22 dX7_read_159 Z.r rfl ?_
      refine x_aload_n dX7_read_162 rfl ?_
      refine x_get lf_X7_18 dX7_read_163 Z.r rfl ?_
      refine x_iload dX7_read_166 rfl ?_
      refine x_ialdN (j := i) Z.2.2.2.1 rfl (by omega) (by decide) dX7_read_168 ?_
      refine x_top en ?_
      refine x_iconst (v := 1) dX7_read_169 (by decide) ?_
      refine x_callV (As := [.int (nI n), .int (bi true)]) (st := []) lv_X7_79 (k_X0_setFact Z.b.1 Z.f12 hS hn (v := true)) dX7_read_170 Z.b.1 rfl rfl (Nat.le_of_ble_eq_true rfl) ⟨by decide, by decide⟩ ⟨by decide, by decide⟩ (fun v9 h9 z => ?_) (fun _ _ _ _ _ z => by rcases z with ⟨_, z, _⟩ | ⟨_, z, _⟩ <;> cases z)
      rcases z with ⟨z1, ev, eh⟩ | ⟨z1, ev, eh⟩ <;> cases ev
      · rw [eh]
        refine x_pop dX7_read_173 rfl ?_
        refine x_iinc (v := nI (i + 1)) [(0, .ref 181), (1, .ref 2), (2, .int n9), (3, .int (nI q0.2.2.1)), (4, .int (nI q0.1)), (5, .int (nI rc0)), (6, .int a6), (7, .int (nI (i + 1)))] dX7_read_174 rfl (nI_add i 1) (by decide) rfl rfl ?_
        refine x_goto 149 dX7_read_177 (by decide) ?_
        exact ih (i + 1) (by omega) (by omega) Z (isRows_ext hS (add_same hn en z1)) (fb_ct_cong (add_same hn en z1) ▸ hfc)
      · refine x_pop dX7_read_173 rfl ?_
        refine x_iinc (v := nI (i + 1)) [(0, .ref 181), (1, .ref 2), (2, .int n9), (3, .int (nI q0.2.2.1)), (4, .int (nI q0.1)), (5, .int (nI rc0)), (6, .int a6), (7, .int (nI (i + 1)))] dX7_read_174 rfl (nI_add i 1) (by decide) rfl rfl ?_
        refine x_goto 149 dX7_read_177 (by decide) ?_
        exact ih (i + 1) (by omega) (by omega) (eh ▸ Z.fa) (isRows_ext (isRows_flip hS hn) (add_flip hn en z1)) (by rw [add_cnt hn en z1, hfc, ← nI_add]; rfl)
set_option maxRecDepth 100000 in
set_option maxHeartbeats 4000000 in
theorem l_X7_fin {G : xG} {h0 : xHp} {rc : Nat} {fc : Int32} {lf : Nat → Int32} {ra : Nat → Nat} {V : Nat → RV} {fr : Nat → Int32} {fn : Nat} {fs : Nat → Int32} {ts : Nat} {ty : Nat → Int32} {st : Nat → Int32} {wd : Nat → Int64} {q : PQ} {k c : Nat} {tk : Nat → Tk} {rc0 : Nat} {V0 : Nat → RV} {q0 : PQ} {fs0 : Nat → Int32} {S : Nat → Bool} {S0 : Nat → Nat} (hs0 : Sat V0 rc0 S0) (hr0 : rc0 ≤ 20) (hS : isRows fr S) (hfc : fc = nI (fb_ct S 1000)) {n9 : Int32} {h : xHp} {a6 : Int32} (Z : RZ h0 h rc fc lf ra V fr fn fs c ts ty st wd q k 0 (-1)) (hI : tsI rc0 V0 q0 (rc, V, fn, fs, q, k, c)) (hc : c ≤ 200) (hT : ∀ {r}, (((∃ S, Sat V rc S) ∧ r = .inr (rc, V, fn, fs, q, k, c)) ∨ ∃ j, j < rc ∧ own6 V rc0 j ∧ r = .inl (6, (V j).1 4)) → tellP tk rc0 (rc0, V0, 0, fs0, q0, 0, 0) r) : Wx G mX7_read (xRm 6 0 0) (xF G (rdQ tk h0 rc0 fc ra V0 q0 fr fs0 S) 0 0) 0 0 137 [(0, .ref 181), (1, .ref 2), (2, .int n9), (3, .int (nI q0.2.2.1)), (4, .int (nI q0.1)), (5, .int (nI rc0)), (6, .int a6)] [] h := by
  refine x_aload_n dX7_read_137 rfl ?_
  refine x_iload dX7_read_138 rfl ?_
  refine x_callV (As := [.int (nI rc0)]) (st := []) lv_X7_75 (k_X7_refuses Z hI.1.2 (fun r hr => (hI.2.2.2.2.1 r hr).2.1) (Sat_cong hI.2.2.2.1 hs0)) dX7_read_140 Z.r rfl rfl (Nat.le_of_ble_eq_true rfl) ⟨by decide, by decide⟩ ⟨by decide, by decide⟩ (fun v9 h9 z => ?_) (fun _ _ _ _ _ z => by rcases z with ⟨_, _, _, _, _, z, _⟩ | ⟨_, _, _, _, z, _⟩ <;> cases z)
  rcases z with ⟨lf9, L9, l1, l2, l3, ev, Z9⟩ | ⟨r6, lf9, r61, r62, ev, Z9⟩ <;> cases ev
  · refine x_if_eq 182 dX7_read_143 (by decide) (fun c => absurd c (by decide)) (fun _ => ?_)
    refine x_iconst (v := 0) dX7_read_146 (by decide) ?_
    refine x_istore [(0, .ref 181), (1, .ref 2), (2, .int n9), (3, .int (nI q0.2.2.1)), (4, .int (nI q0.1)), (5, .int (nI rc0)), (6, .int a6), (7, .int 0)] dX7_read_147 (by decide) rfl rfl ?_
    exact l_X7_facts (q0 := q0) (by have : fn ≤ c := hI.2.2.2.2.2.2.1; omega) (fun i hi => by obtain ⟨n, n1, n2, -⟩ := hI.2.2.2.2.2.1 i hi; exact ⟨n, n1, n2⟩) (fun h' fr' e1 Z' => Or.inr ⟨(rc, V, fn, fs, q, k, c), hT (Or.inl ⟨⟨L9, l3.1⟩, rfl⟩), hI, rfl, by obtain ⟨⟨kw, tw, pf, b, r1, r2, r3⟩, y1, ⟨y2, y3, y4, y5⟩, y6, y7, y8⟩ := Z'; exact ⟨kw, tw, pf, lf9, L9, fr', b, r1, r2, r3, ⟨l1, l2, l3.1, l3.2⟩, e1, ⟨_, _, _, _, _, _, _, y1, y2, y3, y4, y5, y6⟩, y7⟩⟩) (fn + 1) 0 (by omega) (by omega) Z9 hS hfc
  · refine x_if_eq 182 dX7_read_143 (by decide) (fun _ => ?_) (fun c => absurd c (by decide))
    obtain ⟨⟨kw, tw, pf, b, r1, r2, r3⟩, y1, ⟨y2, y3, y4, y5⟩, y6, ⟨y7, y8⟩, y9⟩ := Z9
    exact l_X7_back b y1 hr0 (fun r hr => (hI.2.2.2.2.1 r (Nat.lt_of_lt_of_le hr hI.1.2)).2.1) (Sat_cong hI.2.2.2.1 hs0) (fun h' lf8 L8 b8 g1 g2 g3 => Or.inl ⟨6, (V r6).1 4, hT (Or.inr ⟨r6, r61, r62, rfl⟩), rfl, V, kw, tw, pf, q.2.2.2.2, lf8, L8, _, b8, hI.2.2.2.1, wOk_sub r1 hI.2.2.1.1 hI.2.2.1.2.1, wOk_sub r2 hI.2.2.1.2.2.1 (fun j hj => (hI.2.2.1.2.2.2 j hj).1), r3, fun j hj => (hI.2.2.1.2.2.2 j hj).2, g1, ⟨_, _, _, _, _, _, _, (g2 _ (by omega) (by omega)).trans y1, (g2 _ (by omega) (by omega)).trans y2, (g2 _ (by omega) (by omega)).trans y3, (g2 _ (by omega) (by omega)).trans y4, (g2 _ (by omega) (by omega)).trans y5, (g2 _ (by omega) (by omega)).trans y6⟩, g3.trans y7, fun a ha => (g2 a (by omega) (by omega)).trans (y8 a ha)⟩)
set_option maxRecDepth 100000 in
set_option maxHeartbeats 4000000 in
theorem l_X7_loop {G : xG} {h0 : xHp} {fc : Int32} {lf : Nat → Int32} {ra : Nat → Nat} {fr : Nat → Int32} {ts : Nat} {ty : Nat → Int32} {st : Nat → Int32} {wd : Nat → Int64} {tk : Nat → Tk} {rc0 : Nat} {V0 : Nat → RV} {q0 : PQ} {fs0 : Nat → Int32} {S : Nat → Bool} {S0 : Nat → Nat} (hs0 : Sat V0 rc0 S0) (hr0 : rc0 ≤ 20) (hS : isRows fr S) (hfc : fc = nI (fb_ct S 1000)) {n9 : Int32} (O : tkO ts tk ty st wd) (hp : ∀ j, (tk j).2.1 ≤ 400 ∨ (tk j).1 < 2) (hE : ∀ i, i < ts → (tk i).1 ≠ 0 → i < 400) : ∀ (m : Nat) {rc : Nat} {V : Nat → RV} {fn : Nat} {fs : Nat → Int32} {q : PQ} {k c : Nat} {h : xHp}, c + m = 201 → RZ h0 h rc fc lf ra V fr fn fs c ts ty st wd q k 0 (-1) → tsI rc0 V0 q0 (rc, V, fn, fs, q, k, c) → (c = 0 ∨ ¬ (tk k).1 = 0) → k < ts → pText tk 201 (rc0, V0, 0, fs0, q0, 0, 0) = pText tk m (rc, V, fn, fs, q, k, c) → Wx G mX7_read (xRm 6 0 0) (xF G (rdQ tk h0 rc0 fc ra V0 q0 fr fs0 S) 0 0) 0 0 69 [(0, .ref 181), (1, .ref 2), (2, .int n9), (3, .int (nI q0.2.2.1)), (4, .int (nI q0.1)), (5, .int (nI rc0)), (6, .int 1)] [] h := by
  have hts := O.1.2
  intro m
  induction m with
  | zero =>
    intro rc V fn fs q k c h hm Z hI hgo hk hT
    have h8 : 2 * c ≤ k := hI.2.2.2.2.2.2.2
    omega
  | succ m ih =>
    intro rc V fn fs q k c h hm Z hI hgo hk hT
    have h8 : 2 * c ≤ k := hI.2.2.2.2.2.2.2
    have hrc9 : rc ≤ 20 := hI.1.1
    have hr09 : rc0 ≤ rc := hI.1.2
    have tb := (O.2.2.2.2 k hk).1
    have hc2 : c < 200 := by
      rcases hgo with z | z
      · omega
      · have := hE k hk z
        omega
    have hfn : fn < 200 := by
      have : fn ≤ c := hI.2.2.2.2.2.2.1
      omega
    refine x_iload dX7_read_69 rfl ?_
    refine x_if_eq 132 dX7_read_71 (by decide) (fun c => absurd c (by decide)) (fun _ => ?_)
    refine x_aload_n dX7_read_74 rfl ?_
    refine x_get lf_X7_54 dX7_read_75 Z.r rfl ?_
    refine x_sipush (v := 200) dX7_read_78 (by decide) ?_
    refine x_icmp_ge 132 dX7_read_81 (by decide) (fun c_81 => absurd c_81 (by rw [show (200 : Int32) = nI 200 from rfl, nI_leI (by omega) (by omega)]; omega)) (fun c_81 => ?_)
    refine x_aload_n dX7_read_84 rfl ?_
    refine x_get lf_X7_54 dX7_read_85 Z.r rfl ?_
    refine x_if_eq 98 dX7_read_88 (by decide) (fun c_88 => ?_) (fun c_88 => ?_)
    · rw [show (0 : Int32) = nI 0 from rfl, nI_eq (by omega) (by omega)] at c_88
      obtain ⟨⟨rf, hrf0, hrf⟩, hrv⟩ := Z.b.2.2.2.2.2
      refine x_aload_n dX7_read_98 rfl ?_
      refine x_aload_n dX7_read_99 rfl ?_
      refine x_get lf_X7_22 dX7_read_100 Z.r rfl ?_
      refine x_get lf_X7_67 dX7_read_103 Z.b.1 rfl ?_
      refine x_aload_n dX7_read_106 rfl ?_
      refine x_get lf_X7_22 dX7_read_107 Z.r rfl ?_
      refine x_get lf_X7_41 dX7_read_110 Z.b.1 rfl ?_
      refine x_aaldN (b := ra rc) (j := rc) hrf0 rfl rfl (by omega) (by decide) (hrf rc (by omega)) dX7_read_113 ?_
      refine x_callV (As := [.ref (ra rc)]) (st := []) lv_X7_71 (k_X7_readClause Z O hk hfn) dX7_read_114 Z.r rfl rfl (Nat.le_of_ble_eq_true rfl) ⟨by decide, by decide⟩ ⟨by decide, by decide⟩ (fun v9 h1 z => ?_) (fun _ _ _ _ _ z => by rcases z with ⟨_, _, _, z, _⟩ | ⟨_, _, _, _, _, z, _⟩ | ⟨_, _, _, _, z, _⟩ <;> cases z)
      rcases z with ⟨e9, p9, y9, ev, q9, v9, k9, x9, Z1⟩ | ⟨z9, q9, v9, k9, y9, ev, x9, hq9, Z1⟩ | ⟨q9, v9, k9, y9, ev, x9, hq9, hr9, Z1⟩ <;> cases ev
      · refine x_istore [(0, .ref 181), (1, .ref 2), (2, .int n9), (3, .int (nI q0.2.2.1)), (4, .int (nI q0.1)), (5, .int (nI rc0)), (6, .int 0)] dX7_read_117 (by decide) rfl rfl ?_
        refine x_aload_n dX7_read_119 rfl ?_
        refine x_dup dX7_read_120 rfl ?_
        refine x_get lf_X7_54 dX7_read_121 Z1.r rfl ?_
        refine x_iconst (v := 1) dX7_read_124 (by decide) ?_
        refine x_iadd dX7_read_125 ?_
        refine x_top (y := nI (c + 1)) (nI_add c 1) ?_
        refine x_put [.ref 3, .ref 182, .int (nI k9), .ref 186, .int (nI fn), .int (nI (c + 1)), .int (nI e9), .int p9] lf_X7_54 dX7_read_126 Z1.r (Nat.le_of_ble_eq_true rfl) rfl rfl rfl ?_
        refine x_goto 69 dX7_read_129 (by decide) ?_
        refine x_iload dX7_read_69 rfl ?_
        refine x_if_eq 132 dX7_read_71 (by decide) (fun _ => ?_) (fun c => absurd c (by decide))
        refine x_iload dX7_read_132 rfl ?_
        refine x_if_eq 182 dX7_read_134 (by decide) (fun _ => ?_) (fun c => absurd c (by decide))
        obtain ⟨⟨kw, tw, pf, b, r1, r2, r3⟩, y1, ⟨y2, y3, y4, y5⟩, y6, ⟨y7, y8⟩, y10⟩ := Z1.rd k9 (c + 1) (nI e9) p9
        have hx9 := hI.2.2.1.tr x9
        exact l_X7_back b y1 hr0 (fun r hr => by rw [apF_ne (by omega)]; exact (hI.2.2.2.2.1 r (Nat.lt_of_lt_of_le hr hI.1.2)).2.1) (Sat_cong (V := V0) (fun r hr => by rw [apF_ne (by omega)]; exact hI.2.2.2.1 r hr) hs0) (fun h' lf8 L8 b8 g1 g2 g3 => Or.inl ⟨e9, p9, (by unfold tellP; rw [hT]; simp only [pText, y9]), rfl, _, kw, tw, pf, q9.2.2.2.2, lf8, L8, _, b8, (fun r hr => by rw [apF_ne (by omega)]; exact hI.2.2.2.1 r hr), wOk_sub r1 hx9.1 hx9.2.1, wOk_sub r2 hx9.2.2.1 (fun j hj => (hx9.2.2.2 j hj).1), r3, fun j hj => (hx9.2.2.2 j hj).2, g1, ⟨_, _, _, _, _, _, _, (g2 _ (by omega) (by omega)).trans y1, (g2 _ (by omega) (by omega)).trans y2, (g2 _ (by omega) (by omega)).trans y3, (g2 _ (by omega) (by omega)).trans y4, (g2 _ (by omega) (by omega)).trans y5, (g2 _ (by omega) (by omega)).trans y6⟩, g3.trans y7, fun a ha => (g2 a (by omega) (by omega)).trans (y8 a ha)⟩)
      · refine x_istore [(0, .ref 181), (1, .ref 2), (2, .int n9), (3, .int (nI q0.2.2.1)), (4, .int (nI q0.1)), (5, .int (nI rc0)), (6, .int 1)] dX7_read_117 (by decide) rfl rfl ?_
        refine x_aload_n dX7_read_119 rfl ?_
        refine x_dup dX7_read_120 rfl ?_
        refine x_get lf_X7_54 dX7_read_121 Z1.r rfl ?_
        refine x_iconst (v := 1) dX7_read_124 (by decide) ?_
        refine x_iadd dX7_read_125 ?_
        refine x_top (y := nI (c + 1)) (nI_add c 1) ?_
        refine x_put [.ref 3, .ref 182, .int (nI k9), .ref 186, .int (nI (fn + 1)), .int (nI (c + 1)), .int 0, .int (-1)] lf_X7_54 dX7_read_126 Z1.r (Nat.le_of_ble_eq_true rfl) rfl rfl rfl ?_
        refine x_goto 69 dX7_read_129 (by decide) ?_
        have Z2 := Z1.rd k9 (c + 1) 0 (-1)
        have hI2 := tsI_next hp hI y9
        generalize xup h1 181 (.inr (7, [.ref 3, .ref 182, .int (nI k9), .ref 186, .int (nI (fn + 1)), .int (nI (c + 1)), .int 0, .int (-1)])) = h2 at Z2 ⊢
        by_cases c0 : (tk k9).1 = 0
        · refine x_iload dX7_read_69 rfl ?_
          refine x_if_eq 132 dX7_read_71 (by decide) (fun c => absurd c (by decide)) (fun _ => ?_)
          refine x_aload_n dX7_read_74 rfl ?_
          refine x_get lf_X7_54 dX7_read_75 Z2.r rfl ?_
          refine x_sipush (v := 200) dX7_read_78 (by decide) ?_
          refine x_icmp_ge 132 dX7_read_81 (by decide) (fun c_81 => ?_) (fun c_81 => ?_)
          · rw [show (200 : Int32) = nI 200 from rfl, nI_leI (by omega) (by omega)] at c_81
            refine x_iload dX7_read_132 rfl ?_
            refine x_if_eq 182 dX7_read_134 (by decide) (fun c => absurd c (by decide)) (fun _ => ?_)
            exact l_X7_fin hs0 hr0 hS hfc Z2 hI2 (by omega) (fun {r} z => by unfold tellP; rw [hT]; simp only [pText, y9]; rw [if_pos c0]; exact z)
          · rw [show (200 : Int32) = nI 200 from rfl, nI_leI (by omega) (by omega)] at c_81
            refine x_aload_n dX7_read_84 rfl ?_
            refine x_get lf_X7_54 dX7_read_85 Z2.r rfl ?_
            refine x_if_eq 98 dX7_read_88 (by decide) (fun c_88 => absurd c_88 (by rw [show (0 : Int32) = nI 0 from rfl, nI_eq (by omega) (by omega)]; omega)) (fun c_88 => ?_)
            refine x_aload_n dX7_read_91 rfl ?_
            refine x_callV (As := []) (st := []) lv_X7_63 (Z2.type O hq9) dX7_read_92 Z2.r rfl rfl (Nat.le_of_ble_eq_true rfl) ⟨by decide, by decide⟩ ⟨by decide, by decide⟩ (fun v9 h9 z => ?_) (fun _ _ _ _ _ z => by cases z.1)
            obtain ⟨ev, eh⟩ := z
            rw [eh]
            cases ev
            refine x_if_eq 132 dX7_read_95 (by decide) (fun c_95 => ?_) (fun c_95 => absurd (by rw [c0]; rfl) c_95)
            refine x_iload dX7_read_132 rfl ?_
            refine x_if_eq 182 dX7_read_134 (by decide) (fun c => absurd c (by decide)) (fun _ => ?_)
            exact l_X7_fin hs0 hr0 hS hfc Z2 hI2 (by omega) (fun {r} z => by unfold tellP; rw [hT]; simp only [pText, y9]; rw [if_pos c0]; exact z)
        · exact ih (by omega) Z2 hI2 (Or.inr c0) hq9 (by rw [hT]; simp only [pText, y9]; rw [if_neg c0]; rfl)
      · refine x_istore [(0, .ref 181), (1, .ref 2), (2, .int n9), (3, .int (nI q0.2.2.1)), (4, .int (nI q0.1)), (5, .int (nI rc0)), (6, .int 1)] dX7_read_117 (by decide) rfl rfl ?_
        refine x_aload_n dX7_read_119 rfl ?_
        refine x_dup dX7_read_120 rfl ?_
        refine x_get lf_X7_54 dX7_read_121 Z1.r rfl ?_
        refine x_iconst (v := 1) dX7_read_124 (by decide) ?_
        refine x_iadd dX7_read_125 ?_
        refine x_top (y := nI (c + 1)) (nI_add c 1) ?_
        refine x_put [.ref 3, .ref 182, .int (nI k9), .ref 186, .int (nI fn), .int (nI (c + 1)), .int 0, .int (-1)] lf_X7_54 dX7_read_126 Z1.r (Nat.le_of_ble_eq_true rfl) rfl rfl rfl ?_
        refine x_goto 69 dX7_read_129 (by decide) ?_
        have Z2 := Z1.rd k9 (c + 1) 0 (-1)
        have hI2 := tsI_next hp hI y9
        generalize xup h1 181 (.inr (7, [.ref 3, .ref 182, .int (nI k9), .ref 186, .int (nI fn), .int (nI (c + 1)), .int 0, .int (-1)])) = h2 at Z2 ⊢
        by_cases c0 : (tk k9).1 = 0
        · refine x_iload dX7_read_69 rfl ?_
          refine x_if_eq 132 dX7_read_71 (by decide) (fun c => absurd c (by decide)) (fun _ => ?_)
          refine x_aload_n dX7_read_74 rfl ?_
          refine x_get lf_X7_54 dX7_read_75 Z2.r rfl ?_
          refine x_sipush (v := 200) dX7_read_78 (by decide) ?_
          refine x_icmp_ge 132 dX7_read_81 (by decide) (fun c_81 => ?_) (fun c_81 => ?_)
          · rw [show (200 : Int32) = nI 200 from rfl, nI_leI (by omega) (by omega)] at c_81
            refine x_iload dX7_read_132 rfl ?_
            refine x_if_eq 182 dX7_read_134 (by decide) (fun c => absurd c (by decide)) (fun _ => ?_)
            exact l_X7_fin hs0 hr0 hS hfc Z2 hI2 (by omega) (fun {r} z => by unfold tellP; rw [hT]; simp only [pText, y9]; rw [if_pos c0]; exact z)
          · rw [show (200 : Int32) = nI 200 from rfl, nI_leI (by omega) (by omega)] at c_81
            refine x_aload_n dX7_read_84 rfl ?_
            refine x_get lf_X7_54 dX7_read_85 Z2.r rfl ?_
            refine x_if_eq 98 dX7_read_88 (by decide) (fun c_88 => absurd c_88 (by rw [show (0 : Int32) = nI 0 from rfl, nI_eq (by omega) (by omega)]; omega)) (fun c_88 => ?_)
            refine x_aload_n dX7_read_91 rfl ?_
            refine x_callV (As := []) (st := []) lv_X7_63 (Z2.type O hq9) dX7_read_92 Z2.r rfl rfl (Nat.le_of_ble_eq_true rfl) ⟨by decide, by decide⟩ ⟨by decide, by decide⟩ (fun v9 h9 z => ?_) (fun _ _ _ _ _ z => by cases z.1)
            obtain ⟨ev, eh⟩ := z
            rw [eh]
            cases ev
            refine x_if_eq 132 dX7_read_95 (by decide) (fun c_95 => ?_) (fun c_95 => absurd (by rw [c0]; rfl) c_95)
            refine x_iload dX7_read_132 rfl ?_
            refine x_if_eq 182 dX7_read_134 (by decide) (fun c => absurd c (by decide)) (fun _ => ?_)
            exact l_X7_fin hs0 hr0 hS hfc Z2 hI2 (by omega) (fun {r} z => by unfold tellP; rw [hT]; simp only [pText, y9]; rw [if_pos c0]; exact z)
        · exact ih (by omega) Z2 hI2 (Or.inr c0) hq9 (by rw [hT]; simp only [pText, y9]; rw [if_neg c0]; rfl)
    · rw [show (0 : Int32) = nI 0 from rfl, nI_eq (by omega) (by omega)] at c_88
      refine x_aload_n dX7_read_91 rfl ?_
      refine x_callV (As := []) (st := []) lv_X7_63 (Z.type O hk) dX7_read_92 Z.r rfl rfl (Nat.le_of_ble_eq_true rfl) ⟨by decide, by decide⟩ ⟨by decide, by decide⟩ (fun v9 h9 z => ?_) (fun _ _ _ _ _ z => by cases z.1)
      obtain ⟨ev, eh⟩ := z
      rw [eh]
      cases ev
      refine x_if_eq 132 dX7_read_95 (by decide) (fun c_95 => absurd c_95 (by rw [show (0 : Int32) = nI 0 from rfl, nI_eq (by omega) (by omega)]; exact hgo.resolve_left (by omega))) (fun c_95 => ?_)
      obtain ⟨⟨rf, hrf0, hrf⟩, hrv⟩ := Z.b.2.2.2.2.2
      refine x_aload_n dX7_read_98 rfl ?_
      refine x_aload_n dX7_read_99 rfl ?_
      refine x_get lf_X7_22 dX7_read_100 Z.r rfl ?_
      refine x_get lf_X7_67 dX7_read_103 Z.b.1 rfl ?_
      refine x_aload_n dX7_read_106 rfl ?_
      refine x_get lf_X7_22 dX7_read_107 Z.r rfl ?_
      refine x_get lf_X7_41 dX7_read_110 Z.b.1 rfl ?_
      refine x_aaldN (b := ra rc) (j := rc) hrf0 rfl rfl (by omega) (by decide) (hrf rc (by omega)) dX7_read_113 ?_
      refine x_callV (As := [.ref (ra rc)]) (st := []) lv_X7_71 (k_X7_readClause Z O hk hfn) dX7_read_114 Z.r rfl rfl (Nat.le_of_ble_eq_true rfl) ⟨by decide, by decide⟩ ⟨by decide, by decide⟩ (fun v9 h1 z => ?_) (fun _ _ _ _ _ z => by rcases z with ⟨_, _, _, z, _⟩ | ⟨_, _, _, _, _, z, _⟩ | ⟨_, _, _, _, z, _⟩ <;> cases z)
      rcases z with ⟨e9, p9, y9, ev, q9, v9, k9, x9, Z1⟩ | ⟨z9, q9, v9, k9, y9, ev, x9, hq9, Z1⟩ | ⟨q9, v9, k9, y9, ev, x9, hq9, hr9, Z1⟩ <;> cases ev
      · refine x_istore [(0, .ref 181), (1, .ref 2), (2, .int n9), (3, .int (nI q0.2.2.1)), (4, .int (nI q0.1)), (5, .int (nI rc0)), (6, .int 0)] dX7_read_117 (by decide) rfl rfl ?_
        refine x_aload_n dX7_read_119 rfl ?_
        refine x_dup dX7_read_120 rfl ?_
        refine x_get lf_X7_54 dX7_read_121 Z1.r rfl ?_
        refine x_iconst (v := 1) dX7_read_124 (by decide) ?_
        refine x_iadd dX7_read_125 ?_
        refine x_top (y := nI (c + 1)) (nI_add c 1) ?_
        refine x_put [.ref 3, .ref 182, .int (nI k9), .ref 186, .int (nI fn), .int (nI (c + 1)), .int (nI e9), .int p9] lf_X7_54 dX7_read_126 Z1.r (Nat.le_of_ble_eq_true rfl) rfl rfl rfl ?_
        refine x_goto 69 dX7_read_129 (by decide) ?_
        refine x_iload dX7_read_69 rfl ?_
        refine x_if_eq 132 dX7_read_71 (by decide) (fun _ => ?_) (fun c => absurd c (by decide))
        refine x_iload dX7_read_132 rfl ?_
        refine x_if_eq 182 dX7_read_134 (by decide) (fun _ => ?_) (fun c => absurd c (by decide))
        obtain ⟨⟨kw, tw, pf, b, r1, r2, r3⟩, y1, ⟨y2, y3, y4, y5⟩, y6, ⟨y7, y8⟩, y10⟩ := Z1.rd k9 (c + 1) (nI e9) p9
        have hx9 := hI.2.2.1.tr x9
        exact l_X7_back b y1 hr0 (fun r hr => by rw [apF_ne (by omega)]; exact (hI.2.2.2.2.1 r (Nat.lt_of_lt_of_le hr hI.1.2)).2.1) (Sat_cong (V := V0) (fun r hr => by rw [apF_ne (by omega)]; exact hI.2.2.2.1 r hr) hs0) (fun h' lf8 L8 b8 g1 g2 g3 => Or.inl ⟨e9, p9, (by unfold tellP; rw [hT]; simp only [pText, y9]), rfl, _, kw, tw, pf, q9.2.2.2.2, lf8, L8, _, b8, (fun r hr => by rw [apF_ne (by omega)]; exact hI.2.2.2.1 r hr), wOk_sub r1 hx9.1 hx9.2.1, wOk_sub r2 hx9.2.2.1 (fun j hj => (hx9.2.2.2 j hj).1), r3, fun j hj => (hx9.2.2.2 j hj).2, g1, ⟨_, _, _, _, _, _, _, (g2 _ (by omega) (by omega)).trans y1, (g2 _ (by omega) (by omega)).trans y2, (g2 _ (by omega) (by omega)).trans y3, (g2 _ (by omega) (by omega)).trans y4, (g2 _ (by omega) (by omega)).trans y5, (g2 _ (by omega) (by omega)).trans y6⟩, g3.trans y7, fun a ha => (g2 a (by omega) (by omega)).trans (y8 a ha)⟩)
      · refine x_istore [(0, .ref 181), (1, .ref 2), (2, .int n9), (3, .int (nI q0.2.2.1)), (4, .int (nI q0.1)), (5, .int (nI rc0)), (6, .int 1)] dX7_read_117 (by decide) rfl rfl ?_
        refine x_aload_n dX7_read_119 rfl ?_
        refine x_dup dX7_read_120 rfl ?_
        refine x_get lf_X7_54 dX7_read_121 Z1.r rfl ?_
        refine x_iconst (v := 1) dX7_read_124 (by decide) ?_
        refine x_iadd dX7_read_125 ?_
        refine x_top (y := nI (c + 1)) (nI_add c 1) ?_
        refine x_put [.ref 3, .ref 182, .int (nI k9), .ref 186, .int (nI (fn + 1)), .int (nI (c + 1)), .int 0, .int (-1)] lf_X7_54 dX7_read_126 Z1.r (Nat.le_of_ble_eq_true rfl) rfl rfl rfl ?_
        refine x_goto 69 dX7_read_129 (by decide) ?_
        have Z2 := Z1.rd k9 (c + 1) 0 (-1)
        have hI2 := tsI_next hp hI y9
        generalize xup h1 181 (.inr (7, [.ref 3, .ref 182, .int (nI k9), .ref 186, .int (nI (fn + 1)), .int (nI (c + 1)), .int 0, .int (-1)])) = h2 at Z2 ⊢
        by_cases c0 : (tk k9).1 = 0
        · refine x_iload dX7_read_69 rfl ?_
          refine x_if_eq 132 dX7_read_71 (by decide) (fun c => absurd c (by decide)) (fun _ => ?_)
          refine x_aload_n dX7_read_74 rfl ?_
          refine x_get lf_X7_54 dX7_read_75 Z2.r rfl ?_
          refine x_sipush (v := 200) dX7_read_78 (by decide) ?_
          refine x_icmp_ge 132 dX7_read_81 (by decide) (fun c_81 => ?_) (fun c_81 => ?_)
          · rw [show (200 : Int32) = nI 200 from rfl, nI_leI (by omega) (by omega)] at c_81
            refine x_iload dX7_read_132 rfl ?_
            refine x_if_eq 182 dX7_read_134 (by decide) (fun c => absurd c (by decide)) (fun _ => ?_)
            exact l_X7_fin hs0 hr0 hS hfc Z2 hI2 (by omega) (fun {r} z => by unfold tellP; rw [hT]; simp only [pText, y9]; rw [if_pos c0]; exact z)
          · rw [show (200 : Int32) = nI 200 from rfl, nI_leI (by omega) (by omega)] at c_81
            refine x_aload_n dX7_read_84 rfl ?_
            refine x_get lf_X7_54 dX7_read_85 Z2.r rfl ?_
            refine x_if_eq 98 dX7_read_88 (by decide) (fun c_88 => absurd c_88 (by rw [show (0 : Int32) = nI 0 from rfl, nI_eq (by omega) (by omega)]; omega)) (fun c_88 => ?_)
            refine x_aload_n dX7_read_91 rfl ?_
            refine x_callV (As := []) (st := []) lv_X7_63 (Z2.type O hq9) dX7_read_92 Z2.r rfl rfl (Nat.le_of_ble_eq_true rfl) ⟨by decide, by decide⟩ ⟨by decide, by decide⟩ (fun v9 h9 z => ?_) (fun _ _ _ _ _ z => by cases z.1)
            obtain ⟨ev, eh⟩ := z
            rw [eh]
            cases ev
            refine x_if_eq 132 dX7_read_95 (by decide) (fun c_95 => ?_) (fun c_95 => absurd (by rw [c0]; rfl) c_95)
            refine x_iload dX7_read_132 rfl ?_
            refine x_if_eq 182 dX7_read_134 (by decide) (fun c => absurd c (by decide)) (fun _ => ?_)
            exact l_X7_fin hs0 hr0 hS hfc Z2 hI2 (by omega) (fun {r} z => by unfold tellP; rw [hT]; simp only [pText, y9]; rw [if_pos c0]; exact z)
        · exact ih (by omega) Z2 hI2 (Or.inr c0) hq9 (by rw [hT]; simp only [pText, y9]; rw [if_neg c0]; rfl)
      · refine x_istore [(0, .ref 181), (1, .ref 2), (2, .int n9), (3, .int (nI q0.2.2.1)), (4, .int (nI q0.1)), (5, .int (nI rc0)), (6, .int 1)] dX7_read_117 (by decide) rfl rfl ?_
        refine x_aload_n dX7_read_119 rfl ?_
        refine x_dup dX7_read_120 rfl ?_
        refine x_get lf_X7_54 dX7_read_121 Z1.r rfl ?_
        refine x_iconst (v := 1) dX7_read_124 (by decide) ?_
        refine x_iadd dX7_read_125 ?_
        refine x_top (y := nI (c + 1)) (nI_add c 1) ?_
        refine x_put [.ref 3, .ref 182, .int (nI k9), .ref 186, .int (nI fn), .int (nI (c + 1)), .int 0, .int (-1)] lf_X7_54 dX7_read_126 Z1.r (Nat.le_of_ble_eq_true rfl) rfl rfl rfl ?_
        refine x_goto 69 dX7_read_129 (by decide) ?_
        have Z2 := Z1.rd k9 (c + 1) 0 (-1)
        have hI2 := tsI_next hp hI y9
        generalize xup h1 181 (.inr (7, [.ref 3, .ref 182, .int (nI k9), .ref 186, .int (nI fn), .int (nI (c + 1)), .int 0, .int (-1)])) = h2 at Z2 ⊢
        by_cases c0 : (tk k9).1 = 0
        · refine x_iload dX7_read_69 rfl ?_
          refine x_if_eq 132 dX7_read_71 (by decide) (fun c => absurd c (by decide)) (fun _ => ?_)
          refine x_aload_n dX7_read_74 rfl ?_
          refine x_get lf_X7_54 dX7_read_75 Z2.r rfl ?_
          refine x_sipush (v := 200) dX7_read_78 (by decide) ?_
          refine x_icmp_ge 132 dX7_read_81 (by decide) (fun c_81 => ?_) (fun c_81 => ?_)
          · rw [show (200 : Int32) = nI 200 from rfl, nI_leI (by omega) (by omega)] at c_81
            refine x_iload dX7_read_132 rfl ?_
            refine x_if_eq 182 dX7_read_134 (by decide) (fun c => absurd c (by decide)) (fun _ => ?_)
            exact l_X7_fin hs0 hr0 hS hfc Z2 hI2 (by omega) (fun {r} z => by unfold tellP; rw [hT]; simp only [pText, y9]; rw [if_pos c0]; exact z)
          · rw [show (200 : Int32) = nI 200 from rfl, nI_leI (by omega) (by omega)] at c_81
            refine x_aload_n dX7_read_84 rfl ?_
            refine x_get lf_X7_54 dX7_read_85 Z2.r rfl ?_
            refine x_if_eq 98 dX7_read_88 (by decide) (fun c_88 => absurd c_88 (by rw [show (0 : Int32) = nI 0 from rfl, nI_eq (by omega) (by omega)]; omega)) (fun c_88 => ?_)
            refine x_aload_n dX7_read_91 rfl ?_
            refine x_callV (As := []) (st := []) lv_X7_63 (Z2.type O hq9) dX7_read_92 Z2.r rfl rfl (Nat.le_of_ble_eq_true rfl) ⟨by decide, by decide⟩ ⟨by decide, by decide⟩ (fun v9 h9 z => ?_) (fun _ _ _ _ _ z => by cases z.1)
            obtain ⟨ev, eh⟩ := z
            rw [eh]
            cases ev
            refine x_if_eq 132 dX7_read_95 (by decide) (fun c_95 => ?_) (fun c_95 => absurd (by rw [c0]; rfl) c_95)
            refine x_iload dX7_read_132 rfl ?_
            refine x_if_eq 182 dX7_read_134 (by decide) (fun c => absurd c (by decide)) (fun _ => ?_)
            exact l_X7_fin hs0 hr0 hS hfc Z2 hI2 (by omega) (fun {r} z => by unfold tellP; rw [hT]; simp only [pText, y9]; rw [if_pos c0]; exact z)
        · exact ih (by omega) Z2 hI2 (Or.inr c0) hq9 (by rw [hT]; simp only [pText, y9]; rw [if_neg c0]; rfl)
