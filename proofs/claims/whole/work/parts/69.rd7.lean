/-! RuleCourt$Reader: a whole text -/
theorem upd_nq {f : Nat → Int32} {i k : Nat} {x : Int32} (h : k ≠ i) : upd f i x k = f k := by unfold upd; rw [if_neg h]
abbrev TS : Type := Nat × (Nat → RV) × Nat × (Nat → Int32) × PQ × Nat × Nat
def tsF (s : TS) (x : Int32) (q : PQ) (v : RV) (k : Nat) : TS := (s.1, apF s.2.1 s.1 v, s.2.2.1 + 1, upd s.2.2.2.1 s.2.2.1 x, q, k, s.2.2.2.2.2.2 + 1)
def tsR (s : TS) (q : PQ) (v : RV) (k : Nat) : TS := (s.1 + 1, apF s.2.1 s.1 v, s.2.2.1, s.2.2.2.1, q, k, s.2.2.2.2.2.2 + 1)
def tsN (s : TS) (r : Option Int32 × PQ × RV × Nat) : TS := match r.1 with
  | some x => tsF s x r.2.1 r.2.2.1 r.2.2.2
  | none => tsR s r.2.1 r.2.2.1 r.2.2.2
def pText (tk : Nat → Tk) : Nat → TS → (Nat × Int32) ⊕ TS
  | 0, s => .inr s
  | m + 1, s => match pClause tk s.1 s.2.2.2.2.1 (s.2.1 s.1) s.2.2.2.2.2.1 with
    | .inl e => .inl e
    | .inr r => if (tk r.2.2.2).1 = 0 then .inr (tsN s r) else pText tk m (tsN s r)
theorem okAtom_ext {q q' : PQ} {n : Nat} (h : okAtom q.2.2.1 q.1 q.2.2.2.2 n) (x : extQ q q') : okAtom q'.2.2.1 q'.1 q'.2.2.2.2 n := by
  obtain ⟨a, b, c⟩ := h
  refine ⟨Nat.lt_of_lt_of_le a x.2.2.1, ?_, ?_⟩ <;> rw [(x.2.2.2 _ a).2]
  · by_cases z : 0 < q.2.2.2.2 (n / 100)
    · rw [if_pos z] at b ⊢; exact Nat.lt_of_lt_of_le b x.1
    · rw [if_neg z] at b ⊢; exact b
  · by_cases z : 1 < q.2.2.2.2 (n / 100)
    · rw [if_pos z] at c ⊢; exact Nat.lt_of_lt_of_le c x.1
    · rw [if_neg z] at c ⊢; exact c
/-- what holds of a text so far -/
def tsI (rc0 : Nat) (V0 : Nat → RV) (q0 : PQ) (s : TS) : Prop := (s.1 ≤ 20 ∧ rc0 ≤ s.1) ∧ (s.2.2.2.2.1.1 ≤ 10 ∧ s.2.2.2.2.1.2.2.1 ≤ 10) ∧ extQ q0 s.2.2.2.2.1 ∧ (∀ r, r < rc0 → s.2.1 r = V0 r) ∧ (∀ r, r < s.1 → rlD s.2.2.2.2.1 (s.2.1 r)) ∧ (∀ i, i < s.2.2.1 → ∃ n, n < 1000 ∧ s.2.2.2.1 i = nI n ∧ okAtom s.2.2.2.2.1.2.2.1 s.2.2.2.2.1.1 s.2.2.2.2.1.2.2.2.2 n) ∧ s.2.2.1 ≤ s.2.2.2.2.2.2 ∧ 2 * s.2.2.2.2.2.2 ≤ s.2.2.2.2.2.1
theorem arg_th {nt : Nat} {a : Int32} (h : okA nt a) (hn : nt ≤ 10) (h1 : a < 100) : (a = -1 ∧ (if a < 0 then (0 : Int32) else a) = nI 0) ∨ ∃ t, t < nt ∧ a = nI t ∧ (if a < 0 then (0 : Int32) else a) = nI t := by
  rcases okA_lt h hn h1 with e | ⟨t, ht, e⟩
  · subst e; exact Or.inl ⟨rfl, rfl⟩
  · exact Or.inr ⟨t, ht, e, by rw [e, if_neg (by rw [show (0 : Int32) = nI 0 from rfl, nI_ltI (by omega) (by omega)]; omega)]⟩
/-- a FACT's number -/
theorem ft_num {q : PQ} {f : Nat → Int32} (h : tmD q f) (h0 : f 0 = 0) (hq : q.1 ≤ 10 ∧ q.2.2.1 ≤ 10) (h2 : f 2 < 100) (h3 : f 3 < 100) : ∃ n, n < 1000 ∧ ftN f = nI n ∧ okAtom q.2.2.1 q.1 q.2.2.2.2 n := by
  obtain ⟨⟨k1, k2⟩, p1, p2⟩ := h.2.2.2.2 (by rw [h0]; decide)
  have key : ∀ a b, (if f 2 < 0 then (0 : Int32) else f 2) = nI a → (if f 3 < 0 then (0 : Int32) else f 3) = nI b → ftN f = nI (((f 1).toNatClampNeg * 10 + a) * 10 + b) := fun a b ea eb => by
    unfold ftN
    rw [ea, eb, k1, show (10 : Int32) = nI 10 from rfl, pk_mul, nI_add, pk_mul, nI_add, nI_clamp (by omega)]
  rcases arg_th h.2.1 hq.1 h2 with ⟨a1, a2⟩ | ⟨t, ht, a1, a2⟩
  · have b3 : f 3 = -1 := p2.mpr (by have := p1.mp a1; omega)
    refine ⟨_, ?_, key 0 0 a2 (by rw [b3]; rfl), ?_⟩
    · omega
    · unfold okAtom
      rw [show ((f 1).toNatClampNeg * 10 + 0) * 10 + 0 = 100 * (f 1).toNatClampNeg by omega]
      rw [show 100 * (f 1).toNatClampNeg / 100 = (f 1).toNatClampNeg by omega, p1.mp a1]
      exact ⟨k2, by rw [if_neg (by omega)]; omega, by rw [if_neg (by omega)]; omega⟩
  · have n1 : ¬ q.2.2.2.2 (f 1).toNatClampNeg = 0 := fun z => nI_m1 (by omega) (a1.symm.trans (p1.mpr z))
    rcases arg_th h.2.2.1 hq.1 h3 with ⟨b1, b2⟩ | ⟨u, hu, b1, b2⟩
    · refine ⟨_, ?_, key t 0 a2 b2, ?_⟩
      · omega
      · unfold okAtom
        rw [show (((f 1).toNatClampNeg * 10 + t) * 10 + 0) / 100 = (f 1).toNatClampNeg by omega]
        exact ⟨k2, by rw [if_pos (by omega)]; omega, by rw [if_neg (by have := p2.mp b1; omega)]; omega⟩
    · refine ⟨_, ?_, key t u a2 b2, ?_⟩
      · omega
      · unfold okAtom
        rw [show (((f 1).toNatClampNeg * 10 + t) * 10 + u) / 100 = (f 1).toNatClampNeg by omega]
        have n2 : ¬ q.2.2.2.2 (f 1).toNatClampNeg < 2 := fun z => nI_m1 (by omega) (b1.symm.trans (p2.mpr z))
        exact ⟨k2, by rw [if_pos (by omega)]; omega, by rw [if_pos (by omega)]; omega⟩
theorem tsI_next {tk : Nat → Tk} (hp : ∀ j, (tk j).2.1 ≤ 400 ∨ (tk j).1 < 2) {rc0 : Nat} {V0 : Nat → RV} {q0 : PQ} {s : TS} (h : tsI rc0 V0 q0 s) {r : Option Int32 × PQ × RV × Nat} (e : pClause tk s.1 s.2.2.2.2.1 (s.2.1 s.1) s.2.2.2.2.2.1 = .inr r) : tsI rc0 V0 q0 (tsN s r) := by
  obtain ⟨o, q', v', k'⟩ := r
  obtain ⟨⟨a1, a2⟩, b, c, d, f, g, i1, i2⟩ := h
  obtain ⟨r1, r2, r3, r4, r5⟩ := clause_res hp e b
  have hq' : q'.1 ≤ 10 ∧ q'.2.2.1 ≤ 10 := r1.1.1
  have hV : ∀ r, r < s.1 → apF s.2.1 s.1 v' r = s.2.1 r := fun r hr => apF_ne (by omega)
  rcases r5 with ⟨e1, e2, e3, e4⟩ | ⟨e1, e2, e3, e4⟩
  · subst e1
    refine ⟨⟨a1, a2⟩, hq', c.tr r2, fun r hr => (hV r (by omega)).trans (d r hr), fun r hr => by rw [show (tsN s (some (ftN v'.1), q', v', k')).2.1 r = s.2.1 r from hV r hr]; exact (f r hr).ext r2, fun i hi => ?_, by show s.2.2.1 + 1 ≤ _ + 1; omega, by show 2 * (s.2.2.2.2.2.2 + 1) ≤ k'; omega⟩
    show ∃ n, n < 1000 ∧ upd s.2.2.2.1 s.2.2.1 (ftN v'.1) i = nI n ∧ okAtom q'.2.2.1 q'.1 q'.2.2.2.2 n
    by_cases z : i = s.2.2.1
    · rw [z, upd_at9]
      have hD := r1.2
      rw [e2] at hD
      exact ft_num hD r3 hq' e3 e4
    · have hi' : i < s.2.2.1 := by have : i < s.2.2.1 + 1 := hi; omega
      rw [upd_nq z]
      obtain ⟨n, n1, n2, n3⟩ := g i hi'
      exact ⟨n, n1, n2, okAtom_ext n3 r2⟩
  · subst e1
    refine ⟨⟨e2, by show rc0 ≤ s.1 + 1; omega⟩, hq', c.tr r2, fun r hr => (hV r (by omega)).trans (d r hr), fun r hr => ?_, fun i hi => ?_, by show s.2.2.1 ≤ _ + 1; omega, by show 2 * (s.2.2.2.2.2.2 + 1) ≤ k'; omega⟩
    · show rlD q' (apF s.2.1 s.1 v' r)
      by_cases z : r = s.1
      · rw [z, apF_at]; exact rlD_of r1 r3 e3
      · have hr' : r < s.1 := by have : r < s.1 + 1 := hr; omega
        rw [hV r hr']; exact (f r hr').ext r2
    · obtain ⟨n, n1, n2, n3⟩ := g i hi
      exact ⟨n, n1, n2, okAtom_ext n3 r2⟩
def addF (S : Nat → Bool) (fs : Nat → Int32) : Nat → Nat → Bool
  | 0, n => S n
  | i + 1, n => addF S fs i n || decide (fs i = nI n)
theorem RZ.lf {h0 h : xHp} {rc : Nat} {fc : Int32} {lf : Nat → Int32} {ra : Nat → Nat} {V : Nat → RV} {fr : Nat → Int32} {fn : Nat} {fs : Nat → Int32} {cl : Nat} {ts : Nat} {ty : Nat → Int32} {st : Nat → Int32} {wd : Nat → Int64} {q : PQ} {k : Nat} {flt plc : Int32} (Z : RZ h0 h rc fc lf ra V fr fn fs cl ts ty st wd q k flt plc) (lf9 : Nat → Int32) : RZ h0 (xup h 10 (.inl (0, 10, .inl lf9))) rc fc lf9 ra V fr fn fs cl ts ty st wd q k flt plc := by
  obtain ⟨⟨kw, tw, pf, b, r1⟩, r2, ⟨t1, t2, t3, t4⟩, r3, ⟨r4, r5⟩, r6⟩ := Z
  have hx : xfr h (xup h 10 (.inl (0, 10, .inl lf9))) [10] := (xfr_rf _ _).up (by decide)
  obtain ⟨⟨b1, b2, b3, b4, b5, ⟨⟨rf, b6, b7⟩, b8⟩, b9⟩, c1, c2, c3, c4, c5⟩ := b
  exact ⟨⟨kw, tw, pf, ⟨⟨hx.at b1 (by decide), hx.at b2 (by decide), hx.at b3 (by decide), hx.at b4 (by decide), xup_self _ _ _, ⟨⟨rf, hx.at b6 (by decide), b7⟩, fun j hj => rlV_fr (b8 j hj) hx (b9 j hj) (by decide)⟩, b9⟩, hx.at c1 (by decide), hx.at c2 (by decide), hx.at c3 (by decide), hx.at c4 (by decide), c5⟩, r1⟩, hx.at r2 (by decide), ⟨hx.at t1 (by decide), hx.at t2 (by decide), hx.at t3 (by decide), hx.at t4 (by decide)⟩, hx.at r3 (by decide), ⟨r4, fun a ha => (xup_ne (by omega)).trans (r5 a ha)⟩, r6⟩
theorem RZ.b {h0 h : xHp} {rc : Nat} {fc : Int32} {lf : Nat → Int32} {ra : Nat → Nat} {V : Nat → RV} {fr : Nat → Int32} {fn : Nat} {fs : Nat → Int32} {cl : Nat} {ts : Nat} {ty : Nat → Int32} {st : Nat → Int32} {wd : Nat → Int64} {q : PQ} {k : Nat} {flt plc : Int32} (Z : RZ h0 h rc fc lf ra V fr fn fs cl ts ty st wd q k flt plc) : h.1 3 = some (bC 4 6 8 9 11 rc 12 fc) ∧ h.1 4 = some (.inr (6, [.ref 5, .int (nI q.2.2.1)])) ∧ h.1 6 = some (.inr (6, [.ref 7, .int (nI q.1)])) ∧ h.1 9 = some (.inr (4, [.ref 10])) ∧ h.1 10 = some (.inl (0, 10, .inl lf)) ∧ rsAt h 11 ra V := by
  obtain ⟨⟨kw, tw, pf, b, r1⟩, r2⟩ := Z
  exact ⟨b.1.1, b.1.2.1, b.1.2.2.1, b.1.2.2.2.1, b.1.2.2.2.2.1, b.1.2.2.2.2.2.1⟩
theorem RZ.r {h0 h : xHp} {rc : Nat} {fc : Int32} {lf : Nat → Int32} {ra : Nat → Nat} {V : Nat → RV} {fr : Nat → Int32} {fn : Nat} {fs : Nat → Int32} {cl : Nat} {ts : Nat} {ty : Nat → Int32} {st : Nat → Int32} {wd : Nat → Int64} {q : PQ} {k : Nat} {flt plc : Int32} (Z : RZ h0 h rc fc lf ra V fr fn fs cl ts ty st wd q k flt plc) : h.1 181 = some (.inr (7, [.ref 3, .ref 182, .int (nI k), .ref 186, .int (nI fn), .int (nI cl), .int flt, .int plc])) := Z.2.1
theorem RZ.rd {h0 h : xHp} {rc : Nat} {fc : Int32} {lf : Nat → Int32} {ra : Nat → Nat} {V : Nat → RV} {fr : Nat → Int32} {fn : Nat} {fs : Nat → Int32} {cl : Nat} {ts : Nat} {ty : Nat → Int32} {st : Nat → Int32} {wd : Nat → Int64} {q : PQ} {k : Nat} {flt plc : Int32} (Z : RZ h0 h rc fc lf ra V fr fn fs cl ts ty st wd q k flt plc) (k' cl' : Nat) (flt' plc' : Int32) : RZ h0 (xup h 181 (.inr (7, [.ref 3, .ref 182, .int (nI (k')), .ref 186, .int (nI fn), .int (nI (cl')), .int flt', .int plc']))) rc fc lf ra V fr fn fs (cl') ts ty st wd q (k') (flt') (plc') := by
  obtain ⟨⟨kw, tw, pf, b, r1⟩, r2, ⟨t1, t2, t3, t4⟩, r3, ⟨r4, r5⟩, r6⟩ := Z
  have hx : xfr h (xup h 181 (.inr (7, [.ref 3, .ref 182, .int (nI (k')), .ref 186, .int (nI fn), .int (nI (cl')), .int flt', .int plc']))) [181] := (xfr_rf _ _).up (by decide)
  exact ⟨⟨kw, tw, pf, b.kp hx (by decide), r1⟩, xup_self _ _ _, ⟨hx.at t1 (by decide), hx.at t2 (by decide), hx.at t3 (by decide), hx.at t4 (by decide)⟩, hx.at r3 (by decide), ⟨r4, fun a ha => (xup_ne (by omega)).trans (r5 a ha)⟩, r6⟩
theorem RZ.type {h0 h : xHp} {rc : Nat} {fc : Int32} {lf : Nat → Int32} {ra : Nat → Nat} {V : Nat → RV} {fr : Nat → Int32} {fn : Nat} {fs : Nat → Int32} {cl : Nat} {ts : Nat} {ty : Nat → Int32} {st : Nat → Int32} {wd : Nat → Int64} {q : PQ} {k : Nat} {flt plc : Int32} (Z : RZ h0 h rc fc lf ra V fr fn fs cl ts ty st wd q k flt plc) {G : xG} {tk : Nat → Tk} (O : tkO ts tk ty st wd) (hk : k < ts) : MX G mX7_type 1 0 0 [.ref 181] h (xAns (.int (nI (tk k).1)) h) := by
  have hts := O.1.2
  refine MX.of [(0, .ref 181)] (by decide) rfl (Nat.le_of_ble_eq_true rfl) rfl ?_
  refine x_aload_n dX7_type_0 rfl ?_
  refine x_get lf_X7_48 dX7_type_1 Z.r rfl ?_
  refine x_aload_n dX7_type_4 rfl ?_
  refine x_get lf_X7_12 dX7_type_5 Z.r rfl ?_
  refine x_get lf_X7_196 dX7_type_8 Z.2.2.1.1 rfl ?_
  refine x_icmp_ge 29 dX7_type_11 (by decide) (fun c_11 => ?_) (fun c_11 => ?_)
  · rw [nI_leI (by omega) (by omega)] at c_11
    refine x_iconst (v := 0) dX7_type_29 (by decide) ?_
    first | exact x_iret dX7_type_30 rfl rfl (Nat.le_refl _) (Nat.le_refl _) ⟨rfl, rfl⟩ | (exfalso; omega)
  · rw [nI_leI (by omega) (by omega)] at c_11
    refine x_aload_n dX7_type_14 rfl ?_
    refine x_get lf_X7_12 dX7_type_15 Z.r rfl ?_
    refine x_get lf_X7_197 dX7_type_18 Z.2.2.1.1 rfl ?_
    refine x_aload_n dX7_type_21 rfl ?_
    refine x_get lf_X7_48 dX7_type_22 Z.r rfl ?_
    refine x_ialdN (j := k) Z.2.2.1.2.1 rfl (by omega) (by decide) dX7_type_25 ?_
    refine x_top (O.2.1 k hk).1 ?_
    refine x_goto 30 dX7_type_26 (by decide) ?_
    first | exact x_iret dX7_type_30 rfl rfl (Nat.le_refl _) (Nat.le_refl _) ⟨rfl, rfl⟩ | (exfalso; omega)
set_option maxRecDepth 100000 in
set_option maxHeartbeats 4000000 in
theorem RZ.fail {h0 h : xHp} {rc : Nat} {fc : Int32} {lf : Nat → Int32} {ra : Nat → Nat} {V : Nat → RV} {fr : Nat → Int32} {fn : Nat} {fs : Nat → Int32} {cl : Nat} {ts : Nat} {ty : Nat → Int32} {st : Nat → Int32} {wd : Nat → Int64} {q : PQ} {k : Nat} {flt plc : Int32} (Z : RZ h0 h rc fc lf ra V fr fn fs cl ts ty st wd q k flt plc) {G : xG} {e p : Int32} : MX G mX7_fail 1 0 0 [.ref 181, .int e, .int p] h (fun o h' => o = .inl (some (.int 0)) ∧ RZ h0 h' rc fc lf ra V fr fn fs cl ts ty st wd q k e p) := by
  refine MX.of [(0, .ref 181), (1, .int e), (2, .int p)] (by decide) rfl (Nat.le_of_ble_eq_true rfl) rfl ?_
  refine x_aload_n dX7_fail_0 rfl ?_
  refine x_iload_n dX7_fail_1 rfl ?_
  refine x_put [.ref 3, .ref 182, .int (nI k), .ref 186, .int (nI fn), .int (nI cl), .int e, .int plc] lf_X7_57 dX7_fail_2 Z.r (Nat.le_of_ble_eq_true rfl) rfl rfl rfl ?_
  refine x_aload_n dX7_fail_5 rfl ?_
  refine x_iload_n dX7_fail_6 rfl ?_
  refine x_put [.ref 3, .ref 182, .int (nI k), .ref 186, .int (nI fn), .int (nI cl), .int e, .int p] lf_X7_60 dX7_fail_7 (xup_self _ _ _) (Nat.le_of_ble_eq_true rfl) rfl rfl rfl ?_
  refine x_iconst (v := 0) dX7_fail_10 (by decide) ?_
  refine x_iret dX7_fail_11 rfl rfl (Nat.le_refl _) (Nat.le_refl _) ⟨rfl, ?_⟩
  rw [xup_up]
  exact Z.rd k cl e p
/-- by RULE r some KIND leans on its own refusal, and by none of the text ahead -/
def own6 (V : Nat → RV) (rc0 r : Nat) : Prop := rc0 ≤ r ∧ (¬ ∃ S, Sat V (r + 1) S) ∧ ∀ j, rc0 ≤ j → j < r → ∃ S, Sat V (j + 1) S
set_option maxRecDepth 100000 in
set_option maxHeartbeats 4000000 in
theorem l_X7_refuses {G : xG} {h0 : xHp} {rc : Nat} {fc : Int32} {ra : Nat → Nat} {V : Nat → RV} {fr : Nat → Int32} {fn : Nat} {fs : Nat → Int32} {cl : Nat} {ts : Nat} {ty : Nat → Int32} {st : Nat → Int32} {wd : Nat → Int64} {q : PQ} {k : Nat} {flt plc : Int32} {rc0 : Nat} (hrc : rc ≤ 20) (hV : ∀ r, r < rc → okK (V r)) (hno : ¬ ∃ S, Sat V rc S) : ∀ (m r : Nat), r ≤ rc → rc + 1 ≤ r + m → rc0 ≤ r → ∀ {h : xHp} {lf : Nat → Int32} {S0 : Nat → Nat}, RZ h0 h rc fc lf ra V fr fn fs cl ts ty st wd q k flt plc → Sat V r S0 → (∀ j, rc0 ≤ j → j < r → ∃ S, Sat V (j + 1) S) → Wx G mX7_refusesNoneOfItself (xRm 3 0 0) (xF G (fun o h' => (∃ (lf9 : Nat → Int32) (L9 : Nat → Nat), (∀ k, k < 10 → lf9 k = nI (L9 k)) ∧ (∀ k, L9 k ≤ 9) ∧ (Sat V rc L9 ∧ ∀ S, Sat V rc S → ∀ k, k < 10 → L9 k ≤ S k) ∧ o = .inl (some (.int 1)) ∧ RZ h0 h' rc fc lf9 ra V fr fn fs cl ts ty st wd q k flt plc) ∨ (∃ (r : Nat) (lf9 : Nat → Int32), r < rc ∧ own6 V rc0 r ∧ o = .inl (some (.int 0)) ∧ RZ h0 h' rc fc lf9 ra V fr fn fs cl ts ty st wd q k 6 ((V r).1 4))) 0 0) 0 0 31 [(0, .ref 181), (1, .int (nI rc0)), (2, .int (nI r))] [] h := by
  intro m
  induction m with
  | zero => exact fun r h1 h2 => absurd h2 (by omega)
  | succ m ih =>
    intro r hr1 hr2 hr3 h lf S0 Z hsr hpre
    refine x_iload_n dX7_refusesNoneOfItself_31 rfl ?_
    refine x_aload_n dX7_refusesNoneOfItself_32 rfl ?_
    refine x_get lf_X7_22 dX7_refusesNoneOfItself_33 Z.r rfl ?_
    refine x_get lf_X7_41 dX7_refusesNoneOfItself_36 Z.b.1 rfl ?_
    refine x_icmp_ge 93 dX7_refusesNoneOfItself_39 (by decide) (fun c_39 => ?_) (fun c_39 => ?_)
    · rw [nI_leI (by omega) (by omega)] at c_39
      refine x_iconst (v := 1) dX7_refusesNoneOfItself_93 (by decide) ?_
      exact absurd ⟨_, (show r = rc by omega) ▸ hsr⟩ hno
    · rw [nI_leI (by omega) (by omega)] at c_39
      refine x_aload_n dX7_refusesNoneOfItself_42 rfl ?_
      refine x_get lf_X7_22 dX7_refusesNoneOfItself_43 Z.r rfl ?_
      refine x_get lf_X7_83 dX7_refusesNoneOfItself_46 Z.b.1 rfl ?_
      refine x_aload_n dX7_refusesNoneOfItself_49 rfl ?_
      refine x_get lf_X7_22 dX7_refusesNoneOfItself_50 Z.r rfl ?_
      refine x_get lf_X7_67 dX7_refusesNoneOfItself_53 Z.b.1 rfl ?_
      refine x_iload_n dX7_refusesNoneOfItself_56 rfl ?_
      refine x_iconst (v := 1) dX7_refusesNoneOfItself_57 (by decide) ?_
      refine x_iadd dX7_refusesNoneOfItself_58 ?_
      refine x_top (y := nI (r + 1)) (nI_add r 1) ?_
      refine x_callV (As := [.ref 11, .int (nI (r + 1))]) (st := []) lv_X7_87 (k_X4_settle Z.b.2.2.2.1 Z.b.2.2.2.2.1 Z.b.2.2.2.2.2 (by omega) (fun r9 hr9 => hV r9 (by omega))) dX7_refusesNoneOfItself_59 Z.b.2.2.2.1 rfl rfl (Nat.le_of_ble_eq_true rfl) ⟨by decide, by decide⟩ ⟨by decide, by decide⟩ (fun v9 h9 z => ?_) (fun _ _ _ _ _ z => by obtain ⟨_, _, _, z, _⟩ := z; cases z)
      obtain ⟨b1, lf1, L1, ev, eh, l1, l2, l3, l4⟩ := z
      cases ev
      rw [eh]
      have Z1 := Z.lf lf1
      refine x_if_ne 87 dX7_refusesNoneOfItself_62 (by decide) (fun c_62 => ?_) (fun c_62 => ?_)
      · have c_62 := bi_t c_62
        refine x_iinc (v := nI (r + 1)) [(0, .ref 181), (1, .int (nI rc0)), (2, .int (nI (r + 1)))] dX7_refusesNoneOfItself_87 rfl (nI_add r 1) (by decide) rfl rfl ?_
        refine x_goto 31 dX7_refusesNoneOfItself_90 (by decide) ?_
        exact ih (r + 1) (by omega) (by omega) (by omega) Z1 (l3 c_62).1 (fun j j1 j2 => by by_cases e : j = r; exact ⟨_, e ▸ (l3 c_62).1⟩; exact hpre j j1 (by omega))
      · have c_62 := bi_f c_62
        obtain ⟨⟨rf, hrf0, hrf⟩, hrv⟩ := Z1.b.2.2.2.2.2
        have hrr := hrv r (by omega)
        refine x_aload_n dX7_refusesNoneOfItself_65 rfl ?_
        refine x_bipush (v := 6) dX7_refusesNoneOfItself_66 (by decide) ?_
        refine x_aload_n dX7_refusesNoneOfItself_68 rfl ?_
        refine x_get lf_X7_22 dX7_refusesNoneOfItself_69 Z1.r rfl ?_
        refine x_get lf_X7_67 dX7_refusesNoneOfItself_72 Z1.b.1 rfl ?_
        refine x_iload_n dX7_refusesNoneOfItself_75 rfl ?_
        refine x_aaldN (b := ra r) (j := r) hrf0 rfl rfl (by omega) (by decide) (hrf r (by omega)) dX7_refusesNoneOfItself_76 ?_
        refine x_get lf_X7_93 dX7_refusesNoneOfItself_77 hrr.1 rfl ?_
        refine x_get lf_X7_99 dX7_refusesNoneOfItself_80 hrr.2.1 rfl ?_
        refine x_callV (As := [.int 6, .int ((V r).1 4)]) (st := []) lv_X7_104 (Z1.fail) dX7_refusesNoneOfItself_83 Z1.r rfl rfl (Nat.le_of_ble_eq_true rfl) ⟨by decide, by decide⟩ ⟨by decide, by decide⟩ (fun v9 hF z => ?_) (fun _ _ _ _ _ z => by cases z.1)
        obtain ⟨ev, ZF⟩ := z
        cases ev
        exact x_iret dX7_refusesNoneOfItself_86 rfl rfl (Nat.le_refl _) (Nat.le_refl _) (Or.inr ⟨r, _, by omega, ⟨by omega, l4 c_62, hpre⟩, rfl, ZF⟩)
set_option maxRecDepth 100000 in
set_option maxHeartbeats 4000000 in
theorem k_X7_refuses {G : xG} {h0 h : xHp} {rc : Nat} {fc : Int32} {lf : Nat → Int32} {ra : Nat → Nat} {V : Nat → RV} {fr : Nat → Int32} {fn : Nat} {fs : Nat → Int32} {cl : Nat} {ts : Nat} {ty : Nat → Int32} {st : Nat → Int32} {wd : Nat → Int64} {q : PQ} {k : Nat} {flt plc : Int32} (Z : RZ h0 h rc fc lf ra V fr fn fs cl ts ty st wd q k flt plc) {rc0 : Nat} (h0c : rc0 ≤ rc) (hV : ∀ r, r < rc → okK (V r)) {S0 : Nat → Nat} (hs0 : Sat V rc0 S0) : MX G mX7_refusesNoneOfItself 3 0 0 [.ref 181, .int (nI rc0)] h (fun o h' => (∃ (lf9 : Nat → Int32) (L9 : Nat → Nat), (∀ k, k < 10 → lf9 k = nI (L9 k)) ∧ (∀ k, L9 k ≤ 9) ∧ (Sat V rc L9 ∧ ∀ S, Sat V rc S → ∀ k, k < 10 → L9 k ≤ S k) ∧ o = .inl (some (.int 1)) ∧ RZ h0 h' rc fc lf9 ra V fr fn fs cl ts ty st wd q k flt plc) ∨ (∃ (r : Nat) (lf9 : Nat → Int32), r < rc ∧ own6 V rc0 r ∧ o = .inl (some (.int 0)) ∧ RZ h0 h' rc fc lf9 ra V fr fn fs cl ts ty st wd q k 6 ((V r).1 4))) := by
  have hz20 := Z.2.2.2.2.2.2.2
  refine MX.of [(0, .ref 181), (1, .int (nI rc0))] (by decide) rfl (Nat.le_of_ble_eq_true rfl) rfl ?_
  refine x_aload_n dX7_refusesNoneOfItself_0 rfl ?_
  refine x_get lf_X7_22 dX7_refusesNoneOfItself_1 Z.r rfl ?_
  refine x_get lf_X7_83 dX7_refusesNoneOfItself_4 Z.b.1 rfl ?_
  refine x_aload_n dX7_refusesNoneOfItself_7 rfl ?_
  refine x_get lf_X7_22 dX7_refusesNoneOfItself_8 Z.r rfl ?_
  refine x_get lf_X7_67 dX7_refusesNoneOfItself_11 Z.b.1 rfl ?_
  refine x_aload_n dX7_refusesNoneOfItself_14 rfl ?_
  refine x_get lf_X7_22 dX7_refusesNoneOfItself_15 Z.r rfl ?_
  refine x_get lf_X7_41 dX7_refusesNoneOfItself_18 Z.b.1 rfl ?_
  refine x_callV (As := [.ref 11, .int (nI (rc))]) (st := []) lv_X7_87 (k_X4_settle Z.b.2.2.2.1 Z.b.2.2.2.2.1 Z.b.2.2.2.2.2 (by omega) (fun r9 hr9 => hV r9 (by omega))) dX7_refusesNoneOfItself_21 Z.b.2.2.2.1 rfl rfl (Nat.le_of_ble_eq_true rfl) ⟨by decide, by decide⟩ ⟨by decide, by decide⟩ (fun v9 h9 z => ?_) (fun _ _ _ _ _ z => by obtain ⟨_, _, _, z, _⟩ := z; cases z)
  obtain ⟨b1, lf1, L1, ev, eh, l1, l2, l3, l4⟩ := z
  cases ev
  rw [eh]
  have Z1 := Z.lf lf1
  refine x_if_eq 29 dX7_refusesNoneOfItself_24 (by decide) (fun c_24 => ?_) (fun c_24 => ?_)
  · have c_24 := bi_f c_24
    refine x_iload_n dX7_refusesNoneOfItself_29 rfl ?_
    refine x_istore_n [(0, .ref 181), (1, .int (nI rc0)), (2, .int (nI rc0))] dX7_refusesNoneOfItself_30 (by decide) rfl rfl ?_
    exact l_X7_refuses Z.2.2.2.2.2.2.2 hV (l4 c_24) (rc + 1) rc0 h0c (by omega) (Nat.le_refl _) Z1 hs0 (fun j j1 j2 => absurd j2 (by omega))
  · have c_24 := bi_t c_24
    refine x_iconst (v := 1) dX7_refusesNoneOfItself_27 (by decide) ?_
    exact x_iret dX7_refusesNoneOfItself_28 rfl rfl (Nat.le_refl _) (Nat.le_refl _) (Or.inl ⟨lf1, L1, l1, l2, l3 c_24, rfl, Z1⟩)
