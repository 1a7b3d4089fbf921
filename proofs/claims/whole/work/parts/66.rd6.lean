/-! RuleCourt$Reader: between two CLAUSES -/
def RZ (h0 h : xHp) (rc : Nat) (fc : Int32) (lf : Nat → Int32) (ra : Nat → Nat) (V : Nat → RV) (fr : Nat → Int32) (fn : Nat) (fs : Nat → Int32) (cl : Nat) (ts : Nat) (ty : Nat → Int32) (st : Nat → Int32) (wd : Nat → Int64) (q : PQ) (k : Nat) (flt plc : Int32) : Prop :=
  (∃ (kw tw : Nat → Int64) (pf : Nat → Int32), bkF h rc fc q.1 q.2.2.1 lf ra V kw tw pf fr ∧ wOk q.1 q.2.1 tw ∧ wOk q.2.2.1 q.2.2.2.1 kw ∧ ∀ j, j < 10 → pf j = nI (q.2.2.2.2 j) ∧ q.2.2.2.2 j < 3) ∧ h.1 181 = some (.inr (7, [.ref 3, .ref 182, .int (nI k), .ref 186, .int (nI fn), .int (nI cl), .int flt, .int plc])) ∧ tokH h ts ty st wd ∧ h.1 186 = some (.inl (0, 200, .inl fs)) ∧ (h.2 = h0.2 ∧ ∀ a, a < 3 ∨ 187 ≤ a → h.1 a = h0.1 a) ∧ (q.1 ≤ 10 ∧ q.2.2.1 ≤ 10 ∧ rc ≤ 20)
theorem RS.z0 {h0 h : xHp} {rc : Nat} {fc : Int32} {lf : Nat → Int32} {ra : Nat → Nat} {V : Nat → RV} {fr : Nat → Int32} {fn : Nat} {fs : Nat → Int32} {cl : Nat} {ts : Nat} {ty : Nat → Int32} {st : Nat → Int32} {wd : Nat → Int64} {q : PQ} {v : RV} {k : Nat} {flt plc : Int32} (R : RS h0 h rc fc lf ra V fr fn fs cl ts ty st wd q v k flt plc) : RZ h0 h rc fc lf ra (apF V rc v) fr fn fs cl ts ty st wd q k flt plc := ⟨R.1, R.2.1, R.2.2.1, R.2.2.2.1, R.2.2.2.2.1, R.z.1, R.z.2.1, R.z.2.2.1⟩
theorem apF_self {α : Type} (f : Nat → α) (i : Nat) : apF f i (f i) = f := by
  funext j
  unfold apF
  by_cases e : j = i
  · rw [if_pos e, e]
  · rw [if_neg e]
def rv0 (v : RV) : RV := (v.1, v.2.1, 0, v.2.2.2.1, 0)
theorem RZ.s {h0 h : xHp} {rc : Nat} {fc : Int32} {lf : Nat → Int32} {ra : Nat → Nat} {V : Nat → RV} {fr : Nat → Int32} {fn : Nat} {fs : Nat → Int32} {cl : Nat} {ts : Nat} {ty : Nat → Int32} {st : Nat → Int32} {wd : Nat → Int64} {q : PQ} {k : Nat} {flt plc : Int32} (Z : RZ h0 h rc fc lf ra V fr fn fs cl ts ty st wd q k flt plc) (h8 : (V rc).2.2.1 ≤ 4 ∧ (V rc).2.2.2.2 ≤ 3) : RS h0 h rc fc lf ra V fr fn fs cl ts ty st wd q (V rc) k flt plc := ⟨by rw [apF_self]; exact Z.1, Z.2.1, Z.2.2.1, Z.2.2.2.1, Z.2.2.2.2.1, Z.2.2.2.2.2.1, Z.2.2.2.2.2.2.1, Z.2.2.2.2.2.2.2, h8.1, h8.2⟩
theorem RZ.l {h0 h : xHp} {rc : Nat} {fc : Int32} {lf : Nat → Int32} {ra : Nat → Nat} {V : Nat → RV} {fr : Nat → Int32} {fn : Nat} {fs : Nat → Int32} {cl : Nat} {ts : Nat} {ty : Nat → Int32} {st : Nat → Int32} {wd : Nat → Int64} {q : PQ} {k : Nat} {flt plc : Int32} (Z : RZ h0 h rc fc lf ra V fr fn fs cl ts ty st wd q k flt plc) : rlV h (ra rc) (V rc) := by
  obtain ⟨⟨kw, tw, pf, b, r1⟩, r2⟩ := Z
  exact b.1.2.2.2.2.2.1.2 rc (by have := r2.2.2.2.2.2.2; omega)
theorem RZ.clr {h0 h : xHp} {rc : Nat} {fc : Int32} {lf : Nat → Int32} {ra : Nat → Nat} {V : Nat → RV} {fr : Nat → Int32} {fn : Nat} {fs : Nat → Int32} {cl : Nat} {ts : Nat} {ty : Nat → Int32} {st : Nat → Int32} {wd : Nat → Int64} {q : PQ} {k : Nat} {flt plc : Int32} (Z : RZ h0 h rc fc lf ra V fr fn fs cl ts ty st wd q k flt plc) : RS h0 (xup h (ra rc) (rC (ra rc) 0 0)) rc fc lf ra V fr fn fs cl ts ty st wd q (rv0 (V rc)) k flt plc := by
  have hl := Z.l
  obtain ⟨⟨kw, tw, pf, b, r1⟩, r2, ⟨t1, t2, t3, t4⟩, r3, ⟨r4, r5⟩, r6⟩ := Z
  obtain ⟨ρ, x1, x2⟩ := b.1.2.2.2.2.2.2 rc (by omega)
  have hf : ∀ a, a < ra rc ∨ ra rc + 8 ≤ a → (xup h (ra rc) (rC (ra rc) 0 0)).1 a = h.1 a := fun a ha => xup_ne (by omega)
  have hv : rlV (xup h (ra rc) (rC (ra rc) 0 0)) (ra rc) (rv0 (V rc)) := ⟨xup_self _ _ _, (xup_ne (by omega)).trans hl.2.1, (xup_ne (by omega)).trans hl.2.2.1, (xup_ne (by omega)).trans hl.2.2.2.1, fun i hi => (xup_ne (by omega)).trans (hl.2.2.2.2 i hi)⟩
  have b' : bkF h rc fc q.1 q.2.2.1 lf ra (apF V rc (V rc)) kw tw pf fr := by rw [apF_self]; exact b
  exact ⟨⟨kw, tw, pf, bk_slot b' r6.2.2 hf hv, r1⟩, (hf _ (by omega)).trans r2, ⟨(hf _ (by omega)).trans t1, (hf _ (by omega)).trans t2, (hf _ (by omega)).trans t3, (hf _ (by omega)).trans t4⟩, (hf _ (by omega)).trans r3, ⟨r4, fun a ha => (hf _ (by omega)).trans (r5 a ha)⟩, r6.1, r6.2.1, r6.2.2, Nat.zero_le _, Nat.zero_le _⟩
def szV (v : RV) (n : Nat) : RV := (v.1, v.2.1, n, v.2.2.2)
theorem RS.sz {h0 h : xHp} {rc : Nat} {fc : Int32} {lf : Nat → Int32} {ra : Nat → Nat} {V : Nat → RV} {fr : Nat → Int32} {fn : Nat} {fs : Nat → Int32} {cl : Nat} {ts : Nat} {ty : Nat → Int32} {st : Nat → Int32} {wd : Nat → Int64} {q : PQ} {v : RV} {k : Nat} {flt plc : Int32} (R : RS h0 h rc fc lf ra V fr fn fs cl ts ty st wd q v k flt plc) {n : Nat} (hn : n ≤ 4) : RS h0 (xup h (ra rc) (rC (ra rc) n v.2.2.2.2)) rc fc lf ra V fr fn fs cl ts ty st wd q (szV v n) k flt plc := by
  have hl := R.l
  exact R.slot rfl (fun a ha => xup_ne (by omega)) ⟨xup_self _ _ _, (xup_ne (by omega)).trans hl.2.1, (xup_ne (by omega)).trans hl.2.2.1, (xup_ne (by omega)).trans hl.2.2.2.1, fun i hi => (xup_ne (by omega)).trans (hl.2.2.2.2 i hi)⟩ ⟨hn, R.z.2.2.2.2⟩
theorem RS.ft {h0 h : xHp} {rc : Nat} {fc : Int32} {lf : Nat → Int32} {ra : Nat → Nat} {V : Nat → RV} {fr : Nat → Int32} {fn : Nat} {fs : Nat → Int32} {cl : Nat} {ts : Nat} {ty : Nat → Int32} {st : Nat → Int32} {wd : Nat → Int64} {q : PQ} {v : RV} {k : Nat} {flt plc : Int32} (R : RS h0 h rc fc lf ra V fr fn fs cl ts ty st wd q v k flt plc) (k' : Nat) (x : Int32) : RZ h0 (xup (xup h 186 (.inl (0, 200, .inl (upd fs fn x)))) 181 (.inr (7, [.ref 3, .ref 182, .int (nI (k')), .ref 186, .int (nI (fn + 1)), .int (nI cl), .int flt, .int plc]))) rc fc lf ra (apF V rc v) fr (fn + 1) (upd fs fn x) cl ts ty st wd q (k') flt plc := by
  obtain ⟨⟨kw, tw, pf, b, r1⟩, r2, ⟨t1, t2, t3, t4⟩, r3, ⟨r4, r5⟩, r6⟩ := R
  have hx : xfr h (xup (xup h 186 (.inl (0, 200, .inl (upd fs fn x)))) 181 (.inr (7, [.ref 3, .ref 182, .int (nI (k')), .ref 186, .int (nI (fn + 1)), .int (nI cl), .int flt, .int plc]))) [186, 181] := ((xfr_rf _ _).up (by decide)).up (by decide)
  exact ⟨⟨kw, tw, pf, b.kp hx (by decide), r1⟩, xup_self _ _ _, ⟨hx.at t1 (by decide), hx.at t2 (by decide), hx.at t3 (by decide), hx.at t4 (by decide)⟩, (xup_ne (by decide)).trans (xup_self _ _ _), ⟨r4, fun a ha => ((xup_ne (by omega)).trans (xup_ne (by omega))).trans (r5 a ha)⟩, r6.1, r6.2.1, r6.2.2.1⟩
theorem RS.rl {h0 h : xHp} {rc : Nat} {fc : Int32} {lf : Nat → Int32} {ra : Nat → Nat} {V : Nat → RV} {fr : Nat → Int32} {fn : Nat} {fs : Nat → Int32} {cl : Nat} {ts : Nat} {ty : Nat → Int32} {st : Nat → Int32} {wd : Nat → Int64} {q : PQ} {v : RV} {k : Nat} {flt plc : Int32} (R : RS h0 h rc fc lf ra V fr fn fs cl ts ty st wd q v k flt plc) (k' : Nat) (hrc : rc < 20) : RZ h0 (xup (xup h 3 (bC 4 6 8 9 11 (rc + 1) 12 fc)) 181 (.inr (7, [.ref 3, .ref 182, .int (nI (k')), .ref 186, .int (nI fn), .int (nI cl), .int flt, .int plc]))) (rc + 1) fc lf ra (apF V rc v) fr fn fs cl ts ty st wd q (k') flt plc := by
  obtain ⟨⟨kw, tw, pf, b, r1⟩, r2, ⟨t1, t2, t3, t4⟩, r3, ⟨r4, r5⟩, r6⟩ := R
  have hx : xfr h (xup (xup h 3 (bC 4 6 8 9 11 (rc + 1) 12 fc)) 181 (.inr (7, [.ref 3, .ref 182, .int (nI (k')), .ref 186, .int (nI fn), .int (nI cl), .int flt, .int plc]))) [3, 181] := ((xfr_rf _ _).up (by decide)).up (by decide)
  obtain ⟨⟨b1, b2, b3, b4, b5, ⟨⟨rf, b6, b7⟩, b8⟩, b9⟩, c1, c2, c3, c4, c5⟩ := b
  exact ⟨⟨kw, tw, pf, ⟨⟨(xup_ne (by decide)).trans (xup_self _ _ _), hx.at b2 (by decide), hx.at b3 (by decide), hx.at b4 (by decide), hx.at b5 (by decide), ⟨⟨rf, hx.at b6 (by decide), b7⟩, fun j hj => rlV_fr (b8 j hj) hx (b9 j hj) (by decide)⟩, b9⟩, hx.at c1 (by decide), hx.at c2 (by decide), hx.at c3 (by decide), hx.at c4 (by decide), c5⟩, r1⟩, xup_self _ _ _, ⟨hx.at t1 (by decide), hx.at t2 (by decide), hx.at t3 (by decide), hx.at t4 (by decide)⟩, hx.at r3 (by decide), ⟨r4, fun a ha => ((xup_ne (by omega)).trans (xup_ne (by omega))).trans (r5 a ha)⟩, r6.1, r6.2.1, hrc⟩
def ftN (f : Nat → Int32) : Int32 := (f 1 * 10 + (if f 2 < 0 then 0 else f 2)) * 10 + (if f 3 < 0 then 0 else f 3)
abbrev FR : Type := (Nat × Int32) ⊕ (Option Int32 × PQ × RV × Nat)
def pEndF (q : PQ) (v : RV) (k : Nat) : FR := if v.1 2 < 100 then (if v.1 3 < 100 then .inr (some (ftN v.1), q, v, k + 1) else .inl (3, v.1 6)) else .inl (3, v.1 5)
def lsB (tm : Nat → Nat → Int32) (sz : Nat) (x : Int32) : Bool := decide (100 ≤ x) && (List.range sz).all (fun i => !(decide (tm i 0 = 0) && (decide (tm i 2 = x) || decide (tm i 3 = x))))
theorem lsB_iff (tm : Nat → Nat → Int32) (sz : Nat) (x : Int32) : lsB tm sz x = true ↔ rLoose tm sz x := by
  simp [lsB, rLoose, tHas]
  intro _
  constructor
  · intro h i hi h0
    rcases h i hi with a | a
    · exact absurd h0 a
    · exact a
  · intro h i hi
    by_cases h0 : tm i 0 = 0
    · exact Or.inr (h i hi h0)
    · exact Or.inl h0
def lpB (tm : Nat → Nat → Int32) (sz : Nat) (f : Nat → Int32) : Int32 := if lsB tm sz (f 2) = true then f 5 else if lsB tm sz (f 3) = true then f 6 else -1
theorem lpB_of {tm : Nat → Nat → Int32} {sz : Nat} {f : Nat → Int32} {r : Int32} (h : rLp tm sz f r) : r = lpB tm sz f := by
  unfold lpB
  rcases h with ⟨a, b⟩ | ⟨a, b, c⟩ | ⟨a, b, c⟩
  · rw [if_pos ((lsB_iff _ _ _).mpr a)]; exact b
  · rw [if_neg (fun z => a ((lsB_iff _ _ _).mp z)), if_pos ((lsB_iff _ _ _).mpr b)]; exact c
  · rw [if_neg (fun z => a ((lsB_iff _ _ _).mp z)), if_neg (fun z => b ((lsB_iff _ _ _).mp z))]; exact c
/-- the first loose place of the first ATOM and so many TERMS; -1 if there is none -/
def lsF (v : RV) : Nat → Int32
  | 0 => lpB v.2.1 v.2.2.1 v.1
  | i + 1 => if lsF v i = -1 then lpB v.2.1 v.2.2.1 (v.2.1 i) else lsF v i
theorem lsF_stay {v : RV} {i : Nat} (h : ¬ lsF v i = -1) : ∀ n, lsF v (i + n) = lsF v i
  | 0 => rfl
  | n + 1 => by
    show (if lsF v (i + n) = -1 then _ else lsF v (i + n)) = _
    rw [lsF_stay h n, if_neg h]
def pEndR (q : PQ) (v : RV) (k : Nat) : FR := if lsF v v.2.2.1 = -1 then .inr (none, q, v, k + 1) else .inl (5, lsF v v.2.2.1)
def pTerms (tk : Nat → Tk) : Nat → PQ → RV → Nat → Nat → FR
  | 0, _, _, k, _ => .inl (if (tk (k + 1)).1 = 2 ∨ (tk (k + 1)).1 = 3 then 4 else 1, nI (tk (k + 1)).2.1)
  | n + 1, q, v, k, i => match pTerm tk q (szV v (i + 1)) (k + 1) (i + 1) with
    | .inl e => .inl (e.1, nI e.2)
    | .inr (q2, v2, k2) => if (tk k2).1 = 46 then pEndR q2 v2 k2 else if (tk k2).1 = 44 then pTerms tk n q2 v2 k2 (i + 1) else .inl (1, nI (tk k2).2.1)
def pClause (tk : Nat → Tk) (rc : Nat) (q : PQ) (v0 : RV) (k : Nat) : FR := match pAtom tk q (clV (rv0 v0) 0 0) k 0 with
    | .inl e => .inl (e.1, nI e.2)
    | .inr (q2, v2, k2) => if (tk k2).1 = 46 then pEndF q2 v2 k2 else if (tk k2).1 = 58 then (if rc < 20 then pTerms tk 4 q2 v2 k2 0 else .inl (4, nI (tk k2).2.1)) else .inl (1, nI (tk k2).2.1)
set_option maxRecDepth 100000 in
set_option maxHeartbeats 4000000 in
theorem k_X7_endFact {G : xG} {h0 h : xHp} {rc : Nat} {fc : Int32} {lf : Nat → Int32} {ra : Nat → Nat} {V : Nat → RV} {fr : Nat → Int32} {fn : Nat} {fs : Nat → Int32} {cl : Nat} {ts : Nat} {ty : Nat → Int32} {st : Nat → Int32} {wd : Nat → Int64} {q : PQ} {v : RV} {k : Nat} {flt plc : Int32} (R : RS h0 h rc fc lf ra V fr fn fs cl ts ty st wd q v k flt plc) {tk : Nat → Tk} (O : tkO ts tk ty st wd) (hk : k < ts) (h46 : (tk k).1 = 46) (hfn : fn < 200) : MX G mX7_endFact 2 0 0 [.ref 181, .ref (ra rc + 1)] h (fun o h' => (∃ e p, pEndF q v k = .inl (e, p) ∧ o = .inl (some (.int 0)) ∧ ∃ q' v' k', extQ q q' ∧ RZ h0 h' rc fc lf ra (apF V rc v') fr fn fs cl ts ty st wd (q') (k') (nI e) p) ∨ (∃ x q' v' k', pEndF q v k = .inr (some x, q', v', k') ∧ o = .inl (some (.int 1)) ∧ extQ q q' ∧ k' < ts ∧ RZ h0 h' rc fc lf ra (apF V rc v') fr (fn + 1) (upd fs fn x) cl ts ty st wd (q') (k') flt plc) ∨ (∃ q' v' k', pEndF q v k = .inr (none, q', v', k') ∧ o = .inl (some (.int 1)) ∧ extQ q q' ∧ k' < ts ∧ rc < 20 ∧ RZ h0 h' (rc + 1) fc lf ra (apF V rc v') fr fn fs cl ts ty st wd (q') (k') flt plc)) := by
  obtain ⟨ρ9, hρ9, hra9⟩ := R.a
  refine MX.of [(0, .ref 181), (1, .ref (ra rc + 1))] (by decide) rfl (Nat.le_of_ble_eq_true rfl) rfl ?_
  refine x_aload_n dX7_endFact_0 rfl ?_
  refine x_get lf_X7_136 dX7_endFact_1 R.l.2.1 rfl ?_
  refine x_bipush (v := 100) dX7_endFact_4 (by decide) ?_
  refine x_icmp_lt 19 dX7_endFact_6 (by decide) (fun c_6 => ?_) (fun c_6 => ?_)
  · refine x_aload_n dX7_endFact_19 rfl ?_
    refine x_get lf_X7_142 dX7_endFact_20 R.l.2.1 rfl ?_
    refine x_bipush (v := 100) dX7_endFact_23 (by decide) ?_
    refine x_icmp_lt 38 dX7_endFact_25 (by decide) (fun c_25 => ?_) (fun c_25 => ?_)
    · refine x_aload_n dX7_endFact_38 rfl ?_
      refine x_get lf_X7_51 dX7_endFact_39 R.r rfl ?_
      refine x_sipush (v := 200) dX7_endFact_42 (by decide) ?_
      refine x_icmp_ge 99 dX7_endFact_45 (by decide) (fun c_45 => absurd c_45 (by rw [show (200 : Int32) = nI 200 from rfl, nI_leI (by omega) (by omega)]; omega)) (fun c_45 => ?_)
      refine x_aload_n dX7_endFact_48 rfl ?_
      refine x_get lf_X7_136 dX7_endFact_49 R.l.2.1 rfl ?_
      refine x_iconst (v := 0) dX7_endFact_52 (by decide) ?_
      refine x_max ml_X7_148 mx_s in_Math mx_c dX7_endFact_53 (Nat.le_of_ble_eq_true rfl) (Nat.le_of_ble_eq_true rfl) ⟨Nat.le_of_ble_eq_true rfl, Nat.le_of_ble_eq_true rfl⟩ ?_
      refine x_istore_n [(0, .ref 181), (1, .ref (ra rc + 1)), (2, .int (if v.1 2 < 0 then 0 else v.1 2))] dX7_endFact_56 (by decide) rfl rfl ?_
      refine x_aload_n dX7_endFact_57 rfl ?_
      refine x_get lf_X7_142 dX7_endFact_58 R.l.2.1 rfl ?_
      refine x_iconst (v := 0) dX7_endFact_61 (by decide) ?_
      refine x_max ml_X7_148 mx_s in_Math mx_c dX7_endFact_62 (Nat.le_of_ble_eq_true rfl) (Nat.le_of_ble_eq_true rfl) ⟨Nat.le_of_ble_eq_true rfl, Nat.le_of_ble_eq_true rfl⟩ ?_
      refine x_istore_n [(0, .ref 181), (1, .ref (ra rc + 1)), (2, .int (if v.1 2 < 0 then 0 else v.1 2)), (3, .int (if v.1 3 < 0 then 0 else v.1 3))] dX7_endFact_65 (by decide) rfl rfl ?_
      refine x_aload_n dX7_endFact_66 rfl ?_
      refine x_get lf_X7_18 dX7_endFact_67 R.r rfl ?_
      refine x_aload_n dX7_endFact_70 rfl ?_
      refine x_get lf_X7_51 dX7_endFact_71 R.r rfl ?_
      refine x_aload_n dX7_endFact_74 rfl ?_
      refine x_get lf_X7_154 dX7_endFact_75 R.l.2.1 rfl ?_
      refine x_bipush (v := 10) dX7_endFact_78 (by decide) ?_
      refine x_imul dX7_endFact_80 ?_
      refine x_iload_n dX7_endFact_81 rfl ?_
      refine x_iadd dX7_endFact_82 ?_
      refine x_bipush (v := 10) dX7_endFact_83 (by decide) ?_
      refine x_imul dX7_endFact_85 ?_
      refine x_iload_n dX7_endFact_86 rfl ?_
      refine x_iadd dX7_endFact_87 ?_
      refine x_iastN (j := fn) R.2.2.2.1 rfl (by omega) (by decide) dX7_endFact_88 ?_
      refine x_aload_n dX7_endFact_89 rfl ?_
      refine x_dup dX7_endFact_90 rfl ?_
      refine x_get lf_X7_51 dX7_endFact_91 ((xup_ne (by decide)).trans R.r) rfl ?_
      refine x_iconst (v := 1) dX7_endFact_94 (by decide) ?_
      refine x_iadd dX7_endFact_95 ?_
      refine x_top (y := nI (fn + 1)) (nI_add fn 1) ?_
      refine x_put [.ref 3, .ref 182, .int (nI k), .ref 186, .int (nI (fn + 1)), .int (nI cl), .int flt, .int plc] lf_X7_51 dX7_endFact_96 ((xup_ne (by decide)).trans R.r) (Nat.le_of_ble_eq_true rfl) rfl rfl rfl ?_
      refine x_aload_n dX7_endFact_99 rfl ?_
      refine x_dup dX7_endFact_100 rfl ?_
      refine x_get lf_X7_48 dX7_endFact_101 (xup_self _ _ _) rfl ?_
      refine x_iconst (v := 1) dX7_endFact_104 (by decide) ?_
      refine x_iadd dX7_endFact_105 ?_
      refine x_top (y := nI (k + 1)) (nI_add k 1) ?_
      refine x_put [.ref 3, .ref 182, .int (nI (k + 1)), .ref 186, .int (nI (fn + 1)), .int (nI cl), .int flt, .int plc] lf_X7_48 dX7_endFact_106 (xup_self _ _ _) (Nat.le_of_ble_eq_true rfl) rfl rfl rfl ?_
      refine x_iconst (v := 1) dX7_endFact_109 (by decide) ?_
      rw [xup_up]
      exact x_iret dX7_endFact_110 rfl rfl (Nat.le_refl _) (Nat.le_refl _) (Or.inr (Or.inl ⟨ftN v.1, q, v, k + 1, (by unfold pEndF; rw [if_pos c_6, if_pos c_25]), rfl, extQ_rf q, tkO_next O hk (by omega), R.ft (k + 1) (ftN v.1)⟩))
    · refine x_aload_n dX7_endFact_28 rfl ?_
      refine x_iconst (v := 3) dX7_endFact_29 (by decide) ?_
      refine x_aload_n dX7_endFact_30 rfl ?_
      refine x_get lf_X7_145 dX7_endFact_31 R.l.2.1 rfl ?_
      refine x_callV (As := [.int 3, .int (v.1 6)]) (st := []) lv_X7_104 (k_X7_fail R) dX7_endFact_34 R.r rfl rfl (Nat.le_of_ble_eq_true rfl) ⟨by decide, by decide⟩ ⟨by decide, by decide⟩ (fun v9 hF z => ?_) (fun _ _ _ _ _ z => by cases z.1)
      obtain ⟨ev, RF⟩ := z
      cases ev
      exact x_iret dX7_endFact_37 rfl rfl (Nat.le_refl _) (Nat.le_refl _) (Or.inl ⟨3, _, (by unfold pEndF; rw [if_pos c_6, if_neg c_25]), rfl, q, v, k, extQ_rf q, RF.z0⟩)
  · refine x_aload_n dX7_endFact_9 rfl ?_
    refine x_iconst (v := 3) dX7_endFact_10 (by decide) ?_
    refine x_aload_n dX7_endFact_11 rfl ?_
    refine x_get lf_X7_139 dX7_endFact_12 R.l.2.1 rfl ?_
    refine x_callV (As := [.int 3, .int (v.1 5)]) (st := []) lv_X7_104 (k_X7_fail R) dX7_endFact_15 R.r rfl rfl (Nat.le_of_ble_eq_true rfl) ⟨by decide, by decide⟩ ⟨by decide, by decide⟩ (fun v9 hF z => ?_) (fun _ _ _ _ _ z => by cases z.1)
    obtain ⟨ev, RF⟩ := z
    cases ev
    exact x_iret dX7_endFact_18 rfl rfl (Nat.le_refl _) (Nat.le_refl _) (Or.inl ⟨3, _, (by unfold pEndF; rw [if_neg (show ¬ v.1 2 < 100 from c_6)]), rfl, q, v, k, extQ_rf q, RF.z0⟩)
set_option maxRecDepth 100000 in
set_option maxHeartbeats 4000000 in
theorem l_X7_endRule {G : xG} {h0 h : xHp} {rc : Nat} {fc : Int32} {lf : Nat → Int32} {ra : Nat → Nat} {V : Nat → RV} {fr : Nat → Int32} {fn : Nat} {fs : Nat → Int32} {cl : Nat} {ts : Nat} {ty : Nat → Int32} {st : Nat → Int32} {wd : Nat → Int64} {q : PQ} {v : RV} {k : Nat} {flt plc : Int32} (R : RS h0 h rc fc lf ra V fr fn fs cl ts ty st wd q v k flt plc) {tk : Nat → Tk} (O : tkO ts tk ty st wd) (hk : k < ts) (h46 : (tk k).1 = 46) (hrc : rc < 20) : ∀ (m j : Nat) (r : Int32), j ≤ v.2.2.1 → v.2.2.1 + 1 ≤ j + m → r = lsF v j → Wx G mX7_endRule (xRm 3 0 0) (xF G (fun o h' => (∃ e p, pEndR q v k = .inl (e, p) ∧ o = .inl (some (.int 0)) ∧ ∃ q' v' k', extQ q q' ∧ RZ h0 h' rc fc lf ra (apF V rc v') fr fn fs cl ts ty st wd (q') (k') (nI e) p) ∨ (∃ x q' v' k', pEndR q v k = .inr (some x, q', v', k') ∧ o = .inl (some (.int 1)) ∧ extQ q q' ∧ k' < ts ∧ RZ h0 h' rc fc lf ra (apF V rc v') fr (fn + 1) (upd fs fn x) cl ts ty st wd (q') (k') flt plc) ∨ (∃ q' v' k', pEndR q v k = .inr (none, q', v', k') ∧ o = .inl (some (.int 1)) ∧ extQ q q' ∧ k' < ts ∧ rc < 20 ∧ RZ h0 h' (rc + 1) fc lf ra (apF V rc v') fr fn fs cl ts ty st wd (q') (k') flt plc)) 0 0) 0 0 11 [(0, .ref 181), (1, .ref (ra rc)), (2, .int r), (3, .int (nI j))] [] h := by
  have hz4 := R.z.2.2.2.1
  obtain ⟨ρ9, hρ9, hra9⟩ := R.a
  intro m
  induction m with
  | zero => exact fun j r h1 h2 => absurd h2 (by omega)
  | succ m ih =>
    intro j r hj1 hj2 hr
    refine x_iload_n dX7_endRule_11 rfl ?_
    refine x_aload_n dX7_endRule_12 rfl ?_
    refine x_get lf_X7_125 dX7_endRule_13 R.l.1 rfl ?_
    refine x_icmp_ge 41 dX7_endRule_16 (by decide) (fun c_16 => ?_) (fun c_16 => ?_)
    · rw [nI_leI (by omega) (by omega)] at c_16
      have hfin : lsF v v.2.2.1 = r := by first | (rw [show v.2.2.1 = j by omega]; exact hr.symm) | (rw [show v.2.2.1 = j + (v.2.2.1 - j) by omega, lsF_stay (by rw [← hr]; exact c_21)]; exact hr.symm)
      refine x_iload_n dX7_endRule_41 rfl ?_
      refine x_iconst (v := (-1)) dX7_endRule_42 (by decide) ?_
      refine x_icmp_eq 53 dX7_endRule_43 (by decide) (fun c_43 => ?_) (fun c_43 => ?_)
      · refine x_aload_n dX7_endRule_53 rfl ?_
        refine x_get lf_X7_22 dX7_endRule_54 R.r rfl ?_
        refine x_dup dX7_endRule_57 rfl ?_
        refine x_get lf_X7_41 dX7_endRule_58 R.b.1 rfl ?_
        refine x_iconst (v := 1) dX7_endRule_61 (by decide) ?_
        refine x_iadd dX7_endRule_62 ?_
        refine x_top (y := nI (rc + 1)) (nI_add rc 1) ?_
        refine x_put [.ref 4, .ref 6, .ref 8, .ref 9, .ref 11, .int (nI (rc + 1)), .ref 12, .int fc] lf_X7_41 dX7_endRule_63 R.b.1 (Nat.le_of_ble_eq_true rfl) rfl rfl rfl ?_
        refine x_aload_n dX7_endRule_66 rfl ?_
        refine x_dup dX7_endRule_67 rfl ?_
        refine x_get lf_X7_48 dX7_endRule_68 ((xup_ne (by decide)).trans R.r) rfl ?_
        refine x_iconst (v := 1) dX7_endRule_71 (by decide) ?_
        refine x_iadd dX7_endRule_72 ?_
        refine x_top (y := nI (k + 1)) (nI_add k 1) ?_
        refine x_put [.ref 3, .ref 182, .int (nI (k + 1)), .ref 186, .int (nI fn), .int (nI cl), .int flt, .int plc] lf_X7_48 dX7_endRule_73 ((xup_ne (by decide)).trans R.r) (Nat.le_of_ble_eq_true rfl) rfl rfl rfl ?_
        refine x_iconst (v := 1) dX7_endRule_76 (by decide) ?_
        exact x_iret dX7_endRule_77 rfl rfl (Nat.le_refl _) (Nat.le_refl _) (Or.inr (Or.inr ⟨q, v, k + 1, (by unfold pEndR; rw [hfin, if_pos c_43]), rfl, extQ_rf q, tkO_next O hk (by omega), hrc, R.rl (k + 1) hrc⟩))
      · refine x_aload_n dX7_endRule_46 rfl ?_
        refine x_iconst (v := 5) dX7_endRule_47 (by decide) ?_
        refine x_iload_n dX7_endRule_48 rfl ?_
        refine x_callV (As := [.int 5, .int r]) (st := []) lv_X7_104 (k_X7_fail R) dX7_endRule_49 R.r rfl rfl (Nat.le_of_ble_eq_true rfl) ⟨by decide, by decide⟩ ⟨by decide, by decide⟩ (fun v9 hF z => ?_) (fun _ _ _ _ _ z => by cases z.1)
        obtain ⟨ev, RF⟩ := z
        cases ev
        exact x_iret dX7_endRule_52 rfl rfl (Nat.le_refl _) (Nat.le_refl _) (Or.inl ⟨5, _, (by unfold pEndR; rw [hfin, if_neg c_43]), rfl, q, v, k, extQ_rf q, RF.z0⟩)
    · rw [nI_leI (by omega) (by omega)] at c_16
      have hj4 : j < 4 := by omega
      refine x_iload_n dX7_endRule_19 rfl ?_
      refine x_iconst (v := (-1)) dX7_endRule_20 (by decide) ?_
      refine x_icmp_ne 41 dX7_endRule_21 (by decide) (fun c_21 => ?_) (fun c_21 => ?_)
      · have hfin : lsF v v.2.2.1 = r := by first | (rw [show v.2.2.1 = j by omega]; exact hr.symm) | (rw [show v.2.2.1 = j + (v.2.2.1 - j) by omega, lsF_stay (by rw [← hr]; exact c_21)]; exact hr.symm)
        refine x_iload_n dX7_endRule_41 rfl ?_
        refine x_iconst (v := (-1)) dX7_endRule_42 (by decide) ?_
        refine x_icmp_eq 53 dX7_endRule_43 (by decide) (fun c_43 => ?_) (fun c_43 => ?_)
        · refine x_aload_n dX7_endRule_53 rfl ?_
          refine x_get lf_X7_22 dX7_endRule_54 R.r rfl ?_
          refine x_dup dX7_endRule_57 rfl ?_
          refine x_get lf_X7_41 dX7_endRule_58 R.b.1 rfl ?_
          refine x_iconst (v := 1) dX7_endRule_61 (by decide) ?_
          refine x_iadd dX7_endRule_62 ?_
          refine x_top (y := nI (rc + 1)) (nI_add rc 1) ?_
          refine x_put [.ref 4, .ref 6, .ref 8, .ref 9, .ref 11, .int (nI (rc + 1)), .ref 12, .int fc] lf_X7_41 dX7_endRule_63 R.b.1 (Nat.le_of_ble_eq_true rfl) rfl rfl rfl ?_
          refine x_aload_n dX7_endRule_66 rfl ?_
          refine x_dup dX7_endRule_67 rfl ?_
          refine x_get lf_X7_48 dX7_endRule_68 ((xup_ne (by decide)).trans R.r) rfl ?_
          refine x_iconst (v := 1) dX7_endRule_71 (by decide) ?_
          refine x_iadd dX7_endRule_72 ?_
          refine x_top (y := nI (k + 1)) (nI_add k 1) ?_
          refine x_put [.ref 3, .ref 182, .int (nI (k + 1)), .ref 186, .int (nI fn), .int (nI cl), .int flt, .int plc] lf_X7_48 dX7_endRule_73 ((xup_ne (by decide)).trans R.r) (Nat.le_of_ble_eq_true rfl) rfl rfl rfl ?_
          refine x_iconst (v := 1) dX7_endRule_76 (by decide) ?_
          exact x_iret dX7_endRule_77 rfl rfl (Nat.le_refl _) (Nat.le_refl _) (Or.inr (Or.inr ⟨q, v, k + 1, (by unfold pEndR; rw [hfin, if_pos c_43]), rfl, extQ_rf q, tkO_next O hk (by omega), hrc, R.rl (k + 1) hrc⟩))
        · refine x_aload_n dX7_endRule_46 rfl ?_
          refine x_iconst (v := 5) dX7_endRule_47 (by decide) ?_
          refine x_iload_n dX7_endRule_48 rfl ?_
          refine x_callV (As := [.int 5, .int r]) (st := []) lv_X7_104 (k_X7_fail R) dX7_endRule_49 R.r rfl rfl (Nat.le_of_ble_eq_true rfl) ⟨by decide, by decide⟩ ⟨by decide, by decide⟩ (fun v9 hF z => ?_) (fun _ _ _ _ _ z => by cases z.1)
          obtain ⟨ev, RF⟩ := z
          cases ev
          exact x_iret dX7_endRule_52 rfl rfl (Nat.le_refl _) (Nat.le_refl _) (Or.inl ⟨5, _, (by unfold pEndR; rw [hfin, if_neg c_43]), rfl, q, v, k, extQ_rf q, RF.z0⟩)
      · refine x_aload_n dX7_endRule_24 rfl ?_
        refine x_aload_n dX7_endRule_25 rfl ?_
        refine x_get lf_X7_126 dX7_endRule_26 R.l.1 rfl ?_
        refine x_iload_n dX7_endRule_29 rfl ?_
        refine x_aaldN (b := ra rc + 4 + j) (j := j) R.l.2.2.1 rfl rfl hj4 (by decide) (rTs_at hj4) dX7_endRule_30 ?_
        refine x_callV (As := [.ref (ra rc + 4 + j)]) (st := []) lv_X7_157 (k_X8_loosePlace R.l R.z.2.2.2.1 (R.l.2.2.2.2 j hj4)) dX7_endRule_31 R.l.1 rfl rfl (Nat.le_of_ble_eq_true rfl) ⟨by decide, by decide⟩ ⟨by decide, by decide⟩ (fun v9 h9 z => ?_) (fun _ _ _ _ _ z => by obtain ⟨_, z, _⟩ := z; cases z)
        obtain ⟨r9, ev, eh, er⟩ := z
        rw [eh]
        cases ev
        have er := lpB_of er
        subst er
        refine x_istore_n [(0, .ref 181), (1, .ref (ra rc)), (2, .int (lpB v.2.1 v.2.2.1 (v.2.1 j))), (3, .int (nI j))] dX7_endRule_34 (by decide) rfl rfl ?_
        refine x_iinc (v := nI (j + 1)) [(0, .ref 181), (1, .ref (ra rc)), (2, .int (lpB v.2.1 v.2.2.1 (v.2.1 j))), (3, .int (nI (j + 1)))] dX7_endRule_35 rfl (nI_add j 1) (by decide) rfl rfl ?_
        refine x_goto 11 dX7_endRule_38 (by decide) ?_
        exact ih (j + 1) _ (by omega) (by omega) (by show _ = (if lsF v j = -1 then _ else _); rw [if_pos (hr.symm.trans c_21)])
set_option maxRecDepth 100000 in
set_option maxHeartbeats 4000000 in
theorem k_X7_endRule {G : xG} {h0 h : xHp} {rc : Nat} {fc : Int32} {lf : Nat → Int32} {ra : Nat → Nat} {V : Nat → RV} {fr : Nat → Int32} {fn : Nat} {fs : Nat → Int32} {cl : Nat} {ts : Nat} {ty : Nat → Int32} {st : Nat → Int32} {wd : Nat → Int64} {q : PQ} {v : RV} {k : Nat} {flt plc : Int32} (R : RS h0 h rc fc lf ra V fr fn fs cl ts ty st wd q v k flt plc) {tk : Nat → Tk} (O : tkO ts tk ty st wd) (hk : k < ts) (h46 : (tk k).1 = 46) (hrc : rc < 20) : MX G mX7_endRule 3 0 0 [.ref 181, .ref (ra rc)] h (fun o h' => (∃ e p, pEndR q v k = .inl (e, p) ∧ o = .inl (some (.int 0)) ∧ ∃ q' v' k', extQ q q' ∧ RZ h0 h' rc fc lf ra (apF V rc v') fr fn fs cl ts ty st wd (q') (k') (nI e) p) ∨ (∃ x q' v' k', pEndR q v k = .inr (some x, q', v', k') ∧ o = .inl (some (.int 1)) ∧ extQ q q' ∧ k' < ts ∧ RZ h0 h' rc fc lf ra (apF V rc v') fr (fn + 1) (upd fs fn x) cl ts ty st wd (q') (k') flt plc) ∨ (∃ q' v' k', pEndR q v k = .inr (none, q', v', k') ∧ o = .inl (some (.int 1)) ∧ extQ q q' ∧ k' < ts ∧ rc < 20 ∧ RZ h0 h' (rc + 1) fc lf ra (apF V rc v') fr fn fs cl ts ty st wd (q') (k') flt plc)) := by
  refine MX.of [(0, .ref 181), (1, .ref (ra rc))] (by decide) rfl (Nat.le_of_ble_eq_true rfl) rfl ?_
  refine x_aload_n dX7_endRule_0 rfl ?_
  refine x_aload_n dX7_endRule_1 rfl ?_
  refine x_get lf_X7_93 dX7_endRule_2 R.l.1 rfl ?_
  refine x_callV (As := [.ref (ra rc + 1)]) (st := []) lv_X7_157 (k_X8_loosePlace R.l R.z.2.2.2.1 R.l.2.1) dX7_endRule_5 R.l.1 rfl rfl (Nat.le_of_ble_eq_true rfl) ⟨by decide, by decide⟩ ⟨by decide, by decide⟩ (fun v9 h9 z => ?_) (fun _ _ _ _ _ z => by obtain ⟨_, z, _⟩ := z; cases z)
  obtain ⟨r9, ev, eh, er⟩ := z
  rw [eh]
  cases ev
  have er := lpB_of er
  subst er
  refine x_istore_n [(0, .ref 181), (1, .ref (ra rc)), (2, .int (lpB v.2.1 v.2.2.1 v.1))] dX7_endRule_8 (by decide) rfl rfl ?_
  refine x_iconst (v := 0) dX7_endRule_9 (by decide) ?_
  refine x_istore_n [(0, .ref 181), (1, .ref (ra rc)), (2, .int (lpB v.2.1 v.2.2.1 v.1)), (3, .int 0)] dX7_endRule_10 (by decide) rfl rfl ?_
  exact l_X7_endRule R O hk h46 hrc (v.2.2.1 + 1) 0 _ (by omega) (by omega) rfl
set_option maxRecDepth 100000 in
set_option maxHeartbeats 4000000 in
theorem l_X7_terms {G : xG} {h0 : xHp} {rc : Nat} {fc : Int32} {lf : Nat → Int32} {ra : Nat → Nat} {V : Nat → RV} {fr : Nat → Int32} {fn : Nat} {fs : Nat → Int32} {cl : Nat} {ts : Nat} {ty : Nat → Int32} {st : Nat → Int32} {wd : Nat → Int64} {flt plc : Int32} {tk : Nat → Tk} (O : tkO ts tk ty st wd) (hrc : rc < 20) : ∀ (m : Nat) {h : xHp} {q : PQ} {v : RV} {k : Nat} (j : Nat), j + m = 4 → RS h0 h rc fc lf ra V fr fn fs cl ts ty st wd q v k flt plc → k < ts → 2 ≤ (tk k).1 → Wx G mX7_readClause (xRm 5 0 0) (xF G (fun o h' => (∃ e p, pTerms tk m q v k j = .inl (e, p) ∧ o = .inl (some (.int 0)) ∧ ∃ q' v' k', extQ q q' ∧ RZ h0 h' rc fc lf ra (apF V rc v') fr fn fs cl ts ty st wd (q') (k') (nI e) p) ∨ (∃ x q' v' k', pTerms tk m q v k j = .inr (some x, q', v', k') ∧ o = .inl (some (.int 1)) ∧ extQ q q' ∧ k' < ts ∧ RZ h0 h' rc fc lf ra (apF V rc v') fr (fn + 1) (upd fs fn x) cl ts ty st wd (q') (k') flt plc) ∨ (∃ q' v' k', pTerms tk m q v k j = .inr (none, q', v', k') ∧ o = .inl (some (.int 1)) ∧ extQ q q' ∧ k' < ts ∧ rc < 20 ∧ RZ h0 h' (rc + 1) fc lf ra (apF V rc v') fr fn fs cl ts ty st wd (q') (k') flt plc)) 0 0) 0 0 87 [(0, .ref 181), (1, .ref (ra rc)), (2, .int (nI j))] [] h := by
  have hts := O.1.2
  intro m
  induction m with
  | zero =>
    intro h q v k j hj R hk hge
    obtain ⟨ρ9, hρ9, hra9⟩ := R.a
    refine x_iload_n dX7_readClause_87 rfl ?_
    refine x_iconst (v := 4) dX7_readClause_88 (by decide) ?_
    refine x_icmp_ge 165 dX7_readClause_89 (by decide) (fun c_89 => ?_) (fun c_89 => absurd (by rw [show (4 : Int32) = nI 4 from rfl, nI_leI (by omega) (by omega)]; omega) c_89)
    refine x_aload_n dX7_readClause_165 rfl ?_
    refine x_dup dX7_readClause_166 rfl ?_
    refine x_get lf_X7_48 dX7_readClause_167 R.r rfl ?_
    refine x_iconst (v := 1) dX7_readClause_170 (by decide) ?_
    refine x_iadd dX7_readClause_171 ?_
    refine x_top (y := nI (k + 1)) (nI_add k 1) ?_
    refine x_put [.ref 3, .ref 182, .int (nI (k + 1)), .ref 186, .int (nI fn), .int (nI cl), .int flt, .int plc] lf_X7_48 dX7_readClause_172 R.r (Nat.le_of_ble_eq_true rfl) rfl rfl rfl ?_
    have hk1 := tkO_next O hk hge
    have S1 := R.rd (k + 1) flt plc
    generalize xup h 181 (.inr (7, [.ref 3, .ref 182, .int (nI (k + 1)), .ref 186, .int (nI fn), .int (nI cl), .int flt, .int plc])) = g1 at S1 ⊢
    refine x_aload_n dX7_readClause_175 rfl ?_
    refine x_callV (As := []) (st := []) lv_X7_63 (k_X7_type S1 O hk1) dX7_readClause_176 S1.r rfl rfl (Nat.le_of_ble_eq_true rfl) ⟨by decide, by decide⟩ ⟨by decide, by decide⟩ (fun v9 h9 z => ?_) (fun _ _ _ _ _ z => by cases z.1)
    obtain ⟨ev, eh⟩ := z
    rw [eh]
    cases ev
    have tb176 := (O.2.2.2.2 (k + 1) hk1).1
    refine x_iconst (v := 2) dX7_readClause_179 (by decide) ?_
    refine x_icmp_eq 191 dX7_readClause_180 (by decide) (fun c_180 => ?_) (fun c_180 => ?_)
    · rw [show (2 : Int32) = nI 2 from rfl, nI_eq (by omega) (by omega)] at c_180
      refine x_iconst (v := 1) dX7_readClause_191 (by decide) ?_
      refine x_goto 196 dX7_readClause_192 (by decide) ?_
      refine x_istore_n [(0, .ref 181), (1, .ref (ra rc)), (2, .int 1)] dX7_readClause_196 (by decide) rfl rfl ?_
      refine x_aload_n dX7_readClause_197 rfl ?_
      refine x_iload_n dX7_readClause_198 rfl ?_
      refine x_if_eq 206 dX7_readClause_199 (by decide) (fun c => absurd c (by decide)) (fun _ => ?_)
      refine x_iconst (v := 4) dX7_readClause_202 (by decide) ?_
      refine x_goto 207 dX7_readClause_203 (by decide) ?_
      refine x_aload_n dX7_readClause_207 rfl ?_
      refine x_callV (As := []) (st := [.int 4, .ref 181]) lv_X7_122 (k_X7_start S1 O hk1) dX7_readClause_208 S1.r rfl rfl (Nat.le_of_ble_eq_true rfl) ⟨by decide, by decide⟩ ⟨by decide, by decide⟩ (fun v9 h9 z => ?_) (fun _ _ _ _ _ z => by cases z.1)
      obtain ⟨ev, eh⟩ := z
      rw [eh]
      cases ev
      refine x_callV (As := [.int 4, .int (nI ((tk (k + 1)).2.1))]) (st := []) lv_X7_104 (k_X7_fail S1) dX7_readClause_211 S1.r rfl rfl (Nat.le_of_ble_eq_true rfl) ⟨by decide, by decide⟩ ⟨by decide, by decide⟩ (fun v9 hF z => ?_) (fun _ _ _ _ _ z => by cases z.1)
      obtain ⟨ev, RF⟩ := z
      cases ev
      exact x_iret dX7_readClause_214 rfl rfl (Nat.le_refl _) (Nat.le_refl _) (Or.inl ⟨4, _, (by unfold pTerms; first | rw [if_pos (by first | exact Or.inl c_180 | exact Or.inr c_188)] | rw [if_neg (fun z => z.elim c_180 c_188)]), rfl, _, _, _, (extQ_rf q), RF.z0⟩)
    · rw [show (2 : Int32) = nI 2 from rfl, nI_eq (by omega) (by omega)] at c_180
      refine x_aload_n dX7_readClause_183 rfl ?_
      refine x_callV (As := []) (st := []) lv_X7_63 (k_X7_type S1 O hk1) dX7_readClause_184 S1.r rfl rfl (Nat.le_of_ble_eq_true rfl) ⟨by decide, by decide⟩ ⟨by decide, by decide⟩ (fun v9 h9 z => ?_) (fun _ _ _ _ _ z => by cases z.1)
      obtain ⟨ev, eh⟩ := z
      rw [eh]
      cases ev
      have tb184 := (O.2.2.2.2 (k + 1) hk1).1
      refine x_iconst (v := 3) dX7_readClause_187 (by decide) ?_
      refine x_icmp_ne 195 dX7_readClause_188 (by decide) (fun c_188 => ?_) (fun c_188 => ?_)
      · rw [show (3 : Int32) = nI 3 from rfl, nI_eq (by omega) (by omega)] at c_188
        refine x_iconst (v := 0) dX7_readClause_195 (by decide) ?_
        refine x_istore_n [(0, .ref 181), (1, .ref (ra rc)), (2, .int 0)] dX7_readClause_196 (by decide) rfl rfl ?_
        refine x_aload_n dX7_readClause_197 rfl ?_
        refine x_iload_n dX7_readClause_198 rfl ?_
        refine x_if_eq 206 dX7_readClause_199 (by decide) (fun _ => ?_) (fun c => absurd c (by decide))
        refine x_iconst (v := 1) dX7_readClause_206 (by decide) ?_
        refine x_aload_n dX7_readClause_207 rfl ?_
        refine x_callV (As := []) (st := [.int 1, .ref 181]) lv_X7_122 (k_X7_start S1 O hk1) dX7_readClause_208 S1.r rfl rfl (Nat.le_of_ble_eq_true rfl) ⟨by decide, by decide⟩ ⟨by decide, by decide⟩ (fun v9 h9 z => ?_) (fun _ _ _ _ _ z => by cases z.1)
        obtain ⟨ev, eh⟩ := z
        rw [eh]
        cases ev
        refine x_callV (As := [.int 1, .int (nI ((tk (k + 1)).2.1))]) (st := []) lv_X7_104 (k_X7_fail S1) dX7_readClause_211 S1.r rfl rfl (Nat.le_of_ble_eq_true rfl) ⟨by decide, by decide⟩ ⟨by decide, by decide⟩ (fun v9 hF z => ?_) (fun _ _ _ _ _ z => by cases z.1)
        obtain ⟨ev, RF⟩ := z
        cases ev
        exact x_iret dX7_readClause_214 rfl rfl (Nat.le_refl _) (Nat.le_refl _) (Or.inl ⟨1, _, (by unfold pTerms; first | rw [if_pos (by first | exact Or.inl c_180 | exact Or.inr c_188)] | rw [if_neg (fun z => z.elim c_180 c_188)]), rfl, _, _, _, (extQ_rf q), RF.z0⟩)
      · rw [show (3 : Int32) = nI 3 from rfl, nI_eq (by omega) (by omega)] at c_188
        refine x_iconst (v := 1) dX7_readClause_191 (by decide) ?_
        refine x_goto 196 dX7_readClause_192 (by decide) ?_
        refine x_istore_n [(0, .ref 181), (1, .ref (ra rc)), (2, .int 1)] dX7_readClause_196 (by decide) rfl rfl ?_
        refine x_aload_n dX7_readClause_197 rfl ?_
        refine x_iload_n dX7_readClause_198 rfl ?_
        refine x_if_eq 206 dX7_readClause_199 (by decide) (fun c => absurd c (by decide)) (fun _ => ?_)
        refine x_iconst (v := 4) dX7_readClause_202 (by decide) ?_
        refine x_goto 207 dX7_readClause_203 (by decide) ?_
        refine x_aload_n dX7_readClause_207 rfl ?_
        refine x_callV (As := []) (st := [.int 4, .ref 181]) lv_X7_122 (k_X7_start S1 O hk1) dX7_readClause_208 S1.r rfl rfl (Nat.le_of_ble_eq_true rfl) ⟨by decide, by decide⟩ ⟨by decide, by decide⟩ (fun v9 h9 z => ?_) (fun _ _ _ _ _ z => by cases z.1)
        obtain ⟨ev, eh⟩ := z
        rw [eh]
        cases ev
        refine x_callV (As := [.int 4, .int (nI ((tk (k + 1)).2.1))]) (st := []) lv_X7_104 (k_X7_fail S1) dX7_readClause_211 S1.r rfl rfl (Nat.le_of_ble_eq_true rfl) ⟨by decide, by decide⟩ ⟨by decide, by decide⟩ (fun v9 hF z => ?_) (fun _ _ _ _ _ z => by cases z.1)
        obtain ⟨ev, RF⟩ := z
        cases ev
        exact x_iret dX7_readClause_214 rfl rfl (Nat.le_refl _) (Nat.le_refl _) (Or.inl ⟨4, _, (by unfold pTerms; first | rw [if_pos (by first | exact Or.inl c_180 | exact Or.inr c_188)] | rw [if_neg (fun z => z.elim c_180 c_188)]), rfl, _, _, _, (extQ_rf q), RF.z0⟩)
  | succ m ih =>
    intro h q v k j hj R hk hge
    obtain ⟨ρ9, hρ9, hra9⟩ := R.a
    refine x_iload_n dX7_readClause_87 rfl ?_
    refine x_iconst (v := 4) dX7_readClause_88 (by decide) ?_
    refine x_icmp_ge 165 dX7_readClause_89 (by decide) (fun c_89 => absurd c_89 (by rw [show (4 : Int32) = nI 4 from rfl, nI_leI (by omega) (by omega)]; omega)) (fun c_89 => ?_)
    have hj4 : j < 4 := by omega
    refine x_aload_n dX7_readClause_92 rfl ?_
    refine x_dup dX7_readClause_93 rfl ?_
    refine x_get lf_X7_48 dX7_readClause_94 R.r rfl ?_
    refine x_iconst (v := 1) dX7_readClause_97 (by decide) ?_
    refine x_iadd dX7_readClause_98 ?_
    refine x_top (y := nI (k + 1)) (nI_add k 1) ?_
    refine x_put [.ref 3, .ref 182, .int (nI (k + 1)), .ref 186, .int (nI fn), .int (nI cl), .int flt, .int plc] lf_X7_48 dX7_readClause_99 R.r (Nat.le_of_ble_eq_true rfl) rfl rfl rfl ?_
    have hk1 := tkO_next O hk hge
    have S1 := R.rd (k + 1) flt plc
    generalize xup h 181 (.inr (7, [.ref 3, .ref 182, .int (nI (k + 1)), .ref 186, .int (nI fn), .int (nI cl), .int flt, .int plc])) = g1 at S1 ⊢
    refine x_aload_n dX7_readClause_102 rfl ?_
    refine x_iload_n dX7_readClause_103 rfl ?_
    refine x_iconst (v := 1) dX7_readClause_104 (by decide) ?_
    refine x_iadd dX7_readClause_105 ?_
    refine x_top (y := nI (j + 1)) (nI_add j 1) ?_
    refine x_put [.ref (ra rc + 1), .ref (ra rc + 2), .int (nI (j + 1)), .ref (ra rc + 3), .int (nI v.2.2.2.2)] lf_X7_125 dX7_readClause_106 S1.l.1 (Nat.le_of_ble_eq_true rfl) rfl rfl rfl ?_
    have S2 := S1.sz (n := j + 1) (by omega)
    refine x_heap (h' := xup g1 (ra rc) (rC (ra rc) (j + 1) v.2.2.2.2)) rfl ?_
    generalize xup g1 (ra rc) (rC (ra rc) (j + 1) v.2.2.2.2) = g2 at S2 ⊢
    refine x_aload_n dX7_readClause_109 rfl ?_
    refine x_aload_n dX7_readClause_110 rfl ?_
    refine x_aload_n dX7_readClause_111 rfl ?_
    refine x_get lf_X7_126 dX7_readClause_112 S2.l.1 rfl ?_
    refine x_iload_n dX7_readClause_115 rfl ?_
    refine x_aaldN (b := tAd (ra rc) (j + 1)) (j := j) S2.l.2.2.1 rfl rfl hj4 (by decide) (rTs_at hj4) dX7_readClause_116 ?_
    refine x_callV (As := [.ref (ra rc), .ref (tAd (ra rc) (j + 1))]) (st := []) lv_X7_130 (k_X7_readTerm S2 O hk1 (i := j + 1) (by omega)) dX7_readClause_117 S2.r rfl rfl (Nat.le_of_ble_eq_true rfl) ⟨by decide, by decide⟩ ⟨by decide, by decide⟩ (fun v9 g3 z => ?_) (fun _ _ _ _ _ z => by rcases z with ⟨_, _, _, z, _⟩ | ⟨_, _, _, _, z, _⟩ <;> cases z)
    rcases z with ⟨e3, p3, y3, ev, q3, v3, k3, x3, S3⟩ | ⟨q3, v3, k3, y3, ev, x3, hq3, S3⟩ <;> cases ev
    · refine x_if_ne 125 dX7_readClause_120 (by decide) (fun c => absurd c (by decide)) (fun _ => ?_)
      refine x_iconst (v := 0) dX7_readClause_123 (by decide) ?_
      exact x_iret dX7_readClause_124 rfl rfl (Nat.le_refl _) (Nat.le_refl _) (Or.inl ⟨e3, nI p3, (by unfold pTerms; rw [y3]), rfl, q3, v3, k3, (extQ_rf q).tr x3, S3.z0⟩)
    · refine x_if_ne 125 dX7_readClause_120 (by decide) (fun _ => ?_) (fun c => absurd c (by decide))
      refine x_aload_n dX7_readClause_125 rfl ?_
      refine x_callV (As := []) (st := []) lv_X7_63 (k_X7_type S3 O hq3) dX7_readClause_126 S3.r rfl rfl (Nat.le_of_ble_eq_true rfl) ⟨by decide, by decide⟩ ⟨by decide, by decide⟩ (fun v9 h9 z => ?_) (fun _ _ _ _ _ z => by cases z.1)
      obtain ⟨ev, eh⟩ := z
      rw [eh]
      cases ev
      have tb126 := (O.2.2.2.2 (k3) hq3).1
      refine x_bipush (v := 46) dX7_readClause_129 (by decide) ?_
      refine x_icmp_ne 140 dX7_readClause_131 (by decide) (fun c_131 => ?_) (fun c_131 => ?_)
      · rw [show (46 : Int32) = nI 46 from rfl, nI_eq (by omega) (by omega)] at c_131
        refine x_aload_n dX7_readClause_140 rfl ?_
        refine x_callV (As := []) (st := []) lv_X7_63 (k_X7_type S3 O hq3) dX7_readClause_141 S3.r rfl rfl (Nat.le_of_ble_eq_true rfl) ⟨by decide, by decide⟩ ⟨by decide, by decide⟩ (fun v9 h9 z => ?_) (fun _ _ _ _ _ z => by cases z.1)
        obtain ⟨ev, eh⟩ := z
        rw [eh]
        cases ev
        have tb141 := (O.2.2.2.2 (k3) hq3).1
        refine x_bipush (v := 44) dX7_readClause_144 (by decide) ?_
        refine x_icmp_eq 159 dX7_readClause_146 (by decide) (fun c_146 => ?_) (fun c_146 => ?_)
        · rw [show (44 : Int32) = nI 44 from rfl, nI_eq (by omega) (by omega)] at c_146
          refine x_iinc (v := nI (j + 1)) [(0, .ref 181), (1, .ref (ra rc)), (2, .int (nI (j + 1)))] dX7_readClause_159 rfl (nI_add j 1) (by decide) rfl rfl ?_
          refine x_goto 87 dX7_readClause_162 (by decide) ?_
          refine x_post (ih (j + 1) (by omega) S3 hq3 (by omega)) (fun o h' z => ?_)
          have e9 : pTerms tk (m + 1) q v k j = pTerms tk m q3 v3 k3 (j + 1) := by simp only [pTerms, y3]; rw [if_neg c_131, if_pos c_146]
          rw [e9]
          rcases z with ⟨e9, p9, y9, ev, q9, v9, k9, x9, S9⟩ | ⟨z9, q9, v9, k9, y9, ev, x9, hq9, S9⟩ | ⟨q9, v9, k9, y9, ev, x9, hq9, hr9, S9⟩
          · exact Or.inl ⟨e9, p9, y9, ev, q9, v9, k9, x3.tr x9, S9⟩
          · exact Or.inr (Or.inl ⟨z9, q9, v9, k9, y9, ev, x3.tr x9, hq9, S9⟩)
          · exact Or.inr (Or.inr ⟨q9, v9, k9, y9, ev, x3.tr x9, hq9, hr9, S9⟩)
        · rw [show (44 : Int32) = nI 44 from rfl, nI_eq (by omega) (by omega)] at c_146
          refine x_aload_n dX7_readClause_149 rfl ?_
          refine x_iconst (v := 1) dX7_readClause_150 (by decide) ?_
          refine x_aload_n dX7_readClause_151 rfl ?_
          refine x_callV (As := []) (st := [.int 1, .ref 181]) lv_X7_122 (k_X7_start S3 O hq3) dX7_readClause_152 S3.r rfl rfl (Nat.le_of_ble_eq_true rfl) ⟨by decide, by decide⟩ ⟨by decide, by decide⟩ (fun v9 h9 z => ?_) (fun _ _ _ _ _ z => by cases z.1)
          obtain ⟨ev, eh⟩ := z
          rw [eh]
          cases ev
          refine x_callV (As := [.int 1, .int (nI ((tk k3).2.1))]) (st := []) lv_X7_104 (k_X7_fail S3) dX7_readClause_155 S3.r rfl rfl (Nat.le_of_ble_eq_true rfl) ⟨by decide, by decide⟩ ⟨by decide, by decide⟩ (fun v9 hF z => ?_) (fun _ _ _ _ _ z => by cases z.1)
          obtain ⟨ev, RF⟩ := z
          cases ev
          exact x_iret dX7_readClause_158 rfl rfl (Nat.le_refl _) (Nat.le_refl _) (Or.inl ⟨1, _, (by unfold pTerms; rw [y3]; simp only []; rw [if_neg c_131, if_neg c_146]), rfl, _, _, _, ((extQ_rf q).tr x3), RF.z0⟩)
      · rw [show (46 : Int32) = nI 46 from rfl, nI_eq (by omega) (by omega)] at c_131
        refine x_aload_n dX7_readClause_134 rfl ?_
        refine x_aload_n dX7_readClause_135 rfl ?_
        refine x_callV (As := [.ref (ra rc)]) (st := []) lv_X7_133 (k_X7_endRule S3 O hq3 c_131 hrc) dX7_readClause_136 S3.r rfl rfl (Nat.le_of_ble_eq_true rfl) ⟨by decide, by decide⟩ ⟨by decide, by decide⟩ (fun v9 g9 z => ?_) (fun _ _ _ _ _ z => by rcases z with ⟨_, _, _, z, _⟩ | ⟨_, _, _, _, _, z, _⟩ | ⟨_, _, _, _, z, _⟩ <;> cases z)
        rcases z with ⟨e9, p9, y9, ev, q9, v9, k9, x9, S9⟩ | ⟨z9, q9, v9, k9, y9, ev, x9, hq9, S9⟩ | ⟨q9, v9, k9, y9, ev, x9, hq9, hr9, S9⟩ <;> cases ev
        · exact x_iret dX7_readClause_139 rfl rfl (Nat.le_refl _) (Nat.le_refl _) (Or.inl ⟨e9, p9, (by unfold pTerms; rw [y3]; simp only []; rw [if_pos c_131]; exact y9), rfl, q9, v9, k9, ((extQ_rf q).tr x3).tr x9, S9⟩)
        · exact x_iret dX7_readClause_139 rfl rfl (Nat.le_refl _) (Nat.le_refl _) (Or.inr (Or.inl ⟨z9, q9, v9, k9, (by unfold pTerms; rw [y3]; simp only []; rw [if_pos c_131]; exact y9), rfl, ((extQ_rf q).tr x3).tr x9, hq9, S9⟩))
        · exact x_iret dX7_readClause_139 rfl rfl (Nat.le_refl _) (Nat.le_refl _) (Or.inr (Or.inr ⟨q9, v9, k9, (by unfold pTerms; rw [y3]; simp only []; rw [if_pos c_131]; exact y9), rfl, ((extQ_rf q).tr x3).tr x9, hq9, hr9, S9⟩))
set_option maxRecDepth 100000 in
set_option maxHeartbeats 4000000 in
theorem k_X7_readClause {G : xG} {h0 h : xHp} {rc : Nat} {fc : Int32} {lf : Nat → Int32} {ra : Nat → Nat} {V : Nat → RV} {fr : Nat → Int32} {fn : Nat} {fs : Nat → Int32} {cl : Nat} {ts : Nat} {ty : Nat → Int32} {st : Nat → Int32} {wd : Nat → Int64} {q : PQ} {k : Nat} {flt plc : Int32} (Z : RZ h0 h rc fc lf ra V fr fn fs cl ts ty st wd q k flt plc) {tk : Nat → Tk} (O : tkO ts tk ty st wd) (hk : k < ts) (hfn : fn < 200) : MX G mX7_readClause 5 0 0 [.ref 181, .ref (ra rc)] h (fun o h' => (∃ e p, pClause tk rc q (V rc) k = .inl (e, p) ∧ o = .inl (some (.int 0)) ∧ ∃ q' v' k', extQ q q' ∧ RZ h0 h' rc fc lf ra (apF V rc v') fr fn fs cl ts ty st wd (q') (k') (nI e) p) ∨ (∃ x q' v' k', pClause tk rc q (V rc) k = .inr (some x, q', v', k') ∧ o = .inl (some (.int 1)) ∧ extQ q q' ∧ k' < ts ∧ RZ h0 h' rc fc lf ra (apF V rc v') fr (fn + 1) (upd fs fn x) cl ts ty st wd (q') (k') flt plc) ∨ (∃ q' v' k', pClause tk rc q (V rc) k = .inr (none, q', v', k') ∧ o = .inl (some (.int 1)) ∧ extQ q q' ∧ k' < ts ∧ rc < 20 ∧ RZ h0 h' (rc + 1) fc lf ra (apF V rc v') fr fn fs cl ts ty st wd (q') (k') flt plc)) := by
  have hts := O.1.2
  have hrc9 := Z.2.2.2.2.2.2.2
  refine MX.of [(0, .ref 181), (1, .ref (ra rc))] (by decide) rfl (Nat.le_of_ble_eq_true rfl) rfl ?_
  refine x_aload_n dX7_readClause_0 rfl ?_
  refine x_callV (As := []) (st := []) lv_X7_108 (k_X8_clear Z.l.1) dX7_readClause_1 Z.l.1 rfl rfl (Nat.le_of_ble_eq_true rfl) ⟨by decide, by decide⟩ ⟨by decide, by decide⟩ (fun v9 g1 z => ?_) (fun _ _ _ _ _ z => by cases z.1)
  obtain ⟨ev, eh⟩ := z
  cases ev
  have S1 := Z.clr
  rw [← eh] at S1
  refine x_aload_n dX7_readClause_4 rfl ?_
  refine x_get lf_X7_93 dX7_readClause_5 S1.l.1 rfl ?_
  refine x_iconst (v := 0) dX7_readClause_8 (by decide) ?_
  refine x_callV (As := [.int 0]) (st := []) lv_X7_111 (k_X9_clear (S1.tm (i := 0) (by omega))) dX7_readClause_9 (S1.tm (i := 0) (by omega)) rfl rfl (Nat.le_of_ble_eq_true rfl) ⟨by decide, by decide⟩ ⟨by decide, by decide⟩ (fun v9 g2 z => ?_) (fun _ _ _ _ _ z => by cases z.1)
  obtain ⟨ev, eh⟩ := z
  cases ev
  have S2 : RS h0 g2 rc fc lf ra V fr fn fs cl ts ty st wd q (clV (rv0 (V rc)) 0 0) k flt plc := by rw [eh]; exact S1.term (i := 0) (by omega) _
  refine x_aload_n dX7_readClause_12 rfl ?_
  refine x_aload_n dX7_readClause_13 rfl ?_
  refine x_aload_n dX7_readClause_14 rfl ?_
  refine x_get lf_X7_93 dX7_readClause_15 S2.l.1 rfl ?_
  refine x_callV (As := [.ref (ra rc), .ref (ra rc + 1)]) (st := []) lv_X7_114 (k_X7_readAtom S2 O hk (i := 0) (by omega)) dX7_readClause_18 S2.r rfl rfl (Nat.le_of_ble_eq_true rfl) ⟨by decide, by decide⟩ ⟨by decide, by decide⟩ (fun v9 g3 z => ?_) (fun _ _ _ _ _ z => by rcases z with ⟨_, _, _, z, _⟩ | ⟨_, _, _, _, z, _⟩ <;> cases z)
  rcases z with ⟨e3, p3, y3, ev, q3, v3, k3, x3, S3⟩ | ⟨q3, v3, k3, y3, ev, x3, hq3, S3⟩ <;> cases ev
  · refine x_if_ne 26 dX7_readClause_21 (by decide) (fun c => absurd c (by decide)) (fun _ => ?_)
    refine x_iconst (v := 0) dX7_readClause_24 (by decide) ?_
    exact x_iret dX7_readClause_25 rfl rfl (Nat.le_refl _) (Nat.le_refl _) (Or.inl ⟨e3, nI p3, (by unfold pClause; rw [y3]), rfl, q3, v3, k3, (extQ_rf q).tr x3, S3.z0⟩)
  · refine x_if_ne 26 dX7_readClause_21 (by decide) (fun _ => ?_) (fun c => absurd c (by decide))
    refine x_aload_n dX7_readClause_26 rfl ?_
    refine x_callV (As := []) (st := []) lv_X7_63 (k_X7_type S3 O hq3) dX7_readClause_27 S3.r rfl rfl (Nat.le_of_ble_eq_true rfl) ⟨by decide, by decide⟩ ⟨by decide, by decide⟩ (fun v9 h9 z => ?_) (fun _ _ _ _ _ z => by cases z.1)
    obtain ⟨ev, eh⟩ := z
    rw [eh]
    cases ev
    have tb27 := (O.2.2.2.2 (k3) hq3).1
    refine x_bipush (v := 46) dX7_readClause_30 (by decide) ?_
    refine x_icmp_ne 44 dX7_readClause_32 (by decide) (fun c_32 => ?_) (fun c_32 => ?_)
    · rw [show (46 : Int32) = nI 46 from rfl, nI_eq (by omega) (by omega)] at c_32
      refine x_aload_n dX7_readClause_44 rfl ?_
      refine x_callV (As := []) (st := []) lv_X7_63 (k_X7_type S3 O hq3) dX7_readClause_45 S3.r rfl rfl (Nat.le_of_ble_eq_true rfl) ⟨by decide, by decide⟩ ⟨by decide, by decide⟩ (fun v9 h9 z => ?_) (fun _ _ _ _ _ z => by cases z.1)
      obtain ⟨ev, eh⟩ := z
      rw [eh]
      cases ev
      have tb45 := (O.2.2.2.2 (k3) hq3).1
      refine x_bipush (v := 58) dX7_readClause_48 (by decide) ?_
      refine x_icmp_eq 63 dX7_readClause_50 (by decide) (fun c_50 => ?_) (fun c_50 => ?_)
      · rw [show (58 : Int32) = nI 58 from rfl, nI_eq (by omega) (by omega)] at c_50
        refine x_aload_n dX7_readClause_63 rfl ?_
        refine x_get lf_X7_22 dX7_readClause_64 S3.r rfl ?_
        refine x_get lf_X7_41 dX7_readClause_67 S3.b.1 rfl ?_
        refine x_bipush (v := 20) dX7_readClause_70 (by decide) ?_
        refine x_icmp_lt 85 dX7_readClause_72 (by decide) (fun c_72 => ?_) (fun c_72 => ?_)
        · rw [show (20 : Int32) = nI 20 from rfl, nI_ltI (by omega) (by omega)] at c_72
          refine x_iconst (v := 0) dX7_readClause_85 (by decide) ?_
          refine x_istore_n [(0, .ref 181), (1, .ref (ra rc)), (2, .int 0)] dX7_readClause_86 (by decide) rfl rfl ?_
          refine x_post (l_X7_terms O c_72 4 0 rfl S3 hq3 (by omega)) (fun o h' z => ?_)
          have e9 : pClause tk rc q (V rc) k = pTerms tk 4 q3 v3 k3 0 := by unfold pClause; rw [y3]; simp only []; rw [if_neg c_32, if_pos c_50, if_pos c_72]
          rw [e9]
          rcases z with ⟨e9, p9, y9, ev, q9, v9, k9, x9, S9⟩ | ⟨z9, q9, v9, k9, y9, ev, x9, hq9, S9⟩ | ⟨q9, v9, k9, y9, ev, x9, hq9, hr9, S9⟩
          · exact Or.inl ⟨e9, p9, y9, ev, q9, v9, k9, x3.tr x9, S9⟩
          · exact Or.inr (Or.inl ⟨z9, q9, v9, k9, y9, ev, x3.tr x9, hq9, S9⟩)
          · exact Or.inr (Or.inr ⟨q9, v9, k9, y9, ev, x3.tr x9, hq9, hr9, S9⟩)
        · rw [show (20 : Int32) = nI 20 from rfl, nI_ltI (by omega) (by omega)] at c_72
          refine x_aload_n dX7_readClause_75 rfl ?_
          refine x_iconst (v := 4) dX7_readClause_76 (by decide) ?_
          refine x_aload_n dX7_readClause_77 rfl ?_
          refine x_callV (As := []) (st := [.int 4, .ref 181]) lv_X7_122 (k_X7_start S3 O hq3) dX7_readClause_78 S3.r rfl rfl (Nat.le_of_ble_eq_true rfl) ⟨by decide, by decide⟩ ⟨by decide, by decide⟩ (fun v9 h9 z => ?_) (fun _ _ _ _ _ z => by cases z.1)
          obtain ⟨ev, eh⟩ := z
          rw [eh]
          cases ev
          refine x_callV (As := [.int 4, .int (nI ((tk k3).2.1))]) (st := []) lv_X7_104 (k_X7_fail S3) dX7_readClause_81 S3.r rfl rfl (Nat.le_of_ble_eq_true rfl) ⟨by decide, by decide⟩ ⟨by decide, by decide⟩ (fun v9 hF z => ?_) (fun _ _ _ _ _ z => by cases z.1)
          obtain ⟨ev, RF⟩ := z
          cases ev
          exact x_iret dX7_readClause_84 rfl rfl (Nat.le_refl _) (Nat.le_refl _) (Or.inl ⟨4, _, (by unfold pClause; rw [y3]; simp only []; first | rw [if_neg c_32, if_neg c_50] | rw [if_neg c_32, if_pos c_50, if_neg c_72]), rfl, _, _, _, ((extQ_rf q).tr x3), RF.z0⟩)
      · rw [show (58 : Int32) = nI 58 from rfl, nI_eq (by omega) (by omega)] at c_50
        refine x_aload_n dX7_readClause_53 rfl ?_
        refine x_iconst (v := 1) dX7_readClause_54 (by decide) ?_
        refine x_aload_n dX7_readClause_55 rfl ?_
        refine x_callV (As := []) (st := [.int 1, .ref 181]) lv_X7_122 (k_X7_start S3 O hq3) dX7_readClause_56 S3.r rfl rfl (Nat.le_of_ble_eq_true rfl) ⟨by decide, by decide⟩ ⟨by decide, by decide⟩ (fun v9 h9 z => ?_) (fun _ _ _ _ _ z => by cases z.1)
        obtain ⟨ev, eh⟩ := z
        rw [eh]
        cases ev
        refine x_callV (As := [.int 1, .int (nI ((tk k3).2.1))]) (st := []) lv_X7_104 (k_X7_fail S3) dX7_readClause_59 S3.r rfl rfl (Nat.le_of_ble_eq_true rfl) ⟨by decide, by decide⟩ ⟨by decide, by decide⟩ (fun v9 hF z => ?_) (fun _ _ _ _ _ z => by cases z.1)
        obtain ⟨ev, RF⟩ := z
        cases ev
        exact x_iret dX7_readClause_62 rfl rfl (Nat.le_refl _) (Nat.le_refl _) (Or.inl ⟨1, _, (by unfold pClause; rw [y3]; simp only []; first | rw [if_neg c_32, if_neg c_50] | rw [if_neg c_32, if_pos c_50, if_neg c_72]), rfl, _, _, _, ((extQ_rf q).tr x3), RF.z0⟩)
    · rw [show (46 : Int32) = nI 46 from rfl, nI_eq (by omega) (by omega)] at c_32
      refine x_aload_n dX7_readClause_35 rfl ?_
      refine x_aload_n dX7_readClause_36 rfl ?_
      refine x_get lf_X7_93 dX7_readClause_37 S3.l.1 rfl ?_
      refine x_callV (As := [.ref (ra rc + 1)]) (st := []) lv_X7_118 (k_X7_endFact S3 O hq3 c_32 hfn) dX7_readClause_40 S3.r rfl rfl (Nat.le_of_ble_eq_true rfl) ⟨by decide, by decide⟩ ⟨by decide, by decide⟩ (fun v9 g9 z => ?_) (fun _ _ _ _ _ z => by rcases z with ⟨_, _, _, z, _⟩ | ⟨_, _, _, _, _, z, _⟩ | ⟨_, _, _, _, z, _⟩ <;> cases z)
      rcases z with ⟨e9, p9, y9, ev, q9, v9, k9, x9, S9⟩ | ⟨z9, q9, v9, k9, y9, ev, x9, hq9, S9⟩ | ⟨q9, v9, k9, y9, ev, x9, hq9, hr9, S9⟩ <;> cases ev
      · exact x_iret dX7_readClause_43 rfl rfl (Nat.le_refl _) (Nat.le_refl _) (Or.inl ⟨e9, p9, (by unfold pClause; rw [y3]; simp only []; rw [if_pos c_32]; exact y9), rfl, q9, v9, k9, ((extQ_rf q).tr x3).tr x9, S9⟩)
      · exact x_iret dX7_readClause_43 rfl rfl (Nat.le_refl _) (Nat.le_refl _) (Or.inr (Or.inl ⟨z9, q9, v9, k9, (by unfold pClause; rw [y3]; simp only []; rw [if_pos c_32]; exact y9), rfl, ((extQ_rf q).tr x3).tr x9, hq9, S9⟩))
      · exact x_iret dX7_readClause_43 rfl rfl (Nat.le_refl _) (Nat.le_refl _) (Or.inr (Or.inr ⟨q9, v9, k9, (by unfold pClause; rw [y3]; simp only []; rw [if_pos c_32]; exact y9), rfl, ((extQ_rf q).tr x3).tr x9, hq9, hr9, S9⟩))
