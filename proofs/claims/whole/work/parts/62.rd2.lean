/-! RuleCourt$Reader: an ARG -/
def tmI (v : RV) (i : Nat) : Nat → Int32 := match i with
  | 0 => v.1
  | j + 1 => v.2.1 j
def stT (v : RV) (i : Nat) (f : Nat → Int32) : RV := match i with
  | 0 => (f, v.2)
  | j + 1 => (v.1, fun m => if m = j then f else v.2.1 m, v.2.2)
def tAd (a i : Nat) : Nat := match i with
  | 0 => a + 1
  | j + 1 => a + 4 + j
theorem stT_sz (v : RV) (i : Nat) (f : Nat → Int32) : (stT v i f).2.2 = v.2.2 := by cases i <;> rfl
theorem tAd_in {a i : Nat} (h : i ≤ 4) : a < tAd a i ∧ tAd a i < a + 8 ∧ tAd a i ≠ a + 2 ∧ tAd a i ≠ a + 3 := by
  cases i with
  | zero => show a < a + 1 ∧ a + 1 < a + 8 ∧ a + 1 ≠ a + 2 ∧ a + 1 ≠ a + 3; omega
  | succ j => show a < a + 4 + j ∧ a + 4 + j < a + 8 ∧ a + 4 + j ≠ a + 2 ∧ a + 4 + j ≠ a + 3; omega
theorem rl_tm {h : xHp} {a i : Nat} {v : RV} (hr : rlV h a v) (hi : i ≤ 4) : h.1 (tAd a i) = some (tC (tmI v i)) := by
  cases i with
  | zero => exact hr.2.1
  | succ j => exact hr.2.2.2.2 j (by omega)
theorem rl_set {h : xHp} {a i : Nat} {v : RV} {f : Nat → Int32} (hr : rlV h a v) (hi : i ≤ 4) : rlV (xup h (tAd a i) (tC f)) a (stT v i f) := by
  obtain ⟨z1, z2, z3, z4⟩ := tAd_in (a := a) hi
  obtain ⟨x1, x2, x3, x4, x5⟩ := hr
  cases i with
  | zero => exact ⟨(xup_ne (by omega)).trans x1, xup_self _ _ _, (xup_ne (by omega)).trans x3, (xup_ne (by omega)).trans x4, fun j hj => (xup_ne (show a + 4 + j ≠ a + 1 by omega)).trans (x5 j hj)⟩
  | succ n =>
    refine ⟨(xup_ne (by omega)).trans x1, (xup_ne (show a + 1 ≠ a + 4 + n by omega)).trans x2, (xup_ne (by omega)).trans x3, (xup_ne (by omega)).trans x4, fun j hj => ?_⟩
    show (xup h (a + 4 + n) (tC f)).1 (a + 4 + j) = some (tC (if j = n then f else v.2.1 j))
    by_cases e : j = n
    · rw [if_pos e, e]; exact xup_self _ _ _
    · rw [if_neg e]; exact (xup_ne (by omega)).trans (x5 j hj)
theorem RS.tm {h0 h : xHp} {rc : Nat} {fc : Int32} {lf : Nat → Int32} {ra : Nat → Nat} {V : Nat → RV} {fr : Nat → Int32} {fn : Nat} {fs : Nat → Int32} {cl : Nat} {ts : Nat} {ty : Nat → Int32} {st : Nat → Int32} {wd : Nat → Int64} {q : PQ} {v : RV} {k : Nat} {flt plc : Int32} (R : RS h0 h rc fc lf ra V fr fn fs cl ts ty st wd q v k flt plc) {i : Nat} (hi : i ≤ 4) : h.1 (tAd (ra rc) i) = some (tC (tmI v i)) := rl_tm R.l hi
theorem RS.term {h0 h : xHp} {rc : Nat} {fc : Int32} {lf : Nat → Int32} {ra : Nat → Nat} {V : Nat → RV} {fr : Nat → Int32} {fn : Nat} {fs : Nat → Int32} {cl : Nat} {ts : Nat} {ty : Nat → Int32} {st : Nat → Int32} {wd : Nat → Int64} {q : PQ} {v : RV} {k : Nat} {flt plc : Int32} (R : RS h0 h rc fc lf ra V fr fn fs cl ts ty st wd q v k flt plc) {i : Nat} (hi : i ≤ 4) (f : Nat → Int32) : RS h0 (xup h (tAd (ra rc) i) (tC f)) rc fc lf ra V fr fn fs cl ts ty st wd q (stT v i f) k flt plc := by
  obtain ⟨z1, z2, -⟩ := tAd_in (a := ra rc) hi
  exact R.slot rfl (fun a ha => xup_ne (by omega)) (rl_set R.l hi) (by rw [stT_sz]; exact ⟨R.z.2.2.2.1, R.z.2.2.2.2⟩)
def wLook (T : Nat → List Nat) (w : List Nat) (n : Nat) : Nat := fa_first (fun k => decide (T k = w)) n
def sLook (lt : Nat → Int32) (c : Int32) (n : Nat) : Nat := fa_first (fun k => decide (lt k = c)) n
theorem first_at {p : Nat → Bool} {n k : Nat} (h : p k = true) (h0 : ∀ j, j < k → p j = false) (hk : k < n) : fa_first p n = k := by
  rcases Nat.lt_trichotomy (fa_first p n) k with z | z | z
  · have h1 := fa_first_yes p n (by omega)
    rw [h0 _ z] at h1; cases h1
  · exact z
  · have h1 := fa_first_no p n k z
    rw [h] at h1; cases h1
theorem first_none {p : Nat → Bool} {n : Nat} (h0 : ∀ j, j < n → p j = false) : ¬ fa_first p n < n := fun z => by
  have h1 := fa_first_yes p n z
  rw [h0 _ z] at h1; cases h1
def addS (v : RV) (c : Int32) : RV := (v.1, v.2.1, v.2.2.1, upd v.2.2.2.1 v.2.2.2.2 c, v.2.2.2.2 + 1)
def cS (t : Tk) : Int32 := nI (t.2.2.headD 0)
/-- an ARG is read: a FAULT, or what is known then -/
def pArg (tk : Nat → Tk) (q : PQ) (v : RV) (k i : Nat) (b : Bool) : (Nat × Nat) ⊕ (PQ × RV) :=
  if (tk k).1 = 2 then
    if wLook q.2.1 (tk k).2.2 q.1 < q.1 then .inr (q, stT v i (tArg (tmI v i) b (nI (wLook q.2.1 (tk k).2.2 q.1)) (nI (tk k).2.1)))
    else if q.1 < 10 then .inr ((q.1 + 1, apF q.2.1 q.1 (tk k).2.2, q.2.2), stT v i (tArg (tmI v i) b (nI q.1) (nI (tk k).2.1)))
    else .inl (4, (tk k).2.1)
  else if (tk k).1 = 3 then
    if sLook v.2.2.2.1 (cS (tk k)) v.2.2.2.2 < v.2.2.2.2 then .inr (q, stT v i (tArg (tmI v i) b (nI (100 + sLook v.2.2.2.1 (cS (tk k)) v.2.2.2.2)) (nI (tk k).2.1)))
    else if v.2.2.2.2 < 3 then .inr (q, stT (addS v (cS (tk k))) i (tArg (tmI v i) b (nI (100 + v.2.2.2.2)) (nI (tk k).2.1)))
    else .inl (4, (tk k).2.1)
  else .inl (1, (tk k).2.1)
/-- what was known stays -/
def extQ (q q' : PQ) : Prop := q.1 ≤ q'.1 ∧ (∀ k, k < q.1 → q'.2.1 k = q.2.1 k) ∧ q.2.2.1 ≤ q'.2.2.1 ∧ ∀ k, k < q.2.2.1 → q'.2.2.2.1 k = q.2.2.2.1 k ∧ q'.2.2.2.2 k = q.2.2.2.2 k
theorem extQ_rf (q : PQ) : extQ q q := ⟨Nat.le_refl _, fun _ _ => rfl, Nat.le_refl _, fun _ _ => ⟨rfl, rfl⟩⟩
theorem extQ.tr {a b c : PQ} (h : extQ a b) (h' : extQ b c) : extQ a c := ⟨Nat.le_trans h.1 h'.1, fun k hk => (h'.2.1 k (Nat.lt_of_lt_of_le hk h.1)).trans (h.2.1 k hk), Nat.le_trans h.2.2.1 h'.2.2.1, fun k hk => ⟨(h'.2.2.2 k (Nat.lt_of_lt_of_le hk h.2.2.1)).1.trans (h.2.2.2 k hk).1, (h'.2.2.2 k (Nat.lt_of_lt_of_le hk h.2.2.1)).2.trans (h.2.2.2 k hk).2⟩⟩
theorem extQ_th (q : PQ) (w : List Nat) : extQ q (q.1 + 1, apF q.2.1 q.1 w, q.2.2) := ⟨Nat.le_succ _, fun k hk => apF_ne (by omega), Nat.le_refl _, fun _ _ => ⟨rfl, rfl⟩⟩
theorem extQ_ki (q : PQ) (w : List Nat) : extQ q (q.1, q.2.1, q.2.2.1 + 1, apF q.2.2.2.1 q.2.2.1 w, q.2.2.2.2) := ⟨Nat.le_refl _, fun _ _ => rfl, Nat.le_succ _, fun k hk => ⟨apF_ne (by omega), rfl⟩⟩
theorem wOk_eq {n : Nat} {T : Nat → List Nat} {tw : Nat → Int64} {w : List Nat} (h : wOk n T tw) (hw : okW w) (hl : w.length ≤ 8) {k : Nat} (hk : k < n) : tw k = lN (xw w) ↔ T k = w := by
  obtain ⟨a, b, c⟩ := h k hk
  rw [a, pk_lEQ (xw_63 b c) (xw_63 hw hl)]
  exact ⟨fun e => xw_inj b hw e, fun e => by rw [e]⟩
theorem wOk_add {n : Nat} {T : Nat → List Nat} {tw : Nat → Int64} {w : List Nat} (h : wOk n T tw) (hw : okW w) (hl : w.length ≤ 8) : wOk (n + 1) (apF T n w) (vp_updL tw n (lN (xw w))) := by
  intro k hk
  by_cases e : k = n
  · rw [e, apF_at, updL_at9]; exact ⟨rfl, hw, hl⟩
  · rw [apF_ne e, updL_ne9 e]; exact h k (by omega)
theorem k_thing {G : xG} {h0 h : xHp} {rc : Nat} {fc : Int32} {lf : Nat → Int32} {ra : Nat → Nat} {V : Nat → RV} {fr : Nat → Int32} {fn : Nat} {fs : Nat → Int32} {cl : Nat} {ts : Nat} {ty : Nat → Int32} {st : Nat → Int32} {wd : Nat → Int64} {q : PQ} {v : RV} {k : Nat} {flt plc : Int32} (R : RS h0 h rc fc lf ra V fr fn fs cl ts ty st wd q v k flt plc) {w : List Nat} (hw : okW w) (hl : w.length ≤ 8) : MX G mX6_findOrAdd 1 0 0 [.ref 6, .long (lN (xw w))] h (fun o h' => (wLook q.2.1 w q.1 < q.1 ∧ o = .inl (some (.int (nI (wLook q.2.1 w q.1)))) ∧ h' = h) ∨ (¬ wLook q.2.1 w q.1 < q.1 ∧ ¬ q.1 < 10 ∧ o = .inl (some (.int (-1))) ∧ h' = h) ∨ (¬ wLook q.2.1 w q.1 < q.1 ∧ q.1 < 10 ∧ o = .inl (some (.int (nI q.1))) ∧ RS h0 h' rc fc lf ra V fr fn fs cl ts ty st wd (q.1 + 1, apF q.2.1 q.1 w, q.2.2) v k flt plc)) := by
  obtain ⟨⟨kw, tw, pf, b, hT, hK, hpf⟩, r2, ⟨t1, t2, t3, t4⟩, r3, ⟨r4, r5⟩, r6⟩ := R
  refine MX.weaken (k_X6_findOrAdd b.1.2.2.1 b.2.2.1 (by omega)) (fun o h' z => ?_)
  rcases z with ⟨j, j1, j2, j3, j4, j5⟩ | ⟨j1, j2⟩
  · have e : wLook q.2.1 w q.1 = j := first_at (by simpa using (wOk_eq hT hw hl j1).mp j2) (fun i hi => by simpa using fun z => j3 i hi ((wOk_eq hT hw hl (by omega)).mpr z)) j1
    exact Or.inl ⟨by rw [e]; exact j1, by rw [e]; exact j4, j5⟩
  · have e : ¬ wLook q.2.1 w q.1 < q.1 := first_none (fun i hi => by simpa using fun z => j1 i hi ((wOk_eq hT hw hl hi).mpr z))
    rcases j2 with ⟨j3, j4, j5⟩ | ⟨j3, j4, j5⟩
    · exact Or.inr (Or.inl ⟨e, by omega, j4, j5⟩)
    · refine Or.inr (Or.inr ⟨e, j3, j4, ?_⟩)
      have hx : xfr h h' [6, 7] := by rw [j5]; exact ((xfr_rf _ _).up (by decide)).up (by decide)
      have b' := b
      obtain ⟨⟨b1, b2, b3, b4, b5, ⟨⟨rf, b6, b7⟩, b8⟩, b9⟩, c1, c2, c3, c4, c5⟩ := b
      have hno : ∀ a, 13 ≤ a → a ∉ [6, 7] := fun a ha => by simp; omega
      have hrl : ∀ j, j < 21 → rlV h' (ra j) (apF V rc v j) := fun j hj => rlV_fr (b8 j hj) hx (b9 j hj) (by decide)
      refine ⟨⟨kw, vp_updL tw q.1 (lN (xw w)), pf, ⟨⟨hx.at b1 (by decide), hx.at b2 (by decide), by rw [j5]; exact xup_self _ _ _, hx.at b4 (by decide), hx.at b5 (by decide), ⟨⟨rf, hx.at b6 (by decide), b7⟩, hrl⟩, b9⟩, hx.at c1 (by decide), by rw [j5]; exact (xup_ne (by decide)).trans (xup_self _ _ _), hx.at c3 (by decide), hx.at c4 (by decide), c5⟩, wOk_add hT hw hl, hK, hpf⟩, hx.at r2 (by decide), ⟨hx.at t1 (by decide), hx.at t2 (by decide), hx.at t3 (by decide), hx.at t4 (by decide)⟩, hx.at r3 (by decide), ⟨hx.1.trans r4, fun a ha => (hx.2 a (by simp; omega)).trans (r5 a ha)⟩, j3, r6.2⟩
theorem k_kind {G : xG} {h0 h : xHp} {rc : Nat} {fc : Int32} {lf : Nat → Int32} {ra : Nat → Nat} {V : Nat → RV} {fr : Nat → Int32} {fn : Nat} {fs : Nat → Int32} {cl : Nat} {ts : Nat} {ty : Nat → Int32} {st : Nat → Int32} {wd : Nat → Int64} {q : PQ} {v : RV} {k : Nat} {flt plc : Int32} (R : RS h0 h rc fc lf ra V fr fn fs cl ts ty st wd q v k flt plc) {w : List Nat} (hw : okW w) (hl : w.length ≤ 8) : MX G mX6_findOrAdd 1 0 0 [.ref 4, .long (lN (xw w))] h (fun o h' => (wLook q.2.2.2.1 w q.2.2.1 < q.2.2.1 ∧ o = .inl (some (.int (nI (wLook q.2.2.2.1 w q.2.2.1)))) ∧ h' = h) ∨ (¬ wLook q.2.2.2.1 w q.2.2.1 < q.2.2.1 ∧ ¬ q.2.2.1 < 10 ∧ o = .inl (some (.int (-1))) ∧ h' = h) ∨ (¬ wLook q.2.2.2.1 w q.2.2.1 < q.2.2.1 ∧ q.2.2.1 < 10 ∧ o = .inl (some (.int (nI q.2.2.1))) ∧ RS h0 h' rc fc lf ra V fr fn fs cl ts ty st wd (q.1, q.2.1, q.2.2.1 + 1, apF q.2.2.2.1 q.2.2.1 w, q.2.2.2.2) v k flt plc)) := by
  obtain ⟨⟨kw, tw, pf, b, hT, hK, hpf⟩, r2, ⟨t1, t2, t3, t4⟩, r3, ⟨r4, r5⟩, r6⟩ := R
  refine MX.weaken (k_X6_findOrAdd b.1.2.1 b.2.1 (by omega)) (fun o h' z => ?_)
  rcases z with ⟨j, j1, j2, j3, j4, j5⟩ | ⟨j1, j2⟩
  · have e : wLook q.2.2.2.1 w q.2.2.1 = j := first_at (by simpa using (wOk_eq hK hw hl j1).mp j2) (fun i hi => by simpa using fun z => j3 i hi ((wOk_eq hK hw hl (by omega)).mpr z)) j1
    exact Or.inl ⟨by rw [e]; exact j1, by rw [e]; exact j4, j5⟩
  · have e : ¬ wLook q.2.2.2.1 w q.2.2.1 < q.2.2.1 := first_none (fun i hi => by simpa using fun z => j1 i hi ((wOk_eq hK hw hl hi).mpr z))
    rcases j2 with ⟨j3, j4, j5⟩ | ⟨j3, j4, j5⟩
    · exact Or.inr (Or.inl ⟨e, by omega, j4, j5⟩)
    · refine Or.inr (Or.inr ⟨e, j3, j4, ?_⟩)
      have hx : xfr h h' [4, 5] := by rw [j5]; exact ((xfr_rf _ _).up (by decide)).up (by decide)
      have b' := b
      obtain ⟨⟨b1, b2, b3, b4, b5, ⟨⟨rf, b6, b7⟩, b8⟩, b9⟩, c1, c2, c3, c4, c5⟩ := b
      have hno : ∀ a, 13 ≤ a → a ∉ [4, 5] := fun a ha => by simp; omega
      have hrl : ∀ j, j < 21 → rlV h' (ra j) (apF V rc v j) := fun j hj => rlV_fr (b8 j hj) hx (b9 j hj) (by decide)
      refine ⟨⟨vp_updL kw q.2.2.1 (lN (xw w)), tw, pf, ⟨⟨hx.at b1 (by decide), by rw [j5]; exact xup_self _ _ _, hx.at b3 (by decide), hx.at b4 (by decide), hx.at b5 (by decide), ⟨⟨rf, hx.at b6 (by decide), b7⟩, hrl⟩, b9⟩, by rw [j5]; exact (xup_ne (by decide)).trans (xup_self _ _ _), hx.at c2 (by decide), hx.at c3 (by decide), hx.at c4 (by decide), c5⟩, hT, wOk_add hK hw hl, hpf⟩, hx.at r2 (by decide), ⟨hx.at t1 (by decide), hx.at t2 (by decide), hx.at t3 (by decide), hx.at t4 (by decide)⟩, hx.at r3 (by decide), ⟨hx.1.trans r4, fun a ha => (hx.2 a (by simp; omega)).trans (r5 a ha)⟩, r6.1, j3, r6.2.2⟩
theorem k_sign {G : xG} {h0 h : xHp} {rc : Nat} {fc : Int32} {lf : Nat → Int32} {ra : Nat → Nat} {V : Nat → RV} {fr : Nat → Int32} {fn : Nat} {fs : Nat → Int32} {cl : Nat} {ts : Nat} {ty : Nat → Int32} {st : Nat → Int32} {wd : Nat → Int64} {q : PQ} {v : RV} {k : Nat} {flt plc : Int32} (R : RS h0 h rc fc lf ra V fr fn fs cl ts ty st wd q v k flt plc) {c : Int32} : MX G mX8_findOrAddSign 1 0 0 [.ref (ra rc), .int c] h (fun o h' => (sLook v.2.2.2.1 c v.2.2.2.2 < v.2.2.2.2 ∧ o = .inl (some (.int (nI (100 + sLook v.2.2.2.1 c v.2.2.2.2)))) ∧ h' = h) ∨ (¬ sLook v.2.2.2.1 c v.2.2.2.2 < v.2.2.2.2 ∧ ¬ v.2.2.2.2 < 3 ∧ o = .inl (some (.int (-1))) ∧ h' = h) ∨ (¬ sLook v.2.2.2.1 c v.2.2.2.2 < v.2.2.2.2 ∧ v.2.2.2.2 < 3 ∧ o = .inl (some (.int (nI (100 + v.2.2.2.2)))) ∧ RS h0 h' rc fc lf ra V fr fn fs cl ts ty st wd q (addS v c) k flt plc)) := by
  have hl := R.l
  refine MX.weaken (k_X8_findOrAddSign hl.1 hl.2.2.2.1 R.z.2.2.2.2) (fun o h' z => ?_)
  rcases z with ⟨j, j1, j2, j3, j4, j5⟩ | ⟨j1, j2⟩
  · have e : sLook v.2.2.2.1 c v.2.2.2.2 = j := first_at (by simpa using j2) (fun i hi => by simpa using j3 i hi) j1
    exact Or.inl ⟨by rw [e]; exact j1, by rw [e]; exact j4, j5⟩
  · have e : ¬ sLook v.2.2.2.1 c v.2.2.2.2 < v.2.2.2.2 := first_none (fun i hi => by simpa using j1 i hi)
    rcases j2 with ⟨j3, j4, j5⟩ | ⟨j3, j4, j5⟩
    · exact Or.inr (Or.inl ⟨e, by omega, j4, j5⟩)
    · refine Or.inr (Or.inr ⟨e, j3, j4, ?_⟩)
      obtain ⟨x1, x2, x3, x4, x5⟩ := hl
      subst j5
      refine R.slot rfl (fun a ha => (xup_ne (by omega)).trans (xup_ne (by omega))) ⟨xup_self _ _ _, (xup_ne (by omega)).trans ((xup_ne (by omega)).trans x2), (xup_ne (by omega)).trans ((xup_ne (by omega)).trans x3), (xup_ne (by omega)).trans (xup_self _ _ _), fun i hi => (xup_ne (by omega)).trans ((xup_ne (by omega)).trans (x5 i hi))⟩ ⟨R.z.2.2.2.1, j3⟩
set_option maxRecDepth 100000 in
set_option maxHeartbeats 4000000 in
theorem k_X7_readArg {G : xG} {h0 h : xHp} {rc : Nat} {fc : Int32} {lf : Nat → Int32} {ra : Nat → Nat} {V : Nat → RV} {fr : Nat → Int32} {fn : Nat} {fs : Nat → Int32} {cl : Nat} {ts : Nat} {ty : Nat → Int32} {st : Nat → Int32} {wd : Nat → Int64} {q : PQ} {v : RV} {k : Nat} {flt plc : Int32} (R : RS h0 h rc fc lf ra V fr fn fs cl ts ty st wd q v k flt plc) {tk : Nat → Tk} (O : tkO ts tk ty st wd) (hk : k < ts) {i : Nat} (hi : i ≤ 4) {b : Bool} : MX G mX7_readArg 2 0 0 [.ref 181, .ref (ra rc), .ref (tAd (ra rc) i), .int (bi b)] h (fun o h' => (∃ e p, pArg tk q v k i b = .inl (e, p) ∧ o = .inl (some (.int 0)) ∧ ∃ q' v' k', extQ q q' ∧ RS h0 h' rc fc lf ra V fr fn fs cl ts ty st wd (q') (v') (k') (nI e) (nI p)) ∨ (∃ q' v', pArg tk q v k i b = .inr (q', v') ∧ o = .inl (some (.int 1)) ∧ extQ q q' ∧ RS h0 h' rc fc lf ra V fr fn fs cl ts ty st wd (q') (v') (k + 1) flt plc)) := by
  have hts := O.1.2
  have hO := O.2.2.2.2 k hk
  refine MX.of [(0, .ref 181), (1, .ref (ra rc)), (2, .ref (tAd (ra rc) i)), (3, .int (bi b))] (by decide) rfl (Nat.le_of_ble_eq_true rfl) rfl ?_
  refine x_aload_n dX7_readArg_0 rfl ?_
  refine x_callV (As := []) (st := []) lv_X7_63 (k_X7_type R O hk) dX7_readArg_1 R.r rfl rfl (Nat.le_of_ble_eq_true rfl) ⟨by decide, by decide⟩ ⟨by decide, by decide⟩ (fun v9 h9 z => ?_) (fun _ _ _ _ _ z => by cases z.1)
  obtain ⟨ev, eh⟩ := z
  rw [eh]
  cases ev
  refine x_iconst (v := 2) dX7_readArg_4 (by decide) ?_
  refine x_icmp_ne 35 dX7_readArg_5 (by decide) (fun c_5 => ?_) (fun c_5 => ?_)
  · rw [show (2 : Int32) = nI 2 from rfl, nI_eq (by omega) (by omega)] at c_5
    refine x_aload_n dX7_readArg_35 rfl ?_
    refine x_callV (As := []) (st := []) lv_X7_63 (k_X7_type R O hk) dX7_readArg_36 R.r rfl rfl (Nat.le_of_ble_eq_true rfl) ⟨by decide, by decide⟩ ⟨by decide, by decide⟩ (fun v9 h9 z => ?_) (fun _ _ _ _ _ z => by cases z.1)
    obtain ⟨ev, eh⟩ := z
    rw [eh]
    cases ev
    refine x_iconst (v := 3) dX7_readArg_39 (by decide) ?_
    refine x_icmp_ne 65 dX7_readArg_40 (by decide) (fun c_40 => ?_) (fun c_40 => ?_)
    · rw [show (3 : Int32) = nI 3 from rfl, nI_eq (by omega) (by omega)] at c_40
      refine x_aload_n dX7_readArg_65 rfl ?_
      refine x_iconst (v := 1) dX7_readArg_66 (by decide) ?_
      refine x_aload_n dX7_readArg_67 rfl ?_
      refine x_callV (As := []) (st := [.int 1, .ref 181]) lv_X7_122 (k_X7_start R O hk) dX7_readArg_68 R.r rfl rfl (Nat.le_of_ble_eq_true rfl) ⟨by decide, by decide⟩ ⟨by decide, by decide⟩ (fun v9 h9 z => ?_) (fun _ _ _ _ _ z => by cases z.1)
      obtain ⟨ev, eh⟩ := z
      rw [eh]
      cases ev
      refine x_callV (As := [.int 1, .int (nI ((tk k).2.1))]) (st := []) lv_X7_104 (k_X7_fail R) dX7_readArg_71 R.r rfl rfl (Nat.le_of_ble_eq_true rfl) ⟨by decide, by decide⟩ ⟨by decide, by decide⟩ (fun v9 hF z => ?_) (fun _ _ _ _ _ z => by cases z.1)
      obtain ⟨ev, RF⟩ := z
      cases ev
      exact x_iret dX7_readArg_74 rfl rfl (Nat.le_refl _) (Nat.le_refl _) (Or.inl ⟨1, (tk k).2.1, by unfold pArg; rw [if_neg c_5, if_neg c_40], rfl, q, v, k, extQ_rf q, RF⟩)
    · rw [show (3 : Int32) = nI 3 from rfl, nI_eq (by omega) (by omega)] at c_40
      obtain ⟨c9, hc9, e9, e8⟩ := (O.2.1 k hk).2.2.2 c_40
      have e7 : cS (tk k) = nI c9 := by unfold cS; rw [e9]; rfl
      refine x_aload_n dX7_readArg_43 rfl ?_
      refine x_aload_n dX7_readArg_44 rfl ?_
      refine x_get lf_X7_12 dX7_readArg_45 R.r rfl ?_
      refine x_get lf_X7_167 dX7_readArg_48 R.t.1 rfl ?_
      refine x_aload_n dX7_readArg_51 rfl ?_
      refine x_get lf_X7_48 dX7_readArg_52 R.r rfl ?_
      refine x_laldN (j := k) R.t.2.2.2 rfl (by omega) (by decide) dX7_readArg_55 ?_
      refine x_topl e8 ?_
      refine x_l2i dX7_readArg_56 ?_
      refine x_top (y := cS (tk k)) ((lN_i c9).trans e7.symm) ?_
      refine x_callV (As := [.int (cS (tk k))]) (st := []) lv_X7_188 (k_sign R) dX7_readArg_57 R.l.1 rfl rfl (Nat.le_of_ble_eq_true rfl) ⟨by decide, by decide⟩ ⟨by decide, by decide⟩ (fun v9 h1 z => ?_) (fun _ _ _ _ _ z => by rcases z with ⟨_, z, _⟩ | ⟨_, _, z, _⟩ | ⟨_, _, z, _⟩ <;> cases z)
      rcases z with ⟨z1, ev, rfl⟩ | ⟨z1, z2, ev, rfl⟩ | ⟨z1, z2, ev, R1⟩ <;> cases ev
      · refine x_istore [(0, .ref 181), (1, .ref (ra rc)), (2, .ref (tAd (ra rc) i)), (3, .int (bi b)), (4, .int (nI (100 + sLook v.2.2.2.1 (cS (tk k)) v.2.2.2.2)))] dX7_readArg_60 (by decide) rfl rfl ?_
        refine x_goto 75 dX7_readArg_62 (by decide) ?_
        refine x_iload dX7_readArg_75 rfl ?_
        refine x_iconst (v := (-1)) dX7_readArg_77 (by decide) ?_
        refine x_icmp_ne 91 dX7_readArg_78 (by decide) (fun c_78 => ?_) (fun c_78 => absurd c_78 (nI_m1 (by have := R.z.2.2.2.2; omega)))
        refine x_aload_n dX7_readArg_91 rfl ?_
        refine x_iload_n dX7_readArg_92 rfl ?_
        refine x_iload dX7_readArg_93 rfl ?_
        refine x_aload_n dX7_readArg_95 rfl ?_
        refine x_callV (As := []) (st := [.int (nI (100 + sLook v.2.2.2.1 (cS (tk k)) v.2.2.2.2)), .int (bi b), .ref (tAd (ra rc) i)]) lv_X7_122 (k_X7_start R O hk) dX7_readArg_96 R.r rfl rfl (Nat.le_of_ble_eq_true rfl) ⟨by decide, by decide⟩ ⟨by decide, by decide⟩ (fun v9 h9 z => ?_) (fun _ _ _ _ _ z => by cases z.1)
        obtain ⟨ev, eh⟩ := z
        rw [eh]
        cases ev
        refine x_callV (As := [.int (bi b), .int (nI (100 + sLook v.2.2.2.1 (cS (tk k)) v.2.2.2.2)), .int (nI ((tk k).2.1))]) (st := []) lv_X7_192 (k_X9_setArg (R.tm hi)) dX7_readArg_99 (R.tm hi) rfl rfl (Nat.le_of_ble_eq_true rfl) ⟨by decide, by decide⟩ ⟨by decide, by decide⟩ (fun v9 h8 z => ?_) (fun _ _ _ _ _ z => by cases z.1)
        obtain ⟨ev, eh⟩ := z
        cases ev
        have R8 := R.term hi (tArg (tmI v i) b (nI (100 + sLook v.2.2.2.1 (cS (tk k)) v.2.2.2.2)) (nI ((tk k).2.1)))
        rw [← eh] at R8
        refine x_aload_n dX7_readArg_102 rfl ?_
        refine x_dup dX7_readArg_103 rfl ?_
        refine x_get lf_X7_48 dX7_readArg_104 R8.r rfl ?_
        refine x_iconst (v := 1) dX7_readArg_107 (by decide) ?_
        refine x_iadd dX7_readArg_108 ?_
        refine x_top (y := nI (k + 1)) (nI_add k 1) ?_
        refine x_put [.ref 3, .ref 182, .int (nI (k + 1)), .ref 186, .int (nI fn), .int (nI cl), .int flt, .int plc] lf_X7_48 dX7_readArg_109 R8.r (Nat.le_of_ble_eq_true rfl) rfl rfl rfl ?_
        refine x_iconst (v := 1) dX7_readArg_112 (by decide) ?_
        exact x_iret dX7_readArg_113 rfl rfl (Nat.le_refl _) (Nat.le_refl _) (Or.inr ⟨_, _, by unfold pArg; rw [if_neg c_5, if_pos c_40, if_pos z1], rfl, extQ_rf q, R8.rd (k + 1) flt plc⟩)
      · refine x_istore [(0, .ref 181), (1, .ref (ra rc)), (2, .ref (tAd (ra rc) i)), (3, .int (bi b)), (4, .int (-1))] dX7_readArg_60 (by decide) rfl rfl ?_
        refine x_goto 75 dX7_readArg_62 (by decide) ?_
        refine x_iload dX7_readArg_75 rfl ?_
        refine x_iconst (v := (-1)) dX7_readArg_77 (by decide) ?_
        refine x_icmp_ne 91 dX7_readArg_78 (by decide) (fun c_78 => absurd c_78 (fun z => z rfl)) (fun c_78 => ?_)
        refine x_aload_n dX7_readArg_81 rfl ?_
        refine x_iconst (v := 4) dX7_readArg_82 (by decide) ?_
        refine x_aload_n dX7_readArg_83 rfl ?_
        refine x_callV (As := []) (st := [.int 4, .ref 181]) lv_X7_122 (k_X7_start R O hk) dX7_readArg_84 R.r rfl rfl (Nat.le_of_ble_eq_true rfl) ⟨by decide, by decide⟩ ⟨by decide, by decide⟩ (fun v9 h9 z => ?_) (fun _ _ _ _ _ z => by cases z.1)
        obtain ⟨ev, eh⟩ := z
        rw [eh]
        cases ev
        refine x_callV (As := [.int 4, .int (nI ((tk k).2.1))]) (st := []) lv_X7_104 (k_X7_fail R) dX7_readArg_87 R.r rfl rfl (Nat.le_of_ble_eq_true rfl) ⟨by decide, by decide⟩ ⟨by decide, by decide⟩ (fun v9 hF z => ?_) (fun _ _ _ _ _ z => by cases z.1)
        obtain ⟨ev, RF⟩ := z
        cases ev
        exact x_iret dX7_readArg_90 rfl rfl (Nat.le_refl _) (Nat.le_refl _) (Or.inl ⟨4, (tk k).2.1, by unfold pArg; rw [if_neg c_5, if_pos c_40, if_neg z1, if_neg z2], rfl, q, v, k, extQ_rf q, RF⟩)
      · refine x_istore [(0, .ref 181), (1, .ref (ra rc)), (2, .ref (tAd (ra rc) i)), (3, .int (bi b)), (4, .int (nI (100 + v.2.2.2.2)))] dX7_readArg_60 (by decide) rfl rfl ?_
        refine x_goto 75 dX7_readArg_62 (by decide) ?_
        refine x_iload dX7_readArg_75 rfl ?_
        refine x_iconst (v := (-1)) dX7_readArg_77 (by decide) ?_
        refine x_icmp_ne 91 dX7_readArg_78 (by decide) (fun c_78 => ?_) (fun c_78 => absurd c_78 (nI_m1 (by omega)))
        refine x_aload_n dX7_readArg_91 rfl ?_
        refine x_iload_n dX7_readArg_92 rfl ?_
        refine x_iload dX7_readArg_93 rfl ?_
        refine x_aload_n dX7_readArg_95 rfl ?_
        refine x_callV (As := []) (st := [.int (nI (100 + v.2.2.2.2)), .int (bi b), .ref (tAd (ra rc) i)]) lv_X7_122 (k_X7_start R1 O hk) dX7_readArg_96 R1.r rfl rfl (Nat.le_of_ble_eq_true rfl) ⟨by decide, by decide⟩ ⟨by decide, by decide⟩ (fun v9 h9 z => ?_) (fun _ _ _ _ _ z => by cases z.1)
        obtain ⟨ev, eh⟩ := z
        rw [eh]
        cases ev
        refine x_callV (As := [.int (bi b), .int (nI (100 + v.2.2.2.2)), .int (nI ((tk k).2.1))]) (st := []) lv_X7_192 (k_X9_setArg (R1.tm hi)) dX7_readArg_99 (R1.tm hi) rfl rfl (Nat.le_of_ble_eq_true rfl) ⟨by decide, by decide⟩ ⟨by decide, by decide⟩ (fun v9 h8 z => ?_) (fun _ _ _ _ _ z => by cases z.1)
        obtain ⟨ev, eh⟩ := z
        cases ev
        have R8 := R1.term hi (tArg (tmI (addS v (cS (tk k))) i) b (nI (100 + v.2.2.2.2)) (nI ((tk k).2.1)))
        rw [← eh] at R8
        refine x_aload_n dX7_readArg_102 rfl ?_
        refine x_dup dX7_readArg_103 rfl ?_
        refine x_get lf_X7_48 dX7_readArg_104 R8.r rfl ?_
        refine x_iconst (v := 1) dX7_readArg_107 (by decide) ?_
        refine x_iadd dX7_readArg_108 ?_
        refine x_top (y := nI (k + 1)) (nI_add k 1) ?_
        refine x_put [.ref 3, .ref 182, .int (nI (k + 1)), .ref 186, .int (nI fn), .int (nI cl), .int flt, .int plc] lf_X7_48 dX7_readArg_109 R8.r (Nat.le_of_ble_eq_true rfl) rfl rfl rfl ?_
        refine x_iconst (v := 1) dX7_readArg_112 (by decide) ?_
        exact x_iret dX7_readArg_113 rfl rfl (Nat.le_refl _) (Nat.le_refl _) (Or.inr ⟨_, _, by unfold pArg; rw [if_neg c_5, if_pos c_40, if_neg z1, if_pos z2]; rw [show tmI (addS v (cS (tk k))) i = tmI v i from by cases i <;> rfl], rfl, extQ_rf q, R8.rd (k + 1) flt plc⟩)
  · rw [show (2 : Int32) = nI 2 from rfl, nI_eq (by omega) (by omega)] at c_5
    have hwd := (O.2.2.2.2 k hk).2.2 c_5
    refine x_aload_n dX7_readArg_8 rfl ?_
    refine x_get lf_X7_22 dX7_readArg_9 R.r rfl ?_
    refine x_get lf_X7_38 dX7_readArg_12 R.b.1 rfl ?_
    refine x_aload_n dX7_readArg_15 rfl ?_
    refine x_get lf_X7_12 dX7_readArg_16 R.r rfl ?_
    refine x_get lf_X7_167 dX7_readArg_19 R.t.1 rfl ?_
    refine x_aload_n dX7_readArg_22 rfl ?_
    refine x_get lf_X7_48 dX7_readArg_23 R.r rfl ?_
    refine x_laldN (j := k) R.t.2.2.2 rfl (by omega) (by decide) dX7_readArg_26 ?_
    refine x_topl ((O.2.1 k hk).2.2.1 c_5) ?_
    refine x_callV (As := [.long (lN (xw (tk k).2.2))]) (st := []) lv_X7_177 (k_thing R hwd.1 hwd.2) dX7_readArg_27 R.b.2.2 rfl rfl (Nat.le_of_ble_eq_true rfl) ⟨by decide, by decide⟩ ⟨by decide, by decide⟩ (fun v9 h1 z => ?_) (fun _ _ _ _ _ z => by rcases z with ⟨_, z, _⟩ | ⟨_, _, z, _⟩ | ⟨_, _, z, _⟩ <;> cases z)
    rcases z with ⟨z1, ev, rfl⟩ | ⟨z1, z2, ev, rfl⟩ | ⟨z1, z2, ev, R1⟩ <;> cases ev
    · refine x_istore [(0, .ref 181), (1, .ref (ra rc)), (2, .ref (tAd (ra rc) i)), (3, .int (bi b)), (4, .int (nI (wLook q.2.1 (tk k).2.2 q.1)))] dX7_readArg_30 (by decide) rfl rfl ?_
      refine x_goto 75 dX7_readArg_32 (by decide) ?_
      refine x_iload dX7_readArg_75 rfl ?_
      refine x_iconst (v := (-1)) dX7_readArg_77 (by decide) ?_
      refine x_icmp_ne 91 dX7_readArg_78 (by decide) (fun c_78 => ?_) (fun c_78 => absurd c_78 (nI_m1 (by have := R.z.1; omega)))
      refine x_aload_n dX7_readArg_91 rfl ?_
      refine x_iload_n dX7_readArg_92 rfl ?_
      refine x_iload dX7_readArg_93 rfl ?_
      refine x_aload_n dX7_readArg_95 rfl ?_
      refine x_callV (As := []) (st := [.int (nI (wLook q.2.1 (tk k).2.2 q.1)), .int (bi b), .ref (tAd (ra rc) i)]) lv_X7_122 (k_X7_start R O hk) dX7_readArg_96 R.r rfl rfl (Nat.le_of_ble_eq_true rfl) ⟨by decide, by decide⟩ ⟨by decide, by decide⟩ (fun v9 h9 z => ?_) (fun _ _ _ _ _ z => by cases z.1)
      obtain ⟨ev, eh⟩ := z
      rw [eh]
      cases ev
      refine x_callV (As := [.int (bi b), .int (nI (wLook q.2.1 (tk k).2.2 q.1)), .int (nI ((tk k).2.1))]) (st := []) lv_X7_192 (k_X9_setArg (R.tm hi)) dX7_readArg_99 (R.tm hi) rfl rfl (Nat.le_of_ble_eq_true rfl) ⟨by decide, by decide⟩ ⟨by decide, by decide⟩ (fun v9 h8 z => ?_) (fun _ _ _ _ _ z => by cases z.1)
      obtain ⟨ev, eh⟩ := z
      cases ev
      have R8 := R.term hi (tArg (tmI v i) b (nI (wLook q.2.1 (tk k).2.2 q.1)) (nI ((tk k).2.1)))
      rw [← eh] at R8
      refine x_aload_n dX7_readArg_102 rfl ?_
      refine x_dup dX7_readArg_103 rfl ?_
      refine x_get lf_X7_48 dX7_readArg_104 R8.r rfl ?_
      refine x_iconst (v := 1) dX7_readArg_107 (by decide) ?_
      refine x_iadd dX7_readArg_108 ?_
      refine x_top (y := nI (k + 1)) (nI_add k 1) ?_
      refine x_put [.ref 3, .ref 182, .int (nI (k + 1)), .ref 186, .int (nI fn), .int (nI cl), .int flt, .int plc] lf_X7_48 dX7_readArg_109 R8.r (Nat.le_of_ble_eq_true rfl) rfl rfl rfl ?_
      refine x_iconst (v := 1) dX7_readArg_112 (by decide) ?_
      exact x_iret dX7_readArg_113 rfl rfl (Nat.le_refl _) (Nat.le_refl _) (Or.inr ⟨_, _, by unfold pArg; rw [if_pos c_5, if_pos z1], rfl, extQ_rf q, R8.rd (k + 1) flt plc⟩)
    · refine x_istore [(0, .ref 181), (1, .ref (ra rc)), (2, .ref (tAd (ra rc) i)), (3, .int (bi b)), (4, .int (-1))] dX7_readArg_30 (by decide) rfl rfl ?_
      refine x_goto 75 dX7_readArg_32 (by decide) ?_
      refine x_iload dX7_readArg_75 rfl ?_
      refine x_iconst (v := (-1)) dX7_readArg_77 (by decide) ?_
      refine x_icmp_ne 91 dX7_readArg_78 (by decide) (fun c_78 => absurd c_78 (fun z => z rfl)) (fun c_78 => ?_)
      refine x_aload_n dX7_readArg_81 rfl ?_
      refine x_iconst (v := 4) dX7_readArg_82 (by decide) ?_
      refine x_aload_n dX7_readArg_83 rfl ?_
      refine x_callV (As := []) (st := [.int 4, .ref 181]) lv_X7_122 (k_X7_start R O hk) dX7_readArg_84 R.r rfl rfl (Nat.le_of_ble_eq_true rfl) ⟨by decide, by decide⟩ ⟨by decide, by decide⟩ (fun v9 h9 z => ?_) (fun _ _ _ _ _ z => by cases z.1)
      obtain ⟨ev, eh⟩ := z
      rw [eh]
      cases ev
      refine x_callV (As := [.int 4, .int (nI ((tk k).2.1))]) (st := []) lv_X7_104 (k_X7_fail R) dX7_readArg_87 R.r rfl rfl (Nat.le_of_ble_eq_true rfl) ⟨by decide, by decide⟩ ⟨by decide, by decide⟩ (fun v9 hF z => ?_) (fun _ _ _ _ _ z => by cases z.1)
      obtain ⟨ev, RF⟩ := z
      cases ev
      exact x_iret dX7_readArg_90 rfl rfl (Nat.le_refl _) (Nat.le_refl _) (Or.inl ⟨4, (tk k).2.1, by unfold pArg; rw [if_pos c_5, if_neg z1, if_neg z2], rfl, q, v, k, extQ_rf q, RF⟩)
    · refine x_istore [(0, .ref 181), (1, .ref (ra rc)), (2, .ref (tAd (ra rc) i)), (3, .int (bi b)), (4, .int (nI (q.1)))] dX7_readArg_30 (by decide) rfl rfl ?_
      refine x_goto 75 dX7_readArg_32 (by decide) ?_
      refine x_iload dX7_readArg_75 rfl ?_
      refine x_iconst (v := (-1)) dX7_readArg_77 (by decide) ?_
      refine x_icmp_ne 91 dX7_readArg_78 (by decide) (fun c_78 => ?_) (fun c_78 => absurd c_78 (nI_m1 (by omega)))
      refine x_aload_n dX7_readArg_91 rfl ?_
      refine x_iload_n dX7_readArg_92 rfl ?_
      refine x_iload dX7_readArg_93 rfl ?_
      refine x_aload_n dX7_readArg_95 rfl ?_
      refine x_callV (As := []) (st := [.int (nI (q.1)), .int (bi b), .ref (tAd (ra rc) i)]) lv_X7_122 (k_X7_start R1 O hk) dX7_readArg_96 R1.r rfl rfl (Nat.le_of_ble_eq_true rfl) ⟨by decide, by decide⟩ ⟨by decide, by decide⟩ (fun v9 h9 z => ?_) (fun _ _ _ _ _ z => by cases z.1)
      obtain ⟨ev, eh⟩ := z
      rw [eh]
      cases ev
      refine x_callV (As := [.int (bi b), .int (nI (q.1)), .int (nI ((tk k).2.1))]) (st := []) lv_X7_192 (k_X9_setArg (R1.tm hi)) dX7_readArg_99 (R1.tm hi) rfl rfl (Nat.le_of_ble_eq_true rfl) ⟨by decide, by decide⟩ ⟨by decide, by decide⟩ (fun v9 h8 z => ?_) (fun _ _ _ _ _ z => by cases z.1)
      obtain ⟨ev, eh⟩ := z
      cases ev
      have R8 := R1.term hi (tArg (tmI v i) b (nI (q.1)) (nI ((tk k).2.1)))
      rw [← eh] at R8
      refine x_aload_n dX7_readArg_102 rfl ?_
      refine x_dup dX7_readArg_103 rfl ?_
      refine x_get lf_X7_48 dX7_readArg_104 R8.r rfl ?_
      refine x_iconst (v := 1) dX7_readArg_107 (by decide) ?_
      refine x_iadd dX7_readArg_108 ?_
      refine x_top (y := nI (k + 1)) (nI_add k 1) ?_
      refine x_put [.ref 3, .ref 182, .int (nI (k + 1)), .ref 186, .int (nI fn), .int (nI cl), .int flt, .int plc] lf_X7_48 dX7_readArg_109 R8.r (Nat.le_of_ble_eq_true rfl) rfl rfl rfl ?_
      refine x_iconst (v := 1) dX7_readArg_112 (by decide) ?_
      exact x_iret dX7_readArg_113 rfl rfl (Nat.le_refl _) (Nat.le_refl _) (Or.inr ⟨_, _, by unfold pArg; rw [if_pos c_5, if_neg z1, if_pos z2], rfl, extQ_th q _, R8.rd (k + 1) flt plc⟩)
