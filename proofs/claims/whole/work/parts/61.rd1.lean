/-! RuleCourt$Reader: what it holds -/
abbrev PQ : Type := Nat × (Nat → List Nat) × Nat × (Nat → List Nat) × (Nat → Nat)
def wOk (n : Nat) (T : Nat → List Nat) (tw : Nat → Int64) : Prop := ∀ k, k < n → tw k = lN (xw (T k)) ∧ okW (T k) ∧ (T k).length ≤ 8
def RS (h0 h : xHp) (rc : Nat) (fc : Int32) (lf : Nat → Int32) (ra : Nat → Nat) (V : Nat → RV) (fr : Nat → Int32) (fn : Nat) (fs : Nat → Int32) (cl : Nat) (ts : Nat) (ty : Nat → Int32) (st : Nat → Int32) (wd : Nat → Int64) (q : PQ) (v : RV) (k : Nat) (flt plc : Int32) : Prop :=
  (∃ (kw tw : Nat → Int64) (pf : Nat → Int32), bkF h rc fc q.1 q.2.2.1 lf ra (apF V rc v) kw tw pf fr ∧ wOk q.1 q.2.1 tw ∧ wOk q.2.2.1 q.2.2.2.1 kw ∧ ∀ j, j < 10 → pf j = nI (q.2.2.2.2 j) ∧ q.2.2.2.2 j < 3) ∧ h.1 181 = some (.inr (7, [.ref 3, .ref 182, .int (nI k), .ref 186, .int (nI fn), .int (nI cl), .int flt, .int plc])) ∧ tokH h ts ty st wd ∧ h.1 186 = some (.inl (0, 200, .inl fs)) ∧ (h.2 = h0.2 ∧ ∀ a, a < 3 ∨ 187 ≤ a → h.1 a = h0.1 a) ∧ (q.1 ≤ 10 ∧ q.2.2.1 ≤ 10 ∧ rc ≤ 20 ∧ v.2.2.1 ≤ 4 ∧ v.2.2.2.2 ≤ 3)
/-- the TOKENS are as they must be -/
def tkO (ts : Nat) (tk : Nat → Tk) (ty st : Nat → Int32) (wd : Nat → Int64) : Prop := (1 ≤ ts ∧ ts ≤ 401) ∧ tkX ts tk ty st wd ∧ (tk (ts - 1)).1 ≤ 1 ∧ (∀ i, i + 1 < ts → 2 ≤ (tk i).1) ∧ ∀ i, i < ts → (tk i).1 < 256 ∧ (tk i).2.1 ≤ 400 ∧ ((tk i).1 = 2 → okW (tk i).2.2 ∧ (tk i).2.2.length ≤ 8)
theorem tkO_next {ts k : Nat} {tk : Nat → Tk} {ty st : Nat → Int32} {wd : Nat → Int64} (h : tkO ts tk ty st wd) (hk : k < ts) (h2 : 2 ≤ (tk k).1) : k + 1 < ts := by
  rcases Nat.lt_or_ge (k + 1) ts with z | z
  · exact z
  · have := h.2.2.1
    rw [show ts - 1 = k by omega] at this; omega
theorem apF_at {α : Type} (f : Nat → α) (i : Nat) (x : α) : apF f i x i = x := by simp [apF]
theorem apF_ne {α : Type} {f : Nat → α} {i j : Nat} {x : α} (h : j ≠ i) : apF f i x j = f j := by simp [apF, h]
theorem bk_slot {h h' : xHp} {rc : Nat} {fc : Int32} {nt nk : Nat} {lf : Nat → Int32} {ra : Nat → Nat} {V : Nat → RV} {v v' : RV} {kw tw : Nat → Int64} {pf fr : Nat → Int32} (b : bkF h rc fc nt nk lf ra (apF V rc v) kw tw pf fr) (hrc : rc ≤ 20) (hf : ∀ a, a < ra rc ∨ ra rc + 8 ≤ a → h'.1 a = h.1 a) (hv : rlV h' (ra rc) v') : bkF h' rc fc nt nk lf ra (apF V rc v') kw tw pf fr := by
  obtain ⟨⟨b1, b2, b3, b4, b5, ⟨⟨rf, b6, b7⟩, b8⟩, b9⟩, c1, c2, c3, c4, c5⟩ := b
  obtain ⟨ρ, r1, r2⟩ := b9 rc (by omega)
  have at9 : ∀ {a : Nat} {c : xCel}, a < 13 → h.1 a = some c → h'.1 a = some c := fun ha e => (hf _ (by omega)).trans e
  refine ⟨⟨at9 (by omega) b1, at9 (by omega) b2, at9 (by omega) b3, at9 (by omega) b4, at9 (by omega) b5, ⟨⟨rf, at9 (by omega) b6, b7⟩, fun j hj => ?_⟩, b9⟩, at9 (by omega) c1, at9 (by omega) c2, at9 (by omega) c3, at9 (by omega) c4, c5⟩
  by_cases z : j = rc
  · rw [z, apF_at]; exact hv
  · rw [apF_ne z]
    have h8 := b8 j hj
    rw [apF_ne z] at h8
    obtain ⟨ρ', r3, r4⟩ := b9 j hj
    have hne : ρ ≠ ρ' := fun e => z (c5 j rc hj (by omega) (by rw [r2, r4, e]))
    obtain ⟨x1, x2, x3, x4, x5⟩ := h8
    exact ⟨(hf _ (by omega)).trans x1, (hf _ (by omega)).trans x2, (hf _ (by omega)).trans x3, (hf _ (by omega)).trans x4, fun i hi => (hf _ (by omega)).trans (x5 i hi)⟩
theorem RS.slot {h0 h : xHp} {rc : Nat} {fc : Int32} {lf : Nat → Int32} {ra : Nat → Nat} {V : Nat → RV} {fr : Nat → Int32} {fn : Nat} {fs : Nat → Int32} {cl : Nat} {ts : Nat} {ty : Nat → Int32} {st : Nat → Int32} {wd : Nat → Int64} {q : PQ} {v : RV} {k : Nat} {flt plc : Int32} (R : RS h0 h rc fc lf ra V fr fn fs cl ts ty st wd q v k flt plc) {h' : xHp} {v' : RV} (h2 : h'.2 = h.2) (hf : ∀ a, a < ra rc ∨ ra rc + 8 ≤ a → h'.1 a = h.1 a) (hv : rlV h' (ra rc) v') (hs : v'.2.2.1 ≤ 4 ∧ v'.2.2.2.2 ≤ 3) : RS h0 h' rc fc lf ra V fr fn fs cl ts ty st wd q (v') k flt plc := by
  obtain ⟨⟨kw, tw, pf, b, r1⟩, r2, ⟨t1, t2, t3, t4⟩, r3, ⟨r4, r5⟩, r6⟩ := R
  obtain ⟨ρ, x1, x2⟩ := b.1.2.2.2.2.2.2 rc (by omega)
  exact ⟨⟨kw, tw, pf, bk_slot b r6.2.2.1 hf hv, r1⟩, (hf _ (by omega)).trans r2, ⟨(hf _ (by omega)).trans t1, (hf _ (by omega)).trans t2, (hf _ (by omega)).trans t3, (hf _ (by omega)).trans t4⟩, (hf _ (by omega)).trans r3, ⟨h2.trans r4, fun a ha => (hf _ (by omega)).trans (r5 a ha)⟩, r6.1, r6.2.1, r6.2.2.1, hs.1, hs.2⟩
theorem RS.rd {h0 h : xHp} {rc : Nat} {fc : Int32} {lf : Nat → Int32} {ra : Nat → Nat} {V : Nat → RV} {fr : Nat → Int32} {fn : Nat} {fs : Nat → Int32} {cl : Nat} {ts : Nat} {ty : Nat → Int32} {st : Nat → Int32} {wd : Nat → Int64} {q : PQ} {v : RV} {k : Nat} {flt plc : Int32} (R : RS h0 h rc fc lf ra V fr fn fs cl ts ty st wd q v k flt plc) (k' : Nat) (flt' plc' : Int32) : RS h0 (xup h 181 (.inr (7, [.ref 3, .ref 182, .int (nI k'), .ref 186, .int (nI fn), .int (nI cl), .int flt', .int plc']))) rc fc lf ra V fr fn fs cl ts ty st wd q v (k') (flt') (plc') := by
  obtain ⟨⟨kw, tw, pf, b, r1⟩, r2, ⟨t1, t2, t3, t4⟩, r3, ⟨r4, r5⟩, r6⟩ := R
  have hx : xfr h (xup h 181 (.inr (7, [.ref 3, .ref 182, .int (nI k'), .ref 186, .int (nI fn), .int (nI cl), .int flt', .int plc']))) [181] := (xfr_rf _ _).up (by decide)
  exact ⟨⟨kw, tw, pf, b.kp hx (by decide), r1⟩, xup_self _ _ _, ⟨hx.at t1 (by decide), hx.at t2 (by decide), hx.at t3 (by decide), hx.at t4 (by decide)⟩, hx.at r3 (by decide), ⟨r4, fun a ha => (xup_ne (by omega)).trans (r5 a ha)⟩, r6⟩
theorem RS.r {h0 h : xHp} {rc : Nat} {fc : Int32} {lf : Nat → Int32} {ra : Nat → Nat} {V : Nat → RV} {fr : Nat → Int32} {fn : Nat} {fs : Nat → Int32} {cl : Nat} {ts : Nat} {ty : Nat → Int32} {st : Nat → Int32} {wd : Nat → Int64} {q : PQ} {v : RV} {k : Nat} {flt plc : Int32} (R : RS h0 h rc fc lf ra V fr fn fs cl ts ty st wd q v k flt plc) : h.1 181 = some (.inr (7, [.ref 3, .ref 182, .int (nI k), .ref 186, .int (nI fn), .int (nI cl), .int flt, .int plc])) := R.2.1
theorem RS.t {h0 h : xHp} {rc : Nat} {fc : Int32} {lf : Nat → Int32} {ra : Nat → Nat} {V : Nat → RV} {fr : Nat → Int32} {fn : Nat} {fs : Nat → Int32} {cl : Nat} {ts : Nat} {ty : Nat → Int32} {st : Nat → Int32} {wd : Nat → Int64} {q : PQ} {v : RV} {k : Nat} {flt plc : Int32} (R : RS h0 h rc fc lf ra V fr fn fs cl ts ty st wd q v k flt plc) : tokH h ts ty st wd := R.2.2.1
theorem RS.l {h0 h : xHp} {rc : Nat} {fc : Int32} {lf : Nat → Int32} {ra : Nat → Nat} {V : Nat → RV} {fr : Nat → Int32} {fn : Nat} {fs : Nat → Int32} {cl : Nat} {ts : Nat} {ty : Nat → Int32} {st : Nat → Int32} {wd : Nat → Int64} {q : PQ} {v : RV} {k : Nat} {flt plc : Int32} (R : RS h0 h rc fc lf ra V fr fn fs cl ts ty st wd q v k flt plc) : rlV h (ra rc) v := by
  obtain ⟨⟨kw, tw, pf, b, r1⟩, r2⟩ := R
  have h9 := b.1.2.2.2.2.2.1.2 rc (by have := r2.2.2.2.2.2.2.1; omega)
  rw [apF_at] at h9
  exact h9
theorem RS.z {h0 h : xHp} {rc : Nat} {fc : Int32} {lf : Nat → Int32} {ra : Nat → Nat} {V : Nat → RV} {fr : Nat → Int32} {fn : Nat} {fs : Nat → Int32} {cl : Nat} {ts : Nat} {ty : Nat → Int32} {st : Nat → Int32} {wd : Nat → Int64} {q : PQ} {v : RV} {k : Nat} {flt plc : Int32} (R : RS h0 h rc fc lf ra V fr fn fs cl ts ty st wd q v k flt plc) : q.1 ≤ 10 ∧ q.2.2.1 ≤ 10 ∧ rc ≤ 20 ∧ v.2.2.1 ≤ 4 ∧ v.2.2.2.2 ≤ 3 := R.2.2.2.2.2
theorem RS.a {h0 h : xHp} {rc : Nat} {fc : Int32} {lf : Nat → Int32} {ra : Nat → Nat} {V : Nat → RV} {fr : Nat → Int32} {fn : Nat} {fs : Nat → Int32} {cl : Nat} {ts : Nat} {ty : Nat → Int32} {st : Nat → Int32} {wd : Nat → Int64} {q : PQ} {v : RV} {k : Nat} {flt plc : Int32} (R : RS h0 h rc fc lf ra V fr fn fs cl ts ty st wd q v k flt plc) : ∃ ρ, ρ < 21 ∧ ra rc = 13 + 8 * ρ := by
  obtain ⟨⟨kw, tw, pf, b, r1⟩, r2⟩ := R
  exact b.1.2.2.2.2.2.2 rc (by have := r2.2.2.2.2.2.2.1; omega)
theorem RS.b {h0 h : xHp} {rc : Nat} {fc : Int32} {lf : Nat → Int32} {ra : Nat → Nat} {V : Nat → RV} {fr : Nat → Int32} {fn : Nat} {fs : Nat → Int32} {cl : Nat} {ts : Nat} {ty : Nat → Int32} {st : Nat → Int32} {wd : Nat → Int64} {q : PQ} {v : RV} {k : Nat} {flt plc : Int32} (R : RS h0 h rc fc lf ra V fr fn fs cl ts ty st wd q v k flt plc) : h.1 3 = some (bC 4 6 8 9 11 rc 12 fc) ∧ h.1 4 = some (.inr (6, [.ref 5, .int (nI q.2.2.1)])) ∧ h.1 6 = some (.inr (6, [.ref 7, .int (nI q.1)])) := by
  obtain ⟨⟨kw, tw, pf, b, r1⟩, r2⟩ := R
  exact ⟨b.1.1, b.1.2.1, b.1.2.2.1⟩
set_option maxRecDepth 100000 in
set_option maxHeartbeats 4000000 in
theorem k_X7_type {G : xG} {h0 h : xHp} {rc : Nat} {fc : Int32} {lf : Nat → Int32} {ra : Nat → Nat} {V : Nat → RV} {fr : Nat → Int32} {fn : Nat} {fs : Nat → Int32} {cl : Nat} {ts : Nat} {ty : Nat → Int32} {st : Nat → Int32} {wd : Nat → Int64} {q : PQ} {v : RV} {k : Nat} {flt plc : Int32} (R : RS h0 h rc fc lf ra V fr fn fs cl ts ty st wd q v k flt plc) {tk : Nat → Tk} (O : tkO ts tk ty st wd) (hk : k < ts) : MX G mX7_type 1 0 0 [.ref 181] h (xAns (.int (nI (tk k).1)) h) := by
  have hts := O.1.2
  refine MX.of [(0, .ref 181)] (by decide) rfl (Nat.le_of_ble_eq_true rfl) rfl ?_
  refine x_aload_n dX7_type_0 rfl ?_
  refine x_get lf_X7_48 dX7_type_1 R.r rfl ?_
  refine x_aload_n dX7_type_4 rfl ?_
  refine x_get lf_X7_12 dX7_type_5 R.r rfl ?_
  refine x_get lf_X7_196 dX7_type_8 R.t.1 rfl ?_
  refine x_icmp_ge 29 dX7_type_11 (by decide) (fun c_11 => ?_) (fun c_11 => ?_)
  · rw [nI_leI (by omega) (by omega)] at c_11
    refine x_iconst (v := 0) dX7_type_29 (by decide) ?_
    first | exact x_iret dX7_type_30 rfl rfl (Nat.le_refl _) (Nat.le_refl _) ⟨rfl, rfl⟩ | (exfalso; omega)
  · rw [nI_leI (by omega) (by omega)] at c_11
    refine x_aload_n dX7_type_14 rfl ?_
    refine x_get lf_X7_12 dX7_type_15 R.r rfl ?_
    refine x_get lf_X7_197 dX7_type_18 R.t.1 rfl ?_
    refine x_aload_n dX7_type_21 rfl ?_
    refine x_get lf_X7_48 dX7_type_22 R.r rfl ?_
    refine x_ialdN (j := k) R.t.2.1 rfl (by omega) (by decide) dX7_type_25 ?_
    refine x_top (O.2.1 k hk).1 ?_
    refine x_goto 30 dX7_type_26 (by decide) ?_
    first | exact x_iret dX7_type_30 rfl rfl (Nat.le_refl _) (Nat.le_refl _) ⟨rfl, rfl⟩ | (exfalso; omega)
set_option maxRecDepth 100000 in
set_option maxHeartbeats 4000000 in
theorem k_X7_start {G : xG} {h0 h : xHp} {rc : Nat} {fc : Int32} {lf : Nat → Int32} {ra : Nat → Nat} {V : Nat → RV} {fr : Nat → Int32} {fn : Nat} {fs : Nat → Int32} {cl : Nat} {ts : Nat} {ty : Nat → Int32} {st : Nat → Int32} {wd : Nat → Int64} {q : PQ} {v : RV} {k : Nat} {flt plc : Int32} (R : RS h0 h rc fc lf ra V fr fn fs cl ts ty st wd q v k flt plc) {tk : Nat → Tk} (O : tkO ts tk ty st wd) (hk : k < ts) : MX G mX7_start 1 0 0 [.ref 181] h (xAns (.int (nI (tk k).2.1)) h) := by
  have hts := O.1.2
  refine MX.of [(0, .ref 181)] (by decide) rfl (Nat.le_of_ble_eq_true rfl) rfl ?_
  refine x_aload_n dX7_start_0 rfl ?_
  refine x_get lf_X7_48 dX7_start_1 R.r rfl ?_
  refine x_aload_n dX7_start_4 rfl ?_
  refine x_get lf_X7_12 dX7_start_5 R.r rfl ?_
  refine x_get lf_X7_196 dX7_start_8 R.t.1 rfl ?_
  refine x_icmp_ge 29 dX7_start_11 (by decide) (fun c_11 => ?_) (fun c_11 => ?_)
  · rw [nI_leI (by omega) (by omega)] at c_11
    refine x_iconst (v := (-1)) dX7_start_29 (by decide) ?_
    first | exact x_iret dX7_start_30 rfl rfl (Nat.le_refl _) (Nat.le_refl _) ⟨rfl, rfl⟩ | (exfalso; omega)
  · rw [nI_leI (by omega) (by omega)] at c_11
    refine x_aload_n dX7_start_14 rfl ?_
    refine x_get lf_X7_12 dX7_start_15 R.r rfl ?_
    refine x_get lf_X7_200 dX7_start_18 R.t.1 rfl ?_
    refine x_aload_n dX7_start_21 rfl ?_
    refine x_get lf_X7_48 dX7_start_22 R.r rfl ?_
    refine x_ialdN (j := k) R.t.2.2.1 rfl (by omega) (by decide) dX7_start_25 ?_
    refine x_top (O.2.1 k hk).2.1 ?_
    refine x_goto 30 dX7_start_26 (by decide) ?_
    first | exact x_iret dX7_start_30 rfl rfl (Nat.le_refl _) (Nat.le_refl _) ⟨rfl, rfl⟩ | (exfalso; omega)
set_option maxRecDepth 100000 in
set_option maxHeartbeats 4000000 in
theorem k_X7_nextType {G : xG} {h0 h : xHp} {rc : Nat} {fc : Int32} {lf : Nat → Int32} {ra : Nat → Nat} {V : Nat → RV} {fr : Nat → Int32} {fn : Nat} {fs : Nat → Int32} {cl : Nat} {ts : Nat} {ty : Nat → Int32} {st : Nat → Int32} {wd : Nat → Int64} {q : PQ} {v : RV} {k : Nat} {flt plc : Int32} (R : RS h0 h rc fc lf ra V fr fn fs cl ts ty st wd q v k flt plc) {tk : Nat → Tk} (O : tkO ts tk ty st wd) (hk : k < ts) (hk1 : k + 1 < ts) : MX G mX7_nextType 1 0 0 [.ref 181] h (xAns (.int (nI (tk (k + 1)).1)) h) := by
  have hts := O.1.2
  refine MX.of [(0, .ref 181)] (by decide) rfl (Nat.le_of_ble_eq_true rfl) rfl ?_
  refine x_aload_n dX7_nextType_0 rfl ?_
  refine x_get lf_X7_48 dX7_nextType_1 R.r rfl ?_
  refine x_iconst (v := 1) dX7_nextType_4 (by decide) ?_
  refine x_iadd dX7_nextType_5 ?_
  refine x_top (y := nI (k + 1)) (nI_add k 1) ?_
  refine x_aload_n dX7_nextType_6 rfl ?_
  refine x_get lf_X7_12 dX7_nextType_7 R.r rfl ?_
  refine x_get lf_X7_196 dX7_nextType_10 R.t.1 rfl ?_
  refine x_icmp_ge 33 dX7_nextType_13 (by decide) (fun c_13 => ?_) (fun c_13 => ?_)
  · rw [nI_leI (by omega) (by omega)] at c_13
    refine x_iconst (v := 0) dX7_nextType_33 (by decide) ?_
    first | exact x_iret dX7_nextType_34 rfl rfl (Nat.le_refl _) (Nat.le_refl _) ⟨rfl, rfl⟩ | (exfalso; omega)
  · rw [nI_leI (by omega) (by omega)] at c_13
    refine x_aload_n dX7_nextType_16 rfl ?_
    refine x_get lf_X7_12 dX7_nextType_17 R.r rfl ?_
    refine x_get lf_X7_197 dX7_nextType_20 R.t.1 rfl ?_
    refine x_aload_n dX7_nextType_23 rfl ?_
    refine x_get lf_X7_48 dX7_nextType_24 R.r rfl ?_
    refine x_iconst (v := 1) dX7_nextType_27 (by decide) ?_
    refine x_iadd dX7_nextType_28 ?_
    refine x_top (y := nI (k + 1)) (nI_add k 1) ?_
    refine x_ialdN (j := k + 1) R.t.2.1 rfl (by omega) (by decide) dX7_nextType_29 ?_
    refine x_top (O.2.1 (k + 1) hk1).1 ?_
    refine x_goto 34 dX7_nextType_30 (by decide) ?_
    first | exact x_iret dX7_nextType_34 rfl rfl (Nat.le_refl _) (Nat.le_refl _) ⟨rfl, rfl⟩ | (exfalso; omega)
set_option maxRecDepth 100000 in
set_option maxHeartbeats 4000000 in
theorem k_X7_fail {G : xG} {h0 h : xHp} {rc : Nat} {fc : Int32} {lf : Nat → Int32} {ra : Nat → Nat} {V : Nat → RV} {fr : Nat → Int32} {fn : Nat} {fs : Nat → Int32} {cl : Nat} {ts : Nat} {ty : Nat → Int32} {st : Nat → Int32} {wd : Nat → Int64} {q : PQ} {v : RV} {k : Nat} {flt plc : Int32} (R : RS h0 h rc fc lf ra V fr fn fs cl ts ty st wd q v k flt plc) {e p : Int32} : MX G mX7_fail 1 0 0 [.ref 181, .int e, .int p] h (fun o h' => o = .inl (some (.int 0)) ∧ RS h0 h' rc fc lf ra V fr fn fs cl ts ty st wd q v k e p) := by
  refine MX.of [(0, .ref 181), (1, .int e), (2, .int p)] (by decide) rfl (Nat.le_of_ble_eq_true rfl) rfl ?_
  refine x_aload_n dX7_fail_0 rfl ?_
  refine x_iload_n dX7_fail_1 rfl ?_
  refine x_put [.ref 3, .ref 182, .int (nI k), .ref 186, .int (nI fn), .int (nI cl), .int e, .int plc] lf_X7_57 dX7_fail_2 R.r (Nat.le_of_ble_eq_true rfl) rfl rfl rfl ?_
  refine x_aload_n dX7_fail_5 rfl ?_
  refine x_iload_n dX7_fail_6 rfl ?_
  refine x_put [.ref 3, .ref 182, .int (nI k), .ref 186, .int (nI fn), .int (nI cl), .int e, .int p] lf_X7_60 dX7_fail_7 (xup_self _ _ _) (Nat.le_of_ble_eq_true rfl) rfl rfl rfl ?_
  refine x_iconst (v := 0) dX7_fail_10 (by decide) ?_
  refine x_iret dX7_fail_11 rfl rfl (Nat.le_refl _) (Nat.le_refl _) ⟨rfl, ?_⟩
  rw [xup_up]
  exact R.rd k e p
