/-! RuleCourt$Reader: an ATOM -/
def plC (f : Nat → Int32) : Nat := if f 2 = -1 then 0 else if f 3 = -1 then 1 else 2
def pcU (q : PQ) (kd x : Nat) : PQ := (q.1, q.2.1, q.2.2.1, q.2.2.2.1, apF q.2.2.2.2 kd x)
def pHas (q : PQ) (f : Nat → Int32) (kd pl : Nat) (new : Bool) : (Nat × Nat) ⊕ PQ := if (if new = true then pcU q kd (plC f) else q).2.2.2.2 kd = plC f then .inr (if new = true then pcU q kd (plC f) else q) else .inl (2, pl)
abbrev NOTW : List Nat := [14, 15, 20]
def pFin (q : PQ) (v : RV) (i kd pl : Nat) (new : Bool) (k : Nat) : (Nat × Nat) ⊕ (PQ × RV × Nat) := match pHas q (tmI v i) kd pl new with
  | .inl e => .inl e
  | .inr q' => .inr (q', v, k)
def pAt2 (tk : Nat → Tk) (q : PQ) (v : RV) (k i kd pl : Nat) (new : Bool) : (Nat × Nat) ⊕ (PQ × RV × Nat) := if (tk k).1 = 41 then pFin q v i kd pl new (k + 1) else .inl (1, (tk k).2.1)
def pAt1 (tk : Nat → Tk) (q : PQ) (v : RV) (k i kd pl : Nat) (new : Bool) : (Nat × Nat) ⊕ (PQ × RV × Nat) := if (tk k).1 = 40 then
    match pArg tk q v (k + 1) i true with
    | .inl e => .inl e
    | .inr (q2, v2) => if (tk (k + 2)).1 = 44 then (match pArg tk q2 v2 (k + 3) i false with
        | .inl e => .inl e
        | .inr (q3, v3) => pAt2 tk q3 v3 (k + 4) i kd pl new) else pAt2 tk q2 v2 (k + 2) i kd pl new
  else pFin q v i kd pl new k
def kdV (v : RV) (i kd pl : Nat) : RV := stT v i (upd (upd (tmI v i) 1 (nI kd)) 4 (nI pl))
def pAtom (tk : Nat → Tk) (q : PQ) (v : RV) (k i : Nat) : (Nat × Nat) ⊕ (PQ × RV × Nat) :=
  if (tk k).1 = 2 ∧ ¬ (tk k).2.2 = NOTW then
    if wLook q.2.2.2.1 (tk k).2.2 q.2.2.1 < q.2.2.1 then pAt1 tk q (kdV v i (wLook q.2.2.2.1 (tk k).2.2 q.2.2.1) (tk k).2.1) (k + 1) i (wLook q.2.2.2.1 (tk k).2.2 q.2.2.1) (tk k).2.1 false
    else if q.2.2.1 < 10 then pAt1 tk (q.1, q.2.1, q.2.2.1 + 1, apF q.2.2.2.1 q.2.2.1 (tk k).2.2, q.2.2.2.2) (kdV v i q.2.2.1 (tk k).2.1) (k + 1) i q.2.2.1 (tk k).2.1 true
    else .inl (4, (tk k).2.1)
  else .inl (1, (tk k).2.1)
theorem extQ_pc {q q3 : PQ} {kd x : Nat} (h : extQ q q3) (hk : q.2.2.1 ≤ kd) : extQ q (pcU q3 kd x) := ⟨h.1, h.2.1, h.2.2.1, fun k hk2 => ⟨(h.2.2.2 k hk2).1, (show apF q3.2.2.2.2 kd x k = _ from apF_ne (by omega)).trans (h.2.2.2 k hk2).2⟩⟩
theorem plC_lt (f : Nat → Int32) : plC f < 3 := by
  unfold plC
  split
  · omega
  · split <;> omega
theorem stT_tm (v : RV) (i : Nat) (f : Nat → Int32) : tmI (stT v i f) i = f := by
  cases i with
  | zero => rfl
  | succ j => show (if j = j then f else v.2.1 j) = f; rw [if_pos rfl]
theorem stT_tw (v : RV) (i : Nat) (f g : Nat → Int32) : stT (stT v i f) i g = stT v i g := by
  cases i with
  | zero => rfl
  | succ j =>
    show (v.1, (fun m => if m = j then g else (if m = j then f else v.2.1 m)), v.2.2) = (v.1, (fun m => if m = j then g else v.2.1 m), v.2.2)
    congr 2
    funext m
    by_cases e : m = j
    · rw [if_pos e, if_pos e]
    · rw [if_neg e, if_neg e, if_neg e]
theorem RS.pc {h0 h : xHp} {rc : Nat} {fc : Int32} {lf : Nat → Int32} {ra : Nat → Nat} {V : Nat → RV} {fr : Nat → Int32} {fn : Nat} {fs : Nat → Int32} {cl : Nat} {ts : Nat} {ty : Nat → Int32} {st : Nat → Int32} {wd : Nat → Int64} {q : PQ} {v : RV} {k : Nat} {flt plc : Int32} (R : RS h0 h rc fc lf ra V fr fn fs cl ts ty st wd q v k flt plc) {pf : Nat → Int32} (hp : h.1 8 = some (.inl (0, 10, .inl pf))) {kd x : Nat} (hx : x < 3) : RS h0 (xup h 8 (.inl (0, 10, .inl (upd pf kd (nI x))))) rc fc lf ra V fr fn fs cl ts ty st wd (pcU q kd x) v k flt plc := by
  obtain ⟨⟨kw, tw, pf', b, hT, hK, hpf⟩, r2, ⟨t1, t2, t3, t4⟩, r3, ⟨r4, r5⟩, r6⟩ := R
  have e : pf' = pf := by
    have := b.2.2.2.1.symm.trans hp
    injection this with this
    injection this with this
    injection this with _ this
    injection this with _ this
    injection this
  subst e
  have hx9 : xfr h (xup h 8 (.inl (0, 10, .inl (upd pf' kd (nI x))))) [8] := (xfr_rf _ _).up (by decide)
  obtain ⟨⟨b1, b2, b3, b4, b5, ⟨⟨rf, b6, b7⟩, b8⟩, b9⟩, c1, c2, c3, c4, c5⟩ := b
  refine ⟨⟨kw, tw, upd pf' kd (nI x), ⟨⟨hx9.at b1 (by decide), hx9.at b2 (by decide), hx9.at b3 (by decide), hx9.at b4 (by decide), hx9.at b5 (by decide), ⟨⟨rf, hx9.at b6 (by decide), b7⟩, fun j hj => rlV_fr (b8 j hj) hx9 (b9 j hj) (by decide)⟩, b9⟩, hx9.at c1 (by decide), hx9.at c2 (by decide), xup_self _ _ _, hx9.at c4 (by decide), c5⟩, hT, hK, fun j hj => ?_⟩, hx9.at r2 (by decide), ⟨hx9.at t1 (by decide), hx9.at t2 (by decide), hx9.at t3 (by decide), hx9.at t4 (by decide)⟩, hx9.at r3 (by decide), ⟨r4, fun a ha => (xup_ne (by omega)).trans (r5 a ha)⟩, r6⟩
  show upd pf' kd (nI x) j = nI (apF q.2.2.2.2 kd x j) ∧ apF q.2.2.2.2 kd x j < 3
  unfold upd apF
  by_cases e : j = kd
  · rw [if_pos e, if_pos e]; exact ⟨rfl, hx⟩
  · rw [if_neg e, if_neg e]; exact hpf j hj
theorem RS.pl {h0 h : xHp} {rc : Nat} {fc : Int32} {lf : Nat → Int32} {ra : Nat → Nat} {V : Nat → RV} {fr : Nat → Int32} {fn : Nat} {fs : Nat → Int32} {cl : Nat} {ts : Nat} {ty : Nat → Int32} {st : Nat → Int32} {wd : Nat → Int64} {q : PQ} {v : RV} {k : Nat} {flt plc : Int32} (R : RS h0 h rc fc lf ra V fr fn fs cl ts ty st wd q v k flt plc) : ∃ pf : Nat → Int32, h.1 8 = some (.inl (0, 10, .inl pf)) ∧ ∀ j, j < 10 → pf j = nI (q.2.2.2.2 j) ∧ q.2.2.2.2 j < 3 := by
  obtain ⟨⟨kw, tw, pf, b, hT, hK, hpf⟩, r2⟩ := R
  exact ⟨pf, b.2.2.2.1, hpf⟩
theorem pc_lt {q : PQ} {nw : Bool} {kd x : Nat} (hx : x < 3) (h : q.2.2.2.2 kd < 3) : (if nw = true then pcU q kd x else q).2.2.2.2 kd < 3 := by
  cases nw with
  | true => show apF q.2.2.2.2 kd x kd < 3; rw [apF_at]; exact hx
  | false => exact h
set_option maxRecDepth 100000 in
set_option maxHeartbeats 4000000 in
theorem k_X7_hasItsPlaces {G : xG} {h0 h : xHp} {rc : Nat} {fc : Int32} {lf : Nat → Int32} {ra : Nat → Nat} {V : Nat → RV} {fr : Nat → Int32} {fn : Nat} {fs : Nat → Int32} {cl : Nat} {ts : Nat} {ty : Nat → Int32} {st : Nat → Int32} {wd : Nat → Int64} {q : PQ} {v : RV} {k : Nat} {flt plc : Int32} (R : RS h0 h rc fc lf ra V fr fn fs cl ts ty st wd q v k flt plc) {i kd pl : Nat} (hi : i ≤ 4) (hkd : kd < 10) (hf1 : tmI v i 1 = nI kd) (hf4 : tmI v i 4 = nI pl) {nw : Bool} : MX G mX7_hasItsPlaces 2 0 0 [.ref 181, .ref (tAd (ra rc) i), .int (bi nw)] h (fun o h' => (pHas q (tmI v i) kd pl nw = .inl (2, pl) ∧ o = .inl (some (.int 0)) ∧ RS h0 h' rc fc lf ra V fr fn fs cl ts ty st wd q v k 2 (nI pl)) ∨ (∃ q', pHas q (tmI v i) kd pl nw = .inr q' ∧ o = .inl (some (.int 1)) ∧ RS h0 h' rc fc lf ra V fr fn fs cl ts ty st wd (q') v k flt plc)) := by
  obtain ⟨pf, hp1, hp2⟩ := R.pl
  obtain ⟨ρ9, hρ9, hra9⟩ := R.a
  obtain ⟨z91, z92, -⟩ := tAd_in (a := ra rc) hi
  refine MX.of [(0, .ref 181), (1, .ref (tAd (ra rc) i)), (2, .int (bi nw))] (by decide) rfl (Nat.le_of_ble_eq_true rfl) rfl ?_
  refine x_aload_n dX7_hasItsPlaces_0 rfl ?_
  refine x_get lf_X7_136 dX7_hasItsPlaces_1 (R.tm hi) rfl ?_
  refine x_iconst (v := (-1)) dX7_hasItsPlaces_4 (by decide) ?_
  refine x_icmp_ne 12 dX7_hasItsPlaces_5 (by decide) (fun c_5 => ?_) (fun c_5 => ?_)
  · refine x_aload_n dX7_hasItsPlaces_12 rfl ?_
    refine x_get lf_X7_142 dX7_hasItsPlaces_13 (R.tm hi) rfl ?_
    refine x_iconst (v := (-1)) dX7_hasItsPlaces_16 (by decide) ?_
    refine x_icmp_ne 24 dX7_hasItsPlaces_17 (by decide) (fun c_17 => ?_) (fun c_17 => ?_)
    · refine x_iconst (v := 2) dX7_hasItsPlaces_24 (by decide) ?_
      refine x_top (y := nI (plC (tmI v i))) (by unfold plC; rw [if_neg c_5, if_neg c_17]; rfl) ?_
      have hpl3 := plC_lt (tmI v i)
      refine x_istore_n [(0, .ref 181), (1, .ref (tAd (ra rc) i)), (2, .int (bi nw)), (3, .int (nI (plC (tmI v i))))] dX7_hasItsPlaces_25 (by decide) rfl rfl ?_
      refine x_iload_n dX7_hasItsPlaces_26 rfl ?_
      refine x_if_eq 43 dX7_hasItsPlaces_27 (by decide) (fun c_27 => ?_) (fun c_27 => ?_)
      · have c_27 := bi_f c_27
        refine x_aload_n dX7_hasItsPlaces_43 rfl ?_
        refine x_get lf_X7_22 dX7_hasItsPlaces_44 R.r rfl ?_
        refine x_get lf_X7_185 dX7_hasItsPlaces_47 R.b.1 rfl ?_
        refine x_aload_n dX7_hasItsPlaces_50 rfl ?_
        refine x_get lf_X7_154 dX7_hasItsPlaces_51 (R.tm hi) rfl ?_
        refine x_top (y := nI kd) hf1 ?_
        refine x_ialdN (j := kd) hp1 rfl (by omega) (by decide) dX7_hasItsPlaces_54 ?_
        refine x_top (y := nI ((if nw = true then pcU q kd (plC (tmI v i)) else q).2.2.2.2 kd)) (by rw [if_neg (by rw [c_27]; decide)]; exact (hp2 kd hkd).1) ?_
        have hp9 := pc_lt (nw := nw) hpl3 (hp2 kd hkd).2
        refine x_iload_n dX7_hasItsPlaces_55 rfl ?_
        refine x_icmp_eq 69 dX7_hasItsPlaces_56 (by decide) (fun c_56 => ?_) (fun c_56 => ?_)
        · rw [nI_eq (by omega) (by omega)] at c_56
          refine x_iconst (v := 1) dX7_hasItsPlaces_69 (by decide) ?_
          exact x_iret dX7_hasItsPlaces_70 rfl rfl (Nat.le_refl _) (Nat.le_refl _) (Or.inr ⟨_, (by unfold pHas; rw [if_pos c_56]), rfl, by rw [if_neg (by rw [c_27]; decide)]; exact R⟩)
        · rw [nI_eq (by omega) (by omega)] at c_56
          refine x_aload_n dX7_hasItsPlaces_59 rfl ?_
          refine x_iconst (v := 2) dX7_hasItsPlaces_60 (by decide) ?_
          refine x_aload_n dX7_hasItsPlaces_61 rfl ?_
          refine x_get lf_X7_99 dX7_hasItsPlaces_62 (R.tm hi) rfl ?_
          refine x_top (y := nI pl) hf4 ?_
          refine x_callV (As := [.int 2, .int (nI pl)]) (st := []) lv_X7_104 (k_X7_fail R) dX7_hasItsPlaces_65 R.r rfl rfl (Nat.le_of_ble_eq_true rfl) ⟨by decide, by decide⟩ ⟨by decide, by decide⟩ (fun v9 hF z => ?_) (fun _ _ _ _ _ z => by cases z.1)
          obtain ⟨ev, RF⟩ := z
          cases ev
          exact x_iret dX7_hasItsPlaces_68 rfl rfl (Nat.le_refl _) (Nat.le_refl _) (Or.inl ⟨(by unfold pHas; rw [if_neg c_56]), rfl, RF⟩)
      · have c_27 := bi_t c_27
        refine x_aload_n dX7_hasItsPlaces_30 rfl ?_
        refine x_get lf_X7_22 dX7_hasItsPlaces_31 R.r rfl ?_
        refine x_get lf_X7_185 dX7_hasItsPlaces_34 R.b.1 rfl ?_
        refine x_aload_n dX7_hasItsPlaces_37 rfl ?_
        refine x_get lf_X7_154 dX7_hasItsPlaces_38 (R.tm hi) rfl ?_
        refine x_top (y := nI kd) hf1 ?_
        refine x_iload_n dX7_hasItsPlaces_41 rfl ?_
        refine x_iastN (j := kd) hp1 rfl (by omega) (by decide) dX7_hasItsPlaces_42 ?_
        refine x_aload_n dX7_hasItsPlaces_43 rfl ?_
        refine x_get lf_X7_22 dX7_hasItsPlaces_44 ((xup_ne (by decide)).trans R.r) rfl ?_
        refine x_get lf_X7_185 dX7_hasItsPlaces_47 ((xup_ne (by decide)).trans R.b.1) rfl ?_
        refine x_aload_n dX7_hasItsPlaces_50 rfl ?_
        refine x_get lf_X7_154 dX7_hasItsPlaces_51 ((xup_ne (by omega)).trans (R.tm hi)) rfl ?_
        refine x_top (y := nI kd) hf1 ?_
        refine x_ialdN (j := kd) (xup_self _ _ _) rfl (by omega) (by decide) dX7_hasItsPlaces_54 ?_
        refine x_top (y := nI ((if nw = true then pcU q kd (plC (tmI v i)) else q).2.2.2.2 kd)) (by rw [if_pos c_27, upd_at9]; show _ = nI (apF q.2.2.2.2 kd (plC (tmI v i)) kd); rw [apF_at]) ?_
        have hp9 := pc_lt (nw := nw) hpl3 (hp2 kd hkd).2
        refine x_iload_n dX7_hasItsPlaces_55 rfl ?_
        refine x_icmp_eq 69 dX7_hasItsPlaces_56 (by decide) (fun c_56 => ?_) (fun c_56 => ?_)
        · rw [nI_eq (by omega) (by omega)] at c_56
          refine x_iconst (v := 1) dX7_hasItsPlaces_69 (by decide) ?_
          exact x_iret dX7_hasItsPlaces_70 rfl rfl (Nat.le_refl _) (Nat.le_refl _) (Or.inr ⟨_, (by unfold pHas; rw [if_pos c_56]), rfl, by rw [if_pos c_27]; exact R.pc hp1 (kd := kd) hpl3⟩)
        · rw [nI_eq (by omega) (by omega)] at c_56
          refine x_aload_n dX7_hasItsPlaces_59 rfl ?_
          refine x_iconst (v := 2) dX7_hasItsPlaces_60 (by decide) ?_
          refine x_aload_n dX7_hasItsPlaces_61 rfl ?_
          refine x_get lf_X7_99 dX7_hasItsPlaces_62 ((xup_ne (by omega)).trans (R.tm hi)) rfl ?_
          refine x_top (y := nI pl) hf4 ?_
          have R7 := R.pc hp1 (kd := kd) hpl3
          refine x_callV (As := [.int 2, .int (nI pl)]) (st := []) lv_X7_104 (k_X7_fail R7) dX7_hasItsPlaces_65 R7.r rfl rfl (Nat.le_of_ble_eq_true rfl) ⟨by decide, by decide⟩ ⟨by decide, by decide⟩ (fun v9 hF z => ?_) (fun _ _ _ _ _ z => by cases z.1)
          obtain ⟨ev, RF⟩ := z
          cases ev
          exact absurd (by rw [if_pos c_27]; exact apF_at _ _ _) c_56
    · refine x_iconst (v := 1) dX7_hasItsPlaces_20 (by decide) ?_
      refine x_goto 25 dX7_hasItsPlaces_21 (by decide) ?_
      refine x_top (y := nI (plC (tmI v i))) (by unfold plC; rw [if_neg c_5, if_pos c_17]; rfl) ?_
      have hpl3 := plC_lt (tmI v i)
      refine x_istore_n [(0, .ref 181), (1, .ref (tAd (ra rc) i)), (2, .int (bi nw)), (3, .int (nI (plC (tmI v i))))] dX7_hasItsPlaces_25 (by decide) rfl rfl ?_
      refine x_iload_n dX7_hasItsPlaces_26 rfl ?_
      refine x_if_eq 43 dX7_hasItsPlaces_27 (by decide) (fun c_27 => ?_) (fun c_27 => ?_)
      · have c_27 := bi_f c_27
        refine x_aload_n dX7_hasItsPlaces_43 rfl ?_
        refine x_get lf_X7_22 dX7_hasItsPlaces_44 R.r rfl ?_
        refine x_get lf_X7_185 dX7_hasItsPlaces_47 R.b.1 rfl ?_
        refine x_aload_n dX7_hasItsPlaces_50 rfl ?_
        refine x_get lf_X7_154 dX7_hasItsPlaces_51 (R.tm hi) rfl ?_
        refine x_top (y := nI kd) hf1 ?_
        refine x_ialdN (j := kd) hp1 rfl (by omega) (by decide) dX7_hasItsPlaces_54 ?_
        refine x_top (y := nI ((if nw = true then pcU q kd (plC (tmI v i)) else q).2.2.2.2 kd)) (by rw [if_neg (by rw [c_27]; decide)]; exact (hp2 kd hkd).1) ?_
        have hp9 := pc_lt (nw := nw) hpl3 (hp2 kd hkd).2
        refine x_iload_n dX7_hasItsPlaces_55 rfl ?_
        refine x_icmp_eq 69 dX7_hasItsPlaces_56 (by decide) (fun c_56 => ?_) (fun c_56 => ?_)
        · rw [nI_eq (by omega) (by omega)] at c_56
          refine x_iconst (v := 1) dX7_hasItsPlaces_69 (by decide) ?_
          exact x_iret dX7_hasItsPlaces_70 rfl rfl (Nat.le_refl _) (Nat.le_refl _) (Or.inr ⟨_, (by unfold pHas; rw [if_pos c_56]), rfl, by rw [if_neg (by rw [c_27]; decide)]; exact R⟩)
        · rw [nI_eq (by omega) (by omega)] at c_56
          refine x_aload_n dX7_hasItsPlaces_59 rfl ?_
          refine x_iconst (v := 2) dX7_hasItsPlaces_60 (by decide) ?_
          refine x_aload_n dX7_hasItsPlaces_61 rfl ?_
          refine x_get lf_X7_99 dX7_hasItsPlaces_62 (R.tm hi) rfl ?_
          refine x_top (y := nI pl) hf4 ?_
          refine x_callV (As := [.int 2, .int (nI pl)]) (st := []) lv_X7_104 (k_X7_fail R) dX7_hasItsPlaces_65 R.r rfl rfl (Nat.le_of_ble_eq_true rfl) ⟨by decide, by decide⟩ ⟨by decide, by decide⟩ (fun v9 hF z => ?_) (fun _ _ _ _ _ z => by cases z.1)
          obtain ⟨ev, RF⟩ := z
          cases ev
          exact x_iret dX7_hasItsPlaces_68 rfl rfl (Nat.le_refl _) (Nat.le_refl _) (Or.inl ⟨(by unfold pHas; rw [if_neg c_56]), rfl, RF⟩)
      · have c_27 := bi_t c_27
        refine x_aload_n dX7_hasItsPlaces_30 rfl ?_
        refine x_get lf_X7_22 dX7_hasItsPlaces_31 R.r rfl ?_
        refine x_get lf_X7_185 dX7_hasItsPlaces_34 R.b.1 rfl ?_
        refine x_aload_n dX7_hasItsPlaces_37 rfl ?_
        refine x_get lf_X7_154 dX7_hasItsPlaces_38 (R.tm hi) rfl ?_
        refine x_top (y := nI kd) hf1 ?_
        refine x_iload_n dX7_hasItsPlaces_41 rfl ?_
        refine x_iastN (j := kd) hp1 rfl (by omega) (by decide) dX7_hasItsPlaces_42 ?_
        refine x_aload_n dX7_hasItsPlaces_43 rfl ?_
        refine x_get lf_X7_22 dX7_hasItsPlaces_44 ((xup_ne (by decide)).trans R.r) rfl ?_
        refine x_get lf_X7_185 dX7_hasItsPlaces_47 ((xup_ne (by decide)).trans R.b.1) rfl ?_
        refine x_aload_n dX7_hasItsPlaces_50 rfl ?_
        refine x_get lf_X7_154 dX7_hasItsPlaces_51 ((xup_ne (by omega)).trans (R.tm hi)) rfl ?_
        refine x_top (y := nI kd) hf1 ?_
        refine x_ialdN (j := kd) (xup_self _ _ _) rfl (by omega) (by decide) dX7_hasItsPlaces_54 ?_
        refine x_top (y := nI ((if nw = true then pcU q kd (plC (tmI v i)) else q).2.2.2.2 kd)) (by rw [if_pos c_27, upd_at9]; show _ = nI (apF q.2.2.2.2 kd (plC (tmI v i)) kd); rw [apF_at]) ?_
        have hp9 := pc_lt (nw := nw) hpl3 (hp2 kd hkd).2
        refine x_iload_n dX7_hasItsPlaces_55 rfl ?_
        refine x_icmp_eq 69 dX7_hasItsPlaces_56 (by decide) (fun c_56 => ?_) (fun c_56 => ?_)
        · rw [nI_eq (by omega) (by omega)] at c_56
          refine x_iconst (v := 1) dX7_hasItsPlaces_69 (by decide) ?_
          exact x_iret dX7_hasItsPlaces_70 rfl rfl (Nat.le_refl _) (Nat.le_refl _) (Or.inr ⟨_, (by unfold pHas; rw [if_pos c_56]), rfl, by rw [if_pos c_27]; exact R.pc hp1 (kd := kd) hpl3⟩)
        · rw [nI_eq (by omega) (by omega)] at c_56
          refine x_aload_n dX7_hasItsPlaces_59 rfl ?_
          refine x_iconst (v := 2) dX7_hasItsPlaces_60 (by decide) ?_
          refine x_aload_n dX7_hasItsPlaces_61 rfl ?_
          refine x_get lf_X7_99 dX7_hasItsPlaces_62 ((xup_ne (by omega)).trans (R.tm hi)) rfl ?_
          refine x_top (y := nI pl) hf4 ?_
          have R7 := R.pc hp1 (kd := kd) hpl3
          refine x_callV (As := [.int 2, .int (nI pl)]) (st := []) lv_X7_104 (k_X7_fail R7) dX7_hasItsPlaces_65 R7.r rfl rfl (Nat.le_of_ble_eq_true rfl) ⟨by decide, by decide⟩ ⟨by decide, by decide⟩ (fun v9 hF z => ?_) (fun _ _ _ _ _ z => by cases z.1)
          obtain ⟨ev, RF⟩ := z
          cases ev
          exact absurd (by rw [if_pos c_27]; exact apF_at _ _ _) c_56
  · refine x_iconst (v := 0) dX7_hasItsPlaces_8 (by decide) ?_
    refine x_goto 25 dX7_hasItsPlaces_9 (by decide) ?_
    refine x_top (y := nI (plC (tmI v i))) (by unfold plC; rw [if_pos c_5]; rfl) ?_
    have hpl3 := plC_lt (tmI v i)
    refine x_istore_n [(0, .ref 181), (1, .ref (tAd (ra rc) i)), (2, .int (bi nw)), (3, .int (nI (plC (tmI v i))))] dX7_hasItsPlaces_25 (by decide) rfl rfl ?_
    refine x_iload_n dX7_hasItsPlaces_26 rfl ?_
    refine x_if_eq 43 dX7_hasItsPlaces_27 (by decide) (fun c_27 => ?_) (fun c_27 => ?_)
    · have c_27 := bi_f c_27
      refine x_aload_n dX7_hasItsPlaces_43 rfl ?_
      refine x_get lf_X7_22 dX7_hasItsPlaces_44 R.r rfl ?_
      refine x_get lf_X7_185 dX7_hasItsPlaces_47 R.b.1 rfl ?_
      refine x_aload_n dX7_hasItsPlaces_50 rfl ?_
      refine x_get lf_X7_154 dX7_hasItsPlaces_51 (R.tm hi) rfl ?_
      refine x_top (y := nI kd) hf1 ?_
      refine x_ialdN (j := kd) hp1 rfl (by omega) (by decide) dX7_hasItsPlaces_54 ?_
      refine x_top (y := nI ((if nw = true then pcU q kd (plC (tmI v i)) else q).2.2.2.2 kd)) (by rw [if_neg (by rw [c_27]; decide)]; exact (hp2 kd hkd).1) ?_
      have hp9 := pc_lt (nw := nw) hpl3 (hp2 kd hkd).2
      refine x_iload_n dX7_hasItsPlaces_55 rfl ?_
      refine x_icmp_eq 69 dX7_hasItsPlaces_56 (by decide) (fun c_56 => ?_) (fun c_56 => ?_)
      · rw [nI_eq (by omega) (by omega)] at c_56
        refine x_iconst (v := 1) dX7_hasItsPlaces_69 (by decide) ?_
        exact x_iret dX7_hasItsPlaces_70 rfl rfl (Nat.le_refl _) (Nat.le_refl _) (Or.inr ⟨_, (by unfold pHas; rw [if_pos c_56]), rfl, by rw [if_neg (by rw [c_27]; decide)]; exact R⟩)
      · rw [nI_eq (by omega) (by omega)] at c_56
        refine x_aload_n dX7_hasItsPlaces_59 rfl ?_
        refine x_iconst (v := 2) dX7_hasItsPlaces_60 (by decide) ?_
        refine x_aload_n dX7_hasItsPlaces_61 rfl ?_
        refine x_get lf_X7_99 dX7_hasItsPlaces_62 (R.tm hi) rfl ?_
        refine x_top (y := nI pl) hf4 ?_
        refine x_callV (As := [.int 2, .int (nI pl)]) (st := []) lv_X7_104 (k_X7_fail R) dX7_hasItsPlaces_65 R.r rfl rfl (Nat.le_of_ble_eq_true rfl) ⟨by decide, by decide⟩ ⟨by decide, by decide⟩ (fun v9 hF z => ?_) (fun _ _ _ _ _ z => by cases z.1)
        obtain ⟨ev, RF⟩ := z
        cases ev
        exact x_iret dX7_hasItsPlaces_68 rfl rfl (Nat.le_refl _) (Nat.le_refl _) (Or.inl ⟨(by unfold pHas; rw [if_neg c_56]), rfl, RF⟩)
    · have c_27 := bi_t c_27
      refine x_aload_n dX7_hasItsPlaces_30 rfl ?_
      refine x_get lf_X7_22 dX7_hasItsPlaces_31 R.r rfl ?_
      refine x_get lf_X7_185 dX7_hasItsPlaces_34 R.b.1 rfl ?_
      refine x_aload_n dX7_hasItsPlaces_37 rfl ?_
      refine x_get lf_X7_154 dX7_hasItsPlaces_38 (R.tm hi) rfl ?_
      refine x_top (y := nI kd) hf1 ?_
      refine x_iload_n dX7_hasItsPlaces_41 rfl ?_
      refine x_iastN (j := kd) hp1 rfl (by omega) (by decide) dX7_hasItsPlaces_42 ?_
      refine x_aload_n dX7_hasItsPlaces_43 rfl ?_
      refine x_get lf_X7_22 dX7_hasItsPlaces_44 ((xup_ne (by decide)).trans R.r) rfl ?_
      refine x_get lf_X7_185 dX7_hasItsPlaces_47 ((xup_ne (by decide)).trans R.b.1) rfl ?_
      refine x_aload_n dX7_hasItsPlaces_50 rfl ?_
      refine x_get lf_X7_154 dX7_hasItsPlaces_51 ((xup_ne (by omega)).trans (R.tm hi)) rfl ?_
      refine x_top (y := nI kd) hf1 ?_
      refine x_ialdN (j := kd) (xup_self _ _ _) rfl (by omega) (by decide) dX7_hasItsPlaces_54 ?_
      refine x_top (y := nI ((if nw = true then pcU q kd (plC (tmI v i)) else q).2.2.2.2 kd)) (by rw [if_pos c_27, upd_at9]; show _ = nI (apF q.2.2.2.2 kd (plC (tmI v i)) kd); rw [apF_at]) ?_
      have hp9 := pc_lt (nw := nw) hpl3 (hp2 kd hkd).2
      refine x_iload_n dX7_hasItsPlaces_55 rfl ?_
      refine x_icmp_eq 69 dX7_hasItsPlaces_56 (by decide) (fun c_56 => ?_) (fun c_56 => ?_)
      · rw [nI_eq (by omega) (by omega)] at c_56
        refine x_iconst (v := 1) dX7_hasItsPlaces_69 (by decide) ?_
        exact x_iret dX7_hasItsPlaces_70 rfl rfl (Nat.le_refl _) (Nat.le_refl _) (Or.inr ⟨_, (by unfold pHas; rw [if_pos c_56]), rfl, by rw [if_pos c_27]; exact R.pc hp1 (kd := kd) hpl3⟩)
      · rw [nI_eq (by omega) (by omega)] at c_56
        refine x_aload_n dX7_hasItsPlaces_59 rfl ?_
        refine x_iconst (v := 2) dX7_hasItsPlaces_60 (by decide) ?_
        refine x_aload_n dX7_hasItsPlaces_61 rfl ?_
        refine x_get lf_X7_99 dX7_hasItsPlaces_62 ((xup_ne (by omega)).trans (R.tm hi)) rfl ?_
        refine x_top (y := nI pl) hf4 ?_
        have R7 := R.pc hp1 (kd := kd) hpl3
        refine x_callV (As := [.int 2, .int (nI pl)]) (st := []) lv_X7_104 (k_X7_fail R7) dX7_hasItsPlaces_65 R7.r rfl rfl (Nat.le_of_ble_eq_true rfl) ⟨by decide, by decide⟩ ⟨by decide, by decide⟩ (fun v9 hF z => ?_) (fun _ _ _ _ _ z => by cases z.1)
        obtain ⟨ev, RF⟩ := z
        cases ev
        exact absurd (by rw [if_pos c_27]; exact apF_at _ _ _) c_56
