/-! the reference: a CLAUSE as it is read -/
def wM (n : Nat) (T : Nat → List Nat) (tw : Nat → Int64) (sz : Nat → Int32) : Prop := ∀ k, k < n → tw k = lN (mw (T k)) ∧ sz k = nI (T k).length ∧ okW (T k) ∧ (T k).length ≤ 8
def gK (g0 g : Nat → Int32) : Prop := ∀ j, j < 4 ∨ (6 < j ∧ j < 20) ∨ 29 < j → g j = g0 j
def aK (ar0 ar : Nat → Nat → Int32) : Prop := ∀ c, c ≠ 208 ∧ c ≠ 209 ∧ c ≠ 210 ∧ c ≠ 217 ∧ c ≠ 218 → ar c = ar0 c
def qM (q : PQ) (ar : Nat → Nat → Int32) (tw kw : Nat → Int64) : Prop := wM q.1 q.2.1 tw (ar 208) ∧ wM q.2.2.1 q.2.2.2.1 kw (ar 209) ∧ (∀ j, j < 10 → ar 210 j = nI (q.2.2.2.2 j) ∧ q.2.2.2.2 j < 3) ∧ q.1 ≤ 10 ∧ q.2.2.1 ≤ 10
def frM (h1 h : xHp) : Prop := (227 ≤ h1.2 ∧ h.2 = h1.2 + 6) ∧ ∀ q, q < 205 ∨ (226 ≤ q ∧ q < h1.2) → h.1 q = h1.1 q
def argL (x p : Int32) : List (Nat × Int32) := if x < 100 then [] else [(x.toNatClampNeg - 100, p)]
def tmL (t : Nat → Int32) : List (Nat × Int32) := argL (t 2) (t 5) ++ argL (t 3) (t 6)
/-- where SIGNS stand that a TERM must give a THING -/
def stL (v : RV) : Nat → List (Nat × Int32)
  | 0 => tmL v.1
  | i + 1 => stL v i ++ (if v.2.1 i 0 = 0 then [] else tmL (v.2.1 i))
def stM (l : List (Nat × Int32)) (g : Nat → Int32) (ar : Nat → Nat → Int32) : Prop := g 28 = nI l.length ∧ ∀ j s p, l[j]? = some (s, p) → ar 218 j = nI s ∧ ar 217 j = p
def inA (v : RV) (i s : Nat) : Prop := ∃ j, 1 ≤ j ∧ j ≤ i ∧ tmI v j 0 = 0 ∧ sgIn (tmI v j) s
def bdS (v : RV) (i : Nat) (g : Nat → Int32) : Prop := ∃ B, B < 8 ∧ g 29 = nI B ∧ ∀ s, s < 3 → (B.testBit s = true ↔ inA v i s)
/-- the new RULE: so many whole ATOMS and TERMS -/
abbrev XP : Type := (Nat → Int32) → (Nat → Int32) → (Nat → Int32) → (Nat → Int32) → Prop
abbrev XT9 : XP := fun _ _ _ _ => True
def dr9 (h : xHp) (a : Nat) (v : RV) (m T : Nat) (pl : Int32) (X : XP) : Prop := ∃ so kd on tz lt : Nat → Int32, rmC h a (nI T) (nI v.2.2.2.2) pl so kd on tz lt ∧ (∀ j, j < m → so j = tmI v j 0 ∧ kd j = tmI v j 1 ∧ on j = tmI v j 2 ∧ tz j = tmI v j 3) ∧ (∀ j, j < v.2.2.2.2 → lt j = v.2.2.2.1 j) ∧ X so kd on tz
def MB (h1 h : xHp) (g0 : Nat → Int32) (ar0 : Nat → Nat → Int32) (rf : Nat → Option Nat) (q : PQ) : Prop := ∃ (g : Nat → Int32) (w : Int64) (nw : Value) (ar : Nat → Nat → Int32) (tw kw : Nat → Int64), MH h g w nw ar tw kw rf ∧ gK g0 g ∧ aK ar0 ar ∧ qM q ar tw kw ∧ frM h1 h
def MR9 (h1 h : xHp) (g0 : Nat → Int32) (ar0 : Nat → Nat → Int32) (rf : Nat → Option Nat) (rc : Nat) (tk : Nat → Tk) (pos : Nat → Nat) (q : PQ) (v : RV) (k i m T : Nat) (pl : Int32) (X : XP) (g : Nat → Int32) (w : Int64) (ar : Nat → Nat → Int32) (tw kw : Nat → Int64) : Prop := MH h g w (.ref h1.2) ar tw kw rf ∧ curT (tk k) (pos (k + 1)) g w ∧ gK g0 g ∧ aK ar0 ar ∧ qM q ar tw kw ∧ (g 4 = nI q.1 ∧ g 5 = nI q.2.2.1 ∧ g 6 = nI rc) ∧ dr9 h h1.2 v m T pl X ∧ stM (stL v i) g ar ∧ bdS v i g ∧ frM h1 h
theorem gK_rf (g : Nat → Int32) : gK g g := fun _ _ => rfl
theorem gK.up {g0 g : Nat → Int32} (h : gK g0 g) {k : Nat} {x : Int32} (hk : (4 ≤ k ∧ k ≤ 6) ∨ (20 ≤ k ∧ k ≤ 29)) : gK g0 (upd g k x) := fun j hj => by rw [upd_nq (by omega)]; exact h j hj
theorem gK.same {g0 g g' : Nat → Int32} (h : gK g0 g) (e : gSame g g') : gK g0 g' := fun j hj => (e j (by omega)).trans (h j hj)
theorem aK_rf (ar : Nat → Nat → Int32) : aK ar ar := fun _ _ => rfl
theorem aK.up {ar0 ar : Nat → Nat → Int32} (h : aK ar0 ar) {c : Nat} {f : Nat → Int32} (hc : c = 208 ∨ c = 209 ∨ c = 210 ∨ c = 217 ∨ c = 218) : aK ar0 (apF ar c f) := fun d hd => by rw [apF_ne (by omega)]; exact h d hd
theorem frM.y {h1 h h' : xHp} (f : frM h1 h) (y : yfr h h') : frM h1 h' := ⟨⟨f.1.1, y.1.trans f.1.2⟩, fun q hq => (y.2 q (by omega)).trans (f.2 q hq)⟩
theorem dr9.y {h h' : xHp} {a : Nat} {v : RV} {m T : Nat} {pl : Int32} {X : XP} (d : dr9 h a v m T pl X) (ha : 226 ≤ a) (y : yfr h h') : dr9 h' a v m T pl X := by
  obtain ⟨so, kd, on, tz, lt, c, e⟩ := d
  exact ⟨so, kd, on, tz, lt, c.kp (fun q h1 h2 => y.2 q (by omega)), e⟩
theorem wM_eq {n : Nat} {T : Nat → List Nat} {tw : Nat → Int64} {sz : Nat → Int32} {w : List Nat} (h : wM n T tw sz) (hw : okW w) (hl : w.length ≤ 8) {k : Nat} (hk : k < n) : tw k = lN (mw w) ↔ T k = w := by
  obtain ⟨a, b, c, d⟩ := h k hk
  rw [a]; exact mw_eq c hw d hl
theorem wM_add {n : Nat} {T : Nat → List Nat} {tw : Nat → Int64} {sz : Nat → Int32} {w : List Nat} (h : wM n T tw sz) (hw : okW w) (hl : w.length ≤ 8) : wM (n + 1) (apF T n w) (vp_updL tw n (lN (mw w))) (upd sz n (nI w.length)) := by
  intro k hk
  by_cases e : k = n
  · rw [e, apF_at, updL_at9, upd_at9]; exact ⟨rfl, rfl, hw, hl⟩
  · rw [apF_ne e, updL_ne9 e, upd_nq e]; exact h k (by omega)
theorem tkT_nx {b : Nat → Nat} {n ts : Nat} {tk : Nat → Tk} {pos : Nat → Nat} (h : tkT b n ts tk pos) {k : Nat} (hk : k < ts) (h2 : 2 ≤ (tk k).1) : k + 1 < ts ∧ lexR b n (pos (k + 1)) (tk (k + 1)) (pos (k + 2)) := by
  have h1 : k + 1 < ts := by
    rcases Nat.lt_or_ge (k + 1) ts with z | z
    · exact z
    · have := h.1.2.2.2.1
      rw [show ts - 1 = k by omega] at this; omega
  exact ⟨h1, h.1.2.1 (k + 1) h1⟩
set_option maxRecDepth 100000 in
set_option maxHeartbeats 4000000 in
theorem l_X14_thing {G : xG} {h : xHp} {g : Nat → Int32} {w : Int64} {nw : Value} {ar : Nat → Nat → Int32} {tw : Nat → Int64} {kw : Nat → Int64} {rf : Nat → Option Nat} (M : MH h g w nw ar tw kw rf) {q : PQ} {l : List Nat} (hq : wM q.1 q.2.1 tw (ar 208)) (hl : okW l) (h8 : l.length ≤ 8) (hw : w = lN (mw l)) (h24 : g 24 = nI l.length) (h4 : g 4 = nI q.1) (hz : q.1 ≤ 10) : ∀ (f j : Nat), j ≤ q.1 → q.1 + 1 ≤ j + f → (∀ i, i < j → q.2.1 i ≠ l) → Wx G mX14_thingHere (xRm 2 0 0) (xF G (fun o h' => (wLook q.2.1 l q.1 < q.1 ∧ o = .inl (some (.int (nI (wLook q.2.1 l q.1)))) ∧ h' = h) ∨ (¬ wLook q.2.1 l q.1 < q.1 ∧ ¬ q.1 < 10 ∧ o = .inr 215 ∧ h' = xup h 215 (sC 4 (g 22))) ∨ (¬ wLook q.2.1 l q.1 < q.1 ∧ q.1 < 10 ∧ o = .inl (some (.int (nI q.1))) ∧ MH h' (upd g 4 (nI (q.1 + 1))) w nw (apF ar 208 (upd (ar 208) q.1 (g 24))) (vp_updL tw q.1 w) kw rf ∧ yfr h h' ∧ True ∧ True ∧ True)) 0 0) 0 0 2 [(0, .ref 205), (1, .int (nI j))] [] h := by
  intro f
  induction f with
  | zero => exact fun j h1 h2 => absurd h2 (by omega)
  | succ f ih =>
    intro j hj1 hj2 hj
    refine x_iload_n dX14_thingHere_2 rfl ?_
    refine x_aload_n dX14_thingHere_3 rfl ?_
    refine x_get lf_X14_96 dX14_thingHere_4 M.o rfl ?_
    refine x_top (y := nI q.1) h4 ?_
    refine x_icmp_ge 30 dX14_thingHere_7 (by decide) (fun c_7 => ?_) (fun c_7 => ?_)
    · rw [nI_leI (by omega) (by omega)] at c_7
      refine x_iload_n dX14_thingHere_30 rfl ?_
      refine x_aload_n dX14_thingHere_31 rfl ?_
      refine x_get lf_X14_96 dX14_thingHere_32 M.o rfl ?_
      refine x_top (y := nI q.1) h4 ?_
      refine x_icmp_ge 40 dX14_thingHere_35 (by decide) (fun c_35 => ?_) (fun c_35 => ?_)
      · rw [nI_leI (by omega) (by omega)] at c_35
        have hno : ¬ wLook q.2.1 l q.1 < q.1 := first_none (fun i hi => by simpa using hj i (by omega))
        refine x_aload_n dX14_thingHere_40 rfl ?_
        refine x_get lf_X14_96 dX14_thingHere_41 M.o rfl ?_
        refine x_top (y := nI q.1) h4 ?_
        refine x_bipush (v := 10) dX14_thingHere_44 (by decide) ?_
        refine x_icmp_ne 59 dX14_thingHere_46 (by decide) (fun c_46 => ?_) (fun c_46 => ?_)
        · rw [show (10 : Int32) = nI 10 from rfl, nI_eq (by omega) (by omega)] at c_46
          refine x_aload_n dX14_thingHere_59 rfl ?_
          refine x_get lf_X14_13 dX14_thingHere_60 M.o rfl ?_
          refine x_aload_n dX14_thingHere_63 rfl ?_
          refine x_get lf_X14_96 dX14_thingHere_64 M.o rfl ?_
          refine x_top (y := nI q.1) h4 ?_
          refine x_aload_n dX14_thingHere_67 rfl ?_
          refine x_get lf_X14_125 dX14_thingHere_68 M.o rfl ?_
          refine x_lastN (j := q.1) M.t rfl (by omega) (by decide) dX14_thingHere_71 ?_
          refine x_aload_n dX14_thingHere_72 rfl ?_
          refine x_get lf_X14_20 dX14_thingHere_73 ((xup_ne (by decide)).trans M.o) rfl ?_
          refine x_aload_n dX14_thingHere_76 rfl ?_
          refine x_get lf_X14_96 dX14_thingHere_77 ((xup_ne (by decide)).trans M.o) rfl ?_
          refine x_top (y := nI q.1) h4 ?_
          refine x_aload_n dX14_thingHere_80 rfl ?_
          refine x_get lf_X14_131 dX14_thingHere_81 ((xup_ne (by decide)).trans M.o) rfl ?_
          refine x_iastN (j := q.1) ((xup_ne (by decide)).trans (M.a 208 0 10 rfl)) rfl (by omega) (by decide) dX14_thingHere_84 ?_
          refine x_aload_n dX14_thingHere_85 rfl ?_
          refine x_dup dX14_thingHere_86 rfl ?_
          refine x_get lf_X14_96 dX14_thingHere_87 ((xup_ne (by decide)).trans ((xup_ne (by decide)).trans M.o)) rfl ?_
          refine x_top (y := nI q.1) h4 ?_
          refine x_iconst (v := 1) dX14_thingHere_90 (by decide) ?_
          refine x_iadd dX14_thingHere_91 ?_
          refine x_top (y := nI (q.1 + 1)) (nI_add q.1 1) ?_
          refine x_put (mL (upd g 4 (nI (q.1 + 1))) w nw) lf_X14_96 dX14_thingHere_92 ((xup_ne (by decide)).trans ((xup_ne (by decide)).trans M.o)) (Nat.le_of_ble_eq_true rfl) rfl rfl rfl ?_
          refine x_iload_n dX14_thingHere_95 rfl ?_
          refine x_iret dX14_thingHere_96 rfl rfl (Nat.le_refl _) (Nat.le_refl _) (Or.inr (Or.inr ⟨hno, by omega, by rw [show j = q.1 by omega], ?_, ((((yfr_rf _).up (by decide)).up (by decide)).up (by decide)), ?_⟩))
          · exact (((M.t9 (vp_updL tw q.1 w)).a9 (c := 208) rfl (upd (ar 208) q.1 (g 24))).g9 (upd g 4 (nI (q.1 + 1))) w nw)
          · exact ⟨trivial, trivial, trivial⟩
        · rw [show (10 : Int32) = nI 10 from rfl, nI_eq (by omega) (by omega)] at c_46
          refine x_aload_n dX14_thingHere_49 rfl ?_
          refine x_iconst (v := 4) dX14_thingHere_50 (by decide) ?_
          refine x_aload_n dX14_thingHere_51 rfl ?_
          refine x_get lf_X14_114 dX14_thingHere_52 M.o rfl ?_
          refine x_callV (As := [.int 4, .int (g 22)]) (st := []) lv_X14_136 (k_X14_stop M) dX14_thingHere_55 M.o rfl rfl (Nat.le_of_ble_eq_true rfl) ⟨by decide, by decide⟩ ⟨by decide, by decide⟩ (fun v9 h9 z => ?_) (fun _ _ _ _ _ z => by cases z.1)
          obtain ⟨ev, eh⟩ := z
          rw [eh]
          cases ev
          refine x_athrow dX14_thingHere_58 (x_out (fun x hx => by cases hx) (xup_self _ _ _) (Nat.le_refl _) (Nat.le_refl _) (Or.inr (Or.inl ⟨hno, by omega, rfl, rfl⟩)))
      · rw [nI_leI (by omega) (by omega)] at c_35
        have hfound : tw j = lN (mw l) := by first | (rw [← hw]; exact (lg_cmp_eq _ _).mp c_21) | (exfalso; omega)
        refine x_iload_n dX14_thingHere_38 rfl ?_
        have e9 : wLook q.2.1 l q.1 = j := first_at (by simpa using (wM_eq hq hl h8 (by omega)).mp hfound) (fun i hi => by simpa using hj i hi) (by omega)
        exact x_iret dX14_thingHere_39 rfl rfl (Nat.le_refl _) (Nat.le_refl _) (Or.inl ⟨by rw [e9]; omega, by rw [e9], rfl⟩)
    · rw [nI_leI (by omega) (by omega)] at c_7
      refine x_aload_n dX14_thingHere_10 rfl ?_
      refine x_get lf_X14_13 dX14_thingHere_11 M.o rfl ?_
      refine x_iload_n dX14_thingHere_14 rfl ?_
      refine x_laldN (j := j) M.t rfl (by omega) (by decide) dX14_thingHere_15 ?_
      refine x_aload_n dX14_thingHere_16 rfl ?_
      refine x_get lf_X14_125 dX14_thingHere_17 M.o rfl ?_
      refine x_lcmp dX14_thingHere_20 ?_
      refine x_if_eq 30 dX14_thingHere_21 (by decide) (fun c_21 => ?_) (fun c_21 => ?_)
      · refine x_iload_n dX14_thingHere_30 rfl ?_
        refine x_aload_n dX14_thingHere_31 rfl ?_
        refine x_get lf_X14_96 dX14_thingHere_32 M.o rfl ?_
        refine x_top (y := nI q.1) h4 ?_
        refine x_icmp_ge 40 dX14_thingHere_35 (by decide) (fun c_35 => ?_) (fun c_35 => ?_)
        · rw [nI_leI (by omega) (by omega)] at c_35
          have hno : ¬ wLook q.2.1 l q.1 < q.1 := first_none (fun i hi => by simpa using hj i (by omega))
          refine x_aload_n dX14_thingHere_40 rfl ?_
          refine x_get lf_X14_96 dX14_thingHere_41 M.o rfl ?_
          refine x_top (y := nI q.1) h4 ?_
          refine x_bipush (v := 10) dX14_thingHere_44 (by decide) ?_
          refine x_icmp_ne 59 dX14_thingHere_46 (by decide) (fun c_46 => ?_) (fun c_46 => ?_)
          · rw [show (10 : Int32) = nI 10 from rfl, nI_eq (by omega) (by omega)] at c_46
            refine x_aload_n dX14_thingHere_59 rfl ?_
            refine x_get lf_X14_13 dX14_thingHere_60 M.o rfl ?_
            refine x_aload_n dX14_thingHere_63 rfl ?_
            refine x_get lf_X14_96 dX14_thingHere_64 M.o rfl ?_
            refine x_top (y := nI q.1) h4 ?_
            refine x_aload_n dX14_thingHere_67 rfl ?_
            refine x_get lf_X14_125 dX14_thingHere_68 M.o rfl ?_
            refine x_lastN (j := q.1) M.t rfl (by omega) (by decide) dX14_thingHere_71 ?_
            refine x_aload_n dX14_thingHere_72 rfl ?_
            refine x_get lf_X14_20 dX14_thingHere_73 ((xup_ne (by decide)).trans M.o) rfl ?_
            refine x_aload_n dX14_thingHere_76 rfl ?_
            refine x_get lf_X14_96 dX14_thingHere_77 ((xup_ne (by decide)).trans M.o) rfl ?_
            refine x_top (y := nI q.1) h4 ?_
            refine x_aload_n dX14_thingHere_80 rfl ?_
            refine x_get lf_X14_131 dX14_thingHere_81 ((xup_ne (by decide)).trans M.o) rfl ?_
            refine x_iastN (j := q.1) ((xup_ne (by decide)).trans (M.a 208 0 10 rfl)) rfl (by omega) (by decide) dX14_thingHere_84 ?_
            refine x_aload_n dX14_thingHere_85 rfl ?_
            refine x_dup dX14_thingHere_86 rfl ?_
            refine x_get lf_X14_96 dX14_thingHere_87 ((xup_ne (by decide)).trans ((xup_ne (by decide)).trans M.o)) rfl ?_
            refine x_top (y := nI q.1) h4 ?_
            refine x_iconst (v := 1) dX14_thingHere_90 (by decide) ?_
            refine x_iadd dX14_thingHere_91 ?_
            refine x_top (y := nI (q.1 + 1)) (nI_add q.1 1) ?_
            refine x_put (mL (upd g 4 (nI (q.1 + 1))) w nw) lf_X14_96 dX14_thingHere_92 ((xup_ne (by decide)).trans ((xup_ne (by decide)).trans M.o)) (Nat.le_of_ble_eq_true rfl) rfl rfl rfl ?_
            refine x_iload_n dX14_thingHere_95 rfl ?_
            refine x_iret dX14_thingHere_96 rfl rfl (Nat.le_refl _) (Nat.le_refl _) (Or.inr (Or.inr ⟨hno, by omega, by rw [show j = q.1 by omega], ?_, ((((yfr_rf _).up (by decide)).up (by decide)).up (by decide)), ?_⟩))
            · exact (((M.t9 (vp_updL tw q.1 w)).a9 (c := 208) rfl (upd (ar 208) q.1 (g 24))).g9 (upd g 4 (nI (q.1 + 1))) w nw)
            · exact ⟨trivial, trivial, trivial⟩
          · rw [show (10 : Int32) = nI 10 from rfl, nI_eq (by omega) (by omega)] at c_46
            refine x_aload_n dX14_thingHere_49 rfl ?_
            refine x_iconst (v := 4) dX14_thingHere_50 (by decide) ?_
            refine x_aload_n dX14_thingHere_51 rfl ?_
            refine x_get lf_X14_114 dX14_thingHere_52 M.o rfl ?_
            refine x_callV (As := [.int 4, .int (g 22)]) (st := []) lv_X14_136 (k_X14_stop M) dX14_thingHere_55 M.o rfl rfl (Nat.le_of_ble_eq_true rfl) ⟨by decide, by decide⟩ ⟨by decide, by decide⟩ (fun v9 h9 z => ?_) (fun _ _ _ _ _ z => by cases z.1)
            obtain ⟨ev, eh⟩ := z
            rw [eh]
            cases ev
            refine x_athrow dX14_thingHere_58 (x_out (fun x hx => by cases hx) (xup_self _ _ _) (Nat.le_refl _) (Nat.le_refl _) (Or.inr (Or.inl ⟨hno, by omega, rfl, rfl⟩)))
        · rw [nI_leI (by omega) (by omega)] at c_35
          have hfound : tw j = lN (mw l) := by first | (rw [← hw]; exact (lg_cmp_eq _ _).mp c_21) | (exfalso; omega)
          refine x_iload_n dX14_thingHere_38 rfl ?_
          have e9 : wLook q.2.1 l q.1 = j := first_at (by simpa using (wM_eq hq hl h8 (by omega)).mp hfound) (fun i hi => by simpa using hj i hi) (by omega)
          exact x_iret dX14_thingHere_39 rfl rfl (Nat.le_refl _) (Nat.le_refl _) (Or.inl ⟨by rw [e9]; omega, by rw [e9], rfl⟩)
      · refine x_iinc (v := nI (j + 1)) [(0, .ref 205), (1, .int (nI (j + 1)))] dX14_thingHere_24 rfl (nI_add j 1) (by decide) rfl rfl ?_
        refine x_goto 2 dX14_thingHere_27 (by decide) ?_
        exact ih (j + 1) (by omega) (by omega) (fun i hi => by by_cases e : i = j; (subst e; exact fun z => c_21 ((lg_cmp_eq _ _).mpr (hw ▸ (wM_eq hq hl h8 (by omega)).mpr z))); exact hj i (by omega))
set_option maxRecDepth 100000 in
set_option maxHeartbeats 4000000 in
theorem k_X14_thing {G : xG} {h : xHp} {g : Nat → Int32} {w : Int64} {nw : Value} {ar : Nat → Nat → Int32} {tw : Nat → Int64} {kw : Nat → Int64} {rf : Nat → Option Nat} (M : MH h g w nw ar tw kw rf) {q : PQ} {l : List Nat} (hq : wM q.1 q.2.1 tw (ar 208)) (hl : okW l) (h8 : l.length ≤ 8) (hw : w = lN (mw l)) (h24 : g 24 = nI l.length) (h4 : g 4 = nI q.1) (hz : q.1 ≤ 10) : MX G mX14_thingHere 2 0 0 [.ref 205] h (fun o h' => (wLook q.2.1 l q.1 < q.1 ∧ o = .inl (some (.int (nI (wLook q.2.1 l q.1)))) ∧ h' = h) ∨ (¬ wLook q.2.1 l q.1 < q.1 ∧ ¬ q.1 < 10 ∧ o = .inr 215 ∧ h' = xup h 215 (sC 4 (g 22))) ∨ (¬ wLook q.2.1 l q.1 < q.1 ∧ q.1 < 10 ∧ o = .inl (some (.int (nI q.1))) ∧ MH h' (upd g 4 (nI (q.1 + 1))) w nw (apF ar 208 (upd (ar 208) q.1 (g 24))) (vp_updL tw q.1 w) kw rf ∧ yfr h h' ∧ True ∧ True ∧ True)) := by
  refine MX.of [(0, .ref 205)] (by decide) rfl (Nat.le_of_ble_eq_true rfl) rfl ?_
  refine x_iconst (v := 0) dX14_thingHere_0 (by decide) ?_
  refine x_istore_n [(0, .ref 205), (1, .int 0)] dX14_thingHere_1 (by decide) rfl rfl ?_
  exact l_X14_thing M hq hl h8 hw h24 h4 hz (q.1 + 1) 0 (by omega) (by omega) (fun i hi => absurd hi (by omega))
set_option maxRecDepth 100000 in
set_option maxHeartbeats 4000000 in
theorem l_X12_sign {G : xG} {h : xHp} {a : Nat} {t9 p9 : Int32} {sg : Nat} {so kd on tz lt : Nat → Int32} (rc9 : rmC h a t9 (nI sg) p9 so kd on tz lt) (hs3 : sg ≤ 3) {c : Int32} : ∀ (f j : Nat), j ≤ sg → sg + 1 ≤ j + f → (∀ i, i < j → lt i ≠ c) → Wx G mX12_signOf (xRm 1 0 0) (xF G (fun o h' => (sLook lt c sg < sg ∧ o = .inl (some (.int (nI (sLook lt c sg)))) ∧ h' = h) ∨ (¬ sLook lt c sg < sg ∧ o = .inl (some (.int (-1))) ∧ h' = h)) 0 0) 0 0 2 [(0, .ref a), (1, .int c), (2, .int (nI j))] [] h := by
  intro f
  induction f with
  | zero => exact fun j h1 h2 => absurd h2 (by omega)
  | succ f ih =>
    intro j hj1 hj2 hj
    refine x_iload_n dX12_signOf_2 rfl ?_
    refine x_aload_n dX12_signOf_3 rfl ?_
    refine x_get lf_X12_27 dX12_signOf_4 rc9.1 rfl ?_
    refine x_icmp_ge 26 dX12_signOf_7 (by decide) (fun c_7 => ?_) (fun c_7 => ?_)
    · rw [nI_leI (by omega) (by omega)] at c_7
      refine x_iload_n dX12_signOf_26 rfl ?_
      refine x_aload_n dX12_signOf_27 rfl ?_
      refine x_get lf_X12_27 dX12_signOf_28 rc9.1 rfl ?_
      refine x_icmp_ge 38 dX12_signOf_31 (by decide) (fun c_31 => ?_) (fun c_31 => ?_)
      · rw [nI_leI (by omega) (by omega)] at c_31
        refine x_iconst (v := (-1)) dX12_signOf_38 (by decide) ?_
        exact x_iret dX12_signOf_39 rfl rfl (Nat.le_refl _) (Nat.le_refl _) (Or.inr ⟨first_none (fun i hi => by simpa using hj i (by omega)), rfl, rfl⟩)
      · rw [nI_leI (by omega) (by omega)] at c_31
        refine x_iload_n dX12_signOf_34 rfl ?_
        refine x_goto 39 dX12_signOf_35 (by decide) ?_
        have hf9 : lt j = c := by first | exact c_17 | (exfalso; omega)
        have e9 : sLook lt c sg = j := first_at (by simpa using hf9) (fun i hi => by simpa using hj i hi) (by omega)
        exact x_iret dX12_signOf_39 rfl rfl (Nat.le_refl _) (Nat.le_refl _) (Or.inl ⟨by rw [e9]; omega, by rw [e9], rfl⟩)
    · rw [nI_leI (by omega) (by omega)] at c_7
      refine x_aload_n dX12_signOf_10 rfl ?_
      refine x_get lf_X12_24 dX12_signOf_11 rc9.1 rfl ?_
      refine x_iload_n dX12_signOf_14 rfl ?_
      refine x_ialdN (j := j) rc9.2.2.2.2.2 rfl (by omega) (by decide) dX12_signOf_15 ?_
      refine x_iload_n dX12_signOf_16 rfl ?_
      refine x_icmp_eq 26 dX12_signOf_17 (by decide) (fun c_17 => ?_) (fun c_17 => ?_)
      · refine x_iload_n dX12_signOf_26 rfl ?_
        refine x_aload_n dX12_signOf_27 rfl ?_
        refine x_get lf_X12_27 dX12_signOf_28 rc9.1 rfl ?_
        refine x_icmp_ge 38 dX12_signOf_31 (by decide) (fun c_31 => ?_) (fun c_31 => ?_)
        · rw [nI_leI (by omega) (by omega)] at c_31
          refine x_iconst (v := (-1)) dX12_signOf_38 (by decide) ?_
          exact x_iret dX12_signOf_39 rfl rfl (Nat.le_refl _) (Nat.le_refl _) (Or.inr ⟨first_none (fun i hi => by simpa using hj i (by omega)), rfl, rfl⟩)
        · rw [nI_leI (by omega) (by omega)] at c_31
          refine x_iload_n dX12_signOf_34 rfl ?_
          refine x_goto 39 dX12_signOf_35 (by decide) ?_
          have hf9 : lt j = c := by first | exact c_17 | (exfalso; omega)
          have e9 : sLook lt c sg = j := first_at (by simpa using hf9) (fun i hi => by simpa using hj i hi) (by omega)
          exact x_iret dX12_signOf_39 rfl rfl (Nat.le_refl _) (Nat.le_refl _) (Or.inl ⟨by rw [e9]; omega, by rw [e9], rfl⟩)
      · refine x_iinc (v := nI (j + 1)) [(0, .ref a), (1, .int c), (2, .int (nI (j + 1)))] dX12_signOf_20 rfl (nI_add j 1) (by decide) rfl rfl ?_
        refine x_goto 2 dX12_signOf_23 (by decide) ?_
        exact ih (j + 1) (by omega) (by omega) (fun i hi => by by_cases e : i = j; subst e; exact c_17; exact hj i (by omega))
set_option maxRecDepth 100000 in
set_option maxHeartbeats 4000000 in
theorem k_X12_sign {G : xG} {h : xHp} {a : Nat} {t9 p9 : Int32} {sg : Nat} {so kd on tz lt : Nat → Int32} (rc9 : rmC h a t9 (nI sg) p9 so kd on tz lt) (hs3 : sg ≤ 3) {c : Int32} : MX G mX12_signOf 1 0 0 [.ref a, .int c] h (fun o h' => (sLook lt c sg < sg ∧ o = .inl (some (.int (nI (sLook lt c sg)))) ∧ h' = h) ∨ (¬ sLook lt c sg < sg ∧ o = .inl (some (.int (-1))) ∧ h' = h)) := by
  refine MX.of [(0, .ref a), (1, .int c)] (by decide) rfl (Nat.le_of_ble_eq_true rfl) rfl ?_
  refine x_iconst (v := 0) dX12_signOf_0 (by decide) ?_
  refine x_istore_n [(0, .ref a), (1, .int c), (2, .int 0)] dX12_signOf_1 (by decide) rfl rfl ?_
  exact l_X12_sign rc9 hs3 (sg + 1) 0 (by omega) (by omega) (fun i hi => absurd hi (by omega))
