set_option maxRecDepth 100000 in
set_option maxHeartbeats 4000000 in
theorem l_X11_derived {G : xG} {h : xHp} {tsz : Nat} {tp : Nat → Int32} {rc : Nat} {fc : Int32} {nt : Nat} {nk : Nat} {lf : Nat → Int32} {ra : Nat → Nat} {V : Nat → RV} {kw : Nat → Int64} {tw : Nat → Int64} {pf : Nat → Int32} {fr : Nat → Int32} {cl : Int32} {flt : Int32} {plc : Int32} {s : Nat → Option Nat} {cn : Nat} {ct : Nat → Int32} {rn : Nat} {rs : Nat → Int32} {tr : Int32} {f1 g1 c1 : Nat → Int32} {clk1 : Int32} {h1 : xHp} (w1 : xKp h h1) (st1 : stl s f1 g1) (x1 : XH h1 tsz tp rc fc nt nk lf ra V kw tw pf fr cl flt plc true f1 g1 cn ct rn rs tr) (m1 : mdAt h1 192 193 194 195 true f1 g1 c1 clk1) {S : Nat → Bool} (hS : isRows fr S) : ∀ (k i : Nat), i ≤ 100 → 101 ≤ i + k → Wx G mX11_derived (xRm 16 0 0) (xF G ((fun o h' => xKp h h' ∧ XT h' tsz tp rc fc nt nk lf ra V kw tw pf fr cl flt plc s cn ct rn rs tr ∧ o = .inl (some (.int (nI (fb_ct (fun n => (s n).isSome && !S n) 1000)))))) 0 0) 0 0 9 [(0, .ref 1), (1, .ref 192), (2, .int (nI (fb_ct (fun n => (s n).isSome && !S n) (10 * i)))), (3, .int (nI i))] [] h1 := by
  intro k
  induction k with
  | zero => exact fun i q1 h2 => absurd h2 (by omega)
  | succ k ih =>
    intro i q1 h2
    refine x_iload_n dX11_derived_9 rfl ?_
    refine x_bipush (v := 100) dX11_derived_10 (by decide) ?_
    refine x_icmp_ge 45 dX11_derived_12 (by decide) (fun c_12 => ?_) (fun c_12 => ?_)
    · rw [show (100 : Int32) = nI 100 from rfl, nI_leI (by omega) (by omega)] at c_12
      refine x_iload_n dX11_derived_45 rfl ?_
      have e9 : i = 100 := by omega
      subst e9
      exact x_iret dX11_derived_46 rfl rfl (Nat.le_refl _) (Nat.le_refl _) ⟨w1, ⟨true, f1, g1, fun _ => st1, x1⟩, rfl⟩
    · rw [show (100 : Int32) = nI 100 from rfl, nI_leI (by omega) (by omega)] at c_12
      refine x_iload_n dX11_derived_15 rfl ?_
      refine x_aload_n dX11_derived_16 rfl ?_
      refine x_get lf_X11_161 dX11_derived_17 m1.1 rfl ?_
      refine x_iload_n dX11_derived_20 rfl ?_
      refine x_ialdN (j := i) m1.2.1 rfl (by omega) (by decide) dX11_derived_21 ?_
      refine x_aload_n dX11_derived_22 rfl ?_
      refine x_get lf_X11_16 dX11_derived_23 x1.c rfl ?_
      refine x_get lf_X11_228 dX11_derived_26 x1.b.1.1 rfl ?_
      refine x_iload_n dX11_derived_29 rfl ?_
      refine x_ialdN (j := i) x1.b.2.2.2.2.1 rfl (by omega) (by decide) dX11_derived_30 ?_
      refine x_iconst (v := (-1)) dX11_derived_31 (by decide) ?_
      refine x_ixor dX11_derived_32 ?_
      refine x_iand dX11_derived_33 ?_
      refine x_callS (As := [.int ((f1 i) &&& ((fr i) ^^^ (-1)))]) (st := [.int (nI (fb_ct (fun n => (s n).isSome && !S n) (10 * i)))]) ls_X11_164 k_bitCount dX11_derived_34 rfl rfl (Nat.le_of_ble_eq_true rfl) ⟨by decide, by decide⟩ ⟨by decide, by decide⟩ (fun v h1 q => ?_) (fun _ _ _ _ _ q => by cases q.1)
      obtain ⟨ev, eh⟩ := q
      rw [eh]
      cases ev
      refine x_top (y := nI (fb_ct (fun j => (s (10 * i + j)).isSome && !S (10 * i + j)) 10)) (isRows_beyond (S := fun n => (s n).isSome) st1.1 hS (by omega)) ?_
      refine x_iadd dX11_derived_37 ?_
      refine x_top (y := nI (fb_ct (fun n => (s n).isSome && !S n) (10 * (i + 1)))) ((nI_add _ _).trans (congrArg nI (cnt_row (fun n => (s n).isSome && !S n) i))) ?_
      refine x_istore_n [(0, .ref 1), (1, .ref 192), (2, .int (nI (fb_ct (fun n => (s n).isSome && !S n) (10 * (i + 1))))), (3, .int (nI i))] dX11_derived_38 (by decide) rfl rfl ?_
      refine x_iinc (v := nI (i + 1)) [(0, .ref 1), (1, .ref 192), (2, .int (nI (fb_ct (fun n => (s n).isSome && !S n) (10 * (i + 1))))), (3, .int (nI (i + 1)))] dX11_derived_39 rfl (nI_add i 1) (by decide) rfl rfl ?_
      refine x_goto 9 dX11_derived_42 (by decide) ?_
      exact x_ls _ [0, 1, 2, 3] rfl (ih (i + 1) (by omega) (by omega))
set_option maxRecDepth 100000 in
set_option maxHeartbeats 4000000 in
theorem k_X11_derived {G : xG} {h : xHp} {tsz : Nat} {tp : Nat → Int32} {rc : Nat} {fc : Int32} {nt : Nat} {nk : Nat} {lf : Nat → Int32} {ra : Nat → Nat} {V : Nat → RV} {kw : Nat → Int64} {tw : Nat → Int64} {pf : Nat → Int32} {fr : Nat → Int32} {cl : Int32} {flt : Int32} {plc : Int32} {s : Nat → Option Nat} {cn : Nat} {ct : Nat → Int32} {rn : Nat} {rs : Nat → Int32} {tr : Int32} (X : XT h tsz tp rc fc nt nk lf ra V kw tw pf fr cl flt plc s cn ct rn rs tr) {pc : Nat → Nat} {L : Nat → Nat} {S : Nat → Bool} (c : cOk rc nt nk V pf pc lf L fr S) (hs : IsSt S V rc (fun _ => true) nt s) : MX G mX11_derived 16 0 0 [.ref 1] h ((fun o h' => xKp h h' ∧ XT h' tsz tp rc fc nt nk lf ra V kw tw pf fr cl flt plc s cn ct rn rs tr ∧ o = .inl (some (.int (nI (fb_ct (fun n => (s n).isSome && !S n) 1000)))))) := by
  obtain ⟨ns, f, g, hst, x⟩ := X
  refine MX.of [(0, .ref 1)] (by decide) rfl (Nat.le_of_ble_eq_true rfl) rfl ?_
  refine x_aload_n dX11_derived_0 rfl ?_
  refine x_callV (As := []) (st := []) lv_X11_156 (k_X11_settled x c hs hst) dX11_derived_1 x.c rfl rfl (Nat.le_of_ble_eq_true rfl) ⟨by decide, by decide⟩ ⟨by decide, by decide⟩ (fun v1 h1 q => ?_) (fun _ _ _ _ _ q => by cases q.1)
  obtain ⟨ev, w1, f1, g1, st1, x1⟩ := q
  cases ev
  obtain ⟨c1, clk1, m1⟩ := x1.m
  obtain ⟨⟨rf1, hrs1, hrf1⟩, hrl1⟩ := x1.b.1.2.2.2.2.2.1
  refine x_astore_n [(0, .ref 1), (1, .ref 192)] dX11_derived_4 (by decide) rfl rfl ?_
  refine x_iconst (v := 0) dX11_derived_5 (by decide) ?_
  refine x_istore_n [(0, .ref 1), (1, .ref 192), (2, .int 0)] dX11_derived_6 (by decide) rfl rfl ?_
  refine x_iconst (v := 0) dX11_derived_7 (by decide) ?_
  refine x_istore_n [(0, .ref 1), (1, .ref 192), (2, .int 0), (3, .int 0)] dX11_derived_8 (by decide) rfl rfl ?_
  exact l_X11_derived w1 st1 x1 m1 c.2.2.2.2.2.2.2 101 0 (by omega) (by omega)
theorem mxS_no {s : Nat → Option Nat} {n : Nat} (h : (s n).isSome = false) : mxS s (n + 1) = mxS s n := by
  cases e : s n with
  | none => simp only [mxS]; rw [e]; exact Nat.max_eq_left (Nat.zero_le _)
  | some d => rw [e] at h; cases h
theorem mxS_le {s : Nat → Option Nat} (h : ∀ n d, n < 1000 → s n = some d → d ≤ 1000) : ∀ n, n ≤ 1000 → mxS s n ≤ 1000
  | 0, _ => by unfold mxS; omega
  | n + 1, hn => by
    have := mxS_le h n (by omega)
    simp only [mxS]
    cases e : s n with
    | none => exact Nat.max_le.mpr ⟨this, Nat.zero_le _⟩
    | some d => exact Nat.max_le.mpr ⟨this, h n d (by omega) e⟩
theorem mxS_up {s : Nat → Option Nat} {f g : Nat → Int32} (hst : stl s f g) (h : ∀ n d, n < 1000 → s n = some d → d ≤ 1000) {n : Nat} (hn : n < 1000) (q : (s n).isSome = true) : (if nI (mxS s n) < g n then g n else nI (mxS s n)) = nI (mxS s (n + 1)) := by
  cases e : s n with
  | none => rw [e] at q; cases q
  | some d =>
    have h1 := mxS_le h n (by omega)
    have h2 := h n d hn e
    rw [hst.2 n d hn e, nI_max (by omega) (by omega)]
    simp only [mxS]; rw [e]; rfl
set_option maxRecDepth 100000 in
set_option maxHeartbeats 4000000 in
theorem l_X11_deepest {G : xG} {h : xHp} {tsz : Nat} {tp : Nat → Int32} {rc : Nat} {fc : Int32} {nt : Nat} {nk : Nat} {lf : Nat → Int32} {ra : Nat → Nat} {V : Nat → RV} {kw : Nat → Int64} {tw : Nat → Int64} {pf : Nat → Int32} {fr : Nat → Int32} {cl : Int32} {flt : Int32} {plc : Int32} {s : Nat → Option Nat} {cn : Nat} {ct : Nat → Int32} {rn : Nat} {rs : Nat → Int32} {tr : Int32} {f1 g1 c1 : Nat → Int32} {clk1 : Int32} {h1 : xHp} (w1 : xKp h h1) (st1 : stl s f1 g1) (x1 : XH h1 tsz tp rc fc nt nk lf ra V kw tw pf fr cl flt plc true f1 g1 cn ct rn rs tr) (m1 : mdAt h1 192 193 194 195 true f1 g1 c1 clk1) (hk10 : nk ≤ 10) (hle : ∀ n d, n < 1000 → s n = some d → d ≤ 1000) : ∀ (k i : Nat), i ≤ nk * 100 → nk * 100 + 1 ≤ i + k → Wx G mX11_deepest (xRm 16 0 0) (xF G ((fun o h' => xKp h h' ∧ XT h' tsz tp rc fc nt nk lf ra V kw tw pf fr cl flt plc s cn ct rn rs tr ∧ o = .inl (some (.int (nI (mxS s (nk * 100))))))) 0 0) 0 0 9 [(0, .ref 1), (1, .ref 192), (2, .int (nI (mxS s i))), (3, .int (nI i))] [] h1 := by
  intro k
  induction k with
  | zero => exact fun i q1 h2 => absurd h2 (by omega)
  | succ k ih =>
    intro i q1 h2
    refine x_iload_n dX11_deepest_9 rfl ?_
    refine x_aload_n dX11_deepest_10 rfl ?_
    refine x_get lf_X11_16 dX11_deepest_11 x1.c rfl ?_
    refine x_get lf_X11_101 dX11_deepest_14 x1.b.1.1 rfl ?_
    refine x_get lf_X11_114 dX11_deepest_17 x1.b.1.2.1 rfl ?_
    refine x_bipush (v := 10) dX11_deepest_20 (by decide) ?_
    refine x_imul dX11_deepest_22 ?_
    refine x_top (y := nI (nk * 10)) (pk_mul nk 10) ?_
    refine x_bipush (v := 10) dX11_deepest_23 (by decide) ?_
    refine x_imul dX11_deepest_25 ?_
    refine x_top (y := nI ((nk * 10) * 10)) (pk_mul (nk * 10) 10) ?_
    refine x_icmp_ge 54 dX11_deepest_26 (by decide) (fun c_26 => ?_) (fun c_26 => ?_)
    · rw [nI_leI (by omega) (by omega)] at c_26
      refine x_iload_n dX11_deepest_54 rfl ?_
      have e9 : i = nk * 100 := by omega
      subst e9
      exact x_iret dX11_deepest_55 rfl rfl (Nat.le_refl _) (Nat.le_refl _) ⟨w1, ⟨true, f1, g1, fun _ => st1, x1⟩, rfl⟩
    · rw [nI_leI (by omega) (by omega)] at c_26
      refine x_aload_n dX11_deepest_29 rfl ?_
      refine x_iload_n dX11_deepest_30 rfl ?_
      refine x_callV (As := [.int (nI i)]) (st := []) lv_X11_160 (k_X5_has (n := i) m1.1 m1.2.1 st1.1 (by omega)) dX11_deepest_31 m1.1 rfl rfl (Nat.le_of_ble_eq_true rfl) ⟨by decide, by decide⟩ ⟨by decide, by decide⟩ (fun v h1 q => ?_) (fun _ _ _ _ _ q => by cases q.1)
      obtain ⟨ev, eh⟩ := q
      rw [eh]
      cases ev
      refine x_if_eq 48 dX11_deepest_34 (by decide) (fun c_34 => ?_) (fun c_34 => ?_)
      · have c_34 := bi_f c_34
        refine x_iinc (v := nI (i + 1)) [(0, .ref 1), (1, .ref 192), (2, .int (nI (mxS s i))), (3, .int (nI (i + 1)))] dX11_deepest_48 rfl (nI_add i 1) (by decide) rfl rfl ?_
        refine x_goto 9 dX11_deepest_51 (by decide) ?_
        have k9 := ih (i + 1) (by omega) (by omega)
        rw [mxS_no c_34] at k9
        exact x_ls _ [0, 1, 2, 3] rfl k9
      · have c_34 := bi_t c_34
        refine x_iload_n dX11_deepest_37 rfl ?_
        refine x_aload_n dX11_deepest_38 rfl ?_
        refine x_get lf_X11_169 dX11_deepest_39 m1.1 rfl ?_
        refine x_iload_n dX11_deepest_42 rfl ?_
        refine x_ialdN (j := i) m1.2.2.1 rfl (by omega) (by decide) dX11_deepest_43 ?_
        refine x_max ml_X11_264 mx_s in_Math mx_c dX11_deepest_44 (Nat.le_of_ble_eq_true rfl) (Nat.le_of_ble_eq_true rfl) ⟨Nat.le_of_ble_eq_true rfl, Nat.le_of_ble_eq_true rfl⟩ ?_
        refine x_top (y := nI (mxS s (i + 1))) (mxS_up st1 hle (by omega) c_34) ?_
        refine x_istore_n [(0, .ref 1), (1, .ref 192), (2, .int (nI (mxS s (i + 1)))), (3, .int (nI i))] dX11_deepest_47 (by decide) rfl rfl ?_
        refine x_iinc (v := nI (i + 1)) [(0, .ref 1), (1, .ref 192), (2, .int (nI (mxS s (i + 1)))), (3, .int (nI (i + 1)))] dX11_deepest_48 rfl (nI_add i 1) (by decide) rfl rfl ?_
        refine x_goto 9 dX11_deepest_51 (by decide) ?_
        exact x_ls _ [0, 1, 2, 3] rfl (ih (i + 1) (by omega) (by omega))
set_option maxRecDepth 100000 in
set_option maxHeartbeats 4000000 in
theorem k_X11_deepest {G : xG} {h : xHp} {tsz : Nat} {tp : Nat → Int32} {rc : Nat} {fc : Int32} {nt : Nat} {nk : Nat} {lf : Nat → Int32} {ra : Nat → Nat} {V : Nat → RV} {kw : Nat → Int64} {tw : Nat → Int64} {pf : Nat → Int32} {fr : Nat → Int32} {cl : Int32} {flt : Int32} {plc : Int32} {s : Nat → Option Nat} {cn : Nat} {ct : Nat → Int32} {rn : Nat} {rs : Nat → Int32} {tr : Int32} (X : XT h tsz tp rc fc nt nk lf ra V kw tw pf fr cl flt plc s cn ct rn rs tr) {pc : Nat → Nat} {L : Nat → Nat} {S : Nat → Bool} (c : cOk rc nt nk V pf pc lf L fr S) (hs : IsSt S V rc (fun _ => true) nt s) : MX G mX11_deepest 16 0 0 [.ref 1] h ((fun o h' => xKp h h' ∧ XT h' tsz tp rc fc nt nk lf ra V kw tw pf fr cl flt plc s cn ct rn rs tr ∧ o = .inl (some (.int (nI (mxS s (nk * 100))))))) := by
  obtain ⟨ns, f, g, hst, x⟩ := X
  refine MX.of [(0, .ref 1)] (by decide) rfl (Nat.le_of_ble_eq_true rfl) rfl ?_
  refine x_aload_n dX11_deepest_0 rfl ?_
  refine x_callV (As := []) (st := []) lv_X11_156 (k_X11_settled x c hs hst) dX11_deepest_1 x.c rfl rfl (Nat.le_of_ble_eq_true rfl) ⟨by decide, by decide⟩ ⟨by decide, by decide⟩ (fun v1 h1 q => ?_) (fun _ _ _ _ _ q => by cases q.1)
  obtain ⟨ev, w1, f1, g1, st1, x1⟩ := q
  cases ev
  obtain ⟨c1, clk1, m1⟩ := x1.m
  obtain ⟨⟨rf1, hrs1, hrf1⟩, hrl1⟩ := x1.b.1.2.2.2.2.2.1
  refine x_astore_n [(0, .ref 1), (1, .ref 192)] dX11_deepest_4 (by decide) rfl rfl ?_
  refine x_iconst (v := 0) dX11_deepest_5 (by decide) ?_
  refine x_istore_n [(0, .ref 1), (1, .ref 192), (2, .int 0)] dX11_deepest_6 (by decide) rfl rfl ?_
  refine x_iconst (v := 0) dX11_deepest_7 (by decide) ?_
  refine x_istore_n [(0, .ref 1), (1, .ref 192), (2, .int 0), (3, .int 0)] dX11_deepest_8 (by decide) rfl rfl ?_
  exact l_X11_deepest w1 st1 x1 m1 c.1.2.1 (fun n d hn hd => st_le c.2.2.1 c.1.1 hs hn hd) (nk * 100 + 1) 0 (by omega) (by omega)
set_option maxRecDepth 100000 in
set_option maxHeartbeats 4000000 in
theorem k_X11_turned {G : xG} {h : xHp} {tsz : Nat} {tp : Nat → Int32} {rc : Nat} {fc : Int32} {nt : Nat} {nk : Nat} {lf : Nat → Int32} {ra : Nat → Nat} {V : Nat → RV} {kw : Nat → Int64} {tw : Nat → Int64} {pf : Nat → Int32} {fr : Nat → Int32} {cl : Int32} {flt : Int32} {plc : Int32} {s : Nat → Option Nat} {cn : Nat} {ct : Nat → Int32} {rn : Nat} {rs : Nat → Int32} {tr : Int32} (X : XT h tsz tp rc fc nt nk lf ra V kw tw pf fr cl flt plc s cn ct rn rs tr) {pc : Nat → Nat} {L : Nat → Nat} {S : Nat → Bool} (c : cOk rc nt nk V pf pc lf L fr S) (hs : IsSt S V rc (fun _ => true) nt s) {a : Int32} {lo : Bool} {s2 : Nat → Nat → Option Nat} (hs2 : ∀ n, okAtom nk nt pc n → IsSt (flipS S n) V rc (fun _ => true) nt (s2 n)) : MX G mX11_turned 16 0 0 [.ref 1, .int a, .int (bi lo)] h ((fun o h' => xKp h h' ∧ ∃ r, o = .inl (some (.int r)) ∧ ((∃ n, a = nI n ∧ okAtom nk nt pc n ∧ XT h' tsz tp rc fc nt nk lf ra V kw tw pf fr cl flt plc s cn ct rn rs 0 ∧ r = nI (fb_ct (fun m => if lo = true then (s m).isSome && !(s2 n m).isSome else (s2 n m).isSome && !(s m).isSome) 1000)) ∨ ((¬ ∃ n, a = nI n ∧ n < 2 ^ 31 ∧ okAtom nk nt pc n) ∧ XT h' tsz tp rc fc nt nk lf ra V kw tw pf fr cl flt plc s cn ct rn rs 1 ∧ r = -1)))) := by
  obtain ⟨ns, f, g, hst, x⟩ := X
  refine MX.of [(0, .ref 1), (1, .int a), (2, .int (bi lo))] (by decide) rfl (Nat.le_of_ble_eq_true rfl) rfl ?_
  refine x_aload_n dX11_turned_0 rfl ?_
  refine x_get lf_X11_16 dX11_turned_1 x.c rfl ?_
  refine x_iload_n dX11_turned_4 rfl ?_
  refine x_callV (As := [.int a]) (st := []) lv_X11_140 (k_X0_hasAtom x.b.1.1 x.b.1.2.1 x.b.1.2.2.1 x.b.2.2.2.1 c.2.1 c.1.2.1 c.1.1) dX11_turned_5 x.b.1.1 rfl rfl (Nat.le_of_ble_eq_true rfl) ⟨by decide, by decide⟩ ⟨by decide, by decide⟩ (fun v9 h9 q => ?_) (fun _ _ _ _ _ q => by obtain ⟨_, q, _⟩ := q; cases q)
  obtain ⟨b9, ev, eh, hb9⟩ := q
  rw [eh]
  cases ev
  refine x_if_ne 17 dX11_turned_8 (by decide) (fun c_8 => ?_) (fun c_8 => ?_)
  · have c_8 := bi_t c_8
    obtain ⟨n, rfl, hn31, hok⟩ := hb9.mp c_8
    have hn := okAtom_lt hok c.1.2.1
    refine x_aload_n dX11_turned_17 rfl ?_
    refine x_iconst (v := 0) dX11_turned_18 (by decide) ?_
    refine x_put [.ref 2, .int (nI tsz), .ref 3, .ref 181, .ref 187, .ref 190, .ref 192, .int (bi ns), .ref 196, .ref 200, .ref 204, .int (nI rn), .int 0] lf_X11_89 dX11_turned_19 x.c (Nat.le_of_ble_eq_true rfl) rfl rfl rfl ?_
    have hf8 : xfr h (xup h 1 (.inr (11, [.ref 2, .int (nI tsz), .ref 3, .ref 181, .ref 187, .ref 190, .ref 192, .int (bi ns), .ref 196, .ref 200, .ref 204, .int (nI rn), .int 0]))) [1] := (xfr_rf _ _).up (by decide)
    have x8 : XH (xup h 1 (.inr (11, [.ref 2, .int (nI tsz), .ref 3, .ref 181, .ref 187, .ref 190, .ref 192, .int (bi ns), .ref 196, .ref 200, .ref 204, .int (nI rn), .int 0]))) tsz tp rc fc nt nk lf ra V kw tw pf fr cl flt plc ns f g cn ct rn rs 0 := ⟨(by rw [hf8.1]; exact x.n), (xup_self _ _ _), (hf8.at x.t (by decide)), (x.b.kp hf8 (by decide)), (x.r.kp hf8 (by decide)), (jnI_kp x.j hf8 (by decide)), (x.g.kp hf8 (by decide)), (md_kp x.m hf8 (by decide)), (x.s.kp hf8 (by decide)), (x.k.kp hf8 (by decide)), (hf8.at x.e (by decide))⟩
    have w8 := xKp.of hf8 (by decide)
    generalize xup h 1 (.inr (11, [.ref 2, .int (nI tsz), .ref 3, .ref 181, .ref 187, .ref 190, .ref 192, .int (bi ns), .ref 196, .ref 200, .ref 204, .int (nI rn), .int 0])) = h8 at hf8 x8 w8
    refine x_aload_n dX11_turned_22 rfl ?_
    refine x_callV (As := []) (st := []) lv_X11_156 (k_X11_settled x8 c hs hst) dX11_turned_23 x8.c rfl rfl (Nat.le_of_ble_eq_true rfl) ⟨by decide, by decide⟩ ⟨by decide, by decide⟩ (fun v1 h1 q => ?_) (fun _ _ _ _ _ q => by cases q.1)
    obtain ⟨ev, w1, f1, g1, st1, x1⟩ := q
    cases ev
    obtain ⟨c1, clk1, m1⟩ := x1.m
    obtain ⟨⟨rf1, hrs1, hrf1⟩, hrl1⟩ := x1.b.1.2.2.2.2.2.1
    refine x_astore_n [(0, .ref 1), (1, .int (nI n)), (2, .int (bi lo)), (3, .ref 192)] dX11_turned_26 (by decide) rfl rfl ?_
    refine x_aload_n dX11_turned_27 rfl ?_
    refine x_get lf_X11_54 dX11_turned_28 x1.c rfl ?_
    refine x_aload_n dX11_turned_31 rfl ?_
    refine x_get lf_X11_16 dX11_turned_32 x1.c rfl ?_
    refine x_get lf_X11_228 dX11_turned_35 x1.b.1.1 rfl ?_
    obtain ⟨f5, g5, c5, clk5, m5, z5⟩ := x1.s
    refine x_callV (As := [.ref 12]) (st := []) lv_X11_231 (k_X5_start (a := 196) m5 x1.b.2.2.2.2.1 c.2.2.2.2.2.2.2 (okMd_ne (md := 196))) dX11_turned_38 m5.1 rfl rfl (Nat.le_of_ble_eq_true rfl) ⟨by decide, by decide⟩ ⟨by decide, by decide⟩ (fun v h2 q => ?_) (fun _ _ _ _ _ q => by cases q.1)
    obtain ⟨ev, f2, g2, c2, m2, i2, -, -, k2, w2⟩ := q
    cases ev
    rw [k2 rfl] at m2
    refine x_aload_n dX11_turned_41 rfl ?_
    refine x_get lf_X11_54 dX11_turned_42 (w2.at x1.c (by decide)) rfl ?_
    refine x_iload_n dX11_turned_45 rfl ?_
    refine x_callV (As := [.int (nI n)]) (st := []) lv_X11_269 (k_X5_turn m2.1 m2.2.1 hn) dX11_turned_46 m2.1 rfl rfl (Nat.le_of_ble_eq_true rfl) ⟨by decide, by decide⟩ ⟨by decide, by decide⟩ (fun v h3 q => ?_) (fun _ _ _ _ _ q => by cases q.1)
    obtain ⟨ev, eh⟩ := q
    rw [eh]
    cases ev
    have w3 : xfr h1 (xup h2 197 (.inl (0, 100, .inl (fRow f2 n)))) [196, 197, 198, 199] := w2.up (by decide)
    have m3 : mdAt (xup h2 197 (.inl (0, 100, .inl (fRow f2 n)))) 196 197 198 199 false (fRow f2 n) g5 c2 0 := ⟨(xup_ne (by decide)).trans m2.1, xup_self _ _ _, (xup_ne (by decide)).trans m2.2.2.1, (xup_ne (by decide)).trans m2.2.2.2⟩
    generalize xup h2 197 (.inl (0, 100, .inl (fRow f2 n))) = h3 at w3 m3
    have i3 : isRows (fRow f2 n) (flipS S n) := isRows_flip i2 hn
    refine x_aload_n dX11_turned_49 rfl ?_
    refine x_get lf_X11_41 dX11_turned_50 (w3.at x1.c (by decide)) rfl ?_
    refine x_aload_n dX11_turned_53 rfl ?_
    refine x_get lf_X11_54 dX11_turned_54 (w3.at x1.c (by decide)) rfl ?_
    refine x_iconst (v := (-1)) dX11_turned_57 (by decide) ?_
    refine x_sipush (v := 1023) dX11_turned_58 (by decide) ?_
    refine x_iconst (v := (-1)) dX11_turned_61 (by decide) ?_
    obtain ⟨rn9, hrn9⟩ := x1.g.2
    have hH1 : jgH h3 h3 rc fc nt nk lf ra V 196 false ((fRow f2 n), g5, c2, 0, 0, false, fun _ => 0) rn9 := ⟨x1.b.1.kept w3 (by decide), w3.at x1.g.1 (by decide), w3.at hrn9 (by decide), jnI_kp x1.j w3 (by decide), m3, xfr_rf _ _⟩
    refine x_callV (As := [.ref 196, .int (-1), .int 1023, .int (-1)]) (st := []) lv_X11_235 (k_X3_settle (hs2 n hok) c.2.2.1 c.1.1 c.2.2.2.2.1 c.2.2.2.2.2.1 c.2.2.2.2.2.2.1 c.1.2.2 (Or.inr rfl) (fun r hr => ⟨fun _ => ⟨nI_m1 (by have := c.1.2.2; omega), all_bit (by have := c.2.2.2.1 r hr; have := c.1.2.1; omega)⟩, fun _ => rfl⟩) (Or.inl rfl) c.1.2.1 c.2.2.2.1 hH1 (bs_start (hs2 n hok) i3 (fun z => by cases z) (fun _ => z5))) dX11_turned_62 (w3.at x1.g.1 (by decide)) rfl rfl (Nat.le_of_ble_eq_true rfl) ⟨by decide, by decide⟩ ⟨by decide, by decide⟩ (fun v h4 q => ?_) (fun _ _ _ _ _ q => by cases q.1)
    obtain ⟨ev, σ4, rn4, m4, j4, n4, w4, r4⟩ := q
    cases ev
    have w5 : xfr h1 h4 [191, 187, 188, 189, 196, 197, 198, 199] := (w3.wd (by decide)).tr w4
    have i4 := jgR_rows r4
    have m1b := md_kp ⟨c1, clk1, m1⟩ w5 (by decide)
    obtain ⟨c6, clk6, m6⟩ := m1b
    refine x_iload_n dX11_turned_65 rfl ?_
    refine x_if_eq 80 dX11_turned_66 (by decide) (fun c_66 => ?_) (fun c_66 => ?_)
    · have c_66 := bi_f c_66
      refine x_aload_n dX11_turned_80 rfl ?_
      refine x_get lf_X11_54 dX11_turned_81 (w5.at x1.c (by decide)) rfl ?_
      refine x_aload_n dX11_turned_84 rfl ?_
      refine x_callV (As := [.ref 192]) (st := []) lv_X11_239 (k_X5_countBeyond m4.1 m4.2.1 m6.1 m6.2.1 i4 st1.1) dX11_turned_85 m4.1 rfl rfl (Nat.le_of_ble_eq_true rfl) ⟨by decide, by decide⟩ ⟨by decide, by decide⟩ (fun v h7 q => ?_) (fun _ _ _ _ _ q => by cases q.1)
      obtain ⟨ev, eh⟩ := q
      rw [eh]
      cases ev
      have hx4 : XH h4 tsz tp rc fc nt nk lf ra V kw tw pf fr cl flt plc true f1 g1 cn ct rn rs 0 := ⟨(by rw [w5.1]; exact x1.n), w5.at x1.c (by decide), w5.at x1.t (by decide), x1.b.kp w5 (by decide), x1.r.kp w5 (by decide), j4, ⟨w5.at x1.g.1 (by decide), rn4, n4⟩, ⟨_, _, m6⟩, ⟨σ4.1, σ4.2.1, σ4.2.2.1, σ4.2.2.2.1, m4, r4.2.2.1 rfl⟩, x1.k.kp w5 (by decide), w5.at x1.e (by decide)⟩
      exact x_iret dX11_turned_88 rfl rfl (Nat.le_refl _) (Nat.le_refl _) ⟨(w8.tr w1).tr (xKp.of w5 (by decide)), _, rfl, Or.inl ⟨n, rfl, hok, ⟨true, f1, g1, fun _ => st1, hx4⟩, by congr 2; funext m; simp [c_66]⟩⟩
    · have c_66 := bi_t c_66
      refine x_aload_n dX11_turned_69 rfl ?_
      refine x_aload_n dX11_turned_70 rfl ?_
      refine x_get lf_X11_54 dX11_turned_71 (w5.at x1.c (by decide)) rfl ?_
      refine x_callV (As := [.ref 196]) (st := []) lv_X11_239 (k_X5_countBeyond m6.1 m6.2.1 m4.1 m4.2.1 st1.1 i4) dX11_turned_74 m6.1 rfl rfl (Nat.le_of_ble_eq_true rfl) ⟨by decide, by decide⟩ ⟨by decide, by decide⟩ (fun v h7 q => ?_) (fun _ _ _ _ _ q => by cases q.1)
      obtain ⟨ev, eh⟩ := q
      rw [eh]
      cases ev
      refine x_goto 88 dX11_turned_77 (by decide) ?_
      have hx4 : XH h4 tsz tp rc fc nt nk lf ra V kw tw pf fr cl flt plc true f1 g1 cn ct rn rs 0 := ⟨(by rw [w5.1]; exact x1.n), w5.at x1.c (by decide), w5.at x1.t (by decide), x1.b.kp w5 (by decide), x1.r.kp w5 (by decide), j4, ⟨w5.at x1.g.1 (by decide), rn4, n4⟩, ⟨_, _, m6⟩, ⟨σ4.1, σ4.2.1, σ4.2.2.1, σ4.2.2.2.1, m4, r4.2.2.1 rfl⟩, x1.k.kp w5 (by decide), w5.at x1.e (by decide)⟩
      exact x_iret dX11_turned_88 rfl rfl (Nat.le_refl _) (Nat.le_refl _) ⟨(w8.tr w1).tr (xKp.of w5 (by decide)), _, rfl, Or.inl ⟨n, rfl, hok, ⟨true, f1, g1, fun _ => st1, hx4⟩, by congr 2; funext m; simp [c_66]⟩⟩
  · have c_8 := bi_f c_8
    refine x_aload_n dX11_turned_11 rfl ?_
    refine x_iconst (v := 1) dX11_turned_12 (by decide) ?_
    refine x_callV (As := [.int 1]) (st := []) lv_X11_77 (k_X11_refuse x) dX11_turned_13 x.c rfl rfl (Nat.le_of_ble_eq_true rfl) ⟨by decide, by decide⟩ ⟨by decide, by decide⟩ (fun v9 h9 q => ?_) (fun _ _ _ _ _ q => by cases q.1)
    obtain ⟨ev, w9, x9⟩ := q
    cases ev
    exact x_iret dX11_turned_16 rfl rfl (Nat.le_refl _) (Nat.le_refl _) ⟨w9, _, rfl, Or.inr ⟨fun q => (by rw [hb9.mpr q] at c_8; cases c_8), ⟨ns, f, g, hst, x9⟩, rfl⟩⟩
