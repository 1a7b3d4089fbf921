/-! the court: what follows -/
def askA (nk nt : Nat) (pc : Nat → Nat) (a r : Int32) (P : Nat → Int32 → Prop) : Prop := (∃ n, a = nI n ∧ okAtom nk nt pc n ∧ P n r) ∨ ((¬ ∃ n, a = nI n ∧ n < 2 ^ 31 ∧ okAtom nk nt pc n) ∧ r = -1)
def flA (S : Nat → Bool) (s : Nat → Option Nat) (n : Nat) : Int32 := if S n = true then 2 else if (s n).isSome = true then 1 else 0
def stA (s : Nat → Option Nat) (n : Nat) : Int32 := match s n with
  | some d => nI d
  | none => -2
def askK (nk : Nat) (k r : Int32) (P : Nat → Int32 → Prop) : Prop := (∃ j, j < nk ∧ k = nI j ∧ P j r) ∨ (inR k nk = false ∧ r = -1)
def oneP (s : Nat → Option Nat) (k j : Nat) (r : Int32) : Prop := (∃ m, m < 100 ∧ (s (100 * k + m)).isSome = true ∧ fb_ct (fun i => (s (100 * k + i)).isSome) m = j ∧ r = nI (100 * k + m)) ∨ (fb_ct (fun i => (s (100 * k + i)).isSome) 100 ≤ j ∧ r = -1)
def mxS (s : Nat → Option Nat) : Nat → Nat
  | 0 => 0
  | n + 1 => max (mxS s n) ((s n).getD 0)
theorem stA_in {s : Nat → Option Nat} {f g : Nat → Int32} (h : stl s f g) {n : Nat} (hn : n < 1000) (q : (s n).isSome = true) : g n = stA s n := by
  cases e : s n with
  | none => rw [e] at q; cases q
  | some d => rw [h.2 n d hn e]; unfold stA; rw [e]
theorem stA_out {s : Nat → Option Nat} {n : Nat} (q : (s n).isSome = false) : (-2 : Int32) = stA s n := by
  cases e : s n with
  | none => unfold stA; rw [e]
  | some d => rw [e] at q; cases q
set_option maxRecDepth 100000 in
set_option maxHeartbeats 4000000 in
theorem k_X11_follows {G : xG} {h : xHp} {tsz : Nat} {tp : Nat → Int32} {rc : Nat} {fc : Int32} {nt : Nat} {nk : Nat} {lf : Nat → Int32} {ra : Nat → Nat} {V : Nat → RV} {kw : Nat → Int64} {tw : Nat → Int64} {pf : Nat → Int32} {fr : Nat → Int32} {cl : Int32} {flt : Int32} {plc : Int32} {s : Nat → Option Nat} {cn : Nat} {ct : Nat → Int32} {rn : Nat} {rs : Nat → Int32} {tr : Int32} (X : XT h tsz tp rc fc nt nk lf ra V kw tw pf fr cl flt plc s cn ct rn rs tr) {pc : Nat → Nat} {L : Nat → Nat} {S : Nat → Bool} (c : cOk rc nt nk V pf pc lf L fr S) (hs : IsSt S V rc (fun _ => true) nt s) {a : Int32} : MX G mX11_follows 16 0 0 [.ref 1, .int a] h (fun o h' => xKp h h' ∧ XT h' tsz tp rc fc nt nk lf ra V kw tw pf fr cl flt plc s cn ct rn rs tr ∧ ∃ r, o = .inl (some (.int r)) ∧ askA nk nt pc a r (fun n r => r = flA S s n)) := by
  obtain ⟨ns, f, g, hst, x⟩ := X
  refine MX.of [(0, .ref 1), (1, .int a)] (by decide) rfl (Nat.le_of_ble_eq_true rfl) rfl ?_
  refine x_aload_n dX11_follows_0 rfl ?_
  refine x_get lf_X11_16 dX11_follows_1 x.c rfl ?_
  refine x_iload_n dX11_follows_4 rfl ?_
  refine x_callV (As := [.int a]) (st := []) lv_X11_140 (k_X0_hasAtom x.b.1.1 x.b.1.2.1 x.b.1.2.2.1 x.b.2.2.2.1 c.2.1 c.1.2.1 c.1.1) dX11_follows_5 x.b.1.1 rfl rfl (Nat.le_of_ble_eq_true rfl) ⟨by decide, by decide⟩ ⟨by decide, by decide⟩ (fun v9 h9 q => ?_) (fun _ _ _ _ _ q => by obtain ⟨_, q, _⟩ := q; cases q)
  obtain ⟨b9, ev, eh, hb9⟩ := q
  rw [eh]
  cases ev
  refine x_if_ne 13 dX11_follows_8 (by decide) (fun c_8 => ?_) (fun c_8 => ?_)
  · have c_8 := bi_t c_8
    obtain ⟨n, rfl, hn31, hok⟩ := hb9.mp c_8
    have hn := okAtom_lt hok c.1.2.1
    refine x_aload_n dX11_follows_13 rfl ?_
    refine x_get lf_X11_16 dX11_follows_14 x.c rfl ?_
    refine x_iload_n dX11_follows_17 rfl ?_
    refine x_callV (As := [.int (nI n)]) (st := []) lv_X11_153 (k_X0_isFact (n := n) x.b.1.1 x.b.2.2.2.2.1 c.2.2.2.2.2.2.2 hn) dX11_follows_18 x.b.1.1 rfl rfl (Nat.le_of_ble_eq_true rfl) ⟨by decide, by decide⟩ ⟨by decide, by decide⟩ (fun v h1 q => ?_) (fun _ _ _ _ _ q => by cases q.1)
    obtain ⟨ev, eh⟩ := q
    rw [eh]
    cases ev
    refine x_if_eq 26 dX11_follows_21 (by decide) (fun c_21 => ?_) (fun c_21 => ?_)
    · have c_21 := bi_f c_21
      refine x_aload_n dX11_follows_26 rfl ?_
      refine x_callV (As := []) (st := []) lv_X11_156 (k_X11_settled x c hs hst) dX11_follows_27 x.c rfl rfl (Nat.le_of_ble_eq_true rfl) ⟨by decide, by decide⟩ ⟨by decide, by decide⟩ (fun v1 h1 q => ?_) (fun _ _ _ _ _ q => by cases q.1)
      obtain ⟨ev, w1, f1, g1, st1, x1⟩ := q
      cases ev
      obtain ⟨c1, clk1, m1⟩ := x1.m
      obtain ⟨⟨rf1, hrs1, hrf1⟩, hrl1⟩ := x1.b.1.2.2.2.2.2.1
      refine x_iload_n dX11_follows_30 rfl ?_
      refine x_callV (As := [.int (nI n)]) (st := []) lv_X11_160 (k_X5_has (n := n) m1.1 m1.2.1 st1.1 hn) dX11_follows_31 m1.1 rfl rfl (Nat.le_of_ble_eq_true rfl) ⟨by decide, by decide⟩ ⟨by decide, by decide⟩ (fun v h1 q => ?_) (fun _ _ _ _ _ q => by cases q.1)
      obtain ⟨ev, eh⟩ := q
      rw [eh]
      cases ev
      refine x_if_eq 41 dX11_follows_34 (by decide) (fun c_34 => ?_) (fun c_34 => ?_)
      · have c_34 := bi_f c_34
        refine x_iconst (v := 0) dX11_follows_41 (by decide) ?_
        exact x_iret dX11_follows_42 rfl rfl (Nat.le_refl _) (Nat.le_refl _) ⟨w1, ⟨true, f1, g1, fun _ => st1, x1⟩, _, rfl, Or.inl ⟨n, rfl, hok, by show _ = flA S s n; unfold flA; rw [if_neg (by rw [c_21]; decide), if_neg (by rw [c_34]; decide)]⟩⟩
      · have c_34 := bi_t c_34
        refine x_iconst (v := 1) dX11_follows_37 (by decide) ?_
        refine x_goto 42 dX11_follows_38 (by decide) ?_
        exact x_iret dX11_follows_42 rfl rfl (Nat.le_refl _) (Nat.le_refl _) ⟨w1, ⟨true, f1, g1, fun _ => st1, x1⟩, _, rfl, Or.inl ⟨n, rfl, hok, by show _ = flA S s n; unfold flA; rw [if_neg (by rw [c_21]; decide), if_pos c_34]⟩⟩
    · have c_21 := bi_t c_21
      refine x_iconst (v := 2) dX11_follows_24 (by decide) ?_
      exact x_iret dX11_follows_25 rfl rfl (Nat.le_refl _) (Nat.le_refl _) ⟨xKp_rf h, ⟨ns, f, g, hst, x⟩, _, rfl, Or.inl ⟨n, rfl, hok, by show _ = flA S s n; unfold flA; rw [if_pos c_21]⟩⟩
  · have c_8 := bi_f c_8
    refine x_iconst (v := (-1)) dX11_follows_11 (by decide) ?_
    exact x_iret dX11_follows_12 rfl rfl (Nat.le_refl _) (Nat.le_refl _) ⟨xKp_rf h, ⟨ns, f, g, hst, x⟩, _, rfl, Or.inr ⟨fun q => (by rw [hb9.mpr q] at c_8; cases c_8), rfl⟩⟩
set_option maxRecDepth 100000 in
set_option maxHeartbeats 4000000 in
theorem k_X11_steps {G : xG} {h : xHp} {tsz : Nat} {tp : Nat → Int32} {rc : Nat} {fc : Int32} {nt : Nat} {nk : Nat} {lf : Nat → Int32} {ra : Nat → Nat} {V : Nat → RV} {kw : Nat → Int64} {tw : Nat → Int64} {pf : Nat → Int32} {fr : Nat → Int32} {cl : Int32} {flt : Int32} {plc : Int32} {s : Nat → Option Nat} {cn : Nat} {ct : Nat → Int32} {rn : Nat} {rs : Nat → Int32} {tr : Int32} (X : XT h tsz tp rc fc nt nk lf ra V kw tw pf fr cl flt plc s cn ct rn rs tr) {pc : Nat → Nat} {L : Nat → Nat} {S : Nat → Bool} (c : cOk rc nt nk V pf pc lf L fr S) (hs : IsSt S V rc (fun _ => true) nt s) {a : Int32} : MX G mX11_steps 16 0 0 [.ref 1, .int a] h (fun o h' => xKp h h' ∧ XT h' tsz tp rc fc nt nk lf ra V kw tw pf fr cl flt plc s cn ct rn rs tr ∧ ∃ r, o = .inl (some (.int r)) ∧ askA nk nt pc a r (fun n r => r = stA s n)) := by
  obtain ⟨ns, f, g, hst, x⟩ := X
  refine MX.of [(0, .ref 1), (1, .int a)] (by decide) rfl (Nat.le_of_ble_eq_true rfl) rfl ?_
  refine x_aload_n dX11_steps_0 rfl ?_
  refine x_get lf_X11_16 dX11_steps_1 x.c rfl ?_
  refine x_iload_n dX11_steps_4 rfl ?_
  refine x_callV (As := [.int a]) (st := []) lv_X11_140 (k_X0_hasAtom x.b.1.1 x.b.1.2.1 x.b.1.2.2.1 x.b.2.2.2.1 c.2.1 c.1.2.1 c.1.1) dX11_steps_5 x.b.1.1 rfl rfl (Nat.le_of_ble_eq_true rfl) ⟨by decide, by decide⟩ ⟨by decide, by decide⟩ (fun v9 h9 q => ?_) (fun _ _ _ _ _ q => by obtain ⟨_, q, _⟩ := q; cases q)
  obtain ⟨b9, ev, eh, hb9⟩ := q
  rw [eh]
  cases ev
  refine x_if_ne 13 dX11_steps_8 (by decide) (fun c_8 => ?_) (fun c_8 => ?_)
  · have c_8 := bi_t c_8
    obtain ⟨n, rfl, hn31, hok⟩ := hb9.mp c_8
    have hn := okAtom_lt hok c.1.2.1
    refine x_aload_n dX11_steps_13 rfl ?_
    refine x_callV (As := []) (st := []) lv_X11_156 (k_X11_settled x c hs hst) dX11_steps_14 x.c rfl rfl (Nat.le_of_ble_eq_true rfl) ⟨by decide, by decide⟩ ⟨by decide, by decide⟩ (fun v1 h1 q => ?_) (fun _ _ _ _ _ q => by cases q.1)
    obtain ⟨ev, w1, f1, g1, st1, x1⟩ := q
    cases ev
    obtain ⟨c1, clk1, m1⟩ := x1.m
    obtain ⟨⟨rf1, hrs1, hrf1⟩, hrl1⟩ := x1.b.1.2.2.2.2.2.1
    refine x_astore_n [(0, .ref 1), (1, .int (nI n)), (2, .ref 192)] dX11_steps_17 (by decide) rfl rfl ?_
    refine x_aload_n dX11_steps_18 rfl ?_
    refine x_iload_n dX11_steps_19 rfl ?_
    refine x_callV (As := [.int (nI n)]) (st := []) lv_X11_160 (k_X5_has (n := n) m1.1 m1.2.1 st1.1 hn) dX11_steps_20 m1.1 rfl rfl (Nat.le_of_ble_eq_true rfl) ⟨by decide, by decide⟩ ⟨by decide, by decide⟩ (fun v h1 q => ?_) (fun _ _ _ _ _ q => by cases q.1)
    obtain ⟨ev, eh⟩ := q
    rw [eh]
    cases ev
    refine x_if_eq 35 dX11_steps_23 (by decide) (fun c_23 => ?_) (fun c_23 => ?_)
    · have c_23 := bi_f c_23
      refine x_bipush (v := (-2)) dX11_steps_35 (by decide) ?_
      exact x_iret dX11_steps_37 rfl rfl (Nat.le_refl _) (Nat.le_refl _) ⟨w1, ⟨true, f1, g1, fun _ => st1, x1⟩, _, rfl, Or.inl ⟨n, rfl, hok, stA_out c_23⟩⟩
    · have c_23 := bi_t c_23
      refine x_aload_n dX11_steps_26 rfl ?_
      refine x_get lf_X11_169 dX11_steps_27 m1.1 rfl ?_
      refine x_iload_n dX11_steps_30 rfl ?_
      refine x_ialdN (j := n) m1.2.2.1 rfl (by omega) (by decide) dX11_steps_31 ?_
      refine x_goto 37 dX11_steps_32 (by decide) ?_
      exact x_iret dX11_steps_37 rfl rfl (Nat.le_refl _) (Nat.le_refl _) ⟨w1, ⟨true, f1, g1, fun _ => st1, x1⟩, _, rfl, Or.inl ⟨n, rfl, hok, stA_in st1 hn c_23⟩⟩
  · have c_8 := bi_f c_8
    refine x_iconst (v := (-1)) dX11_steps_11 (by decide) ?_
    exact x_iret dX11_steps_12 rfl rfl (Nat.le_refl _) (Nat.le_refl _) ⟨xKp_rf h, ⟨ns, f, g, hst, x⟩, _, rfl, Or.inr ⟨fun q => (by rw [hb9.mpr q] at c_8; cases c_8), rfl⟩⟩
theorem isRows_cnt {f : Nat → Int32} {S : Nat → Bool} (h : isRows f S) {r : Nat} (hr : r < 100) : xBC (f r) = nI (fb_ct (fun j => S (10 * r + j)) 10) := by
  obtain ⟨m, h1, h2, h3⟩ := h r hr
  rw [h2, b10_count m h1]
  congr 1
  exact fb_ct_cong (fun j hj => h3 j hj)
theorem cnt_k (p : Nat → Bool) (k i : Nat) : fb_ct (fun j => p (100 * k + j)) (10 * i) + fb_ct (fun j => p (10 * (k * 10 + i) + j)) 10 = fb_ct (fun j => p (100 * k + j)) (10 * (i + 1)) := by
  rw [show 10 * (i + 1) = 10 * i + 10 by omega, fb_ct_split]
  congr 1
  exact fb_ct_cong (fun j _ => by congr 1; omega)
set_option maxRecDepth 100000 in
set_option maxHeartbeats 4000000 in
theorem l_X11_many {G : xG} {h : xHp} {tsz : Nat} {tp : Nat → Int32} {rc : Nat} {fc : Int32} {nt : Nat} {nk : Nat} {lf : Nat → Int32} {ra : Nat → Nat} {V : Nat → RV} {kw : Nat → Int64} {tw : Nat → Int64} {pf : Nat → Int32} {fr : Nat → Int32} {cl : Int32} {flt : Int32} {plc : Int32} {s : Nat → Option Nat} {cn : Nat} {ct : Nat → Int32} {rn : Nat} {rs : Nat → Int32} {tr : Int32} {f1 g1 c1 : Nat → Int32} {clk1 : Int32} {h1 : xHp} (w1 : xKp h h1) (st1 : stl s f1 g1) (x1 : XH h1 tsz tp rc fc nt nk lf ra V kw tw pf fr cl flt plc true f1 g1 cn ct rn rs tr) (m1 : mdAt h1 192 193 194 195 true f1 g1 c1 clk1) {k9 : Nat} (hk9 : k9 < nk) (hk10 : nk ≤ 10) : ∀ (k i : Nat), i ≤ 10 → 11 ≤ i + k → Wx G mX11_many (xRm 16 0 0) (xF G ((fun o h' => xKp h h' ∧ XT h' tsz tp rc fc nt nk lf ra V kw tw pf fr cl flt plc s cn ct rn rs tr ∧ ∃ r, o = .inl (some (.int r)) ∧ askK nk (nI k9) r (fun j r => r = nI (fb_ct (fun i => (s (100 * j + i)).isSome) 100)))) 0 0) 0 0 29 [(0, .ref 1), (1, .int (nI k9)), (2, .ref 192), (3, .int (nI (fb_ct (fun j => (s (100 * k9 + j)).isSome) (10 * i)))), (4, .int (nI (k9 * 10 + i)))] [] h1 := by
  intro k
  induction k with
  | zero => exact fun i q1 h2 => absurd h2 (by omega)
  | succ k ih =>
    intro i q1 h2
    refine x_iload dX11_many_29 rfl ?_
    refine x_iload_n dX11_many_31 rfl ?_
    refine x_bipush (v := 10) dX11_many_32 (by decide) ?_
    refine x_imul dX11_many_34 ?_
    refine x_top (y := nI (k9 * 10)) (pk_mul k9 10) ?_
    refine x_bipush (v := 10) dX11_many_35 (by decide) ?_
    refine x_iadd dX11_many_37 ?_
    refine x_top (y := nI ((k9 * 10) + 10)) (nI_add (k9 * 10) 10) ?_
    refine x_icmp_ge 60 dX11_many_38 (by decide) (fun c_38 => ?_) (fun c_38 => ?_)
    · rw [nI_leI (by omega) (by omega)] at c_38
      refine x_iload_n dX11_many_60 rfl ?_
      have e9 : i = 10 := by omega
      subst e9
      exact x_iret dX11_many_61 rfl rfl (Nat.le_refl _) (Nat.le_refl _) ⟨w1, ⟨true, f1, g1, fun _ => st1, x1⟩, _, rfl, Or.inl ⟨k9, hk9, rfl, rfl⟩⟩
    · rw [nI_leI (by omega) (by omega)] at c_38
      refine x_iload_n dX11_many_41 rfl ?_
      refine x_aload_n dX11_many_42 rfl ?_
      refine x_get lf_X11_161 dX11_many_43 m1.1 rfl ?_
      refine x_iload dX11_many_46 rfl ?_
      refine x_ialdN (j := k9 * 10 + i) m1.2.1 rfl (by omega) (by decide) dX11_many_48 ?_
      refine x_callS (As := [.int (f1 (k9 * 10 + i))]) (st := [.int (nI (fb_ct (fun j => (s (100 * k9 + j)).isSome) (10 * i)))]) ls_X11_164 k_bitCount dX11_many_49 rfl rfl (Nat.le_of_ble_eq_true rfl) ⟨by decide, by decide⟩ ⟨by decide, by decide⟩ (fun v h1 q => ?_) (fun _ _ _ _ _ q => by cases q.1)
      obtain ⟨ev, eh⟩ := q
      rw [eh]
      cases ev
      refine x_top (y := nI (fb_ct (fun j => (s (10 * (k9 * 10 + i) + j)).isSome) 10)) (isRows_cnt (S := fun n => (s n).isSome) st1.1 (by omega)) ?_
      refine x_iadd dX11_many_52 ?_
      refine x_top (y := nI (fb_ct (fun j => (s (100 * k9 + j)).isSome) (10 * (i + 1)))) ((nI_add _ _).trans (congrArg nI (cnt_k (fun n => (s n).isSome) k9 i))) ?_
      refine x_istore_n [(0, .ref 1), (1, .int (nI k9)), (2, .ref 192), (3, .int (nI (fb_ct (fun j => (s (100 * k9 + j)).isSome) (10 * (i + 1))))), (4, .int (nI (k9 * 10 + i)))] dX11_many_53 (by decide) rfl rfl ?_
      refine x_iinc (v := nI ((k9 * 10 + i) + 1)) [(0, .ref 1), (1, .int (nI k9)), (2, .ref 192), (3, .int (nI (fb_ct (fun j => (s (100 * k9 + j)).isSome) (10 * (i + 1))))), (4, .int (nI ((k9 * 10 + i) + 1)))] dX11_many_54 rfl (nI_add (k9 * 10 + i) 1) (by decide) rfl rfl ?_
      refine x_goto 29 dX11_many_57 (by decide) ?_
      exact x_ls _ [0, 1, 2, 3, 4] rfl (ih (i + 1) (by omega) (by omega))
set_option maxRecDepth 100000 in
set_option maxHeartbeats 4000000 in
theorem k_X11_many {G : xG} {h : xHp} {tsz : Nat} {tp : Nat → Int32} {rc : Nat} {fc : Int32} {nt : Nat} {nk : Nat} {lf : Nat → Int32} {ra : Nat → Nat} {V : Nat → RV} {kw : Nat → Int64} {tw : Nat → Int64} {pf : Nat → Int32} {fr : Nat → Int32} {cl : Int32} {flt : Int32} {plc : Int32} {s : Nat → Option Nat} {cn : Nat} {ct : Nat → Int32} {rn : Nat} {rs : Nat → Int32} {tr : Int32} (X : XT h tsz tp rc fc nt nk lf ra V kw tw pf fr cl flt plc s cn ct rn rs tr) {pc : Nat → Nat} {L : Nat → Nat} {S : Nat → Bool} (c : cOk rc nt nk V pf pc lf L fr S) (hs : IsSt S V rc (fun _ => true) nt s) {kd : Int32} : MX G mX11_many 16 0 0 [.ref 1, .int kd] h ((fun o h' => xKp h h' ∧ XT h' tsz tp rc fc nt nk lf ra V kw tw pf fr cl flt plc s cn ct rn rs tr ∧ ∃ r, o = .inl (some (.int r)) ∧ askK nk kd r (fun j r => r = nI (fb_ct (fun i => (s (100 * j + i)).isSome) 100)))) := by
  obtain ⟨ns, f, g, hst, x⟩ := X
  refine MX.of [(0, .ref 1), (1, .int kd)] (by decide) rfl (Nat.le_of_ble_eq_true rfl) rfl ?_
  refine x_aload_n dX11_many_0 rfl ?_
  refine x_get lf_X11_16 dX11_many_1 x.c rfl ?_
  refine x_get lf_X11_101 dX11_many_4 x.b.1.1 rfl ?_
  refine x_iload_n dX11_many_7 rfl ?_
  refine x_callV (As := [.int kd]) (st := []) lv_X11_105 (k_X6_has x.b.1.2.1) dX11_many_8 x.b.1.2.1 rfl rfl (Nat.le_of_ble_eq_true rfl) ⟨by decide, by decide⟩ ⟨by decide, by decide⟩ (fun v h1 q => ?_) (fun _ _ _ _ _ q => by cases q.1)
  obtain ⟨ev, eh⟩ := q
  rw [eh]
  cases ev
  refine x_if_ne 16 dX11_many_11 (by decide) (fun c_11 => ?_) (fun c_11 => ?_)
  · obtain ⟨k9, hk9, rfl⟩ := inR_of (bi_t c_11) (by have := c.1.2.1; omega)
    have hk10 := c.1.2.1
    refine x_aload_n dX11_many_16 rfl ?_
    refine x_callV (As := []) (st := []) lv_X11_156 (k_X11_settled x c hs hst) dX11_many_17 x.c rfl rfl (Nat.le_of_ble_eq_true rfl) ⟨by decide, by decide⟩ ⟨by decide, by decide⟩ (fun v1 h1 q => ?_) (fun _ _ _ _ _ q => by cases q.1)
    obtain ⟨ev, w1, f1, g1, st1, x1⟩ := q
    cases ev
    obtain ⟨c1, clk1, m1⟩ := x1.m
    obtain ⟨⟨rf1, hrs1, hrf1⟩, hrl1⟩ := x1.b.1.2.2.2.2.2.1
    refine x_astore_n [(0, .ref 1), (1, .int (nI k9)), (2, .ref 192)] dX11_many_20 (by decide) rfl rfl ?_
    refine x_iconst (v := 0) dX11_many_21 (by decide) ?_
    refine x_istore_n [(0, .ref 1), (1, .int (nI k9)), (2, .ref 192), (3, .int 0)] dX11_many_22 (by decide) rfl rfl ?_
    refine x_iload_n dX11_many_23 rfl ?_
    refine x_bipush (v := 10) dX11_many_24 (by decide) ?_
    refine x_imul dX11_many_26 ?_
    refine x_top (y := nI (k9 * 10)) (pk_mul k9 10) ?_
    refine x_istore [(0, .ref 1), (1, .int (nI k9)), (2, .ref 192), (3, .int 0), (4, .int (nI (k9 * 10)))] dX11_many_27 (by decide) rfl rfl ?_
    exact l_X11_many w1 st1 x1 m1 hk9 hk10 11 0 (by omega) (by omega)
  · refine x_iconst (v := (-1)) dX11_many_14 (by decide) ?_
    exact x_iret dX11_many_15 rfl rfl (Nat.le_refl _) (Nat.le_refl _) ⟨xKp_rf h, ⟨ns, f, g, hst, x⟩, _, rfl, Or.inr ⟨bi_f c_11, rfl⟩⟩
theorem one_s {p : Nat → Bool} {m j : Nat} (hp : p m = true) (h : fb_ct p m ≤ j) (hn : ¬ j - fb_ct p m = 0) : fb_ct p (m + 1) ≤ j ∧ j - fb_ct p m - 1 = j - fb_ct p (m + 1) := by
  rw [fb_ct_succ, if_pos hp]; omega
theorem one_n {p : Nat → Bool} {m : Nat} (hp : p m = false) : fb_ct p (m + 1) = fb_ct p m := by
  rw [fb_ct_succ, if_neg (by rw [hp]; decide)]; rfl
theorem nI_sub1 {a : Nat} (h : 0 < a) (h2 : a < 2 ^ 31) : nI a + -1 = nI (a - 1) := by
  have e : (-1 : Int32) = nI 4294967295 := rfl
  obtain ⟨b, rfl⟩ : ∃ b, a = b + 1 := ⟨a - 1, by omega⟩
  rw [show nI (b + 1) = nI b + 1 from (nI_add b 1).symm, Int32.add_assoc, show (1 : Int32) + -1 = 0 from rfl, Int32.add_zero]
  rfl
set_option maxRecDepth 100000 in
set_option maxHeartbeats 4000000 in
theorem l_X11_one {G : xG} {h : xHp} {tsz : Nat} {tp : Nat → Int32} {rc : Nat} {fc : Int32} {nt : Nat} {nk : Nat} {lf : Nat → Int32} {ra : Nat → Nat} {V : Nat → RV} {kw : Nat → Int64} {tw : Nat → Int64} {pf : Nat → Int32} {fr : Nat → Int32} {cl : Int32} {flt : Int32} {plc : Int32} {s : Nat → Option Nat} {cn : Nat} {ct : Nat → Int32} {rn : Nat} {rs : Nat → Int32} {tr : Int32} {f1 g1 c1 : Nat → Int32} {clk1 : Int32} {h1 : xHp} (w1 : xKp h h1) (st1 : stl s f1 g1) (x1 : XH h1 tsz tp rc fc nt nk lf ra V kw tw pf fr cl flt plc true f1 g1 cn ct rn rs tr) (m1 : mdAt h1 192 193 194 195 true f1 g1 c1 clk1) {k9 j9 : Nat} (hk9 : k9 < nk) (hk10 : nk ≤ 10) (hj9 : j9 < 2 ^ 31) : ∀ (k m : Nat), m ≤ 100 → 101 ≤ m + k → fb_ct (fun i => (s (100 * k9 + i)).isSome) m ≤ j9 → Wx G mX11_one (xRm 16 0 0) (xF G ((fun o h' => xKp h h' ∧ XT h' tsz tp rc fc nt nk lf ra V kw tw pf fr cl flt plc s cn ct rn rs tr ∧ ∃ r, o = .inl (some (.int r)) ∧ ((∃ k, k < nk ∧ (nI k9) = nI k ∧ ∃ j, j < 2 ^ 31 ∧ (nI j9) = nI j ∧ oneP s k j r) ∨ ((inR (nI k9) nk = false ∨ (nI j9) < 0) ∧ r = -1)))) 0 0) 0 0 41 [(0, .ref 1), (1, .int (nI k9)), (2, .int (nI j9)), (3, .ref 192), (4, .int (nI (j9 - fb_ct (fun i => (s (100 * k9 + i)).isSome) m))), (5, .int (nI (100 * k9))), (6, .int (nI (100 * k9 + m)))] [] h1 := by
  intro k
  induction k with
  | zero => exact fun m q1 h2 hle => absurd h2 (by omega)
  | succ k ih =>
    intro m q1 h2 hle
    refine x_iload dX11_one_41 rfl ?_
    refine x_iload dX11_one_43 rfl ?_
    refine x_bipush (v := 100) dX11_one_45 (by decide) ?_
    refine x_iadd dX11_one_47 ?_
    refine x_top (y := nI ((100 * k9) + 100)) (nI_add (100 * k9) 100) ?_
    refine x_icmp_ge 77 dX11_one_48 (by decide) (fun c_48 => ?_) (fun c_48 => ?_)
    · rw [nI_leI (by omega) (by omega)] at c_48
      refine x_iconst (v := (-1)) dX11_one_77 (by decide) ?_
      have e9 : m = 100 := by omega
      subst e9
      exact x_iret dX11_one_78 rfl rfl (Nat.le_refl _) (Nat.le_refl _) ⟨w1, ⟨true, f1, g1, fun _ => st1, x1⟩, _, rfl, Or.inl ⟨k9, hk9, rfl, j9, hj9, rfl, Or.inr ⟨hle, rfl⟩⟩⟩
    · rw [nI_leI (by omega) (by omega)] at c_48
      refine x_aload_n dX11_one_51 rfl ?_
      refine x_iload dX11_one_52 rfl ?_
      refine x_callV (As := [.int (nI (100 * k9 + m))]) (st := []) lv_X11_160 (k_X5_has (n := 100 * k9 + m) m1.1 m1.2.1 st1.1 (by omega)) dX11_one_54 m1.1 rfl rfl (Nat.le_of_ble_eq_true rfl) ⟨by decide, by decide⟩ ⟨by decide, by decide⟩ (fun v h1 q => ?_) (fun _ _ _ _ _ q => by cases q.1)
      obtain ⟨ev, eh⟩ := q
      rw [eh]
      cases ev
      refine x_if_eq 71 dX11_one_57 (by decide) (fun c_57 => ?_) (fun c_57 => ?_)
      · have c_57 := bi_f c_57
        refine x_iinc (v := nI (100 * k9 + (m + 1))) [(0, .ref 1), (1, .int (nI k9)), (2, .int (nI j9)), (3, .ref 192), (4, .int (nI (j9 - fb_ct (fun i => (s (100 * k9 + i)).isSome) m))), (5, .int (nI (100 * k9))), (6, .int (nI (100 * k9 + (m + 1))))] dX11_one_71 rfl (nI_add (100 * k9 + m) 1) (by decide) rfl rfl ?_
        refine x_goto 41 dX11_one_74 (by decide) ?_
        have e8 := one_n (p := (fun i => (s (100 * k9 + i)).isSome)) c_57
        have k9 := ih (m + 1) (by omega) (by omega) (by rw [e8]; exact hle)
        rw [e8] at k9
        exact x_ls _ [0, 1, 2, 3, 4, 5, 6] rfl k9
      · have c_57 := bi_t c_57
        refine x_iload dX11_one_60 rfl ?_
        refine x_if_ne 68 dX11_one_62 (by decide) (fun c_62 => ?_) (fun c_62 => ?_)
        · rw [show (0 : Int32) = nI 0 from rfl, nI_eq (by omega) (by omega)] at c_62
          refine x_iinc (v := nI (j9 - fb_ct (fun i => (s (100 * k9 + i)).isSome) (m + 1))) [(0, .ref 1), (1, .int (nI k9)), (2, .int (nI j9)), (3, .ref 192), (4, .int (nI (j9 - fb_ct (fun i => (s (100 * k9 + i)).isSome) (m + 1)))), (5, .int (nI (100 * k9))), (6, .int (nI (100 * k9 + m)))] dX11_one_68 rfl ((nI_sub1 (by omega) (by omega)).trans (congrArg nI (one_s (p := (fun i => (s (100 * k9 + i)).isSome)) c_57 hle c_62).2)) (by decide) rfl rfl ?_
          refine x_iinc (v := nI (100 * k9 + (m + 1))) [(0, .ref 1), (1, .int (nI k9)), (2, .int (nI j9)), (3, .ref 192), (4, .int (nI (j9 - fb_ct (fun i => (s (100 * k9 + i)).isSome) (m + 1)))), (5, .int (nI (100 * k9))), (6, .int (nI (100 * k9 + (m + 1))))] dX11_one_71 rfl (nI_add (100 * k9 + m) 1) (by decide) rfl rfl ?_
          refine x_goto 41 dX11_one_74 (by decide) ?_
          exact x_ls _ [0, 1, 2, 3, 4, 5, 6] rfl (ih (m + 1) (by omega) (by omega) (one_s (p := (fun i => (s (100 * k9 + i)).isSome)) c_57 hle c_62).1)
        · rw [show (0 : Int32) = nI 0 from rfl, nI_eq (by omega) (by omega)] at c_62
          refine x_iload dX11_one_65 rfl ?_
          exact x_iret dX11_one_67 rfl rfl (Nat.le_refl _) (Nat.le_refl _) ⟨w1, ⟨true, f1, g1, fun _ => st1, x1⟩, _, rfl, Or.inl ⟨k9, hk9, rfl, j9, hj9, rfl, Or.inl ⟨m, by omega, c_57, by omega, rfl⟩⟩⟩
set_option maxRecDepth 100000 in
set_option maxHeartbeats 4000000 in
theorem k_X11_one {G : xG} {h : xHp} {tsz : Nat} {tp : Nat → Int32} {rc : Nat} {fc : Int32} {nt : Nat} {nk : Nat} {lf : Nat → Int32} {ra : Nat → Nat} {V : Nat → RV} {kw : Nat → Int64} {tw : Nat → Int64} {pf : Nat → Int32} {fr : Nat → Int32} {cl : Int32} {flt : Int32} {plc : Int32} {s : Nat → Option Nat} {cn : Nat} {ct : Nat → Int32} {rn : Nat} {rs : Nat → Int32} {tr : Int32} (X : XT h tsz tp rc fc nt nk lf ra V kw tw pf fr cl flt plc s cn ct rn rs tr) {pc : Nat → Nat} {L : Nat → Nat} {S : Nat → Bool} (c : cOk rc nt nk V pf pc lf L fr S) (hs : IsSt S V rc (fun _ => true) nt s) {kd i : Int32} : MX G mX11_one 16 0 0 [.ref 1, .int kd, .int i] h ((fun o h' => xKp h h' ∧ XT h' tsz tp rc fc nt nk lf ra V kw tw pf fr cl flt plc s cn ct rn rs tr ∧ ∃ r, o = .inl (some (.int r)) ∧ ((∃ k, k < nk ∧ kd = nI k ∧ ∃ j, j < 2 ^ 31 ∧ i = nI j ∧ oneP s k j r) ∨ ((inR kd nk = false ∨ i < 0) ∧ r = -1)))) := by
  obtain ⟨ns, f, g, hst, x⟩ := X
  refine MX.of [(0, .ref 1), (1, .int kd), (2, .int i)] (by decide) rfl (Nat.le_of_ble_eq_true rfl) rfl ?_
  refine x_aload_n dX11_one_0 rfl ?_
  refine x_get lf_X11_16 dX11_one_1 x.c rfl ?_
  refine x_get lf_X11_101 dX11_one_4 x.b.1.1 rfl ?_
  refine x_iload_n dX11_one_7 rfl ?_
  refine x_callV (As := [.int kd]) (st := []) lv_X11_105 (k_X6_has x.b.1.2.1) dX11_one_8 x.b.1.2.1 rfl rfl (Nat.le_of_ble_eq_true rfl) ⟨by decide, by decide⟩ ⟨by decide, by decide⟩ (fun v h1 q => ?_) (fun _ _ _ _ _ q => by cases q.1)
  obtain ⟨ev, eh⟩ := q
  rw [eh]
  cases ev
  refine x_if_eq 18 dX11_one_11 (by decide) (fun c_11 => ?_) (fun c_11 => ?_)
  · refine x_iconst (v := (-1)) dX11_one_18 (by decide) ?_
    exact x_iret dX11_one_19 rfl rfl (Nat.le_refl _) (Nat.le_refl _) ⟨xKp_rf h, ⟨ns, f, g, hst, x⟩, _, rfl, Or.inr ⟨by first | exact Or.inr (Int32.not_le.mp c_15) | exact Or.inl (bi_f c_11), rfl⟩⟩
  · refine x_iload_n dX11_one_14 rfl ?_
    refine x_if_ge 20 dX11_one_15 (by decide) (fun c_15 => ?_) (fun c_15 => ?_)
    · obtain ⟨k9, hk9, rfl⟩ := inR_of (bi_t c_11) (by have := c.1.2.1; omega)
      have hk10 := c.1.2.1
      obtain ⟨j9, hj9, rfl⟩ := nI_of (Int32.not_lt.mpr c_15)
      refine x_aload_n dX11_one_20 rfl ?_
      refine x_callV (As := []) (st := []) lv_X11_156 (k_X11_settled x c hs hst) dX11_one_21 x.c rfl rfl (Nat.le_of_ble_eq_true rfl) ⟨by decide, by decide⟩ ⟨by decide, by decide⟩ (fun v1 h1 q => ?_) (fun _ _ _ _ _ q => by cases q.1)
      obtain ⟨ev, w1, f1, g1, st1, x1⟩ := q
      cases ev
      obtain ⟨c1, clk1, m1⟩ := x1.m
      obtain ⟨⟨rf1, hrs1, hrf1⟩, hrl1⟩ := x1.b.1.2.2.2.2.2.1
      refine x_astore_n [(0, .ref 1), (1, .int (nI k9)), (2, .int (nI j9)), (3, .ref 192)] dX11_one_24 (by decide) rfl rfl ?_
      refine x_iload_n dX11_one_25 rfl ?_
      refine x_istore [(0, .ref 1), (1, .int (nI k9)), (2, .int (nI j9)), (3, .ref 192), (4, .int (nI j9))] dX11_one_26 (by decide) rfl rfl ?_
      refine x_iload_n dX11_one_28 rfl ?_
      refine x_bipush (v := 10) dX11_one_29 (by decide) ?_
      refine x_imul dX11_one_31 ?_
      refine x_top (y := nI (k9 * 10)) (pk_mul k9 10) ?_
      refine x_bipush (v := 10) dX11_one_32 (by decide) ?_
      refine x_imul dX11_one_34 ?_
      refine x_top (y := nI ((k9 * 10) * 10)) (pk_mul (k9 * 10) 10) ?_
      refine x_istore [(0, .ref 1), (1, .int (nI k9)), (2, .int (nI j9)), (3, .ref 192), (4, .int (nI j9)), (5, .int (nI ((k9 * 10) * 10)))] dX11_one_35 (by decide) rfl rfl ?_
      refine x_iload dX11_one_37 rfl ?_
      refine x_istore [(0, .ref 1), (1, .int (nI k9)), (2, .int (nI j9)), (3, .ref 192), (4, .int (nI j9)), (5, .int (nI ((k9 * 10) * 10))), (6, .int (nI ((k9 * 10) * 10)))] dX11_one_39 (by decide) rfl rfl ?_
      refine x_ls [(0, .ref 1), (1, .int (nI k9)), (2, .int (nI j9)), (3, .ref 192), (4, .int (nI (j9 - fb_ct (fun i => (s (100 * k9 + i)).isSome) 0))), (5, .int (nI (100 * k9))), (6, .int (nI (100 * k9 + 0)))] [0, 1, 2, 3, 4, 5, 6] (by show _ = _; rw [show k9 * 10 * 10 = 100 * k9 by omega]; rfl) ?_
      exact l_X11_one w1 st1 x1 m1 hk9 hk10 hj9 101 0 (by omega) (by omega) (Nat.zero_le _)
    · refine x_iconst (v := (-1)) dX11_one_18 (by decide) ?_
      exact x_iret dX11_one_19 rfl rfl (Nat.le_refl _) (Nat.le_refl _) ⟨xKp_rf h, ⟨ns, f, g, hst, x⟩, _, rfl, Or.inr ⟨by first | exact Or.inr (Int32.not_le.mp c_15) | exact Or.inl (bi_f c_11), rfl⟩⟩
