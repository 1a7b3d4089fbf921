/-! Cutter: seek; the court: go -/
theorem jgR_goal {s : Nat → Option Nat} {n : Nat} {σ : JS} (hn : n < 1000) (h : jgR s false (nI n) σ) : rowS σ.1 n = (s n).isSome := by
  obtain ⟨h1, h2, -, h4⟩ := h
  cases e : s n with
  | none =>
    cases q : rowS σ.1 n with
    | false => rfl
    | true => obtain ⟨d, hd⟩ := h2 n hn q; rw [e] at hd; cases hd
  | some d =>
    rcases h4 with q | ⟨k, k1, k2, k3⟩
    · exact (q n d hn e).1
    · have := (nI_eq (by omega) (by omega)).mp k2
      rw [this]; exact k3
theorem u_k {rc nk m9 : Nat} {V : Nat → RV} (hm : m9 < 1024) (hrc : rc ≤ 20) (hnk : nk ≤ 10) (hh : ∀ r, r < rc → rvH (V r) < nk) : ∀ r, r < rc → ((fun r => m9.testBit (rvH (V r))) r = true ↔ ¬ nI r = -1 ∧ ¬ ((nI m9 >>> (nI (rvH (V r)) &&& 31)) &&& 1) = 0) := by
  intro r hr
  have h1 := hh r hr
  rw [b10_get m9 hm _ (by omega)]
  show m9.testBit (rvH (V r)) = true ↔ _
  cases m9.testBit (rvH (V r)) with
  | true => exact ⟨fun _ => ⟨nI_m1 (by omega), by decide⟩, fun _ => rfl⟩
  | false => exact ⟨fun q => (by cases q), fun q => absurd rfl q.2⟩
set_option maxRecDepth 100000 in
set_option maxHeartbeats 4000000 in
theorem l_X1_turns {G : xG} {tsz : Nat} {tp : Nat → Int32} {rc : Nat} {fc : Int32} {nt : Nat} {nk : Nat} {lf : Nat → Int32} {ra : Nat → Nat} {V : Nat → RV} {kw : Nat → Int64} {tw : Nat → Int64} {pf : Nat → Int32} {fr : Nat → Int32} {cl : Int32} {flt : Int32} {plc : Int32} {ns : Bool} {f : Nat → Int32} {g : Nat → Int32} {cn : Nat} {ct : Nat → Int32} {rn : Nat} {rs : Nat → Int32} {tr : Int32} {pc : Nat → Nat} {L : Nat → Nat} {S : Nat → Bool} (c : cOk rc nt nk V pf pc lf L fr S) {n9 m9 N : Nat} {ca : Nat → Int32} {cd : Nat → Nat} (hn9 : n9 < 1000) (hm : m9 < 1024) (hN : N ≤ 12) (hcd : candOk S m9 N cd) (hca : ∀ j, j < N → ca j = nI (cd j)) {m : Nat} (hm1 : 1 ≤ m) (hm3 : m ≤ 3) {h1 : xHp} {pk : Nat → Int32} {P : Nat → Nat} (x1 : XH h1 tsz tp rc fc nt nk lf ra V kw tw pf fr cl flt plc ns f g cn ct rn rs tr) (e : ctE h1 (nI n9) (nI m9) N ca pk cn ct) (hP : vP m N P) (hpk : ∀ i, i < m → pk i = nI (P i)) {g5 c2 : Nat → Int32} {t : Nat} {Q9 : Option Value ⊕ Nat → xHp → Prop} (hcont : ∀ (f2 : Nat → Int32) (h2 : xHp), mdAt h2 196 197 198 199 false f2 g5 c2 0 → isRows f2 (minS S m (fun i => cd (P i))) → xfr h1 h2 [196, 197, 198, 199] → Wx G mX1_seek (xRm 16 0 0) (xF G Q9 0 0) 0 0 98 [(0, .ref 200), (1, .int (nI m)), (2, .int 1), (3, .int (nI t))] [] h2) : ∀ (k p : Nat) (f2 : Nat → Int32) (h2 : xHp), p ≤ m → m + 1 ≤ p + k → mdAt h2 196 197 198 199 false f2 g5 c2 0 → isRows f2 (minS S p (fun i => cd (P i))) → xfr h1 h2 [196, 197, 198, 199] → Wx G mX1_seek (xRm 16 0 0) (xF G Q9 0 0) 0 0 67 [(0, .ref 200), (1, .int (nI m)), (2, .int 1), (3, .int (nI t)), (4, .int (nI p))] [] h2 := by
  intro k
  induction k with
  | zero => exact fun p f2 h2 q1 q2 => absurd q2 (by omega)
  | succ k ih =>
    intro p f2 h2 q1 q2 m2 i2 w2
    refine x_iload dX1_seek_67 rfl ?_
    refine x_iload_n dX1_seek_69 rfl ?_
    refine x_icmp_ge 98 dX1_seek_70 (by decide) (fun c_70 => ?_) (fun c_70 => ?_)
    · rw [nI_leI (by omega) (by omega)] at c_70
      have e9 : p = m := by omega
      subst e9
      exact x_ls _ [0, 1, 2, 3] rfl (hcont f2 h2 m2 i2 w2)
    · rw [nI_leI (by omega) (by omega)] at c_70
      have hPp := hP.1 p (by omega)
      have hcp := hcd.1 (P p) hPp
      refine x_aload_n dX1_seek_73 rfl ?_
      refine x_get lf_X1_29 dX1_seek_74 (w2.at e.1 (by decide)) rfl ?_
      refine x_aload_n dX1_seek_77 rfl ?_
      refine x_get lf_X1_9 dX1_seek_78 (w2.at e.1 (by decide)) rfl ?_
      refine x_aload_n dX1_seek_81 rfl ?_
      refine x_get lf_X1_15 dX1_seek_82 (w2.at e.1 (by decide)) rfl ?_
      refine x_iload dX1_seek_85 rfl ?_
      refine x_ialdN (j := p) (w2.at e.2.2.1 (by decide)) rfl (by omega) (by decide) dX1_seek_87 ?_
      refine x_top (hpk p (by omega)) ?_
      refine x_ialdN (j := P p) (w2.at e.2.1 (by decide)) rfl (by omega) (by decide) dX1_seek_88 ?_
      refine x_top (hca (P p) (by omega)) ?_
      refine x_callV (As := [.int (nI (cd (P p)))]) (st := []) lv_X1_62 (k_X5_turn m2.1 m2.2.1 hcp.1) dX1_seek_89 m2.1 rfl rfl (Nat.le_of_ble_eq_true rfl) ⟨by decide, by decide⟩ ⟨by decide, by decide⟩ (fun v h3 q => ?_) (fun _ _ _ _ _ q => by cases q.1)
      obtain ⟨ev, eh⟩ := q
      cases ev
      have w3 : xfr h1 h3 [196, 197, 198, 199] := by rw [eh]; exact w2.up (by decide)
      have m3 : mdAt h3 196 197 198 199 false (fRow f2 (cd (P p))) g5 c2 0 := by rw [eh]; exact ⟨(xup_ne (by decide)).trans m2.1, xup_self _ _ _, (xup_ne (by decide)).trans m2.2.2.1, (xup_ne (by decide)).trans m2.2.2.2⟩
      have i3 : isRows (fRow f2 (cd (P p))) (minS S (p + 1) (fun i => cd (P i))) := by
          have z := isRows_flip i2 hcp.1
          rw [show flipS (minS S p (fun i => cd (P i))) (cd (P p)) = minS S (p + 1) (fun i => cd (P i)) from minS_s (D := fun i => cd (P i)) hcp.2.1 (fun i hi q => by have := hcd.2.1 _ _ (hP.2 i p hi (by omega)) (hP.1 p (by omega)); have q : cd (P i) = cd (P p) := q; omega)] at z
          exact z
      refine x_iinc (v := nI (p + 1)) [(0, .ref 200), (1, .int (nI m)), (2, .int 1), (3, .int (nI t)), (4, .int (nI (p + 1)))] dX1_seek_92 rfl (nI_add p 1) (by decide) rfl rfl ?_
      refine x_goto 67 dX1_seek_95 (by decide) ?_
      exact x_ls _ [0, 1, 2, 3, 4] rfl (ih (p + 1) (fRow f2 (cd (P p))) h3 (by omega) (by omega) m3 i3 w3)
theorem minS_cg {S : Nat → Bool} {m : Nat} {D D' : Nat → Nat} (h : ∀ i, i < m → D i = D' i) : minS S m D = minS S m D' := by
  funext n
  unfold minS
  congr 2
  cases e : inD D m n with
  | true => obtain ⟨i, a, b⟩ := inD_iff.mp e; exact (inD_iff.mpr ⟨i, a, by rw [← h i a]; exact b⟩).symm
  | false =>
    cases e2 : inD D' m n with
    | false => rfl
    | true => obtain ⟨i, a, b⟩ := inD_iff.mp e2; rw [inD_iff.mpr ⟨i, a, by rw [h i a]; exact b⟩] at e; cases e
set_option maxRecDepth 100000 in
set_option maxHeartbeats 4000000 in
theorem l_X1_seek {G : xG} {h : xHp} {tsz : Nat} {tp : Nat → Int32} {rc : Nat} {fc : Int32} {nt : Nat} {nk : Nat} {lf : Nat → Int32} {ra : Nat → Nat} {V : Nat → RV} {kw : Nat → Int64} {tw : Nat → Int64} {pf : Nat → Int32} {fr : Nat → Int32} {cl : Int32} {flt : Int32} {plc : Int32} {ns : Bool} {f : Nat → Int32} {g : Nat → Int32} {cn : Nat} {ct : Nat → Int32} {rn : Nat} {rs : Nat → Int32} {tr : Int32} {pc : Nat → Nat} {L : Nat → Nat} {S : Nat → Bool} (c : cOk rc nt nk V pf pc lf L fr S) {n9 m9 N : Nat} {ca : Nat → Int32} {cd : Nat → Nat} (hn9 : n9 < 1000) (hm : m9 < 1024) (hN : N ≤ 12) (hcd : candOk S m9 N cd) (hca : ∀ j, j < N → ca j = nI (cd j)) {m : Nat} (hm1 : 1 ≤ m) (hm3 : m ≤ 3) : ∀ (k t : Nat) (h1 : xHp) (pk : Nat → Int32) (P : Nat → Nat), t ≤ 220 → 221 ≤ t + k → XH h1 tsz tp rc fc nt nk lf ra V kw tw pf fr cl flt plc ns f g cn ct rn rs tr → ctE h1 (nI n9) (nI m9) N ca pk cn ct → (∀ i, i < m → pk i = nI (P i)) → vP m N P → t + rem9 m N P ≤ 220 → xKp h h1 → (∀ Q, vP m N Q → lexS m Q P → cutK S V rc nt n9 m9 m (fun i => cd (Q i)) true) → Wx G mX1_seek (xRm 16 0 0) (xF G (fun o h' => ∃ (b : Bool) (cn' : Nat) (ct' pk' : Nat → Int32), o = .inl (some (.int (bi b))) ∧ xKp h h' ∧ XH h' tsz tp rc fc nt nk lf ra V kw tw pf fr cl flt plc ns f g cn' ct' rn rs tr ∧ ctE h' (nI n9) (nI m9) N ca pk' cn' ct' ∧ ((b = false ∧ cn' = cn ∧ ct' = ct ∧ ∀ P, vP m N P → cutK S V rc nt n9 m9 m (fun i => cd (P i)) true) ∨ (b = true ∧ ∃ P, vP m N P ∧ cutK S V rc nt n9 m9 m (fun i => cd (P i)) false ∧ (∀ Q, vP m N Q → lexS m Q P → cutK S V rc nt n9 m9 m (fun i => cd (Q i)) true) ∧ cn' = m ∧ ct' = ctF (fun i => cd (P i)) m ct))) 0 0) 0 0 39 [(0, .ref 200), (1, .int (nI m)), (2, .int 1), (3, .int (nI t))] [] h1 := by
  intro k
  induction k with
  | zero => exact fun t h1 pk P q1 q2 => absurd q2 (by omega)
  | succ k ih =>
    intro t h1 pk P q1 q2 x1 e hpk hP hrem w1 hno
    refine x_iload_n dX1_seek_39 rfl ?_
    refine x_sipush (v := 220) dX1_seek_40 (by decide) ?_
    refine x_icmp_ge 151 dX1_seek_43 (by decide) (fun c_43 => ?_) (fun c_43 => ?_)
    · rw [show (220 : Int32) = nI 220 from rfl, nI_leI (by omega) (by omega)] at c_43
      refine x_iconst (v := 0) dX1_seek_151 (by decide) ?_
      exact absurd (rem9_pos hm1 hm3 hP) (by omega)
    · rw [show (220 : Int32) = nI 220 from rfl, nI_leI (by omega) (by omega)] at c_43
      refine x_iload_n dX1_seek_46 rfl ?_
      refine x_if_eq 151 dX1_seek_47 (by decide) (fun c => absurd c (by decide)) (fun _ => ?_)
      refine x_aload_n dX1_seek_50 rfl ?_
      refine x_get lf_X1_29 dX1_seek_51 e.1 rfl ?_
      refine x_aload_n dX1_seek_54 rfl ?_
      refine x_get lf_X1_21 dX1_seek_55 e.1 rfl ?_
      refine x_get lf_X1_53 dX1_seek_58 x1.b.1.1 rfl ?_
      obtain ⟨f5, g5, c5, clk5, m5, z5⟩ := x1.s
      refine x_callV (As := [.ref 12]) (st := []) lv_X1_56 (k_X5_start (a := 196) m5 x1.b.2.2.2.2.1 c.2.2.2.2.2.2.2 (okMd_ne (md := 196))) dX1_seek_61 m5.1 rfl rfl (Nat.le_of_ble_eq_true rfl) ⟨by decide, by decide⟩ ⟨by decide, by decide⟩ (fun v h2 q => ?_) (fun _ _ _ _ _ q => by cases q.1)
      obtain ⟨ev, f2, g2, c2, m2, i2, -, -, k2, w2⟩ := q
      cases ev
      rw [k2 rfl] at m2
      refine x_iconst (v := 0) dX1_seek_64 (by decide) ?_
      refine x_istore [(0, .ref 200), (1, .int (nI m)), (2, .int 1), (3, .int (nI t)), (4, .int 0)] dX1_seek_65 (by decide) rfl rfl ?_
      refine l_X1_turns c hn9 hm hN hcd hca hm1 hm3 x1 e hP hpk (fun f3 h3 m3 i3 w3 => ?_) (m + 1) 0 f2 h2 (by omega) (by omega) m2 (by rw [minS_0]; exact i2) w2
      refine x_aload_n dX1_seek_98 rfl ?_
      refine x_get lf_X1_25 dX1_seek_99 (w3.at e.1 (by decide)) rfl ?_
      refine x_aload_n dX1_seek_102 rfl ?_
      refine x_get lf_X1_29 dX1_seek_103 (w3.at e.1 (by decide)) rfl ?_
      refine x_iconst (v := (-1)) dX1_seek_106 (by decide) ?_
      refine x_aload_n dX1_seek_107 rfl ?_
      refine x_get lf_X1_43 dX1_seek_108 (w3.at e.1 (by decide)) rfl ?_
      refine x_aload_n dX1_seek_111 rfl ?_
      refine x_get lf_X1_33 dX1_seek_112 (w3.at e.1 (by decide)) rfl ?_
      obtain ⟨rn9, hrn9⟩ := x1.g.2
      obtain ⟨s4, hs4⟩ := st_exists (F := minS S m (fun i => cd (P i))) (U := fun r => m9.testBit (rvH (V r))) c.2.2.1 c.1.1 c.2.2.2.2.1 c.2.2.2.2.2.2.1
      have hH1 : jgH h3 h3 rc fc nt nk lf ra V 196 false (f3, g5, c2, 0, 0, false, fun _ => 0) rn9 := ⟨x1.b.1.kept w3 (by decide), w3.at x1.g.1 (by decide), w3.at hrn9 (by decide), jnI_kp x1.j w3 (by decide), m3, xfr_rf _ _⟩
      refine x_callV (As := [.ref 196, .int (-1), .int (nI m9), .int (nI n9)]) (st := []) lv_X1_66 (k_X3_settle hs4 c.2.2.1 c.1.1 c.2.2.2.2.1 c.2.2.2.2.2.1 c.2.2.2.2.2.2.1 c.1.2.2 (Or.inr rfl) (u_k hm c.1.2.2 c.1.2.1 c.2.2.2.1) (Or.inr ⟨n9, hn9, rfl⟩) c.1.2.1 c.2.2.2.1 hH1 (bs_start hs4 i3 (fun z => by cases z) (fun _ => z5))) dX1_seek_115 (w3.at x1.g.1 (by decide)) rfl rfl (Nat.le_of_ble_eq_true rfl) ⟨by decide, by decide⟩ ⟨by decide, by decide⟩ (fun v h4 q => ?_) (fun _ _ _ _ _ q => by cases q.1)
      obtain ⟨ev, σ4, rn4, m4, j4, n4, w4, r4⟩ := q
      cases ev
      have w5 : xfr h1 h4 [191, 187, 188, 189, 196, 197, 198, 199] := (w3.wd (by decide)).tr w4
      have hgo := jgR_goal hn9 r4
      have hx4 : XH h4 tsz tp rc fc nt nk lf ra V kw tw pf fr cl flt plc ns f g cn ct rn rs tr := ⟨(by rw [w5.1]; exact x1.n), w5.at x1.c (by decide), w5.at x1.t (by decide), x1.b.kp w5 (by decide), x1.r.kp w5 (by decide), j4, ⟨w5.at x1.g.1 (by decide), rn4, n4⟩, md_kp x1.m w5 (by decide), ⟨σ4.1, σ4.2.1, σ4.2.2.1, σ4.2.2.2.1, m4, r4.2.2.1 rfl⟩, x1.k.kp w5 (by decide), w5.at x1.e (by decide)⟩
      have e4 := e.kp w5 (by decide)
      refine x_aload_n dX1_seek_118 rfl ?_
      refine x_get lf_X1_29 dX1_seek_119 e4.1 rfl ?_
      refine x_aload_n dX1_seek_122 rfl ?_
      refine x_get lf_X1_33 dX1_seek_123 e4.1 rfl ?_
      refine x_callV (As := [.int (nI n9)]) (st := []) lv_X1_72 (k_X5_has (n := n9) m4.1 m4.2.1 r4.1 hn9) dX1_seek_126 m4.1 rfl rfl (Nat.le_of_ble_eq_true rfl) ⟨by decide, by decide⟩ ⟨by decide, by decide⟩ (fun v hq9 q => ?_) (fun _ _ _ _ _ q => by cases q.1)
      obtain ⟨ev, eh⟩ := q
      rw [eh]
      cases ev
      refine x_if_ne 139 dX1_seek_129 (by decide) (fun c_129 => ?_) (fun c_129 => ?_)
      · have c_129 := bi_t c_129
        refine x_aload_n dX1_seek_139 rfl ?_
        refine x_iload_n dX1_seek_140 rfl ?_
        refine x_callV (As := [.int (nI m)]) (st := []) lv_X1_78 (k_X1_nextPicks e4 hm1 hm3 hN hP hpk) dX1_seek_141 e4.1 rfl rfl (Nat.le_of_ble_eq_true rfl) ⟨by decide, by decide⟩ ⟨by decide, by decide⟩ (fun v h5 q => ?_) (fun _ _ _ _ _ q => by obtain ⟨_, _, _, q, _⟩ := q; cases q)
        obtain ⟨b9, P', pk', ev, eh, hpk', hnx⟩ := q
        cases ev
        have w6 : xfr h4 h5 [202] := by rw [eh]; exact (xfr_rf _ _).up (by decide)
        have e6 : ctE h5 (nI n9) (nI m9) N ca pk' cn ct := ⟨w6.at e4.1 (by decide), w6.at e4.2.1 (by decide), by rw [eh]; exact xup_self _ _ _, w6.at e4.2.2.2 (by decide)⟩
        refine x_istore_n [(0, .ref 200), (1, .int (nI m)), (2, .int (bi b9)), (3, .int (nI t))] dX1_seek_144 (by decide) rfl rfl ?_
        refine x_iinc (v := nI (t + 1)) [(0, .ref 200), (1, .int (nI m)), (2, .int (bi b9)), (3, .int (nI (t + 1)))] dX1_seek_145 rfl (nI_add t 1) (by decide) rfl rfl ?_
        refine x_goto 39 dX1_seek_148 (by decide) ?_
        have hnc : cutK S V rc nt n9 m9 m (fun i => cd (P i)) true := ⟨s4, hs4, by rw [← hgo]; exact c_129⟩
        have hx5 : XH h5 tsz tp rc fc nt nk lf ra V kw tw pf fr cl flt plc ns f g cn ct rn rs tr := ⟨(by rw [w6.1]; exact hx4.n), w6.at hx4.c (by decide), w6.at hx4.t (by decide), hx4.b.kp w6 (by decide), hx4.r.kp w6 (by decide), jnI_kp hx4.j w6 (by decide), hx4.g.kp w6 (by decide), md_kp hx4.m w6 (by decide), hx4.s.kp w6 (by decide), e6.H, w6.at hx4.e (by decide)⟩
        cases b9 with
        | true =>
          obtain ⟨n1, n2, n3⟩ := hnx.1 rfl
          refine x_ls _ [0, 1, 2, 3] rfl (ih (t + 1) h5 pk' P' (by omega) (by omega) hx5 e6 (hpk' rfl) n1 (by omega) ((w1.tr (xKp.of w5 (by decide))).tr (xKp.of w6 (by decide))) (fun Q hQ q => ?_))
          rcases n3 Q hQ q with z | z
          · obtain ⟨s7, a7, b7⟩ := hnc
            exact ⟨s7, by rw [show minS S m (fun i => cd (Q i)) = minS S m (fun i => cd (P i)) from minS_cg (fun i hi => by rw [z i hi])]; exact a7, b7⟩
          · exact hno Q hQ z
        | false =>
          refine x_iload_n dX1_seek_39 rfl ?_
          refine x_sipush (v := 220) dX1_seek_40 (by decide) ?_
          refine x_icmp_ge 151 dX1_seek_43 (by decide) (fun c_43 => ?_) (fun c_43 => ?_)
          · rw [show (220 : Int32) = nI 220 from rfl, nI_leI (by omega) (by omega)] at c_43
            refine x_iconst (v := 0) dX1_seek_151 (by decide) ?_
            refine x_iret dX1_seek_152 rfl rfl (Nat.le_refl _) (Nat.le_refl _) ⟨false, cn, ct, pk', rfl, (w1.tr (xKp.of w5 (by decide))).tr (xKp.of w6 (by decide)), hx5, e6, Or.inl ⟨rfl, rfl, rfl, fun Q hQ => ?_⟩⟩
            rcases lex_tot m Q P with z | z
            · rcases z with z | z
              · obtain ⟨s7, a7, b7⟩ := hnc
                exact ⟨s7, by rw [show minS S m (fun i => cd (Q i)) = minS S m (fun i => cd (P i)) from minS_cg (fun i hi => by rw [z i hi])]; exact a7, b7⟩
              · exact hno Q hQ z
            · exact absurd z (hnx.2 rfl Q hQ)
          · rw [show (220 : Int32) = nI 220 from rfl, nI_leI (by omega) (by omega)] at c_43
            refine x_iload_n dX1_seek_46 rfl ?_
            refine x_if_eq 151 dX1_seek_47 (by decide) (fun _ => ?_) (fun c => absurd c (by decide))
            refine x_iconst (v := 0) dX1_seek_151 (by decide) ?_
            refine x_iret dX1_seek_152 rfl rfl (Nat.le_refl _) (Nat.le_refl _) ⟨false, cn, ct, pk', rfl, (w1.tr (xKp.of w5 (by decide))).tr (xKp.of w6 (by decide)), hx5, e6, Or.inl ⟨rfl, rfl, rfl, fun Q hQ => ?_⟩⟩
            rcases lex_tot m Q P with z | z
            · rcases z with z | z
              · obtain ⟨s7, a7, b7⟩ := hnc
                exact ⟨s7, by rw [show minS S m (fun i => cd (Q i)) = minS S m (fun i => cd (P i)) from minS_cg (fun i hi => by rw [z i hi])]; exact a7, b7⟩
              · exact hno Q hQ z
            · exact absurd z (hnx.2 rfl Q hQ)
      · have c_129 := bi_f c_129
        refine x_aload_n dX1_seek_132 rfl ?_
        refine x_iload_n dX1_seek_133 rfl ?_
        refine x_callV (As := [.int (nI m)]) (st := []) lv_X1_75 (k_X1_keepPicks e4 hm3 hN hP hpk hca) dX1_seek_134 e4.1 rfl rfl (Nat.le_of_ble_eq_true rfl) ⟨by decide, by decide⟩ ⟨by decide, by decide⟩ (fun v h5 q => ?_) (fun _ _ _ _ _ q => by cases q.1)
        obtain ⟨ev, w6, e6⟩ := q
        cases ev
        refine x_iconst (v := 1) dX1_seek_137 (by decide) ?_
        have hx5 : XH h5 tsz tp rc fc nt nk lf ra V kw tw pf fr cl flt plc ns f g m (ctF (fun i => cd (P i)) m ct) rn rs tr := ⟨(by rw [w6.1]; exact hx4.n), w6.at hx4.c (by decide), w6.at hx4.t (by decide), hx4.b.kp w6 (by decide), hx4.r.kp w6 (by decide), jnI_kp hx4.j w6 (by decide), hx4.g.kp w6 (by decide), md_kp hx4.m w6 (by decide), hx4.s.kp w6 (by decide), e6.H, w6.at hx4.e (by decide)⟩
        exact x_iret dX1_seek_138 rfl rfl (Nat.le_refl _) (Nat.le_refl _) ⟨true, m, _, pk, rfl, (w1.tr (xKp.of w5 (by decide))).tr (xKp.of w6 (by decide)), hx5, e6, Or.inr ⟨rfl, P, hP, ⟨s4, hs4, by rw [← hgo]; exact c_129⟩, hno, rfl, rfl⟩⟩
def pkF (i : Nat) (pk : Nat → Int32) : Nat → Int32 := fun j => if j < i then nI j else pk j
theorem pkF_s (i : Nat) (pk : Nat → Int32) : upd (pkF i pk) i (nI i) = pkF (i + 1) pk := by
  funext j
  unfold upd pkF
  by_cases e : j = i
  · rw [if_pos e, if_pos (by omega), e]
  · rw [if_neg e]
    by_cases e2 : j < i
    · rw [if_pos e2, if_pos (show j < i + 1 by omega)]
    · rw [if_neg e2, if_neg (show ¬ j < i + 1 by omega)]
set_option maxRecDepth 100000 in
set_option maxHeartbeats 4000000 in
theorem p_X1_seek {G : xG} {h : xHp} {tsz : Nat} {tp : Nat → Int32} {rc : Nat} {fc : Int32} {nt : Nat} {nk : Nat} {lf : Nat → Int32} {ra : Nat → Nat} {V : Nat → RV} {kw : Nat → Int64} {tw : Nat → Int64} {pf : Nat → Int32} {fr : Nat → Int32} {cl : Int32} {flt : Int32} {plc : Int32} {ns : Bool} {f : Nat → Int32} {g : Nat → Int32} {cn : Nat} {ct : Nat → Int32} {rn : Nat} {rs : Nat → Int32} {tr : Int32} {pc : Nat → Nat} {L : Nat → Nat} {S : Nat → Bool} (c : cOk rc nt nk V pf pc lf L fr S) {n9 m9 N : Nat} {ca : Nat → Int32} {cd : Nat → Nat} (hn9 : n9 < 1000) (hm : m9 < 1024) (hN : N ≤ 12) (hcd : candOk S m9 N cd) (hca : ∀ j, j < N → ca j = nI (cd j)) {m : Nat} (hm1 : 1 ≤ m) (hm3 : m ≤ 3) {pk : Nat → Int32} (x : XH h tsz tp rc fc nt nk lf ra V kw tw pf fr cl flt plc ns f g cn ct rn rs tr) (e : ctE h (nI n9) (nI m9) N ca pk cn ct) (hmN : m ≤ N) : ∀ (k p : Nat), p ≤ m → m + 1 ≤ p + k → Wx G mX1_seek (xRm 16 0 0) (xF G ((fun o h' => ∃ (b : Bool) (cn' : Nat) (ct' pk' : Nat → Int32), o = .inl (some (.int (bi b))) ∧ xKp h h' ∧ XH h' tsz tp rc fc nt nk lf ra V kw tw pf fr cl flt plc ns f g cn' ct' rn rs tr ∧ ctE h' (nI n9) (nI m9) N ca pk' cn' ct' ∧ ((b = false ∧ cn' = cn ∧ ct' = ct ∧ ∀ P, vP m N P → cutK S V rc nt n9 m9 m (fun i => cd (P i)) true) ∨ (b = true ∧ ∃ P, vP m N P ∧ cutK S V rc nt n9 m9 m (fun i => cd (P i)) false ∧ (∀ Q, vP m N Q → lexS m Q P → cutK S V rc nt n9 m9 m (fun i => cd (Q i)) true) ∧ cn' = m ∧ ct' = ctF (fun i => cd (P i)) m ct)))) 0 0) 0 0 17 [(0, .ref 200), (1, .int (nI m)), (2, .int (nI p))] [] (xup h 202 (.inl (0, 3, .inl (pkF p pk)))) := by
  intro k
  induction k with
  | zero => exact fun p q1 q2 => absurd q2 (by omega)
  | succ k ih =>
    intro p q1 q2
    refine x_iload_n dX1_seek_17 rfl ?_
    refine x_iload_n dX1_seek_18 rfl ?_
    refine x_icmp_ge 35 dX1_seek_19 (by decide) (fun c_19 => ?_) (fun c_19 => ?_)
    · rw [nI_leI (by omega) (by omega)] at c_19
      refine x_iconst (v := 1) dX1_seek_35 (by decide) ?_
      refine x_istore_n [(0, .ref 200), (1, .int (nI m)), (2, .int 1)] dX1_seek_36 (by decide) rfl rfl ?_
      refine x_iconst (v := 0) dX1_seek_37 (by decide) ?_
      refine x_istore_n [(0, .ref 200), (1, .int (nI m)), (2, .int 1), (3, .int 0)] dX1_seek_38 (by decide) rfl rfl ?_
      have e9 : p = m := by omega
      subst e9
      have w1 : xfr h (xup h 202 (.inl (0, 3, .inl (pkF p pk)))) [202] := (xfr_rf _ _).up (by decide)
      have e1 : ctE (xup h 202 (.inl (0, 3, .inl (pkF p pk)))) (nI n9) (nI m9) N ca (pkF p pk) cn ct := ⟨w1.at e.1 (by decide), w1.at e.2.1 (by decide), xup_self _ _ _, w1.at e.2.2.2 (by decide)⟩
      have x1 : XH (xup h 202 (.inl (0, 3, .inl (pkF p pk)))) tsz tp rc fc nt nk lf ra V kw tw pf fr cl flt plc ns f g cn ct rn rs tr := ⟨(by rw [w1.1]; exact x.n), w1.at x.c (by decide), w1.at x.t (by decide), x.b.kp w1 (by decide), x.r.kp w1 (by decide), jnI_kp x.j w1 (by decide), x.g.kp w1 (by decide), md_kp x.m w1 (by decide), x.s.kp w1 (by decide), e1.H, w1.at x.e (by decide)⟩
      refine l_X1_seek (h := h) c hn9 hm hN hcd hca hm1 hm3 221 0 _ (pkF p pk) (fun i => i) (by omega) (by omega) x1 e1 (fun i hi => by unfold pkF; rw [if_pos hi]) ⟨fun i hi => Nat.lt_of_lt_of_le hi hmN, fun i j a b => a⟩ (by have := rem9_0 hm1 hm3 hN; omega) (xKp.of w1 (by decide)) (fun Q hQ q => ?_)
      exfalso
      obtain ⟨k9, z1, z2, z3⟩ := q
      have z4 : ∀ j, j < k9 + 1 → j ≤ Q j := fun j => by
            induction j with
            | zero => exact fun _ => Nat.zero_le _
            | succ j ihj => intro hj; have := ihj (by omega); have := hQ.2 j (j + 1) (by omega) (by omega); omega
      have := z4 k9 (by omega)
      have z3 : Q k9 < k9 := z3
      omega
    · rw [nI_leI (by omega) (by omega)] at c_19
      refine x_aload_n dX1_seek_22 rfl ?_
      refine x_get lf_X1_15 dX1_seek_23 ((xup_ne (by decide)).trans e.1) rfl ?_
      refine x_iload_n dX1_seek_26 rfl ?_
      refine x_iload_n dX1_seek_27 rfl ?_
      refine x_iastN (j := p) (xup_self _ _ _) rfl (by omega) (by decide) dX1_seek_28 ?_
      refine x_iinc (v := nI (p + 1)) [(0, .ref 200), (1, .int (nI m)), (2, .int (nI (p + 1)))] dX1_seek_29 rfl (nI_add p 1) (by decide) rfl rfl ?_
      refine x_goto 17 dX1_seek_32 (by decide) ?_
      exact x_heap (by rw [xup_up, pkF_s]) (x_ls _ [0, 1, 2] rfl (ih (p + 1) (by omega) (by omega)))
theorem vP_le {m N : Nat} {P : Nat → Nat} (h : vP m N P) : m ≤ N := by
  have h1 : ∀ i, i < m → i ≤ P i := fun i => by
    induction i with
    | zero => exact fun _ => Nat.zero_le _
    | succ i ih => intro hi; have := ih (by omega); have := h.2 i (i + 1) (by omega) hi; omega
  rcases Nat.eq_zero_or_pos m with z | z
  · omega
  · have := h1 (m - 1) (by omega); have := h.1 (m - 1) (by omega); omega
set_option maxRecDepth 100000 in
set_option maxHeartbeats 4000000 in
theorem k_X1_seek {G : xG} {h : xHp} {tsz : Nat} {tp : Nat → Int32} {rc : Nat} {fc : Int32} {nt : Nat} {nk : Nat} {lf : Nat → Int32} {ra : Nat → Nat} {V : Nat → RV} {kw : Nat → Int64} {tw : Nat → Int64} {pf : Nat → Int32} {fr : Nat → Int32} {cl : Int32} {flt : Int32} {plc : Int32} {ns : Bool} {f : Nat → Int32} {g : Nat → Int32} {cn : Nat} {ct : Nat → Int32} {rn : Nat} {rs : Nat → Int32} {tr : Int32} {pc : Nat → Nat} {L : Nat → Nat} {S : Nat → Bool} (c : cOk rc nt nk V pf pc lf L fr S) {n9 m9 N : Nat} {ca : Nat → Int32} {cd : Nat → Nat} (hn9 : n9 < 1000) (hm : m9 < 1024) (hN : N ≤ 12) (hcd : candOk S m9 N cd) (hca : ∀ j, j < N → ca j = nI (cd j)) {m : Nat} (hm1 : 1 ≤ m) (hm3 : m ≤ 3) {pk : Nat → Int32} (x : XH h tsz tp rc fc nt nk lf ra V kw tw pf fr cl flt plc ns f g cn ct rn rs tr) (e : ctE h (nI n9) (nI m9) N ca pk cn ct) : MX G mX1_seek 16 0 0 [.ref 200, .int (nI m)] h (fun o h' => ∃ (b : Bool) (cn' : Nat) (ct' pk' : Nat → Int32), o = .inl (some (.int (bi b))) ∧ xKp h h' ∧ XH h' tsz tp rc fc nt nk lf ra V kw tw pf fr cl flt plc ns f g cn' ct' rn rs tr ∧ ctE h' (nI n9) (nI m9) N ca pk' cn' ct' ∧ ((b = false ∧ cn' = cn ∧ ct' = ct ∧ ∀ P, vP m N P → cutK S V rc nt n9 m9 m (fun i => cd (P i)) true) ∨ (b = true ∧ ∃ P, vP m N P ∧ cutK S V rc nt n9 m9 m (fun i => cd (P i)) false ∧ (∀ Q, vP m N Q → lexS m Q P → cutK S V rc nt n9 m9 m (fun i => cd (Q i)) true) ∧ cn' = m ∧ ct' = ctF (fun i => cd (P i)) m ct))) := by
  refine MX.of [(0, .ref 200), (1, .int (nI m))] (by decide) rfl (Nat.le_of_ble_eq_true rfl) rfl ?_
  refine x_iload_n dX1_seek_0 rfl ?_
  refine x_aload_n dX1_seek_1 rfl ?_
  refine x_get lf_X1_46 dX1_seek_2 e.1 rfl ?_
  refine x_icmp_gt 13 dX1_seek_5 (by decide) (fun c_5 => ?_) (fun c_5 => ?_)
  · rw [nI_ltI (by omega) (by omega)] at c_5
    refine x_iconst (v := 0) dX1_seek_13 (by decide) ?_
    exact x_iret dX1_seek_14 rfl rfl (Nat.le_refl _) (Nat.le_refl _) ⟨false, cn, ct, pk, rfl, xKp_rf h, x, e, Or.inl ⟨rfl, rfl, rfl, fun P hP => absurd (vP_le hP) (by omega)⟩⟩
  · rw [nI_ltI (by omega) (by omega)] at c_5
    refine x_iload_n dX1_seek_8 rfl ?_
    refine x_iconst (v := 3) dX1_seek_9 (by decide) ?_
    refine x_icmp_le 15 dX1_seek_10 (by decide) (fun c_10 => ?_) (fun c_10 => ?_)
    · rw [show (3 : Int32) = nI 3 from rfl, nI_leI (by omega) (by omega)] at c_10
      refine x_iconst (v := 0) dX1_seek_15 (by decide) ?_
      refine x_istore_n [(0, .ref 200), (1, .int (nI m)), (2, .int 0)] dX1_seek_16 (by decide) rfl rfl ?_
      refine x_heap (h' := xup h 202 (.inl (0, 3, .inl (pkF 0 pk)))) (xup_id e.2.2.1).symm ?_
      exact p_X1_seek c hn9 hm hN hcd hca hm1 hm3 x e (by omega) (m + 1) 0 (by omega) (by omega)
    · rw [show (3 : Int32) = nI 3 from rfl, nI_leI (by omega) (by omega)] at c_10
      refine x_iconst (v := 0) dX1_seek_13 (by decide) ?_
      exact x_iret dX1_seek_14 rfl rfl (Nat.le_refl _) (Nat.le_refl _) ⟨false, cn, ct, pk, rfl, xKp_rf h, x, e, Or.inl ⟨rfl, rfl, rfl, fun P hP => absurd (vP_le hP) (by omega)⟩⟩
