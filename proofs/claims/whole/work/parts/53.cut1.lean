/-! KINDS that a KIND leans on -/
def kin (v : RV) : Nat → Nat
  | 0 => 0
  | j + 1 => if v.2.1 j 0 = 2 then kin v j else kin v j ||| 2 ^ rvK v j
theorem two_lt {k : Nat} (h : k < 10) : 2 ^ k < 1024 := by
  have : ∀ k, k < 10 → 2 ^ k < 1024 := by decide
  exact this k h
theorem one_shl {k : Nat} (h : k < 10) : (1 : Int32) <<< (nI k &&& 31) = nI (2 ^ k) := by
  have : ∀ k, k < 10 → (1 : Int32) <<< (nI k &&& 31) = nI (2 ^ k) := by decide +kernel
  exact this k h
theorem or_lt {a b : Nat} (h1 : a < 1024) (h2 : b < 1024) : a ||| b < 1024 := Nat.or_lt_two_pow (n := 10) h1 h2
theorem kin_lt {v : RV} (h : ∀ i, i < v.2.2.1 → ¬ v.2.1 i 0 = 2 → rvK v i < 10) : ∀ n, n ≤ v.2.2.1 → kin v n < 1024
  | 0, _ => by unfold kin; omega
  | n + 1, hn => by
    have ih := kin_lt h n (by omega)
    simp only [kin]
    split
    · exact ih
    · next t => exact or_lt ih (two_lt (h n (by omega) t))
theorem kin_bit {v : RV} : ∀ n k, (kin v n).testBit k = true ↔ ∃ j, j < n ∧ ¬ v.2.1 j 0 = 2 ∧ rvK v j = k
  | 0, k => by simp [kin]
  | n + 1, k => by
    have ih := kin_bit (v := v) n k
    simp only [kin]
    split
    next t =>
      rw [ih]
      constructor
      · rintro ⟨j, a, b⟩; exact ⟨j, by omega, b⟩
      · rintro ⟨j, a, b, c⟩
        rcases Nat.lt_or_ge j n with z | z
        · exact ⟨j, z, b, c⟩
        · exact absurd t (by rw [show n = j by omega]; exact b)
    next t =>
      rw [Nat.testBit_or, Bool.or_eq_true, ih, Nat.testBit_two_pow]
      constructor
      · rintro (⟨j, a, b⟩ | q)
        · exact ⟨j, by omega, b⟩
        · exact ⟨n, by omega, t, by simpa using q⟩
      · rintro ⟨j, a, b, c⟩
        rcases Nat.lt_or_ge j n with z | z
        · exact Or.inl ⟨j, z, b, c⟩
        · exact Or.inr (by rw [show n = j by omega]; simpa using c)
/-- the KINDS are closed: with a RULE's first KIND those of its TERMS -/
def clK (V : Nat → RV) (rc : Nat) (m : Nat) : Prop := ∀ r, r < rc → m.testBit (rvH (V r)) = true → ∀ j, j < (V r).2.2.1 → ¬ (V r).2.1 j 0 = 2 → m.testBit (rvK (V r) j) = true
def bct (m : Nat) : Nat := fb_ct (fun k => m.testBit k) 10
def subB (a b : Nat) : Prop := ∀ k, a.testBit k = true → b.testBit k = true
theorem bct_lt {a b : Nat} (ha : a < 1024) (hb : b < 1024) (h : subB a b) (hn : a ≠ b) : bct a + 1 ≤ bct b := by
  have hex : ∃ k, a.testBit k ≠ b.testBit k := by
    apply Classical.byContradiction
    intro q
    exact hn (Nat.eq_of_testBit_eq (fun k => Classical.byContradiction (fun z => q ⟨k, z⟩)))
  obtain ⟨k, hk⟩ := hex
  have hk10 : k < 10 := by
    rcases Nat.lt_or_ge k 10 with z | z
    · exact z
    · exfalso
      apply hk
      have h1 : ∀ c, c < 1024 → c.testBit k = false := fun c hc => Nat.testBit_lt_two_pow (Nat.lt_of_lt_of_le hc (Nat.pow_le_pow_right (n := 2) (by omega) z))
      rw [h1 a ha, h1 b hb]
  have ha9 : a.testBit k = false := by
    cases e : a.testBit k with
    | false => rfl
    | true => rw [e, h k e] at hk; exact absurd rfl hk
  have hb9 : b.testBit k = true := by
    cases e : b.testBit k with
    | true => rfl
    | false => rw [ha9, e] at hk; exact absurd rfl hk
  exact ct_strict hk10 ha9 hb9 (fun j _ q => h j q)
set_option maxRecDepth 100000 in
set_option maxHeartbeats 4000000 in
theorem l_X0_kindsIn {G : xG} {h : xHp} {a : Nat} {v : RV} (hr : rlV h a v) (hv : okK v) : ∀ (k i : Nat), i ≤ v.2.2.1 → v.2.2.1 + 1 ≤ i + k → Wx G mX0_kindsIn (xRm 1 0 0) (xF G (xAns (.int (nI (kin v v.2.2.1))) h) 0 0) 0 0 4 [(0, .ref a), (1, .int (nI (kin v i))), (2, .int (nI i))] [] h := by
  intro k
  induction k with
  | zero => exact fun i q1 h2 => absurd h2 (by omega)
  | succ k ih =>
    intro i q1 h2
    have hsz := hv.1
    refine x_iload_n dX0_kindsIn_4 rfl ?_
    refine x_aload_n dX0_kindsIn_5 rfl ?_
    refine x_get lf_X0_85 dX0_kindsIn_6 hr.1 rfl ?_
    refine x_icmp_ge 45 dX0_kindsIn_9 (by decide) (fun c_9 => ?_) (fun c_9 => ?_)
    · rw [nI_leI (by omega) (by omega)] at c_9
      refine x_iload_n dX0_kindsIn_45 rfl ?_
      have e9 : i = v.2.2.1 := by omega
      subst e9
      exact x_iret dX0_kindsIn_46 rfl rfl (Nat.le_refl _) (Nat.le_refl _) ⟨rfl, rfl⟩
    · rw [nI_leI (by omega) (by omega)] at c_9
      refine x_aload_n dX0_kindsIn_12 rfl ?_
      refine x_get lf_X0_86 dX0_kindsIn_13 hr.1 rfl ?_
      refine x_iload_n dX0_kindsIn_16 rfl ?_
      refine x_aaldN (b := a + 4 + i) (j := i) hr.2.2.1 rfl rfl (by omega) (by decide) (rTs_at (by omega)) dX0_kindsIn_17 ?_
      refine x_get lf_X0_90 dX0_kindsIn_18 (hr.2.2.2.2 i (by omega)) rfl ?_
      refine x_iconst (v := 2) dX0_kindsIn_21 (by decide) ?_
      refine x_icmp_eq 39 dX0_kindsIn_22 (by decide) (fun c_22 => ?_) (fun c_22 => ?_)
      · refine x_iinc (v := nI (i + 1)) [(0, .ref a), (1, .int (nI (kin v i))), (2, .int (nI (i + 1)))] dX0_kindsIn_39 rfl (nI_add i 1) (by decide) rfl rfl ?_
        refine x_goto 4 dX0_kindsIn_42 (by decide) ?_
        have k9 := ih (i + 1) (by omega) (by omega)
        rw [show kin v (i + 1) = kin v i by simp only [kin]; rw [if_pos c_22]] at k9
        exact x_ls _ [0, 1, 2] rfl k9
      · refine x_iload_n dX0_kindsIn_25 rfl ?_
        refine x_iconst (v := 1) dX0_kindsIn_26 (by decide) ?_
        refine x_aload_n dX0_kindsIn_27 rfl ?_
        refine x_get lf_X0_86 dX0_kindsIn_28 hr.1 rfl ?_
        refine x_iload_n dX0_kindsIn_31 rfl ?_
        refine x_aaldN (b := a + 4 + i) (j := i) hr.2.2.1 rfl rfl (by omega) (by decide) (rTs_at (by omega)) dX0_kindsIn_32 ?_
        refine x_get lf_X0_76 dX0_kindsIn_33 (hr.2.2.2.2 i (by omega)) rfl ?_
        refine x_top (y := nI (rvK v i)) ((hv.2.2 i (by omega) c_22).1) ?_
        refine x_ishl dX0_kindsIn_36 ?_
        refine x_top (y := nI (2 ^ rvK v i)) (one_shl (hv.2.2 i (by omega) c_22).2) ?_
        refine x_ior dX0_kindsIn_37 ?_
        refine x_top (y := nI (kin v (i + 1))) (by rw [fa_or]; simp only [kin]; rw [if_neg c_22]) ?_
        refine x_istore_n [(0, .ref a), (1, .int (nI (kin v (i + 1)))), (2, .int (nI i))] dX0_kindsIn_38 (by decide) rfl rfl ?_
        refine x_iinc (v := nI (i + 1)) [(0, .ref a), (1, .int (nI (kin v (i + 1)))), (2, .int (nI (i + 1)))] dX0_kindsIn_39 rfl (nI_add i 1) (by decide) rfl rfl ?_
        refine x_goto 4 dX0_kindsIn_42 (by decide) ?_
        exact x_ls _ [0, 1, 2] rfl (ih (i + 1) (by omega) (by omega))
set_option maxRecDepth 100000 in
set_option maxHeartbeats 4000000 in
theorem k_X0_kindsIn {G : xG} {h : xHp} {a : Nat} {v : RV} (hr : rlV h a v) (hv : okK v) : MX G mX0_kindsIn 1 0 0 [.ref a] h (xAns (.int (nI (kin v v.2.2.1))) h) := by
  refine MX.of [(0, .ref a)] (by decide) rfl (Nat.le_of_ble_eq_true rfl) rfl ?_
  refine x_iconst (v := 0) dX0_kindsIn_0 (by decide) ?_
  refine x_istore_n [(0, .ref a), (1, .int 0)] dX0_kindsIn_1 (by decide) rfl rfl ?_
  refine x_iconst (v := 0) dX0_kindsIn_2 (by decide) ?_
  refine x_istore_n [(0, .ref a), (1, .int 0), (2, .int 0)] dX0_kindsIn_3 (by decide) rfl rfl ?_
  exact l_X0_kindsIn hr hv (v.2.2.1 + 1) 0 (by omega) (by omega)
set_option maxRecDepth 100000 in
set_option maxHeartbeats 4000000 in
theorem l_X0_kindsBehind {G : xG} {h : xHp} {rc : Nat} {fc : Int32} {nt nk : Nat} {lf : Nat → Int32} {ra : Nat → Nat} {V : Nat → RV} {kw tw : Nat → Int64} {pf fr : Nat → Int32} (b : bkF h rc fc nt nk lf ra V kw tw pf fr) {k9 : Nat} (hk9 : k9 < 10) (hrc : rc ≤ 20) (hV : ∀ r, r < rc → okRl nt (V r)) {rf : Nat → Option Nat} (hrs1 : h.1 11 = some (.inl (4, 21, .inr (.inr rf)))) (hrf : ∀ j, j < 21 → rf j = some (ra j)) (hrl : ∀ j, j < 21 → rlV h (ra j) (V j)) {t m0 : Nat} (hcont : ∀ m, m < 1024 → subB m0 m → (m = m0 → ∀ r, r < rc → m0.testBit (rvH (V r)) = true → ∀ j, j < (V r).2.2.1 → ¬ (V r).2.1 j 0 = 2 → m0.testBit (rvK (V r) j) = true) → (clK V rc m0 → m = m0) → Wx G mX0_kindsBehind (xRm 2 0 0) (xF G (fun o h' => ∃ m, o = .inl (some (.int (nI m))) ∧ h' = h ∧ m < 1024 ∧ m.testBit k9 = true ∧ clK V rc m) 0 0) 0 0 63 [(0, .ref 3), (1, .int (nI k9)), (2, .int (nI m)), (3, .int (nI t))] [] h) : ∀ (k r m : Nat), r ≤ rc → rc + 1 ≤ r + k → m < 1024 → subB m0 m → (m = m0 → ∀ r2, r2 < r → m0.testBit (rvH (V r2)) = true → ∀ j, j < (V r2).2.2.1 → ¬ (V r2).2.1 j 0 = 2 → m0.testBit (rvK (V r2) j) = true) → (clK V rc m0 → m = m0) → Wx G mX0_kindsBehind (xRm 2 0 0) (xF G (fun o h' => ∃ m, o = .inl (some (.int (nI m))) ∧ h' = h ∧ m < 1024 ∧ m.testBit k9 = true ∧ clK V rc m) 0 0) 0 0 15 [(0, .ref 3), (1, .int (nI k9)), (2, .int (nI m)), (3, .int (nI t)), (4, .int (nI r))] [] h := by
  intro k
  induction k with
  | zero => exact fun r m q1 h2 => absurd h2 (by omega)
  | succ k ih =>
    intro r m q1 h2 hm hsub hcl hst
    refine x_iload dX0_kindsBehind_15 rfl ?_
    refine x_aload_n dX0_kindsBehind_17 rfl ?_
    refine x_get lf_X0_42 dX0_kindsBehind_18 b.1.1 rfl ?_
    refine x_icmp_ge 63 dX0_kindsBehind_21 (by decide) (fun c_21 => ?_) (fun c_21 => ?_)
    · rw [nI_leI (by omega) (by omega)] at c_21
      have e9 : r = rc := by omega
      subst e9
      exact x_ls _ [0, 1, 2, 3] rfl (hcont m hm hsub hcl hst)
    · rw [nI_leI (by omega) (by omega)] at c_21
      refine x_iload_n dX0_kindsBehind_24 rfl ?_
      refine x_aload_n dX0_kindsBehind_25 rfl ?_
      refine x_get lf_X0_34 dX0_kindsBehind_26 b.1.1 rfl ?_
      refine x_iload dX0_kindsBehind_29 rfl ?_
      refine x_aaldN (b := ra r) (j := r) hrs1 rfl rfl (by omega) (by decide) (hrf r (by omega)) dX0_kindsBehind_31 ?_
      refine x_get lf_X0_72 dX0_kindsBehind_32 (hrl r (by omega)).1 rfl ?_
      refine x_get lf_X0_76 dX0_kindsBehind_35 (hrl r (by omega)).2.1 rfl ?_
      refine x_top (y := nI (rvH (V r))) ((hV r (by omega)).2.2.1.1) ?_
      refine x_ishr dX0_kindsBehind_38 ?_
      refine x_iconst (v := 1) dX0_kindsBehind_39 (by decide) ?_
      refine x_iand dX0_kindsBehind_40 ?_
      refine x_top (y := bi (m.testBit (rvH (V r)))) (b10_get m hm _ (hV r (by omega)).2.2.1.2) ?_
      refine x_if_eq 57 dX0_kindsBehind_41 (by decide) (fun c_41 => ?_) (fun c_41 => ?_)
      · have c_41 := bi_f c_41
        refine x_iinc (v := nI (r + 1)) [(0, .ref 3), (1, .int (nI k9)), (2, .int (nI m)), (3, .int (nI t)), (4, .int (nI (r + 1)))] dX0_kindsBehind_57 rfl (nI_add r 1) (by decide) rfl rfl ?_
        refine x_goto 15 dX0_kindsBehind_60 (by decide) ?_
        have hkl : kin (V r) (V r).2.2.1 < 1024 := kin_lt (fun i hi h2 => ((okRl_okK (hV r (by omega))).2.2 i hi h2).2) _ (Nat.le_refl _)
        refine x_ls _ [0, 1, 2, 3, 4] rfl (ih (r + 1) m (by omega) (by omega) hm hsub (fun e => ?_) hst)
        intro r2 hr2
        rcases Nat.lt_or_ge r2 r with z | z
        · exact hcl e r2 z
        · have z : r2 = r := by omega
          subst z
          intro q
          rw [← e, c_41] at q; cases q
      · have c_41 := bi_t c_41
        refine x_iload_n dX0_kindsBehind_44 rfl ?_
        refine x_aload_n dX0_kindsBehind_45 rfl ?_
        refine x_get lf_X0_34 dX0_kindsBehind_46 b.1.1 rfl ?_
        refine x_iload dX0_kindsBehind_49 rfl ?_
        refine x_aaldN (b := ra r) (j := r) hrs1 rfl rfl (by omega) (by decide) (hrf r (by omega)) dX0_kindsBehind_51 ?_
        refine x_callS (As := [.ref (ra r)]) (st := [.int (nI m)]) ls_X0_81 (k_X0_kindsIn (hrl r (by omega)) (okRl_okK (hV r (by omega)))) dX0_kindsBehind_52 rfl rfl (Nat.le_of_ble_eq_true rfl) ⟨by decide, by decide⟩ ⟨by decide, by decide⟩ (fun v hq9 q => ?_) (fun _ _ _ _ _ q => by cases q.1)
        obtain ⟨ev, eh⟩ := q
        rw [eh]
        cases ev
        refine x_ior dX0_kindsBehind_55 ?_
        refine x_top (y := nI (m ||| kin (V r) (V r).2.2.1)) (fa_or _ _) ?_
        refine x_istore_n [(0, .ref 3), (1, .int (nI k9)), (2, .int (nI (m ||| kin (V r) (V r).2.2.1))), (3, .int (nI t)), (4, .int (nI r))] dX0_kindsBehind_56 (by decide) rfl rfl ?_
        refine x_iinc (v := nI (r + 1)) [(0, .ref 3), (1, .int (nI k9)), (2, .int (nI (m ||| kin (V r) (V r).2.2.1))), (3, .int (nI t)), (4, .int (nI (r + 1)))] dX0_kindsBehind_57 rfl (nI_add r 1) (by decide) rfl rfl ?_
        refine x_goto 15 dX0_kindsBehind_60 (by decide) ?_
        have hkl : kin (V r) (V r).2.2.1 < 1024 := kin_lt (fun i hi h2 => ((okRl_okK (hV r (by omega))).2.2 i hi h2).2) _ (Nat.le_refl _)
        refine x_ls _ [0, 1, 2, 3, 4] rfl (ih (r + 1) (m ||| kin (V r) (V r).2.2.1) (by omega) (by omega) (or_lt hm hkl) (fun k q => by rw [Nat.testBit_or, hsub k q]; rfl) (fun e => ?_) (fun e => ?_))
        · have e1 : m = m0 := Nat.eq_of_testBit_eq (fun k => by
            cases q : m0.testBit k with
            | true => exact hsub k q
            | false => rw [← e, Nat.testBit_or, Bool.or_eq_false_iff] at q; exact q.1)
          subst e1
          intro r2 hr2
          rcases Nat.lt_or_ge r2 r with z | z
          · exact hcl rfl r2 z
          · have z : r2 = r := by omega
            subst z
            intro _ j hj h2
            rw [← e, Nat.testBit_or, (kin_bit _ _).mpr ⟨j, hj, h2, rfl⟩]; exact Bool.or_true _
        · have e1 := hst e
          subst e1
          refine Nat.eq_of_testBit_eq (fun k => ?_)
          rw [Nat.testBit_or]
          cases q : (kin (V r) (V r).2.2.1).testBit k with
          | false => exact Bool.or_false _
          | true =>
            obtain ⟨j, j1, j2, j3⟩ := (kin_bit _ _).mp q
            have q2 := e r (by omega) c_41 j j1 j2
            rw [j3] at q2
            rw [q2]; rfl
set_option maxRecDepth 100000 in
set_option maxHeartbeats 4000000 in
theorem m_X0_kindsBehind {G : xG} {h : xHp} {rc : Nat} {fc : Int32} {nt nk : Nat} {lf : Nat → Int32} {ra : Nat → Nat} {V : Nat → RV} {kw tw : Nat → Int64} {pf fr : Nat → Int32} (b : bkF h rc fc nt nk lf ra V kw tw pf fr) {k9 : Nat} (hk9 : k9 < 10) (hrc : rc ≤ 20) (hV : ∀ r, r < rc → okRl nt (V r)) {rf : Nat → Option Nat} (hrs1 : h.1 11 = some (.inl (4, 21, .inr (.inr rf)))) (hrf : ∀ j, j < 21 → rf j = some (ra j)) (hrl : ∀ j, j < 21 → rlV h (ra j) (V j)) : ∀ (k t m : Nat), t ≤ 10 → 11 ≤ t + k → m < 1024 → m.testBit k9 = true → (clK V rc m ∨ t + 1 ≤ bct m) → Wx G mX0_kindsBehind (xRm 2 0 0) (xF G (fun o h' => ∃ m, o = .inl (some (.int (nI m))) ∧ h' = h ∧ m < 1024 ∧ m.testBit k9 = true ∧ clK V rc m) 0 0) 0 0 6 [(0, .ref 3), (1, .int (nI k9)), (2, .int (nI m)), (3, .int (nI t))] [] h := by
  intro k
  induction k with
  | zero => exact fun t m q1 h2 => absurd h2 (by omega)
  | succ k ih =>
    intro t m q1 h2 hm hk hcl
    refine x_iload_n dX0_kindsBehind_6 rfl ?_
    refine x_bipush (v := 10) dX0_kindsBehind_7 (by decide) ?_
    refine x_icmp_ge 69 dX0_kindsBehind_9 (by decide) (fun c_9 => ?_) (fun c_9 => ?_)
    · rw [show (10 : Int32) = nI 10 from rfl, nI_leI (by omega) (by omega)] at c_9
      refine x_iload_n dX0_kindsBehind_69 rfl ?_
      have e9 : t = 10 := by omega
      subst e9
      refine x_iret dX0_kindsBehind_70 rfl rfl (Nat.le_refl _) (Nat.le_refl _) ⟨m, rfl, rfl, hm, hk, ?_⟩
      rcases hcl with q | q
      · exact q
      · exact absurd q (by have : bct m ≤ 10 := fb_ct_le _ _; omega)
    · rw [show (10 : Int32) = nI 10 from rfl, nI_leI (by omega) (by omega)] at c_9
      refine x_iconst (v := 0) dX0_kindsBehind_12 (by decide) ?_
      refine x_istore [(0, .ref 3), (1, .int (nI k9)), (2, .int (nI m)), (3, .int (nI t)), (4, .int 0)] dX0_kindsBehind_13 (by decide) rfl rfl ?_
      refine l_X0_kindsBehind b hk9 hrc hV hrs1 hrf hrl (t := t) (m0 := m) (fun m2 hm2 hs2 hc2 ht2 => ?_) (rc + 1) 0 m (by omega) (by omega) hm (fun _ q => q) (fun _ r2 z => absurd z (by omega)) (fun _ => rfl)
      refine x_iinc (v := nI (t + 1)) [(0, .ref 3), (1, .int (nI k9)), (2, .int (nI m2)), (3, .int (nI (t + 1)))] dX0_kindsBehind_63 rfl (nI_add t 1) (by decide) rfl rfl ?_
      refine x_goto 6 dX0_kindsBehind_66 (by decide) ?_
      refine ih (t + 1) m2 (by omega) (by omega) hm2 (hs2 _ hk) ?_
      by_cases e : m2 = m
      · exact Or.inl (by rw [e]; exact hc2 e)
      · rcases hcl with q | q
        · exact absurd (ht2 q) e
        · have := bct_lt hm hm2 hs2 (fun z => e z.symm)
          exact Or.inr (by omega)
set_option maxRecDepth 100000 in
set_option maxHeartbeats 4000000 in
theorem k_X0_kindsBehind {G : xG} {h : xHp} {rc : Nat} {fc : Int32} {nt nk : Nat} {lf : Nat → Int32} {ra : Nat → Nat} {V : Nat → RV} {kw tw : Nat → Int64} {pf fr : Nat → Int32} (b : bkF h rc fc nt nk lf ra V kw tw pf fr) {k9 : Nat} (hk9 : k9 < 10) (hrc : rc ≤ 20) (hV : ∀ r, r < rc → okRl nt (V r)) : MX G mX0_kindsBehind 2 0 0 [.ref 3, .int (nI k9)] h (fun o h' => ∃ m, o = .inl (some (.int (nI m))) ∧ h' = h ∧ m < 1024 ∧ m.testBit k9 = true ∧ clK V rc m) := by
  obtain ⟨⟨⟨rf, hrs1, hrf⟩, hrl⟩, hra⟩ := b.1.2.2.2.2.2
  refine MX.of [(0, .ref 3), (1, .int (nI k9))] (by decide) rfl (Nat.le_of_ble_eq_true rfl) rfl ?_
  refine x_iconst (v := 1) dX0_kindsBehind_0 (by decide) ?_
  refine x_iload_n dX0_kindsBehind_1 rfl ?_
  refine x_ishl dX0_kindsBehind_2 ?_
  refine x_top (y := nI (2 ^ k9)) (one_shl hk9) ?_
  refine x_istore_n [(0, .ref 3), (1, .int (nI k9)), (2, .int (nI (2 ^ k9)))] dX0_kindsBehind_3 (by decide) rfl rfl ?_
  refine x_iconst (v := 0) dX0_kindsBehind_4 (by decide) ?_
  refine x_istore_n [(0, .ref 3), (1, .int (nI k9)), (2, .int (nI (2 ^ k9))), (3, .int 0)] dX0_kindsBehind_5 (by decide) rfl rfl ?_
  refine m_X0_kindsBehind b hk9 hrc hV hrs1 hrf hrl 11 0 (2 ^ k9) (by omega) (by omega) (two_lt hk9) (by rw [Nat.testBit_two_pow]; simp) (Or.inr ?_)
  refine fb_ct_pos.mpr ⟨k9, hk9, by rw [Nat.testBit_two_pow]; simp⟩
