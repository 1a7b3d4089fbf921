/-! what holds of a CLAUSE as it is read -/
def rdD (q : PQ) (v : RV) (i : Nat) : Prop := rdP q v i ∧ tmD q (tmI v i)
theorem tmI_sz (v : RV) (n j : Nat) : tmI (szV v n) j = tmI v j := by cases j <;> rfl
theorem tClr_get (f : Nat → Int32) (t : Int32) : tClr f t 0 = t ∧ tClr f t 1 = -1 ∧ tClr f t 2 = -1 ∧ tClr f t 3 = -1 := ⟨rfl, rfl, rfl, rfl⟩
theorem clV_get (v : RV) (i : Nat) (t : Int32) : tmI (clV v i t) i 0 = t ∧ tmI (clV v i t) i 1 = -1 ∧ tmI (clV v i t) i 2 = -1 ∧ tmI (clV v i t) i 3 = -1 := by
  unfold clV; rw [stT_tm]; exact ⟨rfl, rfl, rfl, rfl⟩
theorem plP_m1 {t : Nat → Int32} (h2 : t 2 = -1) (h3 : t 3 = -1) : plP t := ⟨Or.inl h2, Or.inl h3⟩
theorem rdP_new {q : PQ} {v : RV} {i : Nat} (h : rdD q v i) (hi : i + 1 ≤ 4) (t : Int32) : rdP q (clV (szV v (i + 1)) (i + 1) t) (i + 1) ∧ ∀ j, j < i + 1 → tmI (clV (szV v (i + 1)) (i + 1) t) j = tmI v j := by
  obtain ⟨⟨p1, ⟨p3, p4, p5⟩, ⟨p6, p7⟩, p8, p9, p10, p11⟩, hD⟩ := h
  obtain ⟨g0, g1, g2, g3⟩ := clV_get (szV v (i + 1)) (i + 1) t
  have hoth : ∀ j, j < i + 1 → tmI (clV (szV v (i + 1)) (i + 1) t) j = tmI v j := fun j hj => (tmI_st_ne (by omega)).trans (tmI_sz v _ j)
  have hsz : (clV (szV v (i + 1)) (i + 1) t).2.2 = (i + 1, v.2.2.2) := stT_sz _ _ _
  refine ⟨⟨p1, ⟨by rw [hsz], hi, by rw [hsz]; exact p5⟩, ⟨fun j hj => ?_, ?_⟩, fun j hj => ?_, by rw [g2]; exact Or.inl rfl, by rw [g3]; exact Or.inl rfl, plP_m1 g2 g3⟩, hoth⟩
  · by_cases e : j = i + 1
    · subst e; rw [g2, g3]; exact ⟨ordA_m1 _, ordA_m1 _⟩
    · rw [hoth j (by omega), bM_lt (w := v) (fun m hm => hoth m (by omega))]; exact p6 j (by omega)
  · rw [mS_eq, g2, g3, nxA_m1, nxA_m1, hsz]
    show mS _ i = v.2.2.2.2
    rw [mS_lt (w := v) (fun m hm => hoth m (by omega))]; exact p7
  · rw [hoth j hj]
    by_cases e : j = i
    · rw [e]; exact hD
    · exact p8 j (by omega)
theorem rdP_0 {q : PQ} (v : RV) (h : q.1 ≤ 10 ∧ q.2.2.1 ≤ 10) (t : Int32) : rdP q (clV (rv0 v) 0 t) 0 := by
  obtain ⟨g0, g1, g2, g3⟩ := clV_get (rv0 v) 0 t
  have hsz : (clV (rv0 v) 0 t).2.2 = (0, v.2.2.2.1, 0) := stT_sz _ _ _
  refine ⟨h, ⟨by rw [hsz], by omega, by rw [hsz]; exact Nat.zero_le _⟩, ⟨fun j hj => ?_, ?_⟩, fun j hj => absurd hj (by omega), by rw [g2]; exact Or.inl rfl, by rw [g3]; exact Or.inl rfl, plP_m1 g2 g3⟩
  · rw [show j = 0 by omega, g2, g3]; exact ⟨ordA_m1 _, ordA_m1 _⟩
  · rw [mS_eq, g2, g3, nxA_m1, nxA_m1, hsz]; rfl
theorem rdD_unl {tk : Nat → Tk} {q q' : PQ} {v v' : RV} {i k k' : Nat} (h : pUnl tk q (szV v (i + 1)) k (i + 1) = .inr (q', v', k')) (hp : ∀ j, (tk j).2.1 ≤ 400 ∨ (tk j).1 < 2) (h0 : rdD q v i) (hi : i + 1 ≤ 4) : rdD q' v' (i + 1) ∧ extQ q q' ∧ (∀ j, j < i + 1 → tmI v' j = tmI v j) ∧ k + 1 ≤ k' := by
  have hpl : ∀ {q q' : PQ} {v v' : RV} {j : Nat} {b : Bool}, pArg tk q v j (i + 1) b = .inr (q', v') → (tk j).2.1 ≤ 400 := fun {q q' v v' j b} y => (hp j).elim id (fun z => absurd (pArg_ty y) (by omega))
  obtain ⟨n1, n2⟩ := rdP_new h0 hi 2
  obtain ⟨g0, g1, g2, g3⟩ := clV_get (szV v (i + 1)) (i + 1) 2
  unfold pUnl at h
  cases e : pArg tk q (clV (szV v (i + 1)) (i + 1) 2) k (i + 1) true with
  | inl z => rw [e] at h; cases h
  | inr z =>
    obtain ⟨q2, v2⟩ := z
    rw [e] at h
    simp only [] at h
    obtain ⟨r1, r2, r3, r4, ⟨r5, r6, r7⟩, r8, -⟩ := rdP_arg e n1 (hpl e) (fun _ => g2) g3
    by_cases b : (tk (k + 1)).1 = 35
    · rw [if_pos b] at h
      unfold pUn2 at h
      cases e3 : pArg tk q2 v2 (k + 2) (i + 1) false with
      | inl z => rw [e3] at h; cases h
      | inr z =>
        obtain ⟨q3, v3⟩ := z
        rw [e3] at h
        injection h with h; injection h with e1 e2; injection e2 with e2 e4
        subst e1; subst e2; subst e4
        obtain ⟨s1, s2, s3, s4, ⟨s5, s6, s7⟩, -, s8⟩ := rdP_arg e3 r1 (hpl e3) (fun z => by cases z) (r8 rfl).2
        have ht : tmI v3 (i + 1) 0 = 2 := s5.trans (r5.trans g0)
        exact ⟨⟨s1, Or.inr (Or.inr ht), s1.2.2.2.2.1, s1.2.2.2.2.2.1, s1.2.2.2.2.2.2, fun z => absurd ht z⟩, r3.tr s3, fun j hj => (s2 j hj).trans ((r2 j hj).trans (n2 j hj)), by omega⟩
    · rw [if_neg b] at h; cases h
theorem rdD_term {tk : Nat → Tk} {q q' : PQ} {v v' : RV} {i k k' : Nat} (h : pTerm tk q (szV v (i + 1)) k (i + 1) = .inr (q', v', k')) (hp : ∀ j, (tk j).2.1 ≤ 400 ∨ (tk j).1 < 2) (h0 : rdD q v i) (hi : i + 1 ≤ 4) : rdD q' v' (i + 1) ∧ extQ q q' ∧ (∀ j, j < i + 1 → tmI v' j = tmI v j) ∧ k + 1 ≤ k' := by
  unfold pTerm at h
  by_cases a : (tk k).1 = 3 ∨ ((tk k).1 = 2 ∧ (tk (k + 1)).1 = 35)
  · rw [if_pos a] at h; exact rdD_unl h hp h0 hi
  · rw [if_neg a] at h
    by_cases b : (tk k).1 = 2 ∧ (tk k).2.2 = NOTW
    · rw [if_pos b] at h
      obtain ⟨n1, n2⟩ := rdP_new h0 hi 1
      obtain ⟨g0, g1, g2, g3⟩ := clV_get (szV v (i + 1)) (i + 1) 1
      obtain ⟨s1, s2, s3, s4, s5, s6⟩ := rdP_atom h hp n1 (Or.inr g0) g2 g3
      exact ⟨⟨s1, s2⟩, s3, fun j hj => (s5 j hj).trans (n2 j hj), by omega⟩
    · rw [if_neg b] at h
      obtain ⟨n1, n2⟩ := rdP_new h0 hi 0
      obtain ⟨g0, g1, g2, g3⟩ := clV_get (szV v (i + 1)) (i + 1) 0
      obtain ⟨s1, s2, s3, s4, s5, s6⟩ := rdP_atom h hp n1 (Or.inl g0) g2 g3
      exact ⟨⟨s1, s2⟩, s3, fun j hj => (s5 j hj).trans (n2 j hj), s6⟩
theorem pEndR_res {q q' : PQ} {v v' : RV} {k k' : Nat} {o : Option Int32} (h : pEndR q v k = .inr (o, q', v', k')) : o = none ∧ q' = q ∧ v' = v ∧ k' = k + 1 ∧ lsF v v.2.2.1 = -1 := by
  unfold pEndR at h
  by_cases c : lsF v v.2.2.1 = -1
  · rw [if_pos c] at h
    injection h with h; injection h with e1 e2; injection e2 with e2 e3; injection e3 with e3 e4
    exact ⟨e1.symm, e2.symm, e3.symm, e4.symm, c⟩
  · rw [if_neg c] at h; cases h
theorem rdD_terms {tk : Nat → Tk} (hp : ∀ j, (tk j).2.1 ≤ 400 ∨ (tk j).1 < 2) : ∀ (m : Nat) {q q' : PQ} {v v' : RV} {i k k' : Nat} {o : Option Int32}, pTerms tk m q v k i = .inr (o, q', v', k') → rdD q v i → i + m = 4 → o = none ∧ rdD q' v' v'.2.2.1 ∧ extQ q q' ∧ v'.1 = v.1 ∧ lsF v' v'.2.2.1 = -1 ∧ 1 ≤ v'.2.2.1 ∧ k + 2 ≤ k'
  | 0, q, q', v, v', i, k, k', o, h, h0, hi => by simp only [pTerms] at h; cases h
  | m + 1, q, q', v, v', i, k, k', o, h, h0, hi => by
    simp only [pTerms] at h
    cases e : pTerm tk q (szV v (i + 1)) (k + 1) (i + 1) with
    | inl z => rw [e] at h; cases h
    | inr z =>
      obtain ⟨q2, v2, k2⟩ := z
      rw [e] at h
      simp only [] at h
      obtain ⟨r1, r2, r3, r4⟩ := rdD_term e hp h0 (by omega)
      have hsz : v2.2.2.1 = i + 1 := r1.1.2.1.1
      by_cases a : (tk k2).1 = 46
      · rw [if_pos a] at h
        obtain ⟨s1, s2, s3, s4, s5⟩ := pEndR_res h
        subst s2; subst s3
        exact ⟨s1, by rw [hsz]; exact r1, r2, r3 0 (by omega), s5, by omega, by omega⟩
      · rw [if_neg a] at h
        by_cases b : (tk k2).1 = 44
        · rw [if_pos b] at h
          obtain ⟨s1, s2, s3, s4, s5, s6, s7⟩ := rdD_terms hp m h r1 (by omega)
          exact ⟨s1, s2, r2.tr s3, s4.trans (r3 0 (by omega)), s5, s6, by omega⟩
        · rw [if_neg b] at h; cases h
/-- a CLAUSE that is read: a FACT or a RULE -/
theorem clause_res {tk : Nat → Tk} (hp : ∀ j, (tk j).2.1 ≤ 400 ∨ (tk j).1 < 2) {rc : Nat} {q q' : PQ} {v0 v' : RV} {k k' : Nat} {o : Option Int32} (h : pClause tk rc q v0 k = .inr (o, q', v', k')) (hq : q.1 ≤ 10 ∧ q.2.2.1 ≤ 10) : rdD q' v' v'.2.2.1 ∧ extQ q q' ∧ v'.1 0 = 0 ∧ k + 2 ≤ k' ∧ ((o = some (ftN v'.1) ∧ v'.2.2.1 = 0 ∧ v'.1 2 < 100 ∧ v'.1 3 < 100) ∨ (o = none ∧ rc < 20 ∧ lsF v' v'.2.2.1 = -1 ∧ 1 ≤ v'.2.2.1)) := by
  unfold pClause at h
  obtain ⟨g0, g1, g2, g3⟩ := clV_get (rv0 v0) 0 0
  cases e : pAtom tk q (clV (rv0 v0) 0 0) k 0 with
  | inl z => rw [e] at h; cases h
  | inr z =>
    obtain ⟨q2, v2, k2⟩ := z
    rw [e] at h
    simp only [] at h
    obtain ⟨s1, s2, s3, s4, s5, s6⟩ := rdP_atom e hp (rdP_0 v0 hq 0) (Or.inl g0) g2 g3
    have hsz : v2.2.2.1 = 0 := s1.2.1.1
    have hty : v2.1 0 = 0 := s4.trans g0
    by_cases a : (tk k2).1 = 46
    · rw [if_pos a] at h
      unfold pEndF at h
      by_cases c : v2.1 2 < 100
      · rw [if_pos c] at h
        by_cases d : v2.1 3 < 100
        · rw [if_pos d] at h
          injection h with h; injection h with e1 e2; injection e2 with e2 e3; injection e3 with e3 e4
          subst e2; subst e3
          exact ⟨by rw [hsz]; exact ⟨s1, s2⟩, s3, hty, by omega, Or.inl ⟨e1.symm, hsz, c, d⟩⟩
        · rw [if_neg d] at h; cases h
      · rw [if_neg c] at h; cases h
    · rw [if_neg a] at h
      by_cases b : (tk k2).1 = 58
      · rw [if_pos b] at h
        by_cases c : rc < 20
        · rw [if_pos c] at h
          obtain ⟨t1, t2, t3, t4, t5, t6, t7⟩ := rdD_terms hp 4 h ⟨s1, s2⟩ rfl
          exact ⟨t2, s3.tr t3, by rw [t4]; exact hty, by omega, Or.inr ⟨t1, c, t5, t6⟩⟩
        · rw [if_neg c] at h; cases h
      · rw [if_neg b] at h; cases h
/-- no loose SIGN -/
theorem lsF_no {v : RV} {n : Nat} (h : lsF v n = -1) : lpB v.2.1 v.2.2.1 v.1 = -1 ∧ ∀ i, i < n → lpB v.2.1 v.2.2.1 (v.2.1 i) = -1 := by
  induction n with
  | zero => exact ⟨h, fun i hi => absurd hi (by omega)⟩
  | succ n ih =>
    have h' : (if lsF v n = -1 then lpB v.2.1 v.2.2.1 (v.2.1 n) else lsF v n) = -1 := h
    by_cases c : lsF v n = -1
    · rw [if_pos c] at h'
      obtain ⟨a, b⟩ := ih c
      refine ⟨a, fun i hi => ?_⟩
      by_cases e : i = n
      · rw [e]; exact h'
      · exact b i (by omega)
    · rw [if_neg c] at h'; exact absurd h' c
theorem sg_ge {s : Nat} (hs : s < 3) : (100 : Int32) ≤ nI (100 + s) := by
  rw [show (100 : Int32) = nI 100 from rfl, nI_leI (by omega) (by omega)]; omega
theorem sg_ne {s : Nat} (hs : s < 3) : ¬ nI (100 + s) = -1 := nI_m1 (by omega)
theorem lp_no {v : RV} {f : Nat → Int32} (h : lpB v.2.1 v.2.2.1 f = -1) (hp : plP f) {s : Nat} (hs : s < 3) (hf : sgIn f s) : ∃ i, i < v.2.2.1 ∧ v.2.1 i 0 = 0 ∧ sgIn (v.2.1 i) s := by
  have key : lsB v.2.1 v.2.2.1 (nI (100 + s)) = false → ∃ i, i < v.2.2.1 ∧ v.2.1 i 0 = 0 ∧ sgIn (v.2.1 i) s := fun z => by
    refine Classical.byContradiction fun hn => ?_
    have : lsB v.2.1 v.2.2.1 (nI (100 + s)) = true := (lsB_iff _ _ _).mpr ⟨sg_ge hs, fun i hi hh => hn ⟨i, hi, hh.1, hh.2⟩⟩
    rw [z] at this; cases this
  unfold lpB at h
  cases e2 : lsB v.2.1 v.2.2.1 (f 2) with
  | true =>
    rw [if_pos e2] at h
    rcases hp.1 with z | ⟨p, hp1, hp2⟩
    · rw [z] at e2
      have := ((lsB_iff _ _ _).mp e2).1
      exact absurd this (by decide)
    · rw [hp2] at h; exact absurd h (nI_m1 (by omega))
  | false =>
    rw [if_neg (by rw [e2]; decide)] at h
    cases e3 : lsB v.2.1 v.2.2.1 (f 3) with
    | true =>
      rw [if_pos e3] at h
      rcases hp.2 with z | ⟨p, hp1, hp2⟩
      · rw [z] at e3
        have := ((lsB_iff _ _ _).mp e3).1
        exact absurd this (by decide)
      · rw [hp2] at h; exact absurd h (nI_m1 (by omega))
    | false =>
      rcases hf with z | z
      · rw [z] at e2; exact key e2
      · rw [z] at e3; exact key e3
/-- a SIGN that is counted stands somewhere -/
theorem nxA_in {a : Int32} {m s : Nat} (h : s < nxA a m) : s < m ∨ (s = m ∧ a = nI (100 + s) ∧ s < 3) := by
  unfold nxA at h
  by_cases c : a = nI (100 + m) ∧ m < 3
  · rw [if_pos c] at h
    rcases Nat.lt_or_ge s m with z | z
    · exact Or.inl z
    · have : s = m := by omega
      subst this; exact Or.inr ⟨rfl, c⟩
  · rw [if_neg c] at h; exact Or.inl h
theorem mS_in {v : RV} : ∀ {j s : Nat}, s < mS v j → s < 3 ∧ ∃ m, m ≤ j ∧ sgIn (tmI v m) s
  | 0, s, h => by
    rcases nxA_in (show s < nxA (v.1 3) (nxA (v.1 2) 0) from h) with z | ⟨-, z, z3⟩
    · rcases nxA_in z with z | ⟨-, z, z3⟩
      · omega
      · exact ⟨z3, 0, Nat.le_refl _, Or.inl z⟩
    · exact ⟨z3, 0, Nat.le_refl _, Or.inr z⟩
  | j + 1, s, h => by
    rcases nxA_in (show s < nxA (v.2.1 j 3) (nxA (v.2.1 j 2) (mS v j)) from h) with z | ⟨-, z, z3⟩
    · rcases nxA_in z with z | ⟨-, z, z3⟩
      · obtain ⟨a, m, hm, b⟩ := mS_in z
        exact ⟨a, m, by omega, b⟩
      · exact ⟨z3, j + 1, Nat.le_refl _, Or.inl z⟩
    · exact ⟨z3, j + 1, Nat.le_refl _, Or.inr z⟩
/-- what holds of each RULE that is told -/
def rlD (q : PQ) (v : RV) : Prop := okRl q.1 v ∧ okK v ∧ rvH v < q.2.2.1 ∧ (ordR v ∧ mS v v.2.2.1 = v.2.2.2.2 ∧ plH q.2.2.2.2 v.1 ∧ (∀ i, i < v.2.2.1 → ¬ v.2.1 i 0 = 2 → plH q.2.2.2.2 (v.2.1 i) ∧ rvK v i < q.2.2.1) ∧ ∀ s, s < mS v v.2.2.1 → ∃ i, i < v.2.2.1 ∧ v.2.1 i 0 = 0 ∧ sgIn (v.2.1 i) s) ∧ v.2.2.2.2 ≤ 3
theorem rlD_of {q : PQ} {v : RV} (h : rdD q v v.2.2.1) (h0 : v.1 0 = 0) (hl : lsF v v.2.2.1 = -1) : rlD q v := by
  obtain ⟨⟨⟨p1, p2⟩, ⟨p3, p4, p5⟩, ⟨p6, p7⟩, p8, p9, p10, p11⟩, hD⟩ := h
  have hall : ∀ j, j ≤ v.2.2.1 → tmD q (tmI v j) := fun j hj => by
    by_cases e : j = v.2.2.1
    · rw [e]; exact hD
    · exact p8 j (by omega)
  have hh : tmD q v.1 := hall 0 (Nat.zero_le _)
  have ht : ∀ j, j < v.2.2.1 → tmD q (v.2.1 j) := fun j hj => hall (j + 1) hj
  obtain ⟨l1, l2⟩ := lsF_no hl
  have hk := (hh.2.2.2.2 (by rw [h0]; decide)).1
  have tk10 : ∀ i, i < v.2.2.1 → ¬ v.2.1 i 0 = 2 → v.2.1 i 1 = nI (rvK v i) ∧ rvK v i < 10 := fun i hi z => ⟨((ht i hi).2.2.2.2 z).1.1, Nat.lt_of_lt_of_le ((ht i hi).2.2.2.2 z).1.2 p2⟩
  refine ⟨⟨p4, fun i hi => ⟨(ht i hi).1, fun z => tk10 i hi z, (ht i hi).2.1, (ht i hi).2.2.1⟩, ⟨hk.1, Nat.lt_of_lt_of_le hk.2 p2⟩, hh.2.1, hh.2.2.1, fun s hs hsg => ?_⟩, ⟨p4, ⟨hk.1, Nat.lt_of_lt_of_le hk.2 p2⟩, tk10⟩, hk.2, ⟨orI_R p6, p7, (hh.2.2.2.2 (by rw [h0]; decide)).2, fun i hi z => ⟨((ht i hi).2.2.2.2 z).2, ((ht i hi).2.2.2.2 z).1.2⟩, fun s hs => ?_⟩, p5⟩
  · obtain ⟨i, a, b, c⟩ := lp_no l1 hh.2.2.2.1 hs hsg
    exact ⟨i, a, c⟩
  · obtain ⟨h3, m, hm, hsg⟩ := mS_in hs
    cases m with
    | zero => exact lp_no l1 hh.2.2.2.1 h3 hsg
    | succ m => exact lp_no (l2 m hm) (ht m hm).2.2.2.1 h3 hsg
theorem okRl.mono {m n : Nat} {v : RV} (h : m ≤ n) (hv : okRl m v) : okRl n v :=
  ⟨hv.1, fun i hi => ⟨(hv.2.1 i hi).1, (hv.2.1 i hi).2.1, okA_mono h (hv.2.1 i hi).2.2.1, okA_mono h (hv.2.1 i hi).2.2.2⟩, hv.2.2.1, okA_mono h hv.2.2.2.1, okA_mono h hv.2.2.2.2.1, hv.2.2.2.2.2⟩
theorem rlD.ext {q q' : PQ} {v : RV} (h : rlD q v) (x : extQ q q') : rlD q' v := by
  obtain ⟨a, b, c, ⟨d1, d2, d3, d4, d5⟩, e⟩ := h
  refine ⟨a.mono x.1, b, Nat.lt_of_lt_of_le c x.2.2.1, ⟨d1, d2, ?_, fun i hi z => ⟨?_, Nat.lt_of_lt_of_le (d4 i hi z).2 x.2.2.1⟩, d5⟩, e⟩
  · have e9 : q'.2.2.2.2 (v.1 1).toNatClampNeg = q.2.2.2.2 (v.1 1).toNatClampNeg := (x.2.2.2 _ c).2
    unfold plH at d3 ⊢; rw [e9]; exact d3
  · have := (d4 i hi z).1
    have e9 : q'.2.2.2.2 (v.2.1 i 1).toNatClampNeg = q.2.2.2.2 (v.2.1 i 1).toNatClampNeg := (x.2.2.2 _ (d4 i hi z).2).2
    unfold plH at this ⊢; rw [e9]; exact this
