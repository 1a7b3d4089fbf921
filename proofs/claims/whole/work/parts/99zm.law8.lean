/-! the law: tell -/
abbrev qW (q : PQ) (p : Nat → Nat) : PQ := (q.1, q.2.1, q.2.2.1, q.2.2.2.1, p)
theorem plH_cg {p p' : Nat → Nat} {t : Nat → Int32} (e : p' (t 1).toNatClampNeg = p (t 1).toNatClampNeg) (h : plH p t) : plH p' t := by
  unfold plH at h ⊢; rw [e]; exact h
theorem rlD_cg {q : PQ} {p : Nat → Nat} {v : RV} (e : ∀ j, j < q.2.2.1 → p j = q.2.2.2.2 j) (h : rlD q v) : rlD (qW q p) v := by
  obtain ⟨h1, h2, h3, ⟨h4, h5, h6, h7, h8⟩, h9⟩ := h
  exact ⟨h1, h2, h3, ⟨h4, h5, plH_cg (e _ h3) h6, fun i hi h0 => ⟨plH_cg (e _ (h7 i hi h0).2) (h7 i hi h0).1, (h7 i hi h0).2⟩, h8⟩, h9⟩
theorem okAtom_cg {nk nt n : Nat} {p p' : Nat → Nat} (e : ∀ j, j < nk → p' j = p j) (h : okAtom nk nt p n) : okAtom nk nt p' n := by
  unfold okAtom at h ⊢
  rw [e _ h.1]; exact h
theorem fOk_cg {q : PQ} {p : Nat → Nat} {S : Nat → Bool} (e : ∀ j, j < q.2.2.1 → p j = q.2.2.2.2 j) (h : fOk q S) : fOk (qW q p) S := fun n hn hs => okAtom_cg e (h n hn hs)
theorem isst_V {F : Nat → Bool} {V V' : Nat → RV} {rc : Nat} {U : Nat → Bool} {nt : Nat} {s : Nat → Option Nat} (e : ∀ r, r < rc → V' r = V r) (h : IsSt F V rc U nt s) : IsSt F V' rc U nt s := by
  refine ⟨h.1, fun r τ d hr => ?_, fun n d hn hs => ?_⟩
  · rw [e r hr]; exact h.2.1 r τ d hr
  · rcases h.2.2 n d hn hs with z | ⟨r, r1, r2, r3⟩
    · exact Or.inl z
    · exact Or.inr ⟨r, r1, r2, by rw [e r r1]; exact r3⟩
theorem addF_in {S : Nat → Bool} {fs : Nat → Int32} {n : Nat} : ∀ {k : Nat}, addF S fs k n = true → S n = true ∨ ∃ i, i < k ∧ fs i = nI n
  | 0, h => Or.inl h
  | k + 1, h => by
    rw [addF_lt] at h
    simp only [Bool.or_eq_true, decide_eq_true_eq] at h
    rcases h with h | h
    · rcases addF_in h with z | ⟨i, i1, i2⟩
      · exact Or.inl z
      · exact Or.inr ⟨i, by omega, i2⟩
    · exact Or.inr ⟨k, by omega, h⟩
theorem fOk_add {rc : Nat} {V : Nat → RV} {q : PQ} {S : Nat → Bool} {t : TS} (hf : fOk q S) (I : tsI rc V q t) : fOk t.2.2.2.2.1 (addF S t.2.2.2.1 t.2.2.1) := fun n hn hs => by
  rcases addF_in hs with z | ⟨i, i1, i2⟩
  · exact okAtom_ext (hf n hn z) I.2.2.1
  · obtain ⟨m, m1, m2, m3⟩ := I.2.2.2.2.2.1 i i1
    rw [show n = m from (nI_eq (by omega) (by omega)).mp (i2.symm.trans m2)]; exact m3
set_option maxRecDepth 100000 in
set_option maxHeartbeats 4000000 in
theorem p_tell {G : xG} {h : xHp} {tsz : Nat} (I : LI h tsz) {a : Int32} : Pr G mX11_tell mX14_tell 7 7 [.int a] h tsz := by
  obtain ⟨rc, q, V, S, b, flt, whr, cn, ct, rn, rs, tr, s, L, hP, hX, ⟨g, w, nw, ar, twM, kwM, rf, pM, hM⟩, hs, h227, o9, ho⟩ := I
  obtain ⟨⟨hnt, hnk, hrc, htz, hcn, hrn⟩, hrl, hfo⟩ := id hP
  obtain ⟨tp, fc, lf, ra, kw, tw, pf, fr, cl, plc, X, wT, wK, hpf, hR, hfc, htp, hly, hwh⟩ := hX
  have c : cOk rc q.1 q.2.2.1 V pf q.2.2.2.2 lf L fr S := ⟨⟨hnt, hnk, hrc⟩, fun k hk => hpf k (by omega), fun r hr => (hrl r hr).1, fun r hr => (hrl r hr).2.2.1, hly.2.2.1, hly.1, hly.2.1, hR⟩
  have c2 : cOk2 rc q.2.2.1 V q.2.2.2.2 := fun r hr => (hrl r hr).2.2.2.1
  have hV : ∀ r, r < rc → okRl q.1 (V r) := fun r hr => (hrl r hr).1
  have hKK : ∀ r, r < rc → okK (V r) := fun r hr => (hrl r hr).2.1
  have hcv : ∀ r, r < rc → covR (V r) := fun r hr => cov_of (hrl r hr)
  have hsU : IsSt S V rc (uR (-1)) q.1 s := isst_cg hs (uR_m hrc)
  have hok := st_ok hnt hrl hfo hs
  have hpw := pw_of hrl hok
  have hsat : ∃ S9, Sat V rc S9 := ⟨L, hly.2.2.1⟩
  obtain ⟨ns9, f9, g9, hst9, x⟩ := id X
  refine MX.weaken (k_X11_tell x wT wK hpf ⟨hnt, hnk⟩ hrc hrl hR hfc hly.2.2.1 htz htp) (fun o h1 z => ?_)
  rcases z with ⟨z1, ev, f, x1⟩ | ⟨n, hn1, ea, ts, tk, pos, tT, fs0, z⟩
  · have hM1 := hM.x f
    have hpc : ∀ k, k < q.2.2.1 → ar 210 k = nI (q.2.2.2.2 k) ∧ q.2.2.2.2 k < 3 := fun k hk => by rw [← hM1.2.2.2.1 k hk]; exact hM1.2.2.1.2.2.1 k (by omega)
    obtain ⟨M1, rT1, qm1, hpM1, tM1, h12, ⟨k1, k2, k3⟩, ⟨k4, k5, k6, k18⟩, ⟨k36, h221⟩, k42, h224⟩ := id hM1
    have X1 := XT.of2 hst9 x1
    refine ⟨_, ev, ⟨_, M1.o⟩, 0, 0, ?_, by omega, by omega⟩
    refine MX.weaken (k_X14_tell0 M1 htz k18 z1) (fun o2 h2 z => ?_)
    obtain ⟨ev2, y, M2⟩ := z
    refine ⟨?_, tsz, ⟨rc, q, V, S, b, _, _, _, _, _, _, _, s, L, hP, ⟨_, _, _, _, _, _, _, _, _, _, X1.lt (by rw [y.1]; exact Nat.le_refl _) (fun q hq => y.2 q (Or.inl hq)), wT, wK, hpf, hR, hfc, htp, hly, rfl⟩, ⟨_, _, _, _, _, _, _, _, hM1.up M2 y (fun k hk => (upd_nq (by omega)).trans ((upd_nq (by omega)).trans (upd_nq (by omega)))) (fun _ _ => rfl) h12 rfl rfl⟩, hs, (by rw [y.1, f.1]; exact h227), o9, ((y.2 226 (by omega)).trans (f.2 226 (by omega))).trans ho⟩, by omega, by omega⟩
    rw [ev2]
  subst ea
  have hSS : simS (rc, V, 0, fs0, q, 0, 0) (rc, V, 0, fs0, qW q pM, 0, 0) := ⟨rfl, rfl, rfl, rfl, ⟨rfl, rfl, rfl, rfl, fun j hj => (hM.2.2.2.1 j hj).symm⟩, rfl⟩
  rcases z with ⟨e, p, t1X, ev, f, V9, kw9, tw9, pf9, pc9, lf9, L9, cl9, w1, w2, w3, w4, w5, w6, x1⟩ | ⟨t, t1X, tI, ev, f, kw9, tw9, pf9, lf9, L9, fr9, w2, w3, w4, w6, w7, x1⟩
  · have hM1 := hM.x f
    have hpc : ∀ k, k < q.2.2.1 → ar 210 k = nI (q.2.2.2.2 k) ∧ q.2.2.2.2 k < 3 := fun k hk => by rw [← hM1.2.2.2.1 k hk]; exact hM1.2.2.1.2.2.1 k (by omega)
    obtain ⟨M1, rT1, qm1, hpM1, tM1, h12, ⟨k1, k2, k3⟩, ⟨k4, k5, k6, k18⟩, ⟨k36, h221⟩, k42, h224⟩ := id hM1
    have X1 := XT.of2 hst9 x1
    refine ⟨_, ev, ⟨_, M1.o⟩, 3 * n + 6, 16 * n + 31, ?_, by omega, by omega⟩
    refine MX.weaken (k_X14_tell M1 tT (by omega) (fun k hk => (htp k (by omega)).2) ⟨by omega, fun i hi => tM1.2 i (by omega)⟩ htz k18 hn1 (q := qW q pM) qm1 ⟨k4, k5, k6⟩ hrc (by rw [f.1]; exact h227) (fun r hr => rlD_cg hpM1 (hrl r hr)) h12 rT1 hly.2.2.1 fs0) (fun o2 h2 z => ?_)
    obtain ⟨g0, ar0, ⟨gz0, gz3, gz18, gk0⟩, ak0, z⟩ := z
    rcases z with ⟨e2, p2, t2X, ev2, g2, w9, nw9, ar2, tw2, kw2, rf2, pc2, M2, gk9, ⟨t1, t2, t3, t4, t5, t6⟩, at9, qm2, hpc2, a12, rT2, cc, hcc, fr2⟩ | ⟨t8, t2X, _⟩
    · rcases sim_tell hSS t1X t2X with ⟨e8, r1, r2⟩ | ⟨r8, r9, r1, _⟩
      · cases r1; cases r2
        refine ⟨?_, 0, ⟨rc, qW q pc9, V9, S, b, _, _, _, _, _, _, _, s, L9, ⟨⟨hnt, hnk, hrc, by omega, hcn, hrn⟩, fun r hr => by rw [w1 r hr]; exact rlD_cg w5 (hrl r hr), fOk_cg w5 hfo⟩, ⟨_, _, _, _, _, _, _, _, _, _, X1.lt (by rw [fr2.1]; omega) (fun q hq => fr2.2 q (Or.inl hq)), w2, w3, w4, hR, hfc, (fun k hk => absurd hk (Nat.not_lt_zero _)), w6, (if_pos rfl).symm⟩, ⟨_, _, _, _, _, _, _, _, ⟨M2, rT2.le (Nat.le_refl _) (fun r hr => (w1 r hr).symm), qm2, (fun j hj => (hpc2 j hj).trans ((hpM1 j hj).trans (w5 j hj).symm)), ⟨by omega, fun i hi => absurd hi (Nat.not_lt_zero _)⟩, a12, ⟨t1, t2, t3⟩, ⟨t4, t5, t6, (gk9 18 (by omega)).trans gz18⟩, ⟨(gk9 36 (by omega)).trans ((gk0 36 (by omega)).trans k36), fun i hi => (congrFun ((at9 221 (by decide)).trans (ak0 221 (by decide))) i).trans (h221 i hi)⟩, (gk9 42 (by omega)).trans ((gk0 42 (by omega)).trans k42), fun i hi => (congrFun ((at9 224 (by decide)).trans (ak0 224 (by decide))) i).trans (h224 i hi)⟩⟩, isst_V w1 hs, (by rw [fr2.1, f.1]; omega), o9, ((fr2.2 226 (Or.inr ⟨by omega, by rw [f.1]; omega⟩)).trans (f.2 226 (by omega))).trans ho⟩, by omega, by omega⟩
        rw [ev2]
      · cases r1
    · rcases sim_tell hSS t1X t2X with ⟨e8, r1, r2⟩ | ⟨r8, r9, r1, _⟩
      · cases r2
      · cases r1
  · have hM1 := hM.x f
    have hpc : ∀ k, k < q.2.2.1 → ar 210 k = nI (q.2.2.2.2 k) ∧ q.2.2.2.2 k < 3 := fun k hk => by rw [← hM1.2.2.2.1 k hk]; exact hM1.2.2.1.2.2.1 k (by omega)
    obtain ⟨M1, rT1, qm1, hpM1, tM1, h12, ⟨k1, k2, k3⟩, ⟨k4, k5, k6, k18⟩, ⟨k36, h221⟩, k42, h224⟩ := id hM1
    obtain ⟨s9, hs9⟩ := st_exists (F := addF S t.2.2.2.1 t.2.2.1) (U := fun _ => true) (fun r hr => (tI.2.2.2.2.1 r hr).1) tI.2.1.1 w6.2.2.1 w6.2.1
    have X1 := XT.of (ns := false) (s := s9) x1
    refine ⟨_, ev, ⟨_, M1.o⟩, 3 * n + 6, 16 * n + 31, ?_, by omega, by omega⟩
    refine MX.weaken (k_X14_tell M1 tT (by omega) (fun k hk => (htp k (by omega)).2) ⟨by omega, fun i hi => tM1.2 i (by omega)⟩ htz k18 hn1 (q := qW q pM) qm1 ⟨k4, k5, k6⟩ hrc (by rw [f.1]; exact h227) (fun r hr => rlD_cg hpM1 (hrl r hr)) h12 rT1 hly.2.2.1 fs0) (fun o2 h2 z => ?_)
    obtain ⟨g0, ar0, ⟨gz0, gz3, gz18, gk0⟩, ak0, z⟩ := z
    rcases z with ⟨e2, p2, t2X, _⟩ | ⟨t8, t2X, tI2, ev2, g2, w9, nw9, ar2, tw2, kw2, rf2, M2, gk9, ⟨t1, t2, t4, t5, t6⟩, at9, qm2, a12, rT2, cc, hcc, fr2⟩
    · rcases sim_tell hSS t1X t2X with ⟨e8, r1, r2⟩ | ⟨r8, r9, r1, r2, _⟩
      · cases r1
      · cases r2
    · rcases sim_tell hSS t1X t2X with ⟨e8, r1, r2⟩ | ⟨r8, r9, r1, r2, sm⟩
      · cases r1
      · cases r1; cases r2
        obtain ⟨ta, tV, tn, tf, tq, tk9, tc⟩ := t
        obtain ⟨ta8, tV8, tn8, tf8, tq8, tk8, tc8⟩ := t8
        obtain ⟨s1, s2, s3, s4, s5, s6⟩ := sm
        have s1 : ta = ta8 := s1
        have s2 : tV = tV8 := s2
        have s3 : tn = tn8 := s3
        have s4 : tf = tf8 := s4
        have s6 : (tk9, tc) = (tk8, tc8) := s6
        cases s6
        subst s1; subst s2; subst s3; subst s4
        obtain ⟨qa, qb, qc, qd, qp, qp8, rfl, rfl, hqp⟩ := simB.ex s5
        refine ⟨?_, 0, ⟨ta, (qa, qb, qc, qd, qp), tV, addF S tf tn, b, _, _, _, _, _, _, _, s9, L9, ⟨⟨tI.2.1.1, tI.2.1.2, tI.1.1, by omega, hcn, hrn⟩, tI.2.2.2.2.1, fOk_add hfo tI⟩, ⟨_, _, _, _, _, _, _, _, _, _, X1.lt (by rw [fr2.1]; omega) (fun q hq => fr2.2 q (Or.inl hq)), w2, w3, w4, w7, rfl, (fun k hk => absurd hk (Nat.not_lt_zero _)), w6, rfl⟩, ⟨_, _, _, _, _, _, _, _, ⟨M2, rT2, qm2, (fun j hj => (hqp j hj).symm), ⟨by omega, fun i hi => absurd hi (Nat.not_lt_zero _)⟩, a12, ⟨t1, t2, (gk9 3 (by omega)).trans gz3⟩, ⟨t4, t5, t6, (gk9 18 (by omega)).trans gz18⟩, ⟨(gk9 36 (by omega)).trans ((gk0 36 (by omega)).trans k36), fun i hi => (congrFun ((at9 221 (by decide)).trans (ak0 221 (by decide))) i).trans (h221 i hi)⟩, (gk9 42 (by omega)).trans ((gk0 42 (by omega)).trans k42), fun i hi => (congrFun ((at9 224 (by decide)).trans (ak0 224 (by decide))) i).trans (h224 i hi)⟩⟩, hs9, (by rw [fr2.1, f.1]; omega), o9, ((fr2.2 226 (Or.inr ⟨by omega, by rw [f.1]; omega⟩)).trans (f.2 226 (by omega))).trans ho⟩, by omega, by omega⟩
        rw [ev2]
