/-! the law: pairs of calls that ask what FOLLOWS -/
set_option maxRecDepth 100000 in
set_option maxHeartbeats 4000000 in
theorem p_follows {G : xG} {h : xHp} {tsz : Nat} (I : LI h tsz) {a : Int32} : Pr G mX11_follows mX14_follows 16 12 [.int a] h tsz := by
  obtain ⟨rc, q, V, S, b, flt, whr, cn, ct, rn, rs, tr, s, L, hP, hX, ⟨g, w, nw, ar, twM, kwM, rf, pM, hM⟩, hs, h227, o9, ho⟩ := I
  obtain ⟨⟨hnt, hnk, hrc, htz, hcn, hrn⟩, hrl, hfo⟩ := id hP
  obtain ⟨tp, fc, lf, ra, kw, tw, pf, fr, cl, plc, X, wT, wK, hpf, hR, hfc, htp, hly, hwh⟩ := hX
  have c : cOk rc q.1 q.2.2.1 V pf q.2.2.2.2 lf L fr S := ⟨⟨hnt, hnk, hrc⟩, fun k hk => hpf k (by omega), fun r hr => (hrl r hr).1, fun r hr => (hrl r hr).2.2.1, hly.2.2.1, hly.1, hly.2.1, hR⟩
  have c2 : cOk2 rc q.2.2.1 V q.2.2.2.2 := fun r hr => (hrl r hr).2.2.2.1
  have hV : ∀ r, r < rc → okRl q.1 (V r) := fun r hr => (hrl r hr).1
  have hKK : ∀ r, r < rc → okK (V r) := fun r hr => (hrl r hr).2.1
  have hcv : ∀ r, r < rc → covR (V r) := fun r hr => cov_of (hrl r hr)
  have hsU : IsSt S V rc (uR (-1)) q.1 s := isst_cg hs (uR_m hrc)
  have hok := st_ok hnt hrl hfo hs
  have hpw := pw_of hrl hok
  have hsat : ∃ S9, Sat V rc S9 := ⟨L, hly.2.2.1⟩
  refine MX.weaken (k_X11_follows X c hs) (fun o h1 z => ?_)
  obtain ⟨f, X1, r, ev, hr⟩ := z
  have hM1 := hM.x f
  have hpc : ∀ k, k < q.2.2.1 → ar 210 k = nI (q.2.2.2.2 k) ∧ q.2.2.2.2 k < 3 := fun k hk => by rw [← hM1.2.2.2.1 k hk]; exact hM1.2.2.1.2.2.1 k (by omega)
  obtain ⟨M1, rT1, qm1, hpM1, tM1, h12, ⟨k1, k2, k3⟩, ⟨k4, k5, k6, k18⟩, ⟨k36, h221⟩, k42, h224⟩ := id hM1
  refine ⟨_, ev, ⟨_, M1.o⟩, 0, 0, ?_, by omega, by omega⟩
  refine MX.weaken (k_X14_follows M1 hsU hV hnt hrc k6 rT1 hcv hpw hKK hsat h12 k4 k5 hnk hpc) (fun o2 h2 z => ?_)
  obtain ⟨y, ⟨g2, ar2, M2, ⟨g20, gk2⟩, ak2⟩, r2, ev2, hr2⟩ := z
  refine ⟨?_, tsz, ⟨rc, q, V, S, b, _, _, _, _, _, _, _, s, L, hP, ⟨_, _, _, _, _, _, _, _, _, _, X1.lt (by rw [y.1]; exact Nat.le_refl _) (fun q hq => y.2 q (Or.inl hq)), wT, wK, hpf, hR, hfc, htp, hly, hwh⟩, ⟨_, _, _, _, _, _, _, _, hM1.up M2 y (fun k hk => gk2 k (by omega) (by omega)) (fun c hc => ak2 c (by omega) (by omega) (by omega)) (fun j hj => (congrFun (ak2 212 (by decide) (by decide) (by decide)) j).trans (h12 j hj)) ((gk2 1 (by decide) (by decide)).trans k1) ((gk2 2 (by decide) (by decide)).trans k2)⟩, hs, (by rw [y.1, f.1]; exact h227), o9, ((y.2 226 (by omega)).trans (f.2 226 (by omega))).trans ho⟩, by omega, by omega⟩
  rw [ev2, ← askA_eq hnk (fun n x y _ p p2 => p.trans p2.symm) hr hr2]
set_option maxRecDepth 100000 in
set_option maxHeartbeats 4000000 in
theorem p_steps {G : xG} {h : xHp} {tsz : Nat} (I : LI h tsz) {a : Int32} : Pr G mX11_steps mX14_steps 16 12 [.int a] h tsz := by
  obtain ⟨rc, q, V, S, b, flt, whr, cn, ct, rn, rs, tr, s, L, hP, hX, ⟨g, w, nw, ar, twM, kwM, rf, pM, hM⟩, hs, h227, o9, ho⟩ := I
  obtain ⟨⟨hnt, hnk, hrc, htz, hcn, hrn⟩, hrl, hfo⟩ := id hP
  obtain ⟨tp, fc, lf, ra, kw, tw, pf, fr, cl, plc, X, wT, wK, hpf, hR, hfc, htp, hly, hwh⟩ := hX
  have c : cOk rc q.1 q.2.2.1 V pf q.2.2.2.2 lf L fr S := ⟨⟨hnt, hnk, hrc⟩, fun k hk => hpf k (by omega), fun r hr => (hrl r hr).1, fun r hr => (hrl r hr).2.2.1, hly.2.2.1, hly.1, hly.2.1, hR⟩
  have c2 : cOk2 rc q.2.2.1 V q.2.2.2.2 := fun r hr => (hrl r hr).2.2.2.1
  have hV : ∀ r, r < rc → okRl q.1 (V r) := fun r hr => (hrl r hr).1
  have hKK : ∀ r, r < rc → okK (V r) := fun r hr => (hrl r hr).2.1
  have hcv : ∀ r, r < rc → covR (V r) := fun r hr => cov_of (hrl r hr)
  have hsU : IsSt S V rc (uR (-1)) q.1 s := isst_cg hs (uR_m hrc)
  have hok := st_ok hnt hrl hfo hs
  have hpw := pw_of hrl hok
  have hsat : ∃ S9, Sat V rc S9 := ⟨L, hly.2.2.1⟩
  refine MX.weaken (k_X11_steps X c hs) (fun o h1 z => ?_)
  obtain ⟨f, X1, r, ev, hr⟩ := z
  have hM1 := hM.x f
  have hpc : ∀ k, k < q.2.2.1 → ar 210 k = nI (q.2.2.2.2 k) ∧ q.2.2.2.2 k < 3 := fun k hk => by rw [← hM1.2.2.2.1 k hk]; exact hM1.2.2.1.2.2.1 k (by omega)
  obtain ⟨M1, rT1, qm1, hpM1, tM1, h12, ⟨k1, k2, k3⟩, ⟨k4, k5, k6, k18⟩, ⟨k36, h221⟩, k42, h224⟩ := id hM1
  refine ⟨_, ev, ⟨_, M1.o⟩, 0, 0, ?_, by omega, by omega⟩
  refine MX.weaken (k_X14_steps M1 hsU hV hnt hrc k6 rT1 hcv hpw hKK hsat h12 k4 k5 hnk hpc) (fun o2 h2 z => ?_)
  obtain ⟨y, ⟨g2, ar2, M2, ⟨g20, gk2⟩, ak2⟩, r2, ev2, hr2⟩ := z
  refine ⟨?_, tsz, ⟨rc, q, V, S, b, _, _, _, _, _, _, _, s, L, hP, ⟨_, _, _, _, _, _, _, _, _, _, X1.lt (by rw [y.1]; exact Nat.le_refl _) (fun q hq => y.2 q (Or.inl hq)), wT, wK, hpf, hR, hfc, htp, hly, hwh⟩, ⟨_, _, _, _, _, _, _, _, hM1.up M2 y (fun k hk => gk2 k (by omega) (by omega)) (fun c hc => ak2 c (by omega) (by omega) (by omega)) (fun j hj => (congrFun (ak2 212 (by decide) (by decide) (by decide)) j).trans (h12 j hj)) ((gk2 1 (by decide) (by decide)).trans k1) ((gk2 2 (by decide) (by decide)).trans k2)⟩, hs, (by rw [y.1, f.1]; exact h227), o9, ((y.2 226 (by omega)).trans (f.2 226 (by omega))).trans ho⟩, by omega, by omega⟩
  rw [ev2, ← askA_eq hnk (fun n x y _ p p2 => p.trans p2.symm) hr hr2]
set_option maxRecDepth 100000 in
set_option maxHeartbeats 4000000 in
theorem p_many {G : xG} {h : xHp} {tsz : Nat} (I : LI h tsz) {a : Int32} : Pr G mX11_many mX14_many 16 12 [.int a] h tsz := by
  obtain ⟨rc, q, V, S, b, flt, whr, cn, ct, rn, rs, tr, s, L, hP, hX, ⟨g, w, nw, ar, twM, kwM, rf, pM, hM⟩, hs, h227, o9, ho⟩ := I
  obtain ⟨⟨hnt, hnk, hrc, htz, hcn, hrn⟩, hrl, hfo⟩ := id hP
  obtain ⟨tp, fc, lf, ra, kw, tw, pf, fr, cl, plc, X, wT, wK, hpf, hR, hfc, htp, hly, hwh⟩ := hX
  have c : cOk rc q.1 q.2.2.1 V pf q.2.2.2.2 lf L fr S := ⟨⟨hnt, hnk, hrc⟩, fun k hk => hpf k (by omega), fun r hr => (hrl r hr).1, fun r hr => (hrl r hr).2.2.1, hly.2.2.1, hly.1, hly.2.1, hR⟩
  have c2 : cOk2 rc q.2.2.1 V q.2.2.2.2 := fun r hr => (hrl r hr).2.2.2.1
  have hV : ∀ r, r < rc → okRl q.1 (V r) := fun r hr => (hrl r hr).1
  have hKK : ∀ r, r < rc → okK (V r) := fun r hr => (hrl r hr).2.1
  have hcv : ∀ r, r < rc → covR (V r) := fun r hr => cov_of (hrl r hr)
  have hsU : IsSt S V rc (uR (-1)) q.1 s := isst_cg hs (uR_m hrc)
  have hok := st_ok hnt hrl hfo hs
  have hpw := pw_of hrl hok
  have hsat : ∃ S9, Sat V rc S9 := ⟨L, hly.2.2.1⟩
  refine MX.weaken (k_X11_many X c hs) (fun o h1 z => ?_)
  obtain ⟨f, X1, r, ev, hr⟩ := z
  have hM1 := hM.x f
  have hpc : ∀ k, k < q.2.2.1 → ar 210 k = nI (q.2.2.2.2 k) ∧ q.2.2.2.2 k < 3 := fun k hk => by rw [← hM1.2.2.2.1 k hk]; exact hM1.2.2.1.2.2.1 k (by omega)
  obtain ⟨M1, rT1, qm1, hpM1, tM1, h12, ⟨k1, k2, k3⟩, ⟨k4, k5, k6, k18⟩, ⟨k36, h221⟩, k42, h224⟩ := id hM1
  refine ⟨_, ev, ⟨_, M1.o⟩, 0, 0, ?_, by omega, by omega⟩
  refine MX.weaken (k_X14_many M1 hsU hV hnt hrc k6 rT1 hcv hpw hKK hsat h12 k5 hnk) (fun o2 h2 z => ?_)
  obtain ⟨y, ⟨g2, ar2, M2, ⟨g20, gk2⟩, ak2⟩, r2, ev2, hr2⟩ := z
  refine ⟨?_, tsz, ⟨rc, q, V, S, b, _, _, _, _, _, _, _, s, L, hP, ⟨_, _, _, _, _, _, _, _, _, _, X1.lt (by rw [y.1]; exact Nat.le_refl _) (fun q hq => y.2 q (Or.inl hq)), wT, wK, hpf, hR, hfc, htp, hly, hwh⟩, ⟨_, _, _, _, _, _, _, _, hM1.up M2 y (fun k hk => gk2 k (by omega) (by omega)) (fun c hc => ak2 c (by omega) (by omega) (by omega)) (fun j hj => (congrFun (ak2 212 (by decide) (by decide) (by decide)) j).trans (h12 j hj)) ((gk2 1 (by decide) (by decide)).trans k1) ((gk2 2 (by decide) (by decide)).trans k2)⟩, hs, (by rw [y.1, f.1]; exact h227), o9, ((y.2 226 (by omega)).trans (f.2 226 (by omega))).trans ho⟩, by omega, by omega⟩
  rw [ev2, ← askK_eq hnk (fun n x y p p2 => p.trans p2.symm) hr hr2]
theorem one_eq {nk : Nat} {s : Nat → Option Nat} {kd i r r' : Int32} (hnk : nk ≤ 10) (h : (∃ k, k < nk ∧ kd = nI k ∧ ∃ j, j < 2 ^ 31 ∧ i = nI j ∧ oneP s k j r) ∨ ((inR kd nk = false ∨ i < 0) ∧ r = -1)) (h' : (∃ k, k < nk ∧ kd = nI k ∧ ∃ j, j < 2 ^ 31 ∧ i = nI j ∧ oneP s k j r') ∨ ((inR kd nk = false ∨ i < 0) ∧ r' = -1)) : r = r' := by
  have key : ∀ {k j : Nat}, k < nk → kd = nI k → j < 2 ^ 31 → i = nI j → ¬ (inR kd nk = false ∨ i < 0) := fun {k j} h1 h2 h3 h4 z => by
    rcases z with z | z
    · exact inR_f z (by omega) k h1 h2
    · rw [h4] at z; exact nI_pos h3 z
  rcases h with ⟨k, a1, a2, j, a3, a4, a5⟩ | ⟨a1, a2⟩ <;> rcases h' with ⟨k', b1, b2, j', b3, b4, b5⟩ | ⟨b1, b2⟩
  · have q1 : k = k' := (nI_eq (by omega) (by omega)).mp (a2.symm.trans b2)
    have q2 : j = j' := (nI_eq a3 b3).mp (a4.symm.trans b4)
    subst q1; subst q2
    exact oneP_eq a5 b5
  · exact absurd b1 (key a1 a2 a3 a4)
  · exact absurd a1 (key b1 b2 b3 b4)
  · rw [a2, b2]
set_option maxRecDepth 100000 in
set_option maxHeartbeats 4000000 in
theorem p_one {G : xG} {h : xHp} {tsz : Nat} (I : LI h tsz) {a a2 : Int32} : Pr G mX11_one mX14_one 16 12 [.int a, .int a2] h tsz := by
  obtain ⟨rc, q, V, S, b, flt, whr, cn, ct, rn, rs, tr, s, L, hP, hX, ⟨g, w, nw, ar, twM, kwM, rf, pM, hM⟩, hs, h227, o9, ho⟩ := I
  obtain ⟨⟨hnt, hnk, hrc, htz, hcn, hrn⟩, hrl, hfo⟩ := id hP
  obtain ⟨tp, fc, lf, ra, kw, tw, pf, fr, cl, plc, X, wT, wK, hpf, hR, hfc, htp, hly, hwh⟩ := hX
  have c : cOk rc q.1 q.2.2.1 V pf q.2.2.2.2 lf L fr S := ⟨⟨hnt, hnk, hrc⟩, fun k hk => hpf k (by omega), fun r hr => (hrl r hr).1, fun r hr => (hrl r hr).2.2.1, hly.2.2.1, hly.1, hly.2.1, hR⟩
  have c2 : cOk2 rc q.2.2.1 V q.2.2.2.2 := fun r hr => (hrl r hr).2.2.2.1
  have hV : ∀ r, r < rc → okRl q.1 (V r) := fun r hr => (hrl r hr).1
  have hKK : ∀ r, r < rc → okK (V r) := fun r hr => (hrl r hr).2.1
  have hcv : ∀ r, r < rc → covR (V r) := fun r hr => cov_of (hrl r hr)
  have hsU : IsSt S V rc (uR (-1)) q.1 s := isst_cg hs (uR_m hrc)
  have hok := st_ok hnt hrl hfo hs
  have hpw := pw_of hrl hok
  have hsat : ∃ S9, Sat V rc S9 := ⟨L, hly.2.2.1⟩
  refine MX.weaken (k_X11_one X c hs) (fun o h1 z => ?_)
  obtain ⟨f, X1, r, ev, hr⟩ := z
  have hM1 := hM.x f
  have hpc : ∀ k, k < q.2.2.1 → ar 210 k = nI (q.2.2.2.2 k) ∧ q.2.2.2.2 k < 3 := fun k hk => by rw [← hM1.2.2.2.1 k hk]; exact hM1.2.2.1.2.2.1 k (by omega)
  obtain ⟨M1, rT1, qm1, hpM1, tM1, h12, ⟨k1, k2, k3⟩, ⟨k4, k5, k6, k18⟩, ⟨k36, h221⟩, k42, h224⟩ := id hM1
  refine ⟨_, ev, ⟨_, M1.o⟩, 0, 0, ?_, by omega, by omega⟩
  refine MX.weaken (k_X14_one M1 hsU hV hnt hrc k6 rT1 hcv hpw hKK hsat h12 k5 hnk) (fun o2 h2 z => ?_)
  obtain ⟨y, ⟨g2, ar2, M2, ⟨g20, gk2⟩, ak2⟩, r2, ev2, hr2⟩ := z
  refine ⟨?_, tsz, ⟨rc, q, V, S, b, _, _, _, _, _, _, _, s, L, hP, ⟨_, _, _, _, _, _, _, _, _, _, X1.lt (by rw [y.1]; exact Nat.le_refl _) (fun q hq => y.2 q (Or.inl hq)), wT, wK, hpf, hR, hfc, htp, hly, hwh⟩, ⟨_, _, _, _, _, _, _, _, hM1.up M2 y (fun k hk => gk2 k (by omega) (by omega)) (fun c hc => ak2 c (by omega) (by omega) (by omega)) (fun j hj => (congrFun (ak2 212 (by decide) (by decide) (by decide)) j).trans (h12 j hj)) ((gk2 1 (by decide) (by decide)).trans k1) ((gk2 2 (by decide) (by decide)).trans k2)⟩, hs, (by rw [y.1, f.1]; exact h227), o9, ((y.2 226 (by omega)).trans (f.2 226 (by omega))).trans ho⟩, by omega, by omega⟩
  rw [ev2, ← one_eq hnk hr hr2]
set_option maxRecDepth 100000 in
set_option maxHeartbeats 4000000 in
theorem p_derived {G : xG} {h : xHp} {tsz : Nat} (I : LI h tsz) : Pr G mX11_derived mX14_derived 16 12 [] h tsz := by
  obtain ⟨rc, q, V, S, b, flt, whr, cn, ct, rn, rs, tr, s, L, hP, hX, ⟨g, w, nw, ar, twM, kwM, rf, pM, hM⟩, hs, h227, o9, ho⟩ := I
  obtain ⟨⟨hnt, hnk, hrc, htz, hcn, hrn⟩, hrl, hfo⟩ := id hP
  obtain ⟨tp, fc, lf, ra, kw, tw, pf, fr, cl, plc, X, wT, wK, hpf, hR, hfc, htp, hly, hwh⟩ := hX
  have c : cOk rc q.1 q.2.2.1 V pf q.2.2.2.2 lf L fr S := ⟨⟨hnt, hnk, hrc⟩, fun k hk => hpf k (by omega), fun r hr => (hrl r hr).1, fun r hr => (hrl r hr).2.2.1, hly.2.2.1, hly.1, hly.2.1, hR⟩
  have c2 : cOk2 rc q.2.2.1 V q.2.2.2.2 := fun r hr => (hrl r hr).2.2.2.1
  have hV : ∀ r, r < rc → okRl q.1 (V r) := fun r hr => (hrl r hr).1
  have hKK : ∀ r, r < rc → okK (V r) := fun r hr => (hrl r hr).2.1
  have hcv : ∀ r, r < rc → covR (V r) := fun r hr => cov_of (hrl r hr)
  have hsU : IsSt S V rc (uR (-1)) q.1 s := isst_cg hs (uR_m hrc)
  have hok := st_ok hnt hrl hfo hs
  have hpw := pw_of hrl hok
  have hsat : ∃ S9, Sat V rc S9 := ⟨L, hly.2.2.1⟩
  refine MX.weaken (k_X11_derived X c hs) (fun o h1 z => ?_)
  obtain ⟨f, X1, ev⟩ := z
  have hM1 := hM.x f
  have hpc : ∀ k, k < q.2.2.1 → ar 210 k = nI (q.2.2.2.2 k) ∧ q.2.2.2.2 k < 3 := fun k hk => by rw [← hM1.2.2.2.1 k hk]; exact hM1.2.2.1.2.2.1 k (by omega)
  obtain ⟨M1, rT1, qm1, hpM1, tM1, h12, ⟨k1, k2, k3⟩, ⟨k4, k5, k6, k18⟩, ⟨k36, h221⟩, k42, h224⟩ := id hM1
  refine ⟨_, ev, ⟨_, M1.o⟩, 0, 0, ?_, by omega, by omega⟩
  refine MX.weaken (k_X14_derived M1 hsU hV hnt hrc k6 rT1 hcv hpw hKK hsat h12) (fun o2 h2 z => ?_)
  obtain ⟨y, ⟨g2, ar2, M2, ⟨g20, gk2⟩, ak2⟩, ev2⟩ := z
  refine ⟨?_, tsz, ⟨rc, q, V, S, b, _, _, _, _, _, _, _, s, L, hP, ⟨_, _, _, _, _, _, _, _, _, _, X1.lt (by rw [y.1]; exact Nat.le_refl _) (fun q hq => y.2 q (Or.inl hq)), wT, wK, hpf, hR, hfc, htp, hly, hwh⟩, ⟨_, _, _, _, _, _, _, _, hM1.up M2 y (fun k hk => gk2 k (by omega) (by omega)) (fun c hc => ak2 c (by omega) (by omega) (by omega)) (fun j hj => (congrFun (ak2 212 (by decide) (by decide) (by decide)) j).trans (h12 j hj)) ((gk2 1 (by decide) (by decide)).trans k1) ((gk2 2 (by decide) (by decide)).trans k2)⟩, hs, (by rw [y.1, f.1]; exact h227), o9, ((y.2 226 (by omega)).trans (f.2 226 (by omega))).trans ho⟩, by omega, by omega⟩
  rw [ev2]
set_option maxRecDepth 100000 in
set_option maxHeartbeats 4000000 in
theorem p_deepest {G : xG} {h : xHp} {tsz : Nat} (I : LI h tsz) : Pr G mX11_deepest mX14_deepest 16 12 [] h tsz := by
  obtain ⟨rc, q, V, S, b, flt, whr, cn, ct, rn, rs, tr, s, L, hP, hX, ⟨g, w, nw, ar, twM, kwM, rf, pM, hM⟩, hs, h227, o9, ho⟩ := I
  obtain ⟨⟨hnt, hnk, hrc, htz, hcn, hrn⟩, hrl, hfo⟩ := id hP
  obtain ⟨tp, fc, lf, ra, kw, tw, pf, fr, cl, plc, X, wT, wK, hpf, hR, hfc, htp, hly, hwh⟩ := hX
  have c : cOk rc q.1 q.2.2.1 V pf q.2.2.2.2 lf L fr S := ⟨⟨hnt, hnk, hrc⟩, fun k hk => hpf k (by omega), fun r hr => (hrl r hr).1, fun r hr => (hrl r hr).2.2.1, hly.2.2.1, hly.1, hly.2.1, hR⟩
  have c2 : cOk2 rc q.2.2.1 V q.2.2.2.2 := fun r hr => (hrl r hr).2.2.2.1
  have hV : ∀ r, r < rc → okRl q.1 (V r) := fun r hr => (hrl r hr).1
  have hKK : ∀ r, r < rc → okK (V r) := fun r hr => (hrl r hr).2.1
  have hcv : ∀ r, r < rc → covR (V r) := fun r hr => cov_of (hrl r hr)
  have hsU : IsSt S V rc (uR (-1)) q.1 s := isst_cg hs (uR_m hrc)
  have hok := st_ok hnt hrl hfo hs
  have hpw := pw_of hrl hok
  have hsat : ∃ S9, Sat V rc S9 := ⟨L, hly.2.2.1⟩
  refine MX.weaken (k_X11_deepest X c hs) (fun o h1 z => ?_)
  obtain ⟨f, X1, ev⟩ := z
  have hM1 := hM.x f
  have hpc : ∀ k, k < q.2.2.1 → ar 210 k = nI (q.2.2.2.2 k) ∧ q.2.2.2.2 k < 3 := fun k hk => by rw [← hM1.2.2.2.1 k hk]; exact hM1.2.2.1.2.2.1 k (by omega)
  obtain ⟨M1, rT1, qm1, hpM1, tM1, h12, ⟨k1, k2, k3⟩, ⟨k4, k5, k6, k18⟩, ⟨k36, h221⟩, k42, h224⟩ := id hM1
  refine ⟨_, ev, ⟨_, M1.o⟩, 0, 0, ?_, by omega, by omega⟩
  refine MX.weaken (k_X14_deepest M1 hsU hV hnt hrc k6 rT1 hcv hpw hKK hsat h12) (fun o2 h2 z => ?_)
  obtain ⟨y, ⟨g2, ar2, M2, ⟨g20, gk2⟩, ak2⟩, ev2⟩ := z
  refine ⟨?_, tsz, ⟨rc, q, V, S, b, _, _, _, _, _, _, _, s, L, hP, ⟨_, _, _, _, _, _, _, _, _, _, X1.lt (by rw [y.1]; exact Nat.le_refl _) (fun q hq => y.2 q (Or.inl hq)), wT, wK, hpf, hR, hfc, htp, hly, hwh⟩, ⟨_, _, _, _, _, _, _, _, hM1.up M2 y (fun k hk => gk2 k (by omega) (by omega)) (fun c hc => ak2 c (by omega) (by omega) (by omega)) (fun j hj => (congrFun (ak2 212 (by decide) (by decide) (by decide)) j).trans (h12 j hj)) ((gk2 1 (by decide) (by decide)).trans k1) ((gk2 2 (by decide) (by decide)).trans k2)⟩, hs, (by rw [y.1, f.1]; exact h227), o9, ((y.2 226 (by omega)).trans (f.2 226 (by omega))).trans ho⟩, by omega, by omega⟩
  have e9 : mxS s 1000 = mxS s (q.2.2.1 * 100) := by
    have := mxS_no9 (s := s) (n := q.2.2.1 * 100) (m := 1000 - q.2.2.1 * 100) (fun k z1 z2 => Classical.byContradiction (fun z3 => by have := (hok k (by omega) z3).1; omega))
    rw [show q.2.2.1 * 100 + (1000 - q.2.2.1 * 100) = 1000 by omega] at this; exact this
  rw [ev2, e9]
theorem b_eq {P : Prop} {b b' : Bool} (h : b = true ↔ P) (h' : b' = true ↔ P) : b = b' := by
  cases b <;> cases b' <;> simp_all
theorem rlW_eq {V : Nat → RV} {nt : Nat} {s : Nat → Option Nat} {s3 : Nat → Nat → Option Nat} {ρ : Nat} {w r r' : Int32} (h : rlW V nt s s3 ρ w r) (h' : rlW V nt s s3 ρ w r') : r = r' := by
  unfold rlW at h h'
  rcases h with ⟨a, e⟩ | ⟨a, e⟩ | ⟨a, e⟩ | ⟨a, b, e, hb⟩ | ⟨a, b, e, hb⟩ | ⟨a, e⟩ <;> rcases h' with ⟨a', e'⟩ | ⟨a', e'⟩ | ⟨a', e'⟩ | ⟨a', b', e', hb'⟩ | ⟨a', b', e', hb'⟩ | ⟨a', e'⟩ <;>
    first
      | exact e.trans e'.symm
      | exact e.trans ((congrArg bi (b_eq hb hb')).trans e'.symm)
      | (rw [a] at a'; exact absurd a' (by decide))
      | (rw [a'] at a; exact absurd a (by decide))
set_option maxRecDepth 100000 in
set_option maxHeartbeats 4000000 in
theorem p_rule {G : xG} {h : xHp} {tsz : Nat} (I : LI h tsz) {a a2 : Int32} : Pr G mX11_rule mX14_rule 16 13 [.int a, .int a2] h tsz := by
  obtain ⟨rc, q, V, S, b, flt, whr, cn, ct, rn, rs, tr, s, L, hP, hX, ⟨g, w, nw, ar, twM, kwM, rf, pM, hM⟩, hs, h227, o9, ho⟩ := I
  obtain ⟨⟨hnt, hnk, hrc, htz, hcn, hrn⟩, hrl, hfo⟩ := id hP
  obtain ⟨tp, fc, lf, ra, kw, tw, pf, fr, cl, plc, X, wT, wK, hpf, hR, hfc, htp, hly, hwh⟩ := hX
  have c : cOk rc q.1 q.2.2.1 V pf q.2.2.2.2 lf L fr S := ⟨⟨hnt, hnk, hrc⟩, fun k hk => hpf k (by omega), fun r hr => (hrl r hr).1, fun r hr => (hrl r hr).2.2.1, hly.2.2.1, hly.1, hly.2.1, hR⟩
  have c2 : cOk2 rc q.2.2.1 V q.2.2.2.2 := fun r hr => (hrl r hr).2.2.2.1
  have hV : ∀ r, r < rc → okRl q.1 (V r) := fun r hr => (hrl r hr).1
  have hKK : ∀ r, r < rc → okK (V r) := fun r hr => (hrl r hr).2.1
  have hcv : ∀ r, r < rc → covR (V r) := fun r hr => cov_of (hrl r hr)
  have hsU : IsSt S V rc (uR (-1)) q.1 s := isst_cg hs (uR_m hrc)
  have hok := st_ok hnt hrl hfo hs
  have hpw := pw_of hrl hok
  have hsat : ∃ S9, Sat V rc S9 := ⟨L, hly.2.2.1⟩
  have e3 : ∀ ρ : Nat, ∃ s3, IsSt S V rc (fun r => decide (r ≠ ρ)) q.1 s3 := fun ρ => st_exists hV hnt hly.2.2.1 hly.2.1
  obtain ⟨s3, hs3⟩ := Classical.axiomOfChoice e3
  refine MX.weaken (k_X11_rule X c hs (s3 := s3) (fun ρ _ => hs3 ρ)) (fun o h1 z => ?_)
  obtain ⟨f, X1, r, ev, hr⟩ := z
  have hM1 := hM.x f
  have hpc : ∀ k, k < q.2.2.1 → ar 210 k = nI (q.2.2.2.2 k) ∧ q.2.2.2.2 k < 3 := fun k hk => by rw [← hM1.2.2.2.1 k hk]; exact hM1.2.2.1.2.2.1 k (by omega)
  obtain ⟨M1, rT1, qm1, hpM1, tM1, h12, ⟨k1, k2, k3⟩, ⟨k4, k5, k6, k18⟩, ⟨k36, h221⟩, k42, h224⟩ := id hM1
  refine ⟨_, ev, ⟨_, M1.o⟩, 0, 0, ?_, by omega, by omega⟩
  refine MX.weaken (k_X14_rule M1 hsU hV hnt hrc k6 rT1 hcv hpw hKK hsat h12 k4 (fun r hr => sgR_of (hrl r hr)) (fun r hr => cvS_of (hrl r hr)) (s3 := s3) (fun ρ hρ => ⟨isst_cg (hs3 ρ) (uR_n hrc hρ), pw_of hrl (st_ok hnt hrl hfo (hs3 ρ))⟩)) (fun o2 h2 z => ?_)
  obtain ⟨r2, ev2, y, ⟨g2, ar2, M2, ⟨g20, gk2⟩, ak2⟩, hr2⟩ := z
  refine ⟨?_, tsz, ⟨rc, q, V, S, b, _, _, _, _, _, _, _, s, L, hP, ⟨_, _, _, _, _, _, _, _, _, _, X1.lt (by rw [y.1]; exact Nat.le_refl _) (fun q hq => y.2 q (Or.inl hq)), wT, wK, hpf, hR, hfc, htp, hly, hwh⟩, ⟨_, _, _, _, _, _, _, _, hM1.up M2 y (fun k hk => gk2 k (by omega) (by omega)) (fun c hc => ak2 c (by omega) (by omega) (by omega) (by omega)) (fun j hj => (congrFun (ak2 212 (by decide) (by decide) (by decide) (by decide)) j).trans (h12 j hj)) ((gk2 1 (by decide) (by decide)).trans k1) ((gk2 2 (by decide) (by decide)).trans k2)⟩, hs, (by rw [y.1, f.1]; exact h227), o9, ((y.2 226 (by omega)).trans (f.2 226 (by omega))).trans ho⟩, by omega, by omega⟩
  have : r = r2 := by
    rcases hr with ⟨ρ, z1, z2, z3⟩ | ⟨z1, z2⟩ <;> rcases hr2 with ⟨ρ2, y1, y2, y3⟩ | ⟨y1, y2⟩
    · have e : ρ = ρ2 := (nI_eq (by omega) (by omega)).mp (z2.symm.trans y2)
      subst e
      exact rlW_eq z3 y3
    · exact absurd z2 (inR_f y1 (by omega) ρ z1)
    · exact absurd y2 (inR_f z1 (by omega) ρ2 y1)
    · rw [z2, y2]
  rw [ev2, this]
set_option maxRecDepth 100000 in
set_option maxHeartbeats 4000000 in
theorem p_comes {G : xG} {h : xHp} {tsz : Nat} (I : LI h tsz) {a a2 : Int32} : Pr G mX11_comes mX14_comes 16 12 [.int a, .int a2] h tsz := by
  obtain ⟨rc, q, V, S, b, flt, whr, cn, ct, rn, rs, tr, s, L, hP, hX, ⟨g, w, nw, ar, twM, kwM, rf, pM, hM⟩, hs, h227, o9, ho⟩ := I
  obtain ⟨⟨hnt, hnk, hrc, htz, hcn, hrn⟩, hrl, hfo⟩ := id hP
  obtain ⟨tp, fc, lf, ra, kw, tw, pf, fr, cl, plc, X, wT, wK, hpf, hR, hfc, htp, hly, hwh⟩ := hX
  have c : cOk rc q.1 q.2.2.1 V pf q.2.2.2.2 lf L fr S := ⟨⟨hnt, hnk, hrc⟩, fun k hk => hpf k (by omega), fun r hr => (hrl r hr).1, fun r hr => (hrl r hr).2.2.1, hly.2.2.1, hly.1, hly.2.1, hR⟩
  have c2 : cOk2 rc q.2.2.1 V q.2.2.2.2 := fun r hr => (hrl r hr).2.2.2.1
  have hV : ∀ r, r < rc → okRl q.1 (V r) := fun r hr => (hrl r hr).1
  have hKK : ∀ r, r < rc → okK (V r) := fun r hr => (hrl r hr).2.1
  have hcv : ∀ r, r < rc → covR (V r) := fun r hr => cov_of (hrl r hr)
  have hsU : IsSt S V rc (uR (-1)) q.1 s := isst_cg hs (uR_m hrc)
  have hok := st_ok hnt hrl hfo hs
  have hpw := pw_of hrl hok
  have hsat : ∃ S9, Sat V rc S9 := ⟨L, hly.2.2.1⟩
  refine MX.weaken (k_X11_comes X c hs c2) (fun o h1 z => ?_)
  obtain ⟨f, r, ev, hr⟩ := z
  have hM1 := hM.x f
  have hpc : ∀ k, k < q.2.2.1 → ar 210 k = nI (q.2.2.2.2 k) ∧ q.2.2.2.2 k < 3 := fun k hk => by rw [← hM1.2.2.2.1 k hk]; exact hM1.2.2.1.2.2.1 k (by omega)
  obtain ⟨M1, rT1, qm1, hpM1, tM1, h12, ⟨k1, k2, k3⟩, ⟨k4, k5, k6, k18⟩, ⟨k36, h221⟩, k42, h224⟩ := id hM1
  refine ⟨_, ev, ⟨_, M1.o⟩, 0, 0, ?_, by omega, by omega⟩
  refine MX.weaken (k_X14_comes M1 hsU hV hnt hrc k6 rT1 hcv hpw hKK hsat h12 k4 k5 hnk hpc (fun r hr => sgR_of (hrl r hr)) (fun r hr => cvS_of (hrl r hr)) (fun r hr => (c2 r hr).2.2.1)) (fun o2 h2 z => ?_)
  obtain ⟨r2, ev2, y, hr2⟩ := z
  rcases hr with ⟨ρ, n, z1, X1, z3⟩ | ⟨z1, X1, z3⟩ <;> rcases hr2 with ⟨y1, y2, M2⟩ | ⟨ρ2, n2, y1, y2, g2, ar2, M2, ⟨gk0, gk1, gk2b, gk2⟩, ak2⟩
  · exact absurd ⟨ρ, n, z1⟩ y1
  · have e1 : ρ = ρ2 := (nI_eq (by have := z1.1; omega) (by have := y1.1; omega)).mp (z1.2.1.symm.trans y1.2.1)
    have e2 : n = n2 := (nI_eq (by have := z1.2.2.2.1.1; omega) (by have := y1.2.2.2.1.1; omega)).mp (z1.2.2.1.symm.trans y1.2.2.1)
    subst e1; subst e2
    refine ⟨?_, tsz, ⟨rc, q, V, S, b, _, _, _, _, _, _, _, s, L, hP, ⟨_, _, _, _, _, _, _, _, _, _, X1.lt (by rw [y.1]; exact Nat.le_refl _) (fun q hq => y.2 q (Or.inl hq)), wT, wK, hpf, hR, hfc, htp, hly, rfl⟩, ⟨_, _, _, _, _, _, _, _, hM1.up M2 y (fun k hk => gk2 k (by omega) (by omega) (by omega) (by omega)) (fun c hc => ak2 c (by omega) (by omega) (by omega)) (fun j hj => (congrFun (ak2 212 (by decide) (by decide) (by decide)) j).trans (h12 j hj)) gk1 gk2b⟩, hs, (by rw [y.1, f.1]; exact h227), o9, ((y.2 226 (by omega)).trans (f.2 226 (by omega))).trans ho⟩, by omega, by omega⟩
    rw [ev2, comR_eq z3 y2]
  · refine ⟨?_, tsz, ⟨rc, q, V, S, b, _, _, _, _, _, _, _, s, L, hP, ⟨_, _, _, _, _, _, _, _, _, _, X1.lt (by rw [y.1]; exact Nat.le_refl _) (fun q hq => y.2 q (Or.inl hq)), wT, wK, hpf, hR, hfc, htp, hly, rfl⟩, ⟨_, _, _, _, _, _, _, _, hM1.up M2 y (fun k hk => (upd_nq (by omega)).trans ((upd_nq (by omega)).trans (upd_nq (by omega)))) (fun _ _ => rfl) h12 rfl rfl⟩, hs, (by rw [y.1, f.1]; exact h227), o9, ((y.2 226 (by omega)).trans (f.2 226 (by omega))).trans ho⟩, by omega, by omega⟩
    rw [ev2, y2, z3]
  · exact absurd ⟨ρ2, n2, y1⟩ z1
set_option maxRecDepth 100000 in
set_option maxHeartbeats 4000000 in
theorem p_turned {G : xG} {h : xHp} {tsz : Nat} (I : LI h tsz) {a : Int32} {lo : Bool} : Pr G mX11_turned mX14_turned 16 12 [.int a, .int (bi lo)] h tsz := by
  obtain ⟨rc, q, V, S, b, flt, whr, cn, ct, rn, rs, tr, s, L, hP, hX, ⟨g, w, nw, ar, twM, kwM, rf, pM, hM⟩, hs, h227, o9, ho⟩ := I
  obtain ⟨⟨hnt, hnk, hrc, htz, hcn, hrn⟩, hrl, hfo⟩ := id hP
  obtain ⟨tp, fc, lf, ra, kw, tw, pf, fr, cl, plc, X, wT, wK, hpf, hR, hfc, htp, hly, hwh⟩ := hX
  have c : cOk rc q.1 q.2.2.1 V pf q.2.2.2.2 lf L fr S := ⟨⟨hnt, hnk, hrc⟩, fun k hk => hpf k (by omega), fun r hr => (hrl r hr).1, fun r hr => (hrl r hr).2.2.1, hly.2.2.1, hly.1, hly.2.1, hR⟩
  have c2 : cOk2 rc q.2.2.1 V q.2.2.2.2 := fun r hr => (hrl r hr).2.2.2.1
  have hV : ∀ r, r < rc → okRl q.1 (V r) := fun r hr => (hrl r hr).1
  have hKK : ∀ r, r < rc → okK (V r) := fun r hr => (hrl r hr).2.1
  have hcv : ∀ r, r < rc → covR (V r) := fun r hr => cov_of (hrl r hr)
  have hsU : IsSt S V rc (uR (-1)) q.1 s := isst_cg hs (uR_m hrc)
  have hok := st_ok hnt hrl hfo hs
  have hpw := pw_of hrl hok
  have hsat : ∃ S9, Sat V rc S9 := ⟨L, hly.2.2.1⟩
  have e3 : ∀ n : Nat, ∃ s2, IsSt (flipS S n) V rc (fun _ => true) q.1 s2 := fun n => st_exists hV hnt hly.2.2.1 hly.2.1
  obtain ⟨s2, hs2⟩ := Classical.axiomOfChoice e3
  refine MX.weaken (k_X11_turned X c hs (s2 := s2) (fun n _ => hs2 n)) (fun o h1 z => ?_)
  obtain ⟨f, r, ev, hr⟩ := z
  have hM1 := hM.x f
  have hpc : ∀ k, k < q.2.2.1 → ar 210 k = nI (q.2.2.2.2 k) ∧ q.2.2.2.2 k < 3 := fun k hk => by rw [← hM1.2.2.2.1 k hk]; exact hM1.2.2.1.2.2.1 k (by omega)
  obtain ⟨M1, rT1, qm1, hpM1, tM1, h12, ⟨k1, k2, k3⟩, ⟨k4, k5, k6, k18⟩, ⟨k36, h221⟩, k42, h224⟩ := id hM1
  refine ⟨_, ev, ⟨_, M1.o⟩, 0, 0, ?_, by omega, by omega⟩
  refine MX.weaken (k_X14_turned M1 hsU hV hnt hrc k6 rT1 hcv hpw hKK hsat h12 k4 k5 hnk hpc (s2 := s2) (fun n hn => ⟨isst_cg (hs2 n) (uR_m hrc), pw_of hrl (st_ok hnt hrl (fOk_flip hfo hn) (hs2 n))⟩)) (fun o2 h2 z => ?_)
  obtain ⟨r2, ev2, y, hr2⟩ := z
  rcases hr with ⟨n, z1, z2, X1, z3⟩ | ⟨z1, X1, z3⟩ <;> rcases hr2 with ⟨y1, y2, M2⟩ | ⟨n2, y1, y1b, y2, g2, ar2, M2, ⟨gk0, gk1, gk2b, gk2⟩, a12, ak2⟩
  · exact absurd ⟨n, z1, by have := z2.1; omega, z2⟩ y1
  · have e2 : n = n2 := (nI_eq (by have := z2.1; omega) (by have := y1b.1; omega)).mp (z1.symm.trans y1)
    subst e2
    refine ⟨?_, tsz, ⟨rc, q, V, S, b, _, _, _, _, _, _, _, s, L, hP, ⟨_, _, _, _, _, _, _, _, _, _, X1.lt (by rw [y.1]; exact Nat.le_refl _) (fun q hq => y.2 q (Or.inl hq)), wT, wK, hpf, hR, hfc, htp, hly, rfl⟩, ⟨_, _, _, _, _, _, _, _, hM1.up M2 y (fun k hk => gk2 k (by omega) (by omega) (by omega) (by omega)) (fun c hc => ak2 c (by omega) (by omega) (by omega) (by omega) (by omega)) a12 gk1 gk2b⟩, hs, (by rw [y.1, f.1]; exact h227), o9, ((y.2 226 (by omega)).trans (f.2 226 (by omega))).trans ho⟩, by omega, by omega⟩
    rw [ev2, y2, z3]
  · refine ⟨?_, tsz, ⟨rc, q, V, S, b, _, _, _, _, _, _, _, s, L, hP, ⟨_, _, _, _, _, _, _, _, _, _, X1.lt (by rw [y.1]; exact Nat.le_refl _) (fun q hq => y.2 q (Or.inl hq)), wT, wK, hpf, hR, hfc, htp, hly, rfl⟩, ⟨_, _, _, _, _, _, _, _, hM1.up M2 y (fun k hk => (upd_nq (by omega)).trans ((upd_nq (by omega)).trans (upd_nq (by omega)))) (fun _ _ => rfl) h12 rfl rfl⟩, hs, (by rw [y.1, f.1]; exact h227), o9, ((y.2 226 (by omega)).trans (f.2 226 (by omega))).trans ho⟩, by omega, by omega⟩
    rw [ev2, y2, z3]
  · exact absurd ⟨n2, y1, by have := y1b.1; omega, y1b⟩ z1
