/-! the law: why, go, fact, drop -/
theorem LMp.why {h h' : xHp} {tsz : Nat} {rc : Nat} {q : PQ} {V : Nat → RV} {S : Nat → Bool} {b : Nat → Nat} {flt : Int32} {whr : Int32} {cn : Nat} {ct : Nat → Int32} {rn : Nat} {rs : Nat → Int32} {tr : Int32} {g : Nat → Int32} {w : Int64} {nw : Value} {ar : Nat → Nat → Int32} {twM : Nat → Int64} {kwM : Nat → Int64} {rf : Nat → Option Nat} {pM : Nat → Nat} (M : LMp h tsz rc q V S b flt whr cn ct rn rs tr g w nw ar twM kwM rf pM) {g' : Nat → Int32} {ar' : Nat → Nat → Int32} {tr' whr' : Int32} {rn' : Nat} {rs' : Nat → Int32} (M' : MH h' g' w nw ar' twM kwM rf) (y : yfr h h') (hg : ∀ k, (k = 3 ∨ k = 4 ∨ k = 5 ∨ k = 6 ∨ k = 18 ∨ k = 42) → g' k = g k) (ha : ∀ c, (c = 208 ∨ c = 209 ∨ c = 210 ∨ c = 216 ∨ c = 224) → ar' c = ar c) (h12 : ∀ j, j < 1000 → ar' 212 j = bi (S j)) (k1 : g' 1 = tr') (k2 : g' 2 = whr') (k36 : g' 36 = nI rn') (h221 : ∀ i, i < rn' → ar' 221 i = rs' i) : LMp h' tsz rc q V S b flt whr' cn ct rn' rs' tr' g' w nw ar' twM kwM rf pM := by
  obtain ⟨m1, m2, m3, m4, m5, m6, ⟨m7, m8, m9⟩, ⟨n1, n2, n3, n4⟩, ⟨o1, o2⟩, p1, p2⟩ := M
  refine ⟨M', m2.y y, ?_, m4, ?_, h12, ⟨k1, k2, (hg 3 (by omega)).trans m9⟩, ⟨(hg 4 (by omega)).trans n1, (hg 5 (by omega)).trans n2, (hg 6 (by omega)).trans n3, (hg 18 (by omega)).trans n4⟩, ⟨k36, h221⟩, (hg 42 (by omega)).trans p1, fun i hi => (congrFun (ha 224 (by omega)) i).trans (p2 i hi)⟩
  · unfold qM; rw [ha 208 (by omega), ha 209 (by omega), ha 210 (by omega)]; exact m3
  · unfold tpM; rw [ha 216 (by omega)]; exact m5
theorem LMp.go {h h' : xHp} {tsz : Nat} {rc : Nat} {q : PQ} {V : Nat → RV} {S : Nat → Bool} {b : Nat → Nat} {flt : Int32} {whr : Int32} {cn : Nat} {ct : Nat → Int32} {rn : Nat} {rs : Nat → Int32} {tr : Int32} {g : Nat → Int32} {w : Int64} {nw : Value} {ar : Nat → Nat → Int32} {twM : Nat → Int64} {kwM : Nat → Int64} {rf : Nat → Option Nat} {pM : Nat → Nat} (M : LMp h tsz rc q V S b flt whr cn ct rn rs tr g w nw ar twM kwM rf pM) {g' : Nat → Int32} {ar' : Nat → Nat → Int32} {tr' whr' : Int32} {cn' : Nat} {ct' : Nat → Int32} (M' : MH h' g' w nw ar' twM kwM rf) (y : yfr h h') (hg : ∀ k, (k = 3 ∨ k = 4 ∨ k = 5 ∨ k = 6 ∨ k = 18 ∨ k = 36) → g' k = g k) (ha : ∀ c, (c = 208 ∨ c = 209 ∨ c = 210 ∨ c = 216 ∨ c = 221) → ar' c = ar c) (h12 : ∀ j, j < 1000 → ar' 212 j = bi (S j)) (k1 : g' 1 = tr') (k2 : g' 2 = whr') (k42 : g' 42 = nI cn') (h224 : ∀ i, i < cn' → ar' 224 i = ct' i) : LMp h' tsz rc q V S b flt whr' cn' ct' rn rs tr' g' w nw ar' twM kwM rf pM := by
  obtain ⟨m1, m2, m3, m4, m5, m6, ⟨m7, m8, m9⟩, ⟨n1, n2, n3, n4⟩, ⟨o1, o2⟩, p1, p2⟩ := M
  refine ⟨M', m2.y y, ?_, m4, ?_, h12, ⟨k1, k2, (hg 3 (by omega)).trans m9⟩, ⟨(hg 4 (by omega)).trans n1, (hg 5 (by omega)).trans n2, (hg 6 (by omega)).trans n3, (hg 18 (by omega)).trans n4⟩, ⟨(hg 36 (by omega)).trans o1, fun i hi => (congrFun (ha 221 (by omega)) i).trans (o2 i hi)⟩, k42, h224⟩
  · unfold qM; rw [ha 208 (by omega), ha 209 (by omega), ha 210 (by omega)]; exact m3
  · unfold tpM; rw [ha 216 (by omega)]; exact m5
theorem rsW_eq {nt : Nat} {v : RV} {τ τ' : Nat → Nat} {f f' : Nat → Int32} (hn : nt ≤ 10) (hv : okRl nt v) (ho : ordR v) (e : ∀ k, k < mS v v.2.2.1 → τ k = τ' k) (h : rsW v τ f) (h' : rsW v τ' f') : ∀ i, i < v.2.2.1 → f' i = f i := fun i hi => by
  rw [h i hi, h' i hi, nm_cg hn (hv.2.1 i hi).2.2.1 (hv.2.1 i hi).2.2.2 (fun s hs q => e s (sg_lt ho i s hi hs q))]
set_option maxRecDepth 100000 in
set_option maxHeartbeats 4000000 in
theorem p_why {G : xG} {h : xHp} {tsz : Nat} (I : LI h tsz) {a : Int32} : Pr G mX11_why mX14_why 16 12 [.int a] h tsz := by
  obtain ⟨rc, q, V, S, b, flt, whr, cn, ct, rn, rs, tr, s, L, hP, hX, ⟨g, w, nw, ar, twM, kwM, rf, pM, hM⟩, hs, h227, o9, ho⟩ := I
  obtain ⟨⟨hnt, hnk, hrc, htz, hcn, hrn⟩, hrl, hfo⟩ := id hP
  obtain ⟨tp, fc, lf, ra, kw, tw, pf, fr, cl, plc, X, wT, wK, hpf, hR, hfc, htp, hly, hwh⟩ := hX
  have c : cOk rc q.1 q.2.2.1 V pf q.2.2.2.2 lf L fr S := ⟨⟨hnt, hnk, hrc⟩, fun k hk => hpf k (by omega), fun r hr => (hrl r hr).1, fun r hr => (hrl r hr).2.2.1, hly.2.2.1, hly.1, hly.2.1, hR⟩
  have c2 : cOk2 rc q.2.2.1 V q.2.2.2.2 := fun r hr => (hrl r hr).2.2.2.1
  have hV : ∀ r, r < rc → okRl q.1 (V r) := fun r hr => (hrl r hr).1
  have hKK : ∀ r, r < rc → okK (V r) := fun r hr => (hrl r hr).2.1
  have hcv : ∀ r, r < rc → covR (V r) := fun r hr => cov_of (hrl r hr)
  have hsU : IsSt S V rc (uR (-1)) q.1 s := isst_cg hs (uR_m hrc)
  have hok := st_ok hnt hrl hfo hs
  have hpw := pw_of hrl hok
  have hsat : ∃ S9, Sat V rc S9 := ⟨L, hly.2.2.1⟩
  refine MX.weaken (k_X11_why X c hs c2) (fun o h1 z => ?_)
  obtain ⟨f, r, ev, hr⟩ := z
  have hM1 := hM.x f
  have hpc : ∀ k, k < q.2.2.1 → ar 210 k = nI (q.2.2.2.2 k) ∧ q.2.2.2.2 k < 3 := fun k hk => by rw [← hM1.2.2.2.1 k hk]; exact hM1.2.2.1.2.2.1 k (by omega)
  obtain ⟨M1, rT1, qm1, hpM1, tM1, h12, ⟨k1, k2, k3⟩, ⟨k4, k5, k6, k18⟩, ⟨k36, h221⟩, k42, h224⟩ := id hM1
  refine ⟨_, ev, ⟨_, M1.o⟩, 0, 0, ?_, by omega, by omega⟩
  refine MX.weaken (k_X14_why M1 hsU hV hnt hrc k6 rT1 hcv hpw hKK hsat h12 k4 k5 hnk hpc (fun r hr => sgR_of (hrl r hr)) (fun r hr => cvS_of (hrl r hr)) (fun r hr => (c2 r hr).2.1) (fun n d hn hd hF => (lead_ex hs hV hnt hn hd hF).2)) (fun o2 h2 z => ?_)
  obtain ⟨r2, ev2, y, hr2⟩ := z
  rcases hr with ⟨n, z1, z2, z3⟩ | ⟨z1, z3, X1⟩ <;> rcases hr2 with ⟨y1, y2, M2⟩ | ⟨n2, y1, y1b, y2⟩
  · exact absurd ⟨n, z1, by have := z2.1; omega, z2⟩ y1
  · have hn9 : n < 1000 := by have := z2.1; omega
    have e2 : n = n2 := (nI_eq (by omega) (by have := y1b.1; omega)).mp (z1.symm.trans y1)
    subst e2
    rcases z3 with ⟨u1, u2, X1⟩ | ⟨u1, u2, X1⟩ | ⟨u1, d, ρ, τ, rs9, u2, u3, u4, u5, X1⟩ <;> rcases y2 with ⟨v1, v2, g2, ar2, M2, ⟨gk0, gk1, gk2b, gk2⟩, ak2⟩ | ⟨v1, v2, g2, ar2, M2, ⟨gk0, gk1, gk2b, gk2⟩, ak2⟩ | ⟨v1, d2, ρ2, τ2, v2, v3, v4, g2, ar2, M2, ⟨gk0, gk1, gk2b, gk36, gk2⟩, rw2, ak2⟩
    · refine ⟨?_, tsz, ⟨rc, q, V, S, b, _, _, _, _, _, _, _, s, L, hP, ⟨_, _, _, _, _, _, _, _, _, _, X1.lt (by rw [y.1]; exact Nat.le_refl _) (fun q hq => y.2 q (Or.inl hq)), wT, wK, hpf, hR, hfc, htp, hly, rfl⟩, ⟨_, _, _, _, _, _, _, _, hM1.up M2 y (fun k hk => gk2 k (by omega) (by omega) (by omega) (by omega)) (fun c hc => ak2 c (by omega) (by omega) (by omega)) (fun j hj => (congrFun (ak2 212 (by decide) (by decide) (by decide)) j).trans (h12 j hj)) gk1 gk2b⟩, hs, (by rw [y.1, f.1]; exact h227), o9, ((y.2 226 (by omega)).trans (f.2 226 (by omega))).trans ho⟩, by omega, by omega⟩
      rw [ev2, u2, v2]
    · rw [hs.1 n hn9 v1] at u1; cases u1
    · rw [u1] at v2; cases v2
    · rw [hs.1 n hn9 u1] at v1; cases v1
    · refine ⟨?_, tsz, ⟨rc, q, V, S, b, _, _, _, _, _, _, _, s, L, hP, ⟨_, _, _, _, _, _, _, _, _, _, X1.lt (by rw [y.1]; exact Nat.le_refl _) (fun q hq => y.2 q (Or.inl hq)), wT, wK, hpf, hR, hfc, htp, hly, rfl⟩, ⟨_, _, _, _, _, _, _, _, hM1.up M2 y (fun k hk => gk2 k (by omega) (by omega) (by omega) (by omega)) (fun c hc => ak2 c (by omega) (by omega) (by omega)) (fun j hj => (congrFun (ak2 212 (by decide) (by decide) (by decide)) j).trans (h12 j hj)) gk1 gk2b⟩, hs, (by rw [y.1, f.1]; exact h227), o9, ((y.2 226 (by omega)).trans (f.2 226 (by omega))).trans ho⟩, by omega, by omega⟩
      rw [ev2, u2, v2]
    · rw [u1] at v1; cases v1
    · rw [u2] at v1; cases v1
    · rw [u1] at v1; cases v1
    · have ed : d = d2 := Option.some.inj (u2.symm.trans v2)
      subst ed
      obtain ⟨er, et⟩ := whyP_eq u3 v3
      subst er
      refine ⟨?_, tsz, ⟨rc, q, V, S, b, _, _, _, _, _, _, _, s, L, ⟨⟨hnt, hnk, hrc, htz, hcn, (hV ρ u3.1).1⟩, hrl, hfo⟩, ⟨_, _, _, _, _, _, _, _, _, _, X1.lt (by rw [y.1]; exact Nat.le_refl _) (fun q hq => y.2 q (Or.inl hq)), wT, wK, hpf, hR, hfc, htp, hly, rfl⟩, ⟨_, _, _, _, _, _, _, _, hM1.why M2 y (fun k hk => gk2 k (by omega) (by omega) (by omega) (by omega) (by omega)) (fun c hc => ak2 c (by omega) (by omega) (by omega) (by omega)) (fun j hj => (congrFun (ak2 212 (by decide) (by decide) (by decide) (by decide)) j).trans (h12 j hj)) gk1 gk2b gk36 (rsW_eq hnt (hV ρ u3.1) (c2 ρ u3.1).1 et u5 rw2)⟩, hs, (by rw [y.1, f.1]; exact h227), o9, ((y.2 226 (by omega)).trans (f.2 226 (by omega))).trans ho⟩, by omega, by omega⟩
      rw [ev2, u4, v4]
  · refine ⟨?_, tsz, ⟨rc, q, V, S, b, _, _, _, _, _, _, _, s, L, hP, ⟨_, _, _, _, _, _, _, _, _, _, X1.lt (by rw [y.1]; exact Nat.le_refl _) (fun q hq => y.2 q (Or.inl hq)), wT, wK, hpf, hR, hfc, htp, hly, rfl⟩, ⟨_, _, _, _, _, _, _, _, hM1.up M2 y (fun k hk => (upd_nq (by omega)).trans ((upd_nq (by omega)).trans (upd_nq (by omega)))) (fun _ _ => rfl) h12 rfl rfl⟩, hs, (by rw [y.1, f.1]; exact h227), o9, ((y.2 226 (by omega)).trans (f.2 226 (by omega))).trans ho⟩, by omega, by omega⟩
    rw [ev2, y2, z3]
  · exact absurd ⟨n2, y1, by have := y1b.1; omega, y1b⟩ z1
set_option maxRecDepth 100000 in
set_option maxHeartbeats 4000000 in
theorem p_go {G : xG} {h : xHp} {tsz : Nat} (I : LI h tsz) {a : Int32} : Pr G mX11_go mX14_go 18 16 [.int a] h tsz := by
  obtain ⟨rc, q, V, S, b, flt, whr, cn, ct, rn, rs, tr, s, L, hP, hX, ⟨g, w, nw, ar, twM, kwM, rf, pM, hM⟩, hs, h227, o9, ho⟩ := I
  obtain ⟨⟨hnt, hnk, hrc, htz, hcn, hrn⟩, hrl, hfo⟩ := id hP
  obtain ⟨tp, fc, lf, ra, kw, tw, pf, fr, cl, plc, X, wT, wK, hpf, hR, hfc, htp, hly, hwh⟩ := hX
  have c : cOk rc q.1 q.2.2.1 V pf q.2.2.2.2 lf L fr S := ⟨⟨hnt, hnk, hrc⟩, fun k hk => hpf k (by omega), fun r hr => (hrl r hr).1, fun r hr => (hrl r hr).2.2.1, hly.2.2.1, hly.1, hly.2.1, hR⟩
  have c2 : cOk2 rc q.2.2.1 V q.2.2.2.2 := fun r hr => (hrl r hr).2.2.2.1
  have hV : ∀ r, r < rc → okRl q.1 (V r) := fun r hr => (hrl r hr).1
  have hKK : ∀ r, r < rc → okK (V r) := fun r hr => (hrl r hr).2.1
  have hcv : ∀ r, r < rc → covR (V r) := fun r hr => cov_of (hrl r hr)
  have hsU : IsSt S V rc (uR (-1)) q.1 s := isst_cg hs (uR_m hrc)
  have hok := st_ok hnt hrl hfo hs
  have hpw := pw_of hrl hok
  have hsat : ∃ S9, Sat V rc S9 := ⟨L, hly.2.2.1⟩
  have hcut : ∀ n, okAtom q.2.2.1 q.1 q.2.2.2.2 n → ∀ m D, ∃ s, IsSt (minS S m D) V rc (uR (-1)) q.1 s ∧ pwA V rc q.1 s ∧ (s n = none ↔ cutS S V rc q.1 n m D) := (fun n hn m D => by
      obtain ⟨s9, h9⟩ := st_exists (F := minS S m D) (U := fun _ => true) hV hnt hly.2.2.1 hly.2.1
      have h10 : n < 1000 := by have := hn.1; omega
      refine ⟨s9, isst_cg h9 (uR_m hrc), pw_of hrl (st_ok hnt hrl (fOk_min hfo) h9), fun z => ⟨s9, h9, z⟩, ?_⟩
      rintro ⟨s8, h8, z⟩
      rw [st_unique hV hnt hly.2.2.1 h9 h8 n h10]; exact z)
  have hc0 : ∀ n, okAtom q.2.2.1 q.1 q.2.2.2.2 n → (s n).isSome = true → ∀ E, ¬ cutS S V rc q.1 n 0 E := (fun n hn hsm E hc => by
      obtain ⟨s8, h8, z⟩ := hc
      rw [minS_0] at h8
      have h10 : n < 1000 := by have := hn.1; omega
      rw [st_unique hV hnt hly.2.2.1 hs h8 n h10, z] at hsm; cases hsm)
  refine MX.weaken (k_X11_go X c hs hfc) (fun o h1 z => ?_)
  obtain ⟨f, r, ev, hr⟩ := z
  have hM1 := hM.x f
  have hpc : ∀ k, k < q.2.2.1 → ar 210 k = nI (q.2.2.2.2 k) ∧ q.2.2.2.2 k < 3 := fun k hk => by rw [← hM1.2.2.2.1 k hk]; exact hM1.2.2.1.2.2.1 k (by omega)
  obtain ⟨M1, rT1, qm1, hpM1, tM1, h12, ⟨k1, k2, k3⟩, ⟨k4, k5, k6, k18⟩, ⟨k36, h221⟩, k42, h224⟩ := id hM1
  refine ⟨_, ev, ⟨_, M1.o⟩, 0, 0, ?_, by omega, by omega⟩
  refine MX.weaken (k_X14_go M1 hsU hV hnt hrc k6 rT1 hcv hpw hKK hsat h12 k4 k5 hnk hpc hcut hc0) (fun o2 h2 z => ?_)
  obtain ⟨r2, ev2, y, hr2⟩ := z
  rcases hr with ⟨n, z1, z2, z3⟩ | ⟨z1, z3, X1⟩ <;> rcases hr2 with ⟨y1, y2, M2⟩ | ⟨n2, y1, y1b, y2⟩
  · exact absurd ⟨n, z1, by have := z2.1; omega, z2⟩ y1
  · have hn9 : n < 1000 := by have := z2.1; omega
    have e2 : n = n2 := (nI_eq (by omega) (by have := y1b.1; omega)).mp (z1.symm.trans y1)
    subst e2
    rcases z3 with ⟨u1, u2, X1⟩ | ⟨u1, u2, u3, X1⟩ | ⟨u1, u2, ⟨m, D, ct9, m1, m3, u3, u4, u5, X1⟩ | ⟨u3, u4, X1⟩⟩ <;> rcases y2 with ⟨v1, v2, g2, ar2, M2, ⟨gk0, gk1, gk2b, gk2⟩, a12, ak2⟩ | ⟨v1, v2, v3, g2, ar2, M2, ⟨gk0, gk1, gk2b, gk2⟩, a12, ak2⟩ | ⟨v1, v2, ⟨m8, D8, m18, m38, v3, v4, g2, ar2, M2, ⟨gk0, gk1, gk2b, gk42, gk2⟩, a12, a24, ak2⟩ | ⟨v3, v4, g2, ar2, M2, ⟨gk0, gk1, gk2b, gk2⟩, a12, ak2⟩⟩
    · refine ⟨?_, tsz, ⟨rc, q, V, S, b, _, _, _, _, _, _, _, s, L, hP, ⟨_, _, _, _, _, _, _, _, _, _, X1.lt (by rw [y.1]; exact Nat.le_refl _) (fun q hq => y.2 q (Or.inl hq)), wT, wK, hpf, hR, hfc, htp, hly, rfl⟩, ⟨_, _, _, _, _, _, _, _, hM1.up M2 y (fun k hk => gk2 k (by omega) (by omega) (by omega) (by omega) (by omega)) (fun c hc => ak2 c (by omega) (by omega) (by omega) (by omega) (by omega) (by omega)) a12 gk1 gk2b⟩, hs, (by rw [y.1, f.1]; exact h227), o9, ((y.2 226 (by omega)).trans (f.2 226 (by omega))).trans ho⟩, by omega, by omega⟩
      rw [ev2, u2, v2]
    · first | (rw [u1] at v1; cases v1; done) | (rw [v1] at u1; cases u1; done) | omega | exact absurd u3.2.1 (v3 m D m1 m3 u3.1) | exact absurd v3.2.1 (u3 m8 D8 m18 m38 v3.1)
    · first | (rw [u1] at v1; cases v1; done) | (rw [v1] at u1; cases u1; done) | omega | exact absurd u3.2.1 (v3 m D m1 m3 u3.1) | exact absurd v3.2.1 (u3 m8 D8 m18 m38 v3.1)
    · first | (rw [u1] at v1; cases v1; done) | (rw [v1] at u1; cases u1; done) | omega | exact absurd u3.2.1 (v3 m D m1 m3 u3.1) | exact absurd v3.2.1 (u3 m8 D8 m18 m38 v3.1)
    · first | (rw [u1] at v1; cases v1; done) | (rw [v1] at u1; cases u1; done) | omega | exact absurd u3.2.1 (v3 m D m1 m3 u3.1) | exact absurd v3.2.1 (u3 m8 D8 m18 m38 v3.1)
    · refine ⟨?_, tsz, ⟨rc, q, V, S, b, _, _, _, _, _, _, _, s, L, hP, ⟨_, _, _, _, _, _, _, _, _, _, X1.lt (by rw [y.1]; exact Nat.le_refl _) (fun q hq => y.2 q (Or.inl hq)), wT, wK, hpf, hR, hfc, htp, hly, rfl⟩, ⟨_, _, _, _, _, _, _, _, hM1.up M2 y (fun k hk => gk2 k (by omega) (by omega) (by omega) (by omega) (by omega)) (fun c hc => ak2 c (by omega) (by omega) (by omega) (by omega) (by omega) (by omega)) a12 gk1 gk2b⟩, hs, (by rw [y.1, f.1]; exact h227), o9, ((y.2 226 (by omega)).trans (f.2 226 (by omega))).trans ho⟩, by omega, by omega⟩
      rw [ev2, u3, v3]
    · first | (rw [u1] at v1; cases v1; done) | (rw [v1] at u1; cases u1; done) | omega | exact absurd u3.2.1 (v3 m D m1 m3 u3.1) | exact absurd v3.2.1 (u3 m8 D8 m18 m38 v3.1)
    · first | (rw [u1] at v1; cases v1; done) | (rw [v1] at u1; cases u1; done) | omega | exact absurd u3.2.1 (v3 m D m1 m3 u3.1) | exact absurd v3.2.1 (u3 m8 D8 m18 m38 v3.1)
    · first | (rw [u1] at v1; cases v1; done) | (rw [v1] at u1; cases u1; done) | omega | exact absurd u3.2.1 (v3 m D m1 m3 u3.1) | exact absurd v3.2.1 (u3 m8 D8 m18 m38 v3.1)
    · first | (rw [u1] at v1; cases v1; done) | (rw [v1] at u1; cases u1; done) | omega | exact absurd u3.2.1 (v3 m D m1 m3 u3.1) | exact absurd v3.2.1 (u3 m8 D8 m18 m38 v3.1)
    · obtain ⟨em, eD⟩ := goP_eq m1 m18 u3 v3
      subst em
      refine ⟨?_, tsz, ⟨rc, q, V, S, b, _, _, _, _, _, _, _, s, L, ⟨⟨hnt, hnk, hrc, htz, m3, hrn⟩, hrl, hfo⟩, ⟨_, _, _, _, _, _, _, _, _, _, X1.lt (by rw [y.1]; exact Nat.le_refl _) (fun q hq => y.2 q (Or.inl hq)), wT, wK, hpf, hR, hfc, htp, hly, rfl⟩, ⟨_, _, _, _, _, _, _, _, hM1.go M2 y (fun k hk => gk2 k (by omega) (by omega) (by omega) (by omega) (by omega) (by omega)) (fun c hc => ak2 c (by omega) (by omega) (by omega) (by omega) (by omega) (by omega) (by omega)) a12 gk1 gk2b gk42 (fun i hi => (a24 i hi).trans (by rw [u5 i hi, eD i hi]))⟩, hs, (by rw [y.1, f.1]; exact h227), o9, ((y.2 226 (by omega)).trans (f.2 226 (by omega))).trans ho⟩, by omega, by omega⟩
      rw [ev2, u4, v4]
    · first | (rw [u1] at v1; cases v1; done) | (rw [v1] at u1; cases u1; done) | omega | exact absurd u3.2.1 (v3 m D m1 m3 u3.1) | exact absurd v3.2.1 (u3 m8 D8 m18 m38 v3.1)
    · first | (rw [u1] at v1; cases v1; done) | (rw [v1] at u1; cases u1; done) | omega | exact absurd u3.2.1 (v3 m D m1 m3 u3.1) | exact absurd v3.2.1 (u3 m8 D8 m18 m38 v3.1)
    · first | (rw [u1] at v1; cases v1; done) | (rw [v1] at u1; cases u1; done) | omega | exact absurd u3.2.1 (v3 m D m1 m3 u3.1) | exact absurd v3.2.1 (u3 m8 D8 m18 m38 v3.1)
    · first | (rw [u1] at v1; cases v1; done) | (rw [v1] at u1; cases u1; done) | omega | exact absurd u3.2.1 (v3 m D m1 m3 u3.1) | exact absurd v3.2.1 (u3 m8 D8 m18 m38 v3.1)
    · refine ⟨?_, tsz, ⟨rc, q, V, S, b, _, _, _, _, _, _, _, s, L, hP, ⟨_, _, _, _, _, _, _, _, _, _, X1.lt (by rw [y.1]; exact Nat.le_refl _) (fun q hq => y.2 q (Or.inl hq)), wT, wK, hpf, hR, hfc, htp, hly, rfl⟩, ⟨_, _, _, _, _, _, _, _, hM1.up M2 y (fun k hk => gk2 k (by omega) (by omega) (by omega) (by omega) (by omega)) (fun c hc => ak2 c (by omega) (by omega) (by omega) (by omega) (by omega) (by omega)) a12 gk1 gk2b⟩, hs, (by rw [y.1, f.1]; exact h227), o9, ((y.2 226 (by omega)).trans (f.2 226 (by omega))).trans ho⟩, by omega, by omega⟩
      rw [ev2, u4, v4]
  · refine ⟨?_, tsz, ⟨rc, q, V, S, b, _, _, _, _, _, _, _, s, L, hP, ⟨_, _, _, _, _, _, _, _, _, _, X1.lt (by rw [y.1]; exact Nat.le_refl _) (fun q hq => y.2 q (Or.inl hq)), wT, wK, hpf, hR, hfc, htp, hly, rfl⟩, ⟨_, _, _, _, _, _, _, _, hM1.up M2 y (fun k hk => (upd_nq (by omega)).trans ((upd_nq (by omega)).trans (upd_nq (by omega)))) (fun _ _ => rfl) h12 rfl rfl⟩, hs, (by rw [y.1, f.1]; exact h227), o9, ((y.2 226 (by omega)).trans (f.2 226 (by omega))).trans ho⟩, by omega, by omega⟩
    rw [ev2, y2, z3]
  · exact absurd ⟨n2, y1, by have := y1b.1; omega, y1b⟩ z1
