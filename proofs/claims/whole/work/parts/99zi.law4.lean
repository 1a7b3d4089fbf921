/-! the law: what holds between two calls -/
def LPq (tsz rc : Nat) (q : PQ) (V : Nat → RV) (S : Nat → Bool) (cn rn : Nat) : Prop := (q.1 ≤ 10 ∧ q.2.2.1 ≤ 10 ∧ rc ≤ 20 ∧ tsz ≤ 400 ∧ cn ≤ 3 ∧ rn ≤ 4) ∧ (∀ r, r < rc → rlD q (V r)) ∧ fOk q S
def LX (h : xHp) (s : Nat → Option Nat) (L : Nat → Nat) (tsz : Nat) (rc : Nat) (q : PQ) (V : Nat → RV) (S : Nat → Bool) (b : Nat → Nat) (flt : Int32) (whr : Int32) (cn : Nat) (ct : Nat → Int32) (rn : Nat) (rs : Nat → Int32) (tr : Int32) : Prop := ∃ (tp : Nat → Int32) (fc : Int32) (lf : Nat → Int32) (ra : Nat → Nat) (kw : Nat → Int64) (tw : Nat → Int64) (pf : Nat → Int32) (fr : Nat → Int32) (cl : Int32) (plc : Int32), XT h tsz tp rc fc q.1 q.2.2.1 lf ra V kw tw pf fr cl flt plc s cn ct rn rs tr ∧ wOk q.1 q.2.1 tw ∧ wOk q.2.2.1 q.2.2.2.1 kw ∧ (∀ j, j < 10 → pf j = nI (q.2.2.2.2 j) ∧ q.2.2.2.2 j < 3) ∧ isRows fr S ∧ fc = nI (fb_ct S 1000) ∧ (∀ k, k < tsz → tp k = nI (b k) ∧ b k < 256) ∧ lyOk V rc lf L ∧ whr = (if tr = 4 then plc else -1)
def LMp (h : xHp) (tsz : Nat) (rc : Nat) (q : PQ) (V : Nat → RV) (S : Nat → Bool) (b : Nat → Nat) (flt : Int32) (whr : Int32) (cn : Nat) (ct : Nat → Int32) (rn : Nat) (rs : Nat → Int32) (tr : Int32) (g : Nat → Int32) (w : Int64) (nw : Value) (ar : Nat → Nat → Int32) (twM : Nat → Int64) (kwM : Nat → Int64) (rf : Nat → Option Nat) (pM : Nat → Nat) : Prop := MH h g w nw ar twM kwM rf ∧ rmT h rf rc V ∧ qM (q.1, q.2.1, q.2.2.1, q.2.2.2.1, pM) ar twM kwM ∧ (∀ j, j < q.2.2.1 → pM j = q.2.2.2.2 j) ∧ tpM ar b tsz ∧ (∀ j, j < 1000 → ar 212 j = bi (S j)) ∧ (g 1 = tr ∧ g 2 = whr ∧ g 3 = flt) ∧ (g 4 = nI q.1 ∧ g 5 = nI q.2.2.1 ∧ g 6 = nI rc ∧ g 18 = nI tsz) ∧ (g 36 = nI rn ∧ ∀ i, i < rn → ar 221 i = rs i) ∧ (g 42 = nI cn ∧ ∀ i, i < cn → ar 224 i = ct i)
def LI (h : xHp) (tsz : Nat) : Prop := ∃ (rc : Nat) (q : PQ) (V : Nat → RV) (S : Nat → Bool) (b : Nat → Nat) (flt : Int32) (whr : Int32) (cn : Nat) (ct : Nat → Int32) (rn : Nat) (rs : Nat → Int32) (tr : Int32) (s : Nat → Option Nat) (L : Nat → Nat), LPq tsz rc q V S cn rn ∧ LX h s L tsz rc q V S b flt whr cn ct rn rs tr ∧ (∃ (g : Nat → Int32) (w : Int64) (nw : Value) (ar : Nat → Nat → Int32) (twM : Nat → Int64) (kwM : Nat → Int64) (rf : Nat → Option Nat) (pM : Nat → Nat), LMp h tsz rc q V S b flt whr cn ct rn rs tr g w nw ar twM kwM rf pM) ∧ IsSt S V rc (fun _ => true) q.1 s ∧ 227 ≤ h.2 ∧ ∃ o9, h.1 226 = some (.inl (1, 1, .inr (.inl o9)))
def Pr (G : xG) (mX mM : xM) (dX dM : Nat) (As : List Value) (h : xHp) (tsz : Nat) : Prop := MX G mX dX 0 0 (.ref 1 :: As) h (fun o h1 => ∃ r, o = .inl (some (.int r)) ∧ (∃ fs, h1.1 205 = some (.inr (14, fs))) ∧ ∃ mc ms, MX G mM dM mc ms (.ref 205 :: As) h1 (fun o2 h2 => o2 = .inl (some (.int r)) ∧ ∃ tsz', LI h2 tsz' ∧ 3 * tsz' + mc ≤ 3 * tsz + 66 ∧ 16 * tsz' + ms ≤ 16 * tsz + 400) ∧ mc ≤ 1300 ∧ ms ≤ 7000)
theorem LI.c1 {h : xHp} {tsz : Nat} (I : LI h tsz) : ∃ fs, h.1 1 = some (.inr (11, fs)) := by
  obtain ⟨_, _, _, _, _, _, _, _, _, _, _, _, _, _, _, ⟨_, _, _, _, _, _, _, _, _, _, X, _⟩, _⟩ := I
  exact X.c1
theorem LMp.x {h h' : xHp} {tsz : Nat} {rc : Nat} {q : PQ} {V : Nat → RV} {S : Nat → Bool} {b : Nat → Nat} {flt : Int32} {whr : Int32} {cn : Nat} {ct : Nat → Int32} {rn : Nat} {rs : Nat → Int32} {tr : Int32} {g : Nat → Int32} {w : Int64} {nw : Value} {ar : Nat → Nat → Int32} {twM : Nat → Int64} {kwM : Nat → Int64} {rf : Nat → Option Nat} {pM : Nat → Nat} (M : LMp h tsz rc q V S b flt whr cn ct rn rs tr g w nw ar twM kwM rf pM) (f : xKp h h') : LMp h' tsz rc q V S b flt whr cn ct rn rs tr g w nw ar twM kwM rf pM := ⟨M.1.fr f.1 (fun q a _ => f.2 q a), M.2.1.x f, M.2.2⟩
theorem LMp.up {h h' : xHp} {tsz : Nat} {rc : Nat} {q : PQ} {V : Nat → RV} {S : Nat → Bool} {b : Nat → Nat} {flt : Int32} {whr : Int32} {cn : Nat} {ct : Nat → Int32} {rn : Nat} {rs : Nat → Int32} {tr : Int32} {g : Nat → Int32} {w : Int64} {nw : Value} {ar : Nat → Nat → Int32} {twM : Nat → Int64} {kwM : Nat → Int64} {rf : Nat → Option Nat} {pM : Nat → Nat} (M : LMp h tsz rc q V S b flt whr cn ct rn rs tr g w nw ar twM kwM rf pM) {g' : Nat → Int32} {ar' : Nat → Nat → Int32} {tr' whr' : Int32} (M' : MH h' g' w nw ar' twM kwM rf) (y : yfr h h') (hg : ∀ k, (k = 3 ∨ k = 4 ∨ k = 5 ∨ k = 6 ∨ k = 18 ∨ k = 36 ∨ k = 42) → g' k = g k) (ha : ∀ c, (c = 208 ∨ c = 209 ∨ c = 210 ∨ c = 216 ∨ c = 221 ∨ c = 224) → ar' c = ar c) (h12 : ∀ j, j < 1000 → ar' 212 j = bi (S j)) (k1 : g' 1 = tr') (k2 : g' 2 = whr') : LMp h' tsz rc q V S b flt whr' cn ct rn rs tr' g' w nw ar' twM kwM rf pM := by
  obtain ⟨m1, m2, m3, m4, m5, m6, ⟨m7, m8, m9⟩, ⟨n1, n2, n3, n4⟩, ⟨o1, o2⟩, p1, p2⟩ := M
  refine ⟨M', m2.y y, ?_, m4, ?_, h12, ⟨k1, k2, (hg 3 (by omega)).trans m9⟩, ⟨(hg 4 (by omega)).trans n1, (hg 5 (by omega)).trans n2, (hg 6 (by omega)).trans n3, (hg 18 (by omega)).trans n4⟩, ⟨(hg 36 (by omega)).trans o1, fun i hi => (congrFun (ha 221 (by omega)) i).trans (o2 i hi)⟩, (hg 42 (by omega)).trans p1, fun i hi => (congrFun (ha 224 (by omega)) i).trans (p2 i hi)⟩
  · unfold qM; rw [ha 208 (by omega), ha 209 (by omega), ha 210 (by omega)]; exact m3
  · unfold tpM; rw [ha 216 (by omega)]; exact m5
set_option maxRecDepth 100000 in
set_option maxHeartbeats 4000000 in
theorem p_fault {G : xG} {h : xHp} {tsz : Nat} (I : LI h tsz) : Pr G mX11_fault mX14_fault 1 1 [] h tsz := by
  obtain ⟨rc, q, V, S, b, flt, whr, cn, ct, rn, rs, tr, s, L, hP, hX, ⟨g, w, nw, ar, twM, kwM, rf, pM, hM⟩, hs, h227, o9, ho⟩ := I
  obtain ⟨⟨hnt, hnk, hrc, htz, hcn, hrn⟩, hrl, hfo⟩ := id hP
  obtain ⟨tp, fc, lf, ra, kw, tw, pf, fr, cl, plc, X, wT, wK, hpf, hR, hfc, htp, hly, hwh⟩ := hX
  have c : cOk rc q.1 q.2.2.1 V pf q.2.2.2.2 lf L fr S := ⟨⟨hnt, hnk, hrc⟩, fun k hk => hpf k (by omega), fun r hr => (hrl r hr).1, fun r hr => (hrl r hr).2.2.1, hly.2.2.1, hly.1, hly.2.1, hR⟩
  have c2 : cOk2 rc q.2.2.1 V q.2.2.2.2 := fun r hr => (hrl r hr).2.2.2.1
  have hV : ∀ r, r < rc → okRl q.1 (V r) := fun r hr => (hrl r hr).1
  have hKK : ∀ r, r < rc → okK (V r) := fun r hr => (hrl r hr).2.1
  have hcv : ∀ r, r < rc → covR (V r) := fun r hr => cov_of (hrl r hr)
  have hsU : IsSt S V rc (uR (-1)) q.1 s := isst_cg hs (uR_m hrc)
  have hok := st_ok hnt hrl hfo hs
  have hpw := pw_of hrl hok
  have hsat : ∃ S9, Sat V rc S9 := ⟨L, hly.2.2.1⟩
  obtain ⟨ns9, f9, g9, hst9, x⟩ := id X
  refine MX.weaken (k_X11_fault x) (fun o h1 z => ?_)
  obtain ⟨ev, eh⟩ := z
  subst eh
  have f := xKp_rf h1
  have hM1 := hM
  have hpc : ∀ k, k < q.2.2.1 → ar 210 k = nI (q.2.2.2.2 k) ∧ q.2.2.2.2 k < 3 := fun k hk => by rw [← hM1.2.2.2.1 k hk]; exact hM1.2.2.1.2.2.1 k (by omega)
  obtain ⟨M1, rT1, qm1, hpM1, tM1, h12, ⟨k1, k2, k3⟩, ⟨k4, k5, k6, k18⟩, ⟨k36, h221⟩, k42, h224⟩ := id hM1
  refine ⟨_, ev, ⟨_, M1.o⟩, 0, 0, ?_, by omega, by omega⟩
  refine MX.weaken (k_X14_fault M1) (fun o2 h2 z => ?_)
  obtain ⟨ev, y, M2⟩ := z
  refine ⟨?_, tsz, ⟨rc, q, V, S, b, _, _, _, _, _, _, _, s, L, hP, ⟨_, _, _, _, _, _, _, _, _, _, X.lt (by rw [y.1]; exact Nat.le_refl _) (fun q hq => y.2 q (Or.inl hq)), wT, wK, hpf, hR, hfc, htp, hly, hwh⟩, ⟨_, _, _, _, _, _, _, _, hM1.up M2 y (fun k hk => upd_nq (by omega)) (fun _ _ => rfl) h12 k1 k2⟩, hs, (by rw [y.1, f.1]; exact h227), o9, ((y.2 226 (by omega)).trans (f.2 226 (by omega))).trans ho⟩, by omega, by omega⟩
  rw [ev, k3]
set_option maxRecDepth 100000 in
set_option maxHeartbeats 4000000 in
theorem p_where {G : xG} {h : xHp} {tsz : Nat} (I : LI h tsz) : Pr G mX11_where mX14_where 1 1 [] h tsz := by
  obtain ⟨rc, q, V, S, b, flt, whr, cn, ct, rn, rs, tr, s, L, hP, hX, ⟨g, w, nw, ar, twM, kwM, rf, pM, hM⟩, hs, h227, o9, ho⟩ := I
  obtain ⟨⟨hnt, hnk, hrc, htz, hcn, hrn⟩, hrl, hfo⟩ := id hP
  obtain ⟨tp, fc, lf, ra, kw, tw, pf, fr, cl, plc, X, wT, wK, hpf, hR, hfc, htp, hly, hwh⟩ := hX
  have c : cOk rc q.1 q.2.2.1 V pf q.2.2.2.2 lf L fr S := ⟨⟨hnt, hnk, hrc⟩, fun k hk => hpf k (by omega), fun r hr => (hrl r hr).1, fun r hr => (hrl r hr).2.2.1, hly.2.2.1, hly.1, hly.2.1, hR⟩
  have c2 : cOk2 rc q.2.2.1 V q.2.2.2.2 := fun r hr => (hrl r hr).2.2.2.1
  have hV : ∀ r, r < rc → okRl q.1 (V r) := fun r hr => (hrl r hr).1
  have hKK : ∀ r, r < rc → okK (V r) := fun r hr => (hrl r hr).2.1
  have hcv : ∀ r, r < rc → covR (V r) := fun r hr => cov_of (hrl r hr)
  have hsU : IsSt S V rc (uR (-1)) q.1 s := isst_cg hs (uR_m hrc)
  have hok := st_ok hnt hrl hfo hs
  have hpw := pw_of hrl hok
  have hsat : ∃ S9, Sat V rc S9 := ⟨L, hly.2.2.1⟩
  obtain ⟨ns9, f9, g9, hst9, x⟩ := id X
  refine MX.weaken (k_X11_where x) (fun o h1 z => ?_)
  obtain ⟨ev, eh⟩ := z
  subst eh
  have f := xKp_rf h1
  have hM1 := hM
  have hpc : ∀ k, k < q.2.2.1 → ar 210 k = nI (q.2.2.2.2 k) ∧ q.2.2.2.2 k < 3 := fun k hk => by rw [← hM1.2.2.2.1 k hk]; exact hM1.2.2.1.2.2.1 k (by omega)
  obtain ⟨M1, rT1, qm1, hpM1, tM1, h12, ⟨k1, k2, k3⟩, ⟨k4, k5, k6, k18⟩, ⟨k36, h221⟩, k42, h224⟩ := id hM1
  refine ⟨_, ev, ⟨_, M1.o⟩, 0, 0, ?_, by omega, by omega⟩
  refine MX.weaken (k_X14_where M1) (fun o2 h2 z => ?_)
  obtain ⟨ev, y, M2⟩ := z
  refine ⟨?_, tsz, ⟨rc, q, V, S, b, _, _, _, _, _, _, _, s, L, hP, ⟨_, _, _, _, _, _, _, _, _, _, X.lt (by rw [y.1]; exact Nat.le_refl _) (fun q hq => y.2 q (Or.inl hq)), wT, wK, hpf, hR, hfc, htp, hly, hwh⟩, ⟨_, _, _, _, _, _, _, _, hM1.up M2 y (fun k hk => upd_nq (by omega)) (fun _ _ => rfl) h12 k1 k2⟩, hs, (by rw [y.1, f.1]; exact h227), o9, ((y.2 226 (by omega)).trans (f.2 226 (by omega))).trans ho⟩, by omega, by omega⟩
  rw [ev, k2, hwh]
set_option maxRecDepth 100000 in
set_option maxHeartbeats 4000000 in
theorem p_trouble {G : xG} {h : xHp} {tsz : Nat} (I : LI h tsz) : Pr G mX11_trouble mX14_trouble 1 1 [] h tsz := by
  obtain ⟨rc, q, V, S, b, flt, whr, cn, ct, rn, rs, tr, s, L, hP, hX, ⟨g, w, nw, ar, twM, kwM, rf, pM, hM⟩, hs, h227, o9, ho⟩ := I
  obtain ⟨⟨hnt, hnk, hrc, htz, hcn, hrn⟩, hrl, hfo⟩ := id hP
  obtain ⟨tp, fc, lf, ra, kw, tw, pf, fr, cl, plc, X, wT, wK, hpf, hR, hfc, htp, hly, hwh⟩ := hX
  have c : cOk rc q.1 q.2.2.1 V pf q.2.2.2.2 lf L fr S := ⟨⟨hnt, hnk, hrc⟩, fun k hk => hpf k (by omega), fun r hr => (hrl r hr).1, fun r hr => (hrl r hr).2.2.1, hly.2.2.1, hly.1, hly.2.1, hR⟩
  have c2 : cOk2 rc q.2.2.1 V q.2.2.2.2 := fun r hr => (hrl r hr).2.2.2.1
  have hV : ∀ r, r < rc → okRl q.1 (V r) := fun r hr => (hrl r hr).1
  have hKK : ∀ r, r < rc → okK (V r) := fun r hr => (hrl r hr).2.1
  have hcv : ∀ r, r < rc → covR (V r) := fun r hr => cov_of (hrl r hr)
  have hsU : IsSt S V rc (uR (-1)) q.1 s := isst_cg hs (uR_m hrc)
  have hok := st_ok hnt hrl hfo hs
  have hpw := pw_of hrl hok
  have hsat : ∃ S9, Sat V rc S9 := ⟨L, hly.2.2.1⟩
  obtain ⟨ns9, f9, g9, hst9, x⟩ := id X
  refine MX.weaken (k_X11_trouble x) (fun o h1 z => ?_)
  obtain ⟨ev, eh⟩ := z
  subst eh
  have f := xKp_rf h1
  have hM1 := hM
  have hpc : ∀ k, k < q.2.2.1 → ar 210 k = nI (q.2.2.2.2 k) ∧ q.2.2.2.2 k < 3 := fun k hk => by rw [← hM1.2.2.2.1 k hk]; exact hM1.2.2.1.2.2.1 k (by omega)
  obtain ⟨M1, rT1, qm1, hpM1, tM1, h12, ⟨k1, k2, k3⟩, ⟨k4, k5, k6, k18⟩, ⟨k36, h221⟩, k42, h224⟩ := id hM1
  refine ⟨_, ev, ⟨_, M1.o⟩, 0, 0, ?_, by omega, by omega⟩
  refine MX.weaken (k_X14_trouble M1) (fun o2 h2 z => ?_)
  obtain ⟨ev, y, M2⟩ := z
  refine ⟨?_, tsz, ⟨rc, q, V, S, b, _, _, _, _, _, _, _, s, L, hP, ⟨_, _, _, _, _, _, _, _, _, _, X.lt (by rw [y.1]; exact Nat.le_refl _) (fun q hq => y.2 q (Or.inl hq)), wT, wK, hpf, hR, hfc, htp, hly, hwh⟩, ⟨_, _, _, _, _, _, _, _, hM1.up M2 y (fun k hk => upd_nq (by omega)) (fun _ _ => rfl) h12 k1 k2⟩, hs, (by rw [y.1, f.1]; exact h227), o9, ((y.2 226 (by omega)).trans (f.2 226 (by omega))).trans ho⟩, by omega, by omega⟩
  rw [ev, k1]
theorem jn_cg {n : Nat} {i : Int32} {f f' : Nat → Int32} (hn : n < 2 ^ 31) (h : ∀ k, k < n → f k = f' k) : jn n i f = jn n i f' := by
  unfold jn
  by_cases z : inR i n = true
  · rw [if_pos z, if_pos z]
    obtain ⟨j, hj, e⟩ := inR_of z hn
    rw [e, nI_clamp (by omega)]; exact h j hj
  · rw [if_neg z, if_neg z]
set_option maxRecDepth 100000 in
set_option maxHeartbeats 4000000 in
theorem p_because {G : xG} {h : xHp} {tsz : Nat} (I : LI h tsz) {a : Int32} : Pr G mX11_because mX14_because 1 1 [.int a] h tsz := by
  obtain ⟨rc, q, V, S, b, flt, whr, cn, ct, rn, rs, tr, s, L, hP, hX, ⟨g, w, nw, ar, twM, kwM, rf, pM, hM⟩, hs, h227, o9, ho⟩ := I
  obtain ⟨⟨hnt, hnk, hrc, htz, hcn, hrn⟩, hrl, hfo⟩ := id hP
  obtain ⟨tp, fc, lf, ra, kw, tw, pf, fr, cl, plc, X, wT, wK, hpf, hR, hfc, htp, hly, hwh⟩ := hX
  have c : cOk rc q.1 q.2.2.1 V pf q.2.2.2.2 lf L fr S := ⟨⟨hnt, hnk, hrc⟩, fun k hk => hpf k (by omega), fun r hr => (hrl r hr).1, fun r hr => (hrl r hr).2.2.1, hly.2.2.1, hly.1, hly.2.1, hR⟩
  have c2 : cOk2 rc q.2.2.1 V q.2.2.2.2 := fun r hr => (hrl r hr).2.2.2.1
  have hV : ∀ r, r < rc → okRl q.1 (V r) := fun r hr => (hrl r hr).1
  have hKK : ∀ r, r < rc → okK (V r) := fun r hr => (hrl r hr).2.1
  have hcv : ∀ r, r < rc → covR (V r) := fun r hr => cov_of (hrl r hr)
  have hsU : IsSt S V rc (uR (-1)) q.1 s := isst_cg hs (uR_m hrc)
  have hok := st_ok hnt hrl hfo hs
  have hpw := pw_of hrl hok
  have hsat : ∃ S9, Sat V rc S9 := ⟨L, hly.2.2.1⟩
  obtain ⟨ns9, f9, g9, hst9, x⟩ := id X
  refine MX.weaken (k_X11_because x hrn) (fun o h1 z => ?_)
  obtain ⟨ev, eh⟩ := z
  subst eh
  have f := xKp_rf h1
  have hM1 := hM
  have hpc : ∀ k, k < q.2.2.1 → ar 210 k = nI (q.2.2.2.2 k) ∧ q.2.2.2.2 k < 3 := fun k hk => by rw [← hM1.2.2.2.1 k hk]; exact hM1.2.2.1.2.2.1 k (by omega)
  obtain ⟨M1, rT1, qm1, hpM1, tM1, h12, ⟨k1, k2, k3⟩, ⟨k4, k5, k6, k18⟩, ⟨k36, h221⟩, k42, h224⟩ := id hM1
  refine ⟨_, ev, ⟨_, M1.o⟩, 0, 0, ?_, by omega, by omega⟩
  refine MX.weaken (k_X14_because M1 k36 hrn) (fun o2 h2 z => ?_)
  obtain ⟨ev, y, M2⟩ := z
  refine ⟨?_, tsz, ⟨rc, q, V, S, b, _, _, _, _, _, _, _, s, L, hP, ⟨_, _, _, _, _, _, _, _, _, _, X.lt (by rw [y.1]; exact Nat.le_refl _) (fun q hq => y.2 q (Or.inl hq)), wT, wK, hpf, hR, hfc, htp, hly, hwh⟩, ⟨_, _, _, _, _, _, _, _, hM1.up M2 y (fun k hk => upd_nq (by omega)) (fun _ _ => rfl) h12 k1 k2⟩, hs, (by rw [y.1, f.1]; exact h227), o9, ((y.2 226 (by omega)).trans (f.2 226 (by omega))).trans ho⟩, by omega, by omega⟩
  rw [ev, jn_cg (by omega) h221]
set_option maxRecDepth 100000 in
set_option maxHeartbeats 4000000 in
theorem p_gone {G : xG} {h : xHp} {tsz : Nat} (I : LI h tsz) {a : Int32} : Pr G mX11_gone mX14_gone 1 1 [.int a] h tsz := by
  obtain ⟨rc, q, V, S, b, flt, whr, cn, ct, rn, rs, tr, s, L, hP, hX, ⟨g, w, nw, ar, twM, kwM, rf, pM, hM⟩, hs, h227, o9, ho⟩ := I
  obtain ⟨⟨hnt, hnk, hrc, htz, hcn, hrn⟩, hrl, hfo⟩ := id hP
  obtain ⟨tp, fc, lf, ra, kw, tw, pf, fr, cl, plc, X, wT, wK, hpf, hR, hfc, htp, hly, hwh⟩ := hX
  have c : cOk rc q.1 q.2.2.1 V pf q.2.2.2.2 lf L fr S := ⟨⟨hnt, hnk, hrc⟩, fun k hk => hpf k (by omega), fun r hr => (hrl r hr).1, fun r hr => (hrl r hr).2.2.1, hly.2.2.1, hly.1, hly.2.1, hR⟩
  have c2 : cOk2 rc q.2.2.1 V q.2.2.2.2 := fun r hr => (hrl r hr).2.2.2.1
  have hV : ∀ r, r < rc → okRl q.1 (V r) := fun r hr => (hrl r hr).1
  have hKK : ∀ r, r < rc → okK (V r) := fun r hr => (hrl r hr).2.1
  have hcv : ∀ r, r < rc → covR (V r) := fun r hr => cov_of (hrl r hr)
  have hsU : IsSt S V rc (uR (-1)) q.1 s := isst_cg hs (uR_m hrc)
  have hok := st_ok hnt hrl hfo hs
  have hpw := pw_of hrl hok
  have hsat : ∃ S9, Sat V rc S9 := ⟨L, hly.2.2.1⟩
  obtain ⟨ns9, f9, g9, hst9, x⟩ := id X
  refine MX.weaken (k_X11_gone x hcn) (fun o h1 z => ?_)
  obtain ⟨ev, eh⟩ := z
  subst eh
  have f := xKp_rf h1
  have hM1 := hM
  have hpc : ∀ k, k < q.2.2.1 → ar 210 k = nI (q.2.2.2.2 k) ∧ q.2.2.2.2 k < 3 := fun k hk => by rw [← hM1.2.2.2.1 k hk]; exact hM1.2.2.1.2.2.1 k (by omega)
  obtain ⟨M1, rT1, qm1, hpM1, tM1, h12, ⟨k1, k2, k3⟩, ⟨k4, k5, k6, k18⟩, ⟨k36, h221⟩, k42, h224⟩ := id hM1
  refine ⟨_, ev, ⟨_, M1.o⟩, 0, 0, ?_, by omega, by omega⟩
  refine MX.weaken (k_X14_gone M1 k42 hcn) (fun o2 h2 z => ?_)
  obtain ⟨ev, y, M2⟩ := z
  refine ⟨?_, tsz, ⟨rc, q, V, S, b, _, _, _, _, _, _, _, s, L, hP, ⟨_, _, _, _, _, _, _, _, _, _, X.lt (by rw [y.1]; exact Nat.le_refl _) (fun q hq => y.2 q (Or.inl hq)), wT, wK, hpf, hR, hfc, htp, hly, hwh⟩, ⟨_, _, _, _, _, _, _, _, hM1.up M2 y (fun k hk => upd_nq (by omega)) (fun _ _ => rfl) h12 k1 k2⟩, hs, (by rw [y.1, f.1]; exact h227), o9, ((y.2 226 (by omega)).trans (f.2 226 (by omega))).trans ho⟩, by omega, by omega⟩
  rw [ev, jn_cg (by omega) h224]
set_option maxRecDepth 100000 in
set_option maxHeartbeats 4000000 in
theorem p_places {G : xG} {h : xHp} {tsz : Nat} (I : LI h tsz) {a : Int32} : Pr G mX11_places mX14_places 2 2 [.int a] h tsz := by
  obtain ⟨rc, q, V, S, b, flt, whr, cn, ct, rn, rs, tr, s, L, hP, hX, ⟨g, w, nw, ar, twM, kwM, rf, pM, hM⟩, hs, h227, o9, ho⟩ := I
  obtain ⟨⟨hnt, hnk, hrc, htz, hcn, hrn⟩, hrl, hfo⟩ := id hP
  obtain ⟨tp, fc, lf, ra, kw, tw, pf, fr, cl, plc, X, wT, wK, hpf, hR, hfc, htp, hly, hwh⟩ := hX
  have c : cOk rc q.1 q.2.2.1 V pf q.2.2.2.2 lf L fr S := ⟨⟨hnt, hnk, hrc⟩, fun k hk => hpf k (by omega), fun r hr => (hrl r hr).1, fun r hr => (hrl r hr).2.2.1, hly.2.2.1, hly.1, hly.2.1, hR⟩
  have c2 : cOk2 rc q.2.2.1 V q.2.2.2.2 := fun r hr => (hrl r hr).2.2.2.1
  have hV : ∀ r, r < rc → okRl q.1 (V r) := fun r hr => (hrl r hr).1
  have hKK : ∀ r, r < rc → okK (V r) := fun r hr => (hrl r hr).2.1
  have hcv : ∀ r, r < rc → covR (V r) := fun r hr => cov_of (hrl r hr)
  have hsU : IsSt S V rc (uR (-1)) q.1 s := isst_cg hs (uR_m hrc)
  have hok := st_ok hnt hrl hfo hs
  have hpw := pw_of hrl hok
  have hsat : ∃ S9, Sat V rc S9 := ⟨L, hly.2.2.1⟩
  obtain ⟨ns9, f9, g9, hst9, x⟩ := id X
  refine MX.weaken (k_X11_places x hnk) (fun o h1 z => ?_)
  obtain ⟨ev, eh⟩ := z
  subst eh
  have f := xKp_rf h1
  have hM1 := hM
  have hpc : ∀ k, k < q.2.2.1 → ar 210 k = nI (q.2.2.2.2 k) ∧ q.2.2.2.2 k < 3 := fun k hk => by rw [← hM1.2.2.2.1 k hk]; exact hM1.2.2.1.2.2.1 k (by omega)
  obtain ⟨M1, rT1, qm1, hpM1, tM1, h12, ⟨k1, k2, k3⟩, ⟨k4, k5, k6, k18⟩, ⟨k36, h221⟩, k42, h224⟩ := id hM1
  refine ⟨_, ev, ⟨_, M1.o⟩, 0, 0, ?_, by omega, by omega⟩
  refine MX.weaken (k_X14_places M1 k5 hnk) (fun o2 h2 z => ?_)
  obtain ⟨ev, y, M2⟩ := z
  refine ⟨?_, tsz, ⟨rc, q, V, S, b, _, _, _, _, _, _, _, s, L, hP, ⟨_, _, _, _, _, _, _, _, _, _, X.lt (by rw [y.1]; exact Nat.le_refl _) (fun q hq => y.2 q (Or.inl hq)), wT, wK, hpf, hR, hfc, htp, hly, hwh⟩, ⟨_, _, _, _, _, _, _, _, hM1.up M2 y (fun k hk => upd_nq (by omega)) (fun _ _ => rfl) h12 k1 k2⟩, hs, (by rw [y.1, f.1]; exact h227), o9, ((y.2 226 (by omega)).trans (f.2 226 (by omega))).trans ho⟩, by omega, by omega⟩
  rw [ev, jn_cg (by omega) (fun k hk => (hpc k hk).1.trans (hpf k (by omega)).1.symm)]
set_option maxRecDepth 100000 in
set_option maxHeartbeats 4000000 in
theorem p_count {G : xG} {h : xHp} {tsz : Nat} (I : LI h tsz) {a : Int32} : Pr G mX11_count mX14_count 2 2 [.int a] h tsz := by
  obtain ⟨rc, q, V, S, b, flt, whr, cn, ct, rn, rs, tr, s, L, hP, hX, ⟨g, w, nw, ar, twM, kwM, rf, pM, hM⟩, hs, h227, o9, ho⟩ := I
  obtain ⟨⟨hnt, hnk, hrc, htz, hcn, hrn⟩, hrl, hfo⟩ := id hP
  obtain ⟨tp, fc, lf, ra, kw, tw, pf, fr, cl, plc, X, wT, wK, hpf, hR, hfc, htp, hly, hwh⟩ := hX
  have c : cOk rc q.1 q.2.2.1 V pf q.2.2.2.2 lf L fr S := ⟨⟨hnt, hnk, hrc⟩, fun k hk => hpf k (by omega), fun r hr => (hrl r hr).1, fun r hr => (hrl r hr).2.2.1, hly.2.2.1, hly.1, hly.2.1, hR⟩
  have c2 : cOk2 rc q.2.2.1 V q.2.2.2.2 := fun r hr => (hrl r hr).2.2.2.1
  have hV : ∀ r, r < rc → okRl q.1 (V r) := fun r hr => (hrl r hr).1
  have hKK : ∀ r, r < rc → okK (V r) := fun r hr => (hrl r hr).2.1
  have hcv : ∀ r, r < rc → covR (V r) := fun r hr => cov_of (hrl r hr)
  have hsU : IsSt S V rc (uR (-1)) q.1 s := isst_cg hs (uR_m hrc)
  have hok := st_ok hnt hrl hfo hs
  have hpw := pw_of hrl hok
  have hsat : ∃ S9, Sat V rc S9 := ⟨L, hly.2.2.1⟩
  obtain ⟨ns9, f9, g9, hst9, x⟩ := id X
  refine MX.weaken (k_X11_count x hly.1 hly.2.1 hnk) (fun o h1 z => ?_)
  obtain ⟨ev, eh⟩ := z
  subst eh
  have f := xKp_rf h1
  have hM1 := hM
  have hpc : ∀ k, k < q.2.2.1 → ar 210 k = nI (q.2.2.2.2 k) ∧ q.2.2.2.2 k < 3 := fun k hk => by rw [← hM1.2.2.2.1 k hk]; exact hM1.2.2.1.2.2.1 k (by omega)
  obtain ⟨M1, rT1, qm1, hpM1, tM1, h12, ⟨k1, k2, k3⟩, ⟨k4, k5, k6, k18⟩, ⟨k36, h221⟩, k42, h224⟩ := id hM1
  refine ⟨_, ev, ⟨_, M1.o⟩, 0, 0, ?_, by omega, by omega⟩
  refine MX.weaken (k_X14_count M1 hrc k6 k4 k5 k18 hnk rT1 hKK h12 hly) (fun o2 h2 z => ?_)
  obtain ⟨r, ev, y, ⟨ar2, M2, ak2⟩, er⟩ := z
  refine ⟨?_, tsz, ⟨rc, q, V, S, b, _, _, _, _, _, _, _, s, L, hP, ⟨_, _, _, _, _, _, _, _, _, _, X.lt (by rw [y.1]; exact Nat.le_refl _) (fun q hq => y.2 q (Or.inl hq)), wT, wK, hpf, hR, hfc, htp, hly, hwh⟩, ⟨_, _, _, _, _, _, _, _, hM1.up M2 y (fun k hk => upd_nq (by omega)) (fun c hc => ak2 c (by omega)) (fun j hj => (congrFun (ak2 212 (by decide)) j).trans (h12 j hj)) k1 k2⟩, hs, (by rw [y.1, f.1]; exact h227), o9, ((y.2 226 (by omega)).trans (f.2 226 (by omega))).trans ho⟩, by omega, by omega⟩
  rw [ev, er, hfc]
theorem atQ_eq {nk nt : Nat} {pc : Nat → Nat} {kd fs sc r r' : Int32} (hnk : nk ≤ 10) (hnt : nt ≤ 10) (h : atQ nk nt pc kd fs sc r) (h' : atQ nk nt pc kd fs sc r') : r = r' := by
  rcases h with ⟨k, a, b, ⟨a1, a2, a3, a4, a5, a6, a7⟩, e⟩ | ⟨n, e⟩ <;> rcases h' with ⟨k', a', b', ⟨b1, b2, b3, b4, b5, b6, b7⟩, e'⟩ | ⟨n', e'⟩
  · have q1 : k = k' := (nI_eq (by omega) (by omega)).mp (a2.symm.trans b2)
    have q2 : a = a' := (nI_eq a3 b3).mp (a4.symm.trans b4)
    have q3 : b = b' := (nI_eq a5 b5).mp (a6.symm.trans b6)
    rw [e, e', q1, q2, q3]
  · exact absurd ⟨k, a, b, a1, a2, a3, a4, a5, a6, a7⟩ n'
  · exact absurd ⟨k', a', b', b1, b2, b3, b4, b5, b6, b7⟩ n
  · rw [e, e']
set_option maxRecDepth 100000 in
set_option maxHeartbeats 4000000 in
theorem p_atom {G : xG} {h : xHp} {tsz : Nat} (I : LI h tsz) {a a2 a3 : Int32} : Pr G mX11_atom mX14_atom 2 2 [.int a, .int a2, .int a3] h tsz := by
  obtain ⟨rc, q, V, S, b, flt, whr, cn, ct, rn, rs, tr, s, L, hP, hX, ⟨g, w, nw, ar, twM, kwM, rf, pM, hM⟩, hs, h227, o9, ho⟩ := I
  obtain ⟨⟨hnt, hnk, hrc, htz, hcn, hrn⟩, hrl, hfo⟩ := id hP
  obtain ⟨tp, fc, lf, ra, kw, tw, pf, fr, cl, plc, X, wT, wK, hpf, hR, hfc, htp, hly, hwh⟩ := hX
  have c : cOk rc q.1 q.2.2.1 V pf q.2.2.2.2 lf L fr S := ⟨⟨hnt, hnk, hrc⟩, fun k hk => hpf k (by omega), fun r hr => (hrl r hr).1, fun r hr => (hrl r hr).2.2.1, hly.2.2.1, hly.1, hly.2.1, hR⟩
  have c2 : cOk2 rc q.2.2.1 V q.2.2.2.2 := fun r hr => (hrl r hr).2.2.2.1
  have hV : ∀ r, r < rc → okRl q.1 (V r) := fun r hr => (hrl r hr).1
  have hKK : ∀ r, r < rc → okK (V r) := fun r hr => (hrl r hr).2.1
  have hcv : ∀ r, r < rc → covR (V r) := fun r hr => cov_of (hrl r hr)
  have hsU : IsSt S V rc (uR (-1)) q.1 s := isst_cg hs (uR_m hrc)
  have hok := st_ok hnt hrl hfo hs
  have hpw := pw_of hrl hok
  have hsat : ∃ S9, Sat V rc S9 := ⟨L, hly.2.2.1⟩
  obtain ⟨ns9, f9, g9, hst9, x⟩ := id X
  refine MX.weaken (k_X11_atom x (pc := q.2.2.2.2) (fun k hk => hpf k (by omega)) hnk hnt) (fun o h1 z => ?_)
  obtain ⟨r, ev, eh, hr⟩ := z
  subst eh
  have f := xKp_rf h1
  have hM1 := hM
  have hpc : ∀ k, k < q.2.2.1 → ar 210 k = nI (q.2.2.2.2 k) ∧ q.2.2.2.2 k < 3 := fun k hk => by rw [← hM1.2.2.2.1 k hk]; exact hM1.2.2.1.2.2.1 k (by omega)
  obtain ⟨M1, rT1, qm1, hpM1, tM1, h12, ⟨k1, k2, k3⟩, ⟨k4, k5, k6, k18⟩, ⟨k36, h221⟩, k42, h224⟩ := id hM1
  refine ⟨r, ev, ⟨_, M1.o⟩, 0, 0, ?_, by omega, by omega⟩
  refine MX.weaken (k_X14_atom M1 k4 k5 hnk hnt hpc) (fun o2 h2 z => ?_)
  obtain ⟨r2, ev2, y, M2, hr2⟩ := z
  refine ⟨?_, tsz, ⟨rc, q, V, S, b, _, _, _, _, _, _, _, s, L, hP, ⟨_, _, _, _, _, _, _, _, _, _, X.lt (by rw [y.1]; exact Nat.le_refl _) (fun q hq => y.2 q (Or.inl hq)), wT, wK, hpf, hR, hfc, htp, hly, hwh⟩, ⟨_, _, _, _, _, _, _, _, hM1.up M2 y (fun k hk => upd_nq (by omega)) (fun _ _ => rfl) h12 k1 k2⟩, hs, (by rw [y.1, f.1]; exact h227), o9, ((y.2 226 (by omega)).trans (f.2 226 (by omega))).trans ho⟩, by omega, by omega⟩
  rw [ev2, ← atQ_eq hnk hnt hr hr2]
theorem tmS_eq {V : Nat → RV} {rc : Nat} {k i w r r' : Int32} (hrc : rc ≤ 20) (hz : ∀ r, r < rc → (V r).2.2.1 ≤ 4) (h : (∃ ρ j, tmS V rc k i ρ j ∧ r = tmW ((V ρ).2.1 j) w) ∨ ((¬ ∃ ρ j, tmS V rc k i ρ j) ∧ r = -1)) (h' : (∃ ρ j, tmS V rc k i ρ j ∧ r' = tmW ((V ρ).2.1 j) w) ∨ ((¬ ∃ ρ j, tmS V rc k i ρ j) ∧ r' = -1)) : r = r' := by
  rcases h with ⟨ρ, j, ⟨a1, a2, a3, a4⟩, e⟩ | ⟨n, e⟩ <;> rcases h' with ⟨ρ', j', ⟨b1, b2, b3, b4⟩, e'⟩ | ⟨n', e'⟩
  · have := hz ρ a1
    have := hz ρ' b1
    have q1 : ρ = ρ' := (nI_eq (by omega) (by omega)).mp (a2.symm.trans b2)
    have q2 : j = j' := (nI_eq (by omega) (by omega)).mp (a4.symm.trans b4)
    rw [e, e', q1, q2]
  · exact absurd ⟨ρ, j, a1, a2, a3, a4⟩ n'
  · exact absurd ⟨ρ', j', b1, b2, b3, b4⟩ n
  · rw [e, e']
set_option maxRecDepth 100000 in
set_option maxHeartbeats 4000000 in
theorem p_term {G : xG} {h : xHp} {tsz : Nat} (I : LI h tsz) {a a2 a3 : Int32} : Pr G mX11_term mX14_term 2 2 [.int a, .int a2, .int a3] h tsz := by
  obtain ⟨rc, q, V, S, b, flt, whr, cn, ct, rn, rs, tr, s, L, hP, hX, ⟨g, w, nw, ar, twM, kwM, rf, pM, hM⟩, hs, h227, o9, ho⟩ := I
  obtain ⟨⟨hnt, hnk, hrc, htz, hcn, hrn⟩, hrl, hfo⟩ := id hP
  obtain ⟨tp, fc, lf, ra, kw, tw, pf, fr, cl, plc, X, wT, wK, hpf, hR, hfc, htp, hly, hwh⟩ := hX
  have c : cOk rc q.1 q.2.2.1 V pf q.2.2.2.2 lf L fr S := ⟨⟨hnt, hnk, hrc⟩, fun k hk => hpf k (by omega), fun r hr => (hrl r hr).1, fun r hr => (hrl r hr).2.2.1, hly.2.2.1, hly.1, hly.2.1, hR⟩
  have c2 : cOk2 rc q.2.2.1 V q.2.2.2.2 := fun r hr => (hrl r hr).2.2.2.1
  have hV : ∀ r, r < rc → okRl q.1 (V r) := fun r hr => (hrl r hr).1
  have hKK : ∀ r, r < rc → okK (V r) := fun r hr => (hrl r hr).2.1
  have hcv : ∀ r, r < rc → covR (V r) := fun r hr => cov_of (hrl r hr)
  have hsU : IsSt S V rc (uR (-1)) q.1 s := isst_cg hs (uR_m hrc)
  have hok := st_ok hnt hrl hfo hs
  have hpw := pw_of hrl hok
  have hsat : ∃ S9, Sat V rc S9 := ⟨L, hly.2.2.1⟩
  refine MX.weaken (k_X11_term X c) (fun o h1 z => ?_)
  obtain ⟨r, ev, eh, hr⟩ := z
  subst eh
  have f := xKp_rf h1
  have hM1 := hM
  have hpc : ∀ k, k < q.2.2.1 → ar 210 k = nI (q.2.2.2.2 k) ∧ q.2.2.2.2 k < 3 := fun k hk => by rw [← hM1.2.2.2.1 k hk]; exact hM1.2.2.1.2.2.1 k (by omega)
  obtain ⟨M1, rT1, qm1, hpM1, tM1, h12, ⟨k1, k2, k3⟩, ⟨k4, k5, k6, k18⟩, ⟨k36, h221⟩, k42, h224⟩ := id hM1
  refine ⟨r, ev, ⟨_, M1.o⟩, 0, 0, ?_, by omega, by omega⟩
  refine MX.weaken (k_X14_term M1 hrc k6 rT1 (fun r hr => (hV r hr).1)) (fun o2 h2 z => ?_)
  obtain ⟨r2, ev2, y, M2, hr2⟩ := z
  refine ⟨?_, tsz, ⟨rc, q, V, S, b, _, _, _, _, _, _, _, s, L, hP, ⟨_, _, _, _, _, _, _, _, _, _, X.lt (by rw [y.1]; exact Nat.le_refl _) (fun q hq => y.2 q (Or.inl hq)), wT, wK, hpf, hR, hfc, htp, hly, hwh⟩, ⟨_, _, _, _, _, _, _, _, hM1.up M2 y (fun k hk => upd_nq (by omega)) (fun _ _ => rfl) h12 k1 k2⟩, hs, (by rw [y.1, f.1]; exact h227), o9, ((y.2 226 (by omega)).trans (f.2 226 (by omega))).trans ho⟩, by omega, by omega⟩
  rw [ev2, ← tmS_eq hrc (fun r hr => (hV r hr).1) hr hr2]
set_option maxRecDepth 100000 in
set_option maxHeartbeats 4000000 in
theorem p_layer {G : xG} {h : xHp} {tsz : Nat} (I : LI h tsz) {a : Int32} : Pr G mX11_layer mX14_layer 2 2 [.int a] h tsz := by
  obtain ⟨rc, q, V, S, b, flt, whr, cn, ct, rn, rs, tr, s, L, hP, hX, ⟨g, w, nw, ar, twM, kwM, rf, pM, hM⟩, hs, h227, o9, ho⟩ := I
  obtain ⟨⟨hnt, hnk, hrc, htz, hcn, hrn⟩, hrl, hfo⟩ := id hP
  obtain ⟨tp, fc, lf, ra, kw, tw, pf, fr, cl, plc, X, wT, wK, hpf, hR, hfc, htp, hly, hwh⟩ := hX
  have c : cOk rc q.1 q.2.2.1 V pf q.2.2.2.2 lf L fr S := ⟨⟨hnt, hnk, hrc⟩, fun k hk => hpf k (by omega), fun r hr => (hrl r hr).1, fun r hr => (hrl r hr).2.2.1, hly.2.2.1, hly.1, hly.2.1, hR⟩
  have c2 : cOk2 rc q.2.2.1 V q.2.2.2.2 := fun r hr => (hrl r hr).2.2.2.1
  have hV : ∀ r, r < rc → okRl q.1 (V r) := fun r hr => (hrl r hr).1
  have hKK : ∀ r, r < rc → okK (V r) := fun r hr => (hrl r hr).2.1
  have hcv : ∀ r, r < rc → covR (V r) := fun r hr => cov_of (hrl r hr)
  have hsU : IsSt S V rc (uR (-1)) q.1 s := isst_cg hs (uR_m hrc)
  have hok := st_ok hnt hrl hfo hs
  have hpw := pw_of hrl hok
  have hsat : ∃ S9, Sat V rc S9 := ⟨L, hly.2.2.1⟩
  obtain ⟨ns9, f9, g9, hst9, x⟩ := id X
  refine MX.weaken (k_X11_layer x hnk) (fun o h1 z => ?_)
  obtain ⟨ev, eh⟩ := z
  subst eh
  have f := xKp_rf h1
  have hM1 := hM
  have hpc : ∀ k, k < q.2.2.1 → ar 210 k = nI (q.2.2.2.2 k) ∧ q.2.2.2.2 k < 3 := fun k hk => by rw [← hM1.2.2.2.1 k hk]; exact hM1.2.2.1.2.2.1 k (by omega)
  obtain ⟨M1, rT1, qm1, hpM1, tM1, h12, ⟨k1, k2, k3⟩, ⟨k4, k5, k6, k18⟩, ⟨k36, h221⟩, k42, h224⟩ := id hM1
  refine ⟨_, ev, ⟨_, M1.o⟩, 0, 0, ?_, by omega, by omega⟩
  refine MX.weaken (k_X14_layer M1 hrc k6 k5 hnk rT1 hKK hsat) (fun o2 h2 z => ?_)
  rcases z with ⟨hin, ev2, y, M2⟩ | ⟨lf9, L9, j, hj, ek, hl9, ev2, y, M2⟩
  · refine ⟨?_, tsz, ⟨rc, q, V, S, b, _, _, _, _, _, _, _, s, L, hP, ⟨_, _, _, _, _, _, _, _, _, _, X.lt (by rw [y.1]; exact Nat.le_refl _) (fun q hq => y.2 q (Or.inl hq)), wT, wK, hpf, hR, hfc, htp, hly, hwh⟩, ⟨_, _, _, _, _, _, _, _, hM1.up M2 y (fun k hk => upd_nq (by omega)) (fun _ _ => rfl) h12 k1 k2⟩, hs, (by rw [y.1, f.1]; exact h227), o9, ((y.2 226 (by omega)).trans (f.2 226 (by omega))).trans ho⟩, by omega, by omega⟩
    rw [ev2]; unfold jn; rw [if_neg (by rw [hin]; decide)]
  · refine ⟨?_, tsz, ⟨rc, q, V, S, b, _, _, _, _, _, _, _, s, L, hP, ⟨_, _, _, _, _, _, _, _, _, _, X.lt (by rw [y.1]; exact Nat.le_refl _) (fun q hq => y.2 q (Or.inl hq)), wT, wK, hpf, hR, hfc, htp, hly, hwh⟩, ⟨_, _, _, _, _, _, _, _, hM1.up M2 y (fun k hk => upd_nq (by omega)) (fun c hc => apF_ne (by omega)) (fun j hj => (congrFun (apF_ne (by decide)) j).trans (h12 j hj)) k1 k2⟩, hs, (by rw [y.1, f.1]; exact h227), o9, ((y.2 226 (by omega)).trans (f.2 226 (by omega))).trans ho⟩, by omega, by omega⟩
    rw [ev2]; unfold jn; rw [ek, if_pos (by rw [inR_nI (by omega) (by omega)]; simpa using hj), nI_clamp (by omega), hly.1 j (by omega), ly_uq hly hl9 j (by omega)]
