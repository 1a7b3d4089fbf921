/-! the law: fact, drop, feed -/
theorem LMp.upS {h h' : xHp} {tsz : Nat} {rc : Nat} {q : PQ} {V : Nat → RV} {S : Nat → Bool} {b : Nat → Nat} {flt : Int32} {whr : Int32} {cn : Nat} {ct : Nat → Int32} {rn : Nat} {rs : Nat → Int32} {tr : Int32} {g : Nat → Int32} {w : Int64} {nw : Value} {ar : Nat → Nat → Int32} {twM : Nat → Int64} {kwM : Nat → Int64} {rf : Nat → Option Nat} {pM : Nat → Nat} (M : LMp h tsz rc q V S b flt whr cn ct rn rs tr g w nw ar twM kwM rf pM) {g' : Nat → Int32} {ar' : Nat → Nat → Int32} {tr' whr' : Int32} {S' : Nat → Bool} (M' : MH h' g' w nw ar' twM kwM rf) (y : yfr h h') (hg : ∀ k, (k = 3 ∨ k = 4 ∨ k = 5 ∨ k = 6 ∨ k = 18 ∨ k = 36 ∨ k = 42) → g' k = g k) (ha : ∀ c, (c = 208 ∨ c = 209 ∨ c = 210 ∨ c = 216 ∨ c = 221 ∨ c = 224) → ar' c = ar c) (h12 : ∀ j, j < 1000 → ar' 212 j = bi (S' j)) (k1 : g' 1 = tr') (k2 : g' 2 = whr') : LMp h' tsz rc q V S' b flt whr' cn ct rn rs tr' g' w nw ar' twM kwM rf pM := by
  obtain ⟨m1, m2, m3, m4, m5, m6, ⟨m7, m8, m9⟩, ⟨n1, n2, n3, n4⟩, ⟨o1, o2⟩, p1, p2⟩ := M
  refine ⟨M', m2.y y, ?_, m4, ?_, h12, ⟨k1, k2, (hg 3 (by omega)).trans m9⟩, ⟨(hg 4 (by omega)).trans n1, (hg 5 (by omega)).trans n2, (hg 6 (by omega)).trans n3, (hg 18 (by omega)).trans n4⟩, ⟨(hg 36 (by omega)).trans o1, fun i hi => (congrFun (ha 221 (by omega)) i).trans (o2 i hi)⟩, (hg 42 (by omega)).trans p1, fun i hi => (congrFun (ha 224 (by omega)) i).trans (p2 i hi)⟩
  · unfold qM; rw [ha 208 (by omega), ha 209 (by omega), ha 210 (by omega)]; exact m3
  · unfold tpM; rw [ha 216 (by omega)]; exact m5
theorem fb_flip9 {S : Nat → Bool} {n : Nat} {v : Bool} (hn : n < 1000) (h : S n = !v) : nI (fb_ct S 1000) + (if v = true then 1 else -1) = nI (fb_ct (flipS S n) 1000) := by
  have h1 := fb_ct_upd S v hn (n := 1000)
  have h2 : fb_ct (flipS S n) 1000 = fb_ct (fun k => if k = n then v else S k) 1000 := fb_ct_cong (fun k hk => by
    unfold flipS
    by_cases z : k = n
    · rw [if_pos z, if_pos z, z, h]; cases v <;> rfl
    · rw [if_neg z, if_neg z])
  have h3 := fb_ct_le S 1000
  rw [h] at h1
  rw [h2]
  generalize fb_ct (fun k => if k = n then v else S k) 1000 = A at h1 ⊢
  generalize fb_ct S 1000 = B at h1 h3 ⊢
  cases v with
  | true =>
    have h1 : A + 0 = B + 1 := h1
    rw [if_pos rfl, show A = B + 1 by omega]; exact nI_add _ 1
  | false =>
    have h1 : A + 1 = B + 0 := h1
    rw [if_neg (by decide), nI_sub1 (by omega) (by omega), show B - 1 = A by omega]
theorem up_same {f : Nat → Int32} {S : Nat → Bool} {n : Nat} {v : Bool} (h : ∀ j, j < 1000 → f j = bi (S j)) (e : S n = v) : ∀ j, j < 1000 → upd f n (bi v) j = bi (S j) := fun j hj => by
  by_cases z : j = n
  · rw [z, upd_at9, e]
  · rw [upd_nq z]; exact h j hj
set_option maxRecDepth 100000 in
set_option maxHeartbeats 4000000 in
theorem p_fact {G : xG} {h : xHp} {tsz : Nat} (I : LI h tsz) {a : Int32} {v : Bool} : Pr G mX11_fact mX14_fact 4 2 [.int a, .int (bi v)] h tsz := by
  obtain ⟨rc, q, V, S, b, flt, whr, cn, ct, rn, rs, tr, s, L, hP, hX, ⟨g, w, nw, ar, twM, kwM, rf, pM, hM⟩, hs, h227, o9, ho⟩ := I
  obtain ⟨⟨hnt, hnk, hrc, htz, hcn, hrn⟩, hrl, hfo⟩ := id hP
  obtain ⟨tp, fc, lf, ra, kw, tw, pf, fr, cl, plc, X, wT, wK, hpf, hR, hfc, htp, hly, hwh⟩ := hX
  have c : cOk rc q.1 q.2.2.1 V pf q.2.2.2.2 lf L fr S := ⟨⟨hnt, hnk, hrc⟩, fun k hk => hpf k (by omega), fun r hr => (hrl r hr).1, fun r hr => (hrl r hr).2.2.1, hly.2.2.1, hly.1, hly.2.1, hR⟩
  have c2 : cOk2 rc q.2.2.1 V q.2.2.2.2 := fun r hr => (hrl r hr).2.2.2.1
  have hV : ∀ r, r < rc → okRl q.1 (V r) := fun r hr => (hrl r hr).1
  have hKK : ∀ r, r < rc → okK (V r) := fun r hr => (hrl r hr).2.1
  have hcv : ∀ r, r < rc → covR (V r) := fun r hr => cov_of (hrl r hr)
  have hsU : IsSt S V rc (uR (-1)) q.1 s := isst_cg hs (uR_m hrc)
  have hok := st_ok hnt hrl hfo hs
  have hpw := pw_of hrl hok
  have hsat : ∃ S9, Sat V rc S9 := ⟨L, hly.2.2.1⟩
  obtain ⟨ns9, f9, g9, hst9, x⟩ := id X
  refine MX.weaken (k_X11_fact x (pc := q.2.2.2.2) (fun k hk => hpf k (by omega)) hnk hnt hR) (fun o h1 z => ?_)
  rcases z with ⟨z1, ev, f, x1⟩ | ⟨n, z1, z2, ⟨z3, ev, f, x1⟩ | ⟨z3, ev, f, x1⟩⟩
  · have hM1 := hM.x f
    have hpc : ∀ k, k < q.2.2.1 → ar 210 k = nI (q.2.2.2.2 k) ∧ q.2.2.2.2 k < 3 := fun k hk => by rw [← hM1.2.2.2.1 k hk]; exact hM1.2.2.1.2.2.1 k (by omega)
    obtain ⟨M1, rT1, qm1, hpM1, tM1, h12, ⟨k1, k2, k3⟩, ⟨k4, k5, k6, k18⟩, ⟨k36, h221⟩, k42, h224⟩ := id hM1
    have X1 := XT.of2 hst9 x1
    refine ⟨_, ev, ⟨_, M1.o⟩, 0, 0, ?_, by omega, by omega⟩
    refine MX.weaken (k_X14_fact M1 h12 k4 k5 hnk hnt hpc) (fun o2 h2 z => ?_)
    rcases z with ⟨y1, ev2, y, M2⟩ | ⟨n2, y1, y1b, ev2, y, M2⟩
    · refine ⟨?_, tsz, ⟨rc, q, V, S, b, _, _, _, _, _, _, _, s, L, hP, ⟨_, _, _, _, _, _, _, _, _, _, X1.lt (by rw [y.1]; exact Nat.le_refl _) (fun q hq => y.2 q (Or.inl hq)), wT, wK, hpf, hR, hfc, htp, hly, rfl⟩, ⟨_, _, _, _, _, _, _, _, hM1.up M2 y (fun k hk => (upd_nq (by omega)).trans ((upd_nq (by omega)).trans (upd_nq (by omega)))) (fun _ _ => rfl) h12 rfl rfl⟩, hs, (by rw [y.1, f.1]; exact h227), o9, ((y.2 226 (by omega)).trans (f.2 226 (by omega))).trans ho⟩, by omega, by omega⟩
      rw [ev2]
    · exact absurd ⟨n2, y1, by have := y1b.1; omega, y1b⟩ z1
  · have hM1 := hM.x f
    have hpc : ∀ k, k < q.2.2.1 → ar 210 k = nI (q.2.2.2.2 k) ∧ q.2.2.2.2 k < 3 := fun k hk => by rw [← hM1.2.2.2.1 k hk]; exact hM1.2.2.1.2.2.1 k (by omega)
    obtain ⟨M1, rT1, qm1, hpM1, tM1, h12, ⟨k1, k2, k3⟩, ⟨k4, k5, k6, k18⟩, ⟨k36, h221⟩, k42, h224⟩ := id hM1
    have X1 := XT.of2 hst9 x1
    refine ⟨_, ev, ⟨_, M1.o⟩, 0, 0, ?_, by omega, by omega⟩
    refine MX.weaken (k_X14_fact M1 h12 k4 k5 hnk hnt hpc) (fun o2 h2 z => ?_)
    rcases z with ⟨y1, ev2, y, M2⟩ | ⟨n2, y1, y1b, ev2, y, M2⟩
    · exact absurd ⟨n, z1, by have := z2.1; omega, z2⟩ y1
    · have hn9 : n < 1000 := by have := z2.1; omega
      have e2 : n = n2 := (nI_eq (by omega) (by have := y1b.1; omega)).mp (z1.symm.trans y1)
      subst e2
      refine ⟨?_, tsz, ⟨rc, q, V, S, b, _, _, _, _, _, _, _, s, L, hP, ⟨_, _, _, _, _, _, _, _, _, _, X1.lt (by rw [y.1]; exact Nat.le_refl _) (fun q hq => y.2 q (Or.inl hq)), wT, wK, hpf, hR, hfc, htp, hly, rfl⟩, ⟨_, _, _, _, _, _, _, _, hM1.upS M2 y (fun k hk => (upd_nq (by omega)).trans ((upd_nq (by omega)).trans (upd_nq (by omega)))) (fun c hc => apF_ne (by omega)) (fun j hj => (congrFun (apF_at _ _ _) j).trans (up_same h12 z3 j hj)) rfl rfl⟩, hs, (by rw [y.1, f.1]; exact h227), o9, ((y.2 226 (by omega)).trans (f.2 226 (by omega))).trans ho⟩, by omega, by omega⟩
      rw [ev2, if_pos z3]
  · have hM1 := hM.x f
    have hpc : ∀ k, k < q.2.2.1 → ar 210 k = nI (q.2.2.2.2 k) ∧ q.2.2.2.2 k < 3 := fun k hk => by rw [← hM1.2.2.2.1 k hk]; exact hM1.2.2.1.2.2.1 k (by omega)
    obtain ⟨M1, rT1, qm1, hpM1, tM1, h12, ⟨k1, k2, k3⟩, ⟨k4, k5, k6, k18⟩, ⟨k36, h221⟩, k42, h224⟩ := id hM1
    skip
    refine ⟨_, ev, ⟨_, M1.o⟩, 0, 0, ?_, by omega, by omega⟩
    refine MX.weaken (k_X14_fact M1 h12 k4 k5 hnk hnt hpc) (fun o2 h2 z => ?_)
    rcases z with ⟨y1, ev2, y, M2⟩ | ⟨n2, y1, y1b, ev2, y, M2⟩
    · exact absurd ⟨n, z1, by have := z2.1; omega, z2⟩ y1
    · have hn9 : n < 1000 := by have := z2.1; omega
      have e2 : n = n2 := (nI_eq (by omega) (by have := y1b.1; omega)).mp (z1.symm.trans y1)
      subst e2
      obtain ⟨s9, hs9⟩ := st_exists (F := flipS S n) (U := fun _ => true) hV hnt hly.2.2.1 hly.2.1
      have X1 := XT.of (ns := false) (s := s9) x1
      refine ⟨?_, tsz, ⟨rc, q, V, flipS S n, b, _, _, _, _, _, _, _, s9, L, ⟨⟨hnt, hnk, hrc, htz, hcn, hrn⟩, hrl, fOk_flip hfo z2⟩, ⟨_, _, _, _, _, _, _, _, _, _, X1.lt (by rw [y.1]; exact Nat.le_refl _) (fun q hq => y.2 q (Or.inl hq)), wT, wK, hpf, isRows_flip hR hn9, (by rw [hfc]; exact fb_flip9 hn9 z3), htp, hly, rfl⟩, ⟨_, _, _, _, _, _, _, _, hM1.upS M2 y (fun k hk => (upd_nq (by omega)).trans ((upd_nq (by omega)).trans (upd_nq (by omega)))) (fun c hc => apF_ne (by omega)) (fun j hj => (congrFun (apF_at _ _ _) j).trans (flip_to h12 (by rw [z3]; cases v <;> rfl) j hj)) rfl rfl⟩, hs9, (by rw [y.1, f.1]; exact h227), o9, ((y.2 226 (by omega)).trans (f.2 226 (by omega))).trans ho⟩, by omega, by omega⟩
      rw [ev2, if_neg (by rw [z3]; cases v <;> decide)]
set_option maxRecDepth 100000 in
set_option maxHeartbeats 4000000 in
theorem p_drop {G : xG} {h : xHp} {tsz : Nat} (I : LI h tsz) {a : Int32} : Pr G mX11_drop mX14_drop 4 2 [.int a] h tsz := by
  obtain ⟨rc, q, V, S, b, flt, whr, cn, ct, rn, rs, tr, s, L, hP, hX, ⟨g, w, nw, ar, twM, kwM, rf, pM, hM⟩, hs, h227, o9, ho⟩ := I
  obtain ⟨⟨hnt, hnk, hrc, htz, hcn, hrn⟩, hrl, hfo⟩ := id hP
  obtain ⟨tp, fc, lf, ra, kw, tw, pf, fr, cl, plc, X, wT, wK, hpf, hR, hfc, htp, hly, hwh⟩ := hX
  have c : cOk rc q.1 q.2.2.1 V pf q.2.2.2.2 lf L fr S := ⟨⟨hnt, hnk, hrc⟩, fun k hk => hpf k (by omega), fun r hr => (hrl r hr).1, fun r hr => (hrl r hr).2.2.1, hly.2.2.1, hly.1, hly.2.1, hR⟩
  have c2 : cOk2 rc q.2.2.1 V q.2.2.2.2 := fun r hr => (hrl r hr).2.2.2.1
  have hV : ∀ r, r < rc → okRl q.1 (V r) := fun r hr => (hrl r hr).1
  have hKK : ∀ r, r < rc → okK (V r) := fun r hr => (hrl r hr).2.1
  have hcv : ∀ r, r < rc → covR (V r) := fun r hr => cov_of (hrl r hr)
  have hsU : IsSt S V rc (uR (-1)) q.1 s := isst_cg hs (uR_m hrc)
  have hok := st_ok hnt hrl hfo hs
  have hpw := pw_of hrl hok
  have hsat : ∃ S9, Sat V rc S9 := ⟨L, hly.2.2.1⟩
  refine MX.weaken (k_X11_drop X c) (fun o h1 z => ?_)
  rcases z with ⟨ρ, z1, z2, ev, f, lf9, L9, q1, q2, q3, q4, X0⟩ | ⟨z1, ev, f, X1⟩
  · have hM1 := hM.x f
    have hpc : ∀ k, k < q.2.2.1 → ar 210 k = nI (q.2.2.2.2 k) ∧ q.2.2.2.2 k < 3 := fun k hk => by rw [← hM1.2.2.2.1 k hk]; exact hM1.2.2.1.2.2.1 k (by omega)
    obtain ⟨M1, rT1, qm1, hpM1, tM1, h12, ⟨k1, k2, k3⟩, ⟨k4, k5, k6, k18⟩, ⟨k36, h221⟩, k42, h224⟩ := id hM1
    refine ⟨_, ev, ⟨_, M1.o⟩, 0, 0, ?_, by omega, by omega⟩
    refine MX.weaken (k_X14_drop M1 hrc k6 rT1) (fun o2 h2 z => ?_)
    rcases z with ⟨y1, ev2, y, M2⟩ | ⟨ρ2, rf2, y1, y1b, ev2, y, M2, rT2⟩
    · exact absurd z2 (inR_f y1 (by omega) ρ z1)
    · have e2 : ρ = ρ2 := (nI_eq (by omega) (by omega)).mp (z2.symm.trans y1b)
      subst e2
      have hrl9 : ∀ r, r < rc - 1 → rlD q (rmv ρ rc V r) := fun r hr => by
        unfold rmv
        split
        · exact hrl r (by omega)
        · rw [if_pos (by omega)]; exact hrl (r + 1) (by omega)
      obtain ⟨s9, hs9⟩ := st_exists (F := S) (U := fun _ => true) (fun r hr => (hrl9 r hr).1) hnt q3 q2
      have X1 := X0 s9
      refine ⟨?_, tsz, ⟨rc - 1, q, rmv ρ rc V, S, b, _, _, _, _, _, _, _, s9, L9, ⟨⟨hnt, hnk, by omega, htz, hcn, hrn⟩, hrl9, hfo⟩, ⟨_, _, _, _, _, _, _, _, _, _, X1.lt (by rw [y.1]; exact Nat.le_refl _) (fun q hq => y.2 q (Or.inl hq)), wT, wK, hpf, hR, hfc, htp, ⟨q1, q2, q3, q4⟩, rfl⟩, ⟨_, _, _, _, _, _, _, _, ⟨M2, rT2, qm1, hpM1, tM1, h12, ⟨rfl, rfl, k3⟩, ⟨k4, k5, rfl, k18⟩, ⟨k36, h221⟩, k42, h224⟩⟩, hs9, (by rw [y.1, f.1]; exact h227), o9, ((y.2 226 (by omega)).trans (f.2 226 (by omega))).trans ho⟩, by omega, by omega⟩
      rw [ev2]
  · have hM1 := hM.x f
    have hpc : ∀ k, k < q.2.2.1 → ar 210 k = nI (q.2.2.2.2 k) ∧ q.2.2.2.2 k < 3 := fun k hk => by rw [← hM1.2.2.2.1 k hk]; exact hM1.2.2.1.2.2.1 k (by omega)
    obtain ⟨M1, rT1, qm1, hpM1, tM1, h12, ⟨k1, k2, k3⟩, ⟨k4, k5, k6, k18⟩, ⟨k36, h221⟩, k42, h224⟩ := id hM1
    refine ⟨_, ev, ⟨_, M1.o⟩, 0, 0, ?_, by omega, by omega⟩
    refine MX.weaken (k_X14_drop M1 hrc k6 rT1) (fun o2 h2 z => ?_)
    rcases z with ⟨y1, ev2, y, M2⟩ | ⟨ρ2, rf2, y1, y1b, ev2, y, M2, rT2⟩
    · refine ⟨?_, tsz, ⟨rc, q, V, S, b, _, _, _, _, _, _, _, s, L, hP, ⟨_, _, _, _, _, _, _, _, _, _, X1.lt (by rw [y.1]; exact Nat.le_refl _) (fun q hq => y.2 q (Or.inl hq)), wT, wK, hpf, hR, hfc, htp, hly, rfl⟩, ⟨_, _, _, _, _, _, _, _, hM1.up M2 y (fun k hk => (upd_nq (by omega)).trans ((upd_nq (by omega)).trans (upd_nq (by omega)))) (fun _ _ => rfl) h12 rfl rfl⟩, hs, (by rw [y.1, f.1]; exact h227), o9, ((y.2 226 (by omega)).trans (f.2 226 (by omega))).trans ho⟩, by omega, by omega⟩
      rw [ev2]
    · exact absurd y1b (inR_f z1 (by omega) ρ2 y1)
theorem and255 (x : Int32) : ∃ m, m < 256 ∧ x &&& 255 = nI m := by
  have e : x = nI x.toBitVec.toNat := by
    apply Int32.toBitVec_inj.1
    show x.toBitVec = BitVec.ofNat 32 x.toBitVec.toNat
    rw [BitVec.ofNat_toNat, BitVec.setWidth_eq]
  refine ⟨x.toBitVec.toNat % 2 ^ 8, Nat.mod_lt _ (by decide), ?_⟩
  rw [← fa_mask, ← e]; rfl
theorem byt_n (v : Int32) (j : Nat) : byt v j = nI (byt v j).toNatClampNeg ∧ (byt v j).toNatClampNeg < 256 := by
  have : ∃ m, m < 256 ∧ byt v j = nI m := by
    unfold byt
    split
    · exact and255 _
    · split
      · exact and255 _
      · split
        · exact and255 _
        · exact and255 _
  obtain ⟨m, hm, e⟩ := this
  rw [e, nI_clamp (by omega)]; exact ⟨rfl, hm⟩
theorem put4_out {tp : Nat → Int32} {n k : Nat} {v : Int32} (h : k < n ∨ n + 4 ≤ k) : put4 tp n v k = tp k := by
  unfold put4
  rw [upd_nq (by omega), upd_nq (by omega), upd_nq (by omega), upd_nq (by omega)]
theorem put4_in {tp : Nat → Int32} {n k : Nat} {v : Int32} (h : n ≤ k) (h2 : k < n + 4) : put4 tp n v k = byt v (k - n) := by
  rcases (by omega : k = n ∨ k = n + 1 ∨ k = n + 2 ∨ k = n + 3) with rfl | rfl | rfl | rfl
  · unfold put4; rw [upd_nq (by omega), upd_nq (by omega), upd_nq (by omega), upd_at9]; congr 1; omega
  · unfold put4; rw [upd_nq (by omega), upd_nq (by omega), upd_at9]; congr 1; omega
  · unfold put4; rw [upd_nq (by omega), upd_at9]; congr 1; omega
  · unfold put4; rw [upd_at9]; congr 1; omega
abbrev put20 (tp : Nat → Int32) (n : Nat) (a b c d e : Int32) : Nat → Int32 := put4 (put4 (put4 (put4 (put4 (tp) (n) a) (n + 4) b) (n + 4 + 4) c) (n + 4 + 4 + 4) d) (n + 4 + 4 + 4 + 4) e
theorem put20_lt {tp : Nat → Int32} {n k : Nat} {a b c d e : Int32} (h : k < n) : put20 tp n a b c d e k = tp k := by
  unfold put20
  rw [put4_out (by omega), put4_out (by omega), put4_out (by omega), put4_out (by omega), put4_out (by omega)]
theorem put20_at {tp : Nat → Int32} {n k : Nat} {a b c d e : Int32} (h : k < 20) : put20 tp n a b c d e (n + k) = byt (pk5 a b c d e k) (k % 4) := by
  unfold put20 pk5
  by_cases h1 : k < 4
  · rw [if_pos h1, put4_out (by omega), put4_out (by omega), put4_out (by omega), put4_out (by omega), put4_in (by omega) (by omega)]; congr 1; omega
  · rw [if_neg h1]
    by_cases h2 : k < 8
    · rw [if_pos h2, put4_out (by omega), put4_out (by omega), put4_out (by omega), put4_in (by omega) (by omega)]; congr 1; omega
    · rw [if_neg h2]
      by_cases h3 : k < 12
      · rw [if_pos h3, put4_out (by omega), put4_out (by omega), put4_in (by omega) (by omega)]; congr 1; omega
      · rw [if_neg h3]
        by_cases h4 : k < 16
        · rw [if_pos h4, put4_out (by omega), put4_in (by omega) (by omega)]; congr 1; omega
        · rw [if_neg h4, put4_in (by omega) (by omega)]; congr 1; omega
def bFd (b : Nat → Nat) (n : Nat) (a9 b9 c9 d9 e9 : Int32) : Nat → Nat := fun k => if k < n then b k else (byt (pk5 a9 b9 c9 d9 e9 (k - n)) ((k - n) % 4)).toNatClampNeg
theorem bFd_x {tp : Nat → Int32} {b : Nat → Nat} {n : Nat} {a9 b9 c9 d9 e9 : Int32} (h : ∀ k, k < n → tp k = nI (b k) ∧ b k < 256) : ∀ k, k < n + 20 → put20 tp n a9 b9 c9 d9 e9 k = nI (bFd b n a9 b9 c9 d9 e9 k) ∧ bFd b n a9 b9 c9 d9 e9 k < 256 := fun k hk => by
  unfold bFd
  by_cases z : k < n
  · rw [if_pos z, put20_lt z]; exact h k z
  · rw [if_neg z]
    have := put20_at (tp := tp) (n := n) (k := k - n) (a := a9) (b := b9) (c := c9) (d := d9) (e := e9) (by omega)
    rw [show n + (k - n) = k by omega] at this
    rw [this]; exact byt_n _ _
theorem bFd_m {f f' : Nat → Int32} {b : Nat → Nat} {n : Nat} {a9 b9 c9 d9 e9 : Int32} (h : ∀ k, k < n → f k &&& 255 = nI (b k) ∧ b k < 256) (e1 : ∀ k, k < n → f' k = f k) (e2 : ∀ k, k < 20 → f' (n + k) &&& 255 = byt (pk5 a9 b9 c9 d9 e9 k) (k % 4)) : ∀ k, k < n + 20 → f' k &&& 255 = nI (bFd b n a9 b9 c9 d9 e9 k) ∧ bFd b n a9 b9 c9 d9 e9 k < 256 := fun k hk => by
  unfold bFd
  by_cases z : k < n
  · rw [if_pos z, e1 k z]; exact h k z
  · rw [if_neg z]
    have := e2 (k - n) (by omega)
    rw [show n + (k - n) = k by omega] at this
    rw [this]; exact byt_n _ _
set_option maxRecDepth 100000 in
set_option maxHeartbeats 4000000 in
theorem p_feed {G : xG} {h : xHp} {tsz : Nat} (I : LI h tsz) {a a2 a3 a4 a5 : Int32} : Pr G mX11_feed mX14_feed 2 1 [.int a, .int a2, .int a3, .int a4, .int a5] h tsz := by
  obtain ⟨rc, q, V, S, b, flt, whr, cn, ct, rn, rs, tr, s, L, hP, hX, ⟨g, w, nw, ar, twM, kwM, rf, pM, hM⟩, hs, h227, o9, ho⟩ := I
  obtain ⟨⟨hnt, hnk, hrc, htz, hcn, hrn⟩, hrl, hfo⟩ := id hP
  obtain ⟨tp, fc, lf, ra, kw, tw, pf, fr, cl, plc, X, wT, wK, hpf, hR, hfc, htp, hly, hwh⟩ := hX
  have c : cOk rc q.1 q.2.2.1 V pf q.2.2.2.2 lf L fr S := ⟨⟨hnt, hnk, hrc⟩, fun k hk => hpf k (by omega), fun r hr => (hrl r hr).1, fun r hr => (hrl r hr).2.2.1, hly.2.2.1, hly.1, hly.2.1, hR⟩
  have c2 : cOk2 rc q.2.2.1 V q.2.2.2.2 := fun r hr => (hrl r hr).2.2.2.1
  have hV : ∀ r, r < rc → okRl q.1 (V r) := fun r hr => (hrl r hr).1
  have hKK : ∀ r, r < rc → okK (V r) := fun r hr => (hrl r hr).2.1
  have hcv : ∀ r, r < rc → covR (V r) := fun r hr => cov_of (hrl r hr)
  have hsU : IsSt S V rc (uR (-1)) q.1 s := isst_cg hs (uR_m hrc)
  have hok := st_ok hnt hrl hfo hs
  have hpw := pw_of hrl hok
  have hsat : ∃ S9, Sat V rc S9 := ⟨L, hly.2.2.1⟩
  obtain ⟨ns9, f9, g9, hst9, x⟩ := id X
  refine MX.weaken (k_X11_feed x htz) (fun o h1 z => ?_)
  rcases z with ⟨z1, ev, eh⟩ | ⟨z1, ev, f, x1⟩
  · subst eh
    have f := xKp_rf h1
    have hM1 := hM
    have hpc : ∀ k, k < q.2.2.1 → ar 210 k = nI (q.2.2.2.2 k) ∧ q.2.2.2.2 k < 3 := fun k hk => by rw [← hM1.2.2.2.1 k hk]; exact hM1.2.2.1.2.2.1 k (by omega)
    obtain ⟨M1, rT1, qm1, hpM1, tM1, h12, ⟨k1, k2, k3⟩, ⟨k4, k5, k6, k18⟩, ⟨k36, h221⟩, k42, h224⟩ := id hM1
    refine ⟨_, ev, ⟨_, M1.o⟩, 0, 0, ?_, by omega, by omega⟩
    refine MX.weaken (k_X14_feed M1 htz k18) (fun o2 h2 z => ?_)
    rcases z with ⟨y1, ev2, y, M2⟩ | ⟨y1, _⟩
    · refine ⟨?_, tsz, ⟨rc, q, V, S, b, _, _, _, _, _, _, _, s, L, hP, ⟨_, _, _, _, _, _, _, _, _, _, X.lt (by rw [y.1]; exact Nat.le_refl _) (fun q hq => y.2 q (Or.inl hq)), wT, wK, hpf, hR, hfc, htp, hly, hwh⟩, ⟨_, _, _, _, _, _, _, _, hM1.up M2 y (fun k hk => upd_nq (by omega)) (fun _ _ => rfl) h12 k1 k2⟩, hs, (by rw [y.1, f.1]; exact h227), o9, ((y.2 226 (by omega)).trans (f.2 226 (by omega))).trans ho⟩, by omega, by omega⟩
      rw [ev2]
    · omega
  · have hM1 := hM.x f
    have hpc : ∀ k, k < q.2.2.1 → ar 210 k = nI (q.2.2.2.2 k) ∧ q.2.2.2.2 k < 3 := fun k hk => by rw [← hM1.2.2.2.1 k hk]; exact hM1.2.2.1.2.2.1 k (by omega)
    obtain ⟨M1, rT1, qm1, hpM1, tM1, h12, ⟨k1, k2, k3⟩, ⟨k4, k5, k6, k18⟩, ⟨k36, h221⟩, k42, h224⟩ := id hM1
    have X1 := XT.of2 hst9 x1
    refine ⟨_, ev, ⟨_, M1.o⟩, 0, 0, ?_, by omega, by omega⟩
    refine MX.weaken (k_X14_feed M1 htz k18) (fun o2 h2 z => ?_)
    rcases z with ⟨y1, _⟩ | ⟨y1, ev2, g2, ar2, M2, g218, ⟨g20, gk2⟩, ak2, al2, ab2, y⟩
    · omega
    · refine ⟨?_, tsz + 20, ⟨rc, q, V, S, bFd b tsz a a2 a3 a4 a5, _, _, _, _, _, _, _, s, L, ⟨⟨hnt, hnk, hrc, by omega, hcn, hrn⟩, hrl, hfo⟩, ⟨_, _, _, _, _, _, _, _, _, _, X1.lt (by rw [y.1]; exact Nat.le_refl _) (fun q hq => y.2 q (Or.inl hq)), wT, wK, hpf, hR, hfc, bFd_x (a9 := a) (b9 := a2) (c9 := a3) (d9 := a4) (e9 := a5) htp, hly, hwh⟩, ⟨_, _, _, _, _, _, _, _, ⟨M2, rT1.y y, (by unfold qM; rw [ak2 208 (by decide), ak2 209 (by decide), ak2 210 (by decide)]; exact qm1), hpM1, ⟨by omega, bFd_m (a9 := a) (b9 := a2) (c9 := a3) (d9 := a4) (e9 := a5) tM1.2 al2 ab2⟩, (fun j hj => (congrFun (ak2 212 (by decide)) j).trans (h12 j hj)), ⟨(gk2 1 (by decide) (by decide)).trans k1, (gk2 2 (by decide) (by decide)).trans k2, (gk2 3 (by decide) (by decide)).trans k3⟩, ⟨(gk2 4 (by decide) (by decide)).trans k4, (gk2 5 (by decide) (by decide)).trans k5, (gk2 6 (by decide) (by decide)).trans k6, g218⟩, ⟨(gk2 36 (by decide) (by decide)).trans k36, fun i hi => (congrFun (ak2 221 (by decide)) i).trans (h221 i hi)⟩, (gk2 42 (by decide) (by decide)).trans k42, fun i hi => (congrFun (ak2 224 (by decide)) i).trans (h224 i hi)⟩⟩, hs, (by rw [y.1, f.1]; exact h227), o9, ((y.2 226 (by omega)).trans (f.2 226 (by omega))).trans ho⟩, by omega, by omega⟩
      rw [ev2]
