/-! the law: its method 'name' beside the reference's -/
theorem lg_cmp_self (x : Int64) : lg_cmp x x = 0 := by
  unfold lg_cmp
  simp
theorem MH.nw {h : xHp} {g : Nat → Int32} {w : Int64} {nw : Value} {ar : Nat → Nat → Int32} {tw kw : Nat → Int64} {rf : Nat → Option Nat} {c : xCel} (M : MH h g w nw ar tw kw rf) : MH (xnw h c) g w nw ar tw kw rf := by
  have e : ∀ q, q < 226 → (xnw h c).1 q = h.1 q := fun q hq => xnw_ne (by have := M.n; omega)
  exact ⟨Nat.le_trans M.n (Nat.le_succ _), (e _ (by omega)).trans M.o, (e _ (by omega)).trans M.t, (e _ (by omega)).trans M.k, (e _ (by omega)).trans M.r, (by obtain ⟨k, p, x⟩ := M.s; exact ⟨k, p, (e _ (by omega)).trans x⟩), fun d ty n x => (e d (by have := aT_in x; omega)).trans (M.a d ty n x)⟩
theorem rmT.nw {h : xHp} {rf : Nat → Option Nat} {n : Nat} {V : Nat → RV} {c : xCel} (r : rmT h rf n V) : rmT (xnw h c) rf n V := fun k hk => by
  obtain ⟨a, a1, a2, a3, a4⟩ := r k hk
  exact ⟨a, a1, a2, Nat.le_trans a3 (Nat.le_succ _), a4.fr (fun q q1 q2 => xnw_ne (by omega))⟩
theorem rmT.o {h : xHp} {rf : Nat → Option Nat} {n : Nat} {V : Nat → RV} {c : xCel} (r : rmT h rf n V) : rmT (xup h 226 c) rf n V := fun k hk => by
  obtain ⟨a, a1, a2, a3, a4⟩ := r k hk
  exact ⟨a, a1, a2, a3, a4.fr (fun q q1 q2 => xup_ne (by omega))⟩
theorem nm_pair {n : Nat} {T : Nat → List Nat} {f : Nat → Int64} {k i r t : Int32} (hn : n ≤ 10) (h : wOk n T f) (hm : nmR n T k i r t) : (nm_letter f n k i = -1 ∧ t = 1) ∨ (¬ nm_letter f n k i = -1 ∧ t = 0 ∧ r = nm_letter f n k i) := by
  rcases nm_x (k := k) (i := i) h hn with ⟨j, m, a, e⟩ | ⟨a, e⟩ <;> rcases hm with ⟨j', m', b, e', et⟩ | ⟨b, e', et⟩
  · have q1 : j = j' := (nI_eq (by have := a.1; omega) (by have := b.1; omega)).mp (a.2.1.symm.trans b.2.1)
    subst q1
    have h8 := (h j a.1).2.2
    have q2 : m = m' := (nI_eq (by have := a.2.2.1; omega) (by have := b.2.2.1; omega)).mp (a.2.2.2.symm.trans b.2.2.2)
    subst q2
    have hg : (T j).getD m 0 ≤ 26 := by
      rw [List.getD_eq_getElem?_getD, List.getElem?_eq_getElem a.2.2.1]; exact ((h j a.1).2.1 _ (List.getElem_mem a.2.2.1)).2
    exact Or.inr ⟨by rw [e]; exact nI_m1 (by omega), et, by rw [e', e]⟩
  · exact absurd ⟨j, m, a⟩ b
  · exact absurd ⟨j', m', b⟩ a
  · exact Or.inl ⟨e, et⟩
def PN (G : xG) (a a2 : Int32) (v : Bool) (h : xHp) (tsz : Nat) : Prop := MX G mL_name 7 1 6 [.ref 1, .int a, .int a2, .int (bi v), .ref 226] h (fun o h1 => ∃ k, o = .inl (some (.int k)) ∧ (∃ fs, h1.1 205 = some (.inr (14, fs))) ∧ ∃ o9 : Nat → Int64, MX G mX14_name 2 0 0 [.ref 205, .int a, .int a2, .int (bi v)] h1 (fun o2 h2 => ∃ r, o2 = .inl (some (.int r)) ∧ h2.1 226 = some (.inl (1, 1, .inr (.inl o9))) ∧ (∃ fs, h2.1 205 = some (.inr (14, fs))) ∧ MX G mX14_thrown 1 0 0 [.ref 205] h2 (fun o3 h3 => o3 = .inl (some (.int k)) ∧ h3 = h2) ∧ (k = 0 → o9 0 = r.toInt64) ∧ LI h2 tsz))
set_option maxRecDepth 100000 in
set_option maxHeartbeats 4000000 in
theorem p_name {G : xG} {h : xHp} {tsz : Nat} (I : LI h tsz) {a a2 : Int32} {v : Bool} : PN G a a2 v h tsz := by
  obtain ⟨rc, q, V, S, b, flt, whr, cn, ct, rn, rs, tr, s, L, hP, hX, ⟨g, w, nw, ar, twM, kwM, rf, pM, hM⟩, hs, h227, o9, ho⟩ := I
  obtain ⟨⟨hnt, hnk, hrc, htz, hcn, hrn⟩, hrl, hfo⟩ := id hP
  obtain ⟨tp, fc, lf, ra, kw, tw, pf, fr, cl, plc, X, wT, wK, hpf, hR, hfc, htp, hly, hwh⟩ := hX
  have c : cOk rc q.1 q.2.2.1 V pf q.2.2.2.2 lf L fr S := ⟨⟨hnt, hnk, hrc⟩, fun k hk => hpf k (by omega), fun r hr => (hrl r hr).1, fun r hr => (hrl r hr).2.2.1, hly.2.2.1, hly.1, hly.2.1, hR⟩
  have c2 : cOk2 rc q.2.2.1 V q.2.2.2.2 := fun r hr => (hrl r hr).2.2.2.1
  have hV : ∀ r, r < rc → okRl q.1 (V r) := fun r hr => (hrl r hr).1
  have hKK : ∀ r, r < rc → okK (V r) := fun r hr => (hrl r hr).2.1
  have hcv : ∀ r, r < rc → covR (V r) := fun r hr => cov_of (hrl r hr)
  have hsU : IsSt S V rc (uR (-1)) q.1 s := isst_cg hs (uR_m hrc)
  have hok := st_ok hnt hrl hfo hs
  have hpw := pw_of hrl hok
  have hsat : ∃ S9, Sat V rc S9 := ⟨L, hly.2.2.1⟩
  obtain ⟨ns9, f9, g9, hst9, x⟩ := id X
  refine MX.weaken (k_L_name x hnk hnt ho) (fun o h1 z => ?_)
  rcases z with ⟨z1, ev, eh⟩ | ⟨z1, ev, eh⟩
  · have hM1 : LMp h1 tsz rc q V S b flt whr cn ct rn rs tr g w nw ar twM kwM rf pM := ⟨by rw [eh]; exact hM.1.nw, by rw [eh]; exact hM.2.1.nw, hM.2.2⟩
    have hpc : ∀ k, k < q.2.2.1 → ar 210 k = nI (q.2.2.2.2 k) ∧ q.2.2.2.2 k < 3 := fun k hk => by rw [← hM1.2.2.2.1 k hk]; exact hM1.2.2.1.2.2.1 k (by omega)
    obtain ⟨M1, rT1, qm1, hpM1, tM1, h12, ⟨k1, k2, k3⟩, ⟨k4, k5, k6, k18⟩, ⟨k36, h221⟩, k42, h224⟩ := id hM1
    refine ⟨1, ev, ⟨_, M1.o⟩, o9, ?_⟩
    refine MX.weaken (k_X14_name M1 qm1.1 qm1.2.1 k4 k5 hnk hnt) (fun o2 h2 z => ?_)
    obtain ⟨r, t, ev2, y, M2, hq⟩ := z
    have hnp := nm_pair (f := if v = true then kw else tw) (by cases v <;> assumption) (by cases v <;> assumption) hq
    have et : t = 1 := by
      rcases hnp with ⟨_, e⟩ | ⟨e, _⟩
      · exact e
      · exact absurd z1 e
    have hM2 := hM1.up M2 y (fun k hk => upd_nq (by omega)) (fun _ _ => rfl) h12 k1 k2
    have X2 := (X.lt (h' := h1) (by rw [eh]; exact Nat.le_succ _) (fun q hq => by rw [eh]; exact xnw_ne (by omega))).lt (by rw [y.1]; exact Nat.le_refl _) (fun q hq => y.2 q (Or.inl hq))
    refine ⟨r, ev2, (y.2 226 (by omega)).trans (by rw [eh]; exact (xnw_ne (by omega)).trans ho), ⟨_, M2.o⟩, MX.weaken (k_X14_thrown M2) (fun o3 h3 z => ⟨z.1.trans (by rw [upd_at9, et]), z.2⟩), fun z => absurd z (by decide), ?_⟩
    exact ⟨rc, q, V, S, b, _, _, _, _, _, _, _, s, L, hP, ⟨_, _, _, _, _, _, _, _, _, _, X2, wT, wK, hpf, hR, hfc, htp, hly, hwh⟩, ⟨_, _, _, _, _, _, _, _, hM2⟩, hs, (by rw [y.1]; first | (rw [eh]; exact Nat.le_trans h227 (Nat.le_succ _)) | (rw [eh]; exact h227)), o9, (y.2 226 (by omega)).trans (by rw [eh]; exact (xnw_ne (by omega)).trans ho)⟩
  · have hM1 : LMp h1 tsz rc q V S b flt whr cn ct rn rs tr g w nw ar twM kwM rf pM := ⟨by rw [eh]; exact hM.1.fr rfl (fun q _ q2 => xup_ne (by omega)), by rw [eh]; exact hM.2.1.o, hM.2.2⟩
    have hpc : ∀ k, k < q.2.2.1 → ar 210 k = nI (q.2.2.2.2 k) ∧ q.2.2.2.2 k < 3 := fun k hk => by rw [← hM1.2.2.2.1 k hk]; exact hM1.2.2.1.2.2.1 k (by omega)
    obtain ⟨M1, rT1, qm1, hpM1, tM1, h12, ⟨k1, k2, k3⟩, ⟨k4, k5, k6, k18⟩, ⟨k36, h221⟩, k42, h224⟩ := id hM1
    refine ⟨0, ev, ⟨_, M1.o⟩, (vp_updL o9 0 (nm_letter (if v = true then kw else tw) (if v = true then q.2.2.1 else q.1) a a2).toInt64), ?_⟩
    refine MX.weaken (k_X14_name M1 qm1.1 qm1.2.1 k4 k5 hnk hnt) (fun o2 h2 z => ?_)
    obtain ⟨r, t, ev2, y, M2, hq⟩ := z
    have hnp := nm_pair (f := if v = true then kw else tw) (by cases v <;> assumption) (by cases v <;> assumption) hq
    have et : t = 0 ∧ r = nm_letter (if v = true then kw else tw) (if v = true then q.2.2.1 else q.1) a a2 := by
      rcases hnp with ⟨e, _⟩ | ⟨_, e1, e2⟩
      · exact absurd e z1
      · exact ⟨e1, e2⟩
    obtain ⟨et, er⟩ := et
    have hM2 := hM1.up M2 y (fun k hk => upd_nq (by omega)) (fun _ _ => rfl) h12 k1 k2
    have X2 := (X.lt (h' := h1) (by rw [eh]; exact Nat.le_refl _) (fun q hq => by rw [eh]; exact xup_ne (by omega))).lt (by rw [y.1]; exact Nat.le_refl _) (fun q hq => y.2 q (Or.inl hq))
    refine ⟨r, ev2, (y.2 226 (by omega)).trans (by rw [eh]; exact xup_self _ _ _), ⟨_, M2.o⟩, MX.weaken (k_X14_thrown M2) (fun o3 h3 z => ⟨z.1.trans (by rw [upd_at9, et]), z.2⟩), fun _ => by rw [er]; rfl, ?_⟩
    exact ⟨rc, q, V, S, b, _, _, _, _, _, _, _, s, L, hP, ⟨_, _, _, _, _, _, _, _, _, _, X2, wT, wK, hpf, hR, hfc, htp, hly, hwh⟩, ⟨_, _, _, _, _, _, _, _, hM2⟩, hs, (by rw [y.1]; first | (rw [eh]; exact Nat.le_trans h227 (Nat.le_succ _)) | (rw [eh]; exact h227)), (vp_updL o9 0 (nm_letter (if v = true then kw else tw) (if v = true then q.2.2.1 else q.1) a a2).toInt64), (y.2 226 (by omega)).trans (by rw [eh]; exact xup_self _ _ _)⟩
