/-! the reference: tell, its CLAUSES -/
theorem addF_cg {S : Nat → Bool} {fs fs' : Nat → Int32} : ∀ {m : Nat}, (∀ i, i < m → fs' i = fs i) → ∀ j, addF S fs' m j = addF S fs m j
  | 0, _, _ => rfl
  | m + 1, h, j => by
    show (addF S fs' m j || decide (fs' m = nI j)) = (addF S fs m j || decide (fs m = nI j))
    rw [addF_cg (fun i hi => h i (by omega)) j, h m (by omega)]
theorem gT.k {g0 g g' : Nat → Int32} (a : gT g0 g) (b : gK g g') : gT g0 g' := fun j hj => (b j (by omega)).trans (a j hj)
theorem aT9.k {ar0 ar ar' : Nat → Nat → Int32} (a : aT9 ar0 ar) (b : aK ar ar') : aT9 ar0 ar' := fun c hc => (b c (by omega)).trans (a c hc)
theorem rfT.m {h0 h h' : xHp} {c : Nat} (f : rfT h0 h c) (r : frM h h') : rfT h0 h' (c + 1) := ⟨by rw [r.1.2, f.1]; omega, fun q hq => (r.2 q (by have := f.1; omega)).trans (f.2 q hq)⟩
theorem tk_n {b : Nat → Nat} {n ts : Nat} {tk : Nat → Tk} {pos : Nat → Nat} (h : tkT b n ts tk pos) (hn : n ≤ 400) (hb : ∀ k, k < n → b k < 256) {k : Nat} (hk : k < ts) : k ≤ n := by
  cases k with
  | zero => exact Nat.zero_le _
  | succ k =>
    have h2 := h.1.2.2.2.2 k hk
    exact (tkT_ok h hn hb).2.2 k (by omega) (by omega)
theorem MT.step {n : Nat} {h0 : xHp} {g0 : Nat → Int32} {ar0 : Nat → Nat → Int32} {S : Nat → Bool} {s : TS} {h : xHp} {g : Nat → Int32} {w : Int64} {nw : Value} {ar : Nat → Nat → Int32} {tw kw : Nat → Int64} {rf : Nat → Option Nat} (T : MT n h0 g0 ar0 S s h g w nw ar tw kw rf) {h' : xHp} {ts : Nat} {tk : Nat → Tk} {pos : Nat → Nat} (H : (∃ x q' v' k', pClause tk s.1 s.2.2.2.2.1 (s.2.1 s.1) s.2.2.2.2.2.1 = .inr (some x, q', v', k') ∧ k' < ts ∧ ∃ n9, n9 < 1000 ∧ x = nI n9 ∧ ∃ g' w' ar' tw' kw', MH h' g' w' (.ref h.2) ar' tw' kw' rf ∧ curT (tk k') (pos (k' + 1)) g' w' ∧ gK g g' ∧ aK (apF ar 212 (upd (ar 212) n9 1)) ar' ∧ qM q' ar' tw' kw' ∧ (g' 4 = nI q'.1 ∧ g' 5 = nI q'.2.2.1 ∧ g' 6 = nI s.1) ∧ frM h h') ∨ (∃ q' v' k', pClause tk s.1 s.2.2.2.2.1 (s.2.1 s.1) s.2.2.2.2.2.1 = .inr (none, q', v', k') ∧ k' < ts ∧ ∃ g' w' ar' tw' kw', MH h' g' w' (.ref h.2) ar' tw' kw' (va_up rf s.1 (some h.2)) ∧ curT (tk k') (pos (k' + 1)) g' w' ∧ gK g g' ∧ aK ar ar' ∧ qM q' ar' tw' kw' ∧ (g' 4 = nI q'.1 ∧ g' 5 = nI q'.2.2.1 ∧ g' 6 = nI (s.1 + 1)) ∧ rmV h' h.2 v' ∧ frM h h')) : ∃ (r : Option Int32 × PQ × RV × Nat) (g' : Nat → Int32) (w' : Int64) (nw' : Value) (ar' : Nat → Nat → Int32) (tw' kw' : Nat → Int64) (rf' : Nat → Option Nat), pClause tk s.1 s.2.2.2.2.1 (s.2.1 s.1) s.2.2.2.2.2.1 = .inr r ∧ r.2.2.2 < ts ∧ curT (tk r.2.2.2) (pos (r.2.2.2 + 1)) g' w' ∧ g' 30 = nI s.2.2.2.2.2.2 ∧ MH h' g' w' nw' ar' tw' kw' rf' ∧ gT g0 g' ∧ aT9 ar0 ar' ∧ qM r.2.1 ar' tw' kw' ∧ (g' 4 = nI r.2.1.1 ∧ g' 5 = nI r.2.1.2.2.1 ∧ g' 6 = nI (tsN s r).1) ∧ (∀ j, j < 1000 → ar' 212 j = bi (addF S (tsN s r).2.2.2.1 (tsN s r).2.2.1 j)) ∧ rmT h' rf' (tsN s r).1 (tsN s r).2.1 ∧ rfT h0 h' (s.2.2.2.2.2.2 + 1) := by
  obtain ⟨M, gk, ak, qm, gg, g30, hf, rT, rt, hn⟩ := T
  rcases H with ⟨x, q', v', k', y, hk', n9, hn9, hx, g', w', ar', tw', kw', M', cu', gk', ak', qm', gg', fr⟩ | ⟨q', v', k', y, hk', g', w', ar', tw', kw', M', cu', gk', ak', qm', gg', rv, fr⟩
  · refine ⟨(some x, q', v', k'), g', w', _, ar', tw', kw', _, y, hk', cu', (gk' 30 (by omega)).trans g30, M', gk.k gk', fun c hc => (ak' c (by omega)).trans ?_, qm', gg', fun j hj => ?_, (rT.m fr).le (Nat.le_refl _) (fun r hr => (apF_ne (Nat.ne_of_lt hr)).symm), rt.m fr⟩
    · rw [apF_ne (by omega)]; exact ak c hc
    · rw [ak' 212 (by decide), apF_at]
      show upd (ar 212) n9 1 j = bi (addF S (upd s.2.2.2.1 s.2.2.1 x) s.2.2.1 j || decide (upd s.2.2.2.1 s.2.2.1 x s.2.2.1 = nI j))
      rw [addF_cg (fs := s.2.2.2.1) (fun i hi => upd_nq (by omega)) j, upd_at9, hx]
      by_cases e : j = n9
      · rw [e, upd_at9, decide_eq_true rfl, Bool.or_true]; rfl
      · rw [upd_nq e, hf j hj, decide_eq_false (fun z => e ((nI_eq (by omega) (by omega)).mp z).symm), Bool.or_false]
  · refine ⟨(none, q', v', k'), g', w', _, ar', tw', kw', _, y, hk', cu', (gk' 30 (by omega)).trans g30, M', gk.k gk', ak.k ak', qm', gg', fun j hj => by rw [ak' 212 (by decide)]; exact hf j hj, fun r hr => ?_, rt.m fr⟩
    by_cases e : r = s.1
    · rw [e]
      exact ⟨h.2, by simp [va_up], fr.1.1, by rw [fr.1.2]; exact Nat.le_refl _, by show rmV h' h.2 (apF s.2.1 s.1 v' s.1); rw [apF_at]; exact rv⟩
    · have hr2 : r < s.1 := by have : r < s.1 + 1 := hr; omega
      obtain ⟨a, a1, a2, a3, a4⟩ := (rT.m fr) r hr2
      exact ⟨a, by simp [va_up, e]; exact a1, a2, a3, by show rmV h' a (apF s.2.1 s.1 v' r); rw [apF_ne e]; exact a4⟩
theorem tsN_q (s : TS) (r : Option Int32 × PQ × RV × Nat) : (tsN s r).2.2.2.2 = (r.2.1, r.2.2.2, s.2.2.2.2.2.2 + 1) := by
  obtain ⟨o, r⟩ := r
  cases o <;> rfl
theorem pText_s (tk : Nat → Tk) (m : Nat) (s : TS) : pText tk (m + 1) s = (match pClause tk s.1 s.2.2.2.2.1 (s.2.1 s.1) s.2.2.2.2.2.1 with
    | .inl e => .inl e
    | .inr r => if (tk r.2.2.2).1 = 0 then .inr (tsN s r) else pText tk m (tsN s r)) := rfl
set_option maxRecDepth 100000 in
set_option maxHeartbeats 4000000 in
theorem l_X14_text {G : xG} {g0 : Nat → Int32} {ar0 : Nat → Nat → Int32} {b : Nat → Nat} {n ts : Nat} {tk : Nat → Tk} {pos : Nat → Nat} (tT : tkT b n ts tk pos) (hn4 : n ≤ 400) (hb : ∀ k, k < n → b k < 256) (h09 : g0 19 = nI n) (hT0 : tpM ar0 b n) {rc : Nat} {h0 : xHp} {V : Nat → RV} {q : PQ} {S : Nat → Bool} {s0 : TS} (h77 : 227 ≤ h0.2) (h13 : ∀ j, j < 1000 → ar0 213 j = bi (S j)) {S0 : Nat → Nat} (hs0 : Sat V rc S0) : ∀ (f : Nat) {s : TS} {h : xHp} {g : Nat → Int32} {w : Int64} {nw : Value} {ar : Nat → Nat → Int32} {tw kw : Nat → Int64} {rf : Nat → Option Nat} {m5 : Int32} (_ : MT n h0 g0 ar0 S s h g w nw ar tw kw rf) (_ : curT (tk s.2.2.2.2.2.1) (pos (s.2.2.2.2.2.1 + 1)) g w) (_ : s.2.2.2.2.2.1 < ts) (_ : tsI rc V q s) {cl uc us : Nat} (_ : s.2.2.2.2.2.2 = cl) (_ : uc = 6 * cl) (_ : us = 31 * cl) (_ : f + cl = 201) (_ : pText tk 201 s0 = pText tk f s), Wx G mX14_tell (xRm 7 (3 * n + 6) (16 * n + 31)) (xF G (tlQ tk n h0 g0 ar0 rc V q S s0) (3 * n + 6) (16 * n + 31)) uc us 107 [(0, .ref 205), (1, .int (nI n)), (2, .int (nI q.1)), (3, .int (nI q.2.2.1)), (4, .int (nI rc)), (5, .int m5)] [] h := by
  have hp := (tkT_ok tT hn4 hb).2.1
  intro f
  induction f with
  | zero =>
    intro s h g w nw ar tw kw rf m5 T cu hk I cl uc us hcl hu1 hu2 hf hpT
    have h1 := I.2.2.2.2.2.2.2
    have h2 := tk_n tT hn4 hb hk
    omega
  | succ f ih =>
    intro s h g w nw ar tw kw rf m5 T cu hk I cl uc us hcl hu1 hu2 hf hpT
    obtain ⟨M, gk, ak, qm, gg, g30, hf0, rT, rt, hn⟩ := id T
    have h20 := I.1.1
    refine x_aload_n dX14_tell_107 rfl ?_
    refine x_callV (As := []) (st := []) lv_X14_223 (k_X14_readClause tT hn4 hb ((gk 19 (by omega)).trans h09) ⟨hT0.1, fun i hi => by rw [ak 216 (by decide)]; exact hT0.2 i hi⟩ M cu qm gg h20 hk (by have := rt.1; omega) (s.2.1 s.1)) dX14_tell_108 M.o rfl rfl (Nat.le_of_ble_eq_true rfl) ⟨Nat.le_of_ble_eq_true rfl, Nat.le_of_ble_eq_true rfl⟩ ⟨by show uc + 6 ≤ 3 * n + 6; omega, by show us + 31 ≤ 16 * n + 31; omega⟩ (fun v9 h9 z => ?_) (fun q8 ci9 fs9 h9 hc9 z => ?_)
    · have hv : v9 = none := by rcases z with ⟨_, _, _, ev, _⟩ | ⟨_, _, _, _, _, ev, _⟩ | ⟨_, _, _, _, ev, _⟩; (cases ev); (injection ev); (injection ev)
      subst hv
      obtain ⟨r, g9, w9, nw9, ar9, tw9, kw9, rf9, y9, hk9, cu9, g309, M9, gk9, ak9, qm9, gg9, hf9, rT9, rt9⟩ := T.step (ts := ts) (tk := tk) (pos := pos) (h' := h9) (by rcases z with ⟨_, _, _, ev, _⟩ | ⟨x, q', v', k', a1, _, a3⟩ | ⟨q', v', k', a1, _, a3⟩; (cases ev); (exact Or.inl ⟨x, q', v', k', a1, a3⟩); exact Or.inr ⟨q', v', k', a1, a3⟩)
      have I9 := tsI_next hp I y9
      have hQ9 := tsN_q s r
      have hk9n := tk_n tT hn4 hb hk9
      refine x_aload_n dX14_tell_111 rfl ?_
      refine x_dup dX14_tell_112 rfl ?_
      refine x_get lf_X14_220 dX14_tell_113 M9.o rfl ?_
      refine x_top (y := nI cl) (g309.trans (by rw [hcl])) ?_
      refine x_iconst (v := 1) dX14_tell_116 (by decide) ?_
      refine x_iadd dX14_tell_117 ?_
      refine x_top (y := nI (cl + 1)) (by rw [show (1 : Int32) = nI 1 from rfl, nI_add]) ?_
      refine x_put (mL (upd g9 30 (nI (cl + 1))) w9 nw9) lf_X14_220 dX14_tell_118 M9.o (Nat.le_of_ble_eq_true rfl) rfl rfl rfl ?_
      refine x_aload_n dX14_tell_121 rfl ?_
      refine x_get lf_X14_115 dX14_tell_122 (xup_self _ _ _) rfl ?_
      refine x_iconst (v := 1) dX14_tell_125 (by decide) ?_
      refine x_icmp_eq 133 dX14_tell_126 (by decide) (fun c_126 => ?_) (fun c_126 => ?_)
      · refine x_iconst (v := 0) dX14_tell_133 (by decide) ?_
        refine x_istore [(0, .ref 205), (1, .int (nI n)), (2, .int (nI q.1)), (3, .int (nI q.2.2.1)), (4, .int (nI rc)), (5, .int 0)] dX14_tell_134 (by decide) rfl rfl ?_
        refine x_goto 102 dX14_tell_136 (by decide) ?_
        refine x_iload dX14_tell_102 rfl ?_
        refine x_if_eq 139 dX14_tell_104 (by decide) (fun c_104 => ?_) (fun c_104 => absurd c_104 (by decide))
        refine x_iload dX14_tell_139 rfl ?_
        refine x_istore [(0, .ref 205), (1, .int (nI n)), (2, .int (nI q.1)), (3, .int (nI q.2.2.1)), (4, .int (nI rc)), (5, .int 0), (6, .int (nI rc))] dX14_tell_141 (by decide) rfl rfl ?_
        have h2c := I9.2.2.2.2.2.2.2
        have T9 : MT n h0 g0 ar0 S (tsN s r) (xup h9 205 (.inr (14, mL (upd g9 30 (nI (cl + 1))) w9 nw9))) (upd g9 30 (nI (cl + 1))) w9 nw9 ar9 tw9 kw9 rf9 := by
          refine ⟨(M9.g9 (upd g9 30 (nI (cl + 1))) w9 nw9), fun j hj => (upd_nq (by omega)).trans (gk9 j hj), ak9, (by rw [hQ9]; exact qm9), (by rw [hQ9]; exact ⟨(upd_nq (by decide)).trans gg9.1, (upd_nq (by decide)).trans gg9.2.1, (upd_nq (by decide)).trans gg9.2.2⟩), (by rw [hQ9, hcl]; exact upd_at9), hf9, rT9.y ((yfr_rf _).up (by decide)), (by rw [hQ9]; exact rt9.y ((yfr_rf _).up (by decide))), (by rw [hQ9] at h2c ⊢; exact Nat.le_trans h2c hk9n)⟩
        have he : (tk r.2.2.2).1 = 0 := (cur_s cu9).2.2.mp c_126
        have h2n := T9.2.2.2.2.2.2.2.2.2
        rw [hQ9] at h2n
        exact l_X14_own (by omega) (by omega) h13 hs0 I9 (by rw [hpT, pText_s, y9]; exact if_pos he) ((tsN s r).1 + 1) rc T9 (Nat.le_refl _) I9.1.2 (by omega) (fun j h1 h2 => absurd h2 (by omega))
      · refine x_iconst (v := 1) dX14_tell_129 (by decide) ?_
        refine x_goto 134 dX14_tell_130 (by decide) ?_
        refine x_istore [(0, .ref 205), (1, .int (nI n)), (2, .int (nI q.1)), (3, .int (nI q.2.2.1)), (4, .int (nI rc)), (5, .int 1)] dX14_tell_134 (by decide) rfl rfl ?_
        refine x_goto 102 dX14_tell_136 (by decide) ?_
        refine x_iload dX14_tell_102 rfl ?_
        refine x_if_eq 139 dX14_tell_104 (by decide) (fun c_104 => absurd c_104 (fun z => absurd z (by decide))) (fun c_104 => ?_)
        have h2c := I9.2.2.2.2.2.2.2
        have T9 : MT n h0 g0 ar0 S (tsN s r) (xup h9 205 (.inr (14, mL (upd g9 30 (nI (cl + 1))) w9 nw9))) (upd g9 30 (nI (cl + 1))) w9 nw9 ar9 tw9 kw9 rf9 := by
          refine ⟨(M9.g9 (upd g9 30 (nI (cl + 1))) w9 nw9), fun j hj => (upd_nq (by omega)).trans (gk9 j hj), ak9, (by rw [hQ9]; exact qm9), (by rw [hQ9]; exact ⟨(upd_nq (by decide)).trans gg9.1, (upd_nq (by decide)).trans gg9.2.1, (upd_nq (by decide)).trans gg9.2.2⟩), (by rw [hQ9, hcl]; exact upd_at9), hf9, rT9.y ((yfr_rf _).up (by decide)), (by rw [hQ9]; exact rt9.y ((yfr_rf _).up (by decide))), (by rw [hQ9] at h2c ⊢; exact Nat.le_trans h2c hk9n)⟩
        have hne : ¬ (tk r.2.2.2).1 = 0 := fun z => c_126 ((cur_s cu9).2.2.mpr z)
        exact ih T9 (by rw [hQ9]; exact cu9.kp (fun j _ _ => upd_nq (by omega))) (by rw [hQ9]; exact hk9) I9 (cl := cl + 1) (by rw [hQ9, hcl]) (by omega) (by omega) (by omega) (by rw [hpT, pText_s, y9]; exact if_neg hne)
    · rcases z with ⟨e8, p8, y8, ev, z1, q7, z2, gz, wz, nz, az, tz, kz, Mz, gkz, akz, qmz, frz⟩ | ⟨_, _, _, _, _, ev, _⟩ | ⟨_, _, _, _, ev, _⟩ <;> cases ev
      refine x_caught (r := (RX13, TX13, 8)) (x := ⟨95, 186, 189, 46⟩) rfl rfl (by decide) ck_X14_46 rfl z1 ?_
      exact x_ls _ [0, 1, 2, 3, 4] rfl (l_X14_caught (by omega) (by omega) ⟨gz, wz, nz, az, tz, kz, rf, q7, Mz, gk.k gkz, ak.k akz, qmz, I.2.2.1.tr z2, (rT.m frz).le I.1.2 I.2.2.2.1, s.2.2.2.2.2.2 + 1, by omega, rt.m frz⟩ z1 h13 (fun h9 b9 => Or.inl ⟨e8, p8, (by unfold tellP; rw [hpT, pText_s, y8]), rfl, b9⟩))
