/-! the reference: tell, the LAYERS of its RULES -/
theorem gT_rf (g : Nat → Int32) : gT g g := fun _ _ => rfl
theorem rmT.le {h : xHp} {rf : Nat → Option Nat} {n m : Nat} {V V' : Nat → RV} (r : rmT h rf n V) (hm : m ≤ n) (e : ∀ r, r < m → V r = V' r) : rmT h rf m V' := fun k hk => by
  obtain ⟨a, a1, a2, a3, a4⟩ := r k (by omega)
  exact ⟨a, a1, a2, a3, e k hk ▸ a4⟩
/-- the reference between two CLAUSES of a text -/
def MT (n : Nat) (h0 : xHp) (g0 : Nat → Int32) (ar0 : Nat → Nat → Int32) (S : Nat → Bool) (s : TS) (h : xHp) (g : Nat → Int32) (w : Int64) (nw : Value) (ar : Nat → Nat → Int32) (tw kw : Nat → Int64) (rf : Nat → Option Nat) : Prop := MH h g w nw ar tw kw rf ∧ gT g0 g ∧ aT9 ar0 ar ∧ qM s.2.2.2.2.1 ar tw kw ∧ (g 4 = nI s.2.2.2.2.1.1 ∧ g 5 = nI s.2.2.2.2.1.2.2.1 ∧ g 6 = nI s.1) ∧ g 30 = nI s.2.2.2.2.2.2 ∧ (∀ j, j < 1000 → ar 212 j = bi (addF S s.2.2.2.1 s.2.2.1 j)) ∧ rmT h rf s.1 s.2.1 ∧ rfT h0 h s.2.2.2.2.2.2 ∧ 2 * s.2.2.2.2.2.2 ≤ n
def TG (n : Nat) (h0 : xHp) (g0 : Nat → Int32) (ar0 : Nat → Nat → Int32) (S : Nat → Bool) (s : TS) (h' : xHp) : Prop := ∃ (g : Nat → Int32) (w : Int64) (nw : Value) (ar : Nat → Nat → Int32) (tw kw : Nat → Int64) (rf : Nat → Option Nat), MH h' g w nw ar tw kw rf ∧ (∀ j, j = 0 ∨ j = 3 ∨ (6 < j ∧ j < 20) ∨ 30 < j → g j = g0 j) ∧ (g 1 = 0 ∧ g 2 = -1 ∧ g 4 = nI s.2.2.2.2.1.1 ∧ g 5 = nI s.2.2.2.2.1.2.2.1 ∧ g 6 = nI s.1) ∧ aT9 ar0 ar ∧ qM s.2.2.2.2.1 ar tw kw ∧ (∀ j, j < 1000 → ar 212 j = bi (addF S s.2.2.2.1 s.2.2.1 j)) ∧ rmT h' rf s.1 s.2.1 ∧ ∃ c, 2 * c ≤ n + 2 ∧ rfT h0 h' c
def tlQ (tk : Nat → Tk) (n : Nat) (h0 : xHp) (g0 : Nat → Int32) (ar0 : Nat → Nat → Int32) (rc : Nat) (V : Nat → RV) (q : PQ) (S : Nat → Bool) (s0 : TS) : Option Value ⊕ Nat → xHp → Prop := fun o h' => (∃ e p, tellP tk rc s0 (.inl (e, p)) ∧ o = .inl (some (.int (-1))) ∧ TB n h0 g0 ar0 rc V q S e p h') ∨ ∃ s, tellP tk rc s0 (.inr s) ∧ tsI rc V q s ∧ o = .inl (some (.int (nI s.2.2.2.2.2.2))) ∧ TG n h0 g0 ar0 S s h'
theorem MT.u {n : Nat} {h0 : xHp} {g0 : Nat → Int32} {ar0 : Nat → Nat → Int32} {S : Nat → Bool} {s : TS} {h : xHp} {g : Nat → Int32} {w : Int64} {nw : Value} {ar : Nat → Nat → Int32} {tw kw : Nat → Int64} {rf : Nat → Option Nat} (T : MT n h0 g0 ar0 S s h g w nw ar tw kw rf) {rc : Nat} {V : Nat → RV} {q : PQ} (I : tsI rc V q s) {e p : Int32} : MU n h0 g0 ar0 rc V q (xup h 215 (sC e p)) := by
  obtain ⟨M, gk, ak, qm, gg, g30, hf, rT, rt, hn⟩ := T
  exact ⟨_, _, _, _, _, _, _, s.2.2.2.2.1, M.s9 _ _, gk, ak, qm, I.2.2.1, (rT.le I.1.2 I.2.2.2.1).y ((yfr_rf _).up (by decide)), _, by omega, rt.y ((yfr_rf _).up (by decide))⟩
theorem MT.ly {n : Nat} {h0 : xHp} {g0 : Nat → Int32} {ar0 : Nat → Nat → Int32} {S : Nat → Bool} {s : TS} {h : xHp} {g : Nat → Int32} {w : Int64} {nw : Value} {ar : Nat → Nat → Int32} {tw kw : Nat → Int64} {rf : Nat → Option Nat} (T : MT n h0 g0 ar0 S s h g w nw ar tw kw rf) (lf : Nat → Int32) : MT n h0 g0 ar0 S s (xup h 211 (.inl (0, 10, .inl lf))) g w nw (apF ar 211 lf) tw kw rf := by
  obtain ⟨M, gk, ak, qm, gg, g30, hf, rT, rt, hn⟩ := T
  exact ⟨M.a9 (c := 211) rfl _, gk, fun c hc => by rw [apF_ne (by omega)]; exact ak c hc, qm.ap (by decide) (by decide) (by decide), gg, g30, fun j hj => by rw [apF_ne (by decide)]; exact hf j hj, rT.y ((yfr_rf _).up (by decide)), rt.y ((yfr_rf _).up (by decide)), hn⟩
set_option maxRecDepth 100000 in
set_option maxHeartbeats 4000000 in
theorem l_X14_own {G : xG} {tk : Nat → Tk} {mc ms uc us n rc : Nat} {h0 : xHp} {g0 : Nat → Int32} {ar0 : Nat → Nat → Int32} {V : Nat → RV} {q : PQ} {S : Nat → Bool} {s0 s : TS} (huc : uc ≤ mc) (hus : us ≤ ms) (h13 : ∀ j, j < 1000 → ar0 213 j = bi (S j)) {S0 : Nat → Nat} (hs0 : Sat V rc S0) (I : tsI rc V q s) (hpT : pText tk 201 s0 = .inr s) {m5 : Int32} : ∀ (m r : Nat) {h : xHp} {g : Nat → Int32} {w : Int64} {nw : Value} {ar : Nat → Nat → Int32} {tw kw : Nat → Int64} {rf : Nat → Option Nat} (_ : MT n h0 g0 ar0 S s h g w nw ar tw kw rf), rc ≤ r → r ≤ s.1 → s.1 + 1 ≤ r + m → (∀ j, rc ≤ j → j < r → ∃ S, Sat s.2.1 (j + 1) S) → Wx G mX14_tell (xRm 7 mc ms) (xF G (tlQ tk n h0 g0 ar0 rc V q S s0) mc ms) uc us 143 [(0, .ref 205), (1, .int (nI n)), (2, .int (nI q.1)), (3, .int (nI q.2.2.1)), (4, .int (nI rc)), (5, .int m5), (6, .int (nI r))] [] h := by
  have h20 := I.1.1
  intro m
  induction m with
  | zero => exact fun r {h} {g} {w} {nw} {ar} {tw} {kw} {rf} T h1 h2 h3 => absurd h3 (by omega)
  | succ m ih =>
    intro r h g w nw ar tw kw rf T hr0 hk hk2 hsat
    obtain ⟨M, gk, ak, qm, gg, g30, hf, rT, rt, hn⟩ := id T
    refine x_iload dX14_tell_143 rfl ?_
    refine x_aload_n dX14_tell_145 rfl ?_
    refine x_get lf_X14_93 dX14_tell_146 M.o rfl ?_
    refine x_top (y := nI (s.1)) gg.2.2 ?_
    refine x_icmp_ge 186 dX14_tell_149 (by decide) (fun c_149 => ?_) (fun c_149 => ?_)
    · rw [nI_leI (by omega) (by omega)] at c_149
      refine x_goto 263 dX14_tell_186 (by decide) ?_
      refine x_aload_n dX14_tell_263 rfl ?_
      refine x_aload_n dX14_tell_264 rfl ?_
      refine x_get lf_X14_220 dX14_tell_265 M.o rfl ?_
      refine x_top (y := nI (s.2.2.2.2.2.2)) g30 ?_
      refine x_callV (As := [.int (nI (s.2.2.2.2.2.2))]) (st := []) lv_X14_229 (k_X14_done M) dX14_tell_268 M.o rfl rfl (Nat.le_of_ble_eq_true rfl) ⟨Nat.le_of_ble_eq_true rfl, Nat.le_of_ble_eq_true rfl⟩ ⟨huc, hus⟩ (fun v9 h9 z => ?_) (fun _ _ _ _ _ z => by cases z.1)
      obtain ⟨ev, y9, M9⟩ := z
      cases ev
      refine x_iret dX14_tell_271 rfl rfl huc hus (Or.inr ⟨s, ?_, I, rfl, _, _, _, _, _, _, _, M9, fun j hj => ?_, ⟨rfl, rfl, gg.1, gg.2.1, gg.2.2⟩, ak, qm, hf, rT.y y9, _, Nat.le_trans hn (by omega), rt.y y9⟩)
      · unfold tellP; rw [hpT]
        refine Or.inl ⟨?_, rfl⟩
        by_cases e : s.1 = rc
        · exact ⟨S0, by rw [e]; exact Sat_cong I.2.2.2.1 hs0⟩
        · obtain ⟨S9, h9⟩ := hsat (s.1 - 1) (by omega) (by omega)
          exact ⟨S9, by rw [show s.1 - 1 + 1 = s.1 by omega] at h9; exact h9⟩
      · rw [upd_nq (by omega), upd_nq (by omega)]; exact gk j (by omega)
    · rw [nI_leI (by omega) (by omega)] at c_149
      refine x_aload_n dX14_tell_152 rfl ?_
      refine x_iload dX14_tell_153 rfl ?_
      refine x_iconst (v := 1) dX14_tell_155 (by decide) ?_
      refine x_iadd dX14_tell_156 ?_
      refine x_top (y := nI (r + 1)) (nI_add r 1) ?_
      have hr9 : r < s.1 := by omega
      refine x_callV (As := [.int (nI (r + 1))]) (st := []) lv_X14_226 (k_X14_layers M (by omega) (fun k hk => (I.2.2.2.2.1 k (by omega)).2.1) (rT.le (m := r + 1) (V' := s.2.1) (by omega) (fun _ _ => rfl))) dX14_tell_157 M.o rfl rfl (Nat.le_of_ble_eq_true rfl) ⟨Nat.le_of_ble_eq_true rfl, Nat.le_of_ble_eq_true rfl⟩ ⟨huc, hus⟩ (fun v9 h9 z => ?_) (fun _ _ _ _ _ z => by obtain ⟨_, _, z, _⟩ := z; cases z)
      obtain ⟨b9, lf9, ev, eh, hb1, hb0⟩ := z
      rw [eh]
      cases ev
      have T2 := T.ly lf9
      generalize xup h 211 (.inl (0, 10, .inl lf9)) = h2 at T2 ⊢
      obtain ⟨M2, gk2, ak2, qm2, gg2, g302, hf2, rT2, rt2, hn2⟩ := id T2
      obtain ⟨a, hra, ha1, ha2, so, kd, on, tz, lt, rcr, rI⟩ := rT2 r hr9
      refine x_if_ne 180 dX14_tell_160 (by decide) (fun c_160 => ?_) (fun c_160 => ?_)
      · have c_160 := bi_t c_160
        refine x_iinc (v := nI (r + 1)) [(0, .ref 205), (1, .int (nI n)), (2, .int (nI q.1)), (3, .int (nI q.2.2.1)), (4, .int (nI rc)), (5, .int m5), (6, .int (nI (r + 1)))] dX14_tell_180 rfl (nI_add r 1) (by decide) rfl rfl ?_
        refine x_goto 143 dX14_tell_183 (by decide) ?_
        exact ih (r + 1) T2 (by omega) (by omega) (by omega) (fun j h1 h2 => by by_cases e : j = r; (rw [e]; obtain ⟨L9, l9⟩ := hb1 (by first | exact c_160 | exact bi_t c_160); exact ⟨L9, l9.2.2.1⟩); exact hsat j h1 (by omega))
      · have c_160 := bi_f c_160
        refine x_aload_n dX14_tell_163 rfl ?_
        refine x_bipush (v := 6) dX14_tell_164 (by decide) ?_
        refine x_aload_n dX14_tell_166 rfl ?_
        refine x_get lf_X14_42 dX14_tell_167 M2.o rfl ?_
        refine x_iload dX14_tell_170 rfl ?_
        refine x_aaldN (b := a) (j := r) M2.r rfl rfl (by omega) (by decide) hra dX14_tell_172 ?_
        refine x_get lf_X14_187 dX14_tell_173 rcr.1 rfl ?_
        refine x_callV (As := [.int 6, .int ((s.2.1 r).1 4)]) (st := []) lv_X14_136 (k_X14_stop M2) dX14_tell_176 M2.o rfl rfl (Nat.le_of_ble_eq_true rfl) ⟨Nat.le_of_ble_eq_true rfl, Nat.le_of_ble_eq_true rfl⟩ ⟨huc, hus⟩ (fun v9 h9 z => ?_) (fun _ _ _ _ _ z => by cases z.1)
        obtain ⟨ev, eh⟩ := z
        rw [eh]
        cases ev
        refine x_athrow dX14_tell_179 (x_caught (r := (RX13, TX13, 8)) (x := ⟨95, 186, 189, 46⟩) rfl rfl (by decide) ck_X14_46 rfl (xup_self _ _ _) ?_)
        exact x_ls _ [0, 1, 2, 3, 4] rfl (l_X14_caught (e := 6) huc hus (T2.u I) (xup_self _ _ _) h13 (fun h9 b9 => Or.inl ⟨6, (s.2.1 r).1 4, (by unfold tellP; rw [hpT]; exact Or.inr ⟨r, hr9, ⟨hr0, hb0 (by first | exact c_160 | exact bi_f c_160), hsat⟩, rfl⟩), rfl, b9⟩))
