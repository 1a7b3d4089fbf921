/-! the reference: readClause, whole -/
theorem pTerms_s (tk : Nat → Tk) (n : Nat) (q : PQ) (v : RV) (k i : Nat) : pTerms tk (n + 1) q v k i = (match pTerm tk q (szV v (i + 1)) (k + 1) (i + 1) with
    | .inl e => .inl (e.1, nI e.2)
    | .inr (q2, v2, k2) => if (tk k2).1 = 46 then pEndR q2 v2 k2 else if (tk k2).1 = 44 then pTerms tk n q2 v2 k2 (i + 1) else .inl (1, nI (tk k2).2.1)) := rfl
theorem tmL_3 {nt : Nat} {f : Nat → Int32} (h2 : okA nt (f 2)) (h3 : okA nt (f 3)) (hn : nt ≤ 10) : ∀ s p, (s, p) ∈ tmL f → s < 3 := by
  have key : ∀ x p, okA nt x → ∀ s r, (s, r) ∈ argL x p → s < 3 := fun x p hx s r hm => by
    by_cases c : x < 100
    · rw [argL_th c] at hm; cases hm
    · obtain ⟨t, ht, e⟩ := okA_ge hx hn c
      rw [e, argL_sg ht, List.mem_singleton] at hm
      injection hm with e1 _
      omega
  intro s p hm
  unfold tmL at hm
  rcases List.mem_append.mp hm with z | z
  · exact key _ _ h2 s p z
  · exact key _ _ h3 s p z
theorem stL_3 {q : PQ} {v : RV} (hq : q.1 ≤ 10) : ∀ i, (∀ j, j ≤ i → tmD q (tmI v j)) → ∀ s p, (s, p) ∈ stL v i → s < 3
  | 0, h, s, p, hm => tmL_3 (h 0 (Nat.le_refl _)).2.1 (h 0 (Nat.le_refl _)).2.2.1 hq s p hm
  | i + 1, h, s, p, hm => by
    rcases List.mem_append.mp (show (s, p) ∈ stL v i ++ (if v.2.1 i 0 = 0 then [] else tmL (v.2.1 i)) from hm) with z | z
    · exact stL_3 hq i (fun j hj => h j (by omega)) s p z
    · by_cases d : v.2.1 i 0 = 0
      · rw [if_pos d] at z; cases z
      · rw [if_neg d] at z; exact tmL_3 (h (i + 1) (Nat.le_refl _)).2.1 (h (i + 1) (Nat.le_refl _)).2.2.1 hq s p z
set_option maxRecDepth 100000 in
set_option maxHeartbeats 4000000 in
theorem l_X14_terms {G : xG} {h1 : xHp} {g0 : Nat → Int32} {ar0 : Nat → Nat → Int32} {rf : Nat → Option Nat} {rc : Nat} {b : Nat → Nat} {n ts : Nat} {tk : Nat → Tk} {pos : Nat → Nat} (tT : tkT b n ts tk pos) (hn4 : n ≤ 400) (hb : ∀ k, k < n → b k < 256) (h09 : g0 19 = nI n) (hT0 : tpM ar0 b n) {q9 : PQ} {pl : Int32} (hrc : rc < 20) : ∀ (m : Nat) {h : xHp} {q : PQ} {v : RV} {k T : Nat} {g : Nat → Int32} {w : Int64} {ar : Nat → Nat → Int32} {tw kw : Nat → Int64} {m1 : Int32} (_ : MR9 h1 h g0 ar0 rf rc tk pos q v k T (T + 1) T pl XT9 g w ar tw kw) (_ : k < ts) (_ : (tk k).1 = 44 ∨ (tk k).1 = 58) (_ : rdD q v T) (_ : extQ q9 q) (_ : v.1 4 = pl) (_ : T + m = 4), Wx G mX14_readClause (xRm 6 6 31) (xF G (fun o h' => (∃ e p, pTerms tk m q v k T = .inl (e, p) ∧ o = .inr 215 ∧ h'.1 215 = some (sC (nI e) p) ∧ ∃ q', extQ q9 q' ∧ MB h1 h' g0 ar0 rf q') ∨ (∃ x q' v' k', pTerms tk m q v k T = .inr (some x, q', v', k') ∧ o = .inl none ∧ k' < ts ∧ ∃ n9, n9 < 1000 ∧ x = nI n9 ∧ ∃ g' w' ar' tw' kw', MH h' g' w' (.ref h1.2) ar' tw' kw' rf ∧ curT (tk k') (pos (k' + 1)) g' w' ∧ gK g0 g' ∧ aK (apF ar0 212 (upd (ar0 212) n9 1)) ar' ∧ qM q' ar' tw' kw' ∧ (g' 4 = nI q'.1 ∧ g' 5 = nI q'.2.2.1 ∧ g' 6 = nI rc) ∧ frM h1 h') ∨ (∃ q' v' k', pTerms tk m q v k T = .inr (none, q', v', k') ∧ o = .inl none ∧ k' < ts ∧ ∃ g' w' ar' tw' kw', MH h' g' w' (.ref h1.2) ar' tw' kw' (va_up rf rc (some h1.2)) ∧ curT (tk k') (pos (k' + 1)) g' w' ∧ gK g0 g' ∧ aK ar0 ar' ∧ qM q' ar' tw' kw' ∧ (g' 4 = nI q'.1 ∧ g' 5 = nI q'.2.2.1 ∧ g' 6 = nI (rc + 1)) ∧ rmV h' h1.2 v' ∧ frM h1 h')) 6 31) 6 31 129 [(0, .ref 205), (1, .int m1)] [] h := by
  have hO := (tkT_ok tT hn4 hb).1
  have hp := (tkT_ok tT hn4 hb).2.1
  have hTT := fun {ar : Nat → Nat → Int32} (ak : aK ar0 ar) => hTT9 hT0 ak
  intro m
  induction m with
  | zero =>
    intro h q v k T g w ar tw kw m1 MM hk hty hD hx0 hpl hTm
    obtain ⟨M1, cu1, gk1, ak1, qm1, gg1, dr1, sm1, bd1, fr1⟩ := id MM
    obtain ⟨so1, kd1, on1, tz1, lt1, dc1, de1, dl1, dx1⟩ := id dr1
    have h77 := fr1.1.1
    refine x_aload_n dX14_readClause_129 rfl ?_
    have hO1 := hO k hk
    obtain ⟨hk2, hlx2⟩ := tkT_nx tT hk (by omega)
    refine x_callV (As := []) (st := []) lv_X14_143 (k_X14_next M1 (hTT ak1) hlx2 ((gk1 19 (by omega)).trans h09) ((cu1.2.2.2.2.2 (by omega)).2.2)) dX14_readClause_130 M1.o rfl rfl (Nat.le_of_ble_eq_true rfl) ⟨by decide, by decide⟩ ⟨by decide, by decide⟩ (fun v9 h2 z => ?_) (fun _ _ _ _ _ z => by cases z.1)
    obtain ⟨ev, y2, g2, w2, Mx2, s2, cx2⟩ := z
    cases ev
    have MM2 : MR9 h1 h2 g0 ar0 rf rc tk pos q v (k + 1) T (T + 1) T pl XT9 g2 w2 ar tw kw := MM.nx y2 Mx2 s2 cx2
    obtain ⟨M2, cu2, gk2, ak2, qm2, gg2, dr2, sm2, bd2, fr2⟩ := id MM2
    obtain ⟨so2, kd2, on2, tz2, lt2, dc2, de2, dl2, dx2⟩ := id dr2
    refine x_aload_n dX14_readClause_133 rfl ?_
    refine x_callV (As := []) (st := []) lv_X14_196 (k_X14_readTerm4 tT hn4 hb h09 hT0 MM2 hk2 (by omega)) dX14_readClause_134 M2.o rfl rfl (Nat.le_of_ble_eq_true rfl) ⟨by decide, by decide⟩ ⟨by decide, by decide⟩ (fun v9 h3 z => by obtain ⟨_, _, _, ev, _⟩ := z; cases ev) (fun q8 ci9 fs9 h9 hc9 z => ?_)
    obtain ⟨e8, p8, y8, ev, z1, qz, z2, z3⟩ := z
    cases ev
    injection y8 with ya yb
    exact x_out (fun x hx => by cases hx) hc9 (Nat.le_refl _) (Nat.le_refl _) (Or.inl ⟨e8, nI p8, (by rw [← ya, ← yb]; rfl), rfl, z1, qz, hx0.tr z2, z3⟩)
  | succ m ih =>
    intro h q v k T g w ar tw kw m1 MM hk hty hD hx0 hpl hTm
    obtain ⟨M1, cu1, gk1, ak1, qm1, gg1, dr1, sm1, bd1, fr1⟩ := id MM
    obtain ⟨so1, kd1, on1, tz1, lt1, dc1, de1, dl1, dx1⟩ := id dr1
    have h77 := fr1.1.1
    refine x_aload_n dX14_readClause_129 rfl ?_
    have hO1 := hO k hk
    obtain ⟨hk2, hlx2⟩ := tkT_nx tT hk (by omega)
    refine x_callV (As := []) (st := []) lv_X14_143 (k_X14_next M1 (hTT ak1) hlx2 ((gk1 19 (by omega)).trans h09) ((cu1.2.2.2.2.2 (by omega)).2.2)) dX14_readClause_130 M1.o rfl rfl (Nat.le_of_ble_eq_true rfl) ⟨by decide, by decide⟩ ⟨by decide, by decide⟩ (fun v9 h2 z => ?_) (fun _ _ _ _ _ z => by cases z.1)
    obtain ⟨ev, y2, g2, w2, Mx2, s2, cx2⟩ := z
    cases ev
    have MM2 : MR9 h1 h2 g0 ar0 rf rc tk pos q v (k + 1) T (T + 1) T pl XT9 g2 w2 ar tw kw := MM.nx y2 Mx2 s2 cx2
    obtain ⟨M2, cu2, gk2, ak2, qm2, gg2, dr2, sm2, bd2, fr2⟩ := id MM2
    obtain ⟨so2, kd2, on2, tz2, lt2, dc2, de2, dl2, dx2⟩ := id dr2
    refine x_aload_n dX14_readClause_133 rfl ?_
    refine x_callV (As := []) (st := []) lv_X14_196 (k_X14_readTerm tT hn4 hb h09 hT0 MM2 hk2 rfl (by omega) hD) dX14_readClause_134 M2.o rfl rfl (Nat.le_of_ble_eq_true rfl) ⟨by decide, by decide⟩ ⟨by decide, by decide⟩ (fun v9 h3 z => ?_) (fun q8 ci9 fs9 h9 hc9 z => ?_)
    · rcases z with ⟨_, _, _, ev, _⟩ | ⟨q3, v3, k3, y3, ev, hk3, g3, w3, ar3, tw3, kw3, MN3⟩ <;> cases ev
      obtain ⟨M3, cu3, gk3, ak3, qm3, gg3, dr3, sm3, bd3, fr3⟩ := id MN3
      obtain ⟨so3, kd3, on3, tz3, lt3, dc3, de3, dl3, dx3⟩ := id dr3
      obtain ⟨hD3, hx3, hke3, hkk3⟩ := rdD_term y3 hp hD (by omega)
      have hv3 : v3.1 = v.1 := hke3 0 (by omega)
      have hsz : v3.2.2.1 = T + 1 := hD3.1.2.1.1
      refine x_aload_n dX14_readClause_137 rfl ?_
      refine x_bipush (v := 44) dX14_readClause_138 (by decide) ?_
      refine x_callV (As := [.int (nI 44)]) (st := []) lv_X14_179 (k_X14_is M3 cu3 (hO k3 hk3).1 (by omega) (by omega)) dX14_readClause_140 M3.o rfl rfl (Nat.le_of_ble_eq_true rfl) ⟨by decide, by decide⟩ ⟨by decide, by decide⟩ (fun v9 h9 z => ?_) (fun _ _ _ _ _ z => by obtain ⟨_, z, _⟩ := z; cases z)
      obtain ⟨bq140, ev, eh, hq140⟩ := z
      rw [eh]
      cases ev
      refine x_istore_n [(0, .ref 205), (1, .int (bi bq140))] dX14_readClause_143 (by decide) rfl rfl ?_
      refine x_goto 125 dX14_readClause_144 (by decide) ?_
      refine x_iload_n dX14_readClause_125 rfl ?_
      refine x_if_eq 147 dX14_readClause_126 (by decide) (fun c_126 => ?_) (fun c_126 => ?_)
      · have c_126 := bi_f c_126
        refine x_aload_n dX14_readClause_147 rfl ?_
        refine x_bipush (v := 46) dX14_readClause_148 (by decide) ?_
        refine x_callV (As := [.int (nI 46)]) (st := []) lv_X14_179 (k_X14_is M3 cu3 (hO k3 hk3).1 (by omega) (by omega)) dX14_readClause_150 M3.o rfl rfl (Nat.le_of_ble_eq_true rfl) ⟨by decide, by decide⟩ ⟨by decide, by decide⟩ (fun v9 h9 z => ?_) (fun _ _ _ _ _ z => by obtain ⟨_, z, _⟩ := z; cases z)
        obtain ⟨bq150, ev, eh, hq150⟩ := z
        rw [eh]
        cases ev
        refine x_if_ne 166 dX14_readClause_153 (by decide) (fun c_153 => ?_) (fun c_153 => ?_)
        · have c_153 := bi_t c_153
          refine x_iconst (v := 0) dX14_readClause_166 (by decide) ?_
          refine x_istore_n [(0, .ref 205), (1, .int (bi bq140)), (2, .int 0)] dX14_readClause_167 (by decide) rfl rfl ?_
          have e9 : pTerms tk (m + 1) q v k T = pEndR q3 v3 k3 := by rw [pTerms_s, y3]; simp only []; rw [if_pos (hq150.mp c_153)]
          rw [e9]
          obtain ⟨B, hB1, hB2, hB3⟩ := bd3
          have hDj : ∀ j, j ≤ T + 1 → tmD q3 (tmI v3 j) := fun j hj => by by_cases e : j = T + 1; (subst e; exact hD3.2); exact hD3.1.2.2.2.1 j (by omega)
          obtain ⟨ls1, ls2⟩ := ls_fst (q := q3) (v := v3) (B := B) (by rw [hsz]; exact hB3) hD3.1.1.1 (by rw [hsz]; exact hDj) (T + 1) (by omega)
          have hall : ∀ (j s : Nat) (p : Int32), (stL v3 (T + 1))[j]? = some (s, p) → s < 3 := fun j s p hj => stL_3 hD3.1.1.1 (T + 1) hDj s p (List.mem_of_getElem? hj)
          refine l_X14_stood MN3 hk3 hB1 hB2 (by have := stL_ln v3 (T + 1); omega) hall (fun p hp => Or.inl ⟨5, p, (by unfold pEndR; rw [hsz, ls1, if_neg (fun z => by rw [(fst_ne ls2).mp z] at hp; cases hp), hp]; rfl), rfl, xup_self _ _ _, q3, hx0.tr hx3, MN3.bad⟩) (fun hnone => ?_) ((stL v3 (T + 1)).length + 1) 0 (Nat.zero_le _) (by omega) (fun i9 r9 o9 hi9 => absurd hi9 (by omega))
          have er : pEndR q3 v3 k3 = .inr (none, q3, v3, k3 + 1) := by unfold pEndR; rw [hsz, ls1, hnone]; rfl
          refine x_aload_n dX14_readClause_210 rfl ?_
          refine x_get lf_X14_42 dX14_readClause_211 M3.o rfl ?_
          refine x_aload_n dX14_readClause_214 rfl ?_
          refine x_get lf_X14_93 dX14_readClause_215 M3.o rfl ?_
          refine x_top (y := nI rc) gg3.2.2 ?_
          refine x_aload_n dX14_readClause_218 rfl ?_
          refine x_get lf_X14_146 dX14_readClause_219 M3.o rfl ?_
          refine x_aastN (ci := 12) (j := rc) M3.r rfl dc3.1 rfl rfl (by omega) (by decide) dX14_readClause_222 ?_
          refine x_aload_n dX14_readClause_223 rfl ?_
          refine x_dup dX14_readClause_224 rfl ?_
          refine x_get lf_X14_93 dX14_readClause_225 ((xup_ne (by omega)).trans M3.o) rfl ?_
          refine x_top (y := nI rc) gg3.2.2 ?_
          refine x_iconst (v := 1) dX14_readClause_228 (by decide) ?_
          refine x_iadd dX14_readClause_229 ?_
          refine x_top (y := nI (rc + 1)) (by rw [show (1 : Int32) = nI 1 from rfl, nI_add]) ?_
          refine x_put (mL (upd g3 6 (nI (rc + 1))) w3 (.ref h1.2)) lf_X14_93 dX14_readClause_230 ((xup_ne (by omega)).trans M3.o) (Nat.le_of_ble_eq_true rfl) rfl rfl rfl ?_
          refine x_aload_n dX14_readClause_233 rfl ?_
          obtain ⟨hk5, hlx5⟩ := tkT_nx tT hk3 (by rw [hq150.mp c_153]; decide)
          refine x_callV (As := []) (st := []) lv_X14_143 (k_X14_next ((M3.r9 (va_up rf rc (some h1.2))).g9 (upd g3 6 (nI (rc + 1))) w3 (.ref h1.2)) (hTT ak3) hlx5 ((upd_nq (by decide)).trans ((gk3 19 (by omega)).trans h09)) ((upd_nq (by decide)).trans ((cu3.2.2.2.2.2 (by rw [hq150.mp c_153]; decide)).2.2))) dX14_readClause_234 (xup_self _ _ _) rfl rfl (Nat.le_of_ble_eq_true rfl) ⟨by decide, by decide⟩ ⟨by decide, by decide⟩ (fun v9 h5 z => ?_) (fun _ _ _ _ _ z => by cases z.1)
          obtain ⟨ev, y5, g5, w5, M5, s5, cx5⟩ := z
          cases ev
          have Y5 := (((yfr_rf _).up (by decide)).up (by decide)).tr y5
          obtain ⟨so5, kd5, on5, tz5, lt5, dc5, de5, _, _⟩ := dr3.y (by have := fr3.1.1; omega) Y5
          exact x_vret dX14_readClause_237 rfl (Nat.le_refl _) (Nat.le_refl _) (Or.inr (Or.inr ⟨q3, v3, k3 + 1, er, rfl, hk5, g5, w5, ar3, tw3, kw3, M5, cx5, (gk3.up (by omega)).same s5, ak3, qm3, ⟨(s5 4 (by omega)).trans ((upd_nq (by decide)).trans gg3.1), (s5 5 (by omega)).trans ((upd_nq (by decide)).trans gg3.2.1), (s5 6 (by omega)).trans upd_at9⟩, ⟨so5, kd5, on5, tz5, lt5, (by rw [hsz, congrFun hv3 4, hpl]; exact dc5), (fun j hj => de5 j (by omega))⟩, fr3.y Y5⟩))
        · have c_153 := bi_f c_153
          refine x_aload_n dX14_readClause_156 rfl ?_
          refine x_iconst (v := 1) dX14_readClause_157 (by decide) ?_
          refine x_aload_n dX14_readClause_158 rfl ?_
          refine x_get lf_X14_114 dX14_readClause_159 M3.o rfl ?_
          refine x_callV (As := [.int 1, .int (g3 22)]) (st := []) lv_X14_136 (k_X14_stop M3) dX14_readClause_162 M3.o rfl rfl (Nat.le_of_ble_eq_true rfl) ⟨by decide, by decide⟩ ⟨by decide, by decide⟩ (fun v9 h9 z => ?_) (fun _ _ _ _ _ z => by cases z.1)
          obtain ⟨ev, eh⟩ := z
          rw [eh]
          cases ev
          refine x_athrow dX14_readClause_165 (x_out (fun x hx => by cases hx) (xup_self _ _ _) (Nat.le_refl _) (Nat.le_refl _) (Or.inl ⟨1, nI (tk k3).2.1, (by rw [pTerms_s, y3]; simp only []; rw [if_neg (fun z => by rw [hq150.mpr z] at c_153; cases c_153), if_neg (fun z => by rw [hq140.mpr z] at c_126; cases c_126)]), rfl, (by rw [← cu3.1]; exact xup_self _ _ _), q3, hx0.tr hx3, MN3.bad⟩))
      · have c_126 := bi_t c_126
        have e9 : pTerms tk (m + 1) q v k T = pTerms tk m q3 v3 k3 (T + 1) := by rw [pTerms_s, y3]; simp only []; rw [if_neg (by rw [hq140.mp c_126]; decide), if_pos (hq140.mp c_126)]
        rw [e9]
        exact ih MN3 hk3 (Or.inl (hq140.mp c_126)) hD3 (hx0.tr hx3) ((congrFun hv3 4).trans hpl) (by omega)
    · rcases z with ⟨e8, p8, y8, ev, z1, qz, z2, z3⟩ | ⟨_, _, _, _, ev, _⟩ <;> cases ev
      exact x_out (fun x hx => by cases hx) hc9 (Nat.le_refl _) (Nat.le_refl _) (Or.inl ⟨e8, nI p8, (by rw [pTerms_s, y8]), rfl, z1, qz, hx0.tr z2, z3⟩)
