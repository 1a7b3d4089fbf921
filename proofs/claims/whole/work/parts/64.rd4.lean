/-! RuleCourt$Reader: readAtom -/
theorem not_w {w : List Nat} (h : okW w) (hl : w.length ≤ 8) : lN (xw w) = 7630702 ↔ w = NOTW := by
  have e : (7630702 : Int64) = lN (xw NOTW) := by decide
  have ho : okW NOTW := by intro c hc; simp at hc; omega
  rw [e, pk_lEQ (xw_63 h hl) (xw_63 ho (by decide))]
  exact ⟨fun z => xw_inj h ho z, fun z => by rw [z]⟩
theorem pArg_keep {tk : Nat → Tk} {q q' : PQ} {v v' : RV} {k i : Nat} {b : Bool} (h : pArg tk q v k i b = .inr (q', v')) : tmI v' i 1 = tmI v i 1 ∧ tmI v' i 4 = tmI v i 4 ∧ v'.2.2.1 = v.2.2.1 := by
  have key : ∀ (u : RV) x p, (tmI u i = tmI v i ∧ u.2.2.1 = v.2.2.1) → tmI (stT u i (tArg (tmI v i) b x p)) i 1 = tmI v i 1 ∧ tmI (stT u i (tArg (tmI v i) b x p)) i 4 = tmI v i 4 ∧ (stT u i (tArg (tmI v i) b x p)).2.2.1 = v.2.2.1 := fun u x p hu => by
    rw [stT_tm, stT_sz]
    exact ⟨by cases b <;> rfl, by cases b <;> rfl, hu.2⟩
  unfold pArg at h
  split at h
  · split at h
    · injection h with h; injection h with h1 h2; rw [← h2]; exact key v _ _ ⟨rfl, rfl⟩
    · split at h
      · injection h with h; injection h with h1 h2; rw [← h2]; exact key v _ _ ⟨rfl, rfl⟩
      · cases h
  · split at h
    · split at h
      · injection h with h; injection h with h1 h2; rw [← h2]; exact key v _ _ ⟨rfl, rfl⟩
      · split at h
        · injection h with h; injection h with h1 h2; rw [← h2]; exact key (addS v (cS (tk k))) _ _ ⟨by cases i <;> rfl, rfl⟩
        · cases h
    · cases h
theorem pArg_ty {tk : Nat → Tk} {q q' : PQ} {v v' : RV} {k i : Nat} {b : Bool} (h : pArg tk q v k i b = .inr (q', v')) : 2 ≤ (tk k).1 := by
  unfold pArg at h
  split at h
  · omega
  · split at h
    · omega
    · cases h
theorem kdV_1 (v : RV) (i kd pl : Nat) : tmI (kdV v i kd pl) i 1 = nI kd ∧ tmI (kdV v i kd pl) i 4 = nI pl := by
  unfold kdV; rw [stT_tm]; exact ⟨rfl, rfl⟩
theorem pHas_ext {q0 q q' : PQ} {f : Nat → Int32} {kd pl : Nat} {nw : Bool} (h : extQ q0 q) (hk : nw = true → q0.2.2.1 ≤ kd) (y : pHas q f kd pl nw = .inr q') : extQ q0 q' := by
  unfold pHas at y
  by_cases c : (if nw = true then pcU q kd (plC f) else q).2.2.2.2 kd = plC f
  · rw [if_pos c] at y
    injection y with y
    rw [← y]
    cases nw with
    | true => exact extQ_pc h (hk rfl)
    | false => exact h
  · rw [if_neg c] at y; cases y
set_option maxRecDepth 100000 in
set_option maxHeartbeats 4000000 in
theorem l_X7_at1 {G : xG} {h0 h : xHp} {rc : Nat} {fc : Int32} {lf : Nat → Int32} {ra : Nat → Nat} {V : Nat → RV} {fr : Nat → Int32} {fn : Nat} {fs : Nat → Int32} {cl : Nat} {ts : Nat} {ty : Nat → Int32} {st : Nat → Int32} {wd : Nat → Int64} {q : PQ} {v : RV} {k : Nat} {flt plc : Int32} (R : RS h0 h rc fc lf ra V fr fn fs cl ts ty st wd q v k flt plc) {tk : Nat → Tk} (O : tkO ts tk ty st wd) (hk : k < ts) {i kd pl kn : Nat} (hi : i ≤ 4) (hkd : kd < 10) (hkn : kn < 11) (hf1 : tmI v i 1 = nI kd) (hf4 : tmI v i 4 = nI pl) {nw : Bool} (hnw9 : nw = true ↔ kd = kn) {q0 : PQ} (hx0 : extQ q0 q) (hk0 : nw = true → q0.2.2.1 ≤ kd) : Wx G mX7_readAtom (xRm 3 0 0) (xF G (fun o h' => (∃ e p, pAt1 tk q v k i kd pl nw = .inl (e, p) ∧ o = .inl (some (.int 0)) ∧ ∃ q' v' k', extQ q0 q' ∧ RS h0 h' rc fc lf ra V fr fn fs cl ts ty st wd (q') (v') (k') (nI e) (nI p)) ∨ (∃ q' v' k', pAt1 tk q v k i kd pl nw = .inr (q', v', k') ∧ o = .inl (some (.int 1)) ∧ extQ q0 q' ∧ k' < ts ∧ RS h0 h' rc fc lf ra V fr fn fs cl ts ty st wd (q') (v') (k') flt plc)) 0 0) 0 0 110 [(0, .ref 181), (1, .ref (ra rc)), (2, .ref (tAd (ra rc) i)), (3, .int (nI kn))] [] h := by
  have hts := O.1.2
  have hO := O.2.2.2.2
  refine x_aload_n dX7_readAtom_110 rfl ?_
  refine x_callV (As := []) (st := []) lv_X7_63 (k_X7_type R O hk) dX7_readAtom_111 R.r rfl rfl (Nat.le_of_ble_eq_true rfl) ⟨by decide, by decide⟩ ⟨by decide, by decide⟩ (fun v9 h9 z => ?_) (fun _ _ _ _ _ z => by cases z.1)
  obtain ⟨ev, eh⟩ := z
  rw [eh]
  cases ev
  have tb111 := (O.2.2.2.2 (k) hk).1
  refine x_bipush (v := 40) dX7_readAtom_114 (by decide) ?_
  refine x_icmp_ne 201 dX7_readAtom_116 (by decide) (fun c_116 => ?_) (fun c_116 => ?_)
  · rw [show (40 : Int32) = nI 40 from rfl, nI_eq (by omega) (by omega)] at c_116
    refine x_aload_n dX7_readAtom_201 rfl ?_
    refine x_aload_n dX7_readAtom_202 rfl ?_
    refine x_aload_n dX7_readAtom_203 rfl ?_
    refine x_get lf_X7_154 dX7_readAtom_204 (R.tm hi) rfl ?_
    refine x_top (y := nI kd) hf1 ?_
    refine x_iload_n dX7_readAtom_207 rfl ?_
    refine x_icmp_ne 215 dX7_readAtom_208 (by decide) (fun c_208 => ?_) (fun c_208 => ?_)
    · rw [nI_eq (by omega) (by omega)] at c_208
      refine x_iconst (v := 0) dX7_readAtom_215 (by decide) ?_
      have hnw : nw = false := by cases e : nw <;> first | rfl | exact absurd (hnw9.mp e) (by omega)
      refine x_top (y := bi nw) (by rw [hnw]; rfl) ?_
      refine x_callV (As := [.ref (tAd (ra rc) i), .int (bi nw)]) (st := []) lv_X7_181 (k_X7_hasItsPlaces R hi hkd hf1 hf4) dX7_readAtom_216 R.r rfl rfl (Nat.le_of_ble_eq_true rfl) ⟨by decide, by decide⟩ ⟨by decide, by decide⟩ (fun v9 g9 z => ?_) (fun _ _ _ _ _ z => by rcases z with ⟨_, z, _⟩ | ⟨_, _, z, _⟩ <;> cases z)
      rcases z with ⟨y9, ev, S9⟩ | ⟨q9, y9, ev, S9⟩ <;> cases ev
      · exact x_iret dX7_readAtom_219 rfl rfl (Nat.le_refl _) (Nat.le_refl _) (Or.inl ⟨2, pl, (by unfold pAt1; rw [if_neg c_116]; unfold pFin; rw [y9]), rfl, _, _, _, hx0, S9⟩)
      · exact x_iret dX7_readAtom_219 rfl rfl (Nat.le_refl _) (Nat.le_refl _) (Or.inr ⟨q9, _, _, (by unfold pAt1; rw [if_neg c_116]; unfold pFin; rw [y9]), rfl, pHas_ext hx0 hk0 y9, hk, S9⟩)
    · rw [nI_eq (by omega) (by omega)] at c_208
      refine x_iconst (v := 1) dX7_readAtom_211 (by decide) ?_
      refine x_goto 216 dX7_readAtom_212 (by decide) ?_
      have hnw : nw = true := hnw9.mpr (by omega)
      refine x_top (y := bi nw) (by rw [hnw]; rfl) ?_
      refine x_callV (As := [.ref (tAd (ra rc) i), .int (bi nw)]) (st := []) lv_X7_181 (k_X7_hasItsPlaces R hi hkd hf1 hf4) dX7_readAtom_216 R.r rfl rfl (Nat.le_of_ble_eq_true rfl) ⟨by decide, by decide⟩ ⟨by decide, by decide⟩ (fun v9 g9 z => ?_) (fun _ _ _ _ _ z => by rcases z with ⟨_, z, _⟩ | ⟨_, _, z, _⟩ <;> cases z)
      rcases z with ⟨y9, ev, S9⟩ | ⟨q9, y9, ev, S9⟩ <;> cases ev
      · exact x_iret dX7_readAtom_219 rfl rfl (Nat.le_refl _) (Nat.le_refl _) (Or.inl ⟨2, pl, (by unfold pAt1; rw [if_neg c_116]; unfold pFin; rw [y9]), rfl, _, _, _, hx0, S9⟩)
      · exact x_iret dX7_readAtom_219 rfl rfl (Nat.le_refl _) (Nat.le_refl _) (Or.inr ⟨q9, _, _, (by unfold pAt1; rw [if_neg c_116]; unfold pFin; rw [y9]), rfl, pHas_ext hx0 hk0 y9, hk, S9⟩)
  · rw [show (40 : Int32) = nI 40 from rfl, nI_eq (by omega) (by omega)] at c_116
    refine x_aload_n dX7_readAtom_119 rfl ?_
    refine x_dup dX7_readAtom_120 rfl ?_
    refine x_get lf_X7_48 dX7_readAtom_121 R.r rfl ?_
    refine x_iconst (v := 1) dX7_readAtom_124 (by decide) ?_
    refine x_iadd dX7_readAtom_125 ?_
    refine x_top (y := nI (k + 1)) (nI_add k 1) ?_
    refine x_put [.ref 3, .ref 182, .int (nI (k + 1)), .ref 186, .int (nI fn), .int (nI cl), .int flt, .int plc] lf_X7_48 dX7_readAtom_126 R.r (Nat.le_of_ble_eq_true rfl) rfl rfl rfl ?_
    have hk1 := tkO_next O hk (by omega)
    have S1 := R.rd (k + 1) flt plc
    generalize xup h 181 (.inr (7, [.ref 3, .ref 182, .int (nI (k + 1)), .ref 186, .int (nI fn), .int (nI cl), .int flt, .int plc])) = g1 at S1 ⊢
    refine x_aload_n dX7_readAtom_129 rfl ?_
    refine x_aload_n dX7_readAtom_130 rfl ?_
    refine x_aload_n dX7_readAtom_131 rfl ?_
    refine x_iconst (v := 1) dX7_readAtom_132 (by decide) ?_
    refine x_callV (As := [.ref (ra rc), .ref (tAd (ra rc) i), .int 1]) (st := []) lv_X7_173 (k_X7_readArg S1 O hk1 hi (b := true)) dX7_readAtom_133 S1.r rfl rfl (Nat.le_of_ble_eq_true rfl) ⟨by decide, by decide⟩ ⟨by decide, by decide⟩ (fun v9 g2 z => ?_) (fun _ _ _ _ _ z => by rcases z with ⟨_, _, _, z, _⟩ | ⟨_, _, _, z, _⟩ <;> cases z)
    rcases z with ⟨e2, p2, y2, ev, q2, v2, k2, x2, S2⟩ | ⟨q2, v2, y2, ev, x2, S2⟩ <;> cases ev
    · refine x_if_ne 141 dX7_readAtom_136 (by decide) (fun c => absurd c (by decide)) (fun _ => ?_)
      refine x_iconst (v := 0) dX7_readAtom_139 (by decide) ?_
      exact x_iret dX7_readAtom_140 rfl rfl (Nat.le_refl _) (Nat.le_refl _) (Or.inl ⟨e2, p2, (by unfold pAt1; rw [if_pos c_116, y2]), rfl, q2, v2, k2, hx0.tr x2, S2⟩)
    · have S2 : RS h0 g2 rc fc lf ra V fr fn fs cl ts ty st wd q2 v2 (k + 2) flt plc := S2
      have hq2 : k + 2 < ts := tkO_next O hk1 (pArg_ty y2)
      refine x_if_ne 141 dX7_readAtom_136 (by decide) (fun _ => ?_) (fun c => absurd c (by decide))
      refine x_aload_n dX7_readAtom_141 rfl ?_
      refine x_callV (As := []) (st := []) lv_X7_63 (k_X7_type S2 O hq2) dX7_readAtom_142 S2.r rfl rfl (Nat.le_of_ble_eq_true rfl) ⟨by decide, by decide⟩ ⟨by decide, by decide⟩ (fun v9 h9 z => ?_) (fun _ _ _ _ _ z => by cases z.1)
      obtain ⟨ev, eh⟩ := z
      rw [eh]
      cases ev
      have tb142 := (O.2.2.2.2 (k + 2) hq2).1
      refine x_bipush (v := 44) dX7_readAtom_145 (by decide) ?_
      refine x_icmp_ne 172 dX7_readAtom_147 (by decide) (fun c_147 => ?_) (fun c_147 => ?_)
      · rw [show (44 : Int32) = nI 44 from rfl, nI_eq (by omega) (by omega)] at c_147
        refine x_aload_n dX7_readAtom_172 rfl ?_
        refine x_callV (As := []) (st := []) lv_X7_63 (k_X7_type S2 O hq2) dX7_readAtom_173 S2.r rfl rfl (Nat.le_of_ble_eq_true rfl) ⟨by decide, by decide⟩ ⟨by decide, by decide⟩ (fun v9 h9 z => ?_) (fun _ _ _ _ _ z => by cases z.1)
        obtain ⟨ev, eh⟩ := z
        rw [eh]
        cases ev
        have tb173 := (O.2.2.2.2 (k + 2) hq2).1
        refine x_bipush (v := 41) dX7_readAtom_176 (by decide) ?_
        refine x_icmp_eq 191 dX7_readAtom_178 (by decide) (fun c_178 => ?_) (fun c_178 => ?_)
        · rw [show (41 : Int32) = nI 41 from rfl, nI_eq (by omega) (by omega)] at c_178
          refine x_aload_n dX7_readAtom_191 rfl ?_
          refine x_dup dX7_readAtom_192 rfl ?_
          refine x_get lf_X7_48 dX7_readAtom_193 S2.r rfl ?_
          refine x_iconst (v := 1) dX7_readAtom_196 (by decide) ?_
          refine x_iadd dX7_readAtom_197 ?_
          refine x_top (y := nI ((k + 2) + 1)) (nI_add (k + 2) 1) ?_
          refine x_put [.ref 3, .ref 182, .int (nI ((k + 2) + 1)), .ref 186, .int (nI fn), .int (nI cl), .int flt, .int plc] lf_X7_48 dX7_readAtom_198 S2.r (Nat.le_of_ble_eq_true rfl) rfl rfl rfl ?_
          have hk3 := tkO_next O hq2 (by omega)
          have S3 := S2.rd (k + 3) flt plc
          generalize xup g2 181 (.inr (7, [.ref 3, .ref 182, .int (nI ((k + 2) + 1)), .ref 186, .int (nI fn), .int (nI cl), .int flt, .int plc])) = g3 at S3 ⊢
          refine x_aload_n dX7_readAtom_201 rfl ?_
          refine x_aload_n dX7_readAtom_202 rfl ?_
          refine x_aload_n dX7_readAtom_203 rfl ?_
          refine x_get lf_X7_154 dX7_readAtom_204 (S3.tm hi) rfl ?_
          refine x_top (y := nI kd) ((pArg_keep y2).1.trans hf1) ?_
          refine x_iload_n dX7_readAtom_207 rfl ?_
          refine x_icmp_ne 215 dX7_readAtom_208 (by decide) (fun c_208 => ?_) (fun c_208 => ?_)
          · rw [nI_eq (by omega) (by omega)] at c_208
            refine x_iconst (v := 0) dX7_readAtom_215 (by decide) ?_
            have hnw : nw = false := by cases e : nw <;> first | rfl | exact absurd (hnw9.mp e) (by omega)
            refine x_top (y := bi nw) (by rw [hnw]; rfl) ?_
            refine x_callV (As := [.ref (tAd (ra rc) i), .int (bi nw)]) (st := []) lv_X7_181 (k_X7_hasItsPlaces S3 hi hkd ((pArg_keep y2).1.trans hf1) ((pArg_keep y2).2.1.trans hf4)) dX7_readAtom_216 S3.r rfl rfl (Nat.le_of_ble_eq_true rfl) ⟨by decide, by decide⟩ ⟨by decide, by decide⟩ (fun v9 g9 z => ?_) (fun _ _ _ _ _ z => by rcases z with ⟨_, z, _⟩ | ⟨_, _, z, _⟩ <;> cases z)
            rcases z with ⟨y9, ev, S9⟩ | ⟨q9, y9, ev, S9⟩ <;> cases ev
            · exact x_iret dX7_readAtom_219 rfl rfl (Nat.le_refl _) (Nat.le_refl _) (Or.inl ⟨2, pl, (by unfold pAt1; rw [if_pos c_116, y2]; simp only []; rw [if_neg c_147]; unfold pAt2; rw [if_pos c_178]; unfold pFin; rw [y9]), rfl, _, _, _, (hx0.tr x2), S9⟩)
            · exact x_iret dX7_readAtom_219 rfl rfl (Nat.le_refl _) (Nat.le_refl _) (Or.inr ⟨q9, _, _, (by unfold pAt1; rw [if_pos c_116, y2]; simp only []; rw [if_neg c_147]; unfold pAt2; rw [if_pos c_178]; unfold pFin; rw [y9]), rfl, pHas_ext (hx0.tr x2) hk0 y9, hk3, S9⟩)
          · rw [nI_eq (by omega) (by omega)] at c_208
            refine x_iconst (v := 1) dX7_readAtom_211 (by decide) ?_
            refine x_goto 216 dX7_readAtom_212 (by decide) ?_
            have hnw : nw = true := hnw9.mpr (by omega)
            refine x_top (y := bi nw) (by rw [hnw]; rfl) ?_
            refine x_callV (As := [.ref (tAd (ra rc) i), .int (bi nw)]) (st := []) lv_X7_181 (k_X7_hasItsPlaces S3 hi hkd ((pArg_keep y2).1.trans hf1) ((pArg_keep y2).2.1.trans hf4)) dX7_readAtom_216 S3.r rfl rfl (Nat.le_of_ble_eq_true rfl) ⟨by decide, by decide⟩ ⟨by decide, by decide⟩ (fun v9 g9 z => ?_) (fun _ _ _ _ _ z => by rcases z with ⟨_, z, _⟩ | ⟨_, _, z, _⟩ <;> cases z)
            rcases z with ⟨y9, ev, S9⟩ | ⟨q9, y9, ev, S9⟩ <;> cases ev
            · exact x_iret dX7_readAtom_219 rfl rfl (Nat.le_refl _) (Nat.le_refl _) (Or.inl ⟨2, pl, (by unfold pAt1; rw [if_pos c_116, y2]; simp only []; rw [if_neg c_147]; unfold pAt2; rw [if_pos c_178]; unfold pFin; rw [y9]), rfl, _, _, _, (hx0.tr x2), S9⟩)
            · exact x_iret dX7_readAtom_219 rfl rfl (Nat.le_refl _) (Nat.le_refl _) (Or.inr ⟨q9, _, _, (by unfold pAt1; rw [if_pos c_116, y2]; simp only []; rw [if_neg c_147]; unfold pAt2; rw [if_pos c_178]; unfold pFin; rw [y9]), rfl, pHas_ext (hx0.tr x2) hk0 y9, hk3, S9⟩)
        · rw [show (41 : Int32) = nI 41 from rfl, nI_eq (by omega) (by omega)] at c_178
          refine x_aload_n dX7_readAtom_181 rfl ?_
          refine x_iconst (v := 1) dX7_readAtom_182 (by decide) ?_
          refine x_aload_n dX7_readAtom_183 rfl ?_
          refine x_callV (As := []) (st := [.int 1, .ref 181]) lv_X7_122 (k_X7_start S2 O hq2) dX7_readAtom_184 S2.r rfl rfl (Nat.le_of_ble_eq_true rfl) ⟨by decide, by decide⟩ ⟨by decide, by decide⟩ (fun v9 h9 z => ?_) (fun _ _ _ _ _ z => by cases z.1)
          obtain ⟨ev, eh⟩ := z
          rw [eh]
          cases ev
          refine x_callV (As := [.int 1, .int (nI ((tk (k + 2)).2.1))]) (st := []) lv_X7_104 (k_X7_fail S2) dX7_readAtom_187 S2.r rfl rfl (Nat.le_of_ble_eq_true rfl) ⟨by decide, by decide⟩ ⟨by decide, by decide⟩ (fun v9 hF z => ?_) (fun _ _ _ _ _ z => by cases z.1)
          obtain ⟨ev, RF⟩ := z
          cases ev
          exact x_iret dX7_readAtom_190 rfl rfl (Nat.le_refl _) (Nat.le_refl _) (Or.inl ⟨1, _, (by unfold pAt1; rw [if_pos c_116, y2]; simp only []; rw [if_neg c_147]; unfold pAt2; rw [if_neg c_178]), rfl, _, _, _, (hx0.tr x2), RF⟩)
      · rw [show (44 : Int32) = nI 44 from rfl, nI_eq (by omega) (by omega)] at c_147
        refine x_aload_n dX7_readAtom_150 rfl ?_
        refine x_dup dX7_readAtom_151 rfl ?_
        refine x_get lf_X7_48 dX7_readAtom_152 S2.r rfl ?_
        refine x_iconst (v := 1) dX7_readAtom_155 (by decide) ?_
        refine x_iadd dX7_readAtom_156 ?_
        refine x_top (y := nI ((k + 2) + 1)) (nI_add (k + 2) 1) ?_
        refine x_put [.ref 3, .ref 182, .int (nI ((k + 2) + 1)), .ref 186, .int (nI fn), .int (nI cl), .int flt, .int plc] lf_X7_48 dX7_readAtom_157 S2.r (Nat.le_of_ble_eq_true rfl) rfl rfl rfl ?_
        have hk3 := tkO_next O hq2 (by omega)
        have S3 := S2.rd (k + 3) flt plc
        generalize xup g2 181 (.inr (7, [.ref 3, .ref 182, .int (nI ((k + 2) + 1)), .ref 186, .int (nI fn), .int (nI cl), .int flt, .int plc])) = g3 at S3 ⊢
        refine x_aload_n dX7_readAtom_160 rfl ?_
        refine x_aload_n dX7_readAtom_161 rfl ?_
        refine x_aload_n dX7_readAtom_162 rfl ?_
        refine x_iconst (v := 0) dX7_readAtom_163 (by decide) ?_
        refine x_callV (As := [.ref (ra rc), .ref (tAd (ra rc) i), .int 0]) (st := []) lv_X7_173 (k_X7_readArg S3 O hk3 hi (b := false)) dX7_readAtom_164 S3.r rfl rfl (Nat.le_of_ble_eq_true rfl) ⟨by decide, by decide⟩ ⟨by decide, by decide⟩ (fun v9 g4 z => ?_) (fun _ _ _ _ _ z => by rcases z with ⟨_, _, _, z, _⟩ | ⟨_, _, _, z, _⟩ <;> cases z)
        rcases z with ⟨e4, p4, y4, ev, q4, v4, k4, x4, S4⟩ | ⟨q4, v4, y4, ev, x4, S4⟩ <;> cases ev
        · refine x_if_ne 172 dX7_readAtom_167 (by decide) (fun c => absurd c (by decide)) (fun _ => ?_)
          refine x_iconst (v := 0) dX7_readAtom_170 (by decide) ?_
          exact x_iret dX7_readAtom_171 rfl rfl (Nat.le_refl _) (Nat.le_refl _) (Or.inl ⟨e4, p4, (by unfold pAt1; rw [if_pos c_116, y2]; simp only []; rw [if_pos c_147, y4]), rfl, q4, v4, k4, (hx0.tr x2).tr x4, S4⟩)
        · have S4 : RS h0 g4 rc fc lf ra V fr fn fs cl ts ty st wd q4 v4 (k + 4) flt plc := S4
          have hq4 : k + 4 < ts := tkO_next O hk3 (pArg_ty y4)
          refine x_if_ne 172 dX7_readAtom_167 (by decide) (fun _ => ?_) (fun c => absurd c (by decide))
          refine x_aload_n dX7_readAtom_172 rfl ?_
          refine x_callV (As := []) (st := []) lv_X7_63 (k_X7_type S4 O hq4) dX7_readAtom_173 S4.r rfl rfl (Nat.le_of_ble_eq_true rfl) ⟨by decide, by decide⟩ ⟨by decide, by decide⟩ (fun v9 h9 z => ?_) (fun _ _ _ _ _ z => by cases z.1)
          obtain ⟨ev, eh⟩ := z
          rw [eh]
          cases ev
          have tb173 := (O.2.2.2.2 (k + 4) hq4).1
          refine x_bipush (v := 41) dX7_readAtom_176 (by decide) ?_
          refine x_icmp_eq 191 dX7_readAtom_178 (by decide) (fun c_178 => ?_) (fun c_178 => ?_)
          · rw [show (41 : Int32) = nI 41 from rfl, nI_eq (by omega) (by omega)] at c_178
            refine x_aload_n dX7_readAtom_191 rfl ?_
            refine x_dup dX7_readAtom_192 rfl ?_
            refine x_get lf_X7_48 dX7_readAtom_193 S4.r rfl ?_
            refine x_iconst (v := 1) dX7_readAtom_196 (by decide) ?_
            refine x_iadd dX7_readAtom_197 ?_
            refine x_top (y := nI ((k + 4) + 1)) (nI_add (k + 4) 1) ?_
            refine x_put [.ref 3, .ref 182, .int (nI ((k + 4) + 1)), .ref 186, .int (nI fn), .int (nI cl), .int flt, .int plc] lf_X7_48 dX7_readAtom_198 S4.r (Nat.le_of_ble_eq_true rfl) rfl rfl rfl ?_
            have hk5 := tkO_next O hq4 (by omega)
            have S5 := S4.rd (k + 5) flt plc
            generalize xup g4 181 (.inr (7, [.ref 3, .ref 182, .int (nI ((k + 4) + 1)), .ref 186, .int (nI fn), .int (nI cl), .int flt, .int plc])) = g5 at S5 ⊢
            refine x_aload_n dX7_readAtom_201 rfl ?_
            refine x_aload_n dX7_readAtom_202 rfl ?_
            refine x_aload_n dX7_readAtom_203 rfl ?_
            refine x_get lf_X7_154 dX7_readAtom_204 (S5.tm hi) rfl ?_
            refine x_top (y := nI kd) ((pArg_keep y4).1.trans ((pArg_keep y2).1.trans hf1)) ?_
            refine x_iload_n dX7_readAtom_207 rfl ?_
            refine x_icmp_ne 215 dX7_readAtom_208 (by decide) (fun c_208 => ?_) (fun c_208 => ?_)
            · rw [nI_eq (by omega) (by omega)] at c_208
              refine x_iconst (v := 0) dX7_readAtom_215 (by decide) ?_
              have hnw : nw = false := by cases e : nw <;> first | rfl | exact absurd (hnw9.mp e) (by omega)
              refine x_top (y := bi nw) (by rw [hnw]; rfl) ?_
              refine x_callV (As := [.ref (tAd (ra rc) i), .int (bi nw)]) (st := []) lv_X7_181 (k_X7_hasItsPlaces S5 hi hkd ((pArg_keep y4).1.trans ((pArg_keep y2).1.trans hf1)) ((pArg_keep y4).2.1.trans ((pArg_keep y2).2.1.trans hf4))) dX7_readAtom_216 S5.r rfl rfl (Nat.le_of_ble_eq_true rfl) ⟨by decide, by decide⟩ ⟨by decide, by decide⟩ (fun v9 g9 z => ?_) (fun _ _ _ _ _ z => by rcases z with ⟨_, z, _⟩ | ⟨_, _, z, _⟩ <;> cases z)
              rcases z with ⟨y9, ev, S9⟩ | ⟨q9, y9, ev, S9⟩ <;> cases ev
              · exact x_iret dX7_readAtom_219 rfl rfl (Nat.le_refl _) (Nat.le_refl _) (Or.inl ⟨2, pl, (by unfold pAt1; rw [if_pos c_116, y2]; simp only []; rw [if_pos c_147, y4]; simp only []; unfold pAt2; rw [if_pos c_178]; unfold pFin; rw [y9]), rfl, _, _, _, ((hx0.tr x2).tr x4), S9⟩)
              · exact x_iret dX7_readAtom_219 rfl rfl (Nat.le_refl _) (Nat.le_refl _) (Or.inr ⟨q9, _, _, (by unfold pAt1; rw [if_pos c_116, y2]; simp only []; rw [if_pos c_147, y4]; simp only []; unfold pAt2; rw [if_pos c_178]; unfold pFin; rw [y9]), rfl, pHas_ext ((hx0.tr x2).tr x4) hk0 y9, hk5, S9⟩)
            · rw [nI_eq (by omega) (by omega)] at c_208
              refine x_iconst (v := 1) dX7_readAtom_211 (by decide) ?_
              refine x_goto 216 dX7_readAtom_212 (by decide) ?_
              have hnw : nw = true := hnw9.mpr (by omega)
              refine x_top (y := bi nw) (by rw [hnw]; rfl) ?_
              refine x_callV (As := [.ref (tAd (ra rc) i), .int (bi nw)]) (st := []) lv_X7_181 (k_X7_hasItsPlaces S5 hi hkd ((pArg_keep y4).1.trans ((pArg_keep y2).1.trans hf1)) ((pArg_keep y4).2.1.trans ((pArg_keep y2).2.1.trans hf4))) dX7_readAtom_216 S5.r rfl rfl (Nat.le_of_ble_eq_true rfl) ⟨by decide, by decide⟩ ⟨by decide, by decide⟩ (fun v9 g9 z => ?_) (fun _ _ _ _ _ z => by rcases z with ⟨_, z, _⟩ | ⟨_, _, z, _⟩ <;> cases z)
              rcases z with ⟨y9, ev, S9⟩ | ⟨q9, y9, ev, S9⟩ <;> cases ev
              · exact x_iret dX7_readAtom_219 rfl rfl (Nat.le_refl _) (Nat.le_refl _) (Or.inl ⟨2, pl, (by unfold pAt1; rw [if_pos c_116, y2]; simp only []; rw [if_pos c_147, y4]; simp only []; unfold pAt2; rw [if_pos c_178]; unfold pFin; rw [y9]), rfl, _, _, _, ((hx0.tr x2).tr x4), S9⟩)
              · exact x_iret dX7_readAtom_219 rfl rfl (Nat.le_refl _) (Nat.le_refl _) (Or.inr ⟨q9, _, _, (by unfold pAt1; rw [if_pos c_116, y2]; simp only []; rw [if_pos c_147, y4]; simp only []; unfold pAt2; rw [if_pos c_178]; unfold pFin; rw [y9]), rfl, pHas_ext ((hx0.tr x2).tr x4) hk0 y9, hk5, S9⟩)
          · rw [show (41 : Int32) = nI 41 from rfl, nI_eq (by omega) (by omega)] at c_178
            refine x_aload_n dX7_readAtom_181 rfl ?_
            refine x_iconst (v := 1) dX7_readAtom_182 (by decide) ?_
            refine x_aload_n dX7_readAtom_183 rfl ?_
            refine x_callV (As := []) (st := [.int 1, .ref 181]) lv_X7_122 (k_X7_start S4 O hq4) dX7_readAtom_184 S4.r rfl rfl (Nat.le_of_ble_eq_true rfl) ⟨by decide, by decide⟩ ⟨by decide, by decide⟩ (fun v9 h9 z => ?_) (fun _ _ _ _ _ z => by cases z.1)
            obtain ⟨ev, eh⟩ := z
            rw [eh]
            cases ev
            refine x_callV (As := [.int 1, .int (nI ((tk (k + 4)).2.1))]) (st := []) lv_X7_104 (k_X7_fail S4) dX7_readAtom_187 S4.r rfl rfl (Nat.le_of_ble_eq_true rfl) ⟨by decide, by decide⟩ ⟨by decide, by decide⟩ (fun v9 hF z => ?_) (fun _ _ _ _ _ z => by cases z.1)
            obtain ⟨ev, RF⟩ := z
            cases ev
            exact x_iret dX7_readAtom_190 rfl rfl (Nat.le_refl _) (Nat.le_refl _) (Or.inl ⟨1, _, (by unfold pAt1; rw [if_pos c_116, y2]; simp only []; rw [if_pos c_147, y4]; simp only []; unfold pAt2; rw [if_neg c_178]), rfl, _, _, _, ((hx0.tr x2).tr x4), RF⟩)
set_option maxRecDepth 100000 in
set_option maxHeartbeats 4000000 in
theorem k_X7_readAtom {G : xG} {h0 h : xHp} {rc : Nat} {fc : Int32} {lf : Nat → Int32} {ra : Nat → Nat} {V : Nat → RV} {fr : Nat → Int32} {fn : Nat} {fs : Nat → Int32} {cl : Nat} {ts : Nat} {ty : Nat → Int32} {st : Nat → Int32} {wd : Nat → Int64} {q : PQ} {v : RV} {k : Nat} {flt plc : Int32} (R : RS h0 h rc fc lf ra V fr fn fs cl ts ty st wd q v k flt plc) {tk : Nat → Tk} (O : tkO ts tk ty st wd) (hk : k < ts) {i : Nat} (hi : i ≤ 4) : MX G mX7_readAtom 3 0 0 [.ref 181, .ref (ra rc), .ref (tAd (ra rc) i)] h (fun o h' => (∃ e p, pAtom tk q v k i = .inl (e, p) ∧ o = .inl (some (.int 0)) ∧ ∃ q' v' k', extQ q q' ∧ RS h0 h' rc fc lf ra V fr fn fs cl ts ty st wd (q') (v') (k') (nI e) (nI p)) ∨ (∃ q' v' k', pAtom tk q v k i = .inr (q', v', k') ∧ o = .inl (some (.int 1)) ∧ extQ q q' ∧ k' < ts ∧ RS h0 h' rc fc lf ra V fr fn fs cl ts ty st wd (q') (v') (k') flt plc)) := by
  have hts := O.1.2
  have hO := O.2.2.2.2
  refine MX.of [(0, .ref 181), (1, .ref (ra rc)), (2, .ref (tAd (ra rc) i))] (by decide) rfl (Nat.le_of_ble_eq_true rfl) rfl ?_
  refine x_aload_n dX7_readAtom_0 rfl ?_
  refine x_callV (As := []) (st := []) lv_X7_63 (k_X7_type R O hk) dX7_readAtom_1 R.r rfl rfl (Nat.le_of_ble_eq_true rfl) ⟨by decide, by decide⟩ ⟨by decide, by decide⟩ (fun v9 h9 z => ?_) (fun _ _ _ _ _ z => by cases z.1)
  obtain ⟨ev, eh⟩ := z
  rw [eh]
  cases ev
  have tb1 := (O.2.2.2.2 (k) hk).1
  refine x_iconst (v := 2) dX7_readAtom_4 (by decide) ?_
  refine x_icmp_ne 27 dX7_readAtom_5 (by decide) (fun c_5 => ?_) (fun c_5 => ?_)
  · rw [show (2 : Int32) = nI 2 from rfl, nI_eq (by omega) (by omega)] at c_5
    refine x_aload_n dX7_readAtom_27 rfl ?_
    refine x_iconst (v := 1) dX7_readAtom_28 (by decide) ?_
    refine x_aload_n dX7_readAtom_29 rfl ?_
    refine x_callV (As := []) (st := [.int 1, .ref 181]) lv_X7_122 (k_X7_start R O hk) dX7_readAtom_30 R.r rfl rfl (Nat.le_of_ble_eq_true rfl) ⟨by decide, by decide⟩ ⟨by decide, by decide⟩ (fun v9 h9 z => ?_) (fun _ _ _ _ _ z => by cases z.1)
    obtain ⟨ev, eh⟩ := z
    rw [eh]
    cases ev
    refine x_callV (As := [.int 1, .int (nI ((tk k).2.1))]) (st := []) lv_X7_104 (k_X7_fail R) dX7_readAtom_33 R.r rfl rfl (Nat.le_of_ble_eq_true rfl) ⟨by decide, by decide⟩ ⟨by decide, by decide⟩ (fun v9 hF z => ?_) (fun _ _ _ _ _ z => by cases z.1)
    obtain ⟨ev, RF⟩ := z
    cases ev
    exact x_iret dX7_readAtom_36 rfl rfl (Nat.le_refl _) (Nat.le_refl _) (Or.inl ⟨1, _, (by unfold pAtom; rw [if_neg (fun z => c_5 z.1)]), rfl, _, _, _, extQ_rf q, RF⟩)
  · rw [show (2 : Int32) = nI 2 from rfl, nI_eq (by omega) (by omega)] at c_5
    have hwd := (O.2.2.2.2 k hk).2.2 c_5
    refine x_aload_n dX7_readAtom_8 rfl ?_
    refine x_get lf_X7_12 dX7_readAtom_9 R.r rfl ?_
    refine x_get lf_X7_167 dX7_readAtom_12 R.t.1 rfl ?_
    refine x_aload_n dX7_readAtom_15 rfl ?_
    refine x_get lf_X7_48 dX7_readAtom_16 R.r rfl ?_
    refine x_laldN (j := k) R.t.2.2.2 rfl (by omega) (by decide) dX7_readAtom_19 ?_
    refine x_topl ((O.2.1 k hk).2.2.1 c_5) ?_
    refine x_ldc2 kl_X7_171 dX7_readAtom_20 ?_
    refine x_lcmp dX7_readAtom_23 ?_
    refine x_if_ne 37 dX7_readAtom_24 (by decide) (fun c_24 => ?_) (fun c_24 => ?_)
    · have hnt : ¬ (tk k).2.2 = NOTW := fun z => c_24 ((lg_cmp_eq _ _).mpr ((not_w hwd.1 hwd.2).mpr z))
      refine x_aload_n dX7_readAtom_37 rfl ?_
      refine x_get lf_X7_22 dX7_readAtom_38 R.r rfl ?_
      refine x_get lf_X7_26 dX7_readAtom_41 R.b.1 rfl ?_
      refine x_get lf_X7_32 dX7_readAtom_44 R.b.2.1 rfl ?_
      refine x_istore_n [(0, .ref 181), (1, .ref (ra rc)), (2, .ref (tAd (ra rc) i)), (3, .int (nI (q.2.2.1)))] dX7_readAtom_47 (by decide) rfl rfl ?_
      refine x_aload_n dX7_readAtom_48 rfl ?_
      refine x_aload_n dX7_readAtom_49 rfl ?_
      refine x_get lf_X7_22 dX7_readAtom_50 R.r rfl ?_
      refine x_get lf_X7_26 dX7_readAtom_53 R.b.1 rfl ?_
      refine x_aload_n dX7_readAtom_56 rfl ?_
      refine x_get lf_X7_12 dX7_readAtom_57 R.r rfl ?_
      refine x_get lf_X7_167 dX7_readAtom_60 R.t.1 rfl ?_
      refine x_aload_n dX7_readAtom_63 rfl ?_
      refine x_get lf_X7_48 dX7_readAtom_64 R.r rfl ?_
      refine x_laldN (j := k) R.t.2.2.2 rfl (by omega) (by decide) dX7_readAtom_67 ?_
      refine x_topl ((O.2.1 k hk).2.2.1 c_5) ?_
      refine x_callV (As := [.long (lN (xw (tk k).2.2))]) (st := [.ref (tAd (ra rc) i)]) lv_X7_177 (k_kind R hwd.1 hwd.2) dX7_readAtom_68 R.b.2.1 rfl rfl (Nat.le_of_ble_eq_true rfl) ⟨by decide, by decide⟩ ⟨by decide, by decide⟩ (fun v9 h1 z => ?_) (fun _ _ _ _ _ z => by rcases z with ⟨_, z, _⟩ | ⟨_, _, z, _⟩ | ⟨_, _, z, _⟩ <;> cases z)
      rcases z with ⟨z1, ev, eh⟩ | ⟨z1, z2, ev, eh⟩ | ⟨z1, z2, ev, R1⟩ <;> cases ev
      · rw [eh]
        refine x_put [.int (tmI v i 0), .int (nI (wLook q.2.2.2.1 (tk k).2.2 q.2.2.1)), .int (tmI v i 2), .int (tmI v i 3), .int (tmI v i 4), .int (tmI v i 5), .int (tmI v i 6)] lf_X7_154 dX7_readAtom_71 (R.tm hi) (Nat.le_of_ble_eq_true rfl) rfl rfl rfl ?_
        refine x_heap (h' := xup h (tAd (ra rc) i) (tC (upd (tmI v i) 1 (nI (wLook q.2.2.2.1 (tk k).2.2 q.2.2.1))))) rfl ?_
        have S2 := R.term hi (upd (tmI v i) 1 (nI (wLook q.2.2.2.1 (tk k).2.2 q.2.2.1)))
        generalize xup h (tAd (ra rc) i) (tC (upd (tmI v i) 1 (nI (wLook q.2.2.2.1 (tk k).2.2 q.2.2.1)))) = g2 at S2 ⊢
        refine x_aload_n dX7_readAtom_74 rfl ?_
        refine x_aload_n dX7_readAtom_75 rfl ?_
        refine x_callV (As := []) (st := [.ref (tAd (ra rc) i)]) lv_X7_122 (k_X7_start S2 O hk) dX7_readAtom_76 S2.r rfl rfl (Nat.le_of_ble_eq_true rfl) ⟨by decide, by decide⟩ ⟨by decide, by decide⟩ (fun v9 h9 z => ?_) (fun _ _ _ _ _ z => by cases z.1)
        obtain ⟨ev, eh⟩ := z
        rw [eh]
        cases ev
        refine x_put [.int (tmI (stT v i (upd (tmI v i) 1 (nI (wLook q.2.2.2.1 (tk k).2.2 q.2.2.1)))) i 0), .int (tmI (stT v i (upd (tmI v i) 1 (nI (wLook q.2.2.2.1 (tk k).2.2 q.2.2.1)))) i 1), .int (tmI (stT v i (upd (tmI v i) 1 (nI (wLook q.2.2.2.1 (tk k).2.2 q.2.2.1)))) i 2), .int (tmI (stT v i (upd (tmI v i) 1 (nI (wLook q.2.2.2.1 (tk k).2.2 q.2.2.1)))) i 3), .int (nI ((tk k).2.1)), .int (tmI (stT v i (upd (tmI v i) 1 (nI (wLook q.2.2.2.1 (tk k).2.2 q.2.2.1)))) i 5), .int (tmI (stT v i (upd (tmI v i) 1 (nI (wLook q.2.2.2.1 (tk k).2.2 q.2.2.1)))) i 6)] lf_X7_99 dX7_readAtom_79 (S2.tm hi) (Nat.le_of_ble_eq_true rfl) rfl rfl rfl ?_
        refine x_heap (h' := xup g2 (tAd (ra rc) i) (tC (upd (tmI (stT v i (upd (tmI v i) 1 (nI (wLook q.2.2.2.1 (tk k).2.2 q.2.2.1)))) i) 4 (nI (tk k).2.1)))) rfl ?_
        have S3 := S2.term hi (upd (tmI (stT v i (upd (tmI v i) 1 (nI (wLook q.2.2.2.1 (tk k).2.2 q.2.2.1)))) i) 4 (nI (tk k).2.1))
        generalize xup g2 (tAd (ra rc) i) (tC (upd (tmI (stT v i (upd (tmI v i) 1 (nI (wLook q.2.2.2.1 (tk k).2.2 q.2.2.1)))) i) 4 (nI (tk k).2.1))) = g3 at S3 ⊢
        rw [stT_tm, stT_tw] at S3
        refine x_aload_n dX7_readAtom_82 rfl ?_
        refine x_get lf_X7_154 dX7_readAtom_83 (S3.tm hi) rfl ?_
        refine x_top (y := nI (wLook q.2.2.2.1 (tk k).2.2 q.2.2.1)) (by rw [stT_tm]; rfl) ?_
        refine x_iconst (v := (-1)) dX7_readAtom_86 (by decide) ?_
        refine x_icmp_ne 100 dX7_readAtom_87 (by decide) (fun c_87 => ?_) (fun c_87 => absurd c_87 (nI_m1 (by have := R.z.2.1; omega)))
        refine x_aload_n dX7_readAtom_100 rfl ?_
        refine x_dup dX7_readAtom_101 rfl ?_
        refine x_get lf_X7_48 dX7_readAtom_102 S3.r rfl ?_
        refine x_iconst (v := 1) dX7_readAtom_105 (by decide) ?_
        refine x_iadd dX7_readAtom_106 ?_
        refine x_top (y := nI (k + 1)) (nI_add k 1) ?_
        refine x_put [.ref 3, .ref 182, .int (nI (k + 1)), .ref 186, .int (nI fn), .int (nI cl), .int flt, .int plc] lf_X7_48 dX7_readAtom_107 S3.r (Nat.le_of_ble_eq_true rfl) rfl rfl rfl ?_
        have hk1 := tkO_next O hk (by omega)
        have S1 := S3.rd (k + 1) flt plc
        generalize xup g3 181 (.inr (7, [.ref 3, .ref 182, .int (nI (k + 1)), .ref 186, .int (nI fn), .int (nI cl), .int flt, .int plc])) = g1 at S1 ⊢
        refine x_post (l_X7_at1 S1 O hk1 hi (kd := wLook q.2.2.2.1 (tk k).2.2 q.2.2.1) (pl := (tk k).2.1) (by have := R.z.2.1; omega) (by have := R.z.2.1; omega) (kdV_1 v i _ _).1 (kdV_1 v i _ _).2 (nw := false) (by constructor <;> intro z <;> first | (cases z; done) | omega) (extQ_rf q) (fun z => by cases z)) (fun o h' z => ?_)
        unfold pAtom; rw [if_pos ⟨c_5, hnt⟩, if_pos z1]; exact z
      · rw [eh]
        refine x_put [.int (tmI v i 0), .int (-1), .int (tmI v i 2), .int (tmI v i 3), .int (tmI v i 4), .int (tmI v i 5), .int (tmI v i 6)] lf_X7_154 dX7_readAtom_71 (R.tm hi) (Nat.le_of_ble_eq_true rfl) rfl rfl rfl ?_
        refine x_heap (h' := xup h (tAd (ra rc) i) (tC (upd (tmI v i) 1 (-1)))) rfl ?_
        have S2 := R.term hi (upd (tmI v i) 1 (-1))
        generalize xup h (tAd (ra rc) i) (tC (upd (tmI v i) 1 (-1))) = g2 at S2 ⊢
        refine x_aload_n dX7_readAtom_74 rfl ?_
        refine x_aload_n dX7_readAtom_75 rfl ?_
        refine x_callV (As := []) (st := [.ref (tAd (ra rc) i)]) lv_X7_122 (k_X7_start S2 O hk) dX7_readAtom_76 S2.r rfl rfl (Nat.le_of_ble_eq_true rfl) ⟨by decide, by decide⟩ ⟨by decide, by decide⟩ (fun v9 h9 z => ?_) (fun _ _ _ _ _ z => by cases z.1)
        obtain ⟨ev, eh⟩ := z
        rw [eh]
        cases ev
        refine x_put [.int (tmI (stT v i (upd (tmI v i) 1 (-1))) i 0), .int (tmI (stT v i (upd (tmI v i) 1 (-1))) i 1), .int (tmI (stT v i (upd (tmI v i) 1 (-1))) i 2), .int (tmI (stT v i (upd (tmI v i) 1 (-1))) i 3), .int (nI ((tk k).2.1)), .int (tmI (stT v i (upd (tmI v i) 1 (-1))) i 5), .int (tmI (stT v i (upd (tmI v i) 1 (-1))) i 6)] lf_X7_99 dX7_readAtom_79 (S2.tm hi) (Nat.le_of_ble_eq_true rfl) rfl rfl rfl ?_
        refine x_heap (h' := xup g2 (tAd (ra rc) i) (tC (upd (tmI (stT v i (upd (tmI v i) 1 (-1))) i) 4 (nI (tk k).2.1)))) rfl ?_
        have S3 := S2.term hi (upd (tmI (stT v i (upd (tmI v i) 1 (-1))) i) 4 (nI (tk k).2.1))
        generalize xup g2 (tAd (ra rc) i) (tC (upd (tmI (stT v i (upd (tmI v i) 1 (-1))) i) 4 (nI (tk k).2.1))) = g3 at S3 ⊢
        rw [stT_tm, stT_tw] at S3
        refine x_aload_n dX7_readAtom_82 rfl ?_
        refine x_get lf_X7_154 dX7_readAtom_83 (S3.tm hi) rfl ?_
        refine x_top (y := -1) (by rw [stT_tm]; rfl) ?_
        refine x_iconst (v := (-1)) dX7_readAtom_86 (by decide) ?_
        refine x_icmp_ne 100 dX7_readAtom_87 (by decide) (fun c_87 => absurd c_87 (fun z => z rfl)) (fun c_87 => ?_)
        refine x_aload_n dX7_readAtom_90 rfl ?_
        refine x_iconst (v := 4) dX7_readAtom_91 (by decide) ?_
        refine x_aload_n dX7_readAtom_92 rfl ?_
        refine x_callV (As := []) (st := [.int 4, .ref 181]) lv_X7_122 (k_X7_start S3 O hk) dX7_readAtom_93 S3.r rfl rfl (Nat.le_of_ble_eq_true rfl) ⟨by decide, by decide⟩ ⟨by decide, by decide⟩ (fun v9 h9 z => ?_) (fun _ _ _ _ _ z => by cases z.1)
        obtain ⟨ev, eh⟩ := z
        rw [eh]
        cases ev
        refine x_callV (As := [.int 4, .int (nI ((tk k).2.1))]) (st := []) lv_X7_104 (k_X7_fail S3) dX7_readAtom_96 S3.r rfl rfl (Nat.le_of_ble_eq_true rfl) ⟨by decide, by decide⟩ ⟨by decide, by decide⟩ (fun v9 hF z => ?_) (fun _ _ _ _ _ z => by cases z.1)
        obtain ⟨ev, RF⟩ := z
        cases ev
        exact x_iret dX7_readAtom_99 rfl rfl (Nat.le_refl _) (Nat.le_refl _) (Or.inl ⟨4, _, (by unfold pAtom; rw [if_pos ⟨c_5, hnt⟩, if_neg z1, if_neg z2]), rfl, _, _, _, extQ_rf q, RF⟩)
      · refine x_put [.int (tmI v i 0), .int (nI (q.2.2.1)), .int (tmI v i 2), .int (tmI v i 3), .int (tmI v i 4), .int (tmI v i 5), .int (tmI v i 6)] lf_X7_154 dX7_readAtom_71 (R1.tm hi) (Nat.le_of_ble_eq_true rfl) rfl rfl rfl ?_
        refine x_heap (h' := xup h1 (tAd (ra rc) i) (tC (upd (tmI v i) 1 (nI (q.2.2.1))))) rfl ?_
        have S2 := R1.term hi (upd (tmI v i) 1 (nI (q.2.2.1)))
        generalize xup h1 (tAd (ra rc) i) (tC (upd (tmI v i) 1 (nI (q.2.2.1)))) = g2 at S2 ⊢
        refine x_aload_n dX7_readAtom_74 rfl ?_
        refine x_aload_n dX7_readAtom_75 rfl ?_
        refine x_callV (As := []) (st := [.ref (tAd (ra rc) i)]) lv_X7_122 (k_X7_start S2 O hk) dX7_readAtom_76 S2.r rfl rfl (Nat.le_of_ble_eq_true rfl) ⟨by decide, by decide⟩ ⟨by decide, by decide⟩ (fun v9 h9 z => ?_) (fun _ _ _ _ _ z => by cases z.1)
        obtain ⟨ev, eh⟩ := z
        rw [eh]
        cases ev
        refine x_put [.int (tmI (stT v i (upd (tmI v i) 1 (nI (q.2.2.1)))) i 0), .int (tmI (stT v i (upd (tmI v i) 1 (nI (q.2.2.1)))) i 1), .int (tmI (stT v i (upd (tmI v i) 1 (nI (q.2.2.1)))) i 2), .int (tmI (stT v i (upd (tmI v i) 1 (nI (q.2.2.1)))) i 3), .int (nI ((tk k).2.1)), .int (tmI (stT v i (upd (tmI v i) 1 (nI (q.2.2.1)))) i 5), .int (tmI (stT v i (upd (tmI v i) 1 (nI (q.2.2.1)))) i 6)] lf_X7_99 dX7_readAtom_79 (S2.tm hi) (Nat.le_of_ble_eq_true rfl) rfl rfl rfl ?_
        refine x_heap (h' := xup g2 (tAd (ra rc) i) (tC (upd (tmI (stT v i (upd (tmI v i) 1 (nI (q.2.2.1)))) i) 4 (nI (tk k).2.1)))) rfl ?_
        have S3 := S2.term hi (upd (tmI (stT v i (upd (tmI v i) 1 (nI (q.2.2.1)))) i) 4 (nI (tk k).2.1))
        generalize xup g2 (tAd (ra rc) i) (tC (upd (tmI (stT v i (upd (tmI v i) 1 (nI (q.2.2.1)))) i) 4 (nI (tk k).2.1))) = g3 at S3 ⊢
        rw [stT_tm, stT_tw] at S3
        refine x_aload_n dX7_readAtom_82 rfl ?_
        refine x_get lf_X7_154 dX7_readAtom_83 (S3.tm hi) rfl ?_
        refine x_top (y := nI (q.2.2.1)) (by rw [stT_tm]; rfl) ?_
        refine x_iconst (v := (-1)) dX7_readAtom_86 (by decide) ?_
        refine x_icmp_ne 100 dX7_readAtom_87 (by decide) (fun c_87 => ?_) (fun c_87 => absurd c_87 (nI_m1 (by have := R.z.2.1; omega)))
        refine x_aload_n dX7_readAtom_100 rfl ?_
        refine x_dup dX7_readAtom_101 rfl ?_
        refine x_get lf_X7_48 dX7_readAtom_102 S3.r rfl ?_
        refine x_iconst (v := 1) dX7_readAtom_105 (by decide) ?_
        refine x_iadd dX7_readAtom_106 ?_
        refine x_top (y := nI (k + 1)) (nI_add k 1) ?_
        refine x_put [.ref 3, .ref 182, .int (nI (k + 1)), .ref 186, .int (nI fn), .int (nI cl), .int flt, .int plc] lf_X7_48 dX7_readAtom_107 S3.r (Nat.le_of_ble_eq_true rfl) rfl rfl rfl ?_
        have hk1 := tkO_next O hk (by omega)
        have S1 := S3.rd (k + 1) flt plc
        generalize xup g3 181 (.inr (7, [.ref 3, .ref 182, .int (nI (k + 1)), .ref 186, .int (nI fn), .int (nI cl), .int flt, .int plc])) = g1 at S1 ⊢
        refine x_post (l_X7_at1 S1 O hk1 hi (kd := q.2.2.1) (pl := (tk k).2.1) (by have := R.z.2.1; omega) (by have := R.z.2.1; omega) (kdV_1 v i _ _).1 (kdV_1 v i _ _).2 (nw := true) (by exact ⟨fun _ => rfl, fun _ => rfl⟩) (extQ_ki q _) (fun z => Nat.le_refl _)) (fun o h' z => ?_)
        unfold pAtom; rw [if_pos ⟨c_5, hnt⟩, if_neg z1, if_pos z2]; exact z
    · refine x_aload_n dX7_readAtom_27 rfl ?_
      refine x_iconst (v := 1) dX7_readAtom_28 (by decide) ?_
      refine x_aload_n dX7_readAtom_29 rfl ?_
      refine x_callV (As := []) (st := [.int 1, .ref 181]) lv_X7_122 (k_X7_start R O hk) dX7_readAtom_30 R.r rfl rfl (Nat.le_of_ble_eq_true rfl) ⟨by decide, by decide⟩ ⟨by decide, by decide⟩ (fun v9 h9 z => ?_) (fun _ _ _ _ _ z => by cases z.1)
      obtain ⟨ev, eh⟩ := z
      rw [eh]
      cases ev
      refine x_callV (As := [.int 1, .int (nI ((tk k).2.1))]) (st := []) lv_X7_104 (k_X7_fail R) dX7_readAtom_33 R.r rfl rfl (Nat.le_of_ble_eq_true rfl) ⟨by decide, by decide⟩ ⟨by decide, by decide⟩ (fun v9 hF z => ?_) (fun _ _ _ _ _ z => by cases z.1)
      obtain ⟨ev, RF⟩ := z
      cases ev
      exact x_iret dX7_readAtom_36 rfl rfl (Nat.le_refl _) (Nat.le_refl _) (Or.inl ⟨1, _, (by unfold pAtom; rw [if_neg (fun z => z.2 ((not_w hwd.1 hwd.2).mp ((lg_cmp_eq _ _).mp c_24)))]), rfl, _, _, _, extQ_rf q, RF⟩)
