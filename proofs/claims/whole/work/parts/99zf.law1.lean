/-! calls of methods that catch; the law's own method 'name' -/
theorem xCW_H {M : xM} (h : M.2.2.2.2 ≠ []) : xCW M = .codeWith M.1 M.2.1 M.2.2.1 M.2.2.2.1 M.2.2.2.2 := by
  obtain ⟨y, cc, nL, ret, hh⟩ := M
  cases hh with
  | nil => exact absurd rfl h
  | cons a r => rfl
theorem xcodeH_ok {M : xM} (h : M.2.2.2.2 ≠ []) : xok (xCW M) = true := by
  rw [xCW_H h]; rfl
def xLVH (own : String) (i ci n : Nat) (Mc : xM) : Prop := ∃ r : vw_C, xCl[ci]? = some r ∧ Mc.2.2.2.2 ≠ [] ∧ Cond.methodLink own i Mc.1 ∈ lw_tbl ∧ Cond.instanceMethod Mc.1 ∈ lw_tbl ∧ Cond.selects r.1 Mc.1 Mc.1 ∈ lw_tbl ∧ xCW Mc ∈ lw_tbl ∧ Cond.initialized Mc.1.cls ∈ lw_tbl ∧ (Mc.1.cls ≠ "java/lang/invoke/MethodHandle" ∧ Mc.1.cls ≠ "java/lang/invoke/VarHandle") ∧ (parseMethodDescriptor Mc.1.desc).map (fun d => d.parameters.length) = some n
def xLSH (own : String) (i n : Nat) (Mc : xM) : Prop := Mc.2.2.2.2 ≠ [] ∧ Cond.methodLink own i Mc.1 ∈ lw_tbl ∧ Cond.static Mc.1 ∈ lw_tbl ∧ xCW Mc ∈ lw_tbl ∧ Cond.initialized Mc.1.cls ∈ lw_tbl ∧ (Mc.1.cls ≠ "java/lang/invoke/MethodHandle" ∧ Mc.1.cls ≠ "java/lang/invoke/VarHandle") ∧ (parseMethodDescriptor Mc.1.desc).map (fun d => d.parameters.length) = some n
section XLH
variable {G : xG} {M Mc : xM} {R : Room} {F : List Frame → Array Value → State → State → Prop} {uc us pc : Nat} {ls : List (Nat × Value)} {st stk : List Value} {h : xHp} {d mc ms n i : Nat} {As : List Value} {Q : Option Value ⊕ Nat → xHp → Prop}
theorem x_callVH {ci a : Nat} {fs : List Value} (hw : xLVH M.1.cls i ci n Mc) (hM : MX G Mc d mc ms (.ref a :: As) h Q) (hd : decode M.2.1 pc = .ok (.invokevirtual i, 3)) (hc : h.1 a = some (.inr (ci, fs))) (hn : As.length = n) (hstk : stk = As.reverse ++ .ref a :: st) (hst : (st.map fun v => v.category).sum ≤ 8) (hroom : d + 1 ≤ R.frames ∧ 8 + (Mc.2.2.1 + 11) + 100 * d ≤ R.locals) (hcs : uc + mc ≤ R.cells ∧ us + ms ≤ R.slots)
    (k : ∀ v h', Q (.inl v) h' → Wx G M R F (uc + mc) (us + ms) (pc + 3) ls (v.toList ++ st) h') (kx : ∀ q ci fs h', h'.1 q = some (.inr (ci, fs)) → Q (.inr q) h' → WxT G M R F (uc + mc) (us + ms) pc ls st h' q) : Wx G M R F uc us pc ls stk h := by
  intro p e s m args below meth c H locs lsA hC hR hL hl
  subst hstk
  obtain ⟨hx, hb, hml, hown, hr, hlo, hnme, htab, hK⟩ := id hC
  have hT := hK.2.1
  obtain ⟨r, hcl, hh, w1, w2, w3, w4, w5, w6, w7⟩ := hw
  obtain ⟨r', hr', cell, q1, q2, q3, -⟩ := (hR.2.2.2 a _ hc).2.2
  have hcls := (hK.1.1 ci r hcl).2.1
  have hcode : (Cond.codeWith Mc.1 Mc.2.1 Mc.2.2.1 Mc.2.2.2.1 Mc.2.2.2.2).before args s = true := by
    have h9 := hT.use w4 (xcodeH_ok hh) args
    rw [xCW_H hh] at h9
    exact h9
  have hlenP : ∀ sig, parseMethodDescriptor Mc.1.desc = some sig → (As.map (xv G)).length = sig.parameters.length := by
    intro sig hs
    rw [hs] at w7
    rw [List.length_map, hn]
    exact (Option.some.inj w7).symm
  intro T hT9 X
  rcases vx_callVX X hx (C := r.1) (bytes := Mc.2.1) (maxL := Mc.2.2.1) (ret := Mc.2.2.2.1) hown (hT.use w1 rfl args) (hT.use w2 rfl args) (hT.use w3 rfl args) hcode w6
    (x_back (W9 := 8) hM hroom.1 hroom.2 w4 (xcodeH_ok hh) w5) (b := xa G a) (cellB := cell) (by rw [hT9]; exact q1) (by rw [q3]; rfl) (by rw [q2]; exact hcls) (g := F0 m pc lsA ((As.reverse ++ .ref a :: st).map (xv G))) rfl (hl.1.trans hml.symm) (argsL := As.map (xv G)) (rest := st.map (xv G)) hlenP
    (by show (As.reverse ++ .ref a :: st).map (xv G) = _; rw [List.map_append, List.map_reverse]; rfl) (by show 2 * 0 + _ ≤ 8; rw [xcat_sum]; omega) (by rw [hb]; exact hd)
    (fun vm₁ hW₁ => ⟨hcs.1, hcs.2, rfl, by show xR G h (T.setVm vm₁).heap; rw [show (T.setVm vm₁).heap = H from hT9]; exact hR, xK.moved (U := T.setVm vm₁) hW₁ hK⟩) with
    ⟨v, vm₁, ⟨U', l2, c2, s2⟩, hW₁, X', ⟨L, h', v', rfl, hq, hR', e1, hL', e2, e3⟩, stp⟩ | ⟨q, vm₁, ⟨U', l2, c2, s2⟩, hW₁, X', ⟨L, h', q', ci', fs', rfl, hqc, hq, hR', e1, hL', e2, e3⟩, stp⟩
  · dsimp only [Pt.U, Pt.locs, Pt.cells, Pt.slots] at X' e1 e2 e3 stp hR'
    subst e1; subst e2; subst e3
    obtain ⟨t, a1, b1⟩ := k v' h' hq p e s m args below meth c U'.heap (locs ++ L) lsA hC hR' (fun z hz => (List.mem_append.mp hz).elim (hL z) (hL' z)) hl U' rfl X'
    refine ⟨t, stp t ?_, b1⟩
    rw [xret_map] at a1
    exact a1
  · dsimp only [Pt.U, Pt.locs, Pt.cells, Pt.slots] at X' e1 e2 e3 stp hR'
    subst e1; subst e2; subst e3
    obtain ⟨t, a1, b1⟩ := kx q' ci' fs' h' hqc hq p e s m args below meth c U'.heap (locs ++ L) lsA hC hR' (fun z hz => (List.mem_append.mp hz).elim (hL z) (hL' z)) hl U' rfl X'
    exact ⟨t, stp.trans a1, b1⟩
theorem x_callSH (hw : xLSH M.1.cls i n Mc) (hM : MX G Mc d mc ms As h Q) (hd : decode M.2.1 pc = .ok (.invokestatic i, 3)) (hn : As.length = n) (hstk : stk = As.reverse ++ st) (hst : (st.map fun v => v.category).sum ≤ 8) (hroom : d + 1 ≤ R.frames ∧ 8 + (Mc.2.2.1 + 11) + 100 * d ≤ R.locals) (hcs : uc + mc ≤ R.cells ∧ us + ms ≤ R.slots)
    (k : ∀ v h', Q (.inl v) h' → Wx G M R F (uc + mc) (us + ms) (pc + 3) ls (v.toList ++ st) h') (kx : ∀ q ci fs h', h'.1 q = some (.inr (ci, fs)) → Q (.inr q) h' → WxT G M R F (uc + mc) (us + ms) pc ls st h' q) : Wx G M R F uc us pc ls stk h := by
  intro p e s m args below meth c H locs lsA hC hR hL hl
  subst hstk
  obtain ⟨hx, hb, hml, hown, hr, hlo, hnme, htab, hK⟩ := id hC
  have hT := hK.2.1
  obtain ⟨hh, w1, w2, w4, w5, w6, w7⟩ := hw
  have hcode : (Cond.codeWith Mc.1 Mc.2.1 Mc.2.2.1 Mc.2.2.2.1 Mc.2.2.2.2).before args s = true := by
    have h9 := hT.use w4 (xcodeH_ok hh) args
    rw [xCW_H hh] at h9
    exact h9
  have hlenP : ∀ sig, parseMethodDescriptor Mc.1.desc = some sig → (As.map (xv G)).length = sig.parameters.length := by
    intro sig hs
    rw [hs] at w7
    rw [List.length_map, hn]
    exact (Option.some.inj w7).symm
  intro T hT9 X
  rcases vx_callSX X hx (bytes := Mc.2.1) (maxL := Mc.2.2.1) (ret := Mc.2.2.2.1) hown (hT.use w1 rfl args) (hT.use w2 rfl args) (hT.use w5 rfl args) hcode w6
    (x_back (W9 := 8) hM hroom.1 hroom.2 w4 (xcodeH_ok hh) w5) (g := F0 m pc lsA ((As.reverse ++ st).map (xv G))) rfl (hl.1.trans hml.symm) (argsL := As.map (xv G)) (rest := st.map (xv G)) hlenP
    (by show (As.reverse ++ st).map (xv G) = _; rw [List.map_append, List.map_reverse]) (by show 2 * 0 + _ ≤ 8; rw [xcat_sum]; omega) (by rw [hb]; exact hd)
    (fun vm₁ hW₁ => ⟨hcs.1, hcs.2, rfl, by show xR G h (T.setVm vm₁).heap; rw [show (T.setVm vm₁).heap = H from hT9]; exact hR, xK.moved (U := T.setVm vm₁) hW₁ hK⟩) with
    ⟨v, vm₁, ⟨U', l2, c2, s2⟩, hW₁, X', ⟨L, h', v', rfl, hq, hR', e1, hL', e2, e3⟩, stp⟩ | ⟨q, vm₁, ⟨U', l2, c2, s2⟩, hW₁, X', ⟨L, h', q', ci', fs', rfl, hqc, hq, hR', e1, hL', e2, e3⟩, stp⟩
  · dsimp only [Pt.U, Pt.locs, Pt.cells, Pt.slots] at X' e1 e2 e3 stp hR'
    subst e1; subst e2; subst e3
    obtain ⟨t, a1, b1⟩ := k v' h' hq p e s m args below meth c U'.heap (locs ++ L) lsA hC hR' (fun z hz => (List.mem_append.mp hz).elim (hL z) (hL' z)) hl U' rfl X'
    refine ⟨t, stp t ?_, b1⟩
    rw [xret_map] at a1
    exact a1
  · dsimp only [Pt.U, Pt.locs, Pt.cells, Pt.slots] at X' e1 e2 e3 stp hR'
    subst e1; subst e2; subst e3
    obtain ⟨t, a1, b1⟩ := kx q' ci' fs' h' hqc hq p e s m args below meth c U'.heap (locs ++ L) lsA hC hR' (fun z hz => (List.mem_append.mp hz).elim (hL z) (hL' z)) hl U' rfl X'
    exact ⟨t, stp.trans a1, b1⟩
end XLH
set_option maxRecDepth 20000 in
theorem lvH_L_28 : xLVH RL 28 14 1 mX14_tell := ⟨_, rfl, List.cons_ne_nil _ _, xm5 120 rfl, xm5 121 rfl, xm5 122 rfl, cw_X14_tell, in_X14, ⟨by decide +kernel, by decide +kernel⟩, by decide +kernel⟩
set_option maxRecDepth 20000 in
theorem lsH_L_43 : xLSH RL 43 5 mL_name := ⟨List.cons_ne_nil _ _, xm4 104 rfl, xm4 105 rfl, cw_L_name, in_L, ⟨by decide +kernel, by decide +kernel⟩, by decide +kernel⟩
set_option maxRecDepth 100000 in
set_option maxHeartbeats 4000000 in
theorem k_L_name {G : xG} {h : xHp} {tsz : Nat} {tp : Nat → Int32} {rc : Nat} {fc : Int32} {nt : Nat} {nk : Nat} {lf : Nat → Int32} {ra : Nat → Nat} {V : Nat → RV} {kw : Nat → Int64} {tw : Nat → Int64} {pf : Nat → Int32} {fr : Nat → Int32} {cl : Int32} {flt : Int32} {plc : Int32} {ns : Bool} {f : Nat → Int32} {g : Nat → Int32} {cn : Nat} {ct : Nat → Int32} {rn : Nat} {rs : Nat → Int32} {tr : Int32} (x : XH h tsz tp rc fc nt nk lf ra V kw tw pf fr cl flt plc ns f g cn ct rn rs tr) {k i : Int32} {b : Bool} (hnk : nk ≤ 10) (hnt : nt ≤ 10) {o9 : Nat → Int64} (ho : h.1 226 = some (.inl (1, 1, .inr (.inl o9)))) : MX G mL_name 7 1 6 [.ref 1, .int k, .int i, .int (bi b), .ref 226] h (fun o h' => ((nm_letter (if b = true then kw else tw) (if b = true then nk else nt) k i) = -1 ∧ o = .inl (some (.int 1)) ∧ h' = xnw h (.inr (15, []))) ∨ (¬ (nm_letter (if b = true then kw else tw) (if b = true then nk else nt) k i) = -1 ∧ o = .inl (some (.int 0)) ∧ h' = xup h 226 (.inl (1, 1, .inr (.inl (vp_updL o9 0 ((nm_letter (if b = true then kw else tw) (if b = true then nk else nt) k i)).toInt64)))))) := by
  refine MX.ofH [(0, .ref 1), (1, .int k), (2, .int i), (3, .int (bi b)), (4, .ref 226)] (by decide) (List.cons_ne_nil _ _) (Nat.le_of_ble_eq_true rfl) rfl ?_
  refine x_aload dL_name_0 rfl ?_
  refine x_iconst (v := 0) dL_name_2 (by decide) ?_
  refine x_aload_n dL_name_3 rfl ?_
  refine x_iload_n dL_name_4 rfl ?_
  refine x_iload_n dL_name_5 rfl ?_
  refine x_iload_n dL_name_6 rfl ?_
  refine x_callV (As := [.int k, .int i, .int (bi b)]) (st := [.int 0, .ref 226]) lv_L_7 (k_X11_name x hnk hnt) dL_name_7 x.c rfl rfl (Nat.le_of_ble_eq_true rfl) ⟨by decide, by decide⟩ ⟨by decide, by decide⟩ (fun v9 h9 z => ?_) (fun q9 ci9 fs9 h9 hc9 z => ?_)
  rotate_left
  · rcases z with ⟨z1, z2, z3⟩ | ⟨z1, z2, z3⟩
    · injection z2 with z2
      subst z2
      subst z3
      refine x_caught (r := (NSE, TJ7, 0)) (x := ⟨0, 12, 15, 13⟩) rfl rfl (by decide) ck_L_13 rfl (xnw_self _ _) ?_
      refine x_astore [(0, .ref 1), (1, .int k), (2, .int i), (3, .int (bi b)), (4, .ref 226), (5, .ref h.2)] dL_name_15 (by decide) rfl rfl ?_
      refine x_iconst (v := 1) dL_name_17 (by decide) ?_
      exact x_iret dL_name_18 rfl rfl (Nat.le_refl _) (Nat.le_refl _) (Or.inl ⟨z1, rfl, rfl⟩)
    · cases z2
  rcases z with ⟨z1, z2, z3⟩ | ⟨z1, z2, z3⟩
  · cases z2
  cases z2
  subst z3
  refine x_i2l dL_name_10 ?_
  refine x_lastN (j := 0) ho rfl (by decide) (by decide) dL_name_11 ?_
  refine x_goto 19 dL_name_12 (by decide) ?_
  refine x_iconst (v := 0) dL_name_19 (by decide) ?_
  exact x_iret dL_name_20 rfl rfl (Nat.le_refl _) (Nat.le_refl _) (Or.inr ⟨z1, rfl, rfl⟩)
