/-! the reference: works, whole -/
set_option maxRecDepth 100000 in
set_option maxHeartbeats 4000000 in
theorem l_X14_wk0 {G : xG} {R : Room} {F : List Frame → Array Value → State → State → Prop} {uc us : Nat} {h : xHp} {g : Nat → Int32} {w : Int64} {nw : Value} {ar : Nat → Nat → Int32} {tw : Nat → Int64} {kw : Nat → Int64} {rf : Nat → Option Nat} (M : MH h g w nw ar tw kw rf) {S : Nat → Bool} (h12 : ∀ j, j < 1000 → ar 212 j = bi (S j)) {u x2 : Int32} (hcont : ∀ f : Nat → Int32, (∀ j, j < 1000 → f j = if S j = true then 0 else 1000000) → Wx G mX14_works R F uc us 45 [(0, .ref 205), (1, .int u), (2, .int x2), (3, .int (nI 1000))] [] (xup h 219 (.inl (0, 1000, .inl f)))) : ∀ (m n : Nat) (f : Nat → Int32), n ≤ 1000 → 1001 ≤ n + m → (∀ q, q < n → f q = if S q = true then 0 else 1000000) → Wx G mX14_works R F uc us 11 [(0, .ref 205), (1, .int u), (2, .int x2), (3, .int (nI n))] [] (xup h 219 (.inl (0, 1000, .inl f))) := by
  intro m
  induction m with
  | zero => exact fun n f h1 h2 => absurd h2 (by omega)
  | succ m ih =>
    intro n f hk hk2 hz
    refine x_iload_n dX14_works_11 rfl ?_
    refine x_sipush (v := 1000) dX14_works_12 (by decide) ?_
    refine x_icmp_ge 45 dX14_works_15 (by decide) (fun c_15 => ?_) (fun c_15 => ?_)
    · rw [show (1000 : Int32) = nI 1000 from rfl, nI_leI (by omega) (by omega)] at c_15
      rw [show n = 1000 by omega]
      exact hcont f (fun q hq => hz q (by omega))
    · rw [show (1000 : Int32) = nI 1000 from rfl, nI_leI (by omega) (by omega)] at c_15
      refine x_aload_n dX14_works_18 rfl ?_
      refine x_get lf_X14_63 dX14_works_19 ((xup_ne (by omega)).trans M.o) rfl ?_
      refine x_iload_n dX14_works_22 rfl ?_
      refine x_aload_n dX14_works_23 rfl ?_
      refine x_get lf_X14_33 dX14_works_24 ((xup_ne (by omega)).trans M.o) rfl ?_
      refine x_iload_n dX14_works_27 rfl ?_
      refine x_zaldN (j := n) ((xup_ne (by omega)).trans (M.a 212 3 1000 rfl)) rfl (by omega) (by decide) dX14_works_28 ?_
      refine x_top (h12 n (by omega)) ?_
      refine x_if_eq 36 dX14_works_29 (by decide) (fun c_29 => ?_) (fun c_29 => ?_)
      · have c_29 := bi_f c_29
        refine x_ldc kc_X14_253 dX14_works_36 ?_
        refine x_iastN (j := n) (xup_self _ _ _) rfl (by omega) (by decide) dX14_works_38 ?_
        refine x_iinc (v := nI (n + 1)) [(0, .ref 205), (1, .int u), (2, .int x2), (3, .int (nI (n + 1)))] dX14_works_39 rfl (nI_add n 1) (by decide) rfl rfl ?_
        refine x_goto 11 dX14_works_42 (by decide) ?_
        refine x_heap (xup_up _ _ _ _) ?_
        exact ih (n + 1) _ (by omega) (by omega) (fun q hq => by by_cases e : q = n; (rw [e, upd_at9]; first | exact (if_pos (by first | exact c_29 | exact bi_t c_29)).symm | exact (if_neg (by first | (rw [c_29]; decide) | (rw [bi_f c_29]; decide))).symm); rw [upd_nq e]; exact hz q (by omega))
      · have c_29 := bi_t c_29
        refine x_iconst (v := 0) dX14_works_32 (by decide) ?_
        refine x_goto 38 dX14_works_33 (by decide) ?_
        refine x_iastN (j := n) (xup_self _ _ _) rfl (by omega) (by decide) dX14_works_38 ?_
        refine x_iinc (v := nI (n + 1)) [(0, .ref 205), (1, .int u), (2, .int x2), (3, .int (nI (n + 1)))] dX14_works_39 rfl (nI_add n 1) (by decide) rfl rfl ?_
        refine x_goto 11 dX14_works_42 (by decide) ?_
        refine x_heap (xup_up _ _ _ _) ?_
        exact ih (n + 1) _ (by omega) (by omega) (fun q hq => by by_cases e : q = n; (rw [e, upd_at9]; first | exact (if_pos (by first | exact c_29 | exact bi_t c_29)).symm | exact (if_neg (by first | (rw [c_29]; decide) | (rw [bi_f c_29]; decide))).symm); rw [upd_nq e]; exact hz q (by omega))
set_option maxRecDepth 100000 in
set_option maxHeartbeats 4000000 in
theorem k_X14_works {G : xG} {h : xHp} {g : Nat → Int32} {w : Int64} {nw : Value} {ar : Nat → Nat → Int32} {tw : Nat → Int64} {kw : Nat → Int64} {rf : Nat → Option Nat} (M : MH h g w nw ar tw kw rf) {S : Nat → Bool} {V : Nat → RV} {rc nt : Nat} {u : Int32} {s0 : Nat → Option Nat} (hs : IsSt S V rc (uR u) nt s0) (hV : ∀ r, r < rc → okRl nt (V r)) (hn : nt ≤ 10) (hrc : rc ≤ 20) (h6 : g 6 = nI rc) (hT : rmT h rf rc V) (hcv : ∀ r, r < rc → covR (V r)) (hpw : pwA V rc nt s0) (hK : ∀ r, r < rc → okK (V r)) (hsat : ∃ S9, Sat V rc S9) (h12 : ∀ j, j < 1000 → ar 212 j = bi (S j)) : MX G mX14_works 11 0 0 [.ref 205, .int u] h (fun o h' => o = .inl none ∧ ∃ g' ar', MH h' g' w nw ar' tw kw rf ∧ yfr h h' ∧ (∀ k, k ≠ 34 → g' k = g k) ∧ (∀ c, c ≠ 211 → c ≠ 219 → c ≠ 220 → ar' c = ar c) ∧ stO (ar' 219) s0) := by
  refine MX.of [(0, .ref 205), (1, .int u)] (by decide) rfl (Nat.le_of_ble_eq_true rfl) rfl ?_
  refine x_aload_n dX14_works_0 rfl ?_
  refine x_aload_n dX14_works_1 rfl ?_
  refine x_get lf_X14_93 dX14_works_2 M.o rfl ?_
  refine x_top (y := nI rc) h6 ?_
  refine x_callV (As := [.int (nI rc)]) (st := []) lv_X14_226 (k_X14_layers M hrc hK hT) dX14_works_5 M.o rfl rfl (Nat.le_of_ble_eq_true rfl) ⟨by decide, by decide⟩ ⟨by decide, by decide⟩ (fun v9 h9 z => ?_) (fun _ _ _ _ _ z => by obtain ⟨_, _, z, _⟩ := z; cases z)
  obtain ⟨b9, lf9, ev, eh, hb1, hb0⟩ := z
  cases ev
  have hbt : b9 = true := by cases b9 with | true => rfl | false => exact absurd hsat (hb0 rfl)
  obtain ⟨L, hl1, hl2, hl3, hl4⟩ := hb1 hbt
  have M2 : MH h9 g w nw (apF ar 211 lf9) tw kw rf := by rw [eh]; exact M.a9 (c := 211) rfl _
  have Y2 : yfr h h9 := by rw [eh]; exact (yfr_rf _).up (by decide)
  generalize h9 = h2 at M2 Y2 ⊢
  refine x_istore_n [(0, .ref 205), (1, .int u), (2, .int (bi b9))] dX14_works_8 (by decide) rfl rfl ?_
  refine x_iconst (v := 0) dX14_works_9 (by decide) ?_
  refine x_istore_n [(0, .ref 205), (1, .int u), (2, .int (bi b9)), (3, .int 0)] dX14_works_10 (by decide) rfl rfl ?_
  refine x_heap (xup_id (M2.a 219 0 1000 rfl)).symm ?_
  refine l_X14_wk0 M2 (fun j hj => by rw [apF_ne (by decide)]; exact h12 j hj) (fun f hf => ?_) 1001 0 _ (by omega) (by omega) (fun q hq => absurd hq (by omega))
  refine x_iconst (v := 0) dX14_works_45 (by decide) ?_
  refine x_istore_n [(0, .ref 205), (1, .int u), (2, .int (bi b9)), (3, .int 0)] dX14_works_46 (by decide) rfl rfl ?_
  exact l_X14_wkO M hs hV hn hrc h6 hT hcv hpw hl3 hl1 hl2 12 0 (by omega) (by omega) (t := fun n => if S n = true then some 0 else none) ⟨M2.a9 (c := 219) rfl f, Y2.tr ((yfr_rf _).up (by decide)), fun _ _ => rfl, fun c a1 a2 _ => (apF_ne a2).trans (apF_ne a1), (apF_ne (by decide)).trans (apF_at _ _ _), by rw [apF_at]; exact (fun n hn9 => ⟨by rw [hf n hn9]; (by_cases z : S n = true; (rw [if_pos z]; show _ = enS (if S n = true then some 0 else none); rw [if_pos z]; rfl); (rw [if_neg z]; show _ = enS (if S n = true then some 0 else none); rw [if_neg z]; rfl)), fun d e => by (have e : (if S n = true then some 0 else none) = some d := e); (by_cases z : S n = true; (rw [if_pos z] at e; cases e; decide); (rw [if_neg z] at e; cases e))⟩), wkI_0 hs⟩
