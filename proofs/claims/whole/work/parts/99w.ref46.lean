/-! the reference: remembers, turned, isSpare -/
theorem rem_s {ar1 : Nat → Nat → Int32} {s : Nat → Option Nat} {x : Nat} {b : Int32} (h : ∀ n, n < x → ar1 222 n = bi (s n).isSome) (hb : b = bi (s x).isSome) : ∀ n, n < x + 1 → apF ar1 222 (upd (ar1 222) x b) 222 n = bi (s n).isSome := fun n hn => by
  rw [apF_at]
  by_cases z : n = x
  · rw [z, upd_at9, hb]
  · rw [upd_nq z]; exact h n (by omega)
theorem is_n {o : Option Nat} (h : o = none) : (0 : Int32) = bi o.isSome := by rw [h]; rfl
theorem is_s {o : Option Nat} (h : ¬ o = none) : (1 : Int32) = bi o.isSome := by
  cases o with
  | none => exact absurd rfl h
  | some d => rfl
set_option maxRecDepth 100000 in
set_option maxHeartbeats 4000000 in
theorem l_X14_rem {G : xG} {h : xHp} {g : Nat → Int32} {w : Int64} {nw : Value} {ar : Nat → Nat → Int32} {tw : Nat → Int64} {kw : Nat → Int64} {rf : Nat → Option Nat} (M : MH h g w nw ar tw kw rf) {s0 : Nat → Option Nat} (hst : stO (ar 219) s0) : ∀ (m x : Nat) {h1 : xHp} {ar1 : Nat → Nat → Int32}, x ≤ 1000 → 1001 ≤ x + m → MH h1 g w nw ar1 tw kw rf → yfr h h1 → (∀ c, c ≠ 222 → ar1 c = ar c) → (∀ n, n < x → ar1 222 n = bi (s0 n).isSome) → Wx G mX14_remembers (xRm 1 0 0) (xF G (fun o h' => o = .inl none ∧ yfr h h' ∧ ∃ ar', MH h' g w nw ar' tw kw rf ∧ (∀ c, c ≠ 222 → ar' c = ar c) ∧ ∀ n, n < 1000 → ar' 222 n = bi (s0 n).isSome) 0 0) 0 0 2 [(0, .ref 205), (1, .int (nI x))] [] h1 := by
  intro m
  induction m with
  | zero => intro x h1 ar1 a1 a2; exact absurd a2 (by omega)
  | succ m ih =>
    intro x h1 ar1 hx hx2 M1 Y1 ak1 hr1
    refine x_iload_n dX14_remembers_2 rfl ?_
    refine x_sipush (v := 1000) dX14_remembers_3 (by decide) ?_
    refine x_icmp_ge 37 dX14_remembers_6 (by decide) (fun c_6 => ?_) (fun c_6 => ?_)
    · rw [show (1000 : Int32) = nI 1000 from rfl, nI_leI (by omega) (by omega)] at c_6
      exact x_vret dX14_remembers_37 rfl (Nat.le_refl _) (Nat.le_refl _) ⟨rfl, Y1, ar1, M1, ak1, fun n hn => hr1 n (by omega)⟩
    · rw [show (1000 : Int32) = nI 1000 from rfl, nI_leI (by omega) (by omega)] at c_6
      have hs9 := hst x (by omega)
      refine x_aload_n dX14_remembers_9 rfl ?_
      refine x_get lf_X14_72 dX14_remembers_10 M1.o rfl ?_
      refine x_iload_n dX14_remembers_13 rfl ?_
      refine x_aload_n dX14_remembers_14 rfl ?_
      refine x_get lf_X14_63 dX14_remembers_15 M1.o rfl ?_
      refine x_iload_n dX14_remembers_18 rfl ?_
      refine x_ialdN (j := x) (M1.a 219 0 1000 rfl) rfl (by omega) (by decide) dX14_remembers_19 ?_
      refine x_top ((congrFun (ak1 219 (by decide)) x).trans hs9.1) ?_
      refine x_ldc kc_X14_253 dX14_remembers_20 ?_
      refine x_icmp_ge 29 dX14_remembers_22 (by decide) (fun c_22 => ?_) (fun c_22 => ?_)
      · refine x_iconst (v := 0) dX14_remembers_29 (by decide) ?_
        refine x_zastN (j := x) (M1.a 222 3 1000 rfl) rfl (by omega) (by decide) (by decide) dX14_remembers_30 ?_
        refine x_iinc (v := nI (x + 1)) [(0, .ref 205), (1, .int (nI (x + 1)))] dX14_remembers_31 rfl (nI_add x 1) (by decide) rfl rfl ?_
        refine x_goto 2 dX14_remembers_34 (by decide) ?_
        exact ih (x + 1) (by omega) (by omega) (M1.a9 (c := 222) rfl (upd (ar1 222) x 0)) (Y1.tr ((yfr_rf _).up (by decide))) (fun c hc => (apF_ne hc).trans (ak1 c hc)) (rem_s hr1 (by first | exact is_n ((enS_ge hs9.2).mp c_22) | exact is_s (fun z => c_22 ((enS_ge hs9.2).mpr z))))
      · refine x_iconst (v := 1) dX14_remembers_25 (by decide) ?_
        refine x_goto 30 dX14_remembers_26 (by decide) ?_
        refine x_zastN (j := x) (M1.a 222 3 1000 rfl) rfl (by omega) (by decide) (by decide) dX14_remembers_30 ?_
        refine x_iinc (v := nI (x + 1)) [(0, .ref 205), (1, .int (nI (x + 1)))] dX14_remembers_31 rfl (nI_add x 1) (by decide) rfl rfl ?_
        refine x_goto 2 dX14_remembers_34 (by decide) ?_
        exact ih (x + 1) (by omega) (by omega) (M1.a9 (c := 222) rfl (upd (ar1 222) x 1)) (Y1.tr ((yfr_rf _).up (by decide))) (fun c hc => (apF_ne hc).trans (ak1 c hc)) (rem_s hr1 (by first | exact is_n ((enS_ge hs9.2).mp c_22) | exact is_s (fun z => c_22 ((enS_ge hs9.2).mpr z))))
set_option maxRecDepth 100000 in
set_option maxHeartbeats 4000000 in
theorem k_X14_remembers {G : xG} {h : xHp} {g : Nat → Int32} {w : Int64} {nw : Value} {ar : Nat → Nat → Int32} {tw : Nat → Int64} {kw : Nat → Int64} {rf : Nat → Option Nat} (M : MH h g w nw ar tw kw rf) {s0 : Nat → Option Nat} (hst : stO (ar 219) s0) : MX G mX14_remembers 1 0 0 [.ref 205] h (fun o h' => o = .inl none ∧ yfr h h' ∧ ∃ ar', MH h' g w nw ar' tw kw rf ∧ (∀ c, c ≠ 222 → ar' c = ar c) ∧ ∀ n, n < 1000 → ar' 222 n = bi (s0 n).isSome) := by
  refine MX.of [(0, .ref 205)] (by decide) rfl (Nat.le_of_ble_eq_true rfl) rfl ?_
  refine x_iconst (v := 0) dX14_remembers_0 (by decide) ?_
  refine x_istore_n [(0, .ref 205), (1, .int 0)] dX14_remembers_1 (by decide) rfl rfl ?_
  exact l_X14_rem M hst 1001 0 (by omega) (by omega) M (yfr_rf _) (fun _ _ => rfl) (fun n hn => absurd hn (Nat.not_lt_zero _))
theorem sp_s {P : Nat → Prop} {x : Nat} {b b' : Bool} (h : b = true ↔ ∀ n, n < x → P n) (e : b = true) (h' : b' = true ↔ P x) : b' = true ↔ ∀ n, n < x + 1 → P n := by
  rw [h']
  refine ⟨fun z n hn => ?_, fun z => z x (by omega)⟩
  by_cases q : n = x
  · rw [q]; exact z
  · exact h.mp e n (by omega)
theorem sp_f {P : Nat → Prop} {x : Nat} {b : Bool} (h : b = true ↔ ∀ n, n < x → P n) (e : b = false) : false = true ↔ ∀ n, n < x + 1 → P n := ⟨fun z => (by cases z), fun z => by rw [h.mpr (fun n hn => z n (by omega))] at e; cases e⟩
theorem sp_q {o o' : Option Nat} {b : Bool} {x : Int32} (hx : x = bi o'.isSome) (h : b = true ↔ bi o.isSome = x) : b = true ↔ o.isSome = o'.isSome := by rw [h, hx, bi_inj]
set_option maxRecDepth 100000 in
set_option maxHeartbeats 4000000 in
theorem l_X14_spare {G : xG} {R : Room} {mc ms : Nat} {Q : Option Value ⊕ Nat → xHp → Prop} {h : xHp} {g : Nat → Int32} {w : Int64} {nw : Value} {ar : Nat → Nat → Int32} {tw : Nat → Int64} {kw : Nat → Int64} {rf : Nat → Option Nat} (M : MH h g w nw ar tw kw rf) {s0 s3 : Nat → Option Nat} (hst : stO (ar 219) s3) (hr : ∀ n, n < 1000 → ar 222 n = bi (s0 n).isSome) {x1 : Int32} (hQ : ∀ b : Bool, (b = true ↔ ∀ n, n < 1000 → (s0 n).isSome = (s3 n).isSome) → Q (.inl (some (.int (bi b)))) h) : ∀ (m x : Nat) (b : Bool), x ≤ 1000 → 1001 ≤ x + m → (b = true ↔ ∀ n, n < x → (s0 n).isSome = (s3 n).isSome) → Wx G mX14_isSpare R (xF G Q mc ms) 0 0 18 [(0, .ref 205), (1, .int x1), (2, .int (bi b)), (3, .int (nI x))] [] h := by
  intro m
  induction m with
  | zero => exact fun x b h1 h2 => absurd h2 (by omega)
  | succ m ih =>
    intro x b hx hx2 hb
    refine x_iload_n dX14_isSpare_18 rfl ?_
    refine x_sipush (v := 1000) dX14_isSpare_19 (by decide) ?_
    refine x_icmp_ge 66 dX14_isSpare_22 (by decide) (fun c_22 => ?_) (fun c_22 => ?_)
    · rw [show (1000 : Int32) = nI 1000 from rfl, nI_leI (by omega) (by omega)] at c_22
      refine x_iload_n dX14_isSpare_66 rfl ?_
      exact x_iret dX14_isSpare_67 rfl (bi_nar b) (Nat.zero_le _) (Nat.zero_le _) (hQ b (by rw [show x = 1000 by omega] at hb; exact hb))
    · rw [show (1000 : Int32) = nI 1000 from rfl, nI_leI (by omega) (by omega)] at c_22
      refine x_iload_n dX14_isSpare_25 rfl ?_
      refine x_if_eq 58 dX14_isSpare_26 (by decide) (fun c_26 => ?_) (fun c_26 => ?_)
      · have c_26 := bi_f c_26
        refine x_iconst (v := 0) dX14_isSpare_58 (by decide) ?_
        refine x_istore_n [(0, .ref 205), (1, .int x1), (2, .int 0), (3, .int (nI x))] dX14_isSpare_59 (by decide) rfl rfl ?_
        refine x_iinc (v := nI (x + 1)) [(0, .ref 205), (1, .int x1), (2, .int 0), (3, .int (nI (x + 1)))] dX14_isSpare_60 rfl (nI_add x 1) (by decide) rfl rfl ?_
        refine x_goto 18 dX14_isSpare_63 (by decide) ?_
        first | exact ih (x + 1) false (by omega) (by omega) (sp_f hb (by assumption)) | exact ih (x + 1) false (by omega) (by omega) (sp_s hb (by assumption) (sp_q (by first | exact is_n ((enS_ge hs9.2).mp c_43) | exact is_s (fun z => c_43 ((enS_ge hs9.2).mpr z))) (by first | exact ⟨fun _ => Classical.not_not.mp c_51, fun _ => rfl⟩ | exact ⟨fun _ => c_51, fun _ => rfl⟩ | exact ⟨fun z => (by cases z), fun z => absurd z c_51⟩)))
      · have c_26 := bi_t c_26
        have hs9 := hst x (by omega)
        refine x_aload_n dX14_isSpare_29 rfl ?_
        refine x_get lf_X14_72 dX14_isSpare_30 M.o rfl ?_
        refine x_iload_n dX14_isSpare_33 rfl ?_
        refine x_zaldN (j := x) (M.a 222 3 1000 rfl) rfl (by omega) (by decide) dX14_isSpare_34 ?_
        refine x_top (hr x (by omega)) ?_
        refine x_aload_n dX14_isSpare_35 rfl ?_
        refine x_get lf_X14_63 dX14_isSpare_36 M.o rfl ?_
        refine x_iload_n dX14_isSpare_39 rfl ?_
        refine x_ialdN (j := x) (M.a 219 0 1000 rfl) rfl (by omega) (by decide) dX14_isSpare_40 ?_
        refine x_top hs9.1 ?_
        refine x_ldc kc_X14_253 dX14_isSpare_41 ?_
        refine x_icmp_ge 50 dX14_isSpare_43 (by decide) (fun c_43 => ?_) (fun c_43 => ?_)
        · refine x_iconst (v := 0) dX14_isSpare_50 (by decide) ?_
          refine x_icmp_ne 58 dX14_isSpare_51 (by decide) (fun c_51 => ?_) (fun c_51 => ?_)
          · refine x_iconst (v := 0) dX14_isSpare_58 (by decide) ?_
            refine x_istore_n [(0, .ref 205), (1, .int x1), (2, .int 0), (3, .int (nI x))] dX14_isSpare_59 (by decide) rfl rfl ?_
            refine x_iinc (v := nI (x + 1)) [(0, .ref 205), (1, .int x1), (2, .int 0), (3, .int (nI (x + 1)))] dX14_isSpare_60 rfl (nI_add x 1) (by decide) rfl rfl ?_
            refine x_goto 18 dX14_isSpare_63 (by decide) ?_
            first | exact ih (x + 1) false (by omega) (by omega) (sp_f hb (by assumption)) | exact ih (x + 1) false (by omega) (by omega) (sp_s hb (by assumption) (sp_q (by first | exact is_n ((enS_ge hs9.2).mp c_43) | exact is_s (fun z => c_43 ((enS_ge hs9.2).mpr z))) (by first | exact ⟨fun _ => Classical.not_not.mp c_51, fun _ => rfl⟩ | exact ⟨fun _ => c_51, fun _ => rfl⟩ | exact ⟨fun z => (by cases z), fun z => absurd z c_51⟩)))
          · refine x_iconst (v := 1) dX14_isSpare_54 (by decide) ?_
            refine x_goto 59 dX14_isSpare_55 (by decide) ?_
            refine x_istore_n [(0, .ref 205), (1, .int x1), (2, .int 1), (3, .int (nI x))] dX14_isSpare_59 (by decide) rfl rfl ?_
            refine x_iinc (v := nI (x + 1)) [(0, .ref 205), (1, .int x1), (2, .int 1), (3, .int (nI (x + 1)))] dX14_isSpare_60 rfl (nI_add x 1) (by decide) rfl rfl ?_
            refine x_goto 18 dX14_isSpare_63 (by decide) ?_
            first | exact ih (x + 1) true (by omega) (by omega) (sp_f hb (by assumption)) | exact ih (x + 1) true (by omega) (by omega) (sp_s hb (by assumption) (sp_q (by first | exact is_n ((enS_ge hs9.2).mp c_43) | exact is_s (fun z => c_43 ((enS_ge hs9.2).mpr z))) (by first | exact ⟨fun _ => Classical.not_not.mp c_51, fun _ => rfl⟩ | exact ⟨fun _ => c_51, fun _ => rfl⟩ | exact ⟨fun z => (by cases z), fun z => absurd z c_51⟩)))
        · refine x_iconst (v := 1) dX14_isSpare_46 (by decide) ?_
          refine x_goto 51 dX14_isSpare_47 (by decide) ?_
          refine x_icmp_ne 58 dX14_isSpare_51 (by decide) (fun c_51 => ?_) (fun c_51 => ?_)
          · refine x_iconst (v := 0) dX14_isSpare_58 (by decide) ?_
            refine x_istore_n [(0, .ref 205), (1, .int x1), (2, .int 0), (3, .int (nI x))] dX14_isSpare_59 (by decide) rfl rfl ?_
            refine x_iinc (v := nI (x + 1)) [(0, .ref 205), (1, .int x1), (2, .int 0), (3, .int (nI (x + 1)))] dX14_isSpare_60 rfl (nI_add x 1) (by decide) rfl rfl ?_
            refine x_goto 18 dX14_isSpare_63 (by decide) ?_
            first | exact ih (x + 1) false (by omega) (by omega) (sp_f hb (by assumption)) | exact ih (x + 1) false (by omega) (by omega) (sp_s hb (by assumption) (sp_q (by first | exact is_n ((enS_ge hs9.2).mp c_43) | exact is_s (fun z => c_43 ((enS_ge hs9.2).mpr z))) (by first | exact ⟨fun _ => Classical.not_not.mp c_51, fun _ => rfl⟩ | exact ⟨fun _ => c_51, fun _ => rfl⟩ | exact ⟨fun z => (by cases z), fun z => absurd z c_51⟩)))
          · refine x_iconst (v := 1) dX14_isSpare_54 (by decide) ?_
            refine x_goto 59 dX14_isSpare_55 (by decide) ?_
            refine x_istore_n [(0, .ref 205), (1, .int x1), (2, .int 1), (3, .int (nI x))] dX14_isSpare_59 (by decide) rfl rfl ?_
            refine x_iinc (v := nI (x + 1)) [(0, .ref 205), (1, .int x1), (2, .int 1), (3, .int (nI (x + 1)))] dX14_isSpare_60 rfl (nI_add x 1) (by decide) rfl rfl ?_
            refine x_goto 18 dX14_isSpare_63 (by decide) ?_
            first | exact ih (x + 1) true (by omega) (by omega) (sp_f hb (by assumption)) | exact ih (x + 1) true (by omega) (by omega) (sp_s hb (by assumption) (sp_q (by first | exact is_n ((enS_ge hs9.2).mp c_43) | exact is_s (fun z => c_43 ((enS_ge hs9.2).mpr z))) (by first | exact ⟨fun _ => Classical.not_not.mp c_51, fun _ => rfl⟩ | exact ⟨fun _ => c_51, fun _ => rfl⟩ | exact ⟨fun z => (by cases z), fun z => absurd z c_51⟩)))
set_option maxRecDepth 100000 in
set_option maxHeartbeats 4000000 in
theorem k_X14_isSpare {G : xG} {h : xHp} {g : Nat → Int32} {w : Int64} {nw : Value} {ar : Nat → Nat → Int32} {tw : Nat → Int64} {kw : Nat → Int64} {rf : Nat → Option Nat} (M : MH h g w nw ar tw kw rf) {S : Nat → Bool} {V : Nat → RV} {rc nt : Nat} {s0 : Nat → Option Nat} (hs : IsSt S V rc (uR (-1)) nt s0) (hV : ∀ r, r < rc → okRl nt (V r)) (hn : nt ≤ 10) (hrc : rc ≤ 20) (h6 : g 6 = nI rc) (hT : rmT h rf rc V) (hcv : ∀ r, r < rc → covR (V r)) (hpw : pwA V rc nt s0) (hK : ∀ r, r < rc → okK (V r)) (hsat : ∃ S9, Sat V rc S9) (h12 : ∀ j, j < 1000 → ar 212 j = bi (S j)) {ρ : Nat} {s3 : Nat → Option Nat} (hs3 : IsSt S V rc (uR (nI ρ)) nt s3) (hpw3 : pwA V rc nt s3) : MX G mX14_isSpare 12 0 0 [.ref 205, .int (nI ρ)] h (fun o h' => ∃ b : Bool, o = .inl (some (.int (bi b))) ∧ yfr h h' ∧ (∃ g' ar', MH h' g' w nw ar' tw kw rf ∧ (∀ k, k ≠ 34 → g' k = g k) ∧ ∀ c, c ≠ 211 → c ≠ 219 → c ≠ 220 → c ≠ 222 → ar' c = ar c) ∧ (b = true ↔ ∀ n, n < 1000 → (s0 n).isSome = (s3 n).isSome)) := by
  refine MX.of [(0, .ref 205), (1, .int (nI ρ))] (by decide) rfl (Nat.le_of_ble_eq_true rfl) rfl ?_
  refine x_aload_n dX14_isSpare_0 rfl ?_
  refine x_iconst (v := (-1)) dX14_isSpare_1 (by decide) ?_
  have Y1 : yfr h h := (yfr_rf _)
  refine x_callV (As := [.int (-1)]) (st := []) lv_X14_284 (k_X14_works M hs hV hn hrc h6 (hT.y Y1) hcv hpw hK hsat h12) dX14_isSpare_2 M.o rfl rfl (Nat.le_of_ble_eq_true rfl) ⟨by decide, by decide⟩ ⟨by decide, by decide⟩ (fun v9 h1 z => ?_) (fun _ _ _ _ _ z => by cases z.1)
  obtain ⟨ev, g1, ar1, M1, Z1, gk1, ak1, hst1⟩ := z
  cases ev
  have Y1 := Y1.tr Z1
  refine x_aload_n dX14_isSpare_5 rfl ?_
  refine x_callV (As := []) (st := []) lv_X14_306 (k_X14_remembers M1 hst1) dX14_isSpare_6 M1.o rfl rfl (Nat.le_of_ble_eq_true rfl) ⟨by decide, by decide⟩ ⟨by decide, by decide⟩ (fun v9 h2 z => ?_) (fun _ _ _ _ _ z => by cases z.1)
  obtain ⟨ev, Z2, ar2, M2, ak2, hr2⟩ := z
  cases ev
  have Y2 := Y1.tr Z2
  refine x_aload_n dX14_isSpare_9 rfl ?_
  refine x_iload_n dX14_isSpare_10 rfl ?_
  have Y3 : yfr h h2 := Y2.tr (yfr_rf _)
  refine x_callV (As := [.int (nI ρ)]) (st := []) lv_X14_284 (k_X14_works M2 hs3 hV hn hrc ((gk1 6 (by decide)).trans h6) (hT.y Y3) hcv hpw3 hK hsat (fun j hj => ((congrFun (ak2 212 (by decide)) j).trans (congrFun (ak1 212 (by decide) (by decide) (by decide)) j)).trans (h12 j hj))) dX14_isSpare_11 M2.o rfl rfl (Nat.le_of_ble_eq_true rfl) ⟨by decide, by decide⟩ ⟨by decide, by decide⟩ (fun v9 h3 z => ?_) (fun _ _ _ _ _ z => by cases z.1)
  obtain ⟨ev, g3, ar3, M3, Z3, gk3, ak3, hst3⟩ := z
  cases ev
  have Y3 := Y3.tr Z3
  refine x_iconst (v := 1) dX14_isSpare_14 (by decide) ?_
  refine x_istore_n [(0, .ref 205), (1, .int (nI ρ)), (2, .int 1)] dX14_isSpare_15 (by decide) rfl rfl ?_
  refine x_iconst (v := 0) dX14_isSpare_16 (by decide) ?_
  refine x_istore_n [(0, .ref 205), (1, .int (nI ρ)), (2, .int 1), (3, .int 0)] dX14_isSpare_17 (by decide) rfl rfl ?_
  refine l_X14_spare M3 hst3 (fun n hn => (congrFun (ak3 222 (by decide) (by decide) (by decide)) n).trans (hr2 n hn)) (fun b hb => ⟨b, rfl, Y3, ⟨g3, ar3, M3, fun k hk => (gk3 k hk).trans (gk1 k hk), fun c a1 a2 a3 a4 => ((ak3 c a1 a2 a3).trans (ak2 c a4)).trans (ak1 c a1 a2 a3)⟩, hb⟩) 1001 0 true (by omega) (by omega) ⟨fun _ n hn => absurd hn (Nat.not_lt_zero _), fun _ => rfl⟩
theorem flip_to {f : Nat → Int32} {S : Nat → Bool} {n : Nat} {b : Int32} (h : ∀ j, j < 1000 → f j = bi (S j)) (hb : b = bi (!S n)) : ∀ j, j < 1000 → upd f n b j = bi (flipS S n j) := fun j hj => by
  unfold flipS
  by_cases z : j = n
  · rw [if_pos z, z, upd_at9, hb]
  · rw [if_neg z, upd_nq z]; exact h j hj
theorem flip_bk {f : Nat → Int32} {S : Nat → Bool} {n : Nat} {b : Int32} (h : ∀ j, j < 1000 → f j = bi (flipS S n j)) (hb : b = bi (S n)) : ∀ j, j < 1000 → upd f n b j = bi (S j) := fun j hj => by
  by_cases z : j = n
  · rw [z, upd_at9, hb]
  · rw [upd_nq z, h j hj]; unfold flipS; rw [if_neg z]
theorem tn_s {lo : Bool} {o o' : Option Nat} {b : Bool} {x : Int32} (hx : x = bi o'.isSome) (h : b = true ↔ bi o.isSome = bi lo ∧ ¬ x = bi lo) : b = (if lo = true then o.isSome && !o'.isSome else o'.isSome && !o.isSome) := by
  rw [hx, bi_inj, bi_inj] at h
  revert h
  cases lo <;> cases o.isSome <;> cases o'.isSome <;> cases b <;> decide
set_option maxRecDepth 100000 in
set_option maxHeartbeats 4000000 in
theorem l_X14_turned {G : xG} {Q : Option Value ⊕ Nat → xHp → Prop} {h : xHp} {g : Nat → Int32} {w : Int64} {nw : Value} {ar : Nat → Nat → Int32} {tw : Nat → Int64} {kw : Nat → Int64} {rf : Nat → Option Nat} (M : MH h g w nw ar tw kw rf) {s0 s2 : Nat → Option Nat} {lo : Bool} (hst : stO (ar 219) s2) (hr : ∀ n, n < 1000 → ar 222 n = bi (s0 n).isSome) {x1 : Int32} (hQ : ∀ h', yfr h h' → MH h' (upd (upd g 1 0) 2 (-1)) w nw ar tw kw rf → Q (.inl (some (.int (nI (fb_ct (fun m => if lo = true then (s0 m).isSome && !(s2 m).isSome else (s2 m).isSome && !(s0 m).isSome) 1000))))) h') : ∀ (m x : Nat), x ≤ 1000 → 1001 ≤ x + m → Wx G mX14_turned (xRm 12 0 0) (xF G Q 0 0) 0 0 78 [(0, .ref 205), (1, .int x1), (2, .int (bi lo)), (3, .int (nI (fb_ct (fun m => if lo = true then (s0 m).isSome && !(s2 m).isSome else (s2 m).isSome && !(s0 m).isSome) x))), (4, .int (nI x))] [] h := by
  intro m
  induction m with
  | zero => exact fun x h1 h2 => absurd h2 (by omega)
  | succ m ih =>
    intro x hx hx2
    have hbd := fb_ct_le (fun m => if lo = true then (s0 m).isSome && !(s2 m).isSome else (s2 m).isSome && !(s0 m).isSome) x
    refine x_iload dX14_turned_78 rfl ?_
    refine x_sipush (v := 1000) dX14_turned_80 (by decide) ?_
    refine x_icmp_ge 132 dX14_turned_83 (by decide) (fun c_83 => ?_) (fun c_83 => ?_)
    · rw [show (1000 : Int32) = nI 1000 from rfl, nI_leI (by omega) (by omega)] at c_83
      refine x_aload_n dX14_turned_132 rfl ?_
      refine x_iload_n dX14_turned_133 rfl ?_
      have Y8 : yfr h h := (yfr_rf _)
      refine x_callV (As := [.int (nI (fb_ct (fun m => if lo = true then (s0 m).isSome && !(s2 m).isSome else (s2 m).isSome && !(s0 m).isSome) x))]) (st := []) lv_X14_229 (k_X14_done M) dX14_turned_134 M.o rfl rfl (Nat.le_of_ble_eq_true rfl) ⟨by decide, by decide⟩ ⟨by decide, by decide⟩ (fun v9 h9 z => ?_) (fun _ _ _ _ _ z => by cases z.1)
      obtain ⟨ev, Y9, M9⟩ := z
      cases ev
      rw [show x = 1000 by omega]
      exact x_iret dX14_turned_137 rfl rfl (Nat.zero_le _) (Nat.zero_le _) (hQ _ (Y8.tr Y9) M9)
    · rw [show (1000 : Int32) = nI 1000 from rfl, nI_leI (by omega) (by omega)] at c_83
      have hs9 := hst x (by omega)
      refine x_iload_n dX14_turned_86 rfl ?_
      refine x_aload_n dX14_turned_87 rfl ?_
      refine x_get lf_X14_72 dX14_turned_88 M.o rfl ?_
      refine x_iload dX14_turned_91 rfl ?_
      refine x_zaldN (j := x) (M.a 222 3 1000 rfl) rfl (by omega) (by decide) dX14_turned_93 ?_
      refine x_top (hr x (by omega)) ?_
      refine x_iload_n dX14_turned_94 rfl ?_
      refine x_icmp_ne 123 dX14_turned_95 (by decide) (fun c_95 => ?_) (fun c_95 => ?_)
      · refine x_iconst (v := 0) dX14_turned_123 (by decide) ?_
        refine x_iadd dX14_turned_124 ?_
        refine x_top (y := nI ((fb_ct (fun m => if lo = true then (s0 m).isSome && !(s2 m).isSome else (s2 m).isSome && !(s0 m).isSome) x) + 0)) (nI_add (fb_ct (fun m => if lo = true then (s0 m).isSome && !(s2 m).isSome else (s2 m).isSome && !(s0 m).isSome) x) 0) ?_
        refine x_istore_n [(0, .ref 205), (1, .int x1), (2, .int (bi lo)), (3, .int (nI ((fb_ct (fun m => if lo = true then (s0 m).isSome && !(s2 m).isSome else (s2 m).isSome && !(s0 m).isSome) x) + 0))), (4, .int (nI x))] dX14_turned_125 (by decide) rfl rfl ?_
        refine x_iinc (v := nI (x + 1)) [(0, .ref 205), (1, .int x1), (2, .int (bi lo)), (3, .int (nI ((fb_ct (fun m => if lo = true then (s0 m).isSome && !(s2 m).isSome else (s2 m).isSome && !(s0 m).isSome) x) + 0))), (4, .int (nI (x + 1)))] dX14_turned_126 rfl (nI_add x 1) (by decide) rfl rfl ?_
        refine x_goto 78 dX14_turned_129 (by decide) ?_
        have e8 : false = ((fun m => if lo = true then (s0 m).isSome && !(s2 m).isSome else (s2 m).isSome && !(s0 m).isSome)) x := (by first | exact tn_s (x := bi (s2 x).isSome) rfl ⟨fun z => (by cases z), fun z => absurd z.1 c_95⟩ | exact tn_s (by first | exact is_n ((enS_ge hs9.2).mp c_107) | exact is_s (fun z => c_107 ((enS_ge hs9.2).mpr z))) ⟨fun z => (by cases z), fun z => absurd c_116 z.2⟩)
        have e9 : fb_ct (fun m => if lo = true then (s0 m).isSome && !(s2 m).isSome else (s2 m).isSome && !(s0 m).isSome) (x + 1) = fb_ct (fun m => if lo = true then (s0 m).isSome && !(s2 m).isSome else (s2 m).isSome && !(s0 m).isSome) x + 0 := by show fb_ct (fun m => if lo = true then (s0 m).isSome && !(s2 m).isSome else (s2 m).isSome && !(s0 m).isSome) x + (if (fun m => if lo = true then (s0 m).isSome && !(s2 m).isSome else (s2 m).isSome && !(s0 m).isSome) x = true then 1 else 0) = _; congr 1; rw [← e8]; rfl
        have K := ih (x + 1) (by omega) (by omega)
        rw [e9] at K
        exact K
      · refine x_aload_n dX14_turned_98 rfl ?_
        refine x_get lf_X14_63 dX14_turned_99 M.o rfl ?_
        refine x_iload dX14_turned_102 rfl ?_
        refine x_ialdN (j := x) (M.a 219 0 1000 rfl) rfl (by omega) (by decide) dX14_turned_104 ?_
        refine x_top hs9.1 ?_
        refine x_ldc kc_X14_253 dX14_turned_105 ?_
        refine x_icmp_ge 114 dX14_turned_107 (by decide) (fun c_107 => ?_) (fun c_107 => ?_)
        · refine x_iconst (v := 0) dX14_turned_114 (by decide) ?_
          refine x_iload_n dX14_turned_115 rfl ?_
          refine x_icmp_eq 123 dX14_turned_116 (by decide) (fun c_116 => ?_) (fun c_116 => ?_)
          · refine x_iconst (v := 0) dX14_turned_123 (by decide) ?_
            refine x_iadd dX14_turned_124 ?_
            refine x_top (y := nI ((fb_ct (fun m => if lo = true then (s0 m).isSome && !(s2 m).isSome else (s2 m).isSome && !(s0 m).isSome) x) + 0)) (nI_add (fb_ct (fun m => if lo = true then (s0 m).isSome && !(s2 m).isSome else (s2 m).isSome && !(s0 m).isSome) x) 0) ?_
            refine x_istore_n [(0, .ref 205), (1, .int x1), (2, .int (bi lo)), (3, .int (nI ((fb_ct (fun m => if lo = true then (s0 m).isSome && !(s2 m).isSome else (s2 m).isSome && !(s0 m).isSome) x) + 0))), (4, .int (nI x))] dX14_turned_125 (by decide) rfl rfl ?_
            refine x_iinc (v := nI (x + 1)) [(0, .ref 205), (1, .int x1), (2, .int (bi lo)), (3, .int (nI ((fb_ct (fun m => if lo = true then (s0 m).isSome && !(s2 m).isSome else (s2 m).isSome && !(s0 m).isSome) x) + 0))), (4, .int (nI (x + 1)))] dX14_turned_126 rfl (nI_add x 1) (by decide) rfl rfl ?_
            refine x_goto 78 dX14_turned_129 (by decide) ?_
            have e8 : false = ((fun m => if lo = true then (s0 m).isSome && !(s2 m).isSome else (s2 m).isSome && !(s0 m).isSome)) x := (by first | exact tn_s (x := bi (s2 x).isSome) rfl ⟨fun z => (by cases z), fun z => absurd z.1 c_95⟩ | exact tn_s (by first | exact is_n ((enS_ge hs9.2).mp c_107) | exact is_s (fun z => c_107 ((enS_ge hs9.2).mpr z))) ⟨fun z => (by cases z), fun z => absurd c_116 z.2⟩)
            have e9 : fb_ct (fun m => if lo = true then (s0 m).isSome && !(s2 m).isSome else (s2 m).isSome && !(s0 m).isSome) (x + 1) = fb_ct (fun m => if lo = true then (s0 m).isSome && !(s2 m).isSome else (s2 m).isSome && !(s0 m).isSome) x + 0 := by show fb_ct (fun m => if lo = true then (s0 m).isSome && !(s2 m).isSome else (s2 m).isSome && !(s0 m).isSome) x + (if (fun m => if lo = true then (s0 m).isSome && !(s2 m).isSome else (s2 m).isSome && !(s0 m).isSome) x = true then 1 else 0) = _; congr 1; rw [← e8]; rfl
            have K := ih (x + 1) (by omega) (by omega)
            rw [e9] at K
            exact K
          · refine x_iconst (v := 1) dX14_turned_119 (by decide) ?_
            refine x_goto 124 dX14_turned_120 (by decide) ?_
            refine x_iadd dX14_turned_124 ?_
            refine x_top (y := nI ((fb_ct (fun m => if lo = true then (s0 m).isSome && !(s2 m).isSome else (s2 m).isSome && !(s0 m).isSome) x) + 1)) (nI_add (fb_ct (fun m => if lo = true then (s0 m).isSome && !(s2 m).isSome else (s2 m).isSome && !(s0 m).isSome) x) 1) ?_
            refine x_istore_n [(0, .ref 205), (1, .int x1), (2, .int (bi lo)), (3, .int (nI ((fb_ct (fun m => if lo = true then (s0 m).isSome && !(s2 m).isSome else (s2 m).isSome && !(s0 m).isSome) x) + 1))), (4, .int (nI x))] dX14_turned_125 (by decide) rfl rfl ?_
            refine x_iinc (v := nI (x + 1)) [(0, .ref 205), (1, .int x1), (2, .int (bi lo)), (3, .int (nI ((fb_ct (fun m => if lo = true then (s0 m).isSome && !(s2 m).isSome else (s2 m).isSome && !(s0 m).isSome) x) + 1))), (4, .int (nI (x + 1)))] dX14_turned_126 rfl (nI_add x 1) (by decide) rfl rfl ?_
            refine x_goto 78 dX14_turned_129 (by decide) ?_
            have e8 : true = ((fun m => if lo = true then (s0 m).isSome && !(s2 m).isSome else (s2 m).isSome && !(s0 m).isSome)) x := (tn_s (by first | exact is_n ((enS_ge hs9.2).mp c_107) | exact is_s (fun z => c_107 ((enS_ge hs9.2).mpr z))) (by first | exact ⟨fun _ => ⟨Classical.not_not.mp c_95, c_116⟩, fun _ => rfl⟩ | exact ⟨fun _ => ⟨c_95, c_116⟩, fun _ => rfl⟩))
            have e9 : fb_ct (fun m => if lo = true then (s0 m).isSome && !(s2 m).isSome else (s2 m).isSome && !(s0 m).isSome) (x + 1) = fb_ct (fun m => if lo = true then (s0 m).isSome && !(s2 m).isSome else (s2 m).isSome && !(s0 m).isSome) x + 1 := by show fb_ct (fun m => if lo = true then (s0 m).isSome && !(s2 m).isSome else (s2 m).isSome && !(s0 m).isSome) x + (if (fun m => if lo = true then (s0 m).isSome && !(s2 m).isSome else (s2 m).isSome && !(s0 m).isSome) x = true then 1 else 0) = _; congr 1; rw [← e8]; rfl
            have K := ih (x + 1) (by omega) (by omega)
            rw [e9] at K
            exact K
        · refine x_iconst (v := 1) dX14_turned_110 (by decide) ?_
          refine x_goto 115 dX14_turned_111 (by decide) ?_
          refine x_iload_n dX14_turned_115 rfl ?_
          refine x_icmp_eq 123 dX14_turned_116 (by decide) (fun c_116 => ?_) (fun c_116 => ?_)
          · refine x_iconst (v := 0) dX14_turned_123 (by decide) ?_
            refine x_iadd dX14_turned_124 ?_
            refine x_top (y := nI ((fb_ct (fun m => if lo = true then (s0 m).isSome && !(s2 m).isSome else (s2 m).isSome && !(s0 m).isSome) x) + 0)) (nI_add (fb_ct (fun m => if lo = true then (s0 m).isSome && !(s2 m).isSome else (s2 m).isSome && !(s0 m).isSome) x) 0) ?_
            refine x_istore_n [(0, .ref 205), (1, .int x1), (2, .int (bi lo)), (3, .int (nI ((fb_ct (fun m => if lo = true then (s0 m).isSome && !(s2 m).isSome else (s2 m).isSome && !(s0 m).isSome) x) + 0))), (4, .int (nI x))] dX14_turned_125 (by decide) rfl rfl ?_
            refine x_iinc (v := nI (x + 1)) [(0, .ref 205), (1, .int x1), (2, .int (bi lo)), (3, .int (nI ((fb_ct (fun m => if lo = true then (s0 m).isSome && !(s2 m).isSome else (s2 m).isSome && !(s0 m).isSome) x) + 0))), (4, .int (nI (x + 1)))] dX14_turned_126 rfl (nI_add x 1) (by decide) rfl rfl ?_
            refine x_goto 78 dX14_turned_129 (by decide) ?_
            have e8 : false = ((fun m => if lo = true then (s0 m).isSome && !(s2 m).isSome else (s2 m).isSome && !(s0 m).isSome)) x := (by first | exact tn_s (x := bi (s2 x).isSome) rfl ⟨fun z => (by cases z), fun z => absurd z.1 c_95⟩ | exact tn_s (by first | exact is_n ((enS_ge hs9.2).mp c_107) | exact is_s (fun z => c_107 ((enS_ge hs9.2).mpr z))) ⟨fun z => (by cases z), fun z => absurd c_116 z.2⟩)
            have e9 : fb_ct (fun m => if lo = true then (s0 m).isSome && !(s2 m).isSome else (s2 m).isSome && !(s0 m).isSome) (x + 1) = fb_ct (fun m => if lo = true then (s0 m).isSome && !(s2 m).isSome else (s2 m).isSome && !(s0 m).isSome) x + 0 := by show fb_ct (fun m => if lo = true then (s0 m).isSome && !(s2 m).isSome else (s2 m).isSome && !(s0 m).isSome) x + (if (fun m => if lo = true then (s0 m).isSome && !(s2 m).isSome else (s2 m).isSome && !(s0 m).isSome) x = true then 1 else 0) = _; congr 1; rw [← e8]; rfl
            have K := ih (x + 1) (by omega) (by omega)
            rw [e9] at K
            exact K
          · refine x_iconst (v := 1) dX14_turned_119 (by decide) ?_
            refine x_goto 124 dX14_turned_120 (by decide) ?_
            refine x_iadd dX14_turned_124 ?_
            refine x_top (y := nI ((fb_ct (fun m => if lo = true then (s0 m).isSome && !(s2 m).isSome else (s2 m).isSome && !(s0 m).isSome) x) + 1)) (nI_add (fb_ct (fun m => if lo = true then (s0 m).isSome && !(s2 m).isSome else (s2 m).isSome && !(s0 m).isSome) x) 1) ?_
            refine x_istore_n [(0, .ref 205), (1, .int x1), (2, .int (bi lo)), (3, .int (nI ((fb_ct (fun m => if lo = true then (s0 m).isSome && !(s2 m).isSome else (s2 m).isSome && !(s0 m).isSome) x) + 1))), (4, .int (nI x))] dX14_turned_125 (by decide) rfl rfl ?_
            refine x_iinc (v := nI (x + 1)) [(0, .ref 205), (1, .int x1), (2, .int (bi lo)), (3, .int (nI ((fb_ct (fun m => if lo = true then (s0 m).isSome && !(s2 m).isSome else (s2 m).isSome && !(s0 m).isSome) x) + 1))), (4, .int (nI (x + 1)))] dX14_turned_126 rfl (nI_add x 1) (by decide) rfl rfl ?_
            refine x_goto 78 dX14_turned_129 (by decide) ?_
            have e8 : true = ((fun m => if lo = true then (s0 m).isSome && !(s2 m).isSome else (s2 m).isSome && !(s0 m).isSome)) x := (tn_s (by first | exact is_n ((enS_ge hs9.2).mp c_107) | exact is_s (fun z => c_107 ((enS_ge hs9.2).mpr z))) (by first | exact ⟨fun _ => ⟨Classical.not_not.mp c_95, c_116⟩, fun _ => rfl⟩ | exact ⟨fun _ => ⟨c_95, c_116⟩, fun _ => rfl⟩))
            have e9 : fb_ct (fun m => if lo = true then (s0 m).isSome && !(s2 m).isSome else (s2 m).isSome && !(s0 m).isSome) (x + 1) = fb_ct (fun m => if lo = true then (s0 m).isSome && !(s2 m).isSome else (s2 m).isSome && !(s0 m).isSome) x + 1 := by show fb_ct (fun m => if lo = true then (s0 m).isSome && !(s2 m).isSome else (s2 m).isSome && !(s0 m).isSome) x + (if (fun m => if lo = true then (s0 m).isSome && !(s2 m).isSome else (s2 m).isSome && !(s0 m).isSome) x = true then 1 else 0) = _; congr 1; rw [← e8]; rfl
            have K := ih (x + 1) (by omega) (by omega)
            rw [e9] at K
            exact K
set_option maxRecDepth 100000 in
set_option maxHeartbeats 4000000 in
theorem k_X14_turned {G : xG} {h : xHp} {g : Nat → Int32} {w : Int64} {nw : Value} {ar : Nat → Nat → Int32} {tw : Nat → Int64} {kw : Nat → Int64} {rf : Nat → Option Nat} (M : MH h g w nw ar tw kw rf) {S : Nat → Bool} {V : Nat → RV} {rc nt : Nat} {s0 : Nat → Option Nat} (hs : IsSt S V rc (uR (-1)) nt s0) (hV : ∀ r, r < rc → okRl nt (V r)) (hn : nt ≤ 10) (hrc : rc ≤ 20) (h6 : g 6 = nI rc) (hT : rmT h rf rc V) (hcv : ∀ r, r < rc → covR (V r)) (hpw : pwA V rc nt s0) (hK : ∀ r, r < rc → okK (V r)) (hsat : ∃ S9, Sat V rc S9) (h12 : ∀ j, j < 1000 → ar 212 j = bi (S j)) {nk : Nat} {pc : Nat → Nat} (h4 : g 4 = nI nt) (h5 : g 5 = nI nk) (hnk : nk ≤ 10) (hpc : ∀ k, k < nk → ar 210 k = nI (pc k) ∧ pc k < 3) {s2 : Nat → Nat → Option Nat} (hs2 : ∀ n, okAtom nk nt pc n → IsSt (flipS S n) V rc (uR (-1)) nt (s2 n) ∧ pwA V rc nt (s2 n)) {a : Int32} {lo : Bool} : MX G mX14_turned 12 0 0 [.ref 205, .int a, .int (bi lo)] h (fun o h' => ∃ r, o = .inl (some (.int r)) ∧ yfr h h' ∧ (((¬ ∃ n, a = nI n ∧ n < 2 ^ 31 ∧ okAtom nk nt pc n) ∧ r = -1 ∧ MH h' (upd (upd (upd g 0 0) 1 1) 2 (-1)) w nw ar tw kw rf) ∨ (∃ n, a = nI n ∧ okAtom nk nt pc n ∧ r = nI (fb_ct (fun m => if lo = true then (s0 m).isSome && !(s2 n m).isSome else (s2 n m).isSome && !(s0 m).isSome) 1000) ∧ ∃ g' ar', MH h' g' w nw ar' tw kw rf ∧ (g' 0 = 0 ∧ g' 1 = 0 ∧ g' 2 = -1 ∧ ∀ k, k ≠ 0 → k ≠ 1 → k ≠ 2 → k ≠ 34 → g' k = g k) ∧ (∀ j, j < 1000 → ar' 212 j = bi (S j)) ∧ ∀ c, c ≠ 211 → c ≠ 219 → c ≠ 220 → c ≠ 212 → c ≠ 222 → ar' c = ar c))) := by
  refine MX.of [(0, .ref 205), (1, .int a), (2, .int (bi lo))] (by decide) rfl (Nat.le_of_ble_eq_true rfl) rfl ?_
  refine x_aload_n dX14_turned_0 rfl ?_
  refine x_iconst (v := 0) dX14_turned_1 (by decide) ?_
  refine x_put (mL (upd g 0 0) w nw) lf_X14_84 dX14_turned_2 M.o (Nat.le_of_ble_eq_true rfl) rfl rfl rfl ?_
  refine x_aload_n dX14_turned_5 rfl ?_
  refine x_iload_n dX14_turned_6 rfl ?_
  refine x_callV (As := [.int a]) (st := []) lv_X14_239 (k_X14_isAtom (M.g9 (upd g 0 0) w nw) ((upd_nq (by decide)).trans h4) ((upd_nq (by decide)).trans h5) hpc hnk hn) dX14_turned_7 (xup_self _ _ _) rfl rfl (Nat.le_of_ble_eq_true rfl) ⟨by decide, by decide⟩ ⟨by decide, by decide⟩ (fun v9 h9 z => ?_) (fun _ _ _ _ _ z => by obtain ⟨_, z, _⟩ := z; cases z)
  obtain ⟨b9, ev, eh, hb9⟩ := z
  rw [eh]
  cases ev
  refine x_if_ne 19 dX14_turned_10 (by decide) (fun c_10 => ?_) (fun c_10 => ?_)
  · have c_10 := bi_t c_10
    obtain ⟨n, ea, hn31, hok⟩ := hb9.mp (by first | exact c_10 | exact bi_t c_10)
    have hn9 : n < 1000 := by have := hok.1; omega
    obtain ⟨hsn, hpn⟩ := hs2 n hok
    refine x_aload_n dX14_turned_19 rfl ?_
    refine x_iconst (v := (-1)) dX14_turned_20 (by decide) ?_
    have Y1 : yfr h (xup h 205 (.inr (14, mL (upd g 0 0) w nw))) := ((yfr_rf _).up (by decide))
    refine x_callV (As := [.int (-1)]) (st := []) lv_X14_284 (k_X14_works (M.g9 (upd g 0 0) w nw) hs hV hn hrc ((upd_nq (by decide)).trans h6) (hT.y Y1) hcv hpw hK hsat h12) dX14_turned_21 (xup_self _ _ _) rfl rfl (Nat.le_of_ble_eq_true rfl) ⟨by decide, by decide⟩ ⟨by decide, by decide⟩ (fun v9 h1 z => ?_) (fun _ _ _ _ _ z => by cases z.1)
    obtain ⟨ev, g1, ar1, M1, Z1, gk1, ak1, hst1⟩ := z
    cases ev
    have Y1 := Y1.tr Z1
    refine x_aload_n dX14_turned_24 rfl ?_
    refine x_callV (As := []) (st := []) lv_X14_306 (k_X14_remembers M1 hst1) dX14_turned_25 M1.o rfl rfl (Nat.le_of_ble_eq_true rfl) ⟨by decide, by decide⟩ ⟨by decide, by decide⟩ (fun v9 h2 z => ?_) (fun _ _ _ _ _ z => by cases z.1)
    obtain ⟨ev, Z2, ar2, M2, ak2, hr2⟩ := z
    cases ev
    have Y2 := Y1.tr Z2
    refine x_aload_n dX14_turned_28 rfl ?_
    refine x_get lf_X14_33 dX14_turned_29 M2.o rfl ?_
    have hS2 : ∀ j, j < 1000 → ar2 212 j = bi (S j) := fun j hj => ((congrFun (ak2 212 (by decide)) j).trans (congrFun (ak1 212 (by decide) (by decide) (by decide)) j)).trans (h12 j hj)
    refine x_iload_n dX14_turned_32 rfl ?_
    refine x_top (y := nI n) ea ?_
    refine x_aload_n dX14_turned_33 rfl ?_
    refine x_get lf_X14_33 dX14_turned_34 M2.o rfl ?_
    refine x_iload_n dX14_turned_37 rfl ?_
    refine x_top (y := nI n) ea ?_
    refine x_zaldN (j := n) (M2.a 212 3 1000 rfl) rfl (by omega) (by decide) dX14_turned_38 ?_
    refine x_top (hS2 n hn9) ?_
    refine x_if_ne 46 dX14_turned_39 (by decide) (fun c_39 => ?_) (fun c_39 => ?_)
    · have c_39 := bi_t c_39
      refine x_iconst (v := 0) dX14_turned_46 (by decide) ?_
      refine x_zastN (j := n) (M2.a 212 3 1000 rfl) rfl (by omega) (by decide) (by decide) dX14_turned_47 ?_
      have hF1 : ∀ j, j < 1000 → apF ar2 212 (upd (ar2 212) n 0) 212 j = bi (flipS S n j) := fun j hj => (congrFun (apF_at _ _ _) j).trans (flip_to hS2 (by rw [c_39]; rfl) j hj)
      refine x_aload_n dX14_turned_48 rfl ?_
      refine x_iconst (v := (-1)) dX14_turned_49 (by decide) ?_
      have Y3 : yfr h (xup h2 212 (.inl (3, 1000, .inl (upd (ar2 212) n 0)))) := Y2.tr ((yfr_rf _).up (by decide))
      refine x_callV (As := [.int (-1)]) (st := []) lv_X14_284 (k_X14_works (M2.a9 (c := 212) rfl (upd (ar2 212) n 0)) hsn hV hn hrc ((gk1 6 (by decide)).trans ((upd_nq (by decide)).trans h6)) (hT.y Y3) hcv hpn hK hsat hF1) dX14_turned_50 ((xup_ne (by omega)).trans M2.o) rfl rfl (Nat.le_of_ble_eq_true rfl) ⟨by decide, by decide⟩ ⟨by decide, by decide⟩ (fun v9 h3 z => ?_) (fun _ _ _ _ _ z => by cases z.1)
      obtain ⟨ev, g3, ar3, M3, Z3, gk3, ak3, hst3⟩ := z
      cases ev
      have Y3 := Y3.tr Z3
      have hF3 : ∀ j, j < 1000 → ar3 212 j = bi (flipS S n j) := fun j hj => (congrFun (ak3 212 (by decide) (by decide) (by decide)) j).trans (hF1 j hj)
      refine x_aload_n dX14_turned_53 rfl ?_
      refine x_get lf_X14_33 dX14_turned_54 M3.o rfl ?_
      refine x_iload_n dX14_turned_57 rfl ?_
      refine x_top (y := nI n) ea ?_
      refine x_aload_n dX14_turned_58 rfl ?_
      refine x_get lf_X14_33 dX14_turned_59 M3.o rfl ?_
      refine x_iload_n dX14_turned_62 rfl ?_
      refine x_top (y := nI n) ea ?_
      refine x_zaldN (j := n) (M3.a 212 3 1000 rfl) rfl (by omega) (by decide) dX14_turned_63 ?_
      refine x_top ((hF3 n hn9).trans (by unfold flipS; rw [if_pos rfl, c_39])) ?_
      refine x_if_ne 71 dX14_turned_64 (by decide) (fun c => absurd c (by decide)) (fun _ => ?_)
      refine x_iconst (v := 1) dX14_turned_67 (by decide) ?_
      refine x_goto 72 dX14_turned_68 (by decide) ?_
      refine x_zastN (j := n) (M3.a 212 3 1000 rfl) rfl (by omega) (by decide) (by decide) dX14_turned_72 ?_
      refine x_iconst (v := 0) dX14_turned_73 (by decide) ?_
      refine x_istore_n [(0, .ref 205), (1, .int a), (2, .int (bi lo)), (3, .int 0)] dX14_turned_74 (by decide) rfl rfl ?_
      refine x_iconst (v := 0) dX14_turned_75 (by decide) ?_
      refine x_istore [(0, .ref 205), (1, .int a), (2, .int (bi lo)), (3, .int 0), (4, .int 0)] dX14_turned_76 (by decide) rfl rfl ?_
      refine l_X14_turned (M3.a9 (c := 212) rfl (upd (ar3 212) n 1)) (s0 := s0) (s2 := s2 n) (by rw [apF_ne (by decide)]; exact hst3) (fun j hj => ((congrFun (apF_ne (by decide)) j).trans (congrFun (ak3 222 (by decide) (by decide) (by decide)) j)).trans ((congrFun (apF_ne (by decide)) j).trans (hr2 j hj))) (fun h' Y7 M7 => ⟨_, rfl, (Y3.tr ((yfr_rf _).up (by decide))).tr Y7, Or.inr ⟨n, ea, hok, rfl, _, _, M7, ⟨(upd_nq (by decide)).trans ((upd_nq (by decide)).trans ((gk3 0 (by decide)).trans ((gk1 0 (by decide)).trans rfl))), rfl, rfl, fun k a0 a1 a2 a3 => ?_⟩, fun j hj => (congrFun (apF_at _ _ _) j).trans (flip_bk hF3 (by rw [c_39]; rfl) j hj), fun c b1 b2 b3 b4 b5 => (apF_ne b4).trans ((ak3 c b1 b2 b3).trans ((apF_ne b4).trans ((ak2 c b5).trans (ak1 c b1 b2 b3))))⟩⟩) 1001 0 (by omega) (by omega)
      exact (upd_nq a2).trans ((upd_nq a1).trans ((gk3 k a3).trans ((gk1 k a3).trans (upd_nq a0))))
    · have c_39 := bi_f c_39
      refine x_iconst (v := 1) dX14_turned_42 (by decide) ?_
      refine x_goto 47 dX14_turned_43 (by decide) ?_
      refine x_zastN (j := n) (M2.a 212 3 1000 rfl) rfl (by omega) (by decide) (by decide) dX14_turned_47 ?_
      have hF1 : ∀ j, j < 1000 → apF ar2 212 (upd (ar2 212) n 1) 212 j = bi (flipS S n j) := fun j hj => (congrFun (apF_at _ _ _) j).trans (flip_to hS2 (by rw [c_39]; rfl) j hj)
      refine x_aload_n dX14_turned_48 rfl ?_
      refine x_iconst (v := (-1)) dX14_turned_49 (by decide) ?_
      have Y3 : yfr h (xup h2 212 (.inl (3, 1000, .inl (upd (ar2 212) n 1)))) := Y2.tr ((yfr_rf _).up (by decide))
      refine x_callV (As := [.int (-1)]) (st := []) lv_X14_284 (k_X14_works (M2.a9 (c := 212) rfl (upd (ar2 212) n 1)) hsn hV hn hrc ((gk1 6 (by decide)).trans ((upd_nq (by decide)).trans h6)) (hT.y Y3) hcv hpn hK hsat hF1) dX14_turned_50 ((xup_ne (by omega)).trans M2.o) rfl rfl (Nat.le_of_ble_eq_true rfl) ⟨by decide, by decide⟩ ⟨by decide, by decide⟩ (fun v9 h3 z => ?_) (fun _ _ _ _ _ z => by cases z.1)
      obtain ⟨ev, g3, ar3, M3, Z3, gk3, ak3, hst3⟩ := z
      cases ev
      have Y3 := Y3.tr Z3
      have hF3 : ∀ j, j < 1000 → ar3 212 j = bi (flipS S n j) := fun j hj => (congrFun (ak3 212 (by decide) (by decide) (by decide)) j).trans (hF1 j hj)
      refine x_aload_n dX14_turned_53 rfl ?_
      refine x_get lf_X14_33 dX14_turned_54 M3.o rfl ?_
      refine x_iload_n dX14_turned_57 rfl ?_
      refine x_top (y := nI n) ea ?_
      refine x_aload_n dX14_turned_58 rfl ?_
      refine x_get lf_X14_33 dX14_turned_59 M3.o rfl ?_
      refine x_iload_n dX14_turned_62 rfl ?_
      refine x_top (y := nI n) ea ?_
      refine x_zaldN (j := n) (M3.a 212 3 1000 rfl) rfl (by omega) (by decide) dX14_turned_63 ?_
      refine x_top ((hF3 n hn9).trans (by unfold flipS; rw [if_pos rfl, c_39])) ?_
      refine x_if_ne 71 dX14_turned_64 (by decide) (fun _ => ?_) (fun c => absurd c (by decide))
      refine x_iconst (v := 0) dX14_turned_71 (by decide) ?_
      refine x_zastN (j := n) (M3.a 212 3 1000 rfl) rfl (by omega) (by decide) (by decide) dX14_turned_72 ?_
      refine x_iconst (v := 0) dX14_turned_73 (by decide) ?_
      refine x_istore_n [(0, .ref 205), (1, .int a), (2, .int (bi lo)), (3, .int 0)] dX14_turned_74 (by decide) rfl rfl ?_
      refine x_iconst (v := 0) dX14_turned_75 (by decide) ?_
      refine x_istore [(0, .ref 205), (1, .int a), (2, .int (bi lo)), (3, .int 0), (4, .int 0)] dX14_turned_76 (by decide) rfl rfl ?_
      refine l_X14_turned (M3.a9 (c := 212) rfl (upd (ar3 212) n 0)) (s0 := s0) (s2 := s2 n) (by rw [apF_ne (by decide)]; exact hst3) (fun j hj => ((congrFun (apF_ne (by decide)) j).trans (congrFun (ak3 222 (by decide) (by decide) (by decide)) j)).trans ((congrFun (apF_ne (by decide)) j).trans (hr2 j hj))) (fun h' Y7 M7 => ⟨_, rfl, (Y3.tr ((yfr_rf _).up (by decide))).tr Y7, Or.inr ⟨n, ea, hok, rfl, _, _, M7, ⟨(upd_nq (by decide)).trans ((upd_nq (by decide)).trans ((gk3 0 (by decide)).trans ((gk1 0 (by decide)).trans rfl))), rfl, rfl, fun k a0 a1 a2 a3 => ?_⟩, fun j hj => (congrFun (apF_at _ _ _) j).trans (flip_bk hF3 (by rw [c_39]; rfl) j hj), fun c b1 b2 b3 b4 b5 => (apF_ne b4).trans ((ak3 c b1 b2 b3).trans ((apF_ne b4).trans ((ak2 c b5).trans (ak1 c b1 b2 b3))))⟩⟩) 1001 0 (by omega) (by omega)
      exact (upd_nq a2).trans ((upd_nq a1).trans ((gk3 k a3).trans ((gk1 k a3).trans (upd_nq a0))))
  · have c_10 := bi_f c_10
    refine x_aload_n dX14_turned_13 rfl ?_
    refine x_iconst (v := 1) dX14_turned_14 (by decide) ?_
    have Y8 : yfr h (xup h 205 (.inr (14, mL (upd g 0 0) w nw))) := ((yfr_rf _).up (by decide))
    refine x_callV (As := [.int 1]) (st := []) lv_X14_214 (k_X14_refused (M.g9 (upd g 0 0) w nw)) dX14_turned_15 (xup_self _ _ _) rfl rfl (Nat.le_of_ble_eq_true rfl) ⟨by decide, by decide⟩ ⟨by decide, by decide⟩ (fun v9 h9 z => ?_) (fun _ _ _ _ _ z => by cases z.1)
    obtain ⟨ev, Y9, M9⟩ := z
    cases ev
    exact x_iret dX14_turned_18 rfl rfl (Nat.le_refl _) (Nat.le_refl _) ⟨_, rfl, Y8.tr Y9, Or.inl ⟨fun z => by have := hb9.mpr z; first | (rw [this] at c_10; cases c_10; done) | (rw [this] at c_10; exact absurd c_10 (by decide)), rfl, M9⟩⟩
