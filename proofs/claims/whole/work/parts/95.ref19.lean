/-! the reference: holds -/
def enS (o : Option Nat) : Int32 := match o with
  | none => 1000000
  | some d => nI d
/-- the array of STEPS -/
def stO (f : Nat → Int32) (s : Nat → Option Nat) : Prop := ∀ n, n < 1000 → f n = enS (s n) ∧ ∀ d, s n = some d → d < 1000000
theorem enS_ge {o : Option Nat} (h : ∀ d, o = some d → d < 1000000) : (1000000 : Int32) ≤ enS o ↔ o = none := by
  cases o with
  | none => exact ⟨fun _ => rfl, fun _ => by decide⟩
  | some d =>
    have hd := h d rfl
    show (1000000 : Int32) ≤ nI d ↔ _
    rw [show (1000000 : Int32) = nI 1000000 from rfl, nI_leI (by omega) (by omega)]
    exact ⟨fun z => absurd z (by omega), fun z => by cases z⟩
def tmH (t : Nat → Int32) (θ : Nat → Option Nat) (s : Nat → Option Nat) : Prop := if t 0 = 2 then thO (t 2) θ ≠ thO (t 3) θ else if t 0 = 0 then (s (nmP t θ)).isSome = true else (s (nmP t θ)).isSome = false
theorem tmH_2 {t : Nat → Int32} {θ : Nat → Option Nat} {s : Nat → Option Nat} (h : t 0 = 2) : tmH t θ s ↔ thO (t 2) θ ≠ thO (t 3) θ := by unfold tmH; rw [if_pos h]
theorem tmH_0 {t : Nat → Int32} {θ : Nat → Option Nat} {s : Nat → Option Nat} (h2 : ¬ t 0 = 2) (h : t 0 = 0) : tmH t θ s ↔ ¬ s (nmP t θ) = none := by
  unfold tmH; rw [if_neg h2, if_pos h]
  cases s (nmP t θ) <;> simp
theorem tmH_1 {t : Nat → Int32} {θ : Nat → Option Nat} {s : Nat → Option Nat} (h2 : ¬ t 0 = 2) (h : ¬ t 0 = 0) : tmH t θ s ↔ s (nmP t θ) = none := by
  unfold tmH; rw [if_neg h2, if_neg h]
  cases s (nmP t θ) <;> simp
theorem rmI_t {v : RV} {so kd on tz : Nat → Int32} (r : rmI v v.2.2.1 so kd on tz) {j : Nat} (hj : j < v.2.2.1) : so (j + 1) = v.2.1 j 0 ∧ kd (j + 1) = v.2.1 j 1 ∧ on (j + 1) = v.2.1 j 2 ∧ tz (j + 1) = v.2.1 j 3 := r (j + 1) hj
set_option maxRecDepth 100000 in
set_option maxHeartbeats 4000000 in
theorem k_X14_holds {G : xG} {h : xHp} {g : Nat → Int32} {w : Int64} {nw : Value} {ar : Nat → Nat → Int32} {tw : Nat → Int64} {kw : Nat → Int64} {rf : Nat → Option Nat} (M : MH h g w nw ar tw kw rf) {nt : Nat} {θ : Nat → Option Nat} (hgv : ∀ s, s < 3 → ar 220 s = enT (θ s)) (hn : nt ≤ 10) (hθ : okTh nt θ) {a : Nat} {v : RV} (rv : rmV h a v) (hv : okRl nt v) {s : Nat → Option Nat} (hs : stO (ar 219) s) {j : Nat} (hj : j < v.2.2.1) (hb : ∀ s, s < 3 → sgIn (v.2.1 j) s → θ s ≠ none) : MX G mX14_holds 3 0 0 [.ref 205, .ref a, .int (nI (j + 1))] h (xAsk (tmH (v.2.1 j) θ s) h) := by
  refine MX.of [(0, .ref 205), (1, .ref a), (2, .int (nI (j + 1)))] (by decide) rfl (Nat.le_of_ble_eq_true rfl) rfl ?_
  have hz4 := hv.1
  obtain ⟨so, kd, on, tz, lt, rc9, rI⟩ := id rv
  have r9 := rmI_t rI hj
  have ht := hv.2.1 j hj
  refine x_aload_n dX14_holds_0 rfl ?_
  refine x_get lf_X14_169 dX14_holds_1 rc9.1 rfl ?_
  refine x_iload_n dX14_holds_4 rfl ?_
  refine x_ialdN (j := j + 1) rc9.2.1 rfl (by omega) (by decide) dX14_holds_5 ?_
  refine x_top (y := v.2.1 j 0) r9.1 ?_
  refine x_iconst (v := 2) dX14_holds_6 (by decide) ?_
  refine x_icmp_ne 39 dX14_holds_7 (by decide) (fun c_7 => ?_) (fun c_7 => ?_)
  · refine x_aload_n dX14_holds_39 rfl ?_
    refine x_get lf_X14_63 dX14_holds_40 M.o rfl ?_
    refine x_aload_n dX14_holds_43 rfl ?_
    refine x_aload_n dX14_holds_44 rfl ?_
    refine x_iload_n dX14_holds_45 rfl ?_
    obtain ⟨hk1, hk2⟩ := ht.2.1 c_7
    have hnl : nmP (v.2.1 j) θ < 1000 := nmP_lt hk2 ht.2.2.1 ht.2.2.2 hθ hn
    have hs9 := hs _ hnl
    refine x_callV (As := [.ref a, .int (nI (j + 1))]) (st := [.ref 219]) lv_X14_273 (k_X14_atomOf M hgv hn rv hv.1 (i := j + 1) (kd9 := (v.2.1 j 1).toNatClampNeg) hj hk1 hk2 ht.2.2.1 ht.2.2.2 (fun s h1 h2 => hb s h1 (Or.inl h2)) (fun s h1 h2 => hb s h1 (Or.inr h2))) dX14_holds_46 M.o rfl rfl (Nat.le_of_ble_eq_true rfl) ⟨by decide, by decide⟩ ⟨by decide, by decide⟩ (fun v9 h9 z => ?_) (fun _ _ _ _ _ z => by cases z.1)
    obtain ⟨ev, eh⟩ := z
    rw [eh]
    cases ev
    refine x_ialdN (j := nmP (v.2.1 j) θ) (M.a 219 0 1000 rfl) rfl (by omega) (by decide) dX14_holds_49 ?_
    refine x_top hs9.1 ?_
    refine x_ldc kc_X14_253 dX14_holds_50 ?_
    refine x_icmp_ge 59 dX14_holds_52 (by decide) (fun c_52 => ?_) (fun c_52 => ?_)
    · refine x_iconst (v := 0) dX14_holds_59 (by decide) ?_
      refine x_aload_n dX14_holds_60 rfl ?_
      refine x_get lf_X14_169 dX14_holds_61 rc9.1 rfl ?_
      refine x_iload_n dX14_holds_64 rfl ?_
      refine x_ialdN (j := j + 1) rc9.2.1 rfl (by omega) (by decide) dX14_holds_65 ?_
      refine x_top (y := v.2.1 j 0) r9.1 ?_
      refine x_if_ne 73 dX14_holds_66 (by decide) (fun c_66 => ?_) (fun c_66 => ?_)
      · refine x_iconst (v := 0) dX14_holds_73 (by decide) ?_
        refine x_icmp_ne 81 dX14_holds_74 (by decide) (fun c => absurd c (by decide)) (fun _ => ?_)
        refine x_iconst (v := 1) dX14_holds_77 (by decide) ?_
        refine x_goto 82 dX14_holds_78 (by decide) ?_
        exact x_iret dX14_holds_82 rfl rfl (Nat.le_refl _) (Nat.le_refl _) ⟨true, rfl, rfl, (by first | exact absurd rfl c_74 | exact absurd c_74 (by decide) | (rw [tmH_0 c_7 c_66, ← enS_ge hs9.2]; exact ⟨fun z => by first | exact c_52 | (cases z; done), fun z => by first | rfl | exact absurd c_52 z⟩) | (rw [tmH_1 c_7 c_66, ← enS_ge hs9.2]; exact ⟨fun z => by first | exact c_52 | (cases z; done), fun z => by first | rfl | exact absurd z c_52⟩))⟩
      · refine x_iconst (v := 1) dX14_holds_69 (by decide) ?_
        refine x_goto 74 dX14_holds_70 (by decide) ?_
        refine x_icmp_ne 81 dX14_holds_74 (by decide) (fun _ => ?_) (fun c => absurd c (by decide))
        refine x_iconst (v := 0) dX14_holds_81 (by decide) ?_
        exact x_iret dX14_holds_82 rfl rfl (Nat.le_refl _) (Nat.le_refl _) ⟨false, rfl, rfl, (by first | exact absurd rfl c_74 | exact absurd c_74 (by decide) | (rw [tmH_0 c_7 c_66, ← enS_ge hs9.2]; exact ⟨fun z => by first | exact c_52 | (cases z; done), fun z => by first | rfl | exact absurd c_52 z⟩) | (rw [tmH_1 c_7 c_66, ← enS_ge hs9.2]; exact ⟨fun z => by first | exact c_52 | (cases z; done), fun z => by first | rfl | exact absurd z c_52⟩))⟩
    · refine x_iconst (v := 1) dX14_holds_55 (by decide) ?_
      refine x_goto 60 dX14_holds_56 (by decide) ?_
      refine x_aload_n dX14_holds_60 rfl ?_
      refine x_get lf_X14_169 dX14_holds_61 rc9.1 rfl ?_
      refine x_iload_n dX14_holds_64 rfl ?_
      refine x_ialdN (j := j + 1) rc9.2.1 rfl (by omega) (by decide) dX14_holds_65 ?_
      refine x_top (y := v.2.1 j 0) r9.1 ?_
      refine x_if_ne 73 dX14_holds_66 (by decide) (fun c_66 => ?_) (fun c_66 => ?_)
      · refine x_iconst (v := 0) dX14_holds_73 (by decide) ?_
        refine x_icmp_ne 81 dX14_holds_74 (by decide) (fun _ => ?_) (fun c => absurd c (by decide))
        refine x_iconst (v := 0) dX14_holds_81 (by decide) ?_
        exact x_iret dX14_holds_82 rfl rfl (Nat.le_refl _) (Nat.le_refl _) ⟨false, rfl, rfl, (by first | exact absurd rfl c_74 | exact absurd c_74 (by decide) | (rw [tmH_0 c_7 c_66, ← enS_ge hs9.2]; exact ⟨fun z => by first | exact c_52 | (cases z; done), fun z => by first | rfl | exact absurd c_52 z⟩) | (rw [tmH_1 c_7 c_66, ← enS_ge hs9.2]; exact ⟨fun z => by first | exact c_52 | (cases z; done), fun z => by first | rfl | exact absurd z c_52⟩))⟩
      · refine x_iconst (v := 1) dX14_holds_69 (by decide) ?_
        refine x_goto 74 dX14_holds_70 (by decide) ?_
        refine x_icmp_ne 81 dX14_holds_74 (by decide) (fun c => absurd c (by decide)) (fun _ => ?_)
        refine x_iconst (v := 1) dX14_holds_77 (by decide) ?_
        refine x_goto 82 dX14_holds_78 (by decide) ?_
        exact x_iret dX14_holds_82 rfl rfl (Nat.le_refl _) (Nat.le_refl _) ⟨true, rfl, rfl, (by first | exact absurd rfl c_74 | exact absurd c_74 (by decide) | (rw [tmH_0 c_7 c_66, ← enS_ge hs9.2]; exact ⟨fun z => by first | exact c_52 | (cases z; done), fun z => by first | rfl | exact absurd c_52 z⟩) | (rw [tmH_1 c_7 c_66, ← enS_ge hs9.2]; exact ⟨fun z => by first | exact c_52 | (cases z; done), fun z => by first | rfl | exact absurd z c_52⟩))⟩
  · refine x_aload_n dX14_holds_10 rfl ?_
    refine x_aload_n dX14_holds_11 rfl ?_
    refine x_get lf_X14_173 dX14_holds_12 rc9.1 rfl ?_
    refine x_iload_n dX14_holds_15 rfl ?_
    refine x_ialdN (j := j + 1) rc9.2.2.2.1 rfl (by omega) (by decide) dX14_holds_16 ?_
    refine x_top (y := v.2.1 j 2) r9.2.2.1 ?_
    have ht2 := thO_lt (θ := θ) ht.2.2.1 hθ hn
    refine x_callV (As := [.int (v.2.1 j 2)]) (st := []) lv_X14_266 (k_X14_argOf M hgv hn ht.2.2.1 (fun s h1 h2 => hb s h1 (Or.inl h2))) dX14_holds_17 M.o rfl rfl (Nat.le_of_ble_eq_true rfl) ⟨by decide, by decide⟩ ⟨by decide, by decide⟩ (fun v9 h9 z => ?_) (fun _ _ _ _ _ z => by cases z.1)
    obtain ⟨ev, eh⟩ := z
    rw [eh]
    cases ev
    refine x_aload_n dX14_holds_20 rfl ?_
    refine x_aload_n dX14_holds_21 rfl ?_
    refine x_get lf_X14_176 dX14_holds_22 rc9.1 rfl ?_
    refine x_iload_n dX14_holds_25 rfl ?_
    refine x_ialdN (j := j + 1) rc9.2.2.2.2.1 rfl (by omega) (by decide) dX14_holds_26 ?_
    refine x_top (y := v.2.1 j 3) r9.2.2.2 ?_
    have ht3 := thO_lt (θ := θ) ht.2.2.2 hθ hn
    refine x_callV (As := [.int (v.2.1 j 3)]) (st := [.int (nI (thO (v.2.1 j 2) θ))]) lv_X14_266 (k_X14_argOf M hgv hn ht.2.2.2 (fun s h1 h2 => hb s h1 (Or.inr h2))) dX14_holds_27 M.o rfl rfl (Nat.le_of_ble_eq_true rfl) ⟨by decide, by decide⟩ ⟨by decide, by decide⟩ (fun v9 h9 z => ?_) (fun _ _ _ _ _ z => by cases z.1)
    obtain ⟨ev, eh⟩ := z
    rw [eh]
    cases ev
    refine x_icmp_eq 37 dX14_holds_30 (by decide) (fun c_30 => ?_) (fun c_30 => ?_)
    · refine x_iconst (v := 0) dX14_holds_37 (by decide) ?_
      exact x_iret dX14_holds_38 rfl rfl (Nat.le_refl _) (Nat.le_refl _) ⟨false, rfl, rfl, (by rw [tmH_2 (by first | exact c_7 | exact Classical.not_not.mp c_7)]; first | exact ⟨fun _ z => c_30 (by rw [z]), fun _ => rfl⟩ | exact ⟨fun z => (by cases z), fun z => absurd ((nI_eq (by omega) (by omega)).mp c_30) z⟩)⟩
    · refine x_iconst (v := 1) dX14_holds_33 (by decide) ?_
      refine x_goto 38 dX14_holds_34 (by decide) ?_
      exact x_iret dX14_holds_38 rfl rfl (Nat.le_refl _) (Nat.le_refl _) ⟨true, rfl, rfl, (by rw [tmH_2 (by first | exact c_7 | exact Classical.not_not.mp c_7)]; first | exact ⟨fun _ z => c_30 (by rw [z]), fun _ => rfl⟩ | exact ⟨fun z => (by cases z), fun z => absurd ((nI_eq (by omega) (by omega)).mp c_30) z⟩)⟩
