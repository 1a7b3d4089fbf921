/-! the reference: goes, its end -/
def setS (s : Nat → Option Nat) (n x : Nat) : Nat → Option Nat := fun m => if m = n then some x else s m
def sgB (v : RV) (θ : Nat → Option Nat) (j : Nat) : Prop := ∀ m, m < j → v.2.1 m 0 = 0 → ∀ s, s < 3 → sgIn (v.2.1 m) s → θ s ≠ none
def posL (v : RV) (θ s : Nat → Option Nat) (j deep : Nat) : Prop := ∀ m, m < j → v.2.1 m 0 = 0 → ∃ d, s (nmP (v.2.1 m) θ) = some d ∧ d ≤ deep
def CLo (v : RV) (nt : Nat) (θ : Nat → Option Nat) (j deep : Nat) (s : Nat → Option Nat) : Prop := ∀ τ e, extT θ τ → okT v nt τ → holdS v τ s → deep ≤ e → (∀ m, j ≤ m → m < v.2.2.1 → v.2.1 m 0 = 0 → ∃ d, s (nmT (v.2.1 m) τ) = some d ∧ d ≤ e) → ∃ d, s (nmT v.1 τ) = some d ∧ d ≤ e + 1
def lowS (s s' : Nat → Option Nat) : Prop := ∀ n d, s n = some d → ∃ d', s' n = some d' ∧ d' ≤ d
theorem lowS_rf (s : Nat → Option Nat) : lowS s s := fun n d h => ⟨d, h, Nat.le_refl _⟩
theorem lowS.tr {a b c : Nat → Option Nat} (h : lowS a b) (k : lowS b c) : lowS a c := fun n d e => by
  obtain ⟨d', e', l⟩ := h n d e
  obtain ⟨d2, e2, l2⟩ := k n d' e'
  exact ⟨d2, e2, by omega⟩
def muO (o : Option Nat) : Nat := match o with
  | none => 1001
  | some d => min d 1000
def muS (s : Nat → Option Nat) : Nat := fb_sm (fun n => muO (s n)) 1000
theorem lowS.mu {s s' : Nat → Option Nat} (h : lowS s s') : muS s' ≤ muS s := fb_sm_le (fun n _ => by
  cases z : s n with
  | none =>
    show muO (s' n) ≤ 1001
    cases s' n with
    | none => exact Nat.le_refl _
    | some d => show min d 1000 ≤ 1001; omega
  | some d =>
    obtain ⟨d', e', l⟩ := h n d z
    rw [e']; show min d' 1000 ≤ min d 1000; omega)
theorem muS_set {s : Nat → Option Nat} {n x : Nat} (hn : n < 1000) (hx : ∀ d, s n = some d → x < d ∧ d ≤ 1000) : muS (fun m => if m = n then some x else s m) < muS s := by
  have h := fb_sm_upd (fun n => muO (s n)) (muO (some x)) hn
  have e : (fun m => muO (if m = n then some x else s m)) = (fun m => if m = n then muO (some x) else muO (s m)) := by funext m; split <;> rfl
  have hlt : muO (some x) < muO (s n) := by
    show min x 1000 < muO (s n)
    cases z : s n with
    | none => show min x 1000 < 1001; omega
    | some d => obtain ⟨a, b⟩ := hx d z; show min x 1000 < min d 1000; omega
  show fb_sm (fun m => muO (if m = n then some x else s m)) 1000 < fb_sm (fun n => muO (s n)) 1000
  rw [e]
  omega
def GRel (P : Prop) (s s' : Nat → Option Nat) (c c' : Int32) : Prop := lowS s s' ∧ ((c' = 1 ∧ (c = 1 ∨ muS s' < muS s)) ∨ (c' = c ∧ s' = s ∧ P))
def gQ (Inv : (Nat → Option Nat) → Prop) (P : Prop) (θ s : Nat → Option Nat) (h : xHp) (g : Nat → Int32) (w : Int64) (nw : Value) (ar : Nat → Nat → Int32) (tw kw : Nat → Int64) (rf : Nat → Option Nat) : Option Value ⊕ Nat → xHp → Prop := fun o h' => o = .inl none ∧ ∃ (g' : Nat → Int32) (ar' : Nat → Nat → Int32) (s' : Nat → Option Nat), MH h' g' w nw ar' tw kw rf ∧ yfr h h' ∧ (∀ k, k ≠ 34 → g' k = g k) ∧ (∀ c, c ≠ 219 → c ≠ 220 → ar' c = ar c) ∧ (∀ x, x < 3 → ar' 220 x = enT (θ x)) ∧ stO (ar' 219) s' ∧ Inv s' ∧ GRel P s s' (g 34) (g' 34)
def ctS (s : Nat → Option Nat) : Nat := fb_ct (fun n => (s n).isSome) 1000
theorem ctS_le (s : Nat → Option Nat) : ctS s ≤ 1000 := fb_ct_le _ _
theorem lowS.ct {s s' : Nat → Option Nat} (h : lowS s s') : ctS s ≤ ctS s' := fb_ct_sub (fun n _ e => by
  cases z : s n with
  | none => rw [z] at e; cases e
  | some d => obtain ⟨d', e', _⟩ := h n d z; rw [e']; rfl)
def stepI (v : RV) (nt : Nat) (Inv : (Nat → Option Nat) → Prop) : Prop := ∀ s τ e, Inv s → e ≤ ctS s → okT v nt τ → holdS v τ s → (∀ m, m < v.2.2.1 → v.2.1 m 0 = 0 → ∃ d, s (nmT (v.2.1 m) τ) = some d ∧ d ≤ e) → (∀ d, s (nmT v.1 τ) = some d → e + 1 < d) → Inv (setS s (nmT v.1 τ) (e + 1))
def covR (v : RV) : Prop := ∀ s, s < 3 → ((∃ m, m < v.2.2.1 ∧ sgIn (v.2.1 m) s) ∨ sgIn v.1 s) → ∃ i, i < v.2.2.1 ∧ v.2.1 i 0 = 0 ∧ sgIn (v.2.1 i) s
theorem nm_ext {nt : Nat} {t : Nat → Int32} {θ : Nat → Option Nat} {τ : Nat → Nat} (h2 : okA nt (t 2)) (h3 : okA nt (t 3)) (hn : nt ≤ 10) (he : extT θ τ) (hb : ∀ s, s < 3 → sgIn t s → θ s ≠ none) : nmP t θ = nmT t τ := by
  unfold nmT nmP
  rw [th_ext h2 hn he (fun s h1 z => hb s h1 (Or.inl z)), th_ext h3 hn he (fun s h1 z => hb s h1 (Or.inr z))]
theorem tmH_ext {nt : Nat} {t : Nat → Int32} {θ : Nat → Option Nat} {τ : Nat → Nat} {s : Nat → Option Nat} (ht : okTm nt t) (hn : nt ≤ 10) (he : extT θ τ) (hb : ∀ s, s < 3 → sgIn t s → θ s ≠ none) : tmH t θ s ↔ tmHold t τ (fun n => (s n).isSome) := by
  unfold tmH tmHold
  rw [nm_ext ht.2.2.1 ht.2.2.2 hn he hb, th_ext ht.2.2.1 hn he (fun s h1 z => hb s h1 (Or.inl z)), th_ext ht.2.2.2 hn he (fun s h1 z => hb s h1 (Or.inr z))]
theorem setS_low {s : Nat → Option Nat} {n x : Nat} (h : ∀ d, s n = some d → x < d) : lowS s (setS s n x) := fun m d e => by
  unfold setS
  by_cases z : m = n
  · rw [if_pos z]; rw [z] at e; exact ⟨x, rfl, Nat.le_of_lt (h d e)⟩
  · rw [if_neg z]; exact ⟨d, e, Nat.le_refl _⟩
theorem stO_set {f : Nat → Int32} {s : Nat → Option Nat} (h : stO f s) {n x : Nat} (hx : x < 1000000) : stO (upd f n (nI x)) (setS s n x) := fun m hm => by
  unfold setS
  by_cases z : m = n
  · rw [if_pos z, z, upd_at9]; exact ⟨rfl, fun d e => by cases e; exact hx⟩
  · rw [if_neg z, upd_nq z]; exact h m hm
theorem enS_lt {o : Option Nat} {x : Nat} (hx : x < 1000000) (h : ∀ d, o = some d → d < 1000000) : nI x < enS o ↔ ∀ d, o = some d → x < d := by
  cases o with
  | none => exact ⟨fun _ d e => (by cases e), fun _ => by show nI x < 1000000; rw [show (1000000 : Int32) = nI 1000000 from rfl, nI_ltI (by omega) (by omega)]; exact hx⟩
  | some d =>
    have := h d rfl
    show nI x < nI d ↔ _
    rw [nI_ltI (by omega) (by omega)]
    exact ⟨fun z d' e => by cases e; exact z, fun z => z d rfl⟩
def tOf (θ : Nat → Option Nat) : Nat → Nat := fun s => (θ s).getD 0
theorem ext_tOf (θ : Nat → Option Nat) : extT θ (tOf θ) := fun s t _ e => by unfold tOf; rw [e]; rfl
theorem okT_of {v : RV} {nt : Nat} {θ : Nat → Option Nat} (hθ : okTh nt θ) (hb : ∀ j, j < v.2.2.1 → ∀ s, s < 3 → sgIn (v.2.1 j) s → θ s ≠ none) : okT v nt (tOf θ) := fun s hs ⟨j, hj, hsg⟩ => by
  cases e : θ s with
  | none => exact absurd e (hb j hj s hs hsg)
  | some t => unfold tOf; rw [e]; exact hθ s t hs e
set_option maxRecDepth 100000 in
set_option maxHeartbeats 4000000 in
theorem k_X14_goes0 {G : xG} {h : xHp} {g : Nat → Int32} {w : Int64} {nw : Value} {ar : Nat → Nat → Int32} {tw : Nat → Int64} {kw : Nat → Int64} {rf : Nat → Option Nat} (M : MH h g w nw ar tw kw rf) {nt : Nat} {θ : Nat → Option Nat} (hgv : ∀ s, s < 3 → ar 220 s = enT (θ s)) (hn : nt ≤ 10) (hθ : okTh nt θ) {a : Nat} {v : RV} (ha : 227 ≤ a) (rv : rmV h a v) (hv : okRl nt v) {s : Nat → Option Nat} (hs : stO (ar 219) s) {Inv : (Nat → Option Nat) → Prop} (hI : Inv s) (hst : stepI v nt Inv) (hbd : ∀ s, Inv s → ∀ n d, n < 1000 → s n = some d → d ≤ ctS s) (hco : covR v) {j deep : Nat} (hd : deep ≤ ctS s) (hbn : sgB v θ j) (hpo : posL v θ s j deep) (hj : j = v.2.2.1) : MX G mX14_goes 5 0 0 [.ref 205, .ref a, .int (nI (j + 1)), .int (nI deep)] h (gQ Inv (CLo v nt θ j deep s) θ s h g w nw ar tw kw rf) := by
  refine MX.of [(0, .ref 205), (1, .ref a), (2, .int (nI (j + 1))), (3, .int (nI deep))] (by decide) rfl (Nat.le_of_ble_eq_true rfl) rfl ?_
  have hz4 := hv.1
  have hd9 := Nat.le_trans hd (ctS_le s)
  obtain ⟨so, kd, on, tz, lt, rc9, rI⟩ := id rv
  have hb : ∀ m, m < v.2.2.1 → ∀ s, s < 3 → sgIn (v.2.1 m) s → θ s ≠ none := fun m hm s hs9 hsg => by obtain ⟨i, i1, i2, i3⟩ := hco s hs9 (Or.inl ⟨m, hm, hsg⟩); exact hbn i (by omega) i2 s hs9 i3
  have hb0 : ∀ s, s < 3 → sgIn v.1 s → θ s ≠ none := fun s hs9 hsg => by obtain ⟨i, i1, i2, i3⟩ := hco s hs9 (Or.inr hsg); exact hbn i (by omega) i2 s hs9 i3
  refine x_iload_n dX14_goes_0 rfl ?_
  refine x_aload_n dX14_goes_1 rfl ?_
  refine x_get lf_X14_199 dX14_goes_2 rc9.1 rfl ?_
  refine x_top (y := nI (v.2.2.1)) rfl ?_
  refine x_icmp_le 55 dX14_goes_5 (by decide) (fun c_5 => absurd c_5 (by rw [nI_leI (by omega) (by omega)]; omega)) (fun c_5 => ?_)
  refine x_aload_n dX14_goes_8 rfl ?_
  refine x_aload_n dX14_goes_9 rfl ?_
  refine x_callV (As := [.ref a]) (st := []) lv_X14_269 (k_X14_hold M hgv hn hθ rv hv hs hb) dX14_goes_10 M.o rfl rfl (Nat.le_of_ble_eq_true rfl) ⟨by decide, by decide⟩ ⟨by decide, by decide⟩ (fun v9 h9 z => ?_) (fun _ _ _ _ _ z => by obtain ⟨_, z, _⟩ := z; cases z)
  obtain ⟨b9, ev, eh, hb9⟩ := z
  rw [eh]
  cases ev
  refine x_if_ne 17 dX14_goes_13 (by decide) (fun c_13 => ?_) (fun c_13 => ?_)
  · have c_13 := bi_t c_13
    refine x_aload_n dX14_goes_17 rfl ?_
    refine x_aload_n dX14_goes_18 rfl ?_
    refine x_iconst (v := 0) dX14_goes_19 (by decide) ?_
    obtain ⟨hk1, hk2⟩ := hv.2.2.1
    have hnl : nmP v.1 θ < 1000 := nmP_lt hk2 hv.2.2.2.1 hv.2.2.2.2.1 hθ hn
    have hs9 := hs _ hnl
    refine x_callV (As := [.ref a, .int (nI 0)]) (st := []) lv_X14_273 (k_X14_atomOf M hgv hn rv hv.1 (i := 0) (kd9 := (v.1 1).toNatClampNeg) (Nat.zero_le _) hk1 hk2 hv.2.2.2.1 hv.2.2.2.2.1 (fun s h1 h2 => hb0 s h1 (Or.inl h2)) (fun s h1 h2 => hb0 s h1 (Or.inr h2))) dX14_goes_20 M.o rfl rfl (Nat.le_of_ble_eq_true rfl) ⟨by decide, by decide⟩ ⟨by decide, by decide⟩ (fun v9 h9 z => ?_) (fun _ _ _ _ _ z => by cases z.1)
    obtain ⟨ev, eh⟩ := z
    rw [eh]
    cases ev
    refine x_istore [(0, .ref 205), (1, .ref a), (2, .int (nI (j + 1))), (3, .int (nI deep)), (4, .int (nI (nmP v.1 θ)))] dX14_goes_23 (by decide) rfl rfl ?_
    refine x_iload_n dX14_goes_25 rfl ?_
    refine x_iconst (v := 1) dX14_goes_26 (by decide) ?_
    refine x_iadd dX14_goes_27 ?_
    refine x_top (y := nI (deep + 1)) (nI_add deep 1) ?_
    refine x_aload_n dX14_goes_28 rfl ?_
    refine x_get lf_X14_63 dX14_goes_29 M.o rfl ?_
    refine x_iload dX14_goes_32 rfl ?_
    refine x_ialdN (j := nmP v.1 θ) (M.a 219 0 1000 rfl) rfl (by omega) (by decide) dX14_goes_34 ?_
    refine x_top hs9.1 ?_
    refine x_icmp_lt 39 dX14_goes_35 (by decide) (fun c_35 => ?_) (fun c_35 => ?_)
    · refine x_aload_n dX14_goes_39 rfl ?_
      refine x_get lf_X14_63 dX14_goes_40 M.o rfl ?_
      refine x_iload dX14_goes_43 rfl ?_
      refine x_iload_n dX14_goes_45 rfl ?_
      refine x_iconst (v := 1) dX14_goes_46 (by decide) ?_
      refine x_iadd dX14_goes_47 ?_
      refine x_top (y := nI (deep + 1)) (nI_add deep 1) ?_
      refine x_iastN (j := nmP v.1 θ) (M.a 219 0 1000 rfl) rfl (by omega) (by decide) dX14_goes_48 ?_
      refine x_aload_n dX14_goes_49 rfl ?_
      refine x_iconst (v := 1) dX14_goes_50 (by decide) ?_
      refine x_put (mL (upd g 34 1) w nw) lf_X14_254 dX14_goes_51 ((xup_ne (by omega)).trans M.o) (Nat.le_of_ble_eq_true rfl) rfl rfl rfl ?_
      have hgt := (enS_lt (x := deep + 1) (by omega) hs9.2).mp c_35
      have eh0 := nm_ext hv.2.2.2.1 hv.2.2.2.2.1 hn (ext_tOf θ) hb0
      have hI2 : Inv (setS s (nmP v.1 θ) (deep + 1)) := by rw [eh0]; exact hst s (tOf θ) deep hI hd (okT_of hθ hb) (fun m hm => (by by_cases z : v.2.1 m 0 = 0; (obtain ⟨d, d1, d2⟩ := hpo m (by omega) z; exact (tmH_ext (hv.2.1 m hm) hn (ext_tOf θ) (hb m hm)).mp ((tmH_0 (by rw [z]; decide) z).mpr (by rw [d1]; intro y; cases y))); exact (tmH_ext (hv.2.1 m hm) hn (ext_tOf θ) (hb m hm)).mp (hb9.mp (by first | exact c_13 | exact bi_t c_13) m hm z))) (fun m hm z => by obtain ⟨d, d1, d2⟩ := hpo m (by omega) z; exact ⟨d, by rw [← nm_ext (hv.2.1 m hm).2.2.1 (hv.2.1 m hm).2.2.2 hn (ext_tOf θ) (hb m hm)]; exact d1, d2⟩) (by rw [← eh0]; exact hgt)
      exact x_vret dX14_goes_54 rfl (Nat.le_refl _) (Nat.le_refl _) ⟨rfl, _, _, setS s (nmP v.1 θ) (deep + 1), ((M.a9 (c := 219) rfl (upd (ar 219) (nmP v.1 θ) (nI (deep + 1)))).g9 (upd g 34 1) w nw), (((yfr_rf _).up (by decide)).up (by decide)), fun k hk => upd_nq hk, fun c h1 _ => apF_ne h1, fun x hx => by rw [apF_ne (by decide)]; exact hgv x hx, by rw [apF_at]; exact stO_set hs (by omega), hI2, setS_low hgt, Or.inl ⟨rfl, Or.inr (muS_set hnl (fun d e => ⟨hgt d e, Nat.le_trans (hbd s hI _ d hnl e) (ctS_le s)⟩))⟩⟩
    · exact x_vret dX14_goes_38 rfl (Nat.le_refl _) (Nat.le_refl _) ⟨rfl, g, ar, s, M, yfr_rf _, fun _ _ => rfl, fun _ _ _ => rfl, hgv, hs, hI, lowS_rf s, Or.inr ⟨rfl, rfl, fun τ e he hok hh hde hpos => by rw [← nm_ext hv.2.2.2.1 hv.2.2.2.2.1 hn he hb0]; cases z : s (nmP v.1 θ) with | none => exact absurd ((enS_lt (x := deep + 1) (by omega) hs9.2).mpr (fun d e => by rw [z] at e; cases e)) c_35 | some d => exact ⟨d, rfl, Nat.le_of_not_lt (fun y => c_35 ((enS_lt (x := deep + 1) (by omega) hs9.2).mpr (fun d2 e2 => by rw [z] at e2; cases e2; omega)))⟩⟩⟩
  · have c_13 := bi_f c_13
    exact x_vret dX14_goes_16 rfl (Nat.le_refl _) (Nat.le_refl _) ⟨rfl, g, ar, s, M, yfr_rf _, fun _ _ => rfl, fun _ _ _ => rfl, hgv, hs, hI, lowS_rf s, Or.inr ⟨rfl, rfl, fun τ e he hok hh hde hpos => absurd (hb9.mpr (fun m hm _ => (tmH_ext (hv.2.1 m hm) hn he (hb m hm)).mpr (hh m hm))) (by first | (rw [c_13]; decide) | (rw [bi_f c_13]; decide))⟩⟩
