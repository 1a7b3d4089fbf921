/-! the reference: takes -/
set_option maxRecDepth 100000 in
set_option maxHeartbeats 4000000 in
theorem l_X14_takes {G : xG} {h : xHp} {g : Nat → Int32} {w : Int64} {nw : Value} {ar : Nat → Nat → Int32} {tw : Nat → Int64} {kw : Nat → Int64} {rf : Nat → Option Nat} (M : MH h g w nw ar tw kw rf) {nt : Nat} (hn : nt ≤ 10) {a : Nat} {v : RV} (ha : 227 ≤ a) (hv : okRl nt v) {Inv : (Nat → Option Nat) → Prop} (hst : stepI v nt Inv) (hbd : ∀ s, Inv s → ∀ n d, n < 1000 → s n = some d → d ≤ ctS s) (hco : covR v) (hpa : plA v nt Inv) (rv : rmV h a v) {s : Nat → Option Nat} (hs : stO (ar 219) s) (hI : Inv s) : ∀ (m j : Nat) (f : Nat → Int32), j ≤ 3 → 4 ≤ j + m → (∀ q, q < j → f q = -1) → Wx G mX14_takes (xRm 10 0 0) (xF G (gQ Inv (CLo v nt (fun _ => none) 0 0 s) (fun _ => none) s h g w nw ar tw kw rf) 0 0) 0 0 2 [(0, .ref 205), (1, .ref a), (2, .int (nI j))] [] (xup h 220 (.inl (0, 3, .inl f))) := by
  have hz4 := hv.1
  intro m
  induction m with
  | zero => exact fun j f h1 h2 => absurd h2 (by omega)
  | succ m ih =>
    intro j f hk hk2 hz
    refine x_iload_n dX14_takes_2 rfl ?_
    refine x_iconst (v := 3) dX14_takes_3 (by decide) ?_
    refine x_icmp_ge 20 dX14_takes_4 (by decide) (fun c_4 => ?_) (fun c_4 => ?_)
    · rw [show (3 : Int32) = nI 3 from rfl, nI_leI (by omega) (by omega)] at c_4
      refine x_aload_n dX14_takes_20 rfl ?_
      refine x_aload_n dX14_takes_21 rfl ?_
      refine x_iconst (v := 1) dX14_takes_22 (by decide) ?_
      refine x_iconst (v := 0) dX14_takes_23 (by decide) ?_
      have Y1 : yfr h (xup h 220 (.inl (0, 3, .inl f))) := ((yfr_rf _).up (by decide))
      refine x_callV (As := [.ref a, .int (nI (0 + 1)), .int (nI 0)]) (st := []) lv_X14_262 (k_X14_goes hn ha hv hst hbd hco hpa v.2.2.1 (j := 0) (by omega) (θ := fun _ => none) (s := s) (M.a9 (c := 220) rfl f) (rv.fr (fun q _ _ => Y1.2 q (by omega))) (fun k hk => by rw [apF_at]; exact hz k (by omega)) (fun _ _ _ e => by cases e) (by rw [apF_ne (by decide)]; exact hs) hI (Nat.zero_le _) (fun m hm => absurd hm (by omega)) (fun m hm => absurd hm (by omega))) dX14_takes_24 ((xup_ne (by omega)).trans M.o) rfl rfl (Nat.le_of_ble_eq_true rfl) ⟨by show 5 + v.2.2.1 + 1 ≤ 10; omega, by show 8 + (9 + 11) + 100 * (5 + v.2.2.1) ≤ 100 * 10; omega⟩ ⟨Nat.le_refl _, Nat.le_refl _⟩ (fun v9 h2 z => ?_) (fun _ _ _ _ _ z => by cases z.1)
      obtain ⟨ev, g2, ar2, s2, M2, Y2, gk2, ak2, hgv2, hs2, hI2, gr2⟩ := z
      cases ev
      exact x_vret dX14_takes_27 rfl (Nat.le_refl _) (Nat.le_refl _) ⟨rfl, g2, ar2, s2, M2, Y1.tr Y2, gk2, fun c h1 h2 => (ak2 c h1 h2).trans (apF_ne h2), hgv2, hs2, hI2, gr2⟩
    · rw [show (3 : Int32) = nI 3 from rfl, nI_leI (by omega) (by omega)] at c_4
      refine x_aload_n dX14_takes_7 rfl ?_
      refine x_get lf_X14_66 dX14_takes_8 ((xup_ne (by omega)).trans M.o) rfl ?_
      refine x_iload_n dX14_takes_11 rfl ?_
      refine x_iconst (v := (-1)) dX14_takes_12 (by decide) ?_
      refine x_iastN (j := j) (xup_self _ _ _) rfl (by omega) (by decide) dX14_takes_13 ?_
      refine x_iinc (v := nI (j + 1)) [(0, .ref 205), (1, .ref a), (2, .int (nI (j + 1)))] dX14_takes_14 rfl (nI_add j 1) (by decide) rfl rfl ?_
      refine x_goto 2 dX14_takes_17 (by decide) ?_
      refine x_heap (xup_up _ _ _ _) ?_
      exact ih (j + 1) _ (by omega) (by omega) (fun q hq => by by_cases e : q = j; (rw [e]; exact upd_at9); rw [upd_nq e]; exact hz q (by omega))
set_option maxRecDepth 100000 in
set_option maxHeartbeats 4000000 in
theorem k_X14_takes {G : xG} {h : xHp} {g : Nat → Int32} {w : Int64} {nw : Value} {ar : Nat → Nat → Int32} {tw : Nat → Int64} {kw : Nat → Int64} {rf : Nat → Option Nat} (M : MH h g w nw ar tw kw rf) {nt : Nat} (hn : nt ≤ 10) {a : Nat} {v : RV} (ha : 227 ≤ a) (hv : okRl nt v) {Inv : (Nat → Option Nat) → Prop} (hst : stepI v nt Inv) (hbd : ∀ s, Inv s → ∀ n d, n < 1000 → s n = some d → d ≤ ctS s) (hco : covR v) (hpa : plA v nt Inv) (rv : rmV h a v) {s : Nat → Option Nat} (hs : stO (ar 219) s) (hI : Inv s) : MX G mX14_takes 10 0 0 [.ref 205, .ref a] h (gQ Inv (CLo v nt (fun _ => none) 0 0 s) (fun _ => none) s h g w nw ar tw kw rf) := by
  refine MX.of [(0, .ref 205), (1, .ref a)] (by decide) rfl (Nat.le_of_ble_eq_true rfl) rfl ?_
  refine x_iconst (v := 0) dX14_takes_0 (by decide) ?_
  refine x_istore_n [(0, .ref 205), (1, .ref a), (2, .int 0)] dX14_takes_1 (by decide) rfl rfl ?_
  refine x_heap (xup_id (M.a 220 0 3 rfl)).symm ?_
  exact l_X14_takes M hn ha hv hst hbd hco hpa rv hs hI 4 0 (ar 220) (by omega) (by omega) (fun q hq => absurd hq (by omega))
