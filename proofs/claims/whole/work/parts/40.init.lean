/-! the class's constructors -/
def xnwA (h : xHp) (a : Nat) (c : xCel) : xHp := (va_up h.1 a (some c), a + 1)
theorem xnwA_self (h : xHp) (a : Nat) (c : xCel) : (xnwA h a c).1 a = some c := by simp [xnwA, va_up]
theorem xnwA_ne {h : xHp} {a b : Nat} {c : xCel} (hn : b ≠ a) : (xnwA h a c).1 b = h.1 b := by simp [xnwA, va_up, hn]
theorem xnwA_eq {h : xHp} {a : Nat} {c : xCel} (ha : h.2 = a) : xnw h c = xnwA h a c := by subst ha; rfl
theorem x_nwA {G : xG} {M : xM} {R : Room} {F : List Frame → Array Value → State → State → Prop} {uc us pc : Nat} {ls : List (Nat × Value)} {st : List Value} {h : xHp} {c : xCel} {a : Nat} (ha : h.2 = a) (k : Wx G M R F uc us pc ls (.ref a :: st) (xnwA h a c)) : Wx G M R F uc us pc ls (.ref h.2 :: st) (xnw h c) := by
  rw [xnwA_eq ha, ha]
  exact k
set_option maxRecDepth 100000 in
set_option maxHeartbeats 4000000 in
theorem k_X6_init {G : xG} {h : xHp} {a b : Nat} (hc : h.1 a = some (.inr (6, [.null, .int 0]))) (hn2 : h.2 = b) (hab : a < b) : MX G mX6_init 1 1 10 [.ref a] h (xVoid (xup (xnwA h b (.inl (1, 10, .inr (.inl (fun _ => 0))))) a (.inr (6, [.ref b, .int 0])))) := by
  refine MX.of [(0, .ref a)] (by decide) rfl (Nat.le_of_ble_eq_true rfl) rfl ?_
  refine x_aload_n dX6_init_0 rfl ?_
  refine x_objInit ml_X6_3 oi_i oi_c dX6_init_1 (Nat.le_of_ble_eq_true rfl) (Nat.le_of_ble_eq_true rfl) ?_
  refine x_aload_n dX6_init_4 rfl ?_
  refine x_bipush (v := 10) dX6_init_5 (by decide) ?_
  refine x_newl (N := 10) ac_long (by decide) (by decide) (by decide) (by decide) (by decide) dX6_init_7 ?_
  refine x_nwA (a := b) hn2 ?_
  refine x_putF [.ref b, .int 0] lf_X6_9 rfl dX6_init_9 ((xnwA_ne (by omega)).trans hc) (Nat.le_of_ble_eq_true rfl) rfl rfl rfl ?_
  exact x_vret dX6_init_12 rfl (Nat.le_refl _) (Nat.le_refl _) ⟨rfl, rfl⟩
set_option maxRecDepth 100000 in
set_option maxHeartbeats 4000000 in
theorem k_X4_init {G : xG} {h : xHp} {a b : Nat} (hc : h.1 a = some (.inr (4, [.null]))) (hn2 : h.2 = b) (hab : a < b) : MX G mX4_init 1 1 10 [.ref a] h (xVoid (xup (xnwA h b (.inl (0, 10, .inl (fun _ => 0)))) a (.inr (4, [.ref b])))) := by
  refine MX.of [(0, .ref a)] (by decide) rfl (Nat.le_of_ble_eq_true rfl) rfl ?_
  refine x_aload_n dX4_init_0 rfl ?_
  refine x_objInit ml_X4_3 oi_i oi_c dX4_init_1 (Nat.le_of_ble_eq_true rfl) (Nat.le_of_ble_eq_true rfl) ?_
  refine x_aload_n dX4_init_4 rfl ?_
  refine x_bipush (v := 10) dX4_init_5 (by decide) ?_
  refine x_newi (N := 10) ac_int (by decide) (by decide) (by decide) (by decide) (by decide) dX4_init_7 ?_
  refine x_nwA (a := b) hn2 ?_
  refine x_putF [.ref b] lf_X4_9 rfl dX4_init_9 ((xnwA_ne (by omega)).trans hc) (Nat.le_of_ble_eq_true rfl) rfl rfl rfl ?_
  exact x_vret dX4_init_12 rfl (Nat.le_refl _) (Nat.le_refl _) ⟨rfl, rfl⟩
set_option maxRecDepth 100000 in
set_option maxHeartbeats 4000000 in
theorem k_X8_init {G : xG} {h : xHp} {a : Nat} (hc : h.1 a = some (.inr (8, [.null, .null, .int 0, .null, .int 0]))) (hn2 : h.2 = a + 1) : MX G mX8_init 2 7 42 [.ref a] h (fun o h' => o = .inl none ∧ h'.2 = a + 8 ∧ (∀ q, q < a → h'.1 q = h.1 q) ∧ rlAt h' a (fun _ => 0) (fun _ _ => 0) 0 (fun _ => 0) 0) := by
  refine MX.of [(0, .ref a)] (by decide) rfl (Nat.le_of_ble_eq_true rfl) rfl ?_
  refine x_aload_n dX8_init_0 rfl ?_
  refine x_objInit ml_X8_3 oi_i oi_c dX8_init_1 (Nat.le_of_ble_eq_true rfl) (Nat.le_of_ble_eq_true rfl) ?_
  refine x_aload_n dX8_init_4 rfl ?_
  refine x_new [.int 0, .int 0, .int 0, .int 0, .int 0, .int 0, .int 0] xc9 ck_X8_9 it_X9 in_X9 rfl (by decide) (by decide) dX8_init_5 ?_
  refine x_nwA (a := a + 1) hn2 ?_
  refine x_dup dX8_init_8 rfl ?_
  refine x_callI (As := []) (st := [.ref (a + 1), .ref a]) li_X8_11 k_X9_init (fun _ _ q => by cases q.1) dX8_init_9 rfl rfl (Nat.le_of_ble_eq_true rfl) ⟨by decide, by decide⟩ ⟨by decide, by decide⟩ (fun v h1 q => ?_)
  obtain ⟨ev, rfl⟩ := q
  cases ev
  refine x_putF [.ref (a + 1), .null, .int 0, .null, .int 0] lf_X8_12 rfl dX8_init_12 ((xnwA_ne (by omega)).trans hc) (Nat.le_of_ble_eq_true rfl) rfl rfl rfl ?_
  refine x_aload_n dX8_init_15 rfl ?_
  refine x_iconst (v := 4) dX8_init_16 (by decide) ?_
  refine x_newq (t := 5) (N := 4) rfl ck_X8_9 ao_X9 (by decide) (by decide) (by decide) (by decide) (by decide) dX8_init_17 ?_
  refine x_nwA (a := a + 2) rfl ?_
  refine x_putF [.ref (a + 1), .ref (a + 2), .int 0, .null, .int 0] lf_X8_18 rfl dX8_init_20 ((xnwA_ne (by omega)).trans (xup_self _ _ _)) (Nat.le_of_ble_eq_true rfl) rfl rfl rfl ?_
  refine x_aload_n dX8_init_23 rfl ?_
  refine x_iconst (v := 3) dX8_init_24 (by decide) ?_
  refine x_newi (N := 3) ac_int (by decide) (by decide) (by decide) (by decide) (by decide) dX8_init_25 ?_
  refine x_nwA (a := a + 3) rfl ?_
  refine x_putF [.ref (a + 1), .ref (a + 2), .int 0, .ref (a + 3), .int 0] lf_X8_22 rfl dX8_init_27 ((xnwA_ne (by omega)).trans (xup_self _ _ _)) (Nat.le_of_ble_eq_true rfl) rfl rfl rfl ?_
  refine x_iconst (v := 0) dX8_init_30 (by decide) ?_
  refine x_istore_n [(0, .ref a), (1, .int 0)] dX8_init_31 (by decide) rfl rfl ?_
  refine x_iload_n dX8_init_32 rfl ?_
  refine x_iconst (v := 4) dX8_init_33 (by decide) ?_
  refine x_icmp_ge 56 dX8_init_34 (by decide) (fun c => absurd c (by decide)) (fun _ => ?_)
  refine x_aload_n dX8_init_37 rfl ?_
  refine x_get lf_X8_18 dX8_init_38 (xup_self _ _ _) rfl ?_
  refine x_iload_n dX8_init_41 rfl ?_
  refine x_new [.int 0, .int 0, .int 0, .int 0, .int 0, .int 0, .int 0] xc9 ck_X8_9 it_X9 in_X9 rfl (by decide) (by decide) dX8_init_42 ?_
  refine x_nwA (a := a + 4) rfl ?_
  refine x_dup dX8_init_45 rfl ?_
  refine x_callI (As := []) (st := [.ref (a + 4), .int 0, .ref (a + 2)]) li_X8_11 k_X9_init (fun _ _ q => by cases q.1) dX8_init_46 rfl rfl (Nat.le_of_ble_eq_true rfl) ⟨by decide, by decide⟩ ⟨by decide, by decide⟩ (fun v h1 q => ?_)
  obtain ⟨ev, rfl⟩ := q
  cases ev
  refine x_aastN (ci := 9) (j := 0) ((xnwA_ne (by omega)).trans ((xup_ne (by omega)).trans ((xnwA_ne (by omega)).trans ((xup_ne (by omega)).trans (xnwA_self _ _ _))))) rfl (xnwA_self _ _ _) rfl rfl (by decide) (by decide) dX8_init_49 ?_
  refine x_iinc (v := 1) [(0, .ref a), (1, .int 1)] dX8_init_50 rfl (by decide) (by decide) rfl rfl ?_
  refine x_goto 32 dX8_init_53 (by decide) ?_
  refine x_iload_n dX8_init_32 rfl ?_
  refine x_iconst (v := 4) dX8_init_33 (by decide) ?_
  refine x_icmp_ge 56 dX8_init_34 (by decide) (fun c => absurd c (by decide)) (fun _ => ?_)
  refine x_aload_n dX8_init_37 rfl ?_
  refine x_get lf_X8_18 dX8_init_38 ((xup_ne (by omega)).trans ((xnwA_ne (by omega)).trans (xup_self _ _ _))) rfl ?_
  refine x_iload_n dX8_init_41 rfl ?_
  refine x_new [.int 0, .int 0, .int 0, .int 0, .int 0, .int 0, .int 0] xc9 ck_X8_9 it_X9 in_X9 rfl (by decide) (by decide) dX8_init_42 ?_
  refine x_nwA (a := a + 5) rfl ?_
  refine x_dup dX8_init_45 rfl ?_
  refine x_callI (As := []) (st := [.ref (a + 5), .int 1, .ref (a + 2)]) li_X8_11 k_X9_init (fun _ _ q => by cases q.1) dX8_init_46 rfl rfl (Nat.le_of_ble_eq_true rfl) ⟨by decide, by decide⟩ ⟨by decide, by decide⟩ (fun v h1 q => ?_)
  obtain ⟨ev, rfl⟩ := q
  cases ev
  refine x_aastN (ci := 9) (j := 1) ((xnwA_ne (by omega)).trans (xup_self _ _ _)) rfl (xnwA_self _ _ _) rfl rfl (by decide) (by decide) dX8_init_49 ?_
  refine x_iinc (v := 2) [(0, .ref a), (1, .int 2)] dX8_init_50 rfl (by decide) (by decide) rfl rfl ?_
  refine x_goto 32 dX8_init_53 (by decide) ?_
  refine x_iload_n dX8_init_32 rfl ?_
  refine x_iconst (v := 4) dX8_init_33 (by decide) ?_
  refine x_icmp_ge 56 dX8_init_34 (by decide) (fun c => absurd c (by decide)) (fun _ => ?_)
  refine x_aload_n dX8_init_37 rfl ?_
  refine x_get lf_X8_18 dX8_init_38 ((xup_ne (by omega)).trans ((xnwA_ne (by omega)).trans ((xup_ne (by omega)).trans ((xnwA_ne (by omega)).trans (xup_self _ _ _))))) rfl ?_
  refine x_iload_n dX8_init_41 rfl ?_
  refine x_new [.int 0, .int 0, .int 0, .int 0, .int 0, .int 0, .int 0] xc9 ck_X8_9 it_X9 in_X9 rfl (by decide) (by decide) dX8_init_42 ?_
  refine x_nwA (a := a + 6) rfl ?_
  refine x_dup dX8_init_45 rfl ?_
  refine x_callI (As := []) (st := [.ref (a + 6), .int 2, .ref (a + 2)]) li_X8_11 k_X9_init (fun _ _ q => by cases q.1) dX8_init_46 rfl rfl (Nat.le_of_ble_eq_true rfl) ⟨by decide, by decide⟩ ⟨by decide, by decide⟩ (fun v h1 q => ?_)
  obtain ⟨ev, rfl⟩ := q
  cases ev
  refine x_aastN (ci := 9) (j := 2) ((xnwA_ne (by omega)).trans (xup_self _ _ _)) rfl (xnwA_self _ _ _) rfl rfl (by decide) (by decide) dX8_init_49 ?_
  refine x_iinc (v := 3) [(0, .ref a), (1, .int 3)] dX8_init_50 rfl (by decide) (by decide) rfl rfl ?_
  refine x_goto 32 dX8_init_53 (by decide) ?_
  refine x_iload_n dX8_init_32 rfl ?_
  refine x_iconst (v := 4) dX8_init_33 (by decide) ?_
  refine x_icmp_ge 56 dX8_init_34 (by decide) (fun c => absurd c (by decide)) (fun _ => ?_)
  refine x_aload_n dX8_init_37 rfl ?_
  refine x_get lf_X8_18 dX8_init_38 ((xup_ne (by omega)).trans ((xnwA_ne (by omega)).trans ((xup_ne (by omega)).trans ((xnwA_ne (by omega)).trans ((xup_ne (by omega)).trans ((xnwA_ne (by omega)).trans (xup_self _ _ _))))))) rfl ?_
  refine x_iload_n dX8_init_41 rfl ?_
  refine x_new [.int 0, .int 0, .int 0, .int 0, .int 0, .int 0, .int 0] xc9 ck_X8_9 it_X9 in_X9 rfl (by decide) (by decide) dX8_init_42 ?_
  refine x_nwA (a := a + 7) rfl ?_
  refine x_dup dX8_init_45 rfl ?_
  refine x_callI (As := []) (st := [.ref (a + 7), .int 3, .ref (a + 2)]) li_X8_11 k_X9_init (fun _ _ q => by cases q.1) dX8_init_46 rfl rfl (Nat.le_of_ble_eq_true rfl) ⟨by decide, by decide⟩ ⟨by decide, by decide⟩ (fun v h1 q => ?_)
  obtain ⟨ev, rfl⟩ := q
  cases ev
  refine x_aastN (ci := 9) (j := 3) ((xnwA_ne (by omega)).trans (xup_self _ _ _)) rfl (xnwA_self _ _ _) rfl rfl (by decide) (by decide) dX8_init_49 ?_
  refine x_iinc (v := 4) [(0, .ref a), (1, .int 4)] dX8_init_50 rfl (by decide) (by decide) rfl rfl ?_
  refine x_goto 32 dX8_init_53 (by decide) ?_
  refine x_iload_n dX8_init_32 rfl ?_
  refine x_iconst (v := 4) dX8_init_33 (by decide) ?_
  refine x_icmp_ge 56 dX8_init_34 (by decide) (fun _ => ?_) (fun c => absurd c (by decide))
  refine x_vret dX8_init_56 rfl (Nat.le_refl _) (Nat.le_refl _) ⟨rfl, rfl, fun q hq => ((xup_ne (by omega)).trans ((xnwA_ne (by omega)).trans ((xup_ne (by omega)).trans ((xnwA_ne (by omega)).trans ((xup_ne (by omega)).trans ((xnwA_ne (by omega)).trans ((xup_ne (by omega)).trans ((xnwA_ne (by omega)).trans ((xup_ne (by omega)).trans ((xnwA_ne (by omega)).trans ((xup_ne (by omega)).trans ((xnwA_ne (by omega)).trans ((xup_ne (by omega)).trans ((xnwA_ne (by omega)).trans rfl)))))))))))))), ?_⟩
  refine ⟨((xup_ne (by omega)).trans ((xnwA_ne (by omega)).trans ((xup_ne (by omega)).trans ((xnwA_ne (by omega)).trans ((xup_ne (by omega)).trans ((xnwA_ne (by omega)).trans ((xup_ne (by omega)).trans ((xnwA_ne (by omega)).trans (xup_self _ _ _))))))))), ((xup_ne (by omega)).trans ((xnwA_ne (by omega)).trans ((xup_ne (by omega)).trans ((xnwA_ne (by omega)).trans ((xup_ne (by omega)).trans ((xnwA_ne (by omega)).trans ((xup_ne (by omega)).trans ((xnwA_ne (by omega)).trans ((xup_ne (by omega)).trans ((xnwA_ne (by omega)).trans ((xup_ne (by omega)).trans ((xnwA_ne (by omega)).trans ((xup_ne (by omega)).trans (xnwA_self _ _ _)))))))))))))), ((xup_self _ _ _)).trans ?_, ((xup_ne (by omega)).trans ((xnwA_ne (by omega)).trans ((xup_ne (by omega)).trans ((xnwA_ne (by omega)).trans ((xup_ne (by omega)).trans ((xnwA_ne (by omega)).trans ((xup_ne (by omega)).trans ((xnwA_ne (by omega)).trans ((xup_ne (by omega)).trans (xnwA_self _ _ _)))))))))), fun i hi => ?_⟩
  · congr 6; funext j; unfold rTs va_up; rcases j with _ | _ | _ | _ | j <;> simp
  · rcases i with _ | _ | _ | _ | i
    · exact ((xup_ne (by omega)).trans ((xnwA_ne (by omega)).trans ((xup_ne (by omega)).trans ((xnwA_ne (by omega)).trans ((xup_ne (by omega)).trans ((xnwA_ne (by omega)).trans ((xup_ne (by omega)).trans (xnwA_self _ _ _))))))))
    · exact ((xup_ne (by omega)).trans ((xnwA_ne (by omega)).trans ((xup_ne (by omega)).trans ((xnwA_ne (by omega)).trans ((xup_ne (by omega)).trans (xnwA_self _ _ _))))))
    · exact ((xup_ne (by omega)).trans ((xnwA_ne (by omega)).trans ((xup_ne (by omega)).trans (xnwA_self _ _ _))))
    · exact ((xup_ne (by omega)).trans (xnwA_self _ _ _))
    · omega
/-! the Book -/
def zV : RV := (fun _ => 0, fun _ _ => 0, 0, fun _ => 0, 0)
def bkF (h : xHp) (rc : Nat) (fc : Int32) (nt nk : Nat) (lf : Nat → Int32) (ra : Nat → Nat) (V : Nat → RV) (kw tw : Nat → Int64) (pf fr : Nat → Int32) : Prop := bkS h rc fc nt nk lf ra V ∧ h.1 5 = some (.inl (1, 10, .inr (.inl kw))) ∧ h.1 7 = some (.inl (1, 10, .inr (.inl tw))) ∧ h.1 8 = some (.inl (0, 10, .inl pf)) ∧ h.1 12 = some (.inl (0, 100, .inl fr)) ∧ ∀ i j, i < 21 → j < 21 → ra i = ra j → i = j
def bkI (h0 h : xHp) (r : Nat) : Prop := h.2 = 13 + 8 * r ∧ (∀ q, q < 3 → h.1 q = h0.1 q) ∧ (h.1 3 = some (bC 4 6 8 9 11 0 12 0) ∧ h.1 4 = some (.inr (6, [.ref 5, .int (nI 0)])) ∧ h.1 6 = some (.inr (6, [.ref 7, .int (nI 0)])) ∧ h.1 9 = some (.inr (4, [.ref 10])) ∧ h.1 10 = some (.inl (0, 10, .inl (fun _ => 0))) ∧ h.1 5 = some (.inl (1, 10, .inr (.inl (fun _ => 0)))) ∧ h.1 7 = some (.inl (1, 10, .inr (.inl (fun _ => 0)))) ∧ h.1 8 = some (.inl (0, 10, .inl (fun _ => 0))) ∧ h.1 12 = some (.inl (0, 100, .inl (fun _ => 0)))) ∧ (∃ rf : Nat → Option Nat, h.1 11 = some (.inl (4, 21, .inr (.inr rf))) ∧ ∀ j, j < r → rf j = some (13 + 8 * j)) ∧ ∀ j, j < r → rlV h (13 + 8 * j) zV
theorem bkI.step {h0 h h' : xHp} {r : Nat} {rf : Nat → Option Nat} (hI : bkI h0 h r) (hrf : ∀ j, j < r → rf j = some (13 + 8 * j)) (h2 : h'.2 = 13 + 8 * (r + 1)) (hf : ∀ q, q < 13 + 8 * r → q ≠ 11 → h'.1 q = h.1 q) (h11 : h'.1 11 = some (.inl (4, 21, .inr (.inr (va_up rf r (some (13 + 8 * r))))))) (hr : rlV h' (13 + 8 * r) zV) : bkI h0 h' (r + 1) := by
  obtain ⟨-, i2, ⟨c1, c2, c3, c4, c5, c6, c7, c8, c9⟩, -, i5⟩ := hI
  refine ⟨h2, fun q hq => (hf q (by omega) (by omega)).trans (i2 q hq), ⟨(hf _ (by omega) (by decide)).trans c1, (hf _ (by omega) (by decide)).trans c2, (hf _ (by omega) (by decide)).trans c3, (hf _ (by omega) (by decide)).trans c4, (hf _ (by omega) (by decide)).trans c5, (hf _ (by omega) (by decide)).trans c6, (hf _ (by omega) (by decide)).trans c7, (hf _ (by omega) (by decide)).trans c8, (hf _ (by omega) (by decide)).trans c9⟩, ⟨_, h11, fun j hj => ?_⟩, fun j hj => ?_⟩
  · simp only [va_up]
    split
    next e => rw [e]
    next e => exact hrf j (by omega)
  · by_cases e : j = r
    · rw [e]; exact hr
    · obtain ⟨d1, d2, d3, d4, d5⟩ := i5 j (by omega)
      exact ⟨(hf _ (by omega) (by omega)).trans d1, (hf _ (by omega) (by omega)).trans d2, (hf _ (by omega) (by omega)).trans d3, (hf _ (by omega) (by omega)).trans d4, fun i hi => (hf _ (by omega) (by omega)).trans (d5 i hi)⟩
theorem bkI.done {h0 h : xHp} (hI : bkI h0 h 21) : bkF h 0 0 0 0 (fun _ => 0) (fun j => 13 + 8 * j) (fun _ => zV) (fun _ => 0) (fun _ => 0) (fun _ => 0) (fun _ => 0) := by
  obtain ⟨-, i2, ⟨c1, c2, c3, c4, c5, c6, c7, c8, c9⟩, i4, i5⟩ := hI
  exact ⟨⟨c1, c2, c3, c4, c5, ⟨i4, i5⟩, fun j hj => ⟨j, hj, rfl⟩⟩, c6, c7, c8, c9, fun i j _ _ e => by have e : 13 + 8 * i = 13 + 8 * j := e; omega⟩
theorem rlV_up4 {h : xHp} {a q n : Nat} {v : RV} {g : Nat → Option Nat} {c : xCel} (hr : rlV h a v) (hq : h.1 q = some (.inl (4, n, .inr (.inr g)))) : rlV (xup h q c) a v := by
  obtain ⟨h1, h2, h3, h4, h5⟩ := hr
  refine ⟨(xup_ne (xne_oa h1 hq)).trans h1, (xup_ne (xne_oa h2 hq)).trans h2, (xup_ne (xne_of h3 hq (fun e => by cases e))).trans h3, (xup_ne (xne_of h4 hq (fun e => by cases e))).trans h4, fun i hi => (xup_ne (xne_oa (h5 i hi) hq)).trans (h5 i hi)⟩
set_option maxRecDepth 100000 in
set_option maxHeartbeats 4000000 in
theorem l_X0_init {G : xG} {h0 : xHp} : ∀ (k r : Nat) (h : xHp), r ≤ 21 → 22 ≤ r + k → bkI h0 h r → Wx G mX0_init (xRm 3 177 1153) (xF G (fun o h' => o = .inl none ∧ h'.2 = 181 ∧ (∀ q, q < 3 → h'.1 q = h0.1 q) ∧ bkF h' 0 0 0 0 (fun _ => 0) (fun j => 13 + 8 * j) (fun _ => zV) (fun _ => 0) (fun _ => 0) (fun _ => 0) (fun _ => 0)) 177 1153) (9 + 8 * r) (166 + 47 * r) 64 [(0, .ref 3), (1, .int (nI r))] [] h := by
  intro k
  induction k with
  | zero => exact fun r h h1 h2 => absurd h2 (by omega)
  | succ k ih =>
    intro r h hk hk9 hI
    obtain ⟨rf, h11, hrf⟩ := hI.2.2.2.1
    refine x_iload_n dX0_init_64 rfl ?_
    refine x_bipush (v := 20) dX0_init_65 (by decide) ?_
    refine x_icmp_gt 89 dX0_init_67 (by decide) (fun c_67 => ?_) (fun c_67 => ?_)
    · rw [show (20 : Int32) = nI 20 from rfl, nI_ltI (by omega) (by omega)] at c_67
      have hr : r = 21 := by omega
      subst hr
      exact x_vret dX0_init_89 rfl (by decide) (by decide) ⟨rfl, hI.1, hI.2.1, hI.done⟩
    · rw [show (20 : Int32) = nI 20 from rfl, nI_ltI (by omega) (by omega)] at c_67
      refine x_aload_n dX0_init_70 rfl ?_
      refine x_get lf_X0_34 dX0_init_71 hI.2.2.1.1 rfl ?_
      refine x_iload_n dX0_init_74 rfl ?_
      refine x_new [.null, .null, .int 0, .null, .int 0] xc8 ck_X0_32 it_X8 in_X8 rfl (by show 9 + 8 * r + 1 ≤ 177; omega) (by show 166 + 47 * r + 5 ≤ 1153; omega) dX0_init_75 ?_
      refine x_nwA (a := 13 + 8 * r) hI.1 ?_
      refine x_dup dX0_init_78 rfl ?_
      refine x_callI (As := []) (st := [.ref (13 + 8 * r), .int (nI r), .ref 11]) li_X0_41 (k_X8_init (a := 13 + 8 * r) (xnwA_self _ _ _) rfl) (fun _ _ q => by cases q.1) dX0_init_79 rfl rfl (Nat.le_of_ble_eq_true rfl) ⟨by decide, by decide⟩ ⟨by show 9 + 8 * r + 1 + 7 ≤ 177; omega, by show 166 + 47 * r + 5 + 42 ≤ 1153; omega⟩ (fun v h1 q => ?_)
      obtain ⟨ev, f1, f2, f3⟩ := q
      cases ev
      have g11 := (f2 11 (by omega)).trans ((xnwA_ne (by omega)).trans h11)
      refine x_aastN (ci := 8) (j := r) g11 rfl f3.1 rfl rfl (by omega) (by decide) dX0_init_82 ?_
      refine x_iinc (v := nI (r + 1)) [(0, .ref 3), (1, .int (nI (r + 1)))] dX0_init_83 rfl (nI_add r 1) (by decide) rfl rfl ?_
      refine x_goto 64 dX0_init_86 (by decide) ?_
      exact x_ls _ [0, 1] rfl (ih (r + 1) _ (by omega) (by omega) (hI.step hrf (by show h1.2 = _; rw [f1]; omega) (fun q q1 q2 => (xup_ne q2).trans ((f2 q q1).trans (xnwA_ne (by omega)))) (xup_self _ _ _) (rlV_up4 f3 g11)))
set_option maxRecDepth 100000 in
set_option maxHeartbeats 4000000 in
theorem k_X0_init {G : xG} {h : xHp} (hc : h.1 3 = some (.inr (0, [.null, .null, .null, .null, .null, .int 0, .null, .int 0]))) (hn2 : h.2 = 4) : MX G mX0_init 3 177 1153 [.ref 3] h (fun o h' => o = .inl none ∧ h'.2 = 181 ∧ (∀ q, q < 3 → h'.1 q = h.1 q) ∧ bkF h' 0 0 0 0 (fun _ => 0) (fun j => 13 + 8 * j) (fun _ => zV) (fun _ => 0) (fun _ => 0) (fun _ => 0) (fun _ => 0)) := by
  refine MX.of [(0, .ref 3)] (by decide) rfl (Nat.le_of_ble_eq_true rfl) rfl ?_
  refine x_aload_n dX0_init_0 rfl ?_
  refine x_objInit ml_X0_3 oi_i oi_c dX0_init_1 (Nat.le_of_ble_eq_true rfl) (Nat.le_of_ble_eq_true rfl) ?_
  refine x_aload_n dX0_init_4 rfl ?_
  refine x_new [.null, .int 0] xc6 ck_X0_9 it_X6 in_X6 rfl (by decide) (by decide) dX0_init_5 ?_
  refine x_nwA (a := 4) hn2 ?_
  refine x_dup dX0_init_8 rfl ?_
  refine x_callI (As := []) (st := [.ref 4, .ref 3]) li_X0_11 (k_X6_init (a := 4) (b := 5) (xnwA_self _ _ _) rfl (by decide)) (fun _ _ q => by cases q.1) dX0_init_9 rfl rfl (Nat.le_of_ble_eq_true rfl) ⟨by decide, by decide⟩ ⟨by decide, by decide⟩ (fun v h1 q => ?_)
  obtain ⟨ev, rfl⟩ := q
  cases ev
  refine x_putF [.ref 4, .null, .null, .null, .null, .int 0, .null, .int 0] lf_X0_12 rfl dX0_init_12 ((xup_ne (by decide)).trans ((xnwA_ne (by decide)).trans ((xnwA_ne (by decide)).trans hc))) (Nat.le_of_ble_eq_true rfl) rfl rfl rfl ?_
  refine x_aload_n dX0_init_15 rfl ?_
  refine x_new [.null, .int 0] xc6 ck_X0_9 it_X6 in_X6 rfl (by decide) (by decide) dX0_init_16 ?_
  refine x_nwA (a := 6) rfl ?_
  refine x_dup dX0_init_19 rfl ?_
  refine x_callI (As := []) (st := [.ref 6, .ref 3]) li_X0_11 (k_X6_init (a := 6) (b := 7) (xnwA_self _ _ _) rfl (by decide)) (fun _ _ q => by cases q.1) dX0_init_20 rfl rfl (Nat.le_of_ble_eq_true rfl) ⟨by decide, by decide⟩ ⟨by decide, by decide⟩ (fun v h1 q => ?_)
  obtain ⟨ev, rfl⟩ := q
  cases ev
  refine x_putF [.ref 4, .ref 6, .null, .null, .null, .int 0, .null, .int 0] lf_X0_18 rfl dX0_init_23 ((xup_ne (by decide)).trans ((xnwA_ne (by decide)).trans ((xnwA_ne (by decide)).trans (xup_self _ _ _)))) (Nat.le_of_ble_eq_true rfl) rfl rfl rfl ?_
  refine x_aload_n dX0_init_26 rfl ?_
  refine x_bipush (v := 10) dX0_init_27 (by decide) ?_
  refine x_newi (N := 10) ac_int (by decide) (by decide) (by decide) (by decide) (by decide) dX0_init_29 ?_
  refine x_nwA (a := 8) rfl ?_
  refine x_putF [.ref 4, .ref 6, .ref 8, .null, .null, .int 0, .null, .int 0] lf_X0_21 rfl dX0_init_31 ((xnwA_ne (by decide)).trans (xup_self _ _ _)) (Nat.le_of_ble_eq_true rfl) rfl rfl rfl ?_
  refine x_aload_n dX0_init_34 rfl ?_
  refine x_new [.null] xc4 ck_X0_25 it_X4 in_X4 rfl (by decide) (by decide) dX0_init_35 ?_
  refine x_nwA (a := 9) rfl ?_
  refine x_dup dX0_init_38 rfl ?_
  refine x_callI (As := []) (st := [.ref 9, .ref 3]) li_X0_27 (k_X4_init (a := 9) (b := 10) (xnwA_self _ _ _) rfl (by decide)) (fun _ _ q => by cases q.1) dX0_init_39 rfl rfl (Nat.le_of_ble_eq_true rfl) ⟨by decide, by decide⟩ ⟨by decide, by decide⟩ (fun v h1 q => ?_)
  obtain ⟨ev, rfl⟩ := q
  cases ev
  refine x_putF [.ref 4, .ref 6, .ref 8, .ref 9, .null, .int 0, .null, .int 0] lf_X0_28 rfl dX0_init_42 ((xup_ne (by decide)).trans ((xnwA_ne (by decide)).trans ((xnwA_ne (by decide)).trans (xup_self _ _ _)))) (Nat.le_of_ble_eq_true rfl) rfl rfl rfl ?_
  refine x_aload_n dX0_init_45 rfl ?_
  refine x_bipush (v := 21) dX0_init_46 (by decide) ?_
  refine x_newq (t := 4) (N := 21) rfl ck_X0_32 ao_X8 (by decide) (by decide) (by decide) (by decide) (by decide) dX0_init_48 ?_
  refine x_nwA (a := 11) rfl ?_
  refine x_putF [.ref 4, .ref 6, .ref 8, .ref 9, .ref 11, .int 0, .null, .int 0] lf_X0_34 rfl dX0_init_51 ((xnwA_ne (by decide)).trans (xup_self _ _ _)) (Nat.le_of_ble_eq_true rfl) rfl rfl rfl ?_
  refine x_aload_n dX0_init_54 rfl ?_
  refine x_bipush (v := 100) dX0_init_55 (by decide) ?_
  refine x_newi (N := 100) ac_int (by decide) (by decide) (by decide) (by decide) (by decide) dX0_init_57 ?_
  refine x_nwA (a := 12) rfl ?_
  refine x_putF [.ref 4, .ref 6, .ref 8, .ref 9, .ref 11, .int 0, .ref 12, .int 0] lf_X0_38 rfl dX0_init_59 ((xnwA_ne (by decide)).trans (xup_self _ _ _)) (Nat.le_of_ble_eq_true rfl) rfl rfl rfl ?_
  refine x_iconst (v := 0) dX0_init_62 (by decide) ?_
  refine x_istore_n [(0, .ref 3), (1, .int 0)] dX0_init_63 (by decide) rfl rfl ?_
  refine l_X0_init 22 0 _ (by omega) (by omega) ⟨rfl, fun q hq => ((xup_ne (by omega)).trans ((xnwA_ne (by omega)).trans ((xup_ne (by omega)).trans ((xnwA_ne (by omega)).trans ((xup_ne (by omega)).trans ((xup_ne (by omega)).trans ((xnwA_ne (by omega)).trans ((xnwA_ne (by omega)).trans ((xup_ne (by omega)).trans ((xnwA_ne (by omega)).trans ((xup_ne (by omega)).trans ((xup_ne (by omega)).trans ((xnwA_ne (by omega)).trans ((xnwA_ne (by omega)).trans ((xup_ne (by omega)).trans ((xup_ne (by omega)).trans ((xnwA_ne (by omega)).trans ((xnwA_ne (by omega)).trans rfl)))))))))))))))))), ⟨(xup_self _ _ _), ((xup_ne (by decide)).trans ((xnwA_ne (by decide)).trans ((xup_ne (by decide)).trans ((xnwA_ne (by decide)).trans ((xup_ne (by decide)).trans ((xup_ne (by decide)).trans ((xnwA_ne (by decide)).trans ((xnwA_ne (by decide)).trans ((xup_ne (by decide)).trans ((xnwA_ne (by decide)).trans ((xup_ne (by decide)).trans ((xup_ne (by decide)).trans ((xnwA_ne (by decide)).trans ((xnwA_ne (by decide)).trans ((xup_ne (by decide)).trans (xup_self _ _ _)))))))))))))))), ((xup_ne (by decide)).trans ((xnwA_ne (by decide)).trans ((xup_ne (by decide)).trans ((xnwA_ne (by decide)).trans ((xup_ne (by decide)).trans ((xup_ne (by decide)).trans ((xnwA_ne (by decide)).trans ((xnwA_ne (by decide)).trans ((xup_ne (by decide)).trans ((xnwA_ne (by decide)).trans ((xup_ne (by decide)).trans (xup_self _ _ _)))))))))))), ((xup_ne (by decide)).trans ((xnwA_ne (by decide)).trans ((xup_ne (by decide)).trans ((xnwA_ne (by decide)).trans ((xup_ne (by decide)).trans (xup_self _ _ _)))))), ((xup_ne (by decide)).trans ((xnwA_ne (by decide)).trans ((xup_ne (by decide)).trans ((xnwA_ne (by decide)).trans ((xup_ne (by decide)).trans ((xup_ne (by decide)).trans (xnwA_self _ _ _))))))), ((xup_ne (by decide)).trans ((xnwA_ne (by decide)).trans ((xup_ne (by decide)).trans ((xnwA_ne (by decide)).trans ((xup_ne (by decide)).trans ((xup_ne (by decide)).trans ((xnwA_ne (by decide)).trans ((xnwA_ne (by decide)).trans ((xup_ne (by decide)).trans ((xnwA_ne (by decide)).trans ((xup_ne (by decide)).trans ((xup_ne (by decide)).trans ((xnwA_ne (by decide)).trans ((xnwA_ne (by decide)).trans ((xup_ne (by decide)).trans ((xup_ne (by decide)).trans (xnwA_self _ _ _))))))))))))))))), ((xup_ne (by decide)).trans ((xnwA_ne (by decide)).trans ((xup_ne (by decide)).trans ((xnwA_ne (by decide)).trans ((xup_ne (by decide)).trans ((xup_ne (by decide)).trans ((xnwA_ne (by decide)).trans ((xnwA_ne (by decide)).trans ((xup_ne (by decide)).trans ((xnwA_ne (by decide)).trans ((xup_ne (by decide)).trans ((xup_ne (by decide)).trans (xnwA_self _ _ _))))))))))))), ((xup_ne (by decide)).trans ((xnwA_ne (by decide)).trans ((xup_ne (by decide)).trans ((xnwA_ne (by decide)).trans ((xup_ne (by decide)).trans ((xup_ne (by decide)).trans ((xnwA_ne (by decide)).trans ((xnwA_ne (by decide)).trans ((xup_ne (by decide)).trans (xnwA_self _ _ _)))))))))), ((xup_ne (by decide)).trans (xnwA_self _ _ _))⟩, ⟨_, ((xup_ne (by decide)).trans ((xnwA_ne (by decide)).trans ((xup_ne (by decide)).trans (xnwA_self _ _ _)))), fun j hj => absurd hj (by omega)⟩, fun j hj => absurd hj (by omega)⟩
set_option maxRecDepth 100000 in
set_option maxHeartbeats 4000000 in
theorem k_X10_init {G : xG} {h : xHp} (hc : h.1 182 = some (.inr (10, [.null, .null, .null, .int 0]))) (hn2 : h.2 = 183) : MX G mX10_init 1 3 1203 [.ref 182] h (xVoid (xup (xnwA (xup (xnwA (xup (xnwA h 183 (.inl (0, 401, .inl (fun _ => 0)))) 182 (.inr (10, [.ref 183, .null, .null, .int 0]))) 184 (.inl (0, 401, .inl (fun _ => 0)))) 182 (.inr (10, [.ref 183, .ref 184, .null, .int 0]))) 185 (.inl (1, 401, .inr (.inl (fun _ => 0))))) 182 (.inr (10, [.ref 183, .ref 184, .ref 185, .int 0])))) := by
  refine MX.of [(0, .ref 182)] (by decide) rfl (Nat.le_of_ble_eq_true rfl) rfl ?_
  refine x_aload_n dX10_init_0 rfl ?_
  refine x_objInit ml_X10_3 oi_i oi_c dX10_init_1 (Nat.le_of_ble_eq_true rfl) (Nat.le_of_ble_eq_true rfl) ?_
  refine x_aload_n dX10_init_4 rfl ?_
  refine x_sipush (v := 401) dX10_init_5 (by decide) ?_
  refine x_newi (N := 401) ac_int (by decide) (by decide) (by decide) (by decide) (by decide) dX10_init_8 ?_
  refine x_nwA (a := 183) hn2 ?_
  refine x_putF [.ref 183, .null, .null, .int 0] lf_X10_9 rfl dX10_init_10 ((xnwA_ne (by decide)).trans hc) (Nat.le_of_ble_eq_true rfl) rfl rfl rfl ?_
  refine x_aload_n dX10_init_13 rfl ?_
  refine x_sipush (v := 401) dX10_init_14 (by decide) ?_
  refine x_newi (N := 401) ac_int (by decide) (by decide) (by decide) (by decide) (by decide) dX10_init_17 ?_
  refine x_nwA (a := 184) rfl ?_
  refine x_putF [.ref 183, .ref 184, .null, .int 0] lf_X10_15 rfl dX10_init_19 ((xnwA_ne (by decide)).trans (xup_self _ _ _)) (Nat.le_of_ble_eq_true rfl) rfl rfl rfl ?_
  refine x_aload_n dX10_init_22 rfl ?_
  refine x_sipush (v := 401) dX10_init_23 (by decide) ?_
  refine x_newl (N := 401) ac_long (by decide) (by decide) (by decide) (by decide) (by decide) dX10_init_26 ?_
  refine x_nwA (a := 185) rfl ?_
  refine x_putF [.ref 183, .ref 184, .ref 185, .int 0] lf_X10_18 rfl dX10_init_28 ((xnwA_ne (by decide)).trans (xup_self _ _ _)) (Nat.le_of_ble_eq_true rfl) rfl rfl rfl ?_
  exact x_vret dX10_init_31 rfl (by decide) (by decide) ⟨rfl, rfl⟩
set_option maxRecDepth 100000 in
set_option maxHeartbeats 4000000 in
theorem k_X7_init {G : xG} {h : xHp} (hc : h.1 181 = some (.inr (7, [.null, .null, .int 0, .null, .int 0, .int 0, .int 0, .int 0]))) (hn2 : h.2 = 182) : MX G mX7_init 2 5 1407 [.ref 181, .ref 3] h (xVoid (xup (xup (xnwA (xup (xup (xnwA (xup (xnwA (xup (xnwA (xnwA h 182 (.inr (10, [.null, .null, .null, .int 0]))) 183 (.inl (0, 401, .inl (fun _ => 0)))) 182 (.inr (10, [.ref 183, .null, .null, .int 0]))) 184 (.inl (0, 401, .inl (fun _ => 0)))) 182 (.inr (10, [.ref 183, .ref 184, .null, .int 0]))) 185 (.inl (1, 401, .inr (.inl (fun _ => 0))))) 182 (.inr (10, [.ref 183, .ref 184, .ref 185, .int 0]))) 181 (.inr (7, [.null, .ref 182, .int 0, .null, .int 0, .int 0, .int 0, .int 0]))) 186 (.inl (0, 200, .inl (fun _ => 0)))) 181 (.inr (7, [.null, .ref 182, .int 0, .ref 186, .int 0, .int 0, .int 0, .int 0]))) 181 (.inr (7, [.ref 3, .ref 182, .int 0, .ref 186, .int 0, .int 0, .int 0, .int 0])))) := by
  refine MX.of [(0, .ref 181), (1, .ref 3)] (by decide) rfl (Nat.le_of_ble_eq_true rfl) rfl ?_
  refine x_aload_n dX7_init_0 rfl ?_
  refine x_objInit ml_X7_3 oi_i oi_c dX7_init_1 (Nat.le_of_ble_eq_true rfl) (Nat.le_of_ble_eq_true rfl) ?_
  refine x_aload_n dX7_init_4 rfl ?_
  refine x_new [.null, .null, .null, .int 0] xc10 ck_X7_9 it_X10 in_X10 rfl (by decide) (by decide) dX7_init_5 ?_
  refine x_nwA (a := 182) hn2 ?_
  refine x_dup dX7_init_8 rfl ?_
  refine x_callI (As := []) (st := [.ref 182, .ref 181]) li_X7_11 (k_X10_init (xnwA_self _ _ _) rfl) (fun _ _ q => by cases q.1) dX7_init_9 rfl rfl (Nat.le_of_ble_eq_true rfl) ⟨by decide, by decide⟩ ⟨by decide, by decide⟩ (fun v h1 q => ?_)
  obtain ⟨ev, rfl⟩ := q
  cases ev
  refine x_putF [.null, .ref 182, .int 0, .null, .int 0, .int 0, .int 0, .int 0] lf_X7_12 rfl dX7_init_12 ((xup_ne (by decide)).trans ((xnwA_ne (by decide)).trans ((xup_ne (by decide)).trans ((xnwA_ne (by decide)).trans ((xup_ne (by decide)).trans ((xnwA_ne (by decide)).trans ((xnwA_ne (by decide)).trans hc))))))) (Nat.le_of_ble_eq_true rfl) rfl rfl rfl ?_
  refine x_aload_n dX7_init_15 rfl ?_
  refine x_sipush (v := 200) dX7_init_16 (by decide) ?_
  refine x_newi (N := 200) ac_int (by decide) (by decide) (by decide) (by decide) (by decide) dX7_init_19 ?_
  refine x_nwA (a := 186) rfl ?_
  refine x_putF [.null, .ref 182, .int 0, .ref 186, .int 0, .int 0, .int 0, .int 0] lf_X7_18 rfl dX7_init_21 ((xnwA_ne (by decide)).trans (xup_self _ _ _)) (Nat.le_of_ble_eq_true rfl) rfl rfl rfl ?_
  refine x_aload_n dX7_init_24 rfl ?_
  refine x_aload_n dX7_init_25 rfl ?_
  refine x_putF [.ref 3, .ref 182, .int 0, .ref 186, .int 0, .int 0, .int 0, .int 0] lf_X7_22 rfl dX7_init_26 (xup_self _ _ _) (Nat.le_of_ble_eq_true rfl) rfl rfl rfl ?_
  exact x_vret dX7_init_29 rfl (by decide) (by decide) ⟨rfl, rfl⟩
set_option maxRecDepth 100000 in
set_option maxHeartbeats 4000000 in
theorem k_X2_init {G : xG} {h : xHp} (hc : h.1 187 = some (.inr (2, [.null, .null, .null, .int 0, .null, .int 0, .int 0, .int 0, .null]))) (hn2 : h.2 = 188) : MX G mX2_init 1 2 6 [.ref 187, .ref 3] h (xVoid (xup (xup (xnwA (xup (xnwA h 188 (.inl (0, 3, .inl (fun _ => 0)))) 187 (.inr (2, [.null, .null, .null, .int 0, .ref 188, .int 0, .int 0, .int 0, .null]))) 189 (.inl (0, 3, .inl (fun _ => 0)))) 187 (.inr (2, [.null, .null, .null, .int 0, .ref 188, .int 0, .int 0, .int 0, .ref 189]))) 187 (.inr (2, [.ref 3, .null, .null, .int 0, .ref 188, .int 0, .int 0, .int 0, .ref 189])))) := by
  refine MX.of [(0, .ref 187), (1, .ref 3)] (by decide) rfl (Nat.le_of_ble_eq_true rfl) rfl ?_
  refine x_aload_n dX2_init_0 rfl ?_
  refine x_objInit ml_X2_3 oi_i oi_c dX2_init_1 (Nat.le_of_ble_eq_true rfl) (Nat.le_of_ble_eq_true rfl) ?_
  refine x_aload_n dX2_init_4 rfl ?_
  refine x_iconst (v := 3) dX2_init_5 (by decide) ?_
  refine x_newi (N := 3) ac_int (by decide) (by decide) (by decide) (by decide) (by decide) dX2_init_6 ?_
  refine x_nwA (a := 188) hn2 ?_
  refine x_putF [.null, .null, .null, .int 0, .ref 188, .int 0, .int 0, .int 0, .null] lf_X2_9 rfl dX2_init_8 ((xnwA_ne (by decide)).trans hc) (Nat.le_of_ble_eq_true rfl) rfl rfl rfl ?_
  refine x_aload_n dX2_init_11 rfl ?_
  refine x_iconst (v := 3) dX2_init_12 (by decide) ?_
  refine x_newi (N := 3) ac_int (by decide) (by decide) (by decide) (by decide) (by decide) dX2_init_13 ?_
  refine x_nwA (a := 189) rfl ?_
  refine x_putF [.null, .null, .null, .int 0, .ref 188, .int 0, .int 0, .int 0, .ref 189] lf_X2_15 rfl dX2_init_15 ((xnwA_ne (by decide)).trans (xup_self _ _ _)) (Nat.le_of_ble_eq_true rfl) rfl rfl rfl ?_
  refine x_aload_n dX2_init_18 rfl ?_
  refine x_aload_n dX2_init_19 rfl ?_
  refine x_putF [.ref 3, .null, .null, .int 0, .ref 188, .int 0, .int 0, .int 0, .ref 189] lf_X2_18 rfl dX2_init_20 (xup_self _ _ _) (Nat.le_of_ble_eq_true rfl) rfl rfl rfl ?_
  exact x_vret dX2_init_23 rfl (by decide) (by decide) ⟨rfl, rfl⟩
set_option maxRecDepth 100000 in
set_option maxHeartbeats 4000000 in
theorem k_X3_init {G : xG} {h : xHp} (hc : h.1 190 = some (.inr (3, [.null, .null, .null]))) (hn2 : h.2 = 191) : MX G mX3_init 1 1 20 [.ref 190, .ref 3, .ref 187] h (xVoid (xup (xup (xup (xnwA h 191 (.inl (0, 20, .inl (fun _ => 0)))) 190 (.inr (3, [.null, .null, .ref 191]))) 190 (.inr (3, [.ref 3, .null, .ref 191]))) 190 (.inr (3, [.ref 3, .ref 187, .ref 191])))) := by
  refine MX.of [(0, .ref 190), (1, .ref 3), (2, .ref 187)] (by decide) rfl (Nat.le_of_ble_eq_true rfl) rfl ?_
  refine x_aload_n dX3_init_0 rfl ?_
  refine x_objInit ml_X3_3 oi_i oi_c dX3_init_1 (Nat.le_of_ble_eq_true rfl) (Nat.le_of_ble_eq_true rfl) ?_
  refine x_aload_n dX3_init_4 rfl ?_
  refine x_bipush (v := 20) dX3_init_5 (by decide) ?_
  refine x_newi (N := 20) ac_int (by decide) (by decide) (by decide) (by decide) (by decide) dX3_init_7 ?_
  refine x_nwA (a := 191) hn2 ?_
  refine x_putF [.null, .null, .ref 191] lf_X3_9 rfl dX3_init_9 ((xnwA_ne (by decide)).trans hc) (Nat.le_of_ble_eq_true rfl) rfl rfl rfl ?_
  refine x_aload_n dX3_init_12 rfl ?_
  refine x_aload_n dX3_init_13 rfl ?_
  refine x_putF [.ref 3, .null, .ref 191] lf_X3_15 rfl dX3_init_14 (xup_self _ _ _) (Nat.le_of_ble_eq_true rfl) rfl rfl rfl ?_
  refine x_aload_n dX3_init_17 rfl ?_
  refine x_aload_n dX3_init_18 rfl ?_
  refine x_putF [.ref 3, .ref 187, .ref 191] lf_X3_19 rfl dX3_init_19 (xup_self _ _ _) (Nat.le_of_ble_eq_true rfl) rfl rfl rfl ?_
  exact x_vret dX3_init_22 rfl (by decide) (by decide) ⟨rfl, rfl⟩
set_option maxRecDepth 100000 in
set_option maxHeartbeats 4000000 in
theorem k_X5_init_192 {G : xG} {h : xHp} {b : Bool} (hc : h.1 192 = some (.inr (5, [.int 0, .null, .null, .null, .int 0]))) (hn2 : h.2 = 193) : MX G mX5_init 1 3 1110 [.ref 192, .int (bi b)] h (xVoid (xup (xup (xnwA (xup (xnwA (xup (xnwA h 193 (.inl (0, 100, .inl (fun _ => 0)))) 192 (.inr (5, [.int 0, .ref 193, .null, .null, .int 0]))) 194 (.inl (0, 1000, .inl (fun _ => 0)))) 192 (.inr (5, [.int 0, .ref 193, .ref 194, .null, .int 0]))) 195 (.inl (0, 10, .inl (fun _ => 0)))) 192 (.inr (5, [.int 0, .ref 193, .ref 194, .ref 195, .int 0]))) 192 (.inr (5, [.int (bi b), .ref 193, .ref 194, .ref 195, .int 0])))) := by
  refine MX.of [(0, .ref 192), (1, .int (bi b))] (by decide) rfl (Nat.le_of_ble_eq_true rfl) rfl ?_
  refine x_aload_n dX5_init_0 rfl ?_
  refine x_objInit ml_X5_5 oi_i oi_c dX5_init_1 (Nat.le_of_ble_eq_true rfl) (Nat.le_of_ble_eq_true rfl) ?_
  refine x_aload_n dX5_init_4 rfl ?_
  refine x_bipush (v := 100) dX5_init_5 (by decide) ?_
  refine x_newi (N := 100) ac_int (by decide) (by decide) (by decide) (by decide) (by decide) dX5_init_7 ?_
  refine x_nwA (a := 193) hn2 ?_
  refine x_putF [.int 0, .ref 193, .null, .null, .int 0] lf_X5_11 rfl dX5_init_9 ((xnwA_ne (by decide)).trans hc) (Nat.le_of_ble_eq_true rfl) rfl rfl rfl ?_
  refine x_aload_n dX5_init_12 rfl ?_
  refine x_sipush (v := 1000) dX5_init_13 (by decide) ?_
  refine x_newi (N := 1000) ac_int (by decide) (by decide) (by decide) (by decide) (by decide) dX5_init_16 ?_
  refine x_nwA (a := 194) rfl ?_
  refine x_putF [.int 0, .ref 193, .ref 194, .null, .int 0] lf_X5_17 rfl dX5_init_18 ((xnwA_ne (by decide)).trans (xup_self _ _ _)) (Nat.le_of_ble_eq_true rfl) rfl rfl rfl ?_
  refine x_aload_n dX5_init_21 rfl ?_
  refine x_bipush (v := 10) dX5_init_22 (by decide) ?_
  refine x_newi (N := 10) ac_int (by decide) (by decide) (by decide) (by decide) (by decide) dX5_init_24 ?_
  refine x_nwA (a := 195) rfl ?_
  refine x_putF [.int 0, .ref 193, .ref 194, .ref 195, .int 0] lf_X5_20 rfl dX5_init_26 ((xnwA_ne (by decide)).trans (xup_self _ _ _)) (Nat.le_of_ble_eq_true rfl) rfl rfl rfl ?_
  refine x_aload_n dX5_init_29 rfl ?_
  refine x_iload_n dX5_init_30 rfl ?_
  refine x_putF [.int (bi b), .ref 193, .ref 194, .ref 195, .int 0] lf_X5_23 rfl dX5_init_31 (xup_self _ _ _) (Nat.le_of_ble_eq_true rfl) (bi_nar b) (bi_fit b) rfl ?_
  exact x_vret dX5_init_34 rfl (by decide) (by decide) ⟨rfl, rfl⟩
set_option maxRecDepth 100000 in
set_option maxHeartbeats 4000000 in
theorem k_X5_init_196 {G : xG} {h : xHp} {b : Bool} (hc : h.1 196 = some (.inr (5, [.int 0, .null, .null, .null, .int 0]))) (hn2 : h.2 = 197) : MX G mX5_init 1 3 1110 [.ref 196, .int (bi b)] h (xVoid (xup (xup (xnwA (xup (xnwA (xup (xnwA h 197 (.inl (0, 100, .inl (fun _ => 0)))) 196 (.inr (5, [.int 0, .ref 197, .null, .null, .int 0]))) 198 (.inl (0, 1000, .inl (fun _ => 0)))) 196 (.inr (5, [.int 0, .ref 197, .ref 198, .null, .int 0]))) 199 (.inl (0, 10, .inl (fun _ => 0)))) 196 (.inr (5, [.int 0, .ref 197, .ref 198, .ref 199, .int 0]))) 196 (.inr (5, [.int (bi b), .ref 197, .ref 198, .ref 199, .int 0])))) := by
  refine MX.of [(0, .ref 196), (1, .int (bi b))] (by decide) rfl (Nat.le_of_ble_eq_true rfl) rfl ?_
  refine x_aload_n dX5_init_0 rfl ?_
  refine x_objInit ml_X5_5 oi_i oi_c dX5_init_1 (Nat.le_of_ble_eq_true rfl) (Nat.le_of_ble_eq_true rfl) ?_
  refine x_aload_n dX5_init_4 rfl ?_
  refine x_bipush (v := 100) dX5_init_5 (by decide) ?_
  refine x_newi (N := 100) ac_int (by decide) (by decide) (by decide) (by decide) (by decide) dX5_init_7 ?_
  refine x_nwA (a := 197) hn2 ?_
  refine x_putF [.int 0, .ref 197, .null, .null, .int 0] lf_X5_11 rfl dX5_init_9 ((xnwA_ne (by decide)).trans hc) (Nat.le_of_ble_eq_true rfl) rfl rfl rfl ?_
  refine x_aload_n dX5_init_12 rfl ?_
  refine x_sipush (v := 1000) dX5_init_13 (by decide) ?_
  refine x_newi (N := 1000) ac_int (by decide) (by decide) (by decide) (by decide) (by decide) dX5_init_16 ?_
  refine x_nwA (a := 198) rfl ?_
  refine x_putF [.int 0, .ref 197, .ref 198, .null, .int 0] lf_X5_17 rfl dX5_init_18 ((xnwA_ne (by decide)).trans (xup_self _ _ _)) (Nat.le_of_ble_eq_true rfl) rfl rfl rfl ?_
  refine x_aload_n dX5_init_21 rfl ?_
  refine x_bipush (v := 10) dX5_init_22 (by decide) ?_
  refine x_newi (N := 10) ac_int (by decide) (by decide) (by decide) (by decide) (by decide) dX5_init_24 ?_
  refine x_nwA (a := 199) rfl ?_
  refine x_putF [.int 0, .ref 197, .ref 198, .ref 199, .int 0] lf_X5_20 rfl dX5_init_26 ((xnwA_ne (by decide)).trans (xup_self _ _ _)) (Nat.le_of_ble_eq_true rfl) rfl rfl rfl ?_
  refine x_aload_n dX5_init_29 rfl ?_
  refine x_iload_n dX5_init_30 rfl ?_
  refine x_putF [.int (bi b), .ref 197, .ref 198, .ref 199, .int 0] lf_X5_23 rfl dX5_init_31 (xup_self _ _ _) (Nat.le_of_ble_eq_true rfl) (bi_nar b) (bi_fit b) rfl ?_
  exact x_vret dX5_init_34 rfl (by decide) (by decide) ⟨rfl, rfl⟩
set_option maxRecDepth 100000 in
set_option maxHeartbeats 4000000 in
theorem k_X1_init {G : xG} {h : xHp} (hc : h.1 200 = some (.inr (1, [.null, .null, .null, .int 0, .int 0, .null, .int 0, .null, .null, .int 0]))) (hn2 : h.2 = 201) : MX G mX1_init 1 3 18 [.ref 200, .ref 3, .ref 190, .ref 196] h (xVoid (xup (xup (xup (xup (xnwA (xup (xnwA (xup (xnwA h 201 (.inl (0, 12, .inl (fun _ => 0)))) 200 (.inr (1, [.null, .null, .null, .int 0, .int 0, .ref 201, .int 0, .null, .null, .int 0]))) 202 (.inl (0, 3, .inl (fun _ => 0)))) 200 (.inr (1, [.null, .null, .null, .int 0, .int 0, .ref 201, .int 0, .ref 202, .null, .int 0]))) 203 (.inl (0, 3, .inl (fun _ => 0)))) 200 (.inr (1, [.null, .null, .null, .int 0, .int 0, .ref 201, .int 0, .ref 202, .ref 203, .int 0]))) 200 (.inr (1, [.ref 3, .null, .null, .int 0, .int 0, .ref 201, .int 0, .ref 202, .ref 203, .int 0]))) 200 (.inr (1, [.ref 3, .ref 190, .null, .int 0, .int 0, .ref 201, .int 0, .ref 202, .ref 203, .int 0]))) 200 (.inr (1, [.ref 3, .ref 190, .ref 196, .int 0, .int 0, .ref 201, .int 0, .ref 202, .ref 203, .int 0])))) := by
  refine MX.of [(0, .ref 200), (1, .ref 3), (2, .ref 190), (3, .ref 196)] (by decide) rfl (Nat.le_of_ble_eq_true rfl) rfl ?_
  refine x_aload_n dX1_init_0 rfl ?_
  refine x_objInit ml_X1_3 oi_i oi_c dX1_init_1 (Nat.le_of_ble_eq_true rfl) (Nat.le_of_ble_eq_true rfl) ?_
  refine x_aload_n dX1_init_4 rfl ?_
  refine x_bipush (v := 12) dX1_init_5 (by decide) ?_
  refine x_newi (N := 12) ac_int (by decide) (by decide) (by decide) (by decide) (by decide) dX1_init_7 ?_
  refine x_nwA (a := 201) hn2 ?_
  refine x_putF [.null, .null, .null, .int 0, .int 0, .ref 201, .int 0, .null, .null, .int 0] lf_X1_9 rfl dX1_init_9 ((xnwA_ne (by decide)).trans hc) (Nat.le_of_ble_eq_true rfl) rfl rfl rfl ?_
  refine x_aload_n dX1_init_12 rfl ?_
  refine x_iconst (v := 3) dX1_init_13 (by decide) ?_
  refine x_newi (N := 3) ac_int (by decide) (by decide) (by decide) (by decide) (by decide) dX1_init_14 ?_
  refine x_nwA (a := 202) rfl ?_
  refine x_putF [.null, .null, .null, .int 0, .int 0, .ref 201, .int 0, .ref 202, .null, .int 0] lf_X1_15 rfl dX1_init_16 ((xnwA_ne (by decide)).trans (xup_self _ _ _)) (Nat.le_of_ble_eq_true rfl) rfl rfl rfl ?_
  refine x_aload_n dX1_init_19 rfl ?_
  refine x_iconst (v := 3) dX1_init_20 (by decide) ?_
  refine x_newi (N := 3) ac_int (by decide) (by decide) (by decide) (by decide) (by decide) dX1_init_21 ?_
  refine x_nwA (a := 203) rfl ?_
  refine x_putF [.null, .null, .null, .int 0, .int 0, .ref 201, .int 0, .ref 202, .ref 203, .int 0] lf_X1_18 rfl dX1_init_23 ((xnwA_ne (by decide)).trans (xup_self _ _ _)) (Nat.le_of_ble_eq_true rfl) rfl rfl rfl ?_
  refine x_aload_n dX1_init_26 rfl ?_
  refine x_aload_n dX1_init_27 rfl ?_
  refine x_putF [.ref 3, .null, .null, .int 0, .int 0, .ref 201, .int 0, .ref 202, .ref 203, .int 0] lf_X1_21 rfl dX1_init_28 (xup_self _ _ _) (Nat.le_of_ble_eq_true rfl) rfl rfl rfl ?_
  refine x_aload_n dX1_init_31 rfl ?_
  refine x_aload_n dX1_init_32 rfl ?_
  refine x_putF [.ref 3, .ref 190, .null, .int 0, .int 0, .ref 201, .int 0, .ref 202, .ref 203, .int 0] lf_X1_25 rfl dX1_init_33 (xup_self _ _ _) (Nat.le_of_ble_eq_true rfl) rfl rfl rfl ?_
  refine x_aload_n dX1_init_36 rfl ?_
  refine x_aload_n dX1_init_37 rfl ?_
  refine x_putF [.ref 3, .ref 190, .ref 196, .int 0, .int 0, .ref 201, .int 0, .ref 202, .ref 203, .int 0] lf_X1_29 rfl dX1_init_38 (xup_self _ _ _) (Nat.le_of_ble_eq_true rfl) rfl rfl rfl ?_
  exact x_vret dX1_init_41 rfl (by decide) (by decide) ⟨rfl, rfl⟩
