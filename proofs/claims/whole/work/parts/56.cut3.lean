/-! Cutter: aimAt, keepPicks, seek -/
def ctE (h : xHp) (gl kb : Int32) (N : Nat) (ca pk : Nat → Int32) (cn : Nat) (ct : Nat → Int32) : Prop := h.1 200 = some (.inr (1, [.ref 3, .ref 190, .ref 196, .int gl, .int kb, .ref 201, .int (nI N), .ref 202, .ref 203, .int (nI cn)])) ∧ h.1 201 = some (.inl (0, 12, .inl ca)) ∧ h.1 202 = some (.inl (0, 3, .inl pk)) ∧ h.1 203 = some (.inl (0, 3, .inl ct))
theorem ctE.H {h : xHp} {gl kb : Int32} {N : Nat} {ca pk : Nat → Int32} {cn : Nat} {ct : Nat → Int32} (e : ctE h gl kb N ca pk cn ct) : ctH h cn ct := ⟨gl, kb, N, ca, pk, e⟩
theorem ctE.kp {h h' : xHp} {L : List Nat} {gl kb : Int32} {N : Nat} {ca pk : Nat → Int32} {cn : Nat} {ct : Nat → Int32} (e : ctE h gl kb N ca pk cn ct) (hf : xfr h h' L) (hL : ∀ q ∈ L, q < 200 ∨ 204 ≤ q) : ctE h' gl kb N ca pk cn ct := by
  have hno : ∀ q, 200 ≤ q → q < 204 → q ∉ L := fun q a b z => by have := hL q z; omega
  exact ⟨hf.at e.1 (hno _ (by omega) (by omega)), hf.at e.2.1 (hno _ (by omega) (by omega)), hf.at e.2.2.1 (hno _ (by omega) (by omega)), hf.at e.2.2.2 (hno _ (by omega) (by omega))⟩
def candB (S : Nat → Bool) (m9 a N : Nat) (cd : Nat → Nat) : Prop := (∀ j, j < N → cd j < a ∧ S (cd j) = true ∧ m9.testBit (cd j / 100) = true) ∧ (∀ i j, i < j → j < N → cd i < cd j) ∧ (∀ n, n < a → S n = true → m9.testBit (n / 100) = true → ∃ j, j < N ∧ cd j = n) ∧ N ≤ fb_ct S a
theorem candB_no {S : Nat → Bool} {m9 a N : Nat} {cd : Nat → Nat} (h : candB S m9 a N cd) (hn : ¬ (S a = true ∧ m9.testBit (a / 100) = true)) : candB S m9 (a + 1) N cd := by
  obtain ⟨h1, h2, h3, h4⟩ := h
  refine ⟨fun j hj => ⟨by have := (h1 j hj).1; omega, (h1 j hj).2⟩, h2, fun n hn9 a1 a2 => ?_, Nat.le_trans h4 (fb_ct_mono S (by omega))⟩
  rcases Nat.lt_or_ge n a with z | z
  · exact h3 n z a1 a2
  · exact absurd ⟨by rw [show a = n by omega]; exact a1, by rw [show a = n by omega]; exact a2⟩ hn
theorem candB_yes {S : Nat → Bool} {m9 a N : Nat} {cd : Nat → Nat} (h : candB S m9 a N cd) (h5 : S a = true) (h6 : m9.testBit (a / 100) = true) : candB S m9 (a + 1) (N + 1) (fun j => if j = N then a else cd j) := by
  obtain ⟨h1, h2, h3, h4⟩ := h
  refine ⟨fun j hj => ?_, fun i j x y => ?_, fun n hn9 a1 a2 => ?_, ?_⟩
  · by_cases z : j = N
    · simp only [if_pos z]; exact ⟨by omega, h5, h6⟩
    · simp only [if_neg z]; have := h1 j (by omega); exact ⟨by omega, this.2⟩
  · by_cases z : j = N
    · simp only [if_pos z, if_neg (show i ≠ N by omega)]; exact (h1 i (by omega)).1
    · simp only [if_neg z, if_neg (show i ≠ N by omega)]; exact h2 i j x (by omega)
  · rcases Nat.lt_or_ge n a with z | z
    · obtain ⟨j, b1, b2⟩ := h3 n z a1 a2
      exact ⟨j, by omega, by simp only [if_neg (show j ≠ N by omega)]; exact b2⟩
    · exact ⟨N, by omega, by simp only [if_pos]; omega⟩
  · rw [fb_ct_succ, if_pos h5]; omega
theorem candB_end {S : Nat → Bool} {m9 a N : Nat} {cd : Nat → Nat} (h : candB S m9 a N cd) (hc : fb_ct S 1000 ≤ 12) (ha : a ≤ 1000) (he : 1000 ≤ a ∨ 12 ≤ N) : candOk S m9 N cd := by
  obtain ⟨h1, h2, h3, h4⟩ := h
  refine ⟨fun j hj => ⟨by have := (h1 j hj).1; omega, (h1 j hj).2⟩, h2, fun n hn9 a1 a2 => ?_⟩
  rcases Nat.lt_or_ge n a with z | z
  · exact h3 n z a1 a2
  · exfalso
    rcases he with q | q
    · omega
    · have h5 : fb_ct S (n + 1) = fb_ct S n + 1 := by rw [fb_ct_succ, if_pos a1]
      have h6 := fb_ct_mono S (show n + 1 ≤ 1000 by omega)
      have h7 := fb_ct_mono S z
      omega
theorem upd_cd {ca : Nat → Int32} {cd : Nat → Nat} {N a : Nat} (h : ∀ j, j < N → ca j = nI (cd j)) : ∀ j, j < N + 1 → upd ca N (nI a) j = nI (if j = N then a else cd j) := by
  intro j hj
  unfold upd
  by_cases z : j = N
  · rw [if_pos z, if_pos z]
  · rw [if_neg z, if_neg z]; exact h j (by omega)
set_option maxRecDepth 100000 in
set_option maxHeartbeats 4000000 in
theorem l_X1_aimAt {G : xG} {h : xHp} {rc : Nat} {fc : Int32} {nt nk : Nat} {lf : Nat → Int32} {ra : Nat → Nat} {V : Nat → RV} {kw tw : Nat → Int64} {pf fr : Nat → Int32} (b : bkF h rc fc nt nk lf ra V kw tw pf fr) {gl kb : Int32} {N0 : Nat} {ca0 pk : Nat → Int32} {cn : Nat} {ct : Nat → Int32} (e : ctE h gl kb N0 ca0 pk cn ct) {S : Nat → Bool} (hS : isRows fr S) (hct : fb_ct S 1000 ≤ 12) {n9 : Nat} {m9 : Nat} (hm : m9 < 1024) (hk : m9.testBit (n9 / 100) = true) (hcl : clK V rc m9) : ∀ (k a N : Nat) (cd : Nat → Nat) (ca : Nat → Int32), a ≤ 1000 → 1001 ≤ a + k → N ≤ 12 → candB S m9 a N cd → (∀ j, j < N → ca j = nI (cd j)) → Wx G mX1_aimAt (xRm 3 0 0) (xF G (fun o h' => o = .inl none ∧ xfr h h' [200, 201] ∧ ∃ (m9 N : Nat) (cd : Nat → Nat) (ca : Nat → Int32), ctE h' (nI n9) (nI m9) N ca pk cn ct ∧ m9 < 1024 ∧ m9.testBit (n9 / 100) = true ∧ clK V rc m9 ∧ N ≤ 12 ∧ candOk S m9 N cd ∧ ∀ j, j < N → ca j = nI (cd j)) 0 0) 0 0 27 [(0, .ref 200), (1, .int (nI n9)), (2, .int (nI a))] [] (xup (xup h 200 (.inr (1, [.ref 3, .ref 190, .ref 196, .int (nI n9), .int (nI m9), .ref 201, .int (nI N), .ref 202, .ref 203, .int (nI cn)]))) 201 (.inl (0, 12, .inl ca))) := by
  intro k
  induction k with
  | zero => exact fun a N cd ca q1 h2 => absurd h2 (by omega)
  | succ k ih =>
    intro a N cd ca q1 h2 hN hcd hca
    refine x_iload_n dX1_aimAt_27 rfl ?_
    refine x_sipush (v := 1000) dX1_aimAt_28 (by decide) ?_
    refine x_icmp_ge 94 dX1_aimAt_31 (by decide) (fun c_31 => ?_) (fun c_31 => ?_)
    · rw [show (1000 : Int32) = nI 1000 from rfl, nI_leI (by omega) (by omega)] at c_31
      have hf : xfr h (xup (xup h 200 (.inr (1, [.ref 3, .ref 190, .ref 196, .int (nI n9), .int (nI m9), .ref 201, .int (nI N), .ref 202, .ref 203, .int (nI cn)]))) 201 (.inl (0, 12, .inl ca))) [200, 201] := (((xfr_rf _ _).up (by simp)).up (by simp))
      exact x_vret dX1_aimAt_94 rfl (Nat.le_refl _) (Nat.le_refl _) ⟨rfl, hf, m9, N, cd, ca, ⟨((xup_ne (by decide)).trans (xup_self _ _ _)), (xup_self _ _ _), (hf.at e.2.2.1 (by decide)), (hf.at e.2.2.2 (by decide))⟩, hm, hk, hcl, hN, candB_end hcd hct q1 (by omega), hca⟩
    · rw [show (1000 : Int32) = nI 1000 from rfl, nI_leI (by omega) (by omega)] at c_31
      refine x_aload_n dX1_aimAt_34 rfl ?_
      refine x_get lf_X1_46 dX1_aimAt_35 ((xup_ne (by decide)).trans (xup_self _ _ _)) rfl ?_
      refine x_bipush (v := 12) dX1_aimAt_38 (by decide) ?_
      refine x_icmp_ge 94 dX1_aimAt_40 (by decide) (fun c_40 => ?_) (fun c_40 => ?_)
      · rw [show (12 : Int32) = nI 12 from rfl, nI_leI (by omega) (by omega)] at c_40
        have hf : xfr h (xup (xup h 200 (.inr (1, [.ref 3, .ref 190, .ref 196, .int (nI n9), .int (nI m9), .ref 201, .int (nI N), .ref 202, .ref 203, .int (nI cn)]))) 201 (.inl (0, 12, .inl ca))) [200, 201] := (((xfr_rf _ _).up (by simp)).up (by simp))
        exact x_vret dX1_aimAt_94 rfl (Nat.le_refl _) (Nat.le_refl _) ⟨rfl, hf, m9, N, cd, ca, ⟨((xup_ne (by decide)).trans (xup_self _ _ _)), (xup_self _ _ _), (hf.at e.2.2.1 (by decide)), (hf.at e.2.2.2 (by decide))⟩, hm, hk, hcl, hN, candB_end hcd hct q1 (by omega), hca⟩
      · rw [show (12 : Int32) = nI 12 from rfl, nI_leI (by omega) (by omega)] at c_40
        refine x_aload_n dX1_aimAt_43 rfl ?_
        refine x_get lf_X1_21 dX1_aimAt_44 ((xup_ne (by decide)).trans (xup_self _ _ _)) rfl ?_
        refine x_iload_n dX1_aimAt_47 rfl ?_
        refine x_callV (As := [.int (nI a)]) (st := []) lv_X1_49 (k_X0_isFact (n := a) ((xup_ne (by decide)).trans ((xup_ne (by decide)).trans b.1.1)) ((xup_ne (by decide)).trans ((xup_ne (by decide)).trans b.2.2.2.2.1)) hS (by omega)) dX1_aimAt_48 ((xup_ne (by decide)).trans ((xup_ne (by decide)).trans b.1.1)) rfl rfl (Nat.le_of_ble_eq_true rfl) ⟨by decide, by decide⟩ ⟨by decide, by decide⟩ (fun v hq9 q => ?_) (fun _ _ _ _ _ q => by cases q.1)
        obtain ⟨ev, eh⟩ := q
        rw [eh]
        cases ev
        refine x_if_eq 88 dX1_aimAt_51 (by decide) (fun c_51 => ?_) (fun c_51 => ?_)
        · have c_51 := bi_f c_51
          refine x_iinc (v := nI (a + 1)) [(0, .ref 200), (1, .int (nI n9)), (2, .int (nI (a + 1)))] dX1_aimAt_88 rfl (nI_add a 1) (by decide) rfl rfl ?_
          refine x_goto 27 dX1_aimAt_91 (by decide) ?_
          exact x_ls _ [0, 1, 2] rfl (ih (a + 1) N cd ca (by omega) (by omega) hN (candB_no hcd (fun q => by first | exact absurd q.2 (by rw [c_65]; decide) | exact absurd q.1 (by rw [c_51]; decide))) hca)
        · have c_51 := bi_t c_51
          refine x_aload_n dX1_aimAt_54 rfl ?_
          refine x_get lf_X1_43 dX1_aimAt_55 ((xup_ne (by decide)).trans (xup_self _ _ _)) rfl ?_
          refine x_iload_n dX1_aimAt_58 rfl ?_
          refine x_bipush (v := 100) dX1_aimAt_59 (by decide) ?_
          refine x_idiv dX1_aimAt_61 (by decide) ?_
          refine x_top (y := nI (a / 100)) (pk_div (a := a) (d := 100) (by omega) (by omega) (by omega)) ?_
          refine x_ishr dX1_aimAt_62 ?_
          refine x_iconst (v := 1) dX1_aimAt_63 (by decide) ?_
          refine x_iand dX1_aimAt_64 ?_
          refine x_top (y := bi (m9.testBit (a / 100))) (b10_get m9 hm _ (by omega)) ?_
          refine x_if_eq 88 dX1_aimAt_65 (by decide) (fun c_65 => ?_) (fun c_65 => ?_)
          · have c_65 := bi_f c_65
            refine x_iinc (v := nI (a + 1)) [(0, .ref 200), (1, .int (nI n9)), (2, .int (nI (a + 1)))] dX1_aimAt_88 rfl (nI_add a 1) (by decide) rfl rfl ?_
            refine x_goto 27 dX1_aimAt_91 (by decide) ?_
            exact x_ls _ [0, 1, 2] rfl (ih (a + 1) N cd ca (by omega) (by omega) hN (candB_no hcd (fun q => by first | exact absurd q.2 (by rw [c_65]; decide) | exact absurd q.1 (by rw [c_51]; decide))) hca)
          · have c_65 := bi_t c_65
            refine x_aload_n dX1_aimAt_68 rfl ?_
            refine x_get lf_X1_9 dX1_aimAt_69 ((xup_ne (by decide)).trans (xup_self _ _ _)) rfl ?_
            refine x_aload_n dX1_aimAt_72 rfl ?_
            refine x_get lf_X1_46 dX1_aimAt_73 ((xup_ne (by decide)).trans (xup_self _ _ _)) rfl ?_
            refine x_iload_n dX1_aimAt_76 rfl ?_
            refine x_iastN (j := N) (xup_self _ _ _) rfl (by omega) (by decide) dX1_aimAt_77 ?_
            refine x_aload_n dX1_aimAt_78 rfl ?_
            refine x_dup dX1_aimAt_79 rfl ?_
            refine x_get lf_X1_46 dX1_aimAt_80 ((xup_ne (by decide)).trans ((xup_ne (by decide)).trans (xup_self _ _ _))) rfl ?_
            refine x_iconst (v := 1) dX1_aimAt_83 (by decide) ?_
            refine x_iadd dX1_aimAt_84 ?_
            refine x_top (y := nI (N + 1)) (nI_add N 1) ?_
            refine x_put [.ref 3, .ref 190, .ref 196, .int (nI n9), .int (nI m9), .ref 201, .int (nI (N + 1)), .ref 202, .ref 203, .int (nI cn)] lf_X1_46 dX1_aimAt_85 ((xup_ne (by decide)).trans ((xup_ne (by decide)).trans (xup_self _ _ _))) (Nat.le_of_ble_eq_true rfl) rfl rfl rfl ?_
            refine x_iinc (v := nI (a + 1)) [(0, .ref 200), (1, .int (nI n9)), (2, .int (nI (a + 1)))] dX1_aimAt_88 rfl (nI_add a 1) (by decide) rfl rfl ?_
            refine x_goto 27 dX1_aimAt_91 (by decide) ?_
            have hN9 : N < 12 := by omega
            refine x_heap (h' := xup (xup h 200 (.inr (1, [.ref 3, .ref 190, .ref 196, .int (nI n9), .int (nI m9), .ref 201, .int (nI (N + 1)), .ref 202, .ref 203, .int (nI cn)]))) 201 (.inl (0, 12, .inl (upd ca N (nI a))))) (by rw [xup_up, xup_sw (a := 201) (b := 200) (by decide), xup_up]) ?_
            exact x_ls _ [0, 1, 2] rfl (ih (a + 1) (N + 1) (fun j => if j = N then a else cd j) (upd ca N (nI a)) (by omega) (by omega) (by omega) (candB_yes hcd c_51 c_65) (upd_cd hca))
set_option maxRecDepth 100000 in
set_option maxHeartbeats 4000000 in
theorem k_X1_aimAt {G : xG} {h : xHp} {rc : Nat} {fc : Int32} {nt nk : Nat} {lf : Nat → Int32} {ra : Nat → Nat} {V : Nat → RV} {kw tw : Nat → Int64} {pf fr : Nat → Int32} (b : bkF h rc fc nt nk lf ra V kw tw pf fr) {gl kb : Int32} {N0 : Nat} {ca0 pk : Nat → Int32} {cn : Nat} {ct : Nat → Int32} (e : ctE h gl kb N0 ca0 pk cn ct) {S : Nat → Bool} (hS : isRows fr S) (hct : fb_ct S 1000 ≤ 12) {n9 : Nat} (hn9 : n9 < 1000) (hrc : rc ≤ 20) (hV : ∀ r, r < rc → okRl nt (V r)) : MX G mX1_aimAt 3 0 0 [.ref 200, .int (nI n9)] h (fun o h' => o = .inl none ∧ xfr h h' [200, 201] ∧ ∃ (m9 N : Nat) (cd : Nat → Nat) (ca : Nat → Int32), ctE h' (nI n9) (nI m9) N ca pk cn ct ∧ m9 < 1024 ∧ m9.testBit (n9 / 100) = true ∧ clK V rc m9 ∧ N ≤ 12 ∧ candOk S m9 N cd ∧ ∀ j, j < N → ca j = nI (cd j)) := by
  refine MX.of [(0, .ref 200), (1, .int (nI n9))] (by decide) rfl (Nat.le_of_ble_eq_true rfl) rfl ?_
  refine x_aload_n dX1_aimAt_0 rfl ?_
  refine x_iload_n dX1_aimAt_1 rfl ?_
  refine x_put [.ref 3, .ref 190, .ref 196, .int (nI n9), .int kb, .ref 201, .int (nI N0), .ref 202, .ref 203, .int (nI cn)] lf_X1_33 dX1_aimAt_2 e.1 (Nat.le_of_ble_eq_true rfl) rfl rfl rfl ?_
  refine x_aload_n dX1_aimAt_5 rfl ?_
  refine x_aload_n dX1_aimAt_6 rfl ?_
  refine x_get lf_X1_21 dX1_aimAt_7 (xup_self _ _ _) rfl ?_
  refine x_iload_n dX1_aimAt_10 rfl ?_
  refine x_bipush (v := 100) dX1_aimAt_11 (by decide) ?_
  refine x_idiv dX1_aimAt_13 (by decide) ?_
  refine x_top (y := nI (n9 / 100)) (pk_div (a := n9) (d := 100) (by omega) (by omega) (by omega)) ?_
  have hb2 : bkF (xup h 200 (.inr (1, [.ref 3, .ref 190, .ref 196, .int (nI n9), .int kb, .ref 201, .int (nI N0), .ref 202, .ref 203, .int (nI cn)]))) rc fc nt nk lf ra V kw tw pf fr := b.kp (L := [200]) ((xfr_rf _ _).up (by decide)) (by decide)
  refine x_callV (As := [.int (nI (n9 / 100))]) (st := [.ref 200]) lv_X1_37 (k_X0_kindsBehind hb2 (by omega) hrc hV) dX1_aimAt_14 hb2.1.1 rfl rfl (Nat.le_of_ble_eq_true rfl) ⟨by decide, by decide⟩ ⟨by decide, by decide⟩ (fun v9 h9 q => ?_) (fun _ _ _ _ _ q => by obtain ⟨_, q, _⟩ := q; cases q)
  obtain ⟨m9, ev, eh, hm, hk, hcl⟩ := q
  rw [eh]
  cases ev
  refine x_put [.ref 3, .ref 190, .ref 196, .int (nI n9), .int (nI m9), .ref 201, .int (nI N0), .ref 202, .ref 203, .int (nI cn)] lf_X1_43 dX1_aimAt_17 (xup_self _ _ _) (Nat.le_of_ble_eq_true rfl) rfl rfl rfl ?_
  refine x_aload_n dX1_aimAt_20 rfl ?_
  refine x_iconst (v := 0) dX1_aimAt_21 (by decide) ?_
  refine x_put [.ref 3, .ref 190, .ref 196, .int (nI n9), .int (nI m9), .ref 201, .int 0, .ref 202, .ref 203, .int (nI cn)] lf_X1_46 dX1_aimAt_22 (xup_self _ _ _) (Nat.le_of_ble_eq_true rfl) rfl rfl rfl ?_
  refine x_iconst (v := 0) dX1_aimAt_25 (by decide) ?_
  refine x_istore_n [(0, .ref 200), (1, .int (nI n9)), (2, .int 0)] dX1_aimAt_26 (by decide) rfl rfl ?_
  refine x_heap (h' := xup (xup h 200 (.inr (1, [.ref 3, .ref 190, .ref 196, .int (nI n9), .int (nI m9), .ref 201, .int (nI 0), .ref 202, .ref 203, .int (nI cn)]))) 201 (.inl (0, 12, .inl ca0))) (by rw [xup_up, xup_up]; exact (xup_id ((xup_ne (by decide)).trans e.2.1)).symm) ?_
  exact l_X1_aimAt b e hS hct hm hk hcl 1001 0 0 (fun _ => 0) ca0 (by omega) (by omega) (by omega) ⟨fun j hj => absurd hj (by omega), fun i j x y => absurd y (by omega), fun n hn => absurd hn (by omega), Nat.zero_le _⟩ (fun j hj => absurd hj (by omega))
def ctF (D : Nat → Nat) (i : Nat) (ct : Nat → Int32) : Nat → Int32 := fun j => if j < i then nI (D j) else ct j
theorem ctF_s (D : Nat → Nat) (i : Nat) (ct : Nat → Int32) : upd (ctF D i ct) i (nI (D i)) = ctF D (i + 1) ct := by
  funext j
  unfold upd ctF
  by_cases e : j = i
  · rw [if_pos e, if_pos (by omega), e]
  · rw [if_neg e]
    by_cases e2 : j < i
    · rw [if_pos e2, if_pos (show j < i + 1 by omega)]
    · rw [if_neg e2, if_neg (show ¬ j < i + 1 by omega)]
set_option maxRecDepth 100000 in
set_option maxHeartbeats 4000000 in
theorem l_X1_keepPicks {G : xG} {h : xHp} {gl kb : Int32} {N : Nat} {ca pk : Nat → Int32} {cn : Nat} {ct : Nat → Int32} (e : ctE h gl kb N ca pk cn ct) {m : Nat} {P cd : Nat → Nat} (hm3 : m ≤ 3) (hN : N ≤ 12) (hP : vP m N P) (hpk : ∀ i, i < m → pk i = nI (P i)) (hca : ∀ j, j < N → ca j = nI (cd j)) : ∀ (k i : Nat), i ≤ m → m + 1 ≤ i + k → Wx G mX1_keepPicks (xRm 1 0 0) (xF G ((fun o h' => o = .inl none ∧ xfr h h' [200, 203] ∧ ctE h' gl kb N ca pk m (ctF (fun i => cd (P i)) m ct))) 0 0) 0 0 2 [(0, .ref 200), (1, .int (nI m)), (2, .int (nI i))] [] (xup h 203 (.inl (0, 3, .inl (ctF (fun i => cd (P i)) i ct)))) := by
  intro k
  induction k with
  | zero => exact fun i q1 h2 => absurd h2 (by omega)
  | succ k ih =>
    intro i q1 h2
    refine x_iload_n dX1_keepPicks_2 rfl ?_
    refine x_iload_n dX1_keepPicks_3 rfl ?_
    refine x_icmp_ge 30 dX1_keepPicks_4 (by decide) (fun c_4 => ?_) (fun c_4 => ?_)
    · rw [nI_leI (by omega) (by omega)] at c_4
      refine x_aload_n dX1_keepPicks_30 rfl ?_
      refine x_iload_n dX1_keepPicks_31 rfl ?_
      refine x_put [.ref 3, .ref 190, .ref 196, .int gl, .int kb, .ref 201, .int (nI N), .ref 202, .ref 203, .int (nI m)] lf_X1_81 dX1_keepPicks_32 ((xup_ne (by decide)).trans e.1) (Nat.le_of_ble_eq_true rfl) rfl rfl rfl ?_
      have e9 : i = m := by omega
      subst e9
      have hf : xfr h (xup (xup h 203 (.inl (0, 3, .inl (ctF (fun i => cd (P i)) i ct)))) 200 (.inr (1, [.ref 3, .ref 190, .ref 196, .int gl, .int kb, .ref 201, .int (nI N), .ref 202, .ref 203, .int (nI i)]))) [200, 203] := (((xfr_rf _ _).up (by simp)).up (by simp))
      exact x_vret dX1_keepPicks_35 rfl (Nat.le_refl _) (Nat.le_refl _) ⟨rfl, hf, (xup_self _ _ _), hf.at e.2.1 (by decide), hf.at e.2.2.1 (by decide), ((xup_ne (by decide)).trans (xup_self _ _ _))⟩
    · rw [nI_leI (by omega) (by omega)] at c_4
      have hPi := hP.1 i (by omega)
      refine x_aload_n dX1_keepPicks_7 rfl ?_
      refine x_get lf_X1_18 dX1_keepPicks_8 ((xup_ne (by decide)).trans e.1) rfl ?_
      refine x_iload_n dX1_keepPicks_11 rfl ?_
      refine x_aload_n dX1_keepPicks_12 rfl ?_
      refine x_get lf_X1_9 dX1_keepPicks_13 ((xup_ne (by decide)).trans e.1) rfl ?_
      refine x_aload_n dX1_keepPicks_16 rfl ?_
      refine x_get lf_X1_15 dX1_keepPicks_17 ((xup_ne (by decide)).trans e.1) rfl ?_
      refine x_iload_n dX1_keepPicks_20 rfl ?_
      refine x_ialdN (j := i) ((xup_ne (by decide)).trans e.2.2.1) rfl (by omega) (by decide) dX1_keepPicks_21 ?_
      refine x_top (hpk i (by omega)) ?_
      refine x_ialdN (j := P i) ((xup_ne (by decide)).trans e.2.1) rfl (by omega) (by decide) dX1_keepPicks_22 ?_
      refine x_top (hca (P i) (by omega)) ?_
      refine x_iastN (j := i) (xup_self _ _ _) rfl (by omega) (by decide) dX1_keepPicks_23 ?_
      refine x_iinc (v := nI (i + 1)) [(0, .ref 200), (1, .int (nI m)), (2, .int (nI (i + 1)))] dX1_keepPicks_24 rfl (nI_add i 1) (by decide) rfl rfl ?_
      refine x_goto 2 dX1_keepPicks_27 (by decide) ?_
      exact x_heap (by rw [xup_up, ctF_s (fun i => cd (P i)) i ct]) (x_ls _ [0, 1, 2] rfl (ih (i + 1) (by omega) (by omega)))
set_option maxRecDepth 100000 in
set_option maxHeartbeats 4000000 in
theorem k_X1_keepPicks {G : xG} {h : xHp} {gl kb : Int32} {N : Nat} {ca pk : Nat → Int32} {cn : Nat} {ct : Nat → Int32} (e : ctE h gl kb N ca pk cn ct) {m : Nat} {P cd : Nat → Nat} (hm3 : m ≤ 3) (hN : N ≤ 12) (hP : vP m N P) (hpk : ∀ i, i < m → pk i = nI (P i)) (hca : ∀ j, j < N → ca j = nI (cd j)) : MX G mX1_keepPicks 1 0 0 [.ref 200, .int (nI m)] h (fun o h' => o = .inl none ∧ xfr h h' [200, 203] ∧ ctE h' gl kb N ca pk m (ctF (fun i => cd (P i)) m ct)) := by
  refine MX.of [(0, .ref 200), (1, .int (nI m))] (by decide) rfl (Nat.le_of_ble_eq_true rfl) rfl ?_
  refine x_iconst (v := 0) dX1_keepPicks_0 (by decide) ?_
  refine x_istore_n [(0, .ref 200), (1, .int (nI m)), (2, .int 0)] dX1_keepPicks_1 (by decide) rfl rfl ?_
  refine x_heap (h' := xup h 203 (.inl (0, 3, .inl (ctF (fun i => cd (P i)) 0 ct)))) (xup_id e.2.2.2).symm ?_
  exact l_X1_keepPicks e hm3 hN hP hpk hca (m + 1) 0 (by omega) (by omega)
theorem k_X1_nextPicks {G : xG} {h : xHp} {gl kb : Int32} {N m : Nat} {ca pk : Nat → Int32} {cn : Nat} {ct : Nat → Int32} (e : ctE h gl kb N ca pk cn ct) {P : Nat → Nat} (hm1 : 1 ≤ m) (hm3 : m ≤ 3) (hN : N ≤ 12) (hP : vP m N P) (hpk : ∀ i, i < m → pk i = nI (P i)) : MX G mX1_nextPicks 1 0 0 [.ref 200, .int (nI m)] h (fun o h' => ∃ (b : Bool) (P' : Nat → Nat) (pk' : Nat → Int32), o = .inl (some (.int (bi b))) ∧ h' = xup h 202 (.inl (0, 3, .inl pk')) ∧ (b = true → ∀ i, i < m → pk' i = nI (P' i)) ∧ nxQ m N P b P') := by
  rcases (by omega : m = 1 ∨ m = 2 ∨ m = 3) with rfl | rfl | rfl
  · exact k_nextPicks_1 e.1 e.2.2.1 hpk hN hP
  · exact k_nextPicks_2 e.1 e.2.2.1 hpk hN hP
  · exact k_nextPicks_3 e.1 e.2.2.1 hpk hN hP
