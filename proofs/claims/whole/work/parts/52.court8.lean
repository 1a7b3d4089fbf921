/-! a RULE is gone -/
def rmv {α : Type} (k rc : Nat) (f : Nat → α) : Nat → α := fun j => if j < k then f j else if j + 1 < rc then f (j + 1) else if j + 1 = rc then f k else f j
def shf (k i : Nat) (rf : Nat → Option Nat) (ra : Nat → Nat) : Nat → Option Nat := fun j => if k ≤ j ∧ j < i then some (ra (j + 1)) else rf j
theorem shf_0 (k : Nat) (rf : Nat → Option Nat) (ra : Nat → Nat) : shf k k rf ra = rf := by
  funext j; unfold shf; rw [if_neg (by omega)]
theorem shf_at {k i j : Nat} {rf : Nat → Option Nat} {ra : Nat → Nat} (h : i ≤ j) : shf k i rf ra j = rf j := by unfold shf; rw [if_neg (by omega)]
theorem shf_s {k i : Nat} {rf : Nat → Option Nat} {ra : Nat → Nat} (h : k ≤ i) : va_up (shf k i rf ra) i (some (ra (i + 1))) = shf k (i + 1) rf ra := by
  funext j
  unfold va_up shf
  by_cases e : j = i
  · rw [if_pos e, if_pos (by omega), e]
  · rw [if_neg e]
    by_cases e2 : k ≤ j ∧ j < i
    · rw [if_pos e2, if_pos (show k ≤ j ∧ j < i + 1 by omega)]
    · rw [if_neg e2, if_neg (show ¬ (k ≤ j ∧ j < i + 1) by omega)]
theorem rmv_at {k rc : Nat} {rf : Nat → Option Nat} {ra : Nat → Nat} (hk : k < rc) (hrc : rc ≤ 20) (hrf : ∀ j, j < 21 → rf j = some (ra j)) : ∀ j, j < 21 → va_up (shf k (rc - 1) rf ra) (rc - 1) (some (ra k)) j = some (rmv k rc ra j) := by
  intro j hj
  unfold va_up shf rmv
  by_cases e : j = rc - 1
  · rw [if_pos e, if_neg (by omega), if_neg (by omega), if_pos (by omega)]
  · rw [if_neg e]
    by_cases e1 : j < k
    · rw [if_neg (by omega), if_pos e1]; exact hrf j hj
    · rw [if_neg e1]
      by_cases e2 : j + 1 < rc
      · rw [if_pos (show k ≤ j ∧ j < rc - 1 by omega), if_pos e2]
      · rw [if_neg (show ¬ (k ≤ j ∧ j < rc - 1) by omega), if_neg e2, if_neg (by omega)]; exact hrf j hj
theorem rmv_ix {α : Type} {k rc : Nat} (hk : k < rc) (hrc : rc ≤ 20) (f : Nat → α) {j : Nat} (hj : j < 21) : ∃ i, i < 21 ∧ (∀ {β : Type} (g : Nat → β), rmv k rc g j = g i) ∧ (j + 1 < rc → i < rc) := by
  unfold rmv
  by_cases e1 : j < k
  · exact ⟨j, hj, fun g => by rw [if_pos e1], fun _ => by omega⟩
  · by_cases e2 : j + 1 < rc
    · exact ⟨j + 1, by omega, fun g => by rw [if_neg e1, if_pos e2], fun _ => e2⟩
    · by_cases e3 : j + 1 = rc
      · exact ⟨k, by omega, fun g => by rw [if_neg e1, if_neg e2, if_pos e3], fun z => absurd z e2⟩
      · exact ⟨j, hj, fun g => by rw [if_neg e1, if_neg e2, if_neg e3], fun z => absurd z e2⟩
theorem rmv_inj {k rc : Nat} (hk : k < rc) (hrc : rc ≤ 20) {ra : Nat → Nat} (h : ∀ i j, i < 21 → j < 21 → ra i = ra j → i = j) : ∀ i j, i < 21 → j < 21 → rmv k rc ra i = rmv k rc ra j → i = j := by
  intro i j hi hj e
  unfold rmv at e
  repeat' split at e
  all_goals (have := h _ _ (by omega) (by omega) e; omega)
theorem rmv_sat {V : Nat → RV} {k rc : Nat} {L : Nat → Nat} (hk : k < rc) (hrc : rc ≤ 20) (h : Sat V rc L) : Sat (rmv k rc V) (rc - 1) L := by
  intro r hr
  obtain ⟨i, i1, i2, i3⟩ := rmv_ix hk hrc V (j := r) (by omega)
  rw [i2 V]
  exact h i (i3 (by omega))
theorem okRl_okK {nt : Nat} {v : RV} (h : okRl nt v) : okK v := ⟨h.1, h.2.2.1, fun i hi h2 => (h.2.1 i hi).2.1 h2⟩
set_option maxRecDepth 100000 in
set_option maxHeartbeats 4000000 in
theorem l_X0_removeRule {G : xG} {h : xHp} {rc : Nat} {fc : Int32} {nt nk : Nat} {lf : Nat → Int32} {ra : Nat → Nat} {V : Nat → RV} {kw tw : Nat → Int64} {pf fr : Nat → Int32} (b : bkF h rc fc nt nk lf ra V kw tw pf fr) {k9 : Nat} {L : Nat → Nat} (hkc : k9 < rc) (hrc : rc ≤ 20) (hV : ∀ r, r < rc → okRl nt (V r)) (hS : Sat V rc L) {rf : Nat → Option Nat} (hrs1 : h.1 11 = some (.inl (4, 21, .inr (.inr rf)))) (hrf : ∀ j, j < 21 → rf j = some (ra j)) (hrl : ∀ j, j < 21 → rlV h (ra j) (V j)) (hra : ∀ j, j < 21 → okRa (ra j)) : ∀ (k i : Nat), k9 ≤ i → i ≤ rc - 1 → rc ≤ i + k → Wx G mX0_removeRule (xRm 3 0 0) (xF G (fun o h' => o = .inl none ∧ xfr h h' [3, 10, 11] ∧ ∃ (lf' : Nat → Int32) (L' : Nat → Nat), bkF h' (rc - 1) fc nt nk lf' (rmv k9 rc ra) (rmv k9 rc V) kw tw pf fr ∧ (∀ k, k < 10 → lf' k = nI (L' k)) ∧ (∀ k, L' k ≤ 9) ∧ Sat (rmv k9 rc V) (rc - 1) L' ∧ ∀ S, Sat (rmv k9 rc V) (rc - 1) S → ∀ k, k < 10 → L' k ≤ S k) 0 0) 0 0 9 [(0, .ref 3), (1, .int (nI k9)), (2, .ref (ra k9)), (3, .int (nI i))] [] (xup h 11 (.inl (4, 21, .inr (.inr (shf k9 i rf ra))))) := by
  intro k
  induction k with
  | zero => exact fun i q0 q1 h2 => absurd h2 (by omega)
  | succ k ih =>
    intro i q0 q1 h2
    refine x_iload_n dX0_removeRule_9 rfl ?_
    refine x_aload_n dX0_removeRule_10 rfl ?_
    refine x_get lf_X0_42 dX0_removeRule_11 ((xup_ne (by decide)).trans b.1.1) rfl ?_
    refine x_iconst (v := 1) dX0_removeRule_14 (by decide) ?_
    refine x_isub dX0_removeRule_15 ?_
    refine x_top (y := nI (rc - 1)) (pk_sub (a := rc) (b := 1) (by omega)) ?_
    refine x_icmp_ge 39 dX0_removeRule_16 (by decide) (fun c_16 => ?_) (fun c_16 => ?_)
    · rw [nI_leI (by omega) (by omega)] at c_16
      have e9 : i = rc - 1 := by omega
      subst e9
      obtain ⟨ρ9, hρ9, hra9⟩ := hra k9 (by omega)
      refine x_aload_n dX0_removeRule_39 rfl ?_
      refine x_dup dX0_removeRule_40 rfl ?_
      refine x_get lf_X0_42 dX0_removeRule_41 ((xup_ne (by decide)).trans b.1.1) rfl ?_
      refine x_iconst (v := 1) dX0_removeRule_44 (by decide) ?_
      refine x_isub dX0_removeRule_45 ?_
      refine x_top (y := nI (rc - 1)) (pk_sub (a := rc) (b := 1) (by omega)) ?_
      refine x_put [.ref 4, .ref 6, .ref 8, .ref 9, .ref 11, .int (nI (rc - 1)), .ref 12, .int fc] lf_X0_42 dX0_removeRule_46 ((xup_ne (by decide)).trans b.1.1) (Nat.le_of_ble_eq_true rfl) rfl rfl rfl ?_
      refine x_aload_n dX0_removeRule_49 rfl ?_
      refine x_get lf_X0_34 dX0_removeRule_50 (xup_self _ _ _) rfl ?_
      refine x_aload_n dX0_removeRule_53 rfl ?_
      refine x_get lf_X0_42 dX0_removeRule_54 (xup_self _ _ _) rfl ?_
      refine x_aload_n dX0_removeRule_57 rfl ?_
      refine x_aastN (ci := 8) (j := rc - 1) ((xup_ne (by decide)).trans (xup_self _ _ _)) rfl ((xup_ne (by omega)).trans ((xup_ne (by omega)).trans (hrl k9 (by omega)).1)) rfl rfl (by omega) (by decide) dX0_removeRule_58 ?_
      refine x_aload_n dX0_removeRule_59 rfl ?_
      refine x_get lf_X0_28 dX0_removeRule_60 ((xup_ne (by decide)).trans (xup_self _ _ _)) rfl ?_
      refine x_aload_n dX0_removeRule_63 rfl ?_
      refine x_get lf_X0_34 dX0_removeRule_64 ((xup_ne (by decide)).trans (xup_self _ _ _)) rfl ?_
      refine x_aload_n dX0_removeRule_67 rfl ?_
      refine x_get lf_X0_42 dX0_removeRule_68 ((xup_ne (by decide)).trans (xup_self _ _ _)) rfl ?_
      have hf : xfr h (xup (xup (xup h 11 (.inl (4, 21, .inr (.inr (shf k9 (rc - 1) rf ra))))) 3 (.inr (0, [.ref 4, .ref 6, .ref 8, .ref 9, .ref 11, .int (nI (rc - 1)), .ref 12, .int fc]))) 11 (.inl (4, 21, .inr (.inr (va_up (shf k9 (rc - 1) rf ra) (rc - 1) (some (ra k9))))))) [3, 10, 11] := ((((xfr_rf _ _).up (by simp)).up (by simp)).up (by simp))
      have hrl2 : ∀ j, j < 21 → rlV (xup (xup (xup h 11 (.inl (4, 21, .inr (.inr (shf k9 (rc - 1) rf ra))))) 3 (.inr (0, [.ref 4, .ref 6, .ref 8, .ref 9, .ref 11, .int (nI (rc - 1)), .ref 12, .int fc]))) 11 (.inl (4, 21, .inr (.inr (va_up (shf k9 (rc - 1) rf ra) (rc - 1) (some (ra k9))))))) (rmv k9 rc ra j) (rmv k9 rc V j) := fun j hj => by
          obtain ⟨i, i1, i2, -⟩ := rmv_ix hkc hrc ra hj
          rw [i2 ra, i2 V]
          exact rlV_fr (hrl i i1) hf (hra i i1) (by decide)
      have hrs2 : rsAt (xup (xup (xup h 11 (.inl (4, 21, .inr (.inr (shf k9 (rc - 1) rf ra))))) 3 (.inr (0, [.ref 4, .ref 6, .ref 8, .ref 9, .ref 11, .int (nI (rc - 1)), .ref 12, .int fc]))) 11 (.inl (4, 21, .inr (.inr (va_up (shf k9 (rc - 1) rf ra) (rc - 1) (some (ra k9))))))) 11 (rmv k9 rc ra) (rmv k9 rc V) := ⟨⟨_, (xup_self _ _ _), rmv_at hkc hrc hrf⟩, hrl2⟩
      refine x_callV (As := [.ref 11, .int (nI (rc - 1))]) (st := []) lv_X0_59 (k_X4_settle ((xup_ne (by decide)).trans ((xup_ne (by decide)).trans ((xup_ne (by decide)).trans b.1.2.2.2.1))) ((xup_ne (by decide)).trans ((xup_ne (by decide)).trans ((xup_ne (by decide)).trans b.1.2.2.2.2.1))) hrs2 (by omega) (fun r hr => ?_)) dX0_removeRule_71 ((xup_ne (by decide)).trans ((xup_ne (by decide)).trans ((xup_ne (by decide)).trans b.1.2.2.2.1))) rfl rfl (Nat.le_of_ble_eq_true rfl) ⟨by decide, by decide⟩ ⟨by decide, by decide⟩ (fun v9 h9 q => ?_) (fun _ _ _ _ _ q => by obtain ⟨_, _, _, q, _⟩ := q; cases q)
      · obtain ⟨i, i1, i2, i3⟩ := rmv_ix hkc hrc V (j := r) (by omega)
        rw [i2 V]
        exact okRl_okK (hV i (i3 (by omega)))
      · obtain ⟨b9, lf', L', ev, eh, l1, l2, l3, l4⟩ := q
        rw [eh]
        cases ev
        refine x_pop dX0_removeRule_74 rfl ?_
        have hb9 : b9 = true := by
            cases e : b9 with
            | true => rfl
            | false => exact absurd ⟨L, rmv_sat hkc hrc hS⟩ (l4 e)
        have hf2 : xfr h (xup (xup (xup (xup h 11 (.inl (4, 21, .inr (.inr (shf k9 (rc - 1) rf ra))))) 3 (.inr (0, [.ref 4, .ref 6, .ref 8, .ref 9, .ref 11, .int (nI (rc - 1)), .ref 12, .int fc]))) 11 (.inl (4, 21, .inr (.inr (va_up (shf k9 (rc - 1) rf ra) (rc - 1) (some (ra k9))))))) 10 (.inl (0, 10, .inl (lf')))) [3, 10, 11] := hf.up (by decide)
        refine x_vret dX0_removeRule_75 rfl (Nat.le_refl _) (Nat.le_refl _) ⟨rfl, hf2, lf', L', ⟨⟨((xup_ne (by decide)).trans ((xup_ne (by decide)).trans (xup_self _ _ _))), hf2.at b.1.2.1 (by decide), hf2.at b.1.2.2.1 (by decide), hf2.at b.1.2.2.2.1 (by decide), (xup_self _ _ _), ⟨⟨_, ((xup_ne (by decide)).trans (xup_self _ _ _)), rmv_at hkc hrc hrf⟩, fun j hj => ?_⟩, fun j hj => ?_⟩, hf2.at b.2.1 (by decide), hf2.at b.2.2.1 (by decide), hf2.at b.2.2.2.1 (by decide), hf2.at b.2.2.2.2.1 (by decide), rmv_inj hkc hrc b.2.2.2.2.2⟩, l1, l2, (l3 hb9).1, (l3 hb9).2⟩
        · exact rlV_fr (hrl2 j hj) ((xfr_rf _ [10]).up (by decide)) (by obtain ⟨i, i1, i2, -⟩ := rmv_ix hkc hrc ra hj; rw [i2 ra]; exact hra i i1) (by decide)
        · obtain ⟨i, i1, i2, -⟩ := rmv_ix hkc hrc ra hj
          rw [i2 ra]; exact hra i i1
    · rw [nI_leI (by omega) (by omega)] at c_16
      obtain ⟨ρ9, hρ9, hra9⟩ := hra (i + 1) (by omega)
      refine x_aload_n dX0_removeRule_19 rfl ?_
      refine x_get lf_X0_34 dX0_removeRule_20 ((xup_ne (by decide)).trans b.1.1) rfl ?_
      refine x_iload_n dX0_removeRule_23 rfl ?_
      refine x_aload_n dX0_removeRule_24 rfl ?_
      refine x_get lf_X0_34 dX0_removeRule_25 ((xup_ne (by decide)).trans b.1.1) rfl ?_
      refine x_iload_n dX0_removeRule_28 rfl ?_
      refine x_iconst (v := 1) dX0_removeRule_29 (by decide) ?_
      refine x_iadd dX0_removeRule_30 ?_
      refine x_top (y := nI (i + 1)) (nI_add i 1) ?_
      refine x_aaldN (b := ra (i + 1)) (j := i + 1) (xup_self _ _ _) rfl rfl (by omega) (by decide) ((shf_at (by omega)).trans (hrf (i + 1) (by omega))) dX0_removeRule_31 ?_
      refine x_aastN (ci := 8) (j := i) (xup_self _ _ _) rfl ((xup_ne (by omega)).trans (hrl (i + 1) (by omega)).1) rfl rfl (by omega) (by decide) dX0_removeRule_32 ?_
      refine x_iinc (v := nI (i + 1)) [(0, .ref 3), (1, .int (nI k9)), (2, .ref (ra k9)), (3, .int (nI (i + 1)))] dX0_removeRule_33 rfl (nI_add i 1) (by decide) rfl rfl ?_
      refine x_goto 9 dX0_removeRule_36 (by decide) ?_
      exact x_heap (by rw [xup_up, shf_s (by omega)]) (x_ls _ [0, 1, 2, 3] rfl (ih (i + 1) (by omega) (by omega) (by omega)))
set_option maxRecDepth 100000 in
set_option maxHeartbeats 4000000 in
theorem k_X0_removeRule {G : xG} {h : xHp} {rc : Nat} {fc : Int32} {nt nk : Nat} {lf : Nat → Int32} {ra : Nat → Nat} {V : Nat → RV} {kw tw : Nat → Int64} {pf fr : Nat → Int32} (b : bkF h rc fc nt nk lf ra V kw tw pf fr) {k9 : Nat} {L : Nat → Nat} (hkc : k9 < rc) (hrc : rc ≤ 20) (hV : ∀ r, r < rc → okRl nt (V r)) (hS : Sat V rc L) : MX G mX0_removeRule 3 0 0 [.ref 3, .int (nI k9)] h (fun o h' => o = .inl none ∧ xfr h h' [3, 10, 11] ∧ ∃ (lf' : Nat → Int32) (L' : Nat → Nat), bkF h' (rc - 1) fc nt nk lf' (rmv k9 rc ra) (rmv k9 rc V) kw tw pf fr ∧ (∀ k, k < 10 → lf' k = nI (L' k)) ∧ (∀ k, L' k ≤ 9) ∧ Sat (rmv k9 rc V) (rc - 1) L' ∧ ∀ S, Sat (rmv k9 rc V) (rc - 1) S → ∀ k, k < 10 → L' k ≤ S k) := by
  obtain ⟨⟨⟨rf, hrs1, hrf⟩, hrl⟩, hra⟩ := b.1.2.2.2.2.2
  refine MX.of [(0, .ref 3), (1, .int (nI k9))] (by decide) rfl (Nat.le_of_ble_eq_true rfl) rfl ?_
  refine x_aload_n dX0_removeRule_0 rfl ?_
  refine x_get lf_X0_34 dX0_removeRule_1 b.1.1 rfl ?_
  refine x_iload_n dX0_removeRule_4 rfl ?_
  refine x_aaldN (b := ra k9) (j := k9) hrs1 rfl rfl (by omega) (by decide) (hrf k9 (by omega)) dX0_removeRule_5 ?_
  refine x_astore_n [(0, .ref 3), (1, .int (nI k9)), (2, .ref (ra k9))] dX0_removeRule_6 (by decide) rfl rfl ?_
  refine x_iload_n dX0_removeRule_7 rfl ?_
  refine x_istore_n [(0, .ref 3), (1, .int (nI k9)), (2, .ref (ra k9)), (3, .int (nI k9))] dX0_removeRule_8 (by decide) rfl rfl ?_
  refine x_heap (h' := xup h 11 (.inl (4, 21, .inr (.inr (shf k9 k9 rf ra))))) (by rw [shf_0, xup_id hrs1]) ?_
  exact l_X0_removeRule b hkc hrc hV hS hrs1 hrf hrl hra rc k9 (by omega) (by omega) (by omega)
set_option maxRecDepth 100000 in
set_option maxHeartbeats 4000000 in
theorem k_X11_drop {G : xG} {h : xHp} {tsz : Nat} {tp : Nat → Int32} {rc : Nat} {fc : Int32} {nt : Nat} {nk : Nat} {lf : Nat → Int32} {ra : Nat → Nat} {V : Nat → RV} {kw : Nat → Int64} {tw : Nat → Int64} {pf : Nat → Int32} {fr : Nat → Int32} {cl : Int32} {flt : Int32} {plc : Int32} {s : Nat → Option Nat} {cn : Nat} {ct : Nat → Int32} {rn : Nat} {rs : Nat → Int32} {tr : Int32} (X : XT h tsz tp rc fc nt nk lf ra V kw tw pf fr cl flt plc s cn ct rn rs tr) {pc : Nat → Nat} {L : Nat → Nat} {S : Nat → Bool} (c : cOk rc nt nk V pf pc lf L fr S) {k : Int32} : MX G mX11_drop 4 0 0 [.ref 1, .int k] h (fun o h' => (∃ ρ, ρ < rc ∧ k = nI ρ ∧ o = .inl (some (.int 1)) ∧ xKp h h' ∧ ∃ (lf' : Nat → Int32) (L' : Nat → Nat), (∀ k, k < 10 → lf' k = nI (L' k)) ∧ (∀ k, L' k ≤ 9) ∧ Sat (rmv ρ rc V) (rc - 1) L' ∧ (∀ S, Sat (rmv ρ rc V) (rc - 1) S → ∀ k, k < 10 → L' k ≤ S k) ∧ ∀ sx, XT h' tsz tp (rc - 1) fc nt nk lf' (rmv ρ rc ra) (rmv ρ rc V) kw tw pf fr cl flt plc sx cn ct rn rs 0) ∨ (inR k rc = false ∧ o = .inl (some (.int 0)) ∧ xKp h h' ∧ XT h' tsz tp rc fc nt nk lf ra V kw tw pf fr cl flt plc s cn ct rn rs 1)) := by
  obtain ⟨ns, f, g, hst, x⟩ := X
  refine MX.of [(0, .ref 1), (1, .int k)] (by decide) rfl (Nat.le_of_ble_eq_true rfl) rfl ?_
  refine x_aload_n dX11_drop_0 rfl ?_
  refine x_get lf_X11_16 dX11_drop_1 x.c rfl ?_
  refine x_iload_n dX11_drop_4 rfl ?_
  refine x_callV (As := [.int k]) (st := []) lv_X11_147 (k_X0_hasRule x.b.1.1) dX11_drop_5 x.b.1.1 rfl rfl (Nat.le_of_ble_eq_true rfl) ⟨by decide, by decide⟩ ⟨by decide, by decide⟩ (fun v hq9 q => ?_) (fun _ _ _ _ _ q => by cases q.1)
  obtain ⟨ev, eh⟩ := q
  rw [eh]
  cases ev
  refine x_if_ne 18 dX11_drop_8 (by decide) (fun c_8 => ?_) (fun c_8 => ?_)
  · have c_8 := bi_t c_8
    obtain ⟨r9, hr9, rfl⟩ := inR_of c_8 (by have := c.1.2.2; omega)
    refine x_aload_n dX11_drop_18 rfl ?_
    refine x_get lf_X11_16 dX11_drop_19 x.c rfl ?_
    refine x_iload_n dX11_drop_22 rfl ?_
    refine x_callV (As := [.int (nI r9)]) (st := []) lv_X11_150 (k_X0_removeRule x.b hr9 c.1.2.2 c.2.2.1 c.2.2.2.2.1) dX11_drop_23 x.b.1.1 rfl rfl (Nat.le_of_ble_eq_true rfl) ⟨by decide, by decide⟩ ⟨by decide, by decide⟩ (fun v1 h1 q => ?_) (fun _ _ _ _ _ q => by cases q.1)
    obtain ⟨ev, w1, lf', L', b1, l1, l2, l3, l4⟩ := q
    cases ev
    refine x_aload_n dX11_drop_26 rfl ?_
    refine x_iconst (v := 0) dX11_drop_27 (by decide) ?_
    refine x_put [.ref 2, .int (nI tsz), .ref 3, .ref 181, .ref 187, .ref 190, .ref 192, .int 0, .ref 196, .ref 200, .ref 204, .int (nI rn), .int tr] lf_X11_85 dX11_drop_28 (w1.at x.c (by decide)) (Nat.le_of_ble_eq_true rfl) rfl rfl rfl ?_
    refine x_aload_n dX11_drop_31 rfl ?_
    refine x_iconst (v := 0) dX11_drop_32 (by decide) ?_
    refine x_put [.ref 2, .int (nI tsz), .ref 3, .ref 181, .ref 187, .ref 190, .ref 192, .int 0, .ref 196, .ref 200, .ref 204, .int (nI rn), .int 0] lf_X11_89 dX11_drop_33 (xup_self _ _ _) (Nat.le_of_ble_eq_true rfl) rfl rfl rfl ?_
    refine x_iconst (v := 1) dX11_drop_36 (by decide) ?_
    have hf : xfr h (xup (xup h1 1 (.inr (11, [.ref 2, .int (nI tsz), .ref 3, .ref 181, .ref 187, .ref 190, .ref 192, .int 0, .ref 196, .ref 200, .ref 204, .int (nI rn), .int tr]))) 1 (.inr (11, [.ref 2, .int (nI tsz), .ref 3, .ref 181, .ref 187, .ref 190, .ref 192, .int 0, .ref 196, .ref 200, .ref 204, .int (nI rn), .int 0]))) [1, 3, 10, 11] := ((w1.wd (by decide)).up (by decide)).up (by decide)
    have hf1 : xfr h1 (xup (xup h1 1 (.inr (11, [.ref 2, .int (nI tsz), .ref 3, .ref 181, .ref 187, .ref 190, .ref 192, .int 0, .ref 196, .ref 200, .ref 204, .int (nI rn), .int tr]))) 1 (.inr (11, [.ref 2, .int (nI tsz), .ref 3, .ref 181, .ref 187, .ref 190, .ref 192, .int 0, .ref 196, .ref 200, .ref 204, .int (nI rn), .int 0]))) [1] := (((xfr_rf _ _).up (by simp)).up (by simp))
    exact x_iret dX11_drop_37 rfl rfl (Nat.le_refl _) (Nat.le_refl _) (Or.inl ⟨r9, hr9, rfl, rfl, xKp.of hf (by decide), lf', L', l1, l2, l3, l4, fun sx => ⟨false, f, g, fun z => (by cases z), ⟨(by rw [hf.1]; exact x.n), ((xup_self _ _ _)), (hf.at x.t (by decide)), (b1.kp hf1 (by decide)), (x.r.kp hf (by decide)), (jnI_kp x.j hf (by decide)), (x.g.kp hf (by decide)), (md_kp x.m hf (by decide)), (x.s.kp hf (by decide)), (x.k.kp hf (by decide)), (hf.at x.e (by decide))⟩⟩⟩)
  · have c_8 := bi_f c_8
    refine x_aload_n dX11_drop_11 rfl ?_
    refine x_iconst (v := 1) dX11_drop_12 (by decide) ?_
    refine x_put [.ref 2, .int (nI tsz), .ref 3, .ref 181, .ref 187, .ref 190, .ref 192, .int (bi ns), .ref 196, .ref 200, .ref 204, .int (nI rn), .int 1] lf_X11_89 dX11_drop_13 x.c (Nat.le_of_ble_eq_true rfl) rfl rfl rfl ?_
    refine x_iconst (v := 0) dX11_drop_16 (by decide) ?_
    have hf : xfr h (xup h 1 (.inr (11, [.ref 2, .int (nI tsz), .ref 3, .ref 181, .ref 187, .ref 190, .ref 192, .int (bi ns), .ref 196, .ref 200, .ref 204, .int (nI rn), .int 1]))) [1] := ((xfr_rf _ _).up (by simp))
    exact x_iret dX11_drop_17 rfl rfl (Nat.le_refl _) (Nat.le_refl _) (Or.inr ⟨c_8, rfl, xKp.of hf (by decide), ns, f, g, hst, ⟨(by rw [hf.1]; exact x.n), ((xup_self _ _ _)), (hf.at x.t (by decide)), (x.b.kp hf (by decide)), (x.r.kp hf (by decide)), (jnI_kp x.j hf (by decide)), (x.g.kp hf (by decide)), (md_kp x.m hf (by decide)), (x.s.kp hf (by decide)), (x.k.kp hf (by decide)), (hf.at x.e (by decide))⟩⟩)
