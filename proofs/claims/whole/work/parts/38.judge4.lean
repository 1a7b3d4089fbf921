/-! RuleCourt$Judge: where its things lie; isDue -/
def bkS (h : xHp) (rc : Nat) (fc : Int32) (nt nk : Nat) (lf : Nat → Int32) (ra : Nat → Nat) (V : Nat → RV) : Prop :=
  h.1 3 = some (bC 4 6 8 9 11 rc 12 fc) ∧ h.1 4 = some (.inr (6, [.ref 5, .int (nI nk)])) ∧ h.1 6 = some (.inr (6, [.ref 7, .int (nI nt)])) ∧ h.1 9 = some (.inr (4, [.ref 10])) ∧ h.1 10 = some (.inl (0, 10, .inl lf)) ∧ rsAt h 11 ra V ∧ ∀ j, j < 21 → okRa (ra j)
theorem bkS.kept {h h' : xHp} {L : List Nat} {rc nt nk : Nat} {fc : Int32} {lf : Nat → Int32} {ra : Nat → Nat} {V : Nat → RV} (hb : bkS h rc fc nt nk lf ra V) (hf : xfr h h' L) (hL : ∀ q ∈ L, 187 ≤ q) : bkS h' rc fc nt nk lf ra V := by
  have hno : ∀ q, q < 187 → q ∉ L := fun q hq z => absurd (hL q z) (by omega)
  obtain ⟨h1, h2, h3, h4, h5, ⟨⟨rf, h6, h7⟩, h8⟩, h9⟩ := hb
  refine ⟨hf.at h1 (hno _ (by omega)), hf.at h2 (hno _ (by omega)), hf.at h3 (hno _ (by omega)), hf.at h4 (hno _ (by omega)), hf.at h5 (hno _ (by omega)), ⟨⟨rf, hf.at h6 (hno _ (by omega)), h7⟩, fun j hj => ?_⟩, h9⟩
  obtain ⟨ρ, r1, r2⟩ := h9 j hj
  obtain ⟨c1, c2, c3, c4, c5⟩ := h8 j hj
  rw [r2] at c1 c2 c3 c4 c5 ⊢
  exact ⟨hf.at c1 (hno _ (by omega)), hf.at c2 (hno _ (by omega)), hf.at c3 (hno _ (by omega)), hf.at c4 (hno _ (by omega)), fun i hi => hf.at (c5 i hi) (hno _ (by omega))⟩
theorem bkS.jn {h : xHp} {rc nt nk : Nat} {fc : Int32} {lf : Nat → Int32} {ra : Nat → Nat} {V : Nat → RV} (hb : bkS h rc fc nt nk lf ra V) {r : Nat} (hr : r < 21) : jnSt h (ra r) rc fc nt (V r) := ⟨hb.1, hb.2.2.1, hb.2.2.2.2.2.1.2 r hr⟩
/-- is a RULE due? -/
def dueP (v : RV) (q : Int32) (c : Nat → Int32) : Prop := q = -1 ∨ ∃ j, j < v.2.2.1 ∧ v.2.1 j 0 = 0 ∧ q < c (rvK v j)
set_option maxRecDepth 100000 in
set_option maxHeartbeats 4000000 in
theorem l_X3_isDue {G : xG} {h : xHp} {rc nt nk md r : Nat} {fc : Int32} {lf rn : Nat → Int32} {ra : Nat → Nat} {V : Nat → RV} {cs : Bool} {σ : JS} (hB : bkS h rc fc nt nk lf ra V) (hG : h.1 190 = some (.inr (3, [.ref 3, .ref 187, .ref 191]))) (hN : h.1 191 = some (.inl (0, 20, .inl rn))) (hM : mdAt h md (md + 1) (md + 2) (md + 3) cs σ.1 σ.2.1 σ.2.2.1 σ.2.2.2.1) (hv : okRl nt (V r)) (hr : r < 20) (c_7 : ¬ rn r = -1) : ∀ (k i : Nat), i ≤ (V r).2.2.1 → (V r).2.2.1 + 1 ≤ i + k → (∀ j, j < i → (V r).2.1 j 0 = 0 → ¬ rn r < σ.2.2.1 (rvK (V r) j)) → Wx G mX3_isDue (xRm 1 0 0) (xF G (xAsk (dueP (V r) (rn r) σ.2.2.1) h) 0 0) 0 0 25 [(0, .ref 190), (1, .int (nI r)), (2, .ref md), (3, .ref (ra r)), (4, .int (nI i))] [] h := by
  obtain ⟨⟨rf, hrs1, hrf⟩, hrl⟩ := hB.2.2.2.2.2.1
  have hv4 := hv.1
  intro k
  induction k with
  | zero => exact fun i h1 h2 => absurd h2 (by omega)
  | succ k ih =>
    intro i hk hk9 hi
    refine x_iload dX3_isDue_25 rfl ?_
    refine x_aload_n dX3_isDue_27 rfl ?_
    refine x_get lf_X3_86 dX3_isDue_28 (hrl r (by omega)).1 rfl ?_
    refine x_icmp_ge 78 dX3_isDue_31 (by decide) (fun c_31 => ?_) (fun c_31 => ?_)
    · rw [nI_leI (by omega) (by omega)] at c_31
      refine x_iconst (v := 0) dX3_isDue_78 (by decide) ?_
      exact x_iret dX3_isDue_79 rfl rfl (Nat.le_refl _) (Nat.le_refl _) (xAsk_f (fun q => q.elim c_7 (fun ⟨j, z1, z2, z3⟩ => hi j (by omega) z2 z3)))
    · rw [nI_leI (by omega) (by omega)] at c_31
      refine x_aload_n dX3_isDue_34 rfl ?_
      refine x_get lf_X3_89 dX3_isDue_35 (hrl r (by omega)).1 rfl ?_
      refine x_iload dX3_isDue_38 rfl ?_
      refine x_aaldN (b := ra r + 4 + i) (j := i) (hrl r (by omega)).2.2.1 rfl rfl (by omega) (by decide) (rTs_at (by omega)) dX3_isDue_40 ?_
      refine x_astore [(0, .ref 190), (1, .int (nI r)), (2, .ref md), (3, .ref (ra r)), (4, .int (nI i)), (5, .ref (ra r + 4 + i))] dX3_isDue_41 (by decide) rfl rfl ?_
      refine x_aload dX3_isDue_43 rfl ?_
      refine x_get lf_X3_93 dX3_isDue_45 ((hrl r (by omega)).2.2.2.2 i (by omega)) rfl ?_
      refine x_if_ne 72 dX3_isDue_48 (by decide) (fun c_48 => ?_) (fun c_48 => ?_)
      · refine x_iinc (v := nI (i + 1)) [(0, .ref 190), (1, .int (nI r)), (2, .ref md), (3, .ref (ra r)), (4, .int (nI (i + 1))), (5, .ref (ra r + 4 + i))] dX3_isDue_72 rfl (nI_add i 1) (by decide) rfl rfl ?_
        refine x_goto 25 dX3_isDue_75 (by decide) ?_
        refine x_ls _ [0, 1, 2, 3, 4] rfl (ih (i + 1) (by omega) (by omega) (fun j hj z1 z2 => ?_))
        rcases Nat.lt_or_ge j i with z | z
        · exact hi j z z1 z2
        · have z : j = i := by omega
          subst z
          first | exact c_48 z1 | exact absurd z2 (Int32.not_lt.mpr c_67)
      · obtain ⟨hk1, hk2⟩ := (hv.2.1 i (by omega)).2.1 (by rw [c_48]; decide)
        have hk2 : rvK (V r) i < 10 := hk2
        refine x_aload_n dX3_isDue_51 rfl ?_
        refine x_get lf_X3_96 dX3_isDue_52 hM.1 rfl ?_
        refine x_aload dX3_isDue_55 rfl ?_
        refine x_get lf_X3_55 dX3_isDue_57 ((hrl r (by omega)).2.2.2.2 i (by omega)) rfl ?_
        refine x_top (y := nI (rvK (V r) i)) hk1 ?_
        refine x_ialdN (j := rvK (V r) i) hM.2.2.2 rfl (by omega) (by decide) dX3_isDue_60 ?_
        refine x_aload_n dX3_isDue_61 rfl ?_
        refine x_get lf_X3_9 dX3_isDue_62 hG rfl ?_
        refine x_iload_n dX3_isDue_65 rfl ?_
        refine x_ialdN (j := r) hN rfl (by omega) (by decide) dX3_isDue_66 ?_
        refine x_icmp_le 72 dX3_isDue_67 (by decide) (fun c_67 => ?_) (fun c_67 => ?_)
        · refine x_iinc (v := nI (i + 1)) [(0, .ref 190), (1, .int (nI r)), (2, .ref md), (3, .ref (ra r)), (4, .int (nI (i + 1))), (5, .ref (ra r + 4 + i))] dX3_isDue_72 rfl (nI_add i 1) (by decide) rfl rfl ?_
          refine x_goto 25 dX3_isDue_75 (by decide) ?_
          refine x_ls _ [0, 1, 2, 3, 4] rfl (ih (i + 1) (by omega) (by omega) (fun j hj z1 z2 => ?_))
          rcases Nat.lt_or_ge j i with z | z
          · exact hi j z z1 z2
          · have z : j = i := by omega
            subst z
            first | exact c_48 z1 | exact absurd z2 (Int32.not_lt.mpr c_67)
        · refine x_iconst (v := 1) dX3_isDue_70 (by decide) ?_
          exact x_iret dX3_isDue_71 rfl rfl (Nat.le_refl _) (Nat.le_refl _) (xAsk_t (Or.inr ⟨i, by omega, c_48, Int32.not_le.mp c_67⟩))
set_option maxRecDepth 100000 in
set_option maxHeartbeats 4000000 in
theorem k_X3_isDue {G : xG} {h : xHp} {rc nt nk md r : Nat} {fc : Int32} {lf rn : Nat → Int32} {ra : Nat → Nat} {V : Nat → RV} {cs : Bool} {σ : JS} (hB : bkS h rc fc nt nk lf ra V) (hG : h.1 190 = some (.inr (3, [.ref 3, .ref 187, .ref 191]))) (hN : h.1 191 = some (.inl (0, 20, .inl rn))) (hM : mdAt h md (md + 1) (md + 2) (md + 3) cs σ.1 σ.2.1 σ.2.2.1 σ.2.2.2.1) (hv : okRl nt (V r)) (hr : r < 20) : MX G mX3_isDue 1 0 0 [.ref 190, .int (nI r), .ref md] h (xAsk (dueP (V r) (rn r) σ.2.2.1) h) := by
  obtain ⟨⟨rf, hrs1, hrf⟩, hrl⟩ := hB.2.2.2.2.2.1
  refine MX.of [(0, .ref 190), (1, .int (nI r)), (2, .ref md)] (by decide) rfl (Nat.le_of_ble_eq_true rfl) rfl ?_
  refine x_aload_n dX3_isDue_0 rfl ?_
  refine x_get lf_X3_9 dX3_isDue_1 hG rfl ?_
  refine x_iload_n dX3_isDue_4 rfl ?_
  refine x_ialdN (j := r) hN rfl (by omega) (by decide) dX3_isDue_5 ?_
  refine x_iconst (v := (-1)) dX3_isDue_6 (by decide) ?_
  refine x_icmp_ne 12 dX3_isDue_7 (by decide) (fun c_7 => ?_) (fun c_7 => ?_)
  · refine x_aload_n dX3_isDue_12 rfl ?_
    refine x_get lf_X3_15 dX3_isDue_13 hG rfl ?_
    refine x_get lf_X3_45 dX3_isDue_16 hB.1 rfl ?_
    refine x_iload_n dX3_isDue_19 rfl ?_
    refine x_aaldN (b := ra r) (j := r) hrs1 rfl rfl (by omega) (by decide) (hrf r (by omega)) dX3_isDue_20 ?_
    refine x_astore_n [(0, .ref 190), (1, .int (nI r)), (2, .ref md), (3, .ref (ra r))] dX3_isDue_21 (by decide) rfl rfl ?_
    refine x_iconst (v := 0) dX3_isDue_22 (by decide) ?_
    refine x_istore [(0, .ref 190), (1, .int (nI r)), (2, .ref md), (3, .ref (ra r)), (4, .int 0)] dX3_isDue_23 (by decide) rfl rfl ?_
    exact l_X3_isDue hB hG hN hM hv hr c_7 ((V r).2.2.1 + 1) 0 (by omega) (by omega) (fun j hj => absurd hj (by omega))
  · refine x_iconst (v := 1) dX3_isDue_10 (by decide) ?_
    exact x_iret dX3_isDue_11 rfl rfl (Nat.le_refl _) (Nat.le_refl _) (xAsk_t (Or.inl c_7))
